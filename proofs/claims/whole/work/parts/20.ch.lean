def chW (q : Nat → Nat) (k : Nat → ClassId) (B : Nat → Nat) (R : Nat → Nat) (sx : Nat) (pt : Nat) (rd : Nat) (wt : Int32) : va_W := [(q 7, .inr (2, [.ref (q 8), .ref (q 9), .int (nI sx), .int (nI pt), .int (nI rd), .int wt])), (q 8, .inl (k 0, 512, .inl (fun j => nI (B j)))), (q 9, .inl (k 0, 8, .inl (fun j => nI (R j))))]
def scW (q : Nat → Nat) (k : Nat → ClassId) (ln : Nat) (px : Nat → Nat) (cv : Nat) (co : Nat) (B : Nat → Nat) (R : Nat → Nat) (sx : Nat) (pt : Nat) (rd : Nat) (wt : Int32) : va_W := [(q 5, .inr (3, [.ref (q 7), .ref (q 6), .int (nI ln), .long (lN cv), .long (lN co)])), (q 6, .inl (k 0, 2048, .inl (fun j => nI (px j)))), (q 7, .inr (2, [.ref (q 8), .ref (q 9), .int (nI sx), .int (nI pt), .int (nI rd), .int wt])), (q 8, .inl (k 0, 512, .inl (fun j => nI (B j)))), (q 9, .inl (k 0, 8, .inl (fun j => nI (R j))))]
def scH (q : Nat → Nat) (k : Nat → ClassId) (ln : Nat) (px : Nat → Nat) (cv : Nat) (co : Nat) : va_W := [(q 5, .inr (3, [.ref (q 7), .ref (q 6), .int (nI ln), .long (lN cv), .long (lN co)])), (q 6, .inl (k 0, 2048, .inl (fun j => nI (px j))))]
set_option maxHeartbeats 4000000 in
set_option maxRecDepth 100000 in
theorem c_CH_byteAt (l : Launch) (D : va_G) (k : Nat → ClassId) (q : Nat → Nat) (B : Nat → Nat) (R : Nat → Nat) (sx : Nat) (pt : Nat) (rd : Nat) (wt : Int32) (n : Nat) (hn : n < 512) : ro_i l y_CH_byteAt b_CH_byteAt 2 (some .int) { frames := 0, cells := 0, slots := 0, locals := 0 } D (kT k) (chW q k B R sx pt rd wt) [.ref (q 7), .int (nI n)] (nI (B n)) := by
  refine ro_headi (by decide) (Nat.le_of_ble_eq_true rfl) ?_
  intro p e s m below meth c ls hx hb hr hlocks hml hown hts hP hK hl
  have hown : s.vm.findClass "SlotScreen$Chip" = some m.cls := hown
  have hl : lv_has ls 2 [(0, .ref (q 7)), (1, .int (nI n))] := hl
  refine lv_aload_n hx hb d_CH_byteAt_0 rfl (lv_at hl 0 rfl) ?_
  refine va_get (D := D) (ci := 2) (v := .ref (q 8)) (C := R_CH) (T := T_CH) (N := 6) hx hb hts in_CH hown hK hP 0 rfl rfl 0 (by decide) (hts _ w_52) (fun _ h9 => h9) rfl d_CH_byteAt_1 ?_
  refine lv_iload_n hx hb d_CH_byteAt_4 rfl (lv_at hl 1 rfl) ?_
  refine lv_sipush (v := nI 511) hx hb d_CH_byteAt_5 (by decide +kernel) ?_
  refine lv_iand hx hb d_CH_byteAt_8 ?_
  refine ss_rt (y := nI n) (by rw [pk_andN (by omega) 9 (by decide +kernel), Nat.mod_eq_of_lt (by omega)]) ?_
  refine va_iald hx hb hK hP 1 0 rfl rfl (vp_in_nI (by omega) (by omega)) d_CH_byteAt_9 ?_
  refine ss_rt (y := nI (B n)) (congrArg (fun z => nI (B z)) (nI_clamp (by omega))) ?_
  exact ro_reti hx hb hr hlocks d_CH_byteAt_10 (rfl)
set_option maxHeartbeats 4000000 in
set_option maxRecDepth 100000 in
theorem c_CH_register (l : Launch) (D : va_G) (k : Nat → ClassId) (q : Nat → Nat) (B : Nat → Nat) (R : Nat → Nat) (sx : Nat) (pt : Nat) (rd : Nat) (wt : Int32) (n : Nat) (hn : n < 8) : ro_i l y_CH_register b_CH_register 2 (some .int) { frames := 0, cells := 0, slots := 0, locals := 0 } D (kT k) (chW q k B R sx pt rd wt) [.ref (q 7), .int (nI n)] (nI (R n)) := by
  refine ro_headi (by decide) (Nat.le_of_ble_eq_true rfl) ?_
  intro p e s m below meth c ls hx hb hr hlocks hml hown hts hP hK hl
  have hown : s.vm.findClass "SlotScreen$Chip" = some m.cls := hown
  have hl : lv_has ls 2 [(0, .ref (q 7)), (1, .int (nI n))] := hl
  refine lv_aload_n hx hb d_CH_register_0 rfl (lv_at hl 0 rfl) ?_
  refine va_get (D := D) (ci := 2) (v := .ref (q 9)) (C := R_CH) (T := T_CH) (N := 6) hx hb hts in_CH hown hK hP 0 rfl rfl 1 (by decide) (hts _ w_53) (fun _ h9 => h9) rfl d_CH_register_1 ?_
  refine lv_iload_n hx hb d_CH_register_4 rfl (lv_at hl 1 rfl) ?_
  refine lv_bipush (v := nI 7) hx hb d_CH_register_5 (by decide +kernel) ?_
  refine lv_iand hx hb d_CH_register_7 ?_
  refine ss_rt (y := nI n) (by rw [pk_andN (by omega) 3 (by decide +kernel), Nat.mod_eq_of_lt (by omega)]) ?_
  refine va_iald hx hb hK hP 2 0 rfl rfl (vp_in_nI (by omega) (by omega)) d_CH_register_8 ?_
  refine ss_rt (y := nI (R n)) (congrArg (fun z => nI (R z)) (nI_clamp (by omega))) ?_
  exact ro_reti hx hb hr hlocks d_CH_register_9 (rfl)
set_option maxHeartbeats 4000000 in
set_option maxRecDepth 100000 in
theorem c_CH_valuer (l : Launch) (D : va_G) (k : Nat → ClassId) (q : Nat → Nat) (B : Nat → Nat) (R : Nat → Nat) (sx : Nat) (pt : Nat) (rd : Nat) (wt : Int32) (x : Nat) (hx9 : x < 8) : ro_i l y_CH_value b_CH_value 2 (some .int) { frames := 0, cells := 0, slots := 0, locals := 0 } D (kT k) (chW q k B R sx pt rd wt) [.ref (q 7), .int (nI x)] (nI (R x)) := by
  refine ro_headi (by decide) (Nat.le_of_ble_eq_true rfl) ?_
  intro p e s m below meth c ls hx hb hr hlocks hml hown hts hP hK hl
  have hown : s.vm.findClass "SlotScreen$Chip" = some m.cls := hown
  have hl : lv_has ls 2 [(0, .ref (q 7)), (1, .int (nI x))] := hl
  refine lv_iload_n hx hb d_CH_value_0 rfl (lv_at hl 1 rfl) ?_
  refine lv_if_lt (tgt := 17) hx hb d_CH_value_1 (by decide) (fun c1 => ?_) (fun c1 => ?_)
  · have c1 := (n_lt0 (by omega)).mp c1
    exfalso; omega
  · have c1 := mt (n_lt0 (by omega)).mpr c1
    refine lv_iload_n hx hb d_CH_value_4 rfl (lv_at hl 1 rfl) ?_
    refine lv_bipush (v := nI 8) hx hb d_CH_value_5 (by decide +kernel) ?_
    refine lv_icmp_ge (tgt := 17) hx hb d_CH_value_7 (by decide) (fun c2 => ?_) (fun c2 => ?_)
    · have c2 := (nI_leI (by omega) (by omega)).mp c2
      exfalso; omega
    · have c2 := mt (nI_leI (by omega) (by omega)).mpr c2
      refine lv_aload_n hx hb d_CH_value_10 rfl (lv_at hl 0 rfl) ?_
      refine va_get (D := D) (ci := 2) (v := .ref (q 9)) (C := R_CH) (T := T_CH) (N := 6) hx hb hts in_CH hown hK hP 0 rfl rfl 1 (by decide) (hts _ w_53) (fun _ h9 => h9) rfl d_CH_value_11 ?_
      refine lv_iload_n hx hb d_CH_value_14 rfl (lv_at hl 1 rfl) ?_
      refine va_iald hx hb hK hP 2 0 rfl rfl (vp_in_nI (by omega) (by omega)) d_CH_value_15 ?_
      refine ss_rt (y := nI (R x)) (congrArg (fun z => nI (R z)) (nI_clamp (by omega))) ?_
      exact ro_reti hx hb hr hlocks d_CH_value_16 (rfl)
set_option maxHeartbeats 4000000 in
set_option maxRecDepth 100000 in
theorem c_CH_value8 (l : Launch) (D : va_G) (k : Nat → ClassId) (q : Nat → Nat) (B : Nat → Nat) (R : Nat → Nat) (sx : Nat) (pt : Nat) (rd : Nat) (wt : Int32) : ro_i l y_CH_value b_CH_value 2 (some .int) { frames := 0, cells := 0, slots := 0, locals := 0 } D (kT k) (chW q k B R sx pt rd wt) [.ref (q 7), .int (nI 8)] (nI sx) := by
  refine ro_headi (by decide) (Nat.le_of_ble_eq_true rfl) ?_
  intro p e s m below meth c ls hx hb hr hlocks hml hown hts hP hK hl
  have hown : s.vm.findClass "SlotScreen$Chip" = some m.cls := hown
  have hl : lv_has ls 2 [(0, .ref (q 7)), (1, .int (nI 8))] := hl
  refine lv_iload_n hx hb d_CH_value_0 rfl (lv_at hl 1 rfl) ?_
  refine lv_if_lt (tgt := 17) hx hb d_CH_value_1 (by decide) (fun c1 => ?_) (fun c1 => ?_)
  · have c1 := (n_lt0 (by omega)).mp c1
    exfalso; omega
  · have c1 := mt (n_lt0 (by omega)).mpr c1
    refine lv_iload_n hx hb d_CH_value_4 rfl (lv_at hl 1 rfl) ?_
    refine lv_bipush (v := nI 8) hx hb d_CH_value_5 (by decide +kernel) ?_
    refine lv_icmp_ge (tgt := 17) hx hb d_CH_value_7 (by decide) (fun c2 => ?_) (fun c2 => ?_)
    · have c2 := (nI_leI (by omega) (by omega)).mp c2
      refine lv_iload_n hx hb d_CH_value_17 rfl (lv_at hl 1 rfl) ?_
      have t9 : (nI 8).toInt = ((8 : Nat) : Int) := nI_toInt (by omega)
      by_cases c4 : 8 = 8
      · refine lv_tableIn (off := 30) (tgt := 48) hx hb d_CH_value_18 (by rw [t9]; omega) (by rw [t9]; omega) (by rw [t9, show ((8 : Nat) : Int) = 8 from (by omega)]; decide) (by decide) ?_
        refine lv_aload_n hx hb d_CH_value_48 rfl (lv_at hl 0 rfl) ?_
        refine va_get (D := D) (ci := 2) (v := .int (nI sx)) (C := R_CH) (T := T_CH) (N := 6) hx hb hts in_CH hown hK hP 0 rfl rfl 2 (by decide) (hts _ w_54) (fun _ h9 => h9) rfl d_CH_value_49 ?_
        exact ro_reti hx hb hr hlocks d_CH_value_52 (rfl)
      exfalso; omega
    · have c2 := mt (nI_leI (by omega) (by omega)).mpr c2
      exfalso; omega
set_option maxHeartbeats 4000000 in
set_option maxRecDepth 100000 in
theorem c_CH_value9 (l : Launch) (D : va_G) (k : Nat → ClassId) (q : Nat → Nat) (B : Nat → Nat) (R : Nat → Nat) (sx : Nat) (pt : Nat) (rd : Nat) (wt : Int32) : ro_i l y_CH_value b_CH_value 2 (some .int) { frames := 0, cells := 0, slots := 0, locals := 0 } D (kT k) (chW q k B R sx pt rd wt) [.ref (q 7), .int (nI 9)] (nI pt) := by
  refine ro_headi (by decide) (Nat.le_of_ble_eq_true rfl) ?_
  intro p e s m below meth c ls hx hb hr hlocks hml hown hts hP hK hl
  have hown : s.vm.findClass "SlotScreen$Chip" = some m.cls := hown
  have hl : lv_has ls 2 [(0, .ref (q 7)), (1, .int (nI 9))] := hl
  refine lv_iload_n hx hb d_CH_value_0 rfl (lv_at hl 1 rfl) ?_
  refine lv_if_lt (tgt := 17) hx hb d_CH_value_1 (by decide) (fun c1 => ?_) (fun c1 => ?_)
  · have c1 := (n_lt0 (by omega)).mp c1
    exfalso; omega
  · have c1 := mt (n_lt0 (by omega)).mpr c1
    refine lv_iload_n hx hb d_CH_value_4 rfl (lv_at hl 1 rfl) ?_
    refine lv_bipush (v := nI 8) hx hb d_CH_value_5 (by decide +kernel) ?_
    refine lv_icmp_ge (tgt := 17) hx hb d_CH_value_7 (by decide) (fun c2 => ?_) (fun c2 => ?_)
    · have c2 := (nI_leI (by omega) (by omega)).mp c2
      refine lv_iload_n hx hb d_CH_value_17 rfl (lv_at hl 1 rfl) ?_
      have t9 : (nI 9).toInt = ((9 : Nat) : Int) := nI_toInt (by omega)
      by_cases c4 : 9 = 9
      · refine lv_tableIn (off := 35) (tgt := 53) hx hb d_CH_value_18 (by rw [t9]; omega) (by rw [t9]; omega) (by rw [t9, show ((9 : Nat) : Int) = 9 from (by omega)]; decide) (by decide) ?_
        refine lv_aload_n hx hb d_CH_value_53 rfl (lv_at hl 0 rfl) ?_
        refine va_get (D := D) (ci := 2) (v := .int (nI pt)) (C := R_CH) (T := T_CH) (N := 6) hx hb hts in_CH hown hK hP 0 rfl rfl 3 (by decide) (hts _ w_55) (fun _ h9 => h9) rfl d_CH_value_54 ?_
        exact ro_reti hx hb hr hlocks d_CH_value_57 (rfl)
      exfalso; omega
    · have c2 := mt (nI_leI (by omega) (by omega)).mpr c2
      exfalso; omega
set_option maxHeartbeats 4000000 in
set_option maxRecDepth 100000 in
theorem c_CH_value10 (l : Launch) (D : va_G) (k : Nat → ClassId) (q : Nat → Nat) (B : Nat → Nat) (R : Nat → Nat) (sx : Nat) (pt : Nat) (rd : Nat) (wt : Int32) : ro_i l y_CH_value b_CH_value 2 (some .int) { frames := 0, cells := 0, slots := 0, locals := 0 } D (kT k) (chW q k B R sx pt rd wt) [.ref (q 7), .int (nI 10)] (nI rd) := by
  refine ro_headi (by decide) (Nat.le_of_ble_eq_true rfl) ?_
  intro p e s m below meth c ls hx hb hr hlocks hml hown hts hP hK hl
  have hown : s.vm.findClass "SlotScreen$Chip" = some m.cls := hown
  have hl : lv_has ls 2 [(0, .ref (q 7)), (1, .int (nI 10))] := hl
  refine lv_iload_n hx hb d_CH_value_0 rfl (lv_at hl 1 rfl) ?_
  refine lv_if_lt (tgt := 17) hx hb d_CH_value_1 (by decide) (fun c1 => ?_) (fun c1 => ?_)
  · have c1 := (n_lt0 (by omega)).mp c1
    exfalso; omega
  · have c1 := mt (n_lt0 (by omega)).mpr c1
    refine lv_iload_n hx hb d_CH_value_4 rfl (lv_at hl 1 rfl) ?_
    refine lv_bipush (v := nI 8) hx hb d_CH_value_5 (by decide +kernel) ?_
    refine lv_icmp_ge (tgt := 17) hx hb d_CH_value_7 (by decide) (fun c2 => ?_) (fun c2 => ?_)
    · have c2 := (nI_leI (by omega) (by omega)).mp c2
      refine lv_iload_n hx hb d_CH_value_17 rfl (lv_at hl 1 rfl) ?_
      have t9 : (nI 10).toInt = ((10 : Nat) : Int) := nI_toInt (by omega)
      by_cases c4 : 10 = 10
      · refine lv_tableIn (off := 40) (tgt := 58) hx hb d_CH_value_18 (by rw [t9]; omega) (by rw [t9]; omega) (by rw [t9, show ((10 : Nat) : Int) = 10 from (by omega)]; decide) (by decide) ?_
        refine lv_aload_n hx hb d_CH_value_58 rfl (lv_at hl 0 rfl) ?_
        refine va_get (D := D) (ci := 2) (v := .int (nI rd)) (C := R_CH) (T := T_CH) (N := 6) hx hb hts in_CH hown hK hP 0 rfl rfl 4 (by decide) (hts _ w_56) (fun _ h9 => h9) rfl d_CH_value_59 ?_
        exact ro_reti hx hb hr hlocks d_CH_value_62 (rfl)
      exfalso; omega
    · have c2 := mt (nI_leI (by omega) (by omega)).mpr c2
      exfalso; omega
set_option maxHeartbeats 4000000 in
set_option maxRecDepth 100000 in
theorem c_CH_value11 (l : Launch) (D : va_G) (k : Nat → ClassId) (q : Nat → Nat) (B : Nat → Nat) (R : Nat → Nat) (sx : Nat) (pt : Nat) (rd : Nat) (wt : Int32) : ro_i l y_CH_value b_CH_value 2 (some .int) { frames := 0, cells := 0, slots := 0, locals := 0 } D (kT k) (chW q k B R sx pt rd wt) [.ref (q 7), .int (nI 11)] wt := by
  refine ro_headi (by decide) (Nat.le_of_ble_eq_true rfl) ?_
  intro p e s m below meth c ls hx hb hr hlocks hml hown hts hP hK hl
  have hown : s.vm.findClass "SlotScreen$Chip" = some m.cls := hown
  have hl : lv_has ls 2 [(0, .ref (q 7)), (1, .int (nI 11))] := hl
  refine lv_iload_n hx hb d_CH_value_0 rfl (lv_at hl 1 rfl) ?_
  refine lv_if_lt (tgt := 17) hx hb d_CH_value_1 (by decide) (fun c1 => ?_) (fun c1 => ?_)
  · have c1 := (n_lt0 (by omega)).mp c1
    exfalso; omega
  · have c1 := mt (n_lt0 (by omega)).mpr c1
    refine lv_iload_n hx hb d_CH_value_4 rfl (lv_at hl 1 rfl) ?_
    refine lv_bipush (v := nI 8) hx hb d_CH_value_5 (by decide +kernel) ?_
    refine lv_icmp_ge (tgt := 17) hx hb d_CH_value_7 (by decide) (fun c2 => ?_) (fun c2 => ?_)
    · have c2 := (nI_leI (by omega) (by omega)).mp c2
      refine lv_iload_n hx hb d_CH_value_17 rfl (lv_at hl 1 rfl) ?_
      have t9 : (nI 11).toInt = ((11 : Nat) : Int) := nI_toInt (by omega)
      by_cases c4 : 11 = 11
      · refine lv_tableIn (off := 45) (tgt := 63) hx hb d_CH_value_18 (by rw [t9]; omega) (by rw [t9]; omega) (by rw [t9, show ((11 : Nat) : Int) = 11 from (by omega)]; decide) (by decide) ?_
        refine lv_aload_n hx hb d_CH_value_63 rfl (lv_at hl 0 rfl) ?_
        refine va_get (D := D) (ci := 2) (v := .int wt) (C := R_CH) (T := T_CH) (N := 6) hx hb hts in_CH hown hK hP 0 rfl rfl 5 (by decide) (hts _ w_57) (fun _ h9 => h9) rfl d_CH_value_64 ?_
        exact ro_reti hx hb hr hlocks d_CH_value_67 (rfl)
      exfalso; omega
    · have c2 := mt (nI_leI (by omega) (by omega)).mpr c2
      exfalso; omega
set_option maxHeartbeats 4000000 in
set_option maxRecDepth 100000 in
theorem c_CH_valueb (l : Launch) (D : va_G) (k : Nat → ClassId) (q : Nat → Nat) (B : Nat → Nat) (R : Nat → Nat) (sx : Nat) (pt : Nat) (rd : Nat) (wt : Int32) (x : Int32) (hx9 : ¬ (0 ≤ x.toInt ∧ x.toInt ≤ 11)) : ro_i l y_CH_value b_CH_value 2 (some .int) { frames := 0, cells := 0, slots := 0, locals := 0 } D (kT k) (chW q k B R sx pt rd wt) [.ref (q 7), .int x] (-1) := by
  refine ro_headi (by decide) (Nat.le_of_ble_eq_true rfl) ?_
  intro p e s m below meth c ls hx hb hr hlocks hml hown hts hP hK hl
  have hown : s.vm.findClass "SlotScreen$Chip" = some m.cls := hown
  have hl : lv_has ls 2 [(0, .ref (q 7)), (1, .int x)] := hl
  refine lv_iload_n hx hb d_CH_value_0 rfl (lv_at hl 1 rfl) ?_
  refine lv_if_lt (tgt := 17) hx hb d_CH_value_1 (by decide) (fun c1 => ?_) (fun c1 => ?_)
  · have c1 := (z_lt0).mp c1
    refine lv_iload_n hx hb d_CH_value_17 rfl (lv_at hl 1 rfl) ?_
    have t9 : (x).toInt = (x).toInt := rfl
    refine lv_tableOut (tgt := 68) hx hb d_CH_value_18 (by rw [t9]; omega) (by decide) ?_
    refine lv_iconst (v := (-1)) hx hb d_CH_value_68 (by decide +kernel) ?_
    exact ro_reti hx hb hr hlocks d_CH_value_69 (rfl)
  · have c1 := mt (z_lt0).mpr c1
    refine lv_iload_n hx hb d_CH_value_4 rfl (lv_at hl 1 rfl) ?_
    refine lv_bipush (v := nI 8) hx hb d_CH_value_5 (by decide +kernel) ?_
    refine lv_icmp_ge (tgt := 17) hx hb d_CH_value_7 (by decide) (fun c3 => ?_) (fun c3 => ?_)
    · have c3 := (nz_le (by omega)).mp c3
      refine lv_iload_n hx hb d_CH_value_17 rfl (lv_at hl 1 rfl) ?_
      have t9 : (x).toInt = (x).toInt := rfl
      refine lv_tableOut (tgt := 68) hx hb d_CH_value_18 (by rw [t9]; omega) (by decide) ?_
      refine lv_iconst (v := (-1)) hx hb d_CH_value_68 (by decide +kernel) ?_
      exact ro_reti hx hb hr hlocks d_CH_value_69 (rfl)
    · have c3 := mt (nz_le (by omega)).mpr c3
      exfalso; omega
set_option maxHeartbeats 4000000 in
set_option maxRecDepth 100000 in
theorem c_CH_makeReady (l : Launch) (D : va_G) (k : Nat → ClassId) (q : Nat → Nat) (B : Nat → Nat) (R : Nat → Nat) (sx : Nat) (pt : Nat) (rd : Nat) (wt : Int32) (hpt : pt < 512) : rw_v l y_CH_makeReady b_CH_makeReady 1 none { frames := 0, cells := 0, slots := 0, locals := 0 } D (kT k) (chW q k B R sx pt rd wt) [.ref (q 7)] (fun (_ : Unit) => True) (fun (_ : Unit) => (chW q k B R sx ((pt + 1) % 512) (B pt) wt)) := by
  refine rw_headv (by decide) (Nat.le_of_ble_eq_true rfl) ?_
  intro p e s m below meth c ls A hx hb hr hlocks hml hown hts hK hA hP hD hS hl
  have hown : s.vm.findClass "SlotScreen$Chip" = some m.cls := hown
  have hl : lv_has ls 1 [(0, .ref (q 7))] := hl
  refine lv_aload_n hx hb d_CH_makeReady_0 rfl (lv_at hl 0 rfl) ?_
  refine lv_aload_n hx hb d_CH_makeReady_1 rfl (lv_at hl 0 rfl) ?_
  refine va_get (D := D) (ci := 2) (v := .ref (q 8)) (C := R_CH) (T := T_CH) (N := 6) hx hb hts in_CH hown hK hP 0 rfl rfl 0 (by decide) (hts _ w_52) (fun _ h9 => h9) rfl d_CH_makeReady_2 ?_
  refine lv_aload_n hx hb d_CH_makeReady_5 rfl (lv_at hl 0 rfl) ?_
  refine va_get (D := D) (ci := 2) (v := .int (nI pt)) (C := R_CH) (T := T_CH) (N := 6) hx hb hts in_CH hown hK hP 0 rfl rfl 3 (by decide) (hts _ w_55) (fun _ h9 => h9) rfl d_CH_makeReady_6 ?_
  refine va_iald hx hb hK hP 1 0 rfl rfl (vp_in_nI (by omega) (by omega)) d_CH_makeReady_9 ?_
  refine ss_rt (y := nI (B pt)) (congrArg (fun z => nI (B z)) (nI_clamp (by omega))) ?_
  refine va_put (D := D) (ci := 2) (v := .int (nI (B pt))) (ty := .int) (C := R_CH) (T := T_CH) (N := 6) hx hb hts in_CH t_CH o_CH n_CH hown hK hP hD hS 0 rfl rfl 4 (by decide) (hts _ w_56) (fun _ h9 => h9) rfl (by decide +kernel) rfl rfl (Nat.le_of_ble_eq_true rfl) d_CH_makeReady_10 (fun H locs hP hD hS => ?_)
  have hP : va_P D vwCl (chW q k B R sx pt (B pt) wt) _ := hP
  have hD : va_D A (chW q k B R sx pt (B pt) wt) := hD
  refine lv_aload_n hx hb d_CH_makeReady_13 rfl (lv_at hl 0 rfl) ?_
  refine lv_aload_n hx hb d_CH_makeReady_14 rfl (lv_at hl 0 rfl) ?_
  refine va_get (D := D) (ci := 2) (v := .int (nI pt)) (C := R_CH) (T := T_CH) (N := 6) hx hb hts in_CH hown hK hP 0 rfl rfl 3 (by decide) (hts _ w_55) (fun _ h9 => h9) rfl d_CH_makeReady_15 ?_
  refine lv_iconst (v := nI 1) hx hb d_CH_makeReady_18 (by decide +kernel) ?_
  refine lv_iadd hx hb d_CH_makeReady_19 ?_
  refine ss_rt (y := nI (pt + 1)) (nI_add _ _) ?_
  refine lv_sipush (v := nI 512) hx hb d_CH_makeReady_20 (by decide +kernel) ?_
  refine lv_irem hx hb d_CH_makeReady_23 (by first | decide +kernel | exact nI_ne0 (by omega) (by omega)) ?_
  refine ss_rt (y := nI ((pt + 1) % 512)) (pk_rem (by omega) (by omega) (by omega)) ?_
  refine va_put (D := D) (ci := 2) (v := .int (nI ((pt + 1) % 512))) (ty := .int) (C := R_CH) (T := T_CH) (N := 6) hx hb hts in_CH t_CH o_CH n_CH hown hK hP hD hS 0 rfl rfl 3 (by decide) (hts _ w_55) (fun _ h9 => h9) rfl (by decide +kernel) rfl rfl (Nat.le_of_ble_eq_true rfl) d_CH_makeReady_24 (fun H locs hP hD hS => ?_)
  have hP : va_P D vwCl (chW q k B R sx ((pt + 1) % 512) (B pt) wt) _ := hP
  have hD : va_D A (chW q k B R sx ((pt + 1) % 512) (B pt) wt) := hD
  exact rw_retv hx hb hr hlocks d_CH_makeReady_27 hS () (trivial) hP
set_option maxHeartbeats 4000000 in
set_option maxRecDepth 100000 in
theorem c_CH_takeData (l : Launch) (D : va_G) (k : Nat → ClassId) (q : Nat → Nat) (B : Nat → Nat) (R : Nat → Nat) (sx : Nat) (pt : Nat) (rd : Nat) (wt : Int32) (hpt : pt < 512) : rw_i l y_CH_takeData b_CH_takeData 2 (some .int) { frames := 1, cells := 0, slots := 0, locals := 20 } D (kT k) (chW q k B R sx pt rd wt) [.ref (q 7)] (fun (r : Int32) (_ : Unit) => r = nI rd) (fun (_ : Unit) => (chW q k B R sx ((pt + 1) % 512) (B pt) (-1))) := by
  refine rw_headi (by decide) (Nat.le_of_ble_eq_true rfl) ?_
  intro p e s m below meth c ls A hx hb hr hlocks hml hown hts hK hA hP hD hS hl
  have hown : s.vm.findClass "SlotScreen$Chip" = some m.cls := hown
  have hl : lv_has ls 2 [(0, .ref (q 7))] := hl
  refine lv_aload_n hx hb d_CH_takeData_0 rfl (lv_at hl 0 rfl) ?_
  refine lv_iconst (v := (-1)) hx hb d_CH_takeData_1 (by decide +kernel) ?_
  refine va_put (D := D) (ci := 2) (v := .int (-1)) (ty := .int) (C := R_CH) (T := T_CH) (N := 6) hx hb hts in_CH t_CH o_CH n_CH hown hK hP hD hS 0 rfl rfl 5 (by decide) (hts _ w_57) (fun _ h9 => h9) rfl (by decide +kernel) rfl rfl (Nat.le_of_ble_eq_true rfl) d_CH_takeData_2 (fun H locs hP hD hS => ?_)
  have hP : va_P D vwCl (chW q k B R sx pt rd (-1)) _ := hP
  have hD : va_D A (chW q k B R sx pt rd (-1)) := hD
  refine lv_aload_n hx hb d_CH_takeData_5 rfl (lv_at hl 0 rfl) ?_
  refine va_get (D := D) (ci := 2) (v := .int (nI rd)) (C := R_CH) (T := T_CH) (N := 6) hx hb hts in_CH hown hK hP 0 rfl rfl 4 (by decide) (hts _ w_56) (fun _ h9 => h9) rfl d_CH_takeData_6 ?_
  refine lv_istore_n (lv' := [(1, .int (nI rd)), (0, .ref (q 7))]) hx hb d_CH_takeData_9 rfl hl (by decide) rfl (fun ls hl => ?_)
  refine lv_aload_n hx hb d_CH_takeData_10 rfl (lv_at hl 1 rfl) ?_
  refine kw_vV (As := []) (rest := []) ⟨hx, hb, hml, hown, hts⟩ (c_CH_makeReady l D k q B R sx pt rd (-1) (by omega)) (cwV 0 hts (gV w_142 w_144 w_p0 w_3 w_145) rfl rfl rfl (by decide +kernel) ⟨Nat.le_of_ble_eq_true rfl, Nat.le_of_ble_eq_true rfl⟩) hK hP hD hS hA (va_recv hK hP (ci := 2) (q0 := 0) rfl rfl) rfl hl.1 rfl (Nat.le_of_ble_eq_true rfl) d_CH_takeData_11 ⟨Nat.zero_le _, Nat.zero_le _⟩ (fun _ H locs _ hP _ hS => ?_)
  have hD : va_D A (chW q k B R sx ((pt + 1) % 512) (B pt) (-1)) := rw_same hD rfl
  have hP : va_P D vwCl (chW q k B R sx ((pt + 1) % 512) (B pt) (-1)) H := hP
  refine lv_iload_n hx hb d_CH_takeData_14 rfl (lv_at hl 0 rfl) ?_
  exact rw_reti hx hb hr hlocks d_CH_takeData_15 hS () (rfl) hP
set_option maxHeartbeats 4000000 in
set_option maxRecDepth 100000 in
theorem c_CH_giveData (l : Launch) (D : va_G) (k : Nat → ClassId) (q : Nat → Nat) (B : Nat → Nat) (R : Nat → Nat) (sx : Nat) (pt : Nat) (rd : Nat) (wt : Int32) (hpt : pt < 512) (v : Nat) (hv : v < 256) : rw_v l y_CH_giveData b_CH_giveData 2 none { frames := 1, cells := 0, slots := 0, locals := 20 } D (kT k) (chW q k B R sx pt rd wt) [.ref (q 7), .int (nI v)] (fun (_ : Unit) => True) (fun (_ : Unit) => (chW q k (ss_up B pt v) R sx ((pt + 1) % 512) v (-1))) := by
  refine rw_headv (by decide) (Nat.le_of_ble_eq_true rfl) ?_
  intro p e s m below meth c ls A hx hb hr hlocks hml hown hts hK hA hP hD hS hl
  have hown : s.vm.findClass "SlotScreen$Chip" = some m.cls := hown
  have hl : lv_has ls 2 [(0, .ref (q 7)), (1, .int (nI v))] := hl
  refine lv_aload_n hx hb d_CH_giveData_0 rfl (lv_at hl 0 rfl) ?_
  refine lv_iconst (v := (-1)) hx hb d_CH_giveData_1 (by decide +kernel) ?_
  refine va_put (D := D) (ci := 2) (v := .int (-1)) (ty := .int) (C := R_CH) (T := T_CH) (N := 6) hx hb hts in_CH t_CH o_CH n_CH hown hK hP hD hS 0 rfl rfl 5 (by decide) (hts _ w_57) (fun _ h9 => h9) rfl (by decide +kernel) rfl rfl (Nat.le_of_ble_eq_true rfl) d_CH_giveData_2 (fun H locs hP hD hS => ?_)
  have hP : va_P D vwCl (chW q k B R sx pt rd (-1)) _ := hP
  have hD : va_D A (chW q k B R sx pt rd (-1)) := hD
  refine lv_aload_n hx hb d_CH_giveData_5 rfl (lv_at hl 0 rfl) ?_
  refine va_get (D := D) (ci := 2) (v := .ref (q 8)) (C := R_CH) (T := T_CH) (N := 6) hx hb hts in_CH hown hK hP 0 rfl rfl 0 (by decide) (hts _ w_52) (fun _ h9 => h9) rfl d_CH_giveData_6 ?_
  refine lv_aload_n hx hb d_CH_giveData_9 rfl (lv_at hl 0 rfl) ?_
  refine va_get (D := D) (ci := 2) (v := .int (nI pt)) (C := R_CH) (T := T_CH) (N := 6) hx hb hts in_CH hown hK hP 0 rfl rfl 3 (by decide) (hts _ w_55) (fun _ h9 => h9) rfl d_CH_giveData_10 ?_
  refine lv_iload_n hx hb d_CH_giveData_13 rfl (lv_at hl 1 rfl) ?_
  refine va_iast hx hb hK hP hD hS 1 0 rfl rfl (vp_in_nI (by omega) (by omega)) d_CH_giveData_14 (fun H locs hP hD hS => ?_)
  rw [ss_upI B (k := pt) (v := v) (by omega)] at hP hD
  have hP : va_P D vwCl (chW q k (ss_up B pt v) R sx pt rd (-1)) _ := hP
  have hD : va_D A (chW q k (ss_up B pt v) R sx pt rd (-1)) := hD
  refine lv_aload_n hx hb d_CH_giveData_15 rfl (lv_at hl 0 rfl) ?_
  refine kw_vV (As := []) (rest := []) ⟨hx, hb, hml, hown, hts⟩ (c_CH_makeReady l D k q (ss_up B pt v) R sx pt rd (-1) (by omega)) (cwV 0 hts (gV w_142 w_144 w_p0 w_3 w_145) rfl rfl rfl (by decide +kernel) ⟨Nat.le_of_ble_eq_true rfl, Nat.le_of_ble_eq_true rfl⟩) hK hP hD hS hA (va_recv hK hP (ci := 2) (q0 := 0) rfl rfl) rfl hl.1 rfl (Nat.le_of_ble_eq_true rfl) d_CH_giveData_16 ⟨Nat.zero_le _, Nat.zero_le _⟩ (fun _ H locs _ hP _ hS => ?_)
  have hD : va_D A (chW q k (ss_up B pt v) R sx ((pt + 1) % 512) ((ss_up B pt v) pt) (-1)) := rw_same hD rfl
  have hP : va_P D vwCl (chW q k (ss_up B pt v) R sx ((pt + 1) % 512) ((ss_up B pt v) pt) (-1)) H := hP
  exact rw_retv hx hb hr hlocks d_CH_giveData_19 hS () (trivial) (by have h9 := hP; rw [ss_up_s] at h9; exact h9)
set_option maxHeartbeats 4000000 in
set_option maxRecDepth 100000 in
theorem c_CH_takeStatus (l : Launch) (D : va_G) (k : Nat → ClassId) (q : Nat → Nat) (B : Nat → Nat) (R : Nat → Nat) (sx : Nat) (pt : Nat) (rd : Nat) (wt : Int32) (hsx : sx < 256) : rw_i l y_CH_takeStatus b_CH_takeStatus 2 (some .int) { frames := 0, cells := 0, slots := 0, locals := 0 } D (kT k) (chW q k B R sx pt rd wt) [.ref (q 7)] (fun (r : Int32) (_ : Unit) => r = nI sx) (fun (_ : Unit) => (chW q k B R (sx % 32) pt rd (-1))) := by
  refine rw_headi (by decide) (Nat.le_of_ble_eq_true rfl) ?_
  intro p e s m below meth c ls A hx hb hr hlocks hml hown hts hK hA hP hD hS hl
  have hown : s.vm.findClass "SlotScreen$Chip" = some m.cls := hown
  have hl : lv_has ls 2 [(0, .ref (q 7))] := hl
  refine lv_aload_n hx hb d_CH_takeStatus_0 rfl (lv_at hl 0 rfl) ?_
  refine lv_iconst (v := (-1)) hx hb d_CH_takeStatus_1 (by decide +kernel) ?_
  refine va_put (D := D) (ci := 2) (v := .int (-1)) (ty := .int) (C := R_CH) (T := T_CH) (N := 6) hx hb hts in_CH t_CH o_CH n_CH hown hK hP hD hS 0 rfl rfl 5 (by decide) (hts _ w_57) (fun _ h9 => h9) rfl (by decide +kernel) rfl rfl (Nat.le_of_ble_eq_true rfl) d_CH_takeStatus_2 (fun H locs hP hD hS => ?_)
  have hP : va_P D vwCl (chW q k B R sx pt rd (-1)) _ := hP
  have hD : va_D A (chW q k B R sx pt rd (-1)) := hD
  refine lv_aload_n hx hb d_CH_takeStatus_5 rfl (lv_at hl 0 rfl) ?_
  refine va_get (D := D) (ci := 2) (v := .int (nI sx)) (C := R_CH) (T := T_CH) (N := 6) hx hb hts in_CH hown hK hP 0 rfl rfl 2 (by decide) (hts _ w_54) (fun _ h9 => h9) rfl d_CH_takeStatus_6 ?_
  refine lv_istore_n (lv' := [(1, .int (nI sx)), (0, .ref (q 7))]) hx hb d_CH_takeStatus_9 rfl hl (by decide) rfl (fun ls hl => ?_)
  refine lv_aload_n hx hb d_CH_takeStatus_10 rfl (lv_at hl 1 rfl) ?_
  refine lv_iload_n hx hb d_CH_takeStatus_11 rfl (lv_at hl 0 rfl) ?_
  refine lv_bipush (v := nI 31) hx hb d_CH_takeStatus_12 (by decide +kernel) ?_
  refine lv_iand hx hb d_CH_takeStatus_14 ?_
  refine ss_rt (y := nI (sx % 32)) (pk_andN (by omega) 5 (by decide +kernel)) ?_
  refine va_put (D := D) (ci := 2) (v := .int (nI (sx % 32))) (ty := .int) (C := R_CH) (T := T_CH) (N := 6) hx hb hts in_CH t_CH o_CH n_CH hown hK hP hD hS 0 rfl rfl 2 (by decide) (hts _ w_54) (fun _ h9 => h9) rfl (by decide +kernel) rfl rfl (Nat.le_of_ble_eq_true rfl) d_CH_takeStatus_15 (fun H locs hP hD hS => ?_)
  have hP : va_P D vwCl (chW q k B R (sx % 32) pt rd (-1)) _ := hP
  have hD : va_D A (chW q k B R (sx % 32) pt rd (-1)) := hD
  refine lv_iload_n hx hb d_CH_takeStatus_18 rfl (lv_at hl 0 rfl) ?_
  exact rw_reti hx hb hr hlocks d_CH_takeStatus_19 hS () (rfl) hP
set_option maxHeartbeats 4000000 in
set_option maxRecDepth 100000 in
theorem c_CH_giveControlN (l : Launch) (D : va_G) (k : Nat → ClassId) (q : Nat → Nat) (B : Nat → Nat) (R : Nat → Nat) (sx : Nat) (pt : Nat) (rd : Nat) (v : Nat) (hv : v < 256) : rw_v l y_CH_giveControl b_CH_giveControl 3 none { frames := 1, cells := 0, slots := 0, locals := 20 } D (kT k) (chW q k B R sx pt rd (-1)) [.ref (q 7), .int (nI v)] (fun (_ : Unit) => True) (fun (_ : Unit) => (chW q k B R sx pt rd (nI v))) := by
  refine rw_headv (by decide) (Nat.le_of_ble_eq_true rfl) ?_
  intro p e s m below meth c ls A hx hb hr hlocks hml hown hts hK hA hP hD hS hl
  have hown : s.vm.findClass "SlotScreen$Chip" = some m.cls := hown
  have hl : lv_has ls 3 [(0, .ref (q 7)), (1, .int (nI v))] := hl
  refine lv_aload_n hx hb d_CH_giveControl_0 rfl (lv_at hl 0 rfl) ?_
  refine va_get (D := D) (ci := 2) (v := .int (-1)) (C := R_CH) (T := T_CH) (N := 6) hx hb hts in_CH hown hK hP 0 rfl rfl 5 (by decide) (hts _ w_57) (fun _ h9 => h9) rfl d_CH_giveControl_1 ?_
  refine lv_iconst (v := (-1)) hx hb d_CH_giveControl_4 (by decide +kernel) ?_
  refine lv_icmp_ne (tgt := 14) hx hb d_CH_giveControl_5 (by decide) (fun c1 => ?_) (fun c1 => ?_)
  · have c1 := mt (Int32.toInt_inj.symm).mpr c1
    exact absurd c1 (by first | decide +kernel | (rw [nI_toInt (by omega)]; show ¬ (_ : Int) = -1; omega) | (rw [nI_toInt (by omega)]; show ¬ ¬ (_ : Int) = -1; omega))
  · have c1 := (Int32.toInt_inj.symm).mp c1
    refine lv_aload_n hx hb d_CH_giveControl_8 rfl (lv_at hl 0 rfl) ?_
    refine lv_iload_n hx hb d_CH_giveControl_9 rfl (lv_at hl 1 rfl) ?_
    refine va_put (D := D) (ci := 2) (v := .int (nI v)) (ty := .int) (C := R_CH) (T := T_CH) (N := 6) hx hb hts in_CH t_CH o_CH n_CH hown hK hP hD hS 0 rfl rfl 5 (by decide) (hts _ w_57) (fun _ h9 => h9) rfl (by decide +kernel) rfl rfl (Nat.le_of_ble_eq_true rfl) d_CH_giveControl_10 (fun H locs hP hD hS => ?_)
    have hP : va_P D vwCl (chW q k B R sx pt rd (nI v)) _ := hP
    have hD : va_D A (chW q k B R sx pt rd (nI v)) := hD
    exact rw_retv hx hb hr hlocks d_CH_giveControl_13 hS () (trivial) hP
set_option maxHeartbeats 4000000 in
set_option maxRecDepth 100000 in
theorem c_CH_giveControlR (l : Launch) (D : va_G) (k : Nat → ClassId) (q : Nat → Nat) (B : Nat → Nat) (R : Nat → Nat) (sx : Nat) (pt : Nat) (rd : Nat) (a v : Nat) (ha : a < 256) (hv : v < 256) (h1 : 127 < v) : rw_v l y_CH_giveControl b_CH_giveControl 3 none { frames := 1, cells := 0, slots := 0, locals := 20 } D (kT k) (chW q k B R sx pt rd (nI a)) [.ref (q 7), .int (nI v)] (fun (_ : Unit) => True) (fun (_ : Unit) => (chW q k B (ss_up R (v % 8) a) sx pt rd (-1))) := by
  refine rw_headv (by decide) (Nat.le_of_ble_eq_true rfl) ?_
  intro p e s m below meth c ls A hx hb hr hlocks hml hown hts hK hA hP hD hS hl
  have hown : s.vm.findClass "SlotScreen$Chip" = some m.cls := hown
  have hl : lv_has ls 3 [(0, .ref (q 7)), (1, .int (nI v))] := hl
  refine lv_aload_n hx hb d_CH_giveControl_0 rfl (lv_at hl 0 rfl) ?_
  refine va_get (D := D) (ci := 2) (v := .int (nI a)) (C := R_CH) (T := T_CH) (N := 6) hx hb hts in_CH hown hK hP 0 rfl rfl 5 (by decide) (hts _ w_57) (fun _ h9 => h9) rfl d_CH_giveControl_1 ?_
  refine lv_iconst (v := (-1)) hx hb d_CH_giveControl_4 (by decide +kernel) ?_
  refine lv_icmp_ne (tgt := 14) hx hb d_CH_giveControl_5 (by decide) (fun c1 => ?_) (fun c1 => ?_)
  · have c1 := mt (Int32.toInt_inj.symm).mpr c1
    refine lv_aload_n hx hb d_CH_giveControl_14 rfl (lv_at hl 0 rfl) ?_
    refine va_get (D := D) (ci := 2) (v := .int (nI a)) (C := R_CH) (T := T_CH) (N := 6) hx hb hts in_CH hown hK hP 0 rfl rfl 5 (by decide) (hts _ w_57) (fun _ h9 => h9) rfl d_CH_giveControl_15 ?_
    refine lv_istore_n (lv' := [(2, .int (nI a)), (0, .ref (q 7)), (1, .int (nI v))]) hx hb d_CH_giveControl_18 rfl hl (by decide) rfl (fun ls hl => ?_)
    refine lv_aload_n hx hb d_CH_giveControl_19 rfl (lv_at hl 1 rfl) ?_
    refine lv_iconst (v := (-1)) hx hb d_CH_giveControl_20 (by decide +kernel) ?_
    refine va_put (D := D) (ci := 2) (v := .int (-1)) (ty := .int) (C := R_CH) (T := T_CH) (N := 6) hx hb hts in_CH t_CH o_CH n_CH hown hK hP hD hS 0 rfl rfl 5 (by decide) (hts _ w_57) (fun _ h9 => h9) rfl (by decide +kernel) rfl rfl (Nat.le_of_ble_eq_true rfl) d_CH_giveControl_21 (fun H locs hP hD hS => ?_)
    have hP : va_P D vwCl (chW q k B R sx pt rd (-1)) _ := hP
    have hD : va_D A (chW q k B R sx pt rd (-1)) := hD
    refine lv_iload_n hx hb d_CH_giveControl_24 rfl (lv_at hl 2 rfl) ?_
    refine lv_sipush (v := nI 128) hx hb d_CH_giveControl_25 (by decide +kernel) ?_
    refine lv_icmp_lt (tgt := 42) hx hb d_CH_giveControl_28 (by decide) (fun c2 => ?_) (fun c2 => ?_)
    · have c2 := (nI_ltI (by omega) (by omega)).mp c2
      exfalso; omega
    · have c2 := mt (nI_ltI (by omega) (by omega)).mpr c2
      refine lv_aload_n hx hb d_CH_giveControl_31 rfl (lv_at hl 1 rfl) ?_
      refine va_get (D := D) (ci := 2) (v := .ref (q 9)) (C := R_CH) (T := T_CH) (N := 6) hx hb hts in_CH hown hK hP 0 rfl rfl 1 (by decide) (hts _ w_53) (fun _ h9 => h9) rfl d_CH_giveControl_32 ?_
      refine lv_iload_n hx hb d_CH_giveControl_35 rfl (lv_at hl 2 rfl) ?_
      refine lv_bipush (v := nI 8) hx hb d_CH_giveControl_36 (by decide +kernel) ?_
      refine lv_irem hx hb d_CH_giveControl_38 (by first | decide +kernel | exact nI_ne0 (by omega) (by omega)) ?_
      refine ss_rt (y := nI (v % 8)) (pk_rem (by omega) (by omega) (by omega)) ?_
      refine lv_iload_n hx hb d_CH_giveControl_39 rfl (lv_at hl 0 rfl) ?_
      refine va_iast hx hb hK hP hD hS 2 0 rfl rfl (vp_in_nI (by omega) (by omega)) d_CH_giveControl_40 (fun H locs hP hD hS => ?_)
      rw [ss_upI R (k := (v % 8)) (v := a) (by omega)] at hP hD
      have hP : va_P D vwCl (chW q k B (ss_up R (v % 8) a) sx pt rd (-1)) _ := hP
      have hD : va_D A (chW q k B (ss_up R (v % 8) a) sx pt rd (-1)) := hD
      exact rw_retv hx hb hr hlocks d_CH_giveControl_41 hS () (trivial) hP
  · have c1 := (Int32.toInt_inj.symm).mp c1
    exact absurd c1 (by first | decide +kernel | (rw [nI_toInt (by omega)]; show ¬ (_ : Int) = -1; omega) | (rw [nI_toInt (by omega)]; show ¬ ¬ (_ : Int) = -1; omega))
set_option maxHeartbeats 4000000 in
set_option maxRecDepth 100000 in
theorem c_CH_giveControlP (l : Launch) (D : va_G) (k : Nat → ClassId) (q : Nat → Nat) (B : Nat → Nat) (R : Nat → Nat) (sx : Nat) (pt : Nat) (rd : Nat) (a v : Nat) (ha : a < 256) (hv : v < 256) (h1 : v ≤ 127) (h2 : 64 ≤ v) : rw_v l y_CH_giveControl b_CH_giveControl 3 none { frames := 1, cells := 0, slots := 0, locals := 20 } D (kT k) (chW q k B R sx pt rd (nI a)) [.ref (q 7), .int (nI v)] (fun (_ : Unit) => True) (fun (_ : Unit) => (chW q k B R sx (a + 256 * (v % 2)) rd (-1))) := by
  refine rw_headv (by decide) (Nat.le_of_ble_eq_true rfl) ?_
  intro p e s m below meth c ls A hx hb hr hlocks hml hown hts hK hA hP hD hS hl
  have hown : s.vm.findClass "SlotScreen$Chip" = some m.cls := hown
  have hl : lv_has ls 3 [(0, .ref (q 7)), (1, .int (nI v))] := hl
  refine lv_aload_n hx hb d_CH_giveControl_0 rfl (lv_at hl 0 rfl) ?_
  refine va_get (D := D) (ci := 2) (v := .int (nI a)) (C := R_CH) (T := T_CH) (N := 6) hx hb hts in_CH hown hK hP 0 rfl rfl 5 (by decide) (hts _ w_57) (fun _ h9 => h9) rfl d_CH_giveControl_1 ?_
  refine lv_iconst (v := (-1)) hx hb d_CH_giveControl_4 (by decide +kernel) ?_
  refine lv_icmp_ne (tgt := 14) hx hb d_CH_giveControl_5 (by decide) (fun c1 => ?_) (fun c1 => ?_)
  · have c1 := mt (Int32.toInt_inj.symm).mpr c1
    refine lv_aload_n hx hb d_CH_giveControl_14 rfl (lv_at hl 0 rfl) ?_
    refine va_get (D := D) (ci := 2) (v := .int (nI a)) (C := R_CH) (T := T_CH) (N := 6) hx hb hts in_CH hown hK hP 0 rfl rfl 5 (by decide) (hts _ w_57) (fun _ h9 => h9) rfl d_CH_giveControl_15 ?_
    refine lv_istore_n (lv' := [(2, .int (nI a)), (0, .ref (q 7)), (1, .int (nI v))]) hx hb d_CH_giveControl_18 rfl hl (by decide) rfl (fun ls hl => ?_)
    refine lv_aload_n hx hb d_CH_giveControl_19 rfl (lv_at hl 1 rfl) ?_
    refine lv_iconst (v := (-1)) hx hb d_CH_giveControl_20 (by decide +kernel) ?_
    refine va_put (D := D) (ci := 2) (v := .int (-1)) (ty := .int) (C := R_CH) (T := T_CH) (N := 6) hx hb hts in_CH t_CH o_CH n_CH hown hK hP hD hS 0 rfl rfl 5 (by decide) (hts _ w_57) (fun _ h9 => h9) rfl (by decide +kernel) rfl rfl (Nat.le_of_ble_eq_true rfl) d_CH_giveControl_21 (fun H locs hP hD hS => ?_)
    have hP : va_P D vwCl (chW q k B R sx pt rd (-1)) _ := hP
    have hD : va_D A (chW q k B R sx pt rd (-1)) := hD
    refine lv_iload_n hx hb d_CH_giveControl_24 rfl (lv_at hl 2 rfl) ?_
    refine lv_sipush (v := nI 128) hx hb d_CH_giveControl_25 (by decide +kernel) ?_
    refine lv_icmp_lt (tgt := 42) hx hb d_CH_giveControl_28 (by decide) (fun c2 => ?_) (fun c2 => ?_)
    · have c2 := (nI_ltI (by omega) (by omega)).mp c2
      refine lv_aload_n hx hb d_CH_giveControl_42 rfl (lv_at hl 1 rfl) ?_
      refine lv_iload_n hx hb d_CH_giveControl_43 rfl (lv_at hl 0 rfl) ?_
      refine lv_sipush (v := nI 256) hx hb d_CH_giveControl_44 (by decide +kernel) ?_
      refine lv_iload_n hx hb d_CH_giveControl_47 rfl (lv_at hl 2 rfl) ?_
      refine lv_iconst (v := nI 2) hx hb d_CH_giveControl_48 (by decide +kernel) ?_
      refine lv_irem hx hb d_CH_giveControl_49 (by first | decide +kernel | exact nI_ne0 (by omega) (by omega)) ?_
      refine ss_rt (y := nI (v % 2)) (pk_rem (by omega) (by omega) (by omega)) ?_
      refine lv_imul hx hb d_CH_giveControl_50 ?_
      refine ss_rt (y := nI (256 * (v % 2))) (pk_mul _ _) ?_
      refine lv_iadd hx hb d_CH_giveControl_51 ?_
      refine ss_rt (y := nI (a + (256 * (v % 2)))) (nI_add _ _) ?_
      refine va_put (D := D) (ci := 2) (v := .int (nI (a + (256 * (v % 2))))) (ty := .int) (C := R_CH) (T := T_CH) (N := 6) hx hb hts in_CH t_CH o_CH n_CH hown hK hP hD hS 0 rfl rfl 3 (by decide) (hts _ w_55) (fun _ h9 => h9) rfl (by decide +kernel) rfl rfl (Nat.le_of_ble_eq_true rfl) d_CH_giveControl_52 (fun H locs hP hD hS => ?_)
      have hP : va_P D vwCl (chW q k B R sx (a + (256 * (v % 2))) rd (-1)) _ := hP
      have hD : va_D A (chW q k B R sx (a + (256 * (v % 2))) rd (-1)) := hD
      refine lv_iload_n hx hb d_CH_giveControl_55 rfl (lv_at hl 2 rfl) ?_
      refine lv_bipush (v := nI 64) hx hb d_CH_giveControl_56 (by decide +kernel) ?_
      refine lv_icmp_ge (tgt := 65) hx hb d_CH_giveControl_58 (by decide) (fun c3 => ?_) (fun c3 => ?_)
      · have c3 := (nI_leI (by omega) (by omega)).mp c3
        exact rw_retv hx hb hr hlocks d_CH_giveControl_65 hS () (trivial) (by rw [show (a + 256 * (v % 2)) = (a + (256 * (v % 2))) from by first | rfl | omega]; exact hP)
      · have c3 := mt (nI_leI (by omega) (by omega)).mpr c3
        exfalso; omega
    · have c2 := mt (nI_ltI (by omega) (by omega)).mpr c2
      exfalso; omega
  · have c1 := (Int32.toInt_inj.symm).mp c1
    exact absurd c1 (by first | decide +kernel | (rw [nI_toInt (by omega)]; show ¬ (_ : Int) = -1; omega) | (rw [nI_toInt (by omega)]; show ¬ ¬ (_ : Int) = -1; omega))
set_option maxHeartbeats 4000000 in
set_option maxRecDepth 100000 in
theorem c_CH_giveControlF (l : Launch) (D : va_G) (k : Nat → ClassId) (q : Nat → Nat) (B : Nat → Nat) (R : Nat → Nat) (sx : Nat) (pt : Nat) (rd : Nat) (a v : Nat) (ha : a < 256) (hv : v < 256) (h2 : v < 64) : rw_v l y_CH_giveControl b_CH_giveControl 3 none { frames := 1, cells := 0, slots := 0, locals := 20 } D (kT k) (chW q k B R sx pt rd (nI a)) [.ref (q 7), .int (nI v)] (fun (_ : Unit) => True) (fun (_ : Unit) => (chW q k B R sx ((a + 256 * (v % 2) + 1) % 512) (B (a + 256 * (v % 2))) (-1))) := by
  refine rw_headv (by decide) (Nat.le_of_ble_eq_true rfl) ?_
  intro p e s m below meth c ls A hx hb hr hlocks hml hown hts hK hA hP hD hS hl
  have hown : s.vm.findClass "SlotScreen$Chip" = some m.cls := hown
  have hl : lv_has ls 3 [(0, .ref (q 7)), (1, .int (nI v))] := hl
  refine lv_aload_n hx hb d_CH_giveControl_0 rfl (lv_at hl 0 rfl) ?_
  refine va_get (D := D) (ci := 2) (v := .int (nI a)) (C := R_CH) (T := T_CH) (N := 6) hx hb hts in_CH hown hK hP 0 rfl rfl 5 (by decide) (hts _ w_57) (fun _ h9 => h9) rfl d_CH_giveControl_1 ?_
  refine lv_iconst (v := (-1)) hx hb d_CH_giveControl_4 (by decide +kernel) ?_
  refine lv_icmp_ne (tgt := 14) hx hb d_CH_giveControl_5 (by decide) (fun c1 => ?_) (fun c1 => ?_)
  · have c1 := mt (Int32.toInt_inj.symm).mpr c1
    refine lv_aload_n hx hb d_CH_giveControl_14 rfl (lv_at hl 0 rfl) ?_
    refine va_get (D := D) (ci := 2) (v := .int (nI a)) (C := R_CH) (T := T_CH) (N := 6) hx hb hts in_CH hown hK hP 0 rfl rfl 5 (by decide) (hts _ w_57) (fun _ h9 => h9) rfl d_CH_giveControl_15 ?_
    refine lv_istore_n (lv' := [(2, .int (nI a)), (0, .ref (q 7)), (1, .int (nI v))]) hx hb d_CH_giveControl_18 rfl hl (by decide) rfl (fun ls hl => ?_)
    refine lv_aload_n hx hb d_CH_giveControl_19 rfl (lv_at hl 1 rfl) ?_
    refine lv_iconst (v := (-1)) hx hb d_CH_giveControl_20 (by decide +kernel) ?_
    refine va_put (D := D) (ci := 2) (v := .int (-1)) (ty := .int) (C := R_CH) (T := T_CH) (N := 6) hx hb hts in_CH t_CH o_CH n_CH hown hK hP hD hS 0 rfl rfl 5 (by decide) (hts _ w_57) (fun _ h9 => h9) rfl (by decide +kernel) rfl rfl (Nat.le_of_ble_eq_true rfl) d_CH_giveControl_21 (fun H locs hP hD hS => ?_)
    have hP : va_P D vwCl (chW q k B R sx pt rd (-1)) _ := hP
    have hD : va_D A (chW q k B R sx pt rd (-1)) := hD
    refine lv_iload_n hx hb d_CH_giveControl_24 rfl (lv_at hl 2 rfl) ?_
    refine lv_sipush (v := nI 128) hx hb d_CH_giveControl_25 (by decide +kernel) ?_
    refine lv_icmp_lt (tgt := 42) hx hb d_CH_giveControl_28 (by decide) (fun c2 => ?_) (fun c2 => ?_)
    · have c2 := (nI_ltI (by omega) (by omega)).mp c2
      refine lv_aload_n hx hb d_CH_giveControl_42 rfl (lv_at hl 1 rfl) ?_
      refine lv_iload_n hx hb d_CH_giveControl_43 rfl (lv_at hl 0 rfl) ?_
      refine lv_sipush (v := nI 256) hx hb d_CH_giveControl_44 (by decide +kernel) ?_
      refine lv_iload_n hx hb d_CH_giveControl_47 rfl (lv_at hl 2 rfl) ?_
      refine lv_iconst (v := nI 2) hx hb d_CH_giveControl_48 (by decide +kernel) ?_
      refine lv_irem hx hb d_CH_giveControl_49 (by first | decide +kernel | exact nI_ne0 (by omega) (by omega)) ?_
      refine ss_rt (y := nI (v % 2)) (pk_rem (by omega) (by omega) (by omega)) ?_
      refine lv_imul hx hb d_CH_giveControl_50 ?_
      refine ss_rt (y := nI (256 * (v % 2))) (pk_mul _ _) ?_
      refine lv_iadd hx hb d_CH_giveControl_51 ?_
      refine ss_rt (y := nI (a + (256 * (v % 2)))) (nI_add _ _) ?_
      refine va_put (D := D) (ci := 2) (v := .int (nI (a + (256 * (v % 2))))) (ty := .int) (C := R_CH) (T := T_CH) (N := 6) hx hb hts in_CH t_CH o_CH n_CH hown hK hP hD hS 0 rfl rfl 3 (by decide) (hts _ w_55) (fun _ h9 => h9) rfl (by decide +kernel) rfl rfl (Nat.le_of_ble_eq_true rfl) d_CH_giveControl_52 (fun H locs hP hD hS => ?_)
      have hP : va_P D vwCl (chW q k B R sx (a + (256 * (v % 2))) rd (-1)) _ := hP
      have hD : va_D A (chW q k B R sx (a + (256 * (v % 2))) rd (-1)) := hD
      refine lv_iload_n hx hb d_CH_giveControl_55 rfl (lv_at hl 2 rfl) ?_
      refine lv_bipush (v := nI 64) hx hb d_CH_giveControl_56 (by decide +kernel) ?_
      refine lv_icmp_ge (tgt := 65) hx hb d_CH_giveControl_58 (by decide) (fun c3 => ?_) (fun c3 => ?_)
      · have c3 := (nI_leI (by omega) (by omega)).mp c3
        exfalso; omega
      · have c3 := mt (nI_leI (by omega) (by omega)).mpr c3
        refine lv_aload_n hx hb d_CH_giveControl_61 rfl (lv_at hl 1 rfl) ?_
        refine kw_vV (As := []) (rest := []) ⟨hx, hb, hml, hown, hts⟩ (c_CH_makeReady l D k q B R sx (a + (256 * (v % 2))) rd (-1) (by omega)) (cwV 0 hts (gV w_142 w_144 w_p0 w_3 w_145) rfl rfl rfl (by decide +kernel) ⟨Nat.le_of_ble_eq_true rfl, Nat.le_of_ble_eq_true rfl⟩) hK hP hD hS hA (va_recv hK hP (ci := 2) (q0 := 0) rfl rfl) rfl hl.1 rfl (Nat.le_of_ble_eq_true rfl) d_CH_giveControl_62 ⟨Nat.zero_le _, Nat.zero_le _⟩ (fun _ H locs _ hP _ hS => ?_)
        have hD : va_D A (chW q k B R sx (((a + (256 * (v % 2))) + 1) % 512) (B (a + (256 * (v % 2)))) (-1)) := rw_same hD rfl
        have hP : va_P D vwCl (chW q k B R sx (((a + (256 * (v % 2))) + 1) % 512) (B (a + (256 * (v % 2)))) (-1)) H := hP
        exact rw_retv hx hb hr hlocks d_CH_giveControl_65 hS () (trivial) (by rw [show ((a + 256 * (v % 2) + 1) % 512) = (((a + (256 * (v % 2))) + 1) % 512) from by first | rfl | omega, show (B (a + 256 * (v % 2))) = (B (a + (256 * (v % 2)))) from by first | rfl | omega]; exact hP)
    · have c2 := mt (nI_ltI (by omega) (by omega)).mpr c2
      exfalso; omega
  · have c1 := (Int32.toInt_inj.symm).mp c1
    exact absurd c1 (by first | decide +kernel | (rw [nI_toInt (by omega)]; show ¬ (_ : Int) = -1; omega) | (rw [nI_toInt (by omega)]; show ¬ ¬ (_ : Int) = -1; omega))
set_option maxHeartbeats 4000000 in
set_option maxRecDepth 100000 in
theorem c_CH_wantsAttention (l : Launch) (D : va_G) (k : Nat → ClassId) (q : Nat → Nat) (B : Nat → Nat) (R : Nat → Nat) (sx : Nat) (pt : Nat) (rd : Nat) (wt : Int32) (hB : ∀ j, B j < 256) (hR : ∀ j, R j < 256) (hsx : sx < 256) : ro_i l y_CH_wantsAttention b_CH_wantsAttention 1 (some .boolean) { frames := 0, cells := 0, slots := 0, locals := 0 } D (kT k) (chW q k B R sx pt rd wt) [.ref (q 7)] (bI (R 1 / 32 % 2 = 1 ∧ 127 < sx)) := by
  refine ro_headi (by decide) (Nat.le_of_ble_eq_true rfl) ?_
  intro p e s m below meth c ls hx hb hr hlocks hml hown hts hP hK hl
  have hown : s.vm.findClass "SlotScreen$Chip" = some m.cls := hown
  have hl : lv_has ls 1 [(0, .ref (q 7))] := hl
  refine lv_aload_n hx hb d_CH_wantsAttention_0 rfl (lv_at hl 0 rfl) ?_
  refine va_get (D := D) (ci := 2) (v := .ref (q 9)) (C := R_CH) (T := T_CH) (N := 6) hx hb hts in_CH hown hK hP 0 rfl rfl 1 (by decide) (hts _ w_53) (fun _ h9 => h9) rfl d_CH_wantsAttention_1 ?_
  refine lv_iconst (v := nI 1) hx hb d_CH_wantsAttention_4 (by decide +kernel) ?_
  refine va_iald hx hb hK hP 2 0 rfl rfl (vp_in_nI (by omega) (by omega)) d_CH_wantsAttention_5 ?_
  refine ss_rt (y := nI (R 1)) (congrArg (fun z => nI (R z)) (nI_clamp (by omega))) ?_
  have g1 := hR 1
  refine lv_bipush (v := nI 32) hx hb d_CH_wantsAttention_6 (by decide +kernel) ?_
  refine lv_iand hx hb d_CH_wantsAttention_8 ?_
  refine ss_rt (y := nI ((R 1) / 32 % 2 * 32)) (ss_and32 _ (by omega)) ?_
  refine lv_if_eq (tgt := 27) hx hb d_CH_wantsAttention_9 (by decide) (fun c2 => ?_) (fun c2 => ?_)
  · have c2 := (n_eq0 (by omega)).mp c2
    refine lv_iconst (v := nI 0) hx hb d_CH_wantsAttention_27 (by decide +kernel) ?_
    exact ro_retz hx hb hr hlocks d_CH_wantsAttention_28 (by decide +kernel) (bI_f (by omega))
  · have c2 := mt (n_eq0 (by omega)).mpr c2
    refine lv_aload_n hx hb d_CH_wantsAttention_12 rfl (lv_at hl 0 rfl) ?_
    refine va_get (D := D) (ci := 2) (v := .int (nI sx)) (C := R_CH) (T := T_CH) (N := 6) hx hb hts in_CH hown hK hP 0 rfl rfl 2 (by decide) (hts _ w_54) (fun _ h9 => h9) rfl d_CH_wantsAttention_13 ?_
    refine lv_sipush (v := nI 128) hx hb d_CH_wantsAttention_16 (by decide +kernel) ?_
    refine lv_iand hx hb d_CH_wantsAttention_19 ?_
    refine ss_rt (y := nI (sx / 128 % 2 * 128)) (ss_and128 _ (by omega)) ?_
    refine lv_if_eq (tgt := 27) hx hb d_CH_wantsAttention_20 (by decide) (fun c3 => ?_) (fun c3 => ?_)
    · have c3 := (n_eq0 (by omega)).mp c3
      refine lv_iconst (v := nI 0) hx hb d_CH_wantsAttention_27 (by decide +kernel) ?_
      exact ro_retz hx hb hr hlocks d_CH_wantsAttention_28 (by decide +kernel) (bI_f (by omega))
    · have c3 := mt (n_eq0 (by omega)).mpr c3
      refine lv_iconst (v := nI 1) hx hb d_CH_wantsAttention_23 (by decide +kernel) ?_
      refine lv_goto (tgt := 28) hx hb d_CH_wantsAttention_24 (by decide) ?_
      exact ro_retz hx hb hr hlocks d_CH_wantsAttention_28 (by decide +kernel) (bI_t (by omega))
set_option maxHeartbeats 4000000 in
set_option maxRecDepth 100000 in
theorem c_CH_noteFrame (l : Launch) (D : va_G) (k : Nat → ClassId) (q : Nat → Nat) (B : Nat → Nat) (R : Nat → Nat) (sx : Nat) (pt : Nat) (rd : Nat) (wt : Int32) (hsx : sx < 256) : rw_v l y_CH_noteFrame b_CH_noteFrame 1 none { frames := 0, cells := 0, slots := 0, locals := 0 } D (kT k) (chW q k B R sx pt rd wt) [.ref (q 7)] (fun (_ : Unit) => True) (fun (_ : Unit) => (chW q k B R (ss_so 128 sx) pt rd wt)) := by
  refine rw_headv (by decide) (Nat.le_of_ble_eq_true rfl) ?_
  intro p e s m below meth c ls A hx hb hr hlocks hml hown hts hK hA hP hD hS hl
  have hown : s.vm.findClass "SlotScreen$Chip" = some m.cls := hown
  have hl : lv_has ls 1 [(0, .ref (q 7))] := hl
  refine lv_aload_n hx hb d_CH_noteFrame_0 rfl (lv_at hl 0 rfl) ?_
  refine lv_dup hx hb d_CH_noteFrame_1 rfl ?_
  refine va_get (D := D) (ci := 2) (v := .int (nI sx)) (C := R_CH) (T := T_CH) (N := 6) hx hb hts in_CH hown hK hP 0 rfl rfl 2 (by decide) (hts _ w_54) (fun _ h9 => h9) rfl d_CH_noteFrame_2 ?_
  refine lv_sipush (v := nI 128) hx hb d_CH_noteFrame_5 (by decide +kernel) ?_
  refine lv_ior hx hb d_CH_noteFrame_8 ?_
  refine ss_rt (y := nI (ss_so 128 sx)) (ss_or128 _ (by omega)) ?_
  refine va_put (D := D) (ci := 2) (v := .int (nI (ss_so 128 sx))) (ty := .int) (C := R_CH) (T := T_CH) (N := 6) hx hb hts in_CH t_CH o_CH n_CH hown hK hP hD hS 0 rfl rfl 2 (by decide) (hts _ w_54) (fun _ h9 => h9) rfl (by decide +kernel) rfl rfl (Nat.le_of_ble_eq_true rfl) d_CH_noteFrame_9 (fun H locs hP hD hS => ?_)
  have hP : va_P D vwCl (chW q k B R (ss_so 128 sx) pt rd wt) _ := hP
  have hD : va_D A (chW q k B R (ss_so 128 sx) pt rd wt) := hD
  exact rw_retv hx hb hr hlocks d_CH_noteFrame_12 hS () (trivial) hP
set_option maxHeartbeats 4000000 in
set_option maxRecDepth 100000 in
theorem c_CH_noteTouch (l : Launch) (D : va_G) (k : Nat → ClassId) (q : Nat → Nat) (B : Nat → Nat) (R : Nat → Nat) (sx : Nat) (pt : Nat) (rd : Nat) (wt : Int32) (hsx : sx < 256) : rw_v l y_CH_noteTouch b_CH_noteTouch 1 none { frames := 0, cells := 0, slots := 0, locals := 0 } D (kT k) (chW q k B R sx pt rd wt) [.ref (q 7)] (fun (_ : Unit) => True) (fun (_ : Unit) => (chW q k B R (ss_so 32 sx) pt rd wt)) := by
  refine rw_headv (by decide) (Nat.le_of_ble_eq_true rfl) ?_
  intro p e s m below meth c ls A hx hb hr hlocks hml hown hts hK hA hP hD hS hl
  have hown : s.vm.findClass "SlotScreen$Chip" = some m.cls := hown
  have hl : lv_has ls 1 [(0, .ref (q 7))] := hl
  refine lv_aload_n hx hb d_CH_noteTouch_0 rfl (lv_at hl 0 rfl) ?_
  refine lv_dup hx hb d_CH_noteTouch_1 rfl ?_
  refine va_get (D := D) (ci := 2) (v := .int (nI sx)) (C := R_CH) (T := T_CH) (N := 6) hx hb hts in_CH hown hK hP 0 rfl rfl 2 (by decide) (hts _ w_54) (fun _ h9 => h9) rfl d_CH_noteTouch_2 ?_
  refine lv_bipush (v := nI 32) hx hb d_CH_noteTouch_5 (by decide +kernel) ?_
  refine lv_ior hx hb d_CH_noteTouch_7 ?_
  refine ss_rt (y := nI (ss_so 32 sx)) (ss_or32 _ (by omega)) ?_
  refine va_put (D := D) (ci := 2) (v := .int (nI (ss_so 32 sx))) (ty := .int) (C := R_CH) (T := T_CH) (N := 6) hx hb hts in_CH t_CH o_CH n_CH hown hK hP hD hS 0 rfl rfl 2 (by decide) (hts _ w_54) (fun _ h9 => h9) rfl (by decide +kernel) rfl rfl (Nat.le_of_ble_eq_true rfl) d_CH_noteTouch_8 (fun H locs hP hD hS => ?_)
  have hP : va_P D vwCl (chW q k B R (ss_so 32 sx) pt rd wt) _ := hP
  have hD : va_D A (chW q k B R (ss_so 32 sx) pt rd wt) := hD
  exact rw_retv hx hb hr hlocks d_CH_noteTouch_11 hS () (trivial) hP
set_option maxHeartbeats 4000000 in
set_option maxRecDepth 100000 in
theorem c_CH_noteFifth (l : Launch) (D : va_G) (k : Nat → ClassId) (q : Nat → Nat) (B : Nat → Nat) (R : Nat → Nat) (sx : Nat) (pt : Nat) (rd : Nat) (wt : Int32) (hsx : sx < 256) (z : Nat) (hz : z < 8) : rw_v l y_CH_noteFifth b_CH_noteFifth 2 none { frames := 0, cells := 0, slots := 0, locals := 0 } D (kT k) (chW q k B R sx pt rd wt) [.ref (q 7), .int (nI z)] (fun (_ : Unit) => True) (fun (_ : Unit) => (chW q k B R (dff sx z) pt rd wt)) := by
  refine rw_headv (by decide) (Nat.le_of_ble_eq_true rfl) ?_
  intro p e s m below meth c ls A hx hb hr hlocks hml hown hts hK hA hP hD hS hl
  have hown : s.vm.findClass "SlotScreen$Chip" = some m.cls := hown
  have hl : lv_has ls 2 [(0, .ref (q 7)), (1, .int (nI z))] := hl
  refine lv_aload_n hx hb d_CH_noteFifth_0 rfl (lv_at hl 0 rfl) ?_
  refine va_get (D := D) (ci := 2) (v := .int (nI sx)) (C := R_CH) (T := T_CH) (N := 6) hx hb hts in_CH hown hK hP 0 rfl rfl 2 (by decide) (hts _ w_54) (fun _ h9 => h9) rfl d_CH_noteFifth_1 ?_
  refine lv_bipush (v := nI 64) hx hb d_CH_noteFifth_4 (by decide +kernel) ?_
  refine lv_iand hx hb d_CH_noteFifth_6 ?_
  refine ss_rt (y := nI (sx / 64 % 2 * 64)) (ss_and64 _ (by omega)) ?_
  refine lv_if_ne (tgt := 26) hx hb d_CH_noteFifth_7 (by decide) (fun c1 => ?_) (fun c1 => ?_)
  · have c1 := mt (n_eq0 (by omega)).mpr c1
    exact rw_retv hx hb hr hlocks d_CH_noteFifth_26 hS () (trivial) (by rw [show (dff sx z) = sx from by exact dff_b (by omega)]; exact hP)
  · have c1 := (n_eq0 (by omega)).mp c1
    refine lv_aload_n hx hb d_CH_noteFifth_10 rfl (lv_at hl 0 rfl) ?_
    refine lv_aload_n hx hb d_CH_noteFifth_11 rfl (lv_at hl 0 rfl) ?_
    refine va_get (D := D) (ci := 2) (v := .int (nI sx)) (C := R_CH) (T := T_CH) (N := 6) hx hb hts in_CH hown hK hP 0 rfl rfl 2 (by decide) (hts _ w_54) (fun _ h9 => h9) rfl d_CH_noteFifth_12 ?_
    refine lv_bipush (v := (-32)) hx hb d_CH_noteFifth_15 (by decide +kernel) ?_
    refine lv_iand hx hb d_CH_noteFifth_17 ?_
    refine lv_bipush (v := nI 64) hx hb d_CH_noteFifth_18 (by decide +kernel) ?_
    refine lv_ior hx hb d_CH_noteFifth_20 ?_
    refine lv_iload_n hx hb d_CH_noteFifth_21 rfl (lv_at hl 1 rfl) ?_
    refine lv_ior hx hb d_CH_noteFifth_22 ?_
    refine ss_rt (y := nI (dff sx z)) (ss_fif _ (by omega) _ (by omega) (by omega)) ?_
    refine va_put (D := D) (ci := 2) (v := .int (nI (dff sx z))) (ty := .int) (C := R_CH) (T := T_CH) (N := 6) hx hb hts in_CH t_CH o_CH n_CH hown hK hP hD hS 0 rfl rfl 2 (by decide) (hts _ w_54) (fun _ h9 => h9) rfl (by decide +kernel) rfl rfl (Nat.le_of_ble_eq_true rfl) d_CH_noteFifth_23 (fun H locs hP hD hS => ?_)
    have hP : va_P D vwCl (chW q k B R (dff sx z) pt rd wt) _ := hP
    have hD : va_D A (chW q k B R (dff sx z) pt rd wt) := hD
    exact rw_retv hx hb hr hlocks d_CH_noteFifth_26 hS () (trivial) hP
