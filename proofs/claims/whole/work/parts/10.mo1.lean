def mW (q : Nat → Nat) (k : Nat → ClassId) (cd : Int32) (wd : Nat → Nat) (se : Nat → Nat) (kd : Nat → Nat) (bn : Nat → Int32) (sh : Nat → Nat) (mb : Nat → Nat) (pr : Nat) (B : Nat → Nat) (R : Nat → Nat) (sx : Nat) (pt : Nat) (rd : Nat) (wt : Int32) (ln : Nat) (px : Nat → Nat) : va_W := [(q 0, .inr (7, [.int cd, .ref (q 1), .ref (q 2), .ref (q 3), .ref (q 4), .ref (q 5), .ref (q 6), .int (nI pr), .ref (q 7), .ref (q 8), .int (nI sx), .int (nI pt), .int (nI rd), .int wt, .int (nI ln), .ref (q 9)])), (q 1, .inl (k 1, 4, .inl (fun j => nI (wd j)))), (q 2, .inl (k 0, 4, .inl (fun j => nI (se j)))), (q 3, .inl (k 0, 16, .inl (fun j => nI (kd j)))), (q 4, .inl (k 0, 16, .inl (bn))), (q 5, .inl (k 0, 64, .inl (fun j => nI (sh j)))), (q 6, .inl (k 0, 4096, .inl (fun j => nI (mb j)))), (q 7, .inl (k 0, 512, .inl (fun j => nI (B j)))), (q 8, .inl (k 0, 8, .inl (fun j => nI (R j)))), (q 9, .inl (k 0, 2048, .inl (fun j => nI (px j))))]
set_option maxHeartbeats 4000000 in
set_option maxRecDepth 100000 in
theorem c_MO_within (l : Launch) (D : va_G) (k : Nat → ClassId) (v lo hi : Nat) (hv : v < 2 ^ 31) (hlo : lo < 2 ^ 31) (hhi : hi < 2 ^ 31) : ro_i l y_MO_within b_MO_within 3 (some .boolean) { frames := 0, cells := 0, slots := 0, locals := 0 } D (kT k) [] [.int (nI v), .int (nI lo), .int (nI hi)] (bI (lo ≤ v ∧ v ≤ hi)) := by
  refine ro_headi (by decide) (Nat.le_of_ble_eq_true rfl) ?_
  intro p e s m below meth c ls hx hb hr hlocks hml hown hts hP hK hl
  have hown : s.vm.findClass "SlotScreenModel" = some m.cls := hown
  have hl : lv_has ls 3 [(0, .int (nI v)), (1, .int (nI lo)), (2, .int (nI hi))] := hl
  refine lv_iload_n hx hb d_MO_within_0 rfl (lv_at hl 0 rfl) ?_
  refine lv_iload_n hx hb d_MO_within_1 rfl (lv_at hl 1 rfl) ?_
  refine lv_icmp_lt (tgt := 14) hx hb d_MO_within_2 (by decide) (fun c1 => ?_) (fun c1 => ?_)
  · have c1 := (nI_ltI (by omega) (by omega)).mp c1
    refine lv_iconst (v := nI 0) hx hb d_MO_within_14 (by decide +kernel) ?_
    exact ro_retz hx hb hr hlocks d_MO_within_15 (by decide +kernel) (bI_f (by omega))
  · have c1 := mt (nI_ltI (by omega) (by omega)).mpr c1
    refine lv_iload_n hx hb d_MO_within_5 rfl (lv_at hl 0 rfl) ?_
    refine lv_iload_n hx hb d_MO_within_6 rfl (lv_at hl 2 rfl) ?_
    refine lv_icmp_gt (tgt := 14) hx hb d_MO_within_7 (by decide) (fun c2 => ?_) (fun c2 => ?_)
    · have c2 := (nI_ltI (by omega) (by omega)).mp c2
      refine lv_iconst (v := nI 0) hx hb d_MO_within_14 (by decide +kernel) ?_
      exact ro_retz hx hb hr hlocks d_MO_within_15 (by decide +kernel) (bI_f (by omega))
    · have c2 := mt (nI_ltI (by omega) (by omega)).mpr c2
      refine lv_iconst (v := nI 1) hx hb d_MO_within_10 (by decide +kernel) ?_
      refine lv_goto (tgt := 15) hx hb d_MO_within_11 (by decide) ?_
      exact ro_retz hx hb hr hlocks d_MO_within_15 (by decide +kernel) (bI_t (by omega))
set_option maxHeartbeats 4000000 in
set_option maxRecDepth 100000 in
theorem c_MO_withinZ (l : Launch) (D : va_G) (k : Nat → ClassId) (v : Int32) (lo hi : Nat) (hlo : lo < 2 ^ 31) (hhi : hi < 2 ^ 31) : ro_i l y_MO_within b_MO_within 3 (some .boolean) { frames := 0, cells := 0, slots := 0, locals := 0 } D (kT k) [] [.int v, .int (nI lo), .int (nI hi)] (bI ((lo : Int) ≤ v.toInt ∧ v.toInt ≤ (hi : Int))) := by
  refine ro_headi (by decide) (Nat.le_of_ble_eq_true rfl) ?_
  intro p e s m below meth c ls hx hb hr hlocks hml hown hts hP hK hl
  have hown : s.vm.findClass "SlotScreenModel" = some m.cls := hown
  have hl : lv_has ls 3 [(0, .int v), (1, .int (nI lo)), (2, .int (nI hi))] := hl
  refine lv_iload_n hx hb d_MO_within_0 rfl (lv_at hl 0 rfl) ?_
  refine lv_iload_n hx hb d_MO_within_1 rfl (lv_at hl 1 rfl) ?_
  refine lv_icmp_lt (tgt := 14) hx hb d_MO_within_2 (by decide) (fun c1 => ?_) (fun c1 => ?_)
  · have c1 := (zn_lt (by omega)).mp c1
    refine lv_iconst (v := nI 0) hx hb d_MO_within_14 (by decide +kernel) ?_
    exact ro_retz hx hb hr hlocks d_MO_within_15 (by decide +kernel) (bI_f (by omega))
  · have c1 := mt (zn_lt (by omega)).mpr c1
    refine lv_iload_n hx hb d_MO_within_5 rfl (lv_at hl 0 rfl) ?_
    refine lv_iload_n hx hb d_MO_within_6 rfl (lv_at hl 2 rfl) ?_
    refine lv_icmp_gt (tgt := 14) hx hb d_MO_within_7 (by decide) (fun c2 => ?_) (fun c2 => ?_)
    · have c2 := (nz_lt (by omega)).mp c2
      refine lv_iconst (v := nI 0) hx hb d_MO_within_14 (by decide +kernel) ?_
      exact ro_retz hx hb hr hlocks d_MO_within_15 (by decide +kernel) (bI_f (by omega))
    · have c2 := mt (nz_lt (by omega)).mpr c2
      refine lv_iconst (v := nI 1) hx hb d_MO_within_10 (by decide +kernel) ?_
      refine lv_goto (tgt := 15) hx hb d_MO_within_11 (by decide) ?_
      exact ro_retz hx hb hr hlocks d_MO_within_15 (by decide +kernel) (bI_t (by omega))
set_option maxHeartbeats 4000000 in
set_option maxRecDepth 100000 in
theorem c_MO_bit (l : Launch) (D : va_G) (k : Nat → ClassId) (q : Nat → Nat) (cd : Int32) (wd : Nat → Nat) (se : Nat → Nat) (kd : Nat → Nat) (bn : Nat → Int32) (sh : Nat → Nat) (mb : Nat → Nat) (pr : Nat) (B : Nat → Nat) (R : Nat → Nat) (sx : Nat) (pt : Nat) (rd : Nat) (wt : Int32) (ln : Nat) (px : Nat → Nat) (v n : Nat) (hv : v < 2 ^ 31) (hn : n < 31) : ro_i l y_MO_bit b_MO_bit 3 (some .boolean) { frames := 0, cells := 0, slots := 0, locals := 0 } D (kT k) (mW q k cd wd se kd bn sh mb pr B R sx pt rd wt ln px) [.ref (q 0), .int (nI v), .int (nI n)] (bI (v / 2 ^ n % 2 = 1)) := by
  refine ro_headi (by decide) (Nat.le_of_ble_eq_true rfl) ?_
  intro p e s m below meth c ls hx hb hr hlocks hml hown hts hP hK hl
  have hown : s.vm.findClass "SlotScreenModel" = some m.cls := hown
  have hl : lv_has ls 3 [(0, .ref (q 0)), (1, .int (nI v)), (2, .int (nI n))] := hl
  refine lv_iload_n hx hb d_MO_bit_0 rfl (lv_at hl 1 rfl) ?_
  refine lv_iload_n hx hb d_MO_bit_1 rfl (lv_at hl 2 rfl) ?_
  refine lv_ishr hx hb d_MO_bit_2 ?_
  refine ss_rt (y := nI (v / 2 ^ n)) (ss_shr hv (by omega)) ?_
  refine lv_iconst (v := nI 1) hx hb d_MO_bit_3 (by decide +kernel) ?_
  refine lv_iand hx hb d_MO_bit_4 ?_
  refine ss_rt (y := nI (v / 2 ^ n % 2)) (pk_andN (Nat.lt_of_le_of_lt (Nat.div_le_self _ _) (by omega)) 1 (by decide +kernel)) ?_
  refine lv_iconst (v := nI 1) hx hb d_MO_bit_5 (by decide +kernel) ?_
  refine lv_icmp_ne (tgt := 13) hx hb d_MO_bit_6 (by decide) (fun c1 => ?_) (fun c1 => ?_)
  · have c1 := mt (nI_eq (by omega) (by omega)).mpr c1
    refine lv_iconst (v := nI 0) hx hb d_MO_bit_13 (by decide +kernel) ?_
    exact ro_retz hx hb hr hlocks d_MO_bit_14 (by decide +kernel) (bI_f (by omega))
  · have c1 := (nI_eq (by omega) (by omega)).mp c1
    refine lv_iconst (v := nI 1) hx hb d_MO_bit_9 (by decide +kernel) ?_
    refine lv_goto (tgt := 14) hx hb d_MO_bit_10 (by decide) ?_
    exact ro_retz hx hb hr hlocks d_MO_bit_14 (by decide +kernel) (bI_t (by omega))
set_option maxHeartbeats 4000000 in
set_option maxRecDepth 100000 in
theorem c_MO_sprite (l : Launch) (D : va_G) (k : Nat → ClassId) (q : Nat → Nat) (cd : Int32) (wd : Nat → Nat) (se : Nat → Nat) (kd : Nat → Nat) (bn : Nat → Int32) (sh : Nat → Nat) (mb : Nat → Nat) (pr : Nat) (B : Nat → Nat) (R : Nat → Nat) (sx : Nat) (pt : Nat) (rd : Nat) (wt : Int32) (ln : Nat) (px : Nat → Nat) (hB : ∀ j, B j < 256) (hR : ∀ j, R j < 256) (z w : Nat) (hz : z < 8) (hw : w < 4) : ro_i l y_MO_sprite b_MO_sprite 3 (some .int) { frames := 0, cells := 0, slots := 0, locals := 0 } D (kT k) (mW q k cd wd se kd bn sh mb pr B R sx pt rd wt ln px) [.ref (q 0), .int (nI z), .int (nI w)] (nI (dsp B R z w)) := by
  refine ro_headi (by decide) (Nat.le_of_ble_eq_true rfl) ?_
  intro p e s m below meth c ls hx hb hr hlocks hml hown hts hP hK hl
  have hown : s.vm.findClass "SlotScreenModel" = some m.cls := hown
  have hl : lv_has ls 3 [(0, .ref (q 0)), (1, .int (nI z)), (2, .int (nI w))] := hl
  refine lv_aload_n hx hb d_MO_sprite_0 rfl (lv_at hl 0 rfl) ?_
  refine va_get (D := D) (ci := 7) (v := .ref (q 7)) (C := R_MO) (T := T_MO) (N := 16) hx hb hts in_MO hown hK hP 0 rfl rfl 8 (by decide) (hts _ w_538) (fun _ h9 => h9) rfl d_MO_sprite_1 ?_
  refine lv_bipush (v := nI 32) hx hb d_MO_sprite_4 (by decide +kernel) ?_
  refine lv_aload_n hx hb d_MO_sprite_6 rfl (lv_at hl 0 rfl) ?_
  refine va_get (D := D) (ci := 7) (v := .ref (q 8)) (C := R_MO) (T := T_MO) (N := 16) hx hb hts in_MO hown hK hP 0 rfl rfl 9 (by decide) (hts _ w_539) (fun _ h9 => h9) rfl d_MO_sprite_7 ?_
  refine lv_iconst (v := nI 5) hx hb d_MO_sprite_10 (by decide +kernel) ?_
  refine va_iald hx hb hK hP 8 0 rfl rfl (vp_in_nI (by omega) (by omega)) d_MO_sprite_11 ?_
  refine ss_rt (y := nI (R 5)) (congrArg (fun z => nI (R z)) (nI_clamp (by omega))) ?_
  have g1 := hR 5
  refine lv_bipush (v := nI 16) hx hb d_MO_sprite_12 (by decide +kernel) ?_
  refine lv_irem hx hb d_MO_sprite_14 (by first | decide +kernel | exact nI_ne0 (by omega) (by omega)) ?_
  refine ss_rt (y := nI ((R 5) % 16)) (pk_rem (by omega) (by omega) (by omega)) ?_
  refine lv_imul hx hb d_MO_sprite_15 ?_
  refine ss_rt (y := nI (32 * ((R 5) % 16))) (pk_mul _ _) ?_
  refine lv_iconst (v := nI 4) hx hb d_MO_sprite_16 (by decide +kernel) ?_
  refine lv_iload_n hx hb d_MO_sprite_17 rfl (lv_at hl 1 rfl) ?_
  refine lv_imul hx hb d_MO_sprite_18 ?_
  refine ss_rt (y := nI (4 * z)) (pk_mul _ _) ?_
  refine lv_iadd hx hb d_MO_sprite_19 ?_
  refine ss_rt (y := nI (32 * ((R 5) % 16) + (4 * z))) (nI_add _ _) ?_
  refine lv_iload_n hx hb d_MO_sprite_20 rfl (lv_at hl 2 rfl) ?_
  refine lv_iadd hx hb d_MO_sprite_21 ?_
  refine ss_rt (y := nI (32 * ((R 5) % 16) + (4 * z) + w)) (nI_add _ _) ?_
  refine va_iald hx hb hK hP 7 0 rfl rfl (vp_in_nI (by omega) (by omega)) d_MO_sprite_22 ?_
  refine ss_rt (y := nI (B (32 * ((R 5) % 16) + (4 * z) + w))) (congrArg (fun z => nI (B z)) (nI_clamp (by omega))) ?_
  have g2 := hB (32 * ((R 5) % 16) + (4 * z) + w)
  exact ro_reti hx hb hr hlocks d_MO_sprite_23 (rfl)
set_option maxHeartbeats 4000000 in
set_option maxRecDepth 100000 in
theorem c_MO_times (l : Launch) (D : va_G) (k : Nat → ClassId) (q : Nat → Nat) (cd : Int32) (wd : Nat → Nat) (se : Nat → Nat) (kd : Nat → Nat) (bn : Nat → Int32) (sh : Nat → Nat) (mb : Nat → Nat) (pr : Nat) (B : Nat → Nat) (R : Nat → Nat) (sx : Nat) (pt : Nat) (rd : Nat) (wt : Int32) (ln : Nat) (px : Nat → Nat) (hB : ∀ j, B j < 256) (hR : ∀ j, R j < 256) : ro_i l y_MO_times b_MO_times 1 (some .int) { frames := 1, cells := 0, slots := 0, locals := 22 } D (kT k) (mW q k cd wd se kd bn sh mb pr B R sx pt rd wt ln px) [.ref (q 0)] (nI (dtm R)) := by
  refine ro_headi (by decide) (Nat.le_of_ble_eq_true rfl) ?_
  intro p e s m below meth c ls hx hb hr hlocks hml hown hts hP hK hl
  have hown : s.vm.findClass "SlotScreenModel" = some m.cls := hown
  have hl : lv_has ls 1 [(0, .ref (q 0))] := hl
  refine lv_aload_n hx hb d_MO_times_0 rfl (lv_at hl 0 rfl) ?_
  refine lv_aload_n hx hb d_MO_times_1 rfl (lv_at hl 0 rfl) ?_
  refine va_get (D := D) (ci := 7) (v := .ref (q 8)) (C := R_MO) (T := T_MO) (N := 16) hx hb hts in_MO hown hK hP 0 rfl rfl 9 (by decide) (hts _ w_539) (fun _ h9 => h9) rfl d_MO_times_2 ?_
  refine lv_iconst (v := nI 1) hx hb d_MO_times_5 (by decide +kernel) ?_
  refine va_iald hx hb hK hP 8 0 rfl rfl (vp_in_nI (by omega) (by omega)) d_MO_times_6 ?_
  refine ss_rt (y := nI (R 1)) (congrArg (fun z => nI (R z)) (nI_clamp (by omega))) ?_
  have g1 := hR 1
  refine lv_iconst (v := nI 0) hx hb d_MO_times_7 (by decide +kernel) ?_
  refine kr_iV (As := [.int (nI (R 1)), .int (nI 0)]) (rest := []) ⟨hx, hb, hml, hown, hts⟩ (c_MO_bit l D k q cd wd se kd bn sh mb pr B R sx pt rd wt ln px (R 1) 0 (by omega) (by omega)) (cwV 2 hts (gV w_653 w_655 w_p20 w_5 w_656) rfl rfl rfl (by decide +kernel) ⟨Nat.le_of_ble_eq_true rfl, Nat.le_of_ble_eq_true rfl⟩) hK hP (va_recv hK hP (ci := 7) (q0 := 0) rfl rfl) rfl hl.1 rfl (Nat.le_of_ble_eq_true rfl) d_MO_times_8 ⟨Nat.zero_le _, Nat.zero_le _⟩ ?_
  refine lv_if_eq (tgt := 18) hx hb d_MO_times_11 (by decide) (fun c2 => ?_) (fun c2 => ?_)
  · have c2 := (bI_0).mp c2
    refine lv_iconst (v := nI 1) hx hb d_MO_times_18 (by decide +kernel) ?_
    exact ro_reti hx hb hr hlocks d_MO_times_19 (by unfold dtm; first | rw [if_pos (by omega)] | rw [if_neg (by omega)])
  · have c2 := mt (bI_0).mpr c2
    have c2 := Classical.not_not.mp c2
    refine lv_iconst (v := nI 2) hx hb d_MO_times_14 (by decide +kernel) ?_
    refine lv_goto (tgt := 19) hx hb d_MO_times_15 (by decide) ?_
    exact ro_reti hx hb hr hlocks d_MO_times_19 (by unfold dtm; first | rw [if_pos (by omega)] | rw [if_neg (by omega)])
set_option maxHeartbeats 4000000 in
set_option maxRecDepth 100000 in
theorem c_MO_size (l : Launch) (D : va_G) (k : Nat → ClassId) (q : Nat → Nat) (cd : Int32) (wd : Nat → Nat) (se : Nat → Nat) (kd : Nat → Nat) (bn : Nat → Int32) (sh : Nat → Nat) (mb : Nat → Nat) (pr : Nat) (B : Nat → Nat) (R : Nat → Nat) (sx : Nat) (pt : Nat) (rd : Nat) (wt : Int32) (ln : Nat) (px : Nat → Nat) (hB : ∀ j, B j < 256) (hR : ∀ j, R j < 256) : ro_i l y_MO_size b_MO_size 1 (some .int) { frames := 2, cells := 0, slots := 0, locals := 42 } D (kT k) (mW q k cd wd se kd bn sh mb pr B R sx pt rd wt ln px) [.ref (q 0)] (nI (dsz R)) := by
  refine ro_headi (by decide) (Nat.le_of_ble_eq_true rfl) ?_
  intro p e s m below meth c ls hx hb hr hlocks hml hown hts hP hK hl
  have hown : s.vm.findClass "SlotScreenModel" = some m.cls := hown
  have hl : lv_has ls 1 [(0, .ref (q 0))] := hl
  refine lv_aload_n hx hb d_MO_size_0 rfl (lv_at hl 0 rfl) ?_
  refine lv_aload_n hx hb d_MO_size_1 rfl (lv_at hl 0 rfl) ?_
  refine va_get (D := D) (ci := 7) (v := .ref (q 8)) (C := R_MO) (T := T_MO) (N := 16) hx hb hts in_MO hown hK hP 0 rfl rfl 9 (by decide) (hts _ w_539) (fun _ h9 => h9) rfl d_MO_size_2 ?_
  refine lv_iconst (v := nI 1) hx hb d_MO_size_5 (by decide +kernel) ?_
  refine va_iald hx hb hK hP 8 0 rfl rfl (vp_in_nI (by omega) (by omega)) d_MO_size_6 ?_
  refine ss_rt (y := nI (R 1)) (congrArg (fun z => nI (R z)) (nI_clamp (by omega))) ?_
  have g1 := hR 1
  refine lv_iconst (v := nI 1) hx hb d_MO_size_7 (by decide +kernel) ?_
  refine kr_iV (As := [.int (nI (R 1)), .int (nI 1)]) (rest := []) ⟨hx, hb, hml, hown, hts⟩ (c_MO_bit l D k q cd wd se kd bn sh mb pr B R sx pt rd wt ln px (R 1) 1 (by omega) (by omega)) (cwV 2 hts (gV w_653 w_655 w_p20 w_5 w_656) rfl rfl rfl (by decide +kernel) ⟨Nat.le_of_ble_eq_true rfl, Nat.le_of_ble_eq_true rfl⟩) hK hP (va_recv hK hP (ci := 7) (q0 := 0) rfl rfl) rfl hl.1 rfl (Nat.le_of_ble_eq_true rfl) d_MO_size_8 ⟨Nat.zero_le _, Nat.zero_le _⟩ ?_
  refine lv_if_eq (tgt := 19) hx hb d_MO_size_11 (by decide) (fun c2 => ?_) (fun c2 => ?_)
  · have c2 := (bI_0).mp c2
    refine lv_bipush (v := nI 8) hx hb d_MO_size_19 (by decide +kernel) ?_
    refine lv_aload_n hx hb d_MO_size_21 rfl (lv_at hl 0 rfl) ?_
    refine kr_iV (As := []) (rest := [.int (nI 8)]) ⟨hx, hb, hml, hown, hts⟩ (c_MO_times l D k q cd wd se kd bn sh mb pr B R sx pt rd wt ln px hB hR) (cwV 0 hts (gV w_677 w_679 w_p26 w_5 w_680) rfl rfl rfl (by decide +kernel) ⟨Nat.le_of_ble_eq_true rfl, Nat.le_of_ble_eq_true rfl⟩) hK hP (va_recv hK hP (ci := 7) (q0 := 0) rfl rfl) rfl hl.1 rfl (Nat.le_of_ble_eq_true rfl) d_MO_size_22 ⟨Nat.zero_le _, Nat.zero_le _⟩ ?_
    refine lv_imul hx hb d_MO_size_25 ?_
    refine ss_rt (y := nI (8 * (dtm R))) (pk_mul _ _) ?_
    exact ro_reti hx hb hr hlocks d_MO_size_26 (by unfold dsz dsd; first | rw [if_pos (by omega)] | rw [if_neg (by omega)])
  · have c2 := mt (bI_0).mpr c2
    have c2 := Classical.not_not.mp c2
    refine lv_bipush (v := nI 16) hx hb d_MO_size_14 (by decide +kernel) ?_
    refine lv_goto (tgt := 21) hx hb d_MO_size_16 (by decide) ?_
    refine lv_aload_n hx hb d_MO_size_21 rfl (lv_at hl 0 rfl) ?_
    refine kr_iV (As := []) (rest := [.int (nI 16)]) ⟨hx, hb, hml, hown, hts⟩ (c_MO_times l D k q cd wd se kd bn sh mb pr B R sx pt rd wt ln px hB hR) (cwV 0 hts (gV w_677 w_679 w_p26 w_5 w_680) rfl rfl rfl (by decide +kernel) ⟨Nat.le_of_ble_eq_true rfl, Nat.le_of_ble_eq_true rfl⟩) hK hP (va_recv hK hP (ci := 7) (q0 := 0) rfl rfl) rfl hl.1 rfl (Nat.le_of_ble_eq_true rfl) d_MO_size_22 ⟨Nat.zero_le _, Nat.zero_le _⟩ ?_
    refine lv_imul hx hb d_MO_size_25 ?_
    refine ss_rt (y := nI (16 * (dtm R))) (pk_mul _ _) ?_
    exact ro_reti hx hb hr hlocks d_MO_size_26 (by unfold dsz dsd; first | rw [if_pos (by omega)] | rw [if_neg (by omega)])
