set_option maxHeartbeats 4000000 in
set_option maxRecDepth 100000 in
theorem c_MO_readb (l : Launch) (D : va_G) (k : Nat → ClassId) (q : Nat → Nat) (cd : Int32) (wd : Nat → Nat) (se : Nat → Nat) (kd : Nat → Nat) (bn : Nat → Int32) (sh : Nat → Nat) (mb : Nat → Nat) (pr : Nat) (B : Nat → Nat) (R : Nat → Nat) (sx : Nat) (pt : Nat) (rd : Nat) (wt : Int32) (ln : Nat) (px : Nat → Nat) (x : Int32) (hx9 : x.toInt < 0 ∨ 255 < x.toInt) : rw_i l y_MO_read b_MO_read 3 (some .int) { frames := 3, cells := 0, slots := 0, locals := 67 } D (kT k) (mW q k cd wd se kd bn sh mb pr B R sx pt rd wt ln px) [.ref (q 0), .int x] (fun (r : Int32) (_ : Unit) => r = nI 0) (fun (_ : Unit) => (mW q k (nI 1) wd se kd bn sh mb pr B R sx pt rd wt ln px)) := by
  refine rw_headi (by decide) (Nat.le_of_ble_eq_true rfl) ?_
  intro p e s m below meth c ls A hx hb hr hlocks hml hown hts hK hA hP hD hS hl
  have hown : s.vm.findClass "SlotScreenModel" = some m.cls := hown
  have hl : lv_has ls 3 [(0, .ref (q 0)), (1, .int x)] := hl
  refine lv_aload_n hx hb d_MO_read_0 rfl (lv_at hl 0 rfl) ?_
  refine lv_iload_n hx hb d_MO_read_1 rfl (lv_at hl 1 rfl) ?_
  refine lv_iconst (v := nI 0) hx hb d_MO_read_2 (by decide +kernel) ?_
  refine lv_sipush (v := nI 255) hx hb d_MO_read_3 (by decide +kernel) ?_
  refine kr_iS (As := [.int x, .int (nI 0), .int (nI 255)]) (rest := [.ref (q 0)]) ⟨hx, hb, hml, hown, hts⟩ (c_MO_withinZ l D k x 0 255 (by omega) (by omega)) (va_cwS 3 hts (gS w_587 w_588 w_5 w_589) rfl rfl rfl (by decide +kernel) ⟨Nat.le_of_ble_eq_true rfl, Nat.le_of_ble_eq_true rfl⟩) hK va_nil rfl hl.1 rfl (Nat.le_of_ble_eq_true rfl) d_MO_read_6 ⟨Nat.zero_le _, Nat.zero_le _⟩ ?_
  refine lv_if_eq (tgt := 16) hx hb d_MO_read_9 (by decide) (fun c1 => ?_) (fun c1 => ?_)
  · have c1 := (bI_0).mp c1
    refine lv_iconst (v := nI 1) hx hb d_MO_read_16 (by decide +kernel) ?_
    refine va_put (D := D) (ci := 7) (v := .int (nI 1)) (ty := .int) (C := R_MO) (T := T_MO) (N := 16) hx hb hts in_MO t_MO o_MO n_MO hown hK hP hD hS 0 rfl rfl 0 (by decide) (hts _ w_530) (fun _ h9 => h9) rfl (by decide +kernel) rfl rfl (Nat.le_of_ble_eq_true rfl) d_MO_read_17 (fun H locs hP hD hS => ?_)
    have hP : va_P D vwCl (mW q k (nI 1) wd se kd bn sh mb pr B R sx pt rd wt ln px) H := hP
    have hD : va_D A (mW q k (nI 1) wd se kd bn sh mb pr B R sx pt rd wt ln px) := hD
    refine lv_aload_n hx hb d_MO_read_20 rfl (lv_at hl 0 rfl) ?_
    refine va_get (D := D) (ci := 7) (v := .int (nI 1)) (C := R_MO) (T := T_MO) (N := 16) hx hb hts in_MO hown hK hP 0 rfl rfl 0 (by decide) (hts _ w_530) (fun _ h9 => h9) rfl d_MO_read_21 ?_
    refine lv_if_eq (tgt := 29) hx hb d_MO_read_24 (by decide) (fun c2 => ?_) (fun c2 => ?_)
    · have c2 := (n_eq0 (by omega)).mp c2
      exfalso; omega
    · have c2 := mt (n_eq0 (by omega)).mpr c2
      refine lv_iconst (v := nI 0) hx hb d_MO_read_27 (by decide +kernel) ?_
      exact rw_reti hx hb hr hlocks d_MO_read_28 hS () (rfl) hP
  · have c1 := mt (bI_0).mpr c1
    have c1 := Classical.not_not.mp c1
    exfalso; omega
set_option maxHeartbeats 4000000 in
set_option maxRecDepth 100000 in
theorem c_MO_read (l : Launch) (D : va_G) (k : Nat → ClassId) (q : Nat → Nat) (cd : Int32) (wd : Nat → Nat) (se : Nat → Nat) (kd : Nat → Nat) (bn : Nat → Int32) (sh : Nat → Nat) (mb : Nat → Nat) (pr : Nat) (B : Nat → Nat) (R : Nat → Nat) (sx : Nat) (pt : Nat) (rd : Nat) (wt : Int32) (ln : Nat) (px : Nat → Nat) (hwd : ∀ j, wd j < 2) (hse : ∀ j, se j < 256) (hpr : pr < 256) (hkd : ∀ j, kd j < 5) (hsh : ∀ j, sh j < 8) (hmb : ∀ j, mb j < 256) (a : Nat) (ha : a < 256) : rw_i l y_MO_read b_MO_read 3 (some .int) { frames := 3, cells := 0, slots := 0, locals := 67 } D (kT k) (mW q k cd wd se kd bn sh mb pr B R sx pt rd wt ln px) [.ref (q 0), .int (nI a)] (fun (r : Int32) (_ : Unit) => r = nI (if a = 255 ∧ wd (msl pr a) = 1 then 255 - se (msl pr a) else mget kd sh mb (4 * msl pr a + mpg wd se (msl pr a) a) a)) (fun (_ : Unit) => (mW q k (nI 0) wd se kd bn sh mb pr B R sx pt rd wt ln px)) := by
  refine rw_headi (by decide) (Nat.le_of_ble_eq_true rfl) ?_
  intro p e s m below meth c ls A hx hb hr hlocks hml hown hts hK hA hP hD hS hl
  have hown : s.vm.findClass "SlotScreenModel" = some m.cls := hown
  have hl : lv_has ls 3 [(0, .ref (q 0)), (1, .int (nI a))] := hl
  have z1 := msl_lt pr a
  have z2 := mpg_lt wd se (msl pr a) a
  refine lv_aload_n hx hb d_MO_read_0 rfl (lv_at hl 0 rfl) ?_
  refine lv_iload_n hx hb d_MO_read_1 rfl (lv_at hl 1 rfl) ?_
  refine lv_iconst (v := nI 0) hx hb d_MO_read_2 (by decide +kernel) ?_
  refine lv_sipush (v := nI 255) hx hb d_MO_read_3 (by decide +kernel) ?_
  refine kr_iS (As := [.int (nI a), .int (nI 0), .int (nI 255)]) (rest := [.ref (q 0)]) ⟨hx, hb, hml, hown, hts⟩ (c_MO_within l D k a 0 255 (by omega) (by omega) (by omega)) (va_cwS 3 hts (gS w_587 w_588 w_5 w_589) rfl rfl rfl (by decide +kernel) ⟨Nat.le_of_ble_eq_true rfl, Nat.le_of_ble_eq_true rfl⟩) hK va_nil rfl hl.1 rfl (Nat.le_of_ble_eq_true rfl) d_MO_read_6 ⟨Nat.zero_le _, Nat.zero_le _⟩ ?_
  refine lv_if_eq (tgt := 16) hx hb d_MO_read_9 (by decide) (fun c1 => ?_) (fun c1 => ?_)
  · have c1 := (bI_0).mp c1
    exfalso; omega
  · have c1 := mt (bI_0).mpr c1
    have c1 := Classical.not_not.mp c1
    refine lv_iconst (v := nI 0) hx hb d_MO_read_12 (by decide +kernel) ?_
    refine lv_goto (tgt := 17) hx hb d_MO_read_13 (by decide) ?_
    refine va_put (D := D) (ci := 7) (v := .int (nI 0)) (ty := .int) (C := R_MO) (T := T_MO) (N := 16) hx hb hts in_MO t_MO o_MO n_MO hown hK hP hD hS 0 rfl rfl 0 (by decide) (hts _ w_530) (fun _ h9 => h9) rfl (by decide +kernel) rfl rfl (Nat.le_of_ble_eq_true rfl) d_MO_read_17 (fun H locs hP hD hS => ?_)
    have hP : va_P D vwCl (mW q k (nI 0) wd se kd bn sh mb pr B R sx pt rd wt ln px) H := hP
    have hD : va_D A (mW q k (nI 0) wd se kd bn sh mb pr B R sx pt rd wt ln px) := hD
    refine lv_aload_n hx hb d_MO_read_20 rfl (lv_at hl 0 rfl) ?_
    refine va_get (D := D) (ci := 7) (v := .int (nI 0)) (C := R_MO) (T := T_MO) (N := 16) hx hb hts in_MO hown hK hP 0 rfl rfl 0 (by decide) (hts _ w_530) (fun _ h9 => h9) rfl d_MO_read_21 ?_
    refine lv_if_eq (tgt := 29) hx hb d_MO_read_24 (by decide) (fun c2 => ?_) (fun c2 => ?_)
    · have c2 := (n_eq0 (by omega)).mp c2
      refine lv_aload_n hx hb d_MO_read_29 rfl (lv_at hl 0 rfl) ?_
      refine lv_iload_n hx hb d_MO_read_30 rfl (lv_at hl 1 rfl) ?_
      have g3 := msl_lt pr a
      refine kr_iV (As := [.int (nI a)]) (rest := []) ⟨hx, hb, hml, hown, hts⟩ (c_MO_slotOf l D k q (nI 0) wd se kd bn sh mb pr B R sx pt rd wt ln px (by omega) a (by omega)) (cwV 1 hts (gV w_602 w_604 w_p13 w_5 w_605) rfl rfl rfl (by decide +kernel) ⟨Nat.le_of_ble_eq_true rfl, Nat.le_of_ble_eq_true rfl⟩) hK hP (va_recv hK hP (ci := 7) (q0 := 0) rfl rfl) rfl hl.1 rfl (Nat.le_of_ble_eq_true rfl) d_MO_read_31 ⟨Nat.zero_le _, Nat.zero_le _⟩ ?_
      refine lv_istore_n (lv' := [(2, .int (nI (msl pr a))), (0, .ref (q 0)), (1, .int (nI a))]) hx hb d_MO_read_34 rfl hl (by decide) rfl (fun ls hl => ?_)
      refine lv_iload_n hx hb d_MO_read_35 rfl (lv_at hl 2 rfl) ?_
      refine lv_sipush (v := nI 255) hx hb d_MO_read_36 (by decide +kernel) ?_
      refine lv_icmp_ne (tgt := 64) hx hb d_MO_read_39 (by decide) (fun c4 => ?_) (fun c4 => ?_)
      · have c4 := mt (nI_eq (by omega) (by omega)).mpr c4
        refine lv_aload_n hx hb d_MO_read_64 rfl (lv_at hl 1 rfl) ?_
        refine lv_aload_n hx hb d_MO_read_65 rfl (lv_at hl 1 rfl) ?_
        refine lv_iload_n hx hb d_MO_read_66 rfl (lv_at hl 2 rfl) ?_
        have g5 := msl_lt pr a
        have g6 := mpg_lt wd se (msl pr a) a
        refine kr_iV (As := [.int (nI a)]) (rest := [.ref (q 0)]) ⟨hx, hb, hml, hown, hts⟩ (c_MO_deviceAt l D k q (nI 0) wd se kd bn sh mb pr B R sx pt rd wt ln px hwd hse hpr a (by omega)) (cwV 1 hts (gV w_609 w_611 w_p14 w_5 w_612) rfl rfl rfl (by decide +kernel) ⟨Nat.le_of_ble_eq_true rfl, Nat.le_of_ble_eq_true rfl⟩) hK hP (va_recv hK hP (ci := 7) (q0 := 0) rfl rfl) rfl hl.1 rfl (Nat.le_of_ble_eq_true rfl) d_MO_read_67 ⟨Nat.zero_le _, Nat.zero_le _⟩ ?_
        refine lv_iload_n hx hb d_MO_read_70 rfl (lv_at hl 2 rfl) ?_
        refine kr_iV (As := [.int (nI (4 * msl pr a + mpg wd se (msl pr a) a)), .int (nI a)]) (rest := []) ⟨hx, hb, hml, hown, hts⟩ (c_MO_get l D k q (nI 0) wd se kd bn sh mb pr B R sx pt rd wt ln px hkd hsh hmb (4 * msl pr a + mpg wd se (msl pr a) a) a (by omega) (by omega)) (cwV 2 hts (gV w_613 w_615 w_p15 w_5 w_616) rfl rfl rfl (by decide +kernel) ⟨Nat.le_of_ble_eq_true rfl, Nat.le_of_ble_eq_true rfl⟩) hK hP (va_recv hK hP (ci := 7) (q0 := 0) rfl rfl) rfl hl.1 rfl (Nat.le_of_ble_eq_true rfl) d_MO_read_71 ⟨Nat.zero_le _, Nat.zero_le _⟩ ?_
        exact rw_reti hx hb hr hlocks d_MO_read_74 hS () (by first | rw [if_pos (by omega)] | rw [if_neg (by omega)]) hP
      · have c4 := (nI_eq (by omega) (by omega)).mp c4
        refine lv_aload_n hx hb d_MO_read_42 rfl (lv_at hl 1 rfl) ?_
        refine va_get (D := D) (ci := 7) (v := .ref (q 1)) (C := R_MO) (T := T_MO) (N := 16) hx hb hts in_MO hown hK hP 0 rfl rfl 1 (by decide) (hts _ w_531) (fun _ h9 => h9) rfl d_MO_read_43 ?_
        refine lv_iload_n hx hb d_MO_read_46 rfl (lv_at hl 0 rfl) ?_
        refine va_zald hx hb hK hP 1 1 rfl rfl (vp_in_nI (by omega) (by omega)) d_MO_read_47 ?_
        refine ss_rt (y := nI (wd (msl pr a))) (congrArg (fun z => nI (wd z)) (nI_clamp (by omega))) ?_
        have g7 := hwd (msl pr a)
        refine lv_if_eq (tgt := 64) hx hb d_MO_read_48 (by decide) (fun c8 => ?_) (fun c8 => ?_)
        · have c8 := (n_eq0 (by omega)).mp c8
          refine lv_aload_n hx hb d_MO_read_64 rfl (lv_at hl 1 rfl) ?_
          refine lv_aload_n hx hb d_MO_read_65 rfl (lv_at hl 1 rfl) ?_
          refine lv_iload_n hx hb d_MO_read_66 rfl (lv_at hl 2 rfl) ?_
          have g9 := msl_lt pr a
          have g10 := mpg_lt wd se (msl pr a) a
          refine kr_iV (As := [.int (nI a)]) (rest := [.ref (q 0)]) ⟨hx, hb, hml, hown, hts⟩ (c_MO_deviceAt l D k q (nI 0) wd se kd bn sh mb pr B R sx pt rd wt ln px hwd hse hpr a (by omega)) (cwV 1 hts (gV w_609 w_611 w_p14 w_5 w_612) rfl rfl rfl (by decide +kernel) ⟨Nat.le_of_ble_eq_true rfl, Nat.le_of_ble_eq_true rfl⟩) hK hP (va_recv hK hP (ci := 7) (q0 := 0) rfl rfl) rfl hl.1 rfl (Nat.le_of_ble_eq_true rfl) d_MO_read_67 ⟨Nat.zero_le _, Nat.zero_le _⟩ ?_
          refine lv_iload_n hx hb d_MO_read_70 rfl (lv_at hl 2 rfl) ?_
          refine kr_iV (As := [.int (nI (4 * msl pr a + mpg wd se (msl pr a) a)), .int (nI a)]) (rest := []) ⟨hx, hb, hml, hown, hts⟩ (c_MO_get l D k q (nI 0) wd se kd bn sh mb pr B R sx pt rd wt ln px hkd hsh hmb (4 * msl pr a + mpg wd se (msl pr a) a) a (by omega) (by omega)) (cwV 2 hts (gV w_613 w_615 w_p15 w_5 w_616) rfl rfl rfl (by decide +kernel) ⟨Nat.le_of_ble_eq_true rfl, Nat.le_of_ble_eq_true rfl⟩) hK hP (va_recv hK hP (ci := 7) (q0 := 0) rfl rfl) rfl hl.1 rfl (Nat.le_of_ble_eq_true rfl) d_MO_read_71 ⟨Nat.zero_le _, Nat.zero_le _⟩ ?_
          exact rw_reti hx hb hr hlocks d_MO_read_74 hS () (by first | rw [if_pos (by omega)] | rw [if_neg (by omega)]) hP
        · have c8 := mt (n_eq0 (by omega)).mpr c8
          refine lv_sipush (v := nI 255) hx hb d_MO_read_51 (by decide +kernel) ?_
          refine lv_aload_n hx hb d_MO_read_54 rfl (lv_at hl 1 rfl) ?_
          refine va_get (D := D) (ci := 7) (v := .ref (q 2)) (C := R_MO) (T := T_MO) (N := 16) hx hb hts in_MO hown hK hP 0 rfl rfl 2 (by decide) (hts _ w_532) (fun _ h9 => h9) rfl d_MO_read_55 ?_
          refine lv_iload_n hx hb d_MO_read_58 rfl (lv_at hl 0 rfl) ?_
          refine va_iald hx hb hK hP 2 0 rfl rfl (vp_in_nI (by omega) (by omega)) d_MO_read_59 ?_
          refine ss_rt (y := nI (se (msl pr a))) (congrArg (fun z => nI (se z)) (nI_clamp (by omega))) ?_
          have g11 := hse (msl pr a)
          refine lv_isub hx hb d_MO_read_60 ?_
          refine ss_rt (y := nI (255 - (se (msl pr a)))) (pk_sub (by omega)) ?_
          refine lv_goto (tgt := 74) hx hb d_MO_read_61 (by decide) ?_
          exact rw_reti hx hb hr hlocks d_MO_read_74 hS () (by first | rw [if_pos (by omega)] | rw [if_neg (by omega)]) hP
    · have c2 := mt (n_eq0 (by omega)).mpr c2
      exfalso; omega
set_option maxHeartbeats 4000000 in
set_option maxRecDepth 100000 in
theorem c_MO_farb (l : Launch) (D : va_G) (k : Nat → ClassId) (q : Nat → Nat) (cd : Int32) (wd : Nat → Nat) (se : Nat → Nat) (kd : Nat → Nat) (bn : Nat → Int32) (sh : Nat → Nat) (mb : Nat → Nat) (pr : Nat) (B : Nat → Nat) (R : Nat → Nat) (sx : Nat) (pt : Nat) (rd : Nat) (wt : Int32) (ln : Nat) (px : Nat → Nat) (x y z : Int32) (hx9 : ¬ (0 ≤ x.toInt ∧ x.toInt ≤ 3 ∧ 0 ≤ y.toInt ∧ y.toInt ≤ 3 ∧ 0 ≤ z.toInt ∧ z.toInt ≤ 255)) : rw_i l y_MO_far b_MO_far 4 (some .int) { frames := 3, cells := 0, slots := 0, locals := 67 } D (kT k) (mW q k cd wd se kd bn sh mb pr B R sx pt rd wt ln px) [.ref (q 0), .int x, .int y, .int z] (fun (r : Int32) (_ : Unit) => r = nI 0) (fun (_ : Unit) => (mW q k (nI 1) wd se kd bn sh mb pr B R sx pt rd wt ln px)) := by
  refine rw_headi (by decide) (Nat.le_of_ble_eq_true rfl) ?_
  intro p e s m below meth c ls A hx hb hr hlocks hml hown hts hK hA hP hD hS hl
  have hown : s.vm.findClass "SlotScreenModel" = some m.cls := hown
  have hl : lv_has ls 4 [(0, .ref (q 0)), (1, .int x), (2, .int y), (3, .int z)] := hl
  refine lv_aload_n hx hb d_MO_far_0 rfl (lv_at hl 0 rfl) ?_
  refine lv_iload_n hx hb d_MO_far_1 rfl (lv_at hl 1 rfl) ?_
  refine lv_iconst (v := nI 0) hx hb d_MO_far_2 (by decide +kernel) ?_
  refine lv_iconst (v := nI 3) hx hb d_MO_far_3 (by decide +kernel) ?_
  refine kr_iS (As := [.int x, .int (nI 0), .int (nI 3)]) (rest := [.ref (q 0)]) ⟨hx, hb, hml, hown, hts⟩ (c_MO_withinZ l D k x 0 3 (by omega) (by omega)) (va_cwS 3 hts (gS w_587 w_588 w_5 w_589) rfl rfl rfl (by decide +kernel) ⟨Nat.le_of_ble_eq_true rfl, Nat.le_of_ble_eq_true rfl⟩) hK va_nil rfl hl.1 rfl (Nat.le_of_ble_eq_true rfl) d_MO_far_4 ⟨Nat.zero_le _, Nat.zero_le _⟩ ?_
  refine lv_if_eq (tgt := 34) hx hb d_MO_far_7 (by decide) (fun c1 => ?_) (fun c1 => ?_)
  · have c1 := (bI_0).mp c1
    refine lv_iconst (v := nI 1) hx hb d_MO_far_34 (by decide +kernel) ?_
    refine va_put (D := D) (ci := 7) (v := .int (nI 1)) (ty := .int) (C := R_MO) (T := T_MO) (N := 16) hx hb hts in_MO t_MO o_MO n_MO hown hK hP hD hS 0 rfl rfl 0 (by decide) (hts _ w_530) (fun _ h9 => h9) rfl (by decide +kernel) rfl rfl (Nat.le_of_ble_eq_true rfl) d_MO_far_35 (fun H locs hP hD hS => ?_)
    have hP : va_P D vwCl (mW q k (nI 1) wd se kd bn sh mb pr B R sx pt rd wt ln px) H := hP
    have hD : va_D A (mW q k (nI 1) wd se kd bn sh mb pr B R sx pt rd wt ln px) := hD
    refine lv_aload_n hx hb d_MO_far_38 rfl (lv_at hl 0 rfl) ?_
    refine va_get (D := D) (ci := 7) (v := .int (nI 1)) (C := R_MO) (T := T_MO) (N := 16) hx hb hts in_MO hown hK hP 0 rfl rfl 0 (by decide) (hts _ w_530) (fun _ h9 => h9) rfl d_MO_far_39 ?_
    refine lv_if_eq (tgt := 47) hx hb d_MO_far_42 (by decide) (fun c2 => ?_) (fun c2 => ?_)
    · have c2 := (n_eq0 (by omega)).mp c2
      exfalso; omega
    · have c2 := mt (n_eq0 (by omega)).mpr c2
      refine lv_iconst (v := nI 0) hx hb d_MO_far_45 (by decide +kernel) ?_
      exact rw_reti hx hb hr hlocks d_MO_far_46 hS () (rfl) hP
  · have c1 := mt (bI_0).mpr c1
    have c1 := Classical.not_not.mp c1
    refine lv_iload_n hx hb d_MO_far_10 rfl (lv_at hl 2 rfl) ?_
    refine lv_iconst (v := nI 0) hx hb d_MO_far_11 (by decide +kernel) ?_
    refine lv_iconst (v := nI 3) hx hb d_MO_far_12 (by decide +kernel) ?_
    refine kr_iS (As := [.int y, .int (nI 0), .int (nI 3)]) (rest := [.ref (q 0)]) ⟨hx, hb, hml, hown, hts⟩ (c_MO_withinZ l D k y 0 3 (by omega) (by omega)) (va_cwS 3 hts (gS w_587 w_588 w_5 w_589) rfl rfl rfl (by decide +kernel) ⟨Nat.le_of_ble_eq_true rfl, Nat.le_of_ble_eq_true rfl⟩) hK va_nil rfl hl.1 rfl (Nat.le_of_ble_eq_true rfl) d_MO_far_13 ⟨Nat.zero_le _, Nat.zero_le _⟩ ?_
    refine lv_if_eq (tgt := 34) hx hb d_MO_far_16 (by decide) (fun c3 => ?_) (fun c3 => ?_)
    · have c3 := (bI_0).mp c3
      refine lv_iconst (v := nI 1) hx hb d_MO_far_34 (by decide +kernel) ?_
      refine va_put (D := D) (ci := 7) (v := .int (nI 1)) (ty := .int) (C := R_MO) (T := T_MO) (N := 16) hx hb hts in_MO t_MO o_MO n_MO hown hK hP hD hS 0 rfl rfl 0 (by decide) (hts _ w_530) (fun _ h9 => h9) rfl (by decide +kernel) rfl rfl (Nat.le_of_ble_eq_true rfl) d_MO_far_35 (fun H locs hP hD hS => ?_)
      have hP : va_P D vwCl (mW q k (nI 1) wd se kd bn sh mb pr B R sx pt rd wt ln px) H := hP
      have hD : va_D A (mW q k (nI 1) wd se kd bn sh mb pr B R sx pt rd wt ln px) := hD
      refine lv_aload_n hx hb d_MO_far_38 rfl (lv_at hl 0 rfl) ?_
      refine va_get (D := D) (ci := 7) (v := .int (nI 1)) (C := R_MO) (T := T_MO) (N := 16) hx hb hts in_MO hown hK hP 0 rfl rfl 0 (by decide) (hts _ w_530) (fun _ h9 => h9) rfl d_MO_far_39 ?_
      refine lv_if_eq (tgt := 47) hx hb d_MO_far_42 (by decide) (fun c4 => ?_) (fun c4 => ?_)
      · have c4 := (n_eq0 (by omega)).mp c4
        exfalso; omega
      · have c4 := mt (n_eq0 (by omega)).mpr c4
        refine lv_iconst (v := nI 0) hx hb d_MO_far_45 (by decide +kernel) ?_
        exact rw_reti hx hb hr hlocks d_MO_far_46 hS () (rfl) hP
    · have c3 := mt (bI_0).mpr c3
      have c3 := Classical.not_not.mp c3
      refine lv_iload_n hx hb d_MO_far_19 rfl (lv_at hl 3 rfl) ?_
      refine lv_iconst (v := nI 0) hx hb d_MO_far_20 (by decide +kernel) ?_
      refine lv_sipush (v := nI 255) hx hb d_MO_far_21 (by decide +kernel) ?_
      refine kr_iS (As := [.int z, .int (nI 0), .int (nI 255)]) (rest := [.ref (q 0)]) ⟨hx, hb, hml, hown, hts⟩ (c_MO_withinZ l D k z 0 255 (by omega) (by omega)) (va_cwS 3 hts (gS w_587 w_588 w_5 w_589) rfl rfl rfl (by decide +kernel) ⟨Nat.le_of_ble_eq_true rfl, Nat.le_of_ble_eq_true rfl⟩) hK va_nil rfl hl.1 rfl (Nat.le_of_ble_eq_true rfl) d_MO_far_24 ⟨Nat.zero_le _, Nat.zero_le _⟩ ?_
      refine lv_if_eq (tgt := 34) hx hb d_MO_far_27 (by decide) (fun c5 => ?_) (fun c5 => ?_)
      · have c5 := (bI_0).mp c5
        refine lv_iconst (v := nI 1) hx hb d_MO_far_34 (by decide +kernel) ?_
        refine va_put (D := D) (ci := 7) (v := .int (nI 1)) (ty := .int) (C := R_MO) (T := T_MO) (N := 16) hx hb hts in_MO t_MO o_MO n_MO hown hK hP hD hS 0 rfl rfl 0 (by decide) (hts _ w_530) (fun _ h9 => h9) rfl (by decide +kernel) rfl rfl (Nat.le_of_ble_eq_true rfl) d_MO_far_35 (fun H locs hP hD hS => ?_)
        have hP : va_P D vwCl (mW q k (nI 1) wd se kd bn sh mb pr B R sx pt rd wt ln px) H := hP
        have hD : va_D A (mW q k (nI 1) wd se kd bn sh mb pr B R sx pt rd wt ln px) := hD
        refine lv_aload_n hx hb d_MO_far_38 rfl (lv_at hl 0 rfl) ?_
        refine va_get (D := D) (ci := 7) (v := .int (nI 1)) (C := R_MO) (T := T_MO) (N := 16) hx hb hts in_MO hown hK hP 0 rfl rfl 0 (by decide) (hts _ w_530) (fun _ h9 => h9) rfl d_MO_far_39 ?_
        refine lv_if_eq (tgt := 47) hx hb d_MO_far_42 (by decide) (fun c6 => ?_) (fun c6 => ?_)
        · have c6 := (n_eq0 (by omega)).mp c6
          exfalso; omega
        · have c6 := mt (n_eq0 (by omega)).mpr c6
          refine lv_iconst (v := nI 0) hx hb d_MO_far_45 (by decide +kernel) ?_
          exact rw_reti hx hb hr hlocks d_MO_far_46 hS () (rfl) hP
      · have c5 := mt (bI_0).mpr c5
        have c5 := Classical.not_not.mp c5
        exfalso; omega
set_option maxHeartbeats 4000000 in
set_option maxRecDepth 100000 in
theorem c_MO_far (l : Launch) (D : va_G) (k : Nat → ClassId) (q : Nat → Nat) (cd : Int32) (wd : Nat → Nat) (se : Nat → Nat) (kd : Nat → Nat) (bn : Nat → Int32) (sh : Nat → Nat) (mb : Nat → Nat) (pr : Nat) (B : Nat → Nat) (R : Nat → Nat) (sx : Nat) (pt : Nat) (rd : Nat) (wt : Int32) (ln : Nat) (px : Nat → Nat) (hwd : ∀ j, wd j < 2) (hse : ∀ j, se j < 256) (hpr : pr < 256) (hkd : ∀ j, kd j < 5) (hsh : ∀ j, sh j < 8) (hmb : ∀ j, mb j < 256) (s9 p9 a : Nat) (hs9 : s9 < 4) (hp9 : p9 < 4) (ha : a < 256) : rw_i l y_MO_far b_MO_far 4 (some .int) { frames := 3, cells := 0, slots := 0, locals := 67 } D (kT k) (mW q k cd wd se kd bn sh mb pr B R sx pt rd wt ln px) [.ref (q 0), .int (nI s9), .int (nI p9), .int (nI a)] (fun (r : Int32) (_ : Unit) => r = nI (if a = 255 ∧ wd s9 = 1 then 255 - (se s9 % 64 + 64 * p9) else mget kd sh mb (4 * s9 + (if wd s9 = 1 then p9 else 0)) a)) (fun (_ : Unit) => (mW q k (nI 0) wd se kd bn sh mb pr B R sx pt rd wt ln px)) := by
  refine rw_headi (by decide) (Nat.le_of_ble_eq_true rfl) ?_
  intro p e s m below meth c ls A hx hb hr hlocks hml hown hts hK hA hP hD hS hl
  have hown : s.vm.findClass "SlotScreenModel" = some m.cls := hown
  have hl : lv_has ls 4 [(0, .ref (q 0)), (1, .int (nI s9)), (2, .int (nI p9)), (3, .int (nI a))] := hl
  refine lv_aload_n hx hb d_MO_far_0 rfl (lv_at hl 0 rfl) ?_
  refine lv_iload_n hx hb d_MO_far_1 rfl (lv_at hl 1 rfl) ?_
  refine lv_iconst (v := nI 0) hx hb d_MO_far_2 (by decide +kernel) ?_
  refine lv_iconst (v := nI 3) hx hb d_MO_far_3 (by decide +kernel) ?_
  refine kr_iS (As := [.int (nI s9), .int (nI 0), .int (nI 3)]) (rest := [.ref (q 0)]) ⟨hx, hb, hml, hown, hts⟩ (c_MO_within l D k s9 0 3 (by omega) (by omega) (by omega)) (va_cwS 3 hts (gS w_587 w_588 w_5 w_589) rfl rfl rfl (by decide +kernel) ⟨Nat.le_of_ble_eq_true rfl, Nat.le_of_ble_eq_true rfl⟩) hK va_nil rfl hl.1 rfl (Nat.le_of_ble_eq_true rfl) d_MO_far_4 ⟨Nat.zero_le _, Nat.zero_le _⟩ ?_
  refine lv_if_eq (tgt := 34) hx hb d_MO_far_7 (by decide) (fun c1 => ?_) (fun c1 => ?_)
  · have c1 := (bI_0).mp c1
    exfalso; omega
  · have c1 := mt (bI_0).mpr c1
    have c1 := Classical.not_not.mp c1
    refine lv_iload_n hx hb d_MO_far_10 rfl (lv_at hl 2 rfl) ?_
    refine lv_iconst (v := nI 0) hx hb d_MO_far_11 (by decide +kernel) ?_
    refine lv_iconst (v := nI 3) hx hb d_MO_far_12 (by decide +kernel) ?_
    refine kr_iS (As := [.int (nI p9), .int (nI 0), .int (nI 3)]) (rest := [.ref (q 0)]) ⟨hx, hb, hml, hown, hts⟩ (c_MO_within l D k p9 0 3 (by omega) (by omega) (by omega)) (va_cwS 3 hts (gS w_587 w_588 w_5 w_589) rfl rfl rfl (by decide +kernel) ⟨Nat.le_of_ble_eq_true rfl, Nat.le_of_ble_eq_true rfl⟩) hK va_nil rfl hl.1 rfl (Nat.le_of_ble_eq_true rfl) d_MO_far_13 ⟨Nat.zero_le _, Nat.zero_le _⟩ ?_
    refine lv_if_eq (tgt := 34) hx hb d_MO_far_16 (by decide) (fun c2 => ?_) (fun c2 => ?_)
    · have c2 := (bI_0).mp c2
      exfalso; omega
    · have c2 := mt (bI_0).mpr c2
      have c2 := Classical.not_not.mp c2
      refine lv_iload_n hx hb d_MO_far_19 rfl (lv_at hl 3 rfl) ?_
      refine lv_iconst (v := nI 0) hx hb d_MO_far_20 (by decide +kernel) ?_
      refine lv_sipush (v := nI 255) hx hb d_MO_far_21 (by decide +kernel) ?_
      refine kr_iS (As := [.int (nI a), .int (nI 0), .int (nI 255)]) (rest := [.ref (q 0)]) ⟨hx, hb, hml, hown, hts⟩ (c_MO_within l D k a 0 255 (by omega) (by omega) (by omega)) (va_cwS 3 hts (gS w_587 w_588 w_5 w_589) rfl rfl rfl (by decide +kernel) ⟨Nat.le_of_ble_eq_true rfl, Nat.le_of_ble_eq_true rfl⟩) hK va_nil rfl hl.1 rfl (Nat.le_of_ble_eq_true rfl) d_MO_far_24 ⟨Nat.zero_le _, Nat.zero_le _⟩ ?_
      refine lv_if_eq (tgt := 34) hx hb d_MO_far_27 (by decide) (fun c3 => ?_) (fun c3 => ?_)
      · have c3 := (bI_0).mp c3
        exfalso; omega
      · have c3 := mt (bI_0).mpr c3
        have c3 := Classical.not_not.mp c3
        refine lv_iconst (v := nI 0) hx hb d_MO_far_30 (by decide +kernel) ?_
        refine lv_goto (tgt := 35) hx hb d_MO_far_31 (by decide) ?_
        refine va_put (D := D) (ci := 7) (v := .int (nI 0)) (ty := .int) (C := R_MO) (T := T_MO) (N := 16) hx hb hts in_MO t_MO o_MO n_MO hown hK hP hD hS 0 rfl rfl 0 (by decide) (hts _ w_530) (fun _ h9 => h9) rfl (by decide +kernel) rfl rfl (Nat.le_of_ble_eq_true rfl) d_MO_far_35 (fun H locs hP hD hS => ?_)
        have hP : va_P D vwCl (mW q k (nI 0) wd se kd bn sh mb pr B R sx pt rd wt ln px) H := hP
        have hD : va_D A (mW q k (nI 0) wd se kd bn sh mb pr B R sx pt rd wt ln px) := hD
        refine lv_aload_n hx hb d_MO_far_38 rfl (lv_at hl 0 rfl) ?_
        refine va_get (D := D) (ci := 7) (v := .int (nI 0)) (C := R_MO) (T := T_MO) (N := 16) hx hb hts in_MO hown hK hP 0 rfl rfl 0 (by decide) (hts _ w_530) (fun _ h9 => h9) rfl d_MO_far_39 ?_
        refine lv_if_eq (tgt := 47) hx hb d_MO_far_42 (by decide) (fun c4 => ?_) (fun c4 => ?_)
        · have c4 := (n_eq0 (by omega)).mp c4
          refine lv_iload_n hx hb d_MO_far_47 rfl (lv_at hl 3 rfl) ?_
          refine lv_sipush (v := nI 255) hx hb d_MO_far_48 (by decide +kernel) ?_
          refine lv_icmp_ne (tgt := 82) hx hb d_MO_far_51 (by decide) (fun c5 => ?_) (fun c5 => ?_)
          · have c5 := mt (nI_eq (by omega) (by omega)).mpr c5
            refine lv_aload_n hx hb d_MO_far_82 rfl (lv_at hl 0 rfl) ?_
            refine lv_iconst (v := nI 4) hx hb d_MO_far_83 (by decide +kernel) ?_
            refine lv_iload_n hx hb d_MO_far_84 rfl (lv_at hl 1 rfl) ?_
            refine lv_imul hx hb d_MO_far_85 ?_
            refine ss_rt (y := nI (4 * s9)) (pk_mul _ _) ?_
            refine lv_aload_n hx hb d_MO_far_86 rfl (lv_at hl 0 rfl) ?_
            refine va_get (D := D) (ci := 7) (v := .ref (q 1)) (C := R_MO) (T := T_MO) (N := 16) hx hb hts in_MO hown hK hP 0 rfl rfl 1 (by decide) (hts _ w_531) (fun _ h9 => h9) rfl d_MO_far_87 ?_
            refine lv_iload_n hx hb d_MO_far_90 rfl (lv_at hl 1 rfl) ?_
            refine va_zald hx hb hK hP 1 1 rfl rfl (vp_in_nI (by omega) (by omega)) d_MO_far_91 ?_
            refine ss_rt (y := nI (wd s9)) (congrArg (fun z => nI (wd z)) (nI_clamp (by omega))) ?_
            have g6 := hwd s9
            refine lv_if_eq (tgt := 99) hx hb d_MO_far_92 (by decide) (fun c7 => ?_) (fun c7 => ?_)
            · have c7 := (n_eq0 (by omega)).mp c7
              refine lv_iconst (v := nI 0) hx hb d_MO_far_99 (by decide +kernel) ?_
              refine lv_iadd hx hb d_MO_far_100 ?_
              refine ss_rt (y := nI (4 * s9 + 0)) (nI_add _ _) ?_
              refine lv_iload_n hx hb d_MO_far_101 rfl (lv_at hl 3 rfl) ?_
              refine kr_iV (As := [.int (nI (4 * s9 + 0)), .int (nI a)]) (rest := []) ⟨hx, hb, hml, hown, hts⟩ (c_MO_get l D k q (nI 0) wd se kd bn sh mb pr B R sx pt rd wt ln px hkd hsh hmb (4 * s9 + 0) a (by omega) (by omega)) (cwV 2 hts (gV w_613 w_615 w_p15 w_5 w_616) rfl rfl rfl (by decide +kernel) ⟨Nat.le_of_ble_eq_true rfl, Nat.le_of_ble_eq_true rfl⟩) hK hP (va_recv hK hP (ci := 7) (q0 := 0) rfl rfl) rfl hl.1 rfl (Nat.le_of_ble_eq_true rfl) d_MO_far_102 ⟨Nat.zero_le _, Nat.zero_le _⟩ ?_
              exact rw_reti hx hb hr hlocks d_MO_far_105 hS () (by rw [if_neg (by omega)]; first | rw [if_pos (by omega)] | rw [if_neg (by omega)]) hP
            · have c7 := mt (n_eq0 (by omega)).mpr c7
              refine lv_iload_n hx hb d_MO_far_95 rfl (lv_at hl 2 rfl) ?_
              refine lv_goto (tgt := 100) hx hb d_MO_far_96 (by decide) ?_
              refine lv_iadd hx hb d_MO_far_100 ?_
              refine ss_rt (y := nI (4 * s9 + p9)) (nI_add _ _) ?_
              refine lv_iload_n hx hb d_MO_far_101 rfl (lv_at hl 3 rfl) ?_
              refine kr_iV (As := [.int (nI (4 * s9 + p9)), .int (nI a)]) (rest := []) ⟨hx, hb, hml, hown, hts⟩ (c_MO_get l D k q (nI 0) wd se kd bn sh mb pr B R sx pt rd wt ln px hkd hsh hmb (4 * s9 + p9) a (by omega) (by omega)) (cwV 2 hts (gV w_613 w_615 w_p15 w_5 w_616) rfl rfl rfl (by decide +kernel) ⟨Nat.le_of_ble_eq_true rfl, Nat.le_of_ble_eq_true rfl⟩) hK hP (va_recv hK hP (ci := 7) (q0 := 0) rfl rfl) rfl hl.1 rfl (Nat.le_of_ble_eq_true rfl) d_MO_far_102 ⟨Nat.zero_le _, Nat.zero_le _⟩ ?_
              exact rw_reti hx hb hr hlocks d_MO_far_105 hS () (by rw [if_neg (by omega)]; first | rw [if_pos (by omega)] | rw [if_neg (by omega)]) hP
          · have c5 := (nI_eq (by omega) (by omega)).mp c5
            refine lv_aload_n hx hb d_MO_far_54 rfl (lv_at hl 0 rfl) ?_
            refine va_get (D := D) (ci := 7) (v := .ref (q 1)) (C := R_MO) (T := T_MO) (N := 16) hx hb hts in_MO hown hK hP 0 rfl rfl 1 (by decide) (hts _ w_531) (fun _ h9 => h9) rfl d_MO_far_55 ?_
            refine lv_iload_n hx hb d_MO_far_58 rfl (lv_at hl 1 rfl) ?_
            refine va_zald hx hb hK hP 1 1 rfl rfl (vp_in_nI (by omega) (by omega)) d_MO_far_59 ?_
            refine ss_rt (y := nI (wd s9)) (congrArg (fun z => nI (wd z)) (nI_clamp (by omega))) ?_
            have g8 := hwd s9
            refine lv_if_eq (tgt := 82) hx hb d_MO_far_60 (by decide) (fun c9 => ?_) (fun c9 => ?_)
            · have c9 := (n_eq0 (by omega)).mp c9
              refine lv_aload_n hx hb d_MO_far_82 rfl (lv_at hl 0 rfl) ?_
              refine lv_iconst (v := nI 4) hx hb d_MO_far_83 (by decide +kernel) ?_
              refine lv_iload_n hx hb d_MO_far_84 rfl (lv_at hl 1 rfl) ?_
              refine lv_imul hx hb d_MO_far_85 ?_
              refine ss_rt (y := nI (4 * s9)) (pk_mul _ _) ?_
              refine lv_aload_n hx hb d_MO_far_86 rfl (lv_at hl 0 rfl) ?_
              refine va_get (D := D) (ci := 7) (v := .ref (q 1)) (C := R_MO) (T := T_MO) (N := 16) hx hb hts in_MO hown hK hP 0 rfl rfl 1 (by decide) (hts _ w_531) (fun _ h9 => h9) rfl d_MO_far_87 ?_
              refine lv_iload_n hx hb d_MO_far_90 rfl (lv_at hl 1 rfl) ?_
              refine va_zald hx hb hK hP 1 1 rfl rfl (vp_in_nI (by omega) (by omega)) d_MO_far_91 ?_
              refine ss_rt (y := nI (wd s9)) (congrArg (fun z => nI (wd z)) (nI_clamp (by omega))) ?_
              have g10 := hwd s9
              refine lv_if_eq (tgt := 99) hx hb d_MO_far_92 (by decide) (fun c11 => ?_) (fun c11 => ?_)
              · have c11 := (n_eq0 (by omega)).mp c11
                refine lv_iconst (v := nI 0) hx hb d_MO_far_99 (by decide +kernel) ?_
                refine lv_iadd hx hb d_MO_far_100 ?_
                refine ss_rt (y := nI (4 * s9 + 0)) (nI_add _ _) ?_
                refine lv_iload_n hx hb d_MO_far_101 rfl (lv_at hl 3 rfl) ?_
                refine kr_iV (As := [.int (nI (4 * s9 + 0)), .int (nI a)]) (rest := []) ⟨hx, hb, hml, hown, hts⟩ (c_MO_get l D k q (nI 0) wd se kd bn sh mb pr B R sx pt rd wt ln px hkd hsh hmb (4 * s9 + 0) a (by omega) (by omega)) (cwV 2 hts (gV w_613 w_615 w_p15 w_5 w_616) rfl rfl rfl (by decide +kernel) ⟨Nat.le_of_ble_eq_true rfl, Nat.le_of_ble_eq_true rfl⟩) hK hP (va_recv hK hP (ci := 7) (q0 := 0) rfl rfl) rfl hl.1 rfl (Nat.le_of_ble_eq_true rfl) d_MO_far_102 ⟨Nat.zero_le _, Nat.zero_le _⟩ ?_
                exact rw_reti hx hb hr hlocks d_MO_far_105 hS () (by rw [if_neg (by omega)]; first | rw [if_pos (by omega)] | rw [if_neg (by omega)]) hP
              · have c11 := mt (n_eq0 (by omega)).mpr c11
                refine lv_iload_n hx hb d_MO_far_95 rfl (lv_at hl 2 rfl) ?_
                refine lv_goto (tgt := 100) hx hb d_MO_far_96 (by decide) ?_
                refine lv_iadd hx hb d_MO_far_100 ?_
                refine ss_rt (y := nI (4 * s9 + p9)) (nI_add _ _) ?_
                refine lv_iload_n hx hb d_MO_far_101 rfl (lv_at hl 3 rfl) ?_
                refine kr_iV (As := [.int (nI (4 * s9 + p9)), .int (nI a)]) (rest := []) ⟨hx, hb, hml, hown, hts⟩ (c_MO_get l D k q (nI 0) wd se kd bn sh mb pr B R sx pt rd wt ln px hkd hsh hmb (4 * s9 + p9) a (by omega) (by omega)) (cwV 2 hts (gV w_613 w_615 w_p15 w_5 w_616) rfl rfl rfl (by decide +kernel) ⟨Nat.le_of_ble_eq_true rfl, Nat.le_of_ble_eq_true rfl⟩) hK hP (va_recv hK hP (ci := 7) (q0 := 0) rfl rfl) rfl hl.1 rfl (Nat.le_of_ble_eq_true rfl) d_MO_far_102 ⟨Nat.zero_le _, Nat.zero_le _⟩ ?_
                exact rw_reti hx hb hr hlocks d_MO_far_105 hS () (by rw [if_neg (by omega)]; first | rw [if_pos (by omega)] | rw [if_neg (by omega)]) hP
            · have c9 := mt (n_eq0 (by omega)).mpr c9
              refine lv_sipush (v := nI 255) hx hb d_MO_far_63 (by decide +kernel) ?_
              refine lv_aload_n hx hb d_MO_far_66 rfl (lv_at hl 0 rfl) ?_
              refine va_get (D := D) (ci := 7) (v := .ref (q 2)) (C := R_MO) (T := T_MO) (N := 16) hx hb hts in_MO hown hK hP 0 rfl rfl 2 (by decide) (hts _ w_532) (fun _ h9 => h9) rfl d_MO_far_67 ?_
              refine lv_iload_n hx hb d_MO_far_70 rfl (lv_at hl 1 rfl) ?_
              refine va_iald hx hb hK hP 2 0 rfl rfl (vp_in_nI (by omega) (by omega)) d_MO_far_71 ?_
              refine ss_rt (y := nI (se s9)) (congrArg (fun z => nI (se z)) (nI_clamp (by omega))) ?_
              have g12 := hse s9
              refine lv_bipush (v := nI 64) hx hb d_MO_far_72 (by decide +kernel) ?_
              refine lv_irem hx hb d_MO_far_74 (by first | decide +kernel | exact nI_ne0 (by omega) (by omega)) ?_
              refine ss_rt (y := nI ((se s9) % 64)) (pk_rem (by omega) (by omega) (by omega)) ?_
              refine lv_bipush (v := nI 64) hx hb d_MO_far_75 (by decide +kernel) ?_
              refine lv_iload_n hx hb d_MO_far_77 rfl (lv_at hl 2 rfl) ?_
              refine lv_imul hx hb d_MO_far_78 ?_
              refine ss_rt (y := nI (64 * p9)) (pk_mul _ _) ?_
              refine lv_iadd hx hb d_MO_far_79 ?_
              refine ss_rt (y := nI ((se s9) % 64 + (64 * p9))) (nI_add _ _) ?_
              refine lv_isub hx hb d_MO_far_80 ?_
              refine ss_rt (y := nI (255 - ((se s9) % 64 + (64 * p9)))) (pk_sub (by omega)) ?_
              exact rw_reti hx hb hr hlocks d_MO_far_81 hS () (by first | rw [if_pos (by omega)] | rw [if_neg (by omega)]) hP
        · have c4 := mt (n_eq0 (by omega)).mpr c4
          exfalso; omega
set_option maxHeartbeats 4000000 in
set_option maxRecDepth 100000 in
theorem c_MO_writeb (l : Launch) (D : va_G) (k : Nat → ClassId) (q : Nat → Nat) (cd : Int32) (wd : Nat → Nat) (se : Nat → Nat) (kd : Nat → Nat) (bn : Nat → Int32) (sh : Nat → Nat) (mb : Nat → Nat) (pr : Nat) (B : Nat → Nat) (R : Nat → Nat) (sx : Nat) (pt : Nat) (rd : Nat) (wt : Int32) (ln : Nat) (px : Nat → Nat) (x y : Int32) (hx9 : ¬ (0 ≤ x.toInt ∧ x.toInt ≤ 255 ∧ 0 ≤ y.toInt ∧ y.toInt ≤ 255)) : rw_v l y_MO_write b_MO_write 5 none { frames := 3, cells := 0, slots := 0, locals := 67 } D (kT k) (mW q k cd wd se kd bn sh mb pr B R sx pt rd wt ln px) [.ref (q 0), .int x, .int y] (fun (_ : Unit) => True) (fun (_ : Unit) => (mW q k (nI 1) wd se kd bn sh mb pr B R sx pt rd wt ln px)) := by
  refine rw_headv (by decide) (Nat.le_of_ble_eq_true rfl) ?_
  intro p e s m below meth c ls A hx hb hr hlocks hml hown hts hK hA hP hD hS hl
  have hown : s.vm.findClass "SlotScreenModel" = some m.cls := hown
  have hl : lv_has ls 5 [(0, .ref (q 0)), (1, .int x), (2, .int y)] := hl
  refine lv_aload_n hx hb d_MO_write_0 rfl (lv_at hl 0 rfl) ?_
  refine lv_iload_n hx hb d_MO_write_1 rfl (lv_at hl 1 rfl) ?_
  refine lv_iconst (v := nI 0) hx hb d_MO_write_2 (by decide +kernel) ?_
  refine lv_sipush (v := nI 255) hx hb d_MO_write_3 (by decide +kernel) ?_
  refine kr_iS (As := [.int x, .int (nI 0), .int (nI 255)]) (rest := [.ref (q 0)]) ⟨hx, hb, hml, hown, hts⟩ (c_MO_withinZ l D k x 0 255 (by omega) (by omega)) (va_cwS 3 hts (gS w_587 w_588 w_5 w_589) rfl rfl rfl (by decide +kernel) ⟨Nat.le_of_ble_eq_true rfl, Nat.le_of_ble_eq_true rfl⟩) hK va_nil rfl hl.1 rfl (Nat.le_of_ble_eq_true rfl) d_MO_write_6 ⟨Nat.zero_le _, Nat.zero_le _⟩ ?_
  refine lv_if_eq (tgt := 27) hx hb d_MO_write_9 (by decide) (fun c1 => ?_) (fun c1 => ?_)
  · have c1 := (bI_0).mp c1
    refine lv_iconst (v := nI 1) hx hb d_MO_write_27 (by decide +kernel) ?_
    refine va_put (D := D) (ci := 7) (v := .int (nI 1)) (ty := .int) (C := R_MO) (T := T_MO) (N := 16) hx hb hts in_MO t_MO o_MO n_MO hown hK hP hD hS 0 rfl rfl 0 (by decide) (hts _ w_530) (fun _ h9 => h9) rfl (by decide +kernel) rfl rfl (Nat.le_of_ble_eq_true rfl) d_MO_write_28 (fun H locs hP hD hS => ?_)
    have hP : va_P D vwCl (mW q k (nI 1) wd se kd bn sh mb pr B R sx pt rd wt ln px) H := hP
    have hD : va_D A (mW q k (nI 1) wd se kd bn sh mb pr B R sx pt rd wt ln px) := hD
    refine lv_aload_n hx hb d_MO_write_31 rfl (lv_at hl 0 rfl) ?_
    refine va_get (D := D) (ci := 7) (v := .int (nI 1)) (C := R_MO) (T := T_MO) (N := 16) hx hb hts in_MO hown hK hP 0 rfl rfl 0 (by decide) (hts _ w_530) (fun _ h9 => h9) rfl d_MO_write_32 ?_
    refine lv_if_eq (tgt := 39) hx hb d_MO_write_35 (by decide) (fun c2 => ?_) (fun c2 => ?_)
    · have c2 := (n_eq0 (by omega)).mp c2
      exfalso; omega
    · have c2 := mt (n_eq0 (by omega)).mpr c2
      exact rw_retv hx hb hr hlocks d_MO_write_38 hS () (trivial) hP
  · have c1 := mt (bI_0).mpr c1
    have c1 := Classical.not_not.mp c1
    refine lv_iload_n hx hb d_MO_write_12 rfl (lv_at hl 2 rfl) ?_
    refine lv_iconst (v := nI 0) hx hb d_MO_write_13 (by decide +kernel) ?_
    refine lv_sipush (v := nI 255) hx hb d_MO_write_14 (by decide +kernel) ?_
    refine kr_iS (As := [.int y, .int (nI 0), .int (nI 255)]) (rest := [.ref (q 0)]) ⟨hx, hb, hml, hown, hts⟩ (c_MO_withinZ l D k y 0 255 (by omega) (by omega)) (va_cwS 3 hts (gS w_587 w_588 w_5 w_589) rfl rfl rfl (by decide +kernel) ⟨Nat.le_of_ble_eq_true rfl, Nat.le_of_ble_eq_true rfl⟩) hK va_nil rfl hl.1 rfl (Nat.le_of_ble_eq_true rfl) d_MO_write_17 ⟨Nat.zero_le _, Nat.zero_le _⟩ ?_
    refine lv_if_eq (tgt := 27) hx hb d_MO_write_20 (by decide) (fun c3 => ?_) (fun c3 => ?_)
    · have c3 := (bI_0).mp c3
      refine lv_iconst (v := nI 1) hx hb d_MO_write_27 (by decide +kernel) ?_
      refine va_put (D := D) (ci := 7) (v := .int (nI 1)) (ty := .int) (C := R_MO) (T := T_MO) (N := 16) hx hb hts in_MO t_MO o_MO n_MO hown hK hP hD hS 0 rfl rfl 0 (by decide) (hts _ w_530) (fun _ h9 => h9) rfl (by decide +kernel) rfl rfl (Nat.le_of_ble_eq_true rfl) d_MO_write_28 (fun H locs hP hD hS => ?_)
      have hP : va_P D vwCl (mW q k (nI 1) wd se kd bn sh mb pr B R sx pt rd wt ln px) H := hP
      have hD : va_D A (mW q k (nI 1) wd se kd bn sh mb pr B R sx pt rd wt ln px) := hD
      refine lv_aload_n hx hb d_MO_write_31 rfl (lv_at hl 0 rfl) ?_
      refine va_get (D := D) (ci := 7) (v := .int (nI 1)) (C := R_MO) (T := T_MO) (N := 16) hx hb hts in_MO hown hK hP 0 rfl rfl 0 (by decide) (hts _ w_530) (fun _ h9 => h9) rfl d_MO_write_32 ?_
      refine lv_if_eq (tgt := 39) hx hb d_MO_write_35 (by decide) (fun c4 => ?_) (fun c4 => ?_)
      · have c4 := (n_eq0 (by omega)).mp c4
        exfalso; omega
      · have c4 := mt (n_eq0 (by omega)).mpr c4
        exact rw_retv hx hb hr hlocks d_MO_write_38 hS () (trivial) hP
    · have c3 := mt (bI_0).mpr c3
      have c3 := Classical.not_not.mp c3
      exfalso; omega
set_option maxHeartbeats 4000000 in
set_option maxRecDepth 100000 in
theorem c_MO_writeS (l : Launch) (D : va_G) (k : Nat → ClassId) (q : Nat → Nat) (cd : Int32) (wd : Nat → Nat) (se : Nat → Nat) (kd : Nat → Nat) (bn : Nat → Int32) (sh : Nat → Nat) (mb : Nat → Nat) (pr : Nat) (B : Nat → Nat) (R : Nat → Nat) (sx : Nat) (pt : Nat) (rd : Nat) (wt : Int32) (ln : Nat) (px : Nat → Nat) (hwd : ∀ j, wd j < 2) (hse : ∀ j, se j < 256) (hpr : pr < 256) (hkd : ∀ j, kd j < 5) (hsh : ∀ j, sh j < 8) (hmb : ∀ j, mb j < 256) (a v : Nat) (ha : a < 256) (hv : v < 256) (h1 : a = 255 ∧ wd (msl pr a) = 1) : rw_v l y_MO_write b_MO_write 5 none { frames := 3, cells := 0, slots := 0, locals := 67 } D (kT k) (mW q k cd wd se kd bn sh mb pr B R sx pt rd wt ln px) [.ref (q 0), .int (nI a), .int (nI v)] (fun (_ : Unit) => True) (fun (_ : Unit) => (mW q k (nI 0) wd (ss_up se (msl pr a) v) kd bn sh mb pr B R sx pt rd wt ln px)) := by
  refine rw_headv (by decide) (Nat.le_of_ble_eq_true rfl) ?_
  intro p e s m below meth c ls A hx hb hr hlocks hml hown hts hK hA hP hD hS hl
  have hown : s.vm.findClass "SlotScreenModel" = some m.cls := hown
  have hl : lv_has ls 5 [(0, .ref (q 0)), (1, .int (nI a)), (2, .int (nI v))] := hl
  have z1 := msl_lt pr a
  have z2 := mpg_lt wd se (msl pr a) a
  refine lv_aload_n hx hb d_MO_write_0 rfl (lv_at hl 0 rfl) ?_
  refine lv_iload_n hx hb d_MO_write_1 rfl (lv_at hl 1 rfl) ?_
  refine lv_iconst (v := nI 0) hx hb d_MO_write_2 (by decide +kernel) ?_
  refine lv_sipush (v := nI 255) hx hb d_MO_write_3 (by decide +kernel) ?_
  refine kr_iS (As := [.int (nI a), .int (nI 0), .int (nI 255)]) (rest := [.ref (q 0)]) ⟨hx, hb, hml, hown, hts⟩ (c_MO_within l D k a 0 255 (by omega) (by omega) (by omega)) (va_cwS 3 hts (gS w_587 w_588 w_5 w_589) rfl rfl rfl (by decide +kernel) ⟨Nat.le_of_ble_eq_true rfl, Nat.le_of_ble_eq_true rfl⟩) hK va_nil rfl hl.1 rfl (Nat.le_of_ble_eq_true rfl) d_MO_write_6 ⟨Nat.zero_le _, Nat.zero_le _⟩ ?_
  refine lv_if_eq (tgt := 27) hx hb d_MO_write_9 (by decide) (fun c1 => ?_) (fun c1 => ?_)
  · have c1 := (bI_0).mp c1
    exfalso; omega
  · have c1 := mt (bI_0).mpr c1
    have c1 := Classical.not_not.mp c1
    refine lv_iload_n hx hb d_MO_write_12 rfl (lv_at hl 2 rfl) ?_
    refine lv_iconst (v := nI 0) hx hb d_MO_write_13 (by decide +kernel) ?_
    refine lv_sipush (v := nI 255) hx hb d_MO_write_14 (by decide +kernel) ?_
    refine kr_iS (As := [.int (nI v), .int (nI 0), .int (nI 255)]) (rest := [.ref (q 0)]) ⟨hx, hb, hml, hown, hts⟩ (c_MO_within l D k v 0 255 (by omega) (by omega) (by omega)) (va_cwS 3 hts (gS w_587 w_588 w_5 w_589) rfl rfl rfl (by decide +kernel) ⟨Nat.le_of_ble_eq_true rfl, Nat.le_of_ble_eq_true rfl⟩) hK va_nil rfl hl.1 rfl (Nat.le_of_ble_eq_true rfl) d_MO_write_17 ⟨Nat.zero_le _, Nat.zero_le _⟩ ?_
    refine lv_if_eq (tgt := 27) hx hb d_MO_write_20 (by decide) (fun c2 => ?_) (fun c2 => ?_)
    · have c2 := (bI_0).mp c2
      exfalso; omega
    · have c2 := mt (bI_0).mpr c2
      have c2 := Classical.not_not.mp c2
      refine lv_iconst (v := nI 0) hx hb d_MO_write_23 (by decide +kernel) ?_
      refine lv_goto (tgt := 28) hx hb d_MO_write_24 (by decide) ?_
      refine va_put (D := D) (ci := 7) (v := .int (nI 0)) (ty := .int) (C := R_MO) (T := T_MO) (N := 16) hx hb hts in_MO t_MO o_MO n_MO hown hK hP hD hS 0 rfl rfl 0 (by decide) (hts _ w_530) (fun _ h9 => h9) rfl (by decide +kernel) rfl rfl (Nat.le_of_ble_eq_true rfl) d_MO_write_28 (fun H locs hP hD hS => ?_)
      have hP : va_P D vwCl (mW q k (nI 0) wd se kd bn sh mb pr B R sx pt rd wt ln px) H := hP
      have hD : va_D A (mW q k (nI 0) wd se kd bn sh mb pr B R sx pt rd wt ln px) := hD
      refine lv_aload_n hx hb d_MO_write_31 rfl (lv_at hl 0 rfl) ?_
      refine va_get (D := D) (ci := 7) (v := .int (nI 0)) (C := R_MO) (T := T_MO) (N := 16) hx hb hts in_MO hown hK hP 0 rfl rfl 0 (by decide) (hts _ w_530) (fun _ h9 => h9) rfl d_MO_write_32 ?_
      refine lv_if_eq (tgt := 39) hx hb d_MO_write_35 (by decide) (fun c3 => ?_) (fun c3 => ?_)
      · have c3 := (n_eq0 (by omega)).mp c3
        refine lv_aload_n hx hb d_MO_write_39 rfl (lv_at hl 0 rfl) ?_
        refine lv_iload_n hx hb d_MO_write_40 rfl (lv_at hl 1 rfl) ?_
        have g4 := msl_lt pr a
        refine kr_iV (As := [.int (nI a)]) (rest := []) ⟨hx, hb, hml, hown, hts⟩ (c_MO_slotOf l D k q (nI 0) wd se kd bn sh mb pr B R sx pt rd wt ln px (by omega) a (by omega)) (cwV 1 hts (gV w_602 w_604 w_p13 w_5 w_605) rfl rfl rfl (by decide +kernel) ⟨Nat.le_of_ble_eq_true rfl, Nat.le_of_ble_eq_true rfl⟩) hK hP (va_recv hK hP (ci := 7) (q0 := 0) rfl rfl) rfl hl.1 rfl (Nat.le_of_ble_eq_true rfl) d_MO_write_41 ⟨Nat.zero_le _, Nat.zero_le _⟩ ?_
        refine lv_istore_n (lv' := [(3, .int (nI (msl pr a))), (0, .ref (q 0)), (1, .int (nI a)), (2, .int (nI v))]) hx hb d_MO_write_44 rfl hl (by decide) rfl (fun ls hl => ?_)
        refine lv_aload_n hx hb d_MO_write_45 rfl (lv_at hl 1 rfl) ?_
        refine lv_iload_n hx hb d_MO_write_46 rfl (lv_at hl 2 rfl) ?_
        have g5 := msl_lt pr a
        have g6 := mpg_lt wd se (msl pr a) a
        refine kr_iV (As := [.int (nI a)]) (rest := []) ⟨hx, hb, hml, hown, hts⟩ (c_MO_deviceAt l D k q (nI 0) wd se kd bn sh mb pr B R sx pt rd wt ln px hwd hse hpr a (by omega)) (cwV 1 hts (gV w_609 w_611 w_p14 w_5 w_612) rfl rfl rfl (by decide +kernel) ⟨Nat.le_of_ble_eq_true rfl, Nat.le_of_ble_eq_true rfl⟩) hK hP (va_recv hK hP (ci := 7) (q0 := 0) rfl rfl) rfl hl.1 rfl (Nat.le_of_ble_eq_true rfl) d_MO_write_47 ⟨Nat.zero_le _, Nat.zero_le _⟩ ?_
        refine lv_istore (lv' := [(4, .int (nI (4 * msl pr a + mpg wd se (msl pr a) a))), (3, .int (nI (msl pr a))), (0, .ref (q 0)), (1, .int (nI a)), (2, .int (nI v))]) hx hb d_MO_write_50 hl (by decide) rfl (fun ls hl => ?_)
        refine lv_iload_n hx hb d_MO_write_52 rfl (lv_at hl 3 rfl) ?_
        refine lv_sipush (v := nI 255) hx hb d_MO_write_53 (by decide +kernel) ?_
        refine lv_icmp_ne (tgt := 78) hx hb d_MO_write_56 (by decide) (fun c7 => ?_) (fun c7 => ?_)
        · have c7 := mt (nI_eq (by omega) (by omega)).mpr c7
          exfalso; omega
        · have c7 := (nI_eq (by omega) (by omega)).mp c7
          refine lv_aload_n hx hb d_MO_write_59 rfl (lv_at hl 2 rfl) ?_
          refine va_get (D := D) (ci := 7) (v := .ref (q 1)) (C := R_MO) (T := T_MO) (N := 16) hx hb hts in_MO hown hK hP 0 rfl rfl 1 (by decide) (hts _ w_531) (fun _ h9 => h9) rfl d_MO_write_60 ?_
          refine lv_iload_n hx hb d_MO_write_63 rfl (lv_at hl 1 rfl) ?_
          refine va_zald hx hb hK hP 1 1 rfl rfl (vp_in_nI (by omega) (by omega)) d_MO_write_64 ?_
          refine ss_rt (y := nI (wd (msl pr a))) (congrArg (fun z => nI (wd z)) (nI_clamp (by omega))) ?_
          have g8 := hwd (msl pr a)
          refine lv_if_eq (tgt := 78) hx hb d_MO_write_65 (by decide) (fun c9 => ?_) (fun c9 => ?_)
          · have c9 := (n_eq0 (by omega)).mp c9
            exfalso; omega
          · have c9 := mt (n_eq0 (by omega)).mpr c9
            refine lv_aload_n hx hb d_MO_write_68 rfl (lv_at hl 2 rfl) ?_
            refine va_get (D := D) (ci := 7) (v := .ref (q 2)) (C := R_MO) (T := T_MO) (N := 16) hx hb hts in_MO hown hK hP 0 rfl rfl 2 (by decide) (hts _ w_532) (fun _ h9 => h9) rfl d_MO_write_69 ?_
            refine lv_iload_n hx hb d_MO_write_72 rfl (lv_at hl 1 rfl) ?_
            refine lv_iload_n hx hb d_MO_write_73 rfl (lv_at hl 4 rfl) ?_
            refine va_iast hx hb hK hP hD hS 2 0 rfl rfl (vp_in_nI (by omega) (by omega)) d_MO_write_74 (fun H locs hP hD hS => ?_)
            rw [ss_upI se (k := (msl pr a)) (v := v) (by omega)] at hP hD
            have hP : va_P D vwCl (mW q k (nI 0) wd (ss_up se (msl pr a) v) kd bn sh mb pr B R sx pt rd wt ln px) H := hP
            have hD : va_D A (mW q k (nI 0) wd (ss_up se (msl pr a) v) kd bn sh mb pr B R sx pt rd wt ln px) := hD
            refine lv_goto (tgt := 164) hx hb d_MO_write_75 (by decide) ?_
            exact rw_retv hx hb hr hlocks d_MO_write_164 hS () (trivial) hP
      · have c3 := mt (n_eq0 (by omega)).mpr c3
        exfalso; omega
set_option maxHeartbeats 4000000 in
set_option maxRecDepth 100000 in
theorem c_MO_write3 (l : Launch) (D : va_G) (k : Nat → ClassId) (q : Nat → Nat) (cd : Int32) (wd : Nat → Nat) (se : Nat → Nat) (kd : Nat → Nat) (bn : Nat → Int32) (sh : Nat → Nat) (mb : Nat → Nat) (pr : Nat) (B : Nat → Nat) (R : Nat → Nat) (sx : Nat) (pt : Nat) (rd : Nat) (wt : Int32) (ln : Nat) (px : Nat → Nat) (hwd : ∀ j, wd j < 2) (hse : ∀ j, se j < 256) (hpr : pr < 256) (hkd : ∀ j, kd j < 5) (hsh : ∀ j, sh j < 8) (hmb : ∀ j, mb j < 256) (a v : Nat) (ha : a < 256) (hv : v < 256) (h1 : ¬ (a = 255 ∧ wd (msl pr a) = 1)) (n : Nat) (hn1 : 1 ≤ n) (hn2 : n ≤ 8) (hk : kd (4 * msl pr a + mpg wd se (msl pr a) a) = 3) (hbn : bn (4 * msl pr a + mpg wd se (msl pr a) a) = nI n) (h2 : 64 ≤ a ∧ a ≤ 191) : rw_v l y_MO_write b_MO_write 5 none { frames := 3, cells := 0, slots := 0, locals := 67 } D (kT k) (mW q k cd wd se kd bn sh mb pr B R sx pt rd wt ln px) [.ref (q 0), .int (nI a), .int (nI v)] (fun (_ : Unit) => True) (fun (_ : Unit) => (mW q k (nI 0) wd se kd bn (ss_up sh (4 * (4 * msl pr a + mpg wd se (msl pr a) a) + a / 32 - 2) (v % n)) mb pr B R sx pt rd wt ln px)) := by
  refine rw_headv (by decide) (Nat.le_of_ble_eq_true rfl) ?_
  intro p e s m below meth c ls A hx hb hr hlocks hml hown hts hK hA hP hD hS hl
  have hown : s.vm.findClass "SlotScreenModel" = some m.cls := hown
  have hl : lv_has ls 5 [(0, .ref (q 0)), (1, .int (nI a)), (2, .int (nI v))] := hl
  have z1 := msl_lt pr a
  have z2 := mpg_lt wd se (msl pr a) a
  refine lv_aload_n hx hb d_MO_write_0 rfl (lv_at hl 0 rfl) ?_
  refine lv_iload_n hx hb d_MO_write_1 rfl (lv_at hl 1 rfl) ?_
  refine lv_iconst (v := nI 0) hx hb d_MO_write_2 (by decide +kernel) ?_
  refine lv_sipush (v := nI 255) hx hb d_MO_write_3 (by decide +kernel) ?_
  refine kr_iS (As := [.int (nI a), .int (nI 0), .int (nI 255)]) (rest := [.ref (q 0)]) ⟨hx, hb, hml, hown, hts⟩ (c_MO_within l D k a 0 255 (by omega) (by omega) (by omega)) (va_cwS 3 hts (gS w_587 w_588 w_5 w_589) rfl rfl rfl (by decide +kernel) ⟨Nat.le_of_ble_eq_true rfl, Nat.le_of_ble_eq_true rfl⟩) hK va_nil rfl hl.1 rfl (Nat.le_of_ble_eq_true rfl) d_MO_write_6 ⟨Nat.zero_le _, Nat.zero_le _⟩ ?_
  refine lv_if_eq (tgt := 27) hx hb d_MO_write_9 (by decide) (fun c1 => ?_) (fun c1 => ?_)
  · have c1 := (bI_0).mp c1
    exfalso; omega
  · have c1 := mt (bI_0).mpr c1
    have c1 := Classical.not_not.mp c1
    refine lv_iload_n hx hb d_MO_write_12 rfl (lv_at hl 2 rfl) ?_
    refine lv_iconst (v := nI 0) hx hb d_MO_write_13 (by decide +kernel) ?_
    refine lv_sipush (v := nI 255) hx hb d_MO_write_14 (by decide +kernel) ?_
    refine kr_iS (As := [.int (nI v), .int (nI 0), .int (nI 255)]) (rest := [.ref (q 0)]) ⟨hx, hb, hml, hown, hts⟩ (c_MO_within l D k v 0 255 (by omega) (by omega) (by omega)) (va_cwS 3 hts (gS w_587 w_588 w_5 w_589) rfl rfl rfl (by decide +kernel) ⟨Nat.le_of_ble_eq_true rfl, Nat.le_of_ble_eq_true rfl⟩) hK va_nil rfl hl.1 rfl (Nat.le_of_ble_eq_true rfl) d_MO_write_17 ⟨Nat.zero_le _, Nat.zero_le _⟩ ?_
    refine lv_if_eq (tgt := 27) hx hb d_MO_write_20 (by decide) (fun c2 => ?_) (fun c2 => ?_)
    · have c2 := (bI_0).mp c2
      exfalso; omega
    · have c2 := mt (bI_0).mpr c2
      have c2 := Classical.not_not.mp c2
      refine lv_iconst (v := nI 0) hx hb d_MO_write_23 (by decide +kernel) ?_
      refine lv_goto (tgt := 28) hx hb d_MO_write_24 (by decide) ?_
      refine va_put (D := D) (ci := 7) (v := .int (nI 0)) (ty := .int) (C := R_MO) (T := T_MO) (N := 16) hx hb hts in_MO t_MO o_MO n_MO hown hK hP hD hS 0 rfl rfl 0 (by decide) (hts _ w_530) (fun _ h9 => h9) rfl (by decide +kernel) rfl rfl (Nat.le_of_ble_eq_true rfl) d_MO_write_28 (fun H locs hP hD hS => ?_)
      have hP : va_P D vwCl (mW q k (nI 0) wd se kd bn sh mb pr B R sx pt rd wt ln px) H := hP
      have hD : va_D A (mW q k (nI 0) wd se kd bn sh mb pr B R sx pt rd wt ln px) := hD
      refine lv_aload_n hx hb d_MO_write_31 rfl (lv_at hl 0 rfl) ?_
      refine va_get (D := D) (ci := 7) (v := .int (nI 0)) (C := R_MO) (T := T_MO) (N := 16) hx hb hts in_MO hown hK hP 0 rfl rfl 0 (by decide) (hts _ w_530) (fun _ h9 => h9) rfl d_MO_write_32 ?_
      refine lv_if_eq (tgt := 39) hx hb d_MO_write_35 (by decide) (fun c3 => ?_) (fun c3 => ?_)
      · have c3 := (n_eq0 (by omega)).mp c3
        refine lv_aload_n hx hb d_MO_write_39 rfl (lv_at hl 0 rfl) ?_
        refine lv_iload_n hx hb d_MO_write_40 rfl (lv_at hl 1 rfl) ?_
        have g4 := msl_lt pr a
        refine kr_iV (As := [.int (nI a)]) (rest := []) ⟨hx, hb, hml, hown, hts⟩ (c_MO_slotOf l D k q (nI 0) wd se kd bn sh mb pr B R sx pt rd wt ln px (by omega) a (by omega)) (cwV 1 hts (gV w_602 w_604 w_p13 w_5 w_605) rfl rfl rfl (by decide +kernel) ⟨Nat.le_of_ble_eq_true rfl, Nat.le_of_ble_eq_true rfl⟩) hK hP (va_recv hK hP (ci := 7) (q0 := 0) rfl rfl) rfl hl.1 rfl (Nat.le_of_ble_eq_true rfl) d_MO_write_41 ⟨Nat.zero_le _, Nat.zero_le _⟩ ?_
        refine lv_istore_n (lv' := [(3, .int (nI (msl pr a))), (0, .ref (q 0)), (1, .int (nI a)), (2, .int (nI v))]) hx hb d_MO_write_44 rfl hl (by decide) rfl (fun ls hl => ?_)
        refine lv_aload_n hx hb d_MO_write_45 rfl (lv_at hl 1 rfl) ?_
        refine lv_iload_n hx hb d_MO_write_46 rfl (lv_at hl 2 rfl) ?_
        have g5 := msl_lt pr a
        have g6 := mpg_lt wd se (msl pr a) a
        refine kr_iV (As := [.int (nI a)]) (rest := []) ⟨hx, hb, hml, hown, hts⟩ (c_MO_deviceAt l D k q (nI 0) wd se kd bn sh mb pr B R sx pt rd wt ln px hwd hse hpr a (by omega)) (cwV 1 hts (gV w_609 w_611 w_p14 w_5 w_612) rfl rfl rfl (by decide +kernel) ⟨Nat.le_of_ble_eq_true rfl, Nat.le_of_ble_eq_true rfl⟩) hK hP (va_recv hK hP (ci := 7) (q0 := 0) rfl rfl) rfl hl.1 rfl (Nat.le_of_ble_eq_true rfl) d_MO_write_47 ⟨Nat.zero_le _, Nat.zero_le _⟩ ?_
        refine lv_istore (lv' := [(4, .int (nI (4 * msl pr a + mpg wd se (msl pr a) a))), (3, .int (nI (msl pr a))), (0, .ref (q 0)), (1, .int (nI a)), (2, .int (nI v))]) hx hb d_MO_write_50 hl (by decide) rfl (fun ls hl => ?_)
        refine lv_iload_n hx hb d_MO_write_52 rfl (lv_at hl 3 rfl) ?_
        refine lv_sipush (v := nI 255) hx hb d_MO_write_53 (by decide +kernel) ?_
        refine lv_icmp_ne (tgt := 78) hx hb d_MO_write_56 (by decide) (fun c7 => ?_) (fun c7 => ?_)
        · have c7 := mt (nI_eq (by omega) (by omega)).mpr c7
          refine lv_aload_n hx hb d_MO_write_78 rfl (lv_at hl 2 rfl) ?_
          refine va_get (D := D) (ci := 7) (v := .ref (q 3)) (C := R_MO) (T := T_MO) (N := 16) hx hb hts in_MO hown hK hP 0 rfl rfl 3 (by decide) (hts _ w_533) (fun _ h9 => h9) rfl d_MO_write_79 ?_
          refine lv_iload hx hb d_MO_write_82 (lv_at hl 0 rfl) ?_
          refine va_iald hx hb hK hP 3 0 rfl rfl (vp_in_nI (by omega) (by omega)) d_MO_write_84 ?_
          refine ss_rt (y := nI (kd (4 * msl pr a + mpg wd se (msl pr a) a))) (congrArg (fun z => nI (kd z)) (nI_clamp (by omega))) ?_
          have g8 := hkd (4 * msl pr a + mpg wd se (msl pr a) a)
          refine lv_iconst (v := nI 3) hx hb d_MO_write_85 (by decide +kernel) ?_
          refine lv_icmp_ne (tgt := 129) hx hb d_MO_write_86 (by decide) (fun c9 => ?_) (fun c9 => ?_)
          · have c9 := mt (nI_eq (by omega) (by omega)).mpr c9
            exfalso; omega
          · have c9 := (nI_eq (by omega) (by omega)).mp c9
            refine lv_iload_n hx hb d_MO_write_89 rfl (lv_at hl 3 rfl) ?_
            refine lv_bipush (v := nI 64) hx hb d_MO_write_90 (by decide +kernel) ?_
            refine lv_sipush (v := nI 191) hx hb d_MO_write_92 (by decide +kernel) ?_
            refine kr_iS (As := [.int (nI a), .int (nI 64), .int (nI 191)]) (rest := []) ⟨hx, hb, hml, hown, hts⟩ (c_MO_within l D k a 64 191 (by omega) (by omega) (by omega)) (va_cwS 3 hts (gS w_587 w_588 w_5 w_589) rfl rfl rfl (by decide +kernel) ⟨Nat.le_of_ble_eq_true rfl, Nat.le_of_ble_eq_true rfl⟩) hK va_nil rfl hl.1 rfl (Nat.le_of_ble_eq_true rfl) d_MO_write_95 ⟨Nat.zero_le _, Nat.zero_le _⟩ ?_
            refine lv_if_eq (tgt := 164) hx hb d_MO_write_98 (by decide) (fun c10 => ?_) (fun c10 => ?_)
            · have c10 := (bI_0).mp c10
              exfalso; omega
            · have c10 := mt (bI_0).mpr c10
              have c10 := Classical.not_not.mp c10
              refine lv_aload_n hx hb d_MO_write_101 rfl (lv_at hl 2 rfl) ?_
              refine va_get (D := D) (ci := 7) (v := .ref (q 5)) (C := R_MO) (T := T_MO) (N := 16) hx hb hts in_MO hown hK hP 0 rfl rfl 5 (by decide) (hts _ w_535) (fun _ h9 => h9) rfl d_MO_write_102 ?_
              refine lv_iconst (v := nI 4) hx hb d_MO_write_105 (by decide +kernel) ?_
              refine lv_iload hx hb d_MO_write_106 (lv_at hl 0 rfl) ?_
              refine lv_imul hx hb d_MO_write_108 ?_
              refine ss_rt (y := nI (4 * (4 * msl pr a + mpg wd se (msl pr a) a))) (pk_mul _ _) ?_
              refine lv_iload_n hx hb d_MO_write_109 rfl (lv_at hl 3 rfl) ?_
              refine lv_bipush (v := nI 32) hx hb d_MO_write_110 (by decide +kernel) ?_
              refine lv_idiv hx hb d_MO_write_112 (by first | decide +kernel | exact nI_ne0 (by omega) (by omega)) ?_
              refine ss_rt (y := nI (a / 32)) (pk_div (by omega) (by omega) (by omega)) ?_
              refine lv_iadd hx hb d_MO_write_113 ?_
              refine ss_rt (y := nI (4 * (4 * msl pr a + mpg wd se (msl pr a) a) + (a / 32))) (nI_add _ _) ?_
              refine lv_iconst (v := nI 2) hx hb d_MO_write_114 (by decide +kernel) ?_
              refine lv_isub hx hb d_MO_write_115 ?_
              refine ss_rt (y := nI (4 * (4 * msl pr a + mpg wd se (msl pr a) a) + (a / 32) - 2)) (pk_sub (by omega)) ?_
              refine lv_iload_n hx hb d_MO_write_116 rfl (lv_at hl 4 rfl) ?_
              refine lv_aload_n hx hb d_MO_write_117 rfl (lv_at hl 2 rfl) ?_
              refine va_get (D := D) (ci := 7) (v := .ref (q 4)) (C := R_MO) (T := T_MO) (N := 16) hx hb hts in_MO hown hK hP 0 rfl rfl 4 (by decide) (hts _ w_534) (fun _ h9 => h9) rfl d_MO_write_118 ?_
              refine lv_iload hx hb d_MO_write_121 (lv_at hl 0 rfl) ?_
              refine va_iald hx hb hK hP 4 0 rfl rfl (vp_in_nI (by omega) (by omega)) d_MO_write_123 ?_
              refine ss_rt (y := bn (4 * msl pr a + mpg wd se (msl pr a) a)) (congrArg bn (nI_clamp (by omega))) ?_
              refine ss_rt (y := nI n) hbn ?_
              refine lv_irem hx hb d_MO_write_124 (by first | decide +kernel | exact nI_ne0 (by omega) (by omega)) ?_
              refine ss_rt (y := nI (v % n)) (pk_rem (by omega) (by omega) (by omega)) ?_
              refine va_iast hx hb hK hP hD hS 5 0 rfl rfl (vp_in_nI (by omega) (by omega)) d_MO_write_125 (fun H locs hP hD hS => ?_)
              rw [ss_upI sh (k := (4 * (4 * msl pr a + mpg wd se (msl pr a) a) + (a / 32) - 2)) (v := (v % n)) (by omega)] at hP hD
              have hP : va_P D vwCl (mW q k (nI 0) wd se kd bn (ss_up sh (4 * (4 * msl pr a + mpg wd se (msl pr a) a) + (a / 32) - 2) (v % n)) mb pr B R sx pt rd wt ln px) H := hP
              have hD : va_D A (mW q k (nI 0) wd se kd bn (ss_up sh (4 * (4 * msl pr a + mpg wd se (msl pr a) a) + (a / 32) - 2) (v % n)) mb pr B R sx pt rd wt ln px) := hD
              refine lv_goto (tgt := 164) hx hb d_MO_write_126 (by decide) ?_
              exact rw_retv hx hb hr hlocks d_MO_write_164 hS () (trivial) (by rw [show (ss_up sh (4 * (4 * msl pr a + mpg wd se (msl pr a) a) + a / 32 - 2) (v % n)) = (ss_up sh (4 * (4 * msl pr a + mpg wd se (msl pr a) a) + (a / 32) - 2) (v % n)) from by first | rfl | omega]; exact hP)
        · have c7 := (nI_eq (by omega) (by omega)).mp c7
          refine lv_aload_n hx hb d_MO_write_59 rfl (lv_at hl 2 rfl) ?_
          refine va_get (D := D) (ci := 7) (v := .ref (q 1)) (C := R_MO) (T := T_MO) (N := 16) hx hb hts in_MO hown hK hP 0 rfl rfl 1 (by decide) (hts _ w_531) (fun _ h9 => h9) rfl d_MO_write_60 ?_
          refine lv_iload_n hx hb d_MO_write_63 rfl (lv_at hl 1 rfl) ?_
          refine va_zald hx hb hK hP 1 1 rfl rfl (vp_in_nI (by omega) (by omega)) d_MO_write_64 ?_
          refine ss_rt (y := nI (wd (msl pr a))) (congrArg (fun z => nI (wd z)) (nI_clamp (by omega))) ?_
          have g11 := hwd (msl pr a)
          refine lv_if_eq (tgt := 78) hx hb d_MO_write_65 (by decide) (fun c12 => ?_) (fun c12 => ?_)
          · have c12 := (n_eq0 (by omega)).mp c12
            refine lv_aload_n hx hb d_MO_write_78 rfl (lv_at hl 2 rfl) ?_
            refine va_get (D := D) (ci := 7) (v := .ref (q 3)) (C := R_MO) (T := T_MO) (N := 16) hx hb hts in_MO hown hK hP 0 rfl rfl 3 (by decide) (hts _ w_533) (fun _ h9 => h9) rfl d_MO_write_79 ?_
            refine lv_iload hx hb d_MO_write_82 (lv_at hl 0 rfl) ?_
            refine va_iald hx hb hK hP 3 0 rfl rfl (vp_in_nI (by omega) (by omega)) d_MO_write_84 ?_
            refine ss_rt (y := nI (kd (4 * msl pr a + mpg wd se (msl pr a) a))) (congrArg (fun z => nI (kd z)) (nI_clamp (by omega))) ?_
            have g13 := hkd (4 * msl pr a + mpg wd se (msl pr a) a)
            refine lv_iconst (v := nI 3) hx hb d_MO_write_85 (by decide +kernel) ?_
            refine lv_icmp_ne (tgt := 129) hx hb d_MO_write_86 (by decide) (fun c14 => ?_) (fun c14 => ?_)
            · have c14 := mt (nI_eq (by omega) (by omega)).mpr c14
              exfalso; omega
            · have c14 := (nI_eq (by omega) (by omega)).mp c14
              refine lv_iload_n hx hb d_MO_write_89 rfl (lv_at hl 3 rfl) ?_
              refine lv_bipush (v := nI 64) hx hb d_MO_write_90 (by decide +kernel) ?_
              refine lv_sipush (v := nI 191) hx hb d_MO_write_92 (by decide +kernel) ?_
              refine kr_iS (As := [.int (nI a), .int (nI 64), .int (nI 191)]) (rest := []) ⟨hx, hb, hml, hown, hts⟩ (c_MO_within l D k a 64 191 (by omega) (by omega) (by omega)) (va_cwS 3 hts (gS w_587 w_588 w_5 w_589) rfl rfl rfl (by decide +kernel) ⟨Nat.le_of_ble_eq_true rfl, Nat.le_of_ble_eq_true rfl⟩) hK va_nil rfl hl.1 rfl (Nat.le_of_ble_eq_true rfl) d_MO_write_95 ⟨Nat.zero_le _, Nat.zero_le _⟩ ?_
              refine lv_if_eq (tgt := 164) hx hb d_MO_write_98 (by decide) (fun c15 => ?_) (fun c15 => ?_)
              · have c15 := (bI_0).mp c15
                exfalso; omega
              · have c15 := mt (bI_0).mpr c15
                have c15 := Classical.not_not.mp c15
                refine lv_aload_n hx hb d_MO_write_101 rfl (lv_at hl 2 rfl) ?_
                refine va_get (D := D) (ci := 7) (v := .ref (q 5)) (C := R_MO) (T := T_MO) (N := 16) hx hb hts in_MO hown hK hP 0 rfl rfl 5 (by decide) (hts _ w_535) (fun _ h9 => h9) rfl d_MO_write_102 ?_
                refine lv_iconst (v := nI 4) hx hb d_MO_write_105 (by decide +kernel) ?_
                refine lv_iload hx hb d_MO_write_106 (lv_at hl 0 rfl) ?_
                refine lv_imul hx hb d_MO_write_108 ?_
                refine ss_rt (y := nI (4 * (4 * msl pr a + mpg wd se (msl pr a) a))) (pk_mul _ _) ?_
                refine lv_iload_n hx hb d_MO_write_109 rfl (lv_at hl 3 rfl) ?_
                refine lv_bipush (v := nI 32) hx hb d_MO_write_110 (by decide +kernel) ?_
                refine lv_idiv hx hb d_MO_write_112 (by first | decide +kernel | exact nI_ne0 (by omega) (by omega)) ?_
                refine ss_rt (y := nI (a / 32)) (pk_div (by omega) (by omega) (by omega)) ?_
                refine lv_iadd hx hb d_MO_write_113 ?_
                refine ss_rt (y := nI (4 * (4 * msl pr a + mpg wd se (msl pr a) a) + (a / 32))) (nI_add _ _) ?_
                refine lv_iconst (v := nI 2) hx hb d_MO_write_114 (by decide +kernel) ?_
                refine lv_isub hx hb d_MO_write_115 ?_
                refine ss_rt (y := nI (4 * (4 * msl pr a + mpg wd se (msl pr a) a) + (a / 32) - 2)) (pk_sub (by omega)) ?_
                refine lv_iload_n hx hb d_MO_write_116 rfl (lv_at hl 4 rfl) ?_
                refine lv_aload_n hx hb d_MO_write_117 rfl (lv_at hl 2 rfl) ?_
                refine va_get (D := D) (ci := 7) (v := .ref (q 4)) (C := R_MO) (T := T_MO) (N := 16) hx hb hts in_MO hown hK hP 0 rfl rfl 4 (by decide) (hts _ w_534) (fun _ h9 => h9) rfl d_MO_write_118 ?_
                refine lv_iload hx hb d_MO_write_121 (lv_at hl 0 rfl) ?_
                refine va_iald hx hb hK hP 4 0 rfl rfl (vp_in_nI (by omega) (by omega)) d_MO_write_123 ?_
                refine ss_rt (y := bn (4 * msl pr a + mpg wd se (msl pr a) a)) (congrArg bn (nI_clamp (by omega))) ?_
                refine ss_rt (y := nI n) hbn ?_
                refine lv_irem hx hb d_MO_write_124 (by first | decide +kernel | exact nI_ne0 (by omega) (by omega)) ?_
                refine ss_rt (y := nI (v % n)) (pk_rem (by omega) (by omega) (by omega)) ?_
                refine va_iast hx hb hK hP hD hS 5 0 rfl rfl (vp_in_nI (by omega) (by omega)) d_MO_write_125 (fun H locs hP hD hS => ?_)
                rw [ss_upI sh (k := (4 * (4 * msl pr a + mpg wd se (msl pr a) a) + (a / 32) - 2)) (v := (v % n)) (by omega)] at hP hD
                have hP : va_P D vwCl (mW q k (nI 0) wd se kd bn (ss_up sh (4 * (4 * msl pr a + mpg wd se (msl pr a) a) + (a / 32) - 2) (v % n)) mb pr B R sx pt rd wt ln px) H := hP
                have hD : va_D A (mW q k (nI 0) wd se kd bn (ss_up sh (4 * (4 * msl pr a + mpg wd se (msl pr a) a) + (a / 32) - 2) (v % n)) mb pr B R sx pt rd wt ln px) := hD
                refine lv_goto (tgt := 164) hx hb d_MO_write_126 (by decide) ?_
                exact rw_retv hx hb hr hlocks d_MO_write_164 hS () (trivial) (by rw [show (ss_up sh (4 * (4 * msl pr a + mpg wd se (msl pr a) a) + a / 32 - 2) (v % n)) = (ss_up sh (4 * (4 * msl pr a + mpg wd se (msl pr a) a) + (a / 32) - 2) (v % n)) from by first | rfl | omega]; exact hP)
          · have c12 := mt (n_eq0 (by omega)).mpr c12
            exfalso; omega
      · have c3 := mt (n_eq0 (by omega)).mpr c3
        exfalso; omega
set_option maxHeartbeats 4000000 in
set_option maxRecDepth 100000 in
theorem c_MO_write3o (l : Launch) (D : va_G) (k : Nat → ClassId) (q : Nat → Nat) (cd : Int32) (wd : Nat → Nat) (se : Nat → Nat) (kd : Nat → Nat) (bn : Nat → Int32) (sh : Nat → Nat) (mb : Nat → Nat) (pr : Nat) (B : Nat → Nat) (R : Nat → Nat) (sx : Nat) (pt : Nat) (rd : Nat) (wt : Int32) (ln : Nat) (px : Nat → Nat) (hwd : ∀ j, wd j < 2) (hse : ∀ j, se j < 256) (hpr : pr < 256) (hkd : ∀ j, kd j < 5) (hsh : ∀ j, sh j < 8) (hmb : ∀ j, mb j < 256) (a v : Nat) (ha : a < 256) (hv : v < 256) (h1 : ¬ (a = 255 ∧ wd (msl pr a) = 1)) (hk : kd (4 * msl pr a + mpg wd se (msl pr a) a) = 3) (h2 : ¬ (64 ≤ a ∧ a ≤ 191)) : rw_v l y_MO_write b_MO_write 5 none { frames := 3, cells := 0, slots := 0, locals := 67 } D (kT k) (mW q k cd wd se kd bn sh mb pr B R sx pt rd wt ln px) [.ref (q 0), .int (nI a), .int (nI v)] (fun (_ : Unit) => True) (fun (_ : Unit) => (mW q k (nI 0) wd se kd bn sh mb pr B R sx pt rd wt ln px)) := by
  refine rw_headv (by decide) (Nat.le_of_ble_eq_true rfl) ?_
  intro p e s m below meth c ls A hx hb hr hlocks hml hown hts hK hA hP hD hS hl
  have hown : s.vm.findClass "SlotScreenModel" = some m.cls := hown
  have hl : lv_has ls 5 [(0, .ref (q 0)), (1, .int (nI a)), (2, .int (nI v))] := hl
  have z1 := msl_lt pr a
  have z2 := mpg_lt wd se (msl pr a) a
  refine lv_aload_n hx hb d_MO_write_0 rfl (lv_at hl 0 rfl) ?_
  refine lv_iload_n hx hb d_MO_write_1 rfl (lv_at hl 1 rfl) ?_
  refine lv_iconst (v := nI 0) hx hb d_MO_write_2 (by decide +kernel) ?_
  refine lv_sipush (v := nI 255) hx hb d_MO_write_3 (by decide +kernel) ?_
  refine kr_iS (As := [.int (nI a), .int (nI 0), .int (nI 255)]) (rest := [.ref (q 0)]) ⟨hx, hb, hml, hown, hts⟩ (c_MO_within l D k a 0 255 (by omega) (by omega) (by omega)) (va_cwS 3 hts (gS w_587 w_588 w_5 w_589) rfl rfl rfl (by decide +kernel) ⟨Nat.le_of_ble_eq_true rfl, Nat.le_of_ble_eq_true rfl⟩) hK va_nil rfl hl.1 rfl (Nat.le_of_ble_eq_true rfl) d_MO_write_6 ⟨Nat.zero_le _, Nat.zero_le _⟩ ?_
  refine lv_if_eq (tgt := 27) hx hb d_MO_write_9 (by decide) (fun c1 => ?_) (fun c1 => ?_)
  · have c1 := (bI_0).mp c1
    exfalso; omega
  · have c1 := mt (bI_0).mpr c1
    have c1 := Classical.not_not.mp c1
    refine lv_iload_n hx hb d_MO_write_12 rfl (lv_at hl 2 rfl) ?_
    refine lv_iconst (v := nI 0) hx hb d_MO_write_13 (by decide +kernel) ?_
    refine lv_sipush (v := nI 255) hx hb d_MO_write_14 (by decide +kernel) ?_
    refine kr_iS (As := [.int (nI v), .int (nI 0), .int (nI 255)]) (rest := [.ref (q 0)]) ⟨hx, hb, hml, hown, hts⟩ (c_MO_within l D k v 0 255 (by omega) (by omega) (by omega)) (va_cwS 3 hts (gS w_587 w_588 w_5 w_589) rfl rfl rfl (by decide +kernel) ⟨Nat.le_of_ble_eq_true rfl, Nat.le_of_ble_eq_true rfl⟩) hK va_nil rfl hl.1 rfl (Nat.le_of_ble_eq_true rfl) d_MO_write_17 ⟨Nat.zero_le _, Nat.zero_le _⟩ ?_
    refine lv_if_eq (tgt := 27) hx hb d_MO_write_20 (by decide) (fun c2 => ?_) (fun c2 => ?_)
    · have c2 := (bI_0).mp c2
      exfalso; omega
    · have c2 := mt (bI_0).mpr c2
      have c2 := Classical.not_not.mp c2
      refine lv_iconst (v := nI 0) hx hb d_MO_write_23 (by decide +kernel) ?_
      refine lv_goto (tgt := 28) hx hb d_MO_write_24 (by decide) ?_
      refine va_put (D := D) (ci := 7) (v := .int (nI 0)) (ty := .int) (C := R_MO) (T := T_MO) (N := 16) hx hb hts in_MO t_MO o_MO n_MO hown hK hP hD hS 0 rfl rfl 0 (by decide) (hts _ w_530) (fun _ h9 => h9) rfl (by decide +kernel) rfl rfl (Nat.le_of_ble_eq_true rfl) d_MO_write_28 (fun H locs hP hD hS => ?_)
      have hP : va_P D vwCl (mW q k (nI 0) wd se kd bn sh mb pr B R sx pt rd wt ln px) H := hP
      have hD : va_D A (mW q k (nI 0) wd se kd bn sh mb pr B R sx pt rd wt ln px) := hD
      refine lv_aload_n hx hb d_MO_write_31 rfl (lv_at hl 0 rfl) ?_
      refine va_get (D := D) (ci := 7) (v := .int (nI 0)) (C := R_MO) (T := T_MO) (N := 16) hx hb hts in_MO hown hK hP 0 rfl rfl 0 (by decide) (hts _ w_530) (fun _ h9 => h9) rfl d_MO_write_32 ?_
      refine lv_if_eq (tgt := 39) hx hb d_MO_write_35 (by decide) (fun c3 => ?_) (fun c3 => ?_)
      · have c3 := (n_eq0 (by omega)).mp c3
        refine lv_aload_n hx hb d_MO_write_39 rfl (lv_at hl 0 rfl) ?_
        refine lv_iload_n hx hb d_MO_write_40 rfl (lv_at hl 1 rfl) ?_
        have g4 := msl_lt pr a
        refine kr_iV (As := [.int (nI a)]) (rest := []) ⟨hx, hb, hml, hown, hts⟩ (c_MO_slotOf l D k q (nI 0) wd se kd bn sh mb pr B R sx pt rd wt ln px (by omega) a (by omega)) (cwV 1 hts (gV w_602 w_604 w_p13 w_5 w_605) rfl rfl rfl (by decide +kernel) ⟨Nat.le_of_ble_eq_true rfl, Nat.le_of_ble_eq_true rfl⟩) hK hP (va_recv hK hP (ci := 7) (q0 := 0) rfl rfl) rfl hl.1 rfl (Nat.le_of_ble_eq_true rfl) d_MO_write_41 ⟨Nat.zero_le _, Nat.zero_le _⟩ ?_
        refine lv_istore_n (lv' := [(3, .int (nI (msl pr a))), (0, .ref (q 0)), (1, .int (nI a)), (2, .int (nI v))]) hx hb d_MO_write_44 rfl hl (by decide) rfl (fun ls hl => ?_)
        refine lv_aload_n hx hb d_MO_write_45 rfl (lv_at hl 1 rfl) ?_
        refine lv_iload_n hx hb d_MO_write_46 rfl (lv_at hl 2 rfl) ?_
        have g5 := msl_lt pr a
        have g6 := mpg_lt wd se (msl pr a) a
        refine kr_iV (As := [.int (nI a)]) (rest := []) ⟨hx, hb, hml, hown, hts⟩ (c_MO_deviceAt l D k q (nI 0) wd se kd bn sh mb pr B R sx pt rd wt ln px hwd hse hpr a (by omega)) (cwV 1 hts (gV w_609 w_611 w_p14 w_5 w_612) rfl rfl rfl (by decide +kernel) ⟨Nat.le_of_ble_eq_true rfl, Nat.le_of_ble_eq_true rfl⟩) hK hP (va_recv hK hP (ci := 7) (q0 := 0) rfl rfl) rfl hl.1 rfl (Nat.le_of_ble_eq_true rfl) d_MO_write_47 ⟨Nat.zero_le _, Nat.zero_le _⟩ ?_
        refine lv_istore (lv' := [(4, .int (nI (4 * msl pr a + mpg wd se (msl pr a) a))), (3, .int (nI (msl pr a))), (0, .ref (q 0)), (1, .int (nI a)), (2, .int (nI v))]) hx hb d_MO_write_50 hl (by decide) rfl (fun ls hl => ?_)
        refine lv_iload_n hx hb d_MO_write_52 rfl (lv_at hl 3 rfl) ?_
        refine lv_sipush (v := nI 255) hx hb d_MO_write_53 (by decide +kernel) ?_
        refine lv_icmp_ne (tgt := 78) hx hb d_MO_write_56 (by decide) (fun c7 => ?_) (fun c7 => ?_)
        · have c7 := mt (nI_eq (by omega) (by omega)).mpr c7
          refine lv_aload_n hx hb d_MO_write_78 rfl (lv_at hl 2 rfl) ?_
          refine va_get (D := D) (ci := 7) (v := .ref (q 3)) (C := R_MO) (T := T_MO) (N := 16) hx hb hts in_MO hown hK hP 0 rfl rfl 3 (by decide) (hts _ w_533) (fun _ h9 => h9) rfl d_MO_write_79 ?_
          refine lv_iload hx hb d_MO_write_82 (lv_at hl 0 rfl) ?_
          refine va_iald hx hb hK hP 3 0 rfl rfl (vp_in_nI (by omega) (by omega)) d_MO_write_84 ?_
          refine ss_rt (y := nI (kd (4 * msl pr a + mpg wd se (msl pr a) a))) (congrArg (fun z => nI (kd z)) (nI_clamp (by omega))) ?_
          have g8 := hkd (4 * msl pr a + mpg wd se (msl pr a) a)
          refine lv_iconst (v := nI 3) hx hb d_MO_write_85 (by decide +kernel) ?_
          refine lv_icmp_ne (tgt := 129) hx hb d_MO_write_86 (by decide) (fun c9 => ?_) (fun c9 => ?_)
          · have c9 := mt (nI_eq (by omega) (by omega)).mpr c9
            exfalso; omega
          · have c9 := (nI_eq (by omega) (by omega)).mp c9
            refine lv_iload_n hx hb d_MO_write_89 rfl (lv_at hl 3 rfl) ?_
            refine lv_bipush (v := nI 64) hx hb d_MO_write_90 (by decide +kernel) ?_
            refine lv_sipush (v := nI 191) hx hb d_MO_write_92 (by decide +kernel) ?_
            refine kr_iS (As := [.int (nI a), .int (nI 64), .int (nI 191)]) (rest := []) ⟨hx, hb, hml, hown, hts⟩ (c_MO_within l D k a 64 191 (by omega) (by omega) (by omega)) (va_cwS 3 hts (gS w_587 w_588 w_5 w_589) rfl rfl rfl (by decide +kernel) ⟨Nat.le_of_ble_eq_true rfl, Nat.le_of_ble_eq_true rfl⟩) hK va_nil rfl hl.1 rfl (Nat.le_of_ble_eq_true rfl) d_MO_write_95 ⟨Nat.zero_le _, Nat.zero_le _⟩ ?_
            refine lv_if_eq (tgt := 164) hx hb d_MO_write_98 (by decide) (fun c10 => ?_) (fun c10 => ?_)
            · have c10 := (bI_0).mp c10
              exact rw_retv hx hb hr hlocks d_MO_write_164 hS () (trivial) hP
            · have c10 := mt (bI_0).mpr c10
              have c10 := Classical.not_not.mp c10
              exfalso; omega
        · have c7 := (nI_eq (by omega) (by omega)).mp c7
          refine lv_aload_n hx hb d_MO_write_59 rfl (lv_at hl 2 rfl) ?_
          refine va_get (D := D) (ci := 7) (v := .ref (q 1)) (C := R_MO) (T := T_MO) (N := 16) hx hb hts in_MO hown hK hP 0 rfl rfl 1 (by decide) (hts _ w_531) (fun _ h9 => h9) rfl d_MO_write_60 ?_
          refine lv_iload_n hx hb d_MO_write_63 rfl (lv_at hl 1 rfl) ?_
          refine va_zald hx hb hK hP 1 1 rfl rfl (vp_in_nI (by omega) (by omega)) d_MO_write_64 ?_
          refine ss_rt (y := nI (wd (msl pr a))) (congrArg (fun z => nI (wd z)) (nI_clamp (by omega))) ?_
          have g11 := hwd (msl pr a)
          refine lv_if_eq (tgt := 78) hx hb d_MO_write_65 (by decide) (fun c12 => ?_) (fun c12 => ?_)
          · have c12 := (n_eq0 (by omega)).mp c12
            refine lv_aload_n hx hb d_MO_write_78 rfl (lv_at hl 2 rfl) ?_
            refine va_get (D := D) (ci := 7) (v := .ref (q 3)) (C := R_MO) (T := T_MO) (N := 16) hx hb hts in_MO hown hK hP 0 rfl rfl 3 (by decide) (hts _ w_533) (fun _ h9 => h9) rfl d_MO_write_79 ?_
            refine lv_iload hx hb d_MO_write_82 (lv_at hl 0 rfl) ?_
            refine va_iald hx hb hK hP 3 0 rfl rfl (vp_in_nI (by omega) (by omega)) d_MO_write_84 ?_
            refine ss_rt (y := nI (kd (4 * msl pr a + mpg wd se (msl pr a) a))) (congrArg (fun z => nI (kd z)) (nI_clamp (by omega))) ?_
            have g13 := hkd (4 * msl pr a + mpg wd se (msl pr a) a)
            refine lv_iconst (v := nI 3) hx hb d_MO_write_85 (by decide +kernel) ?_
            refine lv_icmp_ne (tgt := 129) hx hb d_MO_write_86 (by decide) (fun c14 => ?_) (fun c14 => ?_)
            · have c14 := mt (nI_eq (by omega) (by omega)).mpr c14
              exfalso; omega
            · have c14 := (nI_eq (by omega) (by omega)).mp c14
              refine lv_iload_n hx hb d_MO_write_89 rfl (lv_at hl 3 rfl) ?_
              refine lv_bipush (v := nI 64) hx hb d_MO_write_90 (by decide +kernel) ?_
              refine lv_sipush (v := nI 191) hx hb d_MO_write_92 (by decide +kernel) ?_
              refine kr_iS (As := [.int (nI a), .int (nI 64), .int (nI 191)]) (rest := []) ⟨hx, hb, hml, hown, hts⟩ (c_MO_within l D k a 64 191 (by omega) (by omega) (by omega)) (va_cwS 3 hts (gS w_587 w_588 w_5 w_589) rfl rfl rfl (by decide +kernel) ⟨Nat.le_of_ble_eq_true rfl, Nat.le_of_ble_eq_true rfl⟩) hK va_nil rfl hl.1 rfl (Nat.le_of_ble_eq_true rfl) d_MO_write_95 ⟨Nat.zero_le _, Nat.zero_le _⟩ ?_
              refine lv_if_eq (tgt := 164) hx hb d_MO_write_98 (by decide) (fun c15 => ?_) (fun c15 => ?_)
              · have c15 := (bI_0).mp c15
                exact rw_retv hx hb hr hlocks d_MO_write_164 hS () (trivial) hP
              · have c15 := mt (bI_0).mpr c15
                have c15 := Classical.not_not.mp c15
                exfalso; omega
          · have c12 := mt (n_eq0 (by omega)).mpr c12
            exfalso; omega
      · have c3 := mt (n_eq0 (by omega)).mpr c3
        exfalso; omega
set_option maxHeartbeats 4000000 in
set_option maxRecDepth 100000 in
theorem c_MO_write1 (l : Launch) (D : va_G) (k : Nat → ClassId) (q : Nat → Nat) (cd : Int32) (wd : Nat → Nat) (se : Nat → Nat) (kd : Nat → Nat) (bn : Nat → Int32) (sh : Nat → Nat) (mb : Nat → Nat) (pr : Nat) (B : Nat → Nat) (R : Nat → Nat) (sx : Nat) (pt : Nat) (rd : Nat) (wt : Int32) (ln : Nat) (px : Nat → Nat) (hwd : ∀ j, wd j < 2) (hse : ∀ j, se j < 256) (hpr : pr < 256) (hkd : ∀ j, kd j < 5) (hsh : ∀ j, sh j < 8) (hmb : ∀ j, mb j < 256) (a v : Nat) (ha : a < 256) (hv : v < 256) (h1 : ¬ (a = 255 ∧ wd (msl pr a) = 1)) (hk : kd (4 * msl pr a + mpg wd se (msl pr a) a) = 1) : rw_v l y_MO_write b_MO_write 5 none { frames := 3, cells := 0, slots := 0, locals := 67 } D (kT k) (mW q k cd wd se kd bn sh mb pr B R sx pt rd wt ln px) [.ref (q 0), .int (nI a), .int (nI v)] (fun (_ : Unit) => True) (fun (_ : Unit) => (mW q k (nI 0) wd se kd bn sh (ss_up mb (256 * (4 * msl pr a + mpg wd se (msl pr a) a) + a) v) pr B R sx pt rd wt ln px)) := by
  refine rw_headv (by decide) (Nat.le_of_ble_eq_true rfl) ?_
  intro p e s m below meth c ls A hx hb hr hlocks hml hown hts hK hA hP hD hS hl
  have hown : s.vm.findClass "SlotScreenModel" = some m.cls := hown
  have hl : lv_has ls 5 [(0, .ref (q 0)), (1, .int (nI a)), (2, .int (nI v))] := hl
  have z1 := msl_lt pr a
  have z2 := mpg_lt wd se (msl pr a) a
  refine lv_aload_n hx hb d_MO_write_0 rfl (lv_at hl 0 rfl) ?_
  refine lv_iload_n hx hb d_MO_write_1 rfl (lv_at hl 1 rfl) ?_
  refine lv_iconst (v := nI 0) hx hb d_MO_write_2 (by decide +kernel) ?_
  refine lv_sipush (v := nI 255) hx hb d_MO_write_3 (by decide +kernel) ?_
  refine kr_iS (As := [.int (nI a), .int (nI 0), .int (nI 255)]) (rest := [.ref (q 0)]) ⟨hx, hb, hml, hown, hts⟩ (c_MO_within l D k a 0 255 (by omega) (by omega) (by omega)) (va_cwS 3 hts (gS w_587 w_588 w_5 w_589) rfl rfl rfl (by decide +kernel) ⟨Nat.le_of_ble_eq_true rfl, Nat.le_of_ble_eq_true rfl⟩) hK va_nil rfl hl.1 rfl (Nat.le_of_ble_eq_true rfl) d_MO_write_6 ⟨Nat.zero_le _, Nat.zero_le _⟩ ?_
  refine lv_if_eq (tgt := 27) hx hb d_MO_write_9 (by decide) (fun c1 => ?_) (fun c1 => ?_)
  · have c1 := (bI_0).mp c1
    exfalso; omega
  · have c1 := mt (bI_0).mpr c1
    have c1 := Classical.not_not.mp c1
    refine lv_iload_n hx hb d_MO_write_12 rfl (lv_at hl 2 rfl) ?_
    refine lv_iconst (v := nI 0) hx hb d_MO_write_13 (by decide +kernel) ?_
    refine lv_sipush (v := nI 255) hx hb d_MO_write_14 (by decide +kernel) ?_
    refine kr_iS (As := [.int (nI v), .int (nI 0), .int (nI 255)]) (rest := [.ref (q 0)]) ⟨hx, hb, hml, hown, hts⟩ (c_MO_within l D k v 0 255 (by omega) (by omega) (by omega)) (va_cwS 3 hts (gS w_587 w_588 w_5 w_589) rfl rfl rfl (by decide +kernel) ⟨Nat.le_of_ble_eq_true rfl, Nat.le_of_ble_eq_true rfl⟩) hK va_nil rfl hl.1 rfl (Nat.le_of_ble_eq_true rfl) d_MO_write_17 ⟨Nat.zero_le _, Nat.zero_le _⟩ ?_
    refine lv_if_eq (tgt := 27) hx hb d_MO_write_20 (by decide) (fun c2 => ?_) (fun c2 => ?_)
    · have c2 := (bI_0).mp c2
      exfalso; omega
    · have c2 := mt (bI_0).mpr c2
      have c2 := Classical.not_not.mp c2
      refine lv_iconst (v := nI 0) hx hb d_MO_write_23 (by decide +kernel) ?_
      refine lv_goto (tgt := 28) hx hb d_MO_write_24 (by decide) ?_
      refine va_put (D := D) (ci := 7) (v := .int (nI 0)) (ty := .int) (C := R_MO) (T := T_MO) (N := 16) hx hb hts in_MO t_MO o_MO n_MO hown hK hP hD hS 0 rfl rfl 0 (by decide) (hts _ w_530) (fun _ h9 => h9) rfl (by decide +kernel) rfl rfl (Nat.le_of_ble_eq_true rfl) d_MO_write_28 (fun H locs hP hD hS => ?_)
      have hP : va_P D vwCl (mW q k (nI 0) wd se kd bn sh mb pr B R sx pt rd wt ln px) H := hP
      have hD : va_D A (mW q k (nI 0) wd se kd bn sh mb pr B R sx pt rd wt ln px) := hD
      refine lv_aload_n hx hb d_MO_write_31 rfl (lv_at hl 0 rfl) ?_
      refine va_get (D := D) (ci := 7) (v := .int (nI 0)) (C := R_MO) (T := T_MO) (N := 16) hx hb hts in_MO hown hK hP 0 rfl rfl 0 (by decide) (hts _ w_530) (fun _ h9 => h9) rfl d_MO_write_32 ?_
      refine lv_if_eq (tgt := 39) hx hb d_MO_write_35 (by decide) (fun c3 => ?_) (fun c3 => ?_)
      · have c3 := (n_eq0 (by omega)).mp c3
        refine lv_aload_n hx hb d_MO_write_39 rfl (lv_at hl 0 rfl) ?_
        refine lv_iload_n hx hb d_MO_write_40 rfl (lv_at hl 1 rfl) ?_
        have g4 := msl_lt pr a
        refine kr_iV (As := [.int (nI a)]) (rest := []) ⟨hx, hb, hml, hown, hts⟩ (c_MO_slotOf l D k q (nI 0) wd se kd bn sh mb pr B R sx pt rd wt ln px (by omega) a (by omega)) (cwV 1 hts (gV w_602 w_604 w_p13 w_5 w_605) rfl rfl rfl (by decide +kernel) ⟨Nat.le_of_ble_eq_true rfl, Nat.le_of_ble_eq_true rfl⟩) hK hP (va_recv hK hP (ci := 7) (q0 := 0) rfl rfl) rfl hl.1 rfl (Nat.le_of_ble_eq_true rfl) d_MO_write_41 ⟨Nat.zero_le _, Nat.zero_le _⟩ ?_
        refine lv_istore_n (lv' := [(3, .int (nI (msl pr a))), (0, .ref (q 0)), (1, .int (nI a)), (2, .int (nI v))]) hx hb d_MO_write_44 rfl hl (by decide) rfl (fun ls hl => ?_)
        refine lv_aload_n hx hb d_MO_write_45 rfl (lv_at hl 1 rfl) ?_
        refine lv_iload_n hx hb d_MO_write_46 rfl (lv_at hl 2 rfl) ?_
        have g5 := msl_lt pr a
        have g6 := mpg_lt wd se (msl pr a) a
        refine kr_iV (As := [.int (nI a)]) (rest := []) ⟨hx, hb, hml, hown, hts⟩ (c_MO_deviceAt l D k q (nI 0) wd se kd bn sh mb pr B R sx pt rd wt ln px hwd hse hpr a (by omega)) (cwV 1 hts (gV w_609 w_611 w_p14 w_5 w_612) rfl rfl rfl (by decide +kernel) ⟨Nat.le_of_ble_eq_true rfl, Nat.le_of_ble_eq_true rfl⟩) hK hP (va_recv hK hP (ci := 7) (q0 := 0) rfl rfl) rfl hl.1 rfl (Nat.le_of_ble_eq_true rfl) d_MO_write_47 ⟨Nat.zero_le _, Nat.zero_le _⟩ ?_
        refine lv_istore (lv' := [(4, .int (nI (4 * msl pr a + mpg wd se (msl pr a) a))), (3, .int (nI (msl pr a))), (0, .ref (q 0)), (1, .int (nI a)), (2, .int (nI v))]) hx hb d_MO_write_50 hl (by decide) rfl (fun ls hl => ?_)
        refine lv_iload_n hx hb d_MO_write_52 rfl (lv_at hl 3 rfl) ?_
        refine lv_sipush (v := nI 255) hx hb d_MO_write_53 (by decide +kernel) ?_
        refine lv_icmp_ne (tgt := 78) hx hb d_MO_write_56 (by decide) (fun c7 => ?_) (fun c7 => ?_)
        · have c7 := mt (nI_eq (by omega) (by omega)).mpr c7
          refine lv_aload_n hx hb d_MO_write_78 rfl (lv_at hl 2 rfl) ?_
          refine va_get (D := D) (ci := 7) (v := .ref (q 3)) (C := R_MO) (T := T_MO) (N := 16) hx hb hts in_MO hown hK hP 0 rfl rfl 3 (by decide) (hts _ w_533) (fun _ h9 => h9) rfl d_MO_write_79 ?_
          refine lv_iload hx hb d_MO_write_82 (lv_at hl 0 rfl) ?_
          refine va_iald hx hb hK hP 3 0 rfl rfl (vp_in_nI (by omega) (by omega)) d_MO_write_84 ?_
          refine ss_rt (y := nI (kd (4 * msl pr a + mpg wd se (msl pr a) a))) (congrArg (fun z => nI (kd z)) (nI_clamp (by omega))) ?_
          have g8 := hkd (4 * msl pr a + mpg wd se (msl pr a) a)
          refine lv_iconst (v := nI 3) hx hb d_MO_write_85 (by decide +kernel) ?_
          refine lv_icmp_ne (tgt := 129) hx hb d_MO_write_86 (by decide) (fun c9 => ?_) (fun c9 => ?_)
          · have c9 := mt (nI_eq (by omega) (by omega)).mpr c9
            refine lv_aload_n hx hb d_MO_write_129 rfl (lv_at hl 2 rfl) ?_
            refine va_get (D := D) (ci := 7) (v := .ref (q 3)) (C := R_MO) (T := T_MO) (N := 16) hx hb hts in_MO hown hK hP 0 rfl rfl 3 (by decide) (hts _ w_533) (fun _ h9 => h9) rfl d_MO_write_130 ?_
            refine lv_iload hx hb d_MO_write_133 (lv_at hl 0 rfl) ?_
            refine va_iald hx hb hK hP 3 0 rfl rfl (vp_in_nI (by omega) (by omega)) d_MO_write_135 ?_
            refine ss_rt (y := nI (kd (4 * msl pr a + mpg wd se (msl pr a) a))) (congrArg (fun z => nI (kd z)) (nI_clamp (by omega))) ?_
            have g10 := hkd (4 * msl pr a + mpg wd se (msl pr a) a)
            refine lv_iconst (v := nI 1) hx hb d_MO_write_136 (by decide +kernel) ?_
            refine lv_icmp_eq (tgt := 151) hx hb d_MO_write_137 (by decide) (fun c11 => ?_) (fun c11 => ?_)
            · have c11 := (nI_eq (by omega) (by omega)).mp c11
              refine lv_aload_n hx hb d_MO_write_151 rfl (lv_at hl 2 rfl) ?_
              refine va_get (D := D) (ci := 7) (v := .ref (q 6)) (C := R_MO) (T := T_MO) (N := 16) hx hb hts in_MO hown hK hP 0 rfl rfl 6 (by decide) (hts _ w_536) (fun _ h9 => h9) rfl d_MO_write_152 ?_
              refine lv_aload_n hx hb d_MO_write_155 rfl (lv_at hl 2 rfl) ?_
              refine lv_iload hx hb d_MO_write_156 (lv_at hl 0 rfl) ?_
              refine lv_iload_n hx hb d_MO_write_158 rfl (lv_at hl 3 rfl) ?_
              refine kr_iV (As := [.int (nI (4 * msl pr a + mpg wd se (msl pr a) a)), .int (nI a)]) (rest := [.ref (q 6)]) ⟨hx, hb, hml, hown, hts⟩ (c_MO_placeOf12 l D k q (nI 0) wd se kd bn sh mb pr B R sx pt rd wt ln px hkd hsh hmb (4 * msl pr a + mpg wd se (msl pr a) a) a (by omega) (by omega) (by omega)) (cwV 2 hts (gV w_617 w_619 w_p16 w_5 w_620) rfl rfl rfl (by decide +kernel) ⟨Nat.le_of_ble_eq_true rfl, Nat.le_of_ble_eq_true rfl⟩) hK hP (va_recv hK hP (ci := 7) (q0 := 0) rfl rfl) rfl hl.1 rfl (Nat.le_of_ble_eq_true rfl) d_MO_write_159 ⟨Nat.zero_le _, Nat.zero_le _⟩ ?_
              refine lv_iload_n hx hb d_MO_write_162 rfl (lv_at hl 4 rfl) ?_
              refine va_iast hx hb hK hP hD hS 6 0 rfl rfl (vp_in_nI (by omega) (by omega)) d_MO_write_163 (fun H locs hP hD hS => ?_)
              rw [ss_upI mb (k := (256 * (4 * msl pr a + mpg wd se (msl pr a) a) + a)) (v := v) (by omega)] at hP hD
              have hP : va_P D vwCl (mW q k (nI 0) wd se kd bn sh (ss_up mb (256 * (4 * msl pr a + mpg wd se (msl pr a) a) + a) v) pr B R sx pt rd wt ln px) H := hP
              have hD : va_D A (mW q k (nI 0) wd se kd bn sh (ss_up mb (256 * (4 * msl pr a + mpg wd se (msl pr a) a) + a) v) pr B R sx pt rd wt ln px) := hD
              exact rw_retv hx hb hr hlocks d_MO_write_164 hS () (trivial) hP
            · have c11 := mt (nI_eq (by omega) (by omega)).mpr c11
              exfalso; omega
          · have c9 := (nI_eq (by omega) (by omega)).mp c9
            exfalso; omega
        · have c7 := (nI_eq (by omega) (by omega)).mp c7
          refine lv_aload_n hx hb d_MO_write_59 rfl (lv_at hl 2 rfl) ?_
          refine va_get (D := D) (ci := 7) (v := .ref (q 1)) (C := R_MO) (T := T_MO) (N := 16) hx hb hts in_MO hown hK hP 0 rfl rfl 1 (by decide) (hts _ w_531) (fun _ h9 => h9) rfl d_MO_write_60 ?_
          refine lv_iload_n hx hb d_MO_write_63 rfl (lv_at hl 1 rfl) ?_
          refine va_zald hx hb hK hP 1 1 rfl rfl (vp_in_nI (by omega) (by omega)) d_MO_write_64 ?_
          refine ss_rt (y := nI (wd (msl pr a))) (congrArg (fun z => nI (wd z)) (nI_clamp (by omega))) ?_
          have g12 := hwd (msl pr a)
          refine lv_if_eq (tgt := 78) hx hb d_MO_write_65 (by decide) (fun c13 => ?_) (fun c13 => ?_)
          · have c13 := (n_eq0 (by omega)).mp c13
            refine lv_aload_n hx hb d_MO_write_78 rfl (lv_at hl 2 rfl) ?_
            refine va_get (D := D) (ci := 7) (v := .ref (q 3)) (C := R_MO) (T := T_MO) (N := 16) hx hb hts in_MO hown hK hP 0 rfl rfl 3 (by decide) (hts _ w_533) (fun _ h9 => h9) rfl d_MO_write_79 ?_
            refine lv_iload hx hb d_MO_write_82 (lv_at hl 0 rfl) ?_
            refine va_iald hx hb hK hP 3 0 rfl rfl (vp_in_nI (by omega) (by omega)) d_MO_write_84 ?_
            refine ss_rt (y := nI (kd (4 * msl pr a + mpg wd se (msl pr a) a))) (congrArg (fun z => nI (kd z)) (nI_clamp (by omega))) ?_
            have g14 := hkd (4 * msl pr a + mpg wd se (msl pr a) a)
            refine lv_iconst (v := nI 3) hx hb d_MO_write_85 (by decide +kernel) ?_
            refine lv_icmp_ne (tgt := 129) hx hb d_MO_write_86 (by decide) (fun c15 => ?_) (fun c15 => ?_)
            · have c15 := mt (nI_eq (by omega) (by omega)).mpr c15
              refine lv_aload_n hx hb d_MO_write_129 rfl (lv_at hl 2 rfl) ?_
              refine va_get (D := D) (ci := 7) (v := .ref (q 3)) (C := R_MO) (T := T_MO) (N := 16) hx hb hts in_MO hown hK hP 0 rfl rfl 3 (by decide) (hts _ w_533) (fun _ h9 => h9) rfl d_MO_write_130 ?_
              refine lv_iload hx hb d_MO_write_133 (lv_at hl 0 rfl) ?_
              refine va_iald hx hb hK hP 3 0 rfl rfl (vp_in_nI (by omega) (by omega)) d_MO_write_135 ?_
              refine ss_rt (y := nI (kd (4 * msl pr a + mpg wd se (msl pr a) a))) (congrArg (fun z => nI (kd z)) (nI_clamp (by omega))) ?_
              have g16 := hkd (4 * msl pr a + mpg wd se (msl pr a) a)
              refine lv_iconst (v := nI 1) hx hb d_MO_write_136 (by decide +kernel) ?_
              refine lv_icmp_eq (tgt := 151) hx hb d_MO_write_137 (by decide) (fun c17 => ?_) (fun c17 => ?_)
              · have c17 := (nI_eq (by omega) (by omega)).mp c17
                refine lv_aload_n hx hb d_MO_write_151 rfl (lv_at hl 2 rfl) ?_
                refine va_get (D := D) (ci := 7) (v := .ref (q 6)) (C := R_MO) (T := T_MO) (N := 16) hx hb hts in_MO hown hK hP 0 rfl rfl 6 (by decide) (hts _ w_536) (fun _ h9 => h9) rfl d_MO_write_152 ?_
                refine lv_aload_n hx hb d_MO_write_155 rfl (lv_at hl 2 rfl) ?_
                refine lv_iload hx hb d_MO_write_156 (lv_at hl 0 rfl) ?_
                refine lv_iload_n hx hb d_MO_write_158 rfl (lv_at hl 3 rfl) ?_
                refine kr_iV (As := [.int (nI (4 * msl pr a + mpg wd se (msl pr a) a)), .int (nI a)]) (rest := [.ref (q 6)]) ⟨hx, hb, hml, hown, hts⟩ (c_MO_placeOf12 l D k q (nI 0) wd se kd bn sh mb pr B R sx pt rd wt ln px hkd hsh hmb (4 * msl pr a + mpg wd se (msl pr a) a) a (by omega) (by omega) (by omega)) (cwV 2 hts (gV w_617 w_619 w_p16 w_5 w_620) rfl rfl rfl (by decide +kernel) ⟨Nat.le_of_ble_eq_true rfl, Nat.le_of_ble_eq_true rfl⟩) hK hP (va_recv hK hP (ci := 7) (q0 := 0) rfl rfl) rfl hl.1 rfl (Nat.le_of_ble_eq_true rfl) d_MO_write_159 ⟨Nat.zero_le _, Nat.zero_le _⟩ ?_
                refine lv_iload_n hx hb d_MO_write_162 rfl (lv_at hl 4 rfl) ?_
                refine va_iast hx hb hK hP hD hS 6 0 rfl rfl (vp_in_nI (by omega) (by omega)) d_MO_write_163 (fun H locs hP hD hS => ?_)
                rw [ss_upI mb (k := (256 * (4 * msl pr a + mpg wd se (msl pr a) a) + a)) (v := v) (by omega)] at hP hD
                have hP : va_P D vwCl (mW q k (nI 0) wd se kd bn sh (ss_up mb (256 * (4 * msl pr a + mpg wd se (msl pr a) a) + a) v) pr B R sx pt rd wt ln px) H := hP
                have hD : va_D A (mW q k (nI 0) wd se kd bn sh (ss_up mb (256 * (4 * msl pr a + mpg wd se (msl pr a) a) + a) v) pr B R sx pt rd wt ln px) := hD
                exact rw_retv hx hb hr hlocks d_MO_write_164 hS () (trivial) hP
              · have c17 := mt (nI_eq (by omega) (by omega)).mpr c17
                exfalso; omega
            · have c15 := (nI_eq (by omega) (by omega)).mp c15
              exfalso; omega
          · have c13 := mt (n_eq0 (by omega)).mpr c13
            exfalso; omega
      · have c3 := mt (n_eq0 (by omega)).mpr c3
        exfalso; omega
set_option maxHeartbeats 4000000 in
set_option maxRecDepth 100000 in
theorem c_MO_write4 (l : Launch) (D : va_G) (k : Nat → ClassId) (q : Nat → Nat) (cd : Int32) (wd : Nat → Nat) (se : Nat → Nat) (kd : Nat → Nat) (bn : Nat → Int32) (sh : Nat → Nat) (mb : Nat → Nat) (pr : Nat) (B : Nat → Nat) (R : Nat → Nat) (sx : Nat) (pt : Nat) (rd : Nat) (wt : Int32) (ln : Nat) (px : Nat → Nat) (hwd : ∀ j, wd j < 2) (hse : ∀ j, se j < 256) (hpr : pr < 256) (hkd : ∀ j, kd j < 5) (hsh : ∀ j, sh j < 8) (hmb : ∀ j, mb j < 256) (a v : Nat) (ha : a < 256) (hv : v < 256) (h1 : ¬ (a = 255 ∧ wd (msl pr a) = 1)) (hk : kd (4 * msl pr a + mpg wd se (msl pr a) a) = 4) : rw_v l y_MO_write b_MO_write 5 none { frames := 3, cells := 0, slots := 0, locals := 67 } D (kT k) (mW q k cd wd se kd bn sh mb pr B R sx pt rd wt ln px) [.ref (q 0), .int (nI a), .int (nI v)] (fun (_ : Unit) => True) (fun (_ : Unit) => (mW q k (nI 0) wd se kd bn sh (ss_up mb (256 * (4 * msl pr a + mpg wd se (msl pr a) a) + a % 64) v) pr B R sx pt rd wt ln px)) := by
  refine rw_headv (by decide) (Nat.le_of_ble_eq_true rfl) ?_
  intro p e s m below meth c ls A hx hb hr hlocks hml hown hts hK hA hP hD hS hl
  have hown : s.vm.findClass "SlotScreenModel" = some m.cls := hown
  have hl : lv_has ls 5 [(0, .ref (q 0)), (1, .int (nI a)), (2, .int (nI v))] := hl
  have z1 := msl_lt pr a
  have z2 := mpg_lt wd se (msl pr a) a
  refine lv_aload_n hx hb d_MO_write_0 rfl (lv_at hl 0 rfl) ?_
  refine lv_iload_n hx hb d_MO_write_1 rfl (lv_at hl 1 rfl) ?_
  refine lv_iconst (v := nI 0) hx hb d_MO_write_2 (by decide +kernel) ?_
  refine lv_sipush (v := nI 255) hx hb d_MO_write_3 (by decide +kernel) ?_
  refine kr_iS (As := [.int (nI a), .int (nI 0), .int (nI 255)]) (rest := [.ref (q 0)]) ⟨hx, hb, hml, hown, hts⟩ (c_MO_within l D k a 0 255 (by omega) (by omega) (by omega)) (va_cwS 3 hts (gS w_587 w_588 w_5 w_589) rfl rfl rfl (by decide +kernel) ⟨Nat.le_of_ble_eq_true rfl, Nat.le_of_ble_eq_true rfl⟩) hK va_nil rfl hl.1 rfl (Nat.le_of_ble_eq_true rfl) d_MO_write_6 ⟨Nat.zero_le _, Nat.zero_le _⟩ ?_
  refine lv_if_eq (tgt := 27) hx hb d_MO_write_9 (by decide) (fun c1 => ?_) (fun c1 => ?_)
  · have c1 := (bI_0).mp c1
    exfalso; omega
  · have c1 := mt (bI_0).mpr c1
    have c1 := Classical.not_not.mp c1
    refine lv_iload_n hx hb d_MO_write_12 rfl (lv_at hl 2 rfl) ?_
    refine lv_iconst (v := nI 0) hx hb d_MO_write_13 (by decide +kernel) ?_
    refine lv_sipush (v := nI 255) hx hb d_MO_write_14 (by decide +kernel) ?_
    refine kr_iS (As := [.int (nI v), .int (nI 0), .int (nI 255)]) (rest := [.ref (q 0)]) ⟨hx, hb, hml, hown, hts⟩ (c_MO_within l D k v 0 255 (by omega) (by omega) (by omega)) (va_cwS 3 hts (gS w_587 w_588 w_5 w_589) rfl rfl rfl (by decide +kernel) ⟨Nat.le_of_ble_eq_true rfl, Nat.le_of_ble_eq_true rfl⟩) hK va_nil rfl hl.1 rfl (Nat.le_of_ble_eq_true rfl) d_MO_write_17 ⟨Nat.zero_le _, Nat.zero_le _⟩ ?_
    refine lv_if_eq (tgt := 27) hx hb d_MO_write_20 (by decide) (fun c2 => ?_) (fun c2 => ?_)
    · have c2 := (bI_0).mp c2
      exfalso; omega
    · have c2 := mt (bI_0).mpr c2
      have c2 := Classical.not_not.mp c2
      refine lv_iconst (v := nI 0) hx hb d_MO_write_23 (by decide +kernel) ?_
      refine lv_goto (tgt := 28) hx hb d_MO_write_24 (by decide) ?_
      refine va_put (D := D) (ci := 7) (v := .int (nI 0)) (ty := .int) (C := R_MO) (T := T_MO) (N := 16) hx hb hts in_MO t_MO o_MO n_MO hown hK hP hD hS 0 rfl rfl 0 (by decide) (hts _ w_530) (fun _ h9 => h9) rfl (by decide +kernel) rfl rfl (Nat.le_of_ble_eq_true rfl) d_MO_write_28 (fun H locs hP hD hS => ?_)
      have hP : va_P D vwCl (mW q k (nI 0) wd se kd bn sh mb pr B R sx pt rd wt ln px) H := hP
      have hD : va_D A (mW q k (nI 0) wd se kd bn sh mb pr B R sx pt rd wt ln px) := hD
      refine lv_aload_n hx hb d_MO_write_31 rfl (lv_at hl 0 rfl) ?_
      refine va_get (D := D) (ci := 7) (v := .int (nI 0)) (C := R_MO) (T := T_MO) (N := 16) hx hb hts in_MO hown hK hP 0 rfl rfl 0 (by decide) (hts _ w_530) (fun _ h9 => h9) rfl d_MO_write_32 ?_
      refine lv_if_eq (tgt := 39) hx hb d_MO_write_35 (by decide) (fun c3 => ?_) (fun c3 => ?_)
      · have c3 := (n_eq0 (by omega)).mp c3
        refine lv_aload_n hx hb d_MO_write_39 rfl (lv_at hl 0 rfl) ?_
        refine lv_iload_n hx hb d_MO_write_40 rfl (lv_at hl 1 rfl) ?_
        have g4 := msl_lt pr a
        refine kr_iV (As := [.int (nI a)]) (rest := []) ⟨hx, hb, hml, hown, hts⟩ (c_MO_slotOf l D k q (nI 0) wd se kd bn sh mb pr B R sx pt rd wt ln px (by omega) a (by omega)) (cwV 1 hts (gV w_602 w_604 w_p13 w_5 w_605) rfl rfl rfl (by decide +kernel) ⟨Nat.le_of_ble_eq_true rfl, Nat.le_of_ble_eq_true rfl⟩) hK hP (va_recv hK hP (ci := 7) (q0 := 0) rfl rfl) rfl hl.1 rfl (Nat.le_of_ble_eq_true rfl) d_MO_write_41 ⟨Nat.zero_le _, Nat.zero_le _⟩ ?_
        refine lv_istore_n (lv' := [(3, .int (nI (msl pr a))), (0, .ref (q 0)), (1, .int (nI a)), (2, .int (nI v))]) hx hb d_MO_write_44 rfl hl (by decide) rfl (fun ls hl => ?_)
        refine lv_aload_n hx hb d_MO_write_45 rfl (lv_at hl 1 rfl) ?_
        refine lv_iload_n hx hb d_MO_write_46 rfl (lv_at hl 2 rfl) ?_
        have g5 := msl_lt pr a
        have g6 := mpg_lt wd se (msl pr a) a
        refine kr_iV (As := [.int (nI a)]) (rest := []) ⟨hx, hb, hml, hown, hts⟩ (c_MO_deviceAt l D k q (nI 0) wd se kd bn sh mb pr B R sx pt rd wt ln px hwd hse hpr a (by omega)) (cwV 1 hts (gV w_609 w_611 w_p14 w_5 w_612) rfl rfl rfl (by decide +kernel) ⟨Nat.le_of_ble_eq_true rfl, Nat.le_of_ble_eq_true rfl⟩) hK hP (va_recv hK hP (ci := 7) (q0 := 0) rfl rfl) rfl hl.1 rfl (Nat.le_of_ble_eq_true rfl) d_MO_write_47 ⟨Nat.zero_le _, Nat.zero_le _⟩ ?_
        refine lv_istore (lv' := [(4, .int (nI (4 * msl pr a + mpg wd se (msl pr a) a))), (3, .int (nI (msl pr a))), (0, .ref (q 0)), (1, .int (nI a)), (2, .int (nI v))]) hx hb d_MO_write_50 hl (by decide) rfl (fun ls hl => ?_)
        refine lv_iload_n hx hb d_MO_write_52 rfl (lv_at hl 3 rfl) ?_
        refine lv_sipush (v := nI 255) hx hb d_MO_write_53 (by decide +kernel) ?_
        refine lv_icmp_ne (tgt := 78) hx hb d_MO_write_56 (by decide) (fun c7 => ?_) (fun c7 => ?_)
        · have c7 := mt (nI_eq (by omega) (by omega)).mpr c7
          refine lv_aload_n hx hb d_MO_write_78 rfl (lv_at hl 2 rfl) ?_
          refine va_get (D := D) (ci := 7) (v := .ref (q 3)) (C := R_MO) (T := T_MO) (N := 16) hx hb hts in_MO hown hK hP 0 rfl rfl 3 (by decide) (hts _ w_533) (fun _ h9 => h9) rfl d_MO_write_79 ?_
          refine lv_iload hx hb d_MO_write_82 (lv_at hl 0 rfl) ?_
          refine va_iald hx hb hK hP 3 0 rfl rfl (vp_in_nI (by omega) (by omega)) d_MO_write_84 ?_
          refine ss_rt (y := nI (kd (4 * msl pr a + mpg wd se (msl pr a) a))) (congrArg (fun z => nI (kd z)) (nI_clamp (by omega))) ?_
          have g8 := hkd (4 * msl pr a + mpg wd se (msl pr a) a)
          refine lv_iconst (v := nI 3) hx hb d_MO_write_85 (by decide +kernel) ?_
          refine lv_icmp_ne (tgt := 129) hx hb d_MO_write_86 (by decide) (fun c9 => ?_) (fun c9 => ?_)
          · have c9 := mt (nI_eq (by omega) (by omega)).mpr c9
            refine lv_aload_n hx hb d_MO_write_129 rfl (lv_at hl 2 rfl) ?_
            refine va_get (D := D) (ci := 7) (v := .ref (q 3)) (C := R_MO) (T := T_MO) (N := 16) hx hb hts in_MO hown hK hP 0 rfl rfl 3 (by decide) (hts _ w_533) (fun _ h9 => h9) rfl d_MO_write_130 ?_
            refine lv_iload hx hb d_MO_write_133 (lv_at hl 0 rfl) ?_
            refine va_iald hx hb hK hP 3 0 rfl rfl (vp_in_nI (by omega) (by omega)) d_MO_write_135 ?_
            refine ss_rt (y := nI (kd (4 * msl pr a + mpg wd se (msl pr a) a))) (congrArg (fun z => nI (kd z)) (nI_clamp (by omega))) ?_
            have g10 := hkd (4 * msl pr a + mpg wd se (msl pr a) a)
            refine lv_iconst (v := nI 1) hx hb d_MO_write_136 (by decide +kernel) ?_
            refine lv_icmp_eq (tgt := 151) hx hb d_MO_write_137 (by decide) (fun c11 => ?_) (fun c11 => ?_)
            · have c11 := (nI_eq (by omega) (by omega)).mp c11
              exfalso; omega
            · have c11 := mt (nI_eq (by omega) (by omega)).mpr c11
              refine lv_aload_n hx hb d_MO_write_140 rfl (lv_at hl 2 rfl) ?_
              refine va_get (D := D) (ci := 7) (v := .ref (q 3)) (C := R_MO) (T := T_MO) (N := 16) hx hb hts in_MO hown hK hP 0 rfl rfl 3 (by decide) (hts _ w_533) (fun _ h9 => h9) rfl d_MO_write_141 ?_
              refine lv_iload hx hb d_MO_write_144 (lv_at hl 0 rfl) ?_
              refine va_iald hx hb hK hP 3 0 rfl rfl (vp_in_nI (by omega) (by omega)) d_MO_write_146 ?_
              refine ss_rt (y := nI (kd (4 * msl pr a + mpg wd se (msl pr a) a))) (congrArg (fun z => nI (kd z)) (nI_clamp (by omega))) ?_
              have g12 := hkd (4 * msl pr a + mpg wd se (msl pr a) a)
              refine lv_iconst (v := nI 4) hx hb d_MO_write_147 (by decide +kernel) ?_
              refine lv_icmp_ne (tgt := 164) hx hb d_MO_write_148 (by decide) (fun c13 => ?_) (fun c13 => ?_)
              · have c13 := mt (nI_eq (by omega) (by omega)).mpr c13
                exfalso; omega
              · have c13 := (nI_eq (by omega) (by omega)).mp c13
                refine lv_aload_n hx hb d_MO_write_151 rfl (lv_at hl 2 rfl) ?_
                refine va_get (D := D) (ci := 7) (v := .ref (q 6)) (C := R_MO) (T := T_MO) (N := 16) hx hb hts in_MO hown hK hP 0 rfl rfl 6 (by decide) (hts _ w_536) (fun _ h9 => h9) rfl d_MO_write_152 ?_
                refine lv_aload_n hx hb d_MO_write_155 rfl (lv_at hl 2 rfl) ?_
                refine lv_iload hx hb d_MO_write_156 (lv_at hl 0 rfl) ?_
                refine lv_iload_n hx hb d_MO_write_158 rfl (lv_at hl 3 rfl) ?_
                refine kr_iV (As := [.int (nI (4 * msl pr a + mpg wd se (msl pr a) a)), .int (nI a)]) (rest := [.ref (q 6)]) ⟨hx, hb, hml, hown, hts⟩ (c_MO_placeOf4 l D k q (nI 0) wd se kd bn sh mb pr B R sx pt rd wt ln px hkd hsh hmb (4 * msl pr a + mpg wd se (msl pr a) a) a (by omega) (by omega) (by omega)) (cwV 2 hts (gV w_617 w_619 w_p16 w_5 w_620) rfl rfl rfl (by decide +kernel) ⟨Nat.le_of_ble_eq_true rfl, Nat.le_of_ble_eq_true rfl⟩) hK hP (va_recv hK hP (ci := 7) (q0 := 0) rfl rfl) rfl hl.1 rfl (Nat.le_of_ble_eq_true rfl) d_MO_write_159 ⟨Nat.zero_le _, Nat.zero_le _⟩ ?_
                refine lv_iload_n hx hb d_MO_write_162 rfl (lv_at hl 4 rfl) ?_
                refine va_iast hx hb hK hP hD hS 6 0 rfl rfl (vp_in_nI (by omega) (by omega)) d_MO_write_163 (fun H locs hP hD hS => ?_)
                rw [ss_upI mb (k := (256 * (4 * msl pr a + mpg wd se (msl pr a) a) + a % 64)) (v := v) (by omega)] at hP hD
                have hP : va_P D vwCl (mW q k (nI 0) wd se kd bn sh (ss_up mb (256 * (4 * msl pr a + mpg wd se (msl pr a) a) + a % 64) v) pr B R sx pt rd wt ln px) H := hP
                have hD : va_D A (mW q k (nI 0) wd se kd bn sh (ss_up mb (256 * (4 * msl pr a + mpg wd se (msl pr a) a) + a % 64) v) pr B R sx pt rd wt ln px) := hD
                exact rw_retv hx hb hr hlocks d_MO_write_164 hS () (trivial) hP
          · have c9 := (nI_eq (by omega) (by omega)).mp c9
            exfalso; omega
        · have c7 := (nI_eq (by omega) (by omega)).mp c7
          refine lv_aload_n hx hb d_MO_write_59 rfl (lv_at hl 2 rfl) ?_
          refine va_get (D := D) (ci := 7) (v := .ref (q 1)) (C := R_MO) (T := T_MO) (N := 16) hx hb hts in_MO hown hK hP 0 rfl rfl 1 (by decide) (hts _ w_531) (fun _ h9 => h9) rfl d_MO_write_60 ?_
          refine lv_iload_n hx hb d_MO_write_63 rfl (lv_at hl 1 rfl) ?_
          refine va_zald hx hb hK hP 1 1 rfl rfl (vp_in_nI (by omega) (by omega)) d_MO_write_64 ?_
          refine ss_rt (y := nI (wd (msl pr a))) (congrArg (fun z => nI (wd z)) (nI_clamp (by omega))) ?_
          have g14 := hwd (msl pr a)
          refine lv_if_eq (tgt := 78) hx hb d_MO_write_65 (by decide) (fun c15 => ?_) (fun c15 => ?_)
          · have c15 := (n_eq0 (by omega)).mp c15
            refine lv_aload_n hx hb d_MO_write_78 rfl (lv_at hl 2 rfl) ?_
            refine va_get (D := D) (ci := 7) (v := .ref (q 3)) (C := R_MO) (T := T_MO) (N := 16) hx hb hts in_MO hown hK hP 0 rfl rfl 3 (by decide) (hts _ w_533) (fun _ h9 => h9) rfl d_MO_write_79 ?_
            refine lv_iload hx hb d_MO_write_82 (lv_at hl 0 rfl) ?_
            refine va_iald hx hb hK hP 3 0 rfl rfl (vp_in_nI (by omega) (by omega)) d_MO_write_84 ?_
            refine ss_rt (y := nI (kd (4 * msl pr a + mpg wd se (msl pr a) a))) (congrArg (fun z => nI (kd z)) (nI_clamp (by omega))) ?_
            have g16 := hkd (4 * msl pr a + mpg wd se (msl pr a) a)
            refine lv_iconst (v := nI 3) hx hb d_MO_write_85 (by decide +kernel) ?_
            refine lv_icmp_ne (tgt := 129) hx hb d_MO_write_86 (by decide) (fun c17 => ?_) (fun c17 => ?_)
            · have c17 := mt (nI_eq (by omega) (by omega)).mpr c17
              refine lv_aload_n hx hb d_MO_write_129 rfl (lv_at hl 2 rfl) ?_
              refine va_get (D := D) (ci := 7) (v := .ref (q 3)) (C := R_MO) (T := T_MO) (N := 16) hx hb hts in_MO hown hK hP 0 rfl rfl 3 (by decide) (hts _ w_533) (fun _ h9 => h9) rfl d_MO_write_130 ?_
              refine lv_iload hx hb d_MO_write_133 (lv_at hl 0 rfl) ?_
              refine va_iald hx hb hK hP 3 0 rfl rfl (vp_in_nI (by omega) (by omega)) d_MO_write_135 ?_
              refine ss_rt (y := nI (kd (4 * msl pr a + mpg wd se (msl pr a) a))) (congrArg (fun z => nI (kd z)) (nI_clamp (by omega))) ?_
              have g18 := hkd (4 * msl pr a + mpg wd se (msl pr a) a)
              refine lv_iconst (v := nI 1) hx hb d_MO_write_136 (by decide +kernel) ?_
              refine lv_icmp_eq (tgt := 151) hx hb d_MO_write_137 (by decide) (fun c19 => ?_) (fun c19 => ?_)
              · have c19 := (nI_eq (by omega) (by omega)).mp c19
                exfalso; omega
              · have c19 := mt (nI_eq (by omega) (by omega)).mpr c19
                refine lv_aload_n hx hb d_MO_write_140 rfl (lv_at hl 2 rfl) ?_
                refine va_get (D := D) (ci := 7) (v := .ref (q 3)) (C := R_MO) (T := T_MO) (N := 16) hx hb hts in_MO hown hK hP 0 rfl rfl 3 (by decide) (hts _ w_533) (fun _ h9 => h9) rfl d_MO_write_141 ?_
                refine lv_iload hx hb d_MO_write_144 (lv_at hl 0 rfl) ?_
                refine va_iald hx hb hK hP 3 0 rfl rfl (vp_in_nI (by omega) (by omega)) d_MO_write_146 ?_
                refine ss_rt (y := nI (kd (4 * msl pr a + mpg wd se (msl pr a) a))) (congrArg (fun z => nI (kd z)) (nI_clamp (by omega))) ?_
                have g20 := hkd (4 * msl pr a + mpg wd se (msl pr a) a)
                refine lv_iconst (v := nI 4) hx hb d_MO_write_147 (by decide +kernel) ?_
                refine lv_icmp_ne (tgt := 164) hx hb d_MO_write_148 (by decide) (fun c21 => ?_) (fun c21 => ?_)
                · have c21 := mt (nI_eq (by omega) (by omega)).mpr c21
                  exfalso; omega
                · have c21 := (nI_eq (by omega) (by omega)).mp c21
                  refine lv_aload_n hx hb d_MO_write_151 rfl (lv_at hl 2 rfl) ?_
                  refine va_get (D := D) (ci := 7) (v := .ref (q 6)) (C := R_MO) (T := T_MO) (N := 16) hx hb hts in_MO hown hK hP 0 rfl rfl 6 (by decide) (hts _ w_536) (fun _ h9 => h9) rfl d_MO_write_152 ?_
                  refine lv_aload_n hx hb d_MO_write_155 rfl (lv_at hl 2 rfl) ?_
                  refine lv_iload hx hb d_MO_write_156 (lv_at hl 0 rfl) ?_
                  refine lv_iload_n hx hb d_MO_write_158 rfl (lv_at hl 3 rfl) ?_
                  refine kr_iV (As := [.int (nI (4 * msl pr a + mpg wd se (msl pr a) a)), .int (nI a)]) (rest := [.ref (q 6)]) ⟨hx, hb, hml, hown, hts⟩ (c_MO_placeOf4 l D k q (nI 0) wd se kd bn sh mb pr B R sx pt rd wt ln px hkd hsh hmb (4 * msl pr a + mpg wd se (msl pr a) a) a (by omega) (by omega) (by omega)) (cwV 2 hts (gV w_617 w_619 w_p16 w_5 w_620) rfl rfl rfl (by decide +kernel) ⟨Nat.le_of_ble_eq_true rfl, Nat.le_of_ble_eq_true rfl⟩) hK hP (va_recv hK hP (ci := 7) (q0 := 0) rfl rfl) rfl hl.1 rfl (Nat.le_of_ble_eq_true rfl) d_MO_write_159 ⟨Nat.zero_le _, Nat.zero_le _⟩ ?_
                  refine lv_iload_n hx hb d_MO_write_162 rfl (lv_at hl 4 rfl) ?_
                  refine va_iast hx hb hK hP hD hS 6 0 rfl rfl (vp_in_nI (by omega) (by omega)) d_MO_write_163 (fun H locs hP hD hS => ?_)
                  rw [ss_upI mb (k := (256 * (4 * msl pr a + mpg wd se (msl pr a) a) + a % 64)) (v := v) (by omega)] at hP hD
                  have hP : va_P D vwCl (mW q k (nI 0) wd se kd bn sh (ss_up mb (256 * (4 * msl pr a + mpg wd se (msl pr a) a) + a % 64) v) pr B R sx pt rd wt ln px) H := hP
                  have hD : va_D A (mW q k (nI 0) wd se kd bn sh (ss_up mb (256 * (4 * msl pr a + mpg wd se (msl pr a) a) + a % 64) v) pr B R sx pt rd wt ln px) := hD
                  exact rw_retv hx hb hr hlocks d_MO_write_164 hS () (trivial) hP
            · have c17 := (nI_eq (by omega) (by omega)).mp c17
              exfalso; omega
          · have c15 := mt (n_eq0 (by omega)).mpr c15
            exfalso; omega
      · have c3 := mt (n_eq0 (by omega)).mpr c3
        exfalso; omega
set_option maxHeartbeats 4000000 in
set_option maxRecDepth 100000 in
theorem c_MO_writeo (l : Launch) (D : va_G) (k : Nat → ClassId) (q : Nat → Nat) (cd : Int32) (wd : Nat → Nat) (se : Nat → Nat) (kd : Nat → Nat) (bn : Nat → Int32) (sh : Nat → Nat) (mb : Nat → Nat) (pr : Nat) (B : Nat → Nat) (R : Nat → Nat) (sx : Nat) (pt : Nat) (rd : Nat) (wt : Int32) (ln : Nat) (px : Nat → Nat) (hwd : ∀ j, wd j < 2) (hse : ∀ j, se j < 256) (hpr : pr < 256) (hkd : ∀ j, kd j < 5) (hsh : ∀ j, sh j < 8) (hmb : ∀ j, mb j < 256) (a v : Nat) (ha : a < 256) (hv : v < 256) (h1 : ¬ (a = 255 ∧ wd (msl pr a) = 1)) (hk : kd (4 * msl pr a + mpg wd se (msl pr a) a) = 0 ∨ kd (4 * msl pr a + mpg wd se (msl pr a) a) = 2) : rw_v l y_MO_write b_MO_write 5 none { frames := 3, cells := 0, slots := 0, locals := 67 } D (kT k) (mW q k cd wd se kd bn sh mb pr B R sx pt rd wt ln px) [.ref (q 0), .int (nI a), .int (nI v)] (fun (_ : Unit) => True) (fun (_ : Unit) => (mW q k (nI 0) wd se kd bn sh mb pr B R sx pt rd wt ln px)) := by
  refine rw_headv (by decide) (Nat.le_of_ble_eq_true rfl) ?_
  intro p e s m below meth c ls A hx hb hr hlocks hml hown hts hK hA hP hD hS hl
  have hown : s.vm.findClass "SlotScreenModel" = some m.cls := hown
  have hl : lv_has ls 5 [(0, .ref (q 0)), (1, .int (nI a)), (2, .int (nI v))] := hl
  have z1 := msl_lt pr a
  have z2 := mpg_lt wd se (msl pr a) a
  refine lv_aload_n hx hb d_MO_write_0 rfl (lv_at hl 0 rfl) ?_
  refine lv_iload_n hx hb d_MO_write_1 rfl (lv_at hl 1 rfl) ?_
  refine lv_iconst (v := nI 0) hx hb d_MO_write_2 (by decide +kernel) ?_
  refine lv_sipush (v := nI 255) hx hb d_MO_write_3 (by decide +kernel) ?_
  refine kr_iS (As := [.int (nI a), .int (nI 0), .int (nI 255)]) (rest := [.ref (q 0)]) ⟨hx, hb, hml, hown, hts⟩ (c_MO_within l D k a 0 255 (by omega) (by omega) (by omega)) (va_cwS 3 hts (gS w_587 w_588 w_5 w_589) rfl rfl rfl (by decide +kernel) ⟨Nat.le_of_ble_eq_true rfl, Nat.le_of_ble_eq_true rfl⟩) hK va_nil rfl hl.1 rfl (Nat.le_of_ble_eq_true rfl) d_MO_write_6 ⟨Nat.zero_le _, Nat.zero_le _⟩ ?_
  refine lv_if_eq (tgt := 27) hx hb d_MO_write_9 (by decide) (fun c1 => ?_) (fun c1 => ?_)
  · have c1 := (bI_0).mp c1
    exfalso; omega
  · have c1 := mt (bI_0).mpr c1
    have c1 := Classical.not_not.mp c1
    refine lv_iload_n hx hb d_MO_write_12 rfl (lv_at hl 2 rfl) ?_
    refine lv_iconst (v := nI 0) hx hb d_MO_write_13 (by decide +kernel) ?_
    refine lv_sipush (v := nI 255) hx hb d_MO_write_14 (by decide +kernel) ?_
    refine kr_iS (As := [.int (nI v), .int (nI 0), .int (nI 255)]) (rest := [.ref (q 0)]) ⟨hx, hb, hml, hown, hts⟩ (c_MO_within l D k v 0 255 (by omega) (by omega) (by omega)) (va_cwS 3 hts (gS w_587 w_588 w_5 w_589) rfl rfl rfl (by decide +kernel) ⟨Nat.le_of_ble_eq_true rfl, Nat.le_of_ble_eq_true rfl⟩) hK va_nil rfl hl.1 rfl (Nat.le_of_ble_eq_true rfl) d_MO_write_17 ⟨Nat.zero_le _, Nat.zero_le _⟩ ?_
    refine lv_if_eq (tgt := 27) hx hb d_MO_write_20 (by decide) (fun c2 => ?_) (fun c2 => ?_)
    · have c2 := (bI_0).mp c2
      exfalso; omega
    · have c2 := mt (bI_0).mpr c2
      have c2 := Classical.not_not.mp c2
      refine lv_iconst (v := nI 0) hx hb d_MO_write_23 (by decide +kernel) ?_
      refine lv_goto (tgt := 28) hx hb d_MO_write_24 (by decide) ?_
      refine va_put (D := D) (ci := 7) (v := .int (nI 0)) (ty := .int) (C := R_MO) (T := T_MO) (N := 16) hx hb hts in_MO t_MO o_MO n_MO hown hK hP hD hS 0 rfl rfl 0 (by decide) (hts _ w_530) (fun _ h9 => h9) rfl (by decide +kernel) rfl rfl (Nat.le_of_ble_eq_true rfl) d_MO_write_28 (fun H locs hP hD hS => ?_)
      have hP : va_P D vwCl (mW q k (nI 0) wd se kd bn sh mb pr B R sx pt rd wt ln px) H := hP
      have hD : va_D A (mW q k (nI 0) wd se kd bn sh mb pr B R sx pt rd wt ln px) := hD
      refine lv_aload_n hx hb d_MO_write_31 rfl (lv_at hl 0 rfl) ?_
      refine va_get (D := D) (ci := 7) (v := .int (nI 0)) (C := R_MO) (T := T_MO) (N := 16) hx hb hts in_MO hown hK hP 0 rfl rfl 0 (by decide) (hts _ w_530) (fun _ h9 => h9) rfl d_MO_write_32 ?_
      refine lv_if_eq (tgt := 39) hx hb d_MO_write_35 (by decide) (fun c3 => ?_) (fun c3 => ?_)
      · have c3 := (n_eq0 (by omega)).mp c3
        refine lv_aload_n hx hb d_MO_write_39 rfl (lv_at hl 0 rfl) ?_
        refine lv_iload_n hx hb d_MO_write_40 rfl (lv_at hl 1 rfl) ?_
        have g4 := msl_lt pr a
        refine kr_iV (As := [.int (nI a)]) (rest := []) ⟨hx, hb, hml, hown, hts⟩ (c_MO_slotOf l D k q (nI 0) wd se kd bn sh mb pr B R sx pt rd wt ln px (by omega) a (by omega)) (cwV 1 hts (gV w_602 w_604 w_p13 w_5 w_605) rfl rfl rfl (by decide +kernel) ⟨Nat.le_of_ble_eq_true rfl, Nat.le_of_ble_eq_true rfl⟩) hK hP (va_recv hK hP (ci := 7) (q0 := 0) rfl rfl) rfl hl.1 rfl (Nat.le_of_ble_eq_true rfl) d_MO_write_41 ⟨Nat.zero_le _, Nat.zero_le _⟩ ?_
        refine lv_istore_n (lv' := [(3, .int (nI (msl pr a))), (0, .ref (q 0)), (1, .int (nI a)), (2, .int (nI v))]) hx hb d_MO_write_44 rfl hl (by decide) rfl (fun ls hl => ?_)
        refine lv_aload_n hx hb d_MO_write_45 rfl (lv_at hl 1 rfl) ?_
        refine lv_iload_n hx hb d_MO_write_46 rfl (lv_at hl 2 rfl) ?_
        have g5 := msl_lt pr a
        have g6 := mpg_lt wd se (msl pr a) a
        refine kr_iV (As := [.int (nI a)]) (rest := []) ⟨hx, hb, hml, hown, hts⟩ (c_MO_deviceAt l D k q (nI 0) wd se kd bn sh mb pr B R sx pt rd wt ln px hwd hse hpr a (by omega)) (cwV 1 hts (gV w_609 w_611 w_p14 w_5 w_612) rfl rfl rfl (by decide +kernel) ⟨Nat.le_of_ble_eq_true rfl, Nat.le_of_ble_eq_true rfl⟩) hK hP (va_recv hK hP (ci := 7) (q0 := 0) rfl rfl) rfl hl.1 rfl (Nat.le_of_ble_eq_true rfl) d_MO_write_47 ⟨Nat.zero_le _, Nat.zero_le _⟩ ?_
        refine lv_istore (lv' := [(4, .int (nI (4 * msl pr a + mpg wd se (msl pr a) a))), (3, .int (nI (msl pr a))), (0, .ref (q 0)), (1, .int (nI a)), (2, .int (nI v))]) hx hb d_MO_write_50 hl (by decide) rfl (fun ls hl => ?_)
        refine lv_iload_n hx hb d_MO_write_52 rfl (lv_at hl 3 rfl) ?_
        refine lv_sipush (v := nI 255) hx hb d_MO_write_53 (by decide +kernel) ?_
        refine lv_icmp_ne (tgt := 78) hx hb d_MO_write_56 (by decide) (fun c7 => ?_) (fun c7 => ?_)
        · have c7 := mt (nI_eq (by omega) (by omega)).mpr c7
          refine lv_aload_n hx hb d_MO_write_78 rfl (lv_at hl 2 rfl) ?_
          refine va_get (D := D) (ci := 7) (v := .ref (q 3)) (C := R_MO) (T := T_MO) (N := 16) hx hb hts in_MO hown hK hP 0 rfl rfl 3 (by decide) (hts _ w_533) (fun _ h9 => h9) rfl d_MO_write_79 ?_
          refine lv_iload hx hb d_MO_write_82 (lv_at hl 0 rfl) ?_
          refine va_iald hx hb hK hP 3 0 rfl rfl (vp_in_nI (by omega) (by omega)) d_MO_write_84 ?_
          refine ss_rt (y := nI (kd (4 * msl pr a + mpg wd se (msl pr a) a))) (congrArg (fun z => nI (kd z)) (nI_clamp (by omega))) ?_
          have g8 := hkd (4 * msl pr a + mpg wd se (msl pr a) a)
          refine lv_iconst (v := nI 3) hx hb d_MO_write_85 (by decide +kernel) ?_
          refine lv_icmp_ne (tgt := 129) hx hb d_MO_write_86 (by decide) (fun c9 => ?_) (fun c9 => ?_)
          · have c9 := mt (nI_eq (by omega) (by omega)).mpr c9
            refine lv_aload_n hx hb d_MO_write_129 rfl (lv_at hl 2 rfl) ?_
            refine va_get (D := D) (ci := 7) (v := .ref (q 3)) (C := R_MO) (T := T_MO) (N := 16) hx hb hts in_MO hown hK hP 0 rfl rfl 3 (by decide) (hts _ w_533) (fun _ h9 => h9) rfl d_MO_write_130 ?_
            refine lv_iload hx hb d_MO_write_133 (lv_at hl 0 rfl) ?_
            refine va_iald hx hb hK hP 3 0 rfl rfl (vp_in_nI (by omega) (by omega)) d_MO_write_135 ?_
            refine ss_rt (y := nI (kd (4 * msl pr a + mpg wd se (msl pr a) a))) (congrArg (fun z => nI (kd z)) (nI_clamp (by omega))) ?_
            have g10 := hkd (4 * msl pr a + mpg wd se (msl pr a) a)
            refine lv_iconst (v := nI 1) hx hb d_MO_write_136 (by decide +kernel) ?_
            refine lv_icmp_eq (tgt := 151) hx hb d_MO_write_137 (by decide) (fun c11 => ?_) (fun c11 => ?_)
            · have c11 := (nI_eq (by omega) (by omega)).mp c11
              exfalso; omega
            · have c11 := mt (nI_eq (by omega) (by omega)).mpr c11
              refine lv_aload_n hx hb d_MO_write_140 rfl (lv_at hl 2 rfl) ?_
              refine va_get (D := D) (ci := 7) (v := .ref (q 3)) (C := R_MO) (T := T_MO) (N := 16) hx hb hts in_MO hown hK hP 0 rfl rfl 3 (by decide) (hts _ w_533) (fun _ h9 => h9) rfl d_MO_write_141 ?_
              refine lv_iload hx hb d_MO_write_144 (lv_at hl 0 rfl) ?_
              refine va_iald hx hb hK hP 3 0 rfl rfl (vp_in_nI (by omega) (by omega)) d_MO_write_146 ?_
              refine ss_rt (y := nI (kd (4 * msl pr a + mpg wd se (msl pr a) a))) (congrArg (fun z => nI (kd z)) (nI_clamp (by omega))) ?_
              have g12 := hkd (4 * msl pr a + mpg wd se (msl pr a) a)
              refine lv_iconst (v := nI 4) hx hb d_MO_write_147 (by decide +kernel) ?_
              refine lv_icmp_ne (tgt := 164) hx hb d_MO_write_148 (by decide) (fun c13 => ?_) (fun c13 => ?_)
              · have c13 := mt (nI_eq (by omega) (by omega)).mpr c13
                exact rw_retv hx hb hr hlocks d_MO_write_164 hS () (trivial) hP
              · have c13 := (nI_eq (by omega) (by omega)).mp c13
                exfalso; omega
          · have c9 := (nI_eq (by omega) (by omega)).mp c9
            exfalso; omega
        · have c7 := (nI_eq (by omega) (by omega)).mp c7
          refine lv_aload_n hx hb d_MO_write_59 rfl (lv_at hl 2 rfl) ?_
          refine va_get (D := D) (ci := 7) (v := .ref (q 1)) (C := R_MO) (T := T_MO) (N := 16) hx hb hts in_MO hown hK hP 0 rfl rfl 1 (by decide) (hts _ w_531) (fun _ h9 => h9) rfl d_MO_write_60 ?_
          refine lv_iload_n hx hb d_MO_write_63 rfl (lv_at hl 1 rfl) ?_
          refine va_zald hx hb hK hP 1 1 rfl rfl (vp_in_nI (by omega) (by omega)) d_MO_write_64 ?_
          refine ss_rt (y := nI (wd (msl pr a))) (congrArg (fun z => nI (wd z)) (nI_clamp (by omega))) ?_
          have g14 := hwd (msl pr a)
          refine lv_if_eq (tgt := 78) hx hb d_MO_write_65 (by decide) (fun c15 => ?_) (fun c15 => ?_)
          · have c15 := (n_eq0 (by omega)).mp c15
            refine lv_aload_n hx hb d_MO_write_78 rfl (lv_at hl 2 rfl) ?_
            refine va_get (D := D) (ci := 7) (v := .ref (q 3)) (C := R_MO) (T := T_MO) (N := 16) hx hb hts in_MO hown hK hP 0 rfl rfl 3 (by decide) (hts _ w_533) (fun _ h9 => h9) rfl d_MO_write_79 ?_
            refine lv_iload hx hb d_MO_write_82 (lv_at hl 0 rfl) ?_
            refine va_iald hx hb hK hP 3 0 rfl rfl (vp_in_nI (by omega) (by omega)) d_MO_write_84 ?_
            refine ss_rt (y := nI (kd (4 * msl pr a + mpg wd se (msl pr a) a))) (congrArg (fun z => nI (kd z)) (nI_clamp (by omega))) ?_
            have g16 := hkd (4 * msl pr a + mpg wd se (msl pr a) a)
            refine lv_iconst (v := nI 3) hx hb d_MO_write_85 (by decide +kernel) ?_
            refine lv_icmp_ne (tgt := 129) hx hb d_MO_write_86 (by decide) (fun c17 => ?_) (fun c17 => ?_)
            · have c17 := mt (nI_eq (by omega) (by omega)).mpr c17
              refine lv_aload_n hx hb d_MO_write_129 rfl (lv_at hl 2 rfl) ?_
              refine va_get (D := D) (ci := 7) (v := .ref (q 3)) (C := R_MO) (T := T_MO) (N := 16) hx hb hts in_MO hown hK hP 0 rfl rfl 3 (by decide) (hts _ w_533) (fun _ h9 => h9) rfl d_MO_write_130 ?_
              refine lv_iload hx hb d_MO_write_133 (lv_at hl 0 rfl) ?_
              refine va_iald hx hb hK hP 3 0 rfl rfl (vp_in_nI (by omega) (by omega)) d_MO_write_135 ?_
              refine ss_rt (y := nI (kd (4 * msl pr a + mpg wd se (msl pr a) a))) (congrArg (fun z => nI (kd z)) (nI_clamp (by omega))) ?_
              have g18 := hkd (4 * msl pr a + mpg wd se (msl pr a) a)
              refine lv_iconst (v := nI 1) hx hb d_MO_write_136 (by decide +kernel) ?_
              refine lv_icmp_eq (tgt := 151) hx hb d_MO_write_137 (by decide) (fun c19 => ?_) (fun c19 => ?_)
              · have c19 := (nI_eq (by omega) (by omega)).mp c19
                exfalso; omega
              · have c19 := mt (nI_eq (by omega) (by omega)).mpr c19
                refine lv_aload_n hx hb d_MO_write_140 rfl (lv_at hl 2 rfl) ?_
                refine va_get (D := D) (ci := 7) (v := .ref (q 3)) (C := R_MO) (T := T_MO) (N := 16) hx hb hts in_MO hown hK hP 0 rfl rfl 3 (by decide) (hts _ w_533) (fun _ h9 => h9) rfl d_MO_write_141 ?_
                refine lv_iload hx hb d_MO_write_144 (lv_at hl 0 rfl) ?_
                refine va_iald hx hb hK hP 3 0 rfl rfl (vp_in_nI (by omega) (by omega)) d_MO_write_146 ?_
                refine ss_rt (y := nI (kd (4 * msl pr a + mpg wd se (msl pr a) a))) (congrArg (fun z => nI (kd z)) (nI_clamp (by omega))) ?_
                have g20 := hkd (4 * msl pr a + mpg wd se (msl pr a) a)
                refine lv_iconst (v := nI 4) hx hb d_MO_write_147 (by decide +kernel) ?_
                refine lv_icmp_ne (tgt := 164) hx hb d_MO_write_148 (by decide) (fun c21 => ?_) (fun c21 => ?_)
                · have c21 := mt (nI_eq (by omega) (by omega)).mpr c21
                  exact rw_retv hx hb hr hlocks d_MO_write_164 hS () (trivial) hP
                · have c21 := (nI_eq (by omega) (by omega)).mp c21
                  exfalso; omega
            · have c17 := (nI_eq (by omega) (by omega)).mp c17
              exfalso; omega
          · have c15 := mt (n_eq0 (by omega)).mpr c15
            exfalso; omega
      · have c3 := mt (n_eq0 (by omega)).mpr c3
        exfalso; omega
set_option maxHeartbeats 4000000 in
set_option maxRecDepth 100000 in
theorem c_MO_widenb (l : Launch) (D : va_G) (k : Nat → ClassId) (q : Nat → Nat) (cd : Int32) (wd : Nat → Nat) (se : Nat → Nat) (kd : Nat → Nat) (bn : Nat → Int32) (sh : Nat → Nat) (mb : Nat → Nat) (pr : Nat) (B : Nat → Nat) (R : Nat → Nat) (sx : Nat) (pt : Nat) (rd : Nat) (wt : Int32) (ln : Nat) (px : Nat → Nat) (x : Int32) (hx9 : ¬ (0 ≤ x.toInt ∧ x.toInt ≤ 3)) : rw_v l y_MO_widen b_MO_widen 2 none { frames := 3, cells := 0, slots := 0, locals := 67 } D (kT k) (mW q k cd wd se kd bn sh mb pr B R sx pt rd wt ln px) [.ref (q 0), .int x] (fun (_ : Unit) => True) (fun (_ : Unit) => (mW q k (nI 1) wd se kd bn sh mb pr B R sx pt rd wt ln px)) := by
  refine rw_headv (by decide) (Nat.le_of_ble_eq_true rfl) ?_
  intro p e s m below meth c ls A hx hb hr hlocks hml hown hts hK hA hP hD hS hl
  have hown : s.vm.findClass "SlotScreenModel" = some m.cls := hown
  have hl : lv_has ls 2 [(0, .ref (q 0)), (1, .int x)] := hl
  refine lv_aload_n hx hb d_MO_widen_0 rfl (lv_at hl 0 rfl) ?_
  refine lv_iload_n hx hb d_MO_widen_1 rfl (lv_at hl 1 rfl) ?_
  refine lv_iconst (v := nI 0) hx hb d_MO_widen_2 (by decide +kernel) ?_
  refine lv_iconst (v := nI 3) hx hb d_MO_widen_3 (by decide +kernel) ?_
  refine kr_iS (As := [.int x, .int (nI 0), .int (nI 3)]) (rest := [.ref (q 0)]) ⟨hx, hb, hml, hown, hts⟩ (c_MO_withinZ l D k x 0 3 (by omega) (by omega)) (va_cwS 3 hts (gS w_587 w_588 w_5 w_589) rfl rfl rfl (by decide +kernel) ⟨Nat.le_of_ble_eq_true rfl, Nat.le_of_ble_eq_true rfl⟩) hK va_nil rfl hl.1 rfl (Nat.le_of_ble_eq_true rfl) d_MO_widen_4 ⟨Nat.zero_le _, Nat.zero_le _⟩ ?_
  refine lv_if_eq (tgt := 14) hx hb d_MO_widen_7 (by decide) (fun c1 => ?_) (fun c1 => ?_)
  · have c1 := (bI_0).mp c1
    refine lv_iconst (v := nI 1) hx hb d_MO_widen_14 (by decide +kernel) ?_
    refine va_put (D := D) (ci := 7) (v := .int (nI 1)) (ty := .int) (C := R_MO) (T := T_MO) (N := 16) hx hb hts in_MO t_MO o_MO n_MO hown hK hP hD hS 0 rfl rfl 0 (by decide) (hts _ w_530) (fun _ h9 => h9) rfl (by decide +kernel) rfl rfl (Nat.le_of_ble_eq_true rfl) d_MO_widen_15 (fun H locs hP hD hS => ?_)
    have hP : va_P D vwCl (mW q k (nI 1) wd se kd bn sh mb pr B R sx pt rd wt ln px) H := hP
    have hD : va_D A (mW q k (nI 1) wd se kd bn sh mb pr B R sx pt rd wt ln px) := hD
    refine lv_aload_n hx hb d_MO_widen_18 rfl (lv_at hl 0 rfl) ?_
    refine va_get (D := D) (ci := 7) (v := .int (nI 1)) (C := R_MO) (T := T_MO) (N := 16) hx hb hts in_MO hown hK hP 0 rfl rfl 0 (by decide) (hts _ w_530) (fun _ h9 => h9) rfl d_MO_widen_19 ?_
    refine lv_if_eq (tgt := 26) hx hb d_MO_widen_22 (by decide) (fun c2 => ?_) (fun c2 => ?_)
    · have c2 := (n_eq0 (by omega)).mp c2
      exfalso; omega
    · have c2 := mt (n_eq0 (by omega)).mpr c2
      exact rw_retv hx hb hr hlocks d_MO_widen_25 hS () (trivial) hP
  · have c1 := mt (bI_0).mpr c1
    have c1 := Classical.not_not.mp c1
    exfalso; omega
set_option maxHeartbeats 4000000 in
set_option maxRecDepth 100000 in
theorem c_MO_wident (l : Launch) (D : va_G) (k : Nat → ClassId) (q : Nat → Nat) (cd : Int32) (wd : Nat → Nat) (se : Nat → Nat) (kd : Nat → Nat) (bn : Nat → Int32) (sh : Nat → Nat) (mb : Nat → Nat) (pr : Nat) (B : Nat → Nat) (R : Nat → Nat) (sx : Nat) (pt : Nat) (rd : Nat) (wt : Int32) (ln : Nat) (px : Nat → Nat) (hwd : ∀ j, wd j < 2) (hse : ∀ j, se j < 256) (hpr : pr < 256) (hkd : ∀ j, kd j < 5) (hsh : ∀ j, sh j < 8) (hmb : ∀ j, mb j < 256) (j : Nat) (hj : j < 4) (h1 : wd j = 1 ∨ kd (4 * j) ≠ 0) : rw_v l y_MO_widen b_MO_widen 2 none { frames := 3, cells := 0, slots := 0, locals := 67 } D (kT k) (mW q k cd wd se kd bn sh mb pr B R sx pt rd wt ln px) [.ref (q 0), .int (nI j)] (fun (_ : Unit) => True) (fun (_ : Unit) => (mW q k (nI 2) wd se kd bn sh mb pr B R sx pt rd wt ln px)) := by
  refine rw_headv (by decide) (Nat.le_of_ble_eq_true rfl) ?_
  intro p e s m below meth c ls A hx hb hr hlocks hml hown hts hK hA hP hD hS hl
  have hown : s.vm.findClass "SlotScreenModel" = some m.cls := hown
  have hl : lv_has ls 2 [(0, .ref (q 0)), (1, .int (nI j))] := hl
  refine lv_aload_n hx hb d_MO_widen_0 rfl (lv_at hl 0 rfl) ?_
  refine lv_iload_n hx hb d_MO_widen_1 rfl (lv_at hl 1 rfl) ?_
  refine lv_iconst (v := nI 0) hx hb d_MO_widen_2 (by decide +kernel) ?_
  refine lv_iconst (v := nI 3) hx hb d_MO_widen_3 (by decide +kernel) ?_
  refine kr_iS (As := [.int (nI j), .int (nI 0), .int (nI 3)]) (rest := [.ref (q 0)]) ⟨hx, hb, hml, hown, hts⟩ (c_MO_within l D k j 0 3 (by omega) (by omega) (by omega)) (va_cwS 3 hts (gS w_587 w_588 w_5 w_589) rfl rfl rfl (by decide +kernel) ⟨Nat.le_of_ble_eq_true rfl, Nat.le_of_ble_eq_true rfl⟩) hK va_nil rfl hl.1 rfl (Nat.le_of_ble_eq_true rfl) d_MO_widen_4 ⟨Nat.zero_le _, Nat.zero_le _⟩ ?_
  refine lv_if_eq (tgt := 14) hx hb d_MO_widen_7 (by decide) (fun c1 => ?_) (fun c1 => ?_)
  · have c1 := (bI_0).mp c1
    exfalso; omega
  · have c1 := mt (bI_0).mpr c1
    have c1 := Classical.not_not.mp c1
    refine lv_iconst (v := nI 0) hx hb d_MO_widen_10 (by decide +kernel) ?_
    refine lv_goto (tgt := 15) hx hb d_MO_widen_11 (by decide) ?_
    refine va_put (D := D) (ci := 7) (v := .int (nI 0)) (ty := .int) (C := R_MO) (T := T_MO) (N := 16) hx hb hts in_MO t_MO o_MO n_MO hown hK hP hD hS 0 rfl rfl 0 (by decide) (hts _ w_530) (fun _ h9 => h9) rfl (by decide +kernel) rfl rfl (Nat.le_of_ble_eq_true rfl) d_MO_widen_15 (fun H locs hP hD hS => ?_)
    have hP : va_P D vwCl (mW q k (nI 0) wd se kd bn sh mb pr B R sx pt rd wt ln px) H := hP
    have hD : va_D A (mW q k (nI 0) wd se kd bn sh mb pr B R sx pt rd wt ln px) := hD
    refine lv_aload_n hx hb d_MO_widen_18 rfl (lv_at hl 0 rfl) ?_
    refine va_get (D := D) (ci := 7) (v := .int (nI 0)) (C := R_MO) (T := T_MO) (N := 16) hx hb hts in_MO hown hK hP 0 rfl rfl 0 (by decide) (hts _ w_530) (fun _ h9 => h9) rfl d_MO_widen_19 ?_
    refine lv_if_eq (tgt := 26) hx hb d_MO_widen_22 (by decide) (fun c2 => ?_) (fun c2 => ?_)
    · have c2 := (n_eq0 (by omega)).mp c2
      refine lv_aload_n hx hb d_MO_widen_26 rfl (lv_at hl 0 rfl) ?_
      refine va_get (D := D) (ci := 7) (v := .ref (q 1)) (C := R_MO) (T := T_MO) (N := 16) hx hb hts in_MO hown hK hP 0 rfl rfl 1 (by decide) (hts _ w_531) (fun _ h9 => h9) rfl d_MO_widen_27 ?_
      refine lv_iload_n hx hb d_MO_widen_30 rfl (lv_at hl 1 rfl) ?_
      refine va_zald hx hb hK hP 1 1 rfl rfl (vp_in_nI (by omega) (by omega)) d_MO_widen_31 ?_
      refine ss_rt (y := nI (wd j)) (congrArg (fun z => nI (wd z)) (nI_clamp (by omega))) ?_
      have g3 := hwd j
      refine lv_if_ne (tgt := 46) hx hb d_MO_widen_32 (by decide) (fun c4 => ?_) (fun c4 => ?_)
      · have c4 := mt (n_eq0 (by omega)).mpr c4
        refine lv_aload_n hx hb d_MO_widen_46 rfl (lv_at hl 0 rfl) ?_
        refine lv_iconst (v := nI 2) hx hb d_MO_widen_47 (by decide +kernel) ?_
        refine va_put (D := D) (ci := 7) (v := .int (nI 2)) (ty := .int) (C := R_MO) (T := T_MO) (N := 16) hx hb hts in_MO t_MO o_MO n_MO hown hK hP hD hS 0 rfl rfl 0 (by decide) (hts _ w_530) (fun _ h9 => h9) rfl (by decide +kernel) rfl rfl (Nat.le_of_ble_eq_true rfl) d_MO_widen_48 (fun H locs hP hD hS => ?_)
        have hP : va_P D vwCl (mW q k (nI 2) wd se kd bn sh mb pr B R sx pt rd wt ln px) H := hP
        have hD : va_D A (mW q k (nI 2) wd se kd bn sh mb pr B R sx pt rd wt ln px) := hD
        exact rw_retv hx hb hr hlocks d_MO_widen_51 hS () (trivial) hP
      · have c4 := (n_eq0 (by omega)).mp c4
        refine lv_aload_n hx hb d_MO_widen_35 rfl (lv_at hl 0 rfl) ?_
        refine va_get (D := D) (ci := 7) (v := .ref (q 3)) (C := R_MO) (T := T_MO) (N := 16) hx hb hts in_MO hown hK hP 0 rfl rfl 3 (by decide) (hts _ w_533) (fun _ h9 => h9) rfl d_MO_widen_36 ?_
        refine lv_iconst (v := nI 4) hx hb d_MO_widen_39 (by decide +kernel) ?_
        refine lv_iload_n hx hb d_MO_widen_40 rfl (lv_at hl 1 rfl) ?_
        refine lv_imul hx hb d_MO_widen_41 ?_
        refine ss_rt (y := nI (4 * j)) (pk_mul _ _) ?_
        refine va_iald hx hb hK hP 3 0 rfl rfl (vp_in_nI (by omega) (by omega)) d_MO_widen_42 ?_
        refine ss_rt (y := nI (kd (4 * j))) (congrArg (fun z => nI (kd z)) (nI_clamp (by omega))) ?_
        have g5 := hkd (4 * j)
        refine lv_if_eq (tgt := 52) hx hb d_MO_widen_43 (by decide) (fun c6 => ?_) (fun c6 => ?_)
        · have c6 := (n_eq0 (by omega)).mp c6
          exfalso; omega
        · have c6 := mt (n_eq0 (by omega)).mpr c6
          refine lv_aload_n hx hb d_MO_widen_46 rfl (lv_at hl 0 rfl) ?_
          refine lv_iconst (v := nI 2) hx hb d_MO_widen_47 (by decide +kernel) ?_
          refine va_put (D := D) (ci := 7) (v := .int (nI 2)) (ty := .int) (C := R_MO) (T := T_MO) (N := 16) hx hb hts in_MO t_MO o_MO n_MO hown hK hP hD hS 0 rfl rfl 0 (by decide) (hts _ w_530) (fun _ h9 => h9) rfl (by decide +kernel) rfl rfl (Nat.le_of_ble_eq_true rfl) d_MO_widen_48 (fun H locs hP hD hS => ?_)
          have hP : va_P D vwCl (mW q k (nI 2) wd se kd bn sh mb pr B R sx pt rd wt ln px) H := hP
          have hD : va_D A (mW q k (nI 2) wd se kd bn sh mb pr B R sx pt rd wt ln px) := hD
          exact rw_retv hx hb hr hlocks d_MO_widen_51 hS () (trivial) hP
    · have c2 := mt (n_eq0 (by omega)).mpr c2
      exfalso; omega
set_option maxHeartbeats 4000000 in
set_option maxRecDepth 100000 in
theorem c_MO_widen (l : Launch) (D : va_G) (k : Nat → ClassId) (q : Nat → Nat) (cd : Int32) (wd : Nat → Nat) (se : Nat → Nat) (kd : Nat → Nat) (bn : Nat → Int32) (sh : Nat → Nat) (mb : Nat → Nat) (pr : Nat) (B : Nat → Nat) (R : Nat → Nat) (sx : Nat) (pt : Nat) (rd : Nat) (wt : Int32) (ln : Nat) (px : Nat → Nat) (hwd : ∀ j, wd j < 2) (hse : ∀ j, se j < 256) (hpr : pr < 256) (hkd : ∀ j, kd j < 5) (hsh : ∀ j, sh j < 8) (hmb : ∀ j, mb j < 256) (j : Nat) (hj : j < 4) (h1 : wd j = 0) (h2 : kd (4 * j) = 0) : rw_v l y_MO_widen b_MO_widen 2 none { frames := 3, cells := 0, slots := 0, locals := 67 } D (kT k) (mW q k cd wd se kd bn sh mb pr B R sx pt rd wt ln px) [.ref (q 0), .int (nI j)] (fun (_ : Unit) => True) (fun (_ : Unit) => (mW q k (nI 0) (ss_up wd j 1) se kd bn sh mb pr B R sx pt rd wt ln px)) := by
  refine rw_headv (by decide) (Nat.le_of_ble_eq_true rfl) ?_
  intro p e s m below meth c ls A hx hb hr hlocks hml hown hts hK hA hP hD hS hl
  have hown : s.vm.findClass "SlotScreenModel" = some m.cls := hown
  have hl : lv_has ls 2 [(0, .ref (q 0)), (1, .int (nI j))] := hl
  refine lv_aload_n hx hb d_MO_widen_0 rfl (lv_at hl 0 rfl) ?_
  refine lv_iload_n hx hb d_MO_widen_1 rfl (lv_at hl 1 rfl) ?_
  refine lv_iconst (v := nI 0) hx hb d_MO_widen_2 (by decide +kernel) ?_
  refine lv_iconst (v := nI 3) hx hb d_MO_widen_3 (by decide +kernel) ?_
  refine kr_iS (As := [.int (nI j), .int (nI 0), .int (nI 3)]) (rest := [.ref (q 0)]) ⟨hx, hb, hml, hown, hts⟩ (c_MO_within l D k j 0 3 (by omega) (by omega) (by omega)) (va_cwS 3 hts (gS w_587 w_588 w_5 w_589) rfl rfl rfl (by decide +kernel) ⟨Nat.le_of_ble_eq_true rfl, Nat.le_of_ble_eq_true rfl⟩) hK va_nil rfl hl.1 rfl (Nat.le_of_ble_eq_true rfl) d_MO_widen_4 ⟨Nat.zero_le _, Nat.zero_le _⟩ ?_
  refine lv_if_eq (tgt := 14) hx hb d_MO_widen_7 (by decide) (fun c1 => ?_) (fun c1 => ?_)
  · have c1 := (bI_0).mp c1
    exfalso; omega
  · have c1 := mt (bI_0).mpr c1
    have c1 := Classical.not_not.mp c1
    refine lv_iconst (v := nI 0) hx hb d_MO_widen_10 (by decide +kernel) ?_
    refine lv_goto (tgt := 15) hx hb d_MO_widen_11 (by decide) ?_
    refine va_put (D := D) (ci := 7) (v := .int (nI 0)) (ty := .int) (C := R_MO) (T := T_MO) (N := 16) hx hb hts in_MO t_MO o_MO n_MO hown hK hP hD hS 0 rfl rfl 0 (by decide) (hts _ w_530) (fun _ h9 => h9) rfl (by decide +kernel) rfl rfl (Nat.le_of_ble_eq_true rfl) d_MO_widen_15 (fun H locs hP hD hS => ?_)
    have hP : va_P D vwCl (mW q k (nI 0) wd se kd bn sh mb pr B R sx pt rd wt ln px) H := hP
    have hD : va_D A (mW q k (nI 0) wd se kd bn sh mb pr B R sx pt rd wt ln px) := hD
    refine lv_aload_n hx hb d_MO_widen_18 rfl (lv_at hl 0 rfl) ?_
    refine va_get (D := D) (ci := 7) (v := .int (nI 0)) (C := R_MO) (T := T_MO) (N := 16) hx hb hts in_MO hown hK hP 0 rfl rfl 0 (by decide) (hts _ w_530) (fun _ h9 => h9) rfl d_MO_widen_19 ?_
    refine lv_if_eq (tgt := 26) hx hb d_MO_widen_22 (by decide) (fun c2 => ?_) (fun c2 => ?_)
    · have c2 := (n_eq0 (by omega)).mp c2
      refine lv_aload_n hx hb d_MO_widen_26 rfl (lv_at hl 0 rfl) ?_
      refine va_get (D := D) (ci := 7) (v := .ref (q 1)) (C := R_MO) (T := T_MO) (N := 16) hx hb hts in_MO hown hK hP 0 rfl rfl 1 (by decide) (hts _ w_531) (fun _ h9 => h9) rfl d_MO_widen_27 ?_
      refine lv_iload_n hx hb d_MO_widen_30 rfl (lv_at hl 1 rfl) ?_
      refine va_zald hx hb hK hP 1 1 rfl rfl (vp_in_nI (by omega) (by omega)) d_MO_widen_31 ?_
      refine ss_rt (y := nI (wd j)) (congrArg (fun z => nI (wd z)) (nI_clamp (by omega))) ?_
      have g3 := hwd j
      refine lv_if_ne (tgt := 46) hx hb d_MO_widen_32 (by decide) (fun c4 => ?_) (fun c4 => ?_)
      · have c4 := mt (n_eq0 (by omega)).mpr c4
        exfalso; omega
      · have c4 := (n_eq0 (by omega)).mp c4
        refine lv_aload_n hx hb d_MO_widen_35 rfl (lv_at hl 0 rfl) ?_
        refine va_get (D := D) (ci := 7) (v := .ref (q 3)) (C := R_MO) (T := T_MO) (N := 16) hx hb hts in_MO hown hK hP 0 rfl rfl 3 (by decide) (hts _ w_533) (fun _ h9 => h9) rfl d_MO_widen_36 ?_
        refine lv_iconst (v := nI 4) hx hb d_MO_widen_39 (by decide +kernel) ?_
        refine lv_iload_n hx hb d_MO_widen_40 rfl (lv_at hl 1 rfl) ?_
        refine lv_imul hx hb d_MO_widen_41 ?_
        refine ss_rt (y := nI (4 * j)) (pk_mul _ _) ?_
        refine va_iald hx hb hK hP 3 0 rfl rfl (vp_in_nI (by omega) (by omega)) d_MO_widen_42 ?_
        refine ss_rt (y := nI (kd (4 * j))) (congrArg (fun z => nI (kd z)) (nI_clamp (by omega))) ?_
        have g5 := hkd (4 * j)
        refine lv_if_eq (tgt := 52) hx hb d_MO_widen_43 (by decide) (fun c6 => ?_) (fun c6 => ?_)
        · have c6 := (n_eq0 (by omega)).mp c6
          refine lv_aload_n hx hb d_MO_widen_52 rfl (lv_at hl 0 rfl) ?_
          refine va_get (D := D) (ci := 7) (v := .ref (q 1)) (C := R_MO) (T := T_MO) (N := 16) hx hb hts in_MO hown hK hP 0 rfl rfl 1 (by decide) (hts _ w_531) (fun _ h9 => h9) rfl d_MO_widen_53 ?_
          refine lv_iload_n hx hb d_MO_widen_56 rfl (lv_at hl 1 rfl) ?_
          refine lv_iconst (v := nI 1) hx hb d_MO_widen_57 (by decide +kernel) ?_
          refine va_zast hx hb hK hP hD hS 1 1 rfl rfl (vp_in_nI (by omega) (by omega)) d_MO_widen_58 (fun H locs hP hD hS => ?_)
          rw [show vp_nar .boolean (nI 1) = nI 1 by decide +kernel] at hP hD
          rw [ss_upI wd (k := j) (v := 1) (by omega)] at hP hD
          have hP : va_P D vwCl (mW q k (nI 0) (ss_up wd j 1) se kd bn sh mb pr B R sx pt rd wt ln px) H := hP
          have hD : va_D A (mW q k (nI 0) (ss_up wd j 1) se kd bn sh mb pr B R sx pt rd wt ln px) := hD
          exact rw_retv hx hb hr hlocks d_MO_widen_59 hS () (trivial) hP
        · have c6 := mt (n_eq0 (by omega)).mpr c6
          exfalso; omega
    · have c2 := mt (n_eq0 (by omega)).mpr c2
      exfalso; omega
set_option maxHeartbeats 4000000 in
set_option maxRecDepth 100000 in
theorem c_MO_plugb (l : Launch) (D : va_G) (k : Nat → ClassId) (q : Nat → Nat) (cd : Int32) (wd : Nat → Nat) (se : Nat → Nat) (kd : Nat → Nat) (bn : Nat → Int32) (sh : Nat → Nat) (mb : Nat → Nat) (pr : Nat) (B : Nat → Nat) (R : Nat → Nat) (sx : Nat) (pt : Nat) (rd : Nat) (wt : Int32) (ln : Nat) (px : Nat → Nat) (x y z b : Int32) (hx9 : ¬ (0 ≤ x.toInt ∧ x.toInt ≤ 3 ∧ 0 ≤ y.toInt ∧ y.toInt ≤ 3 ∧ 1 ≤ z.toInt ∧ z.toInt ≤ 4 ∧ (z.toInt = 3 → 1 ≤ b.toInt ∧ b.toInt ≤ 8))) : rw_v l y_MO_plug b_MO_plug 7 none { frames := 3, cells := 0, slots := 0, locals := 67 } D (kT k) (mW q k cd wd se kd bn sh mb pr B R sx pt rd wt ln px) [.ref (q 0), .int x, .int y, .int z, .int b] (fun (_ : Unit) => True) (fun (_ : Unit) => (mW q k (nI 1) wd se kd bn sh mb pr B R sx pt rd wt ln px)) := by
  refine rw_headv (by decide) (Nat.le_of_ble_eq_true rfl) ?_
  intro p e s m below meth c ls A hx hb hr hlocks hml hown hts hK hA hP hD hS hl
  have hown : s.vm.findClass "SlotScreenModel" = some m.cls := hown
  have hl : lv_has ls 7 [(0, .ref (q 0)), (1, .int x), (2, .int y), (3, .int z), (4, .int b)] := hl
  refine lv_aload_n hx hb d_MO_plug_0 rfl (lv_at hl 0 rfl) ?_
  refine lv_iload_n hx hb d_MO_plug_1 rfl (lv_at hl 1 rfl) ?_
  refine lv_iconst (v := nI 0) hx hb d_MO_plug_2 (by decide +kernel) ?_
  refine lv_iconst (v := nI 3) hx hb d_MO_plug_3 (by decide +kernel) ?_
  refine kr_iS (As := [.int x, .int (nI 0), .int (nI 3)]) (rest := [.ref (q 0)]) ⟨hx, hb, hml, hown, hts⟩ (c_MO_withinZ l D k x 0 3 (by omega) (by omega)) (va_cwS 3 hts (gS w_587 w_588 w_5 w_589) rfl rfl rfl (by decide +kernel) ⟨Nat.le_of_ble_eq_true rfl, Nat.le_of_ble_eq_true rfl⟩) hK va_nil rfl hl.1 rfl (Nat.le_of_ble_eq_true rfl) d_MO_plug_4 ⟨Nat.zero_le _, Nat.zero_le _⟩ ?_
  refine lv_if_eq (tgt := 48) hx hb d_MO_plug_7 (by decide) (fun c1 => ?_) (fun c1 => ?_)
  · have c1 := (bI_0).mp c1
    refine lv_iconst (v := nI 1) hx hb d_MO_plug_48 (by decide +kernel) ?_
    refine va_put (D := D) (ci := 7) (v := .int (nI 1)) (ty := .int) (C := R_MO) (T := T_MO) (N := 16) hx hb hts in_MO t_MO o_MO n_MO hown hK hP hD hS 0 rfl rfl 0 (by decide) (hts _ w_530) (fun _ h9 => h9) rfl (by decide +kernel) rfl rfl (Nat.le_of_ble_eq_true rfl) d_MO_plug_49 (fun H locs hP hD hS => ?_)
    have hP : va_P D vwCl (mW q k (nI 1) wd se kd bn sh mb pr B R sx pt rd wt ln px) H := hP
    have hD : va_D A (mW q k (nI 1) wd se kd bn sh mb pr B R sx pt rd wt ln px) := hD
    refine lv_aload_n hx hb d_MO_plug_52 rfl (lv_at hl 0 rfl) ?_
    refine va_get (D := D) (ci := 7) (v := .int (nI 1)) (C := R_MO) (T := T_MO) (N := 16) hx hb hts in_MO hown hK hP 0 rfl rfl 0 (by decide) (hts _ w_530) (fun _ h9 => h9) rfl d_MO_plug_53 ?_
    refine lv_if_eq (tgt := 60) hx hb d_MO_plug_56 (by decide) (fun c2 => ?_) (fun c2 => ?_)
    · have c2 := (n_eq0 (by omega)).mp c2
      exfalso; omega
    · have c2 := mt (n_eq0 (by omega)).mpr c2
      exact rw_retv hx hb hr hlocks d_MO_plug_59 hS () (trivial) hP
  · have c1 := mt (bI_0).mpr c1
    have c1 := Classical.not_not.mp c1
    refine lv_iload_n hx hb d_MO_plug_10 rfl (lv_at hl 2 rfl) ?_
    refine lv_iconst (v := nI 0) hx hb d_MO_plug_11 (by decide +kernel) ?_
    refine lv_iconst (v := nI 3) hx hb d_MO_plug_12 (by decide +kernel) ?_
    refine kr_iS (As := [.int y, .int (nI 0), .int (nI 3)]) (rest := [.ref (q 0)]) ⟨hx, hb, hml, hown, hts⟩ (c_MO_withinZ l D k y 0 3 (by omega) (by omega)) (va_cwS 3 hts (gS w_587 w_588 w_5 w_589) rfl rfl rfl (by decide +kernel) ⟨Nat.le_of_ble_eq_true rfl, Nat.le_of_ble_eq_true rfl⟩) hK va_nil rfl hl.1 rfl (Nat.le_of_ble_eq_true rfl) d_MO_plug_13 ⟨Nat.zero_le _, Nat.zero_le _⟩ ?_
    refine lv_if_eq (tgt := 48) hx hb d_MO_plug_16 (by decide) (fun c3 => ?_) (fun c3 => ?_)
    · have c3 := (bI_0).mp c3
      refine lv_iconst (v := nI 1) hx hb d_MO_plug_48 (by decide +kernel) ?_
      refine va_put (D := D) (ci := 7) (v := .int (nI 1)) (ty := .int) (C := R_MO) (T := T_MO) (N := 16) hx hb hts in_MO t_MO o_MO n_MO hown hK hP hD hS 0 rfl rfl 0 (by decide) (hts _ w_530) (fun _ h9 => h9) rfl (by decide +kernel) rfl rfl (Nat.le_of_ble_eq_true rfl) d_MO_plug_49 (fun H locs hP hD hS => ?_)
      have hP : va_P D vwCl (mW q k (nI 1) wd se kd bn sh mb pr B R sx pt rd wt ln px) H := hP
      have hD : va_D A (mW q k (nI 1) wd se kd bn sh mb pr B R sx pt rd wt ln px) := hD
      refine lv_aload_n hx hb d_MO_plug_52 rfl (lv_at hl 0 rfl) ?_
      refine va_get (D := D) (ci := 7) (v := .int (nI 1)) (C := R_MO) (T := T_MO) (N := 16) hx hb hts in_MO hown hK hP 0 rfl rfl 0 (by decide) (hts _ w_530) (fun _ h9 => h9) rfl d_MO_plug_53 ?_
      refine lv_if_eq (tgt := 60) hx hb d_MO_plug_56 (by decide) (fun c4 => ?_) (fun c4 => ?_)
      · have c4 := (n_eq0 (by omega)).mp c4
        exfalso; omega
      · have c4 := mt (n_eq0 (by omega)).mpr c4
        exact rw_retv hx hb hr hlocks d_MO_plug_59 hS () (trivial) hP
    · have c3 := mt (bI_0).mpr c3
      have c3 := Classical.not_not.mp c3
      refine lv_iload_n hx hb d_MO_plug_19 rfl (lv_at hl 3 rfl) ?_
      refine lv_iconst (v := nI 1) hx hb d_MO_plug_20 (by decide +kernel) ?_
      refine lv_iconst (v := nI 4) hx hb d_MO_plug_21 (by decide +kernel) ?_
      refine kr_iS (As := [.int z, .int (nI 1), .int (nI 4)]) (rest := [.ref (q 0)]) ⟨hx, hb, hml, hown, hts⟩ (c_MO_withinZ l D k z 1 4 (by omega) (by omega)) (va_cwS 3 hts (gS w_587 w_588 w_5 w_589) rfl rfl rfl (by decide +kernel) ⟨Nat.le_of_ble_eq_true rfl, Nat.le_of_ble_eq_true rfl⟩) hK va_nil rfl hl.1 rfl (Nat.le_of_ble_eq_true rfl) d_MO_plug_22 ⟨Nat.zero_le _, Nat.zero_le _⟩ ?_
      refine lv_if_eq (tgt := 48) hx hb d_MO_plug_25 (by decide) (fun c5 => ?_) (fun c5 => ?_)
      · have c5 := (bI_0).mp c5
        refine lv_iconst (v := nI 1) hx hb d_MO_plug_48 (by decide +kernel) ?_
        refine va_put (D := D) (ci := 7) (v := .int (nI 1)) (ty := .int) (C := R_MO) (T := T_MO) (N := 16) hx hb hts in_MO t_MO o_MO n_MO hown hK hP hD hS 0 rfl rfl 0 (by decide) (hts _ w_530) (fun _ h9 => h9) rfl (by decide +kernel) rfl rfl (Nat.le_of_ble_eq_true rfl) d_MO_plug_49 (fun H locs hP hD hS => ?_)
        have hP : va_P D vwCl (mW q k (nI 1) wd se kd bn sh mb pr B R sx pt rd wt ln px) H := hP
        have hD : va_D A (mW q k (nI 1) wd se kd bn sh mb pr B R sx pt rd wt ln px) := hD
        refine lv_aload_n hx hb d_MO_plug_52 rfl (lv_at hl 0 rfl) ?_
        refine va_get (D := D) (ci := 7) (v := .int (nI 1)) (C := R_MO) (T := T_MO) (N := 16) hx hb hts in_MO hown hK hP 0 rfl rfl 0 (by decide) (hts _ w_530) (fun _ h9 => h9) rfl d_MO_plug_53 ?_
        refine lv_if_eq (tgt := 60) hx hb d_MO_plug_56 (by decide) (fun c6 => ?_) (fun c6 => ?_)
        · have c6 := (n_eq0 (by omega)).mp c6
          exfalso; omega
        · have c6 := mt (n_eq0 (by omega)).mpr c6
          exact rw_retv hx hb hr hlocks d_MO_plug_59 hS () (trivial) hP
      · have c5 := mt (bI_0).mpr c5
        have c5 := Classical.not_not.mp c5
        refine lv_iload_n hx hb d_MO_plug_28 rfl (lv_at hl 3 rfl) ?_
        refine lv_iconst (v := nI 3) hx hb d_MO_plug_29 (by decide +kernel) ?_
        refine lv_icmp_ne (tgt := 44) hx hb d_MO_plug_30 (by decide) (fun c7 => ?_) (fun c7 => ?_)
        · have c7 := mt (zn_eq (by omega)).mpr c7
          exfalso; omega
        · have c7 := (zn_eq (by omega)).mp c7
          refine lv_iload hx hb d_MO_plug_33 (lv_at hl 4 rfl) ?_
          refine lv_iconst (v := nI 1) hx hb d_MO_plug_35 (by decide +kernel) ?_
          refine lv_bipush (v := nI 8) hx hb d_MO_plug_36 (by decide +kernel) ?_
          refine kr_iS (As := [.int b, .int (nI 1), .int (nI 8)]) (rest := [.ref (q 0)]) ⟨hx, hb, hml, hown, hts⟩ (c_MO_withinZ l D k b 1 8 (by omega) (by omega)) (va_cwS 3 hts (gS w_587 w_588 w_5 w_589) rfl rfl rfl (by decide +kernel) ⟨Nat.le_of_ble_eq_true rfl, Nat.le_of_ble_eq_true rfl⟩) hK va_nil rfl hl.1 rfl (Nat.le_of_ble_eq_true rfl) d_MO_plug_38 ⟨Nat.zero_le _, Nat.zero_le _⟩ ?_
          refine lv_if_eq (tgt := 48) hx hb d_MO_plug_41 (by decide) (fun c8 => ?_) (fun c8 => ?_)
          · have c8 := (bI_0).mp c8
            refine lv_iconst (v := nI 1) hx hb d_MO_plug_48 (by decide +kernel) ?_
            refine va_put (D := D) (ci := 7) (v := .int (nI 1)) (ty := .int) (C := R_MO) (T := T_MO) (N := 16) hx hb hts in_MO t_MO o_MO n_MO hown hK hP hD hS 0 rfl rfl 0 (by decide) (hts _ w_530) (fun _ h9 => h9) rfl (by decide +kernel) rfl rfl (Nat.le_of_ble_eq_true rfl) d_MO_plug_49 (fun H locs hP hD hS => ?_)
            have hP : va_P D vwCl (mW q k (nI 1) wd se kd bn sh mb pr B R sx pt rd wt ln px) H := hP
            have hD : va_D A (mW q k (nI 1) wd se kd bn sh mb pr B R sx pt rd wt ln px) := hD
            refine lv_aload_n hx hb d_MO_plug_52 rfl (lv_at hl 0 rfl) ?_
            refine va_get (D := D) (ci := 7) (v := .int (nI 1)) (C := R_MO) (T := T_MO) (N := 16) hx hb hts in_MO hown hK hP 0 rfl rfl 0 (by decide) (hts _ w_530) (fun _ h9 => h9) rfl d_MO_plug_53 ?_
            refine lv_if_eq (tgt := 60) hx hb d_MO_plug_56 (by decide) (fun c9 => ?_) (fun c9 => ?_)
            · have c9 := (n_eq0 (by omega)).mp c9
              exfalso; omega
            · have c9 := mt (n_eq0 (by omega)).mpr c9
              exact rw_retv hx hb hr hlocks d_MO_plug_59 hS () (trivial) hP
          · have c8 := mt (bI_0).mpr c8
            have c8 := Classical.not_not.mp c8
            exfalso; omega
set_option maxHeartbeats 4000000 in
set_option maxRecDepth 100000 in
theorem c_MO_plugt (l : Launch) (D : va_G) (k : Nat → ClassId) (q : Nat → Nat) (cd : Int32) (wd : Nat → Nat) (se : Nat → Nat) (kd : Nat → Nat) (bn : Nat → Int32) (sh : Nat → Nat) (mb : Nat → Nat) (pr : Nat) (B : Nat → Nat) (R : Nat → Nat) (sx : Nat) (pt : Nat) (rd : Nat) (wt : Int32) (ln : Nat) (px : Nat → Nat) (hwd : ∀ j, wd j < 2) (hse : ∀ j, se j < 256) (hpr : pr < 256) (hkd : ∀ j, kd j < 5) (hsh : ∀ j, sh j < 8) (hmb : ∀ j, mb j < 256) (s9 p9 : Nat) (hs9 : s9 < 4) (hp9 : p9 < 4) (kk : Nat) (hk1 : 1 ≤ kk) (hk2 : kk ≤ 4) (hk3 : kk ≠ 3) (b : Int32) (h1 : (wd s9 = 0 ∧ 0 < p9) ∨ kd (4 * s9 + p9) ≠ 0) : rw_v l y_MO_plug b_MO_plug 7 none { frames := 3, cells := 0, slots := 0, locals := 67 } D (kT k) (mW q k cd wd se kd bn sh mb pr B R sx pt rd wt ln px) [.ref (q 0), .int (nI s9), .int (nI p9), .int (nI kk), .int b] (fun (_ : Unit) => True) (fun (_ : Unit) => (mW q k (nI 2) wd se kd bn sh mb pr B R sx pt rd wt ln px)) := by
  refine rw_headv (by decide) (Nat.le_of_ble_eq_true rfl) ?_
  intro p e s m below meth c ls A hx hb hr hlocks hml hown hts hK hA hP hD hS hl
  have hown : s.vm.findClass "SlotScreenModel" = some m.cls := hown
  have hl : lv_has ls 7 [(0, .ref (q 0)), (1, .int (nI s9)), (2, .int (nI p9)), (3, .int (nI kk)), (4, .int b)] := hl
  refine lv_aload_n hx hb d_MO_plug_0 rfl (lv_at hl 0 rfl) ?_
  refine lv_iload_n hx hb d_MO_plug_1 rfl (lv_at hl 1 rfl) ?_
  refine lv_iconst (v := nI 0) hx hb d_MO_plug_2 (by decide +kernel) ?_
  refine lv_iconst (v := nI 3) hx hb d_MO_plug_3 (by decide +kernel) ?_
  refine kr_iS (As := [.int (nI s9), .int (nI 0), .int (nI 3)]) (rest := [.ref (q 0)]) ⟨hx, hb, hml, hown, hts⟩ (c_MO_within l D k s9 0 3 (by omega) (by omega) (by omega)) (va_cwS 3 hts (gS w_587 w_588 w_5 w_589) rfl rfl rfl (by decide +kernel) ⟨Nat.le_of_ble_eq_true rfl, Nat.le_of_ble_eq_true rfl⟩) hK va_nil rfl hl.1 rfl (Nat.le_of_ble_eq_true rfl) d_MO_plug_4 ⟨Nat.zero_le _, Nat.zero_le _⟩ ?_
  refine lv_if_eq (tgt := 48) hx hb d_MO_plug_7 (by decide) (fun c1 => ?_) (fun c1 => ?_)
  · have c1 := (bI_0).mp c1
    exfalso; omega
  · have c1 := mt (bI_0).mpr c1
    have c1 := Classical.not_not.mp c1
    refine lv_iload_n hx hb d_MO_plug_10 rfl (lv_at hl 2 rfl) ?_
    refine lv_iconst (v := nI 0) hx hb d_MO_plug_11 (by decide +kernel) ?_
    refine lv_iconst (v := nI 3) hx hb d_MO_plug_12 (by decide +kernel) ?_
    refine kr_iS (As := [.int (nI p9), .int (nI 0), .int (nI 3)]) (rest := [.ref (q 0)]) ⟨hx, hb, hml, hown, hts⟩ (c_MO_within l D k p9 0 3 (by omega) (by omega) (by omega)) (va_cwS 3 hts (gS w_587 w_588 w_5 w_589) rfl rfl rfl (by decide +kernel) ⟨Nat.le_of_ble_eq_true rfl, Nat.le_of_ble_eq_true rfl⟩) hK va_nil rfl hl.1 rfl (Nat.le_of_ble_eq_true rfl) d_MO_plug_13 ⟨Nat.zero_le _, Nat.zero_le _⟩ ?_
    refine lv_if_eq (tgt := 48) hx hb d_MO_plug_16 (by decide) (fun c2 => ?_) (fun c2 => ?_)
    · have c2 := (bI_0).mp c2
      exfalso; omega
    · have c2 := mt (bI_0).mpr c2
      have c2 := Classical.not_not.mp c2
      refine lv_iload_n hx hb d_MO_plug_19 rfl (lv_at hl 3 rfl) ?_
      refine lv_iconst (v := nI 1) hx hb d_MO_plug_20 (by decide +kernel) ?_
      refine lv_iconst (v := nI 4) hx hb d_MO_plug_21 (by decide +kernel) ?_
      refine kr_iS (As := [.int (nI kk), .int (nI 1), .int (nI 4)]) (rest := [.ref (q 0)]) ⟨hx, hb, hml, hown, hts⟩ (c_MO_within l D k kk 1 4 (by omega) (by omega) (by omega)) (va_cwS 3 hts (gS w_587 w_588 w_5 w_589) rfl rfl rfl (by decide +kernel) ⟨Nat.le_of_ble_eq_true rfl, Nat.le_of_ble_eq_true rfl⟩) hK va_nil rfl hl.1 rfl (Nat.le_of_ble_eq_true rfl) d_MO_plug_22 ⟨Nat.zero_le _, Nat.zero_le _⟩ ?_
      refine lv_if_eq (tgt := 48) hx hb d_MO_plug_25 (by decide) (fun c3 => ?_) (fun c3 => ?_)
      · have c3 := (bI_0).mp c3
        exfalso; omega
      · have c3 := mt (bI_0).mpr c3
        have c3 := Classical.not_not.mp c3
        refine lv_iload_n hx hb d_MO_plug_28 rfl (lv_at hl 3 rfl) ?_
        refine lv_iconst (v := nI 3) hx hb d_MO_plug_29 (by decide +kernel) ?_
        refine lv_icmp_ne (tgt := 44) hx hb d_MO_plug_30 (by decide) (fun c4 => ?_) (fun c4 => ?_)
        · have c4 := mt (nI_eq (by omega) (by omega)).mpr c4
          refine lv_iconst (v := nI 0) hx hb d_MO_plug_44 (by decide +kernel) ?_
          refine lv_goto (tgt := 49) hx hb d_MO_plug_45 (by decide) ?_
          refine va_put (D := D) (ci := 7) (v := .int (nI 0)) (ty := .int) (C := R_MO) (T := T_MO) (N := 16) hx hb hts in_MO t_MO o_MO n_MO hown hK hP hD hS 0 rfl rfl 0 (by decide) (hts _ w_530) (fun _ h9 => h9) rfl (by decide +kernel) rfl rfl (Nat.le_of_ble_eq_true rfl) d_MO_plug_49 (fun H locs hP hD hS => ?_)
          have hP : va_P D vwCl (mW q k (nI 0) wd se kd bn sh mb pr B R sx pt rd wt ln px) H := hP
          have hD : va_D A (mW q k (nI 0) wd se kd bn sh mb pr B R sx pt rd wt ln px) := hD
          refine lv_aload_n hx hb d_MO_plug_52 rfl (lv_at hl 0 rfl) ?_
          refine va_get (D := D) (ci := 7) (v := .int (nI 0)) (C := R_MO) (T := T_MO) (N := 16) hx hb hts in_MO hown hK hP 0 rfl rfl 0 (by decide) (hts _ w_530) (fun _ h9 => h9) rfl d_MO_plug_53 ?_
          refine lv_if_eq (tgt := 60) hx hb d_MO_plug_56 (by decide) (fun c5 => ?_) (fun c5 => ?_)
          · have c5 := (n_eq0 (by omega)).mp c5
            refine lv_iconst (v := nI 4) hx hb d_MO_plug_60 (by decide +kernel) ?_
            refine lv_iload_n hx hb d_MO_plug_61 rfl (lv_at hl 1 rfl) ?_
            refine lv_imul hx hb d_MO_plug_62 ?_
            refine ss_rt (y := nI (4 * s9)) (pk_mul _ _) ?_
            refine lv_iload_n hx hb d_MO_plug_63 rfl (lv_at hl 2 rfl) ?_
            refine lv_iadd hx hb d_MO_plug_64 ?_
            refine ss_rt (y := nI (4 * s9 + p9)) (nI_add _ _) ?_
            refine lv_istore (lv' := [(5, .int (nI (4 * s9 + p9))), (0, .ref (q 0)), (1, .int (nI s9)), (2, .int (nI p9)), (3, .int (nI kk)), (4, .int b)]) hx hb d_MO_plug_65 hl (by decide) rfl (fun ls hl => ?_)
            refine lv_aload_n hx hb d_MO_plug_67 rfl (lv_at hl 1 rfl) ?_
            refine va_get (D := D) (ci := 7) (v := .ref (q 1)) (C := R_MO) (T := T_MO) (N := 16) hx hb hts in_MO hown hK hP 0 rfl rfl 1 (by decide) (hts _ w_531) (fun _ h9 => h9) rfl d_MO_plug_68 ?_
            refine lv_iload_n hx hb d_MO_plug_71 rfl (lv_at hl 2 rfl) ?_
            refine va_zald hx hb hK hP 1 1 rfl rfl (vp_in_nI (by omega) (by omega)) d_MO_plug_72 ?_
            refine ss_rt (y := nI (wd s9)) (congrArg (fun z => nI (wd z)) (nI_clamp (by omega))) ?_
            have g6 := hwd s9
            refine lv_if_ne (tgt := 80) hx hb d_MO_plug_73 (by decide) (fun c7 => ?_) (fun c7 => ?_)
            · have c7 := mt (n_eq0 (by omega)).mpr c7
              refine lv_aload_n hx hb d_MO_plug_80 rfl (lv_at hl 1 rfl) ?_
              refine va_get (D := D) (ci := 7) (v := .ref (q 3)) (C := R_MO) (T := T_MO) (N := 16) hx hb hts in_MO hown hK hP 0 rfl rfl 3 (by decide) (hts _ w_533) (fun _ h9 => h9) rfl d_MO_plug_81 ?_
              refine lv_iload hx hb d_MO_plug_84 (lv_at hl 0 rfl) ?_
              refine va_iald hx hb hK hP 3 0 rfl rfl (vp_in_nI (by omega) (by omega)) d_MO_plug_86 ?_
              refine ss_rt (y := nI (kd (4 * s9 + p9))) (congrArg (fun z => nI (kd z)) (nI_clamp (by omega))) ?_
              have g8 := hkd (4 * s9 + p9)
              refine lv_if_eq (tgt := 96) hx hb d_MO_plug_87 (by decide) (fun c9 => ?_) (fun c9 => ?_)
              · have c9 := (n_eq0 (by omega)).mp c9
                exfalso; omega
              · have c9 := mt (n_eq0 (by omega)).mpr c9
                refine lv_aload_n hx hb d_MO_plug_90 rfl (lv_at hl 1 rfl) ?_
                refine lv_iconst (v := nI 2) hx hb d_MO_plug_91 (by decide +kernel) ?_
                refine va_put (D := D) (ci := 7) (v := .int (nI 2)) (ty := .int) (C := R_MO) (T := T_MO) (N := 16) hx hb hts in_MO t_MO o_MO n_MO hown hK hP hD hS 0 rfl rfl 0 (by decide) (hts _ w_530) (fun _ h9 => h9) rfl (by decide +kernel) rfl rfl (Nat.le_of_ble_eq_true rfl) d_MO_plug_92 (fun H locs hP hD hS => ?_)
                have hP : va_P D vwCl (mW q k (nI 2) wd se kd bn sh mb pr B R sx pt rd wt ln px) H := hP
                have hD : va_D A (mW q k (nI 2) wd se kd bn sh mb pr B R sx pt rd wt ln px) := hD
                exact rw_retv hx hb hr hlocks d_MO_plug_95 hS () (trivial) hP
            · have c7 := (n_eq0 (by omega)).mp c7
              refine lv_iload_n hx hb d_MO_plug_76 rfl (lv_at hl 3 rfl) ?_
              refine lv_if_gt (tgt := 90) hx hb d_MO_plug_77 (by decide) (fun c10 => ?_) (fun c10 => ?_)
              · have c10 := (n_gt0 (by omega)).mp c10
                refine lv_aload_n hx hb d_MO_plug_90 rfl (lv_at hl 1 rfl) ?_
                refine lv_iconst (v := nI 2) hx hb d_MO_plug_91 (by decide +kernel) ?_
                refine va_put (D := D) (ci := 7) (v := .int (nI 2)) (ty := .int) (C := R_MO) (T := T_MO) (N := 16) hx hb hts in_MO t_MO o_MO n_MO hown hK hP hD hS 0 rfl rfl 0 (by decide) (hts _ w_530) (fun _ h9 => h9) rfl (by decide +kernel) rfl rfl (Nat.le_of_ble_eq_true rfl) d_MO_plug_92 (fun H locs hP hD hS => ?_)
                have hP : va_P D vwCl (mW q k (nI 2) wd se kd bn sh mb pr B R sx pt rd wt ln px) H := hP
                have hD : va_D A (mW q k (nI 2) wd se kd bn sh mb pr B R sx pt rd wt ln px) := hD
                exact rw_retv hx hb hr hlocks d_MO_plug_95 hS () (trivial) hP
              · have c10 := mt (n_gt0 (by omega)).mpr c10
                refine lv_aload_n hx hb d_MO_plug_80 rfl (lv_at hl 1 rfl) ?_
                refine va_get (D := D) (ci := 7) (v := .ref (q 3)) (C := R_MO) (T := T_MO) (N := 16) hx hb hts in_MO hown hK hP 0 rfl rfl 3 (by decide) (hts _ w_533) (fun _ h9 => h9) rfl d_MO_plug_81 ?_
                refine lv_iload hx hb d_MO_plug_84 (lv_at hl 0 rfl) ?_
                refine va_iald hx hb hK hP 3 0 rfl rfl (vp_in_nI (by omega) (by omega)) d_MO_plug_86 ?_
                refine ss_rt (y := nI (kd (4 * s9 + p9))) (congrArg (fun z => nI (kd z)) (nI_clamp (by omega))) ?_
                have g11 := hkd (4 * s9 + p9)
                refine lv_if_eq (tgt := 96) hx hb d_MO_plug_87 (by decide) (fun c12 => ?_) (fun c12 => ?_)
                · have c12 := (n_eq0 (by omega)).mp c12
                  exfalso; omega
                · have c12 := mt (n_eq0 (by omega)).mpr c12
                  refine lv_aload_n hx hb d_MO_plug_90 rfl (lv_at hl 1 rfl) ?_
                  refine lv_iconst (v := nI 2) hx hb d_MO_plug_91 (by decide +kernel) ?_
                  refine va_put (D := D) (ci := 7) (v := .int (nI 2)) (ty := .int) (C := R_MO) (T := T_MO) (N := 16) hx hb hts in_MO t_MO o_MO n_MO hown hK hP hD hS 0 rfl rfl 0 (by decide) (hts _ w_530) (fun _ h9 => h9) rfl (by decide +kernel) rfl rfl (Nat.le_of_ble_eq_true rfl) d_MO_plug_92 (fun H locs hP hD hS => ?_)
                  have hP : va_P D vwCl (mW q k (nI 2) wd se kd bn sh mb pr B R sx pt rd wt ln px) H := hP
                  have hD : va_D A (mW q k (nI 2) wd se kd bn sh mb pr B R sx pt rd wt ln px) := hD
                  exact rw_retv hx hb hr hlocks d_MO_plug_95 hS () (trivial) hP
          · have c5 := mt (n_eq0 (by omega)).mpr c5
            exfalso; omega
        · have c4 := (nI_eq (by omega) (by omega)).mp c4
          exfalso; omega
set_option maxHeartbeats 4000000 in
set_option maxRecDepth 100000 in
theorem c_MO_plug (l : Launch) (D : va_G) (k : Nat → ClassId) (q : Nat → Nat) (cd : Int32) (wd : Nat → Nat) (se : Nat → Nat) (kd : Nat → Nat) (bn : Nat → Int32) (sh : Nat → Nat) (mb : Nat → Nat) (pr : Nat) (B : Nat → Nat) (R : Nat → Nat) (sx : Nat) (pt : Nat) (rd : Nat) (wt : Int32) (ln : Nat) (px : Nat → Nat) (hwd : ∀ j, wd j < 2) (hse : ∀ j, se j < 256) (hpr : pr < 256) (hkd : ∀ j, kd j < 5) (hsh : ∀ j, sh j < 8) (hmb : ∀ j, mb j < 256) (s9 p9 : Nat) (hs9 : s9 < 4) (hp9 : p9 < 4) (kk : Nat) (hk1 : 1 ≤ kk) (hk2 : kk ≤ 4) (hk3 : kk ≠ 3) (b : Int32) (h1 : wd s9 = 1 ∨ p9 = 0) (h2 : kd (4 * s9 + p9) = 0) : rw_v l y_MO_plug b_MO_plug 7 none { frames := 3, cells := 0, slots := 0, locals := 67 } D (kT k) (mW q k cd wd se kd bn sh mb pr B R sx pt rd wt ln px) [.ref (q 0), .int (nI s9), .int (nI p9), .int (nI kk), .int b] (fun (_ : Unit) => True) (fun (_ : Unit) => (mW q k (nI 0) wd se (ss_up kd (4 * s9 + p9) kk) (upd bn (4 * s9 + p9) (b)) sh mb pr B R sx pt rd wt ln px)) := by
  refine rw_headv (by decide) (Nat.le_of_ble_eq_true rfl) ?_
  intro p e s m below meth c ls A hx hb hr hlocks hml hown hts hK hA hP hD hS hl
  have hown : s.vm.findClass "SlotScreenModel" = some m.cls := hown
  have hl : lv_has ls 7 [(0, .ref (q 0)), (1, .int (nI s9)), (2, .int (nI p9)), (3, .int (nI kk)), (4, .int b)] := hl
  refine lv_aload_n hx hb d_MO_plug_0 rfl (lv_at hl 0 rfl) ?_
  refine lv_iload_n hx hb d_MO_plug_1 rfl (lv_at hl 1 rfl) ?_
  refine lv_iconst (v := nI 0) hx hb d_MO_plug_2 (by decide +kernel) ?_
  refine lv_iconst (v := nI 3) hx hb d_MO_plug_3 (by decide +kernel) ?_
  refine kr_iS (As := [.int (nI s9), .int (nI 0), .int (nI 3)]) (rest := [.ref (q 0)]) ⟨hx, hb, hml, hown, hts⟩ (c_MO_within l D k s9 0 3 (by omega) (by omega) (by omega)) (va_cwS 3 hts (gS w_587 w_588 w_5 w_589) rfl rfl rfl (by decide +kernel) ⟨Nat.le_of_ble_eq_true rfl, Nat.le_of_ble_eq_true rfl⟩) hK va_nil rfl hl.1 rfl (Nat.le_of_ble_eq_true rfl) d_MO_plug_4 ⟨Nat.zero_le _, Nat.zero_le _⟩ ?_
  refine lv_if_eq (tgt := 48) hx hb d_MO_plug_7 (by decide) (fun c1 => ?_) (fun c1 => ?_)
  · have c1 := (bI_0).mp c1
    exfalso; omega
  · have c1 := mt (bI_0).mpr c1
    have c1 := Classical.not_not.mp c1
    refine lv_iload_n hx hb d_MO_plug_10 rfl (lv_at hl 2 rfl) ?_
    refine lv_iconst (v := nI 0) hx hb d_MO_plug_11 (by decide +kernel) ?_
    refine lv_iconst (v := nI 3) hx hb d_MO_plug_12 (by decide +kernel) ?_
    refine kr_iS (As := [.int (nI p9), .int (nI 0), .int (nI 3)]) (rest := [.ref (q 0)]) ⟨hx, hb, hml, hown, hts⟩ (c_MO_within l D k p9 0 3 (by omega) (by omega) (by omega)) (va_cwS 3 hts (gS w_587 w_588 w_5 w_589) rfl rfl rfl (by decide +kernel) ⟨Nat.le_of_ble_eq_true rfl, Nat.le_of_ble_eq_true rfl⟩) hK va_nil rfl hl.1 rfl (Nat.le_of_ble_eq_true rfl) d_MO_plug_13 ⟨Nat.zero_le _, Nat.zero_le _⟩ ?_
    refine lv_if_eq (tgt := 48) hx hb d_MO_plug_16 (by decide) (fun c2 => ?_) (fun c2 => ?_)
    · have c2 := (bI_0).mp c2
      exfalso; omega
    · have c2 := mt (bI_0).mpr c2
      have c2 := Classical.not_not.mp c2
      refine lv_iload_n hx hb d_MO_plug_19 rfl (lv_at hl 3 rfl) ?_
      refine lv_iconst (v := nI 1) hx hb d_MO_plug_20 (by decide +kernel) ?_
      refine lv_iconst (v := nI 4) hx hb d_MO_plug_21 (by decide +kernel) ?_
      refine kr_iS (As := [.int (nI kk), .int (nI 1), .int (nI 4)]) (rest := [.ref (q 0)]) ⟨hx, hb, hml, hown, hts⟩ (c_MO_within l D k kk 1 4 (by omega) (by omega) (by omega)) (va_cwS 3 hts (gS w_587 w_588 w_5 w_589) rfl rfl rfl (by decide +kernel) ⟨Nat.le_of_ble_eq_true rfl, Nat.le_of_ble_eq_true rfl⟩) hK va_nil rfl hl.1 rfl (Nat.le_of_ble_eq_true rfl) d_MO_plug_22 ⟨Nat.zero_le _, Nat.zero_le _⟩ ?_
      refine lv_if_eq (tgt := 48) hx hb d_MO_plug_25 (by decide) (fun c3 => ?_) (fun c3 => ?_)
      · have c3 := (bI_0).mp c3
        exfalso; omega
      · have c3 := mt (bI_0).mpr c3
        have c3 := Classical.not_not.mp c3
        refine lv_iload_n hx hb d_MO_plug_28 rfl (lv_at hl 3 rfl) ?_
        refine lv_iconst (v := nI 3) hx hb d_MO_plug_29 (by decide +kernel) ?_
        refine lv_icmp_ne (tgt := 44) hx hb d_MO_plug_30 (by decide) (fun c4 => ?_) (fun c4 => ?_)
        · have c4 := mt (nI_eq (by omega) (by omega)).mpr c4
          refine lv_iconst (v := nI 0) hx hb d_MO_plug_44 (by decide +kernel) ?_
          refine lv_goto (tgt := 49) hx hb d_MO_plug_45 (by decide) ?_
          refine va_put (D := D) (ci := 7) (v := .int (nI 0)) (ty := .int) (C := R_MO) (T := T_MO) (N := 16) hx hb hts in_MO t_MO o_MO n_MO hown hK hP hD hS 0 rfl rfl 0 (by decide) (hts _ w_530) (fun _ h9 => h9) rfl (by decide +kernel) rfl rfl (Nat.le_of_ble_eq_true rfl) d_MO_plug_49 (fun H locs hP hD hS => ?_)
          have hP : va_P D vwCl (mW q k (nI 0) wd se kd bn sh mb pr B R sx pt rd wt ln px) H := hP
          have hD : va_D A (mW q k (nI 0) wd se kd bn sh mb pr B R sx pt rd wt ln px) := hD
          refine lv_aload_n hx hb d_MO_plug_52 rfl (lv_at hl 0 rfl) ?_
          refine va_get (D := D) (ci := 7) (v := .int (nI 0)) (C := R_MO) (T := T_MO) (N := 16) hx hb hts in_MO hown hK hP 0 rfl rfl 0 (by decide) (hts _ w_530) (fun _ h9 => h9) rfl d_MO_plug_53 ?_
          refine lv_if_eq (tgt := 60) hx hb d_MO_plug_56 (by decide) (fun c5 => ?_) (fun c5 => ?_)
          · have c5 := (n_eq0 (by omega)).mp c5
            refine lv_iconst (v := nI 4) hx hb d_MO_plug_60 (by decide +kernel) ?_
            refine lv_iload_n hx hb d_MO_plug_61 rfl (lv_at hl 1 rfl) ?_
            refine lv_imul hx hb d_MO_plug_62 ?_
            refine ss_rt (y := nI (4 * s9)) (pk_mul _ _) ?_
            refine lv_iload_n hx hb d_MO_plug_63 rfl (lv_at hl 2 rfl) ?_
            refine lv_iadd hx hb d_MO_plug_64 ?_
            refine ss_rt (y := nI (4 * s9 + p9)) (nI_add _ _) ?_
            refine lv_istore (lv' := [(5, .int (nI (4 * s9 + p9))), (0, .ref (q 0)), (1, .int (nI s9)), (2, .int (nI p9)), (3, .int (nI kk)), (4, .int b)]) hx hb d_MO_plug_65 hl (by decide) rfl (fun ls hl => ?_)
            refine lv_aload_n hx hb d_MO_plug_67 rfl (lv_at hl 1 rfl) ?_
            refine va_get (D := D) (ci := 7) (v := .ref (q 1)) (C := R_MO) (T := T_MO) (N := 16) hx hb hts in_MO hown hK hP 0 rfl rfl 1 (by decide) (hts _ w_531) (fun _ h9 => h9) rfl d_MO_plug_68 ?_
            refine lv_iload_n hx hb d_MO_plug_71 rfl (lv_at hl 2 rfl) ?_
            refine va_zald hx hb hK hP 1 1 rfl rfl (vp_in_nI (by omega) (by omega)) d_MO_plug_72 ?_
            refine ss_rt (y := nI (wd s9)) (congrArg (fun z => nI (wd z)) (nI_clamp (by omega))) ?_
            have g6 := hwd s9
            refine lv_if_ne (tgt := 80) hx hb d_MO_plug_73 (by decide) (fun c7 => ?_) (fun c7 => ?_)
            · have c7 := mt (n_eq0 (by omega)).mpr c7
              refine lv_aload_n hx hb d_MO_plug_80 rfl (lv_at hl 1 rfl) ?_
              refine va_get (D := D) (ci := 7) (v := .ref (q 3)) (C := R_MO) (T := T_MO) (N := 16) hx hb hts in_MO hown hK hP 0 rfl rfl 3 (by decide) (hts _ w_533) (fun _ h9 => h9) rfl d_MO_plug_81 ?_
              refine lv_iload hx hb d_MO_plug_84 (lv_at hl 0 rfl) ?_
              refine va_iald hx hb hK hP 3 0 rfl rfl (vp_in_nI (by omega) (by omega)) d_MO_plug_86 ?_
              refine ss_rt (y := nI (kd (4 * s9 + p9))) (congrArg (fun z => nI (kd z)) (nI_clamp (by omega))) ?_
              have g8 := hkd (4 * s9 + p9)
              refine lv_if_eq (tgt := 96) hx hb d_MO_plug_87 (by decide) (fun c9 => ?_) (fun c9 => ?_)
              · have c9 := (n_eq0 (by omega)).mp c9
                refine lv_aload_n hx hb d_MO_plug_96 rfl (lv_at hl 1 rfl) ?_
                refine va_get (D := D) (ci := 7) (v := .ref (q 3)) (C := R_MO) (T := T_MO) (N := 16) hx hb hts in_MO hown hK hP 0 rfl rfl 3 (by decide) (hts _ w_533) (fun _ h9 => h9) rfl d_MO_plug_97 ?_
                refine lv_iload hx hb d_MO_plug_100 (lv_at hl 0 rfl) ?_
                refine lv_iload_n hx hb d_MO_plug_102 rfl (lv_at hl 4 rfl) ?_
                refine va_iast hx hb hK hP hD hS 3 0 rfl rfl (vp_in_nI (by omega) (by omega)) d_MO_plug_103 (fun H locs hP hD hS => ?_)
                rw [ss_upI kd (k := (4 * s9 + p9)) (v := kk) (by omega)] at hP hD
                have hP : va_P D vwCl (mW q k (nI 0) wd se (ss_up kd (4 * s9 + p9) kk) bn sh mb pr B R sx pt rd wt ln px) H := hP
                have hD : va_D A (mW q k (nI 0) wd se (ss_up kd (4 * s9 + p9) kk) bn sh mb pr B R sx pt rd wt ln px) := hD
                refine lv_aload_n hx hb d_MO_plug_104 rfl (lv_at hl 1 rfl) ?_
                refine va_get (D := D) (ci := 7) (v := .ref (q 4)) (C := R_MO) (T := T_MO) (N := 16) hx hb hts in_MO hown hK hP 0 rfl rfl 4 (by decide) (hts _ w_534) (fun _ h9 => h9) rfl d_MO_plug_105 ?_
                refine lv_iload hx hb d_MO_plug_108 (lv_at hl 0 rfl) ?_
                refine lv_iload hx hb d_MO_plug_110 (lv_at hl 5 rfl) ?_
                refine va_iast hx hb hK hP hD hS 4 0 rfl rfl (vp_in_nI (by omega) (by omega)) d_MO_plug_112 (fun H locs hP hD hS => ?_)
                rw [nI_clamp (n := (4 * s9 + p9)) (by omega)] at hP hD
                have hP : va_P D vwCl (mW q k (nI 0) wd se (ss_up kd (4 * s9 + p9) kk) (upd bn (4 * s9 + p9) b) sh mb pr B R sx pt rd wt ln px) H := hP
                have hD : va_D A (mW q k (nI 0) wd se (ss_up kd (4 * s9 + p9) kk) (upd bn (4 * s9 + p9) b) sh mb pr B R sx pt rd wt ln px) := hD
                refine lv_iconst (v := nI 0) hx hb d_MO_plug_113 (by decide +kernel) ?_
                refine lv_istore (lv' := [(6, .int (nI 0)), (5, .int (nI (4 * s9 + p9))), (0, .ref (q 0)), (1, .int (nI s9)), (2, .int (nI p9)), (3, .int (nI kk)), (4, .int b)]) hx hb d_MO_plug_114 hl (by decide) rfl (fun ls hl => ?_)
                refine lv_iload hx hb d_MO_plug_116 (lv_at hl 0 rfl) ?_
                refine lv_iconst (v := nI 4) hx hb d_MO_plug_118 (by decide +kernel) ?_
                refine lv_icmp_ge (tgt := 150) hx hb d_MO_plug_119 (by decide) (fun c10 => ?_) (fun c10 => ?_)
                · have c10 := (nI_leI (by omega) (by omega)).mp c10
                  exfalso; omega
                · have c10 := mt (nI_leI (by omega) (by omega)).mpr c10
                  refine lv_iload_n hx hb d_MO_plug_122 rfl (lv_at hl 5 rfl) ?_
                  refine lv_iconst (v := nI 3) hx hb d_MO_plug_123 (by decide +kernel) ?_
                  refine lv_icmp_ne (tgt := 150) hx hb d_MO_plug_124 (by decide) (fun c11 => ?_) (fun c11 => ?_)
                  · have c11 := mt (nI_eq (by omega) (by omega)).mpr c11
                    exact rw_retv hx hb hr hlocks d_MO_plug_150 hS () (trivial) (by rw [show (upd bn (4 * s9 + p9) (b)) = (upd bn (4 * s9 + p9) b) from by first | rfl | omega]; exact hP)
                  · have c11 := (nI_eq (by omega) (by omega)).mp c11
                    exfalso; omega
              · have c9 := mt (n_eq0 (by omega)).mpr c9
                exfalso; omega
            · have c7 := (n_eq0 (by omega)).mp c7
              refine lv_iload_n hx hb d_MO_plug_76 rfl (lv_at hl 3 rfl) ?_
              refine lv_if_gt (tgt := 90) hx hb d_MO_plug_77 (by decide) (fun c12 => ?_) (fun c12 => ?_)
              · have c12 := (n_gt0 (by omega)).mp c12
                exfalso; omega
              · have c12 := mt (n_gt0 (by omega)).mpr c12
                refine lv_aload_n hx hb d_MO_plug_80 rfl (lv_at hl 1 rfl) ?_
                refine va_get (D := D) (ci := 7) (v := .ref (q 3)) (C := R_MO) (T := T_MO) (N := 16) hx hb hts in_MO hown hK hP 0 rfl rfl 3 (by decide) (hts _ w_533) (fun _ h9 => h9) rfl d_MO_plug_81 ?_
                refine lv_iload hx hb d_MO_plug_84 (lv_at hl 0 rfl) ?_
                refine va_iald hx hb hK hP 3 0 rfl rfl (vp_in_nI (by omega) (by omega)) d_MO_plug_86 ?_
                refine ss_rt (y := nI (kd (4 * s9 + p9))) (congrArg (fun z => nI (kd z)) (nI_clamp (by omega))) ?_
                have g13 := hkd (4 * s9 + p9)
                refine lv_if_eq (tgt := 96) hx hb d_MO_plug_87 (by decide) (fun c14 => ?_) (fun c14 => ?_)
                · have c14 := (n_eq0 (by omega)).mp c14
                  refine lv_aload_n hx hb d_MO_plug_96 rfl (lv_at hl 1 rfl) ?_
                  refine va_get (D := D) (ci := 7) (v := .ref (q 3)) (C := R_MO) (T := T_MO) (N := 16) hx hb hts in_MO hown hK hP 0 rfl rfl 3 (by decide) (hts _ w_533) (fun _ h9 => h9) rfl d_MO_plug_97 ?_
                  refine lv_iload hx hb d_MO_plug_100 (lv_at hl 0 rfl) ?_
                  refine lv_iload_n hx hb d_MO_plug_102 rfl (lv_at hl 4 rfl) ?_
                  refine va_iast hx hb hK hP hD hS 3 0 rfl rfl (vp_in_nI (by omega) (by omega)) d_MO_plug_103 (fun H locs hP hD hS => ?_)
                  rw [ss_upI kd (k := (4 * s9 + p9)) (v := kk) (by omega)] at hP hD
                  have hP : va_P D vwCl (mW q k (nI 0) wd se (ss_up kd (4 * s9 + p9) kk) bn sh mb pr B R sx pt rd wt ln px) H := hP
                  have hD : va_D A (mW q k (nI 0) wd se (ss_up kd (4 * s9 + p9) kk) bn sh mb pr B R sx pt rd wt ln px) := hD
                  refine lv_aload_n hx hb d_MO_plug_104 rfl (lv_at hl 1 rfl) ?_
                  refine va_get (D := D) (ci := 7) (v := .ref (q 4)) (C := R_MO) (T := T_MO) (N := 16) hx hb hts in_MO hown hK hP 0 rfl rfl 4 (by decide) (hts _ w_534) (fun _ h9 => h9) rfl d_MO_plug_105 ?_
                  refine lv_iload hx hb d_MO_plug_108 (lv_at hl 0 rfl) ?_
                  refine lv_iload hx hb d_MO_plug_110 (lv_at hl 5 rfl) ?_
                  refine va_iast hx hb hK hP hD hS 4 0 rfl rfl (vp_in_nI (by omega) (by omega)) d_MO_plug_112 (fun H locs hP hD hS => ?_)
                  rw [nI_clamp (n := (4 * s9 + p9)) (by omega)] at hP hD
                  have hP : va_P D vwCl (mW q k (nI 0) wd se (ss_up kd (4 * s9 + p9) kk) (upd bn (4 * s9 + p9) b) sh mb pr B R sx pt rd wt ln px) H := hP
                  have hD : va_D A (mW q k (nI 0) wd se (ss_up kd (4 * s9 + p9) kk) (upd bn (4 * s9 + p9) b) sh mb pr B R sx pt rd wt ln px) := hD
                  refine lv_iconst (v := nI 0) hx hb d_MO_plug_113 (by decide +kernel) ?_
                  refine lv_istore (lv' := [(6, .int (nI 0)), (5, .int (nI (4 * s9 + p9))), (0, .ref (q 0)), (1, .int (nI s9)), (2, .int (nI p9)), (3, .int (nI kk)), (4, .int b)]) hx hb d_MO_plug_114 hl (by decide) rfl (fun ls hl => ?_)
                  refine lv_iload hx hb d_MO_plug_116 (lv_at hl 0 rfl) ?_
                  refine lv_iconst (v := nI 4) hx hb d_MO_plug_118 (by decide +kernel) ?_
                  refine lv_icmp_ge (tgt := 150) hx hb d_MO_plug_119 (by decide) (fun c15 => ?_) (fun c15 => ?_)
                  · have c15 := (nI_leI (by omega) (by omega)).mp c15
                    exfalso; omega
                  · have c15 := mt (nI_leI (by omega) (by omega)).mpr c15
                    refine lv_iload_n hx hb d_MO_plug_122 rfl (lv_at hl 5 rfl) ?_
                    refine lv_iconst (v := nI 3) hx hb d_MO_plug_123 (by decide +kernel) ?_
                    refine lv_icmp_ne (tgt := 150) hx hb d_MO_plug_124 (by decide) (fun c16 => ?_) (fun c16 => ?_)
                    · have c16 := mt (nI_eq (by omega) (by omega)).mpr c16
                      exact rw_retv hx hb hr hlocks d_MO_plug_150 hS () (trivial) (by rw [show (upd bn (4 * s9 + p9) (b)) = (upd bn (4 * s9 + p9) b) from by first | rfl | omega]; exact hP)
                    · have c16 := (nI_eq (by omega) (by omega)).mp c16
                      exfalso; omega
                · have c14 := mt (n_eq0 (by omega)).mpr c14
                  exfalso; omega
          · have c5 := mt (n_eq0 (by omega)).mpr c5
            exfalso; omega
        · have c4 := (nI_eq (by omega) (by omega)).mp c4
          exfalso; omega
set_option maxHeartbeats 4000000 in
set_option maxRecDepth 100000 in
theorem c_MO_plug3t (l : Launch) (D : va_G) (k : Nat → ClassId) (q : Nat → Nat) (cd : Int32) (wd : Nat → Nat) (se : Nat → Nat) (kd : Nat → Nat) (bn : Nat → Int32) (sh : Nat → Nat) (mb : Nat → Nat) (pr : Nat) (B : Nat → Nat) (R : Nat → Nat) (sx : Nat) (pt : Nat) (rd : Nat) (wt : Int32) (ln : Nat) (px : Nat → Nat) (hwd : ∀ j, wd j < 2) (hse : ∀ j, se j < 256) (hpr : pr < 256) (hkd : ∀ j, kd j < 5) (hsh : ∀ j, sh j < 8) (hmb : ∀ j, mb j < 256) (s9 p9 : Nat) (hs9 : s9 < 4) (hp9 : p9 < 4) (kk : Nat) (hk1 : 1 ≤ kk) (hk2 : kk ≤ 4) (hk3 : kk = 3) (n : Nat) (hn1 : 1 ≤ n) (hn2 : n ≤ 8) (h1 : (wd s9 = 0 ∧ 0 < p9) ∨ kd (4 * s9 + p9) ≠ 0) : rw_v l y_MO_plug b_MO_plug 7 none { frames := 3, cells := 0, slots := 0, locals := 67 } D (kT k) (mW q k cd wd se kd bn sh mb pr B R sx pt rd wt ln px) [.ref (q 0), .int (nI s9), .int (nI p9), .int (nI kk), .int (nI n)] (fun (_ : Unit) => True) (fun (_ : Unit) => (mW q k (nI 2) wd se kd bn sh mb pr B R sx pt rd wt ln px)) := by
  refine rw_headv (by decide) (Nat.le_of_ble_eq_true rfl) ?_
  intro p e s m below meth c ls A hx hb hr hlocks hml hown hts hK hA hP hD hS hl
  have hown : s.vm.findClass "SlotScreenModel" = some m.cls := hown
  have hl : lv_has ls 7 [(0, .ref (q 0)), (1, .int (nI s9)), (2, .int (nI p9)), (3, .int (nI kk)), (4, .int (nI n))] := hl
  refine lv_aload_n hx hb d_MO_plug_0 rfl (lv_at hl 0 rfl) ?_
  refine lv_iload_n hx hb d_MO_plug_1 rfl (lv_at hl 1 rfl) ?_
  refine lv_iconst (v := nI 0) hx hb d_MO_plug_2 (by decide +kernel) ?_
  refine lv_iconst (v := nI 3) hx hb d_MO_plug_3 (by decide +kernel) ?_
  refine kr_iS (As := [.int (nI s9), .int (nI 0), .int (nI 3)]) (rest := [.ref (q 0)]) ⟨hx, hb, hml, hown, hts⟩ (c_MO_within l D k s9 0 3 (by omega) (by omega) (by omega)) (va_cwS 3 hts (gS w_587 w_588 w_5 w_589) rfl rfl rfl (by decide +kernel) ⟨Nat.le_of_ble_eq_true rfl, Nat.le_of_ble_eq_true rfl⟩) hK va_nil rfl hl.1 rfl (Nat.le_of_ble_eq_true rfl) d_MO_plug_4 ⟨Nat.zero_le _, Nat.zero_le _⟩ ?_
  refine lv_if_eq (tgt := 48) hx hb d_MO_plug_7 (by decide) (fun c1 => ?_) (fun c1 => ?_)
  · have c1 := (bI_0).mp c1
    exfalso; omega
  · have c1 := mt (bI_0).mpr c1
    have c1 := Classical.not_not.mp c1
    refine lv_iload_n hx hb d_MO_plug_10 rfl (lv_at hl 2 rfl) ?_
    refine lv_iconst (v := nI 0) hx hb d_MO_plug_11 (by decide +kernel) ?_
    refine lv_iconst (v := nI 3) hx hb d_MO_plug_12 (by decide +kernel) ?_
    refine kr_iS (As := [.int (nI p9), .int (nI 0), .int (nI 3)]) (rest := [.ref (q 0)]) ⟨hx, hb, hml, hown, hts⟩ (c_MO_within l D k p9 0 3 (by omega) (by omega) (by omega)) (va_cwS 3 hts (gS w_587 w_588 w_5 w_589) rfl rfl rfl (by decide +kernel) ⟨Nat.le_of_ble_eq_true rfl, Nat.le_of_ble_eq_true rfl⟩) hK va_nil rfl hl.1 rfl (Nat.le_of_ble_eq_true rfl) d_MO_plug_13 ⟨Nat.zero_le _, Nat.zero_le _⟩ ?_
    refine lv_if_eq (tgt := 48) hx hb d_MO_plug_16 (by decide) (fun c2 => ?_) (fun c2 => ?_)
    · have c2 := (bI_0).mp c2
      exfalso; omega
    · have c2 := mt (bI_0).mpr c2
      have c2 := Classical.not_not.mp c2
      refine lv_iload_n hx hb d_MO_plug_19 rfl (lv_at hl 3 rfl) ?_
      refine lv_iconst (v := nI 1) hx hb d_MO_plug_20 (by decide +kernel) ?_
      refine lv_iconst (v := nI 4) hx hb d_MO_plug_21 (by decide +kernel) ?_
      refine kr_iS (As := [.int (nI kk), .int (nI 1), .int (nI 4)]) (rest := [.ref (q 0)]) ⟨hx, hb, hml, hown, hts⟩ (c_MO_within l D k kk 1 4 (by omega) (by omega) (by omega)) (va_cwS 3 hts (gS w_587 w_588 w_5 w_589) rfl rfl rfl (by decide +kernel) ⟨Nat.le_of_ble_eq_true rfl, Nat.le_of_ble_eq_true rfl⟩) hK va_nil rfl hl.1 rfl (Nat.le_of_ble_eq_true rfl) d_MO_plug_22 ⟨Nat.zero_le _, Nat.zero_le _⟩ ?_
      refine lv_if_eq (tgt := 48) hx hb d_MO_plug_25 (by decide) (fun c3 => ?_) (fun c3 => ?_)
      · have c3 := (bI_0).mp c3
        exfalso; omega
      · have c3 := mt (bI_0).mpr c3
        have c3 := Classical.not_not.mp c3
        refine lv_iload_n hx hb d_MO_plug_28 rfl (lv_at hl 3 rfl) ?_
        refine lv_iconst (v := nI 3) hx hb d_MO_plug_29 (by decide +kernel) ?_
        refine lv_icmp_ne (tgt := 44) hx hb d_MO_plug_30 (by decide) (fun c4 => ?_) (fun c4 => ?_)
        · have c4 := mt (nI_eq (by omega) (by omega)).mpr c4
          exfalso; omega
        · have c4 := (nI_eq (by omega) (by omega)).mp c4
          refine lv_iload hx hb d_MO_plug_33 (lv_at hl 4 rfl) ?_
          refine lv_iconst (v := nI 1) hx hb d_MO_plug_35 (by decide +kernel) ?_
          refine lv_bipush (v := nI 8) hx hb d_MO_plug_36 (by decide +kernel) ?_
          refine kr_iS (As := [.int (nI n), .int (nI 1), .int (nI 8)]) (rest := [.ref (q 0)]) ⟨hx, hb, hml, hown, hts⟩ (c_MO_within l D k n 1 8 (by omega) (by omega) (by omega)) (va_cwS 3 hts (gS w_587 w_588 w_5 w_589) rfl rfl rfl (by decide +kernel) ⟨Nat.le_of_ble_eq_true rfl, Nat.le_of_ble_eq_true rfl⟩) hK va_nil rfl hl.1 rfl (Nat.le_of_ble_eq_true rfl) d_MO_plug_38 ⟨Nat.zero_le _, Nat.zero_le _⟩ ?_
          refine lv_if_eq (tgt := 48) hx hb d_MO_plug_41 (by decide) (fun c5 => ?_) (fun c5 => ?_)
          · have c5 := (bI_0).mp c5
            exfalso; omega
          · have c5 := mt (bI_0).mpr c5
            have c5 := Classical.not_not.mp c5
            refine lv_iconst (v := nI 0) hx hb d_MO_plug_44 (by decide +kernel) ?_
            refine lv_goto (tgt := 49) hx hb d_MO_plug_45 (by decide) ?_
            refine va_put (D := D) (ci := 7) (v := .int (nI 0)) (ty := .int) (C := R_MO) (T := T_MO) (N := 16) hx hb hts in_MO t_MO o_MO n_MO hown hK hP hD hS 0 rfl rfl 0 (by decide) (hts _ w_530) (fun _ h9 => h9) rfl (by decide +kernel) rfl rfl (Nat.le_of_ble_eq_true rfl) d_MO_plug_49 (fun H locs hP hD hS => ?_)
            have hP : va_P D vwCl (mW q k (nI 0) wd se kd bn sh mb pr B R sx pt rd wt ln px) H := hP
            have hD : va_D A (mW q k (nI 0) wd se kd bn sh mb pr B R sx pt rd wt ln px) := hD
            refine lv_aload_n hx hb d_MO_plug_52 rfl (lv_at hl 0 rfl) ?_
            refine va_get (D := D) (ci := 7) (v := .int (nI 0)) (C := R_MO) (T := T_MO) (N := 16) hx hb hts in_MO hown hK hP 0 rfl rfl 0 (by decide) (hts _ w_530) (fun _ h9 => h9) rfl d_MO_plug_53 ?_
            refine lv_if_eq (tgt := 60) hx hb d_MO_plug_56 (by decide) (fun c6 => ?_) (fun c6 => ?_)
            · have c6 := (n_eq0 (by omega)).mp c6
              refine lv_iconst (v := nI 4) hx hb d_MO_plug_60 (by decide +kernel) ?_
              refine lv_iload_n hx hb d_MO_plug_61 rfl (lv_at hl 1 rfl) ?_
              refine lv_imul hx hb d_MO_plug_62 ?_
              refine ss_rt (y := nI (4 * s9)) (pk_mul _ _) ?_
              refine lv_iload_n hx hb d_MO_plug_63 rfl (lv_at hl 2 rfl) ?_
              refine lv_iadd hx hb d_MO_plug_64 ?_
              refine ss_rt (y := nI (4 * s9 + p9)) (nI_add _ _) ?_
              refine lv_istore (lv' := [(5, .int (nI (4 * s9 + p9))), (0, .ref (q 0)), (1, .int (nI s9)), (2, .int (nI p9)), (3, .int (nI kk)), (4, .int (nI n))]) hx hb d_MO_plug_65 hl (by decide) rfl (fun ls hl => ?_)
              refine lv_aload_n hx hb d_MO_plug_67 rfl (lv_at hl 1 rfl) ?_
              refine va_get (D := D) (ci := 7) (v := .ref (q 1)) (C := R_MO) (T := T_MO) (N := 16) hx hb hts in_MO hown hK hP 0 rfl rfl 1 (by decide) (hts _ w_531) (fun _ h9 => h9) rfl d_MO_plug_68 ?_
              refine lv_iload_n hx hb d_MO_plug_71 rfl (lv_at hl 2 rfl) ?_
              refine va_zald hx hb hK hP 1 1 rfl rfl (vp_in_nI (by omega) (by omega)) d_MO_plug_72 ?_
              refine ss_rt (y := nI (wd s9)) (congrArg (fun z => nI (wd z)) (nI_clamp (by omega))) ?_
              have g7 := hwd s9
              refine lv_if_ne (tgt := 80) hx hb d_MO_plug_73 (by decide) (fun c8 => ?_) (fun c8 => ?_)
              · have c8 := mt (n_eq0 (by omega)).mpr c8
                refine lv_aload_n hx hb d_MO_plug_80 rfl (lv_at hl 1 rfl) ?_
                refine va_get (D := D) (ci := 7) (v := .ref (q 3)) (C := R_MO) (T := T_MO) (N := 16) hx hb hts in_MO hown hK hP 0 rfl rfl 3 (by decide) (hts _ w_533) (fun _ h9 => h9) rfl d_MO_plug_81 ?_
                refine lv_iload hx hb d_MO_plug_84 (lv_at hl 0 rfl) ?_
                refine va_iald hx hb hK hP 3 0 rfl rfl (vp_in_nI (by omega) (by omega)) d_MO_plug_86 ?_
                refine ss_rt (y := nI (kd (4 * s9 + p9))) (congrArg (fun z => nI (kd z)) (nI_clamp (by omega))) ?_
                have g9 := hkd (4 * s9 + p9)
                refine lv_if_eq (tgt := 96) hx hb d_MO_plug_87 (by decide) (fun c10 => ?_) (fun c10 => ?_)
                · have c10 := (n_eq0 (by omega)).mp c10
                  exfalso; omega
                · have c10 := mt (n_eq0 (by omega)).mpr c10
                  refine lv_aload_n hx hb d_MO_plug_90 rfl (lv_at hl 1 rfl) ?_
                  refine lv_iconst (v := nI 2) hx hb d_MO_plug_91 (by decide +kernel) ?_
                  refine va_put (D := D) (ci := 7) (v := .int (nI 2)) (ty := .int) (C := R_MO) (T := T_MO) (N := 16) hx hb hts in_MO t_MO o_MO n_MO hown hK hP hD hS 0 rfl rfl 0 (by decide) (hts _ w_530) (fun _ h9 => h9) rfl (by decide +kernel) rfl rfl (Nat.le_of_ble_eq_true rfl) d_MO_plug_92 (fun H locs hP hD hS => ?_)
                  have hP : va_P D vwCl (mW q k (nI 2) wd se kd bn sh mb pr B R sx pt rd wt ln px) H := hP
                  have hD : va_D A (mW q k (nI 2) wd se kd bn sh mb pr B R sx pt rd wt ln px) := hD
                  exact rw_retv hx hb hr hlocks d_MO_plug_95 hS () (trivial) hP
              · have c8 := (n_eq0 (by omega)).mp c8
                refine lv_iload_n hx hb d_MO_plug_76 rfl (lv_at hl 3 rfl) ?_
                refine lv_if_gt (tgt := 90) hx hb d_MO_plug_77 (by decide) (fun c11 => ?_) (fun c11 => ?_)
                · have c11 := (n_gt0 (by omega)).mp c11
                  refine lv_aload_n hx hb d_MO_plug_90 rfl (lv_at hl 1 rfl) ?_
                  refine lv_iconst (v := nI 2) hx hb d_MO_plug_91 (by decide +kernel) ?_
                  refine va_put (D := D) (ci := 7) (v := .int (nI 2)) (ty := .int) (C := R_MO) (T := T_MO) (N := 16) hx hb hts in_MO t_MO o_MO n_MO hown hK hP hD hS 0 rfl rfl 0 (by decide) (hts _ w_530) (fun _ h9 => h9) rfl (by decide +kernel) rfl rfl (Nat.le_of_ble_eq_true rfl) d_MO_plug_92 (fun H locs hP hD hS => ?_)
                  have hP : va_P D vwCl (mW q k (nI 2) wd se kd bn sh mb pr B R sx pt rd wt ln px) H := hP
                  have hD : va_D A (mW q k (nI 2) wd se kd bn sh mb pr B R sx pt rd wt ln px) := hD
                  exact rw_retv hx hb hr hlocks d_MO_plug_95 hS () (trivial) hP
                · have c11 := mt (n_gt0 (by omega)).mpr c11
                  refine lv_aload_n hx hb d_MO_plug_80 rfl (lv_at hl 1 rfl) ?_
                  refine va_get (D := D) (ci := 7) (v := .ref (q 3)) (C := R_MO) (T := T_MO) (N := 16) hx hb hts in_MO hown hK hP 0 rfl rfl 3 (by decide) (hts _ w_533) (fun _ h9 => h9) rfl d_MO_plug_81 ?_
                  refine lv_iload hx hb d_MO_plug_84 (lv_at hl 0 rfl) ?_
                  refine va_iald hx hb hK hP 3 0 rfl rfl (vp_in_nI (by omega) (by omega)) d_MO_plug_86 ?_
                  refine ss_rt (y := nI (kd (4 * s9 + p9))) (congrArg (fun z => nI (kd z)) (nI_clamp (by omega))) ?_
                  have g12 := hkd (4 * s9 + p9)
                  refine lv_if_eq (tgt := 96) hx hb d_MO_plug_87 (by decide) (fun c13 => ?_) (fun c13 => ?_)
                  · have c13 := (n_eq0 (by omega)).mp c13
                    exfalso; omega
                  · have c13 := mt (n_eq0 (by omega)).mpr c13
                    refine lv_aload_n hx hb d_MO_plug_90 rfl (lv_at hl 1 rfl) ?_
                    refine lv_iconst (v := nI 2) hx hb d_MO_plug_91 (by decide +kernel) ?_
                    refine va_put (D := D) (ci := 7) (v := .int (nI 2)) (ty := .int) (C := R_MO) (T := T_MO) (N := 16) hx hb hts in_MO t_MO o_MO n_MO hown hK hP hD hS 0 rfl rfl 0 (by decide) (hts _ w_530) (fun _ h9 => h9) rfl (by decide +kernel) rfl rfl (Nat.le_of_ble_eq_true rfl) d_MO_plug_92 (fun H locs hP hD hS => ?_)
                    have hP : va_P D vwCl (mW q k (nI 2) wd se kd bn sh mb pr B R sx pt rd wt ln px) H := hP
                    have hD : va_D A (mW q k (nI 2) wd se kd bn sh mb pr B R sx pt rd wt ln px) := hD
                    exact rw_retv hx hb hr hlocks d_MO_plug_95 hS () (trivial) hP
            · have c6 := mt (n_eq0 (by omega)).mpr c6
              exfalso; omega
set_option maxHeartbeats 4000000 in
set_option maxRecDepth 100000 in
theorem c_MO_plug3 (l : Launch) (D : va_G) (k : Nat → ClassId) (q : Nat → Nat) (cd : Int32) (wd : Nat → Nat) (se : Nat → Nat) (kd : Nat → Nat) (bn : Nat → Int32) (sh : Nat → Nat) (mb : Nat → Nat) (pr : Nat) (B : Nat → Nat) (R : Nat → Nat) (sx : Nat) (pt : Nat) (rd : Nat) (wt : Int32) (ln : Nat) (px : Nat → Nat) (hwd : ∀ j, wd j < 2) (hse : ∀ j, se j < 256) (hpr : pr < 256) (hkd : ∀ j, kd j < 5) (hsh : ∀ j, sh j < 8) (hmb : ∀ j, mb j < 256) (s9 p9 : Nat) (hs9 : s9 < 4) (hp9 : p9 < 4) (kk : Nat) (hk1 : 1 ≤ kk) (hk2 : kk ≤ 4) (hk3 : kk = 3) (n : Nat) (hn1 : 1 ≤ n) (hn2 : n ≤ 8) (h1 : wd s9 = 1 ∨ p9 = 0) (h2 : kd (4 * s9 + p9) = 0) : rw_v l y_MO_plug b_MO_plug 7 none { frames := 3, cells := 0, slots := 0, locals := 67 } D (kT k) (mW q k cd wd se kd bn sh mb pr B R sx pt rd wt ln px) [.ref (q 0), .int (nI s9), .int (nI p9), .int (nI kk), .int (nI n)] (fun (_ : Unit) => True) (fun (_ : Unit) => (mW q k (nI 0) wd se (ss_up kd (4 * s9 + p9) kk) (upd bn (4 * s9 + p9) (nI n)) (mshn sh (4 * s9 + p9) n 4) mb pr B R sx pt rd wt ln px)) := by
  refine rw_headv (by decide) (Nat.le_of_ble_eq_true rfl) ?_
  intro p e s m below meth c ls A hx hb hr hlocks hml hown hts hK hA hP hD hS hl
  have hown : s.vm.findClass "SlotScreenModel" = some m.cls := hown
  have hl : lv_has ls 7 [(0, .ref (q 0)), (1, .int (nI s9)), (2, .int (nI p9)), (3, .int (nI kk)), (4, .int (nI n))] := hl
  refine lv_aload_n hx hb d_MO_plug_0 rfl (lv_at hl 0 rfl) ?_
  refine lv_iload_n hx hb d_MO_plug_1 rfl (lv_at hl 1 rfl) ?_
  refine lv_iconst (v := nI 0) hx hb d_MO_plug_2 (by decide +kernel) ?_
  refine lv_iconst (v := nI 3) hx hb d_MO_plug_3 (by decide +kernel) ?_
  refine kr_iS (As := [.int (nI s9), .int (nI 0), .int (nI 3)]) (rest := [.ref (q 0)]) ⟨hx, hb, hml, hown, hts⟩ (c_MO_within l D k s9 0 3 (by omega) (by omega) (by omega)) (va_cwS 3 hts (gS w_587 w_588 w_5 w_589) rfl rfl rfl (by decide +kernel) ⟨Nat.le_of_ble_eq_true rfl, Nat.le_of_ble_eq_true rfl⟩) hK va_nil rfl hl.1 rfl (Nat.le_of_ble_eq_true rfl) d_MO_plug_4 ⟨Nat.zero_le _, Nat.zero_le _⟩ ?_
  refine lv_if_eq (tgt := 48) hx hb d_MO_plug_7 (by decide) (fun c1 => ?_) (fun c1 => ?_)
  · have c1 := (bI_0).mp c1
    exfalso; omega
  · have c1 := mt (bI_0).mpr c1
    have c1 := Classical.not_not.mp c1
    refine lv_iload_n hx hb d_MO_plug_10 rfl (lv_at hl 2 rfl) ?_
    refine lv_iconst (v := nI 0) hx hb d_MO_plug_11 (by decide +kernel) ?_
    refine lv_iconst (v := nI 3) hx hb d_MO_plug_12 (by decide +kernel) ?_
    refine kr_iS (As := [.int (nI p9), .int (nI 0), .int (nI 3)]) (rest := [.ref (q 0)]) ⟨hx, hb, hml, hown, hts⟩ (c_MO_within l D k p9 0 3 (by omega) (by omega) (by omega)) (va_cwS 3 hts (gS w_587 w_588 w_5 w_589) rfl rfl rfl (by decide +kernel) ⟨Nat.le_of_ble_eq_true rfl, Nat.le_of_ble_eq_true rfl⟩) hK va_nil rfl hl.1 rfl (Nat.le_of_ble_eq_true rfl) d_MO_plug_13 ⟨Nat.zero_le _, Nat.zero_le _⟩ ?_
    refine lv_if_eq (tgt := 48) hx hb d_MO_plug_16 (by decide) (fun c2 => ?_) (fun c2 => ?_)
    · have c2 := (bI_0).mp c2
      exfalso; omega
    · have c2 := mt (bI_0).mpr c2
      have c2 := Classical.not_not.mp c2
      refine lv_iload_n hx hb d_MO_plug_19 rfl (lv_at hl 3 rfl) ?_
      refine lv_iconst (v := nI 1) hx hb d_MO_plug_20 (by decide +kernel) ?_
      refine lv_iconst (v := nI 4) hx hb d_MO_plug_21 (by decide +kernel) ?_
      refine kr_iS (As := [.int (nI kk), .int (nI 1), .int (nI 4)]) (rest := [.ref (q 0)]) ⟨hx, hb, hml, hown, hts⟩ (c_MO_within l D k kk 1 4 (by omega) (by omega) (by omega)) (va_cwS 3 hts (gS w_587 w_588 w_5 w_589) rfl rfl rfl (by decide +kernel) ⟨Nat.le_of_ble_eq_true rfl, Nat.le_of_ble_eq_true rfl⟩) hK va_nil rfl hl.1 rfl (Nat.le_of_ble_eq_true rfl) d_MO_plug_22 ⟨Nat.zero_le _, Nat.zero_le _⟩ ?_
      refine lv_if_eq (tgt := 48) hx hb d_MO_plug_25 (by decide) (fun c3 => ?_) (fun c3 => ?_)
      · have c3 := (bI_0).mp c3
        exfalso; omega
      · have c3 := mt (bI_0).mpr c3
        have c3 := Classical.not_not.mp c3
        refine lv_iload_n hx hb d_MO_plug_28 rfl (lv_at hl 3 rfl) ?_
        refine lv_iconst (v := nI 3) hx hb d_MO_plug_29 (by decide +kernel) ?_
        refine lv_icmp_ne (tgt := 44) hx hb d_MO_plug_30 (by decide) (fun c4 => ?_) (fun c4 => ?_)
        · have c4 := mt (nI_eq (by omega) (by omega)).mpr c4
          exfalso; omega
        · have c4 := (nI_eq (by omega) (by omega)).mp c4
          refine lv_iload hx hb d_MO_plug_33 (lv_at hl 4 rfl) ?_
          refine lv_iconst (v := nI 1) hx hb d_MO_plug_35 (by decide +kernel) ?_
          refine lv_bipush (v := nI 8) hx hb d_MO_plug_36 (by decide +kernel) ?_
          refine kr_iS (As := [.int (nI n), .int (nI 1), .int (nI 8)]) (rest := [.ref (q 0)]) ⟨hx, hb, hml, hown, hts⟩ (c_MO_within l D k n 1 8 (by omega) (by omega) (by omega)) (va_cwS 3 hts (gS w_587 w_588 w_5 w_589) rfl rfl rfl (by decide +kernel) ⟨Nat.le_of_ble_eq_true rfl, Nat.le_of_ble_eq_true rfl⟩) hK va_nil rfl hl.1 rfl (Nat.le_of_ble_eq_true rfl) d_MO_plug_38 ⟨Nat.zero_le _, Nat.zero_le _⟩ ?_
          refine lv_if_eq (tgt := 48) hx hb d_MO_plug_41 (by decide) (fun c5 => ?_) (fun c5 => ?_)
          · have c5 := (bI_0).mp c5
            exfalso; omega
          · have c5 := mt (bI_0).mpr c5
            have c5 := Classical.not_not.mp c5
            refine lv_iconst (v := nI 0) hx hb d_MO_plug_44 (by decide +kernel) ?_
            refine lv_goto (tgt := 49) hx hb d_MO_plug_45 (by decide) ?_
            refine va_put (D := D) (ci := 7) (v := .int (nI 0)) (ty := .int) (C := R_MO) (T := T_MO) (N := 16) hx hb hts in_MO t_MO o_MO n_MO hown hK hP hD hS 0 rfl rfl 0 (by decide) (hts _ w_530) (fun _ h9 => h9) rfl (by decide +kernel) rfl rfl (Nat.le_of_ble_eq_true rfl) d_MO_plug_49 (fun H locs hP hD hS => ?_)
            have hP : va_P D vwCl (mW q k (nI 0) wd se kd bn sh mb pr B R sx pt rd wt ln px) H := hP
            have hD : va_D A (mW q k (nI 0) wd se kd bn sh mb pr B R sx pt rd wt ln px) := hD
            refine lv_aload_n hx hb d_MO_plug_52 rfl (lv_at hl 0 rfl) ?_
            refine va_get (D := D) (ci := 7) (v := .int (nI 0)) (C := R_MO) (T := T_MO) (N := 16) hx hb hts in_MO hown hK hP 0 rfl rfl 0 (by decide) (hts _ w_530) (fun _ h9 => h9) rfl d_MO_plug_53 ?_
            refine lv_if_eq (tgt := 60) hx hb d_MO_plug_56 (by decide) (fun c6 => ?_) (fun c6 => ?_)
            · have c6 := (n_eq0 (by omega)).mp c6
              refine lv_iconst (v := nI 4) hx hb d_MO_plug_60 (by decide +kernel) ?_
              refine lv_iload_n hx hb d_MO_plug_61 rfl (lv_at hl 1 rfl) ?_
              refine lv_imul hx hb d_MO_plug_62 ?_
              refine ss_rt (y := nI (4 * s9)) (pk_mul _ _) ?_
              refine lv_iload_n hx hb d_MO_plug_63 rfl (lv_at hl 2 rfl) ?_
              refine lv_iadd hx hb d_MO_plug_64 ?_
              refine ss_rt (y := nI (4 * s9 + p9)) (nI_add _ _) ?_
              refine lv_istore (lv' := [(5, .int (nI (4 * s9 + p9))), (0, .ref (q 0)), (1, .int (nI s9)), (2, .int (nI p9)), (3, .int (nI kk)), (4, .int (nI n))]) hx hb d_MO_plug_65 hl (by decide) rfl (fun ls hl => ?_)
              refine lv_aload_n hx hb d_MO_plug_67 rfl (lv_at hl 1 rfl) ?_
              refine va_get (D := D) (ci := 7) (v := .ref (q 1)) (C := R_MO) (T := T_MO) (N := 16) hx hb hts in_MO hown hK hP 0 rfl rfl 1 (by decide) (hts _ w_531) (fun _ h9 => h9) rfl d_MO_plug_68 ?_
              refine lv_iload_n hx hb d_MO_plug_71 rfl (lv_at hl 2 rfl) ?_
              refine va_zald hx hb hK hP 1 1 rfl rfl (vp_in_nI (by omega) (by omega)) d_MO_plug_72 ?_
              refine ss_rt (y := nI (wd s9)) (congrArg (fun z => nI (wd z)) (nI_clamp (by omega))) ?_
              have g7 := hwd s9
              refine lv_if_ne (tgt := 80) hx hb d_MO_plug_73 (by decide) (fun c8 => ?_) (fun c8 => ?_)
              · have c8 := mt (n_eq0 (by omega)).mpr c8
                refine lv_aload_n hx hb d_MO_plug_80 rfl (lv_at hl 1 rfl) ?_
                refine va_get (D := D) (ci := 7) (v := .ref (q 3)) (C := R_MO) (T := T_MO) (N := 16) hx hb hts in_MO hown hK hP 0 rfl rfl 3 (by decide) (hts _ w_533) (fun _ h9 => h9) rfl d_MO_plug_81 ?_
                refine lv_iload hx hb d_MO_plug_84 (lv_at hl 0 rfl) ?_
                refine va_iald hx hb hK hP 3 0 rfl rfl (vp_in_nI (by omega) (by omega)) d_MO_plug_86 ?_
                refine ss_rt (y := nI (kd (4 * s9 + p9))) (congrArg (fun z => nI (kd z)) (nI_clamp (by omega))) ?_
                have g9 := hkd (4 * s9 + p9)
                refine lv_if_eq (tgt := 96) hx hb d_MO_plug_87 (by decide) (fun c10 => ?_) (fun c10 => ?_)
                · have c10 := (n_eq0 (by omega)).mp c10
                  refine lv_aload_n hx hb d_MO_plug_96 rfl (lv_at hl 1 rfl) ?_
                  refine va_get (D := D) (ci := 7) (v := .ref (q 3)) (C := R_MO) (T := T_MO) (N := 16) hx hb hts in_MO hown hK hP 0 rfl rfl 3 (by decide) (hts _ w_533) (fun _ h9 => h9) rfl d_MO_plug_97 ?_
                  refine lv_iload hx hb d_MO_plug_100 (lv_at hl 0 rfl) ?_
                  refine lv_iload_n hx hb d_MO_plug_102 rfl (lv_at hl 4 rfl) ?_
                  refine va_iast hx hb hK hP hD hS 3 0 rfl rfl (vp_in_nI (by omega) (by omega)) d_MO_plug_103 (fun H locs hP hD hS => ?_)
                  rw [ss_upI kd (k := (4 * s9 + p9)) (v := kk) (by omega)] at hP hD
                  have hP : va_P D vwCl (mW q k (nI 0) wd se (ss_up kd (4 * s9 + p9) kk) bn sh mb pr B R sx pt rd wt ln px) H := hP
                  have hD : va_D A (mW q k (nI 0) wd se (ss_up kd (4 * s9 + p9) kk) bn sh mb pr B R sx pt rd wt ln px) := hD
                  refine lv_aload_n hx hb d_MO_plug_104 rfl (lv_at hl 1 rfl) ?_
                  refine va_get (D := D) (ci := 7) (v := .ref (q 4)) (C := R_MO) (T := T_MO) (N := 16) hx hb hts in_MO hown hK hP 0 rfl rfl 4 (by decide) (hts _ w_534) (fun _ h9 => h9) rfl d_MO_plug_105 ?_
                  refine lv_iload hx hb d_MO_plug_108 (lv_at hl 0 rfl) ?_
                  refine lv_iload hx hb d_MO_plug_110 (lv_at hl 5 rfl) ?_
                  refine va_iast hx hb hK hP hD hS 4 0 rfl rfl (vp_in_nI (by omega) (by omega)) d_MO_plug_112 (fun H locs hP hD hS => ?_)
                  rw [nI_clamp (n := (4 * s9 + p9)) (by omega)] at hP hD
                  have hP : va_P D vwCl (mW q k (nI 0) wd se (ss_up kd (4 * s9 + p9) kk) (upd bn (4 * s9 + p9) (nI n)) sh mb pr B R sx pt rd wt ln px) H := hP
                  have hD : va_D A (mW q k (nI 0) wd se (ss_up kd (4 * s9 + p9) kk) (upd bn (4 * s9 + p9) (nI n)) sh mb pr B R sx pt rd wt ln px) := hD
                  refine lv_iconst (v := nI 0) hx hb d_MO_plug_113 (by decide +kernel) ?_
                  refine lv_istore (lv' := [(6, .int (nI 0)), (5, .int (nI (4 * s9 + p9))), (0, .ref (q 0)), (1, .int (nI s9)), (2, .int (nI p9)), (3, .int (nI kk)), (4, .int (nI n))]) hx hb d_MO_plug_114 hl (by decide) rfl (fun ls hl => ?_)
                  have loop : ∀ (j9 i : Nat), i + j9 = 4 → ∀ (H : Heap) (locs : List Loc), va_P D vwCl (mW q k (nI 0) wd se (ss_up kd (4 * s9 + p9) kk) (upd bn (4 * s9 + p9) (nI n)) (mshn sh (4 * s9 + p9) n i) mb pr B R sx pt rd wt ln px) H → va_D A (mW q k (nI 0) wd se (ss_up kd (4 * s9 + p9) kk) (upd bn (4 * s9 + p9) (nI n)) (mshn sh (4 * s9 + p9) n i) mb pr B R sx pt rd wt ln px) → va_S A s.heap H locs → ∀ (ls : Array Slot), lv_has ls 7 [(6, .int (nI i)), (5, .int (nI (4 * s9 + p9))), (0, .ref (q 0)), (1, .int (nI s9)), (2, .int (nI p9)), (3, .int (nI kk)), (4, .int (nI n))] → W p l e (headSpec (wsG y_MO_plug b_MO_plug 7 none) { frames := 3, cells := 0, slots := 0, locals := 67 }).room s m ([.ref (q 0), .int (nI s9), .int (nI p9), .int (nI kk), .int (nI n)] : List Value).toArray below meth c H locs 0 0 (MQ below (rw_Qv D (fun (_ : Unit) => True) (fun (_ : Unit) => (mW q k (nI 0) wd se (ss_up kd (4 * s9 + p9) kk) (upd bn (4 * s9 + p9) (nI n)) (mshn sh (4 * s9 + p9) n 4) mb pr B R sx pt rd wt ln px)) A) ([.ref (q 0), .int (nI s9), .int (nI p9), .int (nI kk), .int (nI n)] : List Value).toArray s 0 0 A) (F0 m 116 ls []) := by
                    intro j9
                    induction j9 with
                    | zero =>
                      intro i h9 H locs hP hD hS ls hl
                      obtain rfl : i = 4 := by omega
                      refine lv_iload hx hb d_MO_plug_116 (lv_at hl 0 rfl) ?_
                      refine lv_iconst (v := nI 4) hx hb d_MO_plug_118 (by decide +kernel) ?_
                      refine lv_icmp_ge (tgt := 150) hx hb d_MO_plug_119 (by decide) (fun c11 => ?_) (fun c11 => ?_)
                      · have c11 := (nI_leI (by omega) (by omega)).mp c11
                        exact rw_retv hx hb hr hlocks d_MO_plug_150 hS () (trivial) hP
                      · have c11 := mt (nI_leI (by omega) (by omega)).mpr c11
                        exfalso; omega
                    | succ j9 ih =>
                      intro i h9 H locs hP hD hS ls hl
                      refine lv_iload hx hb d_MO_plug_116 (lv_at hl 0 rfl) ?_
                      refine lv_iconst (v := nI 4) hx hb d_MO_plug_118 (by decide +kernel) ?_
                      refine lv_icmp_ge (tgt := 150) hx hb d_MO_plug_119 (by decide) (fun c12 => ?_) (fun c12 => ?_)
                      · have c12 := (nI_leI (by omega) (by omega)).mp c12
                        exfalso; omega
                      · have c12 := mt (nI_leI (by omega) (by omega)).mpr c12
                        refine lv_iload_n hx hb d_MO_plug_122 rfl (lv_at hl 5 rfl) ?_
                        refine lv_iconst (v := nI 3) hx hb d_MO_plug_123 (by decide +kernel) ?_
                        refine lv_icmp_ne (tgt := 150) hx hb d_MO_plug_124 (by decide) (fun c13 => ?_) (fun c13 => ?_)
                        · have c13 := mt (nI_eq (by omega) (by omega)).mpr c13
                          exfalso; omega
                        · have c13 := (nI_eq (by omega) (by omega)).mp c13
                          refine lv_aload_n hx hb d_MO_plug_127 rfl (lv_at hl 2 rfl) ?_
                          refine va_get (D := D) (ci := 7) (v := .ref (q 5)) (C := R_MO) (T := T_MO) (N := 16) hx hb hts in_MO hown hK hP 0 rfl rfl 5 (by decide) (hts _ w_535) (fun _ h9 => h9) rfl d_MO_plug_128 ?_
                          refine lv_iconst (v := nI 4) hx hb d_MO_plug_131 (by decide +kernel) ?_
                          refine lv_iload hx hb d_MO_plug_132 (lv_at hl 1 rfl) ?_
                          refine lv_imul hx hb d_MO_plug_134 ?_
                          refine ss_rt (y := nI (4 * (4 * s9 + p9))) (pk_mul _ _) ?_
                          refine lv_iload hx hb d_MO_plug_135 (lv_at hl 0 rfl) ?_
                          refine lv_iadd hx hb d_MO_plug_137 ?_
                          refine ss_rt (y := nI (4 * (4 * s9 + p9) + i)) (nI_add _ _) ?_
                          refine lv_iload hx hb d_MO_plug_138 (lv_at hl 0 rfl) ?_
                          refine lv_iload hx hb d_MO_plug_140 (lv_at hl 6 rfl) ?_
                          refine lv_irem hx hb d_MO_plug_142 (by first | decide +kernel | exact nI_ne0 (by omega) (by omega)) ?_
                          refine ss_rt (y := nI (i % n)) (pk_rem (by omega) (by omega) (by omega)) ?_
                          refine va_iast hx hb hK hP hD hS 5 0 rfl rfl (vp_in_nI (by omega) (by omega)) d_MO_plug_143 (fun H locs hP hD hS => ?_)
                          rw [ss_upI (mshn sh (4 * s9 + p9) n i) (k := (4 * (4 * s9 + p9) + i)) (v := (i % n)) (by omega)] at hP hD
                          have hP : va_P D vwCl (mW q k (nI 0) wd se (ss_up kd (4 * s9 + p9) kk) (upd bn (4 * s9 + p9) (nI n)) (ss_up (mshn sh (4 * s9 + p9) n i) (4 * (4 * s9 + p9) + i) (i % n)) mb pr B R sx pt rd wt ln px) H := hP
                          have hD : va_D A (mW q k (nI 0) wd se (ss_up kd (4 * s9 + p9) kk) (upd bn (4 * s9 + p9) (nI n)) (ss_up (mshn sh (4 * s9 + p9) n i) (4 * (4 * s9 + p9) + i) (i % n)) mb pr B R sx pt rd wt ln px) := hD
                          refine lv_iinc (v := nI (i + 1)) (lv' := [(6, .int (nI (i + 1))), (5, .int (nI (4 * s9 + p9))), (0, .ref (q 0)), (1, .int (nI s9)), (2, .int (nI p9)), (3, .int (nI kk)), (4, .int (nI n))]) hx hb d_MO_plug_144 hl (k := 0) rfl (nI_1 _) (by decide) rfl (fun ls hl => ?_)
                          refine lv_goto (tgt := 116) hx hb d_MO_plug_147 (by decide) ?_
                          rw [mshn_s] at hP hD
                          exact ih (i + 1) (by omega) _ _ hP hD hS ls (lv_sub hl [0, 1, 2, 3, 4, 5, 6] rfl)
                  rw [← mshn_0 sh (4 * s9 + p9) n] at hP hD
                  exact loop (4 - 0) 0 (by omega) _ _ hP hD hS ls (lv_sub hl [0, 1, 2, 3, 4, 5, 6] rfl)
                · have c10 := mt (n_eq0 (by omega)).mpr c10
                  exfalso; omega
              · have c8 := (n_eq0 (by omega)).mp c8
                refine lv_iload_n hx hb d_MO_plug_76 rfl (lv_at hl 3 rfl) ?_
                refine lv_if_gt (tgt := 90) hx hb d_MO_plug_77 (by decide) (fun c14 => ?_) (fun c14 => ?_)
                · have c14 := (n_gt0 (by omega)).mp c14
                  exfalso; omega
                · have c14 := mt (n_gt0 (by omega)).mpr c14
                  refine lv_aload_n hx hb d_MO_plug_80 rfl (lv_at hl 1 rfl) ?_
                  refine va_get (D := D) (ci := 7) (v := .ref (q 3)) (C := R_MO) (T := T_MO) (N := 16) hx hb hts in_MO hown hK hP 0 rfl rfl 3 (by decide) (hts _ w_533) (fun _ h9 => h9) rfl d_MO_plug_81 ?_
                  refine lv_iload hx hb d_MO_plug_84 (lv_at hl 0 rfl) ?_
                  refine va_iald hx hb hK hP 3 0 rfl rfl (vp_in_nI (by omega) (by omega)) d_MO_plug_86 ?_
                  refine ss_rt (y := nI (kd (4 * s9 + p9))) (congrArg (fun z => nI (kd z)) (nI_clamp (by omega))) ?_
                  have g15 := hkd (4 * s9 + p9)
                  refine lv_if_eq (tgt := 96) hx hb d_MO_plug_87 (by decide) (fun c16 => ?_) (fun c16 => ?_)
                  · have c16 := (n_eq0 (by omega)).mp c16
                    refine lv_aload_n hx hb d_MO_plug_96 rfl (lv_at hl 1 rfl) ?_
                    refine va_get (D := D) (ci := 7) (v := .ref (q 3)) (C := R_MO) (T := T_MO) (N := 16) hx hb hts in_MO hown hK hP 0 rfl rfl 3 (by decide) (hts _ w_533) (fun _ h9 => h9) rfl d_MO_plug_97 ?_
                    refine lv_iload hx hb d_MO_plug_100 (lv_at hl 0 rfl) ?_
                    refine lv_iload_n hx hb d_MO_plug_102 rfl (lv_at hl 4 rfl) ?_
                    refine va_iast hx hb hK hP hD hS 3 0 rfl rfl (vp_in_nI (by omega) (by omega)) d_MO_plug_103 (fun H locs hP hD hS => ?_)
                    rw [ss_upI kd (k := (4 * s9 + p9)) (v := kk) (by omega)] at hP hD
                    have hP : va_P D vwCl (mW q k (nI 0) wd se (ss_up kd (4 * s9 + p9) kk) bn sh mb pr B R sx pt rd wt ln px) H := hP
                    have hD : va_D A (mW q k (nI 0) wd se (ss_up kd (4 * s9 + p9) kk) bn sh mb pr B R sx pt rd wt ln px) := hD
                    refine lv_aload_n hx hb d_MO_plug_104 rfl (lv_at hl 1 rfl) ?_
                    refine va_get (D := D) (ci := 7) (v := .ref (q 4)) (C := R_MO) (T := T_MO) (N := 16) hx hb hts in_MO hown hK hP 0 rfl rfl 4 (by decide) (hts _ w_534) (fun _ h9 => h9) rfl d_MO_plug_105 ?_
                    refine lv_iload hx hb d_MO_plug_108 (lv_at hl 0 rfl) ?_
                    refine lv_iload hx hb d_MO_plug_110 (lv_at hl 5 rfl) ?_
                    refine va_iast hx hb hK hP hD hS 4 0 rfl rfl (vp_in_nI (by omega) (by omega)) d_MO_plug_112 (fun H locs hP hD hS => ?_)
                    rw [nI_clamp (n := (4 * s9 + p9)) (by omega)] at hP hD
                    have hP : va_P D vwCl (mW q k (nI 0) wd se (ss_up kd (4 * s9 + p9) kk) (upd bn (4 * s9 + p9) (nI n)) sh mb pr B R sx pt rd wt ln px) H := hP
                    have hD : va_D A (mW q k (nI 0) wd se (ss_up kd (4 * s9 + p9) kk) (upd bn (4 * s9 + p9) (nI n)) sh mb pr B R sx pt rd wt ln px) := hD
                    refine lv_iconst (v := nI 0) hx hb d_MO_plug_113 (by decide +kernel) ?_
                    refine lv_istore (lv' := [(6, .int (nI 0)), (5, .int (nI (4 * s9 + p9))), (0, .ref (q 0)), (1, .int (nI s9)), (2, .int (nI p9)), (3, .int (nI kk)), (4, .int (nI n))]) hx hb d_MO_plug_114 hl (by decide) rfl (fun ls hl => ?_)
                    have loop : ∀ (j9 i : Nat), i + j9 = 4 → ∀ (H : Heap) (locs : List Loc), va_P D vwCl (mW q k (nI 0) wd se (ss_up kd (4 * s9 + p9) kk) (upd bn (4 * s9 + p9) (nI n)) (mshn sh (4 * s9 + p9) n i) mb pr B R sx pt rd wt ln px) H → va_D A (mW q k (nI 0) wd se (ss_up kd (4 * s9 + p9) kk) (upd bn (4 * s9 + p9) (nI n)) (mshn sh (4 * s9 + p9) n i) mb pr B R sx pt rd wt ln px) → va_S A s.heap H locs → ∀ (ls : Array Slot), lv_has ls 7 [(6, .int (nI i)), (5, .int (nI (4 * s9 + p9))), (0, .ref (q 0)), (1, .int (nI s9)), (2, .int (nI p9)), (3, .int (nI kk)), (4, .int (nI n))] → W p l e (headSpec (wsG y_MO_plug b_MO_plug 7 none) { frames := 3, cells := 0, slots := 0, locals := 67 }).room s m ([.ref (q 0), .int (nI s9), .int (nI p9), .int (nI kk), .int (nI n)] : List Value).toArray below meth c H locs 0 0 (MQ below (rw_Qv D (fun (_ : Unit) => True) (fun (_ : Unit) => (mW q k (nI 0) wd se (ss_up kd (4 * s9 + p9) kk) (upd bn (4 * s9 + p9) (nI n)) (mshn sh (4 * s9 + p9) n 4) mb pr B R sx pt rd wt ln px)) A) ([.ref (q 0), .int (nI s9), .int (nI p9), .int (nI kk), .int (nI n)] : List Value).toArray s 0 0 A) (F0 m 116 ls []) := by
                      intro j9
                      induction j9 with
                      | zero =>
                        intro i h9 H locs hP hD hS ls hl
                        obtain rfl : i = 4 := by omega
                        refine lv_iload hx hb d_MO_plug_116 (lv_at hl 0 rfl) ?_
                        refine lv_iconst (v := nI 4) hx hb d_MO_plug_118 (by decide +kernel) ?_
                        refine lv_icmp_ge (tgt := 150) hx hb d_MO_plug_119 (by decide) (fun c17 => ?_) (fun c17 => ?_)
                        · have c17 := (nI_leI (by omega) (by omega)).mp c17
                          exact rw_retv hx hb hr hlocks d_MO_plug_150 hS () (trivial) hP
                        · have c17 := mt (nI_leI (by omega) (by omega)).mpr c17
                          exfalso; omega
                      | succ j9 ih =>
                        intro i h9 H locs hP hD hS ls hl
                        refine lv_iload hx hb d_MO_plug_116 (lv_at hl 0 rfl) ?_
                        refine lv_iconst (v := nI 4) hx hb d_MO_plug_118 (by decide +kernel) ?_
                        refine lv_icmp_ge (tgt := 150) hx hb d_MO_plug_119 (by decide) (fun c18 => ?_) (fun c18 => ?_)
                        · have c18 := (nI_leI (by omega) (by omega)).mp c18
                          exfalso; omega
                        · have c18 := mt (nI_leI (by omega) (by omega)).mpr c18
                          refine lv_iload_n hx hb d_MO_plug_122 rfl (lv_at hl 5 rfl) ?_
                          refine lv_iconst (v := nI 3) hx hb d_MO_plug_123 (by decide +kernel) ?_
                          refine lv_icmp_ne (tgt := 150) hx hb d_MO_plug_124 (by decide) (fun c19 => ?_) (fun c19 => ?_)
                          · have c19 := mt (nI_eq (by omega) (by omega)).mpr c19
                            exfalso; omega
                          · have c19 := (nI_eq (by omega) (by omega)).mp c19
                            refine lv_aload_n hx hb d_MO_plug_127 rfl (lv_at hl 2 rfl) ?_
                            refine va_get (D := D) (ci := 7) (v := .ref (q 5)) (C := R_MO) (T := T_MO) (N := 16) hx hb hts in_MO hown hK hP 0 rfl rfl 5 (by decide) (hts _ w_535) (fun _ h9 => h9) rfl d_MO_plug_128 ?_
                            refine lv_iconst (v := nI 4) hx hb d_MO_plug_131 (by decide +kernel) ?_
                            refine lv_iload hx hb d_MO_plug_132 (lv_at hl 1 rfl) ?_
                            refine lv_imul hx hb d_MO_plug_134 ?_
                            refine ss_rt (y := nI (4 * (4 * s9 + p9))) (pk_mul _ _) ?_
                            refine lv_iload hx hb d_MO_plug_135 (lv_at hl 0 rfl) ?_
                            refine lv_iadd hx hb d_MO_plug_137 ?_
                            refine ss_rt (y := nI (4 * (4 * s9 + p9) + i)) (nI_add _ _) ?_
                            refine lv_iload hx hb d_MO_plug_138 (lv_at hl 0 rfl) ?_
                            refine lv_iload hx hb d_MO_plug_140 (lv_at hl 6 rfl) ?_
                            refine lv_irem hx hb d_MO_plug_142 (by first | decide +kernel | exact nI_ne0 (by omega) (by omega)) ?_
                            refine ss_rt (y := nI (i % n)) (pk_rem (by omega) (by omega) (by omega)) ?_
                            refine va_iast hx hb hK hP hD hS 5 0 rfl rfl (vp_in_nI (by omega) (by omega)) d_MO_plug_143 (fun H locs hP hD hS => ?_)
                            rw [ss_upI (mshn sh (4 * s9 + p9) n i) (k := (4 * (4 * s9 + p9) + i)) (v := (i % n)) (by omega)] at hP hD
                            have hP : va_P D vwCl (mW q k (nI 0) wd se (ss_up kd (4 * s9 + p9) kk) (upd bn (4 * s9 + p9) (nI n)) (ss_up (mshn sh (4 * s9 + p9) n i) (4 * (4 * s9 + p9) + i) (i % n)) mb pr B R sx pt rd wt ln px) H := hP
                            have hD : va_D A (mW q k (nI 0) wd se (ss_up kd (4 * s9 + p9) kk) (upd bn (4 * s9 + p9) (nI n)) (ss_up (mshn sh (4 * s9 + p9) n i) (4 * (4 * s9 + p9) + i) (i % n)) mb pr B R sx pt rd wt ln px) := hD
                            refine lv_iinc (v := nI (i + 1)) (lv' := [(6, .int (nI (i + 1))), (5, .int (nI (4 * s9 + p9))), (0, .ref (q 0)), (1, .int (nI s9)), (2, .int (nI p9)), (3, .int (nI kk)), (4, .int (nI n))]) hx hb d_MO_plug_144 hl (k := 0) rfl (nI_1 _) (by decide) rfl (fun ls hl => ?_)
                            refine lv_goto (tgt := 116) hx hb d_MO_plug_147 (by decide) ?_
                            rw [mshn_s] at hP hD
                            exact ih (i + 1) (by omega) _ _ hP hD hS ls (lv_sub hl [0, 1, 2, 3, 4, 5, 6] rfl)
                    rw [← mshn_0 sh (4 * s9 + p9) n] at hP hD
                    exact loop (4 - 0) 0 (by omega) _ _ hP hD hS ls (lv_sub hl [0, 1, 2, 3, 4, 5, 6] rfl)
                  · have c16 := mt (n_eq0 (by omega)).mpr c16
                    exfalso; omega
            · have c6 := mt (n_eq0 (by omega)).mpr c6
              exfalso; omega
