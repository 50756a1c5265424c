set_option maxHeartbeats 4000000 in
set_option maxRecDepth 100000 in
theorem c_MO_outb (l : Launch) (D : va_G) (k : Nat → ClassId) (q : Nat → Nat) (cd : Int32) (wd : Nat → Nat) (se : Nat → Nat) (kd : Nat → Nat) (bn : Nat → Int32) (sh : Nat → Nat) (mb : Nat → Nat) (pr : Nat) (B : Nat → Nat) (R : Nat → Nat) (sx : Nat) (pt : Nat) (rd : Nat) (wt : Int32) (ln : Nat) (px : Nat → Nat) (x v : Int32) (hv : v.toInt < 0 ∨ 255 < v.toInt) : rw_i l y_MO_out b_MO_out 3 (some .boolean) { frames := 3, cells := 0, slots := 0, locals := 61 } D (kT k) (mW q k cd wd se kd bn sh mb pr B R sx pt rd wt ln px) [.ref (q 0), .int x, .int v] (fun (r : Int32) (_ : Unit) => r = nI 0) (fun (_ : Unit) => (mW q k (nI 0) wd se kd bn sh mb pr B R sx pt rd wt ln px)) := by
  refine rw_headi (by decide) (Nat.le_of_ble_eq_true rfl) ?_
  intro p e s m below meth c ls A hx hb hr hlocks hml hown hts hK hA hP hD hS hl
  have hown : s.vm.findClass "SlotScreenModel" = some m.cls := hown
  have hl : lv_has ls 3 [(0, .ref (q 0)), (1, .int x), (2, .int v)] := hl
  refine lv_aload_n hx hb d_MO_out_0 rfl (lv_at hl 0 rfl) ?_
  refine lv_iconst (v := nI 0) hx hb d_MO_out_1 (by decide +kernel) ?_
  refine va_put (D := D) (ci := 7) (v := .int (nI 0)) (ty := .int) (C := R_MO) (T := T_MO) (N := 16) hx hb hts in_MO t_MO o_MO n_MO hown hK hP hD hS 0 rfl rfl 0 (by decide) (hts _ w_530) (fun _ h9 => h9) rfl (by decide +kernel) rfl rfl (Nat.le_of_ble_eq_true rfl) d_MO_out_2 (fun H locs hP hD hS => ?_)
  have hP : va_P D vwCl (mW q k (nI 0) wd se kd bn sh mb pr B R sx pt rd wt ln px) H := hP
  have hD : va_D A (mW q k (nI 0) wd se kd bn sh mb pr B R sx pt rd wt ln px) := hD
  refine lv_iload_n hx hb d_MO_out_5 rfl (lv_at hl 2 rfl) ?_
  refine lv_iconst (v := nI 0) hx hb d_MO_out_6 (by decide +kernel) ?_
  refine lv_sipush (v := nI 255) hx hb d_MO_out_7 (by decide +kernel) ?_
  refine kr_iS (As := [.int v, .int (nI 0), .int (nI 255)]) (rest := []) ⟨hx, hb, hml, hown, hts⟩ (c_MO_withinZ l D k v 0 255 (by omega) (by omega)) (va_cwS 3 hts (gS w_587 w_588 w_5 w_589) rfl rfl rfl (by decide +kernel) ⟨Nat.le_of_ble_eq_true rfl, Nat.le_of_ble_eq_true rfl⟩) hK va_nil rfl hl.1 rfl (Nat.le_of_ble_eq_true rfl) d_MO_out_10 ⟨Nat.zero_le _, Nat.zero_le _⟩ ?_
  refine lv_if_ne (tgt := 18) hx hb d_MO_out_13 (by decide) (fun c1 => ?_) (fun c1 => ?_)
  · have c1 := mt (bI_0).mpr c1
    have c1 := Classical.not_not.mp c1
    exfalso; omega
  · have c1 := (bI_0).mp c1
    refine lv_iconst (v := nI 0) hx hb d_MO_out_16 (by decide +kernel) ?_
    exact rw_retz hx hb hr hlocks d_MO_out_17 (by decide +kernel) hS () (rfl) hP
set_option maxHeartbeats 4000000 in
set_option maxRecDepth 100000 in
theorem c_MO_outo (l : Launch) (D : va_G) (k : Nat → ClassId) (q : Nat → Nat) (cd : Int32) (wd : Nat → Nat) (se : Nat → Nat) (kd : Nat → Nat) (bn : Nat → Int32) (sh : Nat → Nat) (mb : Nat → Nat) (pr : Nat) (B : Nat → Nat) (R : Nat → Nat) (sx : Nat) (pt : Nat) (rd : Nat) (wt : Int32) (ln : Nat) (px : Nat → Nat) (x : Int32) (v : Nat) (hv : v < 256) (hx9 : x.toInt ≠ 0 ∧ x.toInt ≠ 1 ∧ x.toInt ≠ 2) : rw_i l y_MO_out b_MO_out 3 (some .boolean) { frames := 3, cells := 0, slots := 0, locals := 61 } D (kT k) (mW q k cd wd se kd bn sh mb pr B R sx pt rd wt ln px) [.ref (q 0), .int x, .int (nI v)] (fun (r : Int32) (_ : Unit) => r = nI 1) (fun (_ : Unit) => (mW q k (nI 0) wd se kd bn sh mb pr B R sx pt rd wt ln px)) := by
  refine rw_headi (by decide) (Nat.le_of_ble_eq_true rfl) ?_
  intro p e s m below meth c ls A hx hb hr hlocks hml hown hts hK hA hP hD hS hl
  have hown : s.vm.findClass "SlotScreenModel" = some m.cls := hown
  have hl : lv_has ls 3 [(0, .ref (q 0)), (1, .int x), (2, .int (nI v))] := hl
  refine lv_aload_n hx hb d_MO_out_0 rfl (lv_at hl 0 rfl) ?_
  refine lv_iconst (v := nI 0) hx hb d_MO_out_1 (by decide +kernel) ?_
  refine va_put (D := D) (ci := 7) (v := .int (nI 0)) (ty := .int) (C := R_MO) (T := T_MO) (N := 16) hx hb hts in_MO t_MO o_MO n_MO hown hK hP hD hS 0 rfl rfl 0 (by decide) (hts _ w_530) (fun _ h9 => h9) rfl (by decide +kernel) rfl rfl (Nat.le_of_ble_eq_true rfl) d_MO_out_2 (fun H locs hP hD hS => ?_)
  have hP : va_P D vwCl (mW q k (nI 0) wd se kd bn sh mb pr B R sx pt rd wt ln px) H := hP
  have hD : va_D A (mW q k (nI 0) wd se kd bn sh mb pr B R sx pt rd wt ln px) := hD
  refine lv_iload_n hx hb d_MO_out_5 rfl (lv_at hl 2 rfl) ?_
  refine lv_iconst (v := nI 0) hx hb d_MO_out_6 (by decide +kernel) ?_
  refine lv_sipush (v := nI 255) hx hb d_MO_out_7 (by decide +kernel) ?_
  refine kr_iS (As := [.int (nI v), .int (nI 0), .int (nI 255)]) (rest := []) ⟨hx, hb, hml, hown, hts⟩ (c_MO_within l D k v 0 255 (by omega) (by omega) (by omega)) (va_cwS 3 hts (gS w_587 w_588 w_5 w_589) rfl rfl rfl (by decide +kernel) ⟨Nat.le_of_ble_eq_true rfl, Nat.le_of_ble_eq_true rfl⟩) hK va_nil rfl hl.1 rfl (Nat.le_of_ble_eq_true rfl) d_MO_out_10 ⟨Nat.zero_le _, Nat.zero_le _⟩ ?_
  refine lv_if_ne (tgt := 18) hx hb d_MO_out_13 (by decide) (fun c1 => ?_) (fun c1 => ?_)
  · have c1 := mt (bI_0).mpr c1
    have c1 := Classical.not_not.mp c1
    refine lv_iload_n hx hb d_MO_out_18 rfl (lv_at hl 1 rfl) ?_
    refine lv_if_ne (tgt := 49) hx hb d_MO_out_19 (by decide) (fun c2 => ?_) (fun c2 => ?_)
    · have c2 := mt (z_eq0).mpr c2
      refine lv_iload_n hx hb d_MO_out_49 rfl (lv_at hl 1 rfl) ?_
      refine lv_iconst (v := nI 1) hx hb d_MO_out_50 (by decide +kernel) ?_
      refine lv_icmp_ne (tgt := 62) hx hb d_MO_out_51 (by decide) (fun c3 => ?_) (fun c3 => ?_)
      · have c3 := mt (zn_eq (by omega)).mpr c3
        refine lv_iload_n hx hb d_MO_out_62 rfl (lv_at hl 1 rfl) ?_
        refine lv_iconst (v := nI 2) hx hb d_MO_out_63 (by decide +kernel) ?_
        refine lv_icmp_ne (tgt := 72) hx hb d_MO_out_64 (by decide) (fun c4 => ?_) (fun c4 => ?_)
        · have c4 := mt (zn_eq (by omega)).mpr c4
          refine lv_iconst (v := nI 1) hx hb d_MO_out_72 (by decide +kernel) ?_
          exact rw_retz hx hb hr hlocks d_MO_out_73 (by decide +kernel) hS () (rfl) hP
        · have c4 := (zn_eq (by omega)).mp c4
          exfalso; omega
      · have c3 := (zn_eq (by omega)).mp c3
        exfalso; omega
    · have c2 := (z_eq0).mp c2
      exfalso; omega
  · have c1 := (bI_0).mp c1
    exfalso; omega
set_option maxHeartbeats 4000000 in
set_option maxRecDepth 100000 in
theorem c_MO_out0 (l : Launch) (D : va_G) (k : Nat → ClassId) (q : Nat → Nat) (cd : Int32) (wd : Nat → Nat) (se : Nat → Nat) (kd : Nat → Nat) (bn : Nat → Int32) (sh : Nat → Nat) (mb : Nat → Nat) (pr : Nat) (B : Nat → Nat) (R : Nat → Nat) (sx : Nat) (pt : Nat) (rd : Nat) (wt : Int32) (ln : Nat) (px : Nat → Nat) (v : Nat) (hv : v < 256) (hpt : pt < 512) : rw_i l y_MO_out b_MO_out 3 (some .boolean) { frames := 3, cells := 0, slots := 0, locals := 61 } D (kT k) (mW q k cd wd se kd bn sh mb pr B R sx pt rd wt ln px) [.ref (q 0), .int (nI 0), .int (nI v)] (fun (r : Int32) (_ : Unit) => r = nI 1) (fun (_ : Unit) => (mW q k (nI 0) wd se kd bn sh mb pr (ss_up B pt v) R sx ((pt + 1) % 512) v (-1) ln px)) := by
  refine rw_headi (by decide) (Nat.le_of_ble_eq_true rfl) ?_
  intro p e s m below meth c ls A hx hb hr hlocks hml hown hts hK hA hP hD hS hl
  have hown : s.vm.findClass "SlotScreenModel" = some m.cls := hown
  have hl : lv_has ls 3 [(0, .ref (q 0)), (1, .int (nI 0)), (2, .int (nI v))] := hl
  refine lv_aload_n hx hb d_MO_out_0 rfl (lv_at hl 0 rfl) ?_
  refine lv_iconst (v := nI 0) hx hb d_MO_out_1 (by decide +kernel) ?_
  refine va_put (D := D) (ci := 7) (v := .int (nI 0)) (ty := .int) (C := R_MO) (T := T_MO) (N := 16) hx hb hts in_MO t_MO o_MO n_MO hown hK hP hD hS 0 rfl rfl 0 (by decide) (hts _ w_530) (fun _ h9 => h9) rfl (by decide +kernel) rfl rfl (Nat.le_of_ble_eq_true rfl) d_MO_out_2 (fun H locs hP hD hS => ?_)
  have hP : va_P D vwCl (mW q k (nI 0) wd se kd bn sh mb pr B R sx pt rd wt ln px) H := hP
  have hD : va_D A (mW q k (nI 0) wd se kd bn sh mb pr B R sx pt rd wt ln px) := hD
  refine lv_iload_n hx hb d_MO_out_5 rfl (lv_at hl 2 rfl) ?_
  refine lv_iconst (v := nI 0) hx hb d_MO_out_6 (by decide +kernel) ?_
  refine lv_sipush (v := nI 255) hx hb d_MO_out_7 (by decide +kernel) ?_
  refine kr_iS (As := [.int (nI v), .int (nI 0), .int (nI 255)]) (rest := []) ⟨hx, hb, hml, hown, hts⟩ (c_MO_within l D k v 0 255 (by omega) (by omega) (by omega)) (va_cwS 3 hts (gS w_587 w_588 w_5 w_589) rfl rfl rfl (by decide +kernel) ⟨Nat.le_of_ble_eq_true rfl, Nat.le_of_ble_eq_true rfl⟩) hK va_nil rfl hl.1 rfl (Nat.le_of_ble_eq_true rfl) d_MO_out_10 ⟨Nat.zero_le _, Nat.zero_le _⟩ ?_
  refine lv_if_ne (tgt := 18) hx hb d_MO_out_13 (by decide) (fun c1 => ?_) (fun c1 => ?_)
  · have c1 := mt (bI_0).mpr c1
    have c1 := Classical.not_not.mp c1
    refine lv_iload_n hx hb d_MO_out_18 rfl (lv_at hl 1 rfl) ?_
    refine lv_if_ne (tgt := 49) hx hb d_MO_out_19 (by decide) (fun c2 => ?_) (fun c2 => ?_)
    · have c2 := mt (n_eq0 (by omega)).mpr c2
      exfalso; omega
    · have c2 := (n_eq0 (by omega)).mp c2
      refine lv_aload_n hx hb d_MO_out_22 rfl (lv_at hl 0 rfl) ?_
      refine va_get (D := D) (ci := 7) (v := .ref (q 7)) (C := R_MO) (T := T_MO) (N := 16) hx hb hts in_MO hown hK hP 0 rfl rfl 8 (by decide) (hts _ w_538) (fun _ h9 => h9) rfl d_MO_out_23 ?_
      refine lv_aload_n hx hb d_MO_out_26 rfl (lv_at hl 0 rfl) ?_
      refine va_get (D := D) (ci := 7) (v := .int (nI pt)) (C := R_MO) (T := T_MO) (N := 16) hx hb hts in_MO hown hK hP 0 rfl rfl 11 (by decide) (hts _ w_541) (fun _ h9 => h9) rfl d_MO_out_27 ?_
      refine lv_iload_n hx hb d_MO_out_30 rfl (lv_at hl 2 rfl) ?_
      refine va_iast hx hb hK hP hD hS 7 0 rfl rfl (vp_in_nI (by omega) (by omega)) d_MO_out_31 (fun H locs hP hD hS => ?_)
      rw [ss_upI B (k := pt) (v := v) (by omega)] at hP hD
      have hP : va_P D vwCl (mW q k (nI 0) wd se kd bn sh mb pr (ss_up B pt v) R sx pt rd wt ln px) H := hP
      have hD : va_D A (mW q k (nI 0) wd se kd bn sh mb pr (ss_up B pt v) R sx pt rd wt ln px) := hD
      refine lv_aload_n hx hb d_MO_out_32 rfl (lv_at hl 0 rfl) ?_
      refine lv_iload_n hx hb d_MO_out_33 rfl (lv_at hl 2 rfl) ?_
      refine va_put (D := D) (ci := 7) (v := .int (nI v)) (ty := .int) (C := R_MO) (T := T_MO) (N := 16) hx hb hts in_MO t_MO o_MO n_MO hown hK hP hD hS 0 rfl rfl 12 (by decide) (hts _ w_542) (fun _ h9 => h9) rfl (by decide +kernel) rfl rfl (Nat.le_of_ble_eq_true rfl) d_MO_out_34 (fun H locs hP hD hS => ?_)
      have hP : va_P D vwCl (mW q k (nI 0) wd se kd bn sh mb pr (ss_up B pt v) R sx pt v wt ln px) H := hP
      have hD : va_D A (mW q k (nI 0) wd se kd bn sh mb pr (ss_up B pt v) R sx pt v wt ln px) := hD
      refine lv_aload_n hx hb d_MO_out_37 rfl (lv_at hl 0 rfl) ?_
      refine kw_vV (As := []) (rest := []) ⟨hx, hb, hml, hown, hts⟩ (c_MO_goOn l D k q (nI 0) wd se kd bn sh mb pr (ss_up B pt v) R sx pt v wt ln px (by omega)) (cwV 0 hts (gV w_637 w_639 w_p18 w_5 w_640) rfl rfl rfl (by decide +kernel) ⟨Nat.le_of_ble_eq_true rfl, Nat.le_of_ble_eq_true rfl⟩) hK hP hD hS hA (va_recv hK hP (ci := 7) (q0 := 0) rfl rfl) rfl hl.1 rfl (Nat.le_of_ble_eq_true rfl) d_MO_out_38 ⟨Nat.zero_le _, Nat.zero_le _⟩ (fun _ H locs _ hP _ hS => ?_)
      have hD : va_D A (mW q k (nI 0) wd se kd bn sh mb pr (ss_up B pt v) R sx ((pt + 1) % 512) v wt ln px) := rw_same hD rfl
      have hP : va_P D vwCl (mW q k (nI 0) wd se kd bn sh mb pr (ss_up B pt v) R sx ((pt + 1) % 512) v wt ln px) H := hP
      refine lv_aload_n hx hb d_MO_out_41 rfl (lv_at hl 0 rfl) ?_
      refine lv_iconst (v := (-1)) hx hb d_MO_out_42 (by decide +kernel) ?_
      refine va_put (D := D) (ci := 7) (v := .int (-1)) (ty := .int) (C := R_MO) (T := T_MO) (N := 16) hx hb hts in_MO t_MO o_MO n_MO hown hK hP hD hS 0 rfl rfl 13 (by decide) (hts _ w_543) (fun _ h9 => h9) rfl (by decide +kernel) rfl rfl (Nat.le_of_ble_eq_true rfl) d_MO_out_43 (fun H locs hP hD hS => ?_)
      have hP : va_P D vwCl (mW q k (nI 0) wd se kd bn sh mb pr (ss_up B pt v) R sx ((pt + 1) % 512) v (-1) ln px) H := hP
      have hD : va_D A (mW q k (nI 0) wd se kd bn sh mb pr (ss_up B pt v) R sx ((pt + 1) % 512) v (-1) ln px) := hD
      refine lv_goto (tgt := 72) hx hb d_MO_out_46 (by decide) ?_
      refine lv_iconst (v := nI 1) hx hb d_MO_out_72 (by decide +kernel) ?_
      exact rw_retz hx hb hr hlocks d_MO_out_73 (by decide +kernel) hS () (rfl) hP
  · have c1 := (bI_0).mp c1
    exfalso; omega
set_option maxHeartbeats 4000000 in
set_option maxRecDepth 100000 in
theorem c_MO_out2 (l : Launch) (D : va_G) (k : Nat → ClassId) (q : Nat → Nat) (cd : Int32) (wd : Nat → Nat) (se : Nat → Nat) (kd : Nat → Nat) (bn : Nat → Int32) (sh : Nat → Nat) (mb : Nat → Nat) (pr : Nat) (B : Nat → Nat) (R : Nat → Nat) (sx : Nat) (pt : Nat) (rd : Nat) (wt : Int32) (ln : Nat) (px : Nat → Nat) (v : Nat) (hv : v < 256) : rw_i l y_MO_out b_MO_out 3 (some .boolean) { frames := 3, cells := 0, slots := 0, locals := 61 } D (kT k) (mW q k cd wd se kd bn sh mb pr B R sx pt rd wt ln px) [.ref (q 0), .int (nI 2), .int (nI v)] (fun (r : Int32) (_ : Unit) => r = nI 1) (fun (_ : Unit) => (mW q k (nI 0) wd se kd bn sh mb v B R sx pt rd wt ln px)) := by
  refine rw_headi (by decide) (Nat.le_of_ble_eq_true rfl) ?_
  intro p e s m below meth c ls A hx hb hr hlocks hml hown hts hK hA hP hD hS hl
  have hown : s.vm.findClass "SlotScreenModel" = some m.cls := hown
  have hl : lv_has ls 3 [(0, .ref (q 0)), (1, .int (nI 2)), (2, .int (nI v))] := hl
  refine lv_aload_n hx hb d_MO_out_0 rfl (lv_at hl 0 rfl) ?_
  refine lv_iconst (v := nI 0) hx hb d_MO_out_1 (by decide +kernel) ?_
  refine va_put (D := D) (ci := 7) (v := .int (nI 0)) (ty := .int) (C := R_MO) (T := T_MO) (N := 16) hx hb hts in_MO t_MO o_MO n_MO hown hK hP hD hS 0 rfl rfl 0 (by decide) (hts _ w_530) (fun _ h9 => h9) rfl (by decide +kernel) rfl rfl (Nat.le_of_ble_eq_true rfl) d_MO_out_2 (fun H locs hP hD hS => ?_)
  have hP : va_P D vwCl (mW q k (nI 0) wd se kd bn sh mb pr B R sx pt rd wt ln px) H := hP
  have hD : va_D A (mW q k (nI 0) wd se kd bn sh mb pr B R sx pt rd wt ln px) := hD
  refine lv_iload_n hx hb d_MO_out_5 rfl (lv_at hl 2 rfl) ?_
  refine lv_iconst (v := nI 0) hx hb d_MO_out_6 (by decide +kernel) ?_
  refine lv_sipush (v := nI 255) hx hb d_MO_out_7 (by decide +kernel) ?_
  refine kr_iS (As := [.int (nI v), .int (nI 0), .int (nI 255)]) (rest := []) ⟨hx, hb, hml, hown, hts⟩ (c_MO_within l D k v 0 255 (by omega) (by omega) (by omega)) (va_cwS 3 hts (gS w_587 w_588 w_5 w_589) rfl rfl rfl (by decide +kernel) ⟨Nat.le_of_ble_eq_true rfl, Nat.le_of_ble_eq_true rfl⟩) hK va_nil rfl hl.1 rfl (Nat.le_of_ble_eq_true rfl) d_MO_out_10 ⟨Nat.zero_le _, Nat.zero_le _⟩ ?_
  refine lv_if_ne (tgt := 18) hx hb d_MO_out_13 (by decide) (fun c1 => ?_) (fun c1 => ?_)
  · have c1 := mt (bI_0).mpr c1
    have c1 := Classical.not_not.mp c1
    refine lv_iload_n hx hb d_MO_out_18 rfl (lv_at hl 1 rfl) ?_
    refine lv_if_ne (tgt := 49) hx hb d_MO_out_19 (by decide) (fun c2 => ?_) (fun c2 => ?_)
    · have c2 := mt (n_eq0 (by omega)).mpr c2
      refine lv_iload_n hx hb d_MO_out_49 rfl (lv_at hl 1 rfl) ?_
      refine lv_iconst (v := nI 1) hx hb d_MO_out_50 (by decide +kernel) ?_
      refine lv_icmp_ne (tgt := 62) hx hb d_MO_out_51 (by decide) (fun c3 => ?_) (fun c3 => ?_)
      · have c3 := mt (nI_eq (by omega) (by omega)).mpr c3
        refine lv_iload_n hx hb d_MO_out_62 rfl (lv_at hl 1 rfl) ?_
        refine lv_iconst (v := nI 2) hx hb d_MO_out_63 (by decide +kernel) ?_
        refine lv_icmp_ne (tgt := 72) hx hb d_MO_out_64 (by decide) (fun c4 => ?_) (fun c4 => ?_)
        · have c4 := mt (nI_eq (by omega) (by omega)).mpr c4
          exfalso; omega
        · have c4 := (nI_eq (by omega) (by omega)).mp c4
          refine lv_aload_n hx hb d_MO_out_67 rfl (lv_at hl 0 rfl) ?_
          refine lv_iload_n hx hb d_MO_out_68 rfl (lv_at hl 2 rfl) ?_
          refine va_put (D := D) (ci := 7) (v := .int (nI v)) (ty := .int) (C := R_MO) (T := T_MO) (N := 16) hx hb hts in_MO t_MO o_MO n_MO hown hK hP hD hS 0 rfl rfl 7 (by decide) (hts _ w_537) (fun _ h9 => h9) rfl (by decide +kernel) rfl rfl (Nat.le_of_ble_eq_true rfl) d_MO_out_69 (fun H locs hP hD hS => ?_)
          have hP : va_P D vwCl (mW q k (nI 0) wd se kd bn sh mb v B R sx pt rd wt ln px) H := hP
          have hD : va_D A (mW q k (nI 0) wd se kd bn sh mb v B R sx pt rd wt ln px) := hD
          refine lv_iconst (v := nI 1) hx hb d_MO_out_72 (by decide +kernel) ?_
          exact rw_retz hx hb hr hlocks d_MO_out_73 (by decide +kernel) hS () (rfl) hP
      · have c3 := (nI_eq (by omega) (by omega)).mp c3
        exfalso; omega
    · have c2 := (n_eq0 (by omega)).mp c2
      exfalso; omega
  · have c1 := (bI_0).mp c1
    exfalso; omega
set_option maxHeartbeats 4000000 in
set_option maxRecDepth 100000 in
theorem c_MO_out1N (l : Launch) (D : va_G) (k : Nat → ClassId) (q : Nat → Nat) (cd : Int32) (wd : Nat → Nat) (se : Nat → Nat) (kd : Nat → Nat) (bn : Nat → Int32) (sh : Nat → Nat) (mb : Nat → Nat) (pr : Nat) (B : Nat → Nat) (R : Nat → Nat) (sx : Nat) (pt : Nat) (rd : Nat) (ln : Nat) (px : Nat → Nat) (v : Nat) (hv : v < 256) : rw_i l y_MO_out b_MO_out 3 (some .boolean) { frames := 3, cells := 0, slots := 0, locals := 61 } D (kT k) (mW q k cd wd se kd bn sh mb pr B R sx pt rd (-1) ln px) [.ref (q 0), .int (nI 1), .int (nI v)] (fun (r : Int32) (_ : Unit) => r = nI 1) (fun (_ : Unit) => (mW q k (nI 0) wd se kd bn sh mb pr B R sx pt rd (nI v) ln px)) := by
  refine rw_headi (by decide) (Nat.le_of_ble_eq_true rfl) ?_
  intro p e s m below meth c ls A hx hb hr hlocks hml hown hts hK hA hP hD hS hl
  have hown : s.vm.findClass "SlotScreenModel" = some m.cls := hown
  have hl : lv_has ls 3 [(0, .ref (q 0)), (1, .int (nI 1)), (2, .int (nI v))] := hl
  refine lv_aload_n hx hb d_MO_out_0 rfl (lv_at hl 0 rfl) ?_
  refine lv_iconst (v := nI 0) hx hb d_MO_out_1 (by decide +kernel) ?_
  refine va_put (D := D) (ci := 7) (v := .int (nI 0)) (ty := .int) (C := R_MO) (T := T_MO) (N := 16) hx hb hts in_MO t_MO o_MO n_MO hown hK hP hD hS 0 rfl rfl 0 (by decide) (hts _ w_530) (fun _ h9 => h9) rfl (by decide +kernel) rfl rfl (Nat.le_of_ble_eq_true rfl) d_MO_out_2 (fun H locs hP hD hS => ?_)
  have hP : va_P D vwCl (mW q k (nI 0) wd se kd bn sh mb pr B R sx pt rd (-1) ln px) H := hP
  have hD : va_D A (mW q k (nI 0) wd se kd bn sh mb pr B R sx pt rd (-1) ln px) := hD
  refine lv_iload_n hx hb d_MO_out_5 rfl (lv_at hl 2 rfl) ?_
  refine lv_iconst (v := nI 0) hx hb d_MO_out_6 (by decide +kernel) ?_
  refine lv_sipush (v := nI 255) hx hb d_MO_out_7 (by decide +kernel) ?_
  refine kr_iS (As := [.int (nI v), .int (nI 0), .int (nI 255)]) (rest := []) ⟨hx, hb, hml, hown, hts⟩ (c_MO_within l D k v 0 255 (by omega) (by omega) (by omega)) (va_cwS 3 hts (gS w_587 w_588 w_5 w_589) rfl rfl rfl (by decide +kernel) ⟨Nat.le_of_ble_eq_true rfl, Nat.le_of_ble_eq_true rfl⟩) hK va_nil rfl hl.1 rfl (Nat.le_of_ble_eq_true rfl) d_MO_out_10 ⟨Nat.zero_le _, Nat.zero_le _⟩ ?_
  refine lv_if_ne (tgt := 18) hx hb d_MO_out_13 (by decide) (fun c1 => ?_) (fun c1 => ?_)
  · have c1 := mt (bI_0).mpr c1
    have c1 := Classical.not_not.mp c1
    refine lv_iload_n hx hb d_MO_out_18 rfl (lv_at hl 1 rfl) ?_
    refine lv_if_ne (tgt := 49) hx hb d_MO_out_19 (by decide) (fun c2 => ?_) (fun c2 => ?_)
    · have c2 := mt (n_eq0 (by omega)).mpr c2
      refine lv_iload_n hx hb d_MO_out_49 rfl (lv_at hl 1 rfl) ?_
      refine lv_iconst (v := nI 1) hx hb d_MO_out_50 (by decide +kernel) ?_
      refine lv_icmp_ne (tgt := 62) hx hb d_MO_out_51 (by decide) (fun c3 => ?_) (fun c3 => ?_)
      · have c3 := mt (nI_eq (by omega) (by omega)).mpr c3
        exfalso; omega
      · have c3 := (nI_eq (by omega) (by omega)).mp c3
        refine lv_aload_n hx hb d_MO_out_54 rfl (lv_at hl 0 rfl) ?_
        refine lv_iload_n hx hb d_MO_out_55 rfl (lv_at hl 2 rfl) ?_
        refine kw_vV (As := [.int (nI v)]) (rest := []) ⟨hx, hb, hml, hown, hts⟩ (c_MO_controlN l D k q (nI 0) wd se kd bn sh mb pr B R sx pt rd ln px v (by omega)) (cwV 1 hts (gV w_645 w_647 w_p19 w_5 w_648) rfl rfl rfl (by decide +kernel) ⟨Nat.le_of_ble_eq_true rfl, Nat.le_of_ble_eq_true rfl⟩) hK hP hD hS hA (va_recv hK hP (ci := 7) (q0 := 0) rfl rfl) rfl hl.1 rfl (Nat.le_of_ble_eq_true rfl) d_MO_out_56 ⟨Nat.zero_le _, Nat.zero_le _⟩ (fun _ H locs _ hP _ hS => ?_)
        have hD : va_D A (mW q k (nI 0) wd se kd bn sh mb pr B R sx pt rd (nI v) ln px) := rw_same hD rfl
        have hP : va_P D vwCl (mW q k (nI 0) wd se kd bn sh mb pr B R sx pt rd (nI v) ln px) H := hP
        refine lv_goto (tgt := 72) hx hb d_MO_out_59 (by decide) ?_
        refine lv_iconst (v := nI 1) hx hb d_MO_out_72 (by decide +kernel) ?_
        exact rw_retz hx hb hr hlocks d_MO_out_73 (by decide +kernel) hS () (rfl) hP
    · have c2 := (n_eq0 (by omega)).mp c2
      exfalso; omega
  · have c1 := (bI_0).mp c1
    exfalso; omega
set_option maxHeartbeats 4000000 in
set_option maxRecDepth 100000 in
theorem c_MO_out1R (l : Launch) (D : va_G) (k : Nat → ClassId) (q : Nat → Nat) (cd : Int32) (wd : Nat → Nat) (se : Nat → Nat) (kd : Nat → Nat) (bn : Nat → Int32) (sh : Nat → Nat) (mb : Nat → Nat) (pr : Nat) (B : Nat → Nat) (R : Nat → Nat) (sx : Nat) (pt : Nat) (rd : Nat) (ln : Nat) (px : Nat → Nat) (a v : Nat) (ha : a < 256) (hv : v < 256) (h1 : 127 < v) : rw_i l y_MO_out b_MO_out 3 (some .boolean) { frames := 3, cells := 0, slots := 0, locals := 61 } D (kT k) (mW q k cd wd se kd bn sh mb pr B R sx pt rd (nI a) ln px) [.ref (q 0), .int (nI 1), .int (nI v)] (fun (r : Int32) (_ : Unit) => r = nI 1) (fun (_ : Unit) => (mW q k (nI 0) wd se kd bn sh mb pr B (ss_up R (v % 8) a) sx pt rd (-1) ln px)) := by
  refine rw_headi (by decide) (Nat.le_of_ble_eq_true rfl) ?_
  intro p e s m below meth c ls A hx hb hr hlocks hml hown hts hK hA hP hD hS hl
  have hown : s.vm.findClass "SlotScreenModel" = some m.cls := hown
  have hl : lv_has ls 3 [(0, .ref (q 0)), (1, .int (nI 1)), (2, .int (nI v))] := hl
  refine lv_aload_n hx hb d_MO_out_0 rfl (lv_at hl 0 rfl) ?_
  refine lv_iconst (v := nI 0) hx hb d_MO_out_1 (by decide +kernel) ?_
  refine va_put (D := D) (ci := 7) (v := .int (nI 0)) (ty := .int) (C := R_MO) (T := T_MO) (N := 16) hx hb hts in_MO t_MO o_MO n_MO hown hK hP hD hS 0 rfl rfl 0 (by decide) (hts _ w_530) (fun _ h9 => h9) rfl (by decide +kernel) rfl rfl (Nat.le_of_ble_eq_true rfl) d_MO_out_2 (fun H locs hP hD hS => ?_)
  have hP : va_P D vwCl (mW q k (nI 0) wd se kd bn sh mb pr B R sx pt rd (nI a) ln px) H := hP
  have hD : va_D A (mW q k (nI 0) wd se kd bn sh mb pr B R sx pt rd (nI a) ln px) := hD
  refine lv_iload_n hx hb d_MO_out_5 rfl (lv_at hl 2 rfl) ?_
  refine lv_iconst (v := nI 0) hx hb d_MO_out_6 (by decide +kernel) ?_
  refine lv_sipush (v := nI 255) hx hb d_MO_out_7 (by decide +kernel) ?_
  refine kr_iS (As := [.int (nI v), .int (nI 0), .int (nI 255)]) (rest := []) ⟨hx, hb, hml, hown, hts⟩ (c_MO_within l D k v 0 255 (by omega) (by omega) (by omega)) (va_cwS 3 hts (gS w_587 w_588 w_5 w_589) rfl rfl rfl (by decide +kernel) ⟨Nat.le_of_ble_eq_true rfl, Nat.le_of_ble_eq_true rfl⟩) hK va_nil rfl hl.1 rfl (Nat.le_of_ble_eq_true rfl) d_MO_out_10 ⟨Nat.zero_le _, Nat.zero_le _⟩ ?_
  refine lv_if_ne (tgt := 18) hx hb d_MO_out_13 (by decide) (fun c1 => ?_) (fun c1 => ?_)
  · have c1 := mt (bI_0).mpr c1
    have c1 := Classical.not_not.mp c1
    refine lv_iload_n hx hb d_MO_out_18 rfl (lv_at hl 1 rfl) ?_
    refine lv_if_ne (tgt := 49) hx hb d_MO_out_19 (by decide) (fun c2 => ?_) (fun c2 => ?_)
    · have c2 := mt (n_eq0 (by omega)).mpr c2
      refine lv_iload_n hx hb d_MO_out_49 rfl (lv_at hl 1 rfl) ?_
      refine lv_iconst (v := nI 1) hx hb d_MO_out_50 (by decide +kernel) ?_
      refine lv_icmp_ne (tgt := 62) hx hb d_MO_out_51 (by decide) (fun c3 => ?_) (fun c3 => ?_)
      · have c3 := mt (nI_eq (by omega) (by omega)).mpr c3
        exfalso; omega
      · have c3 := (nI_eq (by omega) (by omega)).mp c3
        refine lv_aload_n hx hb d_MO_out_54 rfl (lv_at hl 0 rfl) ?_
        refine lv_iload_n hx hb d_MO_out_55 rfl (lv_at hl 2 rfl) ?_
        refine kw_vV (As := [.int (nI v)]) (rest := []) ⟨hx, hb, hml, hown, hts⟩ (c_MO_controlR l D k q (nI 0) wd se kd bn sh mb pr B R sx pt rd ln px a v (by omega) (by omega) (by omega)) (cwV 1 hts (gV w_645 w_647 w_p19 w_5 w_648) rfl rfl rfl (by decide +kernel) ⟨Nat.le_of_ble_eq_true rfl, Nat.le_of_ble_eq_true rfl⟩) hK hP hD hS hA (va_recv hK hP (ci := 7) (q0 := 0) rfl rfl) rfl hl.1 rfl (Nat.le_of_ble_eq_true rfl) d_MO_out_56 ⟨Nat.zero_le _, Nat.zero_le _⟩ (fun _ H locs _ hP _ hS => ?_)
        have hD : va_D A (mW q k (nI 0) wd se kd bn sh mb pr B (ss_up R (v % 8) a) sx pt rd (-1) ln px) := rw_same hD rfl
        have hP : va_P D vwCl (mW q k (nI 0) wd se kd bn sh mb pr B (ss_up R (v % 8) a) sx pt rd (-1) ln px) H := hP
        refine lv_goto (tgt := 72) hx hb d_MO_out_59 (by decide) ?_
        refine lv_iconst (v := nI 1) hx hb d_MO_out_72 (by decide +kernel) ?_
        exact rw_retz hx hb hr hlocks d_MO_out_73 (by decide +kernel) hS () (rfl) hP
    · have c2 := (n_eq0 (by omega)).mp c2
      exfalso; omega
  · have c1 := (bI_0).mp c1
    exfalso; omega
set_option maxHeartbeats 4000000 in
set_option maxRecDepth 100000 in
theorem c_MO_out1P (l : Launch) (D : va_G) (k : Nat → ClassId) (q : Nat → Nat) (cd : Int32) (wd : Nat → Nat) (se : Nat → Nat) (kd : Nat → Nat) (bn : Nat → Int32) (sh : Nat → Nat) (mb : Nat → Nat) (pr : Nat) (B : Nat → Nat) (R : Nat → Nat) (sx : Nat) (pt : Nat) (rd : Nat) (ln : Nat) (px : Nat → Nat) (a v : Nat) (ha : a < 256) (hv : v < 256) (h1 : v ≤ 127) (h2 : 64 ≤ v) : rw_i l y_MO_out b_MO_out 3 (some .boolean) { frames := 3, cells := 0, slots := 0, locals := 61 } D (kT k) (mW q k cd wd se kd bn sh mb pr B R sx pt rd (nI a) ln px) [.ref (q 0), .int (nI 1), .int (nI v)] (fun (r : Int32) (_ : Unit) => r = nI 1) (fun (_ : Unit) => (mW q k (nI 0) wd se kd bn sh mb pr B R sx (a + 256 * (v % 2)) rd (-1) ln px)) := by
  refine rw_headi (by decide) (Nat.le_of_ble_eq_true rfl) ?_
  intro p e s m below meth c ls A hx hb hr hlocks hml hown hts hK hA hP hD hS hl
  have hown : s.vm.findClass "SlotScreenModel" = some m.cls := hown
  have hl : lv_has ls 3 [(0, .ref (q 0)), (1, .int (nI 1)), (2, .int (nI v))] := hl
  refine lv_aload_n hx hb d_MO_out_0 rfl (lv_at hl 0 rfl) ?_
  refine lv_iconst (v := nI 0) hx hb d_MO_out_1 (by decide +kernel) ?_
  refine va_put (D := D) (ci := 7) (v := .int (nI 0)) (ty := .int) (C := R_MO) (T := T_MO) (N := 16) hx hb hts in_MO t_MO o_MO n_MO hown hK hP hD hS 0 rfl rfl 0 (by decide) (hts _ w_530) (fun _ h9 => h9) rfl (by decide +kernel) rfl rfl (Nat.le_of_ble_eq_true rfl) d_MO_out_2 (fun H locs hP hD hS => ?_)
  have hP : va_P D vwCl (mW q k (nI 0) wd se kd bn sh mb pr B R sx pt rd (nI a) ln px) H := hP
  have hD : va_D A (mW q k (nI 0) wd se kd bn sh mb pr B R sx pt rd (nI a) ln px) := hD
  refine lv_iload_n hx hb d_MO_out_5 rfl (lv_at hl 2 rfl) ?_
  refine lv_iconst (v := nI 0) hx hb d_MO_out_6 (by decide +kernel) ?_
  refine lv_sipush (v := nI 255) hx hb d_MO_out_7 (by decide +kernel) ?_
  refine kr_iS (As := [.int (nI v), .int (nI 0), .int (nI 255)]) (rest := []) ⟨hx, hb, hml, hown, hts⟩ (c_MO_within l D k v 0 255 (by omega) (by omega) (by omega)) (va_cwS 3 hts (gS w_587 w_588 w_5 w_589) rfl rfl rfl (by decide +kernel) ⟨Nat.le_of_ble_eq_true rfl, Nat.le_of_ble_eq_true rfl⟩) hK va_nil rfl hl.1 rfl (Nat.le_of_ble_eq_true rfl) d_MO_out_10 ⟨Nat.zero_le _, Nat.zero_le _⟩ ?_
  refine lv_if_ne (tgt := 18) hx hb d_MO_out_13 (by decide) (fun c1 => ?_) (fun c1 => ?_)
  · have c1 := mt (bI_0).mpr c1
    have c1 := Classical.not_not.mp c1
    refine lv_iload_n hx hb d_MO_out_18 rfl (lv_at hl 1 rfl) ?_
    refine lv_if_ne (tgt := 49) hx hb d_MO_out_19 (by decide) (fun c2 => ?_) (fun c2 => ?_)
    · have c2 := mt (n_eq0 (by omega)).mpr c2
      refine lv_iload_n hx hb d_MO_out_49 rfl (lv_at hl 1 rfl) ?_
      refine lv_iconst (v := nI 1) hx hb d_MO_out_50 (by decide +kernel) ?_
      refine lv_icmp_ne (tgt := 62) hx hb d_MO_out_51 (by decide) (fun c3 => ?_) (fun c3 => ?_)
      · have c3 := mt (nI_eq (by omega) (by omega)).mpr c3
        exfalso; omega
      · have c3 := (nI_eq (by omega) (by omega)).mp c3
        refine lv_aload_n hx hb d_MO_out_54 rfl (lv_at hl 0 rfl) ?_
        refine lv_iload_n hx hb d_MO_out_55 rfl (lv_at hl 2 rfl) ?_
        refine kw_vV (As := [.int (nI v)]) (rest := []) ⟨hx, hb, hml, hown, hts⟩ (c_MO_controlP l D k q (nI 0) wd se kd bn sh mb pr B R sx pt rd ln px a v (by omega) (by omega) (by omega) (by omega)) (cwV 1 hts (gV w_645 w_647 w_p19 w_5 w_648) rfl rfl rfl (by decide +kernel) ⟨Nat.le_of_ble_eq_true rfl, Nat.le_of_ble_eq_true rfl⟩) hK hP hD hS hA (va_recv hK hP (ci := 7) (q0 := 0) rfl rfl) rfl hl.1 rfl (Nat.le_of_ble_eq_true rfl) d_MO_out_56 ⟨Nat.zero_le _, Nat.zero_le _⟩ (fun _ H locs _ hP _ hS => ?_)
        have hD : va_D A (mW q k (nI 0) wd se kd bn sh mb pr B R sx (a + 256 * (v % 2)) rd (-1) ln px) := rw_same hD rfl
        have hP : va_P D vwCl (mW q k (nI 0) wd se kd bn sh mb pr B R sx (a + 256 * (v % 2)) rd (-1) ln px) H := hP
        refine lv_goto (tgt := 72) hx hb d_MO_out_59 (by decide) ?_
        refine lv_iconst (v := nI 1) hx hb d_MO_out_72 (by decide +kernel) ?_
        exact rw_retz hx hb hr hlocks d_MO_out_73 (by decide +kernel) hS () (rfl) hP
    · have c2 := (n_eq0 (by omega)).mp c2
      exfalso; omega
  · have c1 := (bI_0).mp c1
    exfalso; omega
set_option maxHeartbeats 4000000 in
set_option maxRecDepth 100000 in
theorem c_MO_out1F (l : Launch) (D : va_G) (k : Nat → ClassId) (q : Nat → Nat) (cd : Int32) (wd : Nat → Nat) (se : Nat → Nat) (kd : Nat → Nat) (bn : Nat → Int32) (sh : Nat → Nat) (mb : Nat → Nat) (pr : Nat) (B : Nat → Nat) (R : Nat → Nat) (sx : Nat) (pt : Nat) (rd : Nat) (ln : Nat) (px : Nat → Nat) (a v : Nat) (ha : a < 256) (hv : v < 256) (h2 : v < 64) : rw_i l y_MO_out b_MO_out 3 (some .boolean) { frames := 3, cells := 0, slots := 0, locals := 61 } D (kT k) (mW q k cd wd se kd bn sh mb pr B R sx pt rd (nI a) ln px) [.ref (q 0), .int (nI 1), .int (nI v)] (fun (r : Int32) (_ : Unit) => r = nI 1) (fun (_ : Unit) => (mW q k (nI 0) wd se kd bn sh mb pr B R sx ((a + 256 * (v % 2) + 1) % 512) (B (a + 256 * (v % 2))) (-1) ln px)) := by
  refine rw_headi (by decide) (Nat.le_of_ble_eq_true rfl) ?_
  intro p e s m below meth c ls A hx hb hr hlocks hml hown hts hK hA hP hD hS hl
  have hown : s.vm.findClass "SlotScreenModel" = some m.cls := hown
  have hl : lv_has ls 3 [(0, .ref (q 0)), (1, .int (nI 1)), (2, .int (nI v))] := hl
  refine lv_aload_n hx hb d_MO_out_0 rfl (lv_at hl 0 rfl) ?_
  refine lv_iconst (v := nI 0) hx hb d_MO_out_1 (by decide +kernel) ?_
  refine va_put (D := D) (ci := 7) (v := .int (nI 0)) (ty := .int) (C := R_MO) (T := T_MO) (N := 16) hx hb hts in_MO t_MO o_MO n_MO hown hK hP hD hS 0 rfl rfl 0 (by decide) (hts _ w_530) (fun _ h9 => h9) rfl (by decide +kernel) rfl rfl (Nat.le_of_ble_eq_true rfl) d_MO_out_2 (fun H locs hP hD hS => ?_)
  have hP : va_P D vwCl (mW q k (nI 0) wd se kd bn sh mb pr B R sx pt rd (nI a) ln px) H := hP
  have hD : va_D A (mW q k (nI 0) wd se kd bn sh mb pr B R sx pt rd (nI a) ln px) := hD
  refine lv_iload_n hx hb d_MO_out_5 rfl (lv_at hl 2 rfl) ?_
  refine lv_iconst (v := nI 0) hx hb d_MO_out_6 (by decide +kernel) ?_
  refine lv_sipush (v := nI 255) hx hb d_MO_out_7 (by decide +kernel) ?_
  refine kr_iS (As := [.int (nI v), .int (nI 0), .int (nI 255)]) (rest := []) ⟨hx, hb, hml, hown, hts⟩ (c_MO_within l D k v 0 255 (by omega) (by omega) (by omega)) (va_cwS 3 hts (gS w_587 w_588 w_5 w_589) rfl rfl rfl (by decide +kernel) ⟨Nat.le_of_ble_eq_true rfl, Nat.le_of_ble_eq_true rfl⟩) hK va_nil rfl hl.1 rfl (Nat.le_of_ble_eq_true rfl) d_MO_out_10 ⟨Nat.zero_le _, Nat.zero_le _⟩ ?_
  refine lv_if_ne (tgt := 18) hx hb d_MO_out_13 (by decide) (fun c1 => ?_) (fun c1 => ?_)
  · have c1 := mt (bI_0).mpr c1
    have c1 := Classical.not_not.mp c1
    refine lv_iload_n hx hb d_MO_out_18 rfl (lv_at hl 1 rfl) ?_
    refine lv_if_ne (tgt := 49) hx hb d_MO_out_19 (by decide) (fun c2 => ?_) (fun c2 => ?_)
    · have c2 := mt (n_eq0 (by omega)).mpr c2
      refine lv_iload_n hx hb d_MO_out_49 rfl (lv_at hl 1 rfl) ?_
      refine lv_iconst (v := nI 1) hx hb d_MO_out_50 (by decide +kernel) ?_
      refine lv_icmp_ne (tgt := 62) hx hb d_MO_out_51 (by decide) (fun c3 => ?_) (fun c3 => ?_)
      · have c3 := mt (nI_eq (by omega) (by omega)).mpr c3
        exfalso; omega
      · have c3 := (nI_eq (by omega) (by omega)).mp c3
        refine lv_aload_n hx hb d_MO_out_54 rfl (lv_at hl 0 rfl) ?_
        refine lv_iload_n hx hb d_MO_out_55 rfl (lv_at hl 2 rfl) ?_
        refine kw_vV (As := [.int (nI v)]) (rest := []) ⟨hx, hb, hml, hown, hts⟩ (c_MO_controlF l D k q (nI 0) wd se kd bn sh mb pr B R sx pt rd ln px a v (by omega) (by omega) (by omega)) (cwV 1 hts (gV w_645 w_647 w_p19 w_5 w_648) rfl rfl rfl (by decide +kernel) ⟨Nat.le_of_ble_eq_true rfl, Nat.le_of_ble_eq_true rfl⟩) hK hP hD hS hA (va_recv hK hP (ci := 7) (q0 := 0) rfl rfl) rfl hl.1 rfl (Nat.le_of_ble_eq_true rfl) d_MO_out_56 ⟨Nat.zero_le _, Nat.zero_le _⟩ (fun _ H locs _ hP _ hS => ?_)
        have hD : va_D A (mW q k (nI 0) wd se kd bn sh mb pr B R sx ((a + 256 * (v % 2) + 1) % 512) (B (a + 256 * (v % 2))) (-1) ln px) := rw_same hD rfl
        have hP : va_P D vwCl (mW q k (nI 0) wd se kd bn sh mb pr B R sx ((a + 256 * (v % 2) + 1) % 512) (B (a + 256 * (v % 2))) (-1) ln px) H := hP
        refine lv_goto (tgt := 72) hx hb d_MO_out_59 (by decide) ?_
        refine lv_iconst (v := nI 1) hx hb d_MO_out_72 (by decide +kernel) ?_
        exact rw_retz hx hb hr hlocks d_MO_out_73 (by decide +kernel) hS () (rfl) hP
    · have c2 := (n_eq0 (by omega)).mp c2
      exfalso; omega
  · have c1 := (bI_0).mp c1
    exfalso; omega
set_option maxHeartbeats 4000000 in
set_option maxRecDepth 100000 in
theorem c_MO_bits (l : Launch) (D : va_G) (k : Nat → ClassId) (n g : Nat) (hn : n < 256) (hg : g < 4) : ro_i l y_MO_bits b_MO_bits 4 (some .int) { frames := 0, cells := 0, slots := 0, locals := 0 } D (kT k) [] [.int (nI n), .int (nI g)] (nI (n / 4 ^ g % 4)) := by
  refine ro_headi (by decide) (Nat.le_of_ble_eq_true rfl) ?_
  intro p e s m below meth c ls hx hb hr hlocks hml hown hts hP hK hl
  have hown : s.vm.findClass "SlotScreenModel" = some m.cls := hown
  have hl : lv_has ls 4 [(0, .int (nI n)), (1, .int (nI g))] := hl
  refine lv_iload_n hx hb d_MO_bits_0 rfl (lv_at hl 0 rfl) ?_
  refine lv_istore_n (lv' := [(2, .int (nI n)), (0, .int (nI n)), (1, .int (nI g))]) hx hb d_MO_bits_1 rfl hl (by decide) rfl (fun ls hl => ?_)
  refine lv_iconst (v := nI 0) hx hb d_MO_bits_2 (by decide +kernel) ?_
  refine lv_istore_n (lv' := [(3, .int (nI 0)), (2, .int (nI n)), (0, .int (nI n)), (1, .int (nI g))]) hx hb d_MO_bits_3 rfl hl (by decide) rfl (fun ls hl => ?_)
  have loop : ∀ (j9 i : Nat), i + j9 = g → ∀ (ls : Array Slot), lv_has ls 4 [(3, .int (nI i)), (2, .int (nI (n / 4 ^ i))), (0, .int (nI n)), (1, .int (nI g))] → W p l e (headSpec (wsG y_MO_bits b_MO_bits 4 (some .int)) { frames := 0, cells := 0, slots := 0, locals := 0 }).room s m ([.int (nI n), .int (nI g)] : List Value).toArray below meth c s.heap [] 0 0 (MQ below (vp_Si (fun x => x = nI (n / 4 ^ g % 4))) ([.int (nI n), .int (nI g)] : List Value).toArray s 0 0 (fun _ => False)) (F0 m 4 ls []) := by
    intro j9
    induction j9 with
    | zero =>
      intro i h9 ls hl
      obtain rfl : i = g := by omega
      have z1 := mpw_le n i
      refine lv_iload_n hx hb d_MO_bits_4 rfl (lv_at hl 0 rfl) ?_
      refine lv_iload_n hx hb d_MO_bits_5 rfl (lv_at hl 3 rfl) ?_
      refine lv_icmp_ge (tgt := 19) hx hb d_MO_bits_6 (by decide) (fun c1 => ?_) (fun c1 => ?_)
      · have c1 := (nI_leI (by omega) (by omega)).mp c1
        refine lv_iload_n hx hb d_MO_bits_19 rfl (lv_at hl 1 rfl) ?_
        refine lv_iconst (v := nI 4) hx hb d_MO_bits_20 (by decide +kernel) ?_
        refine lv_irem hx hb d_MO_bits_21 (by first | decide +kernel | exact nI_ne0 (by omega) (by omega)) ?_
        refine ss_rt (y := nI ((n / 4 ^ i) % 4)) (pk_rem (by omega) (by omega) (by omega)) ?_
        exact ro_reti hx hb hr hlocks d_MO_bits_22 (rfl)
      · have c1 := mt (nI_leI (by omega) (by omega)).mpr c1
        exact absurd c1 (by omega)
    | succ j9 ih =>
      intro i h9 ls hl
      have z1 := mpw_le n i
      refine lv_iload_n hx hb d_MO_bits_4 rfl (lv_at hl 0 rfl) ?_
      refine lv_iload_n hx hb d_MO_bits_5 rfl (lv_at hl 3 rfl) ?_
      refine lv_icmp_ge (tgt := 19) hx hb d_MO_bits_6 (by decide) (fun c2 => ?_) (fun c2 => ?_)
      · have c2 := (nI_leI (by omega) (by omega)).mp c2
        exact absurd c2 (by omega)
      · have c2 := mt (nI_leI (by omega) (by omega)).mpr c2
        refine lv_iload_n hx hb d_MO_bits_9 rfl (lv_at hl 1 rfl) ?_
        refine lv_iconst (v := nI 4) hx hb d_MO_bits_10 (by decide +kernel) ?_
        refine lv_idiv hx hb d_MO_bits_11 (by first | decide +kernel | exact nI_ne0 (by omega) (by omega)) ?_
        refine ss_rt (y := nI ((n / 4 ^ i) / 4)) (pk_div (by omega) (by omega) (by omega)) ?_
        refine lv_istore_n (lv' := [(2, .int (nI ((n / 4 ^ i) / 4))), (3, .int (nI i)), (0, .int (nI n)), (1, .int (nI g))]) hx hb d_MO_bits_12 rfl hl (by decide) rfl (fun ls hl => ?_)
        refine lv_iinc (v := nI (i + 1)) (lv' := [(3, .int (nI (i + 1))), (2, .int (nI ((n / 4 ^ i) / 4))), (0, .int (nI n)), (1, .int (nI g))]) hx hb d_MO_bits_13 hl (k := 1) rfl (nI_1 _) (by decide) rfl (fun ls hl => ?_)
        refine lv_goto (tgt := 4) hx hb d_MO_bits_16 (by decide) ?_
        rw [mpw_s] at hl
        exact ih (i + 1) (by omega) ls (lv_sub hl [0, 1, 2, 3] rfl)
  have hl : lv_has ls 4 [(3, .int (nI 0)), (2, .int (nI (n / 4 ^ 0))), (0, .int (nI n)), (1, .int (nI g))] := by rw [Nat.pow_zero, Nat.div_one]; exact hl
  exact loop (g - 0) 0 (by omega) ls (lv_sub hl [0, 1, 2, 3] rfl)
set_option maxHeartbeats 4000000 in
set_option maxRecDepth 100000 in
theorem c_MO_slotOf (l : Launch) (D : va_G) (k : Nat → ClassId) (q : Nat → Nat) (cd : Int32) (wd : Nat → Nat) (se : Nat → Nat) (kd : Nat → Nat) (bn : Nat → Int32) (sh : Nat → Nat) (mb : Nat → Nat) (pr : Nat) (B : Nat → Nat) (R : Nat → Nat) (sx : Nat) (pt : Nat) (rd : Nat) (wt : Int32) (ln : Nat) (px : Nat → Nat) (hpr : pr < 256) (a : Nat) (ha : a < 256) : ro_i l y_MO_slotOf b_MO_slotOf 2 (some .int) { frames := 1, cells := 0, slots := 0, locals := 23 } D (kT k) (mW q k cd wd se kd bn sh mb pr B R sx pt rd wt ln px) [.ref (q 0), .int (nI a)] (nI (msl pr a)) := by
  refine ro_headi (by decide) (Nat.le_of_ble_eq_true rfl) ?_
  intro p e s m below meth c ls hx hb hr hlocks hml hown hts hP hK hl
  have hown : s.vm.findClass "SlotScreenModel" = some m.cls := hown
  have hl : lv_has ls 2 [(0, .ref (q 0)), (1, .int (nI a))] := hl
  refine lv_aload_n hx hb d_MO_slotOf_0 rfl (lv_at hl 0 rfl) ?_
  refine va_get (D := D) (ci := 7) (v := .int (nI pr)) (C := R_MO) (T := T_MO) (N := 16) hx hb hts in_MO hown hK hP 0 rfl rfl 7 (by decide) (hts _ w_537) (fun _ h9 => h9) rfl d_MO_slotOf_1 ?_
  refine lv_iload_n hx hb d_MO_slotOf_4 rfl (lv_at hl 1 rfl) ?_
  refine lv_bipush (v := nI 64) hx hb d_MO_slotOf_5 (by decide +kernel) ?_
  refine lv_idiv hx hb d_MO_slotOf_7 (by first | decide +kernel | exact nI_ne0 (by omega) (by omega)) ?_
  refine ss_rt (y := nI (a / 64)) (pk_div (by omega) (by omega) (by omega)) ?_
  refine kr_iS (As := [.int (nI pr), .int (nI (a / 64))]) (rest := []) ⟨hx, hb, hml, hown, hts⟩ (c_MO_bits l D k pr (a / 64) (by omega) (by omega)) (va_cwS 2 hts (gS w_606 w_607 w_5 w_608) rfl rfl rfl (by decide +kernel) ⟨Nat.le_of_ble_eq_true rfl, Nat.le_of_ble_eq_true rfl⟩) hK va_nil rfl hl.1 rfl (Nat.le_of_ble_eq_true rfl) d_MO_slotOf_8 ⟨Nat.zero_le _, Nat.zero_le _⟩ ?_
  exact ro_reti hx hb hr hlocks d_MO_slotOf_11 (rfl)
set_option maxHeartbeats 4000000 in
set_option maxRecDepth 100000 in
theorem c_MO_deviceAt (l : Launch) (D : va_G) (k : Nat → ClassId) (q : Nat → Nat) (cd : Int32) (wd : Nat → Nat) (se : Nat → Nat) (kd : Nat → Nat) (bn : Nat → Int32) (sh : Nat → Nat) (mb : Nat → Nat) (pr : Nat) (B : Nat → Nat) (R : Nat → Nat) (sx : Nat) (pt : Nat) (rd : Nat) (wt : Int32) (ln : Nat) (px : Nat → Nat) (hwd : ∀ j, wd j < 2) (hse : ∀ j, se j < 256) (hpr : pr < 256) (a : Nat) (ha : a < 256) : ro_i l y_MO_deviceAt b_MO_deviceAt 3 (some .int) { frames := 2, cells := 0, slots := 0, locals := 44 } D (kT k) (mW q k cd wd se kd bn sh mb pr B R sx pt rd wt ln px) [.ref (q 0), .int (nI a)] (nI (4 * msl pr a + mpg wd se (msl pr a) a)) := by
  refine ro_headi (by decide) (Nat.le_of_ble_eq_true rfl) ?_
  intro p e s m below meth c ls hx hb hr hlocks hml hown hts hP hK hl
  have hown : s.vm.findClass "SlotScreenModel" = some m.cls := hown
  have hl : lv_has ls 3 [(0, .ref (q 0)), (1, .int (nI a))] := hl
  refine lv_aload_n hx hb d_MO_deviceAt_0 rfl (lv_at hl 0 rfl) ?_
  refine lv_iload_n hx hb d_MO_deviceAt_1 rfl (lv_at hl 1 rfl) ?_
  have g1 := msl_lt pr a
  refine kr_iV (As := [.int (nI a)]) (rest := []) ⟨hx, hb, hml, hown, hts⟩ (c_MO_slotOf l D k q cd wd se kd bn sh mb pr B R sx pt rd wt ln px (by omega) a (by omega)) (cwV 1 hts (gV w_602 w_604 w_p13 w_5 w_605) rfl rfl rfl (by decide +kernel) ⟨Nat.le_of_ble_eq_true rfl, Nat.le_of_ble_eq_true rfl⟩) hK hP (va_recv hK hP (ci := 7) (q0 := 0) rfl rfl) rfl hl.1 rfl (Nat.le_of_ble_eq_true rfl) d_MO_deviceAt_2 ⟨Nat.zero_le _, Nat.zero_le _⟩ ?_
  refine lv_istore_n (lv' := [(2, .int (nI (msl pr a))), (0, .ref (q 0)), (1, .int (nI a))]) hx hb d_MO_deviceAt_5 rfl hl (by decide) rfl (fun ls hl => ?_)
  refine lv_iconst (v := nI 4) hx hb d_MO_deviceAt_6 (by decide +kernel) ?_
  refine lv_iload_n hx hb d_MO_deviceAt_7 rfl (lv_at hl 0 rfl) ?_
  refine lv_imul hx hb d_MO_deviceAt_8 ?_
  refine ss_rt (y := nI (4 * (msl pr a))) (pk_mul _ _) ?_
  refine lv_aload_n hx hb d_MO_deviceAt_9 rfl (lv_at hl 1 rfl) ?_
  refine va_get (D := D) (ci := 7) (v := .ref (q 1)) (C := R_MO) (T := T_MO) (N := 16) hx hb hts in_MO hown hK hP 0 rfl rfl 1 (by decide) (hts _ w_531) (fun _ h9 => h9) rfl d_MO_deviceAt_10 ?_
  refine lv_iload_n hx hb d_MO_deviceAt_13 rfl (lv_at hl 0 rfl) ?_
  refine va_zald hx hb hK hP 1 1 rfl rfl (vp_in_nI (by omega) (by omega)) d_MO_deviceAt_14 ?_
  refine ss_rt (y := nI (wd (msl pr a))) (congrArg (fun z => nI (wd z)) (nI_clamp (by omega))) ?_
  have g2 := hwd (msl pr a)
  refine lv_if_eq (tgt := 34) hx hb d_MO_deviceAt_15 (by decide) (fun c3 => ?_) (fun c3 => ?_)
  · have c3 := (n_eq0 (by omega)).mp c3
    refine lv_iconst (v := nI 0) hx hb d_MO_deviceAt_34 (by decide +kernel) ?_
    refine lv_iadd hx hb d_MO_deviceAt_35 ?_
    refine ss_rt (y := nI (4 * (msl pr a) + 0)) (nI_add _ _) ?_
    exact ro_reti hx hb hr hlocks d_MO_deviceAt_36 (by unfold mpg; first | rw [if_pos (by omega)] | rw [if_neg (by omega)])
  · have c3 := mt (n_eq0 (by omega)).mpr c3
    refine lv_aload_n hx hb d_MO_deviceAt_18 rfl (lv_at hl 1 rfl) ?_
    refine va_get (D := D) (ci := 7) (v := .ref (q 2)) (C := R_MO) (T := T_MO) (N := 16) hx hb hts in_MO hown hK hP 0 rfl rfl 2 (by decide) (hts _ w_532) (fun _ h9 => h9) rfl d_MO_deviceAt_19 ?_
    refine lv_iload_n hx hb d_MO_deviceAt_22 rfl (lv_at hl 0 rfl) ?_
    refine va_iald hx hb hK hP 2 0 rfl rfl (vp_in_nI (by omega) (by omega)) d_MO_deviceAt_23 ?_
    refine ss_rt (y := nI (se (msl pr a))) (congrArg (fun z => nI (se z)) (nI_clamp (by omega))) ?_
    have g4 := hse (msl pr a)
    refine lv_iload_n hx hb d_MO_deviceAt_24 rfl (lv_at hl 2 rfl) ?_
    refine lv_bipush (v := nI 64) hx hb d_MO_deviceAt_25 (by decide +kernel) ?_
    refine lv_idiv hx hb d_MO_deviceAt_27 (by first | decide +kernel | exact nI_ne0 (by omega) (by omega)) ?_
    refine ss_rt (y := nI (a / 64)) (pk_div (by omega) (by omega) (by omega)) ?_
    refine kr_iS (As := [.int (nI (se (msl pr a))), .int (nI (a / 64))]) (rest := [.int (nI (4 * (msl pr a)))]) ⟨hx, hb, hml, hown, hts⟩ (c_MO_bits l D k (se (msl pr a)) (a / 64) (by omega) (by omega)) (va_cwS 2 hts (gS w_606 w_607 w_5 w_608) rfl rfl rfl (by decide +kernel) ⟨Nat.le_of_ble_eq_true rfl, Nat.le_of_ble_eq_true rfl⟩) hK va_nil rfl hl.1 rfl (Nat.le_of_ble_eq_true rfl) d_MO_deviceAt_28 ⟨Nat.zero_le _, Nat.zero_le _⟩ ?_
    refine lv_goto (tgt := 35) hx hb d_MO_deviceAt_31 (by decide) ?_
    refine lv_iadd hx hb d_MO_deviceAt_35 ?_
    refine ss_rt (y := nI (4 * (msl pr a) + ((se (msl pr a)) / 4 ^ (a / 64) % 4))) (nI_add _ _) ?_
    exact ro_reti hx hb hr hlocks d_MO_deviceAt_36 (by unfold mpg; first | rw [if_pos (by omega)] | rw [if_neg (by omega)])
set_option maxHeartbeats 4000000 in
set_option maxRecDepth 100000 in
theorem c_MO_placeOf12 (l : Launch) (D : va_G) (k : Nat → ClassId) (q : Nat → Nat) (cd : Int32) (wd : Nat → Nat) (se : Nat → Nat) (kd : Nat → Nat) (bn : Nat → Int32) (sh : Nat → Nat) (mb : Nat → Nat) (pr : Nat) (B : Nat → Nat) (R : Nat → Nat) (sx : Nat) (pt : Nat) (rd : Nat) (wt : Int32) (ln : Nat) (px : Nat → Nat) (hkd : ∀ j, kd j < 5) (hsh : ∀ j, sh j < 8) (hmb : ∀ j, mb j < 256) (d a : Nat) (hd9 : d < 16) (ha : a < 256) (hk : kd d = 1 ∨ kd d = 2) : ro_i l y_MO_placeOf b_MO_placeOf 3 (some .int) { frames := 1, cells := 0, slots := 0, locals := 22 } D (kT k) (mW q k cd wd se kd bn sh mb pr B R sx pt rd wt ln px) [.ref (q 0), .int (nI d), .int (nI a)] (nI (256 * d + a)) := by
  refine ro_headi (by decide) (Nat.le_of_ble_eq_true rfl) ?_
  intro p e s m below meth c ls hx hb hr hlocks hml hown hts hP hK hl
  have hown : s.vm.findClass "SlotScreenModel" = some m.cls := hown
  have hl : lv_has ls 3 [(0, .ref (q 0)), (1, .int (nI d)), (2, .int (nI a))] := hl
  refine lv_aload_n hx hb d_MO_placeOf_0 rfl (lv_at hl 0 rfl) ?_
  refine va_get (D := D) (ci := 7) (v := .ref (q 3)) (C := R_MO) (T := T_MO) (N := 16) hx hb hts in_MO hown hK hP 0 rfl rfl 3 (by decide) (hts _ w_533) (fun _ h9 => h9) rfl d_MO_placeOf_1 ?_
  refine lv_iload_n hx hb d_MO_placeOf_4 rfl (lv_at hl 1 rfl) ?_
  refine va_iald hx hb hK hP 3 0 rfl rfl (vp_in_nI (by omega) (by omega)) d_MO_placeOf_5 ?_
  refine ss_rt (y := nI (kd d)) (congrArg (fun z => nI (kd z)) (nI_clamp (by omega))) ?_
  have g1 := hkd d
  have t9 : (nI (kd d)).toInt = ((kd d : Nat) : Int) := nI_toInt (by omega)
  by_cases c3 : kd d = 1
  · refine lv_tableIn (off := 30) (tgt := 36) hx hb d_MO_placeOf_6 (by rw [t9]; omega) (by rw [t9]; omega) (by rw [t9, show ((kd d : Nat) : Int) = 1 from (by omega)]; decide) (by decide) ?_
    refine lv_sipush (v := nI 256) hx hb d_MO_placeOf_36 (by decide +kernel) ?_
    refine lv_iload_n hx hb d_MO_placeOf_39 rfl (lv_at hl 1 rfl) ?_
    refine lv_imul hx hb d_MO_placeOf_40 ?_
    refine ss_rt (y := nI (256 * d)) (pk_mul _ _) ?_
    refine lv_iload_n hx hb d_MO_placeOf_41 rfl (lv_at hl 2 rfl) ?_
    refine lv_iadd hx hb d_MO_placeOf_42 ?_
    refine ss_rt (y := nI (256 * d + a)) (nI_add _ _) ?_
    exact ro_reti hx hb hr hlocks d_MO_placeOf_43 (rfl)
  by_cases c4 : kd d = 2
  · refine lv_tableIn (off := 30) (tgt := 36) hx hb d_MO_placeOf_6 (by rw [t9]; omega) (by rw [t9]; omega) (by rw [t9, show ((kd d : Nat) : Int) = 2 from (by omega)]; decide) (by decide) ?_
    refine lv_sipush (v := nI 256) hx hb d_MO_placeOf_36 (by decide +kernel) ?_
    refine lv_iload_n hx hb d_MO_placeOf_39 rfl (lv_at hl 1 rfl) ?_
    refine lv_imul hx hb d_MO_placeOf_40 ?_
    refine ss_rt (y := nI (256 * d)) (pk_mul _ _) ?_
    refine lv_iload_n hx hb d_MO_placeOf_41 rfl (lv_at hl 2 rfl) ?_
    refine lv_iadd hx hb d_MO_placeOf_42 ?_
    refine ss_rt (y := nI (256 * d + a)) (nI_add _ _) ?_
    exact ro_reti hx hb hr hlocks d_MO_placeOf_43 (rfl)
  exfalso; omega
set_option maxHeartbeats 4000000 in
set_option maxRecDepth 100000 in
theorem c_MO_placeOf3i (l : Launch) (D : va_G) (k : Nat → ClassId) (q : Nat → Nat) (cd : Int32) (wd : Nat → Nat) (se : Nat → Nat) (kd : Nat → Nat) (bn : Nat → Int32) (sh : Nat → Nat) (mb : Nat → Nat) (pr : Nat) (B : Nat → Nat) (R : Nat → Nat) (sx : Nat) (pt : Nat) (rd : Nat) (wt : Int32) (ln : Nat) (px : Nat → Nat) (hkd : ∀ j, kd j < 5) (hsh : ∀ j, sh j < 8) (hmb : ∀ j, mb j < 256) (d a : Nat) (hd9 : d < 16) (ha : a < 256) (hk : kd d = 3) (h1 : 64 ≤ a) (h2 : a ≤ 191) : ro_i l y_MO_placeOf b_MO_placeOf 3 (some .int) { frames := 1, cells := 0, slots := 0, locals := 22 } D (kT k) (mW q k cd wd se kd bn sh mb pr B R sx pt rd wt ln px) [.ref (q 0), .int (nI d), .int (nI a)] (nI (256 * d + 32 * sh (4 * d + a / 32 - 2) + a % 32)) := by
  refine ro_headi (by decide) (Nat.le_of_ble_eq_true rfl) ?_
  intro p e s m below meth c ls hx hb hr hlocks hml hown hts hP hK hl
  have hown : s.vm.findClass "SlotScreenModel" = some m.cls := hown
  have hl : lv_has ls 3 [(0, .ref (q 0)), (1, .int (nI d)), (2, .int (nI a))] := hl
  refine lv_aload_n hx hb d_MO_placeOf_0 rfl (lv_at hl 0 rfl) ?_
  refine va_get (D := D) (ci := 7) (v := .ref (q 3)) (C := R_MO) (T := T_MO) (N := 16) hx hb hts in_MO hown hK hP 0 rfl rfl 3 (by decide) (hts _ w_533) (fun _ h9 => h9) rfl d_MO_placeOf_1 ?_
  refine lv_iload_n hx hb d_MO_placeOf_4 rfl (lv_at hl 1 rfl) ?_
  refine va_iald hx hb hK hP 3 0 rfl rfl (vp_in_nI (by omega) (by omega)) d_MO_placeOf_5 ?_
  refine ss_rt (y := nI (kd d)) (congrArg (fun z => nI (kd z)) (nI_clamp (by omega))) ?_
  have g1 := hkd d
  have t9 : (nI (kd d)).toInt = ((kd d : Nat) : Int) := nI_toInt (by omega)
  by_cases c3 : kd d = 3
  · refine lv_tableIn (off := 38) (tgt := 44) hx hb d_MO_placeOf_6 (by rw [t9]; omega) (by rw [t9]; omega) (by rw [t9, show ((kd d : Nat) : Int) = 3 from (by omega)]; decide) (by decide) ?_
    refine lv_iload_n hx hb d_MO_placeOf_44 rfl (lv_at hl 2 rfl) ?_
    refine lv_bipush (v := nI 64) hx hb d_MO_placeOf_45 (by decide +kernel) ?_
    refine lv_sipush (v := nI 191) hx hb d_MO_placeOf_47 (by decide +kernel) ?_
    refine kr_iS (As := [.int (nI a), .int (nI 64), .int (nI 191)]) (rest := []) ⟨hx, hb, hml, hown, hts⟩ (c_MO_within l D k a 64 191 (by omega) (by omega) (by omega)) (va_cwS 3 hts (gS w_587 w_588 w_5 w_589) rfl rfl rfl (by decide +kernel) ⟨Nat.le_of_ble_eq_true rfl, Nat.le_of_ble_eq_true rfl⟩) hK va_nil rfl hl.1 rfl (Nat.le_of_ble_eq_true rfl) d_MO_placeOf_50 ⟨Nat.zero_le _, Nat.zero_le _⟩ ?_
    refine lv_if_eq (tgt := 88) hx hb d_MO_placeOf_53 (by decide) (fun c4 => ?_) (fun c4 => ?_)
    · have c4 := (bI_0).mp c4
      exfalso; omega
    · have c4 := mt (bI_0).mpr c4
      have c4 := Classical.not_not.mp c4
      refine lv_sipush (v := nI 256) hx hb d_MO_placeOf_56 (by decide +kernel) ?_
      refine lv_iload_n hx hb d_MO_placeOf_59 rfl (lv_at hl 1 rfl) ?_
      refine lv_imul hx hb d_MO_placeOf_60 ?_
      refine ss_rt (y := nI (256 * d)) (pk_mul _ _) ?_
      refine lv_bipush (v := nI 32) hx hb d_MO_placeOf_61 (by decide +kernel) ?_
      refine lv_aload_n hx hb d_MO_placeOf_63 rfl (lv_at hl 0 rfl) ?_
      refine va_get (D := D) (ci := 7) (v := .ref (q 5)) (C := R_MO) (T := T_MO) (N := 16) hx hb hts in_MO hown hK hP 0 rfl rfl 5 (by decide) (hts _ w_535) (fun _ h9 => h9) rfl d_MO_placeOf_64 ?_
      refine lv_iconst (v := nI 4) hx hb d_MO_placeOf_67 (by decide +kernel) ?_
      refine lv_iload_n hx hb d_MO_placeOf_68 rfl (lv_at hl 1 rfl) ?_
      refine lv_imul hx hb d_MO_placeOf_69 ?_
      refine ss_rt (y := nI (4 * d)) (pk_mul _ _) ?_
      refine lv_iload_n hx hb d_MO_placeOf_70 rfl (lv_at hl 2 rfl) ?_
      refine lv_bipush (v := nI 32) hx hb d_MO_placeOf_71 (by decide +kernel) ?_
      refine lv_idiv hx hb d_MO_placeOf_73 (by first | decide +kernel | exact nI_ne0 (by omega) (by omega)) ?_
      refine ss_rt (y := nI (a / 32)) (pk_div (by omega) (by omega) (by omega)) ?_
      refine lv_iadd hx hb d_MO_placeOf_74 ?_
      refine ss_rt (y := nI (4 * d + (a / 32))) (nI_add _ _) ?_
      refine lv_iconst (v := nI 2) hx hb d_MO_placeOf_75 (by decide +kernel) ?_
      refine lv_isub hx hb d_MO_placeOf_76 ?_
      refine ss_rt (y := nI (4 * d + (a / 32) - 2)) (pk_sub (by omega)) ?_
      refine va_iald hx hb hK hP 5 0 rfl rfl (vp_in_nI (by omega) (by omega)) d_MO_placeOf_77 ?_
      refine ss_rt (y := nI (sh (4 * d + (a / 32) - 2))) (congrArg (fun z => nI (sh z)) (nI_clamp (by omega))) ?_
      have g5 := hsh (4 * d + (a / 32) - 2)
      refine lv_imul hx hb d_MO_placeOf_78 ?_
      refine ss_rt (y := nI (32 * (sh (4 * d + (a / 32) - 2)))) (pk_mul _ _) ?_
      refine lv_iadd hx hb d_MO_placeOf_79 ?_
      refine ss_rt (y := nI (256 * d + (32 * (sh (4 * d + (a / 32) - 2))))) (nI_add _ _) ?_
      refine lv_iload_n hx hb d_MO_placeOf_80 rfl (lv_at hl 2 rfl) ?_
      refine lv_bipush (v := nI 32) hx hb d_MO_placeOf_81 (by decide +kernel) ?_
      refine lv_irem hx hb d_MO_placeOf_83 (by first | decide +kernel | exact nI_ne0 (by omega) (by omega)) ?_
      refine ss_rt (y := nI (a % 32)) (pk_rem (by omega) (by omega) (by omega)) ?_
      refine lv_iadd hx hb d_MO_placeOf_84 ?_
      refine ss_rt (y := nI (256 * d + (32 * (sh (4 * d + (a / 32) - 2))) + (a % 32))) (nI_add _ _) ?_
      refine lv_goto (tgt := 89) hx hb d_MO_placeOf_85 (by decide) ?_
      exact ro_reti hx hb hr hlocks d_MO_placeOf_89 (rfl)
  exfalso; omega
set_option maxHeartbeats 4000000 in
set_option maxRecDepth 100000 in
theorem c_MO_placeOf3o (l : Launch) (D : va_G) (k : Nat → ClassId) (q : Nat → Nat) (cd : Int32) (wd : Nat → Nat) (se : Nat → Nat) (kd : Nat → Nat) (bn : Nat → Int32) (sh : Nat → Nat) (mb : Nat → Nat) (pr : Nat) (B : Nat → Nat) (R : Nat → Nat) (sx : Nat) (pt : Nat) (rd : Nat) (wt : Int32) (ln : Nat) (px : Nat → Nat) (hkd : ∀ j, kd j < 5) (hsh : ∀ j, sh j < 8) (hmb : ∀ j, mb j < 256) (d a : Nat) (hd9 : d < 16) (ha : a < 256) (hk : kd d = 3) (h1 : ¬ (64 ≤ a ∧ a ≤ 191)) : ro_i l y_MO_placeOf b_MO_placeOf 3 (some .int) { frames := 1, cells := 0, slots := 0, locals := 22 } D (kT k) (mW q k cd wd se kd bn sh mb pr B R sx pt rd wt ln px) [.ref (q 0), .int (nI d), .int (nI a)] (-1) := by
  refine ro_headi (by decide) (Nat.le_of_ble_eq_true rfl) ?_
  intro p e s m below meth c ls hx hb hr hlocks hml hown hts hP hK hl
  have hown : s.vm.findClass "SlotScreenModel" = some m.cls := hown
  have hl : lv_has ls 3 [(0, .ref (q 0)), (1, .int (nI d)), (2, .int (nI a))] := hl
  refine lv_aload_n hx hb d_MO_placeOf_0 rfl (lv_at hl 0 rfl) ?_
  refine va_get (D := D) (ci := 7) (v := .ref (q 3)) (C := R_MO) (T := T_MO) (N := 16) hx hb hts in_MO hown hK hP 0 rfl rfl 3 (by decide) (hts _ w_533) (fun _ h9 => h9) rfl d_MO_placeOf_1 ?_
  refine lv_iload_n hx hb d_MO_placeOf_4 rfl (lv_at hl 1 rfl) ?_
  refine va_iald hx hb hK hP 3 0 rfl rfl (vp_in_nI (by omega) (by omega)) d_MO_placeOf_5 ?_
  refine ss_rt (y := nI (kd d)) (congrArg (fun z => nI (kd z)) (nI_clamp (by omega))) ?_
  have g1 := hkd d
  have t9 : (nI (kd d)).toInt = ((kd d : Nat) : Int) := nI_toInt (by omega)
  by_cases c3 : kd d = 3
  · refine lv_tableIn (off := 38) (tgt := 44) hx hb d_MO_placeOf_6 (by rw [t9]; omega) (by rw [t9]; omega) (by rw [t9, show ((kd d : Nat) : Int) = 3 from (by omega)]; decide) (by decide) ?_
    refine lv_iload_n hx hb d_MO_placeOf_44 rfl (lv_at hl 2 rfl) ?_
    refine lv_bipush (v := nI 64) hx hb d_MO_placeOf_45 (by decide +kernel) ?_
    refine lv_sipush (v := nI 191) hx hb d_MO_placeOf_47 (by decide +kernel) ?_
    refine kr_iS (As := [.int (nI a), .int (nI 64), .int (nI 191)]) (rest := []) ⟨hx, hb, hml, hown, hts⟩ (c_MO_within l D k a 64 191 (by omega) (by omega) (by omega)) (va_cwS 3 hts (gS w_587 w_588 w_5 w_589) rfl rfl rfl (by decide +kernel) ⟨Nat.le_of_ble_eq_true rfl, Nat.le_of_ble_eq_true rfl⟩) hK va_nil rfl hl.1 rfl (Nat.le_of_ble_eq_true rfl) d_MO_placeOf_50 ⟨Nat.zero_le _, Nat.zero_le _⟩ ?_
    refine lv_if_eq (tgt := 88) hx hb d_MO_placeOf_53 (by decide) (fun c4 => ?_) (fun c4 => ?_)
    · have c4 := (bI_0).mp c4
      refine lv_iconst (v := (-1)) hx hb d_MO_placeOf_88 (by decide +kernel) ?_
      exact ro_reti hx hb hr hlocks d_MO_placeOf_89 (rfl)
    · have c4 := mt (bI_0).mpr c4
      have c4 := Classical.not_not.mp c4
      exfalso; omega
  exfalso; omega
set_option maxHeartbeats 4000000 in
set_option maxRecDepth 100000 in
theorem c_MO_placeOf4 (l : Launch) (D : va_G) (k : Nat → ClassId) (q : Nat → Nat) (cd : Int32) (wd : Nat → Nat) (se : Nat → Nat) (kd : Nat → Nat) (bn : Nat → Int32) (sh : Nat → Nat) (mb : Nat → Nat) (pr : Nat) (B : Nat → Nat) (R : Nat → Nat) (sx : Nat) (pt : Nat) (rd : Nat) (wt : Int32) (ln : Nat) (px : Nat → Nat) (hkd : ∀ j, kd j < 5) (hsh : ∀ j, sh j < 8) (hmb : ∀ j, mb j < 256) (d a : Nat) (hd9 : d < 16) (ha : a < 256) (hk : kd d = 4) : ro_i l y_MO_placeOf b_MO_placeOf 3 (some .int) { frames := 1, cells := 0, slots := 0, locals := 22 } D (kT k) (mW q k cd wd se kd bn sh mb pr B R sx pt rd wt ln px) [.ref (q 0), .int (nI d), .int (nI a)] (nI (256 * d + a % 64)) := by
  refine ro_headi (by decide) (Nat.le_of_ble_eq_true rfl) ?_
  intro p e s m below meth c ls hx hb hr hlocks hml hown hts hP hK hl
  have hown : s.vm.findClass "SlotScreenModel" = some m.cls := hown
  have hl : lv_has ls 3 [(0, .ref (q 0)), (1, .int (nI d)), (2, .int (nI a))] := hl
  refine lv_aload_n hx hb d_MO_placeOf_0 rfl (lv_at hl 0 rfl) ?_
  refine va_get (D := D) (ci := 7) (v := .ref (q 3)) (C := R_MO) (T := T_MO) (N := 16) hx hb hts in_MO hown hK hP 0 rfl rfl 3 (by decide) (hts _ w_533) (fun _ h9 => h9) rfl d_MO_placeOf_1 ?_
  refine lv_iload_n hx hb d_MO_placeOf_4 rfl (lv_at hl 1 rfl) ?_
  refine va_iald hx hb hK hP 3 0 rfl rfl (vp_in_nI (by omega) (by omega)) d_MO_placeOf_5 ?_
  refine ss_rt (y := nI (kd d)) (congrArg (fun z => nI (kd z)) (nI_clamp (by omega))) ?_
  have g1 := hkd d
  have t9 : (nI (kd d)).toInt = ((kd d : Nat) : Int) := nI_toInt (by omega)
  by_cases c3 : kd d = 4
  · refine lv_tableIn (off := 84) (tgt := 90) hx hb d_MO_placeOf_6 (by rw [t9]; omega) (by rw [t9]; omega) (by rw [t9, show ((kd d : Nat) : Int) = 4 from (by omega)]; decide) (by decide) ?_
    refine lv_sipush (v := nI 256) hx hb d_MO_placeOf_90 (by decide +kernel) ?_
    refine lv_iload_n hx hb d_MO_placeOf_93 rfl (lv_at hl 1 rfl) ?_
    refine lv_imul hx hb d_MO_placeOf_94 ?_
    refine ss_rt (y := nI (256 * d)) (pk_mul _ _) ?_
    refine lv_iload_n hx hb d_MO_placeOf_95 rfl (lv_at hl 2 rfl) ?_
    refine lv_bipush (v := nI 64) hx hb d_MO_placeOf_96 (by decide +kernel) ?_
    refine lv_irem hx hb d_MO_placeOf_98 (by first | decide +kernel | exact nI_ne0 (by omega) (by omega)) ?_
    refine ss_rt (y := nI (a % 64)) (pk_rem (by omega) (by omega) (by omega)) ?_
    refine lv_iadd hx hb d_MO_placeOf_99 ?_
    refine ss_rt (y := nI (256 * d + (a % 64))) (nI_add _ _) ?_
    exact ro_reti hx hb hr hlocks d_MO_placeOf_100 (rfl)
  exfalso; omega
set_option maxHeartbeats 4000000 in
set_option maxRecDepth 100000 in
theorem c_MO_placeOf0 (l : Launch) (D : va_G) (k : Nat → ClassId) (q : Nat → Nat) (cd : Int32) (wd : Nat → Nat) (se : Nat → Nat) (kd : Nat → Nat) (bn : Nat → Int32) (sh : Nat → Nat) (mb : Nat → Nat) (pr : Nat) (B : Nat → Nat) (R : Nat → Nat) (sx : Nat) (pt : Nat) (rd : Nat) (wt : Int32) (ln : Nat) (px : Nat → Nat) (hkd : ∀ j, kd j < 5) (hsh : ∀ j, sh j < 8) (hmb : ∀ j, mb j < 256) (d a : Nat) (hd9 : d < 16) (ha : a < 256) (hk : kd d = 0) : ro_i l y_MO_placeOf b_MO_placeOf 3 (some .int) { frames := 1, cells := 0, slots := 0, locals := 22 } D (kT k) (mW q k cd wd se kd bn sh mb pr B R sx pt rd wt ln px) [.ref (q 0), .int (nI d), .int (nI a)] (-1) := by
  refine ro_headi (by decide) (Nat.le_of_ble_eq_true rfl) ?_
  intro p e s m below meth c ls hx hb hr hlocks hml hown hts hP hK hl
  have hown : s.vm.findClass "SlotScreenModel" = some m.cls := hown
  have hl : lv_has ls 3 [(0, .ref (q 0)), (1, .int (nI d)), (2, .int (nI a))] := hl
  refine lv_aload_n hx hb d_MO_placeOf_0 rfl (lv_at hl 0 rfl) ?_
  refine va_get (D := D) (ci := 7) (v := .ref (q 3)) (C := R_MO) (T := T_MO) (N := 16) hx hb hts in_MO hown hK hP 0 rfl rfl 3 (by decide) (hts _ w_533) (fun _ h9 => h9) rfl d_MO_placeOf_1 ?_
  refine lv_iload_n hx hb d_MO_placeOf_4 rfl (lv_at hl 1 rfl) ?_
  refine va_iald hx hb hK hP 3 0 rfl rfl (vp_in_nI (by omega) (by omega)) d_MO_placeOf_5 ?_
  refine ss_rt (y := nI (kd d)) (congrArg (fun z => nI (kd z)) (nI_clamp (by omega))) ?_
  have g1 := hkd d
  have t9 : (nI (kd d)).toInt = ((kd d : Nat) : Int) := nI_toInt (by omega)
  refine lv_tableOut (tgt := 101) hx hb d_MO_placeOf_6 (by rw [t9]; omega) (by decide) ?_
  refine lv_iconst (v := (-1)) hx hb d_MO_placeOf_101 (by decide +kernel) ?_
  exact ro_reti hx hb hr hlocks d_MO_placeOf_102 (rfl)
set_option maxHeartbeats 4000000 in
set_option maxRecDepth 100000 in
theorem c_MO_get (l : Launch) (D : va_G) (k : Nat → ClassId) (q : Nat → Nat) (cd : Int32) (wd : Nat → Nat) (se : Nat → Nat) (kd : Nat → Nat) (bn : Nat → Int32) (sh : Nat → Nat) (mb : Nat → Nat) (pr : Nat) (B : Nat → Nat) (R : Nat → Nat) (sx : Nat) (pt : Nat) (rd : Nat) (wt : Int32) (ln : Nat) (px : Nat → Nat) (hkd : ∀ j, kd j < 5) (hsh : ∀ j, sh j < 8) (hmb : ∀ j, mb j < 256) (d a : Nat) (hd9 : d < 16) (ha : a < 256) : ro_i l y_MO_get b_MO_get 4 (some .int) { frames := 2, cells := 0, slots := 0, locals := 44 } D (kT k) (mW q k cd wd se kd bn sh mb pr B R sx pt rd wt ln px) [.ref (q 0), .int (nI d), .int (nI a)] (nI (mget kd sh mb d a)) := by
  refine ro_headi (by decide) (Nat.le_of_ble_eq_true rfl) ?_
  intro p e s m below meth c ls hx hb hr hlocks hml hown hts hP hK hl
  have hown : s.vm.findClass "SlotScreenModel" = some m.cls := hown
  have hl : lv_has ls 4 [(0, .ref (q 0)), (1, .int (nI d)), (2, .int (nI a))] := hl
  have k9 := hkd d
  by_cases h_0 : kd d = 1 ∨ kd d = 2
  · skip
    refine lv_aload_n hx hb d_MO_get_0 rfl (lv_at hl 0 rfl) ?_
    refine lv_iload_n hx hb d_MO_get_1 rfl (lv_at hl 1 rfl) ?_
    refine lv_iload_n hx hb d_MO_get_2 rfl (lv_at hl 2 rfl) ?_
    refine kr_iV (As := [.int (nI d), .int (nI a)]) (rest := []) ⟨hx, hb, hml, hown, hts⟩ (c_MO_placeOf12 l D k q cd wd se kd bn sh mb pr B R sx pt rd wt ln px hkd hsh hmb d a (by omega) (by omega) (by omega)) (cwV 2 hts (gV w_617 w_619 w_p16 w_5 w_620) rfl rfl rfl (by decide +kernel) ⟨Nat.le_of_ble_eq_true rfl, Nat.le_of_ble_eq_true rfl⟩) hK hP (va_recv hK hP (ci := 7) (q0 := 0) rfl rfl) rfl hl.1 rfl (Nat.le_of_ble_eq_true rfl) d_MO_get_3 ⟨Nat.zero_le _, Nat.zero_le _⟩ ?_
    refine lv_istore_n (lv' := [(3, .int (nI (256 * d + a))), (0, .ref (q 0)), (1, .int (nI d)), (2, .int (nI a))]) hx hb d_MO_get_6 rfl hl (by decide) rfl (fun ls hl => ?_)
    refine lv_iload_n hx hb d_MO_get_7 rfl (lv_at hl 0 rfl) ?_
    refine lv_if_ge (tgt := 17) hx hb d_MO_get_8 (by decide) (fun c1 => ?_) (fun c1 => ?_)
    · have c1 := (n_ge0 (by omega)).mp c1
      refine lv_aload_n hx hb d_MO_get_17 rfl (lv_at hl 1 rfl) ?_
      refine va_get (D := D) (ci := 7) (v := .ref (q 6)) (C := R_MO) (T := T_MO) (N := 16) hx hb hts in_MO hown hK hP 0 rfl rfl 6 (by decide) (hts _ w_536) (fun _ h9 => h9) rfl d_MO_get_18 ?_
      refine lv_iload_n hx hb d_MO_get_21 rfl (lv_at hl 0 rfl) ?_
      refine va_iald hx hb hK hP 6 0 rfl rfl (vp_in_nI (by omega) (by omega)) d_MO_get_22 ?_
      refine ss_rt (y := nI (mb (256 * d + a))) (congrArg (fun z => nI (mb z)) (nI_clamp (by omega))) ?_
      have g2 := hmb (256 * d + a)
      exact ro_reti hx hb hr hlocks d_MO_get_23 (by unfold mget; rw [if_pos (by omega)])
    · have c1 := mt (n_ge0 (by omega)).mpr c1
      exfalso; omega
  by_cases h_1 : kd d = 3 ∧ 64 ≤ a ∧ a ≤ 191
  · skip
    refine lv_aload_n hx hb d_MO_get_0 rfl (lv_at hl 0 rfl) ?_
    refine lv_iload_n hx hb d_MO_get_1 rfl (lv_at hl 1 rfl) ?_
    refine lv_iload_n hx hb d_MO_get_2 rfl (lv_at hl 2 rfl) ?_
    have g3 := hsh (4 * d + a / 32 - 2)
    refine kr_iV (As := [.int (nI d), .int (nI a)]) (rest := []) ⟨hx, hb, hml, hown, hts⟩ (c_MO_placeOf3i l D k q cd wd se kd bn sh mb pr B R sx pt rd wt ln px hkd hsh hmb d a (by omega) (by omega) (by omega) (by omega) (by omega)) (cwV 2 hts (gV w_617 w_619 w_p16 w_5 w_620) rfl rfl rfl (by decide +kernel) ⟨Nat.le_of_ble_eq_true rfl, Nat.le_of_ble_eq_true rfl⟩) hK hP (va_recv hK hP (ci := 7) (q0 := 0) rfl rfl) rfl hl.1 rfl (Nat.le_of_ble_eq_true rfl) d_MO_get_3 ⟨Nat.zero_le _, Nat.zero_le _⟩ ?_
    refine lv_istore_n (lv' := [(3, .int (nI (256 * d + 32 * sh (4 * d + a / 32 - 2) + a % 32))), (0, .ref (q 0)), (1, .int (nI d)), (2, .int (nI a))]) hx hb d_MO_get_6 rfl hl (by decide) rfl (fun ls hl => ?_)
    refine lv_iload_n hx hb d_MO_get_7 rfl (lv_at hl 0 rfl) ?_
    refine lv_if_ge (tgt := 17) hx hb d_MO_get_8 (by decide) (fun c4 => ?_) (fun c4 => ?_)
    · have c4 := (n_ge0 (by omega)).mp c4
      refine lv_aload_n hx hb d_MO_get_17 rfl (lv_at hl 1 rfl) ?_
      refine va_get (D := D) (ci := 7) (v := .ref (q 6)) (C := R_MO) (T := T_MO) (N := 16) hx hb hts in_MO hown hK hP 0 rfl rfl 6 (by decide) (hts _ w_536) (fun _ h9 => h9) rfl d_MO_get_18 ?_
      refine lv_iload_n hx hb d_MO_get_21 rfl (lv_at hl 0 rfl) ?_
      refine va_iald hx hb hK hP 6 0 rfl rfl (vp_in_nI (by omega) (by omega)) d_MO_get_22 ?_
      refine ss_rt (y := nI (mb (256 * d + 32 * sh (4 * d + a / 32 - 2) + a % 32))) (congrArg (fun z => nI (mb z)) (nI_clamp (by omega))) ?_
      have g5 := hmb (256 * d + 32 * sh (4 * d + a / 32 - 2) + a % 32)
      exact ro_reti hx hb hr hlocks d_MO_get_23 (by unfold mget; rw [if_neg (by omega), if_pos (by omega), if_pos (by omega)])
    · have c4 := mt (n_ge0 (by omega)).mpr c4
      exfalso; omega
  by_cases h_2 : kd d = 3
  · skip
    refine lv_aload_n hx hb d_MO_get_0 rfl (lv_at hl 0 rfl) ?_
    refine lv_iload_n hx hb d_MO_get_1 rfl (lv_at hl 1 rfl) ?_
    refine lv_iload_n hx hb d_MO_get_2 rfl (lv_at hl 2 rfl) ?_
    refine kr_iV (As := [.int (nI d), .int (nI a)]) (rest := []) ⟨hx, hb, hml, hown, hts⟩ (c_MO_placeOf3o l D k q cd wd se kd bn sh mb pr B R sx pt rd wt ln px hkd hsh hmb d a (by omega) (by omega) (by omega) (by omega)) (cwV 2 hts (gV w_617 w_619 w_p16 w_5 w_620) rfl rfl rfl (by decide +kernel) ⟨Nat.le_of_ble_eq_true rfl, Nat.le_of_ble_eq_true rfl⟩) hK hP (va_recv hK hP (ci := 7) (q0 := 0) rfl rfl) rfl hl.1 rfl (Nat.le_of_ble_eq_true rfl) d_MO_get_3 ⟨Nat.zero_le _, Nat.zero_le _⟩ ?_
    refine lv_istore_n (lv' := [(3, .int (-1)), (0, .ref (q 0)), (1, .int (nI d)), (2, .int (nI a))]) hx hb d_MO_get_6 rfl hl (by decide) rfl (fun ls hl => ?_)
    refine lv_iload_n hx hb d_MO_get_7 rfl (lv_at hl 0 rfl) ?_
    refine lv_if_ge (tgt := 17) hx hb d_MO_get_8 (by decide) (fun c6 => ?_) (fun c6 => ?_)
    · have c6 := (z_ge0).mp c6
      exact absurd c6 (by decide +kernel)
    · have c6 := mt (z_ge0).mpr c6
      refine lv_sipush (v := nI 255) hx hb d_MO_get_11 (by decide +kernel) ?_
      refine lv_goto (tgt := 23) hx hb d_MO_get_14 (by decide) ?_
      exact ro_reti hx hb hr hlocks d_MO_get_23 (by unfold mget; rw [if_neg (by omega), if_pos (by omega), if_neg (by omega)])
  by_cases h_3 : kd d = 4
  · skip
    refine lv_aload_n hx hb d_MO_get_0 rfl (lv_at hl 0 rfl) ?_
    refine lv_iload_n hx hb d_MO_get_1 rfl (lv_at hl 1 rfl) ?_
    refine lv_iload_n hx hb d_MO_get_2 rfl (lv_at hl 2 rfl) ?_
    refine kr_iV (As := [.int (nI d), .int (nI a)]) (rest := []) ⟨hx, hb, hml, hown, hts⟩ (c_MO_placeOf4 l D k q cd wd se kd bn sh mb pr B R sx pt rd wt ln px hkd hsh hmb d a (by omega) (by omega) (by omega)) (cwV 2 hts (gV w_617 w_619 w_p16 w_5 w_620) rfl rfl rfl (by decide +kernel) ⟨Nat.le_of_ble_eq_true rfl, Nat.le_of_ble_eq_true rfl⟩) hK hP (va_recv hK hP (ci := 7) (q0 := 0) rfl rfl) rfl hl.1 rfl (Nat.le_of_ble_eq_true rfl) d_MO_get_3 ⟨Nat.zero_le _, Nat.zero_le _⟩ ?_
    refine lv_istore_n (lv' := [(3, .int (nI (256 * d + a % 64))), (0, .ref (q 0)), (1, .int (nI d)), (2, .int (nI a))]) hx hb d_MO_get_6 rfl hl (by decide) rfl (fun ls hl => ?_)
    refine lv_iload_n hx hb d_MO_get_7 rfl (lv_at hl 0 rfl) ?_
    refine lv_if_ge (tgt := 17) hx hb d_MO_get_8 (by decide) (fun c7 => ?_) (fun c7 => ?_)
    · have c7 := (n_ge0 (by omega)).mp c7
      refine lv_aload_n hx hb d_MO_get_17 rfl (lv_at hl 1 rfl) ?_
      refine va_get (D := D) (ci := 7) (v := .ref (q 6)) (C := R_MO) (T := T_MO) (N := 16) hx hb hts in_MO hown hK hP 0 rfl rfl 6 (by decide) (hts _ w_536) (fun _ h9 => h9) rfl d_MO_get_18 ?_
      refine lv_iload_n hx hb d_MO_get_21 rfl (lv_at hl 0 rfl) ?_
      refine va_iald hx hb hK hP 6 0 rfl rfl (vp_in_nI (by omega) (by omega)) d_MO_get_22 ?_
      refine ss_rt (y := nI (mb (256 * d + a % 64))) (congrArg (fun z => nI (mb z)) (nI_clamp (by omega))) ?_
      have g8 := hmb (256 * d + a % 64)
      exact ro_reti hx hb hr hlocks d_MO_get_23 (by unfold mget; rw [if_neg (by omega), if_neg (by omega), if_pos (by omega)])
    · have c7 := mt (n_ge0 (by omega)).mpr c7
      exfalso; omega
  refine lv_aload_n hx hb d_MO_get_0 rfl (lv_at hl 0 rfl) ?_
  refine lv_iload_n hx hb d_MO_get_1 rfl (lv_at hl 1 rfl) ?_
  refine lv_iload_n hx hb d_MO_get_2 rfl (lv_at hl 2 rfl) ?_
  refine kr_iV (As := [.int (nI d), .int (nI a)]) (rest := []) ⟨hx, hb, hml, hown, hts⟩ (c_MO_placeOf0 l D k q cd wd se kd bn sh mb pr B R sx pt rd wt ln px hkd hsh hmb d a (by omega) (by omega) (by omega)) (cwV 2 hts (gV w_617 w_619 w_p16 w_5 w_620) rfl rfl rfl (by decide +kernel) ⟨Nat.le_of_ble_eq_true rfl, Nat.le_of_ble_eq_true rfl⟩) hK hP (va_recv hK hP (ci := 7) (q0 := 0) rfl rfl) rfl hl.1 rfl (Nat.le_of_ble_eq_true rfl) d_MO_get_3 ⟨Nat.zero_le _, Nat.zero_le _⟩ ?_
  refine lv_istore_n (lv' := [(3, .int (-1)), (0, .ref (q 0)), (1, .int (nI d)), (2, .int (nI a))]) hx hb d_MO_get_6 rfl hl (by decide) rfl (fun ls hl => ?_)
  refine lv_iload_n hx hb d_MO_get_7 rfl (lv_at hl 0 rfl) ?_
  refine lv_if_ge (tgt := 17) hx hb d_MO_get_8 (by decide) (fun c9 => ?_) (fun c9 => ?_)
  · have c9 := (z_ge0).mp c9
    exact absurd c9 (by decide +kernel)
  · have c9 := mt (z_ge0).mpr c9
    refine lv_sipush (v := nI 255) hx hb d_MO_get_11 (by decide +kernel) ?_
    refine lv_goto (tgt := 23) hx hb d_MO_get_14 (by decide) ?_
    exact ro_reti hx hb hr hlocks d_MO_get_23 (by unfold mget; rw [if_neg (by omega), if_neg (by omega), if_neg (by omega)])
