set_option maxHeartbeats 4000000 in
set_option maxRecDepth 100000 in
theorem c_MO_goOn (l : Launch) (D : va_G) (k : Nat → ClassId) (q : Nat → Nat) (cd : Int32) (wd : Nat → Nat) (se : Nat → Nat) (kd : Nat → Nat) (bn : Nat → Int32) (sh : Nat → Nat) (mb : Nat → Nat) (pr : Nat) (B : Nat → Nat) (R : Nat → Nat) (sx : Nat) (pt : Nat) (rd : Nat) (wt : Int32) (ln : Nat) (px : Nat → Nat) (hpt : pt < 512) : rw_v l y_MO_goOn b_MO_goOn 1 none { frames := 0, cells := 0, slots := 0, locals := 0 } D (kT k) (mW q k cd wd se kd bn sh mb pr B R sx pt rd wt ln px) [.ref (q 0)] (fun (_ : Unit) => True) (fun (_ : Unit) => (mW q k cd wd se kd bn sh mb pr B R sx ((pt + 1) % 512) rd wt ln px)) := by
  refine rw_headv (by decide) (Nat.le_of_ble_eq_true rfl) ?_
  intro p e s m below meth c ls A hx hb hr hlocks hml hown hts hK hA hP hD hS hl
  have hown : s.vm.findClass "SlotScreenModel" = some m.cls := hown
  have hl : lv_has ls 1 [(0, .ref (q 0))] := hl
  refine lv_aload_n hx hb d_MO_goOn_0 rfl (lv_at hl 0 rfl) ?_
  refine lv_aload_n hx hb d_MO_goOn_1 rfl (lv_at hl 0 rfl) ?_
  refine va_get (D := D) (ci := 7) (v := .int (nI pt)) (C := R_MO) (T := T_MO) (N := 16) hx hb hts in_MO hown hK hP 0 rfl rfl 11 (by decide) (hts _ w_541) (fun _ h9 => h9) rfl d_MO_goOn_2 ?_
  refine lv_sipush (v := nI 511) hx hb d_MO_goOn_5 (by decide +kernel) ?_
  refine lv_icmp_ne (tgt := 15) hx hb d_MO_goOn_8 (by decide) (fun c1 => ?_) (fun c1 => ?_)
  · have c1 := mt (nI_eq (by omega) (by omega)).mpr c1
    refine lv_aload_n hx hb d_MO_goOn_15 rfl (lv_at hl 0 rfl) ?_
    refine va_get (D := D) (ci := 7) (v := .int (nI pt)) (C := R_MO) (T := T_MO) (N := 16) hx hb hts in_MO hown hK hP 0 rfl rfl 11 (by decide) (hts _ w_541) (fun _ h9 => h9) rfl d_MO_goOn_16 ?_
    refine lv_iconst (v := nI 1) hx hb d_MO_goOn_19 (by decide +kernel) ?_
    refine lv_iadd hx hb d_MO_goOn_20 ?_
    refine ss_rt (y := nI (pt + 1)) (nI_add _ _) ?_
    refine va_put (D := D) (ci := 7) (v := .int (nI (pt + 1))) (ty := .int) (C := R_MO) (T := T_MO) (N := 16) hx hb hts in_MO t_MO o_MO n_MO hown hK hP hD hS 0 rfl rfl 11 (by decide) (hts _ w_541) (fun _ h9 => h9) rfl (by decide +kernel) rfl rfl (Nat.le_of_ble_eq_true rfl) d_MO_goOn_21 (fun H locs hP hD hS => ?_)
    have hP : va_P D vwCl (mW q k cd wd se kd bn sh mb pr B R sx (pt + 1) rd wt ln px) H := hP
    have hD : va_D A (mW q k cd wd se kd bn sh mb pr B R sx (pt + 1) rd wt ln px) := hD
    exact rw_retv hx hb hr hlocks d_MO_goOn_24 hS () (trivial) (by rw [show ((pt + 1) % 512) = (pt + 1) from by first | rfl | omega]; exact hP)
  · have c1 := (nI_eq (by omega) (by omega)).mp c1
    refine lv_iconst (v := nI 0) hx hb d_MO_goOn_11 (by decide +kernel) ?_
    refine lv_goto (tgt := 21) hx hb d_MO_goOn_12 (by decide) ?_
    refine va_put (D := D) (ci := 7) (v := .int (nI 0)) (ty := .int) (C := R_MO) (T := T_MO) (N := 16) hx hb hts in_MO t_MO o_MO n_MO hown hK hP hD hS 0 rfl rfl 11 (by decide) (hts _ w_541) (fun _ h9 => h9) rfl (by decide +kernel) rfl rfl (Nat.le_of_ble_eq_true rfl) d_MO_goOn_21 (fun H locs hP hD hS => ?_)
    have hP : va_P D vwCl (mW q k cd wd se kd bn sh mb pr B R sx 0 rd wt ln px) H := hP
    have hD : va_D A (mW q k cd wd se kd bn sh mb pr B R sx 0 rd wt ln px) := hD
    exact rw_retv hx hb hr hlocks d_MO_goOn_24 hS () (trivial) (by rw [show ((pt + 1) % 512) = 0 from by first | rfl | omega]; exact hP)
set_option maxHeartbeats 4000000 in
set_option maxRecDepth 100000 in
theorem c_MO_fetch (l : Launch) (D : va_G) (k : Nat → ClassId) (q : Nat → Nat) (cd : Int32) (wd : Nat → Nat) (se : Nat → Nat) (kd : Nat → Nat) (bn : Nat → Int32) (sh : Nat → Nat) (mb : Nat → Nat) (pr : Nat) (B : Nat → Nat) (R : Nat → Nat) (sx : Nat) (pt : Nat) (rd : Nat) (wt : Int32) (ln : Nat) (px : Nat → Nat) (hpt : pt < 512) : rw_v l y_MO_fetch b_MO_fetch 1 none { frames := 1, cells := 0, slots := 0, locals := 20 } D (kT k) (mW q k cd wd se kd bn sh mb pr B R sx pt rd wt ln px) [.ref (q 0)] (fun (_ : Unit) => True) (fun (_ : Unit) => (mW q k cd wd se kd bn sh mb pr B R sx ((pt + 1) % 512) (B pt) wt ln px)) := by
  refine rw_headv (by decide) (Nat.le_of_ble_eq_true rfl) ?_
  intro p e s m below meth c ls A hx hb hr hlocks hml hown hts hK hA hP hD hS hl
  have hown : s.vm.findClass "SlotScreenModel" = some m.cls := hown
  have hl : lv_has ls 1 [(0, .ref (q 0))] := hl
  refine lv_aload_n hx hb d_MO_fetch_0 rfl (lv_at hl 0 rfl) ?_
  refine lv_aload_n hx hb d_MO_fetch_1 rfl (lv_at hl 0 rfl) ?_
  refine va_get (D := D) (ci := 7) (v := .ref (q 7)) (C := R_MO) (T := T_MO) (N := 16) hx hb hts in_MO hown hK hP 0 rfl rfl 8 (by decide) (hts _ w_538) (fun _ h9 => h9) rfl d_MO_fetch_2 ?_
  refine lv_aload_n hx hb d_MO_fetch_5 rfl (lv_at hl 0 rfl) ?_
  refine va_get (D := D) (ci := 7) (v := .int (nI pt)) (C := R_MO) (T := T_MO) (N := 16) hx hb hts in_MO hown hK hP 0 rfl rfl 11 (by decide) (hts _ w_541) (fun _ h9 => h9) rfl d_MO_fetch_6 ?_
  refine va_iald hx hb hK hP 7 0 rfl rfl (vp_in_nI (by omega) (by omega)) d_MO_fetch_9 ?_
  refine ss_rt (y := nI (B pt)) (congrArg (fun z => nI (B z)) (nI_clamp (by omega))) ?_
  refine va_put (D := D) (ci := 7) (v := .int (nI (B pt))) (ty := .int) (C := R_MO) (T := T_MO) (N := 16) hx hb hts in_MO t_MO o_MO n_MO hown hK hP hD hS 0 rfl rfl 12 (by decide) (hts _ w_542) (fun _ h9 => h9) rfl (by decide +kernel) rfl rfl (Nat.le_of_ble_eq_true rfl) d_MO_fetch_10 (fun H locs hP hD hS => ?_)
  have hP : va_P D vwCl (mW q k cd wd se kd bn sh mb pr B R sx pt (B pt) wt ln px) H := hP
  have hD : va_D A (mW q k cd wd se kd bn sh mb pr B R sx pt (B pt) wt ln px) := hD
  refine lv_aload_n hx hb d_MO_fetch_13 rfl (lv_at hl 0 rfl) ?_
  refine kw_vV (As := []) (rest := []) ⟨hx, hb, hml, hown, hts⟩ (c_MO_goOn l D k q cd wd se kd bn sh mb pr B R sx pt (B pt) wt ln px (by omega)) (cwV 0 hts (gV w_637 w_639 w_p18 w_5 w_640) rfl rfl rfl (by decide +kernel) ⟨Nat.le_of_ble_eq_true rfl, Nat.le_of_ble_eq_true rfl⟩) hK hP hD hS hA (va_recv hK hP (ci := 7) (q0 := 0) rfl rfl) rfl hl.1 rfl (Nat.le_of_ble_eq_true rfl) d_MO_fetch_14 ⟨Nat.zero_le _, Nat.zero_le _⟩ (fun _ H locs _ hP _ hS => ?_)
  have hD : va_D A (mW q k cd wd se kd bn sh mb pr B R sx ((pt + 1) % 512) (B pt) wt ln px) := rw_same hD rfl
  have hP : va_P D vwCl (mW q k cd wd se kd bn sh mb pr B R sx ((pt + 1) % 512) (B pt) wt ln px) H := hP
  exact rw_retv hx hb hr hlocks d_MO_fetch_17 hS () (trivial) hP
set_option maxHeartbeats 4000000 in
set_option maxRecDepth 100000 in
theorem c_MO_in2 (l : Launch) (D : va_G) (k : Nat → ClassId) (q : Nat → Nat) (cd : Int32) (wd : Nat → Nat) (se : Nat → Nat) (kd : Nat → Nat) (bn : Nat → Int32) (sh : Nat → Nat) (mb : Nat → Nat) (pr : Nat) (B : Nat → Nat) (R : Nat → Nat) (sx : Nat) (pt : Nat) (rd : Nat) (wt : Int32) (ln : Nat) (px : Nat → Nat) : rw_i l y_MO_in b_MO_in 3 (some .int) { frames := 2, cells := 0, slots := 0, locals := 40 } D (kT k) (mW q k cd wd se kd bn sh mb pr B R sx pt rd wt ln px) [.ref (q 0), .int (nI 2)] (fun (r : Int32) (_ : Unit) => r = nI pr) (fun (_ : Unit) => (mW q k (nI 0) wd se kd bn sh mb pr B R sx pt rd wt ln px)) := by
  refine rw_headi (by decide) (Nat.le_of_ble_eq_true rfl) ?_
  intro p e s m below meth c ls A hx hb hr hlocks hml hown hts hK hA hP hD hS hl
  have hown : s.vm.findClass "SlotScreenModel" = some m.cls := hown
  have hl : lv_has ls 3 [(0, .ref (q 0)), (1, .int (nI 2))] := hl
  refine lv_aload_n hx hb d_MO_in_0 rfl (lv_at hl 0 rfl) ?_
  refine lv_iconst (v := nI 0) hx hb d_MO_in_1 (by decide +kernel) ?_
  refine va_put (D := D) (ci := 7) (v := .int (nI 0)) (ty := .int) (C := R_MO) (T := T_MO) (N := 16) hx hb hts in_MO t_MO o_MO n_MO hown hK hP hD hS 0 rfl rfl 0 (by decide) (hts _ w_530) (fun _ h9 => h9) rfl (by decide +kernel) rfl rfl (Nat.le_of_ble_eq_true rfl) d_MO_in_2 (fun H locs hP hD hS => ?_)
  have hP : va_P D vwCl (mW q k (nI 0) wd se kd bn sh mb pr B R sx pt rd wt ln px) H := hP
  have hD : va_D A (mW q k (nI 0) wd se kd bn sh mb pr B R sx pt rd wt ln px) := hD
  refine lv_iload_n hx hb d_MO_in_5 rfl (lv_at hl 1 rfl) ?_
  refine lv_iconst (v := nI 2) hx hb d_MO_in_6 (by decide +kernel) ?_
  refine lv_icmp_ne (tgt := 15) hx hb d_MO_in_7 (by decide) (fun c1 => ?_) (fun c1 => ?_)
  · have c1 := mt (nI_eq (by omega) (by omega)).mpr c1
    exfalso; omega
  · have c1 := (nI_eq (by omega) (by omega)).mp c1
    refine lv_aload_n hx hb d_MO_in_10 rfl (lv_at hl 0 rfl) ?_
    refine va_get (D := D) (ci := 7) (v := .int (nI pr)) (C := R_MO) (T := T_MO) (N := 16) hx hb hts in_MO hown hK hP 0 rfl rfl 7 (by decide) (hts _ w_537) (fun _ h9 => h9) rfl d_MO_in_11 ?_
    exact rw_reti hx hb hr hlocks d_MO_in_14 hS () (rfl) hP
set_option maxHeartbeats 4000000 in
set_option maxRecDepth 100000 in
theorem c_MO_ino (l : Launch) (D : va_G) (k : Nat → ClassId) (q : Nat → Nat) (cd : Int32) (wd : Nat → Nat) (se : Nat → Nat) (kd : Nat → Nat) (bn : Nat → Int32) (sh : Nat → Nat) (mb : Nat → Nat) (pr : Nat) (B : Nat → Nat) (R : Nat → Nat) (sx : Nat) (pt : Nat) (rd : Nat) (wt : Int32) (ln : Nat) (px : Nat → Nat) (x : Int32) (hx9 : x.toInt ≠ 0 ∧ x.toInt ≠ 1 ∧ x.toInt ≠ 2) : rw_i l y_MO_in b_MO_in 3 (some .int) { frames := 2, cells := 0, slots := 0, locals := 40 } D (kT k) (mW q k cd wd se kd bn sh mb pr B R sx pt rd wt ln px) [.ref (q 0), .int x] (fun (r : Int32) (_ : Unit) => r = nI 255) (fun (_ : Unit) => (mW q k (nI 0) wd se kd bn sh mb pr B R sx pt rd wt ln px)) := by
  refine rw_headi (by decide) (Nat.le_of_ble_eq_true rfl) ?_
  intro p e s m below meth c ls A hx hb hr hlocks hml hown hts hK hA hP hD hS hl
  have hown : s.vm.findClass "SlotScreenModel" = some m.cls := hown
  have hl : lv_has ls 3 [(0, .ref (q 0)), (1, .int x)] := hl
  refine lv_aload_n hx hb d_MO_in_0 rfl (lv_at hl 0 rfl) ?_
  refine lv_iconst (v := nI 0) hx hb d_MO_in_1 (by decide +kernel) ?_
  refine va_put (D := D) (ci := 7) (v := .int (nI 0)) (ty := .int) (C := R_MO) (T := T_MO) (N := 16) hx hb hts in_MO t_MO o_MO n_MO hown hK hP hD hS 0 rfl rfl 0 (by decide) (hts _ w_530) (fun _ h9 => h9) rfl (by decide +kernel) rfl rfl (Nat.le_of_ble_eq_true rfl) d_MO_in_2 (fun H locs hP hD hS => ?_)
  have hP : va_P D vwCl (mW q k (nI 0) wd se kd bn sh mb pr B R sx pt rd wt ln px) H := hP
  have hD : va_D A (mW q k (nI 0) wd se kd bn sh mb pr B R sx pt rd wt ln px) := hD
  refine lv_iload_n hx hb d_MO_in_5 rfl (lv_at hl 1 rfl) ?_
  refine lv_iconst (v := nI 2) hx hb d_MO_in_6 (by decide +kernel) ?_
  refine lv_icmp_ne (tgt := 15) hx hb d_MO_in_7 (by decide) (fun c1 => ?_) (fun c1 => ?_)
  · have c1 := mt (zn_eq (by omega)).mpr c1
    refine lv_iload_n hx hb d_MO_in_15 rfl (lv_at hl 1 rfl) ?_
    refine lv_if_eq (tgt := 28) hx hb d_MO_in_16 (by decide) (fun c2 => ?_) (fun c2 => ?_)
    · have c2 := (z_eq0).mp c2
      exfalso; omega
    · have c2 := mt (z_eq0).mpr c2
      refine lv_iload_n hx hb d_MO_in_19 rfl (lv_at hl 1 rfl) ?_
      refine lv_iconst (v := nI 1) hx hb d_MO_in_20 (by decide +kernel) ?_
      refine lv_icmp_eq (tgt := 28) hx hb d_MO_in_21 (by decide) (fun c3 => ?_) (fun c3 => ?_)
      · have c3 := (zn_eq (by omega)).mp c3
        exfalso; omega
      · have c3 := mt (zn_eq (by omega)).mpr c3
        refine lv_sipush (v := nI 255) hx hb d_MO_in_24 (by decide +kernel) ?_
        exact rw_reti hx hb hr hlocks d_MO_in_27 hS () (rfl) hP
  · have c1 := (zn_eq (by omega)).mp c1
    exfalso; omega
set_option maxHeartbeats 4000000 in
set_option maxRecDepth 100000 in
theorem c_MO_in0 (l : Launch) (D : va_G) (k : Nat → ClassId) (q : Nat → Nat) (cd : Int32) (wd : Nat → Nat) (se : Nat → Nat) (kd : Nat → Nat) (bn : Nat → Int32) (sh : Nat → Nat) (mb : Nat → Nat) (pr : Nat) (B : Nat → Nat) (R : Nat → Nat) (sx : Nat) (pt : Nat) (rd : Nat) (wt : Int32) (ln : Nat) (px : Nat → Nat) (hpt : pt < 512) : rw_i l y_MO_in b_MO_in 3 (some .int) { frames := 2, cells := 0, slots := 0, locals := 40 } D (kT k) (mW q k cd wd se kd bn sh mb pr B R sx pt rd wt ln px) [.ref (q 0), .int (nI 0)] (fun (r : Int32) (_ : Unit) => r = nI rd) (fun (_ : Unit) => (mW q k (nI 0) wd se kd bn sh mb pr B R sx ((pt + 1) % 512) (B pt) (-1) ln px)) := by
  refine rw_headi (by decide) (Nat.le_of_ble_eq_true rfl) ?_
  intro p e s m below meth c ls A hx hb hr hlocks hml hown hts hK hA hP hD hS hl
  have hown : s.vm.findClass "SlotScreenModel" = some m.cls := hown
  have hl : lv_has ls 3 [(0, .ref (q 0)), (1, .int (nI 0))] := hl
  refine lv_aload_n hx hb d_MO_in_0 rfl (lv_at hl 0 rfl) ?_
  refine lv_iconst (v := nI 0) hx hb d_MO_in_1 (by decide +kernel) ?_
  refine va_put (D := D) (ci := 7) (v := .int (nI 0)) (ty := .int) (C := R_MO) (T := T_MO) (N := 16) hx hb hts in_MO t_MO o_MO n_MO hown hK hP hD hS 0 rfl rfl 0 (by decide) (hts _ w_530) (fun _ h9 => h9) rfl (by decide +kernel) rfl rfl (Nat.le_of_ble_eq_true rfl) d_MO_in_2 (fun H locs hP hD hS => ?_)
  have hP : va_P D vwCl (mW q k (nI 0) wd se kd bn sh mb pr B R sx pt rd wt ln px) H := hP
  have hD : va_D A (mW q k (nI 0) wd se kd bn sh mb pr B R sx pt rd wt ln px) := hD
  refine lv_iload_n hx hb d_MO_in_5 rfl (lv_at hl 1 rfl) ?_
  refine lv_iconst (v := nI 2) hx hb d_MO_in_6 (by decide +kernel) ?_
  refine lv_icmp_ne (tgt := 15) hx hb d_MO_in_7 (by decide) (fun c1 => ?_) (fun c1 => ?_)
  · have c1 := mt (nI_eq (by omega) (by omega)).mpr c1
    refine lv_iload_n hx hb d_MO_in_15 rfl (lv_at hl 1 rfl) ?_
    refine lv_if_eq (tgt := 28) hx hb d_MO_in_16 (by decide) (fun c2 => ?_) (fun c2 => ?_)
    · have c2 := (n_eq0 (by omega)).mp c2
      refine lv_aload_n hx hb d_MO_in_28 rfl (lv_at hl 0 rfl) ?_
      refine lv_iconst (v := (-1)) hx hb d_MO_in_29 (by decide +kernel) ?_
      refine va_put (D := D) (ci := 7) (v := .int (-1)) (ty := .int) (C := R_MO) (T := T_MO) (N := 16) hx hb hts in_MO t_MO o_MO n_MO hown hK hP hD hS 0 rfl rfl 13 (by decide) (hts _ w_543) (fun _ h9 => h9) rfl (by decide +kernel) rfl rfl (Nat.le_of_ble_eq_true rfl) d_MO_in_30 (fun H locs hP hD hS => ?_)
      have hP : va_P D vwCl (mW q k (nI 0) wd se kd bn sh mb pr B R sx pt rd (-1) ln px) H := hP
      have hD : va_D A (mW q k (nI 0) wd se kd bn sh mb pr B R sx pt rd (-1) ln px) := hD
      refine lv_iload_n hx hb d_MO_in_33 rfl (lv_at hl 1 rfl) ?_
      refine lv_if_ne (tgt := 44) hx hb d_MO_in_34 (by decide) (fun c3 => ?_) (fun c3 => ?_)
      · have c3 := mt (n_eq0 (by omega)).mpr c3
        exfalso; omega
      · have c3 := (n_eq0 (by omega)).mp c3
        refine lv_aload_n hx hb d_MO_in_37 rfl (lv_at hl 0 rfl) ?_
        refine va_get (D := D) (ci := 7) (v := .int (nI rd)) (C := R_MO) (T := T_MO) (N := 16) hx hb hts in_MO hown hK hP 0 rfl rfl 12 (by decide) (hts _ w_542) (fun _ h9 => h9) rfl d_MO_in_38 ?_
        refine lv_goto (tgt := 48) hx hb d_MO_in_41 (by decide) ?_
        refine lv_istore_n (lv' := [(2, .int (nI rd)), (0, .ref (q 0)), (1, .int (nI 0))]) hx hb d_MO_in_48 rfl hl (by decide) rfl (fun ls hl => ?_)
        refine lv_iload_n hx hb d_MO_in_49 rfl (lv_at hl 2 rfl) ?_
        refine lv_if_ne (tgt := 60) hx hb d_MO_in_50 (by decide) (fun c4 => ?_) (fun c4 => ?_)
        · have c4 := mt (n_eq0 (by omega)).mpr c4
          exfalso; omega
        · have c4 := (n_eq0 (by omega)).mp c4
          refine lv_aload_n hx hb d_MO_in_53 rfl (lv_at hl 1 rfl) ?_
          refine kw_vV (As := []) (rest := []) ⟨hx, hb, hml, hown, hts⟩ (c_MO_fetch l D k q (nI 0) wd se kd bn sh mb pr B R sx pt rd (-1) ln px (by omega)) (cwV 0 hts (gV w_633 w_635 w_p17 w_5 w_636) rfl rfl rfl (by decide +kernel) ⟨Nat.le_of_ble_eq_true rfl, Nat.le_of_ble_eq_true rfl⟩) hK hP hD hS hA (va_recv hK hP (ci := 7) (q0 := 0) rfl rfl) rfl hl.1 rfl (Nat.le_of_ble_eq_true rfl) d_MO_in_54 ⟨Nat.zero_le _, Nat.zero_le _⟩ (fun _ H locs _ hP _ hS => ?_)
          have hD : va_D A (mW q k (nI 0) wd se kd bn sh mb pr B R sx ((pt + 1) % 512) (B pt) (-1) ln px) := rw_same hD rfl
          have hP : va_P D vwCl (mW q k (nI 0) wd se kd bn sh mb pr B R sx ((pt + 1) % 512) (B pt) (-1) ln px) H := hP
          refine lv_goto (tgt := 71) hx hb d_MO_in_57 (by decide) ?_
          refine lv_iload_n hx hb d_MO_in_71 rfl (lv_at hl 0 rfl) ?_
          exact rw_reti hx hb hr hlocks d_MO_in_72 hS () (rfl) hP
    · have c2 := mt (n_eq0 (by omega)).mpr c2
      exfalso; omega
  · have c1 := (nI_eq (by omega) (by omega)).mp c1
    exfalso; omega
set_option maxHeartbeats 4000000 in
set_option maxRecDepth 100000 in
theorem c_MO_in1 (l : Launch) (D : va_G) (k : Nat → ClassId) (q : Nat → Nat) (cd : Int32) (wd : Nat → Nat) (se : Nat → Nat) (kd : Nat → Nat) (bn : Nat → Int32) (sh : Nat → Nat) (mb : Nat → Nat) (pr : Nat) (B : Nat → Nat) (R : Nat → Nat) (sx : Nat) (pt : Nat) (rd : Nat) (wt : Int32) (ln : Nat) (px : Nat → Nat) (hsx : sx < 256) : rw_i l y_MO_in b_MO_in 3 (some .int) { frames := 2, cells := 0, slots := 0, locals := 40 } D (kT k) (mW q k cd wd se kd bn sh mb pr B R sx pt rd wt ln px) [.ref (q 0), .int (nI 1)] (fun (r : Int32) (_ : Unit) => r = nI sx) (fun (_ : Unit) => (mW q k (nI 0) wd se kd bn sh mb pr B R (sx % 32) pt rd (-1) ln px)) := by
  refine rw_headi (by decide) (Nat.le_of_ble_eq_true rfl) ?_
  intro p e s m below meth c ls A hx hb hr hlocks hml hown hts hK hA hP hD hS hl
  have hown : s.vm.findClass "SlotScreenModel" = some m.cls := hown
  have hl : lv_has ls 3 [(0, .ref (q 0)), (1, .int (nI 1))] := hl
  refine lv_aload_n hx hb d_MO_in_0 rfl (lv_at hl 0 rfl) ?_
  refine lv_iconst (v := nI 0) hx hb d_MO_in_1 (by decide +kernel) ?_
  refine va_put (D := D) (ci := 7) (v := .int (nI 0)) (ty := .int) (C := R_MO) (T := T_MO) (N := 16) hx hb hts in_MO t_MO o_MO n_MO hown hK hP hD hS 0 rfl rfl 0 (by decide) (hts _ w_530) (fun _ h9 => h9) rfl (by decide +kernel) rfl rfl (Nat.le_of_ble_eq_true rfl) d_MO_in_2 (fun H locs hP hD hS => ?_)
  have hP : va_P D vwCl (mW q k (nI 0) wd se kd bn sh mb pr B R sx pt rd wt ln px) H := hP
  have hD : va_D A (mW q k (nI 0) wd se kd bn sh mb pr B R sx pt rd wt ln px) := hD
  refine lv_iload_n hx hb d_MO_in_5 rfl (lv_at hl 1 rfl) ?_
  refine lv_iconst (v := nI 2) hx hb d_MO_in_6 (by decide +kernel) ?_
  refine lv_icmp_ne (tgt := 15) hx hb d_MO_in_7 (by decide) (fun c1 => ?_) (fun c1 => ?_)
  · have c1 := mt (nI_eq (by omega) (by omega)).mpr c1
    refine lv_iload_n hx hb d_MO_in_15 rfl (lv_at hl 1 rfl) ?_
    refine lv_if_eq (tgt := 28) hx hb d_MO_in_16 (by decide) (fun c2 => ?_) (fun c2 => ?_)
    · have c2 := (n_eq0 (by omega)).mp c2
      exfalso; omega
    · have c2 := mt (n_eq0 (by omega)).mpr c2
      refine lv_iload_n hx hb d_MO_in_19 rfl (lv_at hl 1 rfl) ?_
      refine lv_iconst (v := nI 1) hx hb d_MO_in_20 (by decide +kernel) ?_
      refine lv_icmp_eq (tgt := 28) hx hb d_MO_in_21 (by decide) (fun c3 => ?_) (fun c3 => ?_)
      · have c3 := (nI_eq (by omega) (by omega)).mp c3
        refine lv_aload_n hx hb d_MO_in_28 rfl (lv_at hl 0 rfl) ?_
        refine lv_iconst (v := (-1)) hx hb d_MO_in_29 (by decide +kernel) ?_
        refine va_put (D := D) (ci := 7) (v := .int (-1)) (ty := .int) (C := R_MO) (T := T_MO) (N := 16) hx hb hts in_MO t_MO o_MO n_MO hown hK hP hD hS 0 rfl rfl 13 (by decide) (hts _ w_543) (fun _ h9 => h9) rfl (by decide +kernel) rfl rfl (Nat.le_of_ble_eq_true rfl) d_MO_in_30 (fun H locs hP hD hS => ?_)
        have hP : va_P D vwCl (mW q k (nI 0) wd se kd bn sh mb pr B R sx pt rd (-1) ln px) H := hP
        have hD : va_D A (mW q k (nI 0) wd se kd bn sh mb pr B R sx pt rd (-1) ln px) := hD
        refine lv_iload_n hx hb d_MO_in_33 rfl (lv_at hl 1 rfl) ?_
        refine lv_if_ne (tgt := 44) hx hb d_MO_in_34 (by decide) (fun c4 => ?_) (fun c4 => ?_)
        · have c4 := mt (n_eq0 (by omega)).mpr c4
          refine lv_aload_n hx hb d_MO_in_44 rfl (lv_at hl 0 rfl) ?_
          refine va_get (D := D) (ci := 7) (v := .int (nI sx)) (C := R_MO) (T := T_MO) (N := 16) hx hb hts in_MO hown hK hP 0 rfl rfl 10 (by decide) (hts _ w_540) (fun _ h9 => h9) rfl d_MO_in_45 ?_
          refine lv_istore_n (lv' := [(2, .int (nI sx)), (0, .ref (q 0)), (1, .int (nI 1))]) hx hb d_MO_in_48 rfl hl (by decide) rfl (fun ls hl => ?_)
          refine lv_iload_n hx hb d_MO_in_49 rfl (lv_at hl 2 rfl) ?_
          refine lv_if_ne (tgt := 60) hx hb d_MO_in_50 (by decide) (fun c5 => ?_) (fun c5 => ?_)
          · have c5 := mt (n_eq0 (by omega)).mpr c5
            refine lv_aload_n hx hb d_MO_in_60 rfl (lv_at hl 1 rfl) ?_
            refine lv_aload_n hx hb d_MO_in_61 rfl (lv_at hl 1 rfl) ?_
            refine va_get (D := D) (ci := 7) (v := .int (nI sx)) (C := R_MO) (T := T_MO) (N := 16) hx hb hts in_MO hown hK hP 0 rfl rfl 10 (by decide) (hts _ w_540) (fun _ h9 => h9) rfl d_MO_in_62 ?_
            refine lv_bipush (v := nI 32) hx hb d_MO_in_65 (by decide +kernel) ?_
            refine lv_irem hx hb d_MO_in_67 (by first | decide +kernel | exact nI_ne0 (by omega) (by omega)) ?_
            refine ss_rt (y := nI (sx % 32)) (pk_rem (by omega) (by omega) (by omega)) ?_
            refine va_put (D := D) (ci := 7) (v := .int (nI (sx % 32))) (ty := .int) (C := R_MO) (T := T_MO) (N := 16) hx hb hts in_MO t_MO o_MO n_MO hown hK hP hD hS 0 rfl rfl 10 (by decide) (hts _ w_540) (fun _ h9 => h9) rfl (by decide +kernel) rfl rfl (Nat.le_of_ble_eq_true rfl) d_MO_in_68 (fun H locs hP hD hS => ?_)
            have hP : va_P D vwCl (mW q k (nI 0) wd se kd bn sh mb pr B R (sx % 32) pt rd (-1) ln px) H := hP
            have hD : va_D A (mW q k (nI 0) wd se kd bn sh mb pr B R (sx % 32) pt rd (-1) ln px) := hD
            refine lv_iload_n hx hb d_MO_in_71 rfl (lv_at hl 0 rfl) ?_
            exact rw_reti hx hb hr hlocks d_MO_in_72 hS () (rfl) hP
          · have c5 := (n_eq0 (by omega)).mp c5
            exfalso; omega
        · have c4 := (n_eq0 (by omega)).mp c4
          exfalso; omega
      · have c3 := mt (nI_eq (by omega) (by omega)).mpr c3
        exfalso; omega
  · have c1 := (nI_eq (by omega) (by omega)).mp c1
    exfalso; omega
set_option maxHeartbeats 4000000 in
set_option maxRecDepth 100000 in
theorem c_MO_controlN (l : Launch) (D : va_G) (k : Nat → ClassId) (q : Nat → Nat) (cd : Int32) (wd : Nat → Nat) (se : Nat → Nat) (kd : Nat → Nat) (bn : Nat → Int32) (sh : Nat → Nat) (mb : Nat → Nat) (pr : Nat) (B : Nat → Nat) (R : Nat → Nat) (sx : Nat) (pt : Nat) (rd : Nat) (ln : Nat) (px : Nat → Nat) (v : Nat) (hv : v < 256) : rw_v l y_MO_control b_MO_control 2 none { frames := 2, cells := 0, slots := 0, locals := 40 } D (kT k) (mW q k cd wd se kd bn sh mb pr B R sx pt rd (-1) ln px) [.ref (q 0), .int (nI v)] (fun (_ : Unit) => True) (fun (_ : Unit) => (mW q k cd wd se kd bn sh mb pr B R sx pt rd (nI v) ln px)) := by
  refine rw_headv (by decide) (Nat.le_of_ble_eq_true rfl) ?_
  intro p e s m below meth c ls A hx hb hr hlocks hml hown hts hK hA hP hD hS hl
  have hown : s.vm.findClass "SlotScreenModel" = some m.cls := hown
  have hl : lv_has ls 2 [(0, .ref (q 0)), (1, .int (nI v))] := hl
  refine lv_aload_n hx hb d_MO_control_0 rfl (lv_at hl 0 rfl) ?_
  refine va_get (D := D) (ci := 7) (v := .int (-1)) (C := R_MO) (T := T_MO) (N := 16) hx hb hts in_MO hown hK hP 0 rfl rfl 13 (by decide) (hts _ w_543) (fun _ h9 => h9) rfl d_MO_control_1 ?_
  refine lv_if_ge (tgt := 13) hx hb d_MO_control_4 (by decide) (fun c1 => ?_) (fun c1 => ?_)
  · have c1 := (z_ge0).mp c1
    exact absurd c1 (by decide +kernel)
  · have c1 := mt (z_ge0).mpr c1
    refine lv_aload_n hx hb d_MO_control_7 rfl (lv_at hl 0 rfl) ?_
    refine lv_iload_n hx hb d_MO_control_8 rfl (lv_at hl 1 rfl) ?_
    refine va_put (D := D) (ci := 7) (v := .int (nI v)) (ty := .int) (C := R_MO) (T := T_MO) (N := 16) hx hb hts in_MO t_MO o_MO n_MO hown hK hP hD hS 0 rfl rfl 13 (by decide) (hts _ w_543) (fun _ h9 => h9) rfl (by decide +kernel) rfl rfl (Nat.le_of_ble_eq_true rfl) d_MO_control_9 (fun H locs hP hD hS => ?_)
    have hP : va_P D vwCl (mW q k cd wd se kd bn sh mb pr B R sx pt rd (nI v) ln px) H := hP
    have hD : va_D A (mW q k cd wd se kd bn sh mb pr B R sx pt rd (nI v) ln px) := hD
    exact rw_retv hx hb hr hlocks d_MO_control_12 hS () (trivial) hP
set_option maxHeartbeats 4000000 in
set_option maxRecDepth 100000 in
theorem c_MO_controlR (l : Launch) (D : va_G) (k : Nat → ClassId) (q : Nat → Nat) (cd : Int32) (wd : Nat → Nat) (se : Nat → Nat) (kd : Nat → Nat) (bn : Nat → Int32) (sh : Nat → Nat) (mb : Nat → Nat) (pr : Nat) (B : Nat → Nat) (R : Nat → Nat) (sx : Nat) (pt : Nat) (rd : Nat) (ln : Nat) (px : Nat → Nat) (a v : Nat) (ha : a < 256) (hv : v < 256) (h1 : 127 < v) : rw_v l y_MO_control b_MO_control 2 none { frames := 2, cells := 0, slots := 0, locals := 40 } D (kT k) (mW q k cd wd se kd bn sh mb pr B R sx pt rd (nI a) ln px) [.ref (q 0), .int (nI v)] (fun (_ : Unit) => True) (fun (_ : Unit) => (mW q k cd wd se kd bn sh mb pr B (ss_up R (v % 8) a) sx pt rd (-1) ln px)) := by
  refine rw_headv (by decide) (Nat.le_of_ble_eq_true rfl) ?_
  intro p e s m below meth c ls A hx hb hr hlocks hml hown hts hK hA hP hD hS hl
  have hown : s.vm.findClass "SlotScreenModel" = some m.cls := hown
  have hl : lv_has ls 2 [(0, .ref (q 0)), (1, .int (nI v))] := hl
  refine lv_aload_n hx hb d_MO_control_0 rfl (lv_at hl 0 rfl) ?_
  refine va_get (D := D) (ci := 7) (v := .int (nI a)) (C := R_MO) (T := T_MO) (N := 16) hx hb hts in_MO hown hK hP 0 rfl rfl 13 (by decide) (hts _ w_543) (fun _ h9 => h9) rfl d_MO_control_1 ?_
  refine lv_if_ge (tgt := 13) hx hb d_MO_control_4 (by decide) (fun c1 => ?_) (fun c1 => ?_)
  · have c1 := (n_ge0 (by omega)).mp c1
    refine lv_iload_n hx hb d_MO_control_13 rfl (lv_at hl 1 rfl) ?_
    refine lv_bipush (v := nI 127) hx hb d_MO_control_14 (by decide +kernel) ?_
    refine lv_icmp_le (tgt := 35) hx hb d_MO_control_16 (by decide) (fun c2 => ?_) (fun c2 => ?_)
    · have c2 := (nI_leI (by omega) (by omega)).mp c2
      exfalso; omega
    · have c2 := mt (nI_leI (by omega) (by omega)).mpr c2
      refine lv_aload_n hx hb d_MO_control_19 rfl (lv_at hl 0 rfl) ?_
      refine va_get (D := D) (ci := 7) (v := .ref (q 8)) (C := R_MO) (T := T_MO) (N := 16) hx hb hts in_MO hown hK hP 0 rfl rfl 9 (by decide) (hts _ w_539) (fun _ h9 => h9) rfl d_MO_control_20 ?_
      refine lv_iload_n hx hb d_MO_control_23 rfl (lv_at hl 1 rfl) ?_
      refine lv_bipush (v := nI 8) hx hb d_MO_control_24 (by decide +kernel) ?_
      refine lv_irem hx hb d_MO_control_26 (by first | decide +kernel | exact nI_ne0 (by omega) (by omega)) ?_
      refine ss_rt (y := nI (v % 8)) (pk_rem (by omega) (by omega) (by omega)) ?_
      refine lv_aload_n hx hb d_MO_control_27 rfl (lv_at hl 0 rfl) ?_
      refine va_get (D := D) (ci := 7) (v := .int (nI a)) (C := R_MO) (T := T_MO) (N := 16) hx hb hts in_MO hown hK hP 0 rfl rfl 13 (by decide) (hts _ w_543) (fun _ h9 => h9) rfl d_MO_control_28 ?_
      refine va_iast hx hb hK hP hD hS 8 0 rfl rfl (vp_in_nI (by omega) (by omega)) d_MO_control_31 (fun H locs hP hD hS => ?_)
      rw [ss_upI R (k := (v % 8)) (v := a) (by omega)] at hP hD
      have hP : va_P D vwCl (mW q k cd wd se kd bn sh mb pr B (ss_up R (v % 8) a) sx pt rd (nI a) ln px) H := hP
      have hD : va_D A (mW q k cd wd se kd bn sh mb pr B (ss_up R (v % 8) a) sx pt rd (nI a) ln px) := hD
      refine lv_goto (tgt := 61) hx hb d_MO_control_32 (by decide) ?_
      refine lv_aload_n hx hb d_MO_control_61 rfl (lv_at hl 0 rfl) ?_
      refine lv_iconst (v := (-1)) hx hb d_MO_control_62 (by decide +kernel) ?_
      refine va_put (D := D) (ci := 7) (v := .int (-1)) (ty := .int) (C := R_MO) (T := T_MO) (N := 16) hx hb hts in_MO t_MO o_MO n_MO hown hK hP hD hS 0 rfl rfl 13 (by decide) (hts _ w_543) (fun _ h9 => h9) rfl (by decide +kernel) rfl rfl (Nat.le_of_ble_eq_true rfl) d_MO_control_63 (fun H locs hP hD hS => ?_)
      have hP : va_P D vwCl (mW q k cd wd se kd bn sh mb pr B (ss_up R (v % 8) a) sx pt rd (-1) ln px) H := hP
      have hD : va_D A (mW q k cd wd se kd bn sh mb pr B (ss_up R (v % 8) a) sx pt rd (-1) ln px) := hD
      exact rw_retv hx hb hr hlocks d_MO_control_66 hS () (trivial) hP
  · have c1 := mt (n_ge0 (by omega)).mpr c1
    exfalso; omega
set_option maxHeartbeats 4000000 in
set_option maxRecDepth 100000 in
theorem c_MO_controlP (l : Launch) (D : va_G) (k : Nat → ClassId) (q : Nat → Nat) (cd : Int32) (wd : Nat → Nat) (se : Nat → Nat) (kd : Nat → Nat) (bn : Nat → Int32) (sh : Nat → Nat) (mb : Nat → Nat) (pr : Nat) (B : Nat → Nat) (R : Nat → Nat) (sx : Nat) (pt : Nat) (rd : Nat) (ln : Nat) (px : Nat → Nat) (a v : Nat) (ha : a < 256) (hv : v < 256) (h1 : v ≤ 127) (h2 : 64 ≤ v) : rw_v l y_MO_control b_MO_control 2 none { frames := 2, cells := 0, slots := 0, locals := 40 } D (kT k) (mW q k cd wd se kd bn sh mb pr B R sx pt rd (nI a) ln px) [.ref (q 0), .int (nI v)] (fun (_ : Unit) => True) (fun (_ : Unit) => (mW q k cd wd se kd bn sh mb pr B R sx (a + 256 * (v % 2)) rd (-1) ln px)) := by
  refine rw_headv (by decide) (Nat.le_of_ble_eq_true rfl) ?_
  intro p e s m below meth c ls A hx hb hr hlocks hml hown hts hK hA hP hD hS hl
  have hown : s.vm.findClass "SlotScreenModel" = some m.cls := hown
  have hl : lv_has ls 2 [(0, .ref (q 0)), (1, .int (nI v))] := hl
  refine lv_aload_n hx hb d_MO_control_0 rfl (lv_at hl 0 rfl) ?_
  refine va_get (D := D) (ci := 7) (v := .int (nI a)) (C := R_MO) (T := T_MO) (N := 16) hx hb hts in_MO hown hK hP 0 rfl rfl 13 (by decide) (hts _ w_543) (fun _ h9 => h9) rfl d_MO_control_1 ?_
  refine lv_if_ge (tgt := 13) hx hb d_MO_control_4 (by decide) (fun c1 => ?_) (fun c1 => ?_)
  · have c1 := (n_ge0 (by omega)).mp c1
    refine lv_iload_n hx hb d_MO_control_13 rfl (lv_at hl 1 rfl) ?_
    refine lv_bipush (v := nI 127) hx hb d_MO_control_14 (by decide +kernel) ?_
    refine lv_icmp_le (tgt := 35) hx hb d_MO_control_16 (by decide) (fun c2 => ?_) (fun c2 => ?_)
    · have c2 := (nI_leI (by omega) (by omega)).mp c2
      refine lv_aload_n hx hb d_MO_control_35 rfl (lv_at hl 0 rfl) ?_
      refine lv_aload_n hx hb d_MO_control_36 rfl (lv_at hl 0 rfl) ?_
      refine va_get (D := D) (ci := 7) (v := .int (nI a)) (C := R_MO) (T := T_MO) (N := 16) hx hb hts in_MO hown hK hP 0 rfl rfl 13 (by decide) (hts _ w_543) (fun _ h9 => h9) rfl d_MO_control_37 ?_
      refine lv_sipush (v := nI 256) hx hb d_MO_control_40 (by decide +kernel) ?_
      refine lv_iload_n hx hb d_MO_control_43 rfl (lv_at hl 1 rfl) ?_
      refine lv_iconst (v := nI 2) hx hb d_MO_control_44 (by decide +kernel) ?_
      refine lv_irem hx hb d_MO_control_45 (by first | decide +kernel | exact nI_ne0 (by omega) (by omega)) ?_
      refine ss_rt (y := nI (v % 2)) (pk_rem (by omega) (by omega) (by omega)) ?_
      refine lv_imul hx hb d_MO_control_46 ?_
      refine ss_rt (y := nI (256 * (v % 2))) (pk_mul _ _) ?_
      refine lv_iadd hx hb d_MO_control_47 ?_
      refine ss_rt (y := nI (a + (256 * (v % 2)))) (nI_add _ _) ?_
      refine va_put (D := D) (ci := 7) (v := .int (nI (a + (256 * (v % 2))))) (ty := .int) (C := R_MO) (T := T_MO) (N := 16) hx hb hts in_MO t_MO o_MO n_MO hown hK hP hD hS 0 rfl rfl 11 (by decide) (hts _ w_541) (fun _ h9 => h9) rfl (by decide +kernel) rfl rfl (Nat.le_of_ble_eq_true rfl) d_MO_control_48 (fun H locs hP hD hS => ?_)
      have hP : va_P D vwCl (mW q k cd wd se kd bn sh mb pr B R sx (a + (256 * (v % 2))) rd (nI a) ln px) H := hP
      have hD : va_D A (mW q k cd wd se kd bn sh mb pr B R sx (a + (256 * (v % 2))) rd (nI a) ln px) := hD
      refine lv_iload_n hx hb d_MO_control_51 rfl (lv_at hl 1 rfl) ?_
      refine lv_bipush (v := nI 64) hx hb d_MO_control_52 (by decide +kernel) ?_
      refine lv_icmp_ge (tgt := 61) hx hb d_MO_control_54 (by decide) (fun c3 => ?_) (fun c3 => ?_)
      · have c3 := (nI_leI (by omega) (by omega)).mp c3
        refine lv_aload_n hx hb d_MO_control_61 rfl (lv_at hl 0 rfl) ?_
        refine lv_iconst (v := (-1)) hx hb d_MO_control_62 (by decide +kernel) ?_
        refine va_put (D := D) (ci := 7) (v := .int (-1)) (ty := .int) (C := R_MO) (T := T_MO) (N := 16) hx hb hts in_MO t_MO o_MO n_MO hown hK hP hD hS 0 rfl rfl 13 (by decide) (hts _ w_543) (fun _ h9 => h9) rfl (by decide +kernel) rfl rfl (Nat.le_of_ble_eq_true rfl) d_MO_control_63 (fun H locs hP hD hS => ?_)
        have hP : va_P D vwCl (mW q k cd wd se kd bn sh mb pr B R sx (a + (256 * (v % 2))) rd (-1) ln px) H := hP
        have hD : va_D A (mW q k cd wd se kd bn sh mb pr B R sx (a + (256 * (v % 2))) rd (-1) ln px) := hD
        exact rw_retv hx hb hr hlocks d_MO_control_66 hS () (trivial) (by rw [show (a + 256 * (v % 2)) = (a + (256 * (v % 2))) from by first | rfl | omega]; exact hP)
      · have c3 := mt (nI_leI (by omega) (by omega)).mpr c3
        exfalso; omega
    · have c2 := mt (nI_leI (by omega) (by omega)).mpr c2
      exfalso; omega
  · have c1 := mt (n_ge0 (by omega)).mpr c1
    exfalso; omega
set_option maxHeartbeats 4000000 in
set_option maxRecDepth 100000 in
theorem c_MO_controlF (l : Launch) (D : va_G) (k : Nat → ClassId) (q : Nat → Nat) (cd : Int32) (wd : Nat → Nat) (se : Nat → Nat) (kd : Nat → Nat) (bn : Nat → Int32) (sh : Nat → Nat) (mb : Nat → Nat) (pr : Nat) (B : Nat → Nat) (R : Nat → Nat) (sx : Nat) (pt : Nat) (rd : Nat) (ln : Nat) (px : Nat → Nat) (a v : Nat) (ha : a < 256) (hv : v < 256) (h2 : v < 64) : rw_v l y_MO_control b_MO_control 2 none { frames := 2, cells := 0, slots := 0, locals := 40 } D (kT k) (mW q k cd wd se kd bn sh mb pr B R sx pt rd (nI a) ln px) [.ref (q 0), .int (nI v)] (fun (_ : Unit) => True) (fun (_ : Unit) => (mW q k cd wd se kd bn sh mb pr B R sx ((a + 256 * (v % 2) + 1) % 512) (B (a + 256 * (v % 2))) (-1) ln px)) := by
  refine rw_headv (by decide) (Nat.le_of_ble_eq_true rfl) ?_
  intro p e s m below meth c ls A hx hb hr hlocks hml hown hts hK hA hP hD hS hl
  have hown : s.vm.findClass "SlotScreenModel" = some m.cls := hown
  have hl : lv_has ls 2 [(0, .ref (q 0)), (1, .int (nI v))] := hl
  refine lv_aload_n hx hb d_MO_control_0 rfl (lv_at hl 0 rfl) ?_
  refine va_get (D := D) (ci := 7) (v := .int (nI a)) (C := R_MO) (T := T_MO) (N := 16) hx hb hts in_MO hown hK hP 0 rfl rfl 13 (by decide) (hts _ w_543) (fun _ h9 => h9) rfl d_MO_control_1 ?_
  refine lv_if_ge (tgt := 13) hx hb d_MO_control_4 (by decide) (fun c1 => ?_) (fun c1 => ?_)
  · have c1 := (n_ge0 (by omega)).mp c1
    refine lv_iload_n hx hb d_MO_control_13 rfl (lv_at hl 1 rfl) ?_
    refine lv_bipush (v := nI 127) hx hb d_MO_control_14 (by decide +kernel) ?_
    refine lv_icmp_le (tgt := 35) hx hb d_MO_control_16 (by decide) (fun c2 => ?_) (fun c2 => ?_)
    · have c2 := (nI_leI (by omega) (by omega)).mp c2
      refine lv_aload_n hx hb d_MO_control_35 rfl (lv_at hl 0 rfl) ?_
      refine lv_aload_n hx hb d_MO_control_36 rfl (lv_at hl 0 rfl) ?_
      refine va_get (D := D) (ci := 7) (v := .int (nI a)) (C := R_MO) (T := T_MO) (N := 16) hx hb hts in_MO hown hK hP 0 rfl rfl 13 (by decide) (hts _ w_543) (fun _ h9 => h9) rfl d_MO_control_37 ?_
      refine lv_sipush (v := nI 256) hx hb d_MO_control_40 (by decide +kernel) ?_
      refine lv_iload_n hx hb d_MO_control_43 rfl (lv_at hl 1 rfl) ?_
      refine lv_iconst (v := nI 2) hx hb d_MO_control_44 (by decide +kernel) ?_
      refine lv_irem hx hb d_MO_control_45 (by first | decide +kernel | exact nI_ne0 (by omega) (by omega)) ?_
      refine ss_rt (y := nI (v % 2)) (pk_rem (by omega) (by omega) (by omega)) ?_
      refine lv_imul hx hb d_MO_control_46 ?_
      refine ss_rt (y := nI (256 * (v % 2))) (pk_mul _ _) ?_
      refine lv_iadd hx hb d_MO_control_47 ?_
      refine ss_rt (y := nI (a + (256 * (v % 2)))) (nI_add _ _) ?_
      refine va_put (D := D) (ci := 7) (v := .int (nI (a + (256 * (v % 2))))) (ty := .int) (C := R_MO) (T := T_MO) (N := 16) hx hb hts in_MO t_MO o_MO n_MO hown hK hP hD hS 0 rfl rfl 11 (by decide) (hts _ w_541) (fun _ h9 => h9) rfl (by decide +kernel) rfl rfl (Nat.le_of_ble_eq_true rfl) d_MO_control_48 (fun H locs hP hD hS => ?_)
      have hP : va_P D vwCl (mW q k cd wd se kd bn sh mb pr B R sx (a + (256 * (v % 2))) rd (nI a) ln px) H := hP
      have hD : va_D A (mW q k cd wd se kd bn sh mb pr B R sx (a + (256 * (v % 2))) rd (nI a) ln px) := hD
      refine lv_iload_n hx hb d_MO_control_51 rfl (lv_at hl 1 rfl) ?_
      refine lv_bipush (v := nI 64) hx hb d_MO_control_52 (by decide +kernel) ?_
      refine lv_icmp_ge (tgt := 61) hx hb d_MO_control_54 (by decide) (fun c3 => ?_) (fun c3 => ?_)
      · have c3 := (nI_leI (by omega) (by omega)).mp c3
        exfalso; omega
      · have c3 := mt (nI_leI (by omega) (by omega)).mpr c3
        refine lv_aload_n hx hb d_MO_control_57 rfl (lv_at hl 0 rfl) ?_
        refine kw_vV (As := []) (rest := []) ⟨hx, hb, hml, hown, hts⟩ (c_MO_fetch l D k q cd wd se kd bn sh mb pr B R sx (a + (256 * (v % 2))) rd (nI a) ln px (by omega)) (cwV 0 hts (gV w_633 w_635 w_p17 w_5 w_636) rfl rfl rfl (by decide +kernel) ⟨Nat.le_of_ble_eq_true rfl, Nat.le_of_ble_eq_true rfl⟩) hK hP hD hS hA (va_recv hK hP (ci := 7) (q0 := 0) rfl rfl) rfl hl.1 rfl (Nat.le_of_ble_eq_true rfl) d_MO_control_58 ⟨Nat.zero_le _, Nat.zero_le _⟩ (fun _ H locs _ hP _ hS => ?_)
        have hD : va_D A (mW q k cd wd se kd bn sh mb pr B R sx (((a + (256 * (v % 2))) + 1) % 512) (B (a + (256 * (v % 2)))) (nI a) ln px) := rw_same hD rfl
        have hP : va_P D vwCl (mW q k cd wd se kd bn sh mb pr B R sx (((a + (256 * (v % 2))) + 1) % 512) (B (a + (256 * (v % 2)))) (nI a) ln px) H := hP
        refine lv_aload_n hx hb d_MO_control_61 rfl (lv_at hl 0 rfl) ?_
        refine lv_iconst (v := (-1)) hx hb d_MO_control_62 (by decide +kernel) ?_
        refine va_put (D := D) (ci := 7) (v := .int (-1)) (ty := .int) (C := R_MO) (T := T_MO) (N := 16) hx hb hts in_MO t_MO o_MO n_MO hown hK hP hD hS 0 rfl rfl 13 (by decide) (hts _ w_543) (fun _ h9 => h9) rfl (by decide +kernel) rfl rfl (Nat.le_of_ble_eq_true rfl) d_MO_control_63 (fun H locs hP hD hS => ?_)
        have hP : va_P D vwCl (mW q k cd wd se kd bn sh mb pr B R sx (((a + (256 * (v % 2))) + 1) % 512) (B (a + (256 * (v % 2)))) (-1) ln px) H := hP
        have hD : va_D A (mW q k cd wd se kd bn sh mb pr B R sx (((a + (256 * (v % 2))) + 1) % 512) (B (a + (256 * (v % 2)))) (-1) ln px) := hD
        exact rw_retv hx hb hr hlocks d_MO_control_66 hS () (trivial) (by rw [show ((a + 256 * (v % 2) + 1) % 512) = (((a + (256 * (v % 2))) + 1) % 512) from by first | rfl | omega, show (B (a + 256 * (v % 2))) = (B (a + (256 * (v % 2)))) from by first | rfl | omega]; exact hP)
    · have c2 := mt (nI_leI (by omega) (by omega)).mpr c2
      exfalso; omega
  · have c1 := mt (n_ge0 (by omega)).mpr c1
    exfalso; omega
