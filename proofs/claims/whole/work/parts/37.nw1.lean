set_option maxHeartbeats 4000000 in
set_option maxRecDepth 100000 in
theorem c_DV_init (l : Launch) (D : va_G) (k : Nat → ClassId) (ao : Nat) : nw_v l y_DV_init b_DV_init 1 none { frames := 1, cells := 0, slots := 0, locals := 14 } D (kT k) [] [.ref ao] (fun (_ : Unit) => True) (fun (_ : Unit) => []) := by
  refine nw_headv (by decide) (Nat.le_of_ble_eq_true rfl) ?_
  intro p e s m below meth c ls A hx hb hr hlocks hml hown hin hts hX hK hA hP hD hS hl
  have hown : s.vm.findClass "SlotScreen$Device" = some m.cls := hown
  have hl : lv_has ls 1 [(0, .ref ao)] := hl
  refine lv_aload_n hx hb d_DV_init_0 rfl (lv_at hl 0 rfl) ?_
  refine W.objInit hx hb hown (hts _ w_409) (hts _ w_21) (hts _ w_22) rfl (by rw [hml]; exact hl.1) rfl d_DV_init_1 (Nat.le_of_ble_eq_true rfl) (Nat.le_of_ble_eq_true rfl) ?_
  refine W.eq (g2 := F0 m 4 ls []) rfl ?_
  exact nw_retv hx hb hr hlocks d_DV_init_4 (by show 0 ≤ 0; omega) (by show 0 ≤ 0; omega) hS () trivial hP hD
set_option maxHeartbeats 4000000 in
set_option maxRecDepth 100000 in
theorem c_SL_init (l : Launch) (D : va_G) (k : Nat → ClassId) (ao : Nat) : nw_v l y_SL_init b_SL_init 1 none { frames := 1, cells := 3, slots := 24, locals := 14 } D (kT k) [(ao, .inr (1, [.null, .null, .null, .int (nI 0)]))] [.ref ao] (fun (_ : Nat × Nat × Nat) => True) (fun (u : Nat × Nat × Nat) => [(ao, .inr (1, [.ref u.1, .ref u.2.1, .ref u.2.2, .int (nI 0)])), (u.1, .inl (k 2, 16, .inr (.inr (.inr (.inr (fun _ => none)))))), (u.2.1, .inl (k 1, 4, .inl (fun _ => nI 0))), (u.2.2, .inl (k 0, 4, .inl (fun _ => nI 0)))]) := by
  refine nw_headv (by decide) (Nat.le_of_ble_eq_true rfl) ?_
  intro p e s m below meth c ls A hx hb hr hlocks hml hown hin hts hX hK hA hP hD hS hl
  have hown : s.vm.findClass "SlotScreen$Slots" = some m.cls := hown
  have hl : lv_has ls 1 [(0, .ref ao)] := hl
  refine lv_aload_n hx hb d_SL_init_0 rfl (lv_at hl 0 rfl) ?_
  refine W.objInit hx hb hown (hts _ w_28) (hts _ w_21) (hts _ w_22) rfl (by rw [hml]; exact hl.1) rfl d_SL_init_1 (Nat.le_of_ble_eq_true rfl) (Nat.le_of_ble_eq_true rfl) ?_
  refine W.eq (g2 := F0 m 4 ls []) rfl ?_
  refine lv_aload_n hx hb d_SL_init_4 rfl (lv_at hl 0 rfl) ?_
  refine lv_bipush (v := nI 16) hx hb d_SL_init_5 (by decide +kernel) ?_
  refine nw_newq (n := 16) (i := 2) hx hb hown (hts _ w_29) hX.2 hK rfl hP hD hS hA (by omega) (by show 0 + 1 ≤ 3; omega) (by show 0 + 16 ≤ 24; omega) d_SL_init_7 (fun q1 H hP hD hS => ?_)
  have hP : va_P D vwCl [(ao, .inr (1, [.null, .null, .null, .int (nI 0)])), (q1, .inl (k 2, 16, .inr (.inr (.inr (.inr (fun _ => none))))))] _ := hP
  have hD : va_D A [(ao, .inr (1, [.null, .null, .null, .int (nI 0)])), (q1, .inl (k 2, 16, .inr (.inr (.inr (.inr (fun _ => none))))))] := hD
  refine W.widen (k := 1) (n := 16) (by show 0 + 1 ≤ 1; omega) (by show 0 + 16 ≤ 16; omega) ?_
  refine va_putF (D := D) (ci := 1) (v := .ref q1) (ty := .array (.object "SlotScreen$Device")) (C := R_SL) (T := T_SL) (N := 4) hx hb hts in_SL t_SL o_SL n_SL hown hK hP hD hS 0 rfl rfl 0 (by decide) (hts _ w_31) (fun _ h9 => h9) rfl hin rfl rfl (by first | rfl | decide +kernel) rfl (Nat.le_of_ble_eq_true rfl) d_SL_init_10 (fun H locs hP hD hS => ?_)
  have hP : va_P D vwCl [(ao, .inr (1, [.ref q1, .null, .null, .int (nI 0)])), (q1, .inl (k 2, 16, .inr (.inr (.inr (.inr (fun _ => none))))))] _ := hP
  have hD : va_D A [(ao, .inr (1, [.ref q1, .null, .null, .int (nI 0)])), (q1, .inl (k 2, 16, .inr (.inr (.inr (.inr (fun _ => none))))))] := hD
  refine lv_aload_n hx hb d_SL_init_13 rfl (lv_at hl 0 rfl) ?_
  refine lv_iconst (v := nI 4) hx hb d_SL_init_14 (by decide +kernel) ?_
  refine nw_newa (atype := .boolean) (n := 4) (i := 1) hx hb (hts _ w_44) rfl hK rfl hP hD hS hA (by omega) rfl (by show 4 * 1 ≤ _; omega) (by show 1 + 1 ≤ 3; omega) (by show 16 + 4 ≤ 24; omega) d_SL_init_15 (fun q2 H hP hD hS => ?_)
  have hP : va_P D vwCl [(ao, .inr (1, [.ref q1, .null, .null, .int (nI 0)])), (q1, .inl (k 2, 16, .inr (.inr (.inr (.inr (fun _ => none)))))), (q2, .inl (k 1, 4, .inl (fun _ => nI 0)))] _ := hP
  have hD : va_D A [(ao, .inr (1, [.ref q1, .null, .null, .int (nI 0)])), (q1, .inl (k 2, 16, .inr (.inr (.inr (.inr (fun _ => none)))))), (q2, .inl (k 1, 4, .inl (fun _ => nI 0)))] := hD
  refine W.widen (k := 2) (n := 20) (by show 1 + 1 ≤ 2; omega) (by show 16 + 4 ≤ 20; omega) ?_
  refine va_putF (D := D) (ci := 1) (v := .ref q2) (ty := .array .boolean) (C := R_SL) (T := T_SL) (N := 4) hx hb hts in_SL t_SL o_SL n_SL hown hK hP hD hS 0 rfl rfl 1 (by decide) (hts _ w_32) (fun _ h9 => h9) rfl hin rfl rfl (by first | rfl | decide +kernel) rfl (Nat.le_of_ble_eq_true rfl) d_SL_init_17 (fun H locs hP hD hS => ?_)
  have hP : va_P D vwCl [(ao, .inr (1, [.ref q1, .ref q2, .null, .int (nI 0)])), (q1, .inl (k 2, 16, .inr (.inr (.inr (.inr (fun _ => none)))))), (q2, .inl (k 1, 4, .inl (fun _ => nI 0)))] _ := hP
  have hD : va_D A [(ao, .inr (1, [.ref q1, .ref q2, .null, .int (nI 0)])), (q1, .inl (k 2, 16, .inr (.inr (.inr (.inr (fun _ => none)))))), (q2, .inl (k 1, 4, .inl (fun _ => nI 0)))] := hD
  refine lv_aload_n hx hb d_SL_init_20 rfl (lv_at hl 0 rfl) ?_
  refine lv_iconst (v := nI 4) hx hb d_SL_init_21 (by decide +kernel) ?_
  refine nw_newa (atype := .int) (n := 4) (i := 0) hx hb (hts _ w_45) rfl hK rfl hP hD hS hA (by omega) rfl (by show 4 * 4 ≤ _; omega) (by show 2 + 1 ≤ 3; omega) (by show 20 + 4 ≤ 24; omega) d_SL_init_22 (fun q3 H hP hD hS => ?_)
  have hP : va_P D vwCl [(ao, .inr (1, [.ref q1, .ref q2, .null, .int (nI 0)])), (q1, .inl (k 2, 16, .inr (.inr (.inr (.inr (fun _ => none)))))), (q2, .inl (k 1, 4, .inl (fun _ => nI 0))), (q3, .inl (k 0, 4, .inl (fun _ => nI 0)))] _ := hP
  have hD : va_D A [(ao, .inr (1, [.ref q1, .ref q2, .null, .int (nI 0)])), (q1, .inl (k 2, 16, .inr (.inr (.inr (.inr (fun _ => none)))))), (q2, .inl (k 1, 4, .inl (fun _ => nI 0))), (q3, .inl (k 0, 4, .inl (fun _ => nI 0)))] := hD
  refine W.widen (k := 3) (n := 24) (by show 2 + 1 ≤ 3; omega) (by show 20 + 4 ≤ 24; omega) ?_
  refine va_putF (D := D) (ci := 1) (v := .ref q3) (ty := .array .int) (C := R_SL) (T := T_SL) (N := 4) hx hb hts in_SL t_SL o_SL n_SL hown hK hP hD hS 0 rfl rfl 2 (by decide) (hts _ w_33) (fun _ h9 => h9) rfl hin rfl rfl (by first | rfl | decide +kernel) rfl (Nat.le_of_ble_eq_true rfl) d_SL_init_24 (fun H locs hP hD hS => ?_)
  have hP : va_P D vwCl [(ao, .inr (1, [.ref q1, .ref q2, .ref q3, .int (nI 0)])), (q1, .inl (k 2, 16, .inr (.inr (.inr (.inr (fun _ => none)))))), (q2, .inl (k 1, 4, .inl (fun _ => nI 0))), (q3, .inl (k 0, 4, .inl (fun _ => nI 0)))] _ := hP
  have hD : va_D A [(ao, .inr (1, [.ref q1, .ref q2, .ref q3, .int (nI 0)])), (q1, .inl (k 2, 16, .inr (.inr (.inr (.inr (fun _ => none)))))), (q2, .inl (k 1, 4, .inl (fun _ => nI 0))), (q3, .inl (k 0, 4, .inl (fun _ => nI 0)))] := hD
  exact nw_retv hx hb hr hlocks d_SL_init_27 (by show 3 ≤ 3; omega) (by show 24 ≤ 24; omega) hS (q1, q2, q3) trivial hP hD
set_option maxHeartbeats 4000000 in
set_option maxRecDepth 100000 in
theorem c_CH_init (l : Launch) (D : va_G) (k : Nat → ClassId) (ao : Nat) : nw_v l y_CH_init b_CH_init 1 none { frames := 1, cells := 2, slots := 520, locals := 14 } D (kT k) [(ao, .inr (2, [.null, .null, .int (nI 0), .int (nI 0), .int (nI 0), .int (nI 0)]))] [.ref ao] (fun (_ : Nat × Nat) => True) (fun (u : Nat × Nat) => [(ao, .inr (2, [.ref u.1, .ref u.2, .int (nI 0), .int (nI 0), .int (nI 0), .int (-1)])), (u.1, .inl (k 0, 512, .inl (fun _ => nI 0))), (u.2, .inl (k 0, 8, .inl (fun _ => nI 0)))]) := by
  refine nw_headv (by decide) (Nat.le_of_ble_eq_true rfl) ?_
  intro p e s m below meth c ls A hx hb hr hlocks hml hown hin hts hX hK hA hP hD hS hl
  have hown : s.vm.findClass "SlotScreen$Chip" = some m.cls := hown
  have hl : lv_has ls 1 [(0, .ref ao)] := hl
  refine lv_aload_n hx hb d_CH_init_0 rfl (lv_at hl 0 rfl) ?_
  refine W.objInit hx hb hown (hts _ w_51) (hts _ w_21) (hts _ w_22) rfl (by rw [hml]; exact hl.1) rfl d_CH_init_1 (Nat.le_of_ble_eq_true rfl) (Nat.le_of_ble_eq_true rfl) ?_
  refine W.eq (g2 := F0 m 4 ls []) rfl ?_
  refine lv_aload_n hx hb d_CH_init_4 rfl (lv_at hl 0 rfl) ?_
  refine lv_sipush (v := nI 512) hx hb d_CH_init_5 (by decide +kernel) ?_
  refine nw_newa (atype := .int) (n := 512) (i := 0) hx hb (hts _ w_45) rfl hK rfl hP hD hS hA (by omega) rfl (by show 512 * 4 ≤ _; omega) (by show 0 + 1 ≤ 2; omega) (by show 0 + 512 ≤ 520; omega) d_CH_init_8 (fun q1 H hP hD hS => ?_)
  have hP : va_P D vwCl [(ao, .inr (2, [.null, .null, .int (nI 0), .int (nI 0), .int (nI 0), .int (nI 0)])), (q1, .inl (k 0, 512, .inl (fun _ => nI 0)))] _ := hP
  have hD : va_D A [(ao, .inr (2, [.null, .null, .int (nI 0), .int (nI 0), .int (nI 0), .int (nI 0)])), (q1, .inl (k 0, 512, .inl (fun _ => nI 0)))] := hD
  refine W.widen (k := 1) (n := 512) (by show 0 + 1 ≤ 1; omega) (by show 0 + 512 ≤ 512; omega) ?_
  refine va_putF (D := D) (ci := 2) (v := .ref q1) (ty := .array .int) (C := R_CH) (T := T_CH) (N := 6) hx hb hts in_CH t_CH o_CH n_CH hown hK hP hD hS 0 rfl rfl 0 (by decide) (hts _ w_52) (fun _ h9 => h9) rfl hin rfl rfl (by first | rfl | decide +kernel) rfl (Nat.le_of_ble_eq_true rfl) d_CH_init_10 (fun H locs hP hD hS => ?_)
  have hP : va_P D vwCl [(ao, .inr (2, [.ref q1, .null, .int (nI 0), .int (nI 0), .int (nI 0), .int (nI 0)])), (q1, .inl (k 0, 512, .inl (fun _ => nI 0)))] _ := hP
  have hD : va_D A [(ao, .inr (2, [.ref q1, .null, .int (nI 0), .int (nI 0), .int (nI 0), .int (nI 0)])), (q1, .inl (k 0, 512, .inl (fun _ => nI 0)))] := hD
  refine lv_aload_n hx hb d_CH_init_13 rfl (lv_at hl 0 rfl) ?_
  refine lv_bipush (v := nI 8) hx hb d_CH_init_14 (by decide +kernel) ?_
  refine nw_newa (atype := .int) (n := 8) (i := 0) hx hb (hts _ w_45) rfl hK rfl hP hD hS hA (by omega) rfl (by show 8 * 4 ≤ _; omega) (by show 1 + 1 ≤ 2; omega) (by show 512 + 8 ≤ 520; omega) d_CH_init_16 (fun q2 H hP hD hS => ?_)
  have hP : va_P D vwCl [(ao, .inr (2, [.ref q1, .null, .int (nI 0), .int (nI 0), .int (nI 0), .int (nI 0)])), (q1, .inl (k 0, 512, .inl (fun _ => nI 0))), (q2, .inl (k 0, 8, .inl (fun _ => nI 0)))] _ := hP
  have hD : va_D A [(ao, .inr (2, [.ref q1, .null, .int (nI 0), .int (nI 0), .int (nI 0), .int (nI 0)])), (q1, .inl (k 0, 512, .inl (fun _ => nI 0))), (q2, .inl (k 0, 8, .inl (fun _ => nI 0)))] := hD
  refine W.widen (k := 2) (n := 520) (by show 1 + 1 ≤ 2; omega) (by show 512 + 8 ≤ 520; omega) ?_
  refine va_putF (D := D) (ci := 2) (v := .ref q2) (ty := .array .int) (C := R_CH) (T := T_CH) (N := 6) hx hb hts in_CH t_CH o_CH n_CH hown hK hP hD hS 0 rfl rfl 1 (by decide) (hts _ w_53) (fun _ h9 => h9) rfl hin rfl rfl (by first | rfl | decide +kernel) rfl (Nat.le_of_ble_eq_true rfl) d_CH_init_18 (fun H locs hP hD hS => ?_)
  have hP : va_P D vwCl [(ao, .inr (2, [.ref q1, .ref q2, .int (nI 0), .int (nI 0), .int (nI 0), .int (nI 0)])), (q1, .inl (k 0, 512, .inl (fun _ => nI 0))), (q2, .inl (k 0, 8, .inl (fun _ => nI 0)))] _ := hP
  have hD : va_D A [(ao, .inr (2, [.ref q1, .ref q2, .int (nI 0), .int (nI 0), .int (nI 0), .int (nI 0)])), (q1, .inl (k 0, 512, .inl (fun _ => nI 0))), (q2, .inl (k 0, 8, .inl (fun _ => nI 0)))] := hD
  refine lv_aload_n hx hb d_CH_init_21 rfl (lv_at hl 0 rfl) ?_
  refine lv_iconst (v := (-1)) hx hb d_CH_init_22 (by decide +kernel) ?_
  refine va_put (D := D) (ci := 2) (v := .int (-1)) (ty := .int) (C := R_CH) (T := T_CH) (N := 6) hx hb hts in_CH t_CH o_CH n_CH hown hK hP hD hS 0 rfl rfl 5 (by decide) (hts _ w_57) (fun _ h9 => h9) rfl rfl (by first | rfl | decide +kernel) rfl (Nat.le_of_ble_eq_true rfl) d_CH_init_23 (fun H locs hP hD hS => ?_)
  have hP : va_P D vwCl [(ao, .inr (2, [.ref q1, .ref q2, .int (nI 0), .int (nI 0), .int (nI 0), .int (-1)])), (q1, .inl (k 0, 512, .inl (fun _ => nI 0))), (q2, .inl (k 0, 8, .inl (fun _ => nI 0)))] _ := hP
  have hD : va_D A [(ao, .inr (2, [.ref q1, .ref q2, .int (nI 0), .int (nI 0), .int (nI 0), .int (-1)])), (q1, .inl (k 0, 512, .inl (fun _ => nI 0))), (q2, .inl (k 0, 8, .inl (fun _ => nI 0)))] := hD
  exact nw_retv hx hb hr hlocks d_CH_init_26 (by show 2 ≤ 2; omega) (by show 520 ≤ 520; omega) hS (q1, q2) trivial hP hD
set_option maxHeartbeats 4000000 in
set_option maxRecDepth 100000 in
theorem c_SC_init (l : Launch) (D : va_G) (k : Nat → ClassId) (ao co : Nat) : nw_v l y_SC_init b_SC_init 2 none { frames := 1, cells := 1, slots := 2048, locals := 14 } D (kT k) [(ao, .inr (3, [.null, .null, .int (nI 0), .long (lN 0), .long (lN 0)]))] [.ref ao, .ref co] (fun (_ : Nat) => True) (fun (u : Nat) => [(ao, .inr (3, [.ref co, .ref u, .int (nI 0), .long (lN 0), .long (lN 0)])), (u, .inl (k 0, 2048, .inl (fun _ => nI 0)))]) := by
  refine nw_headv (by decide) (Nat.le_of_ble_eq_true rfl) ?_
  intro p e s m below meth c ls A hx hb hr hlocks hml hown hin hts hX hK hA hP hD hS hl
  have hown : s.vm.findClass "SlotScreen$Screen" = some m.cls := hown
  have hl : lv_has ls 2 [(0, .ref ao), (1, .ref co)] := hl
  refine lv_aload_n hx hb d_SC_init_0 rfl (lv_at hl 0 rfl) ?_
  refine W.objInit hx hb hown (hts _ w_76) (hts _ w_21) (hts _ w_22) rfl (by rw [hml]; exact hl.1) rfl d_SC_init_1 (Nat.le_of_ble_eq_true rfl) (Nat.le_of_ble_eq_true rfl) ?_
  refine W.eq (g2 := F0 m 4 ls []) rfl ?_
  refine lv_aload_n hx hb d_SC_init_4 rfl (lv_at hl 0 rfl) ?_
  refine lv_sipush (v := nI 2048) hx hb d_SC_init_5 (by decide +kernel) ?_
  refine nw_newa (atype := .int) (n := 2048) (i := 0) hx hb (hts _ w_45) rfl hK rfl hP hD hS hA (by omega) rfl (by show 2048 * 4 ≤ _; omega) (by show 0 + 1 ≤ 1; omega) (by show 0 + 2048 ≤ 2048; omega) d_SC_init_8 (fun q1 H hP hD hS => ?_)
  have hP : va_P D vwCl [(ao, .inr (3, [.null, .null, .int (nI 0), .long (lN 0), .long (lN 0)])), (q1, .inl (k 0, 2048, .inl (fun _ => nI 0)))] _ := hP
  have hD : va_D A [(ao, .inr (3, [.null, .null, .int (nI 0), .long (lN 0), .long (lN 0)])), (q1, .inl (k 0, 2048, .inl (fun _ => nI 0)))] := hD
  refine W.widen (k := 1) (n := 2048) (by show 0 + 1 ≤ 1; omega) (by show 0 + 2048 ≤ 2048; omega) ?_
  refine va_putF (D := D) (ci := 3) (v := .ref q1) (ty := .array .int) (C := R_SC) (T := T_SC) (N := 5) hx hb hts in_SC t_SC o_SC n_SC hown hK hP hD hS 0 rfl rfl 1 (by decide) (hts _ w_78) (fun _ h9 => h9) rfl hin rfl rfl (by first | rfl | decide +kernel) rfl (Nat.le_of_ble_eq_true rfl) d_SC_init_10 (fun H locs hP hD hS => ?_)
  have hP : va_P D vwCl [(ao, .inr (3, [.null, .ref q1, .int (nI 0), .long (lN 0), .long (lN 0)])), (q1, .inl (k 0, 2048, .inl (fun _ => nI 0)))] _ := hP
  have hD : va_D A [(ao, .inr (3, [.null, .ref q1, .int (nI 0), .long (lN 0), .long (lN 0)])), (q1, .inl (k 0, 2048, .inl (fun _ => nI 0)))] := hD
  refine lv_aload_n hx hb d_SC_init_13 rfl (lv_at hl 0 rfl) ?_
  refine lv_aload_n hx hb d_SC_init_14 rfl (lv_at hl 1 rfl) ?_
  refine va_putF (D := D) (ci := 3) (v := .ref co) (ty := .object "SlotScreen$Chip") (C := R_SC) (T := T_SC) (N := 5) hx hb hts in_SC t_SC o_SC n_SC hown hK hP hD hS 0 rfl rfl 0 (by decide) (hts _ w_77) (fun _ h9 => h9) rfl hin rfl rfl (by first | rfl | decide +kernel) rfl (Nat.le_of_ble_eq_true rfl) d_SC_init_15 (fun H locs hP hD hS => ?_)
  have hP : va_P D vwCl [(ao, .inr (3, [.ref co, .ref q1, .int (nI 0), .long (lN 0), .long (lN 0)])), (q1, .inl (k 0, 2048, .inl (fun _ => nI 0)))] _ := hP
  have hD : va_D A [(ao, .inr (3, [.ref co, .ref q1, .int (nI 0), .long (lN 0), .long (lN 0)])), (q1, .inl (k 0, 2048, .inl (fun _ => nI 0)))] := hD
  exact nw_retv hx hb hr hlocks d_SC_init_18 (by show 1 ≤ 1; omega) (by show 2048 ≤ 2048; omega) hS q1 trivial hP hD
set_option maxHeartbeats 4000000 in
set_option maxRecDepth 100000 in
theorem c_SS_init (l : Launch) (D : va_G) (k : Nat → ClassId) (ao : Nat) : nw_v l y_SS_init b_SS_init 1 none { frames := 2, cells := 9, slots := 2607, locals := 35 } D (kT k) [(ao, .inr (0, [.null, .null, .null]))] [.ref ao] (fun (q : Nat → Nat) => q 0 = ao) (fun (q : Nat → Nat) => ssW q k (fun _ => none) (fun _ => 0) (fun _ => 0) 0 0 (fun _ => 0) 0 0 (fun _ => 0) (fun _ => 0) 0 0 0 (-1)) := by
  refine nw_headv (by decide) (Nat.le_of_ble_eq_true rfl) ?_
  intro p e s m below meth c ls A hx hb hr hlocks hml hown hin hts hX hK hA hP hD hS hl
  have hown : s.vm.findClass "SlotScreen" = some m.cls := hown
  have hl : lv_has ls 1 [(0, .ref ao)] := hl
  refine lv_aload_n hx hb d_SS_init_0 rfl (lv_at hl 0 rfl) ?_
  refine W.objInit hx hb hown (hts _ w_20) (hts _ w_21) (hts _ w_22) rfl (by rw [hml]; exact hl.1) rfl d_SS_init_1 (Nat.le_of_ble_eq_true rfl) (Nat.le_of_ble_eq_true rfl) ?_
  refine W.eq (g2 := F0 m 4 ls []) rfl ?_
  refine lv_aload_n hx hb d_SS_init_4 rfl (lv_at hl 0 rfl) ?_
  refine va_new (ci := 1) (fs := [.null, .null, .null, .int (nI 0)]) (C := R_SL) (T := T_SL) (N := 4) hx hb hts in_SL t_SL o_SL hown (hts _ w_23) (hts _ w_24) (hts _ w_2) hK hP hD hS hA rfl (fun j hj => by rcases (show j = 0 ∨ j = 1 ∨ j = 2 ∨ j = 3 by omega) with rfl | rfl | rfl | rfl <;> rfl) (by show 0 + 1 ≤ 9; omega) (by show 0 + 4 ≤ 2607; omega) d_SS_init_5 (fun a1 H hP hD hS => ?_)
  have hP : va_P D vwCl [(ao, .inr (0, [.null, .null, .null])), (a1, .inr (1, [.null, .null, .null, .int (nI 0)]))] _ := hP
  have hD : va_D A [(ao, .inr (0, [.null, .null, .null])), (a1, .inr (1, [.null, .null, .null, .int (nI 0)]))] := hD
  refine W.widen (k := 1) (n := 4) (by show 0 + 1 ≤ 1; omega) (by show 0 + 4 ≤ 4; omega) ?_
  refine lv_dup hx hb d_SS_init_8 rfl ?_
  have hPc := hP.sub (ws' := [(a1, .inr (1, [.null, .null, .null, .int (nI 0)]))]) [1] rfl
  have hDc := hD.sub (ws' := [(a1, .inr (1, [.null, .null, .null, .int (nI 0)]))]) [1] (by decide) rfl
  have hFc := rw_S hDc hS hA
  refine kn_vN (As := []) (rest := [.ref a1, .ref ao]) ⟨hx, hb, hml, hown, hts⟩ (c_SL_init l D k a1) ⟨va_cnB 0 hts (gG w_27) rfl rfl rfl (hX.1 (.methodLinkNest "SlotScreen" 9 y_SL_init "SlotScreen") (by unfold NWL; simp)) (hts _ w_2) (by decide +kernel) ⟨Nat.le_of_ble_eq_true rfl, Nat.le_of_ble_eq_true rfl⟩, rfl, hts _ w_26⟩ hK hX hPc hDc hS hA rfl hl.1 rfl (Nat.le_of_ble_eq_true rfl) d_SS_init_9 ⟨by show 1 + 3 ≤ 9; omega, by show 4 + 24 ≤ 2607; omega⟩ (fun u9 H9 locs hp9 hP1 hD1 hk1 hS9 => ?_)
  obtain ⟨a2, a3, a4⟩ := u9
  obtain ⟨hP, hD⟩ := va_join (wr := [(ao, .inr (0, [.null, .null, .null]))]) (w1 := [(a1, .inr (1, [.ref a2, .ref a3, .ref a4, .int (nI 0)])), (a2, .inl (k 2, 16, .inr (.inr (.inr (.inr (fun _ => none)))))), (a3, .inl (k 1, 4, .inl (fun _ => nI 0))), (a4, .inl (k 0, 4, .inl (fun _ => nI 0)))]) hP hD [1] [0] rfl rfl (by decide) (by decide) hk1 hFc hP1 hD1
  have hS := hS9
  clear hS9 hP1 hD1 hk1 hFc hPc hDc
  generalize H9 = H at hP hS ⊢
  have hP : va_P D vwCl [(ao, .inr (0, [.null, .null, .null])), (a1, .inr (1, [.ref a2, .ref a3, .ref a4, .int (nI 0)])), (a2, .inl (k 2, 16, .inr (.inr (.inr (.inr (fun _ => none)))))), (a3, .inl (k 1, 4, .inl (fun _ => nI 0))), (a4, .inl (k 0, 4, .inl (fun _ => nI 0)))] _ := hP
  have hD : va_D A [(ao, .inr (0, [.null, .null, .null])), (a1, .inr (1, [.ref a2, .ref a3, .ref a4, .int (nI 0)])), (a2, .inl (k 2, 16, .inr (.inr (.inr (.inr (fun _ => none)))))), (a3, .inl (k 1, 4, .inl (fun _ => nI 0))), (a4, .inl (k 0, 4, .inl (fun _ => nI 0)))] := hD
  refine W.widen (k := 4) (n := 28) (by show 1 + 3 ≤ 4; omega) (by show 4 + 24 ≤ 28; omega) ?_
  refine va_putF (D := D) (ci := 0) (v := .ref a1) (ty := .object "SlotScreen$Slots") (C := R_SS) (T := T_SS) (N := 3) hx hb hts in_SS t_SS o_SS n_SS hown hK hP hD hS 0 rfl rfl 0 (by decide) (hts _ w_93) (fun _ h9 => h9) rfl hin rfl rfl (by first | rfl | decide +kernel) rfl (Nat.le_of_ble_eq_true rfl) d_SS_init_12 (fun H locs hP hD hS => ?_)
  have hP : va_P D vwCl [(ao, .inr (0, [.ref a1, .null, .null])), (a1, .inr (1, [.ref a2, .ref a3, .ref a4, .int (nI 0)])), (a2, .inl (k 2, 16, .inr (.inr (.inr (.inr (fun _ => none)))))), (a3, .inl (k 1, 4, .inl (fun _ => nI 0))), (a4, .inl (k 0, 4, .inl (fun _ => nI 0)))] _ := hP
  have hD : va_D A [(ao, .inr (0, [.ref a1, .null, .null])), (a1, .inr (1, [.ref a2, .ref a3, .ref a4, .int (nI 0)])), (a2, .inl (k 2, 16, .inr (.inr (.inr (.inr (fun _ => none)))))), (a3, .inl (k 1, 4, .inl (fun _ => nI 0))), (a4, .inl (k 0, 4, .inl (fun _ => nI 0)))] := hD
  refine lv_aload_n hx hb d_SS_init_15 rfl (lv_at hl 0 rfl) ?_
  refine va_new (ci := 2) (fs := [.null, .null, .int (nI 0), .int (nI 0), .int (nI 0), .int (nI 0)]) (C := R_CH) (T := T_CH) (N := 6) hx hb hts in_CH t_CH o_CH hown (hts _ w_46) (hts _ w_47) (hts _ w_3) hK hP hD hS hA rfl (fun j hj => by rcases (show j = 0 ∨ j = 1 ∨ j = 2 ∨ j = 3 ∨ j = 4 ∨ j = 5 by omega) with rfl | rfl | rfl | rfl | rfl | rfl <;> rfl) (by show 4 + 1 ≤ 9; omega) (by show 28 + 6 ≤ 2607; omega) d_SS_init_16 (fun a7 H hP hD hS => ?_)
  have hP : va_P D vwCl [(ao, .inr (0, [.ref a1, .null, .null])), (a1, .inr (1, [.ref a2, .ref a3, .ref a4, .int (nI 0)])), (a2, .inl (k 2, 16, .inr (.inr (.inr (.inr (fun _ => none)))))), (a3, .inl (k 1, 4, .inl (fun _ => nI 0))), (a4, .inl (k 0, 4, .inl (fun _ => nI 0))), (a7, .inr (2, [.null, .null, .int (nI 0), .int (nI 0), .int (nI 0), .int (nI 0)]))] _ := hP
  have hD : va_D A [(ao, .inr (0, [.ref a1, .null, .null])), (a1, .inr (1, [.ref a2, .ref a3, .ref a4, .int (nI 0)])), (a2, .inl (k 2, 16, .inr (.inr (.inr (.inr (fun _ => none)))))), (a3, .inl (k 1, 4, .inl (fun _ => nI 0))), (a4, .inl (k 0, 4, .inl (fun _ => nI 0))), (a7, .inr (2, [.null, .null, .int (nI 0), .int (nI 0), .int (nI 0), .int (nI 0)]))] := hD
  refine W.widen (k := 5) (n := 34) (by show 4 + 1 ≤ 5; omega) (by show 28 + 6 ≤ 34; omega) ?_
  refine lv_dup hx hb d_SS_init_19 rfl ?_
  have hPc := hP.sub (ws' := [(a7, .inr (2, [.null, .null, .int (nI 0), .int (nI 0), .int (nI 0), .int (nI 0)]))]) [5] rfl
  have hDc := hD.sub (ws' := [(a7, .inr (2, [.null, .null, .int (nI 0), .int (nI 0), .int (nI 0), .int (nI 0)]))]) [5] (by decide) rfl
  have hFc := rw_S hDc hS hA
  refine kn_vN (As := []) (rest := [.ref a7, .ref ao]) ⟨hx, hb, hml, hown, hts⟩ (c_CH_init l D k a7) ⟨va_cnB 0 hts (gG w_50) rfl rfl rfl (hX.1 (.methodLinkNest "SlotScreen" 18 y_CH_init "SlotScreen") (by unfold NWL; simp)) (hts _ w_3) (by decide +kernel) ⟨Nat.le_of_ble_eq_true rfl, Nat.le_of_ble_eq_true rfl⟩, rfl, hts _ w_49⟩ hK hX hPc hDc hS hA rfl hl.1 rfl (Nat.le_of_ble_eq_true rfl) d_SS_init_20 ⟨by show 5 + 2 ≤ 9; omega, by show 34 + 520 ≤ 2607; omega⟩ (fun u9 H9 locs hp9 hP1 hD1 hk1 hS9 => ?_)
  obtain ⟨a8, a9⟩ := u9
  obtain ⟨hP, hD⟩ := va_join (wr := [(ao, .inr (0, [.ref a1, .null, .null])), (a1, .inr (1, [.ref a2, .ref a3, .ref a4, .int (nI 0)])), (a2, .inl (k 2, 16, .inr (.inr (.inr (.inr (fun _ => none)))))), (a3, .inl (k 1, 4, .inl (fun _ => nI 0))), (a4, .inl (k 0, 4, .inl (fun _ => nI 0)))]) (w1 := [(a7, .inr (2, [.ref a8, .ref a9, .int (nI 0), .int (nI 0), .int (nI 0), .int (-1)])), (a8, .inl (k 0, 512, .inl (fun _ => nI 0))), (a9, .inl (k 0, 8, .inl (fun _ => nI 0)))]) hP hD [5] [0, 1, 2, 3, 4] rfl rfl (by decide) (by decide) hk1 hFc hP1 hD1
  have hS := hS9
  clear hS9 hP1 hD1 hk1 hFc hPc hDc
  generalize H9 = H at hP hS ⊢
  have hP : va_P D vwCl [(ao, .inr (0, [.ref a1, .null, .null])), (a1, .inr (1, [.ref a2, .ref a3, .ref a4, .int (nI 0)])), (a2, .inl (k 2, 16, .inr (.inr (.inr (.inr (fun _ => none)))))), (a3, .inl (k 1, 4, .inl (fun _ => nI 0))), (a4, .inl (k 0, 4, .inl (fun _ => nI 0))), (a7, .inr (2, [.ref a8, .ref a9, .int (nI 0), .int (nI 0), .int (nI 0), .int (-1)])), (a8, .inl (k 0, 512, .inl (fun _ => nI 0))), (a9, .inl (k 0, 8, .inl (fun _ => nI 0)))] _ := hP
  have hD : va_D A [(ao, .inr (0, [.ref a1, .null, .null])), (a1, .inr (1, [.ref a2, .ref a3, .ref a4, .int (nI 0)])), (a2, .inl (k 2, 16, .inr (.inr (.inr (.inr (fun _ => none)))))), (a3, .inl (k 1, 4, .inl (fun _ => nI 0))), (a4, .inl (k 0, 4, .inl (fun _ => nI 0))), (a7, .inr (2, [.ref a8, .ref a9, .int (nI 0), .int (nI 0), .int (nI 0), .int (-1)])), (a8, .inl (k 0, 512, .inl (fun _ => nI 0))), (a9, .inl (k 0, 8, .inl (fun _ => nI 0)))] := hD
  refine W.widen (k := 7) (n := 554) (by show 5 + 2 ≤ 7; omega) (by show 34 + 520 ≤ 554; omega) ?_
  refine va_putF (D := D) (ci := 0) (v := .ref a7) (ty := .object "SlotScreen$Chip") (C := R_SS) (T := T_SS) (N := 3) hx hb hts in_SS t_SS o_SS n_SS hown hK hP hD hS 0 rfl rfl 1 (by decide) (hts _ w_94) (fun _ h9 => h9) rfl hin rfl rfl (by first | rfl | decide +kernel) rfl (Nat.le_of_ble_eq_true rfl) d_SS_init_23 (fun H locs hP hD hS => ?_)
  have hP : va_P D vwCl [(ao, .inr (0, [.ref a1, .ref a7, .null])), (a1, .inr (1, [.ref a2, .ref a3, .ref a4, .int (nI 0)])), (a2, .inl (k 2, 16, .inr (.inr (.inr (.inr (fun _ => none)))))), (a3, .inl (k 1, 4, .inl (fun _ => nI 0))), (a4, .inl (k 0, 4, .inl (fun _ => nI 0))), (a7, .inr (2, [.ref a8, .ref a9, .int (nI 0), .int (nI 0), .int (nI 0), .int (-1)])), (a8, .inl (k 0, 512, .inl (fun _ => nI 0))), (a9, .inl (k 0, 8, .inl (fun _ => nI 0)))] _ := hP
  have hD : va_D A [(ao, .inr (0, [.ref a1, .ref a7, .null])), (a1, .inr (1, [.ref a2, .ref a3, .ref a4, .int (nI 0)])), (a2, .inl (k 2, 16, .inr (.inr (.inr (.inr (fun _ => none)))))), (a3, .inl (k 1, 4, .inl (fun _ => nI 0))), (a4, .inl (k 0, 4, .inl (fun _ => nI 0))), (a7, .inr (2, [.ref a8, .ref a9, .int (nI 0), .int (nI 0), .int (nI 0), .int (-1)])), (a8, .inl (k 0, 512, .inl (fun _ => nI 0))), (a9, .inl (k 0, 8, .inl (fun _ => nI 0)))] := hD
  refine lv_aload_n hx hb d_SS_init_26 rfl (lv_at hl 0 rfl) ?_
  refine va_new (ci := 3) (fs := [.null, .null, .int (nI 0), .long (lN 0), .long (lN 0)]) (C := R_SC) (T := T_SC) (N := 5) hx hb hts in_SC t_SC o_SC hown (hts _ w_71) (hts _ w_72) (hts _ w_4) hK hP hD hS hA rfl (fun j hj => by rcases (show j = 0 ∨ j = 1 ∨ j = 2 ∨ j = 3 ∨ j = 4 by omega) with rfl | rfl | rfl | rfl | rfl <;> rfl) (by show 7 + 1 ≤ 9; omega) (by show 554 + 5 ≤ 2607; omega) d_SS_init_27 (fun a5 H hP hD hS => ?_)
  have hP : va_P D vwCl [(ao, .inr (0, [.ref a1, .ref a7, .null])), (a1, .inr (1, [.ref a2, .ref a3, .ref a4, .int (nI 0)])), (a2, .inl (k 2, 16, .inr (.inr (.inr (.inr (fun _ => none)))))), (a3, .inl (k 1, 4, .inl (fun _ => nI 0))), (a4, .inl (k 0, 4, .inl (fun _ => nI 0))), (a7, .inr (2, [.ref a8, .ref a9, .int (nI 0), .int (nI 0), .int (nI 0), .int (-1)])), (a8, .inl (k 0, 512, .inl (fun _ => nI 0))), (a9, .inl (k 0, 8, .inl (fun _ => nI 0))), (a5, .inr (3, [.null, .null, .int (nI 0), .long (lN 0), .long (lN 0)]))] _ := hP
  have hD : va_D A [(ao, .inr (0, [.ref a1, .ref a7, .null])), (a1, .inr (1, [.ref a2, .ref a3, .ref a4, .int (nI 0)])), (a2, .inl (k 2, 16, .inr (.inr (.inr (.inr (fun _ => none)))))), (a3, .inl (k 1, 4, .inl (fun _ => nI 0))), (a4, .inl (k 0, 4, .inl (fun _ => nI 0))), (a7, .inr (2, [.ref a8, .ref a9, .int (nI 0), .int (nI 0), .int (nI 0), .int (-1)])), (a8, .inl (k 0, 512, .inl (fun _ => nI 0))), (a9, .inl (k 0, 8, .inl (fun _ => nI 0))), (a5, .inr (3, [.null, .null, .int (nI 0), .long (lN 0), .long (lN 0)]))] := hD
  refine W.widen (k := 8) (n := 559) (by show 7 + 1 ≤ 8; omega) (by show 554 + 5 ≤ 559; omega) ?_
  refine lv_dup hx hb d_SS_init_30 rfl ?_
  refine lv_aload_n hx hb d_SS_init_31 rfl (lv_at hl 0 rfl) ?_
  refine va_get (D := D) (ci := 0) (v := .ref a7) (C := R_SS) (T := T_SS) (N := 3) hx hb hts in_SS hown hK hP 0 rfl rfl 1 (by decide) (hts _ w_94) (fun _ h9 => h9) rfl d_SS_init_32 ?_
  have hPc := hP.sub (ws' := [(a5, .inr (3, [.null, .null, .int (nI 0), .long (lN 0), .long (lN 0)]))]) [8] rfl
  have hDc := hD.sub (ws' := [(a5, .inr (3, [.null, .null, .int (nI 0), .long (lN 0), .long (lN 0)]))]) [8] (by decide) rfl
  have hFc := rw_S hDc hS hA
  refine kn_vI (As := [.ref a7]) (rest := [.ref a5, .ref ao]) ⟨hx, hb, hml, hown, hts⟩ (c_SC_init l D k a5 a7) (cwI 1 hts (gG w_75) rfl rfl rfl (hts _ w_4) (hts _ w_73) (hts _ w_74) rfl (by decide +kernel) ⟨Nat.le_of_ble_eq_true rfl, Nat.le_of_ble_eq_true rfl⟩) hK hX hPc hDc hS hA rfl hl.1 rfl (Nat.le_of_ble_eq_true rfl) d_SS_init_35 ⟨by show 8 + 1 ≤ 9; omega, by show 559 + 2048 ≤ 2607; omega⟩ (fun u9 H9 locs hp9 hP1 hD1 hk1 hS9 => ?_)
  obtain ⟨a6, rfl⟩ : ∃ z, z = u9 := ⟨_, rfl⟩
  obtain ⟨hP, hD⟩ := va_join (wr := [(ao, .inr (0, [.ref a1, .ref a7, .null])), (a1, .inr (1, [.ref a2, .ref a3, .ref a4, .int (nI 0)])), (a2, .inl (k 2, 16, .inr (.inr (.inr (.inr (fun _ => none)))))), (a3, .inl (k 1, 4, .inl (fun _ => nI 0))), (a4, .inl (k 0, 4, .inl (fun _ => nI 0))), (a7, .inr (2, [.ref a8, .ref a9, .int (nI 0), .int (nI 0), .int (nI 0), .int (-1)])), (a8, .inl (k 0, 512, .inl (fun _ => nI 0))), (a9, .inl (k 0, 8, .inl (fun _ => nI 0)))]) (w1 := [(a5, .inr (3, [.ref a7, .ref a6, .int (nI 0), .long (lN 0), .long (lN 0)])), (a6, .inl (k 0, 2048, .inl (fun _ => nI 0)))]) hP hD [8] [0, 1, 2, 3, 4, 5, 6, 7] rfl rfl (by decide) (by decide) hk1 hFc hP1 hD1
  have hS := hS9
  clear hS9 hP1 hD1 hk1 hFc hPc hDc
  generalize H9 = H at hP hS ⊢
  have hP : va_P D vwCl [(ao, .inr (0, [.ref a1, .ref a7, .null])), (a1, .inr (1, [.ref a2, .ref a3, .ref a4, .int (nI 0)])), (a2, .inl (k 2, 16, .inr (.inr (.inr (.inr (fun _ => none)))))), (a3, .inl (k 1, 4, .inl (fun _ => nI 0))), (a4, .inl (k 0, 4, .inl (fun _ => nI 0))), (a7, .inr (2, [.ref a8, .ref a9, .int (nI 0), .int (nI 0), .int (nI 0), .int (-1)])), (a8, .inl (k 0, 512, .inl (fun _ => nI 0))), (a9, .inl (k 0, 8, .inl (fun _ => nI 0))), (a5, .inr (3, [.ref a7, .ref a6, .int (nI 0), .long (lN 0), .long (lN 0)])), (a6, .inl (k 0, 2048, .inl (fun _ => nI 0)))] _ := hP
  have hD : va_D A [(ao, .inr (0, [.ref a1, .ref a7, .null])), (a1, .inr (1, [.ref a2, .ref a3, .ref a4, .int (nI 0)])), (a2, .inl (k 2, 16, .inr (.inr (.inr (.inr (fun _ => none)))))), (a3, .inl (k 1, 4, .inl (fun _ => nI 0))), (a4, .inl (k 0, 4, .inl (fun _ => nI 0))), (a7, .inr (2, [.ref a8, .ref a9, .int (nI 0), .int (nI 0), .int (nI 0), .int (-1)])), (a8, .inl (k 0, 512, .inl (fun _ => nI 0))), (a9, .inl (k 0, 8, .inl (fun _ => nI 0))), (a5, .inr (3, [.ref a7, .ref a6, .int (nI 0), .long (lN 0), .long (lN 0)])), (a6, .inl (k 0, 2048, .inl (fun _ => nI 0)))] := hD
  refine W.widen (k := 9) (n := 2607) (by show 8 + 1 ≤ 9; omega) (by show 559 + 2048 ≤ 2607; omega) ?_
  refine va_putF (D := D) (ci := 0) (v := .ref a5) (ty := .object "SlotScreen$Screen") (C := R_SS) (T := T_SS) (N := 3) hx hb hts in_SS t_SS o_SS n_SS hown hK hP hD hS 0 rfl rfl 2 (by decide) (hts _ w_95) (fun _ h9 => h9) rfl hin rfl rfl (by first | rfl | decide +kernel) rfl (Nat.le_of_ble_eq_true rfl) d_SS_init_38 (fun H locs hP hD hS => ?_)
  have hP : va_P D vwCl [(ao, .inr (0, [.ref a1, .ref a7, .ref a5])), (a1, .inr (1, [.ref a2, .ref a3, .ref a4, .int (nI 0)])), (a2, .inl (k 2, 16, .inr (.inr (.inr (.inr (fun _ => none)))))), (a3, .inl (k 1, 4, .inl (fun _ => nI 0))), (a4, .inl (k 0, 4, .inl (fun _ => nI 0))), (a7, .inr (2, [.ref a8, .ref a9, .int (nI 0), .int (nI 0), .int (nI 0), .int (-1)])), (a8, .inl (k 0, 512, .inl (fun _ => nI 0))), (a9, .inl (k 0, 8, .inl (fun _ => nI 0))), (a5, .inr (3, [.ref a7, .ref a6, .int (nI 0), .long (lN 0), .long (lN 0)])), (a6, .inl (k 0, 2048, .inl (fun _ => nI 0)))] _ := hP
  have hD : va_D A [(ao, .inr (0, [.ref a1, .ref a7, .ref a5])), (a1, .inr (1, [.ref a2, .ref a3, .ref a4, .int (nI 0)])), (a2, .inl (k 2, 16, .inr (.inr (.inr (.inr (fun _ => none)))))), (a3, .inl (k 1, 4, .inl (fun _ => nI 0))), (a4, .inl (k 0, 4, .inl (fun _ => nI 0))), (a7, .inr (2, [.ref a8, .ref a9, .int (nI 0), .int (nI 0), .int (nI 0), .int (-1)])), (a8, .inl (k 0, 512, .inl (fun _ => nI 0))), (a9, .inl (k 0, 8, .inl (fun _ => nI 0))), (a5, .inr (3, [.ref a7, .ref a6, .int (nI 0), .long (lN 0), .long (lN 0)])), (a6, .inl (k 0, 2048, .inl (fun _ => nI 0)))] := hD
  exact nw_retv hx hb hr hlocks d_SS_init_41 (by show 9 ≤ 9; omega) (by show 2607 ≤ 2607; omega) hS (fun i => [ao, a1, a2, a3, a4, a5, a6, a7, a8, a9].getD i 0) rfl (hP.sub [0, 1, 2, 3, 4, 8, 9, 5, 6, 7] rfl) (hD.sub [0, 1, 2, 3, 4, 8, 9, 5, 6, 7] (by decide) rfl)
