set_option maxHeartbeats 4000000 in
set_option maxRecDepth 100000 in
theorem c_MO_init (l : Launch) (D : va_G) (k : Nat → ClassId) (ao : Nat) : nw_v l y_MO_init b_MO_init 1 none { frames := 1, cells := 9, slots := 6768, locals := 14 } D (kT k) [(ao, .inr (7, [.int (nI 0), .null, .null, .null, .null, .null, .null, .int (nI 0), .null, .null, .int (nI 0), .int (nI 0), .int (nI 0), .int (nI 0), .int (nI 0), .null]))] [.ref ao] (fun (q : Nat → Nat) => q 0 = ao) (fun (q : Nat → Nat) => mW q k (nI 0) (fun _ => 0) (fun _ => 0) (fun _ => 0) (fun _ => nI 0) (fun _ => 0) (fun _ => 0) 0 (fun _ => 0) (fun _ => 0) 0 0 0 (-1) 0 (fun _ => 0)) := by
  refine nw_headv (by decide) (Nat.le_of_ble_eq_true rfl) ?_
  intro p e s m below meth c ls A hx hb hr hlocks hml hown hin hts hX hK hA hP hD hS hl
  have hown : s.vm.findClass "SlotScreenModel" = some m.cls := hown
  have hl : lv_has ls 1 [(0, .ref ao)] := hl
  refine lv_aload_n hx hb d_MO_init_0 rfl (lv_at hl 0 rfl) ?_
  refine W.objInit hx hb hown (hts _ w_529) (hts _ w_21) (hts _ w_22) rfl (by rw [hml]; exact hl.1) rfl d_MO_init_1 (Nat.le_of_ble_eq_true rfl) (Nat.le_of_ble_eq_true rfl) ?_
  refine W.eq (g2 := F0 m 4 ls []) rfl ?_
  refine lv_aload_n hx hb d_MO_init_4 rfl (lv_at hl 0 rfl) ?_
  refine lv_iconst (v := nI 4) hx hb d_MO_init_5 (by decide +kernel) ?_
  refine nw_newa (atype := .boolean) (n := 4) (i := 1) hx hb (hts _ w_44) rfl hK rfl hP hD hS hA (by omega) rfl (by show 4 * 1 ≤ _; omega) (by show 0 + 1 ≤ 9; omega) (by show 0 + 4 ≤ 6768; omega) d_MO_init_6 (fun a1 H hP hD hS => ?_)
  have hP : va_P D vwCl [(ao, .inr (7, [.int (nI 0), .null, .null, .null, .null, .null, .null, .int (nI 0), .null, .null, .int (nI 0), .int (nI 0), .int (nI 0), .int (nI 0), .int (nI 0), .null])), (a1, .inl (k 1, 4, .inl (fun _ => nI 0)))] _ := hP
  have hD : va_D A [(ao, .inr (7, [.int (nI 0), .null, .null, .null, .null, .null, .null, .int (nI 0), .null, .null, .int (nI 0), .int (nI 0), .int (nI 0), .int (nI 0), .int (nI 0), .null])), (a1, .inl (k 1, 4, .inl (fun _ => nI 0)))] := hD
  refine W.widen (k := 1) (n := 4) (by show 0 + 1 ≤ 1; omega) (by show 0 + 4 ≤ 4; omega) ?_
  refine va_putF (D := D) (ci := 7) (v := .ref a1) (ty := .array .boolean) (C := R_MO) (T := T_MO) (N := 16) hx hb hts in_MO t_MO o_MO n_MO hown hK hP hD hS 0 rfl rfl 1 (by decide) (hts _ w_531) (fun _ h9 => h9) rfl hin rfl rfl (by first | rfl | decide +kernel) rfl (Nat.le_of_ble_eq_true rfl) d_MO_init_8 (fun H locs hP hD hS => ?_)
  have hP : va_P D vwCl [(ao, .inr (7, [.int (nI 0), .ref a1, .null, .null, .null, .null, .null, .int (nI 0), .null, .null, .int (nI 0), .int (nI 0), .int (nI 0), .int (nI 0), .int (nI 0), .null])), (a1, .inl (k 1, 4, .inl (fun _ => nI 0)))] _ := hP
  have hD : va_D A [(ao, .inr (7, [.int (nI 0), .ref a1, .null, .null, .null, .null, .null, .int (nI 0), .null, .null, .int (nI 0), .int (nI 0), .int (nI 0), .int (nI 0), .int (nI 0), .null])), (a1, .inl (k 1, 4, .inl (fun _ => nI 0)))] := hD
  refine lv_aload_n hx hb d_MO_init_11 rfl (lv_at hl 0 rfl) ?_
  refine lv_iconst (v := nI 4) hx hb d_MO_init_12 (by decide +kernel) ?_
  refine nw_newa (atype := .int) (n := 4) (i := 0) hx hb (hts _ w_45) rfl hK rfl hP hD hS hA (by omega) rfl (by show 4 * 4 ≤ _; omega) (by show 1 + 1 ≤ 9; omega) (by show 4 + 4 ≤ 6768; omega) d_MO_init_13 (fun a2 H hP hD hS => ?_)
  have hP : va_P D vwCl [(ao, .inr (7, [.int (nI 0), .ref a1, .null, .null, .null, .null, .null, .int (nI 0), .null, .null, .int (nI 0), .int (nI 0), .int (nI 0), .int (nI 0), .int (nI 0), .null])), (a1, .inl (k 1, 4, .inl (fun _ => nI 0))), (a2, .inl (k 0, 4, .inl (fun _ => nI 0)))] _ := hP
  have hD : va_D A [(ao, .inr (7, [.int (nI 0), .ref a1, .null, .null, .null, .null, .null, .int (nI 0), .null, .null, .int (nI 0), .int (nI 0), .int (nI 0), .int (nI 0), .int (nI 0), .null])), (a1, .inl (k 1, 4, .inl (fun _ => nI 0))), (a2, .inl (k 0, 4, .inl (fun _ => nI 0)))] := hD
  refine W.widen (k := 2) (n := 8) (by show 1 + 1 ≤ 2; omega) (by show 4 + 4 ≤ 8; omega) ?_
  refine va_putF (D := D) (ci := 7) (v := .ref a2) (ty := .array .int) (C := R_MO) (T := T_MO) (N := 16) hx hb hts in_MO t_MO o_MO n_MO hown hK hP hD hS 0 rfl rfl 2 (by decide) (hts _ w_532) (fun _ h9 => h9) rfl hin rfl rfl (by first | rfl | decide +kernel) rfl (Nat.le_of_ble_eq_true rfl) d_MO_init_15 (fun H locs hP hD hS => ?_)
  have hP : va_P D vwCl [(ao, .inr (7, [.int (nI 0), .ref a1, .ref a2, .null, .null, .null, .null, .int (nI 0), .null, .null, .int (nI 0), .int (nI 0), .int (nI 0), .int (nI 0), .int (nI 0), .null])), (a1, .inl (k 1, 4, .inl (fun _ => nI 0))), (a2, .inl (k 0, 4, .inl (fun _ => nI 0)))] _ := hP
  have hD : va_D A [(ao, .inr (7, [.int (nI 0), .ref a1, .ref a2, .null, .null, .null, .null, .int (nI 0), .null, .null, .int (nI 0), .int (nI 0), .int (nI 0), .int (nI 0), .int (nI 0), .null])), (a1, .inl (k 1, 4, .inl (fun _ => nI 0))), (a2, .inl (k 0, 4, .inl (fun _ => nI 0)))] := hD
  refine lv_aload_n hx hb d_MO_init_18 rfl (lv_at hl 0 rfl) ?_
  refine lv_bipush (v := nI 16) hx hb d_MO_init_19 (by decide +kernel) ?_
  refine nw_newa (atype := .int) (n := 16) (i := 0) hx hb (hts _ w_45) rfl hK rfl hP hD hS hA (by omega) rfl (by show 16 * 4 ≤ _; omega) (by show 2 + 1 ≤ 9; omega) (by show 8 + 16 ≤ 6768; omega) d_MO_init_21 (fun a3 H hP hD hS => ?_)
  have hP : va_P D vwCl [(ao, .inr (7, [.int (nI 0), .ref a1, .ref a2, .null, .null, .null, .null, .int (nI 0), .null, .null, .int (nI 0), .int (nI 0), .int (nI 0), .int (nI 0), .int (nI 0), .null])), (a1, .inl (k 1, 4, .inl (fun _ => nI 0))), (a2, .inl (k 0, 4, .inl (fun _ => nI 0))), (a3, .inl (k 0, 16, .inl (fun _ => nI 0)))] _ := hP
  have hD : va_D A [(ao, .inr (7, [.int (nI 0), .ref a1, .ref a2, .null, .null, .null, .null, .int (nI 0), .null, .null, .int (nI 0), .int (nI 0), .int (nI 0), .int (nI 0), .int (nI 0), .null])), (a1, .inl (k 1, 4, .inl (fun _ => nI 0))), (a2, .inl (k 0, 4, .inl (fun _ => nI 0))), (a3, .inl (k 0, 16, .inl (fun _ => nI 0)))] := hD
  refine W.widen (k := 3) (n := 24) (by show 2 + 1 ≤ 3; omega) (by show 8 + 16 ≤ 24; omega) ?_
  refine va_putF (D := D) (ci := 7) (v := .ref a3) (ty := .array .int) (C := R_MO) (T := T_MO) (N := 16) hx hb hts in_MO t_MO o_MO n_MO hown hK hP hD hS 0 rfl rfl 3 (by decide) (hts _ w_533) (fun _ h9 => h9) rfl hin rfl rfl (by first | rfl | decide +kernel) rfl (Nat.le_of_ble_eq_true rfl) d_MO_init_23 (fun H locs hP hD hS => ?_)
  have hP : va_P D vwCl [(ao, .inr (7, [.int (nI 0), .ref a1, .ref a2, .ref a3, .null, .null, .null, .int (nI 0), .null, .null, .int (nI 0), .int (nI 0), .int (nI 0), .int (nI 0), .int (nI 0), .null])), (a1, .inl (k 1, 4, .inl (fun _ => nI 0))), (a2, .inl (k 0, 4, .inl (fun _ => nI 0))), (a3, .inl (k 0, 16, .inl (fun _ => nI 0)))] _ := hP
  have hD : va_D A [(ao, .inr (7, [.int (nI 0), .ref a1, .ref a2, .ref a3, .null, .null, .null, .int (nI 0), .null, .null, .int (nI 0), .int (nI 0), .int (nI 0), .int (nI 0), .int (nI 0), .null])), (a1, .inl (k 1, 4, .inl (fun _ => nI 0))), (a2, .inl (k 0, 4, .inl (fun _ => nI 0))), (a3, .inl (k 0, 16, .inl (fun _ => nI 0)))] := hD
  refine lv_aload_n hx hb d_MO_init_26 rfl (lv_at hl 0 rfl) ?_
  refine lv_bipush (v := nI 16) hx hb d_MO_init_27 (by decide +kernel) ?_
  refine nw_newa (atype := .int) (n := 16) (i := 0) hx hb (hts _ w_45) rfl hK rfl hP hD hS hA (by omega) rfl (by show 16 * 4 ≤ _; omega) (by show 3 + 1 ≤ 9; omega) (by show 24 + 16 ≤ 6768; omega) d_MO_init_29 (fun a4 H hP hD hS => ?_)
  have hP : va_P D vwCl [(ao, .inr (7, [.int (nI 0), .ref a1, .ref a2, .ref a3, .null, .null, .null, .int (nI 0), .null, .null, .int (nI 0), .int (nI 0), .int (nI 0), .int (nI 0), .int (nI 0), .null])), (a1, .inl (k 1, 4, .inl (fun _ => nI 0))), (a2, .inl (k 0, 4, .inl (fun _ => nI 0))), (a3, .inl (k 0, 16, .inl (fun _ => nI 0))), (a4, .inl (k 0, 16, .inl (fun _ => nI 0)))] _ := hP
  have hD : va_D A [(ao, .inr (7, [.int (nI 0), .ref a1, .ref a2, .ref a3, .null, .null, .null, .int (nI 0), .null, .null, .int (nI 0), .int (nI 0), .int (nI 0), .int (nI 0), .int (nI 0), .null])), (a1, .inl (k 1, 4, .inl (fun _ => nI 0))), (a2, .inl (k 0, 4, .inl (fun _ => nI 0))), (a3, .inl (k 0, 16, .inl (fun _ => nI 0))), (a4, .inl (k 0, 16, .inl (fun _ => nI 0)))] := hD
  refine W.widen (k := 4) (n := 40) (by show 3 + 1 ≤ 4; omega) (by show 24 + 16 ≤ 40; omega) ?_
  refine va_putF (D := D) (ci := 7) (v := .ref a4) (ty := .array .int) (C := R_MO) (T := T_MO) (N := 16) hx hb hts in_MO t_MO o_MO n_MO hown hK hP hD hS 0 rfl rfl 4 (by decide) (hts _ w_534) (fun _ h9 => h9) rfl hin rfl rfl (by first | rfl | decide +kernel) rfl (Nat.le_of_ble_eq_true rfl) d_MO_init_31 (fun H locs hP hD hS => ?_)
  have hP : va_P D vwCl [(ao, .inr (7, [.int (nI 0), .ref a1, .ref a2, .ref a3, .ref a4, .null, .null, .int (nI 0), .null, .null, .int (nI 0), .int (nI 0), .int (nI 0), .int (nI 0), .int (nI 0), .null])), (a1, .inl (k 1, 4, .inl (fun _ => nI 0))), (a2, .inl (k 0, 4, .inl (fun _ => nI 0))), (a3, .inl (k 0, 16, .inl (fun _ => nI 0))), (a4, .inl (k 0, 16, .inl (fun _ => nI 0)))] _ := hP
  have hD : va_D A [(ao, .inr (7, [.int (nI 0), .ref a1, .ref a2, .ref a3, .ref a4, .null, .null, .int (nI 0), .null, .null, .int (nI 0), .int (nI 0), .int (nI 0), .int (nI 0), .int (nI 0), .null])), (a1, .inl (k 1, 4, .inl (fun _ => nI 0))), (a2, .inl (k 0, 4, .inl (fun _ => nI 0))), (a3, .inl (k 0, 16, .inl (fun _ => nI 0))), (a4, .inl (k 0, 16, .inl (fun _ => nI 0)))] := hD
  refine lv_aload_n hx hb d_MO_init_34 rfl (lv_at hl 0 rfl) ?_
  refine lv_bipush (v := nI 64) hx hb d_MO_init_35 (by decide +kernel) ?_
  refine nw_newa (atype := .int) (n := 64) (i := 0) hx hb (hts _ w_45) rfl hK rfl hP hD hS hA (by omega) rfl (by show 64 * 4 ≤ _; omega) (by show 4 + 1 ≤ 9; omega) (by show 40 + 64 ≤ 6768; omega) d_MO_init_37 (fun a5 H hP hD hS => ?_)
  have hP : va_P D vwCl [(ao, .inr (7, [.int (nI 0), .ref a1, .ref a2, .ref a3, .ref a4, .null, .null, .int (nI 0), .null, .null, .int (nI 0), .int (nI 0), .int (nI 0), .int (nI 0), .int (nI 0), .null])), (a1, .inl (k 1, 4, .inl (fun _ => nI 0))), (a2, .inl (k 0, 4, .inl (fun _ => nI 0))), (a3, .inl (k 0, 16, .inl (fun _ => nI 0))), (a4, .inl (k 0, 16, .inl (fun _ => nI 0))), (a5, .inl (k 0, 64, .inl (fun _ => nI 0)))] _ := hP
  have hD : va_D A [(ao, .inr (7, [.int (nI 0), .ref a1, .ref a2, .ref a3, .ref a4, .null, .null, .int (nI 0), .null, .null, .int (nI 0), .int (nI 0), .int (nI 0), .int (nI 0), .int (nI 0), .null])), (a1, .inl (k 1, 4, .inl (fun _ => nI 0))), (a2, .inl (k 0, 4, .inl (fun _ => nI 0))), (a3, .inl (k 0, 16, .inl (fun _ => nI 0))), (a4, .inl (k 0, 16, .inl (fun _ => nI 0))), (a5, .inl (k 0, 64, .inl (fun _ => nI 0)))] := hD
  refine W.widen (k := 5) (n := 104) (by show 4 + 1 ≤ 5; omega) (by show 40 + 64 ≤ 104; omega) ?_
  refine va_putF (D := D) (ci := 7) (v := .ref a5) (ty := .array .int) (C := R_MO) (T := T_MO) (N := 16) hx hb hts in_MO t_MO o_MO n_MO hown hK hP hD hS 0 rfl rfl 5 (by decide) (hts _ w_535) (fun _ h9 => h9) rfl hin rfl rfl (by first | rfl | decide +kernel) rfl (Nat.le_of_ble_eq_true rfl) d_MO_init_39 (fun H locs hP hD hS => ?_)
  have hP : va_P D vwCl [(ao, .inr (7, [.int (nI 0), .ref a1, .ref a2, .ref a3, .ref a4, .ref a5, .null, .int (nI 0), .null, .null, .int (nI 0), .int (nI 0), .int (nI 0), .int (nI 0), .int (nI 0), .null])), (a1, .inl (k 1, 4, .inl (fun _ => nI 0))), (a2, .inl (k 0, 4, .inl (fun _ => nI 0))), (a3, .inl (k 0, 16, .inl (fun _ => nI 0))), (a4, .inl (k 0, 16, .inl (fun _ => nI 0))), (a5, .inl (k 0, 64, .inl (fun _ => nI 0)))] _ := hP
  have hD : va_D A [(ao, .inr (7, [.int (nI 0), .ref a1, .ref a2, .ref a3, .ref a4, .ref a5, .null, .int (nI 0), .null, .null, .int (nI 0), .int (nI 0), .int (nI 0), .int (nI 0), .int (nI 0), .null])), (a1, .inl (k 1, 4, .inl (fun _ => nI 0))), (a2, .inl (k 0, 4, .inl (fun _ => nI 0))), (a3, .inl (k 0, 16, .inl (fun _ => nI 0))), (a4, .inl (k 0, 16, .inl (fun _ => nI 0))), (a5, .inl (k 0, 64, .inl (fun _ => nI 0)))] := hD
  refine lv_aload_n hx hb d_MO_init_42 rfl (lv_at hl 0 rfl) ?_
  refine lv_sipush (v := nI 4096) hx hb d_MO_init_43 (by decide +kernel) ?_
  refine nw_newa (atype := .int) (n := 4096) (i := 0) hx hb (hts _ w_45) rfl hK rfl hP hD hS hA (by omega) rfl (by show 4096 * 4 ≤ _; omega) (by show 5 + 1 ≤ 9; omega) (by show 104 + 4096 ≤ 6768; omega) d_MO_init_46 (fun a6 H hP hD hS => ?_)
  have hP : va_P D vwCl [(ao, .inr (7, [.int (nI 0), .ref a1, .ref a2, .ref a3, .ref a4, .ref a5, .null, .int (nI 0), .null, .null, .int (nI 0), .int (nI 0), .int (nI 0), .int (nI 0), .int (nI 0), .null])), (a1, .inl (k 1, 4, .inl (fun _ => nI 0))), (a2, .inl (k 0, 4, .inl (fun _ => nI 0))), (a3, .inl (k 0, 16, .inl (fun _ => nI 0))), (a4, .inl (k 0, 16, .inl (fun _ => nI 0))), (a5, .inl (k 0, 64, .inl (fun _ => nI 0))), (a6, .inl (k 0, 4096, .inl (fun _ => nI 0)))] _ := hP
  have hD : va_D A [(ao, .inr (7, [.int (nI 0), .ref a1, .ref a2, .ref a3, .ref a4, .ref a5, .null, .int (nI 0), .null, .null, .int (nI 0), .int (nI 0), .int (nI 0), .int (nI 0), .int (nI 0), .null])), (a1, .inl (k 1, 4, .inl (fun _ => nI 0))), (a2, .inl (k 0, 4, .inl (fun _ => nI 0))), (a3, .inl (k 0, 16, .inl (fun _ => nI 0))), (a4, .inl (k 0, 16, .inl (fun _ => nI 0))), (a5, .inl (k 0, 64, .inl (fun _ => nI 0))), (a6, .inl (k 0, 4096, .inl (fun _ => nI 0)))] := hD
  refine W.widen (k := 6) (n := 4200) (by show 5 + 1 ≤ 6; omega) (by show 104 + 4096 ≤ 4200; omega) ?_
  refine va_putF (D := D) (ci := 7) (v := .ref a6) (ty := .array .int) (C := R_MO) (T := T_MO) (N := 16) hx hb hts in_MO t_MO o_MO n_MO hown hK hP hD hS 0 rfl rfl 6 (by decide) (hts _ w_536) (fun _ h9 => h9) rfl hin rfl rfl (by first | rfl | decide +kernel) rfl (Nat.le_of_ble_eq_true rfl) d_MO_init_48 (fun H locs hP hD hS => ?_)
  have hP : va_P D vwCl [(ao, .inr (7, [.int (nI 0), .ref a1, .ref a2, .ref a3, .ref a4, .ref a5, .ref a6, .int (nI 0), .null, .null, .int (nI 0), .int (nI 0), .int (nI 0), .int (nI 0), .int (nI 0), .null])), (a1, .inl (k 1, 4, .inl (fun _ => nI 0))), (a2, .inl (k 0, 4, .inl (fun _ => nI 0))), (a3, .inl (k 0, 16, .inl (fun _ => nI 0))), (a4, .inl (k 0, 16, .inl (fun _ => nI 0))), (a5, .inl (k 0, 64, .inl (fun _ => nI 0))), (a6, .inl (k 0, 4096, .inl (fun _ => nI 0)))] _ := hP
  have hD : va_D A [(ao, .inr (7, [.int (nI 0), .ref a1, .ref a2, .ref a3, .ref a4, .ref a5, .ref a6, .int (nI 0), .null, .null, .int (nI 0), .int (nI 0), .int (nI 0), .int (nI 0), .int (nI 0), .null])), (a1, .inl (k 1, 4, .inl (fun _ => nI 0))), (a2, .inl (k 0, 4, .inl (fun _ => nI 0))), (a3, .inl (k 0, 16, .inl (fun _ => nI 0))), (a4, .inl (k 0, 16, .inl (fun _ => nI 0))), (a5, .inl (k 0, 64, .inl (fun _ => nI 0))), (a6, .inl (k 0, 4096, .inl (fun _ => nI 0)))] := hD
  refine lv_aload_n hx hb d_MO_init_51 rfl (lv_at hl 0 rfl) ?_
  refine lv_sipush (v := nI 512) hx hb d_MO_init_52 (by decide +kernel) ?_
  refine nw_newa (atype := .int) (n := 512) (i := 0) hx hb (hts _ w_45) rfl hK rfl hP hD hS hA (by omega) rfl (by show 512 * 4 ≤ _; omega) (by show 6 + 1 ≤ 9; omega) (by show 4200 + 512 ≤ 6768; omega) d_MO_init_55 (fun a7 H hP hD hS => ?_)
  have hP : va_P D vwCl [(ao, .inr (7, [.int (nI 0), .ref a1, .ref a2, .ref a3, .ref a4, .ref a5, .ref a6, .int (nI 0), .null, .null, .int (nI 0), .int (nI 0), .int (nI 0), .int (nI 0), .int (nI 0), .null])), (a1, .inl (k 1, 4, .inl (fun _ => nI 0))), (a2, .inl (k 0, 4, .inl (fun _ => nI 0))), (a3, .inl (k 0, 16, .inl (fun _ => nI 0))), (a4, .inl (k 0, 16, .inl (fun _ => nI 0))), (a5, .inl (k 0, 64, .inl (fun _ => nI 0))), (a6, .inl (k 0, 4096, .inl (fun _ => nI 0))), (a7, .inl (k 0, 512, .inl (fun _ => nI 0)))] _ := hP
  have hD : va_D A [(ao, .inr (7, [.int (nI 0), .ref a1, .ref a2, .ref a3, .ref a4, .ref a5, .ref a6, .int (nI 0), .null, .null, .int (nI 0), .int (nI 0), .int (nI 0), .int (nI 0), .int (nI 0), .null])), (a1, .inl (k 1, 4, .inl (fun _ => nI 0))), (a2, .inl (k 0, 4, .inl (fun _ => nI 0))), (a3, .inl (k 0, 16, .inl (fun _ => nI 0))), (a4, .inl (k 0, 16, .inl (fun _ => nI 0))), (a5, .inl (k 0, 64, .inl (fun _ => nI 0))), (a6, .inl (k 0, 4096, .inl (fun _ => nI 0))), (a7, .inl (k 0, 512, .inl (fun _ => nI 0)))] := hD
  refine W.widen (k := 7) (n := 4712) (by show 6 + 1 ≤ 7; omega) (by show 4200 + 512 ≤ 4712; omega) ?_
  refine va_putF (D := D) (ci := 7) (v := .ref a7) (ty := .array .int) (C := R_MO) (T := T_MO) (N := 16) hx hb hts in_MO t_MO o_MO n_MO hown hK hP hD hS 0 rfl rfl 8 (by decide) (hts _ w_538) (fun _ h9 => h9) rfl hin rfl rfl (by first | rfl | decide +kernel) rfl (Nat.le_of_ble_eq_true rfl) d_MO_init_57 (fun H locs hP hD hS => ?_)
  have hP : va_P D vwCl [(ao, .inr (7, [.int (nI 0), .ref a1, .ref a2, .ref a3, .ref a4, .ref a5, .ref a6, .int (nI 0), .ref a7, .null, .int (nI 0), .int (nI 0), .int (nI 0), .int (nI 0), .int (nI 0), .null])), (a1, .inl (k 1, 4, .inl (fun _ => nI 0))), (a2, .inl (k 0, 4, .inl (fun _ => nI 0))), (a3, .inl (k 0, 16, .inl (fun _ => nI 0))), (a4, .inl (k 0, 16, .inl (fun _ => nI 0))), (a5, .inl (k 0, 64, .inl (fun _ => nI 0))), (a6, .inl (k 0, 4096, .inl (fun _ => nI 0))), (a7, .inl (k 0, 512, .inl (fun _ => nI 0)))] _ := hP
  have hD : va_D A [(ao, .inr (7, [.int (nI 0), .ref a1, .ref a2, .ref a3, .ref a4, .ref a5, .ref a6, .int (nI 0), .ref a7, .null, .int (nI 0), .int (nI 0), .int (nI 0), .int (nI 0), .int (nI 0), .null])), (a1, .inl (k 1, 4, .inl (fun _ => nI 0))), (a2, .inl (k 0, 4, .inl (fun _ => nI 0))), (a3, .inl (k 0, 16, .inl (fun _ => nI 0))), (a4, .inl (k 0, 16, .inl (fun _ => nI 0))), (a5, .inl (k 0, 64, .inl (fun _ => nI 0))), (a6, .inl (k 0, 4096, .inl (fun _ => nI 0))), (a7, .inl (k 0, 512, .inl (fun _ => nI 0)))] := hD
  refine lv_aload_n hx hb d_MO_init_60 rfl (lv_at hl 0 rfl) ?_
  refine lv_bipush (v := nI 8) hx hb d_MO_init_61 (by decide +kernel) ?_
  refine nw_newa (atype := .int) (n := 8) (i := 0) hx hb (hts _ w_45) rfl hK rfl hP hD hS hA (by omega) rfl (by show 8 * 4 ≤ _; omega) (by show 7 + 1 ≤ 9; omega) (by show 4712 + 8 ≤ 6768; omega) d_MO_init_63 (fun a8 H hP hD hS => ?_)
  have hP : va_P D vwCl [(ao, .inr (7, [.int (nI 0), .ref a1, .ref a2, .ref a3, .ref a4, .ref a5, .ref a6, .int (nI 0), .ref a7, .null, .int (nI 0), .int (nI 0), .int (nI 0), .int (nI 0), .int (nI 0), .null])), (a1, .inl (k 1, 4, .inl (fun _ => nI 0))), (a2, .inl (k 0, 4, .inl (fun _ => nI 0))), (a3, .inl (k 0, 16, .inl (fun _ => nI 0))), (a4, .inl (k 0, 16, .inl (fun _ => nI 0))), (a5, .inl (k 0, 64, .inl (fun _ => nI 0))), (a6, .inl (k 0, 4096, .inl (fun _ => nI 0))), (a7, .inl (k 0, 512, .inl (fun _ => nI 0))), (a8, .inl (k 0, 8, .inl (fun _ => nI 0)))] _ := hP
  have hD : va_D A [(ao, .inr (7, [.int (nI 0), .ref a1, .ref a2, .ref a3, .ref a4, .ref a5, .ref a6, .int (nI 0), .ref a7, .null, .int (nI 0), .int (nI 0), .int (nI 0), .int (nI 0), .int (nI 0), .null])), (a1, .inl (k 1, 4, .inl (fun _ => nI 0))), (a2, .inl (k 0, 4, .inl (fun _ => nI 0))), (a3, .inl (k 0, 16, .inl (fun _ => nI 0))), (a4, .inl (k 0, 16, .inl (fun _ => nI 0))), (a5, .inl (k 0, 64, .inl (fun _ => nI 0))), (a6, .inl (k 0, 4096, .inl (fun _ => nI 0))), (a7, .inl (k 0, 512, .inl (fun _ => nI 0))), (a8, .inl (k 0, 8, .inl (fun _ => nI 0)))] := hD
  refine W.widen (k := 8) (n := 4720) (by show 7 + 1 ≤ 8; omega) (by show 4712 + 8 ≤ 4720; omega) ?_
  refine va_putF (D := D) (ci := 7) (v := .ref a8) (ty := .array .int) (C := R_MO) (T := T_MO) (N := 16) hx hb hts in_MO t_MO o_MO n_MO hown hK hP hD hS 0 rfl rfl 9 (by decide) (hts _ w_539) (fun _ h9 => h9) rfl hin rfl rfl (by first | rfl | decide +kernel) rfl (Nat.le_of_ble_eq_true rfl) d_MO_init_65 (fun H locs hP hD hS => ?_)
  have hP : va_P D vwCl [(ao, .inr (7, [.int (nI 0), .ref a1, .ref a2, .ref a3, .ref a4, .ref a5, .ref a6, .int (nI 0), .ref a7, .ref a8, .int (nI 0), .int (nI 0), .int (nI 0), .int (nI 0), .int (nI 0), .null])), (a1, .inl (k 1, 4, .inl (fun _ => nI 0))), (a2, .inl (k 0, 4, .inl (fun _ => nI 0))), (a3, .inl (k 0, 16, .inl (fun _ => nI 0))), (a4, .inl (k 0, 16, .inl (fun _ => nI 0))), (a5, .inl (k 0, 64, .inl (fun _ => nI 0))), (a6, .inl (k 0, 4096, .inl (fun _ => nI 0))), (a7, .inl (k 0, 512, .inl (fun _ => nI 0))), (a8, .inl (k 0, 8, .inl (fun _ => nI 0)))] _ := hP
  have hD : va_D A [(ao, .inr (7, [.int (nI 0), .ref a1, .ref a2, .ref a3, .ref a4, .ref a5, .ref a6, .int (nI 0), .ref a7, .ref a8, .int (nI 0), .int (nI 0), .int (nI 0), .int (nI 0), .int (nI 0), .null])), (a1, .inl (k 1, 4, .inl (fun _ => nI 0))), (a2, .inl (k 0, 4, .inl (fun _ => nI 0))), (a3, .inl (k 0, 16, .inl (fun _ => nI 0))), (a4, .inl (k 0, 16, .inl (fun _ => nI 0))), (a5, .inl (k 0, 64, .inl (fun _ => nI 0))), (a6, .inl (k 0, 4096, .inl (fun _ => nI 0))), (a7, .inl (k 0, 512, .inl (fun _ => nI 0))), (a8, .inl (k 0, 8, .inl (fun _ => nI 0)))] := hD
  refine lv_aload_n hx hb d_MO_init_68 rfl (lv_at hl 0 rfl) ?_
  refine lv_iconst (v := (-1)) hx hb d_MO_init_69 (by decide +kernel) ?_
  refine va_put (D := D) (ci := 7) (v := .int (-1)) (ty := .int) (C := R_MO) (T := T_MO) (N := 16) hx hb hts in_MO t_MO o_MO n_MO hown hK hP hD hS 0 rfl rfl 13 (by decide) (hts _ w_543) (fun _ h9 => h9) rfl rfl (by first | rfl | decide +kernel) rfl (Nat.le_of_ble_eq_true rfl) d_MO_init_70 (fun H locs hP hD hS => ?_)
  have hP : va_P D vwCl [(ao, .inr (7, [.int (nI 0), .ref a1, .ref a2, .ref a3, .ref a4, .ref a5, .ref a6, .int (nI 0), .ref a7, .ref a8, .int (nI 0), .int (nI 0), .int (nI 0), .int (-1), .int (nI 0), .null])), (a1, .inl (k 1, 4, .inl (fun _ => nI 0))), (a2, .inl (k 0, 4, .inl (fun _ => nI 0))), (a3, .inl (k 0, 16, .inl (fun _ => nI 0))), (a4, .inl (k 0, 16, .inl (fun _ => nI 0))), (a5, .inl (k 0, 64, .inl (fun _ => nI 0))), (a6, .inl (k 0, 4096, .inl (fun _ => nI 0))), (a7, .inl (k 0, 512, .inl (fun _ => nI 0))), (a8, .inl (k 0, 8, .inl (fun _ => nI 0)))] _ := hP
  have hD : va_D A [(ao, .inr (7, [.int (nI 0), .ref a1, .ref a2, .ref a3, .ref a4, .ref a5, .ref a6, .int (nI 0), .ref a7, .ref a8, .int (nI 0), .int (nI 0), .int (nI 0), .int (-1), .int (nI 0), .null])), (a1, .inl (k 1, 4, .inl (fun _ => nI 0))), (a2, .inl (k 0, 4, .inl (fun _ => nI 0))), (a3, .inl (k 0, 16, .inl (fun _ => nI 0))), (a4, .inl (k 0, 16, .inl (fun _ => nI 0))), (a5, .inl (k 0, 64, .inl (fun _ => nI 0))), (a6, .inl (k 0, 4096, .inl (fun _ => nI 0))), (a7, .inl (k 0, 512, .inl (fun _ => nI 0))), (a8, .inl (k 0, 8, .inl (fun _ => nI 0)))] := hD
  refine lv_aload_n hx hb d_MO_init_73 rfl (lv_at hl 0 rfl) ?_
  refine lv_sipush (v := nI 2048) hx hb d_MO_init_74 (by decide +kernel) ?_
  refine nw_newa (atype := .int) (n := 2048) (i := 0) hx hb (hts _ w_45) rfl hK rfl hP hD hS hA (by omega) rfl (by show 2048 * 4 ≤ _; omega) (by show 8 + 1 ≤ 9; omega) (by show 4720 + 2048 ≤ 6768; omega) d_MO_init_77 (fun a9 H hP hD hS => ?_)
  have hP : va_P D vwCl [(ao, .inr (7, [.int (nI 0), .ref a1, .ref a2, .ref a3, .ref a4, .ref a5, .ref a6, .int (nI 0), .ref a7, .ref a8, .int (nI 0), .int (nI 0), .int (nI 0), .int (-1), .int (nI 0), .null])), (a1, .inl (k 1, 4, .inl (fun _ => nI 0))), (a2, .inl (k 0, 4, .inl (fun _ => nI 0))), (a3, .inl (k 0, 16, .inl (fun _ => nI 0))), (a4, .inl (k 0, 16, .inl (fun _ => nI 0))), (a5, .inl (k 0, 64, .inl (fun _ => nI 0))), (a6, .inl (k 0, 4096, .inl (fun _ => nI 0))), (a7, .inl (k 0, 512, .inl (fun _ => nI 0))), (a8, .inl (k 0, 8, .inl (fun _ => nI 0))), (a9, .inl (k 0, 2048, .inl (fun _ => nI 0)))] _ := hP
  have hD : va_D A [(ao, .inr (7, [.int (nI 0), .ref a1, .ref a2, .ref a3, .ref a4, .ref a5, .ref a6, .int (nI 0), .ref a7, .ref a8, .int (nI 0), .int (nI 0), .int (nI 0), .int (-1), .int (nI 0), .null])), (a1, .inl (k 1, 4, .inl (fun _ => nI 0))), (a2, .inl (k 0, 4, .inl (fun _ => nI 0))), (a3, .inl (k 0, 16, .inl (fun _ => nI 0))), (a4, .inl (k 0, 16, .inl (fun _ => nI 0))), (a5, .inl (k 0, 64, .inl (fun _ => nI 0))), (a6, .inl (k 0, 4096, .inl (fun _ => nI 0))), (a7, .inl (k 0, 512, .inl (fun _ => nI 0))), (a8, .inl (k 0, 8, .inl (fun _ => nI 0))), (a9, .inl (k 0, 2048, .inl (fun _ => nI 0)))] := hD
  refine W.widen (k := 9) (n := 6768) (by show 8 + 1 ≤ 9; omega) (by show 4720 + 2048 ≤ 6768; omega) ?_
  refine va_putF (D := D) (ci := 7) (v := .ref a9) (ty := .array .int) (C := R_MO) (T := T_MO) (N := 16) hx hb hts in_MO t_MO o_MO n_MO hown hK hP hD hS 0 rfl rfl 15 (by decide) (hts _ w_545) (fun _ h9 => h9) rfl hin rfl rfl (by first | rfl | decide +kernel) rfl (Nat.le_of_ble_eq_true rfl) d_MO_init_79 (fun H locs hP hD hS => ?_)
  have hP : va_P D vwCl [(ao, .inr (7, [.int (nI 0), .ref a1, .ref a2, .ref a3, .ref a4, .ref a5, .ref a6, .int (nI 0), .ref a7, .ref a8, .int (nI 0), .int (nI 0), .int (nI 0), .int (-1), .int (nI 0), .ref a9])), (a1, .inl (k 1, 4, .inl (fun _ => nI 0))), (a2, .inl (k 0, 4, .inl (fun _ => nI 0))), (a3, .inl (k 0, 16, .inl (fun _ => nI 0))), (a4, .inl (k 0, 16, .inl (fun _ => nI 0))), (a5, .inl (k 0, 64, .inl (fun _ => nI 0))), (a6, .inl (k 0, 4096, .inl (fun _ => nI 0))), (a7, .inl (k 0, 512, .inl (fun _ => nI 0))), (a8, .inl (k 0, 8, .inl (fun _ => nI 0))), (a9, .inl (k 0, 2048, .inl (fun _ => nI 0)))] _ := hP
  have hD : va_D A [(ao, .inr (7, [.int (nI 0), .ref a1, .ref a2, .ref a3, .ref a4, .ref a5, .ref a6, .int (nI 0), .ref a7, .ref a8, .int (nI 0), .int (nI 0), .int (nI 0), .int (-1), .int (nI 0), .ref a9])), (a1, .inl (k 1, 4, .inl (fun _ => nI 0))), (a2, .inl (k 0, 4, .inl (fun _ => nI 0))), (a3, .inl (k 0, 16, .inl (fun _ => nI 0))), (a4, .inl (k 0, 16, .inl (fun _ => nI 0))), (a5, .inl (k 0, 64, .inl (fun _ => nI 0))), (a6, .inl (k 0, 4096, .inl (fun _ => nI 0))), (a7, .inl (k 0, 512, .inl (fun _ => nI 0))), (a8, .inl (k 0, 8, .inl (fun _ => nI 0))), (a9, .inl (k 0, 2048, .inl (fun _ => nI 0)))] := hD
  exact nw_retv hx hb hr hlocks d_MO_init_82 (by show 9 ≤ 9; omega) (by show 6768 ≤ 6768; omega) hS (fun i => [ao, a1, a2, a3, a4, a5, a6, a7, a8, a9].getD i 0) rfl (hP.sub [0, 1, 2, 3, 4, 5, 6, 7, 8, 9] rfl) (hD.sub [0, 1, 2, 3, 4, 5, 6, 7, 8, 9] (by decide) rfl)
set_option maxHeartbeats 4000000 in
set_option maxRecDepth 100000 in
theorem c_RA_init256 (l : Launch) (D : va_G) (k : Nat → ClassId) (ao : Nat) : nw_v l y_RA_init b_RA_init 2 none { frames := 2, cells := 1, slots := 256, locals := 34 } D (kT k) [(ao, .inr (5, [.null, .int (nI 0)]))] [.ref ao, .int (nI 256)] (fun (_ : Nat) => True) (fun (u : Nat) => raW ao u k 256 255 (fun _ => 0)) := by
  refine nw_headv (by decide) (Nat.le_of_ble_eq_true rfl) ?_
  intro p e s m below meth c ls A hx hb hr hlocks hml hown hin hts hX hK hA hP hD hS hl
  have hown : s.vm.findClass "SlotScreen$Ram" = some m.cls := hown
  have hl : lv_has ls 2 [(0, .ref ao), (1, .int (nI 256))] := hl
  refine lv_aload_n hx hb d_RA_init_0 rfl (lv_at hl 0 rfl) ?_
  have hPc := hP.sub (ws' := []) [] rfl
  have hDc := hD.sub (ws' := []) [] (by decide) rfl
  have hFc := rw_S hDc hS hA
  refine kn_vN (As := []) (rest := []) ⟨hx, hb, hml, hown, hts⟩ (c_DV_init l D k ao) ⟨va_cnB 0 hts (gG w_408) rfl rfl rfl (hX.1 (.methodLinkNest "SlotScreen$Ram" 1 y_DV_init "SlotScreen") (by unfold NWL; simp)) (hts _ w_11) (by decide +kernel) ⟨Nat.le_of_ble_eq_true rfl, Nat.le_of_ble_eq_true rfl⟩, rfl, hts _ w_407⟩ hK hX hPc hDc hS hA rfl hl.1 rfl (Nat.le_of_ble_eq_true rfl) d_RA_init_1 ⟨by show 0 + 0 ≤ 1; omega, by show 0 + 0 ≤ 256; omega⟩ (fun u9 H9 locs hp9 hP1 hD1 hk1 hS9 => ?_)
  obtain ⟨hP, hD⟩ := va_join (wr := [(ao, .inr (5, [.null, .int (nI 0)]))]) (w1 := []) hP hD [] [0] rfl rfl (by decide) (by decide) hk1 hFc hP1 hD1
  have hS := hS9
  clear hS9 hP1 hD1 hk1 hFc hPc hDc
  generalize H9 = H at hP hS ⊢
  have hP : va_P D vwCl [(ao, .inr (5, [.null, .int (nI 0)]))] _ := hP
  have hD : va_D A [(ao, .inr (5, [.null, .int (nI 0)]))] := hD
  refine W.widen (k := 0) (n := 0) (by show 0 + 0 ≤ 0; omega) (by show 0 + 0 ≤ 0; omega) ?_
  refine lv_aload_n hx hb d_RA_init_4 rfl (lv_at hl 0 rfl) ?_
  refine lv_iload_n hx hb d_RA_init_5 rfl (lv_at hl 1 rfl) ?_
  refine nw_newa (atype := .int) (n := 256) (i := 0) hx hb (hts _ w_45) rfl hK rfl hP hD hS hA (by omega) rfl (by show 256 * 4 ≤ _; omega) (by show 0 + 1 ≤ 1; omega) (by show 0 + 256 ≤ 256; omega) d_RA_init_6 (fun bo H hP hD hS => ?_)
  have hP : va_P D vwCl [(ao, .inr (5, [.null, .int (nI 0)])), (bo, .inl (k 0, 256, .inl (fun _ => nI 0)))] _ := hP
  have hD : va_D A [(ao, .inr (5, [.null, .int (nI 0)])), (bo, .inl (k 0, 256, .inl (fun _ => nI 0)))] := hD
  refine W.widen (k := 1) (n := 256) (by show 0 + 1 ≤ 1; omega) (by show 0 + 256 ≤ 256; omega) ?_
  refine va_putF (D := D) (ci := 5) (v := .ref bo) (ty := .array .int) (C := R_RA) (T := T_RA) (N := 2) hx hb hts in_RA t_RA o_RA n_RA hown hK hP hD hS 0 rfl rfl 0 (by decide) (hts _ w_410) (fun _ h9 => h9) rfl hin rfl rfl (by first | rfl | decide +kernel) rfl (Nat.le_of_ble_eq_true rfl) d_RA_init_8 (fun H locs hP hD hS => ?_)
  have hP : va_P D vwCl [(ao, .inr (5, [.ref bo, .int (nI 0)])), (bo, .inl (k 0, 256, .inl (fun _ => nI 0)))] _ := hP
  have hD : va_D A [(ao, .inr (5, [.ref bo, .int (nI 0)])), (bo, .inl (k 0, 256, .inl (fun _ => nI 0)))] := hD
  refine lv_aload_n hx hb d_RA_init_11 rfl (lv_at hl 0 rfl) ?_
  refine lv_iload_n hx hb d_RA_init_12 rfl (lv_at hl 1 rfl) ?_
  refine lv_iconst (v := nI 1) hx hb d_RA_init_13 (by decide +kernel) ?_
  refine lv_isub hx hb d_RA_init_14 ?_
  refine ss_rt (y := nI 255) (by decide +kernel) ?_
  refine va_putF (D := D) (ci := 5) (v := .int (nI 255)) (ty := .int) (C := R_RA) (T := T_RA) (N := 2) hx hb hts in_RA t_RA o_RA n_RA hown hK hP hD hS 0 rfl rfl 1 (by decide) (hts _ w_411) (fun _ h9 => h9) rfl hin rfl rfl (by first | rfl | decide +kernel) rfl (Nat.le_of_ble_eq_true rfl) d_RA_init_15 (fun H locs hP hD hS => ?_)
  have hP : va_P D vwCl [(ao, .inr (5, [.ref bo, .int (nI 255)])), (bo, .inl (k 0, 256, .inl (fun _ => nI 0)))] _ := hP
  have hD : va_D A [(ao, .inr (5, [.ref bo, .int (nI 255)])), (bo, .inl (k 0, 256, .inl (fun _ => nI 0)))] := hD
  exact nw_retv hx hb hr hlocks d_RA_init_18 (by show 1 ≤ 1; omega) (by show 256 ≤ 256; omega) hS bo trivial hP hD
set_option maxHeartbeats 4000000 in
set_option maxRecDepth 100000 in
theorem c_RA_init64 (l : Launch) (D : va_G) (k : Nat → ClassId) (ao : Nat) : nw_v l y_RA_init b_RA_init 2 none { frames := 2, cells := 1, slots := 64, locals := 34 } D (kT k) [(ao, .inr (5, [.null, .int (nI 0)]))] [.ref ao, .int (nI 64)] (fun (_ : Nat) => True) (fun (u : Nat) => raW ao u k 64 63 (fun _ => 0)) := by
  refine nw_headv (by decide) (Nat.le_of_ble_eq_true rfl) ?_
  intro p e s m below meth c ls A hx hb hr hlocks hml hown hin hts hX hK hA hP hD hS hl
  have hown : s.vm.findClass "SlotScreen$Ram" = some m.cls := hown
  have hl : lv_has ls 2 [(0, .ref ao), (1, .int (nI 64))] := hl
  refine lv_aload_n hx hb d_RA_init_0 rfl (lv_at hl 0 rfl) ?_
  have hPc := hP.sub (ws' := []) [] rfl
  have hDc := hD.sub (ws' := []) [] (by decide) rfl
  have hFc := rw_S hDc hS hA
  refine kn_vN (As := []) (rest := []) ⟨hx, hb, hml, hown, hts⟩ (c_DV_init l D k ao) ⟨va_cnB 0 hts (gG w_408) rfl rfl rfl (hX.1 (.methodLinkNest "SlotScreen$Ram" 1 y_DV_init "SlotScreen") (by unfold NWL; simp)) (hts _ w_11) (by decide +kernel) ⟨Nat.le_of_ble_eq_true rfl, Nat.le_of_ble_eq_true rfl⟩, rfl, hts _ w_407⟩ hK hX hPc hDc hS hA rfl hl.1 rfl (Nat.le_of_ble_eq_true rfl) d_RA_init_1 ⟨by show 0 + 0 ≤ 1; omega, by show 0 + 0 ≤ 64; omega⟩ (fun u9 H9 locs hp9 hP1 hD1 hk1 hS9 => ?_)
  obtain ⟨hP, hD⟩ := va_join (wr := [(ao, .inr (5, [.null, .int (nI 0)]))]) (w1 := []) hP hD [] [0] rfl rfl (by decide) (by decide) hk1 hFc hP1 hD1
  have hS := hS9
  clear hS9 hP1 hD1 hk1 hFc hPc hDc
  generalize H9 = H at hP hS ⊢
  have hP : va_P D vwCl [(ao, .inr (5, [.null, .int (nI 0)]))] _ := hP
  have hD : va_D A [(ao, .inr (5, [.null, .int (nI 0)]))] := hD
  refine W.widen (k := 0) (n := 0) (by show 0 + 0 ≤ 0; omega) (by show 0 + 0 ≤ 0; omega) ?_
  refine lv_aload_n hx hb d_RA_init_4 rfl (lv_at hl 0 rfl) ?_
  refine lv_iload_n hx hb d_RA_init_5 rfl (lv_at hl 1 rfl) ?_
  refine nw_newa (atype := .int) (n := 64) (i := 0) hx hb (hts _ w_45) rfl hK rfl hP hD hS hA (by omega) rfl (by show 64 * 4 ≤ _; omega) (by show 0 + 1 ≤ 1; omega) (by show 0 + 64 ≤ 64; omega) d_RA_init_6 (fun bo H hP hD hS => ?_)
  have hP : va_P D vwCl [(ao, .inr (5, [.null, .int (nI 0)])), (bo, .inl (k 0, 64, .inl (fun _ => nI 0)))] _ := hP
  have hD : va_D A [(ao, .inr (5, [.null, .int (nI 0)])), (bo, .inl (k 0, 64, .inl (fun _ => nI 0)))] := hD
  refine W.widen (k := 1) (n := 64) (by show 0 + 1 ≤ 1; omega) (by show 0 + 64 ≤ 64; omega) ?_
  refine va_putF (D := D) (ci := 5) (v := .ref bo) (ty := .array .int) (C := R_RA) (T := T_RA) (N := 2) hx hb hts in_RA t_RA o_RA n_RA hown hK hP hD hS 0 rfl rfl 0 (by decide) (hts _ w_410) (fun _ h9 => h9) rfl hin rfl rfl (by first | rfl | decide +kernel) rfl (Nat.le_of_ble_eq_true rfl) d_RA_init_8 (fun H locs hP hD hS => ?_)
  have hP : va_P D vwCl [(ao, .inr (5, [.ref bo, .int (nI 0)])), (bo, .inl (k 0, 64, .inl (fun _ => nI 0)))] _ := hP
  have hD : va_D A [(ao, .inr (5, [.ref bo, .int (nI 0)])), (bo, .inl (k 0, 64, .inl (fun _ => nI 0)))] := hD
  refine lv_aload_n hx hb d_RA_init_11 rfl (lv_at hl 0 rfl) ?_
  refine lv_iload_n hx hb d_RA_init_12 rfl (lv_at hl 1 rfl) ?_
  refine lv_iconst (v := nI 1) hx hb d_RA_init_13 (by decide +kernel) ?_
  refine lv_isub hx hb d_RA_init_14 ?_
  refine ss_rt (y := nI 63) (by decide +kernel) ?_
  refine va_putF (D := D) (ci := 5) (v := .int (nI 63)) (ty := .int) (C := R_RA) (T := T_RA) (N := 2) hx hb hts in_RA t_RA o_RA n_RA hown hK hP hD hS 0 rfl rfl 1 (by decide) (hts _ w_411) (fun _ h9 => h9) rfl hin rfl rfl (by first | rfl | decide +kernel) rfl (Nat.le_of_ble_eq_true rfl) d_RA_init_15 (fun H locs hP hD hS => ?_)
  have hP : va_P D vwCl [(ao, .inr (5, [.ref bo, .int (nI 63)])), (bo, .inl (k 0, 64, .inl (fun _ => nI 0)))] _ := hP
  have hD : va_D A [(ao, .inr (5, [.ref bo, .int (nI 63)])), (bo, .inl (k 0, 64, .inl (fun _ => nI 0)))] := hD
  exact nw_retv hx hb hr hlocks d_RA_init_18 (by show 1 ≤ 1; omega) (by show 64 ≤ 64; omega) hS bo trivial hP hD
set_option maxHeartbeats 4000000 in
set_option maxRecDepth 100000 in
theorem c_RO_init (l : Launch) (D : va_G) (k : Nat → ClassId) (ao : Nat) : nw_v l y_RO_init b_RO_init 1 none { frames := 2, cells := 1, slots := 256, locals := 34 } D (kT k) [(ao, .inr (6, [.null]))] [.ref ao] (fun (_ : Nat) => True) (fun (u : Nat) => roW ao u k (fun _ => 0)) := by
  refine nw_headv (by decide) (Nat.le_of_ble_eq_true rfl) ?_
  intro p e s m below meth c ls A hx hb hr hlocks hml hown hin hts hX hK hA hP hD hS hl
  have hown : s.vm.findClass "SlotScreen$Rom" = some m.cls := hown
  have hl : lv_has ls 1 [(0, .ref ao)] := hl
  refine lv_aload_n hx hb d_RO_init_0 rfl (lv_at hl 0 rfl) ?_
  have hPc := hP.sub (ws' := []) [] rfl
  have hDc := hD.sub (ws' := []) [] (by decide) rfl
  have hFc := rw_S hDc hS hA
  refine kn_vN (As := []) (rest := []) ⟨hx, hb, hml, hown, hts⟩ (c_DV_init l D k ao) ⟨va_cnB 0 hts (gG w_408) rfl rfl rfl (hX.1 (.methodLinkNest "SlotScreen$Rom" 3 y_DV_init "SlotScreen") (by unfold NWL; simp)) (hts _ w_11) (by decide +kernel) ⟨Nat.le_of_ble_eq_true rfl, Nat.le_of_ble_eq_true rfl⟩, rfl, hts _ w_407⟩ hK hX hPc hDc hS hA rfl hl.1 rfl (Nat.le_of_ble_eq_true rfl) d_RO_init_1 ⟨by show 0 + 0 ≤ 1; omega, by show 0 + 0 ≤ 256; omega⟩ (fun u9 H9 locs hp9 hP1 hD1 hk1 hS9 => ?_)
  obtain ⟨hP, hD⟩ := va_join (wr := [(ao, .inr (6, [.null]))]) (w1 := []) hP hD [] [0] rfl rfl (by decide) (by decide) hk1 hFc hP1 hD1
  have hS := hS9
  clear hS9 hP1 hD1 hk1 hFc hPc hDc
  generalize H9 = H at hP hS ⊢
  have hP : va_P D vwCl [(ao, .inr (6, [.null]))] _ := hP
  have hD : va_D A [(ao, .inr (6, [.null]))] := hD
  refine W.widen (k := 0) (n := 0) (by show 0 + 0 ≤ 0; omega) (by show 0 + 0 ≤ 0; omega) ?_
  refine lv_aload_n hx hb d_RO_init_4 rfl (lv_at hl 0 rfl) ?_
  refine lv_sipush (v := nI 256) hx hb d_RO_init_5 (by decide +kernel) ?_
  refine nw_newa (atype := .int) (n := 256) (i := 0) hx hb (hts _ w_45) rfl hK rfl hP hD hS hA (by omega) rfl (by show 256 * 4 ≤ _; omega) (by show 0 + 1 ≤ 1; omega) (by show 0 + 256 ≤ 256; omega) d_RO_init_8 (fun bo H hP hD hS => ?_)
  have hP : va_P D vwCl [(ao, .inr (6, [.null])), (bo, .inl (k 0, 256, .inl (fun _ => nI 0)))] _ := hP
  have hD : va_D A [(ao, .inr (6, [.null])), (bo, .inl (k 0, 256, .inl (fun _ => nI 0)))] := hD
  refine W.widen (k := 1) (n := 256) (by show 0 + 1 ≤ 1; omega) (by show 0 + 256 ≤ 256; omega) ?_
  refine va_putF (D := D) (ci := 6) (v := .ref bo) (ty := .array .int) (C := R_RO) (T := T_RO) (N := 1) hx hb hts in_RO t_RO o_RO n_RO hown hK hP hD hS 0 rfl rfl 0 (by decide) (hts _ w_423) (fun _ h9 => h9) rfl hin rfl rfl (by first | rfl | decide +kernel) rfl (Nat.le_of_ble_eq_true rfl) d_RO_init_10 (fun H locs hP hD hS => ?_)
  have hP : va_P D vwCl [(ao, .inr (6, [.ref bo])), (bo, .inl (k 0, 256, .inl (fun _ => nI 0)))] _ := hP
  have hD : va_D A [(ao, .inr (6, [.ref bo])), (bo, .inl (k 0, 256, .inl (fun _ => nI 0)))] := hD
  exact nw_retv hx hb hr hlocks d_RO_init_13 (by show 1 ≤ 1; omega) (by show 256 ≤ 256; omega) hS bo trivial hP hD
set_option maxHeartbeats 4000000 in
set_option maxRecDepth 100000 in
theorem c_BK_init (l : Launch) (D : va_G) (k : Nat → ClassId) (ao nb : Nat) (hn1 : 1 ≤ nb) (hn2 : nb ≤ 8) : nw_v l y_BK_init b_BK_init 3 none { frames := 2, cells := 2, slots := 260, locals := 34 } D (kT k) [(ao, .inr (4, [.int (nI 0), .null, .null]))] [.ref ao, .int (nI nb)] (fun (_ : Nat × Nat) => True) (fun (u : Nat × Nat) => bkW ao u.2 u.1 k nb (fun _ => 0) (bkG nb 4)) := by
  refine nw_headv (by decide) (Nat.le_of_ble_eq_true rfl) ?_
  intro p e s m below meth c ls A hx hb hr hlocks hml hown hin hts hX hK hA hP hD hS hl
  have hown : s.vm.findClass "SlotScreen$Banks" = some m.cls := hown
  have hl : lv_has ls 3 [(0, .ref ao), (1, .int (nI nb))] := hl
  refine lv_aload_n hx hb d_BK_init_0 rfl (lv_at hl 0 rfl) ?_
  have hPc := hP.sub (ws' := []) [] rfl
  have hDc := hD.sub (ws' := []) [] (by decide) rfl
  have hFc := rw_S hDc hS hA
  refine kn_vN (As := []) (rest := []) ⟨hx, hb, hml, hown, hts⟩ (c_DV_init l D k ao) ⟨va_cnB 0 hts (gG w_408) rfl rfl rfl (hX.1 (.methodLinkNest "SlotScreen$Banks" 3 y_DV_init "SlotScreen") (by unfold NWL; simp)) (hts _ w_11) (by decide +kernel) ⟨Nat.le_of_ble_eq_true rfl, Nat.le_of_ble_eq_true rfl⟩, rfl, hts _ w_407⟩ hK hX hPc hDc hS hA rfl hl.1 rfl (Nat.le_of_ble_eq_true rfl) d_BK_init_1 ⟨by show 0 + 0 ≤ 2; omega, by show 0 + 0 ≤ 260; omega⟩ (fun u9 H9 locs hp9 hP1 hD1 hk1 hS9 => ?_)
  obtain ⟨hP, hD⟩ := va_join (wr := [(ao, .inr (4, [.int (nI 0), .null, .null]))]) (w1 := []) hP hD [] [0] rfl rfl (by decide) (by decide) hk1 hFc hP1 hD1
  have hS := hS9
  clear hS9 hP1 hD1 hk1 hFc hPc hDc
  generalize H9 = H at hP hS ⊢
  have hP : va_P D vwCl [(ao, .inr (4, [.int (nI 0), .null, .null]))] _ := hP
  have hD : va_D A [(ao, .inr (4, [.int (nI 0), .null, .null]))] := hD
  refine W.widen (k := 0) (n := 0) (by show 0 + 0 ≤ 0; omega) (by show 0 + 0 ≤ 0; omega) ?_
  refine lv_aload_n hx hb d_BK_init_4 rfl (lv_at hl 0 rfl) ?_
  refine lv_iconst (v := nI 4) hx hb d_BK_init_5 (by decide +kernel) ?_
  refine nw_newa (atype := .int) (n := 4) (i := 0) hx hb (hts _ w_45) rfl hK rfl hP hD hS hA (by omega) rfl (by show 4 * 4 ≤ _; omega) (by show 0 + 1 ≤ 2; omega) (by show 0 + 4 ≤ 260; omega) d_BK_init_6 (fun co H hP hD hS => ?_)
  have hP : va_P D vwCl [(ao, .inr (4, [.int (nI 0), .null, .null])), (co, .inl (k 0, 4, .inl (fun _ => nI 0)))] _ := hP
  have hD : va_D A [(ao, .inr (4, [.int (nI 0), .null, .null])), (co, .inl (k 0, 4, .inl (fun _ => nI 0)))] := hD
  refine W.widen (k := 1) (n := 4) (by show 0 + 1 ≤ 1; omega) (by show 0 + 4 ≤ 4; omega) ?_
  refine va_putF (D := D) (ci := 4) (v := .ref co) (ty := .array .int) (C := R_BK) (T := T_BK) (N := 3) hx hb hts in_BK t_BK o_BK n_BK hown hK hP hD hS 0 rfl rfl 2 (by decide) (hts _ w_435) (fun _ h9 => h9) rfl hin rfl rfl (by first | rfl | decide +kernel) rfl (Nat.le_of_ble_eq_true rfl) d_BK_init_8 (fun H locs hP hD hS => ?_)
  have hP : va_P D vwCl [(ao, .inr (4, [.int (nI 0), .null, .ref co])), (co, .inl (k 0, 4, .inl (fun _ => nI 0)))] _ := hP
  have hD : va_D A [(ao, .inr (4, [.int (nI 0), .null, .ref co])), (co, .inl (k 0, 4, .inl (fun _ => nI 0)))] := hD
  refine lv_aload_n hx hb d_BK_init_11 rfl (lv_at hl 0 rfl) ?_
  refine lv_iload_n hx hb d_BK_init_12 rfl (lv_at hl 1 rfl) ?_
  refine va_putF (D := D) (ci := 4) (v := .int (nI nb)) (ty := .int) (C := R_BK) (T := T_BK) (N := 3) hx hb hts in_BK t_BK o_BK n_BK hown hK hP hD hS 0 rfl rfl 0 (by decide) (hts _ w_433) (fun _ h9 => h9) rfl hin rfl rfl (by first | rfl | decide +kernel) rfl (Nat.le_of_ble_eq_true rfl) d_BK_init_13 (fun H locs hP hD hS => ?_)
  have hP : va_P D vwCl [(ao, .inr (4, [.int (nI nb), .null, .ref co])), (co, .inl (k 0, 4, .inl (fun _ => nI 0)))] _ := hP
  have hD : va_D A [(ao, .inr (4, [.int (nI nb), .null, .ref co])), (co, .inl (k 0, 4, .inl (fun _ => nI 0)))] := hD
  refine lv_aload_n hx hb d_BK_init_16 rfl (lv_at hl 0 rfl) ?_
  refine lv_iload_n hx hb d_BK_init_17 rfl (lv_at hl 1 rfl) ?_
  refine lv_bipush (v := nI 32) hx hb d_BK_init_18 (by decide +kernel) ?_
  refine lv_imul hx hb d_BK_init_20 ?_
  refine ss_rt (y := nI (32 * nb)) (by rw [pk_mul, Nat.mul_comm]) ?_
  refine nw_newa (atype := .int) (n := 32 * nb) (i := 0) hx hb (hts _ w_45) rfl hK rfl hP hD hS hA (by omega) rfl (by show (32 * nb) * 4 ≤ _; omega) (by show 1 + 1 ≤ 2; omega) (by show 4 + (32 * nb) ≤ 260; omega) d_BK_init_21 (fun bo H hP hD hS => ?_)
  have hP : va_P D vwCl [(ao, .inr (4, [.int (nI nb), .null, .ref co])), (co, .inl (k 0, 4, .inl (fun _ => nI 0))), (bo, .inl (k 0, 32 * nb, .inl (fun _ => nI 0)))] _ := hP
  have hD : va_D A [(ao, .inr (4, [.int (nI nb), .null, .ref co])), (co, .inl (k 0, 4, .inl (fun _ => nI 0))), (bo, .inl (k 0, 32 * nb, .inl (fun _ => nI 0)))] := hD
  refine W.widen (k := 2) (n := 4 + (32 * nb)) (by show 1 + 1 ≤ 2; omega) (by show 4 + (32 * nb) ≤ 4 + (32 * nb); omega) ?_
  refine va_putF (D := D) (ci := 4) (v := .ref bo) (ty := .array .int) (C := R_BK) (T := T_BK) (N := 3) hx hb hts in_BK t_BK o_BK n_BK hown hK hP hD hS 0 rfl rfl 1 (by decide) (hts _ w_434) (fun _ h9 => h9) rfl hin rfl rfl (by first | rfl | decide +kernel) rfl (Nat.le_of_ble_eq_true rfl) d_BK_init_23 (fun H locs hP hD hS => ?_)
  have hP : va_P D vwCl [(ao, .inr (4, [.int (nI nb), .ref bo, .ref co])), (co, .inl (k 0, 4, .inl (fun _ => nI 0))), (bo, .inl (k 0, 32 * nb, .inl (fun _ => nI 0)))] _ := hP
  have hD : va_D A [(ao, .inr (4, [.int (nI nb), .ref bo, .ref co])), (co, .inl (k 0, 4, .inl (fun _ => nI 0))), (bo, .inl (k 0, 32 * nb, .inl (fun _ => nI 0)))] := hD
  refine lv_iconst (v := nI 0) hx hb d_BK_init_26 (by decide +kernel) ?_
  refine lv_istore_n (lv' := [(2, .int (nI 0)), (0, .ref ao), (1, .int (nI nb))]) hx hb d_BK_init_27 rfl hl (by decide) rfl (fun ls hl => ?_)
  have hP : va_P D vwCl (bkW ao bo co k nb (fun _ => 0) (fun _ => 0)) _ := hP
  have hD : va_D A (bkW ao bo co k nb (fun _ => 0) (fun _ => 0)) := hD
  have loop : ∀ (j9 i : Nat), i + j9 = 4 → ∀ (H : Heap) (locs : List Loc), va_P D vwCl (bkW ao bo co k nb (fun _ => 0) (bkG nb i)) H → va_D A (bkW ao bo co k nb (fun _ => 0) (bkG nb i)) → va_S A s.heap H locs → ∀ (ls : Array Slot), lv_has ls 3 [(2, .int (nI i)), (0, .ref ao), (1, .int (nI nb))] → W p l e (headSpec (wsG y_BK_init b_BK_init 3 none) { frames := 2, cells := 2, slots := 260, locals := 34 }).room s m ([.ref ao, .int (nI nb)] : List Value).toArray below meth c H locs 2 (4 + (32 * nb)) (MQ below (va_Qv (fun (_ : Nat × Nat) => True) (fun u t => va_P D vwCl ((fun (u : Nat × Nat) => bkW ao u.2 u.1 k nb (fun _ => 0) (bkG nb 4)) u) t.heap ∧ va_D A ((fun (u : Nat × Nat) => bkW ao u.2 u.1 k nb (fun _ => 0) (bkG nb 4)) u)) A) ([.ref ao, .int (nI nb)] : List Value).toArray s 2 260 A) (F0 m 28 ls []) := by
    intro j9
    induction j9 with
    | zero =>
      intro i h9 H locs hP hD hS ls hl
      obtain rfl : i = 4 := by omega
      refine lv_iload_n hx hb d_BK_init_28 rfl (lv_at hl 0 rfl) ?_
      refine lv_iconst (v := nI 4) hx hb d_BK_init_29 (by decide +kernel) ?_
      refine lv_icmp_ge (tgt := 48) hx hb d_BK_init_30 (by decide) (fun c1 => ?_) (fun c1 => ?_)
      · have c1 := (nI_leI (by omega) (by omega)).mp c1
        exact nw_retv hx hb hr hlocks d_BK_init_48 (by show 2 ≤ 2; omega) (by show 4 + (32 * nb) ≤ 260; omega) hS (co, bo) trivial hP hD
      · have c1 := mt (nI_leI (by omega) (by omega)).mpr c1
        exfalso; omega
    | succ j9 ih =>
      intro i h9 H locs hP hD hS ls hl
      refine lv_iload_n hx hb d_BK_init_28 rfl (lv_at hl 0 rfl) ?_
      refine lv_iconst (v := nI 4) hx hb d_BK_init_29 (by decide +kernel) ?_
      refine lv_icmp_ge (tgt := 48) hx hb d_BK_init_30 (by decide) (fun c2 => ?_) (fun c2 => ?_)
      · have c2 := (nI_leI (by omega) (by omega)).mp c2
        exfalso; omega
      · have c2 := mt (nI_leI (by omega) (by omega)).mpr c2
        refine lv_aload_n hx hb d_BK_init_33 rfl (lv_at hl 1 rfl) ?_
        refine va_get (D := D) (ci := 4) (v := .ref co) (C := R_BK) (T := T_BK) (N := 3) hx hb hts in_BK hown hK hP 0 rfl rfl 2 (by decide) (hts _ w_435) (fun _ h9 => h9) rfl d_BK_init_34 ?_
        refine lv_iload_n hx hb d_BK_init_37 rfl (lv_at hl 0 rfl) ?_
        refine lv_iload_n hx hb d_BK_init_38 rfl (lv_at hl 0 rfl) ?_
        refine lv_iload_n hx hb d_BK_init_39 rfl (lv_at hl 2 rfl) ?_
        refine lv_irem hx hb d_BK_init_40 (by first | decide +kernel | exact nI_ne0 (by omega) (by omega)) ?_
        refine ss_rt (y := nI (i % nb)) (pk_rem (by omega) (by omega) (by omega)) ?_
        refine va_iast hx hb hK hP hD hS 1 0 rfl rfl (vp_in_nI (by omega) (by omega)) d_BK_init_41 (fun H locs hP hD hS => ?_)
        rw [ss_upI (bkG nb i) (k := i) (v := (i % nb)) (by omega)] at hP hD
        have hP : va_P D vwCl (bkW ao bo co k nb (fun _ => 0) (ss_up (bkG nb i) i (i % nb))) _ := hP
        have hD : va_D A (bkW ao bo co k nb (fun _ => 0) (ss_up (bkG nb i) i (i % nb))) := hD
        refine lv_iinc (v := nI (i + 1)) (lv' := [(2, .int (nI (i + 1))), (0, .ref ao), (1, .int (nI nb))]) hx hb d_BK_init_42 hl (k := 0) rfl (nI_1 _) (by decide) rfl (fun ls hl => ?_)
        refine lv_goto (tgt := 28) hx hb d_BK_init_45 (by decide) ?_
        rw [bkG_s] at hP hD
        exact ih (i + 1) (by omega) _ _ hP hD hS ls (lv_sub hl [0, 1, 2] rfl)
  have hP : va_P D vwCl (bkW ao bo co k nb (fun _ => 0) (bkG nb 0)) H := by rw [bkG_0]; exact hP
  have hD : va_D A (bkW ao bo co k nb (fun _ => 0) (bkG nb 0)) := by rw [bkG_0]; exact hD
  exact loop (4 - 0) 0 (by omega) _ _ hP hD hS ls (lv_sub hl [0, 1, 2] rfl)
set_option maxHeartbeats 4000000 in
set_option maxRecDepth 100000 in
theorem c_SS_newDevice1 (l : Launch) (D : va_G) (k : Nat → ClassId) (b : Int32) : nw_r l y_SS_newDevice b_SS_newDevice 2 (some (.object "SlotScreen$Device")) { frames := 3, cells := 3, slots := 263, locals := 56 } D (kT k) [] [.int (nI 1), .int b] (fun (_ : Nat) => True) (fun (u : Nat) (a : Nat) => raW a u k 256 255 (fun _ => 0)) := by
  refine nw_headr (by decide) (Nat.le_of_ble_eq_true rfl) ?_
  intro p e s m below meth c ls A hx hb hr hlocks hml hown hin hts hX hK hA hP hD hS hl
  have hown : s.vm.findClass "SlotScreen" = some m.cls := hown
  have hl : lv_has ls 2 [(0, .int (nI 1)), (1, .int b)] := hl
  refine lv_iload_n hx hb d_SS_newDevice_0 rfl (lv_at hl 0 rfl) ?_
  have t9 : (nI 1).toInt = ((1 : Nat) : Int) := nI_toInt (by omega)
  by_cases c2 : 1 = 1
  · refine lv_tableIn (off := 27) (tgt := 28) hx hb d_SS_newDevice_1 (by rw [t9]; omega) (by rw [t9]; omega) (by rw [t9, show ((1 : Nat) : Int) = 1 from (by omega)]; decide) (by decide) ?_
    refine va_new (ci := 5) (fs := [.null, .int (nI 0)]) (C := R_RA) (T := T_RA) (N := 2) hx hb hts in_RA t_RA o_RA hown (hts _ w_401) (hts _ w_402) (hts _ w_12) hK hP hD hS hA rfl (fun j hj => by rcases (show j = 0 ∨ j = 1 by omega) with rfl | rfl <;> rfl) (by show 0 + 1 ≤ 3; omega) (by show 0 + 2 ≤ 263; omega) d_SS_newDevice_28 (fun dd H hP hD hS => ?_)
    have hP : va_P D vwCl [(dd, .inr (5, [.null, .int (nI 0)]))] _ := hP
    have hD : va_D A [(dd, .inr (5, [.null, .int (nI 0)]))] := hD
    refine W.widen (k := 1) (n := 2) (by show 0 + 1 ≤ 1; omega) (by show 0 + 2 ≤ 2; omega) ?_
    refine lv_dup hx hb d_SS_newDevice_31 rfl ?_
    refine lv_sipush (v := nI 256) hx hb d_SS_newDevice_32 (by decide +kernel) ?_
    have hPc := hP.sub (ws' := [(dd, .inr (5, [.null, .int (nI 0)]))]) [0] rfl
    have hDc := hD.sub (ws' := [(dd, .inr (5, [.null, .int (nI 0)]))]) [0] (by decide) rfl
    have hFc := rw_S hDc hS hA
    refine kn_vI (As := [.int (nI 256)]) (rest := [.ref dd]) ⟨hx, hb, hml, hown, hts⟩ (c_RA_init256 l D k dd) (cwI 1 hts (gG w_405) rfl rfl rfl (hts _ w_12) (hts _ w_403) (hts _ w_404) rfl (by decide +kernel) ⟨Nat.le_of_ble_eq_true rfl, Nat.le_of_ble_eq_true rfl⟩) hK hX hPc hDc hS hA rfl hl.1 rfl (Nat.le_of_ble_eq_true rfl) d_SS_newDevice_35 ⟨by show 1 + 1 ≤ 3; omega, by show 2 + 256 ≤ 263; omega⟩ (fun u9 H9 locs hp9 hP1 hD1 hk1 hS9 => ?_)
    obtain ⟨bo, rfl⟩ : ∃ z, z = u9 := ⟨_, rfl⟩
    obtain ⟨hP, hD⟩ := va_join (wr := []) (w1 := [(dd, .inr (5, [.ref bo, .int (nI 255)])), (bo, .inl (k 0, 256, .inl (fun _ => nI 0)))]) hP hD [0] [] rfl rfl (by decide) (by decide) hk1 hFc hP1 hD1
    have hS := hS9
    clear hS9 hP1 hD1 hk1 hFc hPc hDc
    generalize H9 = H at hP hS ⊢
    have hP : va_P D vwCl [(dd, .inr (5, [.ref bo, .int (nI 255)])), (bo, .inl (k 0, 256, .inl (fun _ => nI 0)))] _ := hP
    have hD : va_D A [(dd, .inr (5, [.ref bo, .int (nI 255)])), (bo, .inl (k 0, 256, .inl (fun _ => nI 0)))] := hD
    refine W.widen (k := 2) (n := 258) (by show 1 + 1 ≤ 2; omega) (by show 2 + 256 ≤ 258; omega) ?_
    exact nw_retr hx hb hr hlocks d_SS_newDevice_38 (by show 2 ≤ 3; omega) (by show 258 ≤ 263; omega) hS bo trivial hP hD
  exfalso; omega
set_option maxHeartbeats 4000000 in
set_option maxRecDepth 100000 in
theorem c_SS_newDevice2 (l : Launch) (D : va_G) (k : Nat → ClassId) (b : Int32) : nw_r l y_SS_newDevice b_SS_newDevice 2 (some (.object "SlotScreen$Device")) { frames := 3, cells := 3, slots := 263, locals := 56 } D (kT k) [] [.int (nI 2), .int b] (fun (_ : Nat) => True) (fun (u : Nat) (a : Nat) => roW a u k (fun _ => 0)) := by
  refine nw_headr (by decide) (Nat.le_of_ble_eq_true rfl) ?_
  intro p e s m below meth c ls A hx hb hr hlocks hml hown hin hts hX hK hA hP hD hS hl
  have hown : s.vm.findClass "SlotScreen" = some m.cls := hown
  have hl : lv_has ls 2 [(0, .int (nI 2)), (1, .int b)] := hl
  refine lv_iload_n hx hb d_SS_newDevice_0 rfl (lv_at hl 0 rfl) ?_
  have t9 : (nI 2).toInt = ((2 : Nat) : Int) := nI_toInt (by omega)
  by_cases c2 : 2 = 2
  · refine lv_tableIn (off := 38) (tgt := 39) hx hb d_SS_newDevice_1 (by rw [t9]; omega) (by rw [t9]; omega) (by rw [t9, show ((2 : Nat) : Int) = 2 from (by omega)]; decide) (by decide) ?_
    refine va_new (ci := 6) (fs := [.null]) (C := R_RO) (T := T_RO) (N := 1) hx hb hts in_RO t_RO o_RO hown (hts _ w_417) (hts _ w_418) (hts _ w_13) hK hP hD hS hA rfl (fun j hj => by rcases (show j = 0 by omega) with rfl <;> rfl) (by show 0 + 1 ≤ 3; omega) (by show 0 + 1 ≤ 263; omega) d_SS_newDevice_39 (fun dd H hP hD hS => ?_)
    have hP : va_P D vwCl [(dd, .inr (6, [.null]))] _ := hP
    have hD : va_D A [(dd, .inr (6, [.null]))] := hD
    refine W.widen (k := 1) (n := 1) (by show 0 + 1 ≤ 1; omega) (by show 0 + 1 ≤ 1; omega) ?_
    refine lv_dup hx hb d_SS_newDevice_42 rfl ?_
    have hPc := hP.sub (ws' := [(dd, .inr (6, [.null]))]) [0] rfl
    have hDc := hD.sub (ws' := [(dd, .inr (6, [.null]))]) [0] (by decide) rfl
    have hFc := rw_S hDc hS hA
    refine kn_vN (As := []) (rest := [.ref dd]) ⟨hx, hb, hml, hown, hts⟩ (c_RO_init l D k dd) ⟨va_cnB 0 hts (gG w_421) rfl rfl rfl (hX.1 (.methodLinkNest "SlotScreen" 157 y_RO_init "SlotScreen") (by unfold NWL; simp)) (hts _ w_13) (by decide +kernel) ⟨Nat.le_of_ble_eq_true rfl, Nat.le_of_ble_eq_true rfl⟩, rfl, hts _ w_420⟩ hK hX hPc hDc hS hA rfl hl.1 rfl (Nat.le_of_ble_eq_true rfl) d_SS_newDevice_43 ⟨by show 1 + 1 ≤ 3; omega, by show 1 + 256 ≤ 263; omega⟩ (fun u9 H9 locs hp9 hP1 hD1 hk1 hS9 => ?_)
    obtain ⟨bo, rfl⟩ : ∃ z, z = u9 := ⟨_, rfl⟩
    obtain ⟨hP, hD⟩ := va_join (wr := []) (w1 := [(dd, .inr (6, [.ref bo])), (bo, .inl (k 0, 256, .inl (fun _ => nI 0)))]) hP hD [0] [] rfl rfl (by decide) (by decide) hk1 hFc hP1 hD1
    have hS := hS9
    clear hS9 hP1 hD1 hk1 hFc hPc hDc
    generalize H9 = H at hP hS ⊢
    have hP : va_P D vwCl [(dd, .inr (6, [.ref bo])), (bo, .inl (k 0, 256, .inl (fun _ => nI 0)))] _ := hP
    have hD : va_D A [(dd, .inr (6, [.ref bo])), (bo, .inl (k 0, 256, .inl (fun _ => nI 0)))] := hD
    refine W.widen (k := 2) (n := 257) (by show 1 + 1 ≤ 2; omega) (by show 1 + 256 ≤ 257; omega) ?_
    exact nw_retr hx hb hr hlocks d_SS_newDevice_46 (by show 2 ≤ 3; omega) (by show 257 ≤ 263; omega) hS bo trivial hP hD
  exfalso; omega
set_option maxHeartbeats 4000000 in
set_option maxRecDepth 100000 in
theorem c_SS_newDevice3 (l : Launch) (D : va_G) (k : Nat → ClassId) (n : Nat) (hn1 : 1 ≤ n) (hn2 : n ≤ 8) : nw_r l y_SS_newDevice b_SS_newDevice 2 (some (.object "SlotScreen$Device")) { frames := 3, cells := 3, slots := 263, locals := 56 } D (kT k) [] [.int (nI 3), .int (nI n)] (fun (_ : Nat × Nat) => True) (fun (u : Nat × Nat) (a : Nat) => bkW a u.2 u.1 k n (fun _ => 0) (bkG n 4)) := by
  refine nw_headr (by decide) (Nat.le_of_ble_eq_true rfl) ?_
  intro p e s m below meth c ls A hx hb hr hlocks hml hown hin hts hX hK hA hP hD hS hl
  have hown : s.vm.findClass "SlotScreen" = some m.cls := hown
  have hl : lv_has ls 2 [(0, .int (nI 3)), (1, .int (nI n))] := hl
  refine lv_iload_n hx hb d_SS_newDevice_0 rfl (lv_at hl 0 rfl) ?_
  have t9 : (nI 3).toInt = ((3 : Nat) : Int) := nI_toInt (by omega)
  by_cases c2 : 3 = 3
  · refine lv_tableIn (off := 46) (tgt := 47) hx hb d_SS_newDevice_1 (by rw [t9]; omega) (by rw [t9]; omega) (by rw [t9, show ((3 : Nat) : Int) = 3 from (by omega)]; decide) (by decide) ?_
    refine va_new (ci := 4) (fs := [.int (nI 0), .null, .null]) (C := R_BK) (T := T_BK) (N := 3) hx hb hts in_BK t_BK o_BK hown (hts _ w_427) (hts _ w_428) (hts _ w_14) hK hP hD hS hA rfl (fun j hj => by rcases (show j = 0 ∨ j = 1 ∨ j = 2 by omega) with rfl | rfl | rfl <;> rfl) (by show 0 + 1 ≤ 3; omega) (by show 0 + 3 ≤ 263; omega) d_SS_newDevice_47 (fun dd H hP hD hS => ?_)
    have hP : va_P D vwCl [(dd, .inr (4, [.int (nI 0), .null, .null]))] _ := hP
    have hD : va_D A [(dd, .inr (4, [.int (nI 0), .null, .null]))] := hD
    refine W.widen (k := 1) (n := 3) (by show 0 + 1 ≤ 1; omega) (by show 0 + 3 ≤ 3; omega) ?_
    refine lv_dup hx hb d_SS_newDevice_50 rfl ?_
    refine lv_iload_n hx hb d_SS_newDevice_51 rfl (lv_at hl 1 rfl) ?_
    have hPc := hP.sub (ws' := [(dd, .inr (4, [.int (nI 0), .null, .null]))]) [0] rfl
    have hDc := hD.sub (ws' := [(dd, .inr (4, [.int (nI 0), .null, .null]))]) [0] (by decide) rfl
    have hFc := rw_S hDc hS hA
    refine kn_vI (As := [.int (nI n)]) (rest := [.ref dd]) ⟨hx, hb, hml, hown, hts⟩ (c_BK_init l D k dd n (by omega) (by omega)) (cwI 1 hts (gG w_431) rfl rfl rfl (hts _ w_14) (hts _ w_429) (hts _ w_430) rfl (by decide +kernel) ⟨Nat.le_of_ble_eq_true rfl, Nat.le_of_ble_eq_true rfl⟩) hK hX hPc hDc hS hA rfl hl.1 rfl (Nat.le_of_ble_eq_true rfl) d_SS_newDevice_52 ⟨by show 1 + 2 ≤ 3; omega, by show 3 + 260 ≤ 263; omega⟩ (fun u9 H9 locs hp9 hP1 hD1 hk1 hS9 => ?_)
    obtain ⟨co, bo⟩ := u9
    obtain ⟨hP, hD⟩ := va_join (wr := []) (w1 := [(dd, .inr (4, [.int (nI n), .ref bo, .ref co])), (co, .inl (k 0, 4, .inl (fun j => nI (bkG n 4 j)))), (bo, .inl (k 0, 32 * n, .inl (fun _ => nI 0)))]) hP hD [0] [] rfl rfl (by decide) (by decide) hk1 hFc hP1 hD1
    have hS := hS9
    clear hS9 hP1 hD1 hk1 hFc hPc hDc
    generalize H9 = H at hP hS ⊢
    have hP : va_P D vwCl [(dd, .inr (4, [.int (nI n), .ref bo, .ref co])), (co, .inl (k 0, 4, .inl (fun j => nI (bkG n 4 j)))), (bo, .inl (k 0, 32 * n, .inl (fun _ => nI 0)))] _ := hP
    have hD : va_D A [(dd, .inr (4, [.int (nI n), .ref bo, .ref co])), (co, .inl (k 0, 4, .inl (fun j => nI (bkG n 4 j)))), (bo, .inl (k 0, 32 * n, .inl (fun _ => nI 0)))] := hD
    refine W.widen (k := 3) (n := 263) (by show 1 + 2 ≤ 3; omega) (by show 3 + 260 ≤ 263; omega) ?_
    exact nw_retr hx hb hr hlocks d_SS_newDevice_55 (by show 3 ≤ 3; omega) (by show 263 ≤ 263; omega) hS (co, bo) trivial hP hD
  exfalso; omega
set_option maxHeartbeats 4000000 in
set_option maxRecDepth 100000 in
theorem c_SS_newDevice4 (l : Launch) (D : va_G) (k : Nat → ClassId) (b : Int32) : nw_r l y_SS_newDevice b_SS_newDevice 2 (some (.object "SlotScreen$Device")) { frames := 3, cells := 3, slots := 263, locals := 56 } D (kT k) [] [.int (nI 4), .int b] (fun (_ : Nat) => True) (fun (u : Nat) (a : Nat) => raW a u k 64 63 (fun _ => 0)) := by
  refine nw_headr (by decide) (Nat.le_of_ble_eq_true rfl) ?_
  intro p e s m below meth c ls A hx hb hr hlocks hml hown hin hts hX hK hA hP hD hS hl
  have hown : s.vm.findClass "SlotScreen" = some m.cls := hown
  have hl : lv_has ls 2 [(0, .int (nI 4)), (1, .int b)] := hl
  refine lv_iload_n hx hb d_SS_newDevice_0 rfl (lv_at hl 0 rfl) ?_
  have t9 : (nI 4).toInt = ((4 : Nat) : Int) := nI_toInt (by omega)
  refine lv_tableOut (tgt := 56) hx hb d_SS_newDevice_1 (by rw [t9]; omega) (by decide) ?_
  refine va_new (ci := 5) (fs := [.null, .int (nI 0)]) (C := R_RA) (T := T_RA) (N := 2) hx hb hts in_RA t_RA o_RA hown (hts _ w_401) (hts _ w_402) (hts _ w_12) hK hP hD hS hA rfl (fun j hj => by rcases (show j = 0 ∨ j = 1 by omega) with rfl | rfl <;> rfl) (by show 0 + 1 ≤ 3; omega) (by show 0 + 2 ≤ 263; omega) d_SS_newDevice_56 (fun dd H hP hD hS => ?_)
  have hP : va_P D vwCl [(dd, .inr (5, [.null, .int (nI 0)]))] _ := hP
  have hD : va_D A [(dd, .inr (5, [.null, .int (nI 0)]))] := hD
  refine W.widen (k := 1) (n := 2) (by show 0 + 1 ≤ 1; omega) (by show 0 + 2 ≤ 2; omega) ?_
  refine lv_dup hx hb d_SS_newDevice_59 rfl ?_
  refine lv_bipush (v := nI 64) hx hb d_SS_newDevice_60 (by decide +kernel) ?_
  have hPc := hP.sub (ws' := [(dd, .inr (5, [.null, .int (nI 0)]))]) [0] rfl
  have hDc := hD.sub (ws' := [(dd, .inr (5, [.null, .int (nI 0)]))]) [0] (by decide) rfl
  have hFc := rw_S hDc hS hA
  refine kn_vI (As := [.int (nI 64)]) (rest := [.ref dd]) ⟨hx, hb, hml, hown, hts⟩ (c_RA_init64 l D k dd) (cwI 1 hts (gG w_405) rfl rfl rfl (hts _ w_12) (hts _ w_403) (hts _ w_404) rfl (by decide +kernel) ⟨Nat.le_of_ble_eq_true rfl, Nat.le_of_ble_eq_true rfl⟩) hK hX hPc hDc hS hA rfl hl.1 rfl (Nat.le_of_ble_eq_true rfl) d_SS_newDevice_62 ⟨by show 1 + 1 ≤ 3; omega, by show 2 + 64 ≤ 263; omega⟩ (fun u9 H9 locs hp9 hP1 hD1 hk1 hS9 => ?_)
  obtain ⟨bo, rfl⟩ : ∃ z, z = u9 := ⟨_, rfl⟩
  obtain ⟨hP, hD⟩ := va_join (wr := []) (w1 := [(dd, .inr (5, [.ref bo, .int (nI 63)])), (bo, .inl (k 0, 64, .inl (fun _ => nI 0)))]) hP hD [0] [] rfl rfl (by decide) (by decide) hk1 hFc hP1 hD1
  have hS := hS9
  clear hS9 hP1 hD1 hk1 hFc hPc hDc
  generalize H9 = H at hP hS ⊢
  have hP : va_P D vwCl [(dd, .inr (5, [.ref bo, .int (nI 63)])), (bo, .inl (k 0, 64, .inl (fun _ => nI 0)))] _ := hP
  have hD : va_D A [(dd, .inr (5, [.ref bo, .int (nI 63)])), (bo, .inl (k 0, 64, .inl (fun _ => nI 0)))] := hD
  refine W.widen (k := 2) (n := 66) (by show 1 + 1 ≤ 2; omega) (by show 2 + 64 ≤ 66; omega) ?_
  exact nw_retr hx hb hr hlocks d_SS_newDevice_65 (by show 2 ≤ 3; omega) (by show 66 ≤ 263; omega) hS bo trivial hP hD
