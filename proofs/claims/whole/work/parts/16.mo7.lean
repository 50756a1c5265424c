set_option maxHeartbeats 4000000 in
set_option maxRecDepth 100000 in
theorem c_MO_tellFifth (l : Launch) (D : va_G) (k : Nat → ClassId) (q : Nat → Nat) (cd : Int32) (wd : Nat → Nat) (se : Nat → Nat) (kd : Nat → Nat) (bn : Nat → Int32) (sh : Nat → Nat) (mb : Nat → Nat) (pr : Nat) (B : Nat → Nat) (R : Nat → Nat) (sx : Nat) (pt : Nat) (rd : Nat) (wt : Int32) (ln : Nat) (px : Nat → Nat) (hB : ∀ j, B j < 256) (hR : ∀ j, R j < 256) (hsx : sx < 256) (hln : ln < 32) : rw_v l y_MO_tellFifth b_MO_tellFifth 4 none { frames := 4, cells := 0, slots := 0, locals := 85 } D (kT k) (mW q k cd wd se kd bn sh mb pr B R sx pt rd wt ln px) [.ref (q 0), .int (nI (dmo B R))] (fun (_ : Unit) => True) (fun (_ : Unit) => (mW q k cd wd se kd bn sh mb pr B R (d5f B R ln sx 8) pt rd wt ln px)) := by
  refine rw_headv (by decide) (Nat.le_of_ble_eq_true rfl) ?_
  intro p e s m below meth c ls A hx hb hr hlocks hml hown hts hK hA hP hD hS hl
  have hown : s.vm.findClass "SlotScreenModel" = some m.cls := hown
  have hl : lv_has ls 4 [(0, .ref (q 0)), (1, .int (nI (dmo B R)))] := hl
  have z1 := dmo_le B R
  refine lv_iconst (v := nI 0) hx hb d_MO_tellFifth_0 (by decide +kernel) ?_
  refine lv_istore_n (lv' := [(2, .int (nI 0)), (0, .ref (q 0)), (1, .int (nI (dmo B R)))]) hx hb d_MO_tellFifth_1 rfl hl (by decide) rfl (fun ls hl => ?_)
  refine lv_iconst (v := nI 0) hx hb d_MO_tellFifth_2 (by decide +kernel) ?_
  refine lv_istore_n (lv' := [(3, .int (nI 0)), (2, .int (nI 0)), (0, .ref (q 0)), (1, .int (nI (dmo B R)))]) hx hb d_MO_tellFifth_3 rfl hl (by decide) rfl (fun ls hl => ?_)
  have loop : ∀ (j9 i : Nat), i + j9 = dmo B R → ∀ (H : Heap) (locs : List Loc), va_P D vwCl (mW q k cd wd se kd bn sh mb pr B R (d5f B R ln sx i) pt rd wt ln px) H → va_D A (mW q k cd wd se kd bn sh mb pr B R (d5f B R ln sx i) pt rd wt ln px) → va_S A s.heap H locs → ∀ (ls : Array Slot), lv_has ls 4 [(3, .int (nI i)), (2, .int (nI (dct B R ln i))), (0, .ref (q 0)), (1, .int (nI (dmo B R)))] → W p l e (headSpec (wsG y_MO_tellFifth b_MO_tellFifth 4 none) { frames := 4, cells := 0, slots := 0, locals := 85 }).room s m ([.ref (q 0), .int (nI (dmo B R))] : List Value).toArray below meth c H locs 0 0 (MQ below (rw_Qv D (fun (_ : Unit) => True) (fun (_ : Unit) => (mW q k cd wd se kd bn sh mb pr B R (d5f B R ln sx 8) pt rd wt ln px)) A) ([.ref (q 0), .int (nI (dmo B R))] : List Value).toArray s 0 0 A) (F0 m 4 ls []) := by
    intro j9
    induction j9 with
    | zero =>
      intro i h9 H locs hP hD hS ls hl
      have f5 := d5f_lt (B := B) (R := R) (L := ln) hsx i (by omega)
      have f6 := dct_le B R ln i
      refine lv_iload_n hx hb d_MO_tellFifth_4 rfl (lv_at hl 0 rfl) ?_
      refine lv_iload_n hx hb d_MO_tellFifth_5 rfl (lv_at hl 3 rfl) ?_
      refine lv_icmp_ge (tgt := 80) hx hb d_MO_tellFifth_6 (by decide) (fun c1 => ?_) (fun c1 => ?_)
      · have c1 := (nI_leI (by omega) (by omega)).mp c1
        exact rw_retv hx hb hr hlocks d_MO_tellFifth_80 hS () (trivial) (by rw [show (d5f B R ln sx 8) = (d5f B R ln sx i) from by rw [d5f_e, show dmo B R = i by omega]]; exact hP)
      · have c1 := mt (nI_leI (by omega) (by omega)).mpr c1
        exfalso; omega
    | succ j9 ih =>
      intro i h9 H locs hP hD hS ls hl
      have f5 := d5f_lt (B := B) (R := R) (L := ln) hsx i (by omega)
      have f6 := dct_le B R ln i
      refine lv_iload_n hx hb d_MO_tellFifth_4 rfl (lv_at hl 0 rfl) ?_
      refine lv_iload_n hx hb d_MO_tellFifth_5 rfl (lv_at hl 3 rfl) ?_
      refine lv_icmp_ge (tgt := 80) hx hb d_MO_tellFifth_6 (by decide) (fun c2 => ?_) (fun c2 => ?_)
      · have c2 := (nI_leI (by omega) (by omega)).mp c2
        exfalso; omega
      · have c2 := mt (nI_leI (by omega) (by omega)).mpr c2
        by_cases hd : don B R ln i = true
        · skip
          have g3 := drw_lt hd
          have g4 := dsd_or R
          refine lv_aload_n hx hb d_MO_tellFifth_9 rfl (lv_at hl 2 rfl) ?_
          refine lv_iload_n hx hb d_MO_tellFifth_10 rfl (lv_at hl 0 rfl) ?_
          refine lv_aload_n hx hb d_MO_tellFifth_11 rfl (lv_at hl 2 rfl) ?_
          refine va_get (D := D) (ci := 7) (v := .int (nI ln)) (C := R_MO) (T := T_MO) (N := 16) hx hb hts in_MO hown hK hP 0 rfl rfl 14 (by decide) (hts _ w_544) (fun _ h9 => h9) rfl d_MO_tellFifth_12 ?_
          refine kr_iV (As := [.int (nI i), .int (nI ln)]) (rest := []) ⟨hx, hb, hml, hown, hts⟩ (c_MO_rowOn_t l D k q cd wd se kd bn sh mb pr B R (d5f B R ln sx i) pt rd wt ln px hB hR i ln (by omega) (by omega) (by assumption)) (cwV 2 hts (gV w_669 w_671 w_p24 w_5 w_672) rfl rfl rfl (by decide +kernel) ⟨Nat.le_of_ble_eq_true rfl, Nat.le_of_ble_eq_true rfl⟩) hK hP (va_recv hK hP (ci := 7) (q0 := 0) rfl rfl) rfl hl.1 rfl (Nat.le_of_ble_eq_true rfl) d_MO_tellFifth_15 ⟨Nat.zero_le _, Nat.zero_le _⟩ ?_
          refine lv_if_ge (tgt := 24) hx hb d_MO_tellFifth_18 (by decide) (fun c5 => ?_) (fun c5 => ?_)
          · have c5 := (n_ge0 (by omega)).mp c5
            refine lv_iinc (v := nI (dct B R ln i + 1)) (lv' := [(2, .int (nI (dct B R ln i + 1))), (3, .int (nI i)), (0, .ref (q 0)), (1, .int (nI (dmo B R)))]) hx hb d_MO_tellFifth_24 hl (k := 1) rfl (nI_1 _) (by decide) rfl (fun ls hl => ?_)
            refine lv_iload_n hx hb d_MO_tellFifth_27 rfl (lv_at hl 0 rfl) ?_
            refine lv_iconst (v := nI 5) hx hb d_MO_tellFifth_28 (by decide +kernel) ?_
            refine lv_icmp_ne (tgt := 74) hx hb d_MO_tellFifth_29 (by decide) (fun c6 => ?_) (fun c6 => ?_)
            · have c6 := mt (nI_eq (by omega) (by omega)).mpr c6
              refine lv_iinc (v := nI (i + 1)) (lv' := [(3, .int (nI (i + 1))), (2, .int (nI (dct B R ln i + 1))), (0, .ref (q 0)), (1, .int (nI (dmo B R)))]) hx hb d_MO_tellFifth_74 hl (k := 1) rfl (nI_1 _) (by decide) rfl (fun ls hl => ?_)
              refine lv_goto (tgt := 4) hx hb d_MO_tellFifth_77 (by decide) ?_
              rw [← st_ct hd] at hl
              have e5 : d5f B R ln sx (i + 1) = d5f B R ln sx i := by first | exact d5f_0 (by omega) | (rw [d5f_1 (by omega) hd (by omega)]; exact dff_b (by assumption))
              rw [← e5] at hP hD
              exact ih (i + 1) (by omega) _ _ hP hD hS ls (lv_sub hl [0, 1, 2, 3] rfl)
            · have c6 := (nI_eq (by omega) (by omega)).mp c6
              refine lv_aload_n hx hb d_MO_tellFifth_32 rfl (lv_at hl 2 rfl) ?_
              refine lv_aload_n hx hb d_MO_tellFifth_33 rfl (lv_at hl 2 rfl) ?_
              refine va_get (D := D) (ci := 7) (v := .int (nI (d5f B R ln sx i))) (C := R_MO) (T := T_MO) (N := 16) hx hb hts in_MO hown hK hP 0 rfl rfl 10 (by decide) (hts _ w_540) (fun _ h9 => h9) rfl d_MO_tellFifth_34 ?_
              refine lv_bipush (v := nI 6) hx hb d_MO_tellFifth_37 (by decide +kernel) ?_
              refine kr_iV (As := [.int (nI (d5f B R ln sx i)), .int (nI 6)]) (rest := []) ⟨hx, hb, hml, hown, hts⟩ (c_MO_bit l D k q cd wd se kd bn sh mb pr B R (d5f B R ln sx i) pt rd wt ln px (d5f B R ln sx i) 6 (by omega) (by omega)) (cwV 2 hts (gV w_653 w_655 w_p20 w_5 w_656) rfl rfl rfl (by decide +kernel) ⟨Nat.le_of_ble_eq_true rfl, Nat.le_of_ble_eq_true rfl⟩) hK hP (va_recv hK hP (ci := 7) (q0 := 0) rfl rfl) rfl hl.1 rfl (Nat.le_of_ble_eq_true rfl) d_MO_tellFifth_39 ⟨Nat.zero_le _, Nat.zero_le _⟩ ?_
              refine lv_if_ne (tgt := 74) hx hb d_MO_tellFifth_42 (by decide) (fun c7 => ?_) (fun c7 => ?_)
              · have c7 := mt (bI_0).mpr c7
                have c7 := Classical.not_not.mp c7
                refine lv_iinc (v := nI (i + 1)) (lv' := [(3, .int (nI (i + 1))), (2, .int (nI (dct B R ln i + 1))), (0, .ref (q 0)), (1, .int (nI (dmo B R)))]) hx hb d_MO_tellFifth_74 hl (k := 1) rfl (nI_1 _) (by decide) rfl (fun ls hl => ?_)
                refine lv_goto (tgt := 4) hx hb d_MO_tellFifth_77 (by decide) ?_
                rw [← st_ct hd] at hl
                have e5 : d5f B R ln sx (i + 1) = d5f B R ln sx i := by first | exact d5f_0 (by omega) | (rw [d5f_1 (by omega) hd (by omega)]; exact dff_b (by assumption))
                rw [← e5] at hP hD
                exact ih (i + 1) (by omega) _ _ hP hD hS ls (lv_sub hl [0, 1, 2, 3] rfl)
              · have c7 := (bI_0).mp c7
                refine lv_aload_n hx hb d_MO_tellFifth_45 rfl (lv_at hl 2 rfl) ?_
                refine lv_aload_n hx hb d_MO_tellFifth_46 rfl (lv_at hl 2 rfl) ?_
                refine va_get (D := D) (ci := 7) (v := .int (nI (d5f B R ln sx i))) (C := R_MO) (T := T_MO) (N := 16) hx hb hts in_MO hown hK hP 0 rfl rfl 10 (by decide) (hts _ w_540) (fun _ h9 => h9) rfl d_MO_tellFifth_47 ?_
                refine lv_sipush (v := nI 128) hx hb d_MO_tellFifth_50 (by decide +kernel) ?_
                refine lv_idiv hx hb d_MO_tellFifth_53 (by first | decide +kernel | exact nI_ne0 (by omega) (by omega)) ?_
                refine ss_rt (y := nI ((d5f B R ln sx i) / 128)) (pk_div (by omega) (by omega) (by omega)) ?_
                refine lv_sipush (v := nI 128) hx hb d_MO_tellFifth_54 (by decide +kernel) ?_
                refine lv_imul hx hb d_MO_tellFifth_57 ?_
                refine ss_rt (y := nI (((d5f B R ln sx i) / 128) * 128)) (pk_mul _ _) ?_
                refine lv_aload_n hx hb d_MO_tellFifth_58 rfl (lv_at hl 2 rfl) ?_
                refine va_get (D := D) (ci := 7) (v := .int (nI (d5f B R ln sx i))) (C := R_MO) (T := T_MO) (N := 16) hx hb hts in_MO hown hK hP 0 rfl rfl 10 (by decide) (hts _ w_540) (fun _ h9 => h9) rfl d_MO_tellFifth_59 ?_
                refine lv_bipush (v := nI 32) hx hb d_MO_tellFifth_62 (by decide +kernel) ?_
                refine lv_iand hx hb d_MO_tellFifth_64 ?_
                refine ss_rt (y := nI (d5f B R ln sx i / 32 % 2 * 32)) (ss_and32 _ f5) ?_
                refine lv_iadd hx hb d_MO_tellFifth_65 ?_
                refine ss_rt (y := nI (((d5f B R ln sx i) / 128) * 128 + (d5f B R ln sx i / 32 % 2 * 32))) (nI_add _ _) ?_
                refine lv_bipush (v := nI 64) hx hb d_MO_tellFifth_66 (by decide +kernel) ?_
                refine lv_iadd hx hb d_MO_tellFifth_68 ?_
                refine ss_rt (y := nI (((d5f B R ln sx i) / 128) * 128 + (d5f B R ln sx i / 32 % 2 * 32) + 64)) (nI_add _ _) ?_
                refine lv_iload_n hx hb d_MO_tellFifth_69 rfl (lv_at hl 1 rfl) ?_
                refine lv_iadd hx hb d_MO_tellFifth_70 ?_
                refine ss_rt (y := nI (((d5f B R ln sx i) / 128) * 128 + (d5f B R ln sx i / 32 % 2 * 32) + 64 + i)) (nI_add _ _) ?_
                refine va_put (D := D) (ci := 7) (v := .int (nI (((d5f B R ln sx i) / 128) * 128 + (d5f B R ln sx i / 32 % 2 * 32) + 64 + i))) (ty := .int) (C := R_MO) (T := T_MO) (N := 16) hx hb hts in_MO t_MO o_MO n_MO hown hK hP hD hS 0 rfl rfl 10 (by decide) (hts _ w_540) (fun _ h9 => h9) rfl (by decide +kernel) rfl rfl (Nat.le_of_ble_eq_true rfl) d_MO_tellFifth_71 (fun H locs hP hD hS => ?_)
                have hP : va_P D vwCl (mW q k cd wd se kd bn sh mb pr B R (((d5f B R ln sx i) / 128) * 128 + (d5f B R ln sx i / 32 % 2 * 32) + 64 + i) pt rd wt ln px) H := hP
                have hD : va_D A (mW q k cd wd se kd bn sh mb pr B R (((d5f B R ln sx i) / 128) * 128 + (d5f B R ln sx i / 32 % 2 * 32) + 64 + i) pt rd wt ln px) := hD
                refine lv_iinc (v := nI (i + 1)) (lv' := [(3, .int (nI (i + 1))), (2, .int (nI (dct B R ln i + 1))), (0, .ref (q 0)), (1, .int (nI (dmo B R)))]) hx hb d_MO_tellFifth_74 hl (k := 1) rfl (nI_1 _) (by decide) rfl (fun ls hl => ?_)
                refine lv_goto (tgt := 4) hx hb d_MO_tellFifth_77 (by decide) ?_
                rw [← st_ct hd] at hl
                rw [← dff_n (by assumption), ← d5f_1 (by omega) hd (by omega)] at hP hD
                exact ih (i + 1) (by omega) _ _ hP hD hS ls (lv_sub hl [0, 1, 2, 3] rfl)
          · have c5 := mt (n_ge0 (by omega)).mpr c5
            exfalso; omega
        · skip
          refine lv_aload_n hx hb d_MO_tellFifth_9 rfl (lv_at hl 2 rfl) ?_
          refine lv_iload_n hx hb d_MO_tellFifth_10 rfl (lv_at hl 0 rfl) ?_
          refine lv_aload_n hx hb d_MO_tellFifth_11 rfl (lv_at hl 2 rfl) ?_
          refine va_get (D := D) (ci := 7) (v := .int (nI ln)) (C := R_MO) (T := T_MO) (N := 16) hx hb hts in_MO hown hK hP 0 rfl rfl 14 (by decide) (hts _ w_544) (fun _ h9 => h9) rfl d_MO_tellFifth_12 ?_
          refine kr_iV (As := [.int (nI i), .int (nI ln)]) (rest := []) ⟨hx, hb, hml, hown, hts⟩ (c_MO_rowOn_f l D k q cd wd se kd bn sh mb pr B R (d5f B R ln sx i) pt rd wt ln px hB hR i ln (by omega) (by omega) (by assumption)) (cwV 2 hts (gV w_669 w_671 w_p24 w_5 w_672) rfl rfl rfl (by decide +kernel) ⟨Nat.le_of_ble_eq_true rfl, Nat.le_of_ble_eq_true rfl⟩) hK hP (va_recv hK hP (ci := 7) (q0 := 0) rfl rfl) rfl hl.1 rfl (Nat.le_of_ble_eq_true rfl) d_MO_tellFifth_15 ⟨Nat.zero_le _, Nat.zero_le _⟩ ?_
          refine lv_if_ge (tgt := 24) hx hb d_MO_tellFifth_18 (by decide) (fun c8 => ?_) (fun c8 => ?_)
          · have c8 := (z_ge0).mp c8
            exact absurd c8 (by decide +kernel)
          · have c8 := mt (z_ge0).mpr c8
            refine lv_goto (tgt := 74) hx hb d_MO_tellFifth_21 (by decide) ?_
            refine lv_iinc (v := nI (i + 1)) (lv' := [(3, .int (nI (i + 1))), (2, .int (nI (dct B R ln i))), (0, .ref (q 0)), (1, .int (nI (dmo B R)))]) hx hb d_MO_tellFifth_74 hl (k := 0) rfl (nI_1 _) (by decide) rfl (fun ls hl => ?_)
            refine lv_goto (tgt := 4) hx hb d_MO_tellFifth_77 (by decide) ?_
            rw [← (st_off hd 0).1] at hl
            rw [← d5f_0 (fun q => hd q.1)] at hP hD
            exact ih (i + 1) (by omega) _ _ hP hD hS ls (lv_sub hl [0, 1, 2, 3] rfl)
  exact loop (dmo B R - 0) 0 (by omega) _ _ hP hD hS ls (lv_sub hl [0, 1, 2, 3] rfl)
set_option maxHeartbeats 4000000 in
set_option maxRecDepth 100000 in
theorem c_MO_scan_on (l : Launch) (D : va_G) (k : Nat → ClassId) (q : Nat → Nat) (cd : Int32) (wd : Nat → Nat) (se : Nat → Nat) (kd : Nat → Nat) (bn : Nat → Int32) (sh : Nat → Nat) (mb : Nat → Nat) (pr : Nat) (B : Nat → Nat) (R : Nat → Nat) (sx : Nat) (pt : Nat) (rd : Nat) (wt : Int32) (ln : Nat) (px : Nat → Nat) (hB : ∀ j, B j < 256) (hR : ∀ j, R j < 256) (hsx : sx < 256) (hln : ln < 32) (hon : R 1 / 2 ^ 6 % 2 = 1) : rw_i l y_MO_scan b_MO_scan 4 (some .int) { frames := 5, cells := 0, slots := 0, locals := 117 } D (kT k) (mW q k cd wd se kd bn sh mb pr B R sx pt rd wt ln px) [.ref (q 0)] (fun (r : Int32) (_ : Unit) => r = nI ln) (fun (_ : Unit) => (mW q k (nI 0) wd se kd bn sh mb pr B R (if ln = 31 then ss_so 128 (dts (dtc B R ln 8 64) (d5f B R ln sx 8)) else dts (dtc B R ln 8 64) (d5f B R ln sx 8)) pt rd wt ((ln + 1) % 32) (dln (dpx B R ln) ln 64 px))) := by
  refine rw_headi (by decide) (Nat.le_of_ble_eq_true rfl) ?_
  intro p e s m below meth c ls A hx hb hr hlocks hml hown hts hK hA hP hD hS hl
  have hown : s.vm.findClass "SlotScreenModel" = some m.cls := hown
  have hl : lv_has ls 4 [(0, .ref (q 0))] := hl
  have z1 := dmo_le B R
  refine lv_aload_n hx hb d_MO_scan_0 rfl (lv_at hl 0 rfl) ?_
  refine lv_iconst (v := nI 0) hx hb d_MO_scan_1 (by decide +kernel) ?_
  refine va_put (D := D) (ci := 7) (v := .int (nI 0)) (ty := .int) (C := R_MO) (T := T_MO) (N := 16) hx hb hts in_MO t_MO o_MO n_MO hown hK hP hD hS 0 rfl rfl 0 (by decide) (hts _ w_530) (fun _ h9 => h9) rfl (by decide +kernel) rfl rfl (Nat.le_of_ble_eq_true rfl) d_MO_scan_2 (fun H locs hP hD hS => ?_)
  have hP : va_P D vwCl (mW q k (nI 0) wd se kd bn sh mb pr B R sx pt rd wt ln px) H := hP
  have hD : va_D A (mW q k (nI 0) wd se kd bn sh mb pr B R sx pt rd wt ln px) := hD
  refine lv_aload_n hx hb d_MO_scan_5 rfl (lv_at hl 0 rfl) ?_
  refine lv_aload_n hx hb d_MO_scan_6 rfl (lv_at hl 0 rfl) ?_
  refine va_get (D := D) (ci := 7) (v := .ref (q 8)) (C := R_MO) (T := T_MO) (N := 16) hx hb hts in_MO hown hK hP 0 rfl rfl 9 (by decide) (hts _ w_539) (fun _ h9 => h9) rfl d_MO_scan_7 ?_
  refine lv_iconst (v := nI 1) hx hb d_MO_scan_10 (by decide +kernel) ?_
  refine va_iald hx hb hK hP 8 0 rfl rfl (vp_in_nI (by omega) (by omega)) d_MO_scan_11 ?_
  refine ss_rt (y := nI (R 1)) (congrArg (fun z => nI (R z)) (nI_clamp (by omega))) ?_
  have g1 := hR 1
  refine lv_bipush (v := nI 6) hx hb d_MO_scan_12 (by decide +kernel) ?_
  refine kr_iV (As := [.int (nI (R 1)), .int (nI 6)]) (rest := []) ⟨hx, hb, hml, hown, hts⟩ (c_MO_bit l D k q (nI 0) wd se kd bn sh mb pr B R sx pt rd wt ln px (R 1) 6 (by omega) (by omega)) (cwV 2 hts (gV w_653 w_655 w_p20 w_5 w_656) rfl rfl rfl (by decide +kernel) ⟨Nat.le_of_ble_eq_true rfl, Nat.le_of_ble_eq_true rfl⟩) hK hP (va_recv hK hP (ci := 7) (q0 := 0) rfl rfl) rfl hl.1 rfl (Nat.le_of_ble_eq_true rfl) d_MO_scan_14 ⟨Nat.zero_le _, Nat.zero_le _⟩ ?_
  refine lv_istore_n (lv' := [(1, .int (bI ((R 1) / 2 ^ 6 % 2 = 1))), (0, .ref (q 0))]) hx hb d_MO_scan_17 rfl hl (by decide) rfl (fun ls hl => ?_)
  refine lv_aload_n hx hb d_MO_scan_18 rfl (lv_at hl 1 rfl) ?_
  refine kr_iV (As := []) (rest := []) ⟨hx, hb, hml, hown, hts⟩ (c_MO_there l D k q (nI 0) wd se kd bn sh mb pr B R sx pt rd wt ln px hB hR) (cwV 0 hts (gV w_657 w_659 w_p21 w_5 w_660) rfl rfl rfl (by decide +kernel) ⟨Nat.le_of_ble_eq_true rfl, Nat.le_of_ble_eq_true rfl⟩) hK hP (va_recv hK hP (ci := 7) (q0 := 0) rfl rfl) rfl hl.1 rfl (Nat.le_of_ble_eq_true rfl) d_MO_scan_19 ⟨Nat.zero_le _, Nat.zero_le _⟩ ?_
  refine lv_istore_n (lv' := [(2, .int (nI (dmo B R))), (1, .int (bI ((R 1) / 2 ^ 6 % 2 = 1))), (0, .ref (q 0))]) hx hb d_MO_scan_22 rfl hl (by decide) rfl (fun ls hl => ?_)
  refine lv_iload_n hx hb d_MO_scan_23 rfl (lv_at hl 1 rfl) ?_
  refine lv_if_eq (tgt := 32) hx hb d_MO_scan_24 (by decide) (fun c2 => ?_) (fun c2 => ?_)
  · have c2 := (bI_0).mp c2
    exfalso; omega
  · have c2 := mt (bI_0).mpr c2
    have c2 := Classical.not_not.mp c2
    refine lv_aload_n hx hb d_MO_scan_27 rfl (lv_at hl 2 rfl) ?_
    refine lv_iload_n hx hb d_MO_scan_28 rfl (lv_at hl 0 rfl) ?_
    refine kw_vV (As := [.int (nI (dmo B R))]) (rest := []) ⟨hx, hb, hml, hown, hts⟩ (c_MO_tellFifth l D k q (nI 0) wd se kd bn sh mb pr B R sx pt rd wt ln px hB hR (by omega) (by omega)) (cwV 1 hts (gV w_665 w_667 w_p23 w_5 w_668) rfl rfl rfl (by decide +kernel) ⟨Nat.le_of_ble_eq_true rfl, Nat.le_of_ble_eq_true rfl⟩) hK hP hD hS hA (va_recv hK hP (ci := 7) (q0 := 0) rfl rfl) rfl hl.1 rfl (Nat.le_of_ble_eq_true rfl) d_MO_scan_29 ⟨Nat.zero_le _, Nat.zero_le _⟩ (fun _ H locs _ hP _ hS => ?_)
    have hD : va_D A (mW q k (nI 0) wd se kd bn sh mb pr B R (d5f B R ln sx 8) pt rd wt ln px) := rw_same hD rfl
    have hP : va_P D vwCl (mW q k (nI 0) wd se kd bn sh mb pr B R (d5f B R ln sx 8) pt rd wt ln px) H := hP
    refine lv_iconst (v := nI 0) hx hb d_MO_scan_32 (by decide +kernel) ?_
    refine lv_istore_n (lv' := [(3, .int (nI 0)), (2, .int (nI (dmo B R))), (1, .int (bI ((R 1) / 2 ^ 6 % 2 = 1))), (0, .ref (q 0))]) hx hb d_MO_scan_33 rfl hl (by decide) rfl (fun ls hl => ?_)
    have loop : ∀ (j9 i : Nat), i + j9 = 64 → ∀ (H : Heap) (locs : List Loc), va_P D vwCl (mW q k (nI 0) wd se kd bn sh mb pr B R (dts (dtc B R ln 8 i) (d5f B R ln sx 8)) pt rd wt ln (dln (dpx B R ln) ln i px)) H → va_D A (mW q k (nI 0) wd se kd bn sh mb pr B R (dts (dtc B R ln 8 i) (d5f B R ln sx 8)) pt rd wt ln (dln (dpx B R ln) ln i px)) → va_S A s.heap H locs → ∀ (ls : Array Slot), lv_has ls 4 [(3, .int (nI i)), (2, .int (nI (dmo B R))), (1, .int (bI (R 1 / 2 ^ 6 % 2 = 1))), (0, .ref (q 0))] → W p l e (headSpec (wsG y_MO_scan b_MO_scan 4 (some .int)) { frames := 5, cells := 0, slots := 0, locals := 117 }).room s m ([.ref (q 0)] : List Value).toArray below meth c H locs 0 0 (MQ below (rw_Qi D (fun (r : Int32) (_ : Unit) => r = nI ln) (fun (_ : Unit) => (mW q k (nI 0) wd se kd bn sh mb pr B R (if ln = 31 then ss_so 128 (dts (dtc B R ln 8 64) (d5f B R ln sx 8)) else dts (dtc B R ln 8 64) (d5f B R ln sx 8)) pt rd wt ((ln + 1) % 32) (dln (dpx B R ln) ln 64 px))) A) ([.ref (q 0)] : List Value).toArray s 0 0 A) (F0 m 34 ls []) := by
      intro j9
      induction j9 with
      | zero =>
        intro i h9 H locs hP hD hS ls hl
        have f5 := d5f_lt (B := B) (R := R) (L := ln) hsx 8 (by omega)
        have f6 := dts_lt (b := dtc B R ln 8 i) f5
        obtain rfl : i = 64 := by omega
        refine lv_iload_n hx hb d_MO_scan_34 rfl (lv_at hl 0 rfl) ?_
        refine lv_bipush (v := nI 64) hx hb d_MO_scan_35 (by decide +kernel) ?_
        refine lv_icmp_ge (tgt := 83) hx hb d_MO_scan_37 (by decide) (fun c3 => ?_) (fun c3 => ?_)
        · have c3 := (nI_leI (by omega) (by omega)).mp c3
          refine lv_aload_n hx hb d_MO_scan_83 rfl (lv_at hl 3 rfl) ?_
          refine va_get (D := D) (ci := 7) (v := .int (nI ln)) (C := R_MO) (T := T_MO) (N := 16) hx hb hts in_MO hown hK hP 0 rfl rfl 14 (by decide) (hts _ w_544) (fun _ h9 => h9) rfl d_MO_scan_84 ?_
          refine lv_istore_n (lv' := [(3, .int (nI ln)), (2, .int (nI (dmo B R))), (1, .int (bI (R 1 / 2 ^ 6 % 2 = 1))), (0, .ref (q 0))]) hx hb d_MO_scan_87 rfl hl (by decide) rfl (fun ls hl => ?_)
          refine lv_aload_n hx hb d_MO_scan_88 rfl (lv_at hl 3 rfl) ?_
          refine lv_aload_n hx hb d_MO_scan_89 rfl (lv_at hl 3 rfl) ?_
          refine va_get (D := D) (ci := 7) (v := .int (nI ln)) (C := R_MO) (T := T_MO) (N := 16) hx hb hts in_MO hown hK hP 0 rfl rfl 14 (by decide) (hts _ w_544) (fun _ h9 => h9) rfl d_MO_scan_90 ?_
          refine lv_bipush (v := nI 31) hx hb d_MO_scan_93 (by decide +kernel) ?_
          refine lv_icmp_ne (tgt := 102) hx hb d_MO_scan_95 (by decide) (fun c4 => ?_) (fun c4 => ?_)
          · have c4 := mt (nI_eq (by omega) (by omega)).mpr c4
            refine lv_aload_n hx hb d_MO_scan_102 rfl (lv_at hl 3 rfl) ?_
            refine va_get (D := D) (ci := 7) (v := .int (nI ln)) (C := R_MO) (T := T_MO) (N := 16) hx hb hts in_MO hown hK hP 0 rfl rfl 14 (by decide) (hts _ w_544) (fun _ h9 => h9) rfl d_MO_scan_103 ?_
            refine lv_iconst (v := nI 1) hx hb d_MO_scan_106 (by decide +kernel) ?_
            refine lv_iadd hx hb d_MO_scan_107 ?_
            refine ss_rt (y := nI (ln + 1)) (nI_add _ _) ?_
            refine va_put (D := D) (ci := 7) (v := .int (nI (ln + 1))) (ty := .int) (C := R_MO) (T := T_MO) (N := 16) hx hb hts in_MO t_MO o_MO n_MO hown hK hP hD hS 0 rfl rfl 14 (by decide) (hts _ w_544) (fun _ h9 => h9) rfl (by decide +kernel) rfl rfl (Nat.le_of_ble_eq_true rfl) d_MO_scan_108 (fun H locs hP hD hS => ?_)
            have hP : va_P D vwCl (mW q k (nI 0) wd se kd bn sh mb pr B R (dts (dtc B R ln 8 64) (d5f B R ln sx 8)) pt rd wt (ln + 1) (dln (dpx B R ln) ln 64 px)) H := hP
            have hD : va_D A (mW q k (nI 0) wd se kd bn sh mb pr B R (dts (dtc B R ln 8 64) (d5f B R ln sx 8)) pt rd wt (ln + 1) (dln (dpx B R ln) ln 64 px)) := hD
            refine lv_aload_n hx hb d_MO_scan_111 rfl (lv_at hl 3 rfl) ?_
            refine va_get (D := D) (ci := 7) (v := .int (nI (ln + 1))) (C := R_MO) (T := T_MO) (N := 16) hx hb hts in_MO hown hK hP 0 rfl rfl 14 (by decide) (hts _ w_544) (fun _ h9 => h9) rfl d_MO_scan_112 ?_
            refine lv_if_ne (tgt := 130) hx hb d_MO_scan_115 (by decide) (fun c5 => ?_) (fun c5 => ?_)
            · have c5 := mt (n_eq0 (by omega)).mpr c5
              refine lv_iload_n hx hb d_MO_scan_130 rfl (lv_at hl 0 rfl) ?_
              exact rw_reti hx hb hr hlocks d_MO_scan_131 hS () (rfl) (by rw [show (if ln = 31 then ss_so 128 (dts (dtc B R ln 8 64) (d5f B R ln sx 8)) else dts (dtc B R ln 8 64) (d5f B R ln sx 8)) = (dts (dtc B R ln 8 64) (d5f B R ln sx 8)) from by first | rw [if_pos (by omega)] | rw [if_neg (by omega)], show ((ln + 1) % 32) = (ln + 1) from by first | rfl | omega]; exact hP)
            · have c5 := (n_eq0 (by omega)).mp c5
              exfalso; omega
          · have c4 := (nI_eq (by omega) (by omega)).mp c4
            refine lv_iconst (v := nI 0) hx hb d_MO_scan_98 (by decide +kernel) ?_
            refine lv_goto (tgt := 108) hx hb d_MO_scan_99 (by decide) ?_
            refine va_put (D := D) (ci := 7) (v := .int (nI 0)) (ty := .int) (C := R_MO) (T := T_MO) (N := 16) hx hb hts in_MO t_MO o_MO n_MO hown hK hP hD hS 0 rfl rfl 14 (by decide) (hts _ w_544) (fun _ h9 => h9) rfl (by decide +kernel) rfl rfl (Nat.le_of_ble_eq_true rfl) d_MO_scan_108 (fun H locs hP hD hS => ?_)
            have hP : va_P D vwCl (mW q k (nI 0) wd se kd bn sh mb pr B R (dts (dtc B R ln 8 64) (d5f B R ln sx 8)) pt rd wt 0 (dln (dpx B R ln) ln 64 px)) H := hP
            have hD : va_D A (mW q k (nI 0) wd se kd bn sh mb pr B R (dts (dtc B R ln 8 64) (d5f B R ln sx 8)) pt rd wt 0 (dln (dpx B R ln) ln 64 px)) := hD
            refine lv_aload_n hx hb d_MO_scan_111 rfl (lv_at hl 3 rfl) ?_
            refine va_get (D := D) (ci := 7) (v := .int (nI 0)) (C := R_MO) (T := T_MO) (N := 16) hx hb hts in_MO hown hK hP 0 rfl rfl 14 (by decide) (hts _ w_544) (fun _ h9 => h9) rfl d_MO_scan_112 ?_
            refine lv_if_ne (tgt := 130) hx hb d_MO_scan_115 (by decide) (fun c6 => ?_) (fun c6 => ?_)
            · have c6 := mt (n_eq0 (by omega)).mpr c6
              exfalso; omega
            · have c6 := (n_eq0 (by omega)).mp c6
              refine lv_aload_n hx hb d_MO_scan_118 rfl (lv_at hl 3 rfl) ?_
              refine lv_aload_n hx hb d_MO_scan_119 rfl (lv_at hl 3 rfl) ?_
              refine va_get (D := D) (ci := 7) (v := .int (nI (dts (dtc B R ln 8 64) (d5f B R ln sx 8)))) (C := R_MO) (T := T_MO) (N := 16) hx hb hts in_MO hown hK hP 0 rfl rfl 10 (by decide) (hts _ w_540) (fun _ h9 => h9) rfl d_MO_scan_120 ?_
              refine lv_sipush (v := nI 128) hx hb d_MO_scan_123 (by decide +kernel) ?_
              refine lv_ior hx hb d_MO_scan_126 ?_
              refine ss_rt (y := nI (ss_so 128 (dts (dtc B R ln 8 64) (d5f B R ln sx 8)))) (ss_or128 _ (by omega)) ?_
              refine va_put (D := D) (ci := 7) (v := .int (nI (ss_so 128 (dts (dtc B R ln 8 64) (d5f B R ln sx 8))))) (ty := .int) (C := R_MO) (T := T_MO) (N := 16) hx hb hts in_MO t_MO o_MO n_MO hown hK hP hD hS 0 rfl rfl 10 (by decide) (hts _ w_540) (fun _ h9 => h9) rfl (by decide +kernel) rfl rfl (Nat.le_of_ble_eq_true rfl) d_MO_scan_127 (fun H locs hP hD hS => ?_)
              have hP : va_P D vwCl (mW q k (nI 0) wd se kd bn sh mb pr B R (ss_so 128 (dts (dtc B R ln 8 64) (d5f B R ln sx 8))) pt rd wt 0 (dln (dpx B R ln) ln 64 px)) H := hP
              have hD : va_D A (mW q k (nI 0) wd se kd bn sh mb pr B R (ss_so 128 (dts (dtc B R ln 8 64) (d5f B R ln sx 8))) pt rd wt 0 (dln (dpx B R ln) ln 64 px)) := hD
              refine lv_iload_n hx hb d_MO_scan_130 rfl (lv_at hl 0 rfl) ?_
              exact rw_reti hx hb hr hlocks d_MO_scan_131 hS () (rfl) (by rw [show (if ln = 31 then ss_so 128 (dts (dtc B R ln 8 64) (d5f B R ln sx 8)) else dts (dtc B R ln 8 64) (d5f B R ln sx 8)) = (ss_so 128 (dts (dtc B R ln 8 64) (d5f B R ln sx 8))) from by first | rw [if_pos (by omega)] | rw [if_neg (by omega)], show ((ln + 1) % 32) = 0 from by first | rfl | omega]; exact hP)
        · have c3 := mt (nI_leI (by omega) (by omega)).mpr c3
          exfalso; omega
      | succ j9 ih =>
        intro i h9 H locs hP hD hS ls hl
        have f5 := d5f_lt (B := B) (R := R) (L := ln) hsx 8 (by omega)
        have f6 := dts_lt (b := dtc B R ln 8 i) f5
        refine lv_iload_n hx hb d_MO_scan_34 rfl (lv_at hl 0 rfl) ?_
        refine lv_bipush (v := nI 64) hx hb d_MO_scan_35 (by decide +kernel) ?_
        refine lv_icmp_ge (tgt := 83) hx hb d_MO_scan_37 (by decide) (fun c7 => ?_) (fun c7 => ?_)
        · have c7 := (nI_leI (by omega) (by omega)).mp c7
          exfalso; omega
        · have c7 := mt (nI_leI (by omega) (by omega)).mpr c7
          refine lv_aload_n hx hb d_MO_scan_40 rfl (lv_at hl 3 rfl) ?_
          refine va_get (D := D) (ci := 7) (v := .ref (q 9)) (C := R_MO) (T := T_MO) (N := 16) hx hb hts in_MO hown hK hP 0 rfl rfl 15 (by decide) (hts _ w_545) (fun _ h9 => h9) rfl d_MO_scan_41 ?_
          refine lv_bipush (v := nI 64) hx hb d_MO_scan_44 (by decide +kernel) ?_
          refine lv_aload_n hx hb d_MO_scan_46 rfl (lv_at hl 3 rfl) ?_
          refine va_get (D := D) (ci := 7) (v := .int (nI ln)) (C := R_MO) (T := T_MO) (N := 16) hx hb hts in_MO hown hK hP 0 rfl rfl 14 (by decide) (hts _ w_544) (fun _ h9 => h9) rfl d_MO_scan_47 ?_
          refine lv_imul hx hb d_MO_scan_50 ?_
          refine ss_rt (y := nI (64 * ln)) (pk_mul _ _) ?_
          refine lv_iload_n hx hb d_MO_scan_51 rfl (lv_at hl 0 rfl) ?_
          refine lv_iadd hx hb d_MO_scan_52 ?_
          refine ss_rt (y := nI (64 * ln + i)) (nI_add _ _) ?_
          refine lv_iload_n hx hb d_MO_scan_53 rfl (lv_at hl 2 rfl) ?_
          refine lv_if_eq (tgt := 66) hx hb d_MO_scan_54 (by decide) (fun c8 => ?_) (fun c8 => ?_)
          · have c8 := (bI_0).mp c8
            exfalso; omega
          · have c8 := mt (bI_0).mpr c8
            have c8 := Classical.not_not.mp c8
            refine lv_aload_n hx hb d_MO_scan_57 rfl (lv_at hl 3 rfl) ?_
            refine lv_iload_n hx hb d_MO_scan_58 rfl (lv_at hl 0 rfl) ?_
            refine lv_iload_n hx hb d_MO_scan_59 rfl (lv_at hl 1 rfl) ?_
            refine kw_iV (As := [.int (nI i), .int (nI (dmo B R))]) (rest := [.int (nI (64 * ln + i)), .ref (q 9)]) ⟨hx, hb, hml, hown, hts⟩ (c_MO_color l D k q (nI 0) wd se kd bn sh mb pr B R (dts (dtc B R ln 8 i) (d5f B R ln sx 8)) pt rd wt ln (dln (dpx B R ln) ln i px) hB hR (by omega) (by omega) i (by omega)) (cwV 2 hts (gV w_681 w_683 w_p27 w_5 w_684) rfl rfl rfl (by decide +kernel) ⟨Nat.le_of_ble_eq_true rfl, Nat.le_of_ble_eq_true rfl⟩) hK hP hD hS hA (va_recv hK hP (ci := 7) (q0 := 0) rfl rfl) rfl hl.1 rfl (Nat.le_of_ble_eq_true rfl) d_MO_scan_60 ⟨Nat.zero_le _, Nat.zero_le _⟩ (fun _ _ H locs h9 hP _ hS => ?_)
            subst h9
            have hD : va_D A (mW q k (nI 0) wd se kd bn sh mb pr B R (dts (decide (1 < dht B R ln i 8)) (dts (dtc B R ln 8 i) (d5f B R ln sx 8))) pt rd wt ln (dln (dpx B R ln) ln i px)) := rw_same hD rfl
            have hP : va_P D vwCl (mW q k (nI 0) wd se kd bn sh mb pr B R (dts (decide (1 < dht B R ln i 8)) (dts (dtc B R ln 8 i) (d5f B R ln sx 8))) pt rd wt ln (dln (dpx B R ln) ln i px)) H := hP
            refine lv_goto (tgt := 76) hx hb d_MO_scan_63 (by decide) ?_
            refine va_iast hx hb hK hP hD hS 9 0 rfl rfl (vp_in_nI (by omega) (by omega)) d_MO_scan_76 (fun H locs hP hD hS => ?_)
            rw [ss_upI (dln (dpx B R ln) ln i px) (k := (64 * ln + i)) (v := (dpx B R ln i)) (by omega)] at hP hD
            have hP : va_P D vwCl (mW q k (nI 0) wd se kd bn sh mb pr B R (dts (decide (1 < dht B R ln i 8)) (dts (dtc B R ln 8 i) (d5f B R ln sx 8))) pt rd wt ln (ss_up (dln (dpx B R ln) ln i px) (64 * ln + i) (dpx B R ln i))) H := hP
            have hD : va_D A (mW q k (nI 0) wd se kd bn sh mb pr B R (dts (decide (1 < dht B R ln i 8)) (dts (dtc B R ln 8 i) (d5f B R ln sx 8))) pt rd wt ln (ss_up (dln (dpx B R ln) ln i px) (64 * ln + i) (dpx B R ln i))) := hD
            refine lv_iinc (v := nI (i + 1)) (lv' := [(3, .int (nI (i + 1))), (2, .int (nI (dmo B R))), (1, .int (bI (R 1 / 2 ^ 6 % 2 = 1))), (0, .ref (q 0))]) hx hb d_MO_scan_77 hl (k := 0) rfl (nI_1 _) (by decide) rfl (fun ls hl => ?_)
            refine lv_goto (tgt := 34) hx hb d_MO_scan_80 (by decide) ?_
            rw [dts_s f5, dln_s] at hP hD
            exact ih (i + 1) (by omega) _ _ hP hD hS ls (lv_sub hl [0, 1, 2, 3] rfl)
    rw [← dln_0 (dpx B R ln) ln px] at hP hD
    rw [← dts_0 (B := B) (R := R) (L := ln) (st := d5f B R ln sx 8)] at hP hD
    exact loop (64 - 0) 0 (by omega) _ _ hP hD hS ls (lv_sub hl [0, 1, 2, 3] rfl)
set_option maxHeartbeats 4000000 in
set_option maxRecDepth 100000 in
theorem c_MO_scan_off (l : Launch) (D : va_G) (k : Nat → ClassId) (q : Nat → Nat) (cd : Int32) (wd : Nat → Nat) (se : Nat → Nat) (kd : Nat → Nat) (bn : Nat → Int32) (sh : Nat → Nat) (mb : Nat → Nat) (pr : Nat) (B : Nat → Nat) (R : Nat → Nat) (sx : Nat) (pt : Nat) (rd : Nat) (wt : Int32) (ln : Nat) (px : Nat → Nat) (hB : ∀ j, B j < 256) (hR : ∀ j, R j < 256) (hsx : sx < 256) (hln : ln < 32) (hon : ¬ R 1 / 2 ^ 6 % 2 = 1) : rw_i l y_MO_scan b_MO_scan 4 (some .int) { frames := 5, cells := 0, slots := 0, locals := 117 } D (kT k) (mW q k cd wd se kd bn sh mb pr B R sx pt rd wt ln px) [.ref (q 0)] (fun (r : Int32) (_ : Unit) => r = nI ln) (fun (_ : Unit) => (mW q k (nI 0) wd se kd bn sh mb pr B R (if ln = 31 then ss_so 128 (sx) else sx) pt rd wt ((ln + 1) % 32) (dln (fun _ => R 7 % 16) ln 64 px))) := by
  refine rw_headi (by decide) (Nat.le_of_ble_eq_true rfl) ?_
  intro p e s m below meth c ls A hx hb hr hlocks hml hown hts hK hA hP hD hS hl
  have hown : s.vm.findClass "SlotScreenModel" = some m.cls := hown
  have hl : lv_has ls 4 [(0, .ref (q 0))] := hl
  have z1 := dmo_le B R
  refine lv_aload_n hx hb d_MO_scan_0 rfl (lv_at hl 0 rfl) ?_
  refine lv_iconst (v := nI 0) hx hb d_MO_scan_1 (by decide +kernel) ?_
  refine va_put (D := D) (ci := 7) (v := .int (nI 0)) (ty := .int) (C := R_MO) (T := T_MO) (N := 16) hx hb hts in_MO t_MO o_MO n_MO hown hK hP hD hS 0 rfl rfl 0 (by decide) (hts _ w_530) (fun _ h9 => h9) rfl (by decide +kernel) rfl rfl (Nat.le_of_ble_eq_true rfl) d_MO_scan_2 (fun H locs hP hD hS => ?_)
  have hP : va_P D vwCl (mW q k (nI 0) wd se kd bn sh mb pr B R sx pt rd wt ln px) H := hP
  have hD : va_D A (mW q k (nI 0) wd se kd bn sh mb pr B R sx pt rd wt ln px) := hD
  refine lv_aload_n hx hb d_MO_scan_5 rfl (lv_at hl 0 rfl) ?_
  refine lv_aload_n hx hb d_MO_scan_6 rfl (lv_at hl 0 rfl) ?_
  refine va_get (D := D) (ci := 7) (v := .ref (q 8)) (C := R_MO) (T := T_MO) (N := 16) hx hb hts in_MO hown hK hP 0 rfl rfl 9 (by decide) (hts _ w_539) (fun _ h9 => h9) rfl d_MO_scan_7 ?_
  refine lv_iconst (v := nI 1) hx hb d_MO_scan_10 (by decide +kernel) ?_
  refine va_iald hx hb hK hP 8 0 rfl rfl (vp_in_nI (by omega) (by omega)) d_MO_scan_11 ?_
  refine ss_rt (y := nI (R 1)) (congrArg (fun z => nI (R z)) (nI_clamp (by omega))) ?_
  have g1 := hR 1
  refine lv_bipush (v := nI 6) hx hb d_MO_scan_12 (by decide +kernel) ?_
  refine kr_iV (As := [.int (nI (R 1)), .int (nI 6)]) (rest := []) ⟨hx, hb, hml, hown, hts⟩ (c_MO_bit l D k q (nI 0) wd se kd bn sh mb pr B R sx pt rd wt ln px (R 1) 6 (by omega) (by omega)) (cwV 2 hts (gV w_653 w_655 w_p20 w_5 w_656) rfl rfl rfl (by decide +kernel) ⟨Nat.le_of_ble_eq_true rfl, Nat.le_of_ble_eq_true rfl⟩) hK hP (va_recv hK hP (ci := 7) (q0 := 0) rfl rfl) rfl hl.1 rfl (Nat.le_of_ble_eq_true rfl) d_MO_scan_14 ⟨Nat.zero_le _, Nat.zero_le _⟩ ?_
  refine lv_istore_n (lv' := [(1, .int (bI ((R 1) / 2 ^ 6 % 2 = 1))), (0, .ref (q 0))]) hx hb d_MO_scan_17 rfl hl (by decide) rfl (fun ls hl => ?_)
  refine lv_aload_n hx hb d_MO_scan_18 rfl (lv_at hl 1 rfl) ?_
  refine kr_iV (As := []) (rest := []) ⟨hx, hb, hml, hown, hts⟩ (c_MO_there l D k q (nI 0) wd se kd bn sh mb pr B R sx pt rd wt ln px hB hR) (cwV 0 hts (gV w_657 w_659 w_p21 w_5 w_660) rfl rfl rfl (by decide +kernel) ⟨Nat.le_of_ble_eq_true rfl, Nat.le_of_ble_eq_true rfl⟩) hK hP (va_recv hK hP (ci := 7) (q0 := 0) rfl rfl) rfl hl.1 rfl (Nat.le_of_ble_eq_true rfl) d_MO_scan_19 ⟨Nat.zero_le _, Nat.zero_le _⟩ ?_
  refine lv_istore_n (lv' := [(2, .int (nI (dmo B R))), (1, .int (bI ((R 1) / 2 ^ 6 % 2 = 1))), (0, .ref (q 0))]) hx hb d_MO_scan_22 rfl hl (by decide) rfl (fun ls hl => ?_)
  refine lv_iload_n hx hb d_MO_scan_23 rfl (lv_at hl 1 rfl) ?_
  refine lv_if_eq (tgt := 32) hx hb d_MO_scan_24 (by decide) (fun c2 => ?_) (fun c2 => ?_)
  · have c2 := (bI_0).mp c2
    refine lv_iconst (v := nI 0) hx hb d_MO_scan_32 (by decide +kernel) ?_
    refine lv_istore_n (lv' := [(3, .int (nI 0)), (2, .int (nI (dmo B R))), (1, .int (bI ((R 1) / 2 ^ 6 % 2 = 1))), (0, .ref (q 0))]) hx hb d_MO_scan_33 rfl hl (by decide) rfl (fun ls hl => ?_)
    have loop : ∀ (j9 i : Nat), i + j9 = 64 → ∀ (H : Heap) (locs : List Loc), va_P D vwCl (mW q k (nI 0) wd se kd bn sh mb pr B R sx pt rd wt ln (dln (fun _ => R 7 % 16) ln i px)) H → va_D A (mW q k (nI 0) wd se kd bn sh mb pr B R sx pt rd wt ln (dln (fun _ => R 7 % 16) ln i px)) → va_S A s.heap H locs → ∀ (ls : Array Slot), lv_has ls 4 [(3, .int (nI i)), (2, .int (nI (dmo B R))), (1, .int (bI (R 1 / 2 ^ 6 % 2 = 1))), (0, .ref (q 0))] → W p l e (headSpec (wsG y_MO_scan b_MO_scan 4 (some .int)) { frames := 5, cells := 0, slots := 0, locals := 117 }).room s m ([.ref (q 0)] : List Value).toArray below meth c H locs 0 0 (MQ below (rw_Qi D (fun (r : Int32) (_ : Unit) => r = nI ln) (fun (_ : Unit) => (mW q k (nI 0) wd se kd bn sh mb pr B R (if ln = 31 then ss_so 128 (sx) else sx) pt rd wt ((ln + 1) % 32) (dln (fun _ => R 7 % 16) ln 64 px))) A) ([.ref (q 0)] : List Value).toArray s 0 0 A) (F0 m 34 ls []) := by
      intro j9
      induction j9 with
      | zero =>
        intro i h9 H locs hP hD hS ls hl
        obtain rfl : i = 64 := by omega
        refine lv_iload_n hx hb d_MO_scan_34 rfl (lv_at hl 0 rfl) ?_
        refine lv_bipush (v := nI 64) hx hb d_MO_scan_35 (by decide +kernel) ?_
        refine lv_icmp_ge (tgt := 83) hx hb d_MO_scan_37 (by decide) (fun c3 => ?_) (fun c3 => ?_)
        · have c3 := (nI_leI (by omega) (by omega)).mp c3
          refine lv_aload_n hx hb d_MO_scan_83 rfl (lv_at hl 3 rfl) ?_
          refine va_get (D := D) (ci := 7) (v := .int (nI ln)) (C := R_MO) (T := T_MO) (N := 16) hx hb hts in_MO hown hK hP 0 rfl rfl 14 (by decide) (hts _ w_544) (fun _ h9 => h9) rfl d_MO_scan_84 ?_
          refine lv_istore_n (lv' := [(3, .int (nI ln)), (2, .int (nI (dmo B R))), (1, .int (bI (R 1 / 2 ^ 6 % 2 = 1))), (0, .ref (q 0))]) hx hb d_MO_scan_87 rfl hl (by decide) rfl (fun ls hl => ?_)
          refine lv_aload_n hx hb d_MO_scan_88 rfl (lv_at hl 3 rfl) ?_
          refine lv_aload_n hx hb d_MO_scan_89 rfl (lv_at hl 3 rfl) ?_
          refine va_get (D := D) (ci := 7) (v := .int (nI ln)) (C := R_MO) (T := T_MO) (N := 16) hx hb hts in_MO hown hK hP 0 rfl rfl 14 (by decide) (hts _ w_544) (fun _ h9 => h9) rfl d_MO_scan_90 ?_
          refine lv_bipush (v := nI 31) hx hb d_MO_scan_93 (by decide +kernel) ?_
          refine lv_icmp_ne (tgt := 102) hx hb d_MO_scan_95 (by decide) (fun c4 => ?_) (fun c4 => ?_)
          · have c4 := mt (nI_eq (by omega) (by omega)).mpr c4
            refine lv_aload_n hx hb d_MO_scan_102 rfl (lv_at hl 3 rfl) ?_
            refine va_get (D := D) (ci := 7) (v := .int (nI ln)) (C := R_MO) (T := T_MO) (N := 16) hx hb hts in_MO hown hK hP 0 rfl rfl 14 (by decide) (hts _ w_544) (fun _ h9 => h9) rfl d_MO_scan_103 ?_
            refine lv_iconst (v := nI 1) hx hb d_MO_scan_106 (by decide +kernel) ?_
            refine lv_iadd hx hb d_MO_scan_107 ?_
            refine ss_rt (y := nI (ln + 1)) (nI_add _ _) ?_
            refine va_put (D := D) (ci := 7) (v := .int (nI (ln + 1))) (ty := .int) (C := R_MO) (T := T_MO) (N := 16) hx hb hts in_MO t_MO o_MO n_MO hown hK hP hD hS 0 rfl rfl 14 (by decide) (hts _ w_544) (fun _ h9 => h9) rfl (by decide +kernel) rfl rfl (Nat.le_of_ble_eq_true rfl) d_MO_scan_108 (fun H locs hP hD hS => ?_)
            have hP : va_P D vwCl (mW q k (nI 0) wd se kd bn sh mb pr B R sx pt rd wt (ln + 1) (dln (fun _ => R 7 % 16) ln 64 px)) H := hP
            have hD : va_D A (mW q k (nI 0) wd se kd bn sh mb pr B R sx pt rd wt (ln + 1) (dln (fun _ => R 7 % 16) ln 64 px)) := hD
            refine lv_aload_n hx hb d_MO_scan_111 rfl (lv_at hl 3 rfl) ?_
            refine va_get (D := D) (ci := 7) (v := .int (nI (ln + 1))) (C := R_MO) (T := T_MO) (N := 16) hx hb hts in_MO hown hK hP 0 rfl rfl 14 (by decide) (hts _ w_544) (fun _ h9 => h9) rfl d_MO_scan_112 ?_
            refine lv_if_ne (tgt := 130) hx hb d_MO_scan_115 (by decide) (fun c5 => ?_) (fun c5 => ?_)
            · have c5 := mt (n_eq0 (by omega)).mpr c5
              refine lv_iload_n hx hb d_MO_scan_130 rfl (lv_at hl 0 rfl) ?_
              exact rw_reti hx hb hr hlocks d_MO_scan_131 hS () (rfl) (by rw [show (if ln = 31 then ss_so 128 (sx) else sx) = sx from by first | rw [if_pos (by omega)] | rw [if_neg (by omega)], show ((ln + 1) % 32) = (ln + 1) from by first | rfl | omega]; exact hP)
            · have c5 := (n_eq0 (by omega)).mp c5
              exfalso; omega
          · have c4 := (nI_eq (by omega) (by omega)).mp c4
            refine lv_iconst (v := nI 0) hx hb d_MO_scan_98 (by decide +kernel) ?_
            refine lv_goto (tgt := 108) hx hb d_MO_scan_99 (by decide) ?_
            refine va_put (D := D) (ci := 7) (v := .int (nI 0)) (ty := .int) (C := R_MO) (T := T_MO) (N := 16) hx hb hts in_MO t_MO o_MO n_MO hown hK hP hD hS 0 rfl rfl 14 (by decide) (hts _ w_544) (fun _ h9 => h9) rfl (by decide +kernel) rfl rfl (Nat.le_of_ble_eq_true rfl) d_MO_scan_108 (fun H locs hP hD hS => ?_)
            have hP : va_P D vwCl (mW q k (nI 0) wd se kd bn sh mb pr B R sx pt rd wt 0 (dln (fun _ => R 7 % 16) ln 64 px)) H := hP
            have hD : va_D A (mW q k (nI 0) wd se kd bn sh mb pr B R sx pt rd wt 0 (dln (fun _ => R 7 % 16) ln 64 px)) := hD
            refine lv_aload_n hx hb d_MO_scan_111 rfl (lv_at hl 3 rfl) ?_
            refine va_get (D := D) (ci := 7) (v := .int (nI 0)) (C := R_MO) (T := T_MO) (N := 16) hx hb hts in_MO hown hK hP 0 rfl rfl 14 (by decide) (hts _ w_544) (fun _ h9 => h9) rfl d_MO_scan_112 ?_
            refine lv_if_ne (tgt := 130) hx hb d_MO_scan_115 (by decide) (fun c6 => ?_) (fun c6 => ?_)
            · have c6 := mt (n_eq0 (by omega)).mpr c6
              exfalso; omega
            · have c6 := (n_eq0 (by omega)).mp c6
              refine lv_aload_n hx hb d_MO_scan_118 rfl (lv_at hl 3 rfl) ?_
              refine lv_aload_n hx hb d_MO_scan_119 rfl (lv_at hl 3 rfl) ?_
              refine va_get (D := D) (ci := 7) (v := .int (nI sx)) (C := R_MO) (T := T_MO) (N := 16) hx hb hts in_MO hown hK hP 0 rfl rfl 10 (by decide) (hts _ w_540) (fun _ h9 => h9) rfl d_MO_scan_120 ?_
              refine lv_sipush (v := nI 128) hx hb d_MO_scan_123 (by decide +kernel) ?_
              refine lv_ior hx hb d_MO_scan_126 ?_
              refine ss_rt (y := nI (ss_so 128 (sx))) (ss_or128 _ (by omega)) ?_
              refine va_put (D := D) (ci := 7) (v := .int (nI (ss_so 128 (sx)))) (ty := .int) (C := R_MO) (T := T_MO) (N := 16) hx hb hts in_MO t_MO o_MO n_MO hown hK hP hD hS 0 rfl rfl 10 (by decide) (hts _ w_540) (fun _ h9 => h9) rfl (by decide +kernel) rfl rfl (Nat.le_of_ble_eq_true rfl) d_MO_scan_127 (fun H locs hP hD hS => ?_)
              have hP : va_P D vwCl (mW q k (nI 0) wd se kd bn sh mb pr B R (ss_so 128 (sx)) pt rd wt 0 (dln (fun _ => R 7 % 16) ln 64 px)) H := hP
              have hD : va_D A (mW q k (nI 0) wd se kd bn sh mb pr B R (ss_so 128 (sx)) pt rd wt 0 (dln (fun _ => R 7 % 16) ln 64 px)) := hD
              refine lv_iload_n hx hb d_MO_scan_130 rfl (lv_at hl 0 rfl) ?_
              exact rw_reti hx hb hr hlocks d_MO_scan_131 hS () (rfl) (by rw [show (if ln = 31 then ss_so 128 (sx) else sx) = (ss_so 128 (sx)) from by first | rw [if_pos (by omega)] | rw [if_neg (by omega)], show ((ln + 1) % 32) = 0 from by first | rfl | omega]; exact hP)
        · have c3 := mt (nI_leI (by omega) (by omega)).mpr c3
          exfalso; omega
      | succ j9 ih =>
        intro i h9 H locs hP hD hS ls hl
        refine lv_iload_n hx hb d_MO_scan_34 rfl (lv_at hl 0 rfl) ?_
        refine lv_bipush (v := nI 64) hx hb d_MO_scan_35 (by decide +kernel) ?_
        refine lv_icmp_ge (tgt := 83) hx hb d_MO_scan_37 (by decide) (fun c7 => ?_) (fun c7 => ?_)
        · have c7 := (nI_leI (by omega) (by omega)).mp c7
          exfalso; omega
        · have c7 := mt (nI_leI (by omega) (by omega)).mpr c7
          refine lv_aload_n hx hb d_MO_scan_40 rfl (lv_at hl 3 rfl) ?_
          refine va_get (D := D) (ci := 7) (v := .ref (q 9)) (C := R_MO) (T := T_MO) (N := 16) hx hb hts in_MO hown hK hP 0 rfl rfl 15 (by decide) (hts _ w_545) (fun _ h9 => h9) rfl d_MO_scan_41 ?_
          refine lv_bipush (v := nI 64) hx hb d_MO_scan_44 (by decide +kernel) ?_
          refine lv_aload_n hx hb d_MO_scan_46 rfl (lv_at hl 3 rfl) ?_
          refine va_get (D := D) (ci := 7) (v := .int (nI ln)) (C := R_MO) (T := T_MO) (N := 16) hx hb hts in_MO hown hK hP 0 rfl rfl 14 (by decide) (hts _ w_544) (fun _ h9 => h9) rfl d_MO_scan_47 ?_
          refine lv_imul hx hb d_MO_scan_50 ?_
          refine ss_rt (y := nI (64 * ln)) (pk_mul _ _) ?_
          refine lv_iload_n hx hb d_MO_scan_51 rfl (lv_at hl 0 rfl) ?_
          refine lv_iadd hx hb d_MO_scan_52 ?_
          refine ss_rt (y := nI (64 * ln + i)) (nI_add _ _) ?_
          refine lv_iload_n hx hb d_MO_scan_53 rfl (lv_at hl 2 rfl) ?_
          refine lv_if_eq (tgt := 66) hx hb d_MO_scan_54 (by decide) (fun c8 => ?_) (fun c8 => ?_)
          · have c8 := (bI_0).mp c8
            refine lv_aload_n hx hb d_MO_scan_66 rfl (lv_at hl 3 rfl) ?_
            refine va_get (D := D) (ci := 7) (v := .ref (q 8)) (C := R_MO) (T := T_MO) (N := 16) hx hb hts in_MO hown hK hP 0 rfl rfl 9 (by decide) (hts _ w_539) (fun _ h9 => h9) rfl d_MO_scan_67 ?_
            refine lv_bipush (v := nI 7) hx hb d_MO_scan_70 (by decide +kernel) ?_
            refine va_iald hx hb hK hP 8 0 rfl rfl (vp_in_nI (by omega) (by omega)) d_MO_scan_72 ?_
            refine ss_rt (y := nI (R 7)) (congrArg (fun z => nI (R z)) (nI_clamp (by omega))) ?_
            have g9 := hR 7
            refine lv_bipush (v := nI 16) hx hb d_MO_scan_73 (by decide +kernel) ?_
            refine lv_irem hx hb d_MO_scan_75 (by first | decide +kernel | exact nI_ne0 (by omega) (by omega)) ?_
            refine ss_rt (y := nI ((R 7) % 16)) (pk_rem (by omega) (by omega) (by omega)) ?_
            refine va_iast hx hb hK hP hD hS 9 0 rfl rfl (vp_in_nI (by omega) (by omega)) d_MO_scan_76 (fun H locs hP hD hS => ?_)
            rw [ss_upI (dln (fun _ => R 7 % 16) ln i px) (k := (64 * ln + i)) (v := ((R 7) % 16)) (by omega)] at hP hD
            have hP : va_P D vwCl (mW q k (nI 0) wd se kd bn sh mb pr B R sx pt rd wt ln (ss_up (dln (fun _ => R 7 % 16) ln i px) (64 * ln + i) ((R 7) % 16))) H := hP
            have hD : va_D A (mW q k (nI 0) wd se kd bn sh mb pr B R sx pt rd wt ln (ss_up (dln (fun _ => R 7 % 16) ln i px) (64 * ln + i) ((R 7) % 16))) := hD
            refine lv_iinc (v := nI (i + 1)) (lv' := [(3, .int (nI (i + 1))), (2, .int (nI (dmo B R))), (1, .int (bI (R 1 / 2 ^ 6 % 2 = 1))), (0, .ref (q 0))]) hx hb d_MO_scan_77 hl (k := 0) rfl (nI_1 _) (by decide) rfl (fun ls hl => ?_)
            refine lv_goto (tgt := 34) hx hb d_MO_scan_80 (by decide) ?_
            rw [show ss_up (dln (fun _ => R 7 % 16) ln i px) (64 * ln + i) (R 7 % 16) = dln (fun _ => R 7 % 16) ln (i + 1) px from dln_s (fun _ => R 7 % 16) ln i px] at hP hD
            exact ih (i + 1) (by omega) _ _ hP hD hS ls (lv_sub hl [0, 1, 2, 3] rfl)
          · have c8 := mt (bI_0).mpr c8
            have c8 := Classical.not_not.mp c8
            exfalso; omega
    rw [← dln_0 (fun _ => R 7 % 16) ln px] at hP hD
    exact loop (64 - 0) 0 (by omega) _ _ hP hD hS ls (lv_sub hl [0, 1, 2, 3] rfl)
  · have c2 := mt (bI_0).mpr c2
    have c2 := Classical.not_not.mp c2
    exfalso; omega
