set_option maxHeartbeats 4000000 in
set_option maxRecDepth 100000 in
theorem c_MO_burnb (l : Launch) (D : va_G) (k : Nat → ClassId) (q : Nat → Nat) (cd : Int32) (wd : Nat → Nat) (se : Nat → Nat) (kd : Nat → Nat) (bn : Nat → Int32) (sh : Nat → Nat) (mb : Nat → Nat) (pr : Nat) (B : Nat → Nat) (R : Nat → Nat) (sx : Nat) (pt : Nat) (rd : Nat) (wt : Int32) (ln : Nat) (px : Nat → Nat) (x y z v : Int32) (hx9 : ¬ (0 ≤ x.toInt ∧ x.toInt ≤ 3 ∧ 0 ≤ y.toInt ∧ y.toInt ≤ 3 ∧ 0 ≤ v.toInt ∧ v.toInt ≤ 255)) : rw_i l y_MO_burn b_MO_burn 7 (some .boolean) { frames := 1, cells := 0, slots := 0, locals := 22 } D (kT k) (mW q k cd wd se kd bn sh mb pr B R sx pt rd wt ln px) [.ref (q 0), .int x, .int y, .int z, .int v] (fun (r : Int32) (_ : Unit) => r = nI 0) (fun (_ : Unit) => (mW q k (nI 0) wd se kd bn sh mb pr B R sx pt rd wt ln px)) := by
  refine rw_headi (by decide) (Nat.le_of_ble_eq_true rfl) ?_
  intro p e s m below meth c ls A hx hb hr hlocks hml hown hts hK hA hP hD hS hl
  have hown : s.vm.findClass "SlotScreenModel" = some m.cls := hown
  have hl : lv_has ls 7 [(0, .ref (q 0)), (1, .int x), (2, .int y), (3, .int z), (4, .int v)] := hl
  refine lv_aload_n hx hb d_MO_burn_0 rfl (lv_at hl 0 rfl) ?_
  refine lv_iconst (v := nI 0) hx hb d_MO_burn_1 (by decide +kernel) ?_
  refine va_put (D := D) (ci := 7) (v := .int (nI 0)) (ty := .int) (C := R_MO) (T := T_MO) (N := 16) hx hb hts in_MO t_MO o_MO n_MO hown hK hP hD hS 0 rfl rfl 0 (by decide) (hts _ w_530) (fun _ h9 => h9) rfl (by decide +kernel) rfl rfl (Nat.le_of_ble_eq_true rfl) d_MO_burn_2 (fun H locs hP hD hS => ?_)
  have hP : va_P D vwCl (mW q k (nI 0) wd se kd bn sh mb pr B R sx pt rd wt ln px) _ := hP
  have hD : va_D A (mW q k (nI 0) wd se kd bn sh mb pr B R sx pt rd wt ln px) := hD
  refine lv_iload_n hx hb d_MO_burn_5 rfl (lv_at hl 1 rfl) ?_
  refine lv_iconst (v := nI 0) hx hb d_MO_burn_6 (by decide +kernel) ?_
  refine lv_iconst (v := nI 3) hx hb d_MO_burn_7 (by decide +kernel) ?_
  refine kr_iS (As := [.int x, .int (nI 0), .int (nI 3)]) (rest := []) ⟨hx, hb, hml, hown, hts⟩ (c_MO_withinZ l D k x 0 3 (by omega) (by omega)) (va_cwS 3 hts (gS w_587 w_588 w_5 w_589) rfl rfl rfl (by decide +kernel) ⟨Nat.le_of_ble_eq_true rfl, Nat.le_of_ble_eq_true rfl⟩) hK va_nil rfl hl.1 rfl (Nat.le_of_ble_eq_true rfl) d_MO_burn_8 ⟨Nat.zero_le _, Nat.zero_le _⟩ ?_
  refine lv_if_eq (tgt := 35) hx hb d_MO_burn_11 (by decide) (fun c1 => ?_) (fun c1 => ?_)
  · have c1 := (bI_0).mp c1
    refine lv_iconst (v := nI 0) hx hb d_MO_burn_35 (by decide +kernel) ?_
    exact rw_retz hx hb hr hlocks d_MO_burn_36 (by decide +kernel) hS () (rfl) hP
  · have c1 := mt (bI_0).mpr c1
    have c1 := Classical.not_not.mp c1
    refine lv_iload_n hx hb d_MO_burn_14 rfl (lv_at hl 2 rfl) ?_
    refine lv_iconst (v := nI 0) hx hb d_MO_burn_15 (by decide +kernel) ?_
    refine lv_iconst (v := nI 3) hx hb d_MO_burn_16 (by decide +kernel) ?_
    refine kr_iS (As := [.int y, .int (nI 0), .int (nI 3)]) (rest := []) ⟨hx, hb, hml, hown, hts⟩ (c_MO_withinZ l D k y 0 3 (by omega) (by omega)) (va_cwS 3 hts (gS w_587 w_588 w_5 w_589) rfl rfl rfl (by decide +kernel) ⟨Nat.le_of_ble_eq_true rfl, Nat.le_of_ble_eq_true rfl⟩) hK va_nil rfl hl.1 rfl (Nat.le_of_ble_eq_true rfl) d_MO_burn_17 ⟨Nat.zero_le _, Nat.zero_le _⟩ ?_
    refine lv_if_eq (tgt := 35) hx hb d_MO_burn_20 (by decide) (fun c2 => ?_) (fun c2 => ?_)
    · have c2 := (bI_0).mp c2
      refine lv_iconst (v := nI 0) hx hb d_MO_burn_35 (by decide +kernel) ?_
      exact rw_retz hx hb hr hlocks d_MO_burn_36 (by decide +kernel) hS () (rfl) hP
    · have c2 := mt (bI_0).mpr c2
      have c2 := Classical.not_not.mp c2
      refine lv_iload hx hb d_MO_burn_23 (lv_at hl 4 rfl) ?_
      refine lv_iconst (v := nI 0) hx hb d_MO_burn_25 (by decide +kernel) ?_
      refine lv_sipush (v := nI 255) hx hb d_MO_burn_26 (by decide +kernel) ?_
      refine kr_iS (As := [.int v, .int (nI 0), .int (nI 255)]) (rest := []) ⟨hx, hb, hml, hown, hts⟩ (c_MO_withinZ l D k v 0 255 (by omega) (by omega)) (va_cwS 3 hts (gS w_587 w_588 w_5 w_589) rfl rfl rfl (by decide +kernel) ⟨Nat.le_of_ble_eq_true rfl, Nat.le_of_ble_eq_true rfl⟩) hK va_nil rfl hl.1 rfl (Nat.le_of_ble_eq_true rfl) d_MO_burn_29 ⟨Nat.zero_le _, Nat.zero_le _⟩ ?_
      refine lv_if_ne (tgt := 37) hx hb d_MO_burn_32 (by decide) (fun c3 => ?_) (fun c3 => ?_)
      · have c3 := mt (bI_0).mpr c3
        have c3 := Classical.not_not.mp c3
        exfalso; omega
      · have c3 := (bI_0).mp c3
        refine lv_iconst (v := nI 0) hx hb d_MO_burn_35 (by decide +kernel) ?_
        exact rw_retz hx hb hr hlocks d_MO_burn_36 (by decide +kernel) hS () (rfl) hP
set_option maxHeartbeats 4000000 in
set_option maxRecDepth 100000 in
theorem c_MO_burn2 (l : Launch) (D : va_G) (k : Nat → ClassId) (q : Nat → Nat) (cd : Int32) (wd : Nat → Nat) (se : Nat → Nat) (kd : Nat → Nat) (bn : Nat → Int32) (sh : Nat → Nat) (mb : Nat → Nat) (pr : Nat) (B : Nat → Nat) (R : Nat → Nat) (sx : Nat) (pt : Nat) (rd : Nat) (wt : Int32) (ln : Nat) (px : Nat → Nat) (hkd : ∀ j, kd j < 5) (hmb : ∀ j, mb j < 256) (s9 p9 v : Nat) (hs9 : s9 < 4) (hp9 : p9 < 4) (hv : v < 256) (hk : kd (4 * s9 + p9) = 2) (x : Nat) (hx9 : x < 256) : rw_i l y_MO_burn b_MO_burn 7 (some .boolean) { frames := 1, cells := 0, slots := 0, locals := 22 } D (kT k) (mW q k cd wd se kd bn sh mb pr B R sx pt rd wt ln px) [.ref (q 0), .int (nI s9), .int (nI p9), .int (nI x), .int (nI v)] (fun (r : Int32) (_ : Unit) => r = nI 1) (fun (_ : Unit) => (mW q k (nI 0) wd se kd bn sh (ss_up mb (256 * (4 * s9 + p9) + x) v) pr B R sx pt rd wt ln px)) := by
  refine rw_headi (by decide) (Nat.le_of_ble_eq_true rfl) ?_
  intro p e s m below meth c ls A hx hb hr hlocks hml hown hts hK hA hP hD hS hl
  have hown : s.vm.findClass "SlotScreenModel" = some m.cls := hown
  have hl : lv_has ls 7 [(0, .ref (q 0)), (1, .int (nI s9)), (2, .int (nI p9)), (3, .int (nI x)), (4, .int (nI v))] := hl
  refine lv_aload_n hx hb d_MO_burn_0 rfl (lv_at hl 0 rfl) ?_
  refine lv_iconst (v := nI 0) hx hb d_MO_burn_1 (by decide +kernel) ?_
  refine va_put (D := D) (ci := 7) (v := .int (nI 0)) (ty := .int) (C := R_MO) (T := T_MO) (N := 16) hx hb hts in_MO t_MO o_MO n_MO hown hK hP hD hS 0 rfl rfl 0 (by decide) (hts _ w_530) (fun _ h9 => h9) rfl (by decide +kernel) rfl rfl (Nat.le_of_ble_eq_true rfl) d_MO_burn_2 (fun H locs hP hD hS => ?_)
  have hP : va_P D vwCl (mW q k (nI 0) wd se kd bn sh mb pr B R sx pt rd wt ln px) _ := hP
  have hD : va_D A (mW q k (nI 0) wd se kd bn sh mb pr B R sx pt rd wt ln px) := hD
  refine lv_iload_n hx hb d_MO_burn_5 rfl (lv_at hl 1 rfl) ?_
  refine lv_iconst (v := nI 0) hx hb d_MO_burn_6 (by decide +kernel) ?_
  refine lv_iconst (v := nI 3) hx hb d_MO_burn_7 (by decide +kernel) ?_
  refine kr_iS (As := [.int (nI s9), .int (nI 0), .int (nI 3)]) (rest := []) ⟨hx, hb, hml, hown, hts⟩ (c_MO_within l D k s9 0 3 (by omega) (by omega) (by omega)) (va_cwS 3 hts (gS w_587 w_588 w_5 w_589) rfl rfl rfl (by decide +kernel) ⟨Nat.le_of_ble_eq_true rfl, Nat.le_of_ble_eq_true rfl⟩) hK va_nil rfl hl.1 rfl (Nat.le_of_ble_eq_true rfl) d_MO_burn_8 ⟨Nat.zero_le _, Nat.zero_le _⟩ ?_
  refine lv_if_eq (tgt := 35) hx hb d_MO_burn_11 (by decide) (fun c1 => ?_) (fun c1 => ?_)
  · have c1 := (bI_0).mp c1
    exfalso; omega
  · have c1 := mt (bI_0).mpr c1
    have c1 := Classical.not_not.mp c1
    refine lv_iload_n hx hb d_MO_burn_14 rfl (lv_at hl 2 rfl) ?_
    refine lv_iconst (v := nI 0) hx hb d_MO_burn_15 (by decide +kernel) ?_
    refine lv_iconst (v := nI 3) hx hb d_MO_burn_16 (by decide +kernel) ?_
    refine kr_iS (As := [.int (nI p9), .int (nI 0), .int (nI 3)]) (rest := []) ⟨hx, hb, hml, hown, hts⟩ (c_MO_within l D k p9 0 3 (by omega) (by omega) (by omega)) (va_cwS 3 hts (gS w_587 w_588 w_5 w_589) rfl rfl rfl (by decide +kernel) ⟨Nat.le_of_ble_eq_true rfl, Nat.le_of_ble_eq_true rfl⟩) hK va_nil rfl hl.1 rfl (Nat.le_of_ble_eq_true rfl) d_MO_burn_17 ⟨Nat.zero_le _, Nat.zero_le _⟩ ?_
    refine lv_if_eq (tgt := 35) hx hb d_MO_burn_20 (by decide) (fun c2 => ?_) (fun c2 => ?_)
    · have c2 := (bI_0).mp c2
      exfalso; omega
    · have c2 := mt (bI_0).mpr c2
      have c2 := Classical.not_not.mp c2
      refine lv_iload hx hb d_MO_burn_23 (lv_at hl 4 rfl) ?_
      refine lv_iconst (v := nI 0) hx hb d_MO_burn_25 (by decide +kernel) ?_
      refine lv_sipush (v := nI 255) hx hb d_MO_burn_26 (by decide +kernel) ?_
      refine kr_iS (As := [.int (nI v), .int (nI 0), .int (nI 255)]) (rest := []) ⟨hx, hb, hml, hown, hts⟩ (c_MO_within l D k v 0 255 (by omega) (by omega) (by omega)) (va_cwS 3 hts (gS w_587 w_588 w_5 w_589) rfl rfl rfl (by decide +kernel) ⟨Nat.le_of_ble_eq_true rfl, Nat.le_of_ble_eq_true rfl⟩) hK va_nil rfl hl.1 rfl (Nat.le_of_ble_eq_true rfl) d_MO_burn_29 ⟨Nat.zero_le _, Nat.zero_le _⟩ ?_
      refine lv_if_ne (tgt := 37) hx hb d_MO_burn_32 (by decide) (fun c3 => ?_) (fun c3 => ?_)
      · have c3 := mt (bI_0).mpr c3
        have c3 := Classical.not_not.mp c3
        refine lv_iconst (v := nI 4) hx hb d_MO_burn_37 (by decide +kernel) ?_
        refine lv_iload_n hx hb d_MO_burn_38 rfl (lv_at hl 1 rfl) ?_
        refine lv_imul hx hb d_MO_burn_39 ?_
        refine ss_rt (y := nI (4 * s9)) (pk_mul _ _) ?_
        refine lv_iload_n hx hb d_MO_burn_40 rfl (lv_at hl 2 rfl) ?_
        refine lv_iadd hx hb d_MO_burn_41 ?_
        refine ss_rt (y := nI (4 * s9 + p9)) (nI_add _ _) ?_
        refine lv_istore (lv' := [(5, .int (nI (4 * s9 + p9))), (0, .ref (q 0)), (1, .int (nI s9)), (2, .int (nI p9)), (3, .int (nI x)), (4, .int (nI v))]) hx hb d_MO_burn_42 hl (by decide) rfl (fun ls hl => ?_)
        refine lv_aload_n hx hb d_MO_burn_44 rfl (lv_at hl 1 rfl) ?_
        refine va_get (D := D) (ci := 7) (v := .ref (q 3)) (C := R_MO) (T := T_MO) (N := 16) hx hb hts in_MO hown hK hP 0 rfl rfl 3 (by decide) (hts _ w_533) (fun _ h9 => h9) rfl d_MO_burn_45 ?_
        refine lv_iload hx hb d_MO_burn_48 (lv_at hl 0 rfl) ?_
        refine va_iald hx hb hK hP 3 0 rfl rfl (vp_in_nI (by omega) (by omega)) d_MO_burn_50 ?_
        refine ss_rt (y := nI (kd (4 * s9 + p9))) (congrArg (fun z => nI (kd z)) (nI_clamp (by omega))) ?_
        have g4 := hkd (4 * s9 + p9)
        refine lv_iconst (v := nI 2) hx hb d_MO_burn_51 (by decide +kernel) ?_
        refine lv_icmp_ne (tgt := 61) hx hb d_MO_burn_52 (by decide) (fun c5 => ?_) (fun c5 => ?_)
        · have c5 := mt (nI_eq (by omega) (by omega)).mpr c5
          exfalso; omega
        · have c5 := (nI_eq (by omega) (by omega)).mp c5
          refine lv_sipush (v := nI 256) hx hb d_MO_burn_55 (by decide +kernel) ?_
          refine lv_goto (tgt := 86) hx hb d_MO_burn_58 (by decide) ?_
          refine lv_istore (lv' := [(6, .int (nI 256)), (5, .int (nI (4 * s9 + p9))), (0, .ref (q 0)), (1, .int (nI s9)), (2, .int (nI p9)), (3, .int (nI x)), (4, .int (nI v))]) hx hb d_MO_burn_86 hl (by decide) rfl (fun ls hl => ?_)
          refine lv_iload_n hx hb d_MO_burn_88 rfl (lv_at hl 5 rfl) ?_
          refine lv_if_lt (tgt := 98) hx hb d_MO_burn_89 (by decide) (fun c6 => ?_) (fun c6 => ?_)
          · have c6 := (n_lt0 (by omega)).mp c6
            exfalso; omega
          · have c6 := mt (n_lt0 (by omega)).mpr c6
            refine lv_iload_n hx hb d_MO_burn_92 rfl (lv_at hl 5 rfl) ?_
            refine lv_iload hx hb d_MO_burn_93 (lv_at hl 0 rfl) ?_
            refine lv_icmp_lt (tgt := 100) hx hb d_MO_burn_95 (by decide) (fun c7 => ?_) (fun c7 => ?_)
            · have c7 := (nI_ltI (by omega) (by omega)).mp c7
              refine lv_aload_n hx hb d_MO_burn_100 rfl (lv_at hl 2 rfl) ?_
              refine va_get (D := D) (ci := 7) (v := .ref (q 6)) (C := R_MO) (T := T_MO) (N := 16) hx hb hts in_MO hown hK hP 0 rfl rfl 6 (by decide) (hts _ w_536) (fun _ h9 => h9) rfl d_MO_burn_101 ?_
              refine lv_sipush (v := nI 256) hx hb d_MO_burn_104 (by decide +kernel) ?_
              refine lv_iload hx hb d_MO_burn_107 (lv_at hl 1 rfl) ?_
              refine lv_imul hx hb d_MO_burn_109 ?_
              refine ss_rt (y := nI (256 * (4 * s9 + p9))) (pk_mul _ _) ?_
              refine lv_iload_n hx hb d_MO_burn_110 rfl (lv_at hl 5 rfl) ?_
              refine lv_iadd hx hb d_MO_burn_111 ?_
              refine ss_rt (y := nI (256 * (4 * s9 + p9) + x)) (nI_add _ _) ?_
              refine lv_iload hx hb d_MO_burn_112 (lv_at hl 6 rfl) ?_
              refine va_iast hx hb hK hP hD hS 6 0 rfl rfl (vp_in_nI (by omega) (by omega)) d_MO_burn_114 (fun H locs hP hD hS => ?_)
              rw [ss_upI mb (k := (256 * (4 * s9 + p9) + x)) (v := v) (by omega)] at hP hD
              have hP : va_P D vwCl (mW q k (nI 0) wd se kd bn sh (ss_up mb (256 * (4 * s9 + p9) + x) v) pr B R sx pt rd wt ln px) _ := hP
              have hD : va_D A (mW q k (nI 0) wd se kd bn sh (ss_up mb (256 * (4 * s9 + p9) + x) v) pr B R sx pt rd wt ln px) := hD
              refine lv_iconst (v := nI 1) hx hb d_MO_burn_115 (by decide +kernel) ?_
              exact rw_retz hx hb hr hlocks d_MO_burn_116 (by decide +kernel) hS () (rfl) hP
            · have c7 := mt (nI_ltI (by omega) (by omega)).mpr c7
              exfalso; omega
      · have c3 := (bI_0).mp c3
        exfalso; omega
set_option maxHeartbeats 4000000 in
set_option maxRecDepth 100000 in
theorem c_MO_burn3 (l : Launch) (D : va_G) (k : Nat → ClassId) (q : Nat → Nat) (cd : Int32) (wd : Nat → Nat) (se : Nat → Nat) (kd : Nat → Nat) (bn : Nat → Int32) (sh : Nat → Nat) (mb : Nat → Nat) (pr : Nat) (B : Nat → Nat) (R : Nat → Nat) (sx : Nat) (pt : Nat) (rd : Nat) (wt : Int32) (ln : Nat) (px : Nat → Nat) (hkd : ∀ j, kd j < 5) (hmb : ∀ j, mb j < 256) (s9 p9 v : Nat) (hs9 : s9 < 4) (hp9 : p9 < 4) (hv : v < 256) (hk : kd (4 * s9 + p9) = 3) (n : Nat) (hn1 : 1 ≤ n) (hn2 : n ≤ 8) (hbn : bn (4 * s9 + p9) = nI n) (x : Nat) (hx9 : x < 32 * n) : rw_i l y_MO_burn b_MO_burn 7 (some .boolean) { frames := 1, cells := 0, slots := 0, locals := 22 } D (kT k) (mW q k cd wd se kd bn sh mb pr B R sx pt rd wt ln px) [.ref (q 0), .int (nI s9), .int (nI p9), .int (nI x), .int (nI v)] (fun (r : Int32) (_ : Unit) => r = nI 1) (fun (_ : Unit) => (mW q k (nI 0) wd se kd bn sh (ss_up mb (256 * (4 * s9 + p9) + x) v) pr B R sx pt rd wt ln px)) := by
  refine rw_headi (by decide) (Nat.le_of_ble_eq_true rfl) ?_
  intro p e s m below meth c ls A hx hb hr hlocks hml hown hts hK hA hP hD hS hl
  have hown : s.vm.findClass "SlotScreenModel" = some m.cls := hown
  have hl : lv_has ls 7 [(0, .ref (q 0)), (1, .int (nI s9)), (2, .int (nI p9)), (3, .int (nI x)), (4, .int (nI v))] := hl
  refine lv_aload_n hx hb d_MO_burn_0 rfl (lv_at hl 0 rfl) ?_
  refine lv_iconst (v := nI 0) hx hb d_MO_burn_1 (by decide +kernel) ?_
  refine va_put (D := D) (ci := 7) (v := .int (nI 0)) (ty := .int) (C := R_MO) (T := T_MO) (N := 16) hx hb hts in_MO t_MO o_MO n_MO hown hK hP hD hS 0 rfl rfl 0 (by decide) (hts _ w_530) (fun _ h9 => h9) rfl (by decide +kernel) rfl rfl (Nat.le_of_ble_eq_true rfl) d_MO_burn_2 (fun H locs hP hD hS => ?_)
  have hP : va_P D vwCl (mW q k (nI 0) wd se kd bn sh mb pr B R sx pt rd wt ln px) _ := hP
  have hD : va_D A (mW q k (nI 0) wd se kd bn sh mb pr B R sx pt rd wt ln px) := hD
  refine lv_iload_n hx hb d_MO_burn_5 rfl (lv_at hl 1 rfl) ?_
  refine lv_iconst (v := nI 0) hx hb d_MO_burn_6 (by decide +kernel) ?_
  refine lv_iconst (v := nI 3) hx hb d_MO_burn_7 (by decide +kernel) ?_
  refine kr_iS (As := [.int (nI s9), .int (nI 0), .int (nI 3)]) (rest := []) ⟨hx, hb, hml, hown, hts⟩ (c_MO_within l D k s9 0 3 (by omega) (by omega) (by omega)) (va_cwS 3 hts (gS w_587 w_588 w_5 w_589) rfl rfl rfl (by decide +kernel) ⟨Nat.le_of_ble_eq_true rfl, Nat.le_of_ble_eq_true rfl⟩) hK va_nil rfl hl.1 rfl (Nat.le_of_ble_eq_true rfl) d_MO_burn_8 ⟨Nat.zero_le _, Nat.zero_le _⟩ ?_
  refine lv_if_eq (tgt := 35) hx hb d_MO_burn_11 (by decide) (fun c1 => ?_) (fun c1 => ?_)
  · have c1 := (bI_0).mp c1
    exfalso; omega
  · have c1 := mt (bI_0).mpr c1
    have c1 := Classical.not_not.mp c1
    refine lv_iload_n hx hb d_MO_burn_14 rfl (lv_at hl 2 rfl) ?_
    refine lv_iconst (v := nI 0) hx hb d_MO_burn_15 (by decide +kernel) ?_
    refine lv_iconst (v := nI 3) hx hb d_MO_burn_16 (by decide +kernel) ?_
    refine kr_iS (As := [.int (nI p9), .int (nI 0), .int (nI 3)]) (rest := []) ⟨hx, hb, hml, hown, hts⟩ (c_MO_within l D k p9 0 3 (by omega) (by omega) (by omega)) (va_cwS 3 hts (gS w_587 w_588 w_5 w_589) rfl rfl rfl (by decide +kernel) ⟨Nat.le_of_ble_eq_true rfl, Nat.le_of_ble_eq_true rfl⟩) hK va_nil rfl hl.1 rfl (Nat.le_of_ble_eq_true rfl) d_MO_burn_17 ⟨Nat.zero_le _, Nat.zero_le _⟩ ?_
    refine lv_if_eq (tgt := 35) hx hb d_MO_burn_20 (by decide) (fun c2 => ?_) (fun c2 => ?_)
    · have c2 := (bI_0).mp c2
      exfalso; omega
    · have c2 := mt (bI_0).mpr c2
      have c2 := Classical.not_not.mp c2
      refine lv_iload hx hb d_MO_burn_23 (lv_at hl 4 rfl) ?_
      refine lv_iconst (v := nI 0) hx hb d_MO_burn_25 (by decide +kernel) ?_
      refine lv_sipush (v := nI 255) hx hb d_MO_burn_26 (by decide +kernel) ?_
      refine kr_iS (As := [.int (nI v), .int (nI 0), .int (nI 255)]) (rest := []) ⟨hx, hb, hml, hown, hts⟩ (c_MO_within l D k v 0 255 (by omega) (by omega) (by omega)) (va_cwS 3 hts (gS w_587 w_588 w_5 w_589) rfl rfl rfl (by decide +kernel) ⟨Nat.le_of_ble_eq_true rfl, Nat.le_of_ble_eq_true rfl⟩) hK va_nil rfl hl.1 rfl (Nat.le_of_ble_eq_true rfl) d_MO_burn_29 ⟨Nat.zero_le _, Nat.zero_le _⟩ ?_
      refine lv_if_ne (tgt := 37) hx hb d_MO_burn_32 (by decide) (fun c3 => ?_) (fun c3 => ?_)
      · have c3 := mt (bI_0).mpr c3
        have c3 := Classical.not_not.mp c3
        refine lv_iconst (v := nI 4) hx hb d_MO_burn_37 (by decide +kernel) ?_
        refine lv_iload_n hx hb d_MO_burn_38 rfl (lv_at hl 1 rfl) ?_
        refine lv_imul hx hb d_MO_burn_39 ?_
        refine ss_rt (y := nI (4 * s9)) (pk_mul _ _) ?_
        refine lv_iload_n hx hb d_MO_burn_40 rfl (lv_at hl 2 rfl) ?_
        refine lv_iadd hx hb d_MO_burn_41 ?_
        refine ss_rt (y := nI (4 * s9 + p9)) (nI_add _ _) ?_
        refine lv_istore (lv' := [(5, .int (nI (4 * s9 + p9))), (0, .ref (q 0)), (1, .int (nI s9)), (2, .int (nI p9)), (3, .int (nI x)), (4, .int (nI v))]) hx hb d_MO_burn_42 hl (by decide) rfl (fun ls hl => ?_)
        refine lv_aload_n hx hb d_MO_burn_44 rfl (lv_at hl 1 rfl) ?_
        refine va_get (D := D) (ci := 7) (v := .ref (q 3)) (C := R_MO) (T := T_MO) (N := 16) hx hb hts in_MO hown hK hP 0 rfl rfl 3 (by decide) (hts _ w_533) (fun _ h9 => h9) rfl d_MO_burn_45 ?_
        refine lv_iload hx hb d_MO_burn_48 (lv_at hl 0 rfl) ?_
        refine va_iald hx hb hK hP 3 0 rfl rfl (vp_in_nI (by omega) (by omega)) d_MO_burn_50 ?_
        refine ss_rt (y := nI (kd (4 * s9 + p9))) (congrArg (fun z => nI (kd z)) (nI_clamp (by omega))) ?_
        have g4 := hkd (4 * s9 + p9)
        refine lv_iconst (v := nI 2) hx hb d_MO_burn_51 (by decide +kernel) ?_
        refine lv_icmp_ne (tgt := 61) hx hb d_MO_burn_52 (by decide) (fun c5 => ?_) (fun c5 => ?_)
        · have c5 := mt (nI_eq (by omega) (by omega)).mpr c5
          refine lv_aload_n hx hb d_MO_burn_61 rfl (lv_at hl 1 rfl) ?_
          refine va_get (D := D) (ci := 7) (v := .ref (q 3)) (C := R_MO) (T := T_MO) (N := 16) hx hb hts in_MO hown hK hP 0 rfl rfl 3 (by decide) (hts _ w_533) (fun _ h9 => h9) rfl d_MO_burn_62 ?_
          refine lv_iload hx hb d_MO_burn_65 (lv_at hl 0 rfl) ?_
          refine va_iald hx hb hK hP 3 0 rfl rfl (vp_in_nI (by omega) (by omega)) d_MO_burn_67 ?_
          refine ss_rt (y := nI (kd (4 * s9 + p9))) (congrArg (fun z => nI (kd z)) (nI_clamp (by omega))) ?_
          have g6 := hkd (4 * s9 + p9)
          refine lv_iconst (v := nI 3) hx hb d_MO_burn_68 (by decide +kernel) ?_
          refine lv_icmp_ne (tgt := 85) hx hb d_MO_burn_69 (by decide) (fun c7 => ?_) (fun c7 => ?_)
          · have c7 := mt (nI_eq (by omega) (by omega)).mpr c7
            exfalso; omega
          · have c7 := (nI_eq (by omega) (by omega)).mp c7
            refine lv_bipush (v := nI 32) hx hb d_MO_burn_72 (by decide +kernel) ?_
            refine lv_aload_n hx hb d_MO_burn_74 rfl (lv_at hl 1 rfl) ?_
            refine va_get (D := D) (ci := 7) (v := .ref (q 4)) (C := R_MO) (T := T_MO) (N := 16) hx hb hts in_MO hown hK hP 0 rfl rfl 4 (by decide) (hts _ w_534) (fun _ h9 => h9) rfl d_MO_burn_75 ?_
            refine lv_iload hx hb d_MO_burn_78 (lv_at hl 0 rfl) ?_
            refine va_iald hx hb hK hP 4 0 rfl rfl (vp_in_nI (by omega) (by omega)) d_MO_burn_80 ?_
            refine ss_rt (y := bn (4 * s9 + p9)) (congrArg bn (nI_clamp (by omega))) ?_
            refine ss_rt (y := nI n) hbn ?_
            refine lv_imul hx hb d_MO_burn_81 ?_
            refine ss_rt (y := nI (32 * n)) (pk_mul _ _) ?_
            refine lv_goto (tgt := 86) hx hb d_MO_burn_82 (by decide) ?_
            refine lv_istore (lv' := [(6, .int (nI (32 * n))), (5, .int (nI (4 * s9 + p9))), (0, .ref (q 0)), (1, .int (nI s9)), (2, .int (nI p9)), (3, .int (nI x)), (4, .int (nI v))]) hx hb d_MO_burn_86 hl (by decide) rfl (fun ls hl => ?_)
            refine lv_iload_n hx hb d_MO_burn_88 rfl (lv_at hl 5 rfl) ?_
            refine lv_if_lt (tgt := 98) hx hb d_MO_burn_89 (by decide) (fun c8 => ?_) (fun c8 => ?_)
            · have c8 := (n_lt0 (by omega)).mp c8
              exfalso; omega
            · have c8 := mt (n_lt0 (by omega)).mpr c8
              refine lv_iload_n hx hb d_MO_burn_92 rfl (lv_at hl 5 rfl) ?_
              refine lv_iload hx hb d_MO_burn_93 (lv_at hl 0 rfl) ?_
              refine lv_icmp_lt (tgt := 100) hx hb d_MO_burn_95 (by decide) (fun c9 => ?_) (fun c9 => ?_)
              · have c9 := (nI_ltI (by omega) (by omega)).mp c9
                refine lv_aload_n hx hb d_MO_burn_100 rfl (lv_at hl 2 rfl) ?_
                refine va_get (D := D) (ci := 7) (v := .ref (q 6)) (C := R_MO) (T := T_MO) (N := 16) hx hb hts in_MO hown hK hP 0 rfl rfl 6 (by decide) (hts _ w_536) (fun _ h9 => h9) rfl d_MO_burn_101 ?_
                refine lv_sipush (v := nI 256) hx hb d_MO_burn_104 (by decide +kernel) ?_
                refine lv_iload hx hb d_MO_burn_107 (lv_at hl 1 rfl) ?_
                refine lv_imul hx hb d_MO_burn_109 ?_
                refine ss_rt (y := nI (256 * (4 * s9 + p9))) (pk_mul _ _) ?_
                refine lv_iload_n hx hb d_MO_burn_110 rfl (lv_at hl 5 rfl) ?_
                refine lv_iadd hx hb d_MO_burn_111 ?_
                refine ss_rt (y := nI (256 * (4 * s9 + p9) + x)) (nI_add _ _) ?_
                refine lv_iload hx hb d_MO_burn_112 (lv_at hl 6 rfl) ?_
                refine va_iast hx hb hK hP hD hS 6 0 rfl rfl (vp_in_nI (by omega) (by omega)) d_MO_burn_114 (fun H locs hP hD hS => ?_)
                rw [ss_upI mb (k := (256 * (4 * s9 + p9) + x)) (v := v) (by omega)] at hP hD
                have hP : va_P D vwCl (mW q k (nI 0) wd se kd bn sh (ss_up mb (256 * (4 * s9 + p9) + x) v) pr B R sx pt rd wt ln px) _ := hP
                have hD : va_D A (mW q k (nI 0) wd se kd bn sh (ss_up mb (256 * (4 * s9 + p9) + x) v) pr B R sx pt rd wt ln px) := hD
                refine lv_iconst (v := nI 1) hx hb d_MO_burn_115 (by decide +kernel) ?_
                exact rw_retz hx hb hr hlocks d_MO_burn_116 (by decide +kernel) hS () (rfl) hP
              · have c9 := mt (nI_ltI (by omega) (by omega)).mpr c9
                exfalso; omega
        · have c5 := (nI_eq (by omega) (by omega)).mp c5
          exfalso; omega
      · have c3 := (bI_0).mp c3
        exfalso; omega
set_option maxHeartbeats 4000000 in
set_option maxRecDepth 100000 in
theorem c_MO_burn2o (l : Launch) (D : va_G) (k : Nat → ClassId) (q : Nat → Nat) (cd : Int32) (wd : Nat → Nat) (se : Nat → Nat) (kd : Nat → Nat) (bn : Nat → Int32) (sh : Nat → Nat) (mb : Nat → Nat) (pr : Nat) (B : Nat → Nat) (R : Nat → Nat) (sx : Nat) (pt : Nat) (rd : Nat) (wt : Int32) (ln : Nat) (px : Nat → Nat) (hkd : ∀ j, kd j < 5) (hmb : ∀ j, mb j < 256) (s9 p9 v : Nat) (hs9 : s9 < 4) (hp9 : p9 < 4) (hv : v < 256) (hk : kd (4 * s9 + p9) = 2) (x : Int32) (hx9 : ¬ (0 ≤ x.toInt ∧ x.toInt ≤ 255)) : rw_i l y_MO_burn b_MO_burn 7 (some .boolean) { frames := 1, cells := 0, slots := 0, locals := 22 } D (kT k) (mW q k cd wd se kd bn sh mb pr B R sx pt rd wt ln px) [.ref (q 0), .int (nI s9), .int (nI p9), .int x, .int (nI v)] (fun (r : Int32) (_ : Unit) => r = nI 0) (fun (_ : Unit) => (mW q k (nI 0) wd se kd bn sh mb pr B R sx pt rd wt ln px)) := by
  refine rw_headi (by decide) (Nat.le_of_ble_eq_true rfl) ?_
  intro p e s m below meth c ls A hx hb hr hlocks hml hown hts hK hA hP hD hS hl
  have hown : s.vm.findClass "SlotScreenModel" = some m.cls := hown
  have hl : lv_has ls 7 [(0, .ref (q 0)), (1, .int (nI s9)), (2, .int (nI p9)), (3, .int x), (4, .int (nI v))] := hl
  refine lv_aload_n hx hb d_MO_burn_0 rfl (lv_at hl 0 rfl) ?_
  refine lv_iconst (v := nI 0) hx hb d_MO_burn_1 (by decide +kernel) ?_
  refine va_put (D := D) (ci := 7) (v := .int (nI 0)) (ty := .int) (C := R_MO) (T := T_MO) (N := 16) hx hb hts in_MO t_MO o_MO n_MO hown hK hP hD hS 0 rfl rfl 0 (by decide) (hts _ w_530) (fun _ h9 => h9) rfl (by decide +kernel) rfl rfl (Nat.le_of_ble_eq_true rfl) d_MO_burn_2 (fun H locs hP hD hS => ?_)
  have hP : va_P D vwCl (mW q k (nI 0) wd se kd bn sh mb pr B R sx pt rd wt ln px) _ := hP
  have hD : va_D A (mW q k (nI 0) wd se kd bn sh mb pr B R sx pt rd wt ln px) := hD
  refine lv_iload_n hx hb d_MO_burn_5 rfl (lv_at hl 1 rfl) ?_
  refine lv_iconst (v := nI 0) hx hb d_MO_burn_6 (by decide +kernel) ?_
  refine lv_iconst (v := nI 3) hx hb d_MO_burn_7 (by decide +kernel) ?_
  refine kr_iS (As := [.int (nI s9), .int (nI 0), .int (nI 3)]) (rest := []) ⟨hx, hb, hml, hown, hts⟩ (c_MO_within l D k s9 0 3 (by omega) (by omega) (by omega)) (va_cwS 3 hts (gS w_587 w_588 w_5 w_589) rfl rfl rfl (by decide +kernel) ⟨Nat.le_of_ble_eq_true rfl, Nat.le_of_ble_eq_true rfl⟩) hK va_nil rfl hl.1 rfl (Nat.le_of_ble_eq_true rfl) d_MO_burn_8 ⟨Nat.zero_le _, Nat.zero_le _⟩ ?_
  refine lv_if_eq (tgt := 35) hx hb d_MO_burn_11 (by decide) (fun c1 => ?_) (fun c1 => ?_)
  · have c1 := (bI_0).mp c1
    exfalso; omega
  · have c1 := mt (bI_0).mpr c1
    have c1 := Classical.not_not.mp c1
    refine lv_iload_n hx hb d_MO_burn_14 rfl (lv_at hl 2 rfl) ?_
    refine lv_iconst (v := nI 0) hx hb d_MO_burn_15 (by decide +kernel) ?_
    refine lv_iconst (v := nI 3) hx hb d_MO_burn_16 (by decide +kernel) ?_
    refine kr_iS (As := [.int (nI p9), .int (nI 0), .int (nI 3)]) (rest := []) ⟨hx, hb, hml, hown, hts⟩ (c_MO_within l D k p9 0 3 (by omega) (by omega) (by omega)) (va_cwS 3 hts (gS w_587 w_588 w_5 w_589) rfl rfl rfl (by decide +kernel) ⟨Nat.le_of_ble_eq_true rfl, Nat.le_of_ble_eq_true rfl⟩) hK va_nil rfl hl.1 rfl (Nat.le_of_ble_eq_true rfl) d_MO_burn_17 ⟨Nat.zero_le _, Nat.zero_le _⟩ ?_
    refine lv_if_eq (tgt := 35) hx hb d_MO_burn_20 (by decide) (fun c2 => ?_) (fun c2 => ?_)
    · have c2 := (bI_0).mp c2
      exfalso; omega
    · have c2 := mt (bI_0).mpr c2
      have c2 := Classical.not_not.mp c2
      refine lv_iload hx hb d_MO_burn_23 (lv_at hl 4 rfl) ?_
      refine lv_iconst (v := nI 0) hx hb d_MO_burn_25 (by decide +kernel) ?_
      refine lv_sipush (v := nI 255) hx hb d_MO_burn_26 (by decide +kernel) ?_
      refine kr_iS (As := [.int (nI v), .int (nI 0), .int (nI 255)]) (rest := []) ⟨hx, hb, hml, hown, hts⟩ (c_MO_within l D k v 0 255 (by omega) (by omega) (by omega)) (va_cwS 3 hts (gS w_587 w_588 w_5 w_589) rfl rfl rfl (by decide +kernel) ⟨Nat.le_of_ble_eq_true rfl, Nat.le_of_ble_eq_true rfl⟩) hK va_nil rfl hl.1 rfl (Nat.le_of_ble_eq_true rfl) d_MO_burn_29 ⟨Nat.zero_le _, Nat.zero_le _⟩ ?_
      refine lv_if_ne (tgt := 37) hx hb d_MO_burn_32 (by decide) (fun c3 => ?_) (fun c3 => ?_)
      · have c3 := mt (bI_0).mpr c3
        have c3 := Classical.not_not.mp c3
        refine lv_iconst (v := nI 4) hx hb d_MO_burn_37 (by decide +kernel) ?_
        refine lv_iload_n hx hb d_MO_burn_38 rfl (lv_at hl 1 rfl) ?_
        refine lv_imul hx hb d_MO_burn_39 ?_
        refine ss_rt (y := nI (4 * s9)) (pk_mul _ _) ?_
        refine lv_iload_n hx hb d_MO_burn_40 rfl (lv_at hl 2 rfl) ?_
        refine lv_iadd hx hb d_MO_burn_41 ?_
        refine ss_rt (y := nI (4 * s9 + p9)) (nI_add _ _) ?_
        refine lv_istore (lv' := [(5, .int (nI (4 * s9 + p9))), (0, .ref (q 0)), (1, .int (nI s9)), (2, .int (nI p9)), (3, .int x), (4, .int (nI v))]) hx hb d_MO_burn_42 hl (by decide) rfl (fun ls hl => ?_)
        refine lv_aload_n hx hb d_MO_burn_44 rfl (lv_at hl 1 rfl) ?_
        refine va_get (D := D) (ci := 7) (v := .ref (q 3)) (C := R_MO) (T := T_MO) (N := 16) hx hb hts in_MO hown hK hP 0 rfl rfl 3 (by decide) (hts _ w_533) (fun _ h9 => h9) rfl d_MO_burn_45 ?_
        refine lv_iload hx hb d_MO_burn_48 (lv_at hl 0 rfl) ?_
        refine va_iald hx hb hK hP 3 0 rfl rfl (vp_in_nI (by omega) (by omega)) d_MO_burn_50 ?_
        refine ss_rt (y := nI (kd (4 * s9 + p9))) (congrArg (fun z => nI (kd z)) (nI_clamp (by omega))) ?_
        have g4 := hkd (4 * s9 + p9)
        refine lv_iconst (v := nI 2) hx hb d_MO_burn_51 (by decide +kernel) ?_
        refine lv_icmp_ne (tgt := 61) hx hb d_MO_burn_52 (by decide) (fun c5 => ?_) (fun c5 => ?_)
        · have c5 := mt (nI_eq (by omega) (by omega)).mpr c5
          exfalso; omega
        · have c5 := (nI_eq (by omega) (by omega)).mp c5
          refine lv_sipush (v := nI 256) hx hb d_MO_burn_55 (by decide +kernel) ?_
          refine lv_goto (tgt := 86) hx hb d_MO_burn_58 (by decide) ?_
          refine lv_istore (lv' := [(6, .int (nI 256)), (5, .int (nI (4 * s9 + p9))), (0, .ref (q 0)), (1, .int (nI s9)), (2, .int (nI p9)), (3, .int x), (4, .int (nI v))]) hx hb d_MO_burn_86 hl (by decide) rfl (fun ls hl => ?_)
          refine lv_iload_n hx hb d_MO_burn_88 rfl (lv_at hl 5 rfl) ?_
          refine lv_if_lt (tgt := 98) hx hb d_MO_burn_89 (by decide) (fun c6 => ?_) (fun c6 => ?_)
          · have c6 := (z_lt0).mp c6
            refine lv_iconst (v := nI 0) hx hb d_MO_burn_98 (by decide +kernel) ?_
            exact rw_retz hx hb hr hlocks d_MO_burn_99 (by decide +kernel) hS () (rfl) hP
          · have c6 := mt (z_lt0).mpr c6
            refine lv_iload_n hx hb d_MO_burn_92 rfl (lv_at hl 5 rfl) ?_
            refine lv_iload hx hb d_MO_burn_93 (lv_at hl 0 rfl) ?_
            refine lv_icmp_lt (tgt := 100) hx hb d_MO_burn_95 (by decide) (fun c7 => ?_) (fun c7 => ?_)
            · have c7 := (zn_lt (by omega)).mp c7
              exfalso; omega
            · have c7 := mt (zn_lt (by omega)).mpr c7
              refine lv_iconst (v := nI 0) hx hb d_MO_burn_98 (by decide +kernel) ?_
              exact rw_retz hx hb hr hlocks d_MO_burn_99 (by decide +kernel) hS () (rfl) hP
      · have c3 := (bI_0).mp c3
        exfalso; omega
set_option maxHeartbeats 4000000 in
set_option maxRecDepth 100000 in
theorem c_MO_burn3o (l : Launch) (D : va_G) (k : Nat → ClassId) (q : Nat → Nat) (cd : Int32) (wd : Nat → Nat) (se : Nat → Nat) (kd : Nat → Nat) (bn : Nat → Int32) (sh : Nat → Nat) (mb : Nat → Nat) (pr : Nat) (B : Nat → Nat) (R : Nat → Nat) (sx : Nat) (pt : Nat) (rd : Nat) (wt : Int32) (ln : Nat) (px : Nat → Nat) (hkd : ∀ j, kd j < 5) (hmb : ∀ j, mb j < 256) (s9 p9 v : Nat) (hs9 : s9 < 4) (hp9 : p9 < 4) (hv : v < 256) (hk : kd (4 * s9 + p9) = 3) (n : Nat) (hn1 : 1 ≤ n) (hn2 : n ≤ 8) (hbn : bn (4 * s9 + p9) = nI n) (x : Int32) (hx9 : ¬ (0 ≤ x.toInt ∧ x.toInt < 32 * (n : Int))) : rw_i l y_MO_burn b_MO_burn 7 (some .boolean) { frames := 1, cells := 0, slots := 0, locals := 22 } D (kT k) (mW q k cd wd se kd bn sh mb pr B R sx pt rd wt ln px) [.ref (q 0), .int (nI s9), .int (nI p9), .int x, .int (nI v)] (fun (r : Int32) (_ : Unit) => r = nI 0) (fun (_ : Unit) => (mW q k (nI 0) wd se kd bn sh mb pr B R sx pt rd wt ln px)) := by
  refine rw_headi (by decide) (Nat.le_of_ble_eq_true rfl) ?_
  intro p e s m below meth c ls A hx hb hr hlocks hml hown hts hK hA hP hD hS hl
  have hown : s.vm.findClass "SlotScreenModel" = some m.cls := hown
  have hl : lv_has ls 7 [(0, .ref (q 0)), (1, .int (nI s9)), (2, .int (nI p9)), (3, .int x), (4, .int (nI v))] := hl
  refine lv_aload_n hx hb d_MO_burn_0 rfl (lv_at hl 0 rfl) ?_
  refine lv_iconst (v := nI 0) hx hb d_MO_burn_1 (by decide +kernel) ?_
  refine va_put (D := D) (ci := 7) (v := .int (nI 0)) (ty := .int) (C := R_MO) (T := T_MO) (N := 16) hx hb hts in_MO t_MO o_MO n_MO hown hK hP hD hS 0 rfl rfl 0 (by decide) (hts _ w_530) (fun _ h9 => h9) rfl (by decide +kernel) rfl rfl (Nat.le_of_ble_eq_true rfl) d_MO_burn_2 (fun H locs hP hD hS => ?_)
  have hP : va_P D vwCl (mW q k (nI 0) wd se kd bn sh mb pr B R sx pt rd wt ln px) _ := hP
  have hD : va_D A (mW q k (nI 0) wd se kd bn sh mb pr B R sx pt rd wt ln px) := hD
  refine lv_iload_n hx hb d_MO_burn_5 rfl (lv_at hl 1 rfl) ?_
  refine lv_iconst (v := nI 0) hx hb d_MO_burn_6 (by decide +kernel) ?_
  refine lv_iconst (v := nI 3) hx hb d_MO_burn_7 (by decide +kernel) ?_
  refine kr_iS (As := [.int (nI s9), .int (nI 0), .int (nI 3)]) (rest := []) ⟨hx, hb, hml, hown, hts⟩ (c_MO_within l D k s9 0 3 (by omega) (by omega) (by omega)) (va_cwS 3 hts (gS w_587 w_588 w_5 w_589) rfl rfl rfl (by decide +kernel) ⟨Nat.le_of_ble_eq_true rfl, Nat.le_of_ble_eq_true rfl⟩) hK va_nil rfl hl.1 rfl (Nat.le_of_ble_eq_true rfl) d_MO_burn_8 ⟨Nat.zero_le _, Nat.zero_le _⟩ ?_
  refine lv_if_eq (tgt := 35) hx hb d_MO_burn_11 (by decide) (fun c1 => ?_) (fun c1 => ?_)
  · have c1 := (bI_0).mp c1
    exfalso; omega
  · have c1 := mt (bI_0).mpr c1
    have c1 := Classical.not_not.mp c1
    refine lv_iload_n hx hb d_MO_burn_14 rfl (lv_at hl 2 rfl) ?_
    refine lv_iconst (v := nI 0) hx hb d_MO_burn_15 (by decide +kernel) ?_
    refine lv_iconst (v := nI 3) hx hb d_MO_burn_16 (by decide +kernel) ?_
    refine kr_iS (As := [.int (nI p9), .int (nI 0), .int (nI 3)]) (rest := []) ⟨hx, hb, hml, hown, hts⟩ (c_MO_within l D k p9 0 3 (by omega) (by omega) (by omega)) (va_cwS 3 hts (gS w_587 w_588 w_5 w_589) rfl rfl rfl (by decide +kernel) ⟨Nat.le_of_ble_eq_true rfl, Nat.le_of_ble_eq_true rfl⟩) hK va_nil rfl hl.1 rfl (Nat.le_of_ble_eq_true rfl) d_MO_burn_17 ⟨Nat.zero_le _, Nat.zero_le _⟩ ?_
    refine lv_if_eq (tgt := 35) hx hb d_MO_burn_20 (by decide) (fun c2 => ?_) (fun c2 => ?_)
    · have c2 := (bI_0).mp c2
      exfalso; omega
    · have c2 := mt (bI_0).mpr c2
      have c2 := Classical.not_not.mp c2
      refine lv_iload hx hb d_MO_burn_23 (lv_at hl 4 rfl) ?_
      refine lv_iconst (v := nI 0) hx hb d_MO_burn_25 (by decide +kernel) ?_
      refine lv_sipush (v := nI 255) hx hb d_MO_burn_26 (by decide +kernel) ?_
      refine kr_iS (As := [.int (nI v), .int (nI 0), .int (nI 255)]) (rest := []) ⟨hx, hb, hml, hown, hts⟩ (c_MO_within l D k v 0 255 (by omega) (by omega) (by omega)) (va_cwS 3 hts (gS w_587 w_588 w_5 w_589) rfl rfl rfl (by decide +kernel) ⟨Nat.le_of_ble_eq_true rfl, Nat.le_of_ble_eq_true rfl⟩) hK va_nil rfl hl.1 rfl (Nat.le_of_ble_eq_true rfl) d_MO_burn_29 ⟨Nat.zero_le _, Nat.zero_le _⟩ ?_
      refine lv_if_ne (tgt := 37) hx hb d_MO_burn_32 (by decide) (fun c3 => ?_) (fun c3 => ?_)
      · have c3 := mt (bI_0).mpr c3
        have c3 := Classical.not_not.mp c3
        refine lv_iconst (v := nI 4) hx hb d_MO_burn_37 (by decide +kernel) ?_
        refine lv_iload_n hx hb d_MO_burn_38 rfl (lv_at hl 1 rfl) ?_
        refine lv_imul hx hb d_MO_burn_39 ?_
        refine ss_rt (y := nI (4 * s9)) (pk_mul _ _) ?_
        refine lv_iload_n hx hb d_MO_burn_40 rfl (lv_at hl 2 rfl) ?_
        refine lv_iadd hx hb d_MO_burn_41 ?_
        refine ss_rt (y := nI (4 * s9 + p9)) (nI_add _ _) ?_
        refine lv_istore (lv' := [(5, .int (nI (4 * s9 + p9))), (0, .ref (q 0)), (1, .int (nI s9)), (2, .int (nI p9)), (3, .int x), (4, .int (nI v))]) hx hb d_MO_burn_42 hl (by decide) rfl (fun ls hl => ?_)
        refine lv_aload_n hx hb d_MO_burn_44 rfl (lv_at hl 1 rfl) ?_
        refine va_get (D := D) (ci := 7) (v := .ref (q 3)) (C := R_MO) (T := T_MO) (N := 16) hx hb hts in_MO hown hK hP 0 rfl rfl 3 (by decide) (hts _ w_533) (fun _ h9 => h9) rfl d_MO_burn_45 ?_
        refine lv_iload hx hb d_MO_burn_48 (lv_at hl 0 rfl) ?_
        refine va_iald hx hb hK hP 3 0 rfl rfl (vp_in_nI (by omega) (by omega)) d_MO_burn_50 ?_
        refine ss_rt (y := nI (kd (4 * s9 + p9))) (congrArg (fun z => nI (kd z)) (nI_clamp (by omega))) ?_
        have g4 := hkd (4 * s9 + p9)
        refine lv_iconst (v := nI 2) hx hb d_MO_burn_51 (by decide +kernel) ?_
        refine lv_icmp_ne (tgt := 61) hx hb d_MO_burn_52 (by decide) (fun c5 => ?_) (fun c5 => ?_)
        · have c5 := mt (nI_eq (by omega) (by omega)).mpr c5
          refine lv_aload_n hx hb d_MO_burn_61 rfl (lv_at hl 1 rfl) ?_
          refine va_get (D := D) (ci := 7) (v := .ref (q 3)) (C := R_MO) (T := T_MO) (N := 16) hx hb hts in_MO hown hK hP 0 rfl rfl 3 (by decide) (hts _ w_533) (fun _ h9 => h9) rfl d_MO_burn_62 ?_
          refine lv_iload hx hb d_MO_burn_65 (lv_at hl 0 rfl) ?_
          refine va_iald hx hb hK hP 3 0 rfl rfl (vp_in_nI (by omega) (by omega)) d_MO_burn_67 ?_
          refine ss_rt (y := nI (kd (4 * s9 + p9))) (congrArg (fun z => nI (kd z)) (nI_clamp (by omega))) ?_
          have g6 := hkd (4 * s9 + p9)
          refine lv_iconst (v := nI 3) hx hb d_MO_burn_68 (by decide +kernel) ?_
          refine lv_icmp_ne (tgt := 85) hx hb d_MO_burn_69 (by decide) (fun c7 => ?_) (fun c7 => ?_)
          · have c7 := mt (nI_eq (by omega) (by omega)).mpr c7
            exfalso; omega
          · have c7 := (nI_eq (by omega) (by omega)).mp c7
            refine lv_bipush (v := nI 32) hx hb d_MO_burn_72 (by decide +kernel) ?_
            refine lv_aload_n hx hb d_MO_burn_74 rfl (lv_at hl 1 rfl) ?_
            refine va_get (D := D) (ci := 7) (v := .ref (q 4)) (C := R_MO) (T := T_MO) (N := 16) hx hb hts in_MO hown hK hP 0 rfl rfl 4 (by decide) (hts _ w_534) (fun _ h9 => h9) rfl d_MO_burn_75 ?_
            refine lv_iload hx hb d_MO_burn_78 (lv_at hl 0 rfl) ?_
            refine va_iald hx hb hK hP 4 0 rfl rfl (vp_in_nI (by omega) (by omega)) d_MO_burn_80 ?_
            refine ss_rt (y := bn (4 * s9 + p9)) (congrArg bn (nI_clamp (by omega))) ?_
            refine ss_rt (y := nI n) hbn ?_
            refine lv_imul hx hb d_MO_burn_81 ?_
            refine ss_rt (y := nI (32 * n)) (pk_mul _ _) ?_
            refine lv_goto (tgt := 86) hx hb d_MO_burn_82 (by decide) ?_
            refine lv_istore (lv' := [(6, .int (nI (32 * n))), (5, .int (nI (4 * s9 + p9))), (0, .ref (q 0)), (1, .int (nI s9)), (2, .int (nI p9)), (3, .int x), (4, .int (nI v))]) hx hb d_MO_burn_86 hl (by decide) rfl (fun ls hl => ?_)
            refine lv_iload_n hx hb d_MO_burn_88 rfl (lv_at hl 5 rfl) ?_
            refine lv_if_lt (tgt := 98) hx hb d_MO_burn_89 (by decide) (fun c8 => ?_) (fun c8 => ?_)
            · have c8 := (z_lt0).mp c8
              refine lv_iconst (v := nI 0) hx hb d_MO_burn_98 (by decide +kernel) ?_
              exact rw_retz hx hb hr hlocks d_MO_burn_99 (by decide +kernel) hS () (rfl) hP
            · have c8 := mt (z_lt0).mpr c8
              refine lv_iload_n hx hb d_MO_burn_92 rfl (lv_at hl 5 rfl) ?_
              refine lv_iload hx hb d_MO_burn_93 (lv_at hl 0 rfl) ?_
              refine lv_icmp_lt (tgt := 100) hx hb d_MO_burn_95 (by decide) (fun c9 => ?_) (fun c9 => ?_)
              · have c9 := (zn_lt (by omega)).mp c9
                exfalso; omega
              · have c9 := mt (zn_lt (by omega)).mpr c9
                refine lv_iconst (v := nI 0) hx hb d_MO_burn_98 (by decide +kernel) ?_
                exact rw_retz hx hb hr hlocks d_MO_burn_99 (by decide +kernel) hS () (rfl) hP
        · have c5 := (nI_eq (by omega) (by omega)).mp c5
          exfalso; omega
      · have c3 := (bI_0).mp c3
        exfalso; omega
set_option maxHeartbeats 4000000 in
set_option maxRecDepth 100000 in
theorem c_MO_burno (l : Launch) (D : va_G) (k : Nat → ClassId) (q : Nat → Nat) (cd : Int32) (wd : Nat → Nat) (se : Nat → Nat) (kd : Nat → Nat) (bn : Nat → Int32) (sh : Nat → Nat) (mb : Nat → Nat) (pr : Nat) (B : Nat → Nat) (R : Nat → Nat) (sx : Nat) (pt : Nat) (rd : Nat) (wt : Int32) (ln : Nat) (px : Nat → Nat) (hkd : ∀ j, kd j < 5) (hmb : ∀ j, mb j < 256) (s9 p9 v : Nat) (hs9 : s9 < 4) (hp9 : p9 < 4) (hv : v < 256) (hk : kd (4 * s9 + p9) ≠ 2 ∧ kd (4 * s9 + p9) ≠ 3) (x : Int32) : rw_i l y_MO_burn b_MO_burn 7 (some .boolean) { frames := 1, cells := 0, slots := 0, locals := 22 } D (kT k) (mW q k cd wd se kd bn sh mb pr B R sx pt rd wt ln px) [.ref (q 0), .int (nI s9), .int (nI p9), .int x, .int (nI v)] (fun (r : Int32) (_ : Unit) => r = nI 0) (fun (_ : Unit) => (mW q k (nI 0) wd se kd bn sh mb pr B R sx pt rd wt ln px)) := by
  refine rw_headi (by decide) (Nat.le_of_ble_eq_true rfl) ?_
  intro p e s m below meth c ls A hx hb hr hlocks hml hown hts hK hA hP hD hS hl
  have hown : s.vm.findClass "SlotScreenModel" = some m.cls := hown
  have hl : lv_has ls 7 [(0, .ref (q 0)), (1, .int (nI s9)), (2, .int (nI p9)), (3, .int x), (4, .int (nI v))] := hl
  refine lv_aload_n hx hb d_MO_burn_0 rfl (lv_at hl 0 rfl) ?_
  refine lv_iconst (v := nI 0) hx hb d_MO_burn_1 (by decide +kernel) ?_
  refine va_put (D := D) (ci := 7) (v := .int (nI 0)) (ty := .int) (C := R_MO) (T := T_MO) (N := 16) hx hb hts in_MO t_MO o_MO n_MO hown hK hP hD hS 0 rfl rfl 0 (by decide) (hts _ w_530) (fun _ h9 => h9) rfl (by decide +kernel) rfl rfl (Nat.le_of_ble_eq_true rfl) d_MO_burn_2 (fun H locs hP hD hS => ?_)
  have hP : va_P D vwCl (mW q k (nI 0) wd se kd bn sh mb pr B R sx pt rd wt ln px) _ := hP
  have hD : va_D A (mW q k (nI 0) wd se kd bn sh mb pr B R sx pt rd wt ln px) := hD
  refine lv_iload_n hx hb d_MO_burn_5 rfl (lv_at hl 1 rfl) ?_
  refine lv_iconst (v := nI 0) hx hb d_MO_burn_6 (by decide +kernel) ?_
  refine lv_iconst (v := nI 3) hx hb d_MO_burn_7 (by decide +kernel) ?_
  refine kr_iS (As := [.int (nI s9), .int (nI 0), .int (nI 3)]) (rest := []) ⟨hx, hb, hml, hown, hts⟩ (c_MO_within l D k s9 0 3 (by omega) (by omega) (by omega)) (va_cwS 3 hts (gS w_587 w_588 w_5 w_589) rfl rfl rfl (by decide +kernel) ⟨Nat.le_of_ble_eq_true rfl, Nat.le_of_ble_eq_true rfl⟩) hK va_nil rfl hl.1 rfl (Nat.le_of_ble_eq_true rfl) d_MO_burn_8 ⟨Nat.zero_le _, Nat.zero_le _⟩ ?_
  refine lv_if_eq (tgt := 35) hx hb d_MO_burn_11 (by decide) (fun c1 => ?_) (fun c1 => ?_)
  · have c1 := (bI_0).mp c1
    exfalso; omega
  · have c1 := mt (bI_0).mpr c1
    have c1 := Classical.not_not.mp c1
    refine lv_iload_n hx hb d_MO_burn_14 rfl (lv_at hl 2 rfl) ?_
    refine lv_iconst (v := nI 0) hx hb d_MO_burn_15 (by decide +kernel) ?_
    refine lv_iconst (v := nI 3) hx hb d_MO_burn_16 (by decide +kernel) ?_
    refine kr_iS (As := [.int (nI p9), .int (nI 0), .int (nI 3)]) (rest := []) ⟨hx, hb, hml, hown, hts⟩ (c_MO_within l D k p9 0 3 (by omega) (by omega) (by omega)) (va_cwS 3 hts (gS w_587 w_588 w_5 w_589) rfl rfl rfl (by decide +kernel) ⟨Nat.le_of_ble_eq_true rfl, Nat.le_of_ble_eq_true rfl⟩) hK va_nil rfl hl.1 rfl (Nat.le_of_ble_eq_true rfl) d_MO_burn_17 ⟨Nat.zero_le _, Nat.zero_le _⟩ ?_
    refine lv_if_eq (tgt := 35) hx hb d_MO_burn_20 (by decide) (fun c2 => ?_) (fun c2 => ?_)
    · have c2 := (bI_0).mp c2
      exfalso; omega
    · have c2 := mt (bI_0).mpr c2
      have c2 := Classical.not_not.mp c2
      refine lv_iload hx hb d_MO_burn_23 (lv_at hl 4 rfl) ?_
      refine lv_iconst (v := nI 0) hx hb d_MO_burn_25 (by decide +kernel) ?_
      refine lv_sipush (v := nI 255) hx hb d_MO_burn_26 (by decide +kernel) ?_
      refine kr_iS (As := [.int (nI v), .int (nI 0), .int (nI 255)]) (rest := []) ⟨hx, hb, hml, hown, hts⟩ (c_MO_within l D k v 0 255 (by omega) (by omega) (by omega)) (va_cwS 3 hts (gS w_587 w_588 w_5 w_589) rfl rfl rfl (by decide +kernel) ⟨Nat.le_of_ble_eq_true rfl, Nat.le_of_ble_eq_true rfl⟩) hK va_nil rfl hl.1 rfl (Nat.le_of_ble_eq_true rfl) d_MO_burn_29 ⟨Nat.zero_le _, Nat.zero_le _⟩ ?_
      refine lv_if_ne (tgt := 37) hx hb d_MO_burn_32 (by decide) (fun c3 => ?_) (fun c3 => ?_)
      · have c3 := mt (bI_0).mpr c3
        have c3 := Classical.not_not.mp c3
        refine lv_iconst (v := nI 4) hx hb d_MO_burn_37 (by decide +kernel) ?_
        refine lv_iload_n hx hb d_MO_burn_38 rfl (lv_at hl 1 rfl) ?_
        refine lv_imul hx hb d_MO_burn_39 ?_
        refine ss_rt (y := nI (4 * s9)) (pk_mul _ _) ?_
        refine lv_iload_n hx hb d_MO_burn_40 rfl (lv_at hl 2 rfl) ?_
        refine lv_iadd hx hb d_MO_burn_41 ?_
        refine ss_rt (y := nI (4 * s9 + p9)) (nI_add _ _) ?_
        refine lv_istore (lv' := [(5, .int (nI (4 * s9 + p9))), (0, .ref (q 0)), (1, .int (nI s9)), (2, .int (nI p9)), (3, .int x), (4, .int (nI v))]) hx hb d_MO_burn_42 hl (by decide) rfl (fun ls hl => ?_)
        refine lv_aload_n hx hb d_MO_burn_44 rfl (lv_at hl 1 rfl) ?_
        refine va_get (D := D) (ci := 7) (v := .ref (q 3)) (C := R_MO) (T := T_MO) (N := 16) hx hb hts in_MO hown hK hP 0 rfl rfl 3 (by decide) (hts _ w_533) (fun _ h9 => h9) rfl d_MO_burn_45 ?_
        refine lv_iload hx hb d_MO_burn_48 (lv_at hl 0 rfl) ?_
        refine va_iald hx hb hK hP 3 0 rfl rfl (vp_in_nI (by omega) (by omega)) d_MO_burn_50 ?_
        refine ss_rt (y := nI (kd (4 * s9 + p9))) (congrArg (fun z => nI (kd z)) (nI_clamp (by omega))) ?_
        have g4 := hkd (4 * s9 + p9)
        refine lv_iconst (v := nI 2) hx hb d_MO_burn_51 (by decide +kernel) ?_
        refine lv_icmp_ne (tgt := 61) hx hb d_MO_burn_52 (by decide) (fun c5 => ?_) (fun c5 => ?_)
        · have c5 := mt (nI_eq (by omega) (by omega)).mpr c5
          refine lv_aload_n hx hb d_MO_burn_61 rfl (lv_at hl 1 rfl) ?_
          refine va_get (D := D) (ci := 7) (v := .ref (q 3)) (C := R_MO) (T := T_MO) (N := 16) hx hb hts in_MO hown hK hP 0 rfl rfl 3 (by decide) (hts _ w_533) (fun _ h9 => h9) rfl d_MO_burn_62 ?_
          refine lv_iload hx hb d_MO_burn_65 (lv_at hl 0 rfl) ?_
          refine va_iald hx hb hK hP 3 0 rfl rfl (vp_in_nI (by omega) (by omega)) d_MO_burn_67 ?_
          refine ss_rt (y := nI (kd (4 * s9 + p9))) (congrArg (fun z => nI (kd z)) (nI_clamp (by omega))) ?_
          have g6 := hkd (4 * s9 + p9)
          refine lv_iconst (v := nI 3) hx hb d_MO_burn_68 (by decide +kernel) ?_
          refine lv_icmp_ne (tgt := 85) hx hb d_MO_burn_69 (by decide) (fun c7 => ?_) (fun c7 => ?_)
          · have c7 := mt (nI_eq (by omega) (by omega)).mpr c7
            refine lv_iconst (v := nI 0) hx hb d_MO_burn_85 (by decide +kernel) ?_
            refine lv_istore (lv' := [(6, .int (nI 0)), (5, .int (nI (4 * s9 + p9))), (0, .ref (q 0)), (1, .int (nI s9)), (2, .int (nI p9)), (3, .int x), (4, .int (nI v))]) hx hb d_MO_burn_86 hl (by decide) rfl (fun ls hl => ?_)
            refine lv_iload_n hx hb d_MO_burn_88 rfl (lv_at hl 5 rfl) ?_
            refine lv_if_lt (tgt := 98) hx hb d_MO_burn_89 (by decide) (fun c8 => ?_) (fun c8 => ?_)
            · have c8 := (z_lt0).mp c8
              refine lv_iconst (v := nI 0) hx hb d_MO_burn_98 (by decide +kernel) ?_
              exact rw_retz hx hb hr hlocks d_MO_burn_99 (by decide +kernel) hS () (rfl) hP
            · have c8 := mt (z_lt0).mpr c8
              refine lv_iload_n hx hb d_MO_burn_92 rfl (lv_at hl 5 rfl) ?_
              refine lv_iload hx hb d_MO_burn_93 (lv_at hl 0 rfl) ?_
              refine lv_icmp_lt (tgt := 100) hx hb d_MO_burn_95 (by decide) (fun c9 => ?_) (fun c9 => ?_)
              · have c9 := (zn_lt (by omega)).mp c9
                exfalso; omega
              · have c9 := mt (zn_lt (by omega)).mpr c9
                refine lv_iconst (v := nI 0) hx hb d_MO_burn_98 (by decide +kernel) ?_
                exact rw_retz hx hb hr hlocks d_MO_burn_99 (by decide +kernel) hS () (rfl) hP
          · have c7 := (nI_eq (by omega) (by omega)).mp c7
            exfalso; omega
        · have c5 := (nI_eq (by omega) (by omega)).mp c5
          exfalso; omega
      · have c3 := (bI_0).mp c3
        exfalso; omega
