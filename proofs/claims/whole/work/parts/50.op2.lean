set_option maxHeartbeats 4000000 in
set_option maxRecDepth 100000 in
theorem L_in {p : Program} {l : Launch} {e : Env} {s : State} {m : MethodId} {below : List Frame} {meth : Method} {c : Code} {b L : Nat} {xs : Nat → Int32} {D : va_G} {k : Nat → ClassId} {A : Nat → Prop} {Q : State → Prop} {qm qs : Nat → Nat} {ob : Nat} (C : LC p l s m meth c b L xs D k A) (i : Nat) (hi : 5 * i + 5 ≤ L) (ih : LG p l e s m below meth c b D k A Q qm qs ob (i + 1)) (cd : Int32) (gd : Nat → Option Nat) (wd : Nat → Nat) (se : Nat → Nat) (pr : Nat) (ln : Nat) (px : Nat → Nat) (cv : Nat) (co : Nat) (B : Nat → Nat) (R : Nat → Nat) (sx : Nat) (pt : Nat) (rd : Nat) (wt : Int32) (od : List Nat) (ad : Nat → Nat) (bd : Nat → Nat) (ed : Nat → Nat) (kd : Nat → Nat) (nb : Nat → Nat) (sh : Nat → Nat) (mb : Nat → Nat) (bn : Nat → Int32) (of : Nat → Int64) (H : Heap) (locs : List Loc) (ls : Array Slot) (hF : LF gd wd se pr ln B R sx pt wt od ad kd nb sh mb bn) (hP : va_P D vwCl ((mW qm k cd wd se kd bn sh mb pr B R sx pt rd wt ln px) ++ (ouW k ob of ++ ((ssW qs k gd wd se pr ln px cv co B R sx pt rd wt) ++ (plW od k ad bd ed kd nb sh mb)))) H) (hD : va_D A ((mW qm k cd wd se kd bn sh mb pr B R sx pt rd wt ln px) ++ (ouW k ob of ++ ((ssW qs k gd wd se pr ln px cv co B R sx pt rd wt) ++ (plW od k ad bd ed kd nb sh mb))))) (hS : va_S A s.heap H locs) (hl : lv_has ls 7 [(4, .int (nI (5 * i))), (0, .ref b), (1, .ref (qs 0)), (2, .ref (qm 0)), (3, .ref ob)]) : W p l e room_1 s m #[Value.ref b] below meth c H locs (21 + 3 * i) (9395 + 263 * i) Q (F0 m 461 ls []) := by
  obtain ⟨hx, hb, hr, hlocks, hml, hown, hts, hX, hT, hU, hK, hA, hsc, hbl, hbA, hl9, hL⟩ := C
  obtain ⟨hwd, hse, hpr, hln, hB, hR, hsx, hpt, hwt, hO, hkd, hsh, hmb, hbn, hz⟩ := hF
  obtain ⟨x1, hx1⟩ : ∃ z, z = xs (5 * i + 1) := ⟨_, rfl⟩
  by_cases e0 : x1.toInt = ((0 : Nat) : Int)
  · obtain rfl := (zn_eq (by omega)).mpr e0
    refine lv_aload_n hx hb d_LW_law_461 rfl (lv_at hl 2 rfl) ?_
    refine lv_aload_n hx hb d_LW_law_462 rfl (lv_at hl 1 rfl) ?_
    refine lv_iload hx hb d_LW_law_463 (lv_at hl 0 rfl) ?_
    refine lv_iconst (v := nI 1) hx hb d_LW_law_465 (by decide +kernel) ?_
    refine lv_iadd hx hb d_LW_law_466 ?_
    refine ss_rt (y := nI (5 * i + 1)) (nI_add _ _) ?_
    refine va_sld hx hb hsc hbl hbA hS (vp_in_nI (by omega) (by omega)) d_LW_law_467 ?_
    refine ss_rt (y := nI 0) (by rw [nI_clamp (by omega)]; exact hx1.symm) ?_
    have hPc : va_P D vwCl (ssW qs k gd wd se pr ln px cv co B R sx pt rd wt) _ := va_subP (a := (mW qm k cd wd se kd bn sh mb pr B R sx pt rd wt ln px) ++ ouW k ob of) (b := (ssW qs k gd wd se pr ln px cv co B R sx pt rd wt)) (c := (plW od k ad bd ed kd nb sh mb)) hP
    have hDc : va_D A (ssW qs k gd wd se pr ln px cv co B R sx pt rd wt) := va_subD (a := (mW qm k cd wd se kd bn sh mb pr B R sx pt rd wt ln px) ++ ouW k ob of) (b := (ssW qs k gd wd se pr ln px cv co B R sx pt rd wt)) (c := (plW od k ad bd ed kd nb sh mb)) hD
    refine kw_iV (As := [.int (nI 0)]) (rest := []) ⟨hx, hb, hml, hown, hts⟩ (c_SS_in0 l D k qs gd wd se pr ln px cv co B R sx pt rd wt hpt) (cwV 1 hts (gV w_134 w_135 w_136 w_1 w_137) rfl rfl rfl (by decide +kernel) ⟨Nat.le_of_ble_eq_true rfl, Nat.le_of_ble_eq_true rfl⟩) hK hPc hDc hS hA (va_recv hK hPc (ci := 0) (q0 := 0) rfl rfl) rfl hl.1 rfl (Nat.le_of_ble_eq_true rfl) d_LW_law_468 ⟨by show 21 + 3 * i ≤ 601024; omega, by show 9395 + 263 * i ≤ 7293034; omega⟩ (fun _ u9 H9 locs h9 hP1 hk1 hS9 => ?_)
    subst h9
    obtain ⟨hP, hD⟩ := fr_mid (a := (mW qm k cd wd se kd bn sh mb pr B R sx pt rd wt ln px) ++ ouW k ob of) (b := (ssW qs k gd wd se pr ln px cv co B R sx pt rd wt)) (c := (plW od k ad bd ed kd nb sh mb)) (b' := (ssW qs k gd wd se pr ln px cv co B R sx ((pt + 1) % 512) (B pt) (-1))) hP hD hk1 (fun q h => hA q (Nat.le_trans hS.1 h)) hP1 (rw_same hDc.self rfl)
    clear hP1 hk1 hPc hDc
    have hS := hS9
    clear hS9
    generalize H9 = H at hP hS ⊢
    have hP : va_P D vwCl ((mW qm k cd wd se kd bn sh mb pr B R sx pt rd wt ln px) ++ (ouW k ob of ++ ((ssW qs k gd wd se pr ln px cv co B R sx ((pt + 1) % 512) (B pt) (-1)) ++ (plW od k ad bd ed kd nb sh mb)))) _ := hP
    have hD : va_D A ((mW qm k cd wd se kd bn sh mb pr B R sx pt rd wt ln px) ++ (ouW k ob of ++ ((ssW qs k gd wd se pr ln px cv co B R sx ((pt + 1) % 512) (B pt) (-1)) ++ (plW od k ad bd ed kd nb sh mb)))) := hD
    refine lv_aload_n hx hb d_LW_law_471 rfl (lv_at hl 3 rfl) ?_
    refine lv_aload_n hx hb d_LW_law_472 rfl (lv_at hl 1 rfl) ?_
    refine lv_iload hx hb d_LW_law_473 (lv_at hl 0 rfl) ?_
    refine lv_iconst (v := nI 1) hx hb d_LW_law_475 (by decide +kernel) ?_
    refine lv_iadd hx hb d_LW_law_476 ?_
    refine ss_rt (y := nI (5 * i + 1)) (nI_add _ _) ?_
    refine va_sld hx hb hsc hbl hbA hS (vp_in_nI (by omega) (by omega)) d_LW_law_477 ?_
    refine ss_rt (y := nI 0) (by rw [nI_clamp (by omega)]; exact hx1.symm) ?_
    have hPc : va_P D vwCl (mW qm k cd wd se kd bn sh mb pr B R sx pt rd wt ln px) _ := va_subP (a := []) (b := (mW qm k cd wd se kd bn sh mb pr B R sx pt rd wt ln px)) (c := ouW k ob of ++ ((ssW qs k gd wd se pr ln px cv co B R sx ((pt + 1) % 512) (B pt) (-1)) ++ (plW od k ad bd ed kd nb sh mb))) hP
    have hDc : va_D A (mW qm k cd wd se kd bn sh mb pr B R sx pt rd wt ln px) := va_subD (a := []) (b := (mW qm k cd wd se kd bn sh mb pr B R sx pt rd wt ln px)) (c := ouW k ob of ++ ((ssW qs k gd wd se pr ln px cv co B R sx ((pt + 1) % 512) (B pt) (-1)) ++ (plW od k ad bd ed kd nb sh mb))) hD
    refine kw_iV (As := [.int (nI 0)]) (rest := [.int (nI rd)]) ⟨hx, hb, hml, hown, hts⟩ (c_MO_in0 l D k qm cd wd se kd bn sh mb pr B R sx pt rd wt ln px hpt) (cwV 1 hts (gV w_629 w_630 w_631 w_5 w_632) rfl rfl rfl (by decide +kernel) ⟨Nat.le_of_ble_eq_true rfl, Nat.le_of_ble_eq_true rfl⟩) hK hPc hDc hS hA (va_recv hK hPc (ci := 7) (q0 := 0) rfl rfl) rfl hl.1 rfl (Nat.le_of_ble_eq_true rfl) d_LW_law_478 ⟨by show 21 + 3 * i ≤ 601024; omega, by show 9395 + 263 * i ≤ 7293034; omega⟩ (fun _ _ H9 locs h9 hP1 hk1 hS9 => ?_)
    refine ss_rt h9 ?_
    clear h9
    obtain ⟨hP, hD⟩ := fr_mid (a := []) (b := (mW qm k cd wd se kd bn sh mb pr B R sx pt rd wt ln px)) (c := ouW k ob of ++ ((ssW qs k gd wd se pr ln px cv co B R sx ((pt + 1) % 512) (B pt) (-1)) ++ (plW od k ad bd ed kd nb sh mb))) (b' := (mW qm k (nI 0) wd se kd bn sh mb pr B R sx ((pt + 1) % 512) (B pt) (-1) ln px)) hP hD hk1 (fun q h => hA q (Nat.le_trans hS.1 h)) hP1 (rw_same hDc.self rfl)
    clear hP1 hk1 hPc hDc
    have hS := hS9
    clear hS9
    generalize H9 = H at hP hS ⊢
    have hP : va_P D vwCl ((mW qm k (nI 0) wd se kd bn sh mb pr B R sx ((pt + 1) % 512) (B pt) (-1) ln px) ++ (ouW k ob of ++ ((ssW qs k gd wd se pr ln px cv co B R sx ((pt + 1) % 512) (B pt) (-1)) ++ (plW od k ad bd ed kd nb sh mb)))) _ := hP
    have hD : va_D A ((mW qm k (nI 0) wd se kd bn sh mb pr B R sx ((pt + 1) % 512) (B pt) (-1) ln px) ++ (ouW k ob of ++ ((ssW qs k gd wd se pr ln px cv co B R sx ((pt + 1) % 512) (B pt) (-1)) ++ (plW od k ad bd ed kd nb sh mb)))) := hD
    refine lv_icmp_eq (tgt := 661) hx hb d_LW_law_481 (by decide) (fun c1 => ?_) (fun c1 => ?_)
    · have c1 := (Int32.toInt_inj.symm).mp c1
      refine lv_iinc (v := nI (5 * (i + 1))) (lv' := [(4, .int (nI (5 * (i + 1)))), (0, .ref b), (1, .ref (qs 0)), (2, .ref (qm 0)), (3, .ref ob)]) hx hb d_LW_law_661 hl (k := 0) rfl ((nI_add (5 * i) 5).trans (by rw [Nat.mul_succ])) (by decide) rfl (fun ls hl => ?_)
      refine lv_goto (tgt := 23) hx hb d_LW_law_664 (by decide) ?_
      refine W.widen (k := 21 + 3 * (i + 1)) (n := 9395 + 263 * (i + 1)) (by show 21 + 3 * i ≤ _; omega) (by show 9395 + 263 * i ≤ _; omega) ?_
      exact ih (nI 0) gd wd se pr ln px cv co B R sx ((pt + 1) % 512) (B pt) (-1) od ad bd ed kd nb sh mb bn of _ _ _ ⟨hwd, hse, hpr, hln, hB, hR, hsx, Nat.mod_lt _ (by omega), Or.inl rfl, hO, hkd, hsh, hmb, hbn, hz⟩ hP hD hS (lv_sub hl [0, 1, 2, 3, 4] rfl)
    · have c1 := mt (Int32.toInt_inj.symm).mpr c1
      exfalso; omega
  by_cases e1 : x1.toInt = ((1 : Nat) : Int)
  · obtain rfl := (zn_eq (by omega)).mpr e1
    refine lv_aload_n hx hb d_LW_law_461 rfl (lv_at hl 2 rfl) ?_
    refine lv_aload_n hx hb d_LW_law_462 rfl (lv_at hl 1 rfl) ?_
    refine lv_iload hx hb d_LW_law_463 (lv_at hl 0 rfl) ?_
    refine lv_iconst (v := nI 1) hx hb d_LW_law_465 (by decide +kernel) ?_
    refine lv_iadd hx hb d_LW_law_466 ?_
    refine ss_rt (y := nI (5 * i + 1)) (nI_add _ _) ?_
    refine va_sld hx hb hsc hbl hbA hS (vp_in_nI (by omega) (by omega)) d_LW_law_467 ?_
    refine ss_rt (y := nI 1) (by rw [nI_clamp (by omega)]; exact hx1.symm) ?_
    have hPc : va_P D vwCl (ssW qs k gd wd se pr ln px cv co B R sx pt rd wt) _ := va_subP (a := (mW qm k cd wd se kd bn sh mb pr B R sx pt rd wt ln px) ++ ouW k ob of) (b := (ssW qs k gd wd se pr ln px cv co B R sx pt rd wt)) (c := (plW od k ad bd ed kd nb sh mb)) hP
    have hDc : va_D A (ssW qs k gd wd se pr ln px cv co B R sx pt rd wt) := va_subD (a := (mW qm k cd wd se kd bn sh mb pr B R sx pt rd wt ln px) ++ ouW k ob of) (b := (ssW qs k gd wd se pr ln px cv co B R sx pt rd wt)) (c := (plW od k ad bd ed kd nb sh mb)) hD
    refine kw_iV (As := [.int (nI 1)]) (rest := []) ⟨hx, hb, hml, hown, hts⟩ (c_SS_in1 l D k qs gd wd se pr ln px cv co B R sx pt rd wt hsx) (cwV 1 hts (gV w_134 w_135 w_136 w_1 w_137) rfl rfl rfl (by decide +kernel) ⟨Nat.le_of_ble_eq_true rfl, Nat.le_of_ble_eq_true rfl⟩) hK hPc hDc hS hA (va_recv hK hPc (ci := 0) (q0 := 0) rfl rfl) rfl hl.1 rfl (Nat.le_of_ble_eq_true rfl) d_LW_law_468 ⟨by show 21 + 3 * i ≤ 601024; omega, by show 9395 + 263 * i ≤ 7293034; omega⟩ (fun _ u9 H9 locs h9 hP1 hk1 hS9 => ?_)
    subst h9
    obtain ⟨hP, hD⟩ := fr_mid (a := (mW qm k cd wd se kd bn sh mb pr B R sx pt rd wt ln px) ++ ouW k ob of) (b := (ssW qs k gd wd se pr ln px cv co B R sx pt rd wt)) (c := (plW od k ad bd ed kd nb sh mb)) (b' := (ssW qs k gd wd se pr ln px cv co B R (sx % 32) pt rd (-1))) hP hD hk1 (fun q h => hA q (Nat.le_trans hS.1 h)) hP1 (rw_same hDc.self rfl)
    clear hP1 hk1 hPc hDc
    have hS := hS9
    clear hS9
    generalize H9 = H at hP hS ⊢
    have hP : va_P D vwCl ((mW qm k cd wd se kd bn sh mb pr B R sx pt rd wt ln px) ++ (ouW k ob of ++ ((ssW qs k gd wd se pr ln px cv co B R (sx % 32) pt rd (-1)) ++ (plW od k ad bd ed kd nb sh mb)))) _ := hP
    have hD : va_D A ((mW qm k cd wd se kd bn sh mb pr B R sx pt rd wt ln px) ++ (ouW k ob of ++ ((ssW qs k gd wd se pr ln px cv co B R (sx % 32) pt rd (-1)) ++ (plW od k ad bd ed kd nb sh mb)))) := hD
    refine lv_aload_n hx hb d_LW_law_471 rfl (lv_at hl 3 rfl) ?_
    refine lv_aload_n hx hb d_LW_law_472 rfl (lv_at hl 1 rfl) ?_
    refine lv_iload hx hb d_LW_law_473 (lv_at hl 0 rfl) ?_
    refine lv_iconst (v := nI 1) hx hb d_LW_law_475 (by decide +kernel) ?_
    refine lv_iadd hx hb d_LW_law_476 ?_
    refine ss_rt (y := nI (5 * i + 1)) (nI_add _ _) ?_
    refine va_sld hx hb hsc hbl hbA hS (vp_in_nI (by omega) (by omega)) d_LW_law_477 ?_
    refine ss_rt (y := nI 1) (by rw [nI_clamp (by omega)]; exact hx1.symm) ?_
    have hPc : va_P D vwCl (mW qm k cd wd se kd bn sh mb pr B R sx pt rd wt ln px) _ := va_subP (a := []) (b := (mW qm k cd wd se kd bn sh mb pr B R sx pt rd wt ln px)) (c := ouW k ob of ++ ((ssW qs k gd wd se pr ln px cv co B R (sx % 32) pt rd (-1)) ++ (plW od k ad bd ed kd nb sh mb))) hP
    have hDc : va_D A (mW qm k cd wd se kd bn sh mb pr B R sx pt rd wt ln px) := va_subD (a := []) (b := (mW qm k cd wd se kd bn sh mb pr B R sx pt rd wt ln px)) (c := ouW k ob of ++ ((ssW qs k gd wd se pr ln px cv co B R (sx % 32) pt rd (-1)) ++ (plW od k ad bd ed kd nb sh mb))) hD
    refine kw_iV (As := [.int (nI 1)]) (rest := [.int (nI sx)]) ⟨hx, hb, hml, hown, hts⟩ (c_MO_in1 l D k qm cd wd se kd bn sh mb pr B R sx pt rd wt ln px hsx) (cwV 1 hts (gV w_629 w_630 w_631 w_5 w_632) rfl rfl rfl (by decide +kernel) ⟨Nat.le_of_ble_eq_true rfl, Nat.le_of_ble_eq_true rfl⟩) hK hPc hDc hS hA (va_recv hK hPc (ci := 7) (q0 := 0) rfl rfl) rfl hl.1 rfl (Nat.le_of_ble_eq_true rfl) d_LW_law_478 ⟨by show 21 + 3 * i ≤ 601024; omega, by show 9395 + 263 * i ≤ 7293034; omega⟩ (fun _ _ H9 locs h9 hP1 hk1 hS9 => ?_)
    refine ss_rt h9 ?_
    clear h9
    obtain ⟨hP, hD⟩ := fr_mid (a := []) (b := (mW qm k cd wd se kd bn sh mb pr B R sx pt rd wt ln px)) (c := ouW k ob of ++ ((ssW qs k gd wd se pr ln px cv co B R (sx % 32) pt rd (-1)) ++ (plW od k ad bd ed kd nb sh mb))) (b' := (mW qm k (nI 0) wd se kd bn sh mb pr B R (sx % 32) pt rd (-1) ln px)) hP hD hk1 (fun q h => hA q (Nat.le_trans hS.1 h)) hP1 (rw_same hDc.self rfl)
    clear hP1 hk1 hPc hDc
    have hS := hS9
    clear hS9
    generalize H9 = H at hP hS ⊢
    have hP : va_P D vwCl ((mW qm k (nI 0) wd se kd bn sh mb pr B R (sx % 32) pt rd (-1) ln px) ++ (ouW k ob of ++ ((ssW qs k gd wd se pr ln px cv co B R (sx % 32) pt rd (-1)) ++ (plW od k ad bd ed kd nb sh mb)))) _ := hP
    have hD : va_D A ((mW qm k (nI 0) wd se kd bn sh mb pr B R (sx % 32) pt rd (-1) ln px) ++ (ouW k ob of ++ ((ssW qs k gd wd se pr ln px cv co B R (sx % 32) pt rd (-1)) ++ (plW od k ad bd ed kd nb sh mb)))) := hD
    refine lv_icmp_eq (tgt := 661) hx hb d_LW_law_481 (by decide) (fun c2 => ?_) (fun c2 => ?_)
    · have c2 := (Int32.toInt_inj.symm).mp c2
      refine lv_iinc (v := nI (5 * (i + 1))) (lv' := [(4, .int (nI (5 * (i + 1)))), (0, .ref b), (1, .ref (qs 0)), (2, .ref (qm 0)), (3, .ref ob)]) hx hb d_LW_law_661 hl (k := 0) rfl ((nI_add (5 * i) 5).trans (by rw [Nat.mul_succ])) (by decide) rfl (fun ls hl => ?_)
      refine lv_goto (tgt := 23) hx hb d_LW_law_664 (by decide) ?_
      refine W.widen (k := 21 + 3 * (i + 1)) (n := 9395 + 263 * (i + 1)) (by show 21 + 3 * i ≤ _; omega) (by show 9395 + 263 * i ≤ _; omega) ?_
      exact ih (nI 0) gd wd se pr ln px cv co B R (sx % 32) pt rd (-1) od ad bd ed kd nb sh mb bn of _ _ _ ⟨hwd, hse, hpr, hln, hB, hR, Nat.lt_of_le_of_lt (Nat.mod_le _ _) hsx, hpt, Or.inl rfl, hO, hkd, hsh, hmb, hbn, hz⟩ hP hD hS (lv_sub hl [0, 1, 2, 3, 4] rfl)
    · have c2 := mt (Int32.toInt_inj.symm).mpr c2
      exfalso; omega
  by_cases e2 : x1.toInt = ((2 : Nat) : Int)
  · obtain rfl := (zn_eq (by omega)).mpr e2
    refine lv_aload_n hx hb d_LW_law_461 rfl (lv_at hl 2 rfl) ?_
    refine lv_aload_n hx hb d_LW_law_462 rfl (lv_at hl 1 rfl) ?_
    refine lv_iload hx hb d_LW_law_463 (lv_at hl 0 rfl) ?_
    refine lv_iconst (v := nI 1) hx hb d_LW_law_465 (by decide +kernel) ?_
    refine lv_iadd hx hb d_LW_law_466 ?_
    refine ss_rt (y := nI (5 * i + 1)) (nI_add _ _) ?_
    refine va_sld hx hb hsc hbl hbA hS (vp_in_nI (by omega) (by omega)) d_LW_law_467 ?_
    refine ss_rt (y := nI 2) (by rw [nI_clamp (by omega)]; exact hx1.symm) ?_
    have hPc : va_P D vwCl (ssW qs k gd wd se pr ln px cv co B R sx pt rd wt) _ := va_subP (a := (mW qm k cd wd se kd bn sh mb pr B R sx pt rd wt ln px) ++ ouW k ob of) (b := (ssW qs k gd wd se pr ln px cv co B R sx pt rd wt)) (c := (plW od k ad bd ed kd nb sh mb)) hP
    have hDc : va_D A (ssW qs k gd wd se pr ln px cv co B R sx pt rd wt) := va_subD (a := (mW qm k cd wd se kd bn sh mb pr B R sx pt rd wt ln px) ++ ouW k ob of) (b := (ssW qs k gd wd se pr ln px cv co B R sx pt rd wt)) (c := (plW od k ad bd ed kd nb sh mb)) hD
    refine kw_iV (As := [.int (nI 2)]) (rest := []) ⟨hx, hb, hml, hown, hts⟩ (c_SS_in2 l D k qs gd wd se pr ln px cv co B R sx pt rd wt) (cwV 1 hts (gV w_134 w_135 w_136 w_1 w_137) rfl rfl rfl (by decide +kernel) ⟨Nat.le_of_ble_eq_true rfl, Nat.le_of_ble_eq_true rfl⟩) hK hPc hDc hS hA (va_recv hK hPc (ci := 0) (q0 := 0) rfl rfl) rfl hl.1 rfl (Nat.le_of_ble_eq_true rfl) d_LW_law_468 ⟨by show 21 + 3 * i ≤ 601024; omega, by show 9395 + 263 * i ≤ 7293034; omega⟩ (fun _ u9 H9 locs h9 hP1 hk1 hS9 => ?_)
    subst h9
    obtain ⟨hP, hD⟩ := fr_mid (a := (mW qm k cd wd se kd bn sh mb pr B R sx pt rd wt ln px) ++ ouW k ob of) (b := (ssW qs k gd wd se pr ln px cv co B R sx pt rd wt)) (c := (plW od k ad bd ed kd nb sh mb)) (b' := (ssW qs k gd wd se pr ln px cv co B R sx pt rd wt)) hP hD hk1 (fun q h => hA q (Nat.le_trans hS.1 h)) hP1 (rw_same hDc.self rfl)
    clear hP1 hk1 hPc hDc
    have hS := hS9
    clear hS9
    generalize H9 = H at hP hS ⊢
    have hP : va_P D vwCl ((mW qm k cd wd se kd bn sh mb pr B R sx pt rd wt ln px) ++ (ouW k ob of ++ ((ssW qs k gd wd se pr ln px cv co B R sx pt rd wt) ++ (plW od k ad bd ed kd nb sh mb)))) _ := hP
    have hD : va_D A ((mW qm k cd wd se kd bn sh mb pr B R sx pt rd wt ln px) ++ (ouW k ob of ++ ((ssW qs k gd wd se pr ln px cv co B R sx pt rd wt) ++ (plW od k ad bd ed kd nb sh mb)))) := hD
    refine lv_aload_n hx hb d_LW_law_471 rfl (lv_at hl 3 rfl) ?_
    refine lv_aload_n hx hb d_LW_law_472 rfl (lv_at hl 1 rfl) ?_
    refine lv_iload hx hb d_LW_law_473 (lv_at hl 0 rfl) ?_
    refine lv_iconst (v := nI 1) hx hb d_LW_law_475 (by decide +kernel) ?_
    refine lv_iadd hx hb d_LW_law_476 ?_
    refine ss_rt (y := nI (5 * i + 1)) (nI_add _ _) ?_
    refine va_sld hx hb hsc hbl hbA hS (vp_in_nI (by omega) (by omega)) d_LW_law_477 ?_
    refine ss_rt (y := nI 2) (by rw [nI_clamp (by omega)]; exact hx1.symm) ?_
    have hPc : va_P D vwCl (mW qm k cd wd se kd bn sh mb pr B R sx pt rd wt ln px) _ := va_subP (a := []) (b := (mW qm k cd wd se kd bn sh mb pr B R sx pt rd wt ln px)) (c := ouW k ob of ++ ((ssW qs k gd wd se pr ln px cv co B R sx pt rd wt) ++ (plW od k ad bd ed kd nb sh mb))) hP
    have hDc : va_D A (mW qm k cd wd se kd bn sh mb pr B R sx pt rd wt ln px) := va_subD (a := []) (b := (mW qm k cd wd se kd bn sh mb pr B R sx pt rd wt ln px)) (c := ouW k ob of ++ ((ssW qs k gd wd se pr ln px cv co B R sx pt rd wt) ++ (plW od k ad bd ed kd nb sh mb))) hD
    refine kw_iV (As := [.int (nI 2)]) (rest := [.int (nI pr)]) ⟨hx, hb, hml, hown, hts⟩ (c_MO_in2 l D k qm cd wd se kd bn sh mb pr B R sx pt rd wt ln px) (cwV 1 hts (gV w_629 w_630 w_631 w_5 w_632) rfl rfl rfl (by decide +kernel) ⟨Nat.le_of_ble_eq_true rfl, Nat.le_of_ble_eq_true rfl⟩) hK hPc hDc hS hA (va_recv hK hPc (ci := 7) (q0 := 0) rfl rfl) rfl hl.1 rfl (Nat.le_of_ble_eq_true rfl) d_LW_law_478 ⟨by show 21 + 3 * i ≤ 601024; omega, by show 9395 + 263 * i ≤ 7293034; omega⟩ (fun _ _ H9 locs h9 hP1 hk1 hS9 => ?_)
    refine ss_rt h9 ?_
    clear h9
    obtain ⟨hP, hD⟩ := fr_mid (a := []) (b := (mW qm k cd wd se kd bn sh mb pr B R sx pt rd wt ln px)) (c := ouW k ob of ++ ((ssW qs k gd wd se pr ln px cv co B R sx pt rd wt) ++ (plW od k ad bd ed kd nb sh mb))) (b' := (mW qm k (nI 0) wd se kd bn sh mb pr B R sx pt rd wt ln px)) hP hD hk1 (fun q h => hA q (Nat.le_trans hS.1 h)) hP1 (rw_same hDc.self rfl)
    clear hP1 hk1 hPc hDc
    have hS := hS9
    clear hS9
    generalize H9 = H at hP hS ⊢
    have hP : va_P D vwCl ((mW qm k (nI 0) wd se kd bn sh mb pr B R sx pt rd wt ln px) ++ (ouW k ob of ++ ((ssW qs k gd wd se pr ln px cv co B R sx pt rd wt) ++ (plW od k ad bd ed kd nb sh mb)))) _ := hP
    have hD : va_D A ((mW qm k (nI 0) wd se kd bn sh mb pr B R sx pt rd wt ln px) ++ (ouW k ob of ++ ((ssW qs k gd wd se pr ln px cv co B R sx pt rd wt) ++ (plW od k ad bd ed kd nb sh mb)))) := hD
    refine lv_icmp_eq (tgt := 661) hx hb d_LW_law_481 (by decide) (fun c3 => ?_) (fun c3 => ?_)
    · have c3 := (Int32.toInt_inj.symm).mp c3
      refine lv_iinc (v := nI (5 * (i + 1))) (lv' := [(4, .int (nI (5 * (i + 1)))), (0, .ref b), (1, .ref (qs 0)), (2, .ref (qm 0)), (3, .ref ob)]) hx hb d_LW_law_661 hl (k := 0) rfl ((nI_add (5 * i) 5).trans (by rw [Nat.mul_succ])) (by decide) rfl (fun ls hl => ?_)
      refine lv_goto (tgt := 23) hx hb d_LW_law_664 (by decide) ?_
      refine W.widen (k := 21 + 3 * (i + 1)) (n := 9395 + 263 * (i + 1)) (by show 21 + 3 * i ≤ _; omega) (by show 9395 + 263 * i ≤ _; omega) ?_
      exact ih (nI 0) gd wd se pr ln px cv co B R sx pt rd wt od ad bd ed kd nb sh mb bn of _ _ _ ⟨hwd, hse, hpr, hln, hB, hR, hsx, hpt, hwt, hO, hkd, hsh, hmb, hbn, hz⟩ hP hD hS (lv_sub hl [0, 1, 2, 3, 4] rfl)
    · have c3 := mt (Int32.toInt_inj.symm).mpr c3
      exfalso; omega
  refine lv_aload_n hx hb d_LW_law_461 rfl (lv_at hl 2 rfl) ?_
  refine lv_aload_n hx hb d_LW_law_462 rfl (lv_at hl 1 rfl) ?_
  refine lv_iload hx hb d_LW_law_463 (lv_at hl 0 rfl) ?_
  refine lv_iconst (v := nI 1) hx hb d_LW_law_465 (by decide +kernel) ?_
  refine lv_iadd hx hb d_LW_law_466 ?_
  refine ss_rt (y := nI (5 * i + 1)) (nI_add _ _) ?_
  refine va_sld hx hb hsc hbl hbA hS (vp_in_nI (by omega) (by omega)) d_LW_law_467 ?_
  refine ss_rt (y := x1) (by rw [nI_clamp (by omega)]; exact hx1.symm) ?_
  have hPc : va_P D vwCl (ssW qs k gd wd se pr ln px cv co B R sx pt rd wt) _ := va_subP (a := (mW qm k cd wd se kd bn sh mb pr B R sx pt rd wt ln px) ++ ouW k ob of) (b := (ssW qs k gd wd se pr ln px cv co B R sx pt rd wt)) (c := (plW od k ad bd ed kd nb sh mb)) hP
  have hDc : va_D A (ssW qs k gd wd se pr ln px cv co B R sx pt rd wt) := va_subD (a := (mW qm k cd wd se kd bn sh mb pr B R sx pt rd wt ln px) ++ ouW k ob of) (b := (ssW qs k gd wd se pr ln px cv co B R sx pt rd wt)) (c := (plW od k ad bd ed kd nb sh mb)) hD
  refine kw_iV (As := [.int x1]) (rest := []) ⟨hx, hb, hml, hown, hts⟩ (c_SS_ino l D k qs gd wd se pr ln px cv co B R sx pt rd wt x1 ⟨by omega, by omega, by omega⟩) (cwV 1 hts (gV w_134 w_135 w_136 w_1 w_137) rfl rfl rfl (by decide +kernel) ⟨Nat.le_of_ble_eq_true rfl, Nat.le_of_ble_eq_true rfl⟩) hK hPc hDc hS hA (va_recv hK hPc (ci := 0) (q0 := 0) rfl rfl) rfl hl.1 rfl (Nat.le_of_ble_eq_true rfl) d_LW_law_468 ⟨by show 21 + 3 * i ≤ 601024; omega, by show 9395 + 263 * i ≤ 7293034; omega⟩ (fun _ u9 H9 locs h9 hP1 hk1 hS9 => ?_)
  subst h9
  obtain ⟨hP, hD⟩ := fr_mid (a := (mW qm k cd wd se kd bn sh mb pr B R sx pt rd wt ln px) ++ ouW k ob of) (b := (ssW qs k gd wd se pr ln px cv co B R sx pt rd wt)) (c := (plW od k ad bd ed kd nb sh mb)) (b' := (ssW qs k gd wd se pr ln px cv co B R sx pt rd wt)) hP hD hk1 (fun q h => hA q (Nat.le_trans hS.1 h)) hP1 (rw_same hDc.self rfl)
  clear hP1 hk1 hPc hDc
  have hS := hS9
  clear hS9
  generalize H9 = H at hP hS ⊢
  have hP : va_P D vwCl ((mW qm k cd wd se kd bn sh mb pr B R sx pt rd wt ln px) ++ (ouW k ob of ++ ((ssW qs k gd wd se pr ln px cv co B R sx pt rd wt) ++ (plW od k ad bd ed kd nb sh mb)))) _ := hP
  have hD : va_D A ((mW qm k cd wd se kd bn sh mb pr B R sx pt rd wt ln px) ++ (ouW k ob of ++ ((ssW qs k gd wd se pr ln px cv co B R sx pt rd wt) ++ (plW od k ad bd ed kd nb sh mb)))) := hD
  refine lv_aload_n hx hb d_LW_law_471 rfl (lv_at hl 3 rfl) ?_
  refine lv_aload_n hx hb d_LW_law_472 rfl (lv_at hl 1 rfl) ?_
  refine lv_iload hx hb d_LW_law_473 (lv_at hl 0 rfl) ?_
  refine lv_iconst (v := nI 1) hx hb d_LW_law_475 (by decide +kernel) ?_
  refine lv_iadd hx hb d_LW_law_476 ?_
  refine ss_rt (y := nI (5 * i + 1)) (nI_add _ _) ?_
  refine va_sld hx hb hsc hbl hbA hS (vp_in_nI (by omega) (by omega)) d_LW_law_477 ?_
  refine ss_rt (y := x1) (by rw [nI_clamp (by omega)]; exact hx1.symm) ?_
  have hPc : va_P D vwCl (mW qm k cd wd se kd bn sh mb pr B R sx pt rd wt ln px) _ := va_subP (a := []) (b := (mW qm k cd wd se kd bn sh mb pr B R sx pt rd wt ln px)) (c := ouW k ob of ++ ((ssW qs k gd wd se pr ln px cv co B R sx pt rd wt) ++ (plW od k ad bd ed kd nb sh mb))) hP
  have hDc : va_D A (mW qm k cd wd se kd bn sh mb pr B R sx pt rd wt ln px) := va_subD (a := []) (b := (mW qm k cd wd se kd bn sh mb pr B R sx pt rd wt ln px)) (c := ouW k ob of ++ ((ssW qs k gd wd se pr ln px cv co B R sx pt rd wt) ++ (plW od k ad bd ed kd nb sh mb))) hD
  refine kw_iV (As := [.int x1]) (rest := [.int (nI 255)]) ⟨hx, hb, hml, hown, hts⟩ (c_MO_ino l D k qm cd wd se kd bn sh mb pr B R sx pt rd wt ln px x1 ⟨by omega, by omega, by omega⟩) (cwV 1 hts (gV w_629 w_630 w_631 w_5 w_632) rfl rfl rfl (by decide +kernel) ⟨Nat.le_of_ble_eq_true rfl, Nat.le_of_ble_eq_true rfl⟩) hK hPc hDc hS hA (va_recv hK hPc (ci := 7) (q0 := 0) rfl rfl) rfl hl.1 rfl (Nat.le_of_ble_eq_true rfl) d_LW_law_478 ⟨by show 21 + 3 * i ≤ 601024; omega, by show 9395 + 263 * i ≤ 7293034; omega⟩ (fun _ _ H9 locs h9 hP1 hk1 hS9 => ?_)
  refine ss_rt h9 ?_
  clear h9
  obtain ⟨hP, hD⟩ := fr_mid (a := []) (b := (mW qm k cd wd se kd bn sh mb pr B R sx pt rd wt ln px)) (c := ouW k ob of ++ ((ssW qs k gd wd se pr ln px cv co B R sx pt rd wt) ++ (plW od k ad bd ed kd nb sh mb))) (b' := (mW qm k (nI 0) wd se kd bn sh mb pr B R sx pt rd wt ln px)) hP hD hk1 (fun q h => hA q (Nat.le_trans hS.1 h)) hP1 (rw_same hDc.self rfl)
  clear hP1 hk1 hPc hDc
  have hS := hS9
  clear hS9
  generalize H9 = H at hP hS ⊢
  have hP : va_P D vwCl ((mW qm k (nI 0) wd se kd bn sh mb pr B R sx pt rd wt ln px) ++ (ouW k ob of ++ ((ssW qs k gd wd se pr ln px cv co B R sx pt rd wt) ++ (plW od k ad bd ed kd nb sh mb)))) _ := hP
  have hD : va_D A ((mW qm k (nI 0) wd se kd bn sh mb pr B R sx pt rd wt ln px) ++ (ouW k ob of ++ ((ssW qs k gd wd se pr ln px cv co B R sx pt rd wt) ++ (plW od k ad bd ed kd nb sh mb)))) := hD
  refine lv_icmp_eq (tgt := 661) hx hb d_LW_law_481 (by decide) (fun c4 => ?_) (fun c4 => ?_)
  · have c4 := (Int32.toInt_inj.symm).mp c4
    refine lv_iinc (v := nI (5 * (i + 1))) (lv' := [(4, .int (nI (5 * (i + 1)))), (0, .ref b), (1, .ref (qs 0)), (2, .ref (qm 0)), (3, .ref ob)]) hx hb d_LW_law_661 hl (k := 0) rfl ((nI_add (5 * i) 5).trans (by rw [Nat.mul_succ])) (by decide) rfl (fun ls hl => ?_)
    refine lv_goto (tgt := 23) hx hb d_LW_law_664 (by decide) ?_
    refine W.widen (k := 21 + 3 * (i + 1)) (n := 9395 + 263 * (i + 1)) (by show 21 + 3 * i ≤ _; omega) (by show 9395 + 263 * i ≤ _; omega) ?_
    exact ih (nI 0) gd wd se pr ln px cv co B R sx pt rd wt od ad bd ed kd nb sh mb bn of _ _ _ ⟨hwd, hse, hpr, hln, hB, hR, hsx, hpt, hwt, hO, hkd, hsh, hmb, hbn, hz⟩ hP hD hS (lv_sub hl [0, 1, 2, 3, 4] rfl)
  · have c4 := mt (Int32.toInt_inj.symm).mpr c4
    exfalso; omega
set_option maxHeartbeats 4000000 in
set_option maxRecDepth 100000 in
theorem L_out {p : Program} {l : Launch} {e : Env} {s : State} {m : MethodId} {below : List Frame} {meth : Method} {c : Code} {b L : Nat} {xs : Nat → Int32} {D : va_G} {k : Nat → ClassId} {A : Nat → Prop} {Q : State → Prop} {qm qs : Nat → Nat} {ob : Nat} (C : LC p l s m meth c b L xs D k A) (i : Nat) (hi : 5 * i + 5 ≤ L) (ih : LG p l e s m below meth c b D k A Q qm qs ob (i + 1)) (cd : Int32) (gd : Nat → Option Nat) (wd : Nat → Nat) (se : Nat → Nat) (pr : Nat) (ln : Nat) (px : Nat → Nat) (cv : Nat) (co : Nat) (B : Nat → Nat) (R : Nat → Nat) (sx : Nat) (pt : Nat) (rd : Nat) (wt : Int32) (od : List Nat) (ad : Nat → Nat) (bd : Nat → Nat) (ed : Nat → Nat) (kd : Nat → Nat) (nb : Nat → Nat) (sh : Nat → Nat) (mb : Nat → Nat) (bn : Nat → Int32) (of : Nat → Int64) (H : Heap) (locs : List Loc) (ls : Array Slot) (hF : LF gd wd se pr ln B R sx pt wt od ad kd nb sh mb bn) (hP : va_P D vwCl ((mW qm k cd wd se kd bn sh mb pr B R sx pt rd wt ln px) ++ (ouW k ob of ++ ((ssW qs k gd wd se pr ln px cv co B R sx pt rd wt) ++ (plW od k ad bd ed kd nb sh mb)))) H) (hD : va_D A ((mW qm k cd wd se kd bn sh mb pr B R sx pt rd wt ln px) ++ (ouW k ob of ++ ((ssW qs k gd wd se pr ln px cv co B R sx pt rd wt) ++ (plW od k ad bd ed kd nb sh mb))))) (hS : va_S A s.heap H locs) (hl : lv_has ls 7 [(4, .int (nI (5 * i))), (0, .ref b), (1, .ref (qs 0)), (2, .ref (qm 0)), (3, .ref ob)]) : W p l e room_1 s m #[Value.ref b] below meth c H locs (21 + 3 * i) (9395 + 263 * i) Q (F0 m 486 ls []) := by
  obtain ⟨hx, hb, hr, hlocks, hml, hown, hts, hX, hT, hU, hK, hA, hsc, hbl, hbA, hl9, hL⟩ := C
  obtain ⟨hwd, hse, hpr, hln, hB, hR, hsx, hpt, hwt, hO, hkd, hsh, hmb, hbn, hz⟩ := hF
  obtain ⟨x1, hx1⟩ : ∃ z, z = xs (5 * i + 1) := ⟨_, rfl⟩
  obtain ⟨x2, hx2⟩ : ∃ z, z = xs (5 * i + 2) := ⟨_, rfl⟩
  by_cases hv : 0 ≤ x2.toInt ∧ x2.toInt ≤ 255
  · obtain ⟨v, hv9, rfl⟩ := n_ix (x := x2) (n := 256) hv.1 (by omega)
    by_cases e0 : x1.toInt = ((0 : Nat) : Int)
    · obtain rfl := (zn_eq (by omega)).mpr e0
      refine lv_aload_n hx hb d_LW_law_486 rfl (lv_at hl 2 rfl) ?_
      refine lv_aload_n hx hb d_LW_law_487 rfl (lv_at hl 1 rfl) ?_
      refine lv_iload hx hb d_LW_law_488 (lv_at hl 0 rfl) ?_
      refine lv_iconst (v := nI 1) hx hb d_LW_law_490 (by decide +kernel) ?_
      refine lv_iadd hx hb d_LW_law_491 ?_
      refine ss_rt (y := nI (5 * i + 1)) (nI_add _ _) ?_
      refine va_sld hx hb hsc hbl hbA hS (vp_in_nI (by omega) (by omega)) d_LW_law_492 ?_
      refine ss_rt (y := nI 0) (by rw [nI_clamp (by omega)]; exact hx1.symm) ?_
      refine lv_aload_n hx hb d_LW_law_493 rfl (lv_at hl 1 rfl) ?_
      refine lv_iload hx hb d_LW_law_494 (lv_at hl 0 rfl) ?_
      refine lv_iconst (v := nI 2) hx hb d_LW_law_496 (by decide +kernel) ?_
      refine lv_iadd hx hb d_LW_law_497 ?_
      refine ss_rt (y := nI (5 * i + 2)) (nI_add _ _) ?_
      refine va_sld hx hb hsc hbl hbA hS (vp_in_nI (by omega) (by omega)) d_LW_law_498 ?_
      refine ss_rt (y := nI v) (by rw [nI_clamp (by omega)]; exact hx2.symm) ?_
      have hPc : va_P D vwCl (ssW qs k gd wd se pr ln px cv co B R sx pt rd wt) _ := va_subP (a := (mW qm k cd wd se kd bn sh mb pr B R sx pt rd wt ln px) ++ ouW k ob of) (b := (ssW qs k gd wd se pr ln px cv co B R sx pt rd wt)) (c := (plW od k ad bd ed kd nb sh mb)) hP
      have hDc : va_D A (ssW qs k gd wd se pr ln px cv co B R sx pt rd wt) := va_subD (a := (mW qm k cd wd se kd bn sh mb pr B R sx pt rd wt ln px) ++ ouW k ob of) (b := (ssW qs k gd wd se pr ln px cv co B R sx pt rd wt)) (c := (plW od k ad bd ed kd nb sh mb)) hD
      refine kw_iV (As := [.int (nI 0), .int (nI v)]) (rest := []) ⟨hx, hb, hml, hown, hts⟩ (c_SS_out0 l D k qs gd wd se pr ln px cv co B R sx pt rd wt v hv9 hpt) (cwV 2 hts (gV w_154 w_155 w_156 w_1 w_157) rfl rfl rfl (by decide +kernel) ⟨Nat.le_of_ble_eq_true rfl, Nat.le_of_ble_eq_true rfl⟩) hK hPc hDc hS hA (va_recv hK hPc (ci := 0) (q0 := 0) rfl rfl) rfl hl.1 rfl (Nat.le_of_ble_eq_true rfl) d_LW_law_499 ⟨by show 21 + 3 * i ≤ 601024; omega, by show 9395 + 263 * i ≤ 7293034; omega⟩ (fun _ u9 H9 locs h9 hP1 hk1 hS9 => ?_)
      subst h9
      obtain ⟨hP, hD⟩ := fr_mid (a := (mW qm k cd wd se kd bn sh mb pr B R sx pt rd wt ln px) ++ ouW k ob of) (b := (ssW qs k gd wd se pr ln px cv co B R sx pt rd wt)) (c := (plW od k ad bd ed kd nb sh mb)) (b' := (ssW qs k gd wd se pr ln px cv co (ss_up B pt v) R sx ((pt + 1) % 512) v (-1))) hP hD hk1 (fun q h => hA q (Nat.le_trans hS.1 h)) hP1 (rw_same hDc.self rfl)
      clear hP1 hk1 hPc hDc
      have hS := hS9
      clear hS9
      generalize H9 = H at hP hS ⊢
      have hP : va_P D vwCl ((mW qm k cd wd se kd bn sh mb pr B R sx pt rd wt ln px) ++ (ouW k ob of ++ ((ssW qs k gd wd se pr ln px cv co (ss_up B pt v) R sx ((pt + 1) % 512) v (-1)) ++ (plW od k ad bd ed kd nb sh mb)))) _ := hP
      have hD : va_D A ((mW qm k cd wd se kd bn sh mb pr B R sx pt rd wt ln px) ++ (ouW k ob of ++ ((ssW qs k gd wd se pr ln px cv co (ss_up B pt v) R sx ((pt + 1) % 512) v (-1)) ++ (plW od k ad bd ed kd nb sh mb)))) := hD
      refine lv_aload_n hx hb d_LW_law_502 rfl (lv_at hl 3 rfl) ?_
      refine lv_aload_n hx hb d_LW_law_503 rfl (lv_at hl 1 rfl) ?_
      refine lv_iload hx hb d_LW_law_504 (lv_at hl 0 rfl) ?_
      refine lv_iconst (v := nI 1) hx hb d_LW_law_506 (by decide +kernel) ?_
      refine lv_iadd hx hb d_LW_law_507 ?_
      refine ss_rt (y := nI (5 * i + 1)) (nI_add _ _) ?_
      refine va_sld hx hb hsc hbl hbA hS (vp_in_nI (by omega) (by omega)) d_LW_law_508 ?_
      refine ss_rt (y := nI 0) (by rw [nI_clamp (by omega)]; exact hx1.symm) ?_
      refine lv_aload_n hx hb d_LW_law_509 rfl (lv_at hl 1 rfl) ?_
      refine lv_iload hx hb d_LW_law_510 (lv_at hl 0 rfl) ?_
      refine lv_iconst (v := nI 2) hx hb d_LW_law_512 (by decide +kernel) ?_
      refine lv_iadd hx hb d_LW_law_513 ?_
      refine ss_rt (y := nI (5 * i + 2)) (nI_add _ _) ?_
      refine va_sld hx hb hsc hbl hbA hS (vp_in_nI (by omega) (by omega)) d_LW_law_514 ?_
      refine ss_rt (y := nI v) (by rw [nI_clamp (by omega)]; exact hx2.symm) ?_
      have hPc : va_P D vwCl (mW qm k cd wd se kd bn sh mb pr B R sx pt rd wt ln px) _ := va_subP (a := []) (b := (mW qm k cd wd se kd bn sh mb pr B R sx pt rd wt ln px)) (c := ouW k ob of ++ ((ssW qs k gd wd se pr ln px cv co (ss_up B pt v) R sx ((pt + 1) % 512) v (-1)) ++ (plW od k ad bd ed kd nb sh mb))) hP
      have hDc : va_D A (mW qm k cd wd se kd bn sh mb pr B R sx pt rd wt ln px) := va_subD (a := []) (b := (mW qm k cd wd se kd bn sh mb pr B R sx pt rd wt ln px)) (c := ouW k ob of ++ ((ssW qs k gd wd se pr ln px cv co (ss_up B pt v) R sx ((pt + 1) % 512) v (-1)) ++ (plW od k ad bd ed kd nb sh mb))) hD
      refine kw_iV (As := [.int (nI 0), .int (nI v)]) (rest := [.int (nI 1)]) ⟨hx, hb, hml, hown, hts⟩ (c_MO_out0 l D k qm cd wd se kd bn sh mb pr B R sx pt rd wt ln px v hv9 hpt) (cwV 2 hts (gV w_641 w_642 w_643 w_5 w_644) rfl rfl rfl (by decide +kernel) ⟨Nat.le_of_ble_eq_true rfl, Nat.le_of_ble_eq_true rfl⟩) hK hPc hDc hS hA (va_recv hK hPc (ci := 7) (q0 := 0) rfl rfl) rfl hl.1 rfl (Nat.le_of_ble_eq_true rfl) d_LW_law_515 ⟨by show 21 + 3 * i ≤ 601024; omega, by show 9395 + 263 * i ≤ 7293034; omega⟩ (fun _ _ H9 locs h9 hP1 hk1 hS9 => ?_)
      refine ss_rt h9 ?_
      clear h9
      obtain ⟨hP, hD⟩ := fr_mid (a := []) (b := (mW qm k cd wd se kd bn sh mb pr B R sx pt rd wt ln px)) (c := ouW k ob of ++ ((ssW qs k gd wd se pr ln px cv co (ss_up B pt v) R sx ((pt + 1) % 512) v (-1)) ++ (plW od k ad bd ed kd nb sh mb))) (b' := (mW qm k (nI 0) wd se kd bn sh mb pr (ss_up B pt v) R sx ((pt + 1) % 512) v (-1) ln px)) hP hD hk1 (fun q h => hA q (Nat.le_trans hS.1 h)) hP1 (rw_same hDc.self rfl)
      clear hP1 hk1 hPc hDc
      have hS := hS9
      clear hS9
      generalize H9 = H at hP hS ⊢
      have hP : va_P D vwCl ((mW qm k (nI 0) wd se kd bn sh mb pr (ss_up B pt v) R sx ((pt + 1) % 512) v (-1) ln px) ++ (ouW k ob of ++ ((ssW qs k gd wd se pr ln px cv co (ss_up B pt v) R sx ((pt + 1) % 512) v (-1)) ++ (plW od k ad bd ed kd nb sh mb)))) _ := hP
      have hD : va_D A ((mW qm k (nI 0) wd se kd bn sh mb pr (ss_up B pt v) R sx ((pt + 1) % 512) v (-1) ln px) ++ (ouW k ob of ++ ((ssW qs k gd wd se pr ln px cv co (ss_up B pt v) R sx ((pt + 1) % 512) v (-1)) ++ (plW od k ad bd ed kd nb sh mb)))) := hD
      refine lv_icmp_eq (tgt := 661) hx hb d_LW_law_518 (by decide) (fun c1 => ?_) (fun c1 => ?_)
      · have c1 := (Int32.toInt_inj.symm).mp c1
        refine lv_iinc (v := nI (5 * (i + 1))) (lv' := [(4, .int (nI (5 * (i + 1)))), (0, .ref b), (1, .ref (qs 0)), (2, .ref (qm 0)), (3, .ref ob)]) hx hb d_LW_law_661 hl (k := 0) rfl ((nI_add (5 * i) 5).trans (by rw [Nat.mul_succ])) (by decide) rfl (fun ls hl => ?_)
        refine lv_goto (tgt := 23) hx hb d_LW_law_664 (by decide) ?_
        refine W.widen (k := 21 + 3 * (i + 1)) (n := 9395 + 263 * (i + 1)) (by show 21 + 3 * i ≤ _; omega) (by show 9395 + 263 * i ≤ _; omega) ?_
        exact ih (nI 0) gd wd se pr ln px cv co (ss_up B pt v) R sx ((pt + 1) % 512) v (-1) od ad bd ed kd nb sh mb bn of _ _ _ ⟨hwd, hse, hpr, hln, ss_up_lt hB hv9, hR, hsx, Nat.mod_lt _ (by omega), Or.inl rfl, hO, hkd, hsh, hmb, hbn, hz⟩ hP hD hS (lv_sub hl [0, 1, 2, 3, 4] rfl)
      · have c1 := mt (Int32.toInt_inj.symm).mpr c1
        exfalso; omega
    by_cases e2 : x1.toInt = ((2 : Nat) : Int)
    · obtain rfl := (zn_eq (by omega)).mpr e2
      refine lv_aload_n hx hb d_LW_law_486 rfl (lv_at hl 2 rfl) ?_
      refine lv_aload_n hx hb d_LW_law_487 rfl (lv_at hl 1 rfl) ?_
      refine lv_iload hx hb d_LW_law_488 (lv_at hl 0 rfl) ?_
      refine lv_iconst (v := nI 1) hx hb d_LW_law_490 (by decide +kernel) ?_
      refine lv_iadd hx hb d_LW_law_491 ?_
      refine ss_rt (y := nI (5 * i + 1)) (nI_add _ _) ?_
      refine va_sld hx hb hsc hbl hbA hS (vp_in_nI (by omega) (by omega)) d_LW_law_492 ?_
      refine ss_rt (y := nI 2) (by rw [nI_clamp (by omega)]; exact hx1.symm) ?_
      refine lv_aload_n hx hb d_LW_law_493 rfl (lv_at hl 1 rfl) ?_
      refine lv_iload hx hb d_LW_law_494 (lv_at hl 0 rfl) ?_
      refine lv_iconst (v := nI 2) hx hb d_LW_law_496 (by decide +kernel) ?_
      refine lv_iadd hx hb d_LW_law_497 ?_
      refine ss_rt (y := nI (5 * i + 2)) (nI_add _ _) ?_
      refine va_sld hx hb hsc hbl hbA hS (vp_in_nI (by omega) (by omega)) d_LW_law_498 ?_
      refine ss_rt (y := nI v) (by rw [nI_clamp (by omega)]; exact hx2.symm) ?_
      have hPc : va_P D vwCl (ssW qs k gd wd se pr ln px cv co B R sx pt rd wt) _ := va_subP (a := (mW qm k cd wd se kd bn sh mb pr B R sx pt rd wt ln px) ++ ouW k ob of) (b := (ssW qs k gd wd se pr ln px cv co B R sx pt rd wt)) (c := (plW od k ad bd ed kd nb sh mb)) hP
      have hDc : va_D A (ssW qs k gd wd se pr ln px cv co B R sx pt rd wt) := va_subD (a := (mW qm k cd wd se kd bn sh mb pr B R sx pt rd wt ln px) ++ ouW k ob of) (b := (ssW qs k gd wd se pr ln px cv co B R sx pt rd wt)) (c := (plW od k ad bd ed kd nb sh mb)) hD
      refine kw_iV (As := [.int (nI 2), .int (nI v)]) (rest := []) ⟨hx, hb, hml, hown, hts⟩ (c_SS_out2 l D k qs gd wd se pr ln px cv co B R sx pt rd wt v hv9) (cwV 2 hts (gV w_154 w_155 w_156 w_1 w_157) rfl rfl rfl (by decide +kernel) ⟨Nat.le_of_ble_eq_true rfl, Nat.le_of_ble_eq_true rfl⟩) hK hPc hDc hS hA (va_recv hK hPc (ci := 0) (q0 := 0) rfl rfl) rfl hl.1 rfl (Nat.le_of_ble_eq_true rfl) d_LW_law_499 ⟨by show 21 + 3 * i ≤ 601024; omega, by show 9395 + 263 * i ≤ 7293034; omega⟩ (fun _ u9 H9 locs h9 hP1 hk1 hS9 => ?_)
      subst h9
      obtain ⟨hP, hD⟩ := fr_mid (a := (mW qm k cd wd se kd bn sh mb pr B R sx pt rd wt ln px) ++ ouW k ob of) (b := (ssW qs k gd wd se pr ln px cv co B R sx pt rd wt)) (c := (plW od k ad bd ed kd nb sh mb)) (b' := (ssW qs k gd wd se v ln px cv co B R sx pt rd wt)) hP hD hk1 (fun q h => hA q (Nat.le_trans hS.1 h)) hP1 (rw_same hDc.self rfl)
      clear hP1 hk1 hPc hDc
      have hS := hS9
      clear hS9
      generalize H9 = H at hP hS ⊢
      have hP : va_P D vwCl ((mW qm k cd wd se kd bn sh mb pr B R sx pt rd wt ln px) ++ (ouW k ob of ++ ((ssW qs k gd wd se v ln px cv co B R sx pt rd wt) ++ (plW od k ad bd ed kd nb sh mb)))) _ := hP
      have hD : va_D A ((mW qm k cd wd se kd bn sh mb pr B R sx pt rd wt ln px) ++ (ouW k ob of ++ ((ssW qs k gd wd se v ln px cv co B R sx pt rd wt) ++ (plW od k ad bd ed kd nb sh mb)))) := hD
      refine lv_aload_n hx hb d_LW_law_502 rfl (lv_at hl 3 rfl) ?_
      refine lv_aload_n hx hb d_LW_law_503 rfl (lv_at hl 1 rfl) ?_
      refine lv_iload hx hb d_LW_law_504 (lv_at hl 0 rfl) ?_
      refine lv_iconst (v := nI 1) hx hb d_LW_law_506 (by decide +kernel) ?_
      refine lv_iadd hx hb d_LW_law_507 ?_
      refine ss_rt (y := nI (5 * i + 1)) (nI_add _ _) ?_
      refine va_sld hx hb hsc hbl hbA hS (vp_in_nI (by omega) (by omega)) d_LW_law_508 ?_
      refine ss_rt (y := nI 2) (by rw [nI_clamp (by omega)]; exact hx1.symm) ?_
      refine lv_aload_n hx hb d_LW_law_509 rfl (lv_at hl 1 rfl) ?_
      refine lv_iload hx hb d_LW_law_510 (lv_at hl 0 rfl) ?_
      refine lv_iconst (v := nI 2) hx hb d_LW_law_512 (by decide +kernel) ?_
      refine lv_iadd hx hb d_LW_law_513 ?_
      refine ss_rt (y := nI (5 * i + 2)) (nI_add _ _) ?_
      refine va_sld hx hb hsc hbl hbA hS (vp_in_nI (by omega) (by omega)) d_LW_law_514 ?_
      refine ss_rt (y := nI v) (by rw [nI_clamp (by omega)]; exact hx2.symm) ?_
      have hPc : va_P D vwCl (mW qm k cd wd se kd bn sh mb pr B R sx pt rd wt ln px) _ := va_subP (a := []) (b := (mW qm k cd wd se kd bn sh mb pr B R sx pt rd wt ln px)) (c := ouW k ob of ++ ((ssW qs k gd wd se v ln px cv co B R sx pt rd wt) ++ (plW od k ad bd ed kd nb sh mb))) hP
      have hDc : va_D A (mW qm k cd wd se kd bn sh mb pr B R sx pt rd wt ln px) := va_subD (a := []) (b := (mW qm k cd wd se kd bn sh mb pr B R sx pt rd wt ln px)) (c := ouW k ob of ++ ((ssW qs k gd wd se v ln px cv co B R sx pt rd wt) ++ (plW od k ad bd ed kd nb sh mb))) hD
      refine kw_iV (As := [.int (nI 2), .int (nI v)]) (rest := [.int (nI 1)]) ⟨hx, hb, hml, hown, hts⟩ (c_MO_out2 l D k qm cd wd se kd bn sh mb pr B R sx pt rd wt ln px v hv9) (cwV 2 hts (gV w_641 w_642 w_643 w_5 w_644) rfl rfl rfl (by decide +kernel) ⟨Nat.le_of_ble_eq_true rfl, Nat.le_of_ble_eq_true rfl⟩) hK hPc hDc hS hA (va_recv hK hPc (ci := 7) (q0 := 0) rfl rfl) rfl hl.1 rfl (Nat.le_of_ble_eq_true rfl) d_LW_law_515 ⟨by show 21 + 3 * i ≤ 601024; omega, by show 9395 + 263 * i ≤ 7293034; omega⟩ (fun _ _ H9 locs h9 hP1 hk1 hS9 => ?_)
      refine ss_rt h9 ?_
      clear h9
      obtain ⟨hP, hD⟩ := fr_mid (a := []) (b := (mW qm k cd wd se kd bn sh mb pr B R sx pt rd wt ln px)) (c := ouW k ob of ++ ((ssW qs k gd wd se v ln px cv co B R sx pt rd wt) ++ (plW od k ad bd ed kd nb sh mb))) (b' := (mW qm k (nI 0) wd se kd bn sh mb v B R sx pt rd wt ln px)) hP hD hk1 (fun q h => hA q (Nat.le_trans hS.1 h)) hP1 (rw_same hDc.self rfl)
      clear hP1 hk1 hPc hDc
      have hS := hS9
      clear hS9
      generalize H9 = H at hP hS ⊢
      have hP : va_P D vwCl ((mW qm k (nI 0) wd se kd bn sh mb v B R sx pt rd wt ln px) ++ (ouW k ob of ++ ((ssW qs k gd wd se v ln px cv co B R sx pt rd wt) ++ (plW od k ad bd ed kd nb sh mb)))) _ := hP
      have hD : va_D A ((mW qm k (nI 0) wd se kd bn sh mb v B R sx pt rd wt ln px) ++ (ouW k ob of ++ ((ssW qs k gd wd se v ln px cv co B R sx pt rd wt) ++ (plW od k ad bd ed kd nb sh mb)))) := hD
      refine lv_icmp_eq (tgt := 661) hx hb d_LW_law_518 (by decide) (fun c2 => ?_) (fun c2 => ?_)
      · have c2 := (Int32.toInt_inj.symm).mp c2
        refine lv_iinc (v := nI (5 * (i + 1))) (lv' := [(4, .int (nI (5 * (i + 1)))), (0, .ref b), (1, .ref (qs 0)), (2, .ref (qm 0)), (3, .ref ob)]) hx hb d_LW_law_661 hl (k := 0) rfl ((nI_add (5 * i) 5).trans (by rw [Nat.mul_succ])) (by decide) rfl (fun ls hl => ?_)
        refine lv_goto (tgt := 23) hx hb d_LW_law_664 (by decide) ?_
        refine W.widen (k := 21 + 3 * (i + 1)) (n := 9395 + 263 * (i + 1)) (by show 21 + 3 * i ≤ _; omega) (by show 9395 + 263 * i ≤ _; omega) ?_
        exact ih (nI 0) gd wd se v ln px cv co B R sx pt rd wt od ad bd ed kd nb sh mb bn of _ _ _ ⟨hwd, hse, hv9, hln, hB, hR, hsx, hpt, hwt, hO, hkd, hsh, hmb, hbn, hz⟩ hP hD hS (lv_sub hl [0, 1, 2, 3, 4] rfl)
      · have c2 := mt (Int32.toInt_inj.symm).mpr c2
        exfalso; omega
    by_cases e1 : x1.toInt = ((1 : Nat) : Int)
    · obtain rfl := (zn_eq (by omega)).mpr e1
      rcases hwt with rfl | ⟨a, ha, rfl⟩
      · skip
        refine lv_aload_n hx hb d_LW_law_486 rfl (lv_at hl 2 rfl) ?_
        refine lv_aload_n hx hb d_LW_law_487 rfl (lv_at hl 1 rfl) ?_
        refine lv_iload hx hb d_LW_law_488 (lv_at hl 0 rfl) ?_
        refine lv_iconst (v := nI 1) hx hb d_LW_law_490 (by decide +kernel) ?_
        refine lv_iadd hx hb d_LW_law_491 ?_
        refine ss_rt (y := nI (5 * i + 1)) (nI_add _ _) ?_
        refine va_sld hx hb hsc hbl hbA hS (vp_in_nI (by omega) (by omega)) d_LW_law_492 ?_
        refine ss_rt (y := nI 1) (by rw [nI_clamp (by omega)]; exact hx1.symm) ?_
        refine lv_aload_n hx hb d_LW_law_493 rfl (lv_at hl 1 rfl) ?_
        refine lv_iload hx hb d_LW_law_494 (lv_at hl 0 rfl) ?_
        refine lv_iconst (v := nI 2) hx hb d_LW_law_496 (by decide +kernel) ?_
        refine lv_iadd hx hb d_LW_law_497 ?_
        refine ss_rt (y := nI (5 * i + 2)) (nI_add _ _) ?_
        refine va_sld hx hb hsc hbl hbA hS (vp_in_nI (by omega) (by omega)) d_LW_law_498 ?_
        refine ss_rt (y := nI v) (by rw [nI_clamp (by omega)]; exact hx2.symm) ?_
        have hPc : va_P D vwCl (ssW qs k gd wd se pr ln px cv co B R sx pt rd (-1)) _ := va_subP (a := (mW qm k cd wd se kd bn sh mb pr B R sx pt rd (-1) ln px) ++ ouW k ob of) (b := (ssW qs k gd wd se pr ln px cv co B R sx pt rd (-1))) (c := (plW od k ad bd ed kd nb sh mb)) hP
        have hDc : va_D A (ssW qs k gd wd se pr ln px cv co B R sx pt rd (-1)) := va_subD (a := (mW qm k cd wd se kd bn sh mb pr B R sx pt rd (-1) ln px) ++ ouW k ob of) (b := (ssW qs k gd wd se pr ln px cv co B R sx pt rd (-1))) (c := (plW od k ad bd ed kd nb sh mb)) hD
        refine kw_iV (As := [.int (nI 1), .int (nI v)]) (rest := []) ⟨hx, hb, hml, hown, hts⟩ (c_SS_out1N l D k qs gd wd se pr ln px cv co B R sx pt rd v hv9) (cwV 2 hts (gV w_154 w_155 w_156 w_1 w_157) rfl rfl rfl (by decide +kernel) ⟨Nat.le_of_ble_eq_true rfl, Nat.le_of_ble_eq_true rfl⟩) hK hPc hDc hS hA (va_recv hK hPc (ci := 0) (q0 := 0) rfl rfl) rfl hl.1 rfl (Nat.le_of_ble_eq_true rfl) d_LW_law_499 ⟨by show 21 + 3 * i ≤ 601024; omega, by show 9395 + 263 * i ≤ 7293034; omega⟩ (fun _ u9 H9 locs h9 hP1 hk1 hS9 => ?_)
        subst h9
        obtain ⟨hP, hD⟩ := fr_mid (a := (mW qm k cd wd se kd bn sh mb pr B R sx pt rd (-1) ln px) ++ ouW k ob of) (b := (ssW qs k gd wd se pr ln px cv co B R sx pt rd (-1))) (c := (plW od k ad bd ed kd nb sh mb)) (b' := (ssW qs k gd wd se pr ln px cv co B R sx pt rd (nI v))) hP hD hk1 (fun q h => hA q (Nat.le_trans hS.1 h)) hP1 (rw_same hDc.self rfl)
        clear hP1 hk1 hPc hDc
        have hS := hS9
        clear hS9
        generalize H9 = H at hP hS ⊢
        have hP : va_P D vwCl ((mW qm k cd wd se kd bn sh mb pr B R sx pt rd (-1) ln px) ++ (ouW k ob of ++ ((ssW qs k gd wd se pr ln px cv co B R sx pt rd (nI v)) ++ (plW od k ad bd ed kd nb sh mb)))) _ := hP
        have hD : va_D A ((mW qm k cd wd se kd bn sh mb pr B R sx pt rd (-1) ln px) ++ (ouW k ob of ++ ((ssW qs k gd wd se pr ln px cv co B R sx pt rd (nI v)) ++ (plW od k ad bd ed kd nb sh mb)))) := hD
        refine lv_aload_n hx hb d_LW_law_502 rfl (lv_at hl 3 rfl) ?_
        refine lv_aload_n hx hb d_LW_law_503 rfl (lv_at hl 1 rfl) ?_
        refine lv_iload hx hb d_LW_law_504 (lv_at hl 0 rfl) ?_
        refine lv_iconst (v := nI 1) hx hb d_LW_law_506 (by decide +kernel) ?_
        refine lv_iadd hx hb d_LW_law_507 ?_
        refine ss_rt (y := nI (5 * i + 1)) (nI_add _ _) ?_
        refine va_sld hx hb hsc hbl hbA hS (vp_in_nI (by omega) (by omega)) d_LW_law_508 ?_
        refine ss_rt (y := nI 1) (by rw [nI_clamp (by omega)]; exact hx1.symm) ?_
        refine lv_aload_n hx hb d_LW_law_509 rfl (lv_at hl 1 rfl) ?_
        refine lv_iload hx hb d_LW_law_510 (lv_at hl 0 rfl) ?_
        refine lv_iconst (v := nI 2) hx hb d_LW_law_512 (by decide +kernel) ?_
        refine lv_iadd hx hb d_LW_law_513 ?_
        refine ss_rt (y := nI (5 * i + 2)) (nI_add _ _) ?_
        refine va_sld hx hb hsc hbl hbA hS (vp_in_nI (by omega) (by omega)) d_LW_law_514 ?_
        refine ss_rt (y := nI v) (by rw [nI_clamp (by omega)]; exact hx2.symm) ?_
        have hPc : va_P D vwCl (mW qm k cd wd se kd bn sh mb pr B R sx pt rd (-1) ln px) _ := va_subP (a := []) (b := (mW qm k cd wd se kd bn sh mb pr B R sx pt rd (-1) ln px)) (c := ouW k ob of ++ ((ssW qs k gd wd se pr ln px cv co B R sx pt rd (nI v)) ++ (plW od k ad bd ed kd nb sh mb))) hP
        have hDc : va_D A (mW qm k cd wd se kd bn sh mb pr B R sx pt rd (-1) ln px) := va_subD (a := []) (b := (mW qm k cd wd se kd bn sh mb pr B R sx pt rd (-1) ln px)) (c := ouW k ob of ++ ((ssW qs k gd wd se pr ln px cv co B R sx pt rd (nI v)) ++ (plW od k ad bd ed kd nb sh mb))) hD
        refine kw_iV (As := [.int (nI 1), .int (nI v)]) (rest := [.int (nI 1)]) ⟨hx, hb, hml, hown, hts⟩ (c_MO_out1N l D k qm cd wd se kd bn sh mb pr B R sx pt rd ln px v hv9) (cwV 2 hts (gV w_641 w_642 w_643 w_5 w_644) rfl rfl rfl (by decide +kernel) ⟨Nat.le_of_ble_eq_true rfl, Nat.le_of_ble_eq_true rfl⟩) hK hPc hDc hS hA (va_recv hK hPc (ci := 7) (q0 := 0) rfl rfl) rfl hl.1 rfl (Nat.le_of_ble_eq_true rfl) d_LW_law_515 ⟨by show 21 + 3 * i ≤ 601024; omega, by show 9395 + 263 * i ≤ 7293034; omega⟩ (fun _ _ H9 locs h9 hP1 hk1 hS9 => ?_)
        refine ss_rt h9 ?_
        clear h9
        obtain ⟨hP, hD⟩ := fr_mid (a := []) (b := (mW qm k cd wd se kd bn sh mb pr B R sx pt rd (-1) ln px)) (c := ouW k ob of ++ ((ssW qs k gd wd se pr ln px cv co B R sx pt rd (nI v)) ++ (plW od k ad bd ed kd nb sh mb))) (b' := (mW qm k (nI 0) wd se kd bn sh mb pr B R sx pt rd (nI v) ln px)) hP hD hk1 (fun q h => hA q (Nat.le_trans hS.1 h)) hP1 (rw_same hDc.self rfl)
        clear hP1 hk1 hPc hDc
        have hS := hS9
        clear hS9
        generalize H9 = H at hP hS ⊢
        have hP : va_P D vwCl ((mW qm k (nI 0) wd se kd bn sh mb pr B R sx pt rd (nI v) ln px) ++ (ouW k ob of ++ ((ssW qs k gd wd se pr ln px cv co B R sx pt rd (nI v)) ++ (plW od k ad bd ed kd nb sh mb)))) _ := hP
        have hD : va_D A ((mW qm k (nI 0) wd se kd bn sh mb pr B R sx pt rd (nI v) ln px) ++ (ouW k ob of ++ ((ssW qs k gd wd se pr ln px cv co B R sx pt rd (nI v)) ++ (plW od k ad bd ed kd nb sh mb)))) := hD
        refine lv_icmp_eq (tgt := 661) hx hb d_LW_law_518 (by decide) (fun c3 => ?_) (fun c3 => ?_)
        · have c3 := (Int32.toInt_inj.symm).mp c3
          refine lv_iinc (v := nI (5 * (i + 1))) (lv' := [(4, .int (nI (5 * (i + 1)))), (0, .ref b), (1, .ref (qs 0)), (2, .ref (qm 0)), (3, .ref ob)]) hx hb d_LW_law_661 hl (k := 0) rfl ((nI_add (5 * i) 5).trans (by rw [Nat.mul_succ])) (by decide) rfl (fun ls hl => ?_)
          refine lv_goto (tgt := 23) hx hb d_LW_law_664 (by decide) ?_
          refine W.widen (k := 21 + 3 * (i + 1)) (n := 9395 + 263 * (i + 1)) (by show 21 + 3 * i ≤ _; omega) (by show 9395 + 263 * i ≤ _; omega) ?_
          exact ih (nI 0) gd wd se pr ln px cv co B R sx pt rd (nI v) od ad bd ed kd nb sh mb bn of _ _ _ ⟨hwd, hse, hpr, hln, hB, hR, hsx, hpt, Or.inr ⟨v, hv9, rfl⟩, hO, hkd, hsh, hmb, hbn, hz⟩ hP hD hS (lv_sub hl [0, 1, 2, 3, 4] rfl)
        · have c3 := mt (Int32.toInt_inj.symm).mpr c3
          exfalso; omega
      · by_cases g1 : 127 < v
        · skip
          refine lv_aload_n hx hb d_LW_law_486 rfl (lv_at hl 2 rfl) ?_
          refine lv_aload_n hx hb d_LW_law_487 rfl (lv_at hl 1 rfl) ?_
          refine lv_iload hx hb d_LW_law_488 (lv_at hl 0 rfl) ?_
          refine lv_iconst (v := nI 1) hx hb d_LW_law_490 (by decide +kernel) ?_
          refine lv_iadd hx hb d_LW_law_491 ?_
          refine ss_rt (y := nI (5 * i + 1)) (nI_add _ _) ?_
          refine va_sld hx hb hsc hbl hbA hS (vp_in_nI (by omega) (by omega)) d_LW_law_492 ?_
          refine ss_rt (y := nI 1) (by rw [nI_clamp (by omega)]; exact hx1.symm) ?_
          refine lv_aload_n hx hb d_LW_law_493 rfl (lv_at hl 1 rfl) ?_
          refine lv_iload hx hb d_LW_law_494 (lv_at hl 0 rfl) ?_
          refine lv_iconst (v := nI 2) hx hb d_LW_law_496 (by decide +kernel) ?_
          refine lv_iadd hx hb d_LW_law_497 ?_
          refine ss_rt (y := nI (5 * i + 2)) (nI_add _ _) ?_
          refine va_sld hx hb hsc hbl hbA hS (vp_in_nI (by omega) (by omega)) d_LW_law_498 ?_
          refine ss_rt (y := nI v) (by rw [nI_clamp (by omega)]; exact hx2.symm) ?_
          have hPc : va_P D vwCl (ssW qs k gd wd se pr ln px cv co B R sx pt rd (nI a)) _ := va_subP (a := (mW qm k cd wd se kd bn sh mb pr B R sx pt rd (nI a) ln px) ++ ouW k ob of) (b := (ssW qs k gd wd se pr ln px cv co B R sx pt rd (nI a))) (c := (plW od k ad bd ed kd nb sh mb)) hP
          have hDc : va_D A (ssW qs k gd wd se pr ln px cv co B R sx pt rd (nI a)) := va_subD (a := (mW qm k cd wd se kd bn sh mb pr B R sx pt rd (nI a) ln px) ++ ouW k ob of) (b := (ssW qs k gd wd se pr ln px cv co B R sx pt rd (nI a))) (c := (plW od k ad bd ed kd nb sh mb)) hD
          refine kw_iV (As := [.int (nI 1), .int (nI v)]) (rest := []) ⟨hx, hb, hml, hown, hts⟩ (c_SS_out1R l D k qs gd wd se pr ln px cv co B R sx pt rd a ha v hv9 g1) (cwV 2 hts (gV w_154 w_155 w_156 w_1 w_157) rfl rfl rfl (by decide +kernel) ⟨Nat.le_of_ble_eq_true rfl, Nat.le_of_ble_eq_true rfl⟩) hK hPc hDc hS hA (va_recv hK hPc (ci := 0) (q0 := 0) rfl rfl) rfl hl.1 rfl (Nat.le_of_ble_eq_true rfl) d_LW_law_499 ⟨by show 21 + 3 * i ≤ 601024; omega, by show 9395 + 263 * i ≤ 7293034; omega⟩ (fun _ u9 H9 locs h9 hP1 hk1 hS9 => ?_)
          subst h9
          obtain ⟨hP, hD⟩ := fr_mid (a := (mW qm k cd wd se kd bn sh mb pr B R sx pt rd (nI a) ln px) ++ ouW k ob of) (b := (ssW qs k gd wd se pr ln px cv co B R sx pt rd (nI a))) (c := (plW od k ad bd ed kd nb sh mb)) (b' := (ssW qs k gd wd se pr ln px cv co B (ss_up R (v % 8) a) sx pt rd (-1))) hP hD hk1 (fun q h => hA q (Nat.le_trans hS.1 h)) hP1 (rw_same hDc.self rfl)
          clear hP1 hk1 hPc hDc
          have hS := hS9
          clear hS9
          generalize H9 = H at hP hS ⊢
          have hP : va_P D vwCl ((mW qm k cd wd se kd bn sh mb pr B R sx pt rd (nI a) ln px) ++ (ouW k ob of ++ ((ssW qs k gd wd se pr ln px cv co B (ss_up R (v % 8) a) sx pt rd (-1)) ++ (plW od k ad bd ed kd nb sh mb)))) _ := hP
          have hD : va_D A ((mW qm k cd wd se kd bn sh mb pr B R sx pt rd (nI a) ln px) ++ (ouW k ob of ++ ((ssW qs k gd wd se pr ln px cv co B (ss_up R (v % 8) a) sx pt rd (-1)) ++ (plW od k ad bd ed kd nb sh mb)))) := hD
          refine lv_aload_n hx hb d_LW_law_502 rfl (lv_at hl 3 rfl) ?_
          refine lv_aload_n hx hb d_LW_law_503 rfl (lv_at hl 1 rfl) ?_
          refine lv_iload hx hb d_LW_law_504 (lv_at hl 0 rfl) ?_
          refine lv_iconst (v := nI 1) hx hb d_LW_law_506 (by decide +kernel) ?_
          refine lv_iadd hx hb d_LW_law_507 ?_
          refine ss_rt (y := nI (5 * i + 1)) (nI_add _ _) ?_
          refine va_sld hx hb hsc hbl hbA hS (vp_in_nI (by omega) (by omega)) d_LW_law_508 ?_
          refine ss_rt (y := nI 1) (by rw [nI_clamp (by omega)]; exact hx1.symm) ?_
          refine lv_aload_n hx hb d_LW_law_509 rfl (lv_at hl 1 rfl) ?_
          refine lv_iload hx hb d_LW_law_510 (lv_at hl 0 rfl) ?_
          refine lv_iconst (v := nI 2) hx hb d_LW_law_512 (by decide +kernel) ?_
          refine lv_iadd hx hb d_LW_law_513 ?_
          refine ss_rt (y := nI (5 * i + 2)) (nI_add _ _) ?_
          refine va_sld hx hb hsc hbl hbA hS (vp_in_nI (by omega) (by omega)) d_LW_law_514 ?_
          refine ss_rt (y := nI v) (by rw [nI_clamp (by omega)]; exact hx2.symm) ?_
          have hPc : va_P D vwCl (mW qm k cd wd se kd bn sh mb pr B R sx pt rd (nI a) ln px) _ := va_subP (a := []) (b := (mW qm k cd wd se kd bn sh mb pr B R sx pt rd (nI a) ln px)) (c := ouW k ob of ++ ((ssW qs k gd wd se pr ln px cv co B (ss_up R (v % 8) a) sx pt rd (-1)) ++ (plW od k ad bd ed kd nb sh mb))) hP
          have hDc : va_D A (mW qm k cd wd se kd bn sh mb pr B R sx pt rd (nI a) ln px) := va_subD (a := []) (b := (mW qm k cd wd se kd bn sh mb pr B R sx pt rd (nI a) ln px)) (c := ouW k ob of ++ ((ssW qs k gd wd se pr ln px cv co B (ss_up R (v % 8) a) sx pt rd (-1)) ++ (plW od k ad bd ed kd nb sh mb))) hD
          refine kw_iV (As := [.int (nI 1), .int (nI v)]) (rest := [.int (nI 1)]) ⟨hx, hb, hml, hown, hts⟩ (c_MO_out1R l D k qm cd wd se kd bn sh mb pr B R sx pt rd ln px a v ha hv9 g1) (cwV 2 hts (gV w_641 w_642 w_643 w_5 w_644) rfl rfl rfl (by decide +kernel) ⟨Nat.le_of_ble_eq_true rfl, Nat.le_of_ble_eq_true rfl⟩) hK hPc hDc hS hA (va_recv hK hPc (ci := 7) (q0 := 0) rfl rfl) rfl hl.1 rfl (Nat.le_of_ble_eq_true rfl) d_LW_law_515 ⟨by show 21 + 3 * i ≤ 601024; omega, by show 9395 + 263 * i ≤ 7293034; omega⟩ (fun _ _ H9 locs h9 hP1 hk1 hS9 => ?_)
          refine ss_rt h9 ?_
          clear h9
          obtain ⟨hP, hD⟩ := fr_mid (a := []) (b := (mW qm k cd wd se kd bn sh mb pr B R sx pt rd (nI a) ln px)) (c := ouW k ob of ++ ((ssW qs k gd wd se pr ln px cv co B (ss_up R (v % 8) a) sx pt rd (-1)) ++ (plW od k ad bd ed kd nb sh mb))) (b' := (mW qm k (nI 0) wd se kd bn sh mb pr B (ss_up R (v % 8) a) sx pt rd (-1) ln px)) hP hD hk1 (fun q h => hA q (Nat.le_trans hS.1 h)) hP1 (rw_same hDc.self rfl)
          clear hP1 hk1 hPc hDc
          have hS := hS9
          clear hS9
          generalize H9 = H at hP hS ⊢
          have hP : va_P D vwCl ((mW qm k (nI 0) wd se kd bn sh mb pr B (ss_up R (v % 8) a) sx pt rd (-1) ln px) ++ (ouW k ob of ++ ((ssW qs k gd wd se pr ln px cv co B (ss_up R (v % 8) a) sx pt rd (-1)) ++ (plW od k ad bd ed kd nb sh mb)))) _ := hP
          have hD : va_D A ((mW qm k (nI 0) wd se kd bn sh mb pr B (ss_up R (v % 8) a) sx pt rd (-1) ln px) ++ (ouW k ob of ++ ((ssW qs k gd wd se pr ln px cv co B (ss_up R (v % 8) a) sx pt rd (-1)) ++ (plW od k ad bd ed kd nb sh mb)))) := hD
          refine lv_icmp_eq (tgt := 661) hx hb d_LW_law_518 (by decide) (fun c4 => ?_) (fun c4 => ?_)
          · have c4 := (Int32.toInt_inj.symm).mp c4
            refine lv_iinc (v := nI (5 * (i + 1))) (lv' := [(4, .int (nI (5 * (i + 1)))), (0, .ref b), (1, .ref (qs 0)), (2, .ref (qm 0)), (3, .ref ob)]) hx hb d_LW_law_661 hl (k := 0) rfl ((nI_add (5 * i) 5).trans (by rw [Nat.mul_succ])) (by decide) rfl (fun ls hl => ?_)
            refine lv_goto (tgt := 23) hx hb d_LW_law_664 (by decide) ?_
            refine W.widen (k := 21 + 3 * (i + 1)) (n := 9395 + 263 * (i + 1)) (by show 21 + 3 * i ≤ _; omega) (by show 9395 + 263 * i ≤ _; omega) ?_
            exact ih (nI 0) gd wd se pr ln px cv co B (ss_up R (v % 8) a) sx pt rd (-1) od ad bd ed kd nb sh mb bn of _ _ _ ⟨hwd, hse, hpr, hln, hB, ss_up_lt hR ha, hsx, hpt, Or.inl rfl, hO, hkd, hsh, hmb, hbn, hz⟩ hP hD hS (lv_sub hl [0, 1, 2, 3, 4] rfl)
          · have c4 := mt (Int32.toInt_inj.symm).mpr c4
            exfalso; omega
        · by_cases g2 : 64 ≤ v
          · skip
            refine lv_aload_n hx hb d_LW_law_486 rfl (lv_at hl 2 rfl) ?_
            refine lv_aload_n hx hb d_LW_law_487 rfl (lv_at hl 1 rfl) ?_
            refine lv_iload hx hb d_LW_law_488 (lv_at hl 0 rfl) ?_
            refine lv_iconst (v := nI 1) hx hb d_LW_law_490 (by decide +kernel) ?_
            refine lv_iadd hx hb d_LW_law_491 ?_
            refine ss_rt (y := nI (5 * i + 1)) (nI_add _ _) ?_
            refine va_sld hx hb hsc hbl hbA hS (vp_in_nI (by omega) (by omega)) d_LW_law_492 ?_
            refine ss_rt (y := nI 1) (by rw [nI_clamp (by omega)]; exact hx1.symm) ?_
            refine lv_aload_n hx hb d_LW_law_493 rfl (lv_at hl 1 rfl) ?_
            refine lv_iload hx hb d_LW_law_494 (lv_at hl 0 rfl) ?_
            refine lv_iconst (v := nI 2) hx hb d_LW_law_496 (by decide +kernel) ?_
            refine lv_iadd hx hb d_LW_law_497 ?_
            refine ss_rt (y := nI (5 * i + 2)) (nI_add _ _) ?_
            refine va_sld hx hb hsc hbl hbA hS (vp_in_nI (by omega) (by omega)) d_LW_law_498 ?_
            refine ss_rt (y := nI v) (by rw [nI_clamp (by omega)]; exact hx2.symm) ?_
            have hPc : va_P D vwCl (ssW qs k gd wd se pr ln px cv co B R sx pt rd (nI a)) _ := va_subP (a := (mW qm k cd wd se kd bn sh mb pr B R sx pt rd (nI a) ln px) ++ ouW k ob of) (b := (ssW qs k gd wd se pr ln px cv co B R sx pt rd (nI a))) (c := (plW od k ad bd ed kd nb sh mb)) hP
            have hDc : va_D A (ssW qs k gd wd se pr ln px cv co B R sx pt rd (nI a)) := va_subD (a := (mW qm k cd wd se kd bn sh mb pr B R sx pt rd (nI a) ln px) ++ ouW k ob of) (b := (ssW qs k gd wd se pr ln px cv co B R sx pt rd (nI a))) (c := (plW od k ad bd ed kd nb sh mb)) hD
            refine kw_iV (As := [.int (nI 1), .int (nI v)]) (rest := []) ⟨hx, hb, hml, hown, hts⟩ (c_SS_out1P l D k qs gd wd se pr ln px cv co B R sx pt rd a ha v hv9 (by omega) g2) (cwV 2 hts (gV w_154 w_155 w_156 w_1 w_157) rfl rfl rfl (by decide +kernel) ⟨Nat.le_of_ble_eq_true rfl, Nat.le_of_ble_eq_true rfl⟩) hK hPc hDc hS hA (va_recv hK hPc (ci := 0) (q0 := 0) rfl rfl) rfl hl.1 rfl (Nat.le_of_ble_eq_true rfl) d_LW_law_499 ⟨by show 21 + 3 * i ≤ 601024; omega, by show 9395 + 263 * i ≤ 7293034; omega⟩ (fun _ u9 H9 locs h9 hP1 hk1 hS9 => ?_)
            subst h9
            obtain ⟨hP, hD⟩ := fr_mid (a := (mW qm k cd wd se kd bn sh mb pr B R sx pt rd (nI a) ln px) ++ ouW k ob of) (b := (ssW qs k gd wd se pr ln px cv co B R sx pt rd (nI a))) (c := (plW od k ad bd ed kd nb sh mb)) (b' := (ssW qs k gd wd se pr ln px cv co B R sx (a + 256 * (v % 2)) rd (-1))) hP hD hk1 (fun q h => hA q (Nat.le_trans hS.1 h)) hP1 (rw_same hDc.self rfl)
            clear hP1 hk1 hPc hDc
            have hS := hS9
            clear hS9
            generalize H9 = H at hP hS ⊢
            have hP : va_P D vwCl ((mW qm k cd wd se kd bn sh mb pr B R sx pt rd (nI a) ln px) ++ (ouW k ob of ++ ((ssW qs k gd wd se pr ln px cv co B R sx (a + 256 * (v % 2)) rd (-1)) ++ (plW od k ad bd ed kd nb sh mb)))) _ := hP
            have hD : va_D A ((mW qm k cd wd se kd bn sh mb pr B R sx pt rd (nI a) ln px) ++ (ouW k ob of ++ ((ssW qs k gd wd se pr ln px cv co B R sx (a + 256 * (v % 2)) rd (-1)) ++ (plW od k ad bd ed kd nb sh mb)))) := hD
            refine lv_aload_n hx hb d_LW_law_502 rfl (lv_at hl 3 rfl) ?_
            refine lv_aload_n hx hb d_LW_law_503 rfl (lv_at hl 1 rfl) ?_
            refine lv_iload hx hb d_LW_law_504 (lv_at hl 0 rfl) ?_
            refine lv_iconst (v := nI 1) hx hb d_LW_law_506 (by decide +kernel) ?_
            refine lv_iadd hx hb d_LW_law_507 ?_
            refine ss_rt (y := nI (5 * i + 1)) (nI_add _ _) ?_
            refine va_sld hx hb hsc hbl hbA hS (vp_in_nI (by omega) (by omega)) d_LW_law_508 ?_
            refine ss_rt (y := nI 1) (by rw [nI_clamp (by omega)]; exact hx1.symm) ?_
            refine lv_aload_n hx hb d_LW_law_509 rfl (lv_at hl 1 rfl) ?_
            refine lv_iload hx hb d_LW_law_510 (lv_at hl 0 rfl) ?_
            refine lv_iconst (v := nI 2) hx hb d_LW_law_512 (by decide +kernel) ?_
            refine lv_iadd hx hb d_LW_law_513 ?_
            refine ss_rt (y := nI (5 * i + 2)) (nI_add _ _) ?_
            refine va_sld hx hb hsc hbl hbA hS (vp_in_nI (by omega) (by omega)) d_LW_law_514 ?_
            refine ss_rt (y := nI v) (by rw [nI_clamp (by omega)]; exact hx2.symm) ?_
            have hPc : va_P D vwCl (mW qm k cd wd se kd bn sh mb pr B R sx pt rd (nI a) ln px) _ := va_subP (a := []) (b := (mW qm k cd wd se kd bn sh mb pr B R sx pt rd (nI a) ln px)) (c := ouW k ob of ++ ((ssW qs k gd wd se pr ln px cv co B R sx (a + 256 * (v % 2)) rd (-1)) ++ (plW od k ad bd ed kd nb sh mb))) hP
            have hDc : va_D A (mW qm k cd wd se kd bn sh mb pr B R sx pt rd (nI a) ln px) := va_subD (a := []) (b := (mW qm k cd wd se kd bn sh mb pr B R sx pt rd (nI a) ln px)) (c := ouW k ob of ++ ((ssW qs k gd wd se pr ln px cv co B R sx (a + 256 * (v % 2)) rd (-1)) ++ (plW od k ad bd ed kd nb sh mb))) hD
            refine kw_iV (As := [.int (nI 1), .int (nI v)]) (rest := [.int (nI 1)]) ⟨hx, hb, hml, hown, hts⟩ (c_MO_out1P l D k qm cd wd se kd bn sh mb pr B R sx pt rd ln px a v ha hv9 (by omega) g2) (cwV 2 hts (gV w_641 w_642 w_643 w_5 w_644) rfl rfl rfl (by decide +kernel) ⟨Nat.le_of_ble_eq_true rfl, Nat.le_of_ble_eq_true rfl⟩) hK hPc hDc hS hA (va_recv hK hPc (ci := 7) (q0 := 0) rfl rfl) rfl hl.1 rfl (Nat.le_of_ble_eq_true rfl) d_LW_law_515 ⟨by show 21 + 3 * i ≤ 601024; omega, by show 9395 + 263 * i ≤ 7293034; omega⟩ (fun _ _ H9 locs h9 hP1 hk1 hS9 => ?_)
            refine ss_rt h9 ?_
            clear h9
            obtain ⟨hP, hD⟩ := fr_mid (a := []) (b := (mW qm k cd wd se kd bn sh mb pr B R sx pt rd (nI a) ln px)) (c := ouW k ob of ++ ((ssW qs k gd wd se pr ln px cv co B R sx (a + 256 * (v % 2)) rd (-1)) ++ (plW od k ad bd ed kd nb sh mb))) (b' := (mW qm k (nI 0) wd se kd bn sh mb pr B R sx (a + 256 * (v % 2)) rd (-1) ln px)) hP hD hk1 (fun q h => hA q (Nat.le_trans hS.1 h)) hP1 (rw_same hDc.self rfl)
            clear hP1 hk1 hPc hDc
            have hS := hS9
            clear hS9
            generalize H9 = H at hP hS ⊢
            have hP : va_P D vwCl ((mW qm k (nI 0) wd se kd bn sh mb pr B R sx (a + 256 * (v % 2)) rd (-1) ln px) ++ (ouW k ob of ++ ((ssW qs k gd wd se pr ln px cv co B R sx (a + 256 * (v % 2)) rd (-1)) ++ (plW od k ad bd ed kd nb sh mb)))) _ := hP
            have hD : va_D A ((mW qm k (nI 0) wd se kd bn sh mb pr B R sx (a + 256 * (v % 2)) rd (-1) ln px) ++ (ouW k ob of ++ ((ssW qs k gd wd se pr ln px cv co B R sx (a + 256 * (v % 2)) rd (-1)) ++ (plW od k ad bd ed kd nb sh mb)))) := hD
            refine lv_icmp_eq (tgt := 661) hx hb d_LW_law_518 (by decide) (fun c5 => ?_) (fun c5 => ?_)
            · have c5 := (Int32.toInt_inj.symm).mp c5
              refine lv_iinc (v := nI (5 * (i + 1))) (lv' := [(4, .int (nI (5 * (i + 1)))), (0, .ref b), (1, .ref (qs 0)), (2, .ref (qm 0)), (3, .ref ob)]) hx hb d_LW_law_661 hl (k := 0) rfl ((nI_add (5 * i) 5).trans (by rw [Nat.mul_succ])) (by decide) rfl (fun ls hl => ?_)
              refine lv_goto (tgt := 23) hx hb d_LW_law_664 (by decide) ?_
              refine W.widen (k := 21 + 3 * (i + 1)) (n := 9395 + 263 * (i + 1)) (by show 21 + 3 * i ≤ _; omega) (by show 9395 + 263 * i ≤ _; omega) ?_
              exact ih (nI 0) gd wd se pr ln px cv co B R sx (a + 256 * (v % 2)) rd (-1) od ad bd ed kd nb sh mb bn of _ _ _ ⟨hwd, hse, hpr, hln, hB, hR, hsx, (by omega), Or.inl rfl, hO, hkd, hsh, hmb, hbn, hz⟩ hP hD hS (lv_sub hl [0, 1, 2, 3, 4] rfl)
            · have c5 := mt (Int32.toInt_inj.symm).mpr c5
              exfalso; omega
          · skip
            refine lv_aload_n hx hb d_LW_law_486 rfl (lv_at hl 2 rfl) ?_
            refine lv_aload_n hx hb d_LW_law_487 rfl (lv_at hl 1 rfl) ?_
            refine lv_iload hx hb d_LW_law_488 (lv_at hl 0 rfl) ?_
            refine lv_iconst (v := nI 1) hx hb d_LW_law_490 (by decide +kernel) ?_
            refine lv_iadd hx hb d_LW_law_491 ?_
            refine ss_rt (y := nI (5 * i + 1)) (nI_add _ _) ?_
            refine va_sld hx hb hsc hbl hbA hS (vp_in_nI (by omega) (by omega)) d_LW_law_492 ?_
            refine ss_rt (y := nI 1) (by rw [nI_clamp (by omega)]; exact hx1.symm) ?_
            refine lv_aload_n hx hb d_LW_law_493 rfl (lv_at hl 1 rfl) ?_
            refine lv_iload hx hb d_LW_law_494 (lv_at hl 0 rfl) ?_
            refine lv_iconst (v := nI 2) hx hb d_LW_law_496 (by decide +kernel) ?_
            refine lv_iadd hx hb d_LW_law_497 ?_
            refine ss_rt (y := nI (5 * i + 2)) (nI_add _ _) ?_
            refine va_sld hx hb hsc hbl hbA hS (vp_in_nI (by omega) (by omega)) d_LW_law_498 ?_
            refine ss_rt (y := nI v) (by rw [nI_clamp (by omega)]; exact hx2.symm) ?_
            have hPc : va_P D vwCl (ssW qs k gd wd se pr ln px cv co B R sx pt rd (nI a)) _ := va_subP (a := (mW qm k cd wd se kd bn sh mb pr B R sx pt rd (nI a) ln px) ++ ouW k ob of) (b := (ssW qs k gd wd se pr ln px cv co B R sx pt rd (nI a))) (c := (plW od k ad bd ed kd nb sh mb)) hP
            have hDc : va_D A (ssW qs k gd wd se pr ln px cv co B R sx pt rd (nI a)) := va_subD (a := (mW qm k cd wd se kd bn sh mb pr B R sx pt rd (nI a) ln px) ++ ouW k ob of) (b := (ssW qs k gd wd se pr ln px cv co B R sx pt rd (nI a))) (c := (plW od k ad bd ed kd nb sh mb)) hD
            refine kw_iV (As := [.int (nI 1), .int (nI v)]) (rest := []) ⟨hx, hb, hml, hown, hts⟩ (c_SS_out1F l D k qs gd wd se pr ln px cv co B R sx pt rd a ha v hv9 (by omega)) (cwV 2 hts (gV w_154 w_155 w_156 w_1 w_157) rfl rfl rfl (by decide +kernel) ⟨Nat.le_of_ble_eq_true rfl, Nat.le_of_ble_eq_true rfl⟩) hK hPc hDc hS hA (va_recv hK hPc (ci := 0) (q0 := 0) rfl rfl) rfl hl.1 rfl (Nat.le_of_ble_eq_true rfl) d_LW_law_499 ⟨by show 21 + 3 * i ≤ 601024; omega, by show 9395 + 263 * i ≤ 7293034; omega⟩ (fun _ u9 H9 locs h9 hP1 hk1 hS9 => ?_)
            subst h9
            obtain ⟨hP, hD⟩ := fr_mid (a := (mW qm k cd wd se kd bn sh mb pr B R sx pt rd (nI a) ln px) ++ ouW k ob of) (b := (ssW qs k gd wd se pr ln px cv co B R sx pt rd (nI a))) (c := (plW od k ad bd ed kd nb sh mb)) (b' := (ssW qs k gd wd se pr ln px cv co B R sx ((a + 256 * (v % 2) + 1) % 512) (B (a + 256 * (v % 2))) (-1))) hP hD hk1 (fun q h => hA q (Nat.le_trans hS.1 h)) hP1 (rw_same hDc.self rfl)
            clear hP1 hk1 hPc hDc
            have hS := hS9
            clear hS9
            generalize H9 = H at hP hS ⊢
            have hP : va_P D vwCl ((mW qm k cd wd se kd bn sh mb pr B R sx pt rd (nI a) ln px) ++ (ouW k ob of ++ ((ssW qs k gd wd se pr ln px cv co B R sx ((a + 256 * (v % 2) + 1) % 512) (B (a + 256 * (v % 2))) (-1)) ++ (plW od k ad bd ed kd nb sh mb)))) _ := hP
            have hD : va_D A ((mW qm k cd wd se kd bn sh mb pr B R sx pt rd (nI a) ln px) ++ (ouW k ob of ++ ((ssW qs k gd wd se pr ln px cv co B R sx ((a + 256 * (v % 2) + 1) % 512) (B (a + 256 * (v % 2))) (-1)) ++ (plW od k ad bd ed kd nb sh mb)))) := hD
            refine lv_aload_n hx hb d_LW_law_502 rfl (lv_at hl 3 rfl) ?_
            refine lv_aload_n hx hb d_LW_law_503 rfl (lv_at hl 1 rfl) ?_
            refine lv_iload hx hb d_LW_law_504 (lv_at hl 0 rfl) ?_
            refine lv_iconst (v := nI 1) hx hb d_LW_law_506 (by decide +kernel) ?_
            refine lv_iadd hx hb d_LW_law_507 ?_
            refine ss_rt (y := nI (5 * i + 1)) (nI_add _ _) ?_
            refine va_sld hx hb hsc hbl hbA hS (vp_in_nI (by omega) (by omega)) d_LW_law_508 ?_
            refine ss_rt (y := nI 1) (by rw [nI_clamp (by omega)]; exact hx1.symm) ?_
            refine lv_aload_n hx hb d_LW_law_509 rfl (lv_at hl 1 rfl) ?_
            refine lv_iload hx hb d_LW_law_510 (lv_at hl 0 rfl) ?_
            refine lv_iconst (v := nI 2) hx hb d_LW_law_512 (by decide +kernel) ?_
            refine lv_iadd hx hb d_LW_law_513 ?_
            refine ss_rt (y := nI (5 * i + 2)) (nI_add _ _) ?_
            refine va_sld hx hb hsc hbl hbA hS (vp_in_nI (by omega) (by omega)) d_LW_law_514 ?_
            refine ss_rt (y := nI v) (by rw [nI_clamp (by omega)]; exact hx2.symm) ?_
            have hPc : va_P D vwCl (mW qm k cd wd se kd bn sh mb pr B R sx pt rd (nI a) ln px) _ := va_subP (a := []) (b := (mW qm k cd wd se kd bn sh mb pr B R sx pt rd (nI a) ln px)) (c := ouW k ob of ++ ((ssW qs k gd wd se pr ln px cv co B R sx ((a + 256 * (v % 2) + 1) % 512) (B (a + 256 * (v % 2))) (-1)) ++ (plW od k ad bd ed kd nb sh mb))) hP
            have hDc : va_D A (mW qm k cd wd se kd bn sh mb pr B R sx pt rd (nI a) ln px) := va_subD (a := []) (b := (mW qm k cd wd se kd bn sh mb pr B R sx pt rd (nI a) ln px)) (c := ouW k ob of ++ ((ssW qs k gd wd se pr ln px cv co B R sx ((a + 256 * (v % 2) + 1) % 512) (B (a + 256 * (v % 2))) (-1)) ++ (plW od k ad bd ed kd nb sh mb))) hD
            refine kw_iV (As := [.int (nI 1), .int (nI v)]) (rest := [.int (nI 1)]) ⟨hx, hb, hml, hown, hts⟩ (c_MO_out1F l D k qm cd wd se kd bn sh mb pr B R sx pt rd ln px a v ha hv9 (by omega)) (cwV 2 hts (gV w_641 w_642 w_643 w_5 w_644) rfl rfl rfl (by decide +kernel) ⟨Nat.le_of_ble_eq_true rfl, Nat.le_of_ble_eq_true rfl⟩) hK hPc hDc hS hA (va_recv hK hPc (ci := 7) (q0 := 0) rfl rfl) rfl hl.1 rfl (Nat.le_of_ble_eq_true rfl) d_LW_law_515 ⟨by show 21 + 3 * i ≤ 601024; omega, by show 9395 + 263 * i ≤ 7293034; omega⟩ (fun _ _ H9 locs h9 hP1 hk1 hS9 => ?_)
            refine ss_rt h9 ?_
            clear h9
            obtain ⟨hP, hD⟩ := fr_mid (a := []) (b := (mW qm k cd wd se kd bn sh mb pr B R sx pt rd (nI a) ln px)) (c := ouW k ob of ++ ((ssW qs k gd wd se pr ln px cv co B R sx ((a + 256 * (v % 2) + 1) % 512) (B (a + 256 * (v % 2))) (-1)) ++ (plW od k ad bd ed kd nb sh mb))) (b' := (mW qm k (nI 0) wd se kd bn sh mb pr B R sx ((a + 256 * (v % 2) + 1) % 512) (B (a + 256 * (v % 2))) (-1) ln px)) hP hD hk1 (fun q h => hA q (Nat.le_trans hS.1 h)) hP1 (rw_same hDc.self rfl)
            clear hP1 hk1 hPc hDc
            have hS := hS9
            clear hS9
            generalize H9 = H at hP hS ⊢
            have hP : va_P D vwCl ((mW qm k (nI 0) wd se kd bn sh mb pr B R sx ((a + 256 * (v % 2) + 1) % 512) (B (a + 256 * (v % 2))) (-1) ln px) ++ (ouW k ob of ++ ((ssW qs k gd wd se pr ln px cv co B R sx ((a + 256 * (v % 2) + 1) % 512) (B (a + 256 * (v % 2))) (-1)) ++ (plW od k ad bd ed kd nb sh mb)))) _ := hP
            have hD : va_D A ((mW qm k (nI 0) wd se kd bn sh mb pr B R sx ((a + 256 * (v % 2) + 1) % 512) (B (a + 256 * (v % 2))) (-1) ln px) ++ (ouW k ob of ++ ((ssW qs k gd wd se pr ln px cv co B R sx ((a + 256 * (v % 2) + 1) % 512) (B (a + 256 * (v % 2))) (-1)) ++ (plW od k ad bd ed kd nb sh mb)))) := hD
            refine lv_icmp_eq (tgt := 661) hx hb d_LW_law_518 (by decide) (fun c6 => ?_) (fun c6 => ?_)
            · have c6 := (Int32.toInt_inj.symm).mp c6
              refine lv_iinc (v := nI (5 * (i + 1))) (lv' := [(4, .int (nI (5 * (i + 1)))), (0, .ref b), (1, .ref (qs 0)), (2, .ref (qm 0)), (3, .ref ob)]) hx hb d_LW_law_661 hl (k := 0) rfl ((nI_add (5 * i) 5).trans (by rw [Nat.mul_succ])) (by decide) rfl (fun ls hl => ?_)
              refine lv_goto (tgt := 23) hx hb d_LW_law_664 (by decide) ?_
              refine W.widen (k := 21 + 3 * (i + 1)) (n := 9395 + 263 * (i + 1)) (by show 21 + 3 * i ≤ _; omega) (by show 9395 + 263 * i ≤ _; omega) ?_
              exact ih (nI 0) gd wd se pr ln px cv co B R sx ((a + 256 * (v % 2) + 1) % 512) (B (a + 256 * (v % 2))) (-1) od ad bd ed kd nb sh mb bn of _ _ _ ⟨hwd, hse, hpr, hln, hB, hR, hsx, Nat.mod_lt _ (by omega), Or.inl rfl, hO, hkd, hsh, hmb, hbn, hz⟩ hP hD hS (lv_sub hl [0, 1, 2, 3, 4] rfl)
            · have c6 := mt (Int32.toInt_inj.symm).mpr c6
              exfalso; omega
    refine lv_aload_n hx hb d_LW_law_486 rfl (lv_at hl 2 rfl) ?_
    refine lv_aload_n hx hb d_LW_law_487 rfl (lv_at hl 1 rfl) ?_
    refine lv_iload hx hb d_LW_law_488 (lv_at hl 0 rfl) ?_
    refine lv_iconst (v := nI 1) hx hb d_LW_law_490 (by decide +kernel) ?_
    refine lv_iadd hx hb d_LW_law_491 ?_
    refine ss_rt (y := nI (5 * i + 1)) (nI_add _ _) ?_
    refine va_sld hx hb hsc hbl hbA hS (vp_in_nI (by omega) (by omega)) d_LW_law_492 ?_
    refine ss_rt (y := x1) (by rw [nI_clamp (by omega)]; exact hx1.symm) ?_
    refine lv_aload_n hx hb d_LW_law_493 rfl (lv_at hl 1 rfl) ?_
    refine lv_iload hx hb d_LW_law_494 (lv_at hl 0 rfl) ?_
    refine lv_iconst (v := nI 2) hx hb d_LW_law_496 (by decide +kernel) ?_
    refine lv_iadd hx hb d_LW_law_497 ?_
    refine ss_rt (y := nI (5 * i + 2)) (nI_add _ _) ?_
    refine va_sld hx hb hsc hbl hbA hS (vp_in_nI (by omega) (by omega)) d_LW_law_498 ?_
    refine ss_rt (y := nI v) (by rw [nI_clamp (by omega)]; exact hx2.symm) ?_
    have hPc : va_P D vwCl (ssW qs k gd wd se pr ln px cv co B R sx pt rd wt) _ := va_subP (a := (mW qm k cd wd se kd bn sh mb pr B R sx pt rd wt ln px) ++ ouW k ob of) (b := (ssW qs k gd wd se pr ln px cv co B R sx pt rd wt)) (c := (plW od k ad bd ed kd nb sh mb)) hP
    have hDc : va_D A (ssW qs k gd wd se pr ln px cv co B R sx pt rd wt) := va_subD (a := (mW qm k cd wd se kd bn sh mb pr B R sx pt rd wt ln px) ++ ouW k ob of) (b := (ssW qs k gd wd se pr ln px cv co B R sx pt rd wt)) (c := (plW od k ad bd ed kd nb sh mb)) hD
    refine kw_iV (As := [.int x1, .int (nI v)]) (rest := []) ⟨hx, hb, hml, hown, hts⟩ (c_SS_outo l D k qs gd wd se pr ln px cv co B R sx pt rd wt x1 v hv9 ⟨by omega, by omega, by omega⟩) (cwV 2 hts (gV w_154 w_155 w_156 w_1 w_157) rfl rfl rfl (by decide +kernel) ⟨Nat.le_of_ble_eq_true rfl, Nat.le_of_ble_eq_true rfl⟩) hK hPc hDc hS hA (va_recv hK hPc (ci := 0) (q0 := 0) rfl rfl) rfl hl.1 rfl (Nat.le_of_ble_eq_true rfl) d_LW_law_499 ⟨by show 21 + 3 * i ≤ 601024; omega, by show 9395 + 263 * i ≤ 7293034; omega⟩ (fun _ u9 H9 locs h9 hP1 hk1 hS9 => ?_)
    subst h9
    obtain ⟨hP, hD⟩ := fr_mid (a := (mW qm k cd wd se kd bn sh mb pr B R sx pt rd wt ln px) ++ ouW k ob of) (b := (ssW qs k gd wd se pr ln px cv co B R sx pt rd wt)) (c := (plW od k ad bd ed kd nb sh mb)) (b' := (ssW qs k gd wd se pr ln px cv co B R sx pt rd wt)) hP hD hk1 (fun q h => hA q (Nat.le_trans hS.1 h)) hP1 (rw_same hDc.self rfl)
    clear hP1 hk1 hPc hDc
    have hS := hS9
    clear hS9
    generalize H9 = H at hP hS ⊢
    have hP : va_P D vwCl ((mW qm k cd wd se kd bn sh mb pr B R sx pt rd wt ln px) ++ (ouW k ob of ++ ((ssW qs k gd wd se pr ln px cv co B R sx pt rd wt) ++ (plW od k ad bd ed kd nb sh mb)))) _ := hP
    have hD : va_D A ((mW qm k cd wd se kd bn sh mb pr B R sx pt rd wt ln px) ++ (ouW k ob of ++ ((ssW qs k gd wd se pr ln px cv co B R sx pt rd wt) ++ (plW od k ad bd ed kd nb sh mb)))) := hD
    refine lv_aload_n hx hb d_LW_law_502 rfl (lv_at hl 3 rfl) ?_
    refine lv_aload_n hx hb d_LW_law_503 rfl (lv_at hl 1 rfl) ?_
    refine lv_iload hx hb d_LW_law_504 (lv_at hl 0 rfl) ?_
    refine lv_iconst (v := nI 1) hx hb d_LW_law_506 (by decide +kernel) ?_
    refine lv_iadd hx hb d_LW_law_507 ?_
    refine ss_rt (y := nI (5 * i + 1)) (nI_add _ _) ?_
    refine va_sld hx hb hsc hbl hbA hS (vp_in_nI (by omega) (by omega)) d_LW_law_508 ?_
    refine ss_rt (y := x1) (by rw [nI_clamp (by omega)]; exact hx1.symm) ?_
    refine lv_aload_n hx hb d_LW_law_509 rfl (lv_at hl 1 rfl) ?_
    refine lv_iload hx hb d_LW_law_510 (lv_at hl 0 rfl) ?_
    refine lv_iconst (v := nI 2) hx hb d_LW_law_512 (by decide +kernel) ?_
    refine lv_iadd hx hb d_LW_law_513 ?_
    refine ss_rt (y := nI (5 * i + 2)) (nI_add _ _) ?_
    refine va_sld hx hb hsc hbl hbA hS (vp_in_nI (by omega) (by omega)) d_LW_law_514 ?_
    refine ss_rt (y := nI v) (by rw [nI_clamp (by omega)]; exact hx2.symm) ?_
    have hPc : va_P D vwCl (mW qm k cd wd se kd bn sh mb pr B R sx pt rd wt ln px) _ := va_subP (a := []) (b := (mW qm k cd wd se kd bn sh mb pr B R sx pt rd wt ln px)) (c := ouW k ob of ++ ((ssW qs k gd wd se pr ln px cv co B R sx pt rd wt) ++ (plW od k ad bd ed kd nb sh mb))) hP
    have hDc : va_D A (mW qm k cd wd se kd bn sh mb pr B R sx pt rd wt ln px) := va_subD (a := []) (b := (mW qm k cd wd se kd bn sh mb pr B R sx pt rd wt ln px)) (c := ouW k ob of ++ ((ssW qs k gd wd se pr ln px cv co B R sx pt rd wt) ++ (plW od k ad bd ed kd nb sh mb))) hD
    refine kw_iV (As := [.int x1, .int (nI v)]) (rest := [.int (nI 1)]) ⟨hx, hb, hml, hown, hts⟩ (c_MO_outo l D k qm cd wd se kd bn sh mb pr B R sx pt rd wt ln px x1 v hv9 ⟨by omega, by omega, by omega⟩) (cwV 2 hts (gV w_641 w_642 w_643 w_5 w_644) rfl rfl rfl (by decide +kernel) ⟨Nat.le_of_ble_eq_true rfl, Nat.le_of_ble_eq_true rfl⟩) hK hPc hDc hS hA (va_recv hK hPc (ci := 7) (q0 := 0) rfl rfl) rfl hl.1 rfl (Nat.le_of_ble_eq_true rfl) d_LW_law_515 ⟨by show 21 + 3 * i ≤ 601024; omega, by show 9395 + 263 * i ≤ 7293034; omega⟩ (fun _ _ H9 locs h9 hP1 hk1 hS9 => ?_)
    refine ss_rt h9 ?_
    clear h9
    obtain ⟨hP, hD⟩ := fr_mid (a := []) (b := (mW qm k cd wd se kd bn sh mb pr B R sx pt rd wt ln px)) (c := ouW k ob of ++ ((ssW qs k gd wd se pr ln px cv co B R sx pt rd wt) ++ (plW od k ad bd ed kd nb sh mb))) (b' := (mW qm k (nI 0) wd se kd bn sh mb pr B R sx pt rd wt ln px)) hP hD hk1 (fun q h => hA q (Nat.le_trans hS.1 h)) hP1 (rw_same hDc.self rfl)
    clear hP1 hk1 hPc hDc
    have hS := hS9
    clear hS9
    generalize H9 = H at hP hS ⊢
    have hP : va_P D vwCl ((mW qm k (nI 0) wd se kd bn sh mb pr B R sx pt rd wt ln px) ++ (ouW k ob of ++ ((ssW qs k gd wd se pr ln px cv co B R sx pt rd wt) ++ (plW od k ad bd ed kd nb sh mb)))) _ := hP
    have hD : va_D A ((mW qm k (nI 0) wd se kd bn sh mb pr B R sx pt rd wt ln px) ++ (ouW k ob of ++ ((ssW qs k gd wd se pr ln px cv co B R sx pt rd wt) ++ (plW od k ad bd ed kd nb sh mb)))) := hD
    refine lv_icmp_eq (tgt := 661) hx hb d_LW_law_518 (by decide) (fun c7 => ?_) (fun c7 => ?_)
    · have c7 := (Int32.toInt_inj.symm).mp c7
      refine lv_iinc (v := nI (5 * (i + 1))) (lv' := [(4, .int (nI (5 * (i + 1)))), (0, .ref b), (1, .ref (qs 0)), (2, .ref (qm 0)), (3, .ref ob)]) hx hb d_LW_law_661 hl (k := 0) rfl ((nI_add (5 * i) 5).trans (by rw [Nat.mul_succ])) (by decide) rfl (fun ls hl => ?_)
      refine lv_goto (tgt := 23) hx hb d_LW_law_664 (by decide) ?_
      refine W.widen (k := 21 + 3 * (i + 1)) (n := 9395 + 263 * (i + 1)) (by show 21 + 3 * i ≤ _; omega) (by show 9395 + 263 * i ≤ _; omega) ?_
      exact ih (nI 0) gd wd se pr ln px cv co B R sx pt rd wt od ad bd ed kd nb sh mb bn of _ _ _ ⟨hwd, hse, hpr, hln, hB, hR, hsx, hpt, hwt, hO, hkd, hsh, hmb, hbn, hz⟩ hP hD hS (lv_sub hl [0, 1, 2, 3, 4] rfl)
    · have c7 := mt (Int32.toInt_inj.symm).mpr c7
      exfalso; omega
  · skip
    refine lv_aload_n hx hb d_LW_law_486 rfl (lv_at hl 2 rfl) ?_
    refine lv_aload_n hx hb d_LW_law_487 rfl (lv_at hl 1 rfl) ?_
    refine lv_iload hx hb d_LW_law_488 (lv_at hl 0 rfl) ?_
    refine lv_iconst (v := nI 1) hx hb d_LW_law_490 (by decide +kernel) ?_
    refine lv_iadd hx hb d_LW_law_491 ?_
    refine ss_rt (y := nI (5 * i + 1)) (nI_add _ _) ?_
    refine va_sld hx hb hsc hbl hbA hS (vp_in_nI (by omega) (by omega)) d_LW_law_492 ?_
    refine ss_rt (y := x1) (by rw [nI_clamp (by omega)]; exact hx1.symm) ?_
    refine lv_aload_n hx hb d_LW_law_493 rfl (lv_at hl 1 rfl) ?_
    refine lv_iload hx hb d_LW_law_494 (lv_at hl 0 rfl) ?_
    refine lv_iconst (v := nI 2) hx hb d_LW_law_496 (by decide +kernel) ?_
    refine lv_iadd hx hb d_LW_law_497 ?_
    refine ss_rt (y := nI (5 * i + 2)) (nI_add _ _) ?_
    refine va_sld hx hb hsc hbl hbA hS (vp_in_nI (by omega) (by omega)) d_LW_law_498 ?_
    refine ss_rt (y := x2) (by rw [nI_clamp (by omega)]; exact hx2.symm) ?_
    have hPc : va_P D vwCl (ssW qs k gd wd se pr ln px cv co B R sx pt rd wt) _ := va_subP (a := (mW qm k cd wd se kd bn sh mb pr B R sx pt rd wt ln px) ++ ouW k ob of) (b := (ssW qs k gd wd se pr ln px cv co B R sx pt rd wt)) (c := (plW od k ad bd ed kd nb sh mb)) hP
    have hDc : va_D A (ssW qs k gd wd se pr ln px cv co B R sx pt rd wt) := va_subD (a := (mW qm k cd wd se kd bn sh mb pr B R sx pt rd wt ln px) ++ ouW k ob of) (b := (ssW qs k gd wd se pr ln px cv co B R sx pt rd wt)) (c := (plW od k ad bd ed kd nb sh mb)) hD
    refine kw_iV (As := [.int x1, .int x2]) (rest := []) ⟨hx, hb, hml, hown, hts⟩ (c_SS_outb l D k qs gd wd se pr ln px cv co B R sx pt rd wt x1 x2 (by omega)) (cwV 2 hts (gV w_154 w_155 w_156 w_1 w_157) rfl rfl rfl (by decide +kernel) ⟨Nat.le_of_ble_eq_true rfl, Nat.le_of_ble_eq_true rfl⟩) hK hPc hDc hS hA (va_recv hK hPc (ci := 0) (q0 := 0) rfl rfl) rfl hl.1 rfl (Nat.le_of_ble_eq_true rfl) d_LW_law_499 ⟨by show 21 + 3 * i ≤ 601024; omega, by show 9395 + 263 * i ≤ 7293034; omega⟩ (fun _ u9 H9 locs h9 hP1 hk1 hS9 => ?_)
    subst h9
    obtain ⟨hP, hD⟩ := fr_mid (a := (mW qm k cd wd se kd bn sh mb pr B R sx pt rd wt ln px) ++ ouW k ob of) (b := (ssW qs k gd wd se pr ln px cv co B R sx pt rd wt)) (c := (plW od k ad bd ed kd nb sh mb)) (b' := (ssW qs k gd wd se pr ln px cv co B R sx pt rd wt)) hP hD hk1 (fun q h => hA q (Nat.le_trans hS.1 h)) hP1 (rw_same hDc.self rfl)
    clear hP1 hk1 hPc hDc
    have hS := hS9
    clear hS9
    generalize H9 = H at hP hS ⊢
    have hP : va_P D vwCl ((mW qm k cd wd se kd bn sh mb pr B R sx pt rd wt ln px) ++ (ouW k ob of ++ ((ssW qs k gd wd se pr ln px cv co B R sx pt rd wt) ++ (plW od k ad bd ed kd nb sh mb)))) _ := hP
    have hD : va_D A ((mW qm k cd wd se kd bn sh mb pr B R sx pt rd wt ln px) ++ (ouW k ob of ++ ((ssW qs k gd wd se pr ln px cv co B R sx pt rd wt) ++ (plW od k ad bd ed kd nb sh mb)))) := hD
    refine lv_aload_n hx hb d_LW_law_502 rfl (lv_at hl 3 rfl) ?_
    refine lv_aload_n hx hb d_LW_law_503 rfl (lv_at hl 1 rfl) ?_
    refine lv_iload hx hb d_LW_law_504 (lv_at hl 0 rfl) ?_
    refine lv_iconst (v := nI 1) hx hb d_LW_law_506 (by decide +kernel) ?_
    refine lv_iadd hx hb d_LW_law_507 ?_
    refine ss_rt (y := nI (5 * i + 1)) (nI_add _ _) ?_
    refine va_sld hx hb hsc hbl hbA hS (vp_in_nI (by omega) (by omega)) d_LW_law_508 ?_
    refine ss_rt (y := x1) (by rw [nI_clamp (by omega)]; exact hx1.symm) ?_
    refine lv_aload_n hx hb d_LW_law_509 rfl (lv_at hl 1 rfl) ?_
    refine lv_iload hx hb d_LW_law_510 (lv_at hl 0 rfl) ?_
    refine lv_iconst (v := nI 2) hx hb d_LW_law_512 (by decide +kernel) ?_
    refine lv_iadd hx hb d_LW_law_513 ?_
    refine ss_rt (y := nI (5 * i + 2)) (nI_add _ _) ?_
    refine va_sld hx hb hsc hbl hbA hS (vp_in_nI (by omega) (by omega)) d_LW_law_514 ?_
    refine ss_rt (y := x2) (by rw [nI_clamp (by omega)]; exact hx2.symm) ?_
    have hPc : va_P D vwCl (mW qm k cd wd se kd bn sh mb pr B R sx pt rd wt ln px) _ := va_subP (a := []) (b := (mW qm k cd wd se kd bn sh mb pr B R sx pt rd wt ln px)) (c := ouW k ob of ++ ((ssW qs k gd wd se pr ln px cv co B R sx pt rd wt) ++ (plW od k ad bd ed kd nb sh mb))) hP
    have hDc : va_D A (mW qm k cd wd se kd bn sh mb pr B R sx pt rd wt ln px) := va_subD (a := []) (b := (mW qm k cd wd se kd bn sh mb pr B R sx pt rd wt ln px)) (c := ouW k ob of ++ ((ssW qs k gd wd se pr ln px cv co B R sx pt rd wt) ++ (plW od k ad bd ed kd nb sh mb))) hD
    refine kw_iV (As := [.int x1, .int x2]) (rest := [.int (nI 0)]) ⟨hx, hb, hml, hown, hts⟩ (c_MO_outb l D k qm cd wd se kd bn sh mb pr B R sx pt rd wt ln px x1 x2 (by omega)) (cwV 2 hts (gV w_641 w_642 w_643 w_5 w_644) rfl rfl rfl (by decide +kernel) ⟨Nat.le_of_ble_eq_true rfl, Nat.le_of_ble_eq_true rfl⟩) hK hPc hDc hS hA (va_recv hK hPc (ci := 7) (q0 := 0) rfl rfl) rfl hl.1 rfl (Nat.le_of_ble_eq_true rfl) d_LW_law_515 ⟨by show 21 + 3 * i ≤ 601024; omega, by show 9395 + 263 * i ≤ 7293034; omega⟩ (fun _ _ H9 locs h9 hP1 hk1 hS9 => ?_)
    refine ss_rt h9 ?_
    clear h9
    obtain ⟨hP, hD⟩ := fr_mid (a := []) (b := (mW qm k cd wd se kd bn sh mb pr B R sx pt rd wt ln px)) (c := ouW k ob of ++ ((ssW qs k gd wd se pr ln px cv co B R sx pt rd wt) ++ (plW od k ad bd ed kd nb sh mb))) (b' := (mW qm k (nI 0) wd se kd bn sh mb pr B R sx pt rd wt ln px)) hP hD hk1 (fun q h => hA q (Nat.le_trans hS.1 h)) hP1 (rw_same hDc.self rfl)
    clear hP1 hk1 hPc hDc
    have hS := hS9
    clear hS9
    generalize H9 = H at hP hS ⊢
    have hP : va_P D vwCl ((mW qm k (nI 0) wd se kd bn sh mb pr B R sx pt rd wt ln px) ++ (ouW k ob of ++ ((ssW qs k gd wd se pr ln px cv co B R sx pt rd wt) ++ (plW od k ad bd ed kd nb sh mb)))) _ := hP
    have hD : va_D A ((mW qm k (nI 0) wd se kd bn sh mb pr B R sx pt rd wt ln px) ++ (ouW k ob of ++ ((ssW qs k gd wd se pr ln px cv co B R sx pt rd wt) ++ (plW od k ad bd ed kd nb sh mb)))) := hD
    refine lv_icmp_eq (tgt := 661) hx hb d_LW_law_518 (by decide) (fun c8 => ?_) (fun c8 => ?_)
    · have c8 := (Int32.toInt_inj.symm).mp c8
      refine lv_iinc (v := nI (5 * (i + 1))) (lv' := [(4, .int (nI (5 * (i + 1)))), (0, .ref b), (1, .ref (qs 0)), (2, .ref (qm 0)), (3, .ref ob)]) hx hb d_LW_law_661 hl (k := 0) rfl ((nI_add (5 * i) 5).trans (by rw [Nat.mul_succ])) (by decide) rfl (fun ls hl => ?_)
      refine lv_goto (tgt := 23) hx hb d_LW_law_664 (by decide) ?_
      refine W.widen (k := 21 + 3 * (i + 1)) (n := 9395 + 263 * (i + 1)) (by show 21 + 3 * i ≤ _; omega) (by show 9395 + 263 * i ≤ _; omega) ?_
      exact ih (nI 0) gd wd se pr ln px cv co B R sx pt rd wt od ad bd ed kd nb sh mb bn of _ _ _ ⟨hwd, hse, hpr, hln, hB, hR, hsx, hpt, hwt, hO, hkd, hsh, hmb, hbn, hz⟩ hP hD hS (lv_sub hl [0, 1, 2, 3, 4] rfl)
    · have c8 := mt (Int32.toInt_inj.symm).mpr c8
      exfalso; omega
set_option maxHeartbeats 4000000 in
set_option maxRecDepth 100000 in
theorem L_scan {p : Program} {l : Launch} {e : Env} {s : State} {m : MethodId} {below : List Frame} {meth : Method} {c : Code} {b L : Nat} {xs : Nat → Int32} {D : va_G} {k : Nat → ClassId} {A : Nat → Prop} {Q : State → Prop} {qm qs : Nat → Nat} {ob : Nat} (C : LC p l s m meth c b L xs D k A) (i : Nat) (hi : 5 * i + 5 ≤ L) (ih : LG p l e s m below meth c b D k A Q qm qs ob (i + 1)) (cd : Int32) (gd : Nat → Option Nat) (wd : Nat → Nat) (se : Nat → Nat) (pr : Nat) (ln : Nat) (px : Nat → Nat) (cv : Nat) (co : Nat) (B : Nat → Nat) (R : Nat → Nat) (sx : Nat) (pt : Nat) (rd : Nat) (wt : Int32) (od : List Nat) (ad : Nat → Nat) (bd : Nat → Nat) (ed : Nat → Nat) (kd : Nat → Nat) (nb : Nat → Nat) (sh : Nat → Nat) (mb : Nat → Nat) (bn : Nat → Int32) (of : Nat → Int64) (H : Heap) (locs : List Loc) (ls : Array Slot) (hF : LF gd wd se pr ln B R sx pt wt od ad kd nb sh mb bn) (hP : va_P D vwCl ((mW qm k cd wd se kd bn sh mb pr B R sx pt rd wt ln px) ++ (ouW k ob of ++ ((ssW qs k gd wd se pr ln px cv co B R sx pt rd wt) ++ (plW od k ad bd ed kd nb sh mb)))) H) (hD : va_D A ((mW qm k cd wd se kd bn sh mb pr B R sx pt rd wt ln px) ++ (ouW k ob of ++ ((ssW qs k gd wd se pr ln px cv co B R sx pt rd wt) ++ (plW od k ad bd ed kd nb sh mb))))) (hS : va_S A s.heap H locs) (hl : lv_has ls 7 [(4, .int (nI (5 * i))), (0, .ref b), (1, .ref (qs 0)), (2, .ref (qm 0)), (3, .ref ob)]) : W p l e room_1 s m #[Value.ref b] below meth c H locs (21 + 3 * i) (9395 + 263 * i) Q (F0 m 523 ls []) := by
  obtain ⟨hx, hb, hr, hlocks, hml, hown, hts, hX, hT, hU, hK, hA, hsc, hbl, hbA, hl9, hL⟩ := C
  obtain ⟨hwd, hse, hpr, hln, hB, hR, hsx, hpt, hwt, hO, hkd, hsh, hmb, hbn, hz⟩ := hF
  by_cases hon : R 1 / 2 ^ 6 % 2 = 1
  · have f5 := d5f_lt (B := B) (R := R) (L := ln) hsx 8 (by omega)
    have f6 := dts_lt (b := dtc B R ln 8 64) f5
    refine lv_aload_n hx hb d_LW_law_523 rfl (lv_at hl 2 rfl) ?_
    have hPc : va_P D vwCl (ssW qs k gd wd se pr ln px cv co B R sx pt rd wt) _ := va_subP (a := (mW qm k cd wd se kd bn sh mb pr B R sx pt rd wt ln px) ++ ouW k ob of) (b := (ssW qs k gd wd se pr ln px cv co B R sx pt rd wt)) (c := (plW od k ad bd ed kd nb sh mb)) hP
    have hDc : va_D A (ssW qs k gd wd se pr ln px cv co B R sx pt rd wt) := va_subD (a := (mW qm k cd wd se kd bn sh mb pr B R sx pt rd wt ln px) ++ ouW k ob of) (b := (ssW qs k gd wd se pr ln px cv co B R sx pt rd wt)) (c := (plW od k ad bd ed kd nb sh mb)) hD
    refine kw_iV (As := []) (rest := []) ⟨hx, hb, hml, hown, hts⟩ (c_SS_scan_on l D k qs gd wd se pr ln px cv co B R sx pt rd wt hB hR hln hsx hon) (cwV 0 hts (gV w_170 w_171 w_172 w_1 w_173) rfl rfl rfl (by decide +kernel) ⟨Nat.le_of_ble_eq_true rfl, Nat.le_of_ble_eq_true rfl⟩) hK hPc hDc hS hA (va_recv hK hPc (ci := 0) (q0 := 0) rfl rfl) rfl hl.1 rfl (Nat.le_of_ble_eq_true rfl) d_LW_law_524 ⟨by show 21 + 3 * i ≤ 601024; omega, by show 9395 + 263 * i ≤ 7293034; omega⟩ (fun _ u9 H9 locs h9 hP1 hk1 hS9 => ?_)
    subst h9
    obtain ⟨cvA, coA⟩ := u9
    obtain ⟨hP, hD⟩ := fr_mid (a := (mW qm k cd wd se kd bn sh mb pr B R sx pt rd wt ln px) ++ ouW k ob of) (b := (ssW qs k gd wd se pr ln px cv co B R sx pt rd wt)) (c := (plW od k ad bd ed kd nb sh mb)) (b' := (ssW qs k gd wd se pr ((ln + 1) % 32) (dln (dpx B R ln) ln 64 px) cvA coA B R (if ln = 31 then ss_so 128 (dts (dtc B R ln 8 64) (d5f B R ln sx 8)) else dts (dtc B R ln 8 64) (d5f B R ln sx 8)) pt rd wt)) hP hD hk1 (fun q h => hA q (Nat.le_trans hS.1 h)) hP1 (rw_same hDc.self rfl)
    clear hP1 hk1 hPc hDc
    have hS := hS9
    clear hS9
    generalize H9 = H at hP hS ⊢
    have hP : va_P D vwCl ((mW qm k cd wd se kd bn sh mb pr B R sx pt rd wt ln px) ++ (ouW k ob of ++ ((ssW qs k gd wd se pr ((ln + 1) % 32) (dln (dpx B R ln) ln 64 px) cvA coA B R (if ln = 31 then ss_so 128 (dts (dtc B R ln 8 64) (d5f B R ln sx 8)) else dts (dtc B R ln 8 64) (d5f B R ln sx 8)) pt rd wt) ++ (plW od k ad bd ed kd nb sh mb)))) _ := hP
    have hD : va_D A ((mW qm k cd wd se kd bn sh mb pr B R sx pt rd wt ln px) ++ (ouW k ob of ++ ((ssW qs k gd wd se pr ((ln + 1) % 32) (dln (dpx B R ln) ln 64 px) cvA coA B R (if ln = 31 then ss_so 128 (dts (dtc B R ln 8 64) (d5f B R ln sx 8)) else dts (dtc B R ln 8 64) (d5f B R ln sx 8)) pt rd wt) ++ (plW od k ad bd ed kd nb sh mb)))) := hD
    refine lv_aload_n hx hb d_LW_law_527 rfl (lv_at hl 3 rfl) ?_
    have hPc : va_P D vwCl (mW qm k cd wd se kd bn sh mb pr B R sx pt rd wt ln px) _ := va_subP (a := []) (b := (mW qm k cd wd se kd bn sh mb pr B R sx pt rd wt ln px)) (c := ouW k ob of ++ ((ssW qs k gd wd se pr ((ln + 1) % 32) (dln (dpx B R ln) ln 64 px) cvA coA B R (if ln = 31 then ss_so 128 (dts (dtc B R ln 8 64) (d5f B R ln sx 8)) else dts (dtc B R ln 8 64) (d5f B R ln sx 8)) pt rd wt) ++ (plW od k ad bd ed kd nb sh mb))) hP
    have hDc : va_D A (mW qm k cd wd se kd bn sh mb pr B R sx pt rd wt ln px) := va_subD (a := []) (b := (mW qm k cd wd se kd bn sh mb pr B R sx pt rd wt ln px)) (c := ouW k ob of ++ ((ssW qs k gd wd se pr ((ln + 1) % 32) (dln (dpx B R ln) ln 64 px) cvA coA B R (if ln = 31 then ss_so 128 (dts (dtc B R ln 8 64) (d5f B R ln sx 8)) else dts (dtc B R ln 8 64) (d5f B R ln sx 8)) pt rd wt) ++ (plW od k ad bd ed kd nb sh mb))) hD
    refine kw_iV (As := []) (rest := [.int (nI ln)]) ⟨hx, hb, hml, hown, hts⟩ (c_MO_scan_on l D k qm cd wd se kd bn sh mb pr B R sx pt rd wt ln px hB hR hsx hln hon) (cwV 0 hts (gV w_649 w_650 w_651 w_5 w_652) rfl rfl rfl (by decide +kernel) ⟨Nat.le_of_ble_eq_true rfl, Nat.le_of_ble_eq_true rfl⟩) hK hPc hDc hS hA (va_recv hK hPc (ci := 7) (q0 := 0) rfl rfl) rfl hl.1 rfl (Nat.le_of_ble_eq_true rfl) d_LW_law_528 ⟨by show 21 + 3 * i ≤ 601024; omega, by show 9395 + 263 * i ≤ 7293034; omega⟩ (fun _ _ H9 locs h9 hP1 hk1 hS9 => ?_)
    refine ss_rt h9 ?_
    clear h9
    obtain ⟨hP, hD⟩ := fr_mid (a := []) (b := (mW qm k cd wd se kd bn sh mb pr B R sx pt rd wt ln px)) (c := ouW k ob of ++ ((ssW qs k gd wd se pr ((ln + 1) % 32) (dln (dpx B R ln) ln 64 px) cvA coA B R (if ln = 31 then ss_so 128 (dts (dtc B R ln 8 64) (d5f B R ln sx 8)) else dts (dtc B R ln 8 64) (d5f B R ln sx 8)) pt rd wt) ++ (plW od k ad bd ed kd nb sh mb))) (b' := (mW qm k (nI 0) wd se kd bn sh mb pr B R (if ln = 31 then ss_so 128 (dts (dtc B R ln 8 64) (d5f B R ln sx 8)) else dts (dtc B R ln 8 64) (d5f B R ln sx 8)) pt rd wt ((ln + 1) % 32) (dln (dpx B R ln) ln 64 px))) hP hD hk1 (fun q h => hA q (Nat.le_trans hS.1 h)) hP1 (rw_same hDc.self rfl)
    clear hP1 hk1 hPc hDc
    have hS := hS9
    clear hS9
    generalize H9 = H at hP hS ⊢
    have hP : va_P D vwCl ((mW qm k (nI 0) wd se kd bn sh mb pr B R (if ln = 31 then ss_so 128 (dts (dtc B R ln 8 64) (d5f B R ln sx 8)) else dts (dtc B R ln 8 64) (d5f B R ln sx 8)) pt rd wt ((ln + 1) % 32) (dln (dpx B R ln) ln 64 px)) ++ (ouW k ob of ++ ((ssW qs k gd wd se pr ((ln + 1) % 32) (dln (dpx B R ln) ln 64 px) cvA coA B R (if ln = 31 then ss_so 128 (dts (dtc B R ln 8 64) (d5f B R ln sx 8)) else dts (dtc B R ln 8 64) (d5f B R ln sx 8)) pt rd wt) ++ (plW od k ad bd ed kd nb sh mb)))) _ := hP
    have hD : va_D A ((mW qm k (nI 0) wd se kd bn sh mb pr B R (if ln = 31 then ss_so 128 (dts (dtc B R ln 8 64) (d5f B R ln sx 8)) else dts (dtc B R ln 8 64) (d5f B R ln sx 8)) pt rd wt ((ln + 1) % 32) (dln (dpx B R ln) ln 64 px)) ++ (ouW k ob of ++ ((ssW qs k gd wd se pr ((ln + 1) % 32) (dln (dpx B R ln) ln 64 px) cvA coA B R (if ln = 31 then ss_so 128 (dts (dtc B R ln 8 64) (d5f B R ln sx 8)) else dts (dtc B R ln 8 64) (d5f B R ln sx 8)) pt rd wt) ++ (plW od k ad bd ed kd nb sh mb)))) := hD
    refine lv_icmp_eq (tgt := 661) hx hb d_LW_law_531 (by decide) (fun c1 => ?_) (fun c1 => ?_)
    · have c1 := (Int32.toInt_inj.symm).mp c1
      refine lv_iinc (v := nI (5 * (i + 1))) (lv' := [(4, .int (nI (5 * (i + 1)))), (0, .ref b), (1, .ref (qs 0)), (2, .ref (qm 0)), (3, .ref ob)]) hx hb d_LW_law_661 hl (k := 0) rfl ((nI_add (5 * i) 5).trans (by rw [Nat.mul_succ])) (by decide) rfl (fun ls hl => ?_)
      refine lv_goto (tgt := 23) hx hb d_LW_law_664 (by decide) ?_
      refine W.widen (k := 21 + 3 * (i + 1)) (n := 9395 + 263 * (i + 1)) (by show 21 + 3 * i ≤ _; omega) (by show 9395 + 263 * i ≤ _; omega) ?_
      exact ih (nI 0) gd wd se pr ((ln + 1) % 32) (dln (dpx B R ln) ln 64 px) cvA coA B R (if ln = 31 then ss_so 128 (dts (dtc B R ln 8 64) (d5f B R ln sx 8)) else dts (dtc B R ln 8 64) (d5f B R ln sx 8)) pt rd wt od ad bd ed kd nb sh mb bn of _ _ _ ⟨hwd, hse, hpr, Nat.mod_lt _ (by omega), hB, hR, (by split <;> first | exact ss_so_l2 f6 | exact f6), hpt, hwt, hO, hkd, hsh, hmb, hbn, hz⟩ hP hD hS (lv_sub hl [0, 1, 2, 3, 4] rfl)
    · have c1 := mt (Int32.toInt_inj.symm).mpr c1
      exfalso; omega
  · skip
    refine lv_aload_n hx hb d_LW_law_523 rfl (lv_at hl 2 rfl) ?_
    have hPc : va_P D vwCl (ssW qs k gd wd se pr ln px cv co B R sx pt rd wt) _ := va_subP (a := (mW qm k cd wd se kd bn sh mb pr B R sx pt rd wt ln px) ++ ouW k ob of) (b := (ssW qs k gd wd se pr ln px cv co B R sx pt rd wt)) (c := (plW od k ad bd ed kd nb sh mb)) hP
    have hDc : va_D A (ssW qs k gd wd se pr ln px cv co B R sx pt rd wt) := va_subD (a := (mW qm k cd wd se kd bn sh mb pr B R sx pt rd wt ln px) ++ ouW k ob of) (b := (ssW qs k gd wd se pr ln px cv co B R sx pt rd wt)) (c := (plW od k ad bd ed kd nb sh mb)) hD
    refine kw_iV (As := []) (rest := []) ⟨hx, hb, hml, hown, hts⟩ (c_SS_scan_off l D k qs gd wd se pr ln px cv co B R sx pt rd wt hB hR hln hsx hon) (cwV 0 hts (gV w_170 w_171 w_172 w_1 w_173) rfl rfl rfl (by decide +kernel) ⟨Nat.le_of_ble_eq_true rfl, Nat.le_of_ble_eq_true rfl⟩) hK hPc hDc hS hA (va_recv hK hPc (ci := 0) (q0 := 0) rfl rfl) rfl hl.1 rfl (Nat.le_of_ble_eq_true rfl) d_LW_law_524 ⟨by show 21 + 3 * i ≤ 601024; omega, by show 9395 + 263 * i ≤ 7293034; omega⟩ (fun _ u9 H9 locs h9 hP1 hk1 hS9 => ?_)
    subst h9
    obtain ⟨hP, hD⟩ := fr_mid (a := (mW qm k cd wd se kd bn sh mb pr B R sx pt rd wt ln px) ++ ouW k ob of) (b := (ssW qs k gd wd se pr ln px cv co B R sx pt rd wt)) (c := (plW od k ad bd ed kd nb sh mb)) (b' := (ssW qs k gd wd se pr ((ln + 1) % 32) (dln (fun _ => R 7 % 16) ln 64 px) cv co B R (if ln = 31 then ss_so 128 (sx) else sx) pt rd wt)) hP hD hk1 (fun q h => hA q (Nat.le_trans hS.1 h)) hP1 (rw_same hDc.self rfl)
    clear hP1 hk1 hPc hDc
    have hS := hS9
    clear hS9
    generalize H9 = H at hP hS ⊢
    have hP : va_P D vwCl ((mW qm k cd wd se kd bn sh mb pr B R sx pt rd wt ln px) ++ (ouW k ob of ++ ((ssW qs k gd wd se pr ((ln + 1) % 32) (dln (fun _ => R 7 % 16) ln 64 px) cv co B R (if ln = 31 then ss_so 128 (sx) else sx) pt rd wt) ++ (plW od k ad bd ed kd nb sh mb)))) _ := hP
    have hD : va_D A ((mW qm k cd wd se kd bn sh mb pr B R sx pt rd wt ln px) ++ (ouW k ob of ++ ((ssW qs k gd wd se pr ((ln + 1) % 32) (dln (fun _ => R 7 % 16) ln 64 px) cv co B R (if ln = 31 then ss_so 128 (sx) else sx) pt rd wt) ++ (plW od k ad bd ed kd nb sh mb)))) := hD
    refine lv_aload_n hx hb d_LW_law_527 rfl (lv_at hl 3 rfl) ?_
    have hPc : va_P D vwCl (mW qm k cd wd se kd bn sh mb pr B R sx pt rd wt ln px) _ := va_subP (a := []) (b := (mW qm k cd wd se kd bn sh mb pr B R sx pt rd wt ln px)) (c := ouW k ob of ++ ((ssW qs k gd wd se pr ((ln + 1) % 32) (dln (fun _ => R 7 % 16) ln 64 px) cv co B R (if ln = 31 then ss_so 128 (sx) else sx) pt rd wt) ++ (plW od k ad bd ed kd nb sh mb))) hP
    have hDc : va_D A (mW qm k cd wd se kd bn sh mb pr B R sx pt rd wt ln px) := va_subD (a := []) (b := (mW qm k cd wd se kd bn sh mb pr B R sx pt rd wt ln px)) (c := ouW k ob of ++ ((ssW qs k gd wd se pr ((ln + 1) % 32) (dln (fun _ => R 7 % 16) ln 64 px) cv co B R (if ln = 31 then ss_so 128 (sx) else sx) pt rd wt) ++ (plW od k ad bd ed kd nb sh mb))) hD
    refine kw_iV (As := []) (rest := [.int (nI ln)]) ⟨hx, hb, hml, hown, hts⟩ (c_MO_scan_off l D k qm cd wd se kd bn sh mb pr B R sx pt rd wt ln px hB hR hsx hln hon) (cwV 0 hts (gV w_649 w_650 w_651 w_5 w_652) rfl rfl rfl (by decide +kernel) ⟨Nat.le_of_ble_eq_true rfl, Nat.le_of_ble_eq_true rfl⟩) hK hPc hDc hS hA (va_recv hK hPc (ci := 7) (q0 := 0) rfl rfl) rfl hl.1 rfl (Nat.le_of_ble_eq_true rfl) d_LW_law_528 ⟨by show 21 + 3 * i ≤ 601024; omega, by show 9395 + 263 * i ≤ 7293034; omega⟩ (fun _ _ H9 locs h9 hP1 hk1 hS9 => ?_)
    refine ss_rt h9 ?_
    clear h9
    obtain ⟨hP, hD⟩ := fr_mid (a := []) (b := (mW qm k cd wd se kd bn sh mb pr B R sx pt rd wt ln px)) (c := ouW k ob of ++ ((ssW qs k gd wd se pr ((ln + 1) % 32) (dln (fun _ => R 7 % 16) ln 64 px) cv co B R (if ln = 31 then ss_so 128 (sx) else sx) pt rd wt) ++ (plW od k ad bd ed kd nb sh mb))) (b' := (mW qm k (nI 0) wd se kd bn sh mb pr B R (if ln = 31 then ss_so 128 (sx) else sx) pt rd wt ((ln + 1) % 32) (dln (fun _ => R 7 % 16) ln 64 px))) hP hD hk1 (fun q h => hA q (Nat.le_trans hS.1 h)) hP1 (rw_same hDc.self rfl)
    clear hP1 hk1 hPc hDc
    have hS := hS9
    clear hS9
    generalize H9 = H at hP hS ⊢
    have hP : va_P D vwCl ((mW qm k (nI 0) wd se kd bn sh mb pr B R (if ln = 31 then ss_so 128 (sx) else sx) pt rd wt ((ln + 1) % 32) (dln (fun _ => R 7 % 16) ln 64 px)) ++ (ouW k ob of ++ ((ssW qs k gd wd se pr ((ln + 1) % 32) (dln (fun _ => R 7 % 16) ln 64 px) cv co B R (if ln = 31 then ss_so 128 (sx) else sx) pt rd wt) ++ (plW od k ad bd ed kd nb sh mb)))) _ := hP
    have hD : va_D A ((mW qm k (nI 0) wd se kd bn sh mb pr B R (if ln = 31 then ss_so 128 (sx) else sx) pt rd wt ((ln + 1) % 32) (dln (fun _ => R 7 % 16) ln 64 px)) ++ (ouW k ob of ++ ((ssW qs k gd wd se pr ((ln + 1) % 32) (dln (fun _ => R 7 % 16) ln 64 px) cv co B R (if ln = 31 then ss_so 128 (sx) else sx) pt rd wt) ++ (plW od k ad bd ed kd nb sh mb)))) := hD
    refine lv_icmp_eq (tgt := 661) hx hb d_LW_law_531 (by decide) (fun c2 => ?_) (fun c2 => ?_)
    · have c2 := (Int32.toInt_inj.symm).mp c2
      refine lv_iinc (v := nI (5 * (i + 1))) (lv' := [(4, .int (nI (5 * (i + 1)))), (0, .ref b), (1, .ref (qs 0)), (2, .ref (qm 0)), (3, .ref ob)]) hx hb d_LW_law_661 hl (k := 0) rfl ((nI_add (5 * i) 5).trans (by rw [Nat.mul_succ])) (by decide) rfl (fun ls hl => ?_)
      refine lv_goto (tgt := 23) hx hb d_LW_law_664 (by decide) ?_
      refine W.widen (k := 21 + 3 * (i + 1)) (n := 9395 + 263 * (i + 1)) (by show 21 + 3 * i ≤ _; omega) (by show 9395 + 263 * i ≤ _; omega) ?_
      exact ih (nI 0) gd wd se pr ((ln + 1) % 32) (dln (fun _ => R 7 % 16) ln 64 px) cv co B R (if ln = 31 then ss_so 128 (sx) else sx) pt rd wt od ad bd ed kd nb sh mb bn of _ _ _ ⟨hwd, hse, hpr, Nat.mod_lt _ (by omega), hB, hR, (by split <;> first | exact ss_so_l2 hsx | exact hsx), hpt, hwt, hO, hkd, hsh, hmb, hbn, hz⟩ hP hD hS (lv_sub hl [0, 1, 2, 3, 4] rfl)
    · have c2 := mt (Int32.toInt_inj.symm).mpr c2
      exfalso; omega
