set_option maxHeartbeats 4000000 in
set_option maxRecDepth 100000 in
theorem L_video {p : Program} {l : Launch} {e : Env} {s : State} {m : MethodId} {below : List Frame} {meth : Method} {c : Code} {b L : Nat} {xs : Nat → Int32} {D : va_G} {k : Nat → ClassId} {A : Nat → Prop} {Q : State → Prop} {qm qs : Nat → Nat} {ob : Nat} (C : LC p l s m meth c b L xs D k A) (i : Nat) (hi : 5 * i + 5 ≤ L) (ih : LG p l e s m below meth c b D k A Q qm qs ob (i + 1)) (cd : Int32) (gd : Nat → Option Nat) (wd : Nat → Nat) (se : Nat → Nat) (pr : Nat) (ln : Nat) (px : Nat → Nat) (cv : Nat) (co : Nat) (B : Nat → Nat) (R : Nat → Nat) (sx : Nat) (pt : Nat) (rd : Nat) (wt : Int32) (od : List Nat) (ad : Nat → Nat) (bd : Nat → Nat) (ed : Nat → Nat) (kd : Nat → Nat) (nb : Nat → Nat) (sh : Nat → Nat) (mb : Nat → Nat) (bn : Nat → Int32) (of : Nat → Int64) (H : Heap) (locs : List Loc) (ls : Array Slot) (hF : LF gd wd se pr ln B R sx pt wt od ad kd nb sh mb bn) (hP : va_P D vwCl ((mW qm k cd wd se kd bn sh mb pr B R sx pt rd wt ln px) ++ (ouW k ob of ++ ((ssW qs k gd wd se pr ln px cv co B R sx pt rd wt) ++ (plW od k ad bd ed kd nb sh mb)))) H) (hD : va_D A ((mW qm k cd wd se kd bn sh mb pr B R sx pt rd wt ln px) ++ (ouW k ob of ++ ((ssW qs k gd wd se pr ln px cv co B R sx pt rd wt) ++ (plW od k ad bd ed kd nb sh mb))))) (hS : va_S A s.heap H locs) (hl : lv_has ls 7 [(4, .int (nI (5 * i))), (0, .ref b), (1, .ref (qs 0)), (2, .ref (qm 0)), (3, .ref ob)]) : W p l e room_1 s m #[Value.ref b] below meth c H locs (21 + 3 * i) (9395 + 263 * i) Q (F0 m 573 ls []) := by
  obtain ⟨hx, hb, hr, hlocks, hml, hown, hts, hX, hT, hU, hK, hA, hsc, hbl, hbA, hl9, hL⟩ := C
  obtain ⟨hwd, hse, hpr, hln, hB, hR, hsx, hpt, hwt, hO, hkd, hsh, hmb, hbn, hz⟩ := hF
  obtain ⟨x1, hx1⟩ : ∃ z, z = xs (5 * i + 1) := ⟨_, rfl⟩
  by_cases hv : 0 ≤ x1.toInt ∧ x1.toInt ≤ 511
  · obtain ⟨j, hj, rfl⟩ := n_ix (n := 512) hv.1 (by omega)
    refine lv_aload_n hx hb d_LW_law_573 rfl (lv_at hl 2 rfl) ?_
    refine lv_aload_n hx hb d_LW_law_574 rfl (lv_at hl 1 rfl) ?_
    refine lv_iload hx hb d_LW_law_575 (lv_at hl 0 rfl) ?_
    refine lv_iconst (v := nI 1) hx hb d_LW_law_577 (by decide +kernel) ?_
    refine lv_iadd hx hb d_LW_law_578 ?_
    refine ss_rt (y := nI (5 * i + 1)) (nI_add _ _) ?_
    refine va_sld hx hb hsc hbl hbA hS (vp_in_nI (by omega) (by omega)) d_LW_law_579 ?_
    refine ss_rt (y := nI j) (by rw [nI_clamp (by omega)]; exact hx1.symm) ?_
    have hPc : va_P D vwCl (ssW qs k gd wd se pr ln px cv co B R sx pt rd wt) _ := va_subP (a := (mW qm k cd wd se kd bn sh mb pr B R sx pt rd wt ln px) ++ ouW k ob of) (b := (ssW qs k gd wd se pr ln px cv co B R sx pt rd wt)) (c := (plW od k ad bd ed kd nb sh mb)) hP
    refine kr_iV (As := [.int (nI j)]) (rest := []) ⟨hx, hb, hml, hown, hts⟩ (c_SS_video l D k qs gd wd se pr ln px cv co B R sx pt rd wt hB hR j hj) (cwV 1 hts (gV w_253 w_254 w_255 w_1 w_256) rfl rfl rfl (by decide +kernel) ⟨Nat.le_of_ble_eq_true rfl, Nat.le_of_ble_eq_true rfl⟩) hK hPc (va_recv hK hPc (ci := 0) (q0 := 0) rfl rfl) rfl hl.1 rfl (Nat.le_of_ble_eq_true rfl) d_LW_law_580 ⟨by show 21 + 3 * i ≤ 601024; omega, by show 9395 + 263 * i ≤ 7293034; omega⟩ ?_
    refine lv_aload_n hx hb d_LW_law_583 rfl (lv_at hl 3 rfl) ?_
    refine lv_aload_n hx hb d_LW_law_584 rfl (lv_at hl 1 rfl) ?_
    refine lv_iload hx hb d_LW_law_585 (lv_at hl 0 rfl) ?_
    refine lv_iconst (v := nI 1) hx hb d_LW_law_587 (by decide +kernel) ?_
    refine lv_iadd hx hb d_LW_law_588 ?_
    refine ss_rt (y := nI (5 * i + 1)) (nI_add _ _) ?_
    refine va_sld hx hb hsc hbl hbA hS (vp_in_nI (by omega) (by omega)) d_LW_law_589 ?_
    refine ss_rt (y := nI j) (by rw [nI_clamp (by omega)]; exact hx1.symm) ?_
    have hPc : va_P D vwCl (mW qm k cd wd se kd bn sh mb pr B R sx pt rd wt ln px) _ := va_subP (a := []) (b := (mW qm k cd wd se kd bn sh mb pr B R sx pt rd wt ln px)) (c := ouW k ob of ++ ((ssW qs k gd wd se pr ln px cv co B R sx pt rd wt) ++ (plW od k ad bd ed kd nb sh mb))) hP
    have hDc : va_D A (mW qm k cd wd se kd bn sh mb pr B R sx pt rd wt ln px) := va_subD (a := []) (b := (mW qm k cd wd se kd bn sh mb pr B R sx pt rd wt ln px)) (c := ouW k ob of ++ ((ssW qs k gd wd se pr ln px cv co B R sx pt rd wt) ++ (plW od k ad bd ed kd nb sh mb))) hD
    refine kw_iV (As := [.int (nI j)]) (rest := [.int (nI (B j))]) ⟨hx, hb, hml, hown, hts⟩ (c_MO_video l D k qm cd wd se kd bn sh mb pr B R sx pt rd wt ln px j hj) (cwV 1 hts (gV w_697 w_698 w_699 w_5 w_700) rfl rfl rfl (by decide +kernel) ⟨Nat.le_of_ble_eq_true rfl, Nat.le_of_ble_eq_true rfl⟩) hK hPc hDc hS hA (va_recv hK hPc (ci := 7) (q0 := 0) rfl rfl) rfl hl.1 rfl (Nat.le_of_ble_eq_true rfl) d_LW_law_590 ⟨by show 21 + 3 * i ≤ 601024; omega, by show 9395 + 263 * i ≤ 7293034; omega⟩ (fun _ _ H9 locs h9 hP1 hk1 hS9 => ?_)
    refine ss_rt h9 ?_
    clear h9
    obtain ⟨hP, hD⟩ := fr_mid (a := []) (b := (mW qm k cd wd se kd bn sh mb pr B R sx pt rd wt ln px)) (c := ouW k ob of ++ ((ssW qs k gd wd se pr ln px cv co B R sx pt rd wt) ++ (plW od k ad bd ed kd nb sh mb))) (b' := (mW qm k (nI 0) wd se kd bn sh mb pr B R sx pt rd wt ln px)) hP hD hk1 (fun q h => hA q (Nat.le_trans hS.1 h)) hP1 (rw_same hDc.self rfl)
    clear hP1 hk1 hPc hDc
    have hS := hS9
    clear hS9
    generalize H9 = H at hP hS ⊢
    have hP : va_P D vwCl ((mW qm k (nI 0) wd se kd bn sh mb pr B R sx pt rd wt ln px) ++ (ouW k ob of ++ ((ssW qs k gd wd se pr ln px cv co B R sx pt rd wt) ++ (plW od k ad bd ed kd nb sh mb)))) _ := hP
    have hD : va_D A ((mW qm k (nI 0) wd se kd bn sh mb pr B R sx pt rd wt ln px) ++ (ouW k ob of ++ ((ssW qs k gd wd se pr ln px cv co B R sx pt rd wt) ++ (plW od k ad bd ed kd nb sh mb)))) := hD
    refine lv_icmp_eq (tgt := 661) hx hb d_LW_law_593 (by decide) (fun c1 => ?_) (fun c1 => ?_)
    · have c1 := (Int32.toInt_inj.symm).mp c1
      refine lv_iinc (v := nI (5 * (i + 1))) (lv' := [(4, .int (nI (5 * (i + 1)))), (0, .ref b), (1, .ref (qs 0)), (2, .ref (qm 0)), (3, .ref ob)]) hx hb d_LW_law_661 hl (k := 0) rfl ((nI_add (5 * i) 5).trans (by rw [Nat.mul_succ])) (by decide) rfl (fun ls hl => ?_)
      refine lv_goto (tgt := 23) hx hb d_LW_law_664 (by decide) ?_
      refine W.widen (k := 21 + 3 * (i + 1)) (n := 9395 + 263 * (i + 1)) (by show 21 + 3 * i ≤ _; omega) (by show 9395 + 263 * i ≤ _; omega) ?_
      exact ih (nI 0) gd wd se pr ln px cv co B R sx pt rd wt od ad bd ed kd nb sh mb bn of _ _ _ ⟨hwd, hse, hpr, hln, hB, hR, hsx, hpt, hwt, hO, hkd, hsh, hmb, hbn, hz⟩ hP hD hS (lv_sub hl [0, 1, 2, 3, 4] rfl)
    · have c1 := mt (Int32.toInt_inj.symm).mpr c1
      exfalso; omega
  · skip
    refine lv_aload_n hx hb d_LW_law_573 rfl (lv_at hl 2 rfl) ?_
    refine lv_aload_n hx hb d_LW_law_574 rfl (lv_at hl 1 rfl) ?_
    refine lv_iload hx hb d_LW_law_575 (lv_at hl 0 rfl) ?_
    refine lv_iconst (v := nI 1) hx hb d_LW_law_577 (by decide +kernel) ?_
    refine lv_iadd hx hb d_LW_law_578 ?_
    refine ss_rt (y := nI (5 * i + 1)) (nI_add _ _) ?_
    refine va_sld hx hb hsc hbl hbA hS (vp_in_nI (by omega) (by omega)) d_LW_law_579 ?_
    refine ss_rt (y := x1) (by rw [nI_clamp (by omega)]; exact hx1.symm) ?_
    have hPc : va_P D vwCl (ssW qs k gd wd se pr ln px cv co B R sx pt rd wt) _ := va_subP (a := (mW qm k cd wd se kd bn sh mb pr B R sx pt rd wt ln px) ++ ouW k ob of) (b := (ssW qs k gd wd se pr ln px cv co B R sx pt rd wt)) (c := (plW od k ad bd ed kd nb sh mb)) hP
    refine kr_iV (As := [.int x1]) (rest := []) ⟨hx, hb, hml, hown, hts⟩ (c_SS_videob l D k qs gd wd se pr ln px cv co B R sx pt rd wt x1 hv) (cwV 1 hts (gV w_253 w_254 w_255 w_1 w_256) rfl rfl rfl (by decide +kernel) ⟨Nat.le_of_ble_eq_true rfl, Nat.le_of_ble_eq_true rfl⟩) hK hPc (va_recv hK hPc (ci := 0) (q0 := 0) rfl rfl) rfl hl.1 rfl (Nat.le_of_ble_eq_true rfl) d_LW_law_580 ⟨by show 21 + 3 * i ≤ 601024; omega, by show 9395 + 263 * i ≤ 7293034; omega⟩ ?_
    refine lv_aload_n hx hb d_LW_law_583 rfl (lv_at hl 3 rfl) ?_
    refine lv_aload_n hx hb d_LW_law_584 rfl (lv_at hl 1 rfl) ?_
    refine lv_iload hx hb d_LW_law_585 (lv_at hl 0 rfl) ?_
    refine lv_iconst (v := nI 1) hx hb d_LW_law_587 (by decide +kernel) ?_
    refine lv_iadd hx hb d_LW_law_588 ?_
    refine ss_rt (y := nI (5 * i + 1)) (nI_add _ _) ?_
    refine va_sld hx hb hsc hbl hbA hS (vp_in_nI (by omega) (by omega)) d_LW_law_589 ?_
    refine ss_rt (y := x1) (by rw [nI_clamp (by omega)]; exact hx1.symm) ?_
    have hPc : va_P D vwCl (mW qm k cd wd se kd bn sh mb pr B R sx pt rd wt ln px) _ := va_subP (a := []) (b := (mW qm k cd wd se kd bn sh mb pr B R sx pt rd wt ln px)) (c := ouW k ob of ++ ((ssW qs k gd wd se pr ln px cv co B R sx pt rd wt) ++ (plW od k ad bd ed kd nb sh mb))) hP
    have hDc : va_D A (mW qm k cd wd se kd bn sh mb pr B R sx pt rd wt ln px) := va_subD (a := []) (b := (mW qm k cd wd se kd bn sh mb pr B R sx pt rd wt ln px)) (c := ouW k ob of ++ ((ssW qs k gd wd se pr ln px cv co B R sx pt rd wt) ++ (plW od k ad bd ed kd nb sh mb))) hD
    refine kw_iV (As := [.int x1]) (rest := [.int (-1)]) ⟨hx, hb, hml, hown, hts⟩ (c_MO_videob l D k qm cd wd se kd bn sh mb pr B R sx pt rd wt ln px x1 hv) (cwV 1 hts (gV w_697 w_698 w_699 w_5 w_700) rfl rfl rfl (by decide +kernel) ⟨Nat.le_of_ble_eq_true rfl, Nat.le_of_ble_eq_true rfl⟩) hK hPc hDc hS hA (va_recv hK hPc (ci := 7) (q0 := 0) rfl rfl) rfl hl.1 rfl (Nat.le_of_ble_eq_true rfl) d_LW_law_590 ⟨by show 21 + 3 * i ≤ 601024; omega, by show 9395 + 263 * i ≤ 7293034; omega⟩ (fun _ _ H9 locs h9 hP1 hk1 hS9 => ?_)
    refine ss_rt h9 ?_
    clear h9
    obtain ⟨hP, hD⟩ := fr_mid (a := []) (b := (mW qm k cd wd se kd bn sh mb pr B R sx pt rd wt ln px)) (c := ouW k ob of ++ ((ssW qs k gd wd se pr ln px cv co B R sx pt rd wt) ++ (plW od k ad bd ed kd nb sh mb))) (b' := (mW qm k (nI 0) wd se kd bn sh mb pr B R sx pt rd wt ln px)) hP hD hk1 (fun q h => hA q (Nat.le_trans hS.1 h)) hP1 (rw_same hDc.self rfl)
    clear hP1 hk1 hPc hDc
    have hS := hS9
    clear hS9
    generalize H9 = H at hP hS ⊢
    have hP : va_P D vwCl ((mW qm k (nI 0) wd se kd bn sh mb pr B R sx pt rd wt ln px) ++ (ouW k ob of ++ ((ssW qs k gd wd se pr ln px cv co B R sx pt rd wt) ++ (plW od k ad bd ed kd nb sh mb)))) _ := hP
    have hD : va_D A ((mW qm k (nI 0) wd se kd bn sh mb pr B R sx pt rd wt ln px) ++ (ouW k ob of ++ ((ssW qs k gd wd se pr ln px cv co B R sx pt rd wt) ++ (plW od k ad bd ed kd nb sh mb)))) := hD
    refine lv_icmp_eq (tgt := 661) hx hb d_LW_law_593 (by decide) (fun c2 => ?_) (fun c2 => ?_)
    · have c2 := (Int32.toInt_inj.symm).mp c2
      refine lv_iinc (v := nI (5 * (i + 1))) (lv' := [(4, .int (nI (5 * (i + 1)))), (0, .ref b), (1, .ref (qs 0)), (2, .ref (qm 0)), (3, .ref ob)]) hx hb d_LW_law_661 hl (k := 0) rfl ((nI_add (5 * i) 5).trans (by rw [Nat.mul_succ])) (by decide) rfl (fun ls hl => ?_)
      refine lv_goto (tgt := 23) hx hb d_LW_law_664 (by decide) ?_
      refine W.widen (k := 21 + 3 * (i + 1)) (n := 9395 + 263 * (i + 1)) (by show 21 + 3 * i ≤ _; omega) (by show 9395 + 263 * i ≤ _; omega) ?_
      exact ih (nI 0) gd wd se pr ln px cv co B R sx pt rd wt od ad bd ed kd nb sh mb bn of _ _ _ ⟨hwd, hse, hpr, hln, hB, hR, hsx, hpt, hwt, hO, hkd, hsh, hmb, hbn, hz⟩ hP hD hS (lv_sub hl [0, 1, 2, 3, 4] rfl)
    · have c2 := mt (Int32.toInt_inj.symm).mpr c2
      exfalso; omega
set_option maxHeartbeats 4000000 in
set_option maxRecDepth 100000 in
theorem L_pixel {p : Program} {l : Launch} {e : Env} {s : State} {m : MethodId} {below : List Frame} {meth : Method} {c : Code} {b L : Nat} {xs : Nat → Int32} {D : va_G} {k : Nat → ClassId} {A : Nat → Prop} {Q : State → Prop} {qm qs : Nat → Nat} {ob : Nat} (C : LC p l s m meth c b L xs D k A) (i : Nat) (hi : 5 * i + 5 ≤ L) (ih : LG p l e s m below meth c b D k A Q qm qs ob (i + 1)) (cd : Int32) (gd : Nat → Option Nat) (wd : Nat → Nat) (se : Nat → Nat) (pr : Nat) (ln : Nat) (px : Nat → Nat) (cv : Nat) (co : Nat) (B : Nat → Nat) (R : Nat → Nat) (sx : Nat) (pt : Nat) (rd : Nat) (wt : Int32) (od : List Nat) (ad : Nat → Nat) (bd : Nat → Nat) (ed : Nat → Nat) (kd : Nat → Nat) (nb : Nat → Nat) (sh : Nat → Nat) (mb : Nat → Nat) (bn : Nat → Int32) (of : Nat → Int64) (H : Heap) (locs : List Loc) (ls : Array Slot) (hF : LF gd wd se pr ln B R sx pt wt od ad kd nb sh mb bn) (hP : va_P D vwCl ((mW qm k cd wd se kd bn sh mb pr B R sx pt rd wt ln px) ++ (ouW k ob of ++ ((ssW qs k gd wd se pr ln px cv co B R sx pt rd wt) ++ (plW od k ad bd ed kd nb sh mb)))) H) (hD : va_D A ((mW qm k cd wd se kd bn sh mb pr B R sx pt rd wt ln px) ++ (ouW k ob of ++ ((ssW qs k gd wd se pr ln px cv co B R sx pt rd wt) ++ (plW od k ad bd ed kd nb sh mb))))) (hS : va_S A s.heap H locs) (hl : lv_has ls 7 [(4, .int (nI (5 * i))), (0, .ref b), (1, .ref (qs 0)), (2, .ref (qm 0)), (3, .ref ob)]) : W p l e room_1 s m #[Value.ref b] below meth c H locs (21 + 3 * i) (9395 + 263 * i) Q (F0 m 536 ls []) := by
  obtain ⟨hx, hb, hr, hlocks, hml, hown, hts, hX, hT, hU, hK, hA, hsc, hbl, hbA, hl9, hL⟩ := C
  obtain ⟨hwd, hse, hpr, hln, hB, hR, hsx, hpt, hwt, hO, hkd, hsh, hmb, hbn, hz⟩ := hF
  obtain ⟨x1, hx1⟩ : ∃ z, z = xs (5 * i + 1) := ⟨_, rfl⟩
  obtain ⟨x2, hx2⟩ : ∃ z, z = xs (5 * i + 2) := ⟨_, rfl⟩
  by_cases hv : 0 ≤ x1.toInt ∧ x1.toInt ≤ 63 ∧ 0 ≤ x2.toInt ∧ x2.toInt ≤ 31
  · obtain ⟨x, hxx, rfl⟩ := n_ix (x := x1) (n := 64) (by omega) (by omega)
    obtain ⟨y, hy, rfl⟩ := n_ix (x := x2) (n := 32) (by omega) (by omega)
    refine lv_aload_n hx hb d_LW_law_536 rfl (lv_at hl 2 rfl) ?_
    refine lv_aload_n hx hb d_LW_law_537 rfl (lv_at hl 1 rfl) ?_
    refine lv_iload hx hb d_LW_law_538 (lv_at hl 0 rfl) ?_
    refine lv_iconst (v := nI 1) hx hb d_LW_law_540 (by decide +kernel) ?_
    refine lv_iadd hx hb d_LW_law_541 ?_
    refine ss_rt (y := nI (5 * i + 1)) (nI_add _ _) ?_
    refine va_sld hx hb hsc hbl hbA hS (vp_in_nI (by omega) (by omega)) d_LW_law_542 ?_
    refine ss_rt (y := nI x) (by rw [nI_clamp (by omega)]; exact hx1.symm) ?_
    refine lv_aload_n hx hb d_LW_law_543 rfl (lv_at hl 1 rfl) ?_
    refine lv_iload hx hb d_LW_law_544 (lv_at hl 0 rfl) ?_
    refine lv_iconst (v := nI 2) hx hb d_LW_law_546 (by decide +kernel) ?_
    refine lv_iadd hx hb d_LW_law_547 ?_
    refine ss_rt (y := nI (5 * i + 2)) (nI_add _ _) ?_
    refine va_sld hx hb hsc hbl hbA hS (vp_in_nI (by omega) (by omega)) d_LW_law_548 ?_
    refine ss_rt (y := nI y) (by rw [nI_clamp (by omega)]; exact hx2.symm) ?_
    have hPc : va_P D vwCl (ssW qs k gd wd se pr ln px cv co B R sx pt rd wt) _ := va_subP (a := (mW qm k cd wd se kd bn sh mb pr B R sx pt rd wt ln px) ++ ouW k ob of) (b := (ssW qs k gd wd se pr ln px cv co B R sx pt rd wt)) (c := (plW od k ad bd ed kd nb sh mb)) hP
    refine kr_iV (As := [.int (nI x), .int (nI y)]) (rest := []) ⟨hx, hb, hml, hown, hts⟩ (c_SS_pixel l D k qs gd wd se pr ln px cv co B R sx pt rd wt x y hxx hy) (cwV 2 hts (gV w_245 w_246 w_247 w_1 w_248) rfl rfl rfl (by decide +kernel) ⟨Nat.le_of_ble_eq_true rfl, Nat.le_of_ble_eq_true rfl⟩) hK hPc (va_recv hK hPc (ci := 0) (q0 := 0) rfl rfl) rfl hl.1 rfl (Nat.le_of_ble_eq_true rfl) d_LW_law_549 ⟨by show 21 + 3 * i ≤ 601024; omega, by show 9395 + 263 * i ≤ 7293034; omega⟩ ?_
    refine lv_aload_n hx hb d_LW_law_552 rfl (lv_at hl 3 rfl) ?_
    refine lv_aload_n hx hb d_LW_law_553 rfl (lv_at hl 1 rfl) ?_
    refine lv_iload hx hb d_LW_law_554 (lv_at hl 0 rfl) ?_
    refine lv_iconst (v := nI 1) hx hb d_LW_law_556 (by decide +kernel) ?_
    refine lv_iadd hx hb d_LW_law_557 ?_
    refine ss_rt (y := nI (5 * i + 1)) (nI_add _ _) ?_
    refine va_sld hx hb hsc hbl hbA hS (vp_in_nI (by omega) (by omega)) d_LW_law_558 ?_
    refine ss_rt (y := nI x) (by rw [nI_clamp (by omega)]; exact hx1.symm) ?_
    refine lv_aload_n hx hb d_LW_law_559 rfl (lv_at hl 1 rfl) ?_
    refine lv_iload hx hb d_LW_law_560 (lv_at hl 0 rfl) ?_
    refine lv_iconst (v := nI 2) hx hb d_LW_law_562 (by decide +kernel) ?_
    refine lv_iadd hx hb d_LW_law_563 ?_
    refine ss_rt (y := nI (5 * i + 2)) (nI_add _ _) ?_
    refine va_sld hx hb hsc hbl hbA hS (vp_in_nI (by omega) (by omega)) d_LW_law_564 ?_
    refine ss_rt (y := nI y) (by rw [nI_clamp (by omega)]; exact hx2.symm) ?_
    have hPc : va_P D vwCl (mW qm k cd wd se kd bn sh mb pr B R sx pt rd wt ln px) _ := va_subP (a := []) (b := (mW qm k cd wd se kd bn sh mb pr B R sx pt rd wt ln px)) (c := ouW k ob of ++ ((ssW qs k gd wd se pr ln px cv co B R sx pt rd wt) ++ (plW od k ad bd ed kd nb sh mb))) hP
    have hDc : va_D A (mW qm k cd wd se kd bn sh mb pr B R sx pt rd wt ln px) := va_subD (a := []) (b := (mW qm k cd wd se kd bn sh mb pr B R sx pt rd wt ln px)) (c := ouW k ob of ++ ((ssW qs k gd wd se pr ln px cv co B R sx pt rd wt) ++ (plW od k ad bd ed kd nb sh mb))) hD
    refine kw_iV (As := [.int (nI x), .int (nI y)]) (rest := [.int (nI (px (64 * y + x)))]) ⟨hx, hb, hml, hown, hts⟩ (c_MO_pixel l D k qm cd wd se kd bn sh mb pr B R sx pt rd wt ln px x y hxx hy) (cwV 2 hts (gV w_693 w_694 w_695 w_5 w_696) rfl rfl rfl (by decide +kernel) ⟨Nat.le_of_ble_eq_true rfl, Nat.le_of_ble_eq_true rfl⟩) hK hPc hDc hS hA (va_recv hK hPc (ci := 7) (q0 := 0) rfl rfl) rfl hl.1 rfl (Nat.le_of_ble_eq_true rfl) d_LW_law_565 ⟨by show 21 + 3 * i ≤ 601024; omega, by show 9395 + 263 * i ≤ 7293034; omega⟩ (fun _ _ H9 locs h9 hP1 hk1 hS9 => ?_)
    refine ss_rt h9 ?_
    clear h9
    obtain ⟨hP, hD⟩ := fr_mid (a := []) (b := (mW qm k cd wd se kd bn sh mb pr B R sx pt rd wt ln px)) (c := ouW k ob of ++ ((ssW qs k gd wd se pr ln px cv co B R sx pt rd wt) ++ (plW od k ad bd ed kd nb sh mb))) (b' := (mW qm k (nI 0) wd se kd bn sh mb pr B R sx pt rd wt ln px)) hP hD hk1 (fun q h => hA q (Nat.le_trans hS.1 h)) hP1 (rw_same hDc.self rfl)
    clear hP1 hk1 hPc hDc
    have hS := hS9
    clear hS9
    generalize H9 = H at hP hS ⊢
    have hP : va_P D vwCl ((mW qm k (nI 0) wd se kd bn sh mb pr B R sx pt rd wt ln px) ++ (ouW k ob of ++ ((ssW qs k gd wd se pr ln px cv co B R sx pt rd wt) ++ (plW od k ad bd ed kd nb sh mb)))) _ := hP
    have hD : va_D A ((mW qm k (nI 0) wd se kd bn sh mb pr B R sx pt rd wt ln px) ++ (ouW k ob of ++ ((ssW qs k gd wd se pr ln px cv co B R sx pt rd wt) ++ (plW od k ad bd ed kd nb sh mb)))) := hD
    refine lv_icmp_eq (tgt := 661) hx hb d_LW_law_568 (by decide) (fun c1 => ?_) (fun c1 => ?_)
    · have c1 := (Int32.toInt_inj.symm).mp c1
      refine lv_iinc (v := nI (5 * (i + 1))) (lv' := [(4, .int (nI (5 * (i + 1)))), (0, .ref b), (1, .ref (qs 0)), (2, .ref (qm 0)), (3, .ref ob)]) hx hb d_LW_law_661 hl (k := 0) rfl ((nI_add (5 * i) 5).trans (by rw [Nat.mul_succ])) (by decide) rfl (fun ls hl => ?_)
      refine lv_goto (tgt := 23) hx hb d_LW_law_664 (by decide) ?_
      refine W.widen (k := 21 + 3 * (i + 1)) (n := 9395 + 263 * (i + 1)) (by show 21 + 3 * i ≤ _; omega) (by show 9395 + 263 * i ≤ _; omega) ?_
      exact ih (nI 0) gd wd se pr ln px cv co B R sx pt rd wt od ad bd ed kd nb sh mb bn of _ _ _ ⟨hwd, hse, hpr, hln, hB, hR, hsx, hpt, hwt, hO, hkd, hsh, hmb, hbn, hz⟩ hP hD hS (lv_sub hl [0, 1, 2, 3, 4] rfl)
    · have c1 := mt (Int32.toInt_inj.symm).mpr c1
      exfalso; omega
  · skip
    refine lv_aload_n hx hb d_LW_law_536 rfl (lv_at hl 2 rfl) ?_
    refine lv_aload_n hx hb d_LW_law_537 rfl (lv_at hl 1 rfl) ?_
    refine lv_iload hx hb d_LW_law_538 (lv_at hl 0 rfl) ?_
    refine lv_iconst (v := nI 1) hx hb d_LW_law_540 (by decide +kernel) ?_
    refine lv_iadd hx hb d_LW_law_541 ?_
    refine ss_rt (y := nI (5 * i + 1)) (nI_add _ _) ?_
    refine va_sld hx hb hsc hbl hbA hS (vp_in_nI (by omega) (by omega)) d_LW_law_542 ?_
    refine ss_rt (y := x1) (by rw [nI_clamp (by omega)]; exact hx1.symm) ?_
    refine lv_aload_n hx hb d_LW_law_543 rfl (lv_at hl 1 rfl) ?_
    refine lv_iload hx hb d_LW_law_544 (lv_at hl 0 rfl) ?_
    refine lv_iconst (v := nI 2) hx hb d_LW_law_546 (by decide +kernel) ?_
    refine lv_iadd hx hb d_LW_law_547 ?_
    refine ss_rt (y := nI (5 * i + 2)) (nI_add _ _) ?_
    refine va_sld hx hb hsc hbl hbA hS (vp_in_nI (by omega) (by omega)) d_LW_law_548 ?_
    refine ss_rt (y := x2) (by rw [nI_clamp (by omega)]; exact hx2.symm) ?_
    have hPc : va_P D vwCl (ssW qs k gd wd se pr ln px cv co B R sx pt rd wt) _ := va_subP (a := (mW qm k cd wd se kd bn sh mb pr B R sx pt rd wt ln px) ++ ouW k ob of) (b := (ssW qs k gd wd se pr ln px cv co B R sx pt rd wt)) (c := (plW od k ad bd ed kd nb sh mb)) hP
    refine kr_iV (As := [.int x1, .int x2]) (rest := []) ⟨hx, hb, hml, hown, hts⟩ (c_SS_pixelb l D k qs gd wd se pr ln px cv co B R sx pt rd wt x1 x2 hv) (cwV 2 hts (gV w_245 w_246 w_247 w_1 w_248) rfl rfl rfl (by decide +kernel) ⟨Nat.le_of_ble_eq_true rfl, Nat.le_of_ble_eq_true rfl⟩) hK hPc (va_recv hK hPc (ci := 0) (q0 := 0) rfl rfl) rfl hl.1 rfl (Nat.le_of_ble_eq_true rfl) d_LW_law_549 ⟨by show 21 + 3 * i ≤ 601024; omega, by show 9395 + 263 * i ≤ 7293034; omega⟩ ?_
    refine lv_aload_n hx hb d_LW_law_552 rfl (lv_at hl 3 rfl) ?_
    refine lv_aload_n hx hb d_LW_law_553 rfl (lv_at hl 1 rfl) ?_
    refine lv_iload hx hb d_LW_law_554 (lv_at hl 0 rfl) ?_
    refine lv_iconst (v := nI 1) hx hb d_LW_law_556 (by decide +kernel) ?_
    refine lv_iadd hx hb d_LW_law_557 ?_
    refine ss_rt (y := nI (5 * i + 1)) (nI_add _ _) ?_
    refine va_sld hx hb hsc hbl hbA hS (vp_in_nI (by omega) (by omega)) d_LW_law_558 ?_
    refine ss_rt (y := x1) (by rw [nI_clamp (by omega)]; exact hx1.symm) ?_
    refine lv_aload_n hx hb d_LW_law_559 rfl (lv_at hl 1 rfl) ?_
    refine lv_iload hx hb d_LW_law_560 (lv_at hl 0 rfl) ?_
    refine lv_iconst (v := nI 2) hx hb d_LW_law_562 (by decide +kernel) ?_
    refine lv_iadd hx hb d_LW_law_563 ?_
    refine ss_rt (y := nI (5 * i + 2)) (nI_add _ _) ?_
    refine va_sld hx hb hsc hbl hbA hS (vp_in_nI (by omega) (by omega)) d_LW_law_564 ?_
    refine ss_rt (y := x2) (by rw [nI_clamp (by omega)]; exact hx2.symm) ?_
    have hPc : va_P D vwCl (mW qm k cd wd se kd bn sh mb pr B R sx pt rd wt ln px) _ := va_subP (a := []) (b := (mW qm k cd wd se kd bn sh mb pr B R sx pt rd wt ln px)) (c := ouW k ob of ++ ((ssW qs k gd wd se pr ln px cv co B R sx pt rd wt) ++ (plW od k ad bd ed kd nb sh mb))) hP
    have hDc : va_D A (mW qm k cd wd se kd bn sh mb pr B R sx pt rd wt ln px) := va_subD (a := []) (b := (mW qm k cd wd se kd bn sh mb pr B R sx pt rd wt ln px)) (c := ouW k ob of ++ ((ssW qs k gd wd se pr ln px cv co B R sx pt rd wt) ++ (plW od k ad bd ed kd nb sh mb))) hD
    refine kw_iV (As := [.int x1, .int x2]) (rest := [.int (-1)]) ⟨hx, hb, hml, hown, hts⟩ (c_MO_pixelb l D k qm cd wd se kd bn sh mb pr B R sx pt rd wt ln px x1 x2 hv) (cwV 2 hts (gV w_693 w_694 w_695 w_5 w_696) rfl rfl rfl (by decide +kernel) ⟨Nat.le_of_ble_eq_true rfl, Nat.le_of_ble_eq_true rfl⟩) hK hPc hDc hS hA (va_recv hK hPc (ci := 7) (q0 := 0) rfl rfl) rfl hl.1 rfl (Nat.le_of_ble_eq_true rfl) d_LW_law_565 ⟨by show 21 + 3 * i ≤ 601024; omega, by show 9395 + 263 * i ≤ 7293034; omega⟩ (fun _ _ H9 locs h9 hP1 hk1 hS9 => ?_)
    refine ss_rt h9 ?_
    clear h9
    obtain ⟨hP, hD⟩ := fr_mid (a := []) (b := (mW qm k cd wd se kd bn sh mb pr B R sx pt rd wt ln px)) (c := ouW k ob of ++ ((ssW qs k gd wd se pr ln px cv co B R sx pt rd wt) ++ (plW od k ad bd ed kd nb sh mb))) (b' := (mW qm k (nI 0) wd se kd bn sh mb pr B R sx pt rd wt ln px)) hP hD hk1 (fun q h => hA q (Nat.le_trans hS.1 h)) hP1 (rw_same hDc.self rfl)
    clear hP1 hk1 hPc hDc
    have hS := hS9
    clear hS9
    generalize H9 = H at hP hS ⊢
    have hP : va_P D vwCl ((mW qm k (nI 0) wd se kd bn sh mb pr B R sx pt rd wt ln px) ++ (ouW k ob of ++ ((ssW qs k gd wd se pr ln px cv co B R sx pt rd wt) ++ (plW od k ad bd ed kd nb sh mb)))) _ := hP
    have hD : va_D A ((mW qm k (nI 0) wd se kd bn sh mb pr B R sx pt rd wt ln px) ++ (ouW k ob of ++ ((ssW qs k gd wd se pr ln px cv co B R sx pt rd wt) ++ (plW od k ad bd ed kd nb sh mb)))) := hD
    refine lv_icmp_eq (tgt := 661) hx hb d_LW_law_568 (by decide) (fun c2 => ?_) (fun c2 => ?_)
    · have c2 := (Int32.toInt_inj.symm).mp c2
      refine lv_iinc (v := nI (5 * (i + 1))) (lv' := [(4, .int (nI (5 * (i + 1)))), (0, .ref b), (1, .ref (qs 0)), (2, .ref (qm 0)), (3, .ref ob)]) hx hb d_LW_law_661 hl (k := 0) rfl ((nI_add (5 * i) 5).trans (by rw [Nat.mul_succ])) (by decide) rfl (fun ls hl => ?_)
      refine lv_goto (tgt := 23) hx hb d_LW_law_664 (by decide) ?_
      refine W.widen (k := 21 + 3 * (i + 1)) (n := 9395 + 263 * (i + 1)) (by show 21 + 3 * i ≤ _; omega) (by show 9395 + 263 * i ≤ _; omega) ?_
      exact ih (nI 0) gd wd se pr ln px cv co B R sx pt rd wt od ad bd ed kd nb sh mb bn of _ _ _ ⟨hwd, hse, hpr, hln, hB, hR, hsx, hpt, hwt, hO, hkd, hsh, hmb, hbn, hz⟩ hP hD hS (lv_sub hl [0, 1, 2, 3, 4] rfl)
    · have c2 := mt (Int32.toInt_inj.symm).mpr c2
      exfalso; omega
set_option maxHeartbeats 4000000 in
set_option maxRecDepth 100000 in
theorem L_chip {p : Program} {l : Launch} {e : Env} {s : State} {m : MethodId} {below : List Frame} {meth : Method} {c : Code} {b L : Nat} {xs : Nat → Int32} {D : va_G} {k : Nat → ClassId} {A : Nat → Prop} {Q : State → Prop} {qm qs : Nat → Nat} {ob : Nat} (C : LC p l s m meth c b L xs D k A) (i : Nat) (hi : 5 * i + 5 ≤ L) (ih : LG p l e s m below meth c b D k A Q qm qs ob (i + 1)) (cd : Int32) (gd : Nat → Option Nat) (wd : Nat → Nat) (se : Nat → Nat) (pr : Nat) (ln : Nat) (px : Nat → Nat) (cv : Nat) (co : Nat) (B : Nat → Nat) (R : Nat → Nat) (sx : Nat) (pt : Nat) (rd : Nat) (wt : Int32) (od : List Nat) (ad : Nat → Nat) (bd : Nat → Nat) (ed : Nat → Nat) (kd : Nat → Nat) (nb : Nat → Nat) (sh : Nat → Nat) (mb : Nat → Nat) (bn : Nat → Int32) (of : Nat → Int64) (H : Heap) (locs : List Loc) (ls : Array Slot) (hF : LF gd wd se pr ln B R sx pt wt od ad kd nb sh mb bn) (hP : va_P D vwCl ((mW qm k cd wd se kd bn sh mb pr B R sx pt rd wt ln px) ++ (ouW k ob of ++ ((ssW qs k gd wd se pr ln px cv co B R sx pt rd wt) ++ (plW od k ad bd ed kd nb sh mb)))) H) (hD : va_D A ((mW qm k cd wd se kd bn sh mb pr B R sx pt rd wt ln px) ++ (ouW k ob of ++ ((ssW qs k gd wd se pr ln px cv co B R sx pt rd wt) ++ (plW od k ad bd ed kd nb sh mb))))) (hS : va_S A s.heap H locs) (hl : lv_has ls 7 [(4, .int (nI (5 * i))), (0, .ref b), (1, .ref (qs 0)), (2, .ref (qm 0)), (3, .ref ob)]) : W p l e room_1 s m #[Value.ref b] below meth c H locs (21 + 3 * i) (9395 + 263 * i) Q (F0 m 598 ls []) := by
  obtain ⟨hx, hb, hr, hlocks, hml, hown, hts, hX, hT, hU, hK, hA, hsc, hbl, hbA, hl9, hL⟩ := C
  obtain ⟨hwd, hse, hpr, hln, hB, hR, hsx, hpt, hwt, hO, hkd, hsh, hmb, hbn, hz⟩ := hF
  obtain ⟨x1, hx1⟩ : ∃ z, z = xs (5 * i + 1) := ⟨_, rfl⟩
  by_cases hv : 0 ≤ x1.toInt ∧ x1.toInt ≤ 7
  · obtain ⟨j, hj, rfl⟩ := n_ix (n := 8) hv.1 (by omega)
    refine lv_aload_n hx hb d_LW_law_598 rfl (lv_at hl 2 rfl) ?_
    refine lv_aload_n hx hb d_LW_law_599 rfl (lv_at hl 1 rfl) ?_
    refine lv_iload hx hb d_LW_law_600 (lv_at hl 0 rfl) ?_
    refine lv_iconst (v := nI 1) hx hb d_LW_law_602 (by decide +kernel) ?_
    refine lv_iadd hx hb d_LW_law_603 ?_
    refine ss_rt (y := nI (5 * i + 1)) (nI_add _ _) ?_
    refine va_sld hx hb hsc hbl hbA hS (vp_in_nI (by omega) (by omega)) d_LW_law_604 ?_
    refine ss_rt (y := nI j) (by rw [nI_clamp (by omega)]; exact hx1.symm) ?_
    have hPc : va_P D vwCl (ssW qs k gd wd se pr ln px cv co B R sx pt rd wt) _ := va_subP (a := (mW qm k cd wd se kd bn sh mb pr B R sx pt rd wt ln px) ++ ouW k ob of) (b := (ssW qs k gd wd se pr ln px cv co B R sx pt rd wt)) (c := (plW od k ad bd ed kd nb sh mb)) hP
    refine kr_iV (As := [.int (nI j)]) (rest := []) ⟨hx, hb, hml, hown, hts⟩ (c_SS_chipr l D k qs gd wd se pr ln px cv co B R sx pt rd wt j hj) (cwV 1 hts (gV w_258 w_259 w_260 w_1 w_261) rfl rfl rfl (by decide +kernel) ⟨Nat.le_of_ble_eq_true rfl, Nat.le_of_ble_eq_true rfl⟩) hK hPc (va_recv hK hPc (ci := 0) (q0 := 0) rfl rfl) rfl hl.1 rfl (Nat.le_of_ble_eq_true rfl) d_LW_law_605 ⟨by show 21 + 3 * i ≤ 601024; omega, by show 9395 + 263 * i ≤ 7293034; omega⟩ ?_
    refine lv_aload_n hx hb d_LW_law_608 rfl (lv_at hl 3 rfl) ?_
    refine lv_aload_n hx hb d_LW_law_609 rfl (lv_at hl 1 rfl) ?_
    refine lv_iload hx hb d_LW_law_610 (lv_at hl 0 rfl) ?_
    refine lv_iconst (v := nI 1) hx hb d_LW_law_612 (by decide +kernel) ?_
    refine lv_iadd hx hb d_LW_law_613 ?_
    refine ss_rt (y := nI (5 * i + 1)) (nI_add _ _) ?_
    refine va_sld hx hb hsc hbl hbA hS (vp_in_nI (by omega) (by omega)) d_LW_law_614 ?_
    refine ss_rt (y := nI j) (by rw [nI_clamp (by omega)]; exact hx1.symm) ?_
    have hPc : va_P D vwCl (mW qm k cd wd se kd bn sh mb pr B R sx pt rd wt ln px) _ := va_subP (a := []) (b := (mW qm k cd wd se kd bn sh mb pr B R sx pt rd wt ln px)) (c := ouW k ob of ++ ((ssW qs k gd wd se pr ln px cv co B R sx pt rd wt) ++ (plW od k ad bd ed kd nb sh mb))) hP
    have hDc : va_D A (mW qm k cd wd se kd bn sh mb pr B R sx pt rd wt ln px) := va_subD (a := []) (b := (mW qm k cd wd se kd bn sh mb pr B R sx pt rd wt ln px)) (c := ouW k ob of ++ ((ssW qs k gd wd se pr ln px cv co B R sx pt rd wt) ++ (plW od k ad bd ed kd nb sh mb))) hD
    refine kw_iV (As := [.int (nI j)]) (rest := [.int (nI (R j))]) ⟨hx, hb, hml, hown, hts⟩ (c_MO_chipr l D k qm cd wd se kd bn sh mb pr B R sx pt rd wt ln px j hj) (cwV 1 hts (gV w_701 w_702 w_703 w_5 w_704) rfl rfl rfl (by decide +kernel) ⟨Nat.le_of_ble_eq_true rfl, Nat.le_of_ble_eq_true rfl⟩) hK hPc hDc hS hA (va_recv hK hPc (ci := 7) (q0 := 0) rfl rfl) rfl hl.1 rfl (Nat.le_of_ble_eq_true rfl) d_LW_law_615 ⟨by show 21 + 3 * i ≤ 601024; omega, by show 9395 + 263 * i ≤ 7293034; omega⟩ (fun _ _ H9 locs h9 hP1 hk1 hS9 => ?_)
    refine ss_rt h9 ?_
    clear h9
    obtain ⟨hP, hD⟩ := fr_mid (a := []) (b := (mW qm k cd wd se kd bn sh mb pr B R sx pt rd wt ln px)) (c := ouW k ob of ++ ((ssW qs k gd wd se pr ln px cv co B R sx pt rd wt) ++ (plW od k ad bd ed kd nb sh mb))) (b' := (mW qm k (nI 0) wd se kd bn sh mb pr B R sx pt rd wt ln px)) hP hD hk1 (fun q h => hA q (Nat.le_trans hS.1 h)) hP1 (rw_same hDc.self rfl)
    clear hP1 hk1 hPc hDc
    have hS := hS9
    clear hS9
    generalize H9 = H at hP hS ⊢
    have hP : va_P D vwCl ((mW qm k (nI 0) wd se kd bn sh mb pr B R sx pt rd wt ln px) ++ (ouW k ob of ++ ((ssW qs k gd wd se pr ln px cv co B R sx pt rd wt) ++ (plW od k ad bd ed kd nb sh mb)))) _ := hP
    have hD : va_D A ((mW qm k (nI 0) wd se kd bn sh mb pr B R sx pt rd wt ln px) ++ (ouW k ob of ++ ((ssW qs k gd wd se pr ln px cv co B R sx pt rd wt) ++ (plW od k ad bd ed kd nb sh mb)))) := hD
    refine lv_icmp_eq (tgt := 661) hx hb d_LW_law_618 (by decide) (fun c1 => ?_) (fun c1 => ?_)
    · have c1 := (Int32.toInt_inj.symm).mp c1
      refine lv_iinc (v := nI (5 * (i + 1))) (lv' := [(4, .int (nI (5 * (i + 1)))), (0, .ref b), (1, .ref (qs 0)), (2, .ref (qm 0)), (3, .ref ob)]) hx hb d_LW_law_661 hl (k := 0) rfl ((nI_add (5 * i) 5).trans (by rw [Nat.mul_succ])) (by decide) rfl (fun ls hl => ?_)
      refine lv_goto (tgt := 23) hx hb d_LW_law_664 (by decide) ?_
      refine W.widen (k := 21 + 3 * (i + 1)) (n := 9395 + 263 * (i + 1)) (by show 21 + 3 * i ≤ _; omega) (by show 9395 + 263 * i ≤ _; omega) ?_
      exact ih (nI 0) gd wd se pr ln px cv co B R sx pt rd wt od ad bd ed kd nb sh mb bn of _ _ _ ⟨hwd, hse, hpr, hln, hB, hR, hsx, hpt, hwt, hO, hkd, hsh, hmb, hbn, hz⟩ hP hD hS (lv_sub hl [0, 1, 2, 3, 4] rfl)
    · have c1 := mt (Int32.toInt_inj.symm).mpr c1
      exfalso; omega
  by_cases e8 : x1.toInt = ((8 : Nat) : Int)
  · obtain rfl := (zn_eq (by omega)).mpr e8
    refine lv_aload_n hx hb d_LW_law_598 rfl (lv_at hl 2 rfl) ?_
    refine lv_aload_n hx hb d_LW_law_599 rfl (lv_at hl 1 rfl) ?_
    refine lv_iload hx hb d_LW_law_600 (lv_at hl 0 rfl) ?_
    refine lv_iconst (v := nI 1) hx hb d_LW_law_602 (by decide +kernel) ?_
    refine lv_iadd hx hb d_LW_law_603 ?_
    refine ss_rt (y := nI (5 * i + 1)) (nI_add _ _) ?_
    refine va_sld hx hb hsc hbl hbA hS (vp_in_nI (by omega) (by omega)) d_LW_law_604 ?_
    refine ss_rt (y := nI 8) (by rw [nI_clamp (by omega)]; exact hx1.symm) ?_
    have hPc : va_P D vwCl (ssW qs k gd wd se pr ln px cv co B R sx pt rd wt) _ := va_subP (a := (mW qm k cd wd se kd bn sh mb pr B R sx pt rd wt ln px) ++ ouW k ob of) (b := (ssW qs k gd wd se pr ln px cv co B R sx pt rd wt)) (c := (plW od k ad bd ed kd nb sh mb)) hP
    refine kr_iV (As := [.int (nI 8)]) (rest := []) ⟨hx, hb, hml, hown, hts⟩ (c_SS_chip8 l D k qs gd wd se pr ln px cv co B R sx pt rd wt) (cwV 1 hts (gV w_258 w_259 w_260 w_1 w_261) rfl rfl rfl (by decide +kernel) ⟨Nat.le_of_ble_eq_true rfl, Nat.le_of_ble_eq_true rfl⟩) hK hPc (va_recv hK hPc (ci := 0) (q0 := 0) rfl rfl) rfl hl.1 rfl (Nat.le_of_ble_eq_true rfl) d_LW_law_605 ⟨by show 21 + 3 * i ≤ 601024; omega, by show 9395 + 263 * i ≤ 7293034; omega⟩ ?_
    refine lv_aload_n hx hb d_LW_law_608 rfl (lv_at hl 3 rfl) ?_
    refine lv_aload_n hx hb d_LW_law_609 rfl (lv_at hl 1 rfl) ?_
    refine lv_iload hx hb d_LW_law_610 (lv_at hl 0 rfl) ?_
    refine lv_iconst (v := nI 1) hx hb d_LW_law_612 (by decide +kernel) ?_
    refine lv_iadd hx hb d_LW_law_613 ?_
    refine ss_rt (y := nI (5 * i + 1)) (nI_add _ _) ?_
    refine va_sld hx hb hsc hbl hbA hS (vp_in_nI (by omega) (by omega)) d_LW_law_614 ?_
    refine ss_rt (y := nI 8) (by rw [nI_clamp (by omega)]; exact hx1.symm) ?_
    have hPc : va_P D vwCl (mW qm k cd wd se kd bn sh mb pr B R sx pt rd wt ln px) _ := va_subP (a := []) (b := (mW qm k cd wd se kd bn sh mb pr B R sx pt rd wt ln px)) (c := ouW k ob of ++ ((ssW qs k gd wd se pr ln px cv co B R sx pt rd wt) ++ (plW od k ad bd ed kd nb sh mb))) hP
    have hDc : va_D A (mW qm k cd wd se kd bn sh mb pr B R sx pt rd wt ln px) := va_subD (a := []) (b := (mW qm k cd wd se kd bn sh mb pr B R sx pt rd wt ln px)) (c := ouW k ob of ++ ((ssW qs k gd wd se pr ln px cv co B R sx pt rd wt) ++ (plW od k ad bd ed kd nb sh mb))) hD
    refine kw_iV (As := [.int (nI 8)]) (rest := [.int (nI sx)]) ⟨hx, hb, hml, hown, hts⟩ (c_MO_chip8 l D k qm cd wd se kd bn sh mb pr B R sx pt rd wt ln px) (cwV 1 hts (gV w_701 w_702 w_703 w_5 w_704) rfl rfl rfl (by decide +kernel) ⟨Nat.le_of_ble_eq_true rfl, Nat.le_of_ble_eq_true rfl⟩) hK hPc hDc hS hA (va_recv hK hPc (ci := 7) (q0 := 0) rfl rfl) rfl hl.1 rfl (Nat.le_of_ble_eq_true rfl) d_LW_law_615 ⟨by show 21 + 3 * i ≤ 601024; omega, by show 9395 + 263 * i ≤ 7293034; omega⟩ (fun _ _ H9 locs h9 hP1 hk1 hS9 => ?_)
    refine ss_rt h9 ?_
    clear h9
    obtain ⟨hP, hD⟩ := fr_mid (a := []) (b := (mW qm k cd wd se kd bn sh mb pr B R sx pt rd wt ln px)) (c := ouW k ob of ++ ((ssW qs k gd wd se pr ln px cv co B R sx pt rd wt) ++ (plW od k ad bd ed kd nb sh mb))) (b' := (mW qm k (nI 0) wd se kd bn sh mb pr B R sx pt rd wt ln px)) hP hD hk1 (fun q h => hA q (Nat.le_trans hS.1 h)) hP1 (rw_same hDc.self rfl)
    clear hP1 hk1 hPc hDc
    have hS := hS9
    clear hS9
    generalize H9 = H at hP hS ⊢
    have hP : va_P D vwCl ((mW qm k (nI 0) wd se kd bn sh mb pr B R sx pt rd wt ln px) ++ (ouW k ob of ++ ((ssW qs k gd wd se pr ln px cv co B R sx pt rd wt) ++ (plW od k ad bd ed kd nb sh mb)))) _ := hP
    have hD : va_D A ((mW qm k (nI 0) wd se kd bn sh mb pr B R sx pt rd wt ln px) ++ (ouW k ob of ++ ((ssW qs k gd wd se pr ln px cv co B R sx pt rd wt) ++ (plW od k ad bd ed kd nb sh mb)))) := hD
    refine lv_icmp_eq (tgt := 661) hx hb d_LW_law_618 (by decide) (fun c2 => ?_) (fun c2 => ?_)
    · have c2 := (Int32.toInt_inj.symm).mp c2
      refine lv_iinc (v := nI (5 * (i + 1))) (lv' := [(4, .int (nI (5 * (i + 1)))), (0, .ref b), (1, .ref (qs 0)), (2, .ref (qm 0)), (3, .ref ob)]) hx hb d_LW_law_661 hl (k := 0) rfl ((nI_add (5 * i) 5).trans (by rw [Nat.mul_succ])) (by decide) rfl (fun ls hl => ?_)
      refine lv_goto (tgt := 23) hx hb d_LW_law_664 (by decide) ?_
      refine W.widen (k := 21 + 3 * (i + 1)) (n := 9395 + 263 * (i + 1)) (by show 21 + 3 * i ≤ _; omega) (by show 9395 + 263 * i ≤ _; omega) ?_
      exact ih (nI 0) gd wd se pr ln px cv co B R sx pt rd wt od ad bd ed kd nb sh mb bn of _ _ _ ⟨hwd, hse, hpr, hln, hB, hR, hsx, hpt, hwt, hO, hkd, hsh, hmb, hbn, hz⟩ hP hD hS (lv_sub hl [0, 1, 2, 3, 4] rfl)
    · have c2 := mt (Int32.toInt_inj.symm).mpr c2
      exfalso; omega
  by_cases e9 : x1.toInt = ((9 : Nat) : Int)
  · obtain rfl := (zn_eq (by omega)).mpr e9
    refine lv_aload_n hx hb d_LW_law_598 rfl (lv_at hl 2 rfl) ?_
    refine lv_aload_n hx hb d_LW_law_599 rfl (lv_at hl 1 rfl) ?_
    refine lv_iload hx hb d_LW_law_600 (lv_at hl 0 rfl) ?_
    refine lv_iconst (v := nI 1) hx hb d_LW_law_602 (by decide +kernel) ?_
    refine lv_iadd hx hb d_LW_law_603 ?_
    refine ss_rt (y := nI (5 * i + 1)) (nI_add _ _) ?_
    refine va_sld hx hb hsc hbl hbA hS (vp_in_nI (by omega) (by omega)) d_LW_law_604 ?_
    refine ss_rt (y := nI 9) (by rw [nI_clamp (by omega)]; exact hx1.symm) ?_
    have hPc : va_P D vwCl (ssW qs k gd wd se pr ln px cv co B R sx pt rd wt) _ := va_subP (a := (mW qm k cd wd se kd bn sh mb pr B R sx pt rd wt ln px) ++ ouW k ob of) (b := (ssW qs k gd wd se pr ln px cv co B R sx pt rd wt)) (c := (plW od k ad bd ed kd nb sh mb)) hP
    refine kr_iV (As := [.int (nI 9)]) (rest := []) ⟨hx, hb, hml, hown, hts⟩ (c_SS_chip9 l D k qs gd wd se pr ln px cv co B R sx pt rd wt) (cwV 1 hts (gV w_258 w_259 w_260 w_1 w_261) rfl rfl rfl (by decide +kernel) ⟨Nat.le_of_ble_eq_true rfl, Nat.le_of_ble_eq_true rfl⟩) hK hPc (va_recv hK hPc (ci := 0) (q0 := 0) rfl rfl) rfl hl.1 rfl (Nat.le_of_ble_eq_true rfl) d_LW_law_605 ⟨by show 21 + 3 * i ≤ 601024; omega, by show 9395 + 263 * i ≤ 7293034; omega⟩ ?_
    refine lv_aload_n hx hb d_LW_law_608 rfl (lv_at hl 3 rfl) ?_
    refine lv_aload_n hx hb d_LW_law_609 rfl (lv_at hl 1 rfl) ?_
    refine lv_iload hx hb d_LW_law_610 (lv_at hl 0 rfl) ?_
    refine lv_iconst (v := nI 1) hx hb d_LW_law_612 (by decide +kernel) ?_
    refine lv_iadd hx hb d_LW_law_613 ?_
    refine ss_rt (y := nI (5 * i + 1)) (nI_add _ _) ?_
    refine va_sld hx hb hsc hbl hbA hS (vp_in_nI (by omega) (by omega)) d_LW_law_614 ?_
    refine ss_rt (y := nI 9) (by rw [nI_clamp (by omega)]; exact hx1.symm) ?_
    have hPc : va_P D vwCl (mW qm k cd wd se kd bn sh mb pr B R sx pt rd wt ln px) _ := va_subP (a := []) (b := (mW qm k cd wd se kd bn sh mb pr B R sx pt rd wt ln px)) (c := ouW k ob of ++ ((ssW qs k gd wd se pr ln px cv co B R sx pt rd wt) ++ (plW od k ad bd ed kd nb sh mb))) hP
    have hDc : va_D A (mW qm k cd wd se kd bn sh mb pr B R sx pt rd wt ln px) := va_subD (a := []) (b := (mW qm k cd wd se kd bn sh mb pr B R sx pt rd wt ln px)) (c := ouW k ob of ++ ((ssW qs k gd wd se pr ln px cv co B R sx pt rd wt) ++ (plW od k ad bd ed kd nb sh mb))) hD
    refine kw_iV (As := [.int (nI 9)]) (rest := [.int (nI pt)]) ⟨hx, hb, hml, hown, hts⟩ (c_MO_chip9 l D k qm cd wd se kd bn sh mb pr B R sx pt rd wt ln px) (cwV 1 hts (gV w_701 w_702 w_703 w_5 w_704) rfl rfl rfl (by decide +kernel) ⟨Nat.le_of_ble_eq_true rfl, Nat.le_of_ble_eq_true rfl⟩) hK hPc hDc hS hA (va_recv hK hPc (ci := 7) (q0 := 0) rfl rfl) rfl hl.1 rfl (Nat.le_of_ble_eq_true rfl) d_LW_law_615 ⟨by show 21 + 3 * i ≤ 601024; omega, by show 9395 + 263 * i ≤ 7293034; omega⟩ (fun _ _ H9 locs h9 hP1 hk1 hS9 => ?_)
    refine ss_rt h9 ?_
    clear h9
    obtain ⟨hP, hD⟩ := fr_mid (a := []) (b := (mW qm k cd wd se kd bn sh mb pr B R sx pt rd wt ln px)) (c := ouW k ob of ++ ((ssW qs k gd wd se pr ln px cv co B R sx pt rd wt) ++ (plW od k ad bd ed kd nb sh mb))) (b' := (mW qm k (nI 0) wd se kd bn sh mb pr B R sx pt rd wt ln px)) hP hD hk1 (fun q h => hA q (Nat.le_trans hS.1 h)) hP1 (rw_same hDc.self rfl)
    clear hP1 hk1 hPc hDc
    have hS := hS9
    clear hS9
    generalize H9 = H at hP hS ⊢
    have hP : va_P D vwCl ((mW qm k (nI 0) wd se kd bn sh mb pr B R sx pt rd wt ln px) ++ (ouW k ob of ++ ((ssW qs k gd wd se pr ln px cv co B R sx pt rd wt) ++ (plW od k ad bd ed kd nb sh mb)))) _ := hP
    have hD : va_D A ((mW qm k (nI 0) wd se kd bn sh mb pr B R sx pt rd wt ln px) ++ (ouW k ob of ++ ((ssW qs k gd wd se pr ln px cv co B R sx pt rd wt) ++ (plW od k ad bd ed kd nb sh mb)))) := hD
    refine lv_icmp_eq (tgt := 661) hx hb d_LW_law_618 (by decide) (fun c3 => ?_) (fun c3 => ?_)
    · have c3 := (Int32.toInt_inj.symm).mp c3
      refine lv_iinc (v := nI (5 * (i + 1))) (lv' := [(4, .int (nI (5 * (i + 1)))), (0, .ref b), (1, .ref (qs 0)), (2, .ref (qm 0)), (3, .ref ob)]) hx hb d_LW_law_661 hl (k := 0) rfl ((nI_add (5 * i) 5).trans (by rw [Nat.mul_succ])) (by decide) rfl (fun ls hl => ?_)
      refine lv_goto (tgt := 23) hx hb d_LW_law_664 (by decide) ?_
      refine W.widen (k := 21 + 3 * (i + 1)) (n := 9395 + 263 * (i + 1)) (by show 21 + 3 * i ≤ _; omega) (by show 9395 + 263 * i ≤ _; omega) ?_
      exact ih (nI 0) gd wd se pr ln px cv co B R sx pt rd wt od ad bd ed kd nb sh mb bn of _ _ _ ⟨hwd, hse, hpr, hln, hB, hR, hsx, hpt, hwt, hO, hkd, hsh, hmb, hbn, hz⟩ hP hD hS (lv_sub hl [0, 1, 2, 3, 4] rfl)
    · have c3 := mt (Int32.toInt_inj.symm).mpr c3
      exfalso; omega
  by_cases e10 : x1.toInt = ((10 : Nat) : Int)
  · obtain rfl := (zn_eq (by omega)).mpr e10
    refine lv_aload_n hx hb d_LW_law_598 rfl (lv_at hl 2 rfl) ?_
    refine lv_aload_n hx hb d_LW_law_599 rfl (lv_at hl 1 rfl) ?_
    refine lv_iload hx hb d_LW_law_600 (lv_at hl 0 rfl) ?_
    refine lv_iconst (v := nI 1) hx hb d_LW_law_602 (by decide +kernel) ?_
    refine lv_iadd hx hb d_LW_law_603 ?_
    refine ss_rt (y := nI (5 * i + 1)) (nI_add _ _) ?_
    refine va_sld hx hb hsc hbl hbA hS (vp_in_nI (by omega) (by omega)) d_LW_law_604 ?_
    refine ss_rt (y := nI 10) (by rw [nI_clamp (by omega)]; exact hx1.symm) ?_
    have hPc : va_P D vwCl (ssW qs k gd wd se pr ln px cv co B R sx pt rd wt) _ := va_subP (a := (mW qm k cd wd se kd bn sh mb pr B R sx pt rd wt ln px) ++ ouW k ob of) (b := (ssW qs k gd wd se pr ln px cv co B R sx pt rd wt)) (c := (plW od k ad bd ed kd nb sh mb)) hP
    refine kr_iV (As := [.int (nI 10)]) (rest := []) ⟨hx, hb, hml, hown, hts⟩ (c_SS_chip10 l D k qs gd wd se pr ln px cv co B R sx pt rd wt) (cwV 1 hts (gV w_258 w_259 w_260 w_1 w_261) rfl rfl rfl (by decide +kernel) ⟨Nat.le_of_ble_eq_true rfl, Nat.le_of_ble_eq_true rfl⟩) hK hPc (va_recv hK hPc (ci := 0) (q0 := 0) rfl rfl) rfl hl.1 rfl (Nat.le_of_ble_eq_true rfl) d_LW_law_605 ⟨by show 21 + 3 * i ≤ 601024; omega, by show 9395 + 263 * i ≤ 7293034; omega⟩ ?_
    refine lv_aload_n hx hb d_LW_law_608 rfl (lv_at hl 3 rfl) ?_
    refine lv_aload_n hx hb d_LW_law_609 rfl (lv_at hl 1 rfl) ?_
    refine lv_iload hx hb d_LW_law_610 (lv_at hl 0 rfl) ?_
    refine lv_iconst (v := nI 1) hx hb d_LW_law_612 (by decide +kernel) ?_
    refine lv_iadd hx hb d_LW_law_613 ?_
    refine ss_rt (y := nI (5 * i + 1)) (nI_add _ _) ?_
    refine va_sld hx hb hsc hbl hbA hS (vp_in_nI (by omega) (by omega)) d_LW_law_614 ?_
    refine ss_rt (y := nI 10) (by rw [nI_clamp (by omega)]; exact hx1.symm) ?_
    have hPc : va_P D vwCl (mW qm k cd wd se kd bn sh mb pr B R sx pt rd wt ln px) _ := va_subP (a := []) (b := (mW qm k cd wd se kd bn sh mb pr B R sx pt rd wt ln px)) (c := ouW k ob of ++ ((ssW qs k gd wd se pr ln px cv co B R sx pt rd wt) ++ (plW od k ad bd ed kd nb sh mb))) hP
    have hDc : va_D A (mW qm k cd wd se kd bn sh mb pr B R sx pt rd wt ln px) := va_subD (a := []) (b := (mW qm k cd wd se kd bn sh mb pr B R sx pt rd wt ln px)) (c := ouW k ob of ++ ((ssW qs k gd wd se pr ln px cv co B R sx pt rd wt) ++ (plW od k ad bd ed kd nb sh mb))) hD
    refine kw_iV (As := [.int (nI 10)]) (rest := [.int (nI rd)]) ⟨hx, hb, hml, hown, hts⟩ (c_MO_chip10 l D k qm cd wd se kd bn sh mb pr B R sx pt rd wt ln px) (cwV 1 hts (gV w_701 w_702 w_703 w_5 w_704) rfl rfl rfl (by decide +kernel) ⟨Nat.le_of_ble_eq_true rfl, Nat.le_of_ble_eq_true rfl⟩) hK hPc hDc hS hA (va_recv hK hPc (ci := 7) (q0 := 0) rfl rfl) rfl hl.1 rfl (Nat.le_of_ble_eq_true rfl) d_LW_law_615 ⟨by show 21 + 3 * i ≤ 601024; omega, by show 9395 + 263 * i ≤ 7293034; omega⟩ (fun _ _ H9 locs h9 hP1 hk1 hS9 => ?_)
    refine ss_rt h9 ?_
    clear h9
    obtain ⟨hP, hD⟩ := fr_mid (a := []) (b := (mW qm k cd wd se kd bn sh mb pr B R sx pt rd wt ln px)) (c := ouW k ob of ++ ((ssW qs k gd wd se pr ln px cv co B R sx pt rd wt) ++ (plW od k ad bd ed kd nb sh mb))) (b' := (mW qm k (nI 0) wd se kd bn sh mb pr B R sx pt rd wt ln px)) hP hD hk1 (fun q h => hA q (Nat.le_trans hS.1 h)) hP1 (rw_same hDc.self rfl)
    clear hP1 hk1 hPc hDc
    have hS := hS9
    clear hS9
    generalize H9 = H at hP hS ⊢
    have hP : va_P D vwCl ((mW qm k (nI 0) wd se kd bn sh mb pr B R sx pt rd wt ln px) ++ (ouW k ob of ++ ((ssW qs k gd wd se pr ln px cv co B R sx pt rd wt) ++ (plW od k ad bd ed kd nb sh mb)))) _ := hP
    have hD : va_D A ((mW qm k (nI 0) wd se kd bn sh mb pr B R sx pt rd wt ln px) ++ (ouW k ob of ++ ((ssW qs k gd wd se pr ln px cv co B R sx pt rd wt) ++ (plW od k ad bd ed kd nb sh mb)))) := hD
    refine lv_icmp_eq (tgt := 661) hx hb d_LW_law_618 (by decide) (fun c4 => ?_) (fun c4 => ?_)
    · have c4 := (Int32.toInt_inj.symm).mp c4
      refine lv_iinc (v := nI (5 * (i + 1))) (lv' := [(4, .int (nI (5 * (i + 1)))), (0, .ref b), (1, .ref (qs 0)), (2, .ref (qm 0)), (3, .ref ob)]) hx hb d_LW_law_661 hl (k := 0) rfl ((nI_add (5 * i) 5).trans (by rw [Nat.mul_succ])) (by decide) rfl (fun ls hl => ?_)
      refine lv_goto (tgt := 23) hx hb d_LW_law_664 (by decide) ?_
      refine W.widen (k := 21 + 3 * (i + 1)) (n := 9395 + 263 * (i + 1)) (by show 21 + 3 * i ≤ _; omega) (by show 9395 + 263 * i ≤ _; omega) ?_
      exact ih (nI 0) gd wd se pr ln px cv co B R sx pt rd wt od ad bd ed kd nb sh mb bn of _ _ _ ⟨hwd, hse, hpr, hln, hB, hR, hsx, hpt, hwt, hO, hkd, hsh, hmb, hbn, hz⟩ hP hD hS (lv_sub hl [0, 1, 2, 3, 4] rfl)
    · have c4 := mt (Int32.toInt_inj.symm).mpr c4
      exfalso; omega
  by_cases e11 : x1.toInt = ((11 : Nat) : Int)
  · obtain rfl := (zn_eq (by omega)).mpr e11
    refine lv_aload_n hx hb d_LW_law_598 rfl (lv_at hl 2 rfl) ?_
    refine lv_aload_n hx hb d_LW_law_599 rfl (lv_at hl 1 rfl) ?_
    refine lv_iload hx hb d_LW_law_600 (lv_at hl 0 rfl) ?_
    refine lv_iconst (v := nI 1) hx hb d_LW_law_602 (by decide +kernel) ?_
    refine lv_iadd hx hb d_LW_law_603 ?_
    refine ss_rt (y := nI (5 * i + 1)) (nI_add _ _) ?_
    refine va_sld hx hb hsc hbl hbA hS (vp_in_nI (by omega) (by omega)) d_LW_law_604 ?_
    refine ss_rt (y := nI 11) (by rw [nI_clamp (by omega)]; exact hx1.symm) ?_
    have hPc : va_P D vwCl (ssW qs k gd wd se pr ln px cv co B R sx pt rd wt) _ := va_subP (a := (mW qm k cd wd se kd bn sh mb pr B R sx pt rd wt ln px) ++ ouW k ob of) (b := (ssW qs k gd wd se pr ln px cv co B R sx pt rd wt)) (c := (plW od k ad bd ed kd nb sh mb)) hP
    refine kr_iV (As := [.int (nI 11)]) (rest := []) ⟨hx, hb, hml, hown, hts⟩ (c_SS_chip11 l D k qs gd wd se pr ln px cv co B R sx pt rd wt) (cwV 1 hts (gV w_258 w_259 w_260 w_1 w_261) rfl rfl rfl (by decide +kernel) ⟨Nat.le_of_ble_eq_true rfl, Nat.le_of_ble_eq_true rfl⟩) hK hPc (va_recv hK hPc (ci := 0) (q0 := 0) rfl rfl) rfl hl.1 rfl (Nat.le_of_ble_eq_true rfl) d_LW_law_605 ⟨by show 21 + 3 * i ≤ 601024; omega, by show 9395 + 263 * i ≤ 7293034; omega⟩ ?_
    refine lv_aload_n hx hb d_LW_law_608 rfl (lv_at hl 3 rfl) ?_
    refine lv_aload_n hx hb d_LW_law_609 rfl (lv_at hl 1 rfl) ?_
    refine lv_iload hx hb d_LW_law_610 (lv_at hl 0 rfl) ?_
    refine lv_iconst (v := nI 1) hx hb d_LW_law_612 (by decide +kernel) ?_
    refine lv_iadd hx hb d_LW_law_613 ?_
    refine ss_rt (y := nI (5 * i + 1)) (nI_add _ _) ?_
    refine va_sld hx hb hsc hbl hbA hS (vp_in_nI (by omega) (by omega)) d_LW_law_614 ?_
    refine ss_rt (y := nI 11) (by rw [nI_clamp (by omega)]; exact hx1.symm) ?_
    have hPc : va_P D vwCl (mW qm k cd wd se kd bn sh mb pr B R sx pt rd wt ln px) _ := va_subP (a := []) (b := (mW qm k cd wd se kd bn sh mb pr B R sx pt rd wt ln px)) (c := ouW k ob of ++ ((ssW qs k gd wd se pr ln px cv co B R sx pt rd wt) ++ (plW od k ad bd ed kd nb sh mb))) hP
    have hDc : va_D A (mW qm k cd wd se kd bn sh mb pr B R sx pt rd wt ln px) := va_subD (a := []) (b := (mW qm k cd wd se kd bn sh mb pr B R sx pt rd wt ln px)) (c := ouW k ob of ++ ((ssW qs k gd wd se pr ln px cv co B R sx pt rd wt) ++ (plW od k ad bd ed kd nb sh mb))) hD
    refine kw_iV (As := [.int (nI 11)]) (rest := [.int wt]) ⟨hx, hb, hml, hown, hts⟩ (c_MO_chip11 l D k qm cd wd se kd bn sh mb pr B R sx pt rd wt ln px) (cwV 1 hts (gV w_701 w_702 w_703 w_5 w_704) rfl rfl rfl (by decide +kernel) ⟨Nat.le_of_ble_eq_true rfl, Nat.le_of_ble_eq_true rfl⟩) hK hPc hDc hS hA (va_recv hK hPc (ci := 7) (q0 := 0) rfl rfl) rfl hl.1 rfl (Nat.le_of_ble_eq_true rfl) d_LW_law_615 ⟨by show 21 + 3 * i ≤ 601024; omega, by show 9395 + 263 * i ≤ 7293034; omega⟩ (fun _ _ H9 locs h9 hP1 hk1 hS9 => ?_)
    refine ss_rt h9 ?_
    clear h9
    obtain ⟨hP, hD⟩ := fr_mid (a := []) (b := (mW qm k cd wd se kd bn sh mb pr B R sx pt rd wt ln px)) (c := ouW k ob of ++ ((ssW qs k gd wd se pr ln px cv co B R sx pt rd wt) ++ (plW od k ad bd ed kd nb sh mb))) (b' := (mW qm k (nI 0) wd se kd bn sh mb pr B R sx pt rd wt ln px)) hP hD hk1 (fun q h => hA q (Nat.le_trans hS.1 h)) hP1 (rw_same hDc.self rfl)
    clear hP1 hk1 hPc hDc
    have hS := hS9
    clear hS9
    generalize H9 = H at hP hS ⊢
    have hP : va_P D vwCl ((mW qm k (nI 0) wd se kd bn sh mb pr B R sx pt rd wt ln px) ++ (ouW k ob of ++ ((ssW qs k gd wd se pr ln px cv co B R sx pt rd wt) ++ (plW od k ad bd ed kd nb sh mb)))) _ := hP
    have hD : va_D A ((mW qm k (nI 0) wd se kd bn sh mb pr B R sx pt rd wt ln px) ++ (ouW k ob of ++ ((ssW qs k gd wd se pr ln px cv co B R sx pt rd wt) ++ (plW od k ad bd ed kd nb sh mb)))) := hD
    refine lv_icmp_eq (tgt := 661) hx hb d_LW_law_618 (by decide) (fun c5 => ?_) (fun c5 => ?_)
    · have c5 := (Int32.toInt_inj.symm).mp c5
      refine lv_iinc (v := nI (5 * (i + 1))) (lv' := [(4, .int (nI (5 * (i + 1)))), (0, .ref b), (1, .ref (qs 0)), (2, .ref (qm 0)), (3, .ref ob)]) hx hb d_LW_law_661 hl (k := 0) rfl ((nI_add (5 * i) 5).trans (by rw [Nat.mul_succ])) (by decide) rfl (fun ls hl => ?_)
      refine lv_goto (tgt := 23) hx hb d_LW_law_664 (by decide) ?_
      refine W.widen (k := 21 + 3 * (i + 1)) (n := 9395 + 263 * (i + 1)) (by show 21 + 3 * i ≤ _; omega) (by show 9395 + 263 * i ≤ _; omega) ?_
      exact ih (nI 0) gd wd se pr ln px cv co B R sx pt rd wt od ad bd ed kd nb sh mb bn of _ _ _ ⟨hwd, hse, hpr, hln, hB, hR, hsx, hpt, hwt, hO, hkd, hsh, hmb, hbn, hz⟩ hP hD hS (lv_sub hl [0, 1, 2, 3, 4] rfl)
    · have c5 := mt (Int32.toInt_inj.symm).mpr c5
      exfalso; omega
  refine lv_aload_n hx hb d_LW_law_598 rfl (lv_at hl 2 rfl) ?_
  refine lv_aload_n hx hb d_LW_law_599 rfl (lv_at hl 1 rfl) ?_
  refine lv_iload hx hb d_LW_law_600 (lv_at hl 0 rfl) ?_
  refine lv_iconst (v := nI 1) hx hb d_LW_law_602 (by decide +kernel) ?_
  refine lv_iadd hx hb d_LW_law_603 ?_
  refine ss_rt (y := nI (5 * i + 1)) (nI_add _ _) ?_
  refine va_sld hx hb hsc hbl hbA hS (vp_in_nI (by omega) (by omega)) d_LW_law_604 ?_
  refine ss_rt (y := x1) (by rw [nI_clamp (by omega)]; exact hx1.symm) ?_
  have hPc : va_P D vwCl (ssW qs k gd wd se pr ln px cv co B R sx pt rd wt) _ := va_subP (a := (mW qm k cd wd se kd bn sh mb pr B R sx pt rd wt ln px) ++ ouW k ob of) (b := (ssW qs k gd wd se pr ln px cv co B R sx pt rd wt)) (c := (plW od k ad bd ed kd nb sh mb)) hP
  refine kr_iV (As := [.int x1]) (rest := []) ⟨hx, hb, hml, hown, hts⟩ (c_SS_chipb l D k qs gd wd se pr ln px cv co B R sx pt rd wt x1 (by omega)) (cwV 1 hts (gV w_258 w_259 w_260 w_1 w_261) rfl rfl rfl (by decide +kernel) ⟨Nat.le_of_ble_eq_true rfl, Nat.le_of_ble_eq_true rfl⟩) hK hPc (va_recv hK hPc (ci := 0) (q0 := 0) rfl rfl) rfl hl.1 rfl (Nat.le_of_ble_eq_true rfl) d_LW_law_605 ⟨by show 21 + 3 * i ≤ 601024; omega, by show 9395 + 263 * i ≤ 7293034; omega⟩ ?_
  refine lv_aload_n hx hb d_LW_law_608 rfl (lv_at hl 3 rfl) ?_
  refine lv_aload_n hx hb d_LW_law_609 rfl (lv_at hl 1 rfl) ?_
  refine lv_iload hx hb d_LW_law_610 (lv_at hl 0 rfl) ?_
  refine lv_iconst (v := nI 1) hx hb d_LW_law_612 (by decide +kernel) ?_
  refine lv_iadd hx hb d_LW_law_613 ?_
  refine ss_rt (y := nI (5 * i + 1)) (nI_add _ _) ?_
  refine va_sld hx hb hsc hbl hbA hS (vp_in_nI (by omega) (by omega)) d_LW_law_614 ?_
  refine ss_rt (y := x1) (by rw [nI_clamp (by omega)]; exact hx1.symm) ?_
  have hPc : va_P D vwCl (mW qm k cd wd se kd bn sh mb pr B R sx pt rd wt ln px) _ := va_subP (a := []) (b := (mW qm k cd wd se kd bn sh mb pr B R sx pt rd wt ln px)) (c := ouW k ob of ++ ((ssW qs k gd wd se pr ln px cv co B R sx pt rd wt) ++ (plW od k ad bd ed kd nb sh mb))) hP
  have hDc : va_D A (mW qm k cd wd se kd bn sh mb pr B R sx pt rd wt ln px) := va_subD (a := []) (b := (mW qm k cd wd se kd bn sh mb pr B R sx pt rd wt ln px)) (c := ouW k ob of ++ ((ssW qs k gd wd se pr ln px cv co B R sx pt rd wt) ++ (plW od k ad bd ed kd nb sh mb))) hD
  refine kw_iV (As := [.int x1]) (rest := [.int (-1)]) ⟨hx, hb, hml, hown, hts⟩ (c_MO_chipb l D k qm cd wd se kd bn sh mb pr B R sx pt rd wt ln px x1 (by omega)) (cwV 1 hts (gV w_701 w_702 w_703 w_5 w_704) rfl rfl rfl (by decide +kernel) ⟨Nat.le_of_ble_eq_true rfl, Nat.le_of_ble_eq_true rfl⟩) hK hPc hDc hS hA (va_recv hK hPc (ci := 7) (q0 := 0) rfl rfl) rfl hl.1 rfl (Nat.le_of_ble_eq_true rfl) d_LW_law_615 ⟨by show 21 + 3 * i ≤ 601024; omega, by show 9395 + 263 * i ≤ 7293034; omega⟩ (fun _ _ H9 locs h9 hP1 hk1 hS9 => ?_)
  refine ss_rt h9 ?_
  clear h9
  obtain ⟨hP, hD⟩ := fr_mid (a := []) (b := (mW qm k cd wd se kd bn sh mb pr B R sx pt rd wt ln px)) (c := ouW k ob of ++ ((ssW qs k gd wd se pr ln px cv co B R sx pt rd wt) ++ (plW od k ad bd ed kd nb sh mb))) (b' := (mW qm k (nI 0) wd se kd bn sh mb pr B R sx pt rd wt ln px)) hP hD hk1 (fun q h => hA q (Nat.le_trans hS.1 h)) hP1 (rw_same hDc.self rfl)
  clear hP1 hk1 hPc hDc
  have hS := hS9
  clear hS9
  generalize H9 = H at hP hS ⊢
  have hP : va_P D vwCl ((mW qm k (nI 0) wd se kd bn sh mb pr B R sx pt rd wt ln px) ++ (ouW k ob of ++ ((ssW qs k gd wd se pr ln px cv co B R sx pt rd wt) ++ (plW od k ad bd ed kd nb sh mb)))) _ := hP
  have hD : va_D A ((mW qm k (nI 0) wd se kd bn sh mb pr B R sx pt rd wt ln px) ++ (ouW k ob of ++ ((ssW qs k gd wd se pr ln px cv co B R sx pt rd wt) ++ (plW od k ad bd ed kd nb sh mb)))) := hD
  refine lv_icmp_eq (tgt := 661) hx hb d_LW_law_618 (by decide) (fun c6 => ?_) (fun c6 => ?_)
  · have c6 := (Int32.toInt_inj.symm).mp c6
    refine lv_iinc (v := nI (5 * (i + 1))) (lv' := [(4, .int (nI (5 * (i + 1)))), (0, .ref b), (1, .ref (qs 0)), (2, .ref (qm 0)), (3, .ref ob)]) hx hb d_LW_law_661 hl (k := 0) rfl ((nI_add (5 * i) 5).trans (by rw [Nat.mul_succ])) (by decide) rfl (fun ls hl => ?_)
    refine lv_goto (tgt := 23) hx hb d_LW_law_664 (by decide) ?_
    refine W.widen (k := 21 + 3 * (i + 1)) (n := 9395 + 263 * (i + 1)) (by show 21 + 3 * i ≤ _; omega) (by show 9395 + 263 * i ≤ _; omega) ?_
    exact ih (nI 0) gd wd se pr ln px cv co B R sx pt rd wt od ad bd ed kd nb sh mb bn of _ _ _ ⟨hwd, hse, hpr, hln, hB, hR, hsx, hpt, hwt, hO, hkd, hsh, hmb, hbn, hz⟩ hP hD hS (lv_sub hl [0, 1, 2, 3, 4] rfl)
  · have c6 := mt (Int32.toInt_inj.symm).mpr c6
    exfalso; omega
set_option maxHeartbeats 4000000 in
set_option maxRecDepth 100000 in
theorem L_secondary {p : Program} {l : Launch} {e : Env} {s : State} {m : MethodId} {below : List Frame} {meth : Method} {c : Code} {b L : Nat} {xs : Nat → Int32} {D : va_G} {k : Nat → ClassId} {A : Nat → Prop} {Q : State → Prop} {qm qs : Nat → Nat} {ob : Nat} (C : LC p l s m meth c b L xs D k A) (i : Nat) (hi : 5 * i + 5 ≤ L) (ih : LG p l e s m below meth c b D k A Q qm qs ob (i + 1)) (cd : Int32) (gd : Nat → Option Nat) (wd : Nat → Nat) (se : Nat → Nat) (pr : Nat) (ln : Nat) (px : Nat → Nat) (cv : Nat) (co : Nat) (B : Nat → Nat) (R : Nat → Nat) (sx : Nat) (pt : Nat) (rd : Nat) (wt : Int32) (od : List Nat) (ad : Nat → Nat) (bd : Nat → Nat) (ed : Nat → Nat) (kd : Nat → Nat) (nb : Nat → Nat) (sh : Nat → Nat) (mb : Nat → Nat) (bn : Nat → Int32) (of : Nat → Int64) (H : Heap) (locs : List Loc) (ls : Array Slot) (hF : LF gd wd se pr ln B R sx pt wt od ad kd nb sh mb bn) (hP : va_P D vwCl ((mW qm k cd wd se kd bn sh mb pr B R sx pt rd wt ln px) ++ (ouW k ob of ++ ((ssW qs k gd wd se pr ln px cv co B R sx pt rd wt) ++ (plW od k ad bd ed kd nb sh mb)))) H) (hD : va_D A ((mW qm k cd wd se kd bn sh mb pr B R sx pt rd wt ln px) ++ (ouW k ob of ++ ((ssW qs k gd wd se pr ln px cv co B R sx pt rd wt) ++ (plW od k ad bd ed kd nb sh mb))))) (hS : va_S A s.heap H locs) (hl : lv_has ls 7 [(4, .int (nI (5 * i))), (0, .ref b), (1, .ref (qs 0)), (2, .ref (qm 0)), (3, .ref ob)]) : W p l e room_1 s m #[Value.ref b] below meth c H locs (21 + 3 * i) (9395 + 263 * i) Q (F0 m 623 ls []) := by
  obtain ⟨hx, hb, hr, hlocks, hml, hown, hts, hX, hT, hU, hK, hA, hsc, hbl, hbA, hl9, hL⟩ := C
  obtain ⟨hwd, hse, hpr, hln, hB, hR, hsx, hpt, hwt, hO, hkd, hsh, hmb, hbn, hz⟩ := hF
  obtain ⟨x1, hx1⟩ : ∃ z, z = xs (5 * i + 1) := ⟨_, rfl⟩
  by_cases hv : 0 ≤ x1.toInt ∧ x1.toInt ≤ 3
  · obtain ⟨j, hj, rfl⟩ := n_ix (n := 4) hv.1 (by omega)
    by_cases h1 : wd j = 1
    · skip
      refine lv_aload_n hx hb d_LW_law_623 rfl (lv_at hl 2 rfl) ?_
      refine lv_aload_n hx hb d_LW_law_624 rfl (lv_at hl 1 rfl) ?_
      refine lv_iload hx hb d_LW_law_625 (lv_at hl 0 rfl) ?_
      refine lv_iconst (v := nI 1) hx hb d_LW_law_627 (by decide +kernel) ?_
      refine lv_iadd hx hb d_LW_law_628 ?_
      refine ss_rt (y := nI (5 * i + 1)) (nI_add _ _) ?_
      refine va_sld hx hb hsc hbl hbA hS (vp_in_nI (by omega) (by omega)) d_LW_law_629 ?_
      refine ss_rt (y := nI j) (by rw [nI_clamp (by omega)]; exact hx1.symm) ?_
      have hPc : va_P D vwCl (ssW qs k gd wd se pr ln px cv co B R sx pt rd wt) _ := va_subP (a := (mW qm k cd wd se kd bn sh mb pr B R sx pt rd wt ln px) ++ ouW k ob of) (b := (ssW qs k gd wd se pr ln px cv co B R sx pt rd wt)) (c := (plW od k ad bd ed kd nb sh mb)) hP
      refine kr_iV (As := [.int (nI j)]) (rest := []) ⟨hx, hb, hml, hown, hts⟩ (c_SS_secondary l D k qs gd wd se pr ln px cv co B R sx pt rd wt hwd hse hpr j hj h1) (cwV 1 hts (gV w_266 w_267 w_268 w_1 w_269) rfl rfl rfl (by decide +kernel) ⟨Nat.le_of_ble_eq_true rfl, Nat.le_of_ble_eq_true rfl⟩) hK hPc (va_recv hK hPc (ci := 0) (q0 := 0) rfl rfl) rfl hl.1 rfl (Nat.le_of_ble_eq_true rfl) d_LW_law_630 ⟨by show 21 + 3 * i ≤ 601024; omega, by show 9395 + 263 * i ≤ 7293034; omega⟩ ?_
      refine lv_aload_n hx hb d_LW_law_633 rfl (lv_at hl 3 rfl) ?_
      refine lv_aload_n hx hb d_LW_law_634 rfl (lv_at hl 1 rfl) ?_
      refine lv_iload hx hb d_LW_law_635 (lv_at hl 0 rfl) ?_
      refine lv_iconst (v := nI 1) hx hb d_LW_law_637 (by decide +kernel) ?_
      refine lv_iadd hx hb d_LW_law_638 ?_
      refine ss_rt (y := nI (5 * i + 1)) (nI_add _ _) ?_
      refine va_sld hx hb hsc hbl hbA hS (vp_in_nI (by omega) (by omega)) d_LW_law_639 ?_
      refine ss_rt (y := nI j) (by rw [nI_clamp (by omega)]; exact hx1.symm) ?_
      have hPc : va_P D vwCl (mW qm k cd wd se kd bn sh mb pr B R sx pt rd wt ln px) _ := va_subP (a := []) (b := (mW qm k cd wd se kd bn sh mb pr B R sx pt rd wt ln px)) (c := ouW k ob of ++ ((ssW qs k gd wd se pr ln px cv co B R sx pt rd wt) ++ (plW od k ad bd ed kd nb sh mb))) hP
      have hDc : va_D A (mW qm k cd wd se kd bn sh mb pr B R sx pt rd wt ln px) := va_subD (a := []) (b := (mW qm k cd wd se kd bn sh mb pr B R sx pt rd wt ln px)) (c := ouW k ob of ++ ((ssW qs k gd wd se pr ln px cv co B R sx pt rd wt) ++ (plW od k ad bd ed kd nb sh mb))) hD
      refine kw_iV (As := [.int (nI j)]) (rest := [.int (nI (se j))]) ⟨hx, hb, hml, hown, hts⟩ (c_MO_secondary l D k qm cd wd se kd bn sh mb pr B R sx pt rd wt ln px j hj h1) (cwV 1 hts (gV w_705 w_706 w_707 w_5 w_708) rfl rfl rfl (by decide +kernel) ⟨Nat.le_of_ble_eq_true rfl, Nat.le_of_ble_eq_true rfl⟩) hK hPc hDc hS hA (va_recv hK hPc (ci := 7) (q0 := 0) rfl rfl) rfl hl.1 rfl (Nat.le_of_ble_eq_true rfl) d_LW_law_640 ⟨by show 21 + 3 * i ≤ 601024; omega, by show 9395 + 263 * i ≤ 7293034; omega⟩ (fun _ _ H9 locs h9 hP1 hk1 hS9 => ?_)
      refine ss_rt h9 ?_
      clear h9
      obtain ⟨hP, hD⟩ := fr_mid (a := []) (b := (mW qm k cd wd se kd bn sh mb pr B R sx pt rd wt ln px)) (c := ouW k ob of ++ ((ssW qs k gd wd se pr ln px cv co B R sx pt rd wt) ++ (plW od k ad bd ed kd nb sh mb))) (b' := (mW qm k (nI 0) wd se kd bn sh mb pr B R sx pt rd wt ln px)) hP hD hk1 (fun q h => hA q (Nat.le_trans hS.1 h)) hP1 (rw_same hDc.self rfl)
      clear hP1 hk1 hPc hDc
      have hS := hS9
      clear hS9
      generalize H9 = H at hP hS ⊢
      have hP : va_P D vwCl ((mW qm k (nI 0) wd se kd bn sh mb pr B R sx pt rd wt ln px) ++ (ouW k ob of ++ ((ssW qs k gd wd se pr ln px cv co B R sx pt rd wt) ++ (plW od k ad bd ed kd nb sh mb)))) _ := hP
      have hD : va_D A ((mW qm k (nI 0) wd se kd bn sh mb pr B R sx pt rd wt ln px) ++ (ouW k ob of ++ ((ssW qs k gd wd se pr ln px cv co B R sx pt rd wt) ++ (plW od k ad bd ed kd nb sh mb)))) := hD
      refine lv_icmp_eq (tgt := 661) hx hb d_LW_law_643 (by decide) (fun c1 => ?_) (fun c1 => ?_)
      · have c1 := (Int32.toInt_inj.symm).mp c1
        refine lv_iinc (v := nI (5 * (i + 1))) (lv' := [(4, .int (nI (5 * (i + 1)))), (0, .ref b), (1, .ref (qs 0)), (2, .ref (qm 0)), (3, .ref ob)]) hx hb d_LW_law_661 hl (k := 0) rfl ((nI_add (5 * i) 5).trans (by rw [Nat.mul_succ])) (by decide) rfl (fun ls hl => ?_)
        refine lv_goto (tgt := 23) hx hb d_LW_law_664 (by decide) ?_
        refine W.widen (k := 21 + 3 * (i + 1)) (n := 9395 + 263 * (i + 1)) (by show 21 + 3 * i ≤ _; omega) (by show 9395 + 263 * i ≤ _; omega) ?_
        exact ih (nI 0) gd wd se pr ln px cv co B R sx pt rd wt od ad bd ed kd nb sh mb bn of _ _ _ ⟨hwd, hse, hpr, hln, hB, hR, hsx, hpt, hwt, hO, hkd, hsh, hmb, hbn, hz⟩ hP hD hS (lv_sub hl [0, 1, 2, 3, 4] rfl)
      · have c1 := mt (Int32.toInt_inj.symm).mpr c1
        exfalso; omega
    · have g9 := hwd j
      refine lv_aload_n hx hb d_LW_law_623 rfl (lv_at hl 2 rfl) ?_
      refine lv_aload_n hx hb d_LW_law_624 rfl (lv_at hl 1 rfl) ?_
      refine lv_iload hx hb d_LW_law_625 (lv_at hl 0 rfl) ?_
      refine lv_iconst (v := nI 1) hx hb d_LW_law_627 (by decide +kernel) ?_
      refine lv_iadd hx hb d_LW_law_628 ?_
      refine ss_rt (y := nI (5 * i + 1)) (nI_add _ _) ?_
      refine va_sld hx hb hsc hbl hbA hS (vp_in_nI (by omega) (by omega)) d_LW_law_629 ?_
      refine ss_rt (y := nI j) (by rw [nI_clamp (by omega)]; exact hx1.symm) ?_
      have hPc : va_P D vwCl (ssW qs k gd wd se pr ln px cv co B R sx pt rd wt) _ := va_subP (a := (mW qm k cd wd se kd bn sh mb pr B R sx pt rd wt ln px) ++ ouW k ob of) (b := (ssW qs k gd wd se pr ln px cv co B R sx pt rd wt)) (c := (plW od k ad bd ed kd nb sh mb)) hP
      refine kr_iV (As := [.int (nI j)]) (rest := []) ⟨hx, hb, hml, hown, hts⟩ (c_SS_secondary0 l D k qs gd wd se pr ln px cv co B R sx pt rd wt hwd hse hpr j hj h1) (cwV 1 hts (gV w_266 w_267 w_268 w_1 w_269) rfl rfl rfl (by decide +kernel) ⟨Nat.le_of_ble_eq_true rfl, Nat.le_of_ble_eq_true rfl⟩) hK hPc (va_recv hK hPc (ci := 0) (q0 := 0) rfl rfl) rfl hl.1 rfl (Nat.le_of_ble_eq_true rfl) d_LW_law_630 ⟨by show 21 + 3 * i ≤ 601024; omega, by show 9395 + 263 * i ≤ 7293034; omega⟩ ?_
      refine lv_aload_n hx hb d_LW_law_633 rfl (lv_at hl 3 rfl) ?_
      refine lv_aload_n hx hb d_LW_law_634 rfl (lv_at hl 1 rfl) ?_
      refine lv_iload hx hb d_LW_law_635 (lv_at hl 0 rfl) ?_
      refine lv_iconst (v := nI 1) hx hb d_LW_law_637 (by decide +kernel) ?_
      refine lv_iadd hx hb d_LW_law_638 ?_
      refine ss_rt (y := nI (5 * i + 1)) (nI_add _ _) ?_
      refine va_sld hx hb hsc hbl hbA hS (vp_in_nI (by omega) (by omega)) d_LW_law_639 ?_
      refine ss_rt (y := nI j) (by rw [nI_clamp (by omega)]; exact hx1.symm) ?_
      have hPc : va_P D vwCl (mW qm k cd wd se kd bn sh mb pr B R sx pt rd wt ln px) _ := va_subP (a := []) (b := (mW qm k cd wd se kd bn sh mb pr B R sx pt rd wt ln px)) (c := ouW k ob of ++ ((ssW qs k gd wd se pr ln px cv co B R sx pt rd wt) ++ (plW od k ad bd ed kd nb sh mb))) hP
      have hDc : va_D A (mW qm k cd wd se kd bn sh mb pr B R sx pt rd wt ln px) := va_subD (a := []) (b := (mW qm k cd wd se kd bn sh mb pr B R sx pt rd wt ln px)) (c := ouW k ob of ++ ((ssW qs k gd wd se pr ln px cv co B R sx pt rd wt) ++ (plW od k ad bd ed kd nb sh mb))) hD
      refine kw_iV (As := [.int (nI j)]) (rest := [.int (-1)]) ⟨hx, hb, hml, hown, hts⟩ (c_MO_secondary0 l D k qm cd wd se kd bn sh mb pr B R sx pt rd wt ln px j hj (by omega)) (cwV 1 hts (gV w_705 w_706 w_707 w_5 w_708) rfl rfl rfl (by decide +kernel) ⟨Nat.le_of_ble_eq_true rfl, Nat.le_of_ble_eq_true rfl⟩) hK hPc hDc hS hA (va_recv hK hPc (ci := 7) (q0 := 0) rfl rfl) rfl hl.1 rfl (Nat.le_of_ble_eq_true rfl) d_LW_law_640 ⟨by show 21 + 3 * i ≤ 601024; omega, by show 9395 + 263 * i ≤ 7293034; omega⟩ (fun _ _ H9 locs h9 hP1 hk1 hS9 => ?_)
      refine ss_rt h9 ?_
      clear h9
      obtain ⟨hP, hD⟩ := fr_mid (a := []) (b := (mW qm k cd wd se kd bn sh mb pr B R sx pt rd wt ln px)) (c := ouW k ob of ++ ((ssW qs k gd wd se pr ln px cv co B R sx pt rd wt) ++ (plW od k ad bd ed kd nb sh mb))) (b' := (mW qm k (nI 0) wd se kd bn sh mb pr B R sx pt rd wt ln px)) hP hD hk1 (fun q h => hA q (Nat.le_trans hS.1 h)) hP1 (rw_same hDc.self rfl)
      clear hP1 hk1 hPc hDc
      have hS := hS9
      clear hS9
      generalize H9 = H at hP hS ⊢
      have hP : va_P D vwCl ((mW qm k (nI 0) wd se kd bn sh mb pr B R sx pt rd wt ln px) ++ (ouW k ob of ++ ((ssW qs k gd wd se pr ln px cv co B R sx pt rd wt) ++ (plW od k ad bd ed kd nb sh mb)))) _ := hP
      have hD : va_D A ((mW qm k (nI 0) wd se kd bn sh mb pr B R sx pt rd wt ln px) ++ (ouW k ob of ++ ((ssW qs k gd wd se pr ln px cv co B R sx pt rd wt) ++ (plW od k ad bd ed kd nb sh mb)))) := hD
      refine lv_icmp_eq (tgt := 661) hx hb d_LW_law_643 (by decide) (fun c2 => ?_) (fun c2 => ?_)
      · have c2 := (Int32.toInt_inj.symm).mp c2
        refine lv_iinc (v := nI (5 * (i + 1))) (lv' := [(4, .int (nI (5 * (i + 1)))), (0, .ref b), (1, .ref (qs 0)), (2, .ref (qm 0)), (3, .ref ob)]) hx hb d_LW_law_661 hl (k := 0) rfl ((nI_add (5 * i) 5).trans (by rw [Nat.mul_succ])) (by decide) rfl (fun ls hl => ?_)
        refine lv_goto (tgt := 23) hx hb d_LW_law_664 (by decide) ?_
        refine W.widen (k := 21 + 3 * (i + 1)) (n := 9395 + 263 * (i + 1)) (by show 21 + 3 * i ≤ _; omega) (by show 9395 + 263 * i ≤ _; omega) ?_
        exact ih (nI 0) gd wd se pr ln px cv co B R sx pt rd wt od ad bd ed kd nb sh mb bn of _ _ _ ⟨hwd, hse, hpr, hln, hB, hR, hsx, hpt, hwt, hO, hkd, hsh, hmb, hbn, hz⟩ hP hD hS (lv_sub hl [0, 1, 2, 3, 4] rfl)
      · have c2 := mt (Int32.toInt_inj.symm).mpr c2
        exfalso; omega
  · skip
    refine lv_aload_n hx hb d_LW_law_623 rfl (lv_at hl 2 rfl) ?_
    refine lv_aload_n hx hb d_LW_law_624 rfl (lv_at hl 1 rfl) ?_
    refine lv_iload hx hb d_LW_law_625 (lv_at hl 0 rfl) ?_
    refine lv_iconst (v := nI 1) hx hb d_LW_law_627 (by decide +kernel) ?_
    refine lv_iadd hx hb d_LW_law_628 ?_
    refine ss_rt (y := nI (5 * i + 1)) (nI_add _ _) ?_
    refine va_sld hx hb hsc hbl hbA hS (vp_in_nI (by omega) (by omega)) d_LW_law_629 ?_
    refine ss_rt (y := x1) (by rw [nI_clamp (by omega)]; exact hx1.symm) ?_
    have hPc : va_P D vwCl (ssW qs k gd wd se pr ln px cv co B R sx pt rd wt) _ := va_subP (a := (mW qm k cd wd se kd bn sh mb pr B R sx pt rd wt ln px) ++ ouW k ob of) (b := (ssW qs k gd wd se pr ln px cv co B R sx pt rd wt)) (c := (plW od k ad bd ed kd nb sh mb)) hP
    refine kr_iV (As := [.int x1]) (rest := []) ⟨hx, hb, hml, hown, hts⟩ (c_SS_secondaryb l D k qs gd wd se pr ln px cv co B R sx pt rd wt x1 hv) (cwV 1 hts (gV w_266 w_267 w_268 w_1 w_269) rfl rfl rfl (by decide +kernel) ⟨Nat.le_of_ble_eq_true rfl, Nat.le_of_ble_eq_true rfl⟩) hK hPc (va_recv hK hPc (ci := 0) (q0 := 0) rfl rfl) rfl hl.1 rfl (Nat.le_of_ble_eq_true rfl) d_LW_law_630 ⟨by show 21 + 3 * i ≤ 601024; omega, by show 9395 + 263 * i ≤ 7293034; omega⟩ ?_
    refine lv_aload_n hx hb d_LW_law_633 rfl (lv_at hl 3 rfl) ?_
    refine lv_aload_n hx hb d_LW_law_634 rfl (lv_at hl 1 rfl) ?_
    refine lv_iload hx hb d_LW_law_635 (lv_at hl 0 rfl) ?_
    refine lv_iconst (v := nI 1) hx hb d_LW_law_637 (by decide +kernel) ?_
    refine lv_iadd hx hb d_LW_law_638 ?_
    refine ss_rt (y := nI (5 * i + 1)) (nI_add _ _) ?_
    refine va_sld hx hb hsc hbl hbA hS (vp_in_nI (by omega) (by omega)) d_LW_law_639 ?_
    refine ss_rt (y := x1) (by rw [nI_clamp (by omega)]; exact hx1.symm) ?_
    have hPc : va_P D vwCl (mW qm k cd wd se kd bn sh mb pr B R sx pt rd wt ln px) _ := va_subP (a := []) (b := (mW qm k cd wd se kd bn sh mb pr B R sx pt rd wt ln px)) (c := ouW k ob of ++ ((ssW qs k gd wd se pr ln px cv co B R sx pt rd wt) ++ (plW od k ad bd ed kd nb sh mb))) hP
    have hDc : va_D A (mW qm k cd wd se kd bn sh mb pr B R sx pt rd wt ln px) := va_subD (a := []) (b := (mW qm k cd wd se kd bn sh mb pr B R sx pt rd wt ln px)) (c := ouW k ob of ++ ((ssW qs k gd wd se pr ln px cv co B R sx pt rd wt) ++ (plW od k ad bd ed kd nb sh mb))) hD
    refine kw_iV (As := [.int x1]) (rest := [.int (-1)]) ⟨hx, hb, hml, hown, hts⟩ (c_MO_secondaryb l D k qm cd wd se kd bn sh mb pr B R sx pt rd wt ln px x1 hv) (cwV 1 hts (gV w_705 w_706 w_707 w_5 w_708) rfl rfl rfl (by decide +kernel) ⟨Nat.le_of_ble_eq_true rfl, Nat.le_of_ble_eq_true rfl⟩) hK hPc hDc hS hA (va_recv hK hPc (ci := 7) (q0 := 0) rfl rfl) rfl hl.1 rfl (Nat.le_of_ble_eq_true rfl) d_LW_law_640 ⟨by show 21 + 3 * i ≤ 601024; omega, by show 9395 + 263 * i ≤ 7293034; omega⟩ (fun _ _ H9 locs h9 hP1 hk1 hS9 => ?_)
    refine ss_rt h9 ?_
    clear h9
    obtain ⟨hP, hD⟩ := fr_mid (a := []) (b := (mW qm k cd wd se kd bn sh mb pr B R sx pt rd wt ln px)) (c := ouW k ob of ++ ((ssW qs k gd wd se pr ln px cv co B R sx pt rd wt) ++ (plW od k ad bd ed kd nb sh mb))) (b' := (mW qm k (nI 0) wd se kd bn sh mb pr B R sx pt rd wt ln px)) hP hD hk1 (fun q h => hA q (Nat.le_trans hS.1 h)) hP1 (rw_same hDc.self rfl)
    clear hP1 hk1 hPc hDc
    have hS := hS9
    clear hS9
    generalize H9 = H at hP hS ⊢
    have hP : va_P D vwCl ((mW qm k (nI 0) wd se kd bn sh mb pr B R sx pt rd wt ln px) ++ (ouW k ob of ++ ((ssW qs k gd wd se pr ln px cv co B R sx pt rd wt) ++ (plW od k ad bd ed kd nb sh mb)))) _ := hP
    have hD : va_D A ((mW qm k (nI 0) wd se kd bn sh mb pr B R sx pt rd wt ln px) ++ (ouW k ob of ++ ((ssW qs k gd wd se pr ln px cv co B R sx pt rd wt) ++ (plW od k ad bd ed kd nb sh mb)))) := hD
    refine lv_icmp_eq (tgt := 661) hx hb d_LW_law_643 (by decide) (fun c3 => ?_) (fun c3 => ?_)
    · have c3 := (Int32.toInt_inj.symm).mp c3
      refine lv_iinc (v := nI (5 * (i + 1))) (lv' := [(4, .int (nI (5 * (i + 1)))), (0, .ref b), (1, .ref (qs 0)), (2, .ref (qm 0)), (3, .ref ob)]) hx hb d_LW_law_661 hl (k := 0) rfl ((nI_add (5 * i) 5).trans (by rw [Nat.mul_succ])) (by decide) rfl (fun ls hl => ?_)
      refine lv_goto (tgt := 23) hx hb d_LW_law_664 (by decide) ?_
      refine W.widen (k := 21 + 3 * (i + 1)) (n := 9395 + 263 * (i + 1)) (by show 21 + 3 * i ≤ _; omega) (by show 9395 + 263 * i ≤ _; omega) ?_
      exact ih (nI 0) gd wd se pr ln px cv co B R sx pt rd wt od ad bd ed kd nb sh mb bn of _ _ _ ⟨hwd, hse, hpr, hln, hB, hR, hsx, hpt, hwt, hO, hkd, hsh, hmb, hbn, hz⟩ hP hD hS (lv_sub hl [0, 1, 2, 3, 4] rfl)
    · have c3 := mt (Int32.toInt_inj.symm).mpr c3
      exfalso; omega
set_option maxHeartbeats 4000000 in
set_option maxRecDepth 100000 in
theorem L_calls {p : Program} {l : Launch} {e : Env} {s : State} {m : MethodId} {below : List Frame} {meth : Method} {c : Code} {b L : Nat} {xs : Nat → Int32} {D : va_G} {k : Nat → ClassId} {A : Nat → Prop} {Q : State → Prop} {qm qs : Nat → Nat} {ob : Nat} (C : LC p l s m meth c b L xs D k A) (i : Nat) (hi : 5 * i + 5 ≤ L) (ih : LG p l e s m below meth c b D k A Q qm qs ob (i + 1)) (cd : Int32) (gd : Nat → Option Nat) (wd : Nat → Nat) (se : Nat → Nat) (pr : Nat) (ln : Nat) (px : Nat → Nat) (cv : Nat) (co : Nat) (B : Nat → Nat) (R : Nat → Nat) (sx : Nat) (pt : Nat) (rd : Nat) (wt : Int32) (od : List Nat) (ad : Nat → Nat) (bd : Nat → Nat) (ed : Nat → Nat) (kd : Nat → Nat) (nb : Nat → Nat) (sh : Nat → Nat) (mb : Nat → Nat) (bn : Nat → Int32) (of : Nat → Int64) (H : Heap) (locs : List Loc) (ls : Array Slot) (hF : LF gd wd se pr ln B R sx pt wt od ad kd nb sh mb bn) (hP : va_P D vwCl ((mW qm k cd wd se kd bn sh mb pr B R sx pt rd wt ln px) ++ (ouW k ob of ++ ((ssW qs k gd wd se pr ln px cv co B R sx pt rd wt) ++ (plW od k ad bd ed kd nb sh mb)))) H) (hD : va_D A ((mW qm k cd wd se kd bn sh mb pr B R sx pt rd wt ln px) ++ (ouW k ob of ++ ((ssW qs k gd wd se pr ln px cv co B R sx pt rd wt) ++ (plW od k ad bd ed kd nb sh mb))))) (hS : va_S A s.heap H locs) (hl : lv_has ls 7 [(4, .int (nI (5 * i))), (0, .ref b), (1, .ref (qs 0)), (2, .ref (qm 0)), (3, .ref ob)]) : W p l e room_1 s m #[Value.ref b] below meth c H locs (21 + 3 * i) (9395 + 263 * i) Q (F0 m 648 ls []) := by
  obtain ⟨hx, hb, hr, hlocks, hml, hown, hts, hX, hT, hU, hK, hA, hsc, hbl, hbA, hl9, hL⟩ := C
  obtain ⟨hwd, hse, hpr, hln, hB, hR, hsx, hpt, hwt, hO, hkd, hsh, hmb, hbn, hz⟩ := hF
  refine lv_aload_n hx hb d_LW_law_648 rfl (lv_at hl 2 rfl) ?_
  have hPc : va_P D vwCl (ssW qs k gd wd se pr ln px cv co B R sx pt rd wt) _ := va_subP (a := (mW qm k cd wd se kd bn sh mb pr B R sx pt rd wt ln px) ++ ouW k ob of) (b := (ssW qs k gd wd se pr ln px cv co B R sx pt rd wt)) (c := (plW od k ad bd ed kd nb sh mb)) hP
  refine kr_iV (As := []) (rest := []) ⟨hx, hb, hml, hown, hts⟩ (c_SS_calls l D k qs gd wd se pr ln px cv co B R sx pt rd wt hB hR hsx) (cwV 0 hts (gV w_278 w_279 w_280 w_1 w_281) rfl rfl rfl (by decide +kernel) ⟨Nat.le_of_ble_eq_true rfl, Nat.le_of_ble_eq_true rfl⟩) hK hPc (va_recv hK hPc (ci := 0) (q0 := 0) rfl rfl) rfl hl.1 rfl (Nat.le_of_ble_eq_true rfl) d_LW_law_649 ⟨by show 21 + 3 * i ≤ 601024; omega, by show 9395 + 263 * i ≤ 7293034; omega⟩ ?_
  refine lv_aload_n hx hb d_LW_law_652 rfl (lv_at hl 3 rfl) ?_
  have hPc : va_P D vwCl (mW qm k cd wd se kd bn sh mb pr B R sx pt rd wt ln px) _ := va_subP (a := []) (b := (mW qm k cd wd se kd bn sh mb pr B R sx pt rd wt ln px)) (c := ouW k ob of ++ ((ssW qs k gd wd se pr ln px cv co B R sx pt rd wt) ++ (plW od k ad bd ed kd nb sh mb))) hP
  have hDc : va_D A (mW qm k cd wd se kd bn sh mb pr B R sx pt rd wt ln px) := va_subD (a := []) (b := (mW qm k cd wd se kd bn sh mb pr B R sx pt rd wt ln px)) (c := ouW k ob of ++ ((ssW qs k gd wd se pr ln px cv co B R sx pt rd wt) ++ (plW od k ad bd ed kd nb sh mb))) hD
  refine kw_iV (As := []) (rest := [.int (bI (R 1 / 32 % 2 = 1 ∧ 127 < sx))]) ⟨hx, hb, hml, hown, hts⟩ (c_MO_calls l D k qm cd wd se kd bn sh mb pr B R sx pt rd wt ln px hB hR hsx) (cwV 0 hts (gV w_709 w_710 w_711 w_5 w_712) rfl rfl rfl (by decide +kernel) ⟨Nat.le_of_ble_eq_true rfl, Nat.le_of_ble_eq_true rfl⟩) hK hPc hDc hS hA (va_recv hK hPc (ci := 7) (q0 := 0) rfl rfl) rfl hl.1 rfl (Nat.le_of_ble_eq_true rfl) d_LW_law_653 ⟨by show 21 + 3 * i ≤ 601024; omega, by show 9395 + 263 * i ≤ 7293034; omega⟩ (fun _ _ H9 locs h9 hP1 hk1 hS9 => ?_)
  refine ss_rt h9 ?_
  clear h9
  obtain ⟨hP, hD⟩ := fr_mid (a := []) (b := (mW qm k cd wd se kd bn sh mb pr B R sx pt rd wt ln px)) (c := ouW k ob of ++ ((ssW qs k gd wd se pr ln px cv co B R sx pt rd wt) ++ (plW od k ad bd ed kd nb sh mb))) (b' := (mW qm k (nI 0) wd se kd bn sh mb pr B R sx pt rd wt ln px)) hP hD hk1 (fun q h => hA q (Nat.le_trans hS.1 h)) hP1 (rw_same hDc.self rfl)
  clear hP1 hk1 hPc hDc
  have hS := hS9
  clear hS9
  generalize H9 = H at hP hS ⊢
  have hP : va_P D vwCl ((mW qm k (nI 0) wd se kd bn sh mb pr B R sx pt rd wt ln px) ++ (ouW k ob of ++ ((ssW qs k gd wd se pr ln px cv co B R sx pt rd wt) ++ (plW od k ad bd ed kd nb sh mb)))) _ := hP
  have hD : va_D A ((mW qm k (nI 0) wd se kd bn sh mb pr B R sx pt rd wt ln px) ++ (ouW k ob of ++ ((ssW qs k gd wd se pr ln px cv co B R sx pt rd wt) ++ (plW od k ad bd ed kd nb sh mb)))) := hD
  refine lv_icmp_eq (tgt := 661) hx hb d_LW_law_656 (by decide) (fun c1 => ?_) (fun c1 => ?_)
  · have c1 := (Int32.toInt_inj.symm).mp c1
    refine lv_iinc (v := nI (5 * (i + 1))) (lv' := [(4, .int (nI (5 * (i + 1)))), (0, .ref b), (1, .ref (qs 0)), (2, .ref (qm 0)), (3, .ref ob)]) hx hb d_LW_law_661 hl (k := 0) rfl ((nI_add (5 * i) 5).trans (by rw [Nat.mul_succ])) (by decide) rfl (fun ls hl => ?_)
    refine lv_goto (tgt := 23) hx hb d_LW_law_664 (by decide) ?_
    refine W.widen (k := 21 + 3 * (i + 1)) (n := 9395 + 263 * (i + 1)) (by show 21 + 3 * i ≤ _; omega) (by show 9395 + 263 * i ≤ _; omega) ?_
    exact ih (nI 0) gd wd se pr ln px cv co B R sx pt rd wt od ad bd ed kd nb sh mb bn of _ _ _ ⟨hwd, hse, hpr, hln, hB, hR, hsx, hpt, hwt, hO, hkd, hsh, hmb, hbn, hz⟩ hP hD hS (lv_sub hl [0, 1, 2, 3, 4] rfl)
  · have c1 := mt (Int32.toInt_inj.symm).mpr c1
    exfalso; omega
set_option maxHeartbeats 4000000 in
set_option maxRecDepth 100000 in
theorem L_skip {p : Program} {l : Launch} {e : Env} {s : State} {m : MethodId} {below : List Frame} {meth : Method} {c : Code} {b L : Nat} {xs : Nat → Int32} {D : va_G} {k : Nat → ClassId} {A : Nat → Prop} {Q : State → Prop} {qm qs : Nat → Nat} {ob : Nat} (C : LC p l s m meth c b L xs D k A) (i : Nat) (hi : 5 * i + 5 ≤ L) (ih : LG p l e s m below meth c b D k A Q qm qs ob (i + 1)) (cd : Int32) (gd : Nat → Option Nat) (wd : Nat → Nat) (se : Nat → Nat) (pr : Nat) (ln : Nat) (px : Nat → Nat) (cv : Nat) (co : Nat) (B : Nat → Nat) (R : Nat → Nat) (sx : Nat) (pt : Nat) (rd : Nat) (wt : Int32) (od : List Nat) (ad : Nat → Nat) (bd : Nat → Nat) (ed : Nat → Nat) (kd : Nat → Nat) (nb : Nat → Nat) (sh : Nat → Nat) (mb : Nat → Nat) (bn : Nat → Int32) (of : Nat → Int64) (H : Heap) (locs : List Loc) (ls : Array Slot) (hF : LF gd wd se pr ln B R sx pt wt od ad kd nb sh mb bn) (hP : va_P D vwCl ((mW qm k cd wd se kd bn sh mb pr B R sx pt rd wt ln px) ++ (ouW k ob of ++ ((ssW qs k gd wd se pr ln px cv co B R sx pt rd wt) ++ (plW od k ad bd ed kd nb sh mb)))) H) (hD : va_D A ((mW qm k cd wd se kd bn sh mb pr B R sx pt rd wt ln px) ++ (ouW k ob of ++ ((ssW qs k gd wd se pr ln px cv co B R sx pt rd wt) ++ (plW od k ad bd ed kd nb sh mb))))) (hS : va_S A s.heap H locs) (hl : lv_has ls 7 [(4, .int (nI (5 * i))), (0, .ref b), (1, .ref (qs 0)), (2, .ref (qm 0)), (3, .ref ob)]) : W p l e room_1 s m #[Value.ref b] below meth c H locs (21 + 3 * i) (9395 + 263 * i) Q (F0 m 661 ls []) := by
  obtain ⟨hx, hb, hr, hlocks, hml, hown, hts, hX, hT, hU, hK, hA, hsc, hbl, hbA, hl9, hL⟩ := C
  obtain ⟨hwd, hse, hpr, hln, hB, hR, hsx, hpt, hwt, hO, hkd, hsh, hmb, hbn, hz⟩ := hF
  refine lv_iinc (v := nI (5 * (i + 1))) (lv' := [(4, .int (nI (5 * (i + 1)))), (0, .ref b), (1, .ref (qs 0)), (2, .ref (qm 0)), (3, .ref ob)]) hx hb d_LW_law_661 hl (k := 0) rfl ((nI_add (5 * i) 5).trans (by rw [Nat.mul_succ])) (by decide) rfl (fun ls hl => ?_)
  refine lv_goto (tgt := 23) hx hb d_LW_law_664 (by decide) ?_
  refine W.widen (k := 21 + 3 * (i + 1)) (n := 9395 + 263 * (i + 1)) (by show 21 + 3 * i ≤ _; omega) (by show 9395 + 263 * i ≤ _; omega) ?_
  exact ih cd gd wd se pr ln px cv co B R sx pt rd wt od ad bd ed kd nb sh mb bn of _ _ _ ⟨hwd, hse, hpr, hln, hB, hR, hsx, hpt, hwt, hO, hkd, hsh, hmb, hbn, hz⟩ hP hD hS (lv_sub hl [0, 1, 2, 3, 4] rfl)
