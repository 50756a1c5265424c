set_option maxHeartbeats 4000000 in
set_option maxRecDepth 100000 in
theorem L_video {p : Program} {l : Launch} {e : Env} {s : State} {m : MethodId} {below : List Frame} {meth : Method} {c : Code} {b L : Nat} {xs : Nat → Int32} {D : va_G} {k : Nat → ClassId} {A : Nat → Prop} {Q : State → Prop} {qm qs : Nat → Nat} {ob : Nat} (C : LC p l s m meth c b L xs D k A) (i : Nat) (hi : 5 * i + 5 ≤ L) (ih : LG p l e s m below meth c b D k A Q qm qs ob (i + 1)) (cd : Int32) (gd : Nat → Option Nat) (wd : Nat → Nat) (se : Nat → Nat) (pr : Nat) (ln : Nat) (px : Nat → Nat) (cv : Nat) (co : Nat) (B : Nat → Nat) (R : Nat → Nat) (sx : Nat) (pt : Nat) (rd : Nat) (wt : Int32) (od : List Nat) (ad : Nat → Nat) (bd : Nat → Nat) (ed : Nat → Nat) (kd : Nat → Nat) (nb : Nat → Nat) (sh : Nat → Nat) (mb : Nat → Nat) (bn : Nat → Int32) (of : Nat → Int64) (H : Heap) (locs : List Loc) (ls : Array Slot) (hF : LF gd wd se pr ln B R sx pt wt od ad kd nb sh mb bn) (hP : va_P D vwCl ((mW qm k cd wd se kd bn sh mb pr B R sx pt rd wt ln px) ++ (ouW k ob of ++ ((ssW qs k gd wd se pr ln px cv co B R sx pt rd wt) ++ (plW od k ad bd ed kd nb sh mb)))) H) (hD : va_D A ((mW qm k cd wd se kd bn sh mb pr B R sx pt rd wt ln px) ++ (ouW k ob of ++ ((ssW qs k gd wd se pr ln px cv co B R sx pt rd wt) ++ (plW od k ad bd ed kd nb sh mb))))) (hS : va_S A s.heap H locs) (hl : lv_has ls 7 [(4, .int (nI (5 * i))), (0, .ref b), (1, .ref (qs 0)), (2, .ref (qm 0)), (3, .ref ob)]) : W p l e room_1 s m #[Value.ref b] below meth c H locs (21 + 3 * i) (9395 + 263 * i) Q (F0 m 573 ls []) := by
  obtain ⟨hx, hb, hr, hlocks, hml, hown, hts, hX, hT, hU, hK, hA, hsc, hbl, hbA, hl9, hL⟩ := C
  obtain ⟨hwd, hse, hpr, hln, hB, hR, hsx, hpt, hwt, hO, hkd, hsh, hmb, hbn, hz⟩ := hF
  obtain ⟨x1, hx1⟩ : ∃ z, z = xs (5 * i + 1) := ⟨_, rfl⟩
  by_cases hv : 0 ≤ x1.toInt ∧ x1.toInt ≤ 511
  · obtain ⟨j, hj, rfl⟩ := n_ix (n := 512) hv.1 (by omega)
    refine lv_aload_n hx hb d_LW_law_573 rfl (lv_at hl 2 rfl) ?_
    refine lv_aload_n hx hb d_LW_law_574 rfl (lv_at hl 1 rfl) ?_
    refine lv_iload hx hb d_LW_law_575 (lv_at hl 0 rfl) ?_
    refine lv_iconst (v := nI 1) hx hb d_LW_law_577 (by decide +kernel) ?_
    refine lv_iadd hx hb d_LW_law_578 ?_
    refine ss_rt (y := nI (5 * i + 1)) (nI_add _ _) ?_
    refine va_sld hx hb hsc hbl hbA hS (vp_in_nI (by omega) (by omega)) d_LW_law_579 ?_
    refine ss_rt (y := nI j) (by rw [nI_clamp (by omega)]; exact hx1.symm) ?_
    have hPc : va_P D vwCl (ssW qs k gd wd se pr ln px cv co B R sx pt rd wt) _ := va_subP (a := (mW qm k cd wd se kd bn sh mb pr B R sx pt rd wt ln px) ++ ouW k ob of) (b := (ssW qs k gd wd se pr ln px cv co B R sx pt rd wt)) (c := (plW od k ad bd ed kd nb sh mb)) hP
    refine kr_iV (As := [.int (nI j)]) (rest := []) ⟨hx, hb, hml, hown, hts⟩ (c_SS_video l D k qs gd wd se pr ln px cv co B R sx pt rd wt hB hR j hj) (cwV 1 hts (gV w_253 w_254 w_255 w_1 w_256) rfl rfl rfl (by decide +kernel) ⟨Nat.le_of_ble_eq_true rfl, Nat.le_of_ble_eq_true rfl⟩) hK hPc (va_recv hK hPc (ci := 0) (q0 := 0) rfl rfl) rfl hl.1 rfl (Nat.le_of_ble_eq_true rfl) d_LW_law_580 ⟨by show 21 + 3 * i ≤ 601024; omega, by show 9395 + 263 * i ≤ 7293034; omega⟩ ?_
    refine lv_aload_n hx hb d_LW_law_583 rfl (lv_at hl 3 rfl) ?_
    refine lv_aload_n hx hb d_LW_law_584 rfl (lv_at hl 1 rfl) ?_
    refine lv_iload hx hb d_LW_law_585 (lv_at hl 0 rfl) ?_
    refine lv_iconst (v := nI 1) hx hb d_LW_law_587 (by decide +kernel) ?_
    refine lv_iadd hx hb d_LW_law_588 ?_
    refine ss_rt (y := nI (5 * i + 1)) (nI_add _ _) ?_
    refine va_sld hx hb hsc hbl hbA hS (vp_in_nI (by omega) (by omega)) d_LW_law_589 ?_
    refine ss_rt (y := nI j) (by rw [nI_clamp (by omega)]; exact hx1.symm) ?_
    have hPc : va_P D vwCl (mW qm k cd wd se kd bn sh mb pr B R sx pt rd wt ln px) _ := va_subP (a := []) (b := (mW qm k cd wd se kd bn sh mb pr B R sx pt rd wt ln px)) (c := ouW k ob of ++ ((ssW qs k gd wd se pr ln px cv co B R sx pt rd wt) ++ (plW od k ad bd ed kd nb sh mb))) hP
    have hDc : va_D A (mW qm k cd wd se kd bn sh mb pr B R sx pt rd wt ln px) := va_subD (a := []) (b := (mW qm k cd wd se kd bn sh mb pr B R sx pt rd wt ln px)) (c := ouW k ob of ++ ((ssW qs k gd wd se pr ln px cv co B R sx pt rd wt) ++ (plW od k ad bd ed kd nb sh mb))) hD
    refine kw_iV (As := [.int (nI j)]) (rest := [.int (nI (B j))]) ⟨hx, hb, hml, hown, hts⟩ (c_MO_video l D k qm cd wd se kd bn sh mb pr B R sx pt rd wt ln px j hj) (cwV 1 hts (gV w_697 w_698 w_699 w_5 w_700) rfl rfl rfl (by decide +kernel) ⟨Nat.le_of_ble_eq_true rfl, Nat.le_of_ble_eq_true rfl⟩) hK hPc hDc hS hA (va_recv hK hPc (ci := 7) (q0 := 0) rfl rfl) rfl hl.1 rfl (Nat.le_of_ble_eq_true rfl) d_LW_law_590 ⟨by show 21 + 3 * i ≤ 601024; omega, by show 9395 + 263 * i ≤ 7293034; omega⟩ (fun _ _ H9 locs h9 hP1 hk1 hS9 => ?_)
    subst h9
    obtain ⟨hP, hD⟩ := fr_mid (a := []) (b := (mW qm k cd wd se kd bn sh mb pr B R sx pt rd wt ln px)) (c := ouW k ob of ++ ((ssW qs k gd wd se pr ln px cv co B R sx pt rd wt) ++ (plW od k ad bd ed kd nb sh mb))) (b' := (mW qm k (nI 0) wd se kd bn sh mb pr B R sx pt rd wt ln px)) hP hD hk1 (fun q h => hA q (Nat.le_trans hS.1 h)) hP1 (rw_same hDc.self rfl)
    clear hP1 hk1 hPc hDc
    have hS := hS9
    clear hS9
    generalize H9 = H at hP hS ⊢
    have hP : va_P D vwCl ((mW qm k (nI 0) wd se kd bn sh mb pr B R sx pt rd wt ln px) ++ (ouW k ob of ++ ((ssW qs k gd wd se pr ln px cv co B R sx pt rd wt) ++ (plW od k ad bd ed kd nb sh mb)))) _ := hP
    have hD : va_D A ((mW qm k (nI 0) wd se kd bn sh mb pr B R sx pt rd wt ln px) ++ (ouW k ob of ++ ((ssW qs k gd wd se pr ln px cv co B R sx pt rd wt) ++ (plW od k ad bd ed kd nb sh mb)))) := hD
    refine lv_icmp_eq (tgt := 661) hx hb d_LW_law_593 (by decide) (fun c1 => ?_) (fun c1 => ?_)
    · have c1 := (Int32.toInt_inj.symm).mp c1
      refine lv_iinc (v := nI (5 * (i + 1))) (lv' := [(4, .int (nI (5 * (i + 1)))), (0, .ref b), (1, .ref (qs 0)), (2, .ref (qm 0)), (3, .ref ob)]) hx hb d_LW_law_661 hl (k := 0) rfl ((nI_add (5 * i) 5).trans (by rw [Nat.mul_succ])) (by decide) rfl (fun ls hl => ?_)
      refine lv_goto (tgt := 23) hx hb d_LW_law_664 (by decide) ?_
      refine W.widen (k := 21 + 3 * (i + 1)) (n := 9395 + 263 * (i + 1)) (by show 21 + 3 * i ≤ _; omega) (by show 9395 + 263 * i ≤ _; omega) ?_
      exact ih (nI 0) gd wd se pr ln px cv co B R sx pt rd wt od ad bd ed kd nb sh mb bn of _ _ _ ⟨hwd, hse, hpr, hln, hB, hR, hsx, hpt, hwt, hO, hkd, hsh, hmb, hbn, hz⟩ hP hD hS (lv_sub hl [0, 1, 2, 3, 4] rfl)
    · have c1 := mt (Int32.toInt_inj.symm).mpr c1
      exfalso; omega
  · skip
    refine lv_aload_n hx hb d_LW_law_573 rfl (lv_at hl 2 rfl) ?_
    refine lv_aload_n hx hb d_LW_law_574 rfl (lv_at hl 1 rfl) ?_
    refine lv_iload hx hb d_LW_law_575 (lv_at hl 0 rfl) ?_
    refine lv_iconst (v := nI 1) hx hb d_LW_law_577 (by decide +kernel) ?_
    refine lv_iadd hx hb d_LW_law_578 ?_
    refine ss_rt (y := nI (5 * i + 1)) (nI_add _ _) ?_
    refine va_sld hx hb hsc hbl hbA hS (vp_in_nI (by omega) (by omega)) d_LW_law_579 ?_
    refine ss_rt (y := x1) (by rw [nI_clamp (by omega)]; exact hx1.symm) ?_
    have hPc : va_P D vwCl (ssW qs k gd wd se pr ln px cv co B R sx pt rd wt) _ := va_subP (a := (mW qm k cd wd se kd bn sh mb pr B R sx pt rd wt ln px) ++ ouW k ob of) (b := (ssW qs k gd wd se pr ln px cv co B R sx pt rd wt)) (c := (plW od k ad bd ed kd nb sh mb)) hP
    refine kr_iV (As := [.int x1]) (rest := []) ⟨hx, hb, hml, hown, hts⟩ (c_SS_videob l D k qs gd wd se pr ln px cv co B R sx pt rd wt x1 hv) (cwV 1 hts (gV w_253 w_254 w_255 w_1 w_256) rfl rfl rfl (by decide +kernel) ⟨Nat.le_of_ble_eq_true rfl, Nat.le_of_ble_eq_true rfl⟩) hK hPc (va_recv hK hPc (ci := 0) (q0 := 0) rfl rfl) rfl hl.1 rfl (Nat.le_of_ble_eq_true rfl) d_LW_law_580 ⟨by show 21 + 3 * i ≤ 601024; omega, by show 9395 + 263 * i ≤ 7293034; omega⟩ ?_
    refine lv_aload_n hx hb d_LW_law_583 rfl (lv_at hl 3 rfl) ?_
    refine lv_aload_n hx hb d_LW_law_584 rfl (lv_at hl 1 rfl) ?_
    refine lv_iload hx hb d_LW_law_585 (lv_at hl 0 rfl) ?_
    refine lv_iconst (v := nI 1) hx hb d_LW_law_587 (by decide +kernel) ?_
    refine lv_iadd hx hb d_LW_law_588 ?_
    refine ss_rt (y := nI (5 * i + 1)) (nI_add _ _) ?_
    refine va_sld hx hb hsc hbl hbA hS (vp_in_nI (by omega) (by omega)) d_LW_law_589 ?_
    refine ss_rt (y := x1) (by rw [nI_clamp (by omega)]; exact hx1.symm) ?_
    have hPc : va_P D vwCl (mW qm k cd wd se kd bn sh mb pr B R sx pt rd wt ln px) _ := va_subP (a := []) (b := (mW qm k cd wd se kd bn sh mb pr B R sx pt rd wt ln px)) (c := ouW k ob of ++ ((ssW qs k gd wd se pr ln px cv co B R sx pt rd wt) ++ (plW od k ad bd ed kd nb sh mb))) hP
    have hDc : va_D A (mW qm k cd wd se kd bn sh mb pr B R sx pt rd wt ln px) := va_subD (a := []) (b := (mW qm k cd wd se kd bn sh mb pr B R sx pt rd wt ln px)) (c := ouW k ob of ++ ((ssW qs k gd wd se pr ln px cv co B R sx pt rd wt) ++ (plW od k ad bd ed kd nb sh mb))) hD
    refine kw_iV (As := [.int x1]) (rest := [.int (-1)]) ⟨hx, hb, hml, hown, hts⟩ (c_MO_videob l D k qm cd wd se kd bn sh mb pr B R sx pt rd wt ln px x1 hv) (cwV 1 hts (gV w_697 w_698 w_699 w_5 w_700) rfl rfl rfl (by decide +kernel) ⟨Nat.le_of_ble_eq_true rfl, Nat.le_of_ble_eq_true rfl⟩) hK hPc hDc hS hA (va_recv hK hPc (ci := 7) (q0 := 0) rfl rfl) rfl hl.1 rfl (Nat.le_of_ble_eq_true rfl) d_LW_law_590 ⟨by show 21 + 3 * i ≤ 601024; omega, by show 9395 + 263 * i ≤ 7293034; omega⟩ (fun _ _ H9 locs h9 hP1 hk1 hS9 => ?_)
    subst h9
    obtain ⟨hP, hD⟩ := fr_mid (a := []) (b := (mW qm k cd wd se kd bn sh mb pr B R sx pt rd wt ln px)) (c := ouW k ob of ++ ((ssW qs k gd wd se pr ln px cv co B R sx pt rd wt) ++ (plW od k ad bd ed kd nb sh mb))) (b' := (mW qm k (nI 0) wd se kd bn sh mb pr B R sx pt rd wt ln px)) hP hD hk1 (fun q h => hA q (Nat.le_trans hS.1 h)) hP1 (rw_same hDc.self rfl)
    clear hP1 hk1 hPc hDc
    have hS := hS9
    clear hS9
    generalize H9 = H at hP hS ⊢
    have hP : va_P D vwCl ((mW qm k (nI 0) wd se kd bn sh mb pr B R sx pt rd wt ln px) ++ (ouW k ob of ++ ((ssW qs k gd wd se pr ln px cv co B R sx pt rd wt) ++ (plW od k ad bd ed kd nb sh mb)))) _ := hP
    have hD : va_D A ((mW qm k (nI 0) wd se kd bn sh mb pr B R sx pt rd wt ln px) ++ (ouW k ob of ++ ((ssW qs k gd wd se pr ln px cv co B R sx pt rd wt) ++ (plW od k ad bd ed kd nb sh mb)))) := hD
    refine lv_icmp_eq (tgt := 661) hx hb d_LW_law_593 (by decide) (fun c2 => ?_) (fun c2 => ?_)
    · have c2 := (Int32.toInt_inj.symm).mp c2
      refine lv_iinc (v := nI (5 * (i + 1))) (lv' := [(4, .int (nI (5 * (i + 1)))), (0, .ref b), (1, .ref (qs 0)), (2, .ref (qm 0)), (3, .ref ob)]) hx hb d_LW_law_661 hl (k := 0) rfl ((nI_add (5 * i) 5).trans (by rw [Nat.mul_succ])) (by decide) rfl (fun ls hl => ?_)
      refine lv_goto (tgt := 23) hx hb d_LW_law_664 (by decide) ?_
      refine W.widen (k := 21 + 3 * (i + 1)) (n := 9395 + 263 * (i + 1)) (by show 21 + 3 * i ≤ _; omega) (by show 9395 + 263 * i ≤ _; omega) ?_
      exact ih (nI 0) gd wd se pr ln px cv co B R sx pt rd wt od ad bd ed kd nb sh mb bn of _ _ _ ⟨hwd, hse, hpr, hln, hB, hR, hsx, hpt, hwt, hO, hkd, hsh, hmb, hbn, hz⟩ hP hD hS (lv_sub hl [0, 1, 2, 3, 4] rfl)
    · have c2 := mt (Int32.toInt_inj.symm).mpr c2
      exfalso; omega
