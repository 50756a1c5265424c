set_option maxHeartbeats 4000000 in
set_option maxRecDepth 100000 in
theorem L_write {p : Program} {l : Launch} {e : Env} {s : State} {m : MethodId} {below : List Frame} {meth : Method} {c : Code} {b L : Nat} {xs : Nat → Int32} {D : va_G} {k : Nat → ClassId} {A : Nat → Prop} {Q : State → Prop} {qm qs : Nat → Nat} {ob : Nat} (C : LC p l s m meth c b L xs D k A) (i : Nat) (hi : 5 * i + 5 ≤ L) (ih : LG p l e s m below meth c b D k A Q qm qs ob (i + 1)) (cd : Int32) (gd : Nat → Option Nat) (wd : Nat → Nat) (se : Nat → Nat) (pr : Nat) (ln : Nat) (px : Nat → Nat) (cv : Nat) (co : Nat) (B : Nat → Nat) (R : Nat → Nat) (sx : Nat) (pt : Nat) (rd : Nat) (wt : Int32) (od : List Nat) (ad : Nat → Nat) (bd : Nat → Nat) (ed : Nat → Nat) (kd : Nat → Nat) (nb : Nat → Nat) (sh : Nat → Nat) (mb : Nat → Nat) (bn : Nat → Int32) (of : Nat → Int64) (H : Heap) (locs : List Loc) (ls : Array Slot) (hF : LF gd wd se pr ln B R sx pt wt od ad kd nb sh mb bn) (hP : va_P D vwCl ((mW qm k cd wd se kd bn sh mb pr B R sx pt rd wt ln px) ++ (ouW k ob of ++ ((ssW qs k gd wd se pr ln px cv co B R sx pt rd wt) ++ (plW od k ad bd ed kd nb sh mb)))) H) (hD : va_D A ((mW qm k cd wd se kd bn sh mb pr B R sx pt rd wt ln px) ++ (ouW k ob of ++ ((ssW qs k gd wd se pr ln px cv co B R sx pt rd wt) ++ (plW od k ad bd ed kd nb sh mb))))) (hS : va_S A s.heap H locs) (hl : lv_has ls 7 [(4, .int (nI (5 * i))), (0, .ref b), (1, .ref (qs 0)), (2, .ref (qm 0)), (3, .ref ob)]) : W p l e room_1 s m #[Value.ref b] below meth c H locs (21 + 3 * i) (9395 + 263 * i) Q (F0 m 333 ls []) := by
  obtain ⟨hx, hb, hr, hlocks, hml, hown, hts, hX, hT, hU, hK, hA, hsc, hbl, hbA, hl9, hL⟩ := C
  obtain ⟨hwd, hse, hpr, hln, hB, hR, hsx, hpt, hwt, hO, hkd, hsh, hmb, hbn, hz⟩ := hF
  obtain ⟨x1, hx1⟩ : ∃ z, z = xs (5 * i + 1) := ⟨_, rfl⟩
  obtain ⟨x2, hx2⟩ : ∃ z, z = xs (5 * i + 2) := ⟨_, rfl⟩
  by_cases hv : 0 ≤ x1.toInt ∧ x1.toInt ≤ 255 ∧ 0 ≤ x2.toInt ∧ x2.toInt ≤ 255
  · obtain ⟨a, ha, rfl⟩ := n_ix (x := x1) (n := 256) (by omega) (by omega)
    obtain ⟨v, hv9, rfl⟩ := n_ix (x := x2) (n := 256) (by omega) (by omega)
    have z1 := msl_lt pr a
    have z2 := mpg_lt wd se (msl pr a) a
    have z3 := hkd (4 * msl pr a + mpg wd se (msl pr a) a)
    by_cases h1 : a = 255 ∧ wd (msl pr a) = 1
    · skip
      refine lv_aload_n hx hb d_LW_law_333 rfl (lv_at hl 2 rfl) ?_
      refine lv_aload_n hx hb d_LW_law_334 rfl (lv_at hl 1 rfl) ?_
      refine lv_iload hx hb d_LW_law_335 (lv_at hl 0 rfl) ?_
      refine lv_iconst (v := nI 1) hx hb d_LW_law_337 (by decide +kernel) ?_
      refine lv_iadd hx hb d_LW_law_338 ?_
      refine ss_rt (y := nI (5 * i + 1)) (nI_add _ _) ?_
      refine va_sld hx hb hsc hbl hbA hS (vp_in_nI (by omega) (by omega)) d_LW_law_339 ?_
      refine ss_rt (y := nI a) (by rw [nI_clamp (by omega)]; exact hx1.symm) ?_
      refine lv_aload_n hx hb d_LW_law_340 rfl (lv_at hl 1 rfl) ?_
      refine lv_iload hx hb d_LW_law_341 (lv_at hl 0 rfl) ?_
      refine lv_iconst (v := nI 2) hx hb d_LW_law_343 (by decide +kernel) ?_
      refine lv_iadd hx hb d_LW_law_344 ?_
      refine ss_rt (y := nI (5 * i + 2)) (nI_add _ _) ?_
      refine va_sld hx hb hsc hbl hbA hS (vp_in_nI (by omega) (by omega)) d_LW_law_345 ?_
      refine ss_rt (y := nI v) (by rw [nI_clamp (by omega)]; exact hx2.symm) ?_
      have hPc : va_P D vwCl ((ssW qs k gd wd se pr ln px cv co B R sx pt rd wt) ++ (plW od k ad bd ed kd nb sh mb)) _ := va_tlP (a := ((mW qm k cd wd se kd bn sh mb pr B R sx pt rd wt ln px) ++ ouW k ob of)) (b := ((ssW qs k gd wd se pr ln px cv co B R sx pt rd wt) ++ (plW od k ad bd ed kd nb sh mb))) hP
      have hDc : va_D A ((ssW qs k gd wd se pr ln px cv co B R sx pt rd wt) ++ (plW od k ad bd ed kd nb sh mb)) := va_tlD (a := ((mW qm k cd wd se kd bn sh mb pr B R sx pt rd wt ln px) ++ ouW k ob of)) (b := ((ssW qs k gd wd se pr ln px cv co B R sx pt rd wt) ++ (plW od k ad bd ed kd nb sh mb))) hD
      refine kh_i (n := 3) (As := [.ref (qs 0), .int (nI a), .int (nI v)]) (rest := []) ⟨hx, hb, hml, hown, hts⟩ (h_writeS l hl9 D k qs gd wd se pr ln px cv co B R sx pt rd wt od ad bd ed kd nb sh mb hwd hse hpr hO hkd hmb a v ha hv9 h1) (Nat.le_of_ble_eq_true rfl) (Nat.le_of_ble_eq_true rfl) w_492 w_491 w_0 w_490 (by decide +kernel) hK hX hT hU hPc hDc hS hA rfl hl.1 rfl (Nat.le_of_ble_eq_true rfl) d_LW_law_346 ⟨by show 21 + 3 * i + 3 ≤ 601024; omega, by show 9395 + 263 * i + 263 ≤ 7293034; omega⟩ (fun r9 u9 H9 locs hr9 hP1 hD1 hk1 hS9 => ?_)
      subst hr9
      obtain ⟨hP, hD⟩ := fr_tl (a := ((mW qm k cd wd se kd bn sh mb pr B R sx pt rd wt ln px) ++ ouW k ob of)) (b := ((ssW qs k gd wd se pr ln px cv co B R sx pt rd wt) ++ (plW od k ad bd ed kd nb sh mb))) (b' := ((ssW qs k gd wd (ss_up se (msl pr a) v) pr ln px cv co B R sx pt rd wt) ++ (plW od k ad bd ed kd nb sh mb))) hP hD hk1 (fun q h => hA q (Nat.le_trans hS.1 h)) hP1 hD1
      clear hP1 hD1 hk1 hPc hDc
      have hS := hS9
      clear hS9
      generalize H9 = H at hP hS ⊢
      have hP : va_P D vwCl ((mW qm k cd wd se kd bn sh mb pr B R sx pt rd wt ln px) ++ (ouW k ob of ++ ((ssW qs k gd wd (ss_up se (msl pr a) v) pr ln px cv co B R sx pt rd wt) ++ (plW od k ad bd ed kd nb sh mb)))) _ := hP
      have hD : va_D A ((mW qm k cd wd se kd bn sh mb pr B R sx pt rd wt ln px) ++ (ouW k ob of ++ ((ssW qs k gd wd (ss_up se (msl pr a) v) pr ln px cv co B R sx pt rd wt) ++ (plW od k ad bd ed kd nb sh mb)))) := hD
      refine lv_istore (lv' := [(5, .int (nI 0)), (4, .int (nI (5 * i))), (0, .ref b), (1, .ref (qs 0)), (2, .ref (qm 0)), (3, .ref ob)]) hx hb d_LW_law_349 hl (by decide) rfl (fun ls hl => ?_)
      refine lv_aload_n hx hb d_LW_law_351 rfl (lv_at hl 4 rfl) ?_
      refine lv_aload_n hx hb d_LW_law_352 rfl (lv_at hl 2 rfl) ?_
      refine lv_iload hx hb d_LW_law_353 (lv_at hl 1 rfl) ?_
      refine lv_iconst (v := nI 1) hx hb d_LW_law_355 (by decide +kernel) ?_
      refine lv_iadd hx hb d_LW_law_356 ?_
      refine ss_rt (y := nI (5 * i + 1)) (nI_add _ _) ?_
      refine va_sld hx hb hsc hbl hbA hS (vp_in_nI (by omega) (by omega)) d_LW_law_357 ?_
      refine ss_rt (y := nI a) (by rw [nI_clamp (by omega)]; exact hx1.symm) ?_
      refine lv_aload_n hx hb d_LW_law_358 rfl (lv_at hl 2 rfl) ?_
      refine lv_iload hx hb d_LW_law_359 (lv_at hl 1 rfl) ?_
      refine lv_iconst (v := nI 2) hx hb d_LW_law_361 (by decide +kernel) ?_
      refine lv_iadd hx hb d_LW_law_362 ?_
      refine ss_rt (y := nI (5 * i + 2)) (nI_add _ _) ?_
      refine va_sld hx hb hsc hbl hbA hS (vp_in_nI (by omega) (by omega)) d_LW_law_363 ?_
      refine ss_rt (y := nI v) (by rw [nI_clamp (by omega)]; exact hx2.symm) ?_
      have hPc : va_P D vwCl (mW qm k cd wd se kd bn sh mb pr B R sx pt rd wt ln px) _ := va_subP (a := []) (b := (mW qm k cd wd se kd bn sh mb pr B R sx pt rd wt ln px)) (c := ouW k ob of ++ ((ssW qs k gd wd (ss_up se (msl pr a) v) pr ln px cv co B R sx pt rd wt) ++ (plW od k ad bd ed kd nb sh mb))) hP
      have hDc : va_D A (mW qm k cd wd se kd bn sh mb pr B R sx pt rd wt ln px) := va_subD (a := []) (b := (mW qm k cd wd se kd bn sh mb pr B R sx pt rd wt ln px)) (c := ouW k ob of ++ ((ssW qs k gd wd (ss_up se (msl pr a) v) pr ln px cv co B R sx pt rd wt) ++ (plW od k ad bd ed kd nb sh mb))) hD
      refine kw_vV (As := [.int (nI a), .int (nI v)]) (rest := []) ⟨hx, hb, hml, hown, hts⟩ (c_MO_writeS l D k qm cd wd se kd bn sh mb pr B R sx pt rd wt ln px hwd hse hpr hkd hsh hmb a v ha hv9 h1) (cwV 2 hts (gV w_621 w_622 w_623 w_5 w_624) rfl rfl rfl (by decide +kernel) ⟨Nat.le_of_ble_eq_true rfl, Nat.le_of_ble_eq_true rfl⟩) hK hPc hDc hS hA (va_recv hK hPc (ci := 7) (q0 := 0) rfl rfl) rfl hl.1 rfl (Nat.le_of_ble_eq_true rfl) d_LW_law_364 ⟨by show 21 + 3 * i + 3 ≤ 601024; omega, by show 9395 + 263 * i + 263 ≤ 7293034; omega⟩ (fun _ H9 locs _ hP1 hk1 hS9 => ?_)
      obtain ⟨hP, hD⟩ := fr_mid (a := []) (b := (mW qm k cd wd se kd bn sh mb pr B R sx pt rd wt ln px)) (c := ouW k ob of ++ ((ssW qs k gd wd (ss_up se (msl pr a) v) pr ln px cv co B R sx pt rd wt) ++ (plW od k ad bd ed kd nb sh mb))) (b' := (mW qm k (nI 0) wd (ss_up se (msl pr a) v) kd bn sh mb pr B R sx pt rd wt ln px)) hP hD hk1 (fun q h => hA q (Nat.le_trans hS.1 h)) hP1 (rw_same hDc.self rfl)
      clear hP1 hk1 hPc hDc
      have hS := hS9
      clear hS9
      generalize H9 = H at hP hS ⊢
      have hP : va_P D vwCl ((mW qm k (nI 0) wd (ss_up se (msl pr a) v) kd bn sh mb pr B R sx pt rd wt ln px) ++ (ouW k ob of ++ ((ssW qs k gd wd (ss_up se (msl pr a) v) pr ln px cv co B R sx pt rd wt) ++ (plW od k ad bd ed kd nb sh mb)))) _ := hP
      have hD : va_D A ((mW qm k (nI 0) wd (ss_up se (msl pr a) v) kd bn sh mb pr B R sx pt rd wt ln px) ++ (ouW k ob of ++ ((ssW qs k gd wd (ss_up se (msl pr a) v) pr ln px cv co B R sx pt rd wt) ++ (plW od k ad bd ed kd nb sh mb)))) := hD
      refine lv_aload_n hx hb d_LW_law_367 rfl (lv_at hl 4 rfl) ?_
      have hPc : va_P D vwCl (mW qm k (nI 0) wd (ss_up se (msl pr a) v) kd bn sh mb pr B R sx pt rd wt ln px) _ := va_subP (a := []) (b := (mW qm k (nI 0) wd (ss_up se (msl pr a) v) kd bn sh mb pr B R sx pt rd wt ln px)) (c := ouW k ob of ++ ((ssW qs k gd wd (ss_up se (msl pr a) v) pr ln px cv co B R sx pt rd wt) ++ (plW od k ad bd ed kd nb sh mb))) hP
      refine kr_iV (As := []) (rest := []) ⟨hx, hb, hml, hown, hts⟩ (c_MO_thrown l D k qm (nI 0) wd (ss_up se (msl pr a) v) kd bn sh mb pr B R sx pt rd wt ln px) (cwV 0 hts (gV w_579 w_580 w_581 w_5 w_582) rfl rfl rfl (by decide +kernel) ⟨Nat.le_of_ble_eq_true rfl, Nat.le_of_ble_eq_true rfl⟩) hK hPc (va_recv hK hPc (ci := 7) (q0 := 0) rfl rfl) rfl hl.1 rfl (Nat.le_of_ble_eq_true rfl) d_LW_law_368 ⟨by show 21 + 3 * i + 3 ≤ 601024; omega, by show 9395 + 263 * i + 263 ≤ 7293034; omega⟩ ?_
      refine lv_iload hx hb d_LW_law_371 (lv_at hl 0 rfl) ?_
      refine lv_icmp_eq (tgt := 378) hx hb d_LW_law_373 (by decide) (fun c1 => ?_) (fun c1 => ?_)
      · have c1 := (nI_eq (by omega) (by omega)).mp c1
        refine lv_goto (tgt := 661) hx hb d_LW_law_378 (by decide) ?_
        refine lv_iinc (v := nI (5 * (i + 1))) (lv' := [(4, .int (nI (5 * (i + 1)))), (5, .int (nI 0)), (0, .ref b), (1, .ref (qs 0)), (2, .ref (qm 0)), (3, .ref ob)]) hx hb d_LW_law_661 hl (k := 1) rfl ((nI_add (5 * i) 5).trans (by rw [Nat.mul_succ])) (by decide) rfl (fun ls hl => ?_)
        refine lv_goto (tgt := 23) hx hb d_LW_law_664 (by decide) ?_
        refine W.widen (k := 21 + 3 * (i + 1)) (n := 9395 + 263 * (i + 1)) (by show 21 + 3 * i + 3 ≤ _; omega) (by show 9395 + 263 * i + 263 ≤ _; omega) ?_
        exact ih (nI 0) gd wd (ss_up se (msl pr a) v) pr ln px cv co B R sx pt rd wt od ad bd ed kd nb sh mb bn of _ _ _ ⟨hwd, ss_up_lt hse hv9, hpr, hln, hB, hR, hsx, hpt, hwt, hO, hkd, hsh, hmb, hbn, hz⟩ hP hD hS (lv_sub hl [0, 2, 3, 4, 5] rfl)
      · have c1 := mt (nI_eq (by omega) (by omega)).mpr c1
        exfalso; omega
    by_cases k1 : kd (4 * msl pr a + mpg wd se (msl pr a) a) = 1
    · skip
      refine lv_aload_n hx hb d_LW_law_333 rfl (lv_at hl 2 rfl) ?_
      refine lv_aload_n hx hb d_LW_law_334 rfl (lv_at hl 1 rfl) ?_
      refine lv_iload hx hb d_LW_law_335 (lv_at hl 0 rfl) ?_
      refine lv_iconst (v := nI 1) hx hb d_LW_law_337 (by decide +kernel) ?_
      refine lv_iadd hx hb d_LW_law_338 ?_
      refine ss_rt (y := nI (5 * i + 1)) (nI_add _ _) ?_
      refine va_sld hx hb hsc hbl hbA hS (vp_in_nI (by omega) (by omega)) d_LW_law_339 ?_
      refine ss_rt (y := nI a) (by rw [nI_clamp (by omega)]; exact hx1.symm) ?_
      refine lv_aload_n hx hb d_LW_law_340 rfl (lv_at hl 1 rfl) ?_
      refine lv_iload hx hb d_LW_law_341 (lv_at hl 0 rfl) ?_
      refine lv_iconst (v := nI 2) hx hb d_LW_law_343 (by decide +kernel) ?_
      refine lv_iadd hx hb d_LW_law_344 ?_
      refine ss_rt (y := nI (5 * i + 2)) (nI_add _ _) ?_
      refine va_sld hx hb hsc hbl hbA hS (vp_in_nI (by omega) (by omega)) d_LW_law_345 ?_
      refine ss_rt (y := nI v) (by rw [nI_clamp (by omega)]; exact hx2.symm) ?_
      have hPc : va_P D vwCl ((ssW qs k gd wd se pr ln px cv co B R sx pt rd wt) ++ (plW od k ad bd ed kd nb sh mb)) _ := va_tlP (a := ((mW qm k cd wd se kd bn sh mb pr B R sx pt rd wt ln px) ++ ouW k ob of)) (b := ((ssW qs k gd wd se pr ln px cv co B R sx pt rd wt) ++ (plW od k ad bd ed kd nb sh mb))) hP
      have hDc : va_D A ((ssW qs k gd wd se pr ln px cv co B R sx pt rd wt) ++ (plW od k ad bd ed kd nb sh mb)) := va_tlD (a := ((mW qm k cd wd se kd bn sh mb pr B R sx pt rd wt ln px) ++ ouW k ob of)) (b := ((ssW qs k gd wd se pr ln px cv co B R sx pt rd wt) ++ (plW od k ad bd ed kd nb sh mb))) hD
      refine kh_i (n := 3) (As := [.ref (qs 0), .int (nI a), .int (nI v)]) (rest := []) ⟨hx, hb, hml, hown, hts⟩ (h_write1 l hl9 D k qs gd wd se pr ln px cv co B R sx pt rd wt od ad bd ed kd nb sh mb hwd hse hpr hO hkd hmb a v ha hv9 h1 k1) (Nat.le_of_ble_eq_true rfl) (Nat.le_of_ble_eq_true rfl) w_492 w_491 w_0 w_490 (by decide +kernel) hK hX hT hU hPc hDc hS hA rfl hl.1 rfl (Nat.le_of_ble_eq_true rfl) d_LW_law_346 ⟨by show 21 + 3 * i + 3 ≤ 601024; omega, by show 9395 + 263 * i + 263 ≤ 7293034; omega⟩ (fun r9 u9 H9 locs hr9 hP1 hD1 hk1 hS9 => ?_)
      subst hr9
      obtain ⟨hP, hD⟩ := fr_tl (a := ((mW qm k cd wd se kd bn sh mb pr B R sx pt rd wt ln px) ++ ouW k ob of)) (b := ((ssW qs k gd wd se pr ln px cv co B R sx pt rd wt) ++ (plW od k ad bd ed kd nb sh mb))) (b' := ((ssW qs k gd wd se pr ln px cv co B R sx pt rd wt) ++ (plW od k ad bd ed kd nb sh (ss_up mb (256 * (4 * msl pr a + mpg wd se (msl pr a) a) + a) v)))) hP hD hk1 (fun q h => hA q (Nat.le_trans hS.1 h)) hP1 hD1
      clear hP1 hD1 hk1 hPc hDc
      have hS := hS9
      clear hS9
      generalize H9 = H at hP hS ⊢
      have hP : va_P D vwCl ((mW qm k cd wd se kd bn sh mb pr B R sx pt rd wt ln px) ++ (ouW k ob of ++ ((ssW qs k gd wd se pr ln px cv co B R sx pt rd wt) ++ (plW od k ad bd ed kd nb sh (ss_up mb (256 * (4 * msl pr a + mpg wd se (msl pr a) a) + a) v))))) _ := hP
      have hD : va_D A ((mW qm k cd wd se kd bn sh mb pr B R sx pt rd wt ln px) ++ (ouW k ob of ++ ((ssW qs k gd wd se pr ln px cv co B R sx pt rd wt) ++ (plW od k ad bd ed kd nb sh (ss_up mb (256 * (4 * msl pr a + mpg wd se (msl pr a) a) + a) v))))) := hD
      refine lv_istore (lv' := [(5, .int (nI 0)), (4, .int (nI (5 * i))), (0, .ref b), (1, .ref (qs 0)), (2, .ref (qm 0)), (3, .ref ob)]) hx hb d_LW_law_349 hl (by decide) rfl (fun ls hl => ?_)
      refine lv_aload_n hx hb d_LW_law_351 rfl (lv_at hl 4 rfl) ?_
      refine lv_aload_n hx hb d_LW_law_352 rfl (lv_at hl 2 rfl) ?_
      refine lv_iload hx hb d_LW_law_353 (lv_at hl 1 rfl) ?_
      refine lv_iconst (v := nI 1) hx hb d_LW_law_355 (by decide +kernel) ?_
      refine lv_iadd hx hb d_LW_law_356 ?_
      refine ss_rt (y := nI (5 * i + 1)) (nI_add _ _) ?_
      refine va_sld hx hb hsc hbl hbA hS (vp_in_nI (by omega) (by omega)) d_LW_law_357 ?_
      refine ss_rt (y := nI a) (by rw [nI_clamp (by omega)]; exact hx1.symm) ?_
      refine lv_aload_n hx hb d_LW_law_358 rfl (lv_at hl 2 rfl) ?_
      refine lv_iload hx hb d_LW_law_359 (lv_at hl 1 rfl) ?_
      refine lv_iconst (v := nI 2) hx hb d_LW_law_361 (by decide +kernel) ?_
      refine lv_iadd hx hb d_LW_law_362 ?_
      refine ss_rt (y := nI (5 * i + 2)) (nI_add _ _) ?_
      refine va_sld hx hb hsc hbl hbA hS (vp_in_nI (by omega) (by omega)) d_LW_law_363 ?_
      refine ss_rt (y := nI v) (by rw [nI_clamp (by omega)]; exact hx2.symm) ?_
      have hPc : va_P D vwCl (mW qm k cd wd se kd bn sh mb pr B R sx pt rd wt ln px) _ := va_subP (a := []) (b := (mW qm k cd wd se kd bn sh mb pr B R sx pt rd wt ln px)) (c := ouW k ob of ++ ((ssW qs k gd wd se pr ln px cv co B R sx pt rd wt) ++ (plW od k ad bd ed kd nb sh (ss_up mb (256 * (4 * msl pr a + mpg wd se (msl pr a) a) + a) v)))) hP
      have hDc : va_D A (mW qm k cd wd se kd bn sh mb pr B R sx pt rd wt ln px) := va_subD (a := []) (b := (mW qm k cd wd se kd bn sh mb pr B R sx pt rd wt ln px)) (c := ouW k ob of ++ ((ssW qs k gd wd se pr ln px cv co B R sx pt rd wt) ++ (plW od k ad bd ed kd nb sh (ss_up mb (256 * (4 * msl pr a + mpg wd se (msl pr a) a) + a) v)))) hD
      refine kw_vV (As := [.int (nI a), .int (nI v)]) (rest := []) ⟨hx, hb, hml, hown, hts⟩ (c_MO_write1 l D k qm cd wd se kd bn sh mb pr B R sx pt rd wt ln px hwd hse hpr hkd hsh hmb a v ha hv9 h1 k1) (cwV 2 hts (gV w_621 w_622 w_623 w_5 w_624) rfl rfl rfl (by decide +kernel) ⟨Nat.le_of_ble_eq_true rfl, Nat.le_of_ble_eq_true rfl⟩) hK hPc hDc hS hA (va_recv hK hPc (ci := 7) (q0 := 0) rfl rfl) rfl hl.1 rfl (Nat.le_of_ble_eq_true rfl) d_LW_law_364 ⟨by show 21 + 3 * i + 3 ≤ 601024; omega, by show 9395 + 263 * i + 263 ≤ 7293034; omega⟩ (fun _ H9 locs _ hP1 hk1 hS9 => ?_)
      obtain ⟨hP, hD⟩ := fr_mid (a := []) (b := (mW qm k cd wd se kd bn sh mb pr B R sx pt rd wt ln px)) (c := ouW k ob of ++ ((ssW qs k gd wd se pr ln px cv co B R sx pt rd wt) ++ (plW od k ad bd ed kd nb sh (ss_up mb (256 * (4 * msl pr a + mpg wd se (msl pr a) a) + a) v)))) (b' := (mW qm k (nI 0) wd se kd bn sh (ss_up mb (256 * (4 * msl pr a + mpg wd se (msl pr a) a) + a) v) pr B R sx pt rd wt ln px)) hP hD hk1 (fun q h => hA q (Nat.le_trans hS.1 h)) hP1 (rw_same hDc.self rfl)
      clear hP1 hk1 hPc hDc
      have hS := hS9
      clear hS9
      generalize H9 = H at hP hS ⊢
      have hP : va_P D vwCl ((mW qm k (nI 0) wd se kd bn sh (ss_up mb (256 * (4 * msl pr a + mpg wd se (msl pr a) a) + a) v) pr B R sx pt rd wt ln px) ++ (ouW k ob of ++ ((ssW qs k gd wd se pr ln px cv co B R sx pt rd wt) ++ (plW od k ad bd ed kd nb sh (ss_up mb (256 * (4 * msl pr a + mpg wd se (msl pr a) a) + a) v))))) _ := hP
      have hD : va_D A ((mW qm k (nI 0) wd se kd bn sh (ss_up mb (256 * (4 * msl pr a + mpg wd se (msl pr a) a) + a) v) pr B R sx pt rd wt ln px) ++ (ouW k ob of ++ ((ssW qs k gd wd se pr ln px cv co B R sx pt rd wt) ++ (plW od k ad bd ed kd nb sh (ss_up mb (256 * (4 * msl pr a + mpg wd se (msl pr a) a) + a) v))))) := hD
      refine lv_aload_n hx hb d_LW_law_367 rfl (lv_at hl 4 rfl) ?_
      have hPc : va_P D vwCl (mW qm k (nI 0) wd se kd bn sh (ss_up mb (256 * (4 * msl pr a + mpg wd se (msl pr a) a) + a) v) pr B R sx pt rd wt ln px) _ := va_subP (a := []) (b := (mW qm k (nI 0) wd se kd bn sh (ss_up mb (256 * (4 * msl pr a + mpg wd se (msl pr a) a) + a) v) pr B R sx pt rd wt ln px)) (c := ouW k ob of ++ ((ssW qs k gd wd se pr ln px cv co B R sx pt rd wt) ++ (plW od k ad bd ed kd nb sh (ss_up mb (256 * (4 * msl pr a + mpg wd se (msl pr a) a) + a) v)))) hP
      refine kr_iV (As := []) (rest := []) ⟨hx, hb, hml, hown, hts⟩ (c_MO_thrown l D k qm (nI 0) wd se kd bn sh (ss_up mb (256 * (4 * msl pr a + mpg wd se (msl pr a) a) + a) v) pr B R sx pt rd wt ln px) (cwV 0 hts (gV w_579 w_580 w_581 w_5 w_582) rfl rfl rfl (by decide +kernel) ⟨Nat.le_of_ble_eq_true rfl, Nat.le_of_ble_eq_true rfl⟩) hK hPc (va_recv hK hPc (ci := 7) (q0 := 0) rfl rfl) rfl hl.1 rfl (Nat.le_of_ble_eq_true rfl) d_LW_law_368 ⟨by show 21 + 3 * i + 3 ≤ 601024; omega, by show 9395 + 263 * i + 263 ≤ 7293034; omega⟩ ?_
      refine lv_iload hx hb d_LW_law_371 (lv_at hl 0 rfl) ?_
      refine lv_icmp_eq (tgt := 378) hx hb d_LW_law_373 (by decide) (fun c2 => ?_) (fun c2 => ?_)
      · have c2 := (nI_eq (by omega) (by omega)).mp c2
        refine lv_goto (tgt := 661) hx hb d_LW_law_378 (by decide) ?_
        refine lv_iinc (v := nI (5 * (i + 1))) (lv' := [(4, .int (nI (5 * (i + 1)))), (5, .int (nI 0)), (0, .ref b), (1, .ref (qs 0)), (2, .ref (qm 0)), (3, .ref ob)]) hx hb d_LW_law_661 hl (k := 1) rfl ((nI_add (5 * i) 5).trans (by rw [Nat.mul_succ])) (by decide) rfl (fun ls hl => ?_)
        refine lv_goto (tgt := 23) hx hb d_LW_law_664 (by decide) ?_
        refine W.widen (k := 21 + 3 * (i + 1)) (n := 9395 + 263 * (i + 1)) (by show 21 + 3 * i + 3 ≤ _; omega) (by show 9395 + 263 * i + 263 ≤ _; omega) ?_
        exact ih (nI 0) gd wd se pr ln px cv co B R sx pt rd wt od ad bd ed kd nb sh (ss_up mb (256 * (4 * msl pr a + mpg wd se (msl pr a) a) + a) v) bn of _ _ _ ⟨hwd, hse, hpr, hln, hB, hR, hsx, hpt, hwt, hO, hkd, hsh, ss_up_lt hmb hv9, hbn, hz_up hz (by omega) (by omega)⟩ hP hD hS (lv_sub hl [0, 2, 3, 4, 5] rfl)
      · have c2 := mt (nI_eq (by omega) (by omega)).mpr c2
        exfalso; omega
    by_cases k4 : kd (4 * msl pr a + mpg wd se (msl pr a) a) = 4
    · skip
      refine lv_aload_n hx hb d_LW_law_333 rfl (lv_at hl 2 rfl) ?_
      refine lv_aload_n hx hb d_LW_law_334 rfl (lv_at hl 1 rfl) ?_
      refine lv_iload hx hb d_LW_law_335 (lv_at hl 0 rfl) ?_
      refine lv_iconst (v := nI 1) hx hb d_LW_law_337 (by decide +kernel) ?_
      refine lv_iadd hx hb d_LW_law_338 ?_
      refine ss_rt (y := nI (5 * i + 1)) (nI_add _ _) ?_
      refine va_sld hx hb hsc hbl hbA hS (vp_in_nI (by omega) (by omega)) d_LW_law_339 ?_
      refine ss_rt (y := nI a) (by rw [nI_clamp (by omega)]; exact hx1.symm) ?_
      refine lv_aload_n hx hb d_LW_law_340 rfl (lv_at hl 1 rfl) ?_
      refine lv_iload hx hb d_LW_law_341 (lv_at hl 0 rfl) ?_
      refine lv_iconst (v := nI 2) hx hb d_LW_law_343 (by decide +kernel) ?_
      refine lv_iadd hx hb d_LW_law_344 ?_
      refine ss_rt (y := nI (5 * i + 2)) (nI_add _ _) ?_
      refine va_sld hx hb hsc hbl hbA hS (vp_in_nI (by omega) (by omega)) d_LW_law_345 ?_
      refine ss_rt (y := nI v) (by rw [nI_clamp (by omega)]; exact hx2.symm) ?_
      have hPc : va_P D vwCl ((ssW qs k gd wd se pr ln px cv co B R sx pt rd wt) ++ (plW od k ad bd ed kd nb sh mb)) _ := va_tlP (a := ((mW qm k cd wd se kd bn sh mb pr B R sx pt rd wt ln px) ++ ouW k ob of)) (b := ((ssW qs k gd wd se pr ln px cv co B R sx pt rd wt) ++ (plW od k ad bd ed kd nb sh mb))) hP
      have hDc : va_D A ((ssW qs k gd wd se pr ln px cv co B R sx pt rd wt) ++ (plW od k ad bd ed kd nb sh mb)) := va_tlD (a := ((mW qm k cd wd se kd bn sh mb pr B R sx pt rd wt ln px) ++ ouW k ob of)) (b := ((ssW qs k gd wd se pr ln px cv co B R sx pt rd wt) ++ (plW od k ad bd ed kd nb sh mb))) hD
      refine kh_i (n := 3) (As := [.ref (qs 0), .int (nI a), .int (nI v)]) (rest := []) ⟨hx, hb, hml, hown, hts⟩ (h_write4 l hl9 D k qs gd wd se pr ln px cv co B R sx pt rd wt od ad bd ed kd nb sh mb hwd hse hpr hO hkd hmb a v ha hv9 h1 k4) (Nat.le_of_ble_eq_true rfl) (Nat.le_of_ble_eq_true rfl) w_492 w_491 w_0 w_490 (by decide +kernel) hK hX hT hU hPc hDc hS hA rfl hl.1 rfl (Nat.le_of_ble_eq_true rfl) d_LW_law_346 ⟨by show 21 + 3 * i + 3 ≤ 601024; omega, by show 9395 + 263 * i + 263 ≤ 7293034; omega⟩ (fun r9 u9 H9 locs hr9 hP1 hD1 hk1 hS9 => ?_)
      subst hr9
      obtain ⟨hP, hD⟩ := fr_tl (a := ((mW qm k cd wd se kd bn sh mb pr B R sx pt rd wt ln px) ++ ouW k ob of)) (b := ((ssW qs k gd wd se pr ln px cv co B R sx pt rd wt) ++ (plW od k ad bd ed kd nb sh mb))) (b' := ((ssW qs k gd wd se pr ln px cv co B R sx pt rd wt) ++ (plW od k ad bd ed kd nb sh (ss_up mb (256 * (4 * msl pr a + mpg wd se (msl pr a) a) + a % 64) v)))) hP hD hk1 (fun q h => hA q (Nat.le_trans hS.1 h)) hP1 hD1
      clear hP1 hD1 hk1 hPc hDc
      have hS := hS9
      clear hS9
      generalize H9 = H at hP hS ⊢
      have hP : va_P D vwCl ((mW qm k cd wd se kd bn sh mb pr B R sx pt rd wt ln px) ++ (ouW k ob of ++ ((ssW qs k gd wd se pr ln px cv co B R sx pt rd wt) ++ (plW od k ad bd ed kd nb sh (ss_up mb (256 * (4 * msl pr a + mpg wd se (msl pr a) a) + a % 64) v))))) _ := hP
      have hD : va_D A ((mW qm k cd wd se kd bn sh mb pr B R sx pt rd wt ln px) ++ (ouW k ob of ++ ((ssW qs k gd wd se pr ln px cv co B R sx pt rd wt) ++ (plW od k ad bd ed kd nb sh (ss_up mb (256 * (4 * msl pr a + mpg wd se (msl pr a) a) + a % 64) v))))) := hD
      refine lv_istore (lv' := [(5, .int (nI 0)), (4, .int (nI (5 * i))), (0, .ref b), (1, .ref (qs 0)), (2, .ref (qm 0)), (3, .ref ob)]) hx hb d_LW_law_349 hl (by decide) rfl (fun ls hl => ?_)
      refine lv_aload_n hx hb d_LW_law_351 rfl (lv_at hl 4 rfl) ?_
      refine lv_aload_n hx hb d_LW_law_352 rfl (lv_at hl 2 rfl) ?_
      refine lv_iload hx hb d_LW_law_353 (lv_at hl 1 rfl) ?_
      refine lv_iconst (v := nI 1) hx hb d_LW_law_355 (by decide +kernel) ?_
      refine lv_iadd hx hb d_LW_law_356 ?_
      refine ss_rt (y := nI (5 * i + 1)) (nI_add _ _) ?_
      refine va_sld hx hb hsc hbl hbA hS (vp_in_nI (by omega) (by omega)) d_LW_law_357 ?_
      refine ss_rt (y := nI a) (by rw [nI_clamp (by omega)]; exact hx1.symm) ?_
      refine lv_aload_n hx hb d_LW_law_358 rfl (lv_at hl 2 rfl) ?_
      refine lv_iload hx hb d_LW_law_359 (lv_at hl 1 rfl) ?_
      refine lv_iconst (v := nI 2) hx hb d_LW_law_361 (by decide +kernel) ?_
      refine lv_iadd hx hb d_LW_law_362 ?_
      refine ss_rt (y := nI (5 * i + 2)) (nI_add _ _) ?_
      refine va_sld hx hb hsc hbl hbA hS (vp_in_nI (by omega) (by omega)) d_LW_law_363 ?_
      refine ss_rt (y := nI v) (by rw [nI_clamp (by omega)]; exact hx2.symm) ?_
      have hPc : va_P D vwCl (mW qm k cd wd se kd bn sh mb pr B R sx pt rd wt ln px) _ := va_subP (a := []) (b := (mW qm k cd wd se kd bn sh mb pr B R sx pt rd wt ln px)) (c := ouW k ob of ++ ((ssW qs k gd wd se pr ln px cv co B R sx pt rd wt) ++ (plW od k ad bd ed kd nb sh (ss_up mb (256 * (4 * msl pr a + mpg wd se (msl pr a) a) + a % 64) v)))) hP
      have hDc : va_D A (mW qm k cd wd se kd bn sh mb pr B R sx pt rd wt ln px) := va_subD (a := []) (b := (mW qm k cd wd se kd bn sh mb pr B R sx pt rd wt ln px)) (c := ouW k ob of ++ ((ssW qs k gd wd se pr ln px cv co B R sx pt rd wt) ++ (plW od k ad bd ed kd nb sh (ss_up mb (256 * (4 * msl pr a + mpg wd se (msl pr a) a) + a % 64) v)))) hD
      refine kw_vV (As := [.int (nI a), .int (nI v)]) (rest := []) ⟨hx, hb, hml, hown, hts⟩ (c_MO_write4 l D k qm cd wd se kd bn sh mb pr B R sx pt rd wt ln px hwd hse hpr hkd hsh hmb a v ha hv9 h1 k4) (cwV 2 hts (gV w_621 w_622 w_623 w_5 w_624) rfl rfl rfl (by decide +kernel) ⟨Nat.le_of_ble_eq_true rfl, Nat.le_of_ble_eq_true rfl⟩) hK hPc hDc hS hA (va_recv hK hPc (ci := 7) (q0 := 0) rfl rfl) rfl hl.1 rfl (Nat.le_of_ble_eq_true rfl) d_LW_law_364 ⟨by show 21 + 3 * i + 3 ≤ 601024; omega, by show 9395 + 263 * i + 263 ≤ 7293034; omega⟩ (fun _ H9 locs _ hP1 hk1 hS9 => ?_)
      obtain ⟨hP, hD⟩ := fr_mid (a := []) (b := (mW qm k cd wd se kd bn sh mb pr B R sx pt rd wt ln px)) (c := ouW k ob of ++ ((ssW qs k gd wd se pr ln px cv co B R sx pt rd wt) ++ (plW od k ad bd ed kd nb sh (ss_up mb (256 * (4 * msl pr a + mpg wd se (msl pr a) a) + a % 64) v)))) (b' := (mW qm k (nI 0) wd se kd bn sh (ss_up mb (256 * (4 * msl pr a + mpg wd se (msl pr a) a) + a % 64) v) pr B R sx pt rd wt ln px)) hP hD hk1 (fun q h => hA q (Nat.le_trans hS.1 h)) hP1 (rw_same hDc.self rfl)
      clear hP1 hk1 hPc hDc
      have hS := hS9
      clear hS9
      generalize H9 = H at hP hS ⊢
      have hP : va_P D vwCl ((mW qm k (nI 0) wd se kd bn sh (ss_up mb (256 * (4 * msl pr a + mpg wd se (msl pr a) a) + a % 64) v) pr B R sx pt rd wt ln px) ++ (ouW k ob of ++ ((ssW qs k gd wd se pr ln px cv co B R sx pt rd wt) ++ (plW od k ad bd ed kd nb sh (ss_up mb (256 * (4 * msl pr a + mpg wd se (msl pr a) a) + a % 64) v))))) _ := hP
      have hD : va_D A ((mW qm k (nI 0) wd se kd bn sh (ss_up mb (256 * (4 * msl pr a + mpg wd se (msl pr a) a) + a % 64) v) pr B R sx pt rd wt ln px) ++ (ouW k ob of ++ ((ssW qs k gd wd se pr ln px cv co B R sx pt rd wt) ++ (plW od k ad bd ed kd nb sh (ss_up mb (256 * (4 * msl pr a + mpg wd se (msl pr a) a) + a % 64) v))))) := hD
      refine lv_aload_n hx hb d_LW_law_367 rfl (lv_at hl 4 rfl) ?_
      have hPc : va_P D vwCl (mW qm k (nI 0) wd se kd bn sh (ss_up mb (256 * (4 * msl pr a + mpg wd se (msl pr a) a) + a % 64) v) pr B R sx pt rd wt ln px) _ := va_subP (a := []) (b := (mW qm k (nI 0) wd se kd bn sh (ss_up mb (256 * (4 * msl pr a + mpg wd se (msl pr a) a) + a % 64) v) pr B R sx pt rd wt ln px)) (c := ouW k ob of ++ ((ssW qs k gd wd se pr ln px cv co B R sx pt rd wt) ++ (plW od k ad bd ed kd nb sh (ss_up mb (256 * (4 * msl pr a + mpg wd se (msl pr a) a) + a % 64) v)))) hP
      refine kr_iV (As := []) (rest := []) ⟨hx, hb, hml, hown, hts⟩ (c_MO_thrown l D k qm (nI 0) wd se kd bn sh (ss_up mb (256 * (4 * msl pr a + mpg wd se (msl pr a) a) + a % 64) v) pr B R sx pt rd wt ln px) (cwV 0 hts (gV w_579 w_580 w_581 w_5 w_582) rfl rfl rfl (by decide +kernel) ⟨Nat.le_of_ble_eq_true rfl, Nat.le_of_ble_eq_true rfl⟩) hK hPc (va_recv hK hPc (ci := 7) (q0 := 0) rfl rfl) rfl hl.1 rfl (Nat.le_of_ble_eq_true rfl) d_LW_law_368 ⟨by show 21 + 3 * i + 3 ≤ 601024; omega, by show 9395 + 263 * i + 263 ≤ 7293034; omega⟩ ?_
      refine lv_iload hx hb d_LW_law_371 (lv_at hl 0 rfl) ?_
      refine lv_icmp_eq (tgt := 378) hx hb d_LW_law_373 (by decide) (fun c3 => ?_) (fun c3 => ?_)
      · have c3 := (nI_eq (by omega) (by omega)).mp c3
        refine lv_goto (tgt := 661) hx hb d_LW_law_378 (by decide) ?_
        refine lv_iinc (v := nI (5 * (i + 1))) (lv' := [(4, .int (nI (5 * (i + 1)))), (5, .int (nI 0)), (0, .ref b), (1, .ref (qs 0)), (2, .ref (qm 0)), (3, .ref ob)]) hx hb d_LW_law_661 hl (k := 1) rfl ((nI_add (5 * i) 5).trans (by rw [Nat.mul_succ])) (by decide) rfl (fun ls hl => ?_)
        refine lv_goto (tgt := 23) hx hb d_LW_law_664 (by decide) ?_
        refine W.widen (k := 21 + 3 * (i + 1)) (n := 9395 + 263 * (i + 1)) (by show 21 + 3 * i + 3 ≤ _; omega) (by show 9395 + 263 * i + 263 ≤ _; omega) ?_
        exact ih (nI 0) gd wd se pr ln px cv co B R sx pt rd wt od ad bd ed kd nb sh (ss_up mb (256 * (4 * msl pr a + mpg wd se (msl pr a) a) + a % 64) v) bn of _ _ _ ⟨hwd, hse, hpr, hln, hB, hR, hsx, hpt, hwt, hO, hkd, hsh, ss_up_lt hmb hv9, hbn, hz_up hz (by omega) (by omega)⟩ hP hD hS (lv_sub hl [0, 2, 3, 4, 5] rfl)
      · have c3 := mt (nI_eq (by omega) (by omega)).mpr c3
        exfalso; omega
    by_cases k3 : kd (4 * msl pr a + mpg wd se (msl pr a) a) = 3
    · obtain ⟨hn1, hn2, -⟩ := hO.2.2.2 (4 * msl pr a + mpg wd se (msl pr a) a) (by omega) k3
      have hb3 := hbn (4 * msl pr a + mpg wd se (msl pr a) a) (by omega) k3
      by_cases h2 : 64 ≤ a ∧ a ≤ 191
      · skip
        refine lv_aload_n hx hb d_LW_law_333 rfl (lv_at hl 2 rfl) ?_
        refine lv_aload_n hx hb d_LW_law_334 rfl (lv_at hl 1 rfl) ?_
        refine lv_iload hx hb d_LW_law_335 (lv_at hl 0 rfl) ?_
        refine lv_iconst (v := nI 1) hx hb d_LW_law_337 (by decide +kernel) ?_
        refine lv_iadd hx hb d_LW_law_338 ?_
        refine ss_rt (y := nI (5 * i + 1)) (nI_add _ _) ?_
        refine va_sld hx hb hsc hbl hbA hS (vp_in_nI (by omega) (by omega)) d_LW_law_339 ?_
        refine ss_rt (y := nI a) (by rw [nI_clamp (by omega)]; exact hx1.symm) ?_
        refine lv_aload_n hx hb d_LW_law_340 rfl (lv_at hl 1 rfl) ?_
        refine lv_iload hx hb d_LW_law_341 (lv_at hl 0 rfl) ?_
        refine lv_iconst (v := nI 2) hx hb d_LW_law_343 (by decide +kernel) ?_
        refine lv_iadd hx hb d_LW_law_344 ?_
        refine ss_rt (y := nI (5 * i + 2)) (nI_add _ _) ?_
        refine va_sld hx hb hsc hbl hbA hS (vp_in_nI (by omega) (by omega)) d_LW_law_345 ?_
        refine ss_rt (y := nI v) (by rw [nI_clamp (by omega)]; exact hx2.symm) ?_
        have hPc : va_P D vwCl ((ssW qs k gd wd se pr ln px cv co B R sx pt rd wt) ++ (plW od k ad bd ed kd nb sh mb)) _ := va_tlP (a := ((mW qm k cd wd se kd bn sh mb pr B R sx pt rd wt ln px) ++ ouW k ob of)) (b := ((ssW qs k gd wd se pr ln px cv co B R sx pt rd wt) ++ (plW od k ad bd ed kd nb sh mb))) hP
        have hDc : va_D A ((ssW qs k gd wd se pr ln px cv co B R sx pt rd wt) ++ (plW od k ad bd ed kd nb sh mb)) := va_tlD (a := ((mW qm k cd wd se kd bn sh mb pr B R sx pt rd wt ln px) ++ ouW k ob of)) (b := ((ssW qs k gd wd se pr ln px cv co B R sx pt rd wt) ++ (plW od k ad bd ed kd nb sh mb))) hD
        refine kh_i (n := 3) (As := [.ref (qs 0), .int (nI a), .int (nI v)]) (rest := []) ⟨hx, hb, hml, hown, hts⟩ (h_write3 l hl9 D k qs gd wd se pr ln px cv co B R sx pt rd wt od ad bd ed kd nb sh mb hwd hse hpr hO hkd hmb a v ha hv9 h1 k3 h2) (Nat.le_of_ble_eq_true rfl) (Nat.le_of_ble_eq_true rfl) w_492 w_491 w_0 w_490 (by decide +kernel) hK hX hT hU hPc hDc hS hA rfl hl.1 rfl (Nat.le_of_ble_eq_true rfl) d_LW_law_346 ⟨by show 21 + 3 * i + 3 ≤ 601024; omega, by show 9395 + 263 * i + 263 ≤ 7293034; omega⟩ (fun r9 u9 H9 locs hr9 hP1 hD1 hk1 hS9 => ?_)
        subst hr9
        obtain ⟨hP, hD⟩ := fr_tl (a := ((mW qm k cd wd se kd bn sh mb pr B R sx pt rd wt ln px) ++ ouW k ob of)) (b := ((ssW qs k gd wd se pr ln px cv co B R sx pt rd wt) ++ (plW od k ad bd ed kd nb sh mb))) (b' := ((ssW qs k gd wd se pr ln px cv co B R sx pt rd wt) ++ (plW od k ad bd ed kd nb (ss_up sh (4 * (4 * msl pr a + mpg wd se (msl pr a) a) + (a - 64) / 32) (v % nb (4 * msl pr a + mpg wd se (msl pr a) a))) mb))) hP hD hk1 (fun q h => hA q (Nat.le_trans hS.1 h)) hP1 hD1
        clear hP1 hD1 hk1 hPc hDc
        have hS := hS9
        clear hS9
        generalize H9 = H at hP hS ⊢
        have hP : va_P D vwCl ((mW qm k cd wd se kd bn sh mb pr B R sx pt rd wt ln px) ++ (ouW k ob of ++ ((ssW qs k gd wd se pr ln px cv co B R sx pt rd wt) ++ (plW od k ad bd ed kd nb (ss_up sh (4 * (4 * msl pr a + mpg wd se (msl pr a) a) + (a - 64) / 32) (v % nb (4 * msl pr a + mpg wd se (msl pr a) a))) mb)))) _ := hP
        have hD : va_D A ((mW qm k cd wd se kd bn sh mb pr B R sx pt rd wt ln px) ++ (ouW k ob of ++ ((ssW qs k gd wd se pr ln px cv co B R sx pt rd wt) ++ (plW od k ad bd ed kd nb (ss_up sh (4 * (4 * msl pr a + mpg wd se (msl pr a) a) + (a - 64) / 32) (v % nb (4 * msl pr a + mpg wd se (msl pr a) a))) mb)))) := hD
        refine lv_istore (lv' := [(5, .int (nI 0)), (4, .int (nI (5 * i))), (0, .ref b), (1, .ref (qs 0)), (2, .ref (qm 0)), (3, .ref ob)]) hx hb d_LW_law_349 hl (by decide) rfl (fun ls hl => ?_)
        refine lv_aload_n hx hb d_LW_law_351 rfl (lv_at hl 4 rfl) ?_
        refine lv_aload_n hx hb d_LW_law_352 rfl (lv_at hl 2 rfl) ?_
        refine lv_iload hx hb d_LW_law_353 (lv_at hl 1 rfl) ?_
        refine lv_iconst (v := nI 1) hx hb d_LW_law_355 (by decide +kernel) ?_
        refine lv_iadd hx hb d_LW_law_356 ?_
        refine ss_rt (y := nI (5 * i + 1)) (nI_add _ _) ?_
        refine va_sld hx hb hsc hbl hbA hS (vp_in_nI (by omega) (by omega)) d_LW_law_357 ?_
        refine ss_rt (y := nI a) (by rw [nI_clamp (by omega)]; exact hx1.symm) ?_
        refine lv_aload_n hx hb d_LW_law_358 rfl (lv_at hl 2 rfl) ?_
        refine lv_iload hx hb d_LW_law_359 (lv_at hl 1 rfl) ?_
        refine lv_iconst (v := nI 2) hx hb d_LW_law_361 (by decide +kernel) ?_
        refine lv_iadd hx hb d_LW_law_362 ?_
        refine ss_rt (y := nI (5 * i + 2)) (nI_add _ _) ?_
        refine va_sld hx hb hsc hbl hbA hS (vp_in_nI (by omega) (by omega)) d_LW_law_363 ?_
        refine ss_rt (y := nI v) (by rw [nI_clamp (by omega)]; exact hx2.symm) ?_
        have hPc : va_P D vwCl (mW qm k cd wd se kd bn sh mb pr B R sx pt rd wt ln px) _ := va_subP (a := []) (b := (mW qm k cd wd se kd bn sh mb pr B R sx pt rd wt ln px)) (c := ouW k ob of ++ ((ssW qs k gd wd se pr ln px cv co B R sx pt rd wt) ++ (plW od k ad bd ed kd nb (ss_up sh (4 * (4 * msl pr a + mpg wd se (msl pr a) a) + (a - 64) / 32) (v % nb (4 * msl pr a + mpg wd se (msl pr a) a))) mb))) hP
        have hDc : va_D A (mW qm k cd wd se kd bn sh mb pr B R sx pt rd wt ln px) := va_subD (a := []) (b := (mW qm k cd wd se kd bn sh mb pr B R sx pt rd wt ln px)) (c := ouW k ob of ++ ((ssW qs k gd wd se pr ln px cv co B R sx pt rd wt) ++ (plW od k ad bd ed kd nb (ss_up sh (4 * (4 * msl pr a + mpg wd se (msl pr a) a) + (a - 64) / 32) (v % nb (4 * msl pr a + mpg wd se (msl pr a) a))) mb))) hD
        refine kw_vV (As := [.int (nI a), .int (nI v)]) (rest := []) ⟨hx, hb, hml, hown, hts⟩ (c_MO_write3 l D k qm cd wd se kd bn sh mb pr B R sx pt rd wt ln px hwd hse hpr hkd hsh hmb a v ha hv9 h1 (nb (4 * msl pr a + mpg wd se (msl pr a) a)) hn1 hn2 k3 hb3 h2) (cwV 2 hts (gV w_621 w_622 w_623 w_5 w_624) rfl rfl rfl (by decide +kernel) ⟨Nat.le_of_ble_eq_true rfl, Nat.le_of_ble_eq_true rfl⟩) hK hPc hDc hS hA (va_recv hK hPc (ci := 7) (q0 := 0) rfl rfl) rfl hl.1 rfl (Nat.le_of_ble_eq_true rfl) d_LW_law_364 ⟨by show 21 + 3 * i + 3 ≤ 601024; omega, by show 9395 + 263 * i + 263 ≤ 7293034; omega⟩ (fun _ H9 locs _ hP1 hk1 hS9 => ?_)
        obtain ⟨hP, hD⟩ := fr_mid (a := []) (b := (mW qm k cd wd se kd bn sh mb pr B R sx pt rd wt ln px)) (c := ouW k ob of ++ ((ssW qs k gd wd se pr ln px cv co B R sx pt rd wt) ++ (plW od k ad bd ed kd nb (ss_up sh (4 * (4 * msl pr a + mpg wd se (msl pr a) a) + (a - 64) / 32) (v % nb (4 * msl pr a + mpg wd se (msl pr a) a))) mb))) (b' := (mW qm k (nI 0) wd se kd bn (ss_up sh (4 * (4 * msl pr a + mpg wd se (msl pr a) a) + a / 32 - 2) (v % nb (4 * msl pr a + mpg wd se (msl pr a) a))) mb pr B R sx pt rd wt ln px)) hP hD hk1 (fun q h => hA q (Nat.le_trans hS.1 h)) hP1 (rw_same hDc.self rfl)
        clear hP1 hk1 hPc hDc
        have hS := hS9
        clear hS9
        generalize H9 = H at hP hS ⊢
        have hP : va_P D vwCl ((mW qm k (nI 0) wd se kd bn (ss_up sh (4 * (4 * msl pr a + mpg wd se (msl pr a) a) + a / 32 - 2) (v % nb (4 * msl pr a + mpg wd se (msl pr a) a))) mb pr B R sx pt rd wt ln px) ++ (ouW k ob of ++ ((ssW qs k gd wd se pr ln px cv co B R sx pt rd wt) ++ (plW od k ad bd ed kd nb (ss_up sh (4 * (4 * msl pr a + mpg wd se (msl pr a) a) + (a - 64) / 32) (v % nb (4 * msl pr a + mpg wd se (msl pr a) a))) mb)))) _ := hP
        have hD : va_D A ((mW qm k (nI 0) wd se kd bn (ss_up sh (4 * (4 * msl pr a + mpg wd se (msl pr a) a) + a / 32 - 2) (v % nb (4 * msl pr a + mpg wd se (msl pr a) a))) mb pr B R sx pt rd wt ln px) ++ (ouW k ob of ++ ((ssW qs k gd wd se pr ln px cv co B R sx pt rd wt) ++ (plW od k ad bd ed kd nb (ss_up sh (4 * (4 * msl pr a + mpg wd se (msl pr a) a) + (a - 64) / 32) (v % nb (4 * msl pr a + mpg wd se (msl pr a) a))) mb)))) := hD
        refine lv_aload_n hx hb d_LW_law_367 rfl (lv_at hl 4 rfl) ?_
        have hPc : va_P D vwCl (mW qm k (nI 0) wd se kd bn (ss_up sh (4 * (4 * msl pr a + mpg wd se (msl pr a) a) + a / 32 - 2) (v % nb (4 * msl pr a + mpg wd se (msl pr a) a))) mb pr B R sx pt rd wt ln px) _ := va_subP (a := []) (b := (mW qm k (nI 0) wd se kd bn (ss_up sh (4 * (4 * msl pr a + mpg wd se (msl pr a) a) + a / 32 - 2) (v % nb (4 * msl pr a + mpg wd se (msl pr a) a))) mb pr B R sx pt rd wt ln px)) (c := ouW k ob of ++ ((ssW qs k gd wd se pr ln px cv co B R sx pt rd wt) ++ (plW od k ad bd ed kd nb (ss_up sh (4 * (4 * msl pr a + mpg wd se (msl pr a) a) + (a - 64) / 32) (v % nb (4 * msl pr a + mpg wd se (msl pr a) a))) mb))) hP
        refine kr_iV (As := []) (rest := []) ⟨hx, hb, hml, hown, hts⟩ (c_MO_thrown l D k qm (nI 0) wd se kd bn (ss_up sh (4 * (4 * msl pr a + mpg wd se (msl pr a) a) + a / 32 - 2) (v % nb (4 * msl pr a + mpg wd se (msl pr a) a))) mb pr B R sx pt rd wt ln px) (cwV 0 hts (gV w_579 w_580 w_581 w_5 w_582) rfl rfl rfl (by decide +kernel) ⟨Nat.le_of_ble_eq_true rfl, Nat.le_of_ble_eq_true rfl⟩) hK hPc (va_recv hK hPc (ci := 7) (q0 := 0) rfl rfl) rfl hl.1 rfl (Nat.le_of_ble_eq_true rfl) d_LW_law_368 ⟨by show 21 + 3 * i + 3 ≤ 601024; omega, by show 9395 + 263 * i + 263 ≤ 7293034; omega⟩ ?_
        refine lv_iload hx hb d_LW_law_371 (lv_at hl 0 rfl) ?_
        refine lv_icmp_eq (tgt := 378) hx hb d_LW_law_373 (by decide) (fun c4 => ?_) (fun c4 => ?_)
        · have c4 := (nI_eq (by omega) (by omega)).mp c4
          refine lv_goto (tgt := 661) hx hb d_LW_law_378 (by decide) ?_
          refine lv_iinc (v := nI (5 * (i + 1))) (lv' := [(4, .int (nI (5 * (i + 1)))), (5, .int (nI 0)), (0, .ref b), (1, .ref (qs 0)), (2, .ref (qm 0)), (3, .ref ob)]) hx hb d_LW_law_661 hl (k := 1) rfl ((nI_add (5 * i) 5).trans (by rw [Nat.mul_succ])) (by decide) rfl (fun ls hl => ?_)
          refine lv_goto (tgt := 23) hx hb d_LW_law_664 (by decide) ?_
          refine W.widen (k := 21 + 3 * (i + 1)) (n := 9395 + 263 * (i + 1)) (by show 21 + 3 * i + 3 ≤ _; omega) (by show 9395 + 263 * i + 263 ≤ _; omega) ?_
          rw [show 4 * (4 * msl pr a + mpg wd se (msl pr a) a) + a / 32 - 2 = 4 * (4 * msl pr a + mpg wd se (msl pr a) a) + (a - 64) / 32 by omega] at hP hD
          have hP : va_P D vwCl ((mW qm k (nI 0) wd se kd bn (ss_up sh (4 * (4 * msl pr a + mpg wd se (msl pr a) a) + (a - 64) / 32) (v % nb (4 * msl pr a + mpg wd se (msl pr a) a))) mb pr B R sx pt rd wt ln px) ++ (ouW k ob of ++ ((ssW qs k gd wd se pr ln px cv co B R sx pt rd wt) ++ (plW od k ad bd ed kd nb (ss_up sh (4 * (4 * msl pr a + mpg wd se (msl pr a) a) + (a - 64) / 32) (v % nb (4 * msl pr a + mpg wd se (msl pr a) a))) mb)))) _ := hP
          have hD : va_D A ((mW qm k (nI 0) wd se kd bn (ss_up sh (4 * (4 * msl pr a + mpg wd se (msl pr a) a) + (a - 64) / 32) (v % nb (4 * msl pr a + mpg wd se (msl pr a) a))) mb pr B R sx pt rd wt ln px) ++ (ouW k ob of ++ ((ssW qs k gd wd se pr ln px cv co B R sx pt rd wt) ++ (plW od k ad bd ed kd nb (ss_up sh (4 * (4 * msl pr a + mpg wd se (msl pr a) a) + (a - 64) / 32) (v % nb (4 * msl pr a + mpg wd se (msl pr a) a))) mb)))) := hD
          exact ih (nI 0) gd wd se pr ln px cv co B R sx pt rd wt od ad bd ed kd nb (ss_up sh (4 * (4 * msl pr a + mpg wd se (msl pr a) a) + (a - 64) / 32) (v % nb (4 * msl pr a + mpg wd se (msl pr a) a))) mb bn of _ _ _ ⟨hwd, hse, hpr, hln, hB, hR, hsx, hpt, hwt, plO_sh hO (by omega) k3 (by omega), hkd, ss_up_lt hsh (Nat.lt_of_lt_of_le (Nat.mod_lt _ (by omega)) hn2), hmb, hbn, hz⟩ hP hD hS (lv_sub hl [0, 2, 3, 4, 5] rfl)
        · have c4 := mt (nI_eq (by omega) (by omega)).mpr c4
          exfalso; omega
      · skip
        refine lv_aload_n hx hb d_LW_law_333 rfl (lv_at hl 2 rfl) ?_
        refine lv_aload_n hx hb d_LW_law_334 rfl (lv_at hl 1 rfl) ?_
        refine lv_iload hx hb d_LW_law_335 (lv_at hl 0 rfl) ?_
        refine lv_iconst (v := nI 1) hx hb d_LW_law_337 (by decide +kernel) ?_
        refine lv_iadd hx hb d_LW_law_338 ?_
        refine ss_rt (y := nI (5 * i + 1)) (nI_add _ _) ?_
        refine va_sld hx hb hsc hbl hbA hS (vp_in_nI (by omega) (by omega)) d_LW_law_339 ?_
        refine ss_rt (y := nI a) (by rw [nI_clamp (by omega)]; exact hx1.symm) ?_
        refine lv_aload_n hx hb d_LW_law_340 rfl (lv_at hl 1 rfl) ?_
        refine lv_iload hx hb d_LW_law_341 (lv_at hl 0 rfl) ?_
        refine lv_iconst (v := nI 2) hx hb d_LW_law_343 (by decide +kernel) ?_
        refine lv_iadd hx hb d_LW_law_344 ?_
        refine ss_rt (y := nI (5 * i + 2)) (nI_add _ _) ?_
        refine va_sld hx hb hsc hbl hbA hS (vp_in_nI (by omega) (by omega)) d_LW_law_345 ?_
        refine ss_rt (y := nI v) (by rw [nI_clamp (by omega)]; exact hx2.symm) ?_
        have hPc : va_P D vwCl ((ssW qs k gd wd se pr ln px cv co B R sx pt rd wt) ++ (plW od k ad bd ed kd nb sh mb)) _ := va_tlP (a := ((mW qm k cd wd se kd bn sh mb pr B R sx pt rd wt ln px) ++ ouW k ob of)) (b := ((ssW qs k gd wd se pr ln px cv co B R sx pt rd wt) ++ (plW od k ad bd ed kd nb sh mb))) hP
        have hDc : va_D A ((ssW qs k gd wd se pr ln px cv co B R sx pt rd wt) ++ (plW od k ad bd ed kd nb sh mb)) := va_tlD (a := ((mW qm k cd wd se kd bn sh mb pr B R sx pt rd wt ln px) ++ ouW k ob of)) (b := ((ssW qs k gd wd se pr ln px cv co B R sx pt rd wt) ++ (plW od k ad bd ed kd nb sh mb))) hD
        refine kh_i (n := 3) (As := [.ref (qs 0), .int (nI a), .int (nI v)]) (rest := []) ⟨hx, hb, hml, hown, hts⟩ (h_writeo l hl9 D k qs gd wd se pr ln px cv co B R sx pt rd wt od ad bd ed kd nb sh mb hwd hse hpr hO hkd hmb a v ha hv9 h1 (Or.inr (Or.inr ⟨k3, h2⟩))) (Nat.le_of_ble_eq_true rfl) (Nat.le_of_ble_eq_true rfl) w_492 w_491 w_0 w_490 (by decide +kernel) hK hX hT hU hPc hDc hS hA rfl hl.1 rfl (Nat.le_of_ble_eq_true rfl) d_LW_law_346 ⟨by show 21 + 3 * i + 3 ≤ 601024; omega, by show 9395 + 263 * i + 263 ≤ 7293034; omega⟩ (fun r9 u9 H9 locs hr9 hP1 hD1 hk1 hS9 => ?_)
        subst hr9
        obtain ⟨hP, hD⟩ := fr_tl (a := ((mW qm k cd wd se kd bn sh mb pr B R sx pt rd wt ln px) ++ ouW k ob of)) (b := ((ssW qs k gd wd se pr ln px cv co B R sx pt rd wt) ++ (plW od k ad bd ed kd nb sh mb))) (b' := ((ssW qs k gd wd se pr ln px cv co B R sx pt rd wt) ++ (plW od k ad bd ed kd nb sh mb))) hP hD hk1 (fun q h => hA q (Nat.le_trans hS.1 h)) hP1 hD1
        clear hP1 hD1 hk1 hPc hDc
        have hS := hS9
        clear hS9
        generalize H9 = H at hP hS ⊢
        have hP : va_P D vwCl ((mW qm k cd wd se kd bn sh mb pr B R sx pt rd wt ln px) ++ (ouW k ob of ++ ((ssW qs k gd wd se pr ln px cv co B R sx pt rd wt) ++ (plW od k ad bd ed kd nb sh mb)))) _ := hP
        have hD : va_D A ((mW qm k cd wd se kd bn sh mb pr B R sx pt rd wt ln px) ++ (ouW k ob of ++ ((ssW qs k gd wd se pr ln px cv co B R sx pt rd wt) ++ (plW od k ad bd ed kd nb sh mb)))) := hD
        refine lv_istore (lv' := [(5, .int (nI 0)), (4, .int (nI (5 * i))), (0, .ref b), (1, .ref (qs 0)), (2, .ref (qm 0)), (3, .ref ob)]) hx hb d_LW_law_349 hl (by decide) rfl (fun ls hl => ?_)
        refine lv_aload_n hx hb d_LW_law_351 rfl (lv_at hl 4 rfl) ?_
        refine lv_aload_n hx hb d_LW_law_352 rfl (lv_at hl 2 rfl) ?_
        refine lv_iload hx hb d_LW_law_353 (lv_at hl 1 rfl) ?_
        refine lv_iconst (v := nI 1) hx hb d_LW_law_355 (by decide +kernel) ?_
        refine lv_iadd hx hb d_LW_law_356 ?_
        refine ss_rt (y := nI (5 * i + 1)) (nI_add _ _) ?_
        refine va_sld hx hb hsc hbl hbA hS (vp_in_nI (by omega) (by omega)) d_LW_law_357 ?_
        refine ss_rt (y := nI a) (by rw [nI_clamp (by omega)]; exact hx1.symm) ?_
        refine lv_aload_n hx hb d_LW_law_358 rfl (lv_at hl 2 rfl) ?_
        refine lv_iload hx hb d_LW_law_359 (lv_at hl 1 rfl) ?_
        refine lv_iconst (v := nI 2) hx hb d_LW_law_361 (by decide +kernel) ?_
        refine lv_iadd hx hb d_LW_law_362 ?_
        refine ss_rt (y := nI (5 * i + 2)) (nI_add _ _) ?_
        refine va_sld hx hb hsc hbl hbA hS (vp_in_nI (by omega) (by omega)) d_LW_law_363 ?_
        refine ss_rt (y := nI v) (by rw [nI_clamp (by omega)]; exact hx2.symm) ?_
        have hPc : va_P D vwCl (mW qm k cd wd se kd bn sh mb pr B R sx pt rd wt ln px) _ := va_subP (a := []) (b := (mW qm k cd wd se kd bn sh mb pr B R sx pt rd wt ln px)) (c := ouW k ob of ++ ((ssW qs k gd wd se pr ln px cv co B R sx pt rd wt) ++ (plW od k ad bd ed kd nb sh mb))) hP
        have hDc : va_D A (mW qm k cd wd se kd bn sh mb pr B R sx pt rd wt ln px) := va_subD (a := []) (b := (mW qm k cd wd se kd bn sh mb pr B R sx pt rd wt ln px)) (c := ouW k ob of ++ ((ssW qs k gd wd se pr ln px cv co B R sx pt rd wt) ++ (plW od k ad bd ed kd nb sh mb))) hD
        refine kw_vV (As := [.int (nI a), .int (nI v)]) (rest := []) ⟨hx, hb, hml, hown, hts⟩ (c_MO_write3o l D k qm cd wd se kd bn sh mb pr B R sx pt rd wt ln px hwd hse hpr hkd hsh hmb a v ha hv9 h1 k3 h2) (cwV 2 hts (gV w_621 w_622 w_623 w_5 w_624) rfl rfl rfl (by decide +kernel) ⟨Nat.le_of_ble_eq_true rfl, Nat.le_of_ble_eq_true rfl⟩) hK hPc hDc hS hA (va_recv hK hPc (ci := 7) (q0 := 0) rfl rfl) rfl hl.1 rfl (Nat.le_of_ble_eq_true rfl) d_LW_law_364 ⟨by show 21 + 3 * i + 3 ≤ 601024; omega, by show 9395 + 263 * i + 263 ≤ 7293034; omega⟩ (fun _ H9 locs _ hP1 hk1 hS9 => ?_)
        obtain ⟨hP, hD⟩ := fr_mid (a := []) (b := (mW qm k cd wd se kd bn sh mb pr B R sx pt rd wt ln px)) (c := ouW k ob of ++ ((ssW qs k gd wd se pr ln px cv co B R sx pt rd wt) ++ (plW od k ad bd ed kd nb sh mb))) (b' := (mW qm k (nI 0) wd se kd bn sh mb pr B R sx pt rd wt ln px)) hP hD hk1 (fun q h => hA q (Nat.le_trans hS.1 h)) hP1 (rw_same hDc.self rfl)
        clear hP1 hk1 hPc hDc
        have hS := hS9
        clear hS9
        generalize H9 = H at hP hS ⊢
        have hP : va_P D vwCl ((mW qm k (nI 0) wd se kd bn sh mb pr B R sx pt rd wt ln px) ++ (ouW k ob of ++ ((ssW qs k gd wd se pr ln px cv co B R sx pt rd wt) ++ (plW od k ad bd ed kd nb sh mb)))) _ := hP
        have hD : va_D A ((mW qm k (nI 0) wd se kd bn sh mb pr B R sx pt rd wt ln px) ++ (ouW k ob of ++ ((ssW qs k gd wd se pr ln px cv co B R sx pt rd wt) ++ (plW od k ad bd ed kd nb sh mb)))) := hD
        refine lv_aload_n hx hb d_LW_law_367 rfl (lv_at hl 4 rfl) ?_
        have hPc : va_P D vwCl (mW qm k (nI 0) wd se kd bn sh mb pr B R sx pt rd wt ln px) _ := va_subP (a := []) (b := (mW qm k (nI 0) wd se kd bn sh mb pr B R sx pt rd wt ln px)) (c := ouW k ob of ++ ((ssW qs k gd wd se pr ln px cv co B R sx pt rd wt) ++ (plW od k ad bd ed kd nb sh mb))) hP
        refine kr_iV (As := []) (rest := []) ⟨hx, hb, hml, hown, hts⟩ (c_MO_thrown l D k qm (nI 0) wd se kd bn sh mb pr B R sx pt rd wt ln px) (cwV 0 hts (gV w_579 w_580 w_581 w_5 w_582) rfl rfl rfl (by decide +kernel) ⟨Nat.le_of_ble_eq_true rfl, Nat.le_of_ble_eq_true rfl⟩) hK hPc (va_recv hK hPc (ci := 7) (q0 := 0) rfl rfl) rfl hl.1 rfl (Nat.le_of_ble_eq_true rfl) d_LW_law_368 ⟨by show 21 + 3 * i + 3 ≤ 601024; omega, by show 9395 + 263 * i + 263 ≤ 7293034; omega⟩ ?_
        refine lv_iload hx hb d_LW_law_371 (lv_at hl 0 rfl) ?_
        refine lv_icmp_eq (tgt := 378) hx hb d_LW_law_373 (by decide) (fun c5 => ?_) (fun c5 => ?_)
        · have c5 := (nI_eq (by omega) (by omega)).mp c5
          refine lv_goto (tgt := 661) hx hb d_LW_law_378 (by decide) ?_
          refine lv_iinc (v := nI (5 * (i + 1))) (lv' := [(4, .int (nI (5 * (i + 1)))), (5, .int (nI 0)), (0, .ref b), (1, .ref (qs 0)), (2, .ref (qm 0)), (3, .ref ob)]) hx hb d_LW_law_661 hl (k := 1) rfl ((nI_add (5 * i) 5).trans (by rw [Nat.mul_succ])) (by decide) rfl (fun ls hl => ?_)
          refine lv_goto (tgt := 23) hx hb d_LW_law_664 (by decide) ?_
          refine W.widen (k := 21 + 3 * (i + 1)) (n := 9395 + 263 * (i + 1)) (by show 21 + 3 * i + 3 ≤ _; omega) (by show 9395 + 263 * i + 263 ≤ _; omega) ?_
          exact ih (nI 0) gd wd se pr ln px cv co B R sx pt rd wt od ad bd ed kd nb sh mb bn of _ _ _ ⟨hwd, hse, hpr, hln, hB, hR, hsx, hpt, hwt, hO, hkd, hsh, hmb, hbn, hz⟩ hP hD hS (lv_sub hl [0, 2, 3, 4, 5] rfl)
        · have c5 := mt (nI_eq (by omega) (by omega)).mpr c5
          exfalso; omega
    have k0 : kd (4 * msl pr a + mpg wd se (msl pr a) a) = 0 ∨ kd (4 * msl pr a + mpg wd se (msl pr a) a) = 2 := by omega
    refine lv_aload_n hx hb d_LW_law_333 rfl (lv_at hl 2 rfl) ?_
    refine lv_aload_n hx hb d_LW_law_334 rfl (lv_at hl 1 rfl) ?_
    refine lv_iload hx hb d_LW_law_335 (lv_at hl 0 rfl) ?_
    refine lv_iconst (v := nI 1) hx hb d_LW_law_337 (by decide +kernel) ?_
    refine lv_iadd hx hb d_LW_law_338 ?_
    refine ss_rt (y := nI (5 * i + 1)) (nI_add _ _) ?_
    refine va_sld hx hb hsc hbl hbA hS (vp_in_nI (by omega) (by omega)) d_LW_law_339 ?_
    refine ss_rt (y := nI a) (by rw [nI_clamp (by omega)]; exact hx1.symm) ?_
    refine lv_aload_n hx hb d_LW_law_340 rfl (lv_at hl 1 rfl) ?_
    refine lv_iload hx hb d_LW_law_341 (lv_at hl 0 rfl) ?_
    refine lv_iconst (v := nI 2) hx hb d_LW_law_343 (by decide +kernel) ?_
    refine lv_iadd hx hb d_LW_law_344 ?_
    refine ss_rt (y := nI (5 * i + 2)) (nI_add _ _) ?_
    refine va_sld hx hb hsc hbl hbA hS (vp_in_nI (by omega) (by omega)) d_LW_law_345 ?_
    refine ss_rt (y := nI v) (by rw [nI_clamp (by omega)]; exact hx2.symm) ?_
    have hPc : va_P D vwCl ((ssW qs k gd wd se pr ln px cv co B R sx pt rd wt) ++ (plW od k ad bd ed kd nb sh mb)) _ := va_tlP (a := ((mW qm k cd wd se kd bn sh mb pr B R sx pt rd wt ln px) ++ ouW k ob of)) (b := ((ssW qs k gd wd se pr ln px cv co B R sx pt rd wt) ++ (plW od k ad bd ed kd nb sh mb))) hP
    have hDc : va_D A ((ssW qs k gd wd se pr ln px cv co B R sx pt rd wt) ++ (plW od k ad bd ed kd nb sh mb)) := va_tlD (a := ((mW qm k cd wd se kd bn sh mb pr B R sx pt rd wt ln px) ++ ouW k ob of)) (b := ((ssW qs k gd wd se pr ln px cv co B R sx pt rd wt) ++ (plW od k ad bd ed kd nb sh mb))) hD
    refine kh_i (n := 3) (As := [.ref (qs 0), .int (nI a), .int (nI v)]) (rest := []) ⟨hx, hb, hml, hown, hts⟩ (h_writeo l hl9 D k qs gd wd se pr ln px cv co B R sx pt rd wt od ad bd ed kd nb sh mb hwd hse hpr hO hkd hmb a v ha hv9 h1 (by omega)) (Nat.le_of_ble_eq_true rfl) (Nat.le_of_ble_eq_true rfl) w_492 w_491 w_0 w_490 (by decide +kernel) hK hX hT hU hPc hDc hS hA rfl hl.1 rfl (Nat.le_of_ble_eq_true rfl) d_LW_law_346 ⟨by show 21 + 3 * i + 3 ≤ 601024; omega, by show 9395 + 263 * i + 263 ≤ 7293034; omega⟩ (fun r9 u9 H9 locs hr9 hP1 hD1 hk1 hS9 => ?_)
    subst hr9
    obtain ⟨hP, hD⟩ := fr_tl (a := ((mW qm k cd wd se kd bn sh mb pr B R sx pt rd wt ln px) ++ ouW k ob of)) (b := ((ssW qs k gd wd se pr ln px cv co B R sx pt rd wt) ++ (plW od k ad bd ed kd nb sh mb))) (b' := ((ssW qs k gd wd se pr ln px cv co B R sx pt rd wt) ++ (plW od k ad bd ed kd nb sh mb))) hP hD hk1 (fun q h => hA q (Nat.le_trans hS.1 h)) hP1 hD1
    clear hP1 hD1 hk1 hPc hDc
    have hS := hS9
    clear hS9
    generalize H9 = H at hP hS ⊢
    have hP : va_P D vwCl ((mW qm k cd wd se kd bn sh mb pr B R sx pt rd wt ln px) ++ (ouW k ob of ++ ((ssW qs k gd wd se pr ln px cv co B R sx pt rd wt) ++ (plW od k ad bd ed kd nb sh mb)))) _ := hP
    have hD : va_D A ((mW qm k cd wd se kd bn sh mb pr B R sx pt rd wt ln px) ++ (ouW k ob of ++ ((ssW qs k gd wd se pr ln px cv co B R sx pt rd wt) ++ (plW od k ad bd ed kd nb sh mb)))) := hD
    refine lv_istore (lv' := [(5, .int (nI 0)), (4, .int (nI (5 * i))), (0, .ref b), (1, .ref (qs 0)), (2, .ref (qm 0)), (3, .ref ob)]) hx hb d_LW_law_349 hl (by decide) rfl (fun ls hl => ?_)
    refine lv_aload_n hx hb d_LW_law_351 rfl (lv_at hl 4 rfl) ?_
    refine lv_aload_n hx hb d_LW_law_352 rfl (lv_at hl 2 rfl) ?_
    refine lv_iload hx hb d_LW_law_353 (lv_at hl 1 rfl) ?_
    refine lv_iconst (v := nI 1) hx hb d_LW_law_355 (by decide +kernel) ?_
    refine lv_iadd hx hb d_LW_law_356 ?_
    refine ss_rt (y := nI (5 * i + 1)) (nI_add _ _) ?_
    refine va_sld hx hb hsc hbl hbA hS (vp_in_nI (by omega) (by omega)) d_LW_law_357 ?_
    refine ss_rt (y := nI a) (by rw [nI_clamp (by omega)]; exact hx1.symm) ?_
    refine lv_aload_n hx hb d_LW_law_358 rfl (lv_at hl 2 rfl) ?_
    refine lv_iload hx hb d_LW_law_359 (lv_at hl 1 rfl) ?_
    refine lv_iconst (v := nI 2) hx hb d_LW_law_361 (by decide +kernel) ?_
    refine lv_iadd hx hb d_LW_law_362 ?_
    refine ss_rt (y := nI (5 * i + 2)) (nI_add _ _) ?_
    refine va_sld hx hb hsc hbl hbA hS (vp_in_nI (by omega) (by omega)) d_LW_law_363 ?_
    refine ss_rt (y := nI v) (by rw [nI_clamp (by omega)]; exact hx2.symm) ?_
    have hPc : va_P D vwCl (mW qm k cd wd se kd bn sh mb pr B R sx pt rd wt ln px) _ := va_subP (a := []) (b := (mW qm k cd wd se kd bn sh mb pr B R sx pt rd wt ln px)) (c := ouW k ob of ++ ((ssW qs k gd wd se pr ln px cv co B R sx pt rd wt) ++ (plW od k ad bd ed kd nb sh mb))) hP
    have hDc : va_D A (mW qm k cd wd se kd bn sh mb pr B R sx pt rd wt ln px) := va_subD (a := []) (b := (mW qm k cd wd se kd bn sh mb pr B R sx pt rd wt ln px)) (c := ouW k ob of ++ ((ssW qs k gd wd se pr ln px cv co B R sx pt rd wt) ++ (plW od k ad bd ed kd nb sh mb))) hD
    refine kw_vV (As := [.int (nI a), .int (nI v)]) (rest := []) ⟨hx, hb, hml, hown, hts⟩ (c_MO_writeo l D k qm cd wd se kd bn sh mb pr B R sx pt rd wt ln px hwd hse hpr hkd hsh hmb a v ha hv9 h1 k0) (cwV 2 hts (gV w_621 w_622 w_623 w_5 w_624) rfl rfl rfl (by decide +kernel) ⟨Nat.le_of_ble_eq_true rfl, Nat.le_of_ble_eq_true rfl⟩) hK hPc hDc hS hA (va_recv hK hPc (ci := 7) (q0 := 0) rfl rfl) rfl hl.1 rfl (Nat.le_of_ble_eq_true rfl) d_LW_law_364 ⟨by show 21 + 3 * i + 3 ≤ 601024; omega, by show 9395 + 263 * i + 263 ≤ 7293034; omega⟩ (fun _ H9 locs _ hP1 hk1 hS9 => ?_)
    obtain ⟨hP, hD⟩ := fr_mid (a := []) (b := (mW qm k cd wd se kd bn sh mb pr B R sx pt rd wt ln px)) (c := ouW k ob of ++ ((ssW qs k gd wd se pr ln px cv co B R sx pt rd wt) ++ (plW od k ad bd ed kd nb sh mb))) (b' := (mW qm k (nI 0) wd se kd bn sh mb pr B R sx pt rd wt ln px)) hP hD hk1 (fun q h => hA q (Nat.le_trans hS.1 h)) hP1 (rw_same hDc.self rfl)
    clear hP1 hk1 hPc hDc
    have hS := hS9
    clear hS9
    generalize H9 = H at hP hS ⊢
    have hP : va_P D vwCl ((mW qm k (nI 0) wd se kd bn sh mb pr B R sx pt rd wt ln px) ++ (ouW k ob of ++ ((ssW qs k gd wd se pr ln px cv co B R sx pt rd wt) ++ (plW od k ad bd ed kd nb sh mb)))) _ := hP
    have hD : va_D A ((mW qm k (nI 0) wd se kd bn sh mb pr B R sx pt rd wt ln px) ++ (ouW k ob of ++ ((ssW qs k gd wd se pr ln px cv co B R sx pt rd wt) ++ (plW od k ad bd ed kd nb sh mb)))) := hD
    refine lv_aload_n hx hb d_LW_law_367 rfl (lv_at hl 4 rfl) ?_
    have hPc : va_P D vwCl (mW qm k (nI 0) wd se kd bn sh mb pr B R sx pt rd wt ln px) _ := va_subP (a := []) (b := (mW qm k (nI 0) wd se kd bn sh mb pr B R sx pt rd wt ln px)) (c := ouW k ob of ++ ((ssW qs k gd wd se pr ln px cv co B R sx pt rd wt) ++ (plW od k ad bd ed kd nb sh mb))) hP
    refine kr_iV (As := []) (rest := []) ⟨hx, hb, hml, hown, hts⟩ (c_MO_thrown l D k qm (nI 0) wd se kd bn sh mb pr B R sx pt rd wt ln px) (cwV 0 hts (gV w_579 w_580 w_581 w_5 w_582) rfl rfl rfl (by decide +kernel) ⟨Nat.le_of_ble_eq_true rfl, Nat.le_of_ble_eq_true rfl⟩) hK hPc (va_recv hK hPc (ci := 7) (q0 := 0) rfl rfl) rfl hl.1 rfl (Nat.le_of_ble_eq_true rfl) d_LW_law_368 ⟨by show 21 + 3 * i + 3 ≤ 601024; omega, by show 9395 + 263 * i + 263 ≤ 7293034; omega⟩ ?_
    refine lv_iload hx hb d_LW_law_371 (lv_at hl 0 rfl) ?_
    refine lv_icmp_eq (tgt := 378) hx hb d_LW_law_373 (by decide) (fun c6 => ?_) (fun c6 => ?_)
    · have c6 := (nI_eq (by omega) (by omega)).mp c6
      refine lv_goto (tgt := 661) hx hb d_LW_law_378 (by decide) ?_
      refine lv_iinc (v := nI (5 * (i + 1))) (lv' := [(4, .int (nI (5 * (i + 1)))), (5, .int (nI 0)), (0, .ref b), (1, .ref (qs 0)), (2, .ref (qm 0)), (3, .ref ob)]) hx hb d_LW_law_661 hl (k := 1) rfl ((nI_add (5 * i) 5).trans (by rw [Nat.mul_succ])) (by decide) rfl (fun ls hl => ?_)
      refine lv_goto (tgt := 23) hx hb d_LW_law_664 (by decide) ?_
      refine W.widen (k := 21 + 3 * (i + 1)) (n := 9395 + 263 * (i + 1)) (by show 21 + 3 * i + 3 ≤ _; omega) (by show 9395 + 263 * i + 263 ≤ _; omega) ?_
      exact ih (nI 0) gd wd se pr ln px cv co B R sx pt rd wt od ad bd ed kd nb sh mb bn of _ _ _ ⟨hwd, hse, hpr, hln, hB, hR, hsx, hpt, hwt, hO, hkd, hsh, hmb, hbn, hz⟩ hP hD hS (lv_sub hl [0, 2, 3, 4, 5] rfl)
    · have c6 := mt (nI_eq (by omega) (by omega)).mpr c6
      exfalso; omega
  · skip
    refine lv_aload_n hx hb d_LW_law_333 rfl (lv_at hl 2 rfl) ?_
    refine lv_aload_n hx hb d_LW_law_334 rfl (lv_at hl 1 rfl) ?_
    refine lv_iload hx hb d_LW_law_335 (lv_at hl 0 rfl) ?_
    refine lv_iconst (v := nI 1) hx hb d_LW_law_337 (by decide +kernel) ?_
    refine lv_iadd hx hb d_LW_law_338 ?_
    refine ss_rt (y := nI (5 * i + 1)) (nI_add _ _) ?_
    refine va_sld hx hb hsc hbl hbA hS (vp_in_nI (by omega) (by omega)) d_LW_law_339 ?_
    refine ss_rt (y := x1) (by rw [nI_clamp (by omega)]; exact hx1.symm) ?_
    refine lv_aload_n hx hb d_LW_law_340 rfl (lv_at hl 1 rfl) ?_
    refine lv_iload hx hb d_LW_law_341 (lv_at hl 0 rfl) ?_
    refine lv_iconst (v := nI 2) hx hb d_LW_law_343 (by decide +kernel) ?_
    refine lv_iadd hx hb d_LW_law_344 ?_
    refine ss_rt (y := nI (5 * i + 2)) (nI_add _ _) ?_
    refine va_sld hx hb hsc hbl hbA hS (vp_in_nI (by omega) (by omega)) d_LW_law_345 ?_
    refine ss_rt (y := x2) (by rw [nI_clamp (by omega)]; exact hx2.symm) ?_
    have hPc : va_P D vwCl ((ssW qs k gd wd se pr ln px cv co B R sx pt rd wt) ++ (plW od k ad bd ed kd nb sh mb)) _ := va_tlP (a := ((mW qm k cd wd se kd bn sh mb pr B R sx pt rd wt ln px) ++ ouW k ob of)) (b := ((ssW qs k gd wd se pr ln px cv co B R sx pt rd wt) ++ (plW od k ad bd ed kd nb sh mb))) hP
    have hDc : va_D A ((ssW qs k gd wd se pr ln px cv co B R sx pt rd wt) ++ (plW od k ad bd ed kd nb sh mb)) := va_tlD (a := ((mW qm k cd wd se kd bn sh mb pr B R sx pt rd wt ln px) ++ ouW k ob of)) (b := ((ssW qs k gd wd se pr ln px cv co B R sx pt rd wt) ++ (plW od k ad bd ed kd nb sh mb))) hD
    refine kh_i (n := 3) (As := [.ref (qs 0), .int x1, .int x2]) (rest := []) ⟨hx, hb, hml, hown, hts⟩ (h_writeb l hl9 D k qs gd wd se pr ln px cv co B R sx pt rd wt od ad bd ed kd nb sh mb x1 x2 hv) (Nat.le_of_ble_eq_true rfl) (Nat.le_of_ble_eq_true rfl) w_492 w_491 w_0 w_490 (by decide +kernel) hK hX hT hU hPc hDc hS hA rfl hl.1 rfl (Nat.le_of_ble_eq_true rfl) d_LW_law_346 ⟨by show 21 + 3 * i + 3 ≤ 601024; omega, by show 9395 + 263 * i + 263 ≤ 7293034; omega⟩ (fun r9 u9 H9 locs hr9 hP1 hD1 hk1 hS9 => ?_)
    subst hr9
    obtain ⟨hP, hD⟩ := fr_tl (a := ((mW qm k cd wd se kd bn sh mb pr B R sx pt rd wt ln px) ++ ouW k ob of)) (b := ((ssW qs k gd wd se pr ln px cv co B R sx pt rd wt) ++ (plW od k ad bd ed kd nb sh mb))) (b' := ((ssW qs k gd wd se pr ln px cv co B R sx pt rd wt) ++ (plW od k ad bd ed kd nb sh mb))) hP hD hk1 (fun q h => hA q (Nat.le_trans hS.1 h)) hP1 hD1
    clear hP1 hD1 hk1 hPc hDc
    have hS := hS9
    clear hS9
    generalize H9 = H at hP hS ⊢
    have hP : va_P D vwCl ((mW qm k cd wd se kd bn sh mb pr B R sx pt rd wt ln px) ++ (ouW k ob of ++ ((ssW qs k gd wd se pr ln px cv co B R sx pt rd wt) ++ (plW od k ad bd ed kd nb sh mb)))) _ := hP
    have hD : va_D A ((mW qm k cd wd se kd bn sh mb pr B R sx pt rd wt ln px) ++ (ouW k ob of ++ ((ssW qs k gd wd se pr ln px cv co B R sx pt rd wt) ++ (plW od k ad bd ed kd nb sh mb)))) := hD
    refine lv_istore (lv' := [(5, .int (nI 1)), (4, .int (nI (5 * i))), (0, .ref b), (1, .ref (qs 0)), (2, .ref (qm 0)), (3, .ref ob)]) hx hb d_LW_law_349 hl (by decide) rfl (fun ls hl => ?_)
    refine lv_aload_n hx hb d_LW_law_351 rfl (lv_at hl 4 rfl) ?_
    refine lv_aload_n hx hb d_LW_law_352 rfl (lv_at hl 2 rfl) ?_
    refine lv_iload hx hb d_LW_law_353 (lv_at hl 1 rfl) ?_
    refine lv_iconst (v := nI 1) hx hb d_LW_law_355 (by decide +kernel) ?_
    refine lv_iadd hx hb d_LW_law_356 ?_
    refine ss_rt (y := nI (5 * i + 1)) (nI_add _ _) ?_
    refine va_sld hx hb hsc hbl hbA hS (vp_in_nI (by omega) (by omega)) d_LW_law_357 ?_
    refine ss_rt (y := x1) (by rw [nI_clamp (by omega)]; exact hx1.symm) ?_
    refine lv_aload_n hx hb d_LW_law_358 rfl (lv_at hl 2 rfl) ?_
    refine lv_iload hx hb d_LW_law_359 (lv_at hl 1 rfl) ?_
    refine lv_iconst (v := nI 2) hx hb d_LW_law_361 (by decide +kernel) ?_
    refine lv_iadd hx hb d_LW_law_362 ?_
    refine ss_rt (y := nI (5 * i + 2)) (nI_add _ _) ?_
    refine va_sld hx hb hsc hbl hbA hS (vp_in_nI (by omega) (by omega)) d_LW_law_363 ?_
    refine ss_rt (y := x2) (by rw [nI_clamp (by omega)]; exact hx2.symm) ?_
    have hPc : va_P D vwCl (mW qm k cd wd se kd bn sh mb pr B R sx pt rd wt ln px) _ := va_subP (a := []) (b := (mW qm k cd wd se kd bn sh mb pr B R sx pt rd wt ln px)) (c := ouW k ob of ++ ((ssW qs k gd wd se pr ln px cv co B R sx pt rd wt) ++ (plW od k ad bd ed kd nb sh mb))) hP
    have hDc : va_D A (mW qm k cd wd se kd bn sh mb pr B R sx pt rd wt ln px) := va_subD (a := []) (b := (mW qm k cd wd se kd bn sh mb pr B R sx pt rd wt ln px)) (c := ouW k ob of ++ ((ssW qs k gd wd se pr ln px cv co B R sx pt rd wt) ++ (plW od k ad bd ed kd nb sh mb))) hD
    refine kw_vV (As := [.int x1, .int x2]) (rest := []) ⟨hx, hb, hml, hown, hts⟩ (c_MO_writeb l D k qm cd wd se kd bn sh mb pr B R sx pt rd wt ln px x1 x2 hv) (cwV 2 hts (gV w_621 w_622 w_623 w_5 w_624) rfl rfl rfl (by decide +kernel) ⟨Nat.le_of_ble_eq_true rfl, Nat.le_of_ble_eq_true rfl⟩) hK hPc hDc hS hA (va_recv hK hPc (ci := 7) (q0 := 0) rfl rfl) rfl hl.1 rfl (Nat.le_of_ble_eq_true rfl) d_LW_law_364 ⟨by show 21 + 3 * i + 3 ≤ 601024; omega, by show 9395 + 263 * i + 263 ≤ 7293034; omega⟩ (fun _ H9 locs _ hP1 hk1 hS9 => ?_)
    obtain ⟨hP, hD⟩ := fr_mid (a := []) (b := (mW qm k cd wd se kd bn sh mb pr B R sx pt rd wt ln px)) (c := ouW k ob of ++ ((ssW qs k gd wd se pr ln px cv co B R sx pt rd wt) ++ (plW od k ad bd ed kd nb sh mb))) (b' := (mW qm k (nI 1) wd se kd bn sh mb pr B R sx pt rd wt ln px)) hP hD hk1 (fun q h => hA q (Nat.le_trans hS.1 h)) hP1 (rw_same hDc.self rfl)
    clear hP1 hk1 hPc hDc
    have hS := hS9
    clear hS9
    generalize H9 = H at hP hS ⊢
    have hP : va_P D vwCl ((mW qm k (nI 1) wd se kd bn sh mb pr B R sx pt rd wt ln px) ++ (ouW k ob of ++ ((ssW qs k gd wd se pr ln px cv co B R sx pt rd wt) ++ (plW od k ad bd ed kd nb sh mb)))) _ := hP
    have hD : va_D A ((mW qm k (nI 1) wd se kd bn sh mb pr B R sx pt rd wt ln px) ++ (ouW k ob of ++ ((ssW qs k gd wd se pr ln px cv co B R sx pt rd wt) ++ (plW od k ad bd ed kd nb sh mb)))) := hD
    refine lv_aload_n hx hb d_LW_law_367 rfl (lv_at hl 4 rfl) ?_
    have hPc : va_P D vwCl (mW qm k (nI 1) wd se kd bn sh mb pr B R sx pt rd wt ln px) _ := va_subP (a := []) (b := (mW qm k (nI 1) wd se kd bn sh mb pr B R sx pt rd wt ln px)) (c := ouW k ob of ++ ((ssW qs k gd wd se pr ln px cv co B R sx pt rd wt) ++ (plW od k ad bd ed kd nb sh mb))) hP
    refine kr_iV (As := []) (rest := []) ⟨hx, hb, hml, hown, hts⟩ (c_MO_thrown l D k qm (nI 1) wd se kd bn sh mb pr B R sx pt rd wt ln px) (cwV 0 hts (gV w_579 w_580 w_581 w_5 w_582) rfl rfl rfl (by decide +kernel) ⟨Nat.le_of_ble_eq_true rfl, Nat.le_of_ble_eq_true rfl⟩) hK hPc (va_recv hK hPc (ci := 7) (q0 := 0) rfl rfl) rfl hl.1 rfl (Nat.le_of_ble_eq_true rfl) d_LW_law_368 ⟨by show 21 + 3 * i + 3 ≤ 601024; omega, by show 9395 + 263 * i + 263 ≤ 7293034; omega⟩ ?_
    refine lv_iload hx hb d_LW_law_371 (lv_at hl 0 rfl) ?_
    refine lv_icmp_eq (tgt := 378) hx hb d_LW_law_373 (by decide) (fun c7 => ?_) (fun c7 => ?_)
    · have c7 := (nI_eq (by omega) (by omega)).mp c7
      refine lv_goto (tgt := 661) hx hb d_LW_law_378 (by decide) ?_
      refine lv_iinc (v := nI (5 * (i + 1))) (lv' := [(4, .int (nI (5 * (i + 1)))), (5, .int (nI 1)), (0, .ref b), (1, .ref (qs 0)), (2, .ref (qm 0)), (3, .ref ob)]) hx hb d_LW_law_661 hl (k := 1) rfl ((nI_add (5 * i) 5).trans (by rw [Nat.mul_succ])) (by decide) rfl (fun ls hl => ?_)
      refine lv_goto (tgt := 23) hx hb d_LW_law_664 (by decide) ?_
      refine W.widen (k := 21 + 3 * (i + 1)) (n := 9395 + 263 * (i + 1)) (by show 21 + 3 * i + 3 ≤ _; omega) (by show 9395 + 263 * i + 263 ≤ _; omega) ?_
      exact ih (nI 1) gd wd se pr ln px cv co B R sx pt rd wt od ad bd ed kd nb sh mb bn of _ _ _ ⟨hwd, hse, hpr, hln, hB, hR, hsx, hpt, hwt, hO, hkd, hsh, hmb, hbn, hz⟩ hP hD hS (lv_sub hl [0, 2, 3, 4, 5] rfl)
    · have c7 := mt (nI_eq (by omega) (by omega)).mpr c7
      exfalso; omega
set_option maxHeartbeats 4000000 in
set_option maxRecDepth 100000 in
theorem L_read {p : Program} {l : Launch} {e : Env} {s : State} {m : MethodId} {below : List Frame} {meth : Method} {c : Code} {b L : Nat} {xs : Nat → Int32} {D : va_G} {k : Nat → ClassId} {A : Nat → Prop} {Q : State → Prop} {qm qs : Nat → Nat} {ob : Nat} (C : LC p l s m meth c b L xs D k A) (i : Nat) (hi : 5 * i + 5 ≤ L) (ih : LG p l e s m below meth c b D k A Q qm qs ob (i + 1)) (cd : Int32) (gd : Nat → Option Nat) (wd : Nat → Nat) (se : Nat → Nat) (pr : Nat) (ln : Nat) (px : Nat → Nat) (cv : Nat) (co : Nat) (B : Nat → Nat) (R : Nat → Nat) (sx : Nat) (pt : Nat) (rd : Nat) (wt : Int32) (od : List Nat) (ad : Nat → Nat) (bd : Nat → Nat) (ed : Nat → Nat) (kd : Nat → Nat) (nb : Nat → Nat) (sh : Nat → Nat) (mb : Nat → Nat) (bn : Nat → Int32) (of : Nat → Int64) (H : Heap) (locs : List Loc) (ls : Array Slot) (hF : LF gd wd se pr ln B R sx pt wt od ad kd nb sh mb bn) (hP : va_P D vwCl ((mW qm k cd wd se kd bn sh mb pr B R sx pt rd wt ln px) ++ (ouW k ob of ++ ((ssW qs k gd wd se pr ln px cv co B R sx pt rd wt) ++ (plW od k ad bd ed kd nb sh mb)))) H) (hD : va_D A ((mW qm k cd wd se kd bn sh mb pr B R sx pt rd wt ln px) ++ (ouW k ob of ++ ((ssW qs k gd wd se pr ln px cv co B R sx pt rd wt) ++ (plW od k ad bd ed kd nb sh mb))))) (hS : va_S A s.heap H locs) (hl : lv_has ls 7 [(4, .int (nI (5 * i))), (0, .ref b), (1, .ref (qs 0)), (2, .ref (qm 0)), (3, .ref ob)]) : W p l e room_1 s m #[Value.ref b] below meth c H locs (21 + 3 * i) (9395 + 263 * i) Q (F0 m 277 ls []) := by
  obtain ⟨hx, hb, hr, hlocks, hml, hown, hts, hX, hT, hU, hK, hA, hsc, hbl, hbA, hl9, hL⟩ := C
  obtain ⟨hwd, hse, hpr, hln, hB, hR, hsx, hpt, hwt, hO, hkd, hsh, hmb, hbn, hz⟩ := hF
  obtain ⟨x1, hx1⟩ : ∃ z, z = xs (5 * i + 1) := ⟨_, rfl⟩
  by_cases hv : 0 ≤ x1.toInt ∧ x1.toInt ≤ 255
  · obtain ⟨a, ha, rfl⟩ := n_ix (n := 256) hv.1 (by omega)
    refine lv_aload_n hx hb d_LW_law_277 rfl (lv_at hl 2 rfl) ?_
    refine lv_aload_n hx hb d_LW_law_278 rfl (lv_at hl 1 rfl) ?_
    refine lv_iload hx hb d_LW_law_279 (lv_at hl 0 rfl) ?_
    refine lv_iconst (v := nI 1) hx hb d_LW_law_281 (by decide +kernel) ?_
    refine lv_iadd hx hb d_LW_law_282 ?_
    refine ss_rt (y := nI (5 * i + 1)) (nI_add _ _) ?_
    refine va_sld hx hb hsc hbl hbA hS (vp_in_nI (by omega) (by omega)) d_LW_law_283 ?_
    refine ss_rt (y := nI a) (by rw [nI_clamp (by omega)]; exact hx1.symm) ?_
    refine lv_aload_n hx hb d_LW_law_284 rfl (lv_at hl 4 rfl) ?_
    have hPc : va_P D vwCl (ouW k ob of ++ ((ssW qs k gd wd se pr ln px cv co B R sx pt rd wt) ++ (plW od k ad bd ed kd nb sh mb))) _ := va_tlP (a := (mW qm k cd wd se kd bn sh mb pr B R sx pt rd wt ln px)) (b := (ouW k ob of ++ ((ssW qs k gd wd se pr ln px cv co B R sx pt rd wt) ++ (plW od k ad bd ed kd nb sh mb)))) hP
    have hDc : va_D A (ouW k ob of ++ ((ssW qs k gd wd se pr ln px cv co B R sx pt rd wt) ++ (plW od k ad bd ed kd nb sh mb))) := va_tlD (a := (mW qm k cd wd se kd bn sh mb pr B R sx pt rd wt ln px)) (b := (ouW k ob of ++ ((ssW qs k gd wd se pr ln px cv co B R sx pt rd wt) ++ (plW od k ad bd ed kd nb sh mb)))) hD
    refine kh_i (n := 3) (As := [.ref (qs 0), .int (nI a), .ref ob]) (rest := []) ⟨hx, hb, hml, hown, hts⟩ (h_read l hl9 D k qs gd wd se pr ln px cv co B R sx pt rd wt od ad bd ed kd nb sh mb ob of hwd hse hpr hO hkd hmb a ha) (Nat.le_of_ble_eq_true rfl) (Nat.le_of_ble_eq_true rfl) w_449 w_448 w_0 w_447 (by decide +kernel) hK hX hT hU hPc hDc hS hA rfl hl.1 rfl (Nat.le_of_ble_eq_true rfl) d_LW_law_285 ⟨by show 21 + 3 * i + 3 ≤ 601024; omega, by show 9395 + 263 * i + 263 ≤ 7293034; omega⟩ (fun r9 u9 H9 locs hr9 hP1 hD1 hk1 hS9 => ?_)
    subst hr9
    obtain ⟨hP, hD⟩ := fr_tl (a := (mW qm k cd wd se kd bn sh mb pr B R sx pt rd wt ln px)) (b := (ouW k ob of ++ ((ssW qs k gd wd se pr ln px cv co B R sx pt rd wt) ++ (plW od k ad bd ed kd nb sh mb)))) (b' := (ouW k ob (vp_updL of 0 (nI (if a = 255 ∧ wd (msl pr a) = 1 then 255 - se (msl pr a) else mget kd sh mb (4 * msl pr a + mpg wd se (msl pr a) a) a)).toInt64) ++ ((ssW qs k gd wd se pr ln px cv co B R sx pt rd wt) ++ (plW od k ad bd ed kd nb sh mb)))) hP hD hk1 (fun q h => hA q (Nat.le_trans hS.1 h)) hP1 hD1
    clear hP1 hD1 hk1 hPc hDc
    have hS := hS9
    clear hS9
    generalize H9 = H at hP hS ⊢
    have hP : va_P D vwCl ((mW qm k cd wd se kd bn sh mb pr B R sx pt rd wt ln px) ++ (ouW k ob (vp_updL of 0 (nI (if a = 255 ∧ wd (msl pr a) = 1 then 255 - se (msl pr a) else mget kd sh mb (4 * msl pr a + mpg wd se (msl pr a) a) a)).toInt64) ++ ((ssW qs k gd wd se pr ln px cv co B R sx pt rd wt) ++ (plW od k ad bd ed kd nb sh mb)))) _ := hP
    have hD : va_D A ((mW qm k cd wd se kd bn sh mb pr B R sx pt rd wt ln px) ++ (ouW k ob (vp_updL of 0 (nI (if a = 255 ∧ wd (msl pr a) = 1 then 255 - se (msl pr a) else mget kd sh mb (4 * msl pr a + mpg wd se (msl pr a) a) a)).toInt64) ++ ((ssW qs k gd wd se pr ln px cv co B R sx pt rd wt) ++ (plW od k ad bd ed kd nb sh mb)))) := hD
    refine lv_istore (lv' := [(5, .int (nI 0)), (4, .int (nI (5 * i))), (0, .ref b), (1, .ref (qs 0)), (2, .ref (qm 0)), (3, .ref ob)]) hx hb d_LW_law_288 hl (by decide) rfl (fun ls hl => ?_)
    refine lv_aload_n hx hb d_LW_law_290 rfl (lv_at hl 4 rfl) ?_
    refine lv_aload_n hx hb d_LW_law_291 rfl (lv_at hl 2 rfl) ?_
    refine lv_iload hx hb d_LW_law_292 (lv_at hl 1 rfl) ?_
    refine lv_iconst (v := nI 1) hx hb d_LW_law_294 (by decide +kernel) ?_
    refine lv_iadd hx hb d_LW_law_295 ?_
    refine ss_rt (y := nI (5 * i + 1)) (nI_add _ _) ?_
    refine va_sld hx hb hsc hbl hbA hS (vp_in_nI (by omega) (by omega)) d_LW_law_296 ?_
    refine ss_rt (y := nI a) (by rw [nI_clamp (by omega)]; exact hx1.symm) ?_
    have hPc : va_P D vwCl (mW qm k cd wd se kd bn sh mb pr B R sx pt rd wt ln px) _ := va_subP (a := []) (b := (mW qm k cd wd se kd bn sh mb pr B R sx pt rd wt ln px)) (c := ouW k ob (vp_updL of 0 (nI (if a = 255 ∧ wd (msl pr a) = 1 then 255 - se (msl pr a) else mget kd sh mb (4 * msl pr a + mpg wd se (msl pr a) a) a)).toInt64) ++ ((ssW qs k gd wd se pr ln px cv co B R sx pt rd wt) ++ (plW od k ad bd ed kd nb sh mb))) hP
    have hDc : va_D A (mW qm k cd wd se kd bn sh mb pr B R sx pt rd wt ln px) := va_subD (a := []) (b := (mW qm k cd wd se kd bn sh mb pr B R sx pt rd wt ln px)) (c := ouW k ob (vp_updL of 0 (nI (if a = 255 ∧ wd (msl pr a) = 1 then 255 - se (msl pr a) else mget kd sh mb (4 * msl pr a + mpg wd se (msl pr a) a) a)).toInt64) ++ ((ssW qs k gd wd se pr ln px cv co B R sx pt rd wt) ++ (plW od k ad bd ed kd nb sh mb))) hD
    refine kw_iV (As := [.int (nI a)]) (rest := []) ⟨hx, hb, hml, hown, hts⟩ (c_MO_read l D k qm cd wd se kd bn sh mb pr B R sx pt rd wt ln px hwd hse hpr hkd hsh hmb a ha) (cwV 1 hts (gV w_598 w_599 w_600 w_5 w_601) rfl rfl rfl (by decide +kernel) ⟨Nat.le_of_ble_eq_true rfl, Nat.le_of_ble_eq_true rfl⟩) hK hPc hDc hS hA (va_recv hK hPc (ci := 7) (q0 := 0) rfl rfl) rfl hl.1 rfl (Nat.le_of_ble_eq_true rfl) d_LW_law_297 ⟨by show 21 + 3 * i + 3 ≤ 601024; omega, by show 9395 + 263 * i + 263 ≤ 7293034; omega⟩ (fun _ _ H9 locs h9 hP1 hk1 hS9 => ?_)
    refine ss_rt h9 ?_
    clear h9
    obtain ⟨hP, hD⟩ := fr_mid (a := []) (b := (mW qm k cd wd se kd bn sh mb pr B R sx pt rd wt ln px)) (c := ouW k ob (vp_updL of 0 (nI (if a = 255 ∧ wd (msl pr a) = 1 then 255 - se (msl pr a) else mget kd sh mb (4 * msl pr a + mpg wd se (msl pr a) a) a)).toInt64) ++ ((ssW qs k gd wd se pr ln px cv co B R sx pt rd wt) ++ (plW od k ad bd ed kd nb sh mb))) (b' := (mW qm k (nI 0) wd se kd bn sh mb pr B R sx pt rd wt ln px)) hP hD hk1 (fun q h => hA q (Nat.le_trans hS.1 h)) hP1 (rw_same hDc.self rfl)
    clear hP1 hk1 hPc hDc
    have hS := hS9
    clear hS9
    generalize H9 = H at hP hS ⊢
    have hP : va_P D vwCl ((mW qm k (nI 0) wd se kd bn sh mb pr B R sx pt rd wt ln px) ++ (ouW k ob (vp_updL of 0 (nI (if a = 255 ∧ wd (msl pr a) = 1 then 255 - se (msl pr a) else mget kd sh mb (4 * msl pr a + mpg wd se (msl pr a) a) a)).toInt64) ++ ((ssW qs k gd wd se pr ln px cv co B R sx pt rd wt) ++ (plW od k ad bd ed kd nb sh mb)))) _ := hP
    have hD : va_D A ((mW qm k (nI 0) wd se kd bn sh mb pr B R sx pt rd wt ln px) ++ (ouW k ob (vp_updL of 0 (nI (if a = 255 ∧ wd (msl pr a) = 1 then 255 - se (msl pr a) else mget kd sh mb (4 * msl pr a + mpg wd se (msl pr a) a) a)).toInt64) ++ ((ssW qs k gd wd se pr ln px cv co B R sx pt rd wt) ++ (plW od k ad bd ed kd nb sh mb)))) := hD
    refine lv_istore (lv' := [(6, .int (nI (if a = 255 ∧ wd (msl pr a) = 1 then 255 - se (msl pr a) else mget kd sh mb (4 * msl pr a + mpg wd se (msl pr a) a) a))), (5, .int (nI 0)), (4, .int (nI (5 * i))), (0, .ref b), (1, .ref (qs 0)), (2, .ref (qm 0)), (3, .ref ob)]) hx hb d_LW_law_300 hl (by decide) rfl (fun ls hl => ?_)
    refine lv_aload_n hx hb d_LW_law_302 rfl (lv_at hl 5 rfl) ?_
    have hPc : va_P D vwCl (mW qm k (nI 0) wd se kd bn sh mb pr B R sx pt rd wt ln px) _ := va_subP (a := []) (b := (mW qm k (nI 0) wd se kd bn sh mb pr B R sx pt rd wt ln px)) (c := ouW k ob (vp_updL of 0 (nI (if a = 255 ∧ wd (msl pr a) = 1 then 255 - se (msl pr a) else mget kd sh mb (4 * msl pr a + mpg wd se (msl pr a) a) a)).toInt64) ++ ((ssW qs k gd wd se pr ln px cv co B R sx pt rd wt) ++ (plW od k ad bd ed kd nb sh mb))) hP
    refine kr_iV (As := []) (rest := []) ⟨hx, hb, hml, hown, hts⟩ (c_MO_thrown l D k qm (nI 0) wd se kd bn sh mb pr B R sx pt rd wt ln px) (cwV 0 hts (gV w_579 w_580 w_581 w_5 w_582) rfl rfl rfl (by decide +kernel) ⟨Nat.le_of_ble_eq_true rfl, Nat.le_of_ble_eq_true rfl⟩) hK hPc (va_recv hK hPc (ci := 7) (q0 := 0) rfl rfl) rfl hl.1 rfl (Nat.le_of_ble_eq_true rfl) d_LW_law_303 ⟨by show 21 + 3 * i + 3 ≤ 601024; omega, by show 9395 + 263 * i + 263 ≤ 7293034; omega⟩ ?_
    refine lv_iload hx hb d_LW_law_306 (lv_at hl 1 rfl) ?_
    refine lv_icmp_eq (tgt := 313) hx hb d_LW_law_308 (by decide) (fun c1 => ?_) (fun c1 => ?_)
    · have c1 := (nI_eq (by omega) (by omega)).mp c1
      refine lv_iload hx hb d_LW_law_313 (lv_at hl 1 rfl) ?_
      refine lv_if_ne (tgt := 330) hx hb d_LW_law_315 (by decide) (fun c2 => ?_) (fun c2 => ?_)
      · have c2 := mt (n_eq0 (by omega)).mpr c2
        exfalso; omega
      · have c2 := (n_eq0 (by omega)).mp c2
        refine lv_aload_n hx hb d_LW_law_318 rfl (lv_at hl 6 rfl) ?_
        refine lv_iconst (v := nI 0) hx hb d_LW_law_319 (by decide +kernel) ?_
        refine va_lald hx hb hK hP 10 3 rfl rfl (vp_in_nI (by omega) (by omega)) d_LW_law_320 ?_
        refine ss_rl (y := (nI (if a = 255 ∧ wd (msl pr a) = 1 then 255 - se (msl pr a) else mget kd sh mb (4 * msl pr a + mpg wd se (msl pr a) a) a)).toInt64) (by rw [nI_clamp (by omega)]; simp [vp_updL]) ?_
        refine lv_iload hx hb d_LW_law_321 (lv_at hl 0 rfl) ?_
        refine lv_i2l (v := (nI (if a = 255 ∧ wd (msl pr a) = 1 then 255 - se (msl pr a) else mget kd sh mb (4 * msl pr a + mpg wd se (msl pr a) a) a)).toInt64) hx hb d_LW_law_323 rfl ?_
        refine W.lcmp hx hb d_LW_law_324 ?_
        refine ss_rt (y := 0) (by simp [lg_cmp]) ?_
        refine lv_if_eq (tgt := 330) hx hb d_LW_law_325 (by decide) (fun c9 => ?_) (fun c9 => absurd rfl c9)
        refine lv_goto (tgt := 661) hx hb d_LW_law_330 (by decide) ?_
        refine lv_iinc (v := nI (5 * (i + 1))) (lv' := [(4, .int (nI (5 * (i + 1)))), (6, .int (nI (if a = 255 ∧ wd (msl pr a) = 1 then 255 - se (msl pr a) else mget kd sh mb (4 * msl pr a + mpg wd se (msl pr a) a) a))), (5, .int (nI 0)), (0, .ref b), (1, .ref (qs 0)), (2, .ref (qm 0)), (3, .ref ob)]) hx hb d_LW_law_661 hl (k := 2) rfl ((nI_add (5 * i) 5).trans (by rw [Nat.mul_succ])) (by decide) rfl (fun ls hl => ?_)
        refine lv_goto (tgt := 23) hx hb d_LW_law_664 (by decide) ?_
        refine W.widen (k := 21 + 3 * (i + 1)) (n := 9395 + 263 * (i + 1)) (by show 21 + 3 * i + 3 ≤ _; omega) (by show 9395 + 263 * i + 263 ≤ _; omega) ?_
        exact ih (nI 0) gd wd se pr ln px cv co B R sx pt rd wt od ad bd ed kd nb sh mb bn (vp_updL of 0 (nI (if a = 255 ∧ wd (msl pr a) = 1 then 255 - se (msl pr a) else mget kd sh mb (4 * msl pr a + mpg wd se (msl pr a) a) a)).toInt64) _ _ _ ⟨hwd, hse, hpr, hln, hB, hR, hsx, hpt, hwt, hO, hkd, hsh, hmb, hbn, hz⟩ hP hD hS (lv_sub hl [0, 3, 4, 5, 6] rfl)
    · have c1 := mt (nI_eq (by omega) (by omega)).mpr c1
      exfalso; omega
  · skip
    refine lv_aload_n hx hb d_LW_law_277 rfl (lv_at hl 2 rfl) ?_
    refine lv_aload_n hx hb d_LW_law_278 rfl (lv_at hl 1 rfl) ?_
    refine lv_iload hx hb d_LW_law_279 (lv_at hl 0 rfl) ?_
    refine lv_iconst (v := nI 1) hx hb d_LW_law_281 (by decide +kernel) ?_
    refine lv_iadd hx hb d_LW_law_282 ?_
    refine ss_rt (y := nI (5 * i + 1)) (nI_add _ _) ?_
    refine va_sld hx hb hsc hbl hbA hS (vp_in_nI (by omega) (by omega)) d_LW_law_283 ?_
    refine ss_rt (y := x1) (by rw [nI_clamp (by omega)]; exact hx1.symm) ?_
    refine lv_aload_n hx hb d_LW_law_284 rfl (lv_at hl 4 rfl) ?_
    have hPc : va_P D vwCl (ouW k ob of ++ ((ssW qs k gd wd se pr ln px cv co B R sx pt rd wt) ++ (plW od k ad bd ed kd nb sh mb))) _ := va_tlP (a := (mW qm k cd wd se kd bn sh mb pr B R sx pt rd wt ln px)) (b := (ouW k ob of ++ ((ssW qs k gd wd se pr ln px cv co B R sx pt rd wt) ++ (plW od k ad bd ed kd nb sh mb)))) hP
    have hDc : va_D A (ouW k ob of ++ ((ssW qs k gd wd se pr ln px cv co B R sx pt rd wt) ++ (plW od k ad bd ed kd nb sh mb))) := va_tlD (a := (mW qm k cd wd se kd bn sh mb pr B R sx pt rd wt ln px)) (b := (ouW k ob of ++ ((ssW qs k gd wd se pr ln px cv co B R sx pt rd wt) ++ (plW od k ad bd ed kd nb sh mb)))) hD
    refine kh_i (n := 3) (As := [.ref (qs 0), .int x1, .ref ob]) (rest := []) ⟨hx, hb, hml, hown, hts⟩ (h_readb l hl9 D k qs gd wd se pr ln px cv co B R sx pt rd wt od ad bd ed kd nb sh mb ob of x1 hv) (Nat.le_of_ble_eq_true rfl) (Nat.le_of_ble_eq_true rfl) w_449 w_448 w_0 w_447 (by decide +kernel) hK hX hT hU hPc hDc hS hA rfl hl.1 rfl (Nat.le_of_ble_eq_true rfl) d_LW_law_285 ⟨by show 21 + 3 * i + 3 ≤ 601024; omega, by show 9395 + 263 * i + 263 ≤ 7293034; omega⟩ (fun r9 u9 H9 locs hr9 hP1 hD1 hk1 hS9 => ?_)
    subst hr9
    obtain ⟨hP, hD⟩ := fr_tl (a := (mW qm k cd wd se kd bn sh mb pr B R sx pt rd wt ln px)) (b := (ouW k ob of ++ ((ssW qs k gd wd se pr ln px cv co B R sx pt rd wt) ++ (plW od k ad bd ed kd nb sh mb)))) (b' := (ouW k ob of ++ ((ssW qs k gd wd se pr ln px cv co B R sx pt rd wt) ++ (plW od k ad bd ed kd nb sh mb)))) hP hD hk1 (fun q h => hA q (Nat.le_trans hS.1 h)) hP1 hD1
    clear hP1 hD1 hk1 hPc hDc
    have hS := hS9
    clear hS9
    generalize H9 = H at hP hS ⊢
    have hP : va_P D vwCl ((mW qm k cd wd se kd bn sh mb pr B R sx pt rd wt ln px) ++ (ouW k ob of ++ ((ssW qs k gd wd se pr ln px cv co B R sx pt rd wt) ++ (plW od k ad bd ed kd nb sh mb)))) _ := hP
    have hD : va_D A ((mW qm k cd wd se kd bn sh mb pr B R sx pt rd wt ln px) ++ (ouW k ob of ++ ((ssW qs k gd wd se pr ln px cv co B R sx pt rd wt) ++ (plW od k ad bd ed kd nb sh mb)))) := hD
    refine lv_istore (lv' := [(5, .int (nI 1)), (4, .int (nI (5 * i))), (0, .ref b), (1, .ref (qs 0)), (2, .ref (qm 0)), (3, .ref ob)]) hx hb d_LW_law_288 hl (by decide) rfl (fun ls hl => ?_)
    refine lv_aload_n hx hb d_LW_law_290 rfl (lv_at hl 4 rfl) ?_
    refine lv_aload_n hx hb d_LW_law_291 rfl (lv_at hl 2 rfl) ?_
    refine lv_iload hx hb d_LW_law_292 (lv_at hl 1 rfl) ?_
    refine lv_iconst (v := nI 1) hx hb d_LW_law_294 (by decide +kernel) ?_
    refine lv_iadd hx hb d_LW_law_295 ?_
    refine ss_rt (y := nI (5 * i + 1)) (nI_add _ _) ?_
    refine va_sld hx hb hsc hbl hbA hS (vp_in_nI (by omega) (by omega)) d_LW_law_296 ?_
    refine ss_rt (y := x1) (by rw [nI_clamp (by omega)]; exact hx1.symm) ?_
    have hPc : va_P D vwCl (mW qm k cd wd se kd bn sh mb pr B R sx pt rd wt ln px) _ := va_subP (a := []) (b := (mW qm k cd wd se kd bn sh mb pr B R sx pt rd wt ln px)) (c := ouW k ob of ++ ((ssW qs k gd wd se pr ln px cv co B R sx pt rd wt) ++ (plW od k ad bd ed kd nb sh mb))) hP
    have hDc : va_D A (mW qm k cd wd se kd bn sh mb pr B R sx pt rd wt ln px) := va_subD (a := []) (b := (mW qm k cd wd se kd bn sh mb pr B R sx pt rd wt ln px)) (c := ouW k ob of ++ ((ssW qs k gd wd se pr ln px cv co B R sx pt rd wt) ++ (plW od k ad bd ed kd nb sh mb))) hD
    refine kw_iV (As := [.int x1]) (rest := []) ⟨hx, hb, hml, hown, hts⟩ (c_MO_readb l D k qm cd wd se kd bn sh mb pr B R sx pt rd wt ln px x1 (by omega)) (cwV 1 hts (gV w_598 w_599 w_600 w_5 w_601) rfl rfl rfl (by decide +kernel) ⟨Nat.le_of_ble_eq_true rfl, Nat.le_of_ble_eq_true rfl⟩) hK hPc hDc hS hA (va_recv hK hPc (ci := 7) (q0 := 0) rfl rfl) rfl hl.1 rfl (Nat.le_of_ble_eq_true rfl) d_LW_law_297 ⟨by show 21 + 3 * i + 3 ≤ 601024; omega, by show 9395 + 263 * i + 263 ≤ 7293034; omega⟩ (fun _ _ H9 locs h9 hP1 hk1 hS9 => ?_)
    refine ss_rt h9 ?_
    clear h9
    obtain ⟨hP, hD⟩ := fr_mid (a := []) (b := (mW qm k cd wd se kd bn sh mb pr B R sx pt rd wt ln px)) (c := ouW k ob of ++ ((ssW qs k gd wd se pr ln px cv co B R sx pt rd wt) ++ (plW od k ad bd ed kd nb sh mb))) (b' := (mW qm k (nI 1) wd se kd bn sh mb pr B R sx pt rd wt ln px)) hP hD hk1 (fun q h => hA q (Nat.le_trans hS.1 h)) hP1 (rw_same hDc.self rfl)
    clear hP1 hk1 hPc hDc
    have hS := hS9
    clear hS9
    generalize H9 = H at hP hS ⊢
    have hP : va_P D vwCl ((mW qm k (nI 1) wd se kd bn sh mb pr B R sx pt rd wt ln px) ++ (ouW k ob of ++ ((ssW qs k gd wd se pr ln px cv co B R sx pt rd wt) ++ (plW od k ad bd ed kd nb sh mb)))) _ := hP
    have hD : va_D A ((mW qm k (nI 1) wd se kd bn sh mb pr B R sx pt rd wt ln px) ++ (ouW k ob of ++ ((ssW qs k gd wd se pr ln px cv co B R sx pt rd wt) ++ (plW od k ad bd ed kd nb sh mb)))) := hD
    refine lv_istore (lv' := [(6, .int (nI 0)), (5, .int (nI 1)), (4, .int (nI (5 * i))), (0, .ref b), (1, .ref (qs 0)), (2, .ref (qm 0)), (3, .ref ob)]) hx hb d_LW_law_300 hl (by decide) rfl (fun ls hl => ?_)
    refine lv_aload_n hx hb d_LW_law_302 rfl (lv_at hl 5 rfl) ?_
    have hPc : va_P D vwCl (mW qm k (nI 1) wd se kd bn sh mb pr B R sx pt rd wt ln px) _ := va_subP (a := []) (b := (mW qm k (nI 1) wd se kd bn sh mb pr B R sx pt rd wt ln px)) (c := ouW k ob of ++ ((ssW qs k gd wd se pr ln px cv co B R sx pt rd wt) ++ (plW od k ad bd ed kd nb sh mb))) hP
    refine kr_iV (As := []) (rest := []) ⟨hx, hb, hml, hown, hts⟩ (c_MO_thrown l D k qm (nI 1) wd se kd bn sh mb pr B R sx pt rd wt ln px) (cwV 0 hts (gV w_579 w_580 w_581 w_5 w_582) rfl rfl rfl (by decide +kernel) ⟨Nat.le_of_ble_eq_true rfl, Nat.le_of_ble_eq_true rfl⟩) hK hPc (va_recv hK hPc (ci := 7) (q0 := 0) rfl rfl) rfl hl.1 rfl (Nat.le_of_ble_eq_true rfl) d_LW_law_303 ⟨by show 21 + 3 * i + 3 ≤ 601024; omega, by show 9395 + 263 * i + 263 ≤ 7293034; omega⟩ ?_
    refine lv_iload hx hb d_LW_law_306 (lv_at hl 1 rfl) ?_
    refine lv_icmp_eq (tgt := 313) hx hb d_LW_law_308 (by decide) (fun c3 => ?_) (fun c3 => ?_)
    · have c3 := (nI_eq (by omega) (by omega)).mp c3
      refine lv_iload hx hb d_LW_law_313 (lv_at hl 1 rfl) ?_
      refine lv_if_ne (tgt := 330) hx hb d_LW_law_315 (by decide) (fun c4 => ?_) (fun c4 => ?_)
      · have c4 := mt (n_eq0 (by omega)).mpr c4
        refine lv_goto (tgt := 661) hx hb d_LW_law_330 (by decide) ?_
        refine lv_iinc (v := nI (5 * (i + 1))) (lv' := [(4, .int (nI (5 * (i + 1)))), (6, .int (nI 0)), (5, .int (nI 1)), (0, .ref b), (1, .ref (qs 0)), (2, .ref (qm 0)), (3, .ref ob)]) hx hb d_LW_law_661 hl (k := 2) rfl ((nI_add (5 * i) 5).trans (by rw [Nat.mul_succ])) (by decide) rfl (fun ls hl => ?_)
        refine lv_goto (tgt := 23) hx hb d_LW_law_664 (by decide) ?_
        refine W.widen (k := 21 + 3 * (i + 1)) (n := 9395 + 263 * (i + 1)) (by show 21 + 3 * i + 3 ≤ _; omega) (by show 9395 + 263 * i + 263 ≤ _; omega) ?_
        exact ih (nI 1) gd wd se pr ln px cv co B R sx pt rd wt od ad bd ed kd nb sh mb bn of _ _ _ ⟨hwd, hse, hpr, hln, hB, hR, hsx, hpt, hwt, hO, hkd, hsh, hmb, hbn, hz⟩ hP hD hS (lv_sub hl [0, 3, 4, 5, 6] rfl)
      · have c4 := (n_eq0 (by omega)).mp c4
        exfalso; omega
    · have c3 := mt (nI_eq (by omega) (by omega)).mpr c3
      exfalso; omega
set_option maxHeartbeats 4000000 in
set_option maxRecDepth 100000 in
theorem L_far {p : Program} {l : Launch} {e : Env} {s : State} {m : MethodId} {below : List Frame} {meth : Method} {c : Code} {b L : Nat} {xs : Nat → Int32} {D : va_G} {k : Nat → ClassId} {A : Nat → Prop} {Q : State → Prop} {qm qs : Nat → Nat} {ob : Nat} (C : LC p l s m meth c b L xs D k A) (i : Nat) (hi : 5 * i + 5 ≤ L) (ih : LG p l e s m below meth c b D k A Q qm qs ob (i + 1)) (cd : Int32) (gd : Nat → Option Nat) (wd : Nat → Nat) (se : Nat → Nat) (pr : Nat) (ln : Nat) (px : Nat → Nat) (cv : Nat) (co : Nat) (B : Nat → Nat) (R : Nat → Nat) (sx : Nat) (pt : Nat) (rd : Nat) (wt : Int32) (od : List Nat) (ad : Nat → Nat) (bd : Nat → Nat) (ed : Nat → Nat) (kd : Nat → Nat) (nb : Nat → Nat) (sh : Nat → Nat) (mb : Nat → Nat) (bn : Nat → Int32) (of : Nat → Int64) (H : Heap) (locs : List Loc) (ls : Array Slot) (hF : LF gd wd se pr ln B R sx pt wt od ad kd nb sh mb bn) (hP : va_P D vwCl ((mW qm k cd wd se kd bn sh mb pr B R sx pt rd wt ln px) ++ (ouW k ob of ++ ((ssW qs k gd wd se pr ln px cv co B R sx pt rd wt) ++ (plW od k ad bd ed kd nb sh mb)))) H) (hD : va_D A ((mW qm k cd wd se kd bn sh mb pr B R sx pt rd wt ln px) ++ (ouW k ob of ++ ((ssW qs k gd wd se pr ln px cv co B R sx pt rd wt) ++ (plW od k ad bd ed kd nb sh mb))))) (hS : va_S A s.heap H locs) (hl : lv_has ls 7 [(4, .int (nI (5 * i))), (0, .ref b), (1, .ref (qs 0)), (2, .ref (qm 0)), (3, .ref ob)]) : W p l e room_1 s m #[Value.ref b] below meth c H locs (21 + 3 * i) (9395 + 263 * i) Q (F0 m 381 ls []) := by
  obtain ⟨hx, hb, hr, hlocks, hml, hown, hts, hX, hT, hU, hK, hA, hsc, hbl, hbA, hl9, hL⟩ := C
  obtain ⟨hwd, hse, hpr, hln, hB, hR, hsx, hpt, hwt, hO, hkd, hsh, hmb, hbn, hz⟩ := hF
  obtain ⟨x1, hx1⟩ : ∃ z, z = xs (5 * i + 1) := ⟨_, rfl⟩
  obtain ⟨x2, hx2⟩ : ∃ z, z = xs (5 * i + 2) := ⟨_, rfl⟩
  obtain ⟨x3, hx3⟩ : ∃ z, z = xs (5 * i + 3) := ⟨_, rfl⟩
  by_cases hv : 0 ≤ x1.toInt ∧ x1.toInt ≤ 3 ∧ 0 ≤ x2.toInt ∧ x2.toInt ≤ 3 ∧ 0 ≤ x3.toInt ∧ x3.toInt ≤ 255
  · obtain ⟨s9, hs9, rfl⟩ := n_ix (x := x1) (n := 4) (by omega) (by omega)
    obtain ⟨p9, hp9, rfl⟩ := n_ix (x := x2) (n := 4) (by omega) (by omega)
    obtain ⟨a, ha, rfl⟩ := n_ix (x := x3) (n := 256) (by omega) (by omega)
    refine lv_aload_n hx hb d_LW_law_381 rfl (lv_at hl 2 rfl) ?_
    refine lv_aload_n hx hb d_LW_law_382 rfl (lv_at hl 1 rfl) ?_
    refine lv_iload hx hb d_LW_law_383 (lv_at hl 0 rfl) ?_
    refine lv_iconst (v := nI 1) hx hb d_LW_law_385 (by decide +kernel) ?_
    refine lv_iadd hx hb d_LW_law_386 ?_
    refine ss_rt (y := nI (5 * i + 1)) (nI_add _ _) ?_
    refine va_sld hx hb hsc hbl hbA hS (vp_in_nI (by omega) (by omega)) d_LW_law_387 ?_
    refine ss_rt (y := nI s9) (by rw [nI_clamp (by omega)]; exact hx1.symm) ?_
    refine lv_aload_n hx hb d_LW_law_388 rfl (lv_at hl 1 rfl) ?_
    refine lv_iload hx hb d_LW_law_389 (lv_at hl 0 rfl) ?_
    refine lv_iconst (v := nI 2) hx hb d_LW_law_391 (by decide +kernel) ?_
    refine lv_iadd hx hb d_LW_law_392 ?_
    refine ss_rt (y := nI (5 * i + 2)) (nI_add _ _) ?_
    refine va_sld hx hb hsc hbl hbA hS (vp_in_nI (by omega) (by omega)) d_LW_law_393 ?_
    refine ss_rt (y := nI p9) (by rw [nI_clamp (by omega)]; exact hx2.symm) ?_
    refine lv_aload_n hx hb d_LW_law_394 rfl (lv_at hl 1 rfl) ?_
    refine lv_iload hx hb d_LW_law_395 (lv_at hl 0 rfl) ?_
    refine lv_iconst (v := nI 3) hx hb d_LW_law_397 (by decide +kernel) ?_
    refine lv_iadd hx hb d_LW_law_398 ?_
    refine ss_rt (y := nI (5 * i + 3)) (nI_add _ _) ?_
    refine va_sld hx hb hsc hbl hbA hS (vp_in_nI (by omega) (by omega)) d_LW_law_399 ?_
    refine ss_rt (y := nI a) (by rw [nI_clamp (by omega)]; exact hx3.symm) ?_
    refine lv_aload_n hx hb d_LW_law_400 rfl (lv_at hl 4 rfl) ?_
    have hPc : va_P D vwCl (ouW k ob of ++ ((ssW qs k gd wd se pr ln px cv co B R sx pt rd wt) ++ (plW od k ad bd ed kd nb sh mb))) _ := va_tlP (a := (mW qm k cd wd se kd bn sh mb pr B R sx pt rd wt ln px)) (b := (ouW k ob of ++ ((ssW qs k gd wd se pr ln px cv co B R sx pt rd wt) ++ (plW od k ad bd ed kd nb sh mb)))) hP
    have hDc : va_D A (ouW k ob of ++ ((ssW qs k gd wd se pr ln px cv co B R sx pt rd wt) ++ (plW od k ad bd ed kd nb sh mb))) := va_tlD (a := (mW qm k cd wd se kd bn sh mb pr B R sx pt rd wt ln px)) (b := (ouW k ob of ++ ((ssW qs k gd wd se pr ln px cv co B R sx pt rd wt) ++ (plW od k ad bd ed kd nb sh mb)))) hD
    refine kh_i (n := 5) (As := [.ref (qs 0), .int (nI s9), .int (nI p9), .int (nI a), .ref ob]) (rest := []) ⟨hx, hb, hml, hown, hts⟩ (h_far l hl9 D k qs gd wd se pr ln px cv co B R sx pt rd wt od ad bd ed kd nb sh mb ob of hwd hse hpr hO hkd hmb s9 p9 a hs9 hp9 ha) (Nat.le_of_ble_eq_true rfl) (Nat.le_of_ble_eq_true rfl) w_518 w_517 w_0 w_516 (by decide +kernel) hK hX hT hU hPc hDc hS hA rfl hl.1 rfl (Nat.le_of_ble_eq_true rfl) d_LW_law_401 ⟨by show 21 + 3 * i + 3 ≤ 601024; omega, by show 9395 + 263 * i + 263 ≤ 7293034; omega⟩ (fun r9 u9 H9 locs hr9 hP1 hD1 hk1 hS9 => ?_)
    subst hr9
    obtain ⟨hP, hD⟩ := fr_tl (a := (mW qm k cd wd se kd bn sh mb pr B R sx pt rd wt ln px)) (b := (ouW k ob of ++ ((ssW qs k gd wd se pr ln px cv co B R sx pt rd wt) ++ (plW od k ad bd ed kd nb sh mb)))) (b' := (ouW k ob (vp_updL of 0 (nI (if a = 255 ∧ wd s9 = 1 then 255 - (se s9 % 64 + 64 * p9) else mget kd sh mb (4 * s9 + (if wd s9 = 1 then p9 else 0)) a)).toInt64) ++ ((ssW qs k gd wd se pr ln px cv co B R sx pt rd wt) ++ (plW od k ad bd ed kd nb sh mb)))) hP hD hk1 (fun q h => hA q (Nat.le_trans hS.1 h)) hP1 hD1
    clear hP1 hD1 hk1 hPc hDc
    have hS := hS9
    clear hS9
    generalize H9 = H at hP hS ⊢
    have hP : va_P D vwCl ((mW qm k cd wd se kd bn sh mb pr B R sx pt rd wt ln px) ++ (ouW k ob (vp_updL of 0 (nI (if a = 255 ∧ wd s9 = 1 then 255 - (se s9 % 64 + 64 * p9) else mget kd sh mb (4 * s9 + (if wd s9 = 1 then p9 else 0)) a)).toInt64) ++ ((ssW qs k gd wd se pr ln px cv co B R sx pt rd wt) ++ (plW od k ad bd ed kd nb sh mb)))) _ := hP
    have hD : va_D A ((mW qm k cd wd se kd bn sh mb pr B R sx pt rd wt ln px) ++ (ouW k ob (vp_updL of 0 (nI (if a = 255 ∧ wd s9 = 1 then 255 - (se s9 % 64 + 64 * p9) else mget kd sh mb (4 * s9 + (if wd s9 = 1 then p9 else 0)) a)).toInt64) ++ ((ssW qs k gd wd se pr ln px cv co B R sx pt rd wt) ++ (plW od k ad bd ed kd nb sh mb)))) := hD
    refine lv_istore (lv' := [(5, .int (nI 0)), (4, .int (nI (5 * i))), (0, .ref b), (1, .ref (qs 0)), (2, .ref (qm 0)), (3, .ref ob)]) hx hb d_LW_law_404 hl (by decide) rfl (fun ls hl => ?_)
    refine lv_aload_n hx hb d_LW_law_406 rfl (lv_at hl 4 rfl) ?_
    refine lv_aload_n hx hb d_LW_law_407 rfl (lv_at hl 2 rfl) ?_
    refine lv_iload hx hb d_LW_law_408 (lv_at hl 1 rfl) ?_
    refine lv_iconst (v := nI 1) hx hb d_LW_law_410 (by decide +kernel) ?_
    refine lv_iadd hx hb d_LW_law_411 ?_
    refine ss_rt (y := nI (5 * i + 1)) (nI_add _ _) ?_
    refine va_sld hx hb hsc hbl hbA hS (vp_in_nI (by omega) (by omega)) d_LW_law_412 ?_
    refine ss_rt (y := nI s9) (by rw [nI_clamp (by omega)]; exact hx1.symm) ?_
    refine lv_aload_n hx hb d_LW_law_413 rfl (lv_at hl 2 rfl) ?_
    refine lv_iload hx hb d_LW_law_414 (lv_at hl 1 rfl) ?_
    refine lv_iconst (v := nI 2) hx hb d_LW_law_416 (by decide +kernel) ?_
    refine lv_iadd hx hb d_LW_law_417 ?_
    refine ss_rt (y := nI (5 * i + 2)) (nI_add _ _) ?_
    refine va_sld hx hb hsc hbl hbA hS (vp_in_nI (by omega) (by omega)) d_LW_law_418 ?_
    refine ss_rt (y := nI p9) (by rw [nI_clamp (by omega)]; exact hx2.symm) ?_
    refine lv_aload_n hx hb d_LW_law_419 rfl (lv_at hl 2 rfl) ?_
    refine lv_iload hx hb d_LW_law_420 (lv_at hl 1 rfl) ?_
    refine lv_iconst (v := nI 3) hx hb d_LW_law_422 (by decide +kernel) ?_
    refine lv_iadd hx hb d_LW_law_423 ?_
    refine ss_rt (y := nI (5 * i + 3)) (nI_add _ _) ?_
    refine va_sld hx hb hsc hbl hbA hS (vp_in_nI (by omega) (by omega)) d_LW_law_424 ?_
    refine ss_rt (y := nI a) (by rw [nI_clamp (by omega)]; exact hx3.symm) ?_
    have hPc : va_P D vwCl (mW qm k cd wd se kd bn sh mb pr B R sx pt rd wt ln px) _ := va_subP (a := []) (b := (mW qm k cd wd se kd bn sh mb pr B R sx pt rd wt ln px)) (c := ouW k ob (vp_updL of 0 (nI (if a = 255 ∧ wd s9 = 1 then 255 - (se s9 % 64 + 64 * p9) else mget kd sh mb (4 * s9 + (if wd s9 = 1 then p9 else 0)) a)).toInt64) ++ ((ssW qs k gd wd se pr ln px cv co B R sx pt rd wt) ++ (plW od k ad bd ed kd nb sh mb))) hP
    have hDc : va_D A (mW qm k cd wd se kd bn sh mb pr B R sx pt rd wt ln px) := va_subD (a := []) (b := (mW qm k cd wd se kd bn sh mb pr B R sx pt rd wt ln px)) (c := ouW k ob (vp_updL of 0 (nI (if a = 255 ∧ wd s9 = 1 then 255 - (se s9 % 64 + 64 * p9) else mget kd sh mb (4 * s9 + (if wd s9 = 1 then p9 else 0)) a)).toInt64) ++ ((ssW qs k gd wd se pr ln px cv co B R sx pt rd wt) ++ (plW od k ad bd ed kd nb sh mb))) hD
    refine kw_iV (As := [.int (nI s9), .int (nI p9), .int (nI a)]) (rest := []) ⟨hx, hb, hml, hown, hts⟩ (c_MO_far l D k qm cd wd se kd bn sh mb pr B R sx pt rd wt ln px hwd hse hpr hkd hsh hmb s9 p9 a hs9 hp9 ha) (cwV 3 hts (gV w_625 w_626 w_627 w_5 w_628) rfl rfl rfl (by decide +kernel) ⟨Nat.le_of_ble_eq_true rfl, Nat.le_of_ble_eq_true rfl⟩) hK hPc hDc hS hA (va_recv hK hPc (ci := 7) (q0 := 0) rfl rfl) rfl hl.1 rfl (Nat.le_of_ble_eq_true rfl) d_LW_law_425 ⟨by show 21 + 3 * i + 3 ≤ 601024; omega, by show 9395 + 263 * i + 263 ≤ 7293034; omega⟩ (fun _ _ H9 locs h9 hP1 hk1 hS9 => ?_)
    refine ss_rt h9 ?_
    clear h9
    obtain ⟨hP, hD⟩ := fr_mid (a := []) (b := (mW qm k cd wd se kd bn sh mb pr B R sx pt rd wt ln px)) (c := ouW k ob (vp_updL of 0 (nI (if a = 255 ∧ wd s9 = 1 then 255 - (se s9 % 64 + 64 * p9) else mget kd sh mb (4 * s9 + (if wd s9 = 1 then p9 else 0)) a)).toInt64) ++ ((ssW qs k gd wd se pr ln px cv co B R sx pt rd wt) ++ (plW od k ad bd ed kd nb sh mb))) (b' := (mW qm k (nI 0) wd se kd bn sh mb pr B R sx pt rd wt ln px)) hP hD hk1 (fun q h => hA q (Nat.le_trans hS.1 h)) hP1 (rw_same hDc.self rfl)
    clear hP1 hk1 hPc hDc
    have hS := hS9
    clear hS9
    generalize H9 = H at hP hS ⊢
    have hP : va_P D vwCl ((mW qm k (nI 0) wd se kd bn sh mb pr B R sx pt rd wt ln px) ++ (ouW k ob (vp_updL of 0 (nI (if a = 255 ∧ wd s9 = 1 then 255 - (se s9 % 64 + 64 * p9) else mget kd sh mb (4 * s9 + (if wd s9 = 1 then p9 else 0)) a)).toInt64) ++ ((ssW qs k gd wd se pr ln px cv co B R sx pt rd wt) ++ (plW od k ad bd ed kd nb sh mb)))) _ := hP
    have hD : va_D A ((mW qm k (nI 0) wd se kd bn sh mb pr B R sx pt rd wt ln px) ++ (ouW k ob (vp_updL of 0 (nI (if a = 255 ∧ wd s9 = 1 then 255 - (se s9 % 64 + 64 * p9) else mget kd sh mb (4 * s9 + (if wd s9 = 1 then p9 else 0)) a)).toInt64) ++ ((ssW qs k gd wd se pr ln px cv co B R sx pt rd wt) ++ (plW od k ad bd ed kd nb sh mb)))) := hD
    refine lv_istore (lv' := [(6, .int (nI (if a = 255 ∧ wd s9 = 1 then 255 - (se s9 % 64 + 64 * p9) else mget kd sh mb (4 * s9 + (if wd s9 = 1 then p9 else 0)) a))), (5, .int (nI 0)), (4, .int (nI (5 * i))), (0, .ref b), (1, .ref (qs 0)), (2, .ref (qm 0)), (3, .ref ob)]) hx hb d_LW_law_428 hl (by decide) rfl (fun ls hl => ?_)
    refine lv_aload_n hx hb d_LW_law_430 rfl (lv_at hl 5 rfl) ?_
    have hPc : va_P D vwCl (mW qm k (nI 0) wd se kd bn sh mb pr B R sx pt rd wt ln px) _ := va_subP (a := []) (b := (mW qm k (nI 0) wd se kd bn sh mb pr B R sx pt rd wt ln px)) (c := ouW k ob (vp_updL of 0 (nI (if a = 255 ∧ wd s9 = 1 then 255 - (se s9 % 64 + 64 * p9) else mget kd sh mb (4 * s9 + (if wd s9 = 1 then p9 else 0)) a)).toInt64) ++ ((ssW qs k gd wd se pr ln px cv co B R sx pt rd wt) ++ (plW od k ad bd ed kd nb sh mb))) hP
    refine kr_iV (As := []) (rest := []) ⟨hx, hb, hml, hown, hts⟩ (c_MO_thrown l D k qm (nI 0) wd se kd bn sh mb pr B R sx pt rd wt ln px) (cwV 0 hts (gV w_579 w_580 w_581 w_5 w_582) rfl rfl rfl (by decide +kernel) ⟨Nat.le_of_ble_eq_true rfl, Nat.le_of_ble_eq_true rfl⟩) hK hPc (va_recv hK hPc (ci := 7) (q0 := 0) rfl rfl) rfl hl.1 rfl (Nat.le_of_ble_eq_true rfl) d_LW_law_431 ⟨by show 21 + 3 * i + 3 ≤ 601024; omega, by show 9395 + 263 * i + 263 ≤ 7293034; omega⟩ ?_
    refine lv_iload hx hb d_LW_law_434 (lv_at hl 1 rfl) ?_
    refine lv_icmp_eq (tgt := 441) hx hb d_LW_law_436 (by decide) (fun c1 => ?_) (fun c1 => ?_)
    · have c1 := (nI_eq (by omega) (by omega)).mp c1
      refine lv_iload hx hb d_LW_law_441 (lv_at hl 1 rfl) ?_
      refine lv_if_ne (tgt := 458) hx hb d_LW_law_443 (by decide) (fun c2 => ?_) (fun c2 => ?_)
      · have c2 := mt (n_eq0 (by omega)).mpr c2
        exfalso; omega
      · have c2 := (n_eq0 (by omega)).mp c2
        refine lv_aload_n hx hb d_LW_law_446 rfl (lv_at hl 6 rfl) ?_
        refine lv_iconst (v := nI 0) hx hb d_LW_law_447 (by decide +kernel) ?_
        refine va_lald hx hb hK hP 10 3 rfl rfl (vp_in_nI (by omega) (by omega)) d_LW_law_448 ?_
        refine ss_rl (y := (nI (if a = 255 ∧ wd s9 = 1 then 255 - (se s9 % 64 + 64 * p9) else mget kd sh mb (4 * s9 + (if wd s9 = 1 then p9 else 0)) a)).toInt64) (by rw [nI_clamp (by omega)]; simp [vp_updL]) ?_
        refine lv_iload hx hb d_LW_law_449 (lv_at hl 0 rfl) ?_
        refine lv_i2l (v := (nI (if a = 255 ∧ wd s9 = 1 then 255 - (se s9 % 64 + 64 * p9) else mget kd sh mb (4 * s9 + (if wd s9 = 1 then p9 else 0)) a)).toInt64) hx hb d_LW_law_451 rfl ?_
        refine W.lcmp hx hb d_LW_law_452 ?_
        refine ss_rt (y := 0) (by simp [lg_cmp]) ?_
        refine lv_if_eq (tgt := 458) hx hb d_LW_law_453 (by decide) (fun c9 => ?_) (fun c9 => absurd rfl c9)
        refine lv_goto (tgt := 661) hx hb d_LW_law_458 (by decide) ?_
        refine lv_iinc (v := nI (5 * (i + 1))) (lv' := [(4, .int (nI (5 * (i + 1)))), (6, .int (nI (if a = 255 ∧ wd s9 = 1 then 255 - (se s9 % 64 + 64 * p9) else mget kd sh mb (4 * s9 + (if wd s9 = 1 then p9 else 0)) a))), (5, .int (nI 0)), (0, .ref b), (1, .ref (qs 0)), (2, .ref (qm 0)), (3, .ref ob)]) hx hb d_LW_law_661 hl (k := 2) rfl ((nI_add (5 * i) 5).trans (by rw [Nat.mul_succ])) (by decide) rfl (fun ls hl => ?_)
        refine lv_goto (tgt := 23) hx hb d_LW_law_664 (by decide) ?_
        refine W.widen (k := 21 + 3 * (i + 1)) (n := 9395 + 263 * (i + 1)) (by show 21 + 3 * i + 3 ≤ _; omega) (by show 9395 + 263 * i + 263 ≤ _; omega) ?_
        exact ih (nI 0) gd wd se pr ln px cv co B R sx pt rd wt od ad bd ed kd nb sh mb bn (vp_updL of 0 (nI (if a = 255 ∧ wd s9 = 1 then 255 - (se s9 % 64 + 64 * p9) else mget kd sh mb (4 * s9 + (if wd s9 = 1 then p9 else 0)) a)).toInt64) _ _ _ ⟨hwd, hse, hpr, hln, hB, hR, hsx, hpt, hwt, hO, hkd, hsh, hmb, hbn, hz⟩ hP hD hS (lv_sub hl [0, 3, 4, 5, 6] rfl)
    · have c1 := mt (nI_eq (by omega) (by omega)).mpr c1
      exfalso; omega
  · skip
    refine lv_aload_n hx hb d_LW_law_381 rfl (lv_at hl 2 rfl) ?_
    refine lv_aload_n hx hb d_LW_law_382 rfl (lv_at hl 1 rfl) ?_
    refine lv_iload hx hb d_LW_law_383 (lv_at hl 0 rfl) ?_
    refine lv_iconst (v := nI 1) hx hb d_LW_law_385 (by decide +kernel) ?_
    refine lv_iadd hx hb d_LW_law_386 ?_
    refine ss_rt (y := nI (5 * i + 1)) (nI_add _ _) ?_
    refine va_sld hx hb hsc hbl hbA hS (vp_in_nI (by omega) (by omega)) d_LW_law_387 ?_
    refine ss_rt (y := x1) (by rw [nI_clamp (by omega)]; exact hx1.symm) ?_
    refine lv_aload_n hx hb d_LW_law_388 rfl (lv_at hl 1 rfl) ?_
    refine lv_iload hx hb d_LW_law_389 (lv_at hl 0 rfl) ?_
    refine lv_iconst (v := nI 2) hx hb d_LW_law_391 (by decide +kernel) ?_
    refine lv_iadd hx hb d_LW_law_392 ?_
    refine ss_rt (y := nI (5 * i + 2)) (nI_add _ _) ?_
    refine va_sld hx hb hsc hbl hbA hS (vp_in_nI (by omega) (by omega)) d_LW_law_393 ?_
    refine ss_rt (y := x2) (by rw [nI_clamp (by omega)]; exact hx2.symm) ?_
    refine lv_aload_n hx hb d_LW_law_394 rfl (lv_at hl 1 rfl) ?_
    refine lv_iload hx hb d_LW_law_395 (lv_at hl 0 rfl) ?_
    refine lv_iconst (v := nI 3) hx hb d_LW_law_397 (by decide +kernel) ?_
    refine lv_iadd hx hb d_LW_law_398 ?_
    refine ss_rt (y := nI (5 * i + 3)) (nI_add _ _) ?_
    refine va_sld hx hb hsc hbl hbA hS (vp_in_nI (by omega) (by omega)) d_LW_law_399 ?_
    refine ss_rt (y := x3) (by rw [nI_clamp (by omega)]; exact hx3.symm) ?_
    refine lv_aload_n hx hb d_LW_law_400 rfl (lv_at hl 4 rfl) ?_
    have hPc : va_P D vwCl (ouW k ob of ++ ((ssW qs k gd wd se pr ln px cv co B R sx pt rd wt) ++ (plW od k ad bd ed kd nb sh mb))) _ := va_tlP (a := (mW qm k cd wd se kd bn sh mb pr B R sx pt rd wt ln px)) (b := (ouW k ob of ++ ((ssW qs k gd wd se pr ln px cv co B R sx pt rd wt) ++ (plW od k ad bd ed kd nb sh mb)))) hP
    have hDc : va_D A (ouW k ob of ++ ((ssW qs k gd wd se pr ln px cv co B R sx pt rd wt) ++ (plW od k ad bd ed kd nb sh mb))) := va_tlD (a := (mW qm k cd wd se kd bn sh mb pr B R sx pt rd wt ln px)) (b := (ouW k ob of ++ ((ssW qs k gd wd se pr ln px cv co B R sx pt rd wt) ++ (plW od k ad bd ed kd nb sh mb)))) hD
    refine kh_i (n := 5) (As := [.ref (qs 0), .int x1, .int x2, .int x3, .ref ob]) (rest := []) ⟨hx, hb, hml, hown, hts⟩ (h_farb l hl9 D k qs gd wd se pr ln px cv co B R sx pt rd wt od ad bd ed kd nb sh mb ob of x1 x2 x3 hv) (Nat.le_of_ble_eq_true rfl) (Nat.le_of_ble_eq_true rfl) w_518 w_517 w_0 w_516 (by decide +kernel) hK hX hT hU hPc hDc hS hA rfl hl.1 rfl (Nat.le_of_ble_eq_true rfl) d_LW_law_401 ⟨by show 21 + 3 * i + 3 ≤ 601024; omega, by show 9395 + 263 * i + 263 ≤ 7293034; omega⟩ (fun r9 u9 H9 locs hr9 hP1 hD1 hk1 hS9 => ?_)
    subst hr9
    obtain ⟨hP, hD⟩ := fr_tl (a := (mW qm k cd wd se kd bn sh mb pr B R sx pt rd wt ln px)) (b := (ouW k ob of ++ ((ssW qs k gd wd se pr ln px cv co B R sx pt rd wt) ++ (plW od k ad bd ed kd nb sh mb)))) (b' := (ouW k ob of ++ ((ssW qs k gd wd se pr ln px cv co B R sx pt rd wt) ++ (plW od k ad bd ed kd nb sh mb)))) hP hD hk1 (fun q h => hA q (Nat.le_trans hS.1 h)) hP1 hD1
    clear hP1 hD1 hk1 hPc hDc
    have hS := hS9
    clear hS9
    generalize H9 = H at hP hS ⊢
    have hP : va_P D vwCl ((mW qm k cd wd se kd bn sh mb pr B R sx pt rd wt ln px) ++ (ouW k ob of ++ ((ssW qs k gd wd se pr ln px cv co B R sx pt rd wt) ++ (plW od k ad bd ed kd nb sh mb)))) _ := hP
    have hD : va_D A ((mW qm k cd wd se kd bn sh mb pr B R sx pt rd wt ln px) ++ (ouW k ob of ++ ((ssW qs k gd wd se pr ln px cv co B R sx pt rd wt) ++ (plW od k ad bd ed kd nb sh mb)))) := hD
    refine lv_istore (lv' := [(5, .int (nI 1)), (4, .int (nI (5 * i))), (0, .ref b), (1, .ref (qs 0)), (2, .ref (qm 0)), (3, .ref ob)]) hx hb d_LW_law_404 hl (by decide) rfl (fun ls hl => ?_)
    refine lv_aload_n hx hb d_LW_law_406 rfl (lv_at hl 4 rfl) ?_
    refine lv_aload_n hx hb d_LW_law_407 rfl (lv_at hl 2 rfl) ?_
    refine lv_iload hx hb d_LW_law_408 (lv_at hl 1 rfl) ?_
    refine lv_iconst (v := nI 1) hx hb d_LW_law_410 (by decide +kernel) ?_
    refine lv_iadd hx hb d_LW_law_411 ?_
    refine ss_rt (y := nI (5 * i + 1)) (nI_add _ _) ?_
    refine va_sld hx hb hsc hbl hbA hS (vp_in_nI (by omega) (by omega)) d_LW_law_412 ?_
    refine ss_rt (y := x1) (by rw [nI_clamp (by omega)]; exact hx1.symm) ?_
    refine lv_aload_n hx hb d_LW_law_413 rfl (lv_at hl 2 rfl) ?_
    refine lv_iload hx hb d_LW_law_414 (lv_at hl 1 rfl) ?_
    refine lv_iconst (v := nI 2) hx hb d_LW_law_416 (by decide +kernel) ?_
    refine lv_iadd hx hb d_LW_law_417 ?_
    refine ss_rt (y := nI (5 * i + 2)) (nI_add _ _) ?_
    refine va_sld hx hb hsc hbl hbA hS (vp_in_nI (by omega) (by omega)) d_LW_law_418 ?_
    refine ss_rt (y := x2) (by rw [nI_clamp (by omega)]; exact hx2.symm) ?_
    refine lv_aload_n hx hb d_LW_law_419 rfl (lv_at hl 2 rfl) ?_
    refine lv_iload hx hb d_LW_law_420 (lv_at hl 1 rfl) ?_
    refine lv_iconst (v := nI 3) hx hb d_LW_law_422 (by decide +kernel) ?_
    refine lv_iadd hx hb d_LW_law_423 ?_
    refine ss_rt (y := nI (5 * i + 3)) (nI_add _ _) ?_
    refine va_sld hx hb hsc hbl hbA hS (vp_in_nI (by omega) (by omega)) d_LW_law_424 ?_
    refine ss_rt (y := x3) (by rw [nI_clamp (by omega)]; exact hx3.symm) ?_
    have hPc : va_P D vwCl (mW qm k cd wd se kd bn sh mb pr B R sx pt rd wt ln px) _ := va_subP (a := []) (b := (mW qm k cd wd se kd bn sh mb pr B R sx pt rd wt ln px)) (c := ouW k ob of ++ ((ssW qs k gd wd se pr ln px cv co B R sx pt rd wt) ++ (plW od k ad bd ed kd nb sh mb))) hP
    have hDc : va_D A (mW qm k cd wd se kd bn sh mb pr B R sx pt rd wt ln px) := va_subD (a := []) (b := (mW qm k cd wd se kd bn sh mb pr B R sx pt rd wt ln px)) (c := ouW k ob of ++ ((ssW qs k gd wd se pr ln px cv co B R sx pt rd wt) ++ (plW od k ad bd ed kd nb sh mb))) hD
    refine kw_iV (As := [.int x1, .int x2, .int x3]) (rest := []) ⟨hx, hb, hml, hown, hts⟩ (c_MO_farb l D k qm cd wd se kd bn sh mb pr B R sx pt rd wt ln px x1 x2 x3 hv) (cwV 3 hts (gV w_625 w_626 w_627 w_5 w_628) rfl rfl rfl (by decide +kernel) ⟨Nat.le_of_ble_eq_true rfl, Nat.le_of_ble_eq_true rfl⟩) hK hPc hDc hS hA (va_recv hK hPc (ci := 7) (q0 := 0) rfl rfl) rfl hl.1 rfl (Nat.le_of_ble_eq_true rfl) d_LW_law_425 ⟨by show 21 + 3 * i + 3 ≤ 601024; omega, by show 9395 + 263 * i + 263 ≤ 7293034; omega⟩ (fun _ _ H9 locs h9 hP1 hk1 hS9 => ?_)
    refine ss_rt h9 ?_
    clear h9
    obtain ⟨hP, hD⟩ := fr_mid (a := []) (b := (mW qm k cd wd se kd bn sh mb pr B R sx pt rd wt ln px)) (c := ouW k ob of ++ ((ssW qs k gd wd se pr ln px cv co B R sx pt rd wt) ++ (plW od k ad bd ed kd nb sh mb))) (b' := (mW qm k (nI 1) wd se kd bn sh mb pr B R sx pt rd wt ln px)) hP hD hk1 (fun q h => hA q (Nat.le_trans hS.1 h)) hP1 (rw_same hDc.self rfl)
    clear hP1 hk1 hPc hDc
    have hS := hS9
    clear hS9
    generalize H9 = H at hP hS ⊢
    have hP : va_P D vwCl ((mW qm k (nI 1) wd se kd bn sh mb pr B R sx pt rd wt ln px) ++ (ouW k ob of ++ ((ssW qs k gd wd se pr ln px cv co B R sx pt rd wt) ++ (plW od k ad bd ed kd nb sh mb)))) _ := hP
    have hD : va_D A ((mW qm k (nI 1) wd se kd bn sh mb pr B R sx pt rd wt ln px) ++ (ouW k ob of ++ ((ssW qs k gd wd se pr ln px cv co B R sx pt rd wt) ++ (plW od k ad bd ed kd nb sh mb)))) := hD
    refine lv_istore (lv' := [(6, .int (nI 0)), (5, .int (nI 1)), (4, .int (nI (5 * i))), (0, .ref b), (1, .ref (qs 0)), (2, .ref (qm 0)), (3, .ref ob)]) hx hb d_LW_law_428 hl (by decide) rfl (fun ls hl => ?_)
    refine lv_aload_n hx hb d_LW_law_430 rfl (lv_at hl 5 rfl) ?_
    have hPc : va_P D vwCl (mW qm k (nI 1) wd se kd bn sh mb pr B R sx pt rd wt ln px) _ := va_subP (a := []) (b := (mW qm k (nI 1) wd se kd bn sh mb pr B R sx pt rd wt ln px)) (c := ouW k ob of ++ ((ssW qs k gd wd se pr ln px cv co B R sx pt rd wt) ++ (plW od k ad bd ed kd nb sh mb))) hP
    refine kr_iV (As := []) (rest := []) ⟨hx, hb, hml, hown, hts⟩ (c_MO_thrown l D k qm (nI 1) wd se kd bn sh mb pr B R sx pt rd wt ln px) (cwV 0 hts (gV w_579 w_580 w_581 w_5 w_582) rfl rfl rfl (by decide +kernel) ⟨Nat.le_of_ble_eq_true rfl, Nat.le_of_ble_eq_true rfl⟩) hK hPc (va_recv hK hPc (ci := 7) (q0 := 0) rfl rfl) rfl hl.1 rfl (Nat.le_of_ble_eq_true rfl) d_LW_law_431 ⟨by show 21 + 3 * i + 3 ≤ 601024; omega, by show 9395 + 263 * i + 263 ≤ 7293034; omega⟩ ?_
    refine lv_iload hx hb d_LW_law_434 (lv_at hl 1 rfl) ?_
    refine lv_icmp_eq (tgt := 441) hx hb d_LW_law_436 (by decide) (fun c3 => ?_) (fun c3 => ?_)
    · have c3 := (nI_eq (by omega) (by omega)).mp c3
      refine lv_iload hx hb d_LW_law_441 (lv_at hl 1 rfl) ?_
      refine lv_if_ne (tgt := 458) hx hb d_LW_law_443 (by decide) (fun c4 => ?_) (fun c4 => ?_)
      · have c4 := mt (n_eq0 (by omega)).mpr c4
        refine lv_goto (tgt := 661) hx hb d_LW_law_458 (by decide) ?_
        refine lv_iinc (v := nI (5 * (i + 1))) (lv' := [(4, .int (nI (5 * (i + 1)))), (6, .int (nI 0)), (5, .int (nI 1)), (0, .ref b), (1, .ref (qs 0)), (2, .ref (qm 0)), (3, .ref ob)]) hx hb d_LW_law_661 hl (k := 2) rfl ((nI_add (5 * i) 5).trans (by rw [Nat.mul_succ])) (by decide) rfl (fun ls hl => ?_)
        refine lv_goto (tgt := 23) hx hb d_LW_law_664 (by decide) ?_
        refine W.widen (k := 21 + 3 * (i + 1)) (n := 9395 + 263 * (i + 1)) (by show 21 + 3 * i + 3 ≤ _; omega) (by show 9395 + 263 * i + 263 ≤ _; omega) ?_
        exact ih (nI 1) gd wd se pr ln px cv co B R sx pt rd wt od ad bd ed kd nb sh mb bn of _ _ _ ⟨hwd, hse, hpr, hln, hB, hR, hsx, hpt, hwt, hO, hkd, hsh, hmb, hbn, hz⟩ hP hD hS (lv_sub hl [0, 3, 4, 5, 6] rfl)
      · have c4 := (n_eq0 (by omega)).mp c4
        exfalso; omega
    · have c3 := mt (nI_eq (by omega) (by omega)).mpr c3
      exfalso; omega
