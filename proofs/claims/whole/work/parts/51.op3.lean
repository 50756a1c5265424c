set_option maxHeartbeats 4000000 in
set_option maxRecDepth 100000 in
theorem L_burn {p : Program} {l : Launch} {e : Env} {s : State} {m : MethodId} {below : List Frame} {meth : Method} {c : Code} {b L : Nat} {xs : Nat → Int32} {D : va_G} {k : Nat → ClassId} {A : Nat → Prop} {Q : State → Prop} {qm qs : Nat → Nat} {ob : Nat} (C : LC p l s m meth c b L xs D k A) (i : Nat) (hi : 5 * i + 5 ≤ L) (ih : LG p l e s m below meth c b D k A Q qm qs ob (i + 1)) (cd : Int32) (gd : Nat → Option Nat) (wd : Nat → Nat) (se : Nat → Nat) (pr : Nat) (ln : Nat) (px : Nat → Nat) (cv : Nat) (co : Nat) (B : Nat → Nat) (R : Nat → Nat) (sx : Nat) (pt : Nat) (rd : Nat) (wt : Int32) (od : List Nat) (ad : Nat → Nat) (bd : Nat → Nat) (ed : Nat → Nat) (kd : Nat → Nat) (nb : Nat → Nat) (sh : Nat → Nat) (mb : Nat → Nat) (bn : Nat → Int32) (of : Nat → Int64) (H : Heap) (locs : List Loc) (ls : Array Slot) (hF : LF gd wd se pr ln B R sx pt wt od ad kd nb sh mb bn) (hP : va_P D vwCl ((mW qm k cd wd se kd bn sh mb pr B R sx pt rd wt ln px) ++ (ouW k ob of ++ ((ssW qs k gd wd se pr ln px cv co B R sx pt rd wt) ++ (plW od k ad bd ed kd nb sh mb)))) H) (hD : va_D A ((mW qm k cd wd se kd bn sh mb pr B R sx pt rd wt ln px) ++ (ouW k ob of ++ ((ssW qs k gd wd se pr ln px cv co B R sx pt rd wt) ++ (plW od k ad bd ed kd nb sh mb))))) (hS : va_S A s.heap H locs) (hl : lv_has ls 7 [(4, .int (nI (5 * i))), (0, .ref b), (1, .ref (qs 0)), (2, .ref (qm 0)), (3, .ref ob)]) : W p l e room_1 s m #[Value.ref b] below meth c H locs (21 + 3 * i) (9395 + 263 * i) Q (F0 m 216 ls []) := by
  obtain ⟨hx, hb, hr, hlocks, hml, hown, hts, hX, hT, hU, hK, hA, hsc, hbl, hbA, hl9, hL⟩ := C
  obtain ⟨hwd, hse, hpr, hln, hB, hR, hsx, hpt, hwt, hO, hkd, hsh, hmb, hbn, hz⟩ := hF
  obtain ⟨x1, hx1⟩ : ∃ z, z = xs (5 * i + 1) := ⟨_, rfl⟩
  obtain ⟨x2, hx2⟩ : ∃ z, z = xs (5 * i + 2) := ⟨_, rfl⟩
  obtain ⟨x3, hx3⟩ : ∃ z, z = xs (5 * i + 3) := ⟨_, rfl⟩
  obtain ⟨x4, hx4⟩ : ∃ z, z = xs (5 * i + 4) := ⟨_, rfl⟩
  by_cases hv : 0 ≤ x1.toInt ∧ x1.toInt ≤ 3 ∧ 0 ≤ x2.toInt ∧ x2.toInt ≤ 3 ∧ 0 ≤ x4.toInt ∧ x4.toInt ≤ 255
  · obtain ⟨s9, hs9, rfl⟩ := n_ix (x := x1) (n := 4) (by omega) (by omega)
    obtain ⟨p9, hp9, rfl⟩ := n_ix (x := x2) (n := 4) (by omega) (by omega)
    obtain ⟨v, hv9, rfl⟩ := n_ix (x := x4) (n := 256) (by omega) (by omega)
    by_cases k2 : kd (4 * s9 + p9) = 2
    · by_cases hq : 0 ≤ x3.toInt ∧ x3.toInt ≤ 255
      · obtain ⟨x, hxx, rfl⟩ := n_ix (x := x3) (n := 256) hq.1 (by omega)
        refine lv_aload_n hx hb d_LW_law_216 rfl (lv_at hl 2 rfl) ?_
        refine lv_aload_n hx hb d_LW_law_217 rfl (lv_at hl 1 rfl) ?_
        refine lv_iload hx hb d_LW_law_218 (lv_at hl 0 rfl) ?_
        refine lv_iconst (v := nI 1) hx hb d_LW_law_220 (by decide +kernel) ?_
        refine lv_iadd hx hb d_LW_law_221 ?_
        refine ss_rt (y := nI (5 * i + 1)) (nI_add _ _) ?_
        refine va_sld hx hb hsc hbl hbA hS (vp_in_nI (by omega) (by omega)) d_LW_law_222 ?_
        refine ss_rt (y := nI s9) (by rw [nI_clamp (by omega)]; exact hx1.symm) ?_
        refine lv_aload_n hx hb d_LW_law_223 rfl (lv_at hl 1 rfl) ?_
        refine lv_iload hx hb d_LW_law_224 (lv_at hl 0 rfl) ?_
        refine lv_iconst (v := nI 2) hx hb d_LW_law_226 (by decide +kernel) ?_
        refine lv_iadd hx hb d_LW_law_227 ?_
        refine ss_rt (y := nI (5 * i + 2)) (nI_add _ _) ?_
        refine va_sld hx hb hsc hbl hbA hS (vp_in_nI (by omega) (by omega)) d_LW_law_228 ?_
        refine ss_rt (y := nI p9) (by rw [nI_clamp (by omega)]; exact hx2.symm) ?_
        refine lv_aload_n hx hb d_LW_law_229 rfl (lv_at hl 1 rfl) ?_
        refine lv_iload hx hb d_LW_law_230 (lv_at hl 0 rfl) ?_
        refine lv_iconst (v := nI 3) hx hb d_LW_law_232 (by decide +kernel) ?_
        refine lv_iadd hx hb d_LW_law_233 ?_
        refine ss_rt (y := nI (5 * i + 3)) (nI_add _ _) ?_
        refine va_sld hx hb hsc hbl hbA hS (vp_in_nI (by omega) (by omega)) d_LW_law_234 ?_
        refine ss_rt (y := nI x) (by rw [nI_clamp (by omega)]; exact hx3.symm) ?_
        refine lv_aload_n hx hb d_LW_law_235 rfl (lv_at hl 1 rfl) ?_
        refine lv_iload hx hb d_LW_law_236 (lv_at hl 0 rfl) ?_
        refine lv_iconst (v := nI 4) hx hb d_LW_law_238 (by decide +kernel) ?_
        refine lv_iadd hx hb d_LW_law_239 ?_
        refine ss_rt (y := nI (5 * i + 4)) (nI_add _ _) ?_
        refine va_sld hx hb hsc hbl hbA hS (vp_in_nI (by omega) (by omega)) d_LW_law_240 ?_
        refine ss_rt (y := nI v) (by rw [nI_clamp (by omega)]; exact hx4.symm) ?_
        have hPc : va_P D vwCl ((ssW qs k gd wd se pr ln px cv co B R sx pt rd wt) ++ (plW od k ad bd ed kd nb sh mb)) _ := va_tlP (a := ((mW qm k cd wd se kd bn sh mb pr B R sx pt rd wt ln px) ++ ouW k ob of)) (b := ((ssW qs k gd wd se pr ln px cv co B R sx pt rd wt) ++ (plW od k ad bd ed kd nb sh mb))) hP
        have hDc : va_D A ((ssW qs k gd wd se pr ln px cv co B R sx pt rd wt) ++ (plW od k ad bd ed kd nb sh mb)) := va_tlD (a := ((mW qm k cd wd se kd bn sh mb pr B R sx pt rd wt ln px) ++ ouW k ob of)) (b := ((ssW qs k gd wd se pr ln px cv co B R sx pt rd wt) ++ (plW od k ad bd ed kd nb sh mb))) hD
        refine kxw_iV (As := [.int (nI s9), .int (nI p9), .int (nI x), .int (nI v)]) (rest := []) ⟨hx, hb, hml, hown, hts⟩ (c_SS_burn2 l D k qs gd wd se pr ln px cv co B R sx pt rd wt od ad bd ed kd nb sh mb hwd hse hpr hO hkd hmb s9 p9 v hs9 hp9 hv9 k2 x hxx) (cwV 4 hts (gV w_103 w_104 w_105 w_1 w_106) rfl rfl rfl (by decide +kernel) ⟨Nat.le_of_ble_eq_true rfl, Nat.le_of_ble_eq_true rfl⟩) hK hX hPc hDc hS hA (va_recv hK hPc (ci := 0) (q0 := 0) rfl rfl) rfl hl.1 rfl (Nat.le_of_ble_eq_true rfl) d_LW_law_241 ⟨by show 21 + 3 * i ≤ 601024; omega, by show 9395 + 263 * i ≤ 7293034; omega⟩ (fun _ _ H9 locs h9 hP1 hk1 hS9 => ?_)
        subst h9
        obtain ⟨hP, hD⟩ := fr_tl (a := ((mW qm k cd wd se kd bn sh mb pr B R sx pt rd wt ln px) ++ ouW k ob of)) (b := ((ssW qs k gd wd se pr ln px cv co B R sx pt rd wt) ++ (plW od k ad bd ed kd nb sh mb))) (b' := ((ssW qs k gd wd se pr ln px cv co B R sx pt rd wt) ++ (plW od k ad bd ed kd nb sh (ss_up mb (256 * (4 * s9 + p9) + x) v)))) hP hD hk1 (fun q h => hA q (Nat.le_trans hS.1 h)) hP1 (rw_same hDc.self (ss_ad rfl _ _ _ _ _ _ _ _ _ _ _))
        clear hP1 hk1 hPc hDc
        have hS := hS9
        clear hS9
        generalize H9 = H at hP hS ⊢
        have hP : va_P D vwCl ((mW qm k cd wd se kd bn sh mb pr B R sx pt rd wt ln px) ++ (ouW k ob of ++ ((ssW qs k gd wd se pr ln px cv co B R sx pt rd wt) ++ (plW od k ad bd ed kd nb sh (ss_up mb (256 * (4 * s9 + p9) + x) v))))) _ := hP
        have hD : va_D A ((mW qm k cd wd se kd bn sh mb pr B R sx pt rd wt ln px) ++ (ouW k ob of ++ ((ssW qs k gd wd se pr ln px cv co B R sx pt rd wt) ++ (plW od k ad bd ed kd nb sh (ss_up mb (256 * (4 * s9 + p9) + x) v))))) := hD
        refine lv_aload_n hx hb d_LW_law_244 rfl (lv_at hl 3 rfl) ?_
        refine lv_aload_n hx hb d_LW_law_245 rfl (lv_at hl 1 rfl) ?_
        refine lv_iload hx hb d_LW_law_246 (lv_at hl 0 rfl) ?_
        refine lv_iconst (v := nI 1) hx hb d_LW_law_248 (by decide +kernel) ?_
        refine lv_iadd hx hb d_LW_law_249 ?_
        refine ss_rt (y := nI (5 * i + 1)) (nI_add _ _) ?_
        refine va_sld hx hb hsc hbl hbA hS (vp_in_nI (by omega) (by omega)) d_LW_law_250 ?_
        refine ss_rt (y := nI s9) (by rw [nI_clamp (by omega)]; exact hx1.symm) ?_
        refine lv_aload_n hx hb d_LW_law_251 rfl (lv_at hl 1 rfl) ?_
        refine lv_iload hx hb d_LW_law_252 (lv_at hl 0 rfl) ?_
        refine lv_iconst (v := nI 2) hx hb d_LW_law_254 (by decide +kernel) ?_
        refine lv_iadd hx hb d_LW_law_255 ?_
        refine ss_rt (y := nI (5 * i + 2)) (nI_add _ _) ?_
        refine va_sld hx hb hsc hbl hbA hS (vp_in_nI (by omega) (by omega)) d_LW_law_256 ?_
        refine ss_rt (y := nI p9) (by rw [nI_clamp (by omega)]; exact hx2.symm) ?_
        refine lv_aload_n hx hb d_LW_law_257 rfl (lv_at hl 1 rfl) ?_
        refine lv_iload hx hb d_LW_law_258 (lv_at hl 0 rfl) ?_
        refine lv_iconst (v := nI 3) hx hb d_LW_law_260 (by decide +kernel) ?_
        refine lv_iadd hx hb d_LW_law_261 ?_
        refine ss_rt (y := nI (5 * i + 3)) (nI_add _ _) ?_
        refine va_sld hx hb hsc hbl hbA hS (vp_in_nI (by omega) (by omega)) d_LW_law_262 ?_
        refine ss_rt (y := nI x) (by rw [nI_clamp (by omega)]; exact hx3.symm) ?_
        refine lv_aload_n hx hb d_LW_law_263 rfl (lv_at hl 1 rfl) ?_
        refine lv_iload hx hb d_LW_law_264 (lv_at hl 0 rfl) ?_
        refine lv_iconst (v := nI 4) hx hb d_LW_law_266 (by decide +kernel) ?_
        refine lv_iadd hx hb d_LW_law_267 ?_
        refine ss_rt (y := nI (5 * i + 4)) (nI_add _ _) ?_
        refine va_sld hx hb hsc hbl hbA hS (vp_in_nI (by omega) (by omega)) d_LW_law_268 ?_
        refine ss_rt (y := nI v) (by rw [nI_clamp (by omega)]; exact hx4.symm) ?_
        have hPc : va_P D vwCl (mW qm k cd wd se kd bn sh mb pr B R sx pt rd wt ln px) _ := va_subP (a := []) (b := (mW qm k cd wd se kd bn sh mb pr B R sx pt rd wt ln px)) (c := ouW k ob of ++ ((ssW qs k gd wd se pr ln px cv co B R sx pt rd wt) ++ (plW od k ad bd ed kd nb sh (ss_up mb (256 * (4 * s9 + p9) + x) v)))) hP
        have hDc : va_D A (mW qm k cd wd se kd bn sh mb pr B R sx pt rd wt ln px) := va_subD (a := []) (b := (mW qm k cd wd se kd bn sh mb pr B R sx pt rd wt ln px)) (c := ouW k ob of ++ ((ssW qs k gd wd se pr ln px cv co B R sx pt rd wt) ++ (plW od k ad bd ed kd nb sh (ss_up mb (256 * (4 * s9 + p9) + x) v)))) hD
        refine kw_iV (As := [.int (nI s9), .int (nI p9), .int (nI x), .int (nI v)]) (rest := [.int (nI 1)]) ⟨hx, hb, hml, hown, hts⟩ (c_MO_burn2 l D k qm cd wd se kd bn sh mb pr B R sx pt rd wt ln px hkd hmb s9 p9 v hs9 hp9 hv9 k2 x hxx) (cwV 4 hts (gV w_594 w_595 w_596 w_5 w_597) rfl rfl rfl (by decide +kernel) ⟨Nat.le_of_ble_eq_true rfl, Nat.le_of_ble_eq_true rfl⟩) hK hPc hDc hS hA (va_recv hK hPc (ci := 7) (q0 := 0) rfl rfl) rfl hl.1 rfl (Nat.le_of_ble_eq_true rfl) d_LW_law_269 ⟨by show 21 + 3 * i ≤ 601024; omega, by show 9395 + 263 * i ≤ 7293034; omega⟩ (fun _ _ H9 locs h9 hP1 hk1 hS9 => ?_)
        refine ss_rt h9 ?_
        clear h9
        obtain ⟨hP, hD⟩ := fr_mid (a := []) (b := (mW qm k cd wd se kd bn sh mb pr B R sx pt rd wt ln px)) (c := ouW k ob of ++ ((ssW qs k gd wd se pr ln px cv co B R sx pt rd wt) ++ (plW od k ad bd ed kd nb sh (ss_up mb (256 * (4 * s9 + p9) + x) v)))) (b' := (mW qm k (nI 0) wd se kd bn sh (ss_up mb (256 * (4 * s9 + p9) + x) v) pr B R sx pt rd wt ln px)) hP hD hk1 (fun q h => hA q (Nat.le_trans hS.1 h)) hP1 (rw_same hDc.self rfl)
        clear hP1 hk1 hPc hDc
        have hS := hS9
        clear hS9
        generalize H9 = H at hP hS ⊢
        have hP : va_P D vwCl ((mW qm k (nI 0) wd se kd bn sh (ss_up mb (256 * (4 * s9 + p9) + x) v) pr B R sx pt rd wt ln px) ++ (ouW k ob of ++ ((ssW qs k gd wd se pr ln px cv co B R sx pt rd wt) ++ (plW od k ad bd ed kd nb sh (ss_up mb (256 * (4 * s9 + p9) + x) v))))) _ := hP
        have hD : va_D A ((mW qm k (nI 0) wd se kd bn sh (ss_up mb (256 * (4 * s9 + p9) + x) v) pr B R sx pt rd wt ln px) ++ (ouW k ob of ++ ((ssW qs k gd wd se pr ln px cv co B R sx pt rd wt) ++ (plW od k ad bd ed kd nb sh (ss_up mb (256 * (4 * s9 + p9) + x) v))))) := hD
        refine lv_icmp_eq (tgt := 661) hx hb d_LW_law_272 (by decide) (fun c1 => ?_) (fun c1 => ?_)
        · have c1 := (Int32.toInt_inj.symm).mp c1
          refine lv_iinc (v := nI (5 * (i + 1))) (lv' := [(4, .int (nI (5 * (i + 1)))), (0, .ref b), (1, .ref (qs 0)), (2, .ref (qm 0)), (3, .ref ob)]) hx hb d_LW_law_661 hl (k := 0) rfl ((nI_add (5 * i) 5).trans (by rw [Nat.mul_succ])) (by decide) rfl (fun ls hl => ?_)
          refine lv_goto (tgt := 23) hx hb d_LW_law_664 (by decide) ?_
          refine W.widen (k := 21 + 3 * (i + 1)) (n := 9395 + 263 * (i + 1)) (by show 21 + 3 * i ≤ _; omega) (by show 9395 + 263 * i ≤ _; omega) ?_
          exact ih (nI 0) gd wd se pr ln px cv co B R sx pt rd wt od ad bd ed kd nb sh (ss_up mb (256 * (4 * s9 + p9) + x) v) bn of _ _ _ ⟨hwd, hse, hpr, hln, hB, hR, hsx, hpt, hwt, hO, hkd, hsh, ss_up_lt hmb hv9, hbn, hz_up hz (by omega) (by omega)⟩ hP hD hS (lv_sub hl [0, 1, 2, 3, 4] rfl)
        · have c1 := mt (Int32.toInt_inj.symm).mpr c1
          exfalso; omega
      · skip
        refine lv_aload_n hx hb d_LW_law_216 rfl (lv_at hl 2 rfl) ?_
        refine lv_aload_n hx hb d_LW_law_217 rfl (lv_at hl 1 rfl) ?_
        refine lv_iload hx hb d_LW_law_218 (lv_at hl 0 rfl) ?_
        refine lv_iconst (v := nI 1) hx hb d_LW_law_220 (by decide +kernel) ?_
        refine lv_iadd hx hb d_LW_law_221 ?_
        refine ss_rt (y := nI (5 * i + 1)) (nI_add _ _) ?_
        refine va_sld hx hb hsc hbl hbA hS (vp_in_nI (by omega) (by omega)) d_LW_law_222 ?_
        refine ss_rt (y := nI s9) (by rw [nI_clamp (by omega)]; exact hx1.symm) ?_
        refine lv_aload_n hx hb d_LW_law_223 rfl (lv_at hl 1 rfl) ?_
        refine lv_iload hx hb d_LW_law_224 (lv_at hl 0 rfl) ?_
        refine lv_iconst (v := nI 2) hx hb d_LW_law_226 (by decide +kernel) ?_
        refine lv_iadd hx hb d_LW_law_227 ?_
        refine ss_rt (y := nI (5 * i + 2)) (nI_add _ _) ?_
        refine va_sld hx hb hsc hbl hbA hS (vp_in_nI (by omega) (by omega)) d_LW_law_228 ?_
        refine ss_rt (y := nI p9) (by rw [nI_clamp (by omega)]; exact hx2.symm) ?_
        refine lv_aload_n hx hb d_LW_law_229 rfl (lv_at hl 1 rfl) ?_
        refine lv_iload hx hb d_LW_law_230 (lv_at hl 0 rfl) ?_
        refine lv_iconst (v := nI 3) hx hb d_LW_law_232 (by decide +kernel) ?_
        refine lv_iadd hx hb d_LW_law_233 ?_
        refine ss_rt (y := nI (5 * i + 3)) (nI_add _ _) ?_
        refine va_sld hx hb hsc hbl hbA hS (vp_in_nI (by omega) (by omega)) d_LW_law_234 ?_
        refine ss_rt (y := x3) (by rw [nI_clamp (by omega)]; exact hx3.symm) ?_
        refine lv_aload_n hx hb d_LW_law_235 rfl (lv_at hl 1 rfl) ?_
        refine lv_iload hx hb d_LW_law_236 (lv_at hl 0 rfl) ?_
        refine lv_iconst (v := nI 4) hx hb d_LW_law_238 (by decide +kernel) ?_
        refine lv_iadd hx hb d_LW_law_239 ?_
        refine ss_rt (y := nI (5 * i + 4)) (nI_add _ _) ?_
        refine va_sld hx hb hsc hbl hbA hS (vp_in_nI (by omega) (by omega)) d_LW_law_240 ?_
        refine ss_rt (y := nI v) (by rw [nI_clamp (by omega)]; exact hx4.symm) ?_
        have hPc : va_P D vwCl ((ssW qs k gd wd se pr ln px cv co B R sx pt rd wt) ++ (plW od k ad bd ed kd nb sh mb)) _ := va_tlP (a := ((mW qm k cd wd se kd bn sh mb pr B R sx pt rd wt ln px) ++ ouW k ob of)) (b := ((ssW qs k gd wd se pr ln px cv co B R sx pt rd wt) ++ (plW od k ad bd ed kd nb sh mb))) hP
        have hDc : va_D A ((ssW qs k gd wd se pr ln px cv co B R sx pt rd wt) ++ (plW od k ad bd ed kd nb sh mb)) := va_tlD (a := ((mW qm k cd wd se kd bn sh mb pr B R sx pt rd wt ln px) ++ ouW k ob of)) (b := ((ssW qs k gd wd se pr ln px cv co B R sx pt rd wt) ++ (plW od k ad bd ed kd nb sh mb))) hD
        refine kxw_iV (As := [.int (nI s9), .int (nI p9), .int x3, .int (nI v)]) (rest := []) ⟨hx, hb, hml, hown, hts⟩ (c_SS_burno l D k qs gd wd se pr ln px cv co B R sx pt rd wt od ad bd ed kd nb sh mb hwd hse hpr hO hkd hmb s9 p9 v hs9 hp9 hv9 x3 ⟨fun _ => hq, fun z => by omega⟩) (cwV 4 hts (gV w_103 w_104 w_105 w_1 w_106) rfl rfl rfl (by decide +kernel) ⟨Nat.le_of_ble_eq_true rfl, Nat.le_of_ble_eq_true rfl⟩) hK hX hPc hDc hS hA (va_recv hK hPc (ci := 0) (q0 := 0) rfl rfl) rfl hl.1 rfl (Nat.le_of_ble_eq_true rfl) d_LW_law_241 ⟨by show 21 + 3 * i ≤ 601024; omega, by show 9395 + 263 * i ≤ 7293034; omega⟩ (fun _ _ H9 locs h9 hP1 hk1 hS9 => ?_)
        subst h9
        obtain ⟨hP, hD⟩ := fr_tl (a := ((mW qm k cd wd se kd bn sh mb pr B R sx pt rd wt ln px) ++ ouW k ob of)) (b := ((ssW qs k gd wd se pr ln px cv co B R sx pt rd wt) ++ (plW od k ad bd ed kd nb sh mb))) (b' := ((ssW qs k gd wd se pr ln px cv co B R sx pt rd wt) ++ (plW od k ad bd ed kd nb sh mb))) hP hD hk1 (fun q h => hA q (Nat.le_trans hS.1 h)) hP1 (rw_same hDc.self (ss_ad rfl _ _ _ _ _ _ _ _ _ _ _))
        clear hP1 hk1 hPc hDc
        have hS := hS9
        clear hS9
        generalize H9 = H at hP hS ⊢
        have hP : va_P D vwCl ((mW qm k cd wd se kd bn sh mb pr B R sx pt rd wt ln px) ++ (ouW k ob of ++ ((ssW qs k gd wd se pr ln px cv co B R sx pt rd wt) ++ (plW od k ad bd ed kd nb sh mb)))) _ := hP
        have hD : va_D A ((mW qm k cd wd se kd bn sh mb pr B R sx pt rd wt ln px) ++ (ouW k ob of ++ ((ssW qs k gd wd se pr ln px cv co B R sx pt rd wt) ++ (plW od k ad bd ed kd nb sh mb)))) := hD
        refine lv_aload_n hx hb d_LW_law_244 rfl (lv_at hl 3 rfl) ?_
        refine lv_aload_n hx hb d_LW_law_245 rfl (lv_at hl 1 rfl) ?_
        refine lv_iload hx hb d_LW_law_246 (lv_at hl 0 rfl) ?_
        refine lv_iconst (v := nI 1) hx hb d_LW_law_248 (by decide +kernel) ?_
        refine lv_iadd hx hb d_LW_law_249 ?_
        refine ss_rt (y := nI (5 * i + 1)) (nI_add _ _) ?_
        refine va_sld hx hb hsc hbl hbA hS (vp_in_nI (by omega) (by omega)) d_LW_law_250 ?_
        refine ss_rt (y := nI s9) (by rw [nI_clamp (by omega)]; exact hx1.symm) ?_
        refine lv_aload_n hx hb d_LW_law_251 rfl (lv_at hl 1 rfl) ?_
        refine lv_iload hx hb d_LW_law_252 (lv_at hl 0 rfl) ?_
        refine lv_iconst (v := nI 2) hx hb d_LW_law_254 (by decide +kernel) ?_
        refine lv_iadd hx hb d_LW_law_255 ?_
        refine ss_rt (y := nI (5 * i + 2)) (nI_add _ _) ?_
        refine va_sld hx hb hsc hbl hbA hS (vp_in_nI (by omega) (by omega)) d_LW_law_256 ?_
        refine ss_rt (y := nI p9) (by rw [nI_clamp (by omega)]; exact hx2.symm) ?_
        refine lv_aload_n hx hb d_LW_law_257 rfl (lv_at hl 1 rfl) ?_
        refine lv_iload hx hb d_LW_law_258 (lv_at hl 0 rfl) ?_
        refine lv_iconst (v := nI 3) hx hb d_LW_law_260 (by decide +kernel) ?_
        refine lv_iadd hx hb d_LW_law_261 ?_
        refine ss_rt (y := nI (5 * i + 3)) (nI_add _ _) ?_
        refine va_sld hx hb hsc hbl hbA hS (vp_in_nI (by omega) (by omega)) d_LW_law_262 ?_
        refine ss_rt (y := x3) (by rw [nI_clamp (by omega)]; exact hx3.symm) ?_
        refine lv_aload_n hx hb d_LW_law_263 rfl (lv_at hl 1 rfl) ?_
        refine lv_iload hx hb d_LW_law_264 (lv_at hl 0 rfl) ?_
        refine lv_iconst (v := nI 4) hx hb d_LW_law_266 (by decide +kernel) ?_
        refine lv_iadd hx hb d_LW_law_267 ?_
        refine ss_rt (y := nI (5 * i + 4)) (nI_add _ _) ?_
        refine va_sld hx hb hsc hbl hbA hS (vp_in_nI (by omega) (by omega)) d_LW_law_268 ?_
        refine ss_rt (y := nI v) (by rw [nI_clamp (by omega)]; exact hx4.symm) ?_
        have hPc : va_P D vwCl (mW qm k cd wd se kd bn sh mb pr B R sx pt rd wt ln px) _ := va_subP (a := []) (b := (mW qm k cd wd se kd bn sh mb pr B R sx pt rd wt ln px)) (c := ouW k ob of ++ ((ssW qs k gd wd se pr ln px cv co B R sx pt rd wt) ++ (plW od k ad bd ed kd nb sh mb))) hP
        have hDc : va_D A (mW qm k cd wd se kd bn sh mb pr B R sx pt rd wt ln px) := va_subD (a := []) (b := (mW qm k cd wd se kd bn sh mb pr B R sx pt rd wt ln px)) (c := ouW k ob of ++ ((ssW qs k gd wd se pr ln px cv co B R sx pt rd wt) ++ (plW od k ad bd ed kd nb sh mb))) hD
        refine kw_iV (As := [.int (nI s9), .int (nI p9), .int x3, .int (nI v)]) (rest := [.int (nI 0)]) ⟨hx, hb, hml, hown, hts⟩ (c_MO_burn2o l D k qm cd wd se kd bn sh mb pr B R sx pt rd wt ln px hkd hmb s9 p9 v hs9 hp9 hv9 k2 x3 hq) (cwV 4 hts (gV w_594 w_595 w_596 w_5 w_597) rfl rfl rfl (by decide +kernel) ⟨Nat.le_of_ble_eq_true rfl, Nat.le_of_ble_eq_true rfl⟩) hK hPc hDc hS hA (va_recv hK hPc (ci := 7) (q0 := 0) rfl rfl) rfl hl.1 rfl (Nat.le_of_ble_eq_true rfl) d_LW_law_269 ⟨by show 21 + 3 * i ≤ 601024; omega, by show 9395 + 263 * i ≤ 7293034; omega⟩ (fun _ _ H9 locs h9 hP1 hk1 hS9 => ?_)
        refine ss_rt h9 ?_
        clear h9
        obtain ⟨hP, hD⟩ := fr_mid (a := []) (b := (mW qm k cd wd se kd bn sh mb pr B R sx pt rd wt ln px)) (c := ouW k ob of ++ ((ssW qs k gd wd se pr ln px cv co B R sx pt rd wt) ++ (plW od k ad bd ed kd nb sh mb))) (b' := (mW qm k (nI 0) wd se kd bn sh mb pr B R sx pt rd wt ln px)) hP hD hk1 (fun q h => hA q (Nat.le_trans hS.1 h)) hP1 (rw_same hDc.self rfl)
        clear hP1 hk1 hPc hDc
        have hS := hS9
        clear hS9
        generalize H9 = H at hP hS ⊢
        have hP : va_P D vwCl ((mW qm k (nI 0) wd se kd bn sh mb pr B R sx pt rd wt ln px) ++ (ouW k ob of ++ ((ssW qs k gd wd se pr ln px cv co B R sx pt rd wt) ++ (plW od k ad bd ed kd nb sh mb)))) _ := hP
        have hD : va_D A ((mW qm k (nI 0) wd se kd bn sh mb pr B R sx pt rd wt ln px) ++ (ouW k ob of ++ ((ssW qs k gd wd se pr ln px cv co B R sx pt rd wt) ++ (plW od k ad bd ed kd nb sh mb)))) := hD
        refine lv_icmp_eq (tgt := 661) hx hb d_LW_law_272 (by decide) (fun c2 => ?_) (fun c2 => ?_)
        · have c2 := (Int32.toInt_inj.symm).mp c2
          refine lv_iinc (v := nI (5 * (i + 1))) (lv' := [(4, .int (nI (5 * (i + 1)))), (0, .ref b), (1, .ref (qs 0)), (2, .ref (qm 0)), (3, .ref ob)]) hx hb d_LW_law_661 hl (k := 0) rfl ((nI_add (5 * i) 5).trans (by rw [Nat.mul_succ])) (by decide) rfl (fun ls hl => ?_)
          refine lv_goto (tgt := 23) hx hb d_LW_law_664 (by decide) ?_
          refine W.widen (k := 21 + 3 * (i + 1)) (n := 9395 + 263 * (i + 1)) (by show 21 + 3 * i ≤ _; omega) (by show 9395 + 263 * i ≤ _; omega) ?_
          exact ih (nI 0) gd wd se pr ln px cv co B R sx pt rd wt od ad bd ed kd nb sh mb bn of _ _ _ ⟨hwd, hse, hpr, hln, hB, hR, hsx, hpt, hwt, hO, hkd, hsh, hmb, hbn, hz⟩ hP hD hS (lv_sub hl [0, 1, 2, 3, 4] rfl)
        · have c2 := mt (Int32.toInt_inj.symm).mpr c2
          exfalso; omega
    by_cases k3 : kd (4 * s9 + p9) = 3
    · obtain ⟨hn1, hn2, -⟩ := hO.2.2.2 (4 * s9 + p9) (by omega) k3
      have hb3 := hbn (4 * s9 + p9) (by omega) k3
      by_cases hq : 0 ≤ x3.toInt ∧ x3.toInt < 32 * (nb (4 * s9 + p9) : Int)
      · obtain ⟨x, hxx, rfl⟩ := n_ix (x := x3) (n := 32 * nb (4 * s9 + p9)) hq.1 (by omega)
        refine lv_aload_n hx hb d_LW_law_216 rfl (lv_at hl 2 rfl) ?_
        refine lv_aload_n hx hb d_LW_law_217 rfl (lv_at hl 1 rfl) ?_
        refine lv_iload hx hb d_LW_law_218 (lv_at hl 0 rfl) ?_
        refine lv_iconst (v := nI 1) hx hb d_LW_law_220 (by decide +kernel) ?_
        refine lv_iadd hx hb d_LW_law_221 ?_
        refine ss_rt (y := nI (5 * i + 1)) (nI_add _ _) ?_
        refine va_sld hx hb hsc hbl hbA hS (vp_in_nI (by omega) (by omega)) d_LW_law_222 ?_
        refine ss_rt (y := nI s9) (by rw [nI_clamp (by omega)]; exact hx1.symm) ?_
        refine lv_aload_n hx hb d_LW_law_223 rfl (lv_at hl 1 rfl) ?_
        refine lv_iload hx hb d_LW_law_224 (lv_at hl 0 rfl) ?_
        refine lv_iconst (v := nI 2) hx hb d_LW_law_226 (by decide +kernel) ?_
        refine lv_iadd hx hb d_LW_law_227 ?_
        refine ss_rt (y := nI (5 * i + 2)) (nI_add _ _) ?_
        refine va_sld hx hb hsc hbl hbA hS (vp_in_nI (by omega) (by omega)) d_LW_law_228 ?_
        refine ss_rt (y := nI p9) (by rw [nI_clamp (by omega)]; exact hx2.symm) ?_
        refine lv_aload_n hx hb d_LW_law_229 rfl (lv_at hl 1 rfl) ?_
        refine lv_iload hx hb d_LW_law_230 (lv_at hl 0 rfl) ?_
        refine lv_iconst (v := nI 3) hx hb d_LW_law_232 (by decide +kernel) ?_
        refine lv_iadd hx hb d_LW_law_233 ?_
        refine ss_rt (y := nI (5 * i + 3)) (nI_add _ _) ?_
        refine va_sld hx hb hsc hbl hbA hS (vp_in_nI (by omega) (by omega)) d_LW_law_234 ?_
        refine ss_rt (y := nI x) (by rw [nI_clamp (by omega)]; exact hx3.symm) ?_
        refine lv_aload_n hx hb d_LW_law_235 rfl (lv_at hl 1 rfl) ?_
        refine lv_iload hx hb d_LW_law_236 (lv_at hl 0 rfl) ?_
        refine lv_iconst (v := nI 4) hx hb d_LW_law_238 (by decide +kernel) ?_
        refine lv_iadd hx hb d_LW_law_239 ?_
        refine ss_rt (y := nI (5 * i + 4)) (nI_add _ _) ?_
        refine va_sld hx hb hsc hbl hbA hS (vp_in_nI (by omega) (by omega)) d_LW_law_240 ?_
        refine ss_rt (y := nI v) (by rw [nI_clamp (by omega)]; exact hx4.symm) ?_
        have hPc : va_P D vwCl ((ssW qs k gd wd se pr ln px cv co B R sx pt rd wt) ++ (plW od k ad bd ed kd nb sh mb)) _ := va_tlP (a := ((mW qm k cd wd se kd bn sh mb pr B R sx pt rd wt ln px) ++ ouW k ob of)) (b := ((ssW qs k gd wd se pr ln px cv co B R sx pt rd wt) ++ (plW od k ad bd ed kd nb sh mb))) hP
        have hDc : va_D A ((ssW qs k gd wd se pr ln px cv co B R sx pt rd wt) ++ (plW od k ad bd ed kd nb sh mb)) := va_tlD (a := ((mW qm k cd wd se kd bn sh mb pr B R sx pt rd wt ln px) ++ ouW k ob of)) (b := ((ssW qs k gd wd se pr ln px cv co B R sx pt rd wt) ++ (plW od k ad bd ed kd nb sh mb))) hD
        refine kxw_iV (As := [.int (nI s9), .int (nI p9), .int (nI x), .int (nI v)]) (rest := []) ⟨hx, hb, hml, hown, hts⟩ (c_SS_burn3 l D k qs gd wd se pr ln px cv co B R sx pt rd wt od ad bd ed kd nb sh mb hwd hse hpr hO hkd hmb s9 p9 v hs9 hp9 hv9 k3 x hxx) (cwV 4 hts (gV w_103 w_104 w_105 w_1 w_106) rfl rfl rfl (by decide +kernel) ⟨Nat.le_of_ble_eq_true rfl, Nat.le_of_ble_eq_true rfl⟩) hK hX hPc hDc hS hA (va_recv hK hPc (ci := 0) (q0 := 0) rfl rfl) rfl hl.1 rfl (Nat.le_of_ble_eq_true rfl) d_LW_law_241 ⟨by show 21 + 3 * i ≤ 601024; omega, by show 9395 + 263 * i ≤ 7293034; omega⟩ (fun _ _ H9 locs h9 hP1 hk1 hS9 => ?_)
        subst h9
        obtain ⟨hP, hD⟩ := fr_tl (a := ((mW qm k cd wd se kd bn sh mb pr B R sx pt rd wt ln px) ++ ouW k ob of)) (b := ((ssW qs k gd wd se pr ln px cv co B R sx pt rd wt) ++ (plW od k ad bd ed kd nb sh mb))) (b' := ((ssW qs k gd wd se pr ln px cv co B R sx pt rd wt) ++ (plW od k ad bd ed kd nb sh (ss_up mb (256 * (4 * s9 + p9) + x) v)))) hP hD hk1 (fun q h => hA q (Nat.le_trans hS.1 h)) hP1 (rw_same hDc.self (ss_ad rfl _ _ _ _ _ _ _ _ _ _ _))
        clear hP1 hk1 hPc hDc
        have hS := hS9
        clear hS9
        generalize H9 = H at hP hS ⊢
        have hP : va_P D vwCl ((mW qm k cd wd se kd bn sh mb pr B R sx pt rd wt ln px) ++ (ouW k ob of ++ ((ssW qs k gd wd se pr ln px cv co B R sx pt rd wt) ++ (plW od k ad bd ed kd nb sh (ss_up mb (256 * (4 * s9 + p9) + x) v))))) _ := hP
        have hD : va_D A ((mW qm k cd wd se kd bn sh mb pr B R sx pt rd wt ln px) ++ (ouW k ob of ++ ((ssW qs k gd wd se pr ln px cv co B R sx pt rd wt) ++ (plW od k ad bd ed kd nb sh (ss_up mb (256 * (4 * s9 + p9) + x) v))))) := hD
        refine lv_aload_n hx hb d_LW_law_244 rfl (lv_at hl 3 rfl) ?_
        refine lv_aload_n hx hb d_LW_law_245 rfl (lv_at hl 1 rfl) ?_
        refine lv_iload hx hb d_LW_law_246 (lv_at hl 0 rfl) ?_
        refine lv_iconst (v := nI 1) hx hb d_LW_law_248 (by decide +kernel) ?_
        refine lv_iadd hx hb d_LW_law_249 ?_
        refine ss_rt (y := nI (5 * i + 1)) (nI_add _ _) ?_
        refine va_sld hx hb hsc hbl hbA hS (vp_in_nI (by omega) (by omega)) d_LW_law_250 ?_
        refine ss_rt (y := nI s9) (by rw [nI_clamp (by omega)]; exact hx1.symm) ?_
        refine lv_aload_n hx hb d_LW_law_251 rfl (lv_at hl 1 rfl) ?_
        refine lv_iload hx hb d_LW_law_252 (lv_at hl 0 rfl) ?_
        refine lv_iconst (v := nI 2) hx hb d_LW_law_254 (by decide +kernel) ?_
        refine lv_iadd hx hb d_LW_law_255 ?_
        refine ss_rt (y := nI (5 * i + 2)) (nI_add _ _) ?_
        refine va_sld hx hb hsc hbl hbA hS (vp_in_nI (by omega) (by omega)) d_LW_law_256 ?_
        refine ss_rt (y := nI p9) (by rw [nI_clamp (by omega)]; exact hx2.symm) ?_
        refine lv_aload_n hx hb d_LW_law_257 rfl (lv_at hl 1 rfl) ?_
        refine lv_iload hx hb d_LW_law_258 (lv_at hl 0 rfl) ?_
        refine lv_iconst (v := nI 3) hx hb d_LW_law_260 (by decide +kernel) ?_
        refine lv_iadd hx hb d_LW_law_261 ?_
        refine ss_rt (y := nI (5 * i + 3)) (nI_add _ _) ?_
        refine va_sld hx hb hsc hbl hbA hS (vp_in_nI (by omega) (by omega)) d_LW_law_262 ?_
        refine ss_rt (y := nI x) (by rw [nI_clamp (by omega)]; exact hx3.symm) ?_
        refine lv_aload_n hx hb d_LW_law_263 rfl (lv_at hl 1 rfl) ?_
        refine lv_iload hx hb d_LW_law_264 (lv_at hl 0 rfl) ?_
        refine lv_iconst (v := nI 4) hx hb d_LW_law_266 (by decide +kernel) ?_
        refine lv_iadd hx hb d_LW_law_267 ?_
        refine ss_rt (y := nI (5 * i + 4)) (nI_add _ _) ?_
        refine va_sld hx hb hsc hbl hbA hS (vp_in_nI (by omega) (by omega)) d_LW_law_268 ?_
        refine ss_rt (y := nI v) (by rw [nI_clamp (by omega)]; exact hx4.symm) ?_
        have hPc : va_P D vwCl (mW qm k cd wd se kd bn sh mb pr B R sx pt rd wt ln px) _ := va_subP (a := []) (b := (mW qm k cd wd se kd bn sh mb pr B R sx pt rd wt ln px)) (c := ouW k ob of ++ ((ssW qs k gd wd se pr ln px cv co B R sx pt rd wt) ++ (plW od k ad bd ed kd nb sh (ss_up mb (256 * (4 * s9 + p9) + x) v)))) hP
        have hDc : va_D A (mW qm k cd wd se kd bn sh mb pr B R sx pt rd wt ln px) := va_subD (a := []) (b := (mW qm k cd wd se kd bn sh mb pr B R sx pt rd wt ln px)) (c := ouW k ob of ++ ((ssW qs k gd wd se pr ln px cv co B R sx pt rd wt) ++ (plW od k ad bd ed kd nb sh (ss_up mb (256 * (4 * s9 + p9) + x) v)))) hD
        refine kw_iV (As := [.int (nI s9), .int (nI p9), .int (nI x), .int (nI v)]) (rest := [.int (nI 1)]) ⟨hx, hb, hml, hown, hts⟩ (c_MO_burn3 l D k qm cd wd se kd bn sh mb pr B R sx pt rd wt ln px hkd hmb s9 p9 v hs9 hp9 hv9 k3 (nb (4 * s9 + p9)) hn1 hn2 hb3 x hxx) (cwV 4 hts (gV w_594 w_595 w_596 w_5 w_597) rfl rfl rfl (by decide +kernel) ⟨Nat.le_of_ble_eq_true rfl, Nat.le_of_ble_eq_true rfl⟩) hK hPc hDc hS hA (va_recv hK hPc (ci := 7) (q0 := 0) rfl rfl) rfl hl.1 rfl (Nat.le_of_ble_eq_true rfl) d_LW_law_269 ⟨by show 21 + 3 * i ≤ 601024; omega, by show 9395 + 263 * i ≤ 7293034; omega⟩ (fun _ _ H9 locs h9 hP1 hk1 hS9 => ?_)
        refine ss_rt h9 ?_
        clear h9
        obtain ⟨hP, hD⟩ := fr_mid (a := []) (b := (mW qm k cd wd se kd bn sh mb pr B R sx pt rd wt ln px)) (c := ouW k ob of ++ ((ssW qs k gd wd se pr ln px cv co B R sx pt rd wt) ++ (plW od k ad bd ed kd nb sh (ss_up mb (256 * (4 * s9 + p9) + x) v)))) (b' := (mW qm k (nI 0) wd se kd bn sh (ss_up mb (256 * (4 * s9 + p9) + x) v) pr B R sx pt rd wt ln px)) hP hD hk1 (fun q h => hA q (Nat.le_trans hS.1 h)) hP1 (rw_same hDc.self rfl)
        clear hP1 hk1 hPc hDc
        have hS := hS9
        clear hS9
        generalize H9 = H at hP hS ⊢
        have hP : va_P D vwCl ((mW qm k (nI 0) wd se kd bn sh (ss_up mb (256 * (4 * s9 + p9) + x) v) pr B R sx pt rd wt ln px) ++ (ouW k ob of ++ ((ssW qs k gd wd se pr ln px cv co B R sx pt rd wt) ++ (plW od k ad bd ed kd nb sh (ss_up mb (256 * (4 * s9 + p9) + x) v))))) _ := hP
        have hD : va_D A ((mW qm k (nI 0) wd se kd bn sh (ss_up mb (256 * (4 * s9 + p9) + x) v) pr B R sx pt rd wt ln px) ++ (ouW k ob of ++ ((ssW qs k gd wd se pr ln px cv co B R sx pt rd wt) ++ (plW od k ad bd ed kd nb sh (ss_up mb (256 * (4 * s9 + p9) + x) v))))) := hD
        refine lv_icmp_eq (tgt := 661) hx hb d_LW_law_272 (by decide) (fun c3 => ?_) (fun c3 => ?_)
        · have c3 := (Int32.toInt_inj.symm).mp c3
          refine lv_iinc (v := nI (5 * (i + 1))) (lv' := [(4, .int (nI (5 * (i + 1)))), (0, .ref b), (1, .ref (qs 0)), (2, .ref (qm 0)), (3, .ref ob)]) hx hb d_LW_law_661 hl (k := 0) rfl ((nI_add (5 * i) 5).trans (by rw [Nat.mul_succ])) (by decide) rfl (fun ls hl => ?_)
          refine lv_goto (tgt := 23) hx hb d_LW_law_664 (by decide) ?_
          refine W.widen (k := 21 + 3 * (i + 1)) (n := 9395 + 263 * (i + 1)) (by show 21 + 3 * i ≤ _; omega) (by show 9395 + 263 * i ≤ _; omega) ?_
          exact ih (nI 0) gd wd se pr ln px cv co B R sx pt rd wt od ad bd ed kd nb sh (ss_up mb (256 * (4 * s9 + p9) + x) v) bn of _ _ _ ⟨hwd, hse, hpr, hln, hB, hR, hsx, hpt, hwt, hO, hkd, hsh, ss_up_lt hmb hv9, hbn, hz_up hz (by omega) (by omega)⟩ hP hD hS (lv_sub hl [0, 1, 2, 3, 4] rfl)
        · have c3 := mt (Int32.toInt_inj.symm).mpr c3
          exfalso; omega
      · skip
        refine lv_aload_n hx hb d_LW_law_216 rfl (lv_at hl 2 rfl) ?_
        refine lv_aload_n hx hb d_LW_law_217 rfl (lv_at hl 1 rfl) ?_
        refine lv_iload hx hb d_LW_law_218 (lv_at hl 0 rfl) ?_
        refine lv_iconst (v := nI 1) hx hb d_LW_law_220 (by decide +kernel) ?_
        refine lv_iadd hx hb d_LW_law_221 ?_
        refine ss_rt (y := nI (5 * i + 1)) (nI_add _ _) ?_
        refine va_sld hx hb hsc hbl hbA hS (vp_in_nI (by omega) (by omega)) d_LW_law_222 ?_
        refine ss_rt (y := nI s9) (by rw [nI_clamp (by omega)]; exact hx1.symm) ?_
        refine lv_aload_n hx hb d_LW_law_223 rfl (lv_at hl 1 rfl) ?_
        refine lv_iload hx hb d_LW_law_224 (lv_at hl 0 rfl) ?_
        refine lv_iconst (v := nI 2) hx hb d_LW_law_226 (by decide +kernel) ?_
        refine lv_iadd hx hb d_LW_law_227 ?_
        refine ss_rt (y := nI (5 * i + 2)) (nI_add _ _) ?_
        refine va_sld hx hb hsc hbl hbA hS (vp_in_nI (by omega) (by omega)) d_LW_law_228 ?_
        refine ss_rt (y := nI p9) (by rw [nI_clamp (by omega)]; exact hx2.symm) ?_
        refine lv_aload_n hx hb d_LW_law_229 rfl (lv_at hl 1 rfl) ?_
        refine lv_iload hx hb d_LW_law_230 (lv_at hl 0 rfl) ?_
        refine lv_iconst (v := nI 3) hx hb d_LW_law_232 (by decide +kernel) ?_
        refine lv_iadd hx hb d_LW_law_233 ?_
        refine ss_rt (y := nI (5 * i + 3)) (nI_add _ _) ?_
        refine va_sld hx hb hsc hbl hbA hS (vp_in_nI (by omega) (by omega)) d_LW_law_234 ?_
        refine ss_rt (y := x3) (by rw [nI_clamp (by omega)]; exact hx3.symm) ?_
        refine lv_aload_n hx hb d_LW_law_235 rfl (lv_at hl 1 rfl) ?_
        refine lv_iload hx hb d_LW_law_236 (lv_at hl 0 rfl) ?_
        refine lv_iconst (v := nI 4) hx hb d_LW_law_238 (by decide +kernel) ?_
        refine lv_iadd hx hb d_LW_law_239 ?_
        refine ss_rt (y := nI (5 * i + 4)) (nI_add _ _) ?_
        refine va_sld hx hb hsc hbl hbA hS (vp_in_nI (by omega) (by omega)) d_LW_law_240 ?_
        refine ss_rt (y := nI v) (by rw [nI_clamp (by omega)]; exact hx4.symm) ?_
        have hPc : va_P D vwCl ((ssW qs k gd wd se pr ln px cv co B R sx pt rd wt) ++ (plW od k ad bd ed kd nb sh mb)) _ := va_tlP (a := ((mW qm k cd wd se kd bn sh mb pr B R sx pt rd wt ln px) ++ ouW k ob of)) (b := ((ssW qs k gd wd se pr ln px cv co B R sx pt rd wt) ++ (plW od k ad bd ed kd nb sh mb))) hP
        have hDc : va_D A ((ssW qs k gd wd se pr ln px cv co B R sx pt rd wt) ++ (plW od k ad bd ed kd nb sh mb)) := va_tlD (a := ((mW qm k cd wd se kd bn sh mb pr B R sx pt rd wt ln px) ++ ouW k ob of)) (b := ((ssW qs k gd wd se pr ln px cv co B R sx pt rd wt) ++ (plW od k ad bd ed kd nb sh mb))) hD
        refine kxw_iV (As := [.int (nI s9), .int (nI p9), .int x3, .int (nI v)]) (rest := []) ⟨hx, hb, hml, hown, hts⟩ (c_SS_burno l D k qs gd wd se pr ln px cv co B R sx pt rd wt od ad bd ed kd nb sh mb hwd hse hpr hO hkd hmb s9 p9 v hs9 hp9 hv9 x3 ⟨fun z => by omega, fun _ => hq⟩) (cwV 4 hts (gV w_103 w_104 w_105 w_1 w_106) rfl rfl rfl (by decide +kernel) ⟨Nat.le_of_ble_eq_true rfl, Nat.le_of_ble_eq_true rfl⟩) hK hX hPc hDc hS hA (va_recv hK hPc (ci := 0) (q0 := 0) rfl rfl) rfl hl.1 rfl (Nat.le_of_ble_eq_true rfl) d_LW_law_241 ⟨by show 21 + 3 * i ≤ 601024; omega, by show 9395 + 263 * i ≤ 7293034; omega⟩ (fun _ _ H9 locs h9 hP1 hk1 hS9 => ?_)
        subst h9
        obtain ⟨hP, hD⟩ := fr_tl (a := ((mW qm k cd wd se kd bn sh mb pr B R sx pt rd wt ln px) ++ ouW k ob of)) (b := ((ssW qs k gd wd se pr ln px cv co B R sx pt rd wt) ++ (plW od k ad bd ed kd nb sh mb))) (b' := ((ssW qs k gd wd se pr ln px cv co B R sx pt rd wt) ++ (plW od k ad bd ed kd nb sh mb))) hP hD hk1 (fun q h => hA q (Nat.le_trans hS.1 h)) hP1 (rw_same hDc.self (ss_ad rfl _ _ _ _ _ _ _ _ _ _ _))
        clear hP1 hk1 hPc hDc
        have hS := hS9
        clear hS9
        generalize H9 = H at hP hS ⊢
        have hP : va_P D vwCl ((mW qm k cd wd se kd bn sh mb pr B R sx pt rd wt ln px) ++ (ouW k ob of ++ ((ssW qs k gd wd se pr ln px cv co B R sx pt rd wt) ++ (plW od k ad bd ed kd nb sh mb)))) _ := hP
        have hD : va_D A ((mW qm k cd wd se kd bn sh mb pr B R sx pt rd wt ln px) ++ (ouW k ob of ++ ((ssW qs k gd wd se pr ln px cv co B R sx pt rd wt) ++ (plW od k ad bd ed kd nb sh mb)))) := hD
        refine lv_aload_n hx hb d_LW_law_244 rfl (lv_at hl 3 rfl) ?_
        refine lv_aload_n hx hb d_LW_law_245 rfl (lv_at hl 1 rfl) ?_
        refine lv_iload hx hb d_LW_law_246 (lv_at hl 0 rfl) ?_
        refine lv_iconst (v := nI 1) hx hb d_LW_law_248 (by decide +kernel) ?_
        refine lv_iadd hx hb d_LW_law_249 ?_
        refine ss_rt (y := nI (5 * i + 1)) (nI_add _ _) ?_
        refine va_sld hx hb hsc hbl hbA hS (vp_in_nI (by omega) (by omega)) d_LW_law_250 ?_
        refine ss_rt (y := nI s9) (by rw [nI_clamp (by omega)]; exact hx1.symm) ?_
        refine lv_aload_n hx hb d_LW_law_251 rfl (lv_at hl 1 rfl) ?_
        refine lv_iload hx hb d_LW_law_252 (lv_at hl 0 rfl) ?_
        refine lv_iconst (v := nI 2) hx hb d_LW_law_254 (by decide +kernel) ?_
        refine lv_iadd hx hb d_LW_law_255 ?_
        refine ss_rt (y := nI (5 * i + 2)) (nI_add _ _) ?_
        refine va_sld hx hb hsc hbl hbA hS (vp_in_nI (by omega) (by omega)) d_LW_law_256 ?_
        refine ss_rt (y := nI p9) (by rw [nI_clamp (by omega)]; exact hx2.symm) ?_
        refine lv_aload_n hx hb d_LW_law_257 rfl (lv_at hl 1 rfl) ?_
        refine lv_iload hx hb d_LW_law_258 (lv_at hl 0 rfl) ?_
        refine lv_iconst (v := nI 3) hx hb d_LW_law_260 (by decide +kernel) ?_
        refine lv_iadd hx hb d_LW_law_261 ?_
        refine ss_rt (y := nI (5 * i + 3)) (nI_add _ _) ?_
        refine va_sld hx hb hsc hbl hbA hS (vp_in_nI (by omega) (by omega)) d_LW_law_262 ?_
        refine ss_rt (y := x3) (by rw [nI_clamp (by omega)]; exact hx3.symm) ?_
        refine lv_aload_n hx hb d_LW_law_263 rfl (lv_at hl 1 rfl) ?_
        refine lv_iload hx hb d_LW_law_264 (lv_at hl 0 rfl) ?_
        refine lv_iconst (v := nI 4) hx hb d_LW_law_266 (by decide +kernel) ?_
        refine lv_iadd hx hb d_LW_law_267 ?_
        refine ss_rt (y := nI (5 * i + 4)) (nI_add _ _) ?_
        refine va_sld hx hb hsc hbl hbA hS (vp_in_nI (by omega) (by omega)) d_LW_law_268 ?_
        refine ss_rt (y := nI v) (by rw [nI_clamp (by omega)]; exact hx4.symm) ?_
        have hPc : va_P D vwCl (mW qm k cd wd se kd bn sh mb pr B R sx pt rd wt ln px) _ := va_subP (a := []) (b := (mW qm k cd wd se kd bn sh mb pr B R sx pt rd wt ln px)) (c := ouW k ob of ++ ((ssW qs k gd wd se pr ln px cv co B R sx pt rd wt) ++ (plW od k ad bd ed kd nb sh mb))) hP
        have hDc : va_D A (mW qm k cd wd se kd bn sh mb pr B R sx pt rd wt ln px) := va_subD (a := []) (b := (mW qm k cd wd se kd bn sh mb pr B R sx pt rd wt ln px)) (c := ouW k ob of ++ ((ssW qs k gd wd se pr ln px cv co B R sx pt rd wt) ++ (plW od k ad bd ed kd nb sh mb))) hD
        refine kw_iV (As := [.int (nI s9), .int (nI p9), .int x3, .int (nI v)]) (rest := [.int (nI 0)]) ⟨hx, hb, hml, hown, hts⟩ (c_MO_burn3o l D k qm cd wd se kd bn sh mb pr B R sx pt rd wt ln px hkd hmb s9 p9 v hs9 hp9 hv9 k3 (nb (4 * s9 + p9)) hn1 hn2 hb3 x3 hq) (cwV 4 hts (gV w_594 w_595 w_596 w_5 w_597) rfl rfl rfl (by decide +kernel) ⟨Nat.le_of_ble_eq_true rfl, Nat.le_of_ble_eq_true rfl⟩) hK hPc hDc hS hA (va_recv hK hPc (ci := 7) (q0 := 0) rfl rfl) rfl hl.1 rfl (Nat.le_of_ble_eq_true rfl) d_LW_law_269 ⟨by show 21 + 3 * i ≤ 601024; omega, by show 9395 + 263 * i ≤ 7293034; omega⟩ (fun _ _ H9 locs h9 hP1 hk1 hS9 => ?_)
        refine ss_rt h9 ?_
        clear h9
        obtain ⟨hP, hD⟩ := fr_mid (a := []) (b := (mW qm k cd wd se kd bn sh mb pr B R sx pt rd wt ln px)) (c := ouW k ob of ++ ((ssW qs k gd wd se pr ln px cv co B R sx pt rd wt) ++ (plW od k ad bd ed kd nb sh mb))) (b' := (mW qm k (nI 0) wd se kd bn sh mb pr B R sx pt rd wt ln px)) hP hD hk1 (fun q h => hA q (Nat.le_trans hS.1 h)) hP1 (rw_same hDc.self rfl)
        clear hP1 hk1 hPc hDc
        have hS := hS9
        clear hS9
        generalize H9 = H at hP hS ⊢
        have hP : va_P D vwCl ((mW qm k (nI 0) wd se kd bn sh mb pr B R sx pt rd wt ln px) ++ (ouW k ob of ++ ((ssW qs k gd wd se pr ln px cv co B R sx pt rd wt) ++ (plW od k ad bd ed kd nb sh mb)))) _ := hP
        have hD : va_D A ((mW qm k (nI 0) wd se kd bn sh mb pr B R sx pt rd wt ln px) ++ (ouW k ob of ++ ((ssW qs k gd wd se pr ln px cv co B R sx pt rd wt) ++ (plW od k ad bd ed kd nb sh mb)))) := hD
        refine lv_icmp_eq (tgt := 661) hx hb d_LW_law_272 (by decide) (fun c4 => ?_) (fun c4 => ?_)
        · have c4 := (Int32.toInt_inj.symm).mp c4
          refine lv_iinc (v := nI (5 * (i + 1))) (lv' := [(4, .int (nI (5 * (i + 1)))), (0, .ref b), (1, .ref (qs 0)), (2, .ref (qm 0)), (3, .ref ob)]) hx hb d_LW_law_661 hl (k := 0) rfl ((nI_add (5 * i) 5).trans (by rw [Nat.mul_succ])) (by decide) rfl (fun ls hl => ?_)
          refine lv_goto (tgt := 23) hx hb d_LW_law_664 (by decide) ?_
          refine W.widen (k := 21 + 3 * (i + 1)) (n := 9395 + 263 * (i + 1)) (by show 21 + 3 * i ≤ _; omega) (by show 9395 + 263 * i ≤ _; omega) ?_
          exact ih (nI 0) gd wd se pr ln px cv co B R sx pt rd wt od ad bd ed kd nb sh mb bn of _ _ _ ⟨hwd, hse, hpr, hln, hB, hR, hsx, hpt, hwt, hO, hkd, hsh, hmb, hbn, hz⟩ hP hD hS (lv_sub hl [0, 1, 2, 3, 4] rfl)
        · have c4 := mt (Int32.toInt_inj.symm).mpr c4
          exfalso; omega
    refine lv_aload_n hx hb d_LW_law_216 rfl (lv_at hl 2 rfl) ?_
    refine lv_aload_n hx hb d_LW_law_217 rfl (lv_at hl 1 rfl) ?_
    refine lv_iload hx hb d_LW_law_218 (lv_at hl 0 rfl) ?_
    refine lv_iconst (v := nI 1) hx hb d_LW_law_220 (by decide +kernel) ?_
    refine lv_iadd hx hb d_LW_law_221 ?_
    refine ss_rt (y := nI (5 * i + 1)) (nI_add _ _) ?_
    refine va_sld hx hb hsc hbl hbA hS (vp_in_nI (by omega) (by omega)) d_LW_law_222 ?_
    refine ss_rt (y := nI s9) (by rw [nI_clamp (by omega)]; exact hx1.symm) ?_
    refine lv_aload_n hx hb d_LW_law_223 rfl (lv_at hl 1 rfl) ?_
    refine lv_iload hx hb d_LW_law_224 (lv_at hl 0 rfl) ?_
    refine lv_iconst (v := nI 2) hx hb d_LW_law_226 (by decide +kernel) ?_
    refine lv_iadd hx hb d_LW_law_227 ?_
    refine ss_rt (y := nI (5 * i + 2)) (nI_add _ _) ?_
    refine va_sld hx hb hsc hbl hbA hS (vp_in_nI (by omega) (by omega)) d_LW_law_228 ?_
    refine ss_rt (y := nI p9) (by rw [nI_clamp (by omega)]; exact hx2.symm) ?_
    refine lv_aload_n hx hb d_LW_law_229 rfl (lv_at hl 1 rfl) ?_
    refine lv_iload hx hb d_LW_law_230 (lv_at hl 0 rfl) ?_
    refine lv_iconst (v := nI 3) hx hb d_LW_law_232 (by decide +kernel) ?_
    refine lv_iadd hx hb d_LW_law_233 ?_
    refine ss_rt (y := nI (5 * i + 3)) (nI_add _ _) ?_
    refine va_sld hx hb hsc hbl hbA hS (vp_in_nI (by omega) (by omega)) d_LW_law_234 ?_
    refine ss_rt (y := x3) (by rw [nI_clamp (by omega)]; exact hx3.symm) ?_
    refine lv_aload_n hx hb d_LW_law_235 rfl (lv_at hl 1 rfl) ?_
    refine lv_iload hx hb d_LW_law_236 (lv_at hl 0 rfl) ?_
    refine lv_iconst (v := nI 4) hx hb d_LW_law_238 (by decide +kernel) ?_
    refine lv_iadd hx hb d_LW_law_239 ?_
    refine ss_rt (y := nI (5 * i + 4)) (nI_add _ _) ?_
    refine va_sld hx hb hsc hbl hbA hS (vp_in_nI (by omega) (by omega)) d_LW_law_240 ?_
    refine ss_rt (y := nI v) (by rw [nI_clamp (by omega)]; exact hx4.symm) ?_
    have hPc : va_P D vwCl ((ssW qs k gd wd se pr ln px cv co B R sx pt rd wt) ++ (plW od k ad bd ed kd nb sh mb)) _ := va_tlP (a := ((mW qm k cd wd se kd bn sh mb pr B R sx pt rd wt ln px) ++ ouW k ob of)) (b := ((ssW qs k gd wd se pr ln px cv co B R sx pt rd wt) ++ (plW od k ad bd ed kd nb sh mb))) hP
    have hDc : va_D A ((ssW qs k gd wd se pr ln px cv co B R sx pt rd wt) ++ (plW od k ad bd ed kd nb sh mb)) := va_tlD (a := ((mW qm k cd wd se kd bn sh mb pr B R sx pt rd wt ln px) ++ ouW k ob of)) (b := ((ssW qs k gd wd se pr ln px cv co B R sx pt rd wt) ++ (plW od k ad bd ed kd nb sh mb))) hD
    refine kxw_iV (As := [.int (nI s9), .int (nI p9), .int x3, .int (nI v)]) (rest := []) ⟨hx, hb, hml, hown, hts⟩ (c_SS_burno l D k qs gd wd se pr ln px cv co B R sx pt rd wt od ad bd ed kd nb sh mb hwd hse hpr hO hkd hmb s9 p9 v hs9 hp9 hv9 x3 ⟨fun z => absurd z k2, fun z => absurd z k3⟩) (cwV 4 hts (gV w_103 w_104 w_105 w_1 w_106) rfl rfl rfl (by decide +kernel) ⟨Nat.le_of_ble_eq_true rfl, Nat.le_of_ble_eq_true rfl⟩) hK hX hPc hDc hS hA (va_recv hK hPc (ci := 0) (q0 := 0) rfl rfl) rfl hl.1 rfl (Nat.le_of_ble_eq_true rfl) d_LW_law_241 ⟨by show 21 + 3 * i ≤ 601024; omega, by show 9395 + 263 * i ≤ 7293034; omega⟩ (fun _ _ H9 locs h9 hP1 hk1 hS9 => ?_)
    subst h9
    obtain ⟨hP, hD⟩ := fr_tl (a := ((mW qm k cd wd se kd bn sh mb pr B R sx pt rd wt ln px) ++ ouW k ob of)) (b := ((ssW qs k gd wd se pr ln px cv co B R sx pt rd wt) ++ (plW od k ad bd ed kd nb sh mb))) (b' := ((ssW qs k gd wd se pr ln px cv co B R sx pt rd wt) ++ (plW od k ad bd ed kd nb sh mb))) hP hD hk1 (fun q h => hA q (Nat.le_trans hS.1 h)) hP1 (rw_same hDc.self (ss_ad rfl _ _ _ _ _ _ _ _ _ _ _))
    clear hP1 hk1 hPc hDc
    have hS := hS9
    clear hS9
    generalize H9 = H at hP hS ⊢
    have hP : va_P D vwCl ((mW qm k cd wd se kd bn sh mb pr B R sx pt rd wt ln px) ++ (ouW k ob of ++ ((ssW qs k gd wd se pr ln px cv co B R sx pt rd wt) ++ (plW od k ad bd ed kd nb sh mb)))) _ := hP
    have hD : va_D A ((mW qm k cd wd se kd bn sh mb pr B R sx pt rd wt ln px) ++ (ouW k ob of ++ ((ssW qs k gd wd se pr ln px cv co B R sx pt rd wt) ++ (plW od k ad bd ed kd nb sh mb)))) := hD
    refine lv_aload_n hx hb d_LW_law_244 rfl (lv_at hl 3 rfl) ?_
    refine lv_aload_n hx hb d_LW_law_245 rfl (lv_at hl 1 rfl) ?_
    refine lv_iload hx hb d_LW_law_246 (lv_at hl 0 rfl) ?_
    refine lv_iconst (v := nI 1) hx hb d_LW_law_248 (by decide +kernel) ?_
    refine lv_iadd hx hb d_LW_law_249 ?_
    refine ss_rt (y := nI (5 * i + 1)) (nI_add _ _) ?_
    refine va_sld hx hb hsc hbl hbA hS (vp_in_nI (by omega) (by omega)) d_LW_law_250 ?_
    refine ss_rt (y := nI s9) (by rw [nI_clamp (by omega)]; exact hx1.symm) ?_
    refine lv_aload_n hx hb d_LW_law_251 rfl (lv_at hl 1 rfl) ?_
    refine lv_iload hx hb d_LW_law_252 (lv_at hl 0 rfl) ?_
    refine lv_iconst (v := nI 2) hx hb d_LW_law_254 (by decide +kernel) ?_
    refine lv_iadd hx hb d_LW_law_255 ?_
    refine ss_rt (y := nI (5 * i + 2)) (nI_add _ _) ?_
    refine va_sld hx hb hsc hbl hbA hS (vp_in_nI (by omega) (by omega)) d_LW_law_256 ?_
    refine ss_rt (y := nI p9) (by rw [nI_clamp (by omega)]; exact hx2.symm) ?_
    refine lv_aload_n hx hb d_LW_law_257 rfl (lv_at hl 1 rfl) ?_
    refine lv_iload hx hb d_LW_law_258 (lv_at hl 0 rfl) ?_
    refine lv_iconst (v := nI 3) hx hb d_LW_law_260 (by decide +kernel) ?_
    refine lv_iadd hx hb d_LW_law_261 ?_
    refine ss_rt (y := nI (5 * i + 3)) (nI_add _ _) ?_
    refine va_sld hx hb hsc hbl hbA hS (vp_in_nI (by omega) (by omega)) d_LW_law_262 ?_
    refine ss_rt (y := x3) (by rw [nI_clamp (by omega)]; exact hx3.symm) ?_
    refine lv_aload_n hx hb d_LW_law_263 rfl (lv_at hl 1 rfl) ?_
    refine lv_iload hx hb d_LW_law_264 (lv_at hl 0 rfl) ?_
    refine lv_iconst (v := nI 4) hx hb d_LW_law_266 (by decide +kernel) ?_
    refine lv_iadd hx hb d_LW_law_267 ?_
    refine ss_rt (y := nI (5 * i + 4)) (nI_add _ _) ?_
    refine va_sld hx hb hsc hbl hbA hS (vp_in_nI (by omega) (by omega)) d_LW_law_268 ?_
    refine ss_rt (y := nI v) (by rw [nI_clamp (by omega)]; exact hx4.symm) ?_
    have hPc : va_P D vwCl (mW qm k cd wd se kd bn sh mb pr B R sx pt rd wt ln px) _ := va_subP (a := []) (b := (mW qm k cd wd se kd bn sh mb pr B R sx pt rd wt ln px)) (c := ouW k ob of ++ ((ssW qs k gd wd se pr ln px cv co B R sx pt rd wt) ++ (plW od k ad bd ed kd nb sh mb))) hP
    have hDc : va_D A (mW qm k cd wd se kd bn sh mb pr B R sx pt rd wt ln px) := va_subD (a := []) (b := (mW qm k cd wd se kd bn sh mb pr B R sx pt rd wt ln px)) (c := ouW k ob of ++ ((ssW qs k gd wd se pr ln px cv co B R sx pt rd wt) ++ (plW od k ad bd ed kd nb sh mb))) hD
    refine kw_iV (As := [.int (nI s9), .int (nI p9), .int x3, .int (nI v)]) (rest := [.int (nI 0)]) ⟨hx, hb, hml, hown, hts⟩ (c_MO_burno l D k qm cd wd se kd bn sh mb pr B R sx pt rd wt ln px hkd hmb s9 p9 v hs9 hp9 hv9 ⟨k2, k3⟩ x3) (cwV 4 hts (gV w_594 w_595 w_596 w_5 w_597) rfl rfl rfl (by decide +kernel) ⟨Nat.le_of_ble_eq_true rfl, Nat.le_of_ble_eq_true rfl⟩) hK hPc hDc hS hA (va_recv hK hPc (ci := 7) (q0 := 0) rfl rfl) rfl hl.1 rfl (Nat.le_of_ble_eq_true rfl) d_LW_law_269 ⟨by show 21 + 3 * i ≤ 601024; omega, by show 9395 + 263 * i ≤ 7293034; omega⟩ (fun _ _ H9 locs h9 hP1 hk1 hS9 => ?_)
    refine ss_rt h9 ?_
    clear h9
    obtain ⟨hP, hD⟩ := fr_mid (a := []) (b := (mW qm k cd wd se kd bn sh mb pr B R sx pt rd wt ln px)) (c := ouW k ob of ++ ((ssW qs k gd wd se pr ln px cv co B R sx pt rd wt) ++ (plW od k ad bd ed kd nb sh mb))) (b' := (mW qm k (nI 0) wd se kd bn sh mb pr B R sx pt rd wt ln px)) hP hD hk1 (fun q h => hA q (Nat.le_trans hS.1 h)) hP1 (rw_same hDc.self rfl)
    clear hP1 hk1 hPc hDc
    have hS := hS9
    clear hS9
    generalize H9 = H at hP hS ⊢
    have hP : va_P D vwCl ((mW qm k (nI 0) wd se kd bn sh mb pr B R sx pt rd wt ln px) ++ (ouW k ob of ++ ((ssW qs k gd wd se pr ln px cv co B R sx pt rd wt) ++ (plW od k ad bd ed kd nb sh mb)))) _ := hP
    have hD : va_D A ((mW qm k (nI 0) wd se kd bn sh mb pr B R sx pt rd wt ln px) ++ (ouW k ob of ++ ((ssW qs k gd wd se pr ln px cv co B R sx pt rd wt) ++ (plW od k ad bd ed kd nb sh mb)))) := hD
    refine lv_icmp_eq (tgt := 661) hx hb d_LW_law_272 (by decide) (fun c5 => ?_) (fun c5 => ?_)
    · have c5 := (Int32.toInt_inj.symm).mp c5
      refine lv_iinc (v := nI (5 * (i + 1))) (lv' := [(4, .int (nI (5 * (i + 1)))), (0, .ref b), (1, .ref (qs 0)), (2, .ref (qm 0)), (3, .ref ob)]) hx hb d_LW_law_661 hl (k := 0) rfl ((nI_add (5 * i) 5).trans (by rw [Nat.mul_succ])) (by decide) rfl (fun ls hl => ?_)
      refine lv_goto (tgt := 23) hx hb d_LW_law_664 (by decide) ?_
      refine W.widen (k := 21 + 3 * (i + 1)) (n := 9395 + 263 * (i + 1)) (by show 21 + 3 * i ≤ _; omega) (by show 9395 + 263 * i ≤ _; omega) ?_
      exact ih (nI 0) gd wd se pr ln px cv co B R sx pt rd wt od ad bd ed kd nb sh mb bn of _ _ _ ⟨hwd, hse, hpr, hln, hB, hR, hsx, hpt, hwt, hO, hkd, hsh, hmb, hbn, hz⟩ hP hD hS (lv_sub hl [0, 1, 2, 3, 4] rfl)
    · have c5 := mt (Int32.toInt_inj.symm).mpr c5
      exfalso; omega
  · skip
    refine lv_aload_n hx hb d_LW_law_216 rfl (lv_at hl 2 rfl) ?_
    refine lv_aload_n hx hb d_LW_law_217 rfl (lv_at hl 1 rfl) ?_
    refine lv_iload hx hb d_LW_law_218 (lv_at hl 0 rfl) ?_
    refine lv_iconst (v := nI 1) hx hb d_LW_law_220 (by decide +kernel) ?_
    refine lv_iadd hx hb d_LW_law_221 ?_
    refine ss_rt (y := nI (5 * i + 1)) (nI_add _ _) ?_
    refine va_sld hx hb hsc hbl hbA hS (vp_in_nI (by omega) (by omega)) d_LW_law_222 ?_
    refine ss_rt (y := x1) (by rw [nI_clamp (by omega)]; exact hx1.symm) ?_
    refine lv_aload_n hx hb d_LW_law_223 rfl (lv_at hl 1 rfl) ?_
    refine lv_iload hx hb d_LW_law_224 (lv_at hl 0 rfl) ?_
    refine lv_iconst (v := nI 2) hx hb d_LW_law_226 (by decide +kernel) ?_
    refine lv_iadd hx hb d_LW_law_227 ?_
    refine ss_rt (y := nI (5 * i + 2)) (nI_add _ _) ?_
    refine va_sld hx hb hsc hbl hbA hS (vp_in_nI (by omega) (by omega)) d_LW_law_228 ?_
    refine ss_rt (y := x2) (by rw [nI_clamp (by omega)]; exact hx2.symm) ?_
    refine lv_aload_n hx hb d_LW_law_229 rfl (lv_at hl 1 rfl) ?_
    refine lv_iload hx hb d_LW_law_230 (lv_at hl 0 rfl) ?_
    refine lv_iconst (v := nI 3) hx hb d_LW_law_232 (by decide +kernel) ?_
    refine lv_iadd hx hb d_LW_law_233 ?_
    refine ss_rt (y := nI (5 * i + 3)) (nI_add _ _) ?_
    refine va_sld hx hb hsc hbl hbA hS (vp_in_nI (by omega) (by omega)) d_LW_law_234 ?_
    refine ss_rt (y := x3) (by rw [nI_clamp (by omega)]; exact hx3.symm) ?_
    refine lv_aload_n hx hb d_LW_law_235 rfl (lv_at hl 1 rfl) ?_
    refine lv_iload hx hb d_LW_law_236 (lv_at hl 0 rfl) ?_
    refine lv_iconst (v := nI 4) hx hb d_LW_law_238 (by decide +kernel) ?_
    refine lv_iadd hx hb d_LW_law_239 ?_
    refine ss_rt (y := nI (5 * i + 4)) (nI_add _ _) ?_
    refine va_sld hx hb hsc hbl hbA hS (vp_in_nI (by omega) (by omega)) d_LW_law_240 ?_
    refine ss_rt (y := x4) (by rw [nI_clamp (by omega)]; exact hx4.symm) ?_
    have hPc : va_P D vwCl (ssW qs k gd wd se pr ln px cv co B R sx pt rd wt) _ := va_subP (a := (mW qm k cd wd se kd bn sh mb pr B R sx pt rd wt ln px) ++ ouW k ob of) (b := (ssW qs k gd wd se pr ln px cv co B R sx pt rd wt)) (c := (plW od k ad bd ed kd nb sh mb)) hP
    have hDc : va_D A (ssW qs k gd wd se pr ln px cv co B R sx pt rd wt) := va_subD (a := (mW qm k cd wd se kd bn sh mb pr B R sx pt rd wt ln px) ++ ouW k ob of) (b := (ssW qs k gd wd se pr ln px cv co B R sx pt rd wt)) (c := (plW od k ad bd ed kd nb sh mb)) hD
    refine kw_iV (As := [.int x1, .int x2, .int x3, .int x4]) (rest := []) ⟨hx, hb, hml, hown, hts⟩ (c_SS_burnb l D k qs gd wd se pr ln px cv co B R sx pt rd wt x1 x2 x3 x4 hv) (cwV 4 hts (gV w_103 w_104 w_105 w_1 w_106) rfl rfl rfl (by decide +kernel) ⟨Nat.le_of_ble_eq_true rfl, Nat.le_of_ble_eq_true rfl⟩) hK hPc hDc hS hA (va_recv hK hPc (ci := 0) (q0 := 0) rfl rfl) rfl hl.1 rfl (Nat.le_of_ble_eq_true rfl) d_LW_law_241 ⟨by show 21 + 3 * i ≤ 601024; omega, by show 9395 + 263 * i ≤ 7293034; omega⟩ (fun _ u9 H9 locs h9 hP1 hk1 hS9 => ?_)
    subst h9
    obtain ⟨hP, hD⟩ := fr_mid (a := (mW qm k cd wd se kd bn sh mb pr B R sx pt rd wt ln px) ++ ouW k ob of) (b := (ssW qs k gd wd se pr ln px cv co B R sx pt rd wt)) (c := (plW od k ad bd ed kd nb sh mb)) (b' := (ssW qs k gd wd se pr ln px cv co B R sx pt rd wt)) hP hD hk1 (fun q h => hA q (Nat.le_trans hS.1 h)) hP1 (rw_same hDc.self rfl)
    clear hP1 hk1 hPc hDc
    have hS := hS9
    clear hS9
    generalize H9 = H at hP hS ⊢
    have hP : va_P D vwCl ((mW qm k cd wd se kd bn sh mb pr B R sx pt rd wt ln px) ++ (ouW k ob of ++ ((ssW qs k gd wd se pr ln px cv co B R sx pt rd wt) ++ (plW od k ad bd ed kd nb sh mb)))) _ := hP
    have hD : va_D A ((mW qm k cd wd se kd bn sh mb pr B R sx pt rd wt ln px) ++ (ouW k ob of ++ ((ssW qs k gd wd se pr ln px cv co B R sx pt rd wt) ++ (plW od k ad bd ed kd nb sh mb)))) := hD
    refine lv_aload_n hx hb d_LW_law_244 rfl (lv_at hl 3 rfl) ?_
    refine lv_aload_n hx hb d_LW_law_245 rfl (lv_at hl 1 rfl) ?_
    refine lv_iload hx hb d_LW_law_246 (lv_at hl 0 rfl) ?_
    refine lv_iconst (v := nI 1) hx hb d_LW_law_248 (by decide +kernel) ?_
    refine lv_iadd hx hb d_LW_law_249 ?_
    refine ss_rt (y := nI (5 * i + 1)) (nI_add _ _) ?_
    refine va_sld hx hb hsc hbl hbA hS (vp_in_nI (by omega) (by omega)) d_LW_law_250 ?_
    refine ss_rt (y := x1) (by rw [nI_clamp (by omega)]; exact hx1.symm) ?_
    refine lv_aload_n hx hb d_LW_law_251 rfl (lv_at hl 1 rfl) ?_
    refine lv_iload hx hb d_LW_law_252 (lv_at hl 0 rfl) ?_
    refine lv_iconst (v := nI 2) hx hb d_LW_law_254 (by decide +kernel) ?_
    refine lv_iadd hx hb d_LW_law_255 ?_
    refine ss_rt (y := nI (5 * i + 2)) (nI_add _ _) ?_
    refine va_sld hx hb hsc hbl hbA hS (vp_in_nI (by omega) (by omega)) d_LW_law_256 ?_
    refine ss_rt (y := x2) (by rw [nI_clamp (by omega)]; exact hx2.symm) ?_
    refine lv_aload_n hx hb d_LW_law_257 rfl (lv_at hl 1 rfl) ?_
    refine lv_iload hx hb d_LW_law_258 (lv_at hl 0 rfl) ?_
    refine lv_iconst (v := nI 3) hx hb d_LW_law_260 (by decide +kernel) ?_
    refine lv_iadd hx hb d_LW_law_261 ?_
    refine ss_rt (y := nI (5 * i + 3)) (nI_add _ _) ?_
    refine va_sld hx hb hsc hbl hbA hS (vp_in_nI (by omega) (by omega)) d_LW_law_262 ?_
    refine ss_rt (y := x3) (by rw [nI_clamp (by omega)]; exact hx3.symm) ?_
    refine lv_aload_n hx hb d_LW_law_263 rfl (lv_at hl 1 rfl) ?_
    refine lv_iload hx hb d_LW_law_264 (lv_at hl 0 rfl) ?_
    refine lv_iconst (v := nI 4) hx hb d_LW_law_266 (by decide +kernel) ?_
    refine lv_iadd hx hb d_LW_law_267 ?_
    refine ss_rt (y := nI (5 * i + 4)) (nI_add _ _) ?_
    refine va_sld hx hb hsc hbl hbA hS (vp_in_nI (by omega) (by omega)) d_LW_law_268 ?_
    refine ss_rt (y := x4) (by rw [nI_clamp (by omega)]; exact hx4.symm) ?_
    have hPc : va_P D vwCl (mW qm k cd wd se kd bn sh mb pr B R sx pt rd wt ln px) _ := va_subP (a := []) (b := (mW qm k cd wd se kd bn sh mb pr B R sx pt rd wt ln px)) (c := ouW k ob of ++ ((ssW qs k gd wd se pr ln px cv co B R sx pt rd wt) ++ (plW od k ad bd ed kd nb sh mb))) hP
    have hDc : va_D A (mW qm k cd wd se kd bn sh mb pr B R sx pt rd wt ln px) := va_subD (a := []) (b := (mW qm k cd wd se kd bn sh mb pr B R sx pt rd wt ln px)) (c := ouW k ob of ++ ((ssW qs k gd wd se pr ln px cv co B R sx pt rd wt) ++ (plW od k ad bd ed kd nb sh mb))) hD
    refine kw_iV (As := [.int x1, .int x2, .int x3, .int x4]) (rest := [.int (nI 0)]) ⟨hx, hb, hml, hown, hts⟩ (c_MO_burnb l D k qm cd wd se kd bn sh mb pr B R sx pt rd wt ln px x1 x2 x3 x4 hv) (cwV 4 hts (gV w_594 w_595 w_596 w_5 w_597) rfl rfl rfl (by decide +kernel) ⟨Nat.le_of_ble_eq_true rfl, Nat.le_of_ble_eq_true rfl⟩) hK hPc hDc hS hA (va_recv hK hPc (ci := 7) (q0 := 0) rfl rfl) rfl hl.1 rfl (Nat.le_of_ble_eq_true rfl) d_LW_law_269 ⟨by show 21 + 3 * i ≤ 601024; omega, by show 9395 + 263 * i ≤ 7293034; omega⟩ (fun _ _ H9 locs h9 hP1 hk1 hS9 => ?_)
    refine ss_rt h9 ?_
    clear h9
    obtain ⟨hP, hD⟩ := fr_mid (a := []) (b := (mW qm k cd wd se kd bn sh mb pr B R sx pt rd wt ln px)) (c := ouW k ob of ++ ((ssW qs k gd wd se pr ln px cv co B R sx pt rd wt) ++ (plW od k ad bd ed kd nb sh mb))) (b' := (mW qm k (nI 0) wd se kd bn sh mb pr B R sx pt rd wt ln px)) hP hD hk1 (fun q h => hA q (Nat.le_trans hS.1 h)) hP1 (rw_same hDc.self rfl)
    clear hP1 hk1 hPc hDc
    have hS := hS9
    clear hS9
    generalize H9 = H at hP hS ⊢
    have hP : va_P D vwCl ((mW qm k (nI 0) wd se kd bn sh mb pr B R sx pt rd wt ln px) ++ (ouW k ob of ++ ((ssW qs k gd wd se pr ln px cv co B R sx pt rd wt) ++ (plW od k ad bd ed kd nb sh mb)))) _ := hP
    have hD : va_D A ((mW qm k (nI 0) wd se kd bn sh mb pr B R sx pt rd wt ln px) ++ (ouW k ob of ++ ((ssW qs k gd wd se pr ln px cv co B R sx pt rd wt) ++ (plW od k ad bd ed kd nb sh mb)))) := hD
    refine lv_icmp_eq (tgt := 661) hx hb d_LW_law_272 (by decide) (fun c6 => ?_) (fun c6 => ?_)
    · have c6 := (Int32.toInt_inj.symm).mp c6
      refine lv_iinc (v := nI (5 * (i + 1))) (lv' := [(4, .int (nI (5 * (i + 1)))), (0, .ref b), (1, .ref (qs 0)), (2, .ref (qm 0)), (3, .ref ob)]) hx hb d_LW_law_661 hl (k := 0) rfl ((nI_add (5 * i) 5).trans (by rw [Nat.mul_succ])) (by decide) rfl (fun ls hl => ?_)
      refine lv_goto (tgt := 23) hx hb d_LW_law_664 (by decide) ?_
      refine W.widen (k := 21 + 3 * (i + 1)) (n := 9395 + 263 * (i + 1)) (by show 21 + 3 * i ≤ _; omega) (by show 9395 + 263 * i ≤ _; omega) ?_
      exact ih (nI 0) gd wd se pr ln px cv co B R sx pt rd wt od ad bd ed kd nb sh mb bn of _ _ _ ⟨hwd, hse, hpr, hln, hB, hR, hsx, hpt, hwt, hO, hkd, hsh, hmb, hbn, hz⟩ hP hD hS (lv_sub hl [0, 1, 2, 3, 4] rfl)
    · have c6 := mt (Int32.toInt_inj.symm).mpr c6
      exfalso; omega
set_option maxHeartbeats 4000000 in
set_option maxRecDepth 100000 in
theorem L_widen {p : Program} {l : Launch} {e : Env} {s : State} {m : MethodId} {below : List Frame} {meth : Method} {c : Code} {b L : Nat} {xs : Nat → Int32} {D : va_G} {k : Nat → ClassId} {A : Nat → Prop} {Q : State → Prop} {qm qs : Nat → Nat} {ob : Nat} (C : LC p l s m meth c b L xs D k A) (i : Nat) (hi : 5 * i + 5 ≤ L) (ih : LG p l e s m below meth c b D k A Q qm qs ob (i + 1)) (cd : Int32) (gd : Nat → Option Nat) (wd : Nat → Nat) (se : Nat → Nat) (pr : Nat) (ln : Nat) (px : Nat → Nat) (cv : Nat) (co : Nat) (B : Nat → Nat) (R : Nat → Nat) (sx : Nat) (pt : Nat) (rd : Nat) (wt : Int32) (od : List Nat) (ad : Nat → Nat) (bd : Nat → Nat) (ed : Nat → Nat) (kd : Nat → Nat) (nb : Nat → Nat) (sh : Nat → Nat) (mb : Nat → Nat) (bn : Nat → Int32) (of : Nat → Int64) (H : Heap) (locs : List Loc) (ls : Array Slot) (hF : LF gd wd se pr ln B R sx pt wt od ad kd nb sh mb bn) (hP : va_P D vwCl ((mW qm k cd wd se kd bn sh mb pr B R sx pt rd wt ln px) ++ (ouW k ob of ++ ((ssW qs k gd wd se pr ln px cv co B R sx pt rd wt) ++ (plW od k ad bd ed kd nb sh mb)))) H) (hD : va_D A ((mW qm k cd wd se kd bn sh mb pr B R sx pt rd wt ln px) ++ (ouW k ob of ++ ((ssW qs k gd wd se pr ln px cv co B R sx pt rd wt) ++ (plW od k ad bd ed kd nb sh mb))))) (hS : va_S A s.heap H locs) (hl : lv_has ls 7 [(4, .int (nI (5 * i))), (0, .ref b), (1, .ref (qs 0)), (2, .ref (qm 0)), (3, .ref ob)]) : W p l e room_1 s m #[Value.ref b] below meth c H locs (21 + 3 * i) (9395 + 263 * i) Q (F0 m 108 ls []) := by
  obtain ⟨hx, hb, hr, hlocks, hml, hown, hts, hX, hT, hU, hK, hA, hsc, hbl, hbA, hl9, hL⟩ := C
  obtain ⟨hwd, hse, hpr, hln, hB, hR, hsx, hpt, hwt, hO, hkd, hsh, hmb, hbn, hz⟩ := hF
  obtain ⟨x1, hx1⟩ : ∃ z, z = xs (5 * i + 1) := ⟨_, rfl⟩
  by_cases hv : 0 ≤ x1.toInt ∧ x1.toInt ≤ 3
  · obtain ⟨j, hj, rfl⟩ := n_ix (n := 4) hv.1 (by omega)
    have g9 := hwd j
    by_cases h1 : wd j = 1
    · skip
      refine lv_aload_n hx hb d_LW_law_108 rfl (lv_at hl 2 rfl) ?_
      refine lv_aload_n hx hb d_LW_law_109 rfl (lv_at hl 1 rfl) ?_
      refine lv_iload hx hb d_LW_law_110 (lv_at hl 0 rfl) ?_
      refine lv_iconst (v := nI 1) hx hb d_LW_law_112 (by decide +kernel) ?_
      refine lv_iadd hx hb d_LW_law_113 ?_
      refine ss_rt (y := nI (5 * i + 1)) (nI_add _ _) ?_
      refine va_sld hx hb hsc hbl hbA hS (vp_in_nI (by omega) (by omega)) d_LW_law_114 ?_
      refine ss_rt (y := nI j) (by rw [nI_clamp (by omega)]; exact hx1.symm) ?_
      have hPc : va_P D vwCl ((ssW qs k gd wd se pr ln px cv co B R sx pt rd wt) ++ (plW od k ad bd ed kd nb sh mb)) _ := va_tlP (a := ((mW qm k cd wd se kd bn sh mb pr B R sx pt rd wt ln px) ++ ouW k ob of)) (b := ((ssW qs k gd wd se pr ln px cv co B R sx pt rd wt) ++ (plW od k ad bd ed kd nb sh mb))) hP
      have hDc : va_D A ((ssW qs k gd wd se pr ln px cv co B R sx pt rd wt) ++ (plW od k ad bd ed kd nb sh mb)) := va_tlD (a := ((mW qm k cd wd se kd bn sh mb pr B R sx pt rd wt ln px) ++ ouW k ob of)) (b := ((ssW qs k gd wd se pr ln px cv co B R sx pt rd wt) ++ (plW od k ad bd ed kd nb sh mb))) hD
      refine kh_i (n := 2) (As := [.ref (qs 0), .int (nI j)]) (rest := []) ⟨hx, hb, hml, hown, hts⟩ (h_widen1 l hl9 D k qs gd wd se pr ln px cv co B R sx pt rd wt od ad bd ed kd nb sh mb hwd hse hpr j hj h1) (Nat.le_of_ble_eq_true rfl) (Nat.le_of_ble_eq_true rfl) w_288 w_287 w_0 w_286 (by decide +kernel) hK hX hT hU hPc hDc hS hA rfl hl.1 rfl (Nat.le_of_ble_eq_true rfl) d_LW_law_115 ⟨by show 21 + 3 * i + 3 ≤ 601024; omega, by show 9395 + 263 * i + 263 ≤ 7293034; omega⟩ (fun r9 u9 H9 locs hr9 hP1 hD1 hk1 hS9 => ?_)
      subst hr9
      obtain ⟨hP, hD⟩ := fr_tl (a := ((mW qm k cd wd se kd bn sh mb pr B R sx pt rd wt ln px) ++ ouW k ob of)) (b := ((ssW qs k gd wd se pr ln px cv co B R sx pt rd wt) ++ (plW od k ad bd ed kd nb sh mb))) (b' := ((ssW qs k gd wd se pr ln px cv co B R sx pt rd wt) ++ (plW od k ad bd ed kd nb sh mb))) hP hD hk1 (fun q h => hA q (Nat.le_trans hS.1 h)) hP1 hD1
      clear hP1 hD1 hk1 hPc hDc
      have hS := hS9
      clear hS9
      generalize H9 = H at hP hS ⊢
      have hP : va_P D vwCl ((mW qm k cd wd se kd bn sh mb pr B R sx pt rd wt ln px) ++ (ouW k ob of ++ ((ssW qs k gd wd se pr ln px cv co B R sx pt rd wt) ++ (plW od k ad bd ed kd nb sh mb)))) _ := hP
      have hD : va_D A ((mW qm k cd wd se kd bn sh mb pr B R sx pt rd wt ln px) ++ (ouW k ob of ++ ((ssW qs k gd wd se pr ln px cv co B R sx pt rd wt) ++ (plW od k ad bd ed kd nb sh mb)))) := hD
      refine lv_istore (lv' := [(5, .int (nI 2)), (4, .int (nI (5 * i))), (0, .ref b), (1, .ref (qs 0)), (2, .ref (qm 0)), (3, .ref ob)]) hx hb d_LW_law_118 hl (by decide) rfl (fun ls hl => ?_)
      refine lv_aload_n hx hb d_LW_law_120 rfl (lv_at hl 4 rfl) ?_
      refine lv_aload_n hx hb d_LW_law_121 rfl (lv_at hl 2 rfl) ?_
      refine lv_iload hx hb d_LW_law_122 (lv_at hl 1 rfl) ?_
      refine lv_iconst (v := nI 1) hx hb d_LW_law_124 (by decide +kernel) ?_
      refine lv_iadd hx hb d_LW_law_125 ?_
      refine ss_rt (y := nI (5 * i + 1)) (nI_add _ _) ?_
      refine va_sld hx hb hsc hbl hbA hS (vp_in_nI (by omega) (by omega)) d_LW_law_126 ?_
      refine ss_rt (y := nI j) (by rw [nI_clamp (by omega)]; exact hx1.symm) ?_
      have hPc : va_P D vwCl (mW qm k cd wd se kd bn sh mb pr B R sx pt rd wt ln px) _ := va_subP (a := []) (b := (mW qm k cd wd se kd bn sh mb pr B R sx pt rd wt ln px)) (c := ouW k ob of ++ ((ssW qs k gd wd se pr ln px cv co B R sx pt rd wt) ++ (plW od k ad bd ed kd nb sh mb))) hP
      have hDc : va_D A (mW qm k cd wd se kd bn sh mb pr B R sx pt rd wt ln px) := va_subD (a := []) (b := (mW qm k cd wd se kd bn sh mb pr B R sx pt rd wt ln px)) (c := ouW k ob of ++ ((ssW qs k gd wd se pr ln px cv co B R sx pt rd wt) ++ (plW od k ad bd ed kd nb sh mb))) hD
      refine kw_vV (As := [.int (nI j)]) (rest := []) ⟨hx, hb, hml, hown, hts⟩ (c_MO_wident l D k qm cd wd se kd bn sh mb pr B R sx pt rd wt ln px hwd hse hpr hkd hsh hmb j hj (Or.inl h1)) (cwV 1 hts (gV w_583 w_584 w_585 w_5 w_586) rfl rfl rfl (by decide +kernel) ⟨Nat.le_of_ble_eq_true rfl, Nat.le_of_ble_eq_true rfl⟩) hK hPc hDc hS hA (va_recv hK hPc (ci := 7) (q0 := 0) rfl rfl) rfl hl.1 rfl (Nat.le_of_ble_eq_true rfl) d_LW_law_127 ⟨by show 21 + 3 * i + 3 ≤ 601024; omega, by show 9395 + 263 * i + 263 ≤ 7293034; omega⟩ (fun _ H9 locs _ hP1 hk1 hS9 => ?_)
      obtain ⟨hP, hD⟩ := fr_mid (a := []) (b := (mW qm k cd wd se kd bn sh mb pr B R sx pt rd wt ln px)) (c := ouW k ob of ++ ((ssW qs k gd wd se pr ln px cv co B R sx pt rd wt) ++ (plW od k ad bd ed kd nb sh mb))) (b' := (mW qm k (nI 2) wd se kd bn sh mb pr B R sx pt rd wt ln px)) hP hD hk1 (fun q h => hA q (Nat.le_trans hS.1 h)) hP1 (rw_same hDc.self rfl)
      clear hP1 hk1 hPc hDc
      have hS := hS9
      clear hS9
      generalize H9 = H at hP hS ⊢
      have hP : va_P D vwCl ((mW qm k (nI 2) wd se kd bn sh mb pr B R sx pt rd wt ln px) ++ (ouW k ob of ++ ((ssW qs k gd wd se pr ln px cv co B R sx pt rd wt) ++ (plW od k ad bd ed kd nb sh mb)))) _ := hP
      have hD : va_D A ((mW qm k (nI 2) wd se kd bn sh mb pr B R sx pt rd wt ln px) ++ (ouW k ob of ++ ((ssW qs k gd wd se pr ln px cv co B R sx pt rd wt) ++ (plW od k ad bd ed kd nb sh mb)))) := hD
      refine lv_aload_n hx hb d_LW_law_130 rfl (lv_at hl 4 rfl) ?_
      have hPc : va_P D vwCl (mW qm k (nI 2) wd se kd bn sh mb pr B R sx pt rd wt ln px) _ := va_subP (a := []) (b := (mW qm k (nI 2) wd se kd bn sh mb pr B R sx pt rd wt ln px)) (c := ouW k ob of ++ ((ssW qs k gd wd se pr ln px cv co B R sx pt rd wt) ++ (plW od k ad bd ed kd nb sh mb))) hP
      refine kr_iV (As := []) (rest := []) ⟨hx, hb, hml, hown, hts⟩ (c_MO_thrown l D k qm (nI 2) wd se kd bn sh mb pr B R sx pt rd wt ln px) (cwV 0 hts (gV w_579 w_580 w_581 w_5 w_582) rfl rfl rfl (by decide +kernel) ⟨Nat.le_of_ble_eq_true rfl, Nat.le_of_ble_eq_true rfl⟩) hK hPc (va_recv hK hPc (ci := 7) (q0 := 0) rfl rfl) rfl hl.1 rfl (Nat.le_of_ble_eq_true rfl) d_LW_law_131 ⟨by show 21 + 3 * i + 3 ≤ 601024; omega, by show 9395 + 263 * i + 263 ≤ 7293034; omega⟩ ?_
      refine lv_iload hx hb d_LW_law_134 (lv_at hl 0 rfl) ?_
      refine lv_icmp_eq (tgt := 141) hx hb d_LW_law_136 (by decide) (fun c1 => ?_) (fun c1 => ?_)
      · have c1 := (nI_eq (by omega) (by omega)).mp c1
        refine lv_goto (tgt := 661) hx hb d_LW_law_141 (by decide) ?_
        refine lv_iinc (v := nI (5 * (i + 1))) (lv' := [(4, .int (nI (5 * (i + 1)))), (5, .int (nI 2)), (0, .ref b), (1, .ref (qs 0)), (2, .ref (qm 0)), (3, .ref ob)]) hx hb d_LW_law_661 hl (k := 1) rfl ((nI_add (5 * i) 5).trans (by rw [Nat.mul_succ])) (by decide) rfl (fun ls hl => ?_)
        refine lv_goto (tgt := 23) hx hb d_LW_law_664 (by decide) ?_
        refine W.widen (k := 21 + 3 * (i + 1)) (n := 9395 + 263 * (i + 1)) (by show 21 + 3 * i + 3 ≤ _; omega) (by show 9395 + 263 * i + 263 ≤ _; omega) ?_
        exact ih (nI 2) gd wd se pr ln px cv co B R sx pt rd wt od ad bd ed kd nb sh mb bn of _ _ _ ⟨hwd, hse, hpr, hln, hB, hR, hsx, hpt, hwt, hO, hkd, hsh, hmb, hbn, hz⟩ hP hD hS (lv_sub hl [0, 2, 3, 4, 5] rfl)
      · have c1 := mt (nI_eq (by omega) (by omega)).mpr c1
        exfalso; omega
    by_cases h2 : kd (4 * j) = 0
    · skip
      refine lv_aload_n hx hb d_LW_law_108 rfl (lv_at hl 2 rfl) ?_
      refine lv_aload_n hx hb d_LW_law_109 rfl (lv_at hl 1 rfl) ?_
      refine lv_iload hx hb d_LW_law_110 (lv_at hl 0 rfl) ?_
      refine lv_iconst (v := nI 1) hx hb d_LW_law_112 (by decide +kernel) ?_
      refine lv_iadd hx hb d_LW_law_113 ?_
      refine ss_rt (y := nI (5 * i + 1)) (nI_add _ _) ?_
      refine va_sld hx hb hsc hbl hbA hS (vp_in_nI (by omega) (by omega)) d_LW_law_114 ?_
      refine ss_rt (y := nI j) (by rw [nI_clamp (by omega)]; exact hx1.symm) ?_
      have hPc : va_P D vwCl ((ssW qs k gd wd se pr ln px cv co B R sx pt rd wt) ++ (plW od k ad bd ed kd nb sh mb)) _ := va_tlP (a := ((mW qm k cd wd se kd bn sh mb pr B R sx pt rd wt ln px) ++ ouW k ob of)) (b := ((ssW qs k gd wd se pr ln px cv co B R sx pt rd wt) ++ (plW od k ad bd ed kd nb sh mb))) hP
      have hDc : va_D A ((ssW qs k gd wd se pr ln px cv co B R sx pt rd wt) ++ (plW od k ad bd ed kd nb sh mb)) := va_tlD (a := ((mW qm k cd wd se kd bn sh mb pr B R sx pt rd wt ln px) ++ ouW k ob of)) (b := ((ssW qs k gd wd se pr ln px cv co B R sx pt rd wt) ++ (plW od k ad bd ed kd nb sh mb))) hD
      refine kh_i (n := 2) (As := [.ref (qs 0), .int (nI j)]) (rest := []) ⟨hx, hb, hml, hown, hts⟩ (h_widen l hl9 D k qs gd wd se pr ln px cv co B R sx pt rd wt od ad bd ed kd nb sh mb hwd hse hpr j hj (by omega) (gd_none hO (by omega) h2)) (Nat.le_of_ble_eq_true rfl) (Nat.le_of_ble_eq_true rfl) w_288 w_287 w_0 w_286 (by decide +kernel) hK hX hT hU hPc hDc hS hA rfl hl.1 rfl (Nat.le_of_ble_eq_true rfl) d_LW_law_115 ⟨by show 21 + 3 * i + 3 ≤ 601024; omega, by show 9395 + 263 * i + 263 ≤ 7293034; omega⟩ (fun r9 u9 H9 locs hr9 hP1 hD1 hk1 hS9 => ?_)
      subst hr9
      obtain ⟨hP, hD⟩ := fr_tl (a := ((mW qm k cd wd se kd bn sh mb pr B R sx pt rd wt ln px) ++ ouW k ob of)) (b := ((ssW qs k gd wd se pr ln px cv co B R sx pt rd wt) ++ (plW od k ad bd ed kd nb sh mb))) (b' := ((ssW qs k gd (ss_up wd j 1) se pr ln px cv co B R sx pt rd wt) ++ (plW od k ad bd ed kd nb sh mb))) hP hD hk1 (fun q h => hA q (Nat.le_trans hS.1 h)) hP1 hD1
      clear hP1 hD1 hk1 hPc hDc
      have hS := hS9
      clear hS9
      generalize H9 = H at hP hS ⊢
      have hP : va_P D vwCl ((mW qm k cd wd se kd bn sh mb pr B R sx pt rd wt ln px) ++ (ouW k ob of ++ ((ssW qs k gd (ss_up wd j 1) se pr ln px cv co B R sx pt rd wt) ++ (plW od k ad bd ed kd nb sh mb)))) _ := hP
      have hD : va_D A ((mW qm k cd wd se kd bn sh mb pr B R sx pt rd wt ln px) ++ (ouW k ob of ++ ((ssW qs k gd (ss_up wd j 1) se pr ln px cv co B R sx pt rd wt) ++ (plW od k ad bd ed kd nb sh mb)))) := hD
      refine lv_istore (lv' := [(5, .int (nI 0)), (4, .int (nI (5 * i))), (0, .ref b), (1, .ref (qs 0)), (2, .ref (qm 0)), (3, .ref ob)]) hx hb d_LW_law_118 hl (by decide) rfl (fun ls hl => ?_)
      refine lv_aload_n hx hb d_LW_law_120 rfl (lv_at hl 4 rfl) ?_
      refine lv_aload_n hx hb d_LW_law_121 rfl (lv_at hl 2 rfl) ?_
      refine lv_iload hx hb d_LW_law_122 (lv_at hl 1 rfl) ?_
      refine lv_iconst (v := nI 1) hx hb d_LW_law_124 (by decide +kernel) ?_
      refine lv_iadd hx hb d_LW_law_125 ?_
      refine ss_rt (y := nI (5 * i + 1)) (nI_add _ _) ?_
      refine va_sld hx hb hsc hbl hbA hS (vp_in_nI (by omega) (by omega)) d_LW_law_126 ?_
      refine ss_rt (y := nI j) (by rw [nI_clamp (by omega)]; exact hx1.symm) ?_
      have hPc : va_P D vwCl (mW qm k cd wd se kd bn sh mb pr B R sx pt rd wt ln px) _ := va_subP (a := []) (b := (mW qm k cd wd se kd bn sh mb pr B R sx pt rd wt ln px)) (c := ouW k ob of ++ ((ssW qs k gd (ss_up wd j 1) se pr ln px cv co B R sx pt rd wt) ++ (plW od k ad bd ed kd nb sh mb))) hP
      have hDc : va_D A (mW qm k cd wd se kd bn sh mb pr B R sx pt rd wt ln px) := va_subD (a := []) (b := (mW qm k cd wd se kd bn sh mb pr B R sx pt rd wt ln px)) (c := ouW k ob of ++ ((ssW qs k gd (ss_up wd j 1) se pr ln px cv co B R sx pt rd wt) ++ (plW od k ad bd ed kd nb sh mb))) hD
      refine kw_vV (As := [.int (nI j)]) (rest := []) ⟨hx, hb, hml, hown, hts⟩ (c_MO_widen l D k qm cd wd se kd bn sh mb pr B R sx pt rd wt ln px hwd hse hpr hkd hsh hmb j hj (by omega) h2) (cwV 1 hts (gV w_583 w_584 w_585 w_5 w_586) rfl rfl rfl (by decide +kernel) ⟨Nat.le_of_ble_eq_true rfl, Nat.le_of_ble_eq_true rfl⟩) hK hPc hDc hS hA (va_recv hK hPc (ci := 7) (q0 := 0) rfl rfl) rfl hl.1 rfl (Nat.le_of_ble_eq_true rfl) d_LW_law_127 ⟨by show 21 + 3 * i + 3 ≤ 601024; omega, by show 9395 + 263 * i + 263 ≤ 7293034; omega⟩ (fun _ H9 locs _ hP1 hk1 hS9 => ?_)
      obtain ⟨hP, hD⟩ := fr_mid (a := []) (b := (mW qm k cd wd se kd bn sh mb pr B R sx pt rd wt ln px)) (c := ouW k ob of ++ ((ssW qs k gd (ss_up wd j 1) se pr ln px cv co B R sx pt rd wt) ++ (plW od k ad bd ed kd nb sh mb))) (b' := (mW qm k (nI 0) (ss_up wd j 1) se kd bn sh mb pr B R sx pt rd wt ln px)) hP hD hk1 (fun q h => hA q (Nat.le_trans hS.1 h)) hP1 (rw_same hDc.self rfl)
      clear hP1 hk1 hPc hDc
      have hS := hS9
      clear hS9
      generalize H9 = H at hP hS ⊢
      have hP : va_P D vwCl ((mW qm k (nI 0) (ss_up wd j 1) se kd bn sh mb pr B R sx pt rd wt ln px) ++ (ouW k ob of ++ ((ssW qs k gd (ss_up wd j 1) se pr ln px cv co B R sx pt rd wt) ++ (plW od k ad bd ed kd nb sh mb)))) _ := hP
      have hD : va_D A ((mW qm k (nI 0) (ss_up wd j 1) se kd bn sh mb pr B R sx pt rd wt ln px) ++ (ouW k ob of ++ ((ssW qs k gd (ss_up wd j 1) se pr ln px cv co B R sx pt rd wt) ++ (plW od k ad bd ed kd nb sh mb)))) := hD
      refine lv_aload_n hx hb d_LW_law_130 rfl (lv_at hl 4 rfl) ?_
      have hPc : va_P D vwCl (mW qm k (nI 0) (ss_up wd j 1) se kd bn sh mb pr B R sx pt rd wt ln px) _ := va_subP (a := []) (b := (mW qm k (nI 0) (ss_up wd j 1) se kd bn sh mb pr B R sx pt rd wt ln px)) (c := ouW k ob of ++ ((ssW qs k gd (ss_up wd j 1) se pr ln px cv co B R sx pt rd wt) ++ (plW od k ad bd ed kd nb sh mb))) hP
      refine kr_iV (As := []) (rest := []) ⟨hx, hb, hml, hown, hts⟩ (c_MO_thrown l D k qm (nI 0) (ss_up wd j 1) se kd bn sh mb pr B R sx pt rd wt ln px) (cwV 0 hts (gV w_579 w_580 w_581 w_5 w_582) rfl rfl rfl (by decide +kernel) ⟨Nat.le_of_ble_eq_true rfl, Nat.le_of_ble_eq_true rfl⟩) hK hPc (va_recv hK hPc (ci := 7) (q0 := 0) rfl rfl) rfl hl.1 rfl (Nat.le_of_ble_eq_true rfl) d_LW_law_131 ⟨by show 21 + 3 * i + 3 ≤ 601024; omega, by show 9395 + 263 * i + 263 ≤ 7293034; omega⟩ ?_
      refine lv_iload hx hb d_LW_law_134 (lv_at hl 0 rfl) ?_
      refine lv_icmp_eq (tgt := 141) hx hb d_LW_law_136 (by decide) (fun c2 => ?_) (fun c2 => ?_)
      · have c2 := (nI_eq (by omega) (by omega)).mp c2
        refine lv_goto (tgt := 661) hx hb d_LW_law_141 (by decide) ?_
        refine lv_iinc (v := nI (5 * (i + 1))) (lv' := [(4, .int (nI (5 * (i + 1)))), (5, .int (nI 0)), (0, .ref b), (1, .ref (qs 0)), (2, .ref (qm 0)), (3, .ref ob)]) hx hb d_LW_law_661 hl (k := 1) rfl ((nI_add (5 * i) 5).trans (by rw [Nat.mul_succ])) (by decide) rfl (fun ls hl => ?_)
        refine lv_goto (tgt := 23) hx hb d_LW_law_664 (by decide) ?_
        refine W.widen (k := 21 + 3 * (i + 1)) (n := 9395 + 263 * (i + 1)) (by show 21 + 3 * i + 3 ≤ _; omega) (by show 9395 + 263 * i + 263 ≤ _; omega) ?_
        exact ih (nI 0) gd (ss_up wd j 1) se pr ln px cv co B R sx pt rd wt od ad bd ed kd nb sh mb bn of _ _ _ ⟨ss_up_lt hwd (by omega), hse, hpr, hln, hB, hR, hsx, hpt, hwt, hO, hkd, hsh, hmb, hbn, hz⟩ hP hD hS (lv_sub hl [0, 2, 3, 4, 5] rfl)
      · have c2 := mt (nI_eq (by omega) (by omega)).mpr c2
        exfalso; omega
    refine lv_aload_n hx hb d_LW_law_108 rfl (lv_at hl 2 rfl) ?_
    refine lv_aload_n hx hb d_LW_law_109 rfl (lv_at hl 1 rfl) ?_
    refine lv_iload hx hb d_LW_law_110 (lv_at hl 0 rfl) ?_
    refine lv_iconst (v := nI 1) hx hb d_LW_law_112 (by decide +kernel) ?_
    refine lv_iadd hx hb d_LW_law_113 ?_
    refine ss_rt (y := nI (5 * i + 1)) (nI_add _ _) ?_
    refine va_sld hx hb hsc hbl hbA hS (vp_in_nI (by omega) (by omega)) d_LW_law_114 ?_
    refine ss_rt (y := nI j) (by rw [nI_clamp (by omega)]; exact hx1.symm) ?_
    have hPc : va_P D vwCl ((ssW qs k gd wd se pr ln px cv co B R sx pt rd wt) ++ (plW od k ad bd ed kd nb sh mb)) _ := va_tlP (a := ((mW qm k cd wd se kd bn sh mb pr B R sx pt rd wt ln px) ++ ouW k ob of)) (b := ((ssW qs k gd wd se pr ln px cv co B R sx pt rd wt) ++ (plW od k ad bd ed kd nb sh mb))) hP
    have hDc : va_D A ((ssW qs k gd wd se pr ln px cv co B R sx pt rd wt) ++ (plW od k ad bd ed kd nb sh mb)) := va_tlD (a := ((mW qm k cd wd se kd bn sh mb pr B R sx pt rd wt ln px) ++ ouW k ob of)) (b := ((ssW qs k gd wd se pr ln px cv co B R sx pt rd wt) ++ (plW od k ad bd ed kd nb sh mb))) hD
    refine kh_i (n := 2) (As := [.ref (qs 0), .int (nI j)]) (rest := []) ⟨hx, hb, hml, hown, hts⟩ (h_widen2 l hl9 D k qs gd wd se pr ln px cv co B R sx pt rd wt od ad bd ed kd nb sh mb hwd hse hpr j hj (by omega) _ (gd_some hO (by omega) h2)) (Nat.le_of_ble_eq_true rfl) (Nat.le_of_ble_eq_true rfl) w_288 w_287 w_0 w_286 (by decide +kernel) hK hX hT hU hPc hDc hS hA rfl hl.1 rfl (Nat.le_of_ble_eq_true rfl) d_LW_law_115 ⟨by show 21 + 3 * i + 3 ≤ 601024; omega, by show 9395 + 263 * i + 263 ≤ 7293034; omega⟩ (fun r9 u9 H9 locs hr9 hP1 hD1 hk1 hS9 => ?_)
    subst hr9
    obtain ⟨hP, hD⟩ := fr_tl (a := ((mW qm k cd wd se kd bn sh mb pr B R sx pt rd wt ln px) ++ ouW k ob of)) (b := ((ssW qs k gd wd se pr ln px cv co B R sx pt rd wt) ++ (plW od k ad bd ed kd nb sh mb))) (b' := ((ssW qs k gd wd se pr ln px cv co B R sx pt rd wt) ++ (plW od k ad bd ed kd nb sh mb))) hP hD hk1 (fun q h => hA q (Nat.le_trans hS.1 h)) hP1 hD1
    clear hP1 hD1 hk1 hPc hDc
    have hS := hS9
    clear hS9
    generalize H9 = H at hP hS ⊢
    have hP : va_P D vwCl ((mW qm k cd wd se kd bn sh mb pr B R sx pt rd wt ln px) ++ (ouW k ob of ++ ((ssW qs k gd wd se pr ln px cv co B R sx pt rd wt) ++ (plW od k ad bd ed kd nb sh mb)))) _ := hP
    have hD : va_D A ((mW qm k cd wd se kd bn sh mb pr B R sx pt rd wt ln px) ++ (ouW k ob of ++ ((ssW qs k gd wd se pr ln px cv co B R sx pt rd wt) ++ (plW od k ad bd ed kd nb sh mb)))) := hD
    refine lv_istore (lv' := [(5, .int (nI 2)), (4, .int (nI (5 * i))), (0, .ref b), (1, .ref (qs 0)), (2, .ref (qm 0)), (3, .ref ob)]) hx hb d_LW_law_118 hl (by decide) rfl (fun ls hl => ?_)
    refine lv_aload_n hx hb d_LW_law_120 rfl (lv_at hl 4 rfl) ?_
    refine lv_aload_n hx hb d_LW_law_121 rfl (lv_at hl 2 rfl) ?_
    refine lv_iload hx hb d_LW_law_122 (lv_at hl 1 rfl) ?_
    refine lv_iconst (v := nI 1) hx hb d_LW_law_124 (by decide +kernel) ?_
    refine lv_iadd hx hb d_LW_law_125 ?_
    refine ss_rt (y := nI (5 * i + 1)) (nI_add _ _) ?_
    refine va_sld hx hb hsc hbl hbA hS (vp_in_nI (by omega) (by omega)) d_LW_law_126 ?_
    refine ss_rt (y := nI j) (by rw [nI_clamp (by omega)]; exact hx1.symm) ?_
    have hPc : va_P D vwCl (mW qm k cd wd se kd bn sh mb pr B R sx pt rd wt ln px) _ := va_subP (a := []) (b := (mW qm k cd wd se kd bn sh mb pr B R sx pt rd wt ln px)) (c := ouW k ob of ++ ((ssW qs k gd wd se pr ln px cv co B R sx pt rd wt) ++ (plW od k ad bd ed kd nb sh mb))) hP
    have hDc : va_D A (mW qm k cd wd se kd bn sh mb pr B R sx pt rd wt ln px) := va_subD (a := []) (b := (mW qm k cd wd se kd bn sh mb pr B R sx pt rd wt ln px)) (c := ouW k ob of ++ ((ssW qs k gd wd se pr ln px cv co B R sx pt rd wt) ++ (plW od k ad bd ed kd nb sh mb))) hD
    refine kw_vV (As := [.int (nI j)]) (rest := []) ⟨hx, hb, hml, hown, hts⟩ (c_MO_wident l D k qm cd wd se kd bn sh mb pr B R sx pt rd wt ln px hwd hse hpr hkd hsh hmb j hj (Or.inr h2)) (cwV 1 hts (gV w_583 w_584 w_585 w_5 w_586) rfl rfl rfl (by decide +kernel) ⟨Nat.le_of_ble_eq_true rfl, Nat.le_of_ble_eq_true rfl⟩) hK hPc hDc hS hA (va_recv hK hPc (ci := 7) (q0 := 0) rfl rfl) rfl hl.1 rfl (Nat.le_of_ble_eq_true rfl) d_LW_law_127 ⟨by show 21 + 3 * i + 3 ≤ 601024; omega, by show 9395 + 263 * i + 263 ≤ 7293034; omega⟩ (fun _ H9 locs _ hP1 hk1 hS9 => ?_)
    obtain ⟨hP, hD⟩ := fr_mid (a := []) (b := (mW qm k cd wd se kd bn sh mb pr B R sx pt rd wt ln px)) (c := ouW k ob of ++ ((ssW qs k gd wd se pr ln px cv co B R sx pt rd wt) ++ (plW od k ad bd ed kd nb sh mb))) (b' := (mW qm k (nI 2) wd se kd bn sh mb pr B R sx pt rd wt ln px)) hP hD hk1 (fun q h => hA q (Nat.le_trans hS.1 h)) hP1 (rw_same hDc.self rfl)
    clear hP1 hk1 hPc hDc
    have hS := hS9
    clear hS9
    generalize H9 = H at hP hS ⊢
    have hP : va_P D vwCl ((mW qm k (nI 2) wd se kd bn sh mb pr B R sx pt rd wt ln px) ++ (ouW k ob of ++ ((ssW qs k gd wd se pr ln px cv co B R sx pt rd wt) ++ (plW od k ad bd ed kd nb sh mb)))) _ := hP
    have hD : va_D A ((mW qm k (nI 2) wd se kd bn sh mb pr B R sx pt rd wt ln px) ++ (ouW k ob of ++ ((ssW qs k gd wd se pr ln px cv co B R sx pt rd wt) ++ (plW od k ad bd ed kd nb sh mb)))) := hD
    refine lv_aload_n hx hb d_LW_law_130 rfl (lv_at hl 4 rfl) ?_
    have hPc : va_P D vwCl (mW qm k (nI 2) wd se kd bn sh mb pr B R sx pt rd wt ln px) _ := va_subP (a := []) (b := (mW qm k (nI 2) wd se kd bn sh mb pr B R sx pt rd wt ln px)) (c := ouW k ob of ++ ((ssW qs k gd wd se pr ln px cv co B R sx pt rd wt) ++ (plW od k ad bd ed kd nb sh mb))) hP
    refine kr_iV (As := []) (rest := []) ⟨hx, hb, hml, hown, hts⟩ (c_MO_thrown l D k qm (nI 2) wd se kd bn sh mb pr B R sx pt rd wt ln px) (cwV 0 hts (gV w_579 w_580 w_581 w_5 w_582) rfl rfl rfl (by decide +kernel) ⟨Nat.le_of_ble_eq_true rfl, Nat.le_of_ble_eq_true rfl⟩) hK hPc (va_recv hK hPc (ci := 7) (q0 := 0) rfl rfl) rfl hl.1 rfl (Nat.le_of_ble_eq_true rfl) d_LW_law_131 ⟨by show 21 + 3 * i + 3 ≤ 601024; omega, by show 9395 + 263 * i + 263 ≤ 7293034; omega⟩ ?_
    refine lv_iload hx hb d_LW_law_134 (lv_at hl 0 rfl) ?_
    refine lv_icmp_eq (tgt := 141) hx hb d_LW_law_136 (by decide) (fun c3 => ?_) (fun c3 => ?_)
    · have c3 := (nI_eq (by omega) (by omega)).mp c3
      refine lv_goto (tgt := 661) hx hb d_LW_law_141 (by decide) ?_
      refine lv_iinc (v := nI (5 * (i + 1))) (lv' := [(4, .int (nI (5 * (i + 1)))), (5, .int (nI 2)), (0, .ref b), (1, .ref (qs 0)), (2, .ref (qm 0)), (3, .ref ob)]) hx hb d_LW_law_661 hl (k := 1) rfl ((nI_add (5 * i) 5).trans (by rw [Nat.mul_succ])) (by decide) rfl (fun ls hl => ?_)
      refine lv_goto (tgt := 23) hx hb d_LW_law_664 (by decide) ?_
      refine W.widen (k := 21 + 3 * (i + 1)) (n := 9395 + 263 * (i + 1)) (by show 21 + 3 * i + 3 ≤ _; omega) (by show 9395 + 263 * i + 263 ≤ _; omega) ?_
      exact ih (nI 2) gd wd se pr ln px cv co B R sx pt rd wt od ad bd ed kd nb sh mb bn of _ _ _ ⟨hwd, hse, hpr, hln, hB, hR, hsx, hpt, hwt, hO, hkd, hsh, hmb, hbn, hz⟩ hP hD hS (lv_sub hl [0, 2, 3, 4, 5] rfl)
    · have c3 := mt (nI_eq (by omega) (by omega)).mpr c3
      exfalso; omega
  · skip
    refine lv_aload_n hx hb d_LW_law_108 rfl (lv_at hl 2 rfl) ?_
    refine lv_aload_n hx hb d_LW_law_109 rfl (lv_at hl 1 rfl) ?_
    refine lv_iload hx hb d_LW_law_110 (lv_at hl 0 rfl) ?_
    refine lv_iconst (v := nI 1) hx hb d_LW_law_112 (by decide +kernel) ?_
    refine lv_iadd hx hb d_LW_law_113 ?_
    refine ss_rt (y := nI (5 * i + 1)) (nI_add _ _) ?_
    refine va_sld hx hb hsc hbl hbA hS (vp_in_nI (by omega) (by omega)) d_LW_law_114 ?_
    refine ss_rt (y := x1) (by rw [nI_clamp (by omega)]; exact hx1.symm) ?_
    have hPc : va_P D vwCl ((ssW qs k gd wd se pr ln px cv co B R sx pt rd wt) ++ (plW od k ad bd ed kd nb sh mb)) _ := va_tlP (a := ((mW qm k cd wd se kd bn sh mb pr B R sx pt rd wt ln px) ++ ouW k ob of)) (b := ((ssW qs k gd wd se pr ln px cv co B R sx pt rd wt) ++ (plW od k ad bd ed kd nb sh mb))) hP
    have hDc : va_D A ((ssW qs k gd wd se pr ln px cv co B R sx pt rd wt) ++ (plW od k ad bd ed kd nb sh mb)) := va_tlD (a := ((mW qm k cd wd se kd bn sh mb pr B R sx pt rd wt ln px) ++ ouW k ob of)) (b := ((ssW qs k gd wd se pr ln px cv co B R sx pt rd wt) ++ (plW od k ad bd ed kd nb sh mb))) hD
    refine kh_i (n := 2) (As := [.ref (qs 0), .int x1]) (rest := []) ⟨hx, hb, hml, hown, hts⟩ (h_widenb l hl9 D k qs gd wd se pr ln px cv co B R sx pt rd wt od ad bd ed kd nb sh mb x1 hv) (Nat.le_of_ble_eq_true rfl) (Nat.le_of_ble_eq_true rfl) w_288 w_287 w_0 w_286 (by decide +kernel) hK hX hT hU hPc hDc hS hA rfl hl.1 rfl (Nat.le_of_ble_eq_true rfl) d_LW_law_115 ⟨by show 21 + 3 * i + 3 ≤ 601024; omega, by show 9395 + 263 * i + 263 ≤ 7293034; omega⟩ (fun r9 u9 H9 locs hr9 hP1 hD1 hk1 hS9 => ?_)
    subst hr9
    obtain ⟨hP, hD⟩ := fr_tl (a := ((mW qm k cd wd se kd bn sh mb pr B R sx pt rd wt ln px) ++ ouW k ob of)) (b := ((ssW qs k gd wd se pr ln px cv co B R sx pt rd wt) ++ (plW od k ad bd ed kd nb sh mb))) (b' := ((ssW qs k gd wd se pr ln px cv co B R sx pt rd wt) ++ (plW od k ad bd ed kd nb sh mb))) hP hD hk1 (fun q h => hA q (Nat.le_trans hS.1 h)) hP1 hD1
    clear hP1 hD1 hk1 hPc hDc
    have hS := hS9
    clear hS9
    generalize H9 = H at hP hS ⊢
    have hP : va_P D vwCl ((mW qm k cd wd se kd bn sh mb pr B R sx pt rd wt ln px) ++ (ouW k ob of ++ ((ssW qs k gd wd se pr ln px cv co B R sx pt rd wt) ++ (plW od k ad bd ed kd nb sh mb)))) _ := hP
    have hD : va_D A ((mW qm k cd wd se kd bn sh mb pr B R sx pt rd wt ln px) ++ (ouW k ob of ++ ((ssW qs k gd wd se pr ln px cv co B R sx pt rd wt) ++ (plW od k ad bd ed kd nb sh mb)))) := hD
    refine lv_istore (lv' := [(5, .int (nI 1)), (4, .int (nI (5 * i))), (0, .ref b), (1, .ref (qs 0)), (2, .ref (qm 0)), (3, .ref ob)]) hx hb d_LW_law_118 hl (by decide) rfl (fun ls hl => ?_)
    refine lv_aload_n hx hb d_LW_law_120 rfl (lv_at hl 4 rfl) ?_
    refine lv_aload_n hx hb d_LW_law_121 rfl (lv_at hl 2 rfl) ?_
    refine lv_iload hx hb d_LW_law_122 (lv_at hl 1 rfl) ?_
    refine lv_iconst (v := nI 1) hx hb d_LW_law_124 (by decide +kernel) ?_
    refine lv_iadd hx hb d_LW_law_125 ?_
    refine ss_rt (y := nI (5 * i + 1)) (nI_add _ _) ?_
    refine va_sld hx hb hsc hbl hbA hS (vp_in_nI (by omega) (by omega)) d_LW_law_126 ?_
    refine ss_rt (y := x1) (by rw [nI_clamp (by omega)]; exact hx1.symm) ?_
    have hPc : va_P D vwCl (mW qm k cd wd se kd bn sh mb pr B R sx pt rd wt ln px) _ := va_subP (a := []) (b := (mW qm k cd wd se kd bn sh mb pr B R sx pt rd wt ln px)) (c := ouW k ob of ++ ((ssW qs k gd wd se pr ln px cv co B R sx pt rd wt) ++ (plW od k ad bd ed kd nb sh mb))) hP
    have hDc : va_D A (mW qm k cd wd se kd bn sh mb pr B R sx pt rd wt ln px) := va_subD (a := []) (b := (mW qm k cd wd se kd bn sh mb pr B R sx pt rd wt ln px)) (c := ouW k ob of ++ ((ssW qs k gd wd se pr ln px cv co B R sx pt rd wt) ++ (plW od k ad bd ed kd nb sh mb))) hD
    refine kw_vV (As := [.int x1]) (rest := []) ⟨hx, hb, hml, hown, hts⟩ (c_MO_widenb l D k qm cd wd se kd bn sh mb pr B R sx pt rd wt ln px x1 hv) (cwV 1 hts (gV w_583 w_584 w_585 w_5 w_586) rfl rfl rfl (by decide +kernel) ⟨Nat.le_of_ble_eq_true rfl, Nat.le_of_ble_eq_true rfl⟩) hK hPc hDc hS hA (va_recv hK hPc (ci := 7) (q0 := 0) rfl rfl) rfl hl.1 rfl (Nat.le_of_ble_eq_true rfl) d_LW_law_127 ⟨by show 21 + 3 * i + 3 ≤ 601024; omega, by show 9395 + 263 * i + 263 ≤ 7293034; omega⟩ (fun _ H9 locs _ hP1 hk1 hS9 => ?_)
    obtain ⟨hP, hD⟩ := fr_mid (a := []) (b := (mW qm k cd wd se kd bn sh mb pr B R sx pt rd wt ln px)) (c := ouW k ob of ++ ((ssW qs k gd wd se pr ln px cv co B R sx pt rd wt) ++ (plW od k ad bd ed kd nb sh mb))) (b' := (mW qm k (nI 1) wd se kd bn sh mb pr B R sx pt rd wt ln px)) hP hD hk1 (fun q h => hA q (Nat.le_trans hS.1 h)) hP1 (rw_same hDc.self rfl)
    clear hP1 hk1 hPc hDc
    have hS := hS9
    clear hS9
    generalize H9 = H at hP hS ⊢
    have hP : va_P D vwCl ((mW qm k (nI 1) wd se kd bn sh mb pr B R sx pt rd wt ln px) ++ (ouW k ob of ++ ((ssW qs k gd wd se pr ln px cv co B R sx pt rd wt) ++ (plW od k ad bd ed kd nb sh mb)))) _ := hP
    have hD : va_D A ((mW qm k (nI 1) wd se kd bn sh mb pr B R sx pt rd wt ln px) ++ (ouW k ob of ++ ((ssW qs k gd wd se pr ln px cv co B R sx pt rd wt) ++ (plW od k ad bd ed kd nb sh mb)))) := hD
    refine lv_aload_n hx hb d_LW_law_130 rfl (lv_at hl 4 rfl) ?_
    have hPc : va_P D vwCl (mW qm k (nI 1) wd se kd bn sh mb pr B R sx pt rd wt ln px) _ := va_subP (a := []) (b := (mW qm k (nI 1) wd se kd bn sh mb pr B R sx pt rd wt ln px)) (c := ouW k ob of ++ ((ssW qs k gd wd se pr ln px cv co B R sx pt rd wt) ++ (plW od k ad bd ed kd nb sh mb))) hP
    refine kr_iV (As := []) (rest := []) ⟨hx, hb, hml, hown, hts⟩ (c_MO_thrown l D k qm (nI 1) wd se kd bn sh mb pr B R sx pt rd wt ln px) (cwV 0 hts (gV w_579 w_580 w_581 w_5 w_582) rfl rfl rfl (by decide +kernel) ⟨Nat.le_of_ble_eq_true rfl, Nat.le_of_ble_eq_true rfl⟩) hK hPc (va_recv hK hPc (ci := 7) (q0 := 0) rfl rfl) rfl hl.1 rfl (Nat.le_of_ble_eq_true rfl) d_LW_law_131 ⟨by show 21 + 3 * i + 3 ≤ 601024; omega, by show 9395 + 263 * i + 263 ≤ 7293034; omega⟩ ?_
    refine lv_iload hx hb d_LW_law_134 (lv_at hl 0 rfl) ?_
    refine lv_icmp_eq (tgt := 141) hx hb d_LW_law_136 (by decide) (fun c4 => ?_) (fun c4 => ?_)
    · have c4 := (nI_eq (by omega) (by omega)).mp c4
      refine lv_goto (tgt := 661) hx hb d_LW_law_141 (by decide) ?_
      refine lv_iinc (v := nI (5 * (i + 1))) (lv' := [(4, .int (nI (5 * (i + 1)))), (5, .int (nI 1)), (0, .ref b), (1, .ref (qs 0)), (2, .ref (qm 0)), (3, .ref ob)]) hx hb d_LW_law_661 hl (k := 1) rfl ((nI_add (5 * i) 5).trans (by rw [Nat.mul_succ])) (by decide) rfl (fun ls hl => ?_)
      refine lv_goto (tgt := 23) hx hb d_LW_law_664 (by decide) ?_
      refine W.widen (k := 21 + 3 * (i + 1)) (n := 9395 + 263 * (i + 1)) (by show 21 + 3 * i + 3 ≤ _; omega) (by show 9395 + 263 * i + 263 ≤ _; omega) ?_
      exact ih (nI 1) gd wd se pr ln px cv co B R sx pt rd wt od ad bd ed kd nb sh mb bn of _ _ _ ⟨hwd, hse, hpr, hln, hB, hR, hsx, hpt, hwt, hO, hkd, hsh, hmb, hbn, hz⟩ hP hD hS (lv_sub hl [0, 2, 3, 4, 5] rfl)
    · have c4 := mt (nI_eq (by omega) (by omega)).mpr c4
      exfalso; omega
set_option maxHeartbeats 4000000 in
set_option maxRecDepth 100000 in
theorem L_plug {p : Program} {l : Launch} {e : Env} {s : State} {m : MethodId} {below : List Frame} {meth : Method} {c : Code} {b L : Nat} {xs : Nat → Int32} {D : va_G} {k : Nat → ClassId} {A : Nat → Prop} {Q : State → Prop} {qm qs : Nat → Nat} {ob : Nat} (C : LC p l s m meth c b L xs D k A) (i : Nat) (hi : 5 * i + 5 ≤ L) (ih : LG p l e s m below meth c b D k A Q qm qs ob (i + 1)) (cd : Int32) (gd : Nat → Option Nat) (wd : Nat → Nat) (se : Nat → Nat) (pr : Nat) (ln : Nat) (px : Nat → Nat) (cv : Nat) (co : Nat) (B : Nat → Nat) (R : Nat → Nat) (sx : Nat) (pt : Nat) (rd : Nat) (wt : Int32) (od : List Nat) (ad : Nat → Nat) (bd : Nat → Nat) (ed : Nat → Nat) (kd : Nat → Nat) (nb : Nat → Nat) (sh : Nat → Nat) (mb : Nat → Nat) (bn : Nat → Int32) (of : Nat → Int64) (H : Heap) (locs : List Loc) (ls : Array Slot) (hF : LF gd wd se pr ln B R sx pt wt od ad kd nb sh mb bn) (hP : va_P D vwCl ((mW qm k cd wd se kd bn sh mb pr B R sx pt rd wt ln px) ++ (ouW k ob of ++ ((ssW qs k gd wd se pr ln px cv co B R sx pt rd wt) ++ (plW od k ad bd ed kd nb sh mb)))) H) (hD : va_D A ((mW qm k cd wd se kd bn sh mb pr B R sx pt rd wt ln px) ++ (ouW k ob of ++ ((ssW qs k gd wd se pr ln px cv co B R sx pt rd wt) ++ (plW od k ad bd ed kd nb sh mb))))) (hS : va_S A s.heap H locs) (hl : lv_has ls 7 [(4, .int (nI (5 * i))), (0, .ref b), (1, .ref (qs 0)), (2, .ref (qm 0)), (3, .ref ob)]) : W p l e room_1 s m #[Value.ref b] below meth c H locs (21 + 3 * i) (9395 + 263 * i) Q (F0 m 144 ls []) := by
  obtain ⟨hx, hb, hr, hlocks, hml, hown, hts, hX, hT, hU, hK, hA, hsc, hbl, hbA, hl9, hL⟩ := C
  obtain ⟨hwd, hse, hpr, hln, hB, hR, hsx, hpt, hwt, hO, hkd, hsh, hmb, hbn, hz⟩ := hF
  obtain ⟨x1, hx1⟩ : ∃ z, z = xs (5 * i + 1) := ⟨_, rfl⟩
  obtain ⟨x2, hx2⟩ : ∃ z, z = xs (5 * i + 2) := ⟨_, rfl⟩
  obtain ⟨x3, hx3⟩ : ∃ z, z = xs (5 * i + 3) := ⟨_, rfl⟩
  obtain ⟨x4, hx4⟩ : ∃ z, z = xs (5 * i + 4) := ⟨_, rfl⟩
  by_cases hv : 0 ≤ x1.toInt ∧ x1.toInt ≤ 3 ∧ 0 ≤ x2.toInt ∧ x2.toInt ≤ 3 ∧ 1 ≤ x3.toInt ∧ x3.toInt ≤ 4 ∧ (x3.toInt = 3 → 1 ≤ x4.toInt ∧ x4.toInt ≤ 8)
  · obtain ⟨s9, hs9, rfl⟩ := n_ix (x := x1) (n := 4) (by omega) (by omega)
    obtain ⟨p9, hp9, rfl⟩ := n_ix (x := x2) (n := 4) (by omega) (by omega)
    obtain ⟨kk, hkk, rfl⟩ := n_ix (x := x3) (n := 5) (by omega) (by omega)
    have ek : (nI kk).toInt = (kk : Int) := nI_toInt (by omega)
    have gw := hwd s9
    by_cases k3 : kk = 3
    · subst k3
      obtain ⟨n, hn9, rfl⟩ := n_ix (x := x4) (n := 9) (by omega) (by omega)
      have en : (nI n).toInt = (n : Int) := nI_toInt (by omega)
      have hn1 : 1 ≤ n := by omega
      have hn2 : n ≤ 8 := by omega
      by_cases t1 : wd s9 = 0 ∧ 0 < p9
      · skip
        refine lv_aload_n hx hb d_LW_law_144 rfl (lv_at hl 2 rfl) ?_
        refine lv_aload_n hx hb d_LW_law_145 rfl (lv_at hl 1 rfl) ?_
        refine lv_iload hx hb d_LW_law_146 (lv_at hl 0 rfl) ?_
        refine lv_iconst (v := nI 1) hx hb d_LW_law_148 (by decide +kernel) ?_
        refine lv_iadd hx hb d_LW_law_149 ?_
        refine ss_rt (y := nI (5 * i + 1)) (nI_add _ _) ?_
        refine va_sld hx hb hsc hbl hbA hS (vp_in_nI (by omega) (by omega)) d_LW_law_150 ?_
        refine ss_rt (y := nI s9) (by rw [nI_clamp (by omega)]; exact hx1.symm) ?_
        refine lv_aload_n hx hb d_LW_law_151 rfl (lv_at hl 1 rfl) ?_
        refine lv_iload hx hb d_LW_law_152 (lv_at hl 0 rfl) ?_
        refine lv_iconst (v := nI 2) hx hb d_LW_law_154 (by decide +kernel) ?_
        refine lv_iadd hx hb d_LW_law_155 ?_
        refine ss_rt (y := nI (5 * i + 2)) (nI_add _ _) ?_
        refine va_sld hx hb hsc hbl hbA hS (vp_in_nI (by omega) (by omega)) d_LW_law_156 ?_
        refine ss_rt (y := nI p9) (by rw [nI_clamp (by omega)]; exact hx2.symm) ?_
        refine lv_aload_n hx hb d_LW_law_157 rfl (lv_at hl 1 rfl) ?_
        refine lv_iload hx hb d_LW_law_158 (lv_at hl 0 rfl) ?_
        refine lv_iconst (v := nI 3) hx hb d_LW_law_160 (by decide +kernel) ?_
        refine lv_iadd hx hb d_LW_law_161 ?_
        refine ss_rt (y := nI (5 * i + 3)) (nI_add _ _) ?_
        refine va_sld hx hb hsc hbl hbA hS (vp_in_nI (by omega) (by omega)) d_LW_law_162 ?_
        refine ss_rt (y := nI 3) (by rw [nI_clamp (by omega)]; exact hx3.symm) ?_
        refine lv_aload_n hx hb d_LW_law_163 rfl (lv_at hl 1 rfl) ?_
        refine lv_iload hx hb d_LW_law_164 (lv_at hl 0 rfl) ?_
        refine lv_iconst (v := nI 4) hx hb d_LW_law_166 (by decide +kernel) ?_
        refine lv_iadd hx hb d_LW_law_167 ?_
        refine ss_rt (y := nI (5 * i + 4)) (nI_add _ _) ?_
        refine va_sld hx hb hsc hbl hbA hS (vp_in_nI (by omega) (by omega)) d_LW_law_168 ?_
        refine ss_rt (y := nI n) (by rw [nI_clamp (by omega)]; exact hx4.symm) ?_
        have hPc : va_P D vwCl ((ssW qs k gd wd se pr ln px cv co B R sx pt rd wt) ++ (plW od k ad bd ed kd nb sh mb)) _ := va_tlP (a := ((mW qm k cd wd se kd bn sh mb pr B R sx pt rd wt ln px) ++ ouW k ob of)) (b := ((ssW qs k gd wd se pr ln px cv co B R sx pt rd wt) ++ (plW od k ad bd ed kd nb sh mb))) hP
        have hDc : va_D A ((ssW qs k gd wd se pr ln px cv co B R sx pt rd wt) ++ (plW od k ad bd ed kd nb sh mb)) := va_tlD (a := ((mW qm k cd wd se kd bn sh mb pr B R sx pt rd wt ln px) ++ ouW k ob of)) (b := ((ssW qs k gd wd se pr ln px cv co B R sx pt rd wt) ++ (plW od k ad bd ed kd nb sh mb))) hD
        refine kh_i (n := 5) (As := [.ref (qs 0), .int (nI s9), .int (nI p9), .int (nI 3), .int (nI n)]) (rest := []) ⟨hx, hb, hml, hown, hts⟩ (h_plug1 l hl9 D k qs gd wd se pr ln px cv co B R sx pt rd wt od ad bd ed kd nb sh mb hwd hse hpr s9 p9 3 hs9 hp9 (nI n) (by omega) (by omega) (fun _ => by omega) t1) (Nat.le_of_ble_eq_true rfl) (Nat.le_of_ble_eq_true rfl) w_384 w_383 w_0 w_382 (by decide +kernel) hK hX hT hU hPc hDc hS hA rfl hl.1 rfl (Nat.le_of_ble_eq_true rfl) d_LW_law_169 ⟨by show 21 + 3 * i + 3 ≤ 601024; omega, by show 9395 + 263 * i + 263 ≤ 7293034; omega⟩ (fun r9 u9 H9 locs hr9 hP1 hD1 hk1 hS9 => ?_)
        subst hr9
        obtain ⟨hP, hD⟩ := fr_tl (a := ((mW qm k cd wd se kd bn sh mb pr B R sx pt rd wt ln px) ++ ouW k ob of)) (b := ((ssW qs k gd wd se pr ln px cv co B R sx pt rd wt) ++ (plW od k ad bd ed kd nb sh mb))) (b' := ((ssW qs k gd wd se pr ln px cv co B R sx pt rd wt) ++ (plW od k ad bd ed kd nb sh mb))) hP hD hk1 (fun q h => hA q (Nat.le_trans hS.1 h)) hP1 hD1
        clear hP1 hD1 hk1 hPc hDc
        have hS := hS9
        clear hS9
        generalize H9 = H at hP hS ⊢
        have hP : va_P D vwCl ((mW qm k cd wd se kd bn sh mb pr B R sx pt rd wt ln px) ++ (ouW k ob of ++ ((ssW qs k gd wd se pr ln px cv co B R sx pt rd wt) ++ (plW od k ad bd ed kd nb sh mb)))) _ := hP
        have hD : va_D A ((mW qm k cd wd se kd bn sh mb pr B R sx pt rd wt ln px) ++ (ouW k ob of ++ ((ssW qs k gd wd se pr ln px cv co B R sx pt rd wt) ++ (plW od k ad bd ed kd nb sh mb)))) := hD
        refine lv_istore (lv' := [(5, .int (nI 2)), (4, .int (nI (5 * i))), (0, .ref b), (1, .ref (qs 0)), (2, .ref (qm 0)), (3, .ref ob)]) hx hb d_LW_law_172 hl (by decide) rfl (fun ls hl => ?_)
        refine lv_aload_n hx hb d_LW_law_174 rfl (lv_at hl 4 rfl) ?_
        refine lv_aload_n hx hb d_LW_law_175 rfl (lv_at hl 2 rfl) ?_
        refine lv_iload hx hb d_LW_law_176 (lv_at hl 1 rfl) ?_
        refine lv_iconst (v := nI 1) hx hb d_LW_law_178 (by decide +kernel) ?_
        refine lv_iadd hx hb d_LW_law_179 ?_
        refine ss_rt (y := nI (5 * i + 1)) (nI_add _ _) ?_
        refine va_sld hx hb hsc hbl hbA hS (vp_in_nI (by omega) (by omega)) d_LW_law_180 ?_
        refine ss_rt (y := nI s9) (by rw [nI_clamp (by omega)]; exact hx1.symm) ?_
        refine lv_aload_n hx hb d_LW_law_181 rfl (lv_at hl 2 rfl) ?_
        refine lv_iload hx hb d_LW_law_182 (lv_at hl 1 rfl) ?_
        refine lv_iconst (v := nI 2) hx hb d_LW_law_184 (by decide +kernel) ?_
        refine lv_iadd hx hb d_LW_law_185 ?_
        refine ss_rt (y := nI (5 * i + 2)) (nI_add _ _) ?_
        refine va_sld hx hb hsc hbl hbA hS (vp_in_nI (by omega) (by omega)) d_LW_law_186 ?_
        refine ss_rt (y := nI p9) (by rw [nI_clamp (by omega)]; exact hx2.symm) ?_
        refine lv_aload_n hx hb d_LW_law_187 rfl (lv_at hl 2 rfl) ?_
        refine lv_iload hx hb d_LW_law_188 (lv_at hl 1 rfl) ?_
        refine lv_iconst (v := nI 3) hx hb d_LW_law_190 (by decide +kernel) ?_
        refine lv_iadd hx hb d_LW_law_191 ?_
        refine ss_rt (y := nI (5 * i + 3)) (nI_add _ _) ?_
        refine va_sld hx hb hsc hbl hbA hS (vp_in_nI (by omega) (by omega)) d_LW_law_192 ?_
        refine ss_rt (y := nI 3) (by rw [nI_clamp (by omega)]; exact hx3.symm) ?_
        refine lv_aload_n hx hb d_LW_law_193 rfl (lv_at hl 2 rfl) ?_
        refine lv_iload hx hb d_LW_law_194 (lv_at hl 1 rfl) ?_
        refine lv_iconst (v := nI 4) hx hb d_LW_law_196 (by decide +kernel) ?_
        refine lv_iadd hx hb d_LW_law_197 ?_
        refine ss_rt (y := nI (5 * i + 4)) (nI_add _ _) ?_
        refine va_sld hx hb hsc hbl hbA hS (vp_in_nI (by omega) (by omega)) d_LW_law_198 ?_
        refine ss_rt (y := nI n) (by rw [nI_clamp (by omega)]; exact hx4.symm) ?_
        have hPc : va_P D vwCl (mW qm k cd wd se kd bn sh mb pr B R sx pt rd wt ln px) _ := va_subP (a := []) (b := (mW qm k cd wd se kd bn sh mb pr B R sx pt rd wt ln px)) (c := ouW k ob of ++ ((ssW qs k gd wd se pr ln px cv co B R sx pt rd wt) ++ (plW od k ad bd ed kd nb sh mb))) hP
        have hDc : va_D A (mW qm k cd wd se kd bn sh mb pr B R sx pt rd wt ln px) := va_subD (a := []) (b := (mW qm k cd wd se kd bn sh mb pr B R sx pt rd wt ln px)) (c := ouW k ob of ++ ((ssW qs k gd wd se pr ln px cv co B R sx pt rd wt) ++ (plW od k ad bd ed kd nb sh mb))) hD
        refine kw_vV (As := [.int (nI s9), .int (nI p9), .int (nI 3), .int (nI n)]) (rest := []) ⟨hx, hb, hml, hown, hts⟩ (c_MO_plug3t l D k qm cd wd se kd bn sh mb pr B R sx pt rd wt ln px hwd hse hpr hkd hsh hmb s9 p9 hs9 hp9 3 (by omega) (by omega) rfl n hn1 hn2 (Or.inl t1)) (cwV 4 hts (gV w_590 w_591 w_592 w_5 w_593) rfl rfl rfl (by decide +kernel) ⟨Nat.le_of_ble_eq_true rfl, Nat.le_of_ble_eq_true rfl⟩) hK hPc hDc hS hA (va_recv hK hPc (ci := 7) (q0 := 0) rfl rfl) rfl hl.1 rfl (Nat.le_of_ble_eq_true rfl) d_LW_law_199 ⟨by show 21 + 3 * i + 3 ≤ 601024; omega, by show 9395 + 263 * i + 263 ≤ 7293034; omega⟩ (fun _ H9 locs _ hP1 hk1 hS9 => ?_)
        obtain ⟨hP, hD⟩ := fr_mid (a := []) (b := (mW qm k cd wd se kd bn sh mb pr B R sx pt rd wt ln px)) (c := ouW k ob of ++ ((ssW qs k gd wd se pr ln px cv co B R sx pt rd wt) ++ (plW od k ad bd ed kd nb sh mb))) (b' := (mW qm k (nI 2) wd se kd bn sh mb pr B R sx pt rd wt ln px)) hP hD hk1 (fun q h => hA q (Nat.le_trans hS.1 h)) hP1 (rw_same hDc.self rfl)
        clear hP1 hk1 hPc hDc
        have hS := hS9
        clear hS9
        generalize H9 = H at hP hS ⊢
        have hP : va_P D vwCl ((mW qm k (nI 2) wd se kd bn sh mb pr B R sx pt rd wt ln px) ++ (ouW k ob of ++ ((ssW qs k gd wd se pr ln px cv co B R sx pt rd wt) ++ (plW od k ad bd ed kd nb sh mb)))) _ := hP
        have hD : va_D A ((mW qm k (nI 2) wd se kd bn sh mb pr B R sx pt rd wt ln px) ++ (ouW k ob of ++ ((ssW qs k gd wd se pr ln px cv co B R sx pt rd wt) ++ (plW od k ad bd ed kd nb sh mb)))) := hD
        refine lv_aload_n hx hb d_LW_law_202 rfl (lv_at hl 4 rfl) ?_
        have hPc : va_P D vwCl (mW qm k (nI 2) wd se kd bn sh mb pr B R sx pt rd wt ln px) _ := va_subP (a := []) (b := (mW qm k (nI 2) wd se kd bn sh mb pr B R sx pt rd wt ln px)) (c := ouW k ob of ++ ((ssW qs k gd wd se pr ln px cv co B R sx pt rd wt) ++ (plW od k ad bd ed kd nb sh mb))) hP
        refine kr_iV (As := []) (rest := []) ⟨hx, hb, hml, hown, hts⟩ (c_MO_thrown l D k qm (nI 2) wd se kd bn sh mb pr B R sx pt rd wt ln px) (cwV 0 hts (gV w_579 w_580 w_581 w_5 w_582) rfl rfl rfl (by decide +kernel) ⟨Nat.le_of_ble_eq_true rfl, Nat.le_of_ble_eq_true rfl⟩) hK hPc (va_recv hK hPc (ci := 7) (q0 := 0) rfl rfl) rfl hl.1 rfl (Nat.le_of_ble_eq_true rfl) d_LW_law_203 ⟨by show 21 + 3 * i + 3 ≤ 601024; omega, by show 9395 + 263 * i + 263 ≤ 7293034; omega⟩ ?_
        refine lv_iload hx hb d_LW_law_206 (lv_at hl 0 rfl) ?_
        refine lv_icmp_eq (tgt := 213) hx hb d_LW_law_208 (by decide) (fun c1 => ?_) (fun c1 => ?_)
        · have c1 := (nI_eq (by omega) (by omega)).mp c1
          refine lv_goto (tgt := 661) hx hb d_LW_law_213 (by decide) ?_
          refine lv_iinc (v := nI (5 * (i + 1))) (lv' := [(4, .int (nI (5 * (i + 1)))), (5, .int (nI 2)), (0, .ref b), (1, .ref (qs 0)), (2, .ref (qm 0)), (3, .ref ob)]) hx hb d_LW_law_661 hl (k := 1) rfl ((nI_add (5 * i) 5).trans (by rw [Nat.mul_succ])) (by decide) rfl (fun ls hl => ?_)
          refine lv_goto (tgt := 23) hx hb d_LW_law_664 (by decide) ?_
          refine W.widen (k := 21 + 3 * (i + 1)) (n := 9395 + 263 * (i + 1)) (by show 21 + 3 * i + 3 ≤ _; omega) (by show 9395 + 263 * i + 263 ≤ _; omega) ?_
          exact ih (nI 2) gd wd se pr ln px cv co B R sx pt rd wt od ad bd ed kd nb sh mb bn of _ _ _ ⟨hwd, hse, hpr, hln, hB, hR, hsx, hpt, hwt, hO, hkd, hsh, hmb, hbn, hz⟩ hP hD hS (lv_sub hl [0, 2, 3, 4, 5] rfl)
        · have c1 := mt (nI_eq (by omega) (by omega)).mpr c1
          exfalso; omega
      by_cases t2 : kd (4 * s9 + p9) = 0
      · skip
        refine lv_aload_n hx hb d_LW_law_144 rfl (lv_at hl 2 rfl) ?_
        refine lv_aload_n hx hb d_LW_law_145 rfl (lv_at hl 1 rfl) ?_
        refine lv_iload hx hb d_LW_law_146 (lv_at hl 0 rfl) ?_
        refine lv_iconst (v := nI 1) hx hb d_LW_law_148 (by decide +kernel) ?_
        refine lv_iadd hx hb d_LW_law_149 ?_
        refine ss_rt (y := nI (5 * i + 1)) (nI_add _ _) ?_
        refine va_sld hx hb hsc hbl hbA hS (vp_in_nI (by omega) (by omega)) d_LW_law_150 ?_
        refine ss_rt (y := nI s9) (by rw [nI_clamp (by omega)]; exact hx1.symm) ?_
        refine lv_aload_n hx hb d_LW_law_151 rfl (lv_at hl 1 rfl) ?_
        refine lv_iload hx hb d_LW_law_152 (lv_at hl 0 rfl) ?_
        refine lv_iconst (v := nI 2) hx hb d_LW_law_154 (by decide +kernel) ?_
        refine lv_iadd hx hb d_LW_law_155 ?_
        refine ss_rt (y := nI (5 * i + 2)) (nI_add _ _) ?_
        refine va_sld hx hb hsc hbl hbA hS (vp_in_nI (by omega) (by omega)) d_LW_law_156 ?_
        refine ss_rt (y := nI p9) (by rw [nI_clamp (by omega)]; exact hx2.symm) ?_
        refine lv_aload_n hx hb d_LW_law_157 rfl (lv_at hl 1 rfl) ?_
        refine lv_iload hx hb d_LW_law_158 (lv_at hl 0 rfl) ?_
        refine lv_iconst (v := nI 3) hx hb d_LW_law_160 (by decide +kernel) ?_
        refine lv_iadd hx hb d_LW_law_161 ?_
        refine ss_rt (y := nI (5 * i + 3)) (nI_add _ _) ?_
        refine va_sld hx hb hsc hbl hbA hS (vp_in_nI (by omega) (by omega)) d_LW_law_162 ?_
        refine ss_rt (y := nI 3) (by rw [nI_clamp (by omega)]; exact hx3.symm) ?_
        refine lv_aload_n hx hb d_LW_law_163 rfl (lv_at hl 1 rfl) ?_
        refine lv_iload hx hb d_LW_law_164 (lv_at hl 0 rfl) ?_
        refine lv_iconst (v := nI 4) hx hb d_LW_law_166 (by decide +kernel) ?_
        refine lv_iadd hx hb d_LW_law_167 ?_
        refine ss_rt (y := nI (5 * i + 4)) (nI_add _ _) ?_
        refine va_sld hx hb hsc hbl hbA hS (vp_in_nI (by omega) (by omega)) d_LW_law_168 ?_
        refine ss_rt (y := nI n) (by rw [nI_clamp (by omega)]; exact hx4.symm) ?_
        have hPc : va_P D vwCl ((ssW qs k gd wd se pr ln px cv co B R sx pt rd wt) ++ (plW od k ad bd ed kd nb sh mb)) _ := va_tlP (a := ((mW qm k cd wd se kd bn sh mb pr B R sx pt rd wt ln px) ++ ouW k ob of)) (b := ((ssW qs k gd wd se pr ln px cv co B R sx pt rd wt) ++ (plW od k ad bd ed kd nb sh mb))) hP
        have hDc : va_D A ((ssW qs k gd wd se pr ln px cv co B R sx pt rd wt) ++ (plW od k ad bd ed kd nb sh mb)) := va_tlD (a := ((mW qm k cd wd se kd bn sh mb pr B R sx pt rd wt ln px) ++ ouW k ob of)) (b := ((ssW qs k gd wd se pr ln px cv co B R sx pt rd wt) ++ (plW od k ad bd ed kd nb sh mb))) hD
        refine kh_i (n := 5) (As := [.ref (qs 0), .int (nI s9), .int (nI p9), .int (nI 3), .int (nI n)]) (rest := []) ⟨hx, hb, hml, hown, hts⟩ (h_plugK3 l hl9 D k qs gd wd se pr ln px cv co B R sx pt rd wt od ad bd ed kd nb sh mb hwd hse hpr hkd hO s9 p9 hs9 hp9 n hn1 hn2 (by omega) t2 (hz _ (by omega) t2)) (Nat.le_of_ble_eq_true rfl) (Nat.le_of_ble_eq_true rfl) w_384 w_383 w_0 w_382 (by decide +kernel) hK hX hT hU hPc hDc hS hA rfl hl.1 rfl (Nat.le_of_ble_eq_true rfl) d_LW_law_169 ⟨by show 21 + 3 * i + 3 ≤ 601024; omega, by show 9395 + 263 * i + 263 ≤ 7293034; omega⟩ (fun r9 u9 H9 locs hr9 hP1 hD1 hk1 hS9 => ?_)
        subst hr9
        obtain ⟨a9, b9, c9⟩ := u9
        obtain ⟨hP, hD⟩ := fr_tl (a := ((mW qm k cd wd se kd bn sh mb pr B R sx pt rd wt ln px) ++ ouW k ob of)) (b := ((ssW qs k gd wd se pr ln px cv co B R sx pt rd wt) ++ (plW od k ad bd ed kd nb sh mb))) (b' := ((ssW qs k (va_up gd (4 * s9 + p9) (some a9)) wd se pr ln px cv co B R sx pt rd wt) ++ (plW (od ++ [(4 * s9 + p9)]) k (ss_up ad (4 * s9 + p9) a9) (ss_up bd (4 * s9 + p9) b9) (ss_up ed (4 * s9 + p9) c9) (ss_up kd (4 * s9 + p9) 3) (ss_up nb (4 * s9 + p9) n) (mshn sh (4 * s9 + p9) n 4) mb))) hP hD hk1 (fun q h => hA q (Nat.le_trans hS.1 h)) hP1 hD1
        clear hP1 hD1 hk1 hPc hDc
        have hS := hS9
        clear hS9
        generalize H9 = H at hP hS ⊢
        have hP : va_P D vwCl ((mW qm k cd wd se kd bn sh mb pr B R sx pt rd wt ln px) ++ (ouW k ob of ++ ((ssW qs k (va_up gd (4 * s9 + p9) (some a9)) wd se pr ln px cv co B R sx pt rd wt) ++ (plW (od ++ [(4 * s9 + p9)]) k (ss_up ad (4 * s9 + p9) a9) (ss_up bd (4 * s9 + p9) b9) (ss_up ed (4 * s9 + p9) c9) (ss_up kd (4 * s9 + p9) 3) (ss_up nb (4 * s9 + p9) n) (mshn sh (4 * s9 + p9) n 4) mb)))) _ := hP
        have hD : va_D A ((mW qm k cd wd se kd bn sh mb pr B R sx pt rd wt ln px) ++ (ouW k ob of ++ ((ssW qs k (va_up gd (4 * s9 + p9) (some a9)) wd se pr ln px cv co B R sx pt rd wt) ++ (plW (od ++ [(4 * s9 + p9)]) k (ss_up ad (4 * s9 + p9) a9) (ss_up bd (4 * s9 + p9) b9) (ss_up ed (4 * s9 + p9) c9) (ss_up kd (4 * s9 + p9) 3) (ss_up nb (4 * s9 + p9) n) (mshn sh (4 * s9 + p9) n 4) mb)))) := hD
        refine lv_istore (lv' := [(5, .int (nI 0)), (4, .int (nI (5 * i))), (0, .ref b), (1, .ref (qs 0)), (2, .ref (qm 0)), (3, .ref ob)]) hx hb d_LW_law_172 hl (by decide) rfl (fun ls hl => ?_)
        refine lv_aload_n hx hb d_LW_law_174 rfl (lv_at hl 4 rfl) ?_
        refine lv_aload_n hx hb d_LW_law_175 rfl (lv_at hl 2 rfl) ?_
        refine lv_iload hx hb d_LW_law_176 (lv_at hl 1 rfl) ?_
        refine lv_iconst (v := nI 1) hx hb d_LW_law_178 (by decide +kernel) ?_
        refine lv_iadd hx hb d_LW_law_179 ?_
        refine ss_rt (y := nI (5 * i + 1)) (nI_add _ _) ?_
        refine va_sld hx hb hsc hbl hbA hS (vp_in_nI (by omega) (by omega)) d_LW_law_180 ?_
        refine ss_rt (y := nI s9) (by rw [nI_clamp (by omega)]; exact hx1.symm) ?_
        refine lv_aload_n hx hb d_LW_law_181 rfl (lv_at hl 2 rfl) ?_
        refine lv_iload hx hb d_LW_law_182 (lv_at hl 1 rfl) ?_
        refine lv_iconst (v := nI 2) hx hb d_LW_law_184 (by decide +kernel) ?_
        refine lv_iadd hx hb d_LW_law_185 ?_
        refine ss_rt (y := nI (5 * i + 2)) (nI_add _ _) ?_
        refine va_sld hx hb hsc hbl hbA hS (vp_in_nI (by omega) (by omega)) d_LW_law_186 ?_
        refine ss_rt (y := nI p9) (by rw [nI_clamp (by omega)]; exact hx2.symm) ?_
        refine lv_aload_n hx hb d_LW_law_187 rfl (lv_at hl 2 rfl) ?_
        refine lv_iload hx hb d_LW_law_188 (lv_at hl 1 rfl) ?_
        refine lv_iconst (v := nI 3) hx hb d_LW_law_190 (by decide +kernel) ?_
        refine lv_iadd hx hb d_LW_law_191 ?_
        refine ss_rt (y := nI (5 * i + 3)) (nI_add _ _) ?_
        refine va_sld hx hb hsc hbl hbA hS (vp_in_nI (by omega) (by omega)) d_LW_law_192 ?_
        refine ss_rt (y := nI 3) (by rw [nI_clamp (by omega)]; exact hx3.symm) ?_
        refine lv_aload_n hx hb d_LW_law_193 rfl (lv_at hl 2 rfl) ?_
        refine lv_iload hx hb d_LW_law_194 (lv_at hl 1 rfl) ?_
        refine lv_iconst (v := nI 4) hx hb d_LW_law_196 (by decide +kernel) ?_
        refine lv_iadd hx hb d_LW_law_197 ?_
        refine ss_rt (y := nI (5 * i + 4)) (nI_add _ _) ?_
        refine va_sld hx hb hsc hbl hbA hS (vp_in_nI (by omega) (by omega)) d_LW_law_198 ?_
        refine ss_rt (y := nI n) (by rw [nI_clamp (by omega)]; exact hx4.symm) ?_
        have hPc : va_P D vwCl (mW qm k cd wd se kd bn sh mb pr B R sx pt rd wt ln px) _ := va_subP (a := []) (b := (mW qm k cd wd se kd bn sh mb pr B R sx pt rd wt ln px)) (c := ouW k ob of ++ ((ssW qs k (va_up gd (4 * s9 + p9) (some a9)) wd se pr ln px cv co B R sx pt rd wt) ++ (plW (od ++ [(4 * s9 + p9)]) k (ss_up ad (4 * s9 + p9) a9) (ss_up bd (4 * s9 + p9) b9) (ss_up ed (4 * s9 + p9) c9) (ss_up kd (4 * s9 + p9) 3) (ss_up nb (4 * s9 + p9) n) (mshn sh (4 * s9 + p9) n 4) mb))) hP
        have hDc : va_D A (mW qm k cd wd se kd bn sh mb pr B R sx pt rd wt ln px) := va_subD (a := []) (b := (mW qm k cd wd se kd bn sh mb pr B R sx pt rd wt ln px)) (c := ouW k ob of ++ ((ssW qs k (va_up gd (4 * s9 + p9) (some a9)) wd se pr ln px cv co B R sx pt rd wt) ++ (plW (od ++ [(4 * s9 + p9)]) k (ss_up ad (4 * s9 + p9) a9) (ss_up bd (4 * s9 + p9) b9) (ss_up ed (4 * s9 + p9) c9) (ss_up kd (4 * s9 + p9) 3) (ss_up nb (4 * s9 + p9) n) (mshn sh (4 * s9 + p9) n 4) mb))) hD
        refine kw_vV (As := [.int (nI s9), .int (nI p9), .int (nI 3), .int (nI n)]) (rest := []) ⟨hx, hb, hml, hown, hts⟩ (c_MO_plug3 l D k qm cd wd se kd bn sh mb pr B R sx pt rd wt ln px hwd hse hpr hkd hsh hmb s9 p9 hs9 hp9 3 (by omega) (by omega) rfl n hn1 hn2 (by omega) t2) (cwV 4 hts (gV w_590 w_591 w_592 w_5 w_593) rfl rfl rfl (by decide +kernel) ⟨Nat.le_of_ble_eq_true rfl, Nat.le_of_ble_eq_true rfl⟩) hK hPc hDc hS hA (va_recv hK hPc (ci := 7) (q0 := 0) rfl rfl) rfl hl.1 rfl (Nat.le_of_ble_eq_true rfl) d_LW_law_199 ⟨by show 21 + 3 * i + 3 ≤ 601024; omega, by show 9395 + 263 * i + 263 ≤ 7293034; omega⟩ (fun _ H9 locs _ hP1 hk1 hS9 => ?_)
        obtain ⟨hP, hD⟩ := fr_mid (a := []) (b := (mW qm k cd wd se kd bn sh mb pr B R sx pt rd wt ln px)) (c := ouW k ob of ++ ((ssW qs k (va_up gd (4 * s9 + p9) (some a9)) wd se pr ln px cv co B R sx pt rd wt) ++ (plW (od ++ [(4 * s9 + p9)]) k (ss_up ad (4 * s9 + p9) a9) (ss_up bd (4 * s9 + p9) b9) (ss_up ed (4 * s9 + p9) c9) (ss_up kd (4 * s9 + p9) 3) (ss_up nb (4 * s9 + p9) n) (mshn sh (4 * s9 + p9) n 4) mb))) (b' := (mW qm k (nI 0) wd se (ss_up kd (4 * s9 + p9) 3) (upd bn (4 * s9 + p9) (nI n)) (mshn sh (4 * s9 + p9) n 4) mb pr B R sx pt rd wt ln px)) hP hD hk1 (fun q h => hA q (Nat.le_trans hS.1 h)) hP1 (rw_same hDc.self rfl)
        clear hP1 hk1 hPc hDc
        have hS := hS9
        clear hS9
        generalize H9 = H at hP hS ⊢
        have hP : va_P D vwCl ((mW qm k (nI 0) wd se (ss_up kd (4 * s9 + p9) 3) (upd bn (4 * s9 + p9) (nI n)) (mshn sh (4 * s9 + p9) n 4) mb pr B R sx pt rd wt ln px) ++ (ouW k ob of ++ ((ssW qs k (va_up gd (4 * s9 + p9) (some a9)) wd se pr ln px cv co B R sx pt rd wt) ++ (plW (od ++ [(4 * s9 + p9)]) k (ss_up ad (4 * s9 + p9) a9) (ss_up bd (4 * s9 + p9) b9) (ss_up ed (4 * s9 + p9) c9) (ss_up kd (4 * s9 + p9) 3) (ss_up nb (4 * s9 + p9) n) (mshn sh (4 * s9 + p9) n 4) mb)))) _ := hP
        have hD : va_D A ((mW qm k (nI 0) wd se (ss_up kd (4 * s9 + p9) 3) (upd bn (4 * s9 + p9) (nI n)) (mshn sh (4 * s9 + p9) n 4) mb pr B R sx pt rd wt ln px) ++ (ouW k ob of ++ ((ssW qs k (va_up gd (4 * s9 + p9) (some a9)) wd se pr ln px cv co B R sx pt rd wt) ++ (plW (od ++ [(4 * s9 + p9)]) k (ss_up ad (4 * s9 + p9) a9) (ss_up bd (4 * s9 + p9) b9) (ss_up ed (4 * s9 + p9) c9) (ss_up kd (4 * s9 + p9) 3) (ss_up nb (4 * s9 + p9) n) (mshn sh (4 * s9 + p9) n 4) mb)))) := hD
        refine lv_aload_n hx hb d_LW_law_202 rfl (lv_at hl 4 rfl) ?_
        have hPc : va_P D vwCl (mW qm k (nI 0) wd se (ss_up kd (4 * s9 + p9) 3) (upd bn (4 * s9 + p9) (nI n)) (mshn sh (4 * s9 + p9) n 4) mb pr B R sx pt rd wt ln px) _ := va_subP (a := []) (b := (mW qm k (nI 0) wd se (ss_up kd (4 * s9 + p9) 3) (upd bn (4 * s9 + p9) (nI n)) (mshn sh (4 * s9 + p9) n 4) mb pr B R sx pt rd wt ln px)) (c := ouW k ob of ++ ((ssW qs k (va_up gd (4 * s9 + p9) (some a9)) wd se pr ln px cv co B R sx pt rd wt) ++ (plW (od ++ [(4 * s9 + p9)]) k (ss_up ad (4 * s9 + p9) a9) (ss_up bd (4 * s9 + p9) b9) (ss_up ed (4 * s9 + p9) c9) (ss_up kd (4 * s9 + p9) 3) (ss_up nb (4 * s9 + p9) n) (mshn sh (4 * s9 + p9) n 4) mb))) hP
        refine kr_iV (As := []) (rest := []) ⟨hx, hb, hml, hown, hts⟩ (c_MO_thrown l D k qm (nI 0) wd se (ss_up kd (4 * s9 + p9) 3) (upd bn (4 * s9 + p9) (nI n)) (mshn sh (4 * s9 + p9) n 4) mb pr B R sx pt rd wt ln px) (cwV 0 hts (gV w_579 w_580 w_581 w_5 w_582) rfl rfl rfl (by decide +kernel) ⟨Nat.le_of_ble_eq_true rfl, Nat.le_of_ble_eq_true rfl⟩) hK hPc (va_recv hK hPc (ci := 7) (q0 := 0) rfl rfl) rfl hl.1 rfl (Nat.le_of_ble_eq_true rfl) d_LW_law_203 ⟨by show 21 + 3 * i + 3 ≤ 601024; omega, by show 9395 + 263 * i + 263 ≤ 7293034; omega⟩ ?_
        refine lv_iload hx hb d_LW_law_206 (lv_at hl 0 rfl) ?_
        refine lv_icmp_eq (tgt := 213) hx hb d_LW_law_208 (by decide) (fun c2 => ?_) (fun c2 => ?_)
        · have c2 := (nI_eq (by omega) (by omega)).mp c2
          refine lv_goto (tgt := 661) hx hb d_LW_law_213 (by decide) ?_
          refine lv_iinc (v := nI (5 * (i + 1))) (lv' := [(4, .int (nI (5 * (i + 1)))), (5, .int (nI 0)), (0, .ref b), (1, .ref (qs 0)), (2, .ref (qm 0)), (3, .ref ob)]) hx hb d_LW_law_661 hl (k := 1) rfl ((nI_add (5 * i) 5).trans (by rw [Nat.mul_succ])) (by decide) rfl (fun ls hl => ?_)
          refine lv_goto (tgt := 23) hx hb d_LW_law_664 (by decide) ?_
          refine W.widen (k := 21 + 3 * (i + 1)) (n := 9395 + 263 * (i + 1)) (by show 21 + 3 * i + 3 ≤ _; omega) (by show 9395 + 263 * i + 263 ≤ _; omega) ?_
          exact ih (nI 0) (va_up gd (4 * s9 + p9) (some a9)) wd se pr ln px cv co B R sx pt rd wt (od ++ [(4 * s9 + p9)]) (ss_up ad (4 * s9 + p9) a9) (ss_up bd (4 * s9 + p9) b9) (ss_up ed (4 * s9 + p9) c9) (ss_up kd (4 * s9 + p9) 3) (ss_up nb (4 * s9 + p9) n) (mshn sh (4 * s9 + p9) n 4) mb (upd bn (4 * s9 + p9) (nI n)) of _ _ _ ⟨hwd, hse, hpr, hln, hB, hR, hsx, hpt, hwt, plO_ad3 hO (by omega) t2 hn1 hn2, ss_up_lt hkd (by omega), msh_lt hsh hn1 hn2, hmb, hbn_up3 hbn, hz_kd hz (by omega)⟩ hP hD hS (lv_sub hl [0, 2, 3, 4, 5] rfl)
        · have c2 := mt (nI_eq (by omega) (by omega)).mpr c2
          exfalso; omega
      refine lv_aload_n hx hb d_LW_law_144 rfl (lv_at hl 2 rfl) ?_
      refine lv_aload_n hx hb d_LW_law_145 rfl (lv_at hl 1 rfl) ?_
      refine lv_iload hx hb d_LW_law_146 (lv_at hl 0 rfl) ?_
      refine lv_iconst (v := nI 1) hx hb d_LW_law_148 (by decide +kernel) ?_
      refine lv_iadd hx hb d_LW_law_149 ?_
      refine ss_rt (y := nI (5 * i + 1)) (nI_add _ _) ?_
      refine va_sld hx hb hsc hbl hbA hS (vp_in_nI (by omega) (by omega)) d_LW_law_150 ?_
      refine ss_rt (y := nI s9) (by rw [nI_clamp (by omega)]; exact hx1.symm) ?_
      refine lv_aload_n hx hb d_LW_law_151 rfl (lv_at hl 1 rfl) ?_
      refine lv_iload hx hb d_LW_law_152 (lv_at hl 0 rfl) ?_
      refine lv_iconst (v := nI 2) hx hb d_LW_law_154 (by decide +kernel) ?_
      refine lv_iadd hx hb d_LW_law_155 ?_
      refine ss_rt (y := nI (5 * i + 2)) (nI_add _ _) ?_
      refine va_sld hx hb hsc hbl hbA hS (vp_in_nI (by omega) (by omega)) d_LW_law_156 ?_
      refine ss_rt (y := nI p9) (by rw [nI_clamp (by omega)]; exact hx2.symm) ?_
      refine lv_aload_n hx hb d_LW_law_157 rfl (lv_at hl 1 rfl) ?_
      refine lv_iload hx hb d_LW_law_158 (lv_at hl 0 rfl) ?_
      refine lv_iconst (v := nI 3) hx hb d_LW_law_160 (by decide +kernel) ?_
      refine lv_iadd hx hb d_LW_law_161 ?_
      refine ss_rt (y := nI (5 * i + 3)) (nI_add _ _) ?_
      refine va_sld hx hb hsc hbl hbA hS (vp_in_nI (by omega) (by omega)) d_LW_law_162 ?_
      refine ss_rt (y := nI 3) (by rw [nI_clamp (by omega)]; exact hx3.symm) ?_
      refine lv_aload_n hx hb d_LW_law_163 rfl (lv_at hl 1 rfl) ?_
      refine lv_iload hx hb d_LW_law_164 (lv_at hl 0 rfl) ?_
      refine lv_iconst (v := nI 4) hx hb d_LW_law_166 (by decide +kernel) ?_
      refine lv_iadd hx hb d_LW_law_167 ?_
      refine ss_rt (y := nI (5 * i + 4)) (nI_add _ _) ?_
      refine va_sld hx hb hsc hbl hbA hS (vp_in_nI (by omega) (by omega)) d_LW_law_168 ?_
      refine ss_rt (y := nI n) (by rw [nI_clamp (by omega)]; exact hx4.symm) ?_
      have hPc : va_P D vwCl ((ssW qs k gd wd se pr ln px cv co B R sx pt rd wt) ++ (plW od k ad bd ed kd nb sh mb)) _ := va_tlP (a := ((mW qm k cd wd se kd bn sh mb pr B R sx pt rd wt ln px) ++ ouW k ob of)) (b := ((ssW qs k gd wd se pr ln px cv co B R sx pt rd wt) ++ (plW od k ad bd ed kd nb sh mb))) hP
      have hDc : va_D A ((ssW qs k gd wd se pr ln px cv co B R sx pt rd wt) ++ (plW od k ad bd ed kd nb sh mb)) := va_tlD (a := ((mW qm k cd wd se kd bn sh mb pr B R sx pt rd wt ln px) ++ ouW k ob of)) (b := ((ssW qs k gd wd se pr ln px cv co B R sx pt rd wt) ++ (plW od k ad bd ed kd nb sh mb))) hD
      refine kh_i (n := 5) (As := [.ref (qs 0), .int (nI s9), .int (nI p9), .int (nI 3), .int (nI n)]) (rest := []) ⟨hx, hb, hml, hown, hts⟩ (h_plug2 l hl9 D k qs gd wd se pr ln px cv co B R sx pt rd wt od ad bd ed kd nb sh mb hwd hse hpr s9 p9 3 hs9 hp9 (nI n) (by omega) (by omega) (fun _ => by omega) (by omega) _ (gd_some hO (by omega) t2)) (Nat.le_of_ble_eq_true rfl) (Nat.le_of_ble_eq_true rfl) w_384 w_383 w_0 w_382 (by decide +kernel) hK hX hT hU hPc hDc hS hA rfl hl.1 rfl (Nat.le_of_ble_eq_true rfl) d_LW_law_169 ⟨by show 21 + 3 * i + 3 ≤ 601024; omega, by show 9395 + 263 * i + 263 ≤ 7293034; omega⟩ (fun r9 u9 H9 locs hr9 hP1 hD1 hk1 hS9 => ?_)
      subst hr9
      obtain ⟨hP, hD⟩ := fr_tl (a := ((mW qm k cd wd se kd bn sh mb pr B R sx pt rd wt ln px) ++ ouW k ob of)) (b := ((ssW qs k gd wd se pr ln px cv co B R sx pt rd wt) ++ (plW od k ad bd ed kd nb sh mb))) (b' := ((ssW qs k gd wd se pr ln px cv co B R sx pt rd wt) ++ (plW od k ad bd ed kd nb sh mb))) hP hD hk1 (fun q h => hA q (Nat.le_trans hS.1 h)) hP1 hD1
      clear hP1 hD1 hk1 hPc hDc
      have hS := hS9
      clear hS9
      generalize H9 = H at hP hS ⊢
      have hP : va_P D vwCl ((mW qm k cd wd se kd bn sh mb pr B R sx pt rd wt ln px) ++ (ouW k ob of ++ ((ssW qs k gd wd se pr ln px cv co B R sx pt rd wt) ++ (plW od k ad bd ed kd nb sh mb)))) _ := hP
      have hD : va_D A ((mW qm k cd wd se kd bn sh mb pr B R sx pt rd wt ln px) ++ (ouW k ob of ++ ((ssW qs k gd wd se pr ln px cv co B R sx pt rd wt) ++ (plW od k ad bd ed kd nb sh mb)))) := hD
      refine lv_istore (lv' := [(5, .int (nI 2)), (4, .int (nI (5 * i))), (0, .ref b), (1, .ref (qs 0)), (2, .ref (qm 0)), (3, .ref ob)]) hx hb d_LW_law_172 hl (by decide) rfl (fun ls hl => ?_)
      refine lv_aload_n hx hb d_LW_law_174 rfl (lv_at hl 4 rfl) ?_
      refine lv_aload_n hx hb d_LW_law_175 rfl (lv_at hl 2 rfl) ?_
      refine lv_iload hx hb d_LW_law_176 (lv_at hl 1 rfl) ?_
      refine lv_iconst (v := nI 1) hx hb d_LW_law_178 (by decide +kernel) ?_
      refine lv_iadd hx hb d_LW_law_179 ?_
      refine ss_rt (y := nI (5 * i + 1)) (nI_add _ _) ?_
      refine va_sld hx hb hsc hbl hbA hS (vp_in_nI (by omega) (by omega)) d_LW_law_180 ?_
      refine ss_rt (y := nI s9) (by rw [nI_clamp (by omega)]; exact hx1.symm) ?_
      refine lv_aload_n hx hb d_LW_law_181 rfl (lv_at hl 2 rfl) ?_
      refine lv_iload hx hb d_LW_law_182 (lv_at hl 1 rfl) ?_
      refine lv_iconst (v := nI 2) hx hb d_LW_law_184 (by decide +kernel) ?_
      refine lv_iadd hx hb d_LW_law_185 ?_
      refine ss_rt (y := nI (5 * i + 2)) (nI_add _ _) ?_
      refine va_sld hx hb hsc hbl hbA hS (vp_in_nI (by omega) (by omega)) d_LW_law_186 ?_
      refine ss_rt (y := nI p9) (by rw [nI_clamp (by omega)]; exact hx2.symm) ?_
      refine lv_aload_n hx hb d_LW_law_187 rfl (lv_at hl 2 rfl) ?_
      refine lv_iload hx hb d_LW_law_188 (lv_at hl 1 rfl) ?_
      refine lv_iconst (v := nI 3) hx hb d_LW_law_190 (by decide +kernel) ?_
      refine lv_iadd hx hb d_LW_law_191 ?_
      refine ss_rt (y := nI (5 * i + 3)) (nI_add _ _) ?_
      refine va_sld hx hb hsc hbl hbA hS (vp_in_nI (by omega) (by omega)) d_LW_law_192 ?_
      refine ss_rt (y := nI 3) (by rw [nI_clamp (by omega)]; exact hx3.symm) ?_
      refine lv_aload_n hx hb d_LW_law_193 rfl (lv_at hl 2 rfl) ?_
      refine lv_iload hx hb d_LW_law_194 (lv_at hl 1 rfl) ?_
      refine lv_iconst (v := nI 4) hx hb d_LW_law_196 (by decide +kernel) ?_
      refine lv_iadd hx hb d_LW_law_197 ?_
      refine ss_rt (y := nI (5 * i + 4)) (nI_add _ _) ?_
      refine va_sld hx hb hsc hbl hbA hS (vp_in_nI (by omega) (by omega)) d_LW_law_198 ?_
      refine ss_rt (y := nI n) (by rw [nI_clamp (by omega)]; exact hx4.symm) ?_
      have hPc : va_P D vwCl (mW qm k cd wd se kd bn sh mb pr B R sx pt rd wt ln px) _ := va_subP (a := []) (b := (mW qm k cd wd se kd bn sh mb pr B R sx pt rd wt ln px)) (c := ouW k ob of ++ ((ssW qs k gd wd se pr ln px cv co B R sx pt rd wt) ++ (plW od k ad bd ed kd nb sh mb))) hP
      have hDc : va_D A (mW qm k cd wd se kd bn sh mb pr B R sx pt rd wt ln px) := va_subD (a := []) (b := (mW qm k cd wd se kd bn sh mb pr B R sx pt rd wt ln px)) (c := ouW k ob of ++ ((ssW qs k gd wd se pr ln px cv co B R sx pt rd wt) ++ (plW od k ad bd ed kd nb sh mb))) hD
      refine kw_vV (As := [.int (nI s9), .int (nI p9), .int (nI 3), .int (nI n)]) (rest := []) ⟨hx, hb, hml, hown, hts⟩ (c_MO_plug3t l D k qm cd wd se kd bn sh mb pr B R sx pt rd wt ln px hwd hse hpr hkd hsh hmb s9 p9 hs9 hp9 3 (by omega) (by omega) rfl n hn1 hn2 (Or.inr t2)) (cwV 4 hts (gV w_590 w_591 w_592 w_5 w_593) rfl rfl rfl (by decide +kernel) ⟨Nat.le_of_ble_eq_true rfl, Nat.le_of_ble_eq_true rfl⟩) hK hPc hDc hS hA (va_recv hK hPc (ci := 7) (q0 := 0) rfl rfl) rfl hl.1 rfl (Nat.le_of_ble_eq_true rfl) d_LW_law_199 ⟨by show 21 + 3 * i + 3 ≤ 601024; omega, by show 9395 + 263 * i + 263 ≤ 7293034; omega⟩ (fun _ H9 locs _ hP1 hk1 hS9 => ?_)
      obtain ⟨hP, hD⟩ := fr_mid (a := []) (b := (mW qm k cd wd se kd bn sh mb pr B R sx pt rd wt ln px)) (c := ouW k ob of ++ ((ssW qs k gd wd se pr ln px cv co B R sx pt rd wt) ++ (plW od k ad bd ed kd nb sh mb))) (b' := (mW qm k (nI 2) wd se kd bn sh mb pr B R sx pt rd wt ln px)) hP hD hk1 (fun q h => hA q (Nat.le_trans hS.1 h)) hP1 (rw_same hDc.self rfl)
      clear hP1 hk1 hPc hDc
      have hS := hS9
      clear hS9
      generalize H9 = H at hP hS ⊢
      have hP : va_P D vwCl ((mW qm k (nI 2) wd se kd bn sh mb pr B R sx pt rd wt ln px) ++ (ouW k ob of ++ ((ssW qs k gd wd se pr ln px cv co B R sx pt rd wt) ++ (plW od k ad bd ed kd nb sh mb)))) _ := hP
      have hD : va_D A ((mW qm k (nI 2) wd se kd bn sh mb pr B R sx pt rd wt ln px) ++ (ouW k ob of ++ ((ssW qs k gd wd se pr ln px cv co B R sx pt rd wt) ++ (plW od k ad bd ed kd nb sh mb)))) := hD
      refine lv_aload_n hx hb d_LW_law_202 rfl (lv_at hl 4 rfl) ?_
      have hPc : va_P D vwCl (mW qm k (nI 2) wd se kd bn sh mb pr B R sx pt rd wt ln px) _ := va_subP (a := []) (b := (mW qm k (nI 2) wd se kd bn sh mb pr B R sx pt rd wt ln px)) (c := ouW k ob of ++ ((ssW qs k gd wd se pr ln px cv co B R sx pt rd wt) ++ (plW od k ad bd ed kd nb sh mb))) hP
      refine kr_iV (As := []) (rest := []) ⟨hx, hb, hml, hown, hts⟩ (c_MO_thrown l D k qm (nI 2) wd se kd bn sh mb pr B R sx pt rd wt ln px) (cwV 0 hts (gV w_579 w_580 w_581 w_5 w_582) rfl rfl rfl (by decide +kernel) ⟨Nat.le_of_ble_eq_true rfl, Nat.le_of_ble_eq_true rfl⟩) hK hPc (va_recv hK hPc (ci := 7) (q0 := 0) rfl rfl) rfl hl.1 rfl (Nat.le_of_ble_eq_true rfl) d_LW_law_203 ⟨by show 21 + 3 * i + 3 ≤ 601024; omega, by show 9395 + 263 * i + 263 ≤ 7293034; omega⟩ ?_
      refine lv_iload hx hb d_LW_law_206 (lv_at hl 0 rfl) ?_
      refine lv_icmp_eq (tgt := 213) hx hb d_LW_law_208 (by decide) (fun c3 => ?_) (fun c3 => ?_)
      · have c3 := (nI_eq (by omega) (by omega)).mp c3
        refine lv_goto (tgt := 661) hx hb d_LW_law_213 (by decide) ?_
        refine lv_iinc (v := nI (5 * (i + 1))) (lv' := [(4, .int (nI (5 * (i + 1)))), (5, .int (nI 2)), (0, .ref b), (1, .ref (qs 0)), (2, .ref (qm 0)), (3, .ref ob)]) hx hb d_LW_law_661 hl (k := 1) rfl ((nI_add (5 * i) 5).trans (by rw [Nat.mul_succ])) (by decide) rfl (fun ls hl => ?_)
        refine lv_goto (tgt := 23) hx hb d_LW_law_664 (by decide) ?_
        refine W.widen (k := 21 + 3 * (i + 1)) (n := 9395 + 263 * (i + 1)) (by show 21 + 3 * i + 3 ≤ _; omega) (by show 9395 + 263 * i + 263 ≤ _; omega) ?_
        exact ih (nI 2) gd wd se pr ln px cv co B R sx pt rd wt od ad bd ed kd nb sh mb bn of _ _ _ ⟨hwd, hse, hpr, hln, hB, hR, hsx, hpt, hwt, hO, hkd, hsh, hmb, hbn, hz⟩ hP hD hS (lv_sub hl [0, 2, 3, 4, 5] rfl)
      · have c3 := mt (nI_eq (by omega) (by omega)).mpr c3
        exfalso; omega
    by_cases t1 : wd s9 = 0 ∧ 0 < p9
    · skip
      refine lv_aload_n hx hb d_LW_law_144 rfl (lv_at hl 2 rfl) ?_
      refine lv_aload_n hx hb d_LW_law_145 rfl (lv_at hl 1 rfl) ?_
      refine lv_iload hx hb d_LW_law_146 (lv_at hl 0 rfl) ?_
      refine lv_iconst (v := nI 1) hx hb d_LW_law_148 (by decide +kernel) ?_
      refine lv_iadd hx hb d_LW_law_149 ?_
      refine ss_rt (y := nI (5 * i + 1)) (nI_add _ _) ?_
      refine va_sld hx hb hsc hbl hbA hS (vp_in_nI (by omega) (by omega)) d_LW_law_150 ?_
      refine ss_rt (y := nI s9) (by rw [nI_clamp (by omega)]; exact hx1.symm) ?_
      refine lv_aload_n hx hb d_LW_law_151 rfl (lv_at hl 1 rfl) ?_
      refine lv_iload hx hb d_LW_law_152 (lv_at hl 0 rfl) ?_
      refine lv_iconst (v := nI 2) hx hb d_LW_law_154 (by decide +kernel) ?_
      refine lv_iadd hx hb d_LW_law_155 ?_
      refine ss_rt (y := nI (5 * i + 2)) (nI_add _ _) ?_
      refine va_sld hx hb hsc hbl hbA hS (vp_in_nI (by omega) (by omega)) d_LW_law_156 ?_
      refine ss_rt (y := nI p9) (by rw [nI_clamp (by omega)]; exact hx2.symm) ?_
      refine lv_aload_n hx hb d_LW_law_157 rfl (lv_at hl 1 rfl) ?_
      refine lv_iload hx hb d_LW_law_158 (lv_at hl 0 rfl) ?_
      refine lv_iconst (v := nI 3) hx hb d_LW_law_160 (by decide +kernel) ?_
      refine lv_iadd hx hb d_LW_law_161 ?_
      refine ss_rt (y := nI (5 * i + 3)) (nI_add _ _) ?_
      refine va_sld hx hb hsc hbl hbA hS (vp_in_nI (by omega) (by omega)) d_LW_law_162 ?_
      refine ss_rt (y := nI kk) (by rw [nI_clamp (by omega)]; exact hx3.symm) ?_
      refine lv_aload_n hx hb d_LW_law_163 rfl (lv_at hl 1 rfl) ?_
      refine lv_iload hx hb d_LW_law_164 (lv_at hl 0 rfl) ?_
      refine lv_iconst (v := nI 4) hx hb d_LW_law_166 (by decide +kernel) ?_
      refine lv_iadd hx hb d_LW_law_167 ?_
      refine ss_rt (y := nI (5 * i + 4)) (nI_add _ _) ?_
      refine va_sld hx hb hsc hbl hbA hS (vp_in_nI (by omega) (by omega)) d_LW_law_168 ?_
      refine ss_rt (y := x4) (by rw [nI_clamp (by omega)]; exact hx4.symm) ?_
      have hPc : va_P D vwCl ((ssW qs k gd wd se pr ln px cv co B R sx pt rd wt) ++ (plW od k ad bd ed kd nb sh mb)) _ := va_tlP (a := ((mW qm k cd wd se kd bn sh mb pr B R sx pt rd wt ln px) ++ ouW k ob of)) (b := ((ssW qs k gd wd se pr ln px cv co B R sx pt rd wt) ++ (plW od k ad bd ed kd nb sh mb))) hP
      have hDc : va_D A ((ssW qs k gd wd se pr ln px cv co B R sx pt rd wt) ++ (plW od k ad bd ed kd nb sh mb)) := va_tlD (a := ((mW qm k cd wd se kd bn sh mb pr B R sx pt rd wt ln px) ++ ouW k ob of)) (b := ((ssW qs k gd wd se pr ln px cv co B R sx pt rd wt) ++ (plW od k ad bd ed kd nb sh mb))) hD
      refine kh_i (n := 5) (As := [.ref (qs 0), .int (nI s9), .int (nI p9), .int (nI kk), .int x4]) (rest := []) ⟨hx, hb, hml, hown, hts⟩ (h_plug1 l hl9 D k qs gd wd se pr ln px cv co B R sx pt rd wt od ad bd ed kd nb sh mb hwd hse hpr s9 p9 kk hs9 hp9 x4 (by omega) (by omega) (fun z => absurd z k3) t1) (Nat.le_of_ble_eq_true rfl) (Nat.le_of_ble_eq_true rfl) w_384 w_383 w_0 w_382 (by decide +kernel) hK hX hT hU hPc hDc hS hA rfl hl.1 rfl (Nat.le_of_ble_eq_true rfl) d_LW_law_169 ⟨by show 21 + 3 * i + 3 ≤ 601024; omega, by show 9395 + 263 * i + 263 ≤ 7293034; omega⟩ (fun r9 u9 H9 locs hr9 hP1 hD1 hk1 hS9 => ?_)
      subst hr9
      obtain ⟨hP, hD⟩ := fr_tl (a := ((mW qm k cd wd se kd bn sh mb pr B R sx pt rd wt ln px) ++ ouW k ob of)) (b := ((ssW qs k gd wd se pr ln px cv co B R sx pt rd wt) ++ (plW od k ad bd ed kd nb sh mb))) (b' := ((ssW qs k gd wd se pr ln px cv co B R sx pt rd wt) ++ (plW od k ad bd ed kd nb sh mb))) hP hD hk1 (fun q h => hA q (Nat.le_trans hS.1 h)) hP1 hD1
      clear hP1 hD1 hk1 hPc hDc
      have hS := hS9
      clear hS9
      generalize H9 = H at hP hS ⊢
      have hP : va_P D vwCl ((mW qm k cd wd se kd bn sh mb pr B R sx pt rd wt ln px) ++ (ouW k ob of ++ ((ssW qs k gd wd se pr ln px cv co B R sx pt rd wt) ++ (plW od k ad bd ed kd nb sh mb)))) _ := hP
      have hD : va_D A ((mW qm k cd wd se kd bn sh mb pr B R sx pt rd wt ln px) ++ (ouW k ob of ++ ((ssW qs k gd wd se pr ln px cv co B R sx pt rd wt) ++ (plW od k ad bd ed kd nb sh mb)))) := hD
      refine lv_istore (lv' := [(5, .int (nI 2)), (4, .int (nI (5 * i))), (0, .ref b), (1, .ref (qs 0)), (2, .ref (qm 0)), (3, .ref ob)]) hx hb d_LW_law_172 hl (by decide) rfl (fun ls hl => ?_)
      refine lv_aload_n hx hb d_LW_law_174 rfl (lv_at hl 4 rfl) ?_
      refine lv_aload_n hx hb d_LW_law_175 rfl (lv_at hl 2 rfl) ?_
      refine lv_iload hx hb d_LW_law_176 (lv_at hl 1 rfl) ?_
      refine lv_iconst (v := nI 1) hx hb d_LW_law_178 (by decide +kernel) ?_
      refine lv_iadd hx hb d_LW_law_179 ?_
      refine ss_rt (y := nI (5 * i + 1)) (nI_add _ _) ?_
      refine va_sld hx hb hsc hbl hbA hS (vp_in_nI (by omega) (by omega)) d_LW_law_180 ?_
      refine ss_rt (y := nI s9) (by rw [nI_clamp (by omega)]; exact hx1.symm) ?_
      refine lv_aload_n hx hb d_LW_law_181 rfl (lv_at hl 2 rfl) ?_
      refine lv_iload hx hb d_LW_law_182 (lv_at hl 1 rfl) ?_
      refine lv_iconst (v := nI 2) hx hb d_LW_law_184 (by decide +kernel) ?_
      refine lv_iadd hx hb d_LW_law_185 ?_
      refine ss_rt (y := nI (5 * i + 2)) (nI_add _ _) ?_
      refine va_sld hx hb hsc hbl hbA hS (vp_in_nI (by omega) (by omega)) d_LW_law_186 ?_
      refine ss_rt (y := nI p9) (by rw [nI_clamp (by omega)]; exact hx2.symm) ?_
      refine lv_aload_n hx hb d_LW_law_187 rfl (lv_at hl 2 rfl) ?_
      refine lv_iload hx hb d_LW_law_188 (lv_at hl 1 rfl) ?_
      refine lv_iconst (v := nI 3) hx hb d_LW_law_190 (by decide +kernel) ?_
      refine lv_iadd hx hb d_LW_law_191 ?_
      refine ss_rt (y := nI (5 * i + 3)) (nI_add _ _) ?_
      refine va_sld hx hb hsc hbl hbA hS (vp_in_nI (by omega) (by omega)) d_LW_law_192 ?_
      refine ss_rt (y := nI kk) (by rw [nI_clamp (by omega)]; exact hx3.symm) ?_
      refine lv_aload_n hx hb d_LW_law_193 rfl (lv_at hl 2 rfl) ?_
      refine lv_iload hx hb d_LW_law_194 (lv_at hl 1 rfl) ?_
      refine lv_iconst (v := nI 4) hx hb d_LW_law_196 (by decide +kernel) ?_
      refine lv_iadd hx hb d_LW_law_197 ?_
      refine ss_rt (y := nI (5 * i + 4)) (nI_add _ _) ?_
      refine va_sld hx hb hsc hbl hbA hS (vp_in_nI (by omega) (by omega)) d_LW_law_198 ?_
      refine ss_rt (y := x4) (by rw [nI_clamp (by omega)]; exact hx4.symm) ?_
      have hPc : va_P D vwCl (mW qm k cd wd se kd bn sh mb pr B R sx pt rd wt ln px) _ := va_subP (a := []) (b := (mW qm k cd wd se kd bn sh mb pr B R sx pt rd wt ln px)) (c := ouW k ob of ++ ((ssW qs k gd wd se pr ln px cv co B R sx pt rd wt) ++ (plW od k ad bd ed kd nb sh mb))) hP
      have hDc : va_D A (mW qm k cd wd se kd bn sh mb pr B R sx pt rd wt ln px) := va_subD (a := []) (b := (mW qm k cd wd se kd bn sh mb pr B R sx pt rd wt ln px)) (c := ouW k ob of ++ ((ssW qs k gd wd se pr ln px cv co B R sx pt rd wt) ++ (plW od k ad bd ed kd nb sh mb))) hD
      refine kw_vV (As := [.int (nI s9), .int (nI p9), .int (nI kk), .int x4]) (rest := []) ⟨hx, hb, hml, hown, hts⟩ (c_MO_plugt l D k qm cd wd se kd bn sh mb pr B R sx pt rd wt ln px hwd hse hpr hkd hsh hmb s9 p9 hs9 hp9 kk (by omega) (by omega) k3 x4 (Or.inl t1)) (cwV 4 hts (gV w_590 w_591 w_592 w_5 w_593) rfl rfl rfl (by decide +kernel) ⟨Nat.le_of_ble_eq_true rfl, Nat.le_of_ble_eq_true rfl⟩) hK hPc hDc hS hA (va_recv hK hPc (ci := 7) (q0 := 0) rfl rfl) rfl hl.1 rfl (Nat.le_of_ble_eq_true rfl) d_LW_law_199 ⟨by show 21 + 3 * i + 3 ≤ 601024; omega, by show 9395 + 263 * i + 263 ≤ 7293034; omega⟩ (fun _ H9 locs _ hP1 hk1 hS9 => ?_)
      obtain ⟨hP, hD⟩ := fr_mid (a := []) (b := (mW qm k cd wd se kd bn sh mb pr B R sx pt rd wt ln px)) (c := ouW k ob of ++ ((ssW qs k gd wd se pr ln px cv co B R sx pt rd wt) ++ (plW od k ad bd ed kd nb sh mb))) (b' := (mW qm k (nI 2) wd se kd bn sh mb pr B R sx pt rd wt ln px)) hP hD hk1 (fun q h => hA q (Nat.le_trans hS.1 h)) hP1 (rw_same hDc.self rfl)
      clear hP1 hk1 hPc hDc
      have hS := hS9
      clear hS9
      generalize H9 = H at hP hS ⊢
      have hP : va_P D vwCl ((mW qm k (nI 2) wd se kd bn sh mb pr B R sx pt rd wt ln px) ++ (ouW k ob of ++ ((ssW qs k gd wd se pr ln px cv co B R sx pt rd wt) ++ (plW od k ad bd ed kd nb sh mb)))) _ := hP
      have hD : va_D A ((mW qm k (nI 2) wd se kd bn sh mb pr B R sx pt rd wt ln px) ++ (ouW k ob of ++ ((ssW qs k gd wd se pr ln px cv co B R sx pt rd wt) ++ (plW od k ad bd ed kd nb sh mb)))) := hD
      refine lv_aload_n hx hb d_LW_law_202 rfl (lv_at hl 4 rfl) ?_
      have hPc : va_P D vwCl (mW qm k (nI 2) wd se kd bn sh mb pr B R sx pt rd wt ln px) _ := va_subP (a := []) (b := (mW qm k (nI 2) wd se kd bn sh mb pr B R sx pt rd wt ln px)) (c := ouW k ob of ++ ((ssW qs k gd wd se pr ln px cv co B R sx pt rd wt) ++ (plW od k ad bd ed kd nb sh mb))) hP
      refine kr_iV (As := []) (rest := []) ⟨hx, hb, hml, hown, hts⟩ (c_MO_thrown l D k qm (nI 2) wd se kd bn sh mb pr B R sx pt rd wt ln px) (cwV 0 hts (gV w_579 w_580 w_581 w_5 w_582) rfl rfl rfl (by decide +kernel) ⟨Nat.le_of_ble_eq_true rfl, Nat.le_of_ble_eq_true rfl⟩) hK hPc (va_recv hK hPc (ci := 7) (q0 := 0) rfl rfl) rfl hl.1 rfl (Nat.le_of_ble_eq_true rfl) d_LW_law_203 ⟨by show 21 + 3 * i + 3 ≤ 601024; omega, by show 9395 + 263 * i + 263 ≤ 7293034; omega⟩ ?_
      refine lv_iload hx hb d_LW_law_206 (lv_at hl 0 rfl) ?_
      refine lv_icmp_eq (tgt := 213) hx hb d_LW_law_208 (by decide) (fun c4 => ?_) (fun c4 => ?_)
      · have c4 := (nI_eq (by omega) (by omega)).mp c4
        refine lv_goto (tgt := 661) hx hb d_LW_law_213 (by decide) ?_
        refine lv_iinc (v := nI (5 * (i + 1))) (lv' := [(4, .int (nI (5 * (i + 1)))), (5, .int (nI 2)), (0, .ref b), (1, .ref (qs 0)), (2, .ref (qm 0)), (3, .ref ob)]) hx hb d_LW_law_661 hl (k := 1) rfl ((nI_add (5 * i) 5).trans (by rw [Nat.mul_succ])) (by decide) rfl (fun ls hl => ?_)
        refine lv_goto (tgt := 23) hx hb d_LW_law_664 (by decide) ?_
        refine W.widen (k := 21 + 3 * (i + 1)) (n := 9395 + 263 * (i + 1)) (by show 21 + 3 * i + 3 ≤ _; omega) (by show 9395 + 263 * i + 263 ≤ _; omega) ?_
        exact ih (nI 2) gd wd se pr ln px cv co B R sx pt rd wt od ad bd ed kd nb sh mb bn of _ _ _ ⟨hwd, hse, hpr, hln, hB, hR, hsx, hpt, hwt, hO, hkd, hsh, hmb, hbn, hz⟩ hP hD hS (lv_sub hl [0, 2, 3, 4, 5] rfl)
      · have c4 := mt (nI_eq (by omega) (by omega)).mpr c4
        exfalso; omega
    by_cases t2 : kd (4 * s9 + p9) = 0
    · skip
      rcases (show kk = 1 ∨ kk = 2 ∨ kk = 4 by omega) with rfl | rfl | rfl
      · skip
        refine lv_aload_n hx hb d_LW_law_144 rfl (lv_at hl 2 rfl) ?_
        refine lv_aload_n hx hb d_LW_law_145 rfl (lv_at hl 1 rfl) ?_
        refine lv_iload hx hb d_LW_law_146 (lv_at hl 0 rfl) ?_
        refine lv_iconst (v := nI 1) hx hb d_LW_law_148 (by decide +kernel) ?_
        refine lv_iadd hx hb d_LW_law_149 ?_
        refine ss_rt (y := nI (5 * i + 1)) (nI_add _ _) ?_
        refine va_sld hx hb hsc hbl hbA hS (vp_in_nI (by omega) (by omega)) d_LW_law_150 ?_
        refine ss_rt (y := nI s9) (by rw [nI_clamp (by omega)]; exact hx1.symm) ?_
        refine lv_aload_n hx hb d_LW_law_151 rfl (lv_at hl 1 rfl) ?_
        refine lv_iload hx hb d_LW_law_152 (lv_at hl 0 rfl) ?_
        refine lv_iconst (v := nI 2) hx hb d_LW_law_154 (by decide +kernel) ?_
        refine lv_iadd hx hb d_LW_law_155 ?_
        refine ss_rt (y := nI (5 * i + 2)) (nI_add _ _) ?_
        refine va_sld hx hb hsc hbl hbA hS (vp_in_nI (by omega) (by omega)) d_LW_law_156 ?_
        refine ss_rt (y := nI p9) (by rw [nI_clamp (by omega)]; exact hx2.symm) ?_
        refine lv_aload_n hx hb d_LW_law_157 rfl (lv_at hl 1 rfl) ?_
        refine lv_iload hx hb d_LW_law_158 (lv_at hl 0 rfl) ?_
        refine lv_iconst (v := nI 3) hx hb d_LW_law_160 (by decide +kernel) ?_
        refine lv_iadd hx hb d_LW_law_161 ?_
        refine ss_rt (y := nI (5 * i + 3)) (nI_add _ _) ?_
        refine va_sld hx hb hsc hbl hbA hS (vp_in_nI (by omega) (by omega)) d_LW_law_162 ?_
        refine ss_rt (y := nI 1) (by rw [nI_clamp (by omega)]; exact hx3.symm) ?_
        refine lv_aload_n hx hb d_LW_law_163 rfl (lv_at hl 1 rfl) ?_
        refine lv_iload hx hb d_LW_law_164 (lv_at hl 0 rfl) ?_
        refine lv_iconst (v := nI 4) hx hb d_LW_law_166 (by decide +kernel) ?_
        refine lv_iadd hx hb d_LW_law_167 ?_
        refine ss_rt (y := nI (5 * i + 4)) (nI_add _ _) ?_
        refine va_sld hx hb hsc hbl hbA hS (vp_in_nI (by omega) (by omega)) d_LW_law_168 ?_
        refine ss_rt (y := x4) (by rw [nI_clamp (by omega)]; exact hx4.symm) ?_
        have hPc : va_P D vwCl ((ssW qs k gd wd se pr ln px cv co B R sx pt rd wt) ++ (plW od k ad bd ed kd nb sh mb)) _ := va_tlP (a := ((mW qm k cd wd se kd bn sh mb pr B R sx pt rd wt ln px) ++ ouW k ob of)) (b := ((ssW qs k gd wd se pr ln px cv co B R sx pt rd wt) ++ (plW od k ad bd ed kd nb sh mb))) hP
        have hDc : va_D A ((ssW qs k gd wd se pr ln px cv co B R sx pt rd wt) ++ (plW od k ad bd ed kd nb sh mb)) := va_tlD (a := ((mW qm k cd wd se kd bn sh mb pr B R sx pt rd wt ln px) ++ ouW k ob of)) (b := ((ssW qs k gd wd se pr ln px cv co B R sx pt rd wt) ++ (plW od k ad bd ed kd nb sh mb))) hD
        refine kh_i (n := 5) (As := [.ref (qs 0), .int (nI s9), .int (nI p9), .int (nI 1), .int x4]) (rest := []) ⟨hx, hb, hml, hown, hts⟩ (h_plugK1 l hl9 D k qs gd wd se pr ln px cv co B R sx pt rd wt od ad bd ed kd nb sh mb hwd hse hpr hkd hO s9 p9 hs9 hp9 x4 (by omega) t2 (hz _ (by omega) t2)) (Nat.le_of_ble_eq_true rfl) (Nat.le_of_ble_eq_true rfl) w_384 w_383 w_0 w_382 (by decide +kernel) hK hX hT hU hPc hDc hS hA rfl hl.1 rfl (Nat.le_of_ble_eq_true rfl) d_LW_law_169 ⟨by show 21 + 3 * i + 3 ≤ 601024; omega, by show 9395 + 263 * i + 263 ≤ 7293034; omega⟩ (fun r9 u9 H9 locs hr9 hP1 hD1 hk1 hS9 => ?_)
        subst hr9
        obtain ⟨a9, b9, c9⟩ := u9
        obtain ⟨hP, hD⟩ := fr_tl (a := ((mW qm k cd wd se kd bn sh mb pr B R sx pt rd wt ln px) ++ ouW k ob of)) (b := ((ssW qs k gd wd se pr ln px cv co B R sx pt rd wt) ++ (plW od k ad bd ed kd nb sh mb))) (b' := ((ssW qs k (va_up gd (4 * s9 + p9) (some a9)) wd se pr ln px cv co B R sx pt rd wt) ++ (plW (od ++ [(4 * s9 + p9)]) k (ss_up ad (4 * s9 + p9) a9) (ss_up bd (4 * s9 + p9) b9) (ss_up ed (4 * s9 + p9) c9) (ss_up kd (4 * s9 + p9) 1) nb sh mb))) hP hD hk1 (fun q h => hA q (Nat.le_trans hS.1 h)) hP1 hD1
        clear hP1 hD1 hk1 hPc hDc
        have hS := hS9
        clear hS9
        generalize H9 = H at hP hS ⊢
        have hP : va_P D vwCl ((mW qm k cd wd se kd bn sh mb pr B R sx pt rd wt ln px) ++ (ouW k ob of ++ ((ssW qs k (va_up gd (4 * s9 + p9) (some a9)) wd se pr ln px cv co B R sx pt rd wt) ++ (plW (od ++ [(4 * s9 + p9)]) k (ss_up ad (4 * s9 + p9) a9) (ss_up bd (4 * s9 + p9) b9) (ss_up ed (4 * s9 + p9) c9) (ss_up kd (4 * s9 + p9) 1) nb sh mb)))) _ := hP
        have hD : va_D A ((mW qm k cd wd se kd bn sh mb pr B R sx pt rd wt ln px) ++ (ouW k ob of ++ ((ssW qs k (va_up gd (4 * s9 + p9) (some a9)) wd se pr ln px cv co B R sx pt rd wt) ++ (plW (od ++ [(4 * s9 + p9)]) k (ss_up ad (4 * s9 + p9) a9) (ss_up bd (4 * s9 + p9) b9) (ss_up ed (4 * s9 + p9) c9) (ss_up kd (4 * s9 + p9) 1) nb sh mb)))) := hD
        refine lv_istore (lv' := [(5, .int (nI 0)), (4, .int (nI (5 * i))), (0, .ref b), (1, .ref (qs 0)), (2, .ref (qm 0)), (3, .ref ob)]) hx hb d_LW_law_172 hl (by decide) rfl (fun ls hl => ?_)
        refine lv_aload_n hx hb d_LW_law_174 rfl (lv_at hl 4 rfl) ?_
        refine lv_aload_n hx hb d_LW_law_175 rfl (lv_at hl 2 rfl) ?_
        refine lv_iload hx hb d_LW_law_176 (lv_at hl 1 rfl) ?_
        refine lv_iconst (v := nI 1) hx hb d_LW_law_178 (by decide +kernel) ?_
        refine lv_iadd hx hb d_LW_law_179 ?_
        refine ss_rt (y := nI (5 * i + 1)) (nI_add _ _) ?_
        refine va_sld hx hb hsc hbl hbA hS (vp_in_nI (by omega) (by omega)) d_LW_law_180 ?_
        refine ss_rt (y := nI s9) (by rw [nI_clamp (by omega)]; exact hx1.symm) ?_
        refine lv_aload_n hx hb d_LW_law_181 rfl (lv_at hl 2 rfl) ?_
        refine lv_iload hx hb d_LW_law_182 (lv_at hl 1 rfl) ?_
        refine lv_iconst (v := nI 2) hx hb d_LW_law_184 (by decide +kernel) ?_
        refine lv_iadd hx hb d_LW_law_185 ?_
        refine ss_rt (y := nI (5 * i + 2)) (nI_add _ _) ?_
        refine va_sld hx hb hsc hbl hbA hS (vp_in_nI (by omega) (by omega)) d_LW_law_186 ?_
        refine ss_rt (y := nI p9) (by rw [nI_clamp (by omega)]; exact hx2.symm) ?_
        refine lv_aload_n hx hb d_LW_law_187 rfl (lv_at hl 2 rfl) ?_
        refine lv_iload hx hb d_LW_law_188 (lv_at hl 1 rfl) ?_
        refine lv_iconst (v := nI 3) hx hb d_LW_law_190 (by decide +kernel) ?_
        refine lv_iadd hx hb d_LW_law_191 ?_
        refine ss_rt (y := nI (5 * i + 3)) (nI_add _ _) ?_
        refine va_sld hx hb hsc hbl hbA hS (vp_in_nI (by omega) (by omega)) d_LW_law_192 ?_
        refine ss_rt (y := nI 1) (by rw [nI_clamp (by omega)]; exact hx3.symm) ?_
        refine lv_aload_n hx hb d_LW_law_193 rfl (lv_at hl 2 rfl) ?_
        refine lv_iload hx hb d_LW_law_194 (lv_at hl 1 rfl) ?_
        refine lv_iconst (v := nI 4) hx hb d_LW_law_196 (by decide +kernel) ?_
        refine lv_iadd hx hb d_LW_law_197 ?_
        refine ss_rt (y := nI (5 * i + 4)) (nI_add _ _) ?_
        refine va_sld hx hb hsc hbl hbA hS (vp_in_nI (by omega) (by omega)) d_LW_law_198 ?_
        refine ss_rt (y := x4) (by rw [nI_clamp (by omega)]; exact hx4.symm) ?_
        have hPc : va_P D vwCl (mW qm k cd wd se kd bn sh mb pr B R sx pt rd wt ln px) _ := va_subP (a := []) (b := (mW qm k cd wd se kd bn sh mb pr B R sx pt rd wt ln px)) (c := ouW k ob of ++ ((ssW qs k (va_up gd (4 * s9 + p9) (some a9)) wd se pr ln px cv co B R sx pt rd wt) ++ (plW (od ++ [(4 * s9 + p9)]) k (ss_up ad (4 * s9 + p9) a9) (ss_up bd (4 * s9 + p9) b9) (ss_up ed (4 * s9 + p9) c9) (ss_up kd (4 * s9 + p9) 1) nb sh mb))) hP
        have hDc : va_D A (mW qm k cd wd se kd bn sh mb pr B R sx pt rd wt ln px) := va_subD (a := []) (b := (mW qm k cd wd se kd bn sh mb pr B R sx pt rd wt ln px)) (c := ouW k ob of ++ ((ssW qs k (va_up gd (4 * s9 + p9) (some a9)) wd se pr ln px cv co B R sx pt rd wt) ++ (plW (od ++ [(4 * s9 + p9)]) k (ss_up ad (4 * s9 + p9) a9) (ss_up bd (4 * s9 + p9) b9) (ss_up ed (4 * s9 + p9) c9) (ss_up kd (4 * s9 + p9) 1) nb sh mb))) hD
        refine kw_vV (As := [.int (nI s9), .int (nI p9), .int (nI 1), .int x4]) (rest := []) ⟨hx, hb, hml, hown, hts⟩ (c_MO_plug l D k qm cd wd se kd bn sh mb pr B R sx pt rd wt ln px hwd hse hpr hkd hsh hmb s9 p9 hs9 hp9 1 (by omega) (by omega) (by omega) x4 (by omega) t2) (cwV 4 hts (gV w_590 w_591 w_592 w_5 w_593) rfl rfl rfl (by decide +kernel) ⟨Nat.le_of_ble_eq_true rfl, Nat.le_of_ble_eq_true rfl⟩) hK hPc hDc hS hA (va_recv hK hPc (ci := 7) (q0 := 0) rfl rfl) rfl hl.1 rfl (Nat.le_of_ble_eq_true rfl) d_LW_law_199 ⟨by show 21 + 3 * i + 3 ≤ 601024; omega, by show 9395 + 263 * i + 263 ≤ 7293034; omega⟩ (fun _ H9 locs _ hP1 hk1 hS9 => ?_)
        obtain ⟨hP, hD⟩ := fr_mid (a := []) (b := (mW qm k cd wd se kd bn sh mb pr B R sx pt rd wt ln px)) (c := ouW k ob of ++ ((ssW qs k (va_up gd (4 * s9 + p9) (some a9)) wd se pr ln px cv co B R sx pt rd wt) ++ (plW (od ++ [(4 * s9 + p9)]) k (ss_up ad (4 * s9 + p9) a9) (ss_up bd (4 * s9 + p9) b9) (ss_up ed (4 * s9 + p9) c9) (ss_up kd (4 * s9 + p9) 1) nb sh mb))) (b' := (mW qm k (nI 0) wd se (ss_up kd (4 * s9 + p9) 1) (upd bn (4 * s9 + p9) x4) sh mb pr B R sx pt rd wt ln px)) hP hD hk1 (fun q h => hA q (Nat.le_trans hS.1 h)) hP1 (rw_same hDc.self rfl)
        clear hP1 hk1 hPc hDc
        have hS := hS9
        clear hS9
        generalize H9 = H at hP hS ⊢
        have hP : va_P D vwCl ((mW qm k (nI 0) wd se (ss_up kd (4 * s9 + p9) 1) (upd bn (4 * s9 + p9) x4) sh mb pr B R sx pt rd wt ln px) ++ (ouW k ob of ++ ((ssW qs k (va_up gd (4 * s9 + p9) (some a9)) wd se pr ln px cv co B R sx pt rd wt) ++ (plW (od ++ [(4 * s9 + p9)]) k (ss_up ad (4 * s9 + p9) a9) (ss_up bd (4 * s9 + p9) b9) (ss_up ed (4 * s9 + p9) c9) (ss_up kd (4 * s9 + p9) 1) nb sh mb)))) _ := hP
        have hD : va_D A ((mW qm k (nI 0) wd se (ss_up kd (4 * s9 + p9) 1) (upd bn (4 * s9 + p9) x4) sh mb pr B R sx pt rd wt ln px) ++ (ouW k ob of ++ ((ssW qs k (va_up gd (4 * s9 + p9) (some a9)) wd se pr ln px cv co B R sx pt rd wt) ++ (plW (od ++ [(4 * s9 + p9)]) k (ss_up ad (4 * s9 + p9) a9) (ss_up bd (4 * s9 + p9) b9) (ss_up ed (4 * s9 + p9) c9) (ss_up kd (4 * s9 + p9) 1) nb sh mb)))) := hD
        refine lv_aload_n hx hb d_LW_law_202 rfl (lv_at hl 4 rfl) ?_
        have hPc : va_P D vwCl (mW qm k (nI 0) wd se (ss_up kd (4 * s9 + p9) 1) (upd bn (4 * s9 + p9) x4) sh mb pr B R sx pt rd wt ln px) _ := va_subP (a := []) (b := (mW qm k (nI 0) wd se (ss_up kd (4 * s9 + p9) 1) (upd bn (4 * s9 + p9) x4) sh mb pr B R sx pt rd wt ln px)) (c := ouW k ob of ++ ((ssW qs k (va_up gd (4 * s9 + p9) (some a9)) wd se pr ln px cv co B R sx pt rd wt) ++ (plW (od ++ [(4 * s9 + p9)]) k (ss_up ad (4 * s9 + p9) a9) (ss_up bd (4 * s9 + p9) b9) (ss_up ed (4 * s9 + p9) c9) (ss_up kd (4 * s9 + p9) 1) nb sh mb))) hP
        refine kr_iV (As := []) (rest := []) ⟨hx, hb, hml, hown, hts⟩ (c_MO_thrown l D k qm (nI 0) wd se (ss_up kd (4 * s9 + p9) 1) (upd bn (4 * s9 + p9) x4) sh mb pr B R sx pt rd wt ln px) (cwV 0 hts (gV w_579 w_580 w_581 w_5 w_582) rfl rfl rfl (by decide +kernel) ⟨Nat.le_of_ble_eq_true rfl, Nat.le_of_ble_eq_true rfl⟩) hK hPc (va_recv hK hPc (ci := 7) (q0 := 0) rfl rfl) rfl hl.1 rfl (Nat.le_of_ble_eq_true rfl) d_LW_law_203 ⟨by show 21 + 3 * i + 3 ≤ 601024; omega, by show 9395 + 263 * i + 263 ≤ 7293034; omega⟩ ?_
        refine lv_iload hx hb d_LW_law_206 (lv_at hl 0 rfl) ?_
        refine lv_icmp_eq (tgt := 213) hx hb d_LW_law_208 (by decide) (fun c5 => ?_) (fun c5 => ?_)
        · have c5 := (nI_eq (by omega) (by omega)).mp c5
          refine lv_goto (tgt := 661) hx hb d_LW_law_213 (by decide) ?_
          refine lv_iinc (v := nI (5 * (i + 1))) (lv' := [(4, .int (nI (5 * (i + 1)))), (5, .int (nI 0)), (0, .ref b), (1, .ref (qs 0)), (2, .ref (qm 0)), (3, .ref ob)]) hx hb d_LW_law_661 hl (k := 1) rfl ((nI_add (5 * i) 5).trans (by rw [Nat.mul_succ])) (by decide) rfl (fun ls hl => ?_)
          refine lv_goto (tgt := 23) hx hb d_LW_law_664 (by decide) ?_
          refine W.widen (k := 21 + 3 * (i + 1)) (n := 9395 + 263 * (i + 1)) (by show 21 + 3 * i + 3 ≤ _; omega) (by show 9395 + 263 * i + 263 ≤ _; omega) ?_
          exact ih (nI 0) (va_up gd (4 * s9 + p9) (some a9)) wd se pr ln px cv co B R sx pt rd wt (od ++ [(4 * s9 + p9)]) (ss_up ad (4 * s9 + p9) a9) (ss_up bd (4 * s9 + p9) b9) (ss_up ed (4 * s9 + p9) c9) (ss_up kd (4 * s9 + p9) 1) nb sh mb (upd bn (4 * s9 + p9) x4) of _ _ _ ⟨hwd, hse, hpr, hln, hB, hR, hsx, hpt, hwt, plO_add hO (by omega) t2 (by omega) (by omega), ss_up_lt hkd (by omega), hsh, hmb, hbn_up hbn (by omega), hz_kd hz (by omega)⟩ hP hD hS (lv_sub hl [0, 2, 3, 4, 5] rfl)
        · have c5 := mt (nI_eq (by omega) (by omega)).mpr c5
          exfalso; omega
      · skip
        refine lv_aload_n hx hb d_LW_law_144 rfl (lv_at hl 2 rfl) ?_
        refine lv_aload_n hx hb d_LW_law_145 rfl (lv_at hl 1 rfl) ?_
        refine lv_iload hx hb d_LW_law_146 (lv_at hl 0 rfl) ?_
        refine lv_iconst (v := nI 1) hx hb d_LW_law_148 (by decide +kernel) ?_
        refine lv_iadd hx hb d_LW_law_149 ?_
        refine ss_rt (y := nI (5 * i + 1)) (nI_add _ _) ?_
        refine va_sld hx hb hsc hbl hbA hS (vp_in_nI (by omega) (by omega)) d_LW_law_150 ?_
        refine ss_rt (y := nI s9) (by rw [nI_clamp (by omega)]; exact hx1.symm) ?_
        refine lv_aload_n hx hb d_LW_law_151 rfl (lv_at hl 1 rfl) ?_
        refine lv_iload hx hb d_LW_law_152 (lv_at hl 0 rfl) ?_
        refine lv_iconst (v := nI 2) hx hb d_LW_law_154 (by decide +kernel) ?_
        refine lv_iadd hx hb d_LW_law_155 ?_
        refine ss_rt (y := nI (5 * i + 2)) (nI_add _ _) ?_
        refine va_sld hx hb hsc hbl hbA hS (vp_in_nI (by omega) (by omega)) d_LW_law_156 ?_
        refine ss_rt (y := nI p9) (by rw [nI_clamp (by omega)]; exact hx2.symm) ?_
        refine lv_aload_n hx hb d_LW_law_157 rfl (lv_at hl 1 rfl) ?_
        refine lv_iload hx hb d_LW_law_158 (lv_at hl 0 rfl) ?_
        refine lv_iconst (v := nI 3) hx hb d_LW_law_160 (by decide +kernel) ?_
        refine lv_iadd hx hb d_LW_law_161 ?_
        refine ss_rt (y := nI (5 * i + 3)) (nI_add _ _) ?_
        refine va_sld hx hb hsc hbl hbA hS (vp_in_nI (by omega) (by omega)) d_LW_law_162 ?_
        refine ss_rt (y := nI 2) (by rw [nI_clamp (by omega)]; exact hx3.symm) ?_
        refine lv_aload_n hx hb d_LW_law_163 rfl (lv_at hl 1 rfl) ?_
        refine lv_iload hx hb d_LW_law_164 (lv_at hl 0 rfl) ?_
        refine lv_iconst (v := nI 4) hx hb d_LW_law_166 (by decide +kernel) ?_
        refine lv_iadd hx hb d_LW_law_167 ?_
        refine ss_rt (y := nI (5 * i + 4)) (nI_add _ _) ?_
        refine va_sld hx hb hsc hbl hbA hS (vp_in_nI (by omega) (by omega)) d_LW_law_168 ?_
        refine ss_rt (y := x4) (by rw [nI_clamp (by omega)]; exact hx4.symm) ?_
        have hPc : va_P D vwCl ((ssW qs k gd wd se pr ln px cv co B R sx pt rd wt) ++ (plW od k ad bd ed kd nb sh mb)) _ := va_tlP (a := ((mW qm k cd wd se kd bn sh mb pr B R sx pt rd wt ln px) ++ ouW k ob of)) (b := ((ssW qs k gd wd se pr ln px cv co B R sx pt rd wt) ++ (plW od k ad bd ed kd nb sh mb))) hP
        have hDc : va_D A ((ssW qs k gd wd se pr ln px cv co B R sx pt rd wt) ++ (plW od k ad bd ed kd nb sh mb)) := va_tlD (a := ((mW qm k cd wd se kd bn sh mb pr B R sx pt rd wt ln px) ++ ouW k ob of)) (b := ((ssW qs k gd wd se pr ln px cv co B R sx pt rd wt) ++ (plW od k ad bd ed kd nb sh mb))) hD
        refine kh_i (n := 5) (As := [.ref (qs 0), .int (nI s9), .int (nI p9), .int (nI 2), .int x4]) (rest := []) ⟨hx, hb, hml, hown, hts⟩ (h_plugK2 l hl9 D k qs gd wd se pr ln px cv co B R sx pt rd wt od ad bd ed kd nb sh mb hwd hse hpr hkd hO s9 p9 hs9 hp9 x4 (by omega) t2 (hz _ (by omega) t2)) (Nat.le_of_ble_eq_true rfl) (Nat.le_of_ble_eq_true rfl) w_384 w_383 w_0 w_382 (by decide +kernel) hK hX hT hU hPc hDc hS hA rfl hl.1 rfl (Nat.le_of_ble_eq_true rfl) d_LW_law_169 ⟨by show 21 + 3 * i + 3 ≤ 601024; omega, by show 9395 + 263 * i + 263 ≤ 7293034; omega⟩ (fun r9 u9 H9 locs hr9 hP1 hD1 hk1 hS9 => ?_)
        subst hr9
        obtain ⟨a9, b9, c9⟩ := u9
        obtain ⟨hP, hD⟩ := fr_tl (a := ((mW qm k cd wd se kd bn sh mb pr B R sx pt rd wt ln px) ++ ouW k ob of)) (b := ((ssW qs k gd wd se pr ln px cv co B R sx pt rd wt) ++ (plW od k ad bd ed kd nb sh mb))) (b' := ((ssW qs k (va_up gd (4 * s9 + p9) (some a9)) wd se pr ln px cv co B R sx pt rd wt) ++ (plW (od ++ [(4 * s9 + p9)]) k (ss_up ad (4 * s9 + p9) a9) (ss_up bd (4 * s9 + p9) b9) (ss_up ed (4 * s9 + p9) c9) (ss_up kd (4 * s9 + p9) 2) nb sh mb))) hP hD hk1 (fun q h => hA q (Nat.le_trans hS.1 h)) hP1 hD1
        clear hP1 hD1 hk1 hPc hDc
        have hS := hS9
        clear hS9
        generalize H9 = H at hP hS ⊢
        have hP : va_P D vwCl ((mW qm k cd wd se kd bn sh mb pr B R sx pt rd wt ln px) ++ (ouW k ob of ++ ((ssW qs k (va_up gd (4 * s9 + p9) (some a9)) wd se pr ln px cv co B R sx pt rd wt) ++ (plW (od ++ [(4 * s9 + p9)]) k (ss_up ad (4 * s9 + p9) a9) (ss_up bd (4 * s9 + p9) b9) (ss_up ed (4 * s9 + p9) c9) (ss_up kd (4 * s9 + p9) 2) nb sh mb)))) _ := hP
        have hD : va_D A ((mW qm k cd wd se kd bn sh mb pr B R sx pt rd wt ln px) ++ (ouW k ob of ++ ((ssW qs k (va_up gd (4 * s9 + p9) (some a9)) wd se pr ln px cv co B R sx pt rd wt) ++ (plW (od ++ [(4 * s9 + p9)]) k (ss_up ad (4 * s9 + p9) a9) (ss_up bd (4 * s9 + p9) b9) (ss_up ed (4 * s9 + p9) c9) (ss_up kd (4 * s9 + p9) 2) nb sh mb)))) := hD
        refine lv_istore (lv' := [(5, .int (nI 0)), (4, .int (nI (5 * i))), (0, .ref b), (1, .ref (qs 0)), (2, .ref (qm 0)), (3, .ref ob)]) hx hb d_LW_law_172 hl (by decide) rfl (fun ls hl => ?_)
        refine lv_aload_n hx hb d_LW_law_174 rfl (lv_at hl 4 rfl) ?_
        refine lv_aload_n hx hb d_LW_law_175 rfl (lv_at hl 2 rfl) ?_
        refine lv_iload hx hb d_LW_law_176 (lv_at hl 1 rfl) ?_
        refine lv_iconst (v := nI 1) hx hb d_LW_law_178 (by decide +kernel) ?_
        refine lv_iadd hx hb d_LW_law_179 ?_
        refine ss_rt (y := nI (5 * i + 1)) (nI_add _ _) ?_
        refine va_sld hx hb hsc hbl hbA hS (vp_in_nI (by omega) (by omega)) d_LW_law_180 ?_
        refine ss_rt (y := nI s9) (by rw [nI_clamp (by omega)]; exact hx1.symm) ?_
        refine lv_aload_n hx hb d_LW_law_181 rfl (lv_at hl 2 rfl) ?_
        refine lv_iload hx hb d_LW_law_182 (lv_at hl 1 rfl) ?_
        refine lv_iconst (v := nI 2) hx hb d_LW_law_184 (by decide +kernel) ?_
        refine lv_iadd hx hb d_LW_law_185 ?_
        refine ss_rt (y := nI (5 * i + 2)) (nI_add _ _) ?_
        refine va_sld hx hb hsc hbl hbA hS (vp_in_nI (by omega) (by omega)) d_LW_law_186 ?_
        refine ss_rt (y := nI p9) (by rw [nI_clamp (by omega)]; exact hx2.symm) ?_
        refine lv_aload_n hx hb d_LW_law_187 rfl (lv_at hl 2 rfl) ?_
        refine lv_iload hx hb d_LW_law_188 (lv_at hl 1 rfl) ?_
        refine lv_iconst (v := nI 3) hx hb d_LW_law_190 (by decide +kernel) ?_
        refine lv_iadd hx hb d_LW_law_191 ?_
        refine ss_rt (y := nI (5 * i + 3)) (nI_add _ _) ?_
        refine va_sld hx hb hsc hbl hbA hS (vp_in_nI (by omega) (by omega)) d_LW_law_192 ?_
        refine ss_rt (y := nI 2) (by rw [nI_clamp (by omega)]; exact hx3.symm) ?_
        refine lv_aload_n hx hb d_LW_law_193 rfl (lv_at hl 2 rfl) ?_
        refine lv_iload hx hb d_LW_law_194 (lv_at hl 1 rfl) ?_
        refine lv_iconst (v := nI 4) hx hb d_LW_law_196 (by decide +kernel) ?_
        refine lv_iadd hx hb d_LW_law_197 ?_
        refine ss_rt (y := nI (5 * i + 4)) (nI_add _ _) ?_
        refine va_sld hx hb hsc hbl hbA hS (vp_in_nI (by omega) (by omega)) d_LW_law_198 ?_
        refine ss_rt (y := x4) (by rw [nI_clamp (by omega)]; exact hx4.symm) ?_
        have hPc : va_P D vwCl (mW qm k cd wd se kd bn sh mb pr B R sx pt rd wt ln px) _ := va_subP (a := []) (b := (mW qm k cd wd se kd bn sh mb pr B R sx pt rd wt ln px)) (c := ouW k ob of ++ ((ssW qs k (va_up gd (4 * s9 + p9) (some a9)) wd se pr ln px cv co B R sx pt rd wt) ++ (plW (od ++ [(4 * s9 + p9)]) k (ss_up ad (4 * s9 + p9) a9) (ss_up bd (4 * s9 + p9) b9) (ss_up ed (4 * s9 + p9) c9) (ss_up kd (4 * s9 + p9) 2) nb sh mb))) hP
        have hDc : va_D A (mW qm k cd wd se kd bn sh mb pr B R sx pt rd wt ln px) := va_subD (a := []) (b := (mW qm k cd wd se kd bn sh mb pr B R sx pt rd wt ln px)) (c := ouW k ob of ++ ((ssW qs k (va_up gd (4 * s9 + p9) (some a9)) wd se pr ln px cv co B R sx pt rd wt) ++ (plW (od ++ [(4 * s9 + p9)]) k (ss_up ad (4 * s9 + p9) a9) (ss_up bd (4 * s9 + p9) b9) (ss_up ed (4 * s9 + p9) c9) (ss_up kd (4 * s9 + p9) 2) nb sh mb))) hD
        refine kw_vV (As := [.int (nI s9), .int (nI p9), .int (nI 2), .int x4]) (rest := []) ⟨hx, hb, hml, hown, hts⟩ (c_MO_plug l D k qm cd wd se kd bn sh mb pr B R sx pt rd wt ln px hwd hse hpr hkd hsh hmb s9 p9 hs9 hp9 2 (by omega) (by omega) (by omega) x4 (by omega) t2) (cwV 4 hts (gV w_590 w_591 w_592 w_5 w_593) rfl rfl rfl (by decide +kernel) ⟨Nat.le_of_ble_eq_true rfl, Nat.le_of_ble_eq_true rfl⟩) hK hPc hDc hS hA (va_recv hK hPc (ci := 7) (q0 := 0) rfl rfl) rfl hl.1 rfl (Nat.le_of_ble_eq_true rfl) d_LW_law_199 ⟨by show 21 + 3 * i + 3 ≤ 601024; omega, by show 9395 + 263 * i + 263 ≤ 7293034; omega⟩ (fun _ H9 locs _ hP1 hk1 hS9 => ?_)
        obtain ⟨hP, hD⟩ := fr_mid (a := []) (b := (mW qm k cd wd se kd bn sh mb pr B R sx pt rd wt ln px)) (c := ouW k ob of ++ ((ssW qs k (va_up gd (4 * s9 + p9) (some a9)) wd se pr ln px cv co B R sx pt rd wt) ++ (plW (od ++ [(4 * s9 + p9)]) k (ss_up ad (4 * s9 + p9) a9) (ss_up bd (4 * s9 + p9) b9) (ss_up ed (4 * s9 + p9) c9) (ss_up kd (4 * s9 + p9) 2) nb sh mb))) (b' := (mW qm k (nI 0) wd se (ss_up kd (4 * s9 + p9) 2) (upd bn (4 * s9 + p9) x4) sh mb pr B R sx pt rd wt ln px)) hP hD hk1 (fun q h => hA q (Nat.le_trans hS.1 h)) hP1 (rw_same hDc.self rfl)
        clear hP1 hk1 hPc hDc
        have hS := hS9
        clear hS9
        generalize H9 = H at hP hS ⊢
        have hP : va_P D vwCl ((mW qm k (nI 0) wd se (ss_up kd (4 * s9 + p9) 2) (upd bn (4 * s9 + p9) x4) sh mb pr B R sx pt rd wt ln px) ++ (ouW k ob of ++ ((ssW qs k (va_up gd (4 * s9 + p9) (some a9)) wd se pr ln px cv co B R sx pt rd wt) ++ (plW (od ++ [(4 * s9 + p9)]) k (ss_up ad (4 * s9 + p9) a9) (ss_up bd (4 * s9 + p9) b9) (ss_up ed (4 * s9 + p9) c9) (ss_up kd (4 * s9 + p9) 2) nb sh mb)))) _ := hP
        have hD : va_D A ((mW qm k (nI 0) wd se (ss_up kd (4 * s9 + p9) 2) (upd bn (4 * s9 + p9) x4) sh mb pr B R sx pt rd wt ln px) ++ (ouW k ob of ++ ((ssW qs k (va_up gd (4 * s9 + p9) (some a9)) wd se pr ln px cv co B R sx pt rd wt) ++ (plW (od ++ [(4 * s9 + p9)]) k (ss_up ad (4 * s9 + p9) a9) (ss_up bd (4 * s9 + p9) b9) (ss_up ed (4 * s9 + p9) c9) (ss_up kd (4 * s9 + p9) 2) nb sh mb)))) := hD
        refine lv_aload_n hx hb d_LW_law_202 rfl (lv_at hl 4 rfl) ?_
        have hPc : va_P D vwCl (mW qm k (nI 0) wd se (ss_up kd (4 * s9 + p9) 2) (upd bn (4 * s9 + p9) x4) sh mb pr B R sx pt rd wt ln px) _ := va_subP (a := []) (b := (mW qm k (nI 0) wd se (ss_up kd (4 * s9 + p9) 2) (upd bn (4 * s9 + p9) x4) sh mb pr B R sx pt rd wt ln px)) (c := ouW k ob of ++ ((ssW qs k (va_up gd (4 * s9 + p9) (some a9)) wd se pr ln px cv co B R sx pt rd wt) ++ (plW (od ++ [(4 * s9 + p9)]) k (ss_up ad (4 * s9 + p9) a9) (ss_up bd (4 * s9 + p9) b9) (ss_up ed (4 * s9 + p9) c9) (ss_up kd (4 * s9 + p9) 2) nb sh mb))) hP
        refine kr_iV (As := []) (rest := []) ⟨hx, hb, hml, hown, hts⟩ (c_MO_thrown l D k qm (nI 0) wd se (ss_up kd (4 * s9 + p9) 2) (upd bn (4 * s9 + p9) x4) sh mb pr B R sx pt rd wt ln px) (cwV 0 hts (gV w_579 w_580 w_581 w_5 w_582) rfl rfl rfl (by decide +kernel) ⟨Nat.le_of_ble_eq_true rfl, Nat.le_of_ble_eq_true rfl⟩) hK hPc (va_recv hK hPc (ci := 7) (q0 := 0) rfl rfl) rfl hl.1 rfl (Nat.le_of_ble_eq_true rfl) d_LW_law_203 ⟨by show 21 + 3 * i + 3 ≤ 601024; omega, by show 9395 + 263 * i + 263 ≤ 7293034; omega⟩ ?_
        refine lv_iload hx hb d_LW_law_206 (lv_at hl 0 rfl) ?_
        refine lv_icmp_eq (tgt := 213) hx hb d_LW_law_208 (by decide) (fun c6 => ?_) (fun c6 => ?_)
        · have c6 := (nI_eq (by omega) (by omega)).mp c6
          refine lv_goto (tgt := 661) hx hb d_LW_law_213 (by decide) ?_
          refine lv_iinc (v := nI (5 * (i + 1))) (lv' := [(4, .int (nI (5 * (i + 1)))), (5, .int (nI 0)), (0, .ref b), (1, .ref (qs 0)), (2, .ref (qm 0)), (3, .ref ob)]) hx hb d_LW_law_661 hl (k := 1) rfl ((nI_add (5 * i) 5).trans (by rw [Nat.mul_succ])) (by decide) rfl (fun ls hl => ?_)
          refine lv_goto (tgt := 23) hx hb d_LW_law_664 (by decide) ?_
          refine W.widen (k := 21 + 3 * (i + 1)) (n := 9395 + 263 * (i + 1)) (by show 21 + 3 * i + 3 ≤ _; omega) (by show 9395 + 263 * i + 263 ≤ _; omega) ?_
          exact ih (nI 0) (va_up gd (4 * s9 + p9) (some a9)) wd se pr ln px cv co B R sx pt rd wt (od ++ [(4 * s9 + p9)]) (ss_up ad (4 * s9 + p9) a9) (ss_up bd (4 * s9 + p9) b9) (ss_up ed (4 * s9 + p9) c9) (ss_up kd (4 * s9 + p9) 2) nb sh mb (upd bn (4 * s9 + p9) x4) of _ _ _ ⟨hwd, hse, hpr, hln, hB, hR, hsx, hpt, hwt, plO_add hO (by omega) t2 (by omega) (by omega), ss_up_lt hkd (by omega), hsh, hmb, hbn_up hbn (by omega), hz_kd hz (by omega)⟩ hP hD hS (lv_sub hl [0, 2, 3, 4, 5] rfl)
        · have c6 := mt (nI_eq (by omega) (by omega)).mpr c6
          exfalso; omega
      · skip
        refine lv_aload_n hx hb d_LW_law_144 rfl (lv_at hl 2 rfl) ?_
        refine lv_aload_n hx hb d_LW_law_145 rfl (lv_at hl 1 rfl) ?_
        refine lv_iload hx hb d_LW_law_146 (lv_at hl 0 rfl) ?_
        refine lv_iconst (v := nI 1) hx hb d_LW_law_148 (by decide +kernel) ?_
        refine lv_iadd hx hb d_LW_law_149 ?_
        refine ss_rt (y := nI (5 * i + 1)) (nI_add _ _) ?_
        refine va_sld hx hb hsc hbl hbA hS (vp_in_nI (by omega) (by omega)) d_LW_law_150 ?_
        refine ss_rt (y := nI s9) (by rw [nI_clamp (by omega)]; exact hx1.symm) ?_
        refine lv_aload_n hx hb d_LW_law_151 rfl (lv_at hl 1 rfl) ?_
        refine lv_iload hx hb d_LW_law_152 (lv_at hl 0 rfl) ?_
        refine lv_iconst (v := nI 2) hx hb d_LW_law_154 (by decide +kernel) ?_
        refine lv_iadd hx hb d_LW_law_155 ?_
        refine ss_rt (y := nI (5 * i + 2)) (nI_add _ _) ?_
        refine va_sld hx hb hsc hbl hbA hS (vp_in_nI (by omega) (by omega)) d_LW_law_156 ?_
        refine ss_rt (y := nI p9) (by rw [nI_clamp (by omega)]; exact hx2.symm) ?_
        refine lv_aload_n hx hb d_LW_law_157 rfl (lv_at hl 1 rfl) ?_
        refine lv_iload hx hb d_LW_law_158 (lv_at hl 0 rfl) ?_
        refine lv_iconst (v := nI 3) hx hb d_LW_law_160 (by decide +kernel) ?_
        refine lv_iadd hx hb d_LW_law_161 ?_
        refine ss_rt (y := nI (5 * i + 3)) (nI_add _ _) ?_
        refine va_sld hx hb hsc hbl hbA hS (vp_in_nI (by omega) (by omega)) d_LW_law_162 ?_
        refine ss_rt (y := nI 4) (by rw [nI_clamp (by omega)]; exact hx3.symm) ?_
        refine lv_aload_n hx hb d_LW_law_163 rfl (lv_at hl 1 rfl) ?_
        refine lv_iload hx hb d_LW_law_164 (lv_at hl 0 rfl) ?_
        refine lv_iconst (v := nI 4) hx hb d_LW_law_166 (by decide +kernel) ?_
        refine lv_iadd hx hb d_LW_law_167 ?_
        refine ss_rt (y := nI (5 * i + 4)) (nI_add _ _) ?_
        refine va_sld hx hb hsc hbl hbA hS (vp_in_nI (by omega) (by omega)) d_LW_law_168 ?_
        refine ss_rt (y := x4) (by rw [nI_clamp (by omega)]; exact hx4.symm) ?_
        have hPc : va_P D vwCl ((ssW qs k gd wd se pr ln px cv co B R sx pt rd wt) ++ (plW od k ad bd ed kd nb sh mb)) _ := va_tlP (a := ((mW qm k cd wd se kd bn sh mb pr B R sx pt rd wt ln px) ++ ouW k ob of)) (b := ((ssW qs k gd wd se pr ln px cv co B R sx pt rd wt) ++ (plW od k ad bd ed kd nb sh mb))) hP
        have hDc : va_D A ((ssW qs k gd wd se pr ln px cv co B R sx pt rd wt) ++ (plW od k ad bd ed kd nb sh mb)) := va_tlD (a := ((mW qm k cd wd se kd bn sh mb pr B R sx pt rd wt ln px) ++ ouW k ob of)) (b := ((ssW qs k gd wd se pr ln px cv co B R sx pt rd wt) ++ (plW od k ad bd ed kd nb sh mb))) hD
        refine kh_i (n := 5) (As := [.ref (qs 0), .int (nI s9), .int (nI p9), .int (nI 4), .int x4]) (rest := []) ⟨hx, hb, hml, hown, hts⟩ (h_plugK4 l hl9 D k qs gd wd se pr ln px cv co B R sx pt rd wt od ad bd ed kd nb sh mb hwd hse hpr hkd hO s9 p9 hs9 hp9 x4 (by omega) t2 (hz _ (by omega) t2)) (Nat.le_of_ble_eq_true rfl) (Nat.le_of_ble_eq_true rfl) w_384 w_383 w_0 w_382 (by decide +kernel) hK hX hT hU hPc hDc hS hA rfl hl.1 rfl (Nat.le_of_ble_eq_true rfl) d_LW_law_169 ⟨by show 21 + 3 * i + 3 ≤ 601024; omega, by show 9395 + 263 * i + 263 ≤ 7293034; omega⟩ (fun r9 u9 H9 locs hr9 hP1 hD1 hk1 hS9 => ?_)
        subst hr9
        obtain ⟨a9, b9, c9⟩ := u9
        obtain ⟨hP, hD⟩ := fr_tl (a := ((mW qm k cd wd se kd bn sh mb pr B R sx pt rd wt ln px) ++ ouW k ob of)) (b := ((ssW qs k gd wd se pr ln px cv co B R sx pt rd wt) ++ (plW od k ad bd ed kd nb sh mb))) (b' := ((ssW qs k (va_up gd (4 * s9 + p9) (some a9)) wd se pr ln px cv co B R sx pt rd wt) ++ (plW (od ++ [(4 * s9 + p9)]) k (ss_up ad (4 * s9 + p9) a9) (ss_up bd (4 * s9 + p9) b9) (ss_up ed (4 * s9 + p9) c9) (ss_up kd (4 * s9 + p9) 4) nb sh mb))) hP hD hk1 (fun q h => hA q (Nat.le_trans hS.1 h)) hP1 hD1
        clear hP1 hD1 hk1 hPc hDc
        have hS := hS9
        clear hS9
        generalize H9 = H at hP hS ⊢
        have hP : va_P D vwCl ((mW qm k cd wd se kd bn sh mb pr B R sx pt rd wt ln px) ++ (ouW k ob of ++ ((ssW qs k (va_up gd (4 * s9 + p9) (some a9)) wd se pr ln px cv co B R sx pt rd wt) ++ (plW (od ++ [(4 * s9 + p9)]) k (ss_up ad (4 * s9 + p9) a9) (ss_up bd (4 * s9 + p9) b9) (ss_up ed (4 * s9 + p9) c9) (ss_up kd (4 * s9 + p9) 4) nb sh mb)))) _ := hP
        have hD : va_D A ((mW qm k cd wd se kd bn sh mb pr B R sx pt rd wt ln px) ++ (ouW k ob of ++ ((ssW qs k (va_up gd (4 * s9 + p9) (some a9)) wd se pr ln px cv co B R sx pt rd wt) ++ (plW (od ++ [(4 * s9 + p9)]) k (ss_up ad (4 * s9 + p9) a9) (ss_up bd (4 * s9 + p9) b9) (ss_up ed (4 * s9 + p9) c9) (ss_up kd (4 * s9 + p9) 4) nb sh mb)))) := hD
        refine lv_istore (lv' := [(5, .int (nI 0)), (4, .int (nI (5 * i))), (0, .ref b), (1, .ref (qs 0)), (2, .ref (qm 0)), (3, .ref ob)]) hx hb d_LW_law_172 hl (by decide) rfl (fun ls hl => ?_)
        refine lv_aload_n hx hb d_LW_law_174 rfl (lv_at hl 4 rfl) ?_
        refine lv_aload_n hx hb d_LW_law_175 rfl (lv_at hl 2 rfl) ?_
        refine lv_iload hx hb d_LW_law_176 (lv_at hl 1 rfl) ?_
        refine lv_iconst (v := nI 1) hx hb d_LW_law_178 (by decide +kernel) ?_
        refine lv_iadd hx hb d_LW_law_179 ?_
        refine ss_rt (y := nI (5 * i + 1)) (nI_add _ _) ?_
        refine va_sld hx hb hsc hbl hbA hS (vp_in_nI (by omega) (by omega)) d_LW_law_180 ?_
        refine ss_rt (y := nI s9) (by rw [nI_clamp (by omega)]; exact hx1.symm) ?_
        refine lv_aload_n hx hb d_LW_law_181 rfl (lv_at hl 2 rfl) ?_
        refine lv_iload hx hb d_LW_law_182 (lv_at hl 1 rfl) ?_
        refine lv_iconst (v := nI 2) hx hb d_LW_law_184 (by decide +kernel) ?_
        refine lv_iadd hx hb d_LW_law_185 ?_
        refine ss_rt (y := nI (5 * i + 2)) (nI_add _ _) ?_
        refine va_sld hx hb hsc hbl hbA hS (vp_in_nI (by omega) (by omega)) d_LW_law_186 ?_
        refine ss_rt (y := nI p9) (by rw [nI_clamp (by omega)]; exact hx2.symm) ?_
        refine lv_aload_n hx hb d_LW_law_187 rfl (lv_at hl 2 rfl) ?_
        refine lv_iload hx hb d_LW_law_188 (lv_at hl 1 rfl) ?_
        refine lv_iconst (v := nI 3) hx hb d_LW_law_190 (by decide +kernel) ?_
        refine lv_iadd hx hb d_LW_law_191 ?_
        refine ss_rt (y := nI (5 * i + 3)) (nI_add _ _) ?_
        refine va_sld hx hb hsc hbl hbA hS (vp_in_nI (by omega) (by omega)) d_LW_law_192 ?_
        refine ss_rt (y := nI 4) (by rw [nI_clamp (by omega)]; exact hx3.symm) ?_
        refine lv_aload_n hx hb d_LW_law_193 rfl (lv_at hl 2 rfl) ?_
        refine lv_iload hx hb d_LW_law_194 (lv_at hl 1 rfl) ?_
        refine lv_iconst (v := nI 4) hx hb d_LW_law_196 (by decide +kernel) ?_
        refine lv_iadd hx hb d_LW_law_197 ?_
        refine ss_rt (y := nI (5 * i + 4)) (nI_add _ _) ?_
        refine va_sld hx hb hsc hbl hbA hS (vp_in_nI (by omega) (by omega)) d_LW_law_198 ?_
        refine ss_rt (y := x4) (by rw [nI_clamp (by omega)]; exact hx4.symm) ?_
        have hPc : va_P D vwCl (mW qm k cd wd se kd bn sh mb pr B R sx pt rd wt ln px) _ := va_subP (a := []) (b := (mW qm k cd wd se kd bn sh mb pr B R sx pt rd wt ln px)) (c := ouW k ob of ++ ((ssW qs k (va_up gd (4 * s9 + p9) (some a9)) wd se pr ln px cv co B R sx pt rd wt) ++ (plW (od ++ [(4 * s9 + p9)]) k (ss_up ad (4 * s9 + p9) a9) (ss_up bd (4 * s9 + p9) b9) (ss_up ed (4 * s9 + p9) c9) (ss_up kd (4 * s9 + p9) 4) nb sh mb))) hP
        have hDc : va_D A (mW qm k cd wd se kd bn sh mb pr B R sx pt rd wt ln px) := va_subD (a := []) (b := (mW qm k cd wd se kd bn sh mb pr B R sx pt rd wt ln px)) (c := ouW k ob of ++ ((ssW qs k (va_up gd (4 * s9 + p9) (some a9)) wd se pr ln px cv co B R sx pt rd wt) ++ (plW (od ++ [(4 * s9 + p9)]) k (ss_up ad (4 * s9 + p9) a9) (ss_up bd (4 * s9 + p9) b9) (ss_up ed (4 * s9 + p9) c9) (ss_up kd (4 * s9 + p9) 4) nb sh mb))) hD
        refine kw_vV (As := [.int (nI s9), .int (nI p9), .int (nI 4), .int x4]) (rest := []) ⟨hx, hb, hml, hown, hts⟩ (c_MO_plug l D k qm cd wd se kd bn sh mb pr B R sx pt rd wt ln px hwd hse hpr hkd hsh hmb s9 p9 hs9 hp9 4 (by omega) (by omega) (by omega) x4 (by omega) t2) (cwV 4 hts (gV w_590 w_591 w_592 w_5 w_593) rfl rfl rfl (by decide +kernel) ⟨Nat.le_of_ble_eq_true rfl, Nat.le_of_ble_eq_true rfl⟩) hK hPc hDc hS hA (va_recv hK hPc (ci := 7) (q0 := 0) rfl rfl) rfl hl.1 rfl (Nat.le_of_ble_eq_true rfl) d_LW_law_199 ⟨by show 21 + 3 * i + 3 ≤ 601024; omega, by show 9395 + 263 * i + 263 ≤ 7293034; omega⟩ (fun _ H9 locs _ hP1 hk1 hS9 => ?_)
        obtain ⟨hP, hD⟩ := fr_mid (a := []) (b := (mW qm k cd wd se kd bn sh mb pr B R sx pt rd wt ln px)) (c := ouW k ob of ++ ((ssW qs k (va_up gd (4 * s9 + p9) (some a9)) wd se pr ln px cv co B R sx pt rd wt) ++ (plW (od ++ [(4 * s9 + p9)]) k (ss_up ad (4 * s9 + p9) a9) (ss_up bd (4 * s9 + p9) b9) (ss_up ed (4 * s9 + p9) c9) (ss_up kd (4 * s9 + p9) 4) nb sh mb))) (b' := (mW qm k (nI 0) wd se (ss_up kd (4 * s9 + p9) 4) (upd bn (4 * s9 + p9) x4) sh mb pr B R sx pt rd wt ln px)) hP hD hk1 (fun q h => hA q (Nat.le_trans hS.1 h)) hP1 (rw_same hDc.self rfl)
        clear hP1 hk1 hPc hDc
        have hS := hS9
        clear hS9
        generalize H9 = H at hP hS ⊢
        have hP : va_P D vwCl ((mW qm k (nI 0) wd se (ss_up kd (4 * s9 + p9) 4) (upd bn (4 * s9 + p9) x4) sh mb pr B R sx pt rd wt ln px) ++ (ouW k ob of ++ ((ssW qs k (va_up gd (4 * s9 + p9) (some a9)) wd se pr ln px cv co B R sx pt rd wt) ++ (plW (od ++ [(4 * s9 + p9)]) k (ss_up ad (4 * s9 + p9) a9) (ss_up bd (4 * s9 + p9) b9) (ss_up ed (4 * s9 + p9) c9) (ss_up kd (4 * s9 + p9) 4) nb sh mb)))) _ := hP
        have hD : va_D A ((mW qm k (nI 0) wd se (ss_up kd (4 * s9 + p9) 4) (upd bn (4 * s9 + p9) x4) sh mb pr B R sx pt rd wt ln px) ++ (ouW k ob of ++ ((ssW qs k (va_up gd (4 * s9 + p9) (some a9)) wd se pr ln px cv co B R sx pt rd wt) ++ (plW (od ++ [(4 * s9 + p9)]) k (ss_up ad (4 * s9 + p9) a9) (ss_up bd (4 * s9 + p9) b9) (ss_up ed (4 * s9 + p9) c9) (ss_up kd (4 * s9 + p9) 4) nb sh mb)))) := hD
        refine lv_aload_n hx hb d_LW_law_202 rfl (lv_at hl 4 rfl) ?_
        have hPc : va_P D vwCl (mW qm k (nI 0) wd se (ss_up kd (4 * s9 + p9) 4) (upd bn (4 * s9 + p9) x4) sh mb pr B R sx pt rd wt ln px) _ := va_subP (a := []) (b := (mW qm k (nI 0) wd se (ss_up kd (4 * s9 + p9) 4) (upd bn (4 * s9 + p9) x4) sh mb pr B R sx pt rd wt ln px)) (c := ouW k ob of ++ ((ssW qs k (va_up gd (4 * s9 + p9) (some a9)) wd se pr ln px cv co B R sx pt rd wt) ++ (plW (od ++ [(4 * s9 + p9)]) k (ss_up ad (4 * s9 + p9) a9) (ss_up bd (4 * s9 + p9) b9) (ss_up ed (4 * s9 + p9) c9) (ss_up kd (4 * s9 + p9) 4) nb sh mb))) hP
        refine kr_iV (As := []) (rest := []) ⟨hx, hb, hml, hown, hts⟩ (c_MO_thrown l D k qm (nI 0) wd se (ss_up kd (4 * s9 + p9) 4) (upd bn (4 * s9 + p9) x4) sh mb pr B R sx pt rd wt ln px) (cwV 0 hts (gV w_579 w_580 w_581 w_5 w_582) rfl rfl rfl (by decide +kernel) ⟨Nat.le_of_ble_eq_true rfl, Nat.le_of_ble_eq_true rfl⟩) hK hPc (va_recv hK hPc (ci := 7) (q0 := 0) rfl rfl) rfl hl.1 rfl (Nat.le_of_ble_eq_true rfl) d_LW_law_203 ⟨by show 21 + 3 * i + 3 ≤ 601024; omega, by show 9395 + 263 * i + 263 ≤ 7293034; omega⟩ ?_
        refine lv_iload hx hb d_LW_law_206 (lv_at hl 0 rfl) ?_
        refine lv_icmp_eq (tgt := 213) hx hb d_LW_law_208 (by decide) (fun c7 => ?_) (fun c7 => ?_)
        · have c7 := (nI_eq (by omega) (by omega)).mp c7
          refine lv_goto (tgt := 661) hx hb d_LW_law_213 (by decide) ?_
          refine lv_iinc (v := nI (5 * (i + 1))) (lv' := [(4, .int (nI (5 * (i + 1)))), (5, .int (nI 0)), (0, .ref b), (1, .ref (qs 0)), (2, .ref (qm 0)), (3, .ref ob)]) hx hb d_LW_law_661 hl (k := 1) rfl ((nI_add (5 * i) 5).trans (by rw [Nat.mul_succ])) (by decide) rfl (fun ls hl => ?_)
          refine lv_goto (tgt := 23) hx hb d_LW_law_664 (by decide) ?_
          refine W.widen (k := 21 + 3 * (i + 1)) (n := 9395 + 263 * (i + 1)) (by show 21 + 3 * i + 3 ≤ _; omega) (by show 9395 + 263 * i + 263 ≤ _; omega) ?_
          exact ih (nI 0) (va_up gd (4 * s9 + p9) (some a9)) wd se pr ln px cv co B R sx pt rd wt (od ++ [(4 * s9 + p9)]) (ss_up ad (4 * s9 + p9) a9) (ss_up bd (4 * s9 + p9) b9) (ss_up ed (4 * s9 + p9) c9) (ss_up kd (4 * s9 + p9) 4) nb sh mb (upd bn (4 * s9 + p9) x4) of _ _ _ ⟨hwd, hse, hpr, hln, hB, hR, hsx, hpt, hwt, plO_add hO (by omega) t2 (by omega) (by omega), ss_up_lt hkd (by omega), hsh, hmb, hbn_up hbn (by omega), hz_kd hz (by omega)⟩ hP hD hS (lv_sub hl [0, 2, 3, 4, 5] rfl)
        · have c7 := mt (nI_eq (by omega) (by omega)).mpr c7
          exfalso; omega
    refine lv_aload_n hx hb d_LW_law_144 rfl (lv_at hl 2 rfl) ?_
    refine lv_aload_n hx hb d_LW_law_145 rfl (lv_at hl 1 rfl) ?_
    refine lv_iload hx hb d_LW_law_146 (lv_at hl 0 rfl) ?_
    refine lv_iconst (v := nI 1) hx hb d_LW_law_148 (by decide +kernel) ?_
    refine lv_iadd hx hb d_LW_law_149 ?_
    refine ss_rt (y := nI (5 * i + 1)) (nI_add _ _) ?_
    refine va_sld hx hb hsc hbl hbA hS (vp_in_nI (by omega) (by omega)) d_LW_law_150 ?_
    refine ss_rt (y := nI s9) (by rw [nI_clamp (by omega)]; exact hx1.symm) ?_
    refine lv_aload_n hx hb d_LW_law_151 rfl (lv_at hl 1 rfl) ?_
    refine lv_iload hx hb d_LW_law_152 (lv_at hl 0 rfl) ?_
    refine lv_iconst (v := nI 2) hx hb d_LW_law_154 (by decide +kernel) ?_
    refine lv_iadd hx hb d_LW_law_155 ?_
    refine ss_rt (y := nI (5 * i + 2)) (nI_add _ _) ?_
    refine va_sld hx hb hsc hbl hbA hS (vp_in_nI (by omega) (by omega)) d_LW_law_156 ?_
    refine ss_rt (y := nI p9) (by rw [nI_clamp (by omega)]; exact hx2.symm) ?_
    refine lv_aload_n hx hb d_LW_law_157 rfl (lv_at hl 1 rfl) ?_
    refine lv_iload hx hb d_LW_law_158 (lv_at hl 0 rfl) ?_
    refine lv_iconst (v := nI 3) hx hb d_LW_law_160 (by decide +kernel) ?_
    refine lv_iadd hx hb d_LW_law_161 ?_
    refine ss_rt (y := nI (5 * i + 3)) (nI_add _ _) ?_
    refine va_sld hx hb hsc hbl hbA hS (vp_in_nI (by omega) (by omega)) d_LW_law_162 ?_
    refine ss_rt (y := nI kk) (by rw [nI_clamp (by omega)]; exact hx3.symm) ?_
    refine lv_aload_n hx hb d_LW_law_163 rfl (lv_at hl 1 rfl) ?_
    refine lv_iload hx hb d_LW_law_164 (lv_at hl 0 rfl) ?_
    refine lv_iconst (v := nI 4) hx hb d_LW_law_166 (by decide +kernel) ?_
    refine lv_iadd hx hb d_LW_law_167 ?_
    refine ss_rt (y := nI (5 * i + 4)) (nI_add _ _) ?_
    refine va_sld hx hb hsc hbl hbA hS (vp_in_nI (by omega) (by omega)) d_LW_law_168 ?_
    refine ss_rt (y := x4) (by rw [nI_clamp (by omega)]; exact hx4.symm) ?_
    have hPc : va_P D vwCl ((ssW qs k gd wd se pr ln px cv co B R sx pt rd wt) ++ (plW od k ad bd ed kd nb sh mb)) _ := va_tlP (a := ((mW qm k cd wd se kd bn sh mb pr B R sx pt rd wt ln px) ++ ouW k ob of)) (b := ((ssW qs k gd wd se pr ln px cv co B R sx pt rd wt) ++ (plW od k ad bd ed kd nb sh mb))) hP
    have hDc : va_D A ((ssW qs k gd wd se pr ln px cv co B R sx pt rd wt) ++ (plW od k ad bd ed kd nb sh mb)) := va_tlD (a := ((mW qm k cd wd se kd bn sh mb pr B R sx pt rd wt ln px) ++ ouW k ob of)) (b := ((ssW qs k gd wd se pr ln px cv co B R sx pt rd wt) ++ (plW od k ad bd ed kd nb sh mb))) hD
    refine kh_i (n := 5) (As := [.ref (qs 0), .int (nI s9), .int (nI p9), .int (nI kk), .int x4]) (rest := []) ⟨hx, hb, hml, hown, hts⟩ (h_plug2 l hl9 D k qs gd wd se pr ln px cv co B R sx pt rd wt od ad bd ed kd nb sh mb hwd hse hpr s9 p9 kk hs9 hp9 x4 (by omega) (by omega) (fun z => absurd z k3) (by omega) _ (gd_some hO (by omega) t2)) (Nat.le_of_ble_eq_true rfl) (Nat.le_of_ble_eq_true rfl) w_384 w_383 w_0 w_382 (by decide +kernel) hK hX hT hU hPc hDc hS hA rfl hl.1 rfl (Nat.le_of_ble_eq_true rfl) d_LW_law_169 ⟨by show 21 + 3 * i + 3 ≤ 601024; omega, by show 9395 + 263 * i + 263 ≤ 7293034; omega⟩ (fun r9 u9 H9 locs hr9 hP1 hD1 hk1 hS9 => ?_)
    subst hr9
    obtain ⟨hP, hD⟩ := fr_tl (a := ((mW qm k cd wd se kd bn sh mb pr B R sx pt rd wt ln px) ++ ouW k ob of)) (b := ((ssW qs k gd wd se pr ln px cv co B R sx pt rd wt) ++ (plW od k ad bd ed kd nb sh mb))) (b' := ((ssW qs k gd wd se pr ln px cv co B R sx pt rd wt) ++ (plW od k ad bd ed kd nb sh mb))) hP hD hk1 (fun q h => hA q (Nat.le_trans hS.1 h)) hP1 hD1
    clear hP1 hD1 hk1 hPc hDc
    have hS := hS9
    clear hS9
    generalize H9 = H at hP hS ⊢
    have hP : va_P D vwCl ((mW qm k cd wd se kd bn sh mb pr B R sx pt rd wt ln px) ++ (ouW k ob of ++ ((ssW qs k gd wd se pr ln px cv co B R sx pt rd wt) ++ (plW od k ad bd ed kd nb sh mb)))) _ := hP
    have hD : va_D A ((mW qm k cd wd se kd bn sh mb pr B R sx pt rd wt ln px) ++ (ouW k ob of ++ ((ssW qs k gd wd se pr ln px cv co B R sx pt rd wt) ++ (plW od k ad bd ed kd nb sh mb)))) := hD
    refine lv_istore (lv' := [(5, .int (nI 2)), (4, .int (nI (5 * i))), (0, .ref b), (1, .ref (qs 0)), (2, .ref (qm 0)), (3, .ref ob)]) hx hb d_LW_law_172 hl (by decide) rfl (fun ls hl => ?_)
    refine lv_aload_n hx hb d_LW_law_174 rfl (lv_at hl 4 rfl) ?_
    refine lv_aload_n hx hb d_LW_law_175 rfl (lv_at hl 2 rfl) ?_
    refine lv_iload hx hb d_LW_law_176 (lv_at hl 1 rfl) ?_
    refine lv_iconst (v := nI 1) hx hb d_LW_law_178 (by decide +kernel) ?_
    refine lv_iadd hx hb d_LW_law_179 ?_
    refine ss_rt (y := nI (5 * i + 1)) (nI_add _ _) ?_
    refine va_sld hx hb hsc hbl hbA hS (vp_in_nI (by omega) (by omega)) d_LW_law_180 ?_
    refine ss_rt (y := nI s9) (by rw [nI_clamp (by omega)]; exact hx1.symm) ?_
    refine lv_aload_n hx hb d_LW_law_181 rfl (lv_at hl 2 rfl) ?_
    refine lv_iload hx hb d_LW_law_182 (lv_at hl 1 rfl) ?_
    refine lv_iconst (v := nI 2) hx hb d_LW_law_184 (by decide +kernel) ?_
    refine lv_iadd hx hb d_LW_law_185 ?_
    refine ss_rt (y := nI (5 * i + 2)) (nI_add _ _) ?_
    refine va_sld hx hb hsc hbl hbA hS (vp_in_nI (by omega) (by omega)) d_LW_law_186 ?_
    refine ss_rt (y := nI p9) (by rw [nI_clamp (by omega)]; exact hx2.symm) ?_
    refine lv_aload_n hx hb d_LW_law_187 rfl (lv_at hl 2 rfl) ?_
    refine lv_iload hx hb d_LW_law_188 (lv_at hl 1 rfl) ?_
    refine lv_iconst (v := nI 3) hx hb d_LW_law_190 (by decide +kernel) ?_
    refine lv_iadd hx hb d_LW_law_191 ?_
    refine ss_rt (y := nI (5 * i + 3)) (nI_add _ _) ?_
    refine va_sld hx hb hsc hbl hbA hS (vp_in_nI (by omega) (by omega)) d_LW_law_192 ?_
    refine ss_rt (y := nI kk) (by rw [nI_clamp (by omega)]; exact hx3.symm) ?_
    refine lv_aload_n hx hb d_LW_law_193 rfl (lv_at hl 2 rfl) ?_
    refine lv_iload hx hb d_LW_law_194 (lv_at hl 1 rfl) ?_
    refine lv_iconst (v := nI 4) hx hb d_LW_law_196 (by decide +kernel) ?_
    refine lv_iadd hx hb d_LW_law_197 ?_
    refine ss_rt (y := nI (5 * i + 4)) (nI_add _ _) ?_
    refine va_sld hx hb hsc hbl hbA hS (vp_in_nI (by omega) (by omega)) d_LW_law_198 ?_
    refine ss_rt (y := x4) (by rw [nI_clamp (by omega)]; exact hx4.symm) ?_
    have hPc : va_P D vwCl (mW qm k cd wd se kd bn sh mb pr B R sx pt rd wt ln px) _ := va_subP (a := []) (b := (mW qm k cd wd se kd bn sh mb pr B R sx pt rd wt ln px)) (c := ouW k ob of ++ ((ssW qs k gd wd se pr ln px cv co B R sx pt rd wt) ++ (plW od k ad bd ed kd nb sh mb))) hP
    have hDc : va_D A (mW qm k cd wd se kd bn sh mb pr B R sx pt rd wt ln px) := va_subD (a := []) (b := (mW qm k cd wd se kd bn sh mb pr B R sx pt rd wt ln px)) (c := ouW k ob of ++ ((ssW qs k gd wd se pr ln px cv co B R sx pt rd wt) ++ (plW od k ad bd ed kd nb sh mb))) hD
    refine kw_vV (As := [.int (nI s9), .int (nI p9), .int (nI kk), .int x4]) (rest := []) ⟨hx, hb, hml, hown, hts⟩ (c_MO_plugt l D k qm cd wd se kd bn sh mb pr B R sx pt rd wt ln px hwd hse hpr hkd hsh hmb s9 p9 hs9 hp9 kk (by omega) (by omega) k3 x4 (Or.inr t2)) (cwV 4 hts (gV w_590 w_591 w_592 w_5 w_593) rfl rfl rfl (by decide +kernel) ⟨Nat.le_of_ble_eq_true rfl, Nat.le_of_ble_eq_true rfl⟩) hK hPc hDc hS hA (va_recv hK hPc (ci := 7) (q0 := 0) rfl rfl) rfl hl.1 rfl (Nat.le_of_ble_eq_true rfl) d_LW_law_199 ⟨by show 21 + 3 * i + 3 ≤ 601024; omega, by show 9395 + 263 * i + 263 ≤ 7293034; omega⟩ (fun _ H9 locs _ hP1 hk1 hS9 => ?_)
    obtain ⟨hP, hD⟩ := fr_mid (a := []) (b := (mW qm k cd wd se kd bn sh mb pr B R sx pt rd wt ln px)) (c := ouW k ob of ++ ((ssW qs k gd wd se pr ln px cv co B R sx pt rd wt) ++ (plW od k ad bd ed kd nb sh mb))) (b' := (mW qm k (nI 2) wd se kd bn sh mb pr B R sx pt rd wt ln px)) hP hD hk1 (fun q h => hA q (Nat.le_trans hS.1 h)) hP1 (rw_same hDc.self rfl)
    clear hP1 hk1 hPc hDc
    have hS := hS9
    clear hS9
    generalize H9 = H at hP hS ⊢
    have hP : va_P D vwCl ((mW qm k (nI 2) wd se kd bn sh mb pr B R sx pt rd wt ln px) ++ (ouW k ob of ++ ((ssW qs k gd wd se pr ln px cv co B R sx pt rd wt) ++ (plW od k ad bd ed kd nb sh mb)))) _ := hP
    have hD : va_D A ((mW qm k (nI 2) wd se kd bn sh mb pr B R sx pt rd wt ln px) ++ (ouW k ob of ++ ((ssW qs k gd wd se pr ln px cv co B R sx pt rd wt) ++ (plW od k ad bd ed kd nb sh mb)))) := hD
    refine lv_aload_n hx hb d_LW_law_202 rfl (lv_at hl 4 rfl) ?_
    have hPc : va_P D vwCl (mW qm k (nI 2) wd se kd bn sh mb pr B R sx pt rd wt ln px) _ := va_subP (a := []) (b := (mW qm k (nI 2) wd se kd bn sh mb pr B R sx pt rd wt ln px)) (c := ouW k ob of ++ ((ssW qs k gd wd se pr ln px cv co B R sx pt rd wt) ++ (plW od k ad bd ed kd nb sh mb))) hP
    refine kr_iV (As := []) (rest := []) ⟨hx, hb, hml, hown, hts⟩ (c_MO_thrown l D k qm (nI 2) wd se kd bn sh mb pr B R sx pt rd wt ln px) (cwV 0 hts (gV w_579 w_580 w_581 w_5 w_582) rfl rfl rfl (by decide +kernel) ⟨Nat.le_of_ble_eq_true rfl, Nat.le_of_ble_eq_true rfl⟩) hK hPc (va_recv hK hPc (ci := 7) (q0 := 0) rfl rfl) rfl hl.1 rfl (Nat.le_of_ble_eq_true rfl) d_LW_law_203 ⟨by show 21 + 3 * i + 3 ≤ 601024; omega, by show 9395 + 263 * i + 263 ≤ 7293034; omega⟩ ?_
    refine lv_iload hx hb d_LW_law_206 (lv_at hl 0 rfl) ?_
    refine lv_icmp_eq (tgt := 213) hx hb d_LW_law_208 (by decide) (fun c8 => ?_) (fun c8 => ?_)
    · have c8 := (nI_eq (by omega) (by omega)).mp c8
      refine lv_goto (tgt := 661) hx hb d_LW_law_213 (by decide) ?_
      refine lv_iinc (v := nI (5 * (i + 1))) (lv' := [(4, .int (nI (5 * (i + 1)))), (5, .int (nI 2)), (0, .ref b), (1, .ref (qs 0)), (2, .ref (qm 0)), (3, .ref ob)]) hx hb d_LW_law_661 hl (k := 1) rfl ((nI_add (5 * i) 5).trans (by rw [Nat.mul_succ])) (by decide) rfl (fun ls hl => ?_)
      refine lv_goto (tgt := 23) hx hb d_LW_law_664 (by decide) ?_
      refine W.widen (k := 21 + 3 * (i + 1)) (n := 9395 + 263 * (i + 1)) (by show 21 + 3 * i + 3 ≤ _; omega) (by show 9395 + 263 * i + 263 ≤ _; omega) ?_
      exact ih (nI 2) gd wd se pr ln px cv co B R sx pt rd wt od ad bd ed kd nb sh mb bn of _ _ _ ⟨hwd, hse, hpr, hln, hB, hR, hsx, hpt, hwt, hO, hkd, hsh, hmb, hbn, hz⟩ hP hD hS (lv_sub hl [0, 2, 3, 4, 5] rfl)
    · have c8 := mt (nI_eq (by omega) (by omega)).mpr c8
      exfalso; omega
  · skip
    refine lv_aload_n hx hb d_LW_law_144 rfl (lv_at hl 2 rfl) ?_
    refine lv_aload_n hx hb d_LW_law_145 rfl (lv_at hl 1 rfl) ?_
    refine lv_iload hx hb d_LW_law_146 (lv_at hl 0 rfl) ?_
    refine lv_iconst (v := nI 1) hx hb d_LW_law_148 (by decide +kernel) ?_
    refine lv_iadd hx hb d_LW_law_149 ?_
    refine ss_rt (y := nI (5 * i + 1)) (nI_add _ _) ?_
    refine va_sld hx hb hsc hbl hbA hS (vp_in_nI (by omega) (by omega)) d_LW_law_150 ?_
    refine ss_rt (y := x1) (by rw [nI_clamp (by omega)]; exact hx1.symm) ?_
    refine lv_aload_n hx hb d_LW_law_151 rfl (lv_at hl 1 rfl) ?_
    refine lv_iload hx hb d_LW_law_152 (lv_at hl 0 rfl) ?_
    refine lv_iconst (v := nI 2) hx hb d_LW_law_154 (by decide +kernel) ?_
    refine lv_iadd hx hb d_LW_law_155 ?_
    refine ss_rt (y := nI (5 * i + 2)) (nI_add _ _) ?_
    refine va_sld hx hb hsc hbl hbA hS (vp_in_nI (by omega) (by omega)) d_LW_law_156 ?_
    refine ss_rt (y := x2) (by rw [nI_clamp (by omega)]; exact hx2.symm) ?_
    refine lv_aload_n hx hb d_LW_law_157 rfl (lv_at hl 1 rfl) ?_
    refine lv_iload hx hb d_LW_law_158 (lv_at hl 0 rfl) ?_
    refine lv_iconst (v := nI 3) hx hb d_LW_law_160 (by decide +kernel) ?_
    refine lv_iadd hx hb d_LW_law_161 ?_
    refine ss_rt (y := nI (5 * i + 3)) (nI_add _ _) ?_
    refine va_sld hx hb hsc hbl hbA hS (vp_in_nI (by omega) (by omega)) d_LW_law_162 ?_
    refine ss_rt (y := x3) (by rw [nI_clamp (by omega)]; exact hx3.symm) ?_
    refine lv_aload_n hx hb d_LW_law_163 rfl (lv_at hl 1 rfl) ?_
    refine lv_iload hx hb d_LW_law_164 (lv_at hl 0 rfl) ?_
    refine lv_iconst (v := nI 4) hx hb d_LW_law_166 (by decide +kernel) ?_
    refine lv_iadd hx hb d_LW_law_167 ?_
    refine ss_rt (y := nI (5 * i + 4)) (nI_add _ _) ?_
    refine va_sld hx hb hsc hbl hbA hS (vp_in_nI (by omega) (by omega)) d_LW_law_168 ?_
    refine ss_rt (y := x4) (by rw [nI_clamp (by omega)]; exact hx4.symm) ?_
    have hPc : va_P D vwCl ((ssW qs k gd wd se pr ln px cv co B R sx pt rd wt) ++ (plW od k ad bd ed kd nb sh mb)) _ := va_tlP (a := ((mW qm k cd wd se kd bn sh mb pr B R sx pt rd wt ln px) ++ ouW k ob of)) (b := ((ssW qs k gd wd se pr ln px cv co B R sx pt rd wt) ++ (plW od k ad bd ed kd nb sh mb))) hP
    have hDc : va_D A ((ssW qs k gd wd se pr ln px cv co B R sx pt rd wt) ++ (plW od k ad bd ed kd nb sh mb)) := va_tlD (a := ((mW qm k cd wd se kd bn sh mb pr B R sx pt rd wt ln px) ++ ouW k ob of)) (b := ((ssW qs k gd wd se pr ln px cv co B R sx pt rd wt) ++ (plW od k ad bd ed kd nb sh mb))) hD
    refine kh_i (n := 5) (As := [.ref (qs 0), .int x1, .int x2, .int x3, .int x4]) (rest := []) ⟨hx, hb, hml, hown, hts⟩ (h_plugb l hl9 D k qs gd wd se pr ln px cv co B R sx pt rd wt od ad bd ed kd nb sh mb x1 x2 x3 x4 hv) (Nat.le_of_ble_eq_true rfl) (Nat.le_of_ble_eq_true rfl) w_384 w_383 w_0 w_382 (by decide +kernel) hK hX hT hU hPc hDc hS hA rfl hl.1 rfl (Nat.le_of_ble_eq_true rfl) d_LW_law_169 ⟨by show 21 + 3 * i + 3 ≤ 601024; omega, by show 9395 + 263 * i + 263 ≤ 7293034; omega⟩ (fun r9 u9 H9 locs hr9 hP1 hD1 hk1 hS9 => ?_)
    subst hr9
    obtain ⟨hP, hD⟩ := fr_tl (a := ((mW qm k cd wd se kd bn sh mb pr B R sx pt rd wt ln px) ++ ouW k ob of)) (b := ((ssW qs k gd wd se pr ln px cv co B R sx pt rd wt) ++ (plW od k ad bd ed kd nb sh mb))) (b' := ((ssW qs k gd wd se pr ln px cv co B R sx pt rd wt) ++ (plW od k ad bd ed kd nb sh mb))) hP hD hk1 (fun q h => hA q (Nat.le_trans hS.1 h)) hP1 hD1
    clear hP1 hD1 hk1 hPc hDc
    have hS := hS9
    clear hS9
    generalize H9 = H at hP hS ⊢
    have hP : va_P D vwCl ((mW qm k cd wd se kd bn sh mb pr B R sx pt rd wt ln px) ++ (ouW k ob of ++ ((ssW qs k gd wd se pr ln px cv co B R sx pt rd wt) ++ (plW od k ad bd ed kd nb sh mb)))) _ := hP
    have hD : va_D A ((mW qm k cd wd se kd bn sh mb pr B R sx pt rd wt ln px) ++ (ouW k ob of ++ ((ssW qs k gd wd se pr ln px cv co B R sx pt rd wt) ++ (plW od k ad bd ed kd nb sh mb)))) := hD
    refine lv_istore (lv' := [(5, .int (nI 1)), (4, .int (nI (5 * i))), (0, .ref b), (1, .ref (qs 0)), (2, .ref (qm 0)), (3, .ref ob)]) hx hb d_LW_law_172 hl (by decide) rfl (fun ls hl => ?_)
    refine lv_aload_n hx hb d_LW_law_174 rfl (lv_at hl 4 rfl) ?_
    refine lv_aload_n hx hb d_LW_law_175 rfl (lv_at hl 2 rfl) ?_
    refine lv_iload hx hb d_LW_law_176 (lv_at hl 1 rfl) ?_
    refine lv_iconst (v := nI 1) hx hb d_LW_law_178 (by decide +kernel) ?_
    refine lv_iadd hx hb d_LW_law_179 ?_
    refine ss_rt (y := nI (5 * i + 1)) (nI_add _ _) ?_
    refine va_sld hx hb hsc hbl hbA hS (vp_in_nI (by omega) (by omega)) d_LW_law_180 ?_
    refine ss_rt (y := x1) (by rw [nI_clamp (by omega)]; exact hx1.symm) ?_
    refine lv_aload_n hx hb d_LW_law_181 rfl (lv_at hl 2 rfl) ?_
    refine lv_iload hx hb d_LW_law_182 (lv_at hl 1 rfl) ?_
    refine lv_iconst (v := nI 2) hx hb d_LW_law_184 (by decide +kernel) ?_
    refine lv_iadd hx hb d_LW_law_185 ?_
    refine ss_rt (y := nI (5 * i + 2)) (nI_add _ _) ?_
    refine va_sld hx hb hsc hbl hbA hS (vp_in_nI (by omega) (by omega)) d_LW_law_186 ?_
    refine ss_rt (y := x2) (by rw [nI_clamp (by omega)]; exact hx2.symm) ?_
    refine lv_aload_n hx hb d_LW_law_187 rfl (lv_at hl 2 rfl) ?_
    refine lv_iload hx hb d_LW_law_188 (lv_at hl 1 rfl) ?_
    refine lv_iconst (v := nI 3) hx hb d_LW_law_190 (by decide +kernel) ?_
    refine lv_iadd hx hb d_LW_law_191 ?_
    refine ss_rt (y := nI (5 * i + 3)) (nI_add _ _) ?_
    refine va_sld hx hb hsc hbl hbA hS (vp_in_nI (by omega) (by omega)) d_LW_law_192 ?_
    refine ss_rt (y := x3) (by rw [nI_clamp (by omega)]; exact hx3.symm) ?_
    refine lv_aload_n hx hb d_LW_law_193 rfl (lv_at hl 2 rfl) ?_
    refine lv_iload hx hb d_LW_law_194 (lv_at hl 1 rfl) ?_
    refine lv_iconst (v := nI 4) hx hb d_LW_law_196 (by decide +kernel) ?_
    refine lv_iadd hx hb d_LW_law_197 ?_
    refine ss_rt (y := nI (5 * i + 4)) (nI_add _ _) ?_
    refine va_sld hx hb hsc hbl hbA hS (vp_in_nI (by omega) (by omega)) d_LW_law_198 ?_
    refine ss_rt (y := x4) (by rw [nI_clamp (by omega)]; exact hx4.symm) ?_
    have hPc : va_P D vwCl (mW qm k cd wd se kd bn sh mb pr B R sx pt rd wt ln px) _ := va_subP (a := []) (b := (mW qm k cd wd se kd bn sh mb pr B R sx pt rd wt ln px)) (c := ouW k ob of ++ ((ssW qs k gd wd se pr ln px cv co B R sx pt rd wt) ++ (plW od k ad bd ed kd nb sh mb))) hP
    have hDc : va_D A (mW qm k cd wd se kd bn sh mb pr B R sx pt rd wt ln px) := va_subD (a := []) (b := (mW qm k cd wd se kd bn sh mb pr B R sx pt rd wt ln px)) (c := ouW k ob of ++ ((ssW qs k gd wd se pr ln px cv co B R sx pt rd wt) ++ (plW od k ad bd ed kd nb sh mb))) hD
    refine kw_vV (As := [.int x1, .int x2, .int x3, .int x4]) (rest := []) ⟨hx, hb, hml, hown, hts⟩ (c_MO_plugb l D k qm cd wd se kd bn sh mb pr B R sx pt rd wt ln px x1 x2 x3 x4 hv) (cwV 4 hts (gV w_590 w_591 w_592 w_5 w_593) rfl rfl rfl (by decide +kernel) ⟨Nat.le_of_ble_eq_true rfl, Nat.le_of_ble_eq_true rfl⟩) hK hPc hDc hS hA (va_recv hK hPc (ci := 7) (q0 := 0) rfl rfl) rfl hl.1 rfl (Nat.le_of_ble_eq_true rfl) d_LW_law_199 ⟨by show 21 + 3 * i + 3 ≤ 601024; omega, by show 9395 + 263 * i + 263 ≤ 7293034; omega⟩ (fun _ H9 locs _ hP1 hk1 hS9 => ?_)
    obtain ⟨hP, hD⟩ := fr_mid (a := []) (b := (mW qm k cd wd se kd bn sh mb pr B R sx pt rd wt ln px)) (c := ouW k ob of ++ ((ssW qs k gd wd se pr ln px cv co B R sx pt rd wt) ++ (plW od k ad bd ed kd nb sh mb))) (b' := (mW qm k (nI 1) wd se kd bn sh mb pr B R sx pt rd wt ln px)) hP hD hk1 (fun q h => hA q (Nat.le_trans hS.1 h)) hP1 (rw_same hDc.self rfl)
    clear hP1 hk1 hPc hDc
    have hS := hS9
    clear hS9
    generalize H9 = H at hP hS ⊢
    have hP : va_P D vwCl ((mW qm k (nI 1) wd se kd bn sh mb pr B R sx pt rd wt ln px) ++ (ouW k ob of ++ ((ssW qs k gd wd se pr ln px cv co B R sx pt rd wt) ++ (plW od k ad bd ed kd nb sh mb)))) _ := hP
    have hD : va_D A ((mW qm k (nI 1) wd se kd bn sh mb pr B R sx pt rd wt ln px) ++ (ouW k ob of ++ ((ssW qs k gd wd se pr ln px cv co B R sx pt rd wt) ++ (plW od k ad bd ed kd nb sh mb)))) := hD
    refine lv_aload_n hx hb d_LW_law_202 rfl (lv_at hl 4 rfl) ?_
    have hPc : va_P D vwCl (mW qm k (nI 1) wd se kd bn sh mb pr B R sx pt rd wt ln px) _ := va_subP (a := []) (b := (mW qm k (nI 1) wd se kd bn sh mb pr B R sx pt rd wt ln px)) (c := ouW k ob of ++ ((ssW qs k gd wd se pr ln px cv co B R sx pt rd wt) ++ (plW od k ad bd ed kd nb sh mb))) hP
    refine kr_iV (As := []) (rest := []) ⟨hx, hb, hml, hown, hts⟩ (c_MO_thrown l D k qm (nI 1) wd se kd bn sh mb pr B R sx pt rd wt ln px) (cwV 0 hts (gV w_579 w_580 w_581 w_5 w_582) rfl rfl rfl (by decide +kernel) ⟨Nat.le_of_ble_eq_true rfl, Nat.le_of_ble_eq_true rfl⟩) hK hPc (va_recv hK hPc (ci := 7) (q0 := 0) rfl rfl) rfl hl.1 rfl (Nat.le_of_ble_eq_true rfl) d_LW_law_203 ⟨by show 21 + 3 * i + 3 ≤ 601024; omega, by show 9395 + 263 * i + 263 ≤ 7293034; omega⟩ ?_
    refine lv_iload hx hb d_LW_law_206 (lv_at hl 0 rfl) ?_
    refine lv_icmp_eq (tgt := 213) hx hb d_LW_law_208 (by decide) (fun c9 => ?_) (fun c9 => ?_)
    · have c9 := (nI_eq (by omega) (by omega)).mp c9
      refine lv_goto (tgt := 661) hx hb d_LW_law_213 (by decide) ?_
      refine lv_iinc (v := nI (5 * (i + 1))) (lv' := [(4, .int (nI (5 * (i + 1)))), (5, .int (nI 1)), (0, .ref b), (1, .ref (qs 0)), (2, .ref (qm 0)), (3, .ref ob)]) hx hb d_LW_law_661 hl (k := 1) rfl ((nI_add (5 * i) 5).trans (by rw [Nat.mul_succ])) (by decide) rfl (fun ls hl => ?_)
      refine lv_goto (tgt := 23) hx hb d_LW_law_664 (by decide) ?_
      refine W.widen (k := 21 + 3 * (i + 1)) (n := 9395 + 263 * (i + 1)) (by show 21 + 3 * i + 3 ≤ _; omega) (by show 9395 + 263 * i + 263 ≤ _; omega) ?_
      exact ih (nI 1) gd wd se pr ln px cv co B R sx pt rd wt od ad bd ed kd nb sh mb bn of _ _ _ ⟨hwd, hse, hpr, hln, hB, hR, hsx, hpt, hwt, hO, hkd, hsh, hmb, hbn, hz⟩ hP hD hS (lv_sub hl [0, 2, 3, 4, 5] rfl)
    · have c9 := mt (nI_eq (by omega) (by omega)).mpr c9
      exfalso; omega
