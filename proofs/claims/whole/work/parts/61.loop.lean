/-! THE LAW: its loop, and its start -/
set_option maxHeartbeats 4000000 in
set_option maxRecDepth 100000 in
theorem L_all {p : Program} {l : Launch} {e : Env} {s : State} {m : MethodId} {below : List Frame} {meth : Method} {c : Code} {b L : Nat} {xs : Nat → Int32} {D : va_G} {k : Nat → ClassId} {A : Nat → Prop} {qm qs : Nat → Nat} {ob : Nat} (C : LC p l s m meth c b L xs D k A) (hAe : ∀ q, A q → s.heap.size ≤ q) : ∀ (n i : Nat), L < 5 * i + 5 * n → 5 * i ≤ L → LG p l e s m below meth c b D k A (lw_Z below #[Value.ref b] s) qm qs ob i := by
  intro n
  induction n with
  | zero => intro i h1 h2; omega
  | succ n ih =>
    intro i h1 h2 cd gd wd se pr ln px cv co B R sx pt rd wt od ad bd ed kd nb sh mb bn of H locs ls hF hP hD hS hl
    have C2 := C
    obtain ⟨hx, hb, hr, hlocks, hml, hown, hts, hX, hT, hU, hK, hA, hsc, hbl, hbA, hl9, hL⟩ := C2
    refine lv_iload hx hb d_LW_law_23 (lv_at hl 0 rfl) ?_
    refine lv_aload_n hx hb d_LW_law_25 rfl (lv_at hl 1 rfl) ?_
    refine va_slen hx hb hsc hbl hbA hS d_LW_law_26 ?_
    refine lv_iconst (v := nI 5) hx hb d_LW_law_27 (by decide +kernel) ?_
    refine lv_isub hx hb d_LW_law_28 ?_
    refine ss_rt (y := iI ((L : Nat) - (5 : Nat) : Int)) (iI_nn _ _) ?_
    refine lv_icmp_gt (tgt := 667) hx hb d_LW_law_29 (by decide) (fun c1 => ?_) (fun c1 => ?_)
    · refine lv_iconst (v := 1) hx hb d_LW_law_667 (by decide +kernel) ?_
      refine va_forget (fun q hq => hAe _ (hS.2.2 q hq)) ?_
      exact W.widen (by omega) (by omega) (lw_ret hx hb hr hlocks d_LW_law_668)
    · have c1 := mt (zn_lt (by omega)).mpr c1
      rw [iI_t (by omega) (by omega)] at c1
      have hi : 5 * i + 5 ≤ L := by omega
      refine lv_aload_n hx hb d_LW_law_32 rfl (lv_at hl 1 rfl) ?_
      refine lv_iload hx hb d_LW_law_33 (lv_at hl 0 rfl) ?_
      refine va_sld hx hb hsc hbl hbA hS (vp_in_nI (by omega) (by omega)) d_LW_law_35 ?_
      refine lv_bipush (v := nI 15) hx hb d_LW_law_36 (by decide +kernel) ?_
      refine lv_iand hx hb d_LW_law_38 ?_
      generalize xs (nI (5 * i)).toNatClampNeg &&& nI 15 = x0
      by_cases e0 : x0.toInt = 0
      · refine lv_tableIn (off := 69) (tgt := 108) hx hb d_LW_law_39 (by omega) (by omega) (by rw [e0]; decide) (by decide) ?_
        exact L_widen C i hi (ih (i + 1) (by omega) (by omega)) cd gd wd se pr ln px cv co B R sx pt rd wt od ad bd ed kd nb sh mb bn of H locs ls hF hP hD hS hl
      by_cases e1 : x0.toInt = 1
      · refine lv_tableIn (off := 105) (tgt := 144) hx hb d_LW_law_39 (by omega) (by omega) (by rw [e1]; decide) (by decide) ?_
        exact L_plug C i hi (ih (i + 1) (by omega) (by omega)) cd gd wd se pr ln px cv co B R sx pt rd wt od ad bd ed kd nb sh mb bn of H locs ls hF hP hD hS hl
      by_cases e2 : x0.toInt = 2
      · refine lv_tableIn (off := 177) (tgt := 216) hx hb d_LW_law_39 (by omega) (by omega) (by rw [e2]; decide) (by decide) ?_
        exact L_burn C i hi (ih (i + 1) (by omega) (by omega)) cd gd wd se pr ln px cv co B R sx pt rd wt od ad bd ed kd nb sh mb bn of H locs ls hF hP hD hS hl
      by_cases e3 : x0.toInt = 3
      · refine lv_tableIn (off := 238) (tgt := 277) hx hb d_LW_law_39 (by omega) (by omega) (by rw [e3]; decide) (by decide) ?_
        exact L_read C i hi (ih (i + 1) (by omega) (by omega)) cd gd wd se pr ln px cv co B R sx pt rd wt od ad bd ed kd nb sh mb bn of H locs ls hF hP hD hS hl
      by_cases e4 : x0.toInt = 4
      · refine lv_tableIn (off := 294) (tgt := 333) hx hb d_LW_law_39 (by omega) (by omega) (by rw [e4]; decide) (by decide) ?_
        exact L_write C i hi (ih (i + 1) (by omega) (by omega)) cd gd wd se pr ln px cv co B R sx pt rd wt od ad bd ed kd nb sh mb bn of H locs ls hF hP hD hS hl
      by_cases e5 : x0.toInt = 5
      · refine lv_tableIn (off := 342) (tgt := 381) hx hb d_LW_law_39 (by omega) (by omega) (by rw [e5]; decide) (by decide) ?_
        exact L_far C i hi (ih (i + 1) (by omega) (by omega)) cd gd wd se pr ln px cv co B R sx pt rd wt od ad bd ed kd nb sh mb bn of H locs ls hF hP hD hS hl
      by_cases e6 : x0.toInt = 6
      · refine lv_tableIn (off := 422) (tgt := 461) hx hb d_LW_law_39 (by omega) (by omega) (by rw [e6]; decide) (by decide) ?_
        exact L_in C i hi (ih (i + 1) (by omega) (by omega)) cd gd wd se pr ln px cv co B R sx pt rd wt od ad bd ed kd nb sh mb bn of H locs ls hF hP hD hS hl
      by_cases e7 : x0.toInt = 7
      · refine lv_tableIn (off := 447) (tgt := 486) hx hb d_LW_law_39 (by omega) (by omega) (by rw [e7]; decide) (by decide) ?_
        exact L_out C i hi (ih (i + 1) (by omega) (by omega)) cd gd wd se pr ln px cv co B R sx pt rd wt od ad bd ed kd nb sh mb bn of H locs ls hF hP hD hS hl
      by_cases e8 : x0.toInt = 8
      · refine lv_tableIn (off := 484) (tgt := 523) hx hb d_LW_law_39 (by omega) (by omega) (by rw [e8]; decide) (by decide) ?_
        exact L_scan C i hi (ih (i + 1) (by omega) (by omega)) cd gd wd se pr ln px cv co B R sx pt rd wt od ad bd ed kd nb sh mb bn of H locs ls hF hP hD hS hl
      by_cases e9 : x0.toInt = 9
      · refine lv_tableIn (off := 497) (tgt := 536) hx hb d_LW_law_39 (by omega) (by omega) (by rw [e9]; decide) (by decide) ?_
        exact L_pixel C i hi (ih (i + 1) (by omega) (by omega)) cd gd wd se pr ln px cv co B R sx pt rd wt od ad bd ed kd nb sh mb bn of H locs ls hF hP hD hS hl
      by_cases e10 : x0.toInt = 10
      · refine lv_tableIn (off := 534) (tgt := 573) hx hb d_LW_law_39 (by omega) (by omega) (by rw [e10]; decide) (by decide) ?_
        exact L_video C i hi (ih (i + 1) (by omega) (by omega)) cd gd wd se pr ln px cv co B R sx pt rd wt od ad bd ed kd nb sh mb bn of H locs ls hF hP hD hS hl
      by_cases e11 : x0.toInt = 11
      · refine lv_tableIn (off := 559) (tgt := 598) hx hb d_LW_law_39 (by omega) (by omega) (by rw [e11]; decide) (by decide) ?_
        exact L_chip C i hi (ih (i + 1) (by omega) (by omega)) cd gd wd se pr ln px cv co B R sx pt rd wt od ad bd ed kd nb sh mb bn of H locs ls hF hP hD hS hl
      by_cases e12 : x0.toInt = 12
      · refine lv_tableIn (off := 584) (tgt := 623) hx hb d_LW_law_39 (by omega) (by omega) (by rw [e12]; decide) (by decide) ?_
        exact L_secondary C i hi (ih (i + 1) (by omega) (by omega)) cd gd wd se pr ln px cv co B R sx pt rd wt od ad bd ed kd nb sh mb bn of H locs ls hF hP hD hS hl
      by_cases e13 : x0.toInt = 13
      · refine lv_tableIn (off := 609) (tgt := 648) hx hb d_LW_law_39 (by omega) (by omega) (by rw [e13]; decide) (by decide) ?_
        exact L_calls C i hi (ih (i + 1) (by omega) (by omega)) cd gd wd se pr ln px cv co B R sx pt rd wt od ad bd ed kd nb sh mb bn of H locs ls hF hP hD hS hl
      refine lv_tableOut (tgt := 661) hx hb d_LW_law_39 (by omega) (by decide) ?_
      exact L_skip C i hi (ih (i + 1) (by omega) (by omega)) cd gd wd se pr ln px cv co B R sx pt rd wt od ad bd ed kd nb sh mb bn of H locs ls hF hP hD hS hl
theorem L_arr {s : State} {args : Array Value} {ty : FieldType} (hno : ∀ C, ty ≠ .object C) (h : (Cond.arrayClass ty).before args s = true) : ∃ c : ClassId, ArrOfT s c ty ∧ va_RA s c ty := by
  obtain ⟨c, kA, comp, h1, h2, h3⟩ := Cond.arrayClass_spec h
  refine ⟨c, fun n z => ⟨fun k h => (by cases h), kA, h2, comp, h3⟩, ?_⟩
  cases ty with
  | object C => exact absurd rfl (hno C)
  | _ => exact h1
theorem L_aro {s : State} {args : Array Value} {C : String} (h : (Cond.arrayOver (.object C)).before args s = true) : ∃ c : ClassId, ArrOfT s c (.object C) ∧ va_RA s c (.object C) := by
  obtain ⟨comp, c, kA, h1, h2, h3, h4, h5⟩ := Cond.arrayOver_spec h
  exact ⟨c, fun n z => ⟨fun k h => (by cases h), kA, h3, comp, h4⟩, kA, comp, h3, h4, h1, h5⟩
theorem L_known {s : State} {args : Array Value} (hts : ∀ x ∈ GW, x.before args s = true) (ha : (Cond.arrayOver (.object "SlotScreen$Device")).before args s = true) : ∃ (D : va_G) (k : Nat → ClassId), va_K D vwCl (kT k) s := by
  obtain ⟨c0, i0, k0⟩ := u_known (T := T_SS) hts in_SS (hts _ w_16)
  obtain ⟨c1, i1, k1⟩ := u_known (T := T_SL) hts in_SL (hts _ w_24)
  obtain ⟨c2, i2, k2⟩ := u_known (T := T_CH) hts in_CH (hts _ w_47)
  obtain ⟨c3, i3, k3⟩ := u_known (T := T_SC) hts in_SC (hts _ w_72)
  obtain ⟨c4, i4, k4⟩ := u_known (T := T_BK) hts in_BK (hts _ w_428)
  obtain ⟨c5, i5, k5⟩ := u_known (T := T_RA) hts in_RA (hts _ w_402)
  obtain ⟨c6, i6, k6⟩ := u_known (T := T_RO) hts in_RO (hts _ w_418)
  obtain ⟨c7, i7, k7⟩ := u_known (T := T_MO) hts in_MO (hts _ w_525)
  obtain ⟨a0, p0, r0⟩ := L_arr (ty := .int) (fun _ h => by cases h) (hts _ w_45)
  obtain ⟨a1, p1, r1⟩ := L_arr (ty := .boolean) (fun _ h => by cases h) (hts _ w_44)
  obtain ⟨a2, p2, r2⟩ := L_aro ha
  obtain ⟨a3, p3, r3⟩ := L_arr (ty := .long) (fun _ h => by cases h) (hts _ w_713)
  refine ⟨(fun c => [c0, c1, c2, c3, c4, c5, c6, c7].getD c 0, fun c => [i0, i1, i2, i3, i4, i5, i6, i7].getD c (fun _ => 0)), fun j => [a0, a1, a2, a3].getD j 0, fun c q hq => ?_, fun j q hq => ?_⟩
  · have hc : c < 8 := (List.getElem?_eq_some_iff.mp hq).1
    rcases (show c = 0 ∨ c = 1 ∨ c = 2 ∨ c = 3 ∨ c = 4 ∨ c = 5 ∨ c = 6 ∨ c = 7 by omega) with rfl | rfl | rfl | rfl | rfl | rfl | rfl | rfl <;> cases hq
    · exact k0
    · exact k1
    · exact k2
    · exact k3
    · exact k4
    · exact k5
    · exact k6
    · exact k7
  · have hc : j < 4 := (List.getElem?_eq_some_iff.mp hq).1
    rcases (show j = 0 ∨ j = 1 ∨ j = 2 ∨ j = 3 by omega) with rfl | rfl | rfl | rfl <;> cases hq
    · exact ⟨p0, r0⟩
    · exact ⟨p1, r1⟩
    · exact ⟨p2, r2⟩
    · exact ⟨p3, r3⟩
