theorem nw_newl {p : Program} {l : Launch} {e : Env} {R : Room} {s : State} {m : MethodId} {args : Array Value} {below : List Frame} {meth : Method} {c : Code} {H H0 : Heap} {locs : List Loc} {cells slots : Nat} {Q : State → Prop} {pc : Nat} {ls : Array Slot} {cc : ByteArray} {D : va_G} {A : Nat → Prop} {tys : List (ClassId × FieldType)} {ws : va_W} {rest : List Value} {i : Nat} {ci : ClassId} (hx : p.tables.exec = Jvm.exec) (hb : c.code = cc) (harr : (Cond.arrayClass .long).before args s = true) (hK : va_K D vwCl tys s) (hi : tys[i]? = some (ci, .long)) (hP : va_P D vwCl ws H) (hD : va_D A ws) (hS : va_S A H0 H locs) (hA : ∀ q, H0.size ≤ q → A q)
    (hcells : cells + 1 ≤ R.cells) (hslots : slots + 1 ≤ R.slots) (hdg : decode cc pc = .ok (.newarray .long, 2))
    (kk : ∀ (q : Nat) (H1 : Heap), va_P D vwCl (ws ++ [(q, .inl (ci, 1, .inr (.inl (fun _ => 0))))]) H1 → va_D A (ws ++ [(q, .inl (ci, 1, .inr (.inl (fun _ => 0))))]) → va_S A H0 H1 locs → W p l e R s m args below meth c H1 locs (cells + 1) (slots + 1) Q (F0 m (pc + 2) ls (.ref q :: rest))) : W p l e R s m args below meth c H locs cells slots Q (F0 m pc ls (.int (nI 1) :: rest)) := by
  refine va_newa (atype := .long) (ty := .long) (N' := 1) (a0 := (1, .inr (.inl (fun _ => 0)))) hx hb harr rfl hK hP hD hS hA (fun cA => rfl) (by decide +kernel) (by decide +kernel) (by decide +kernel) hcells hslots hdg (fun q cA H1 hK1 hP1 hD1 hS1 => ?_)
  have h1 := va_RA_n (hK.2 i _ hi).2
  have h2 := va_RA_n (hK1.2 tys.length (cA, .long) (by simp)).2
  have h3 : cA = ci := Option.some.inj (h2.symm.trans h1)
  subst h3
  exact kk q H1 hP1 hD1 hS1
set_option maxHeartbeats 4000000 in
set_option maxRecDepth 1000000 in
theorem L_XK {s : State} {args : Array Value} (h : ∀ w ∈ lw_tbl, w.before args s = true) : XK s := by
  have hm : ∀ w ∈ NWL, w ∈ lw_tbl ∧ w.onTables = true := by decide +kernel
  exact ⟨fun w hw => va_Nw.of (hm w hw).2 (h w (hm w hw).1), va_AO.of (h _ (by decide +kernel))⟩
set_option maxHeartbeats 4000000 in
set_option maxRecDepth 1000000 in
theorem L_TT {s : State} {args : Array Value} {cc : ClassId} (hc : s.vm.findClass "SlotScreen" = some cc) (h : ∀ w ∈ lw_tbl, w.before args s = true) (hn : (Cond.not (.castable "java/lang/IllegalStateException" "java/lang/IllegalArgumentException")).before args s = true) : TT s := by
  have hm : ∀ w ∈ NTL, w ∈ lw_tbl ∧ w.onTables = true := by decide +kernel
  have hm2 : ∀ x ∈ STL, Cond.stringRef "SlotScreen" x.1 x.2 ∈ lw_tbl := by decide +kernel
  refine ⟨fun w hw => va_Nw.of (hm w hw).2 (h w (hm w hw).1), fun x hx => ?_, va_Nc.of hn⟩
  have hw := h _ (hm2 x hx)
  obtain ⟨-, -, -, sa, -, -, -, -, -, hev⟩ := Cond.stringRef_spec hc hw
  exact ⟨sa, vk_R.of hw hev⟩
theorem L_l9 {l : Launch} (h : l.flags = flags0) : l.stackTraces = false := by
  unfold Launch.stackTraces
  rw [h]
  decide +kernel
set_option maxHeartbeats 4000000 in
set_option maxRecDepth 1000000 in
theorem whole_start {p : Program} {e : Env} {s : State} {m : MethodId} {below : List Frame} {meth : Method} {c : Code} (l : Launch) (hl9 : l.stackTraces = false) {b L : Nat} {xs : Nat → Int32} (hL : L ≤ 2560) (C0 : lw_At p s m meth c b L xs) : W p l e room_1 s m #[Value.ref b] below meth c s.heap [] 0 0 (lw_Z below #[Value.ref b] s) (entryFrame m ([Value.ref b] : List Value).toArray 7) := by
  obtain ⟨hx, hb, hr, hml, hown0, htsL, hsc, hbl, hlocks, hgv⟩ := C0
  have hown : s.vm.findClass "SlotScreenLaw" = some m.cls := hown0
  have hts : ∀ x ∈ GW, x.before #[Value.ref b] s = true := fun x h => htsL x (List.mem_filter.mp h).1
  have hs := flat_of_before _ hgv
  obtain ⟨D, k, hK⟩ := L_known hts (htsL _ (by decide +kernel))
  have hX : XK s := L_XK htsL
  have hT : TT s := L_TT (hK.1 0 _ rfl).2.1 htsL (hs _ (by decide +kernel))
  obtain ⟨A, hAd⟩ : ∃ z : Nat → Prop, z = fun q => s.heap.size ≤ q := ⟨_, rfl⟩
  have hA : ∀ q, s.heap.size ≤ q → A q := by rw [hAd]; exact fun _ h => h
  have hAe : ∀ q, A q → s.heap.size ≤ q := by rw [hAd]; exact fun _ h => h
  have hU : tU A s s.heap := ⟨zT.of (htsL _ (by decide +kernel)) (htsL _ (by decide +kernel)) (hs _ (by decide +kernel)) (fun a h z => by have := hAe a z; omega), zT.of (htsL _ (by decide +kernel)) (htsL _ (by decide +kernel)) (hs _ (by decide +kernel)) (fun a h z => by have := hAe a z; omega)⟩
  have hbA : ¬ A b := fun z => by have := hAe b z; omega
  have C : LC p l s m meth c b L xs D k A := ⟨hx, hb, hr, hlocks, hml, hown, hts, hX, hT, hU, hK, hA, hsc, hbl, hbA, hl9, hL⟩
  have hS : va_S A s.heap s.heap [] := va_S.rf
  have hP : va_P D vwCl [] s.heap := va_nil
  have hD : va_D A [] := ⟨fun _ _ _ _ h => (by cases h), fun _ _ h => (by cases h)⟩
  have hl := lv_entry [Value.ref b] (n := 7) (Nat.le_of_ble_eq_true rfl)
  rw [lg_entry_eq]
  generalize (lg_sl [Value.ref b] ++ List.replicate (7 - (lg_sl [Value.ref b]).length) Slot.unset).toArray = ls at hl ⊢
  have hl : lv_has ls 7 [(0, .ref b)] := hl
  refine va_new (ci := 0) (fs := [.null, .null, .null]) (C := R_SS) (T := T_SS) (N := 3) hx hb hts in_SS t_SS o_SS hown (hts _ w_15) (hts _ w_16) (hts _ w_1) hK hP hD hS hA rfl (fun j hj => by rcases (show j = 0 ∨ j = 1 ∨ j = 2 by omega) with rfl | rfl | rfl <;> rfl) (by show 0 + 1 ≤ 601024; omega) (by show 0 + 3 ≤ 7293034; omega) d_LW_law_0 (fun a0 H hP hD hS => ?_)
  have hP : va_P D vwCl [(a0, .inr (0, [.null, .null, .null]))] H := hP
  have hD : va_D A [(a0, .inr (0, [.null, .null, .null]))] := hD
  refine W.widen (k := 1) (n := 3) (by omega) (by omega) ?_
  refine lv_dup hx hb d_LW_law_3 rfl ?_
  have hFc := rw_S hD hS hA
  refine kn_vI (As := []) (rest := [.ref a0]) ⟨hx, hb, hml, hown, hts⟩ (c_SS_init l D k a0) (cwI 0 hts (gG w_19) rfl rfl rfl (hts _ w_1) (hts _ w_17) (hts _ w_18) rfl (by decide +kernel) ⟨Nat.le_of_ble_eq_true rfl, Nat.le_of_ble_eq_true rfl⟩) hK hX hP hD hS hA rfl hl.1 rfl (Nat.le_of_ble_eq_true rfl) d_LW_law_4 ⟨by show 1 + 9 ≤ 601024; omega, by show 3 + 2607 ≤ 7293034; omega⟩ (fun qs H9 locs hq hP1 hD1 hk1 hS9 => ?_)
  have hD2 : va_D A (ssW qs k (fun _ => none) (fun _ => 0) (fun _ => 0) 0 0 (fun _ => 0) 0 0 (fun _ => 0) (fun _ => 0) 0 0 0 (-1)) := hD1.weaken (fun _ q _ h => hFc q.1 h)
  have hP2 : va_P D vwCl (ssW qs k (fun _ => none) (fun _ => 0) (fun _ => 0) 0 0 (fun _ => 0) 0 0 (fun _ => 0) (fun _ => 0) 0 0 0 (-1)) H9 := hP1
  subst hq
  clear hP hD hS hFc hP1 hD1 hk1
  generalize H9 = H at hP2 hS9 ⊢
  refine W.widen (k := 10) (n := 2610) (by show 1 + 9 ≤ 10; omega) (by show 3 + 2607 ≤ 2610; omega) ?_
  refine lv_astore_n (lv' := [(1, .ref (qs 0)), (0, .ref b)]) hx hb d_LW_law_7 rfl hl (by decide) rfl (fun ls hl => ?_)
  refine va_new (ci := 7) (fs := [.int (nI 0), .null, .null, .null, .null, .null, .null, .int (nI 0), .null, .null, .int (nI 0), .int (nI 0), .int (nI 0), .int (nI 0), .int (nI 0), .null]) (C := R_MO) (T := T_MO) (N := 16) hx hb hts in_MO t_MO o_MO hown (hts _ w_524) (hts _ w_525) (hts _ w_5) hK hP2 hD2 hS9 hA rfl (fun j hj => by rcases (show j = 0 ∨ j = 1 ∨ j = 2 ∨ j = 3 ∨ j = 4 ∨ j = 5 ∨ j = 6 ∨ j = 7 ∨ j = 8 ∨ j = 9 ∨ j = 10 ∨ j = 11 ∨ j = 12 ∨ j = 13 ∨ j = 14 ∨ j = 15 by omega) with rfl | rfl | rfl | rfl | rfl | rfl | rfl | rfl | rfl | rfl | rfl | rfl | rfl | rfl | rfl | rfl <;> rfl) (by show 10 + 1 ≤ 601024; omega) (by show 2610 + 16 ≤ 7293034; omega) d_LW_law_8 (fun m0 H hP hD hS => ?_)
  refine W.widen (k := 11) (n := 2626) (by omega) (by omega) ?_
  refine lv_dup hx hb d_LW_law_11 rfl ?_
  have hPc := va_tlP (a := ssW qs k (fun _ => none) (fun _ => 0) (fun _ => 0) 0 0 (fun _ => 0) 0 0 (fun _ => 0) (fun _ => 0) 0 0 0 (-1)) (b := [(m0, .inr (7, [.int (nI 0), .null, .null, .null, .null, .null, .null, .int (nI 0), .null, .null, .int (nI 0), .int (nI 0), .int (nI 0), .int (nI 0), .int (nI 0), .null]))]) hP
  have hDc := va_tlD (a := ssW qs k (fun _ => none) (fun _ => 0) (fun _ => 0) 0 0 (fun _ => 0) 0 0 (fun _ => 0) (fun _ => 0) 0 0 0 (-1)) (b := [(m0, .inr (7, [.int (nI 0), .null, .null, .null, .null, .null, .null, .int (nI 0), .null, .null, .int (nI 0), .int (nI 0), .int (nI 0), .int (nI 0), .int (nI 0), .null]))]) hD
  refine kn_vI (As := []) (rest := [.ref m0]) ⟨hx, hb, hml, hown, hts⟩ (c_MO_init l D k m0) (cwI 0 hts (gG w_528) rfl rfl rfl (hts _ w_5) (hts _ w_526) (hts _ w_527) rfl (by decide +kernel) ⟨Nat.le_of_ble_eq_true rfl, Nat.le_of_ble_eq_true rfl⟩) hK hX hPc hDc hS hA rfl hl.1 rfl (Nat.le_of_ble_eq_true rfl) d_LW_law_12 ⟨by show 11 + 9 ≤ 601024; omega, by show 2626 + 6768 ≤ 7293034; omega⟩ (fun qm H9 locs hq hP1 hD1 hk1 hS9 => ?_)
  obtain ⟨hP2, hD2⟩ := fr_tl (a := ssW qs k (fun _ => none) (fun _ => 0) (fun _ => 0) 0 0 (fun _ => 0) 0 0 (fun _ => 0) (fun _ => 0) 0 0 0 (-1)) (b := [(m0, .inr (7, [.int (nI 0), .null, .null, .null, .null, .null, .null, .int (nI 0), .null, .null, .int (nI 0), .int (nI 0), .int (nI 0), .int (nI 0), .int (nI 0), .null]))]) (b' := mW qm k (nI 0) (fun _ => 0) (fun _ => 0) (fun _ => 0) (fun _ => nI 0) (fun _ => 0) (fun _ => 0) 0 (fun _ => 0) (fun _ => 0) 0 0 0 (-1) 0 (fun _ => 0)) hP hD hk1 (fun q h => hA q (Nat.le_trans hS.1 h)) hP1 hD1
  subst hq
  clear hP hD hS hP1 hD1 hk1 hPc hDc
  generalize H9 = H at hP2 hS9 ⊢
  refine W.widen (k := 20) (n := 9394) (by show 11 + 9 ≤ 20; omega) (by show 2626 + 6768 ≤ 9394; omega) ?_
  refine lv_astore_n (lv' := [(2, .ref (qm 0)), (1, .ref (qs 0)), (0, .ref b)]) hx hb d_LW_law_15 rfl hl (by decide) rfl (fun ls hl => ?_)
  refine lv_iconst (v := nI 1) hx hb d_LW_law_16 (by decide +kernel) ?_
  refine nw_newl (i := 3) hx hb (hts _ w_713) hK rfl hP2 hD2 hS9 hA (by show 20 + 1 ≤ 601024; omega) (by show 9394 + 1 ≤ 7293034; omega) d_LW_law_17 (fun ob H hP hD hS => ?_)
  refine lv_astore_n (lv' := [(3, .ref ob), (2, .ref (qm 0)), (1, .ref (qs 0)), (0, .ref b)]) hx hb d_LW_law_19 rfl hl (by decide) rfl (fun ls hl => ?_)
  refine lv_iconst (v := nI 0) hx hb d_LW_law_20 (by decide +kernel) ?_
  refine lv_istore (lv' := [(4, .int (nI 0)), (3, .ref ob), (2, .ref (qm 0)), (1, .ref (qs 0)), (0, .ref b)]) hx hb d_LW_law_21 hl (by decide) rfl (fun ls hl => ?_)
  have hP3 : va_P D vwCl (mW qm k (nI 0) (fun _ => 0) (fun _ => 0) (fun _ => 0) (fun _ => nI 0) (fun _ => 0) (fun _ => 0) 0 (fun _ => 0) (fun _ => 0) 0 0 0 (-1) 0 (fun _ => 0) ++ (ouW k ob (fun _ => 0) ++ (ssW qs k (fun _ => none) (fun _ => 0) (fun _ => 0) 0 0 (fun _ => 0) 0 0 (fun _ => 0) (fun _ => 0) 0 0 0 (-1) ++ plW [] k (fun _ => 0) (fun _ => 0) (fun _ => 0) (fun _ => 0) (fun _ => 0) (fun _ => 0) (fun _ => 0)))) H := hP.sub [10, 11, 12, 13, 14, 15, 16, 17, 18, 19, 20, 0, 1, 2, 3, 4, 5, 6, 7, 8, 9] rfl
  have hD3 : va_D A (mW qm k (nI 0) (fun _ => 0) (fun _ => 0) (fun _ => 0) (fun _ => nI 0) (fun _ => 0) (fun _ => 0) 0 (fun _ => 0) (fun _ => 0) 0 0 0 (-1) 0 (fun _ => 0) ++ (ouW k ob (fun _ => 0) ++ (ssW qs k (fun _ => none) (fun _ => 0) (fun _ => 0) 0 0 (fun _ => 0) 0 0 (fun _ => 0) (fun _ => 0) 0 0 0 (-1) ++ plW [] k (fun _ => 0) (fun _ => 0) (fun _ => 0) (fun _ => 0) (fun _ => 0) (fun _ => 0) (fun _ => 0)))) := hD.sub [10, 11, 12, 13, 14, 15, 16, 17, 18, 19, 20, 0, 1, 2, 3, 4, 5, 6, 7, 8, 9] (by decide) rfl
  refine W.widen (k := 21 + 3 * 0) (n := 9395 + 263 * 0) (by omega) (by omega) ?_
  exact L_all C hAe 513 0 (by omega) (by omega) (nI 0) (fun _ => none) (fun _ => 0) (fun _ => 0) 0 0 (fun _ => 0) 0 0 (fun _ => 0) (fun _ => 0) 0 0 0 (-1) [] (fun _ => 0) (fun _ => 0) (fun _ => 0) (fun _ => 0) (fun _ => 0) (fun _ => 0) (fun _ => 0) (fun _ => nI 0) (fun _ => 0) H locs ls ⟨fun _ => (by show 0 < _; omega), fun _ => (by show 0 < _; omega), (by omega), (by omega), fun _ => (by show 0 < _; omega), fun _ => (by show 0 < _; omega), (by omega), (by omega), Or.inl rfl, ⟨fun d _ => (by simp), fun d => (by simp), List.nodup_nil, fun d _ h => (by cases h)⟩, fun _ => (by show 0 < _; omega), fun _ => (by show 0 < _; omega), fun _ => (by show 0 < _; omega), fun d _ h => (by cases h), fun _ _ _ _ _ => rfl⟩ hP3 hD3 hS (lv_sub hl [0, 4, 3, 2, 1] rfl)
