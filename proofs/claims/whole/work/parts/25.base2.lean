/-! BASE 2: words that are not handed on by themselves (XK), the devices and their pool, calls by a superclass's name -/
theorem w_122 : (Cond.sameMethod "SlotScreen$Device" "SlotScreen$Device" "fix" "(II)Z") ∈ GW := gw_t 122 (by decide +kernel) (by decide +kernel)
theorem w_474 : (Cond.sameMethod "SlotScreen$Device" "SlotScreen$Device" "byteAt" "(I)I") ∈ GW := gw_t 474 (by decide +kernel) (by decide +kernel)
theorem w_506 : (Cond.sameMethod "SlotScreen$Device" "SlotScreen$Device" "store" "(II)V") ∈ GW := gw_t 506 (by decide +kernel) (by decide +kernel)
def NWL : List Cond := [.declares y_DV_byteAt, .declares y_DV_store, .methodLinkNest "SlotScreen$Rom" 15 y_SS_isAddress "SlotScreen", .methodLinkNest "SlotScreen" 9 y_SL_init "SlotScreen", .methodLinkNest "SlotScreen" 18 y_CH_init "SlotScreen", .methodLinkNest "SlotScreen$Ram" 1 y_DV_init "SlotScreen", .methodLinkNest "SlotScreen" 157 y_RO_init "SlotScreen", .methodLinkNest "SlotScreen$Rom" 3 y_DV_init "SlotScreen", .methodLinkNest "SlotScreen$Banks" 3 y_DV_init "SlotScreen", .castable "SlotScreen$Banks" "SlotScreen$Device", .castable "SlotScreen$Ram" "SlotScreen$Device", .castable "SlotScreen$Rom" "SlotScreen$Device"]
def XK (U : State) : Prop := (∀ w ∈ NWL, va_Nw w U) ∧ va_AO "SlotScreen$Device" U
theorem XK.warm {s U : State} (hW : s.WarmedH U.vm) (h : XK s) : XK U := by
  refine ⟨fun w hw => ?_, va_AO.moved hW.alike h.2⟩
  have hz := h.1 w hw
  unfold NWL at hw
  simp only [List.mem_cons, List.not_mem_nil, or_false] at hw
  rcases hw with rfl | rfl | rfl | rfl | rfl | rfl | rfl | rfl | rfl | rfl | rfl | rfl
  · exact va_Nw.warmD hW hz
  · exact va_Nw.warmD hW hz
  · exact va_Nw.warmM hW hz
  · exact va_Nw.warmM hW hz
  · exact va_Nw.warmM hW hz
  · exact va_Nw.warmM hW hz
  · exact va_Nw.warmM hW hz
  · exact va_Nw.warmM hW hz
  · exact va_Nw.warmM hW hz
  · exact va_Nw.warmC hW hz
  · exact va_Nw.warmC hW hz
  · exact va_Nw.warmC hW hz
theorem XK.same {u U : State} (h : u.vm = U.vm) (hx : XK u) : XK U := by
  refine ⟨fun w hw => ?_, va_AO.moved (by rw [h]; exact Vm.Alike.refl _) hx.2⟩
  have hz := hx.1 w hw
  refine va_Nw.same ?_ h hz
  unfold NWL at hw
  simp only [List.mem_cons, List.not_mem_nil, or_false] at hw
  rcases hw with rfl | rfl | rfl | rfl | rfl | rfl | rfl | rfl | rfl | rfl | rfl | rfl <;> rfl
def xo_P (D : va_G) (E : List (ClassId × FieldType)) (w : va_W) (as : List Value) : Array Value → State → Prop := va_Pc as (fun U => va_P D vwCl w U.heap ∧ va_K D vwCl E U ∧ XK U)
def xo_i (l : Launch) (y : MethodName) (cc : ByteArray) (maxL : Nat) (ret : Option FieldType) (rm : Room) (D : va_G) (E : List (ClassId × FieldType)) (w : va_W) (as : List Value) (r : Int32) : Prop := Met l y (wsG y cc maxL ret) rm (xo_P D E w as) (vp_Si (fun x => x = r)) 0 0 (fun _ => False)
def xw_P (D : va_G) (E : List (ClassId × FieldType)) (w : va_W) (as : List Value) (sz : Nat) : Array Value → State → Prop := va_Pc as (fun U => U.heap.size = sz ∧ va_P D vwCl w U.heap ∧ va_K D vwCl E U ∧ va_D (fun _ => True) w ∧ XK U)
def xw_i {T : Type} (l : Launch) (y : MethodName) (cc : ByteArray) (maxL : Nat) (ret : Option FieldType) (rm : Room) (D : va_G) (E : List (ClassId × FieldType)) (w : va_W) (as : List Value) (post : Int32 → T → Prop) (wf : T → va_W) : Prop := ∀ sz, Met l y (wsG y cc maxL ret) rm (xw_P D E w as sz) (rw_Qi D post wf (va_A w sz)) 0 0 (va_A w sz)
def xw_v {T : Type} (l : Launch) (y : MethodName) (cc : ByteArray) (maxL : Nat) (ret : Option FieldType) (rm : Room) (D : va_G) (E : List (ClassId × FieldType)) (w : va_W) (as : List Value) (post : T → Prop) (wf : T → va_W) : Prop := ∀ sz, Met l y (wsG y cc maxL ret) rm (xw_P D E w as sz) (rw_Qv D post wf (va_A w sz)) 0 0 (va_A w sz)
theorem xo_blind {D : va_G} {E : List (ClassId × FieldType)} {w : va_W} {as : List Value} : FrameBlind (xo_P D E w as) := fun a U g mk q => ⟨q.1, q.2.1, va_K.moved (u := U) (U := U.calling g mk a) (Vm.Alike.refl U.vm) q.2.2.1, XK.same (u := U) (U := U.calling g mk a) rfl q.2.2.2⟩
theorem xw_blind {D : va_G} {E : List (ClassId × FieldType)} {w : va_W} {as : List Value} {sz : Nat} : FrameBlind (xw_P D E w as sz) := fun a U g mk q => ⟨q.1, q.2.1, q.2.2.1, va_K.moved (u := U) (U := U.calling g mk a) (Vm.Alike.refl U.vm) q.2.2.2.1, q.2.2.2.2.1, XK.same (u := U) (U := U.calling g mk a) rfl q.2.2.2.2.2⟩
theorem xo_pre {D : va_G} {E : List (ClassId × FieldType)} {w : va_W} {s : State} {H : Heap} (hP : va_P D vwCl w H) (hK : va_K D vwCl E s) (hX : XK s) (as : List Value) : ∀ U : State, U.heap = H → s.WarmedH U.vm → xo_P D E w as as.toArray U := fun U hU hW => ⟨rfl, by rw [hU]; exact hP, va_K.moved hW.alike hK, hX.warm hW⟩
theorem xw_pre {D : va_G} {E : List (ClassId × FieldType)} {w : va_W} {s : State} {H : Heap} {A : Nat → Prop} (hP : va_P D vwCl w H) (hK : va_K D vwCl E s) (hX : XK s) (hD : va_D A w) (as : List Value) : ∀ U : State, U.heap = H → s.WarmedH U.vm → xw_P D E w as H.size as.toArray U := fun U hU hW => ⟨rfl, by rw [hU], by rw [hU]; exact hP, va_K.moved hW.alike hK, hD.weaken (fun _ _ _ _ => trivial), hX.warm hW⟩
section XSH
variable {l : Launch} {y : MethodName} {rm : Room} {D : va_G} {E : List (ClassId × FieldType)} {w : va_W} {as : List Value} {cc : ByteArray} {maxL : Nat} {ret : Option FieldType}
theorem xo_headi {r : Int32} (hy : plainName y.cls = true) (hlen : (lg_sl as).length ≤ maxL)
    (body : ∀ (p : Program) (e : Env) (s : State) (m : MethodId) (below : List Frame) (meth : Method) (c : Code) (ls : Array Slot), p.tables.exec = Jvm.exec → c.code = cc → meth.sig.returnType = ret → meth.locks = false → c.maxLocals = maxL → s.vm.findClass y.cls = some m.cls →
      (∀ x ∈ GW, x.before as.toArray s = true) → XK s → va_P D vwCl w s.heap → va_K D vwCl E s → lv_has ls maxL (lv_args 0 as) →
      W p l e (headSpec (wsG y cc maxL ret) rm).room s m as.toArray below meth c s.heap [] 0 0 (MQ below (vp_Si (fun x => x = r)) as.toArray s 0 0 (fun _ => False)) (F0 m 0 ls [])) : xo_i l y cc maxL ret rm D E w as r := by
  refine Met.ofW (cc := cc) (maxL := maxL) (ret := ret) hy rfl ?_
  intro p e s m args below meth c s₁ B hml hv
  obtain ⟨rfl, hP, hK, hX⟩ := hv
  have hts0 := atoms_spec (ws := wsG y cc maxL ret) B.pre
  have hts : ∀ x ∈ GW, x.before as.toArray s = true := fun x h => hts0 x (List.mem_cons_of_mem _ h)
  have hown : s.vm.findClass y.cls = some m.cls := findClass_of_methodNamed B.named
  have hl := lv_entry as (n := maxL) hlen
  rw [lg_entry_eq]
  exact body p e s m below meth c _ B.exec B.bytes B.returns B.notSynchronized hml hown hts hX hP hK hl
theorem xw_head {Qc : (Nat → Prop) → Array Value → State → Outcome → State → Prop} (hy : plainName y.cls = true) (hlen : (lg_sl as).length ≤ maxL)
    (body : ∀ (p : Program) (e : Env) (s : State) (m : MethodId) (below : List Frame) (meth : Method) (c : Code) (ls : Array Slot) (A : Nat → Prop), p.tables.exec = Jvm.exec → c.code = cc → meth.sig.returnType = ret → meth.locks = false → c.maxLocals = maxL → s.vm.findClass y.cls = some m.cls →
      (∀ x ∈ GW, x.before as.toArray s = true) → XK s → va_K D vwCl E s → (∀ q : Nat, s.heap.size ≤ q → A q) → va_P D vwCl w s.heap → va_D A w → va_S A s.heap s.heap [] → lv_has ls maxL (lv_args 0 as) →
      W p l e (headSpec (wsG y cc maxL ret) rm).room s m as.toArray below meth c s.heap [] 0 0 (MQ below (Qc A) as.toArray s 0 0 A) (F0 m 0 ls [])) :
    ∀ sz, Met l y (wsG y cc maxL ret) rm (xw_P D E w as sz) (Qc (va_A w sz)) 0 0 (va_A w sz) := by
  intro sz
  refine Met.ofW (cc := cc) (maxL := maxL) (ret := ret) hy rfl ?_
  intro p e s m args below meth c s₁ B hml hv
  obtain ⟨rfl, hsz, hP, hK, hD0, hX⟩ := hv
  subst hsz
  have hts0 := atoms_spec (ws := wsG y cc maxL ret) B.pre
  have hts : ∀ x ∈ GW, x.before as.toArray s = true := fun x h => hts0 x (List.mem_cons_of_mem _ h)
  have hown : s.vm.findClass y.cls = some m.cls := findClass_of_methodNamed B.named
  have hl := lv_entry as (n := maxL) hlen
  rw [lg_entry_eq]
  exact body p e s m below meth c _ _ B.exec B.bytes B.returns B.notSynchronized hml hown hts hX hK (fun q h => Or.inr h) hP (hD0.self (sz := s.heap.size)) va_S.rf hl
theorem xw_headi {T : Type} {post : Int32 → T → Prop} {wf : T → va_W} (hy : plainName y.cls = true) (hlen : (lg_sl as).length ≤ maxL)
    (body : ∀ (p : Program) (e : Env) (s : State) (m : MethodId) (below : List Frame) (meth : Method) (c : Code) (ls : Array Slot) (A : Nat → Prop), p.tables.exec = Jvm.exec → c.code = cc → meth.sig.returnType = ret → meth.locks = false → c.maxLocals = maxL → s.vm.findClass y.cls = some m.cls →
      (∀ x ∈ GW, x.before as.toArray s = true) → XK s → va_K D vwCl E s → (∀ q : Nat, s.heap.size ≤ q → A q) → va_P D vwCl w s.heap → va_D A w → va_S A s.heap s.heap [] → lv_has ls maxL (lv_args 0 as) →
      W p l e (headSpec (wsG y cc maxL ret) rm).room s m as.toArray below meth c s.heap [] 0 0 (MQ below (rw_Qi D post wf A) as.toArray s 0 0 A) (F0 m 0 ls [])) : xw_i l y cc maxL ret rm D E w as post wf := xw_head (Qc := rw_Qi D post wf) hy hlen body
theorem xw_headv {T : Type} {post : T → Prop} {wf : T → va_W} (hy : plainName y.cls = true) (hlen : (lg_sl as).length ≤ maxL)
    (body : ∀ (p : Program) (e : Env) (s : State) (m : MethodId) (below : List Frame) (meth : Method) (c : Code) (ls : Array Slot) (A : Nat → Prop), p.tables.exec = Jvm.exec → c.code = cc → meth.sig.returnType = ret → meth.locks = false → c.maxLocals = maxL → s.vm.findClass y.cls = some m.cls →
      (∀ x ∈ GW, x.before as.toArray s = true) → XK s → va_K D vwCl E s → (∀ q : Nat, s.heap.size ≤ q → A q) → va_P D vwCl w s.heap → va_D A w → va_S A s.heap s.heap [] → lv_has ls maxL (lv_args 0 as) →
      W p l e (headSpec (wsG y cc maxL ret) rm).room s m as.toArray below meth c s.heap [] 0 0 (MQ below (rw_Qv D post wf A) as.toArray s 0 0 A) (F0 m 0 ls [])) : xw_v l y cc maxL ret rm D E w as post wf := xw_head (Qc := rw_Qv D post wf) hy hlen body
end XSH
theorem gU {own C owner : String} {i n : Nat} {x y : MethodName} {b : ByteArray} {ret : Option FieldType} (h1 : Cond.methodLink own i x ∈ GW) (h2 : Cond.sameMethod x.cls owner x.name x.desc ∈ GW) (h3 : Cond.selects C x y ∈ GW) (h4 : Cond.instanceMethod y ∈ GW) (h6 : Cond.initialized y.cls ∈ GW) (h5 : Cond.code y b n ret ∈ GW) : GoodIn GW (va_wsU own i C owner x y (wsG y b n ret)) := by
  intro w hw
  have hm : w ∈ GW := by
    unfold va_wsU at hw
    rcases List.mem_append.mp hw with h | h
    · simp only [List.mem_cons, List.not_mem_nil, or_false] at h
      rcases h with rfl | rfl | rfl | rfl | rfl <;> assumption
    · rcases List.mem_cons.mp h with rfl | h <;> assumption
  exact ⟨hm, gw_good w hm⟩
section XSC
variable {p : Program} {l : Launch} {e : Env} {R : Room} {s : State} {m : MethodId} {args : Array Value} {below : List Frame} {meth : Method} {c : Code} {H : Heap} {locs : List Loc} {cells slots : Nat} {Q : State → Prop} {pc : Nat} {ls : Array Slot}
  {x y : MethodName} {bytes cc : ByteArray} {maxL nL n index : Nat} {ret : Option FieldType} {rm : Room} {Ts : List Cond} {own C owner host : String} {b : Addr} {As rest st0 : List Value} {D : va_G} {E : List (ClassId × FieldType)} {w : va_W} {A : Nat → Prop} {r : Int32} {o : Option Nat} {T : Type} {post : Int32 → T → Prop} {pv : T → Prop} {wf : T → va_W}
theorem kx_iV (S : CallFix p m c cc nL s args Ts own) (hM : xo_i l y bytes maxL ret rm D E w (.ref b :: As) r) (cw : CallW R s args own C index y bytes maxL ret (wsG y bytes maxL ret) rm 0 0 n) (hK : va_K D vwCl E s) (hX : XK s) (hP : va_P D vwCl w H) (hrc : ∃ cellB : Cell, H[b]? = some cellB ∧ cellB.vm.isStatics = false ∧ s.vm.findClass C = some cellB.cls)
    (hn : As.length = n) (hsize : ls.size = nL) (hst : st0 = As.reverse ++ .ref b :: rest) (hW : (rest.map fun v => v.category).sum ≤ 8) (hdg : decode cc pc = .ok (.invokevirtual index, 3)) (hf : cells ≤ R.cells ∧ slots ≤ R.slots)
    (kk : W p l e R s m args below meth c H locs cells slots Q (F0 m (pc + 3) ls (.int r :: rest))) : W p l e R s m args below meth c H locs cells slots Q (F0 m pc ls st0) :=
  vp_callSi (W.runV (g := F0 m pc ls st0) (rest := rest) S hM cw ⟨xo_blind, hrc, xo_pre hP hK hX _⟩ rfl hn hsize hst (lv_room hW) hdg hf) (fun x hx => by subst hx; exact kk)
/-- a reading call by the name of a superclass's method -/
theorem kr_iU (S : CallFix p m c cc nL s args Ts own) (hM : ro_i l y bytes maxL ret rm D E w (.ref b :: As) r) (cw : va_CU R s args own C owner index x y bytes maxL ret (wsG y bytes maxL ret) rm 0 0 n) (hK : va_K D vwCl E s) (hP : va_P D vwCl w H) (hrc : ∃ cellB : Cell, H[b]? = some cellB ∧ cellB.vm.isStatics = false ∧ s.vm.findClass C = some cellB.cls)
    (hn : As.length = n) (hsize : ls.size = nL) (hst : st0 = As.reverse ++ .ref b :: rest) (hW : (rest.map fun v => v.category).sum ≤ 8) (hdg : decode cc pc = .ok (.invokevirtual index, 3)) (hf : cells ≤ R.cells ∧ slots ≤ R.slots)
    (kk : W p l e R s m args below meth c H locs cells slots Q (F0 m (pc + 3) ls (.int r :: rest))) : W p l e R s m args below meth c H locs cells slots Q (F0 m pc ls st0) :=
  vp_callSi (va_runU (g := F0 m pc ls st0) (rest := rest) S hM cw ⟨ro_blind, hrc, ro_pre hP hK _⟩ rfl hn hsize hst (lv_room hW) hdg hf).run (fun x hx => by subst hx; exact kk)
theorem kw_vU (S : CallFix p m c cc nL s args Ts own) (hM : rw_v l y bytes maxL ret rm D E w (.ref b :: As) pv wf) (cw : va_CU R s args own C owner index x y bytes maxL ret (wsG y bytes maxL ret) rm 0 0 n) (hK : va_K D vwCl E s) (hP : va_P D vwCl w H) (hD : va_D A w) (hS : va_S A s.heap H locs) (hA : ∀ q, s.heap.size ≤ q → A q)
    (hrc : ∃ cellB : Cell, H[b]? = some cellB ∧ cellB.vm.isStatics = false ∧ s.vm.findClass C = some cellB.cls)
    (hn : As.length = n) (hsize : ls.size = nL) (hst : st0 = As.reverse ++ .ref b :: rest) (hW : (rest.map fun v => v.category).sum ≤ 8) (hdg : decode cc pc = .ok (.invokevirtual index, 3)) (hf : cells ≤ R.cells ∧ slots ≤ R.slots)
    (kk : ∀ (u : T) (H1 : Heap) (locs1 : List Loc), pv u → va_P D vwCl (wf u) H1 → (∀ q : Nat, q < H.size → ¬ va_A w H.size q → H1[q]? = H[q]?) → va_S A s.heap H1 locs1 → W p l e R s m args below meth c H1 locs1 cells slots Q (F0 m (pc + 3) ls rest)) : W p l e R s m args below meth c H locs cells slots Q (F0 m pc ls st0) := by
  have hF := rw_S hD hS hA
  refine va_callv (va_runU (g := F0 m pc ls st0) (rest := rest) S (hM H.size) cw ⟨rw_blind, hrc, rw_pre hP hK hD _⟩ rfl hn hsize hst (lv_room hW) hdg hf) hS (fun q _ h => hF q h) hF (fun u t H1 locs1 ht hvm hp hB hz hk hS1 => ?_)
  rw [ht] at hB
  exact kk u H1 locs1 hp hB hk hS1
theorem kw_iU (S : CallFix p m c cc nL s args Ts own) (hM : rw_i l y bytes maxL ret rm D E w (.ref b :: As) post wf) (cw : va_CU R s args own C owner index x y bytes maxL ret (wsG y bytes maxL ret) rm 0 0 n) (hK : va_K D vwCl E s) (hP : va_P D vwCl w H) (hD : va_D A w) (hS : va_S A s.heap H locs) (hA : ∀ q, s.heap.size ≤ q → A q)
    (hrc : ∃ cellB : Cell, H[b]? = some cellB ∧ cellB.vm.isStatics = false ∧ s.vm.findClass C = some cellB.cls)
    (hn : As.length = n) (hsize : ls.size = nL) (hst : st0 = As.reverse ++ .ref b :: rest) (hW : (rest.map fun v => v.category).sum ≤ 8) (hdg : decode cc pc = .ok (.invokevirtual index, 3)) (hf : cells ≤ R.cells ∧ slots ≤ R.slots)
    (kk : ∀ (r : Int32) (u : T) (H1 : Heap) (locs1 : List Loc), post r u → va_P D vwCl (wf u) H1 → (∀ q : Nat, q < H.size → ¬ va_A w H.size q → H1[q]? = H[q]?) → va_S A s.heap H1 locs1 → W p l e R s m args below meth c H1 locs1 cells slots Q (F0 m (pc + 3) ls (.int r :: rest))) : W p l e R s m args below meth c H locs cells slots Q (F0 m pc ls st0) := by
  have hF := rw_S hD hS hA
  refine va_calli (va_runU (g := F0 m pc ls st0) (rest := rest) S (hM H.size) cw ⟨rw_blind, hrc, rw_pre hP hK hD _⟩ rfl hn hsize hst (lv_room hW) hdg hf) hS (fun q _ h => hF q h) hF (fun r u t H1 locs1 ht hvm hp hB hz hk hS1 => ?_)
  rw [ht] at hB
  exact kk r u H1 locs1 hp hB hk hS1
theorem kxw_iU (S : CallFix p m c cc nL s args Ts own) (hM : xw_i l y bytes maxL ret rm D E w (.ref b :: As) post wf) (cw : va_CU R s args own C owner index x y bytes maxL ret (wsG y bytes maxL ret) rm 0 0 n) (hK : va_K D vwCl E s) (hX : XK s) (hP : va_P D vwCl w H) (hD : va_D A w) (hS : va_S A s.heap H locs) (hA : ∀ q, s.heap.size ≤ q → A q)
    (hrc : ∃ cellB : Cell, H[b]? = some cellB ∧ cellB.vm.isStatics = false ∧ s.vm.findClass C = some cellB.cls)
    (hn : As.length = n) (hsize : ls.size = nL) (hst : st0 = As.reverse ++ .ref b :: rest) (hW : (rest.map fun v => v.category).sum ≤ 8) (hdg : decode cc pc = .ok (.invokevirtual index, 3)) (hf : cells ≤ R.cells ∧ slots ≤ R.slots)
    (kk : ∀ (r : Int32) (u : T) (H1 : Heap) (locs1 : List Loc), post r u → va_P D vwCl (wf u) H1 → (∀ q : Nat, q < H.size → ¬ va_A w H.size q → H1[q]? = H[q]?) → va_S A s.heap H1 locs1 → W p l e R s m args below meth c H1 locs1 cells slots Q (F0 m (pc + 3) ls (.int r :: rest))) : W p l e R s m args below meth c H locs cells slots Q (F0 m pc ls st0) := by
  have hF := rw_S hD hS hA
  refine va_calli (va_runU (g := F0 m pc ls st0) (rest := rest) S (hM H.size) cw ⟨xw_blind, hrc, xw_pre hP hK hX hD _⟩ rfl hn hsize hst (lv_room hW) hdg hf) hS (fun q _ h => hF q h) hF (fun r u t H1 locs1 ht hvm hp hB hz hk hS1 => ?_)
  rw [ht] at hB
  exact kk r u H1 locs1 hp hB hk hS1
theorem kxw_vV (S : CallFix p m c cc nL s args Ts own) (hM : xw_v l y bytes maxL ret rm D E w (.ref b :: As) pv wf) (cw : CallW R s args own C index y bytes maxL ret (wsG y bytes maxL ret) rm 0 0 n) (hK : va_K D vwCl E s) (hX : XK s) (hP : va_P D vwCl w H) (hD : va_D A w) (hS : va_S A s.heap H locs) (hA : ∀ q, s.heap.size ≤ q → A q)
    (hrc : ∃ cellB : Cell, H[b]? = some cellB ∧ cellB.vm.isStatics = false ∧ s.vm.findClass C = some cellB.cls)
    (hn : As.length = n) (hsize : ls.size = nL) (hst : st0 = As.reverse ++ .ref b :: rest) (hW : (rest.map fun v => v.category).sum ≤ 8) (hdg : decode cc pc = .ok (.invokevirtual index, 3)) (hf : cells ≤ R.cells ∧ slots ≤ R.slots)
    (kk : ∀ (u : T) (H1 : Heap) (locs1 : List Loc), pv u → va_P D vwCl (wf u) H1 → (∀ q : Nat, q < H.size → ¬ va_A w H.size q → H1[q]? = H[q]?) → va_S A s.heap H1 locs1 → W p l e R s m args below meth c H1 locs1 cells slots Q (F0 m (pc + 3) ls rest)) : W p l e R s m args below meth c H locs cells slots Q (F0 m pc ls st0) := by
  have hF := rw_S hD hS hA
  refine va_callv (va_runV (g := F0 m pc ls st0) (rest := rest) S (hM H.size) cw ⟨xw_blind, hrc, xw_pre hP hK hX hD _⟩ rfl hn hsize hst (lv_room hW) hdg hf) hS (fun q _ h => hF q h) hF (fun u t H1 locs1 ht hvm hp hB hz hk hS1 => ?_)
  rw [ht] at hB
  exact kk u H1 locs1 hp hB hk hS1
/-- a static method of a nest mate -/
theorem kr_iN (S : CallFix p m c cc nL s args Ts own) (hM : ro_i l y bytes maxL ret rm D E w As r) (cw : va_CN R s args own index y host bytes maxL ret (wsG y bytes maxL ret) rm 0 0 n ∧ (Cond.static y).before args s = true ∧ True) (hK : va_K D vwCl E s) (hP : va_P D vwCl w H)
    (hn : As.length = n) (hsize : ls.size = nL) (hst : st0 = As.reverse ++ rest) (hW : (rest.map fun v => v.category).sum ≤ 8) (hdg : decode cc pc = .ok (.invokestatic index, 3)) (hf : cells ≤ R.cells ∧ slots ≤ R.slots)
    (kk : W p l e R s m args below meth c H locs cells slots Q (F0 m (pc + 3) ls (.int r :: rest))) : W p l e R s m args below meth c H locs cells slots Q (F0 m pc ls st0) :=
  vp_callSi (va_runSN (g := F0 m pc ls st0) (rest := rest) S hM cw ⟨ro_blind, ro_pre hP hK _⟩ rfl hn hsize hst (lv_room hW) hdg hf).run (fun x hx => by subst hx; exact kk)
end XSC
/-- n places of f from o on -/
def sft (f : Nat → Nat) (o n : Nat) : Nat → Nat := fun j => if j < n then f (o + j) else 0
theorem sft_i {f : Nat → Nat} {o n j : Nat} (h : j < n) : sft f o n j = f (o + j) := by unfold sft; rw [if_pos h]
theorem sft_u {f : Nat → Nat} {o n j v : Nat} (h : j < n) : ss_up (sft f o n) j v = sft (ss_up f (o + j) v) o n := by
  funext i
  unfold ss_up sft
  by_cases hi : i = j
  · subst hi; rw [if_pos rfl, if_pos h]; dsimp only; rw [if_pos rfl]
  · rw [if_neg hi]
    by_cases h2 : i < n
    · rw [if_pos h2, if_pos h2]; dsimp only; rw [if_neg (by omega)]
    · rw [if_neg h2, if_neg h2]
theorem sft_o {f : Nat → Nat} {o n p v : Nat} (h : ∀ j, j < n → o + j ≠ p) : sft (ss_up f p v) o n = sft f o n := by
  funext i
  unfold ss_up sft
  by_cases h2 : i < n
  · rw [if_pos h2, if_pos h2]; dsimp only; rw [if_neg (h i h2)]
  · rw [if_neg h2, if_neg h2]
theorem sft_lt {f : Nat → Nat} {o n N : Nat} (hN : 0 < N) (h : ∀ j, f j < N) : ∀ j, sft f o n j < N := by
  intro j; unfold sft; split
  · exact h _
  · exact hN
def raW (ao bo : Nat) (k : Nat → ClassId) (n msk : Nat) (F : Nat → Nat) : va_W := [(ao, .inr (5, [.ref bo, .int (nI msk)])), (bo, .inl (k 0, n, .inl (fun j => nI (F j))))]
def roW (ao bo : Nat) (k : Nat → ClassId) (F : Nat → Nat) : va_W := [(ao, .inr (6, [.ref bo])), (bo, .inl (k 0, 256, .inl (fun j => nI (F j))))]
def bkW (ao bo co : Nat) (k : Nat → ClassId) (nb : Nat) (F G : Nat → Nat) : va_W := [(ao, .inr (4, [.int (nI nb), .ref bo, .ref co])), (co, .inl (k 0, 4, .inl (fun j => nI (G j)))), (bo, .inl (k 0, 32 * nb, .inl (fun j => nI (F j))))]
def dvW (k : Nat → ClassId) (ad bd ed kd nb sh mb : Nat → Nat) (d : Nat) : va_W := if kd d = 1 then raW (ad d) (bd d) k 256 255 (sft mb (256 * d) 256) else if kd d = 2 then roW (ad d) (bd d) k (sft mb (256 * d) 256) else if kd d = 3 then bkW (ad d) (bd d) (ed d) k (nb d) (sft mb (256 * d) (32 * nb d)) (sft sh (4 * d) 4) else raW (ad d) (bd d) k 64 63 (sft mb (256 * d) 64)
def plW (od : List Nat) (k : Nat → ClassId) (ad bd ed kd nb sh mb : Nat → Nat) : va_W := od.flatMap (dvW k ad bd ed kd nb sh mb)
theorem va_mem {D : va_G} {cl : List vw_C} {ws wc : va_W} {H : Heap} (hP : va_P D cl ws H) (h : ∀ x ∈ wc, x ∈ ws) : va_P D cl wc H := by
  intro i x hx
  obtain ⟨j, hj⟩ := List.getElem?_of_mem (h x (List.mem_of_getElem? hx))
  exact hP j x hj
