/-! BASE 4: the law's helpers (bodies with handlers), and the frames of the law's world -/
theorem va_subP {D : va_G} {cl : List vw_C} {a b c : va_W} {H : Heap} (hP : va_P D cl (a ++ (b ++ c)) H) : va_P D cl b H := va_mem hP (fun _ hx => List.mem_append_right _ (List.mem_append_left _ hx))
theorem va_subD {A : Nat → Prop} {a b c : va_W} (hD : va_D A (a ++ (b ++ c))) : va_D A b := va_Dsl hD ((List.sublist_append_left b c).trans (List.sublist_append_right a _))
theorem va_tlP {D : va_G} {cl : List vw_C} {a b : va_W} {H : Heap} (hP : va_P D cl (a ++ b) H) : va_P D cl b H := va_mem hP (fun _ hx => List.mem_append_right _ hx)
theorem va_tlD {A : Nat → Prop} {a b : va_W} (hD : va_D A (a ++ b)) : va_D A b := va_Dsl hD (List.sublist_append_right a _)
theorem fr_mid {A : Nat → Prop} {D : va_G} {cl : List vw_C} {a b c b' : va_W} {H H1 : Heap} (hP : va_P D cl (a ++ (b ++ c)) H) (hD : va_D A (a ++ (b ++ c))) (hk : ∀ q : Nat, q < H.size → ¬ va_A b H.size q → H1[q]? = H[q]?) (hA : ∀ q, H.size ≤ q → A q) (hP1 : va_P D cl b' H1) (hD1 : va_D (va_A b H.size) b') :
    va_P D cl (a ++ (b' ++ c)) H1 ∧ va_D A (a ++ (b' ++ c)) := by
  obtain ⟨pa, h2, h3⟩ := List.pairwise_append.mp (dD_pw hD)
  obtain ⟨pb, pc, h5⟩ := List.pairwise_append.mp h2
  have nb : ∀ x : Nat × va_E, x ∈ a ∨ x ∈ c → x.1 < H.size ∧ ¬ va_A b H.size x.1 := by
    intro x hx
    have hm : x ∈ a ++ (b ++ c) := by
      rcases hx with h | h
      · exact List.mem_append_left _ h
      · exact List.mem_append_right _ (List.mem_append_right _ h)
    obtain ⟨i, hi⟩ := List.getElem?_of_mem hm
    have hl := (hP i x hi).lt
    refine ⟨hl, fun z => ?_⟩
    rcases z with ⟨j, e, hj⟩ | z
    · have hb := List.mem_of_getElem? hj
      rcases hx with h | h
      · exact h3 x h (x.1, e) (List.mem_append_left _ hb) rfl
      · exact h5 (x.1, e) hb x h rfl
    · omega
  have hb' : ∀ x ∈ b', va_A b H.size x.1 := va_DA hD1
  have hAb : ∀ q, va_A b H.size q → A q := fun q h => by
    rcases h with ⟨j, e, hj⟩ | h
    · exact va_DA hD (q, e) (List.mem_append_right _ (List.mem_append_left _ (List.mem_of_getElem? hj)))
    · exact hA q h
  refine ⟨fun i x hx => ?_, va_Dpw (List.pairwise_append.mpr ⟨pa, List.pairwise_append.mpr ⟨dD_pw hD1, pc, fun x hx y hy e => ?_⟩, fun x hx y hy e => ?_⟩) (fun x hx => ?_)⟩
  · have hm := List.mem_of_getElem? hx
    have old : x ∈ a ∨ x ∈ c → va_at D cl x H1 := fun h => by
      have h9 : x ∈ a ++ (b ++ c) := by
        rcases h with h | h
        · exact List.mem_append_left _ h
        · exact List.mem_append_right _ (List.mem_append_right _ h)
      obtain ⟨i, hi⟩ := List.getElem?_of_mem h9
      exact (hP i x hi).kept (hk x.1 (nb x h).1 (nb x h).2)
    rcases List.mem_append.mp hm with h | h
    · exact old (Or.inl h)
    · rcases List.mem_append.mp h with h | h
      · obtain ⟨j, hj⟩ := List.getElem?_of_mem h
        exact hP1 j x hj
      · exact old (Or.inr h)
  · exact (nb y (Or.inr hy)).2 (e ▸ hb' x hx)
  · rcases List.mem_append.mp hy with h | h
    · exact (nb x (Or.inl hx)).2 (e ▸ hb' y h)
    · exact h3 x hx y (List.mem_append_right _ h) e
  · rcases List.mem_append.mp hx with h | h
    · exact va_DA hD x (List.mem_append_left _ h)
    · rcases List.mem_append.mp h with h | h
      · exact hAb _ (hb' x h)
      · exact va_DA hD x (List.mem_append_right _ (List.mem_append_right _ h))
theorem fr_tl {A : Nat → Prop} {D : va_G} {cl : List vw_C} {a b b' : va_W} {H H1 : Heap} (hP : va_P D cl (a ++ b) H) (hD : va_D A (a ++ b)) (hk : ∀ q : Nat, q < H.size → ¬ va_A b H.size q → H1[q]? = H[q]?) (hA : ∀ q, H.size ≤ q → A q) (hP1 : va_P D cl b' H1) (hD1 : va_D (va_A b H.size) b') :
    va_P D cl (a ++ b') H1 ∧ va_D A (a ++ b') := by
  have h := fr_mid (a := a) (b := b) (c := []) (b' := b') (by rw [List.append_nil]; exact hP) (by rw [List.append_nil]; exact hD) hk hA hP1 hD1
  rw [List.append_nil] at h
  exact h
/-- nothing of the old cells was changed -/
theorem va_old {D : va_G} {cl : List vw_C} {w : va_W} {H H1 : Heap} (hP : va_P D cl w H) (hk : ∀ z : Nat, z < H.size → H1[z]? = H[z]?) : va_P D cl w H1 := fun i x hx => (hP i x hx).kept (hk x.1 (hP i x hx).lt)
theorem va_Sold {A : Nat → Prop} {H0 H H1 : Heap} {locs : List Loc} (hS : va_S A H0 H locs) (hz : H.size ≤ H1.size) (hk : ∀ z : Nat, z < H.size → H1[z]? = H[z]?) : va_S A H0 H1 locs := ⟨Nat.le_trans hS.1 hz, fun q h1 h2 => by rw [hk q (Nat.lt_of_lt_of_le h1 hS.1)]; exact hS.2.1 q h1 h2, hS.2.2⟩
abbrev wsH (y : MethodName) (cc : ByteArray) (n : Nat) (ret : Option FieldType) (hh : List (Nat × Nat × Nat × Nat)) : List Cond := Cond.codeWith y cc n ret hh :: GW
def hp_P (D : va_G) (E : List (ClassId × FieldType)) (w : va_W) (as : List Value) (sz : Nat) : Array Value → State → Prop := va_Pc as (fun U => U.heap.size = sz ∧ va_P D vwCl w U.heap ∧ va_K D vwCl E U ∧ va_D (fun _ => True) w ∧ XK U ∧ TT U ∧ tU (va_A w sz) U U.heap)
def hp_i {T : Type} (l : Launch) (y : MethodName) (cc : ByteArray) (maxL : Nat) (hh : List (Nat × Nat × Nat × Nat)) (rm : Room) (D : va_G) (E : List (ClassId × FieldType)) (w : va_W) (as : List Value) (post : Int32 → T → Prop) (wf : T → va_W) : Prop := ∀ sz, Met l y (wsH y cc maxL (some .int) hh) rm (hp_P D E w as sz) (va_Qi post (fun u t => va_P D vwCl (wf u) t.heap ∧ va_D (va_A w sz) (wf u)) (va_A w sz)) rm.cells rm.slots (va_A w sz)
theorem hp_blind {D : va_G} {E : List (ClassId × FieldType)} {w : va_W} {as : List Value} {sz : Nat} : FrameBlind (hp_P D E w as sz) := fun a U g mk q => ⟨q.1, q.2.1, q.2.2.1, va_K.moved (u := U) (U := U.calling g mk a) (Vm.Alike.refl U.vm) q.2.2.2.1, q.2.2.2.2.1, XK.same (u := U) (U := U.calling g mk a) rfl q.2.2.2.2.2.1, TT.same (u := U) (U := U.calling g mk a) rfl q.2.2.2.2.2.2.1, tU.moved (u := U) (U := U.calling g mk a) (Vm.Alike.refl U.vm) q.2.2.2.2.2.2.2⟩
theorem hp_head {T : Type} {l : Launch} {y : MethodName} {cc : ByteArray} {maxL : Nat} {hh : List (Nat × Nat × Nat × Nat)} {rm : Room} {D : va_G} {E : List (ClassId × FieldType)} {w : va_W} {as : List Value} {post : Int32 → T → Prop} {wf : T → va_W} (hy : plainName y.cls = true) (hlen : (lg_sl as).length ≤ maxL)
    (body : ∀ (p : Program) (e : Env) (s : State) (m : MethodId) (below : List Frame) (meth : Method) (c : Code) (ls : Array Slot) (A : Nat → Prop), p.tables.exec = Jvm.exec → c.code = cc → meth.sig.returnType = some .int → meth.locks = false → c.maxLocals = maxL → s.vm.findClass y.cls = some m.cls → c.exceptionTable.toList.map (fun h => (h.startPc, h.endPc, h.handlerPc, h.catchType)) = hh →
      (∀ x ∈ GW, x.before as.toArray s = true) → XK s → TT s → tU A s s.heap → va_K D vwCl E s → (∀ q : Nat, s.heap.size ≤ q → A q) → va_P D vwCl w s.heap → va_D A w → va_S A s.heap s.heap [] → lv_has ls maxL (lv_args 0 as) →
      W p l e (headSpec (wsH y cc maxL (some .int) hh) rm).room s m as.toArray below meth c s.heap [] 0 0 (MQ below (va_Qi post (fun u t => va_P D vwCl (wf u) t.heap ∧ va_D A (wf u)) A) as.toArray s rm.cells rm.slots A) (F0 m 0 ls [])) : hp_i l y cc maxL hh rm D E w as post wf := by
  intro sz
  refine MetFree.of_bodyS (code := cc) (maxLocals := maxL) (ret := some .int) hy ?_ ?_
  · intro args s m h hn
    obtain ⟨m9, meth, c, hn9, h1, h2, h3, h4, -, h5, h6, -⟩ := Cond.codeWith_spec (atoms_spec (ws := wsH y cc maxL (some .int) hh) h _ List.mem_cons_self)
    cases Option.some.inj (hn9.symm.trans hn)
    exact ⟨meth, c, h1, h2, h3, h4, h5, h6⟩
  · intro p e s m args below meth c s₁ B hml hv _
    obtain ⟨rfl, hsz, hP, hK, hD0, hX, hT, hU⟩ := hv
    subst hsz
    have hh0 : s₁.heap = s.heap := by rw [B.state]; rfl
    have hts0 := atoms_spec (ws := wsH y cc maxL (some .int) hh) B.pre
    have hts : ∀ x ∈ GW, x.before as.toArray s = true := fun x h => hts0 x (List.mem_cons_of_mem _ h)
    have hown : s.vm.findClass y.cls = some m.cls := findClass_of_methodNamed B.named
    have htab : c.exceptionTable.toList.map (fun h => (h.startPc, h.endPc, h.handlerPc, h.catchType)) = hh := by
      obtain ⟨m9, meth9, c9, hn9, h1, h2, -, -, h6, -⟩ := Cond.codeWith_spec (hts0 _ List.mem_cons_self)
      cases Option.some.inj (hn9.symm.trans B.named)
      cases Option.some.inj (h1.symm.trans B.method)
      cases Option.some.inj (h2.symm.trans (Stand.of_body B).code)
      exact h6
    have hl := lv_entry as (n := maxL) hlen
    have K := body p e s m below meth c _ _ B.exec B.bytes B.returns B.notSynchronized hml hown htab hts hX hT hU hK (fun q h => Or.inr h) hP (hD0.self (sz := s.heap.size)) va_S.rf hl
    rw [← lg_entry_eq] at K
    obtain ⟨t, a1, o, b1, b2, b3⟩ := K s₁ hh0 (Stand.of_body B)
    exact ⟨t, o, a1, b1, b2, ⟨b3.1, b3.2⟩⟩
section HPR
variable {p : Program} {l : Launch} {e : Env} {R : Room} {s : State} {m : MethodId} {args : Array Value} {below : List Frame} {meth : Method} {c : Code} {H : Heap} {locs : List Loc} {cells slots mc ms : Nat} {cc : ByteArray} {pc : Nat} {ls : Array Slot} {D : va_G} {A : Nat → Prop} {T : Type} {post : Int32 → T → Prop} {wf : T → va_W}
theorem hp_ret {v : Int32} (hx : p.tables.exec = Jvm.exec) (hb : c.code = cc) (hr : meth.sig.returnType = some .int) (hlocks : meth.locks = false) (hd : decode cc pc = .ok (.ireturn, 1)) (hc : cells ≤ mc) (hs : slots ≤ ms) (hS : va_S A s.heap H locs) (u : T) (hv : post v u) (hP : va_P D vwCl (wf u) H) (hD : va_D A (wf u)) :
    W p l e R s m args below meth c H locs cells slots (MQ below (va_Qi post (fun u t => va_P D vwCl (wf u) t.heap ∧ va_D A (wf u)) A) args s mc ms A) (F0 m pc ls [.int v]) :=
  W.widen hc hs (W.iret hx hb hr (fun t ht _ => ⟨⟨v, u, rfl, hv, by show va_P D vwCl (wf u) t.heap; rw [ht]; exact hP, hD⟩, hS.F ht⟩) hS.2.2 hd hlocks)
/-- a static call of a body with handlers -/
theorem hp_run {y : MethodName} {bytes : ByteArray} {maxL nL n index : Nat} {ret : Option FieldType} {hh : List (Nat × Nat × Nat × Nat)} {ws : List Cond} {rm : Room} {Pc : Array Value → State → Prop} {Qc : Array Value → State → Outcome → State → Prop} {free : Addr → Prop} {Ts : List Cond} {own : String} {As rest : List Value} {g : JFrame}
    (S : CallFix p m c cc nL s args Ts own) (hM : Met l y ws rm Pc Qc mc ms free) (hrc : rm.cells = mc) (hrs : rm.slots = ms) (hfr : rm.frames + 1 ≤ R.frames) (hlo : 8 + (maxL + 11) + rm.locals ≤ R.locals) (hws : ∀ w ∈ ws, ∀ (a' : Array Value) (U : State), s.WarmedH U.vm → w.before a' U = true) (hcw : Cond.codeWith y bytes maxL ret hh ∈ ws)
    (hstat : (Cond.static y).before args s = true) (hini : (Cond.initialized y.cls).before args s = true) (hy : y.cls ≠ "java/lang/invoke/MethodHandle" ∧ y.cls ≠ "java/lang/invoke/VarHandle") (hlen : ∀ sig, parseMethodDescriptor y.desc = some sig → n = sig.parameters.length) (hlink : (Cond.methodLink own index y).before args s = true)
    (hp : PreS s H Pc As) (hg : g.method = m) (hn : As.length = n) (hsize : g.locals.size = nL) (hst : g.stack = As.reverse ++ rest) (hW : 2 * g.monitorRoom + (rest.map fun v => v.category).sum ≤ 8) (hdg : decode cc g.pc = .ok (.invokestatic index, 3)) (hf : cells + mc ≤ R.cells ∧ slots + ms ≤ R.slots) :
    va_Run p l e R s m args below meth c H locs cells slots mc ms g rest (Qc As.toArray) free := by
  obtain ⟨hx, hb, hml, hown, -⟩ := S
  subst hb
  intro T hT X
  have hcode : (Cond.codeWith y bytes maxL ret hh).before args s = true := hws _ hcw _ _ (State.WarmedH.refl s)
  obtain ⟨mk, methM, cM, hnamed, hmethM, hcM, -, hlM, -, -, -, hsigM⟩ := Cond.codeWith_spec hcode
  have hstatic : methM.isStatic = true := Cond.static_spec hnamed hmethM hstat
  obtain ⟨kP, hkP, -⟩ := className_of_methodNamed hnamed
  have hinitP : kP.init = .initialized := Cond.initialized_spec (findClass_of_methodNamed hnamed) hkP hini
  obtain ⟨vm₁, X₁, hstep₁⟩ := X.invokestatic hx hown hlink hnamed hmethM hstatic hkP hinitP hy (g := g) hg (argsL := As) (rest := rest) (hn.trans (hlen _ hsigM)) hst hdg
  have hPU : Pc As.toArray (T.setVm vm₁) := hp.2 _ hT X₁.warmed
  generalize As.toArray = a at *
  generalize hUe : T.setVm vm₁ = U at *
  have hUh : U.heap = T.heap := by rw [← hUe]; rfl
  obtain ⟨g1, hg1⟩ : ∃ z, z = ({ g with stack := rest } : JFrame) := ⟨_, rfl⟩
  have hn1 : U.methodNamed? y = some mk := X₁.named hnamed
  have h1 : (headSpec ws rm).pre.before a U = true := atoms_intro fun w hw => hws w hw _ _ X₁.warmed
  have h2 : (Cond.codeWith y bytes maxL ret hh).before a U = true := hws _ hcw _ _ X₁.warmed
  have h3 : (Cond.initialized y.cls).before a U = true := word_at X₁.warmed (Or.inl (by first | rfl | simp [Cond.onTables, Cond.keeps, Cond.steady])) hini
  obtain ⟨mk2, methY, cY, hn2, hmY, hcY, -, hlY, -, -, -, -⟩ := Cond.codeWith_spec h2
  cases Option.some.inj (hn2.symm.trans hn1)
  obtain ⟨kY, hkY, -⟩ := className_of_methodNamed hn1
  have hinitY : kY.init = .initialized := Cond.initialized_spec (findClass_of_methodNamed hn1) hkY h3
  have hgm : g1.method = m := by rw [hg1]; exact hg
  have h : At U g1.method c below := by rw [hgm]; exact X₁.here
  have hdg1 : decode c.code g1.pc = .ok (.invokestatic index, 3) := by rw [hg1]; exact hdg
  have hsz1 : g1.locals.size = c.maxLocals := by rw [hg1]; exact hsize.trans hml.symm
  have hW1 : 2 * g1.monitorRoom + (g1.stack.map fun v => v.category).sum ≤ 8 := by rw [hg1]; exact hW
  have h4 : cells + (headSpec ws rm).room.cells ≤ R.cells := by rw [show (headSpec ws rm).room.cells = mc from hrc]; exact hf.1
  have h5 : slots + (headSpec ws rm).room.slots ≤ R.slots := by rw [show (headSpec ws rm).room.slots = ms from hrs]; exact hf.2
  have hlocals9 : 8 + (maxL + 11) + (headSpec ws rm).room.locals ≤ R.locals := hlo
  have hPc : Pc a (U.calling g1 mk a) := hp.1 a U g1 mk hPU
  have happ : (headSpec ws rm).appliesLoose y e.platform (U.calling g1 mk a) = true :=
    Spec.appliesLoose_calling (g := g1) h hdg1 hn1 hkY hinitY (X₁.room_calling (g := g1) (R' := (headSpec ws rm).room) hsz1 hmY hcY hfr (by rw [hlY]; omega) h4 h5) h1
  obtain ⟨mid, hmid⟩ := h.above
  have hfr2 : (U.setTop g1).frames = (.java g1 :: mid) ++ below := by rw [State.frames_setTop' g1 h.top, hmid]; rfl
  obtain ⟨o, s₂, hsteps, -, hend, hq⟩ := Steps.callFree hM p X₁.admits X₁.cas X₁.clock (acts := []) hfr2 happ hPc trivial
  rw [State.frames_setTop' g1 h.top] at hend
  have hq' : Qc a (U.calling g1 mk a) o s₂ ∧ ∃ L, FrameEnd (U.calling g1 mk a) o s₂ L mc ms ∧ ∀ q ∈ L, free q.base := hq
  obtain ⟨hqc, L, hfe, hL⟩ := hq'
  obtain ⟨⟨v, rfl⟩, hW₂, e2, q2', q3', q4', q5', q6'⟩ := id hfe
  obtain ⟨g₀, hg0⟩ := Option.isSome_iff_exists.mp h.top
  obtain ⟨r, hr⟩ := State.topJava?_eq_some.mp hg0
  have hr' : (({ U with heap := s₂.heap, slotsUsed := s₂.slotsUsed } : State).setVm s₂.vm).frames = .java g₀ :: r := hr
  have e3 : s₂ = ({ (U.calling g1 mk a).setFrames s₂.frames with heap := s₂.heap, slotsUsed := s₂.slotsUsed } : State).setVm s₂.vm := by
    have : s₂ = ({ s₂ with vm := (U.calling g1 mk a).vm } : State).setVm s₂.vm := rfl
    rw [e2] at this
    exact this
  obtain ⟨c₂, i₂, len₂, hc₂, hd₂, hf₂⟩ := hend
  have hW' : U.WarmedH s₂.vm := hW₂
  have hcc : c₂ = c := by
    have h9 : s₂.code? g1.method = U.code? g1.method := by
      rw [State.code?_eq, State.code?_eq, hW'.alike.method?]
    exact Option.some.inj (hc₂.symm.trans (h9.trans h.code))
  subst hcc
  have hlen3 : len₂ = 3 := by rw [hdg1] at hd₂; cases hd₂; rfl
  subst hlen3
  have hs₂ : s₂ = (({ U with heap := s₂.heap, slotsUsed := s₂.slotsUsed } : State).setVm s₂.vm).setTop { g1 with pc := g1.pc + 3, stack := v.toList ++ g1.stack } := by
    refine e3.trans ?_
    rw [hf₂, State.calling_eq h.top, State.setFrames_setFrames, State.setTop_of_frames _ hr', hr]
    rfl
  have hsame : U.sameButNew ({ U with heap := s₂.heap, slotsUsed := s₂.slotsUsed } : State) L mc ms := by
    refine ⟨?_, q2', q3', q4', q5', q6'⟩
    obtain ⟨t, ht, -⟩ := State.frames_cons hr
    show ({ U with heap := s₂.heap, slotsUsed := s₂.slotsUsed } : State) = { U.setFrames U.frames with heap := s₂.heap, slotsUsed := s₂.slotsUsed }
    rw [State.setFrames_self ht]
  subst hgm
  refine ⟨v, U.calling g1 mk a, s₂, (({ U with heap := s₂.heap, slotsUsed := s₂.slotsUsed } : State).setVm s₂.vm), L, hUh.trans hT,
    ⟨X₁.admits, X₁.cas, X₁.clock, X₁.frames, X₁.room, X₁.hears, X₁.method, X₁.code, (X₁.here.setHeapUsed s₂.heap s₂.slotsUsed).setVm hW'.alike, X₁.tail, State.WarmedH.trans X₁.warmed hW', X₁.limits, X₁.bytes, X₁.same.trans (hsame.setVm s.vm)⟩,
    hL, rfl, rfl, hqc, fun target ht => hstep₁ _ fun acts => ?_⟩
  rw [doInvoke_state, ← hg1]
  refine hsteps.trans ?_
  rw [hs₂]
  rw [hg1]
  exact ht
end HPR
