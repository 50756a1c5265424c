/-! CATCHING: a call that throws, and the handler of this method that takes it -/
/-- nothing written: the old cells are as they were -/
theorem same_old {s t : State} {cells slots : Nat} (h : s.sameButNew t [] cells slots) : s.heap.size ≤ t.heap.size ∧ ∀ q : Nat, q < s.heap.size → t.heap[q]? = s.heap[q]? := by
  obtain ⟨-, h1, -, -, -, h2⟩ := h
  refine ⟨h1, fun q hq => ?_⟩
  obtain ⟨c', e1, e2, e3, e4⟩ := h2 q s.heap[q] (Array.getElem?_eq_getElem hq)
  rw [e1, Array.getElem?_eq_getElem hq]
  congr 1
  rw [e2]
  have h9 : c'.slots = (s.heap[q]).slots := Array.ext_getElem? (fun i => e4 i (by simp))
  rw [h9]
section CAT
variable {p : Program} {l : Launch} {e : Env} {R : Room} {s : State} {m : MethodId} {args : Array Value} {below : List Frame} {meth : Method} {c : Code} {T : State} {locs : List Loc} {cells slots : Nat}
theorem th_callV {Ex own C : String} {index : Nat} {y : MethodName} {bytes : ByteArray} {maxL n : Nat} {ret : Option FieldType} {rm : Room} {D : va_G} {E : List (ClassId × FieldType)} {w : va_W} {b : Addr} {As rest : List Value} {g : JFrame}
    (X : Stand p l e R s m args below meth c T locs cells slots) (hx : p.tables.exec = Jvm.exec) (hown : s.vm.findClass own = some m.cls) (hM : th Ex l y bytes maxL ret rm D E w (.ref b :: As)) (cw : CallW R s args own C index y bytes maxL ret (wsG y bytes maxL ret) rm 1 6 n)
    (hp : ∀ U : State, U.heap = T.heap → s.WarmedH U.vm → th_P D E w (.ref b :: As) (Value.ref b :: As).toArray U) (hrc : ∃ cellB : Cell, T.heap[b]? = some cellB ∧ cellB.vm.isStatics = false ∧ s.vm.findClass C = some cellB.cls)
    (hg : g.method = m) (hn : As.length = n) (hsize : g.locals.size = c.maxLocals) (hst : g.stack = As.reverse ++ .ref b :: rest) (hW : 2 * g.monitorRoom + (rest.map fun v => v.category).sum ≤ 8) (hdg : decode c.code g.pc = .ok (.invokevirtual index, 3)) (hf : cells + 1 ≤ R.cells ∧ slots + 6 ≤ R.slots) :
    ∃ (q : Addr) (ce : Cell) (T' : State), Stand p l e R s m args below meth c T' locs (cells + 1) (slots + 6) ∧ T'.heap[q]? = some ce ∧ ce.vm = .none ∧ s.vm.findClass Ex = some ce.cls ∧ T.heap.size ≤ T'.heap.size ∧ (∀ z : Nat, z < T.heap.size → T'.heap[z]? = T.heap[z]?) ∧
      Steps p.tables e below (T.setTop g) ((T'.setTop { g with stack := rest }).pushFrame (.throwing q)) := by
  obtain ⟨⟨hrc1, hrs1, hfr, hlo, hws, hcw, hcode, hini, hy, hlen, hlink⟩, hinst, hsel⟩ := cw
  obtain ⟨cellB, hcell, hobj, hcls⟩ := hrc
  obtain ⟨mk, methM, hnamed, hmethM, hstM, habM⟩ := Cond.instanceMethod_spec hinst
  obtain ⟨methM', cM, hmethM', hcM, -, hlM, -, -, -, hsigM⟩ := Cond.code_spec hnamed hcode
  cases hmethM.symm.trans hmethM'
  obtain ⟨c2, r2, m2, q1, q2, q3, q4, kP, hkP, hkPi⟩ := Cond.selects_spec hsel
  cases hcls.symm.trans q1
  cases (State.methodFound?_of_named hnamed hy).symm.trans q2
  cases hnamed.symm.trans q3
  have hselP : selectMethod e.platform s.vm cellB.cls mk = .method mk := by rw [Launch.admits_selectMethod X.admits]; exact q4
  obtain ⟨vm₁, X₁, hstep₁⟩ := X.invokevirtual hx hown hlink hnamed hmethM hstM hkP hkPi hy (a := b) (cell := cellB) hcell
    (fun z h => by rw [h] at hobj; cases hobj) hselP hmethM habM hkP hkPi (g := g) hg (argsL := As) (rest := rest) (hn.trans (hlen _ hsigM)) hst hdg
  have hPU : th_P D E w (.ref b :: As) (Value.ref b :: As).toArray (T.setVm vm₁) := hp _ rfl X₁.warmed
  generalize (Value.ref b :: As).toArray = a at *
  generalize hUe : T.setVm vm₁ = U at *
  have hUh : U.heap = T.heap := by rw [← hUe]; rfl
  obtain ⟨g1, hg1⟩ : ∃ z, z = ({ g with stack := rest } : JFrame) := ⟨_, rfl⟩
  have hn1 : U.methodNamed? y = some mk := X₁.named hnamed
  have h1 : (headSpec (wsG y bytes maxL ret) rm).pre.before a U = true := atoms_intro fun w hw => hws w hw _ _ X₁.warmed
  have h2 : (Cond.code y bytes maxL ret).before a U = true := hws _ hcw _ _ X₁.warmed
  have h3 : (Cond.initialized y.cls).before a U = true := word_at X₁.warmed (Or.inl (by first | rfl | simp [Cond.onTables, Cond.keeps, Cond.steady])) hini
  obtain ⟨methY, cY, hmY, hcY, -, hlY, -, -, -, -⟩ := Cond.code_spec hn1 h2
  obtain ⟨kY, hkY, -⟩ := className_of_methodNamed hn1
  have hinitY : kY.init = .initialized := Cond.initialized_spec (findClass_of_methodNamed hn1) hkY h3
  have hgm : g1.method = m := by rw [hg1]; exact hg
  have h : At U g1.method c below := by rw [hgm]; exact X₁.here
  have hdg1 : decode c.code g1.pc = .ok (.invokevirtual index, 3) := by rw [hg1]; exact hdg
  have hsz1 : g1.locals.size = c.maxLocals := by rw [hg1]; exact hsize
  have hW1 : 2 * g1.monitorRoom + (g1.stack.map fun v => v.category).sum ≤ 8 := by rw [hg1]; exact hW
  have h4 : cells + (headSpec (wsG y bytes maxL ret) rm).room.cells ≤ R.cells := by rw [show (headSpec (wsG y bytes maxL ret) rm).room.cells = 1 from hrc1]; exact hf.1
  have h5 : slots + (headSpec (wsG y bytes maxL ret) rm).room.slots ≤ R.slots := by rw [show (headSpec (wsG y bytes maxL ret) rm).room.slots = 6 from hrs1]; exact hf.2
  have hlocals9 : 8 + (maxL + 11) + (headSpec (wsG y bytes maxL ret) rm).room.locals ≤ R.locals := hlo
  have hPc := th_blind a U g1 mk hPU
  have happ : (headSpec (wsG y bytes maxL ret) rm).appliesLoose y e.platform (U.calling g1 mk a) = true :=
    Spec.appliesLoose_calling (g := g1) h hdg1 hn1 hkY hinitY (X₁.room_calling (g := g1) (R' := (headSpec (wsG y bytes maxL ret) rm).room) hsz1 hmY hcY hfr (by rw [hlY]; omega) h4 h5) h1
  obtain ⟨mid, hmid⟩ := h.above
  have hfr2 : (U.setTop g1).frames = (.java g1 :: mid) ++ below := by rw [State.frames_setTop' g1 h.top, hmid]; rfl
  obtain ⟨o, s₂, hsteps, -, hend, hq⟩ := Steps.callFree hM p X₁.admits X₁.cas X₁.clock (acts := []) hfr2 happ hPc trivial
  rw [State.frames_setTop' g1 h.top] at hend
  have hq' : th_Q Ex a (U.calling g1 mk a) o s₂ := hq
  obtain ⟨q, ce, rfl, hce, hcv, hcl, hW₂, hsm⟩ := hq'
  obtain ⟨g₀, hg0⟩ := Option.isSome_iff_exists.mp h.top
  obtain ⟨r, hr⟩ := State.topJava?_eq_some.mp hg0
  obtain ⟨e2, q2', q3', q4', q5', q6'⟩ := id hsm
  have hr' : (({ U with heap := s₂.heap, slotsUsed := s₂.slotsUsed } : State).setVm s₂.vm).frames = .java g₀ :: r := hr
  have e3 : s₂ = ({ (U.calling g1 mk a).setFrames s₂.frames with heap := s₂.heap, slotsUsed := s₂.slotsUsed } : State).setVm s₂.vm := by
    have : s₂ = ({ s₂ with vm := (U.calling g1 mk a).vm } : State).setVm s₂.vm := rfl
    rw [e2] at this
    exact this
  have hf₂ : s₂.frames = .throwing q :: .java g1 :: U.frames.tail := hend
  have hW' : U.WarmedH s₂.vm := hW₂
  have hs₂ : s₂ = ((({ U with heap := s₂.heap, slotsUsed := s₂.slotsUsed } : State).setVm s₂.vm).setTop g1).pushFrame (.throwing q) := by
    refine e3.trans ?_
    rw [hf₂, State.calling_eq h.top, State.setFrames_setFrames, State.pushFrame, State.frames_setTop _ hr', State.setTop_of_frames _ hr', State.setFrames_setFrames, hr]
    rfl
  have hsame : U.sameButNew ({ U with heap := s₂.heap, slotsUsed := s₂.slotsUsed } : State) [] 1 6 := by
    refine ⟨?_, q2', q3', q4', q5', q6'⟩
    obtain ⟨t, ht, -⟩ := State.frames_cons hr
    show ({ U with heap := s₂.heap, slotsUsed := s₂.slotsUsed } : State) = { U.setFrames U.frames with heap := s₂.heap, slotsUsed := s₂.slotsUsed }
    rw [State.setFrames_self ht]
  have hcl' : s.vm.findClass Ex = some ce.cls := by
    have h9 : U.vm.findClass Ex = some ce.cls := hcl
    rw [X₁.warmed.alike.findClass] at h9
    exact h9
  obtain ⟨o1, o2⟩ := same_old hsame
  have XB := X₁.same.trans (hsame.setVm s.vm)
  rw [List.append_nil] at XB
  subst hgm
  refine ⟨q, ce, (({ U with heap := s₂.heap, slotsUsed := s₂.slotsUsed } : State).setVm s₂.vm),
    ⟨X₁.admits, X₁.cas, X₁.clock, X₁.frames, X₁.room, X₁.hears, X₁.method, X₁.code, (X₁.here.setHeapUsed s₂.heap s₂.slotsUsed).setVm hW'.alike, X₁.tail, State.WarmedH.trans X₁.warmed hW', X₁.limits, X₁.bytes, XB⟩,
    hce, hcv, hcl', by rw [← hUh]; exact o1, fun z hz => by rw [← hUh]; exact o2 z (by rw [hUh]; exact hz), hstep₁ _ fun acts => ?_⟩
  rw [doInvoke_state, ← hg1, ← hs₂]
  exact hsteps
/-- .. and the row x of the table takes it, behind rows that don't -/
theorem kt_V {H : Heap} {A : Nat → Prop} {Q : State → Prop} {pc nL : Nat} {ls : Array Slot} {cc : ByteArray} {Ts : List Cond} {Ex own C nm : String} {index : Nat} {y : MethodName} {bytes : ByteArray} {maxL n : Nat} {ret : Option FieldType} {rm : Room} {D : va_G} {E : List (ClassId × FieldType)} {w : va_W} {b : Addr} {As rest st0 : List Value}
    (S : CallFix p m c cc nL s args Ts own) (hM : th Ex l y bytes maxL ret rm D E w (.ref b :: As)) (cw : CallW R s args own C index y bytes maxL ret (wsG y bytes maxL ret) rm 1 6 n) (hK : va_K D vwCl E s) (hT : TT s) (hU : tU A s s.heap) (hP : va_P D vwCl w H) (hS : va_S A s.heap H locs)
    (hrc : ∃ cellB : Cell, H[b]? = some cellB ∧ cellB.vm.isStatics = false ∧ s.vm.findClass C = some cellB.cls)
    (hn : As.length = n) (hsize : ls.size = nL) (hst : st0 = As.reverse ++ .ref b :: rest) (hW : (rest.map fun v => v.category).sum ≤ 8) (hdg : decode cc pc = .ok (.invokevirtual index, 3)) (hf : cells + 1 ≤ R.cells ∧ slots + 6 ≤ R.slots)
    (pre : List ExceptionTableEntry) (x : ExceptionTableEntry) (suf : List ExceptionTableEntry) (hsplit : c.exceptionTable.toList = pre ++ x :: suf) (hpass : ∀ z ∈ pre, z.catchType ≠ 0 ∧ ∃ nm : String, (Cond.classLink own z.catchType nm).before args s = true ∧ va_Nc Ex nm s) (hxc : covers x pc = true) (h0 : x.catchType ≠ 0)
    (hlink : (Cond.classLink own x.catchType nm).before args s = true) (hcast : (Cond.castable Ex nm).before args s = true)
    (kk : ∀ (q : Addr) (H1 : Heap), H.size ≤ H1.size → (∀ z : Nat, z < H.size → H1[z]? = H[z]?) → W p l e R s m args below meth c H1 locs (cells + 1) (slots + 6) Q (F0 m x.handlerPc ls [.ref q])) : W p l e R s m args below meth c H locs cells slots Q (F0 m pc ls st0) := by
  intro T hTe X
  obtain ⟨hx, hb, hml, hown, -⟩ := S
  subst hTe
  have hp : ∀ U : State, U.heap = T.heap → s.WarmedH U.vm → th_P D E w (.ref b :: As) (Value.ref b :: As).toArray U := fun U hUh hW => ⟨rfl, by rw [hUh]; exact hP, va_K.moved hW.alike hK, hT.warm hW, by
    rw [hUh]
    exact ((hU.kept hS.2.1).narrow (fun _ h => h.elim)).moved hW.alike⟩
  obtain ⟨q, ce, T', X', hce, hcv, hcl, hz1, hz2, st⟩ := th_callV X hx hown hM cw hp hrc (g := F0 m pc ls st0) rfl hn (hsize.trans hml.symm) hst (lv_room hW) (by rw [hb]; exact hdg) hf
  have hpl : e.platform.magicAccessors = ({} : Platform).magicAccessors := by rw [X.admits.platform]
  obtain ⟨c3, c4, hc3, hc4, hasg⟩ := Cond.castable_spec hcast
  cases Option.some.inj (hc3.symm.trans hcl)
  obtain ⟨c5, hc5, hcl5⟩ := Cond.classLink_spec hown hlink e.platform hpl
  cases Option.some.inj (hc4.symm.trans hc5)
  obtain ⟨vm', X2, st2⟩ := X'.thenCaughtThrough q (g := F0 m pc ls rest) rfl st hce (by rw [hcv]; rfl) (by obtain ⟨k9, h9, -⟩ := Vm.findClass_spec hcl; exact ⟨k9, h9⟩) pre x suf hsplit
    (fun z hz => by
      obtain ⟨hz0, nm1, hl1, a8, b8, h1, h2, h3⟩ := hpass z hz
      obtain ⟨c6, hc6, hcl6⟩ := Cond.classLink_spec hown hl1 e.platform hpl
      cases Option.some.inj (h1.symm.trans hcl)
      cases Option.some.inj (h2.symm.trans hc6)
      exact Or.inr ⟨hz0, _, hcl6, h3⟩) hxc (Or.inr ⟨h0, c4, hcl5, hasg⟩)
  obtain ⟨t, a1, b1⟩ := kk q T'.heap hz1 hz2 (T'.setVm vm') rfl X2
  exact ⟨t, st2.trans a1, b1⟩
end CAT
