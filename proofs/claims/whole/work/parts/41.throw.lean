/-! THROWING: a method that, in the case at hand, throws a new exception and has written nothing -/
def exN : List String := ["java/lang/RuntimeException", "java/lang/Exception"]
def zT (n d : String) (A : Nat → Prop) (U : State) (H : Heap) : Prop := ∃ (c : ClassId) (k : Class) (i : Nat) (f : Field) (a : Nat) (cell : Cell) (v : Value), U.vm.findClass "java/lang/Throwable" = some c ∧ U.fieldFound? "java/lang/Throwable" n d = some (c, k, i, f) ∧ f.isStatic = true ∧ k.statics = some a ∧ H[a]? = some cell ∧ cell.vm.isStatics = true ∧ cell.cls = c ∧ f.slot < cell.slots.size ∧ k.staticTypes[f.slot]? = some f.type ∧ cell.slots[f.slot]? = some v ∧ v.isRef = true ∧ ¬ A a
theorem zT.moved {n d : String} {A : Nat → Prop} {u U : State} {H : Heap} (hvm : u.vm.Alike U.vm) (h : zT n d A u H) : zT n d A U H := by
  obtain ⟨c, k, i, f, a, cell, v, h1, h2, h3, h4, h5, h6, h7, h8, h9, h10⟩ := h
  obtain ⟨k', hi', he⟩ := State.fieldFound?_setVm hvm h2
  exact ⟨c, k', i, f, a, cell, v, by rw [hvm.findClass]; exact h1, hi', h3, by rw [he]; exact h4, h5, h6, h7, h8, by rw [he]; exact h9, h10⟩
theorem zT.kept {n d : String} {A : Nat → Prop} {U : State} {H H1 : Heap} (h : zT n d A U H) (hq : ∀ a : Nat, a < H.size → ¬ A a → H1[a]? = H[a]?) : zT n d A U H1 := by
  obtain ⟨c, k, i, f, a, cell, v, h1, h2, h3, h4, h5, h6, h7, h8, h9, h10, h11, h12⟩ := h
  exact ⟨c, k, i, f, a, cell, v, h1, h2, h3, h4, by rw [hq a (Array.getElem?_eq_some_iff.mp h5).1 h12]; exact h5, h6, h7, h8, h9, h10, h11, h12⟩
theorem zT.narrow {n d : String} {A B : Nat → Prop} {U : State} {H : Heap} (h : zT n d A U H) (hAB : ∀ q, B q → A q) : zT n d B U H := by
  obtain ⟨c, k, i, f, a, cell, v, h1, h2, h3, h4, h5, h6, h7, h8, h9, h10, h11, h12⟩ := h
  exact ⟨c, k, i, f, a, cell, v, h1, h2, h3, h4, h5, h6, h7, h8, h9, h10, h11, fun z => h12 (hAB _ z)⟩
theorem zT.lays {n d : String} {A : Nat → Prop} {s : State} {args : Array Value} (h : zT n d A s s.heap) : (Cond.laysStatic "java/lang/Throwable" n d).before args s = true := by
  obtain ⟨c, k, i, f, a, cell, v, h1, h2, h3, h4, h5, h6, h7, h8, h9, -⟩ := h
  show (Cond.laysStatic "java/lang/Throwable" n d).holds args s none s [] = true
  exact Cond.laysStatic_of h1 h2 h3 h4 h5 h6 h7 h8 h9
theorem zT.ref {n d : String} {A : Nat → Prop} {s : State} {args : Array Value} (h : zT n d A s s.heap) : (Cond.isRef (.static "java/lang/Throwable" n d)).before args s = true := by
  obtain ⟨c, k, i, f, a, cell, v, h1, h2, h3, h4, h5, h6, h7, h8, h9, h10, h11, -⟩ := h
  have he : (Term.static "java/lang/Throwable" n d).eval args s none [] s = some v := by
    simp [Term.eval, State.fieldNamed?, h2, h3, h4, h5, h6, h10]
  simp only [Cond.before, Cond.holds, Cond.value, he]
  cases v <;> simp_all [Value.isRef]
theorem zT.of {args : Array Value} {s : State} {n d : String} {A : Nat → Prop} (hl : (Cond.laysStatic "java/lang/Throwable" n d).before args s = true) (hini : (Cond.initialized "java/lang/Throwable").before args s = true) (h : (Cond.isRef (.static "java/lang/Throwable" n d)).before args s = true) (hA : ∀ a : Nat, a < s.heap.size → ¬ A a) : zT n d A s s.heap := by
  obtain ⟨c, k, i, f, a, cell, h1, h2, h3, h4, h5, h6, h7, h8, h9⟩ := Cond.laysStatic_spec hl
  have hz : ∃ v : Value, va_Z "java/lang/Throwable" n d v A s s.heap ∧ v.isRef = true := by
    rcases va_Zqof hl hini h hA with hz | ⟨t, hz⟩
    · exact ⟨_, hz, rfl⟩
    · exact ⟨_, hz, rfl⟩
  obtain ⟨v, ⟨cf, kf, fi, f', a', cell', g1, g2, g3, g4, g5, g6, g7, g8⟩, hv⟩ := hz
  cases h2.symm.trans g1
  cases h4.symm.trans g4
  cases h5.symm.trans g5
  exact ⟨c, k, i, f, a, cell, v, h1, h2, h3, h4, h5, h6, h7, h8, h9, g7, hv, g8⟩
def IAE : String := "java/lang/IllegalArgumentException"
def ISE : String := "java/lang/IllegalStateException"
def NTL : List Cond := [.declares ⟨"java/lang/RuntimeException", "<init>", "(Ljava/lang/String;)V"⟩, .declares ⟨"java/lang/Exception", "<init>", "(Ljava/lang/String;)V"⟩, .declares ⟨"java/lang/Throwable", "<init>", "(Ljava/lang/String;)V"⟩, .castable "java/lang/IllegalArgumentException" "java/lang/IllegalArgumentException", .castable "java/lang/IllegalStateException" "java/lang/IllegalStateException"]
def STL : List (Nat × String) := [(38, "no such slot"), (52, "the slot is wide or has a device"), (66, "no such slot, part or device"), (71, "the slot hasn't that part, or it is taken"), (91, "no such address"), (105, "no such address, or no byte"), (111, "no such slot, part or address")]
def TT (U : State) : Prop := (∀ w ∈ NTL, va_Nw w U) ∧ (∀ x ∈ STL, ∃ sa, vk_R "SlotScreen" x.1 x.2 sa U) ∧ va_Nc "java/lang/IllegalStateException" "java/lang/IllegalArgumentException" U
theorem TT.warm {s U : State} (hW : s.WarmedH U.vm) (h : TT s) : TT U := by
  refine ⟨fun w hw => ?_, fun x hx => ?_, va_Nc.moved hW.alike h.2.2⟩
  · have hz := h.1 w hw
    unfold NTL at hw
    simp only [List.mem_cons, List.not_mem_nil, or_false] at hw
    rcases hw with rfl | rfl | rfl | rfl | rfl
    · exact va_Nw.warmD hW hz
    · exact va_Nw.warmD hW hz
    · exact va_Nw.warmD hW hz
    · exact va_Nw.warmC hW hz
    · exact va_Nw.warmC hW hz
  · obtain ⟨sa, h2⟩ := h.2.1 x hx
    exact ⟨sa, vk_R.warm hW h2⟩
theorem TT.same {u U : State} (h : u.vm = U.vm) (hx : TT u) : TT U := by
  refine ⟨fun w hw => ?_, fun x hx2 => ?_, va_Nc.moved (by rw [h]; exact Vm.Alike.refl _) hx.2.2⟩
  · have hz := hx.1 w hw
    refine va_Nw.same ?_ h hz
    unfold NTL at hw
    simp only [List.mem_cons, List.not_mem_nil, or_false] at hw
    rcases hw with rfl | rfl | rfl | rfl | rfl <;> rfl
  · obtain ⟨sa, h2⟩ := hx.2.1 x hx2
    exact ⟨sa, vk_R.same h.symm h2⟩
def tU (A : Nat → Prop) (U : State) (H : Heap) : Prop := zT "UNASSIGNED_STACK" "[Ljava/lang/StackTraceElement;" A U H ∧ zT "SUPPRESSED_SENTINEL" "Ljava/util/List;" A U H
theorem tU.moved {A : Nat → Prop} {u U : State} {H : Heap} (hvm : u.vm.Alike U.vm) (h : tU A u H) : tU A U H := ⟨h.1.moved hvm, h.2.moved hvm⟩
theorem tU.kept {A : Nat → Prop} {U : State} {H H1 : Heap} (h : tU A U H) (hq : ∀ a : Nat, a < H.size → ¬ A a → H1[a]? = H[a]?) : tU A U H1 := ⟨h.1.kept hq, h.2.kept hq⟩
theorem tU.narrow {A B : Nat → Prop} {U : State} {H : Heap} (h : tU A U H) (hAB : ∀ q, B q → A q) : tU B U H := ⟨h.1.narrow hAB, h.2.narrow hAB⟩
/-- the words of a throw -/
def owL : List Cond := NTL ++ [.laysStatic "java/lang/Throwable" "UNASSIGNED_STACK" "[Ljava/lang/StackTraceElement;", .laysStatic "java/lang/Throwable" "SUPPRESSED_SENTINEL" "Ljava/util/List;", .isRef (.static "java/lang/Throwable" "UNASSIGNED_STACK" "[Ljava/lang/StackTraceElement;"), .isRef (.static "java/lang/Throwable" "SUPPRESSED_SENTINEL" "Ljava/util/List;")]
theorem ow_use {args : Array Value} {s : State} {A : Nat → Prop} (hT : TT s) (hU : tU A s s.heap) : ∀ w ∈ owL, w.before args s = true := by
  intro w hw
  unfold owL at hw
  rcases List.mem_append.mp hw with h | h
  · refine va_Nw.use ?_ (hT.1 w h)
    unfold NTL at h
    simp only [List.mem_cons, List.not_mem_nil, or_false] at h
    rcases h with rfl | rfl | rfl | rfl | rfl <;> rfl
  · simp only [List.mem_cons, List.not_mem_nil, or_false] at h
    rcases h with rfl | rfl | rfl | rfl
    · exact hU.1.lays
    · exact hU.2.lays
    · exact hU.1.ref
    · exact hU.2.ref
set_option maxRecDepth 1000000 in
theorem ow_a : ∀ w ∈ Jvm.Bundle.ownAtoms "SlotScreen" 40 "java/lang/IllegalArgumentException" exN, (goodWord w = true ∧ w ∈ lw_tbl) ∨ w ∈ owL := by decide +kernel
set_option maxRecDepth 1000000 in
theorem ow_s : ∀ w ∈ Jvm.Bundle.ownAtoms "SlotScreen" 54 "java/lang/IllegalStateException" exN, (goodWord w = true ∧ w ∈ lw_tbl) ∨ w ∈ owL := by decide +kernel
theorem ow_all {args : Array Value} {s : State} {A : Nat → Prop} {L : List Cond} (h : ∀ w ∈ L, (goodWord w = true ∧ w ∈ lw_tbl) ∨ w ∈ owL) (hts : ∀ x ∈ GW, x.before args s = true) (hT : TT s) (hU : tU A s s.heap) : ∀ w ∈ L, w.before args s = true := by
  intro w hw
  rcases h w hw with h1 | h1
  · exact hts w (List.mem_filter.mpr ⟨h1.2, h1.1⟩)
  · exact ow_use hT hU w h1
def th_Q (Ex : String) : Array Value → State → Outcome → State → Prop := fun _ st o t => ∃ (q : Addr) (ce : Cell), o = .threw q ∧ t.heap[q]? = some ce ∧ ce.vm = .none ∧ st.vm.findClass Ex = some ce.cls ∧ st.WarmedH t.vm ∧ st.sameButNew ({ t with vm := st.vm } : State) [] 1 6
def th_MQ (Ex : String) (below : List Frame) (a : Array Value) (s : State) : State → Prop := fun t => ∃ o, t.status = .running ∧ Ended t below o ∧ th_Q Ex a s o t
def th_P (D : va_G) (E : List (ClassId × FieldType)) (w : va_W) (as : List Value) : Array Value → State → Prop := va_Pc as (fun U => va_P D vwCl w U.heap ∧ va_K D vwCl E U ∧ TT U ∧ tU (fun _ => False) U U.heap)
def th (Ex : String) (l : Launch) (y : MethodName) (cc : ByteArray) (maxL : Nat) (ret : Option FieldType) (rm : Room) (D : va_G) (E : List (ClassId × FieldType)) (w : va_W) (as : List Value) : Prop := MetFree l y (headSpec (wsG y cc maxL ret) rm) (th_P D E w as) (fun _ _ _ _ _ => True) (th_Q Ex)
theorem th_blind {D : va_G} {E : List (ClassId × FieldType)} {w : va_W} {as : List Value} : FrameBlind (th_P D E w as) := fun a U g mk q => ⟨q.1, q.2.1, va_K.moved (u := U) (U := U.calling g mk a) (Vm.Alike.refl U.vm) q.2.2.1, TT.same (u := U) (U := U.calling g mk a) rfl q.2.2.2.1, tU.moved (u := U) (U := U.calling g mk a) (Vm.Alike.refl U.vm) q.2.2.2.2⟩
theorem th_head {Ex : String} {l : Launch} {y : MethodName} {rm : Room} {D : va_G} {E : List (ClassId × FieldType)} {w : va_W} {as : List Value} {cc : ByteArray} {maxL : Nat} {ret : Option FieldType} (hy : plainName y.cls = true) (hlen : (lg_sl as).length ≤ maxL)
    (body : ∀ (p : Program) (e : Env) (s : State) (m : MethodId) (below : List Frame) (meth : Method) (c : Code) (ls : Array Slot), p.tables.exec = Jvm.exec → c.code = cc → meth.locks = false → c.maxLocals = maxL → s.vm.findClass y.cls = some m.cls → (∀ x ∈ c.exceptionTable.toList, False) →
      (∀ x ∈ GW, x.before as.toArray s = true) → TT s → tU (fun _ => False) s s.heap → va_P D vwCl w s.heap → va_K D vwCl E s → lv_has ls maxL (lv_args 0 as) →
      W p l e (headSpec (wsG y cc maxL ret) rm).room s m as.toArray below meth c s.heap [] 0 0 (th_MQ Ex below as.toArray s) (F0 m 0 ls [])) : th Ex l y cc maxL ret rm D E w as := by
  refine MetFree.of_bodyS (code := cc) (maxLocals := maxL) (ret := ret) hy ?_ ?_
  · intro args s m h hn
    obtain ⟨meth, c, h1, h2, h3, h4, h5, h6, -, -⟩ := Cond.code_spec hn (atoms_spec (ws := wsG y cc maxL ret) h _ List.mem_cons_self)
    exact ⟨meth, c, h1, h2, h3, h4, h5, h6⟩
  · intro p e s m args below meth c s₁ B hml hv _
    obtain ⟨rfl, hP, hK, hT, hU⟩ := hv
    have hh0 : s₁.heap = s.heap := by rw [B.state]; rfl
    have hts0 := atoms_spec (ws := wsG y cc maxL ret) B.pre
    have hts : ∀ x ∈ GW, x.before as.toArray s = true := fun x h => hts0 x (List.mem_cons_of_mem _ h)
    have hown : s.vm.findClass y.cls = some m.cls := findClass_of_methodNamed B.named
    have htab : ∀ x ∈ c.exceptionTable.toList, False := by
      obtain ⟨meth9, c9, h1, h2, -, -, -, -, h7, -⟩ := Cond.code_spec B.named (hts0 _ List.mem_cons_self)
      cases Option.some.inj (h1.symm.trans B.method)
      cases Option.some.inj (h2.symm.trans (Stand.of_body B).code)
      intro x hx
      rw [Array.isEmpty_iff.mp h7] at hx
      cases hx
    have hl := lv_entry as (n := maxL) hlen
    have K := body p e s m below meth c _ B.exec B.bytes B.notSynchronized hml hown htab hts hT hU hP hK hl
    rw [← lg_entry_eq] at K
    obtain ⟨t, a1, o, b1, b2, b3⟩ := K s₁ hh0 (Stand.of_body B)
    exact ⟨t, o, a1, b1, b2, b3⟩
section THR
variable {p : Program} {l : Launch} {e : Env} {R : Room} {s : State} {m : MethodId} {args : Array Value} {below : List Frame} {meth : Method} {c : Code}
theorem th_throw {cc : ByteArray} {pc : Nat} {ls : Array Slot} {rest : List Value} {cls text : String} {ik is ic sa : Nat} (hx : p.tables.exec = Jvm.exec) (hb : c.code = cc) (hl : l.stackTraces = false) (hown : s.vm.findClass "SlotScreen" = some m.cls) (hcls : Jvm.Bundle.fit cls = true)
    (hk : (Cond.classLink "SlotScreen" ik cls).before args s = true) (hini : (Cond.initialized cls).before args s = true) (hstr : vk_R "SlotScreen" is text sa s) (h : ∀ w ∈ Jvm.Bundle.ownAtoms "SlotScreen" ic cls exN, w.before args s = true) (hsize : ls.size = c.maxLocals)
    (d0 : decode cc pc = .ok (.new ik, 3)) (d3 : decode cc (pc + 3) = .ok (.dup, 1)) (d4 : decode cc (pc + 4) = .ok (.ldc is, 2)) (d6 : decode cc (pc + 6) = .ok (.invokespecial ic, 3)) (d9 : decode cc (pc + 9) = .ok (.athrow, 1))
    (htab : ∀ x ∈ c.exceptionTable.toList, False) (hRf : 5 < R.frames) (hRl : (rest.map fun v => v.category).sum + 82 ≤ R.locals) (hRc : 1 ≤ R.cells) (hRs : 6 ≤ R.slots) (hlocks : meth.locks = false) :
    W p l e R s m args below meth c s.heap [] 0 0 (th_MQ cls below args s) (F0 m pc ls rest) := by
  subst hb
  intro T hT X
  have htr : e.platform.stackTraces = false := (show e.platform.stackTraces = l.stackTraces by rw [X.admits.platform]).trans hl
  have hins : (Cond.instantiable cls 6).before args s = true := h _ (by simp [Jvm.Bundle.ownAtoms])
  obtain ⟨vm₁, cX, kX, hfX, hkX, -, -, X₁, st1⟩ := X.newCold hx (own := "SlotScreen") (C := cls) (index := ik) (n := 6) hown hk hins hini (g := F0 m pc ls rest) rfl d0 (by omega) (by omega)
  have hcat : (Value.ref T.heap.size).category = 1 := rfl
  generalize hT1 : (T.setVm vm₁).pushCell { cls := cX, slots := kX.instanceTypes.map defaultValue, vm := .none } = T1 at X₁ st1
  have hcellA : T1.heap[T.heap.size]? = some (Jvm.freshCell cX kX) := by rw [← hT1]; exact State.heap_pushCell_size _ _
  have hn : ∀ n ∈ exN, Jvm.Bundle.fit n = true := by decide
  obtain ⟨U, hsteps, hrun, hend, hW, hsame, ce, hce, hO⟩ := X₁.ctorThrowS hx htr (own := "SlotScreen") (cls := cls) (names := exN) (ic := ic) hown hcls hn h (fun x hx => nomatch hx) hfX hkX hcellA (by rw [hT]; exact Nat.le_refl _) (msg := .ref sa) rfl
    (g := { method := m, pc := pc + 6, locals := ls, stack := .ref sa :: .ref T.heap.size :: .ref T.heap.size :: rest, locked := none }) rfl hsize rfl rfl (rest := rest) rfl d6 d9 (fun x hx => (htab x hx).elim) (by show 2 + 3 < _; omega) (by simp only [List.map_cons, List.sum_cons, hcat]; show 2 * 0 + _ + (13 * (2 + 1) + 42) ≤ _; omega) hlocks
  refine ⟨U, ?_, .threw T.heap.size, hrun, hend, T.heap.size, ce, rfl, hce, hO.vm, hO.cls, hW, hsame⟩
  refine st1 _ ?_
  show Steps p.tables e below (T1.setTop { method := m, pc := pc + 3, locals := ls, stack := .ref T.heap.size :: rest, locked := none }) _
  jvm_step X₁.here [X₁.here.top, hx, d3, Value.category]
  exact X₁.ldcString hx (own := "SlotScreen") (text := text) (index := is) (a := sa) hown hstr.1 hstr.2 (g := { method := m, pc := pc + 4, locals := ls, stack := .ref T.heap.size :: .ref T.heap.size :: rest, locked := none }) rfl d4 _ hsteps
end THR
