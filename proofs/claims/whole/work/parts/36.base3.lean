/-! BASE 3: new cells: contracts of constructors and of methods that make cells -/
def nw_v {T : Type} (l : Launch) (y : MethodName) (cc : ByteArray) (maxL : Nat) (ret : Option FieldType) (rm : Room) (D : va_G) (E : List (ClassId × FieldType)) (w : va_W) (as : List Value) (post : T → Prop) (wf : T → va_W) : Prop := ∀ sz, Met l y (wsG y cc maxL ret) rm (xw_P D E w as sz) (va_Qv post (fun u t => va_P D vwCl (wf u) t.heap ∧ va_D (va_A w sz) (wf u)) (va_A w sz)) rm.cells rm.slots (va_A w sz)
def nw_r {T : Type} (l : Launch) (y : MethodName) (cc : ByteArray) (maxL : Nat) (ret : Option FieldType) (rm : Room) (D : va_G) (E : List (ClassId × FieldType)) (w : va_W) (as : List Value) (post : T → Prop) (wf : T → Nat → va_W) : Prop := ∀ sz, Met l y (wsG y cc maxL ret) rm (xw_P D E w as sz) (va_Qr post (fun u a t => va_P D vwCl (wf u a) t.heap ∧ va_D (va_A w sz) (wf u a)) (va_A w sz)) rm.cells rm.slots (va_A w sz)
section NWH
variable {l : Launch} {y : MethodName} {rm : Room} {D : va_G} {E : List (ClassId × FieldType)} {w : va_W} {as : List Value} {cc : ByteArray} {maxL : Nat} {ret : Option FieldType}
theorem nw_head {Qc : (Nat → Prop) → Array Value → State → Outcome → State → Prop} (hy : plainName y.cls = true) (hlen : (lg_sl as).length ≤ maxL)
    (body : ∀ (p : Program) (e : Env) (s : State) (m : MethodId) (below : List Frame) (meth : Method) (c : Code) (ls : Array Slot) (A : Nat → Prop), p.tables.exec = Jvm.exec → c.code = cc → meth.sig.returnType = ret → meth.locks = false → c.maxLocals = maxL → s.vm.findClass y.cls = some m.cls → meth.name = y.name →
      (∀ x ∈ GW, x.before as.toArray s = true) → XK s → va_K D vwCl E s → (∀ q : Nat, s.heap.size ≤ q → A q) → va_P D vwCl w s.heap → va_D A w → va_S A s.heap s.heap [] → lv_has ls maxL (lv_args 0 as) →
      W p l e (headSpec (wsG y cc maxL ret) rm).room s m as.toArray below meth c s.heap [] 0 0 (MQ below (Qc A) as.toArray s rm.cells rm.slots A) (F0 m 0 ls [])) :
    ∀ sz, Met l y (wsG y cc maxL ret) rm (xw_P D E w as sz) (Qc (va_A w sz)) rm.cells rm.slots (va_A w sz) := by
  intro sz
  refine Met.ofW (cc := cc) (maxL := maxL) (ret := ret) hy rfl ?_
  intro p e s m args below meth c s₁ B hml hv
  obtain ⟨rfl, hsz, hP, hK, hD0, hX⟩ := hv
  subst hsz
  have hts0 := atoms_spec (ws := wsG y cc maxL ret) B.pre
  have hts : ∀ x ∈ GW, x.before as.toArray s = true := fun x h => hts0 x (List.mem_cons_of_mem _ h)
  have hown : s.vm.findClass y.cls = some m.cls := findClass_of_methodNamed B.named
  have hin : meth.name = y.name := (name_of_methodNamed B.named B.method).1
  have hl := lv_entry as (n := maxL) hlen
  rw [lg_entry_eq]
  exact body p e s m below meth c _ _ B.exec B.bytes B.returns B.notSynchronized hml hown hin hts hX hK (fun q h => Or.inr h) hP (hD0.self (sz := s.heap.size)) va_S.rf hl
theorem nw_headv {T : Type} {post : T → Prop} {wf : T → va_W} (hy : plainName y.cls = true) (hlen : (lg_sl as).length ≤ maxL)
    (body : ∀ (p : Program) (e : Env) (s : State) (m : MethodId) (below : List Frame) (meth : Method) (c : Code) (ls : Array Slot) (A : Nat → Prop), p.tables.exec = Jvm.exec → c.code = cc → meth.sig.returnType = ret → meth.locks = false → c.maxLocals = maxL → s.vm.findClass y.cls = some m.cls → meth.name = y.name →
      (∀ x ∈ GW, x.before as.toArray s = true) → XK s → va_K D vwCl E s → (∀ q : Nat, s.heap.size ≤ q → A q) → va_P D vwCl w s.heap → va_D A w → va_S A s.heap s.heap [] → lv_has ls maxL (lv_args 0 as) →
      W p l e (headSpec (wsG y cc maxL ret) rm).room s m as.toArray below meth c s.heap [] 0 0 (MQ below (va_Qv post (fun u t => va_P D vwCl (wf u) t.heap ∧ va_D A (wf u)) A) as.toArray s rm.cells rm.slots A) (F0 m 0 ls [])) : nw_v l y cc maxL ret rm D E w as post wf :=
  nw_head (Qc := fun A => va_Qv post (fun u t => va_P D vwCl (wf u) t.heap ∧ va_D A (wf u)) A) hy hlen body
theorem nw_headr {T : Type} {post : T → Prop} {wf : T → Nat → va_W} (hy : plainName y.cls = true) (hlen : (lg_sl as).length ≤ maxL)
    (body : ∀ (p : Program) (e : Env) (s : State) (m : MethodId) (below : List Frame) (meth : Method) (c : Code) (ls : Array Slot) (A : Nat → Prop), p.tables.exec = Jvm.exec → c.code = cc → meth.sig.returnType = ret → meth.locks = false → c.maxLocals = maxL → s.vm.findClass y.cls = some m.cls → meth.name = y.name →
      (∀ x ∈ GW, x.before as.toArray s = true) → XK s → va_K D vwCl E s → (∀ q : Nat, s.heap.size ≤ q → A q) → va_P D vwCl w s.heap → va_D A w → va_S A s.heap s.heap [] → lv_has ls maxL (lv_args 0 as) →
      W p l e (headSpec (wsG y cc maxL ret) rm).room s m as.toArray below meth c s.heap [] 0 0 (MQ below (va_Qr post (fun u a t => va_P D vwCl (wf u a) t.heap ∧ va_D A (wf u a)) A) as.toArray s rm.cells rm.slots A) (F0 m 0 ls [])) : nw_r l y cc maxL ret rm D E w as post wf :=
  nw_head (Qc := fun A => va_Qr post (fun u a t => va_P D vwCl (wf u a) t.heap ∧ va_D A (wf u a)) A) hy hlen body
end NWH
theorem va_RA_n {U : State} {cA : ClassId} {ty : FieldType} (h : va_RA U cA ty) : U.vm.findClass ("[" ++ ty.toString) = some cA := by
  cases ty with
  | object C => obtain ⟨_, _, _, _, _, h4⟩ := h; exact h4
  | _ => exact h
section NWW
variable {p : Program} {l : Launch} {e : Env} {R : Room} {s : State} {m : MethodId} {args : Array Value} {below : List Frame} {meth : Method} {c : Code} {H H0 : Heap} {locs : List Loc} {cells slots mc ms : Nat} {Q : State → Prop} {pc : Nat} {ls : Array Slot} {cc : ByteArray} {D : va_G} {A : Nat → Prop} {T : Type} {pv : T → Prop} {wf : T → va_W} {wr : T → Nat → va_W} {tys : List (ClassId × FieldType)} {ws : va_W} {rest : List Value}
theorem nw_retv (hx : p.tables.exec = Jvm.exec) (hb : c.code = cc) (hr : meth.sig.returnType = none) (hlocks : meth.locks = false) (hd : decode cc pc = .ok (.return_, 1)) (hc : cells ≤ mc) (hs : slots ≤ ms) (hS : va_S A s.heap H locs) (u : T) (hv : pv u) (hP : va_P D vwCl (wf u) H) (hD : va_D A (wf u)) :
    W p l e R s m args below meth c H locs cells slots (MQ below (va_Qv pv (fun u t => va_P D vwCl (wf u) t.heap ∧ va_D A (wf u)) A) args s mc ms A) (F0 m pc ls []) :=
  W.widen hc hs (W.vret hx hb hr (fun t ht _ => ⟨⟨u, rfl, hv, by show va_P D vwCl (wf u) t.heap; rw [ht]; exact hP, hD⟩, hS.F ht⟩) hS.2.2 hd hlocks)
theorem nw_retr {C : String} {v : Nat} (hx : p.tables.exec = Jvm.exec) (hb : c.code = cc) (hr : meth.sig.returnType = some (.object C)) (hlocks : meth.locks = false) (hd : decode cc pc = .ok (.areturn, 1)) (hc : cells ≤ mc) (hs : slots ≤ ms) (hS : va_S A s.heap H locs) (u : T) (hv : pv u) (hP : va_P D vwCl (wr u v) H) (hD : va_D A (wr u v)) :
    W p l e R s m args below meth c H locs cells slots (MQ below (va_Qr pv (fun u a t => va_P D vwCl (wr u a) t.heap ∧ va_D A (wr u a)) A) args s mc ms A) (F0 m pc ls [.ref v]) :=
  W.widen hc hs (W.aret hx hb hr (Or.inl ⟨_, rfl⟩) (Or.inr ⟨_, rfl⟩) (fun t ht _ => ⟨⟨u, v, rfl, hv, by show va_P D vwCl (wr u v) t.heap; rw [ht]; exact hP, hD⟩, hS.F ht⟩) hS.2.2 hd hlocks)
theorem nw_newa {atype : ArrayType} {ty : FieldType} {n i : Nat} {ci : ClassId} (hx : p.tables.exec = Jvm.exec) (hb : c.code = cc) (harr : (Cond.arrayClass (newarray.typeOf atype)).before args s = true) (hty : newarray.typeOf atype = ty) (hK : va_K D vwCl tys s) (hi : tys[i]? = some (ci, ty)) (hP : va_P D vwCl ws H) (hD : va_D A ws) (hS : va_S A H0 H locs) (hA : ∀ q, H0.size ≤ q → A q)
    (hn : n < 2 ^ 31) (hdv : defaultValue ty = .int (nI 0)) (hbytes : n * componentBytes ty ≤ 536870912) (hcells : cells + 1 ≤ R.cells) (hslots : slots + n ≤ R.slots) (hdg : decode cc pc = .ok (.newarray atype, 2))
    (kk : ∀ (q : Nat) (H1 : Heap), va_P D vwCl (ws ++ [(q, .inl (ci, n, .inl (fun _ => nI 0)))]) H1 → va_D A (ws ++ [(q, .inl (ci, n, .inl (fun _ => nI 0)))]) → va_S A H0 H1 locs → W p l e R s m args below meth c H1 locs (cells + 1) (slots + n) Q (F0 m (pc + 2) ls (.ref q :: rest))) : W p l e R s m args below meth c H locs cells slots Q (F0 m pc ls (.int (nI n) :: rest)) := by
  refine va_newa (N' := n) (a0 := (n, .inl (fun _ => nI 0))) hx hb harr hty hK hP hD hS hA (fun cA => by rw [hdv]; rfl) (fun h => by rw [n_lt0 hn] at h; omega) (nI_clamp hn) hbytes hcells hslots hdg (fun q cA H1 hK1 hP1 hD1 hS1 => ?_)
  have h1 := va_RA_n (hK.2 i _ hi).2
  have h2 := va_RA_n (hK1.2 tys.length (cA, ty) (by simp)).2
  have h3 : cA = ci := Option.some.inj (h2.symm.trans h1)
  subst h3
  exact kk q H1 hP1 hD1 hS1
theorem nw_newq {own C : String} {index n i : Nat} {ci : ClassId} (hx : p.tables.exec = Jvm.exec) (hb : c.code = cc) (hown : s.vm.findClass own = some m.cls) (hclink : (Cond.classLink own index C).before args s = true) (hover : va_AO C s) (hK : va_K D vwCl tys s) (hi : tys[i]? = some (ci, .object C)) (hP : va_P D vwCl ws H) (hD : va_D A ws) (hS : va_S A H0 H locs) (hA : ∀ q, H0.size ≤ q → A q)
    (hn : n < 2 ^ 20) (hcells : cells + 1 ≤ R.cells) (hslots : slots + n ≤ R.slots) (hdg : decode cc pc = .ok (.anewarray index, 3))
    (kk : ∀ (q : Nat) (H1 : Heap), va_P D vwCl (ws ++ [(q, .inl (ci, n, .inr (.inr (.inr (.inr (fun _ => none))))))]) H1 → va_D A (ws ++ [(q, .inl (ci, n, .inr (.inr (.inr (.inr (fun _ => none))))))]) → va_S A H0 H1 locs → W p l e R s m args below meth c H1 locs (cells + 1) (slots + n) Q (F0 m (pc + 3) ls (.ref q :: rest))) : W p l e R s m args below meth c H locs cells slots Q (F0 m pc ls (.int (nI n) :: rest)) := by
  refine va_newq (N' := n) hx hb hown hclink hover hK hP hD hS hA (fun h => by rw [n_lt0 (by omega)] at h; omega) (nI_clamp (by omega)) (by omega) hcells hslots hdg (fun q cA H1 hK1 hP1 hD1 hS1 => ?_)
  have h1 := va_RA_n (hK.2 i _ hi).2
  have h2 := va_RA_n (hK1.2 tys.length (cA, .object C) (by simp)).2
  have h3 : cA = ci := Option.some.inj (h2.symm.trans h1)
  subst h3
  exact kk q H1 hP1 hD1 hS1
end NWW
section NWC
variable {p : Program} {l : Launch} {e : Env} {R : Room} {s : State} {m : MethodId} {args : Array Value} {below : List Frame} {meth : Method} {c : Code} {H : Heap} {locs : List Loc} {cells slots : Nat} {Q : State → Prop} {pc : Nat} {ls : Array Slot}
  {y : MethodName} {bytes cc : ByteArray} {maxL nL n index : Nat} {ret : Option FieldType} {rm : Room} {Ts : List Cond} {own C host : String} {b : Addr} {As rest st0 : List Value} {D : va_G} {E : List (ClassId × FieldType)} {w : va_W} {A : Nat → Prop} {T : Type} {pv : T → Prop} {wf : T → va_W} {wr : T → Nat → va_W}
theorem kn_vI (S : CallFix p m c cc nL s args Ts own) (hM : nw_v l y bytes maxL none rm D E w (.ref b :: As) pv wf) (cw : CallB R s args own index y bytes maxL none (wsG y bytes maxL none) rm rm.cells rm.slots n ∧ y.name = "<init>" ∧ (Cond.instanceMethod y).before args s = true) (hK : va_K D vwCl E s) (hX : XK s) (hP : va_P D vwCl w H) (hD : va_D A w) (hS : va_S A s.heap H locs) (hA : ∀ q, s.heap.size ≤ q → A q)
    (hn : As.length = n) (hsize : ls.size = nL) (hst : st0 = As.reverse ++ .ref b :: rest) (hW : (rest.map fun v => v.category).sum ≤ 8) (hdg : decode cc pc = .ok (.invokespecial index, 3)) (hf : cells + rm.cells ≤ R.cells ∧ slots + rm.slots ≤ R.slots)
    (kk : ∀ (u : T) (H1 : Heap) (locs1 : List Loc), pv u → va_P D vwCl (wf u) H1 → va_D (va_A w H.size) (wf u) → (∀ q : Nat, q < H.size → ¬ va_A w H.size q → H1[q]? = H[q]?) → va_S A s.heap H1 locs1 → W p l e R s m args below meth c H1 locs1 (cells + rm.cells) (slots + rm.slots) Q (F0 m (pc + 3) ls rest)) : W p l e R s m args below meth c H locs cells slots Q (F0 m pc ls st0) := by
  have hF := rw_S hD hS hA
  refine va_callv (va_runI (g := F0 m pc ls st0) (rest := rest) S (hM H.size) cw ⟨xw_blind, xw_pre hP hK hX hD _⟩ rfl hn hsize hst (lv_room hW) hdg hf) hS (fun q _ h => hF q h) hF (fun u t H1 locs1 ht hvm hp hB hz hk hS1 => ?_)
  rw [ht] at hB
  exact kk u H1 locs1 hp hB.1 hB.2 hk hS1
theorem kn_vN (S : CallFix p m c cc nL s args Ts own) (hM : nw_v l y bytes maxL none rm D E w (.ref b :: As) pv wf) (cw : va_CN R s args own index y host bytes maxL none (wsG y bytes maxL none) rm rm.cells rm.slots n ∧ y.name = "<init>" ∧ (Cond.instanceMethod y).before args s = true) (hK : va_K D vwCl E s) (hX : XK s) (hP : va_P D vwCl w H) (hD : va_D A w) (hS : va_S A s.heap H locs) (hA : ∀ q, s.heap.size ≤ q → A q)
    (hn : As.length = n) (hsize : ls.size = nL) (hst : st0 = As.reverse ++ .ref b :: rest) (hW : (rest.map fun v => v.category).sum ≤ 8) (hdg : decode cc pc = .ok (.invokespecial index, 3)) (hf : cells + rm.cells ≤ R.cells ∧ slots + rm.slots ≤ R.slots)
    (kk : ∀ (u : T) (H1 : Heap) (locs1 : List Loc), pv u → va_P D vwCl (wf u) H1 → va_D (va_A w H.size) (wf u) → (∀ q : Nat, q < H.size → ¬ va_A w H.size q → H1[q]? = H[q]?) → va_S A s.heap H1 locs1 → W p l e R s m args below meth c H1 locs1 (cells + rm.cells) (slots + rm.slots) Q (F0 m (pc + 3) ls rest)) : W p l e R s m args below meth c H locs cells slots Q (F0 m pc ls st0) := by
  have hF := rw_S hD hS hA
  refine va_callv (va_runIN (g := F0 m pc ls st0) (rest := rest) S (hM H.size) cw ⟨xw_blind, xw_pre hP hK hX hD _⟩ rfl hn hsize hst (lv_room hW) hdg hf) hS (fun q _ h => hF q h) hF (fun u t H1 locs1 ht hvm hp hB hz hk hS1 => ?_)
  rw [ht] at hB
  exact kk u H1 locs1 hp hB.1 hB.2 hk hS1
/-- a virtual call that makes cells -/
theorem kn_vV (S : CallFix p m c cc nL s args Ts own) (hM : nw_v l y bytes maxL ret rm D E w (.ref b :: As) pv wf) (cw : CallW R s args own C index y bytes maxL ret (wsG y bytes maxL ret) rm rm.cells rm.slots n) (hK : va_K D vwCl E s) (hX : XK s) (hP : va_P D vwCl w H) (hD : va_D A w) (hS : va_S A s.heap H locs) (hA : ∀ q, s.heap.size ≤ q → A q)
    (hrc : ∃ cellB : Cell, H[b]? = some cellB ∧ cellB.vm.isStatics = false ∧ s.vm.findClass C = some cellB.cls)
    (hn : As.length = n) (hsize : ls.size = nL) (hst : st0 = As.reverse ++ .ref b :: rest) (hW : (rest.map fun v => v.category).sum ≤ 8) (hdg : decode cc pc = .ok (.invokevirtual index, 3)) (hf : cells + rm.cells ≤ R.cells ∧ slots + rm.slots ≤ R.slots)
    (kk : ∀ (u : T) (H1 : Heap) (locs1 : List Loc), pv u → va_P D vwCl (wf u) H1 → va_D (va_A w H.size) (wf u) → (∀ q : Nat, q < H.size → ¬ va_A w H.size q → H1[q]? = H[q]?) → va_S A s.heap H1 locs1 → W p l e R s m args below meth c H1 locs1 (cells + rm.cells) (slots + rm.slots) Q (F0 m (pc + 3) ls rest)) : W p l e R s m args below meth c H locs cells slots Q (F0 m pc ls st0) := by
  have hF := rw_S hD hS hA
  refine va_callv (va_runV (g := F0 m pc ls st0) (rest := rest) S (hM H.size) cw ⟨xw_blind, hrc, xw_pre hP hK hX hD _⟩ rfl hn hsize hst (lv_room hW) hdg hf) hS (fun q _ h => hF q h) hF (fun u t H1 locs1 ht hvm hp hB hz hk hS1 => ?_)
  rw [ht] at hB
  exact kk u H1 locs1 hp hB.1 hB.2 hk hS1
/-- a static call whose answer is a new cell; it is handed no cells -/
theorem kn_rS (S : CallFix p m c cc nL s args Ts own) (hM : nw_r l y bytes maxL ret rm D E [] As pv wr) (cw : CallB R s args own index y bytes maxL ret (wsG y bytes maxL ret) rm rm.cells rm.slots n ∧ (Cond.static y).before args s = true) (hK : va_K D vwCl E s) (hX : XK s) (hS : va_S A s.heap H locs) (hA : ∀ q, s.heap.size ≤ q → A q)
    (hn : As.length = n) (hsize : ls.size = nL) (hst : st0 = As.reverse ++ rest) (hW : (rest.map fun v => v.category).sum ≤ 8) (hdg : decode cc pc = .ok (.invokestatic index, 3)) (hf : cells + rm.cells ≤ R.cells ∧ slots + rm.slots ≤ R.slots)
    (kk : ∀ (u : T) (a : Nat) (H1 : Heap) (locs1 : List Loc), pv u → va_P D vwCl (wr u a) H1 → va_D (va_A [] H.size) (wr u a) → (∀ q : Nat, q < H.size → H1[q]? = H[q]?) → va_S A s.heap H1 locs1 → W p l e R s m args below meth c H1 locs1 (cells + rm.cells) (slots + rm.slots) Q (F0 m (pc + 3) ls (.ref a :: rest))) : W p l e R s m args below meth c H locs cells slots Q (F0 m pc ls st0) := by
  have hD : va_D A [] := ⟨fun _ _ _ _ h => (by cases h), fun _ _ h => (by cases h)⟩
  have hF := rw_S hD hS hA
  have hno : ∀ q, q < H.size → ¬ va_A [] H.size q := fun q h z => by
    rcases z with ⟨_, _, h2⟩ | h2
    · cases h2
    · omega
  refine va_callr (va_runS (g := F0 m pc ls st0) (rest := rest) S (hM H.size) cw ⟨xw_blind, xw_pre va_nil hK hX hD _⟩ rfl hn hsize hst (lv_room hW) hdg hf) hS (fun q _ h => hF q h) hF (fun u ra t H1 locs1 ht hvm hp hB hz hk hS1 => ?_)
  rw [ht] at hB
  exact kk u ra H1 locs1 hp hB.1 hB.2 (fun q h => hk q h (hno q h)) hS1
end NWC
