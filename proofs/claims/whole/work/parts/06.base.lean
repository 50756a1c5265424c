/-! BASE: numbers and rows that the walks use; contracts with one exact answer (ro_: nothing is written; rw_: the world is changed in place) -/
theorem ss_sl : ∀ n, n < 32 → ((nI n &&& 31).toBitVec.smod 32).toNat = n := by decide +kernel
theorem ss_shr {n k : Nat} (hn : n < 2 ^ 31) (hk : k < 32) : nI n >>> (nI k &&& 31) = nI (n / 2 ^ k) := pk_shrN hn _ k (ss_sl k hk)
theorem ss_shl {n k : Nat} (hk : k < 32) (h : n * 2 ^ k < 2 ^ 32) : nI n <<< (nI k &&& 31) = nI (n * 2 ^ k) := pk_shlN _ k (ss_sl k hk) h
theorem ss_or (a b : Nat) : nI a ||| nI b = nI (a ||| b) := by
  apply Int32.toBitVec_inj.1
  show BitVec.ofNat 32 a ||| BitVec.ofNat 32 b = BitVec.ofNat 32 (a ||| b)
  apply BitVec.eq_of_getLsbD_eq
  intro i hi
  simp [hi]
def ss_up (f : Nat → Nat) (k v : Nat) : Nat → Nat := fun j => if j = k then v else f j
theorem ss_up_s (f : Nat → Nat) (k v : Nat) : ss_up f k v k = v := by simp [ss_up]
theorem ss_up_n (f : Nat → Nat) {k j : Nat} (v : Nat) (h : j ≠ k) : ss_up f k v j = f j := by simp [ss_up, h]
theorem ss_upI (f : Nat → Nat) {k v : Nat} (h : k < 2 ^ 31) : upd (fun j => nI (f j)) (nI k).toNatClampNeg (nI v) = fun j => nI (ss_up f k v j) := by
  funext j
  rw [nI_clamp h]
  unfold upd ss_up
  split <;> rfl
theorem ss_up_lt {f : Nat → Nat} {N : Nat} (h : ∀ j, f j < N) {k v : Nat} (hv : v < N) : ∀ j, ss_up f k v j < N := by
  intro j
  unfold ss_up
  split
  · exact hv
  · exact h j
/-- a boolean's int -/
def bI (P : Prop) [Decidable P] : Int32 := if P then 1 else 0
theorem bI_t {P : Prop} [Decidable P] (h : P) : nI 1 = bI P := by simp [bI, h]; decide
theorem bI_f {P : Prop} [Decidable P] (h : ¬ P) : nI 0 = bI P := by simp [bI, h]; decide
theorem bI_0 {P : Prop} [Decidable P] : bI P = 0 ↔ ¬ P := by
  unfold bI
  split
  · rename_i h; exact ⟨fun z => absurd z (by decide), fun z => absurd h z⟩
  · rename_i h; exact ⟨fun _ => h, fun _ => rfl⟩
theorem zn_lt {x : Int32} {b : Nat} (hb : b < 2 ^ 31) : x < nI b ↔ x.toInt < (b : Int) := by rw [Int32.lt_iff_toInt_lt, nI_toInt hb]
theorem zn_le {x : Int32} {b : Nat} (hb : b < 2 ^ 31) : x ≤ nI b ↔ x.toInt ≤ (b : Int) := by rw [Int32.le_iff_toInt_le, nI_toInt hb]
theorem nz_lt {x : Int32} {b : Nat} (hb : b < 2 ^ 31) : nI b < x ↔ (b : Int) < x.toInt := by rw [Int32.lt_iff_toInt_lt, nI_toInt hb]
theorem nz_le {x : Int32} {b : Nat} (hb : b < 2 ^ 31) : nI b ≤ x ↔ (b : Int) ≤ x.toInt := by rw [Int32.le_iff_toInt_le, nI_toInt hb]
theorem zn_eq {x : Int32} {b : Nat} (hb : b < 2 ^ 31) : x = nI b ↔ x.toInt = (b : Int) := by rw [← Int32.toInt_inj, nI_toInt hb]
theorem z_lt0 {x : Int32} : x < 0 ↔ x.toInt < 0 := by rw [Int32.lt_iff_toInt_lt, Int32.toInt_zero]
theorem z_ge0 {x : Int32} : 0 ≤ x ↔ 0 ≤ x.toInt := by rw [Int32.le_iff_toInt_le, Int32.toInt_zero]
theorem z_gt0 {x : Int32} : 0 < x ↔ 0 < x.toInt := by rw [Int32.lt_iff_toInt_lt, Int32.toInt_zero]
theorem z_le0 {x : Int32} : x ≤ 0 ↔ x.toInt ≤ 0 := by rw [Int32.le_iff_toInt_le, Int32.toInt_zero]
theorem z_eq0 {x : Int32} : x = 0 ↔ x.toInt = 0 := by rw [← Int32.toInt_inj, Int32.toInt_zero]
theorem n_eq0 {a : Nat} (h : a < 2 ^ 31) : nI a = 0 ↔ a = 0 := by rw [z_eq0, nI_toInt h]; omega
theorem n_gt0 {a : Nat} (h : a < 2 ^ 31) : 0 < nI a ↔ 0 < a := by rw [z_gt0, nI_toInt h]; omega
theorem n_le0 {a : Nat} (h : a < 2 ^ 31) : nI a ≤ 0 ↔ a = 0 := by rw [z_le0, nI_toInt h]; omega
theorem n_lt0 {a : Nat} (h : a < 2 ^ 31) : nI a < 0 ↔ a < 0 := by rw [z_lt0, nI_toInt h]; omega
theorem n_ge0 {a : Nat} (h : a < 2 ^ 31) : 0 ≤ nI a ↔ 0 ≤ a := by rw [z_ge0, nI_toInt h]; omega
theorem n_ix {x : Int32} {n : Nat} (h0 : 0 ≤ x.toInt) (h : x.toInt < (n : Int)) : ∃ j : Nat, j < n ∧ x = nI j := by
  have h1 := Int32.toInt_lt x
  refine ⟨x.toInt.toNat, by omega, Int32.toInt_inj.mp ?_⟩
  rw [nI_toInt (by omega)]
  omega
def ss_so (b s : Nat) : Nat := if s / b % 2 = 1 then s else s + b
section SSB
variable {p : Program} {l : Launch} {e : Env} {R : Room} {s : State} {m : MethodId} {args : Array Value} {below : List Frame} {meth : Method} {c : Code} {H : Heap} {locs : List Loc} {cells slots : Nat} {Q : State → Prop} {pc : Nat} {ls : Array Slot} {st : List Value} {cc : ByteArray}
theorem ss_rt {x y : Int32} (h : x = y) (k : W p l e R s m args below meth c H locs cells slots Q (F0 m pc ls (.int y :: st))) : W p l e R s m args below meth c H locs cells slots Q (F0 m pc ls (.int x :: st)) := by
  subst h; exact k
theorem ss_rl {x y : Int64} (h : x = y) (k : W p l e R s m args below meth c H locs cells slots Q (F0 m pc ls (.long y :: st))) : W p l e R s m args below meth c H locs cells slots Q (F0 m pc ls (.long x :: st)) := by
  subst h; exact k
theorem ss_rv {x y : Value} (h : x = y) (k : W p l e R s m args below meth c H locs cells slots Q (F0 m pc ls (y :: st))) : W p l e R s m args below meth c H locs cells slots Q (F0 m pc ls (x :: st)) := by
  subst h; exact k
end SSB
/-- a method's words: its code, and all that may be handed on -/
abbrev wsG (y : MethodName) (cc : ByteArray) (n : Nat) (ret : Option FieldType) : List Cond := Cond.code y cc n ret :: GW
abbrev kT (k : Nat → ClassId) : List (ClassId × FieldType) := [(k 0, .int), (k 1, .boolean), (k 2, .object "SlotScreen$Device"), (k 3, .long)]
theorem gV {own C : String} {i n : Nat} {y : MethodName} {b : ByteArray} {ret : Option FieldType} (h1 : Cond.methodLink own i y ∈ GW) (h2 : Cond.instanceMethod y ∈ GW) (h3 : Cond.selects C y y ∈ GW) (h4 : Cond.initialized C ∈ GW) (h5 : Cond.code y b n ret ∈ GW) : GoodIn GW (wsV own i C y (wsG y b n ret)) := by
  intro w hw
  have hm : w ∈ GW := by
    unfold wsV at hw
    rcases List.mem_append.mp hw with h | h
    · simp only [List.mem_cons, List.not_mem_nil, or_false] at h
      rcases h with rfl | rfl | rfl | rfl <;> assumption
    · rcases List.mem_cons.mp h with rfl | h <;> assumption
  exact ⟨hm, gw_good w hm⟩
theorem gS {own : String} {i n : Nat} {y : MethodName} {b : ByteArray} {ret : Option FieldType} (h1 : Cond.methodLink own i y ∈ GW) (h2 : Cond.static y ∈ GW) (h4 : Cond.initialized y.cls ∈ GW) (h5 : Cond.code y b n ret ∈ GW) : GoodIn GW (va_wsS own i y (wsG y b n ret)) := by
  intro w hw
  have hm : w ∈ GW := by
    unfold va_wsS at hw
    rcases List.mem_append.mp hw with h | h
    · simp only [List.mem_cons, List.not_mem_nil, or_false] at h
      rcases h with rfl | rfl | rfl <;> assumption
    · rcases List.mem_cons.mp h with rfl | h <;> assumption
  exact ⟨hm, gw_good w hm⟩
def ro_P (D : va_G) (E : List (ClassId × FieldType)) (w : va_W) (as : List Value) : Array Value → State → Prop := va_Pc as (fun U => va_P D vwCl w U.heap ∧ va_K D vwCl E U)
def ro_i (l : Launch) (y : MethodName) (cc : ByteArray) (maxL : Nat) (ret : Option FieldType) (rm : Room) (D : va_G) (E : List (ClassId × FieldType)) (w : va_W) (as : List Value) (r : Int32) : Prop := Met l y (wsG y cc maxL ret) rm (ro_P D E w as) (vp_Si (fun x => x = r)) 0 0 (fun _ => False)
def ro_q (l : Launch) (y : MethodName) (cc : ByteArray) (maxL : Nat) (ret : Option FieldType) (rm : Room) (D : va_G) (E : List (ClassId × FieldType)) (w : va_W) (as : List Value) (r : Option Nat) : Prop := Met l y (wsG y cc maxL ret) rm (ro_P D E w as) (va_Sq (fun x => x = r)) 0 0 (fun _ => False)
def rw_P (D : va_G) (E : List (ClassId × FieldType)) (w : va_W) (as : List Value) (sz : Nat) : Array Value → State → Prop := va_Pc as (fun U => U.heap.size = sz ∧ va_P D vwCl w U.heap ∧ va_K D vwCl E U ∧ va_D (fun _ => True) w)
/-- an answer and a world behind it, both named by u -/
def rw_Qi {T : Type} (D : va_G) (post : Int32 → T → Prop) (wf : T → va_W) (A : Nat → Prop) : Array Value → State → Outcome → State → Prop := va_Qi post (fun u t => va_P D vwCl (wf u) t.heap) A
def rw_Qv {T : Type} (D : va_G) (post : T → Prop) (wf : T → va_W) (A : Nat → Prop) : Array Value → State → Outcome → State → Prop := va_Qv post (fun u t => va_P D vwCl (wf u) t.heap) A
def rw_i {T : Type} (l : Launch) (y : MethodName) (cc : ByteArray) (maxL : Nat) (ret : Option FieldType) (rm : Room) (D : va_G) (E : List (ClassId × FieldType)) (w : va_W) (as : List Value) (post : Int32 → T → Prop) (wf : T → va_W) : Prop := ∀ sz, Met l y (wsG y cc maxL ret) rm (rw_P D E w as sz) (rw_Qi D post wf (va_A w sz)) 0 0 (va_A w sz)
def rw_v {T : Type} (l : Launch) (y : MethodName) (cc : ByteArray) (maxL : Nat) (ret : Option FieldType) (rm : Room) (D : va_G) (E : List (ClassId × FieldType)) (w : va_W) (as : List Value) (post : T → Prop) (wf : T → va_W) : Prop := ∀ sz, Met l y (wsG y cc maxL ret) rm (rw_P D E w as sz) (rw_Qv D post wf (va_A w sz)) 0 0 (va_A w sz)
theorem ro_blind {D : va_G} {E : List (ClassId × FieldType)} {w : va_W} {as : List Value} : FrameBlind (ro_P D E w as) := fun a U g mk q => ⟨q.1, q.2.1, va_K.moved (u := U) (U := U.calling g mk a) (Vm.Alike.refl U.vm) q.2.2⟩
theorem rw_blind {D : va_G} {E : List (ClassId × FieldType)} {w : va_W} {as : List Value} {sz : Nat} : FrameBlind (rw_P D E w as sz) := fun a U g mk q => ⟨q.1, q.2.1, q.2.2.1, va_K.moved (u := U) (U := U.calling g mk a) (Vm.Alike.refl U.vm) q.2.2.2.1, q.2.2.2.2⟩
theorem ro_pre {D : va_G} {E : List (ClassId × FieldType)} {w : va_W} {s : State} {H : Heap} (hP : va_P D vwCl w H) (hK : va_K D vwCl E s) (as : List Value) : ∀ U : State, U.heap = H → s.WarmedH U.vm → ro_P D E w as as.toArray U := fun U hU hW => ⟨rfl, by rw [hU]; exact hP, va_K.moved hW.alike hK⟩
theorem rw_pre {D : va_G} {E : List (ClassId × FieldType)} {w : va_W} {s : State} {H : Heap} {A : Nat → Prop} (hP : va_P D vwCl w H) (hK : va_K D vwCl E s) (hD : va_D A w) (as : List Value) : ∀ U : State, U.heap = H → s.WarmedH U.vm → rw_P D E w as H.size as.toArray U := fun U hU hW => ⟨rfl, by rw [hU], by rw [hU]; exact hP, va_K.moved hW.alike hK, hD.weaken (fun _ _ _ _ => trivial)⟩
/-- the same addresses, other contents: still apart -/
theorem rw_same {A : Nat → Prop} {w w' : va_W} (hD : va_D A w) (h : w'.map Prod.fst = w.map Prod.fst) : va_D A w' := by
  have at' : ∀ (k : Nat) (q : Nat × va_E), w'[k]? = some q → ∃ r : Nat × va_E, w[k]? = some r ∧ r.1 = q.1 := by
    intro k q hq
    have h1 : (w'.map Prod.fst)[k]? = some q.1 := by rw [List.getElem?_map, hq]; rfl
    rw [h, List.getElem?_map] at h1
    cases hw : w[k]? with
    | none => rw [hw] at h1; cases h1
    | some r => rw [hw] at h1; exact ⟨r, rfl, Option.some.inj h1⟩
  refine ⟨fun i j x y hx hy hxy => ?_, fun k q hq => ?_⟩
  · obtain ⟨x1, h1, e1⟩ := at' i x hx
    obtain ⟨y1, h2, e2⟩ := at' j y hy
    exact hD.1 i j x1 y1 h1 h2 (by rw [e1, e2]; exact hxy)
  · obtain ⟨r, h1, e1⟩ := at' k q hq
    rw [← e1]
    exact hD.2 k r h1
/-- behind a call on the whole world -/
theorem rw_S {A : Nat → Prop} {w : va_W} {H : Heap} (hD : va_D A w) {H0 : Heap} {locs : List Loc} (hS : va_S A H0 H locs) (hA : ∀ q, H0.size ≤ q → A q) : ∀ q, va_A w H.size q → A q := by
  intro q h
  rcases h with ⟨k, e, h⟩ | h
  · exact hD.2 k (q, e) h
  · exact hA q (Nat.le_trans hS.1 h)
/-- the cells of a world, some of them handed to a callee that changed them in place; who isn't handed stays -/
theorem rw_fr {A : Nat → Prop} {D : va_G} {cl : List vw_C} {ws wc w1 ws' : va_W} {H H1 : Heap} (hP : va_P D cl ws H) (hD : va_D A ws) (hc : ∀ q ∈ wc, q ∈ ws)
    (hk : ∀ q : Nat, q < H.size → ¬ va_A wc H.size q → H1[q]? = H[q]?) (hP1 : va_P D cl w1 H1) (hin : ∀ q ∈ ws', q ∈ w1 ∨ (q ∈ ws ∧ q ∉ wc)) : va_P D cl ws' H1 := by
  intro k q hq
  rcases hin q (List.mem_of_getElem? hq) with h | ⟨h, hn⟩
  · obtain ⟨i, hi⟩ := List.getElem?_of_mem h
    exact hP1 i q hi
  · obtain ⟨i, hi⟩ := List.getElem?_of_mem h
    have hat := hP i q hi
    refine hat.kept (hk q.1 hat.lt ?_)
    intro hA
    rcases hA with ⟨j, e, hj⟩ | hA
    · have hm := List.mem_of_getElem? hj
      obtain ⟨j2, hj2⟩ := List.getElem?_of_mem (hc _ hm)
      have he := hD.1 i j2 q (q.1, e) hi hj2 rfl
      subst he
      rw [hi] at hj2
      have h9 := Option.some.inj hj2
      rw [← h9] at hm
      exact hn hm
    · exact absurd hat.lt (by omega)
section SSH
variable {l : Launch} {y : MethodName} {rm : Room} {D : va_G} {E : List (ClassId × FieldType)} {w w' : va_W} {as : List Value} {r : Int32} {cc : ByteArray} {maxL : Nat} {ret : Option FieldType}
/-- the head of a reading method's contract -/
theorem ro_head {Qc : Array Value → State → Outcome → State → Prop} (hy : plainName y.cls = true) (hlen : (lg_sl as).length ≤ maxL)
    (body : ∀ (p : Program) (e : Env) (s : State) (m : MethodId) (below : List Frame) (meth : Method) (c : Code) (ls : Array Slot), p.tables.exec = Jvm.exec → c.code = cc → meth.sig.returnType = ret → meth.locks = false → c.maxLocals = maxL → s.vm.findClass y.cls = some m.cls →
      (∀ x ∈ GW, x.before as.toArray s = true) → va_P D vwCl w s.heap → va_K D vwCl E s → lv_has ls maxL (lv_args 0 as) →
      W p l e (headSpec (wsG y cc maxL ret) rm).room s m as.toArray below meth c s.heap [] 0 0 (MQ below Qc as.toArray s 0 0 (fun _ => False)) (F0 m 0 ls [])) :
    Met l y (wsG y cc maxL ret) rm (ro_P D E w as) Qc 0 0 (fun _ => False) := by
  refine Met.ofW (cc := cc) (maxL := maxL) (ret := ret) hy rfl ?_
  intro p e s m args below meth c s₁ B hml hv
  obtain ⟨rfl, hP, hK⟩ := hv
  have hts0 := atoms_spec (ws := wsG y cc maxL ret) B.pre
  have hts : ∀ x ∈ GW, x.before as.toArray s = true := fun x h => hts0 x (List.mem_cons_of_mem _ h)
  have hown : s.vm.findClass y.cls = some m.cls := findClass_of_methodNamed B.named
  have hl := lv_entry as (n := maxL) hlen
  rw [lg_entry_eq]
  exact body p e s m below meth c _ B.exec B.bytes B.returns B.notSynchronized hml hown hts hP hK hl
/-- .. of a writing one -/
theorem rw_head {Qc : (Nat → Prop) → Array Value → State → Outcome → State → Prop} (hy : plainName y.cls = true) (hlen : (lg_sl as).length ≤ maxL)
    (body : ∀ (p : Program) (e : Env) (s : State) (m : MethodId) (below : List Frame) (meth : Method) (c : Code) (ls : Array Slot) (A : Nat → Prop), p.tables.exec = Jvm.exec → c.code = cc → meth.sig.returnType = ret → meth.locks = false → c.maxLocals = maxL → s.vm.findClass y.cls = some m.cls →
      (∀ x ∈ GW, x.before as.toArray s = true) → va_K D vwCl E s → (∀ q : Nat, s.heap.size ≤ q → A q) → va_P D vwCl w s.heap → va_D A w → va_S A s.heap s.heap [] → lv_has ls maxL (lv_args 0 as) →
      W p l e (headSpec (wsG y cc maxL ret) rm).room s m as.toArray below meth c s.heap [] 0 0 (MQ below (Qc A) as.toArray s 0 0 A) (F0 m 0 ls [])) :
    ∀ sz, Met l y (wsG y cc maxL ret) rm (rw_P D E w as sz) (Qc (va_A w sz)) 0 0 (va_A w sz) := by
  intro sz
  refine Met.ofW (cc := cc) (maxL := maxL) (ret := ret) hy rfl ?_
  intro p e s m args below meth c s₁ B hml hv
  obtain ⟨rfl, hsz, hP, hK, hD0⟩ := hv
  subst hsz
  have hts0 := atoms_spec (ws := wsG y cc maxL ret) B.pre
  have hts : ∀ x ∈ GW, x.before as.toArray s = true := fun x h => hts0 x (List.mem_cons_of_mem _ h)
  have hown : s.vm.findClass y.cls = some m.cls := findClass_of_methodNamed B.named
  have hl := lv_entry as (n := maxL) hlen
  rw [lg_entry_eq]
  exact body p e s m below meth c _ _ B.exec B.bytes B.returns B.notSynchronized hml hown hts hK (fun q h => Or.inr h) hP (hD0.self (sz := s.heap.size)) va_S.rf hl
theorem ro_headi {r : Int32} (hy : plainName y.cls = true) (hlen : (lg_sl as).length ≤ maxL)
    (body : ∀ (p : Program) (e : Env) (s : State) (m : MethodId) (below : List Frame) (meth : Method) (c : Code) (ls : Array Slot), p.tables.exec = Jvm.exec → c.code = cc → meth.sig.returnType = ret → meth.locks = false → c.maxLocals = maxL → s.vm.findClass y.cls = some m.cls →
      (∀ x ∈ GW, x.before as.toArray s = true) → va_P D vwCl w s.heap → va_K D vwCl E s → lv_has ls maxL (lv_args 0 as) →
      W p l e (headSpec (wsG y cc maxL ret) rm).room s m as.toArray below meth c s.heap [] 0 0 (MQ below (vp_Si (fun x => x = r)) as.toArray s 0 0 (fun _ => False)) (F0 m 0 ls [])) : ro_i l y cc maxL ret rm D E w as r := ro_head hy hlen body
theorem ro_headq {r : Option Nat} (hy : plainName y.cls = true) (hlen : (lg_sl as).length ≤ maxL)
    (body : ∀ (p : Program) (e : Env) (s : State) (m : MethodId) (below : List Frame) (meth : Method) (c : Code) (ls : Array Slot), p.tables.exec = Jvm.exec → c.code = cc → meth.sig.returnType = ret → meth.locks = false → c.maxLocals = maxL → s.vm.findClass y.cls = some m.cls →
      (∀ x ∈ GW, x.before as.toArray s = true) → va_P D vwCl w s.heap → va_K D vwCl E s → lv_has ls maxL (lv_args 0 as) →
      W p l e (headSpec (wsG y cc maxL ret) rm).room s m as.toArray below meth c s.heap [] 0 0 (MQ below (va_Sq (fun x => x = r)) as.toArray s 0 0 (fun _ => False)) (F0 m 0 ls [])) : ro_q l y cc maxL ret rm D E w as r := ro_head hy hlen body
theorem rw_headi {T : Type} {post : Int32 → T → Prop} {wf : T → va_W} (hy : plainName y.cls = true) (hlen : (lg_sl as).length ≤ maxL)
    (body : ∀ (p : Program) (e : Env) (s : State) (m : MethodId) (below : List Frame) (meth : Method) (c : Code) (ls : Array Slot) (A : Nat → Prop), p.tables.exec = Jvm.exec → c.code = cc → meth.sig.returnType = ret → meth.locks = false → c.maxLocals = maxL → s.vm.findClass y.cls = some m.cls →
      (∀ x ∈ GW, x.before as.toArray s = true) → va_K D vwCl E s → (∀ q : Nat, s.heap.size ≤ q → A q) → va_P D vwCl w s.heap → va_D A w → va_S A s.heap s.heap [] → lv_has ls maxL (lv_args 0 as) →
      W p l e (headSpec (wsG y cc maxL ret) rm).room s m as.toArray below meth c s.heap [] 0 0 (MQ below (rw_Qi D post wf A) as.toArray s 0 0 A) (F0 m 0 ls [])) : rw_i l y cc maxL ret rm D E w as post wf := rw_head (Qc := rw_Qi D post wf) hy hlen body
theorem rw_headv {T : Type} {post : T → Prop} {wf : T → va_W} (hy : plainName y.cls = true) (hlen : (lg_sl as).length ≤ maxL)
    (body : ∀ (p : Program) (e : Env) (s : State) (m : MethodId) (below : List Frame) (meth : Method) (c : Code) (ls : Array Slot) (A : Nat → Prop), p.tables.exec = Jvm.exec → c.code = cc → meth.sig.returnType = ret → meth.locks = false → c.maxLocals = maxL → s.vm.findClass y.cls = some m.cls →
      (∀ x ∈ GW, x.before as.toArray s = true) → va_K D vwCl E s → (∀ q : Nat, s.heap.size ≤ q → A q) → va_P D vwCl w s.heap → va_D A w → va_S A s.heap s.heap [] → lv_has ls maxL (lv_args 0 as) →
      W p l e (headSpec (wsG y cc maxL ret) rm).room s m as.toArray below meth c s.heap [] 0 0 (MQ below (rw_Qv D post wf A) as.toArray s 0 0 A) (F0 m 0 ls [])) : rw_v l y cc maxL ret rm D E w as post wf := rw_head (Qc := rw_Qv D post wf) hy hlen body
end SSH
theorem va_nil {D : va_G} {cl : List vw_C} {H : Heap} : va_P D cl [] H := fun _ _ h => by cases h
theorem nb_bI {P : Prop} [Decidable P] : narrow .boolean (.int (bI P)) = .int (bI P) := by
  unfold bI
  split <;> decide +kernel
section SSR
variable {p : Program} {l : Launch} {e : Env} {R : Room} {s : State} {m : MethodId} {args : Array Value} {below : List Frame} {meth : Method} {c : Code} {H : Heap} {locs : List Loc} {pc : Nat} {ls : Array Slot} {cc : ByteArray} {D : va_G} {A : Nat → Prop} {T : Type} {post : Int32 → T → Prop} {pv : T → Prop} {wf : T → va_W}
theorem ro_reti {v r : Int32} (hx : p.tables.exec = Jvm.exec) (hb : c.code = cc) (hr : meth.sig.returnType = some .int) (hlocks : meth.locks = false) (hd : decode cc pc = .ok (.ireturn, 1)) (hv : v = r) :
    W p l e R s m args below meth c s.heap [] 0 0 (MQ below (vp_Si (fun x => x = r)) args s 0 0 (fun _ => False)) (F0 m pc ls [.int v]) :=
  W.iret hx hb hr (fun t ht _ => ⟨v, rfl, hv, ht⟩) (by simp) hd hlocks
theorem ro_retz {v r : Int32} (hx : p.tables.exec = Jvm.exec) (hb : c.code = cc) (hr : meth.sig.returnType = some .boolean) (hlocks : meth.locks = false) (hd : decode cc pc = .ok (.ireturn, 1)) (hn : narrow .boolean (.int v) = .int v) (hv : v = r) :
    W p l e R s m args below meth c s.heap [] 0 0 (MQ below (vp_Si (fun x => x = r)) args s 0 0 (fun _ => False)) (F0 m pc ls [.int v]) :=
  W.zret hx hb hr hn (fun t ht _ => ⟨v, rfl, hv, ht⟩) (by simp) hd hlocks
theorem ro_retq {r : Option Nat} {C : String} {v : Option Nat} (hx : p.tables.exec = Jvm.exec) (hb : c.code = cc) (hr : meth.sig.returnType = some (.object C)) (hlocks : meth.locks = false) (hd : decode cc pc = .ok (.areturn, 1)) (hv : v = r) :
    W p l e R s m args below meth c s.heap [] 0 0 (MQ below (va_Sq (fun x => x = r)) args s 0 0 (fun _ => False)) (F0 m pc ls [va_rf v]) :=
  W.aret hx hb hr (Or.inl ⟨_, rfl⟩) (va_rf_or _) (fun t ht _ => ⟨v, rfl, hv, ht⟩) (by simp) hd hlocks
theorem rw_reti {v : Int32} (hx : p.tables.exec = Jvm.exec) (hb : c.code = cc) (hr : meth.sig.returnType = some .int) (hlocks : meth.locks = false) (hd : decode cc pc = .ok (.ireturn, 1)) (hS : va_S A s.heap H locs) (u : T) (hv : post v u) (hP : va_P D vwCl (wf u) H) :
    W p l e R s m args below meth c H locs 0 0 (MQ below (rw_Qi D post wf A) args s 0 0 A) (F0 m pc ls [.int v]) :=
  W.iret hx hb hr (fun t ht _ => ⟨⟨v, u, rfl, hv, by show va_P D vwCl (wf u) t.heap; rw [ht]; exact hP⟩, hS.F ht⟩) hS.2.2 hd hlocks
theorem rw_retz {v : Int32} (hx : p.tables.exec = Jvm.exec) (hb : c.code = cc) (hr : meth.sig.returnType = some .boolean) (hlocks : meth.locks = false) (hd : decode cc pc = .ok (.ireturn, 1)) (hn : narrow .boolean (.int v) = .int v) (hS : va_S A s.heap H locs) (u : T) (hv : post v u) (hP : va_P D vwCl (wf u) H) :
    W p l e R s m args below meth c H locs 0 0 (MQ below (rw_Qi D post wf A) args s 0 0 A) (F0 m pc ls [.int v]) :=
  W.zret hx hb hr hn (fun t ht _ => ⟨⟨v, u, rfl, hv, by show va_P D vwCl (wf u) t.heap; rw [ht]; exact hP⟩, hS.F ht⟩) hS.2.2 hd hlocks
theorem rw_retv (hx : p.tables.exec = Jvm.exec) (hb : c.code = cc) (hr : meth.sig.returnType = none) (hlocks : meth.locks = false) (hd : decode cc pc = .ok (.return_, 1)) (hS : va_S A s.heap H locs) (u : T) (hv : pv u) (hP : va_P D vwCl (wf u) H) :
    W p l e R s m args below meth c H locs 0 0 (MQ below (rw_Qv D pv wf A) args s 0 0 A) (F0 m pc ls []) :=
  W.vret hx hb hr (fun t ht _ => ⟨⟨u, rfl, hv, by show va_P D vwCl (wf u) t.heap; rw [ht]; exact hP⟩, hS.F ht⟩) hS.2.2 hd hlocks
end SSR
section SSC
variable {p : Program} {l : Launch} {e : Env} {R : Room} {s : State} {m : MethodId} {args : Array Value} {below : List Frame} {meth : Method} {c : Code} {H : Heap} {locs : List Loc} {cells slots : Nat} {Q : State → Prop} {pc : Nat} {ls : Array Slot}
  {y : MethodName} {bytes cc : ByteArray} {maxL nL n index : Nat} {ret : Option FieldType} {rm : Room} {Ts : List Cond} {own C : String} {b : Addr} {As rest st0 : List Value} {D : va_G} {E : List (ClassId × FieldType)} {w : va_W} {A : Nat → Prop} {r : Int32} {o : Option Nat} {T : Type} {post : Int32 → T → Prop} {pv : T → Prop} {wf : T → va_W}
theorem kr_iV (S : CallFix p m c cc nL s args Ts own) (hM : ro_i l y bytes maxL ret rm D E w (.ref b :: As) r) (cw : CallW R s args own C index y bytes maxL ret (wsG y bytes maxL ret) rm 0 0 n) (hK : va_K D vwCl E s) (hP : va_P D vwCl w H) (hrc : ∃ cellB : Cell, H[b]? = some cellB ∧ cellB.vm.isStatics = false ∧ s.vm.findClass C = some cellB.cls)
    (hn : As.length = n) (hsize : ls.size = nL) (hst : st0 = As.reverse ++ .ref b :: rest) (hW : (rest.map fun v => v.category).sum ≤ 8) (hdg : decode cc pc = .ok (.invokevirtual index, 3)) (hf : cells ≤ R.cells ∧ slots ≤ R.slots)
    (kk : W p l e R s m args below meth c H locs cells slots Q (F0 m (pc + 3) ls (.int r :: rest))) : W p l e R s m args below meth c H locs cells slots Q (F0 m pc ls st0) :=
  vp_callSi (W.runV (g := F0 m pc ls st0) (rest := rest) S hM cw ⟨ro_blind, hrc, ro_pre hP hK _⟩ rfl hn hsize hst (lv_room hW) hdg hf) (fun x hx => by subst hx; exact kk)
theorem kr_qV (S : CallFix p m c cc nL s args Ts own) (hM : ro_q l y bytes maxL ret rm D E w (.ref b :: As) o) (cw : CallW R s args own C index y bytes maxL ret (wsG y bytes maxL ret) rm 0 0 n) (hK : va_K D vwCl E s) (hP : va_P D vwCl w H) (hrc : ∃ cellB : Cell, H[b]? = some cellB ∧ cellB.vm.isStatics = false ∧ s.vm.findClass C = some cellB.cls)
    (hn : As.length = n) (hsize : ls.size = nL) (hst : st0 = As.reverse ++ .ref b :: rest) (hW : (rest.map fun v => v.category).sum ≤ 8) (hdg : decode cc pc = .ok (.invokevirtual index, 3)) (hf : cells ≤ R.cells ∧ slots ≤ R.slots)
    (kk : W p l e R s m args below meth c H locs cells slots Q (F0 m (pc + 3) ls (va_rf o :: rest))) : W p l e R s m args below meth c H locs cells slots Q (F0 m pc ls st0) :=
  va_csq (W.runV (g := F0 m pc ls st0) (rest := rest) S hM cw ⟨ro_blind, hrc, ro_pre hP hK _⟩ rfl hn hsize hst (lv_room hW) hdg hf) (fun x hx => by subst hx; exact kk)
theorem kr_iS (S : CallFix p m c cc nL s args Ts own) (hM : ro_i l y bytes maxL ret rm D E w As r) (cw : CallB R s args own index y bytes maxL ret (wsG y bytes maxL ret) rm 0 0 n ∧ (Cond.static y).before args s = true) (hK : va_K D vwCl E s) (hP : va_P D vwCl w H)
    (hn : As.length = n) (hsize : ls.size = nL) (hst : st0 = As.reverse ++ rest) (hW : (rest.map fun v => v.category).sum ≤ 8) (hdg : decode cc pc = .ok (.invokestatic index, 3)) (hf : cells ≤ R.cells ∧ slots ≤ R.slots)
    (kk : W p l e R s m args below meth c H locs cells slots Q (F0 m (pc + 3) ls (.int r :: rest))) : W p l e R s m args below meth c H locs cells slots Q (F0 m pc ls st0) :=
  vp_callSi (W.runS (g := F0 m pc ls st0) (rest := rest) S hM cw ⟨ro_blind, ro_pre hP hK _⟩ rfl hn hsize hst (lv_room hW) hdg hf) (fun x hx => by subst hx; exact kk)
/-- a call that changes its world in place -/
theorem kw_iV (S : CallFix p m c cc nL s args Ts own) (hM : rw_i l y bytes maxL ret rm D E w (.ref b :: As) post wf) (cw : CallW R s args own C index y bytes maxL ret (wsG y bytes maxL ret) rm 0 0 n) (hK : va_K D vwCl E s) (hP : va_P D vwCl w H) (hD : va_D A w) (hS : va_S A s.heap H locs) (hA : ∀ q, s.heap.size ≤ q → A q)
    (hrc : ∃ cellB : Cell, H[b]? = some cellB ∧ cellB.vm.isStatics = false ∧ s.vm.findClass C = some cellB.cls)
    (hn : As.length = n) (hsize : ls.size = nL) (hst : st0 = As.reverse ++ .ref b :: rest) (hW : (rest.map fun v => v.category).sum ≤ 8) (hdg : decode cc pc = .ok (.invokevirtual index, 3)) (hf : cells ≤ R.cells ∧ slots ≤ R.slots)
    (kk : ∀ (r : Int32) (u : T) (H1 : Heap) (locs1 : List Loc), post r u → va_P D vwCl (wf u) H1 → (∀ q : Nat, q < H.size → ¬ va_A w H.size q → H1[q]? = H[q]?) → va_S A s.heap H1 locs1 → W p l e R s m args below meth c H1 locs1 cells slots Q (F0 m (pc + 3) ls (.int r :: rest))) : W p l e R s m args below meth c H locs cells slots Q (F0 m pc ls st0) := by
  have hF := rw_S hD hS hA
  refine va_calli (va_runV (g := F0 m pc ls st0) (rest := rest) S (hM H.size) cw ⟨rw_blind, hrc, rw_pre hP hK hD _⟩ rfl hn hsize hst (lv_room hW) hdg hf) hS (fun q _ h => hF q h) hF (fun x u t H1 locs1 ht hvm hp hB hz hk hS1 => ?_)
  rw [ht] at hB
  exact kk x u H1 locs1 hp hB hk hS1
theorem kw_vV (S : CallFix p m c cc nL s args Ts own) (hM : rw_v l y bytes maxL ret rm D E w (.ref b :: As) pv wf) (cw : CallW R s args own C index y bytes maxL ret (wsG y bytes maxL ret) rm 0 0 n) (hK : va_K D vwCl E s) (hP : va_P D vwCl w H) (hD : va_D A w) (hS : va_S A s.heap H locs) (hA : ∀ q, s.heap.size ≤ q → A q)
    (hrc : ∃ cellB : Cell, H[b]? = some cellB ∧ cellB.vm.isStatics = false ∧ s.vm.findClass C = some cellB.cls)
    (hn : As.length = n) (hsize : ls.size = nL) (hst : st0 = As.reverse ++ .ref b :: rest) (hW : (rest.map fun v => v.category).sum ≤ 8) (hdg : decode cc pc = .ok (.invokevirtual index, 3)) (hf : cells ≤ R.cells ∧ slots ≤ R.slots)
    (kk : ∀ (u : T) (H1 : Heap) (locs1 : List Loc), pv u → va_P D vwCl (wf u) H1 → (∀ q : Nat, q < H.size → ¬ va_A w H.size q → H1[q]? = H[q]?) → va_S A s.heap H1 locs1 → W p l e R s m args below meth c H1 locs1 cells slots Q (F0 m (pc + 3) ls rest)) : W p l e R s m args below meth c H locs cells slots Q (F0 m pc ls st0) := by
  have hF := rw_S hD hS hA
  refine va_callv (va_runV (g := F0 m pc ls st0) (rest := rest) S (hM H.size) cw ⟨rw_blind, hrc, rw_pre hP hK hD _⟩ rfl hn hsize hst (lv_room hW) hdg hf) hS (fun q _ h => hF q h) hF (fun u t H1 locs1 ht hvm hp hB hz hk hS1 => ?_)
  rw [ht] at hB
  exact kk u H1 locs1 hp hB hk hS1
end SSC
/-- behind a call on some cells of the world, changed in place -/
theorem rw_join {A : Nat → Prop} {D : va_G} {cl : List vw_C} {ws0 w w' wr : va_W} {H H1 : Heap} (hP : va_P D cl ws0 H) (hD : va_D A ws0) (isC isR : List Nat) (hC : isC.map (fun i => ws0[i]?) = w.map some) (hR : isR.map (fun i => ws0[i]?) = wr.map some) (hnC : va_nd isC = true) (hn : va_nd isR = true) (hdis : ∀ i ∈ isR, i ∉ isC)
    (hk : ∀ q : Nat, q < H.size → ¬ va_A w H.size q → H1[q]? = H[q]?) (hF : ∀ q, va_A w H.size q → A q) (hP1 : va_P D cl w' H1) (hsame : w'.map Prod.fst = w.map Prod.fst) : va_P D cl (wr ++ w') H1 ∧ va_D A (wr ++ w') :=
  va_join hP hD isC isR hC hR hn hdis hk hF hP1 (rw_same (hD.sub isC hnC hC).self hsame)
/-- an int by a whole number -/
def iI (z : Int) : Int32 := Int32.ofInt z
theorem iI_nat (n : Nat) : nI n = iI (n : Int) := by
  apply Int32.toBitVec_inj.mp
  show BitVec.ofNat 32 n = BitVec.ofInt 32 (n : Int)
  simp
theorem iI_nn (a b : Nat) : nI a - nI b = iI ((a : Int) - (b : Int)) := by
  rw [iI_nat, iI_nat]
  exact (Int32.ofInt_sub _ _).symm
theorem iI_an (z : Int) (b : Nat) : iI z + nI b = iI (z + (b : Int)) := by
  rw [iI_nat]
  exact (Int32.ofInt_add _ _).symm
theorem iI_sn (a : Nat) (z : Int) : nI a - iI z = iI ((a : Int) - z) := by
  rw [iI_nat]
  exact (Int32.ofInt_sub _ _).symm
theorem iI_t {z : Int} (h1 : -2147483648 ≤ z) (h2 : z < 2147483648) : (iI z).toInt = z := by
  unfold iI
  rw [Int32.toInt_ofInt]
  show z.bmod 4294967296 = z
  rw [Int.bmod_def]
  omega
theorem iI_n {z : Int} {n : Nat} (h : z = (n : Int)) : iI z = nI n := by rw [iI_nat, h]
theorem bI_c {P Q : Prop} [Decidable P] [Decidable Q] (h : P ↔ Q) : bI P = bI Q := by
  unfold bI
  by_cases hp : P
  · rw [if_pos hp, if_pos (h.mp hp)]
  · rw [if_neg hp, if_neg (fun q => hp (h.mpr q))]
