/-! THE LAW: what holds at its loop's head -/
section LAW0
variable {p : Program} {l : Launch} {e : Env} {R : Room} {s : State} {m : MethodId} {args : Array Value} {below : List Frame} {meth : Method} {c : Code} {H : Heap} {locs : List Loc} {cells slots : Nat} {Q : State → Prop} {pc : Nat} {ls : Array Slot}
  {y : MethodName} {bytes cc : ByteArray} {maxL nL n index : Nat} {ret : Option FieldType} {rm : Room} {Ts : List Cond} {own C : String} {b : Addr} {As rest st0 : List Value} {D : va_G} {E : List (ClassId × FieldType)} {w : va_W} {A : Nat → Prop} {T : Type} {post : Int32 → T → Prop} {wf : T → va_W} {hh : List (Nat × Nat × Nat × Nat)}
theorem kxw_iV (S : CallFix p m c cc nL s args Ts own) (hM : xw_i l y bytes maxL ret rm D E w (.ref b :: As) post wf) (cw : CallW R s args own C index y bytes maxL ret (wsG y bytes maxL ret) rm 0 0 n) (hK : va_K D vwCl E s) (hX : XK s) (hP : va_P D vwCl w H) (hD : va_D A w) (hS : va_S A s.heap H locs) (hA : ∀ q, s.heap.size ≤ q → A q)
    (hrc : ∃ cellB : Cell, H[b]? = some cellB ∧ cellB.vm.isStatics = false ∧ s.vm.findClass C = some cellB.cls)
    (hn : As.length = n) (hsize : ls.size = nL) (hst : st0 = As.reverse ++ .ref b :: rest) (hW : (rest.map fun v => v.category).sum ≤ 8) (hdg : decode cc pc = .ok (.invokevirtual index, 3)) (hf : cells ≤ R.cells ∧ slots ≤ R.slots)
    (kk : ∀ (r : Int32) (u : T) (H1 : Heap) (locs1 : List Loc), post r u → va_P D vwCl (wf u) H1 → (∀ q : Nat, q < H.size → ¬ va_A w H.size q → H1[q]? = H[q]?) → va_S A s.heap H1 locs1 → W p l e R s m args below meth c H1 locs1 cells slots Q (F0 m (pc + 3) ls (.int r :: rest))) : W p l e R s m args below meth c H locs cells slots Q (F0 m pc ls st0) := by
  have hF := rw_S hD hS hA
  refine va_calli (va_runV (g := F0 m pc ls st0) (rest := rest) S (hM H.size) cw ⟨xw_blind, hrc, xw_pre hP hK hX hD _⟩ rfl hn hsize hst (lv_room hW) hdg hf) hS (fun q _ h => hF q h) hF (fun x u t H1 locs1 ht hvm hp hB hz hk hS1 => ?_)
  rw [ht] at hB
  exact kk x u H1 locs1 hp hB hk hS1
theorem kh_i (S : CallFix p m c cc nL s args GW own) (hM : hp_i l y bytes maxL hh rm D E w As post wf) (hfr : rm.frames + 1 ≤ R.frames) (hlo : 8 + (maxL + 11) + rm.locals ≤ R.locals) (hcw : Cond.codeWith y bytes maxL (some .int) hh ∈ GW) (hstat : Cond.static y ∈ GW) (hini : Cond.initialized y.cls ∈ GW) (hlink : Cond.methodLink own index y ∈ GW) (hy : y.cls ≠ "java/lang/invoke/MethodHandle" ∧ y.cls ≠ "java/lang/invoke/VarHandle" ∧ (parseMethodDescriptor y.desc).map (fun d => d.parameters.length) = some n)
    (hK : va_K D vwCl E s) (hX : XK s) (hT : TT s) (hU : tU A s s.heap) (hP : va_P D vwCl w H) (hD : va_D A w) (hS : va_S A s.heap H locs) (hA : ∀ q, s.heap.size ≤ q → A q)
    (hn : As.length = n) (hsize : ls.size = nL) (hst : st0 = As.reverse ++ rest) (hW : (rest.map fun v => v.category).sum ≤ 8) (hdg : decode cc pc = .ok (.invokestatic index, 3)) (hf : cells + rm.cells ≤ R.cells ∧ slots + rm.slots ≤ R.slots)
    (kk : ∀ (r : Int32) (u : T) (H1 : Heap) (locs1 : List Loc), post r u → va_P D vwCl (wf u) H1 → va_D (va_A w H.size) (wf u) → (∀ q : Nat, q < H.size → ¬ va_A w H.size q → H1[q]? = H[q]?) → va_S A s.heap H1 locs1 → W p l e R s m args below meth c H1 locs1 (cells + rm.cells) (slots + rm.slots) Q (F0 m (pc + 3) ls (.int r :: rest))) : W p l e R s m args below meth c H locs cells slots Q (F0 m pc ls st0) := by
  have hF := rw_S hD hS hA
  have hts := S.2.2.2.2
  have hG : GoodIn GW (wsH y bytes maxL (some .int) hh) := by
    intro w hw
    have hm : w ∈ GW := by rcases List.mem_cons.mp hw with rfl | h <;> assumption
    exact ⟨hm, gw_good w hm⟩
  have hpre : ∀ U : State, U.heap = H → s.WarmedH U.vm → hp_P D E w As H.size As.toArray U := fun U hU1 hW1 => ⟨rfl, by rw [hU1], by rw [hU1]; exact hP, va_K.moved hW1.alike hK, hD.weaken (fun _ _ _ _ => trivial), hX.warm hW1, hT.warm hW1, by
    rw [hU1]
    exact ((hU.kept hS.2.1).narrow hF).moved hW1.alike⟩
  refine va_calli (hp_run (g := F0 m pc ls st0) (rest := rest) (maxL := maxL) (bytes := bytes) (hh := hh) (ret := some .int) S (hM H.size) rfl rfl hfr hlo (pay_in hts hG) List.mem_cons_self (hts _ hstat) (hts _ hini) ⟨hy.1, hy.2.1⟩ (fun sig h => ?_) (hts _ hlink) ⟨hp_blind, hpre⟩ rfl hn hsize hst (lv_room hW) hdg hf) hS (fun q _ h => hF q h) hF (fun x u t H1 locs1 ht hvm hp hB hz hk hS1 => ?_)
  · have h2 := hy.2.2
    rw [h] at h2
    exact (Option.some.inj h2).symm
  · rw [ht] at hB
    exact kk x u H1 locs1 hp hB.1 hB.2 hk hS1
end LAW0
def LC (p : Program) (l : Launch) (s : State) (m : MethodId) (meth : Method) (c : Code) (b L : Nat) (xs : Nat → Int32) (D : va_G) (k : Nat → ClassId) (A : Nat → Prop) : Prop :=
  (p.tables.exec = Jvm.exec) ∧ (c.code = code) ∧ (meth.sig.returnType = ret) ∧ (meth.locks = false) ∧ (c.maxLocals = 7) ∧ (s.vm.findClass "SlotScreenLaw" = some m.cls) ∧ (∀ x ∈ GW, x.before #[Value.ref b] s = true) ∧ (XK s) ∧ (TT s) ∧ (tU A s s.heap) ∧ (va_K D vwCl (kT k) s) ∧ (∀ q, s.heap.size ≤ q → A q) ∧ (va_X b L xs s s.heap) ∧ (b < s.heap.size) ∧ (¬ A b) ∧ (l.stackTraces = false) ∧ (L ≤ 2560)
def LF (gd : Nat → Option Nat) (wd se : Nat → Nat) (pr ln : Nat) (B R : Nat → Nat) (sx pt : Nat) (wt : Int32) (od : List Nat) (ad kd nb sh mb : Nat → Nat) (bn : Nat → Int32) : Prop :=
  (∀ j, wd j < 2) ∧ (∀ j, se j < 256) ∧ (pr < 256) ∧ (ln < 32) ∧ (∀ j, B j < 256) ∧ (∀ j, R j < 256) ∧ (sx < 256) ∧ (pt < 512) ∧ (wt = -1 ∨ ∃ a : Nat, a < 256 ∧ wt = nI a) ∧ (plO od gd ad kd nb sh) ∧ (∀ j, kd j < 5) ∧ (∀ j, sh j < 8) ∧ (∀ j, mb j < 256) ∧ (∀ d, d < 16 → kd d = 3 → bn d = nI (nb d)) ∧ (∀ d, d < 16 → kd d = 0 → ∀ j, j < 256 → mb (256 * d + j) = 0)
abbrev ouW (k : Nat → ClassId) (ob : Nat) (of : Nat → Int64) : va_W := [(ob, .inl (k 3, 1, .inr (.inl of)))]
/-- from the loop's head on the law comes to its end -/
def LG (p : Program) (l : Launch) (e : Env) (s : State) (m : MethodId) (below : List Frame) (meth : Method) (c : Code) (b : Nat) (D : va_G) (k : Nat → ClassId) (A : Nat → Prop) (Q : State → Prop) (qm qs : Nat → Nat) (ob : Nat) (i : Nat) : Prop :=
  ∀ (cd : Int32) (gd : Nat → Option Nat) (wd se : Nat → Nat) (pr ln : Nat) (px : Nat → Nat) (cv co : Nat) (B R : Nat → Nat) (sx pt rd : Nat) (wt : Int32) (od : List Nat) (ad bd ed kd nb sh mb : Nat → Nat) (bn : Nat → Int32) (of : Nat → Int64) (H : Heap) (locs : List Loc) (ls : Array Slot),
    LF gd wd se pr ln B R sx pt wt od ad kd nb sh mb bn → va_P D vwCl (mW qm k cd wd se kd bn sh mb pr B R sx pt rd wt ln px ++ (ouW k ob of ++ (ssW qs k gd wd se pr ln px cv co B R sx pt rd wt ++ plW od k ad bd ed kd nb sh mb))) H →
    va_D A (mW qm k cd wd se kd bn sh mb pr B R sx pt rd wt ln px ++ (ouW k ob of ++ (ssW qs k gd wd se pr ln px cv co B R sx pt rd wt ++ plW od k ad bd ed kd nb sh mb))) → va_S A s.heap H locs → lv_has ls 7 [(4, .int (nI (5 * i))), (0, .ref b), (1, .ref (qs 0)), (2, .ref (qm 0)), (3, .ref ob)] →
    W p l e room_1 s m #[Value.ref b] below meth c H locs (21 + 3 * i) (9395 + 263 * i) Q (F0 m 23 ls [])
theorem w_288 : (Cond.codeWith y_LW_widen b_LW_widen 3 (some .int) [(0, 5, 8, 13), (0, 5, 11, 15)]) ∈ GW := gw_t 288 (by decide +kernel) (by decide +kernel)
theorem w_384 : (Cond.codeWith y_LW_plug b_LW_plug 6 (some .int) [(0, 9, 12, 13), (0, 9, 16, 15)]) ∈ GW := gw_t 384 (by decide +kernel) (by decide +kernel)
theorem w_449 : (Cond.codeWith y_LW_read b_LW_read 4 (some .int) [(0, 9, 12, 13)]) ∈ GW := gw_t 449 (by decide +kernel) (by decide +kernel)
theorem w_492 : (Cond.codeWith y_LW_write b_LW_write 4 (some .int) [(0, 6, 9, 13)]) ∈ GW := gw_t 492 (by decide +kernel) (by decide +kernel)
theorem w_518 : (Cond.codeWith y_LW_far b_LW_far 6 (some .int) [(0, 12, 15, 13)]) ∈ GW := gw_t 518 (by decide +kernel) (by decide +kernel)
