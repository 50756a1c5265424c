/-! the two rows of the law's tables -/
section KAB
variable {p : Program} {l : Launch} {e : Env} {R : Room} {s : State} {m : MethodId} {args : Array Value} {below : List Frame} {meth : Method} {c : Code} {locs : List Loc} {cells slots : Nat}
  {H : Heap} {A : Nat → Prop} {Q : State → Prop} {pc nL : Nat} {ls : Array Slot} {cc : ByteArray} {Ts : List Cond} {C : String} {index : Nat} {y : MethodName} {bytes : ByteArray} {maxL n : Nat} {ret : Option FieldType} {rm : Room} {D : va_G} {E : List (ClassId × FieldType)} {w : va_W} {b : Addr} {As rest st0 : List Value} {a0 b0 tgt a1 b1 tg1 : Nat} {tl : List (Nat × Nat × Nat × Nat)}
theorem kt_A (htab : c.exceptionTable.toList.map (fun h => (h.startPc, h.endPc, h.handlerPc, h.catchType)) = (a0, b0, tgt, 13) :: tl) (hc1 : a0 ≤ pc) (hc2 : pc < b0) (hlk : (Cond.classLink "SlotScreenLaw" 13 "java/lang/IllegalArgumentException").before args s = true)
    (S : CallFix p m c cc nL s args Ts "SlotScreenLaw") (hM : th "java/lang/IllegalArgumentException" l y bytes maxL ret rm D E w (.ref b :: As)) (cw : CallW R s args "SlotScreenLaw" C index y bytes maxL ret (wsG y bytes maxL ret) rm 1 6 n) (hK : va_K D vwCl E s) (hT : TT s) (hU : tU A s s.heap) (hP : va_P D vwCl w H) (hS : va_S A s.heap H locs)
    (hrc : ∃ cellB : Cell, H[b]? = some cellB ∧ cellB.vm.isStatics = false ∧ s.vm.findClass C = some cellB.cls)
    (hn : As.length = n) (hsize : ls.size = nL) (hst : st0 = As.reverse ++ .ref b :: rest) (hW : (rest.map fun v => v.category).sum ≤ 8) (hdg : decode cc pc = .ok (.invokevirtual index, 3)) (hf : cells + 1 ≤ R.cells ∧ slots + 6 ≤ R.slots)
    (kk : ∀ (q : Addr) (H1 : Heap), H.size ≤ H1.size → (∀ z : Nat, z < H.size → H1[z]? = H[z]?) → W p l e R s m args below meth c H1 locs (cells + 1) (slots + 6) Q (F0 m tgt ls [.ref q])) : W p l e R s m args below meth c H locs cells slots Q (F0 m pc ls st0) := by
  obtain ⟨x, t, hx⟩ : ∃ x t, c.exceptionTable.toList = x :: t := by
    cases h : c.exceptionTable.toList with
    | nil => rw [h] at htab; cases htab
    | cons x t => exact ⟨x, t, rfl⟩
  rw [hx, List.map_cons] at htab
  injection htab with h1 h2
  injection h1 with e1 h1
  injection h1 with e2 h1
  injection h1 with e3 e4
  refine kt_V (nm := "java/lang/IllegalArgumentException") S hM cw hK hT hU hP hS hrc hn hsize hst hW hdg hf [] x t hx (fun z hz => nomatch hz) (by simp [covers, e1, e2, hc1, hc2]) (by rw [e4]; decide) (by rw [e4]; exact hlk) (va_Nw.use rfl (hT.1 _ (by unfold NTL; simp))) (fun q H1 z1 z2 => ?_)
  rw [e3]
  exact kk q H1 z1 z2
theorem kt_B (htab : c.exceptionTable.toList.map (fun h => (h.startPc, h.endPc, h.handlerPc, h.catchType)) = (a1, b1, tg1, 13) :: (a0, b0, tgt, 15) :: tl) (hc1 : a0 ≤ pc) (hc2 : pc < b0) (hlk : (Cond.classLink "SlotScreenLaw" 13 "java/lang/IllegalArgumentException").before args s = true) (hlk2 : (Cond.classLink "SlotScreenLaw" 15 "java/lang/IllegalStateException").before args s = true)
    (S : CallFix p m c cc nL s args Ts "SlotScreenLaw") (hM : th "java/lang/IllegalStateException" l y bytes maxL ret rm D E w (.ref b :: As)) (cw : CallW R s args "SlotScreenLaw" C index y bytes maxL ret (wsG y bytes maxL ret) rm 1 6 n) (hK : va_K D vwCl E s) (hT : TT s) (hU : tU A s s.heap) (hP : va_P D vwCl w H) (hS : va_S A s.heap H locs)
    (hrc : ∃ cellB : Cell, H[b]? = some cellB ∧ cellB.vm.isStatics = false ∧ s.vm.findClass C = some cellB.cls)
    (hn : As.length = n) (hsize : ls.size = nL) (hst : st0 = As.reverse ++ .ref b :: rest) (hW : (rest.map fun v => v.category).sum ≤ 8) (hdg : decode cc pc = .ok (.invokevirtual index, 3)) (hf : cells + 1 ≤ R.cells ∧ slots + 6 ≤ R.slots)
    (kk : ∀ (q : Addr) (H1 : Heap), H.size ≤ H1.size → (∀ z : Nat, z < H.size → H1[z]? = H[z]?) → W p l e R s m args below meth c H1 locs (cells + 1) (slots + 6) Q (F0 m tgt ls [.ref q])) : W p l e R s m args below meth c H locs cells slots Q (F0 m pc ls st0) := by
  obtain ⟨y9, x, t, hx⟩ : ∃ y x t, c.exceptionTable.toList = y :: x :: t := by
    cases h : c.exceptionTable.toList with
    | nil => rw [h] at htab; cases htab
    | cons y9 t =>
      cases h2 : t with
      | nil => rw [h, h2] at htab; simp at htab
      | cons x t => exact ⟨y9, x, t, rfl⟩
  rw [hx, List.map_cons, List.map_cons] at htab
  injection htab with h0 h2
  injection h2 with h1 h2
  injection h1 with e1 h1
  injection h1 with e2 h1
  injection h1 with e3 e4
  injection h0 with f1 h0
  injection h0 with f2 h0
  injection h0 with f3 f4
  refine kt_V (nm := "java/lang/IllegalStateException") S hM cw hK hT hU hP hS hrc hn hsize hst hW hdg hf [y9] x t hx (fun z hz => ?_) (by simp [covers, e1, e2, hc1, hc2]) (by rw [e4]; decide) (by rw [e4]; exact hlk2) (va_Nw.use rfl (hT.1 _ (by unfold NTL; simp))) (fun q H1 z1 z2 => ?_)
  · rw [List.mem_singleton.mp hz, f4]
    exact ⟨by decide, _, hlk, hT.2.2⟩
  · rw [e3]
    exact kk q H1 z1 z2
end KAB
