/-! Worlds with a pool behind: a callee that has some of the cells and the pool -/
theorem va_Dpw {A : Nat → Prop} {ws : va_W} (h : ws.Pairwise (fun p q => p.1 ≠ q.1)) (hA : ∀ x ∈ ws, A x.1) : va_D A ws := by
  refine ⟨fun i j x y hi hj hxy => ?_, fun i x hi => hA x (List.mem_of_getElem? hi)⟩
  rw [List.pairwise_iff_getElem] at h
  obtain ⟨i1, rfl⟩ := List.getElem?_eq_some_iff.mp hi
  obtain ⟨j1, rfl⟩ := List.getElem?_eq_some_iff.mp hj
  rcases Nat.lt_trichotomy i j with g | g | g
  · exact absurd hxy (h i j i1 j1 g)
  · exact g
  · exact absurd hxy.symm (h j i j1 i1 g)
theorem va_DA {A : Nat → Prop} {ws : va_W} (hD : va_D A ws) : ∀ x ∈ ws, A x.1 := by
  intro x hx
  obtain ⟨j, hj⟩ := List.getElem?_of_mem hx
  exact hD.2 j x hj
theorem va_Dsl {A : Nat → Prop} {ws w' : va_W} (hD : va_D A ws) (h : List.Sublist w' ws) : va_D A w' := va_Dpw ((dD_pw hD).sublist h) (fun x hx => va_DA hD x (h.subset hx))
theorem ss_subP {D : va_G} {cl : List vw_C} {a b c p : va_W} {H : Heap} (hP : va_P D cl (a ++ (b ++ (c ++ p))) H) : va_P D cl (b ++ p) H := by
  refine va_mem hP (fun x hx => ?_)
  rcases List.mem_append.mp hx with h | h
  · exact List.mem_append_right _ (List.mem_append_left _ h)
  · exact List.mem_append_right _ (List.mem_append_right _ (List.mem_append_right _ h))
theorem ss_subD {A : Nat → Prop} {a b c p : va_W} (hD : va_D A (a ++ (b ++ (c ++ p)))) : va_D A (b ++ p) :=
  va_Dsl hD ((List.Sublist.append_left (List.sublist_append_right c p) b).trans (List.sublist_append_right a _))
theorem ss_fr {A : Nat → Prop} {D : va_G} {cl : List vw_C} {a b c p b' p' : va_W} {H H1 : Heap} (hP : va_P D cl (a ++ (b ++ (c ++ p))) H) (hD : va_D A (a ++ (b ++ (c ++ p))))
    (hk : ∀ q : Nat, q < H.size → ¬ va_A (b ++ p) H.size q → H1[q]? = H[q]?) (hP1 : va_P D cl (b' ++ p') H1) : va_P D cl (a ++ (b' ++ (c ++ p'))) H1 := by
  have hpw := dD_pw hD
  obtain ⟨-, h2, h3⟩ := List.pairwise_append.mp hpw
  obtain ⟨-, h4, h5⟩ := List.pairwise_append.mp h2
  obtain ⟨-, -, h7⟩ := List.pairwise_append.mp h4
  refine rw_fr (wc := b ++ p) (w1 := b' ++ p') hP hD (fun q hq => ?_) hk hP1 (fun q hq => ?_)
  · rcases List.mem_append.mp hq with h | h
    · exact List.mem_append_right _ (List.mem_append_left _ h)
    · exact List.mem_append_right _ (List.mem_append_right _ (List.mem_append_right _ h))
  · rcases List.mem_append.mp hq with h | h
    · refine Or.inr ⟨List.mem_append_left _ h, fun z => ?_⟩
      rcases List.mem_append.mp z with g | g
      · exact h3 q h q (List.mem_append_left _ g) rfl
      · exact h3 q h q (List.mem_append_right _ (List.mem_append_right _ g)) rfl
    · rcases List.mem_append.mp h with h | h
      · exact Or.inl (List.mem_append_left _ h)
      · rcases List.mem_append.mp h with h | h
        · refine Or.inr ⟨List.mem_append_right _ (List.mem_append_right _ (List.mem_append_left _ h)), fun z => ?_⟩
          rcases List.mem_append.mp z with g | g
          · exact h5 q g q (List.mem_append_left _ h) rfl
          · exact h7 q h q g rfl
        · exact Or.inl (List.mem_append_right _ h)
theorem ss_ad {X X' : va_W} (hX : X'.map Prod.fst = X.map Prod.fst) (od : List Nat) (k : Nat → ClassId) (ad bd ed kd nb sh mb sh' mb' : Nat → Nat) : (X' ++ plW od k ad bd ed kd nb sh' mb').map Prod.fst = (X ++ plW od k ad bd ed kd nb sh mb).map Prod.fst := by
  rw [List.map_append, hX, ← List.map_append]
  exact pl_ad (fun e _ => dv_ad k ad bd ed kd nb sh mb sh' mb' e)
theorem gO {own C owner : String} {i n : Nat} {x y : MethodName} {b : ByteArray} {ret : Option FieldType} (h1 : Cond.methodLink own i x ∈ GW) (h2 : Cond.sameMethod x.cls owner x.name x.desc ∈ GW) (h7 : Cond.instanceMethod ⟨owner, x.name, x.desc⟩ ∈ GW) (h3 : Cond.selects C x y ∈ GW) (h4 : Cond.instanceMethod y ∈ GW) (h6 : Cond.initialized y.cls ∈ GW) (h5 : Cond.code y b n ret ∈ GW) : GoodIn GW (va_wsO own i C owner x y (wsG y b n ret)) := by
  intro w hw
  have hm : w ∈ GW := by
    unfold va_wsO at hw
    rcases List.mem_append.mp hw with h | h
    · simp only [List.mem_cons, List.not_mem_nil, or_false] at h
      rcases h with rfl | rfl | rfl | rfl | rfl | rfl <;> assumption
    · rcases List.mem_cons.mp h with rfl | h <;> assumption
  exact ⟨hm, gw_good w hm⟩
theorem rd_eq {wd se : Nat → Nat} (kd sh mb : Nat → Nat) {s9 a : Nat} (hse : se s9 < 256) : (if a = 255 ∧ wd s9 = 1 then 255 - (se s9 % 64 + 64 * mpg wd se s9 a) else mget kd sh mb (4 * s9 + (if wd s9 = 1 then mpg wd se s9 a else 0)) a) = (if a = 255 ∧ wd s9 = 1 then 255 - se s9 else mget kd sh mb (4 * s9 + mpg wd se s9 a) a) := by
  by_cases h : a = 255 ∧ wd s9 = 1
  · rw [if_pos h, if_pos h]
    unfold mpg
    rw [if_pos (by omega), h.1]
    show 255 - (se s9 % 64 + 64 * (se s9 / 4 ^ 3 % 4)) = _
    omega
  · rw [if_neg h, if_neg h]
    by_cases hw : wd s9 = 1
    · rw [if_pos hw]
    · rw [if_neg hw]
      unfold mpg
      rw [if_neg (by omega)]
