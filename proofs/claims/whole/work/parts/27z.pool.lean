/-! THE POOL of devices -/
theorem dD_pw {A : Nat → Prop} {ws : va_W} (h : va_D A ws) : ws.Pairwise (fun p q => p.1 ≠ q.1) := by
  rw [List.pairwise_iff_getElem]
  intro i j hi hj hij e
  have := h.1 i j ws[i] ws[j] (List.getElem?_eq_getElem hi) (List.getElem?_eq_getElem hj) e
  omega
theorem pw_sym {α : Type} {R : α → α → Prop} (hs : ∀ a b, R a b → R b a) : ∀ (l : List α), l.Pairwise R → ∀ a ∈ l, ∀ b ∈ l, a ≠ b → R a b := by
  intro l
  induction l with
  | nil => intro _ a ha; cases ha
  | cons x l ih =>
    intro h a ha b hb hab
    obtain ⟨h1, h2⟩ := List.pairwise_cons.mp h
    rcases List.mem_cons.mp ha with e1 | ha
    · rcases List.mem_cons.mp hb with e2 | hb
      · exact absurd (e1.trans e2.symm) hab
      · rw [e1]; exact h1 b hb
    · rcases List.mem_cons.mp hb with e2 | hb
      · rw [e2]; exact hs _ _ (h1 a ha)
      · exact ih h2 a ha b hb hab
theorem pl_ap {A : Nat → Prop} {X : va_W} {od : List Nat} {dv : Nat → va_W} (hD : va_D A (X ++ od.flatMap dv)) {d : Nat} (hd : d ∈ od) : (∀ x ∈ X, ∀ y ∈ dv d, x.1 ≠ y.1) ∧ ∀ e ∈ od, e ≠ d → ∀ x ∈ dv e, ∀ y ∈ dv d, x.1 ≠ y.1 := by
  obtain ⟨-, h2, h3⟩ := List.pairwise_append.mp (dD_pw hD)
  refine ⟨fun x hx y hy => h3 x hx y (List.mem_flatMap.mpr ⟨d, hd, hy⟩), fun e he hed => ?_⟩
  have h4 := (List.pairwise_flatMap.mp h2).2
  exact pw_sym (fun a b h x hx y hy => Ne.symm (h y hy x hx)) od h4 e he d hd hed
theorem pl_fr {A : Nat → Prop} {D : va_G} {cl : List vw_C} {X : va_W} {od : List Nat} {dv dv' : Nat → va_W} {d : Nat} {H H1 : Heap} (hP : va_P D cl (X ++ od.flatMap dv) H) (hD : va_D A (X ++ od.flatMap dv)) (hd : d ∈ od) (hsame : ∀ e ∈ od, e ≠ d → dv' e = dv e)
    (hk : ∀ q : Nat, q < H.size → ¬ va_A (dv d) H.size q → H1[q]? = H[q]?) (hP1 : va_P D cl (dv' d) H1) : va_P D cl (X ++ od.flatMap dv') H1 := by
  refine rw_fr (wc := dv d) (w1 := dv' d) hP hD (fun q hq => List.mem_append_right _ (List.mem_flatMap.mpr ⟨d, hd, hq⟩)) hk hP1 (fun q hq => ?_)
  obtain ⟨a1, a2⟩ := pl_ap hD hd
  rcases List.mem_append.mp hq with h | h
  · exact Or.inr ⟨List.mem_append_left _ h, fun z => a1 q h q z rfl⟩
  · obtain ⟨e, he, hqe⟩ := List.mem_flatMap.mp h
    by_cases hed : e = d
    · subst hed; exact Or.inl hqe
    · rw [hsame e he hed] at hqe
      exact Or.inr ⟨List.mem_append_right _ (List.mem_flatMap.mpr ⟨e, he, hqe⟩), fun z => a2 e he hed q hqe q z rfl⟩
theorem pl_ad {X : va_W} {od : List Nat} {dv dv' : Nat → va_W} (h : ∀ e ∈ od, (dv' e).map Prod.fst = (dv e).map Prod.fst) : (X ++ od.flatMap dv').map Prod.fst = (X ++ od.flatMap dv).map Prod.fst := by
  rw [List.map_append, List.map_append, List.map_flatMap, List.map_flatMap]
  congr 1
  induction od with
  | nil => rfl
  | cons a l ih => rw [List.flatMap_cons, List.flatMap_cons, h a List.mem_cons_self, ih (fun e he => h e (List.mem_cons_of_mem _ he))]
theorem dv_ad (k : Nat → ClassId) (ad bd ed kd nb sh mb sh' mb' : Nat → Nat) (e : Nat) : (dvW k ad bd ed kd nb sh' mb' e).map Prod.fst = (dvW k ad bd ed kd nb sh mb e).map Prod.fst := by
  unfold dvW
  split
  · rfl
  · split
    · rfl
    · split
      · rfl
      · rfl
theorem dv_mb {k : Nat → ClassId} {ad bd ed kd nb sh mb : Nat → Nat} {d e j v : Nat} (hj : j < 256) (hne : e ≠ d) (hnb : kd e = 3 → nb e ≤ 8) : dvW k ad bd ed kd nb sh (ss_up mb (256 * d + j) v) e = dvW k ad bd ed kd nb sh mb e := by
  unfold dvW
  split
  · rw [sft_o (fun i hi => by omega)]
  · split
    · rw [sft_o (fun i hi => by omega)]
    · split
      · rename_i h3
        have := hnb h3
        rw [sft_o (fun i hi => by omega)]
      · rw [sft_o (fun i hi => by omega)]
theorem dv_sh {k : Nat → ClassId} {ad bd ed kd nb sh mb : Nat → Nat} {d e j v : Nat} (hj : j < 4) (hne : e ≠ d) : dvW k ad bd ed kd nb (ss_up sh (4 * d + j) v) mb e = dvW k ad bd ed kd nb sh mb e := by
  unfold dvW
  split
  · rfl
  · split
    · rfl
    · split
      · rw [sft_o (fun i hi => by omega)]
      · rfl
/-- a byte of device d is changed -/
theorem pl_mb {A : Nat → Prop} {D : va_G} {X : va_W} {od : List Nat} {k : Nat → ClassId} {gd : Nat → Option Nat} {ad bd ed kd nb sh mb : Nat → Nat} {d j v : Nat} {H H1 : Heap} (hO : plO od gd ad kd nb sh) (hP : va_P D vwCl (X ++ plW od k ad bd ed kd nb sh mb) H) (hD : va_D A (X ++ plW od k ad bd ed kd nb sh mb)) (hd : d ∈ od) (hj : j < 256)
    (hk : ∀ q : Nat, q < H.size → ¬ va_A (dvW k ad bd ed kd nb sh mb d) H.size q → H1[q]? = H[q]?) (hP1 : va_P D vwCl (dvW k ad bd ed kd nb sh (ss_up mb (256 * d + j) v) d) H1) : va_P D vwCl (X ++ plW od k ad bd ed kd nb sh (ss_up mb (256 * d + j) v)) H1 ∧ va_D A (X ++ plW od k ad bd ed kd nb sh (ss_up mb (256 * d + j) v)) :=
  ⟨pl_fr hP hD hd (fun e he hne => dv_mb hj hne (fun h3 => (hO.2.2.2 e ((hO.2.1 e).mp he).1 h3).2.1)) hk hP1, rw_same hD (pl_ad (fun e _ => dv_ad k ad bd ed kd nb sh mb sh _ e))⟩
theorem pl_sh {A : Nat → Prop} {D : va_G} {X : va_W} {od : List Nat} {k : Nat → ClassId} {ad bd ed kd nb sh mb : Nat → Nat} {d j v : Nat} {H H1 : Heap} (hP : va_P D vwCl (X ++ plW od k ad bd ed kd nb sh mb) H) (hD : va_D A (X ++ plW od k ad bd ed kd nb sh mb)) (hd : d ∈ od) (hj : j < 4)
    (hk : ∀ q : Nat, q < H.size → ¬ va_A (dvW k ad bd ed kd nb sh mb d) H.size q → H1[q]? = H[q]?) (hP1 : va_P D vwCl (dvW k ad bd ed kd nb (ss_up sh (4 * d + j) v) mb d) H1) : va_P D vwCl (X ++ plW od k ad bd ed kd nb (ss_up sh (4 * d + j) v) mb) H1 ∧ va_D A (X ++ plW od k ad bd ed kd nb (ss_up sh (4 * d + j) v) mb) :=
  ⟨pl_fr hP hD hd (fun e he hne => dv_sh hj hne) hk hP1, rw_same hD (pl_ad (fun e _ => dv_ad k ad bd ed kd nb sh mb _ mb e))⟩
theorem va_Dm {A : Nat → Prop} {X : va_W} {od : List Nat} {dv : Nat → va_W} (hD : va_D A (X ++ od.flatMap dv)) {d : Nat} (hd : d ∈ od) : va_D A (dv d) := by
  obtain ⟨-, h2, -⟩ := List.pairwise_append.mp (dD_pw hD)
  have h3 := (List.pairwise_flatMap.mp h2).1 d hd
  refine ⟨fun i j x y hi hj hxy => ?_, fun i x hi => ?_⟩
  · rw [List.pairwise_iff_getElem] at h3
    obtain ⟨i1, rfl⟩ := List.getElem?_eq_some_iff.mp hi
    obtain ⟨j1, rfl⟩ := List.getElem?_eq_some_iff.mp hj
    rcases Nat.lt_trichotomy i j with h | h | h
    · exact absurd hxy (h3 i j i1 j1 h)
    · exact h
    · exact absurd hxy.symm (h3 j i j1 i1 h)
  · obtain ⟨j, hj⟩ := List.getElem?_of_mem (List.mem_append_right X (List.mem_flatMap.mpr ⟨d, hd, List.mem_of_getElem? hi⟩))
    exact hD.2 j x hj
