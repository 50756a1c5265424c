/-! new devices -/
def bkG (nb i : Nat) : Nat → Nat := fun j => if j < i then j % nb else 0
theorem bkG_0 (nb : Nat) : bkG nb 0 = fun _ => 0 := by
  funext j
  unfold bkG
  rw [if_neg (by omega)]
theorem bkG_s {nb i : Nat} : ss_up (bkG nb i) i (i % nb) = bkG nb (i + 1) := by
  funext j
  unfold ss_up bkG
  by_cases h : j = i
  · rw [if_pos h, if_pos (by omega), h]
  · rw [if_neg h]
    by_cases h2 : j < i
    · rw [if_pos h2, if_pos (by omega)]
    · rw [if_neg h2, if_neg (by omega)]
theorem nw_app {D : va_G} {cl : List vw_C} {A : Nat → Prop} {w w1 : va_W} {H H1 : Heap} (hP : va_P D cl w H) (hD : va_D A w) (hk : ∀ q : Nat, q < H.size → H1[q]? = H[q]?) (hP1 : va_P D cl w1 H1) (hD1 : va_D (va_A [] H.size) w1) (hA : ∀ q, H.size ≤ q → A q) : va_P D cl (w ++ w1) H1 ∧ va_D A (w ++ w1) := by
  have hge : ∀ (k : Nat) (x : Nat × va_E), w1[k]? = some x → H.size ≤ x.1 := fun k x hx => by
    rcases hD1.2 k x hx with ⟨_, _, h⟩ | h
    · cases h
    · exact h
  refine ⟨va_P.app (fun k x hx => (hP k x hx).kept (hk x.1 (hP k x hx).lt)) hP1, va_D.app hD (hD1.weaken (fun k x hx _ => hA _ (hge k x hx))) (fun i j x y hx hy hxy => ?_)⟩
  have h1 := (hP i x hx).lt
  have h2 := hge j y hy
  omega
theorem pl_add {X nd : va_W} {od : List Nat} {k : Nat → ClassId} {ad bd ed kd nb sh mb ad' bd' ed' kd' nb' sh' : Nat → Nat} {d : Nat} (h1 : ∀ e ∈ od, dvW k ad' bd' ed' kd' nb' sh' mb e = dvW k ad bd ed kd nb sh mb e) (h2 : dvW k ad' bd' ed' kd' nb' sh' mb d = nd) : X ++ plW (od ++ [d]) k ad' bd' ed' kd' nb' sh' mb = (X ++ plW od k ad bd ed kd nb sh mb) ++ nd := by
  unfold plW
  rw [List.flatMap_append, List.append_assoc]
  congr 1
  have h3 : od.flatMap (dvW k ad' bd' ed' kd' nb' sh' mb) = od.flatMap (dvW k ad bd ed kd nb sh mb) := by
    clear h2
    induction od with
    | nil => rfl
    | cons a t ih => rw [List.flatMap_cons, List.flatMap_cons, h1 a List.mem_cons_self, ih (fun e he => h1 e (List.mem_cons_of_mem _ he))]
  rw [h3]
  congr 1
  show dvW k ad' bd' ed' kd' nb' sh' mb d ++ [] = nd
  rw [List.append_nil, h2]
theorem sft_z {f : Nat → Nat} {o n : Nat} (h : ∀ j, j < n → f (o + j) = 0) : sft f o n = fun _ => 0 := by
  funext j
  unfold sft
  split
  · rename_i hj; exact h j hj
  · rfl
theorem sft_m {sh : Nat → Nat} {d n : Nat} : sft (mshn sh d n 4) (4 * d) 4 = bkG n 4 := by
  funext j
  unfold sft mshn bkG
  by_cases h : j < 4
  · rw [if_pos h, if_pos h, if_pos (by omega)]
    congr 1
    omega
  · rw [if_neg h, if_neg h]
theorem sft_mo {sh : Nat → Nat} {d e n : Nat} (h : e ≠ d) : sft (mshn sh d n 4) (4 * e) 4 = sft sh (4 * e) 4 := by
  funext j
  unfold sft mshn
  by_cases h4 : j < 4
  · rw [if_pos h4, if_pos h4, if_neg (by omega)]
  · rw [if_neg h4, if_neg h4]
theorem dv_oth {k : Nat → ClassId} {ad bd ed kd nb sh mb : Nat → Nat} {d e a b c kk : Nat} (h : e ≠ d) : dvW k (ss_up ad d a) (ss_up bd d b) (ss_up ed d c) (ss_up kd d kk) nb sh mb e = dvW k ad bd ed kd nb sh mb e := by
  unfold dvW
  rw [ss_up_n _ _ h, ss_up_n _ _ h, ss_up_n _ _ h, ss_up_n _ _ h]
theorem dv_ot3 {k : Nat → ClassId} {ad bd ed kd nb sh mb : Nat → Nat} {d e a b c kk n : Nat} (h : e ≠ d) : dvW k (ss_up ad d a) (ss_up bd d b) (ss_up ed d c) (ss_up kd d kk) (ss_up nb d n) (mshn sh d n 4) mb e = dvW k ad bd ed kd nb sh mb e := by
  unfold dvW
  rw [ss_up_n _ _ h, ss_up_n _ _ h, ss_up_n _ _ h, ss_up_n _ _ h, ss_up_n _ _ h, sft_mo h]
