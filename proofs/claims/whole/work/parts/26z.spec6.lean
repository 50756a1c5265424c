theorem nb_nI {n : Nat} (h : n < 2) : narrow .boolean (.int (nI n)) = .int (nI n) := by
  rcases (show n = 0 ∨ n = 1 by omega) with rfl | rfl <;> decide +kernel
theorem gG {n : Nat} {y : MethodName} {b : ByteArray} {ret : Option FieldType} (h5 : Cond.code y b n ret ∈ GW) : GoodIn GW (wsG y b n ret) := by
  intro w hw
  have hm : w ∈ GW := by rcases List.mem_cons.mp hw with rfl | h <;> assumption
  exact ⟨hm, gw_good w hm⟩
theorem mpb (n g : Nat) : n / 2 ^ (2 * g) = n / 4 ^ g := by rw [Nat.pow_mul]
/-- the cells of device d lie in the pool; what is read and what a write does, by kind -/
theorem dvW_1 {k : Nat → ClassId} {ad bd ed kd nb sh mb : Nat → Nat} {d : Nat} (h : kd d = 1) : dvW k ad bd ed kd nb sh mb d = raW (ad d) (bd d) k 256 255 (sft mb (256 * d) 256) := by unfold dvW; rw [if_pos h]
theorem dvW_2 {k : Nat → ClassId} {ad bd ed kd nb sh mb : Nat → Nat} {d : Nat} (h : kd d = 2) : dvW k ad bd ed kd nb sh mb d = roW (ad d) (bd d) k (sft mb (256 * d) 256) := by unfold dvW; rw [if_neg (by omega), if_pos h]
theorem dvW_3 {k : Nat → ClassId} {ad bd ed kd nb sh mb : Nat → Nat} {d : Nat} (h : kd d = 3) : dvW k ad bd ed kd nb sh mb d = bkW (ad d) (bd d) (ed d) k (nb d) (sft mb (256 * d) (32 * nb d)) (sft sh (4 * d) 4) := by unfold dvW; rw [if_neg (by omega), if_neg (by omega), if_pos h]
theorem dvW_4 {k : Nat → ClassId} {ad bd ed kd nb sh mb : Nat → Nat} {d : Nat} (h : kd d = 4) : dvW k ad bd ed kd nb sh mb d = raW (ad d) (bd d) k 64 63 (sft mb (256 * d) 64) := by unfold dvW; rw [if_neg (by omega), if_neg (by omega), if_neg (by omega)]
/-- what holds of the pool: od the plugged devices, each once; their references in gd; the counts of the banks -/
def plO (od : List Nat) (gd : Nat → Option Nat) (ad kd nb sh : Nat → Nat) : Prop := (∀ d, d < 16 → (gd d = if kd d = 0 then none else some (ad d))) ∧ (∀ d, d ∈ od ↔ d < 16 ∧ kd d ≠ 0) ∧ od.Nodup ∧ (∀ d, d < 16 → kd d = 3 → 1 ≤ nb d ∧ nb d ≤ 8 ∧ ∀ j, j < 4 → sh (4 * d + j) < nb d)
theorem plW_in {od : List Nat} {k : Nat → ClassId} {ad bd ed kd nb sh mb : Nat → Nat} {d : Nat} (h : d ∈ od) : ∀ x ∈ dvW k ad bd ed kd nb sh mb d, x ∈ plW od k ad bd ed kd nb sh mb := fun x hx => List.mem_flatMap.mpr ⟨d, h, hx⟩
