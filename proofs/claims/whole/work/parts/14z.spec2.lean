theorem dtl_lt {B R : Nat → Nat} (hB : ∀ j, B j < 256) (x y : Nat) : dtl B R x y < 16 := by
  have h := hB (4 * (R 3 % 128) + dnm B R x y / 8)
  unfold dtl
  split <;> omega
theorem dob_lt {R : Nat → Nat} {c : Nat} (h : c < 16) : dob R c < 16 := by
  unfold dob; split <;> omega
theorem dpx_lt {B R : Nat → Nat} (hB : ∀ j, B j < 256) (L x : Nat) : dpx B R L x < 16 := by
  unfold dpx
  split
  · exact dob_lt (dtl_lt hB x L)
  · exact dcl_lt B R L x 8
