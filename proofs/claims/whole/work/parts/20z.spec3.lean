/-! tiles, as the class draws them -/
theorem dtp0 {B R : Nat → Nat} {L t i : Nat} (ht : t < 8) (hi : i < 8) : dnm B R (8 * t + i) L = dnm B R (8 * t) L ∧ (8 * t + i) % 8 = i := by
  refine ⟨?_, by omega⟩
  unfold dnm
  rw [show (8 * t + i) / 8 = 8 * t / 8 by omega]
theorem dtp1 {B R : Nat → Nat} {L t i pn pa : Nat} (ht : t < 8) (hi : i < 8) (hpn : pn = B (256 * (R 4 % 2) + L % 8 + 8 * dnm B R (8 * t) L)) (hpa : pa = B (4 * (R 3 % 128) + dnm B R (8 * t) L / 8)) (h : pn / 2 ^ (7 - i) % 2 = 1) : dob R (pa / 16) = (fun x => dob R (dtl B R x L)) (8 * t + i) := by
  show _ = dob R (dtl B R (8 * t + i) L)
  unfold dtl
  rw [(dtp0 ht hi).1, show (8 * t + i) % 8 = i by omega, show 256 * (R 4 % 2) + 8 * dnm B R (8 * t) L + L % 8 = 256 * (R 4 % 2) + L % 8 + 8 * dnm B R (8 * t) L by omega, ← hpn, ← hpa, if_pos h]
theorem dtp2 {B R : Nat → Nat} {L t i pn pa : Nat} (ht : t < 8) (hi : i < 8) (hpn : pn = B (256 * (R 4 % 2) + L % 8 + 8 * dnm B R (8 * t) L)) (hpa : pa = B (4 * (R 3 % 128) + dnm B R (8 * t) L / 8)) (h : ¬ pn / 2 ^ (7 - i) % 2 = 1) : dob R (pa % 16) = (fun x => dob R (dtl B R x L)) (8 * t + i) := by
  show _ = dob R (dtl B R (8 * t + i) L)
  unfold dtl
  rw [(dtp0 ht hi).1, show (8 * t + i) % 8 = i by omega, show 256 * (R 4 % 2) + 8 * dnm B R (8 * t) L + L % 8 = 256 * (R 4 % 2) + L % 8 + 8 * dnm B R (8 * t) L by omega, ← hpn, ← hpa, if_neg h]
