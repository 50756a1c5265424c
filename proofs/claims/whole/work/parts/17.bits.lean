/-! rows on longs, pasted from kit/laws/BITS.to-paste (the family wb_); then rows of mine -/
theorem wb_tb (n : Nat) : (lN n).toBitVec = BitVec.ofNat 64 n := rfl
theorem wb_inj {a b : Int64} (h : a.toBitVec = b.toBitVec) : a = b := Int64.toBitVec_inj.mp h
theorem wb_c : ∀ k, k < 64 → ((nI k).toInt64 &&& 63) = lN k := by decide +kernel
theorem wb_sm : ∀ k, k < 64 → (BitVec.ofNat 64 k).smod 64 = BitVec.ofNat 64 k := by decide +kernel
theorem wb_lt2 {a b : Nat} (h : a < b) : 2 ^ a < 2 ^ b := Nat.pow_lt_pow_right (by decide) h
theorem wb_shl (n : Nat) {k : Nat} (hk : k < 64) : lN n <<< ((nI k).toInt64 &&& 63) = lN (n * 2 ^ k) := by
  rw [wb_c k hk]
  apply wb_inj
  rw [Int64.toBitVec_shiftLeft, wb_tb, wb_tb, wb_tb, wb_sm k hk]
  apply BitVec.eq_of_toNat_eq
  rw [BitVec.shiftLeft_eq', BitVec.toNat_shiftLeft, BitVec.toNat_ofNat, BitVec.toNat_ofNat, BitVec.toNat_ofNat, Nat.mod_eq_of_lt (show k < 2 ^ 64 by omega), Nat.shiftLeft_eq, Nat.mul_mod, Nat.mod_mod, ← Nat.mul_mod]
theorem wb_and {a b : Nat} (ha : a < 2 ^ 64) (hb : b < 2 ^ 64) : lN a &&& lN b = lN (a &&& b) := by
  apply wb_inj
  rw [Int64.toBitVec_and, wb_tb, wb_tb, wb_tb]
  apply BitVec.eq_of_toNat_eq
  rw [BitVec.toNat_and, BitVec.toNat_ofNat, BitVec.toNat_ofNat, BitVec.toNat_ofNat, Nat.mod_eq_of_lt ha, Nat.mod_eq_of_lt hb, Nat.mod_eq_of_lt (Nat.and_lt_two_pow _ hb)]
theorem wb_or {a b : Nat} (ha : a < 2 ^ 64) (hb : b < 2 ^ 64) : lN a ||| lN b = lN (a ||| b) := by
  apply wb_inj
  rw [Int64.toBitVec_or, wb_tb, wb_tb, wb_tb]
  apply BitVec.eq_of_toNat_eq
  rw [BitVec.toNat_or, BitVec.toNat_ofNat, BitVec.toNat_ofNat, BitVec.toNat_ofNat, Nat.mod_eq_of_lt ha, Nat.mod_eq_of_lt hb, Nat.mod_eq_of_lt (Nat.or_lt_two_pow ha hb)]
theorem ss_p64 {x : Nat} (h : x < 64) : 2 ^ x < 2 ^ 64 := wb_lt2 h
theorem ss_l1 {x : Nat} (h : x < 64) : lN 1 <<< ((nI x).toInt64 &&& 63) = lN (2 ^ x) := by rw [wb_shl 1 h, Nat.one_mul]
theorem lN_inj {a b : Nat} (ha : a < 2 ^ 64) (hb : b < 2 ^ 64) (h : lN a = lN b) : a = b := by
  have h1 := congrArg (fun z => z.toBitVec.toNat) h
  simp only [wb_tb, BitVec.toNat_ofNat] at h1
  rwa [Nat.mod_eq_of_lt ha, Nat.mod_eq_of_lt hb] at h1
theorem ss_cv {cv x : Nat} (hcv : cv < 2 ^ 64) (hx : x < 64) : lg_cmp (lN (cv &&& 2 ^ x)) (lN 0) = 0 ↔ cv.testBit x = false := by
  rw [lg_cmp_eq]
  constructor
  · intro h
    have h1 := lN_inj (Nat.and_lt_two_pow _ (ss_p64 hx)) (by decide) h
    have h2 := congrArg (fun z => z.testBit x) h1
    simp only [Nat.testBit_and, Nat.testBit_two_pow, Nat.zero_testBit, decide_true, Bool.and_true] at h2
    exact h2
  · intro h
    have e : cv &&& 2 ^ x = 0 := by
      apply Nat.eq_of_testBit_eq
      intro i
      rw [Nat.testBit_and, Nat.testBit_two_pow, Nat.zero_testBit]
      by_cases hi : x = i
      · subst hi; rw [h]; rfl
      · rw [decide_eq_false hi, Bool.and_false]
    rw [e]
theorem ss_and2 : ∀ n, n < 256 → nI n &&& nI 2 = nI (n / 2 % 2 * 2) := by decide +kernel
theorem ss_and64 : ∀ n, n < 256 → nI n &&& nI 64 = nI (n / 64 % 2 * 64) := by decide +kernel
theorem ss_and128 : ∀ n, n < 256 → nI n &&& nI 128 = nI (n / 128 % 2 * 128) := by decide +kernel
theorem ss_andm4 : ∀ n, n < 16 → nI n &&& (-4) = nI (n / 4 * 4) := by decide +kernel
theorem ss_fif : ∀ n, n < 256 → ∀ k, k < 8 → n / 64 % 2 = 0 → ((nI n &&& (-32)) ||| nI 64) ||| nI k = nI (dff n k) := by decide +kernel
theorem ss_sec : ∀ a, a < 64 → ∀ p, p < 4 → nI a ||| nI (p * 64) = nI (a + 64 * p) := by decide +kernel
theorem ss_sb {a b : Nat} (hb : b < 256) : nI (a * 2 ^ 8) ||| nI b = nI (a * 256 + b) := by
  rw [ss_or]
  congr 1
  have := Nat.shiftLeft_add_eq_or_of_lt (i := 8) (b := b) hb a
  rw [Nat.shiftLeft_eq] at this
  rw [← this]
/-- a sprite's row as the class makes it, and its bits -/
def dsb (B R : Nat → Nat) (L z : Nat) : Nat := if dsd R = 16 then B (128 * (R 6 % 4) + drw B R L z + 8 * (dsp B R z 2 % 16 / 4 * 4)) * 256 + B (128 * (R 6 % 4) + drw B R L z + 8 * (dsp B R z 2 % 16 / 4 * 4) + 16) else B (128 * (R 6 % 4) + drw B R L z + 8 * (dsp B R z 2 % 16))
theorem dsb_lt {B R : Nat → Nat} (hB : ∀ j, B j < 256) (L z : Nat) : dsb B R L z < 65536 := by
  unfold dsb
  split
  · have h1 := hB (128 * (R 6 % 4) + drw B R L z + 8 * (dsp B R z 2 % 16 / 4 * 4))
    have h2 := hB (128 * (R 6 % 4) + drw B R L z + 8 * (dsp B R z 2 % 16 / 4 * 4) + 16)
    omega
  · have h1 := hB (128 * (R 6 % 4) + drw B R L z + 8 * (dsp B R z 2 % 16))
    omega
theorem dsb_bit {B R : Nat → Nat} (hB : ∀ j, B j < 256) {L z c : Nat} (hc : c < dsd R) : dsb B R L z / 2 ^ (dsd R - 1 - c) % 2 = 1 ↔ dbt B R L z c = true := by
  unfold dsb dbt dat
  rw [decide_eq_true_iff]
  rcases dsd_or R with h | h
  · rw [if_neg (by omega), if_neg (by omega), h]
    rw [h] at hc
    rw [show 8 - 1 - c = 7 - c % 8 by omega, show 128 * (R 6 % 4) + drw B R L z + 8 * (dsp B R z 2 % 16) = 128 * (R 6 % 4) + 8 * (dsp B R z 2 % 16) + drw B R L z by omega]
  · rw [if_pos h, if_pos h, h]
    rw [h] at hc
    generalize hi : 128 * (R 6 % 4) + drw B R L z + 8 * (dsp B R z 2 % 16 / 4 * 4) = i
    have e1 : 128 * (R 6 % 4) + 8 * (dsp B R z 2 % 16 / 4 * 4) + drw B R L z = i := by omega
    rw [e1]
    have h1 := hB i
    have h2 := hB (i + 16)
    rcases Nat.lt_or_ge 7 c with h7 | h7
    · rw [if_pos h7]
      rw [show 7 - c % 8 = 15 - c by omega, show 16 - 1 - c = 15 - c by omega]
      have e2 : (B i * 256 + B (i + 16)) / 2 ^ (15 - c) % 2 = B (i + 16) / 2 ^ (15 - c) % 2 := by
        have : 15 - c < 8 := by omega
        have e3 : (256 : Nat) = 2 ^ (15 - c) * (2 * 2 ^ (7 - (15 - c))) := by
          rw [← Nat.mul_assoc, Nat.mul_comm (2 ^ (15 - c)) 2, Nat.mul_assoc, ← Nat.pow_add, show 15 - c + (7 - (15 - c)) = 7 by omega]
        rw [e3, ← Nat.mul_assoc, Nat.mul_comm (B i), Nat.mul_assoc, Nat.mul_add_div (Nat.pow_pos (by omega)), Nat.mul_comm (B i), Nat.mul_assoc, Nat.mul_add_mod]
      rw [e2]
    · rw [if_neg (by omega), Nat.add_zero]
      rw [show 16 - 1 - c = 8 + (7 - c) by omega, show 7 - c % 8 = 7 - c by omega, Nat.pow_add, ← Nat.div_div_eq_div_mul]
      rw [show (B i * 256 + B (i + 16)) / 2 ^ 8 = B i by omega]
      exact Iff.rfl
