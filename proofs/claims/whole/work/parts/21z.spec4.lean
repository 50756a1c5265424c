theorem dnm_lt (B R : Nat → Nat) (x y : Nat) : dnm B R x y < 32 := Nat.mod_lt _ (by omega)
/-! sprites, as the class draws them: ht how often a column is hit, cl its color -/
def dIv (ht cl : Nat → Nat) (L : Nat) (px0 : Nat → Nat) (sx0 cv co sx : Nat) (px : Nat → Nat) : Prop :=
  cv < 2 ^ 64 ∧ co < 2 ^ 64 ∧ (∀ x, x < 64 → cv.testBit x = decide (0 < ht x)) ∧ (∀ x, x < 64 → co.testBit x = decide (cl x ≠ 0)) ∧ (∃ t : Bool, sx = dts t sx0 ∧ (t = true ↔ ∃ x, x < 64 ∧ 1 < ht x)) ∧ px = fun j => if 64 * L ≤ j ∧ j < 64 * L + 64 ∧ cl (j - 64 * L) ≠ 0 then cl (j - 64 * L) else px0 j
theorem dIv_cg {ht cl ht' cl' : Nat → Nat} {L : Nat} {px0 : Nat → Nat} {sx0 cv co sx : Nat} {px : Nat → Nat} (h : dIv ht cl L px0 sx0 cv co sx px) (h1 : ∀ x, x < 64 → ht' x = ht x) (h2 : ∀ x, x < 64 → cl' x = cl x) : dIv ht' cl' L px0 sx0 cv co sx px := by
  obtain ⟨a1, a2, a3, a4, ⟨t, a5, a6⟩, a7⟩ := h
  refine ⟨a1, a2, fun x hx => by rw [h1 x hx]; exact a3 x hx, fun x hx => by rw [h2 x hx]; exact a4 x hx, ⟨t, a5, a6.trans ?_⟩, a7.trans ?_⟩
  · constructor
    · rintro ⟨x, hx, h⟩; exact ⟨x, hx, by rw [h1 x hx]; exact h⟩
    · rintro ⟨x, hx, h⟩; exact ⟨x, hx, by rw [← h1 x hx]; exact h⟩
  · funext j
    by_cases hj : 64 * L ≤ j ∧ j < 64 * L + 64
    · rw [h2 (j - 64 * L) (by omega)]
    · rw [if_neg (by omega), if_neg (by omega)]
theorem dIv_0 {L : Nat} {px0 : Nat → Nat} {sx0 : Nat} : dIv (fun _ => 0) (fun _ => 0) L px0 sx0 0 0 sx0 px0 := by
  refine ⟨by decide, by decide, fun x _ => by simp, fun x _ => by simp, ⟨false, rfl, by simp⟩, ?_⟩
  funext j; simp
theorem dIv_sx {ht cl : Nat → Nat} {L : Nat} {px0 : Nat → Nat} {sx0 cv co sx : Nat} {px : Nat → Nat} (h : dIv ht cl L px0 sx0 cv co sx px) (hs : sx0 < 256) : sx < 256 := by
  obtain ⟨-, -, -, -, ⟨t, a5, -⟩, -⟩ := h
  rw [a5]; exact dts_lt hs
theorem ss_tbo {n x i : Nat} : (n ||| 2 ^ x).testBit i = (n.testBit i || decide (x = i)) := by rw [Nat.testBit_or, Nat.testBit_two_pow]
theorem dIv_c {ht cl : Nat → Nat} {L : Nat} {px0 : Nat → Nat} {sx0 cv co sx : Nat} {px : Nat → Nat} (h : dIv ht cl L px0 sx0 cv co sx px) (hs : sx0 < 256) {x c : Nat} (hx : x < 64) :
    dIv (ss_up ht x (ht x + 1)) (if cl x = 0 then ss_up cl x c else cl) L px0 sx0 (cv ||| 2 ^ x) (if c ≠ 0 ∧ co.testBit x = false then co ||| 2 ^ x else co) (if cv.testBit x = true then ss_so 32 sx else sx) (if c ≠ 0 ∧ co.testBit x = false then ss_up px (64 * L + x) c else px) := by
  obtain ⟨a1, a2, a3, a4, ⟨t, a5, a6⟩, a7⟩ := h
  have hp : 2 ^ x < 2 ^ 64 := ss_p64 hx
  have b3 := a3 x hx
  have b4 := a4 x hx
  refine ⟨Nat.or_lt_two_pow a1 hp, ?_, ?_, ?_, ?_, ?_⟩
  · split
    · exact Nat.or_lt_two_pow a2 hp
    · exact a2
  · intro i hi
    rw [ss_tbo, a3 i hi]
    unfold ss_up
    by_cases hxi : x = i
    · subst hxi; rw [if_pos rfl]; simp
    · rw [if_neg (Ne.symm hxi)]; simp [hxi]
  · intro i hi
    by_cases hc0 : cl x = 0
    · have e1 : co.testBit x = false := by rw [b4, hc0]; rfl
      rw [if_pos hc0]
      by_cases hc : c = 0
      · rw [if_neg (fun z => z.1 hc), a4 i hi]
        unfold ss_up
        by_cases hxi : i = x
        · subst hxi; rw [if_pos rfl, hc0, hc]
        · rw [if_neg hxi]
      · rw [if_pos ⟨hc, e1⟩, ss_tbo, a4 i hi]
        unfold ss_up
        by_cases hxi : i = x
        · subst hxi; rw [if_pos rfl]; simp [hc]
        · rw [if_neg hxi]; simp [show ¬ x = i from fun z => hxi z.symm]
    · have e1 : co.testBit x = true := by rw [b4]; simp [hc0]
      rw [if_neg hc0, if_neg (fun z => by rw [e1] at z; exact absurd z.2 (by decide))]
      exact a4 i hi
  · by_cases hcv : cv.testBit x = true
    · rw [if_pos hcv]
      refine ⟨true, ?_, ?_⟩
      · rw [a5]; unfold dts; rw [if_pos rfl]
        split
        · exact ss_so32_t sx0 hs
        · rfl
      · have h0 : 0 < ht x := by rw [b3] at hcv; exact of_decide_eq_true hcv
        exact ⟨fun _ => ⟨x, hx, by rw [ss_up_s]; omega⟩, fun _ => rfl⟩
    · rw [if_neg hcv]
      have h0 : ht x = 0 := by rw [b3] at hcv; simpa using hcv
      refine ⟨t, a5, a6.trans ?_⟩
      constructor
      · rintro ⟨i, hi, h⟩
        refine ⟨i, hi, ?_⟩
        by_cases hxi : i = x
        · subst hxi; omega
        · rw [ss_up_n _ _ hxi]; exact h
      · rintro ⟨i, hi, h⟩
        refine ⟨i, hi, ?_⟩
        by_cases hxi : i = x
        · subst hxi; rw [ss_up_s] at h; omega
        · rw [ss_up_n _ _ hxi] at h; exact h
  · by_cases hc0 : cl x = 0
    · have e1 : co.testBit x = false := by rw [b4, hc0]; rfl
      rw [if_pos hc0]
      by_cases hc : c = 0
      · rw [if_neg (fun z => z.1 hc), a7]
        funext j
        unfold ss_up
        by_cases hj : j - 64 * L = x
        · rw [if_pos hj, hj, hc0, hc]
        · rw [if_neg hj]
      · rw [if_pos ⟨hc, e1⟩, a7]
        funext j
        unfold ss_up
        by_cases hj : j = 64 * L + x
        · subst hj
          rw [if_pos rfl, show 64 * L + x - 64 * L = x by omega, if_pos rfl, if_pos (by omega)]
        · rw [if_neg hj]
          by_cases hj2 : 64 * L ≤ j ∧ j < 64 * L + 64
          · rw [if_neg (show ¬ j - 64 * L = x by omega)]
          · dsimp only; rw [if_neg (by omega), if_neg (by omega)]
    · have e1 : co.testBit x = true := by rw [b4]; simp [hc0]
      rw [if_neg hc0, if_neg (fun z => by rw [e1] at z; exact absurd z.2 (by decide))]
      exact a7
/-- sprite z, its first c columns done -/
def dpr (B R : Nat → Nat) (L z c x : Nat) : Bool := dhs B R L z x && decide (x + dof B R z < dsp B R z 1 + c)
def dhc (B R : Nat → Nat) (L z c x : Nat) : Nat := dht B R L x z + (if dpr B R L z c x = true then 1 else 0)
def dkc (B R : Nat → Nat) (L z c x : Nat) : Nat := if dpr B R L z c x = true ∧ dcl B R L x z = 0 then dsp B R z 3 % 16 else dcl B R L x z
theorem dpr_0 (B R : Nat → Nat) (L z x : Nat) : dpr B R L z 0 x = false := by
  unfold dpr dhs
  by_cases h : dsp B R z 1 ≤ x + dof B R z
  · rw [decide_eq_false (p := x + dof B R z < dsp B R z 1 + 0) (by omega), Bool.and_false]
  · rw [decide_eq_false h]; simp
theorem dpr_s {B R : Nat → Nat} {L z c x : Nat} (h : x + dof B R z ≠ dsp B R z 1 + c ∨ ¬ dhs B R L z x = true) : dpr B R L z (c + 1) x = dpr B R L z c x := by
  unfold dpr
  rcases h with h | h
  · rw [show decide (x + dof B R z < dsp B R z 1 + (c + 1)) = decide (x + dof B R z < dsp B R z 1 + c) from decide_eq_decide.mpr (by omega)]
  · rw [Bool.not_eq_true] at h; rw [h]; simp
theorem dpr_e {B R : Nat → Nat} {L z x : Nat} : dpr B R L z (dsz R) x = dhs B R L z x := by
  unfold dpr
  cases h : dhs B R L z x
  · rfl
  · unfold dhs at h
    simp only [Bool.and_eq_true, decide_eq_true_eq] at h
    rw [decide_eq_true h.1.2]; rfl
theorem dIv_st {B R : Nat → Nat} {L z c : Nat} {px0 : Nat → Nat} {sx0 cv co sx : Nat} {px : Nat → Nat} (h : dIv (dhc B R L z c) (dkc B R L z c) L px0 sx0 cv co sx px) (hn : ∀ x, x < 64 → x + dof B R z ≠ dsp B R z 1 + c ∨ ¬ dhs B R L z x = true) : dIv (dhc B R L z (c + 1)) (dkc B R L z (c + 1)) L px0 sx0 cv co sx px := by
  refine dIv_cg h (fun x hx => ?_) (fun x hx => ?_)
  · unfold dhc; rw [dpr_s (hn x hx)]
  · unfold dkc; rw [dpr_s (hn x hx)]
theorem dIv_hit {B R : Nat → Nat} {L z c : Nat} {px0 : Nat → Nat} {sx0 cv co sx : Nat} {px : Nat → Nat} (h : dIv (dhc B R L z c) (dkc B R L z c) L px0 sx0 cv co sx px) (hs : sx0 < 256) {x : Nat} (hx : x < 64) (h1 : x + dof B R z = dsp B R z 1 + c) (h2 : dhs B R L z x = true) :
    dIv (dhc B R L z (c + 1)) (dkc B R L z (c + 1)) L px0 sx0 (cv ||| 2 ^ x) (if dsp B R z 3 % 16 ≠ 0 ∧ co.testBit x = false then co ||| 2 ^ x else co) (if cv.testBit x = true then ss_so 32 sx else sx) (if dsp B R z 3 % 16 ≠ 0 ∧ co.testBit x = false then ss_up px (64 * L + x) (dsp B R z 3 % 16) else px) := by
  have e0 : dpr B R L z c x = false := by unfold dpr; rw [decide_eq_false (by omega), Bool.and_false]
  have e1 : dpr B R L z (c + 1) x = true := by unfold dpr; rw [decide_eq_true (by omega), h2]; rfl
  have hk : dkc B R L z c x = dcl B R L x z := by unfold dkc; rw [if_neg (fun z9 => by rw [e0] at z9; exact absurd z9.1 (by decide))]
  refine dIv_cg (dIv_c h hs (c := dsp B R z 3 % 16) hx) (fun i hi => ?_) (fun i hi => ?_)
  · by_cases hxi : i = x
    · subst hxi; rw [ss_up_s]; unfold dhc; rw [e0, e1]; simp
    · rw [ss_up_n _ _ hxi]; unfold dhc; rw [dpr_s (Or.inl (by omega))]
  · by_cases hxi : i = x
    · subst hxi
      rw [hk]
      by_cases h0 : dcl B R L i z = 0
      · rw [if_pos h0, ss_up_s]; unfold dkc; rw [if_pos ⟨e1, h0⟩]
      · rw [if_neg h0, hk]; unfold dkc; rw [if_neg (fun z9 => h0 z9.2)]
    · have e2 : dkc B R L z (c + 1) i = dkc B R L z c i := by unfold dkc; rw [dpr_s (Or.inl (by omega))]
      rw [e2]
      split
      · rw [ss_up_n _ _ hxi]
      · rfl
theorem dIv_b {B R : Nat → Nat} {L z : Nat} {px0 : Nat → Nat} {sx0 cv co sx : Nat} {px : Nat → Nat} (h : dIv (fun x => dht B R L x z) (fun x => dcl B R L x z) L px0 sx0 cv co sx px) : dIv (dhc B R L z 0) (dkc B R L z 0) L px0 sx0 cv co sx px := by
  refine dIv_cg h (fun x hx => ?_) (fun x hx => ?_)
  · unfold dhc; rw [dpr_0]; rfl
  · unfold dkc; rw [dpr_0, if_neg (by simp)]
theorem dIv_e {B R : Nat → Nat} {L z : Nat} {px0 : Nat → Nat} {sx0 cv co sx : Nat} {px : Nat → Nat} (h : dIv (dhc B R L z (dsz R)) (dkc B R L z (dsz R)) L px0 sx0 cv co sx px) (hd : ddr B R L z = true) : dIv (fun x => dht B R L x (z + 1)) (fun x => dcl B R L x (z + 1)) L px0 sx0 cv co sx px := by
  refine dIv_cg h (fun x hx => ?_) (fun x hx => ?_)
  · show dht B R L x (z + 1) = _
    rw [dht, hd]; unfold dhc; rw [dpr_e, Bool.true_and]
    split <;> rfl
  · show dcl B R L x (z + 1) = _
    rw [dcl, hd]; unfold dkc; rw [dpr_e, Bool.true_and]
    by_cases h1 : dhs B R L z x = true <;> by_cases h2 : dcl B R L x z = 0 <;> simp [h1, h2]
theorem ss_nf {b : Bool} (h : ¬ b = false) : b = true := by cases b; exact absurd rfl h; rfl
