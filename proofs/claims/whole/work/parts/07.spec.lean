/-! SPEC: what a line of the screen shows, in numbers: B the chip's own bytes, R its registers, L the line -/
def dsp (B R : Nat → Nat) (k w : Nat) : Nat := B (32 * (R 5 % 16) + 4 * k + w)
def dtm (R : Nat → Nat) : Nat := if R 1 % 2 = 1 then 2 else 1
def dsd (R : Nat → Nat) : Nat := if R 1 / 2 % 2 = 1 then 16 else 8
def dsz (R : Nat → Nat) : Nat := dsd R * dtm R
def don (B R : Nat → Nat) (L k : Nat) : Bool := if dsp B R k 0 < 224 then decide (dsp B R k 0 + 1 ≤ L ∧ L < dsp B R k 0 + 1 + dsz R) else decide (L + 255 < dsp B R k 0 + dsz R)
def dbl (B R : Nat → Nat) (L k : Nat) : Nat := if dsp B R k 0 < 224 then L - (dsp B R k 0 + 1) else L + 255 - dsp B R k 0
def drw (B R : Nat → Nat) (L k : Nat) : Nat := dbl B R L k / dtm R
def dof (B R : Nat → Nat) (k : Nat) : Nat := if 127 < dsp B R k 3 then 32 else 0
def dcc (B R : Nat → Nat) (k x : Nat) : Nat := (x + dof B R k - dsp B R k 1) / dtm R
def dat (B R : Nat → Nat) (L k c : Nat) : Nat := if dsd R = 16 then 128 * (R 6 % 4) + 8 * (dsp B R k 2 % 16 / 4 * 4) + drw B R L k + (if 7 < c then 16 else 0) else 128 * (R 6 % 4) + 8 * (dsp B R k 2 % 16) + drw B R L k
def dbt (B R : Nat → Nat) (L k c : Nat) : Bool := decide (B (dat B R L k c) / 2 ^ (7 - c % 8) % 2 = 1)
def dhs (B R : Nat → Nat) (L k x : Nat) : Bool := decide (dsp B R k 1 ≤ x + dof B R k) && decide (x + dof B R k < dsp B R k 1 + dsz R) && dbt B R L k (dcc B R k x)
def dth (f : Nat → Nat) : Nat → Nat → Nat
  | 0, k => k
  | n + 1, k => if f k = 208 then k else dth f n (k + 1)
def dmo (B R : Nat → Nat) : Nat := dth (fun k => dsp B R k 0) 8 0
def dct (B R : Nat → Nat) (L : Nat) : Nat → Nat
  | 0 => 0
  | k + 1 => if don B R L k = true then dct B R L k + 1 else dct B R L k
def ddr (B R : Nat → Nat) (L k : Nat) : Bool := decide (k < dmo B R) && decide (dct B R L k < 4) && don B R L k
def dht (B R : Nat → Nat) (L x : Nat) : Nat → Nat
  | 0 => 0
  | k + 1 => if (ddr B R L k && dhs B R L k x) = true then dht B R L x k + 1 else dht B R L x k
def dcl (B R : Nat → Nat) (L x : Nat) : Nat → Nat
  | 0 => 0
  | k + 1 => if (ddr B R L k && dhs B R L k x && decide (dcl B R L x k = 0)) = true then dsp B R k 3 % 16 else dcl B R L x k
def dnm (B R : Nat → Nat) (x y : Nat) : Nat := B (32 * (R 2 % 16) + y / 8 * 8 + x / 8) % 32
def dtl (B R : Nat → Nat) (x y : Nat) : Nat := if B (256 * (R 4 % 2) + 8 * dnm B R x y + y % 8) / 2 ^ (7 - x % 8) % 2 = 1 then B (4 * (R 3 % 128) + dnm B R x y / 8) / 16 else B (4 * (R 3 % 128) + dnm B R x y / 8) % 16
def dob (R : Nat → Nat) (c : Nat) : Nat := if c = 0 then R 7 % 16 else c
def dpx (B R : Nat → Nat) (L x : Nat) : Nat := if dcl B R L x 8 = 0 then dob R (dtl B R x L) else dcl B R L x 8
/-- some column before n is hit twice, by the sprites before k -/
def dtc (B R : Nat → Nat) (L k : Nat) : Nat → Bool
  | 0 => false
  | n + 1 => dtc B R L k n || decide (1 < dht B R L n k)
def dff (st k : Nat) : Nat := if st / 64 % 2 = 1 then st else st / 128 * 128 + st / 32 % 2 * 32 + 64 + k
def d5f (B R : Nat → Nat) (L st : Nat) : Nat → Nat
  | 0 => st
  | k + 1 => if k < dmo B R ∧ don B R L k = true ∧ dct B R L k = 4 then dff (d5f B R L st k) k else d5f B R L st k
def dts (b : Bool) (st : Nat) : Nat := if b = true then ss_so 32 st else st
/-- the pixels with n columns of line L new -/
def dln (f : Nat → Nat) (L n : Nat) (PX : Nat → Nat) : Nat → Nat := fun j => if 64 * L ≤ j ∧ j < 64 * L + n then f (j - 64 * L) else PX j
-- what follows of it
theorem ss_or128 : ∀ n, n < 256 → nI n ||| nI 128 = nI (ss_so 128 n) := by decide +kernel
theorem ss_or32 : ∀ n, n < 256 → nI n ||| nI 32 = nI (ss_so 32 n) := by decide +kernel
theorem ss_so_lt : ∀ n, n < 256 → ss_so 32 n < 256 ∧ ss_so 128 n < 256 := by decide +kernel
theorem ss_so32_t : ∀ n, n < 256 → ss_so 32 (ss_so 32 n) = ss_so 32 n := by decide +kernel
theorem ss_so32_6 : ∀ n, n < 256 → ss_so 32 n / 64 % 2 = n / 64 % 2 := by decide +kernel
theorem dff_lt : ∀ n, n < 256 → ∀ k, k < 8 → dff n k < 256 := by decide +kernel
theorem dff_so : ∀ n, n < 256 → ∀ k, k < 8 → dff (ss_so 32 n) k = ss_so 32 (dff n k) := by decide +kernel
theorem dtm_le (R : Nat → Nat) : 1 ≤ dtm R ∧ dtm R ≤ 2 := by unfold dtm; split <;> omega
theorem dsd_or (R : Nat → Nat) : dsd R = 8 ∨ dsd R = 16 := by unfold dsd; split <;> omega
theorem dtm_or (R : Nat → Nat) : dtm R = 1 ∨ dtm R = 2 := by unfold dtm; split <;> omega
theorem dsz_le (R : Nat → Nat) : 8 ≤ dsz R ∧ dsz R ≤ 32 := by
  unfold dsz
  rcases dsd_or R with h | h <;> rcases dtm_or R with h2 | h2 <;> rw [h, h2] <;> omega
theorem dof_or (B R : Nat → Nat) (k : Nat) : dof B R k = 0 ∨ dof B R k = 32 := by unfold dof; split <;> omega
theorem dth_le (f : Nat → Nat) : ∀ n k, k ≤ dth f n k ∧ dth f n k ≤ k + n := by
  intro n
  induction n with
  | zero => intro k; simp [dth]
  | succ n ih =>
    intro k
    unfold dth
    split
    · omega
    · have := ih (k + 1); omega
theorem dth_ne (f : Nat → Nat) : ∀ n k j, k ≤ j → j < dth f n k → f j ≠ 208 := by
  intro n
  induction n with
  | zero => intro k j h1 h2; simp [dth] at h2; omega
  | succ n ih =>
    intro k j h1 h2
    unfold dth at h2
    split at h2
    · omega
    · rename_i h
      rcases Nat.lt_or_ge k j with h3 | h3
      · exact ih (k + 1) j h3 h2
      · have : j = k := by omega
        rw [this]; exact h
theorem dth_eq (f : Nat → Nat) : ∀ n k, dth f n k < k + n → f (dth f n k) = 208 := by
  intro n
  induction n with
  | zero => intro k h; simp [dth] at h
  | succ n ih =>
    intro k h
    unfold dth at h ⊢
    split
    · assumption
    · rename_i h1
      rw [if_neg h1] at h
      exact ih (k + 1) (by omega)
theorem dmo_le (B R : Nat → Nat) : dmo B R ≤ 8 := by
  have := (dth_le (fun k => dsp B R k 0) 8 0).2
  unfold dmo; omega
/-- going on from k, none of the ones before k being the mark -/
theorem dth_from (f : Nat → Nat) : ∀ (k n : Nat), (∀ j, j < k → f j ≠ 208) → dth f (k + n) 0 = dth f n k := by
  have key : ∀ (f : Nat → Nat) (k n a : Nat), (∀ j, a ≤ j → j < a + k → f j ≠ 208) → dth f (k + n) a = dth f n (a + k) := by
    intro f k
    induction k with
    | zero => intro n a _; rw [Nat.zero_add, Nat.add_zero]
    | succ k ih =>
      intro n a h
      rw [show k + 1 + n = (k + n) + 1 by omega]
      rw [dth, if_neg (h a (Nat.le_refl _) (by omega)), ih n (a + 1) (fun j h1 h2 => h j (by omega) (by omega))]
      rw [show a + 1 + k = a + (k + 1) by omega]
  intro k n h
  have := key f k n 0 (fun j _ h2 => h j (by omega))
  rw [Nat.zero_add] at this
  exact this
theorem dct_mono (B R : Nat → Nat) (L : Nat) : ∀ n k, dct B R L k ≤ dct B R L (k + n) := by
  intro n
  induction n with
  | zero => intro k; exact Nat.le_refl _
  | succ n ih =>
    intro k
    have h := ih k
    show dct B R L k ≤ (if don B R L (k + n) = true then dct B R L (k + n) + 1 else dct B R L (k + n))
    split <;> omega
theorem dct_le (B R : Nat → Nat) (L : Nat) : ∀ k, dct B R L k ≤ k := by
  intro k
  induction k with
  | zero => simp [dct]
  | succ k ih => unfold dct; split <;> omega
theorem ddr_stop {B R : Nat → Nat} {L k : Nat} (h : dmo B R ≤ k ∨ 4 ≤ dct B R L k) (n : Nat) : ddr B R L (k + n) = false := by
  have hm := dct_mono B R L n k
  unfold ddr
  rcases h with h | h
  · rw [decide_eq_false (by omega)]; simp
  · rw [decide_eq_false (p := dct B R L (k + n) < 4) (by omega)]; simp
theorem dht_stop {B R : Nat → Nat} {L k : Nat} (x : Nat) (h : dmo B R ≤ k ∨ 4 ≤ dct B R L k) : ∀ n, dht B R L x (k + n) = dht B R L x k ∧ dcl B R L x (k + n) = dcl B R L x k := by
  intro n
  induction n with
  | zero => exact ⟨rfl, rfl⟩
  | succ n ih =>
    have hs := ddr_stop h n
    rw [show k + (n + 1) = (k + n) + 1 by omega]
    refine ⟨?_, ?_⟩
    · rw [dht, hs]; simpa using ih.1
    · rw [dcl, hs]; simpa using ih.2
theorem dht_end {B R : Nat → Nat} {L k : Nat} (x : Nat) (hk : k ≤ 8) (h : dmo B R ≤ k ∨ 4 ≤ dct B R L k) : dht B R L x 8 = dht B R L x k ∧ dcl B R L x 8 = dcl B R L x k := by
  have := dht_stop x h (8 - k)
  rw [show k + (8 - k) = 8 by omega] at this
  exact this
theorem dtc_iff {B R : Nat → Nat} {L k : Nat} : ∀ n, dtc B R L k n = true ↔ ∃ x, x < n ∧ 1 < dht B R L x k := by
  intro n
  induction n with
  | zero => simp [dtc]
  | succ n ih =>
    rw [dtc, Bool.or_eq_true, ih, decide_eq_true_iff]
    constructor
    · rintro (⟨x, h1, h2⟩ | h)
      · exact ⟨x, by omega, h2⟩
      · exact ⟨n, by omega, h⟩
    · rintro ⟨x, h1, h2⟩
      rcases Nat.lt_or_ge x n with h3 | h3
      · exact Or.inl ⟨x, h3, h2⟩
      · have : x = n := by omega
        subst this
        exact Or.inr h2
theorem d5f_lt {B R : Nat → Nat} {L st : Nat} (h : st < 256) : ∀ k, k ≤ 8 → d5f B R L st k < 256 := by
  intro k
  induction k with
  | zero => intro _; exact h
  | succ k ih =>
    intro hk
    unfold d5f
    split
    · exact dff_lt _ (ih (by omega)) k (by omega)
    · exact ih (by omega)
theorem dts_lt {b : Bool} {st : Nat} (h : st < 256) : dts b st < 256 := by
  unfold dts; split
  · exact (ss_so_lt st h).1
  · exact h
theorem dln_0 (f : Nat → Nat) (L : Nat) (PX : Nat → Nat) : dln f L 0 PX = PX := by
  funext j; unfold dln; rw [if_neg (by omega)]
theorem dln_s (f : Nat → Nat) (L n : Nat) (PX : Nat → Nat) : ss_up (dln f L n PX) (64 * L + n) (f n) = dln f L (n + 1) PX := by
  funext j
  unfold ss_up dln
  by_cases h : j = 64 * L + n
  · subst h; rw [if_pos rfl, if_pos (by omega), show 64 * L + n - 64 * L = n by omega]
  · rw [if_neg h]
    by_cases h2 : 64 * L ≤ j ∧ j < 64 * L + n
    · rw [if_pos h2, if_pos (by omega)]
    · rw [if_neg h2, if_neg (by omega)]
theorem dln_lt {f : Nat → Nat} {L n N : Nat} {PX : Nat → Nat} (hf : ∀ j, f j < N) (hP : ∀ j, PX j < N) : ∀ j, dln f L n PX j < N := by
  intro j; unfold dln; split
  · exact hf _
  · exact hP _
theorem drw_lt {B R : Nat → Nat} {L k : Nat} (h : don B R L k = true) : dbl B R L k < dsz R ∧ drw B R L k < dsd R := by
  have h1 : dbl B R L k < dsz R := by
    have hz := dsz_le R
    unfold don at h
    unfold dbl
    split at h
    · rename_i h0; rw [if_pos h0]; have := of_decide_eq_true h; omega
    · rename_i h0; rw [if_neg h0]; have := of_decide_eq_true h; omega
  refine ⟨h1, ?_⟩
  unfold drw
  unfold dsz at h1
  rcases dtm_or R with h2 | h2 <;> rw [h2] at h1 ⊢ <;> omega
theorem dat_lt {B R : Nat → Nat} {L k c : Nat} (h : don B R L k = true) : dat B R L k c < 512 := by
  have h1 := (drw_lt h).2
  unfold dat
  rcases dsd_or R with h2 | h2
  · rw [if_neg (by omega)]; rw [h2] at h1; omega
  · rw [if_pos h2]; rw [h2] at h1; split <;> omega
theorem don_t {B R : Nat → Nat} {L k : Nat} (h : if dsp B R k 0 < 224 then dsp B R k 0 + 1 ≤ L ∧ L < dsp B R k 0 + 1 + dsz R else L + 255 < dsp B R k 0 + dsz R) : don B R L k = true := by
  unfold don
  split
  · rename_i h0; rw [if_pos h0] at h; exact decide_eq_true h
  · rename_i h0; rw [if_neg h0] at h; exact decide_eq_true h
theorem don_f {B R : Nat → Nat} {L k : Nat} (h : ¬ if dsp B R k 0 < 224 then dsp B R k 0 + 1 ≤ L ∧ L < dsp B R k 0 + 1 + dsz R else L + 255 < dsp B R k 0 + dsz R) : ¬ don B R L k = true := by
  unfold don
  split
  · rename_i h0; rw [if_pos h0] at h; simpa using h
  · rename_i h0; rw [if_neg h0] at h; simpa using h
theorem drw_1 {B R : Nat → Nat} {L k : Nat} (h : dsp B R k 0 < 224) : drw B R L k = (L - (dsp B R k 0 + 1)) / dtm R := by unfold drw dbl; rw [if_pos h]
theorem drw_2 {B R : Nat → Nat} {L k : Nat} (h : ¬ dsp B R k 0 < 224) : drw B R L k = (L + 255 - dsp B R k 0) / dtm R := by unfold drw dbl; rw [if_neg h]
theorem dhs_i {B R : Nat → Nat} {L k x : Nat} (h1 : dsp B R k 1 ≤ x + dof B R k) (h2 : x + dof B R k < dsp B R k 1 + dsz R) : dhs B R L k x = true ↔ B (dat B R L k (dcc B R k x)) / 2 ^ (7 - dcc B R k x % 8) % 2 = 1 := by
  unfold dhs dbt
  rw [decide_eq_true h1, decide_eq_true h2]
  simp
theorem dhs_o {B R : Nat → Nat} {L k x : Nat} (h : ¬ (dsp B R k 1 ≤ x + dof B R k ∧ x + dof B R k < dsp B R k 1 + dsz R)) : ¬ dhs B R L k x = true := by
  unfold dhs
  intro q
  simp only [Bool.and_eq_true, decide_eq_true_eq] at q
  exact h q.1
/-- the slots: where an address's page lies, and what is read there (d = 4 * slot + part) -/
def msl (pr a : Nat) : Nat := pr / 4 ^ (a / 64) % 4
def mpg (wd se : Nat → Nat) (s a : Nat) : Nat := if wd s = 1 then se s / 4 ^ (a / 64) % 4 else 0
def mget (kd sh mb : Nat → Nat) (d a : Nat) : Nat := if kd d = 1 ∨ kd d = 2 then mb (256 * d + a) else if kd d = 3 then (if 64 ≤ a ∧ a ≤ 191 then mb (256 * d + 32 * sh (4 * d + a / 32 - 2) + a % 32) else 255) else if kd d = 4 then mb (256 * d + a % 64) else 255
theorem msl_lt (pr a : Nat) : msl pr a < 4 := Nat.mod_lt _ (by omega)
theorem mpg_lt (wd se : Nat → Nat) (s a : Nat) : mpg wd se s a < 4 := by
  unfold mpg; split
  · exact Nat.mod_lt _ (by omega)
  · omega
theorem mpw_le (n i : Nat) : n / 4 ^ i ≤ n := Nat.div_le_self _ _
theorem mpw_s (n i : Nat) : n / 4 ^ i / 4 = n / 4 ^ (i + 1) := by rw [Nat.div_div_eq_div_mul, Nat.pow_succ]
/-- four numbers shown, n banks -/
def mshn (sh : Nat → Nat) (d n i : Nat) : Nat → Nat := fun j => if 4 * d ≤ j ∧ j < 4 * d + i then (j - 4 * d) % n else sh j
theorem mshn_0 (sh : Nat → Nat) (d n : Nat) : mshn sh d n 0 = sh := by
  funext j; unfold mshn; rw [if_neg (by omega)]
theorem mshn_s (sh : Nat → Nat) (d n i : Nat) : ss_up (mshn sh d n i) (4 * d + i) (i % n) = mshn sh d n (i + 1) := by
  funext j
  unfold ss_up mshn
  by_cases h : j = 4 * d + i
  · subst h; rw [if_pos rfl, if_pos (by omega), show 4 * d + i - 4 * d = i by omega]
  · rw [if_neg h]
    by_cases h2 : 4 * d ≤ j ∧ j < 4 * d + i
    · rw [if_pos h2, if_pos (by omega)]
    · rw [if_neg h2, if_neg (by omega)]
theorem st_off {B R : Nat → Nat} {L i : Nat} (h : ¬ don B R L i = true) (x : Nat) : dct B R L (i + 1) = dct B R L i ∧ dht B R L x (i + 1) = dht B R L x i ∧ dcl B R L x (i + 1) = dcl B R L x i := by
  have hd : ddr B R L i = false := by unfold ddr; rw [Bool.not_eq_true] at h; rw [h]; simp
  refine ⟨?_, ?_, ?_⟩
  · show (if don B R L i = true then dct B R L i + 1 else dct B R L i) = _; rw [if_neg h]
  · rw [dht, hd]; simp
  · rw [dcl, hd]; simp
theorem ddr_t {B R : Nat → Nat} {L i : Nat} (hd : don B R L i = true) (h1 : i < dmo B R) (h2 : dct B R L i < 4) : ddr B R L i = true := by
  unfold ddr; rw [decide_eq_true h1, decide_eq_true h2, hd]; rfl
theorem st_ct {B R : Nat → Nat} {L i : Nat} (hd : don B R L i = true) : dct B R L (i + 1) = dct B R L i + 1 := by
  show (if don B R L i = true then dct B R L i + 1 else dct B R L i) = _; rw [if_pos hd]
theorem st_no {B R : Nat → Nat} {L i x : Nat} (hh : ¬ dhs B R L i x = true) : dht B R L x (i + 1) = dht B R L x i ∧ dcl B R L x (i + 1) = dcl B R L x i := by
  rw [Bool.not_eq_true] at hh
  exact ⟨by rw [dht, hh]; simp, by rw [dcl, hh]; simp⟩
theorem st_hit {B R : Nat → Nat} {L i x : Nat} (hd : don B R L i = true) (h1 : i < dmo B R) (h2 : dct B R L i < 4) (hh : dhs B R L i x = true) : dht B R L x (i + 1) = dht B R L x i + 1 := by
  rw [dht, ddr_t hd h1 h2, hh]; simp
theorem st_c0 {B R : Nat → Nat} {L i x : Nat} (hd : don B R L i = true) (h1 : i < dmo B R) (h2 : dct B R L i < 4) (hh : dhs B R L i x = true) (h0 : dcl B R L x i = 0) : dcl B R L x (i + 1) = dsp B R i 3 % 16 := by
  rw [dcl, ddr_t hd h1 h2, hh, h0]; simp
theorem st_c1 {B R : Nat → Nat} {L i x : Nat} (h0 : ¬ dcl B R L x i = 0) : dcl B R L x (i + 1) = dcl B R L x i := by
  rw [dcl, decide_eq_false h0]; simp
theorem ss_and32 : ∀ n, n < 256 → nI n &&& nI 32 = nI (n / 32 % 2 * 32) := by decide +kernel
theorem d5f_0 {B R : Nat → Nat} {L st i : Nat} (h : ¬ (don B R L i = true ∧ dct B R L i = 4)) : d5f B R L st (i + 1) = d5f B R L st i := by
  show (if i < dmo B R ∧ don B R L i = true ∧ dct B R L i = 4 then dff (d5f B R L st i) i else d5f B R L st i) = _
  rw [if_neg (fun q => h q.2)]
theorem d5f_1 {B R : Nat → Nat} {L st i : Nat} (h0 : i < dmo B R) (h : don B R L i = true) (h2 : dct B R L i = 4) : d5f B R L st (i + 1) = dff (d5f B R L st i) i := by
  show (if i < dmo B R ∧ don B R L i = true ∧ dct B R L i = 4 then dff (d5f B R L st i) i else d5f B R L st i) = _
  rw [if_pos ⟨h0, h, h2⟩]
theorem d5f_n {B R : Nat → Nat} {L st k : Nat} (h : dmo B R ≤ k) : ∀ n, d5f B R L st (k + n) = d5f B R L st k := by
  intro n
  induction n with
  | zero => rfl
  | succ n ih =>
    show (if k + n < dmo B R ∧ don B R L (k + n) = true ∧ dct B R L (k + n) = 4 then dff (d5f B R L st (k + n)) (k + n) else d5f B R L st (k + n)) = _
    rw [if_neg (by omega), ih]
theorem d5f_e {B R : Nat → Nat} {L st : Nat} : d5f B R L st 8 = d5f B R L st (dmo B R) := by
  have h := dmo_le B R
  have := d5f_n (B := B) (R := R) (L := L) (st := st) (k := dmo B R) (Nat.le_refl _) (8 - dmo B R)
  rw [show dmo B R + (8 - dmo B R) = 8 by omega] at this
  exact this
theorem dff_b {st k : Nat} (h : st / 2 ^ 6 % 2 = 1) : dff st k = st := by unfold dff; rw [if_pos (by omega)]
theorem dff_n {st k : Nat} (h : ¬ st / 2 ^ 6 % 2 = 1) : dff st k = st / 128 * 128 + st / 32 % 2 * 32 + 64 + k := by unfold dff; rw [if_neg (by omega)]
theorem dts_s {B R : Nat → Nat} {L i st : Nat} (h : st < 256) : dts (decide (1 < dht B R L i 8)) (dts (dtc B R L 8 i) st) = dts (dtc B R L 8 (i + 1)) st := by
  rw [dtc]
  unfold dts
  by_cases h1 : dtc B R L 8 i = true <;> by_cases h2 : 1 < dht B R L i 8
  · rw [if_pos h1, decide_eq_true h2, if_pos rfl, h1, if_pos (by simp), ss_so32_t st h]
  · rw [if_pos h1, decide_eq_false h2, if_neg (by decide), h1, if_pos (by simp)]
  · rw [if_neg h1, decide_eq_true h2, if_pos rfl, if_pos (by simp)]
  · rw [if_neg h1, decide_eq_false h2, if_neg (by decide), if_neg (by simpa using h1)]
theorem dts_0 {B R : Nat → Nat} {L st : Nat} : dts (dtc B R L 8 0) st = st := rfl
theorem dht_le (B R : Nat → Nat) (L x : Nat) : ∀ i, dht B R L x i ≤ i := by
  intro i
  induction i with
  | zero => simp [dht]
  | succ i ih => rw [dht]; split <;> omega
theorem dcl_lt (B R : Nat → Nat) (L x : Nat) : ∀ i, dcl B R L x i < 16 := by
  intro i
  induction i with
  | zero => simp [dcl]
  | succ i ih => rw [dcl]; split <;> omega
