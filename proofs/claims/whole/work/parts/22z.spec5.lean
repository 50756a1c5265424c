theorem dcd {R : Nat → Nat} {c : Nat} (h : c < dsz R) : c / dtm R < dsd R := by
  unfold dsz at h
  exact Nat.div_lt_of_lt_mul (by rw [Nat.mul_comm]; exact h)
theorem dhs_bit {B R : Nat → Nat} (hB : ∀ j, B j < 256) {L z c x : Nat} (e : x + dof B R z = dsp B R z 1 + c) (hc : c < dsz R) : dhs B R L z x = true ↔ dsb B R L z / 2 ^ (dsd R - 1 - c / dtm R) % 2 = 1 := by
  rw [dsb_bit hB (dcd hc)]
  unfold dhs
  have e2 : dcc B R z x = c / dtm R := by unfold dcc; rw [show x + dof B R z - dsp B R z 1 = c by omega]
  rw [e2, decide_eq_true (show dsp B R z 1 ≤ x + dof B R z by omega), decide_eq_true (show x + dof B R z < dsp B R z 1 + dsz R by omega)]
  simp
theorem dIv_nb {B R : Nat → Nat} {L z c : Nat} {px0 : Nat → Nat} {sx0 cv co sx : Nat} {px : Nat → Nat} (h : dIv (dhc B R L z c) (dkc B R L z c) L px0 sx0 cv co sx px) (hB : ∀ j, B j < 256) (hc : c < dsz R) (hb : ¬ dsb B R L z / 2 ^ (dsd R - 1 - c / dtm R) % 2 = 1) : dIv (dhc B R L z (c + 1)) (dkc B R L z (c + 1)) L px0 sx0 cv co sx px := by
  refine dIv_st h (fun x _ => ?_)
  by_cases e : x + dof B R z = dsp B R z 1 + c
  · exact Or.inr (fun q => hb ((dhs_bit hB e hc).mp q))
  · exact Or.inl e
theorem dIv_ou {B R : Nat → Nat} {L z c : Nat} {px0 : Nat → Nat} {sx0 cv co sx : Nat} {px : Nat → Nat} (h : dIv (dhc B R L z c) (dkc B R L z c) L px0 sx0 cv co sx px) (hn : ∀ x, x < 64 → x + dof B R z ≠ dsp B R z 1 + c) : dIv (dhc B R L z (c + 1)) (dkc B R L z (c + 1)) L px0 sx0 cv co sx px := dIv_st h (fun x hx => Or.inl (hn x hx))
theorem dmo_lt {B R : Nat → Nat} {z : Nat} (h : z ≤ dmo B R) (hz : z < 8) (hy : dsp B R z 0 ≠ 208) : z < dmo B R := by
  rcases Nat.lt_or_ge z (dmo B R) with h1 | h1
  · exact h1
  · have e : z = dmo B R := by omega
    have := dth_eq (fun k => dsp B R k 0) 8 0 (by show dmo B R < 0 + 8; omega)
    exact absurd (show dsp B R z 0 = 208 by rw [e]; exact this) hy
theorem dmo_ge {B R : Nat → Nat} {z : Nat} (hy : dsp B R z 0 = 208) : dmo B R ≤ z := by
  rcases Nat.lt_or_ge z (dmo B R) with h1 | h1
  · exact absurd hy (dth_ne (fun k => dsp B R k 0) 8 0 z (by omega) h1)
  · exact h1
theorem d5f_z {B R : Nat → Nat} {L st : Nat} : ∀ z, dct B R L z ≤ 4 → d5f B R L st z = st := by
  intro z
  induction z with
  | zero => intro _; rfl
  | succ z ih =>
    intro h
    have hm := dct_mono B R L 1 z
    rw [d5f_0, ih (by omega)]
    rintro ⟨h1, h2⟩
    rw [st_ct h1] at h
    omega
theorem d5f_m {B R : Nat → Nat} {L st z : Nat} (h1 : 4 < dct B R L z) : ∀ n, d5f B R L st (z + n) = d5f B R L st z := by
  intro n
  induction n with
  | zero => rfl
  | succ n ih =>
    have hm := dct_mono B R L n z
    rw [show z + (n + 1) = (z + n) + 1 by omega, d5f_0 (by omega), ih]
theorem d5f_x {B R : Nat → Nat} {L st z : Nat} (hz : z < dmo B R) (hd : don B R L z = true) (h4 : dct B R L z = 4) : d5f B R L st 8 = dff st z := by
  have hl := dmo_le B R
  have h5 : 4 < dct B R L (z + 1) := by rw [st_ct hd]; omega
  have := d5f_m (st := st) h5 (8 - (z + 1))
  rw [show z + 1 + (8 - (z + 1)) = 8 by omega] at this
  rw [this, d5f_1 hz hd h4, d5f_z z (by omega)]
theorem d5f_y {B R : Nat → Nat} {L st z : Nat} (hz : dmo B R ≤ z) (h8 : z ≤ 8) (h4 : dct B R L z ≤ 4) : d5f B R L st 8 = st := by
  rw [d5f_e]
  have hm := dct_mono B R L (z - dmo B R) (dmo B R)
  rw [show dmo B R + (z - dmo B R) = z by omega] at hm
  exact d5f_z _ (by omega)
def dPF (B R : Nat → Nat) (L : Nat) (px : Nat → Nat) : Nat → Nat := dln (fun x => if dcl B R L x 8 = 0 then px (64 * L + x) else dcl B R L x 8) L 64 px
theorem dIv_fin {B R : Nat → Nat} {L z : Nat} {px0 : Nat → Nat} {sx0 cv co sx : Nat} {px : Nat → Nat} (h : dIv (fun x => dht B R L x z) (fun x => dcl B R L x z) L px0 sx0 cv co sx px) (hz : z ≤ 8) (he : dmo B R ≤ z ∨ 4 ≤ dct B R L z) : px = dPF B R L px0 ∧ sx = dts (dtc B R L 8 64) sx0 := by
  obtain ⟨-, -, -, -, ⟨t, a5, a6⟩, a7⟩ := h
  refine ⟨?_, ?_⟩
  · rw [a7]
    unfold dPF dln
    funext j
    by_cases hj : 64 * L ≤ j ∧ j < 64 * L + 64
    · rw [if_pos hj]
      dsimp only
      rw [(dht_end (j - 64 * L) hz he).2, show 64 * L + (j - 64 * L) = j by omega]
      by_cases h0 : dcl B R L (j - 64 * L) z = 0
      · rw [if_pos h0, if_neg (fun q => q.2.2 h0)]
      · rw [if_neg h0, if_pos ⟨hj.1, hj.2, h0⟩]
    · rw [if_neg (fun q => hj ⟨q.1, q.2.1⟩), if_neg hj]
  · rw [a5]
    congr 1
    apply Bool.eq_iff_iff.mpr
    rw [a6, dtc_iff]
    constructor
    · rintro ⟨x, hx, h⟩; exact ⟨x, hx, by rw [(dht_end x hz he).1]; exact h⟩
    · rintro ⟨x, hx, h⟩; exact ⟨x, hx, by rw [(dht_end x hz he).1] at h; exact h⟩
theorem dts_ff {b : Bool} {st z : Nat} (h : st < 256) (hz : z < 8) : dff (dts b st) z = dts b (dff st z) := by
  unfold dts
  split
  · exact dff_so st h z hz
  · rfl
theorem dPF_px (B R : Nat → Nat) (L : Nat) (px : Nat → Nat) : dPF B R L (dln (fun x => dob R (dtl B R x L)) L 64 px) = dln (dpx B R L) L 64 px := by
  unfold dPF dln
  funext j
  by_cases hj : 64 * L ≤ j ∧ j < 64 * L + 64
  · rw [if_pos hj, if_pos hj]
    unfold dpx
    have e : 64 * L + (j - 64 * L) = j := by omega
    dsimp only
    rw [e, if_pos hj]
  · rw [if_neg hj, if_neg hj, if_neg hj]
theorem dbl_1 {B R : Nat → Nat} {L k : Nat} (h : dsp B R k 0 < 224) : dbl B R L k = L - (dsp B R k 0 + 1) := by unfold dbl; rw [if_pos h]
theorem dbl_2 {B R : Nat → Nat} {L k : Nat} (h : ¬ dsp B R k 0 < 224) : dbl B R L k = L + 255 - dsp B R k 0 := by unfold dbl; rw [if_neg h]
