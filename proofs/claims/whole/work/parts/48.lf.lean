/-! what a call keeps of the shared state -/
theorem ss_so_l2 {x : Nat} (h : x < 256) : ss_so 128 x < 256 := by
  unfold ss_so
  split <;> omega
theorem hz_up {kd mb : Nat → Nat} {D a v : Nat} (hz : ∀ d, d < 16 → kd d = 0 → ∀ j, j < 256 → mb (256 * d + j) = 0) (hk : kd D ≠ 0) (ha : a < 256) : ∀ d, d < 16 → kd d = 0 → ∀ j, j < 256 → ss_up mb (256 * D + a) v (256 * d + j) = 0 := by
  intro d hd h0 j hj
  have hne : d ≠ D := fun z => hk (z ▸ h0)
  rw [ss_up_n _ _ (by omega)]
  exact hz d hd h0 j hj
theorem plO_sh {od : List Nat} {gd : Nat → Option Nat} {ad kd nb sh : Nat → Nat} {D g v : Nat} (hO : plO od gd ad kd nb sh) (hD : D < 16) (hk : kd D = 3) (hg : g < 4) : plO od gd ad kd nb (ss_up sh (4 * D + g) (v % nb D)) := by
  obtain ⟨h1, h2, h3, h4⟩ := hO
  refine ⟨h1, h2, h3, fun d hd hd3 => ?_⟩
  obtain ⟨a1, a2, a3⟩ := h4 d hd hd3
  refine ⟨a1, a2, fun j hj => ?_⟩
  unfold ss_up
  split
  · have : d = D := by omega
    subst this
    exact Nat.mod_lt _ a1
  · exact a3 j hj
theorem plO_add {od : List Nat} {gd : Nat → Option Nat} {ad kd nb sh : Nat → Nat} {D a kk : Nat} (hO : plO od gd ad kd nb sh) (hD : D < 16) (hk : kd D = 0) (hkk : kk ≠ 0) (hk3 : kk ≠ 3) : plO (od ++ [D]) (va_up gd D (some a)) (ss_up ad D a) (ss_up kd D kk) nb sh := by
  obtain ⟨h1, h2, h3, h4⟩ := hO
  have hno : D ∉ od := fun z => ((h2 D).mp z).2 hk
  refine ⟨fun d hd => ?_, fun d => ?_, ?_, fun d hd hd3 => ?_⟩
  · by_cases e : d = D
    · subst e
      simp [va_up, ss_up, hkk]
    · rw [ss_up_n _ _ e, ss_up_n _ _ e, ← h1 d hd]
      simp [va_up, e]
  · rw [List.mem_append, List.mem_singleton, h2 d]
    by_cases e : d = D
    · subst e
      simp [ss_up, hkk, hD]
    · rw [ss_up_n _ _ e]
      simp [e]
  · exact List.nodup_append.mpr ⟨h3, by simp, fun x hx y hy => by rw [List.mem_singleton.mp hy]; exact fun z => hno (z ▸ hx)⟩
  · by_cases e : d = D
    · subst e
      rw [ss_up_s] at hd3
      exact absurd hd3 hk3
    · rw [ss_up_n _ _ e] at hd3
      exact h4 d hd hd3
theorem plO_ad3 {od : List Nat} {gd : Nat → Option Nat} {ad kd nb sh : Nat → Nat} {D a n : Nat} (hO : plO od gd ad kd nb sh) (hD : D < 16) (hk : kd D = 0) (hn1 : 1 ≤ n) (hn2 : n ≤ 8) : plO (od ++ [D]) (va_up gd D (some a)) (ss_up ad D a) (ss_up kd D 3) (ss_up nb D n) (mshn sh D n 4) := by
  obtain ⟨h1, h2, h3, h4⟩ := hO
  have hno : D ∉ od := fun z => ((h2 D).mp z).2 hk
  refine ⟨fun d hd => ?_, fun d => ?_, ?_, fun d hd hd3 => ?_⟩
  · by_cases e : d = D
    · subst e
      simp [va_up, ss_up]
    · rw [ss_up_n _ _ e, ss_up_n _ _ e, ← h1 d hd]
      simp [va_up, e]
  · rw [List.mem_append, List.mem_singleton, h2 d]
    by_cases e : d = D
    · subst e
      simp [ss_up, hD]
    · rw [ss_up_n _ _ e]
      simp [e]
  · exact List.nodup_append.mpr ⟨h3, by simp, fun x hx y hy => by rw [List.mem_singleton.mp hy]; exact fun z => hno (z ▸ hx)⟩
  · by_cases e : d = D
    · subst e
      rw [ss_up_s]
      refine ⟨hn1, hn2, fun j hj => ?_⟩
      unfold mshn
      rw [if_pos (by omega)]
      exact Nat.mod_lt _ (by omega)
    · rw [ss_up_n _ _ e] at hd3
      rw [ss_up_n _ _ e]
      obtain ⟨a1, a2, a3⟩ := h4 d hd hd3
      refine ⟨a1, a2, fun j hj => ?_⟩
      unfold mshn
      rw [if_neg (by omega)]
      exact a3 j hj
theorem msh_lt {sh : Nat → Nat} {D n : Nat} (h : ∀ j, sh j < 8) (hn1 : 1 ≤ n) (hn2 : n ≤ 8) : ∀ j, mshn sh D n 4 j < 8 := by
  intro j
  unfold mshn
  split
  · exact Nat.lt_of_lt_of_le (Nat.mod_lt _ (by omega)) hn2
  · exact h j
theorem hbn_up {kd nb : Nat → Nat} {bn : Nat → Int32} {D kk : Nat} {b : Int32} (h : ∀ d, d < 16 → kd d = 3 → bn d = nI (nb d)) (hk3 : kk ≠ 3) : ∀ d, d < 16 → ss_up kd D kk d = 3 → upd bn D b d = nI (nb d) := by
  intro d hd h3
  by_cases e : d = D
  · subst e; rw [ss_up_s] at h3; exact absurd h3 hk3
  · rw [ss_up_n _ _ e] at h3
    unfold upd
    rw [if_neg e]
    exact h d hd h3
theorem hbn_up3 {kd nb : Nat → Nat} {bn : Nat → Int32} {D n : Nat} (h : ∀ d, d < 16 → kd d = 3 → bn d = nI (nb d)) : ∀ d, d < 16 → ss_up kd D 3 d = 3 → upd bn D (nI n) d = nI (ss_up nb D n d) := by
  intro d hd h3
  by_cases e : d = D
  · subst e; rw [ss_up_s]; unfold upd; rw [if_pos rfl]
  · rw [ss_up_n _ _ e] at h3
    rw [ss_up_n _ _ e]
    unfold upd
    rw [if_neg e]
    exact h d hd h3
theorem hz_kd {kd mb : Nat → Nat} {D kk : Nat} (hz : ∀ d, d < 16 → kd d = 0 → ∀ j, j < 256 → mb (256 * d + j) = 0) (hkk : kk ≠ 0) : ∀ d, d < 16 → ss_up kd D kk d = 0 → ∀ j, j < 256 → mb (256 * d + j) = 0 := by
  intro d hd h0
  by_cases e : d = D
  · subst e; rw [ss_up_s] at h0; exact absurd h0 hkk
  · rw [ss_up_n _ _ e] at h0
    exact hz d hd h0
theorem gd_some {od : List Nat} {gd : Nat → Option Nat} {ad kd nb sh : Nat → Nat} (hO : plO od gd ad kd nb sh) {d : Nat} (hd : d < 16) (h : kd d ≠ 0) : gd d = some (ad d) := by rw [hO.1 d hd, if_neg h]
theorem gd_none {od : List Nat} {gd : Nat → Option Nat} {ad kd nb sh : Nat → Nat} (hO : plO od gd ad kd nb sh) {d : Nat} (hd : d < 16) (h : kd d = 0) : gd d = none := by rw [hO.1 d hd, if_pos h]
