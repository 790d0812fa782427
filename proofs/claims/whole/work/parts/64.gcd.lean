/-! Euclid, on both sides -/
theorem lN_0' {n : Nat} (h : n < 2 ^ 31) : lN n = 0 ↔ n = 0 := lN_eq (b := 0) h (by decide)
theorem z00 : lg_cmp (lN 0) 0 = 0 := (lg_cmp_eq _ _).2 rfl
theorem zne {n : Nat} (h : ¬ lN n = 0) : ¬ lg_cmp (lN n) 0 = 0 := fun z => h ((lg_cmp_eq _ _).1 z)
theorem half {a b : Nat} (h1 : 0 < b) (h2 : 0 < a % b) : 2 * (b % (a % b)) < b := by
  have h3 : a % b < b := Nat.mod_lt _ h1
  have h4 : b % (a % b) < a % b := Nat.mod_lt _ h2
  by_cases h : 2 * (a % b) ≤ b
  · omega
  · rw [Nat.mod_eq_sub_mod (by omega), Nat.mod_eq_of_lt (by omega)]
    omega
theorem gcd_st (a b : Nat) : Nat.gcd b (a % b) = Nat.gcd a b := by
  rw [Nat.gcd_comm, ← Nat.gcd_rec, Nat.gcd_comm]
theorem c_gcdL : ∀ t nn a b y, a < 2 ^ 31 → b < 2 ^ t → t ≤ 31 → 2 * t + 1 < nn → y + 2 * t < 128 → ∃ z z', f_X8_commonDivisor_L9 nn (lN a) (lN b) (nI y) = some (lN (Nat.gcd a b), z, z') := by
  intro t
  induction t with
  | zero =>
    intro nn a b y ha hb ht hn hy
    obtain ⟨q, rfl⟩ : ∃ q, nn = q + 1 := ⟨nn - 1, by omega⟩
    obtain rfl : b = 0 := by omega
    have hni : ¬ (128 : Int32) ≤ nI y := nI_ge (b := 128) (by omega) (by omega)
    rw [f_X8_commonDivisor_L9, if_neg hni, if_pos z00, Nat.gcd_zero_right]
    exact ⟨_, _, rfl⟩
  | succ t ih =>
    intro nn a b y ha hb ht hn hy
    obtain ⟨q, rfl⟩ : ∃ q, nn = q + 2 := ⟨nn - 2, by omega⟩
    have hp : 2 ^ t ≤ 2 ^ 30 := Nat.pow_le_pow_right (by decide) (by omega)
    have hp2 : 2 ^ (t + 1) = 2 ^ t * 2 := Nat.pow_succ ..
    have hni : ¬ (128 : Int32) ≤ nI y := nI_ge (b := 128) (by omega) (by omega)
    rw [f_X8_commonDivisor_L9, if_neg hni]
    by_cases h0 : b = 0
    · subst h0
      rw [if_pos z00, Nat.gcd_zero_right]
      exact ⟨_, _, rfl⟩
    · have hb0 : ¬ lN b = 0 := fun z => h0 ((lN_0' (by omega)).1 z)
      rw [if_neg (zne hb0), gdL_ok hb0, bi_eq, pk_lRem (by omega) (by omega) (by omega), nI_1, ← gcd_st]
      have hlt : a % b < b := Nat.mod_lt _ (by omega)
      have hni2 : ¬ (128 : Int32) ≤ nI (y + 1) := nI_ge (b := 128) (by omega) (by omega)
      rw [f_X8_commonDivisor_L9, if_neg hni2]
      by_cases h1 : a % b = 0
      · rw [h1, if_pos z00, Nat.gcd_zero_right]
        exact ⟨_, _, rfl⟩
      · have hc0 : ¬ lN (a % b) = 0 := fun z => h1 ((lN_0' (by omega)).1 z)
        have hh := half (a := a) (b := b) (by omega) (by omega)
        rw [if_neg (zne hc0), gdL_ok hc0, bi_eq, pk_lRem (by omega) (by omega) (by omega), nI_1, ← gcd_st b]
        exact ih q (a % b) (b % (a % b)) (y + 1 + 1) (by omega) (by omega) (by omega) (by omega) (by omega)
theorem m_gcdL : ∀ t nn a b, a < 2 ^ 31 → b < 2 ^ t → t ≤ 31 → 2 * t + 1 < nn → ∃ z, f_X9_lowest_L6 nn (lN a) (lN b) = some (lN (Nat.gcd a b), z) := by
  intro t
  induction t with
  | zero =>
    intro nn a b ha hb ht hn
    obtain ⟨q, rfl⟩ : ∃ q, nn = q + 1 := ⟨nn - 1, by omega⟩
    obtain rfl : b = 0 := by omega
    rw [f_X9_lowest_L6, if_pos z00, Nat.gcd_zero_right]
    exact ⟨_, rfl⟩
  | succ t ih =>
    intro nn a b ha hb ht hn
    obtain ⟨q, rfl⟩ : ∃ q, nn = q + 2 := ⟨nn - 2, by omega⟩
    have hp : 2 ^ t ≤ 2 ^ 30 := Nat.pow_le_pow_right (by decide) (by omega)
    have hp2 : 2 ^ (t + 1) = 2 ^ t * 2 := Nat.pow_succ ..
    rw [f_X9_lowest_L6]
    by_cases h0 : b = 0
    · subst h0
      rw [if_pos z00, Nat.gcd_zero_right]
      exact ⟨_, rfl⟩
    · have hb0 : ¬ lN b = 0 := fun z => h0 ((lN_0' (by omega)).1 z)
      rw [if_neg (zne hb0), gdL_ok hb0, bi_eq, pk_lRem (by omega) (by omega) (by omega), ← gcd_st]
      have hlt : a % b < b := Nat.mod_lt _ (by omega)
      rw [f_X9_lowest_L6]
      by_cases h1 : a % b = 0
      · rw [h1, if_pos z00, Nat.gcd_zero_right]
        exact ⟨_, rfl⟩
      · have hc0 : ¬ lN (a % b) = 0 := fun z => h1 ((lN_0' (by omega)).1 z)
        have hh := half (a := a) (b := b) (by omega) (by omega)
        rw [if_neg (zne hc0), gdL_ok hc0, bi_eq, pk_lRem (by omega) (by omega) (by omega), ← gcd_st b]
        exact ih q (a % b) (b % (a % b)) (by omega) (by omega) (by omega) (by omega)
/-- lowest terms -/
theorem r_low {a b : Nat} (ha : 0 < a) (ha2 : a < 2 ^ 31) (hb : b < 2 ^ 31) (v : Int32) : ∃ r, f_X8_lowestTerm (lN a) (lN b) v = some r ∧ f_X9_lowest (lN a) (lN b) v = some r := by
  obtain ⟨z, z', e1⟩ := c_gcdL 31 200 a b 0 ha2 hb (by omega) (by omega) (by omega)
  obtain ⟨z2, e2⟩ := m_gcdL 31 200 b a hb ha2 (by omega) (by omega)
  rw [nI_0] at e1
  have hg0 : 0 < Nat.gcd a b := Nat.gcd_pos_of_pos_left _ ha
  have hgl : Nat.gcd a b ≤ a := Nat.le_of_dvd ha (Nat.gcd_dvd_left _ _)
  have hne : ¬ lN (Nat.gcd a b) = 0 := fun w => absurd ((lN_0' (by omega)).1 w) (by omega)
  have hcm : ¬ lg_cmp (lN (Nat.gcd a b)) 0 ≤ 0 := by
    rw [lg_cmp_le]
    intro w
    have := (lN_le (b := 0) (by omega) (by omega)).1 w
    omega
  unfold f_X8_lowestTerm f_X8_commonDivisor f_X9_lowest
  rw [e1, e2, Nat.gcd_comm b a, jn_some, jn_some, jn_some, gdL_ok hne, gdL_ok hne]
  by_cases h : v = 0
  · rw [if_pos h, if_pos h, jn_some, if_neg hcm, gdL_ok hne]
    exact ⟨_, rfl, rfl⟩
  · rw [if_neg h, if_neg h, jn_some, if_neg hcm, gdL_ok hne]
    exact ⟨_, rfl, rfl⟩
