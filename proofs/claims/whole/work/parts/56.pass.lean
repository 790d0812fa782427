/-! a passing: few enough to be counted out -/
theorem k_passes : ∀ i : Nat, i < 20 → f_X8_passes (nI (i + 1)) = f_X9_passes (nI (i + 1)) ∧ (f_X8_passes (nI (i + 1))).isSome = true := by decide +kernel
theorem k_pass : ∀ i : Nat, i < 20 → ∀ j : Nat, j < i + 1 → ∀ t : Nat, t < 2 → f_X8_pass (nI (i + 1)) (nI j) (nI t) = f_X9_pass (nI (i + 1)) (nI j) (nI t) ∧ (f_X8_pass (nI (i + 1)) (nI j) (nI t)).isSome = true := by decide +kernel
theorem s_pass (v1 v2 v3 : Int32) : ∃ r, f_X8_pass v1 v2 v3 = some r ∧ f_X9_pass v1 v2 v3 = some r := by
  by_cases h1 : (1 : Int32) ≤ v1 ∧ v1 ≤ 20
  · by_cases h2 : (0 : Int32) ≤ v2 ∧ v2 ≤ v1 - 1
    · by_cases h3 : (0 : Int32) ≤ v3 ∧ v3 ≤ 1
      · have b1 := bd_of (a := 1) (b := 20) h1 rfl rfl
        have b3 := bd_of (a := 0) (b := 1) h3 rfl rfl
        unfold bd at b1 b3
        have e1 : (1 : Int32).toInt = 1 := rfl
        have e0 : (0 : Int32).toInt = 0 := rfl
        have es : (v1 - 1).toInt = v1.toInt - 1 := by rw [fb_subI (by omega) (by omega), e1]
        have b2 := h2
        rw [i_le, i_le, es, e0] at b2
        obtain ⟨i, hi, q1⟩ : ∃ q : Nat, q < 20 ∧ v1 = nI (q + 1) := ⟨v1.toInt.toNat - 1, by omega, by rw [i_eq, nI_toInt (by omega)]; omega⟩
        obtain ⟨j, hj, q2⟩ : ∃ q : Nat, q < i + 1 ∧ v2 = nI q := by
          rw [q1, nI_toInt (by omega)] at b2
          exact ⟨v2.toInt.toNat, by omega, by rw [i_eq, nI_toInt (by omega)]; omega⟩
        obtain ⟨t, ht, q3⟩ : ∃ q : Nat, q < 2 ∧ v3 = nI q := ⟨v3.toInt.toNat, by omega, by rw [i_eq, nI_toInt (by omega)]; omega⟩
        subst q1 q2 q3
        obtain ⟨k1, k2⟩ := k_pass i hi j hj t ht
        obtain ⟨r, hr⟩ := Option.isSome_iff_exists.1 k2
        exact ⟨r, hr, by rw [← k1, hr]⟩
      · unfold f_X8_pass f_X9_pass
        simp only [in_ps, in_0v, in_01, jW, i10, i00, if_true, if_false, if_pos h1, if_pos h2, if_neg h3]
        exact ⟨_, rfl, rfl⟩
    · unfold f_X8_pass f_X9_pass
      simp only [in_ps, in_0v, in_01, jW, i10, i00, if_true, if_false, if_pos h1, if_neg h2]
      exact ⟨_, rfl, rfl⟩
  · unfold f_X8_pass f_X9_pass
    simp only [in_ps, in_0v, in_01, jW, i10, i00, if_true, if_false, if_neg h1]
    exact ⟨_, rfl, rfl⟩
theorem s_passes (v1 : Int32) : ∃ r, f_X8_passes v1 = some r ∧ f_X9_passes v1 = some r := by
  by_cases h1 : (1 : Int32) ≤ v1 ∧ v1 ≤ 20
  · have b1 := bd_of (a := 1) (b := 20) h1 rfl rfl
    unfold bd at b1
    obtain ⟨i, hi, q1⟩ : ∃ q : Nat, q < 20 ∧ v1 = nI (q + 1) := ⟨v1.toInt.toNat - 1, by omega, by rw [i_eq, nI_toInt (by omega)]; omega⟩
    subst q1
    obtain ⟨k1, k2⟩ := k_passes i hi
    obtain ⟨r, hr⟩ := Option.isSome_iff_exists.1 k2
    exact ⟨r, hr, by rw [← k1, hr]⟩
  · unfold f_X8_passes f_X9_passes
    simp only [in_ps, jW, i10, i00, if_true, if_false, if_neg h1]
    exact ⟨_, rfl, rfl⟩
