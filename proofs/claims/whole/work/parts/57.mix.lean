/-! mixing -/
theorem dbl_inj {M x y : Nat} (hM : M % 2 = 1) (hx : x < M) (hy : y < M) (h : 2 * x % M = 2 * y % M) : x = y := by
  have e : ∀ z, z < M → 2 * z % M = if 2 * z < M then 2 * z else 2 * z - M := by
    intro z hz
    by_cases h1 : 2 * z < M
    · rw [if_pos h1, Nat.mod_eq_of_lt h1]
    · rw [if_neg h1, Nat.mod_eq_sub_mod (by omega), Nat.mod_eq_of_lt (by omega)]
  rw [e x hx, e y hy] at h
  split at h <;> split at h <;> omega
theorem pw_succ (M j : Nat) : 2 ^ (j + 1) % M = 2 * (2 ^ j % M) % M := by
  rw [Nat.pow_succ, Nat.mul_comm, Nat.mul_mod_mod]
theorem pw_back {M : Nat} (h0 : 0 < M) (hM : M % 2 = 1) (d : Nat) : ∀ i, 2 ^ i % M = 2 ^ (i + d) % M → 1 % M = 2 ^ d % M
  | 0, h => by rw [Nat.zero_add] at h; exact h
  | i + 1, h => by
    rw [show i + 1 + d = i + d + 1 by omega, pw_succ, pw_succ] at h
    exact pw_back h0 hM d i (dbl_inj hM (Nat.mod_lt _ h0) (Nat.mod_lt _ h0) h)
/-- the first power of two that leaves one -/
theorem ord_of {M : Nat} (h0 : 0 < M) (hM : M % 2 = 1) : ∃ i, i < M ∧ 2 ^ (i + 1) % M = 1 % M ∧ ∀ j, j < i → ¬ 2 ^ (j + 1) % M = 1 % M := by
  obtain ⟨i, j, hij, hj, e⟩ := fb_twice (m := M) (n := M + 1) (f := fun i => 2 ^ i % M) (fun i _ => Nat.mod_lt _ h0) (by omega)
  have := pw_back h0 hM (j - i) i (by rw [show i + (j - i) = j by omega]; exact e)
  exact fb_first ⟨j - i - 1, by omega, by rw [show j - i - 1 + 1 = j - i by omega]; exact this.symm⟩
/-- one mixing -/
def mo (M p : Nat) : Nat := if p < M then 2 * p % M else p
theorem mo_le {M p : Nat} (h0 : 0 < M) (hp : p ≤ M) : mo M p ≤ M := by
  unfold mo
  split
  · exact Nat.le_of_lt (Nat.mod_lt _ h0)
  · exact hp
theorem m_once {M p : Nat} (hM : M % 2 = 1) (hs : M < 1000) (hp : p ≤ M) : f_X9_mixedOnce (nI (M + 1)) (nI p) = some (nI (mo M p)) := by
  unfold f_X9_mixedOnce mo
  have e1 : nI (M + 1) / 2 = nI ((M + 1) / 2) := pk_div (d := 2) (by omega) (by decide) (by decide)
  have e2 : (2 : Int32) * nI p = nI (2 * p) := pk_mul 2 p
  rw [e1, e2]
  by_cases h : (M + 1) / 2 ≤ p
  · rw [if_pos (nI_le h (by omega))]
    have e3 : nI (2 * p) - nI (M + 1) + 1 = nI (2 * p - M) := by
      rw [i_eq, nI_toInt (by omega)]
      have s1 : (nI (2 * p) - nI (M + 1)).toInt = (2 * p : Nat) - (M + 1 : Nat) := pk_sub_toInt (by omega) (by omega)
      have e1 : (1 : Int32).toInt = 1 := rfl
      rw [fb_addI (by rw [s1, e1]; omega) (by rw [s1, e1]; omega), s1, e1]
      omega
    rw [e3]
    by_cases hp2 : p < M
    · rw [if_pos hp2, Nat.mod_eq_sub_mod (by omega), Nat.mod_eq_of_lt (by omega)]
    · rw [if_neg hp2, show 2 * p - M = p by omega]
  · rw [if_neg (fun z => h ((nI_leI (by omega) (by omega)).1 z)), if_pos (by omega), Nat.mod_eq_of_lt (by omega)]
def itM (M p j : Nat) : Nat := if p < M then p * 2 ^ j % M else p
theorem itM_succ {M p : Nat} (h0 : 0 < M) (j : Nat) : mo M (itM M p j) = itM M p (j + 1) := by
  unfold itM mo
  by_cases h : p < M
  · rw [if_pos h, if_pos h, if_pos (Nat.mod_lt _ h0), Nat.mul_mod_mod, Nat.pow_succ, show 2 * (p * 2 ^ j) = p * (2 ^ j * 2) by rw [Nat.mul_comm, Nat.mul_assoc]]
  · rw [if_neg h, if_neg h, if_neg h]
theorem itM_le {M p : Nat} (h0 : 0 < M) (hp : p ≤ M) (j : Nat) : itM M p j ≤ M := by
  unfold itM
  split
  · exact Nat.le_of_lt (Nat.mod_lt _ h0)
  · exact hp
theorem itM_0 (M p : Nat) : itM M p 0 = p := by
  unfold itM
  by_cases h : p < M
  · rw [if_pos h, Nat.pow_zero, Nat.mul_one, Nat.mod_eq_of_lt h]
  · rw [if_neg h]
theorem m_ordL {M i : Nat} (h3 : 1 < M) (hM : M % 2 = 1) (hs : M < 1000) (hi : 2 ^ (i + 1) % M = 1 % M) (hl : ∀ j, j < i → ¬ 2 ^ (j + 1) % M = 1 % M) : ∀ d j nn, j + d = i → d < nn → f_X9_orderOf_L17 (nI (M + 1)) nn (nI (j + 1)) (nI (2 ^ (j + 1) % M)) = some (nI (i + 1), 1) := by
  have e1 : 1 % M = 1 := Nat.mod_eq_of_lt h3
  intro d
  induction d with
  | zero =>
    intro j nn hj hn
    obtain ⟨a, rfl⟩ : ∃ a, nn = a + 1 := ⟨nn - 1, by omega⟩
    obtain rfl : j = i := by omega
    rw [f_X9_orderOf_L17, hi, e1, if_pos (by decide)]; rfl
  | succ d ih =>
    intro j nn hj hn
    obtain ⟨a, rfl⟩ : ∃ a, nn = a + 1 := ⟨nn - 1, by omega⟩
    have hx := hl j (by omega)
    rw [e1] at hx
    have hlt : 2 ^ (j + 1) % M < M := Nat.mod_lt _ (by omega)
    have hne : ¬ nI (2 ^ (j + 1) % M) = 1 := fun z => hx ((nI_eq (b := 1) (by omega) (by omega)).1 z)
    rw [f_X9_orderOf_L17, if_neg hne, m_once hM hs (by omega), jn_some, nI_1]
    have : mo M (2 ^ (j + 1) % M) = 2 ^ (j + 1 + 1) % M := by unfold mo; rw [if_pos hlt, ← pw_succ]
    rw [this]
    exact ih (j + 1) a (by omega) (by omega)
theorem c_rndL {M i : Nat} (h0 : 0 < M) (hs : M < 1000) (hiM : i < M) (hi : 2 ^ (i + 1) % M = 1 % M) (hl : ∀ j, j < i → ¬ 2 ^ (j + 1) % M = 1 % M) : ∀ d j nn, j + d = i → d < nn → ∃ y, f_X1_round_L20 (nI (M + 1)) (nI M) nn (nI (2 ^ (j + 1) % M)) (nI (j + 1)) (nI j) = some (y, nI (i + 1), nI i) := by
  have hM0 : nI M ≠ 0 := nI_ne0 h0 (by omega)
  have er : (1 : Int32) - 1 / nI M * nI M = nI (1 % M) := pk_rem (a := 1) (d := M) (by omega) h0 (by omega)
  intro d
  induction d with
  | zero =>
    intro j nn hj hn
    obtain ⟨a, rfl⟩ : ∃ a, nn = a + 1 := ⟨nn - 1, by omega⟩
    obtain rfl : j = i := by omega
    rw [f_X1_round_L20, if_neg (nI_ge (by omega) (by omega)), gd_ok hM0, er, hi, if_pos rfl]
    exact ⟨_, rfl⟩
  | succ d ih =>
    intro j nn hj hn
    obtain ⟨a, rfl⟩ : ∃ a, nn = a + 1 := ⟨nn - 1, by omega⟩
    have hlt : 2 ^ (j + 1) % M < M := Nat.mod_lt _ (by omega)
    have hl1 : 1 % M < 2 := by have := Nat.mod_le 1 M; omega
    have hne : ¬ nI (2 ^ (j + 1) % M) = nI (1 % M) := fun z => hl j (by omega) ((nI_eq (by omega) (by omega)).1 z)
    have e2 : nI (2 ^ (j + 1) % M) * 2 = nI (2 * (2 ^ (j + 1) % M)) := by
      rw [show nI (2 ^ (j + 1) % M) * 2 = nI (2 ^ (j + 1) % M * 2) from pk_mul _ 2, Nat.mul_comm]
    have e3 : nI (2 * (2 ^ (j + 1) % M)) - nI (2 * (2 ^ (j + 1) % M)) / nI M * nI M = nI (2 ^ (j + 1 + 1) % M) := by
      rw [pk_rem (by omega) h0 (by omega), ← pw_succ]
    rw [f_X1_round_L20, if_neg (nI_ge (by omega) (by omega)), gd_ok hM0, er, if_neg hne, gd_ok hM0, e2, e3, bi_eq, nI_1, nI_1]
    exact ih (j + 1) a (by omega) (by omega)
/-- the class's doubling -/
theorem c_placeL {M : Nat} (h0 : 0 < M) (hs : M < 1000) : ∀ t nn e a x, e < 2 ^ t → t < nn → t < 31 → a < M → x < M → ∃ y z, f_X1_placeBehind_L27 (nI M) nn (nI a) (nI x) (nI e) = some (nI (a * x ^ e % M), y, z) := by
  have hM0 : nI M ≠ 0 := nI_ne0 h0 (by omega)
  intro t
  induction t with
  | zero =>
    intro nn e a x he hn ht ha hx
    obtain ⟨q, rfl⟩ : ∃ a, nn = a + 1 := ⟨nn - 1, by omega⟩
    obtain rfl : e = 0 := by omega
    rw [f_X1_placeBehind_L27, if_pos (by decide), Nat.pow_zero, Nat.mul_one, Nat.mod_eq_of_lt ha]
    exact ⟨_, _, rfl⟩
  | succ t ih =>
    intro nn e a x he hn ht ha hx
    obtain ⟨q, rfl⟩ : ∃ a, nn = a + 1 := ⟨nn - 1, by omega⟩
    have hp : 2 ^ t < 2 ^ 30 := Nat.pow_lt_pow_right (by decide) (by omega)
    have hp2 : 2 ^ (t + 1) = 2 ^ t * 2 := Nat.pow_succ ..
    by_cases h : e = 0
    · subst h
      rw [f_X1_placeBehind_L27, if_pos (by decide), Nat.pow_zero, Nat.mul_one, Nat.mod_eq_of_lt ha]
      exact ⟨_, _, rfl⟩
    · have er : nI e - nI e / 2 * 2 = nI (e % 2) := pk_rem (d := 2) (by omega) (by decide) (by decide)
      have ed : nI e / 2 = nI (e / 2) := pk_div (d := 2) (by omega) (by decide) (by decide)
      have hax : a * x < 1000 * 1000 := Nat.mul_lt_mul'' (by omega) (by omega)
      have hxx : x * x < 1000 * 1000 := Nat.mul_lt_mul'' (by omega) (by omega)
      rw [f_X1_placeBehind_L27, if_neg (nI_nle (by omega) (by omega))]
      simp only [er, gd_ok hM0, bi_eq]
      rw [pk_mul, pk_mul, pk_rem (by omega) h0 (by omega), pk_rem (by omega) h0 (by omega), ed]
      have key : ∀ a', a' < M → a' % M = (a * x ^ (e % 2)) % M → a' * (x * x % M) ^ (e / 2) % M = a * x ^ e % M := by
        intro a' ha' h'
        have h2 : x ^ e = x ^ (e % 2) * (x * x) ^ (e / 2) := by
          rw [← Nat.pow_two, ← Nat.pow_mul, ← Nat.pow_add]
          exact congrArg _ (by omega)
        rw [h2, ← Nat.mul_assoc, Nat.mul_mod, ← Nat.pow_mod, h', ← Nat.mul_mod]
      by_cases h1 : e % 2 = 1
      · rw [h1, if_pos (by decide), jn_some]
        have hk := key (a * x % M) (Nat.mod_lt _ h0) (by rw [h1, Nat.pow_one, Nat.mod_mod])
        rw [← hk]
        exact ih q (e / 2) (a * x % M) (x * x % M) (by omega) (by omega) (by omega) (Nat.mod_lt _ h0) (Nat.mod_lt _ h0)
      · have h1' : e % 2 = 0 := by omega
        rw [h1', if_neg (by decide), jn_some]
        have hk := key a ha (by rw [h1', Nat.pow_zero, Nat.mul_one])
        rw [← hk]
        exact ih q (e / 2) a (x * x % M) (by omega) (by omega) (by omega) ha (Nat.mod_lt _ h0)
theorem c_place {M p e : Nat} (h0 : 0 < M) (hs : M < 1000) (hp : p ≤ M) (he : e < 2 ^ 30) : f_X1_placeBehind (nI (M + 1)) (nI p) (nI e) = some (nI (itM M p e)) := by
  unfold f_X1_placeBehind
  have hM0 : nI M ≠ 0 := nI_ne0 h0 (by omega)
  have e1 : nI (M + 1) - 1 = nI M := nI_pred M
  have e2 : (2 : Int32) - 2 / nI M * nI M = nI (2 % M) := pk_rem (a := 2) (d := M) (by omega) h0 (by omega)
  have hl1 : ¬ nI M < 1 := nI_nlt (b := 1) (by omega) (by omega)
  rw [e1, bi_eq, if_neg hl1, e2, gd_ok hM0, bi_eq]
  unfold itM
  by_cases h : p < M
  · obtain ⟨y, z, hyz⟩ := c_placeL h0 hs 30 100 e p (2 % M) he (by omega) (by omega) h (Nat.mod_lt _ h0)
    rw [if_pos (nI_lt h (by omega)), hyz, jn_some, if_pos h, Nat.mul_mod, ← Nat.pow_mod, ← Nat.mul_mod]
  · rw [if_neg (nI_nlt (by omega) (by omega)), if_neg h]
theorem m_mixL {M p e r : Nat} (h0 : 0 < M) (hM : M % 2 = 1) (hs : M < 1000) (hp : p ≤ M) (he : e < 2 ^ 30) (hr0 : 0 < r) (hr : r < 1000) : ∀ d j nn, j + d = e % r → d < nn → ∃ y, f_X9_mix_L72 (nI (M + 1)) (nI e) (nI r) nn (nI (itM M p j)) (nI j) = some (nI (itM M p (e % r)), y) := by
  have hr1 : nI r ≠ 0 := nI_ne0 hr0 (by omega)
  have er : nI e - nI e / nI r * nI r = nI (e % r) := pk_rem (by omega) hr0 (by omega)
  have hlt : e % r < r := Nat.mod_lt _ hr0
  intro d
  induction d with
  | zero =>
    intro j nn hj hn
    obtain ⟨q, rfl⟩ : ∃ a, nn = a + 1 := ⟨nn - 1, by omega⟩
    obtain rfl : j = e % r := by omega
    rw [f_X9_mix_L72, gd_ok hr1, er, if_pos (by rw [i_le]; exact Int.le_refl _)]
    exact ⟨_, rfl⟩
  | succ d ih =>
    intro j nn hj hn
    obtain ⟨q, rfl⟩ : ∃ a, nn = a + 1 := ⟨nn - 1, by omega⟩
    rw [f_X9_mix_L72, gd_ok hr1, er, if_neg (nI_ge (by omega) (by omega)), m_once hM hs (itM_le h0 hp j), jn_some, nI_1, itM_succ h0]
    exact ih (j + 1) q (by omega) (by omega)
theorem itM_rem {M p r : Nat} (hr : 2 ^ r % M = 1 % M) (e : Nat) : itM M p (e % r) = itM M p e := by
  unfold itM
  by_cases h : p < M
  · rw [if_pos h, if_pos h]
    have : 2 ^ e % M = 2 ^ (e % r) % M := by
      have h2 : 2 ^ e = 2 ^ (e % r) * (2 ^ r) ^ (e / r) := by
        rw [← Nat.pow_mul, ← Nat.pow_add]
        exact congrArg _ (Nat.mod_add_div e r).symm
      rw [h2, Nat.mul_mod, Nat.pow_mod (2 ^ r), hr, ← Nat.pow_mod, Nat.one_pow, ← Nat.mul_mod, Nat.mul_one]
    rw [Nat.mul_mod, Nat.mul_mod p (2 ^ e), this]
  · rw [if_neg h, if_neg h]
theorem s_mix (v1 v2 v3 v4 : Int32) : ∃ r, f_X8_mix v1 v2 v3 v4 = some r ∧ f_X9_mix v1 v2 v3 v4 = some r := by
  unfold f_X8_mix f_X9_mix
  simp only [in_mx, in_mm, in_0v, in_01, jW, i10, i00, if_true, if_false]
  by_cases h1 : (2 : Int32) ≤ v1 ∧ v1 ≤ 998
  · simp only [if_pos h1]
    have b1 := bd_of (a := 2) (b := 998) h1 rfl rfl
    unfold bd at b1
    obtain ⟨M, hs, q1⟩ : ∃ q : Nat, (0 < q ∧ q < 1000) ∧ v1 = nI (q + 1) := ⟨v1.toInt.toNat - 1, by omega, by rw [i_eq, nI_toInt (by omega)]; omega⟩
    obtain ⟨h0, hs⟩ := hs
    subst q1
    have er : nI (M + 1) - nI (M + 1) / 2 * 2 = nI ((M + 1) % 2) := pk_rem (d := 2) (by omega) (by decide) (by decide)
    have e1 : nI (M + 1) - 1 = nI M := nI_pred M
    rw [er, e1]
    by_cases hM : M % 2 = 1
    · have hz : (M + 1) % 2 = 0 := by omega
      have z1 : ¬ nI 0 = 1 := by decide
      simp only [hz, nI_0, if_true, if_neg (by decide : ¬ (0 : Int32) = 1)]
      by_cases h2 : (0 : Int32) ≤ v2 ∧ v2 ≤ nI M
      · simp only [if_pos h2]
        by_cases h3 : (0 : Int32) ≤ v3 ∧ v3 ≤ 999999999
        · simp only [if_pos h3]
          by_cases h4 : (0 : Int32) ≤ v4 ∧ v4 ≤ 1
          · simp only [if_pos h4]
            have b2 := bd_of (a := 0) (b := M) h2 rfl (nI_toInt (by omega))
            have b3 := bd_of (a := 0) (b := 999999999) h3 rfl rfl
            unfold bd at b2 b3
            obtain ⟨p, hp, q2⟩ : ∃ q : Nat, q ≤ M ∧ v2 = nI q := ⟨v2.toInt.toNat, by omega, by rw [i_eq, nI_toInt (by omega)]; omega⟩
            obtain ⟨e, he, q3⟩ : ∃ q : Nat, q < 2 ^ 30 ∧ v3 = nI q := ⟨v3.toInt.toNat, by omega, by rw [i_eq, nI_toInt (by omega)]; omega⟩
            subst q2 q3
            obtain ⟨i, hiM, hi, hl⟩ := ord_of h0 hM
            have hrnd : f_X1_round (nI (M + 1)) = some (nI (i + 1)) := by
              unfold f_X1_round
              have hM0 : nI M ≠ 0 := nI_ne0 h0 (by omega)
              have e2 : (2 : Int32) - 2 / nI M * nI M = nI (2 % M) := pk_rem (a := 2) (d := M) (by omega) h0 (by omega)
              obtain ⟨y, hy⟩ := c_rndL h0 hs hiM hi hl i 0 1100 (by omega) (by omega)
              rw [Nat.zero_add, Nat.pow_one, nI_0] at hy
              have n1 : nI 1 = 1 := rfl
              rw [n1] at hy
              have hle1 : (1 : Int32) ≤ nI M := nI_le (a := 1) h0 (by omega)
              rw [e1, bi_eq, if_pos hle1, gd_ok hM0, e2, bi_eq, hy, jn_some]
            have hord : f_X9_orderOf (nI (M + 1)) = some (nI (i + 1)) := by
              unfold f_X9_orderOf
              by_cases hM1 : M = 1
              · subst hM1
                obtain rfl : i = 0 := by omega
                rfl
              · have hy := m_ordL (by omega) hM hs hi hl i 0 1100 (by omega) (by omega)
                rw [Nat.zero_add, Nat.pow_one] at hy
                have n1 : nI 1 = 1 := rfl
                rw [n1] at hy
                have ho := m_once hM hs (p := 1) (by omega)
                rw [n1] at ho
                have hmo : mo M 1 = 2 % M := by unfold mo; rw [if_pos (by omega)]
                rw [hmo] at ho
                have hg2 : ¬ nI (M + 1) ≤ 2 := nI_ge (b := M + 1) (a := 2) (by omega) (by omega)
                rw [if_neg hg2, ho, jn_some, jn_some, hy, jn_some]
            rw [hrnd, hord, jn_some]
            obtain ⟨y, hy⟩ := m_mixL (p := p) (e := e) (r := i + 1) h0 hM hs hp he (by omega) (by omega) (e % (i + 1)) 0 1100 (by omega) (by have := Nat.mod_lt e (y := i + 1) (by omega); omega)
            rw [itM_0, nI_0] at hy
            simp only [jn_some, hy, c_place h0 hs hp he, itM_rem hi]
            by_cases w : v4 = 0
            · simp only [if_pos w]
              exact ⟨_, rfl, rfl⟩
            · simp only [if_neg w]
              exact ⟨_, rfl, rfl⟩
          · simp only [if_neg h4]
            exact ⟨_, rfl, rfl⟩
        · simp only [if_neg h3]
          exact ⟨_, rfl, rfl⟩
      · simp only [if_neg h2]
        exact ⟨_, rfl, rfl⟩
    · have hz : (M + 1) % 2 = 1 := by omega
      have n1 : nI 1 = 1 := rfl
      simp only [hz, n1, if_true, if_neg (by decide : ¬ (1 : Int32) = 0)]
      exact ⟨_, rfl, rfl⟩
  · simp only [if_neg h1]
    exact ⟨_, rfl, rfl⟩
