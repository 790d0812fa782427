/-! taking: the numbers that lose are one less than a power of two -/
def low (n : Nat) : Nat := 2 ^ Nat.log2 (n + 1) - 1
theorem low_of {n k : Nat} (h1 : 2 ^ k ≤ n + 1) (h2 : n + 1 < 2 ^ (k + 1)) : low n = 2 ^ k - 1 := by
  unfold low
  rw [(Nat.log2_eq_iff (by omega)).2 ⟨h1, h2⟩]
theorem low_in (n : Nat) : ∃ k, low n = 2 ^ k - 1 ∧ 2 ^ k ≤ n + 1 ∧ n + 1 < 2 ^ (k + 1) := by
  obtain ⟨h1, h2⟩ := (Nat.log2_eq_iff (k := Nat.log2 (n + 1)) (n := n + 1) (by omega)).1 rfl
  exact ⟨_, rfl, h1, h2⟩
theorem k_first : ∀ n : Nat, n < 999 → f_X8_firstTaking (nI (n + 1)) = some (nI (n + 1 - low (n + 1))) := by decide +kernel
def win (n : Nat) : Int32 := if low n = n then 0 else 1
theorem lost_no {n y : Nat} (h : low n = n) (h1 : 1 ≤ y) (h2 : y ≤ n / 2) : ¬ low (n - y) = n - y := by
  obtain ⟨k, e, a, b⟩ := low_in n
  obtain ⟨j, rfl⟩ : ∃ j, k = j + 1 := by
    cases k with
    | zero => exfalso; rw [Nat.pow_zero] at e; omega
    | succ j => exact ⟨j, rfl⟩
  have p2 : 2 ^ (j + 1) = 2 ^ j * 2 := Nat.pow_succ ..
  have := low_of (n := n - y) (k := j) (by omega) (by omega)
  omega
theorem won_no {n y : Nat} (h1 : y < n - low n) : ¬ low (n - y) = n - y := by
  obtain ⟨k, e, a, b⟩ := low_in n
  have := low_of (n := n - y) (k := k) (by omega) (by omega)
  omega
theorem won_at {n : Nat} : low (n - (n - low n)) = n - (n - low n) := by
  obtain ⟨k, e, a, b⟩ := low_in n
  have p0 : 0 < 2 ^ k := Nat.pow_pos (by decide)
  have p2 : 2 ^ (k + 1) = 2 ^ k * 2 := Nat.pow_succ ..
  have := low_of (n := n - (n - low n)) (k := k) (by omega) (by omega)
  omega
theorem low_b (n : Nat) (h : 0 < n) : low n ≤ n ∧ n - low n ≤ n / 2 := by
  obtain ⟨k, e, a, b⟩ := low_in n
  have p0 : 0 < 2 ^ k := Nat.pow_pos (by decide)
  have p2 : 2 ^ (k + 1) = 2 ^ k * 2 := Nat.pow_succ ..
  omega
theorem dn_1 (Y : Nat) : nI (Y + 1) + (-1) = nI Y := by
  rw [← nI_pred Y, Int32.sub_eq_add_neg]
/-- no number from Y down loses -/
theorem lt_no {n : Nat} (hn : n < 1000) {W : Nat → Int32} (hW : ∀ i, 1 ≤ i → i < n → W i = win i) : ∀ Y nn (y2 : Int32), Y ≤ n / 2 → Y < nn → (∀ y, 1 ≤ y → y ≤ Y → ¬ low (n - y) = n - y) → f_X9_leastTake_L7 (nI n) W nn y2 (nI Y) = some (y2, 0) := by
  intro Y
  induction Y with
  | zero =>
    intro nn y2 h1 h2 h3
    obtain ⟨a, rfl⟩ : ∃ a, nn = a + 1 := ⟨nn - 1, by omega⟩
    rw [f_X9_leastTake_L7, if_pos (by decide)]; rfl
  | succ Y ih =>
    intro nn y2 h1 h2 h3
    obtain ⟨a, rfl⟩ : ∃ a, nn = a + 1 := ⟨nn - 1, by omega⟩
    have es : nI n - nI (Y + 1) = nI (n - (Y + 1)) := pk_sub (by omega)
    have hcl : (nI (n - (Y + 1))).toNatClampNeg = n - (Y + 1) := nI_clamp (by omega)
    rw [f_X9_leastTake_L7, if_neg (nI_nle (by omega) (by omega)), es, gu_nI (by omega) (by decide), hcl, hW _ (by omega) (by omega), dn_1]
    unfold win
    rw [if_neg (h3 (Y + 1) (by omega) (by omega)), if_neg (by decide)]
    exact ih a y2 (by omega) (by omega) (fun y q1 q2 => h3 y q1 (by omega))
theorem lt_yes {n : Nat} (hn : n < 1000) {W : Nat → Int32} (hW : ∀ i, 1 ≤ i → i < n → W i = win i) (hl : low n < n) : ∀ Y nn (y2 : Int32), n - low n ≤ Y → Y ≤ n / 2 → Y < nn → f_X9_leastTake_L7 (nI n) W nn y2 (nI Y) = some (nI (n - low n), 0) := by
  intro Y
  induction Y with
  | zero => intro nn y2 h1; exact absurd h1 (by omega)
  | succ Y ih =>
    intro nn y2 h0 h1 h2
    obtain ⟨a, rfl⟩ : ∃ a, nn = a + 1 := ⟨nn - 1, by omega⟩
    have es : nI n - nI (Y + 1) = nI (n - (Y + 1)) := pk_sub (by omega)
    have hcl : (nI (n - (Y + 1))).toNatClampNeg = n - (Y + 1) := nI_clamp (by omega)
    rw [f_X9_leastTake_L7, if_neg (nI_nle (by omega) (by omega)), es, gu_nI (by omega) (by decide), hcl, hW _ (by omega) (by omega), dn_1]
    by_cases hy : Y + 1 = n - low n
    · have : win (n - (Y + 1)) = 0 := by unfold win; rw [hy, if_pos won_at]
      rw [this, if_pos rfl, lt_no hn hW Y a _ (by omega) (by omega) (fun y q1 q2 => won_no (by omega)), hy]
    · rw [ih a _ (by omega) (by omega) (by omega), ih a _ (by omega) (by omega) (by omega), ite_self]
theorem m_least {n : Nat} (h0 : 0 < n) (hn : n < 1000) {W : Nat → Int32} (hW : ∀ i, 1 ≤ i → i < n → W i = win i) : f_X9_leastTake W (nI n) = some (if low n = n then -6 else nI (n - low n)) := by
  unfold f_X9_leastTake
  have e2 : nI n / 2 = nI (n / 2) := pk_div (d := 2) (by omega) (by decide) (by decide)
  obtain ⟨l1, l2⟩ := low_b n h0
  rw [e2, bi_eq]
  by_cases h : low n = n
  · rw [if_pos h, lt_no hn hW (n / 2) 600 _ (by omega) (by omega) (fun y q1 q2 => lost_no h q1 q2), jn_some]
  · rw [if_neg h, lt_yes hn hW (by omega) (n / 2) 600 _ l2 (by omega) (by omega), jn_some]
theorem m_takeL {n : Nat} (hn : n < 1000) : ∀ d k nn (W : Nat → Int32), k + d = n → d + 1 < nn → (∀ i, 1 ≤ i → i < k + 1 → W i = win i) → ∃ W' y, f_X9_take_L27 (nI n) nn (nI (k + 1)) W = some (y, W') ∧ ∀ i, 1 ≤ i → i < n + 1 → W' i = win i := by
  intro d
  induction d with
  | zero =>
    intro k nn W hk h2 hW
    obtain ⟨a, rfl⟩ : ∃ a, nn = a + 1 := ⟨nn - 1, by omega⟩
    obtain rfl : k = n := by omega
    exact ⟨W, _, by rw [f_X9_take_L27, if_pos (nI_lt (by omega) (by omega))], hW⟩
  | succ d ih =>
    intro k nn W hk h2 hW
    obtain ⟨a, rfl⟩ : ∃ a, nn = a + 1 := ⟨nn - 1, by omega⟩
    have hcl : (nI (k + 1)).toNatClampNeg = k + 1 := nI_clamp (by omega)
    have v0 : vp_nar .boolean 0 = 0 := rfl
    have v1 : vp_nar .boolean 1 = 1 := rfl
    have hg : ∀ {ρ : Type} (z : Option ρ), gu (nI (k + 1)) 1000 z = z := fun z => gu_nI (by omega) (by decide) z
    rw [f_X9_take_L27, if_neg (nI_nlt (by omega) (by omega)), m_least (by omega) (by omega) hW, jn_some, hg, hg, hcl, nI_1, v0, v1]
    have nx : ∀ x : Int32, x = win (k + 1) → ∀ i, 1 ≤ i → i < k + 1 + 1 → upd W (k + 1) x i = win i := by
      intro x hx i h1 h2
      rw [up_if]
      by_cases h : i = k + 1
      · rw [if_pos h, hx, h]
      · rw [if_neg h]; exact hW i h1 (by omega)
    by_cases h : low (k + 1) = k + 1
    · rw [if_pos h, if_pos (by decide)]
      exact ih (k + 1) a _ (by omega) (by omega) (nx 0 (by unfold win; rw [if_pos h]))
    · rw [if_neg h, if_neg (nI_pos (by omega))]
      exact ih (k + 1) a _ (by omega) (by omega) (nx 1 (by unfold win; rw [if_neg h]))
theorem s_take (W : Nat → Int32) (v1 v2 : Int32) : ∃ r r', f_X8_take v1 v2 = some r ∧ f_X9_take W v1 v2 = some r' ∧ r = r'.1 := by
  unfold f_X8_take f_X9_take
  simp only [in_tk, in_01, jW, i10, i00, if_true, if_false]
  by_cases h1 : (1 : Int32) ≤ v1 ∧ v1 ≤ 999
  · simp only [if_pos h1]
    by_cases h2 : (0 : Int32) ≤ v2 ∧ v2 ≤ 1
    · simp only [if_pos h2]
      have b1 := bd_of (a := 1) (b := 999) h1 rfl rfl
      unfold bd at b1
      obtain ⟨n, hn, q1⟩ : ∃ q : Nat, q < 999 ∧ v1 = nI (q + 1) := ⟨v1.toInt.toNat - 1, by omega, by rw [i_eq, nI_toInt (by omega)]; omega⟩
      subst q1
      obtain ⟨W', y, e1, e2⟩ := m_takeL (n := n + 1) (by omega) (n + 1) 0 1100 W (by omega) (by omega) (fun i q1 q2 => absurd q2 (by omega))
      have n1 : nI (0 + 1) = 1 := rfl
      rw [n1] at e1
      have hcl : (nI (n + 1)).toNatClampNeg = n + 1 := nI_clamp (by omega)
      obtain ⟨l1, l2⟩ := low_b (n + 1) (by omega)
      simp only [k_first n hn, e1, jn_some, m_least (n := n + 1) (by omega) (by omega) (fun i q1 q2 => e2 i q1 (by omega)), gu_nI (show n + 1 < 1000 by omega) (by decide), hcl, e2 (n + 1) (by omega) (by omega)]
      have z01 : ¬ (1 : Int32) = 0 := by decide
      by_cases h : low (n + 1) = n + 1
      · have hz : nI (n + 1 - low (n + 1)) = 0 := by rw [h, Nat.sub_self]; rfl
        have hw : win (n + 1) = 0 := by unfold win; rw [if_pos h]
        simp only [hz, hw, if_true, if_pos h]
        by_cases w : v2 = 0
        · have w1 : ¬ v2 = 1 := by rw [w]; decide
          simp only [if_pos w, if_neg w1]
          exact ⟨_, _, rfl, rfl, rfl⟩
        · have w1 : v2 = 1 := by
            have b2 := bd_of (a := 0) (b := 1) h2 rfl rfl
            have e0 : (0 : Int32).toInt = 0 := rfl
            have e1 : (1 : Int32).toInt = 1 := rfl
            unfold bd at b2
            rw [i_eq] at w ⊢; omega
          simp only [if_neg w, if_pos w1]
          exact ⟨_, _, rfl, rfl, rfl⟩
      · have hz : ¬ nI (n + 1 - low (n + 1)) = 0 := nI_ne0 (by omega) (by omega)
        have hw : ¬ win (n + 1) = 0 := by unfold win; rw [if_neg h]; decide
        simp only [if_neg hz, if_neg hw, if_neg h]
        by_cases w : v2 = 0
        · have w1 : ¬ v2 = 1 := by rw [w]; decide
          simp only [if_pos w, if_neg w1]
          exact ⟨_, _, rfl, rfl, rfl⟩
        · have w1 : v2 = 1 := by
            have b2 := bd_of (a := 0) (b := 1) h2 rfl rfl
            have e0 : (0 : Int32).toInt = 0 := rfl
            have e1 : (1 : Int32).toInt = 1 := rfl
            unfold bd at b2
            rw [i_eq] at w ⊢; omega
          simp only [if_neg w, if_pos w1]
          exact ⟨_, _, rfl, rfl, rfl⟩
    · simp only [if_neg h2]
      exact ⟨_, _, rfl, rfl, rfl⟩
  · simp only [if_neg h1]
    exact ⟨_, _, rfl, rfl, rfl⟩
