/-- the digits from the end, from k on -/
def okD (V : Nat) : Nat → Nat → Bool
  | _, 0 => true
  | k, d + 1 => decide (¬ V / 10 ^ k % 10 = 0) && okD V (k + 1) d
theorem m_isRowL {V T : Nat} (hV : V < 2 ^ 31) (hT : T ≤ 9) : ∀ d k nn (f : Bool), k + d = T → d < nn → ∃ z, f_X9_isRow_L15 (nI T) nn (nI (V / 10 ^ k)) (b2i f) (nI k) = some (nI (V / 10 ^ T), b2i (f && okD V k d), z) := by
  intro d
  induction d with
  | zero =>
    intro k nn f hk hn
    obtain ⟨a, rfl⟩ : ∃ a, nn = a + 1 := ⟨nn - 1, by omega⟩
    obtain rfl : k = T := by omega
    rw [f_X9_isRow_L15, if_pos (by rw [i_le]; exact Int.le_refl _), okD, Bool.and_true]
    exact ⟨_, rfl⟩
  | succ d ih =>
    intro k nn f hk hn
    obtain ⟨a, rfl⟩ : ∃ a, nn = a + 1 := ⟨nn - 1, by omega⟩
    have hd : V / 10 ^ k ≤ V := Nat.div_le_self _ _
    have er : nI (V / 10 ^ k) - nI (V / 10 ^ k) / 10 * 10 = nI (V / 10 ^ k % 10) := pk_rem (d := 10) (by omega) (by decide) (by decide)
    have eq : nI (V / 10 ^ k) / 10 = nI (V / 10 ^ (k + 1)) := by
      rw [Nat.pow_succ, ← Nat.div_div_eq_div_mul]
      exact pk_div (d := 10) (by omega) (by decide) (by decide)
    have hm : V / 10 ^ k % 10 < 10 := Nat.mod_lt _ (by decide)
    rw [f_X9_isRow_L15, if_neg (nI_ge (by omega) (by omega)), er, eq, okD]
    simp only [bi_eq, nI_1]
    cases f with
    | false =>
      rw [if_pos (by decide), jn_some, Bool.false_and]
      have := ih (k + 1) a false (by omega) (by omega)
      rw [Bool.false_and] at this
      exact this
    | true =>
      rw [if_neg (by decide), Bool.true_and]
      by_cases h : V / 10 ^ k % 10 = 0
      · rw [h, if_pos (by decide), jn_some]
        have := ih (k + 1) a false (by omega) (by omega)
        rw [Bool.false_and] at this
        rw [decide_eq_false (by simp), Bool.false_and]
        exact this
      · rw [if_neg (nI_nle (by omega) (by omega)), jn_some]
        have := ih (k + 1) a true (by omega) (by omega)
        rw [Bool.true_and] at this
        rw [decide_eq_true h, Bool.true_and]
        exact this
theorem okD_iff (V : Nat) : ∀ d k, okD V k d = true ↔ ∀ j, k ≤ j → j < k + d → ¬ V / 10 ^ j % 10 = 0
  | 0, k => ⟨fun _ j h1 h2 => absurd h1 (by omega), fun _ => rfl⟩
  | d + 1, k => by
    rw [okD, Bool.and_eq_true, decide_eq_true_eq, okD_iff V d (k + 1)]
    constructor
    · rintro ⟨h1, h2⟩ j q1 q2
      by_cases h : j = k
      · subst h; exact h1
      · exact h2 j (by omega) (by omega)
    · intro h
      exact ⟨h k (Nat.le_refl _) (by omega), fun j q1 q2 => h j (by omega) (by omega)⟩
def okC (V T : Nat) : Nat → Nat → Bool
  | _, 0 => true
  | k, d + 1 => decide (¬ dg V T k = 0) && okC V T (k + 1) d
theorem c_isRowL {V T : Nat} (hV : V < 2 ^ 31) (hT : T ≤ 9) : ∀ d k nn, k + d = T → d < nn → f_X5_isRow_L35 (nI V) (nI T) nn (nI k) = some (if okC V T k d = true then .inl (nI T) else .inr 0) := by
  intro d
  induction d with
  | zero =>
    intro k nn hk hn
    obtain ⟨a, rfl⟩ : ∃ a, nn = a + 1 := ⟨nn - 1, by omega⟩
    obtain rfl : k = T := by omega
    rw [f_X5_isRow_L35, if_pos (by rw [i_le]; exact Int.le_refl _)]
    rfl
  | succ d ih =>
    intro k nn hk hn
    obtain ⟨a, rfl⟩ : ∃ a, nn = a + 1 := ⟨nn - 1, by omega⟩
    have hl := dg_lt V T k
    rw [f_X5_isRow_L35, if_neg (nI_ge (by omega) (by omega)), c_digit hV hT (by omega), jn_some, nI_1, okC, ih (k + 1) a (by omega) (by omega)]
    by_cases h : dg V T k = 0
    · rw [h, nI_0, if_pos rfl, decide_eq_false (by simp), Bool.false_and]; rfl
    · rw [if_neg (nI_ne0 (by omega) (by omega)), decide_eq_true h, Bool.true_and]
