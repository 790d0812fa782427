/-! isRow = isRow; readBoth -/
theorem m_isRowN {T : Nat} (hT : T ≤ 9) : ∀ d k nn y2, k + d = T → d < nn → ∃ z z', f_X9_isRow_L15 (nI T) nn y2 0 (nI k) = some (z, 0, z') := by
  intro d
  induction d with
  | zero =>
    intro k nn y2 hk hn
    obtain ⟨a, rfl⟩ : ∃ a, nn = a + 1 := ⟨nn - 1, by omega⟩
    obtain rfl : k = T := by omega
    rw [f_X9_isRow_L15, if_pos (by rw [i_le]; exact Int.le_refl _)]
    exact ⟨_, _, rfl⟩
  | succ d ih =>
    intro k nn y2 hk hn
    obtain ⟨a, rfl⟩ : ∃ a, nn = a + 1 := ⟨nn - 1, by omega⟩
    rw [f_X9_isRow_L15, if_neg (nI_ge (by omega) (by omega)), if_pos rfl, jn_some, bi_eq, nI_1]
    exact ih (k + 1) a _ (by omega) (by omega)
theorem okC_iff (V T : Nat) : ∀ d k, okC V T k d = true ↔ ∀ j, k ≤ j → j < k + d → ¬ dg V T j = 0
  | 0, k => ⟨fun _ j h1 h2 => absurd h1 (by omega), fun _ => rfl⟩
  | d + 1, k => by
    rw [okC, Bool.and_eq_true, decide_eq_true_eq, okC_iff V T d (k + 1)]
    constructor
    · rintro ⟨h1, h2⟩ j q1 q2
      by_cases h : j = k
      · subst h; exact h1
      · exact h2 j (by omega) (by omega)
    · intro h
      exact ⟨h k (Nat.le_refl _) (by omega), fun j q1 q2 => h j (by omega) (by omega)⟩
theorem okCD (V T : Nat) : okC V T 0 T = okD V 0 T := by
  rw [Bool.eq_iff_iff, okC_iff, okD_iff]
  unfold dg
  constructor
  · intro h j _ h2
    have := h (T - 1 - j) (by omega) (by omega)
    rw [show T - 1 - (T - 1 - j) = j from by omega] at this
    exact this
  · intro h j _ h2
    exact h (T - 1 - j) (by omega) (by omega)
theorem r_isRow (v : Int32) {T : Nat} (h1 : 1 ≤ T) (hT : T ≤ 9) : ∃ g : Bool, f_X5_isRow v (nI T) = some (b2i g) ∧ f_X9_isRow v (nI T) = some (b2i g) ∧ (g = true → ∃ V, v = nI V ∧ V < 2 ^ 31 ∧ ∀ j, j < T → 0 < dg V T j) := by
  have hp9 : 10 ^ T ≤ 10 ^ 9 := Nat.pow_le_pow_right (by decide) hT
  have hp0 : 0 < 10 ^ T := Nat.pow_pos (by decide)
  have hq9 : 10 ^ (T - 1) ≤ 10 ^ 9 := Nat.pow_le_pow_right (by decide) (by omega)
  have hq0 : 0 < 10 ^ (T - 1) := Nat.pow_pos (by decide)
  have e1 : nI T - 1 = nI (T - 1) := pk_sub (b := 1) (by omega)
  have cl1 : (nI (T - 1)).toNatClampNeg = T - 1 := nI_clamp (by omega)
  have cl2 : (nI T).toNatClampNeg = T := nI_clamp (by omega)
  have hw : (1 : Int32) ≤ nI T ∧ nI T ≤ 9 := bd_to (a := 1) (b := 9) (by unfold bd; rw [nI_toInt (by omega)]; omega) rfl rfl
  unfold f_X5_isRow f_X9_isRow
  rw [jW, if_pos hw, n10, e1, gu_nI (by omega) (by decide), gu_nI (by omega) (by decide), cl1, cl2, k_tens _ (by omega), k_tens _ (by omega), gd_ok (nI_ne0 hp0 (by omega))]
  by_cases h0 : v ≤ 0
  · refine ⟨false, ?_, ?_, fun h => absurd h (by decide)⟩
    · rw [if_pos]
      · rfl
      · rw [i_lt, nI_toInt (by omega)]
        rw [i_le] at h0
        have e0 : (0 : Int32).toInt = 0 := rfl
        omega
    · obtain ⟨z, z', e⟩ := m_isRowN hT T 0 100 v (by omega) (by omega)
      rw [nI_0] at e
      rw [if_pos h0, jn_some, e, jn_some, if_pos rfl]; rfl
  · have hn0 : ¬ v < 0 := by
      intro w
      apply h0
      rw [i_lt] at w
      rw [i_le]
      omega
    obtain ⟨V, hV, rfl⟩ := nI_of hn0
    have hV0 : 0 < V := by
      rcases Nat.eq_zero_or_pos V with z | z
      · subst z; exact absurd (by decide) h0
      · exact z
    obtain ⟨z, e⟩ := m_isRowL hV hT T 0 100 true (by omega) (by omega)
    rw [Nat.pow_zero, Nat.div_one, nI_0, Bool.true_and, show b2i true = 1 from rfl] at e
    have e2 := c_isRowL hV hT T 0 100 (by omega) (by omega)
    rw [nI_0, okCD] at e2
    have hd : V / 10 ^ T ≤ V := Nat.div_le_self _ _
    rw [if_neg h0, jn_some, e, jn_some, e2, pk_div hV hp0 (by omega)]
    by_cases hd0 : V / 10 ^ T = 0
    · by_cases hok : okD V 0 T = true
      · refine ⟨true, ?_, ?_, fun _ => ⟨V, rfl, hV, fun j hj => ?_⟩⟩
        · rw [if_neg, hd0, if_pos nI_0, if_pos hok]
          · rfl
          · apply nI_nlt _ hV
            have h3 := (okD_iff V T 0).1 hok (T - 1) (by omega) (by omega)
            have h4 : ¬ V / 10 ^ (T - 1) = 0 := fun w => h3 (by rw [w])
            rw [Nat.div_eq_zero_iff] at h4
            omega
        · rw [hok, if_neg (show ¬ b2i true = 0 by decide), hd0, if_pos nI_0]; rfl
        · have h3 := (okC_iff V T T 0).1 (by rw [okCD]; exact hok) j (by omega) (by omega)
          omega
      · refine ⟨false, ?_, ?_, fun h => absurd h (by decide)⟩
        · rw [hd0, if_pos nI_0, if_neg hok]
          by_cases h3 : nI V < nI (10 ^ (T - 1))
          · rw [if_pos h3]; rfl
          · rw [if_neg h3]; rfl
        · rw [Bool.eq_false_iff.2 hok, if_pos (show b2i false = 0 by decide)]; rfl
    · refine ⟨false, ?_, ?_, fun h => absurd h (by decide)⟩
      · rw [if_neg (nI_ne0 (Nat.pos_of_ne_zero hd0) (Nat.lt_of_le_of_lt hd hV))]
        by_cases h3 : nI V < nI (10 ^ (T - 1))
        · rw [if_pos h3]; rfl
        · rw [if_neg h3]; rfl
      · rw [if_neg (nI_ne0 (Nat.pos_of_ne_zero hd0) (Nat.lt_of_le_of_lt hd hV))]
        by_cases h3 : b2i (okD V 0 T) = 0
        · rw [if_pos h3]; rfl
        · rw [if_neg h3]; rfl
/-- the reference reads its rows -/
theorem m_readL {V W T : Nat} (hV : V < 2 ^ 31) (hW : W < 2 ^ 31) (hT : T ≤ 9) : ∀ d nn (o s : Nat → Int32), d ≤ T → d < nn → (∀ j, d ≤ j → j < T → o j = nI (dg V T j) ∧ s j = nI (dg W T j)) → ∃ y4 y5 y6 o' s', f_X9_readBoth_L41 nn (nI (V / 10 ^ (T - d))) (nI (W / 10 ^ (T - d))) (nI d + (-1)) o s = some (y4, y5, y6, o', s') ∧ ∀ j, j < T → o' j = nI (dg V T j) ∧ s' j = nI (dg W T j) := by
  intro d
  induction d with
  | zero =>
    intro nn o s hk hn h
    obtain ⟨a, rfl⟩ : ∃ a, nn = a + 1 := ⟨nn - 1, by omega⟩
    rw [f_X9_readBoth_L41, nI_0, if_pos (by decide)]
    exact ⟨_, _, _, _, _, rfl, fun j hj => h j (by omega) hj⟩
  | succ d ih =>
    intro nn o s hk hn h
    obtain ⟨a, rfl⟩ : ∃ a, nn = a + 1 := ⟨nn - 1, by omega⟩
    have hdV : V / 10 ^ (T - (d + 1)) ≤ V := Nat.div_le_self _ _
    have hdW : W / 10 ^ (T - (d + 1)) ≤ W := Nat.div_le_self _ _
    have cl : (nI d).toNatClampNeg = d := nI_clamp (by omega)
    have eT : T - d = T - (d + 1) + 1 := by omega
    have rV : nI (V / 10 ^ (T - (d + 1))) - nI (V / 10 ^ (T - (d + 1))) / 10 * 10 = nI (dg V T d) := by
      unfold dg
      rw [show T - 1 - d = T - (d + 1) from by omega]
      exact pk_rem (d := 10) (by omega) (by decide) (by decide)
    have rW : nI (W / 10 ^ (T - (d + 1))) - nI (W / 10 ^ (T - (d + 1))) / 10 * 10 = nI (dg W T d) := by
      unfold dg
      rw [show T - 1 - d = T - (d + 1) from by omega]
      exact pk_rem (d := 10) (by omega) (by decide) (by decide)
    have qV : nI (V / 10 ^ (T - (d + 1))) / 10 = nI (V / 10 ^ (T - d)) := by
      rw [eT, Nat.pow_succ, ← Nat.div_div_eq_div_mul]
      exact pk_div (d := 10) (by omega) (by decide) (by decide)
    have qW : nI (W / 10 ^ (T - (d + 1))) / 10 = nI (W / 10 ^ (T - d)) := by
      rw [eT, Nat.pow_succ, ← Nat.div_div_eq_div_mul]
      exact pk_div (d := 10) (by omega) (by decide) (by decide)
    rw [f_X9_readBoth_L41, pk_m1, if_neg (nI_pos (by omega)), gu_nI (by omega) (by decide), gu_nI (by omega) (by decide), bi_eq, bi_eq, cl, rV, rW, qV, qW]
    refine ih a _ _ (by omega) (by omega) (fun j h1 h2 => ?_)
    rw [up_if, up_if]
    by_cases e : j = d
    · subst e; rw [if_pos rfl, if_pos rfl]; exact ⟨rfl, rfl⟩
    · rw [if_neg e, if_neg e]; exact h j (by omega) h2
/-- both tests alike; and what is read -/
theorem r_told (o s : Nat → Int32) (v1 v2 v3 : Int32) : (f_X5_isAsTold v1 v2 v3 = some 0 ∧ f_X9_readBoth o s v1 v2 v3 = some (0, o, s)) ∨ ∃ V W T o' s', v1 = nI V ∧ v2 = nI W ∧ v3 = nI T ∧ V < 2 ^ 31 ∧ W < 2 ^ 31 ∧ 1 ≤ T ∧ T ≤ 9 ∧ (∀ j, j < T → 0 < dg V T j ∧ 0 < dg W T j) ∧ f_X5_isAsTold v1 v2 v3 = some 1 ∧ f_X9_readBoth o s v1 v2 v3 = some (1, o', s') ∧ ∀ j, j < T → o' j = nI (dg V T j) ∧ s' j = nI (dg W T j) := by
  unfold f_X5_isAsTold f_X9_readBoth
  simp only [in_19, jW, i10, i00, if_true, if_false]
  by_cases h : (1 : Int32) ≤ v3 ∧ v3 ≤ 9
  · rw [if_pos h]
    obtain ⟨T, hT, rfl⟩ := nI_of2 (M := 9) (n := 9) rfl (by rw [i_lt]; have := h.1; rw [i_le] at this; have e0 : (0 : Int32).toInt = 0 := rfl; have e1 : (1 : Int32).toInt = 1 := rfl; omega) h.2
    have h1 : 1 ≤ T := by
      have := h.1
      rw [i_le, nI_toInt (by omega)] at this
      have e1 : (1 : Int32).toInt = 1 := rfl
      omega
    obtain ⟨g, a1, a2, a3⟩ := r_isRow v1 h1 hT
    obtain ⟨g', b1, b2, b3⟩ := r_isRow v2 h1 hT
    rw [a1, a2, jn_some, jn_some, b1, b2]
    cases g with
    | false => exact Or.inl ⟨rfl, rfl⟩
    | true =>
      rw [if_neg (show ¬ b2i true = 0 by decide), if_neg (show ¬ b2i true = 0 by decide), jn_some, jn_some]
      cases g' with
      | false => exact Or.inl ⟨rfl, rfl⟩
      | true =>
        rw [if_neg (show ¬ b2i true = 0 by decide), if_neg (show ¬ b2i true = 0 by decide)]
        obtain ⟨V, rfl, hV, dV⟩ := a3 rfl
        obtain ⟨W, rfl, hW, dW⟩ := b3 rfl
        obtain ⟨y4, y5, y6, o', s', e, ho⟩ := m_readL hV hW hT T 100 o s (Nat.le_refl _) (by omega) (fun j h1 h2 => absurd h1 (by omega))
        rw [Nat.sub_self, Nat.pow_zero, Nat.div_one, Nat.div_one, ← Int32.sub_eq_add_neg] at e
        rw [bi_eq, e, jn_some]
        exact Or.inr ⟨V, W, T, o', s', rfl, rfl, rfl, hV, hW, h1, hT, fun j hj => ⟨dV j hj, dW j hj⟩, rfl, rfl, ho⟩
  · have z : f_X5_isRow v1 v3 = some 0 := by
      unfold f_X5_isRow
      rw [jW, if_neg h, if_pos rfl]
    rw [if_neg h, z]
    exact Or.inl ⟨rfl, rfl⟩
