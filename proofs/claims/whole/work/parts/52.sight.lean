/-! sights: what fits them -/
def nr (x b d : Int32) : Bool := decide (x.toInt - b.toInt ≤ d.toInt ∧ b.toInt - x.toInt ≤ d.toInt)
def b2i (q : Bool) : Int32 := if q = true then 1 else 0
theorem b2i_0 (q : Bool) : b2i q = 0 ↔ q = false := by cases q <;> decide
theorem c_near {x b d : Int32} (hx : bd x 0 9) (hb : bd b 0 9) : f_X6_isNear x b d = some (b2i (nr x b d)) := by
  unfold f_X6_isNear bd at *
  have e1 : (x - b).toInt = x.toInt - b.toInt := fb_subI (by omega) (by omega)
  have e0 : (0 : Int32).toInt = 0 := rfl
  have e2 : (0 - (x - b)).toInt = - (x.toInt - b.toInt) := by rw [fb_subI (by rw [e1]; omega) (by rw [e1]; omega), e1]; omega
  rw [bi_eq]
  by_cases h1 : 0 ≤ x - b
  · rw [if_pos h1]
    rw [i_le, e1, e0] at h1
    by_cases h2 : d < x - b
    · rw [if_pos h2]
      rw [i_lt, e1] at h2
      unfold nr b2i
      rw [decide_eq_false (by omega)]; rfl
    · rw [if_neg h2]
      rw [i_lt, e1] at h2
      unfold nr b2i
      rw [decide_eq_true (by omega)]; rfl
  · rw [if_neg h1]
    rw [i_le, e1, e0] at h1
    by_cases h2 : d < 0 - (x - b)
    · rw [if_pos h2]
      rw [i_lt, e2] at h2
      unfold nr b2i
      rw [decide_eq_false (by omega)]; rfl
    · rw [if_neg h2]
      rw [i_lt, e2] at h2
      unfold nr b2i
      rw [decide_eq_true (by omega)]; rfl
theorem m_near {x b d : Int32} (hb : bd b 0 9) (hd : bd d 0 8) : f_X9_isLike x b d = some (b2i (nr x b d)) := by
  unfold f_X9_isLike bd at *
  have e1 : (b - d).toInt = b.toInt - d.toInt := fb_subI (by omega) (by omega)
  have e2 : (b + d).toInt = b.toInt + d.toInt := fb_addI (by omega) (by omega)
  rw [in_vr, jW]
  by_cases h : b - d ≤ x ∧ x ≤ b + d
  · rw [if_pos h, gz_1]
    rw [i_le, i_le, e1, e2] at h
    unfold nr b2i
    rw [decide_eq_true (by omega)]; rfl
  · rw [if_neg h, gz_0]
    rw [i_le, i_le, e1, e2] at h
    unfold nr b2i
    rw [decide_eq_false (by omega)]; rfl
/-- the sights from k on -/
def okF (sb ss si : Nat → Int32) (x : Int32) : Nat → Nat → Bool
  | _, 0 => true
  | k, d + 1 => decide (b2i (nr x (sb k) (ss k)) = si k) && okF sb ss si x (k + 1) d
theorem c_fitL {sb ss si : Nat → Int32} {C : Nat} (hC : C ≤ 8) {x : Int32} (hx : bd x 0 9) (w1 : ∀ j, j < 8 → bd (sb j) 0 9) : ∀ d k nn, k + d = C → d < nn → f_X6_fit_L2 x sb ss si (nI C) nn (nI k) = some (if okF sb ss si x k d = true then .inl (nI C) else .inr 0) := by
  intro d
  induction d with
  | zero =>
    intro k nn hk hn
    obtain ⟨a, rfl⟩ : ∃ a, nn = a + 1 := ⟨nn - 1, by omega⟩
    obtain rfl : k = C := by omega
    rw [f_X6_fit_L2, if_pos (by rw [i_le]; exact Int.le_refl _)]
    rfl
  | succ d ih =>
    intro k nn hk hn
    obtain ⟨a, rfl⟩ : ∃ a, nn = a + 1 := ⟨nn - 1, by omega⟩
    have hg : ∀ {ρ : Type} (z : Option ρ), gu (nI k) 8 z = z := fun z => gu_nI (by omega) (by decide) z
    have hcl : (nI k).toNatClampNeg = k := nI_clamp (by omega)
    rw [f_X6_fit_L2, if_neg (nI_ge (by omega) (by omega)), if_neg (nle (n := 8) rfl (by omega)), hg, hg, hcl, c_near hx (w1 k (by omega)), jn_some, hg, nI_1, ih (k + 1) a (by omega) (by omega), okF]
    by_cases h : b2i (nr x (sb k) (ss k)) = si k
    · rw [if_pos h, decide_eq_true h, Bool.true_and]
    · rw [if_neg h, decide_eq_false h, Bool.false_and]; rfl
theorem m_fitL {b sb ss si : Nat → Int32} {C : Nat} (hC : C ≤ 8) {p : Nat} (hp : p < 40) (w1 : ∀ j, j < 8 → bd (sb j) 0 9) (w2 : ∀ j, j < 8 → bd (ss j) 0 8) (w3 : ∀ j, j < 8 → si j = 0 ∨ si j = 1) : ∀ d k nn (y : Bool), k + d = C → d < nn → f_X9_isFit_L4 (nI p) b sb ss si (nI C) nn (b2i y) (nI k) = some (b2i (y && okF sb ss si (b p) k d), nI C) := by
  intro d
  induction d with
  | zero =>
    intro k nn y hk hn
    obtain ⟨a, rfl⟩ : ∃ a, nn = a + 1 := ⟨nn - 1, by omega⟩
    obtain rfl : k = C := by omega
    rw [f_X9_isFit_L4, if_pos (by rw [i_le]; exact Int.le_refl _), okF, Bool.and_true]
  | succ d ih =>
    intro k nn y hk hn
    obtain ⟨a, rfl⟩ : ∃ a, nn = a + 1 := ⟨nn - 1, by omega⟩
    have hg : ∀ {ρ : Type} (z : Option ρ), gu (nI k) 8 z = z := fun z => gu_nI (by omega) (by decide) z
    have hgp : ∀ {ρ : Type} (z : Option ρ), gu (nI p) 40 z = z := fun z => gu_nI hp (by decide) z
    have hcl : (nI k).toNatClampNeg = k := nI_clamp (by omega)
    have hcp : (nI p).toNatClampNeg = p := nI_clamp (by omega)
    rw [f_X9_isFit_L4, if_neg (nI_ge (by omega) (by omega))]
    cases y with
    | false =>
      rw [if_pos (by decide), nI_1]
      have := ih (k + 1) a false (by omega) (by omega)
      rw [show (b2i false) = 0 from rfl] at this
      rw [this, Bool.false_and, Bool.false_and]
    | true =>
      rw [if_neg (by decide), hgp, hg, hg, hcp, hcl, m_near (w1 k (by omega)) (w2 k (by omega)), jn_some, hg, nI_1]
      have e : (if si k = 1 then some (1 : Int32) else some 0) = some (si k) := by
        rcases w3 k (by omega) with h | h <;> rw [h] <;> rfl
      rw [e, jn_some, okF, Bool.true_and]
      by_cases h : b2i (nr (b p) (sb k) (ss k)) = si k
      · have := ih (k + 1) a true (by omega) (by omega)
        rw [show (b2i true) = 1 from rfl, Bool.true_and] at this
        rw [if_pos h, decide_eq_true h, Bool.true_and, this]
      · have := ih (k + 1) a false (by omega) (by omega)
        rw [show (b2i false) = 0 from rfl, Bool.false_and] at this
        rw [if_neg h, decide_eq_false h, Bool.false_and, this]
def fits (sb ss si : Nat → Int32) (C : Nat) (x : Int32) : Bool := okF sb ss si x 0 C
theorem c_fit {sb ss si : Nat → Int32} {C : Nat} (hC : C ≤ 8) {x : Int32} (hx : bd x 0 9) (w1 : ∀ j, j < 8 → bd (sb j) 0 9) : f_X6_fit sb ss si (nI C) x = some (b2i (fits sb ss si C x)) := by
  unfold f_X6_fit
  have := c_fitL (ss := ss) (si := si) hC hx w1 C 0 100 (by omega) (by omega)
  rw [nI_0] at this
  rw [this]
  unfold fits b2i
  by_cases h : okF sb ss si x 0 C = true
  · rw [if_pos h, if_pos h]; rfl
  · rw [if_neg h, if_neg h]; rfl
theorem m_fit {b sb ss si : Nat → Int32} {C : Nat} (hC : C ≤ 8) {p : Nat} (hp : p < 40) (w1 : ∀ j, j < 8 → bd (sb j) 0 9) (w2 : ∀ j, j < 8 → bd (ss j) 0 8) (w3 : ∀ j, j < 8 → si j = 0 ∨ si j = 1) : f_X9_isFit b sb ss si (nI C) (nI p) = some (b2i (fits sb ss si C (b p))) := by
  unfold f_X9_isFit
  have := m_fitL (b := b) hC hp w1 w2 w3 C 0 100 true (by omega) (by omega)
  rw [nI_0, show (b2i true) = 1 from rfl, Bool.true_and] at this
  rw [this, jn_some]
  unfold fits
  cases okF sb ss si (b p) 0 C
  · exact gz_0 _
  · exact gz_1 _
theorem l_own {b sb ss si : Nat → Int32} {C : Nat} (hC : C ≤ 8) (wb : ∀ i, i < 40 → bd (b i) 1 9) (w1 : ∀ j, j < 8 → bd (sb j) 0 9) (w2 : ∀ j, j < 8 → bd (ss j) 0 8) (w3 : ∀ j, j < 8 → si j = 0 ∨ si j = 1) (v : Int32) : ∀ d k nn mm j, k + d = 40 → d < nn → d < mm → j ≤ k → ∃ r, f_X8_own_L12 v b sb ss si (nI C) nn (nI j) (nI k) = some r ∧ f_X9_own_L4 v b sb ss si (nI C) mm (nI j) (nI k) = some r ∧ (v < 0 → ∃ z, r = .inl z) := by
  intro d
  induction d with
  | zero =>
    intro k nn mm j hk hn hm hj
    obtain ⟨a, rfl⟩ : ∃ a, nn = a + 1 := ⟨nn - 1, by omega⟩
    obtain ⟨a', rfl⟩ : ∃ a, mm = a + 1 := ⟨mm - 1, by omega⟩
    obtain rfl : k = 40 := by omega
    have hle : (40 : Int32) ≤ nI 40 := by decide
    exact ⟨.inl (nI j, nI 40), by rw [f_X8_own_L12, if_pos hle], by rw [f_X9_own_L4, if_pos hle], fun _ => ⟨_, rfl⟩⟩
  | succ d ih =>
    intro k nn mm j hk hn hm hj
    obtain ⟨a, rfl⟩ : ∃ a, nn = a + 1 := ⟨nn - 1, by omega⟩
    obtain ⟨a', rfl⟩ : ∃ a, mm = a + 1 := ⟨mm - 1, by omega⟩
    have hni : ¬ (40 : Int32) ≤ nI k := nI_ge (b := 40) (by omega) (by omega)
    have hcl : (nI k).toNatClampNeg = k := nI_clamp (by omega)
    have hbk : bd (b k) 0 9 := by have := wb k (by omega); unfold bd at *; omega
    rw [f_X8_own_L12, f_X9_own_L4, if_neg hni, if_neg hni, gu_nI (by omega) (by decide), hcl, c_fit hC hbk w1, m_fit hC (by omega) w1 w2 w3, jn_some, jn_some, nI_1, nI_1]
    by_cases hf : b2i (fits sb ss si C (b k)) = 0
    · rw [if_pos hf, if_pos hf]
      exact ih (k + 1) a a' j (by omega) (by omega) (by omega) (by omega)
    · rw [if_neg hf, if_neg hf]
      by_cases hv : nI j = v
      · rw [if_pos hv, if_pos hv]
        refine ⟨_, rfl, rfl, fun z => ?_⟩
        rw [← hv] at z
        exact absurd z (nI_pos (by omega))
      · rw [if_neg hv, if_neg hv]
        exact ih (k + 1) a a' (j + 1) (by omega) (by omega) (by omega) (by omega)
theorem s_own {b n o s k h c : Nat → Int32} {m : Int32} (wg : WG b n o s k h c m) {sb ss si : Nat → Int32} {sc : Int32} (ws : WS sb ss si sc) (v : Int32) : ∃ r, f_X8_own b sb ss si sc v = some r ∧ f_X9_own b sb ss si sc v = some r := by
  obtain ⟨w1, w2, w3, w4⟩ := ws
  obtain ⟨C, hC, rfl⟩ : ∃ q : Nat, q ≤ 8 ∧ sc = nI q := by
    unfold bd at w4
    exact ⟨sc.toInt.toNat, by omega, by rw [i_eq, nI_toInt (by omega)]; omega⟩
  unfold f_X8_own f_X9_own
  obtain ⟨r, e1, e2, e3⟩ := l_own hC wg.1 w1 w2 w3 v 40 0 100 100 0 (by omega) (by omega) (by omega) (by omega)
  rw [nI_0] at e1 e2
  rw [e1, e2, jn_some]
  by_cases hv : (-1 : Int32) ≤ v
  · rw [if_pos hv]
    cases r with
    | inl z =>
      by_cases h1 : v = -1
      · exact ⟨z.1, by simp only [Sum.elim_inl, if_pos h1], by simp only [Sum.elim_inl, if_pos h1]⟩
      · exact ⟨-6, by simp only [Sum.elim_inl, if_neg h1], by simp only [Sum.elim_inl, if_neg h1]⟩
    | inr z => exact ⟨_, rfl, rfl⟩
  · rw [if_neg hv]
    rw [i_le] at hv
    have em : (-1 : Int32).toInt = -1 := rfl
    have e0 : (0 : Int32).toInt = 0 := rfl
    obtain ⟨z, rfl⟩ := e3 (by rw [i_lt]; omega)
    have h1 : ¬ v = -1 := by rw [i_eq]; omega
    exact ⟨-6, rfl, by simp only [Sum.elim_inl, if_neg h1]⟩
