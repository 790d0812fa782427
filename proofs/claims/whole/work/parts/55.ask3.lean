section
variable {b sb ss si : Nat → Int32} {C : Nat}
def cS (b sb ss si : Nat → Int32) (C t : Nat) : Int32 × Int32 := if t = 10 then (-6, -6) else (nI (bst b sb ss si C (t - 11)).1, nI (bst b sb ss si C (t - 11)).2)
theorem c_findL (wb : ∀ i, i < 40 → bd (b i) 1 9) {f : Nat → Int32} (hf : ∀ x, x < 10 → f x = nI (fb_ct (fun j => FT b sb ss si C j && decide (colF b j = x)) 40)) {Q : Nat} (h1 : 1 ≤ Q) (h9 : Q ≤ 9) : ∀ d k nn, k + d = 9 → d < nn → f_X6_findQuestion_L34 (nI (TT b sb ss si C)) (nI Q) f nn (nI k) (cS b sb ss si C (10 * Q + k)).1 (cS b sb ss si C (10 * Q + k)).2 = some (nI 9, (cS b sb ss si C (10 * Q + 9)).1, (cS b sb ss si C (10 * Q + 9)).2) := by
  intro d
  induction d with
  | zero =>
    intro k nn hk hn
    obtain ⟨a, rfl⟩ : ∃ a, nn = a + 1 := ⟨nn - 1, by omega⟩
    obtain rfl : k = 9 := by omega
    rw [f_X6_findQuestion_L34, if_pos (by decide)]
  | succ d ih =>
    intro k nn hk hn
    obtain ⟨a, rfl⟩ : ∃ a, nn = a + 1 := ⟨nn - 1, by omega⟩
    have hni : ¬ (9 : Int32) ≤ nI k := nI_ge (b := 9) (by omega) (by omega)
    have hq : bd (nI Q) 0 9 := by unfold bd; rw [nI_toInt (by omega)]; omega
    have e := ih (k + 1) a (by omega) (by omega)
    have em : (10 : Int32) * nI Q + nI k = nI (10 * Q + k) := by
      rw [show (10 : Int32) * nI Q = nI (10 * Q) from pk_mul 10 Q, nI_add]
    have hW := WW_le (b := b) (sb := sb) (ss := ss) (si := si) (C := C) (nI Q) (nI k)
    have hT := TT_le (b := b) (sb := sb) (ss := ss) (si := si) (C := C)
    have es : nI (TT b sb ss si C) - nI (WW b sb ss si C (nI Q) (nI k)) = nI (TT b sb ss si C - WW b sb ss si C (nI Q) (nI k)) := pk_sub hW
    have ex : (if nI (WW b sb ss si C (nI Q) (nI k)) < nI (TT b sb ss si C) - nI (WW b sb ss si C (nI Q) (nI k)) then nI (TT b sb ss si C) - nI (WW b sb ss si C (nI Q) (nI k)) else nI (WW b sb ss si C (nI Q) (nI k))) = nI (MM b sb ss si C (nI Q) (nI k)) := by
      rw [es]
      unfold MM
      by_cases hx : WW b sb ss si C (nI Q) (nI k) < TT b sb ss si C - WW b sb ss si C (nI Q) (nI k)
      · rw [if_pos (nI_lt hx (by omega)), if_pos (by omega)]
      · rw [if_neg (nI_nlt (by omega) (by omega))]
        by_cases hy : WW b sb ss si C (nI Q) (nI k) ≤ TT b sb ss si C - WW b sb ss si C (nI Q) (nI k)
        · rw [if_pos hy]
          exact congrArg nI (by omega)
        · rw [if_neg hy]
    rw [f_X6_findQuestion_L34, if_neg hni, c_cntNear wb hf hq, jn_some, ex, bi_eq, em, nI_1]
    have hM := MM_le (b := b) (sb := sb) (ss := ss) (si := si) (C := C) (nI Q) (nI k)
    by_cases ht : 10 * Q + k = 10
    · have hQ : Q = 1 := by omega
      have hk0 : k = 0 := by omega
      subst hQ hk0
      have c1 : cS b sb ss si C (10 * 1 + 0) = (-6, -6) := rfl
      have c2 : cS b sb ss si C (10 * 1 + (0 + 1)) = (nI 10, nI (MM b sb ss si C 1 0)) := rfl
      rw [c2] at e
      rw [c1, if_pos rfl]
      exact e
    · obtain ⟨j, hj⟩ : ∃ j, 10 * Q + k = 11 + j := ⟨10 * Q + k - 11, by omega⟩
      have hj2 : 10 * Q + (k + 1) = 11 + (j + 1) := by omega
      have c1 : cS b sb ss si C (11 + j) = (nI (bst b sb ss si C j).1, nI (bst b sb ss si C j).2) := by
        unfold cS
        rw [if_neg (by omega), show 11 + j - 11 = j by omega]
      have c2 : cS b sb ss si C (11 + (j + 1)) = (nI (bst b sb ss si C (j + 1)).1, nI (bst b sb ss si C (j + 1)).2) := by
        unfold cS
        rw [if_neg (by omega), show 11 + (j + 1) - 11 = j + 1 by omega]
      have d1 : (11 + j) / 10 = Q := by omega
      have d2 : (11 + j) % 10 = k := by omega
      have hb := bst_le (b := b) (sb := sb) (ss := ss) (si := si) (C := C) j
      rw [hj2, c2, bst, if_neg (by omega), d1, d2] at e
      rw [hj, c1]
      dsimp only at e ⊢
      have hne : ¬ nI (bst b sb ss si C j).1 = -6 := by
        intro z
        have : (0 : Int32) ≤ -6 := by rw [← z]; exact nI_pos' (by omega)
        exact absurd this (by decide)
      rw [if_neg hne]
      by_cases hle : (bst b sb ss si C j).2 ≤ MM b sb ss si C (nI Q) (nI k)
      · rw [if_pos hle] at e
        rw [if_pos (nI_le hle (by omega))]
        exact e
      · rw [if_neg hle] at e
        rw [if_neg (fun z => hle ((nI_leI (by omega) (by omega)).1 z))]
        exact e
theorem c_findO (wb : ∀ i, i < 40 → bd (b i) 1 9) {f : Nat → Int32} (hf : ∀ x, x < 10 → f x = nI (fb_ct (fun j => FT b sb ss si C j && decide (colF b j = x)) 40)) : ∀ d Q nn, Q + d = 10 → 1 ≤ Q → d < nn → f_X6_findQuestion_L25 (nI (TT b sb ss si C)) f nn (nI Q) (cS b sb ss si C (10 * Q)).1 (cS b sb ss si C (10 * Q)).2 = some (nI 10, nI (bst b sb ss si C 88).1, nI (bst b sb ss si C 88).2) := by
  intro d
  induction d with
  | zero =>
    intro Q nn hk h1 hn
    obtain ⟨a, rfl⟩ : ∃ a, nn = a + 1 := ⟨nn - 1, by omega⟩
    obtain rfl : Q = 10 := by omega
    rw [f_X6_findQuestion_L25, if_pos (by decide)]
    have c2 : cS b sb ss si C (10 * 10) = (nI (bst b sb ss si C 89).1, nI (bst b sb ss si C 89).2) := rfl
    rw [c2, bst, if_pos (by decide)]
  | succ d ih =>
    intro Q nn hk h1 hn
    obtain ⟨a, rfl⟩ : ∃ a, nn = a + 1 := ⟨nn - 1, by omega⟩
    have e := c_findL wb hf h1 (by omega) 9 0 100 (by omega) (by omega)
    have e2 := ih (Q + 1) a (by omega) (by omega) (by omega)
    rw [Nat.add_zero, nI_0] at e
    have hs : cS b sb ss si C (10 * Q + 9) = cS b sb ss si C (10 * (Q + 1)) := by
      obtain ⟨j, hj⟩ : ∃ j, 10 * Q + 9 = 11 + j := ⟨10 * Q + 9 - 11, by omega⟩
      rw [show 10 * (Q + 1) = 11 + (j + 1) by omega, hj]
      unfold cS
      rw [if_neg (by omega), if_neg (by omega), show 11 + j - 11 = j by omega, show 11 + (j + 1) - 11 = j + 1 by omega, bst, if_pos (by omega)]
    rw [hs] at e
    rw [f_X6_findQuestion_L25, if_neg (nlt (n := 9) rfl (by omega)), e, jn_some, nI_1]
    exact e2
theorem s_ask {n o s k h c : Nat → Int32} {m : Int32} (wg : WG b n o s k h c m) {sc : Int32} (ws : WS sb ss si sc) (sf : Nat → Int32) (sq sl v : Int32) : ∃ r r', f_X8_ask b sb ss si sf sc sq sl v = some r ∧ f_X9_ask b sb ss si sc v = some r' ∧ r.1 = r' := by
  obtain ⟨w1, w2, w3, w4⟩ := ws
  obtain ⟨C, hC, rfl⟩ : ∃ q : Nat, q ≤ 8 ∧ sc = nI q := by
    unfold bd at w4
    exact ⟨sc.toInt.toNat, by omega, by rw [i_eq, nI_toInt (by omega)]; omega⟩
  have wb := wg.1
  unfold f_X8_ask f_X9_ask
  simp only [in_01, jW, i10, i00, if_true, if_false]
  by_cases hv : (0 : Int32) ≤ v ∧ v ≤ 1
  · simp only [if_pos hv]
    obtain ⟨f1, y, z1, z2⟩ := c_zero 10 0 100 sf (by omega) (by omega) (fun j hj => absurd hj (by omega))
    obtain ⟨f2, q1, q2⟩ := c_cntL (b := b) (sb := sb) (ss := ss) (si := si) hC wb w1 40 0 100 f1 (by omega) (by omega) (fun x hx => by rw [z2 x hx]; rfl)
    rw [show fb_ct (FT b sb ss si C) 0 = 0 from rfl, nI_0] at q1
    rw [nI_0] at z1
    have e := m_askL (C := C) hC wb w1 w2 w3 88 0 100 (by omega) (by omega)
    have b0 : bst b sb ss si C 0 = (10, MM b sb ss si C 1 0) := rfl
    rw [b0] at e
    have e10 : nI 10 = 10 := rfl
    have e11 : nI (11 + 0) = 11 := rfl
    dsimp only at e
    rw [e10, e11] at e
    have hT := TT_le (b := b) (sb := sb) (ss := ss) (si := si) (C := C)
    have hb := bst_le (b := b) (sb := sb) (ss := ss) (si := si) (C := C) 88
    have hz := bst_0 (b := b) (sb := sb) (ss := ss) (si := si) (C := C) 88
    unfold f_X6_findQuestion f_X6_countFitting
    simp only [z1, q1, jn_some, m_most hC wb w1 w2 w3 (by unfold bd; decide : bd 1 0 9) (by unfold bd; decide : bd 0 0 8), e]
    by_cases h0 : TT b sb ss si C = 0
    · have hz' := hz.2 h0
      rw [h0, hz', nI_0]
      simp only [if_true, jn_some]
      by_cases h1 : v = 0
      · simp only [if_pos h1]
        exact ⟨_, _, rfl, rfl, rfl⟩
      · simp only [if_neg h1]
        exact ⟨_, _, rfl, rfl, rfl⟩
    · have hz' : ¬ (bst b sb ss si C 88).2 = 0 := fun z => h0 (hz.1 z)
      have g1 := nI_ne0 (n := TT b sb ss si C) (by omega) (by omega)
      have g2 := nI_ne0 (n := (bst b sb ss si C 88).2) (by omega) (by omega)
      have e3 := c_findO wb q2 9 1 100 (by omega) (by omega) (by omega)
      have c1 : cS b sb ss si C (10 * 1) = (-6, -6) := rfl
      have n1 : nI 1 = 1 := rfl
      rw [c1, n1] at e3
      dsimp only at e3
      simp only [if_neg g1, if_neg g2, e3, jn_some]
      by_cases h1 : v = 0
      · simp only [if_pos h1]
        exact ⟨_, _, rfl, rfl, rfl⟩
      · simp only [if_neg h1]
        exact ⟨_, _, rfl, rfl, rfl⟩
  · simp only [if_neg hv]
    exact ⟨_, _, rfl, rfl, rfl⟩
end
