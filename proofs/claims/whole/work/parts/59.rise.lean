/-! rises -/
theorem c_longL (l : Nat → Int32) : ∀ d x nn (y2 : Int32), x + d = 10 → d < nn → ∃ M, f_X4_longestFrom_L4 l nn y2 (nI x) = some (M, nI 10) ∧ y2.toInt ≤ M.toInt ∧ (∀ y, x ≤ y → y < 10 → (l y).toInt ≤ M.toInt) ∧ (M = y2 ∨ ∃ y, x ≤ y ∧ y < 10 ∧ l y = M) := by
  intro d
  induction d with
  | zero =>
    intro x nn y2 hx hn
    obtain ⟨a, rfl⟩ : ∃ a, nn = a + 1 := ⟨nn - 1, by omega⟩
    obtain rfl : x = 10 := by omega
    exact ⟨y2, by rw [f_X4_longestFrom_L4, if_pos (by decide)], Int.le_refl _, fun y h1 h2 => absurd h1 (by omega), Or.inl rfl⟩
  | succ d ih =>
    intro x nn y2 hx hn
    obtain ⟨a, rfl⟩ : ∃ a, nn = a + 1 := ⟨nn - 1, by omega⟩
    have hcl : (nI x).toNatClampNeg = x := nI_clamp (by omega)
    rw [f_X4_longestFrom_L4, if_neg (nlt (n := 9) rfl (by omega)), gu_nI (by omega) (by decide), bi_eq, hcl, nI_1]
    by_cases h : y2 < l x
    · rw [if_pos h]
      rw [i_lt] at h
      obtain ⟨M, e1, e2, e3, e4⟩ := ih (x + 1) a (l x) (by omega) (by omega)
      refine ⟨M, e1, by omega, fun y h1 h2 => ?_, Or.inr ?_⟩
      · by_cases hy : y = x
        · subst hy; exact e2
        · exact e3 y (by omega) h2
      · rcases e4 with e4 | ⟨y, q1, q2, q3⟩
        · exact ⟨x, Nat.le_refl _, by omega, e4.symm⟩
        · exact ⟨y, by omega, q2, q3⟩
    · rw [if_neg h]
      rw [i_lt] at h
      obtain ⟨M, e1, e2, e3, e4⟩ := ih (x + 1) a y2 (by omega) (by omega)
      refine ⟨M, e1, e2, fun y h1 h2 => ?_, ?_⟩
      · by_cases hy : y = x
        · subst hy; omega
        · exact e3 y (by omega) h2
      · rcases e4 with e4 | ⟨y, q1, q2, q3⟩
        · exact Or.inl e4
        · exact Or.inr ⟨y, by omega, q2, q3⟩
theorem m_riseL (b r : Nat → Int32) {k : Nat} (hk : k < 40) : ∀ d x nn (y2 : Int32), x + d = 40 → d < nn → ∃ M, f_X9_riseFrom_L6 (nI k) b r nn y2 (nI x) = some (M, nI 40) ∧ y2.toInt ≤ M.toInt ∧ (∀ y, x ≤ y → y < 40 → (b k).toInt ≤ (b y).toInt → (r y).toInt ≤ M.toInt) ∧ (M = y2 ∨ ∃ y, x ≤ y ∧ y < 40 ∧ (b k).toInt ≤ (b y).toInt ∧ r y = M) := by
  have hck : (nI k).toNatClampNeg = k := nI_clamp (by omega)
  have hgk : ∀ {ρ : Type} (z : Option ρ), gu (nI k) 40 z = z := fun z => gu_nI hk (by decide) z
  intro d
  induction d with
  | zero =>
    intro x nn y2 hx hn
    obtain ⟨a, rfl⟩ : ∃ a, nn = a + 1 := ⟨nn - 1, by omega⟩
    obtain rfl : x = 40 := by omega
    exact ⟨y2, by rw [f_X9_riseFrom_L6, if_pos (by decide)], Int.le_refl _, fun y h1 h2 => absurd h1 (by omega), Or.inl rfl⟩
  | succ d ih =>
    intro x nn y2 hx hn
    obtain ⟨a, rfl⟩ : ∃ a, nn = a + 1 := ⟨nn - 1, by omega⟩
    have hcl : (nI x).toNatClampNeg = x := nI_clamp (by omega)
    have hni : ¬ (40 : Int32) ≤ nI x := nI_ge (b := 40) (by omega) (by omega)
    have hg : ∀ {ρ : Type} (z : Option ρ), gu (nI x) 40 z = z := fun z => gu_nI (by omega) (by decide) z
    rw [f_X9_riseFrom_L6, if_neg hni, hg, hgk, hg, hg, bi_eq, hcl, hck, nI_1]
    by_cases h0 : b x < b k
    · rw [if_pos h0]
      rw [i_lt] at h0
      obtain ⟨M, e1, e2, e3, e4⟩ := ih (x + 1) a y2 (by omega) (by omega)
      refine ⟨M, e1, e2, fun y h1 h2 h3 => ?_, ?_⟩
      · by_cases hy : y = x
        · subst hy; omega
        · exact e3 y (by omega) h2 h3
      · rcases e4 with e4 | ⟨y, q1, q2, q3⟩
        · exact Or.inl e4
        · exact Or.inr ⟨y, by omega, q2, q3⟩
    · rw [if_neg h0]
      rw [i_lt] at h0
      by_cases h : r x ≤ y2
      · rw [if_pos h]
        rw [i_le] at h
        obtain ⟨M, e1, e2, e3, e4⟩ := ih (x + 1) a y2 (by omega) (by omega)
        refine ⟨M, e1, e2, fun y h1 h2 h3 => ?_, ?_⟩
        · by_cases hy : y = x
          · subst hy; omega
          · exact e3 y (by omega) h2 h3
        · rcases e4 with e4 | ⟨y, q1, q2, q3⟩
          · exact Or.inl e4
          · exact Or.inr ⟨y, by omega, q2, q3⟩
      · rw [if_neg h]
        rw [i_le] at h
        obtain ⟨M, e1, e2, e3, e4⟩ := ih (x + 1) a (r x) (by omega) (by omega)
        refine ⟨M, e1, by omega, fun y h1 h2 h3 => ?_, Or.inr ?_⟩
        · by_cases hy : y = x
          · subst hy; exact e2
          · exact e3 y (by omega) h2 h3
        · rcases e4 with e4 | ⟨y, q1, q2, q3⟩
          · exact ⟨x, Nat.le_refl _, by omega, by omega, e4.symm⟩
          · exact ⟨y, by omega, q2, q3⟩
def RI (b : Nat → Int32) (K : Nat) (l r : Nat → Int32) : Prop := (∀ i, K ≤ i → i < 40 → 1 ≤ (r i).toInt ∧ (r i).toInt ≤ 40 - i ∧ (r i).toInt ≤ (l (b i).toNatClampNeg).toInt) ∧ (∀ x, x < 10 → (l x).toInt = 0 ∨ ∃ i, K ≤ i ∧ i < 40 ∧ (b i).toNatClampNeg = x ∧ r i = l x)
theorem l_rise {b : Nat → Int32} (wb : ∀ i, i < 40 → bd (b i) 1 9) {V : Nat} (hV : V < 40) : ∀ d nn mm (l r : Nat → Int32) (gm gf y3 : Int32), V + d ≤ 40 → d < nn → d < mm → RI b (V + d) l r → ((V + d = 40 ∧ gm = 0 ∧ y3 = 39) ∨ (∃ j, V + d ≤ j ∧ j < 40 ∧ gf = nI j ∧ y3 = nI j ∧ gm = r j)) → ∃ l' r' j z z', j < 40 ∧ f_X4_measure_L36 (nI V) b nn (nI (V + d) + (-1)) l gm gf = some (z, l', r' j, nI j) ∧ f_X9_rises_L29 (nI V) b mm y3 (nI (V + d) + (-1)) r = some (nI j, z', r') := by
  intro d
  induction d with
  | zero =>
    intro nn mm l r gm gf y3 h1 h2 h3 hI hb
    obtain ⟨a, rfl⟩ : ∃ a, nn = a + 1 := ⟨nn - 1, by omega⟩
    obtain ⟨a', rfl⟩ : ∃ a, mm = a + 1 := ⟨mm - 1, by omega⟩
    have hlt : nI (V + 0) + (-1) < nI V := by
      show nI V + (-1) < nI V
      have em : (-1 : Int32).toInt = -1 := rfl
      have ev : (nI V).toInt = V := nI_toInt (by omega)
      rw [i_lt, fb_addI (by omega) (by omega), ev, em]; omega
    rw [f_X4_measure_L36, f_X9_rises_L29, if_pos hlt, if_pos hlt]
    rcases hb with ⟨q, -⟩ | ⟨j, q1, q2, rfl, rfl, rfl⟩
    · omega
    · exact ⟨l, r, j, _, _, q2, rfl, rfl⟩
  | succ d ih =>
    intro nn mm l r gm gf y3 h1 h2 h3 hI hb
    obtain ⟨a, rfl⟩ : ∃ a, nn = a + 1 := ⟨nn - 1, by omega⟩
    obtain ⟨a', rfl⟩ : ∃ a, mm = a + 1 := ⟨mm - 1, by omega⟩
    have hy : nI (V + (d + 1)) + (-1) = nI (V + d) := dn_1 (V + d)
    have hk : V + d < 40 := by omega
    have hcl : (nI (V + d)).toNatClampNeg = V + d := nI_clamp (by omega)
    have hbk := wb _ hk
    have hb1 : (1 : Int32) ≤ b (V + d) ∧ b (V + d) ≤ 9 := bd_to hbk rfl rfl
    have hbi : inR (b (V + d)) 10 := by unfold bd at hbk; unfold inR; omega
    obtain ⟨v, hv, ev, hcv⟩ := ix_of hbi (by decide)
    have hg : ∀ {ρ : Type} (z : Option ρ), gu (nI (V + d)) 40 z = z := fun z => gu_nI hk (by decide) z
    have ebv : (b (V + d)).toInt = v := by rw [ev, nI_toInt (by omega)]
    obtain ⟨I1, I2⟩ := hI
    obtain ⟨M, m1, m2, m3, m4⟩ := c_longL l (10 - v) v 100 0 (by omega) (by omega)
    obtain ⟨N, n1, n2, n3, n4⟩ := m_riseL b r hk (40 - (V + d + 1)) (V + d + 1) 100 0 (by omega) (by omega)
    have e0 : (0 : Int32).toInt = 0 := rfl
    have e1 : (1 : Int32).toInt = 1 := rfl
    have col : ∀ i, i < 40 → (b i).toInt = ((b i).toNatClampNeg : Int) ∧ (b i).toNatClampNeg < 10 := by
      intro i hi
      have := wb i hi
      unfold bd at this
      have : (b i).toNatClampNeg = (b i).toInt.toNat := rfl
      omega
    have hNM : N.toInt ≤ M.toInt := by
      rcases n4 with q | ⟨y, q1, q2, q3, q4⟩
      · rw [q]; omega
      · have c1 := col y q2
        have := m3 (b y).toNatClampNeg (by omega) c1.2
        have := (I1 y (by omega) q2).2.2
        rw [← q4]; omega
    have hMN : M.toInt ≤ N.toInt := by
      rcases m4 with q | ⟨y, q1, q2, q3⟩
      · rw [q]; omega
      · rcases I2 y q2 with q | ⟨i, p1, p2, p3, p4⟩
        · rw [← q3]; omega
        · have c1 := col i p2
          have := n3 i (by omega) p2 (by omega)
          rw [← q3, ← p4]; omega
    have hM39 : M.toInt ≤ 39 - (V + d : Nat) := by
      rcases m4 with q | ⟨y, q1, q2, q3⟩
      · rw [q]; omega
      · rcases I2 y q2 with q | ⟨i, p1, p2, p3, p4⟩
        · rw [← q3]; omega
        · have := (I1 i (by omega) p2).2.1
          rw [← q3, ← p4]; omega
    have eNM : N = M := by rw [i_eq]; omega
    have ex : 1 + M = M + 1 := Int32.add_comm _ _
    have eM : (M + 1).toInt = M.toInt + 1 := by rw [fb_addI (by omega) (by omega), e1]
    have hlong : f_X4_longestFrom l (b (V + d)) = some M := by unfold f_X4_longestFrom; rw [ev, m1, jn_some]
    have hrise : f_X9_riseFrom b r (nI (V + d)) = some (M + 1) := by unfold f_X9_riseFrom; rw [bi_eq, nI_1, n1, jn_some, eNM]
    rw [hy, f_X4_measure_L36, f_X9_rises_L29, if_neg (nI_nlt (by omega) (by omega)), if_neg (nI_pos (by omega)), if_neg (nI_nlt (by omega) (by omega)), hg, hcl, bi_eq, jB, if_pos hb1, if_neg (by decide), hlong, jn_some, bi_eq, gu_ok hbi, hrise, jn_some, hg, hg, hcv, ex, up_s]
    have hI' : RI b (V + d) (upd l v (M + 1)) (upd r (V + d) (M + 1)) := by
      refine ⟨fun i q1 q2 => ?_, fun x hx => ?_⟩
      · by_cases hi : i = V + d
        · subst hi
          rw [up_s, hcv, up_s]; omega
        · rw [up_n hi]
          obtain ⟨c1, c2, c3⟩ := I1 i (by omega) q2
          refine ⟨c1, c2, ?_⟩
          rw [up_if]
          by_cases hx : (b i).toNatClampNeg = v
          · rw [if_pos hx]
            rw [hx] at c3
            have := m3 v (Nat.le_refl _) hv
            omega
          · rw [if_neg hx]; exact c3
      · by_cases hx2 : x = v
        · subst hx2
          exact Or.inr ⟨V + d, Nat.le_refl _, hk, hcv, by rw [up_s, up_s]⟩
        · rw [up_n hx2]
          rcases I2 x hx with q | ⟨i, p1, p2, p3, p4⟩
          · exact Or.inl q
          · exact Or.inr ⟨i, by omega, p2, p3, by rw [up_n (by omega), p4]⟩
    rcases hb with ⟨q, rfl, rfl⟩ | ⟨j, q1, q2, rfl, rfl, rfl⟩
    · have h39 : V + d = 39 := by omega
      have hlt : ¬ M + 1 < 0 := by rw [i_lt, eM]; omega
      have h3 : (39 : Int32) = nI (V + d) := by rw [h39]; rfl
      have hlr : ¬ M + 1 < M + 1 := by rw [i_lt]; omega
      rw [h3, hg, hcl, up_s, if_neg hlt, if_neg hlr]
      exact ih a a' _ _ _ _ _ (by omega) (by omega) (by omega) hI' (Or.inr ⟨V + d, Nat.le_refl _, hk, rfl, rfl, by rw [up_s]⟩)
    · have hcj : (nI j).toNatClampNeg = j := nI_clamp (by omega)
      rw [gu_nI q2 (by decide), hcj, up_n (show j ≠ V + d by omega)]
      by_cases hlt : M + 1 < r j
      · rw [if_pos hlt, if_pos hlt]
        exact ih a a' _ _ _ _ _ (by omega) (by omega) (by omega) hI' (Or.inr ⟨j, by omega, q2, rfl, rfl, by rw [up_n (by omega)]⟩)
      · rw [if_neg hlt, if_neg hlt]
        exact ih a a' _ _ _ _ _ (by omega) (by omega) (by omega) hI' (Or.inr ⟨V + d, Nat.le_refl _, hk, rfl, rfl, by rw [up_s]⟩)
theorem c_zeroR : ∀ d k nn (f : Nat → Int32), k + d = 10 → d < nn → (∀ j, j < k → f j = 0) → ∃ f' y, f_X4_measure_L2 nn (nI k) f = some (y, f') ∧ ∀ j, j < 10 → f' j = 0 := by
  intro d
  induction d with
  | zero =>
    intro k nn f hk hn hf
    obtain ⟨a, rfl⟩ : ∃ a, nn = a + 1 := ⟨nn - 1, by omega⟩
    obtain rfl : k = 10 := by omega
    exact ⟨f, nI 10, by rw [f_X4_measure_L2, if_pos (by decide)], hf⟩
  | succ d ih =>
    intro k nn f hk hn hf
    obtain ⟨a, rfl⟩ : ∃ a, nn = a + 1 := ⟨nn - 1, by omega⟩
    have hcl : (nI k).toNatClampNeg = k := nI_clamp (by omega)
    rw [f_X4_measure_L2, if_neg (nlt (n := 9) rfl (by omega)), gu_nI (by omega) (by decide), hcl, nI_1]
    refine ih (k + 1) a _ (by omega) (by omega) (fun j hj => ?_)
    rw [up_if]
    by_cases h : j = k
    · rw [if_pos h]
    · rw [if_neg h]; exact hf j (by omega)
theorem s_rises {b n o s k h c : Nat → Int32} {m : Int32} (wg : WG b n o s k h c m) (l : Nat → Int32) (gm gf : Int32) (r : Nat → Int32) (v1 v2 : Int32) : ∃ x x', f_X8_rises b l gm gf v1 v2 = some x ∧ f_X9_rises b r v1 v2 = some x' ∧ x.1 = x'.1 := by
  unfold f_X8_rises f_X9_rises
  simp only [mPl, in_01, jP, jW, i10, i00, if_true, if_false]
  by_cases h1 : (0 : Int32) ≤ v1 ∧ v1 ≤ 39
  · simp only [if_pos h1]
    by_cases h2 : (0 : Int32) ≤ v2 ∧ v2 ≤ 1
    · simp only [if_pos h2]
      obtain ⟨V, hV, ev, -⟩ := ix_of (pl_in h1) (by decide)
      subst ev
      obtain ⟨f1, y, z1, z2⟩ := c_zeroR 10 0 100 l (by omega) (by omega) (fun j hj => absurd hj (by omega))
      rw [nI_0] at z1
      obtain ⟨l', r', j, z, z', hj, e1, e2⟩ := l_rise wg.1 hV (40 - V) 100 100 f1 r 0 (nI V) 39 (by omega) (by omega) (by omega) ⟨fun i q1 q2 => absurd q1 (by omega), fun x hx => Or.inl (by rw [z2 x hx]; rfl)⟩ (Or.inl ⟨by omega, rfl, rfl⟩)
      have e39 : nI (V + (40 - V)) + (-1) = 39 := by rw [show V + (40 - V) = 39 + 1 by omega, dn_1]; rfl
      have e40 : (40 : Int32) - 1 = 39 := rfl
      have hcj : (nI j).toNatClampNeg = j := nI_clamp (by omega)
      rw [e39] at e1 e2
      unfold f_X4_measure
      simp only [z1, jn_some, bi_eq, e40, e1, e2, gu_nI hj (by decide), hcj]
      by_cases w : v2 = 0
      · simp only [if_pos w]
        exact ⟨_, _, rfl, rfl, rfl⟩
      · simp only [if_neg w]
        exact ⟨_, _, rfl, rfl, rfl⟩
    · simp only [if_neg h2]
      exact ⟨_, _, rfl, rfl, rfl⟩
  · simp only [if_neg h1]
    exact ⟨_, _, rfl, rfl, rfl⟩
