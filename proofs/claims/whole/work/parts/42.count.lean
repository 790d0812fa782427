/-! loops with a counter -/
theorem gu_no {ρ : Type} {i : Int32} {N : Nat} (h : ¬ inR i N) (o : Option ρ) : gu i N o = none := by
  unfold gu
  rw [if_pos]
  unfold inR at h
  rw [i_lt]
  by_cases h1 : i.toInt < (0 : Int32).toInt
  · exact Or.inl h1
  · refine Or.inr ?_
    have e : (0 : Int32).toInt = 0 := rfl
    show N ≤ i.toInt.toNat
    omega
theorem nle {a : Int32} {n k : Nat} (ha : a.toInt = n) (h : k < n) : ¬ a ≤ nI k := by
  have hn : (n : Int) < 2147483648 := by rw [← ha]; exact (fb_rng a).2
  rw [i_le, nI_toInt (by omega)]
  omega
theorem yle {a : Int32} {n k : Nat} (ha : a.toInt = n) (h : n ≤ k) (hk : k < 2 ^ 31) : a ≤ nI k := by
  rw [i_le, nI_toInt hk]
  omega
theorem nlt {a : Int32} {n k : Nat} (ha : a.toInt = n) (h : k ≤ n) : ¬ a < nI k := by
  have hn : (n : Int) < 2147483648 := by rw [← ha]; exact (fb_rng a).2
  rw [i_lt, nI_toInt (by omega)]
  omega
theorem ylt {a : Int32} {n k : Nat} (ha : a.toInt = n) (h : n < k) (hk : k < 2 ^ 31) : a < nI k := by
  rw [i_lt, nI_toInt hk]
  omega
theorem cnt {σ ρ : Type} (L : Nat → σ → Int32 → Option ρ) (N : Nat) (out : σ → ρ) (I : Nat → σ → Prop) (hx : ∀ nn s, I N s → L (nn + 1) s (nI N) = some (out s)) (hs : ∀ nn s k, k < N → I k s → ∃ s', I (k + 1) s' ∧ L (nn + 1) s (nI k) = L nn s' (nI (k + 1))) : ∀ d k s nn, k + d = N → d < nn → I k s → ∃ s', I N s' ∧ L nn s (nI k) = some (out s') := by
  intro d
  induction d with
  | zero =>
    intro k s nn hk hn hI
    obtain ⟨m, rfl⟩ : ∃ m, nn = m + 1 := ⟨nn - 1, by omega⟩
    obtain rfl : k = N := by omega
    exact ⟨s, hI, hx m s hI⟩
  | succ d ih =>
    intro k s nn hk hn hI
    obtain ⟨m, rfl⟩ : ∃ m, nn = m + 1 := ⟨nn - 1, by omega⟩
    obtain ⟨s', h1, h2⟩ := hs m s k (by omega) hI
    obtain ⟨s2, h3, h4⟩ := ih (k + 1) s' m (by omega) (by omega) h1
    exact ⟨s2, h3, by rw [h2]; exact h4⟩
theorem cnt0 {σ ρ : Type} (L : Nat → σ → Int32 → Option ρ) (N nn : Nat) (out : σ → ρ) (I : Nat → σ → Prop) (hx : ∀ nn s, I N s → L (nn + 1) s (nI N) = some (out s)) (hs : ∀ nn s k, k < N → I k s → ∃ s', I (k + 1) s' ∧ L (nn + 1) s (nI k) = L nn s' (nI (k + 1))) (s : σ) (hn : N < nn) (hI : I 0 s) : ∃ s', I N s' ∧ L nn s 0 = some (out s') := by
  have := cnt L N out I hx hs N 0 s nn (by omega) hn hI
  rwa [nI_0] at this
/-- bits: who has chosen -/
theorem t_chosenBits (c : Nat → Int32) : ∃ r, f_X0_chosenBits c = some r := by
  obtain ⟨s', -, h⟩ := cnt0 (fun nn s y => f_X0_chosenBits_L4 c nn s y) 6 100 (fun s => (s, nI 6)) (fun _ _ => True) (fun nn s _ => by
      show f_X0_chosenBits_L4 c (nn + 1) s (nI 6) = _
      unfold f_X0_chosenBits_L4
      rw [if_pos (yle (n := 6) rfl (Nat.le_refl 6) (by decide))]) (fun nn s k hk _ => by
      show ∃ s', True ∧ f_X0_chosenBits_L4 c (nn + 1) s (nI k) = f_X0_chosenBits_L4 c nn s' (nI (k + 1))
      rw [f_X0_chosenBits_L4, if_neg (nle (n := 6) rfl hk), gu_nI hk (by decide), nI_1]
      split
      · exact ⟨_, trivial, rfl⟩
      · exact ⟨_, trivial, rfl⟩) 0 (by decide) trivial
  exact ⟨s', by unfold f_X0_chosenBits; rw [h]; rfl⟩
theorem e_chosenBits (c : Nat → Int32) (hc : ∀ i, i < 6 → c i = -6 ∨ bd (c i) 0 39) : ∀ nn y1 y2, f_X9_whoChose_L4 c nn y1 y2 = f_X0_chosenBits_L4 c nn y1 y2 := by
  intro nn
  induction nn with
  | zero => intro y1 y2; rfl
  | succ nn ih =>
    intro y1 y2
    rw [f_X9_whoChose_L4, f_X0_chosenBits_L4]
    by_cases h : (6 : Int32) ≤ y2
    · rw [if_pos h, if_pos h]
    · rw [if_neg h, if_neg h]
      by_cases hi : inR y2 6
      · rw [gu_ok hi, gu_ok hi]
        have hl := ix_lt hi
        rcases hc _ hl with e | e
        · rw [e, if_neg (by decide), if_pos rfl, bi_eq, ih, Int32.or_zero]
        · have h1 : (0 : Int32) ≤ c y2.toNatClampNeg := (bd_to (lo := 0) (hi := 39) e rfl rfl).1
          rw [if_pos h1, if_neg (fun q => by rw [q] at h1; exact absurd h1 (by decide)), bi_eq, bi_eq, ih]
      · rw [gu_no hi, gu_no hi]
theorem s_chosenBits (c : Nat → Int32) (hc : ∀ i, i < 6 → c i = -6 ∨ bd (c i) 0 39) : f_X9_whoChose c = f_X0_chosenBits c := by
  unfold f_X9_whoChose f_X0_chosenBits
  rw [e_chosenBits c hc]
/-- bits: who has chosen right -/
theorem e_rightBits (o c : Nat → Int32) (hc : ∀ i, i < 6 → c i = -6 ∨ bd (c i) 0 39) : ∀ nn y1 y2, f_X9_whoRight_L4 o c nn y1 y2 = f_X0_rightBits_L4 o c nn y1 y2 := by
  intro nn
  induction nn with
  | zero => intro y1 y2; rfl
  | succ nn ih =>
    intro y1 y2
    rw [f_X9_whoRight_L4, f_X0_rightBits_L4]
    by_cases h : (6 : Int32) ≤ y2
    · rw [if_pos h, if_pos h]
    · rw [if_neg h, if_neg h]
      by_cases hi : inR y2 6
      · simp only [gu_ok hi, jP]
        have hl := ix_lt hi
        rcases hc _ hl with e | e
        · have d1 : ((-6 : Int32) < 0) = True := by decide
          have d2 : ((0 : Int32) ≤ -6 ∧ (-6 : Int32) ≤ 39) = False := by decide
          simp only [e, d1, d2, if_true, if_false, jn_some, bi_eq, ih, Int32.or_zero]
        · have h1 := bd_to (lo := 0) (hi := 39) e rfl rfl
          have hin := pl_in h1
          have h3 : ¬ c y2.toNatClampNeg < 0 := by
            have := h1.1
            rw [i_le] at this
            rw [i_lt]
            omega
          simp only [if_neg h3, if_pos h1, gu_ok hin, i10, if_false]
          by_cases h2 : o (c y2.toNatClampNeg).toNatClampNeg = y2
          · simp only [if_pos h2, jn_some, i10, if_false, bi_eq, ih]
          · simp only [if_neg h2, jn_some, if_true, bi_eq, ih, Int32.or_zero]
      · rw [gu_no hi, gu_no hi]
theorem s_rightBits (o c : Nat → Int32) (hc : ∀ i, i < 6 → c i = -6 ∨ bd (c i) 0 39) : f_X9_whoRight o c = f_X0_rightBits o c := by
  unfold f_X9_whoRight f_X0_rightBits
  rw [e_rightBits o c hc]
theorem t_rightBits (o c : Nat → Int32) : ∃ r, f_X0_rightBits o c = some r := by
  obtain ⟨s', -, h⟩ := cnt0 (fun nn s y => f_X0_rightBits_L4 o c nn s y) 6 100 (fun s => (s, nI 6)) (fun _ _ => True) (fun nn s _ => by
      show f_X0_rightBits_L4 o c (nn + 1) s (nI 6) = _
      rw [f_X0_rightBits_L4, if_pos (yle (n := 6) rfl (Nat.le_refl 6) (by decide))]) (fun nn s k hk _ => by
      show ∃ s', True ∧ f_X0_rightBits_L4 o c (nn + 1) s (nI k) = f_X0_rightBits_L4 o c nn s' (nI (k + 1))
      rw [f_X0_rightBits_L4, if_neg (nle (n := 6) rfl hk)]
      simp only [gu_nI hk (by decide : (6 : Nat) < 2 ^ 31), jP, nI_1]
      by_cases h1 : (0 : Int32) ≤ c (nI k).toNatClampNeg ∧ c (nI k).toNatClampNeg ≤ 39
      · simp only [if_pos h1, i10, if_false, gu_ok (pl_in h1)]
        split
        · exact ⟨_, trivial, rfl⟩
        · exact ⟨_, trivial, rfl⟩
      · simp only [if_neg h1, if_true]
        exact ⟨_, trivial, rfl⟩) 0 (by decide) trivial
  exact ⟨s', by unfold f_X0_rightBits; rw [h]; rfl⟩
/-- nicks -/
theorem e_nicks (n : Nat → Int32) : ∀ nn y1 y2, f_X9_nickMany_L4 n nn y1 y2 = f_X0_nickCount_L4 n nn y1 y2 := by
  intro nn
  induction nn with
  | zero => intro y1 y2; rfl
  | succ nn ih =>
    intro y1 y2
    rw [f_X9_nickMany_L4, f_X0_nickCount_L4]
    simp only [bi_eq, ih]
theorem s_nicks (n : Nat → Int32) : f_X9_nickMany n = f_X0_nickCount n := by
  unfold f_X9_nickMany f_X0_nickCount
  rw [e_nicks]
theorem t_nicks (n : Nat → Int32) : ∃ r, f_X0_nickCount n = some r := by
  obtain ⟨s', -, h⟩ := cnt0 (fun nn s y => f_X0_nickCount_L4 n nn s y) 40 100 (fun s => (s, nI 40)) (fun _ _ => True) (fun nn s _ => by
      show f_X0_nickCount_L4 n (nn + 1) s (nI 40) = _
      rw [f_X0_nickCount_L4, if_pos (yle (n := 40) rfl (Nat.le_refl 40) (by decide))]) (fun nn s k hk _ => by
      show ∃ s', True ∧ f_X0_nickCount_L4 n (nn + 1) s (nI k) = f_X0_nickCount_L4 n nn s' (nI (k + 1))
      rw [f_X0_nickCount_L4, if_neg (nle (n := 40) rfl hk), gu_nI hk (by decide), nI_1]
      exact ⟨_, trivial, rfl⟩) 0 (by decide) trivial
  exact ⟨s', by unfold f_X0_nickCount; rw [h]; rfl⟩
theorem t_pl {b n o : Nat → Int32} {p : Int32} {x : Nat → Int32} (h : (0 : Int32) ≤ p ∧ p ≤ 39) : gu p 40 (some (x p.toNatClampNeg)) = some (x p.toNatClampNeg) := gu_ok (pl_in h) _
/-- told -/
theorem s_told {b n o s k h c : Nat → Int32} {m : Int32} (hg : WG b n o s k h c m) (sc pn v : Int32) : ∃ r, f_X8_told b n o s k h c m sc pn v = some r ∧ f_X9_told b n o s k h c m sc pn v = some r := by
  obtain ⟨g1, g2, g3, g4, g5, g6, g7, g8⟩ := hg
  unfold f_X8_told f_X9_told
  simp only [in_tp, in_th, jW, i10, i00, if_true, if_false, s_chosenBits c g7, s_nicks]
  have e10 : (10 : Int32).toInt = 10 := rfl
  have e49 : (49 : Int32).toInt = 49 := rfl
  have e100 : (100 : Int32).toInt = 100 := rfl
  have e399 : (399 : Int32).toInt = 399 := rfl
  by_cases h1 : (100 : Int32) ≤ v ∧ v ≤ 399
  · simp only [if_pos h1]
    obtain ⟨q, hq, rfl⟩ : ∃ q : Nat, (100 ≤ q ∧ q ≤ 399) ∧ v = nI q := by
      rw [i_le, i_le] at h1
      refine ⟨v.toInt.toNat, by omega, ?_⟩
      rw [i_eq, nI_toInt (by omega)]; omega
    have ed : nI q / 100 = nI (q / 100) := pk_div (d := 100) (by omega) (by decide) (by decide)
    have er : nI q - nI q / 100 * 100 = nI (q % 100) := pk_rem (d := 100) (by omega) (by decide) (by decide)
    unfold f_X8_toldOfPlace f_X9_toldOfPlace
    simp only [er]
    simp only [ed, mPl, jP, bi_eq, i10, i00, if_true, if_false]
    by_cases h2 : (0 : Int32) ≤ nI (q % 100) ∧ nI (q % 100) ≤ 39
    · simp only [if_pos h2, gu_ok (pl_in h2)]
      rcases (by omega : q / 100 = 1 ∨ q / 100 = 2 ∨ q / 100 = 3) with e | e | e
      · have d1 : ¬ (200 : Int32) ≤ nI q := nle (n := 200) rfl (by omega)
        rw [e]
        exact ⟨_, by rw [if_pos (by decide)]; rfl, by rw [if_neg d1]; rfl⟩
      · have d1 : (200 : Int32) ≤ nI q := yle (n := 200) rfl (by omega) (by omega)
        have d2 : ¬ (300 : Int32) ≤ nI q := nle (n := 300) rfl (by omega)
        rw [e]
        exact ⟨_, by rw [if_neg (by decide), if_pos (by decide)]; rfl, by rw [if_pos d1, if_neg d2]; rfl⟩
      · have d1 : (200 : Int32) ≤ nI q := yle (n := 200) rfl (by omega) (by omega)
        have d2 : (300 : Int32) ≤ nI q := yle (n := 300) rfl (by omega) (by omega)
        rw [e]
        exact ⟨_, by rw [if_neg (by decide), if_neg (by decide)]; rfl, by rw [if_pos d1, if_pos d2]; rfl⟩
    · simp only [if_neg h2]
      exact ⟨_, rfl, rfl⟩
  · simp only [if_neg h1]
    by_cases h1 : (10 : Int32) ≤ v ∧ v ≤ 49
    · simp only [if_pos h1]
      obtain ⟨q, hq, rfl⟩ : ∃ q : Nat, (10 ≤ q ∧ q ≤ 49) ∧ v = nI q := by
        rw [i_le, i_le] at h1
        refine ⟨v.toInt.toNat, by omega, ?_⟩
        rw [i_eq, nI_toInt (by omega)]; omega
      have ed : nI q / 10 = nI (q / 10) := pk_div (d := 10) (by omega) (by decide) (by decide)
      have er : nI q - nI q / 10 * 10 = nI (q % 10) := pk_rem (d := 10) (by omega) (by decide) (by decide)
      unfold f_X8_toldOfHeir f_X9_toldOfHeir
      simp only [er]
      simp only [ed, mHe, jH, bi_eq, i10, i00, if_true, if_false]
      by_cases h2 : (0 : Int32) ≤ nI (q % 10) ∧ nI (q % 10) ≤ 5
      · simp only [if_pos h2, gu_ok (he_in h2)]
        rcases (by omega : q / 10 = 1 ∨ q / 10 = 2 ∨ q / 10 = 3 ∨ q / 10 = 4) with e | e | e | e
        · have d1 : ¬ (20 : Int32) ≤ nI q := nle (n := 20) rfl (by omega)
          rw [e]
          exact ⟨_, by rw [if_pos (by decide)]; rfl, by rw [if_neg d1]; rfl⟩
        · have d1 : (20 : Int32) ≤ nI q := yle (n := 20) rfl (by omega) (by omega)
          have d2 : ¬ (30 : Int32) ≤ nI q := nle (n := 30) rfl (by omega)
          rw [e]
          exact ⟨_, by rw [if_neg (by decide), if_pos (by decide)]; rfl, by rw [if_pos d1, if_neg d2]; rfl⟩
        · have d1 : (20 : Int32) ≤ nI q := yle (n := 20) rfl (by omega) (by omega)
          have d2 : (30 : Int32) ≤ nI q := yle (n := 30) rfl (by omega) (by omega)
          have d3 : ¬ (40 : Int32) ≤ nI q := nle (n := 40) rfl (by omega)
          rw [e]
          exact ⟨_, by rw [if_neg (by decide), if_neg (by decide), if_pos (by decide)]; rfl, by rw [if_pos d1, if_pos d2, if_neg d3]; rfl⟩
        · have d1 : (20 : Int32) ≤ nI q := yle (n := 20) rfl (by omega) (by omega)
          have d2 : (30 : Int32) ≤ nI q := yle (n := 30) rfl (by omega) (by omega)
          have d3 : (40 : Int32) ≤ nI q := yle (n := 40) rfl (by omega) (by omega)
          rw [e]
          exact ⟨_, by rw [if_neg (by decide), if_neg (by decide), if_neg (by decide)]; rfl, by rw [if_pos d1, if_pos d2, if_pos d3]; rfl⟩
      · simp only [if_neg h2]
        exact ⟨_, rfl, rfl⟩
    · simp only [if_neg h1]
      by_cases d0 : v = 0
      · exact ⟨_, by rw [if_pos d0], by rw [if_pos d0]⟩
      by_cases d1 : v = 1
      · obtain ⟨r, hr⟩ := t_chosenBits c
        exact ⟨r, by rw [if_neg d0, if_pos d1, hr]; rfl, by rw [if_neg d0, if_pos d1, hr]; rfl⟩
      by_cases d2 : v = 2
      · obtain ⟨r, hr⟩ := t_nicks n
        exact ⟨r, by rw [if_neg d0, if_neg d1, if_pos d2, hr]; rfl, by rw [if_neg d0, if_neg d1, if_pos d2, hr]; rfl⟩
      by_cases d3 : v = 3
      · exact ⟨_, by rw [if_neg d0, if_neg d1, if_neg d2, if_pos d3], by rw [if_neg d0, if_neg d1, if_neg d2, if_pos d3]⟩
      by_cases d4 : v = 4
      · exact ⟨_, by rw [if_neg d0, if_neg d1, if_neg d2, if_neg d3, if_pos d4], by rw [if_neg d0, if_neg d1, if_neg d2, if_neg d3, if_pos d4]⟩
      · exact ⟨_, by rw [if_neg d0, if_neg d1, if_neg d2, if_neg d3, if_neg d4], by rw [if_neg d0, if_neg d1, if_neg d2, if_neg d3, if_neg d4]⟩
