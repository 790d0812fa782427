/-- following the text, on both sides -/
theorem p_text {b n o s k h c : Nat → Int32} {m : Int32} (wg : WG b n o s k h c m) (p : Nat → Int32) {pn : Int32} (hpn : bd pn 0 60) (ac ba bw he wa wh : Int32) (gb gn go gs gk gh gc : Nat → Int32) (gm : Int32) (act who much : Nat → Int32) (hm wn : Int32) (d : Nat → Int32) (bA bW wA wH : Int32) : ∃ d' FA FW FM FE, HAD d' b n o s h c m ∧ ((f_X8_followText b n o s k h c m p pn ac ba bw he wa wh gb gn go gs gk gh gc gm = some (-5, ac, ba, bw, he, wa, wh, gb, gn, go, gs, gk, gh, gc, gm) ∧ f_X9_refusal b n o s k h c m p pn act who much hm wn d bA bW wA wH = some (-5, b, n, o, s, h, c, m, FA, FW, FM, nI FE, hm, wn, d', bA, bW, wA, wH)) ∨ (∃ ac2 ba2 bw2 hm2 wn2 wa2 wh2 b2 n2 o2 s2 k2 h2 c2 m2 b3 n3 o3 s3 h3 c3, GR b2 n2 o2 s2 k2 h2 c2 m2 b3 n3 o3 s3 k h3 c3 m2 ∧ WG b3 n3 o3 s3 k h3 c3 m2 ∧ ((0 ≤ ba2 ∧ f_X8_followText b n o s k h c m p pn ac ba bw he wa wh gb gn go gs gk gh gc gm = some (-3, ac2, ba2, bw2, hm2, wa2, wh2, b2, n2, o2, s2, k2, h2, c2, m2) ∧ f_X9_refusal b n o s k h c m p pn act who much hm wn d bA bW wA wH = some (-3, b3, n3, o3, s3, h3, c3, m2, FA, FW, FM, nI FE, hm2, wn2, d', ba2, bw2, wa2, wh2)) ∨ (ac2 = nI FE ∧ f_X8_followText b n o s k h c m p pn ac ba bw he wa wh gb gn go gs gk gh gc gm = some (0, ac2, ba2, bw2, hm2, wa2, wh2, b2, n2, o2, s2, k2, h2, c2, m2) ∧ f_X9_refusal b n o s k h c m p pn act who much hm wn d bA bW wA wH = some (-6, b3, n3, o3, s3, h3, c3, m2, FA, FW, FM, nI FE, hm2, wn2, d', ba2, bw2, wa2, wh2))))) := by
  obtain ⟨np, hnp, rfl⟩ : ∃ q : Nat, q ≤ 60 ∧ pn = nI q := by
    unfold bd at hpn
    exact ⟨pn.toInt.toNat, by omega, by rw [i_eq, nI_toInt (by omega)]; omega⟩
  obtain ⟨d', hd1, hd2⟩ := p_keep b n o s h c m d
  unfold f_X8_followText f_X9_refusal
  rw [hd1, jn_some]
  obtain ⟨FA, FW, FM, FE, ⟨j, hj, q1, q2⟩ | ⟨q1, q2, q3, q4⟩⟩ := p_fault p hnp act who much
  · refine ⟨d', FA, FW, FM, FE, hd2, Or.inl ⟨?_, ?_⟩⟩
    · rw [q1, jn_some, if_neg]
      intro z
      have : (0 : Int32) ≤ -6 := by rw [← z]; exact nI_pos' (by omega)
      exact absurd this (by decide)
    · rw [q2, jn_some]
      dsimp only
      rw [if_neg (nI_pos (by omega))]
  · have gr : GR (va_cpy b gb 0 0 40) (va_cpy n gn 0 0 40) (va_cpy o go 0 0 40) (va_cpy s gs 0 0 6) (va_cpy k gk 0 0 6) (va_cpy h gh 0 0 6) (va_cpy c gc 0 0 6) m b n o s k h c m := ⟨cpy_ag _ _ _, cpy_ag _ _ _, cpy_ag _ _ _, cpy_ag _ _ _, cpy_ag _ _ _, cpy_ag _ _ _, cpy_ag _ _ _, rfl⟩
    have hf := l_follow p hnp (k := va_cpy k gk 0 0 6) (k' := k) q3 np 0 100 100 0 act who much 0 0 0 _ _ _ _ _ _ b n o s h c m 0 wn (-6) (-6) (by omega) (by omega) (by omega) q4 ⟨by unfold inR; decide, Or.inl ⟨rfl, rfl⟩⟩ gr wg (Or.inl rfl)
    obtain ⟨y3, y4, y5, y1, ac2, ba2, bw2, hm2, wn2, wa2, wh2, b2, n2, o2, s2, h2, c2, m2, b3, n3, o3, s3, h3, c3, e1, e2, gr2, wg2, hb⟩ := hf
    rw [nI_0] at e1 e2
    refine ⟨d', FA, FW, FM, FE, hd2, Or.inr ⟨ac2, ba2, bw2, hm2, wn2, wa2, wh2, b2, n2, o2, s2, va_cpy k gk 0 0 6, h2, c2, m2, b3, n3, o3, s3, h3, c3, gr2, wg2, ?_⟩⟩
    rw [q1, q2, jn_some, jn_some, if_pos rfl]
    dsimp only
    rw [if_pos (by decide)]
    unfold f_X7_follow f_X7_begin f_X0_copyFrom f_X9_goHours
    simp only [jn_some, e1, e2]
    have n6 : ¬ (0 : Int32) ≤ -6 := by decide
    rcases hb with ⟨hb, hc⟩ | hb
    · refine Or.inr ⟨hc, ?_, ?_⟩
      · rw [if_pos hb]
      · rw [if_pos (by rw [hb]; decide)]
    · refine Or.inl ⟨hb, ?_, ?_⟩
      · rw [if_neg (fun z => by rw [z] at hb; exact n6 hb)]
      · rw [if_neg (by rw [i_lt]; rw [i_le] at hb; exact Int.not_lt.2 hb)]
def SAME (b n o s h c : Nat → Int32) (m : Int32) (b' n' o' s' h' c' : Nat → Int32) (m' : Int32) : Prop := ag 40 b' b ∧ ag 40 n' n ∧ ag 40 o' o ∧ ag 6 s' s ∧ ag 6 h' h ∧ ag 6 c' c ∧ m' = m
theorem SAME_rf {b n o s h c : Nat → Int32} {m : Int32} : SAME b n o s h c m b n o s h c m := ⟨ag_rf, ag_rf, ag_rf, ag_rf, ag_rf, ag_rf, rfl⟩
theorem q_back {d b n o s h c : Nat → Int32} {m : Int32} (hd : HAD d b n o s h c m) (b2 n2 o2 s2 h2 c2 : Nat → Int32) (v : Int32) : ∃ b3 n3 o3 s3 h3 c3, f_X9_back b2 n2 o2 s2 h2 c2 d v = some (v, b3, n3, o3, s3, h3, c3, m) ∧ SAME b n o s h c m b3 n3 o3 s3 h3 c3 m := by
  obtain ⟨b3, n3, o3, s3, h3, c3, e, a1, a2, a3, a4, a5, a6⟩ := p_back hd b2 n2 o2 s2 h2 c2 v
  exact ⟨b3, n3, o3, s3, h3, c3, e, a1, a2, a3, a4, a5, a6, rfl⟩
theorem s_fault (p : Nat → Int32) {pn : Int32} (hpn : bd pn 0 60) (act who much : Nat → Int32) : ∃ r FA FW FM FE, f_X8_fault p pn = some r ∧ f_X9_fault p pn act who much = some (r, FA, FW, FM, nI FE) := by
  obtain ⟨np, hnp, rfl⟩ : ∃ q : Nat, q ≤ 60 ∧ pn = nI q := by
    unfold bd at hpn
    exact ⟨pn.toInt.toNat, by omega, by rw [i_eq, nI_toInt (by omega)]; omega⟩
  unfold f_X8_fault
  obtain ⟨FA, FW, FM, FE, ⟨j, hj, q1, q2⟩ | ⟨q1, q2, q3, q4⟩⟩ := p_fault p hnp act who much
  · exact ⟨_, FA, FW, FM, FE, by rw [q1]; rfl, q2⟩
  · exact ⟨_, FA, FW, FM, FE, by rw [q1]; rfl, q2⟩
theorem s_judge {b n o s k h c : Nat → Int32} {m : Int32} (wg : WG b n o s k h c m) (p : Nat → Int32) {pn : Int32} (hpn : bd pn 0 60) (ac ba bw he wa wh : Int32) (gb gn go gs gk gh gc : Nat → Int32) (gm : Int32) (act who much : Nat → Int32) (acts hm wn : Int32) (d : Nat → Int32) (bA bW wA wH : Int32) (v1 : Int32) : ∃ r r', f_X8_judge b n o s k h c m p pn ac ba bw he wa wh gb gn go gs gk gh gc gm v1 = some r ∧ f_X9_judge b n o s k h c m p pn act who much acts hm wn d bA bW wA wH v1 = some r' ∧ r.1 = r'.1 ∧ SAME b n o s h c m r'.2.1 r'.2.2.1 r'.2.2.2.1 r'.2.2.2.2.1 r'.2.2.2.2.2.1 r'.2.2.2.2.2.2.1 r'.2.2.2.2.2.2.2.1 := by
  unfold f_X8_judge f_X9_judge
  simp only [in_02, jW, i10, i00, if_true, if_false]
  by_cases h3 : (0 : Int32) ≤ v1 ∧ v1 ≤ 2
  · simp only [if_pos h3]
    obtain ⟨d', FA, FW, FM, FE, hd, ⟨e1, e2⟩ | ⟨ac2, ba2, bw2, hm2, wn2, wa2, wh2, b2, n2, o2, s2, k2, h2, c2, m2, b3, n3, o3, s3, h3', c3, gr, wg2, ⟨hb, e1, e2⟩ | ⟨hb, e1, e2⟩⟩⟩ := p_text wg p hpn ac ba bw he wa wh gb gn go gs gk gh gc gm act who much hm wn d bA bW wA wH
    · obtain ⟨b4, n4, o4, s4, h4, c4, e3, sm⟩ := q_back hd b n o s h c (-5)
      simp only [e1, e2, e3, jn_some, if_true]
      exact ⟨_, _, rfl, rfl, rfl, sm⟩
    · obtain ⟨b4, n4, o4, s4, h4, c4, e3, sm⟩ := q_back hd b3 n3 o3 s3 h3' c3 (-3)
      have x1 : ((-3 : Int32) = -5) = False := by decide
      simp only [e1, e2, e3, jn_some, if_true, if_false, x1]
      by_cases w0 : v1 = 0
      · have x2 : v1 ≤ 1 := by rw [w0]; decide
        have x3 : ¬ v1 = 2 := by rw [w0]; decide
        simp only [if_pos w0, if_pos x2, if_neg x3]
        exact ⟨_, _, rfl, rfl, rfl, sm⟩
      · by_cases w1 : v1 = 1
        · have x2 : v1 ≤ 1 := by rw [w1]; decide
          have x3 : ¬ v1 = 2 := by rw [w1]; decide
          simp only [if_neg w0, if_pos w1, if_pos x2, if_neg x3]
          exact ⟨_, _, rfl, rfl, rfl, sm⟩
        · have e0 : (0 : Int32).toInt = 0 := rfl
          have e01 : (1 : Int32).toInt = 1 := rfl
          have e02 : (2 : Int32).toInt = 2 := rfl
          rw [i_eq] at w0 w1
          have h3' := h3
          rw [i_le, i_le] at h3'
          have x2 : ¬ v1 ≤ 1 := by rw [i_le]; omega
          have x3 : v1 = 2 := by rw [i_eq]; omega
          simp only [if_pos x3, if_neg x2]
          exact ⟨_, _, rfl, rfl, rfl, sm⟩
    · obtain ⟨b4, n4, o4, s4, h4, c4, e3, sm⟩ := q_back hd b3 n3 o3 s3 h3' c3 (-6)
      have x1 : ((0 : Int32) = -5) = False := by decide
      have x4 : ((0 : Int32) = -3) = False := by decide
      have x5 : ((-6 : Int32) = -5) = False := by decide
      have x6 : ((-6 : Int32) = -3) = False := by decide
      simp only [e1, e2, e3, jn_some, if_true, if_false, x1, x4, x5, x6]
      by_cases w0 : v1 = 0
      · have x2 : v1 ≤ 1 := by rw [w0]; decide
        simp only [if_pos w0, if_pos x2]
        exact ⟨_, _, rfl, rfl, rfl, sm⟩
      · by_cases w1 : v1 = 1
        · have x2 : v1 ≤ 1 := by rw [w1]; decide
          simp only [if_neg w0, if_pos w1, if_pos x2]
          exact ⟨_, _, rfl, rfl, rfl, sm⟩
        · have e0 : (0 : Int32).toInt = 0 := rfl
          have e01 : (1 : Int32).toInt = 1 := rfl
          simp only [if_neg w0, if_neg w1]
          rw [i_eq] at w0 w1
          have h3' := h3
          rw [i_le, i_le] at h3'
          have x2 : ¬ v1 ≤ 1 := by rw [i_le]; omega
          simp only [if_neg x2]
          exact ⟨_, _, rfl, rfl, rfl, sm⟩
  · simp only [if_neg h3]
    exact ⟨_, _, rfl, rfl, rfl, SAME_rf⟩
theorem s_behind {b n o s k h c : Nat → Int32} {m : Int32} (wg : WG b n o s k h c m) (p : Nat → Int32) {pn : Int32} (hpn : bd pn 0 60) (ac ba bw he wa wh : Int32) (gb gn go gs gk gh gc : Nat → Int32) (gm : Int32) (act who much : Nat → Int32) (acts hm wn : Int32) (d : Nat → Int32) (bA bW wA wH : Int32) (v1 v2 : Int32) : ∃ r r', f_X8_behind b n o s k h c m p pn ac ba bw he wa wh gb gn go gs gk gh gc gm v1 v2 = some r ∧ f_X9_behind b n o s k h c m p pn act who much acts hm wn d bA bW wA wH v1 v2 = some r' ∧ r.1 = r'.1 ∧ SAME b n o s h c m r'.2.1 r'.2.2.1 r'.2.2.2.1 r'.2.2.2.2.1 r'.2.2.2.2.2.1 r'.2.2.2.2.2.2.1 r'.2.2.2.2.2.2.2.1 := by
  unfold f_X8_behind f_X9_behind
  simp only [in_02, mHe, jH, jW, i10, i00, if_true, if_false]
  by_cases h1 : (0 : Int32) ≤ v1 ∧ v1 ≤ 5
  · simp only [if_pos h1]
    by_cases h3 : (0 : Int32) ≤ v2 ∧ v2 ≤ 2
    · simp only [if_pos h3]
      have hi := he_in h1
      obtain ⟨d', FA, FW, FM, FE, hd, ⟨e1, e2⟩ | ⟨ac2, ba2, bw2, hm2, wn2, wa2, wh2, b2, n2, o2, s2, k2, h2, c2, m2, b3, n3, o3, s3, h3', c3, gr, wg2, ⟨hb, e1, e2⟩ | ⟨hb, e1, e2⟩⟩⟩ := p_text wg p hpn ac ba bw he wa wh gb gn go gs gk gh gc gm act who much hm wn d bA bW wA wH
      · obtain ⟨b4, n4, o4, s4, h4, c4, e3, sm⟩ := q_back hd b n o s h c (-5)
        have x1 : ((-5 : Int32) = 0) = False := by decide
        have x2 : ((-5 : Int32) = -6) = False := by decide
        simp only [e1, e2, e3, jn_some, if_false, x1, x2]
        exact ⟨_, _, rfl, rfl, rfl, sm⟩
      · obtain ⟨b4, n4, o4, s4, h4, c4, e3, sm⟩ := q_back hd b3 n3 o3 s3 h3' c3 (-3)
        have x1 : ((-3 : Int32) = 0) = False := by decide
        have x2 : ((-3 : Int32) = -6) = False := by decide
        simp only [e1, e2, e3, jn_some, if_false, x1, x2]
        exact ⟨_, _, rfl, rfl, rfl, sm⟩
      · simp only [e1, e2, jn_some, if_true, gu_ok hi]
        obtain ⟨-, -, -, g4, -, g6, g7, -⟩ := gr
        by_cases w0 : v2 = 0
        · obtain ⟨b4, n4, o4, s4, h4, c4, e3, sm⟩ := q_back hd b3 n3 o3 s3 h3' c3 (s3 v1.toNatClampNeg)
          simp only [if_pos w0, e3, jn_some]
          exact ⟨_, _, rfl, rfl, ag_at g4 hi, sm⟩
        · by_cases w1 : v2 = 1
          · obtain ⟨b4, n4, o4, s4, h4, c4, e3, sm⟩ := q_back hd b3 n3 o3 s3 h3' c3 (h3' v1.toNatClampNeg)
            simp only [if_neg w0, if_pos w1, e3, jn_some]
            exact ⟨_, _, rfl, rfl, ag_at g6 hi, sm⟩
          · obtain ⟨b4, n4, o4, s4, h4, c4, e3, sm⟩ := q_back hd b3 n3 o3 s3 h3' c3 (c3 v1.toNatClampNeg)
            simp only [if_neg w0, if_neg w1, e3, jn_some]
            exact ⟨_, _, rfl, rfl, ag_at g7 hi, sm⟩
    · simp only [if_neg h3]
      exact ⟨_, _, rfl, rfl, rfl, SAME_rf⟩
  · simp only [if_neg h1]
    exact ⟨_, _, rfl, rfl, rfl, SAME_rf⟩
theorem s_stands {b n o s k h c : Nat → Int32} {m : Int32} (wg : WG b n o s k h c m) (p : Nat → Int32) {pn : Int32} (hpn : bd pn 0 60) (ac ba bw he wa wh : Int32) (gb gn go gs gk gh gc : Nat → Int32) (gm : Int32) (act who much : Nat → Int32) (acts hm wn : Int32) (d : Nat → Int32) (bA bW wA wH : Int32) (v1 v2 : Int32) : ∃ r r', f_X8_stands b n o s k h c m p pn ac ba bw he wa wh gb gn go gs gk gh gc gm v1 v2 = some r ∧ f_X9_stands b n o s k h c m p pn act who much acts hm wn d bA bW wA wH v1 v2 = some r' ∧ r.1 = r'.1 ∧ SAME b n o s h c m r'.2.1 r'.2.2.1 r'.2.2.2.1 r'.2.2.2.2.1 r'.2.2.2.2.2.1 r'.2.2.2.2.2.2.1 r'.2.2.2.2.2.2.2.1 := by
  unfold f_X8_stands f_X9_stands
  simp only [in_02, mPl, jP, jW, i10, i00, if_true, if_false]
  by_cases h1 : (0 : Int32) ≤ v1 ∧ v1 ≤ 39
  · simp only [if_pos h1]
    by_cases h3 : (0 : Int32) ≤ v2 ∧ v2 ≤ 2
    · simp only [if_pos h3]
      have hi := pl_in h1
      obtain ⟨d', FA, FW, FM, FE, hd, ⟨e1, e2⟩ | ⟨ac2, ba2, bw2, hm2, wn2, wa2, wh2, b2, n2, o2, s2, k2, h2, c2, m2, b3, n3, o3, s3, h3', c3, gr, wg2, ⟨hb, e1, e2⟩ | ⟨hb, e1, e2⟩⟩⟩ := p_text wg p hpn ac ba bw he wa wh gb gn go gs gk gh gc gm act who much hm wn d bA bW wA wH
      · obtain ⟨b4, n4, o4, s4, h4, c4, e3, sm⟩ := q_back hd b n o s h c (-5)
        have x1 : ((-5 : Int32) = 0) = False := by decide
        have x2 : ((-5 : Int32) = -6) = False := by decide
        simp only [e1, e2, e3, jn_some, if_false, x1, x2]
        exact ⟨_, _, rfl, rfl, rfl, sm⟩
      · obtain ⟨b4, n4, o4, s4, h4, c4, e3, sm⟩ := q_back hd b3 n3 o3 s3 h3' c3 (-3)
        have x1 : ((-3 : Int32) = 0) = False := by decide
        have x2 : ((-3 : Int32) = -6) = False := by decide
        simp only [e1, e2, e3, jn_some, if_false, x1, x2]
        exact ⟨_, _, rfl, rfl, rfl, sm⟩
      · simp only [e1, e2, jn_some, if_true, gu_ok hi]
        obtain ⟨g1, g2, g3, -⟩ := gr
        by_cases w0 : v2 = 0
        · obtain ⟨b4, n4, o4, s4, h4, c4, e3, sm⟩ := q_back hd b3 n3 o3 s3 h3' c3 (b3 v1.toNatClampNeg)
          simp only [if_pos w0, e3, jn_some]
          exact ⟨_, _, rfl, rfl, ag_at g1 hi, sm⟩
        · by_cases w1 : v2 = 1
          · obtain ⟨b4, n4, o4, s4, h4, c4, e3, sm⟩ := q_back hd b3 n3 o3 s3 h3' c3 (n3 v1.toNatClampNeg)
            simp only [if_neg w0, if_pos w1, e3, jn_some]
            exact ⟨_, _, rfl, rfl, ag_at g2 hi, sm⟩
          · obtain ⟨b4, n4, o4, s4, h4, c4, e3, sm⟩ := q_back hd b3 n3 o3 s3 h3' c3 (o3 v1.toNatClampNeg)
            simp only [if_neg w0, if_neg w1, e3, jn_some]
            exact ⟨_, _, rfl, rfl, ag_at g3 hi, sm⟩
    · simp only [if_neg h3]
      exact ⟨_, _, rfl, rfl, rfl, SAME_rf⟩
  · simp only [if_neg h1]
    exact ⟨_, _, rfl, rfl, rfl, SAME_rf⟩
theorem s_house {b n o s k h c : Nat → Int32} {m : Int32} (wg : WG b n o s k h c m) (p : Nat → Int32) {pn : Int32} (hpn : bd pn 0 60) (ac ba bw he wa wh : Int32) (gb gn go gs gk gh gc : Nat → Int32) (gm : Int32) (act who much : Nat → Int32) (acts hm wn : Int32) (d : Nat → Int32) (bA bW wA wH : Int32) (v1 : Int32) : ∃ r r', f_X8_house b n o s k h c m p pn ac ba bw he wa wh gb gn go gs gk gh gc gm v1 = some r ∧ f_X9_house b n o s k h c m p pn act who much acts hm wn d bA bW wA wH v1 = some r' ∧ r.1 = r'.1 ∧ SAME b n o s h c m r'.2.1 r'.2.2.1 r'.2.2.2.1 r'.2.2.2.2.1 r'.2.2.2.2.2.1 r'.2.2.2.2.2.2.1 r'.2.2.2.2.2.2.2.1 := by
  unfold f_X8_house f_X9_house
  simp only [in_03, jW, i10, i00, if_true, if_false]
  by_cases h1 : (0 : Int32) ≤ v1 ∧ v1 ≤ 3
  · simp only [if_pos h1]
    obtain ⟨d', FA, FW, FM, FE, hd, ⟨e1, e2⟩ | ⟨ac2, ba2, bw2, hm2, wn2, wa2, wh2, b2, n2, o2, s2, k2, h2, c2, m2, b3, n3, o3, s3, h3', c3, gr, wg2, ⟨hb, e1, e2⟩ | ⟨hb, e1, e2⟩⟩⟩ := p_text wg p hpn ac ba bw he wa wh gb gn go gs gk gh gc gm act who much hm wn d bA bW wA wH
    · obtain ⟨b4, n4, o4, s4, h4, c4, e3, sm⟩ := q_back hd b n o s h c (-5)
      have x1 : ((-5 : Int32) = 0) = False := by decide
      have x2 : ((-5 : Int32) = -6) = False := by decide
      simp only [e1, e2, e3, jn_some, if_false, x1, x2]
      exact ⟨_, _, rfl, rfl, rfl, sm⟩
    · obtain ⟨b4, n4, o4, s4, h4, c4, e3, sm⟩ := q_back hd b3 n3 o3 s3 h3' c3 (-3)
      have x1 : ((-3 : Int32) = 0) = False := by decide
      have x2 : ((-3 : Int32) = -6) = False := by decide
      simp only [e1, e2, e3, jn_some, if_false, x1, x2]
      exact ⟨_, _, rfl, rfl, rfl, sm⟩
    · simp only [e1, e2, jn_some, if_true]
      obtain ⟨g1, g2, g3, g4, -, g6, g7, -⟩ := gr
      have w7 := wg2.2.2.2.2.2.2.1
      unfold f_X9_ofHouse
      rw [s_chosenBits c3 w7, s_rightBits o3 c3 w7, s_nicks]
      by_cases w0 : v1 = 0
      · obtain ⟨z, hz⟩ := t_chosenBits c3
        obtain ⟨b4, n4, o4, s4, h4, c4, e3, sm⟩ := q_back hd b3 n3 o3 s3 h3' c3 z
        simp only [if_pos w0, ag_chosenBits g7, hz, e3, jn_some]
        exact ⟨_, _, rfl, rfl, rfl, sm⟩
      · by_cases w1 : v1 = 1
        · obtain ⟨z, hz⟩ := t_rightBits o3 c3
          obtain ⟨b4, n4, o4, s4, h4, c4, e3, sm⟩ := q_back hd b3 n3 o3 s3 h3' c3 z
          simp only [if_neg w0, if_pos w1, ag_rightBits g3 g7, hz, e3, jn_some]
          exact ⟨_, _, rfl, rfl, rfl, sm⟩
        · by_cases w2 : v1 = 2
          · obtain ⟨z, hz⟩ := t_nicks n3
            obtain ⟨b4, n4, o4, s4, h4, c4, e3, sm⟩ := q_back hd b3 n3 o3 s3 h3' c3 z
            simp only [if_neg w0, if_neg w1, if_pos w2, ag_nicks g2, hz, e3, jn_some]
            exact ⟨_, _, rfl, rfl, rfl, sm⟩
          · obtain ⟨b4, n4, o4, s4, h4, c4, e3, sm⟩ := q_back hd b3 n3 o3 s3 h3' c3 m2
            simp only [if_neg w0, if_neg w1, if_neg w2, e3, jn_some]
            exact ⟨_, _, rfl, rfl, rfl, sm⟩
  · simp only [if_neg h1]
    exact ⟨_, _, rfl, rfl, rfl, SAME_rf⟩
theorem s_wrong {b n o s k h c : Nat → Int32} {m : Int32} (wg : WG b n o s k h c m) (p : Nat → Int32) {pn : Int32} (hpn : bd pn 0 60) (ac ba bw he wa wh : Int32) (gb gn go gs gk gh gc : Nat → Int32) (gm : Int32) (act who much : Nat → Int32) (acts hm wn : Int32) (d : Nat → Int32) (bA bW wA wH : Int32) (v1 : Int32) : ∃ r r', f_X8_wrong b n o s k h c m p pn ac ba bw he wa wh gb gn go gs gk gh gc gm v1 = some r ∧ f_X9_wrong b n o s k h c m p pn act who much acts hm wn d bA bW wA wH v1 = some r' ∧ r.1 = r'.1 ∧ SAME b n o s h c m r'.2.1 r'.2.2.1 r'.2.2.2.1 r'.2.2.2.2.1 r'.2.2.2.2.2.1 r'.2.2.2.2.2.2.1 r'.2.2.2.2.2.2.2.1 := by
  unfold f_X8_wrong f_X9_wrong
  simp only [in_01, jW, i10, i00, if_true, if_false]
  by_cases h1 : (0 : Int32) ≤ v1 ∧ v1 ≤ 1
  · simp only [if_pos h1]
    obtain ⟨d', FA, FW, FM, FE, hd, ⟨e1, e2⟩ | ⟨ac2, ba2, bw2, hm2, wn2, wa2, wh2, b2, n2, o2, s2, k2, h2, c2, m2, b3, n3, o3, s3, h3', c3, gr, wg2, ⟨hb, e1, e2⟩ | ⟨hb, e1, e2⟩⟩⟩ := p_text wg p hpn ac ba bw he wa wh gb gn go gs gk gh gc gm act who much hm wn d bA bW wA wH
    · obtain ⟨b4, n4, o4, s4, h4, c4, e3, sm⟩ := q_back hd b n o s h c (-5)
      have x1 : ((-5 : Int32) = 0) = False := by decide
      have x2 : ((-5 : Int32) = -6) = False := by decide
      simp only [e1, e2, e3, jn_some, if_false, x1, x2]
      exact ⟨_, _, rfl, rfl, rfl, sm⟩
    · obtain ⟨b4, n4, o4, s4, h4, c4, e3, sm⟩ := q_back hd b3 n3 o3 s3 h3' c3 (-3)
      have x1 : ((-3 : Int32) = 0) = False := by decide
      have x2 : ((-3 : Int32) = -6) = False := by decide
      simp only [e1, e2, e3, jn_some, if_false, x1, x2]
      exact ⟨_, _, rfl, rfl, rfl, sm⟩
    · obtain ⟨b4, n4, o4, s4, h4, c4, e3, sm⟩ := q_back hd b3 n3 o3 s3 h3' c3 (-6)
      simp only [e1, e2, e3, jn_some, if_true]
      by_cases w0 : v1 = 0
      · simp only [if_pos w0]
        exact ⟨_, _, rfl, rfl, rfl, sm⟩
      · simp only [if_neg w0]
        exact ⟨_, _, rfl, rfl, rfl, sm⟩
  · simp only [if_neg h1]
    exact ⟨_, _, rfl, rfl, rfl, SAME_rf⟩
theorem s_done {b n o s k h c : Nat → Int32} {m : Int32} (wg : WG b n o s k h c m) (p : Nat → Int32) {pn : Int32} (hpn : bd pn 0 60) (ac ba bw he wa wh : Int32) (gb gn go gs gk gh gc : Nat → Int32) (gm : Int32) (act who much : Nat → Int32) (hm wn : Int32) (d : Nat → Int32) (bA bW wA wH : Int32) : ∃ r r', f_X8_done b n o s k h c m p pn ac ba bw he wa wh gb gn go gs gk gh gc gm = some r ∧ f_X9_done b n o s k h c m p pn act who much hm wn d bA bW wA wH = some r' ∧ r.1 = r'.1 ∧ SAME r.2.1 r.2.2.1 r.2.2.2.1 r.2.2.2.2.1 r.2.2.2.2.2.2.1 r.2.2.2.2.2.2.2.1 r.2.2.2.2.2.2.2.2.1 r'.2.1 r'.2.2.1 r'.2.2.2.1 r'.2.2.2.2.1 r'.2.2.2.2.2.1 r'.2.2.2.2.2.2.1 r'.2.2.2.2.2.2.2.1 ∧ ag 6 k r.2.2.2.2.2.1 ∧ r'.2.2.2.2.2.2.2.2.1 = r.2.2.2.2.2.2.2.2.2.1 ∧ WG r.2.1 r.2.2.1 r.2.2.2.1 r.2.2.2.2.1 r.2.2.2.2.2.1 r.2.2.2.2.2.2.1 r.2.2.2.2.2.2.2.1 r.2.2.2.2.2.2.2.2.1 ∧ bd r.2.2.2.2.2.2.2.2.2.1 0 60 := by
  unfold f_X8_done f_X9_done
  obtain ⟨d', FA, FW, FM, FE, hd, ⟨e1, e2⟩ | ⟨ac2, ba2, bw2, hm2, wn2, wa2, wh2, b2, n2, o2, s2, k2, h2, c2, m2, b3, n3, o3, s3, h3', c3, gr, wg2, ⟨hb, e1, e2⟩ | ⟨hb, e1, e2⟩⟩⟩ := p_text wg p hpn ac ba bw he wa wh gb gn go gs gk gh gc gm act who much hm wn d bA bW wA wH
  · obtain ⟨b4, n4, o4, s4, h4, c4, e3, sm⟩ := q_back hd b n o s h c (-5)
    have x1 : ((-5 : Int32) = 0) = False := by decide
    have x2 : ((-5 : Int32) = -6) = False := by decide
    simp only [e1, e2, e3, jn_some, if_false, x1, x2]
    exact ⟨_, _, rfl, rfl, rfl, sm, ag_rf, rfl, wg, hpn⟩
  · obtain ⟨b4, n4, o4, s4, h4, c4, e3, sm⟩ := q_back hd b3 n3 o3 s3 h3' c3 (-3)
    have x1 : ((-3 : Int32) = 0) = False := by decide
    have x2 : ((-3 : Int32) = -6) = False := by decide
    simp only [e1, e2, e3, jn_some, if_false, x1, x2]
    exact ⟨_, _, rfl, rfl, rfl, sm, ag_rf, rfl, wg, hpn⟩
  · unfold f_X0_copyFrom f_X2_clear
    simp only [e1, e2, jn_some, if_true]
    obtain ⟨g1, g2, g3, g4, g5, g6, g7, -⟩ := gr
    have a1 := ag_tr (cpy_ag b2 b 40) g1
    have a2 := ag_tr (cpy_ag n2 n 40) g2
    have a3 := ag_tr (cpy_ag o2 o 40) g3
    have a4 := ag_tr (cpy_ag s2 s 6) g4
    have a5 := ag_tr (cpy_ag k2 k 6) g5
    have a6 := ag_tr (cpy_ag h2 h 6) g6
    have a7 := ag_tr (cpy_ag c2 c 6) g7
    have z0 : bd 0 0 60 := by unfold bd; decide
    refine ⟨_, _, rfl, rfl, hb, ⟨ag_sy a1, ag_sy a2, ag_sy a3, ag_sy a4, ag_sy a6, ag_sy a7, rfl⟩, ag_sy a5, rfl, WG_ag wg2 a1 a2 a3 a4 a5 a6 a7, z0⟩
