/-! the easy pairs -/
theorem in_m15 (v : Int32) : f_X9_in v.toInt64 (-1) 5 = f_X8_isWithin v (-1) 5 := inI v _ _ _ _ (by decide) (by decide)
theorem in_19 (v : Int32) : f_X9_in v.toInt64 1 9 = f_X8_isWithin v 1 9 := inI v _ _ _ _ (by decide) (by decide)
theorem in_01 (v : Int32) : f_X9_in v.toInt64 0 1 = f_X8_isWithin v 0 1 := inI v _ _ _ _ (by decide) (by decide)
theorem in_02 (v : Int32) : f_X9_in v.toInt64 0 2 = f_X8_isWithin v 0 2 := inI v _ _ _ _ (by decide) (by decide)
theorem in_03 (v : Int32) : f_X9_in v.toInt64 0 3 = f_X8_isWithin v 0 3 := inI v _ _ _ _ (by decide) (by decide)
theorem in_08 (v : Int32) : f_X9_in v.toInt64 0 8 = f_X8_isWithin v 0 8 := inI v _ _ _ _ (by decide) (by decide)
theorem in_sg (v : Int32) : f_X9_in v.toInt64 33 126 = f_X8_isWithin v 33 126 := inI v _ _ _ _ (by decide) (by decide)
theorem in_lt (v : Int32) : f_X9_in v.toInt64 65 70 = f_X8_isWithin v 65 70 := inI v _ _ _ _ (by decide) (by decide)
theorem in_dg (v : Int32) : f_X9_in v.toInt64 49 57 = f_X8_isWithin v 49 57 := inI v _ _ _ _ (by decide) (by decide)
theorem in_tp (v : Int32) : f_X9_in v.toInt64 100 399 = f_X8_isWithin v 100 399 := inI v _ _ _ _ (by decide) (by decide)
theorem in_th (v : Int32) : f_X9_in v.toInt64 10 49 = f_X8_isWithin v 10 49 := inI v _ _ _ _ (by decide) (by decide)
theorem in_mx (v : Int32) : f_X9_in v.toInt64 2 998 = f_X8_isWithin v 2 998 := inI v _ _ _ _ (by decide) (by decide)
theorem in_mm (v : Int32) : f_X9_in v.toInt64 0 999999999 = f_X8_isWithin v 0 999999999 := inI v _ _ _ _ (by decide) (by decide)
theorem in_tk (v : Int32) : f_X9_in v.toInt64 1 999 = f_X8_isWithin v 1 999 := inI v _ _ _ _ (by decide) (by decide)
theorem in_ps (v : Int32) : f_X9_in v.toInt64 1 20 = f_X8_isWithin v 1 20 := inI v _ _ _ _ (by decide) (by decide)
theorem in_sd (v : Int32) : f_X9_in v.toInt64 0 9999 = f_X8_isWithin v 0 9999 := inI v _ _ _ _ (by decide) (by decide)
theorem in_99 (v : Int32) : f_X9_in v.toInt64 1 99 = f_X8_isWithin v 1 99 := inI v _ _ _ _ (by decide) (by decide)
theorem in_vr (v lo hi : Int32) : f_X9_in v.toInt64 lo.toInt64 hi.toInt64 = f_X8_isWithin v lo hi := inI v _ _ _ _ rfl rfl
theorem in_0v (v hi : Int32) : f_X9_in v.toInt64 0 hi.toInt64 = f_X8_isWithin v 0 hi := inI v _ _ _ _ (by decide) rfl
/-- cradle -/
theorem s_cradle {b n o s k h c : Nat → Int32} {m : Int32} (hg : WG b n o s k h c m) (v1 v2 v3 v4 : Int32) : ∃ r, f_X8_cradle b n o v1 v2 v3 v4 = some r ∧ f_X9_cradle b n o v1 v2 v3 v4 = some r ∧ WG r.2.1 r.2.2.1 r.2.2.2 s k h c m := by
  obtain ⟨g1, g2, g3, g4⟩ := hg
  unfold f_X8_cradle f_X9_cradle
  simp only [mPl, in_m15, in_19, in_01, jP, jH, jB, jW, bi_eq, i10, i00, if_true, if_false]
  by_cases h1 : (0 : Int32) ≤ v1 ∧ v1 ≤ 39
  · simp only [if_pos h1, gu_ok (pl_in h1)]
    by_cases h2 : (1 : Int32) ≤ v2 ∧ v2 ≤ 9
    · simp only [if_pos h2]
      by_cases h3 : (0 : Int32) ≤ v3 ∧ v3 ≤ 1
      · simp only [if_pos h3]
        have hb2 : bd v2 1 9 := bd_of h2 rfl rfl
        have hn3 : v3 = 0 ∨ v3 = 1 := by
          rw [i_le, i_le] at h3
          rw [i_eq, i_eq]
          have e0 : (0 : Int32).toInt = 0 := rfl
          have e1 : (1 : Int32).toInt = 1 := rfl
          omega
        by_cases h4 : v4 = -1
        · subst h4
          refine ⟨(b v1.toNatClampNeg, upd b v1.toNatClampNeg v2, upd n v1.toNatClampNeg v3, upd o v1.toNatClampNeg (-6)), ?_, ?_, all_up (P := fun x => bd x 1 9) g1 hb2, all_up (P := fun x => x = 0 ∨ x = 1) g2 hn3, all_up (P := fun x => x = -6 ∨ bd x 0 5) g3 (Or.inl rfl), g4⟩
          · rw [if_pos rfl, if_pos rfl]
          · rw [if_pos (by decide), if_neg (by decide)]
        · rw [if_neg h4]
          by_cases h5 : (0 : Int32) ≤ v4 ∧ v4 ≤ 5
          · refine ⟨(b v1.toNatClampNeg, upd b v1.toNatClampNeg v2, upd n v1.toNatClampNeg v3, upd o v1.toNatClampNeg v4), ?_, ?_, all_up (P := fun x => bd x 1 9) g1 hb2, all_up (P := fun x => x = 0 ∨ x = 1) g2 hn3, all_up (P := fun x => x = -6 ∨ bd x 0 5) g3 (Or.inr (bd_of h5 rfl rfl)), g4⟩
            · rw [if_pos h5, if_neg h4]
            · rw [if_pos ⟨by rw [i_le] at h5 ⊢; have e0 : (0 : Int32).toInt = 0 := rfl; have e1 : (-1 : Int32).toInt = -1 := rfl; omega, h5.2⟩, if_pos h5.1]
          · refine ⟨(-1, b, n, o), ?_, ?_, g1, g2, g3, g4⟩
            · rw [if_neg h5]
            · rw [if_neg]
              rintro ⟨q1, q2⟩
              apply h5
              refine ⟨?_, q2⟩
              rw [i_le] at q1 ⊢
              rw [i_eq] at h4
              have e0 : (0 : Int32).toInt = 0 := rfl
              have e1 : (-1 : Int32).toInt = -1 := rfl
              omega
      · simp only [if_neg h3]
        by_cases h4 : v4 = -1
        · subst h4
          exact ⟨(-2, b, n, o), by rw [if_pos rfl], by rw [if_pos (by decide)], g1, g2, g3, g4⟩
        · rw [if_neg h4]
          by_cases h5 : (0 : Int32) ≤ v4 ∧ v4 ≤ 5
          · refine ⟨(-2, b, n, o), by rw [if_pos h5], ?_, g1, g2, g3, g4⟩
            rw [if_pos ⟨by rw [i_le] at h5 ⊢; have e0 : (0 : Int32).toInt = 0 := rfl; have e1 : (-1 : Int32).toInt = -1 := rfl; omega, h5.2⟩]
          · refine ⟨(-1, b, n, o), by rw [if_neg h5], ?_, g1, g2, g3, g4⟩
            rw [if_neg]
            rintro ⟨q1, q2⟩
            apply h5
            refine ⟨?_, q2⟩
            rw [i_le] at q1 ⊢
            rw [i_eq] at h4
            have e0 : (0 : Int32).toInt = 0 := rfl
            have e1 : (-1 : Int32).toInt = -1 := rfl
            omega
    · simp only [if_neg h2]
      by_cases h4 : v4 = -1
      · subst h4
        exact ⟨(-2, b, n, o), by rw [if_pos rfl], by rw [if_pos (by decide)], g1, g2, g3, g4⟩
      · rw [if_neg h4]
        by_cases h5 : (0 : Int32) ≤ v4 ∧ v4 ≤ 5
        · refine ⟨(-2, b, n, o), by rw [if_pos h5], ?_, g1, g2, g3, g4⟩
          rw [if_pos ⟨by rw [i_le] at h5 ⊢; have e0 : (0 : Int32).toInt = 0 := rfl; have e1 : (-1 : Int32).toInt = -1 := rfl; omega, h5.2⟩]
        · refine ⟨(-1, b, n, o), by rw [if_neg h5], ?_, g1, g2, g3, g4⟩
          rw [if_neg]
          rintro ⟨q1, q2⟩
          apply h5
          refine ⟨?_, q2⟩
          rw [i_le] at q1 ⊢
          rw [i_eq] at h4
          have e0 : (0 : Int32).toInt = 0 := rfl
          have e1 : (-1 : Int32).toInt = -1 := rfl
          omega
  · simp only [if_neg h1]
    exact ⟨(-1, b, n, o), rfl, rfl, g1, g2, g3, g4⟩
/-- heir -/
theorem s_heir {b n o s k h c : Nat → Int32} {m : Int32} (hg : WG b n o s k h c m) (v1 v2 v3 : Int32) : ∃ r, f_X8_heir s k h c v1 v2 v3 = some r ∧ f_X9_heir s k h c v1 v2 v3 = some r ∧ WG b n o r.2.1 r.2.2.1 r.2.2.2.1 r.2.2.2.2 m := by
  obtain ⟨g1, g2, g3, g4, g5, g6, g7, g8⟩ := hg
  unfold f_X8_heir f_X9_heir
  simp only [mPl, mHe, in_19, jP, jH, jB, jW, bi_eq, i10, i00, if_true, if_false]
  by_cases h1 : (0 : Int32) ≤ v1 ∧ v1 ≤ 5
  · simp only [if_pos h1, gu_ok (he_in h1)]
    by_cases h2 : (0 : Int32) ≤ v2 ∧ v2 ≤ 39
    · simp only [if_pos h2]
      by_cases h3 : (1 : Int32) ≤ v3 ∧ v3 ≤ 9
      · simp only [if_pos h3]
        exact ⟨_, rfl, rfl, g1, g2, g3, all_up (P := fun x => bd x 0 39) g4 (bd_of h2 rfl rfl), all_up (P := fun x => bd x 1 9) g5 (bd_of h3 rfl rfl), all_up (P := fun x => bd x 0 99) g6 (by unfold bd; decide), all_up (P := fun x => x = -6 ∨ bd x 0 39) g7 (Or.inl rfl), g8⟩
      · simp only [if_neg h3]
        exact ⟨(-2, s, k, h, c), rfl, rfl, g1, g2, g3, g4, g5, g6, g7, g8⟩
    · simp only [if_neg h2]
      exact ⟨(-1, s, k, h, c), rfl, rfl, g1, g2, g3, g4, g5, g6, g7, g8⟩
  · simp only [if_neg h1]
    exact ⟨(-1, s, k, h, c), rfl, rfl, g1, g2, g3, g4, g5, g6, g7, g8⟩
/-- say -/
theorem s_say {ps : Nat → Int32} {pn : Int32} (hp : bd pn 0 60) (v : Int32) : ∃ r, f_X8_say ps pn v = some r ∧ f_X9_say ps pn v = some r ∧ bd r.2.2 0 60 := by
  unfold f_X8_say f_X9_say f_X2_add
  simp only [in_sg, jW, i10, i00, if_true, if_false]
  by_cases h1 : (33 : Int32) ≤ v ∧ v ≤ 126
  · simp only [if_pos h1]
    have e60 : (60 : Int32).toInt = 60 := rfl
    by_cases h2 : pn = 60
    · refine ⟨(-4, ps, pn), ?_, ?_, hp⟩
      · rw [if_neg (by rw [h2]; decide)]; rfl
      · rw [if_pos h2]
    · have h3 : pn < 60 := by
        rw [i_lt]; rw [i_eq] at h2; unfold bd at hp; omega
      have h4 : inR pn 60 := by
        rw [i_lt] at h3; unfold inR; unfold bd at hp; omega
      refine ⟨(pn + 1, upd ps pn.toNatClampNeg v, pn + 1), ?_, ?_, ?_⟩
      · rw [if_pos h3, gu_ok h4]; rfl
      · rw [if_neg h2, gu_ok h4]
      · unfold bd
        rw [i_lt] at h3
        unfold bd at hp
        have e1 : (1 : Int32).toInt = 1 := rfl
        rw [fb_addI (by omega) (by omega)]
        omega
  · simp only [if_neg h1]
    exact ⟨(-2, ps, pn), rfl, rfl, hp⟩
/-- wipe, forget -/
theorem s_wipe (pn : Int32) : f_X8_wipe pn = some (pn, 0) ∧ f_X9_wipe pn = some (pn, 0) := ⟨rfl, rfl⟩
theorem s_forget (sc : Int32) : f_X8_forget sc = some (sc, 0) ∧ f_X9_forget sc = some (sc, 0) := ⟨rfl, rfl⟩
/-- like -/
theorem s_like {sb ss si : Nat → Int32} {sc : Int32} (hs : WS sb ss si sc) (v1 v2 v3 : Int32) (hv : v3 = 0 ∨ v3 = 1) : ∃ r, f_X8_like sb ss si sc v1 v2 v3 = some r ∧ f_X9_like sb ss si sc v1 v2 v3 = some r ∧ WS r.2.1 r.2.2.1 r.2.2.2.1 r.2.2.2.2 := by
  obtain ⟨g1, g2, g3, g4⟩ := hs
  unfold f_X8_like f_X9_like f_X6_add
  simp only [in_19, in_08, jB, jW, i10, i00, if_true, if_false]
  by_cases h1 : (1 : Int32) ≤ v1 ∧ v1 ≤ 9
  · simp only [if_pos h1]
    by_cases h2 : (0 : Int32) ≤ v2 ∧ v2 ≤ 8
    · simp only [if_pos h2]
      have e8 : (8 : Int32).toInt = 8 := rfl
      by_cases h3 : sc = 8
      · refine ⟨(-4, sb, ss, si, sc), ?_, ?_, g1, g2, g3, g4⟩
        · rw [if_neg (by rw [h3]; decide)]; rfl
        · rw [if_pos h3]
      · have h4 : sc < 8 := by
          rw [i_lt]; rw [i_eq] at h3; unfold bd at g4; omega
        have h5 : inR sc 8 := by
          rw [i_lt] at h4; unfold inR; unfold bd at g4; omega
        have hz : vp_nar .boolean v3 = v3 := by rcases hv with rfl | rfl <;> rfl
        have hz2 : (if v3 = 0 then some (0 : Int32) else some 1) = some v3 := by rcases hv with rfl | rfl <;> rfl
        refine ⟨(sc + 1, upd sb sc.toNatClampNeg v1, upd ss sc.toNatClampNeg v2, upd si sc.toNatClampNeg v3, sc + 1), ?_, ?_, ?_⟩
        · rw [if_pos h4, gu_ok h5, gu_ok h5, gu_ok h5, hz]; rfl
        · rw [if_neg h3, gu_ok h5, gu_ok h5, hz2, jn_some, gu_ok h5]
        · have hb1 := bd_of (a := 1) (b := 9) h1 rfl rfl
          refine ⟨all_up (P := fun x => bd x 0 9) g1 (by unfold bd at hb1 ⊢; omega), all_up (P := fun x => bd x 0 8) g2 (bd_of h2 rfl rfl), all_up (P := fun x => x = 0 ∨ x = 1) g3 hv, ?_⟩
          unfold bd
          rw [i_lt] at h4
          unfold bd at g4
          have e1 : (1 : Int32).toInt = 1 := rfl
          rw [fb_addI (by omega) (by omega)]
          omega
    · simp only [if_neg h2]
      exact ⟨(-2, sb, ss, si, sc), rfl, rfl, g1, g2, g3, g4⟩
  · simp only [if_neg h1]
    exact ⟨(-2, sb, ss, si, sc), rfl, rfl, g1, g2, g3, g4⟩
