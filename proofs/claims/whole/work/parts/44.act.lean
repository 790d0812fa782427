/-- the class's kinds of acts, and the reference's -/
def KK (kc km : Int32) : Prop := (kc = 62 ∧ km = 0) ∨ (kc = 60 ∧ km = 1) ∨ (kc = 63 ∧ km = 2) ∨ (kc = 42 ∧ km = 3) ∨ (kc = 48 ∧ km = 4) ∨ (kc = 126 ∧ km = 5) ∨ (kc = 33 ∧ km = 6) ∨ (kc = 46 ∧ km = 7)
theorem r_bar {b n o s k h c b' n' o' s' k' h' c' : Nat → Int32} {m m' : Int32} (gr : GR b n o s k h c m b' n' o' s' k' h' c' m') (wg : WG b' n' o' s' k' h' c' m') {v kc km : Int32} (hv : inR v 6) (hk : KK kc km) (a : Int32) : ∃ w, f_X0_bar b s c m v kc a = some w ∧ f_X9_whyNot b' s' c' m' km v a = some w ∧ bd w 0 5 := by
  obtain ⟨hb, hn, ho, hs, hkk, hh, hc, rfl⟩ := gr
  obtain ⟨g1, g2, g3, g4, g5, g6, g7, g8⟩ := wg
  have hvl := ix_lt hv
  have es := ag_at hs hv
  have ec := ag_at hc hv
  have hin : inR (s' v.toNatClampNeg) 40 := by have := g4 _ hvl; unfold bd at this; unfold inR; omega
  have eb := ag_at hb hin
  have b0 : bd 0 0 5 := by unfold bd; decide
  have b1 : bd 1 0 5 := by unfold bd; decide
  have b2 : bd 2 0 5 := by unfold bd; decide
  have b3 : bd 3 0 5 := by unfold bd; decide
  have b4 : bd 4 0 5 := by unfold bd; decide
  have b5 : bd 5 0 5 := by unfold bd; decide
  have d6 : ((-6 : Int32) < 0) = True := by decide
  have hst : f_X0_isStanding s v = some 1 := st_1 hv (by rw [es]; exact hin)
  unfold f_X0_bar f_X9_whyNot
  rw [hst, jn_some, n10]
  have two : ∀ (x : Int32), ∃ w, (if (0 : Int32) ≤ x ∧ x ≤ 39 then (if (1 : Int32) = 0 then some (2 : Int32) else some 0) else (if (0 : Int32) = 0 then some 2 else some 0)) = some w ∧ bd w 0 5 := by
    intro x
    by_cases hx : (0 : Int32) ≤ x ∧ x ≤ 39
    · exact ⟨0, by rw [if_pos hx, if_neg (by decide)], b0⟩
    · exact ⟨2, by rw [if_neg hx, if_pos rfl], b2⟩
  by_cases hm7 : kc = 46
  · have hkm : km = 7 := by
      rcases hk with ⟨e, -⟩ | ⟨e, -⟩ | ⟨e, -⟩ | ⟨e, -⟩ | ⟨e, -⟩ | ⟨e, -⟩ | ⟨e, -⟩ | ⟨-, e⟩ <;> first | exact e | (rw [e] at hm7; exact absurd hm7 (by decide))
    rw [if_pos hm7, if_pos hkm]
    have e60 : (60 : Int32).toInt = 60 := rfl
    by_cases h60 : m = 60
    · exact ⟨5, by rw [if_neg (by rw [h60]; decide)], by rw [if_pos h60], b5⟩
    · refine ⟨0, ?_, by rw [if_neg h60], b0⟩
      rw [if_pos]
      rw [i_lt]; rw [i_eq] at h60; unfold bd at g8; omega
  · have hkm : ¬ km = 7 := by
      rcases hk with ⟨-, e⟩ | ⟨-, e⟩ | ⟨-, e⟩ | ⟨-, e⟩ | ⟨-, e⟩ | ⟨-, e⟩ | ⟨-, e⟩ | ⟨e, -⟩
      all_goals first | (rw [e]; decide) | exact absurd e hm7
    rw [if_neg hm7, if_neg hkm]
    simp only [gu_ok hv, bi_eq, es, ec, mPl, jP, gu_ok hin, eb, c_isChosen, m_isChosen, chB_ag hc, jn_some]
    rcases g7 _ hvl with e | e
    · simp only [e, if_true, d6]
      rcases hk with ⟨rfl, rfl⟩ | ⟨rfl, rfl⟩ | ⟨rfl, rfl⟩ | ⟨rfl, rfl⟩ | ⟨rfl, rfl⟩ | ⟨rfl, rfl⟩ | ⟨rfl, rfl⟩ | ⟨rfl, rfl⟩
      · obtain ⟨w, h1, h2⟩ := two (s' v.toNatClampNeg + a)
        exact ⟨w, by rw [if_neg (by decide), if_neg (by decide), if_neg (by decide), if_pos rfl]; exact h1, by rw [if_pos rfl]; exact h1, h2⟩
      · obtain ⟨w, h1, h2⟩ := two (s' v.toNatClampNeg - a)
        exact ⟨w, by rw [if_neg (by decide), if_neg (by decide), if_pos rfl]; exact h1, by rw [if_neg (by decide), if_pos rfl]; exact h1, h2⟩
      · exact ⟨0, by rw [if_neg (by decide), if_neg (by decide), if_neg (by decide), if_neg (by decide), if_neg (by decide)], by rw [if_neg (by decide), if_neg (by decide), if_pos rfl], b0⟩
      · exact ⟨0, by rw [if_neg (by decide), if_neg (by decide), if_neg (by decide), if_neg (by decide), if_neg (by decide)], by rw [if_neg (by decide), if_neg (by decide), if_neg (by decide), if_pos rfl], b0⟩
      · by_cases hx : b' (s' v.toNatClampNeg).toNatClampNeg = a
        · exact ⟨3, by rw [if_neg (by decide), if_pos rfl, if_pos hx], by rw [if_neg (by decide), if_neg (by decide), if_neg (by decide), if_neg (by decide), if_pos rfl, if_pos hx], b3⟩
        · exact ⟨0, by rw [if_neg (by decide), if_pos rfl, if_neg hx], by rw [if_neg (by decide), if_neg (by decide), if_neg (by decide), if_neg (by decide), if_pos rfl, if_neg hx], b0⟩
      · obtain ⟨w, h1, h2⟩ := two (s' v.toNatClampNeg + 1)
        exact ⟨w, by rw [if_neg (by decide), if_neg (by decide), if_neg (by decide), if_neg (by decide), if_pos rfl]; exact h1, by rw [if_neg (by decide), if_neg (by decide), if_neg (by decide), if_neg (by decide), if_neg (by decide), if_pos rfl]; exact h1, h2⟩
      · by_cases hx : chB c' (s' v.toNatClampNeg) = 0
        · exact ⟨0, by rw [if_pos rfl, if_pos hx], by rw [if_neg (by decide), if_neg (by decide), if_neg (by decide), if_neg (by decide), if_neg (by decide), if_neg (by decide), if_pos rfl, if_pos hx], b0⟩
        · exact ⟨4, by rw [if_pos rfl, if_neg hx], by rw [if_neg (by decide), if_neg (by decide), if_neg (by decide), if_neg (by decide), if_neg (by decide), if_neg (by decide), if_pos rfl, if_neg hx], b4⟩
      · exact absurd rfl hm7
    · have h1 : (0 : Int32) ≤ c' v.toNatClampNeg := (bd_to (lo := 0) (hi := 39) e rfl rfl).1
      have h2 : ¬ c' v.toNatClampNeg = -6 := fun q => by rw [q] at h1; exact absurd h1 (by decide)
      have h3 : ¬ c' v.toNatClampNeg < 0 := by rw [i_lt]; rw [i_le] at h1; omega
      exact ⟨1, by rw [if_neg h2], by rw [if_neg h3], b1⟩
def hmN (b s k : Nat → Int32) (km v hm : Int32) : Int32 := if km = 2 ∧ b (s v.toNatClampNeg).toNatClampNeg = k v.toNatClampNeg then hm + 1 else hm
def wnN (o s : Nat → Int32) (km v : Int32) : Int32 := if km = 6 ∧ ¬ o (s v.toNatClampNeg).toNatClampNeg = v then v else -6
theorem r_act {b n o s k h c b' n' o' s' k' h' c' : Nat → Int32} {m m' : Int32} (gr : GR b n o s k h c m b' n' o' s' k' h' c' m') (wg : WG b' n' o' s' k' h' c' m') {v kc km : Int32} (hv : inR v 6) (hk : KK kc km) (a hm : Int32) (ha : km = 4 → bd a 1 9) (hbar : f_X9_whyNot b' s' c' m' km v a = some 0) : ∃ b2 n2 o2 s2 h2 c2 m2 b3 n3 o3 s3 h3 c3, f_X0_act b n o s k h c m v kc a = some (b2, n2, o2, s2, h2, c2, m2) ∧ f_X9_happen b' n' o' s' k' h' c' m' hm km v a = some (b3, n3, o3, s3, h3, c3, m2, hmN b' s' k' km v hm, wnN o' s' km v) ∧ GR b2 n2 o2 s2 k h2 c2 m2 b3 n3 o3 s3 k' h3 c3 m2 ∧ WG b3 n3 o3 s3 k' h3 c3 m2 := by
  obtain ⟨hb, hn, ho, hs, hkk, hh, hc, rfl⟩ := gr
  obtain ⟨g1, g2, g3, g4, g5, g6, g7, g8⟩ := wg
  have hvl := ix_lt hv
  have es := ag_at hs hv
  have ec := ag_at hc hv
  have ek := ag_at hkk hv
  have eh := ag_at hh hv
  have hsb := g4 _ hvl
  have hin : inR (s' v.toNatClampNeg) 40 := by unfold bd at hsb; unfold inR; omega
  have eb := ag_at hb hin
  have en := ag_at hn hin
  have eo := ag_at ho hin
  have hil := ix_lt hin
  have hst : f_X0_isStanding s v = some 1 := st_1 hv (by rw [es]; exact hin)
  have e1 : (1 : Int32).toInt = 1 := rfl
  have e0 : (0 : Int32).toInt = 0 := rfl
  have e39 : (39 : Int32).toInt = 39 := rfl
  have e99 : (99 : Int32).toInt = 99 := rfl
  -- a place that the test has let through
  have thr : ∀ (x : Int32), (if (0 : Int32) ≤ x ∧ x ≤ 39 then (if (1 : Int32) = 0 then some (2 : Int32) else some 0) else (if (0 : Int32) = 0 then some 2 else some 0)) = some 0 → bd x 0 39 := by
    intro x hx
    by_cases h1 : (0 : Int32) ≤ x ∧ x ≤ 39
    · exact bd_of h1 rfl rfl
    · rw [if_neg h1, if_pos rfl] at hx
      exact absurd (Option.some.inj hx) (by decide)
  have hm_no : ∀ km : Int32, ¬ km = 2 → hmN b' s' k' km v hm = hm := fun km q => by unfold hmN; rw [if_neg (fun z => q z.1)]
  have wn_no : ∀ km : Int32, ¬ km = 6 → wnN o' s' km v = -6 := fun km q => by unfold wnN; rw [if_neg (fun z => q z.1)]
  -- he has not chosen yet, but for a minute
  have hch : ¬ km = 7 → c' v.toNatClampNeg = -6 := by
    intro h7
    rcases g7 _ hvl with e | e
    · exact e
    · exfalso
      unfold f_X9_whyNot at hbar
      have h1 : (0 : Int32) ≤ c' v.toNatClampNeg := (bd_to (lo := 0) (hi := 39) e rfl rfl).1
      have h3 : ¬ c' v.toNatClampNeg < 0 := by rw [i_lt]; rw [i_le] at h1; omega
      rw [if_neg h7, gu_ok hv, if_neg h3] at hbar
      exact absurd (Option.some.inj hbar) (by decide)
  have d6 : ((-6 : Int32) < 0) = True := by decide
  rcases hk with ⟨rfl, rfl⟩ | ⟨rfl, rfl⟩ | ⟨rfl, rfl⟩ | ⟨rfl, rfl⟩ | ⟨rfl, rfl⟩ | ⟨rfl, rfl⟩ | ⟨rfl, rfl⟩ | ⟨rfl, rfl⟩
  · -- on
    have hp : bd (s' v.toNatClampNeg + a) 0 39 := by
      apply thr
      unfold f_X9_whyNot at hbar
      simpa only [gu_ok hv, hch (by decide), d6, if_true, mPl, jP, if_neg (by decide : ¬ (0 : Int32) = 7)] using hbar
    refine ⟨b, n, o, upd s v.toNatClampNeg (s' v.toNatClampNeg + a), h, c, m, b', n', o', upd s' v.toNatClampNeg (s' v.toNatClampNeg + a), h', c', ?_, ?_, ⟨hb, hn, ho, ag_up hs _ _, hkk, hh, hc, rfl⟩, g1, g2, g3, all_up (P := fun x => bd x 0 39) g4 hp, g5, g6, g7, g8⟩
    · unfold f_X0_act
      rw [hst, jn_some, n10]
      simp only [gu_ok hv, bi_eq, es]
      rw [if_neg (by decide), if_neg (by decide), if_neg (by decide), if_neg (by decide), if_neg (by decide), if_pos (by decide)]
    · unfold f_X9_happen
      rw [if_pos rfl, gu_ok hv, gu_ok hv, hm_no _ (by decide), wn_no _ (by decide)]
  · -- back
    have hp : bd (s' v.toNatClampNeg - a) 0 39 := by
      apply thr
      unfold f_X9_whyNot at hbar
      simpa only [gu_ok hv, hch (by decide), d6, if_true, mPl, jP, if_neg (by decide : ¬ (1 : Int32) = 7), if_neg (by decide : ¬ (1 : Int32) = 0)] using hbar
    refine ⟨b, n, o, upd s v.toNatClampNeg (s' v.toNatClampNeg - a), h, c, m, b', n', o', upd s' v.toNatClampNeg (s' v.toNatClampNeg - a), h', c', ?_, ?_, ⟨hb, hn, ho, ag_up hs _ _, hkk, hh, hc, rfl⟩, g1, g2, g3, all_up (P := fun x => bd x 0 39) g4 hp, g5, g6, g7, g8⟩
    · unfold f_X0_act
      rw [hst, jn_some, n10]
      simp only [gu_ok hv, bi_eq, es]
      rw [if_neg (by decide), if_neg (by decide), if_neg (by decide), if_neg (by decide), if_pos (by decide)]
    · unfold f_X9_happen
      rw [if_neg (by decide), if_pos rfl, gu_ok hv, gu_ok hv, hm_no _ (by decide), wn_no _ (by decide)]
  · -- listens
    have hhb := g6 _ hvl
    have cls : f_X0_act b n o s k h c m v 63 a = if b' (s' v.toNatClampNeg).toNatClampNeg = k' v.toNatClampNeg then some (b, n, o, s, upd h v.toNatClampNeg (if 99 < h' v.toNatClampNeg + 1 then 99 else h' v.toNatClampNeg + 1), c, m) else some (b, n, o, s, h, c, m) := by
      unfold f_X0_act
      rw [hst, jn_some, n10]
      simp only [gu_ok hv, bi_eq, es, gu_ok hin, eb, ek, eh]
      rw [if_neg (by decide), if_neg (by decide), if_neg (by decide), if_neg (by decide), if_neg (by decide), if_neg (by decide), if_pos (by decide)]
    have mdl : f_X9_happen b' n' o' s' k' h' c' m hm 2 v a = jn (f_X9_listen b' s' k' h' hm v) (fun r4 => some (b', n', o', s', r4.1, c', m, r4.2, (-6))) := by
      unfold f_X9_happen
      rw [if_neg (by decide), if_neg (by decide), if_pos rfl]
    rw [cls, mdl]
    unfold f_X9_listen
    simp only [gu_ok hv, gu_ok hin]
    by_cases hx : b' (s' v.toNatClampNeg).toNatClampNeg = k' v.toNatClampNeg
    · simp only [if_pos hx]
      have hmx : hmN b' s' k' 2 v hm = hm + 1 := by unfold hmN; rw [if_pos ⟨rfl, hx⟩]
      unfold f_X9_less
      unfold bd at hhb
      have hadd : (h' v.toNatClampNeg + 1).toInt = (h' v.toNatClampNeg).toInt + 1 := by rw [fb_addI (by omega) (by omega), e1]
      by_cases h10 : h' v.toNatClampNeg + 1 ≤ 99
      · have h9 : ¬ (99 : Int32) < h' v.toNatClampNeg + 1 := by rw [i_lt]; rw [i_le] at h10; omega
        simp only [if_neg h9, if_pos h10, jn_some]
        refine ⟨b, n, o, s, upd h v.toNatClampNeg (h' v.toNatClampNeg + 1), c, m, b', n', o', s', upd h' v.toNatClampNeg (h' v.toNatClampNeg + 1), c', rfl, ?_, ⟨hb, hn, ho, hs, hkk, ag_up hh _ _, hc, rfl⟩, g1, g2, g3, g4, g5, all_up (P := fun x => bd x 0 99) g6 ?_, g7, g8⟩
        · rw [hmx, wn_no _ (by decide)]
        · unfold bd; rw [hadd]; rw [i_le, hadd] at h10; omega
      · have h9 : (99 : Int32) < h' v.toNatClampNeg + 1 := by rw [i_lt]; rw [i_le] at h10; omega
        simp only [if_pos h9, if_neg h10, jn_some]
        refine ⟨b, n, o, s, upd h v.toNatClampNeg 99, c, m, b', n', o', s', upd h' v.toNatClampNeg 99, c', rfl, ?_, ⟨hb, hn, ho, hs, hkk, ag_up hh _ _, hc, rfl⟩, g1, g2, g3, g4, g5, all_up (P := fun x => bd x 0 99) g6 (by unfold bd; decide), g7, g8⟩
        rw [hmx, wn_no _ (by decide)]
    · simp only [if_neg hx, jn_some]
      refine ⟨b, n, o, s, h, c, m, b', n', o', s', h', c', rfl, ?_, ⟨hb, hn, ho, hs, hkk, hh, hc, rfl⟩, g1, g2, g3, g4, g5, g6, g7, g8⟩
      have hmx : hmN b' s' k' 2 v hm = hm := by unfold hmN; rw [if_neg (fun z => hx z.2)]
      rw [hmx, wn_no _ (by decide)]
  · -- a nick
    refine ⟨b, upd n (s' v.toNatClampNeg).toNatClampNeg (1 - n' (s' v.toNatClampNeg).toNatClampNeg), o, s, h, c, m, b', upd n' (s' v.toNatClampNeg).toNatClampNeg (1 - n' (s' v.toNatClampNeg).toNatClampNeg), o', s', h', c', ?_, ?_, ⟨hb, ag_up hn _ _, ho, hs, hkk, hh, hc, rfl⟩, g1, all_up (P := fun x => x = 0 ∨ x = 1) g2 ?_, g3, g4, g5, g6, g7, g8⟩
    · unfold f_X0_act
      rw [hst, jn_some, n10]
      simp only [gu_ok hv, bi_eq, es, gu_ok hin, en]
      rw [if_neg (by decide), if_pos (by decide)]
    · unfold f_X9_happen
      rw [if_neg (by decide), if_neg (by decide), if_neg (by decide), if_pos rfl, gu_ok hv, gu_ok hv, gu_ok hin, gu_ok hin, hm_no _ (by decide), wn_no _ (by decide)]
    · rcases g2 _ hil with e | e
      · rw [e]; exact Or.inr (by decide)
      · rw [e]; exact Or.inl (by decide)
  · -- a beat
    refine ⟨upd b (s' v.toNatClampNeg).toNatClampNeg a, n, o, s, h, c, m, upd b' (s' v.toNatClampNeg).toNatClampNeg a, n', o', s', h', c', ?_, ?_, ⟨ag_up hb _ _, hn, ho, hs, hkk, hh, hc, rfl⟩, all_up (P := fun x => bd x 1 9) g1 (ha rfl), g2, g3, g4, g5, g6, g7, g8⟩
    · unfold f_X0_act
      rw [hst, jn_some, n10]
      simp only [gu_ok hv, bi_eq, es, gu_ok hin]
      rw [if_neg (by decide), if_neg (by decide), if_neg (by decide), if_pos (by decide)]
    · unfold f_X9_happen
      rw [if_neg (by decide), if_neg (by decide), if_neg (by decide), if_neg (by decide), if_pos rfl, gu_ok hv, gu_ok hin, hm_no _ (by decide), wn_no _ (by decide)]
  · -- changed
    have hp : bd (s' v.toNatClampNeg + 1) 0 39 := by
      apply thr
      unfold f_X9_whyNot at hbar
      simpa only [gu_ok hv, hch (by decide), d6, if_true, mPl, jP, if_neg (by decide : ¬ (5 : Int32) = 7), if_neg (by decide : ¬ (5 : Int32) = 0), if_neg (by decide : ¬ (5 : Int32) = 1), if_neg (by decide : ¬ (5 : Int32) = 2), if_neg (by decide : ¬ (5 : Int32) = 3), if_neg (by decide : ¬ (5 : Int32) = 4)] using hbar
    have hp1 : inR (s' v.toNatClampNeg + 1) 40 := by unfold bd at hp; unfold inR; omega
    have hp1l := ix_lt hp1
    have e40 : (40 : Int32).toInt = 40 := rfl
    have n0 : ¬ s' v.toNatClampNeg < 0 := by rw [i_lt]; unfold bd at hsb; omega
    have y40 : s' v.toNatClampNeg + 1 < 40 := by rw [i_lt]; unfold bd at hp; omega
    have sw : ∀ f : Nat → Int32, f_X0_swapWithNext f (s' v.toNatClampNeg) = some (upd (upd f (s' v.toNatClampNeg).toNatClampNeg (f (s' v.toNatClampNeg + 1).toNatClampNeg)) (s' v.toNatClampNeg + 1).toNatClampNeg (f (s' v.toNatClampNeg).toNatClampNeg)) := by
      intro f
      unfold f_X0_swapWithNext
      rw [if_neg n0, if_pos y40]
      simp only [gu_ok hin, gu_ok hp1, bi_eq]
    have ags : ∀ {f g : Nat → Int32}, ag 40 f g → ag 40 (upd (upd f (s' v.toNatClampNeg).toNatClampNeg (f (s' v.toNatClampNeg + 1).toNatClampNeg)) (s' v.toNatClampNeg + 1).toNatClampNeg (f (s' v.toNatClampNeg).toNatClampNeg)) (upd (upd g (s' v.toNatClampNeg).toNatClampNeg (g (s' v.toNatClampNeg + 1).toNatClampNeg)) (s' v.toNatClampNeg + 1).toNatClampNeg (g (s' v.toNatClampNeg).toNatClampNeg)) := by
      intro f g hfg
      rw [hfg _ hil, hfg _ hp1l]
      exact ag_up (ag_up hfg _ _) _ _
    have ups : ∀ {f : Nat → Int32} {P : Int32 → Prop}, (∀ i, i < 40 → P (f i)) → ∀ i, i < 40 → P (upd (upd f (s' v.toNatClampNeg).toNatClampNeg (f (s' v.toNatClampNeg + 1).toNatClampNeg)) (s' v.toNatClampNeg + 1).toNatClampNeg (f (s' v.toNatClampNeg).toNatClampNeg) i) := by
      intro f P hf
      exact all_up (all_up hf (hf _ hp1l)) (hf _ hil)
    refine ⟨_, _, _, s, h, c, m, _, _, _, s', h', c', ?_, ?_, ⟨ags hb, ags hn, ags ho, hs, hkk, hh, hc, rfl⟩, ups (P := fun x => bd x 1 9) g1, ups (P := fun x => x = 0 ∨ x = 1) g2, ups (P := fun x => x = -6 ∨ bd x 0 5) g3, g4, g5, g6, g7, g8⟩
    · unfold f_X0_act f_X0_changeWithNext
      rw [hst, jn_some, n10]
      simp only [gu_ok hv, bi_eq, es, sw, jn_some]
      rw [if_neg (by decide), if_neg (by decide), if_neg (by decide), if_neg (by decide), if_neg (by decide), if_neg (by decide), if_neg (by decide), if_pos (by decide)]
    · unfold f_X9_happen f_X9_swap
      rw [if_neg (by decide), if_neg (by decide), if_neg (by decide), if_neg (by decide), if_neg (by decide), if_pos rfl]
      simp only [gu_ok hv, gu_ok hin, gu_ok hp1, bi_eq, jn_some, hm_no _ (by decide : ¬ (5 : Int32) = 2), wn_no _ (by decide : ¬ (5 : Int32) = 6)]
  · -- chooses
    refine ⟨b, n, o, s, h, upd c v.toNatClampNeg (s' v.toNatClampNeg), m, b', n', o', s', h', upd c' v.toNatClampNeg (s' v.toNatClampNeg), ?_, ?_, ⟨hb, hn, ho, hs, hkk, hh, ag_up hc _ _, rfl⟩, g1, g2, g3, g4, g5, g6, all_up (P := fun x => x = -6 ∨ bd x 0 39) g7 (Or.inr hsb), g8⟩
    · unfold f_X0_act
      rw [hst, jn_some, n10]
      simp only [gu_ok hv, bi_eq, es]
      rw [if_pos (by decide)]
    · unfold f_X9_happen f_X9_choose
      rw [if_neg (by decide), if_neg (by decide), if_neg (by decide), if_neg (by decide), if_neg (by decide), if_neg (by decide), if_pos rfl]
      simp only [gu_ok hv, gu_ok hin]
      rw [hm_no _ (by decide)]
      by_cases hx : o' (s' v.toNatClampNeg).toNatClampNeg = v
      · have hw : wnN o' s' 6 v = -6 := by unfold wnN; rw [if_neg (fun z => z.2 hx)]
        rw [if_pos hx, hw]; rfl
      · have hw : wnN o' s' 6 v = v := by unfold wnN; rw [if_pos ⟨rfl, hx⟩]
        rw [if_neg hx, hw]; rfl
  · -- a minute
    have hmin : m.toInt < 60 := by
      unfold f_X9_whyNot at hbar
      rw [if_pos rfl] at hbar
      by_cases h60 : m = 60
      · rw [if_pos h60] at hbar
        exact absurd (Option.some.inj hbar) (by decide)
      · have e60 : (60 : Int32).toInt = 60 := rfl
        rw [i_eq] at h60; unfold bd at g8; omega
    obtain ⟨s2, s3, h1, h2, h3, h4⟩ := p_minute m hn hc hs g7 g4
    refine ⟨b, n, o, s2, h, c, m + 1, b', n', o', s3, h', c', ?_, ?_, ⟨hb, hn, ho, h3, hkk, hh, hc, rfl⟩, g1, g2, g3, h4, g5, g6, g7, ?_⟩
    · unfold f_X0_act
      rw [hst, jn_some, n10]
      simp only [gu_ok hv, bi_eq, es, h1, jn_some]
      rw [if_neg (by decide), if_neg (by decide), if_pos (by decide)]
    · unfold f_X9_happen
      rw [if_neg (by decide), if_neg (by decide), if_neg (by decide), if_neg (by decide), if_neg (by decide), if_neg (by decide), if_neg (by decide), h2, hm_no _ (by decide), wn_no _ (by decide)]
      rfl
    · unfold bd at g8 ⊢
      rw [fb_addI (by omega) (by omega), e1]
      omega
