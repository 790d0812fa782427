theorem why7 (b s c : Nat → Int32) (m v w a a' : Int32) : f_X9_whyNot b s c m 7 v a = f_X9_whyNot b s c m 7 w a' := by
  unfold f_X9_whyNot; rw [if_pos rfl, if_pos rfl]
theorem hap7 (b n o s k h c : Nat → Int32) (m hm v w a a' : Int32) : f_X9_happen b n o s k h c m hm 7 v a = f_X9_happen b n o s k h c m hm 7 w a' := by
  unfold f_X9_happen
  simp only [if_neg (by decide : ¬ (7 : Int32) = 0), if_neg (by decide : ¬ (7 : Int32) = 1), if_neg (by decide : ¬ (7 : Int32) = 2), if_neg (by decide : ¬ (7 : Int32) = 3), if_neg (by decide : ¬ (7 : Int32) = 4), if_neg (by decide : ¬ (7 : Int32) = 5), if_neg (by decide : ¬ (7 : Int32) = 6)]
theorem KK_63 {kc km : Int32} (h : KK kc km) : kc = 63 ↔ km = 2 := by
  rcases h with ⟨rfl, rfl⟩ | ⟨rfl, rfl⟩ | ⟨rfl, rfl⟩ | ⟨rfl, rfl⟩ | ⟨rfl, rfl⟩ | ⟨rfl, rfl⟩ | ⟨rfl, rfl⟩ | ⟨rfl, rfl⟩ <;> decide
theorem KK_33 {kc km : Int32} (h : KK kc km) : kc = 33 ↔ km = 6 := by
  rcases h with ⟨rfl, rfl⟩ | ⟨rfl, rfl⟩ | ⟨rfl, rfl⟩ | ⟨rfl, rfl⟩ | ⟨rfl, rfl⟩ | ⟨rfl, rfl⟩ | ⟨rfl, rfl⟩ | ⟨rfl, rfl⟩ <;> decide
theorem r_try {b n o s k h c b' n' o' s' k' h' c' : Nat → Int32} {m : Int32} (gr : GR b n o s k h c m b' n' o' s' k' h' c' m) (wg : WG b' n' o' s' k' h' c' m) {v kc km w : Int32} (hv : inR v 6) (hk : KK kc km) {a : Int32} (ha : km = 4 → bd a 1 9) (hw : km = 7 ∨ w = v) {FA FW FM : Nat → Int32} {e FE : Nat} (he : e < FE) (hE : FE ≤ 60) (eA : FA e = km) (eW : FW e = w) (eM : FM e = a) (mm : Nat) (hm wn : Int32) {wa wh : Int32} (hwa : wa = -6 ∨ 0 ≤ wa) :
    (∃ r, f_X7_attempt (nI e) (-6) (-6) hm wa wh b n o s k h c m v kc a = some (nI e, nI e, r, hm, wa, wh, b, n, o, s, h, c, m) ∧ f_X9_goHours_L31 k' FA FW FM (nI FE) (mm + 1) (nI e) b' n' o' s' h' c' m hm wn (-6) (-6) wa wh = f_X9_goHours_L31 k' FA FW FM (nI FE) mm (nI (e + 1)) b' n' o' s' h' c' m hm wn (nI e) r wa wh) ∨
    (∃ b2 n2 o2 s2 h2 c2 m2 b3 n3 o3 s3 h3 c3 hm' wn' wa' wh', f_X7_attempt (nI e) (-6) (-6) hm wa wh b n o s k h c m v kc a = some (nI (e + 1), -6, -6, hm', wa', wh', b2, n2, o2, s2, h2, c2, m2) ∧ f_X9_goHours_L31 k' FA FW FM (nI FE) (mm + 1) (nI e) b' n' o' s' h' c' m hm wn (-6) (-6) wa wh = f_X9_goHours_L31 k' FA FW FM (nI FE) mm (nI (e + 1)) b3 n3 o3 s3 h3 c3 m2 hm' wn' (-6) (-6) wa' wh' ∧ GR b2 n2 o2 s2 k h2 c2 m2 b3 n3 o3 s3 k' h3 c3 m2 ∧ WG b3 n3 o3 s3 k' h3 c3 m2 ∧ (wa' = -6 ∨ 0 ≤ wa')) := by
  obtain ⟨r, h1, h2, hr⟩ := r_bar gr wg hv hk a
  have hcl : (nI e).toNatClampNeg = e := nI_clamp (by omega)
  have hni : ¬ nI FE ≤ nI e := nI_ge he (by omega)
  have hgu : ∀ {ρ : Type} (x : Option ρ), gu (nI e) 60 x = x := fun x => gu_nI (by omega) (by decide) x
  have n6 : ¬ (0 : Int32) ≤ -6 := by decide
  have h2w : f_X9_whyNot b' s' c' m km w a = some r := by
    rcases hw with rfl | rfl
    · rw [why7 b' s' c' m w v a a, h2]
    · exact h2
  rw [f_X9_goHours_L31, if_neg hni, if_neg n6, hgu, hgu, hgu, hcl, eA, eW, eM, h2w, jn_some]
  unfold f_X7_attempt
  rw [h1, jn_some]
  by_cases hr0 : r = 0
  · subst hr0
    obtain ⟨b2, n2, o2, s2, h2', c2, m2, b3, n3, o3, s3, h3, c3, q1, q2, q3, q4⟩ := r_act gr wg hv hk a hm ha h2
    have q2w : f_X9_happen b' n' o' s' k' h' c' m hm km w a = some (b3, n3, o3, s3, h3, c3, m2, hmN b' s' k' km v hm, wnN o' s' km v) := by
      rcases hw with rfl | rfl
      · rw [hap7 b' n' o' s' k' h' c' m hm w v a a, q2]
      · exact q2
    obtain ⟨gb, gn, go, gs, gk, gh, gc, -⟩ := gr
    obtain ⟨g1, g2, g3, g4, g5, g6, g7, g8⟩ := wg
    have es := ag_at gs hv
    have ek := ag_at gk hv
    have hsb := g4 _ (ix_lt hv)
    have hin : inR (s' v.toNatClampNeg) 40 := by unfold bd at hsb; unfold inR; omega
    have hst : f_X0_isStanding s v = some 1 := st_1 hv (by rw [es]; exact hin)
    have eb := ag_at gb hin
    have eo := ag_at go hin
    have eh : (if kc = 63 then jn (f_X0_hearsOwnBeat b s k v) (fun r4 => if r4 = 0 then some hm else some (hm + 1)) else some hm) = some (hmN b' s' k' km v hm) := by
      unfold hmN
      by_cases h63 : kc = 63
      · have h6 := (KK_63 hk).1 h63
        unfold f_X0_hearsOwnBeat
        rw [hst, jn_some, n10]
        simp only [if_pos h63, gu_ok hv, es, gu_ok hin, eb, ek]
        by_cases hx : b' (s' v.toNatClampNeg).toNatClampNeg = k' v.toNatClampNeg
        · rw [if_pos hx, if_pos ⟨h6, hx⟩]; rfl
        · rw [if_neg hx, if_neg (fun z => hx z.2)]; rfl
      · rw [if_neg h63, if_neg (fun z => h63 ((KK_63 hk).2 z.1))]
    have ew : (if kc = 33 then if wa = -6 then jn (f_X0_standsAtOwn o s v) (fun r7 => if r7 = 0 then some (nI e, v) else some (wa, wh)) else some (wa, wh) else some (wa, wh)) = some (if wnN o' s' km v < 0 then wa else if 0 ≤ wa then wa else nI e, if wnN o' s' km v < 0 then wh else if 0 ≤ wa then wh else wnN o' s' km v) := by
      have m6 : (-6 : Int32) < 0 := by decide
      by_cases h33 : kc = 33
      · have h6 := (KK_33 hk).1 h33
        unfold f_X0_standsAtOwn
        rw [hst, jn_some, n10]
        have vp : ¬ v < 0 := by rw [i_lt]; obtain ⟨z, -⟩ := hv; exact Int.not_lt.2 z
        simp only [if_pos h33, gu_ok hv, es, gu_ok hin, eo]
        by_cases hx : o' (s' v.toNatClampNeg).toNatClampNeg = v
        · have hwn : wnN o' s' km v = -6 := by unfold wnN; exact if_neg (fun z => z.2 hx)
          rw [hwn, if_pos m6, if_pos m6, if_pos hx]
          by_cases hz : wa = -6
          · rw [if_pos hz]; rfl
          · rw [if_neg hz]
        · have hwn : wnN o' s' km v = v := by unfold wnN; exact if_pos ⟨h6, hx⟩
          rw [hwn, if_neg vp, if_neg vp, if_neg hx]
          rcases hwa with rfl | hwa
          · rw [if_pos rfl, if_neg n6, if_neg n6]; rfl
          · have hz : ¬ wa = -6 := fun z => by rw [z] at hwa; exact n6 hwa
            rw [if_neg hz, if_pos hwa, if_pos hwa]
      · have hwn : wnN o' s' km v = -6 := by unfold wnN; exact if_neg (fun z => h33 ((KK_33 hk).2 z.1))
        rw [if_neg h33, hwn, if_pos m6, if_pos m6]
    refine Or.inr ⟨b2, n2, o2, s2, h2', c2, m2, b3, n3, o3, s3, h3, c3, hmN b' s' k' km v hm, wnN o' s' km v, if wnN o' s' km v < 0 then wa else if 0 ≤ wa then wa else nI e, if wnN o' s' km v < 0 then wh else if 0 ≤ wa then wh else wnN o' s' km v, ?_, ?_, q3, q4, ?_⟩
    · rw [if_pos rfl, eh, jn_some, ew, jn_some, q1, jn_some, nI_1]
    · rw [if_pos (by decide), if_pos (by decide), jn_some, jn_some, if_pos rfl]
      unfold f_X9_goOne
      rw [hgu, hgu, hgu, hcl, eA, eW, eM, q2w, jn_some]
      dsimp only
      by_cases hx : wnN o' s' km v < 0
      · rw [if_pos hx, if_pos hx, if_pos hx, nI_1]; rfl
      · rw [if_neg hx, if_neg hx, if_neg hx, nI_1]
        by_cases hy : 0 ≤ wa
        · rw [if_pos hy, if_pos hy, if_pos hy]; rfl
        · rw [if_neg hy, if_neg hy, if_neg hy]; rfl
    · by_cases hx : wnN o' s' km v < 0
      · rw [if_pos hx]; exact hwa
      · rw [if_neg hx]
        by_cases hy : 0 ≤ wa
        · rw [if_pos hy]; exact hwa
        · rw [if_neg hy]; exact Or.inr (nI_pos' (by omega))
  · have hrp : ¬ r ≤ 0 := by
      intro z
      apply hr0
      rw [i_eq]
      rw [i_le] at z
      unfold bd at hr
      have e0 : (0 : Int32).toInt = 0 := rfl
      omega
    refine Or.inl ⟨r, ?_, ?_⟩
    · rw [if_neg hr0]
    · rw [if_neg hrp, if_neg hrp, jn_some, jn_some, if_neg hr0, nI_1]
