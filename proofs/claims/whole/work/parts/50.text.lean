def CW (due : Int32) (who much : Nat → Int32) (e : Nat) (y3 y4 : Int32) : Prop := inR y3 6 ∧ ((due = 0 ∧ y4 = 0) ∨ (due = 1 ∧ y4 = 0 ∧ who e = y3 ∧ much e = 0) ∨ (due = 2 ∧ y4 = 62 ∧ who e = y3) ∨ (due = 3 ∧ y4 = 60 ∧ who e = y3))
def FOL (k k' : Nat → Int32) (FE : Nat) (x : Option (Int32 × Int32 × Int32 × Int32 × Int32 × Int32 × Int32 × Int32 × Int32 × (Nat → Int32) × (Nat → Int32) × (Nat → Int32) × (Nat → Int32) × (Nat → Int32) × (Nat → Int32) × Int32)) (y : Option (Int32 × (Nat → Int32) × (Nat → Int32) × (Nat → Int32) × (Nat → Int32) × (Nat → Int32) × (Nat → Int32) × Int32 × Int32 × Int32 × Int32 × Int32 × Int32 × Int32)) : Prop :=
  ∃ y3 y4 y5 y1 ac ba bw hm wn wa wh b2 n2 o2 s2 h2 c2 m2 b3 n3 o3 s3 h3 c3, x = some (y3, y4, y5, ac, ba, bw, hm, wa, wh, b2, n2, o2, s2, h2, c2, m2) ∧ y = some (y1, b3, n3, o3, s3, h3, c3, m2, hm, wn, ba, bw, wa, wh) ∧ GR b2 n2 o2 s2 k h2 c2 m2 b3 n3 o3 s3 k' h3 c3 m2 ∧ WG b3 n3 o3 s3 k' h3 c3 m2 ∧ ((ba = -6 ∧ ac = nI FE) ∨ 0 ≤ ba)
theorem jWy {ρ : Type} (v : Int32) (q : Int32 → Option ρ) : jn (f_X2_isWay v) q = if v = 62 ∨ v = 60 then q 1 else q 0 := by
  unfold f_X2_isWay
  by_cases h1 : v = 62
  · rw [if_pos h1, if_pos (Or.inl h1)]; rfl
  · rw [if_neg h1]
    by_cases h2 : v = 60
    · rw [if_pos h2, if_pos (Or.inr h2)]; rfl
    · rw [if_neg h2, if_neg (fun z => z.elim h1 h2)]; rfl
theorem l_follow (p : Nat → Int32) {n : Nat} (hn : n ≤ 60) {k k' FA FW FM : Nat → Int32} {FE : Nat} (hE : FE ≤ n) : ∀ d i nn mm due (act who much : Nat → Int32) e y3 y4 (b nk o s h c b' nk' o' s' h' c' : Nat → Int32) (m hm wn wa wh : Int32), i + d = n → d < nn → FE < mm + e → PATH p d i due act who much e 0 FA FW FM FE → CW due who much e y3 y4 → GR b nk o s k h c m b' nk' o' s' k' h' c' m → WG b' nk' o' s' k' h' c' m → (wa = -6 ∨ 0 ≤ wa) → FOL k k' FE (f_X7_follow_L13 k p (nI n) nn y3 y4 (nI i) (nI e) (-6) (-6) hm wa wh b nk o s h c m) (f_X9_goHours_L31 k' FA FW FM (nI FE) mm (nI e) b' nk' o' s' h' c' m hm wn (-6) (-6) wa wh) := by
  intro d
  induction d with
  | zero =>
    intro i nn mm due act who much e y3 y4 b nk o s h c b' nk' o' s' h' c' m hm wn wa wh hi h1 h2 hp hc gr wg hwa
    obtain ⟨-, -, -, -, rfl⟩ := hp
    obtain ⟨a, rfl⟩ : ∃ a, nn = a + 1 := ⟨nn - 1, by omega⟩
    obtain ⟨a', rfl⟩ : ∃ a, mm = a + 1 := ⟨mm - 1, by omega⟩
    obtain rfl : i = n := by omega
    have hle : ∀ x : Int32, x ≤ x := fun x => by rw [i_le]; exact Int.le_refl _
    rw [f_X7_follow_L13, f_X9_goHours_L31, if_pos (hle _), if_pos (hle _)]
    exact ⟨_, _, _, _, _, _, _, _, _, _, _, _, _, _, _, _, _, _, _, _, _, _, _, _, rfl, rfl, gr, wg, Or.inl ⟨rfl, rfl⟩⟩
  | succ d ih =>
    intro i nn mm due act who much e y3 y4 b nk o s h c b' nk' o' s' h' c' m hm wn wa wh hi h1 h2 hp hc gr wg hwa
    obtain ⟨due1, act1, who1, much1, e1, hr, hp⟩ := hp
    obtain ⟨a, rfl⟩ : ∃ a, nn = a + 2 := ⟨nn - 2, by omega⟩
    have hni : ¬ nI n ≤ nI i := nI_ge (by omega) (by omega)
    have hcl : (nI i).toNatClampNeg = i := nI_clamp (by omega)
    obtain ⟨k1, k2⟩ := PATH_keep _ _ _ _ _ _ _ hp
    obtain ⟨hy3, hcw⟩ := hc
    have h60 : ¬ (60 : Int32) ≤ nI i := nle (n := 60) rfl (by omega)
    rw [f_X7_follow_L13, if_neg hni, if_neg h60, if_pos rfl, gu_nI (by omega) (by decide), bi_eq, hcl, nI_1]
    generalize p i = ch at hr ⊢
    -- an act is tried
    have go : ∀ kc km w x, KK kc km → (km = 4 → bd x 1 9) → (km = 7 ∨ w = y3) → due1 = 0 → e1 = e + 1 → FA e = km → FW e = w → FM e = x → FOL k k' FE (jn (f_X7_attempt (nI e) (-6) (-6) hm wa wh b nk o s k h c m y3 kc x) (fun r => f_X7_follow_L13 k p (nI n) (a + 1) y3 0 (nI (i + 1)) r.1 r.2.1 r.2.2.1 r.2.2.2.1 r.2.2.2.2.1 r.2.2.2.2.2.1 r.2.2.2.2.2.2.1 r.2.2.2.2.2.2.2.1 r.2.2.2.2.2.2.2.2.1 r.2.2.2.2.2.2.2.2.2.1 r.2.2.2.2.2.2.2.2.2.2.1 r.2.2.2.2.2.2.2.2.2.2.2.1 r.2.2.2.2.2.2.2.2.2.2.2.2)) (f_X9_goHours_L31 k' FA FW FM (nI FE) mm (nI e) b' nk' o' s' h' c' m hm wn (-6) (-6) wa wh) := by
      intro kc km w x hk hx hw d1 e1' eA eW eM
      subst d1 e1'
      obtain ⟨a', rfl⟩ : ∃ a, mm = a + 2 := ⟨mm - 2, by omega⟩
      obtain ⟨r, q1, q2⟩ | ⟨b2, n2, o2, s2, h2', c2, m2, b3, n3, o3, s3, h3, c3, hm', wn', wa', wh', q1, q2, q3, q4, q5⟩ := r_try gr wg hy3 hk hx hw (FE := FE) (by omega) (by omega) eA eW eM (a' + 1) hm wn (wh := wh) hwa
      · rw [q1, q2, jn_some]
        dsimp only
        have z1 : ¬ nI e = -6 := by
          intro z
          have : (0 : Int32) ≤ -6 := by rw [← z]; exact nI_pos' (by omega)
          exact absurd this (by decide)
        have z2 : 0 ≤ nI e := nI_pos' (by omega)
        rw [f_X7_follow_L13, f_X9_goHours_L31, if_neg z1, if_pos z2]
        simp only [ite_self]
        exact ⟨_, _, _, _, _, _, _, _, _, _, _, _, _, _, _, _, _, _, _, _, _, _, _, _, rfl, rfl, gr, wg, Or.inr z2⟩
      · rw [q1, q2, jn_some]
        exact ih (i + 1) (a + 1) (a' + 1) 0 act1 who1 much1 (e + 1) y3 0 b2 n2 o2 s2 h2' c2 b3 n3 o3 s3 h3 c3 m2 hm' wn' wa' wh' (by omega) (by omega) (by omega) hp ⟨hy3, Or.inl ⟨rfl, rfl⟩⟩ q3 q4 q5
    have e65 : (65 : Int32).toInt = 65 := rfl
    have e70 : (70 : Int32).toInt = 70 := rfl
    have e48 : (48 : Int32).toInt = 48 := rfl
    have e49 : (49 : Int32).toInt = 49 := rfl
    have e57 : (57 : Int32).toInt = 57 := rfl
    have dg : ∀ {x : Int32}, 49 ≤ x ∧ x ≤ 57 → bd (x - 48) 1 9 ∧ ¬ (65 ≤ x ∧ x ≤ 70) ∧ ¬ (x = 62 ∨ x = 60) := by
      intro x ⟨x1, x2⟩
      rw [i_le] at x1 x2
      have : (x - 48).toInt = x.toInt - 48 := by rw [fb_subI (by omega) (by omega), e48]
      refine ⟨by unfold bd; omega, fun z => ?_, fun z => ?_⟩
      · rw [i_le, i_le] at z; omega
      · rcases z with rfl | rfl
        · exact absurd x2 (by decide)
        · exact absurd x2 (by decide)
    rcases hr with ⟨hd, hl, hd1, hA, hW, hM, he⟩ | ⟨hd, hch, hd1, hA, hW, hM, he⟩ | ⟨hd, ⟨km, hpd, hA⟩, hd1, hW, hM, he⟩ | ⟨hd, hw, hA, hW, hM, he⟩ | ⟨hd, hg, hd1, hA, hW, hM, he⟩ | ⟨hd, hg, hd1, hA, hW, hM, he⟩
    · -- a letter
      have y0 : y4 = 0 := by
        rcases hcw with ⟨-, z⟩ | ⟨z, -⟩ | ⟨z, -⟩ | ⟨z, -⟩
        · exact z
        all_goals rw [hd] at z; exact absurd z (by decide)
      subst y0
      rw [if_pos rfl, jLt, if_pos hl, if_neg (by decide), bi_eq]
      subst hd1 hA hW hM he
      have hv : inR (ch - 65) 6 := by
        obtain ⟨x1, x2⟩ := hl
        rw [i_le] at x1 x2
        have : (ch - 65).toInt = ch.toInt - 65 := by rw [fb_subI (by omega) (by omega), e65]
        unfold inR; omega
      exact ih (i + 1) (a + 1) mm 1 _ _ _ _ (ch - 65) 0 b nk o s h c b' nk' o' s' h' c' m hm wn wa wh (by omega) (by omega) (by omega) hp ⟨hv, Or.inr (Or.inl ⟨rfl, rfl, up_s, up_s⟩)⟩ gr wg hwa
    · -- a minute
      have y0 : y4 = 0 := by
        rcases hcw with ⟨-, z⟩ | ⟨z, -⟩ | ⟨z, -⟩ | ⟨z, -⟩
        · exact z
        all_goals rw [hd] at z; exact absurd z (by decide)
      subst y0 hch
      rw [if_pos rfl, jLt, if_neg (by decide), if_pos rfl, jWy, if_neg (by decide), if_pos rfl, jDg, if_neg (by decide), if_pos rfl]
      obtain ⟨f1, f2, f3⟩ := k2 e (by omega)
      rw [hA, up_s] at f1
      rw [hW, up_s] at f2
      rw [hM, up_s] at f3
      exact go 46 7 0 0 (Or.inr (Or.inr (Or.inr (Or.inr (Or.inr (Or.inr (Or.inr ⟨rfl, rfl⟩))))))) (fun z => absurd z (by decide)) (Or.inl rfl) hd1 he f1 f2 f3
    · -- a deed with no number
      obtain ⟨y0, w0, m0⟩ : y4 = 0 ∧ who e = y3 ∧ much e = 0 := by
        rcases hcw with ⟨z, -⟩ | ⟨-, z1, z2, z3⟩ | ⟨z, -⟩ | ⟨z, -⟩
        · rw [hd] at z; exact absurd z (by decide)
        · exact ⟨z1, z2, z3⟩
        all_goals rw [hd] at z; exact absurd z (by decide)
      subst y0
      obtain ⟨f1, f2, f3⟩ := k2 e (by omega)
      rw [hA, up_s] at f1
      rw [hW, w0] at f2
      rw [hM, m0] at f3
      rcases hpd with ⟨rfl, rfl⟩ | ⟨rfl, rfl⟩ | ⟨rfl, rfl⟩ | ⟨rfl, rfl⟩ <;> rw [if_pos rfl, jLt, if_neg (by decide), if_pos rfl, jWy, if_neg (by decide), if_pos rfl, jDg, if_neg (by decide), if_pos rfl]
      · exact go 33 6 _ 0 (Or.inr (Or.inr (Or.inr (Or.inr (Or.inr (Or.inr (Or.inl ⟨rfl, rfl⟩))))))) (fun z => absurd z (by decide)) (Or.inr rfl) hd1 he f1 f2 f3
      · exact go 42 3 _ 0 (Or.inr (Or.inr (Or.inr (Or.inl ⟨rfl, rfl⟩)))) (fun z => absurd z (by decide)) (Or.inr rfl) hd1 he f1 f2 f3
      · exact go 63 2 _ 0 (Or.inr (Or.inr (Or.inl ⟨rfl, rfl⟩))) (fun z => absurd z (by decide)) (Or.inr rfl) hd1 he f1 f2 f3
      · exact go 126 5 _ 0 (Or.inr (Or.inr (Or.inr (Or.inr (Or.inr (Or.inl ⟨rfl, rfl⟩)))))) (fun z => absurd z (by decide)) (Or.inr rfl) hd1 he f1 f2 f3
    · -- a way
      obtain ⟨y0, w0, m0⟩ : y4 = 0 ∧ who e = y3 ∧ much e = 0 := by
        rcases hcw with ⟨z, -⟩ | ⟨-, z1, z2, z3⟩ | ⟨z, -⟩ | ⟨z, -⟩
        · rw [hd] at z; exact absurd z (by decide)
        · exact ⟨z1, z2, z3⟩
        all_goals rw [hd] at z; exact absurd z (by decide)
      subst y0 hA hW hM he
      rcases hw with ⟨rfl, rfl⟩ | ⟨rfl, rfl⟩ <;> rw [if_pos rfl, jLt, if_neg (by decide), if_pos rfl, jWy, if_pos (by decide), if_neg (by decide)]
      · exact ih (i + 1) (a + 1) mm 3 _ _ _ _ y3 60 b nk o s h c b' nk' o' s' h' c' m hm wn wa wh (by omega) (by omega) (by omega) hp ⟨hy3, Or.inr (Or.inr (Or.inr ⟨rfl, rfl, w0⟩))⟩ gr wg hwa
      · exact ih (i + 1) (a + 1) mm 2 _ _ _ _ y3 62 b nk o s h c b' nk' o' s' h' c' m hm wn wa wh (by omega) (by omega) (by omega) hp ⟨hy3, Or.inr (Or.inr (Or.inl ⟨rfl, rfl, w0⟩))⟩ gr wg hwa
    · -- a number for the beat
      obtain ⟨y0, w0, m0⟩ : y4 = 0 ∧ who e = y3 ∧ much e = 0 := by
        rcases hcw with ⟨z, -⟩ | ⟨-, z1, z2, z3⟩ | ⟨z, -⟩ | ⟨z, -⟩
        · rw [hd] at z; exact absurd z (by decide)
        · exact ⟨z1, z2, z3⟩
        all_goals rw [hd] at z; exact absurd z (by decide)
      subst y0
      obtain ⟨f1, f2, f3⟩ := k2 e (by omega)
      rw [hA, up_s] at f1
      rw [hW, w0] at f2
      rw [hM, up_s] at f3
      obtain ⟨g1, g2, g3⟩ := dg hg
      rw [if_pos rfl, jLt, if_neg g2, if_pos rfl, jWy, if_neg g3, if_pos rfl, jDg, if_pos hg, if_neg (by decide)]
      exact go 48 4 _ (ch - 48) (Or.inr (Or.inr (Or.inr (Or.inr (Or.inl ⟨rfl, rfl⟩))))) (fun _ => g1) (Or.inr rfl) hd1 he f1 f2 f3
    · -- a number for the way
      obtain ⟨f1, f2, f3⟩ := k2 e (by omega)
      rw [hA, up_s] at f1
      rw [hW] at f2
      rw [hM, up_s] at f3
      rcases hcw with ⟨z, -⟩ | ⟨z, -⟩ | ⟨z, y4', w0⟩ | ⟨z, y4', w0⟩
      · rcases hd with hd | hd <;> rw [hd] at z <;> exact absurd z (by decide)
      · rcases hd with hd | hd <;> rw [hd] at z <;> exact absurd z (by decide)
      · subst y4' z
        rw [if_neg (by decide)]
        exact go 62 0 _ (ch - 48) (Or.inl ⟨rfl, rfl⟩) (fun z => absurd z (by decide)) (Or.inr rfl) hd1 he f1 (f2.trans w0) f3
      · subst y4' z
        rw [if_neg (by decide)]
        exact go 60 1 _ (ch - 48) (Or.inr (Or.inl ⟨rfl, rfl⟩)) (fun z => absurd z (by decide)) (Or.inr rfl) hd1 he f1 (f2.trans w0) f3
