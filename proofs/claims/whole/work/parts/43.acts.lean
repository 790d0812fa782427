/-! one act: the class on its copy, the reference on its own rows; they agree in range -/
def ag (N : Nat) (f g : Nat → Int32) : Prop := ∀ i, i < N → f i = g i
theorem ag_up {N : Nat} {f g : Nat → Int32} (h : ag N f g) (k : Nat) (x : Int32) : ag N (upd f k x) (upd g k x) := by
  intro i hi
  rw [up_if, up_if, h i hi]
theorem ag_rf {N : Nat} {f : Nat → Int32} : ag N f f := fun _ _ => rfl
theorem ag_tr {N : Nat} {f g h : Nat → Int32} (h1 : ag N f g) (h2 : ag N g h) : ag N f h := fun i hi => (h1 i hi).trans (h2 i hi)
theorem ag_sy {N : Nat} {f g : Nat → Int32} (h : ag N f g) : ag N g f := fun i hi => (h i hi).symm
theorem ag_at {N : Nat} {f g : Nat → Int32} (h : ag N f g) {i : Int32} (hi : inR i N) : f i.toNatClampNeg = g i.toNatClampNeg := h _ (ix_lt hi)
def GR (b n o s k h c : Nat → Int32) (m : Int32) (b' n' o' s' k' h' c' : Nat → Int32) (m' : Int32) : Prop := ag 40 b b' ∧ ag 40 n n' ∧ ag 40 o o' ∧ ag 6 s s' ∧ ag 6 k k' ∧ ag 6 h h' ∧ ag 6 c c' ∧ m = m'
theorem in_he {v : Int32} (h : inR v 6) : (0 : Int32) ≤ v ∧ v ≤ 5 := by
  have e0 : (0 : Int32).toInt = 0 := rfl
  have e5 : (5 : Int32).toInt = 5 := rfl
  unfold inR at h
  rw [i_le, i_le]; omega
theorem in_pl {v : Int32} (h : inR v 40) : (0 : Int32) ≤ v ∧ v ≤ 39 := by
  have e0 : (0 : Int32).toInt = 0 := rfl
  have e39 : (39 : Int32).toInt = 39 := rfl
  unfold inR at h
  rw [i_le, i_le]; omega
theorem n10 {ρ : Type} (x y : ρ) : (if (1 : Int32) = 0 then x else y) = y := if_neg (by decide)
/-- an heir who stands at a place -/
theorem st_1 {s : Nat → Int32} {v : Int32} (hv : inR v 6) (hin : inR (s v.toNatClampNeg) 40) : f_X0_isStanding s v = some 1 := by
  unfold f_X0_isStanding
  rw [jH, if_pos (in_he hv), n10, gu_ok hv, jP, if_pos (in_pl hin), n10]
theorem jN {ρ : Type} {n : Nat → Int32} {p : Int32} (h : inR p 40) (k : Int32 → Option ρ) : jn (f_X0_hasNick n p) k = if n p.toNatClampNeg = 1 then k 1 else k 0 := by
  unfold f_X0_hasNick
  rw [jP, if_pos (in_pl h), n10, gu_ok h]
  by_cases e : n p.toNatClampNeg = 1
  · rw [if_pos e, if_pos e]; rfl
  · rw [if_neg e, if_neg e]; rfl
def hasIt (c : Nat → Int32) (p : Int32) : Nat → Nat → Bool
  | _, 0 => false
  | k, d + 1 => decide (c k = p) || hasIt c p (k + 1) d
theorem hasIt_ag {c c' : Nat → Int32} (p : Int32) : ∀ d k, (∀ i, k ≤ i → i < k + d → c i = c' i) → hasIt c p k d = hasIt c' p k d
  | 0, _, _ => rfl
  | d + 1, k, h => by
    rw [hasIt, hasIt, h k (Nat.le_refl k) (by omega), hasIt_ag p d (k + 1) (fun i h1 h2 => h i (by omega) (by omega))]
theorem c_has (c : Nat → Int32) (p : Int32) : ∀ d k nn, k + d = 6 → d < nn → f_X0_isChosen_L2 p c nn (nI k) = some (if hasIt c p k d = true then .inr 1 else .inl (nI 6)) := by
  intro d
  induction d with
  | zero =>
    intro k nn hk hn
    obtain ⟨m, rfl⟩ : ∃ m, nn = m + 1 := ⟨nn - 1, by omega⟩
    obtain rfl : k = 6 := by omega
    rw [f_X0_isChosen_L2, if_pos (yle (n := 6) rfl (Nat.le_refl 6) (by decide))]
    rfl
  | succ d ih =>
    intro k nn hk hn
    obtain ⟨m, rfl⟩ : ∃ m, nn = m + 1 := ⟨nn - 1, by omega⟩
    rw [f_X0_isChosen_L2, if_neg (nle (n := 6) rfl (by omega)), gu_nI (by omega) (by decide), nI_clamp (by omega), nI_1, hasIt]
    by_cases h : c k = p
    · simp only [h, if_true, decide_true, Bool.true_or]
    · simp only [if_neg h, h, decide_false, Bool.false_or]
      exact ih (k + 1) m (by omega) (by omega)
theorem m_has (c : Nat → Int32) (p : Int32) : ∀ d k nn (y : Int32), (y = 0 ∨ y = 1) → k + d = 6 → d < nn → f_X9_isChosen_L4 p c nn y (nI k) = some (if y = 1 ∨ hasIt c p k d = true then 1 else 0, nI 6) := by
  intro d
  induction d with
  | zero =>
    intro k nn y hy hk hn
    obtain ⟨m, rfl⟩ : ∃ m, nn = m + 1 := ⟨nn - 1, by omega⟩
    obtain rfl : k = 6 := by omega
    rw [f_X9_isChosen_L4, if_pos (yle (n := 6) rfl (Nat.le_refl 6) (by decide))]
    rcases hy with rfl | rfl
    · rw [if_neg]; rintro (h | h)
      · exact absurd h (by decide)
      · cases h
    · rw [if_pos (Or.inl rfl)]
  | succ d ih =>
    intro k nn y hy hk hn
    obtain ⟨m, rfl⟩ : ∃ m, nn = m + 1 := ⟨nn - 1, by omega⟩
    rw [f_X9_isChosen_L4, if_neg (nle (n := 6) rfl (by omega)), gu_nI (by omega) (by decide), nI_clamp (by omega), nI_1, hasIt]
    rcases hy with rfl | rfl
    · rw [if_pos rfl]
      by_cases h : c k = p
      · rw [if_pos h, ih (k + 1) m 1 (Or.inr rfl) (by omega) (by omega)]
        simp [h]
      · rw [if_neg h, ih (k + 1) m 0 (Or.inl rfl) (by omega) (by omega)]
        simp [h]
    · rw [if_neg (by decide), ih (k + 1) m 1 (Or.inr rfl) (by omega) (by omega)]
      simp
def chB (c : Nat → Int32) (p : Int32) : Int32 := if hasIt c p 0 6 = true then 1 else 0
theorem c_isChosen (c : Nat → Int32) (p : Int32) : f_X0_isChosen c p = some (chB c p) := by
  unfold f_X0_isChosen chB
  have h := c_has c p 6 0 100 rfl (by decide)
  rw [nI_0] at h
  rw [h, jn_some]
  by_cases e : hasIt c p 0 6 = true
  · rw [if_pos e, if_pos e]; rfl
  · rw [if_neg e, if_neg e]; rfl
theorem m_isChosen (c : Nat → Int32) (p : Int32) : f_X9_isChosen c p = some (chB c p) := by
  unfold f_X9_isChosen chB
  have h := m_has c p 6 0 100 0 (Or.inl rfl) rfl (by decide)
  rw [nI_0] at h
  rw [h, jn_some]
  by_cases e : hasIt c p 0 6 = true
  · simp only [e, or_true, if_true, gz_1]
  · simp only [e, or_false]
    rw [if_neg (by decide), gz_0]
    rfl
theorem chB_ag {c c' : Nat → Int32} (h : ag 6 c c') (p : Int32) : chB c p = chB c' p := by
  unfold chB
  rw [hasIt_ag p 6 0 (fun i _ hi => h i (by omega))]
/-- a minute -/
def mvS (n c s : Nat → Int32) (k : Nat) : Int32 := if c k = -6 ∧ n (s k).toNatClampNeg = 1 ∧ (s k).toInt < 39 then s k + 1 else s k
theorem l_minute {n n' c c' : Nat → Int32} (hn : ag 40 n n') (hc : ag 6 c c') (wc : ∀ i, i < 6 → c' i = -6 ∨ bd (c' i) 0 39) : ∀ d k nn mm (s s' : Nat → Int32), k + d = 6 → d < nn → d < mm → ag 6 s s' → (∀ i, i < 6 → bd (s' i) 0 39) → ∃ s2 s2', f_X0_letMinutePass_L12 n c nn (nI k) s = some (nI 6, s2) ∧ f_X9_passMinute_L2 n' c' mm (nI k) s' = some (nI 6, s2') ∧ ag 6 s2 s2' ∧ ∀ i, i < 6 → bd (s2' i) 0 39 := by
  intro d
  induction d with
  | zero =>
    intro k nn mm s s' hk h1 h2 hs ws
    obtain ⟨q, rfl⟩ : ∃ q, nn = q + 1 := ⟨nn - 1, by omega⟩
    obtain ⟨q', rfl⟩ : ∃ q, mm = q + 1 := ⟨mm - 1, by omega⟩
    obtain rfl : k = 6 := by omega
    refine ⟨s, s', ?_, ?_, hs, ws⟩
    · rw [f_X0_letMinutePass_L12, if_pos (yle (n := 6) rfl (Nat.le_refl 6) (by decide))]
    · rw [f_X9_passMinute_L2, if_pos (yle (n := 6) rfl (Nat.le_refl 6) (by decide))]
  | succ d ih =>
    intro k nn mm s s' hk h1 h2 hs ws
    obtain ⟨q, rfl⟩ : ∃ q, nn = q + 1 := ⟨nn - 1, by omega⟩
    obtain ⟨q', rfl⟩ : ∃ q, mm = q + 1 := ⟨mm - 1, by omega⟩
    have hk6 : k < 6 := by omega
    have hsk : s k = s' k := hs k hk6
    have hck : c k = c' k := hc k hk6
    have hin : inR (s' k) 40 := by have := ws k hk6; unfold bd at this; unfold inR; omega
    have hnk : n (s' k).toNatClampNeg = n' (s' k).toNatClampNeg := ag_at hn hin
    rw [f_X0_letMinutePass_L12, f_X9_passMinute_L2]
    rw [if_neg (nle (n := 6) rfl hk6), if_neg (nle (n := 6) rfl hk6)]
    simp only [gu_nI hk6 (by decide : (6 : Nat) < 2 ^ 31), nI_clamp (by omega : k < 2 ^ 31), nI_1, bi_eq, jP, hsk, hck, jN hin, gu_ok hin, hnk, i10, i00, if_true, if_false]
    have stay : ∃ s2 s2', f_X0_letMinutePass_L12 n c q (nI (k + 1)) s = some (nI 6, s2) ∧ f_X9_passMinute_L2 n' c' q' (nI (k + 1)) (upd s' k (s' k + 0)) = some (nI 6, s2') ∧ ag 6 s2 s2' ∧ ∀ i, i < 6 → bd (s2' i) 0 39 := by
      rw [Int32.add_zero, fa_upd_same rfl]
      exact ih (k + 1) q q' s s' (by omega) (by omega) (by omega) hs ws
    rcases wc k hk6 with e | e
    · have d2 : ((0 : Int32) ≤ -6) = False := by decide
      simp only [e, d2, if_true, if_false]
      by_cases e2 : n' (s' k).toNatClampNeg = 1
      · simp only [e2, if_true]
        have hb := ws k hk6
        unfold bd at hb
        have e1 : (1 : Int32).toInt = 1 := rfl
        have e39 : (39 : Int32).toInt = 39 := rfl
        have e0 : (0 : Int32).toInt = 0 := rfl
        have hadd : (s' k + 1).toInt = (s' k).toInt + 1 := by
          rw [fb_addI (by omega) (by omega), e1]
        by_cases e3 : (39 : Int32) ≤ s' k
        · have h3 : ¬ ((0 : Int32) ≤ s' k + 1 ∧ s' k + 1 ≤ 39) := by
            rw [i_le, i_le, hadd]; rw [i_le] at e3; omega
          simp only [if_pos e3, if_neg h3, jn_some, if_true]
          exact stay
        · have h3 : (0 : Int32) ≤ s' k + 1 ∧ s' k + 1 ≤ 39 := by
            rw [i_le, i_le, hadd]; rw [i_le] at e3; omega
          simp only [if_neg e3, if_pos h3, jn_some, i10, if_false]
          refine ih (k + 1) q q' (upd s k (s' k + 1)) (upd s' k (s' k + 1)) (by omega) (by omega) (by omega) (ag_up hs k _) (all_up (P := fun x => bd x 0 39) ws ?_)
          have := bd_of (a := 0) (b := 39) h3 rfl rfl
          exact this
      · simp only [if_neg e2, jn_some, if_true]
        exact stay
    · have h1 : (0 : Int32) ≤ c' k := (bd_to (lo := 0) (hi := 39) e rfl rfl).1
      have h2 : ¬ c' k = -6 := fun q => by rw [q] at h1; exact absurd h1 (by decide)
      simp only [if_pos h1, if_neg h2, jn_some, if_true]
      exact stay
theorem p_minute {n n' c c' s s' : Nat → Int32} (m : Int32) (hn : ag 40 n n') (hc : ag 6 c c') (hs : ag 6 s s') (wc : ∀ i, i < 6 → c' i = -6 ∨ bd (c' i) 0 39) (ws : ∀ i, i < 6 → bd (s' i) 0 39) : ∃ s2 s2', f_X0_letMinutePass n s c m = some (s2, m + 1) ∧ f_X9_passMinute n' s' c' m = some (s2', m + 1) ∧ ag 6 s2 s2' ∧ ∀ i, i < 6 → bd (s2' i) 0 39 := by
  obtain ⟨s2, s2', h1, h2, h3, h4⟩ := l_minute hn hc wc 6 0 100 100 s s' rfl (by decide) (by decide) hs ws
  rw [nI_0] at h1 h2
  refine ⟨s2, s2', ?_, ?_, h3, h4⟩
  · unfold f_X0_letMinutePass; rw [h1]; rfl
  · unfold f_X9_passMinute; rw [h2]; rfl
