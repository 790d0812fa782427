/-! a text: the class's and the reference's readers -/
def rel (aw due : Int32) : Prop := (aw = 0 ∧ due = 0) ∨ (aw = 1 ∧ due = 1) ∨ (aw = 2 ∧ (due = 2 ∨ due = 3))
def PD (c km : Int32) : Prop := (c = 33 ∧ km = 6) ∨ (c = 42 ∧ km = 3) ∨ (c = 63 ∧ km = 2) ∨ (c = 126 ∧ km = 5)
/-- what a sign that can stand does to the reference's rows -/
def RS (due c due' : Int32) (act who much : Nat → Int32) (e : Nat) (act' who' much' : Nat → Int32) (e' : Nat) : Prop :=
  (due = 0 ∧ (65 ≤ c ∧ c ≤ 70) ∧ due' = 1 ∧ act' = act ∧ who' = upd who e (c - 65) ∧ much' = upd much e 0 ∧ e' = e) ∨
  (due = 0 ∧ c = 46 ∧ due' = 0 ∧ act' = upd act e 7 ∧ who' = upd who e 0 ∧ much' = upd much e 0 ∧ e' = e + 1) ∨
  (due = 1 ∧ (∃ km, PD c km ∧ act' = upd act e km) ∧ due' = 0 ∧ who' = who ∧ much' = much ∧ e' = e + 1) ∨
  (due = 1 ∧ ((c = 60 ∧ due' = 3) ∨ (c = 62 ∧ due' = 2)) ∧ act' = act ∧ who' = who ∧ much' = much ∧ e' = e) ∨
  (due = 1 ∧ (49 ≤ c ∧ c ≤ 57) ∧ due' = 0 ∧ act' = upd act e 4 ∧ who' = who ∧ much' = upd much e (c - 48) ∧ e' = e + 1) ∨
  ((due = 2 ∨ due = 3) ∧ (49 ≤ c ∧ c ≤ 57) ∧ due' = 0 ∧ act' = upd act e (if due = 2 then 0 else 1) ∧ who' = who ∧ much' = upd much e (c - 48) ∧ e' = e + 1)
theorem jLt {ρ : Type} (v : Int32) (k : Int32 → Option ρ) : jn (f_X2_isLetter v) k = if 65 ≤ v ∧ v ≤ 70 then k 1 else k 0 := by
  unfold f_X2_isLetter
  rw [jW]
  by_cases h : (65 : Int32) ≤ v ∧ v ≤ 70
  · simp only [if_pos h, gz_1, jn_some]
  · simp only [if_neg h, gz_0, jn_some]
theorem jDg {ρ : Type} (v : Int32) (k : Int32 → Option ρ) : jn (f_X2_isDigit v) k = if 49 ≤ v ∧ v ≤ 57 then k 1 else k 0 := by
  unfold f_X2_isDigit
  rw [jW]
  by_cases h : (49 : Int32) ≤ v ∧ v ≤ 57
  · simp only [if_pos h, gz_1, jn_some]
  · simp only [if_neg h, gz_0, jn_some]
theorem r_read {aw due : Int32} (h : rel aw due) (c : Int32) (act who much : Nat → Int32) {e : Nat} (he : e < 60) : ∃ act' who' much' e', (f_X2_awaitedBehind aw c = some (-1) ∧ f_X9_readOn act who much (nI e) due c = some (-6, act', who', much', nI e')) ∨ (∃ aw' due', f_X2_awaitedBehind aw c = some aw' ∧ ¬ aw' = -1 ∧ 0 ≤ due' ∧ f_X9_readOn act who much (nI e) due c = some (due', act', who', much', nI e') ∧ rel aw' due' ∧ RS due c due' act who much e act' who' much' e') := by
  have hg : ∀ {ρ : Type} (o : Option ρ), gu (nI e) 60 o = o := fun o => gu_nI he (by decide) o
  have hcl : (nI e).toNatClampNeg = e := nI_clamp (by omega)
  unfold f_X2_awaitedBehind f_X9_readOn
  rcases h with ⟨rfl, rfl⟩ | ⟨rfl, rfl⟩ | ⟨rfl, hd⟩
  · -- an act begins
    rw [if_pos rfl, if_pos rfl]
    unfold f_X9_begin f_X9_close
    simp only [in_lt, jW, jLt, hg, hcl, nI_1, jn_some, i10, i00, if_true, if_false]
    by_cases h1 : c = 46
    · subst h1
      refine ⟨_, _, _, e + 1, Or.inr ⟨0, 0, ?_, by decide, by decide, ?_, Or.inl ⟨rfl, rfl⟩, Or.inr (Or.inl ⟨rfl, rfl, rfl, rfl, rfl, rfl, rfl⟩)⟩⟩
      · rw [if_pos rfl]
      · rw [if_neg (by decide), if_pos rfl]; rfl
    · by_cases h2 : (65 : Int32) ≤ c ∧ c ≤ 70
      · refine ⟨_, _, _, e, Or.inr ⟨1, 1, ?_, by decide, by decide, ?_, Or.inr (Or.inl ⟨rfl, rfl⟩), Or.inl ⟨rfl, h2, rfl, rfl, rfl, rfl, rfl⟩⟩⟩
        · rw [if_neg h1, if_pos h2]
        · rw [if_pos h2]; rfl
      · refine ⟨act, upd who e 0, upd much e 0, e, Or.inl ⟨?_, ?_⟩⟩
        · rw [if_neg h1, if_neg h2]
        · rw [if_neg h2, if_neg h1]; rfl
  · -- a deed
    rw [if_neg (by decide), if_neg (by decide), if_pos rfl]
    unfold f_X9_deed f_X9_count f_X9_close f_X2_isWay f_X2_isPlainDeed
    simp only [in_dg, jW, jDg, hg, hcl, nI_1, jn_some, i10, i00, if_true, if_false]
    by_cases h33 : c = 33
    · subst h33
      exact ⟨_, _, _, e + 1, Or.inr ⟨0, 0, rfl, by decide, by decide, rfl, Or.inl ⟨rfl, rfl⟩, Or.inr (Or.inr (Or.inl ⟨rfl, ⟨6, Or.inl ⟨rfl, rfl⟩, rfl⟩, rfl, rfl, rfl, rfl⟩))⟩⟩
    by_cases h42 : c = 42
    · subst h42
      exact ⟨_, _, _, e + 1, Or.inr ⟨0, 0, rfl, by decide, by decide, rfl, Or.inl ⟨rfl, rfl⟩, Or.inr (Or.inr (Or.inl ⟨rfl, ⟨3, Or.inr (Or.inl ⟨rfl, rfl⟩), rfl⟩, rfl, rfl, rfl, rfl⟩))⟩⟩
    by_cases h60 : c = 60
    · subst h60
      exact ⟨_, _, _, e, Or.inr ⟨2, 3, rfl, by decide, by decide, rfl, Or.inr (Or.inr ⟨rfl, Or.inr rfl⟩), Or.inr (Or.inr (Or.inr (Or.inl ⟨rfl, Or.inl ⟨rfl, rfl⟩, rfl, rfl, rfl, rfl⟩)))⟩⟩
    by_cases h62 : c = 62
    · subst h62
      exact ⟨_, _, _, e, Or.inr ⟨2, 2, rfl, by decide, by decide, rfl, Or.inr (Or.inr ⟨rfl, Or.inl rfl⟩), Or.inr (Or.inr (Or.inr (Or.inl ⟨rfl, Or.inr ⟨rfl, rfl⟩, rfl, rfl, rfl, rfl⟩)))⟩⟩
    by_cases h63 : c = 63
    · subst h63
      exact ⟨_, _, _, e + 1, Or.inr ⟨0, 0, rfl, by decide, by decide, rfl, Or.inl ⟨rfl, rfl⟩, Or.inr (Or.inr (Or.inl ⟨rfl, ⟨2, Or.inr (Or.inr (Or.inl ⟨rfl, rfl⟩)), rfl⟩, rfl, rfl, rfl, rfl⟩))⟩⟩
    by_cases h126 : c = 126
    · subst h126
      exact ⟨_, _, _, e + 1, Or.inr ⟨0, 0, rfl, by decide, by decide, rfl, Or.inl ⟨rfl, rfl⟩, Or.inr (Or.inr (Or.inl ⟨rfl, ⟨5, Or.inr (Or.inr (Or.inr ⟨rfl, rfl⟩)), rfl⟩, rfl, rfl, rfl, rfl⟩))⟩⟩
    simp only [if_neg h33, if_neg h42, if_neg h60, if_neg h62, if_neg h63, if_neg h126, jn_some, if_true]
    by_cases hd : (49 : Int32) ≤ c ∧ c ≤ 57
    · simp only [if_pos hd, jn_some]
      exact ⟨_, _, _, e + 1, Or.inr ⟨0, 0, rfl, by decide, by decide, rfl, Or.inl ⟨rfl, rfl⟩, Or.inr (Or.inr (Or.inr (Or.inr (Or.inl ⟨rfl, hd, rfl, rfl, rfl, rfl, rfl⟩))))⟩⟩
    · simp only [if_neg hd, jn_some]
      exact ⟨_, _, _, e, Or.inl ⟨by first | rfl | trivial, rfl⟩⟩
  · -- how far
    have n0 : ¬ due = 0 := by rcases hd with rfl | rfl <;> decide
    have n1 : ¬ due = 1 := by rcases hd with rfl | rfl <;> decide
    rw [if_neg (by decide), if_neg n0, if_neg n1]
    unfold f_X9_count f_X9_close
    simp only [in_dg, jW, jDg, hg, hcl, nI_1, jn_some, i10, i00, if_true, if_false]
    have ek : (if due = 2 then some (0 : Int32) else some 1) = some (if due = 2 then 0 else 1) := by
      rcases hd with rfl | rfl <;> rfl
    rw [ek, jn_some]
    by_cases hg2 : (49 : Int32) ≤ c ∧ c ≤ 57
    · simp only [if_pos hg2, jn_some]
      exact ⟨_, _, _, e + 1, Or.inr ⟨0, 0, rfl, by decide, by decide, rfl, Or.inl ⟨rfl, rfl⟩, Or.inr (Or.inr (Or.inr (Or.inr (Or.inr ⟨hd, hg2, rfl, rfl, rfl, rfl, rfl⟩))))⟩⟩
    · simp only [if_neg hg2, jn_some]
      exact ⟨_, _, _, e, Or.inl ⟨by first | rfl | trivial, rfl⟩⟩
