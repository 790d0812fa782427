/-! the beginning -/
def iniOk : Bool := match f_X0_init, f_X9_init with
  | some r, some q => (List.range 40).all (fun i => decide (q.1 i = r.1 i ∧ 1 ≤ (r.1 i).toInt ∧ (r.1 i).toInt ≤ 9 ∧ q.2.1 i = r.2.1 i ∧ r.2.1 i = -6)) && (List.range 6).all (fun i => decide (q.2.2.1 i = r.2.2.1 i ∧ 1 ≤ (r.2.2.1 i).toInt ∧ (r.2.2.1 i).toInt ≤ 9 ∧ q.2.2.2 i = r.2.2.2 i ∧ r.2.2.2 i = -6))
  | _, _ => false
theorem k_ini : iniOk = true := by decide +kernel
theorem s_init : ∃ b o k c b' o' k' c', f_X0_init = some (b, o, k, c) ∧ f_X9_init = some (b', o', k', c') ∧ ag 40 b' b ∧ ag 40 o' o ∧ ag 6 k' k ∧ ag 6 c' c ∧ WG b (fun _ => 0) o (fun _ => 0) k (fun _ => 0) c 0 := by
  have h := k_ini
  unfold iniOk at h
  revert h
  cases f_X0_init with
  | none => intro h; exact absurd h (by decide)
  | some r =>
    cases f_X9_init with
    | none => intro h; exact absurd (show false = true from h) (by decide)
    | some q =>
      intro h
      obtain ⟨b, o, k, c⟩ := r
      obtain ⟨b', o', k', c'⟩ := q
      simp only [Bool.and_eq_true, List.all_eq_true, List.mem_range, decide_eq_true_eq] at h
      obtain ⟨h1, h2⟩ := h
      have z : bd 0 0 39 := by unfold bd; decide
      have z9 : bd 0 0 99 := by unfold bd; decide
      have z6 : bd 0 0 60 := by unfold bd; decide
      exact ⟨b, o, k, c, b', o', k', c', rfl, rfl, fun i hi => (h1 i hi).1, fun i hi => (h1 i hi).2.2.2.1, fun i hi => (h2 i hi).1, fun i hi => (h2 i hi).2.2.2.1, fun i hi => ⟨(h1 i hi).2.1, (h1 i hi).2.2.1⟩, fun _ _ => Or.inl rfl, fun i hi => Or.inl (h1 i hi).2.2.2.2, fun _ _ => z, fun i hi => ⟨(h2 i hi).2.1, (h2 i hi).2.2.1⟩, fun _ _ => z9, fun i hi => Or.inl (h2 i hi).2.2.2.2, z6⟩
