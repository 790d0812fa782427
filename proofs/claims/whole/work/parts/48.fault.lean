/-- the reference's rows behind some signs that all can stand -/
def PATH (p : Nat → Int32) : Nat → Nat → Int32 → (Nat → Int32) → (Nat → Int32) → (Nat → Int32) → Nat → Int32 → (Nat → Int32) → (Nat → Int32) → (Nat → Int32) → Nat → Prop
  | 0, _, due, act, who, much, e, due', FA, FW, FM, FE => due = due' ∧ act = FA ∧ who = FW ∧ much = FM ∧ e = FE
  | d + 1, i, due, act, who, much, e, due', FA, FW, FM, FE => ∃ due1 act1 who1 much1 e1, RS due (p i) due1 act who much e act1 who1 much1 e1 ∧ PATH p d (i + 1) due1 act1 who1 much1 e1 due' FA FW FM FE
theorem RS_e {due c due' : Int32} {act who much act' who' much' : Nat → Int32} {e e' : Nat} (h : RS due c due' act who much e act' who' much' e') : e ≤ e' ∧ e' ≤ e + 1 := by
  rcases h with ⟨-, -, -, -, -, -, r⟩ | ⟨-, -, -, -, -, -, r⟩ | ⟨-, -, -, -, -, r⟩ | ⟨-, -, -, -, -, r⟩ | ⟨-, -, -, -, -, -, r⟩ | ⟨-, -, -, -, -, -, r⟩ <;> omega
theorem RS_keep {due c due' : Int32} {act who much act' who' much' : Nat → Int32} {e e' : Nat} (h : RS due c due' act who much e act' who' much' e') : ∀ j, j < e → act' j = act j ∧ who' j = who j ∧ much' j = much j := by
  intro j hj
  have q : ∀ (f : Nat → Int32) x, upd f e x j = f j := fun f x => up_n (by omega)
  rcases h with ⟨-, -, -, rfl, rfl, rfl, -⟩ | ⟨-, -, -, rfl, rfl, rfl, -⟩ | ⟨-, ⟨km, -, rfl⟩, -, rfl, rfl, -⟩ | ⟨-, -, rfl, rfl, rfl, -⟩ | ⟨-, -, -, rfl, rfl, rfl, -⟩ | ⟨-, -, -, rfl, rfl, rfl, -⟩ <;> simp only [q, and_self]
theorem PATH_keep {p : Nat → Int32} {due' : Int32} {FA FW FM : Nat → Int32} {FE : Nat} : ∀ d i due act who much e, PATH p d i due act who much e due' FA FW FM FE → e ≤ FE ∧ ∀ j, j < e → FA j = act j ∧ FW j = who j ∧ FM j = much j := by
  intro d
  induction d with
  | zero =>
    intro i due act who much e h
    obtain ⟨rfl, rfl, rfl, rfl, rfl⟩ := h
    exact ⟨Nat.le_refl _, fun j _ => ⟨rfl, rfl, rfl⟩⟩
  | succ d ih =>
    intro i due act who much e h
    obtain ⟨due1, act1, who1, much1, e1, hr, hp⟩ := h
    obtain ⟨h1, h2⟩ := ih _ _ _ _ _ _ hp
    have h3 := RS_e hr
    have h4 := RS_keep hr
    refine ⟨by omega, fun j hj => ?_⟩
    obtain ⟨a1, a2, a3⟩ := h2 j (by omega)
    obtain ⟨b1, b2, b3⟩ := h4 j hj
    exact ⟨a1.trans b1, a2.trans b2, a3.trans b3⟩
theorem l_fault (p : Nat → Int32) {n : Nat} (hn : n ≤ 60) : ∀ d i nn mm aw due (act who much : Nat → Int32) e, i + d = n → d < nn → d < mm → rel aw due → e ≤ i → ∃ FA FW FM FE, (∃ j, j < 60 ∧ f_X2_flaw_L4 p (nI n) nn aw (nI i) = some (.inr (nI j)) ∧ f_X9_fault_L9 p (nI n) mm due (nI i) act who much (nI e) = some (.inr (nI j, FA, FW, FM, nI FE))) ∨ (∃ aw' due', f_X2_flaw_L4 p (nI n) nn aw (nI i) = some (.inl (aw', nI n)) ∧ f_X9_fault_L9 p (nI n) mm due (nI i) act who much (nI e) = some (.inl (due', nI n, FA, FW, FM, nI FE)) ∧ rel aw' due' ∧ FE ≤ n ∧ PATH p d i due act who much e due' FA FW FM FE) := by
  intro d
  induction d with
  | zero =>
    intro i nn mm aw due act who much e hi h1 h2 hr he
    obtain ⟨a, rfl⟩ : ∃ a, nn = a + 1 := ⟨nn - 1, by omega⟩
    obtain ⟨a', rfl⟩ : ∃ a, mm = a + 1 := ⟨mm - 1, by omega⟩
    obtain rfl : i = n := by omega
    have hle : nI i ≤ nI i := by rw [i_le]; exact Int.le_refl _
    refine ⟨act, who, much, e, Or.inr ⟨aw, due, ?_, ?_, hr, he, rfl, rfl, rfl, rfl, rfl⟩⟩
    · rw [f_X2_flaw_L4, if_pos hle]
    · rw [f_X9_fault_L9, if_pos hle]
  | succ d ih =>
    intro i nn mm aw due act who much e hi h1 h2 hr he
    obtain ⟨a, rfl⟩ : ∃ a, nn = a + 1 := ⟨nn - 1, by omega⟩
    obtain ⟨a', rfl⟩ : ∃ a, mm = a + 1 := ⟨mm - 1, by omega⟩
    have hni : ¬ nI n ≤ nI i := nI_ge (by omega) (by omega)
    have hcl : (nI i).toNatClampNeg = i := nI_clamp (by omega)
    have h60 : ¬ (60 : Int32) ≤ nI i := nle (n := 60) rfl (by omega)
    rw [f_X2_flaw_L4, f_X9_fault_L9, if_neg hni, if_neg hni, if_neg h60, gu_nI (by omega) (by decide), gu_nI (by omega) (by decide), hcl]
    obtain ⟨act1, who1, much1, e1, ⟨q1, q2⟩ | ⟨aw1, due1, q1, q2, q3, q4, q5, q6⟩⟩ := r_read hr (p i) act who much (e := e) (by omega)
    · refine ⟨act1, who1, much1, e1, Or.inl ⟨i, by omega, ?_, ?_⟩⟩
      · rw [q1, jn_some, if_pos rfl]
      · rw [q2, jn_some]; rfl
    · rw [q1, q4, jn_some, jn_some, if_neg q2]
      dsimp only
      rw [if_pos q3, nI_1]
      have h3 := RS_e q6
      obtain ⟨FA, FW, FM, FE, ⟨j, hj, r1, r2⟩ | ⟨aw', due', r1, r2, r3, r4, r5⟩⟩ := ih (i + 1) a a' aw1 due1 act1 who1 much1 e1 (by omega) (by omega) (by omega) q5 (by omega)
      · exact ⟨FA, FW, FM, FE, Or.inl ⟨j, hj, r1, r2⟩⟩
      · exact ⟨FA, FW, FM, FE, Or.inr ⟨aw', due', r1, r2, r3, r4, due1, act1, who1, much1, e1, q6, r5⟩⟩
theorem p_fault (p : Nat → Int32) {n : Nat} (hn : n ≤ 60) (act who much : Nat → Int32) : ∃ FA FW FM FE, (∃ j, j ≤ 60 ∧ f_X2_flaw p (nI n) = some (nI j) ∧ f_X9_fault p (nI n) act who much = some (nI j, FA, FW, FM, nI FE)) ∨ (f_X2_flaw p (nI n) = some (-6) ∧ f_X9_fault p (nI n) act who much = some (-6, FA, FW, FM, nI FE) ∧ FE ≤ n ∧ PATH p n 0 0 act who much 0 0 FA FW FM FE) := by
  unfold f_X2_flaw f_X9_fault
  obtain ⟨FA, FW, FM, FE, ⟨j, hj, r1, r2⟩ | ⟨aw', due', r1, r2, r3, r4, r5⟩⟩ := l_fault p hn n 0 100 100 0 0 act who much 0 (by omega) (by omega) (by omega) (Or.inl ⟨rfl, rfl⟩) (by omega)
  · rw [nI_0] at r1 r2
    refine ⟨FA, FW, FM, FE, Or.inl ⟨j, by omega, ?_, ?_⟩⟩
    · rw [r1]; rfl
    · rw [r2]; rfl
  · rw [nI_0] at r1 r2
    rw [r1, r2]
    show ∃ FA FW FM FE, (∃ j, j ≤ 60 ∧ (if aw' = 0 then some (-6) else some (nI n)) = some (nI j) ∧ (if due' = 0 then _ else _) = _) ∨ ((if aw' = 0 then some (-6) else some (nI n)) = _ ∧ (if due' = 0 then _ else _) = _ ∧ _)
    rcases r3 with ⟨rfl, rfl⟩ | ⟨rfl, rfl⟩ | ⟨rfl, hd⟩
    · exact ⟨FA, FW, FM, FE, Or.inr ⟨rfl, rfl, r4, r5⟩⟩
    · exact ⟨FA, FW, FM, FE, Or.inl ⟨n, by omega, rfl, rfl⟩⟩
    · rcases hd with rfl | rfl <;> exact ⟨FA, FW, FM, FE, Or.inl ⟨n, by omega, rfl, rfl⟩⟩
