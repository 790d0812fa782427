/-! THE PURE STATEMENT: one step of the script after another -/
theorem gu_go {ρ : Type} {i : Int32} {N : Nat} {o : Option ρ} {r : ρ} (h : inR i N) (k : o = some r) : gu i N o = some r := (gu_ok h o).trans k
theorem jn_go {α ρ : Type} {o : Option α} {f : α → Option ρ} {a : α} {r : ρ} (h : o = some a) (k : f a = some r) : jn o f = some r := by
  rw [h]
  exact k
theorem if_go {ρ : Type} {c : Prop} [Decidable c] {a b : Option ρ} {r : ρ} (h : c) (k : a = some r) : (if c then a else b) = some r := (if_pos h).trans k
theorem if_two {ρ : Type} {c : Prop} [Decidable c] {a b : Option ρ} {r : ρ} (h1 : a = some r) (h2 : b = some r) : (if c then a else b) = some r := by
  by_cases h : c
  · rw [if_pos h]; exact h1
  · rw [if_neg h]; exact h2
theorem zz_of (v : Int32) : ∃ z : Int32, (if v = 0 then some (0 : Int32) else some 1) = some z ∧ (z = 0 ∨ z = 1) := by
  by_cases h : v = 0
  · exact ⟨0, if_pos h, Or.inl rfl⟩
  · exact ⟨1, if_neg h, Or.inr rfl⟩
theorem bd00 : bd 0 0 60 := by unfold bd; decide
theorem ws_0 {b s i : Nat → Int32} {c : Int32} (h : WS b s i c) : WS b s i 0 := ⟨h.1, h.2.1, h.2.2.1, by unfold bd; decide⟩
theorem y_in {k Ls j : Nat} (h : 5 * k + j < Ls) (hL : Ls ≤ 2560) : inR (nI (5 * k) + nI j) Ls := by
  rw [nI_add]
  exact inR_nI h (by omega)
set_option maxHeartbeats 4000000 in
set_option maxRecDepth 100000 in
theorem law_loop (xs : Nat → Int32) (Ls : Nat) (hL : Ls ≤ 2560) : ∀ (nn k : Nat) (y3 : Int32), k + nn = 600 → k ≤ 512 → y3 = nI (5 * k) → ∀ {N_b : Nat → Int32} {N_n : Nat → Int32} {N_o : Nat → Int32} {N_s : Nat → Int32} {N_k : Nat → Int32} {N_h : Nat → Int32} {N_c : Nat → Int32} {N_m : Int32} {S_b : Nat → Int32} {S_s : Nat → Int32} {S_i : Nat → Int32} {S_f : Nat → Int32} {S_c : Int32} {S_q : Int32} {S_l : Int32} {P_s : Nat → Int32} {P_n : Int32} {T_ac : Int32} {T_ba : Int32} {T_bw : Int32} {T_he : Int32} {T_wa : Int32} {T_wh : Int32} {gal_b : Nat → Int32} {gal_n : Nat → Int32} {gal_o : Nat → Int32} {gal_s : Nat → Int32} {gal_k : Nat → Int32} {gal_h : Nat → Int32} {gal_c : Nat → Int32} {gal_m : Int32} {R_l : Nat → Int32} {R_m : Int32} {R_f : Int32} {I_kp : Nat → Int32} {i0_b : Nat → Int32} {i0_n : Nat → Int32} {i0_o : Nat → Int32} {i0_s : Nat → Int32} {i0_k : Nat → Int32} {i0_h : Nat → Int32} {i0_c : Nat → Int32} {i0_m : Int32} {k0_b : Nat → Int32} {k0_s : Nat → Int32} {k0_i : Nat → Int32} {k0_c : Int32} {i1_b : Nat → Int32} {i1_n : Nat → Int32} {i1_o : Nat → Int32} {i1_s : Nat → Int32} {i1_k : Nat → Int32} {i1_h : Nat → Int32} {i1_c : Nat → Int32} {i1_m : Int32} {k1_b : Nat → Int32} {k1_s : Nat → Int32} {k1_i : Nat → Int32} {k1_c : Int32} {m_act : Nat → Int32} {m_who : Nat → Int32} {m_much : Nat → Int32} {m_acts : Int32} {m_heardMany : Int32} {m_wrongNow : Int32} {m_had : Nat → Int32} {m_badAct : Int32} {m_badWhy : Int32} {m_wrongAct : Int32} {m_wrongHeir : Int32} {m_odd : Nat → Int32} {m_span : Nat → Int32} {m_rise : Nat → Int32} {m_wins : Nat → Int32} {m_stored : Nat → Int32} {m_isStored : Nat → Int32} {m_storedAt : Int32} {m_isWriting : Int32}, WG N_b N_n N_o N_s N_k N_h N_c N_m → WS S_b S_s S_i S_c → bd P_n 0 60 → IM I_kp i0_b i0_n i0_o i0_s i0_k i0_h i0_c i0_m k0_b k0_s k0_i k0_c i1_b i1_n i1_o i1_s i1_k i1_h i1_c i1_m k1_b k1_s k1_i k1_c m_stored m_isStored → f_L_law_L18 xs Ls nn y3 N_b N_n N_o N_s N_k N_h N_c N_m S_b S_s S_i S_f S_c S_q S_l P_s P_n T_ac T_ba T_bw T_he T_wa T_wh gal_b gal_n gal_o gal_s gal_k gal_h gal_c gal_m R_l R_m R_f I_kp i0_b i0_n i0_o i0_s i0_k i0_h i0_c i0_m k0_b k0_s k0_i k0_c i1_b i1_n i1_o i1_s i1_k i1_h i1_c i1_m k1_b k1_s k1_i k1_c m_act m_who m_much m_acts m_heardMany m_wrongNow m_had m_badAct m_badWhy m_wrongAct m_wrongHeir m_odd m_span m_rise m_wins m_stored m_isStored m_storedAt m_isWriting = some 1 := by
  intro nn
  induction nn with
  | zero => intro k y3 h1 h2; exact absurd h1 (by omega)
  | succ nn ih =>
    intro k y3 h1 h2 hy N_b N_n N_o N_s N_k N_h N_c N_m S_b S_s S_i S_f S_c S_q S_l P_s P_n T_ac T_ba T_bw T_he T_wa T_wh gal_b gal_n gal_o gal_s gal_k gal_h gal_c gal_m R_l R_m R_f I_kp i0_b i0_n i0_o i0_s i0_k i0_h i0_c i0_m k0_b k0_s k0_i k0_c i1_b i1_n i1_o i1_s i1_k i1_h i1_c i1_m k1_b k1_s k1_i k1_c m_act m_who m_much m_acts m_heardMany m_wrongNow m_had m_badAct m_badWhy m_wrongAct m_wrongHeir m_odd m_span m_rise m_wins m_stored m_isStored m_storedAt m_isWriting wg ws wp im
    unfold f_L_law_L18
    by_cases hc : (Int32.ofNat Ls) - 5 < y3
    · rw [if_pos hc]
    · refine (if_neg hc).trans ?_
      have hk : 5 * k + 5 ≤ Ls := by
        rw [hy, i_lt, nI_toInt (by omega)] at hc
        have e1 : (Int32.ofNat Ls).toInt = Ls := nI_toInt (by omega)
        have e2 : (5 : Int32).toInt = 5 := rfl
        rw [fb_subI (by omega) (by omega), e1, e2] at hc
        omega
      have g0 : inR y3 Ls := by rw [hy]; exact inR_nI (by omega) (by omega)
      have g1 : inR (y3 + 1) Ls := by rw [hy]; exact y_in (j := 1) (by omega) hL
      have g2 : inR (y3 + 2) Ls := by rw [hy]; exact y_in (j := 2) (by omega) hL
      have g3 : inR (y3 + 3) Ls := by rw [hy]; exact y_in (j := 3) (by omega) hL
      have g4 : inR (y3 + 4) Ls := by rw [hy]; exact y_in (j := 4) (by omega) hL
      have e5 : y3 + 5 = nI (5 * (k + 1)) := by rw [hy]; exact nI_add (5 * k) 5
      clear hc
      refine gu_go g0 ?_
      refine if_two ?_ ?_
      · obtain ⟨r, e1, e2, w⟩ := s_cradle wg (xs (y3 + 1).toNatClampNeg) (xs (y3 + 2).toNatClampNeg) (xs (y3 + 3).toNatClampNeg) (xs (y3 + 4).toNatClampNeg)
        refine gu_go g1 ?_
        refine gu_go g2 ?_
        refine gu_go g3 ?_
        refine gu_go g4 ?_
        refine jn_go e1 ?_
        refine gu_go g1 ?_
        refine gu_go g2 ?_
        refine gu_go g3 ?_
        refine gu_go g4 ?_
        refine jn_go e2 ?_
        refine if_go (rfl) ?_
        refine if_go (eqn_of (fun _ _ => rfl)) ?_
        refine if_go (eqn_of (fun _ _ => rfl)) ?_
        refine if_go (eqn_of (fun _ _ => rfl)) ?_
        exact ih (k + 1) _ (by omega) (by omega) e5 w ws wp im
      refine if_two ?_ ?_
      · obtain ⟨r, e1, e2, w⟩ := s_heir wg (xs (y3 + 1).toNatClampNeg) (xs (y3 + 2).toNatClampNeg) (xs (y3 + 3).toNatClampNeg)
        refine gu_go g1 ?_
        refine gu_go g2 ?_
        refine gu_go g3 ?_
        refine jn_go e1 ?_
        refine gu_go g1 ?_
        refine gu_go g2 ?_
        refine gu_go g3 ?_
        refine jn_go e2 ?_
        refine if_go (rfl) ?_
        refine if_go (eqn_of (fun _ _ => rfl)) ?_
        refine if_go (eqn_of (fun _ _ => rfl)) ?_
        refine if_go (eqn_of (fun _ _ => rfl)) ?_
        refine if_go (eqn_of (fun _ _ => rfl)) ?_
        exact ih (k + 1) _ (by omega) (by omega) e5 w ws wp im
      refine if_two ?_ ?_
      · obtain ⟨r, e1, e2, w⟩ := s_say (ps := P_s) wp (xs (y3 + 1).toNatClampNeg)
        refine gu_go g1 ?_
        refine jn_go e1 ?_
        refine gu_go g1 ?_
        refine jn_go e2 ?_
        refine if_go (rfl) ?_
        refine if_go (eqn_of (fun _ _ => rfl)) ?_
        refine if_go (rfl) ?_
        exact ih (k + 1) _ (by omega) (by omega) e5 wg ws w im
      refine if_two ?_ ?_
      · obtain ⟨e1, e2⟩ := s_wipe P_n
        refine jn_go e1 ?_
        refine jn_go e2 ?_
        refine if_go (rfl) ?_
        refine if_go (rfl) ?_
        exact ih (k + 1) _ (by omega) (by omega) e5 wg ws bd00 im
      refine if_two ?_ ?_
      · obtain ⟨r, FA, FW, FM, FE, e1, e2⟩ := s_fault P_s wp m_act m_who m_much
        refine jn_go e1 ?_
        refine jn_go e2 ?_
        refine if_go (rfl) ?_
        exact ih (k + 1) _ (by omega) (by omega) e5 wg ws wp im
      refine if_two ?_ ?_
      · obtain ⟨r, r', e1, e2, q0, q1, q2, q3, q4, q5, q6, q7⟩ := s_judge wg P_s wp T_ac T_ba T_bw T_he T_wa T_wh gal_b gal_n gal_o gal_s gal_k gal_h gal_c gal_m m_act m_who m_much m_acts m_heardMany m_wrongNow m_had m_badAct m_badWhy m_wrongAct m_wrongHeir (xs (y3 + 1).toNatClampNeg)
        refine gu_go g1 ?_
        refine jn_go e1 ?_
        refine gu_go g1 ?_
        refine jn_go e2 ?_
        refine if_go (q0) ?_
        refine if_go (eqn_of q1) ?_
        refine if_go (eqn_of q2) ?_
        refine if_go (eqn_of q3) ?_
        refine if_go (eqn_of q4) ?_
        refine if_go (eqn_of q5) ?_
        refine if_go (eqn_of q6) ?_
        refine if_go (q7) ?_
        exact ih (k + 1) _ (by omega) (by omega) e5 wg ws wp im
      refine if_two ?_ ?_
      · obtain ⟨r, r', e1, e2, q0, q1, q2, q3, q4, q5, q6, q7⟩ := s_behind wg P_s wp T_ac T_ba T_bw T_he T_wa T_wh gal_b gal_n gal_o gal_s gal_k gal_h gal_c gal_m m_act m_who m_much m_acts m_heardMany m_wrongNow m_had m_badAct m_badWhy m_wrongAct m_wrongHeir (xs (y3 + 1).toNatClampNeg) (xs (y3 + 2).toNatClampNeg)
        refine gu_go g1 ?_
        refine gu_go g2 ?_
        refine jn_go e1 ?_
        refine gu_go g1 ?_
        refine gu_go g2 ?_
        refine jn_go e2 ?_
        refine if_go (q0) ?_
        refine if_go (eqn_of q1) ?_
        refine if_go (eqn_of q2) ?_
        refine if_go (eqn_of q3) ?_
        refine if_go (eqn_of q4) ?_
        refine if_go (eqn_of q5) ?_
        refine if_go (eqn_of q6) ?_
        refine if_go (q7) ?_
        exact ih (k + 1) _ (by omega) (by omega) e5 wg ws wp im
      refine if_two ?_ ?_
      · obtain ⟨r, r', e1, e2, q0, q1, q2, q3, q4, q5, q6, q7⟩ := s_stands wg P_s wp T_ac T_ba T_bw T_he T_wa T_wh gal_b gal_n gal_o gal_s gal_k gal_h gal_c gal_m m_act m_who m_much m_acts m_heardMany m_wrongNow m_had m_badAct m_badWhy m_wrongAct m_wrongHeir (xs (y3 + 1).toNatClampNeg) (xs (y3 + 2).toNatClampNeg)
        refine gu_go g1 ?_
        refine gu_go g2 ?_
        refine jn_go e1 ?_
        refine gu_go g1 ?_
        refine gu_go g2 ?_
        refine jn_go e2 ?_
        refine if_go (q0) ?_
        refine if_go (eqn_of q1) ?_
        refine if_go (eqn_of q2) ?_
        refine if_go (eqn_of q3) ?_
        refine if_go (eqn_of q4) ?_
        refine if_go (eqn_of q5) ?_
        refine if_go (eqn_of q6) ?_
        refine if_go (q7) ?_
        exact ih (k + 1) _ (by omega) (by omega) e5 wg ws wp im
      refine if_two ?_ ?_
      · obtain ⟨r, r', e1, e2, q0, q1, q2, q3, q4, q5, q6, q7⟩ := s_house wg P_s wp T_ac T_ba T_bw T_he T_wa T_wh gal_b gal_n gal_o gal_s gal_k gal_h gal_c gal_m m_act m_who m_much m_acts m_heardMany m_wrongNow m_had m_badAct m_badWhy m_wrongAct m_wrongHeir (xs (y3 + 1).toNatClampNeg)
        refine gu_go g1 ?_
        refine jn_go e1 ?_
        refine gu_go g1 ?_
        refine jn_go e2 ?_
        refine if_go (q0) ?_
        refine if_go (eqn_of q1) ?_
        refine if_go (eqn_of q2) ?_
        refine if_go (eqn_of q3) ?_
        refine if_go (eqn_of q4) ?_
        refine if_go (eqn_of q5) ?_
        refine if_go (eqn_of q6) ?_
        refine if_go (q7) ?_
        exact ih (k + 1) _ (by omega) (by omega) e5 wg ws wp im
      refine if_two ?_ ?_
      · obtain ⟨r, r', e1, e2, q0, q1, q2, q3, q4, q5, q6, q7⟩ := s_wrong wg P_s wp T_ac T_ba T_bw T_he T_wa T_wh gal_b gal_n gal_o gal_s gal_k gal_h gal_c gal_m m_act m_who m_much m_acts m_heardMany m_wrongNow m_had m_badAct m_badWhy m_wrongAct m_wrongHeir (xs (y3 + 1).toNatClampNeg)
        refine gu_go g1 ?_
        refine jn_go e1 ?_
        refine gu_go g1 ?_
        refine jn_go e2 ?_
        refine if_go (q0) ?_
        refine if_go (eqn_of q1) ?_
        refine if_go (eqn_of q2) ?_
        refine if_go (eqn_of q3) ?_
        refine if_go (eqn_of q4) ?_
        refine if_go (eqn_of q5) ?_
        refine if_go (eqn_of q6) ?_
        refine if_go (q7) ?_
        exact ih (k + 1) _ (by omega) (by omega) e5 wg ws wp im
      refine if_two ?_ ?_
      · obtain ⟨r, r', e1, e2, q0, ⟨q1, q2, q3, q4, q5, q6, q7⟩, qk, qn, w, w2⟩ := s_done wg P_s wp T_ac T_ba T_bw T_he T_wa T_wh gal_b gal_n gal_o gal_s gal_k gal_h gal_c gal_m m_act m_who m_much m_heardMany m_wrongNow m_had m_badAct m_badWhy m_wrongAct m_wrongHeir
        refine jn_go e1 ?_
        refine jn_go e2 ?_
        refine if_go (q0) ?_
        refine if_go (eqn_of q1) ?_
        refine if_go (eqn_of q2) ?_
        refine if_go (eqn_of q3) ?_
        refine if_go (eqn_of q4) ?_
        refine if_go (eqn_of qk) ?_
        refine if_go (eqn_of q5) ?_
        refine if_go (eqn_of q6) ?_
        refine if_go (q7) ?_
        refine if_go (qn) ?_
        exact ih (k + 1) _ (by omega) (by omega) e5 w ws w2 im
      refine if_two ?_ ?_
      · obtain ⟨r, r', e1, e2, q0⟩ := s_seek m_odd m_span (xs (y3 + 1).toNatClampNeg) (xs (y3 + 2).toNatClampNeg) (xs (y3 + 3).toNatClampNeg) (xs (y3 + 4).toNatClampNeg)
        refine gu_go g1 ?_
        refine gu_go g2 ?_
        refine gu_go g3 ?_
        refine gu_go g4 ?_
        refine jn_go e1 ?_
        refine gu_go g1 ?_
        refine gu_go g2 ?_
        refine gu_go g3 ?_
        refine gu_go g4 ?_
        refine jn_go e2 ?_
        refine if_go ((lgE _ _).2 q0) ?_
        exact ih (k + 1) _ (by omega) (by omega) e5 wg ws wp im
      refine if_two ?_ ?_
      · obtain ⟨r, r', e1, e2, q0⟩ := s_looks m_odd m_span (xs (y3 + 1).toNatClampNeg) (xs (y3 + 2).toNatClampNeg) (xs (y3 + 3).toNatClampNeg)
        refine gu_go g1 ?_
        refine gu_go g2 ?_
        refine gu_go g3 ?_
        refine jn_go e1 ?_
        refine gu_go g1 ?_
        refine gu_go g2 ?_
        refine gu_go g3 ?_
        refine jn_go e2 ?_
        refine if_go (q0) ?_
        exact ih (k + 1) _ (by omega) (by omega) e5 wg ws wp im
      refine if_two ?_ ?_
      · obtain ⟨r, e1, e2⟩ := s_mix (xs (y3 + 1).toNatClampNeg) (xs (y3 + 2).toNatClampNeg) (xs (y3 + 3).toNatClampNeg) (xs (y3 + 4).toNatClampNeg)
        refine gu_go g1 ?_
        refine gu_go g2 ?_
        refine gu_go g3 ?_
        refine gu_go g4 ?_
        refine jn_go e1 ?_
        refine gu_go g1 ?_
        refine gu_go g2 ?_
        refine gu_go g3 ?_
        refine gu_go g4 ?_
        refine jn_go e2 ?_
        refine if_go (rfl) ?_
        exact ih (k + 1) _ (by omega) (by omega) e5 wg ws wp im
      refine if_two ?_ ?_
      · obtain ⟨r, r', e1, e2, q0⟩ := s_rises wg R_l R_m R_f m_rise (xs (y3 + 1).toNatClampNeg) (xs (y3 + 2).toNatClampNeg)
        refine gu_go g1 ?_
        refine gu_go g2 ?_
        refine jn_go e1 ?_
        refine gu_go g1 ?_
        refine gu_go g2 ?_
        refine jn_go e2 ?_
        refine if_go (q0) ?_
        exact ih (k + 1) _ (by omega) (by omega) e5 wg ws wp im
      refine if_two ?_ ?_
      · obtain ⟨z, ez, hz⟩ := zz_of (xs (y3 + 3).toNatClampNeg)
        obtain ⟨r, e1, e2, w⟩ := s_like ws (xs (y3 + 1).toNatClampNeg) (xs (y3 + 2).toNatClampNeg) z hz
        refine gu_go g1 ?_
        refine gu_go g2 ?_
        refine gu_go g3 ?_
        refine jn_go ez ?_
        refine jn_go e1 ?_
        refine gu_go g1 ?_
        refine gu_go g2 ?_
        refine gu_go g3 ?_
        refine jn_go ez ?_
        refine jn_go e2 ?_
        refine if_go (rfl) ?_
        refine if_go (eqn_of (fun _ _ => rfl)) ?_
        refine if_go (eqn_of (fun _ _ => rfl)) ?_
        refine if_go (eqn_of (fun _ _ => rfl)) ?_
        refine if_go (rfl) ?_
        exact ih (k + 1) _ (by omega) (by omega) e5 wg w wp im
      refine if_two ?_ ?_
      · obtain ⟨e1, e2⟩ := s_forget S_c
        refine jn_go e1 ?_
        refine jn_go e2 ?_
        refine if_go (rfl) ?_
        refine if_go (rfl) ?_
        exact ih (k + 1) _ (by omega) (by omega) e5 wg (ws_0 ws) wp im
      refine if_two ?_ ?_
      · obtain ⟨r, e1, e2⟩ := s_own wg ws (xs (y3 + 1).toNatClampNeg)
        refine gu_go g1 ?_
        refine jn_go e1 ?_
        refine gu_go g1 ?_
        refine jn_go e2 ?_
        refine if_go (rfl) ?_
        exact ih (k + 1) _ (by omega) (by omega) e5 wg ws wp im
      refine if_two ?_ ?_
      · obtain ⟨r, r', e1, e2, q0⟩ := s_ask wg ws S_f S_q S_l (xs (y3 + 1).toNatClampNeg)
        refine gu_go g1 ?_
        refine jn_go e1 ?_
        refine gu_go g1 ?_
        refine jn_go e2 ?_
        refine if_go (q0) ?_
        exact ih (k + 1) _ (by omega) (by omega) e5 wg ws wp im
      refine if_two ?_ ?_
      · obtain ⟨r, r', e1, e2, q0⟩ := s_take m_wins (xs (y3 + 1).toNatClampNeg) (xs (y3 + 2).toNatClampNeg)
        refine gu_go g1 ?_
        refine gu_go g2 ?_
        refine jn_go e1 ?_
        refine gu_go g1 ?_
        refine gu_go g2 ?_
        refine jn_go e2 ?_
        refine if_go (q0) ?_
        exact ih (k + 1) _ (by omega) (by omega) e5 wg ws wp im
      refine if_two ?_ ?_
      · obtain ⟨r, e1, e2⟩ := s_pass (xs (y3 + 1).toNatClampNeg) (xs (y3 + 2).toNatClampNeg) (xs (y3 + 3).toNatClampNeg)
        refine gu_go g1 ?_
        refine gu_go g2 ?_
        refine gu_go g3 ?_
        refine jn_go e1 ?_
        refine gu_go g1 ?_
        refine gu_go g2 ?_
        refine gu_go g3 ?_
        refine jn_go e2 ?_
        refine if_go ((lgE _ _).2 rfl) ?_
        exact ih (k + 1) _ (by omega) (by omega) e5 wg ws wp im
      refine if_two ?_ ?_
      · obtain ⟨r, e1, e2⟩ := s_passes (xs (y3 + 1).toNatClampNeg)
        refine gu_go g1 ?_
        refine jn_go e1 ?_
        refine gu_go g1 ?_
        refine jn_go e2 ?_
        refine if_go (rfl) ?_
        exact ih (k + 1) _ (by omega) (by omega) e5 wg ws wp im
      refine if_two ?_ ?_
      · obtain ⟨r, r', e1, e2, q0, q1, q2, q3, q4, q5, q6, q7⟩ := s_hour wg T_ac T_ba T_bw T_he T_wa T_wh gal_b gal_n gal_o gal_s gal_k gal_h gal_c gal_m m_heardMany m_wrongNow m_had (xs (y3 + 1).toNatClampNeg) (xs (y3 + 2).toNatClampNeg) (xs (y3 + 3).toNatClampNeg)
        refine gu_go g1 ?_
        refine gu_go g2 ?_
        refine gu_go g3 ?_
        refine jn_go e1 ?_
        refine gu_go g1 ?_
        refine gu_go g2 ?_
        refine gu_go g3 ?_
        refine jn_go e2 ?_
        refine if_go (q0) ?_
        refine if_go (eqn_of q1) ?_
        refine if_go (eqn_of q2) ?_
        refine if_go (eqn_of q3) ?_
        refine if_go (eqn_of q4) ?_
        refine if_go (eqn_of q5) ?_
        refine if_go (eqn_of q6) ?_
        refine if_go (q7) ?_
        exact ih (k + 1) _ (by omega) (by omega) e5 wg ws wp im
      refine if_two ?_ ?_
      · obtain ⟨x, kp', j0b, j0n, j0o, j0s, j0k, j0h, j0c, j0m, l0b, l0s, l0i, l0c, j1b, j1n, j1o, j1s, j1k, j1h, j1c, j1m, l1b, l1s, l1i, l1c, st', isS', at2, isW2, e1, e2, im2⟩ := s_image wg ws im m_storedAt m_isWriting (xs (y3 + 1).toNatClampNeg)
        refine gu_go g1 ?_
        refine jn_go e1 ?_
        refine gu_go g1 ?_
        refine jn_go e2 ?_
        refine if_go (rfl) ?_
        refine if_go (eqn_of (fun _ _ => rfl)) ?_
        refine if_go (eqn_of (fun _ _ => rfl)) ?_
        refine if_go (eqn_of (fun _ _ => rfl)) ?_
        refine if_go (eqn_of (fun _ _ => rfl)) ?_
        refine if_go (eqn_of (fun _ _ => rfl)) ?_
        refine if_go (eqn_of (fun _ _ => rfl)) ?_
        refine if_go (eqn_of (fun _ _ => rfl)) ?_
        refine if_go (rfl) ?_
        refine if_go (eqn_of (fun _ _ => rfl)) ?_
        refine if_go (eqn_of (fun _ _ => rfl)) ?_
        refine if_go (eqn_of (fun _ _ => rfl)) ?_
        refine if_go (rfl) ?_
        exact ih (k + 1) _ (by omega) (by omega) e5 wg ws wp im2
      refine if_two ?_ ?_
      · obtain ⟨x, b2, n2, o2, s2, k2, h2, c2, m2, sb2, ss2, si2, sc2, b3, n3, o3, s3, k3, h3, c3, sb3, ss3, si3, at2, isW2, e1, e2, a1, a2, a3, a4, a5, a6, a7, a8, a9, a10, w, w2⟩ := s_restore wg ws im m_storedAt m_isWriting (xs (y3 + 1).toNatClampNeg)
        refine gu_go g1 ?_
        refine jn_go e1 ?_
        refine gu_go g1 ?_
        refine jn_go e2 ?_
        refine if_go (rfl) ?_
        refine if_go (eqn_of a1) ?_
        refine if_go (eqn_of a2) ?_
        refine if_go (eqn_of a3) ?_
        refine if_go (eqn_of a4) ?_
        refine if_go (eqn_of a5) ?_
        refine if_go (eqn_of a6) ?_
        refine if_go (eqn_of a7) ?_
        refine if_go (rfl) ?_
        refine if_go (eqn_of a8) ?_
        refine if_go (eqn_of a9) ?_
        refine if_go (eqn_of a10) ?_
        refine if_go (rfl) ?_
        exact ih (k + 1) _ (by omega) (by omega) e5 w w2 wp im
      refine if_two ?_ ?_
      · obtain ⟨r, e1, e2⟩ := s_told wg S_c P_n (xs (y3 + 1).toNatClampNeg)
        refine gu_go g1 ?_
        refine jn_go e1 ?_
        refine gu_go g1 ?_
        refine jn_go e2 ?_
        refine if_go (rfl) ?_
        exact ih (k + 1) _ (by omega) (by omega) e5 wg ws wp im
      exact ih (k + 1) _ (by omega) (by omega) e5 wg ws wp im
theorem law_pure (xs : Nat → Int32) (L : Nat) (hL : L ≤ 2560) : f_law xs L = some 1 := by
  obtain ⟨b, o, k, c, b', o', k', c', e0, e9, a1, a2, a3, a4, wg⟩ := s_init
  have e8 : f_X8_init = some ((b, o, k, c), (b, o, k, c), (b, o, k, c), (b, o, k, c)) := by
    unfold f_X8_init f_X7_init f_X6_init f_X4_init f_X2_init
    rw [e0]
    rfl
  unfold f_law
  refine jn_go e8 ?_
  refine jn_go e9 ?_
  refine if_go (eqn_of a1) ?_
  refine if_go (eqn_of a2) ?_
  refine if_go (eqn_of a3) ?_
  refine if_go (eqn_of a4) ?_
  have z9 : bd 0 0 9 := by unfold bd; decide
  have z8 : bd 0 0 8 := by unfold bd; decide
  exact law_loop xs L hL 600 0 0 rfl (by omega) rfl wg ⟨fun _ _ => z9, fun _ _ => z8, fun _ _ => Or.inl rfl, z8⟩ bd00 ⟨rfl, rfl, Or.inl rfl, Or.inl rfl⟩
