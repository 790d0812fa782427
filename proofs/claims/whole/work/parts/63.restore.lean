theorem ST_2 {st : Nat → Int32} {x : Nat} {b n o s k h c b' n' o' s' k' h' c' : Nat → Int32} {m m' : Int32} {sb ss si sb' ss' si' : Nat → Int32} {sc sc' : Int32} (w : ST st x b n o s k h c m sb ss si sc) (w' : ST st x b' n' o' s' k' h' c' m' sb' ss' si' sc') : ag 40 b' b ∧ ag 40 n' n ∧ ag 40 o' o ∧ ag 6 s' s ∧ ag 6 k' k ∧ ag 6 h' h ∧ ag 6 c' c ∧ m' = m ∧ ag 8 sb' sb ∧ ag 8 ss' ss ∧ ag 8 si' si ∧ sc' = sc := by
  obtain ⟨w1, w2, w3, w4, w5, w6, w7, w8, w9, w10, w11, w12⟩ := w
  obtain ⟨v1, v2, v3, v4, v5, v6, v7, v8, v9, v10, v11, v12⟩ := w'
  exact ⟨fun j hj => by rw [← w3 j hj, ← v3 j hj], fun j hj => by rw [← w4 j hj, ← v4 j hj], fun j hj => by rw [← w5 j hj, ← v5 j hj], fun j hj => by rw [← w6 j hj, ← v6 j hj], fun j hj => by rw [← w7 j hj, ← v7 j hj], fun j hj => by rw [← w8 j hj, ← v8 j hj], fun j hj => by rw [← w9 j hj, ← v9 j hj], by rw [← w1, ← v1], fun j hj => by rw [← w10 j hj, ← v10 j hj], fun j hj => by rw [← w11 j hj, ← v11 j hj], fun j hj => by rw [← w12 j hj, ← v12 j hj], by rw [← w2, ← v2]⟩
theorem s_restore {b n o s k h c : Nat → Int32} {m : Int32} (wg : WG b n o s k h c m) {sb ss si : Nat → Int32} {sc : Int32} (ws : WS sb ss si sc) {kp i0b i0n i0o i0s i0k i0h i0c : Nat → Int32} {i0m : Int32} {k0b k0s k0i : Nat → Int32} {k0c : Int32} {i1b i1n i1o i1s i1k i1h i1c : Nat → Int32} {i1m : Int32} {k1b k1s k1i : Nat → Int32} {k1c : Int32} {st isS : Nat → Int32} (im : IM kp i0b i0n i0o i0s i0k i0h i0c i0m k0b k0s k0i k0c i1b i1n i1o i1s i1k i1h i1c i1m k1b k1s k1i k1c st isS) (at' isW v1 : Int32) : ∃ x b2 n2 o2 s2 k2 h2 c2 m2 sb2 ss2 si2 sc2 b3 n3 o3 s3 k3 h3 c3 sb3 ss3 si3 at2 isW2, f_X8_restore b n o s k h c m sb ss si sc kp i0b i0n i0o i0s i0k i0h i0c i0m k0b k0s k0i k0c i1b i1n i1o i1s i1k i1h i1c i1m k1b k1s k1i k1c v1 = some (x, b2, n2, o2, s2, k2, h2, c2, m2, sb2, ss2, si2, sc2) ∧ f_X9_restore b n o s k h c m sb ss si sc st isS at' isW v1 = some (x, b3, n3, o3, s3, k3, h3, c3, m2, sb3, ss3, si3, sc2, st, at2, isW2) ∧ ag 40 b3 b2 ∧ ag 40 n3 n2 ∧ ag 40 o3 o2 ∧ ag 6 s3 s2 ∧ ag 6 k3 k2 ∧ ag 6 h3 h2 ∧ ag 6 c3 c2 ∧ ag 8 sb3 sb2 ∧ ag 8 ss3 ss2 ∧ ag 8 si3 si2 ∧ WG b2 n2 o2 s2 k2 h2 c2 m2 ∧ WS sb2 ss2 si2 sc2 := by
  unfold f_X8_restore f_X9_restore
  simp only [in_01, jW, i10, i00, if_true, if_false]
  obtain ⟨p1, p2, p3, p4⟩ := im
  by_cases h1 : (0 : Int32) ≤ v1 ∧ v1 ≤ 1
  · simp only [if_pos h1]
    have b1 := bd_of (a := 0) (b := 1) h1 rfl rfl
    unfold bd at b1
    have hin : inR v1 2 := by unfold inR; omega
    have e0 : (0 : Int32).toInt = 0 := rfl
    have e1 : (1 : Int32).toInt = 1 := rfl
    by_cases w : v1 = 0
    · subst w
      have e170 : (170 : Int32) * 0 = nI 0 := rfl
      have z0 : (0 : Int32).toNatClampNeg = 0 := rfl
      simp only [gu_ok hin, z0, ← p1]
      by_cases hk : kp 0 = 0
      · simp only [if_pos hk]
        exact ⟨_, _, _, _, _, _, _, _, _, _, _, _, _, _, _, _, _, _, _, _, _, _, _, _, _, rfl, rfl, ag_rf, ag_rf, ag_rf, ag_rf, ag_rf, ag_rf, ag_rf, ag_rf, ag_rf, ag_rf, wg, ws⟩
      · simp only [if_neg hk]
        rcases p3 with p3 | ⟨a1, a2, a3⟩
        · exact absurd p3 hk
        obtain ⟨b', n', o', s', k', h', c', sb', ss', si', q1, q2⟩ := all_0 (x := 0) (by omega) b n o s k h c m sb ss si sc st
        obtain ⟨d1, d2, d3, d4, d5, d6, d7, d8, d9, d10, d11, d12⟩ := ST_2 a3 q2
        obtain ⟨l0b, l0s, l0i, c1, c2, c3, c4⟩ := cp_s a2 sb ss si
        unfold f_X0_copyFrom
        simp only [if_true, jn_some, c1, e170, q1, d8, d12]
        exact ⟨_, _, _, _, _, _, _, _, _, _, _, _, _, _, _, _, _, _, _, _, _, _, _, _, _, rfl, rfl, ag_tr d1 (ag_sy (cpy_ag _ _ _)), ag_tr d2 (ag_sy (cpy_ag _ _ _)), ag_tr d3 (ag_sy (cpy_ag _ _ _)), ag_tr d4 (ag_sy (cpy_ag _ _ _)), ag_tr d5 (ag_sy (cpy_ag _ _ _)), ag_tr d6 (ag_sy (cpy_ag _ _ _)), ag_tr d7 (ag_sy (cpy_ag _ _ _)), ag_tr d9 (ag_sy c2), ag_tr d10 (ag_sy c3), ag_tr d11 (ag_sy c4), WG_ag a1 (cpy_ag _ _ _) (cpy_ag _ _ _) (cpy_ag _ _ _) (cpy_ag _ _ _) (cpy_ag _ _ _) (cpy_ag _ _ _) (cpy_ag _ _ _), WS_ag a2 c2 c3 c4⟩
    · have w1 : v1 = 1 := by rw [i_eq] at w ⊢; omega
      subst w1
      have e170 : (170 : Int32) * 1 = nI 170 := rfl
      have z0 : (1 : Int32).toNatClampNeg = 1 := rfl
      simp only [gu_ok hin, z0, ← p2]
      by_cases hk : kp 1 = 0
      · simp only [if_pos hk]
        exact ⟨_, _, _, _, _, _, _, _, _, _, _, _, _, _, _, _, _, _, _, _, _, _, _, _, _, rfl, rfl, ag_rf, ag_rf, ag_rf, ag_rf, ag_rf, ag_rf, ag_rf, ag_rf, ag_rf, ag_rf, wg, ws⟩
      · simp only [if_neg hk]
        rcases p4 with p4 | ⟨a1, a2, a3⟩
        · exact absurd p4 hk
        obtain ⟨b', n', o', s', k', h', c', sb', ss', si', q1, q2⟩ := all_0 (x := 170) (by omega) b n o s k h c m sb ss si sc st
        obtain ⟨d1, d2, d3, d4, d5, d6, d7, d8, d9, d10, d11, d12⟩ := ST_2 a3 q2
        obtain ⟨l0b, l0s, l0i, c1, c2, c3, c4⟩ := cp_s a2 sb ss si
        unfold f_X0_copyFrom
        simp only [if_true, if_neg w, jn_some, c1, e170, q1, d8, d12]
        exact ⟨_, _, _, _, _, _, _, _, _, _, _, _, _, _, _, _, _, _, _, _, _, _, _, _, _, rfl, rfl, ag_tr d1 (ag_sy (cpy_ag _ _ _)), ag_tr d2 (ag_sy (cpy_ag _ _ _)), ag_tr d3 (ag_sy (cpy_ag _ _ _)), ag_tr d4 (ag_sy (cpy_ag _ _ _)), ag_tr d5 (ag_sy (cpy_ag _ _ _)), ag_tr d6 (ag_sy (cpy_ag _ _ _)), ag_tr d7 (ag_sy (cpy_ag _ _ _)), ag_tr d9 (ag_sy c2), ag_tr d10 (ag_sy c3), ag_tr d11 (ag_sy c4), WG_ag a1 (cpy_ag _ _ _) (cpy_ag _ _ _) (cpy_ag _ _ _) (cpy_ag _ _ _) (cpy_ag _ _ _) (cpy_ag _ _ _) (cpy_ag _ _ _), WS_ag a2 c2 c3 c4⟩
  · simp only [if_neg h1]
    exact ⟨_, _, _, _, _, _, _, _, _, _, _, _, _, _, _, _, _, _, _, _, _, _, _, _, _, rfl, rfl, ag_rf, ag_rf, ag_rf, ag_rf, ag_rf, ag_rf, ag_rf, ag_rf, ag_rf, ag_rf, wg, ws⟩
