/-! hours by draws -/
theorem x_cls {q : Nat} (h : q < 65537) : ((75 : Int32) * nI q + 74) - ((75 : Int32) * nI q + 74) / 65537 * 65537 = nI ((75 * q + 74) % 65537) := by
  have e1 : (75 : Int32) * nI q = nI (75 * q) := pk_mul 75 q
  have e2 : nI (75 * q) + 74 = nI (75 * q + 74) := nI_add _ 74
  rw [e1, e2]
  exact pk_rem (d := 65537) (by omega) (by decide) (by decide)
theorem x_mdl {q : Nat} (h : q < 65537) : ((((75 : Int64) * (nI q).toInt64) + 74) - (((75 : Int64) * (nI q).toInt64) + 74) / 65537 * 65537 : Int64).toInt32 = nI ((75 * q + 74) % 65537) := by
  have e0 : (nI q).toInt64 = lN q := nI_l (by omega)
  have e1 : (75 : Int64) * lN q = lN (75 * q) := lN_mul 75 q
  have e2 : lN (75 * q) + 74 = lN (75 * q + 74) := lN_add _ 74
  have e3 : lN (75 * q + 74) - lN (75 * q + 74) / 65537 * 65537 = lN ((75 * q + 74) % 65537) := pk_lRem (b := 65537) (by omega) (by decide) (by decide)
  rw [e0, e1, e2, e3, lN_i]
theorem r_kind (j z : Nat) (hj : j < 8) (hz : z < 2 ^ 31) : ∃ kc km, f_X7_drawnKind (nI j) (nI z) = some kc ∧ f_X9_actBy (nI j) (nI z) = some km ∧ KK kc km := by
  unfold f_X7_drawnKind f_X9_actBy
  have er : nI z - nI z / 8 * 8 = nI (z % 8) := pk_rem (d := 8) hz (by decide) (by decide)
  rw [er]
  match j, hj with
  | 0, _ => exact ⟨62, 0, rfl, rfl, Or.inl ⟨rfl, rfl⟩⟩
  | 1, _ => exact ⟨62, 0, rfl, rfl, Or.inl ⟨rfl, rfl⟩⟩
  | 2, _ => exact ⟨60, 1, rfl, rfl, Or.inr (Or.inl ⟨rfl, rfl⟩)⟩
  | 3, _ => exact ⟨63, 2, rfl, rfl, Or.inr (Or.inr (Or.inl ⟨rfl, rfl⟩))⟩
  | 4, _ => exact ⟨42, 3, rfl, rfl, Or.inr (Or.inr (Or.inr (Or.inl ⟨rfl, rfl⟩)))⟩
  | 5, _ => exact ⟨48, 4, rfl, rfl, Or.inr (Or.inr (Or.inr (Or.inr (Or.inl ⟨rfl, rfl⟩))))⟩
  | 6, _ => exact ⟨126, 5, rfl, rfl, Or.inr (Or.inr (Or.inr (Or.inr (Or.inr (Or.inl ⟨rfl, rfl⟩)))))⟩
  | 7, _ =>
    by_cases h : nI (z % 8) = 0
    · simp only [h]
      exact ⟨33, 6, rfl, rfl, Or.inr (Or.inr (Or.inr (Or.inr (Or.inr (Or.inr (Or.inl ⟨rfl, rfl⟩))))))⟩
    · simp only [if_neg h]
      exact ⟨46, 7, rfl, rfl, Or.inr (Or.inr (Or.inr (Or.inr (Or.inr (Or.inr (Or.inr ⟨rfl, rfl⟩))))))⟩
theorem l_hour {k k' : Nat → Int32} {M : Nat} (hM : M < 2 ^ 31) : ∀ d i nn mm q (b n o s h c b' n' o' s' h' c' : Nat → Int32) (m hm wn : Int32), i + d = M → d < nn → d < mm → q < 65537 → GR b n o s k h c m b' n' o' s' k' h' c' m → WG b' n' o' s' k' h' c' m → ∃ x b2 n2 o2 s2 h2 c2 m2 b3 n3 o3 s3 h3 c3 hm2 wn2, f_X7_draw_L11 (nI M) k nn (nI q) (nI i) b n o s h c m = some (x, nI M, b2, n2, o2, s2, h2, c2, m2) ∧ f_X9_hour_L49 (nI M) k' mm (nI q) (nI i) b' n' o' s' h' c' m hm wn = some (x, nI M, b3, n3, o3, s3, h3, c3, m2, hm2, wn2) ∧ GR b2 n2 o2 s2 k h2 c2 m2 b3 n3 o3 s3 k' h3 c3 m2 ∧ WG b3 n3 o3 s3 k' h3 c3 m2 := by
  intro d
  induction d with
  | zero =>
    intro i nn mm q b n o s h c b' n' o' s' h' c' m hm wn hi h1 h2 hq gr wg
    obtain ⟨a, rfl⟩ : ∃ a, nn = a + 1 := ⟨nn - 1, by omega⟩
    obtain ⟨a', rfl⟩ : ∃ a, mm = a + 1 := ⟨mm - 1, by omega⟩
    obtain rfl : i = M := by omega
    have hle : nI i ≤ nI i := by rw [i_le]; exact Int.le_refl _
    refine ⟨nI q, b, n, o, s, h, c, m, b', n', o', s', h', c', hm, wn, ?_, ?_, gr, wg⟩
    · rw [f_X7_draw_L11, if_pos hle]
    · rw [f_X9_hour_L49, if_pos hle]
  | succ d ih =>
    intro i nn mm q b n o s h c b' n' o' s' h' c' m hm wn hi h1 h2 hq gr wg
    obtain ⟨a, rfl⟩ : ∃ a, nn = a + 1 := ⟨nn - 1, by omega⟩
    obtain ⟨a', rfl⟩ : ∃ a, mm = a + 1 := ⟨mm - 1, by omega⟩
    have hni : ¬ nI M ≤ nI i := nI_ge (by omega) hM
    rw [f_X7_draw_L11, f_X9_hour_L49, if_neg hni, if_neg hni]
    simp only [bi_eq]
    rw [x_cls hq, x_mdl hq]
    have hq2 : (75 * q + 74) % 65537 < 65537 := Nat.mod_lt _ (by decide)
    generalize (75 * q + 74) % 65537 = q2 at hq2 ⊢
    have e6 : nI q2 / 6 = nI (q2 / 6) := pk_div (d := 6) (by omega) (by decide) (by decide)
    have e48 : nI q2 / 48 = nI (q2 / 48) := pk_div (d := 48) (by omega) (by decide) (by decide)
    have er6 : nI q2 - nI q2 / 6 * 6 = nI (q2 % 6) := pk_rem (d := 6) (by omega) (by decide) (by decide)
    have e68 : nI (q2 / 6) - nI (q2 / 6) / 8 * 8 = nI (q2 / 6 % 8) := pk_rem (d := 8) (by omega) (by decide) (by decide)
    have e489 : nI (q2 / 48) - nI (q2 / 48) / 9 * 9 = nI (q2 / 48 % 9) := pk_rem (d := 9) (by omega) (by decide) (by decide)
    have ea1 : nI (q2 / 48 % 9) + 1 = nI (q2 / 48 % 9 + 1) := nI_1 _
    have ea2 : 1 + nI (q2 / 48 % 9) = nI (q2 / 48 % 9 + 1) := by rw [Int32.add_comm]; exact nI_1 _
    simp only [er6]
    simp only [e6, e48, e68, e489, ea1, ea2, nI_1]
    obtain ⟨kc, km, hk1, hk2, hkk⟩ := r_kind (q2 / 6 % 8) (q2 / 48) (Nat.mod_lt _ (by decide)) (by omega)
    simp only [hk1, hk2, jn_some]
    have hv : inR (nI (q2 % 6)) 6 := inR_nI (Nat.mod_lt _ (by decide)) (by decide)
    have hab : bd (nI (q2 / 48 % 9 + 1)) 1 9 := by
      unfold bd
      have := Nat.mod_lt (q2 / 48) (by decide : 0 < 9)
      rw [nI_toInt (by omega)]
      omega
    obtain ⟨w, hw1, hw2, -⟩ := r_bar gr wg hv hkk (nI (q2 / 48 % 9 + 1))
    simp only [hw1, hw2, jn_some]
    by_cases hw : w = 0
    · simp only [if_pos hw]
      subst hw
      obtain ⟨b2, n2, o2, s2, h2', c2, m2, b3, n3, o3, s3, h3, c3, ha1, ha2, gr2, wg2⟩ := r_act gr wg hv hkk (nI (q2 / 48 % 9 + 1)) hm (fun _ => hab) hw2
      simp only [ha1, ha2, jn_some]
      exact ih (i + 1) a a' q2 b2 n2 o2 s2 h2' c2 b3 n3 o3 s3 h3 c3 m2 _ _ (by omega) (by omega) (by omega) hq2 gr2 wg2
    · simp only [if_neg hw]
      exact ih (i + 1) a a' q2 b n o s h c b' n' o' s' h' c' m hm wn (by omega) (by omega) (by omega) hq2 gr wg
theorem s_hour {b n o s k h c : Nat → Int32} {m : Int32} (wg : WG b n o s k h c m) (ac ba bw he wa wh : Int32) (gb gn go gs gk gh gc : Nat → Int32) (gm hm wn : Int32) (d : Nat → Int32) (v1 v2 v3 : Int32) : ∃ r r', f_X8_hour b n o s k h c m ac ba bw he wa wh gb gn go gs gk gh gc gm v1 v2 v3 = some r ∧ f_X9_hour b n o s k h c m hm wn d v1 v2 v3 = some r' ∧ r.1 = r'.1 ∧ ag 40 r'.2.1 b ∧ ag 40 r'.2.2.1 n ∧ ag 40 r'.2.2.2.1 o ∧ ag 6 r'.2.2.2.2.1 s ∧ ag 6 r'.2.2.2.2.2.1 h ∧ ag 6 r'.2.2.2.2.2.2.1 c ∧ r'.2.2.2.2.2.2.2.1 = m := by
  unfold f_X8_hour f_X9_hour
  simp only [in_sd, in_99, in_02, jW, i10, i00, if_true, if_false]
  by_cases h1 : (0 : Int32) ≤ v1 ∧ v1 ≤ 9999
  · simp only [if_pos h1]
    by_cases h2 : (1 : Int32) ≤ v2 ∧ v2 ≤ 99
    · simp only [if_pos h2]
      by_cases h3 : (0 : Int32) ≤ v3 ∧ v3 ≤ 2
      · simp only [if_pos h3]
        have b1 := bd_of (a := 0) (b := 9999) h1 rfl rfl
        have b2 := bd_of (a := 1) (b := 99) h2 rfl rfl
        unfold bd at b1 b2
        obtain ⟨q, hq, e1⟩ : ∃ q : Nat, q < 65537 ∧ v1 = nI q := ⟨v1.toInt.toNat, by omega, by rw [i_eq, nI_toInt (by omega)]; omega⟩
        obtain ⟨M, hM, e2⟩ : ∃ q : Nat, q < 100 ∧ v2 = nI q := ⟨v2.toInt.toNat, by omega, by rw [i_eq, nI_toInt (by omega)]; omega⟩
        subst e1; subst e2
        obtain ⟨d', hd1, hd2⟩ := p_keep b n o s h c m d
        have gr : GR (va_cpy b gb 0 0 40) (va_cpy n gn 0 0 40) (va_cpy o go 0 0 40) (va_cpy s gs 0 0 6) (va_cpy k gk 0 0 6) (va_cpy h gh 0 0 6) (va_cpy c gc 0 0 6) m b n o s k h c m := ⟨cpy_ag _ _ _, cpy_ag _ _ _, cpy_ag _ _ _, cpy_ag _ _ _, cpy_ag _ _ _, cpy_ag _ _ _, cpy_ag _ _ _, rfl⟩
        obtain ⟨x, b2, n2, o2, s2, h2', c2, m2, b3, n3, o3, s3, h3', c3, hm2, wn2, l1, l2, gr2, wg2⟩ := l_hour (k := va_cpy k gk 0 0 6) (k' := k) (M := M) (by omega) M 0 200 200 q _ _ _ _ _ _ b n o s h c m hm wn (by omega) (by omega) (by omega) hq gr wg
        rw [nI_0] at l1 l2
        unfold f_X7_draw f_X7_begin f_X0_copyFrom
        simp only [jn_some, hd1, l1, l2]
        obtain ⟨k1, k2, k3, k4, k5, k6, k7, -⟩ := gr2
        have z0 : (0 : Int32).toNatClampNeg = 0 := rfl
        have zin : inR 0 6 := by unfold inR; decide
        rw [gu_ok zin, gu_ok zin, z0, s_nicks, s_chosenBits c3 wg2.2.2.2.2.2.2.1]
        by_cases w0 : v3 = 0
        · simp only [if_pos w0, jn_some]
          obtain ⟨p1, p2, p3, p4, p5, p6, hp, a1, a2, a3, a4, a5, a6⟩ := p_back hd2 b3 n3 o3 s3 h3' c3 (s3 0)
          simp only [hp, jn_some]
          exact ⟨_, _, rfl, rfl, k4 0 (by decide), a1, a2, a3, a4, a5, a6, rfl⟩
        · simp only [if_neg w0]
          by_cases w1 : v3 = 1
          · obtain ⟨z, hz⟩ := t_nicks n3
            simp only [if_pos w1, ag_nicks k2, hz, jn_some]
            obtain ⟨p1, p2, p3, p4, p5, p6, hp, a1, a2, a3, a4, a5, a6⟩ := p_back hd2 b3 n3 o3 s3 h3' c3 z
            simp only [hp, jn_some]
            exact ⟨_, _, rfl, rfl, rfl, a1, a2, a3, a4, a5, a6, rfl⟩
          · obtain ⟨z, hz⟩ := t_chosenBits c3
            simp only [if_neg w1, ag_chosenBits k7, hz, jn_some]
            obtain ⟨p1, p2, p3, p4, p5, p6, hp, a1, a2, a3, a4, a5, a6⟩ := p_back hd2 b3 n3 o3 s3 h3' c3 z
            simp only [hp, jn_some]
            exact ⟨_, _, rfl, rfl, rfl, a1, a2, a3, a4, a5, a6, rfl⟩
      · simp only [if_neg h3]
        exact ⟨_, _, rfl, rfl, rfl, ag_rf, ag_rf, ag_rf, ag_rf, ag_rf, ag_rf, rfl⟩
    · simp only [if_neg h2]
      exact ⟨_, _, rfl, rfl, rfl, ag_rf, ag_rf, ag_rf, ag_rf, ag_rf, ag_rf, rfl⟩
  · simp only [if_neg h1]
    exact ⟨_, _, rfl, rfl, rfl, ag_rf, ag_rf, ag_rf, ag_rf, ag_rf, ag_rf, rfl⟩
