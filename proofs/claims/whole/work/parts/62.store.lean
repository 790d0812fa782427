theorem nar_01 {v : Int32} (h : v = 0 ∨ v = 1) : vp_nar .boolean v = v := by rcases h with rfl | rfl <;> rfl
theorem cp_L {tb ts ti : Nat → Int32} (hi : ∀ j, j < 8 → ti j = 0 ∨ ti j = 1) : ∀ d k nn (b s i : Nat → Int32), k + d = 8 → d < nn → (∀ j, j < k → b j = tb j ∧ s j = ts j ∧ i j = ti j) → ∃ b' s' i', f_X6_copyFrom_L2 tb ts ti nn (nI k) b s i = some (nI 8, b', s', i') ∧ ∀ j, j < 8 → b' j = tb j ∧ s' j = ts j ∧ i' j = ti j := by
  intro d
  induction d with
  | zero =>
    intro k nn b s i hk hn h
    obtain ⟨a, rfl⟩ : ∃ a, nn = a + 1 := ⟨nn - 1, by omega⟩
    obtain rfl : k = 8 := by omega
    exact ⟨b, s, i, by rw [f_X6_copyFrom_L2, if_pos (by decide)], h⟩
  | succ d ih =>
    intro k nn b s i hk hn h
    obtain ⟨a, rfl⟩ : ∃ a, nn = a + 1 := ⟨nn - 1, by omega⟩
    have hcl : (nI k).toNatClampNeg = k := nI_clamp (by omega)
    have hg : ∀ {ρ : Type} (z : Option ρ), gu (nI k) 8 z = z := fun z => gu_nI (by omega) (by decide) z
    have hni : ¬ (8 : Int32) ≤ nI k := nI_ge (b := 8) (by omega) (by omega)
    rw [f_X6_copyFrom_L2, if_neg hni, hg, hg, hg, hg, hg, hg, hcl, nI_1, nar_01 (hi k (by omega))]
    refine ih (k + 1) a _ _ _ (by omega) (by omega) (fun j hj => ?_)
    rw [up_if, up_if, up_if]
    by_cases e : j = k
    · rw [if_pos e, if_pos e, if_pos e, e]; exact ⟨rfl, rfl, rfl⟩
    · rw [if_neg e, if_neg e, if_neg e]; exact h j (by omega)
theorem cp_s {tb ts ti : Nat → Int32} {tc : Int32} (ws : WS tb ts ti tc) (b s i : Nat → Int32) : ∃ b' s' i', f_X6_copyFrom b s i tb ts ti tc = some (b', s', i', tc) ∧ ag 8 b' tb ∧ ag 8 s' ts ∧ ag 8 i' ti := by
  obtain ⟨b', s', i', e, h⟩ := cp_L ws.2.2.1 8 0 100 b s i (by omega) (by omega) (fun j hj => absurd hj (by omega))
  rw [nI_0] at e
  refine ⟨b', s', i', ?_, fun j hj => (h j hj).1, fun j hj => (h j hj).2.1, fun j hj => (h j hj).2.2⟩
  unfold f_X6_copyFrom
  rw [e, jn_some]
theorem WS_ag {b s i b' s' i' : Nat → Int32} {c : Int32} (w : WS b s i c) (h1 : ag 8 b' b) (h2 : ag 8 s' s) (h3 : ag 8 i' i) : WS b' s' i' c := by
  obtain ⟨w1, w2, w3, w4⟩ := w
  exact ⟨fun j hj => by rw [h1 j hj]; exact w1 j hj, fun j hj => by rw [h2 j hj]; exact w2 j hj, fun j hj => by rw [h3 j hj]; exact w3 j hj, w4⟩
theorem ST_ag {st : Nat → Int32} {x : Nat} {b n o s k h c b' n' o' s' k' h' c' : Nat → Int32} {m : Int32} {sb ss si sb' ss' si' : Nat → Int32} {sc : Int32} (w : ST st x b n o s k h c m sb ss si sc) (hb : ag 40 b' b) (hn : ag 40 n' n) (ho : ag 40 o' o) (hs : ag 6 s' s) (hk : ag 6 k' k) (hh : ag 6 h' h) (hc : ag 6 c' c) (h1 : ag 8 sb' sb) (h2 : ag 8 ss' ss) (h3 : ag 8 si' si) : ST st x b' n' o' s' k' h' c' m sb' ss' si' sc := by
  obtain ⟨w1, w2, w3, w4, w5, w6, w7, w8, w9, w10, w11, w12⟩ := w
  exact ⟨w1, w2, fun j hj => by rw [hb j hj]; exact w3 j hj, fun j hj => by rw [hn j hj]; exact w4 j hj, fun j hj => by rw [ho j hj]; exact w5 j hj, fun j hj => by rw [hs j hj]; exact w6 j hj, fun j hj => by rw [hk j hj]; exact w7 j hj, fun j hj => by rw [hh j hj]; exact w8 j hj, fun j hj => by rw [hc j hj]; exact w9 j hj, fun j hj => by rw [h1 j hj]; exact w10 j hj, fun j hj => by rw [h2 j hj]; exact w11 j hj, fun j hj => by rw [h3 j hj]; exact w12 j hj⟩
/-- a stored row that is the same there -/
theorem ST_st {st st' : Nat → Int32} {x : Nat} (e : ∀ j, x ≤ j → j < x + 170 → st' j = st j) {b n o s k h c : Nat → Int32} {m : Int32} {sb ss si : Nat → Int32} {sc : Int32} (w : ST st x b n o s k h c m sb ss si sc) : ST st' x b n o s k h c m sb ss si sc := by
  obtain ⟨w1, w2, w3, w4, w5, w6, w7, w8, w9, w10, w11, w12⟩ := w
  exact ⟨by rw [e _ (by omega) (by omega)]; exact w1, by rw [e _ (by omega) (by omega)]; exact w2, fun j hj => by rw [e _ (by omega) (by omega)]; exact w3 j hj, fun j hj => by rw [e _ (by omega) (by omega)]; exact w4 j hj, fun j hj => by rw [e _ (by omega) (by omega)]; exact w5 j hj, fun j hj => by rw [e _ (by omega) (by omega)]; exact w6 j hj, fun j hj => by rw [e _ (by omega) (by omega)]; exact w7 j hj, fun j hj => by rw [e _ (by omega) (by omega)]; exact w8 j hj, fun j hj => by rw [e _ (by omega) (by omega)]; exact w9 j hj, fun j hj => by rw [e _ (by omega) (by omega)]; exact w10 j hj, fun j hj => by rw [e _ (by omega) (by omega)]; exact w11 j hj, fun j hj => by rw [e _ (by omega) (by omega)]; exact w12 j hj⟩
/-- the two images, and the reference's stored row -/
def IM (kp : Nat → Int32) (i0b i0n i0o i0s i0k i0h i0c : Nat → Int32) (i0m : Int32) (k0b k0s k0i : Nat → Int32) (k0c : Int32) (i1b i1n i1o i1s i1k i1h i1c : Nat → Int32) (i1m : Int32) (k1b k1s k1i : Nat → Int32) (k1c : Int32) (st isS : Nat → Int32) : Prop := kp 0 = isS 0 ∧ kp 1 = isS 1 ∧ (kp 0 = 0 ∨ (WG i0b i0n i0o i0s i0k i0h i0c i0m ∧ WS k0b k0s k0i k0c ∧ ST st 0 i0b i0n i0o i0s i0k i0h i0c i0m k0b k0s k0i k0c)) ∧ (kp 1 = 0 ∨ (WG i1b i1n i1o i1s i1k i1h i1c i1m ∧ WS k1b k1s k1i k1c ∧ ST st 170 i1b i1n i1o i1s i1k i1h i1c i1m k1b k1s k1i k1c))
theorem s_image {b n o s k h c : Nat → Int32} {m : Int32} (wg : WG b n o s k h c m) {sb ss si : Nat → Int32} {sc : Int32} (ws : WS sb ss si sc) {kp i0b i0n i0o i0s i0k i0h i0c : Nat → Int32} {i0m : Int32} {k0b k0s k0i : Nat → Int32} {k0c : Int32} {i1b i1n i1o i1s i1k i1h i1c : Nat → Int32} {i1m : Int32} {k1b k1s k1i : Nat → Int32} {k1c : Int32} {st isS : Nat → Int32} (im : IM kp i0b i0n i0o i0s i0k i0h i0c i0m k0b k0s k0i k0c i1b i1n i1o i1s i1k i1h i1c i1m k1b k1s k1i k1c st isS) (at' isW v1 : Int32) : ∃ x kp' j0b j0n j0o j0s j0k j0h j0c j0m l0b l0s l0i l0c j1b j1n j1o j1s j1k j1h j1c j1m l1b l1s l1i l1c st' isS' at2 isW2, f_X8_image b n o s k h c m sb ss si sc kp i0b i0n i0o i0s i0k i0h i0c i0m k0b k0s k0i k0c i1b i1n i1o i1s i1k i1h i1c i1m k1b k1s k1i k1c v1 = some (x, kp', j0b, j0n, j0o, j0s, j0k, j0h, j0c, j0m, l0b, l0s, l0i, l0c, j1b, j1n, j1o, j1s, j1k, j1h, j1c, j1m, l1b, l1s, l1i, l1c) ∧ f_X9_image b n o s k h c m sb ss si sc st isS at' isW v1 = some (x, b, n, o, s, k, h, c, m, sb, ss, si, sc, st', isS', at2, isW2) ∧ IM kp' j0b j0n j0o j0s j0k j0h j0c j0m l0b l0s l0i l0c j1b j1n j1o j1s j1k j1h j1c j1m l1b l1s l1i l1c st' isS' := by
  unfold f_X8_image f_X9_image
  simp only [in_01, jW, i10, i00, if_true, if_false]
  obtain ⟨p1, p2, p3, p4⟩ := im
  by_cases h1 : (0 : Int32) ≤ v1 ∧ v1 ≤ 1
  · simp only [if_pos h1]
    have b1 := bd_of (a := 0) (b := 1) h1 rfl rfl
    unfold bd at b1
    have hin : inR v1 2 := by unfold inR; omega
    have e0 : (0 : Int32).toInt = 0 := rfl
    have e1 : (1 : Int32).toInt = 1 := rfl
    have nar : vp_nar .boolean 1 = 1 := rfl
    by_cases w : v1 = 0
    · obtain ⟨st', q1, q2, q3⟩ := all_1 (x := 0) (by omega) b n o s k h c m sb ss si sc st
      obtain ⟨l0b, l0s, l0i, c1, c2, c3, c4⟩ := cp_s ws k0b k0s k0i
      subst w
      have e170 : (170 : Int32) * 0 = nI 0 := rfl
      have z0 : (0 : Int32).toNatClampNeg = 0 := rfl
      unfold f_X0_copyFrom
      simp only [if_true, jn_some, c1, gu_ok hin, e170, q1, nar, z0]
      refine ⟨_, _, _, _, _, _, _, _, _, _, _, _, _, _, _, _, _, _, _, _, _, _, _, _, _, _, _, _, _, _, rfl, rfl, ?_, ?_, Or.inr ⟨WG_ag wg (cpy_ag _ _ _) (cpy_ag _ _ _) (cpy_ag _ _ _) (cpy_ag _ _ _) (cpy_ag _ _ _) (cpy_ag _ _ _) (cpy_ag _ _ _), WS_ag ws c2 c3 c4, ST_ag q2 (cpy_ag _ _ _) (cpy_ag _ _ _) (cpy_ag _ _ _) (cpy_ag _ _ _) (cpy_ag _ _ _) (cpy_ag _ _ _) (cpy_ag _ _ _) c2 c3 c4⟩, ?_⟩
      · rw [up_s, up_s]
      · rw [up_n (by decide), up_n (by decide)]; exact p2
      · rw [up_n (by decide)]
        rcases p4 with p4 | ⟨a1, a2, a3⟩
        · exact Or.inl p4
        · exact Or.inr ⟨a1, a2, ST_st (fun j g1 g2 => q3 j (by omega)) a3⟩
    · have w1 : v1 = 1 := by rw [i_eq] at w ⊢; omega
      obtain ⟨st', q1, q2, q3⟩ := all_1 (x := 170) (by omega) b n o s k h c m sb ss si sc st
      obtain ⟨l0b, l0s, l0i, c1, c2, c3, c4⟩ := cp_s ws k1b k1s k1i
      subst w1
      have e170 : (170 : Int32) * 1 = nI 170 := rfl
      have z0 : (1 : Int32).toNatClampNeg = 1 := rfl
      unfold f_X0_copyFrom
      simp only [if_true, if_neg w, jn_some, c1, gu_ok hin, e170, q1, nar, z0]
      refine ⟨_, _, _, _, _, _, _, _, _, _, _, _, _, _, _, _, _, _, _, _, _, _, _, _, _, _, _, _, _, _, rfl, rfl, ?_, ?_, ?_, Or.inr ⟨WG_ag wg (cpy_ag _ _ _) (cpy_ag _ _ _) (cpy_ag _ _ _) (cpy_ag _ _ _) (cpy_ag _ _ _) (cpy_ag _ _ _) (cpy_ag _ _ _), WS_ag ws c2 c3 c4, ST_ag q2 (cpy_ag _ _ _) (cpy_ag _ _ _) (cpy_ag _ _ _) (cpy_ag _ _ _) (cpy_ag _ _ _) (cpy_ag _ _ _) (cpy_ag _ _ _) c2 c3 c4⟩⟩
      · rw [up_n (by decide), up_n (by decide)]; exact p1
      · rw [up_s, up_s]
      · rw [up_n (by decide)]
        rcases p3 with p3 | ⟨a1, a2, a3⟩
        · exact Or.inl p3
        · exact Or.inr ⟨a1, a2, ST_st (fun j g1 g2 => q3 j (by omega)) a3⟩
  · simp only [if_neg h1]
    exact ⟨_, _, _, _, _, _, _, _, _, _, _, _, _, _, _, _, _, _, _, _, _, _, _, _, _, _, _, _, _, _, rfl, rfl, p1, p2, p3, p4⟩
