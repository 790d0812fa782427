/-! what is kept ahead of an hour, and put back behind it -/
def HAD (d b n o s h c : Nat → Int32) (m : Int32) : Prop := (∀ j, j < 40 → d j = b j ∧ d (40 + j) = n j ∧ d (80 + j) = o j) ∧ (∀ j, j < 6 → d (120 + j) = s j ∧ d (126 + j) = h j ∧ d (132 + j) = c j) ∧ d 138 = m
theorem la40 (k : Nat) : (40 : Int32) + nI k = nI (40 + k) := nI_add 40 k
theorem la80 (k : Nat) : (80 : Int32) + nI k = nI (80 + k) := nI_add 80 k
theorem la120 (k : Nat) : (120 : Int32) + nI k = nI (120 + k) := nI_add 120 k
theorem la126 (k : Nat) : (126 : Int32) + nI k = nI (126 + k) := nI_add 126 k
theorem la132 (k : Nat) : (132 : Int32) + nI k = nI (132 + k) := nI_add 132 k
theorem p_keep (b n o s h c : Nat → Int32) (m : Int32) (d : Nat → Int32) : ∃ d', f_X9_keepNow b n o s h c m d = some d' ∧ HAD d' b n o s h c m := by
  obtain ⟨d1, i1, h1⟩ := cnt0 (fun nn d y => f_X9_keepNow_L2 b n o nn y d) 40 100 (fun d => (nI 40, d)) (fun k d => ∀ j, j < k → d j = b j ∧ d (40 + j) = n j ∧ d (80 + j) = o j) (fun nn d _ => by
      show f_X9_keepNow_L2 b n o (nn + 1) (nI 40) d = _
      rw [f_X9_keepNow_L2, if_pos (yle (n := 40) rfl (Nat.le_refl 40) (by decide))]) (fun nn d k hk hI => by
      show ∃ s', _ ∧ f_X9_keepNow_L2 b n o (nn + 1) (nI k) d = f_X9_keepNow_L2 b n o nn (nI (k + 1)) s'
      rw [f_X9_keepNow_L2, if_neg (nle (n := 40) rfl hk)]
      simp only [la40, la80, gu_nI hk (by decide : (40 : Nat) < 2 ^ 31), gu_nI (by omega : k < 139) (by decide : (139 : Nat) < 2 ^ 31), gu_nI (by omega : 40 + k < 139) (by decide : (139 : Nat) < 2 ^ 31), gu_nI (by omega : 80 + k < 139) (by decide : (139 : Nat) < 2 ^ 31), nI_1, nI_clamp (by omega : k < 2 ^ 31), nI_clamp (by omega : 40 + k < 2 ^ 31), nI_clamp (by omega : 80 + k < 2 ^ 31)]
      refine ⟨_, ?_, rfl⟩
      intro j hj
      simp only [up_if]
      refine ⟨?_, ?_, ?_⟩
      · rw [if_neg (by omega), if_neg (by omega)]
        by_cases e : j = k
        · rw [if_pos e, e]
        · rw [if_neg e]; exact (hI j (by omega)).1
      · rw [if_neg (by omega)]
        by_cases e : j = k
        · rw [if_pos (by omega), e]
        · rw [if_neg (by omega), if_neg (by omega)]; exact (hI j (by omega)).2.1
      · by_cases e : j = k
        · rw [if_pos (by omega), e]
        · rw [if_neg (by omega), if_neg (by omega), if_neg (by omega)]; exact (hI j (by omega)).2.2) d (by decide) (fun j hj => absurd hj (by omega))
  obtain ⟨d2, i2, h2⟩ := cnt0 (fun nn d y => f_X9_keepNow_L58 s h c nn y d) 6 100 (fun d => (nI 6, d)) (fun k d => (∀ j, j < 120 → d j = d1 j) ∧ ∀ j, j < k → d (120 + j) = s j ∧ d (126 + j) = h j ∧ d (132 + j) = c j) (fun nn d _ => by
      show f_X9_keepNow_L58 s h c (nn + 1) (nI 6) d = _
      rw [f_X9_keepNow_L58, if_pos (yle (n := 6) rfl (Nat.le_refl 6) (by decide))]) (fun nn d k hk hI => by
      show ∃ s', _ ∧ f_X9_keepNow_L58 s h c (nn + 1) (nI k) d = f_X9_keepNow_L58 s h c nn (nI (k + 1)) s'
      rw [f_X9_keepNow_L58, if_neg (nle (n := 6) rfl hk)]
      simp only [la120, la126, la132, gu_nI hk (by decide : (6 : Nat) < 2 ^ 31), gu_nI (by omega : 120 + k < 139) (by decide : (139 : Nat) < 2 ^ 31), gu_nI (by omega : 126 + k < 139) (by decide : (139 : Nat) < 2 ^ 31), gu_nI (by omega : 132 + k < 139) (by decide : (139 : Nat) < 2 ^ 31), nI_1, nI_clamp (by omega : k < 2 ^ 31), nI_clamp (by omega : 120 + k < 2 ^ 31), nI_clamp (by omega : 126 + k < 2 ^ 31), nI_clamp (by omega : 132 + k < 2 ^ 31)]
      refine ⟨_, ⟨?_, ?_⟩, rfl⟩
      · intro j hj
        simp only [up_if]
        rw [if_neg (by omega), if_neg (by omega), if_neg (by omega)]
        exact hI.1 j hj
      · intro j hj
        simp only [up_if]
        refine ⟨?_, ?_, ?_⟩
        · rw [if_neg (by omega), if_neg (by omega)]
          by_cases e : j = k
          · rw [if_pos (by omega), e]
          · rw [if_neg (by omega)]; exact (hI.2 j (by omega)).1
        · rw [if_neg (by omega)]
          by_cases e : j = k
          · rw [if_pos (by omega), e]
          · rw [if_neg (by omega), if_neg (by omega)]; exact (hI.2 j (by omega)).2.1
        · by_cases e : j = k
          · rw [if_pos (by omega), e]
          · rw [if_neg (by omega), if_neg (by omega), if_neg (by omega)]; exact (hI.2 j (by omega)).2.2) d1 (by decide) ⟨fun _ _ => rfl, fun j hj => absurd hj (by omega)⟩
  have e138 : (138 : Int32).toNatClampNeg = 138 := rfl
  refine ⟨upd d2 138 m, ?_, ?_, ?_, ?_⟩
  · unfold f_X9_keepNow
    rw [h1, jn_some, h2, jn_some, gu_ok (by unfold inR; decide), e138]
  · intro j hj
    simp only [up_if]
    rw [if_neg (by omega), if_neg (by omega), if_neg (by omega), i2.1 j (by omega), i2.1 (40 + j) (by omega), i2.1 (80 + j) (by omega)]
    exact i1 j hj
  · intro j hj
    simp only [up_if]
    rw [if_neg (by omega), if_neg (by omega), if_neg (by omega)]
    exact i2.2 j hj
  · rw [up_s]
theorem p_back {d b n o s h c : Nat → Int32} {m : Int32} (hd : HAD d b n o s h c m) (b2 n2 o2 s2 h2 c2 : Nat → Int32) (v : Int32) : ∃ b3 n3 o3 s3 h3 c3, f_X9_back b2 n2 o2 s2 h2 c2 d v = some (v, b3, n3, o3, s3, h3, c3, m) ∧ ag 40 b3 b ∧ ag 40 n3 n ∧ ag 40 o3 o ∧ ag 6 s3 s ∧ ag 6 h3 h ∧ ag 6 c3 c := by
  obtain ⟨hd1, hd2, hd3⟩ := hd
  obtain ⟨q1, i1, h1⟩ := cnt0 (fun nn (z : (Nat → Int32) × (Nat → Int32) × (Nat → Int32)) y => f_X9_back_L2 d nn y z.1 z.2.1 z.2.2) 40 100 (fun z => (nI 40, z.1, z.2.1, z.2.2)) (fun k z => ag k z.1 b ∧ ag k z.2.1 n ∧ ag k z.2.2 o) (fun nn z _ => by
      show f_X9_back_L2 d (nn + 1) (nI 40) z.1 z.2.1 z.2.2 = _
      rw [f_X9_back_L2, if_pos (yle (n := 40) rfl (Nat.le_refl 40) (by decide))]) (fun nn z k hk hI => by
      show ∃ s' : (Nat → Int32) × (Nat → Int32) × (Nat → Int32), _ ∧ f_X9_back_L2 d (nn + 1) (nI k) z.1 z.2.1 z.2.2 = f_X9_back_L2 d nn (nI (k + 1)) s'.1 s'.2.1 s'.2.2
      rw [f_X9_back_L2, if_neg (nle (n := 40) rfl hk)]
      simp only [la40, la80, gu_nI hk (by decide : (40 : Nat) < 2 ^ 31), gu_nI (by omega : k < 139) (by decide : (139 : Nat) < 2 ^ 31), gu_nI (by omega : 40 + k < 139) (by decide : (139 : Nat) < 2 ^ 31), gu_nI (by omega : 80 + k < 139) (by decide : (139 : Nat) < 2 ^ 31), nI_1, nI_clamp (by omega : k < 2 ^ 31), nI_clamp (by omega : 40 + k < 2 ^ 31), nI_clamp (by omega : 80 + k < 2 ^ 31)]
      obtain ⟨k1, k2, k3⟩ := hd1 k hk
      refine ⟨(upd z.1 k (d k), upd z.2.1 k (d (40 + k)), upd z.2.2 k (d (80 + k))), ⟨?_, ?_, ?_⟩, rfl⟩
      · intro j hj
        dsimp only
        rw [up_if]
        by_cases e : j = k
        · rw [if_pos e, e, k1]
        · rw [if_neg e]; exact hI.1 j (by omega)
      · intro j hj
        dsimp only
        rw [up_if]
        by_cases e : j = k
        · rw [if_pos e, e, k2]
        · rw [if_neg e]; exact hI.2.1 j (by omega)
      · intro j hj
        dsimp only
        rw [up_if]
        by_cases e : j = k
        · rw [if_pos e, e, k3]
        · rw [if_neg e]; exact hI.2.2 j (by omega)) (b2, n2, o2) (by decide) ⟨fun j hj => absurd hj (by omega), fun j hj => absurd hj (by omega), fun j hj => absurd hj (by omega)⟩
  obtain ⟨q2, i2, h2'⟩ := cnt0 (fun nn (z : (Nat → Int32) × (Nat → Int32) × (Nat → Int32)) y => f_X9_back_L58 d nn y z.1 z.2.1 z.2.2) 6 100 (fun z => (nI 6, z.1, z.2.1, z.2.2)) (fun k z => ag k z.1 s ∧ ag k z.2.1 h ∧ ag k z.2.2 c) (fun nn z _ => by
      show f_X9_back_L58 d (nn + 1) (nI 6) z.1 z.2.1 z.2.2 = _
      rw [f_X9_back_L58, if_pos (yle (n := 6) rfl (Nat.le_refl 6) (by decide))]) (fun nn z k hk hI => by
      show ∃ s' : (Nat → Int32) × (Nat → Int32) × (Nat → Int32), _ ∧ f_X9_back_L58 d (nn + 1) (nI k) z.1 z.2.1 z.2.2 = f_X9_back_L58 d nn (nI (k + 1)) s'.1 s'.2.1 s'.2.2
      rw [f_X9_back_L58, if_neg (nle (n := 6) rfl hk)]
      simp only [la120, la126, la132, gu_nI hk (by decide : (6 : Nat) < 2 ^ 31), gu_nI (by omega : 120 + k < 139) (by decide : (139 : Nat) < 2 ^ 31), gu_nI (by omega : 126 + k < 139) (by decide : (139 : Nat) < 2 ^ 31), gu_nI (by omega : 132 + k < 139) (by decide : (139 : Nat) < 2 ^ 31), nI_1, nI_clamp (by omega : k < 2 ^ 31), nI_clamp (by omega : 120 + k < 2 ^ 31), nI_clamp (by omega : 126 + k < 2 ^ 31), nI_clamp (by omega : 132 + k < 2 ^ 31)]
      obtain ⟨k1, k2, k3⟩ := hd2 k hk
      refine ⟨(upd z.1 k (d (120 + k)), upd z.2.1 k (d (126 + k)), upd z.2.2 k (d (132 + k))), ⟨?_, ?_, ?_⟩, rfl⟩
      · intro j hj
        dsimp only
        rw [up_if]
        by_cases e : j = k
        · rw [if_pos e, e, k1]
        · rw [if_neg e]; exact hI.1 j (by omega)
      · intro j hj
        dsimp only
        rw [up_if]
        by_cases e : j = k
        · rw [if_pos e, e, k2]
        · rw [if_neg e]; exact hI.2.1 j (by omega)
      · intro j hj
        dsimp only
        rw [up_if]
        by_cases e : j = k
        · rw [if_pos e, e, k3]
        · rw [if_neg e]; exact hI.2.2 j (by omega)) (s2, h2, c2) (by decide) ⟨fun j hj => absurd hj (by omega), fun j hj => absurd hj (by omega), fun j hj => absurd hj (by omega)⟩
  have e138 : (138 : Int32).toNatClampNeg = 138 := rfl
  refine ⟨q1.1, q1.2.1, q1.2.2, q2.1, q2.2.1, q2.2.2, ?_, i1.1, i1.2.1, i1.2.2, i2.1, i2.2.1, i2.2.2⟩
  have h1 : f_X9_back_L2 d 100 0 b2 n2 o2 = some (nI 40, q1.1, q1.2.1, q1.2.2) := h1
  have h2' : f_X9_back_L58 d 100 0 s2 h2 c2 = some (nI 6, q2.1, q2.2.1, q2.2.2) := h2'
  unfold f_X9_back
  rw [h1, jn_some, h2', jn_some, gu_ok (by unfold inR; decide), e138, hd3]
/-- counts, in range -/
theorem ag_nicks {n n' : Nat → Int32} (h : ag 40 n n') : f_X0_nickCount n = f_X0_nickCount n' := by
  have key : ∀ nn y1 y2, f_X0_nickCount_L4 n nn y1 y2 = f_X0_nickCount_L4 n' nn y1 y2 := by
    intro nn
    induction nn with
    | zero => intro y1 y2; rfl
    | succ nn ih =>
      intro y1 y2
      rw [f_X0_nickCount_L4, f_X0_nickCount_L4]
      by_cases hi : inR y2 40
      · simp only [gu_ok hi, ag_at h hi, ih]
      · simp only [gu_no hi]
  unfold f_X0_nickCount
  rw [key]
theorem ag_chosenBits {n n' : Nat → Int32} (h : ag 6 n n') : f_X0_chosenBits n = f_X0_chosenBits n' := by
  have key : ∀ nn y1 y2, f_X0_chosenBits_L4 n nn y1 y2 = f_X0_chosenBits_L4 n' nn y1 y2 := by
    intro nn
    induction nn with
    | zero => intro y1 y2; rfl
    | succ nn ih =>
      intro y1 y2
      rw [f_X0_chosenBits_L4, f_X0_chosenBits_L4]
      by_cases hi : inR y2 6
      · simp only [gu_ok hi, ag_at h hi, ih]
      · simp only [gu_no hi]
  unfold f_X0_chosenBits
  rw [key]
theorem ag_rightBits {o o' c c' : Nat → Int32} (ho : ag 40 o o') (h : ag 6 c c') : f_X0_rightBits o c = f_X0_rightBits o' c' := by
  have key : ∀ nn y1 y2, f_X0_rightBits_L4 o c nn y1 y2 = f_X0_rightBits_L4 o' c' nn y1 y2 := by
    intro nn
    induction nn with
    | zero => intro y1 y2; rfl
    | succ nn ih =>
      intro y1 y2
      rw [f_X0_rightBits_L4, f_X0_rightBits_L4]
      by_cases hi : inR y2 6
      · simp only [gu_ok hi, ag_at h hi, ih, jP]
        by_cases h2 : (0 : Int32) ≤ c' y2.toNatClampNeg ∧ c' y2.toNatClampNeg ≤ 39
        · simp only [if_pos h2, gu_ok (pl_in h2), ag_at ho (pl_in h2)]
        · simp only [if_neg h2, if_true]
      · simp only [gu_no hi]
  unfold f_X0_rightBits
  rw [key]
theorem cpy_ag (f g : Nat → Int32) (N : Nat) : ag N (va_cpy f g 0 0 N) f := fun i hi => by
  rw [pk_cpy_in (Nat.zero_le i) (by omega)]
  congr 1
  omega
theorem WG_ag {b n o s k h c b' n' o' s' k' h' c' : Nat → Int32} {m : Int32} (w : WG b n o s k h c m) (hb : ag 40 b' b) (hn : ag 40 n' n) (ho : ag 40 o' o) (hs : ag 6 s' s) (hk : ag 6 k' k) (hh : ag 6 h' h) (hc : ag 6 c' c) : WG b' n' o' s' k' h' c' m := by
  obtain ⟨g1, g2, g3, g4, g5, g6, g7, g8⟩ := w
  exact ⟨fun i hi => by rw [hb i hi]; exact g1 i hi, fun i hi => by rw [hn i hi]; exact g2 i hi, fun i hi => by rw [ho i hi]; exact g3 i hi, fun i hi => by rw [hs i hi]; exact g4 i hi, fun i hi => by rw [hk i hi]; exact g5 i hi, fun i hi => by rw [hh i hi]; exact g6 i hi, fun i hi => by rw [hc i hi]; exact g7 i hi, g8⟩
