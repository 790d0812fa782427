/-! rows that are stored, and read again -/
def LR (L : Nat → Int32 → (Nat → Int32) → (Nat → Int32) → Int32 → Option (Int32 × (Nat → Int32) × (Nat → Int32) × Int32)) (N : Nat) (w : Int32) : Prop := ∀ nn y3 row st q, L (nn + 1) y3 row st q = if nI N ≤ y3 then some (y3, row, st, q) else gu y3 N (jn (f_X9_put st q w (row y3.toNatClampNeg)) (fun r1 => gu y3 N (L nn (y3 + 1) (upd row y3.toNatClampNeg r1.1) r1.2.1 r1.2.2)))
theorem put_1 {st : Nat → Int32} {x : Nat} (hx : x < 340) (v : Int32) : f_X9_put st (nI x) 1 v = some (v, upd st x v, nI (x + 1)) := by
  have hcl : (nI x).toNatClampNeg = x := nI_clamp (by omega)
  unfold f_X9_put
  rw [if_neg (by decide), jn_some, gu_nI hx (by decide), hcl, nI_1]
theorem put_0 {st : Nat → Int32} {x : Nat} (hx : x < 340) (v : Int32) : f_X9_put st (nI x) 0 v = some (st x, st, nI (x + 1)) := by
  have hcl : (nI x).toNatClampNeg = x := nI_clamp (by omega)
  unfold f_X9_put
  rw [if_pos rfl, gu_nI hx (by decide), jn_some, gu_nI hx (by decide), hcl, nI_1, fa_upd_same rfl]
theorem row_1 {L : Nat → Int32 → (Nat → Int32) → (Nat → Int32) → Int32 → Option (Int32 × (Nat → Int32) × (Nat → Int32) × Int32)} {N : Nat} (hL : LR L N 1) {x : Nat} (hN : N ≤ 40) (hx : x + N ≤ 340) (row : Nat → Int32) : ∀ d k nn (st : Nat → Int32), k + d = N → d < nn → (∀ j, j < k → st (x + j) = row j) → ∃ st', L nn (nI k) row st (nI (x + k)) = some (nI N, row, st', nI (x + N)) ∧ (∀ j, j < N → st' (x + j) = row j) ∧ (∀ j, (j < x ∨ x + N ≤ j) → st' j = st j) := by
  intro d
  induction d with
  | zero =>
    intro k nn st hk hn hs
    obtain ⟨a, rfl⟩ : ∃ a, nn = a + 1 := ⟨nn - 1, by omega⟩
    obtain rfl : k = N := by omega
    exact ⟨st, by rw [hL, if_pos (by rw [i_le]; exact Int.le_refl _)], hs, fun _ _ => rfl⟩
  | succ d ih =>
    intro k nn st hk hn hs
    obtain ⟨a, rfl⟩ : ∃ a, nn = a + 1 := ⟨nn - 1, by omega⟩
    have hcl : (nI k).toNatClampNeg = k := nI_clamp (by omega)
    have hg : ∀ {ρ : Type} (z : Option ρ), gu (nI k) N z = z := fun z => gu_nI (by omega) (by omega) z
    rw [hL, if_neg (nI_ge (by omega) (by omega)), hg, hcl, put_1 (by omega), jn_some, hg, nI_1]
    dsimp only
    rw [fa_upd_same rfl, show x + k + 1 = x + (k + 1) from rfl]
    obtain ⟨st', e1, e2, e3⟩ := ih (k + 1) a (upd st (x + k) (row k)) (by omega) (by omega) (fun j hj => by
      rw [up_if]
      by_cases h : x + j = x + k
      · rw [if_pos h, show j = k by omega]
      · rw [if_neg h]; exact hs j (by omega))
    refine ⟨st', e1, e2, fun j hj => ?_⟩
    rw [e3 j hj, up_n (by omega)]
theorem row_0 {L : Nat → Int32 → (Nat → Int32) → (Nat → Int32) → Int32 → Option (Int32 × (Nat → Int32) × (Nat → Int32) × Int32)} {N : Nat} (hL : LR L N 0) {x : Nat} (hN : N ≤ 40) (hx : x + N ≤ 340) (st : Nat → Int32) : ∀ d k nn (row : Nat → Int32), k + d = N → d < nn → (∀ j, j < k → row j = st (x + j)) → ∃ row', L nn (nI k) row st (nI (x + k)) = some (nI N, row', st, nI (x + N)) ∧ (∀ j, j < N → row' j = st (x + j)) := by
  intro d
  induction d with
  | zero =>
    intro k nn row hk hn hs
    obtain ⟨a, rfl⟩ : ∃ a, nn = a + 1 := ⟨nn - 1, by omega⟩
    obtain rfl : k = N := by omega
    exact ⟨row, by rw [hL, if_pos (by rw [i_le]; exact Int.le_refl _)], hs⟩
  | succ d ih =>
    intro k nn row hk hn hs
    obtain ⟨a, rfl⟩ : ∃ a, nn = a + 1 := ⟨nn - 1, by omega⟩
    have hcl : (nI k).toNatClampNeg = k := nI_clamp (by omega)
    have hg : ∀ {ρ : Type} (z : Option ρ), gu (nI k) N z = z := fun z => gu_nI (by omega) (by omega) z
    rw [hL, if_neg (nI_ge (by omega) (by omega)), hg, hcl, put_0 (by omega), jn_some, hg, nI_1]
    dsimp only
    exact ih (k + 1) a _ (by omega) (by omega) (fun j hj => by
      rw [up_if]
      by_cases h : j = k
      · rw [if_pos h, h]
      · rw [if_neg h]; exact hs j (by omega))
theorem lr_beat (w : Int32) : LR (f_X9_passRow_beat_L2 40 w) 40 w := fun _ _ _ _ _ => rfl
theorem lr_nick (w : Int32) : LR (f_X9_passRow_nick_L2 40 w) 40 w := fun _ _ _ _ _ => rfl
theorem lr_owner (w : Int32) : LR (f_X9_passRow_owner_L2 40 w) 40 w := fun _ _ _ _ _ => rfl
theorem lr_place (w : Int32) : LR (f_X9_passRow_place_L2 6 w) 6 w := fun _ _ _ _ _ => rfl
theorem lr_kept (w : Int32) : LR (f_X9_passRow_kept_L2 6 w) 6 w := fun _ _ _ _ _ => rfl
theorem lr_heard (w : Int32) : LR (f_X9_passRow_heard_L2 6 w) 6 w := fun _ _ _ _ _ => rfl
theorem lr_chosen (w : Int32) : LR (f_X9_passRow_chosen_L2 6 w) 6 w := fun _ _ _ _ _ => rfl
theorem lr_sb (w : Int32) : LR (f_X9_passRow_sightBeat_L2 8 w) 8 w := fun _ _ _ _ _ => rfl
theorem lr_ss (w : Int32) : LR (f_X9_passRow_sightOff_L2 8 w) 8 w := fun _ _ _ _ _ => rfl
theorem lr_si (w : Int32) : LR (f_X9_passRow_sightIs_L2 8 w) 8 w := fun _ _ _ _ _ => rfl
