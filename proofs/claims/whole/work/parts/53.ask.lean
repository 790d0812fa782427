/-! a question about sights -/
theorem sm_one (c v : Nat) : ∀ N, fb_sm (fun x => if x = c then v else 0) N = if c < N then v else 0
  | 0 => rfl
  | N + 1 => by
    rw [fb_sm_succ, sm_one c v N]
    by_cases h1 : N = c
    · subst h1
      rw [if_neg (Nat.lt_irrefl _), if_pos rfl, if_pos (Nat.lt_succ_self _), Nat.zero_add]
    · rw [if_neg h1, Nat.add_zero]
      by_cases h2 : c < N
      · rw [if_pos h2, if_pos (by omega)]
      · rw [if_neg h2, if_neg (by omega)]
/-- counted by columns -/
theorem by_col (F : Nat → Bool) (col : Nat → Nat) (P : Nat → Bool) (N : Nat) : ∀ n, (∀ k, k < n → col k < N) → fb_sm (fun x => if P x = true then fb_ct (fun k => F k && decide (col k = x)) n else 0) N = fb_ct (fun k => F k && P (col k)) n
  | 0, _ => by
    have : (fun x => if P x = true then fb_ct (fun k => F k && decide (col k = x)) 0 else 0) = fun _ => 0 := by
      funext x; by_cases h : P x = true
      · rw [if_pos h]; rfl
      · rw [if_neg h]
    rw [this, fb_sm_const]
    rfl
  | n + 1, h => by
    have e : (fun x => if P x = true then fb_ct (fun k => F k && decide (col k = x)) (n + 1) else 0) = fun x => (if P x = true then fb_ct (fun k => F k && decide (col k = x)) n else 0) + (if x = col n then (if (F n && P (col n)) = true then 1 else 0) else 0) := by
      funext x
      by_cases hp : P x = true
      · rw [if_pos hp, if_pos hp, fb_ct_succ]
        by_cases hx : x = col n
        · subst hx
          rw [if_pos rfl, hp, decide_eq_true rfl]
        · rw [if_neg hx, decide_eq_false (fun z => hx z.symm), Bool.and_false]
          rfl
      · rw [if_neg hp, if_neg hp]
        by_cases hx : x = col n
        · subst hx
          rw [if_pos rfl, if_neg (fun z => hp (by revert z; cases F n <;> simp)), Nat.add_zero]
        · rw [if_neg hx]
    rw [e, fb_sm_add, by_col F col P N n (fun k hk => h k (by omega)), sm_one, if_pos (h n (by omega)), fb_ct_succ]
section
variable {b sb ss si : Nat → Int32} {C : Nat}
/-- places that fit; of them, those like some beat -/
def FT (b sb ss si : Nat → Int32) (C : Nat) (k : Nat) : Bool := fits sb ss si C (b k)
def TT (b sb ss si : Nat → Int32) (C : Nat) : Nat := fb_ct (FT b sb ss si C) 40
def WW (b sb ss si : Nat → Int32) (C : Nat) (q d : Int32) : Nat := fb_ct (fun k => FT b sb ss si C k && nr (b k) q d) 40
def MM (b sb ss si : Nat → Int32) (C : Nat) (q d : Int32) : Nat := if WW b sb ss si C q d ≤ TT b sb ss si C - WW b sb ss si C q d then TT b sb ss si C - WW b sb ss si C q d else WW b sb ss si C q d
theorem WW_le (q d : Int32) : WW b sb ss si C q d ≤ TT b sb ss si C := fb_ct_sub (fun k _ h => by
  cases hf : FT b sb ss si C k
  · rw [hf, Bool.false_and] at h; exact h
  · rfl)
theorem TT_le : TT b sb ss si C ≤ 40 := fb_ct_le _ _
theorem MM_le (q d : Int32) : MM b sb ss si C q d ≤ 40 := by
  have h1 := WW_le (b := b) (sb := sb) (ss := ss) (si := si) (C := C) q d
  have h2 := TT_le (b := b) (sb := sb) (ss := ss) (si := si) (C := C)
  unfold MM; split <;> omega
theorem MM_0 (q d : Int32) : MM b sb ss si C q d = 0 ↔ TT b sb ss si C = 0 := by
  have h1 := WW_le (b := b) (sb := sb) (ss := ss) (si := si) (C := C) q d
  unfold MM; split <;> omega
theorem m_mostL (hC : C ≤ 8) (wb : ∀ i, i < 40 → bd (b i) 1 9) (w1 : ∀ j, j < 8 → bd (sb j) 0 9) (w2 : ∀ j, j < 8 → bd (ss j) 0 8) (w3 : ∀ j, j < 8 → si j = 0 ∨ si j = 1) {q d : Int32} (hq : bd q 0 9) (hd : bd d 0 8) : ∀ dd k nn, k + dd = 40 → dd < nn → f_X9_mostLeft_L8 q d b sb ss si (nI C) nn (nI (fb_ct (fun k => FT b sb ss si C k && nr (b k) q d) k)) (nI (fb_ct (FT b sb ss si C) k)) (nI k) = some (nI (WW b sb ss si C q d), nI (TT b sb ss si C), nI 40) := by
  intro dd
  induction dd with
  | zero =>
    intro k nn hk hn
    obtain ⟨a, rfl⟩ : ∃ a, nn = a + 1 := ⟨nn - 1, by omega⟩
    obtain rfl : k = 40 := by omega
    have hle : (40 : Int32) ≤ nI 40 := by decide
    rw [f_X9_mostLeft_L8, if_pos hle]; rfl
  | succ dd ih =>
    intro k nn hk hn
    obtain ⟨a, rfl⟩ : ∃ a, nn = a + 1 := ⟨nn - 1, by omega⟩
    have hni : ¬ (40 : Int32) ≤ nI k := nI_ge (b := 40) (by omega) (by omega)
    have hcl : (nI k).toNatClampNeg = k := nI_clamp (by omega)
    have hf : fits sb ss si C (b k) = FT b sb ss si C k := rfl
    have hih := ih (k + 1) a (by omega) (by omega)
    rw [fb_ct_succ, fb_ct_succ] at hih
    rw [f_X9_mostLeft_L8, if_neg hni, m_fit hC (by omega) w1 w2 w3, jn_some, hf]
    have hg : ∀ {ρ : Type} (z : Option ρ), gu (nI k) 40 z = z := fun z => gu_nI (by omega) (by decide) z
    simp only [bi_eq, hg, hcl, m_near hq hd, jn_some, nI_1]
    have a0 : ∀ z : Int32, z + 0 = z := fun z => Int32.add_zero z
    cases hF : FT b sb ss si C k
    · rw [hF] at hih
      rw [if_pos (by decide), jn_some, if_pos (by decide), a0, a0]
      simpa using hih
    · rw [hF] at hih
      rw [if_neg (by decide), jn_some, if_neg (by decide), nI_1]
      cases hN : nr (b k) q d
      · rw [hN] at hih
        rw [if_pos (by decide), a0]
        simpa using hih
      · rw [hN] at hih
        rw [if_neg (by decide)]
        simpa using hih
theorem m_most (hC : C ≤ 8) (wb : ∀ i, i < 40 → bd (b i) 1 9) (w1 : ∀ j, j < 8 → bd (sb j) 0 9) (w2 : ∀ j, j < 8 → bd (ss j) 0 8) (w3 : ∀ j, j < 8 → si j = 0 ∨ si j = 1) {q d : Int32} (hq : bd q 0 9) (hd : bd d 0 8) : f_X9_mostLeft b sb ss si (nI C) q d = some (nI (MM b sb ss si C q d)) := by
  unfold f_X9_mostLeft
  have e := m_mostL (C := C) hC wb w1 w2 w3 hq hd 40 0 100 (by omega) (by omega)
  rw [show fb_ct (fun k => FT b sb ss si C k && nr (b k) q d) 0 = 0 from rfl, show fb_ct (FT b sb ss si C) 0 = 0 from rfl, nI_0] at e
  rw [e, jn_some]
  dsimp only
  have h1 := WW_le (b := b) (sb := sb) (ss := ss) (si := si) (C := C) q d
  have h2 := TT_le (b := b) (sb := sb) (ss := ss) (si := si) (C := C)
  have es : nI (TT b sb ss si C) - nI (WW b sb ss si C q d) = nI (TT b sb ss si C - WW b sb ss si C q d) := pk_sub h1
  rw [es]
  unfold MM
  by_cases hx : WW b sb ss si C q d ≤ TT b sb ss si C - WW b sb ss si C q d
  · rw [if_pos hx, if_pos ((nI_leI (by omega) (by omega)).2 hx)]
  · rw [if_neg hx, if_neg (fun z => hx ((nI_leI (by omega) (by omega)).1 z))]
end
