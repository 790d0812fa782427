/-- the class's table of beats that fit -/
def colF (b : Nat → Int32) (k : Nat) : Nat := (b k).toNatClampNeg
theorem c_zero : ∀ d k nn (f : Nat → Int32), k + d = 10 → d < nn → (∀ j, j < k → f j = 0) → ∃ f' y, f_X6_countFitting_L2 nn (nI k) f = some (y, f') ∧ ∀ j, j < 10 → f' j = 0 := by
  intro d
  induction d with
  | zero =>
    intro k nn f hk hn hf
    obtain ⟨a, rfl⟩ : ∃ a, nn = a + 1 := ⟨nn - 1, by omega⟩
    obtain rfl : k = 10 := by omega
    exact ⟨f, nI 10, by rw [f_X6_countFitting_L2, if_pos (by decide)], hf⟩
  | succ d ih =>
    intro k nn f hk hn hf
    obtain ⟨a, rfl⟩ : ∃ a, nn = a + 1 := ⟨nn - 1, by omega⟩
    have hcl : (nI k).toNatClampNeg = k := nI_clamp (by omega)
    rw [f_X6_countFitting_L2, if_neg (nlt (n := 9) rfl (by omega)), gu_nI (by omega) (by decide), hcl, nI_1]
    refine ih (k + 1) a _ (by omega) (by omega) (fun j hj => ?_)
    rw [up_if]
    by_cases h : j = k
    · rw [if_pos h]
    · rw [if_neg h]; exact hf j (by omega)
section
variable {b sb ss si : Nat → Int32} {C : Nat}
theorem c_cntL (hC : C ≤ 8) (wb : ∀ i, i < 40 → bd (b i) 1 9) (w1 : ∀ j, j < 8 → bd (sb j) 0 9) : ∀ d k nn (f : Nat → Int32), k + d = 40 → d < nn → (∀ x, x < 10 → f x = nI (fb_ct (fun j => FT b sb ss si C j && decide (colF b j = x)) k)) → ∃ f', f_X6_countFitting_L25 sb ss si (nI C) b nn (nI (fb_ct (FT b sb ss si C) k)) (nI k) f = some (nI (TT b sb ss si C), nI 40, f') ∧ ∀ x, x < 10 → f' x = nI (fb_ct (fun j => FT b sb ss si C j && decide (colF b j = x)) 40) := by
  intro d
  induction d with
  | zero =>
    intro k nn f hk hn hf
    obtain ⟨a, rfl⟩ : ∃ a, nn = a + 1 := ⟨nn - 1, by omega⟩
    obtain rfl : k = 40 := by omega
    exact ⟨f, by rw [f_X6_countFitting_L25, if_pos (by decide)]; rfl, hf⟩
  | succ d ih =>
    intro k nn f hk hn hf
    obtain ⟨a, rfl⟩ : ∃ a, nn = a + 1 := ⟨nn - 1, by omega⟩
    have hni : ¬ (40 : Int32) ≤ nI k := nI_ge (b := 40) (by omega) (by omega)
    have hcl : (nI k).toNatClampNeg = k := nI_clamp (by omega)
    have hbk := wb k (by omega)
    have hb0 : bd (b k) 0 9 := by unfold bd at *; omega
    have hb1 : (1 : Int32) ≤ b k ∧ b k ≤ 9 := bd_to hbk rfl rfl
    have hbi : inR (b k) 10 := by unfold bd at hbk; unfold inR; omega
    have hcol : (b k).toNatClampNeg = colF b k := rfl
    have hco : colF b k < 10 := ix_lt hbi
    rw [f_X6_countFitting_L25, if_neg hni, gu_nI (by omega) (by decide), bi_eq, hcl, jB, if_pos hb1, if_neg (by decide), c_fit hC hb0 w1, jn_some]
    have hF : fits sb ss si C (b k) = FT b sb ss si C k := rfl
    have e2 : fb_ct (FT b sb ss si C) (k + 1) = _ := fb_ct_succ _ _
    rw [hF]
    cases hT : FT b sb ss si C k
    · rw [if_pos (by decide), nI_1]
      rw [hT] at e2
      have e2' : fb_ct (FT b sb ss si C) (k + 1) = fb_ct (FT b sb ss si C) k := e2
      have := ih (k + 1) a f (by omega) (by omega) (fun x hx => by
        rw [hf x hx, fb_ct_succ, hT, Bool.false_and]; rfl)
      rw [e2'] at this
      exact this
    · rw [if_neg (by decide), gu_ok hbi, gu_ok hbi, nI_1, nI_1]
      rw [hT] at e2
      have e2' : fb_ct (FT b sb ss si C) (k + 1) = fb_ct (FT b sb ss si C) k + 1 := e2
      have := ih (k + 1) a (upd f (b k).toNatClampNeg (f (b k).toNatClampNeg + 1)) (by omega) (by omega) (fun x hx => by
        rw [up_if, fb_ct_succ, hT, Bool.true_and, hcol]
        by_cases hx2 : x = colF b k
        · subst hx2
          rw [if_pos rfl, hf _ hx, decide_eq_true rfl, nI_1]; rfl
        · rw [if_neg hx2, hf _ hx, decide_eq_false (fun z => hx2 z.symm)]; rfl)
      rw [e2'] at this
      exact this
theorem c_nearL {f : Nat → Int32} (g : Nat → Nat) (hf : ∀ x, x < 10 → f x = nI (g x)) {q d : Int32} (hq : bd q 0 9) : ∀ dd k nn, k + dd = 10 → dd < nn → f_X6_countNear_L5 q d f nn (nI (fb_sm (fun x => if nr (nI x) q d = true then g x else 0) k)) (nI k) = some (nI (fb_sm (fun x => if nr (nI x) q d = true then g x else 0) 10), nI 10) := by
  intro dd
  induction dd with
  | zero =>
    intro k nn hk hn
    obtain ⟨a, rfl⟩ : ∃ a, nn = a + 1 := ⟨nn - 1, by omega⟩
    obtain rfl : k = 10 := by omega
    rw [f_X6_countNear_L5, if_pos (by decide)]
  | succ dd ih =>
    intro k nn hk hn
    obtain ⟨a, rfl⟩ : ∃ a, nn = a + 1 := ⟨nn - 1, by omega⟩
    have hcl : (nI k).toNatClampNeg = k := nI_clamp (by omega)
    have hkb : bd (nI k) 0 9 := by unfold bd; rw [nI_toInt (by omega)]; omega
    have e := ih (k + 1) a (by omega) (by omega)
    rw [fb_sm_succ] at e
    rw [f_X6_countNear_L5, if_neg (nlt (n := 9) rfl (by omega)), c_near hkb hq, jn_some, gu_nI (by omega) (by decide), hcl, nI_1, bi_eq, hf k (by omega), nI_add]
    cases hN : nr (nI k) q d
    · rw [if_pos (by decide)]
      rw [hN] at e
      exact e
    · rw [if_neg (by decide)]
      rw [hN] at e
      exact e
theorem c_cntNear (wb : ∀ i, i < 40 → bd (b i) 1 9) {f : Nat → Int32} (hf : ∀ x, x < 10 → f x = nI (fb_ct (fun j => FT b sb ss si C j && decide (colF b j = x)) 40)) {q d : Int32} (hq : bd q 0 9) : f_X6_countNear f q d = some (nI (WW b sb ss si C q d)) := by
  unfold f_X6_countNear
  have hc : ∀ k, k < 40 → 1 ≤ colF b k ∧ colF b k < 10 ∧ nI (colF b k) = b k := by
    intro k hk
    have := wb k hk
    unfold bd at this
    have e : colF b k = (b k).toInt.toNat := rfl
    refine ⟨by omega, by omega, ?_⟩
    rw [i_eq, nI_toInt (by omega)]; omega
  have z0 : fb_ct (fun j => FT b sb ss si C j && decide (colF b j = 0)) 40 = 0 := by
    rw [fb_ct_zero]
    intro k hk
    rw [decide_eq_false (by have := hc k hk; omega), Bool.and_false]
  have e := c_nearL (fun x => fb_ct (fun j => FT b sb ss si C j && decide (colF b j = x)) 40) hf (d := d) hq 9 1 100 (by omega) (by omega)
  have s1 : fb_sm (fun x => if nr (nI x) q d = true then fb_ct (fun j => FT b sb ss si C j && decide (colF b j = x)) 40 else 0) 1 = 0 := by
    rw [fb_sm_succ]
    show 0 + (if nr (nI 0) q d = true then fb_ct (fun j => FT b sb ss si C j && decide (colF b j = 0)) 40 else 0) = 0
    rw [z0]; split <;> rfl
  rw [s1, nI_0, by_col (FT b sb ss si C) (colF b) (fun x => nr (nI x) q d) 10 40 (fun k hk => (hc k hk).2.1)] at e
  have e2 : fb_ct (fun k => FT b sb ss si C k && nr (nI (colF b k)) q d) 40 = WW b sb ss si C q d := fb_ct_cong (fun k hk => by rw [(hc k hk).2.2])
  rw [e2] at e
  have h1 : nI 1 = 1 := rfl
  rw [h1] at e
  rw [e, jn_some]
/-- the best of the questions behind the first -/
def bst (b sb ss si : Nat → Int32) (C : Nat) : Nat → Nat × Nat
  | 0 => (10, MM b sb ss si C 1 0)
  | j + 1 => if (11 + j) % 10 = 9 then bst b sb ss si C j else if (bst b sb ss si C j).2 ≤ MM b sb ss si C (nI ((11 + j) / 10)) (nI ((11 + j) % 10)) then bst b sb ss si C j else (11 + j, MM b sb ss si C (nI ((11 + j) / 10)) (nI ((11 + j) % 10)))
theorem bst_le : ∀ j, (bst b sb ss si C j).1 ≤ 10 + j ∧ (bst b sb ss si C j).2 ≤ 40
  | 0 => ⟨Nat.le_refl _, MM_le _ _⟩
  | j + 1 => by
    have := bst_le j
    rw [bst]
    split
    · exact ⟨by omega, this.2⟩
    · split
      · exact ⟨by omega, this.2⟩
      · exact ⟨by show 11 + j ≤ _; omega, MM_le _ _⟩
theorem bst_0 : ∀ j, (bst b sb ss si C j).2 = 0 ↔ TT b sb ss si C = 0
  | 0 => MM_0 _ _
  | j + 1 => by
    have := bst_0 j
    rw [bst]
    split
    · exact this
    · split
      · exact this
      · exact MM_0 _ _
theorem m_askL (hC : C ≤ 8) (wb : ∀ i, i < 40 → bd (b i) 1 9) (w1 : ∀ j, j < 8 → bd (sb j) 0 9) (w2 : ∀ j, j < 8 → bd (ss j) 0 8) (w3 : ∀ j, j < 8 → si j = 0 ∨ si j = 1) : ∀ d j nn, j + d = 88 → d < nn → f_X9_ask_L27 b sb ss si (nI C) nn (nI (bst b sb ss si C j).1) (nI (bst b sb ss si C j).2) (nI (11 + j)) = some (nI (bst b sb ss si C 88).1, nI (bst b sb ss si C 88).2, nI 99) := by
  intro d
  induction d with
  | zero =>
    intro j nn hj hn
    obtain ⟨a, rfl⟩ : ∃ a, nn = a + 1 := ⟨nn - 1, by omega⟩
    obtain rfl : j = 88 := by omega
    rw [f_X9_ask_L27, if_pos (by decide)]
  | succ d ih =>
    intro j nn hj hn
    obtain ⟨a, rfl⟩ : ∃ a, nn = a + 1 := ⟨nn - 1, by omega⟩
    have hni : ¬ (99 : Int32) ≤ nI (11 + j) := nI_ge (b := 99) (by omega) (by omega)
    have er : nI (11 + j) - nI (11 + j) / 10 * 10 = nI ((11 + j) % 10) := pk_rem (d := 10) (by omega) (by decide) (by decide)
    have eq : nI (11 + j) / 10 = nI ((11 + j) / 10) := pk_div (d := 10) (by omega) (by decide) (by decide)
    have e := ih (j + 1) a (by omega) (by omega)
    have hb := bst_le (b := b) (sb := sb) (ss := ss) (si := si) (C := C) j
    have hm := MM_le (b := b) (sb := sb) (ss := ss) (si := si) (C := C) (nI ((11 + j) / 10)) (nI ((11 + j) % 10))
    rw [f_X9_ask_L27, if_neg hni]
    simp only [er]
    rw [eq, nI_1]
    have h11 : 11 + (j + 1) = 11 + j + 1 := rfl
    rw [h11, bst] at e
    unfold f_X9_less
    by_cases h9 : (11 + j) % 10 = 9
    · rw [if_pos h9] at e
      rw [if_pos (by rw [h9]; decide), jn_some, if_pos (by rw [i_le]; exact Int.le_refl _), jn_some, if_pos (by rw [i_le]; exact Int.le_refl _), jn_some]
      exact e
    · rw [if_neg h9] at e
      have hq : bd (nI ((11 + j) / 10)) 0 9 := by unfold bd; rw [nI_toInt (by omega)]; omega
      have hd : bd (nI ((11 + j) % 10)) 0 8 := by unfold bd; rw [nI_toInt (by omega)]; omega
      have hx : ¬ (9 : Int32) ≤ nI ((11 + j) % 10) := nI_ge (b := 9) (by omega) (by omega)
      rw [if_neg hx, m_most hC wb w1 w2 w3 hq hd, jn_some, jn_some]
      by_cases hle : (bst b sb ss si C j).2 ≤ MM b sb ss si C (nI ((11 + j) / 10)) (nI ((11 + j) % 10))
      · rw [if_pos hle] at e
        have q1 : nI (bst b sb ss si C j).2 ≤ nI (MM b sb ss si C (nI ((11 + j) / 10)) (nI ((11 + j) % 10))) := nI_le hle (by omega)
        rw [if_pos q1, jn_some]
        by_cases hge : nI (MM b sb ss si C (nI ((11 + j) / 10)) (nI ((11 + j) % 10))) ≤ nI (bst b sb ss si C j).2
        · have hgn := (nI_leI (by omega) (by omega)).1 hge
          rw [if_pos hge, jn_some, Nat.le_antisymm hgn hle]
          exact e
        · rw [if_neg hge, jn_some]
          exact e
      · rw [if_neg hle] at e
        have q1 : ¬ nI (bst b sb ss si C j).2 ≤ nI (MM b sb ss si C (nI ((11 + j) / 10)) (nI ((11 + j) % 10))) := fun z => hle ((nI_leI (by omega) (by omega)).1 z)
        have q2 : nI (MM b sb ss si C (nI ((11 + j) / 10)) (nI ((11 + j) % 10))) ≤ nI (bst b sb ss si C j).2 := nI_le (by omega) (by omega)
        rw [if_neg q1, jn_some, if_pos q2, jn_some]
        exact e
end
