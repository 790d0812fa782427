/-! THE PURE PART: plain rows -/
theorem jn_some {α ρ : Type} (a : α) (k : α → Option ρ) : jn (some a) k = k a := rfl
theorem jn_none {α ρ : Type} (k : α → Option ρ) : jn (none : Option α) k = none := rfl
theorem bi_eq {α ρ : Type} (e : α) (k : α → Option ρ) : bi e k = k e := rfl
theorem i_lt (a b : Int32) : a < b ↔ a.toInt < b.toInt := Int32.lt_iff_toInt_lt
theorem i_le (a b : Int32) : a ≤ b ↔ a.toInt ≤ b.toInt := Int32.le_iff_toInt_le
theorem i_eq (a b : Int32) : a = b ↔ a.toInt = b.toInt := Int32.toInt_inj.symm
theorem l_lt (a b : Int64) : a < b ↔ a.toInt < b.toInt := Int64.lt_iff_toInt_lt
theorem l_le (a b : Int64) : a ≤ b ↔ a.toInt ≤ b.toInt := Int64.le_iff_toInt_le
theorem l_eq (a b : Int64) : a = b ↔ a.toInt = b.toInt := Int64.toInt_inj.symm
/-- an index in range, in Int -/
def inR (i : Int32) (N : Nat) : Prop := 0 ≤ i.toInt ∧ i.toInt < N
theorem gu_ok {ρ : Type} {i : Int32} {N : Nat} (h : inR i N) (o : Option ρ) : gu i N o = o := by
  unfold gu
  rw [if_neg]
  obtain ⟨h1, h2⟩ := h
  rw [i_lt]
  simp only [Int32.toInt_zero, not_or]
  refine ⟨by omega, ?_⟩
  show ¬ N ≤ i.toInt.toNat
  omega
theorem inR_nI {k N : Nat} (h : k < N) (hN : N < 2 ^ 31) : inR (nI k) N := by
  unfold inR
  rw [nI_toInt (by omega)]
  omega
theorem gu_nI {ρ : Type} {k N : Nat} (h : k < N) (hN : N < 2 ^ 31) (o : Option ρ) : gu (nI k) N o = o := gu_ok (inR_nI h hN) o
theorem gd_ok {ρ : Type} {y : Int32} (h : y ≠ 0) (o : Option ρ) : gd y o = o := by unfold gd; rw [if_neg h]
theorem gdL_ok {ρ : Type} {y : Int64} (h : y ≠ 0) (o : Option ρ) : gdL y o = o := by unfold gdL; rw [if_neg h]
theorem gz_0 {ρ : Type} (o : Option ρ) : gz 0 o = o := by unfold gz; rw [if_pos (Or.inl rfl)]
theorem gz_1 {ρ : Type} (o : Option ρ) : gz 1 o = o := by unfold gz; rw [if_pos (Or.inr rfl)]
/-- a number, and an index of it -/
theorem ix_of {i : Int32} {N : Nat} (h : inR i N) (hN : N < 2 ^ 31) : ∃ k : Nat, k < N ∧ i = nI k ∧ i.toNatClampNeg = k := by
  obtain ⟨h1, h2⟩ := h
  refine ⟨i.toInt.toNat, by omega, ?_, rfl⟩
  rw [i_eq, nI_toInt (by omega)]
  omega
theorem ix_lt {i : Int32} {N : Nat} (h : inR i N) : i.toNatClampNeg < N := by
  obtain ⟨h1, h2⟩ := h
  show i.toInt.toNat < N
  omega
theorem up_s {f : Nat → Int32} {k : Nat} {x : Int32} : upd f k x k = x := pk_us
theorem up_n {f : Nat → Int32} {k j : Nat} {x : Int32} (h : j ≠ k) : upd f k x j = f j := pk_un h
theorem up_if (f : Nat → Int32) (k : Nat) (x : Int32) (j : Nat) : upd f k x j = if j = k then x else f j := by
  by_cases h : j = k
  · subst h; rw [up_s, if_pos rfl]
  · rw [up_n h, if_neg h]
/-- the two tests of a range -/
theorem isW (v lo hi : Int32) : f_X8_isWithin v lo hi = some (if lo ≤ v ∧ v ≤ hi then 1 else 0) := by
  unfold f_X8_isWithin
  by_cases h1 : v < lo
  · rw [if_pos h1, if_neg]
    rintro ⟨h2, -⟩
    rw [i_lt] at h1; rw [i_le] at h2; omega
  · rw [if_neg h1]
    by_cases h2 : hi < v
    · rw [if_pos h2, if_neg]
      rintro ⟨-, h3⟩
      rw [i_lt] at h2; rw [i_le] at h3; omega
    · rw [if_neg h2, if_pos]
      rw [i_lt] at h1 h2; rw [i_le, i_le]; omega
theorem lgL (x y : Int64) : lg_cmp x y < 0 ↔ x < y := by
  unfold lg_cmp
  simp only [gt_iff_lt, Int64.lt_iff_toInt_lt, ← Int64.toInt_inj]
  repeat' split
  all_goals (constructor <;> intro hh <;> first | omega | decide | exact absurd hh (by decide))
theorem lgG (x y : Int64) : 0 < lg_cmp x y ↔ y < x := by
  unfold lg_cmp
  simp only [gt_iff_lt, Int64.lt_iff_toInt_lt, ← Int64.toInt_inj]
  repeat' split
  all_goals (constructor <;> intro hh <;> first | omega | decide | exact absurd hh (by decide))
theorem lgE (x y : Int64) : lg_cmp x y = 0 ↔ x = y := by
  unfold lg_cmp
  simp only [gt_iff_lt, Int64.lt_iff_toInt_lt, ← Int64.toInt_inj]
  repeat' split
  all_goals (constructor <;> intro hh <;> first | omega | decide | exact absurd hh (by decide))
theorem lgLe (x y : Int64) : lg_cmp x y ≤ 0 ↔ x ≤ y := by
  unfold lg_cmp
  simp only [gt_iff_lt, Int64.lt_iff_toInt_lt, Int64.le_iff_toInt_le, ← Int64.toInt_inj]
  repeat' split
  all_goals (constructor <;> intro hh <;> first | omega | decide | exact absurd hh (by decide))
theorem inL (v lo hi : Int64) : f_X9_in v lo hi = some (if lo ≤ v ∧ v ≤ hi then 1 else 0) := by
  unfold f_X9_in
  by_cases h1 : lg_cmp v lo < 0
  · rw [if_pos h1, if_neg]
    rintro ⟨h2, -⟩
    rw [lgL, l_lt] at h1; rw [l_le] at h2; omega
  · rw [if_neg h1]
    by_cases h2 : 0 < lg_cmp v hi
    · rw [if_pos h2, if_neg]
      rintro ⟨-, h3⟩
      rw [lgG, l_lt] at h2; rw [l_le] at h3; omega
    · rw [if_neg h2, if_pos]
      rw [lgL, l_lt] at h1; rw [lgG, l_lt] at h2; rw [l_le, l_le]; omega
theorem wide_toInt (a : Int32) : a.toInt64.toInt = a.toInt := Int32.toInt_toInt64 a
/-- the reference's test at ints is the class's -/
theorem inI (v : Int32) (lo hi : Int64) (lo' hi' : Int32) (h1 : lo'.toInt64 = lo) (h2 : hi'.toInt64 = hi) : f_X9_in v.toInt64 lo hi = f_X8_isWithin v lo' hi' := by
  subst h1; subst h2
  rw [inL, isW]
  simp only [l_le, i_le, wide_toInt]
theorem isPl (v : Int32) : f_X8_isPlace v = some (if 0 ≤ v ∧ v ≤ 39 then 1 else 0) := by
  unfold f_X8_isPlace
  have e0 : (0 : Int32).toInt = 0 := rfl
  have e1 : (39 : Int32).toInt = 39 := rfl
  have e2 : (40 : Int32).toInt = 40 := rfl
  by_cases h1 : v < 0
  · rw [if_pos h1, if_neg]
    rintro ⟨h2, -⟩
    rw [i_lt] at h1; rw [i_le] at h2; omega
  · rw [if_neg h1]
    by_cases h2 : (40 : Int32) ≤ v
    · rw [if_pos h2, if_neg]
      rintro ⟨-, h3⟩
      rw [i_le] at h2 h3; omega
    · rw [if_neg h2, if_pos]
      rw [i_lt] at h1; rw [i_le] at h2; rw [i_le, i_le]; omega
theorem isHe (v : Int32) : f_X8_isHeir v = some (if 0 ≤ v ∧ v ≤ 5 then 1 else 0) := by
  unfold f_X8_isHeir
  have e0 : (0 : Int32).toInt = 0 := rfl
  have e1 : (5 : Int32).toInt = 5 := rfl
  have e2 : (6 : Int32).toInt = 6 := rfl
  by_cases h1 : v < 0
  · rw [if_pos h1, if_neg]
    rintro ⟨h2, -⟩
    rw [i_lt] at h1; rw [i_le] at h2; omega
  · rw [if_neg h1]
    by_cases h2 : (6 : Int32) ≤ v
    · rw [if_pos h2, if_neg]
      rintro ⟨-, h3⟩
      rw [i_le] at h2 h3; omega
    · rw [if_neg h2, if_pos]
      rw [i_lt] at h1; rw [i_le] at h2; rw [i_le, i_le]; omega
theorem isBe (v : Int32) : f_X8_isBeat v = some (if 1 ≤ v ∧ v ≤ 9 then 1 else 0) := by
  unfold f_X8_isBeat
  rw [isW, jn_some]
  by_cases h : (1 : Int32) ≤ v ∧ v ≤ 9
  · rw [if_pos h, gz_1]
  · rw [if_neg h, gz_0]
theorem mPl (v : Int32) : f_X9_isPlace v = f_X8_isPlace v := by
  rw [isPl]
  unfold f_X9_isPlace
  rw [inI v 0 39 0 39 (by decide) (by decide), isW, jn_some]
  by_cases h : (0 : Int32) ≤ v ∧ v ≤ 39
  · rw [if_pos h, gz_1]
  · rw [if_neg h, gz_0]
theorem mHe (v : Int32) : f_X9_isHeir v = f_X8_isHeir v := by
  rw [isHe]
  unfold f_X9_isHeir
  rw [inI v 0 5 0 5 (by decide) (by decide), isW, jn_some]
  by_cases h : (0 : Int32) ≤ v ∧ v ≤ 5
  · rw [if_pos h, gz_1]
  · rw [if_neg h, gz_0]
/-- a test, then what follows -/
theorem jW {ρ : Type} (v lo hi : Int32) (k : Int32 → Option ρ) : jn (f_X8_isWithin v lo hi) k = if lo ≤ v ∧ v ≤ hi then k 1 else k 0 := by
  rw [isW, jn_some]; by_cases h : lo ≤ v ∧ v ≤ hi
  · rw [if_pos h, if_pos h]
  · rw [if_neg h, if_neg h]
theorem jP {ρ : Type} (v : Int32) (k : Int32 → Option ρ) : jn (f_X8_isPlace v) k = if 0 ≤ v ∧ v ≤ 39 then k 1 else k 0 := by
  rw [isPl, jn_some]; by_cases h : (0 : Int32) ≤ v ∧ v ≤ 39
  · rw [if_pos h, if_pos h]
  · rw [if_neg h, if_neg h]
theorem jH {ρ : Type} (v : Int32) (k : Int32 → Option ρ) : jn (f_X8_isHeir v) k = if 0 ≤ v ∧ v ≤ 5 then k 1 else k 0 := by
  rw [isHe, jn_some]; by_cases h : (0 : Int32) ≤ v ∧ v ≤ 5
  · rw [if_pos h, if_pos h]
  · rw [if_neg h, if_neg h]
theorem jB {ρ : Type} (v : Int32) (k : Int32 → Option ρ) : jn (f_X8_isBeat v) k = if 1 ≤ v ∧ v ≤ 9 then k 1 else k 0 := by
  rw [isBe, jn_some]; by_cases h : (1 : Int32) ≤ v ∧ v ≤ 9
  · rw [if_pos h, if_pos h]
  · rw [if_neg h, if_neg h]
theorem i10 : ((1 : Int32) = 0) = False := by decide
theorem i00 : ((0 : Int32) = 0) = True := by decide
theorem pl_in {v : Int32} (h : 0 ≤ v ∧ v ≤ 39) : inR v 40 := by
  rw [i_le, i_le] at h
  have e1 : (0 : Int32).toInt = 0 := rfl
  have e2 : (39 : Int32).toInt = 39 := rfl
  unfold inR; omega
theorem he_in {v : Int32} (h : 0 ≤ v ∧ v ≤ 5) : inR v 6 := by
  rw [i_le, i_le] at h
  have e1 : (0 : Int32).toInt = 0 := rfl
  have e2 : (5 : Int32).toInt = 5 := rfl
  unfold inR; omega
/-- bounds, in Int -/
def bd (x : Int32) (lo hi : Int) : Prop := lo ≤ x.toInt ∧ x.toInt ≤ hi
theorem bd_of {v lo hi : Int32} {a b : Int} (h : lo ≤ v ∧ v ≤ hi) (ha : lo.toInt = a) (hb : hi.toInt = b) : bd v a b := by
  rw [i_le, i_le] at h
  unfold bd; omega
theorem bd_to {v lo hi : Int32} {a b : Int} (h : bd v a b) (ha : lo.toInt = a) (hb : hi.toInt = b) : lo ≤ v ∧ v ≤ hi := by
  rw [i_le, i_le]
  unfold bd at h; omega
/-- what a gallery holds -/
def WG (b n o s k h c : Nat → Int32) (m : Int32) : Prop := (∀ i, i < 40 → bd (b i) 1 9) ∧ (∀ i, i < 40 → n i = 0 ∨ n i = 1) ∧ (∀ i, i < 40 → o i = -6 ∨ bd (o i) 0 5) ∧ (∀ i, i < 6 → bd (s i) 0 39) ∧ (∀ i, i < 6 → bd (k i) 1 9) ∧ (∀ i, i < 6 → bd (h i) 0 99) ∧ (∀ i, i < 6 → c i = -6 ∨ bd (c i) 0 39) ∧ bd m 0 60
/-- what sights hold -/
def WS (b s i : Nat → Int32) (c : Int32) : Prop := (∀ j, j < 8 → bd (b j) 0 9) ∧ (∀ j, j < 8 → bd (s j) 0 8) ∧ (∀ j, j < 8 → i j = 0 ∨ i j = 1) ∧ bd c 0 8
/-- an image of the class, and the reference's stored row from x on -/
def WI (b n o s k h c : Nat → Int32) (m : Int32) (sb ss si : Nat → Int32) (sc : Int32) (st : Nat → Int32) (x : Nat) : Prop := WG b n o s k h c m ∧ WS sb ss si sc ∧ st x = m ∧ st (x + 1) = sc ∧ (∀ j, j < 40 → st (x + 2 + j) = b j) ∧ (∀ j, j < 40 → st (x + 42 + j) = n j) ∧ (∀ j, j < 40 → st (x + 82 + j) = o j) ∧ (∀ j, j < 6 → st (x + 122 + j) = s j) ∧ (∀ j, j < 6 → st (x + 128 + j) = k j) ∧ (∀ j, j < 6 → st (x + 134 + j) = h j) ∧ (∀ j, j < 6 → st (x + 140 + j) = c j) ∧ (∀ j, j < 8 → st (x + 146 + j) = sb j) ∧ (∀ j, j < 8 → st (x + 154 + j) = ss j) ∧ (∀ j, j < 8 → st (x + 162 + j) = si j)
theorem all_up {f : Nat → Int32} {P : Int32 → Prop} {N k : Nat} {x : Int32} (h : ∀ i, i < N → P (f i)) (hx : P x) : ∀ i, i < N → P (upd f k x i) := by
  intro i hi
  rw [up_if]
  by_cases e : i = k
  · rw [if_pos e]; exact hx
  · rw [if_neg e]; exact h i hi
