/-! digits of a row -/
theorem k_tens : ∀ i : Nat, i < 10 → tens i = nI (10 ^ i) := by decide +kernel
def dg (V T i : Nat) : Nat := V / 10 ^ (T - 1 - i) % 10
theorem c_digit {V T i : Nat} (hV : V < 2 ^ 31) (hT : T ≤ 9) (hi : i < T) : f_X5_digit (nI V) (nI T) (nI i) = some (nI (dg V T i)) := by
  unfold f_X5_digit dg
  have e1 : nI T - 1 - nI i = nI (T - 1 - i) := by
    rw [show nI T - 1 = nI (T - 1) from pk_sub (b := 1) (by omega), pk_sub (by omega)]
  have hcl : (nI (T - 1 - i)).toNatClampNeg = T - 1 - i := nI_clamp (by omega)
  have hp : 10 ^ (T - 1 - i) ≤ 10 ^ 9 := Nat.pow_le_pow_right (by decide) (by omega)
  have hp0 : 0 < 10 ^ (T - 1 - i) := Nat.pow_pos (by decide)
  have hd : V / 10 ^ (T - 1 - i) ≤ V := Nat.div_le_self _ _
  have hw : (0 : Int32) ≤ nI (T - 1 - i) ∧ nI (T - 1 - i) ≤ 9 := bd_to (a := 0) (b := 9) (by unfold bd; rw [nI_toInt (by omega)]; omega) rfl rfl
  rw [e1, bi_eq, jW, if_pos hw, n10, gu_nI (by omega) (by decide), hcl, k_tens _ (by omega), gd_ok (nI_ne0 hp0 (by omega)), pk_div hV hp0 (by omega)]
  exact congrArg some (pk_rem (d := 10) (by omega) (by decide) (by decide))
theorem dg_lt (V T i : Nat) : dg V T i < 10 := Nat.mod_lt _ (by decide)
