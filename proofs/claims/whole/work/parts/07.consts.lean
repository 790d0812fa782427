theorem kB_m6 : (Int8.ofInt (-6)).toInt32 = (-6) := by decide
theorem kB_m5 : (Int8.ofInt (-5)).toInt32 = (-5) := by decide
theorem kB_m4 : (Int8.ofInt (-4)).toInt32 = (-4) := by decide
theorem kB_m3 : (Int8.ofInt (-3)).toInt32 = (-3) := by decide
theorem kB_m2 : (Int8.ofInt (-2)).toInt32 = (-2) := by decide
theorem kB_6 : (Int8.ofInt 6).toInt32 = 6 := by decide
theorem kB_7 : (Int8.ofInt 7).toInt32 = 7 := by decide
theorem kB_8 : (Int8.ofInt 8).toInt32 = 8 := by decide
theorem kB_9 : (Int8.ofInt 9).toInt32 = 9 := by decide
theorem kB_10 : (Int8.ofInt 10).toInt32 = 10 := by decide
theorem kB_11 : (Int8.ofInt 11).toInt32 = 11 := by decide
theorem kB_20 : (Int8.ofInt 20).toInt32 = 20 := by decide
theorem kB_30 : (Int8.ofInt 30).toInt32 = 30 := by decide
theorem kB_31 : (Int8.ofInt 31).toInt32 = 31 := by decide
theorem kB_33 : (Int8.ofInt 33).toInt32 = 33 := by decide
theorem kB_39 : (Int8.ofInt 39).toInt32 = 39 := by decide
theorem kB_40 : (Int8.ofInt 40).toInt32 = 40 := by decide
theorem kB_42 : (Int8.ofInt 42).toInt32 = 42 := by decide
theorem kB_46 : (Int8.ofInt 46).toInt32 = 46 := by decide
theorem kB_48 : (Int8.ofInt 48).toInt32 = 48 := by decide
theorem kB_49 : (Int8.ofInt 49).toInt32 = 49 := by decide
theorem kB_57 : (Int8.ofInt 57).toInt32 = 57 := by decide
theorem kB_60 : (Int8.ofInt 60).toInt32 = 60 := by decide
theorem kB_62 : (Int8.ofInt 62).toInt32 = 62 := by decide
theorem kB_63 : (Int8.ofInt 63).toInt32 = 63 := by decide
theorem kB_65 : (Int8.ofInt 65).toInt32 = 65 := by decide
theorem kB_70 : (Int8.ofInt 70).toInt32 = 70 := by decide
theorem kB_74 : (Int8.ofInt 74).toInt32 = 74 := by decide
theorem kB_75 : (Int8.ofInt 75).toInt32 = 75 := by decide
theorem kB_80 : (Int8.ofInt 80).toInt32 = 80 := by decide
theorem kB_99 : (Int8.ofInt 99).toInt32 = 99 := by decide
theorem kB_100 : (Int8.ofInt 100).toInt32 = 100 := by decide
theorem kB_120 : (Int8.ofInt 120).toInt32 = 120 := by decide
theorem kB_126 : (Int8.ofInt 126).toInt32 = 126 := by decide
theorem kI_m1 : Int32.ofInt (-1) = (-1) := by decide
theorem kI_0 : Int32.ofInt 0 = 0 := by decide
theorem kI_1 : Int32.ofInt 1 = 1 := by decide
theorem kI_2 : Int32.ofInt 2 = 2 := by decide
theorem kI_3 : Int32.ofInt 3 = 3 := by decide
theorem kI_4 : Int32.ofInt 4 = 4 := by decide
theorem kI_5 : Int32.ofInt 5 = 5 := by decide
theorem kS_128 : (Int16.ofInt 128).toInt32 = 128 := by decide
theorem kS_132 : (Int16.ofInt 132).toInt32 = 132 := by decide
theorem kS_138 : (Int16.ofInt 138).toInt32 = 138 := by decide
theorem kS_139 : (Int16.ofInt 139).toInt32 = 139 := by decide
theorem kS_170 : (Int16.ofInt 170).toInt32 = 170 := by decide
theorem kS_200 : (Int16.ofInt 200).toInt32 = 200 := by decide
theorem kS_300 : (Int16.ofInt 300).toInt32 = 300 := by decide
theorem kS_340 : (Int16.ofInt 340).toInt32 = 340 := by decide
theorem kS_399 : (Int16.ofInt 399).toInt32 = 399 := by decide
theorem kS_998 : (Int16.ofInt 998).toInt32 = 998 := by decide
theorem kS_999 : (Int16.ofInt 999).toInt32 = 999 := by decide
theorem kS_1000 : (Int16.ofInt 1000).toInt32 = 1000 := by decide
theorem kS_9999 : (Int16.ofInt 9999).toInt32 = 9999 := by decide
section GGM
variable {ρ : Type} {X : KX} {D : va_G} {T : Nat → ClassId} {Q : ρ → State → Prop} {n : Nat × Nat} {ws ws' : va_W} {lv lv' : List (Nat × Value)} {pc : Nat} {st : List Value} {o o1 o2 : Option ρ} {cc : ByteArray} {own : String} {rm : Room}
theorem gg_leafL {α β : Type} {v : α} {f : α → Option ρ} {g : β → Option ρ} (h0 : GG X D Q n ws lv pc st (f v)) : GG X D (JQ (Sum.elim f g) Q) n ws lv pc st (some (Sum.inl v)) := gg_leaf (k := Sum.elim f g) (v := Sum.inl v) h0
theorem gg_leafR {α β : Type} {v : β} {f : α → Option ρ} {g : β → Option ρ} (h0 : GG X D Q n ws lv pc st (g v)) : GG X D (JQ (Sum.elim f g) Q) n ws lv pc st (some (Sum.inr v)) := gg_leaf (k := Sum.elim f g) (v := Sum.inr v) h0
theorem gg_aald2_0 (C : Cx X D T cc own rm) (q0 : Nat) {a g0 g1 : Nat} {i : Int32} (he : ws[q0]? = some (a, .inl (T 2, 2, .inr (.inr (.inr (.inr (pr2 g0 g1))))))) (hd : decode cc pc = .ok (.aaload, 1)) (k0 : i = 0 → GG X D Q n ws lv (pc + 1) (.ref g0 :: st) o1) (k1 : i = 1 → GG X D Q n ws lv (pc + 1) (.ref g1 :: st) o2) : GG X D Q n ws lv pc (.int i :: .ref a :: st) (if i = 0 then o1 else if i = 1 then o2 else none) := by
  obtain ⟨p, l, e, R, s, m, args, below, meth, c, A, nL⟩ := X
  obtain ⟨hx, hb, hml, hown, hts, hK, hA, hlk, hR, hSE⟩ := C
  intro res h H locs ls hP hD hS hL
  by_cases h0 : i = 0
  · rw [if_pos h0] at h
    subst h0
    exact va_aldq hx hb hK hP q0 2 he (C := RX0) rfl (by unfold vp_in; decide) hd (k0 rfl res h H locs ls hP hD hS hL)
  · rw [if_neg h0] at h
    by_cases h1 : i = 1
    · rw [if_pos h1] at h
      subst h1
      exact va_aldq hx hb hK hP q0 2 he (C := RX0) rfl (by unfold vp_in; decide) hd (k1 rfl res h H locs ls hP hD hS hL)
    · rw [if_neg h1] at h
      cases h
theorem gg_aald2_1 (C : Cx X D T cc own rm) (q0 : Nat) {a g0 g1 : Nat} {i : Int32} (he : ws[q0]? = some (a, .inl (T 3, 2, .inr (.inr (.inr (.inr (pr2 g0 g1))))))) (hd : decode cc pc = .ok (.aaload, 1)) (k0 : i = 0 → GG X D Q n ws lv (pc + 1) (.ref g0 :: st) o1) (k1 : i = 1 → GG X D Q n ws lv (pc + 1) (.ref g1 :: st) o2) : GG X D Q n ws lv pc (.int i :: .ref a :: st) (if i = 0 then o1 else if i = 1 then o2 else none) := by
  obtain ⟨p, l, e, R, s, m, args, below, meth, c, A, nL⟩ := X
  obtain ⟨hx, hb, hml, hown, hts, hK, hA, hlk, hR, hSE⟩ := C
  intro res h H locs ls hP hD hS hL
  by_cases h0 : i = 0
  · rw [if_pos h0] at h
    subst h0
    exact va_aldq hx hb hK hP q0 3 he (C := RX6) rfl (by unfold vp_in; decide) hd (k0 rfl res h H locs ls hP hD hS hL)
  · rw [if_neg h0] at h
    by_cases h1 : i = 1
    · rw [if_pos h1] at h
      subst h1
      exact va_aldq hx hb hK hP q0 3 he (C := RX6) rfl (by unfold vp_in; decide) hd (k1 rfl res h H locs ls hP hD hS hL)
    · rw [if_neg h1] at h
      cases h
end GGM

