theorem row_1' {L : Nat → Int32 → (Nat → Int32) → (Nat → Int32) → Int32 → Option (Int32 × (Nat → Int32) × (Nat → Int32) × Int32)} {N : Nat} (hL : LR L N 1) {x y : Nat} (hN : N ≤ 40) (hx : x + N ≤ 340) (hy : x + N = y) (row st : Nat → Int32) : ∃ st', L 100 0 row st (nI x) = some (nI N, row, st', nI y) ∧ (∀ j, j < N → st' (x + j) = row j) ∧ (∀ j, (j < x ∨ y ≤ j) → st' j = st j) := by
  subst hy
  exact row_1 hL hN hx row N 0 100 st (by omega) (by omega) (fun j hj => absurd hj (by omega))
theorem row_0' {L : Nat → Int32 → (Nat → Int32) → (Nat → Int32) → Int32 → Option (Int32 × (Nat → Int32) × (Nat → Int32) × Int32)} {N : Nat} (hL : LR L N 0) {x y : Nat} (hN : N ≤ 40) (hx : x + N ≤ 340) (hy : x + N = y) (row st : Nat → Int32) : ∃ row', L 100 0 row st (nI x) = some (nI N, row', st, nI y) ∧ (∀ j, j < N → row' j = st (x + j)) := by
  subst hy
  exact row_0 hL hN hx st N 0 100 row (by omega) (by omega) (fun j hj => absurd hj (by omega))
/-- what a stored row holds from x on -/
def ST (st : Nat → Int32) (x : Nat) (b n o s k h c : Nat → Int32) (m : Int32) (sb ss si : Nat → Int32) (sc : Int32) : Prop := st x = m ∧ st (x + 1) = sc ∧ (∀ j, j < 40 → st (x + 2 + j) = b j) ∧ (∀ j, j < 40 → st (x + 42 + j) = n j) ∧ (∀ j, j < 40 → st (x + 82 + j) = o j) ∧ (∀ j, j < 6 → st (x + 122 + j) = s j) ∧ (∀ j, j < 6 → st (x + 128 + j) = k j) ∧ (∀ j, j < 6 → st (x + 134 + j) = h j) ∧ (∀ j, j < 6 → st (x + 140 + j) = c j) ∧ (∀ j, j < 8 → st (x + 146 + j) = sb j) ∧ (∀ j, j < 8 → st (x + 154 + j) = ss j) ∧ (∀ j, j < 8 → st (x + 162 + j) = si j)
theorem all_1 {x : Nat} (hx : x ≤ 170) (b n o s k h c : Nat → Int32) (m : Int32) (sb ss si : Nat → Int32) (sc : Int32) (st : Nat → Int32) : ∃ st', f_X9_passAll b n o s k h c m sb ss si sc st (nI x) 1 = some (b, n, o, s, k, h, c, m, sb, ss, si, sc, st', nI (x + 170)) ∧ ST st' x b n o s k h c m sb ss si sc ∧ ∀ j, (j < x ∨ x + 170 ≤ j) → st' j = st j := by
  obtain ⟨t0, e0, w0, u0⟩ := row_1' (lr_beat 1) (x := x + 2) (y := x + 42) (by omega) (by omega) (by omega) b (upd (upd st x m) (x + 1) sc)
  obtain ⟨t1, e1, w1, u1⟩ := row_1' (lr_nick 1) (x := x + 42) (y := x + 82) (by omega) (by omega) (by omega) n (t0)
  obtain ⟨t2, e2, w2, u2⟩ := row_1' (lr_owner 1) (x := x + 82) (y := x + 122) (by omega) (by omega) (by omega) o (t1)
  obtain ⟨t3, e3, w3, u3⟩ := row_1' (lr_place 1) (x := x + 122) (y := x + 128) (by omega) (by omega) (by omega) s (t2)
  obtain ⟨t4, e4, w4, u4⟩ := row_1' (lr_kept 1) (x := x + 128) (y := x + 134) (by omega) (by omega) (by omega) k (t3)
  obtain ⟨t5, e5, w5, u5⟩ := row_1' (lr_heard 1) (x := x + 134) (y := x + 140) (by omega) (by omega) (by omega) h (t4)
  obtain ⟨t6, e6, w6, u6⟩ := row_1' (lr_chosen 1) (x := x + 140) (y := x + 146) (by omega) (by omega) (by omega) c (t5)
  obtain ⟨t7, e7, w7, u7⟩ := row_1' (lr_sb 1) (x := x + 146) (y := x + 154) (by omega) (by omega) (by omega) sb (t6)
  obtain ⟨t8, e8, w8, u8⟩ := row_1' (lr_ss 1) (x := x + 154) (y := x + 162) (by omega) (by omega) (by omega) ss (t7)
  obtain ⟨t9, e9, w9, u9⟩ := row_1' (lr_si 1) (x := x + 162) (y := x + 170) (by omega) (by omega) (by omega) si (t8)
  refine ⟨t9, ?_, ⟨?_, ?_, ?_, ?_, ?_, ?_, ?_, ?_, ?_, ?_, ?_, ?_⟩, fun j hj => ?_⟩
  · unfold f_X9_passAll f_X9_passRow_beat f_X9_passRow_nick f_X9_passRow_owner f_X9_passRow_place f_X9_passRow_kept f_X9_passRow_heard f_X9_passRow_chosen f_X9_passRow_sightBeat f_X9_passRow_sightOff f_X9_passRow_sightIs
    simp only [put_1 (show x < 340 by omega), put_1 (show x + 1 < 340 by omega), jn_some, show x + 1 + 1 = x + 2 from rfl, e0, e1, e2, e3, e4, e5, e6, e7, e8, e9]
  · rw [u9 _ (by omega), u8 _ (by omega), u7 _ (by omega), u6 _ (by omega), u5 _ (by omega), u4 _ (by omega), u3 _ (by omega), u2 _ (by omega), u1 _ (by omega), u0 _ (by omega), up_n (by omega), up_s]
  · rw [u9 _ (by omega), u8 _ (by omega), u7 _ (by omega), u6 _ (by omega), u5 _ (by omega), u4 _ (by omega), u3 _ (by omega), u2 _ (by omega), u1 _ (by omega), u0 _ (by omega), up_s]
  · intro j hj; rw [u9 _ (by omega), u8 _ (by omega), u7 _ (by omega), u6 _ (by omega), u5 _ (by omega), u4 _ (by omega), u3 _ (by omega), u2 _ (by omega), u1 _ (by omega)]; exact w0 j hj
  · intro j hj; rw [u9 _ (by omega), u8 _ (by omega), u7 _ (by omega), u6 _ (by omega), u5 _ (by omega), u4 _ (by omega), u3 _ (by omega), u2 _ (by omega)]; exact w1 j hj
  · intro j hj; rw [u9 _ (by omega), u8 _ (by omega), u7 _ (by omega), u6 _ (by omega), u5 _ (by omega), u4 _ (by omega), u3 _ (by omega)]; exact w2 j hj
  · intro j hj; rw [u9 _ (by omega), u8 _ (by omega), u7 _ (by omega), u6 _ (by omega), u5 _ (by omega), u4 _ (by omega)]; exact w3 j hj
  · intro j hj; rw [u9 _ (by omega), u8 _ (by omega), u7 _ (by omega), u6 _ (by omega), u5 _ (by omega)]; exact w4 j hj
  · intro j hj; rw [u9 _ (by omega), u8 _ (by omega), u7 _ (by omega), u6 _ (by omega)]; exact w5 j hj
  · intro j hj; rw [u9 _ (by omega), u8 _ (by omega), u7 _ (by omega)]; exact w6 j hj
  · intro j hj; rw [u9 _ (by omega), u8 _ (by omega)]; exact w7 j hj
  · intro j hj; rw [u9 _ (by omega)]; exact w8 j hj
  · intro j hj; exact w9 j hj
  · rw [u9 _ (by omega), u8 _ (by omega), u7 _ (by omega), u6 _ (by omega), u5 _ (by omega), u4 _ (by omega), u3 _ (by omega), u2 _ (by omega), u1 _ (by omega), u0 _ (by omega), up_n (by omega), up_n (by omega)]
theorem all_0 {x : Nat} (hx : x ≤ 170) (b n o s k h c : Nat → Int32) (m : Int32) (sb ss si : Nat → Int32) (sc : Int32) (st : Nat → Int32) : ∃ b' n' o' s' k' h' c' sb' ss' si', f_X9_passAll b n o s k h c m sb ss si sc st (nI x) 0 = some (b', n', o', s', k', h', c', st x, sb', ss', si', st (x + 1), st, nI (x + 170)) ∧ ST st x b' n' o' s' k' h' c' (st x) sb' ss' si' (st (x + 1)) := by
  obtain ⟨t0, e0, w0⟩ := row_0' (lr_beat 0) (x := x + 2) (y := x + 42) (by omega) (by omega) (by omega) b st
  obtain ⟨t1, e1, w1⟩ := row_0' (lr_nick 0) (x := x + 42) (y := x + 82) (by omega) (by omega) (by omega) n st
  obtain ⟨t2, e2, w2⟩ := row_0' (lr_owner 0) (x := x + 82) (y := x + 122) (by omega) (by omega) (by omega) o st
  obtain ⟨t3, e3, w3⟩ := row_0' (lr_place 0) (x := x + 122) (y := x + 128) (by omega) (by omega) (by omega) s st
  obtain ⟨t4, e4, w4⟩ := row_0' (lr_kept 0) (x := x + 128) (y := x + 134) (by omega) (by omega) (by omega) k st
  obtain ⟨t5, e5, w5⟩ := row_0' (lr_heard 0) (x := x + 134) (y := x + 140) (by omega) (by omega) (by omega) h st
  obtain ⟨t6, e6, w6⟩ := row_0' (lr_chosen 0) (x := x + 140) (y := x + 146) (by omega) (by omega) (by omega) c st
  obtain ⟨t7, e7, w7⟩ := row_0' (lr_sb 0) (x := x + 146) (y := x + 154) (by omega) (by omega) (by omega) sb st
  obtain ⟨t8, e8, w8⟩ := row_0' (lr_ss 0) (x := x + 154) (y := x + 162) (by omega) (by omega) (by omega) ss st
  obtain ⟨t9, e9, w9⟩ := row_0' (lr_si 0) (x := x + 162) (y := x + 170) (by omega) (by omega) (by omega) si st
  refine ⟨t0, t1, t2, t3, t4, t5, t6, t7, t8, t9, ?_, ⟨rfl, rfl, fun j hj => (w0 j hj).symm, fun j hj => (w1 j hj).symm, fun j hj => (w2 j hj).symm, fun j hj => (w3 j hj).symm, fun j hj => (w4 j hj).symm, fun j hj => (w5 j hj).symm, fun j hj => (w6 j hj).symm, fun j hj => (w7 j hj).symm, fun j hj => (w8 j hj).symm, fun j hj => (w9 j hj).symm⟩⟩
  unfold f_X9_passAll f_X9_passRow_beat f_X9_passRow_nick f_X9_passRow_owner f_X9_passRow_place f_X9_passRow_kept f_X9_passRow_heard f_X9_passRow_chosen f_X9_passRow_sightBeat f_X9_passRow_sightOff f_X9_passRow_sightIs
  simp only [put_0 (show x < 340 by omega), put_0 (show x + 1 < 340 by omega), jn_some, show x + 1 + 1 = x + 2 from rfl, e0, e1, e2, e3, e4, e5, e6, e7, e8, e9]
