/-! the least time: of any two the later waits for the earlier -/
theorem sm_head (f : Nat → Nat) : ∀ n, fb_sm f (n + 1) = f 0 + fb_sm (fun k => f (k + 1)) n
  | 0 => by rw [fb_sm_succ]; show 0 + f 0 = f 0 + 0; omega
  | n + 1 => by
    have := sm_head f n
    rw [fb_sm_succ f (n + 1), this, fb_sm_succ (fun k => f (k + 1)) n]
    omega
theorem sm_mul (c : Nat) (f : Nat → Nat) : ∀ n, fb_sm (fun k => c * f k) n = c * fb_sm f n
  | 0 => rfl
  | n + 1 => by rw [fb_sm_succ, fb_sm_succ, sm_mul c f n, Nat.mul_add]
theorem sm_0 {f : Nat → Nat} {n : Nat} (h : ∀ k, k < n → f k = 0) : fb_sm f n = 0 := by
  rw [fb_sm_cong (g := fun _ => 0) h, fb_sm_const]; rfl
def hh (O S : Nat → Nat) (i j : Nat) : Nat := if O j * S i < O i * S j then O j * S i else O i * S j
theorem hh_sym (O S : Nat → Nat) (i j : Nat) : hh O S i j = hh O S j i := by
  unfold hh
  split <;> split <;> omega
theorem hh_d (O S : Nat → Nat) (i : Nat) : hh O S i i = O i * S i := by
  unfold hh
  split <;> rfl
theorem hh_le {O S : Nat → Nat} (hb : ∀ j, O j < 10 ∧ S j < 10) (i j : Nat) : hh O S i j ≤ 100 := by
  have := mul_lt100 (hb i).1 (hb j).2
  have := mul_lt100 (hb j).1 (hb i).2
  unfold hh
  split <;> omega
def hG (O S : Nat → Nat) (b : Nat → Bool) (i j : Nat) : Nat := if b i = true ∧ b j = true ∧ i ≤ j then hh O S i j else 0
def hR (O S : Nat → Nat) (b : Nat → Bool) (T i : Nat) : Nat := fb_sm (hG O S b i) T
def hQ (O S : Nat → Nat) (b : Nat → Bool) (T : Nat) : Nat := fb_sm (hR O S b T) T
def hW (O : Nat → Nat) (b : Nat → Bool) (T : Nat) : Nat := fb_sm (fun i => if b i = true then O i else 0) T
def off (b : Nat → Bool) (n : Nat) : Nat → Bool := fun k => if k = n then false else b k
theorem off_s (b : Nat → Bool) (n : Nat) : off b n n = false := if_pos rfl
theorem off_n (b : Nat → Bool) {n k : Nat} (h : k ≠ n) : off b n k = b k := if_neg h
theorem hR_off (O S : Nat → Nat) (b : Nat → Bool) {T n : Nat} (hn : n < T) (i : Nat) : hR O S b T i = hR O S (off b n) T i + (if i = n then hR O S b T n else hG O S b i n) := by
  by_cases h : i = n
  · subst h
    rw [if_pos rfl]
    have : hR O S (off b i) T i = 0 := by
      unfold hR
      apply sm_0
      intro k hk
      unfold hG
      rw [if_neg]
      rintro ⟨h1, -⟩
      rw [off_s] at h1
      exact absurd h1 (by decide)
    omega
  · rw [if_neg h]
    have u := fb_sm_upd (hG O S b i) 0 hn
    have e : hR O S (off b n) T i = fb_sm (fun k => if k = n then 0 else hG O S b i k) T := by
      unfold hR
      apply fb_sm_cong
      intro k hk
      by_cases hk2 : k = n
      · subst hk2
        rw [if_pos rfl]
        unfold hG
        rw [if_neg]
        rintro ⟨-, h1, -⟩
        rw [off_s] at h1
        exact absurd h1 (by decide)
      · rw [if_neg hk2]
        unfold hG
        rw [off_n b h, off_n b hk2]
    rw [e]
    unfold hR
    omega
theorem hQ_off (O S : Nat → Nat) (b : Nat → Bool) {T n : Nat} (hn : n < T) (hb : b n = true) : hQ O S b T = hQ O S (off b n) T + fb_sm (fun i => if b i = true then hh O S i n else 0) T := by
  have e1 : hQ O S b T = fb_sm (fun i => hR O S (off b n) T i + (if i = n then hR O S b T n else hG O S b i n)) T := fb_sm_cong (fun i _ => hR_off O S b hn i)
  have e2 := fb_sm_add (hR O S (off b n) T) (fun i => if i = n then hR O S b T n else hG O S b i n) T
  have u := fb_sm_upd (fun i => hG O S b i n) (hR O S b T n) hn
  have a := fb_sm_add (fun i => hG O S b i n) (hG O S b n) T
  have c : fb_sm (fun k => hG O S b k n + hG O S b n k) T = fb_sm (fun k => (if b k = true then hh O S k n else 0) + (if k = n then hh O S n n else 0)) T := by
    apply fb_sm_cong
    intro k _
    unfold hG
    by_cases hk : b k = true
    · rw [if_pos hk]
      by_cases h1 : k = n
      · subst h1
        rw [if_pos rfl, if_pos ⟨hk, hk, Nat.le_refl _⟩]
      · rw [if_neg h1]
        by_cases h2 : k ≤ n
        · rw [if_pos ⟨hk, hb, h2⟩, if_neg (by rintro ⟨-, -, h3⟩; omega)]
        · rw [if_neg (by rintro ⟨-, -, h3⟩; omega), if_pos ⟨hb, hk, by omega⟩, hh_sym O S n k]; omega
    · have h1 : k ≠ n := by rintro rfl; exact hk hb
      rw [if_neg hk, if_neg h1, if_neg (by rintro ⟨h3, -⟩; exact hk h3), if_neg (by rintro ⟨-, h3, -⟩; exact hk h3)]
  have d := fb_sm_add (fun k => if b k = true then hh O S k n else 0) (fun k => if k = n then hh O S n n else 0) T
  have o := sm_one n (hh O S n n) T
  rw [if_pos hn] at o
  have g : hG O S b n n = hh O S n n := if_pos ⟨hb, hb, Nat.le_refl _⟩
  have r : fb_sm (hG O S b n) T = hR O S b T n := rfl
  have q : fb_sm (hR O S (off b n) T) T = hQ O S (off b n) T := rfl
  omega
theorem hW_off (O : Nat → Nat) (b : Nat → Bool) {T n : Nat} (hn : n < T) (hb : b n = true) : hW O b T = hW O (off b n) T + O n := by
  have u := fb_sm_upd (fun i => if b i = true then O i else 0) 0 hn
  simp only [if_pos hb] at u
  have e : hW O (off b n) T = fb_sm (fun k => if k = n then 0 else if b k = true then O k else 0) T := by
    unfold hW
    apply fb_sm_cong
    intro k _
    by_cases h : k = n
    · subst h
      rw [if_pos rfl, off_s, if_neg (by decide)]
    · rw [if_neg h, off_n b h]
  rw [e]
  unfold hW
  omega
theorem hQ_best {O S : Nat → Nat} {b : Nat → Bool} {T n : Nat} (hn : n < T) (hb : b n = true) (hbest : ∀ i, i < T → b i = true → O i * S n ≤ O n * S i) : hQ O S b T = hQ O S (off b n) T + S n * hW O b T := by
  rw [hQ_off O S b hn hb]
  congr 1
  unfold hW
  rw [← sm_mul]
  apply fb_sm_cong
  intro k hk
  by_cases h : b k = true
  · rw [if_pos h, if_pos h]
    have := hbest k hk h
    unfold hh
    rw [Nat.mul_comm (S n)]
    split <;> omega
  · rw [if_neg h, if_neg h]; rfl
theorem hQ_0 {O S : Nat → Nat} {b : Nat → Bool} {T : Nat} (h : ∀ i, i < T → ¬ b i = true) : hQ O S b T = 0 ∧ hW O b T = 0 := by
  refine ⟨sm_0 (fun i hi => sm_0 (fun k hk => if_neg (fun w => h i hi w.1))), sm_0 (fun i hi => if_neg (h i hi))⟩
theorem flip_off {M q : Nat} (h : M.testBit q = true) : (M ^^^ 2 ^ q).testBit = off M.testBit q := by
  funext i
  rw [fb_bit_flip]
  by_cases e : i = q
  · subst e; rw [off_s, h, decide_eq_true rfl]; rfl
  · rw [off_n _ e, decide_eq_false e, Bool.xor_false]
theorem m_timeL {O S : Nat → Nat} {od sp : Nat → Int32} {T : Nat} (hT : T ≤ 9) (hS : ∀ j, j < T → 0 < S j) (hO : ∀ j, j < T → od j = nI (O j) ∧ sp j = nI (S j)) (hb : ∀ j, O j < 10 ∧ S j < 10) : ∀ c nn M t s, M < 2 ^ T → fb_ct M.testBit T ≤ c → c < nn → ∃ z z', f_X9_timeOf_L11 (nI T) od sp nn (nI t) (nI s) (nI M) = some (z, nI (s + t * hW O M.testBit T + hQ O S M.testBit T), z') := by
  have h512 := p512 hT
  intro c
  induction c with
  | zero =>
    intro nn M t s hM hc hn
    obtain ⟨a, rfl⟩ : ∃ a, nn = a + 1 := ⟨nn - 1, by omega⟩
    have hz := fb_ct_zero.1 (show fb_ct M.testBit T = 0 by omega)
    have hM0 : M = 0 := by
      rcases Nat.eq_zero_or_pos M with z | z
      · exact z
      · obtain ⟨i, hi⟩ := Nat.exists_testBit_of_ne_zero (x := M) (by omega)
        by_cases h : i < T
        · rw [hz i h] at hi; exact absurd hi (by decide)
        · rw [Nat.testBit_lt_two_pow (Nat.lt_of_lt_of_le hM (Nat.pow_le_pow_right (by decide) (by omega)))] at hi
          exact absurd hi (by decide)
    obtain ⟨q1, q2⟩ := hQ_0 (O := O) (S := S) (b := M.testBit) (T := T) (fun i hi => by rw [hz i hi]; decide)
    rw [q1, q2, hM0, f_X9_timeOf_L11, nI_0, if_pos rfl, Nat.mul_zero, Nat.add_zero]
    exact ⟨_, _, rfl⟩
  | succ c ih =>
    intro nn M t s hM hc hn
    obtain ⟨a, rfl⟩ : ∃ a, nn = a + 1 := ⟨nn - 1, by omega⟩
    rw [f_X9_timeOf_L11]
    cases hx : nxt O S M.testBit T with
    | none =>
      have hz := nxt_none T hx
      have hM0 : M = 0 := by
        rcases Nat.eq_zero_or_pos M with z | z
        · exact z
        · obtain ⟨i, hi⟩ := Nat.exists_testBit_of_ne_zero (x := M) (by omega)
          by_cases h : i < T
          · exact absurd hi (hz i h)
          · rw [Nat.testBit_lt_two_pow (Nat.lt_of_lt_of_le hM (Nat.pow_le_pow_right (by decide) (by omega)))] at hi
            exact absurd hi (by decide)
      obtain ⟨q1, q2⟩ := hQ_0 (O := O) (S := S) (b := M.testBit) (T := T) hz
      rw [q1, q2, hM0, nI_0, if_pos rfl, Nat.mul_zero, Nat.add_zero]
      exact ⟨_, _, rfl⟩
    | some q =>
      obtain ⟨p1, p2, p3⟩ := nxt_best hS T q (Nat.le_refl _) hx
      have hM0 : 0 < M := by
        rcases Nat.eq_zero_or_pos M with z | z
        · rw [z, Nat.zero_testBit] at p2; exact absurd p2 (by decide)
        · exact z
      have cl : (nI q).toNatClampNeg = q := nI_clamp (by omega)
      have hf := flip_off p2
      have hM' : M ^^^ 2 ^ q < 2 ^ T := Nat.xor_lt_two_pow hM (Nat.pow_lt_pow_right (by decide) p1)
      have hct := fb_ct_upd M.testBit false p1
      rw [p2, if_pos rfl, if_neg (by decide)] at hct
      have hct2 : fb_ct (M ^^^ 2 ^ q).testBit T ≤ c := by
        rw [hf]
        unfold off
        omega
      have hw := hW_off O M.testBit p1 p2
      have hq := hQ_best p1 p2 p3
      rw [if_neg (nI_ne0 hM0 (by omega)), m_next hT (by omega) hS hO hb, hx, show enc (some q) = nI q from rfl, jn_some, gu_nI (by omega) (by decide), bi_eq, gu_nI (by omega) (by decide), bi_eq, bi_eq, cl, (hO q p1).1, (hO q p1).2, nI_add, pk_mul, nI_add, k_off M (by omega) q (by omega) p2]
      obtain ⟨z, z', e⟩ := ih a (M ^^^ 2 ^ q) (t + S q) (s + (t + S q) * O q) hM' hct2 (by omega)
      refine ⟨z, z', ?_⟩
      rw [e, hf, hq]
      have e1 : (t + S q) * O q + (t + S q) * hW O (off M.testBit q) T = t * hW O M.testBit T + S q * hW O M.testBit T := by
        rw [← Nat.add_mul, hw, Nat.mul_add]
        omega
      have e2 : s + (t + S q) * O q + (t + S q) * hW O (off M.testBit q) T + hQ O S (off M.testBit q) T = s + t * hW O M.testBit T + (hQ O S (off M.testBit q) T + S q * hW O M.testBit T) := by omega
      rw [e2]
theorem m_time {O S : Nat → Nat} {od sp : Nat → Int32} {T : Nat} (hT : T ≤ 9) (hS : ∀ j, j < T → 0 < S j) (hO : ∀ j, j < T → od j = nI (O j) ∧ sp j = nI (S j)) (hb : ∀ j, O j < 10 ∧ S j < 10) : f_X9_timeOf od sp (nI T) = some (nI (hQ O S (2 ^ T - 1).testBit T)) := by
  have h512 := p512 hT
  have hc := fb_ct_le (2 ^ T - 1).testBit T
  obtain ⟨z, z', e⟩ := m_timeL hT hS hO hb 9 100 (2 ^ T - 1) 0 0 (by omega) (by omega) (by omega)
  rw [Nat.zero_mul, Nat.zero_add, nI_0] at e
  unfold f_X9_timeOf
  rw [k_full T (by omega), bi_eq, e, jn_some]
/-! the class's sum -/
theorem c_lsIn {V W T i : Nat} (hV : V < 2 ^ 31) (hW' : W < 2 ^ 31) (hT : T ≤ 9) (hi : i < T) : ∀ d j nn a, j + d = T → d < nn → ∃ z, f_X5_leastSum_L36 (nI V) (nI W) (nI T) (nI i) nn (lN a) (nI j) = some (lN (a + fb_sm (fun k => hh (dg V T) (dg W T) i (j + k)) d), z) := by
  intro d
  induction d with
  | zero =>
    intro j nn a hk hn
    obtain ⟨q, rfl⟩ : ∃ q, nn = q + 1 := ⟨nn - 1, by omega⟩
    obtain rfl : j = T := by omega
    rw [f_X5_leastSum_L36, if_pos (by rw [i_le]; exact Int.le_refl _)]
    exact ⟨_, rfl⟩
  | succ d ih =>
    intro j nn a hk hn
    obtain ⟨q, rfl⟩ : ∃ q, nn = q + 1 := ⟨nn - 1, by omega⟩
    have b1 := mul_lt100 (dg_lt V T i) (dg_lt W T j)
    have b2 := mul_lt100 (dg_lt V T j) (dg_lt W T i)
    have hm : (if nI (dg V T j * dg W T i) < nI (dg V T i * dg W T j) then nI (dg V T j * dg W T i) else nI (dg V T i * dg W T j)) = nI (hh (dg V T) (dg W T) i j) := by
      unfold hh
      by_cases h : dg V T j * dg W T i < dg V T i * dg W T j
      · rw [if_pos h, if_pos (nI_lt h (by omega))]
      · rw [if_neg h, if_neg (nI_nlt (by omega) (by omega))]
    have hl := hh_le (O := dg V T) (S := dg W T) (fun j => ⟨dg_lt _ _ _, dg_lt _ _ _⟩) i j
    rw [f_X5_leastSum_L36, if_neg (nI_ge (by omega) (by omega)), c_digit hV hT hi, jn_some, c_digit hW' hT (by omega), jn_some, bi_eq, c_digit hV hT (by omega), jn_some, c_digit hW' hT hi, jn_some, bi_eq, bi_eq, bi_eq, nI_1, pk_mul, pk_mul, hm, nI_l (by omega), lN_add]
    obtain ⟨z, e⟩ := ih (j + 1) q (a + hh (dg V T) (dg W T) i j) (by omega) (by omega)
    refine ⟨z, ?_⟩
    rw [e, sm_head]
    have : (fun k => hh (dg V T) (dg W T) i (j + 1 + k)) = fun k => hh (dg V T) (dg W T) i (j + (k + 1)) := by
      funext k
      rw [show j + 1 + k = j + (k + 1) from by omega]
    rw [this, Nat.add_zero, Nat.add_assoc]
def rwS (O S : Nat → Nat) (T i : Nat) : Nat := fb_sm (fun k => hh O S i (i + k)) (T - i)
theorem c_lsOut {V W T : Nat} (hV : V < 2 ^ 31) (hW' : W < 2 ^ 31) (hT : T ≤ 9) : ∀ d i nn a, i + d = T → d < nn → ∃ z, f_X5_leastSum_L5 (nI V) (nI W) (nI T) nn (lN a) (nI i) = some (lN (a + fb_sm (fun k => rwS (dg V T) (dg W T) T (i + k)) d), z) := by
  intro d
  induction d with
  | zero =>
    intro j nn a hk hn
    obtain ⟨q, rfl⟩ : ∃ q, nn = q + 1 := ⟨nn - 1, by omega⟩
    obtain rfl : j = T := by omega
    rw [f_X5_leastSum_L5, if_pos (by rw [i_le]; exact Int.le_refl _)]
    exact ⟨_, rfl⟩
  | succ d ih =>
    intro i nn a hk hn
    obtain ⟨q, rfl⟩ : ∃ q, nn = q + 1 := ⟨nn - 1, by omega⟩
    have b1 := mul_lt100 (dg_lt V T i) (dg_lt W T i)
    obtain ⟨z1, e1⟩ := c_lsIn hV hW' hT (show i < T by omega) d (i + 1) 100 (a + dg V T i * dg W T i) (by omega) (by omega)
    have er : rwS (dg V T) (dg W T) T i = dg V T i * dg W T i + fb_sm (fun k => hh (dg V T) (dg W T) i (i + 1 + k)) d := by
      unfold rwS
      have : (fun k => hh (dg V T) (dg W T) i (i + 1 + k)) = fun k => hh (dg V T) (dg W T) i (i + (k + 1)) := by
        funext k
        rw [show i + 1 + k = i + (k + 1) from by omega]
      rw [show T - i = d + 1 from by omega, sm_head, this, Nat.add_zero, hh_d]
    rw [f_X5_leastSum_L5, if_neg (nI_ge (by omega) (by omega)), c_digit hV hT (by omega), jn_some, c_digit hW' hT (by omega), jn_some, bi_eq, bi_eq, nI_1, pk_mul, nI_l (by omega), lN_add, e1, jn_some]
    obtain ⟨z, e⟩ := ih (i + 1) q (a + dg V T i * dg W T i + fb_sm (fun k => hh (dg V T) (dg W T) i (i + 1 + k)) d) (by omega) (by omega)
    refine ⟨z, ?_⟩
    simp only
    rw [e, sm_head]
    have : (fun k => rwS (dg V T) (dg W T) T (i + 1 + k)) = fun k => rwS (dg V T) (dg W T) T (i + (k + 1)) := by
      funext k
      rw [show i + 1 + k = i + (k + 1) from by omega]
    have er' : rwS (dg V T) (dg W T) T (i + 0) = dg V T i * dg W T i + fb_sm (fun k => hh (dg V T) (dg W T) i (i + 1 + k)) d := er
    rw [this, er', ← Nat.add_assoc, ← Nat.add_assoc]
theorem rw_hR {O S : Nat → Nat} {b : Nat → Bool} {T : Nat} (hb : ∀ j, j < T → b j = true) {i : Nat} (hi : i < T) : rwS O S T i = hR O S b T i := by
  unfold hR rwS
  have e := fb_sm_split (hG O S b i) i (T - i)
  rw [show i + (T - i) = T from by omega] at e
  have z : fb_sm (hG O S b i) i = 0 := sm_0 (fun k hk => if_neg (by rintro ⟨-, -, h⟩; omega))
  rw [e, z, Nat.zero_add]
  apply fb_sm_cong
  intro k hk
  exact (if_pos ⟨hb i hi, hb (i + k) (by omega), by omega⟩).symm
theorem c_least {V W T : Nat} (hV : V < 2 ^ 31) (hW' : W < 2 ^ 31) (hT : T ≤ 9) : f_X5_leastSum (nI V) (nI W) (nI T) = some (lN (hQ (dg V T) (dg W T) (2 ^ T - 1).testBit T)) := by
  obtain ⟨z, e⟩ := c_lsOut hV hW' hT T 0 100 0 (by omega) (by omega)
  have q : fb_sm (fun k => rwS (dg V T) (dg W T) T (0 + k)) T = hQ (dg V T) (dg W T) (2 ^ T - 1).testBit T := by
    unfold hQ
    apply fb_sm_cong
    intro k hk
    rw [Nat.zero_add]
    exact rw_hR (full_b T) hk
  rw [q, Nat.zero_add, nI_0] at e
  unfold f_X5_leastSum
  rw [show (0 : Int64) = lN 0 from rfl, e, jn_some]
theorem hQ_le {O S : Nat → Nat} (hb : ∀ j, O j < 10 ∧ S j < 10) (b : Nat → Bool) {T : Nat} (hT : T ≤ 9) : hQ O S b T ≤ 9 * 900 := by
  have h1 : ∀ i, i < T → hR O S b T i ≤ 900 := by
    intro i _
    have := fb_sm_bound (f := hG O S b i) (c := 100) (n := T) (fun k _ => by
      unfold hG
      have := hh_le hb i k
      split <;> omega)
    unfold hR
    omega
  have h2 : fb_sm (hR O S b T) T ≤ T * 900 := fb_sm_bound h1
  exact Nat.le_trans h2 (Nat.mul_le_mul_right 900 hT)
theorem hQ_pos {O S : Nat → Nat} {b : Nat → Bool} {T : Nat} (h0 : b 0 = true) (hT : 0 < T) (hp : 0 < O 0 ∧ 0 < S 0) : 0 < hQ O S b T := by
  have h1 := fb_sm_part (hR O S b T) hT
  have h2 := fb_sm_part (hG O S b 0) hT
  have h3 : hG O S b 0 0 = O 0 * S 0 := by rw [← hh_d]; exact if_pos ⟨h0, h0, Nat.le_refl _⟩
  have h4 : 0 < O 0 * S 0 := Nat.mul_pos hp.1 hp.2
  have r : fb_sm (hG O S b 0) T = hR O S b T 0 := rfl
  unfold hQ
  omega
/-! the digits' sum -/
theorem c_dsL {V T : Nat} (hV : V < 2 ^ 31) (hT : T ≤ 9) : ∀ d k nn a, k + d = T → d < nn → a = fb_sm (dg V T) k → ∃ z, f_X5_digitSum_L5 (nI V) (nI T) nn (lN a) (nI k) = some (lN (fb_sm (dg V T) T), z) := by
  intro d
  induction d with
  | zero =>
    intro k nn a hk hn ha
    obtain ⟨q, rfl⟩ : ∃ q, nn = q + 1 := ⟨nn - 1, by omega⟩
    obtain rfl : k = T := by omega
    rw [f_X5_digitSum_L5, if_pos (by rw [i_le]; exact Int.le_refl _), ha]
    exact ⟨_, rfl⟩
  | succ d ih =>
    intro k nn a hk hn ha
    obtain ⟨q, rfl⟩ : ∃ q, nn = q + 1 := ⟨nn - 1, by omega⟩
    have hl := dg_lt V T k
    rw [f_X5_digitSum_L5, if_neg (nI_ge (by omega) (by omega)), c_digit hV hT (by omega), jn_some, bi_eq, nI_1, nI_l (by omega), lN_add]
    exact ih (k + 1) q _ (by omega) (by omega) (by rw [fb_sm_succ, ha])
theorem m_sumL {O : Nat → Nat} {od : Nat → Int32} {T : Nat} (hT : T ≤ 9) (hO : ∀ j, j < T → od j = nI (O j)) : ∀ d k nn a, k + d = T → d < nn → a = fb_sm O k → ∃ z, f_X9_sumOf_L4 (nI T) od nn (nI a) (nI k) = some (nI (fb_sm O T), z) := by
  intro d
  induction d with
  | zero =>
    intro k nn a hk hn ha
    obtain ⟨q, rfl⟩ : ∃ q, nn = q + 1 := ⟨nn - 1, by omega⟩
    obtain rfl : k = T := by omega
    rw [f_X9_sumOf_L4, if_pos (by rw [i_le]; exact Int.le_refl _), ha]
    exact ⟨_, rfl⟩
  | succ d ih =>
    intro k nn a hk hn ha
    obtain ⟨q, rfl⟩ : ∃ q, nn = q + 1 := ⟨nn - 1, by omega⟩
    have cl : (nI k).toNatClampNeg = k := nI_clamp (by omega)
    rw [f_X9_sumOf_L4, if_neg (nI_ge (by omega) (by omega)), gu_nI (by omega) (by decide), bi_eq, nI_1, cl, hO k (by omega), nI_add]
    exact ih (k + 1) q _ (by omega) (by omega) (by rw [fb_sm_succ, ha])
/-- seek -/
theorem s_seek (o s : Nat → Int32) (v1 v2 v3 v4 : Int32) : ∃ r r', f_X8_seek v1 v2 v3 v4 = some r ∧ f_X9_seek o s v1 v2 v3 v4 = some r' ∧ r = r'.1 := by
  unfold f_X8_seek f_X9_seek
  rcases r_told o s v1 v2 v3 with ⟨e1, e2⟩ | ⟨V, W, T, o', s', rfl, rfl, rfl, hV, hW', h1, hT, hd, e1, e2, ho⟩
  · rw [e1, e2]
    exact ⟨_, _, rfl, rfl, rfl⟩
  · rw [e1, e2]
    simp only [jn_some, i10, if_false, in_01, jW, if_true]
    by_cases h : (0 : Int32) ≤ v4 ∧ v4 ≤ 1
    · rw [if_pos h, if_pos h]
      have hb : ∀ j, dg V T j < 10 ∧ dg W T j < 10 := fun j => ⟨dg_lt _ _ _, dg_lt _ _ _⟩
      have f1 := c_least hV hW' hT
      have f2 := m_time hT (fun j hj => (hd j hj).2) ho hb
      obtain ⟨z3, f3⟩ := c_dsL hV hT T 0 100 0 (by omega) (by omega) rfl
      obtain ⟨z4, f4⟩ := m_sumL (O := dg V T) hT (fun j hj => (ho j hj).1) T 0 100 0 (by omega) (by omega) rfl
      have hq := hQ_le hb (2 ^ T - 1).testBit hT
      have hp := hQ_pos (O := dg V T) (S := dg W T) (T := T) (full_b T 0 (by omega)) (by omega) (hd 0 (by omega))
      have hs := fb_sm_bound (f := dg V T) (c := 9) (n := T) (fun k _ => by have := dg_lt V T k; omega)
      obtain ⟨r, g1, g2⟩ := r_low (a := hQ (dg V T) (dg W T) (2 ^ T - 1).testBit T) (b := fb_sm (dg V T) T) hp (by omega) (by omega) v4
      have f3' : f_X5_digitSum (nI V) (nI T) = some (lN (fb_sm (dg V T) T)) := by
        unfold f_X5_digitSum
        rw [show (0 : Int64) = lN 0 from rfl, ← nI_0, f3, jn_some]
      have f4' : f_X9_sumOf o' (nI T) = some (nI (fb_sm (dg V T) T)) := by
        unfold f_X9_sumOf
        rw [← nI_0, f4, jn_some]
      rw [f1, f2, f3', f4']
      simp only [jn_some]
      rw [nI_l (by omega), nI_l (by omega), g1, g2]
      exact ⟨_, _, rfl, rfl, rfl⟩
    · rw [if_neg h, if_neg h]
      exact ⟨_, _, rfl, rfl, rfl⟩
