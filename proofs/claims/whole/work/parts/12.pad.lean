def f_X2_isLetter (v0 : Int32) : Option (Int32) := jn (f_X8_isWithin v0 65 70) (fun r1 => gz r1 (some r1))
set_option maxHeartbeats 4000000 in
set_option maxRecDepth 100000 in
theorem c_X2_isLetter (l : Launch) (D : va_G) (T : Nat → ClassId)   (v0 : Int32) (r : Int32) (h : f_X2_isLetter v0 = some r) : Kt l D T yX2_isLetter cX2_isLetter 1 (some .boolean) (1, 0, 0, 22) [.int v0] ([]) (FF (fun (r : Int32) => some (.int r)) (fun r => []) r) := by
  refine kt_of (own := RX2) (nm := "isLetter") (lv := [(0, .int v0)]) (by decide) rfl rfl rfl (Nat.le_of_ble_eq_true rfl) h (fun X hn C M => ?_)
  have hnn : ((0, 0) : Nat × Nat).1 ≤ 0 ∧ ((0, 0) : Nat × Nat).2 ≤ 0 := ⟨Nat.le_refl 0, Nat.le_refl 0⟩
  unfold f_X2_isLetter
  refine gg_iload_n C dX2_isLetter_0 rfl 0 rfl ?_
  refine gg_bipush C dX2_isLetter_1 kB_65 ?_
  refine gg_bipush C dX2_isLetter_3 kB_70 ?_
  refine gg_callN C (fun l r h => c_X8_isWithin l D T v0 65 70 r h) lk_X2_36 ⟨by decide, by decide⟩ hnn rfl (rest := []) rfl (Nat.le_of_ble_eq_true rfl) dX2_isLetter_5 cut_none (st2 := fun r1 => [.int r1]) (fun _ => rfl) (fun r1 => ?_)
  exact gg_zretG C M dX2_isLetter_8 ⟨rfl, rfl⟩
def f_X2_isDigit (v0 : Int32) : Option (Int32) := jn (f_X8_isWithin v0 49 57) (fun r1 => gz r1 (some r1))
set_option maxHeartbeats 4000000 in
set_option maxRecDepth 100000 in
theorem c_X2_isDigit (l : Launch) (D : va_G) (T : Nat → ClassId)   (v0 : Int32) (r : Int32) (h : f_X2_isDigit v0 = some r) : Kt l D T yX2_isDigit cX2_isDigit 1 (some .boolean) (1, 0, 0, 22) [.int v0] ([]) (FF (fun (r : Int32) => some (.int r)) (fun r => []) r) := by
  refine kt_of (own := RX2) (nm := "isDigit") (lv := [(0, .int v0)]) (by decide) rfl rfl rfl (Nat.le_of_ble_eq_true rfl) h (fun X hn C M => ?_)
  have hnn : ((0, 0) : Nat × Nat).1 ≤ 0 ∧ ((0, 0) : Nat × Nat).2 ≤ 0 := ⟨Nat.le_refl 0, Nat.le_refl 0⟩
  unfold f_X2_isDigit
  refine gg_iload_n C dX2_isDigit_0 rfl 0 rfl ?_
  refine gg_bipush C dX2_isDigit_1 kB_49 ?_
  refine gg_bipush C dX2_isDigit_3 kB_57 ?_
  refine gg_callN C (fun l r h => c_X8_isWithin l D T v0 49 57 r h) lk_X2_36 ⟨by decide, by decide⟩ hnn rfl (rest := []) rfl (Nat.le_of_ble_eq_true rfl) dX2_isDigit_5 cut_none (st2 := fun r1 => [.int r1]) (fun _ => rfl) (fun r1 => ?_)
  exact gg_zretG C M dX2_isDigit_8 ⟨rfl, rfl⟩
def f_X2_isWay (v0 : Int32) : Option (Int32) := if v0 = 62 then some 1 else if v0 = 60 then some 1 else some 0
set_option maxHeartbeats 4000000 in
set_option maxRecDepth 100000 in
theorem c_X2_isWay (l : Launch) (D : va_G) (T : Nat → ClassId)   (v0 : Int32) (r : Int32) (h : f_X2_isWay v0 = some r) : Kt l D T yX2_isWay cX2_isWay 1 (some .boolean) (0, 0, 0, 0) [.int v0] ([]) (FF (fun (r : Int32) => some (.int r)) (fun r => []) r) := by
  refine kt_of (own := RX2) (nm := "isWay") (lv := [(0, .int v0)]) (by decide) rfl rfl rfl (Nat.le_of_ble_eq_true rfl) h (fun X hn C M => ?_)
  have hnn : ((0, 0) : Nat × Nat).1 ≤ 0 ∧ ((0, 0) : Nat × Nat).2 ≤ 0 := ⟨Nat.le_refl 0, Nat.le_refl 0⟩
  unfold f_X2_isWay
  refine gg_iload_n C dX2_isWay_0 rfl 0 rfl ?_
  refine gg_bipush C dX2_isWay_1 kB_62 ?_
  refine gg_icmp_eq C dX2_isWay_3 (tgt := 12) (by decide) (fun _ => ?_) (fun _ => ?_)
  · refine gg_iconst C dX2_isWay_12 kI_1 ?_
    refine gg_goto C dX2_isWay_13 (tgt := 17) (by decide) ?_
    exact gg_zret C M dX2_isWay_17 rfl ⟨rfl, rfl⟩
  · refine gg_iload_n C dX2_isWay_6 rfl 0 rfl ?_
    refine gg_bipush C dX2_isWay_7 kB_60 ?_
    refine gg_icmp_ne C dX2_isWay_9 (tgt := 16) (by decide) (fun _ => ?_) (fun _ => ?_)
    · refine gg_iconst C dX2_isWay_16 kI_0 ?_
      exact gg_zret C M dX2_isWay_17 rfl ⟨rfl, rfl⟩
    · refine gg_iconst C dX2_isWay_12 kI_1 ?_
      refine gg_goto C dX2_isWay_13 (tgt := 17) (by decide) ?_
      exact gg_zret C M dX2_isWay_17 rfl ⟨rfl, rfl⟩
def f_X2_isPlainDeed (v0 : Int32) : Option (Int32) := if v0 = 63 then some 1 else if v0 = 42 then some 1 else if v0 = 126 then some 1 else if v0 = 33 then some 1 else some 0
set_option maxHeartbeats 4000000 in
set_option maxRecDepth 100000 in
theorem c_X2_isPlainDeed (l : Launch) (D : va_G) (T : Nat → ClassId)   (v0 : Int32) (r : Int32) (h : f_X2_isPlainDeed v0 = some r) : Kt l D T yX2_isPlainDeed cX2_isPlainDeed 1 (some .boolean) (0, 0, 0, 0) [.int v0] ([]) (FF (fun (r : Int32) => some (.int r)) (fun r => []) r) := by
  refine kt_of (own := RX2) (nm := "isPlainDeed") (lv := [(0, .int v0)]) (by decide) rfl rfl rfl (Nat.le_of_ble_eq_true rfl) h (fun X hn C M => ?_)
  have hnn : ((0, 0) : Nat × Nat).1 ≤ 0 ∧ ((0, 0) : Nat × Nat).2 ≤ 0 := ⟨Nat.le_refl 0, Nat.le_refl 0⟩
  unfold f_X2_isPlainDeed
  refine gg_iload_n C dX2_isPlainDeed_0 rfl 0 rfl ?_
  refine gg_bipush C dX2_isPlainDeed_1 kB_63 ?_
  refine gg_icmp_eq C dX2_isPlainDeed_3 (tgt := 24) (by decide) (fun _ => ?_) (fun _ => ?_)
  · refine gg_iconst C dX2_isPlainDeed_24 kI_1 ?_
    refine gg_goto C dX2_isPlainDeed_25 (tgt := 29) (by decide) ?_
    exact gg_zret C M dX2_isPlainDeed_29 rfl ⟨rfl, rfl⟩
  · refine gg_iload_n C dX2_isPlainDeed_6 rfl 0 rfl ?_
    refine gg_bipush C dX2_isPlainDeed_7 kB_42 ?_
    refine gg_icmp_eq C dX2_isPlainDeed_9 (tgt := 24) (by decide) (fun _ => ?_) (fun _ => ?_)
    · refine gg_iconst C dX2_isPlainDeed_24 kI_1 ?_
      refine gg_goto C dX2_isPlainDeed_25 (tgt := 29) (by decide) ?_
      exact gg_zret C M dX2_isPlainDeed_29 rfl ⟨rfl, rfl⟩
    · refine gg_iload_n C dX2_isPlainDeed_12 rfl 0 rfl ?_
      refine gg_bipush C dX2_isPlainDeed_13 kB_126 ?_
      refine gg_icmp_eq C dX2_isPlainDeed_15 (tgt := 24) (by decide) (fun _ => ?_) (fun _ => ?_)
      · refine gg_iconst C dX2_isPlainDeed_24 kI_1 ?_
        refine gg_goto C dX2_isPlainDeed_25 (tgt := 29) (by decide) ?_
        exact gg_zret C M dX2_isPlainDeed_29 rfl ⟨rfl, rfl⟩
      · refine gg_iload_n C dX2_isPlainDeed_18 rfl 0 rfl ?_
        refine gg_bipush C dX2_isPlainDeed_19 kB_33 ?_
        refine gg_icmp_ne C dX2_isPlainDeed_21 (tgt := 28) (by decide) (fun _ => ?_) (fun _ => ?_)
        · refine gg_iconst C dX2_isPlainDeed_28 kI_0 ?_
          exact gg_zret C M dX2_isPlainDeed_29 rfl ⟨rfl, rfl⟩
        · refine gg_iconst C dX2_isPlainDeed_24 kI_1 ?_
          refine gg_goto C dX2_isPlainDeed_25 (tgt := 29) (by decide) ?_
          exact gg_zret C M dX2_isPlainDeed_29 rfl ⟨rfl, rfl⟩
def f_X2_awaitedBehind (v0 : Int32) (v1 : Int32) : Option (Int32) := if v0 = 0 then if v1 = 46 then some 0 else jn (f_X2_isLetter v1) (fun r4 => if r4 = 0 then some (-1) else some 1) else jn (f_X2_isDigit v1) (fun r1 => if r1 = 0 then if v0 = 2 then some (-1) else jn (f_X2_isWay v1) (fun r2 => if r2 = 0 then jn (f_X2_isPlainDeed v1) (fun r3 => if r3 = 0 then some (-1) else some 0) else some 2) else some 0)
set_option maxHeartbeats 4000000 in
set_option maxRecDepth 100000 in
theorem c_X2_awaitedBehind (l : Launch) (D : va_G) (T : Nat → ClassId)   (v0 : Int32) (v1 : Int32) (r : Int32) (h : f_X2_awaitedBehind v0 v1 = some r) : Kt l D T yX2_awaitedBehind cX2_awaitedBehind 2 (some .int) (2, 0, 0, 42) [.int v0, .int v1] ([]) (FF (fun (r : Int32) => some (.int r)) (fun r => []) r) := by
  refine kt_of (own := RX2) (nm := "awaitedBehind") (lv := [(0, .int v0), (1, .int v1)]) (by decide) rfl rfl rfl (Nat.le_of_ble_eq_true rfl) h (fun X hn C M => ?_)
  have hnn : ((0, 0) : Nat × Nat).1 ≤ 0 ∧ ((0, 0) : Nat × Nat).2 ≤ 0 := ⟨Nat.le_refl 0, Nat.le_refl 0⟩
  unfold f_X2_awaitedBehind
  refine gg_iload_n C dX2_awaitedBehind_0 rfl 0 rfl ?_
  refine gg_if_ne C dX2_awaitedBehind_1 (tgt := 25) (by decide) (fun _ => ?_) (fun _ => ?_)
  · refine gg_iload_n C dX2_awaitedBehind_25 rfl 1 rfl ?_
    refine gg_callS C (fun l r h => c_X2_isDigit l D T v1 r h) lk_X2_27 ⟨by decide, by decide⟩ hnn rfl (rest := []) rfl (Nat.le_of_ble_eq_true rfl) dX2_awaitedBehind_26 cut_none (st2 := fun r1 => [.int r1]) (fun _ => rfl) (fun r1 => ?_)
    refine gg_if_eq C dX2_awaitedBehind_29 (tgt := 34) (by decide) (fun _ => ?_) (fun _ => ?_)
    · refine gg_iload_n C dX2_awaitedBehind_34 rfl 0 rfl ?_
      refine gg_iconst C dX2_awaitedBehind_35 kI_2 ?_
      refine gg_icmp_ne C dX2_awaitedBehind_36 (tgt := 41) (by decide) (fun _ => ?_) (fun _ => ?_)
      · refine gg_iload_n C dX2_awaitedBehind_41 rfl 1 rfl ?_
        refine gg_callS C (fun l r h => c_X2_isWay l D T v1 r h) lk_X2_30 ⟨by decide, by decide⟩ hnn rfl (rest := []) rfl (Nat.le_of_ble_eq_true rfl) dX2_awaitedBehind_42 cut_none (st2 := fun r2 => [.int r2]) (fun _ => rfl) (fun r2 => ?_)
        refine gg_if_eq C dX2_awaitedBehind_45 (tgt := 50) (by decide) (fun _ => ?_) (fun _ => ?_)
        · refine gg_iload_n C dX2_awaitedBehind_50 rfl 1 rfl ?_
          refine gg_callS C (fun l r h => c_X2_isPlainDeed l D T v1 r h) lk_X2_33 ⟨by decide, by decide⟩ hnn rfl (rest := []) rfl (Nat.le_of_ble_eq_true rfl) dX2_awaitedBehind_51 cut_none (st2 := fun r3 => [.int r3]) (fun _ => rfl) (fun r3 => ?_)
          refine gg_if_eq C dX2_awaitedBehind_54 (tgt := 61) (by decide) (fun _ => ?_) (fun _ => ?_)
          · refine gg_iconst C dX2_awaitedBehind_61 kI_m1 ?_
            exact gg_iret C M dX2_awaitedBehind_62 ⟨rfl, rfl⟩
          · refine gg_iconst C dX2_awaitedBehind_57 kI_0 ?_
            refine gg_goto C dX2_awaitedBehind_58 (tgt := 62) (by decide) ?_
            exact gg_iret C M dX2_awaitedBehind_62 ⟨rfl, rfl⟩
        · refine gg_iconst C dX2_awaitedBehind_48 kI_2 ?_
          exact gg_iret C M dX2_awaitedBehind_49 ⟨rfl, rfl⟩
      · refine gg_iconst C dX2_awaitedBehind_39 kI_m1 ?_
        exact gg_iret C M dX2_awaitedBehind_40 ⟨rfl, rfl⟩
    · refine gg_iconst C dX2_awaitedBehind_32 kI_0 ?_
      exact gg_iret C M dX2_awaitedBehind_33 ⟨rfl, rfl⟩
  · refine gg_iload_n C dX2_awaitedBehind_4 rfl 1 rfl ?_
    refine gg_bipush C dX2_awaitedBehind_5 kB_46 ?_
    refine gg_icmp_ne C dX2_awaitedBehind_7 (tgt := 12) (by decide) (fun _ => ?_) (fun _ => ?_)
    · refine gg_iload_n C dX2_awaitedBehind_12 rfl 1 rfl ?_
      refine gg_callS C (fun l r h => c_X2_isLetter l D T v1 r h) lk_X2_23 ⟨by decide, by decide⟩ hnn rfl (rest := []) rfl (Nat.le_of_ble_eq_true rfl) dX2_awaitedBehind_13 cut_none (st2 := fun r4 => [.int r4]) (fun _ => rfl) (fun r4 => ?_)
      refine gg_if_eq C dX2_awaitedBehind_16 (tgt := 23) (by decide) (fun _ => ?_) (fun _ => ?_)
      · refine gg_iconst C dX2_awaitedBehind_23 kI_m1 ?_
        exact gg_iret C M dX2_awaitedBehind_24 ⟨rfl, rfl⟩
      · refine gg_iconst C dX2_awaitedBehind_19 kI_1 ?_
        refine gg_goto C dX2_awaitedBehind_20 (tgt := 24) (by decide) ?_
        exact gg_iret C M dX2_awaitedBehind_24 ⟨rfl, rfl⟩
    · refine gg_iconst C dX2_awaitedBehind_10 kI_0 ?_
      exact gg_iret C M dX2_awaitedBehind_11 ⟨rfl, rfl⟩
def f_X2_add (p_s : Nat → Int32) (p_n : Int32) (v1 : Int32) : Option (Int32 × (Nat → Int32) × Int32) := if p_n < 60 then gu p_n 60 (some (p_n + 1, upd p_s p_n.toNatClampNeg v1, p_n + 1)) else some ((-4), p_s, p_n)
set_option maxHeartbeats 4000000 in
set_option maxRecDepth 100000 in
theorem c_X2_add (l : Launch) (D : va_G) (T : Nat → ClassId) (a : Nat → Nat) (p_s : Nat → Int32) (p_n : Int32) (v1 : Int32) (r : Int32 × (Nat → Int32) × Int32) (h : f_X2_add p_s p_n v1 = some r) : Kt l D T yX2_add cX2_add 2 (some .int) (0, 0, 0, 0) [.ref (a 0), .int v1] (wP T a p_s p_n) (FF (fun (r : Int32 × (Nat → Int32) × Int32) => some (.int r.1)) (fun r => wP T a r.2.1 r.2.2) r) := by
  refine kt_of (own := RX2) (nm := "add") (lv := [(0, .ref (a 0)), (1, .int v1)]) (by decide) rfl rfl rfl (Nat.le_of_ble_eq_true rfl) h (fun X hn C M => ?_)
  have hnn : ((0, 0) : Nat × Nat).1 ≤ 0 ∧ ((0, 0) : Nat × Nat).2 ≤ 0 := ⟨Nat.le_refl 0, Nat.le_refl 0⟩
  unfold f_X2_add
  refine gg_aload_n C dX2_add_0 rfl 0 rfl ?_
  refine gf_X2_15 C 0 rfl rfl dX2_add_1 ?_
  refine gg_bipush C dX2_add_4 kB_60 ?_
  refine gg_icmp_lt C dX2_add_6 (tgt := 12) (by decide) (fun _ => ?_) (fun _ => ?_)
  · refine gg_aload_n C dX2_add_12 rfl 0 rfl ?_
    refine gf_X2_11 C 0 rfl rfl dX2_add_13 ?_
    refine gg_aload_n C dX2_add_16 rfl 0 rfl ?_
    refine gf_X2_15 C 0 rfl rfl dX2_add_17 ?_
    refine gg_iload_n C dX2_add_20 rfl 1 rfl ?_
    refine gg_iast C 1 rfl dX2_add_21 (ws' := wP T a (upd p_s p_n.toNatClampNeg v1) p_n) rfl ?_
    refine gg_aload_n C dX2_add_22 rfl 0 rfl ?_
    refine gg_dup C dX2_add_23 rfl ?_
    refine gf_X2_15 C 0 rfl rfl dX2_add_24 ?_
    refine gg_iconst C dX2_add_27 kI_1 ?_
    refine gg_iadd C dX2_add_28 ?_
    refine pf_X2_15 C 0 rfl (Nat.le_of_ble_eq_true rfl) dX2_add_29 (ws' := wP T a (upd p_s p_n.toNatClampNeg v1) (p_n + 1)) rfl ?_
    refine gg_aload_n C dX2_add_32 rfl 0 rfl ?_
    refine gf_X2_15 C 0 rfl rfl dX2_add_33 ?_
    exact gg_iret C M dX2_add_36 ⟨rfl, rfl⟩
  · refine gg_bipush C dX2_add_9 kB_m4 ?_
    exact gg_iret C M dX2_add_11 ⟨rfl, rfl⟩
def f_X2_clear (p_n : Int32) : Option (Int32 × Int32) := some (p_n, 0)
set_option maxHeartbeats 4000000 in
set_option maxRecDepth 100000 in
theorem c_X2_clear (l : Launch) (D : va_G) (T : Nat → ClassId) (a : Nat → Nat) (p_s : Nat → Int32) (p_n : Int32) (r : Int32 × Int32) (h : f_X2_clear p_n = some r) : Kt l D T yX2_clear cX2_clear 2 (some .int) (0, 0, 0, 0) [.ref (a 0)] (wP T a p_s p_n) (FF (fun (r : Int32 × Int32) => some (.int r.1)) (fun r => wP T a p_s r.2) r) := by
  refine kt_of (own := RX2) (nm := "clear") (lv := [(0, .ref (a 0))]) (by decide) rfl rfl rfl (Nat.le_of_ble_eq_true rfl) h (fun X hn C M => ?_)
  have hnn : ((0, 0) : Nat × Nat).1 ≤ 0 ∧ ((0, 0) : Nat × Nat).2 ≤ 0 := ⟨Nat.le_refl 0, Nat.le_refl 0⟩
  unfold f_X2_clear
  refine gg_aload_n C dX2_clear_0 rfl 0 rfl ?_
  refine gf_X2_15 C 0 rfl rfl dX2_clear_1 ?_
  refine gg_istore_n C dX2_clear_4 rfl hn (by decide) (lv' := [(1, .int p_n), (0, .ref (a 0))]) rfl ?_
  refine gg_aload_n C dX2_clear_5 rfl 1 rfl ?_
  refine gg_iconst C dX2_clear_6 kI_0 ?_
  refine pf_X2_15 C 0 rfl (Nat.le_of_ble_eq_true rfl) dX2_clear_7 (ws' := wP T a p_s 0) rfl ?_
  refine gg_iload_n C dX2_clear_10 rfl 0 rfl ?_
  exact gg_iret C M dX2_clear_11 ⟨rfl, rfl⟩
def f_X2_flaw_L4 (p_s : Nat → Int32) (p_n : Int32) : Nat → Int32 → Int32 → Option ((Int32 × Int32) ⊕ (Int32))
  | 0, _, _ => none
  | nn + 1, y1, y2 => if p_n ≤ y2 then some (.inl (y1, y2)) else if 60 ≤ y2 then some (.inl (y1, y2)) else gu y2 60 (jn (f_X2_awaitedBehind y1 (p_s y2.toNatClampNeg)) (fun r1 => if r1 = (-1) then some (.inr y2) else f_X2_flaw_L4 p_s p_n nn r1 (y2 + 1)))
set_option maxHeartbeats 4000000 in
set_option maxRecDepth 100000 in
theorem g_X2_flaw_L4 {X : KX} {D : va_G} {T : Nat → ClassId} {Q : (Int32 × Int32) ⊕ (Int32) → State → Prop} {n : Nat × Nat} (C : Cx X D T cX2_flaw RX2 { frames := 3, cells := 0, slots := 0, locals := 63 }) (hnn : n.1 ≤ 0 ∧ n.2 ≤ 0) (hn : kxL X = 3) (a : Nat → Nat)  (p_s : Nat → Int32) (p_n : Int32) (hk : ∀ v : Int32 × Int32, GG X D Q n (wP T a p_s p_n) [(0, .ref (a 0)), (1, .int v.1), (2, .int v.2)] 42 [] (some (.inl v))) (hr0 : ∀ (v : Int32), GG X D Q n (wP T a p_s p_n) [] 35 [.int v] (some (.inr v))) : ∀ (nn : Nat) (y1 : Int32) (y2 : Int32), GG X D Q n (wP T a p_s p_n) [(0, .ref (a 0)), (1, .int y1), (2, .int y2)] 4 [] (f_X2_flaw_L4 p_s p_n nn y1 y2) := by
  intro nn
  induction nn with
  | zero => intros; exact gg_none
  | succ nn ih =>
    intro y1 y2
    unfold f_X2_flaw_L4
    refine gg_iload_n C dX2_flaw_4 rfl 2 rfl ?_
    refine gg_aload_n C dX2_flaw_5 rfl 0 rfl ?_
    refine gf_X2_15 C 0 rfl rfl dX2_flaw_6 ?_
    refine gg_icmp_ge C dX2_flaw_9 (tgt := 42) (by decide) (fun _ => ?_) (fun _ => ?_)
    · refine gg_sub [0, 1, 2] rfl ?_
      exact hk (y1, y2)
    · refine gg_iload_n C dX2_flaw_12 rfl 2 rfl ?_
      refine gg_bipush C dX2_flaw_13 kB_60 ?_
      refine gg_icmp_ge C dX2_flaw_15 (tgt := 42) (by decide) (fun _ => ?_) (fun _ => ?_)
      · refine gg_sub [0, 1, 2] rfl ?_
        exact hk (y1, y2)
      · refine gg_iload_n C dX2_flaw_18 rfl 1 rfl ?_
        refine gg_aload_n C dX2_flaw_19 rfl 0 rfl ?_
        refine gf_X2_11 C 0 rfl rfl dX2_flaw_20 ?_
        refine gg_iload_n C dX2_flaw_23 rfl 2 rfl ?_
        refine gg_iald C 1 rfl dX2_flaw_24 ?_
        refine gg_callS C (fun l r h => c_X2_awaitedBehind l D T y1 (p_s y2.toNatClampNeg) r h) lk_X2_19 ⟨by decide, by decide⟩ hnn rfl (rest := []) rfl (Nat.le_of_ble_eq_true rfl) dX2_flaw_25 cut_none (st2 := fun r1 => [.int r1]) (fun _ => rfl) (fun r1 => ?_)
        refine gg_istore_n C dX2_flaw_28 rfl hn (by decide) (lv' := [(1, .int r1), (0, .ref (a 0)), (2, .int y2)]) rfl ?_
        refine gg_iload_n C dX2_flaw_29 rfl 0 rfl ?_
        refine gg_iconst C dX2_flaw_30 kI_m1 ?_
        refine gg_icmp_ne C dX2_flaw_31 (tgt := 36) (by decide) (fun _ => ?_) (fun _ => ?_)
        · refine gg_iinc C dX2_flaw_36 (j := 2) rfl (v := y2 + 1) (by first | rfl | decide) hn (by decide) (lv' := [(2, .int (y2 + 1)), (1, .int r1), (0, .ref (a 0))]) rfl ?_
          refine gg_goto C dX2_flaw_39 (tgt := 4) (by decide) ?_
          refine gg_sub [2, 1, 0] rfl ?_
          exact ih r1 (y2 + 1)
        · refine gg_iload_n C dX2_flaw_34 rfl 2 rfl ?_
          refine gg_sub [] rfl ?_
          exact hr0 y2
def f_X2_flaw (p_s : Nat → Int32) (p_n : Int32) : Option (Int32) := jn (f_X2_flaw_L4 p_s p_n 100 0 0) (Sum.elim (fun z2 => if z2.1 = 0 then some (-6) else some p_n) some)
set_option maxHeartbeats 4000000 in
set_option maxRecDepth 100000 in
theorem c_X2_flaw (l : Launch) (D : va_G) (T : Nat → ClassId) (a : Nat → Nat) (p_s : Nat → Int32) (p_n : Int32) (r : Int32) (h : f_X2_flaw p_s p_n = some r) : Kt l D T yX2_flaw cX2_flaw 3 (some .int) (3, 0, 0, 63) [.ref (a 0)] (wP T a p_s p_n) (FF (fun (r : Int32) => some (.int r)) (fun r => wP T a p_s p_n) r) := by
  refine kt_of (own := RX2) (nm := "flaw") (lv := [(0, .ref (a 0))]) (by decide) rfl rfl rfl (Nat.le_of_ble_eq_true rfl) h (fun X hn C M => ?_)
  have hnn : ((0, 0) : Nat × Nat).1 ≤ 0 ∧ ((0, 0) : Nat × Nat).2 ≤ 0 := ⟨Nat.le_refl 0, Nat.le_refl 0⟩
  unfold f_X2_flaw
  refine gg_iconst C dX2_flaw_0 kI_0 ?_
  refine gg_istore_n C dX2_flaw_1 rfl hn (by decide) (lv' := [(1, .int 0), (0, .ref (a 0))]) rfl ?_
  refine gg_iconst C dX2_flaw_2 kI_0 ?_
  refine gg_istore_n C dX2_flaw_3 rfl hn (by decide) (lv' := [(2, .int 0), (1, .int 0), (0, .ref (a 0))]) rfl ?_
  refine gg_jn ?_
  refine gg_sub [2, 1, 0] rfl ?_
  refine g_X2_flaw_L4 C hnn hn a p_s p_n (fun z2 => gg_leafL ?_) (fun v => gg_leafR ?_) 100 0 0
  · refine gg_iload_n C dX2_flaw_42 rfl 1 rfl ?_
    refine gg_if_ne C dX2_flaw_43 (tgt := 51) (by decide) (fun _ => ?_) (fun _ => ?_)
    · refine gg_aload_n C dX2_flaw_51 rfl 0 rfl ?_
      refine gf_X2_15 C 0 rfl rfl dX2_flaw_52 ?_
      exact gg_iret C M dX2_flaw_55 ⟨rfl, rfl⟩
    · refine gg_bipush C dX2_flaw_46 kB_m6 ?_
      refine gg_goto C dX2_flaw_48 (tgt := 55) (by decide) ?_
      exact gg_iret C M dX2_flaw_55 ⟨rfl, rfl⟩
  · exact gg_iret C M dX2_flaw_35 ⟨rfl, rfl⟩
def f_X4_longestFrom_L4 (g_l : Nat → Int32) : Nat → Int32 → Int32 → Option (Int32 × Int32)
  | 0, _, _ => none
  | nn + 1, y2, y3 => if 9 < y3 then some (y2, y3) else gu y3 10 (bi (if y2 < (g_l y3.toNatClampNeg) then (g_l y3.toNatClampNeg) else y2) (fun x1 => f_X4_longestFrom_L4 g_l nn x1 (y3 + 1)))
set_option maxHeartbeats 4000000 in
set_option maxRecDepth 100000 in
theorem g_X4_longestFrom_L4 {X : KX} {D : va_G} {T : Nat → ClassId} {Q : Int32 × Int32 → State → Prop} {n : Nat × Nat} (C : Cx X D T cX4_longestFrom RX4 { frames := 1, cells := 0, slots := 0, locals := 21 }) (hnn : n.1 ≤ 0 ∧ n.2 ≤ 0) (hn : kxL X = 4) (a : Nat → Nat)  (y1 : Int32) (g_l : Nat → Int32) (g_m : Int32) (g_f : Int32) (hk : ∀ v : Int32 × Int32, GG X D Q n (wR T a g_l g_m g_f) [(0, .ref (a 0)), (1, .int y1), (2, .int v.1), (3, .int v.2)] 27 [] (some (v))) : ∀ (nn : Nat) (y2 : Int32) (y3 : Int32), GG X D Q n (wR T a g_l g_m g_f) [(0, .ref (a 0)), (1, .int y1), (2, .int y2), (3, .int y3)] 4 [] (f_X4_longestFrom_L4 g_l nn y2 y3) := by
  intro nn
  induction nn with
  | zero => intros; exact gg_none
  | succ nn ih =>
    intro y2 y3
    unfold f_X4_longestFrom_L4
    refine gg_iload_n C dX4_longestFrom_4 rfl 3 rfl ?_
    refine gg_bipush C dX4_longestFrom_5 kB_9 ?_
    refine gg_icmp_gt C dX4_longestFrom_7 (tgt := 27) (by decide) (fun _ => ?_) (fun _ => ?_)
    · refine gg_sub [0, 1, 2, 3] rfl ?_
      exact hk (y2, y3)
    · refine gg_iload_n C dX4_longestFrom_10 rfl 2 rfl ?_
      refine gg_aload_n C dX4_longestFrom_11 rfl 0 rfl ?_
      refine gf_X4_9 C 0 rfl rfl dX4_longestFrom_12 ?_
      refine gg_iload_n C dX4_longestFrom_15 rfl 3 rfl ?_
      refine gg_iald C 1 rfl dX4_longestFrom_16 ?_
      refine gg_mmax C tw_419 tw_420 tw_9 tw_421 (by decide) (Nat.le_of_ble_eq_true rfl) hnn dX4_longestFrom_17 ?_
      refine gg_bi (fun x1 => ?_)
      refine gg_istore_n C dX4_longestFrom_20 rfl hn (by decide) (lv' := [(2, .int x1), (0, .ref (a 0)), (1, .int y1), (3, .int y3)]) rfl ?_
      refine gg_iinc C dX4_longestFrom_21 (j := 3) rfl (v := y3 + 1) (by first | rfl | decide) hn (by decide) (lv' := [(3, .int (y3 + 1)), (2, .int x1), (0, .ref (a 0)), (1, .int y1)]) rfl ?_
      refine gg_goto C dX4_longestFrom_24 (tgt := 4) (by decide) ?_
      refine gg_sub [2, 3, 1, 0] rfl ?_
      exact ih x1 (y3 + 1)
def f_X4_longestFrom (g_l : Nat → Int32) (v1 : Int32) : Option (Int32) := jn (α := Int32 × Int32) (f_X4_longestFrom_L4 g_l 100 0 v1) (fun z2 => some z2.1)
set_option maxHeartbeats 4000000 in
set_option maxRecDepth 100000 in
theorem c_X4_longestFrom (l : Launch) (D : va_G) (T : Nat → ClassId) (a : Nat → Nat) (g_l : Nat → Int32) (g_m : Int32) (g_f : Int32) (v1 : Int32) (r : Int32) (h : f_X4_longestFrom g_l v1 = some r) : Kt l D T yX4_longestFrom cX4_longestFrom 4 (some .int) (1, 0, 0, 21) [.ref (a 0), .int v1] (wR T a g_l g_m g_f) (FF (fun (r : Int32) => some (.int r)) (fun r => wR T a g_l g_m g_f) r) := by
  refine kt_of (own := RX4) (nm := "longestFrom") (lv := [(0, .ref (a 0)), (1, .int v1)]) (by decide) rfl rfl rfl (Nat.le_of_ble_eq_true rfl) h (fun X hn C M => ?_)
  have hnn : ((0, 0) : Nat × Nat).1 ≤ 0 ∧ ((0, 0) : Nat × Nat).2 ≤ 0 := ⟨Nat.le_refl 0, Nat.le_refl 0⟩
  unfold f_X4_longestFrom
  refine gg_iconst C dX4_longestFrom_0 kI_0 ?_
  refine gg_istore_n C dX4_longestFrom_1 rfl hn (by decide) (lv' := [(2, .int 0), (0, .ref (a 0)), (1, .int v1)]) rfl ?_
  refine gg_iload_n C dX4_longestFrom_2 rfl 2 rfl ?_
  refine gg_istore_n C dX4_longestFrom_3 rfl hn (by decide) (lv' := [(3, .int v1), (2, .int 0), (0, .ref (a 0)), (1, .int v1)]) rfl ?_
  refine gg_join (α := Int32 × Int32) 27 (fun z2 => wR T a g_l g_m g_f) (fun z2 => [(0, .ref (a 0)), (1, .int v1), (2, .int z2.1), (3, .int z2.2)]) (fun z2 => []) (fun z2 => ?_) (fun K3 => ?_)
  · refine gg_iload_n C dX4_longestFrom_27 rfl 2 rfl ?_
    exact gg_iret C M dX4_longestFrom_28 ⟨rfl, rfl⟩
  · refine gg_sub [2, 3, 1, 0] rfl ?_
    exact g_X4_longestFrom_L4 C hnn hn a v1 g_l g_m g_f K3 100 0 v1
def f_X4_measure_L2  : Nat → Int32 → (Nat → Int32) → Option (Int32 × (Nat → Int32))
  | 0, _, _ => none
  | nn + 1, y3, g_l => if 9 < y3 then some (y3, g_l) else gu y3 10 (f_X4_measure_L2 nn (y3 + 1) (upd g_l y3.toNatClampNeg 0))
set_option maxHeartbeats 4000000 in
set_option maxRecDepth 100000 in
theorem g_X4_measure_L2 {X : KX} {D : va_G} {T : Nat → ClassId} {Q : Int32 × (Nat → Int32) → State → Prop} {n : Nat × Nat} (C : Cx X D T cX4_measure RX4 { frames := 2, cells := 0, slots := 0, locals := 44 }) (hnn : n.1 ≤ 0 ∧ n.2 ≤ 0) (hn : kxL X = 6) (a : Nat → Nat) (x : Nat)  (y2 : Int32) (g_m : Int32) (g_f : Int32) (w_f : Nat → Int32) (hk : ∀ v : Int32 × (Nat → Int32), GG X D Q n (wR T a v.2 g_m g_f ++ (wA T x 40 w_f)) [(0, .ref (a 0)), (1, .ref x), (2, .int y2), (3, .int v.1)] 21 [] (some (v))) : ∀ (nn : Nat) (y3 : Int32) (g_l : Nat → Int32), GG X D Q n (wR T a g_l g_m g_f ++ (wA T x 40 w_f)) [(0, .ref (a 0)), (1, .ref x), (2, .int y2), (3, .int y3)] 2 [] (f_X4_measure_L2 nn y3 g_l) := by
  intro nn
  induction nn with
  | zero => intros; exact gg_none
  | succ nn ih =>
    intro y3 g_l
    unfold f_X4_measure_L2
    refine gg_iload_n C dX4_measure_2 rfl 3 rfl ?_
    refine gg_bipush C dX4_measure_3 kB_9 ?_
    refine gg_icmp_gt C dX4_measure_5 (tgt := 21) (by decide) (fun _ => ?_) (fun _ => ?_)
    · refine gg_sub [0, 1, 2, 3] rfl ?_
      exact hk (y3, g_l)
    · refine gg_aload_n C dX4_measure_8 rfl 0 rfl ?_
      refine gf_X4_9 C 0 rfl rfl dX4_measure_9 ?_
      refine gg_iload_n C dX4_measure_12 rfl 3 rfl ?_
      refine gg_iconst C dX4_measure_13 kI_0 ?_
      refine gg_iast C 1 rfl dX4_measure_14 (ws' := wR T a (upd g_l y3.toNatClampNeg 0) g_m g_f ++ (wA T x 40 w_f)) rfl ?_
      refine gg_iinc C dX4_measure_15 (j := 3) rfl (v := y3 + 1) (by first | rfl | decide) hn (by decide) (lv' := [(3, .int (y3 + 1)), (0, .ref (a 0)), (1, .ref x), (2, .int y2)]) rfl ?_
      refine gg_goto C dX4_measure_18 (tgt := 2) (by decide) ?_
      refine gg_sub [1, 2, 3, 0] rfl ?_
      exact ih (y3 + 1) (upd g_l y3.toNatClampNeg 0)
def f_X4_measure_L36 (y2 : Int32) (w_f : Nat → Int32) : Nat → Int32 → (Nat → Int32) → Int32 → Int32 → Option (Int32 × (Nat → Int32) × Int32 × Int32)
  | 0, _, _, _, _ => none
  | nn + 1, y3, g_l, g_m, g_f => if y3 < y2 then some (y3, g_l, g_m, g_f) else if y3 < 0 then some (y3, g_l, g_m, g_f) else gu y3 40 (bi (w_f y3.toNatClampNeg) (fun x3 => jn (f_X8_isBeat x3) (fun r4 => if r4 = 0 then f_X4_measure_L36 y2 w_f nn (y3 + (-1)) g_l g_m g_f else jn (f_X4_longestFrom g_l x3) (fun r5 => bi (1 + r5) (fun x6 => gu x3 10 (if x6 < g_m then f_X4_measure_L36 y2 w_f nn (y3 + (-1)) (upd g_l x3.toNatClampNeg x6) g_m g_f else f_X4_measure_L36 y2 w_f nn (y3 + (-1)) (upd g_l x3.toNatClampNeg x6) x6 y3))))))
set_option maxHeartbeats 4000000 in
set_option maxRecDepth 100000 in
theorem g_X4_measure_L36 {X : KX} {D : va_G} {T : Nat → ClassId} {Q : Int32 × (Nat → Int32) × Int32 × Int32 → State → Prop} {n : Nat × Nat} (C : Cx X D T cX4_measure RX4 { frames := 2, cells := 0, slots := 0, locals := 44 }) (hnn : n.1 ≤ 0 ∧ n.2 ≤ 0) (hn : kxL X = 6) (a : Nat → Nat) (x : Nat)  (y2 : Int32) (w_f : Nat → Int32) (hk : ∀ v : Int32 × (Nat → Int32) × Int32 × Int32, GG X D Q n (wR T a v.2.1 v.2.2.1 v.2.2.2 ++ (wA T x 40 w_f)) [(0, .ref (a 0)), (1, .ref x), (2, .int y2), (3, .int v.1)] 106 [] (some (v))) : ∀ (nn : Nat) (y3 : Int32) (g_l : Nat → Int32) (g_m : Int32) (g_f : Int32), GG X D Q n (wR T a g_l g_m g_f ++ (wA T x 40 w_f)) [(0, .ref (a 0)), (1, .ref x), (2, .int y2), (3, .int y3)] 36 [] (f_X4_measure_L36 y2 w_f nn y3 g_l g_m g_f) := by
  intro nn
  induction nn with
  | zero => intros; exact gg_none
  | succ nn ih =>
    intro y3 g_l g_m g_f
    unfold f_X4_measure_L36
    refine gg_iload_n C dX4_measure_36 rfl 3 rfl ?_
    refine gg_iload_n C dX4_measure_37 rfl 2 rfl ?_
    refine gg_icmp_lt C dX4_measure_38 (tgt := 106) (by decide) (fun _ => ?_) (fun _ => ?_)
    · refine gg_sub [0, 1, 2, 3] rfl ?_
      exact hk (y3, g_l, g_m, g_f)
    · refine gg_iload_n C dX4_measure_41 rfl 3 rfl ?_
      refine gg_if_lt C dX4_measure_42 (tgt := 106) (by decide) (fun _ => ?_) (fun _ => ?_)
      · refine gg_sub [0, 1, 2, 3] rfl ?_
        exact hk (y3, g_l, g_m, g_f)
      · refine gg_aload_n C dX4_measure_45 rfl 1 rfl ?_
        refine gg_iload_n C dX4_measure_46 rfl 3 rfl ?_
        refine gg_iald C 2 rfl dX4_measure_47 ?_
        refine gg_bi (fun x3 => ?_)
        refine gg_istore C dX4_measure_48 hn (by decide) (lv' := [(4, .int x3), (0, .ref (a 0)), (1, .ref x), (2, .int y2), (3, .int y3)]) rfl ?_
        refine gg_iload C dX4_measure_50 0 rfl ?_
        refine gg_callN C (fun l r h => c_X8_isBeat l D T x3 r h) lk_X4_22 ⟨by decide, by decide⟩ hnn rfl (rest := []) rfl (Nat.le_of_ble_eq_true rfl) dX4_measure_52 cut_none (st2 := fun r4 => [.int r4]) (fun _ => rfl) (fun r4 => ?_)
        refine gg_if_ne C dX4_measure_55 (tgt := 61) (by decide) (fun _ => ?_) (fun _ => ?_)
        · refine gg_iconst C dX4_measure_61 kI_1 ?_
          refine gg_aload_n C dX4_measure_62 rfl 1 rfl ?_
          refine gg_iload C dX4_measure_63 0 rfl ?_
          refine gg_callV C (fun l r h => c_X4_longestFrom l D T a g_l g_m g_f x3 r h) lk_X4_26 ⟨by decide, by decide⟩ hnn rfl (rest := [.int 1]) rfl (Nat.le_of_ble_eq_true rfl) 0 rfl rfl dX4_measure_65 (ws2 := fun r5 => wR T a g_l g_m g_f ++ (wA T x 40 w_f)) (cut_part 3 [0, 1] [2] rfl (by decide) rfl (fun _ => rfl) (fun _ => rfl) (fun _ => rfl)) (st2 := fun r5 => [.int r5, .int 1]) (fun _ => rfl) (fun r5 => ?_)
          refine gg_iadd C dX4_measure_68 ?_
          refine gg_bi (fun x6 => ?_)
          refine gg_istore C dX4_measure_69 hn (by decide) (lv' := [(5, .int x6), (4, .int x3), (0, .ref (a 0)), (1, .ref x), (2, .int y2), (3, .int y3)]) rfl ?_
          refine gg_aload_n C dX4_measure_71 rfl 2 rfl ?_
          refine gf_X4_9 C 0 rfl rfl dX4_measure_72 ?_
          refine gg_iload C dX4_measure_75 1 rfl ?_
          refine gg_iload C dX4_measure_77 0 rfl ?_
          refine gg_iast C 1 rfl dX4_measure_79 (ws' := wR T a (upd g_l x3.toNatClampNeg x6) g_m g_f ++ (wA T x 40 w_f)) rfl ?_
          refine gg_iload C dX4_measure_80 0 rfl ?_
          refine gg_aload_n C dX4_measure_82 rfl 2 rfl ?_
          refine gf_X4_15 C 0 rfl rfl dX4_measure_83 ?_
          refine gg_icmp_lt C dX4_measure_86 (tgt := 100) (by decide) (fun _ => ?_) (fun _ => ?_)
          · refine gg_iinc C dX4_measure_100 (j := 5) rfl (v := y3 + (-1)) (by first | rfl | decide) hn (by decide) (lv' := [(3, .int (y3 + (-1))), (5, .int x6), (4, .int x3), (0, .ref (a 0)), (1, .ref x), (2, .int y2)]) rfl ?_
            refine gg_goto C dX4_measure_103 (tgt := 36) (by decide) ?_
            refine gg_sub [3, 4, 5, 0] rfl ?_
            exact ih (y3 + (-1)) (upd g_l x3.toNatClampNeg x6) g_m g_f
          · refine gg_aload_n C dX4_measure_89 rfl 2 rfl ?_
            refine gg_iload C dX4_measure_90 0 rfl ?_
            refine pf_X4_15 C 0 rfl (Nat.le_of_ble_eq_true rfl) dX4_measure_92 (ws' := wR T a (upd g_l x3.toNatClampNeg x6) x6 g_f ++ (wA T x 40 w_f)) rfl ?_
            refine gg_aload_n C dX4_measure_95 rfl 2 rfl ?_
            refine gg_iload_n C dX4_measure_96 rfl 5 rfl ?_
            refine pf_X4_19 C 0 rfl (Nat.le_of_ble_eq_true rfl) dX4_measure_97 (ws' := wR T a (upd g_l x3.toNatClampNeg x6) x6 y3 ++ (wA T x 40 w_f)) rfl ?_
            refine gg_iinc C dX4_measure_100 (j := 5) rfl (v := y3 + (-1)) (by first | rfl | decide) hn (by decide) (lv' := [(3, .int (y3 + (-1))), (5, .int x6), (4, .int x3), (0, .ref (a 0)), (1, .ref x), (2, .int y2)]) rfl ?_
            refine gg_goto C dX4_measure_103 (tgt := 36) (by decide) ?_
            refine gg_sub [3, 4, 5, 0] rfl ?_
            exact ih (y3 + (-1)) (upd g_l x3.toNatClampNeg x6) x6 y3
        · refine gg_goto C dX4_measure_58 (tgt := 100) (by decide) ?_
          refine gg_iinc C dX4_measure_100 (j := 4) rfl (v := y3 + (-1)) (by first | rfl | decide) hn (by decide) (lv' := [(3, .int (y3 + (-1))), (4, .int x3), (0, .ref (a 0)), (1, .ref x), (2, .int y2)]) rfl ?_
          refine gg_goto C dX4_measure_103 (tgt := 36) (by decide) ?_
          refine gg_sub [2, 3, 4, 0] rfl ?_
          exact ih (y3 + (-1)) g_l g_m g_f
def f_X4_measure (g_l : Nat → Int32) (w_f : Nat → Int32) (v2 : Int32) : Option ((Nat → Int32) × Int32 × Int32) := jn (α := Int32 × (Nat → Int32)) (f_X4_measure_L2 100 0 g_l) (fun z1 => bi ((40 : Int32) - 1) (fun x2 => jn (α := Int32 × (Nat → Int32) × Int32 × Int32) (f_X4_measure_L36 v2 w_f 100 x2 z1.2 0 v2) (fun z7 => some (z7.2.1, z7.2.2.1, z7.2.2.2))))
set_option maxHeartbeats 4000000 in
set_option maxRecDepth 100000 in
theorem c_X4_measure (l : Launch) (D : va_G) (T : Nat → ClassId) (a : Nat → Nat) (x : Nat) (g_l : Nat → Int32) (g_m : Int32) (g_f : Int32) (w_f : Nat → Int32) (v2 : Int32) (r : (Nat → Int32) × Int32 × Int32) (h : f_X4_measure g_l w_f v2 = some r) : Kt l D T yX4_measure cX4_measure 6 none (2, 0, 0, 44) [.ref (a 0), .ref x, .int v2] (wR T a g_l g_m g_f ++ (wA T x 40 w_f)) (FF (fun (r : (Nat → Int32) × Int32 × Int32) => none) (fun r => wR T a r.1 r.2.1 r.2.2 ++ (wA T x 40 w_f)) r) := by
  refine kt_of (own := RX4) (nm := "measure") (lv := [(0, .ref (a 0)), (1, .ref x), (2, .int v2)]) (by decide) rfl rfl rfl (Nat.le_of_ble_eq_true rfl) h (fun X hn C M => ?_)
  have hnn : ((0, 0) : Nat × Nat).1 ≤ 0 ∧ ((0, 0) : Nat × Nat).2 ≤ 0 := ⟨Nat.le_refl 0, Nat.le_refl 0⟩
  unfold f_X4_measure
  refine gg_iconst C dX4_measure_0 kI_0 ?_
  refine gg_istore_n C dX4_measure_1 rfl hn (by decide) (lv' := [(3, .int 0), (0, .ref (a 0)), (1, .ref x), (2, .int v2)]) rfl ?_
  refine gg_join (α := Int32 × (Nat → Int32)) 21 (fun z1 => wR T a z1.2 g_m g_f ++ (wA T x 40 w_f)) (fun z1 => [(0, .ref (a 0)), (1, .ref x), (2, .int v2), (3, .int z1.1)]) (fun z1 => []) (fun z1 => ?_) (fun K9 => ?_)
  · refine gg_aload_n C dX4_measure_21 rfl 0 rfl ?_
    refine gg_iconst C dX4_measure_22 kI_0 ?_
    refine pf_X4_15 C 0 rfl (Nat.le_of_ble_eq_true rfl) dX4_measure_23 (ws' := wR T a z1.2 0 g_f ++ (wA T x 40 w_f)) rfl ?_
    refine gg_aload_n C dX4_measure_26 rfl 0 rfl ?_
    refine gg_iload_n C dX4_measure_27 rfl 2 rfl ?_
    refine pf_X4_19 C 0 rfl (Nat.le_of_ble_eq_true rfl) dX4_measure_28 (ws' := wR T a z1.2 0 v2 ++ (wA T x 40 w_f)) rfl ?_
    refine gg_aload_n C dX4_measure_31 rfl 1 rfl ?_
    refine gg_alen C 2 rfl (v := 40) (by decide) dX4_measure_32 ?_
    refine gg_iconst C dX4_measure_33 kI_1 ?_
    refine gg_isub C dX4_measure_34 ?_
    refine gg_bi (fun x2 => ?_)
    refine gg_istore_n C dX4_measure_35 rfl hn (by decide) (lv' := [(3, .int x2), (0, .ref (a 0)), (1, .ref x), (2, .int v2)]) rfl ?_
    refine gg_join (α := Int32 × (Nat → Int32) × Int32 × Int32) 106 (fun z7 => wR T a z7.2.1 z7.2.2.1 z7.2.2.2 ++ (wA T x 40 w_f)) (fun z7 => [(0, .ref (a 0)), (1, .ref x), (2, .int v2), (3, .int z7.1)]) (fun z7 => []) (fun z7 => ?_) (fun K8 => ?_)
    · exact gg_vret C M dX4_measure_106 ⟨rfl, rfl⟩
    · refine gg_sub [1, 2, 3, 0] rfl ?_
      exact g_X4_measure_L36 C hnn hn a x v2 w_f K8 100 x2 z1.2 0 v2
  · refine gg_sub [1, 2, 3, 0] rfl ?_
    exact g_X4_measure_L2 C hnn hn a x v2 g_m g_f w_f K9 100 0 g_l
