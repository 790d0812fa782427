def f_X9_in (v0 : Int64) (v2 : Int64) (v4 : Int64) : Option (Int32) := if lg_cmp v0 v2 < 0 then some 0 else if 0 < lg_cmp v0 v4 then some 0 else some 1
set_option maxHeartbeats 4000000 in
set_option maxRecDepth 100000 in
theorem c_X9_in (l : Launch) (D : va_G) (T : Nat → ClassId)   (v0 : Int64) (v2 : Int64) (v4 : Int64) (r : Int32) (h : f_X9_in v0 v2 v4 = some r) : Kt l D T yX9_in cX9_in 6 (some .boolean) (0, 0, 0, 0) [.long v0, .long v2, .long v4] ([]) (FF (fun (r : Int32) => some (.int r)) (fun r => []) r) := by
  refine kt_of (own := RX9) (nm := "in") (lv := [(0, .long v0), (2, .long v2), (4, .long v4)]) (by decide) rfl rfl rfl (Nat.le_of_ble_eq_true rfl) h (fun X hn C M => ?_)
  have hnn : ((0, 0) : Nat × Nat).1 ≤ 0 ∧ ((0, 0) : Nat × Nat).2 ≤ 0 := ⟨Nat.le_refl 0, Nat.le_refl 0⟩
  unfold f_X9_in
  refine gg_lload_n C dX9_in_0 rfl 0 rfl ?_
  refine gg_lload_n C dX9_in_1 rfl 1 rfl ?_
  refine gg_lcmp C dX9_in_2 ?_
  refine gg_if_lt C dX9_in_3 (tgt := 17) (by decide) (fun _ => ?_) (fun _ => ?_)
  · refine gg_iconst C dX9_in_17 kI_0 ?_
    exact gg_zret C M dX9_in_18 rfl ⟨rfl, rfl⟩
  · refine gg_lload_n C dX9_in_6 rfl 0 rfl ?_
    refine gg_lload C dX9_in_7 2 rfl ?_
    refine gg_lcmp C dX9_in_9 ?_
    refine gg_if_gt C dX9_in_10 (tgt := 17) (by decide) (fun _ => ?_) (fun _ => ?_)
    · refine gg_iconst C dX9_in_17 kI_0 ?_
      exact gg_zret C M dX9_in_18 rfl ⟨rfl, rfl⟩
    · refine gg_iconst C dX9_in_13 kI_1 ?_
      refine gg_goto C dX9_in_14 (tgt := 18) (by decide) ?_
      exact gg_zret C M dX9_in_18 rfl ⟨rfl, rfl⟩
def f_X9_isPlace (v0 : Int32) : Option (Int32) := jn (f_X9_in v0.toInt64 0 39) (fun r1 => gz r1 (some r1))
set_option maxHeartbeats 4000000 in
set_option maxRecDepth 100000 in
theorem c_X9_isPlace (l : Launch) (D : va_G) (T : Nat → ClassId)   (v0 : Int32) (r : Int32) (h : f_X9_isPlace v0 = some r) : Kt l D T yX9_isPlace cX9_isPlace 1 (some .boolean) (1, 0, 0, 25) [.int v0] ([]) (FF (fun (r : Int32) => some (.int r)) (fun r => []) r) := by
  refine kt_of (own := RX9) (nm := "isPlace") (lv := [(0, .int v0)]) (by decide) rfl rfl rfl (Nat.le_of_ble_eq_true rfl) h (fun X hn C M => ?_)
  have hnn : ((0, 0) : Nat × Nat).1 ≤ 0 ∧ ((0, 0) : Nat × Nat).2 ≤ 0 := ⟨Nat.le_refl 0, Nat.le_refl 0⟩
  unfold f_X9_isPlace
  refine gg_iload_n C dX9_isPlace_0 rfl 0 rfl ?_
  refine gg_i2l C dX9_isPlace_1 ?_
  refine gg_lconst C dX9_isPlace_2 (v := 0) (by decide) ?_
  refine gg_ldc2 C tw_646 dX9_isPlace_3 ?_
  refine gg_callS C (fun l r h => c_X9_in l D T v0.toInt64 0 39 r h) lk_X9_76 ⟨by decide, by decide⟩ hnn rfl (rest := []) rfl (Nat.le_of_ble_eq_true rfl) dX9_isPlace_6 cut_none (st2 := fun r1 => [.int r1]) (fun _ => rfl) (fun r1 => ?_)
  exact gg_zretG C M dX9_isPlace_9 ⟨rfl, rfl⟩
def f_X9_isHeir (v0 : Int32) : Option (Int32) := jn (f_X9_in v0.toInt64 0 5) (fun r1 => gz r1 (some r1))
set_option maxHeartbeats 4000000 in
set_option maxRecDepth 100000 in
theorem c_X9_isHeir (l : Launch) (D : va_G) (T : Nat → ClassId)   (v0 : Int32) (r : Int32) (h : f_X9_isHeir v0 = some r) : Kt l D T yX9_isHeir cX9_isHeir 1 (some .boolean) (1, 0, 0, 25) [.int v0] ([]) (FF (fun (r : Int32) => some (.int r)) (fun r => []) r) := by
  refine kt_of (own := RX9) (nm := "isHeir") (lv := [(0, .int v0)]) (by decide) rfl rfl rfl (Nat.le_of_ble_eq_true rfl) h (fun X hn C M => ?_)
  have hnn : ((0, 0) : Nat × Nat).1 ≤ 0 ∧ ((0, 0) : Nat × Nat).2 ≤ 0 := ⟨Nat.le_refl 0, Nat.le_refl 0⟩
  unfold f_X9_isHeir
  refine gg_iload_n C dX9_isHeir_0 rfl 0 rfl ?_
  refine gg_i2l C dX9_isHeir_1 ?_
  refine gg_lconst C dX9_isHeir_2 (v := 0) (by decide) ?_
  refine gg_ldc2 C tw_651 dX9_isHeir_3 ?_
  refine gg_callS C (fun l r h => c_X9_in l D T v0.toInt64 0 5 r h) lk_X9_76 ⟨by decide, by decide⟩ hnn rfl (rest := []) rfl (Nat.le_of_ble_eq_true rfl) dX9_isHeir_6 cut_none (st2 := fun r1 => [.int r1]) (fun _ => rfl) (fun r1 => ?_)
  exact gg_zretG C M dX9_isHeir_9 ⟨rfl, rfl⟩
def f_X9_less (v0 : Int32) (v1 : Int32) : Option (Int32) := if v1 ≤ v0 then some v1 else some v0
set_option maxHeartbeats 4000000 in
set_option maxRecDepth 100000 in
theorem c_X9_less (l : Launch) (D : va_G) (T : Nat → ClassId)   (v0 : Int32) (v1 : Int32) (r : Int32) (h : f_X9_less v0 v1 = some r) : Kt l D T yX9_less cX9_less 2 (some .int) (0, 0, 0, 0) [.int v0, .int v1] ([]) (FF (fun (r : Int32) => some (.int r)) (fun r => []) r) := by
  refine kt_of (own := RX9) (nm := "less") (lv := [(0, .int v0), (1, .int v1)]) (by decide) rfl rfl rfl (Nat.le_of_ble_eq_true rfl) h (fun X hn C M => ?_)
  have hnn : ((0, 0) : Nat × Nat).1 ≤ 0 ∧ ((0, 0) : Nat × Nat).2 ≤ 0 := ⟨Nat.le_refl 0, Nat.le_refl 0⟩
  unfold f_X9_less
  refine gg_iload_n C dX9_less_0 rfl 0 rfl ?_
  refine gg_iload_n C dX9_less_1 rfl 1 rfl ?_
  refine gg_icmp_ge C dX9_less_2 (tgt := 9) (by decide) (fun _ => ?_) (fun _ => ?_)
  · refine gg_iload_n C dX9_less_9 rfl 1 rfl ?_
    exact gg_iret C M dX9_less_10 ⟨rfl, rfl⟩
  · refine gg_iload_n C dX9_less_5 rfl 0 rfl ?_
    refine gg_goto C dX9_less_6 (tgt := 10) (by decide) ?_
    exact gg_iret C M dX9_less_10 ⟨rfl, rfl⟩
def f_X9_isRow_L15 (y1 : Int32) : Nat → Int32 → Int32 → Int32 → Option (Int32 × Int32 × Int32)
  | 0, _, _, _ => none
  | nn + 1, y2, y3, y4 => if y1 ≤ y4 then some (y2, y3, y4) else jn (α := Int32) (if y3 = 0 then some 0 else if y2 - y2 / 10 * 10 ≤ 0 then some 0 else some 1) (fun z3 => bi (y2 / 10) (fun x5 => f_X9_isRow_L15 y1 nn x5 z3 (y4 + 1)))
set_option maxHeartbeats 4000000 in
set_option maxRecDepth 100000 in
theorem g_X9_isRow_L15 {X : KX} {D : va_G} {T : Nat → ClassId} {Q : Int32 × Int32 × Int32 → State → Prop} {n : Nat × Nat} (C : Cx X D T cX9_isRow RX9 { frames := 0, cells := 0, slots := 0, locals := 0 }) (hnn : n.1 ≤ 0 ∧ n.2 ≤ 0) (hn : kxL X = 5)   (y0 : Int32) (y1 : Int32) (hk : ∀ v : Int32 × Int32 × Int32, GG X D Q n ([]) [(0, .int y0), (1, .int y1), (2, .int v.1), (3, .int v.2.1), (4, .int v.2.2)] 49 [] (some (v))) : ∀ (nn : Nat) (y2 : Int32) (y3 : Int32) (y4 : Int32), GG X D Q n ([]) [(0, .int y0), (1, .int y1), (2, .int y2), (3, .int y3), (4, .int y4)] 15 [] (f_X9_isRow_L15 y1 nn y2 y3 y4) := by
  intro nn
  induction nn with
  | zero => intros; exact gg_none
  | succ nn ih =>
    intro y2 y3 y4
    unfold f_X9_isRow_L15
    refine gg_iload C dX9_isRow_15 4 rfl ?_
    refine gg_iload_n C dX9_isRow_17 rfl 1 rfl ?_
    refine gg_icmp_ge C dX9_isRow_18 (tgt := 49) (by decide) (fun _ => ?_) (fun _ => ?_)
    · refine gg_sub [0, 1, 2, 3, 4] rfl ?_
      exact hk (y2, y3, y4)
    · refine gg_iload_n C dX9_isRow_21 rfl 3 rfl ?_
      refine gg_join (α := Int32) 37 (fun z3 => []) (fun z3 => [(0, .int y0), (1, .int y1), (2, .int y2), (3, .int y3), (4, .int y4)]) (fun z3 => [.int z3]) (fun z3 => ?_) (fun K4 => ?_)
      · refine gg_istore_n C dX9_isRow_37 rfl hn (by decide) (lv' := [(3, .int z3), (0, .int y0), (1, .int y1), (2, .int y2), (4, .int y4)]) rfl ?_
        refine gg_iload_n C dX9_isRow_38 rfl 3 rfl ?_
        refine gg_bipush C dX9_isRow_39 kB_10 ?_
        refine gg_idivK C dX9_isRow_41 (by decide) ?_
        refine gg_bi (fun x5 => ?_)
        refine gg_istore_n C dX9_isRow_42 rfl hn (by decide) (lv' := [(2, .int x5), (3, .int z3), (0, .int y0), (1, .int y1), (4, .int y4)]) rfl ?_
        refine gg_iinc C dX9_isRow_43 (j := 4) rfl (v := y4 + 1) (by first | rfl | decide) hn (by decide) (lv' := [(4, .int (y4 + 1)), (2, .int x5), (3, .int z3), (0, .int y0), (1, .int y1)]) rfl ?_
        refine gg_goto C dX9_isRow_46 (tgt := 15) (by decide) ?_
        refine gg_sub [3, 4, 1, 2, 0] rfl ?_
        exact ih x5 z3 (y4 + 1)
      · refine gg_if_eq C dX9_isRow_22 (tgt := 36) (by decide) (fun _ => ?_) (fun _ => ?_)
        · refine gg_iconst C dX9_isRow_36 kI_0 ?_
          refine gg_sub [0, 1, 2, 3, 4] rfl ?_
          exact K4 0
        · refine gg_iload_n C dX9_isRow_25 rfl 2 rfl ?_
          refine gg_bipush C dX9_isRow_26 kB_10 ?_
          refine gg_iremK C dX9_isRow_28 (by decide) ?_
          refine gg_if_le C dX9_isRow_29 (tgt := 36) (by decide) (fun _ => ?_) (fun _ => ?_)
          · refine gg_iconst C dX9_isRow_36 kI_0 ?_
            refine gg_sub [0, 1, 2, 3, 4] rfl ?_
            exact K4 0
          · refine gg_iconst C dX9_isRow_32 kI_1 ?_
            refine gg_goto C dX9_isRow_33 (tgt := 37) (by decide) ?_
            refine gg_sub [0, 1, 2, 3, 4] rfl ?_
            exact K4 1
def f_X9_isRow (v0 : Int32) (v1 : Int32) : Option (Int32) := jn (α := Int32) (if v0 ≤ 0 then some 0 else some 1) (fun z1 => jn (α := Int32 × Int32 × Int32) (f_X9_isRow_L15 v1 100 v0 z1 0) (fun z6 => if z6.2.1 = 0 then some 0 else if z6.1 = 0 then some 1 else some 0))
set_option maxHeartbeats 4000000 in
set_option maxRecDepth 100000 in
theorem c_X9_isRow (l : Launch) (D : va_G) (T : Nat → ClassId)   (v0 : Int32) (v1 : Int32) (r : Int32) (h : f_X9_isRow v0 v1 = some r) : Kt l D T yX9_isRow cX9_isRow 5 (some .boolean) (0, 0, 0, 0) [.int v0, .int v1] ([]) (FF (fun (r : Int32) => some (.int r)) (fun r => []) r) := by
  refine kt_of (own := RX9) (nm := "isRow") (lv := [(0, .int v0), (1, .int v1)]) (by decide) rfl rfl rfl (Nat.le_of_ble_eq_true rfl) h (fun X hn C M => ?_)
  have hnn : ((0, 0) : Nat × Nat).1 ≤ 0 ∧ ((0, 0) : Nat × Nat).2 ≤ 0 := ⟨Nat.le_refl 0, Nat.le_refl 0⟩
  unfold f_X9_isRow
  refine gg_iload_n C dX9_isRow_0 rfl 0 rfl ?_
  refine gg_istore_n C dX9_isRow_1 rfl hn (by decide) (lv' := [(2, .int v0), (0, .int v0), (1, .int v1)]) rfl ?_
  refine gg_iload_n C dX9_isRow_2 rfl 1 rfl ?_
  refine gg_join (α := Int32) 11 (fun z1 => []) (fun z1 => [(0, .int v0), (1, .int v1), (2, .int v0)]) (fun z1 => [.int z1]) (fun z1 => ?_) (fun K2 => ?_)
  · refine gg_istore_n C dX9_isRow_11 rfl hn (by decide) (lv' := [(3, .int z1), (0, .int v0), (1, .int v1), (2, .int v0)]) rfl ?_
    refine gg_iconst C dX9_isRow_12 kI_0 ?_
    refine gg_istore C dX9_isRow_13 hn (by decide) (lv' := [(4, .int 0), (3, .int z1), (0, .int v0), (1, .int v1), (2, .int v0)]) rfl ?_
    refine gg_join (α := Int32 × Int32 × Int32) 49 (fun z6 => []) (fun z6 => [(0, .int v0), (1, .int v1), (2, .int z6.1), (3, .int z6.2.1), (4, .int z6.2.2)]) (fun z6 => []) (fun z6 => ?_) (fun K7 => ?_)
    · refine gg_iload_n C dX9_isRow_49 rfl 3 rfl ?_
      refine gg_if_eq C dX9_isRow_50 (tgt := 61) (by decide) (fun _ => ?_) (fun _ => ?_)
      · refine gg_iconst C dX9_isRow_61 kI_0 ?_
        exact gg_zret C M dX9_isRow_62 rfl ⟨rfl, rfl⟩
      · refine gg_iload_n C dX9_isRow_53 rfl 2 rfl ?_
        refine gg_if_ne C dX9_isRow_54 (tgt := 61) (by decide) (fun _ => ?_) (fun _ => ?_)
        · refine gg_iconst C dX9_isRow_61 kI_0 ?_
          exact gg_zret C M dX9_isRow_62 rfl ⟨rfl, rfl⟩
        · refine gg_iconst C dX9_isRow_57 kI_1 ?_
          refine gg_goto C dX9_isRow_58 (tgt := 62) (by decide) ?_
          exact gg_zret C M dX9_isRow_62 rfl ⟨rfl, rfl⟩
    · refine gg_sub [2, 3, 4, 1, 0] rfl ?_
      exact g_X9_isRow_L15 C hnn hn  v0 v1 K7 100 v0 z1 0
  · refine gg_if_le C dX9_isRow_3 (tgt := 10) (by decide) (fun _ => ?_) (fun _ => ?_)
    · refine gg_iconst C dX9_isRow_10 kI_0 ?_
      refine gg_sub [1, 2, 0] rfl ?_
      exact K2 0
    · refine gg_iconst C dX9_isRow_6 kI_1 ?_
      refine gg_goto C dX9_isRow_7 (tgt := 11) (by decide) ?_
      refine gg_sub [1, 2, 0] rfl ?_
      exact K2 1
def f_X9_lowest_L6  : Nat → Int64 → Int64 → Option (Int64 × Int64)
  | 0, _, _ => none
  | nn + 1, y5, y7 => if lg_cmp y7 0 = 0 then some (y5, y7) else gdL y7 (bi (y5 - y5 / y7 * y7) (fun x1 => f_X9_lowest_L6 nn y7 x1))
set_option maxHeartbeats 4000000 in
set_option maxRecDepth 100000 in
theorem g_X9_lowest_L6 {X : KX} {D : va_G} {T : Nat → ClassId} {Q : Int64 × Int64 → State → Prop} {n : Nat × Nat} (C : Cx X D T cX9_lowest RX9 { frames := 0, cells := 0, slots := 0, locals := 0 }) (hnn : n.1 ≤ 0 ∧ n.2 ≤ 0) (hn : kxL X = 11)   (y0 : Int64) (y2 : Int64) (y4 : Int32) (hk : ∀ v : Int64 × Int64, GG X D Q n ([]) [(0, .long y0), (2, .long y2), (4, .int y4), (5, .long v.1), (7, .long v.2)] 31 [] (some (v))) : ∀ (nn : Nat) (y5 : Int64) (y7 : Int64), GG X D Q n ([]) [(0, .long y0), (2, .long y2), (4, .int y4), (5, .long y5), (7, .long y7)] 6 [] (f_X9_lowest_L6 nn y5 y7) := by
  intro nn
  induction nn with
  | zero => intros; exact gg_none
  | succ nn ih =>
    intro y5 y7
    unfold f_X9_lowest_L6
    refine gg_lload C dX9_lowest_6 4 rfl ?_
    refine gg_lconst C dX9_lowest_8 (v := 0) (by decide) ?_
    refine gg_lcmp C dX9_lowest_9 ?_
    refine gg_if_eq C dX9_lowest_10 (tgt := 31) (by decide) (fun _ => ?_) (fun _ => ?_)
    · refine gg_sub [0, 1, 2, 3, 4] rfl ?_
      exact hk (y5, y7)
    · refine gg_lload C dX9_lowest_13 3 rfl ?_
      refine gg_lload C dX9_lowest_15 4 rfl ?_
      refine gg_lrem C dX9_lowest_17 ?_
      refine gg_biL (fun x1 => ?_)
      refine gg_lstore C dX9_lowest_18 hn (by decide) (lv' := [(9, .long x1), (0, .long y0), (2, .long y2), (4, .int y4), (5, .long y5), (7, .long y7)]) rfl ?_
      refine gg_lload C dX9_lowest_20 5 rfl ?_
      refine gg_lstore C dX9_lowest_22 hn (by decide) (lv' := [(5, .long y7), (9, .long x1), (0, .long y0), (2, .long y2), (4, .int y4), (7, .long y7)]) rfl ?_
      refine gg_lload C dX9_lowest_24 1 rfl ?_
      refine gg_lstore C dX9_lowest_26 hn (by decide) (lv' := [(7, .long x1), (5, .long y7), (9, .long x1), (0, .long y0), (2, .long y2), (4, .int y4)]) rfl ?_
      refine gg_goto C dX9_lowest_28 (tgt := 6) (by decide) ?_
      refine gg_sub [3, 4, 5, 1, 0] rfl ?_
      exact ih y7 x1
def f_X9_lowest (v0 : Int64) (v2 : Int64) (v4 : Int32) : Option (Int64) := jn (α := Int64 × Int64) (f_X9_lowest_L6 200 v2 v0) (fun z2 => if v4 = 0 then gdL z2.1 (some (v0 / z2.1)) else gdL z2.1 (some (v2 / z2.1)))
set_option maxHeartbeats 4000000 in
set_option maxRecDepth 100000 in
theorem c_X9_lowest (l : Launch) (D : va_G) (T : Nat → ClassId)   (v0 : Int64) (v2 : Int64) (v4 : Int32) (r : Int64) (h : f_X9_lowest v0 v2 v4 = some r) : Kt l D T yX9_lowest cX9_lowest 11 (some .long) (0, 0, 0, 0) [.long v0, .long v2, .int v4] ([]) (FF (fun (r : Int64) => some (.long r)) (fun r => []) r) := by
  refine kt_of (own := RX9) (nm := "lowest") (lv := [(0, .long v0), (2, .long v2), (4, .int v4)]) (by decide) rfl rfl rfl (Nat.le_of_ble_eq_true rfl) h (fun X hn C M => ?_)
  have hnn : ((0, 0) : Nat × Nat).1 ≤ 0 ∧ ((0, 0) : Nat × Nat).2 ≤ 0 := ⟨Nat.le_refl 0, Nat.le_refl 0⟩
  unfold f_X9_lowest
  refine gg_lload_n C dX9_lowest_0 rfl 1 rfl ?_
  refine gg_lstore C dX9_lowest_1 hn (by decide) (lv' := [(5, .long v2), (0, .long v0), (2, .long v2), (4, .int v4)]) rfl ?_
  refine gg_lload_n C dX9_lowest_3 rfl 1 rfl ?_
  refine gg_lstore C dX9_lowest_4 hn (by decide) (lv' := [(7, .long v0), (5, .long v2), (0, .long v0), (2, .long v2), (4, .int v4)]) rfl ?_
  refine gg_join (α := Int64 × Int64) 31 (fun z2 => []) (fun z2 => [(0, .long v0), (2, .long v2), (4, .int v4), (5, .long z2.1), (7, .long z2.2)]) (fun z2 => []) (fun z2 => ?_) (fun K3 => ?_)
  · refine gg_iload C dX9_lowest_31 2 rfl ?_
    refine gg_if_ne C dX9_lowest_33 (tgt := 43) (by decide) (fun _ => ?_) (fun _ => ?_)
    · refine gg_lload_n C dX9_lowest_43 rfl 1 rfl ?_
      refine gg_lload C dX9_lowest_44 3 rfl ?_
      refine gg_ldiv C dX9_lowest_46 ?_
      exact gg_lret C M dX9_lowest_47 ⟨rfl, rfl⟩
    · refine gg_lload_n C dX9_lowest_36 rfl 0 rfl ?_
      refine gg_lload C dX9_lowest_37 3 rfl ?_
      refine gg_ldiv C dX9_lowest_39 ?_
      refine gg_goto C dX9_lowest_40 (tgt := 47) (by decide) ?_
      exact gg_lret C M dX9_lowest_47 ⟨rfl, rfl⟩
  · refine gg_sub [2, 3, 4, 1, 0] rfl ?_
    exact g_X9_lowest_L6 C hnn hn  v0 v2 v4 K3 200 v2 v0
def f_X9_mixedOnce (v0 : Int32) (v1 : Int32) : Option (Int32) := if v0 / 2 ≤ v1 then some (((2 * v1) - v0) + 1) else some (2 * v1)
set_option maxHeartbeats 4000000 in
set_option maxRecDepth 100000 in
theorem c_X9_mixedOnce (l : Launch) (D : va_G) (T : Nat → ClassId)   (v0 : Int32) (v1 : Int32) (r : Int32) (h : f_X9_mixedOnce v0 v1 = some r) : Kt l D T yX9_mixedOnce cX9_mixedOnce 2 (some .int) (0, 0, 0, 0) [.int v0, .int v1] ([]) (FF (fun (r : Int32) => some (.int r)) (fun r => []) r) := by
  refine kt_of (own := RX9) (nm := "mixedOnce") (lv := [(0, .int v0), (1, .int v1)]) (by decide) rfl rfl rfl (Nat.le_of_ble_eq_true rfl) h (fun X hn C M => ?_)
  have hnn : ((0, 0) : Nat × Nat).1 ≤ 0 ∧ ((0, 0) : Nat × Nat).2 ≤ 0 := ⟨Nat.le_refl 0, Nat.le_refl 0⟩
  unfold f_X9_mixedOnce
  refine gg_iload_n C dX9_mixedOnce_0 rfl 1 rfl ?_
  refine gg_iload_n C dX9_mixedOnce_1 rfl 0 rfl ?_
  refine gg_iconst C dX9_mixedOnce_2 kI_2 ?_
  refine gg_idivK C dX9_mixedOnce_3 (by decide) ?_
  refine gg_icmp_ge C dX9_mixedOnce_4 (tgt := 13) (by decide) (fun _ => ?_) (fun _ => ?_)
  · refine gg_iconst C dX9_mixedOnce_13 kI_2 ?_
    refine gg_iload_n C dX9_mixedOnce_14 rfl 1 rfl ?_
    refine gg_imul C dX9_mixedOnce_15 ?_
    refine gg_iload_n C dX9_mixedOnce_16 rfl 0 rfl ?_
    refine gg_isub C dX9_mixedOnce_17 ?_
    refine gg_iconst C dX9_mixedOnce_18 kI_1 ?_
    refine gg_iadd C dX9_mixedOnce_19 ?_
    exact gg_iret C M dX9_mixedOnce_20 ⟨rfl, rfl⟩
  · refine gg_iconst C dX9_mixedOnce_7 kI_2 ?_
    refine gg_iload_n C dX9_mixedOnce_8 rfl 1 rfl ?_
    refine gg_imul C dX9_mixedOnce_9 ?_
    refine gg_goto C dX9_mixedOnce_10 (tgt := 20) (by decide) ?_
    exact gg_iret C M dX9_mixedOnce_20 ⟨rfl, rfl⟩
def f_X9_orderOf_L17 (y0 : Int32) : Nat → Int32 → Int32 → Option (Int32 × Int32)
  | 0, _, _ => none
  | nn + 1, y1, y2 => if y2 = 1 then some (y1, y2) else jn (f_X9_mixedOnce y0 y2) (fun r4 => f_X9_orderOf_L17 y0 nn (y1 + 1) r4)
set_option maxHeartbeats 4000000 in
set_option maxRecDepth 100000 in
theorem g_X9_orderOf_L17 {X : KX} {D : va_G} {T : Nat → ClassId} {Q : Int32 × Int32 → State → Prop} {n : Nat × Nat} (C : Cx X D T cX9_orderOf RX9 { frames := 1, cells := 0, slots := 0, locals := 21 }) (hnn : n.1 ≤ 0 ∧ n.2 ≤ 0) (hn : kxL X = 3)   (y0 : Int32) (hk : ∀ v : Int32 × Int32, GG X D Q n ([]) [(0, .int y0), (1, .int v.1), (2, .int v.2)] 34 [] (some (v))) : ∀ (nn : Nat) (y1 : Int32) (y2 : Int32), GG X D Q n ([]) [(0, .int y0), (1, .int y1), (2, .int y2)] 17 [] (f_X9_orderOf_L17 y0 nn y1 y2) := by
  intro nn
  induction nn with
  | zero => intros; exact gg_none
  | succ nn ih =>
    intro y1 y2
    unfold f_X9_orderOf_L17
    refine gg_iload_n C dX9_orderOf_17 rfl 2 rfl ?_
    refine gg_iconst C dX9_orderOf_18 kI_1 ?_
    refine gg_icmp_eq C dX9_orderOf_19 (tgt := 34) (by decide) (fun _ => ?_) (fun _ => ?_)
    · refine gg_sub [0, 1, 2] rfl ?_
      exact hk (y1, y2)
    · refine gg_iload_n C dX9_orderOf_22 rfl 0 rfl ?_
      refine gg_iload_n C dX9_orderOf_23 rfl 2 rfl ?_
      refine gg_callS C (fun l r h => c_X9_mixedOnce l D T y0 y2 r h) lk_X9_235 ⟨by decide, by decide⟩ hnn rfl (rest := []) rfl (Nat.le_of_ble_eq_true rfl) dX9_orderOf_24 cut_none (st2 := fun r4 => [.int r4]) (fun _ => rfl) (fun r4 => ?_)
      refine gg_istore_n C dX9_orderOf_27 rfl hn (by decide) (lv' := [(2, .int r4), (0, .int y0), (1, .int y1)]) rfl ?_
      refine gg_iinc C dX9_orderOf_28 (j := 2) rfl (v := y1 + 1) (by first | rfl | decide) hn (by decide) (lv' := [(1, .int (y1 + 1)), (2, .int r4), (0, .int y0)]) rfl ?_
      refine gg_goto C dX9_orderOf_31 (tgt := 17) (by decide) ?_
      refine gg_sub [2, 0, 1] rfl ?_
      exact ih (y1 + 1) r4
def f_X9_orderOf (v0 : Int32) : Option (Int32) := jn (α := Int32) (if v0 ≤ 2 then some 1 else jn (f_X9_mixedOnce v0 1) (fun r3 => some r3)) (fun z1 => jn (α := Int32 × Int32) (f_X9_orderOf_L17 v0 1100 1 z1) (fun z5 => some z5.1))
set_option maxHeartbeats 4000000 in
set_option maxRecDepth 100000 in
theorem c_X9_orderOf (l : Launch) (D : va_G) (T : Nat → ClassId)   (v0 : Int32) (r : Int32) (h : f_X9_orderOf v0 = some r) : Kt l D T yX9_orderOf cX9_orderOf 3 (some .int) (1, 0, 0, 21) [.int v0] ([]) (FF (fun (r : Int32) => some (.int r)) (fun r => []) r) := by
  refine kt_of (own := RX9) (nm := "orderOf") (lv := [(0, .int v0)]) (by decide) rfl rfl rfl (Nat.le_of_ble_eq_true rfl) h (fun X hn C M => ?_)
  have hnn : ((0, 0) : Nat × Nat).1 ≤ 0 ∧ ((0, 0) : Nat × Nat).2 ≤ 0 := ⟨Nat.le_refl 0, Nat.le_refl 0⟩
  unfold f_X9_orderOf
  refine gg_iconst C dX9_orderOf_0 kI_1 ?_
  refine gg_istore_n C dX9_orderOf_1 rfl hn (by decide) (lv' := [(1, .int 1), (0, .int v0)]) rfl ?_
  refine gg_iload_n C dX9_orderOf_2 rfl 1 rfl ?_
  refine gg_iconst C dX9_orderOf_3 kI_2 ?_
  refine gg_join (α := Int32) 16 (fun z1 => []) (fun z1 => [(0, .int v0), (1, .int 1)]) (fun z1 => [.int z1]) (fun z1 => ?_) (fun K2 => ?_)
  · refine gg_istore_n C dX9_orderOf_16 rfl hn (by decide) (lv' := [(2, .int z1), (0, .int v0), (1, .int 1)]) rfl ?_
    refine gg_join (α := Int32 × Int32) 34 (fun z5 => []) (fun z5 => [(0, .int v0), (1, .int z5.1), (2, .int z5.2)]) (fun z5 => []) (fun z5 => ?_) (fun K6 => ?_)
    · refine gg_iload_n C dX9_orderOf_34 rfl 1 rfl ?_
      exact gg_iret C M dX9_orderOf_35 ⟨rfl, rfl⟩
    · refine gg_sub [1, 2, 0] rfl ?_
      exact g_X9_orderOf_L17 C hnn hn  v0 K6 1100 1 z1
  · refine gg_icmp_le C dX9_orderOf_4 (tgt := 15) (by decide) (fun _ => ?_) (fun _ => ?_)
    · refine gg_iconst C dX9_orderOf_15 kI_1 ?_
      refine gg_sub [1, 0] rfl ?_
      exact K2 1
    · refine gg_iload_n C dX9_orderOf_7 rfl 1 rfl ?_
      refine gg_iconst C dX9_orderOf_8 kI_1 ?_
      refine gg_callS C (fun l r h => c_X9_mixedOnce l D T v0 1 r h) lk_X9_235 ⟨by decide, by decide⟩ hnn rfl (rest := []) rfl (Nat.le_of_ble_eq_true rfl) dX9_orderOf_9 cut_none (st2 := fun r3 => [.int r3]) (fun _ => rfl) (fun r3 => ?_)
      refine gg_goto C dX9_orderOf_12 (tgt := 16) (by decide) ?_
      refine gg_sub [1, 0] rfl ?_
      exact K2 r3
def f_X9_isLike (v0 : Int32) (v1 : Int32) (v2 : Int32) : Option (Int32) := jn (f_X9_in v0.toInt64 (((v1 - v2 : Int32)).toInt64) (((v1 + v2 : Int32)).toInt64)) (fun r1 => gz r1 (some r1))
set_option maxHeartbeats 4000000 in
set_option maxRecDepth 100000 in
theorem c_X9_isLike (l : Launch) (D : va_G) (T : Nat → ClassId)   (v0 : Int32) (v1 : Int32) (v2 : Int32) (r : Int32) (h : f_X9_isLike v0 v1 v2 = some r) : Kt l D T yX9_isLike cX9_isLike 3 (some .boolean) (1, 0, 0, 25) [.int v0, .int v1, .int v2] ([]) (FF (fun (r : Int32) => some (.int r)) (fun r => []) r) := by
  refine kt_of (own := RX9) (nm := "isLike") (lv := [(0, .int v0), (1, .int v1), (2, .int v2)]) (by decide) rfl rfl rfl (Nat.le_of_ble_eq_true rfl) h (fun X hn C M => ?_)
  have hnn : ((0, 0) : Nat × Nat).1 ≤ 0 ∧ ((0, 0) : Nat × Nat).2 ≤ 0 := ⟨Nat.le_refl 0, Nat.le_refl 0⟩
  unfold f_X9_isLike
  refine gg_iload_n C dX9_isLike_0 rfl 0 rfl ?_
  refine gg_i2l C dX9_isLike_1 ?_
  refine gg_iload_n C dX9_isLike_2 rfl 1 rfl ?_
  refine gg_iload_n C dX9_isLike_3 rfl 2 rfl ?_
  refine gg_isub C dX9_isLike_4 ?_
  refine gg_i2l C dX9_isLike_5 ?_
  refine gg_iload_n C dX9_isLike_6 rfl 1 rfl ?_
  refine gg_iload_n C dX9_isLike_7 rfl 2 rfl ?_
  refine gg_iadd C dX9_isLike_8 ?_
  refine gg_i2l C dX9_isLike_9 ?_
  refine gg_callS C (fun l r h => c_X9_in l D T v0.toInt64 (((v1 - v2 : Int32)).toInt64) (((v1 + v2 : Int32)).toInt64) r h) lk_X9_76 ⟨by decide, by decide⟩ hnn rfl (rest := []) rfl (Nat.le_of_ble_eq_true rfl) dX9_isLike_10 cut_none (st2 := fun r1 => [.int r1]) (fun _ => rfl) (fun r1 => ?_)
  exact gg_zretG C M dX9_isLike_13 ⟨rfl, rfl⟩
def f_X9_likely_L5 (y0 : Int32) (y1 : Int32) : Nat → Int64 → Int32 → Option (Int64 × Int32)
  | 0, _, _ => none
  | nn + 1, y2, y4 => if y0 ≤ y4 then some (y2, y4) else if y1 ≤ 0 then some (y2, y4) else gdL y4.toInt64 (bi (y2 + (232792560 / y4.toInt64)) (fun x1 => f_X9_likely_L5 y0 y1 nn x1 (y4 + 1)))
set_option maxHeartbeats 4000000 in
set_option maxRecDepth 100000 in
theorem g_X9_likely_L5 {X : KX} {D : va_G} {T : Nat → ClassId} {Q : Int64 × Int32 → State → Prop} {n : Nat × Nat} (C : Cx X D T cX9_likely RX9 { frames := 0, cells := 0, slots := 0, locals := 0 }) (hnn : n.1 ≤ 0 ∧ n.2 ≤ 0) (hn : kxL X = 5)   (y0 : Int32) (y1 : Int32) (hk : ∀ v : Int64 × Int32, GG X D Q n ([]) [(0, .int y0), (1, .int y1), (2, .long v.1), (4, .int v.2)] 31 [] (some (v))) : ∀ (nn : Nat) (y2 : Int64) (y4 : Int32), GG X D Q n ([]) [(0, .int y0), (1, .int y1), (2, .long y2), (4, .int y4)] 5 [] (f_X9_likely_L5 y0 y1 nn y2 y4) := by
  intro nn
  induction nn with
  | zero => intros; exact gg_none
  | succ nn ih =>
    intro y2 y4
    unfold f_X9_likely_L5
    refine gg_iload C dX9_likely_5 3 rfl ?_
    refine gg_iload_n C dX9_likely_7 rfl 0 rfl ?_
    refine gg_icmp_ge C dX9_likely_8 (tgt := 31) (by decide) (fun _ => ?_) (fun _ => ?_)
    · refine gg_sub [0, 1, 2, 3] rfl ?_
      exact hk (y2, y4)
    · refine gg_iload_n C dX9_likely_11 rfl 1 rfl ?_
      refine gg_if_le C dX9_likely_12 (tgt := 31) (by decide) (fun _ => ?_) (fun _ => ?_)
      · refine gg_sub [0, 1, 2, 3] rfl ?_
        exact hk (y2, y4)
      · refine gg_lload_n C dX9_likely_15 rfl 2 rfl ?_
        refine gg_ldc2 C tw_888 dX9_likely_16 ?_
        refine gg_iload C dX9_likely_19 3 rfl ?_
        refine gg_i2l C dX9_likely_21 ?_
        refine gg_ldiv C dX9_likely_22 ?_
        refine gg_ladd C dX9_likely_23 ?_
        refine gg_biL (fun x1 => ?_)
        refine gg_lstore_n C dX9_likely_24 rfl hn (by decide) (lv' := [(2, .long x1), (0, .int y0), (1, .int y1), (4, .int y4)]) rfl ?_
        refine gg_iinc C dX9_likely_25 (j := 3) rfl (v := y4 + 1) (by first | rfl | decide) hn (by decide) (lv' := [(4, .int (y4 + 1)), (2, .long x1), (0, .int y0), (1, .int y1)]) rfl ?_
        refine gg_goto C dX9_likely_28 (tgt := 5) (by decide) ?_
        refine gg_sub [2, 3, 1, 0] rfl ?_
        exact ih x1 (y4 + 1)
def f_X9_likely (v0 : Int32) (v1 : Int32) : Option (Int64) := jn (α := Int64 × Int32) (f_X9_likely_L5 v0 v1 100 0 v1) (fun z2 => if v1 = 0 then some 232792560 else some (v1.toInt64 * z2.1))
set_option maxHeartbeats 4000000 in
set_option maxRecDepth 100000 in
theorem c_X9_likely (l : Launch) (D : va_G) (T : Nat → ClassId)   (v0 : Int32) (v1 : Int32) (r : Int64) (h : f_X9_likely v0 v1 = some r) : Kt l D T yX9_likely cX9_likely 5 (some .long) (0, 0, 0, 0) [.int v0, .int v1] ([]) (FF (fun (r : Int64) => some (.long r)) (fun r => []) r) := by
  refine kt_of (own := RX9) (nm := "likely") (lv := [(0, .int v0), (1, .int v1)]) (by decide) rfl rfl rfl (Nat.le_of_ble_eq_true rfl) h (fun X hn C M => ?_)
  have hnn : ((0, 0) : Nat × Nat).1 ≤ 0 ∧ ((0, 0) : Nat × Nat).2 ≤ 0 := ⟨Nat.le_refl 0, Nat.le_refl 0⟩
  unfold f_X9_likely
  refine gg_lconst C dX9_likely_0 (v := 0) (by decide) ?_
  refine gg_lstore_n C dX9_likely_1 rfl hn (by decide) (lv' := [(2, .long 0), (0, .int v0), (1, .int v1)]) rfl ?_
  refine gg_iload_n C dX9_likely_2 rfl 2 rfl ?_
  refine gg_istore C dX9_likely_3 hn (by decide) (lv' := [(4, .int v1), (2, .long 0), (0, .int v0), (1, .int v1)]) rfl ?_
  refine gg_join (α := Int64 × Int32) 31 (fun z2 => []) (fun z2 => [(0, .int v0), (1, .int v1), (2, .long z2.1), (4, .int z2.2)]) (fun z2 => []) (fun z2 => ?_) (fun K3 => ?_)
  · refine gg_iload_n C dX9_likely_31 rfl 1 rfl ?_
    refine gg_if_ne C dX9_likely_32 (tgt := 41) (by decide) (fun _ => ?_) (fun _ => ?_)
    · refine gg_iload_n C dX9_likely_41 rfl 1 rfl ?_
      refine gg_i2l C dX9_likely_42 ?_
      refine gg_lload_n C dX9_likely_43 rfl 2 rfl ?_
      refine gg_lmul C dX9_likely_44 ?_
      exact gg_lret C M dX9_likely_45 ⟨rfl, rfl⟩
    · refine gg_ldc2 C tw_888 dX9_likely_35 ?_
      refine gg_goto C dX9_likely_38 (tgt := 45) (by decide) ?_
      exact gg_lret C M dX9_likely_45 ⟨rfl, rfl⟩
  · refine gg_sub [2, 3, 1, 0] rfl ?_
    exact g_X9_likely_L5 C hnn hn  v0 v1 K3 100 0 v1
def f_X9_actBy (v0 : Int32) (v1 : Int32) : Option (Int32) := if v0 = 0 then some 0 else (if v0 = 1 then some 0 else (if v0 = 2 then some 1 else (if v0 = 3 then some 2 else (if v0 = 4 then some 3 else (if v0 = 5 then some 4 else (if v0 = 6 then some 5 else (if v1 - v1 / 8 * 8 = 0 then some 6 else some 7)))))))
set_option maxHeartbeats 4000000 in
set_option maxRecDepth 100000 in
theorem c_X9_actBy (l : Launch) (D : va_G) (T : Nat → ClassId)   (v0 : Int32) (v1 : Int32) (r : Int32) (h : f_X9_actBy v0 v1 = some r) : Kt l D T yX9_actBy cX9_actBy 2 (some .int) (0, 0, 0, 0) [.int v0, .int v1] ([]) (FF (fun (r : Int32) => some (.int r)) (fun r => []) r) := by
  refine kt_of (own := RX9) (nm := "actBy") (lv := [(0, .int v0), (1, .int v1)]) (by decide) rfl rfl rfl (Nat.le_of_ble_eq_true rfl) h (fun X hn C M => ?_)
  have hnn : ((0, 0) : Nat × Nat).1 ≤ 0 ∧ ((0, 0) : Nat × Nat).2 ≤ 0 := ⟨Nat.le_refl 0, Nat.le_refl 0⟩
  unfold f_X9_actBy
  refine gg_iload_n C dX9_actBy_0 rfl 0 rfl ?_
  refine gg_ite (fun hs1 => ?_) (fun hs1 => ?_)
  · refine gg_tabIn C 0 dX9_actBy_1 (by rw [hs1]; decide) (by decide) (by decide) (off := 43) (by decide) (tgt := 44) (by decide) ?_
    refine gg_iconst C dX9_actBy_44 kI_0 ?_
    exact gg_iret C M dX9_actBy_45 ⟨rfl, rfl⟩
  refine gg_ite (fun hs2 => ?_) (fun hs2 => ?_)
  · refine gg_tabIn C 1 dX9_actBy_1 (by rw [hs2]; decide) (by decide) (by decide) (off := 43) (by decide) (tgt := 44) (by decide) ?_
    refine gg_iconst C dX9_actBy_44 kI_0 ?_
    exact gg_iret C M dX9_actBy_45 ⟨rfl, rfl⟩
  refine gg_ite (fun hs3 => ?_) (fun hs3 => ?_)
  · refine gg_tabIn C 2 dX9_actBy_1 (by rw [hs3]; decide) (by decide) (by decide) (off := 45) (by decide) (tgt := 46) (by decide) ?_
    refine gg_iconst C dX9_actBy_46 kI_1 ?_
    exact gg_iret C M dX9_actBy_47 ⟨rfl, rfl⟩
  refine gg_ite (fun hs4 => ?_) (fun hs4 => ?_)
  · refine gg_tabIn C 3 dX9_actBy_1 (by rw [hs4]; decide) (by decide) (by decide) (off := 47) (by decide) (tgt := 48) (by decide) ?_
    refine gg_iconst C dX9_actBy_48 kI_2 ?_
    exact gg_iret C M dX9_actBy_49 ⟨rfl, rfl⟩
  refine gg_ite (fun hs5 => ?_) (fun hs5 => ?_)
  · refine gg_tabIn C 4 dX9_actBy_1 (by rw [hs5]; decide) (by decide) (by decide) (off := 49) (by decide) (tgt := 50) (by decide) ?_
    refine gg_iconst C dX9_actBy_50 kI_3 ?_
    exact gg_iret C M dX9_actBy_51 ⟨rfl, rfl⟩
  refine gg_ite (fun hs6 => ?_) (fun hs6 => ?_)
  · refine gg_tabIn C 5 dX9_actBy_1 (by rw [hs6]; decide) (by decide) (by decide) (off := 51) (by decide) (tgt := 52) (by decide) ?_
    refine gg_iconst C dX9_actBy_52 kI_4 ?_
    exact gg_iret C M dX9_actBy_53 ⟨rfl, rfl⟩
  refine gg_ite (fun hs7 => ?_) (fun hs7 => ?_)
  · refine gg_tabIn C 6 dX9_actBy_1 (by rw [hs7]; decide) (by decide) (by decide) (off := 53) (by decide) (tgt := 54) (by decide) ?_
    refine gg_iconst C dX9_actBy_54 kI_5 ?_
    exact gg_iret C M dX9_actBy_55 ⟨rfl, rfl⟩
  refine gg_tabOut C dX9_actBy_1 (by have q0 := lv_neT hs1 (a := 0) (by decide); have q1 := lv_neT hs2 (a := 1) (by decide); have q2 := lv_neT hs3 (a := 2) (by decide); have q3 := lv_neT hs4 (a := 3) (by decide); have q4 := lv_neT hs5 (a := 4) (by decide); have q5 := lv_neT hs6 (a := 5) (by decide); have q6 := lv_neT hs7 (a := 6) (by decide); omega) (tgt := 56) (by decide) ?_
  refine gg_iload_n C dX9_actBy_56 rfl 1 rfl ?_
  refine gg_bipush C dX9_actBy_57 kB_8 ?_
  refine gg_iremK C dX9_actBy_59 (by decide) ?_
  refine gg_if_ne C dX9_actBy_60 (tgt := 68) (by decide) (fun _ => ?_) (fun _ => ?_)
  · refine gg_bipush C dX9_actBy_68 kB_7 ?_
    exact gg_iret C M dX9_actBy_70 ⟨rfl, rfl⟩
  · refine gg_bipush C dX9_actBy_63 kB_6 ?_
    refine gg_goto C dX9_actBy_65 (tgt := 70) (by decide) ?_
    exact gg_iret C M dX9_actBy_70 ⟨rfl, rfl⟩
