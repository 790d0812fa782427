def f_X8_isWithin (v0 : Int32) (v1 : Int32) (v2 : Int32) : Option (Int32) := if v0 < v1 then some 0 else if v2 < v0 then some 0 else some 1
set_option maxHeartbeats 4000000 in
set_option maxRecDepth 100000 in
theorem c_X8_isWithin (l : Launch) (D : va_G) (T : Nat → ClassId)   (v0 : Int32) (v1 : Int32) (v2 : Int32) (r : Int32) (h : f_X8_isWithin v0 v1 v2 = some r) : Kt l D T yX8_isWithin cX8_isWithin 3 (some .boolean) (0, 0, 0, 0) [.int v0, .int v1, .int v2] ([]) (FF (fun (r : Int32) => some (.int r)) (fun r => []) r) := by
  refine kt_of (own := RX8) (nm := "isWithin") (lv := [(0, .int v0), (1, .int v1), (2, .int v2)]) (by decide) rfl rfl rfl (Nat.le_of_ble_eq_true rfl) h (fun X hn C M => ?_)
  have hnn : ((0, 0) : Nat × Nat).1 ≤ 0 ∧ ((0, 0) : Nat × Nat).2 ≤ 0 := ⟨Nat.le_refl 0, Nat.le_refl 0⟩
  unfold f_X8_isWithin
  refine gg_iload_n C dX8_isWithin_0 rfl 0 rfl ?_
  refine gg_iload_n C dX8_isWithin_1 rfl 1 rfl ?_
  refine gg_icmp_lt C dX8_isWithin_2 (tgt := 14) (by decide) (fun _ => ?_) (fun _ => ?_)
  · refine gg_iconst C dX8_isWithin_14 kI_0 ?_
    exact gg_zret C M dX8_isWithin_15 rfl ⟨rfl, rfl⟩
  · refine gg_iload_n C dX8_isWithin_5 rfl 0 rfl ?_
    refine gg_iload_n C dX8_isWithin_6 rfl 2 rfl ?_
    refine gg_icmp_gt C dX8_isWithin_7 (tgt := 14) (by decide) (fun _ => ?_) (fun _ => ?_)
    · refine gg_iconst C dX8_isWithin_14 kI_0 ?_
      exact gg_zret C M dX8_isWithin_15 rfl ⟨rfl, rfl⟩
    · refine gg_iconst C dX8_isWithin_10 kI_1 ?_
      refine gg_goto C dX8_isWithin_11 (tgt := 15) (by decide) ?_
      exact gg_zret C M dX8_isWithin_15 rfl ⟨rfl, rfl⟩
def f_X8_isPlace (v0 : Int32) : Option (Int32) := if v0 < 0 then some 0 else if 40 ≤ v0 then some 0 else some 1
set_option maxHeartbeats 4000000 in
set_option maxRecDepth 100000 in
theorem c_X8_isPlace (l : Launch) (D : va_G) (T : Nat → ClassId)   (v0 : Int32) (r : Int32) (h : f_X8_isPlace v0 = some r) : Kt l D T yX8_isPlace cX8_isPlace 1 (some .boolean) (0, 0, 0, 0) [.int v0] ([]) (FF (fun (r : Int32) => some (.int r)) (fun r => []) r) := by
  refine kt_of (own := RX8) (nm := "isPlace") (lv := [(0, .int v0)]) (by decide) rfl rfl rfl (Nat.le_of_ble_eq_true rfl) h (fun X hn C M => ?_)
  have hnn : ((0, 0) : Nat × Nat).1 ≤ 0 ∧ ((0, 0) : Nat × Nat).2 ≤ 0 := ⟨Nat.le_refl 0, Nat.le_refl 0⟩
  unfold f_X8_isPlace
  refine gg_iload_n C dX8_isPlace_0 rfl 0 rfl ?_
  refine gg_if_lt C dX8_isPlace_1 (tgt := 14) (by decide) (fun _ => ?_) (fun _ => ?_)
  · refine gg_iconst C dX8_isPlace_14 kI_0 ?_
    exact gg_zret C M dX8_isPlace_15 rfl ⟨rfl, rfl⟩
  · refine gg_iload_n C dX8_isPlace_4 rfl 0 rfl ?_
    refine gg_bipush C dX8_isPlace_5 kB_40 ?_
    refine gg_icmp_ge C dX8_isPlace_7 (tgt := 14) (by decide) (fun _ => ?_) (fun _ => ?_)
    · refine gg_iconst C dX8_isPlace_14 kI_0 ?_
      exact gg_zret C M dX8_isPlace_15 rfl ⟨rfl, rfl⟩
    · refine gg_iconst C dX8_isPlace_10 kI_1 ?_
      refine gg_goto C dX8_isPlace_11 (tgt := 15) (by decide) ?_
      exact gg_zret C M dX8_isPlace_15 rfl ⟨rfl, rfl⟩
def f_X8_isHeir (v0 : Int32) : Option (Int32) := if v0 < 0 then some 0 else if 6 ≤ v0 then some 0 else some 1
set_option maxHeartbeats 4000000 in
set_option maxRecDepth 100000 in
theorem c_X8_isHeir (l : Launch) (D : va_G) (T : Nat → ClassId)   (v0 : Int32) (r : Int32) (h : f_X8_isHeir v0 = some r) : Kt l D T yX8_isHeir cX8_isHeir 1 (some .boolean) (0, 0, 0, 0) [.int v0] ([]) (FF (fun (r : Int32) => some (.int r)) (fun r => []) r) := by
  refine kt_of (own := RX8) (nm := "isHeir") (lv := [(0, .int v0)]) (by decide) rfl rfl rfl (Nat.le_of_ble_eq_true rfl) h (fun X hn C M => ?_)
  have hnn : ((0, 0) : Nat × Nat).1 ≤ 0 ∧ ((0, 0) : Nat × Nat).2 ≤ 0 := ⟨Nat.le_refl 0, Nat.le_refl 0⟩
  unfold f_X8_isHeir
  refine gg_iload_n C dX8_isHeir_0 rfl 0 rfl ?_
  refine gg_if_lt C dX8_isHeir_1 (tgt := 14) (by decide) (fun _ => ?_) (fun _ => ?_)
  · refine gg_iconst C dX8_isHeir_14 kI_0 ?_
    exact gg_zret C M dX8_isHeir_15 rfl ⟨rfl, rfl⟩
  · refine gg_iload_n C dX8_isHeir_4 rfl 0 rfl ?_
    refine gg_bipush C dX8_isHeir_5 kB_6 ?_
    refine gg_icmp_ge C dX8_isHeir_7 (tgt := 14) (by decide) (fun _ => ?_) (fun _ => ?_)
    · refine gg_iconst C dX8_isHeir_14 kI_0 ?_
      exact gg_zret C M dX8_isHeir_15 rfl ⟨rfl, rfl⟩
    · refine gg_iconst C dX8_isHeir_10 kI_1 ?_
      refine gg_goto C dX8_isHeir_11 (tgt := 15) (by decide) ?_
      exact gg_zret C M dX8_isHeir_15 rfl ⟨rfl, rfl⟩
def f_X8_isBeat (v0 : Int32) : Option (Int32) := jn (f_X8_isWithin v0 1 9) (fun r1 => gz r1 (some r1))
set_option maxHeartbeats 4000000 in
set_option maxRecDepth 100000 in
theorem c_X8_isBeat (l : Launch) (D : va_G) (T : Nat → ClassId)   (v0 : Int32) (r : Int32) (h : f_X8_isBeat v0 = some r) : Kt l D T yX8_isBeat cX8_isBeat 1 (some .boolean) (1, 0, 0, 22) [.int v0] ([]) (FF (fun (r : Int32) => some (.int r)) (fun r => []) r) := by
  refine kt_of (own := RX8) (nm := "isBeat") (lv := [(0, .int v0)]) (by decide) rfl rfl rfl (Nat.le_of_ble_eq_true rfl) h (fun X hn C M => ?_)
  have hnn : ((0, 0) : Nat × Nat).1 ≤ 0 ∧ ((0, 0) : Nat × Nat).2 ≤ 0 := ⟨Nat.le_refl 0, Nat.le_refl 0⟩
  unfold f_X8_isBeat
  refine gg_iload_n C dX8_isBeat_0 rfl 0 rfl ?_
  refine gg_iconst C dX8_isBeat_1 kI_1 ?_
  refine gg_bipush C dX8_isBeat_2 kB_9 ?_
  refine gg_callS C (fun l r h => c_X8_isWithin l D T v0 1 9 r h) lk_X8_66 ⟨by decide, by decide⟩ hnn rfl (rest := []) rfl (Nat.le_of_ble_eq_true rfl) dX8_isBeat_4 cut_none (st2 := fun r1 => [.int r1]) (fun _ => rfl) (fun r1 => ?_)
  exact gg_zretG C M dX8_isBeat_7 ⟨rfl, rfl⟩
def f_X8_commonDivisor_L9  : Nat → Int64 → Int64 → Int32 → Option (Int64 × Int64 × Int32)
  | 0, _, _, _ => none
  | nn + 1, y4, y6, y8 => if 128 ≤ y8 then some (y4, y6, y8) else if lg_cmp y6 0 = 0 then some (y4, y6, y8) else gdL y6 (bi (y4 - y4 / y6 * y6) (fun x1 => f_X8_commonDivisor_L9 nn y6 x1 (y8 + 1)))
set_option maxHeartbeats 4000000 in
set_option maxRecDepth 100000 in
theorem g_X8_commonDivisor_L9 {X : KX} {D : va_G} {T : Nat → ClassId} {Q : Int64 × Int64 × Int32 → State → Prop} {n : Nat × Nat} (C : Cx X D T cX8_commonDivisor RX8 { frames := 0, cells := 0, slots := 0, locals := 0 }) (hnn : n.1 ≤ 0 ∧ n.2 ≤ 0) (hn : kxL X = 11)   (y0 : Int64) (y2 : Int64) (hk : ∀ v : Int64 × Int64 × Int32, GG X D Q n ([]) [(0, .long y0), (2, .long y2), (4, .long v.1), (6, .long v.2.1), (8, .int v.2.2)] 45 [] (some (v))) : ∀ (nn : Nat) (y4 : Int64) (y6 : Int64) (y8 : Int32), GG X D Q n ([]) [(0, .long y0), (2, .long y2), (4, .long y4), (6, .long y6), (8, .int y8)] 9 [] (f_X8_commonDivisor_L9 nn y4 y6 y8) := by
  intro nn
  induction nn with
  | zero => intros; exact gg_none
  | succ nn ih =>
    intro y4 y6 y8
    unfold f_X8_commonDivisor_L9
    refine gg_iload C dX8_commonDivisor_9 4 rfl ?_
    refine gg_sipush C dX8_commonDivisor_11 kS_128 ?_
    refine gg_icmp_ge C dX8_commonDivisor_14 (tgt := 45) (by decide) (fun _ => ?_) (fun _ => ?_)
    · refine gg_sub [0, 1, 2, 3, 4] rfl ?_
      exact hk (y4, y6, y8)
    · refine gg_lload C dX8_commonDivisor_17 3 rfl ?_
      refine gg_lconst C dX8_commonDivisor_19 (v := 0) (by decide) ?_
      refine gg_lcmp C dX8_commonDivisor_20 ?_
      refine gg_if_eq C dX8_commonDivisor_21 (tgt := 45) (by decide) (fun _ => ?_) (fun _ => ?_)
      · refine gg_sub [0, 1, 2, 3, 4] rfl ?_
        exact hk (y4, y6, y8)
      · refine gg_lload C dX8_commonDivisor_24 2 rfl ?_
        refine gg_lload C dX8_commonDivisor_26 3 rfl ?_
        refine gg_lrem C dX8_commonDivisor_28 ?_
        refine gg_biL (fun x1 => ?_)
        refine gg_lstore C dX8_commonDivisor_29 hn (by decide) (lv' := [(9, .long x1), (0, .long y0), (2, .long y2), (4, .long y4), (6, .long y6), (8, .int y8)]) rfl ?_
        refine gg_lload C dX8_commonDivisor_31 4 rfl ?_
        refine gg_lstore C dX8_commonDivisor_33 hn (by decide) (lv' := [(4, .long y6), (9, .long x1), (0, .long y0), (2, .long y2), (6, .long y6), (8, .int y8)]) rfl ?_
        refine gg_lload C dX8_commonDivisor_35 1 rfl ?_
        refine gg_lstore C dX8_commonDivisor_37 hn (by decide) (lv' := [(6, .long x1), (4, .long y6), (9, .long x1), (0, .long y0), (2, .long y2), (8, .int y8)]) rfl ?_
        refine gg_iinc C dX8_commonDivisor_39 (j := 5) rfl (v := y8 + 1) (by first | rfl | decide) hn (by decide) (lv' := [(8, .int (y8 + 1)), (6, .long x1), (4, .long y6), (9, .long x1), (0, .long y0), (2, .long y2)]) rfl ?_
        refine gg_goto C dX8_commonDivisor_42 (tgt := 9) (by decide) ?_
        refine gg_sub [4, 5, 2, 1, 0] rfl ?_
        exact ih y6 x1 (y8 + 1)
def f_X8_commonDivisor (v0 : Int64) (v2 : Int64) : Option (Int64) := jn (α := Int64 × Int64 × Int32) (f_X8_commonDivisor_L9 200 v0 v2 0) (fun z2 => some z2.1)
set_option maxHeartbeats 4000000 in
set_option maxRecDepth 100000 in
theorem c_X8_commonDivisor (l : Launch) (D : va_G) (T : Nat → ClassId)   (v0 : Int64) (v2 : Int64) (r : Int64) (h : f_X8_commonDivisor v0 v2 = some r) : Kt l D T yX8_commonDivisor cX8_commonDivisor 11 (some .long) (0, 0, 0, 0) [.long v0, .long v2] ([]) (FF (fun (r : Int64) => some (.long r)) (fun r => []) r) := by
  refine kt_of (own := RX8) (nm := "commonDivisor") (lv := [(0, .long v0), (2, .long v2)]) (by decide) rfl rfl rfl (Nat.le_of_ble_eq_true rfl) h (fun X hn C M => ?_)
  have hnn : ((0, 0) : Nat × Nat).1 ≤ 0 ∧ ((0, 0) : Nat × Nat).2 ≤ 0 := ⟨Nat.le_refl 0, Nat.le_refl 0⟩
  unfold f_X8_commonDivisor
  refine gg_lload_n C dX8_commonDivisor_0 rfl 0 rfl ?_
  refine gg_lstore C dX8_commonDivisor_1 hn (by decide) (lv' := [(4, .long v0), (0, .long v0), (2, .long v2)]) rfl ?_
  refine gg_lload_n C dX8_commonDivisor_3 rfl 2 rfl ?_
  refine gg_lstore C dX8_commonDivisor_4 hn (by decide) (lv' := [(6, .long v2), (4, .long v0), (0, .long v0), (2, .long v2)]) rfl ?_
  refine gg_iconst C dX8_commonDivisor_6 kI_0 ?_
  refine gg_istore C dX8_commonDivisor_7 hn (by decide) (lv' := [(8, .int 0), (6, .long v2), (4, .long v0), (0, .long v0), (2, .long v2)]) rfl ?_
  refine gg_join (α := Int64 × Int64 × Int32) 45 (fun z2 => []) (fun z2 => [(0, .long v0), (2, .long v2), (4, .long z2.1), (6, .long z2.2.1), (8, .int z2.2.2)]) (fun z2 => []) (fun z2 => ?_) (fun K3 => ?_)
  · refine gg_lload C dX8_commonDivisor_45 2 rfl ?_
    exact gg_lret C M dX8_commonDivisor_47 ⟨rfl, rfl⟩
  · refine gg_sub [3, 4, 2, 1, 0] rfl ?_
    exact g_X8_commonDivisor_L9 C hnn hn  v0 v2 K3 200 v0 v2 0
def f_X8_lowestTerm (v0 : Int64) (v2 : Int64) (v4 : Int32) : Option (Int64) := jn (f_X8_commonDivisor v0 v2) (fun r1 => jn (α := Int64) (if v4 = 0 then some v0 else some v2) (fun z2 => if lg_cmp r1 0 ≤ 0 then some z2 else gdL r1 (some (z2 / r1))))
set_option maxHeartbeats 4000000 in
set_option maxRecDepth 100000 in
theorem c_X8_lowestTerm (l : Launch) (D : va_G) (T : Nat → ClassId)   (v0 : Int64) (v2 : Int64) (v4 : Int32) (r : Int64) (h : f_X8_lowestTerm v0 v2 v4 = some r) : Kt l D T yX8_lowestTerm cX8_lowestTerm 9 (some .long) (1, 0, 0, 30) [.long v0, .long v2, .int v4] ([]) (FF (fun (r : Int64) => some (.long r)) (fun r => []) r) := by
  refine kt_of (own := RX8) (nm := "lowestTerm") (lv := [(0, .long v0), (2, .long v2), (4, .int v4)]) (by decide) rfl rfl rfl (Nat.le_of_ble_eq_true rfl) h (fun X hn C M => ?_)
  have hnn : ((0, 0) : Nat × Nat).1 ≤ 0 ∧ ((0, 0) : Nat × Nat).2 ≤ 0 := ⟨Nat.le_refl 0, Nat.le_refl 0⟩
  unfold f_X8_lowestTerm
  refine gg_lload_n C dX8_lowestTerm_0 rfl 0 rfl ?_
  refine gg_lload_n C dX8_lowestTerm_1 rfl 1 rfl ?_
  refine gg_callS C (fun l r h => c_X8_commonDivisor l D T v0 v2 r h) lk_X8_239 ⟨by decide, by decide⟩ hnn rfl (rest := []) rfl (Nat.le_of_ble_eq_true rfl) dX8_lowestTerm_2 cut_none (st2 := fun r1 => [.long r1]) (fun _ => rfl) (fun r1 => ?_)
  refine gg_lstore C dX8_lowestTerm_5 hn (by decide) (lv' := [(5, .long r1), (0, .long v0), (2, .long v2), (4, .int v4)]) rfl ?_
  refine gg_iload C dX8_lowestTerm_7 3 rfl ?_
  refine gg_join (α := Int64) 17 (fun z2 => []) (fun z2 => [(0, .long v0), (2, .long v2), (4, .int v4), (5, .long r1)]) (fun z2 => [.long z2]) (fun z2 => ?_) (fun K3 => ?_)
  · refine gg_lstore C dX8_lowestTerm_17 hn (by decide) (lv' := [(7, .long z2), (0, .long v0), (2, .long v2), (4, .int v4), (5, .long r1)]) rfl ?_
    refine gg_lload C dX8_lowestTerm_19 4 rfl ?_
    refine gg_lconst C dX8_lowestTerm_21 (v := 0) (by decide) ?_
    refine gg_lcmp C dX8_lowestTerm_22 ?_
    refine gg_if_le C dX8_lowestTerm_23 (tgt := 34) (by decide) (fun _ => ?_) (fun _ => ?_)
    · refine gg_lload C dX8_lowestTerm_34 0 rfl ?_
      exact gg_lret C M dX8_lowestTerm_36 ⟨rfl, rfl⟩
    · refine gg_lload C dX8_lowestTerm_26 0 rfl ?_
      refine gg_lload C dX8_lowestTerm_28 4 rfl ?_
      refine gg_ldiv C dX8_lowestTerm_30 ?_
      refine gg_goto C dX8_lowestTerm_31 (tgt := 36) (by decide) ?_
      exact gg_lret C M dX8_lowestTerm_36 ⟨rfl, rfl⟩
  · refine gg_if_ne C dX8_lowestTerm_9 (tgt := 16) (by decide) (fun _ => ?_) (fun _ => ?_)
    · refine gg_lload_n C dX8_lowestTerm_16 rfl 2 rfl ?_
      refine gg_sub [1, 2, 3, 0] rfl ?_
      exact K3 v2
    · refine gg_lload_n C dX8_lowestTerm_12 rfl 1 rfl ?_
      refine gg_goto C dX8_lowestTerm_13 (tgt := 17) (by decide) ?_
      refine gg_sub [1, 2, 3, 0] rfl ?_
      exact K3 v0
def f_X8_firstTaking_L4 (y0 : Int32) : Nat → Int32 → Int32 → Option (Int32 × Int32)
  | 0, _, _ => none
  | nn + 1, y1, y2 => if y0 < y2 then some (y1, y2) else if 999 < y2 then some (y1, y2) else bi ((2 * y2) + 1) (fun x1 => f_X8_firstTaking_L4 y0 nn y2 x1)
set_option maxHeartbeats 4000000 in
set_option maxRecDepth 100000 in
theorem g_X8_firstTaking_L4 {X : KX} {D : va_G} {T : Nat → ClassId} {Q : Int32 × Int32 → State → Prop} {n : Nat × Nat} (C : Cx X D T cX8_firstTaking RX8 { frames := 0, cells := 0, slots := 0, locals := 0 }) (hnn : n.1 ≤ 0 ∧ n.2 ≤ 0) (hn : kxL X = 3)   (y0 : Int32) (hk : ∀ v : Int32 × Int32, GG X D Q n ([]) [(0, .int y0), (1, .int v.1), (2, .int v.2)] 27 [] (some (v))) : ∀ (nn : Nat) (y1 : Int32) (y2 : Int32), GG X D Q n ([]) [(0, .int y0), (1, .int y1), (2, .int y2)] 4 [] (f_X8_firstTaking_L4 y0 nn y1 y2) := by
  intro nn
  induction nn with
  | zero => intros; exact gg_none
  | succ nn ih =>
    intro y1 y2
    unfold f_X8_firstTaking_L4
    refine gg_iload_n C dX8_firstTaking_4 rfl 2 rfl ?_
    refine gg_iload_n C dX8_firstTaking_5 rfl 0 rfl ?_
    refine gg_icmp_gt C dX8_firstTaking_6 (tgt := 27) (by decide) (fun _ => ?_) (fun _ => ?_)
    · refine gg_sub [0, 1, 2] rfl ?_
      exact hk (y1, y2)
    · refine gg_iload_n C dX8_firstTaking_9 rfl 2 rfl ?_
      refine gg_sipush C dX8_firstTaking_10 kS_999 ?_
      refine gg_icmp_gt C dX8_firstTaking_13 (tgt := 27) (by decide) (fun _ => ?_) (fun _ => ?_)
      · refine gg_sub [0, 1, 2] rfl ?_
        exact hk (y1, y2)
      · refine gg_iload_n C dX8_firstTaking_16 rfl 2 rfl ?_
        refine gg_istore_n C dX8_firstTaking_17 rfl hn (by decide) (lv' := [(1, .int y2), (0, .int y0), (2, .int y2)]) rfl ?_
        refine gg_iconst C dX8_firstTaking_18 kI_2 ?_
        refine gg_iload_n C dX8_firstTaking_19 rfl 2 rfl ?_
        refine gg_imul C dX8_firstTaking_20 ?_
        refine gg_iconst C dX8_firstTaking_21 kI_1 ?_
        refine gg_iadd C dX8_firstTaking_22 ?_
        refine gg_bi (fun x1 => ?_)
        refine gg_istore_n C dX8_firstTaking_23 rfl hn (by decide) (lv' := [(2, .int x1), (1, .int y2), (0, .int y0)]) rfl ?_
        refine gg_goto C dX8_firstTaking_24 (tgt := 4) (by decide) ?_
        refine gg_sub [2, 1, 0] rfl ?_
        exact ih y2 x1
def f_X8_firstTaking (v0 : Int32) : Option (Int32) := jn (α := Int32 × Int32) (f_X8_firstTaking_L4 v0 100 1 1) (fun z2 => some (v0 - z2.1))
set_option maxHeartbeats 4000000 in
set_option maxRecDepth 100000 in
theorem c_X8_firstTaking (l : Launch) (D : va_G) (T : Nat → ClassId)   (v0 : Int32) (r : Int32) (h : f_X8_firstTaking v0 = some r) : Kt l D T yX8_firstTaking cX8_firstTaking 3 (some .int) (0, 0, 0, 0) [.int v0] ([]) (FF (fun (r : Int32) => some (.int r)) (fun r => []) r) := by
  refine kt_of (own := RX8) (nm := "firstTaking") (lv := [(0, .int v0)]) (by decide) rfl rfl rfl (Nat.le_of_ble_eq_true rfl) h (fun X hn C M => ?_)
  have hnn : ((0, 0) : Nat × Nat).1 ≤ 0 ∧ ((0, 0) : Nat × Nat).2 ≤ 0 := ⟨Nat.le_refl 0, Nat.le_refl 0⟩
  unfold f_X8_firstTaking
  refine gg_iconst C dX8_firstTaking_0 kI_1 ?_
  refine gg_istore_n C dX8_firstTaking_1 rfl hn (by decide) (lv' := [(1, .int 1), (0, .int v0)]) rfl ?_
  refine gg_iconst C dX8_firstTaking_2 kI_1 ?_
  refine gg_istore_n C dX8_firstTaking_3 rfl hn (by decide) (lv' := [(2, .int 1), (1, .int 1), (0, .int v0)]) rfl ?_
  refine gg_join (α := Int32 × Int32) 27 (fun z2 => []) (fun z2 => [(0, .int v0), (1, .int z2.1), (2, .int z2.2)]) (fun z2 => []) (fun z2 => ?_) (fun K3 => ?_)
  · refine gg_iload_n C dX8_firstTaking_27 rfl 0 rfl ?_
    refine gg_iload_n C dX8_firstTaking_28 rfl 1 rfl ?_
    refine gg_isub C dX8_firstTaking_29 ?_
    exact gg_iret C M dX8_firstTaking_30 ⟨rfl, rfl⟩
  · refine gg_sub [2, 1, 0] rfl ?_
    exact g_X8_firstTaking_L4 C hnn hn  v0 K3 100 1 1
def f_X1_placeBehind_L27 (y3 : Int32) : Nat → Int32 → Int32 → Int32 → Option (Int32 × Int32 × Int32)
  | 0, _, _, _ => none
  | nn + 1, y4, y5, y6 => if y6 ≤ 0 then some (y4, y5, y6) else jn (α := Int32) (if y6 - y6 / 2 * 2 = 1 then gd y3 (bi ((y4 * y5) - (y4 * y5) / y3 * y3) (fun x5 => some x5)) else some y4) (fun z3 => gd y3 (bi ((y5 * y5) - (y5 * y5) / y3 * y3) (fun x6 => bi (y6 / 2) (fun x7 => f_X1_placeBehind_L27 y3 nn z3 x6 x7))))
set_option maxHeartbeats 4000000 in
set_option maxRecDepth 100000 in
theorem g_X1_placeBehind_L27 {X : KX} {D : va_G} {T : Nat → ClassId} {Q : Int32 × Int32 × Int32 → State → Prop} {n : Nat × Nat} (C : Cx X D T cX1_placeBehind RX1 { frames := 0, cells := 0, slots := 0, locals := 0 }) (hnn : n.1 ≤ 0 ∧ n.2 ≤ 0) (hn : kxL X = 7)   (y0 : Int32) (y1 : Int32) (y2 : Int32) (y3 : Int32) (hk : ∀ v : Int32 × Int32 × Int32, GG X D Q n ([]) [(0, .int y0), (1, .int y1), (2, .int y2), (3, .int y3), (4, .int v.1), (5, .int v.2.1), (6, .int v.2.2)] 67 [] (some (v))) : ∀ (nn : Nat) (y4 : Int32) (y5 : Int32) (y6 : Int32), GG X D Q n ([]) [(0, .int y0), (1, .int y1), (2, .int y2), (3, .int y3), (4, .int y4), (5, .int y5), (6, .int y6)] 27 [] (f_X1_placeBehind_L27 y3 nn y4 y5 y6) := by
  intro nn
  induction nn with
  | zero => intros; exact gg_none
  | succ nn ih =>
    intro y4 y5 y6
    unfold f_X1_placeBehind_L27
    refine gg_iload C dX1_placeBehind_27 6 rfl ?_
    refine gg_if_le C dX1_placeBehind_29 (tgt := 67) (by decide) (fun _ => ?_) (fun _ => ?_)
    · refine gg_sub [0, 1, 2, 3, 4, 5, 6] rfl ?_
      exact hk (y4, y5, y6)
    · refine gg_iload C dX1_placeBehind_32 6 rfl ?_
      refine gg_iconst C dX1_placeBehind_34 kI_2 ?_
      refine gg_iremK C dX1_placeBehind_35 (by decide) ?_
      refine gg_iconst C dX1_placeBehind_36 kI_1 ?_
      refine gg_join (α := Int32) 49 (fun z3 => []) (fun z3 => [(0, .int y0), (1, .int y1), (2, .int y2), (3, .int y3), (4, .int z3), (5, .int y5), (6, .int y6)]) (fun z3 => []) (fun z3 => ?_) (fun K4 => ?_)
      · refine gg_iload C dX1_placeBehind_49 5 rfl ?_
        refine gg_iload C dX1_placeBehind_51 5 rfl ?_
        refine gg_imul C dX1_placeBehind_53 ?_
        refine gg_iload_n C dX1_placeBehind_54 rfl 3 rfl ?_
        refine gg_irem C dX1_placeBehind_55 ?_
        refine gg_bi (fun x6 => ?_)
        refine gg_istore C dX1_placeBehind_56 hn (by decide) (lv' := [(5, .int x6), (0, .int y0), (1, .int y1), (2, .int y2), (3, .int y3), (4, .int z3), (6, .int y6)]) rfl ?_
        refine gg_iload C dX1_placeBehind_58 6 rfl ?_
        refine gg_iconst C dX1_placeBehind_60 kI_2 ?_
        refine gg_idivK C dX1_placeBehind_61 (by decide) ?_
        refine gg_bi (fun x7 => ?_)
        refine gg_istore C dX1_placeBehind_62 hn (by decide) (lv' := [(6, .int x7), (5, .int x6), (0, .int y0), (1, .int y1), (2, .int y2), (3, .int y3), (4, .int z3)]) rfl ?_
        refine gg_goto C dX1_placeBehind_64 (tgt := 27) (by decide) ?_
        refine gg_sub [2, 3, 4, 5, 6, 1, 0] rfl ?_
        exact ih z3 x6 x7
      · refine gg_icmp_ne C dX1_placeBehind_37 (tgt := 49) (by decide) (fun _ => ?_) (fun _ => ?_)
        · refine gg_sub [0, 1, 2, 3, 4, 5, 6] rfl ?_
          exact K4 y4
        · refine gg_iload C dX1_placeBehind_40 4 rfl ?_
          refine gg_iload C dX1_placeBehind_42 5 rfl ?_
          refine gg_imul C dX1_placeBehind_44 ?_
          refine gg_iload_n C dX1_placeBehind_45 rfl 3 rfl ?_
          refine gg_irem C dX1_placeBehind_46 ?_
          refine gg_bi (fun x5 => ?_)
          refine gg_istore C dX1_placeBehind_47 hn (by decide) (lv' := [(4, .int x5), (0, .int y0), (1, .int y1), (2, .int y2), (3, .int y3), (5, .int y5), (6, .int y6)]) rfl ?_
          refine gg_sub [1, 2, 3, 4, 0, 5, 6] rfl ?_
          exact K4 x5
def f_X1_placeBehind (v0 : Int32) (v1 : Int32) (v2 : Int32) : Option (Int32) := bi (v0 - 1) (fun x1 => if x1 < 1 then some v1 else if v1 < x1 then gd x1 (bi (2 - 2 / x1 * x1) (fun x2 => jn (α := Int32 × Int32 × Int32) (f_X1_placeBehind_L27 x1 100 v1 x2 v2) (fun z8 => some z8.1))) else some v1)
set_option maxHeartbeats 4000000 in
set_option maxRecDepth 100000 in
theorem c_X1_placeBehind (l : Launch) (D : va_G) (T : Nat → ClassId)   (v0 : Int32) (v1 : Int32) (v2 : Int32) (r : Int32) (h : f_X1_placeBehind v0 v1 v2 = some r) : Kt l D T yX1_placeBehind cX1_placeBehind 7 (some .int) (0, 0, 0, 0) [.int v0, .int v1, .int v2] ([]) (FF (fun (r : Int32) => some (.int r)) (fun r => []) r) := by
  refine kt_of (own := RX1) (nm := "placeBehind") (lv := [(0, .int v0), (1, .int v1), (2, .int v2)]) (by decide) rfl rfl rfl (Nat.le_of_ble_eq_true rfl) h (fun X hn C M => ?_)
  have hnn : ((0, 0) : Nat × Nat).1 ≤ 0 ∧ ((0, 0) : Nat × Nat).2 ≤ 0 := ⟨Nat.le_refl 0, Nat.le_refl 0⟩
  unfold f_X1_placeBehind
  refine gg_iload_n C dX1_placeBehind_0 rfl 0 rfl ?_
  refine gg_iconst C dX1_placeBehind_1 kI_1 ?_
  refine gg_isub C dX1_placeBehind_2 ?_
  refine gg_bi (fun x1 => ?_)
  refine gg_istore_n C dX1_placeBehind_3 rfl hn (by decide) (lv' := [(3, .int x1), (0, .int v0), (1, .int v1), (2, .int v2)]) rfl ?_
  refine gg_iload_n C dX1_placeBehind_4 rfl 0 rfl ?_
  refine gg_iconst C dX1_placeBehind_5 kI_1 ?_
  refine gg_icmp_lt C dX1_placeBehind_6 (tgt := 14) (by decide) (fun _ => ?_) (fun _ => ?_)
  · refine gg_iload_n C dX1_placeBehind_14 rfl 2 rfl ?_
    exact gg_iret C M dX1_placeBehind_15 ⟨rfl, rfl⟩
  · refine gg_iload_n C dX1_placeBehind_9 rfl 2 rfl ?_
    refine gg_iload_n C dX1_placeBehind_10 rfl 0 rfl ?_
    refine gg_icmp_lt C dX1_placeBehind_11 (tgt := 16) (by decide) (fun _ => ?_) (fun _ => ?_)
    · refine gg_iload_n C dX1_placeBehind_16 rfl 2 rfl ?_
      refine gg_istore C dX1_placeBehind_17 hn (by decide) (lv' := [(4, .int v1), (3, .int x1), (0, .int v0), (1, .int v1), (2, .int v2)]) rfl ?_
      refine gg_iconst C dX1_placeBehind_19 kI_2 ?_
      refine gg_iload_n C dX1_placeBehind_20 rfl 1 rfl ?_
      refine gg_irem C dX1_placeBehind_21 ?_
      refine gg_bi (fun x2 => ?_)
      refine gg_istore C dX1_placeBehind_22 hn (by decide) (lv' := [(5, .int x2), (4, .int v1), (3, .int x1), (0, .int v0), (1, .int v1), (2, .int v2)]) rfl ?_
      refine gg_iload_n C dX1_placeBehind_24 rfl 5 rfl ?_
      refine gg_istore C dX1_placeBehind_25 hn (by decide) (lv' := [(6, .int v2), (5, .int x2), (4, .int v1), (3, .int x1), (0, .int v0), (1, .int v1), (2, .int v2)]) rfl ?_
      refine gg_join (α := Int32 × Int32 × Int32) 67 (fun z8 => []) (fun z8 => [(0, .int v0), (1, .int v1), (2, .int v2), (3, .int x1), (4, .int z8.1), (5, .int z8.2.1), (6, .int z8.2.2)]) (fun z8 => []) (fun z8 => ?_) (fun K9 => ?_)
      · refine gg_iload C dX1_placeBehind_67 4 rfl ?_
        exact gg_iret C M dX1_placeBehind_69 ⟨rfl, rfl⟩
      · refine gg_sub [4, 5, 6, 3, 2, 1, 0] rfl ?_
        exact g_X1_placeBehind_L27 C hnn hn  v0 v1 v2 x1 K9 100 v1 x2 v2
    · refine gg_iload_n C dX1_placeBehind_14 rfl 2 rfl ?_
      exact gg_iret C M dX1_placeBehind_15 ⟨rfl, rfl⟩
def f_X1_round_L20 (y0 : Int32) (y1 : Int32) : Nat → Int32 → Int32 → Int32 → Option (Int32 × Int32 × Int32)
  | 0, _, _, _ => none
  | nn + 1, y2, y3, y4 => if y0 ≤ y4 then some (y2, y3, y4) else gd y1 (if y2 = 1 - 1 / y1 * y1 then some (y2, y3, y4) else gd y1 (bi ((y2 * 2) - (y2 * 2) / y1 * y1) (fun x3 => f_X1_round_L20 y0 y1 nn x3 (y3 + 1) (y4 + 1))))
set_option maxHeartbeats 4000000 in
set_option maxRecDepth 100000 in
theorem g_X1_round_L20 {X : KX} {D : va_G} {T : Nat → ClassId} {Q : Int32 × Int32 × Int32 → State → Prop} {n : Nat × Nat} (C : Cx X D T cX1_round RX1 { frames := 0, cells := 0, slots := 0, locals := 0 }) (hnn : n.1 ≤ 0 ∧ n.2 ≤ 0) (hn : kxL X = 5)   (y0 : Int32) (y1 : Int32) (hk : ∀ v : Int32 × Int32 × Int32, GG X D Q n ([]) [(0, .int y0), (1, .int y1), (2, .int v.1), (3, .int v.2.1), (4, .int v.2.2)] 48 [] (some (v))) : ∀ (nn : Nat) (y2 : Int32) (y3 : Int32) (y4 : Int32), GG X D Q n ([]) [(0, .int y0), (1, .int y1), (2, .int y2), (3, .int y3), (4, .int y4)] 20 [] (f_X1_round_L20 y0 y1 nn y2 y3 y4) := by
  intro nn
  induction nn with
  | zero => intros; exact gg_none
  | succ nn ih =>
    intro y2 y3 y4
    unfold f_X1_round_L20
    refine gg_iload C dX1_round_20 4 rfl ?_
    refine gg_iload_n C dX1_round_22 rfl 0 rfl ?_
    refine gg_icmp_ge C dX1_round_23 (tgt := 48) (by decide) (fun _ => ?_) (fun _ => ?_)
    · refine gg_sub [0, 1, 2, 3, 4] rfl ?_
      exact hk (y2, y3, y4)
    · refine gg_iload_n C dX1_round_26 rfl 2 rfl ?_
      refine gg_iconst C dX1_round_27 kI_1 ?_
      refine gg_iload_n C dX1_round_28 rfl 1 rfl ?_
      refine gg_irem C dX1_round_29 ?_
      refine gg_icmp_eq C dX1_round_30 (tgt := 48) (by decide) (fun _ => ?_) (fun _ => ?_)
      · refine gg_sub [0, 1, 2, 3, 4] rfl ?_
        exact hk (y2, y3, y4)
      · refine gg_iload_n C dX1_round_33 rfl 2 rfl ?_
        refine gg_iconst C dX1_round_34 kI_2 ?_
        refine gg_imul C dX1_round_35 ?_
        refine gg_iload_n C dX1_round_36 rfl 1 rfl ?_
        refine gg_irem C dX1_round_37 ?_
        refine gg_bi (fun x3 => ?_)
        refine gg_istore_n C dX1_round_38 rfl hn (by decide) (lv' := [(2, .int x3), (0, .int y0), (1, .int y1), (3, .int y3), (4, .int y4)]) rfl ?_
        refine gg_iinc C dX1_round_39 (j := 3) rfl (v := y3 + 1) (by first | rfl | decide) hn (by decide) (lv' := [(3, .int (y3 + 1)), (2, .int x3), (0, .int y0), (1, .int y1), (4, .int y4)]) rfl ?_
        refine gg_iinc C dX1_round_42 (j := 4) rfl (v := y4 + 1) (by first | rfl | decide) hn (by decide) (lv' := [(4, .int (y4 + 1)), (3, .int (y3 + 1)), (2, .int x3), (0, .int y0), (1, .int y1)]) rfl ?_
        refine gg_goto C dX1_round_45 (tgt := 20) (by decide) ?_
        refine gg_sub [3, 4, 2, 1, 0] rfl ?_
        exact ih x3 (y3 + 1) (y4 + 1)
def f_X1_round (v0 : Int32) : Option (Int32) := bi (v0 - 1) (fun x1 => if 1 ≤ x1 then gd x1 (bi (2 - 2 / x1 * x1) (fun x2 => jn (α := Int32 × Int32 × Int32) (f_X1_round_L20 v0 x1 1100 x2 1 0) (fun z4 => some z4.2.1))) else some 1)
set_option maxHeartbeats 4000000 in
set_option maxRecDepth 100000 in
theorem c_X1_round (l : Launch) (D : va_G) (T : Nat → ClassId)   (v0 : Int32) (r : Int32) (h : f_X1_round v0 = some r) : Kt l D T yX1_round cX1_round 5 (some .int) (0, 0, 0, 0) [.int v0] ([]) (FF (fun (r : Int32) => some (.int r)) (fun r => []) r) := by
  refine kt_of (own := RX1) (nm := "round") (lv := [(0, .int v0)]) (by decide) rfl rfl rfl (Nat.le_of_ble_eq_true rfl) h (fun X hn C M => ?_)
  have hnn : ((0, 0) : Nat × Nat).1 ≤ 0 ∧ ((0, 0) : Nat × Nat).2 ≤ 0 := ⟨Nat.le_refl 0, Nat.le_refl 0⟩
  unfold f_X1_round
  refine gg_iload_n C dX1_round_0 rfl 0 rfl ?_
  refine gg_iconst C dX1_round_1 kI_1 ?_
  refine gg_isub C dX1_round_2 ?_
  refine gg_bi (fun x1 => ?_)
  refine gg_istore_n C dX1_round_3 rfl hn (by decide) (lv' := [(1, .int x1), (0, .int v0)]) rfl ?_
  refine gg_iload_n C dX1_round_4 rfl 0 rfl ?_
  refine gg_iconst C dX1_round_5 kI_1 ?_
  refine gg_icmp_ge C dX1_round_6 (tgt := 11) (by decide) (fun _ => ?_) (fun _ => ?_)
  · refine gg_iconst C dX1_round_11 kI_2 ?_
    refine gg_iload_n C dX1_round_12 rfl 0 rfl ?_
    refine gg_irem C dX1_round_13 ?_
    refine gg_bi (fun x2 => ?_)
    refine gg_istore_n C dX1_round_14 rfl hn (by decide) (lv' := [(2, .int x2), (1, .int x1), (0, .int v0)]) rfl ?_
    refine gg_iconst C dX1_round_15 kI_1 ?_
    refine gg_istore_n C dX1_round_16 rfl hn (by decide) (lv' := [(3, .int 1), (2, .int x2), (1, .int x1), (0, .int v0)]) rfl ?_
    refine gg_iconst C dX1_round_17 kI_0 ?_
    refine gg_istore C dX1_round_18 hn (by decide) (lv' := [(4, .int 0), (3, .int 1), (2, .int x2), (1, .int x1), (0, .int v0)]) rfl ?_
    refine gg_join (α := Int32 × Int32 × Int32) 48 (fun z4 => []) (fun z4 => [(0, .int v0), (1, .int x1), (2, .int z4.1), (3, .int z4.2.1), (4, .int z4.2.2)]) (fun z4 => []) (fun z4 => ?_) (fun K5 => ?_)
    · refine gg_iload_n C dX1_round_48 rfl 3 rfl ?_
      exact gg_iret C M dX1_round_49 ⟨rfl, rfl⟩
    · refine gg_sub [4, 3, 2, 1, 0] rfl ?_
      exact g_X1_round_L20 C hnn hn  v0 x1 K5 1100 x2 1 0
  · refine gg_iconst C dX1_round_9 kI_1 ?_
    exact gg_iret C M dX1_round_10 ⟨rfl, rfl⟩
def f_X3_whole (v0 : Int32) : Option (Int64) := some (v0.toInt64 * 232792560)
set_option maxHeartbeats 4000000 in
set_option maxRecDepth 100000 in
theorem c_X3_whole (l : Launch) (D : va_G) (T : Nat → ClassId)   (v0 : Int32) (r : Int64) (h : f_X3_whole v0 = some r) : Kt l D T yX3_whole cX3_whole 1 (some .long) (0, 0, 0, 0) [.int v0] ([]) (FF (fun (r : Int64) => some (.long r)) (fun r => []) r) := by
  refine kt_of (own := RX3) (nm := "whole") (lv := [(0, .int v0)]) (by decide) rfl rfl rfl (Nat.le_of_ble_eq_true rfl) h (fun X hn C M => ?_)
  have hnn : ((0, 0) : Nat × Nat).1 ≤ 0 ∧ ((0, 0) : Nat × Nat).2 ≤ 0 := ⟨Nat.le_refl 0, Nat.le_refl 0⟩
  unfold f_X3_whole
  refine gg_iload_n C dX3_whole_0 rfl 0 rfl ?_
  refine gg_i2l C dX3_whole_1 ?_
  refine gg_ldc2 C tw_485 dX3_whole_2 ?_
  refine gg_lmul C dX3_whole_5 ?_
  exact gg_lret C M dX3_whole_6 ⟨rfl, rfl⟩
def f_X3_weight_L14 (y0 : Int32) : Nat → Int64 → Int32 → Option (Int64 × Int32)
  | 0, _, _ => none
  | nn + 1, y2, y4 => if y0 ≤ y4 then some (y2, y4) else gdL y4.toInt64 (bi (y2 + (232792560 / y4.toInt64)) (fun x1 => f_X3_weight_L14 y0 nn x1 (y4 + 1)))
set_option maxHeartbeats 4000000 in
set_option maxRecDepth 100000 in
theorem g_X3_weight_L14 {X : KX} {D : va_G} {T : Nat → ClassId} {Q : Int64 × Int32 → State → Prop} {n : Nat × Nat} (C : Cx X D T cX3_weight RX3 { frames := 0, cells := 0, slots := 0, locals := 0 }) (hnn : n.1 ≤ 0 ∧ n.2 ≤ 0) (hn : kxL X = 5)   (y0 : Int32) (y1 : Int32) (hk : ∀ v : Int64 × Int32, GG X D Q n ([]) [(0, .int y0), (1, .int y1), (2, .long v.1), (4, .int v.2)] 36 [] (some (v))) : ∀ (nn : Nat) (y2 : Int64) (y4 : Int32), GG X D Q n ([]) [(0, .int y0), (1, .int y1), (2, .long y2), (4, .int y4)] 14 [] (f_X3_weight_L14 y0 nn y2 y4) := by
  intro nn
  induction nn with
  | zero => intros; exact gg_none
  | succ nn ih =>
    intro y2 y4
    unfold f_X3_weight_L14
    refine gg_iload C dX3_weight_14 3 rfl ?_
    refine gg_iload_n C dX3_weight_16 rfl 0 rfl ?_
    refine gg_icmp_ge C dX3_weight_17 (tgt := 36) (by decide) (fun _ => ?_) (fun _ => ?_)
    · refine gg_sub [0, 1, 2, 3] rfl ?_
      exact hk (y2, y4)
    · refine gg_lload_n C dX3_weight_20 rfl 2 rfl ?_
      refine gg_ldc2 C tw_485 dX3_weight_21 ?_
      refine gg_iload C dX3_weight_24 3 rfl ?_
      refine gg_i2l C dX3_weight_26 ?_
      refine gg_ldiv C dX3_weight_27 ?_
      refine gg_ladd C dX3_weight_28 ?_
      refine gg_biL (fun x1 => ?_)
      refine gg_lstore_n C dX3_weight_29 rfl hn (by decide) (lv' := [(2, .long x1), (0, .int y0), (1, .int y1), (4, .int y4)]) rfl ?_
      refine gg_iinc C dX3_weight_30 (j := 3) rfl (v := y4 + 1) (by first | rfl | decide) hn (by decide) (lv' := [(4, .int (y4 + 1)), (2, .long x1), (0, .int y0), (1, .int y1)]) rfl ?_
      refine gg_goto C dX3_weight_33 (tgt := 14) (by decide) ?_
      refine gg_sub [2, 3, 1, 0] rfl ?_
      exact ih x1 (y4 + 1)
def f_X3_weight (v0 : Int32) (v1 : Int32) : Option (Int64) := if 1 ≤ v1 then jn (α := Int64 × Int32) (f_X3_weight_L14 v0 100 0 v1) (fun z2 => some (v1.toInt64 * z2.1)) else some 232792560
set_option maxHeartbeats 4000000 in
set_option maxRecDepth 100000 in
theorem c_X3_weight (l : Launch) (D : va_G) (T : Nat → ClassId)   (v0 : Int32) (v1 : Int32) (r : Int64) (h : f_X3_weight v0 v1 = some r) : Kt l D T yX3_weight cX3_weight 5 (some .long) (0, 0, 0, 0) [.int v0, .int v1] ([]) (FF (fun (r : Int64) => some (.long r)) (fun r => []) r) := by
  refine kt_of (own := RX3) (nm := "weight") (lv := [(0, .int v0), (1, .int v1)]) (by decide) rfl rfl rfl (Nat.le_of_ble_eq_true rfl) h (fun X hn C M => ?_)
  have hnn : ((0, 0) : Nat × Nat).1 ≤ 0 ∧ ((0, 0) : Nat × Nat).2 ≤ 0 := ⟨Nat.le_refl 0, Nat.le_refl 0⟩
  unfold f_X3_weight
  refine gg_iload_n C dX3_weight_0 rfl 1 rfl ?_
  refine gg_iconst C dX3_weight_1 kI_1 ?_
  refine gg_icmp_ge C dX3_weight_2 (tgt := 9) (by decide) (fun _ => ?_) (fun _ => ?_)
  · refine gg_lconst C dX3_weight_9 (v := 0) (by decide) ?_
    refine gg_lstore_n C dX3_weight_10 rfl hn (by decide) (lv' := [(2, .long 0), (0, .int v0), (1, .int v1)]) rfl ?_
    refine gg_iload_n C dX3_weight_11 rfl 2 rfl ?_
    refine gg_istore C dX3_weight_12 hn (by decide) (lv' := [(4, .int v1), (2, .long 0), (0, .int v0), (1, .int v1)]) rfl ?_
    refine gg_join (α := Int64 × Int32) 36 (fun z2 => []) (fun z2 => [(0, .int v0), (1, .int v1), (2, .long z2.1), (4, .int z2.2)]) (fun z2 => []) (fun z2 => ?_) (fun K3 => ?_)
    · refine gg_iload_n C dX3_weight_36 rfl 1 rfl ?_
      refine gg_i2l C dX3_weight_37 ?_
      refine gg_lload_n C dX3_weight_38 rfl 2 rfl ?_
      refine gg_lmul C dX3_weight_39 ?_
      exact gg_lret C M dX3_weight_40 ⟨rfl, rfl⟩
    · refine gg_sub [2, 3, 1, 0] rfl ?_
      exact g_X3_weight_L14 C hnn hn  v0 v1 K3 100 0 v1
  · refine gg_ldc2 C tw_485 dX3_weight_5 ?_
    exact gg_lret C M dX3_weight_8 ⟨rfl, rfl⟩
def f_X3_best_L4 (y0 : Int32) : Nat → Int32 → Int32 → Option (Int32 × Int32)
  | 0, _, _ => none
  | nn + 1, y1, y2 => if y0 ≤ y2 then some (y1, y2) else jn (f_X3_weight y0 y2) (fun r1 => jn (f_X3_weight y0 y1) (fun r2 => if lg_cmp r1 r2 ≤ 0 then f_X3_best_L4 y0 nn y1 (y2 + 1) else f_X3_best_L4 y0 nn y2 (y2 + 1)))
set_option maxHeartbeats 4000000 in
set_option maxRecDepth 100000 in
theorem g_X3_best_L4 {X : KX} {D : va_G} {T : Nat → ClassId} {Q : Int32 × Int32 → State → Prop} {n : Nat × Nat} (C : Cx X D T cX3_best RX3 { frames := 1, cells := 0, slots := 0, locals := 24 }) (hnn : n.1 ≤ 0 ∧ n.2 ≤ 0) (hn : kxL X = 3)   (y0 : Int32) (hk : ∀ v : Int32 × Int32, GG X D Q n ([]) [(0, .int y0), (1, .int v.1), (2, .int v.2)] 31 [] (some (v))) : ∀ (nn : Nat) (y1 : Int32) (y2 : Int32), GG X D Q n ([]) [(0, .int y0), (1, .int y1), (2, .int y2)] 4 [] (f_X3_best_L4 y0 nn y1 y2) := by
  intro nn
  induction nn with
  | zero => intros; exact gg_none
  | succ nn ih =>
    intro y1 y2
    unfold f_X3_best_L4
    refine gg_iload_n C dX3_best_4 rfl 2 rfl ?_
    refine gg_iload_n C dX3_best_5 rfl 0 rfl ?_
    refine gg_icmp_ge C dX3_best_6 (tgt := 31) (by decide) (fun _ => ?_) (fun _ => ?_)
    · refine gg_sub [0, 1, 2] rfl ?_
      exact hk (y1, y2)
    · refine gg_iload_n C dX3_best_9 rfl 0 rfl ?_
      refine gg_iload_n C dX3_best_10 rfl 2 rfl ?_
      refine gg_callS C (fun l r h => c_X3_weight l D T y0 y2 r h) lk_X3_11 ⟨by decide, by decide⟩ hnn rfl (rest := []) rfl (Nat.le_of_ble_eq_true rfl) dX3_best_11 cut_none (st2 := fun r1 => [.long r1]) (fun _ => rfl) (fun r1 => ?_)
      refine gg_iload_n C dX3_best_14 rfl 0 rfl ?_
      refine gg_iload_n C dX3_best_15 rfl 1 rfl ?_
      refine gg_callS C (fun l r h => c_X3_weight l D T y0 y1 r h) lk_X3_11 ⟨by decide, by decide⟩ hnn rfl (rest := [.long r1]) rfl (Nat.le_of_ble_eq_true rfl) dX3_best_16 cut_none (st2 := fun r2 => [.long r2, .long r1]) (fun _ => rfl) (fun r2 => ?_)
      refine gg_lcmp C dX3_best_19 ?_
      refine gg_if_le C dX3_best_20 (tgt := 25) (by decide) (fun _ => ?_) (fun _ => ?_)
      · refine gg_iinc C dX3_best_25 (j := 2) rfl (v := y2 + 1) (by first | rfl | decide) hn (by decide) (lv' := [(2, .int (y2 + 1)), (0, .int y0), (1, .int y1)]) rfl ?_
        refine gg_goto C dX3_best_28 (tgt := 4) (by decide) ?_
        refine gg_sub [1, 2, 0] rfl ?_
        exact ih y1 (y2 + 1)
      · refine gg_iload_n C dX3_best_23 rfl 2 rfl ?_
        refine gg_istore_n C dX3_best_24 rfl hn (by decide) (lv' := [(1, .int y2), (0, .int y0), (2, .int y2)]) rfl ?_
        refine gg_iinc C dX3_best_25 (j := 2) rfl (v := y2 + 1) (by first | rfl | decide) hn (by decide) (lv' := [(2, .int (y2 + 1)), (1, .int y2), (0, .int y0)]) rfl ?_
        refine gg_goto C dX3_best_28 (tgt := 4) (by decide) ?_
        refine gg_sub [2, 1, 0] rfl ?_
        exact ih y2 (y2 + 1)
def f_X3_best (v0 : Int32) : Option (Int32) := jn (α := Int32 × Int32) (f_X3_best_L4 v0 100 0 1) (fun z3 => some z3.1)
set_option maxHeartbeats 4000000 in
set_option maxRecDepth 100000 in
theorem c_X3_best (l : Launch) (D : va_G) (T : Nat → ClassId)   (v0 : Int32) (r : Int32) (h : f_X3_best v0 = some r) : Kt l D T yX3_best cX3_best 3 (some .int) (1, 0, 0, 24) [.int v0] ([]) (FF (fun (r : Int32) => some (.int r)) (fun r => []) r) := by
  refine kt_of (own := RX3) (nm := "best") (lv := [(0, .int v0)]) (by decide) rfl rfl rfl (Nat.le_of_ble_eq_true rfl) h (fun X hn C M => ?_)
  have hnn : ((0, 0) : Nat × Nat).1 ≤ 0 ∧ ((0, 0) : Nat × Nat).2 ≤ 0 := ⟨Nat.le_refl 0, Nat.le_refl 0⟩
  unfold f_X3_best
  refine gg_iconst C dX3_best_0 kI_0 ?_
  refine gg_istore_n C dX3_best_1 rfl hn (by decide) (lv' := [(1, .int 0), (0, .int v0)]) rfl ?_
  refine gg_iconst C dX3_best_2 kI_1 ?_
  refine gg_istore_n C dX3_best_3 rfl hn (by decide) (lv' := [(2, .int 1), (1, .int 0), (0, .int v0)]) rfl ?_
  refine gg_join (α := Int32 × Int32) 31 (fun z3 => []) (fun z3 => [(0, .int v0), (1, .int z3.1), (2, .int z3.2)]) (fun z3 => []) (fun z3 => ?_) (fun K4 => ?_)
  · refine gg_iload_n C dX3_best_31 rfl 1 rfl ?_
    exact gg_iret C M dX3_best_32 ⟨rfl, rfl⟩
  · refine gg_sub [2, 1, 0] rfl ?_
    exact g_X3_best_L4 C hnn hn  v0 K4 100 0 1
def f_X5_digit (v0 : Int32) (v1 : Int32) (v2 : Int32) : Option (Int32) := bi ((v1 - 1) - v2) (fun x1 => jn (f_X8_isWithin x1 0 9) (fun r2 => if r2 = 0 then some 0 else gu x1 10 (gd (tens x1.toNatClampNeg) (some ((v0 / (tens x1.toNatClampNeg)) - (v0 / (tens x1.toNatClampNeg)) / 10 * 10)))))
set_option maxHeartbeats 4000000 in
set_option maxRecDepth 100000 in
theorem c_X5_digit (l : Launch) (D : va_G) (T : Nat → ClassId)   (v0 : Int32) (v1 : Int32) (v2 : Int32) (r : Int32) (h : f_X5_digit v0 v1 v2 = some r) : Kt l D T yX5_digit cX5_digit 4 (some .int) (1, 0, 0, 22) [.int v0, .int v1, .int v2] ([]) (FF (fun (r : Int32) => some (.int r)) (fun r => []) r) := by
  refine kt_of (own := RX5) (nm := "digit") (lv := [(0, .int v0), (1, .int v1), (2, .int v2)]) (by decide) rfl rfl rfl (Nat.le_of_ble_eq_true rfl) h (fun X hn C M => ?_)
  have hnn : ((0, 0) : Nat × Nat).1 ≤ 0 ∧ ((0, 0) : Nat × Nat).2 ≤ 0 := ⟨Nat.le_refl 0, Nat.le_refl 0⟩
  unfold f_X5_digit
  refine gg_iload_n C dX5_digit_0 rfl 1 rfl ?_
  refine gg_iconst C dX5_digit_1 kI_1 ?_
  refine gg_isub C dX5_digit_2 ?_
  refine gg_iload_n C dX5_digit_3 rfl 2 rfl ?_
  refine gg_isub C dX5_digit_4 ?_
  refine gg_bi (fun x1 => ?_)
  refine gg_istore_n C dX5_digit_5 rfl hn (by decide) (lv' := [(3, .int x1), (0, .int v0), (1, .int v1), (2, .int v2)]) rfl ?_
  refine gg_iload_n C dX5_digit_6 rfl 0 rfl ?_
  refine gg_iconst C dX5_digit_7 kI_0 ?_
  refine gg_bipush C dX5_digit_8 kB_9 ?_
  refine gg_callN C (fun l r h => c_X8_isWithin l D T x1 0 9 r h) lk_X5_13 ⟨by decide, by decide⟩ hnn rfl (rest := []) rfl (Nat.le_of_ble_eq_true rfl) dX5_digit_10 cut_none (st2 := fun r2 => [.int r2]) (fun _ => rfl) (fun r2 => ?_)
  refine gg_if_eq C dX5_digit_13 (tgt := 29) (by decide) (fun _ => ?_) (fun _ => ?_)
  · refine gg_iconst C dX5_digit_29 kI_0 ?_
    exact gg_iret C M dX5_digit_30 ⟨rfl, rfl⟩
  · refine gg_iload_n C dX5_digit_16 rfl 1 rfl ?_
    refine gg_gets C tw_369 dX5_digit_17 (fun tt3 htt3 => ?_)
    refine gg_iload_n C dX5_digit_20 rfl 0 rfl ?_
    refine htt3 dX5_digit_21 ?_
    refine gg_idiv C dX5_digit_22 ?_
    refine gg_bipush C dX5_digit_23 kB_10 ?_
    refine gg_iremK C dX5_digit_25 (by decide) ?_
    refine gg_goto C dX5_digit_26 (tgt := 30) (by decide) ?_
    exact gg_iret C M dX5_digit_30 ⟨rfl, rfl⟩
def f_X5_isRow_L35 (y0 : Int32) (y1 : Int32) : Nat → Int32 → Option ((Int32) ⊕ (Int32))
  | 0, _ => none
  | nn + 1, y2 => if y1 ≤ y2 then some (.inl y2) else jn (f_X5_digit y0 y1 y2) (fun r4 => if r4 = 0 then some (.inr 0) else f_X5_isRow_L35 y0 y1 nn (y2 + 1))
set_option maxHeartbeats 4000000 in
set_option maxRecDepth 100000 in
theorem g_X5_isRow_L35 {X : KX} {D : va_G} {T : Nat → ClassId} {Q : (Int32) ⊕ (Int32) → State → Prop} {n : Nat × Nat} (C : Cx X D T cX5_isRow RX5 { frames := 2, cells := 0, slots := 0, locals := 45 }) (hnn : n.1 ≤ 0 ∧ n.2 ≤ 0) (hn : kxL X = 3)   (y0 : Int32) (y1 : Int32) (hk : ∀ v : Int32, GG X D Q n ([]) [(0, .int y0), (1, .int y1), (2, .int v)] 57 [] (some (.inl v))) (hr0 : GG X D Q n ([]) [] 50 [.int 0] (some (.inr 0))) : ∀ (nn : Nat) (y2 : Int32), GG X D Q n ([]) [(0, .int y0), (1, .int y1), (2, .int y2)] 35 [] (f_X5_isRow_L35 y0 y1 nn y2) := by
  intro nn
  induction nn with
  | zero => intros; exact gg_none
  | succ nn ih =>
    intro y2
    unfold f_X5_isRow_L35
    refine gg_iload_n C dX5_isRow_35 rfl 2 rfl ?_
    refine gg_iload_n C dX5_isRow_36 rfl 1 rfl ?_
    refine gg_icmp_ge C dX5_isRow_37 (tgt := 57) (by decide) (fun _ => ?_) (fun _ => ?_)
    · refine gg_sub [0, 1, 2] rfl ?_
      exact hk y2
    · refine gg_iload_n C dX5_isRow_40 rfl 0 rfl ?_
      refine gg_iload_n C dX5_isRow_41 rfl 1 rfl ?_
      refine gg_iload_n C dX5_isRow_42 rfl 2 rfl ?_
      refine gg_callS C (fun l r h => c_X5_digit l D T y0 y1 y2 r h) lk_X5_23 ⟨by decide, by decide⟩ hnn rfl (rest := []) rfl (Nat.le_of_ble_eq_true rfl) dX5_isRow_43 cut_none (st2 := fun r4 => [.int r4]) (fun _ => rfl) (fun r4 => ?_)
      refine gg_if_ne C dX5_isRow_46 (tgt := 51) (by decide) (fun _ => ?_) (fun _ => ?_)
      · refine gg_iinc C dX5_isRow_51 (j := 2) rfl (v := y2 + 1) (by first | rfl | decide) hn (by decide) (lv' := [(2, .int (y2 + 1)), (0, .int y0), (1, .int y1)]) rfl ?_
        refine gg_goto C dX5_isRow_54 (tgt := 35) (by decide) ?_
        refine gg_sub [1, 2, 0] rfl ?_
        exact ih (y2 + 1)
      · refine gg_iconst C dX5_isRow_49 kI_0 ?_
        refine gg_sub [] rfl ?_
        exact hr0
def f_X5_isRow (v0 : Int32) (v1 : Int32) : Option (Int32) := jn (f_X8_isWithin v1 1 9) (fun r1 => if r1 = 0 then some 0 else gu (v1 - 1) 10 (if v0 < tens (v1 - 1).toNatClampNeg then some 0 else gu v1 10 (gd (tens v1.toNatClampNeg) (if v0 / (tens v1.toNatClampNeg) = 0 then jn (f_X5_isRow_L35 v0 v1 100 0) (Sum.elim (fun z5 => some 1) some) else some 0))))
set_option maxHeartbeats 4000000 in
set_option maxRecDepth 100000 in
theorem c_X5_isRow (l : Launch) (D : va_G) (T : Nat → ClassId)   (v0 : Int32) (v1 : Int32) (r : Int32) (h : f_X5_isRow v0 v1 = some r) : Kt l D T yX5_isRow cX5_isRow 3 (some .boolean) (2, 0, 0, 45) [.int v0, .int v1] ([]) (FF (fun (r : Int32) => some (.int r)) (fun r => []) r) := by
  refine kt_of (own := RX5) (nm := "isRow") (lv := [(0, .int v0), (1, .int v1)]) (by decide) rfl rfl rfl (Nat.le_of_ble_eq_true rfl) h (fun X hn C M => ?_)
  have hnn : ((0, 0) : Nat × Nat).1 ≤ 0 ∧ ((0, 0) : Nat × Nat).2 ≤ 0 := ⟨Nat.le_refl 0, Nat.le_refl 0⟩
  unfold f_X5_isRow
  refine gg_iload_n C dX5_isRow_0 rfl 1 rfl ?_
  refine gg_iconst C dX5_isRow_1 kI_1 ?_
  refine gg_bipush C dX5_isRow_2 kB_9 ?_
  refine gg_callN C (fun l r h => c_X8_isWithin l D T v1 1 9 r h) lk_X5_13 ⟨by decide, by decide⟩ hnn rfl (rest := []) rfl (Nat.le_of_ble_eq_true rfl) dX5_isRow_4 cut_none (st2 := fun r1 => [.int r1]) (fun _ => rfl) (fun r1 => ?_)
  refine gg_if_eq C dX5_isRow_7 (tgt := 31) (by decide) (fun _ => ?_) (fun _ => ?_)
  · refine gg_iconst C dX5_isRow_31 kI_0 ?_
    exact gg_zret C M dX5_isRow_32 rfl ⟨rfl, rfl⟩
  · refine gg_iload_n C dX5_isRow_10 rfl 0 rfl ?_
    refine gg_gets C tw_369 dX5_isRow_11 (fun tt2 htt2 => ?_)
    refine gg_iload_n C dX5_isRow_14 rfl 1 rfl ?_
    refine gg_iconst C dX5_isRow_15 kI_1 ?_
    refine gg_isub C dX5_isRow_16 ?_
    refine htt2 dX5_isRow_17 ?_
    refine gg_icmp_lt C dX5_isRow_18 (tgt := 31) (by decide) (fun _ => ?_) (fun _ => ?_)
    · refine gg_iconst C dX5_isRow_31 kI_0 ?_
      exact gg_zret C M dX5_isRow_32 rfl ⟨rfl, rfl⟩
    · refine gg_iload_n C dX5_isRow_21 rfl 0 rfl ?_
      refine gg_gets C tw_369 dX5_isRow_22 (fun tt3 htt3 => ?_)
      refine gg_iload_n C dX5_isRow_25 rfl 1 rfl ?_
      refine htt3 dX5_isRow_26 ?_
      refine gg_idiv C dX5_isRow_27 ?_
      refine gg_if_eq C dX5_isRow_28 (tgt := 33) (by decide) (fun _ => ?_) (fun _ => ?_)
      · refine gg_iconst C dX5_isRow_33 kI_0 ?_
        refine gg_istore_n C dX5_isRow_34 rfl hn (by decide) (lv' := [(2, .int 0), (0, .int v0), (1, .int v1)]) rfl ?_
        refine gg_jn ?_
        refine gg_sub [1, 2, 0] rfl ?_
        refine g_X5_isRow_L35 C hnn hn  v0 v1 (fun z5 => gg_leafL ?_) (gg_leafR ?_) 100 0
        · refine gg_iconst C dX5_isRow_57 kI_1 ?_
          exact gg_zret C M dX5_isRow_58 rfl ⟨rfl, rfl⟩
        · exact gg_zret C M dX5_isRow_50 rfl ⟨rfl, rfl⟩
      · refine gg_iconst C dX5_isRow_31 kI_0 ?_
        exact gg_zret C M dX5_isRow_32 rfl ⟨rfl, rfl⟩
def f_X5_isAsTold (v0 : Int32) (v1 : Int32) (v2 : Int32) : Option (Int32) := jn (f_X5_isRow v0 v2) (fun r1 => if r1 = 0 then some 0 else jn (f_X5_isRow v1 v2) (fun r2 => if r2 = 0 then some 0 else some 1))
set_option maxHeartbeats 4000000 in
set_option maxRecDepth 100000 in
theorem c_X5_isAsTold (l : Launch) (D : va_G) (T : Nat → ClassId)   (v0 : Int32) (v1 : Int32) (v2 : Int32) (r : Int32) (h : f_X5_isAsTold v0 v1 v2 = some r) : Kt l D T yX5_isAsTold cX5_isAsTold 3 (some .boolean) (3, 0, 0, 67) [.int v0, .int v1, .int v2] ([]) (FF (fun (r : Int32) => some (.int r)) (fun r => []) r) := by
  refine kt_of (own := RX5) (nm := "isAsTold") (lv := [(0, .int v0), (1, .int v1), (2, .int v2)]) (by decide) rfl rfl rfl (Nat.le_of_ble_eq_true rfl) h (fun X hn C M => ?_)
  have hnn : ((0, 0) : Nat × Nat).1 ≤ 0 ∧ ((0, 0) : Nat × Nat).2 ≤ 0 := ⟨Nat.le_refl 0, Nat.le_refl 0⟩
  unfold f_X5_isAsTold
  refine gg_iload_n C dX5_isAsTold_0 rfl 0 rfl ?_
  refine gg_iload_n C dX5_isAsTold_1 rfl 2 rfl ?_
  refine gg_callS C (fun l r h => c_X5_isRow l D T v0 v2 r h) lk_X5_7 ⟨by decide, by decide⟩ hnn rfl (rest := []) rfl (Nat.le_of_ble_eq_true rfl) dX5_isAsTold_2 cut_none (st2 := fun r1 => [.int r1]) (fun _ => rfl) (fun r1 => ?_)
  refine gg_if_eq C dX5_isAsTold_5 (tgt := 20) (by decide) (fun _ => ?_) (fun _ => ?_)
  · refine gg_iconst C dX5_isAsTold_20 kI_0 ?_
    exact gg_zret C M dX5_isAsTold_21 rfl ⟨rfl, rfl⟩
  · refine gg_iload_n C dX5_isAsTold_8 rfl 1 rfl ?_
    refine gg_iload_n C dX5_isAsTold_9 rfl 2 rfl ?_
    refine gg_callS C (fun l r h => c_X5_isRow l D T v1 v2 r h) lk_X5_7 ⟨by decide, by decide⟩ hnn rfl (rest := []) rfl (Nat.le_of_ble_eq_true rfl) dX5_isAsTold_10 cut_none (st2 := fun r2 => [.int r2]) (fun _ => rfl) (fun r2 => ?_)
    refine gg_if_eq C dX5_isAsTold_13 (tgt := 20) (by decide) (fun _ => ?_) (fun _ => ?_)
    · refine gg_iconst C dX5_isAsTold_20 kI_0 ?_
      exact gg_zret C M dX5_isAsTold_21 rfl ⟨rfl, rfl⟩
    · refine gg_iconst C dX5_isAsTold_16 kI_1 ?_
      refine gg_goto C dX5_isAsTold_17 (tgt := 21) (by decide) ?_
      exact gg_zret C M dX5_isAsTold_21 rfl ⟨rfl, rfl⟩
def f_X5_digitSum_L5 (y0 : Int32) (y1 : Int32) : Nat → Int64 → Int32 → Option (Int64 × Int32)
  | 0, _, _ => none
  | nn + 1, y2, y4 => if y1 ≤ y4 then some (y2, y4) else jn (f_X5_digit y0 y1 y4) (fun r1 => bi (y2 + r1.toInt64) (fun x2 => f_X5_digitSum_L5 y0 y1 nn x2 (y4 + 1)))
set_option maxHeartbeats 4000000 in
set_option maxRecDepth 100000 in
theorem g_X5_digitSum_L5 {X : KX} {D : va_G} {T : Nat → ClassId} {Q : Int64 × Int32 → State → Prop} {n : Nat × Nat} (C : Cx X D T cX5_digitSum RX5 { frames := 2, cells := 0, slots := 0, locals := 45 }) (hnn : n.1 ≤ 0 ∧ n.2 ≤ 0) (hn : kxL X = 5)   (y0 : Int32) (y1 : Int32) (hk : ∀ v : Int64 × Int32, GG X D Q n ([]) [(0, .int y0), (1, .int y1), (2, .long v.1), (4, .int v.2)] 28 [] (some (v))) : ∀ (nn : Nat) (y2 : Int64) (y4 : Int32), GG X D Q n ([]) [(0, .int y0), (1, .int y1), (2, .long y2), (4, .int y4)] 5 [] (f_X5_digitSum_L5 y0 y1 nn y2 y4) := by
  intro nn
  induction nn with
  | zero => intros; exact gg_none
  | succ nn ih =>
    intro y2 y4
    unfold f_X5_digitSum_L5
    refine gg_iload C dX5_digitSum_5 3 rfl ?_
    refine gg_iload_n C dX5_digitSum_7 rfl 1 rfl ?_
    refine gg_icmp_ge C dX5_digitSum_8 (tgt := 28) (by decide) (fun _ => ?_) (fun _ => ?_)
    · refine gg_sub [0, 1, 2, 3] rfl ?_
      exact hk (y2, y4)
    · refine gg_lload_n C dX5_digitSum_11 rfl 2 rfl ?_
      refine gg_iload_n C dX5_digitSum_12 rfl 0 rfl ?_
      refine gg_iload_n C dX5_digitSum_13 rfl 1 rfl ?_
      refine gg_iload C dX5_digitSum_14 3 rfl ?_
      refine gg_callS C (fun l r h => c_X5_digit l D T y0 y1 y4 r h) lk_X5_23 ⟨by decide, by decide⟩ hnn rfl (rest := [.long y2]) rfl (Nat.le_of_ble_eq_true rfl) dX5_digitSum_16 cut_none (st2 := fun r1 => [.int r1, .long y2]) (fun _ => rfl) (fun r1 => ?_)
      refine gg_i2l C dX5_digitSum_19 ?_
      refine gg_ladd C dX5_digitSum_20 ?_
      refine gg_biL (fun x2 => ?_)
      refine gg_lstore_n C dX5_digitSum_21 rfl hn (by decide) (lv' := [(2, .long x2), (0, .int y0), (1, .int y1), (4, .int y4)]) rfl ?_
      refine gg_iinc C dX5_digitSum_22 (j := 3) rfl (v := y4 + 1) (by first | rfl | decide) hn (by decide) (lv' := [(4, .int (y4 + 1)), (2, .long x2), (0, .int y0), (1, .int y1)]) rfl ?_
      refine gg_goto C dX5_digitSum_25 (tgt := 5) (by decide) ?_
      refine gg_sub [2, 3, 1, 0] rfl ?_
      exact ih x2 (y4 + 1)
def f_X5_digitSum (v0 : Int32) (v1 : Int32) : Option (Int64) := jn (α := Int64 × Int32) (f_X5_digitSum_L5 v0 v1 100 0 0) (fun z3 => some z3.1)
set_option maxHeartbeats 4000000 in
set_option maxRecDepth 100000 in
theorem c_X5_digitSum (l : Launch) (D : va_G) (T : Nat → ClassId)   (v0 : Int32) (v1 : Int32) (r : Int64) (h : f_X5_digitSum v0 v1 = some r) : Kt l D T yX5_digitSum cX5_digitSum 5 (some .long) (2, 0, 0, 45) [.int v0, .int v1] ([]) (FF (fun (r : Int64) => some (.long r)) (fun r => []) r) := by
  refine kt_of (own := RX5) (nm := "digitSum") (lv := [(0, .int v0), (1, .int v1)]) (by decide) rfl rfl rfl (Nat.le_of_ble_eq_true rfl) h (fun X hn C M => ?_)
  have hnn : ((0, 0) : Nat × Nat).1 ≤ 0 ∧ ((0, 0) : Nat × Nat).2 ≤ 0 := ⟨Nat.le_refl 0, Nat.le_refl 0⟩
  unfold f_X5_digitSum
  refine gg_lconst C dX5_digitSum_0 (v := 0) (by decide) ?_
  refine gg_lstore_n C dX5_digitSum_1 rfl hn (by decide) (lv' := [(2, .long 0), (0, .int v0), (1, .int v1)]) rfl ?_
  refine gg_iconst C dX5_digitSum_2 kI_0 ?_
  refine gg_istore C dX5_digitSum_3 hn (by decide) (lv' := [(4, .int 0), (2, .long 0), (0, .int v0), (1, .int v1)]) rfl ?_
  refine gg_join (α := Int64 × Int32) 28 (fun z3 => []) (fun z3 => [(0, .int v0), (1, .int v1), (2, .long z3.1), (4, .int z3.2)]) (fun z3 => []) (fun z3 => ?_) (fun K4 => ?_)
  · refine gg_lload_n C dX5_digitSum_28 rfl 2 rfl ?_
    exact gg_lret C M dX5_digitSum_29 ⟨rfl, rfl⟩
  · refine gg_sub [2, 3, 1, 0] rfl ?_
    exact g_X5_digitSum_L5 C hnn hn  v0 v1 K4 100 0 0
def f_X5_leastSum_L36 (y0 : Int32) (y1 : Int32) (y2 : Int32) (y5 : Int32) : Nat → Int64 → Int32 → Option (Int64 × Int32)
  | 0, _, _ => none
  | nn + 1, y3, y6 => if y2 ≤ y6 then some (y3, y6) else jn (f_X5_digit y0 y2 y5) (fun r5 => jn (f_X5_digit y1 y2 y6) (fun r6 => bi (r5 * r6) (fun x7 => jn (f_X5_digit y0 y2 y6) (fun r8 => jn (f_X5_digit y1 y2 y5) (fun r9 => bi (r8 * r9) (fun x10 => bi (if x10 < x7 then x10 else x7) (fun x11 => bi (y3 + x11.toInt64) (fun x12 => f_X5_leastSum_L36 y0 y1 y2 y5 nn x12 (y6 + 1)))))))))
set_option maxHeartbeats 4000000 in
set_option maxRecDepth 100000 in
theorem g_X5_leastSum_L36 {X : KX} {D : va_G} {T : Nat → ClassId} {Q : Int64 × Int32 → State → Prop} {n : Nat × Nat} (C : Cx X D T cX5_leastSum RX5 { frames := 2, cells := 0, slots := 0, locals := 45 }) (hnn : n.1 ≤ 0 ∧ n.2 ≤ 0) (hn : kxL X = 9)   (y0 : Int32) (y1 : Int32) (y2 : Int32) (y5 : Int32) (hk : ∀ v : Int64 × Int32, GG X D Q n ([]) [(0, .int y0), (1, .int y1), (2, .int y2), (3, .long v.1), (5, .int y5), (6, .int v.2)] 93 [] (some (v))) : ∀ (nn : Nat) (y3 : Int64) (y6 : Int32), GG X D Q n ([]) [(0, .int y0), (1, .int y1), (2, .int y2), (3, .long y3), (5, .int y5), (6, .int y6)] 36 [] (f_X5_leastSum_L36 y0 y1 y2 y5 nn y3 y6) := by
  intro nn
  induction nn with
  | zero => intros; exact gg_none
  | succ nn ih =>
    intro y3 y6
    unfold f_X5_leastSum_L36
    refine gg_iload C dX5_leastSum_36 5 rfl ?_
    refine gg_iload_n C dX5_leastSum_38 rfl 2 rfl ?_
    refine gg_icmp_ge C dX5_leastSum_39 (tgt := 93) (by decide) (fun _ => ?_) (fun _ => ?_)
    · refine gg_sub [0, 1, 2, 3, 4, 5] rfl ?_
      exact hk (y3, y6)
    · refine gg_iload_n C dX5_leastSum_42 rfl 0 rfl ?_
      refine gg_iload_n C dX5_leastSum_43 rfl 2 rfl ?_
      refine gg_iload C dX5_leastSum_44 4 rfl ?_
      refine gg_callS C (fun l r h => c_X5_digit l D T y0 y2 y5 r h) lk_X5_23 ⟨by decide, by decide⟩ hnn rfl (rest := []) rfl (Nat.le_of_ble_eq_true rfl) dX5_leastSum_46 cut_none (st2 := fun r5 => [.int r5]) (fun _ => rfl) (fun r5 => ?_)
      refine gg_iload_n C dX5_leastSum_49 rfl 1 rfl ?_
      refine gg_iload_n C dX5_leastSum_50 rfl 2 rfl ?_
      refine gg_iload C dX5_leastSum_51 5 rfl ?_
      refine gg_callS C (fun l r h => c_X5_digit l D T y1 y2 y6 r h) lk_X5_23 ⟨by decide, by decide⟩ hnn rfl (rest := [.int r5]) rfl (Nat.le_of_ble_eq_true rfl) dX5_leastSum_53 cut_none (st2 := fun r6 => [.int r6, .int r5]) (fun _ => rfl) (fun r6 => ?_)
      refine gg_imul C dX5_leastSum_56 ?_
      refine gg_bi (fun x7 => ?_)
      refine gg_istore C dX5_leastSum_57 hn (by decide) (lv' := [(7, .int x7), (0, .int y0), (1, .int y1), (2, .int y2), (3, .long y3), (5, .int y5), (6, .int y6)]) rfl ?_
      refine gg_iload_n C dX5_leastSum_59 rfl 1 rfl ?_
      refine gg_iload_n C dX5_leastSum_60 rfl 3 rfl ?_
      refine gg_iload C dX5_leastSum_61 6 rfl ?_
      refine gg_callS C (fun l r h => c_X5_digit l D T y0 y2 y6 r h) lk_X5_23 ⟨by decide, by decide⟩ hnn rfl (rest := []) rfl (Nat.le_of_ble_eq_true rfl) dX5_leastSum_63 cut_none (st2 := fun r8 => [.int r8]) (fun _ => rfl) (fun r8 => ?_)
      refine gg_iload_n C dX5_leastSum_66 rfl 2 rfl ?_
      refine gg_iload_n C dX5_leastSum_67 rfl 3 rfl ?_
      refine gg_iload C dX5_leastSum_68 5 rfl ?_
      refine gg_callS C (fun l r h => c_X5_digit l D T y1 y2 y5 r h) lk_X5_23 ⟨by decide, by decide⟩ hnn rfl (rest := [.int r8]) rfl (Nat.le_of_ble_eq_true rfl) dX5_leastSum_70 cut_none (st2 := fun r9 => [.int r9, .int r8]) (fun _ => rfl) (fun r9 => ?_)
      refine gg_imul C dX5_leastSum_73 ?_
      refine gg_bi (fun x10 => ?_)
      refine gg_istore C dX5_leastSum_74 hn (by decide) (lv' := [(8, .int x10), (7, .int x7), (0, .int y0), (1, .int y1), (2, .int y2), (3, .long y3), (5, .int y5), (6, .int y6)]) rfl ?_
      refine gg_lload_n C dX5_leastSum_76 rfl 5 rfl ?_
      refine gg_iload C dX5_leastSum_77 1 rfl ?_
      refine gg_iload C dX5_leastSum_79 0 rfl ?_
      refine gg_mmin C tw_378 tw_305 tw_9 tw_306 (by decide) (Nat.le_of_ble_eq_true rfl) hnn dX5_leastSum_81 ?_
      refine gg_bi (fun x11 => ?_)
      refine gg_i2l C dX5_leastSum_84 ?_
      refine gg_ladd C dX5_leastSum_85 ?_
      refine gg_biL (fun x12 => ?_)
      refine gg_lstore_n C dX5_leastSum_86 rfl hn (by decide) (lv' := [(3, .long x12), (8, .int x10), (7, .int x7), (0, .int y0), (1, .int y1), (2, .int y2), (5, .int y5), (6, .int y6)]) rfl ?_
      refine gg_iinc C dX5_leastSum_87 (j := 7) rfl (v := y6 + 1) (by first | rfl | decide) hn (by decide) (lv' := [(6, .int (y6 + 1)), (3, .long x12), (8, .int x10), (7, .int x7), (0, .int y0), (1, .int y1), (2, .int y2), (5, .int y5)]) rfl ?_
      refine gg_goto C dX5_leastSum_90 (tgt := 36) (by decide) ?_
      refine gg_sub [4, 5, 6, 1, 7, 0] rfl ?_
      exact ih x12 (y6 + 1)
def f_X5_leastSum_L5 (y0 : Int32) (y1 : Int32) (y2 : Int32) : Nat → Int64 → Int32 → Option (Int64 × Int32)
  | 0, _, _ => none
  | nn + 1, y3, y5 => if y2 ≤ y5 then some (y3, y5) else jn (f_X5_digit y0 y2 y5) (fun r1 => jn (f_X5_digit y1 y2 y5) (fun r2 => bi (y3 + (((r1 * r2 : Int32)).toInt64)) (fun x3 => bi (y5 + 1) (fun x4 => jn (α := Int64 × Int32) (f_X5_leastSum_L36 y0 y1 y2 y5 100 x3 x4) (fun z13 => f_X5_leastSum_L5 y0 y1 y2 nn z13.1 (y5 + 1))))))
set_option maxHeartbeats 4000000 in
set_option maxRecDepth 100000 in
theorem g_X5_leastSum_L5 {X : KX} {D : va_G} {T : Nat → ClassId} {Q : Int64 × Int32 → State → Prop} {n : Nat × Nat} (C : Cx X D T cX5_leastSum RX5 { frames := 2, cells := 0, slots := 0, locals := 45 }) (hnn : n.1 ≤ 0 ∧ n.2 ≤ 0) (hn : kxL X = 9)   (y0 : Int32) (y1 : Int32) (y2 : Int32) (hk : ∀ v : Int64 × Int32, GG X D Q n ([]) [(0, .int y0), (1, .int y1), (2, .int y2), (3, .long v.1), (5, .int v.2)] 99 [] (some (v))) : ∀ (nn : Nat) (y3 : Int64) (y5 : Int32), GG X D Q n ([]) [(0, .int y0), (1, .int y1), (2, .int y2), (3, .long y3), (5, .int y5)] 5 [] (f_X5_leastSum_L5 y0 y1 y2 nn y3 y5) := by
  intro nn
  induction nn with
  | zero => intros; exact gg_none
  | succ nn ih =>
    intro y3 y5
    unfold f_X5_leastSum_L5
    refine gg_iload C dX5_leastSum_5 4 rfl ?_
    refine gg_iload_n C dX5_leastSum_7 rfl 2 rfl ?_
    refine gg_icmp_ge C dX5_leastSum_8 (tgt := 99) (by decide) (fun _ => ?_) (fun _ => ?_)
    · refine gg_sub [0, 1, 2, 3, 4] rfl ?_
      exact hk (y3, y5)
    · refine gg_lload_n C dX5_leastSum_11 rfl 3 rfl ?_
      refine gg_iload_n C dX5_leastSum_12 rfl 0 rfl ?_
      refine gg_iload_n C dX5_leastSum_13 rfl 2 rfl ?_
      refine gg_iload C dX5_leastSum_14 4 rfl ?_
      refine gg_callS C (fun l r h => c_X5_digit l D T y0 y2 y5 r h) lk_X5_23 ⟨by decide, by decide⟩ hnn rfl (rest := [.long y3]) rfl (Nat.le_of_ble_eq_true rfl) dX5_leastSum_16 cut_none (st2 := fun r1 => [.int r1, .long y3]) (fun _ => rfl) (fun r1 => ?_)
      refine gg_iload_n C dX5_leastSum_19 rfl 1 rfl ?_
      refine gg_iload_n C dX5_leastSum_20 rfl 2 rfl ?_
      refine gg_iload C dX5_leastSum_21 4 rfl ?_
      refine gg_callS C (fun l r h => c_X5_digit l D T y1 y2 y5 r h) lk_X5_23 ⟨by decide, by decide⟩ hnn rfl (rest := [.int r1, .long y3]) rfl (Nat.le_of_ble_eq_true rfl) dX5_leastSum_23 cut_none (st2 := fun r2 => [.int r2, .int r1, .long y3]) (fun _ => rfl) (fun r2 => ?_)
      refine gg_imul C dX5_leastSum_26 ?_
      refine gg_i2l C dX5_leastSum_27 ?_
      refine gg_ladd C dX5_leastSum_28 ?_
      refine gg_biL (fun x3 => ?_)
      refine gg_lstore_n C dX5_leastSum_29 rfl hn (by decide) (lv' := [(3, .long x3), (0, .int y0), (1, .int y1), (2, .int y2), (5, .int y5)]) rfl ?_
      refine gg_iload C dX5_leastSum_30 4 rfl ?_
      refine gg_iconst C dX5_leastSum_32 kI_1 ?_
      refine gg_iadd C dX5_leastSum_33 ?_
      refine gg_bi (fun x4 => ?_)
      refine gg_istore C dX5_leastSum_34 hn (by decide) (lv' := [(6, .int x4), (3, .long x3), (0, .int y0), (1, .int y1), (2, .int y2), (5, .int y5)]) rfl ?_
      refine gg_join (α := Int64 × Int32) 93 (fun z13 => []) (fun z13 => [(0, .int y0), (1, .int y1), (2, .int y2), (3, .long z13.1), (5, .int y5), (6, .int z13.2)]) (fun z13 => []) (fun z13 => ?_) (fun K14 => ?_)
      · refine gg_iinc C dX5_leastSum_93 (j := 4) rfl (v := y5 + 1) (by first | rfl | decide) hn (by decide) (lv' := [(5, .int (y5 + 1)), (0, .int y0), (1, .int y1), (2, .int y2), (3, .long z13.1), (6, .int z13.2)]) rfl ?_
        refine gg_goto C dX5_leastSum_96 (tgt := 5) (by decide) ?_
        refine gg_sub [1, 2, 3, 4, 0] rfl ?_
        exact ih z13.1 (y5 + 1)
      · refine gg_sub [2, 3, 4, 1, 5, 0] rfl ?_
        exact g_X5_leastSum_L36 C hnn hn  y0 y1 y2 y5 K14 100 x3 x4
def f_X5_leastSum (v0 : Int32) (v1 : Int32) (v2 : Int32) : Option (Int64) := jn (α := Int64 × Int32) (f_X5_leastSum_L5 v0 v1 v2 100 0 0) (fun z15 => some z15.1)
set_option maxHeartbeats 4000000 in
set_option maxRecDepth 100000 in
theorem c_X5_leastSum (l : Launch) (D : va_G) (T : Nat → ClassId)   (v0 : Int32) (v1 : Int32) (v2 : Int32) (r : Int64) (h : f_X5_leastSum v0 v1 v2 = some r) : Kt l D T yX5_leastSum cX5_leastSum 9 (some .long) (2, 0, 0, 45) [.int v0, .int v1, .int v2] ([]) (FF (fun (r : Int64) => some (.long r)) (fun r => []) r) := by
  refine kt_of (own := RX5) (nm := "leastSum") (lv := [(0, .int v0), (1, .int v1), (2, .int v2)]) (by decide) rfl rfl rfl (Nat.le_of_ble_eq_true rfl) h (fun X hn C M => ?_)
  have hnn : ((0, 0) : Nat × Nat).1 ≤ 0 ∧ ((0, 0) : Nat × Nat).2 ≤ 0 := ⟨Nat.le_refl 0, Nat.le_refl 0⟩
  unfold f_X5_leastSum
  refine gg_lconst C dX5_leastSum_0 (v := 0) (by decide) ?_
  refine gg_lstore_n C dX5_leastSum_1 rfl hn (by decide) (lv' := [(3, .long 0), (0, .int v0), (1, .int v1), (2, .int v2)]) rfl ?_
  refine gg_iconst C dX5_leastSum_2 kI_0 ?_
  refine gg_istore C dX5_leastSum_3 hn (by decide) (lv' := [(5, .int 0), (3, .long 0), (0, .int v0), (1, .int v1), (2, .int v2)]) rfl ?_
  refine gg_join (α := Int64 × Int32) 99 (fun z15 => []) (fun z15 => [(0, .int v0), (1, .int v1), (2, .int v2), (3, .long z15.1), (5, .int z15.2)]) (fun z15 => []) (fun z15 => ?_) (fun K16 => ?_)
  · refine gg_lload_n C dX5_leastSum_99 rfl 3 rfl ?_
    exact gg_lret C M dX5_leastSum_100 ⟨rfl, rfl⟩
  · refine gg_sub [2, 3, 4, 1, 0] rfl ?_
    exact g_X5_leastSum_L5 C hnn hn  v0 v1 v2 K16 100 0 0
def f_X5_first_L5 (y0 : Int32) (y1 : Int32) (y2 : Int32) : Nat → Int32 → Int32 → Option (Int32 × Int32)
  | 0, _, _ => none
  | nn + 1, y3, y4 => if y2 ≤ y4 then some (y3, y4) else jn (f_X5_digit y0 y2 y4) (fun r1 => jn (f_X5_digit y1 y2 y3) (fun r2 => bi (r1 * r2) (fun x3 => jn (f_X5_digit y0 y2 y3) (fun r4 => jn (f_X5_digit y1 y2 y4) (fun r5 => bi (r4 * r5) (fun x6 => if x3 ≤ x6 then f_X5_first_L5 y0 y1 y2 nn y3 (y4 + 1) else f_X5_first_L5 y0 y1 y2 nn y4 (y4 + 1)))))))
set_option maxHeartbeats 4000000 in
set_option maxRecDepth 100000 in
theorem g_X5_first_L5 {X : KX} {D : va_G} {T : Nat → ClassId} {Q : Int32 × Int32 → State → Prop} {n : Nat × Nat} (C : Cx X D T cX5_first RX5 { frames := 2, cells := 0, slots := 0, locals := 45 }) (hnn : n.1 ≤ 0 ∧ n.2 ≤ 0) (hn : kxL X = 7)   (y0 : Int32) (y1 : Int32) (y2 : Int32) (hk : ∀ v : Int32 × Int32, GG X D Q n ([]) [(0, .int y0), (1, .int y1), (2, .int y2), (3, .int v.1), (4, .int v.2)] 59 [] (some (v))) : ∀ (nn : Nat) (y3 : Int32) (y4 : Int32), GG X D Q n ([]) [(0, .int y0), (1, .int y1), (2, .int y2), (3, .int y3), (4, .int y4)] 5 [] (f_X5_first_L5 y0 y1 y2 nn y3 y4) := by
  intro nn
  induction nn with
  | zero => intros; exact gg_none
  | succ nn ih =>
    intro y3 y4
    unfold f_X5_first_L5
    refine gg_iload C dX5_first_5 4 rfl ?_
    refine gg_iload_n C dX5_first_7 rfl 2 rfl ?_
    refine gg_icmp_ge C dX5_first_8 (tgt := 59) (by decide) (fun _ => ?_) (fun _ => ?_)
    · refine gg_sub [0, 1, 2, 3, 4] rfl ?_
      exact hk (y3, y4)
    · refine gg_iload_n C dX5_first_11 rfl 0 rfl ?_
      refine gg_iload_n C dX5_first_12 rfl 2 rfl ?_
      refine gg_iload C dX5_first_13 4 rfl ?_
      refine gg_callS C (fun l r h => c_X5_digit l D T y0 y2 y4 r h) lk_X5_23 ⟨by decide, by decide⟩ hnn rfl (rest := []) rfl (Nat.le_of_ble_eq_true rfl) dX5_first_15 cut_none (st2 := fun r1 => [.int r1]) (fun _ => rfl) (fun r1 => ?_)
      refine gg_iload_n C dX5_first_18 rfl 1 rfl ?_
      refine gg_iload_n C dX5_first_19 rfl 2 rfl ?_
      refine gg_iload_n C dX5_first_20 rfl 3 rfl ?_
      refine gg_callS C (fun l r h => c_X5_digit l D T y1 y2 y3 r h) lk_X5_23 ⟨by decide, by decide⟩ hnn rfl (rest := [.int r1]) rfl (Nat.le_of_ble_eq_true rfl) dX5_first_21 cut_none (st2 := fun r2 => [.int r2, .int r1]) (fun _ => rfl) (fun r2 => ?_)
      refine gg_imul C dX5_first_24 ?_
      refine gg_bi (fun x3 => ?_)
      refine gg_istore C dX5_first_25 hn (by decide) (lv' := [(5, .int x3), (0, .int y0), (1, .int y1), (2, .int y2), (3, .int y3), (4, .int y4)]) rfl ?_
      refine gg_iload_n C dX5_first_27 rfl 1 rfl ?_
      refine gg_iload_n C dX5_first_28 rfl 3 rfl ?_
      refine gg_iload_n C dX5_first_29 rfl 4 rfl ?_
      refine gg_callS C (fun l r h => c_X5_digit l D T y0 y2 y3 r h) lk_X5_23 ⟨by decide, by decide⟩ hnn rfl (rest := []) rfl (Nat.le_of_ble_eq_true rfl) dX5_first_30 cut_none (st2 := fun r4 => [.int r4]) (fun _ => rfl) (fun r4 => ?_)
      refine gg_iload_n C dX5_first_33 rfl 2 rfl ?_
      refine gg_iload_n C dX5_first_34 rfl 3 rfl ?_
      refine gg_iload C dX5_first_35 5 rfl ?_
      refine gg_callS C (fun l r h => c_X5_digit l D T y1 y2 y4 r h) lk_X5_23 ⟨by decide, by decide⟩ hnn rfl (rest := [.int r4]) rfl (Nat.le_of_ble_eq_true rfl) dX5_first_37 cut_none (st2 := fun r5 => [.int r5, .int r4]) (fun _ => rfl) (fun r5 => ?_)
      refine gg_imul C dX5_first_40 ?_
      refine gg_bi (fun x6 => ?_)
      refine gg_istore C dX5_first_41 hn (by decide) (lv' := [(6, .int x6), (5, .int x3), (0, .int y0), (1, .int y1), (2, .int y2), (3, .int y3), (4, .int y4)]) rfl ?_
      refine gg_iload C dX5_first_43 1 rfl ?_
      refine gg_iload C dX5_first_45 0 rfl ?_
      refine gg_icmp_le C dX5_first_47 (tgt := 53) (by decide) (fun _ => ?_) (fun _ => ?_)
      · refine gg_iinc C dX5_first_53 (j := 6) rfl (v := y4 + 1) (by first | rfl | decide) hn (by decide) (lv' := [(4, .int (y4 + 1)), (6, .int x6), (5, .int x3), (0, .int y0), (1, .int y1), (2, .int y2), (3, .int y3)]) rfl ?_
        refine gg_goto C dX5_first_56 (tgt := 5) (by decide) ?_
        refine gg_sub [3, 4, 5, 6, 0] rfl ?_
        exact ih y3 (y4 + 1)
      · refine gg_iload C dX5_first_50 6 rfl ?_
        refine gg_istore_n C dX5_first_52 rfl hn (by decide) (lv' := [(3, .int y4), (6, .int x6), (5, .int x3), (0, .int y0), (1, .int y1), (2, .int y2), (4, .int y4)]) rfl ?_
        refine gg_iinc C dX5_first_53 (j := 6) rfl (v := y4 + 1) (by first | rfl | decide) hn (by decide) (lv' := [(4, .int (y4 + 1)), (3, .int y4), (6, .int x6), (5, .int x3), (0, .int y0), (1, .int y1), (2, .int y2)]) rfl ?_
        refine gg_goto C dX5_first_56 (tgt := 5) (by decide) ?_
        refine gg_sub [4, 5, 6, 1, 0] rfl ?_
        exact ih y4 (y4 + 1)
def f_X5_first (v0 : Int32) (v1 : Int32) (v2 : Int32) : Option (Int32) := jn (α := Int32 × Int32) (f_X5_first_L5 v0 v1 v2 100 0 1) (fun z7 => some z7.1)
set_option maxHeartbeats 4000000 in
set_option maxRecDepth 100000 in
theorem c_X5_first (l : Launch) (D : va_G) (T : Nat → ClassId)   (v0 : Int32) (v1 : Int32) (v2 : Int32) (r : Int32) (h : f_X5_first v0 v1 v2 = some r) : Kt l D T yX5_first cX5_first 7 (some .int) (2, 0, 0, 45) [.int v0, .int v1, .int v2] ([]) (FF (fun (r : Int32) => some (.int r)) (fun r => []) r) := by
  refine kt_of (own := RX5) (nm := "first") (lv := [(0, .int v0), (1, .int v1), (2, .int v2)]) (by decide) rfl rfl rfl (Nat.le_of_ble_eq_true rfl) h (fun X hn C M => ?_)
  have hnn : ((0, 0) : Nat × Nat).1 ≤ 0 ∧ ((0, 0) : Nat × Nat).2 ≤ 0 := ⟨Nat.le_refl 0, Nat.le_refl 0⟩
  unfold f_X5_first
  refine gg_iconst C dX5_first_0 kI_0 ?_
  refine gg_istore_n C dX5_first_1 rfl hn (by decide) (lv' := [(3, .int 0), (0, .int v0), (1, .int v1), (2, .int v2)]) rfl ?_
  refine gg_iconst C dX5_first_2 kI_1 ?_
  refine gg_istore C dX5_first_3 hn (by decide) (lv' := [(4, .int 1), (3, .int 0), (0, .int v0), (1, .int v1), (2, .int v2)]) rfl ?_
  refine gg_join (α := Int32 × Int32) 59 (fun z7 => []) (fun z7 => [(0, .int v0), (1, .int v1), (2, .int v2), (3, .int z7.1), (4, .int z7.2)]) (fun z7 => []) (fun z7 => ?_) (fun K8 => ?_)
  · refine gg_iload_n C dX5_first_59 rfl 3 rfl ?_
    exact gg_iret C M dX5_first_60 ⟨rfl, rfl⟩
  · refine gg_sub [2, 3, 4, 1, 0] rfl ?_
    exact g_X5_first_L5 C hnn hn  v0 v1 v2 K8 100 0 1
