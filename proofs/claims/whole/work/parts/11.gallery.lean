def f_X0_chosenBits_L4 (q_c : Nat → Int32) : Nat → Int32 → Int32 → Option (Int32 × Int32)
  | 0, _, _ => none
  | nn + 1, y1, y2 => if 6 ≤ y2 then some (y1, y2) else gu y2 6 (if q_c y2.toNatClampNeg = (-6) then f_X0_chosenBits_L4 q_c nn y1 (y2 + 1) else bi (y1 ||| ((1 : Int32) <<< (y2 &&& 31))) (fun x1 => f_X0_chosenBits_L4 q_c nn x1 (y2 + 1)))
set_option maxHeartbeats 4000000 in
set_option maxRecDepth 100000 in
theorem g_X0_chosenBits_L4 {X : KX} {D : va_G} {T : Nat → ClassId} {Q : Int32 × Int32 → State → Prop} {n : Nat × Nat} (C : Cx X D T cX0_chosenBits RX0 { frames := 0, cells := 0, slots := 0, locals := 0 }) (hnn : n.1 ≤ 0 ∧ n.2 ≤ 0) (hn : kxL X = 3) (a : Nat → Nat)  (q_b : Nat → Int32) (q_n : Nat → Int32) (q_o : Nat → Int32) (q_s : Nat → Int32) (q_k : Nat → Int32) (q_h : Nat → Int32) (q_c : Nat → Int32) (q_m : Int32) (hk : ∀ v : Int32 × Int32, GG X D Q n (wG T a q_b q_n q_o q_s q_k q_h q_c q_m) [(0, .ref (a 0)), (1, .int v.1), (2, .int v.2)] 33 [] (some (v))) : ∀ (nn : Nat) (y1 : Int32) (y2 : Int32), GG X D Q n (wG T a q_b q_n q_o q_s q_k q_h q_c q_m) [(0, .ref (a 0)), (1, .int y1), (2, .int y2)] 4 [] (f_X0_chosenBits_L4 q_c nn y1 y2) := by
  intro nn
  induction nn with
  | zero => intros; exact gg_none
  | succ nn ih =>
    intro y1 y2
    unfold f_X0_chosenBits_L4
    refine gg_iload_n C dX0_chosenBits_4 rfl 2 rfl ?_
    refine gg_bipush C dX0_chosenBits_5 kB_6 ?_
    refine gg_icmp_ge C dX0_chosenBits_7 (tgt := 33) (by decide) (fun _ => ?_) (fun _ => ?_)
    · refine gg_sub [0, 1, 2] rfl ?_
      exact hk (y1, y2)
    · refine gg_aload_n C dX0_chosenBits_10 rfl 0 rfl ?_
      refine gf_X0_30 C 0 rfl rfl dX0_chosenBits_11 ?_
      refine gg_iload_n C dX0_chosenBits_14 rfl 2 rfl ?_
      refine gg_iald C 7 rfl dX0_chosenBits_15 ?_
      refine gg_bipush C dX0_chosenBits_16 kB_m6 ?_
      refine gg_icmp_eq C dX0_chosenBits_18 (tgt := 27) (by decide) (fun _ => ?_) (fun _ => ?_)
      · refine gg_iinc C dX0_chosenBits_27 (j := 2) rfl (v := y2 + 1) (by first | rfl | decide) hn (by decide) (lv' := [(2, .int (y2 + 1)), (0, .ref (a 0)), (1, .int y1)]) rfl ?_
        refine gg_goto C dX0_chosenBits_30 (tgt := 4) (by decide) ?_
        refine gg_sub [1, 2, 0] rfl ?_
        exact ih y1 (y2 + 1)
      · refine gg_iload_n C dX0_chosenBits_21 rfl 1 rfl ?_
        refine gg_iconst C dX0_chosenBits_22 kI_1 ?_
        refine gg_iload_n C dX0_chosenBits_23 rfl 2 rfl ?_
        refine gg_ishl C dX0_chosenBits_24 ?_
        refine gg_ior C dX0_chosenBits_25 ?_
        refine gg_bi (fun x1 => ?_)
        refine gg_istore_n C dX0_chosenBits_26 rfl hn (by decide) (lv' := [(1, .int x1), (0, .ref (a 0)), (2, .int y2)]) rfl ?_
        refine gg_iinc C dX0_chosenBits_27 (j := 2) rfl (v := y2 + 1) (by first | rfl | decide) hn (by decide) (lv' := [(2, .int (y2 + 1)), (1, .int x1), (0, .ref (a 0))]) rfl ?_
        refine gg_goto C dX0_chosenBits_30 (tgt := 4) (by decide) ?_
        refine gg_sub [2, 1, 0] rfl ?_
        exact ih x1 (y2 + 1)
def f_X0_chosenBits (q_c : Nat → Int32) : Option (Int32) := jn (α := Int32 × Int32) (f_X0_chosenBits_L4 q_c 100 0 0) (fun z2 => some z2.1)
set_option maxHeartbeats 4000000 in
set_option maxRecDepth 100000 in
theorem c_X0_chosenBits (l : Launch) (D : va_G) (T : Nat → ClassId) (a : Nat → Nat) (q_b : Nat → Int32) (q_n : Nat → Int32) (q_o : Nat → Int32) (q_s : Nat → Int32) (q_k : Nat → Int32) (q_h : Nat → Int32) (q_c : Nat → Int32) (q_m : Int32) (r : Int32) (h : f_X0_chosenBits q_c = some r) : Kt l D T yX0_chosenBits cX0_chosenBits 3 (some .int) (0, 0, 0, 0) [.ref (a 0)] (wG T a q_b q_n q_o q_s q_k q_h q_c q_m) (FF (fun (r : Int32) => some (.int r)) (fun r => wG T a q_b q_n q_o q_s q_k q_h q_c q_m) r) := by
  refine kt_of (own := RX0) (nm := "chosenBits") (lv := [(0, .ref (a 0))]) (by decide) rfl rfl rfl (Nat.le_of_ble_eq_true rfl) h (fun X hn C M => ?_)
  have hnn : ((0, 0) : Nat × Nat).1 ≤ 0 ∧ ((0, 0) : Nat × Nat).2 ≤ 0 := ⟨Nat.le_refl 0, Nat.le_refl 0⟩
  unfold f_X0_chosenBits
  refine gg_iconst C dX0_chosenBits_0 kI_0 ?_
  refine gg_istore_n C dX0_chosenBits_1 rfl hn (by decide) (lv' := [(1, .int 0), (0, .ref (a 0))]) rfl ?_
  refine gg_iconst C dX0_chosenBits_2 kI_0 ?_
  refine gg_istore_n C dX0_chosenBits_3 rfl hn (by decide) (lv' := [(2, .int 0), (1, .int 0), (0, .ref (a 0))]) rfl ?_
  refine gg_join (α := Int32 × Int32) 33 (fun z2 => wG T a q_b q_n q_o q_s q_k q_h q_c q_m) (fun z2 => [(0, .ref (a 0)), (1, .int z2.1), (2, .int z2.2)]) (fun z2 => []) (fun z2 => ?_) (fun K3 => ?_)
  · refine gg_iload_n C dX0_chosenBits_33 rfl 1 rfl ?_
    exact gg_iret C M dX0_chosenBits_34 ⟨rfl, rfl⟩
  · refine gg_sub [2, 1, 0] rfl ?_
    exact g_X0_chosenBits_L4 C hnn hn a q_b q_n q_o q_s q_k q_h q_c q_m K3 100 0 0
def f_X0_nickCount_L4 (q_n : Nat → Int32) : Nat → Int32 → Int32 → Option (Int32 × Int32)
  | 0, _, _ => none
  | nn + 1, y1, y2 => if 40 ≤ y2 then some (y1, y2) else gu y2 40 (bi (y1 + (q_n y2.toNatClampNeg)) (fun x1 => f_X0_nickCount_L4 q_n nn x1 (y2 + 1)))
set_option maxHeartbeats 4000000 in
set_option maxRecDepth 100000 in
theorem g_X0_nickCount_L4 {X : KX} {D : va_G} {T : Nat → ClassId} {Q : Int32 × Int32 → State → Prop} {n : Nat × Nat} (C : Cx X D T cX0_nickCount RX0 { frames := 0, cells := 0, slots := 0, locals := 0 }) (hnn : n.1 ≤ 0 ∧ n.2 ≤ 0) (hn : kxL X = 3) (a : Nat → Nat)  (q_b : Nat → Int32) (q_n : Nat → Int32) (q_o : Nat → Int32) (q_s : Nat → Int32) (q_k : Nat → Int32) (q_h : Nat → Int32) (q_c : Nat → Int32) (q_m : Int32) (hk : ∀ v : Int32 × Int32, GG X D Q n (wG T a q_b q_n q_o q_s q_k q_h q_c q_m) [(0, .ref (a 0)), (1, .int v.1), (2, .int v.2)] 25 [] (some (v))) : ∀ (nn : Nat) (y1 : Int32) (y2 : Int32), GG X D Q n (wG T a q_b q_n q_o q_s q_k q_h q_c q_m) [(0, .ref (a 0)), (1, .int y1), (2, .int y2)] 4 [] (f_X0_nickCount_L4 q_n nn y1 y2) := by
  intro nn
  induction nn with
  | zero => intros; exact gg_none
  | succ nn ih =>
    intro y1 y2
    unfold f_X0_nickCount_L4
    refine gg_iload_n C dX0_nickCount_4 rfl 2 rfl ?_
    refine gg_bipush C dX0_nickCount_5 kB_40 ?_
    refine gg_icmp_ge C dX0_nickCount_7 (tgt := 25) (by decide) (fun _ => ?_) (fun _ => ?_)
    · refine gg_sub [0, 1, 2] rfl ?_
      exact hk (y1, y2)
    · refine gg_iload_n C dX0_nickCount_10 rfl 1 rfl ?_
      refine gg_aload_n C dX0_nickCount_11 rfl 0 rfl ?_
      refine gf_X0_15 C 0 rfl rfl dX0_nickCount_12 ?_
      refine gg_iload_n C dX0_nickCount_15 rfl 2 rfl ?_
      refine gg_iald C 2 rfl dX0_nickCount_16 ?_
      refine gg_iadd C dX0_nickCount_17 ?_
      refine gg_bi (fun x1 => ?_)
      refine gg_istore_n C dX0_nickCount_18 rfl hn (by decide) (lv' := [(1, .int x1), (0, .ref (a 0)), (2, .int y2)]) rfl ?_
      refine gg_iinc C dX0_nickCount_19 (j := 2) rfl (v := y2 + 1) (by first | rfl | decide) hn (by decide) (lv' := [(2, .int (y2 + 1)), (1, .int x1), (0, .ref (a 0))]) rfl ?_
      refine gg_goto C dX0_nickCount_22 (tgt := 4) (by decide) ?_
      refine gg_sub [2, 1, 0] rfl ?_
      exact ih x1 (y2 + 1)
def f_X0_nickCount (q_n : Nat → Int32) : Option (Int32) := jn (α := Int32 × Int32) (f_X0_nickCount_L4 q_n 100 0 0) (fun z2 => some z2.1)
set_option maxHeartbeats 4000000 in
set_option maxRecDepth 100000 in
theorem c_X0_nickCount (l : Launch) (D : va_G) (T : Nat → ClassId) (a : Nat → Nat) (q_b : Nat → Int32) (q_n : Nat → Int32) (q_o : Nat → Int32) (q_s : Nat → Int32) (q_k : Nat → Int32) (q_h : Nat → Int32) (q_c : Nat → Int32) (q_m : Int32) (r : Int32) (h : f_X0_nickCount q_n = some r) : Kt l D T yX0_nickCount cX0_nickCount 3 (some .int) (0, 0, 0, 0) [.ref (a 0)] (wG T a q_b q_n q_o q_s q_k q_h q_c q_m) (FF (fun (r : Int32) => some (.int r)) (fun r => wG T a q_b q_n q_o q_s q_k q_h q_c q_m) r) := by
  refine kt_of (own := RX0) (nm := "nickCount") (lv := [(0, .ref (a 0))]) (by decide) rfl rfl rfl (Nat.le_of_ble_eq_true rfl) h (fun X hn C M => ?_)
  have hnn : ((0, 0) : Nat × Nat).1 ≤ 0 ∧ ((0, 0) : Nat × Nat).2 ≤ 0 := ⟨Nat.le_refl 0, Nat.le_refl 0⟩
  unfold f_X0_nickCount
  refine gg_iconst C dX0_nickCount_0 kI_0 ?_
  refine gg_istore_n C dX0_nickCount_1 rfl hn (by decide) (lv' := [(1, .int 0), (0, .ref (a 0))]) rfl ?_
  refine gg_iconst C dX0_nickCount_2 kI_0 ?_
  refine gg_istore_n C dX0_nickCount_3 rfl hn (by decide) (lv' := [(2, .int 0), (1, .int 0), (0, .ref (a 0))]) rfl ?_
  refine gg_join (α := Int32 × Int32) 25 (fun z2 => wG T a q_b q_n q_o q_s q_k q_h q_c q_m) (fun z2 => [(0, .ref (a 0)), (1, .int z2.1), (2, .int z2.2)]) (fun z2 => []) (fun z2 => ?_) (fun K3 => ?_)
  · refine gg_iload_n C dX0_nickCount_25 rfl 1 rfl ?_
    exact gg_iret C M dX0_nickCount_26 ⟨rfl, rfl⟩
  · refine gg_sub [2, 1, 0] rfl ?_
    exact g_X0_nickCount_L4 C hnn hn a q_b q_n q_o q_s q_k q_h q_c q_m K3 100 0 0
def f_X0_isChosen_L2 (y1 : Int32) (q_c : Nat → Int32) : Nat → Int32 → Option ((Int32) ⊕ (Int32))
  | 0, _ => none
  | nn + 1, y2 => if 6 ≤ y2 then some (.inl y2) else gu y2 6 (if q_c y2.toNatClampNeg = y1 then some (.inr 1) else f_X0_isChosen_L2 y1 q_c nn (y2 + 1))
set_option maxHeartbeats 4000000 in
set_option maxRecDepth 100000 in
theorem g_X0_isChosen_L2 {X : KX} {D : va_G} {T : Nat → ClassId} {Q : (Int32) ⊕ (Int32) → State → Prop} {n : Nat × Nat} (C : Cx X D T cX0_isChosen RX0 { frames := 0, cells := 0, slots := 0, locals := 0 }) (hnn : n.1 ≤ 0 ∧ n.2 ≤ 0) (hn : kxL X = 3) (a : Nat → Nat)  (y1 : Int32) (q_b : Nat → Int32) (q_n : Nat → Int32) (q_o : Nat → Int32) (q_s : Nat → Int32) (q_k : Nat → Int32) (q_h : Nat → Int32) (q_c : Nat → Int32) (q_m : Int32) (hk : ∀ v : Int32, GG X D Q n (wG T a q_b q_n q_o q_s q_k q_h q_c q_m) [(0, .ref (a 0)), (1, .int y1), (2, .int v)] 26 [] (some (.inl v))) (hr0 : GG X D Q n (wG T a q_b q_n q_o q_s q_k q_h q_c q_m) [] 19 [.int 1] (some (.inr 1))) : ∀ (nn : Nat) (y2 : Int32), GG X D Q n (wG T a q_b q_n q_o q_s q_k q_h q_c q_m) [(0, .ref (a 0)), (1, .int y1), (2, .int y2)] 2 [] (f_X0_isChosen_L2 y1 q_c nn y2) := by
  intro nn
  induction nn with
  | zero => intros; exact gg_none
  | succ nn ih =>
    intro y2
    unfold f_X0_isChosen_L2
    refine gg_iload_n C dX0_isChosen_2 rfl 2 rfl ?_
    refine gg_bipush C dX0_isChosen_3 kB_6 ?_
    refine gg_icmp_ge C dX0_isChosen_5 (tgt := 26) (by decide) (fun _ => ?_) (fun _ => ?_)
    · refine gg_sub [0, 1, 2] rfl ?_
      exact hk y2
    · refine gg_aload_n C dX0_isChosen_8 rfl 0 rfl ?_
      refine gf_X0_30 C 0 rfl rfl dX0_isChosen_9 ?_
      refine gg_iload_n C dX0_isChosen_12 rfl 2 rfl ?_
      refine gg_iald C 7 rfl dX0_isChosen_13 ?_
      refine gg_iload_n C dX0_isChosen_14 rfl 1 rfl ?_
      refine gg_icmp_ne C dX0_isChosen_15 (tgt := 20) (by decide) (fun _ => ?_) (fun _ => ?_)
      · refine gg_iinc C dX0_isChosen_20 (j := 2) rfl (v := y2 + 1) (by first | rfl | decide) hn (by decide) (lv' := [(2, .int (y2 + 1)), (0, .ref (a 0)), (1, .int y1)]) rfl ?_
        refine gg_goto C dX0_isChosen_23 (tgt := 2) (by decide) ?_
        refine gg_sub [1, 2, 0] rfl ?_
        exact ih (y2 + 1)
      · refine gg_iconst C dX0_isChosen_18 kI_1 ?_
        refine gg_sub [] rfl ?_
        exact hr0
def f_X0_isChosen (q_c : Nat → Int32) (v1 : Int32) : Option (Int32) := jn (f_X0_isChosen_L2 v1 q_c 100 0) (Sum.elim (fun z1 => some 0) some)
set_option maxHeartbeats 4000000 in
set_option maxRecDepth 100000 in
theorem c_X0_isChosen (l : Launch) (D : va_G) (T : Nat → ClassId) (a : Nat → Nat) (q_b : Nat → Int32) (q_n : Nat → Int32) (q_o : Nat → Int32) (q_s : Nat → Int32) (q_k : Nat → Int32) (q_h : Nat → Int32) (q_c : Nat → Int32) (q_m : Int32) (v1 : Int32) (r : Int32) (h : f_X0_isChosen q_c v1 = some r) : Kt l D T yX0_isChosen cX0_isChosen 3 (some .boolean) (0, 0, 0, 0) [.ref (a 0), .int v1] (wG T a q_b q_n q_o q_s q_k q_h q_c q_m) (FF (fun (r : Int32) => some (.int r)) (fun r => wG T a q_b q_n q_o q_s q_k q_h q_c q_m) r) := by
  refine kt_of (own := RX0) (nm := "isChosen") (lv := [(0, .ref (a 0)), (1, .int v1)]) (by decide) rfl rfl rfl (Nat.le_of_ble_eq_true rfl) h (fun X hn C M => ?_)
  have hnn : ((0, 0) : Nat × Nat).1 ≤ 0 ∧ ((0, 0) : Nat × Nat).2 ≤ 0 := ⟨Nat.le_refl 0, Nat.le_refl 0⟩
  unfold f_X0_isChosen
  refine gg_iconst C dX0_isChosen_0 kI_0 ?_
  refine gg_istore_n C dX0_isChosen_1 rfl hn (by decide) (lv' := [(2, .int 0), (0, .ref (a 0)), (1, .int v1)]) rfl ?_
  refine gg_jn ?_
  refine gg_sub [1, 2, 0] rfl ?_
  refine g_X0_isChosen_L2 C hnn hn a v1 q_b q_n q_o q_s q_k q_h q_c q_m (fun z1 => gg_leafL ?_) (gg_leafR ?_) 100 0
  · refine gg_iconst C dX0_isChosen_26 kI_0 ?_
    exact gg_zret C M dX0_isChosen_27 rfl ⟨rfl, rfl⟩
  · exact gg_zret C M dX0_isChosen_19 rfl ⟨rfl, rfl⟩
def f_X0_isStanding (q_s : Nat → Int32) (v1 : Int32) : Option (Int32) := jn (f_X8_isHeir v1) (fun r1 => if r1 = 0 then some 0 else gu v1 6 (jn (f_X8_isPlace (q_s v1.toNatClampNeg)) (fun r2 => if r2 = 0 then some 0 else some 1)))
set_option maxHeartbeats 4000000 in
set_option maxRecDepth 100000 in
theorem c_X0_isStanding (l : Launch) (D : va_G) (T : Nat → ClassId) (a : Nat → Nat) (q_b : Nat → Int32) (q_n : Nat → Int32) (q_o : Nat → Int32) (q_s : Nat → Int32) (q_k : Nat → Int32) (q_h : Nat → Int32) (q_c : Nat → Int32) (q_m : Int32) (v1 : Int32) (r : Int32) (h : f_X0_isStanding q_s v1 = some r) : Kt l D T yX0_isStanding cX0_isStanding 2 (some .boolean) (1, 0, 0, 20) [.ref (a 0), .int v1] (wG T a q_b q_n q_o q_s q_k q_h q_c q_m) (FF (fun (r : Int32) => some (.int r)) (fun r => wG T a q_b q_n q_o q_s q_k q_h q_c q_m) r) := by
  refine kt_of (own := RX0) (nm := "isStanding") (lv := [(0, .ref (a 0)), (1, .int v1)]) (by decide) rfl rfl rfl (Nat.le_of_ble_eq_true rfl) h (fun X hn C M => ?_)
  have hnn : ((0, 0) : Nat × Nat).1 ≤ 0 ∧ ((0, 0) : Nat × Nat).2 ≤ 0 := ⟨Nat.le_refl 0, Nat.le_refl 0⟩
  unfold f_X0_isStanding
  refine gg_iload_n C dX0_isStanding_0 rfl 1 rfl ?_
  refine gg_callN C (fun l r h => c_X8_isHeir l D T v1 r h) lk_X0_47 ⟨by decide, by decide⟩ hnn rfl (rest := []) rfl (Nat.le_of_ble_eq_true rfl) dX0_isStanding_1 cut_none (st2 := fun r1 => [.int r1]) (fun _ => rfl) (fun r1 => ?_)
  refine gg_if_eq C dX0_isStanding_4 (tgt := 23) (by decide) (fun _ => ?_) (fun _ => ?_)
  · refine gg_iconst C dX0_isStanding_23 kI_0 ?_
    exact gg_zret C M dX0_isStanding_24 rfl ⟨rfl, rfl⟩
  · refine gg_aload_n C dX0_isStanding_7 rfl 0 rfl ?_
    refine gf_X0_21 C 0 rfl rfl dX0_isStanding_8 ?_
    refine gg_iload_n C dX0_isStanding_11 rfl 1 rfl ?_
    refine gg_iald C 4 rfl dX0_isStanding_12 ?_
    refine gg_callN C (fun l r h => c_X8_isPlace l D T (q_s v1.toNatClampNeg) r h) lk_X0_43 ⟨by decide, by decide⟩ hnn rfl (rest := []) rfl (Nat.le_of_ble_eq_true rfl) dX0_isStanding_13 cut_none (st2 := fun r2 => [.int r2]) (fun _ => rfl) (fun r2 => ?_)
    refine gg_if_eq C dX0_isStanding_16 (tgt := 23) (by decide) (fun _ => ?_) (fun _ => ?_)
    · refine gg_iconst C dX0_isStanding_23 kI_0 ?_
      exact gg_zret C M dX0_isStanding_24 rfl ⟨rfl, rfl⟩
    · refine gg_iconst C dX0_isStanding_19 kI_1 ?_
      refine gg_goto C dX0_isStanding_20 (tgt := 24) (by decide) ?_
      exact gg_zret C M dX0_isStanding_24 rfl ⟨rfl, rfl⟩
def f_X0_hasNick (q_n : Nat → Int32) (v1 : Int32) : Option (Int32) := jn (f_X8_isPlace v1) (fun r1 => if r1 = 0 then some 0 else gu v1 40 (if q_n v1.toNatClampNeg = 1 then some 1 else some 0))
set_option maxHeartbeats 4000000 in
set_option maxRecDepth 100000 in
theorem c_X0_hasNick (l : Launch) (D : va_G) (T : Nat → ClassId) (a : Nat → Nat) (q_b : Nat → Int32) (q_n : Nat → Int32) (q_o : Nat → Int32) (q_s : Nat → Int32) (q_k : Nat → Int32) (q_h : Nat → Int32) (q_c : Nat → Int32) (q_m : Int32) (v1 : Int32) (r : Int32) (h : f_X0_hasNick q_n v1 = some r) : Kt l D T yX0_hasNick cX0_hasNick 2 (some .boolean) (1, 0, 0, 20) [.ref (a 0), .int v1] (wG T a q_b q_n q_o q_s q_k q_h q_c q_m) (FF (fun (r : Int32) => some (.int r)) (fun r => wG T a q_b q_n q_o q_s q_k q_h q_c q_m) r) := by
  refine kt_of (own := RX0) (nm := "hasNick") (lv := [(0, .ref (a 0)), (1, .int v1)]) (by decide) rfl rfl rfl (Nat.le_of_ble_eq_true rfl) h (fun X hn C M => ?_)
  have hnn : ((0, 0) : Nat × Nat).1 ≤ 0 ∧ ((0, 0) : Nat × Nat).2 ≤ 0 := ⟨Nat.le_refl 0, Nat.le_refl 0⟩
  unfold f_X0_hasNick
  refine gg_iload_n C dX0_hasNick_0 rfl 1 rfl ?_
  refine gg_callN C (fun l r h => c_X8_isPlace l D T v1 r h) lk_X0_43 ⟨by decide, by decide⟩ hnn rfl (rest := []) rfl (Nat.le_of_ble_eq_true rfl) dX0_hasNick_1 cut_none (st2 := fun r1 => [.int r1]) (fun _ => rfl) (fun r1 => ?_)
  refine gg_if_eq C dX0_hasNick_4 (tgt := 21) (by decide) (fun _ => ?_) (fun _ => ?_)
  · refine gg_iconst C dX0_hasNick_21 kI_0 ?_
    exact gg_zret C M dX0_hasNick_22 rfl ⟨rfl, rfl⟩
  · refine gg_aload_n C dX0_hasNick_7 rfl 0 rfl ?_
    refine gf_X0_15 C 0 rfl rfl dX0_hasNick_8 ?_
    refine gg_iload_n C dX0_hasNick_11 rfl 1 rfl ?_
    refine gg_iald C 2 rfl dX0_hasNick_12 ?_
    refine gg_iconst C dX0_hasNick_13 kI_1 ?_
    refine gg_icmp_ne C dX0_hasNick_14 (tgt := 21) (by decide) (fun _ => ?_) (fun _ => ?_)
    · refine gg_iconst C dX0_hasNick_21 kI_0 ?_
      exact gg_zret C M dX0_hasNick_22 rfl ⟨rfl, rfl⟩
    · refine gg_iconst C dX0_hasNick_17 kI_1 ?_
      refine gg_goto C dX0_hasNick_18 (tgt := 22) (by decide) ?_
      exact gg_zret C M dX0_hasNick_22 rfl ⟨rfl, rfl⟩
def f_X0_standsAtOwn (q_o : Nat → Int32) (q_s : Nat → Int32) (v1 : Int32) : Option (Int32) := jn (f_X0_isStanding q_s v1) (fun r1 => if r1 = 0 then some 0 else gu v1 6 (gu (q_s v1.toNatClampNeg) 40 (if q_o (q_s v1.toNatClampNeg).toNatClampNeg = v1 then some 1 else some 0)))
set_option maxHeartbeats 4000000 in
set_option maxRecDepth 100000 in
theorem c_X0_standsAtOwn (l : Launch) (D : va_G) (T : Nat → ClassId) (a : Nat → Nat) (q_b : Nat → Int32) (q_n : Nat → Int32) (q_o : Nat → Int32) (q_s : Nat → Int32) (q_k : Nat → Int32) (q_h : Nat → Int32) (q_c : Nat → Int32) (q_m : Int32) (v1 : Int32) (r : Int32) (h : f_X0_standsAtOwn q_o q_s v1 = some r) : Kt l D T yX0_standsAtOwn cX0_standsAtOwn 2 (some .boolean) (2, 0, 0, 41) [.ref (a 0), .int v1] (wG T a q_b q_n q_o q_s q_k q_h q_c q_m) (FF (fun (r : Int32) => some (.int r)) (fun r => wG T a q_b q_n q_o q_s q_k q_h q_c q_m) r) := by
  refine kt_of (own := RX0) (nm := "standsAtOwn") (lv := [(0, .ref (a 0)), (1, .int v1)]) (by decide) rfl rfl rfl (Nat.le_of_ble_eq_true rfl) h (fun X hn C M => ?_)
  have hnn : ((0, 0) : Nat × Nat).1 ≤ 0 ∧ ((0, 0) : Nat × Nat).2 ≤ 0 := ⟨Nat.le_refl 0, Nat.le_refl 0⟩
  unfold f_X0_standsAtOwn
  refine gg_aload_n C dX0_standsAtOwn_0 rfl 0 rfl ?_
  refine gg_iload_n C dX0_standsAtOwn_1 rfl 1 rfl ?_
  refine gg_callV C (fun l r h => c_X0_isStanding l D T a q_b q_n q_o q_s q_k q_h q_c q_m v1 r h) lk_X0_50 ⟨by decide, by decide⟩ hnn rfl (rest := []) rfl (Nat.le_of_ble_eq_true rfl) 0 rfl rfl dX0_standsAtOwn_2 (ws2 := fun r1 => wG T a q_b q_n q_o q_s q_k q_h q_c q_m) (cut_full (fun _ => rfl)) (st2 := fun r1 => [.int r1]) (fun _ => rfl) (fun r1 => ?_)
  refine gg_if_eq C dX0_standsAtOwn_5 (tgt := 27) (by decide) (fun _ => ?_) (fun _ => ?_)
  · refine gg_iconst C dX0_standsAtOwn_27 kI_0 ?_
    exact gg_zret C M dX0_standsAtOwn_28 rfl ⟨rfl, rfl⟩
  · refine gg_aload_n C dX0_standsAtOwn_8 rfl 0 rfl ?_
    refine gf_X0_18 C 0 rfl rfl dX0_standsAtOwn_9 ?_
    refine gg_aload_n C dX0_standsAtOwn_12 rfl 0 rfl ?_
    refine gf_X0_21 C 0 rfl rfl dX0_standsAtOwn_13 ?_
    refine gg_iload_n C dX0_standsAtOwn_16 rfl 1 rfl ?_
    refine gg_iald C 4 rfl dX0_standsAtOwn_17 ?_
    refine gg_iald C 3 rfl dX0_standsAtOwn_18 ?_
    refine gg_iload_n C dX0_standsAtOwn_19 rfl 1 rfl ?_
    refine gg_icmp_ne C dX0_standsAtOwn_20 (tgt := 27) (by decide) (fun _ => ?_) (fun _ => ?_)
    · refine gg_iconst C dX0_standsAtOwn_27 kI_0 ?_
      exact gg_zret C M dX0_standsAtOwn_28 rfl ⟨rfl, rfl⟩
    · refine gg_iconst C dX0_standsAtOwn_23 kI_1 ?_
      refine gg_goto C dX0_standsAtOwn_24 (tgt := 28) (by decide) ?_
      exact gg_zret C M dX0_standsAtOwn_28 rfl ⟨rfl, rfl⟩
def f_X0_hearsOwnBeat (q_b : Nat → Int32) (q_s : Nat → Int32) (q_k : Nat → Int32) (v1 : Int32) : Option (Int32) := jn (f_X0_isStanding q_s v1) (fun r1 => if r1 = 0 then some 0 else gu v1 6 (gu (q_s v1.toNatClampNeg) 40 (gu v1 6 (if q_b (q_s v1.toNatClampNeg).toNatClampNeg = q_k v1.toNatClampNeg then some 1 else some 0))))
set_option maxHeartbeats 4000000 in
set_option maxRecDepth 100000 in
theorem c_X0_hearsOwnBeat (l : Launch) (D : va_G) (T : Nat → ClassId) (a : Nat → Nat) (q_b : Nat → Int32) (q_n : Nat → Int32) (q_o : Nat → Int32) (q_s : Nat → Int32) (q_k : Nat → Int32) (q_h : Nat → Int32) (q_c : Nat → Int32) (q_m : Int32) (v1 : Int32) (r : Int32) (h : f_X0_hearsOwnBeat q_b q_s q_k v1 = some r) : Kt l D T yX0_hearsOwnBeat cX0_hearsOwnBeat 2 (some .boolean) (2, 0, 0, 41) [.ref (a 0), .int v1] (wG T a q_b q_n q_o q_s q_k q_h q_c q_m) (FF (fun (r : Int32) => some (.int r)) (fun r => wG T a q_b q_n q_o q_s q_k q_h q_c q_m) r) := by
  refine kt_of (own := RX0) (nm := "hearsOwnBeat") (lv := [(0, .ref (a 0)), (1, .int v1)]) (by decide) rfl rfl rfl (Nat.le_of_ble_eq_true rfl) h (fun X hn C M => ?_)
  have hnn : ((0, 0) : Nat × Nat).1 ≤ 0 ∧ ((0, 0) : Nat × Nat).2 ≤ 0 := ⟨Nat.le_refl 0, Nat.le_refl 0⟩
  unfold f_X0_hearsOwnBeat
  refine gg_aload_n C dX0_hearsOwnBeat_0 rfl 0 rfl ?_
  refine gg_iload_n C dX0_hearsOwnBeat_1 rfl 1 rfl ?_
  refine gg_callV C (fun l r h => c_X0_isStanding l D T a q_b q_n q_o q_s q_k q_h q_c q_m v1 r h) lk_X0_50 ⟨by decide, by decide⟩ hnn rfl (rest := []) rfl (Nat.le_of_ble_eq_true rfl) 0 rfl rfl dX0_hearsOwnBeat_2 (ws2 := fun r1 => wG T a q_b q_n q_o q_s q_k q_h q_c q_m) (cut_full (fun _ => rfl)) (st2 := fun r1 => [.int r1]) (fun _ => rfl) (fun r1 => ?_)
  refine gg_if_eq C dX0_hearsOwnBeat_5 (tgt := 32) (by decide) (fun _ => ?_) (fun _ => ?_)
  · refine gg_iconst C dX0_hearsOwnBeat_32 kI_0 ?_
    exact gg_zret C M dX0_hearsOwnBeat_33 rfl ⟨rfl, rfl⟩
  · refine gg_aload_n C dX0_hearsOwnBeat_8 rfl 0 rfl ?_
    refine gf_X0_9 C 0 rfl rfl dX0_hearsOwnBeat_9 ?_
    refine gg_aload_n C dX0_hearsOwnBeat_12 rfl 0 rfl ?_
    refine gf_X0_21 C 0 rfl rfl dX0_hearsOwnBeat_13 ?_
    refine gg_iload_n C dX0_hearsOwnBeat_16 rfl 1 rfl ?_
    refine gg_iald C 4 rfl dX0_hearsOwnBeat_17 ?_
    refine gg_iald C 1 rfl dX0_hearsOwnBeat_18 ?_
    refine gg_aload_n C dX0_hearsOwnBeat_19 rfl 0 rfl ?_
    refine gf_X0_24 C 0 rfl rfl dX0_hearsOwnBeat_20 ?_
    refine gg_iload_n C dX0_hearsOwnBeat_23 rfl 1 rfl ?_
    refine gg_iald C 5 rfl dX0_hearsOwnBeat_24 ?_
    refine gg_icmp_ne C dX0_hearsOwnBeat_25 (tgt := 32) (by decide) (fun _ => ?_) (fun _ => ?_)
    · refine gg_iconst C dX0_hearsOwnBeat_32 kI_0 ?_
      exact gg_zret C M dX0_hearsOwnBeat_33 rfl ⟨rfl, rfl⟩
    · refine gg_iconst C dX0_hearsOwnBeat_28 kI_1 ?_
      refine gg_goto C dX0_hearsOwnBeat_29 (tgt := 33) (by decide) ?_
      exact gg_zret C M dX0_hearsOwnBeat_33 rfl ⟨rfl, rfl⟩
def f_X0_rightBits_L4 (q_o : Nat → Int32) (q_c : Nat → Int32) : Nat → Int32 → Int32 → Option (Int32 × Int32)
  | 0, _, _ => none
  | nn + 1, y1, y2 => if 6 ≤ y2 then some (y1, y2) else gu y2 6 (jn (f_X8_isPlace (q_c y2.toNatClampNeg)) (fun r1 => if r1 = 0 then f_X0_rightBits_L4 q_o q_c nn y1 (y2 + 1) else gu y2 6 (gu (q_c y2.toNatClampNeg) 40 (if q_o (q_c y2.toNatClampNeg).toNatClampNeg = y2 then bi (y1 ||| ((1 : Int32) <<< (y2 &&& 31))) (fun x2 => f_X0_rightBits_L4 q_o q_c nn x2 (y2 + 1)) else f_X0_rightBits_L4 q_o q_c nn y1 (y2 + 1)))))
set_option maxHeartbeats 4000000 in
set_option maxRecDepth 100000 in
theorem g_X0_rightBits_L4 {X : KX} {D : va_G} {T : Nat → ClassId} {Q : Int32 × Int32 → State → Prop} {n : Nat × Nat} (C : Cx X D T cX0_rightBits RX0 { frames := 1, cells := 0, slots := 0, locals := 20 }) (hnn : n.1 ≤ 0 ∧ n.2 ≤ 0) (hn : kxL X = 3) (a : Nat → Nat)  (q_b : Nat → Int32) (q_n : Nat → Int32) (q_o : Nat → Int32) (q_s : Nat → Int32) (q_k : Nat → Int32) (q_h : Nat → Int32) (q_c : Nat → Int32) (q_m : Int32) (hk : ∀ v : Int32 × Int32, GG X D Q n (wG T a q_b q_n q_o q_s q_k q_h q_c q_m) [(0, .ref (a 0)), (1, .int v.1), (2, .int v.2)] 49 [] (some (v))) : ∀ (nn : Nat) (y1 : Int32) (y2 : Int32), GG X D Q n (wG T a q_b q_n q_o q_s q_k q_h q_c q_m) [(0, .ref (a 0)), (1, .int y1), (2, .int y2)] 4 [] (f_X0_rightBits_L4 q_o q_c nn y1 y2) := by
  intro nn
  induction nn with
  | zero => intros; exact gg_none
  | succ nn ih =>
    intro y1 y2
    unfold f_X0_rightBits_L4
    refine gg_iload_n C dX0_rightBits_4 rfl 2 rfl ?_
    refine gg_bipush C dX0_rightBits_5 kB_6 ?_
    refine gg_icmp_ge C dX0_rightBits_7 (tgt := 49) (by decide) (fun _ => ?_) (fun _ => ?_)
    · refine gg_sub [0, 1, 2] rfl ?_
      exact hk (y1, y2)
    · refine gg_aload_n C dX0_rightBits_10 rfl 0 rfl ?_
      refine gf_X0_30 C 0 rfl rfl dX0_rightBits_11 ?_
      refine gg_iload_n C dX0_rightBits_14 rfl 2 rfl ?_
      refine gg_iald C 7 rfl dX0_rightBits_15 ?_
      refine gg_callN C (fun l r h => c_X8_isPlace l D T (q_c y2.toNatClampNeg) r h) lk_X0_43 ⟨by decide, by decide⟩ hnn rfl (rest := []) rfl (Nat.le_of_ble_eq_true rfl) dX0_rightBits_16 cut_none (st2 := fun r1 => [.int r1]) (fun _ => rfl) (fun r1 => ?_)
      refine gg_if_eq C dX0_rightBits_19 (tgt := 43) (by decide) (fun _ => ?_) (fun _ => ?_)
      · refine gg_iinc C dX0_rightBits_43 (j := 2) rfl (v := y2 + 1) (by first | rfl | decide) hn (by decide) (lv' := [(2, .int (y2 + 1)), (0, .ref (a 0)), (1, .int y1)]) rfl ?_
        refine gg_goto C dX0_rightBits_46 (tgt := 4) (by decide) ?_
        refine gg_sub [1, 2, 0] rfl ?_
        exact ih y1 (y2 + 1)
      · refine gg_aload_n C dX0_rightBits_22 rfl 0 rfl ?_
        refine gf_X0_18 C 0 rfl rfl dX0_rightBits_23 ?_
        refine gg_aload_n C dX0_rightBits_26 rfl 0 rfl ?_
        refine gf_X0_30 C 0 rfl rfl dX0_rightBits_27 ?_
        refine gg_iload_n C dX0_rightBits_30 rfl 2 rfl ?_
        refine gg_iald C 7 rfl dX0_rightBits_31 ?_
        refine gg_iald C 3 rfl dX0_rightBits_32 ?_
        refine gg_iload_n C dX0_rightBits_33 rfl 2 rfl ?_
        refine gg_icmp_ne C dX0_rightBits_34 (tgt := 43) (by decide) (fun _ => ?_) (fun _ => ?_)
        · refine gg_iinc C dX0_rightBits_43 (j := 2) rfl (v := y2 + 1) (by first | rfl | decide) hn (by decide) (lv' := [(2, .int (y2 + 1)), (0, .ref (a 0)), (1, .int y1)]) rfl ?_
          refine gg_goto C dX0_rightBits_46 (tgt := 4) (by decide) ?_
          refine gg_sub [1, 2, 0] rfl ?_
          exact ih y1 (y2 + 1)
        · refine gg_iload_n C dX0_rightBits_37 rfl 1 rfl ?_
          refine gg_iconst C dX0_rightBits_38 kI_1 ?_
          refine gg_iload_n C dX0_rightBits_39 rfl 2 rfl ?_
          refine gg_ishl C dX0_rightBits_40 ?_
          refine gg_ior C dX0_rightBits_41 ?_
          refine gg_bi (fun x2 => ?_)
          refine gg_istore_n C dX0_rightBits_42 rfl hn (by decide) (lv' := [(1, .int x2), (0, .ref (a 0)), (2, .int y2)]) rfl ?_
          refine gg_iinc C dX0_rightBits_43 (j := 2) rfl (v := y2 + 1) (by first | rfl | decide) hn (by decide) (lv' := [(2, .int (y2 + 1)), (1, .int x2), (0, .ref (a 0))]) rfl ?_
          refine gg_goto C dX0_rightBits_46 (tgt := 4) (by decide) ?_
          refine gg_sub [2, 1, 0] rfl ?_
          exact ih x2 (y2 + 1)
def f_X0_rightBits (q_o : Nat → Int32) (q_c : Nat → Int32) : Option (Int32) := jn (α := Int32 × Int32) (f_X0_rightBits_L4 q_o q_c 100 0 0) (fun z3 => some z3.1)
set_option maxHeartbeats 4000000 in
set_option maxRecDepth 100000 in
theorem c_X0_rightBits (l : Launch) (D : va_G) (T : Nat → ClassId) (a : Nat → Nat) (q_b : Nat → Int32) (q_n : Nat → Int32) (q_o : Nat → Int32) (q_s : Nat → Int32) (q_k : Nat → Int32) (q_h : Nat → Int32) (q_c : Nat → Int32) (q_m : Int32) (r : Int32) (h : f_X0_rightBits q_o q_c = some r) : Kt l D T yX0_rightBits cX0_rightBits 3 (some .int) (1, 0, 0, 20) [.ref (a 0)] (wG T a q_b q_n q_o q_s q_k q_h q_c q_m) (FF (fun (r : Int32) => some (.int r)) (fun r => wG T a q_b q_n q_o q_s q_k q_h q_c q_m) r) := by
  refine kt_of (own := RX0) (nm := "rightBits") (lv := [(0, .ref (a 0))]) (by decide) rfl rfl rfl (Nat.le_of_ble_eq_true rfl) h (fun X hn C M => ?_)
  have hnn : ((0, 0) : Nat × Nat).1 ≤ 0 ∧ ((0, 0) : Nat × Nat).2 ≤ 0 := ⟨Nat.le_refl 0, Nat.le_refl 0⟩
  unfold f_X0_rightBits
  refine gg_iconst C dX0_rightBits_0 kI_0 ?_
  refine gg_istore_n C dX0_rightBits_1 rfl hn (by decide) (lv' := [(1, .int 0), (0, .ref (a 0))]) rfl ?_
  refine gg_iconst C dX0_rightBits_2 kI_0 ?_
  refine gg_istore_n C dX0_rightBits_3 rfl hn (by decide) (lv' := [(2, .int 0), (1, .int 0), (0, .ref (a 0))]) rfl ?_
  refine gg_join (α := Int32 × Int32) 49 (fun z3 => wG T a q_b q_n q_o q_s q_k q_h q_c q_m) (fun z3 => [(0, .ref (a 0)), (1, .int z3.1), (2, .int z3.2)]) (fun z3 => []) (fun z3 => ?_) (fun K4 => ?_)
  · refine gg_iload_n C dX0_rightBits_49 rfl 1 rfl ?_
    exact gg_iret C M dX0_rightBits_50 ⟨rfl, rfl⟩
  · refine gg_sub [2, 1, 0] rfl ?_
    exact g_X0_rightBits_L4 C hnn hn a q_b q_n q_o q_s q_k q_h q_c q_m K4 100 0 0
def f_X0_bar (q_b : Nat → Int32) (q_s : Nat → Int32) (q_c : Nat → Int32) (q_m : Int32) (v1 : Int32) (v2 : Int32) (v3 : Int32) : Option (Int32) := if v2 = 46 then if q_m < 60 then some 0 else some 5 else jn (f_X0_isStanding q_s v1) (fun r1 => if r1 = 0 then some 2 else gu v1 6 (if q_c v1.toNatClampNeg = (-6) then gu v1 6 (bi (q_s v1.toNatClampNeg) (fun x2 => if v2 = 33 then jn (f_X0_isChosen q_c x2) (fun r4 => if r4 = 0 then some 0 else some 4) else (if v2 = 48 then gu x2 40 (if q_b x2.toNatClampNeg = v3 then some 3 else some 0) else (if v2 = 60 then jn (f_X8_isPlace (x2 - v3)) (fun r7 => if r7 = 0 then some 2 else some 0) else (if v2 = 62 then jn (f_X8_isPlace (x2 + v3)) (fun r9 => if r9 = 0 then some 2 else some 0) else (if v2 = 126 then jn (f_X8_isPlace (x2 + 1)) (fun r11 => if r11 = 0 then some 2 else some 0) else (some 0))))))) else some 1))
set_option maxHeartbeats 4000000 in
set_option maxRecDepth 100000 in
theorem c_X0_bar (l : Launch) (D : va_G) (T : Nat → ClassId) (a : Nat → Nat) (q_b : Nat → Int32) (q_n : Nat → Int32) (q_o : Nat → Int32) (q_s : Nat → Int32) (q_k : Nat → Int32) (q_h : Nat → Int32) (q_c : Nat → Int32) (q_m : Int32) (v1 : Int32) (v2 : Int32) (v3 : Int32) (r : Int32) (h : f_X0_bar q_b q_s q_c q_m v1 v2 v3 = some r) : Kt l D T yX0_bar cX0_bar 5 (some .int) (2, 0, 0, 41) [.ref (a 0), .int v1, .int v2, .int v3] (wG T a q_b q_n q_o q_s q_k q_h q_c q_m) (FF (fun (r : Int32) => some (.int r)) (fun r => wG T a q_b q_n q_o q_s q_k q_h q_c q_m) r) := by
  refine kt_of (own := RX0) (nm := "bar") (lv := [(0, .ref (a 0)), (1, .int v1), (2, .int v2), (3, .int v3)]) (by decide) rfl rfl rfl (Nat.le_of_ble_eq_true rfl) h (fun X hn C M => ?_)
  have hnn : ((0, 0) : Nat × Nat).1 ≤ 0 ∧ ((0, 0) : Nat × Nat).2 ≤ 0 := ⟨Nat.le_refl 0, Nat.le_refl 0⟩
  unfold f_X0_bar
  refine gg_iload_n C dX0_bar_0 rfl 2 rfl ?_
  refine gg_bipush C dX0_bar_1 kB_46 ?_
  refine gg_icmp_ne C dX0_bar_3 (tgt := 21) (by decide) (fun _ => ?_) (fun _ => ?_)
  · refine gg_aload_n C dX0_bar_21 rfl 0 rfl ?_
    refine gg_iload_n C dX0_bar_22 rfl 1 rfl ?_
    refine gg_callV C (fun l r h => c_X0_isStanding l D T a q_b q_n q_o q_s q_k q_h q_c q_m v1 r h) lk_X0_50 ⟨by decide, by decide⟩ hnn rfl (rest := []) rfl (Nat.le_of_ble_eq_true rfl) 0 rfl rfl dX0_bar_23 (ws2 := fun r1 => wG T a q_b q_n q_o q_s q_k q_h q_c q_m) (cut_full (fun _ => rfl)) (st2 := fun r1 => [.int r1]) (fun _ => rfl) (fun r1 => ?_)
    refine gg_if_ne C dX0_bar_26 (tgt := 31) (by decide) (fun _ => ?_) (fun _ => ?_)
    · refine gg_aload_n C dX0_bar_31 rfl 0 rfl ?_
      refine gf_X0_30 C 0 rfl rfl dX0_bar_32 ?_
      refine gg_iload_n C dX0_bar_35 rfl 1 rfl ?_
      refine gg_iald C 7 rfl dX0_bar_36 ?_
      refine gg_bipush C dX0_bar_37 kB_m6 ?_
      refine gg_icmp_eq C dX0_bar_39 (tgt := 44) (by decide) (fun _ => ?_) (fun _ => ?_)
      · refine gg_aload_n C dX0_bar_44 rfl 0 rfl ?_
        refine gf_X0_21 C 0 rfl rfl dX0_bar_45 ?_
        refine gg_iload_n C dX0_bar_48 rfl 1 rfl ?_
        refine gg_iald C 4 rfl dX0_bar_49 ?_
        refine gg_bi (fun x2 => ?_)
        refine gg_istore C dX0_bar_50 hn (by decide) (lv' := [(4, .int x2), (0, .ref (a 0)), (1, .int v1), (2, .int v2), (3, .int v3)]) rfl ?_
        refine gg_iload_n C dX0_bar_52 rfl 3 rfl ?_
        refine gg_ite (fun hs3 => ?_) (fun hs3 => ?_)
        · refine gg_look C dX0_bar_53 (by decide) (off := 116) (by rw [hs3]; decide) (tgt := 169) (by decide) ?_
          refine gg_aload_n C dX0_bar_169 rfl 1 rfl ?_
          refine gg_iload C dX0_bar_170 0 rfl ?_
          refine gg_callV C (fun l r h => c_X0_isChosen l D T a q_b q_n q_o q_s q_k q_h q_c q_m x2 r h) lk_X0_53 ⟨by decide, by decide⟩ hnn rfl (rest := []) rfl (Nat.le_of_ble_eq_true rfl) 0 rfl rfl dX0_bar_172 (ws2 := fun r4 => wG T a q_b q_n q_o q_s q_k q_h q_c q_m) (cut_full (fun _ => rfl)) (st2 := fun r4 => [.int r4]) (fun _ => rfl) (fun r4 => ?_)
          refine gg_if_eq C dX0_bar_175 (tgt := 182) (by decide) (fun _ => ?_) (fun _ => ?_)
          · refine gg_iconst C dX0_bar_182 kI_0 ?_
            exact gg_iret C M dX0_bar_183 ⟨rfl, rfl⟩
          · refine gg_iconst C dX0_bar_178 kI_4 ?_
            refine gg_goto C dX0_bar_179 (tgt := 183) (by decide) ?_
            exact gg_iret C M dX0_bar_183 ⟨rfl, rfl⟩
        refine gg_ite (fun hs5 => ?_) (fun hs5 => ?_)
        · refine gg_look C dX0_bar_53 (by decide) (off := 99) (by rw [hs5]; decide) (tgt := 152) (by decide) ?_
          refine gg_aload_n C dX0_bar_152 rfl 1 rfl ?_
          refine gf_X0_9 C 0 rfl rfl dX0_bar_153 ?_
          refine gg_iload C dX0_bar_156 0 rfl ?_
          refine gg_iald C 1 rfl dX0_bar_158 ?_
          refine gg_iload_n C dX0_bar_159 rfl 4 rfl ?_
          refine gg_icmp_ne C dX0_bar_160 (tgt := 167) (by decide) (fun _ => ?_) (fun _ => ?_)
          · refine gg_iconst C dX0_bar_167 kI_0 ?_
            exact gg_iret C M dX0_bar_168 ⟨rfl, rfl⟩
          · refine gg_iconst C dX0_bar_163 kI_3 ?_
            refine gg_goto C dX0_bar_164 (tgt := 168) (by decide) ?_
            exact gg_iret C M dX0_bar_168 ⟨rfl, rfl⟩
        refine gg_ite (fun hs6 => ?_) (fun hs6 => ?_)
        · refine gg_look C dX0_bar_53 (by decide) (off := 67) (by rw [hs6]; decide) (tgt := 120) (by decide) ?_
          refine gg_iload C dX0_bar_120 0 rfl ?_
          refine gg_iload_n C dX0_bar_122 rfl 4 rfl ?_
          refine gg_isub C dX0_bar_123 ?_
          refine gg_callN C (fun l r h => c_X8_isPlace l D T (x2 - v3) r h) lk_X0_43 ⟨by decide, by decide⟩ hnn rfl (rest := []) rfl (Nat.le_of_ble_eq_true rfl) dX0_bar_124 cut_none (st2 := fun r7 => [.int r7]) (fun _ => rfl) (fun r7 => ?_)
          refine gg_if_eq C dX0_bar_127 (tgt := 134) (by decide) (fun _ => ?_) (fun _ => ?_)
          · refine gg_iconst C dX0_bar_134 kI_2 ?_
            exact gg_iret C M dX0_bar_135 ⟨rfl, rfl⟩
          · refine gg_iconst C dX0_bar_130 kI_0 ?_
            refine gg_goto C dX0_bar_131 (tgt := 135) (by decide) ?_
            exact gg_iret C M dX0_bar_135 ⟨rfl, rfl⟩
        refine gg_ite (fun hs8 => ?_) (fun hs8 => ?_)
        · refine gg_look C dX0_bar_53 (by decide) (off := 51) (by rw [hs8]; decide) (tgt := 104) (by decide) ?_
          refine gg_iload C dX0_bar_104 0 rfl ?_
          refine gg_iload_n C dX0_bar_106 rfl 4 rfl ?_
          refine gg_iadd C dX0_bar_107 ?_
          refine gg_callN C (fun l r h => c_X8_isPlace l D T (x2 + v3) r h) lk_X0_43 ⟨by decide, by decide⟩ hnn rfl (rest := []) rfl (Nat.le_of_ble_eq_true rfl) dX0_bar_108 cut_none (st2 := fun r9 => [.int r9]) (fun _ => rfl) (fun r9 => ?_)
          refine gg_if_eq C dX0_bar_111 (tgt := 118) (by decide) (fun _ => ?_) (fun _ => ?_)
          · refine gg_iconst C dX0_bar_118 kI_2 ?_
            exact gg_iret C M dX0_bar_119 ⟨rfl, rfl⟩
          · refine gg_iconst C dX0_bar_114 kI_0 ?_
            refine gg_goto C dX0_bar_115 (tgt := 119) (by decide) ?_
            exact gg_iret C M dX0_bar_119 ⟨rfl, rfl⟩
        refine gg_ite (fun hs10 => ?_) (fun hs10 => ?_)
        · refine gg_look C dX0_bar_53 (by decide) (off := 83) (by rw [hs10]; decide) (tgt := 136) (by decide) ?_
          refine gg_iload C dX0_bar_136 0 rfl ?_
          refine gg_iconst C dX0_bar_138 kI_1 ?_
          refine gg_iadd C dX0_bar_139 ?_
          refine gg_callN C (fun l r h => c_X8_isPlace l D T (x2 + 1) r h) lk_X0_43 ⟨by decide, by decide⟩ hnn rfl (rest := []) rfl (Nat.le_of_ble_eq_true rfl) dX0_bar_140 cut_none (st2 := fun r11 => [.int r11]) (fun _ => rfl) (fun r11 => ?_)
          refine gg_if_eq C dX0_bar_143 (tgt := 150) (by decide) (fun _ => ?_) (fun _ => ?_)
          · refine gg_iconst C dX0_bar_150 kI_2 ?_
            exact gg_iret C M dX0_bar_151 ⟨rfl, rfl⟩
          · refine gg_iconst C dX0_bar_146 kI_0 ?_
            refine gg_goto C dX0_bar_147 (tgt := 151) (by decide) ?_
            exact gg_iret C M dX0_bar_151 ⟨rfl, rfl⟩
        refine gg_look C dX0_bar_53 (by decide) (off := 131) (by show Op.lookupswitch.offset ([(33, 116), (48, 99), (60, 67), (62, 51), (126, 83)] : List (Int × Int)) (131) _ = _; rw [lv_osw hs3 (by decide), lv_osw hs5 (by decide), lv_osw hs6 (by decide), lv_osw hs8 (by decide), lv_osw hs10 (by decide)]; rfl) (tgt := 184) (by decide) ?_
        refine gg_iconst C dX0_bar_184 kI_0 ?_
        exact gg_iret C M dX0_bar_185 ⟨rfl, rfl⟩
      · refine gg_iconst C dX0_bar_42 kI_1 ?_
        exact gg_iret C M dX0_bar_43 ⟨rfl, rfl⟩
    · refine gg_iconst C dX0_bar_29 kI_2 ?_
      exact gg_iret C M dX0_bar_30 ⟨rfl, rfl⟩
  · refine gg_aload_n C dX0_bar_6 rfl 0 rfl ?_
    refine gf_X0_39 C 0 rfl rfl dX0_bar_7 ?_
    refine gg_bipush C dX0_bar_10 kB_60 ?_
    refine gg_icmp_lt C dX0_bar_12 (tgt := 19) (by decide) (fun _ => ?_) (fun _ => ?_)
    · refine gg_iconst C dX0_bar_19 kI_0 ?_
      exact gg_iret C M dX0_bar_20 ⟨rfl, rfl⟩
    · refine gg_iconst C dX0_bar_15 kI_5 ?_
      refine gg_goto C dX0_bar_16 (tgt := 20) (by decide) ?_
      exact gg_iret C M dX0_bar_20 ⟨rfl, rfl⟩
def f_X0_swapWithNext (w_f : Nat → Int32) (v1 : Int32) : Option ((Nat → Int32)) := if v1 < 0 then some w_f else if v1 + 1 < 40 then gu v1 40 (bi (w_f v1.toNatClampNeg) (fun x1 => gu (v1 + 1) 40 (gu v1 40 (gu (v1 + 1) 40 (some (upd (upd w_f v1.toNatClampNeg (w_f (v1 + 1).toNatClampNeg)) (v1 + 1).toNatClampNeg x1)))))) else some w_f
set_option maxHeartbeats 4000000 in
set_option maxRecDepth 100000 in
theorem c_X0_swapWithNext (l : Launch) (D : va_G) (T : Nat → ClassId) (x : Nat) (w_f : Nat → Int32) (v1 : Int32) (r : (Nat → Int32)) (h : f_X0_swapWithNext w_f v1 = some r) : Kt l D T yX0_swapWithNext cX0_swapWithNext 3 none (0, 0, 0, 0) [.ref x, .int v1] (wA T x 40 w_f) (FF (fun (r : (Nat → Int32)) => none) (fun r => wA T x 40 r) r) := by
  refine kt_of (own := RX0) (nm := "swapWithNext") (lv := [(0, .ref x), (1, .int v1)]) (by decide) rfl rfl rfl (Nat.le_of_ble_eq_true rfl) h (fun X hn C M => ?_)
  have hnn : ((0, 0) : Nat × Nat).1 ≤ 0 ∧ ((0, 0) : Nat × Nat).2 ≤ 0 := ⟨Nat.le_refl 0, Nat.le_refl 0⟩
  unfold f_X0_swapWithNext
  refine gg_iload_n C dX0_swapWithNext_0 rfl 1 rfl ?_
  refine gg_if_lt C dX0_swapWithNext_1 (tgt := 12) (by decide) (fun _ => ?_) (fun _ => ?_)
  · exact gg_vret C M dX0_swapWithNext_12 ⟨rfl, rfl⟩
  · refine gg_iload_n C dX0_swapWithNext_4 rfl 1 rfl ?_
    refine gg_iconst C dX0_swapWithNext_5 kI_1 ?_
    refine gg_iadd C dX0_swapWithNext_6 ?_
    refine gg_aload_n C dX0_swapWithNext_7 rfl 0 rfl ?_
    refine gg_alen C 0 rfl (v := 40) (by decide) dX0_swapWithNext_8 ?_
    refine gg_icmp_lt C dX0_swapWithNext_9 (tgt := 13) (by decide) (fun _ => ?_) (fun _ => ?_)
    · refine gg_aload_n C dX0_swapWithNext_13 rfl 0 rfl ?_
      refine gg_iload_n C dX0_swapWithNext_14 rfl 1 rfl ?_
      refine gg_iald C 0 rfl dX0_swapWithNext_15 ?_
      refine gg_bi (fun x1 => ?_)
      refine gg_istore_n C dX0_swapWithNext_16 rfl hn (by decide) (lv' := [(2, .int x1), (0, .ref x), (1, .int v1)]) rfl ?_
      refine gg_aload_n C dX0_swapWithNext_17 rfl 1 rfl ?_
      refine gg_iload_n C dX0_swapWithNext_18 rfl 2 rfl ?_
      refine gg_aload_n C dX0_swapWithNext_19 rfl 1 rfl ?_
      refine gg_iload_n C dX0_swapWithNext_20 rfl 2 rfl ?_
      refine gg_iconst C dX0_swapWithNext_21 kI_1 ?_
      refine gg_iadd C dX0_swapWithNext_22 ?_
      refine gg_iald C 0 rfl dX0_swapWithNext_23 ?_
      refine gg_iast C 0 rfl dX0_swapWithNext_24 (ws' := wA T x 40 (upd w_f v1.toNatClampNeg (w_f (v1 + 1).toNatClampNeg))) rfl ?_
      refine gg_aload_n C dX0_swapWithNext_25 rfl 1 rfl ?_
      refine gg_iload_n C dX0_swapWithNext_26 rfl 2 rfl ?_
      refine gg_iconst C dX0_swapWithNext_27 kI_1 ?_
      refine gg_iadd C dX0_swapWithNext_28 ?_
      refine gg_iload_n C dX0_swapWithNext_29 rfl 0 rfl ?_
      refine gg_iast C 0 rfl dX0_swapWithNext_30 (ws' := wA T x 40 (upd (upd w_f v1.toNatClampNeg (w_f (v1 + 1).toNatClampNeg)) (v1 + 1).toNatClampNeg x1)) rfl ?_
      exact gg_vret C M dX0_swapWithNext_31 ⟨rfl, rfl⟩
    · exact gg_vret C M dX0_swapWithNext_12 ⟨rfl, rfl⟩
def f_X0_changeWithNext (q_b : Nat → Int32) (q_n : Nat → Int32) (q_o : Nat → Int32) (v1 : Int32) : Option ((Nat → Int32) × (Nat → Int32) × (Nat → Int32)) := jn (f_X0_swapWithNext q_b v1) (fun r1 => jn (f_X0_swapWithNext q_n v1) (fun r2 => jn (f_X0_swapWithNext q_o v1) (fun r3 => some (r1, r2, r3))))
set_option maxHeartbeats 4000000 in
set_option maxRecDepth 100000 in
theorem c_X0_changeWithNext (l : Launch) (D : va_G) (T : Nat → ClassId) (a : Nat → Nat) (q_b : Nat → Int32) (q_n : Nat → Int32) (q_o : Nat → Int32) (q_s : Nat → Int32) (q_k : Nat → Int32) (q_h : Nat → Int32) (q_c : Nat → Int32) (q_m : Int32) (v1 : Int32) (r : (Nat → Int32) × (Nat → Int32) × (Nat → Int32)) (h : f_X0_changeWithNext q_b q_n q_o v1 = some r) : Kt l D T yX0_changeWithNext cX0_changeWithNext 2 none (1, 0, 0, 22) [.ref (a 0), .int v1] (wG T a q_b q_n q_o q_s q_k q_h q_c q_m) (FF (fun (r : (Nat → Int32) × (Nat → Int32) × (Nat → Int32)) => none) (fun r => wG T a r.1 r.2.1 r.2.2 q_s q_k q_h q_c q_m) r) := by
  refine kt_of (own := RX0) (nm := "changeWithNext") (lv := [(0, .ref (a 0)), (1, .int v1)]) (by decide) rfl rfl rfl (Nat.le_of_ble_eq_true rfl) h (fun X hn C M => ?_)
  have hnn : ((0, 0) : Nat × Nat).1 ≤ 0 ∧ ((0, 0) : Nat × Nat).2 ≤ 0 := ⟨Nat.le_refl 0, Nat.le_refl 0⟩
  unfold f_X0_changeWithNext
  refine gg_aload_n C dX0_changeWithNext_0 rfl 0 rfl ?_
  refine gf_X0_9 C 0 rfl rfl dX0_changeWithNext_1 ?_
  refine gg_iload_n C dX0_changeWithNext_4 rfl 1 rfl ?_
  refine gg_callS C (fun l r h => c_X0_swapWithNext l D T (a 1) q_b v1 r h) lk_X0_69 ⟨by decide, by decide⟩ hnn rfl (rest := []) rfl (Nat.le_of_ble_eq_true rfl) dX0_changeWithNext_5 (ws2 := fun r1 => wG T a r1 q_n q_o q_s q_k q_h q_c q_m) (cut_part 8 [1] [0, 2, 3, 4, 5, 6, 7] rfl (by decide) rfl (fun _ => rfl) (fun _ => rfl) (fun _ => rfl)) (st2 := fun r1 => []) (fun _ => rfl) (fun r1 => ?_)
  refine gg_aload_n C dX0_changeWithNext_8 rfl 0 rfl ?_
  refine gf_X0_15 C 0 rfl rfl dX0_changeWithNext_9 ?_
  refine gg_iload_n C dX0_changeWithNext_12 rfl 1 rfl ?_
  refine gg_callS C (fun l r h => c_X0_swapWithNext l D T (a 2) q_n v1 r h) lk_X0_69 ⟨by decide, by decide⟩ hnn rfl (rest := []) rfl (Nat.le_of_ble_eq_true rfl) dX0_changeWithNext_13 (ws2 := fun r2 => wG T a r1 r2 q_o q_s q_k q_h q_c q_m) (cut_part 8 [2] [0, 1, 3, 4, 5, 6, 7] rfl (by decide) rfl (fun _ => rfl) (fun _ => rfl) (fun _ => rfl)) (st2 := fun r2 => []) (fun _ => rfl) (fun r2 => ?_)
  refine gg_aload_n C dX0_changeWithNext_16 rfl 0 rfl ?_
  refine gf_X0_18 C 0 rfl rfl dX0_changeWithNext_17 ?_
  refine gg_iload_n C dX0_changeWithNext_20 rfl 1 rfl ?_
  refine gg_callS C (fun l r h => c_X0_swapWithNext l D T (a 3) q_o v1 r h) lk_X0_69 ⟨by decide, by decide⟩ hnn rfl (rest := []) rfl (Nat.le_of_ble_eq_true rfl) dX0_changeWithNext_21 (ws2 := fun r3 => wG T a r1 r2 r3 q_s q_k q_h q_c q_m) (cut_part 8 [3] [0, 1, 2, 4, 5, 6, 7] rfl (by decide) rfl (fun _ => rfl) (fun _ => rfl) (fun _ => rfl)) (st2 := fun r3 => []) (fun _ => rfl) (fun r3 => ?_)
  exact gg_vret C M dX0_changeWithNext_24 ⟨rfl, rfl⟩
def f_X0_letMinutePass_L12 (q_n : Nat → Int32) (q_c : Nat → Int32) : Nat → Int32 → (Nat → Int32) → Option (Int32 × (Nat → Int32))
  | 0, _, _ => none
  | nn + 1, y1, q_s => if 6 ≤ y1 then some (y1, q_s) else gu y1 6 (bi (q_s y1.toNatClampNeg) (fun x1 => gu y1 6 (if q_c y1.toNatClampNeg = (-6) then jn (f_X0_hasNick q_n x1) (fun r2 => if r2 = 0 then f_X0_letMinutePass_L12 q_n q_c nn (y1 + 1) q_s else jn (f_X8_isPlace (x1 + 1)) (fun r3 => if r3 = 0 then f_X0_letMinutePass_L12 q_n q_c nn (y1 + 1) q_s else gu y1 6 (f_X0_letMinutePass_L12 q_n q_c nn (y1 + 1) (upd q_s y1.toNatClampNeg (x1 + 1))))) else f_X0_letMinutePass_L12 q_n q_c nn (y1 + 1) q_s)))
set_option maxHeartbeats 4000000 in
set_option maxRecDepth 100000 in
theorem g_X0_letMinutePass_L12 {X : KX} {D : va_G} {T : Nat → ClassId} {Q : Int32 × (Nat → Int32) → State → Prop} {n : Nat × Nat} (C : Cx X D T cX0_letMinutePass RX0 { frames := 2, cells := 0, slots := 0, locals := 41 }) (hnn : n.1 ≤ 0 ∧ n.2 ≤ 0) (hn : kxL X = 3) (a : Nat → Nat)  (q_b : Nat → Int32) (q_n : Nat → Int32) (q_o : Nat → Int32) (q_k : Nat → Int32) (q_h : Nat → Int32) (q_c : Nat → Int32) (q_m : Int32) (hk : ∀ v : Int32 × (Nat → Int32), GG X D Q n (wG T a q_b q_n q_o v.2 q_k q_h q_c q_m) [(0, .ref (a 0)), (1, .int v.1)] 68 [] (some (v))) : ∀ (nn : Nat) (y1 : Int32) (q_s : Nat → Int32), GG X D Q n (wG T a q_b q_n q_o q_s q_k q_h q_c q_m) [(0, .ref (a 0)), (1, .int y1)] 12 [] (f_X0_letMinutePass_L12 q_n q_c nn y1 q_s) := by
  intro nn
  induction nn with
  | zero => intros; exact gg_none
  | succ nn ih =>
    intro y1 q_s
    unfold f_X0_letMinutePass_L12
    refine gg_iload_n C dX0_letMinutePass_12 rfl 1 rfl ?_
    refine gg_bipush C dX0_letMinutePass_13 kB_6 ?_
    refine gg_icmp_ge C dX0_letMinutePass_15 (tgt := 68) (by decide) (fun _ => ?_) (fun _ => ?_)
    · refine gg_sub [0, 1] rfl ?_
      exact hk (y1, q_s)
    · refine gg_aload_n C dX0_letMinutePass_18 rfl 0 rfl ?_
      refine gf_X0_21 C 0 rfl rfl dX0_letMinutePass_19 ?_
      refine gg_iload_n C dX0_letMinutePass_22 rfl 1 rfl ?_
      refine gg_iald C 4 rfl dX0_letMinutePass_23 ?_
      refine gg_bi (fun x1 => ?_)
      refine gg_istore_n C dX0_letMinutePass_24 rfl hn (by decide) (lv' := [(2, .int x1), (0, .ref (a 0)), (1, .int y1)]) rfl ?_
      refine gg_aload_n C dX0_letMinutePass_25 rfl 1 rfl ?_
      refine gf_X0_30 C 0 rfl rfl dX0_letMinutePass_26 ?_
      refine gg_iload_n C dX0_letMinutePass_29 rfl 2 rfl ?_
      refine gg_iald C 7 rfl dX0_letMinutePass_30 ?_
      refine gg_bipush C dX0_letMinutePass_31 kB_m6 ?_
      refine gg_icmp_ne C dX0_letMinutePass_33 (tgt := 62) (by decide) (fun _ => ?_) (fun _ => ?_)
      · refine gg_iinc C dX0_letMinutePass_62 (j := 2) rfl (v := y1 + 1) (by first | rfl | decide) hn (by decide) (lv' := [(1, .int (y1 + 1)), (2, .int x1), (0, .ref (a 0))]) rfl ?_
        refine gg_goto C dX0_letMinutePass_65 (tgt := 12) (by decide) ?_
        refine gg_sub [2, 0] rfl ?_
        exact ih (y1 + 1) q_s
      · refine gg_aload_n C dX0_letMinutePass_36 rfl 1 rfl ?_
        refine gg_iload_n C dX0_letMinutePass_37 rfl 0 rfl ?_
        refine gg_callV C (fun l r h => c_X0_hasNick l D T a q_b q_n q_o q_s q_k q_h q_c q_m x1 r h) lk_X0_73 ⟨by decide, by decide⟩ hnn rfl (rest := []) rfl (Nat.le_of_ble_eq_true rfl) 0 rfl rfl dX0_letMinutePass_38 (ws2 := fun r2 => wG T a q_b q_n q_o q_s q_k q_h q_c q_m) (cut_full (fun _ => rfl)) (st2 := fun r2 => [.int r2]) (fun _ => rfl) (fun r2 => ?_)
        refine gg_if_eq C dX0_letMinutePass_41 (tgt := 62) (by decide) (fun _ => ?_) (fun _ => ?_)
        · refine gg_iinc C dX0_letMinutePass_62 (j := 2) rfl (v := y1 + 1) (by first | rfl | decide) hn (by decide) (lv' := [(1, .int (y1 + 1)), (2, .int x1), (0, .ref (a 0))]) rfl ?_
          refine gg_goto C dX0_letMinutePass_65 (tgt := 12) (by decide) ?_
          refine gg_sub [2, 0] rfl ?_
          exact ih (y1 + 1) q_s
        · refine gg_iload_n C dX0_letMinutePass_44 rfl 0 rfl ?_
          refine gg_iconst C dX0_letMinutePass_45 kI_1 ?_
          refine gg_iadd C dX0_letMinutePass_46 ?_
          refine gg_callN C (fun l r h => c_X8_isPlace l D T (x1 + 1) r h) lk_X0_43 ⟨by decide, by decide⟩ hnn rfl (rest := []) rfl (Nat.le_of_ble_eq_true rfl) dX0_letMinutePass_47 cut_none (st2 := fun r3 => [.int r3]) (fun _ => rfl) (fun r3 => ?_)
          refine gg_if_eq C dX0_letMinutePass_50 (tgt := 62) (by decide) (fun _ => ?_) (fun _ => ?_)
          · refine gg_iinc C dX0_letMinutePass_62 (j := 2) rfl (v := y1 + 1) (by first | rfl | decide) hn (by decide) (lv' := [(1, .int (y1 + 1)), (2, .int x1), (0, .ref (a 0))]) rfl ?_
            refine gg_goto C dX0_letMinutePass_65 (tgt := 12) (by decide) ?_
            refine gg_sub [2, 0] rfl ?_
            exact ih (y1 + 1) q_s
          · refine gg_aload_n C dX0_letMinutePass_53 rfl 1 rfl ?_
            refine gf_X0_21 C 0 rfl rfl dX0_letMinutePass_54 ?_
            refine gg_iload_n C dX0_letMinutePass_57 rfl 2 rfl ?_
            refine gg_iload_n C dX0_letMinutePass_58 rfl 0 rfl ?_
            refine gg_iconst C dX0_letMinutePass_59 kI_1 ?_
            refine gg_iadd C dX0_letMinutePass_60 ?_
            refine gg_iast C 4 rfl dX0_letMinutePass_61 (ws' := wG T a q_b q_n q_o (upd q_s y1.toNatClampNeg (x1 + 1)) q_k q_h q_c q_m) rfl ?_
            refine gg_iinc C dX0_letMinutePass_62 (j := 2) rfl (v := y1 + 1) (by first | rfl | decide) hn (by decide) (lv' := [(1, .int (y1 + 1)), (2, .int x1), (0, .ref (a 0))]) rfl ?_
            refine gg_goto C dX0_letMinutePass_65 (tgt := 12) (by decide) ?_
            refine gg_sub [2, 0] rfl ?_
            exact ih (y1 + 1) (upd q_s y1.toNatClampNeg (x1 + 1))
def f_X0_letMinutePass (q_n : Nat → Int32) (q_s : Nat → Int32) (q_c : Nat → Int32) (q_m : Int32) : Option ((Nat → Int32) × Int32) := jn (α := Int32 × (Nat → Int32)) (f_X0_letMinutePass_L12 q_n q_c 100 0 q_s) (fun z4 => some (z4.2, q_m + 1))
set_option maxHeartbeats 4000000 in
set_option maxRecDepth 100000 in
theorem c_X0_letMinutePass (l : Launch) (D : va_G) (T : Nat → ClassId) (a : Nat → Nat) (q_b : Nat → Int32) (q_n : Nat → Int32) (q_o : Nat → Int32) (q_s : Nat → Int32) (q_k : Nat → Int32) (q_h : Nat → Int32) (q_c : Nat → Int32) (q_m : Int32) (r : (Nat → Int32) × Int32) (h : f_X0_letMinutePass q_n q_s q_c q_m = some r) : Kt l D T yX0_letMinutePass cX0_letMinutePass 3 none (2, 0, 0, 41) [.ref (a 0)] (wG T a q_b q_n q_o q_s q_k q_h q_c q_m) (FF (fun (r : (Nat → Int32) × Int32) => none) (fun r => wG T a q_b q_n q_o r.1 q_k q_h q_c r.2) r) := by
  refine kt_of (own := RX0) (nm := "letMinutePass") (lv := [(0, .ref (a 0))]) (by decide) rfl rfl rfl (Nat.le_of_ble_eq_true rfl) h (fun X hn C M => ?_)
  have hnn : ((0, 0) : Nat × Nat).1 ≤ 0 ∧ ((0, 0) : Nat × Nat).2 ≤ 0 := ⟨Nat.le_refl 0, Nat.le_refl 0⟩
  unfold f_X0_letMinutePass
  refine gg_aload_n C dX0_letMinutePass_0 rfl 0 rfl ?_
  refine gg_dup C dX0_letMinutePass_1 rfl ?_
  refine gf_X0_39 C 0 rfl rfl dX0_letMinutePass_2 ?_
  refine gg_iconst C dX0_letMinutePass_5 kI_1 ?_
  refine gg_iadd C dX0_letMinutePass_6 ?_
  refine pf_X0_39 C 0 rfl (Nat.le_of_ble_eq_true rfl) dX0_letMinutePass_7 (ws' := wG T a q_b q_n q_o q_s q_k q_h q_c (q_m + 1)) rfl ?_
  refine gg_iconst C dX0_letMinutePass_10 kI_0 ?_
  refine gg_istore_n C dX0_letMinutePass_11 rfl hn (by decide) (lv' := [(1, .int 0), (0, .ref (a 0))]) rfl ?_
  refine gg_join (α := Int32 × (Nat → Int32)) 68 (fun z4 => wG T a q_b q_n q_o z4.2 q_k q_h q_c (q_m + 1)) (fun z4 => [(0, .ref (a 0)), (1, .int z4.1)]) (fun z4 => []) (fun z4 => ?_) (fun K5 => ?_)
  · exact gg_vret C M dX0_letMinutePass_68 ⟨rfl, rfl⟩
  · refine gg_sub [1, 0] rfl ?_
    exact g_X0_letMinutePass_L12 C hnn hn a q_b q_n q_o q_k q_h q_c (q_m + 1) K5 100 0 q_s
def f_X0_act (q_b : Nat → Int32) (q_n : Nat → Int32) (q_o : Nat → Int32) (q_s : Nat → Int32) (q_k : Nat → Int32) (q_h : Nat → Int32) (q_c : Nat → Int32) (q_m : Int32) (v1 : Int32) (v2 : Int32) (v3 : Int32) : Option ((Nat → Int32) × (Nat → Int32) × (Nat → Int32) × (Nat → Int32) × (Nat → Int32) × (Nat → Int32) × Int32) := jn (f_X0_isStanding q_s v1) (fun r1 => if r1 = 0 then some (q_b, q_n, q_o, q_s, q_h, q_c, q_m) else gu v1 6 (bi (q_s v1.toNatClampNeg) (fun x2 => if v2 = 33 then gu v1 6 (some (q_b, q_n, q_o, q_s, q_h, upd q_c v1.toNatClampNeg x2, q_m)) else (if v2 = 42 then gu x2 40 (gu x2 40 (some (q_b, upd q_n x2.toNatClampNeg (1 - (q_n x2.toNatClampNeg)), q_o, q_s, q_h, q_c, q_m))) else (if v2 = 46 then jn (f_X0_letMinutePass q_n q_s q_c q_m) (fun r6 => some (q_b, q_n, q_o, r6.1, q_h, q_c, r6.2)) else (if v2 = 48 then gu x2 40 (some (upd q_b x2.toNatClampNeg v3, q_n, q_o, q_s, q_h, q_c, q_m)) else (if v2 = 60 then gu v1 6 (some (q_b, q_n, q_o, upd q_s v1.toNatClampNeg (x2 - v3), q_h, q_c, q_m)) else (if v2 = 62 then gu v1 6 (some (q_b, q_n, q_o, upd q_s v1.toNatClampNeg (x2 + v3), q_h, q_c, q_m)) else (if v2 = 63 then gu x2 40 (gu v1 6 (if q_b x2.toNatClampNeg = q_k v1.toNatClampNeg then gu v1 6 (bi (if 99 < ((q_h v1.toNatClampNeg) + 1) then 99 else ((q_h v1.toNatClampNeg) + 1)) (fun x11 => gu v1 6 (some (q_b, q_n, q_o, q_s, upd q_h v1.toNatClampNeg x11, q_c, q_m)))) else some (q_b, q_n, q_o, q_s, q_h, q_c, q_m))) else (if v2 = 126 then jn (f_X0_changeWithNext q_b q_n q_o x2) (fun r13 => some (r13.1, r13.2.1, r13.2.2, q_s, q_h, q_c, q_m)) else (some (q_b, q_n, q_o, q_s, q_h, q_c, q_m))))))))))))
set_option maxHeartbeats 4000000 in
set_option maxRecDepth 100000 in
theorem c_X0_act (l : Launch) (D : va_G) (T : Nat → ClassId) (a : Nat → Nat) (q_b : Nat → Int32) (q_n : Nat → Int32) (q_o : Nat → Int32) (q_s : Nat → Int32) (q_k : Nat → Int32) (q_h : Nat → Int32) (q_c : Nat → Int32) (q_m : Int32) (v1 : Int32) (v2 : Int32) (v3 : Int32) (r : (Nat → Int32) × (Nat → Int32) × (Nat → Int32) × (Nat → Int32) × (Nat → Int32) × (Nat → Int32) × Int32) (h : f_X0_act q_b q_n q_o q_s q_k q_h q_c q_m v1 v2 v3 = some r) : Kt l D T yX0_act cX0_act 5 none (3, 0, 0, 63) [.ref (a 0), .int v1, .int v2, .int v3] (wG T a q_b q_n q_o q_s q_k q_h q_c q_m) (FF (fun (r : (Nat → Int32) × (Nat → Int32) × (Nat → Int32) × (Nat → Int32) × (Nat → Int32) × (Nat → Int32) × Int32) => none) (fun r => wG T a r.1 r.2.1 r.2.2.1 r.2.2.2.1 q_k r.2.2.2.2.1 r.2.2.2.2.2.1 r.2.2.2.2.2.2) r) := by
  refine kt_of (own := RX0) (nm := "act") (lv := [(0, .ref (a 0)), (1, .int v1), (2, .int v2), (3, .int v3)]) (by decide) rfl rfl rfl (Nat.le_of_ble_eq_true rfl) h (fun X hn C M => ?_)
  have hnn : ((0, 0) : Nat × Nat).1 ≤ 0 ∧ ((0, 0) : Nat × Nat).2 ≤ 0 := ⟨Nat.le_refl 0, Nat.le_refl 0⟩
  unfold f_X0_act
  refine gg_aload_n C dX0_act_0 rfl 0 rfl ?_
  refine gg_iload_n C dX0_act_1 rfl 1 rfl ?_
  refine gg_callV C (fun l r h => c_X0_isStanding l D T a q_b q_n q_o q_s q_k q_h q_c q_m v1 r h) lk_X0_50 ⟨by decide, by decide⟩ hnn rfl (rest := []) rfl (Nat.le_of_ble_eq_true rfl) 0 rfl rfl dX0_act_2 (ws2 := fun r1 => wG T a q_b q_n q_o q_s q_k q_h q_c q_m) (cut_full (fun _ => rfl)) (st2 := fun r1 => [.int r1]) (fun _ => rfl) (fun r1 => ?_)
  refine gg_if_ne C dX0_act_5 (tgt := 9) (by decide) (fun _ => ?_) (fun _ => ?_)
  · refine gg_aload_n C dX0_act_9 rfl 0 rfl ?_
    refine gf_X0_21 C 0 rfl rfl dX0_act_10 ?_
    refine gg_iload_n C dX0_act_13 rfl 1 rfl ?_
    refine gg_iald C 4 rfl dX0_act_14 ?_
    refine gg_bi (fun x2 => ?_)
    refine gg_istore C dX0_act_15 hn (by decide) (lv' := [(4, .int x2), (0, .ref (a 0)), (1, .int v1), (2, .int v2), (3, .int v3)]) rfl ?_
    refine gg_iload_n C dX0_act_17 rfl 3 rfl ?_
    refine gg_ite (fun hs3 => ?_) (fun hs3 => ?_)
    · refine gg_look C dX0_act_18 (by decide) (off := 177) (by rw [hs3]; decide) (tgt := 195) (by decide) ?_
      refine gg_aload_n C dX0_act_195 rfl 1 rfl ?_
      refine gf_X0_30 C 0 rfl rfl dX0_act_196 ?_
      refine gg_iload_n C dX0_act_199 rfl 2 rfl ?_
      refine gg_iload C dX0_act_200 0 rfl ?_
      refine gg_iast C 7 rfl dX0_act_202 (ws' := wG T a q_b q_n q_o q_s q_k q_h (upd q_c v1.toNatClampNeg x2) q_m) rfl ?_
      refine gg_goto C dX0_act_203 (tgt := 213) (by decide) ?_
      exact gg_vret C M dX0_act_213 ⟨rfl, rfl⟩
    refine gg_ite (fun hs4 => ?_) (fun hs4 => ?_)
    · refine gg_look C dX0_act_18 (by decide) (off := 138) (by rw [hs4]; decide) (tgt := 156) (by decide) ?_
      refine gg_aload_n C dX0_act_156 rfl 1 rfl ?_
      refine gf_X0_15 C 0 rfl rfl dX0_act_157 ?_
      refine gg_iload C dX0_act_160 0 rfl ?_
      refine gg_iconst C dX0_act_162 kI_1 ?_
      refine gg_aload_n C dX0_act_163 rfl 1 rfl ?_
      refine gf_X0_15 C 0 rfl rfl dX0_act_164 ?_
      refine gg_iload C dX0_act_167 0 rfl ?_
      refine gg_iald C 2 rfl dX0_act_169 ?_
      refine gg_isub C dX0_act_170 ?_
      refine gg_iast C 2 rfl dX0_act_171 (ws' := wG T a q_b (upd q_n x2.toNatClampNeg (1 - (q_n x2.toNatClampNeg))) q_o q_s q_k q_h q_c q_m) rfl ?_
      refine gg_goto C dX0_act_172 (tgt := 213) (by decide) ?_
      exact gg_vret C M dX0_act_213 ⟨rfl, rfl⟩
    refine gg_ite (fun hs5 => ?_) (fun hs5 => ?_)
    · refine gg_look C dX0_act_18 (by decide) (off := 188) (by rw [hs5]; decide) (tgt := 206) (by decide) ?_
      refine gg_aload_n C dX0_act_206 rfl 1 rfl ?_
      refine gg_callV C (fun l r h => c_X0_letMinutePass l D T a q_b q_n q_o q_s q_k q_h q_c q_m r h) lk_X0_66 ⟨by decide, by decide⟩ hnn rfl (rest := []) rfl (Nat.le_of_ble_eq_true rfl) 0 rfl rfl dX0_act_207 (ws2 := fun r6 => wG T a q_b q_n q_o r6.1 q_k q_h q_c r6.2) (cut_full (fun _ => rfl)) (st2 := fun r6 => []) (fun _ => rfl) (fun r6 => ?_)
      refine gg_goto C dX0_act_210 (tgt := 213) (by decide) ?_
      exact gg_vret C M dX0_act_213 ⟨rfl, rfl⟩
    refine gg_ite (fun hs7 => ?_) (fun hs7 => ?_)
    · refine gg_look C dX0_act_18 (by decide) (off := 157) (by rw [hs7]; decide) (tgt := 175) (by decide) ?_
      refine gg_aload_n C dX0_act_175 rfl 1 rfl ?_
      refine gf_X0_9 C 0 rfl rfl dX0_act_176 ?_
      refine gg_iload C dX0_act_179 0 rfl ?_
      refine gg_iload_n C dX0_act_181 rfl 4 rfl ?_
      refine gg_iast C 1 rfl dX0_act_182 (ws' := wG T a (upd q_b x2.toNatClampNeg v3) q_n q_o q_s q_k q_h q_c q_m) rfl ?_
      refine gg_goto C dX0_act_183 (tgt := 213) (by decide) ?_
      exact gg_vret C M dX0_act_213 ⟨rfl, rfl⟩
    refine gg_ite (fun hs8 => ?_) (fun hs8 => ?_)
    · refine gg_look C dX0_act_18 (by decide) (off := 87) (by rw [hs8]; decide) (tgt := 105) (by decide) ?_
      refine gg_aload_n C dX0_act_105 rfl 1 rfl ?_
      refine gf_X0_21 C 0 rfl rfl dX0_act_106 ?_
      refine gg_iload_n C dX0_act_109 rfl 2 rfl ?_
      refine gg_iload C dX0_act_110 0 rfl ?_
      refine gg_iload_n C dX0_act_112 rfl 4 rfl ?_
      refine gg_isub C dX0_act_113 ?_
      refine gg_iast C 4 rfl dX0_act_114 (ws' := wG T a q_b q_n q_o (upd q_s v1.toNatClampNeg (x2 - v3)) q_k q_h q_c q_m) rfl ?_
      refine gg_goto C dX0_act_115 (tgt := 213) (by decide) ?_
      exact gg_vret C M dX0_act_213 ⟨rfl, rfl⟩
    refine gg_ite (fun hs9 => ?_) (fun hs9 => ?_)
    · refine gg_look C dX0_act_18 (by decide) (off := 74) (by rw [hs9]; decide) (tgt := 92) (by decide) ?_
      refine gg_aload_n C dX0_act_92 rfl 1 rfl ?_
      refine gf_X0_21 C 0 rfl rfl dX0_act_93 ?_
      refine gg_iload_n C dX0_act_96 rfl 2 rfl ?_
      refine gg_iload C dX0_act_97 0 rfl ?_
      refine gg_iload_n C dX0_act_99 rfl 4 rfl ?_
      refine gg_iadd C dX0_act_100 ?_
      refine gg_iast C 4 rfl dX0_act_101 (ws' := wG T a q_b q_n q_o (upd q_s v1.toNatClampNeg (x2 + v3)) q_k q_h q_c q_m) rfl ?_
      refine gg_goto C dX0_act_102 (tgt := 213) (by decide) ?_
      exact gg_vret C M dX0_act_213 ⟨rfl, rfl⟩
    refine gg_ite (fun hs10 => ?_) (fun hs10 => ?_)
    · refine gg_look C dX0_act_18 (by decide) (off := 100) (by rw [hs10]; decide) (tgt := 118) (by decide) ?_
      refine gg_aload_n C dX0_act_118 rfl 1 rfl ?_
      refine gf_X0_9 C 0 rfl rfl dX0_act_119 ?_
      refine gg_iload C dX0_act_122 0 rfl ?_
      refine gg_iald C 1 rfl dX0_act_124 ?_
      refine gg_aload_n C dX0_act_125 rfl 1 rfl ?_
      refine gf_X0_24 C 0 rfl rfl dX0_act_126 ?_
      refine gg_iload_n C dX0_act_129 rfl 2 rfl ?_
      refine gg_iald C 5 rfl dX0_act_130 ?_
      refine gg_icmp_ne C dX0_act_131 (tgt := 213) (by decide) (fun _ => ?_) (fun _ => ?_)
      · exact gg_vret C M dX0_act_213 ⟨rfl, rfl⟩
      · refine gg_aload_n C dX0_act_134 rfl 1 rfl ?_
        refine gf_X0_27 C 0 rfl rfl dX0_act_135 ?_
        refine gg_iload_n C dX0_act_138 rfl 2 rfl ?_
        refine gg_aload_n C dX0_act_139 rfl 1 rfl ?_
        refine gf_X0_27 C 0 rfl rfl dX0_act_140 ?_
        refine gg_iload_n C dX0_act_143 rfl 2 rfl ?_
        refine gg_iald C 6 rfl dX0_act_144 ?_
        refine gg_iconst C dX0_act_145 kI_1 ?_
        refine gg_iadd C dX0_act_146 ?_
        refine gg_bipush C dX0_act_147 kB_99 ?_
        refine gg_mmin C tw_304 tw_305 tw_9 tw_306 (by decide) (Nat.le_of_ble_eq_true rfl) hnn dX0_act_149 ?_
        refine gg_bi (fun x11 => ?_)
        refine gg_iast C 6 rfl dX0_act_152 (ws' := wG T a q_b q_n q_o q_s q_k (upd q_h v1.toNatClampNeg x11) q_c q_m) rfl ?_
        refine gg_goto C dX0_act_153 (tgt := 213) (by decide) ?_
        exact gg_vret C M dX0_act_213 ⟨rfl, rfl⟩
    refine gg_ite (fun hs12 => ?_) (fun hs12 => ?_)
    · refine gg_look C dX0_act_18 (by decide) (off := 168) (by rw [hs12]; decide) (tgt := 186) (by decide) ?_
      refine gg_aload_n C dX0_act_186 rfl 1 rfl ?_
      refine gg_iload C dX0_act_187 0 rfl ?_
      refine gg_callV C (fun l r h => c_X0_changeWithNext l D T a q_b q_n q_o q_s q_k q_h q_c q_m x2 r h) lk_X0_62 ⟨by decide, by decide⟩ hnn rfl (rest := []) rfl (Nat.le_of_ble_eq_true rfl) 0 rfl rfl dX0_act_189 (ws2 := fun r13 => wG T a r13.1 r13.2.1 r13.2.2 q_s q_k q_h q_c q_m) (cut_full (fun _ => rfl)) (st2 := fun r13 => []) (fun _ => rfl) (fun r13 => ?_)
      refine gg_goto C dX0_act_192 (tgt := 213) (by decide) ?_
      exact gg_vret C M dX0_act_213 ⟨rfl, rfl⟩
    refine gg_look C dX0_act_18 (by decide) (off := 195) (by show Op.lookupswitch.offset ([(33, 177), (42, 138), (46, 188), (48, 157), (60, 87), (62, 74), (63, 100), (126, 168)] : List (Int × Int)) (195) _ = _; rw [lv_osw hs3 (by decide), lv_osw hs4 (by decide), lv_osw hs5 (by decide), lv_osw hs7 (by decide), lv_osw hs8 (by decide), lv_osw hs9 (by decide), lv_osw hs10 (by decide), lv_osw hs12 (by decide)]; rfl) (tgt := 213) (by decide) ?_
    exact gg_vret C M dX0_act_213 ⟨rfl, rfl⟩
  · exact gg_vret C M dX0_act_8 ⟨rfl, rfl⟩
def f_X0_copyFrom (q_b : Nat → Int32) (q_n : Nat → Int32) (q_o : Nat → Int32) (q_s : Nat → Int32) (q_k : Nat → Int32) (q_h : Nat → Int32) (q_c : Nat → Int32) (u_b : Nat → Int32) (u_n : Nat → Int32) (u_o : Nat → Int32) (u_s : Nat → Int32) (u_k : Nat → Int32) (u_h : Nat → Int32) (u_c : Nat → Int32) (u_m : Int32) : Option ((Nat → Int32) × (Nat → Int32) × (Nat → Int32) × (Nat → Int32) × (Nat → Int32) × (Nat → Int32) × (Nat → Int32) × Int32) := some (va_cpy u_b q_b 0 0 40, va_cpy u_n q_n 0 0 40, va_cpy u_o q_o 0 0 40, va_cpy u_s q_s 0 0 6, va_cpy u_k q_k 0 0 6, va_cpy u_h q_h 0 0 6, va_cpy u_c q_c 0 0 6, u_m)
set_option maxHeartbeats 4000000 in
set_option maxRecDepth 100000 in
theorem c_X0_copyFrom (l : Launch) (D : va_G) (T : Nat → ClassId) (a : Nat → Nat) (e : Nat → Nat) (q_b : Nat → Int32) (q_n : Nat → Int32) (q_o : Nat → Int32) (q_s : Nat → Int32) (q_k : Nat → Int32) (q_h : Nat → Int32) (q_c : Nat → Int32) (q_m : Int32) (u_b : Nat → Int32) (u_n : Nat → Int32) (u_o : Nat → Int32) (u_s : Nat → Int32) (u_k : Nat → Int32) (u_h : Nat → Int32) (u_c : Nat → Int32) (u_m : Int32) (r : (Nat → Int32) × (Nat → Int32) × (Nat → Int32) × (Nat → Int32) × (Nat → Int32) × (Nat → Int32) × (Nat → Int32) × Int32) (h : f_X0_copyFrom q_b q_n q_o q_s q_k q_h q_c u_b u_n u_o u_s u_k u_h u_c u_m = some r) : Kt l D T yX0_copyFrom cX0_copyFrom 2 none (1, 0, 0, 60) [.ref (a 0), .ref (e 0)] (wG T a q_b q_n q_o q_s q_k q_h q_c q_m ++ (wG T e u_b u_n u_o u_s u_k u_h u_c u_m)) (FF (fun (r : (Nat → Int32) × (Nat → Int32) × (Nat → Int32) × (Nat → Int32) × (Nat → Int32) × (Nat → Int32) × (Nat → Int32) × Int32) => none) (fun r => wG T a r.1 r.2.1 r.2.2.1 r.2.2.2.1 r.2.2.2.2.1 r.2.2.2.2.2.1 r.2.2.2.2.2.2.1 r.2.2.2.2.2.2.2 ++ (wG T e u_b u_n u_o u_s u_k u_h u_c u_m)) r) := by
  refine kt_of (own := RX0) (nm := "copyFrom") (lv := [(0, .ref (a 0)), (1, .ref (e 0))]) (by decide) rfl rfl rfl (Nat.le_of_ble_eq_true rfl) h (fun X hn C M => ?_)
  have hnn : ((0, 0) : Nat × Nat).1 ≤ 0 ∧ ((0, 0) : Nat × Nat).2 ≤ 0 := ⟨Nat.le_refl 0, Nat.le_refl 0⟩
  unfold f_X0_copyFrom
  refine gg_aload_n C dX0_copyFrom_0 rfl 1 rfl ?_
  refine gf_X0_9 C 8 rfl rfl dX0_copyFrom_1 ?_
  refine gg_iconst C dX0_copyFrom_4 kI_0 ?_
  refine gg_aload_n C dX0_copyFrom_5 rfl 0 rfl ?_
  refine gf_X0_9 C 0 rfl rfl dX0_copyFrom_6 ?_
  refine gg_iconst C dX0_copyFrom_9 kI_0 ?_
  refine gg_bipush C dX0_copyFrom_10 kB_40 ?_
  refine gg_copy C tw_271 tw_273 tw_272 tw_8 (by decide) (Nat.le_of_ble_eq_true rfl) 9 1 rfl rfl (by decide) (by decide) (by decide) (sp' := 0) (by decide) (dp' := 0) (by decide) (z' := 40) (by decide) (by decide) (by decide) dX0_copyFrom_12 (ws' := wG T a (va_cpy u_b q_b 0 0 40) q_n q_o q_s q_k q_h q_c q_m ++ (wG T e u_b u_n u_o u_s u_k u_h u_c u_m)) rfl ?_
  refine gg_aload_n C dX0_copyFrom_15 rfl 1 rfl ?_
  refine gf_X0_15 C 8 rfl rfl dX0_copyFrom_16 ?_
  refine gg_iconst C dX0_copyFrom_19 kI_0 ?_
  refine gg_aload_n C dX0_copyFrom_20 rfl 0 rfl ?_
  refine gf_X0_15 C 0 rfl rfl dX0_copyFrom_21 ?_
  refine gg_iconst C dX0_copyFrom_24 kI_0 ?_
  refine gg_bipush C dX0_copyFrom_25 kB_40 ?_
  refine gg_copy C tw_271 tw_273 tw_272 tw_8 (by decide) (Nat.le_of_ble_eq_true rfl) 10 2 rfl rfl (by decide) (by decide) (by decide) (sp' := 0) (by decide) (dp' := 0) (by decide) (z' := 40) (by decide) (by decide) (by decide) dX0_copyFrom_27 (ws' := wG T a (va_cpy u_b q_b 0 0 40) (va_cpy u_n q_n 0 0 40) q_o q_s q_k q_h q_c q_m ++ (wG T e u_b u_n u_o u_s u_k u_h u_c u_m)) rfl ?_
  refine gg_aload_n C dX0_copyFrom_30 rfl 1 rfl ?_
  refine gf_X0_18 C 8 rfl rfl dX0_copyFrom_31 ?_
  refine gg_iconst C dX0_copyFrom_34 kI_0 ?_
  refine gg_aload_n C dX0_copyFrom_35 rfl 0 rfl ?_
  refine gf_X0_18 C 0 rfl rfl dX0_copyFrom_36 ?_
  refine gg_iconst C dX0_copyFrom_39 kI_0 ?_
  refine gg_bipush C dX0_copyFrom_40 kB_40 ?_
  refine gg_copy C tw_271 tw_273 tw_272 tw_8 (by decide) (Nat.le_of_ble_eq_true rfl) 11 3 rfl rfl (by decide) (by decide) (by decide) (sp' := 0) (by decide) (dp' := 0) (by decide) (z' := 40) (by decide) (by decide) (by decide) dX0_copyFrom_42 (ws' := wG T a (va_cpy u_b q_b 0 0 40) (va_cpy u_n q_n 0 0 40) (va_cpy u_o q_o 0 0 40) q_s q_k q_h q_c q_m ++ (wG T e u_b u_n u_o u_s u_k u_h u_c u_m)) rfl ?_
  refine gg_aload_n C dX0_copyFrom_45 rfl 1 rfl ?_
  refine gf_X0_21 C 8 rfl rfl dX0_copyFrom_46 ?_
  refine gg_iconst C dX0_copyFrom_49 kI_0 ?_
  refine gg_aload_n C dX0_copyFrom_50 rfl 0 rfl ?_
  refine gf_X0_21 C 0 rfl rfl dX0_copyFrom_51 ?_
  refine gg_iconst C dX0_copyFrom_54 kI_0 ?_
  refine gg_bipush C dX0_copyFrom_55 kB_6 ?_
  refine gg_copy C tw_271 tw_273 tw_272 tw_8 (by decide) (Nat.le_of_ble_eq_true rfl) 12 4 rfl rfl (by decide) (by decide) (by decide) (sp' := 0) (by decide) (dp' := 0) (by decide) (z' := 6) (by decide) (by decide) (by decide) dX0_copyFrom_57 (ws' := wG T a (va_cpy u_b q_b 0 0 40) (va_cpy u_n q_n 0 0 40) (va_cpy u_o q_o 0 0 40) (va_cpy u_s q_s 0 0 6) q_k q_h q_c q_m ++ (wG T e u_b u_n u_o u_s u_k u_h u_c u_m)) rfl ?_
  refine gg_aload_n C dX0_copyFrom_60 rfl 1 rfl ?_
  refine gf_X0_24 C 8 rfl rfl dX0_copyFrom_61 ?_
  refine gg_iconst C dX0_copyFrom_64 kI_0 ?_
  refine gg_aload_n C dX0_copyFrom_65 rfl 0 rfl ?_
  refine gf_X0_24 C 0 rfl rfl dX0_copyFrom_66 ?_
  refine gg_iconst C dX0_copyFrom_69 kI_0 ?_
  refine gg_bipush C dX0_copyFrom_70 kB_6 ?_
  refine gg_copy C tw_271 tw_273 tw_272 tw_8 (by decide) (Nat.le_of_ble_eq_true rfl) 13 5 rfl rfl (by decide) (by decide) (by decide) (sp' := 0) (by decide) (dp' := 0) (by decide) (z' := 6) (by decide) (by decide) (by decide) dX0_copyFrom_72 (ws' := wG T a (va_cpy u_b q_b 0 0 40) (va_cpy u_n q_n 0 0 40) (va_cpy u_o q_o 0 0 40) (va_cpy u_s q_s 0 0 6) (va_cpy u_k q_k 0 0 6) q_h q_c q_m ++ (wG T e u_b u_n u_o u_s u_k u_h u_c u_m)) rfl ?_
  refine gg_aload_n C dX0_copyFrom_75 rfl 1 rfl ?_
  refine gf_X0_27 C 8 rfl rfl dX0_copyFrom_76 ?_
  refine gg_iconst C dX0_copyFrom_79 kI_0 ?_
  refine gg_aload_n C dX0_copyFrom_80 rfl 0 rfl ?_
  refine gf_X0_27 C 0 rfl rfl dX0_copyFrom_81 ?_
  refine gg_iconst C dX0_copyFrom_84 kI_0 ?_
  refine gg_bipush C dX0_copyFrom_85 kB_6 ?_
  refine gg_copy C tw_271 tw_273 tw_272 tw_8 (by decide) (Nat.le_of_ble_eq_true rfl) 14 6 rfl rfl (by decide) (by decide) (by decide) (sp' := 0) (by decide) (dp' := 0) (by decide) (z' := 6) (by decide) (by decide) (by decide) dX0_copyFrom_87 (ws' := wG T a (va_cpy u_b q_b 0 0 40) (va_cpy u_n q_n 0 0 40) (va_cpy u_o q_o 0 0 40) (va_cpy u_s q_s 0 0 6) (va_cpy u_k q_k 0 0 6) (va_cpy u_h q_h 0 0 6) q_c q_m ++ (wG T e u_b u_n u_o u_s u_k u_h u_c u_m)) rfl ?_
  refine gg_aload_n C dX0_copyFrom_90 rfl 1 rfl ?_
  refine gf_X0_30 C 8 rfl rfl dX0_copyFrom_91 ?_
  refine gg_iconst C dX0_copyFrom_94 kI_0 ?_
  refine gg_aload_n C dX0_copyFrom_95 rfl 0 rfl ?_
  refine gf_X0_30 C 0 rfl rfl dX0_copyFrom_96 ?_
  refine gg_iconst C dX0_copyFrom_99 kI_0 ?_
  refine gg_bipush C dX0_copyFrom_100 kB_6 ?_
  refine gg_copy C tw_271 tw_273 tw_272 tw_8 (by decide) (Nat.le_of_ble_eq_true rfl) 15 7 rfl rfl (by decide) (by decide) (by decide) (sp' := 0) (by decide) (dp' := 0) (by decide) (z' := 6) (by decide) (by decide) (by decide) dX0_copyFrom_102 (ws' := wG T a (va_cpy u_b q_b 0 0 40) (va_cpy u_n q_n 0 0 40) (va_cpy u_o q_o 0 0 40) (va_cpy u_s q_s 0 0 6) (va_cpy u_k q_k 0 0 6) (va_cpy u_h q_h 0 0 6) (va_cpy u_c q_c 0 0 6) q_m ++ (wG T e u_b u_n u_o u_s u_k u_h u_c u_m)) rfl ?_
  refine gg_aload_n C dX0_copyFrom_105 rfl 0 rfl ?_
  refine gg_aload_n C dX0_copyFrom_106 rfl 1 rfl ?_
  refine gf_X0_39 C 8 rfl rfl dX0_copyFrom_107 ?_
  refine pf_X0_39 C 0 rfl (Nat.le_of_ble_eq_true rfl) dX0_copyFrom_110 (ws' := wG T a (va_cpy u_b q_b 0 0 40) (va_cpy u_n q_n 0 0 40) (va_cpy u_o q_o 0 0 40) (va_cpy u_s q_s 0 0 6) (va_cpy u_k q_k 0 0 6) (va_cpy u_h q_h 0 0 6) (va_cpy u_c q_c 0 0 6) u_m ++ (wG T e u_b u_n u_o u_s u_k u_h u_c u_m)) rfl ?_
  exact gg_vret C M dX0_copyFrom_113 ⟨rfl, rfl⟩
