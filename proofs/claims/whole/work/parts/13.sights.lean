def f_X6_isNear (v0 : Int32) (v1 : Int32) (v2 : Int32) : Option (Int32) := bi (if 0 ≤ (v0 - v1) then (v0 - v1) else 0 - (v0 - v1)) (fun x1 => if v2 < x1 then some 0 else some 1)
set_option maxHeartbeats 4000000 in
set_option maxRecDepth 100000 in
theorem c_X6_isNear (l : Launch) (D : va_G) (T : Nat → ClassId)   (v0 : Int32) (v1 : Int32) (v2 : Int32) (r : Int32) (h : f_X6_isNear v0 v1 v2 = some r) : Kt l D T yX6_isNear cX6_isNear 3 (some .boolean) (1, 0, 0, 21) [.int v0, .int v1, .int v2] ([]) (FF (fun (r : Int32) => some (.int r)) (fun r => []) r) := by
  refine kt_of (own := RX6) (nm := "isNear") (lv := [(0, .int v0), (1, .int v1), (2, .int v2)]) (by decide) rfl rfl rfl (Nat.le_of_ble_eq_true rfl) h (fun X hn C M => ?_)
  have hnn : ((0, 0) : Nat × Nat).1 ≤ 0 ∧ ((0, 0) : Nat × Nat).2 ≤ 0 := ⟨Nat.le_refl 0, Nat.le_refl 0⟩
  unfold f_X6_isNear
  refine gg_iload_n C dX6_isNear_0 rfl 0 rfl ?_
  refine gg_iload_n C dX6_isNear_1 rfl 1 rfl ?_
  refine gg_isub C dX6_isNear_2 ?_
  refine gg_mabs C tw_449 tw_450 tw_9 tw_451 (by decide) (Nat.le_of_ble_eq_true rfl) hnn dX6_isNear_3 ?_
  refine gg_bi (fun x1 => ?_)
  refine gg_iload_n C dX6_isNear_6 rfl 2 rfl ?_
  refine gg_icmp_gt C dX6_isNear_7 (tgt := 14) (by decide) (fun _ => ?_) (fun _ => ?_)
  · refine gg_iconst C dX6_isNear_14 kI_0 ?_
    exact gg_zret C M dX6_isNear_15 rfl ⟨rfl, rfl⟩
  · refine gg_iconst C dX6_isNear_10 kI_1 ?_
    refine gg_goto C dX6_isNear_11 (tgt := 15) (by decide) ?_
    exact gg_zret C M dX6_isNear_15 rfl ⟨rfl, rfl⟩
def f_X6_add (s_b : Nat → Int32) (s_s : Nat → Int32) (s_i : Nat → Int32) (s_c : Int32) (v1 : Int32) (v2 : Int32) (v3 : Int32) : Option (Int32 × (Nat → Int32) × (Nat → Int32) × (Nat → Int32) × Int32) := if s_c < 8 then gu s_c 8 (gu s_c 8 (gu s_c 8 (some (s_c + 1, upd s_b s_c.toNatClampNeg v1, upd s_s s_c.toNatClampNeg v2, upd s_i s_c.toNatClampNeg (vp_nar .boolean v3), s_c + 1)))) else some ((-4), s_b, s_s, s_i, s_c)
set_option maxHeartbeats 4000000 in
set_option maxRecDepth 100000 in
theorem c_X6_add (l : Launch) (D : va_G) (T : Nat → ClassId) (a : Nat → Nat) (s_b : Nat → Int32) (s_s : Nat → Int32) (s_i : Nat → Int32) (s_f : Nat → Int32) (s_c : Int32) (s_q : Int32) (s_l : Int32) (v1 : Int32) (v2 : Int32) (v3 : Int32) (r : Int32 × (Nat → Int32) × (Nat → Int32) × (Nat → Int32) × Int32) (h : f_X6_add s_b s_s s_i s_c v1 v2 v3 = some r) : Kt l D T yX6_add cX6_add 4 (some .int) (0, 0, 0, 0) [.ref (a 0), .int v1, .int v2, .int v3] (wS T a s_b s_s s_i s_f s_c s_q s_l) (FF (fun (r : Int32 × (Nat → Int32) × (Nat → Int32) × (Nat → Int32) × Int32) => some (.int r.1)) (fun r => wS T a r.2.1 r.2.2.1 r.2.2.2.1 s_f r.2.2.2.2 s_q s_l) r) := by
  refine kt_of (own := RX6) (nm := "add") (lv := [(0, .ref (a 0)), (1, .int v1), (2, .int v2), (3, .int v3)]) (by decide) rfl rfl rfl (Nat.le_of_ble_eq_true rfl) h (fun X hn C M => ?_)
  have hnn : ((0, 0) : Nat × Nat).1 ≤ 0 ∧ ((0, 0) : Nat × Nat).2 ≤ 0 := ⟨Nat.le_refl 0, Nat.le_refl 0⟩
  unfold f_X6_add
  refine gg_aload_n C dX6_add_0 rfl 0 rfl ?_
  refine gf_X6_25 C 0 rfl rfl dX6_add_1 ?_
  refine gg_bipush C dX6_add_4 kB_8 ?_
  refine gg_icmp_lt C dX6_add_6 (tgt := 12) (by decide) (fun _ => ?_) (fun _ => ?_)
  · refine gg_aload_n C dX6_add_12 rfl 0 rfl ?_
    refine gf_X6_11 C 0 rfl rfl dX6_add_13 ?_
    refine gg_aload_n C dX6_add_16 rfl 0 rfl ?_
    refine gf_X6_25 C 0 rfl rfl dX6_add_17 ?_
    refine gg_iload_n C dX6_add_20 rfl 1 rfl ?_
    refine gg_iast C 1 rfl dX6_add_21 (ws' := wS T a (upd s_b s_c.toNatClampNeg v1) s_s s_i s_f s_c s_q s_l) rfl ?_
    refine gg_aload_n C dX6_add_22 rfl 0 rfl ?_
    refine gf_X6_15 C 0 rfl rfl dX6_add_23 ?_
    refine gg_aload_n C dX6_add_26 rfl 0 rfl ?_
    refine gf_X6_25 C 0 rfl rfl dX6_add_27 ?_
    refine gg_iload_n C dX6_add_30 rfl 2 rfl ?_
    refine gg_iast C 2 rfl dX6_add_31 (ws' := wS T a (upd s_b s_c.toNatClampNeg v1) (upd s_s s_c.toNatClampNeg v2) s_i s_f s_c s_q s_l) rfl ?_
    refine gg_aload_n C dX6_add_32 rfl 0 rfl ?_
    refine gf_X6_18 C 0 rfl rfl dX6_add_33 ?_
    refine gg_aload_n C dX6_add_36 rfl 0 rfl ?_
    refine gf_X6_25 C 0 rfl rfl dX6_add_37 ?_
    refine gg_iload_n C dX6_add_40 rfl 3 rfl ?_
    refine gg_zast C 3 rfl dX6_add_41 (ws' := wS T a (upd s_b s_c.toNatClampNeg v1) (upd s_s s_c.toNatClampNeg v2) (upd s_i s_c.toNatClampNeg (vp_nar .boolean v3)) s_f s_c s_q s_l) rfl ?_
    refine gg_aload_n C dX6_add_42 rfl 0 rfl ?_
    refine gg_dup C dX6_add_43 rfl ?_
    refine gf_X6_25 C 0 rfl rfl dX6_add_44 ?_
    refine gg_iconst C dX6_add_47 kI_1 ?_
    refine gg_iadd C dX6_add_48 ?_
    refine pf_X6_25 C 0 rfl (Nat.le_of_ble_eq_true rfl) dX6_add_49 (ws' := wS T a (upd s_b s_c.toNatClampNeg v1) (upd s_s s_c.toNatClampNeg v2) (upd s_i s_c.toNatClampNeg (vp_nar .boolean v3)) s_f (s_c + 1) s_q s_l) rfl ?_
    refine gg_aload_n C dX6_add_52 rfl 0 rfl ?_
    refine gf_X6_25 C 0 rfl rfl dX6_add_53 ?_
    exact gg_iret C M dX6_add_56 ⟨rfl, rfl⟩
  · refine gg_bipush C dX6_add_9 kB_m4 ?_
    exact gg_iret C M dX6_add_11 ⟨rfl, rfl⟩
def f_X6_clear (s_c : Int32) : Option (Int32 × Int32) := some (s_c, 0)
set_option maxHeartbeats 4000000 in
set_option maxRecDepth 100000 in
theorem c_X6_clear (l : Launch) (D : va_G) (T : Nat → ClassId) (a : Nat → Nat) (s_b : Nat → Int32) (s_s : Nat → Int32) (s_i : Nat → Int32) (s_f : Nat → Int32) (s_c : Int32) (s_q : Int32) (s_l : Int32) (r : Int32 × Int32) (h : f_X6_clear s_c = some r) : Kt l D T yX6_clear cX6_clear 2 (some .int) (0, 0, 0, 0) [.ref (a 0)] (wS T a s_b s_s s_i s_f s_c s_q s_l) (FF (fun (r : Int32 × Int32) => some (.int r.1)) (fun r => wS T a s_b s_s s_i s_f r.2 s_q s_l) r) := by
  refine kt_of (own := RX6) (nm := "clear") (lv := [(0, .ref (a 0))]) (by decide) rfl rfl rfl (Nat.le_of_ble_eq_true rfl) h (fun X hn C M => ?_)
  have hnn : ((0, 0) : Nat × Nat).1 ≤ 0 ∧ ((0, 0) : Nat × Nat).2 ≤ 0 := ⟨Nat.le_refl 0, Nat.le_refl 0⟩
  unfold f_X6_clear
  refine gg_aload_n C dX6_clear_0 rfl 0 rfl ?_
  refine gf_X6_25 C 0 rfl rfl dX6_clear_1 ?_
  refine gg_istore_n C dX6_clear_4 rfl hn (by decide) (lv' := [(1, .int s_c), (0, .ref (a 0))]) rfl ?_
  refine gg_aload_n C dX6_clear_5 rfl 1 rfl ?_
  refine gg_iconst C dX6_clear_6 kI_0 ?_
  refine pf_X6_25 C 0 rfl (Nat.le_of_ble_eq_true rfl) dX6_clear_7 (ws' := wS T a s_b s_s s_i s_f 0 s_q s_l) rfl ?_
  refine gg_iload_n C dX6_clear_10 rfl 0 rfl ?_
  exact gg_iret C M dX6_clear_11 ⟨rfl, rfl⟩
def f_X6_fit_L2 (y1 : Int32) (s_b : Nat → Int32) (s_s : Nat → Int32) (s_i : Nat → Int32) (s_c : Int32) : Nat → Int32 → Option ((Int32) ⊕ (Int32))
  | 0, _ => none
  | nn + 1, y2 => if s_c ≤ y2 then some (.inl y2) else if 8 ≤ y2 then some (.inl y2) else gu y2 8 (gu y2 8 (jn (f_X6_isNear y1 (s_b y2.toNatClampNeg) (s_s y2.toNatClampNeg)) (fun r1 => gu y2 8 (if r1 = s_i y2.toNatClampNeg then f_X6_fit_L2 y1 s_b s_s s_i s_c nn (y2 + 1) else some (.inr 0)))))
set_option maxHeartbeats 4000000 in
set_option maxRecDepth 100000 in
theorem g_X6_fit_L2 {X : KX} {D : va_G} {T : Nat → ClassId} {Q : (Int32) ⊕ (Int32) → State → Prop} {n : Nat × Nat} (C : Cx X D T cX6_fit RX6 { frames := 2, cells := 0, slots := 0, locals := 43 }) (hnn : n.1 ≤ 0 ∧ n.2 ≤ 0) (hn : kxL X = 3) (a : Nat → Nat)  (y1 : Int32) (s_b : Nat → Int32) (s_s : Nat → Int32) (s_i : Nat → Int32) (s_f : Nat → Int32) (s_c : Int32) (s_q : Int32) (s_l : Int32) (hk : ∀ v : Int32, GG X D Q n (wS T a s_b s_s s_i s_f s_c s_q s_l) [(0, .ref (a 0)), (1, .int y1), (2, .int v)] 49 [] (some (.inl v))) (hr0 : GG X D Q n (wS T a s_b s_s s_i s_f s_c s_q s_l) [] 42 [.int 0] (some (.inr 0))) : ∀ (nn : Nat) (y2 : Int32), GG X D Q n (wS T a s_b s_s s_i s_f s_c s_q s_l) [(0, .ref (a 0)), (1, .int y1), (2, .int y2)] 2 [] (f_X6_fit_L2 y1 s_b s_s s_i s_c nn y2) := by
  intro nn
  induction nn with
  | zero => intros; exact gg_none
  | succ nn ih =>
    intro y2
    unfold f_X6_fit_L2
    refine gg_iload_n C dX6_fit_2 rfl 2 rfl ?_
    refine gg_aload_n C dX6_fit_3 rfl 0 rfl ?_
    refine gf_X6_25 C 0 rfl rfl dX6_fit_4 ?_
    refine gg_icmp_ge C dX6_fit_7 (tgt := 49) (by decide) (fun _ => ?_) (fun _ => ?_)
    · refine gg_sub [0, 1, 2] rfl ?_
      exact hk y2
    · refine gg_iload_n C dX6_fit_10 rfl 2 rfl ?_
      refine gg_bipush C dX6_fit_11 kB_8 ?_
      refine gg_icmp_ge C dX6_fit_13 (tgt := 49) (by decide) (fun _ => ?_) (fun _ => ?_)
      · refine gg_sub [0, 1, 2] rfl ?_
        exact hk y2
      · refine gg_iload_n C dX6_fit_16 rfl 1 rfl ?_
        refine gg_aload_n C dX6_fit_17 rfl 0 rfl ?_
        refine gf_X6_11 C 0 rfl rfl dX6_fit_18 ?_
        refine gg_iload_n C dX6_fit_21 rfl 2 rfl ?_
        refine gg_iald C 1 rfl dX6_fit_22 ?_
        refine gg_aload_n C dX6_fit_23 rfl 0 rfl ?_
        refine gf_X6_15 C 0 rfl rfl dX6_fit_24 ?_
        refine gg_iload_n C dX6_fit_27 rfl 2 rfl ?_
        refine gg_iald C 2 rfl dX6_fit_28 ?_
        refine gg_callS C (fun l r h => c_X6_isNear l D T y1 (s_b y2.toNatClampNeg) (s_s y2.toNatClampNeg) r h) lk_X6_29 ⟨by decide, by decide⟩ hnn rfl (rest := []) rfl (Nat.le_of_ble_eq_true rfl) dX6_fit_29 cut_none (st2 := fun r1 => [.int r1]) (fun _ => rfl) (fun r1 => ?_)
        refine gg_aload_n C dX6_fit_32 rfl 0 rfl ?_
        refine gf_X6_18 C 0 rfl rfl dX6_fit_33 ?_
        refine gg_iload_n C dX6_fit_36 rfl 2 rfl ?_
        refine gg_zald C 3 rfl dX6_fit_37 ?_
        refine gg_icmp_eq C dX6_fit_38 (tgt := 43) (by decide) (fun _ => ?_) (fun _ => ?_)
        · refine gg_iinc C dX6_fit_43 (j := 2) rfl (v := y2 + 1) (by first | rfl | decide) hn (by decide) (lv' := [(2, .int (y2 + 1)), (0, .ref (a 0)), (1, .int y1)]) rfl ?_
          refine gg_goto C dX6_fit_46 (tgt := 2) (by decide) ?_
          refine gg_sub [1, 2, 0] rfl ?_
          exact ih (y2 + 1)
        · refine gg_iconst C dX6_fit_41 kI_0 ?_
          refine gg_sub [] rfl ?_
          exact hr0
def f_X6_fit (s_b : Nat → Int32) (s_s : Nat → Int32) (s_i : Nat → Int32) (s_c : Int32) (v1 : Int32) : Option (Int32) := jn (f_X6_fit_L2 v1 s_b s_s s_i s_c 100 0) (Sum.elim (fun z2 => some 1) some)
set_option maxHeartbeats 4000000 in
set_option maxRecDepth 100000 in
theorem c_X6_fit (l : Launch) (D : va_G) (T : Nat → ClassId) (a : Nat → Nat) (s_b : Nat → Int32) (s_s : Nat → Int32) (s_i : Nat → Int32) (s_f : Nat → Int32) (s_c : Int32) (s_q : Int32) (s_l : Int32) (v1 : Int32) (r : Int32) (h : f_X6_fit s_b s_s s_i s_c v1 = some r) : Kt l D T yX6_fit cX6_fit 3 (some .boolean) (2, 0, 0, 43) [.ref (a 0), .int v1] (wS T a s_b s_s s_i s_f s_c s_q s_l) (FF (fun (r : Int32) => some (.int r)) (fun r => wS T a s_b s_s s_i s_f s_c s_q s_l) r) := by
  refine kt_of (own := RX6) (nm := "fit") (lv := [(0, .ref (a 0)), (1, .int v1)]) (by decide) rfl rfl rfl (Nat.le_of_ble_eq_true rfl) h (fun X hn C M => ?_)
  have hnn : ((0, 0) : Nat × Nat).1 ≤ 0 ∧ ((0, 0) : Nat × Nat).2 ≤ 0 := ⟨Nat.le_refl 0, Nat.le_refl 0⟩
  unfold f_X6_fit
  refine gg_iconst C dX6_fit_0 kI_0 ?_
  refine gg_istore_n C dX6_fit_1 rfl hn (by decide) (lv' := [(2, .int 0), (0, .ref (a 0)), (1, .int v1)]) rfl ?_
  refine gg_jn ?_
  refine gg_sub [1, 2, 0] rfl ?_
  refine g_X6_fit_L2 C hnn hn a v1 s_b s_s s_i s_f s_c s_q s_l (fun z2 => gg_leafL ?_) (gg_leafR ?_) 100 0
  · refine gg_iconst C dX6_fit_49 kI_1 ?_
    exact gg_zret C M dX6_fit_50 rfl ⟨rfl, rfl⟩
  · exact gg_zret C M dX6_fit_42 rfl ⟨rfl, rfl⟩
def f_X6_countNear_L5 (y1 : Int32) (y2 : Int32) (s_f : Nat → Int32) : Nat → Int32 → Int32 → Option (Int32 × Int32)
  | 0, _, _ => none
  | nn + 1, y3, y4 => if 9 < y4 then some (y3, y4) else jn (f_X6_isNear y4 y1 y2) (fun r1 => if r1 = 0 then f_X6_countNear_L5 y1 y2 s_f nn y3 (y4 + 1) else gu y4 10 (bi (y3 + (s_f y4.toNatClampNeg)) (fun x2 => f_X6_countNear_L5 y1 y2 s_f nn x2 (y4 + 1))))
set_option maxHeartbeats 4000000 in
set_option maxRecDepth 100000 in
theorem g_X6_countNear_L5 {X : KX} {D : va_G} {T : Nat → ClassId} {Q : Int32 × Int32 → State → Prop} {n : Nat × Nat} (C : Cx X D T cX6_countNear RX6 { frames := 2, cells := 0, slots := 0, locals := 43 }) (hnn : n.1 ≤ 0 ∧ n.2 ≤ 0) (hn : kxL X = 5) (a : Nat → Nat)  (y1 : Int32) (y2 : Int32) (s_b : Nat → Int32) (s_s : Nat → Int32) (s_i : Nat → Int32) (s_f : Nat → Int32) (s_c : Int32) (s_q : Int32) (s_l : Int32) (hk : ∀ v : Int32 × Int32, GG X D Q n (wS T a s_b s_s s_i s_f s_c s_q s_l) [(0, .ref (a 0)), (1, .int y1), (2, .int y2), (3, .int v.1), (4, .int v.2)] 38 [] (some (v))) : ∀ (nn : Nat) (y3 : Int32) (y4 : Int32), GG X D Q n (wS T a s_b s_s s_i s_f s_c s_q s_l) [(0, .ref (a 0)), (1, .int y1), (2, .int y2), (3, .int y3), (4, .int y4)] 5 [] (f_X6_countNear_L5 y1 y2 s_f nn y3 y4) := by
  intro nn
  induction nn with
  | zero => intros; exact gg_none
  | succ nn ih =>
    intro y3 y4
    unfold f_X6_countNear_L5
    refine gg_iload C dX6_countNear_5 4 rfl ?_
    refine gg_bipush C dX6_countNear_7 kB_9 ?_
    refine gg_icmp_gt C dX6_countNear_9 (tgt := 38) (by decide) (fun _ => ?_) (fun _ => ?_)
    · refine gg_sub [0, 1, 2, 3, 4] rfl ?_
      exact hk (y3, y4)
    · refine gg_iload C dX6_countNear_12 4 rfl ?_
      refine gg_iload_n C dX6_countNear_14 rfl 1 rfl ?_
      refine gg_iload_n C dX6_countNear_15 rfl 2 rfl ?_
      refine gg_callS C (fun l r h => c_X6_isNear l D T y4 y1 y2 r h) lk_X6_29 ⟨by decide, by decide⟩ hnn rfl (rest := []) rfl (Nat.le_of_ble_eq_true rfl) dX6_countNear_16 cut_none (st2 := fun r1 => [.int r1]) (fun _ => rfl) (fun r1 => ?_)
      refine gg_if_eq C dX6_countNear_19 (tgt := 32) (by decide) (fun _ => ?_) (fun _ => ?_)
      · refine gg_iinc C dX6_countNear_32 (j := 4) rfl (v := y4 + 1) (by first | rfl | decide) hn (by decide) (lv' := [(4, .int (y4 + 1)), (0, .ref (a 0)), (1, .int y1), (2, .int y2), (3, .int y3)]) rfl ?_
        refine gg_goto C dX6_countNear_35 (tgt := 5) (by decide) ?_
        refine gg_sub [1, 2, 3, 4, 0] rfl ?_
        exact ih y3 (y4 + 1)
      · refine gg_iload_n C dX6_countNear_22 rfl 3 rfl ?_
        refine gg_aload_n C dX6_countNear_23 rfl 0 rfl ?_
        refine gf_X6_22 C 0 rfl rfl dX6_countNear_24 ?_
        refine gg_iload C dX6_countNear_27 4 rfl ?_
        refine gg_iald C 4 rfl dX6_countNear_29 ?_
        refine gg_iadd C dX6_countNear_30 ?_
        refine gg_bi (fun x2 => ?_)
        refine gg_istore_n C dX6_countNear_31 rfl hn (by decide) (lv' := [(3, .int x2), (0, .ref (a 0)), (1, .int y1), (2, .int y2), (4, .int y4)]) rfl ?_
        refine gg_iinc C dX6_countNear_32 (j := 4) rfl (v := y4 + 1) (by first | rfl | decide) hn (by decide) (lv' := [(4, .int (y4 + 1)), (3, .int x2), (0, .ref (a 0)), (1, .int y1), (2, .int y2)]) rfl ?_
        refine gg_goto C dX6_countNear_35 (tgt := 5) (by decide) ?_
        refine gg_sub [2, 3, 4, 1, 0] rfl ?_
        exact ih x2 (y4 + 1)
def f_X6_countNear (s_f : Nat → Int32) (v1 : Int32) (v2 : Int32) : Option (Int32) := jn (α := Int32 × Int32) (f_X6_countNear_L5 v1 v2 s_f 100 0 1) (fun z3 => some z3.1)
set_option maxHeartbeats 4000000 in
set_option maxRecDepth 100000 in
theorem c_X6_countNear (l : Launch) (D : va_G) (T : Nat → ClassId) (a : Nat → Nat) (s_b : Nat → Int32) (s_s : Nat → Int32) (s_i : Nat → Int32) (s_f : Nat → Int32) (s_c : Int32) (s_q : Int32) (s_l : Int32) (v1 : Int32) (v2 : Int32) (r : Int32) (h : f_X6_countNear s_f v1 v2 = some r) : Kt l D T yX6_countNear cX6_countNear 5 (some .int) (2, 0, 0, 43) [.ref (a 0), .int v1, .int v2] (wS T a s_b s_s s_i s_f s_c s_q s_l) (FF (fun (r : Int32) => some (.int r)) (fun r => wS T a s_b s_s s_i s_f s_c s_q s_l) r) := by
  refine kt_of (own := RX6) (nm := "countNear") (lv := [(0, .ref (a 0)), (1, .int v1), (2, .int v2)]) (by decide) rfl rfl rfl (Nat.le_of_ble_eq_true rfl) h (fun X hn C M => ?_)
  have hnn : ((0, 0) : Nat × Nat).1 ≤ 0 ∧ ((0, 0) : Nat × Nat).2 ≤ 0 := ⟨Nat.le_refl 0, Nat.le_refl 0⟩
  unfold f_X6_countNear
  refine gg_iconst C dX6_countNear_0 kI_0 ?_
  refine gg_istore_n C dX6_countNear_1 rfl hn (by decide) (lv' := [(3, .int 0), (0, .ref (a 0)), (1, .int v1), (2, .int v2)]) rfl ?_
  refine gg_iconst C dX6_countNear_2 kI_1 ?_
  refine gg_istore C dX6_countNear_3 hn (by decide) (lv' := [(4, .int 1), (3, .int 0), (0, .ref (a 0)), (1, .int v1), (2, .int v2)]) rfl ?_
  refine gg_join (α := Int32 × Int32) 38 (fun z3 => wS T a s_b s_s s_i s_f s_c s_q s_l) (fun z3 => [(0, .ref (a 0)), (1, .int v1), (2, .int v2), (3, .int z3.1), (4, .int z3.2)]) (fun z3 => []) (fun z3 => ?_) (fun K4 => ?_)
  · refine gg_iload_n C dX6_countNear_38 rfl 3 rfl ?_
    exact gg_iret C M dX6_countNear_39 ⟨rfl, rfl⟩
  · refine gg_sub [2, 3, 4, 1, 0] rfl ?_
    exact g_X6_countNear_L5 C hnn hn a v1 v2 s_b s_s s_i s_f s_c s_q s_l K4 100 0 1
def f_X6_countFitting_L2  : Nat → Int32 → (Nat → Int32) → Option (Int32 × (Nat → Int32))
  | 0, _, _ => none
  | nn + 1, y2, s_f => if 9 < y2 then some (y2, s_f) else gu y2 10 (f_X6_countFitting_L2 nn (y2 + 1) (upd s_f y2.toNatClampNeg 0))
set_option maxHeartbeats 4000000 in
set_option maxRecDepth 100000 in
theorem g_X6_countFitting_L2 {X : KX} {D : va_G} {T : Nat → ClassId} {Q : Int32 × (Nat → Int32) → State → Prop} {n : Nat × Nat} (C : Cx X D T cX6_countFitting RX6 { frames := 3, cells := 0, slots := 0, locals := 65 }) (hnn : n.1 ≤ 0 ∧ n.2 ≤ 0) (hn : kxL X = 5) (a : Nat → Nat) (x : Nat)  (s_b : Nat → Int32) (s_s : Nat → Int32) (s_i : Nat → Int32) (s_c : Int32) (s_q : Int32) (s_l : Int32) (w_f : Nat → Int32) (hk : ∀ v : Int32 × (Nat → Int32), GG X D Q n (wS T a s_b s_s s_i v.2 s_c s_q s_l ++ (wA T x 40 w_f)) [(0, .ref (a 0)), (1, .ref x), (2, .int v.1)] 21 [] (some (v))) : ∀ (nn : Nat) (y2 : Int32) (s_f : Nat → Int32), GG X D Q n (wS T a s_b s_s s_i s_f s_c s_q s_l ++ (wA T x 40 w_f)) [(0, .ref (a 0)), (1, .ref x), (2, .int y2)] 2 [] (f_X6_countFitting_L2 nn y2 s_f) := by
  intro nn
  induction nn with
  | zero => intros; exact gg_none
  | succ nn ih =>
    intro y2 s_f
    unfold f_X6_countFitting_L2
    refine gg_iload_n C dX6_countFitting_2 rfl 2 rfl ?_
    refine gg_bipush C dX6_countFitting_3 kB_9 ?_
    refine gg_icmp_gt C dX6_countFitting_5 (tgt := 21) (by decide) (fun _ => ?_) (fun _ => ?_)
    · refine gg_sub [0, 1, 2] rfl ?_
      exact hk (y2, s_f)
    · refine gg_aload_n C dX6_countFitting_8 rfl 0 rfl ?_
      refine gf_X6_22 C 0 rfl rfl dX6_countFitting_9 ?_
      refine gg_iload_n C dX6_countFitting_12 rfl 2 rfl ?_
      refine gg_iconst C dX6_countFitting_13 kI_0 ?_
      refine gg_iast C 4 rfl dX6_countFitting_14 (ws' := wS T a s_b s_s s_i (upd s_f y2.toNatClampNeg 0) s_c s_q s_l ++ (wA T x 40 w_f)) rfl ?_
      refine gg_iinc C dX6_countFitting_15 (j := 2) rfl (v := y2 + 1) (by first | rfl | decide) hn (by decide) (lv' := [(2, .int (y2 + 1)), (0, .ref (a 0)), (1, .ref x)]) rfl ?_
      refine gg_goto C dX6_countFitting_18 (tgt := 2) (by decide) ?_
      refine gg_sub [1, 2, 0] rfl ?_
      exact ih (y2 + 1) (upd s_f y2.toNatClampNeg 0)
def f_X6_countFitting_L25 (s_b : Nat → Int32) (s_s : Nat → Int32) (s_i : Nat → Int32) (s_c : Int32) (w_f : Nat → Int32) : Nat → Int32 → Int32 → (Nat → Int32) → Option (Int32 × Int32 × (Nat → Int32))
  | 0, _, _, _ => none
  | nn + 1, y2, y3, s_f => if 40 ≤ y3 then some (y2, y3, s_f) else gu y3 40 (bi (w_f y3.toNatClampNeg) (fun x2 => jn (f_X8_isBeat x2) (fun r3 => if r3 = 0 then f_X6_countFitting_L25 s_b s_s s_i s_c w_f nn y2 (y3 + 1) s_f else jn (f_X6_fit s_b s_s s_i s_c x2) (fun r4 => if r4 = 0 then f_X6_countFitting_L25 s_b s_s s_i s_c w_f nn y2 (y3 + 1) s_f else gu x2 10 (gu x2 10 (f_X6_countFitting_L25 s_b s_s s_i s_c w_f nn (y2 + 1) (y3 + 1) (upd s_f x2.toNatClampNeg ((s_f x2.toNatClampNeg) + 1))))))))
set_option maxHeartbeats 4000000 in
set_option maxRecDepth 100000 in
theorem g_X6_countFitting_L25 {X : KX} {D : va_G} {T : Nat → ClassId} {Q : Int32 × Int32 × (Nat → Int32) → State → Prop} {n : Nat × Nat} (C : Cx X D T cX6_countFitting RX6 { frames := 3, cells := 0, slots := 0, locals := 65 }) (hnn : n.1 ≤ 0 ∧ n.2 ≤ 0) (hn : kxL X = 5) (a : Nat → Nat) (x : Nat)  (s_b : Nat → Int32) (s_s : Nat → Int32) (s_i : Nat → Int32) (s_c : Int32) (s_q : Int32) (s_l : Int32) (w_f : Nat → Int32) (hk : ∀ v : Int32 × Int32 × (Nat → Int32), GG X D Q n (wS T a s_b s_s s_i v.2.2 s_c s_q s_l ++ (wA T x 40 w_f)) [(0, .ref (a 0)), (1, .ref x), (2, .int v.1), (3, .int v.2.1)] 73 [] (some (v))) : ∀ (nn : Nat) (y2 : Int32) (y3 : Int32) (s_f : Nat → Int32), GG X D Q n (wS T a s_b s_s s_i s_f s_c s_q s_l ++ (wA T x 40 w_f)) [(0, .ref (a 0)), (1, .ref x), (2, .int y2), (3, .int y3)] 25 [] (f_X6_countFitting_L25 s_b s_s s_i s_c w_f nn y2 y3 s_f) := by
  intro nn
  induction nn with
  | zero => intros; exact gg_none
  | succ nn ih =>
    intro y2 y3 s_f
    unfold f_X6_countFitting_L25
    refine gg_iload_n C dX6_countFitting_25 rfl 3 rfl ?_
    refine gg_aload_n C dX6_countFitting_26 rfl 1 rfl ?_
    refine gg_alen C 5 rfl (v := 40) (by decide) dX6_countFitting_27 ?_
    refine gg_icmp_ge C dX6_countFitting_28 (tgt := 73) (by decide) (fun _ => ?_) (fun _ => ?_)
    · refine gg_sub [0, 1, 2, 3] rfl ?_
      exact hk (y2, y3, s_f)
    · refine gg_aload_n C dX6_countFitting_31 rfl 1 rfl ?_
      refine gg_iload_n C dX6_countFitting_32 rfl 3 rfl ?_
      refine gg_iald C 5 rfl dX6_countFitting_33 ?_
      refine gg_bi (fun x2 => ?_)
      refine gg_istore C dX6_countFitting_34 hn (by decide) (lv' := [(4, .int x2), (0, .ref (a 0)), (1, .ref x), (2, .int y2), (3, .int y3)]) rfl ?_
      refine gg_iload C dX6_countFitting_36 0 rfl ?_
      refine gg_callN C (fun l r h => c_X8_isBeat l D T x2 r h) lk_X6_52 ⟨by decide, by decide⟩ hnn rfl (rest := []) rfl (Nat.le_of_ble_eq_true rfl) dX6_countFitting_38 cut_none (st2 := fun r3 => [.int r3]) (fun _ => rfl) (fun r3 => ?_)
      refine gg_if_eq C dX6_countFitting_41 (tgt := 67) (by decide) (fun _ => ?_) (fun _ => ?_)
      · refine gg_iinc C dX6_countFitting_67 (j := 4) rfl (v := y3 + 1) (by first | rfl | decide) hn (by decide) (lv' := [(3, .int (y3 + 1)), (4, .int x2), (0, .ref (a 0)), (1, .ref x), (2, .int y2)]) rfl ?_
        refine gg_goto C dX6_countFitting_70 (tgt := 25) (by decide) ?_
        refine gg_sub [2, 3, 4, 0] rfl ?_
        exact ih y2 (y3 + 1) s_f
      · refine gg_aload_n C dX6_countFitting_44 rfl 1 rfl ?_
        refine gg_iload C dX6_countFitting_45 0 rfl ?_
        refine gg_callV C (fun l r h => c_X6_fit l D T a s_b s_s s_i s_f s_c s_q s_l x2 r h) lk_X6_56 ⟨by decide, by decide⟩ hnn rfl (rest := []) rfl (Nat.le_of_ble_eq_true rfl) 0 rfl rfl dX6_countFitting_47 (ws2 := fun r4 => wS T a s_b s_s s_i s_f s_c s_q s_l ++ (wA T x 40 w_f)) (cut_part 6 [0, 1, 2, 3, 4] [5] rfl (by decide) rfl (fun _ => rfl) (fun _ => rfl) (fun _ => rfl)) (st2 := fun r4 => [.int r4]) (fun _ => rfl) (fun r4 => ?_)
        refine gg_if_eq C dX6_countFitting_50 (tgt := 67) (by decide) (fun _ => ?_) (fun _ => ?_)
        · refine gg_iinc C dX6_countFitting_67 (j := 4) rfl (v := y3 + 1) (by first | rfl | decide) hn (by decide) (lv' := [(3, .int (y3 + 1)), (4, .int x2), (0, .ref (a 0)), (1, .ref x), (2, .int y2)]) rfl ?_
          refine gg_goto C dX6_countFitting_70 (tgt := 25) (by decide) ?_
          refine gg_sub [2, 3, 4, 0] rfl ?_
          exact ih y2 (y3 + 1) s_f
        · refine gg_aload_n C dX6_countFitting_53 rfl 1 rfl ?_
          refine gf_X6_22 C 0 rfl rfl dX6_countFitting_54 ?_
          refine gg_iload C dX6_countFitting_57 0 rfl ?_
          refine gg_dup2 C dX6_countFitting_59 rfl rfl ?_
          refine gg_iald C 4 rfl dX6_countFitting_60 ?_
          refine gg_iconst C dX6_countFitting_61 kI_1 ?_
          refine gg_iadd C dX6_countFitting_62 ?_
          refine gg_iast C 4 rfl dX6_countFitting_63 (ws' := wS T a s_b s_s s_i (upd s_f x2.toNatClampNeg ((s_f x2.toNatClampNeg) + 1)) s_c s_q s_l ++ (wA T x 40 w_f)) rfl ?_
          refine gg_iinc C dX6_countFitting_64 (j := 3) rfl (v := y2 + 1) (by first | rfl | decide) hn (by decide) (lv' := [(2, .int (y2 + 1)), (4, .int x2), (0, .ref (a 0)), (1, .ref x), (3, .int y3)]) rfl ?_
          refine gg_iinc C dX6_countFitting_67 (j := 4) rfl (v := y3 + 1) (by first | rfl | decide) hn (by decide) (lv' := [(3, .int (y3 + 1)), (2, .int (y2 + 1)), (4, .int x2), (0, .ref (a 0)), (1, .ref x)]) rfl ?_
          refine gg_goto C dX6_countFitting_70 (tgt := 25) (by decide) ?_
          refine gg_sub [3, 4, 1, 0] rfl ?_
          exact ih (y2 + 1) (y3 + 1) (upd s_f x2.toNatClampNeg ((s_f x2.toNatClampNeg) + 1))
def f_X6_countFitting (s_b : Nat → Int32) (s_s : Nat → Int32) (s_i : Nat → Int32) (s_f : Nat → Int32) (s_c : Int32) (w_f : Nat → Int32) : Option (Int32 × (Nat → Int32)) := jn (α := Int32 × (Nat → Int32)) (f_X6_countFitting_L2 100 0 s_f) (fun z1 => jn (α := Int32 × Int32 × (Nat → Int32)) (f_X6_countFitting_L25 s_b s_s s_i s_c w_f 100 0 0 z1.2) (fun z5 => some (z5.1, z5.2.2)))
set_option maxHeartbeats 4000000 in
set_option maxRecDepth 100000 in
theorem c_X6_countFitting (l : Launch) (D : va_G) (T : Nat → ClassId) (a : Nat → Nat) (x : Nat) (s_b : Nat → Int32) (s_s : Nat → Int32) (s_i : Nat → Int32) (s_f : Nat → Int32) (s_c : Int32) (s_q : Int32) (s_l : Int32) (w_f : Nat → Int32) (r : Int32 × (Nat → Int32)) (h : f_X6_countFitting s_b s_s s_i s_f s_c w_f = some r) : Kt l D T yX6_countFitting cX6_countFitting 5 (some .int) (3, 0, 0, 65) [.ref (a 0), .ref x] (wS T a s_b s_s s_i s_f s_c s_q s_l ++ (wA T x 40 w_f)) (FF (fun (r : Int32 × (Nat → Int32)) => some (.int r.1)) (fun r => wS T a s_b s_s s_i r.2 s_c s_q s_l ++ (wA T x 40 w_f)) r) := by
  refine kt_of (own := RX6) (nm := "countFitting") (lv := [(0, .ref (a 0)), (1, .ref x)]) (by decide) rfl rfl rfl (Nat.le_of_ble_eq_true rfl) h (fun X hn C M => ?_)
  have hnn : ((0, 0) : Nat × Nat).1 ≤ 0 ∧ ((0, 0) : Nat × Nat).2 ≤ 0 := ⟨Nat.le_refl 0, Nat.le_refl 0⟩
  unfold f_X6_countFitting
  refine gg_iconst C dX6_countFitting_0 kI_0 ?_
  refine gg_istore_n C dX6_countFitting_1 rfl hn (by decide) (lv' := [(2, .int 0), (0, .ref (a 0)), (1, .ref x)]) rfl ?_
  refine gg_join (α := Int32 × (Nat → Int32)) 21 (fun z1 => wS T a s_b s_s s_i z1.2 s_c s_q s_l ++ (wA T x 40 w_f)) (fun z1 => [(0, .ref (a 0)), (1, .ref x), (2, .int z1.1)]) (fun z1 => []) (fun z1 => ?_) (fun K7 => ?_)
  · refine gg_iconst C dX6_countFitting_21 kI_0 ?_
    refine gg_istore_n C dX6_countFitting_22 rfl hn (by decide) (lv' := [(2, .int 0), (0, .ref (a 0)), (1, .ref x)]) rfl ?_
    refine gg_iconst C dX6_countFitting_23 kI_0 ?_
    refine gg_istore_n C dX6_countFitting_24 rfl hn (by decide) (lv' := [(3, .int 0), (2, .int 0), (0, .ref (a 0)), (1, .ref x)]) rfl ?_
    refine gg_join (α := Int32 × Int32 × (Nat → Int32)) 73 (fun z5 => wS T a s_b s_s s_i z5.2.2 s_c s_q s_l ++ (wA T x 40 w_f)) (fun z5 => [(0, .ref (a 0)), (1, .ref x), (2, .int z5.1), (3, .int z5.2.1)]) (fun z5 => []) (fun z5 => ?_) (fun K6 => ?_)
    · refine gg_iload_n C dX6_countFitting_73 rfl 2 rfl ?_
      exact gg_iret C M dX6_countFitting_74 ⟨rfl, rfl⟩
    · refine gg_sub [2, 3, 1, 0] rfl ?_
      exact g_X6_countFitting_L25 C hnn hn a x s_b s_s s_i s_c s_q s_l w_f K6 100 0 0 z1.2
  · refine gg_sub [1, 2, 0] rfl ?_
    exact g_X6_countFitting_L2 C hnn hn a x s_b s_s s_i s_c s_q s_l w_f K7 100 0 s_f
def f_X6_findQuestion_L34 (y2 : Int32) (y3 : Int32) (s_f : Nat → Int32) : Nat → Int32 → Int32 → Int32 → Option (Int32 × Int32 × Int32)
  | 0, _, _, _ => none
  | nn + 1, y4, s_q, s_l => if 9 ≤ y4 then some (y4, s_q, s_l) else jn (f_X6_countNear s_f y3 y4) (fun r2 => bi (if r2 < (y2 - r2) then (y2 - r2) else r2) (fun x3 => if s_q = (-6) then f_X6_findQuestion_L34 y2 y3 s_f nn (y4 + 1) ((10 * y3) + y4) x3 else if s_l ≤ x3 then f_X6_findQuestion_L34 y2 y3 s_f nn (y4 + 1) s_q s_l else f_X6_findQuestion_L34 y2 y3 s_f nn (y4 + 1) ((10 * y3) + y4) x3))
set_option maxHeartbeats 4000000 in
set_option maxRecDepth 100000 in
theorem g_X6_findQuestion_L34 {X : KX} {D : va_G} {T : Nat → ClassId} {Q : Int32 × Int32 × Int32 → State → Prop} {n : Nat × Nat} (C : Cx X D T cX6_findQuestion RX6 { frames := 4, cells := 0, slots := 0, locals := 89 }) (hnn : n.1 ≤ 0 ∧ n.2 ≤ 0) (hn : kxL X = 7) (a : Nat → Nat) (x : Nat)  (y2 : Int32) (y3 : Int32) (s_b : Nat → Int32) (s_s : Nat → Int32) (s_i : Nat → Int32) (s_f : Nat → Int32) (s_c : Int32) (w_f : Nat → Int32) (hk : ∀ v : Int32 × Int32 × Int32, GG X D Q n (wS T a s_b s_s s_i s_f s_c v.2.1 v.2.2 ++ (wA T x 40 w_f)) [(0, .ref (a 0)), (1, .ref x), (2, .int y2), (3, .int y3), (4, .int v.1)] 102 [] (some (v))) : ∀ (nn : Nat) (y4 : Int32) (s_q : Int32) (s_l : Int32), GG X D Q n (wS T a s_b s_s s_i s_f s_c s_q s_l ++ (wA T x 40 w_f)) [(0, .ref (a 0)), (1, .ref x), (2, .int y2), (3, .int y3), (4, .int y4)] 34 [] (f_X6_findQuestion_L34 y2 y3 s_f nn y4 s_q s_l) := by
  intro nn
  induction nn with
  | zero => intros; exact gg_none
  | succ nn ih =>
    intro y4 s_q s_l
    unfold f_X6_findQuestion_L34
    refine gg_iload C dX6_findQuestion_34 4 rfl ?_
    refine gg_bipush C dX6_findQuestion_36 kB_9 ?_
    refine gg_icmp_ge C dX6_findQuestion_38 (tgt := 102) (by decide) (fun _ => ?_) (fun _ => ?_)
    · refine gg_sub [0, 1, 2, 3, 4] rfl ?_
      exact hk (y4, s_q, s_l)
    · refine gg_aload_n C dX6_findQuestion_41 rfl 0 rfl ?_
      refine gg_iload_n C dX6_findQuestion_42 rfl 3 rfl ?_
      refine gg_iload C dX6_findQuestion_43 4 rfl ?_
      refine gg_callV C (fun l r h => c_X6_countNear l D T a s_b s_s s_i s_f s_c s_q s_l y3 y4 r h) lk_X6_43 ⟨by decide, by decide⟩ hnn rfl (rest := []) rfl (Nat.le_of_ble_eq_true rfl) 0 rfl rfl dX6_findQuestion_45 (ws2 := fun r2 => wS T a s_b s_s s_i s_f s_c s_q s_l ++ (wA T x 40 w_f)) (cut_part 6 [0, 1, 2, 3, 4] [5] rfl (by decide) rfl (fun _ => rfl) (fun _ => rfl) (fun _ => rfl)) (st2 := fun r2 => [.int r2]) (fun _ => rfl) (fun r2 => ?_)
      refine gg_istore C dX6_findQuestion_48 hn (by decide) (lv' := [(5, .int r2), (0, .ref (a 0)), (1, .ref x), (2, .int y2), (3, .int y3), (4, .int y4)]) rfl ?_
      refine gg_iload C dX6_findQuestion_50 0 rfl ?_
      refine gg_iload_n C dX6_findQuestion_52 rfl 3 rfl ?_
      refine gg_iload C dX6_findQuestion_53 0 rfl ?_
      refine gg_isub C dX6_findQuestion_55 ?_
      refine gg_mmax C tw_470 tw_420 tw_9 tw_421 (by decide) (Nat.le_of_ble_eq_true rfl) hnn dX6_findQuestion_56 ?_
      refine gg_bi (fun x3 => ?_)
      refine gg_istore C dX6_findQuestion_59 hn (by decide) (lv' := [(6, .int x3), (5, .int r2), (0, .ref (a 0)), (1, .ref x), (2, .int y2), (3, .int y3), (4, .int y4)]) rfl ?_
      refine gg_aload_n C dX6_findQuestion_61 rfl 2 rfl ?_
      refine gf_X6_33 C 0 rfl rfl dX6_findQuestion_62 ?_
      refine gg_bipush C dX6_findQuestion_65 kB_m6 ?_
      refine gg_icmp_eq C dX6_findQuestion_67 (tgt := 79) (by decide) (fun _ => ?_) (fun _ => ?_)
      · refine gg_aload_n C dX6_findQuestion_79 rfl 2 rfl ?_
        refine gg_bipush C dX6_findQuestion_80 kB_10 ?_
        refine gg_iload_n C dX6_findQuestion_82 rfl 5 rfl ?_
        refine gg_imul C dX6_findQuestion_83 ?_
        refine gg_iload C dX6_findQuestion_84 6 rfl ?_
        refine gg_iadd C dX6_findQuestion_86 ?_
        refine pf_X6_33 C 0 rfl (Nat.le_of_ble_eq_true rfl) dX6_findQuestion_87 (ws' := wS T a s_b s_s s_i s_f s_c ((10 * y3) + y4) s_l ++ (wA T x 40 w_f)) rfl ?_
        refine gg_aload_n C dX6_findQuestion_90 rfl 2 rfl ?_
        refine gg_iload C dX6_findQuestion_91 0 rfl ?_
        refine pf_X6_36 C 0 rfl (Nat.le_of_ble_eq_true rfl) dX6_findQuestion_93 (ws' := wS T a s_b s_s s_i s_f s_c ((10 * y3) + y4) x3 ++ (wA T x 40 w_f)) rfl ?_
        refine gg_iinc C dX6_findQuestion_96 (j := 6) rfl (v := y4 + 1) (by first | rfl | decide) hn (by decide) (lv' := [(4, .int (y4 + 1)), (6, .int x3), (5, .int r2), (0, .ref (a 0)), (1, .ref x), (2, .int y2), (3, .int y3)]) rfl ?_
        refine gg_goto C dX6_findQuestion_99 (tgt := 34) (by decide) ?_
        refine gg_sub [3, 4, 5, 6, 0] rfl ?_
        exact ih (y4 + 1) ((10 * y3) + y4) x3
      · refine gg_iload C dX6_findQuestion_70 0 rfl ?_
        refine gg_aload_n C dX6_findQuestion_72 rfl 2 rfl ?_
        refine gf_X6_36 C 0 rfl rfl dX6_findQuestion_73 ?_
        refine gg_icmp_ge C dX6_findQuestion_76 (tgt := 96) (by decide) (fun _ => ?_) (fun _ => ?_)
        · refine gg_iinc C dX6_findQuestion_96 (j := 6) rfl (v := y4 + 1) (by first | rfl | decide) hn (by decide) (lv' := [(4, .int (y4 + 1)), (6, .int x3), (5, .int r2), (0, .ref (a 0)), (1, .ref x), (2, .int y2), (3, .int y3)]) rfl ?_
          refine gg_goto C dX6_findQuestion_99 (tgt := 34) (by decide) ?_
          refine gg_sub [3, 4, 5, 6, 0] rfl ?_
          exact ih (y4 + 1) s_q s_l
        · refine gg_aload_n C dX6_findQuestion_79 rfl 2 rfl ?_
          refine gg_bipush C dX6_findQuestion_80 kB_10 ?_
          refine gg_iload_n C dX6_findQuestion_82 rfl 5 rfl ?_
          refine gg_imul C dX6_findQuestion_83 ?_
          refine gg_iload C dX6_findQuestion_84 6 rfl ?_
          refine gg_iadd C dX6_findQuestion_86 ?_
          refine pf_X6_33 C 0 rfl (Nat.le_of_ble_eq_true rfl) dX6_findQuestion_87 (ws' := wS T a s_b s_s s_i s_f s_c ((10 * y3) + y4) s_l ++ (wA T x 40 w_f)) rfl ?_
          refine gg_aload_n C dX6_findQuestion_90 rfl 2 rfl ?_
          refine gg_iload C dX6_findQuestion_91 0 rfl ?_
          refine pf_X6_36 C 0 rfl (Nat.le_of_ble_eq_true rfl) dX6_findQuestion_93 (ws' := wS T a s_b s_s s_i s_f s_c ((10 * y3) + y4) x3 ++ (wA T x 40 w_f)) rfl ?_
          refine gg_iinc C dX6_findQuestion_96 (j := 6) rfl (v := y4 + 1) (by first | rfl | decide) hn (by decide) (lv' := [(4, .int (y4 + 1)), (6, .int x3), (5, .int r2), (0, .ref (a 0)), (1, .ref x), (2, .int y2), (3, .int y3)]) rfl ?_
          refine gg_goto C dX6_findQuestion_99 (tgt := 34) (by decide) ?_
          refine gg_sub [3, 4, 5, 6, 0] rfl ?_
          exact ih (y4 + 1) ((10 * y3) + y4) x3
def f_X6_findQuestion_L25 (y2 : Int32) (s_f : Nat → Int32) : Nat → Int32 → Int32 → Int32 → Option (Int32 × Int32 × Int32)
  | 0, _, _, _ => none
  | nn + 1, y3, s_q, s_l => if 9 < y3 then some (y3, s_q, s_l) else jn (α := Int32 × Int32 × Int32) (f_X6_findQuestion_L34 y2 y3 s_f 100 0 s_q s_l) (fun z4 => f_X6_findQuestion_L25 y2 s_f nn (y3 + 1) z4.2.1 z4.2.2)
set_option maxHeartbeats 4000000 in
set_option maxRecDepth 100000 in
theorem g_X6_findQuestion_L25 {X : KX} {D : va_G} {T : Nat → ClassId} {Q : Int32 × Int32 × Int32 → State → Prop} {n : Nat × Nat} (C : Cx X D T cX6_findQuestion RX6 { frames := 4, cells := 0, slots := 0, locals := 89 }) (hnn : n.1 ≤ 0 ∧ n.2 ≤ 0) (hn : kxL X = 7) (a : Nat → Nat) (x : Nat)  (y2 : Int32) (s_b : Nat → Int32) (s_s : Nat → Int32) (s_i : Nat → Int32) (s_f : Nat → Int32) (s_c : Int32) (w_f : Nat → Int32) (hk : ∀ v : Int32 × Int32 × Int32, GG X D Q n (wS T a s_b s_s s_i s_f s_c v.2.1 v.2.2 ++ (wA T x 40 w_f)) [(0, .ref (a 0)), (1, .ref x), (2, .int y2), (3, .int v.1)] 108 [] (some (v))) : ∀ (nn : Nat) (y3 : Int32) (s_q : Int32) (s_l : Int32), GG X D Q n (wS T a s_b s_s s_i s_f s_c s_q s_l ++ (wA T x 40 w_f)) [(0, .ref (a 0)), (1, .ref x), (2, .int y2), (3, .int y3)] 25 [] (f_X6_findQuestion_L25 y2 s_f nn y3 s_q s_l) := by
  intro nn
  induction nn with
  | zero => intros; exact gg_none
  | succ nn ih =>
    intro y3 s_q s_l
    unfold f_X6_findQuestion_L25
    refine gg_iload_n C dX6_findQuestion_25 rfl 3 rfl ?_
    refine gg_bipush C dX6_findQuestion_26 kB_9 ?_
    refine gg_icmp_gt C dX6_findQuestion_28 (tgt := 108) (by decide) (fun _ => ?_) (fun _ => ?_)
    · refine gg_sub [0, 1, 2, 3] rfl ?_
      exact hk (y3, s_q, s_l)
    · refine gg_iconst C dX6_findQuestion_31 kI_0 ?_
      refine gg_istore C dX6_findQuestion_32 hn (by decide) (lv' := [(4, .int 0), (0, .ref (a 0)), (1, .ref x), (2, .int y2), (3, .int y3)]) rfl ?_
      refine gg_join (α := Int32 × Int32 × Int32) 102 (fun z4 => wS T a s_b s_s s_i s_f s_c z4.2.1 z4.2.2 ++ (wA T x 40 w_f)) (fun z4 => [(0, .ref (a 0)), (1, .ref x), (2, .int y2), (3, .int y3), (4, .int z4.1)]) (fun z4 => []) (fun z4 => ?_) (fun K5 => ?_)
      · refine gg_iinc C dX6_findQuestion_102 (j := 3) rfl (v := y3 + 1) (by first | rfl | decide) hn (by decide) (lv' := [(3, .int (y3 + 1)), (0, .ref (a 0)), (1, .ref x), (2, .int y2), (4, .int z4.1)]) rfl ?_
        refine gg_goto C dX6_findQuestion_105 (tgt := 25) (by decide) ?_
        refine gg_sub [1, 2, 3, 0] rfl ?_
        exact ih (y3 + 1) z4.2.1 z4.2.2
      · refine gg_sub [1, 2, 3, 4, 0] rfl ?_
        exact g_X6_findQuestion_L34 C hnn hn a x y2 y3 s_b s_s s_i s_f s_c w_f K5 100 0 s_q s_l
def f_X6_findQuestion (s_b : Nat → Int32) (s_s : Nat → Int32) (s_i : Nat → Int32) (s_f : Nat → Int32) (s_c : Int32) (w_f : Nat → Int32) : Option ((Nat → Int32) × Int32 × Int32) := jn (f_X6_countFitting s_b s_s s_i s_f s_c w_f) (fun r1 => if r1.1 = 0 then some (r1.2, (-6), (-6)) else jn (α := Int32 × Int32 × Int32) (f_X6_findQuestion_L25 r1.1 r1.2 100 1 (-6) (-6)) (fun z6 => some (r1.2, z6.2.1, z6.2.2)))
set_option maxHeartbeats 4000000 in
set_option maxRecDepth 100000 in
theorem c_X6_findQuestion (l : Launch) (D : va_G) (T : Nat → ClassId) (a : Nat → Nat) (x : Nat) (s_b : Nat → Int32) (s_s : Nat → Int32) (s_i : Nat → Int32) (s_f : Nat → Int32) (s_c : Int32) (s_q : Int32) (s_l : Int32) (w_f : Nat → Int32) (r : (Nat → Int32) × Int32 × Int32) (h : f_X6_findQuestion s_b s_s s_i s_f s_c w_f = some r) : Kt l D T yX6_findQuestion cX6_findQuestion 7 none (4, 0, 0, 89) [.ref (a 0), .ref x] (wS T a s_b s_s s_i s_f s_c s_q s_l ++ (wA T x 40 w_f)) (FF (fun (r : (Nat → Int32) × Int32 × Int32) => none) (fun r => wS T a s_b s_s s_i r.1 s_c r.2.1 r.2.2 ++ (wA T x 40 w_f)) r) := by
  refine kt_of (own := RX6) (nm := "findQuestion") (lv := [(0, .ref (a 0)), (1, .ref x)]) (by decide) rfl rfl rfl (Nat.le_of_ble_eq_true rfl) h (fun X hn C M => ?_)
  have hnn : ((0, 0) : Nat × Nat).1 ≤ 0 ∧ ((0, 0) : Nat × Nat).2 ≤ 0 := ⟨Nat.le_refl 0, Nat.le_refl 0⟩
  unfold f_X6_findQuestion
  refine gg_aload_n C dX6_findQuestion_0 rfl 0 rfl ?_
  refine gg_bipush C dX6_findQuestion_1 kB_m6 ?_
  refine pf_X6_33 C 0 rfl (Nat.le_of_ble_eq_true rfl) dX6_findQuestion_3 (ws' := wS T a s_b s_s s_i s_f s_c (-6) s_l ++ (wA T x 40 w_f)) rfl ?_
  refine gg_aload_n C dX6_findQuestion_6 rfl 0 rfl ?_
  refine gg_bipush C dX6_findQuestion_7 kB_m6 ?_
  refine pf_X6_36 C 0 rfl (Nat.le_of_ble_eq_true rfl) dX6_findQuestion_9 (ws' := wS T a s_b s_s s_i s_f s_c (-6) (-6) ++ (wA T x 40 w_f)) rfl ?_
  refine gg_aload_n C dX6_findQuestion_12 rfl 0 rfl ?_
  refine gg_aload_n C dX6_findQuestion_13 rfl 1 rfl ?_
  refine gg_callV C (fun l r h => c_X6_countFitting l D T a x s_b s_s s_i s_f s_c (-6) (-6) w_f r h) lk_X6_39 ⟨by decide, by decide⟩ hnn rfl (rest := []) rfl (Nat.le_of_ble_eq_true rfl) 0 rfl rfl dX6_findQuestion_14 (ws2 := fun r1 => wS T a s_b s_s s_i r1.2 s_c (-6) (-6) ++ (wA T x 40 w_f)) (cut_full (fun _ => rfl)) (st2 := fun r1 => [.int r1.1]) (fun _ => rfl) (fun r1 => ?_)
  refine gg_istore_n C dX6_findQuestion_17 rfl hn (by decide) (lv' := [(2, .int r1.1), (0, .ref (a 0)), (1, .ref x)]) rfl ?_
  refine gg_iload_n C dX6_findQuestion_18 rfl 0 rfl ?_
  refine gg_if_ne C dX6_findQuestion_19 (tgt := 23) (by decide) (fun _ => ?_) (fun _ => ?_)
  · refine gg_iconst C dX6_findQuestion_23 kI_1 ?_
    refine gg_istore_n C dX6_findQuestion_24 rfl hn (by decide) (lv' := [(3, .int 1), (2, .int r1.1), (0, .ref (a 0)), (1, .ref x)]) rfl ?_
    refine gg_join (α := Int32 × Int32 × Int32) 108 (fun z6 => wS T a s_b s_s s_i r1.2 s_c z6.2.1 z6.2.2 ++ (wA T x 40 w_f)) (fun z6 => [(0, .ref (a 0)), (1, .ref x), (2, .int r1.1), (3, .int z6.1)]) (fun z6 => []) (fun z6 => ?_) (fun K7 => ?_)
    · exact gg_vret C M dX6_findQuestion_108 ⟨rfl, rfl⟩
    · refine gg_sub [2, 3, 1, 0] rfl ?_
      exact g_X6_findQuestion_L25 C hnn hn a x r1.1 s_b s_s s_i r1.2 s_c w_f K7 100 1 (-6) (-6)
  · exact gg_vret C M dX6_findQuestion_22 ⟨rfl, rfl⟩
def f_X6_copyFrom_L2 (t_b : Nat → Int32) (t_s : Nat → Int32) (t_i : Nat → Int32) : Nat → Int32 → (Nat → Int32) → (Nat → Int32) → (Nat → Int32) → Option (Int32 × (Nat → Int32) × (Nat → Int32) × (Nat → Int32))
  | 0, _, _, _, _ => none
  | nn + 1, y2, s_b, s_s, s_i => if 8 ≤ y2 then some (y2, s_b, s_s, s_i) else gu y2 8 (gu y2 8 (gu y2 8 (gu y2 8 (gu y2 8 (gu y2 8 (f_X6_copyFrom_L2 t_b t_s t_i nn (y2 + 1) (upd s_b y2.toNatClampNeg (t_b y2.toNatClampNeg)) (upd s_s y2.toNatClampNeg (t_s y2.toNatClampNeg)) (upd s_i y2.toNatClampNeg (vp_nar .boolean (t_i y2.toNatClampNeg)))))))))
set_option maxHeartbeats 4000000 in
set_option maxRecDepth 100000 in
theorem g_X6_copyFrom_L2 {X : KX} {D : va_G} {T : Nat → ClassId} {Q : Int32 × (Nat → Int32) × (Nat → Int32) × (Nat → Int32) → State → Prop} {n : Nat × Nat} (C : Cx X D T cX6_copyFrom RX6 { frames := 0, cells := 0, slots := 0, locals := 0 }) (hnn : n.1 ≤ 0 ∧ n.2 ≤ 0) (hn : kxL X = 3) (a : Nat → Nat) (e : Nat → Nat)  (s_f : Nat → Int32) (s_c : Int32) (s_q : Int32) (s_l : Int32) (t_b : Nat → Int32) (t_s : Nat → Int32) (t_i : Nat → Int32) (t_f : Nat → Int32) (t_c : Int32) (t_q : Int32) (t_l : Int32) (hk : ∀ v : Int32 × (Nat → Int32) × (Nat → Int32) × (Nat → Int32), GG X D Q n (wS T a v.2.1 v.2.2.1 v.2.2.2 s_f s_c s_q s_l ++ (wS T e t_b t_s t_i t_f t_c t_q t_l)) [(0, .ref (a 0)), (1, .ref (e 0)), (2, .int v.1)] 50 [] (some (v))) : ∀ (nn : Nat) (y2 : Int32) (s_b : Nat → Int32) (s_s : Nat → Int32) (s_i : Nat → Int32), GG X D Q n (wS T a s_b s_s s_i s_f s_c s_q s_l ++ (wS T e t_b t_s t_i t_f t_c t_q t_l)) [(0, .ref (a 0)), (1, .ref (e 0)), (2, .int y2)] 2 [] (f_X6_copyFrom_L2 t_b t_s t_i nn y2 s_b s_s s_i) := by
  intro nn
  induction nn with
  | zero => intros; exact gg_none
  | succ nn ih =>
    intro y2 s_b s_s s_i
    unfold f_X6_copyFrom_L2
    refine gg_iload_n C dX6_copyFrom_2 rfl 2 rfl ?_
    refine gg_bipush C dX6_copyFrom_3 kB_8 ?_
    refine gg_icmp_ge C dX6_copyFrom_5 (tgt := 50) (by decide) (fun _ => ?_) (fun _ => ?_)
    · refine gg_sub [0, 1, 2] rfl ?_
      exact hk (y2, s_b, s_s, s_i)
    · refine gg_aload_n C dX6_copyFrom_8 rfl 0 rfl ?_
      refine gf_X6_11 C 0 rfl rfl dX6_copyFrom_9 ?_
      refine gg_iload_n C dX6_copyFrom_12 rfl 2 rfl ?_
      refine gg_aload_n C dX6_copyFrom_13 rfl 1 rfl ?_
      refine gf_X6_11 C 5 rfl rfl dX6_copyFrom_14 ?_
      refine gg_iload_n C dX6_copyFrom_17 rfl 2 rfl ?_
      refine gg_iald C 6 rfl dX6_copyFrom_18 ?_
      refine gg_iast C 1 rfl dX6_copyFrom_19 (ws' := wS T a (upd s_b y2.toNatClampNeg (t_b y2.toNatClampNeg)) s_s s_i s_f s_c s_q s_l ++ (wS T e t_b t_s t_i t_f t_c t_q t_l)) rfl ?_
      refine gg_aload_n C dX6_copyFrom_20 rfl 0 rfl ?_
      refine gf_X6_15 C 0 rfl rfl dX6_copyFrom_21 ?_
      refine gg_iload_n C dX6_copyFrom_24 rfl 2 rfl ?_
      refine gg_aload_n C dX6_copyFrom_25 rfl 1 rfl ?_
      refine gf_X6_15 C 5 rfl rfl dX6_copyFrom_26 ?_
      refine gg_iload_n C dX6_copyFrom_29 rfl 2 rfl ?_
      refine gg_iald C 7 rfl dX6_copyFrom_30 ?_
      refine gg_iast C 2 rfl dX6_copyFrom_31 (ws' := wS T a (upd s_b y2.toNatClampNeg (t_b y2.toNatClampNeg)) (upd s_s y2.toNatClampNeg (t_s y2.toNatClampNeg)) s_i s_f s_c s_q s_l ++ (wS T e t_b t_s t_i t_f t_c t_q t_l)) rfl ?_
      refine gg_aload_n C dX6_copyFrom_32 rfl 0 rfl ?_
      refine gf_X6_18 C 0 rfl rfl dX6_copyFrom_33 ?_
      refine gg_iload_n C dX6_copyFrom_36 rfl 2 rfl ?_
      refine gg_aload_n C dX6_copyFrom_37 rfl 1 rfl ?_
      refine gf_X6_18 C 5 rfl rfl dX6_copyFrom_38 ?_
      refine gg_iload_n C dX6_copyFrom_41 rfl 2 rfl ?_
      refine gg_zald C 8 rfl dX6_copyFrom_42 ?_
      refine gg_zast C 3 rfl dX6_copyFrom_43 (ws' := wS T a (upd s_b y2.toNatClampNeg (t_b y2.toNatClampNeg)) (upd s_s y2.toNatClampNeg (t_s y2.toNatClampNeg)) (upd s_i y2.toNatClampNeg (vp_nar .boolean (t_i y2.toNatClampNeg))) s_f s_c s_q s_l ++ (wS T e t_b t_s t_i t_f t_c t_q t_l)) rfl ?_
      refine gg_iinc C dX6_copyFrom_44 (j := 2) rfl (v := y2 + 1) (by first | rfl | decide) hn (by decide) (lv' := [(2, .int (y2 + 1)), (0, .ref (a 0)), (1, .ref (e 0))]) rfl ?_
      refine gg_goto C dX6_copyFrom_47 (tgt := 2) (by decide) ?_
      refine gg_sub [1, 2, 0] rfl ?_
      exact ih (y2 + 1) (upd s_b y2.toNatClampNeg (t_b y2.toNatClampNeg)) (upd s_s y2.toNatClampNeg (t_s y2.toNatClampNeg)) (upd s_i y2.toNatClampNeg (vp_nar .boolean (t_i y2.toNatClampNeg)))
def f_X6_copyFrom (s_b : Nat → Int32) (s_s : Nat → Int32) (s_i : Nat → Int32) (t_b : Nat → Int32) (t_s : Nat → Int32) (t_i : Nat → Int32) (t_c : Int32) : Option ((Nat → Int32) × (Nat → Int32) × (Nat → Int32) × Int32) := jn (α := Int32 × (Nat → Int32) × (Nat → Int32) × (Nat → Int32)) (f_X6_copyFrom_L2 t_b t_s t_i 100 0 s_b s_s s_i) (fun z1 => some (z1.2.1, z1.2.2.1, z1.2.2.2, t_c))
set_option maxHeartbeats 4000000 in
set_option maxRecDepth 100000 in
theorem c_X6_copyFrom (l : Launch) (D : va_G) (T : Nat → ClassId) (a : Nat → Nat) (e : Nat → Nat) (s_b : Nat → Int32) (s_s : Nat → Int32) (s_i : Nat → Int32) (s_f : Nat → Int32) (s_c : Int32) (s_q : Int32) (s_l : Int32) (t_b : Nat → Int32) (t_s : Nat → Int32) (t_i : Nat → Int32) (t_f : Nat → Int32) (t_c : Int32) (t_q : Int32) (t_l : Int32) (r : (Nat → Int32) × (Nat → Int32) × (Nat → Int32) × Int32) (h : f_X6_copyFrom s_b s_s s_i t_b t_s t_i t_c = some r) : Kt l D T yX6_copyFrom cX6_copyFrom 3 none (0, 0, 0, 0) [.ref (a 0), .ref (e 0)] (wS T a s_b s_s s_i s_f s_c s_q s_l ++ (wS T e t_b t_s t_i t_f t_c t_q t_l)) (FF (fun (r : (Nat → Int32) × (Nat → Int32) × (Nat → Int32) × Int32) => none) (fun r => wS T a r.1 r.2.1 r.2.2.1 s_f r.2.2.2 s_q s_l ++ (wS T e t_b t_s t_i t_f t_c t_q t_l)) r) := by
  refine kt_of (own := RX6) (nm := "copyFrom") (lv := [(0, .ref (a 0)), (1, .ref (e 0))]) (by decide) rfl rfl rfl (Nat.le_of_ble_eq_true rfl) h (fun X hn C M => ?_)
  have hnn : ((0, 0) : Nat × Nat).1 ≤ 0 ∧ ((0, 0) : Nat × Nat).2 ≤ 0 := ⟨Nat.le_refl 0, Nat.le_refl 0⟩
  unfold f_X6_copyFrom
  refine gg_iconst C dX6_copyFrom_0 kI_0 ?_
  refine gg_istore_n C dX6_copyFrom_1 rfl hn (by decide) (lv' := [(2, .int 0), (0, .ref (a 0)), (1, .ref (e 0))]) rfl ?_
  refine gg_join (α := Int32 × (Nat → Int32) × (Nat → Int32) × (Nat → Int32)) 50 (fun z1 => wS T a z1.2.1 z1.2.2.1 z1.2.2.2 s_f s_c s_q s_l ++ (wS T e t_b t_s t_i t_f t_c t_q t_l)) (fun z1 => [(0, .ref (a 0)), (1, .ref (e 0)), (2, .int z1.1)]) (fun z1 => []) (fun z1 => ?_) (fun K2 => ?_)
  · refine gg_aload_n C dX6_copyFrom_50 rfl 0 rfl ?_
    refine gg_aload_n C dX6_copyFrom_51 rfl 1 rfl ?_
    refine gf_X6_25 C 5 rfl rfl dX6_copyFrom_52 ?_
    refine pf_X6_25 C 0 rfl (Nat.le_of_ble_eq_true rfl) dX6_copyFrom_55 (ws' := wS T a z1.2.1 z1.2.2.1 z1.2.2.2 s_f t_c s_q s_l ++ (wS T e t_b t_s t_i t_f t_c t_q t_l)) rfl ?_
    exact gg_vret C M dX6_copyFrom_58 ⟨rfl, rfl⟩
  · refine gg_sub [1, 2, 0] rfl ?_
    exact g_X6_copyFrom_L2 C hnn hn a e s_f s_c s_q s_l t_b t_s t_i t_f t_c t_q t_l K2 100 0 s_b s_s s_i
