def f_X0_init_L62  : Nat → Int32 → (Nat → Int32) → (Nat → Int32) → Option (Int32 × (Nat → Int32) × (Nat → Int32))
  | 0, _, _, _ => none
  | nn + 1, y1, q_b, q_o => if 40 ≤ y1 then some (y1, q_b, q_o) else gu y1 40 (gu y1 40 (f_X0_init_L62 nn (y1 + 1) (upd q_b y1.toNatClampNeg ((y1 - y1 / 9 * 9) + 1)) (upd q_o y1.toNatClampNeg (-6))))
set_option maxHeartbeats 4000000 in
set_option maxRecDepth 100000 in
theorem g_X0_init_L62 {X : KX} {D : va_G} {T : Nat → ClassId} {Q : Int32 × (Nat → Int32) × (Nat → Int32) → State → Prop} {n : Nat × Nat} (C : Cx X D T cX0_init RX0 { frames := 1, cells := 7, slots := 144, locals := 20 }) (hnn : n.1 ≤ 7 ∧ n.2 ≤ 144) (hn : kxL X = 2) (a : Nat → Nat)  (q_n : Nat → Int32) (q_s : Nat → Int32) (q_k : Nat → Int32) (q_h : Nat → Int32) (q_c : Nat → Int32) (q_m : Int32) (hk : ∀ v : Int32 × (Nat → Int32) × (Nat → Int32), GG X D Q n (wG T a v.2.1 q_n v.2.2 q_s q_k q_h q_c q_m) [(0, .ref (a 0)), (1, .int v.1)] 94 [] (some (v))) : ∀ (nn : Nat) (y1 : Int32) (q_b : Nat → Int32) (q_o : Nat → Int32), GG X D Q n (wG T a q_b q_n q_o q_s q_k q_h q_c q_m) [(0, .ref (a 0)), (1, .int y1)] 62 [] (f_X0_init_L62 nn y1 q_b q_o) := by
  intro nn
  induction nn with
  | zero => intros; exact gg_none
  | succ nn ih =>
    intro y1 q_b q_o
    unfold f_X0_init_L62
    refine gg_iload_n C dX0_init_62 rfl 1 rfl ?_
    refine gg_bipush C dX0_init_63 kB_40 ?_
    refine gg_icmp_ge C dX0_init_65 (tgt := 94) (by decide) (fun _ => ?_) (fun _ => ?_)
    · refine gg_sub [0, 1] rfl ?_
      exact hk (y1, q_b, q_o)
    · refine gg_aload_n C dX0_init_68 rfl 0 rfl ?_
      refine gf_X0_9 C 0 rfl rfl dX0_init_69 ?_
      refine gg_iload_n C dX0_init_72 rfl 1 rfl ?_
      refine gg_iload_n C dX0_init_73 rfl 1 rfl ?_
      refine gg_bipush C dX0_init_74 kB_9 ?_
      refine gg_iremK C dX0_init_76 (by decide) ?_
      refine gg_iconst C dX0_init_77 kI_1 ?_
      refine gg_iadd C dX0_init_78 ?_
      refine gg_iast C 1 rfl dX0_init_79 (ws' := wG T a (upd q_b y1.toNatClampNeg ((y1 - y1 / 9 * 9) + 1)) q_n q_o q_s q_k q_h q_c q_m) rfl ?_
      refine gg_aload_n C dX0_init_80 rfl 0 rfl ?_
      refine gf_X0_18 C 0 rfl rfl dX0_init_81 ?_
      refine gg_iload_n C dX0_init_84 rfl 1 rfl ?_
      refine gg_bipush C dX0_init_85 kB_m6 ?_
      refine gg_iast C 3 rfl dX0_init_87 (ws' := wG T a (upd q_b y1.toNatClampNeg ((y1 - y1 / 9 * 9) + 1)) q_n (upd q_o y1.toNatClampNeg (-6)) q_s q_k q_h q_c q_m) rfl ?_
      refine gg_iinc C dX0_init_88 (j := 1) rfl (v := y1 + 1) (by first | rfl | decide) hn (by decide) (lv' := [(1, .int (y1 + 1)), (0, .ref (a 0))]) rfl ?_
      refine gg_goto C dX0_init_91 (tgt := 62) (by decide) ?_
      refine gg_sub [1, 0] rfl ?_
      exact ih (y1 + 1) (upd q_b y1.toNatClampNeg ((y1 - y1 / 9 * 9) + 1)) (upd q_o y1.toNatClampNeg (-6))
def f_X0_init_L96  : Nat → Int32 → (Nat → Int32) → (Nat → Int32) → Option (Int32 × (Nat → Int32) × (Nat → Int32))
  | 0, _, _, _ => none
  | nn + 1, y1, q_k, q_c => if 6 ≤ y1 then some (y1, q_k, q_c) else gu y1 6 (gu y1 6 (f_X0_init_L96 nn (y1 + 1) (upd q_k y1.toNatClampNeg 5) (upd q_c y1.toNatClampNeg (-6))))
set_option maxHeartbeats 4000000 in
set_option maxRecDepth 100000 in
theorem g_X0_init_L96 {X : KX} {D : va_G} {T : Nat → ClassId} {Q : Int32 × (Nat → Int32) × (Nat → Int32) → State → Prop} {n : Nat × Nat} (C : Cx X D T cX0_init RX0 { frames := 1, cells := 7, slots := 144, locals := 20 }) (hnn : n.1 ≤ 7 ∧ n.2 ≤ 144) (hn : kxL X = 2) (a : Nat → Nat)  (q_b : Nat → Int32) (q_n : Nat → Int32) (q_o : Nat → Int32) (q_s : Nat → Int32) (q_h : Nat → Int32) (q_m : Int32) (hk : ∀ v : Int32 × (Nat → Int32) × (Nat → Int32), GG X D Q n (wG T a q_b q_n q_o q_s v.2.1 q_h v.2.2 q_m) [(0, .ref (a 0)), (1, .int v.1)] 123 [] (some (v))) : ∀ (nn : Nat) (y1 : Int32) (q_k : Nat → Int32) (q_c : Nat → Int32), GG X D Q n (wG T a q_b q_n q_o q_s q_k q_h q_c q_m) [(0, .ref (a 0)), (1, .int y1)] 96 [] (f_X0_init_L96 nn y1 q_k q_c) := by
  intro nn
  induction nn with
  | zero => intros; exact gg_none
  | succ nn ih =>
    intro y1 q_k q_c
    unfold f_X0_init_L96
    refine gg_iload_n C dX0_init_96 rfl 1 rfl ?_
    refine gg_bipush C dX0_init_97 kB_6 ?_
    refine gg_icmp_ge C dX0_init_99 (tgt := 123) (by decide) (fun _ => ?_) (fun _ => ?_)
    · refine gg_sub [0, 1] rfl ?_
      exact hk (y1, q_k, q_c)
    · refine gg_aload_n C dX0_init_102 rfl 0 rfl ?_
      refine gf_X0_24 C 0 rfl rfl dX0_init_103 ?_
      refine gg_iload_n C dX0_init_106 rfl 1 rfl ?_
      refine gg_iconst C dX0_init_107 kI_5 ?_
      refine gg_iast C 5 rfl dX0_init_108 (ws' := wG T a q_b q_n q_o q_s (upd q_k y1.toNatClampNeg 5) q_h q_c q_m) rfl ?_
      refine gg_aload_n C dX0_init_109 rfl 0 rfl ?_
      refine gf_X0_30 C 0 rfl rfl dX0_init_110 ?_
      refine gg_iload_n C dX0_init_113 rfl 1 rfl ?_
      refine gg_bipush C dX0_init_114 kB_m6 ?_
      refine gg_iast C 7 rfl dX0_init_116 (ws' := wG T a q_b q_n q_o q_s (upd q_k y1.toNatClampNeg 5) q_h (upd q_c y1.toNatClampNeg (-6)) q_m) rfl ?_
      refine gg_iinc C dX0_init_117 (j := 1) rfl (v := y1 + 1) (by first | rfl | decide) hn (by decide) (lv' := [(1, .int (y1 + 1)), (0, .ref (a 0))]) rfl ?_
      refine gg_goto C dX0_init_120 (tgt := 96) (by decide) ?_
      refine gg_sub [1, 0] rfl ?_
      exact ih (y1 + 1) (upd q_k y1.toNatClampNeg 5) (upd q_c y1.toNatClampNeg (-6))
def f_X0_init : Option ((Nat → Int32) × (Nat → Int32) × (Nat → Int32) × (Nat → Int32)) := jn (α := Int32 × (Nat → Int32) × (Nat → Int32)) (f_X0_init_L62 100 0 (fun _ => 0) (fun _ => 0)) (fun z1 => jn (α := Int32 × (Nat → Int32) × (Nat → Int32)) (f_X0_init_L96 100 0 (fun _ => 0) (fun _ => 0)) (fun z2 => some (z1.2.1, z1.2.2, z2.2.1, z2.2.2)))
set_option maxHeartbeats 4000000 in
set_option maxRecDepth 100000 in
theorem c_X0_init (l : Launch) (D : va_G) (T : Nat → ClassId) (hh : Nat) (r : (Nat → Int32) × (Nat → Int32) × (Nat → Int32) × (Nat → Int32)) (h : f_X0_init = some r) : Kt l D T yX0_init cX0_init 2 none (1, 7, 144, 20) [.ref hh] ([(hh, .inr (0, [.null, .null, .null, .null, .null, .null, .null, .int 0]))]) ((fun (r : (Nat → Int32) × (Nat → Int32) × (Nat → Int32) × (Nat → Int32)) (v : Option Value) (w : va_W) => v = none ∧ ∃ a : Nat → Nat, a 0 = hh ∧ w = wG T a r.1 (fun _ => 0) r.2.1 (fun _ => 0) r.2.2.1 (fun _ => 0) r.2.2.2 0) r) := by
  refine kt_of (own := RX0) (nm := "<init>") (lv := [(0, .ref hh)]) (Fi := fun (r : (Nat → Int32) × (Nat → Int32) × (Nat → Int32) × (Nat → Int32)) (v : Option Value) (w : va_W) => v = none ∧ ∃ a : Nat → Nat, a 0 = hh ∧ w = wG T a r.1 (fun _ => 0) r.2.1 (fun _ => 0) r.2.2.1 (fun _ => 0) r.2.2.2 0) (by decide) rfl rfl rfl (Nat.le_of_ble_eq_true rfl) h (fun X hn C M => ?_)
  have hnn : ((7, 144) : Nat × Nat).1 ≤ 7 ∧ ((7, 144) : Nat × Nat).2 ≤ 144 := ⟨Nat.le_refl _, Nat.le_refl _⟩
  unfold f_X0_init
  refine gg_aload_n C dX0_init_0 rfl 0 rfl ?_
  refine gg_objInit C tw_26 tw_19 tw_20 (by decide) (Nat.le_of_ble_eq_true rfl) dX0_init_1 ?_
  refine gg_aload_n C dX0_init_4 rfl 0 rfl ?_
  refine gg_bipush C dX0_init_5 kB_40 ?_
  refine gg_newI C tw_60 (by decide) (N := 40) (by decide) (by decide) (by decide) (by decide) (n2 := (1, 40)) rfl dX0_init_7 (wq := fun q1 => [(hh, .inr (0, [.null, .null, .null, .null, .null, .null, .null, .int 0])), (q1, .inl (T 0, 40, .inl (fun _ => 0)))]) (fun _ => rfl) (fun q1 => ?_)
  refine pF_X0_9 C M.init 0 rfl (Nat.le_of_ble_eq_true rfl) dX0_init_9 (ws' := [(hh, .inr (0, [.ref q1, .null, .null, .null, .null, .null, .null, .int 0])), (q1, .inl (T 0, 40, .inl (fun _ => 0)))]) rfl ?_
  refine gg_aload_n C dX0_init_12 rfl 0 rfl ?_
  refine gg_bipush C dX0_init_13 kB_40 ?_
  refine gg_newI C tw_60 (by decide) (N := 40) (by decide) (by decide) (by decide) (by decide) (n2 := (2, 80)) rfl dX0_init_15 (wq := fun q2 => [(hh, .inr (0, [.ref q1, .null, .null, .null, .null, .null, .null, .int 0])), (q1, .inl (T 0, 40, .inl (fun _ => 0))), (q2, .inl (T 0, 40, .inl (fun _ => 0)))]) (fun _ => rfl) (fun q2 => ?_)
  refine pF_X0_15 C M.init 0 rfl (Nat.le_of_ble_eq_true rfl) dX0_init_17 (ws' := [(hh, .inr (0, [.ref q1, .ref q2, .null, .null, .null, .null, .null, .int 0])), (q1, .inl (T 0, 40, .inl (fun _ => 0))), (q2, .inl (T 0, 40, .inl (fun _ => 0)))]) rfl ?_
  refine gg_aload_n C dX0_init_20 rfl 0 rfl ?_
  refine gg_bipush C dX0_init_21 kB_40 ?_
  refine gg_newI C tw_60 (by decide) (N := 40) (by decide) (by decide) (by decide) (by decide) (n2 := (3, 120)) rfl dX0_init_23 (wq := fun q3 => [(hh, .inr (0, [.ref q1, .ref q2, .null, .null, .null, .null, .null, .int 0])), (q1, .inl (T 0, 40, .inl (fun _ => 0))), (q2, .inl (T 0, 40, .inl (fun _ => 0))), (q3, .inl (T 0, 40, .inl (fun _ => 0)))]) (fun _ => rfl) (fun q3 => ?_)
  refine pF_X0_18 C M.init 0 rfl (Nat.le_of_ble_eq_true rfl) dX0_init_25 (ws' := [(hh, .inr (0, [.ref q1, .ref q2, .ref q3, .null, .null, .null, .null, .int 0])), (q1, .inl (T 0, 40, .inl (fun _ => 0))), (q2, .inl (T 0, 40, .inl (fun _ => 0))), (q3, .inl (T 0, 40, .inl (fun _ => 0)))]) rfl ?_
  refine gg_aload_n C dX0_init_28 rfl 0 rfl ?_
  refine gg_bipush C dX0_init_29 kB_6 ?_
  refine gg_newI C tw_60 (by decide) (N := 6) (by decide) (by decide) (by decide) (by decide) (n2 := (4, 126)) rfl dX0_init_31 (wq := fun q4 => [(hh, .inr (0, [.ref q1, .ref q2, .ref q3, .null, .null, .null, .null, .int 0])), (q1, .inl (T 0, 40, .inl (fun _ => 0))), (q2, .inl (T 0, 40, .inl (fun _ => 0))), (q3, .inl (T 0, 40, .inl (fun _ => 0))), (q4, .inl (T 0, 6, .inl (fun _ => 0)))]) (fun _ => rfl) (fun q4 => ?_)
  refine pF_X0_21 C M.init 0 rfl (Nat.le_of_ble_eq_true rfl) dX0_init_33 (ws' := [(hh, .inr (0, [.ref q1, .ref q2, .ref q3, .ref q4, .null, .null, .null, .int 0])), (q1, .inl (T 0, 40, .inl (fun _ => 0))), (q2, .inl (T 0, 40, .inl (fun _ => 0))), (q3, .inl (T 0, 40, .inl (fun _ => 0))), (q4, .inl (T 0, 6, .inl (fun _ => 0)))]) rfl ?_
  refine gg_aload_n C dX0_init_36 rfl 0 rfl ?_
  refine gg_bipush C dX0_init_37 kB_6 ?_
  refine gg_newI C tw_60 (by decide) (N := 6) (by decide) (by decide) (by decide) (by decide) (n2 := (5, 132)) rfl dX0_init_39 (wq := fun q5 => [(hh, .inr (0, [.ref q1, .ref q2, .ref q3, .ref q4, .null, .null, .null, .int 0])), (q1, .inl (T 0, 40, .inl (fun _ => 0))), (q2, .inl (T 0, 40, .inl (fun _ => 0))), (q3, .inl (T 0, 40, .inl (fun _ => 0))), (q4, .inl (T 0, 6, .inl (fun _ => 0))), (q5, .inl (T 0, 6, .inl (fun _ => 0)))]) (fun _ => rfl) (fun q5 => ?_)
  refine pF_X0_24 C M.init 0 rfl (Nat.le_of_ble_eq_true rfl) dX0_init_41 (ws' := [(hh, .inr (0, [.ref q1, .ref q2, .ref q3, .ref q4, .ref q5, .null, .null, .int 0])), (q1, .inl (T 0, 40, .inl (fun _ => 0))), (q2, .inl (T 0, 40, .inl (fun _ => 0))), (q3, .inl (T 0, 40, .inl (fun _ => 0))), (q4, .inl (T 0, 6, .inl (fun _ => 0))), (q5, .inl (T 0, 6, .inl (fun _ => 0)))]) rfl ?_
  refine gg_aload_n C dX0_init_44 rfl 0 rfl ?_
  refine gg_bipush C dX0_init_45 kB_6 ?_
  refine gg_newI C tw_60 (by decide) (N := 6) (by decide) (by decide) (by decide) (by decide) (n2 := (6, 138)) rfl dX0_init_47 (wq := fun q6 => [(hh, .inr (0, [.ref q1, .ref q2, .ref q3, .ref q4, .ref q5, .null, .null, .int 0])), (q1, .inl (T 0, 40, .inl (fun _ => 0))), (q2, .inl (T 0, 40, .inl (fun _ => 0))), (q3, .inl (T 0, 40, .inl (fun _ => 0))), (q4, .inl (T 0, 6, .inl (fun _ => 0))), (q5, .inl (T 0, 6, .inl (fun _ => 0))), (q6, .inl (T 0, 6, .inl (fun _ => 0)))]) (fun _ => rfl) (fun q6 => ?_)
  refine pF_X0_27 C M.init 0 rfl (Nat.le_of_ble_eq_true rfl) dX0_init_49 (ws' := [(hh, .inr (0, [.ref q1, .ref q2, .ref q3, .ref q4, .ref q5, .ref q6, .null, .int 0])), (q1, .inl (T 0, 40, .inl (fun _ => 0))), (q2, .inl (T 0, 40, .inl (fun _ => 0))), (q3, .inl (T 0, 40, .inl (fun _ => 0))), (q4, .inl (T 0, 6, .inl (fun _ => 0))), (q5, .inl (T 0, 6, .inl (fun _ => 0))), (q6, .inl (T 0, 6, .inl (fun _ => 0)))]) rfl ?_
  refine gg_aload_n C dX0_init_52 rfl 0 rfl ?_
  refine gg_bipush C dX0_init_53 kB_6 ?_
  refine gg_newI C tw_60 (by decide) (N := 6) (by decide) (by decide) (by decide) (by decide) (n2 := (7, 144)) rfl dX0_init_55 (wq := fun q7 => [(hh, .inr (0, [.ref q1, .ref q2, .ref q3, .ref q4, .ref q5, .ref q6, .null, .int 0])), (q1, .inl (T 0, 40, .inl (fun _ => 0))), (q2, .inl (T 0, 40, .inl (fun _ => 0))), (q3, .inl (T 0, 40, .inl (fun _ => 0))), (q4, .inl (T 0, 6, .inl (fun _ => 0))), (q5, .inl (T 0, 6, .inl (fun _ => 0))), (q6, .inl (T 0, 6, .inl (fun _ => 0))), (q7, .inl (T 0, 6, .inl (fun _ => 0)))]) (fun _ => rfl) (fun q7 => ?_)
  refine pF_X0_30 C M.init 0 rfl (Nat.le_of_ble_eq_true rfl) dX0_init_57 (ws' := [(hh, .inr (0, [.ref q1, .ref q2, .ref q3, .ref q4, .ref q5, .ref q6, .ref q7, .int 0])), (q1, .inl (T 0, 40, .inl (fun _ => 0))), (q2, .inl (T 0, 40, .inl (fun _ => 0))), (q3, .inl (T 0, 40, .inl (fun _ => 0))), (q4, .inl (T 0, 6, .inl (fun _ => 0))), (q5, .inl (T 0, 6, .inl (fun _ => 0))), (q6, .inl (T 0, 6, .inl (fun _ => 0))), (q7, .inl (T 0, 6, .inl (fun _ => 0)))]) rfl ?_
  refine gg_iconst C dX0_init_60 kI_0 ?_
  refine gg_istore_n C dX0_init_61 rfl hn (by decide) (lv' := [(1, .int 0), (0, .ref hh)]) rfl ?_
  refine gg_fold (adf [hh, q1, q2, q3, q4, q5, q6, q7]) (fun a => wG T a (fun _ => 0) (fun _ => 0) (fun _ => 0) (fun _ => 0) (fun _ => 0) (fun _ => 0) (fun _ => 0) 0) (fun a => [(1, .int 0), (0, .ref (a 0))]) hh rfl rfl rfl (fun a ha => ?_)
  refine gg_join (α := Int32 × (Nat → Int32) × (Nat → Int32)) 94 (fun z1 => wG T a z1.2.1 (fun _ => 0) z1.2.2 (fun _ => 0) (fun _ => 0) (fun _ => 0) (fun _ => 0) 0) (fun z1 => [(0, .ref (a 0)), (1, .int z1.1)]) (fun z1 => []) (fun z1 => ?_) (fun K4 => ?_)
  · refine gg_iconst C dX0_init_94 kI_0 ?_
    refine gg_istore_n C dX0_init_95 rfl hn (by decide) (lv' := [(1, .int 0), (0, .ref (a 0))]) rfl ?_
    refine gg_join (α := Int32 × (Nat → Int32) × (Nat → Int32)) 123 (fun z2 => wG T a z1.2.1 (fun _ => 0) z1.2.2 (fun _ => 0) z2.2.1 (fun _ => 0) z2.2.2 0) (fun z2 => [(0, .ref (a 0)), (1, .int z2.1)]) (fun z2 => []) (fun z2 => ?_) (fun K3 => ?_)
    · exact gg_vret C M dX0_init_123 ⟨rfl, a, ha, rfl⟩
    · refine gg_sub [1, 0] rfl ?_
      exact g_X0_init_L96 C hnn hn a z1.2.1 (fun _ => 0) z1.2.2 (fun _ => 0) (fun _ => 0) 0 K3 100 0 (fun _ => 0) (fun _ => 0)
  · refine gg_sub [1, 0] rfl ?_
    exact g_X0_init_L62 C hnn hn a (fun _ => 0) (fun _ => 0) (fun _ => 0) (fun _ => 0) (fun _ => 0) 0 K4 100 0 (fun _ => 0) (fun _ => 0)
def f_X2_init : Option (Unit) := some ()
set_option maxHeartbeats 4000000 in
set_option maxRecDepth 100000 in
theorem c_X2_init (l : Launch) (D : va_G) (T : Nat → ClassId) (hh : Nat) (r : Unit) (h : f_X2_init = some r) : Kt l D T yX2_init cX2_init 1 none (1, 1, 60, 20) [.ref hh] ([(hh, .inr (1, [.null, .int 0]))]) ((fun (r : Unit) (v : Option Value) (w : va_W) => v = none ∧ ∃ a : Nat → Nat, a 0 = hh ∧ w = wP T a (fun _ => 0) 0) r) := by
  refine kt_of (own := RX2) (nm := "<init>") (lv := [(0, .ref hh)]) (Fi := fun (r : Unit) (v : Option Value) (w : va_W) => v = none ∧ ∃ a : Nat → Nat, a 0 = hh ∧ w = wP T a (fun _ => 0) 0) (by decide) rfl rfl rfl (Nat.le_of_ble_eq_true rfl) h (fun X hn C M => ?_)
  have hnn : ((1, 60) : Nat × Nat).1 ≤ 1 ∧ ((1, 60) : Nat × Nat).2 ≤ 60 := ⟨Nat.le_refl _, Nat.le_refl _⟩
  unfold f_X2_init
  refine gg_aload_n C dX2_init_0 rfl 0 rfl ?_
  refine gg_objInit C tw_98 tw_19 tw_20 (by decide) (Nat.le_of_ble_eq_true rfl) dX2_init_1 ?_
  refine gg_aload_n C dX2_init_4 rfl 0 rfl ?_
  refine gg_bipush C dX2_init_5 kB_60 ?_
  refine gg_newI C tw_60 (by decide) (N := 60) (by decide) (by decide) (by decide) (by decide) (n2 := (1, 60)) rfl dX2_init_7 (wq := fun q1 => [(hh, .inr (1, [.null, .int 0])), (q1, .inl (T 0, 60, .inl (fun _ => 0)))]) (fun _ => rfl) (fun q1 => ?_)
  refine pF_X2_11 C M.init 0 rfl (Nat.le_of_ble_eq_true rfl) dX2_init_9 (ws' := [(hh, .inr (1, [.ref q1, .int 0])), (q1, .inl (T 0, 60, .inl (fun _ => 0)))]) rfl ?_
  refine gg_fold (adf [hh, q1]) (fun a => wP T a (fun _ => 0) 0) (fun a => [(0, .ref (a 0))]) hh rfl rfl rfl (fun a ha => ?_)
  exact gg_vret C M dX2_init_12 ⟨rfl, a, ha, rfl⟩
def f_X4_init : Option (Unit) := some ()
set_option maxHeartbeats 4000000 in
set_option maxRecDepth 100000 in
theorem c_X4_init (l : Launch) (D : va_G) (T : Nat → ClassId) (hh : Nat) (r : Unit) (h : f_X4_init = some r) : Kt l D T yX4_init cX4_init 1 none (1, 1, 10, 20) [.ref hh] ([(hh, .inr (2, [.null, .int 0, .int 0]))]) ((fun (r : Unit) (v : Option Value) (w : va_W) => v = none ∧ ∃ a : Nat → Nat, a 0 = hh ∧ w = wR T a (fun _ => 0) 0 0) r) := by
  refine kt_of (own := RX4) (nm := "<init>") (lv := [(0, .ref hh)]) (Fi := fun (r : Unit) (v : Option Value) (w : va_W) => v = none ∧ ∃ a : Nat → Nat, a 0 = hh ∧ w = wR T a (fun _ => 0) 0 0) (by decide) rfl rfl rfl (Nat.le_of_ble_eq_true rfl) h (fun X hn C M => ?_)
  have hnn : ((1, 10) : Nat × Nat).1 ≤ 1 ∧ ((1, 10) : Nat × Nat).2 ≤ 10 := ⟨Nat.le_refl _, Nat.le_refl _⟩
  unfold f_X4_init
  refine gg_aload_n C dX4_init_0 rfl 0 rfl ?_
  refine gg_objInit C tw_151 tw_19 tw_20 (by decide) (Nat.le_of_ble_eq_true rfl) dX4_init_1 ?_
  refine gg_aload_n C dX4_init_4 rfl 0 rfl ?_
  refine gg_bipush C dX4_init_5 kB_10 ?_
  refine gg_newI C tw_60 (by decide) (N := 10) (by decide) (by decide) (by decide) (by decide) (n2 := (1, 10)) rfl dX4_init_7 (wq := fun q1 => [(hh, .inr (2, [.null, .int 0, .int 0])), (q1, .inl (T 0, 10, .inl (fun _ => 0)))]) (fun _ => rfl) (fun q1 => ?_)
  refine pF_X4_9 C M.init 0 rfl (Nat.le_of_ble_eq_true rfl) dX4_init_9 (ws' := [(hh, .inr (2, [.ref q1, .int 0, .int 0])), (q1, .inl (T 0, 10, .inl (fun _ => 0)))]) rfl ?_
  refine gg_fold (adf [hh, q1]) (fun a => wR T a (fun _ => 0) 0 0) (fun a => [(0, .ref (a 0))]) hh rfl rfl rfl (fun a ha => ?_)
  exact gg_vret C M dX4_init_12 ⟨rfl, a, ha, rfl⟩
def f_X6_init : Option (Unit) := some ()
set_option maxHeartbeats 4000000 in
set_option maxRecDepth 100000 in
theorem c_X6_init (l : Launch) (D : va_G) (T : Nat → ClassId) (hh : Nat) (r : Unit) (h : f_X6_init = some r) : Kt l D T yX6_init cX6_init 1 none (1, 4, 34, 20) [.ref hh] ([(hh, .inr (3, [.null, .null, .null, .null, .int 0, .int 0, .int 0]))]) ((fun (r : Unit) (v : Option Value) (w : va_W) => v = none ∧ ∃ a : Nat → Nat, a 0 = hh ∧ w = wS T a (fun _ => 0) (fun _ => 0) (fun _ => 0) (fun _ => 0) 0 0 0) r) := by
  refine kt_of (own := RX6) (nm := "<init>") (lv := [(0, .ref hh)]) (Fi := fun (r : Unit) (v : Option Value) (w : va_W) => v = none ∧ ∃ a : Nat → Nat, a 0 = hh ∧ w = wS T a (fun _ => 0) (fun _ => 0) (fun _ => 0) (fun _ => 0) 0 0 0) (by decide) rfl rfl rfl (Nat.le_of_ble_eq_true rfl) h (fun X hn C M => ?_)
  have hnn : ((4, 34) : Nat × Nat).1 ≤ 4 ∧ ((4, 34) : Nat × Nat).2 ≤ 34 := ⟨Nat.le_refl _, Nat.le_refl _⟩
  unfold f_X6_init
  refine gg_aload_n C dX6_init_0 rfl 0 rfl ?_
  refine gg_objInit C tw_66 tw_19 tw_20 (by decide) (Nat.le_of_ble_eq_true rfl) dX6_init_1 ?_
  refine gg_aload_n C dX6_init_4 rfl 0 rfl ?_
  refine gg_bipush C dX6_init_5 kB_8 ?_
  refine gg_newI C tw_60 (by decide) (N := 8) (by decide) (by decide) (by decide) (by decide) (n2 := (1, 8)) rfl dX6_init_7 (wq := fun q1 => [(hh, .inr (3, [.null, .null, .null, .null, .int 0, .int 0, .int 0])), (q1, .inl (T 0, 8, .inl (fun _ => 0)))]) (fun _ => rfl) (fun q1 => ?_)
  refine pF_X6_11 C M.init 0 rfl (Nat.le_of_ble_eq_true rfl) dX6_init_9 (ws' := [(hh, .inr (3, [.ref q1, .null, .null, .null, .int 0, .int 0, .int 0])), (q1, .inl (T 0, 8, .inl (fun _ => 0)))]) rfl ?_
  refine gg_aload_n C dX6_init_12 rfl 0 rfl ?_
  refine gg_bipush C dX6_init_13 kB_8 ?_
  refine gg_newI C tw_60 (by decide) (N := 8) (by decide) (by decide) (by decide) (by decide) (n2 := (2, 16)) rfl dX6_init_15 (wq := fun q2 => [(hh, .inr (3, [.ref q1, .null, .null, .null, .int 0, .int 0, .int 0])), (q1, .inl (T 0, 8, .inl (fun _ => 0))), (q2, .inl (T 0, 8, .inl (fun _ => 0)))]) (fun _ => rfl) (fun q2 => ?_)
  refine pF_X6_15 C M.init 0 rfl (Nat.le_of_ble_eq_true rfl) dX6_init_17 (ws' := [(hh, .inr (3, [.ref q1, .ref q2, .null, .null, .int 0, .int 0, .int 0])), (q1, .inl (T 0, 8, .inl (fun _ => 0))), (q2, .inl (T 0, 8, .inl (fun _ => 0)))]) rfl ?_
  refine gg_aload_n C dX6_init_20 rfl 0 rfl ?_
  refine gg_bipush C dX6_init_21 kB_8 ?_
  refine gg_newZ C tw_92 (by decide) (N := 8) (by decide) (by decide) (by decide) (by decide) (n2 := (3, 24)) rfl dX6_init_23 (wq := fun q3 => [(hh, .inr (3, [.ref q1, .ref q2, .null, .null, .int 0, .int 0, .int 0])), (q1, .inl (T 0, 8, .inl (fun _ => 0))), (q2, .inl (T 0, 8, .inl (fun _ => 0))), (q3, .inl (T 1, 8, .inl (fun _ => 0)))]) (fun _ => rfl) (fun q3 => ?_)
  refine pF_X6_18 C M.init 0 rfl (Nat.le_of_ble_eq_true rfl) dX6_init_25 (ws' := [(hh, .inr (3, [.ref q1, .ref q2, .ref q3, .null, .int 0, .int 0, .int 0])), (q1, .inl (T 0, 8, .inl (fun _ => 0))), (q2, .inl (T 0, 8, .inl (fun _ => 0))), (q3, .inl (T 1, 8, .inl (fun _ => 0)))]) rfl ?_
  refine gg_aload_n C dX6_init_28 rfl 0 rfl ?_
  refine gg_bipush C dX6_init_29 kB_10 ?_
  refine gg_newI C tw_60 (by decide) (N := 10) (by decide) (by decide) (by decide) (by decide) (n2 := (4, 34)) rfl dX6_init_31 (wq := fun q4 => [(hh, .inr (3, [.ref q1, .ref q2, .ref q3, .null, .int 0, .int 0, .int 0])), (q1, .inl (T 0, 8, .inl (fun _ => 0))), (q2, .inl (T 0, 8, .inl (fun _ => 0))), (q3, .inl (T 1, 8, .inl (fun _ => 0))), (q4, .inl (T 0, 10, .inl (fun _ => 0)))]) (fun _ => rfl) (fun q4 => ?_)
  refine pF_X6_22 C M.init 0 rfl (Nat.le_of_ble_eq_true rfl) dX6_init_33 (ws' := [(hh, .inr (3, [.ref q1, .ref q2, .ref q3, .ref q4, .int 0, .int 0, .int 0])), (q1, .inl (T 0, 8, .inl (fun _ => 0))), (q2, .inl (T 0, 8, .inl (fun _ => 0))), (q3, .inl (T 1, 8, .inl (fun _ => 0))), (q4, .inl (T 0, 10, .inl (fun _ => 0)))]) rfl ?_
  refine gg_fold (adf [hh, q1, q2, q3, q4]) (fun a => wS T a (fun _ => 0) (fun _ => 0) (fun _ => 0) (fun _ => 0) 0 0 0) (fun a => [(0, .ref (a 0))]) hh rfl rfl rfl (fun a ha => ?_)
  exact gg_vret C M dX6_init_36 ⟨rfl, a, ha, rfl⟩
