def f_X9_readBoth_L41  : Nat → Int32 → Int32 → Int32 → (Nat → Int32) → (Nat → Int32) → Option (Int32 × Int32 × Int32 × (Nat → Int32) × (Nat → Int32))
  | 0, _, _, _, _, _ => none
  | nn + 1, y4, y5, y6, m_odd, m_span => if y6 < 0 then some (y4, y5, y6, m_odd, m_span) else gu y6 9 (gu y6 9 (bi (y4 / 10) (fun x5 => bi (y5 / 10) (fun x6 => f_X9_readBoth_L41 nn x5 x6 (y6 + (-1)) (upd m_odd y6.toNatClampNeg (y4 - y4 / 10 * 10)) (upd m_span y6.toNatClampNeg (y5 - y5 / 10 * 10))))))
set_option maxHeartbeats 4000000 in
set_option maxRecDepth 100000 in
theorem g_X9_readBoth_L41 {X : KX} {D : va_G} {T : Nat → ClassId} {Q : Int32 × Int32 × Int32 × (Nat → Int32) × (Nat → Int32) → State → Prop} {n : Nat × Nat} (C : Cx X D T cX9_readBoth RX9 { frames := 1, cells := 0, slots := 0, locals := 25 }) (hnn : n.1 ≤ 0 ∧ n.2 ≤ 0) (hn : kxL X = 7) (a : Nat → Nat)  (y1 : Int32) (y2 : Int32) (y3 : Int32) (m_beat : Nat → Int32) (m_nick : Nat → Int32) (m_owner : Nat → Int32) (m_place : Nat → Int32) (m_kept : Nat → Int32) (m_heard : Nat → Int32) (m_chosen : Nat → Int32) (m_minutes : Int32) (m_sightBeat : Nat → Int32) (m_sightOff : Nat → Int32) (m_sightIs : Nat → Int32) (m_sights : Int32) (m_pad : Nat → Int32) (m_padMany : Int32) (m_act : Nat → Int32) (m_who : Nat → Int32) (m_much : Nat → Int32) (m_acts : Int32) (m_heardMany : Int32) (m_wrongNow : Int32) (m_had : Nat → Int32) (m_badAct : Int32) (m_badWhy : Int32) (m_wrongAct : Int32) (m_wrongHeir : Int32) (m_rise : Nat → Int32) (m_wins : Nat → Int32) (m_stored : Nat → Int32) (m_isStored : Nat → Int32) (m_storedAt : Int32) (m_isWriting : Int32) (hk : ∀ v : Int32 × Int32 × Int32 × (Nat → Int32) × (Nat → Int32), GG X D Q n (wM T a m_beat m_nick m_owner m_place m_kept m_heard m_chosen m_minutes m_sightBeat m_sightOff m_sightIs m_sights m_pad m_padMany m_act m_who m_much m_acts m_heardMany m_wrongNow m_had m_badAct m_badWhy m_wrongAct m_wrongHeir v.2.2.2.1 v.2.2.2.2 m_rise m_wins m_stored m_isStored m_storedAt m_isWriting) [(0, .ref (a 0)), (1, .int y1), (2, .int y2), (3, .int y3), (4, .int v.1), (5, .int v.2.1), (6, .int v.2.2.1)] 90 [] (some (v))) : ∀ (nn : Nat) (y4 : Int32) (y5 : Int32) (y6 : Int32) (m_odd : Nat → Int32) (m_span : Nat → Int32), GG X D Q n (wM T a m_beat m_nick m_owner m_place m_kept m_heard m_chosen m_minutes m_sightBeat m_sightOff m_sightIs m_sights m_pad m_padMany m_act m_who m_much m_acts m_heardMany m_wrongNow m_had m_badAct m_badWhy m_wrongAct m_wrongHeir m_odd m_span m_rise m_wins m_stored m_isStored m_storedAt m_isWriting) [(0, .ref (a 0)), (1, .int y1), (2, .int y2), (3, .int y3), (4, .int y4), (5, .int y5), (6, .int y6)] 41 [] (f_X9_readBoth_L41 nn y4 y5 y6 m_odd m_span) := by
  intro nn
  induction nn with
  | zero => intros; exact gg_none
  | succ nn ih =>
    intro y4 y5 y6 m_odd m_span
    unfold f_X9_readBoth_L41
    refine gg_iload C dX9_readBoth_41 6 rfl ?_
    refine gg_if_lt C dX9_readBoth_43 (tgt := 90) (by decide) (fun _ => ?_) (fun _ => ?_)
    · refine gg_sub [0, 1, 2, 3, 4, 5, 6] rfl ?_
      exact hk (y4, y5, y6, m_odd, m_span)
    · refine gg_aload_n C dX9_readBoth_46 rfl 0 rfl ?_
      refine gf_X9_55 C 0 rfl rfl dX9_readBoth_47 ?_
      refine gg_iload C dX9_readBoth_50 6 rfl ?_
      refine gg_iload C dX9_readBoth_52 4 rfl ?_
      refine gg_bipush C dX9_readBoth_54 kB_10 ?_
      refine gg_iremK C dX9_readBoth_56 (by decide) ?_
      refine gg_iast C 16 rfl dX9_readBoth_57 (ws' := wM T a m_beat m_nick m_owner m_place m_kept m_heard m_chosen m_minutes m_sightBeat m_sightOff m_sightIs m_sights m_pad m_padMany m_act m_who m_much m_acts m_heardMany m_wrongNow m_had m_badAct m_badWhy m_wrongAct m_wrongHeir (upd m_odd y6.toNatClampNeg (y4 - y4 / 10 * 10)) m_span m_rise m_wins m_stored m_isStored m_storedAt m_isWriting) rfl ?_
      refine gg_aload_n C dX9_readBoth_58 rfl 0 rfl ?_
      refine gf_X9_58 C 0 rfl rfl dX9_readBoth_59 ?_
      refine gg_iload C dX9_readBoth_62 6 rfl ?_
      refine gg_iload C dX9_readBoth_64 5 rfl ?_
      refine gg_bipush C dX9_readBoth_66 kB_10 ?_
      refine gg_iremK C dX9_readBoth_68 (by decide) ?_
      refine gg_iast C 17 rfl dX9_readBoth_69 (ws' := wM T a m_beat m_nick m_owner m_place m_kept m_heard m_chosen m_minutes m_sightBeat m_sightOff m_sightIs m_sights m_pad m_padMany m_act m_who m_much m_acts m_heardMany m_wrongNow m_had m_badAct m_badWhy m_wrongAct m_wrongHeir (upd m_odd y6.toNatClampNeg (y4 - y4 / 10 * 10)) (upd m_span y6.toNatClampNeg (y5 - y5 / 10 * 10)) m_rise m_wins m_stored m_isStored m_storedAt m_isWriting) rfl ?_
      refine gg_iload C dX9_readBoth_70 4 rfl ?_
      refine gg_bipush C dX9_readBoth_72 kB_10 ?_
      refine gg_idivK C dX9_readBoth_74 (by decide) ?_
      refine gg_bi (fun x5 => ?_)
      refine gg_istore C dX9_readBoth_75 hn (by decide) (lv' := [(4, .int x5), (0, .ref (a 0)), (1, .int y1), (2, .int y2), (3, .int y3), (5, .int y5), (6, .int y6)]) rfl ?_
      refine gg_iload C dX9_readBoth_77 5 rfl ?_
      refine gg_bipush C dX9_readBoth_79 kB_10 ?_
      refine gg_idivK C dX9_readBoth_81 (by decide) ?_
      refine gg_bi (fun x6 => ?_)
      refine gg_istore C dX9_readBoth_82 hn (by decide) (lv' := [(5, .int x6), (4, .int x5), (0, .ref (a 0)), (1, .int y1), (2, .int y2), (3, .int y3), (6, .int y6)]) rfl ?_
      refine gg_iinc C dX9_readBoth_84 (j := 6) rfl (v := y6 + (-1)) (by first | rfl | decide) hn (by decide) (lv' := [(6, .int (y6 + (-1))), (5, .int x6), (4, .int x5), (0, .ref (a 0)), (1, .int y1), (2, .int y2), (3, .int y3)]) rfl ?_
      refine gg_goto C dX9_readBoth_87 (tgt := 41) (by decide) ?_
      refine gg_sub [3, 4, 5, 6, 2, 1, 0] rfl ?_
      exact ih x5 x6 (y6 + (-1)) (upd m_odd y6.toNatClampNeg (y4 - y4 / 10 * 10)) (upd m_span y6.toNatClampNeg (y5 - y5 / 10 * 10))
def f_X9_readBoth (m_odd : Nat → Int32) (m_span : Nat → Int32) (v1 : Int32) (v2 : Int32) (v3 : Int32) : Option (Int32 × (Nat → Int32) × (Nat → Int32)) := jn (f_X9_in v3.toInt64 1 9) (fun r1 => if r1 = 0 then some (0, m_odd, m_span) else jn (f_X9_isRow v1 v3) (fun r2 => if r2 = 0 then some (0, m_odd, m_span) else jn (f_X9_isRow v2 v3) (fun r3 => if r3 = 0 then some (0, m_odd, m_span) else bi (v3 - 1) (fun x4 => jn (α := Int32 × Int32 × Int32 × (Nat → Int32) × (Nat → Int32)) (f_X9_readBoth_L41 100 v1 v2 x4 m_odd m_span) (fun z7 => some (1, z7.2.2.2.1, z7.2.2.2.2))))))
set_option maxHeartbeats 4000000 in
set_option maxRecDepth 100000 in
theorem c_X9_readBoth (l : Launch) (D : va_G) (T : Nat → ClassId) (a : Nat → Nat) (m_beat : Nat → Int32) (m_nick : Nat → Int32) (m_owner : Nat → Int32) (m_place : Nat → Int32) (m_kept : Nat → Int32) (m_heard : Nat → Int32) (m_chosen : Nat → Int32) (m_minutes : Int32) (m_sightBeat : Nat → Int32) (m_sightOff : Nat → Int32) (m_sightIs : Nat → Int32) (m_sights : Int32) (m_pad : Nat → Int32) (m_padMany : Int32) (m_act : Nat → Int32) (m_who : Nat → Int32) (m_much : Nat → Int32) (m_acts : Int32) (m_heardMany : Int32) (m_wrongNow : Int32) (m_had : Nat → Int32) (m_badAct : Int32) (m_badWhy : Int32) (m_wrongAct : Int32) (m_wrongHeir : Int32) (m_odd : Nat → Int32) (m_span : Nat → Int32) (m_rise : Nat → Int32) (m_wins : Nat → Int32) (m_stored : Nat → Int32) (m_isStored : Nat → Int32) (m_storedAt : Int32) (m_isWriting : Int32) (v1 : Int32) (v2 : Int32) (v3 : Int32) (r : Int32 × (Nat → Int32) × (Nat → Int32)) (h : f_X9_readBoth m_odd m_span v1 v2 v3 = some r) : Kt l D T yX9_readBoth cX9_readBoth 7 (some .boolean) (1, 0, 0, 25) [.ref (a 0), .int v1, .int v2, .int v3] (wM T a m_beat m_nick m_owner m_place m_kept m_heard m_chosen m_minutes m_sightBeat m_sightOff m_sightIs m_sights m_pad m_padMany m_act m_who m_much m_acts m_heardMany m_wrongNow m_had m_badAct m_badWhy m_wrongAct m_wrongHeir m_odd m_span m_rise m_wins m_stored m_isStored m_storedAt m_isWriting) (FF (fun (r : Int32 × (Nat → Int32) × (Nat → Int32)) => some (.int r.1)) (fun r => wM T a m_beat m_nick m_owner m_place m_kept m_heard m_chosen m_minutes m_sightBeat m_sightOff m_sightIs m_sights m_pad m_padMany m_act m_who m_much m_acts m_heardMany m_wrongNow m_had m_badAct m_badWhy m_wrongAct m_wrongHeir r.2.1 r.2.2 m_rise m_wins m_stored m_isStored m_storedAt m_isWriting) r) := by
  refine kt_of (own := RX9) (nm := "readBoth") (lv := [(0, .ref (a 0)), (1, .int v1), (2, .int v2), (3, .int v3)]) (by decide) rfl rfl rfl (Nat.le_of_ble_eq_true rfl) h (fun X hn C M => ?_)
  have hnn : ((0, 0) : Nat × Nat).1 ≤ 0 ∧ ((0, 0) : Nat × Nat).2 ≤ 0 := ⟨Nat.le_refl 0, Nat.le_refl 0⟩
  unfold f_X9_readBoth
  refine gg_iload_n C dX9_readBoth_0 rfl 3 rfl ?_
  refine gg_i2l C dX9_readBoth_1 ?_
  refine gg_lconst C dX9_readBoth_2 (v := 1) (by decide) ?_
  refine gg_ldc2 C tw_652 dX9_readBoth_3 ?_
  refine gg_callS C (fun l r h => c_X9_in l D T v3.toInt64 1 9 r h) lk_X9_76 ⟨by decide, by decide⟩ hnn rfl (rest := []) rfl (Nat.le_of_ble_eq_true rfl) dX9_readBoth_6 cut_none (st2 := fun r1 => [.int r1]) (fun _ => rfl) (fun r1 => ?_)
  refine gg_if_eq C dX9_readBoth_9 (tgt := 28) (by decide) (fun _ => ?_) (fun _ => ?_)
  · refine gg_iconst C dX9_readBoth_28 kI_0 ?_
    exact gg_zret C M dX9_readBoth_29 rfl ⟨rfl, rfl⟩
  · refine gg_iload_n C dX9_readBoth_12 rfl 1 rfl ?_
    refine gg_iload_n C dX9_readBoth_13 rfl 3 rfl ?_
    refine gg_callS C (fun l r h => c_X9_isRow l D T v1 v3 r h) lk_X9_212 ⟨by decide, by decide⟩ hnn rfl (rest := []) rfl (Nat.le_of_ble_eq_true rfl) dX9_readBoth_14 cut_none (st2 := fun r2 => [.int r2]) (fun _ => rfl) (fun r2 => ?_)
    refine gg_if_eq C dX9_readBoth_17 (tgt := 28) (by decide) (fun _ => ?_) (fun _ => ?_)
    · refine gg_iconst C dX9_readBoth_28 kI_0 ?_
      exact gg_zret C M dX9_readBoth_29 rfl ⟨rfl, rfl⟩
    · refine gg_iload_n C dX9_readBoth_20 rfl 2 rfl ?_
      refine gg_iload_n C dX9_readBoth_21 rfl 3 rfl ?_
      refine gg_callS C (fun l r h => c_X9_isRow l D T v2 v3 r h) lk_X9_212 ⟨by decide, by decide⟩ hnn rfl (rest := []) rfl (Nat.le_of_ble_eq_true rfl) dX9_readBoth_22 cut_none (st2 := fun r3 => [.int r3]) (fun _ => rfl) (fun r3 => ?_)
      refine gg_if_ne C dX9_readBoth_25 (tgt := 30) (by decide) (fun _ => ?_) (fun _ => ?_)
      · refine gg_iload_n C dX9_readBoth_30 rfl 1 rfl ?_
        refine gg_istore C dX9_readBoth_31 hn (by decide) (lv' := [(4, .int v1), (0, .ref (a 0)), (1, .int v1), (2, .int v2), (3, .int v3)]) rfl ?_
        refine gg_iload_n C dX9_readBoth_33 rfl 3 rfl ?_
        refine gg_istore C dX9_readBoth_34 hn (by decide) (lv' := [(5, .int v2), (4, .int v1), (0, .ref (a 0)), (1, .int v1), (2, .int v2), (3, .int v3)]) rfl ?_
        refine gg_iload_n C dX9_readBoth_36 rfl 5 rfl ?_
        refine gg_iconst C dX9_readBoth_37 kI_1 ?_
        refine gg_isub C dX9_readBoth_38 ?_
        refine gg_bi (fun x4 => ?_)
        refine gg_istore C dX9_readBoth_39 hn (by decide) (lv' := [(6, .int x4), (5, .int v2), (4, .int v1), (0, .ref (a 0)), (1, .int v1), (2, .int v2), (3, .int v3)]) rfl ?_
        refine gg_join (α := Int32 × Int32 × Int32 × (Nat → Int32) × (Nat → Int32)) 90 (fun z7 => wM T a m_beat m_nick m_owner m_place m_kept m_heard m_chosen m_minutes m_sightBeat m_sightOff m_sightIs m_sights m_pad m_padMany m_act m_who m_much m_acts m_heardMany m_wrongNow m_had m_badAct m_badWhy m_wrongAct m_wrongHeir z7.2.2.2.1 z7.2.2.2.2 m_rise m_wins m_stored m_isStored m_storedAt m_isWriting) (fun z7 => [(0, .ref (a 0)), (1, .int v1), (2, .int v2), (3, .int v3), (4, .int z7.1), (5, .int z7.2.1), (6, .int z7.2.2.1)]) (fun z7 => []) (fun z7 => ?_) (fun K8 => ?_)
        · refine gg_iconst C dX9_readBoth_90 kI_1 ?_
          exact gg_zret C M dX9_readBoth_91 rfl ⟨rfl, rfl⟩
        · refine gg_sub [3, 4, 5, 6, 2, 1, 0] rfl ?_
          exact g_X9_readBoth_L41 C hnn hn a v1 v2 v3 m_beat m_nick m_owner m_place m_kept m_heard m_chosen m_minutes m_sightBeat m_sightOff m_sightIs m_sights m_pad m_padMany m_act m_who m_much m_acts m_heardMany m_wrongNow m_had m_badAct m_badWhy m_wrongAct m_wrongHeir m_rise m_wins m_stored m_isStored m_storedAt m_isWriting K8 100 v1 v2 x4 m_odd m_span
      · refine gg_iconst C dX9_readBoth_28 kI_0 ?_
        exact gg_zret C M dX9_readBoth_29 rfl ⟨rfl, rfl⟩
def f_X9_sumOf_L4 (y1 : Int32) (m_odd : Nat → Int32) : Nat → Int32 → Int32 → Option (Int32 × Int32)
  | 0, _, _ => none
  | nn + 1, y2, y3 => if y1 ≤ y3 then some (y2, y3) else gu y3 9 (bi (y2 + (m_odd y3.toNatClampNeg)) (fun x1 => f_X9_sumOf_L4 y1 m_odd nn x1 (y3 + 1)))
set_option maxHeartbeats 4000000 in
set_option maxRecDepth 100000 in
theorem g_X9_sumOf_L4 {X : KX} {D : va_G} {T : Nat → ClassId} {Q : Int32 × Int32 → State → Prop} {n : Nat × Nat} (C : Cx X D T cX9_sumOf RX9 { frames := 0, cells := 0, slots := 0, locals := 0 }) (hnn : n.1 ≤ 0 ∧ n.2 ≤ 0) (hn : kxL X = 4) (a : Nat → Nat)  (y1 : Int32) (m_beat : Nat → Int32) (m_nick : Nat → Int32) (m_owner : Nat → Int32) (m_place : Nat → Int32) (m_kept : Nat → Int32) (m_heard : Nat → Int32) (m_chosen : Nat → Int32) (m_minutes : Int32) (m_sightBeat : Nat → Int32) (m_sightOff : Nat → Int32) (m_sightIs : Nat → Int32) (m_sights : Int32) (m_pad : Nat → Int32) (m_padMany : Int32) (m_act : Nat → Int32) (m_who : Nat → Int32) (m_much : Nat → Int32) (m_acts : Int32) (m_heardMany : Int32) (m_wrongNow : Int32) (m_had : Nat → Int32) (m_badAct : Int32) (m_badWhy : Int32) (m_wrongAct : Int32) (m_wrongHeir : Int32) (m_odd : Nat → Int32) (m_span : Nat → Int32) (m_rise : Nat → Int32) (m_wins : Nat → Int32) (m_stored : Nat → Int32) (m_isStored : Nat → Int32) (m_storedAt : Int32) (m_isWriting : Int32) (hk : ∀ v : Int32 × Int32, GG X D Q n (wM T a m_beat m_nick m_owner m_place m_kept m_heard m_chosen m_minutes m_sightBeat m_sightOff m_sightIs m_sights m_pad m_padMany m_act m_who m_much m_acts m_heardMany m_wrongNow m_had m_badAct m_badWhy m_wrongAct m_wrongHeir m_odd m_span m_rise m_wins m_stored m_isStored m_storedAt m_isWriting) [(0, .ref (a 0)), (1, .int y1), (2, .int v.1), (3, .int v.2)] 24 [] (some (v))) : ∀ (nn : Nat) (y2 : Int32) (y3 : Int32), GG X D Q n (wM T a m_beat m_nick m_owner m_place m_kept m_heard m_chosen m_minutes m_sightBeat m_sightOff m_sightIs m_sights m_pad m_padMany m_act m_who m_much m_acts m_heardMany m_wrongNow m_had m_badAct m_badWhy m_wrongAct m_wrongHeir m_odd m_span m_rise m_wins m_stored m_isStored m_storedAt m_isWriting) [(0, .ref (a 0)), (1, .int y1), (2, .int y2), (3, .int y3)] 4 [] (f_X9_sumOf_L4 y1 m_odd nn y2 y3) := by
  intro nn
  induction nn with
  | zero => intros; exact gg_none
  | succ nn ih =>
    intro y2 y3
    unfold f_X9_sumOf_L4
    refine gg_iload_n C dX9_sumOf_4 rfl 3 rfl ?_
    refine gg_iload_n C dX9_sumOf_5 rfl 1 rfl ?_
    refine gg_icmp_ge C dX9_sumOf_6 (tgt := 24) (by decide) (fun _ => ?_) (fun _ => ?_)
    · refine gg_sub [0, 1, 2, 3] rfl ?_
      exact hk (y2, y3)
    · refine gg_iload_n C dX9_sumOf_9 rfl 2 rfl ?_
      refine gg_aload_n C dX9_sumOf_10 rfl 0 rfl ?_
      refine gf_X9_55 C 0 rfl rfl dX9_sumOf_11 ?_
      refine gg_iload_n C dX9_sumOf_14 rfl 3 rfl ?_
      refine gg_iald C 16 rfl dX9_sumOf_15 ?_
      refine gg_iadd C dX9_sumOf_16 ?_
      refine gg_bi (fun x1 => ?_)
      refine gg_istore_n C dX9_sumOf_17 rfl hn (by decide) (lv' := [(2, .int x1), (0, .ref (a 0)), (1, .int y1), (3, .int y3)]) rfl ?_
      refine gg_iinc C dX9_sumOf_18 (j := 3) rfl (v := y3 + 1) (by first | rfl | decide) hn (by decide) (lv' := [(3, .int (y3 + 1)), (2, .int x1), (0, .ref (a 0)), (1, .int y1)]) rfl ?_
      refine gg_goto C dX9_sumOf_21 (tgt := 4) (by decide) ?_
      refine gg_sub [2, 3, 1, 0] rfl ?_
      exact ih x1 (y3 + 1)
def f_X9_sumOf (m_odd : Nat → Int32) (v1 : Int32) : Option (Int32) := jn (α := Int32 × Int32) (f_X9_sumOf_L4 v1 m_odd 100 0 0) (fun z2 => some z2.1)
set_option maxHeartbeats 4000000 in
set_option maxRecDepth 100000 in
theorem c_X9_sumOf (l : Launch) (D : va_G) (T : Nat → ClassId) (a : Nat → Nat) (m_beat : Nat → Int32) (m_nick : Nat → Int32) (m_owner : Nat → Int32) (m_place : Nat → Int32) (m_kept : Nat → Int32) (m_heard : Nat → Int32) (m_chosen : Nat → Int32) (m_minutes : Int32) (m_sightBeat : Nat → Int32) (m_sightOff : Nat → Int32) (m_sightIs : Nat → Int32) (m_sights : Int32) (m_pad : Nat → Int32) (m_padMany : Int32) (m_act : Nat → Int32) (m_who : Nat → Int32) (m_much : Nat → Int32) (m_acts : Int32) (m_heardMany : Int32) (m_wrongNow : Int32) (m_had : Nat → Int32) (m_badAct : Int32) (m_badWhy : Int32) (m_wrongAct : Int32) (m_wrongHeir : Int32) (m_odd : Nat → Int32) (m_span : Nat → Int32) (m_rise : Nat → Int32) (m_wins : Nat → Int32) (m_stored : Nat → Int32) (m_isStored : Nat → Int32) (m_storedAt : Int32) (m_isWriting : Int32) (v1 : Int32) (r : Int32) (h : f_X9_sumOf m_odd v1 = some r) : Kt l D T yX9_sumOf cX9_sumOf 4 (some .int) (0, 0, 0, 0) [.ref (a 0), .int v1] (wM T a m_beat m_nick m_owner m_place m_kept m_heard m_chosen m_minutes m_sightBeat m_sightOff m_sightIs m_sights m_pad m_padMany m_act m_who m_much m_acts m_heardMany m_wrongNow m_had m_badAct m_badWhy m_wrongAct m_wrongHeir m_odd m_span m_rise m_wins m_stored m_isStored m_storedAt m_isWriting) (FF (fun (r : Int32) => some (.int r)) (fun r => wM T a m_beat m_nick m_owner m_place m_kept m_heard m_chosen m_minutes m_sightBeat m_sightOff m_sightIs m_sights m_pad m_padMany m_act m_who m_much m_acts m_heardMany m_wrongNow m_had m_badAct m_badWhy m_wrongAct m_wrongHeir m_odd m_span m_rise m_wins m_stored m_isStored m_storedAt m_isWriting) r) := by
  refine kt_of (own := RX9) (nm := "sumOf") (lv := [(0, .ref (a 0)), (1, .int v1)]) (by decide) rfl rfl rfl (Nat.le_of_ble_eq_true rfl) h (fun X hn C M => ?_)
  have hnn : ((0, 0) : Nat × Nat).1 ≤ 0 ∧ ((0, 0) : Nat × Nat).2 ≤ 0 := ⟨Nat.le_refl 0, Nat.le_refl 0⟩
  unfold f_X9_sumOf
  refine gg_iconst C dX9_sumOf_0 kI_0 ?_
  refine gg_istore_n C dX9_sumOf_1 rfl hn (by decide) (lv' := [(2, .int 0), (0, .ref (a 0)), (1, .int v1)]) rfl ?_
  refine gg_iconst C dX9_sumOf_2 kI_0 ?_
  refine gg_istore_n C dX9_sumOf_3 rfl hn (by decide) (lv' := [(3, .int 0), (2, .int 0), (0, .ref (a 0)), (1, .int v1)]) rfl ?_
  refine gg_join (α := Int32 × Int32) 24 (fun z2 => wM T a m_beat m_nick m_owner m_place m_kept m_heard m_chosen m_minutes m_sightBeat m_sightOff m_sightIs m_sights m_pad m_padMany m_act m_who m_much m_acts m_heardMany m_wrongNow m_had m_badAct m_badWhy m_wrongAct m_wrongHeir m_odd m_span m_rise m_wins m_stored m_isStored m_storedAt m_isWriting) (fun z2 => [(0, .ref (a 0)), (1, .int v1), (2, .int z2.1), (3, .int z2.2)]) (fun z2 => []) (fun z2 => ?_) (fun K3 => ?_)
  · refine gg_iload_n C dX9_sumOf_24 rfl 2 rfl ?_
    exact gg_iret C M dX9_sumOf_25 ⟨rfl, rfl⟩
  · refine gg_sub [2, 3, 1, 0] rfl ?_
    exact g_X9_sumOf_L4 C hnn hn a v1 m_beat m_nick m_owner m_place m_kept m_heard m_chosen m_minutes m_sightBeat m_sightOff m_sightIs m_sights m_pad m_padMany m_act m_who m_much m_acts m_heardMany m_wrongNow m_had m_badAct m_badWhy m_wrongAct m_wrongHeir m_odd m_span m_rise m_wins m_stored m_isStored m_storedAt m_isWriting K3 100 0 0
def f_X9_nextOf_L6 (y1 : Int32) (y2 : Int32) (m_odd : Nat → Int32) (m_span : Nat → Int32) : Nat → Int32 → Int32 → Option (Int32 × Int32)
  | 0, _, _ => none
  | nn + 1, y3, y4 => if y2 ≤ y4 then some (y3, y4) else jn (α := Int32) (if (y1 >>> (y4 &&& 31)) &&& 1 = 1 then some 1 else some 0) (fun z1 => jn (α := Int32) (if z1 = 0 then some 0 else if y3 < 0 then some 1 else gu y4 9 (gu y3 9 (gu y3 9 (gu y4 9 (if (m_odd y4.toNatClampNeg) * (m_span y3.toNatClampNeg) ≤ (m_odd y3.toNatClampNeg) * (m_span y4.toNatClampNeg) then some 0 else some 1))))) (fun z3 => if z3 = 0 then f_X9_nextOf_L6 y1 y2 m_odd m_span nn y3 (y4 + 1) else f_X9_nextOf_L6 y1 y2 m_odd m_span nn y4 (y4 + 1)))
set_option maxHeartbeats 4000000 in
set_option maxRecDepth 100000 in
theorem g_X9_nextOf_L6 {X : KX} {D : va_G} {T : Nat → ClassId} {Q : Int32 × Int32 → State → Prop} {n : Nat × Nat} (C : Cx X D T cX9_nextOf RX9 { frames := 0, cells := 0, slots := 0, locals := 0 }) (hnn : n.1 ≤ 0 ∧ n.2 ≤ 0) (hn : kxL X = 7) (a : Nat → Nat)  (y1 : Int32) (y2 : Int32) (m_beat : Nat → Int32) (m_nick : Nat → Int32) (m_owner : Nat → Int32) (m_place : Nat → Int32) (m_kept : Nat → Int32) (m_heard : Nat → Int32) (m_chosen : Nat → Int32) (m_minutes : Int32) (m_sightBeat : Nat → Int32) (m_sightOff : Nat → Int32) (m_sightIs : Nat → Int32) (m_sights : Int32) (m_pad : Nat → Int32) (m_padMany : Int32) (m_act : Nat → Int32) (m_who : Nat → Int32) (m_much : Nat → Int32) (m_acts : Int32) (m_heardMany : Int32) (m_wrongNow : Int32) (m_had : Nat → Int32) (m_badAct : Int32) (m_badWhy : Int32) (m_wrongAct : Int32) (m_wrongHeir : Int32) (m_odd : Nat → Int32) (m_span : Nat → Int32) (m_rise : Nat → Int32) (m_wins : Nat → Int32) (m_stored : Nat → Int32) (m_isStored : Nat → Int32) (m_storedAt : Int32) (m_isWriting : Int32) (hk : ∀ v : Int32 × Int32, GG X D Q n (wM T a m_beat m_nick m_owner m_place m_kept m_heard m_chosen m_minutes m_sightBeat m_sightOff m_sightIs m_sights m_pad m_padMany m_act m_who m_much m_acts m_heardMany m_wrongNow m_had m_badAct m_badWhy m_wrongAct m_wrongHeir m_odd m_span m_rise m_wins m_stored m_isStored m_storedAt m_isWriting) [(0, .ref (a 0)), (1, .int y1), (2, .int y2), (3, .int v.1), (4, .int v.2)] 94 [] (some (v))) : ∀ (nn : Nat) (y3 : Int32) (y4 : Int32), GG X D Q n (wM T a m_beat m_nick m_owner m_place m_kept m_heard m_chosen m_minutes m_sightBeat m_sightOff m_sightIs m_sights m_pad m_padMany m_act m_who m_much m_acts m_heardMany m_wrongNow m_had m_badAct m_badWhy m_wrongAct m_wrongHeir m_odd m_span m_rise m_wins m_stored m_isStored m_storedAt m_isWriting) [(0, .ref (a 0)), (1, .int y1), (2, .int y2), (3, .int y3), (4, .int y4)] 6 [] (f_X9_nextOf_L6 y1 y2 m_odd m_span nn y3 y4) := by
  intro nn
  induction nn with
  | zero => intros; exact gg_none
  | succ nn ih =>
    intro y3 y4
    unfold f_X9_nextOf_L6
    refine gg_iload C dX9_nextOf_6 4 rfl ?_
    refine gg_iload_n C dX9_nextOf_8 rfl 2 rfl ?_
    refine gg_icmp_ge C dX9_nextOf_9 (tgt := 94) (by decide) (fun _ => ?_) (fun _ => ?_)
    · refine gg_sub [0, 1, 2, 3, 4] rfl ?_
      exact hk (y3, y4)
    · refine gg_iload_n C dX9_nextOf_12 rfl 1 rfl ?_
      refine gg_iload C dX9_nextOf_13 4 rfl ?_
      refine gg_ishr C dX9_nextOf_15 ?_
      refine gg_iconst C dX9_nextOf_16 kI_1 ?_
      refine gg_iand C dX9_nextOf_17 ?_
      refine gg_iconst C dX9_nextOf_18 kI_1 ?_
      refine gg_join (α := Int32) 27 (fun z1 => wM T a m_beat m_nick m_owner m_place m_kept m_heard m_chosen m_minutes m_sightBeat m_sightOff m_sightIs m_sights m_pad m_padMany m_act m_who m_much m_acts m_heardMany m_wrongNow m_had m_badAct m_badWhy m_wrongAct m_wrongHeir m_odd m_span m_rise m_wins m_stored m_isStored m_storedAt m_isWriting) (fun z1 => [(0, .ref (a 0)), (1, .int y1), (2, .int y2), (3, .int y3), (4, .int y4)]) (fun z1 => [.int z1]) (fun z1 => ?_) (fun K2 => ?_)
      · refine gg_istore C dX9_nextOf_27 hn (by decide) (lv' := [(5, .int z1), (0, .ref (a 0)), (1, .int y1), (2, .int y2), (3, .int y3), (4, .int y4)]) rfl ?_
        refine gg_iload C dX9_nextOf_29 0 rfl ?_
        refine gg_join (α := Int32) 74 (fun z3 => wM T a m_beat m_nick m_owner m_place m_kept m_heard m_chosen m_minutes m_sightBeat m_sightOff m_sightIs m_sights m_pad m_padMany m_act m_who m_much m_acts m_heardMany m_wrongNow m_had m_badAct m_badWhy m_wrongAct m_wrongHeir m_odd m_span m_rise m_wins m_stored m_isStored m_storedAt m_isWriting) (fun z3 => [(0, .ref (a 0)), (1, .int y1), (2, .int y2), (3, .int y3), (4, .int y4), (5, .int z1)]) (fun z3 => [.int z3]) (fun z3 => ?_) (fun K4 => ?_)
        · refine gg_istore C dX9_nextOf_74 hn (by decide) (lv' := [(6, .int z3), (0, .ref (a 0)), (1, .int y1), (2, .int y2), (3, .int y3), (4, .int y4), (5, .int z1)]) rfl ?_
          refine gg_iload C dX9_nextOf_76 0 rfl ?_
          refine gg_if_eq C dX9_nextOf_78 (tgt := 86) (by decide) (fun _ => ?_) (fun _ => ?_)
          · refine gg_iload_n C dX9_nextOf_86 rfl 4 rfl ?_
            refine gg_istore_n C dX9_nextOf_87 rfl hn (by decide) (lv' := [(3, .int y3), (6, .int z3), (0, .ref (a 0)), (1, .int y1), (2, .int y2), (4, .int y4), (5, .int z1)]) rfl ?_
            refine gg_iinc C dX9_nextOf_88 (j := 5) rfl (v := y4 + 1) (by first | rfl | decide) hn (by decide) (lv' := [(4, .int (y4 + 1)), (3, .int y3), (6, .int z3), (0, .ref (a 0)), (1, .int y1), (2, .int y2), (5, .int z1)]) rfl ?_
            refine gg_goto C dX9_nextOf_91 (tgt := 6) (by decide) ?_
            refine gg_sub [3, 4, 5, 1, 0] rfl ?_
            exact ih y3 (y4 + 1)
          · refine gg_iload C dX9_nextOf_81 5 rfl ?_
            refine gg_goto C dX9_nextOf_83 (tgt := 87) (by decide) ?_
            refine gg_istore_n C dX9_nextOf_87 rfl hn (by decide) (lv' := [(3, .int y4), (6, .int z3), (0, .ref (a 0)), (1, .int y1), (2, .int y2), (4, .int y4), (5, .int z1)]) rfl ?_
            refine gg_iinc C dX9_nextOf_88 (j := 5) rfl (v := y4 + 1) (by first | rfl | decide) hn (by decide) (lv' := [(4, .int (y4 + 1)), (3, .int y4), (6, .int z3), (0, .ref (a 0)), (1, .int y1), (2, .int y2), (5, .int z1)]) rfl ?_
            refine gg_goto C dX9_nextOf_91 (tgt := 6) (by decide) ?_
            refine gg_sub [3, 4, 5, 1, 0] rfl ?_
            exact ih y4 (y4 + 1)
        · refine gg_if_eq C dX9_nextOf_31 (tgt := 73) (by decide) (fun _ => ?_) (fun _ => ?_)
          · refine gg_iconst C dX9_nextOf_73 kI_0 ?_
            refine gg_sub [1, 2, 3, 4, 5, 0] rfl ?_
            exact K4 0
          · refine gg_iload_n C dX9_nextOf_34 rfl 4 rfl ?_
            refine gg_if_lt C dX9_nextOf_35 (tgt := 69) (by decide) (fun _ => ?_) (fun _ => ?_)
            · refine gg_iconst C dX9_nextOf_69 kI_1 ?_
              refine gg_goto C dX9_nextOf_70 (tgt := 74) (by decide) ?_
              refine gg_sub [1, 2, 3, 4, 5, 0] rfl ?_
              exact K4 1
            · refine gg_aload_n C dX9_nextOf_38 rfl 1 rfl ?_
              refine gf_X9_55 C 0 rfl rfl dX9_nextOf_39 ?_
              refine gg_iload C dX9_nextOf_42 5 rfl ?_
              refine gg_iald C 16 rfl dX9_nextOf_44 ?_
              refine gg_aload_n C dX9_nextOf_45 rfl 1 rfl ?_
              refine gf_X9_58 C 0 rfl rfl dX9_nextOf_46 ?_
              refine gg_iload_n C dX9_nextOf_49 rfl 4 rfl ?_
              refine gg_iald C 17 rfl dX9_nextOf_50 ?_
              refine gg_imul C dX9_nextOf_51 ?_
              refine gg_aload_n C dX9_nextOf_52 rfl 1 rfl ?_
              refine gf_X9_55 C 0 rfl rfl dX9_nextOf_53 ?_
              refine gg_iload_n C dX9_nextOf_56 rfl 4 rfl ?_
              refine gg_iald C 16 rfl dX9_nextOf_57 ?_
              refine gg_aload_n C dX9_nextOf_58 rfl 1 rfl ?_
              refine gf_X9_58 C 0 rfl rfl dX9_nextOf_59 ?_
              refine gg_iload C dX9_nextOf_62 5 rfl ?_
              refine gg_iald C 17 rfl dX9_nextOf_64 ?_
              refine gg_imul C dX9_nextOf_65 ?_
              refine gg_icmp_le C dX9_nextOf_66 (tgt := 73) (by decide) (fun _ => ?_) (fun _ => ?_)
              · refine gg_iconst C dX9_nextOf_73 kI_0 ?_
                refine gg_sub [1, 2, 3, 4, 5, 0] rfl ?_
                exact K4 0
              · refine gg_iconst C dX9_nextOf_69 kI_1 ?_
                refine gg_goto C dX9_nextOf_70 (tgt := 74) (by decide) ?_
                refine gg_sub [1, 2, 3, 4, 5, 0] rfl ?_
                exact K4 1
      · refine gg_icmp_ne C dX9_nextOf_19 (tgt := 26) (by decide) (fun _ => ?_) (fun _ => ?_)
        · refine gg_iconst C dX9_nextOf_26 kI_0 ?_
          refine gg_sub [0, 1, 2, 3, 4] rfl ?_
          exact K2 0
        · refine gg_iconst C dX9_nextOf_22 kI_1 ?_
          refine gg_goto C dX9_nextOf_23 (tgt := 27) (by decide) ?_
          refine gg_sub [0, 1, 2, 3, 4] rfl ?_
          exact K2 1
def f_X9_nextOf (m_odd : Nat → Int32) (m_span : Nat → Int32) (v1 : Int32) (v2 : Int32) : Option (Int32) := jn (α := Int32 × Int32) (f_X9_nextOf_L6 v1 v2 m_odd m_span 100 (-6) 0) (fun z5 => some z5.1)
set_option maxHeartbeats 4000000 in
set_option maxRecDepth 100000 in
theorem c_X9_nextOf (l : Launch) (D : va_G) (T : Nat → ClassId) (a : Nat → Nat) (m_beat : Nat → Int32) (m_nick : Nat → Int32) (m_owner : Nat → Int32) (m_place : Nat → Int32) (m_kept : Nat → Int32) (m_heard : Nat → Int32) (m_chosen : Nat → Int32) (m_minutes : Int32) (m_sightBeat : Nat → Int32) (m_sightOff : Nat → Int32) (m_sightIs : Nat → Int32) (m_sights : Int32) (m_pad : Nat → Int32) (m_padMany : Int32) (m_act : Nat → Int32) (m_who : Nat → Int32) (m_much : Nat → Int32) (m_acts : Int32) (m_heardMany : Int32) (m_wrongNow : Int32) (m_had : Nat → Int32) (m_badAct : Int32) (m_badWhy : Int32) (m_wrongAct : Int32) (m_wrongHeir : Int32) (m_odd : Nat → Int32) (m_span : Nat → Int32) (m_rise : Nat → Int32) (m_wins : Nat → Int32) (m_stored : Nat → Int32) (m_isStored : Nat → Int32) (m_storedAt : Int32) (m_isWriting : Int32) (v1 : Int32) (v2 : Int32) (r : Int32) (h : f_X9_nextOf m_odd m_span v1 v2 = some r) : Kt l D T yX9_nextOf cX9_nextOf 7 (some .int) (0, 0, 0, 0) [.ref (a 0), .int v1, .int v2] (wM T a m_beat m_nick m_owner m_place m_kept m_heard m_chosen m_minutes m_sightBeat m_sightOff m_sightIs m_sights m_pad m_padMany m_act m_who m_much m_acts m_heardMany m_wrongNow m_had m_badAct m_badWhy m_wrongAct m_wrongHeir m_odd m_span m_rise m_wins m_stored m_isStored m_storedAt m_isWriting) (FF (fun (r : Int32) => some (.int r)) (fun r => wM T a m_beat m_nick m_owner m_place m_kept m_heard m_chosen m_minutes m_sightBeat m_sightOff m_sightIs m_sights m_pad m_padMany m_act m_who m_much m_acts m_heardMany m_wrongNow m_had m_badAct m_badWhy m_wrongAct m_wrongHeir m_odd m_span m_rise m_wins m_stored m_isStored m_storedAt m_isWriting) r) := by
  refine kt_of (own := RX9) (nm := "nextOf") (lv := [(0, .ref (a 0)), (1, .int v1), (2, .int v2)]) (by decide) rfl rfl rfl (Nat.le_of_ble_eq_true rfl) h (fun X hn C M => ?_)
  have hnn : ((0, 0) : Nat × Nat).1 ≤ 0 ∧ ((0, 0) : Nat × Nat).2 ≤ 0 := ⟨Nat.le_refl 0, Nat.le_refl 0⟩
  unfold f_X9_nextOf
  refine gg_bipush C dX9_nextOf_0 kB_m6 ?_
  refine gg_istore_n C dX9_nextOf_2 rfl hn (by decide) (lv' := [(3, .int (-6)), (0, .ref (a 0)), (1, .int v1), (2, .int v2)]) rfl ?_
  refine gg_iconst C dX9_nextOf_3 kI_0 ?_
  refine gg_istore C dX9_nextOf_4 hn (by decide) (lv' := [(4, .int 0), (3, .int (-6)), (0, .ref (a 0)), (1, .int v1), (2, .int v2)]) rfl ?_
  refine gg_join (α := Int32 × Int32) 94 (fun z5 => wM T a m_beat m_nick m_owner m_place m_kept m_heard m_chosen m_minutes m_sightBeat m_sightOff m_sightIs m_sights m_pad m_padMany m_act m_who m_much m_acts m_heardMany m_wrongNow m_had m_badAct m_badWhy m_wrongAct m_wrongHeir m_odd m_span m_rise m_wins m_stored m_isStored m_storedAt m_isWriting) (fun z5 => [(0, .ref (a 0)), (1, .int v1), (2, .int v2), (3, .int z5.1), (4, .int z5.2)]) (fun z5 => []) (fun z5 => ?_) (fun K6 => ?_)
  · refine gg_iload_n C dX9_nextOf_94 rfl 3 rfl ?_
    exact gg_iret C M dX9_nextOf_95 ⟨rfl, rfl⟩
  · refine gg_sub [2, 3, 4, 1, 0] rfl ?_
    exact g_X9_nextOf_L6 C hnn hn a v1 v2 m_beat m_nick m_owner m_place m_kept m_heard m_chosen m_minutes m_sightBeat m_sightOff m_sightIs m_sights m_pad m_padMany m_act m_who m_much m_acts m_heardMany m_wrongNow m_had m_badAct m_badWhy m_wrongAct m_wrongHeir m_odd m_span m_rise m_wins m_stored m_isStored m_storedAt m_isWriting K6 100 (-6) 0
def f_X9_timeOf_L11 (y1 : Int32) (m_odd : Nat → Int32) (m_span : Nat → Int32) : Nat → Int32 → Int32 → Int32 → Option (Int32 × Int32 × Int32)
  | 0, _, _, _ => none
  | nn + 1, y2, y3, y4 => if y4 = 0 then some (y2, y3, y4) else jn (f_X9_nextOf m_odd m_span y4 y1) (fun r2 => gu r2 9 (bi (y2 + (m_span r2.toNatClampNeg)) (fun x3 => gu r2 9 (bi (y3 + (x3 * (m_odd r2.toNatClampNeg))) (fun x4 => bi (y4 &&& (((1 : Int32) <<< (r2 &&& 31)) ^^^ (-1))) (fun x5 => f_X9_timeOf_L11 y1 m_odd m_span nn x3 x4 x5))))))
set_option maxHeartbeats 4000000 in
set_option maxRecDepth 100000 in
theorem g_X9_timeOf_L11 {X : KX} {D : va_G} {T : Nat → ClassId} {Q : Int32 × Int32 × Int32 → State → Prop} {n : Nat × Nat} (C : Cx X D T cX9_timeOf RX9 { frames := 1, cells := 0, slots := 0, locals := 26 }) (hnn : n.1 ≤ 0 ∧ n.2 ≤ 0) (hn : kxL X = 6) (a : Nat → Nat)  (y1 : Int32) (m_beat : Nat → Int32) (m_nick : Nat → Int32) (m_owner : Nat → Int32) (m_place : Nat → Int32) (m_kept : Nat → Int32) (m_heard : Nat → Int32) (m_chosen : Nat → Int32) (m_minutes : Int32) (m_sightBeat : Nat → Int32) (m_sightOff : Nat → Int32) (m_sightIs : Nat → Int32) (m_sights : Int32) (m_pad : Nat → Int32) (m_padMany : Int32) (m_act : Nat → Int32) (m_who : Nat → Int32) (m_much : Nat → Int32) (m_acts : Int32) (m_heardMany : Int32) (m_wrongNow : Int32) (m_had : Nat → Int32) (m_badAct : Int32) (m_badWhy : Int32) (m_wrongAct : Int32) (m_wrongHeir : Int32) (m_odd : Nat → Int32) (m_span : Nat → Int32) (m_rise : Nat → Int32) (m_wins : Nat → Int32) (m_stored : Nat → Int32) (m_isStored : Nat → Int32) (m_storedAt : Int32) (m_isWriting : Int32) (hk : ∀ v : Int32 × Int32 × Int32, GG X D Q n (wM T a m_beat m_nick m_owner m_place m_kept m_heard m_chosen m_minutes m_sightBeat m_sightOff m_sightIs m_sights m_pad m_padMany m_act m_who m_much m_acts m_heardMany m_wrongNow m_had m_badAct m_badWhy m_wrongAct m_wrongHeir m_odd m_span m_rise m_wins m_stored m_isStored m_storedAt m_isWriting) [(0, .ref (a 0)), (1, .int y1), (2, .int v.1), (3, .int v.2.1), (4, .int v.2.2)] 61 [] (some (v))) : ∀ (nn : Nat) (y2 : Int32) (y3 : Int32) (y4 : Int32), GG X D Q n (wM T a m_beat m_nick m_owner m_place m_kept m_heard m_chosen m_minutes m_sightBeat m_sightOff m_sightIs m_sights m_pad m_padMany m_act m_who m_much m_acts m_heardMany m_wrongNow m_had m_badAct m_badWhy m_wrongAct m_wrongHeir m_odd m_span m_rise m_wins m_stored m_isStored m_storedAt m_isWriting) [(0, .ref (a 0)), (1, .int y1), (2, .int y2), (3, .int y3), (4, .int y4)] 11 [] (f_X9_timeOf_L11 y1 m_odd m_span nn y2 y3 y4) := by
  intro nn
  induction nn with
  | zero => intros; exact gg_none
  | succ nn ih =>
    intro y2 y3 y4
    unfold f_X9_timeOf_L11
    refine gg_iload C dX9_timeOf_11 4 rfl ?_
    refine gg_if_eq C dX9_timeOf_13 (tgt := 61) (by decide) (fun _ => ?_) (fun _ => ?_)
    · refine gg_sub [0, 1, 2, 3, 4] rfl ?_
      exact hk (y2, y3, y4)
    · refine gg_aload_n C dX9_timeOf_16 rfl 0 rfl ?_
      refine gg_iload C dX9_timeOf_17 4 rfl ?_
      refine gg_iload_n C dX9_timeOf_19 rfl 1 rfl ?_
      refine gg_callV C (fun l r h => c_X9_nextOf l D T a m_beat m_nick m_owner m_place m_kept m_heard m_chosen m_minutes m_sightBeat m_sightOff m_sightIs m_sights m_pad m_padMany m_act m_who m_much m_acts m_heardMany m_wrongNow m_had m_badAct m_badWhy m_wrongAct m_wrongHeir m_odd m_span m_rise m_wins m_stored m_isStored m_storedAt m_isWriting y4 y1 r h) lk_X9_216 ⟨by decide, by decide⟩ hnn rfl (rest := []) rfl (Nat.le_of_ble_eq_true rfl) 0 rfl rfl dX9_timeOf_20 (ws2 := fun r2 => wM T a m_beat m_nick m_owner m_place m_kept m_heard m_chosen m_minutes m_sightBeat m_sightOff m_sightIs m_sights m_pad m_padMany m_act m_who m_much m_acts m_heardMany m_wrongNow m_had m_badAct m_badWhy m_wrongAct m_wrongHeir m_odd m_span m_rise m_wins m_stored m_isStored m_storedAt m_isWriting) (cut_full (fun _ => rfl)) (st2 := fun r2 => [.int r2]) (fun _ => rfl) (fun r2 => ?_)
      refine gg_istore C dX9_timeOf_23 hn (by decide) (lv' := [(5, .int r2), (0, .ref (a 0)), (1, .int y1), (2, .int y2), (3, .int y3), (4, .int y4)]) rfl ?_
      refine gg_iload_n C dX9_timeOf_25 rfl 3 rfl ?_
      refine gg_aload_n C dX9_timeOf_26 rfl 1 rfl ?_
      refine gf_X9_58 C 0 rfl rfl dX9_timeOf_27 ?_
      refine gg_iload C dX9_timeOf_30 0 rfl ?_
      refine gg_iald C 17 rfl dX9_timeOf_32 ?_
      refine gg_iadd C dX9_timeOf_33 ?_
      refine gg_bi (fun x3 => ?_)
      refine gg_istore_n C dX9_timeOf_34 rfl hn (by decide) (lv' := [(2, .int x3), (5, .int r2), (0, .ref (a 0)), (1, .int y1), (3, .int y3), (4, .int y4)]) rfl ?_
      refine gg_iload_n C dX9_timeOf_35 rfl 4 rfl ?_
      refine gg_iload_n C dX9_timeOf_36 rfl 0 rfl ?_
      refine gg_aload_n C dX9_timeOf_37 rfl 2 rfl ?_
      refine gf_X9_55 C 0 rfl rfl dX9_timeOf_38 ?_
      refine gg_iload C dX9_timeOf_41 1 rfl ?_
      refine gg_iald C 16 rfl dX9_timeOf_43 ?_
      refine gg_imul C dX9_timeOf_44 ?_
      refine gg_iadd C dX9_timeOf_45 ?_
      refine gg_bi (fun x4 => ?_)
      refine gg_istore_n C dX9_timeOf_46 rfl hn (by decide) (lv' := [(3, .int x4), (2, .int x3), (5, .int r2), (0, .ref (a 0)), (1, .int y1), (4, .int y4)]) rfl ?_
      refine gg_iload C dX9_timeOf_47 5 rfl ?_
      refine gg_iconst C dX9_timeOf_49 kI_1 ?_
      refine gg_iload C dX9_timeOf_50 2 rfl ?_
      refine gg_ishl C dX9_timeOf_52 ?_
      refine gg_iconst C dX9_timeOf_53 kI_m1 ?_
      refine gg_ixor C dX9_timeOf_54 ?_
      refine gg_iand C dX9_timeOf_55 ?_
      refine gg_bi (fun x5 => ?_)
      refine gg_istore C dX9_timeOf_56 hn (by decide) (lv' := [(4, .int x5), (3, .int x4), (2, .int x3), (5, .int r2), (0, .ref (a 0)), (1, .int y1)]) rfl ?_
      refine gg_goto C dX9_timeOf_58 (tgt := 11) (by decide) ?_
      refine gg_sub [4, 5, 2, 1, 0] rfl ?_
      exact ih x3 x4 x5
def f_X9_timeOf (m_odd : Nat → Int32) (m_span : Nat → Int32) (v1 : Int32) : Option (Int32) := bi (((1 : Int32) <<< (v1 &&& 31)) - 1) (fun x1 => jn (α := Int32 × Int32 × Int32) (f_X9_timeOf_L11 v1 m_odd m_span 100 0 0 x1) (fun z6 => some z6.2.1))
set_option maxHeartbeats 4000000 in
set_option maxRecDepth 100000 in
theorem c_X9_timeOf (l : Launch) (D : va_G) (T : Nat → ClassId) (a : Nat → Nat) (m_beat : Nat → Int32) (m_nick : Nat → Int32) (m_owner : Nat → Int32) (m_place : Nat → Int32) (m_kept : Nat → Int32) (m_heard : Nat → Int32) (m_chosen : Nat → Int32) (m_minutes : Int32) (m_sightBeat : Nat → Int32) (m_sightOff : Nat → Int32) (m_sightIs : Nat → Int32) (m_sights : Int32) (m_pad : Nat → Int32) (m_padMany : Int32) (m_act : Nat → Int32) (m_who : Nat → Int32) (m_much : Nat → Int32) (m_acts : Int32) (m_heardMany : Int32) (m_wrongNow : Int32) (m_had : Nat → Int32) (m_badAct : Int32) (m_badWhy : Int32) (m_wrongAct : Int32) (m_wrongHeir : Int32) (m_odd : Nat → Int32) (m_span : Nat → Int32) (m_rise : Nat → Int32) (m_wins : Nat → Int32) (m_stored : Nat → Int32) (m_isStored : Nat → Int32) (m_storedAt : Int32) (m_isWriting : Int32) (v1 : Int32) (r : Int32) (h : f_X9_timeOf m_odd m_span v1 = some r) : Kt l D T yX9_timeOf cX9_timeOf 6 (some .int) (1, 0, 0, 26) [.ref (a 0), .int v1] (wM T a m_beat m_nick m_owner m_place m_kept m_heard m_chosen m_minutes m_sightBeat m_sightOff m_sightIs m_sights m_pad m_padMany m_act m_who m_much m_acts m_heardMany m_wrongNow m_had m_badAct m_badWhy m_wrongAct m_wrongHeir m_odd m_span m_rise m_wins m_stored m_isStored m_storedAt m_isWriting) (FF (fun (r : Int32) => some (.int r)) (fun r => wM T a m_beat m_nick m_owner m_place m_kept m_heard m_chosen m_minutes m_sightBeat m_sightOff m_sightIs m_sights m_pad m_padMany m_act m_who m_much m_acts m_heardMany m_wrongNow m_had m_badAct m_badWhy m_wrongAct m_wrongHeir m_odd m_span m_rise m_wins m_stored m_isStored m_storedAt m_isWriting) r) := by
  refine kt_of (own := RX9) (nm := "timeOf") (lv := [(0, .ref (a 0)), (1, .int v1)]) (by decide) rfl rfl rfl (Nat.le_of_ble_eq_true rfl) h (fun X hn C M => ?_)
  have hnn : ((0, 0) : Nat × Nat).1 ≤ 0 ∧ ((0, 0) : Nat × Nat).2 ≤ 0 := ⟨Nat.le_refl 0, Nat.le_refl 0⟩
  unfold f_X9_timeOf
  refine gg_iconst C dX9_timeOf_0 kI_0 ?_
  refine gg_istore_n C dX9_timeOf_1 rfl hn (by decide) (lv' := [(2, .int 0), (0, .ref (a 0)), (1, .int v1)]) rfl ?_
  refine gg_iconst C dX9_timeOf_2 kI_0 ?_
  refine gg_istore_n C dX9_timeOf_3 rfl hn (by decide) (lv' := [(3, .int 0), (2, .int 0), (0, .ref (a 0)), (1, .int v1)]) rfl ?_
  refine gg_iconst C dX9_timeOf_4 kI_1 ?_
  refine gg_iload_n C dX9_timeOf_5 rfl 3 rfl ?_
  refine gg_ishl C dX9_timeOf_6 ?_
  refine gg_iconst C dX9_timeOf_7 kI_1 ?_
  refine gg_isub C dX9_timeOf_8 ?_
  refine gg_bi (fun x1 => ?_)
  refine gg_istore C dX9_timeOf_9 hn (by decide) (lv' := [(4, .int x1), (3, .int 0), (2, .int 0), (0, .ref (a 0)), (1, .int v1)]) rfl ?_
  refine gg_join (α := Int32 × Int32 × Int32) 61 (fun z6 => wM T a m_beat m_nick m_owner m_place m_kept m_heard m_chosen m_minutes m_sightBeat m_sightOff m_sightIs m_sights m_pad m_padMany m_act m_who m_much m_acts m_heardMany m_wrongNow m_had m_badAct m_badWhy m_wrongAct m_wrongHeir m_odd m_span m_rise m_wins m_stored m_isStored m_storedAt m_isWriting) (fun z6 => [(0, .ref (a 0)), (1, .int v1), (2, .int z6.1), (3, .int z6.2.1), (4, .int z6.2.2)]) (fun z6 => []) (fun z6 => ?_) (fun K7 => ?_)
  · refine gg_iload_n C dX9_timeOf_61 rfl 3 rfl ?_
    exact gg_iret C M dX9_timeOf_62 ⟨rfl, rfl⟩
  · refine gg_sub [3, 4, 2, 1, 0] rfl ?_
    exact g_X9_timeOf_L11 C hnn hn a v1 m_beat m_nick m_owner m_place m_kept m_heard m_chosen m_minutes m_sightBeat m_sightOff m_sightIs m_sights m_pad m_padMany m_act m_who m_much m_acts m_heardMany m_wrongNow m_had m_badAct m_badWhy m_wrongAct m_wrongHeir m_odd m_span m_rise m_wins m_stored m_isStored m_storedAt m_isWriting K7 100 0 0 x1
def f_X9_seek (m_odd : Nat → Int32) (m_span : Nat → Int32) (v1 : Int32) (v2 : Int32) (v3 : Int32) (v4 : Int32) : Option (Int64 × (Nat → Int32) × (Nat → Int32)) := jn (f_X9_readBoth m_odd m_span v1 v2 v3) (fun r1 => if r1.1 = 0 then some ((-1000000000000000002), r1.2.1, r1.2.2) else jn (f_X9_in v4.toInt64 0 1) (fun r2 => if r2 = 0 then some ((-1000000000000000002), r1.2.1, r1.2.2) else jn (f_X9_timeOf r1.2.1 r1.2.2 v3) (fun r3 => jn (f_X9_sumOf r1.2.1 v3) (fun r4 => jn (f_X9_lowest r3.toInt64 r4.toInt64 v4) (fun r5 => some (r5, r1.2.1, r1.2.2))))))
set_option maxHeartbeats 4000000 in
set_option maxRecDepth 100000 in
theorem c_X9_seek (l : Launch) (D : va_G) (T : Nat → ClassId) (a : Nat → Nat) (m_beat : Nat → Int32) (m_nick : Nat → Int32) (m_owner : Nat → Int32) (m_place : Nat → Int32) (m_kept : Nat → Int32) (m_heard : Nat → Int32) (m_chosen : Nat → Int32) (m_minutes : Int32) (m_sightBeat : Nat → Int32) (m_sightOff : Nat → Int32) (m_sightIs : Nat → Int32) (m_sights : Int32) (m_pad : Nat → Int32) (m_padMany : Int32) (m_act : Nat → Int32) (m_who : Nat → Int32) (m_much : Nat → Int32) (m_acts : Int32) (m_heardMany : Int32) (m_wrongNow : Int32) (m_had : Nat → Int32) (m_badAct : Int32) (m_badWhy : Int32) (m_wrongAct : Int32) (m_wrongHeir : Int32) (m_odd : Nat → Int32) (m_span : Nat → Int32) (m_rise : Nat → Int32) (m_wins : Nat → Int32) (m_stored : Nat → Int32) (m_isStored : Nat → Int32) (m_storedAt : Int32) (m_isWriting : Int32) (v1 : Int32) (v2 : Int32) (v3 : Int32) (v4 : Int32) (r : Int64 × (Nat → Int32) × (Nat → Int32)) (h : f_X9_seek m_odd m_span v1 v2 v3 v4 = some r) : Kt l D T yX9_seek cX9_seek 5 (some .long) (2, 0, 0, 51) [.ref (a 0), .int v1, .int v2, .int v3, .int v4] (wM T a m_beat m_nick m_owner m_place m_kept m_heard m_chosen m_minutes m_sightBeat m_sightOff m_sightIs m_sights m_pad m_padMany m_act m_who m_much m_acts m_heardMany m_wrongNow m_had m_badAct m_badWhy m_wrongAct m_wrongHeir m_odd m_span m_rise m_wins m_stored m_isStored m_storedAt m_isWriting) (FF (fun (r : Int64 × (Nat → Int32) × (Nat → Int32)) => some (.long r.1)) (fun r => wM T a m_beat m_nick m_owner m_place m_kept m_heard m_chosen m_minutes m_sightBeat m_sightOff m_sightIs m_sights m_pad m_padMany m_act m_who m_much m_acts m_heardMany m_wrongNow m_had m_badAct m_badWhy m_wrongAct m_wrongHeir r.2.1 r.2.2 m_rise m_wins m_stored m_isStored m_storedAt m_isWriting) r) := by
  refine kt_of (own := RX9) (nm := "seek") (lv := [(0, .ref (a 0)), (1, .int v1), (2, .int v2), (3, .int v3), (4, .int v4)]) (by decide) rfl rfl rfl (Nat.le_of_ble_eq_true rfl) h (fun X hn C M => ?_)
  have hnn : ((0, 0) : Nat × Nat).1 ≤ 0 ∧ ((0, 0) : Nat × Nat).2 ≤ 0 := ⟨Nat.le_refl 0, Nat.le_refl 0⟩
  unfold f_X9_seek
  refine gg_aload_n C dX9_seek_0 rfl 0 rfl ?_
  refine gg_iload_n C dX9_seek_1 rfl 1 rfl ?_
  refine gg_iload_n C dX9_seek_2 rfl 2 rfl ?_
  refine gg_iload_n C dX9_seek_3 rfl 3 rfl ?_
  refine gg_callV C (fun l r h => c_X9_readBoth l D T a m_beat m_nick m_owner m_place m_kept m_heard m_chosen m_minutes m_sightBeat m_sightOff m_sightIs m_sights m_pad m_padMany m_act m_who m_much m_acts m_heardMany m_wrongNow m_had m_badAct m_badWhy m_wrongAct m_wrongHeir m_odd m_span m_rise m_wins m_stored m_isStored m_storedAt m_isWriting v1 v2 v3 r h) lk_X9_219 ⟨by decide, by decide⟩ hnn rfl (rest := []) rfl (Nat.le_of_ble_eq_true rfl) 0 rfl rfl dX9_seek_4 (ws2 := fun r1 => wM T a m_beat m_nick m_owner m_place m_kept m_heard m_chosen m_minutes m_sightBeat m_sightOff m_sightIs m_sights m_pad m_padMany m_act m_who m_much m_acts m_heardMany m_wrongNow m_had m_badAct m_badWhy m_wrongAct m_wrongHeir r1.2.1 r1.2.2 m_rise m_wins m_stored m_isStored m_storedAt m_isWriting) (cut_full (fun _ => rfl)) (st2 := fun r1 => [.int r1.1]) (fun _ => rfl) (fun r1 => ?_)
  refine gg_if_eq C dX9_seek_7 (tgt := 21) (by decide) (fun _ => ?_) (fun _ => ?_)
  · refine gg_ldc2 C tw_803 dX9_seek_21 ?_
    exact gg_lret C M dX9_seek_24 ⟨rfl, rfl⟩
  · refine gg_iload C dX9_seek_10 4 rfl ?_
    refine gg_i2l C dX9_seek_12 ?_
    refine gg_lconst C dX9_seek_13 (v := 0) (by decide) ?_
    refine gg_lconst C dX9_seek_14 (v := 1) (by decide) ?_
    refine gg_callS C (fun l r h => c_X9_in l D T v4.toInt64 0 1 r h) lk_X9_76 ⟨by decide, by decide⟩ hnn rfl (rest := []) rfl (Nat.le_of_ble_eq_true rfl) dX9_seek_15 cut_none (st2 := fun r2 => [.int r2]) (fun _ => rfl) (fun r2 => ?_)
    refine gg_if_ne C dX9_seek_18 (tgt := 25) (by decide) (fun _ => ?_) (fun _ => ?_)
    · refine gg_aload_n C dX9_seek_25 rfl 0 rfl ?_
      refine gg_iload_n C dX9_seek_26 rfl 3 rfl ?_
      refine gg_callV C (fun l r h => c_X9_timeOf l D T a m_beat m_nick m_owner m_place m_kept m_heard m_chosen m_minutes m_sightBeat m_sightOff m_sightIs m_sights m_pad m_padMany m_act m_who m_much m_acts m_heardMany m_wrongNow m_had m_badAct m_badWhy m_wrongAct m_wrongHeir r1.2.1 r1.2.2 m_rise m_wins m_stored m_isStored m_storedAt m_isWriting v3 r h) lk_X9_225 ⟨by decide, by decide⟩ hnn rfl (rest := []) rfl (Nat.le_of_ble_eq_true rfl) 0 rfl rfl dX9_seek_27 (ws2 := fun r3 => wM T a m_beat m_nick m_owner m_place m_kept m_heard m_chosen m_minutes m_sightBeat m_sightOff m_sightIs m_sights m_pad m_padMany m_act m_who m_much m_acts m_heardMany m_wrongNow m_had m_badAct m_badWhy m_wrongAct m_wrongHeir r1.2.1 r1.2.2 m_rise m_wins m_stored m_isStored m_storedAt m_isWriting) (cut_full (fun _ => rfl)) (st2 := fun r3 => [.int r3]) (fun _ => rfl) (fun r3 => ?_)
      refine gg_i2l C dX9_seek_30 ?_
      refine gg_aload_n C dX9_seek_31 rfl 0 rfl ?_
      refine gg_iload_n C dX9_seek_32 rfl 3 rfl ?_
      refine gg_callV C (fun l r h => c_X9_sumOf l D T a m_beat m_nick m_owner m_place m_kept m_heard m_chosen m_minutes m_sightBeat m_sightOff m_sightIs m_sights m_pad m_padMany m_act m_who m_much m_acts m_heardMany m_wrongNow m_had m_badAct m_badWhy m_wrongAct m_wrongHeir r1.2.1 r1.2.2 m_rise m_wins m_stored m_isStored m_storedAt m_isWriting v3 r h) lk_X9_228 ⟨by decide, by decide⟩ hnn rfl (rest := [.long r3.toInt64]) rfl (Nat.le_of_ble_eq_true rfl) 0 rfl rfl dX9_seek_33 (ws2 := fun r4 => wM T a m_beat m_nick m_owner m_place m_kept m_heard m_chosen m_minutes m_sightBeat m_sightOff m_sightIs m_sights m_pad m_padMany m_act m_who m_much m_acts m_heardMany m_wrongNow m_had m_badAct m_badWhy m_wrongAct m_wrongHeir r1.2.1 r1.2.2 m_rise m_wins m_stored m_isStored m_storedAt m_isWriting) (cut_full (fun _ => rfl)) (st2 := fun r4 => [.int r4, .long r3.toInt64]) (fun _ => rfl) (fun r4 => ?_)
      refine gg_i2l C dX9_seek_36 ?_
      refine gg_iload C dX9_seek_37 4 rfl ?_
      refine gg_callS C (fun l r h => c_X9_lowest l D T r3.toInt64 r4.toInt64 v4 r h) lk_X9_231 ⟨by decide, by decide⟩ hnn rfl (rest := []) rfl (Nat.le_of_ble_eq_true rfl) dX9_seek_39 cut_none (st2 := fun r5 => [.long r5]) (fun _ => rfl) (fun r5 => ?_)
      exact gg_lret C M dX9_seek_42 ⟨rfl, rfl⟩
    · refine gg_ldc2 C tw_803 dX9_seek_21 ?_
      exact gg_lret C M dX9_seek_24 ⟨rfl, rfl⟩
def f_X9_looks (m_odd : Nat → Int32) (m_span : Nat → Int32) (v1 : Int32) (v2 : Int32) (v3 : Int32) : Option (Int32 × (Nat → Int32) × (Nat → Int32)) := jn (f_X9_readBoth m_odd m_span v1 v2 v3) (fun r1 => if r1.1 = 0 then some ((-2), r1.2.1, r1.2.2) else jn (f_X9_nextOf r1.2.1 r1.2.2 (((1 : Int32) <<< (v3 &&& 31)) - 1) v3) (fun r2 => some (r2, r1.2.1, r1.2.2)))
set_option maxHeartbeats 4000000 in
set_option maxRecDepth 100000 in
theorem c_X9_looks (l : Launch) (D : va_G) (T : Nat → ClassId) (a : Nat → Nat) (m_beat : Nat → Int32) (m_nick : Nat → Int32) (m_owner : Nat → Int32) (m_place : Nat → Int32) (m_kept : Nat → Int32) (m_heard : Nat → Int32) (m_chosen : Nat → Int32) (m_minutes : Int32) (m_sightBeat : Nat → Int32) (m_sightOff : Nat → Int32) (m_sightIs : Nat → Int32) (m_sights : Int32) (m_pad : Nat → Int32) (m_padMany : Int32) (m_act : Nat → Int32) (m_who : Nat → Int32) (m_much : Nat → Int32) (m_acts : Int32) (m_heardMany : Int32) (m_wrongNow : Int32) (m_had : Nat → Int32) (m_badAct : Int32) (m_badWhy : Int32) (m_wrongAct : Int32) (m_wrongHeir : Int32) (m_odd : Nat → Int32) (m_span : Nat → Int32) (m_rise : Nat → Int32) (m_wins : Nat → Int32) (m_stored : Nat → Int32) (m_isStored : Nat → Int32) (m_storedAt : Int32) (m_isWriting : Int32) (v1 : Int32) (v2 : Int32) (v3 : Int32) (r : Int32 × (Nat → Int32) × (Nat → Int32)) (h : f_X9_looks m_odd m_span v1 v2 v3 = some r) : Kt l D T yX9_looks cX9_looks 4 (some .int) (2, 0, 0, 51) [.ref (a 0), .int v1, .int v2, .int v3] (wM T a m_beat m_nick m_owner m_place m_kept m_heard m_chosen m_minutes m_sightBeat m_sightOff m_sightIs m_sights m_pad m_padMany m_act m_who m_much m_acts m_heardMany m_wrongNow m_had m_badAct m_badWhy m_wrongAct m_wrongHeir m_odd m_span m_rise m_wins m_stored m_isStored m_storedAt m_isWriting) (FF (fun (r : Int32 × (Nat → Int32) × (Nat → Int32)) => some (.int r.1)) (fun r => wM T a m_beat m_nick m_owner m_place m_kept m_heard m_chosen m_minutes m_sightBeat m_sightOff m_sightIs m_sights m_pad m_padMany m_act m_who m_much m_acts m_heardMany m_wrongNow m_had m_badAct m_badWhy m_wrongAct m_wrongHeir r.2.1 r.2.2 m_rise m_wins m_stored m_isStored m_storedAt m_isWriting) r) := by
  refine kt_of (own := RX9) (nm := "looks") (lv := [(0, .ref (a 0)), (1, .int v1), (2, .int v2), (3, .int v3)]) (by decide) rfl rfl rfl (Nat.le_of_ble_eq_true rfl) h (fun X hn C M => ?_)
  have hnn : ((0, 0) : Nat × Nat).1 ≤ 0 ∧ ((0, 0) : Nat × Nat).2 ≤ 0 := ⟨Nat.le_refl 0, Nat.le_refl 0⟩
  unfold f_X9_looks
  refine gg_aload_n C dX9_looks_0 rfl 0 rfl ?_
  refine gg_iload_n C dX9_looks_1 rfl 1 rfl ?_
  refine gg_iload_n C dX9_looks_2 rfl 2 rfl ?_
  refine gg_iload_n C dX9_looks_3 rfl 3 rfl ?_
  refine gg_callV C (fun l r h => c_X9_readBoth l D T a m_beat m_nick m_owner m_place m_kept m_heard m_chosen m_minutes m_sightBeat m_sightOff m_sightIs m_sights m_pad m_padMany m_act m_who m_much m_acts m_heardMany m_wrongNow m_had m_badAct m_badWhy m_wrongAct m_wrongHeir m_odd m_span m_rise m_wins m_stored m_isStored m_storedAt m_isWriting v1 v2 v3 r h) lk_X9_219 ⟨by decide, by decide⟩ hnn rfl (rest := []) rfl (Nat.le_of_ble_eq_true rfl) 0 rfl rfl dX9_looks_4 (ws2 := fun r1 => wM T a m_beat m_nick m_owner m_place m_kept m_heard m_chosen m_minutes m_sightBeat m_sightOff m_sightIs m_sights m_pad m_padMany m_act m_who m_much m_acts m_heardMany m_wrongNow m_had m_badAct m_badWhy m_wrongAct m_wrongHeir r1.2.1 r1.2.2 m_rise m_wins m_stored m_isStored m_storedAt m_isWriting) (cut_full (fun _ => rfl)) (st2 := fun r1 => [.int r1.1]) (fun _ => rfl) (fun r1 => ?_)
  refine gg_if_eq C dX9_looks_7 (tgt := 23) (by decide) (fun _ => ?_) (fun _ => ?_)
  · refine gg_bipush C dX9_looks_23 kB_m2 ?_
    exact gg_iret C M dX9_looks_25 ⟨rfl, rfl⟩
  · refine gg_aload_n C dX9_looks_10 rfl 0 rfl ?_
    refine gg_iconst C dX9_looks_11 kI_1 ?_
    refine gg_iload_n C dX9_looks_12 rfl 3 rfl ?_
    refine gg_ishl C dX9_looks_13 ?_
    refine gg_iconst C dX9_looks_14 kI_1 ?_
    refine gg_isub C dX9_looks_15 ?_
    refine gg_iload_n C dX9_looks_16 rfl 3 rfl ?_
    refine gg_callV C (fun l r h => c_X9_nextOf l D T a m_beat m_nick m_owner m_place m_kept m_heard m_chosen m_minutes m_sightBeat m_sightOff m_sightIs m_sights m_pad m_padMany m_act m_who m_much m_acts m_heardMany m_wrongNow m_had m_badAct m_badWhy m_wrongAct m_wrongHeir r1.2.1 r1.2.2 m_rise m_wins m_stored m_isStored m_storedAt m_isWriting (((1 : Int32) <<< (v3 &&& 31)) - 1) v3 r h) lk_X9_216 ⟨by decide, by decide⟩ hnn rfl (rest := []) rfl (Nat.le_of_ble_eq_true rfl) 0 rfl rfl dX9_looks_17 (ws2 := fun r2 => wM T a m_beat m_nick m_owner m_place m_kept m_heard m_chosen m_minutes m_sightBeat m_sightOff m_sightIs m_sights m_pad m_padMany m_act m_who m_much m_acts m_heardMany m_wrongNow m_had m_badAct m_badWhy m_wrongAct m_wrongHeir r1.2.1 r1.2.2 m_rise m_wins m_stored m_isStored m_storedAt m_isWriting) (cut_full (fun _ => rfl)) (st2 := fun r2 => [.int r2]) (fun _ => rfl) (fun r2 => ?_)
    refine gg_goto C dX9_looks_20 (tgt := 25) (by decide) ?_
    exact gg_iret C M dX9_looks_25 ⟨rfl, rfl⟩
def f_X9_mix_L72 (y1 : Int32) (y3 : Int32) (y5 : Int32) : Nat → Int32 → Int32 → Option (Int32 × Int32)
  | 0, _, _ => none
  | nn + 1, y6, y7 => gd y5 (if y3 - y3 / y5 * y5 ≤ y7 then some (y6, y7) else jn (f_X9_mixedOnce y1 y6) (fun r6 => f_X9_mix_L72 y1 y3 y5 nn r6 (y7 + 1)))
set_option maxHeartbeats 4000000 in
set_option maxRecDepth 100000 in
theorem g_X9_mix_L72 {X : KX} {D : va_G} {T : Nat → ClassId} {Q : Int32 × Int32 → State → Prop} {n : Nat × Nat} (C : Cx X D T cX9_mix RX9 { frames := 2, cells := 0, slots := 0, locals := 43 }) (hnn : n.1 ≤ 0 ∧ n.2 ≤ 0) (hn : kxL X = 8) (a : Nat → Nat)  (y1 : Int32) (y2 : Int32) (y3 : Int32) (y4 : Int32) (y5 : Int32) (m_beat : Nat → Int32) (m_nick : Nat → Int32) (m_owner : Nat → Int32) (m_place : Nat → Int32) (m_kept : Nat → Int32) (m_heard : Nat → Int32) (m_chosen : Nat → Int32) (m_minutes : Int32) (m_sightBeat : Nat → Int32) (m_sightOff : Nat → Int32) (m_sightIs : Nat → Int32) (m_sights : Int32) (m_pad : Nat → Int32) (m_padMany : Int32) (m_act : Nat → Int32) (m_who : Nat → Int32) (m_much : Nat → Int32) (m_acts : Int32) (m_heardMany : Int32) (m_wrongNow : Int32) (m_had : Nat → Int32) (m_badAct : Int32) (m_badWhy : Int32) (m_wrongAct : Int32) (m_wrongHeir : Int32) (m_odd : Nat → Int32) (m_span : Nat → Int32) (m_rise : Nat → Int32) (m_wins : Nat → Int32) (m_stored : Nat → Int32) (m_isStored : Nat → Int32) (m_storedAt : Int32) (m_isWriting : Int32) (hk : ∀ v : Int32 × Int32, GG X D Q n (wM T a m_beat m_nick m_owner m_place m_kept m_heard m_chosen m_minutes m_sightBeat m_sightOff m_sightIs m_sights m_pad m_padMany m_act m_who m_much m_acts m_heardMany m_wrongNow m_had m_badAct m_badWhy m_wrongAct m_wrongHeir m_odd m_span m_rise m_wins m_stored m_isStored m_storedAt m_isWriting) [(0, .ref (a 0)), (1, .int y1), (2, .int y2), (3, .int y3), (4, .int y4), (5, .int y5), (6, .int v.1), (7, .int v.2)] 95 [] (some (v))) : ∀ (nn : Nat) (y6 : Int32) (y7 : Int32), GG X D Q n (wM T a m_beat m_nick m_owner m_place m_kept m_heard m_chosen m_minutes m_sightBeat m_sightOff m_sightIs m_sights m_pad m_padMany m_act m_who m_much m_acts m_heardMany m_wrongNow m_had m_badAct m_badWhy m_wrongAct m_wrongHeir m_odd m_span m_rise m_wins m_stored m_isStored m_storedAt m_isWriting) [(0, .ref (a 0)), (1, .int y1), (2, .int y2), (3, .int y3), (4, .int y4), (5, .int y5), (6, .int y6), (7, .int y7)] 72 [] (f_X9_mix_L72 y1 y3 y5 nn y6 y7) := by
  intro nn
  induction nn with
  | zero => intros; exact gg_none
  | succ nn ih =>
    intro y6 y7
    unfold f_X9_mix_L72
    refine gg_iload C dX9_mix_72 7 rfl ?_
    refine gg_iload_n C dX9_mix_74 rfl 3 rfl ?_
    refine gg_iload C dX9_mix_75 5 rfl ?_
    refine gg_irem C dX9_mix_77 ?_
    refine gg_icmp_ge C dX9_mix_78 (tgt := 95) (by decide) (fun _ => ?_) (fun _ => ?_)
    · refine gg_sub [0, 1, 2, 3, 4, 5, 6, 7] rfl ?_
      exact hk (y6, y7)
    · refine gg_iload_n C dX9_mix_81 rfl 1 rfl ?_
      refine gg_iload C dX9_mix_82 6 rfl ?_
      refine gg_callS C (fun l r h => c_X9_mixedOnce l D T y1 y6 r h) lk_X9_235 ⟨by decide, by decide⟩ hnn rfl (rest := []) rfl (Nat.le_of_ble_eq_true rfl) dX9_mix_84 cut_none (st2 := fun r6 => [.int r6]) (fun _ => rfl) (fun r6 => ?_)
      refine gg_istore C dX9_mix_87 hn (by decide) (lv' := [(6, .int r6), (0, .ref (a 0)), (1, .int y1), (2, .int y2), (3, .int y3), (4, .int y4), (5, .int y5), (7, .int y7)]) rfl ?_
      refine gg_iinc C dX9_mix_89 (j := 7) rfl (v := y7 + 1) (by first | rfl | decide) hn (by decide) (lv' := [(7, .int (y7 + 1)), (6, .int r6), (0, .ref (a 0)), (1, .int y1), (2, .int y2), (3, .int y3), (4, .int y4), (5, .int y5)]) rfl ?_
      refine gg_goto C dX9_mix_92 (tgt := 72) (by decide) ?_
      refine gg_sub [2, 3, 4, 5, 6, 7, 1, 0] rfl ?_
      exact ih r6 (y7 + 1)
def f_X9_mix (v1 : Int32) (v2 : Int32) (v3 : Int32) (v4 : Int32) : Option (Int32) := jn (f_X9_in v1.toInt64 2 998) (fun r1 => if r1 = 0 then some (-2) else if v1 - v1 / 2 * 2 = 1 then some (-2) else jn (f_X9_in v2.toInt64 0 (((v1 - 1 : Int32)).toInt64)) (fun r2 => if r2 = 0 then some (-2) else jn (f_X9_in v3.toInt64 0 999999999) (fun r3 => if r3 = 0 then some (-2) else jn (f_X9_in v4.toInt64 0 1) (fun r4 => if r4 = 0 then some (-2) else jn (f_X9_orderOf v1) (fun r5 => jn (α := Int32 × Int32) (f_X9_mix_L72 v1 v3 r5 1100 v2 0) (fun z7 => if v4 = 0 then some z7.1 else some r5))))))
set_option maxHeartbeats 4000000 in
set_option maxRecDepth 100000 in
theorem c_X9_mix (l : Launch) (D : va_G) (T : Nat → ClassId) (a : Nat → Nat) (m_beat : Nat → Int32) (m_nick : Nat → Int32) (m_owner : Nat → Int32) (m_place : Nat → Int32) (m_kept : Nat → Int32) (m_heard : Nat → Int32) (m_chosen : Nat → Int32) (m_minutes : Int32) (m_sightBeat : Nat → Int32) (m_sightOff : Nat → Int32) (m_sightIs : Nat → Int32) (m_sights : Int32) (m_pad : Nat → Int32) (m_padMany : Int32) (m_act : Nat → Int32) (m_who : Nat → Int32) (m_much : Nat → Int32) (m_acts : Int32) (m_heardMany : Int32) (m_wrongNow : Int32) (m_had : Nat → Int32) (m_badAct : Int32) (m_badWhy : Int32) (m_wrongAct : Int32) (m_wrongHeir : Int32) (m_odd : Nat → Int32) (m_span : Nat → Int32) (m_rise : Nat → Int32) (m_wins : Nat → Int32) (m_stored : Nat → Int32) (m_isStored : Nat → Int32) (m_storedAt : Int32) (m_isWriting : Int32) (v1 : Int32) (v2 : Int32) (v3 : Int32) (v4 : Int32) (r : Int32) (h : f_X9_mix v1 v2 v3 v4 = some r) : Kt l D T yX9_mix cX9_mix 8 (some .int) (2, 0, 0, 43) [.ref (a 0), .int v1, .int v2, .int v3, .int v4] (wM T a m_beat m_nick m_owner m_place m_kept m_heard m_chosen m_minutes m_sightBeat m_sightOff m_sightIs m_sights m_pad m_padMany m_act m_who m_much m_acts m_heardMany m_wrongNow m_had m_badAct m_badWhy m_wrongAct m_wrongHeir m_odd m_span m_rise m_wins m_stored m_isStored m_storedAt m_isWriting) (FF (fun (r : Int32) => some (.int r)) (fun r => wM T a m_beat m_nick m_owner m_place m_kept m_heard m_chosen m_minutes m_sightBeat m_sightOff m_sightIs m_sights m_pad m_padMany m_act m_who m_much m_acts m_heardMany m_wrongNow m_had m_badAct m_badWhy m_wrongAct m_wrongHeir m_odd m_span m_rise m_wins m_stored m_isStored m_storedAt m_isWriting) r) := by
  refine kt_of (own := RX9) (nm := "mix") (lv := [(0, .ref (a 0)), (1, .int v1), (2, .int v2), (3, .int v3), (4, .int v4)]) (by decide) rfl rfl rfl (Nat.le_of_ble_eq_true rfl) h (fun X hn C M => ?_)
  have hnn : ((0, 0) : Nat × Nat).1 ≤ 0 ∧ ((0, 0) : Nat × Nat).2 ≤ 0 := ⟨Nat.le_refl 0, Nat.le_refl 0⟩
  unfold f_X9_mix
  refine gg_iload_n C dX9_mix_0 rfl 1 rfl ?_
  refine gg_i2l C dX9_mix_1 ?_
  refine gg_ldc2 C tw_702 dX9_mix_2 ?_
  refine gg_ldc2 C tw_827 dX9_mix_5 ?_
  refine gg_callS C (fun l r h => c_X9_in l D T v1.toInt64 2 998 r h) lk_X9_76 ⟨by decide, by decide⟩ hnn rfl (rest := []) rfl (Nat.le_of_ble_eq_true rfl) dX9_mix_8 cut_none (st2 := fun r1 => [.int r1]) (fun _ => rfl) (fun r1 => ?_)
  refine gg_if_eq C dX9_mix_11 (tgt := 57) (by decide) (fun _ => ?_) (fun _ => ?_)
  · refine gg_bipush C dX9_mix_57 kB_m2 ?_
    exact gg_iret C M dX9_mix_59 ⟨rfl, rfl⟩
  · refine gg_iload_n C dX9_mix_14 rfl 1 rfl ?_
    refine gg_iconst C dX9_mix_15 kI_2 ?_
    refine gg_iremK C dX9_mix_16 (by decide) ?_
    refine gg_iconst C dX9_mix_17 kI_1 ?_
    refine gg_icmp_eq C dX9_mix_18 (tgt := 57) (by decide) (fun _ => ?_) (fun _ => ?_)
    · refine gg_bipush C dX9_mix_57 kB_m2 ?_
      exact gg_iret C M dX9_mix_59 ⟨rfl, rfl⟩
    · refine gg_iload_n C dX9_mix_21 rfl 2 rfl ?_
      refine gg_i2l C dX9_mix_22 ?_
      refine gg_lconst C dX9_mix_23 (v := 0) (by decide) ?_
      refine gg_iload_n C dX9_mix_24 rfl 1 rfl ?_
      refine gg_iconst C dX9_mix_25 kI_1 ?_
      refine gg_isub C dX9_mix_26 ?_
      refine gg_i2l C dX9_mix_27 ?_
      refine gg_callS C (fun l r h => c_X9_in l D T v2.toInt64 0 (((v1 - 1 : Int32)).toInt64) r h) lk_X9_76 ⟨by decide, by decide⟩ hnn rfl (rest := []) rfl (Nat.le_of_ble_eq_true rfl) dX9_mix_28 cut_none (st2 := fun r2 => [.int r2]) (fun _ => rfl) (fun r2 => ?_)
      refine gg_if_eq C dX9_mix_31 (tgt := 57) (by decide) (fun _ => ?_) (fun _ => ?_)
      · refine gg_bipush C dX9_mix_57 kB_m2 ?_
        exact gg_iret C M dX9_mix_59 ⟨rfl, rfl⟩
      · refine gg_iload_n C dX9_mix_34 rfl 3 rfl ?_
        refine gg_i2l C dX9_mix_35 ?_
        refine gg_lconst C dX9_mix_36 (v := 0) (by decide) ?_
        refine gg_ldc2 C tw_828 dX9_mix_37 ?_
        refine gg_callS C (fun l r h => c_X9_in l D T v3.toInt64 0 999999999 r h) lk_X9_76 ⟨by decide, by decide⟩ hnn rfl (rest := []) rfl (Nat.le_of_ble_eq_true rfl) dX9_mix_40 cut_none (st2 := fun r3 => [.int r3]) (fun _ => rfl) (fun r3 => ?_)
        refine gg_if_eq C dX9_mix_43 (tgt := 57) (by decide) (fun _ => ?_) (fun _ => ?_)
        · refine gg_bipush C dX9_mix_57 kB_m2 ?_
          exact gg_iret C M dX9_mix_59 ⟨rfl, rfl⟩
        · refine gg_iload C dX9_mix_46 4 rfl ?_
          refine gg_i2l C dX9_mix_48 ?_
          refine gg_lconst C dX9_mix_49 (v := 0) (by decide) ?_
          refine gg_lconst C dX9_mix_50 (v := 1) (by decide) ?_
          refine gg_callS C (fun l r h => c_X9_in l D T v4.toInt64 0 1 r h) lk_X9_76 ⟨by decide, by decide⟩ hnn rfl (rest := []) rfl (Nat.le_of_ble_eq_true rfl) dX9_mix_51 cut_none (st2 := fun r4 => [.int r4]) (fun _ => rfl) (fun r4 => ?_)
          refine gg_if_ne C dX9_mix_54 (tgt := 60) (by decide) (fun _ => ?_) (fun _ => ?_)
          · refine gg_iload_n C dX9_mix_60 rfl 1 rfl ?_
            refine gg_callS C (fun l r h => c_X9_orderOf l D T v1 r h) lk_X9_242 ⟨by decide, by decide⟩ hnn rfl (rest := []) rfl (Nat.le_of_ble_eq_true rfl) dX9_mix_61 cut_none (st2 := fun r5 => [.int r5]) (fun _ => rfl) (fun r5 => ?_)
            refine gg_istore C dX9_mix_64 hn (by decide) (lv' := [(5, .int r5), (0, .ref (a 0)), (1, .int v1), (2, .int v2), (3, .int v3), (4, .int v4)]) rfl ?_
            refine gg_iload_n C dX9_mix_66 rfl 3 rfl ?_
            refine gg_istore C dX9_mix_67 hn (by decide) (lv' := [(6, .int v2), (5, .int r5), (0, .ref (a 0)), (1, .int v1), (2, .int v2), (3, .int v3), (4, .int v4)]) rfl ?_
            refine gg_iconst C dX9_mix_69 kI_0 ?_
            refine gg_istore C dX9_mix_70 hn (by decide) (lv' := [(7, .int 0), (6, .int v2), (5, .int r5), (0, .ref (a 0)), (1, .int v1), (2, .int v2), (3, .int v3), (4, .int v4)]) rfl ?_
            refine gg_join (α := Int32 × Int32) 95 (fun z7 => wM T a m_beat m_nick m_owner m_place m_kept m_heard m_chosen m_minutes m_sightBeat m_sightOff m_sightIs m_sights m_pad m_padMany m_act m_who m_much m_acts m_heardMany m_wrongNow m_had m_badAct m_badWhy m_wrongAct m_wrongHeir m_odd m_span m_rise m_wins m_stored m_isStored m_storedAt m_isWriting) (fun z7 => [(0, .ref (a 0)), (1, .int v1), (2, .int v2), (3, .int v3), (4, .int v4), (5, .int r5), (6, .int z7.1), (7, .int z7.2)]) (fun z7 => []) (fun z7 => ?_) (fun K8 => ?_)
            · refine gg_iload C dX9_mix_95 4 rfl ?_
              refine gg_if_ne C dX9_mix_97 (tgt := 105) (by decide) (fun _ => ?_) (fun _ => ?_)
              · refine gg_iload C dX9_mix_105 5 rfl ?_
                exact gg_iret C M dX9_mix_107 ⟨rfl, rfl⟩
              · refine gg_iload C dX9_mix_100 6 rfl ?_
                refine gg_goto C dX9_mix_102 (tgt := 107) (by decide) ?_
                exact gg_iret C M dX9_mix_107 ⟨rfl, rfl⟩
            · refine gg_sub [3, 4, 5, 6, 7, 2, 1, 0] rfl ?_
              exact g_X9_mix_L72 C hnn hn a v1 v2 v3 v4 r5 m_beat m_nick m_owner m_place m_kept m_heard m_chosen m_minutes m_sightBeat m_sightOff m_sightIs m_sights m_pad m_padMany m_act m_who m_much m_acts m_heardMany m_wrongNow m_had m_badAct m_badWhy m_wrongAct m_wrongHeir m_odd m_span m_rise m_wins m_stored m_isStored m_storedAt m_isWriting K8 1100 v2 0
          · refine gg_bipush C dX9_mix_57 kB_m2 ?_
            exact gg_iret C M dX9_mix_59 ⟨rfl, rfl⟩
def f_X9_riseFrom_L6 (y1 : Int32) (m_beat : Nat → Int32) (m_rise : Nat → Int32) : Nat → Int32 → Int32 → Option (Int32 × Int32)
  | 0, _, _ => none
  | nn + 1, y2, y3 => if 40 ≤ y3 then some (y2, y3) else gu y3 40 (gu y1 40 (if m_beat y3.toNatClampNeg < m_beat y1.toNatClampNeg then f_X9_riseFrom_L6 y1 m_beat m_rise nn y2 (y3 + 1) else gu y3 40 (if m_rise y3.toNatClampNeg ≤ y2 then f_X9_riseFrom_L6 y1 m_beat m_rise nn y2 (y3 + 1) else gu y3 40 (bi (m_rise y3.toNatClampNeg) (fun x2 => f_X9_riseFrom_L6 y1 m_beat m_rise nn x2 (y3 + 1))))))
set_option maxHeartbeats 4000000 in
set_option maxRecDepth 100000 in
theorem g_X9_riseFrom_L6 {X : KX} {D : va_G} {T : Nat → ClassId} {Q : Int32 × Int32 → State → Prop} {n : Nat × Nat} (C : Cx X D T cX9_riseFrom RX9 { frames := 0, cells := 0, slots := 0, locals := 0 }) (hnn : n.1 ≤ 0 ∧ n.2 ≤ 0) (hn : kxL X = 4) (a : Nat → Nat)  (y1 : Int32) (m_beat : Nat → Int32) (m_nick : Nat → Int32) (m_owner : Nat → Int32) (m_place : Nat → Int32) (m_kept : Nat → Int32) (m_heard : Nat → Int32) (m_chosen : Nat → Int32) (m_minutes : Int32) (m_sightBeat : Nat → Int32) (m_sightOff : Nat → Int32) (m_sightIs : Nat → Int32) (m_sights : Int32) (m_pad : Nat → Int32) (m_padMany : Int32) (m_act : Nat → Int32) (m_who : Nat → Int32) (m_much : Nat → Int32) (m_acts : Int32) (m_heardMany : Int32) (m_wrongNow : Int32) (m_had : Nat → Int32) (m_badAct : Int32) (m_badWhy : Int32) (m_wrongAct : Int32) (m_wrongHeir : Int32) (m_odd : Nat → Int32) (m_span : Nat → Int32) (m_rise : Nat → Int32) (m_wins : Nat → Int32) (m_stored : Nat → Int32) (m_isStored : Nat → Int32) (m_storedAt : Int32) (m_isWriting : Int32) (hk : ∀ v : Int32 × Int32, GG X D Q n (wM T a m_beat m_nick m_owner m_place m_kept m_heard m_chosen m_minutes m_sightBeat m_sightOff m_sightIs m_sights m_pad m_padMany m_act m_who m_much m_acts m_heardMany m_wrongNow m_had m_badAct m_badWhy m_wrongAct m_wrongHeir m_odd m_span m_rise m_wins m_stored m_isStored m_storedAt m_isWriting) [(0, .ref (a 0)), (1, .int y1), (2, .int v.1), (3, .int v.2)] 54 [] (some (v))) : ∀ (nn : Nat) (y2 : Int32) (y3 : Int32), GG X D Q n (wM T a m_beat m_nick m_owner m_place m_kept m_heard m_chosen m_minutes m_sightBeat m_sightOff m_sightIs m_sights m_pad m_padMany m_act m_who m_much m_acts m_heardMany m_wrongNow m_had m_badAct m_badWhy m_wrongAct m_wrongHeir m_odd m_span m_rise m_wins m_stored m_isStored m_storedAt m_isWriting) [(0, .ref (a 0)), (1, .int y1), (2, .int y2), (3, .int y3)] 6 [] (f_X9_riseFrom_L6 y1 m_beat m_rise nn y2 y3) := by
  intro nn
  induction nn with
  | zero => intros; exact gg_none
  | succ nn ih =>
    intro y2 y3
    unfold f_X9_riseFrom_L6
    refine gg_iload_n C dX9_riseFrom_6 rfl 3 rfl ?_
    refine gg_bipush C dX9_riseFrom_7 kB_40 ?_
    refine gg_icmp_ge C dX9_riseFrom_9 (tgt := 54) (by decide) (fun _ => ?_) (fun _ => ?_)
    · refine gg_sub [0, 1, 2, 3] rfl ?_
      exact hk (y2, y3)
    · refine gg_aload_n C dX9_riseFrom_12 rfl 0 rfl ?_
      refine gf_X9_7 C 0 rfl rfl dX9_riseFrom_13 ?_
      refine gg_iload_n C dX9_riseFrom_16 rfl 3 rfl ?_
      refine gg_iald C 1 rfl dX9_riseFrom_17 ?_
      refine gg_aload_n C dX9_riseFrom_18 rfl 0 rfl ?_
      refine gf_X9_7 C 0 rfl rfl dX9_riseFrom_19 ?_
      refine gg_iload_n C dX9_riseFrom_22 rfl 1 rfl ?_
      refine gg_iald C 1 rfl dX9_riseFrom_23 ?_
      refine gg_icmp_lt C dX9_riseFrom_24 (tgt := 46) (by decide) (fun _ => ?_) (fun _ => ?_)
      · refine gg_iload_n C dX9_riseFrom_46 rfl 2 rfl ?_
        refine gg_istore_n C dX9_riseFrom_47 rfl hn (by decide) (lv' := [(2, .int y2), (0, .ref (a 0)), (1, .int y1), (3, .int y3)]) rfl ?_
        refine gg_iinc C dX9_riseFrom_48 (j := 3) rfl (v := y3 + 1) (by first | rfl | decide) hn (by decide) (lv' := [(3, .int (y3 + 1)), (2, .int y2), (0, .ref (a 0)), (1, .int y1)]) rfl ?_
        refine gg_goto C dX9_riseFrom_51 (tgt := 6) (by decide) ?_
        refine gg_sub [2, 3, 1, 0] rfl ?_
        exact ih y2 (y3 + 1)
      · refine gg_aload_n C dX9_riseFrom_27 rfl 0 rfl ?_
        refine gf_X9_61 C 0 rfl rfl dX9_riseFrom_28 ?_
        refine gg_iload_n C dX9_riseFrom_31 rfl 3 rfl ?_
        refine gg_iald C 18 rfl dX9_riseFrom_32 ?_
        refine gg_iload_n C dX9_riseFrom_33 rfl 2 rfl ?_
        refine gg_icmp_le C dX9_riseFrom_34 (tgt := 46) (by decide) (fun _ => ?_) (fun _ => ?_)
        · refine gg_iload_n C dX9_riseFrom_46 rfl 2 rfl ?_
          refine gg_istore_n C dX9_riseFrom_47 rfl hn (by decide) (lv' := [(2, .int y2), (0, .ref (a 0)), (1, .int y1), (3, .int y3)]) rfl ?_
          refine gg_iinc C dX9_riseFrom_48 (j := 3) rfl (v := y3 + 1) (by first | rfl | decide) hn (by decide) (lv' := [(3, .int (y3 + 1)), (2, .int y2), (0, .ref (a 0)), (1, .int y1)]) rfl ?_
          refine gg_goto C dX9_riseFrom_51 (tgt := 6) (by decide) ?_
          refine gg_sub [2, 3, 1, 0] rfl ?_
          exact ih y2 (y3 + 1)
        · refine gg_aload_n C dX9_riseFrom_37 rfl 0 rfl ?_
          refine gf_X9_61 C 0 rfl rfl dX9_riseFrom_38 ?_
          refine gg_iload_n C dX9_riseFrom_41 rfl 3 rfl ?_
          refine gg_iald C 18 rfl dX9_riseFrom_42 ?_
          refine gg_goto C dX9_riseFrom_43 (tgt := 47) (by decide) ?_
          refine gg_bi (fun x2 => ?_)
          refine gg_istore_n C dX9_riseFrom_47 rfl hn (by decide) (lv' := [(2, .int x2), (0, .ref (a 0)), (1, .int y1), (3, .int y3)]) rfl ?_
          refine gg_iinc C dX9_riseFrom_48 (j := 3) rfl (v := y3 + 1) (by first | rfl | decide) hn (by decide) (lv' := [(3, .int (y3 + 1)), (2, .int x2), (0, .ref (a 0)), (1, .int y1)]) rfl ?_
          refine gg_goto C dX9_riseFrom_51 (tgt := 6) (by decide) ?_
          refine gg_sub [2, 3, 1, 0] rfl ?_
          exact ih x2 (y3 + 1)
def f_X9_riseFrom (m_beat : Nat → Int32) (m_rise : Nat → Int32) (v1 : Int32) : Option (Int32) := bi (v1 + 1) (fun x1 => jn (α := Int32 × Int32) (f_X9_riseFrom_L6 v1 m_beat m_rise 100 0 x1) (fun z3 => some (z3.1 + 1)))
set_option maxHeartbeats 4000000 in
set_option maxRecDepth 100000 in
theorem c_X9_riseFrom (l : Launch) (D : va_G) (T : Nat → ClassId) (a : Nat → Nat) (m_beat : Nat → Int32) (m_nick : Nat → Int32) (m_owner : Nat → Int32) (m_place : Nat → Int32) (m_kept : Nat → Int32) (m_heard : Nat → Int32) (m_chosen : Nat → Int32) (m_minutes : Int32) (m_sightBeat : Nat → Int32) (m_sightOff : Nat → Int32) (m_sightIs : Nat → Int32) (m_sights : Int32) (m_pad : Nat → Int32) (m_padMany : Int32) (m_act : Nat → Int32) (m_who : Nat → Int32) (m_much : Nat → Int32) (m_acts : Int32) (m_heardMany : Int32) (m_wrongNow : Int32) (m_had : Nat → Int32) (m_badAct : Int32) (m_badWhy : Int32) (m_wrongAct : Int32) (m_wrongHeir : Int32) (m_odd : Nat → Int32) (m_span : Nat → Int32) (m_rise : Nat → Int32) (m_wins : Nat → Int32) (m_stored : Nat → Int32) (m_isStored : Nat → Int32) (m_storedAt : Int32) (m_isWriting : Int32) (v1 : Int32) (r : Int32) (h : f_X9_riseFrom m_beat m_rise v1 = some r) : Kt l D T yX9_riseFrom cX9_riseFrom 4 (some .int) (0, 0, 0, 0) [.ref (a 0), .int v1] (wM T a m_beat m_nick m_owner m_place m_kept m_heard m_chosen m_minutes m_sightBeat m_sightOff m_sightIs m_sights m_pad m_padMany m_act m_who m_much m_acts m_heardMany m_wrongNow m_had m_badAct m_badWhy m_wrongAct m_wrongHeir m_odd m_span m_rise m_wins m_stored m_isStored m_storedAt m_isWriting) (FF (fun (r : Int32) => some (.int r)) (fun r => wM T a m_beat m_nick m_owner m_place m_kept m_heard m_chosen m_minutes m_sightBeat m_sightOff m_sightIs m_sights m_pad m_padMany m_act m_who m_much m_acts m_heardMany m_wrongNow m_had m_badAct m_badWhy m_wrongAct m_wrongHeir m_odd m_span m_rise m_wins m_stored m_isStored m_storedAt m_isWriting) r) := by
  refine kt_of (own := RX9) (nm := "riseFrom") (lv := [(0, .ref (a 0)), (1, .int v1)]) (by decide) rfl rfl rfl (Nat.le_of_ble_eq_true rfl) h (fun X hn C M => ?_)
  have hnn : ((0, 0) : Nat × Nat).1 ≤ 0 ∧ ((0, 0) : Nat × Nat).2 ≤ 0 := ⟨Nat.le_refl 0, Nat.le_refl 0⟩
  unfold f_X9_riseFrom
  refine gg_iconst C dX9_riseFrom_0 kI_0 ?_
  refine gg_istore_n C dX9_riseFrom_1 rfl hn (by decide) (lv' := [(2, .int 0), (0, .ref (a 0)), (1, .int v1)]) rfl ?_
  refine gg_iload_n C dX9_riseFrom_2 rfl 2 rfl ?_
  refine gg_iconst C dX9_riseFrom_3 kI_1 ?_
  refine gg_iadd C dX9_riseFrom_4 ?_
  refine gg_bi (fun x1 => ?_)
  refine gg_istore_n C dX9_riseFrom_5 rfl hn (by decide) (lv' := [(3, .int x1), (2, .int 0), (0, .ref (a 0)), (1, .int v1)]) rfl ?_
  refine gg_join (α := Int32 × Int32) 54 (fun z3 => wM T a m_beat m_nick m_owner m_place m_kept m_heard m_chosen m_minutes m_sightBeat m_sightOff m_sightIs m_sights m_pad m_padMany m_act m_who m_much m_acts m_heardMany m_wrongNow m_had m_badAct m_badWhy m_wrongAct m_wrongHeir m_odd m_span m_rise m_wins m_stored m_isStored m_storedAt m_isWriting) (fun z3 => [(0, .ref (a 0)), (1, .int v1), (2, .int z3.1), (3, .int z3.2)]) (fun z3 => []) (fun z3 => ?_) (fun K4 => ?_)
  · refine gg_iload_n C dX9_riseFrom_54 rfl 2 rfl ?_
    refine gg_iconst C dX9_riseFrom_55 kI_1 ?_
    refine gg_iadd C dX9_riseFrom_56 ?_
    exact gg_iret C M dX9_riseFrom_57 ⟨rfl, rfl⟩
  · refine gg_sub [2, 3, 1, 0] rfl ?_
    exact g_X9_riseFrom_L6 C hnn hn a v1 m_beat m_nick m_owner m_place m_kept m_heard m_chosen m_minutes m_sightBeat m_sightOff m_sightIs m_sights m_pad m_padMany m_act m_who m_much m_acts m_heardMany m_wrongNow m_had m_badAct m_badWhy m_wrongAct m_wrongHeir m_odd m_span m_rise m_wins m_stored m_isStored m_storedAt m_isWriting K4 100 0 x1
def f_X9_rises_L29 (y1 : Int32) (m_beat : Nat → Int32) : Nat → Int32 → Int32 → (Nat → Int32) → Option (Int32 × Int32 × (Nat → Int32))
  | 0, _, _, _ => none
  | nn + 1, y3, y4, m_rise => if y4 < y1 then some (y3, y4, m_rise) else jn (f_X9_riseFrom m_beat m_rise y4) (fun r3 => gu y4 40 (gu y4 40 (gu y3 40 (if (upd m_rise y4.toNatClampNeg r3) y4.toNatClampNeg < (upd m_rise y4.toNatClampNeg r3) y3.toNatClampNeg then f_X9_rises_L29 y1 m_beat nn y3 (y4 + (-1)) (upd m_rise y4.toNatClampNeg r3) else f_X9_rises_L29 y1 m_beat nn y4 (y4 + (-1)) (upd m_rise y4.toNatClampNeg r3)))))
set_option maxHeartbeats 4000000 in
set_option maxRecDepth 100000 in
theorem g_X9_rises_L29 {X : KX} {D : va_G} {T : Nat → ClassId} {Q : Int32 × Int32 × (Nat → Int32) → State → Prop} {n : Nat × Nat} (C : Cx X D T cX9_rises RX9 { frames := 2, cells := 0, slots := 0, locals := 45 }) (hnn : n.1 ≤ 0 ∧ n.2 ≤ 0) (hn : kxL X = 5) (a : Nat → Nat)  (y1 : Int32) (y2 : Int32) (m_beat : Nat → Int32) (m_nick : Nat → Int32) (m_owner : Nat → Int32) (m_place : Nat → Int32) (m_kept : Nat → Int32) (m_heard : Nat → Int32) (m_chosen : Nat → Int32) (m_minutes : Int32) (m_sightBeat : Nat → Int32) (m_sightOff : Nat → Int32) (m_sightIs : Nat → Int32) (m_sights : Int32) (m_pad : Nat → Int32) (m_padMany : Int32) (m_act : Nat → Int32) (m_who : Nat → Int32) (m_much : Nat → Int32) (m_acts : Int32) (m_heardMany : Int32) (m_wrongNow : Int32) (m_had : Nat → Int32) (m_badAct : Int32) (m_badWhy : Int32) (m_wrongAct : Int32) (m_wrongHeir : Int32) (m_odd : Nat → Int32) (m_span : Nat → Int32) (m_wins : Nat → Int32) (m_stored : Nat → Int32) (m_isStored : Nat → Int32) (m_storedAt : Int32) (m_isWriting : Int32) (hk : ∀ v : Int32 × Int32 × (Nat → Int32), GG X D Q n (wM T a m_beat m_nick m_owner m_place m_kept m_heard m_chosen m_minutes m_sightBeat m_sightOff m_sightIs m_sights m_pad m_padMany m_act m_who m_much m_acts m_heardMany m_wrongNow m_had m_badAct m_badWhy m_wrongAct m_wrongHeir m_odd m_span v.2.2 m_wins m_stored m_isStored m_storedAt m_isWriting) [(0, .ref (a 0)), (1, .int y1), (2, .int y2), (3, .int v.1), (4, .int v.2.1)] 77 [] (some (v))) : ∀ (nn : Nat) (y3 : Int32) (y4 : Int32) (m_rise : Nat → Int32), GG X D Q n (wM T a m_beat m_nick m_owner m_place m_kept m_heard m_chosen m_minutes m_sightBeat m_sightOff m_sightIs m_sights m_pad m_padMany m_act m_who m_much m_acts m_heardMany m_wrongNow m_had m_badAct m_badWhy m_wrongAct m_wrongHeir m_odd m_span m_rise m_wins m_stored m_isStored m_storedAt m_isWriting) [(0, .ref (a 0)), (1, .int y1), (2, .int y2), (3, .int y3), (4, .int y4)] 29 [] (f_X9_rises_L29 y1 m_beat nn y3 y4 m_rise) := by
  intro nn
  induction nn with
  | zero => intros; exact gg_none
  | succ nn ih =>
    intro y3 y4 m_rise
    unfold f_X9_rises_L29
    refine gg_iload C dX9_rises_29 4 rfl ?_
    refine gg_iload_n C dX9_rises_31 rfl 1 rfl ?_
    refine gg_icmp_lt C dX9_rises_32 (tgt := 77) (by decide) (fun _ => ?_) (fun _ => ?_)
    · refine gg_sub [0, 1, 2, 3, 4] rfl ?_
      exact hk (y3, y4, m_rise)
    · refine gg_aload_n C dX9_rises_35 rfl 0 rfl ?_
      refine gf_X9_61 C 0 rfl rfl dX9_rises_36 ?_
      refine gg_iload C dX9_rises_39 4 rfl ?_
      refine gg_aload_n C dX9_rises_41 rfl 0 rfl ?_
      refine gg_iload C dX9_rises_42 4 rfl ?_
      refine gg_callV C (fun l r h => c_X9_riseFrom l D T a m_beat m_nick m_owner m_place m_kept m_heard m_chosen m_minutes m_sightBeat m_sightOff m_sightIs m_sights m_pad m_padMany m_act m_who m_much m_acts m_heardMany m_wrongNow m_had m_badAct m_badWhy m_wrongAct m_wrongHeir m_odd m_span m_rise m_wins m_stored m_isStored m_storedAt m_isWriting y4 r h) lk_X9_245 ⟨by decide, by decide⟩ hnn rfl (rest := [.int y4, .ref (a 18)]) rfl (Nat.le_of_ble_eq_true rfl) 0 rfl rfl dX9_rises_44 (ws2 := fun r3 => wM T a m_beat m_nick m_owner m_place m_kept m_heard m_chosen m_minutes m_sightBeat m_sightOff m_sightIs m_sights m_pad m_padMany m_act m_who m_much m_acts m_heardMany m_wrongNow m_had m_badAct m_badWhy m_wrongAct m_wrongHeir m_odd m_span m_rise m_wins m_stored m_isStored m_storedAt m_isWriting) (cut_full (fun _ => rfl)) (st2 := fun r3 => [.int r3, .int y4, .ref (a 18)]) (fun _ => rfl) (fun r3 => ?_)
      refine gg_iast C 18 rfl dX9_rises_47 (ws' := wM T a m_beat m_nick m_owner m_place m_kept m_heard m_chosen m_minutes m_sightBeat m_sightOff m_sightIs m_sights m_pad m_padMany m_act m_who m_much m_acts m_heardMany m_wrongNow m_had m_badAct m_badWhy m_wrongAct m_wrongHeir m_odd m_span (upd m_rise y4.toNatClampNeg r3) m_wins m_stored m_isStored m_storedAt m_isWriting) rfl ?_
      refine gg_aload_n C dX9_rises_48 rfl 0 rfl ?_
      refine gf_X9_61 C 0 rfl rfl dX9_rises_49 ?_
      refine gg_iload C dX9_rises_52 4 rfl ?_
      refine gg_iald C 18 rfl dX9_rises_54 ?_
      refine gg_aload_n C dX9_rises_55 rfl 0 rfl ?_
      refine gf_X9_61 C 0 rfl rfl dX9_rises_56 ?_
      refine gg_iload_n C dX9_rises_59 rfl 3 rfl ?_
      refine gg_iald C 18 rfl dX9_rises_60 ?_
      refine gg_icmp_lt C dX9_rises_61 (tgt := 69) (by decide) (fun _ => ?_) (fun _ => ?_)
      · refine gg_iload_n C dX9_rises_69 rfl 3 rfl ?_
        refine gg_istore_n C dX9_rises_70 rfl hn (by decide) (lv' := [(3, .int y3), (0, .ref (a 0)), (1, .int y1), (2, .int y2), (4, .int y4)]) rfl ?_
        refine gg_iinc C dX9_rises_71 (j := 4) rfl (v := y4 + (-1)) (by first | rfl | decide) hn (by decide) (lv' := [(4, .int (y4 + (-1))), (3, .int y3), (0, .ref (a 0)), (1, .int y1), (2, .int y2)]) rfl ?_
        refine gg_goto C dX9_rises_74 (tgt := 29) (by decide) ?_
        refine gg_sub [2, 3, 4, 1, 0] rfl ?_
        exact ih y3 (y4 + (-1)) (upd m_rise y4.toNatClampNeg r3)
      · refine gg_iload C dX9_rises_64 4 rfl ?_
        refine gg_goto C dX9_rises_66 (tgt := 70) (by decide) ?_
        refine gg_istore_n C dX9_rises_70 rfl hn (by decide) (lv' := [(3, .int y4), (0, .ref (a 0)), (1, .int y1), (2, .int y2), (4, .int y4)]) rfl ?_
        refine gg_iinc C dX9_rises_71 (j := 4) rfl (v := y4 + (-1)) (by first | rfl | decide) hn (by decide) (lv' := [(4, .int (y4 + (-1))), (3, .int y4), (0, .ref (a 0)), (1, .int y1), (2, .int y2)]) rfl ?_
        refine gg_goto C dX9_rises_74 (tgt := 29) (by decide) ?_
        refine gg_sub [2, 3, 4, 1, 0] rfl ?_
        exact ih y4 (y4 + (-1)) (upd m_rise y4.toNatClampNeg r3)
def f_X9_rises (m_beat : Nat → Int32) (m_rise : Nat → Int32) (v1 : Int32) (v2 : Int32) : Option (Int32 × (Nat → Int32)) := jn (f_X9_isPlace v1) (fun r1 => if r1 = 0 then some ((-1), m_rise) else jn (f_X9_in v2.toInt64 0 1) (fun r2 => if r2 = 0 then some ((-2), m_rise) else jn (α := Int32 × Int32 × (Nat → Int32)) (f_X9_rises_L29 v1 m_beat 100 39 39 m_rise) (fun z4 => if v2 = 0 then gu z4.1 40 (some (z4.2.2 z4.1.toNatClampNeg, z4.2.2)) else some (z4.1, z4.2.2))))
set_option maxHeartbeats 4000000 in
set_option maxRecDepth 100000 in
theorem c_X9_rises (l : Launch) (D : va_G) (T : Nat → ClassId) (a : Nat → Nat) (m_beat : Nat → Int32) (m_nick : Nat → Int32) (m_owner : Nat → Int32) (m_place : Nat → Int32) (m_kept : Nat → Int32) (m_heard : Nat → Int32) (m_chosen : Nat → Int32) (m_minutes : Int32) (m_sightBeat : Nat → Int32) (m_sightOff : Nat → Int32) (m_sightIs : Nat → Int32) (m_sights : Int32) (m_pad : Nat → Int32) (m_padMany : Int32) (m_act : Nat → Int32) (m_who : Nat → Int32) (m_much : Nat → Int32) (m_acts : Int32) (m_heardMany : Int32) (m_wrongNow : Int32) (m_had : Nat → Int32) (m_badAct : Int32) (m_badWhy : Int32) (m_wrongAct : Int32) (m_wrongHeir : Int32) (m_odd : Nat → Int32) (m_span : Nat → Int32) (m_rise : Nat → Int32) (m_wins : Nat → Int32) (m_stored : Nat → Int32) (m_isStored : Nat → Int32) (m_storedAt : Int32) (m_isWriting : Int32) (v1 : Int32) (v2 : Int32) (r : Int32 × (Nat → Int32)) (h : f_X9_rises m_beat m_rise v1 v2 = some r) : Kt l D T yX9_rises cX9_rises 5 (some .int) (2, 0, 0, 45) [.ref (a 0), .int v1, .int v2] (wM T a m_beat m_nick m_owner m_place m_kept m_heard m_chosen m_minutes m_sightBeat m_sightOff m_sightIs m_sights m_pad m_padMany m_act m_who m_much m_acts m_heardMany m_wrongNow m_had m_badAct m_badWhy m_wrongAct m_wrongHeir m_odd m_span m_rise m_wins m_stored m_isStored m_storedAt m_isWriting) (FF (fun (r : Int32 × (Nat → Int32)) => some (.int r.1)) (fun r => wM T a m_beat m_nick m_owner m_place m_kept m_heard m_chosen m_minutes m_sightBeat m_sightOff m_sightIs m_sights m_pad m_padMany m_act m_who m_much m_acts m_heardMany m_wrongNow m_had m_badAct m_badWhy m_wrongAct m_wrongHeir m_odd m_span r.2 m_wins m_stored m_isStored m_storedAt m_isWriting) r) := by
  refine kt_of (own := RX9) (nm := "rises") (lv := [(0, .ref (a 0)), (1, .int v1), (2, .int v2)]) (by decide) rfl rfl rfl (Nat.le_of_ble_eq_true rfl) h (fun X hn C M => ?_)
  have hnn : ((0, 0) : Nat × Nat).1 ≤ 0 ∧ ((0, 0) : Nat × Nat).2 ≤ 0 := ⟨Nat.le_refl 0, Nat.le_refl 0⟩
  unfold f_X9_rises
  refine gg_iload_n C dX9_rises_0 rfl 1 rfl ?_
  refine gg_callS C (fun l r h => c_X9_isPlace l D T v1 r h) lk_X9_82 ⟨by decide, by decide⟩ hnn rfl (rest := []) rfl (Nat.le_of_ble_eq_true rfl) dX9_rises_1 cut_none (st2 := fun r1 => [.int r1]) (fun _ => rfl) (fun r1 => ?_)
  refine gg_if_ne C dX9_rises_4 (tgt := 9) (by decide) (fun _ => ?_) (fun _ => ?_)
  · refine gg_iload_n C dX9_rises_9 rfl 2 rfl ?_
    refine gg_i2l C dX9_rises_10 ?_
    refine gg_lconst C dX9_rises_11 (v := 0) (by decide) ?_
    refine gg_lconst C dX9_rises_12 (v := 1) (by decide) ?_
    refine gg_callS C (fun l r h => c_X9_in l D T v2.toInt64 0 1 r h) lk_X9_76 ⟨by decide, by decide⟩ hnn rfl (rest := []) rfl (Nat.le_of_ble_eq_true rfl) dX9_rises_13 cut_none (st2 := fun r2 => [.int r2]) (fun _ => rfl) (fun r2 => ?_)
    refine gg_if_ne C dX9_rises_16 (tgt := 22) (by decide) (fun _ => ?_) (fun _ => ?_)
    · refine gg_bipush C dX9_rises_22 kB_39 ?_
      refine gg_istore_n C dX9_rises_24 rfl hn (by decide) (lv' := [(3, .int 39), (0, .ref (a 0)), (1, .int v1), (2, .int v2)]) rfl ?_
      refine gg_bipush C dX9_rises_25 kB_39 ?_
      refine gg_istore C dX9_rises_27 hn (by decide) (lv' := [(4, .int 39), (3, .int 39), (0, .ref (a 0)), (1, .int v1), (2, .int v2)]) rfl ?_
      refine gg_join (α := Int32 × Int32 × (Nat → Int32)) 77 (fun z4 => wM T a m_beat m_nick m_owner m_place m_kept m_heard m_chosen m_minutes m_sightBeat m_sightOff m_sightIs m_sights m_pad m_padMany m_act m_who m_much m_acts m_heardMany m_wrongNow m_had m_badAct m_badWhy m_wrongAct m_wrongHeir m_odd m_span z4.2.2 m_wins m_stored m_isStored m_storedAt m_isWriting) (fun z4 => [(0, .ref (a 0)), (1, .int v1), (2, .int v2), (3, .int z4.1), (4, .int z4.2.1)]) (fun z4 => []) (fun z4 => ?_) (fun K5 => ?_)
      · refine gg_iload_n C dX9_rises_77 rfl 2 rfl ?_
        refine gg_if_ne C dX9_rises_78 (tgt := 90) (by decide) (fun _ => ?_) (fun _ => ?_)
        · refine gg_iload_n C dX9_rises_90 rfl 3 rfl ?_
          exact gg_iret C M dX9_rises_91 ⟨rfl, rfl⟩
        · refine gg_aload_n C dX9_rises_81 rfl 0 rfl ?_
          refine gf_X9_61 C 0 rfl rfl dX9_rises_82 ?_
          refine gg_iload_n C dX9_rises_85 rfl 3 rfl ?_
          refine gg_iald C 18 rfl dX9_rises_86 ?_
          refine gg_goto C dX9_rises_87 (tgt := 91) (by decide) ?_
          exact gg_iret C M dX9_rises_91 ⟨rfl, rfl⟩
      · refine gg_sub [2, 3, 4, 1, 0] rfl ?_
        exact g_X9_rises_L29 C hnn hn a v1 v2 m_beat m_nick m_owner m_place m_kept m_heard m_chosen m_minutes m_sightBeat m_sightOff m_sightIs m_sights m_pad m_padMany m_act m_who m_much m_acts m_heardMany m_wrongNow m_had m_badAct m_badWhy m_wrongAct m_wrongHeir m_odd m_span m_wins m_stored m_isStored m_storedAt m_isWriting K5 100 39 39 m_rise
    · refine gg_bipush C dX9_rises_19 kB_m2 ?_
      exact gg_iret C M dX9_rises_21 ⟨rfl, rfl⟩
  · refine gg_iconst C dX9_rises_7 kI_m1 ?_
    exact gg_iret C M dX9_rises_8 ⟨rfl, rfl⟩
def f_X9_like (m_sightBeat : Nat → Int32) (m_sightOff : Nat → Int32) (m_sightIs : Nat → Int32) (m_sights : Int32) (v1 : Int32) (v2 : Int32) (v3 : Int32) : Option (Int32 × (Nat → Int32) × (Nat → Int32) × (Nat → Int32) × Int32) := jn (f_X9_in v1.toInt64 1 9) (fun r1 => if r1 = 0 then some ((-2), m_sightBeat, m_sightOff, m_sightIs, m_sights) else jn (f_X9_in v2.toInt64 0 8) (fun r2 => if r2 = 0 then some ((-2), m_sightBeat, m_sightOff, m_sightIs, m_sights) else if m_sights = 8 then some ((-4), m_sightBeat, m_sightOff, m_sightIs, m_sights) else gu m_sights 8 (gu m_sights 8 (jn (α := Int32) (if v3 = 0 then some 0 else some 1) (fun z3 => gu m_sights 8 (some (m_sights + 1, upd m_sightBeat m_sights.toNatClampNeg v1, upd m_sightOff m_sights.toNatClampNeg v2, upd m_sightIs m_sights.toNatClampNeg z3, m_sights + 1)))))))
set_option maxHeartbeats 4000000 in
set_option maxRecDepth 100000 in
theorem c_X9_like (l : Launch) (D : va_G) (T : Nat → ClassId) (a : Nat → Nat) (m_beat : Nat → Int32) (m_nick : Nat → Int32) (m_owner : Nat → Int32) (m_place : Nat → Int32) (m_kept : Nat → Int32) (m_heard : Nat → Int32) (m_chosen : Nat → Int32) (m_minutes : Int32) (m_sightBeat : Nat → Int32) (m_sightOff : Nat → Int32) (m_sightIs : Nat → Int32) (m_sights : Int32) (m_pad : Nat → Int32) (m_padMany : Int32) (m_act : Nat → Int32) (m_who : Nat → Int32) (m_much : Nat → Int32) (m_acts : Int32) (m_heardMany : Int32) (m_wrongNow : Int32) (m_had : Nat → Int32) (m_badAct : Int32) (m_badWhy : Int32) (m_wrongAct : Int32) (m_wrongHeir : Int32) (m_odd : Nat → Int32) (m_span : Nat → Int32) (m_rise : Nat → Int32) (m_wins : Nat → Int32) (m_stored : Nat → Int32) (m_isStored : Nat → Int32) (m_storedAt : Int32) (m_isWriting : Int32) (v1 : Int32) (v2 : Int32) (v3 : Int32) (r : Int32 × (Nat → Int32) × (Nat → Int32) × (Nat → Int32) × Int32) (h : f_X9_like m_sightBeat m_sightOff m_sightIs m_sights v1 v2 v3 = some r) : Kt l D T yX9_like cX9_like 4 (some .int) (1, 0, 0, 25) [.ref (a 0), .int v1, .int v2, .int v3] (wM T a m_beat m_nick m_owner m_place m_kept m_heard m_chosen m_minutes m_sightBeat m_sightOff m_sightIs m_sights m_pad m_padMany m_act m_who m_much m_acts m_heardMany m_wrongNow m_had m_badAct m_badWhy m_wrongAct m_wrongHeir m_odd m_span m_rise m_wins m_stored m_isStored m_storedAt m_isWriting) (FF (fun (r : Int32 × (Nat → Int32) × (Nat → Int32) × (Nat → Int32) × Int32) => some (.int r.1)) (fun r => wM T a m_beat m_nick m_owner m_place m_kept m_heard m_chosen m_minutes r.2.1 r.2.2.1 r.2.2.2.1 r.2.2.2.2 m_pad m_padMany m_act m_who m_much m_acts m_heardMany m_wrongNow m_had m_badAct m_badWhy m_wrongAct m_wrongHeir m_odd m_span m_rise m_wins m_stored m_isStored m_storedAt m_isWriting) r) := by
  refine kt_of (own := RX9) (nm := "like") (lv := [(0, .ref (a 0)), (1, .int v1), (2, .int v2), (3, .int v3)]) (by decide) rfl rfl rfl (Nat.le_of_ble_eq_true rfl) h (fun X hn C M => ?_)
  have hnn : ((0, 0) : Nat × Nat).1 ≤ 0 ∧ ((0, 0) : Nat × Nat).2 ≤ 0 := ⟨Nat.le_refl 0, Nat.le_refl 0⟩
  unfold f_X9_like
  refine gg_iload_n C dX9_like_0 rfl 1 rfl ?_
  refine gg_i2l C dX9_like_1 ?_
  refine gg_lconst C dX9_like_2 (v := 1) (by decide) ?_
  refine gg_ldc2 C tw_652 dX9_like_3 ?_
  refine gg_callS C (fun l r h => c_X9_in l D T v1.toInt64 1 9 r h) lk_X9_76 ⟨by decide, by decide⟩ hnn rfl (rest := []) rfl (Nat.le_of_ble_eq_true rfl) dX9_like_6 cut_none (st2 := fun r1 => [.int r1]) (fun _ => rfl) (fun r1 => ?_)
  refine gg_if_eq C dX9_like_9 (tgt := 24) (by decide) (fun _ => ?_) (fun _ => ?_)
  · refine gg_bipush C dX9_like_24 kB_m2 ?_
    exact gg_iret C M dX9_like_26 ⟨rfl, rfl⟩
  · refine gg_iload_n C dX9_like_12 rfl 2 rfl ?_
    refine gg_i2l C dX9_like_13 ?_
    refine gg_lconst C dX9_like_14 (v := 0) (by decide) ?_
    refine gg_ldc2 C tw_847 dX9_like_15 ?_
    refine gg_callS C (fun l r h => c_X9_in l D T v2.toInt64 0 8 r h) lk_X9_76 ⟨by decide, by decide⟩ hnn rfl (rest := []) rfl (Nat.le_of_ble_eq_true rfl) dX9_like_18 cut_none (st2 := fun r2 => [.int r2]) (fun _ => rfl) (fun r2 => ?_)
    refine gg_if_ne C dX9_like_21 (tgt := 27) (by decide) (fun _ => ?_) (fun _ => ?_)
    · refine gg_aload_n C dX9_like_27 rfl 0 rfl ?_
      refine gf_X9_250 C 0 rfl rfl dX9_like_28 ?_
      refine gg_bipush C dX9_like_31 kB_8 ?_
      refine gg_icmp_ne C dX9_like_33 (tgt := 39) (by decide) (fun _ => ?_) (fun _ => ?_)
      · refine gg_aload_n C dX9_like_39 rfl 0 rfl ?_
        refine gf_X9_31 C 0 rfl rfl dX9_like_40 ?_
        refine gg_aload_n C dX9_like_43 rfl 0 rfl ?_
        refine gf_X9_250 C 0 rfl rfl dX9_like_44 ?_
        refine gg_iload_n C dX9_like_47 rfl 1 rfl ?_
        refine gg_iast C 8 rfl dX9_like_48 (ws' := wM T a m_beat m_nick m_owner m_place m_kept m_heard m_chosen m_minutes (upd m_sightBeat m_sights.toNatClampNeg v1) m_sightOff m_sightIs m_sights m_pad m_padMany m_act m_who m_much m_acts m_heardMany m_wrongNow m_had m_badAct m_badWhy m_wrongAct m_wrongHeir m_odd m_span m_rise m_wins m_stored m_isStored m_storedAt m_isWriting) rfl ?_
        refine gg_aload_n C dX9_like_49 rfl 0 rfl ?_
        refine gf_X9_34 C 0 rfl rfl dX9_like_50 ?_
        refine gg_aload_n C dX9_like_53 rfl 0 rfl ?_
        refine gf_X9_250 C 0 rfl rfl dX9_like_54 ?_
        refine gg_iload_n C dX9_like_57 rfl 2 rfl ?_
        refine gg_iast C 9 rfl dX9_like_58 (ws' := wM T a m_beat m_nick m_owner m_place m_kept m_heard m_chosen m_minutes (upd m_sightBeat m_sights.toNatClampNeg v1) (upd m_sightOff m_sights.toNatClampNeg v2) m_sightIs m_sights m_pad m_padMany m_act m_who m_much m_acts m_heardMany m_wrongNow m_had m_badAct m_badWhy m_wrongAct m_wrongHeir m_odd m_span m_rise m_wins m_stored m_isStored m_storedAt m_isWriting) rfl ?_
        refine gg_aload_n C dX9_like_59 rfl 0 rfl ?_
        refine gf_X9_37 C 0 rfl rfl dX9_like_60 ?_
        refine gg_aload_n C dX9_like_63 rfl 0 rfl ?_
        refine gf_X9_250 C 0 rfl rfl dX9_like_64 ?_
        refine gg_iload_n C dX9_like_67 rfl 3 rfl ?_
        refine gg_join (α := Int32) 76 (fun z3 => wM T a m_beat m_nick m_owner m_place m_kept m_heard m_chosen m_minutes (upd m_sightBeat m_sights.toNatClampNeg v1) (upd m_sightOff m_sights.toNatClampNeg v2) m_sightIs m_sights m_pad m_padMany m_act m_who m_much m_acts m_heardMany m_wrongNow m_had m_badAct m_badWhy m_wrongAct m_wrongHeir m_odd m_span m_rise m_wins m_stored m_isStored m_storedAt m_isWriting) (fun z3 => [(0, .ref (a 0)), (1, .int v1), (2, .int v2), (3, .int v3)]) (fun z3 => [.int z3, .int m_sights, .ref (a 10)]) (fun z3 => ?_) (fun K4 => ?_)
        · refine gg_iast C 10 rfl dX9_like_76 (ws' := wM T a m_beat m_nick m_owner m_place m_kept m_heard m_chosen m_minutes (upd m_sightBeat m_sights.toNatClampNeg v1) (upd m_sightOff m_sights.toNatClampNeg v2) (upd m_sightIs m_sights.toNatClampNeg z3) m_sights m_pad m_padMany m_act m_who m_much m_acts m_heardMany m_wrongNow m_had m_badAct m_badWhy m_wrongAct m_wrongHeir m_odd m_span m_rise m_wins m_stored m_isStored m_storedAt m_isWriting) rfl ?_
          refine gg_aload_n C dX9_like_77 rfl 0 rfl ?_
          refine gg_dup C dX9_like_78 rfl ?_
          refine gf_X9_250 C 0 rfl rfl dX9_like_79 ?_
          refine gg_iconst C dX9_like_82 kI_1 ?_
          refine gg_iadd C dX9_like_83 ?_
          refine pf_X9_250 C 0 rfl (Nat.le_of_ble_eq_true rfl) dX9_like_84 (ws' := wM T a m_beat m_nick m_owner m_place m_kept m_heard m_chosen m_minutes (upd m_sightBeat m_sights.toNatClampNeg v1) (upd m_sightOff m_sights.toNatClampNeg v2) (upd m_sightIs m_sights.toNatClampNeg z3) (m_sights + 1) m_pad m_padMany m_act m_who m_much m_acts m_heardMany m_wrongNow m_had m_badAct m_badWhy m_wrongAct m_wrongHeir m_odd m_span m_rise m_wins m_stored m_isStored m_storedAt m_isWriting) rfl ?_
          refine gg_aload_n C dX9_like_87 rfl 0 rfl ?_
          refine gf_X9_250 C 0 rfl rfl dX9_like_88 ?_
          exact gg_iret C M dX9_like_91 ⟨rfl, rfl⟩
        · refine gg_if_eq C dX9_like_68 (tgt := 75) (by decide) (fun _ => ?_) (fun _ => ?_)
          · refine gg_iconst C dX9_like_75 kI_0 ?_
            refine gg_sub [0, 1, 2, 3] rfl ?_
            exact K4 0
          · refine gg_iconst C dX9_like_71 kI_1 ?_
            refine gg_goto C dX9_like_72 (tgt := 76) (by decide) ?_
            refine gg_sub [0, 1, 2, 3] rfl ?_
            exact K4 1
      · refine gg_bipush C dX9_like_36 kB_m4 ?_
        exact gg_iret C M dX9_like_38 ⟨rfl, rfl⟩
    · refine gg_bipush C dX9_like_24 kB_m2 ?_
      exact gg_iret C M dX9_like_26 ⟨rfl, rfl⟩
def f_X9_forget (m_sights : Int32) : Option (Int32 × Int32) := some (m_sights, 0)
set_option maxHeartbeats 4000000 in
set_option maxRecDepth 100000 in
theorem c_X9_forget (l : Launch) (D : va_G) (T : Nat → ClassId) (a : Nat → Nat) (m_beat : Nat → Int32) (m_nick : Nat → Int32) (m_owner : Nat → Int32) (m_place : Nat → Int32) (m_kept : Nat → Int32) (m_heard : Nat → Int32) (m_chosen : Nat → Int32) (m_minutes : Int32) (m_sightBeat : Nat → Int32) (m_sightOff : Nat → Int32) (m_sightIs : Nat → Int32) (m_sights : Int32) (m_pad : Nat → Int32) (m_padMany : Int32) (m_act : Nat → Int32) (m_who : Nat → Int32) (m_much : Nat → Int32) (m_acts : Int32) (m_heardMany : Int32) (m_wrongNow : Int32) (m_had : Nat → Int32) (m_badAct : Int32) (m_badWhy : Int32) (m_wrongAct : Int32) (m_wrongHeir : Int32) (m_odd : Nat → Int32) (m_span : Nat → Int32) (m_rise : Nat → Int32) (m_wins : Nat → Int32) (m_stored : Nat → Int32) (m_isStored : Nat → Int32) (m_storedAt : Int32) (m_isWriting : Int32) (r : Int32 × Int32) (h : f_X9_forget m_sights = some r) : Kt l D T yX9_forget cX9_forget 2 (some .int) (0, 0, 0, 0) [.ref (a 0)] (wM T a m_beat m_nick m_owner m_place m_kept m_heard m_chosen m_minutes m_sightBeat m_sightOff m_sightIs m_sights m_pad m_padMany m_act m_who m_much m_acts m_heardMany m_wrongNow m_had m_badAct m_badWhy m_wrongAct m_wrongHeir m_odd m_span m_rise m_wins m_stored m_isStored m_storedAt m_isWriting) (FF (fun (r : Int32 × Int32) => some (.int r.1)) (fun r => wM T a m_beat m_nick m_owner m_place m_kept m_heard m_chosen m_minutes m_sightBeat m_sightOff m_sightIs r.2 m_pad m_padMany m_act m_who m_much m_acts m_heardMany m_wrongNow m_had m_badAct m_badWhy m_wrongAct m_wrongHeir m_odd m_span m_rise m_wins m_stored m_isStored m_storedAt m_isWriting) r) := by
  refine kt_of (own := RX9) (nm := "forget") (lv := [(0, .ref (a 0))]) (by decide) rfl rfl rfl (Nat.le_of_ble_eq_true rfl) h (fun X hn C M => ?_)
  have hnn : ((0, 0) : Nat × Nat).1 ≤ 0 ∧ ((0, 0) : Nat × Nat).2 ≤ 0 := ⟨Nat.le_refl 0, Nat.le_refl 0⟩
  unfold f_X9_forget
  refine gg_aload_n C dX9_forget_0 rfl 0 rfl ?_
  refine gf_X9_250 C 0 rfl rfl dX9_forget_1 ?_
  refine gg_istore_n C dX9_forget_4 rfl hn (by decide) (lv' := [(1, .int m_sights), (0, .ref (a 0))]) rfl ?_
  refine gg_aload_n C dX9_forget_5 rfl 1 rfl ?_
  refine gg_iconst C dX9_forget_6 kI_0 ?_
  refine pf_X9_250 C 0 rfl (Nat.le_of_ble_eq_true rfl) dX9_forget_7 (ws' := wM T a m_beat m_nick m_owner m_place m_kept m_heard m_chosen m_minutes m_sightBeat m_sightOff m_sightIs 0 m_pad m_padMany m_act m_who m_much m_acts m_heardMany m_wrongNow m_had m_badAct m_badWhy m_wrongAct m_wrongHeir m_odd m_span m_rise m_wins m_stored m_isStored m_storedAt m_isWriting) rfl ?_
  refine gg_iload_n C dX9_forget_10 rfl 0 rfl ?_
  exact gg_iret C M dX9_forget_11 ⟨rfl, rfl⟩
def f_X9_isFit_L4 (y1 : Int32) (m_beat : Nat → Int32) (m_sightBeat : Nat → Int32) (m_sightOff : Nat → Int32) (m_sightIs : Nat → Int32) (m_sights : Int32) : Nat → Int32 → Int32 → Option (Int32 × Int32)
  | 0, _, _ => none
  | nn + 1, y2, y3 => if m_sights ≤ y3 then some (y2, y3) else if y2 = 0 then f_X9_isFit_L4 y1 m_beat m_sightBeat m_sightOff m_sightIs m_sights nn 0 (y3 + 1) else gu y1 40 (gu y3 8 (gu y3 8 (jn (f_X9_isLike (m_beat y1.toNatClampNeg) (m_sightBeat y3.toNatClampNeg) (m_sightOff y3.toNatClampNeg)) (fun r1 => gu y3 8 (jn (α := Int32) (if m_sightIs y3.toNatClampNeg = 1 then some 1 else some 0) (fun z2 => if r1 = z2 then f_X9_isFit_L4 y1 m_beat m_sightBeat m_sightOff m_sightIs m_sights nn 1 (y3 + 1) else f_X9_isFit_L4 y1 m_beat m_sightBeat m_sightOff m_sightIs m_sights nn 0 (y3 + 1)))))))
set_option maxHeartbeats 4000000 in
set_option maxRecDepth 100000 in
theorem g_X9_isFit_L4 {X : KX} {D : va_G} {T : Nat → ClassId} {Q : Int32 × Int32 → State → Prop} {n : Nat × Nat} (C : Cx X D T cX9_isFit RX9 { frames := 2, cells := 0, slots := 0, locals := 47 }) (hnn : n.1 ≤ 0 ∧ n.2 ≤ 0) (hn : kxL X = 4) (a : Nat → Nat)  (y1 : Int32) (m_beat : Nat → Int32) (m_nick : Nat → Int32) (m_owner : Nat → Int32) (m_place : Nat → Int32) (m_kept : Nat → Int32) (m_heard : Nat → Int32) (m_chosen : Nat → Int32) (m_minutes : Int32) (m_sightBeat : Nat → Int32) (m_sightOff : Nat → Int32) (m_sightIs : Nat → Int32) (m_sights : Int32) (m_pad : Nat → Int32) (m_padMany : Int32) (m_act : Nat → Int32) (m_who : Nat → Int32) (m_much : Nat → Int32) (m_acts : Int32) (m_heardMany : Int32) (m_wrongNow : Int32) (m_had : Nat → Int32) (m_badAct : Int32) (m_badWhy : Int32) (m_wrongAct : Int32) (m_wrongHeir : Int32) (m_odd : Nat → Int32) (m_span : Nat → Int32) (m_rise : Nat → Int32) (m_wins : Nat → Int32) (m_stored : Nat → Int32) (m_isStored : Nat → Int32) (m_storedAt : Int32) (m_isWriting : Int32) (hk : ∀ v : Int32 × Int32, GG X D Q n (wM T a m_beat m_nick m_owner m_place m_kept m_heard m_chosen m_minutes m_sightBeat m_sightOff m_sightIs m_sights m_pad m_padMany m_act m_who m_much m_acts m_heardMany m_wrongNow m_had m_badAct m_badWhy m_wrongAct m_wrongHeir m_odd m_span m_rise m_wins m_stored m_isStored m_storedAt m_isWriting) [(0, .ref (a 0)), (1, .int y1), (2, .int v.1), (3, .int v.2)] 67 [] (some (v))) : ∀ (nn : Nat) (y2 : Int32) (y3 : Int32), GG X D Q n (wM T a m_beat m_nick m_owner m_place m_kept m_heard m_chosen m_minutes m_sightBeat m_sightOff m_sightIs m_sights m_pad m_padMany m_act m_who m_much m_acts m_heardMany m_wrongNow m_had m_badAct m_badWhy m_wrongAct m_wrongHeir m_odd m_span m_rise m_wins m_stored m_isStored m_storedAt m_isWriting) [(0, .ref (a 0)), (1, .int y1), (2, .int y2), (3, .int y3)] 4 [] (f_X9_isFit_L4 y1 m_beat m_sightBeat m_sightOff m_sightIs m_sights nn y2 y3) := by
  intro nn
  induction nn with
  | zero => intros; exact gg_none
  | succ nn ih =>
    intro y2 y3
    unfold f_X9_isFit_L4
    refine gg_iload_n C dX9_isFit_4 rfl 3 rfl ?_
    refine gg_aload_n C dX9_isFit_5 rfl 0 rfl ?_
    refine gf_X9_250 C 0 rfl rfl dX9_isFit_6 ?_
    refine gg_icmp_ge C dX9_isFit_9 (tgt := 67) (by decide) (fun _ => ?_) (fun _ => ?_)
    · refine gg_sub [0, 1, 2, 3] rfl ?_
      exact hk (y2, y3)
    · refine gg_iload_n C dX9_isFit_12 rfl 2 rfl ?_
      refine gg_if_eq C dX9_isFit_13 (tgt := 59) (by decide) (fun _ => ?_) (fun _ => ?_)
      · refine gg_iconst C dX9_isFit_59 kI_0 ?_
        refine gg_istore_n C dX9_isFit_60 rfl hn (by decide) (lv' := [(2, .int 0), (0, .ref (a 0)), (1, .int y1), (3, .int y3)]) rfl ?_
        refine gg_iinc C dX9_isFit_61 (j := 3) rfl (v := y3 + 1) (by first | rfl | decide) hn (by decide) (lv' := [(3, .int (y3 + 1)), (2, .int 0), (0, .ref (a 0)), (1, .int y1)]) rfl ?_
        refine gg_goto C dX9_isFit_64 (tgt := 4) (by decide) ?_
        refine gg_sub [2, 3, 1, 0] rfl ?_
        exact ih 0 (y3 + 1)
      · refine gg_aload_n C dX9_isFit_16 rfl 0 rfl ?_
        refine gf_X9_7 C 0 rfl rfl dX9_isFit_17 ?_
        refine gg_iload_n C dX9_isFit_20 rfl 1 rfl ?_
        refine gg_iald C 1 rfl dX9_isFit_21 ?_
        refine gg_aload_n C dX9_isFit_22 rfl 0 rfl ?_
        refine gf_X9_31 C 0 rfl rfl dX9_isFit_23 ?_
        refine gg_iload_n C dX9_isFit_26 rfl 3 rfl ?_
        refine gg_iald C 8 rfl dX9_isFit_27 ?_
        refine gg_aload_n C dX9_isFit_28 rfl 0 rfl ?_
        refine gf_X9_34 C 0 rfl rfl dX9_isFit_29 ?_
        refine gg_iload_n C dX9_isFit_32 rfl 3 rfl ?_
        refine gg_iald C 9 rfl dX9_isFit_33 ?_
        refine gg_callS C (fun l r h => c_X9_isLike l D T (m_beat y1.toNatClampNeg) (m_sightBeat y3.toNatClampNeg) (m_sightOff y3.toNatClampNeg) r h) lk_X9_253 ⟨by decide, by decide⟩ hnn rfl (rest := []) rfl (Nat.le_of_ble_eq_true rfl) dX9_isFit_34 cut_none (st2 := fun r1 => [.int r1]) (fun _ => rfl) (fun r1 => ?_)
        refine gg_aload_n C dX9_isFit_37 rfl 0 rfl ?_
        refine gf_X9_37 C 0 rfl rfl dX9_isFit_38 ?_
        refine gg_iload_n C dX9_isFit_41 rfl 3 rfl ?_
        refine gg_iald C 10 rfl dX9_isFit_42 ?_
        refine gg_iconst C dX9_isFit_43 kI_1 ?_
        refine gg_join (α := Int32) 52 (fun z2 => wM T a m_beat m_nick m_owner m_place m_kept m_heard m_chosen m_minutes m_sightBeat m_sightOff m_sightIs m_sights m_pad m_padMany m_act m_who m_much m_acts m_heardMany m_wrongNow m_had m_badAct m_badWhy m_wrongAct m_wrongHeir m_odd m_span m_rise m_wins m_stored m_isStored m_storedAt m_isWriting) (fun z2 => [(0, .ref (a 0)), (1, .int y1), (2, .int y2), (3, .int y3)]) (fun z2 => [.int z2, .int r1]) (fun z2 => ?_) (fun K3 => ?_)
        · refine gg_icmp_ne C dX9_isFit_52 (tgt := 59) (by decide) (fun _ => ?_) (fun _ => ?_)
          · refine gg_iconst C dX9_isFit_59 kI_0 ?_
            refine gg_istore_n C dX9_isFit_60 rfl hn (by decide) (lv' := [(2, .int 0), (0, .ref (a 0)), (1, .int y1), (3, .int y3)]) rfl ?_
            refine gg_iinc C dX9_isFit_61 (j := 3) rfl (v := y3 + 1) (by first | rfl | decide) hn (by decide) (lv' := [(3, .int (y3 + 1)), (2, .int 0), (0, .ref (a 0)), (1, .int y1)]) rfl ?_
            refine gg_goto C dX9_isFit_64 (tgt := 4) (by decide) ?_
            refine gg_sub [2, 3, 1, 0] rfl ?_
            exact ih 0 (y3 + 1)
          · refine gg_iconst C dX9_isFit_55 kI_1 ?_
            refine gg_goto C dX9_isFit_56 (tgt := 60) (by decide) ?_
            refine gg_istore_n C dX9_isFit_60 rfl hn (by decide) (lv' := [(2, .int 1), (0, .ref (a 0)), (1, .int y1), (3, .int y3)]) rfl ?_
            refine gg_iinc C dX9_isFit_61 (j := 3) rfl (v := y3 + 1) (by first | rfl | decide) hn (by decide) (lv' := [(3, .int (y3 + 1)), (2, .int 1), (0, .ref (a 0)), (1, .int y1)]) rfl ?_
            refine gg_goto C dX9_isFit_64 (tgt := 4) (by decide) ?_
            refine gg_sub [2, 3, 1, 0] rfl ?_
            exact ih 1 (y3 + 1)
        · refine gg_icmp_ne C dX9_isFit_44 (tgt := 51) (by decide) (fun _ => ?_) (fun _ => ?_)
          · refine gg_iconst C dX9_isFit_51 kI_0 ?_
            refine gg_sub [0, 1, 2, 3] rfl ?_
            exact K3 0
          · refine gg_iconst C dX9_isFit_47 kI_1 ?_
            refine gg_goto C dX9_isFit_48 (tgt := 52) (by decide) ?_
            refine gg_sub [0, 1, 2, 3] rfl ?_
            exact K3 1
def f_X9_isFit (m_beat : Nat → Int32) (m_sightBeat : Nat → Int32) (m_sightOff : Nat → Int32) (m_sightIs : Nat → Int32) (m_sights : Int32) (v1 : Int32) : Option (Int32) := jn (α := Int32 × Int32) (f_X9_isFit_L4 v1 m_beat m_sightBeat m_sightOff m_sightIs m_sights 100 1 0) (fun z4 => gz z4.1 (some z4.1))
set_option maxHeartbeats 4000000 in
set_option maxRecDepth 100000 in
theorem c_X9_isFit (l : Launch) (D : va_G) (T : Nat → ClassId) (a : Nat → Nat) (m_beat : Nat → Int32) (m_nick : Nat → Int32) (m_owner : Nat → Int32) (m_place : Nat → Int32) (m_kept : Nat → Int32) (m_heard : Nat → Int32) (m_chosen : Nat → Int32) (m_minutes : Int32) (m_sightBeat : Nat → Int32) (m_sightOff : Nat → Int32) (m_sightIs : Nat → Int32) (m_sights : Int32) (m_pad : Nat → Int32) (m_padMany : Int32) (m_act : Nat → Int32) (m_who : Nat → Int32) (m_much : Nat → Int32) (m_acts : Int32) (m_heardMany : Int32) (m_wrongNow : Int32) (m_had : Nat → Int32) (m_badAct : Int32) (m_badWhy : Int32) (m_wrongAct : Int32) (m_wrongHeir : Int32) (m_odd : Nat → Int32) (m_span : Nat → Int32) (m_rise : Nat → Int32) (m_wins : Nat → Int32) (m_stored : Nat → Int32) (m_isStored : Nat → Int32) (m_storedAt : Int32) (m_isWriting : Int32) (v1 : Int32) (r : Int32) (h : f_X9_isFit m_beat m_sightBeat m_sightOff m_sightIs m_sights v1 = some r) : Kt l D T yX9_isFit cX9_isFit 4 (some .boolean) (2, 0, 0, 47) [.ref (a 0), .int v1] (wM T a m_beat m_nick m_owner m_place m_kept m_heard m_chosen m_minutes m_sightBeat m_sightOff m_sightIs m_sights m_pad m_padMany m_act m_who m_much m_acts m_heardMany m_wrongNow m_had m_badAct m_badWhy m_wrongAct m_wrongHeir m_odd m_span m_rise m_wins m_stored m_isStored m_storedAt m_isWriting) (FF (fun (r : Int32) => some (.int r)) (fun r => wM T a m_beat m_nick m_owner m_place m_kept m_heard m_chosen m_minutes m_sightBeat m_sightOff m_sightIs m_sights m_pad m_padMany m_act m_who m_much m_acts m_heardMany m_wrongNow m_had m_badAct m_badWhy m_wrongAct m_wrongHeir m_odd m_span m_rise m_wins m_stored m_isStored m_storedAt m_isWriting) r) := by
  refine kt_of (own := RX9) (nm := "isFit") (lv := [(0, .ref (a 0)), (1, .int v1)]) (by decide) rfl rfl rfl (Nat.le_of_ble_eq_true rfl) h (fun X hn C M => ?_)
  have hnn : ((0, 0) : Nat × Nat).1 ≤ 0 ∧ ((0, 0) : Nat × Nat).2 ≤ 0 := ⟨Nat.le_refl 0, Nat.le_refl 0⟩
  unfold f_X9_isFit
  refine gg_iconst C dX9_isFit_0 kI_1 ?_
  refine gg_istore_n C dX9_isFit_1 rfl hn (by decide) (lv' := [(2, .int 1), (0, .ref (a 0)), (1, .int v1)]) rfl ?_
  refine gg_iconst C dX9_isFit_2 kI_0 ?_
  refine gg_istore_n C dX9_isFit_3 rfl hn (by decide) (lv' := [(3, .int 0), (2, .int 1), (0, .ref (a 0)), (1, .int v1)]) rfl ?_
  refine gg_join (α := Int32 × Int32) 67 (fun z4 => wM T a m_beat m_nick m_owner m_place m_kept m_heard m_chosen m_minutes m_sightBeat m_sightOff m_sightIs m_sights m_pad m_padMany m_act m_who m_much m_acts m_heardMany m_wrongNow m_had m_badAct m_badWhy m_wrongAct m_wrongHeir m_odd m_span m_rise m_wins m_stored m_isStored m_storedAt m_isWriting) (fun z4 => [(0, .ref (a 0)), (1, .int v1), (2, .int z4.1), (3, .int z4.2)]) (fun z4 => []) (fun z4 => ?_) (fun K5 => ?_)
  · refine gg_iload_n C dX9_isFit_67 rfl 2 rfl ?_
    exact gg_zretG C M dX9_isFit_68 ⟨rfl, rfl⟩
  · refine gg_sub [2, 3, 1, 0] rfl ?_
    exact g_X9_isFit_L4 C hnn hn a v1 m_beat m_nick m_owner m_place m_kept m_heard m_chosen m_minutes m_sightBeat m_sightOff m_sightIs m_sights m_pad m_padMany m_act m_who m_much m_acts m_heardMany m_wrongNow m_had m_badAct m_badWhy m_wrongAct m_wrongHeir m_odd m_span m_rise m_wins m_stored m_isStored m_storedAt m_isWriting K5 100 1 0
def f_X9_own_L4 (y1 : Int32) (m_beat : Nat → Int32) (m_sightBeat : Nat → Int32) (m_sightOff : Nat → Int32) (m_sightIs : Nat → Int32) (m_sights : Int32) : Nat → Int32 → Int32 → Option ((Int32 × Int32) ⊕ (Int32))
  | 0, _, _ => none
  | nn + 1, y2, y3 => if 40 ≤ y3 then some (.inl (y2, y3)) else jn (f_X9_isFit m_beat m_sightBeat m_sightOff m_sightIs m_sights y3) (fun r1 => if r1 = 0 then f_X9_own_L4 y1 m_beat m_sightBeat m_sightOff m_sightIs m_sights nn y2 (y3 + 1) else if y2 = y1 then some (.inr y3) else f_X9_own_L4 y1 m_beat m_sightBeat m_sightOff m_sightIs m_sights nn (y2 + 1) (y3 + 1))
set_option maxHeartbeats 4000000 in
set_option maxRecDepth 100000 in
theorem g_X9_own_L4 {X : KX} {D : va_G} {T : Nat → ClassId} {Q : (Int32 × Int32) ⊕ (Int32) → State → Prop} {n : Nat × Nat} (C : Cx X D T cX9_own RX9 { frames := 3, cells := 0, slots := 0, locals := 70 }) (hnn : n.1 ≤ 0 ∧ n.2 ≤ 0) (hn : kxL X = 4) (a : Nat → Nat)  (y1 : Int32) (m_beat : Nat → Int32) (m_nick : Nat → Int32) (m_owner : Nat → Int32) (m_place : Nat → Int32) (m_kept : Nat → Int32) (m_heard : Nat → Int32) (m_chosen : Nat → Int32) (m_minutes : Int32) (m_sightBeat : Nat → Int32) (m_sightOff : Nat → Int32) (m_sightIs : Nat → Int32) (m_sights : Int32) (m_pad : Nat → Int32) (m_padMany : Int32) (m_act : Nat → Int32) (m_who : Nat → Int32) (m_much : Nat → Int32) (m_acts : Int32) (m_heardMany : Int32) (m_wrongNow : Int32) (m_had : Nat → Int32) (m_badAct : Int32) (m_badWhy : Int32) (m_wrongAct : Int32) (m_wrongHeir : Int32) (m_odd : Nat → Int32) (m_span : Nat → Int32) (m_rise : Nat → Int32) (m_wins : Nat → Int32) (m_stored : Nat → Int32) (m_isStored : Nat → Int32) (m_storedAt : Int32) (m_isWriting : Int32) (hk : ∀ v : Int32 × Int32, GG X D Q n (wM T a m_beat m_nick m_owner m_place m_kept m_heard m_chosen m_minutes m_sightBeat m_sightOff m_sightIs m_sights m_pad m_padMany m_act m_who m_much m_acts m_heardMany m_wrongNow m_had m_badAct m_badWhy m_wrongAct m_wrongHeir m_odd m_span m_rise m_wins m_stored m_isStored m_storedAt m_isWriting) [(0, .ref (a 0)), (1, .int y1), (2, .int v.1), (3, .int v.2)] 34 [] (some (.inl v))) (hr0 : ∀ (v : Int32), GG X D Q n (wM T a m_beat m_nick m_owner m_place m_kept m_heard m_chosen m_minutes m_sightBeat m_sightOff m_sightIs m_sights m_pad m_padMany m_act m_who m_much m_acts m_heardMany m_wrongNow m_had m_badAct m_badWhy m_wrongAct m_wrongHeir m_odd m_span m_rise m_wins m_stored m_isStored m_storedAt m_isWriting) [] 24 [.int v] (some (.inr v))) : ∀ (nn : Nat) (y2 : Int32) (y3 : Int32), GG X D Q n (wM T a m_beat m_nick m_owner m_place m_kept m_heard m_chosen m_minutes m_sightBeat m_sightOff m_sightIs m_sights m_pad m_padMany m_act m_who m_much m_acts m_heardMany m_wrongNow m_had m_badAct m_badWhy m_wrongAct m_wrongHeir m_odd m_span m_rise m_wins m_stored m_isStored m_storedAt m_isWriting) [(0, .ref (a 0)), (1, .int y1), (2, .int y2), (3, .int y3)] 4 [] (f_X9_own_L4 y1 m_beat m_sightBeat m_sightOff m_sightIs m_sights nn y2 y3) := by
  intro nn
  induction nn with
  | zero => intros; exact gg_none
  | succ nn ih =>
    intro y2 y3
    unfold f_X9_own_L4
    refine gg_iload_n C dX9_own_4 rfl 3 rfl ?_
    refine gg_bipush C dX9_own_5 kB_40 ?_
    refine gg_icmp_ge C dX9_own_7 (tgt := 34) (by decide) (fun _ => ?_) (fun _ => ?_)
    · refine gg_sub [0, 1, 2, 3] rfl ?_
      exact hk (y2, y3)
    · refine gg_aload_n C dX9_own_10 rfl 0 rfl ?_
      refine gg_iload_n C dX9_own_11 rfl 3 rfl ?_
      refine gg_callV C (fun l r h => c_X9_isFit l D T a m_beat m_nick m_owner m_place m_kept m_heard m_chosen m_minutes m_sightBeat m_sightOff m_sightIs m_sights m_pad m_padMany m_act m_who m_much m_acts m_heardMany m_wrongNow m_had m_badAct m_badWhy m_wrongAct m_wrongHeir m_odd m_span m_rise m_wins m_stored m_isStored m_storedAt m_isWriting y3 r h) lk_X9_256 ⟨by decide, by decide⟩ hnn rfl (rest := []) rfl (Nat.le_of_ble_eq_true rfl) 0 rfl rfl dX9_own_12 (ws2 := fun r1 => wM T a m_beat m_nick m_owner m_place m_kept m_heard m_chosen m_minutes m_sightBeat m_sightOff m_sightIs m_sights m_pad m_padMany m_act m_who m_much m_acts m_heardMany m_wrongNow m_had m_badAct m_badWhy m_wrongAct m_wrongHeir m_odd m_span m_rise m_wins m_stored m_isStored m_storedAt m_isWriting) (cut_full (fun _ => rfl)) (st2 := fun r1 => [.int r1]) (fun _ => rfl) (fun r1 => ?_)
      refine gg_if_eq C dX9_own_15 (tgt := 28) (by decide) (fun _ => ?_) (fun _ => ?_)
      · refine gg_iinc C dX9_own_28 (j := 3) rfl (v := y3 + 1) (by first | rfl | decide) hn (by decide) (lv' := [(3, .int (y3 + 1)), (0, .ref (a 0)), (1, .int y1), (2, .int y2)]) rfl ?_
        refine gg_goto C dX9_own_31 (tgt := 4) (by decide) ?_
        refine gg_sub [1, 2, 3, 0] rfl ?_
        exact ih y2 (y3 + 1)
      · refine gg_iload_n C dX9_own_18 rfl 2 rfl ?_
        refine gg_iload_n C dX9_own_19 rfl 1 rfl ?_
        refine gg_icmp_ne C dX9_own_20 (tgt := 25) (by decide) (fun _ => ?_) (fun _ => ?_)
        · refine gg_iinc C dX9_own_25 (j := 2) rfl (v := y2 + 1) (by first | rfl | decide) hn (by decide) (lv' := [(2, .int (y2 + 1)), (0, .ref (a 0)), (1, .int y1), (3, .int y3)]) rfl ?_
          refine gg_iinc C dX9_own_28 (j := 3) rfl (v := y3 + 1) (by first | rfl | decide) hn (by decide) (lv' := [(3, .int (y3 + 1)), (2, .int (y2 + 1)), (0, .ref (a 0)), (1, .int y1)]) rfl ?_
          refine gg_goto C dX9_own_31 (tgt := 4) (by decide) ?_
          refine gg_sub [2, 3, 1, 0] rfl ?_
          exact ih (y2 + 1) (y3 + 1)
        · refine gg_iload_n C dX9_own_23 rfl 3 rfl ?_
          refine gg_sub [] rfl ?_
          exact hr0 y3
def f_X9_own (m_beat : Nat → Int32) (m_sightBeat : Nat → Int32) (m_sightOff : Nat → Int32) (m_sightIs : Nat → Int32) (m_sights : Int32) (v1 : Int32) : Option (Int32) := jn (f_X9_own_L4 v1 m_beat m_sightBeat m_sightOff m_sightIs m_sights 100 0 0) (Sum.elim (fun z2 => if v1 = (-1) then some z2.1 else some (-6)) some)
set_option maxHeartbeats 4000000 in
set_option maxRecDepth 100000 in
theorem c_X9_own (l : Launch) (D : va_G) (T : Nat → ClassId) (a : Nat → Nat) (m_beat : Nat → Int32) (m_nick : Nat → Int32) (m_owner : Nat → Int32) (m_place : Nat → Int32) (m_kept : Nat → Int32) (m_heard : Nat → Int32) (m_chosen : Nat → Int32) (m_minutes : Int32) (m_sightBeat : Nat → Int32) (m_sightOff : Nat → Int32) (m_sightIs : Nat → Int32) (m_sights : Int32) (m_pad : Nat → Int32) (m_padMany : Int32) (m_act : Nat → Int32) (m_who : Nat → Int32) (m_much : Nat → Int32) (m_acts : Int32) (m_heardMany : Int32) (m_wrongNow : Int32) (m_had : Nat → Int32) (m_badAct : Int32) (m_badWhy : Int32) (m_wrongAct : Int32) (m_wrongHeir : Int32) (m_odd : Nat → Int32) (m_span : Nat → Int32) (m_rise : Nat → Int32) (m_wins : Nat → Int32) (m_stored : Nat → Int32) (m_isStored : Nat → Int32) (m_storedAt : Int32) (m_isWriting : Int32) (v1 : Int32) (r : Int32) (h : f_X9_own m_beat m_sightBeat m_sightOff m_sightIs m_sights v1 = some r) : Kt l D T yX9_own cX9_own 4 (some .int) (3, 0, 0, 70) [.ref (a 0), .int v1] (wM T a m_beat m_nick m_owner m_place m_kept m_heard m_chosen m_minutes m_sightBeat m_sightOff m_sightIs m_sights m_pad m_padMany m_act m_who m_much m_acts m_heardMany m_wrongNow m_had m_badAct m_badWhy m_wrongAct m_wrongHeir m_odd m_span m_rise m_wins m_stored m_isStored m_storedAt m_isWriting) (FF (fun (r : Int32) => some (.int r)) (fun r => wM T a m_beat m_nick m_owner m_place m_kept m_heard m_chosen m_minutes m_sightBeat m_sightOff m_sightIs m_sights m_pad m_padMany m_act m_who m_much m_acts m_heardMany m_wrongNow m_had m_badAct m_badWhy m_wrongAct m_wrongHeir m_odd m_span m_rise m_wins m_stored m_isStored m_storedAt m_isWriting) r) := by
  refine kt_of (own := RX9) (nm := "own") (lv := [(0, .ref (a 0)), (1, .int v1)]) (by decide) rfl rfl rfl (Nat.le_of_ble_eq_true rfl) h (fun X hn C M => ?_)
  have hnn : ((0, 0) : Nat × Nat).1 ≤ 0 ∧ ((0, 0) : Nat × Nat).2 ≤ 0 := ⟨Nat.le_refl 0, Nat.le_refl 0⟩
  unfold f_X9_own
  refine gg_iconst C dX9_own_0 kI_0 ?_
  refine gg_istore_n C dX9_own_1 rfl hn (by decide) (lv' := [(2, .int 0), (0, .ref (a 0)), (1, .int v1)]) rfl ?_
  refine gg_iconst C dX9_own_2 kI_0 ?_
  refine gg_istore_n C dX9_own_3 rfl hn (by decide) (lv' := [(3, .int 0), (2, .int 0), (0, .ref (a 0)), (1, .int v1)]) rfl ?_
  refine gg_jn ?_
  refine gg_sub [2, 3, 1, 0] rfl ?_
  refine g_X9_own_L4 C hnn hn a v1 m_beat m_nick m_owner m_place m_kept m_heard m_chosen m_minutes m_sightBeat m_sightOff m_sightIs m_sights m_pad m_padMany m_act m_who m_much m_acts m_heardMany m_wrongNow m_had m_badAct m_badWhy m_wrongAct m_wrongHeir m_odd m_span m_rise m_wins m_stored m_isStored m_storedAt m_isWriting (fun z2 => gg_leafL ?_) (fun v => gg_leafR ?_) 100 0 0
  · refine gg_iload_n C dX9_own_34 rfl 1 rfl ?_
    refine gg_iconst C dX9_own_35 kI_m1 ?_
    refine gg_icmp_ne C dX9_own_36 (tgt := 43) (by decide) (fun _ => ?_) (fun _ => ?_)
    · refine gg_bipush C dX9_own_43 kB_m6 ?_
      exact gg_iret C M dX9_own_45 ⟨rfl, rfl⟩
    · refine gg_iload_n C dX9_own_39 rfl 2 rfl ?_
      refine gg_goto C dX9_own_40 (tgt := 45) (by decide) ?_
      exact gg_iret C M dX9_own_45 ⟨rfl, rfl⟩
  · exact gg_iret C M dX9_own_24 ⟨rfl, rfl⟩
def f_X9_mostLeft_L8 (y1 : Int32) (y2 : Int32) (m_beat : Nat → Int32) (m_sightBeat : Nat → Int32) (m_sightOff : Nat → Int32) (m_sightIs : Nat → Int32) (m_sights : Int32) : Nat → Int32 → Int32 → Int32 → Option (Int32 × Int32 × Int32)
  | 0, _, _, _ => none
  | nn + 1, y3, y4, y5 => if 40 ≤ y5 then some (y3, y4, y5) else jn (f_X9_isFit m_beat m_sightBeat m_sightOff m_sightIs m_sights y5) (fun r1 => jn (α := Int32) (if r1 = 0 then some 0 else some 1) (fun z2 => bi (y4 + z2) (fun x4 => if r1 = 0 then bi (y3 + 0) (fun x5 => f_X9_mostLeft_L8 y1 y2 m_beat m_sightBeat m_sightOff m_sightIs m_sights nn x5 x4 (y5 + 1)) else gu y5 40 (jn (f_X9_isLike (m_beat y5.toNatClampNeg) y1 y2) (fun r6 => if r6 = 0 then bi (y3 + 0) (fun x7 => f_X9_mostLeft_L8 y1 y2 m_beat m_sightBeat m_sightOff m_sightIs m_sights nn x7 x4 (y5 + 1)) else bi (y3 + 1) (fun x8 => f_X9_mostLeft_L8 y1 y2 m_beat m_sightBeat m_sightOff m_sightIs m_sights nn x8 x4 (y5 + 1)))))))
set_option maxHeartbeats 4000000 in
set_option maxRecDepth 100000 in
theorem g_X9_mostLeft_L8 {X : KX} {D : va_G} {T : Nat → ClassId} {Q : Int32 × Int32 × Int32 → State → Prop} {n : Nat × Nat} (C : Cx X D T cX9_mostLeft RX9 { frames := 3, cells := 0, slots := 0, locals := 70 }) (hnn : n.1 ≤ 0 ∧ n.2 ≤ 0) (hn : kxL X = 7) (a : Nat → Nat)  (y1 : Int32) (y2 : Int32) (m_beat : Nat → Int32) (m_nick : Nat → Int32) (m_owner : Nat → Int32) (m_place : Nat → Int32) (m_kept : Nat → Int32) (m_heard : Nat → Int32) (m_chosen : Nat → Int32) (m_minutes : Int32) (m_sightBeat : Nat → Int32) (m_sightOff : Nat → Int32) (m_sightIs : Nat → Int32) (m_sights : Int32) (m_pad : Nat → Int32) (m_padMany : Int32) (m_act : Nat → Int32) (m_who : Nat → Int32) (m_much : Nat → Int32) (m_acts : Int32) (m_heardMany : Int32) (m_wrongNow : Int32) (m_had : Nat → Int32) (m_badAct : Int32) (m_badWhy : Int32) (m_wrongAct : Int32) (m_wrongHeir : Int32) (m_odd : Nat → Int32) (m_span : Nat → Int32) (m_rise : Nat → Int32) (m_wins : Nat → Int32) (m_stored : Nat → Int32) (m_isStored : Nat → Int32) (m_storedAt : Int32) (m_isWriting : Int32) (hk : ∀ v : Int32 × Int32 × Int32, GG X D Q n (wM T a m_beat m_nick m_owner m_place m_kept m_heard m_chosen m_minutes m_sightBeat m_sightOff m_sightIs m_sights m_pad m_padMany m_act m_who m_much m_acts m_heardMany m_wrongNow m_had m_badAct m_badWhy m_wrongAct m_wrongHeir m_odd m_span m_rise m_wins m_stored m_isStored m_storedAt m_isWriting) [(0, .ref (a 0)), (1, .int y1), (2, .int y2), (3, .int v.1), (4, .int v.2.1), (5, .int v.2.2)] 72 [] (some (v))) : ∀ (nn : Nat) (y3 : Int32) (y4 : Int32) (y5 : Int32), GG X D Q n (wM T a m_beat m_nick m_owner m_place m_kept m_heard m_chosen m_minutes m_sightBeat m_sightOff m_sightIs m_sights m_pad m_padMany m_act m_who m_much m_acts m_heardMany m_wrongNow m_had m_badAct m_badWhy m_wrongAct m_wrongHeir m_odd m_span m_rise m_wins m_stored m_isStored m_storedAt m_isWriting) [(0, .ref (a 0)), (1, .int y1), (2, .int y2), (3, .int y3), (4, .int y4), (5, .int y5)] 8 [] (f_X9_mostLeft_L8 y1 y2 m_beat m_sightBeat m_sightOff m_sightIs m_sights nn y3 y4 y5) := by
  intro nn
  induction nn with
  | zero => intros; exact gg_none
  | succ nn ih =>
    intro y3 y4 y5
    unfold f_X9_mostLeft_L8
    refine gg_iload C dX9_mostLeft_8 5 rfl ?_
    refine gg_bipush C dX9_mostLeft_10 kB_40 ?_
    refine gg_icmp_ge C dX9_mostLeft_12 (tgt := 72) (by decide) (fun _ => ?_) (fun _ => ?_)
    · refine gg_sub [0, 1, 2, 3, 4, 5] rfl ?_
      exact hk (y3, y4, y5)
    · refine gg_aload_n C dX9_mostLeft_15 rfl 0 rfl ?_
      refine gg_iload C dX9_mostLeft_16 5 rfl ?_
      refine gg_callV C (fun l r h => c_X9_isFit l D T a m_beat m_nick m_owner m_place m_kept m_heard m_chosen m_minutes m_sightBeat m_sightOff m_sightIs m_sights m_pad m_padMany m_act m_who m_much m_acts m_heardMany m_wrongNow m_had m_badAct m_badWhy m_wrongAct m_wrongHeir m_odd m_span m_rise m_wins m_stored m_isStored m_storedAt m_isWriting y5 r h) lk_X9_256 ⟨by decide, by decide⟩ hnn rfl (rest := []) rfl (Nat.le_of_ble_eq_true rfl) 0 rfl rfl dX9_mostLeft_18 (ws2 := fun r1 => wM T a m_beat m_nick m_owner m_place m_kept m_heard m_chosen m_minutes m_sightBeat m_sightOff m_sightIs m_sights m_pad m_padMany m_act m_who m_much m_acts m_heardMany m_wrongNow m_had m_badAct m_badWhy m_wrongAct m_wrongHeir m_odd m_span m_rise m_wins m_stored m_isStored m_storedAt m_isWriting) (cut_full (fun _ => rfl)) (st2 := fun r1 => [.int r1]) (fun _ => rfl) (fun r1 => ?_)
      refine gg_istore C dX9_mostLeft_21 hn (by decide) (lv' := [(6, .int r1), (0, .ref (a 0)), (1, .int y1), (2, .int y2), (3, .int y3), (4, .int y4), (5, .int y5)]) rfl ?_
      refine gg_iload C dX9_mostLeft_23 5 rfl ?_
      refine gg_iload C dX9_mostLeft_25 0 rfl ?_
      refine gg_join (α := Int32) 35 (fun z2 => wM T a m_beat m_nick m_owner m_place m_kept m_heard m_chosen m_minutes m_sightBeat m_sightOff m_sightIs m_sights m_pad m_padMany m_act m_who m_much m_acts m_heardMany m_wrongNow m_had m_badAct m_badWhy m_wrongAct m_wrongHeir m_odd m_span m_rise m_wins m_stored m_isStored m_storedAt m_isWriting) (fun z2 => [(0, .ref (a 0)), (1, .int y1), (2, .int y2), (3, .int y3), (4, .int y4), (5, .int y5), (6, .int r1)]) (fun z2 => [.int z2, .int y4]) (fun z2 => ?_) (fun K3 => ?_)
      · refine gg_iadd C dX9_mostLeft_35 ?_
        refine gg_bi (fun x4 => ?_)
        refine gg_istore C dX9_mostLeft_36 hn (by decide) (lv' := [(4, .int x4), (0, .ref (a 0)), (1, .int y1), (2, .int y2), (3, .int y3), (5, .int y5), (6, .int r1)]) rfl ?_
        refine gg_iload_n C dX9_mostLeft_38 rfl 4 rfl ?_
        refine gg_iload C dX9_mostLeft_39 6 rfl ?_
        refine gg_if_eq C dX9_mostLeft_41 (tgt := 63) (by decide) (fun _ => ?_) (fun _ => ?_)
        · refine gg_iconst C dX9_mostLeft_63 kI_0 ?_
          refine gg_iadd C dX9_mostLeft_64 ?_
          refine gg_bi (fun x5 => ?_)
          refine gg_istore_n C dX9_mostLeft_65 rfl hn (by decide) (lv' := [(3, .int x5), (4, .int x4), (0, .ref (a 0)), (1, .int y1), (2, .int y2), (5, .int y5), (6, .int r1)]) rfl ?_
          refine gg_iinc C dX9_mostLeft_66 (j := 5) rfl (v := y5 + 1) (by first | rfl | decide) hn (by decide) (lv' := [(5, .int (y5 + 1)), (3, .int x5), (4, .int x4), (0, .ref (a 0)), (1, .int y1), (2, .int y2), (6, .int r1)]) rfl ?_
          refine gg_goto C dX9_mostLeft_69 (tgt := 8) (by decide) ?_
          refine gg_sub [3, 4, 5, 1, 2, 0] rfl ?_
          exact ih x5 x4 (y5 + 1)
        · refine gg_aload_n C dX9_mostLeft_44 rfl 1 rfl ?_
          refine gf_X9_7 C 0 rfl rfl dX9_mostLeft_45 ?_
          refine gg_iload C dX9_mostLeft_48 5 rfl ?_
          refine gg_iald C 1 rfl dX9_mostLeft_50 ?_
          refine gg_iload_n C dX9_mostLeft_51 rfl 2 rfl ?_
          refine gg_iload_n C dX9_mostLeft_52 rfl 3 rfl ?_
          refine gg_callS C (fun l r h => c_X9_isLike l D T (m_beat y5.toNatClampNeg) y1 y2 r h) lk_X9_253 ⟨by decide, by decide⟩ hnn rfl (rest := [.int y3]) rfl (Nat.le_of_ble_eq_true rfl) dX9_mostLeft_53 cut_none (st2 := fun r6 => [.int r6, .int y3]) (fun _ => rfl) (fun r6 => ?_)
          refine gg_if_eq C dX9_mostLeft_56 (tgt := 63) (by decide) (fun _ => ?_) (fun _ => ?_)
          · refine gg_iconst C dX9_mostLeft_63 kI_0 ?_
            refine gg_iadd C dX9_mostLeft_64 ?_
            refine gg_bi (fun x7 => ?_)
            refine gg_istore_n C dX9_mostLeft_65 rfl hn (by decide) (lv' := [(3, .int x7), (4, .int x4), (0, .ref (a 0)), (1, .int y1), (2, .int y2), (5, .int y5), (6, .int r1)]) rfl ?_
            refine gg_iinc C dX9_mostLeft_66 (j := 5) rfl (v := y5 + 1) (by first | rfl | decide) hn (by decide) (lv' := [(5, .int (y5 + 1)), (3, .int x7), (4, .int x4), (0, .ref (a 0)), (1, .int y1), (2, .int y2), (6, .int r1)]) rfl ?_
            refine gg_goto C dX9_mostLeft_69 (tgt := 8) (by decide) ?_
            refine gg_sub [3, 4, 5, 1, 2, 0] rfl ?_
            exact ih x7 x4 (y5 + 1)
          · refine gg_iconst C dX9_mostLeft_59 kI_1 ?_
            refine gg_goto C dX9_mostLeft_60 (tgt := 64) (by decide) ?_
            refine gg_iadd C dX9_mostLeft_64 ?_
            refine gg_bi (fun x8 => ?_)
            refine gg_istore_n C dX9_mostLeft_65 rfl hn (by decide) (lv' := [(3, .int x8), (4, .int x4), (0, .ref (a 0)), (1, .int y1), (2, .int y2), (5, .int y5), (6, .int r1)]) rfl ?_
            refine gg_iinc C dX9_mostLeft_66 (j := 5) rfl (v := y5 + 1) (by first | rfl | decide) hn (by decide) (lv' := [(5, .int (y5 + 1)), (3, .int x8), (4, .int x4), (0, .ref (a 0)), (1, .int y1), (2, .int y2), (6, .int r1)]) rfl ?_
            refine gg_goto C dX9_mostLeft_69 (tgt := 8) (by decide) ?_
            refine gg_sub [3, 4, 5, 1, 2, 0] rfl ?_
            exact ih x8 x4 (y5 + 1)
      · refine gg_if_eq C dX9_mostLeft_27 (tgt := 34) (by decide) (fun _ => ?_) (fun _ => ?_)
        · refine gg_iconst C dX9_mostLeft_34 kI_0 ?_
          refine gg_sub [1, 2, 3, 4, 5, 6, 0] rfl ?_
          exact K3 0
        · refine gg_iconst C dX9_mostLeft_30 kI_1 ?_
          refine gg_goto C dX9_mostLeft_31 (tgt := 35) (by decide) ?_
          refine gg_sub [1, 2, 3, 4, 5, 6, 0] rfl ?_
          exact K3 1
def f_X9_mostLeft (m_beat : Nat → Int32) (m_sightBeat : Nat → Int32) (m_sightOff : Nat → Int32) (m_sightIs : Nat → Int32) (m_sights : Int32) (v1 : Int32) (v2 : Int32) : Option (Int32) := jn (α := Int32 × Int32 × Int32) (f_X9_mostLeft_L8 v1 v2 m_beat m_sightBeat m_sightOff m_sightIs m_sights 100 0 0 0) (fun z9 => if z9.1 ≤ z9.2.1 - z9.1 then some (z9.2.1 - z9.1) else some z9.1)
set_option maxHeartbeats 4000000 in
set_option maxRecDepth 100000 in
theorem c_X9_mostLeft (l : Launch) (D : va_G) (T : Nat → ClassId) (a : Nat → Nat) (m_beat : Nat → Int32) (m_nick : Nat → Int32) (m_owner : Nat → Int32) (m_place : Nat → Int32) (m_kept : Nat → Int32) (m_heard : Nat → Int32) (m_chosen : Nat → Int32) (m_minutes : Int32) (m_sightBeat : Nat → Int32) (m_sightOff : Nat → Int32) (m_sightIs : Nat → Int32) (m_sights : Int32) (m_pad : Nat → Int32) (m_padMany : Int32) (m_act : Nat → Int32) (m_who : Nat → Int32) (m_much : Nat → Int32) (m_acts : Int32) (m_heardMany : Int32) (m_wrongNow : Int32) (m_had : Nat → Int32) (m_badAct : Int32) (m_badWhy : Int32) (m_wrongAct : Int32) (m_wrongHeir : Int32) (m_odd : Nat → Int32) (m_span : Nat → Int32) (m_rise : Nat → Int32) (m_wins : Nat → Int32) (m_stored : Nat → Int32) (m_isStored : Nat → Int32) (m_storedAt : Int32) (m_isWriting : Int32) (v1 : Int32) (v2 : Int32) (r : Int32) (h : f_X9_mostLeft m_beat m_sightBeat m_sightOff m_sightIs m_sights v1 v2 = some r) : Kt l D T yX9_mostLeft cX9_mostLeft 7 (some .int) (3, 0, 0, 70) [.ref (a 0), .int v1, .int v2] (wM T a m_beat m_nick m_owner m_place m_kept m_heard m_chosen m_minutes m_sightBeat m_sightOff m_sightIs m_sights m_pad m_padMany m_act m_who m_much m_acts m_heardMany m_wrongNow m_had m_badAct m_badWhy m_wrongAct m_wrongHeir m_odd m_span m_rise m_wins m_stored m_isStored m_storedAt m_isWriting) (FF (fun (r : Int32) => some (.int r)) (fun r => wM T a m_beat m_nick m_owner m_place m_kept m_heard m_chosen m_minutes m_sightBeat m_sightOff m_sightIs m_sights m_pad m_padMany m_act m_who m_much m_acts m_heardMany m_wrongNow m_had m_badAct m_badWhy m_wrongAct m_wrongHeir m_odd m_span m_rise m_wins m_stored m_isStored m_storedAt m_isWriting) r) := by
  refine kt_of (own := RX9) (nm := "mostLeft") (lv := [(0, .ref (a 0)), (1, .int v1), (2, .int v2)]) (by decide) rfl rfl rfl (Nat.le_of_ble_eq_true rfl) h (fun X hn C M => ?_)
  have hnn : ((0, 0) : Nat × Nat).1 ≤ 0 ∧ ((0, 0) : Nat × Nat).2 ≤ 0 := ⟨Nat.le_refl 0, Nat.le_refl 0⟩
  unfold f_X9_mostLeft
  refine gg_iconst C dX9_mostLeft_0 kI_0 ?_
  refine gg_istore_n C dX9_mostLeft_1 rfl hn (by decide) (lv' := [(3, .int 0), (0, .ref (a 0)), (1, .int v1), (2, .int v2)]) rfl ?_
  refine gg_iconst C dX9_mostLeft_2 kI_0 ?_
  refine gg_istore C dX9_mostLeft_3 hn (by decide) (lv' := [(4, .int 0), (3, .int 0), (0, .ref (a 0)), (1, .int v1), (2, .int v2)]) rfl ?_
  refine gg_iconst C dX9_mostLeft_5 kI_0 ?_
  refine gg_istore C dX9_mostLeft_6 hn (by decide) (lv' := [(5, .int 0), (4, .int 0), (3, .int 0), (0, .ref (a 0)), (1, .int v1), (2, .int v2)]) rfl ?_
  refine gg_join (α := Int32 × Int32 × Int32) 72 (fun z9 => wM T a m_beat m_nick m_owner m_place m_kept m_heard m_chosen m_minutes m_sightBeat m_sightOff m_sightIs m_sights m_pad m_padMany m_act m_who m_much m_acts m_heardMany m_wrongNow m_had m_badAct m_badWhy m_wrongAct m_wrongHeir m_odd m_span m_rise m_wins m_stored m_isStored m_storedAt m_isWriting) (fun z9 => [(0, .ref (a 0)), (1, .int v1), (2, .int v2), (3, .int z9.1), (4, .int z9.2.1), (5, .int z9.2.2)]) (fun z9 => []) (fun z9 => ?_) (fun K10 => ?_)
  · refine gg_iload_n C dX9_mostLeft_72 rfl 3 rfl ?_
    refine gg_iload C dX9_mostLeft_73 4 rfl ?_
    refine gg_iload_n C dX9_mostLeft_75 rfl 3 rfl ?_
    refine gg_isub C dX9_mostLeft_76 ?_
    refine gg_icmp_le C dX9_mostLeft_77 (tgt := 84) (by decide) (fun _ => ?_) (fun _ => ?_)
    · refine gg_iload C dX9_mostLeft_84 4 rfl ?_
      refine gg_iload_n C dX9_mostLeft_86 rfl 3 rfl ?_
      refine gg_isub C dX9_mostLeft_87 ?_
      exact gg_iret C M dX9_mostLeft_88 ⟨rfl, rfl⟩
    · refine gg_iload_n C dX9_mostLeft_80 rfl 3 rfl ?_
      refine gg_goto C dX9_mostLeft_81 (tgt := 88) (by decide) ?_
      exact gg_iret C M dX9_mostLeft_88 ⟨rfl, rfl⟩
  · refine gg_sub [3, 4, 5, 2, 1, 0] rfl ?_
    exact g_X9_mostLeft_L8 C hnn hn a v1 v2 m_beat m_nick m_owner m_place m_kept m_heard m_chosen m_minutes m_sightBeat m_sightOff m_sightIs m_sights m_pad m_padMany m_act m_who m_much m_acts m_heardMany m_wrongNow m_had m_badAct m_badWhy m_wrongAct m_wrongHeir m_odd m_span m_rise m_wins m_stored m_isStored m_storedAt m_isWriting K10 100 0 0 0
def f_X9_ask_L27 (m_beat : Nat → Int32) (m_sightBeat : Nat → Int32) (m_sightOff : Nat → Int32) (m_sightIs : Nat → Int32) (m_sights : Int32) : Nat → Int32 → Int32 → Int32 → Option (Int32 × Int32 × Int32)
  | 0, _, _, _ => none
  | nn + 1, y2, y3, y4 => if 99 ≤ y4 then some (y2, y3, y4) else jn (α := Int32) (if 9 ≤ y4 - y4 / 10 * 10 then some y3 else jn (f_X9_mostLeft m_beat m_sightBeat m_sightOff m_sightIs m_sights (y4 / 10) (y4 - y4 / 10 * 10)) (fun r5 => some r5)) (fun z3 => jn (α := Int32) (if y3 ≤ z3 then some y2 else some y4) (fun z6 => jn (f_X9_less y3 z3) (fun r8 => f_X9_ask_L27 m_beat m_sightBeat m_sightOff m_sightIs m_sights nn z6 r8 (y4 + 1))))
set_option maxHeartbeats 4000000 in
set_option maxRecDepth 100000 in
theorem g_X9_ask_L27 {X : KX} {D : va_G} {T : Nat → ClassId} {Q : Int32 × Int32 × Int32 → State → Prop} {n : Nat × Nat} (C : Cx X D T cX9_ask RX9 { frames := 4, cells := 0, slots := 0, locals := 96 }) (hnn : n.1 ≤ 0 ∧ n.2 ≤ 0) (hn : kxL X = 6) (a : Nat → Nat)  (y1 : Int32) (m_beat : Nat → Int32) (m_nick : Nat → Int32) (m_owner : Nat → Int32) (m_place : Nat → Int32) (m_kept : Nat → Int32) (m_heard : Nat → Int32) (m_chosen : Nat → Int32) (m_minutes : Int32) (m_sightBeat : Nat → Int32) (m_sightOff : Nat → Int32) (m_sightIs : Nat → Int32) (m_sights : Int32) (m_pad : Nat → Int32) (m_padMany : Int32) (m_act : Nat → Int32) (m_who : Nat → Int32) (m_much : Nat → Int32) (m_acts : Int32) (m_heardMany : Int32) (m_wrongNow : Int32) (m_had : Nat → Int32) (m_badAct : Int32) (m_badWhy : Int32) (m_wrongAct : Int32) (m_wrongHeir : Int32) (m_odd : Nat → Int32) (m_span : Nat → Int32) (m_rise : Nat → Int32) (m_wins : Nat → Int32) (m_stored : Nat → Int32) (m_isStored : Nat → Int32) (m_storedAt : Int32) (m_isWriting : Int32) (hk : ∀ v : Int32 × Int32 × Int32, GG X D Q n (wM T a m_beat m_nick m_owner m_place m_kept m_heard m_chosen m_minutes m_sightBeat m_sightOff m_sightIs m_sights m_pad m_padMany m_act m_who m_much m_acts m_heardMany m_wrongNow m_had m_badAct m_badWhy m_wrongAct m_wrongHeir m_odd m_span m_rise m_wins m_stored m_isStored m_storedAt m_isWriting) [(0, .ref (a 0)), (1, .int y1), (2, .int v.1), (3, .int v.2.1), (4, .int v.2.2)] 90 [] (some (v))) : ∀ (nn : Nat) (y2 : Int32) (y3 : Int32) (y4 : Int32), GG X D Q n (wM T a m_beat m_nick m_owner m_place m_kept m_heard m_chosen m_minutes m_sightBeat m_sightOff m_sightIs m_sights m_pad m_padMany m_act m_who m_much m_acts m_heardMany m_wrongNow m_had m_badAct m_badWhy m_wrongAct m_wrongHeir m_odd m_span m_rise m_wins m_stored m_isStored m_storedAt m_isWriting) [(0, .ref (a 0)), (1, .int y1), (2, .int y2), (3, .int y3), (4, .int y4)] 27 [] (f_X9_ask_L27 m_beat m_sightBeat m_sightOff m_sightIs m_sights nn y2 y3 y4) := by
  intro nn
  induction nn with
  | zero => intros; exact gg_none
  | succ nn ih =>
    intro y2 y3 y4
    unfold f_X9_ask_L27
    refine gg_iload C dX9_ask_27 4 rfl ?_
    refine gg_bipush C dX9_ask_29 kB_99 ?_
    refine gg_icmp_ge C dX9_ask_31 (tgt := 90) (by decide) (fun _ => ?_) (fun _ => ?_)
    · refine gg_sub [0, 1, 2, 3, 4] rfl ?_
      exact hk (y2, y3, y4)
    · refine gg_iload C dX9_ask_34 4 rfl ?_
      refine gg_bipush C dX9_ask_36 kB_10 ?_
      refine gg_iremK C dX9_ask_38 (by decide) ?_
      refine gg_bipush C dX9_ask_39 kB_9 ?_
      refine gg_join (α := Int32) 62 (fun z3 => wM T a m_beat m_nick m_owner m_place m_kept m_heard m_chosen m_minutes m_sightBeat m_sightOff m_sightIs m_sights m_pad m_padMany m_act m_who m_much m_acts m_heardMany m_wrongNow m_had m_badAct m_badWhy m_wrongAct m_wrongHeir m_odd m_span m_rise m_wins m_stored m_isStored m_storedAt m_isWriting) (fun z3 => [(0, .ref (a 0)), (1, .int y1), (2, .int y2), (3, .int y3), (4, .int y4)]) (fun z3 => [.int z3]) (fun z3 => ?_) (fun K4 => ?_)
      · refine gg_istore C dX9_ask_62 hn (by decide) (lv' := [(5, .int z3), (0, .ref (a 0)), (1, .int y1), (2, .int y2), (3, .int y3), (4, .int y4)]) rfl ?_
        refine gg_iload C dX9_ask_64 0 rfl ?_
        refine gg_iload_n C dX9_ask_66 rfl 4 rfl ?_
        refine gg_join (α := Int32) 76 (fun z6 => wM T a m_beat m_nick m_owner m_place m_kept m_heard m_chosen m_minutes m_sightBeat m_sightOff m_sightIs m_sights m_pad m_padMany m_act m_who m_much m_acts m_heardMany m_wrongNow m_had m_badAct m_badWhy m_wrongAct m_wrongHeir m_odd m_span m_rise m_wins m_stored m_isStored m_storedAt m_isWriting) (fun z6 => [(0, .ref (a 0)), (1, .int y1), (2, .int y2), (3, .int y3), (4, .int y4), (5, .int z3)]) (fun z6 => [.int z6]) (fun z6 => ?_) (fun K7 => ?_)
        · refine gg_istore_n C dX9_ask_76 rfl hn (by decide) (lv' := [(2, .int z6), (0, .ref (a 0)), (1, .int y1), (3, .int y3), (4, .int y4), (5, .int z3)]) rfl ?_
          refine gg_iload_n C dX9_ask_77 rfl 3 rfl ?_
          refine gg_iload C dX9_ask_78 5 rfl ?_
          refine gg_callS C (fun l r h => c_X9_less l D T y3 z3 r h) lk_X9_138 ⟨by decide, by decide⟩ hnn rfl (rest := []) rfl (Nat.le_of_ble_eq_true rfl) dX9_ask_80 cut_none (st2 := fun r8 => [.int r8]) (fun _ => rfl) (fun r8 => ?_)
          refine gg_istore_n C dX9_ask_83 rfl hn (by decide) (lv' := [(3, .int r8), (2, .int z6), (0, .ref (a 0)), (1, .int y1), (4, .int y4), (5, .int z3)]) rfl ?_
          refine gg_iinc C dX9_ask_84 (j := 4) rfl (v := y4 + 1) (by first | rfl | decide) hn (by decide) (lv' := [(4, .int (y4 + 1)), (3, .int r8), (2, .int z6), (0, .ref (a 0)), (1, .int y1), (5, .int z3)]) rfl ?_
          refine gg_goto C dX9_ask_87 (tgt := 27) (by decide) ?_
          refine gg_sub [3, 4, 2, 1, 0] rfl ?_
          exact ih z6 r8 (y4 + 1)
        · refine gg_icmp_ge C dX9_ask_67 (tgt := 75) (by decide) (fun _ => ?_) (fun _ => ?_)
          · refine gg_iload_n C dX9_ask_75 rfl 3 rfl ?_
            refine gg_sub [1, 2, 3, 4, 5, 0] rfl ?_
            exact K7 y2
          · refine gg_iload C dX9_ask_70 5 rfl ?_
            refine gg_goto C dX9_ask_72 (tgt := 76) (by decide) ?_
            refine gg_sub [1, 2, 3, 4, 5, 0] rfl ?_
            exact K7 y4
      · refine gg_icmp_ge C dX9_ask_41 (tgt := 61) (by decide) (fun _ => ?_) (fun _ => ?_)
        · refine gg_iload_n C dX9_ask_61 rfl 3 rfl ?_
          refine gg_sub [0, 1, 2, 3, 4] rfl ?_
          exact K4 y3
        · refine gg_aload_n C dX9_ask_44 rfl 0 rfl ?_
          refine gg_iload C dX9_ask_45 4 rfl ?_
          refine gg_bipush C dX9_ask_47 kB_10 ?_
          refine gg_idivK C dX9_ask_49 (by decide) ?_
          refine gg_iload C dX9_ask_50 4 rfl ?_
          refine gg_bipush C dX9_ask_52 kB_10 ?_
          refine gg_iremK C dX9_ask_54 (by decide) ?_
          refine gg_callV C (fun l r h => c_X9_mostLeft l D T a m_beat m_nick m_owner m_place m_kept m_heard m_chosen m_minutes m_sightBeat m_sightOff m_sightIs m_sights m_pad m_padMany m_act m_who m_much m_acts m_heardMany m_wrongNow m_had m_badAct m_badWhy m_wrongAct m_wrongHeir m_odd m_span m_rise m_wins m_stored m_isStored m_storedAt m_isWriting (y4 / 10) (y4 - y4 / 10 * 10) r h) lk_X9_259 ⟨by decide, by decide⟩ hnn rfl (rest := []) rfl (Nat.le_of_ble_eq_true rfl) 0 rfl rfl dX9_ask_55 (ws2 := fun r5 => wM T a m_beat m_nick m_owner m_place m_kept m_heard m_chosen m_minutes m_sightBeat m_sightOff m_sightIs m_sights m_pad m_padMany m_act m_who m_much m_acts m_heardMany m_wrongNow m_had m_badAct m_badWhy m_wrongAct m_wrongHeir m_odd m_span m_rise m_wins m_stored m_isStored m_storedAt m_isWriting) (cut_full (fun _ => rfl)) (st2 := fun r5 => [.int r5]) (fun _ => rfl) (fun r5 => ?_)
          refine gg_goto C dX9_ask_58 (tgt := 62) (by decide) ?_
          refine gg_sub [0, 1, 2, 3, 4] rfl ?_
          exact K4 r5
def f_X9_ask (m_beat : Nat → Int32) (m_sightBeat : Nat → Int32) (m_sightOff : Nat → Int32) (m_sightIs : Nat → Int32) (m_sights : Int32) (v1 : Int32) : Option (Int32) := jn (f_X9_in v1.toInt64 0 1) (fun r1 => if r1 = 0 then some (-2) else jn (f_X9_mostLeft m_beat m_sightBeat m_sightOff m_sightIs m_sights 1 0) (fun r2 => jn (α := Int32 × Int32 × Int32) (f_X9_ask_L27 m_beat m_sightBeat m_sightOff m_sightIs m_sights 100 10 r2 11) (fun z9 => if z9.2.1 = 0 then some (-6) else if v1 = 0 then some z9.1 else some z9.2.1)))
set_option maxHeartbeats 4000000 in
set_option maxRecDepth 100000 in
theorem c_X9_ask (l : Launch) (D : va_G) (T : Nat → ClassId) (a : Nat → Nat) (m_beat : Nat → Int32) (m_nick : Nat → Int32) (m_owner : Nat → Int32) (m_place : Nat → Int32) (m_kept : Nat → Int32) (m_heard : Nat → Int32) (m_chosen : Nat → Int32) (m_minutes : Int32) (m_sightBeat : Nat → Int32) (m_sightOff : Nat → Int32) (m_sightIs : Nat → Int32) (m_sights : Int32) (m_pad : Nat → Int32) (m_padMany : Int32) (m_act : Nat → Int32) (m_who : Nat → Int32) (m_much : Nat → Int32) (m_acts : Int32) (m_heardMany : Int32) (m_wrongNow : Int32) (m_had : Nat → Int32) (m_badAct : Int32) (m_badWhy : Int32) (m_wrongAct : Int32) (m_wrongHeir : Int32) (m_odd : Nat → Int32) (m_span : Nat → Int32) (m_rise : Nat → Int32) (m_wins : Nat → Int32) (m_stored : Nat → Int32) (m_isStored : Nat → Int32) (m_storedAt : Int32) (m_isWriting : Int32) (v1 : Int32) (r : Int32) (h : f_X9_ask m_beat m_sightBeat m_sightOff m_sightIs m_sights v1 = some r) : Kt l D T yX9_ask cX9_ask 6 (some .int) (4, 0, 0, 96) [.ref (a 0), .int v1] (wM T a m_beat m_nick m_owner m_place m_kept m_heard m_chosen m_minutes m_sightBeat m_sightOff m_sightIs m_sights m_pad m_padMany m_act m_who m_much m_acts m_heardMany m_wrongNow m_had m_badAct m_badWhy m_wrongAct m_wrongHeir m_odd m_span m_rise m_wins m_stored m_isStored m_storedAt m_isWriting) (FF (fun (r : Int32) => some (.int r)) (fun r => wM T a m_beat m_nick m_owner m_place m_kept m_heard m_chosen m_minutes m_sightBeat m_sightOff m_sightIs m_sights m_pad m_padMany m_act m_who m_much m_acts m_heardMany m_wrongNow m_had m_badAct m_badWhy m_wrongAct m_wrongHeir m_odd m_span m_rise m_wins m_stored m_isStored m_storedAt m_isWriting) r) := by
  refine kt_of (own := RX9) (nm := "ask") (lv := [(0, .ref (a 0)), (1, .int v1)]) (by decide) rfl rfl rfl (Nat.le_of_ble_eq_true rfl) h (fun X hn C M => ?_)
  have hnn : ((0, 0) : Nat × Nat).1 ≤ 0 ∧ ((0, 0) : Nat × Nat).2 ≤ 0 := ⟨Nat.le_refl 0, Nat.le_refl 0⟩
  unfold f_X9_ask
  refine gg_iload_n C dX9_ask_0 rfl 1 rfl ?_
  refine gg_i2l C dX9_ask_1 ?_
  refine gg_lconst C dX9_ask_2 (v := 0) (by decide) ?_
  refine gg_lconst C dX9_ask_3 (v := 1) (by decide) ?_
  refine gg_callS C (fun l r h => c_X9_in l D T v1.toInt64 0 1 r h) lk_X9_76 ⟨by decide, by decide⟩ hnn rfl (rest := []) rfl (Nat.le_of_ble_eq_true rfl) dX9_ask_4 cut_none (st2 := fun r1 => [.int r1]) (fun _ => rfl) (fun r1 => ?_)
  refine gg_if_ne C dX9_ask_7 (tgt := 13) (by decide) (fun _ => ?_) (fun _ => ?_)
  · refine gg_bipush C dX9_ask_13 kB_10 ?_
    refine gg_istore_n C dX9_ask_15 rfl hn (by decide) (lv' := [(2, .int 10), (0, .ref (a 0)), (1, .int v1)]) rfl ?_
    refine gg_aload_n C dX9_ask_16 rfl 1 rfl ?_
    refine gg_iconst C dX9_ask_17 kI_1 ?_
    refine gg_iconst C dX9_ask_18 kI_0 ?_
    refine gg_callV C (fun l r h => c_X9_mostLeft l D T a m_beat m_nick m_owner m_place m_kept m_heard m_chosen m_minutes m_sightBeat m_sightOff m_sightIs m_sights m_pad m_padMany m_act m_who m_much m_acts m_heardMany m_wrongNow m_had m_badAct m_badWhy m_wrongAct m_wrongHeir m_odd m_span m_rise m_wins m_stored m_isStored m_storedAt m_isWriting 1 0 r h) lk_X9_259 ⟨by decide, by decide⟩ hnn rfl (rest := []) rfl (Nat.le_of_ble_eq_true rfl) 0 rfl rfl dX9_ask_19 (ws2 := fun r2 => wM T a m_beat m_nick m_owner m_place m_kept m_heard m_chosen m_minutes m_sightBeat m_sightOff m_sightIs m_sights m_pad m_padMany m_act m_who m_much m_acts m_heardMany m_wrongNow m_had m_badAct m_badWhy m_wrongAct m_wrongHeir m_odd m_span m_rise m_wins m_stored m_isStored m_storedAt m_isWriting) (cut_full (fun _ => rfl)) (st2 := fun r2 => [.int r2]) (fun _ => rfl) (fun r2 => ?_)
    refine gg_istore_n C dX9_ask_22 rfl hn (by decide) (lv' := [(3, .int r2), (2, .int 10), (0, .ref (a 0)), (1, .int v1)]) rfl ?_
    refine gg_bipush C dX9_ask_23 kB_11 ?_
    refine gg_istore C dX9_ask_25 hn (by decide) (lv' := [(4, .int 11), (3, .int r2), (2, .int 10), (0, .ref (a 0)), (1, .int v1)]) rfl ?_
    refine gg_join (α := Int32 × Int32 × Int32) 90 (fun z9 => wM T a m_beat m_nick m_owner m_place m_kept m_heard m_chosen m_minutes m_sightBeat m_sightOff m_sightIs m_sights m_pad m_padMany m_act m_who m_much m_acts m_heardMany m_wrongNow m_had m_badAct m_badWhy m_wrongAct m_wrongHeir m_odd m_span m_rise m_wins m_stored m_isStored m_storedAt m_isWriting) (fun z9 => [(0, .ref (a 0)), (1, .int v1), (2, .int z9.1), (3, .int z9.2.1), (4, .int z9.2.2)]) (fun z9 => []) (fun z9 => ?_) (fun K10 => ?_)
    · refine gg_iload_n C dX9_ask_90 rfl 3 rfl ?_
      refine gg_if_ne C dX9_ask_91 (tgt := 99) (by decide) (fun _ => ?_) (fun _ => ?_)
      · refine gg_iload_n C dX9_ask_99 rfl 1 rfl ?_
        refine gg_if_ne C dX9_ask_100 (tgt := 107) (by decide) (fun _ => ?_) (fun _ => ?_)
        · refine gg_iload_n C dX9_ask_107 rfl 3 rfl ?_
          exact gg_iret C M dX9_ask_108 ⟨rfl, rfl⟩
        · refine gg_iload_n C dX9_ask_103 rfl 2 rfl ?_
          refine gg_goto C dX9_ask_104 (tgt := 108) (by decide) ?_
          exact gg_iret C M dX9_ask_108 ⟨rfl, rfl⟩
      · refine gg_bipush C dX9_ask_94 kB_m6 ?_
        refine gg_goto C dX9_ask_96 (tgt := 108) (by decide) ?_
        exact gg_iret C M dX9_ask_108 ⟨rfl, rfl⟩
    · refine gg_sub [3, 4, 2, 1, 0] rfl ?_
      exact g_X9_ask_L27 C hnn hn a v1 m_beat m_nick m_owner m_place m_kept m_heard m_chosen m_minutes m_sightBeat m_sightOff m_sightIs m_sights m_pad m_padMany m_act m_who m_much m_acts m_heardMany m_wrongNow m_had m_badAct m_badWhy m_wrongAct m_wrongHeir m_odd m_span m_rise m_wins m_stored m_isStored m_storedAt m_isWriting K10 100 10 r2 11
  · refine gg_bipush C dX9_ask_10 kB_m2 ?_
    exact gg_iret C M dX9_ask_12 ⟨rfl, rfl⟩
def f_X9_leastTake_L7 (y1 : Int32) (m_wins : Nat → Int32) : Nat → Int32 → Int32 → Option (Int32 × Int32)
  | 0, _, _ => none
  | nn + 1, y2, y3 => if y3 ≤ 0 then some (y2, y3) else gu (y1 - y3) 1000 (if m_wins (y1 - y3).toNatClampNeg = 0 then f_X9_leastTake_L7 y1 m_wins nn y3 (y3 + (-1)) else f_X9_leastTake_L7 y1 m_wins nn y2 (y3 + (-1)))
set_option maxHeartbeats 4000000 in
set_option maxRecDepth 100000 in
theorem g_X9_leastTake_L7 {X : KX} {D : va_G} {T : Nat → ClassId} {Q : Int32 × Int32 → State → Prop} {n : Nat × Nat} (C : Cx X D T cX9_leastTake RX9 { frames := 0, cells := 0, slots := 0, locals := 0 }) (hnn : n.1 ≤ 0 ∧ n.2 ≤ 0) (hn : kxL X = 4) (a : Nat → Nat)  (y1 : Int32) (m_beat : Nat → Int32) (m_nick : Nat → Int32) (m_owner : Nat → Int32) (m_place : Nat → Int32) (m_kept : Nat → Int32) (m_heard : Nat → Int32) (m_chosen : Nat → Int32) (m_minutes : Int32) (m_sightBeat : Nat → Int32) (m_sightOff : Nat → Int32) (m_sightIs : Nat → Int32) (m_sights : Int32) (m_pad : Nat → Int32) (m_padMany : Int32) (m_act : Nat → Int32) (m_who : Nat → Int32) (m_much : Nat → Int32) (m_acts : Int32) (m_heardMany : Int32) (m_wrongNow : Int32) (m_had : Nat → Int32) (m_badAct : Int32) (m_badWhy : Int32) (m_wrongAct : Int32) (m_wrongHeir : Int32) (m_odd : Nat → Int32) (m_span : Nat → Int32) (m_rise : Nat → Int32) (m_wins : Nat → Int32) (m_stored : Nat → Int32) (m_isStored : Nat → Int32) (m_storedAt : Int32) (m_isWriting : Int32) (hk : ∀ v : Int32 × Int32, GG X D Q n (wM T a m_beat m_nick m_owner m_place m_kept m_heard m_chosen m_minutes m_sightBeat m_sightOff m_sightIs m_sights m_pad m_padMany m_act m_who m_much m_acts m_heardMany m_wrongNow m_had m_badAct m_badWhy m_wrongAct m_wrongHeir m_odd m_span m_rise m_wins m_stored m_isStored m_storedAt m_isWriting) [(0, .ref (a 0)), (1, .int y1), (2, .int v.1), (3, .int v.2)] 34 [] (some (v))) : ∀ (nn : Nat) (y2 : Int32) (y3 : Int32), GG X D Q n (wM T a m_beat m_nick m_owner m_place m_kept m_heard m_chosen m_minutes m_sightBeat m_sightOff m_sightIs m_sights m_pad m_padMany m_act m_who m_much m_acts m_heardMany m_wrongNow m_had m_badAct m_badWhy m_wrongAct m_wrongHeir m_odd m_span m_rise m_wins m_stored m_isStored m_storedAt m_isWriting) [(0, .ref (a 0)), (1, .int y1), (2, .int y2), (3, .int y3)] 7 [] (f_X9_leastTake_L7 y1 m_wins nn y2 y3) := by
  intro nn
  induction nn with
  | zero => intros; exact gg_none
  | succ nn ih =>
    intro y2 y3
    unfold f_X9_leastTake_L7
    refine gg_iload_n C dX9_leastTake_7 rfl 3 rfl ?_
    refine gg_if_le C dX9_leastTake_8 (tgt := 34) (by decide) (fun _ => ?_) (fun _ => ?_)
    · refine gg_sub [0, 1, 2, 3] rfl ?_
      exact hk (y2, y3)
    · refine gg_aload_n C dX9_leastTake_11 rfl 0 rfl ?_
      refine gf_X9_64 C 0 rfl rfl dX9_leastTake_12 ?_
      refine gg_iload_n C dX9_leastTake_15 rfl 1 rfl ?_
      refine gg_iload_n C dX9_leastTake_16 rfl 3 rfl ?_
      refine gg_isub C dX9_leastTake_17 ?_
      refine gg_zald C 19 rfl dX9_leastTake_18 ?_
      refine gg_if_eq C dX9_leastTake_19 (tgt := 26) (by decide) (fun _ => ?_) (fun _ => ?_)
      · refine gg_iload_n C dX9_leastTake_26 rfl 3 rfl ?_
        refine gg_istore_n C dX9_leastTake_27 rfl hn (by decide) (lv' := [(2, .int y3), (0, .ref (a 0)), (1, .int y1), (3, .int y3)]) rfl ?_
        refine gg_iinc C dX9_leastTake_28 (j := 3) rfl (v := y3 + (-1)) (by first | rfl | decide) hn (by decide) (lv' := [(3, .int (y3 + (-1))), (2, .int y3), (0, .ref (a 0)), (1, .int y1)]) rfl ?_
        refine gg_goto C dX9_leastTake_31 (tgt := 7) (by decide) ?_
        refine gg_sub [2, 3, 1, 0] rfl ?_
        exact ih y3 (y3 + (-1))
      · refine gg_iload_n C dX9_leastTake_22 rfl 2 rfl ?_
        refine gg_goto C dX9_leastTake_23 (tgt := 27) (by decide) ?_
        refine gg_istore_n C dX9_leastTake_27 rfl hn (by decide) (lv' := [(2, .int y2), (0, .ref (a 0)), (1, .int y1), (3, .int y3)]) rfl ?_
        refine gg_iinc C dX9_leastTake_28 (j := 3) rfl (v := y3 + (-1)) (by first | rfl | decide) hn (by decide) (lv' := [(3, .int (y3 + (-1))), (2, .int y2), (0, .ref (a 0)), (1, .int y1)]) rfl ?_
        refine gg_goto C dX9_leastTake_31 (tgt := 7) (by decide) ?_
        refine gg_sub [2, 3, 1, 0] rfl ?_
        exact ih y2 (y3 + (-1))
def f_X9_leastTake (m_wins : Nat → Int32) (v1 : Int32) : Option (Int32) := bi (v1 / 2) (fun x1 => jn (α := Int32 × Int32) (f_X9_leastTake_L7 v1 m_wins 600 (-6) x1) (fun z2 => some z2.1))
set_option maxHeartbeats 4000000 in
set_option maxRecDepth 100000 in
theorem c_X9_leastTake (l : Launch) (D : va_G) (T : Nat → ClassId) (a : Nat → Nat) (m_beat : Nat → Int32) (m_nick : Nat → Int32) (m_owner : Nat → Int32) (m_place : Nat → Int32) (m_kept : Nat → Int32) (m_heard : Nat → Int32) (m_chosen : Nat → Int32) (m_minutes : Int32) (m_sightBeat : Nat → Int32) (m_sightOff : Nat → Int32) (m_sightIs : Nat → Int32) (m_sights : Int32) (m_pad : Nat → Int32) (m_padMany : Int32) (m_act : Nat → Int32) (m_who : Nat → Int32) (m_much : Nat → Int32) (m_acts : Int32) (m_heardMany : Int32) (m_wrongNow : Int32) (m_had : Nat → Int32) (m_badAct : Int32) (m_badWhy : Int32) (m_wrongAct : Int32) (m_wrongHeir : Int32) (m_odd : Nat → Int32) (m_span : Nat → Int32) (m_rise : Nat → Int32) (m_wins : Nat → Int32) (m_stored : Nat → Int32) (m_isStored : Nat → Int32) (m_storedAt : Int32) (m_isWriting : Int32) (v1 : Int32) (r : Int32) (h : f_X9_leastTake m_wins v1 = some r) : Kt l D T yX9_leastTake cX9_leastTake 4 (some .int) (0, 0, 0, 0) [.ref (a 0), .int v1] (wM T a m_beat m_nick m_owner m_place m_kept m_heard m_chosen m_minutes m_sightBeat m_sightOff m_sightIs m_sights m_pad m_padMany m_act m_who m_much m_acts m_heardMany m_wrongNow m_had m_badAct m_badWhy m_wrongAct m_wrongHeir m_odd m_span m_rise m_wins m_stored m_isStored m_storedAt m_isWriting) (FF (fun (r : Int32) => some (.int r)) (fun r => wM T a m_beat m_nick m_owner m_place m_kept m_heard m_chosen m_minutes m_sightBeat m_sightOff m_sightIs m_sights m_pad m_padMany m_act m_who m_much m_acts m_heardMany m_wrongNow m_had m_badAct m_badWhy m_wrongAct m_wrongHeir m_odd m_span m_rise m_wins m_stored m_isStored m_storedAt m_isWriting) r) := by
  refine kt_of (own := RX9) (nm := "leastTake") (lv := [(0, .ref (a 0)), (1, .int v1)]) (by decide) rfl rfl rfl (Nat.le_of_ble_eq_true rfl) h (fun X hn C M => ?_)
  have hnn : ((0, 0) : Nat × Nat).1 ≤ 0 ∧ ((0, 0) : Nat × Nat).2 ≤ 0 := ⟨Nat.le_refl 0, Nat.le_refl 0⟩
  unfold f_X9_leastTake
  refine gg_bipush C dX9_leastTake_0 kB_m6 ?_
  refine gg_istore_n C dX9_leastTake_2 rfl hn (by decide) (lv' := [(2, .int (-6)), (0, .ref (a 0)), (1, .int v1)]) rfl ?_
  refine gg_iload_n C dX9_leastTake_3 rfl 2 rfl ?_
  refine gg_iconst C dX9_leastTake_4 kI_2 ?_
  refine gg_idivK C dX9_leastTake_5 (by decide) ?_
  refine gg_bi (fun x1 => ?_)
  refine gg_istore_n C dX9_leastTake_6 rfl hn (by decide) (lv' := [(3, .int x1), (2, .int (-6)), (0, .ref (a 0)), (1, .int v1)]) rfl ?_
  refine gg_join (α := Int32 × Int32) 34 (fun z2 => wM T a m_beat m_nick m_owner m_place m_kept m_heard m_chosen m_minutes m_sightBeat m_sightOff m_sightIs m_sights m_pad m_padMany m_act m_who m_much m_acts m_heardMany m_wrongNow m_had m_badAct m_badWhy m_wrongAct m_wrongHeir m_odd m_span m_rise m_wins m_stored m_isStored m_storedAt m_isWriting) (fun z2 => [(0, .ref (a 0)), (1, .int v1), (2, .int z2.1), (3, .int z2.2)]) (fun z2 => []) (fun z2 => ?_) (fun K3 => ?_)
  · refine gg_iload_n C dX9_leastTake_34 rfl 2 rfl ?_
    exact gg_iret C M dX9_leastTake_35 ⟨rfl, rfl⟩
  · refine gg_sub [2, 3, 1, 0] rfl ?_
    exact g_X9_leastTake_L7 C hnn hn a v1 m_beat m_nick m_owner m_place m_kept m_heard m_chosen m_minutes m_sightBeat m_sightOff m_sightIs m_sights m_pad m_padMany m_act m_who m_much m_acts m_heardMany m_wrongNow m_had m_badAct m_badWhy m_wrongAct m_wrongHeir m_odd m_span m_rise m_wins m_stored m_isStored m_storedAt m_isWriting K3 600 (-6) x1
def f_X9_take_L27 (y1 : Int32) : Nat → Int32 → (Nat → Int32) → Option (Int32 × (Nat → Int32))
  | 0, _, _ => none
  | nn + 1, y3, m_wins => if y1 < y3 then some (y3, m_wins) else jn (f_X9_leastTake m_wins y3) (fun r3 => if r3 < 0 then gu y3 1000 (f_X9_take_L27 y1 nn (y3 + 1) (upd m_wins y3.toNatClampNeg (vp_nar .boolean 0))) else gu y3 1000 (f_X9_take_L27 y1 nn (y3 + 1) (upd m_wins y3.toNatClampNeg (vp_nar .boolean 1))))
set_option maxHeartbeats 4000000 in
set_option maxRecDepth 100000 in
theorem g_X9_take_L27 {X : KX} {D : va_G} {T : Nat → ClassId} {Q : Int32 × (Nat → Int32) → State → Prop} {n : Nat × Nat} (C : Cx X D T cX9_take RX9 { frames := 1, cells := 0, slots := 0, locals := 25 }) (hnn : n.1 ≤ 0 ∧ n.2 ≤ 0) (hn : kxL X = 4) (a : Nat → Nat)  (y1 : Int32) (y2 : Int32) (m_beat : Nat → Int32) (m_nick : Nat → Int32) (m_owner : Nat → Int32) (m_place : Nat → Int32) (m_kept : Nat → Int32) (m_heard : Nat → Int32) (m_chosen : Nat → Int32) (m_minutes : Int32) (m_sightBeat : Nat → Int32) (m_sightOff : Nat → Int32) (m_sightIs : Nat → Int32) (m_sights : Int32) (m_pad : Nat → Int32) (m_padMany : Int32) (m_act : Nat → Int32) (m_who : Nat → Int32) (m_much : Nat → Int32) (m_acts : Int32) (m_heardMany : Int32) (m_wrongNow : Int32) (m_had : Nat → Int32) (m_badAct : Int32) (m_badWhy : Int32) (m_wrongAct : Int32) (m_wrongHeir : Int32) (m_odd : Nat → Int32) (m_span : Nat → Int32) (m_rise : Nat → Int32) (m_stored : Nat → Int32) (m_isStored : Nat → Int32) (m_storedAt : Int32) (m_isWriting : Int32) (hk : ∀ v : Int32 × (Nat → Int32), GG X D Q n (wM T a m_beat m_nick m_owner m_place m_kept m_heard m_chosen m_minutes m_sightBeat m_sightOff m_sightIs m_sights m_pad m_padMany m_act m_who m_much m_acts m_heardMany m_wrongNow m_had m_badAct m_badWhy m_wrongAct m_wrongHeir m_odd m_span m_rise v.2 m_stored m_isStored m_storedAt m_isWriting) [(0, .ref (a 0)), (1, .int y1), (2, .int y2), (3, .int v.1)] 57 [] (some (v))) : ∀ (nn : Nat) (y3 : Int32) (m_wins : Nat → Int32), GG X D Q n (wM T a m_beat m_nick m_owner m_place m_kept m_heard m_chosen m_minutes m_sightBeat m_sightOff m_sightIs m_sights m_pad m_padMany m_act m_who m_much m_acts m_heardMany m_wrongNow m_had m_badAct m_badWhy m_wrongAct m_wrongHeir m_odd m_span m_rise m_wins m_stored m_isStored m_storedAt m_isWriting) [(0, .ref (a 0)), (1, .int y1), (2, .int y2), (3, .int y3)] 27 [] (f_X9_take_L27 y1 nn y3 m_wins) := by
  intro nn
  induction nn with
  | zero => intros; exact gg_none
  | succ nn ih =>
    intro y3 m_wins
    unfold f_X9_take_L27
    refine gg_iload_n C dX9_take_27 rfl 3 rfl ?_
    refine gg_iload_n C dX9_take_28 rfl 1 rfl ?_
    refine gg_icmp_gt C dX9_take_29 (tgt := 57) (by decide) (fun _ => ?_) (fun _ => ?_)
    · refine gg_sub [0, 1, 2, 3] rfl ?_
      exact hk (y3, m_wins)
    · refine gg_aload_n C dX9_take_32 rfl 0 rfl ?_
      refine gf_X9_64 C 0 rfl rfl dX9_take_33 ?_
      refine gg_iload_n C dX9_take_36 rfl 3 rfl ?_
      refine gg_aload_n C dX9_take_37 rfl 0 rfl ?_
      refine gg_iload_n C dX9_take_38 rfl 3 rfl ?_
      refine gg_callV C (fun l r h => c_X9_leastTake l D T a m_beat m_nick m_owner m_place m_kept m_heard m_chosen m_minutes m_sightBeat m_sightOff m_sightIs m_sights m_pad m_padMany m_act m_who m_much m_acts m_heardMany m_wrongNow m_had m_badAct m_badWhy m_wrongAct m_wrongHeir m_odd m_span m_rise m_wins m_stored m_isStored m_storedAt m_isWriting y3 r h) lk_X9_264 ⟨by decide, by decide⟩ hnn rfl (rest := [.int y3, .ref (a 19)]) rfl (Nat.le_of_ble_eq_true rfl) 0 rfl rfl dX9_take_39 (ws2 := fun r3 => wM T a m_beat m_nick m_owner m_place m_kept m_heard m_chosen m_minutes m_sightBeat m_sightOff m_sightIs m_sights m_pad m_padMany m_act m_who m_much m_acts m_heardMany m_wrongNow m_had m_badAct m_badWhy m_wrongAct m_wrongHeir m_odd m_span m_rise m_wins m_stored m_isStored m_storedAt m_isWriting) (cut_full (fun _ => rfl)) (st2 := fun r3 => [.int r3, .int y3, .ref (a 19)]) (fun _ => rfl) (fun r3 => ?_)
      refine gg_if_lt C dX9_take_42 (tgt := 49) (by decide) (fun _ => ?_) (fun _ => ?_)
      · refine gg_iconst C dX9_take_49 kI_0 ?_
        refine gg_zast C 19 rfl dX9_take_50 (ws' := wM T a m_beat m_nick m_owner m_place m_kept m_heard m_chosen m_minutes m_sightBeat m_sightOff m_sightIs m_sights m_pad m_padMany m_act m_who m_much m_acts m_heardMany m_wrongNow m_had m_badAct m_badWhy m_wrongAct m_wrongHeir m_odd m_span m_rise (upd m_wins y3.toNatClampNeg (vp_nar .boolean 0)) m_stored m_isStored m_storedAt m_isWriting) rfl ?_
        refine gg_iinc C dX9_take_51 (j := 3) rfl (v := y3 + 1) (by first | rfl | decide) hn (by decide) (lv' := [(3, .int (y3 + 1)), (0, .ref (a 0)), (1, .int y1), (2, .int y2)]) rfl ?_
        refine gg_goto C dX9_take_54 (tgt := 27) (by decide) ?_
        refine gg_sub [1, 2, 3, 0] rfl ?_
        exact ih (y3 + 1) (upd m_wins y3.toNatClampNeg (vp_nar .boolean 0))
      · refine gg_iconst C dX9_take_45 kI_1 ?_
        refine gg_goto C dX9_take_46 (tgt := 50) (by decide) ?_
        refine gg_zast C 19 rfl dX9_take_50 (ws' := wM T a m_beat m_nick m_owner m_place m_kept m_heard m_chosen m_minutes m_sightBeat m_sightOff m_sightIs m_sights m_pad m_padMany m_act m_who m_much m_acts m_heardMany m_wrongNow m_had m_badAct m_badWhy m_wrongAct m_wrongHeir m_odd m_span m_rise (upd m_wins y3.toNatClampNeg (vp_nar .boolean 1)) m_stored m_isStored m_storedAt m_isWriting) rfl ?_
        refine gg_iinc C dX9_take_51 (j := 3) rfl (v := y3 + 1) (by first | rfl | decide) hn (by decide) (lv' := [(3, .int (y3 + 1)), (0, .ref (a 0)), (1, .int y1), (2, .int y2)]) rfl ?_
        refine gg_goto C dX9_take_54 (tgt := 27) (by decide) ?_
        refine gg_sub [1, 2, 3, 0] rfl ?_
        exact ih (y3 + 1) (upd m_wins y3.toNatClampNeg (vp_nar .boolean 1))
def f_X9_take (m_wins : Nat → Int32) (v1 : Int32) (v2 : Int32) : Option (Int32 × (Nat → Int32)) := jn (f_X9_in v1.toInt64 1 999) (fun r1 => if r1 = 0 then some ((-2), m_wins) else jn (f_X9_in v2.toInt64 0 1) (fun r2 => if r2 = 0 then some ((-2), m_wins) else jn (α := Int32 × (Nat → Int32)) (f_X9_take_L27 v1 1100 1 m_wins) (fun z4 => if v2 = 1 then jn (f_X9_leastTake z4.2 v1) (fun r5 => some (r5, z4.2)) else gu v1 1000 (if z4.2 v1.toNatClampNeg = 0 then some (0, z4.2) else some (1, z4.2)))))
set_option maxHeartbeats 4000000 in
set_option maxRecDepth 100000 in
theorem c_X9_take (l : Launch) (D : va_G) (T : Nat → ClassId) (a : Nat → Nat) (m_beat : Nat → Int32) (m_nick : Nat → Int32) (m_owner : Nat → Int32) (m_place : Nat → Int32) (m_kept : Nat → Int32) (m_heard : Nat → Int32) (m_chosen : Nat → Int32) (m_minutes : Int32) (m_sightBeat : Nat → Int32) (m_sightOff : Nat → Int32) (m_sightIs : Nat → Int32) (m_sights : Int32) (m_pad : Nat → Int32) (m_padMany : Int32) (m_act : Nat → Int32) (m_who : Nat → Int32) (m_much : Nat → Int32) (m_acts : Int32) (m_heardMany : Int32) (m_wrongNow : Int32) (m_had : Nat → Int32) (m_badAct : Int32) (m_badWhy : Int32) (m_wrongAct : Int32) (m_wrongHeir : Int32) (m_odd : Nat → Int32) (m_span : Nat → Int32) (m_rise : Nat → Int32) (m_wins : Nat → Int32) (m_stored : Nat → Int32) (m_isStored : Nat → Int32) (m_storedAt : Int32) (m_isWriting : Int32) (v1 : Int32) (v2 : Int32) (r : Int32 × (Nat → Int32)) (h : f_X9_take m_wins v1 v2 = some r) : Kt l D T yX9_take cX9_take 4 (some .int) (1, 0, 0, 25) [.ref (a 0), .int v1, .int v2] (wM T a m_beat m_nick m_owner m_place m_kept m_heard m_chosen m_minutes m_sightBeat m_sightOff m_sightIs m_sights m_pad m_padMany m_act m_who m_much m_acts m_heardMany m_wrongNow m_had m_badAct m_badWhy m_wrongAct m_wrongHeir m_odd m_span m_rise m_wins m_stored m_isStored m_storedAt m_isWriting) (FF (fun (r : Int32 × (Nat → Int32)) => some (.int r.1)) (fun r => wM T a m_beat m_nick m_owner m_place m_kept m_heard m_chosen m_minutes m_sightBeat m_sightOff m_sightIs m_sights m_pad m_padMany m_act m_who m_much m_acts m_heardMany m_wrongNow m_had m_badAct m_badWhy m_wrongAct m_wrongHeir m_odd m_span m_rise r.2 m_stored m_isStored m_storedAt m_isWriting) r) := by
  refine kt_of (own := RX9) (nm := "take") (lv := [(0, .ref (a 0)), (1, .int v1), (2, .int v2)]) (by decide) rfl rfl rfl (Nat.le_of_ble_eq_true rfl) h (fun X hn C M => ?_)
  have hnn : ((0, 0) : Nat × Nat).1 ≤ 0 ∧ ((0, 0) : Nat × Nat).2 ≤ 0 := ⟨Nat.le_refl 0, Nat.le_refl 0⟩
  unfold f_X9_take
  refine gg_iload_n C dX9_take_0 rfl 1 rfl ?_
  refine gg_i2l C dX9_take_1 ?_
  refine gg_lconst C dX9_take_2 (v := 1) (by decide) ?_
  refine gg_ldc2 C tw_875 dX9_take_3 ?_
  refine gg_callS C (fun l r h => c_X9_in l D T v1.toInt64 1 999 r h) lk_X9_76 ⟨by decide, by decide⟩ hnn rfl (rest := []) rfl (Nat.le_of_ble_eq_true rfl) dX9_take_6 cut_none (st2 := fun r1 => [.int r1]) (fun _ => rfl) (fun r1 => ?_)
  refine gg_if_eq C dX9_take_9 (tgt := 22) (by decide) (fun _ => ?_) (fun _ => ?_)
  · refine gg_bipush C dX9_take_22 kB_m2 ?_
    exact gg_iret C M dX9_take_24 ⟨rfl, rfl⟩
  · refine gg_iload_n C dX9_take_12 rfl 2 rfl ?_
    refine gg_i2l C dX9_take_13 ?_
    refine gg_lconst C dX9_take_14 (v := 0) (by decide) ?_
    refine gg_lconst C dX9_take_15 (v := 1) (by decide) ?_
    refine gg_callS C (fun l r h => c_X9_in l D T v2.toInt64 0 1 r h) lk_X9_76 ⟨by decide, by decide⟩ hnn rfl (rest := []) rfl (Nat.le_of_ble_eq_true rfl) dX9_take_16 cut_none (st2 := fun r2 => [.int r2]) (fun _ => rfl) (fun r2 => ?_)
    refine gg_if_ne C dX9_take_19 (tgt := 25) (by decide) (fun _ => ?_) (fun _ => ?_)
    · refine gg_iconst C dX9_take_25 kI_1 ?_
      refine gg_istore_n C dX9_take_26 rfl hn (by decide) (lv' := [(3, .int 1), (0, .ref (a 0)), (1, .int v1), (2, .int v2)]) rfl ?_
      refine gg_join (α := Int32 × (Nat → Int32)) 57 (fun z4 => wM T a m_beat m_nick m_owner m_place m_kept m_heard m_chosen m_minutes m_sightBeat m_sightOff m_sightIs m_sights m_pad m_padMany m_act m_who m_much m_acts m_heardMany m_wrongNow m_had m_badAct m_badWhy m_wrongAct m_wrongHeir m_odd m_span m_rise z4.2 m_stored m_isStored m_storedAt m_isWriting) (fun z4 => [(0, .ref (a 0)), (1, .int v1), (2, .int v2), (3, .int z4.1)]) (fun z4 => []) (fun z4 => ?_) (fun K6 => ?_)
      · refine gg_iload_n C dX9_take_57 rfl 2 rfl ?_
        refine gg_iconst C dX9_take_58 kI_1 ?_
        refine gg_icmp_ne C dX9_take_59 (tgt := 70) (by decide) (fun _ => ?_) (fun _ => ?_)
        · refine gg_aload_n C dX9_take_70 rfl 0 rfl ?_
          refine gf_X9_64 C 0 rfl rfl dX9_take_71 ?_
          refine gg_iload_n C dX9_take_74 rfl 1 rfl ?_
          refine gg_zald C 19 rfl dX9_take_75 ?_
          refine gg_if_eq C dX9_take_76 (tgt := 83) (by decide) (fun _ => ?_) (fun _ => ?_)
          · refine gg_iconst C dX9_take_83 kI_0 ?_
            exact gg_iret C M dX9_take_84 ⟨rfl, rfl⟩
          · refine gg_iconst C dX9_take_79 kI_1 ?_
            refine gg_goto C dX9_take_80 (tgt := 84) (by decide) ?_
            exact gg_iret C M dX9_take_84 ⟨rfl, rfl⟩
        · refine gg_aload_n C dX9_take_62 rfl 0 rfl ?_
          refine gg_iload_n C dX9_take_63 rfl 1 rfl ?_
          refine gg_callV C (fun l r h => c_X9_leastTake l D T a m_beat m_nick m_owner m_place m_kept m_heard m_chosen m_minutes m_sightBeat m_sightOff m_sightIs m_sights m_pad m_padMany m_act m_who m_much m_acts m_heardMany m_wrongNow m_had m_badAct m_badWhy m_wrongAct m_wrongHeir m_odd m_span m_rise z4.2 m_stored m_isStored m_storedAt m_isWriting v1 r h) lk_X9_264 ⟨by decide, by decide⟩ hnn rfl (rest := []) rfl (Nat.le_of_ble_eq_true rfl) 0 rfl rfl dX9_take_64 (ws2 := fun r5 => wM T a m_beat m_nick m_owner m_place m_kept m_heard m_chosen m_minutes m_sightBeat m_sightOff m_sightIs m_sights m_pad m_padMany m_act m_who m_much m_acts m_heardMany m_wrongNow m_had m_badAct m_badWhy m_wrongAct m_wrongHeir m_odd m_span m_rise z4.2 m_stored m_isStored m_storedAt m_isWriting) (cut_full (fun _ => rfl)) (st2 := fun r5 => [.int r5]) (fun _ => rfl) (fun r5 => ?_)
          refine gg_goto C dX9_take_67 (tgt := 84) (by decide) ?_
          exact gg_iret C M dX9_take_84 ⟨rfl, rfl⟩
      · refine gg_sub [1, 2, 3, 0] rfl ?_
        exact g_X9_take_L27 C hnn hn a v1 v2 m_beat m_nick m_owner m_place m_kept m_heard m_chosen m_minutes m_sightBeat m_sightOff m_sightIs m_sights m_pad m_padMany m_act m_who m_much m_acts m_heardMany m_wrongNow m_had m_badAct m_badWhy m_wrongAct m_wrongHeir m_odd m_span m_rise m_stored m_isStored m_storedAt m_isWriting K6 1100 1 m_wins
    · refine gg_bipush C dX9_take_22 kB_m2 ?_
      exact gg_iret C M dX9_take_24 ⟨rfl, rfl⟩
def f_X9_pass (v1 : Int32) (v2 : Int32) (v3 : Int32) : Option (Int64) := jn (f_X9_in v1.toInt64 1 20) (fun r1 => if r1 = 0 then some (-1000000000000000002) else jn (f_X9_in v2.toInt64 0 (((v1 - 1 : Int32)).toInt64)) (fun r2 => if r2 = 0 then some (-1000000000000000002) else jn (f_X9_in v3.toInt64 0 1) (fun r3 => if r3 = 0 then some (-1000000000000000002) else jn (f_X9_likely v1 v2) (fun r4 => jn (f_X9_lowest r4 (v1.toInt64 * 232792560) v3) (fun r5 => some r5)))))
set_option maxHeartbeats 4000000 in
set_option maxRecDepth 100000 in
theorem c_X9_pass (l : Launch) (D : va_G) (T : Nat → ClassId) (a : Nat → Nat) (m_beat : Nat → Int32) (m_nick : Nat → Int32) (m_owner : Nat → Int32) (m_place : Nat → Int32) (m_kept : Nat → Int32) (m_heard : Nat → Int32) (m_chosen : Nat → Int32) (m_minutes : Int32) (m_sightBeat : Nat → Int32) (m_sightOff : Nat → Int32) (m_sightIs : Nat → Int32) (m_sights : Int32) (m_pad : Nat → Int32) (m_padMany : Int32) (m_act : Nat → Int32) (m_who : Nat → Int32) (m_much : Nat → Int32) (m_acts : Int32) (m_heardMany : Int32) (m_wrongNow : Int32) (m_had : Nat → Int32) (m_badAct : Int32) (m_badWhy : Int32) (m_wrongAct : Int32) (m_wrongHeir : Int32) (m_odd : Nat → Int32) (m_span : Nat → Int32) (m_rise : Nat → Int32) (m_wins : Nat → Int32) (m_stored : Nat → Int32) (m_isStored : Nat → Int32) (m_storedAt : Int32) (m_isWriting : Int32) (v1 : Int32) (v2 : Int32) (v3 : Int32) (r : Int64) (h : f_X9_pass v1 v2 v3 = some r) : Kt l D T yX9_pass cX9_pass 4 (some .long) (1, 0, 0, 30) [.ref (a 0), .int v1, .int v2, .int v3] (wM T a m_beat m_nick m_owner m_place m_kept m_heard m_chosen m_minutes m_sightBeat m_sightOff m_sightIs m_sights m_pad m_padMany m_act m_who m_much m_acts m_heardMany m_wrongNow m_had m_badAct m_badWhy m_wrongAct m_wrongHeir m_odd m_span m_rise m_wins m_stored m_isStored m_storedAt m_isWriting) (FF (fun (r : Int64) => some (.long r)) (fun r => wM T a m_beat m_nick m_owner m_place m_kept m_heard m_chosen m_minutes m_sightBeat m_sightOff m_sightIs m_sights m_pad m_padMany m_act m_who m_much m_acts m_heardMany m_wrongNow m_had m_badAct m_badWhy m_wrongAct m_wrongHeir m_odd m_span m_rise m_wins m_stored m_isStored m_storedAt m_isWriting) r) := by
  refine kt_of (own := RX9) (nm := "pass") (lv := [(0, .ref (a 0)), (1, .int v1), (2, .int v2), (3, .int v3)]) (by decide) rfl rfl rfl (Nat.le_of_ble_eq_true rfl) h (fun X hn C M => ?_)
  have hnn : ((0, 0) : Nat × Nat).1 ≤ 0 ∧ ((0, 0) : Nat × Nat).2 ≤ 0 := ⟨Nat.le_refl 0, Nat.le_refl 0⟩
  unfold f_X9_pass
  refine gg_iload_n C dX9_pass_0 rfl 1 rfl ?_
  refine gg_i2l C dX9_pass_1 ?_
  refine gg_lconst C dX9_pass_2 (v := 1) (by decide) ?_
  refine gg_ldc2 C tw_884 dX9_pass_3 ?_
  refine gg_callS C (fun l r h => c_X9_in l D T v1.toInt64 1 20 r h) lk_X9_76 ⟨by decide, by decide⟩ hnn rfl (rest := []) rfl (Nat.le_of_ble_eq_true rfl) dX9_pass_6 cut_none (st2 := fun r1 => [.int r1]) (fun _ => rfl) (fun r1 => ?_)
  refine gg_if_eq C dX9_pass_9 (tgt := 35) (by decide) (fun _ => ?_) (fun _ => ?_)
  · refine gg_ldc2 C tw_803 dX9_pass_35 ?_
    exact gg_lret C M dX9_pass_38 ⟨rfl, rfl⟩
  · refine gg_iload_n C dX9_pass_12 rfl 2 rfl ?_
    refine gg_i2l C dX9_pass_13 ?_
    refine gg_lconst C dX9_pass_14 (v := 0) (by decide) ?_
    refine gg_iload_n C dX9_pass_15 rfl 1 rfl ?_
    refine gg_iconst C dX9_pass_16 kI_1 ?_
    refine gg_isub C dX9_pass_17 ?_
    refine gg_i2l C dX9_pass_18 ?_
    refine gg_callS C (fun l r h => c_X9_in l D T v2.toInt64 0 (((v1 - 1 : Int32)).toInt64) r h) lk_X9_76 ⟨by decide, by decide⟩ hnn rfl (rest := []) rfl (Nat.le_of_ble_eq_true rfl) dX9_pass_19 cut_none (st2 := fun r2 => [.int r2]) (fun _ => rfl) (fun r2 => ?_)
    refine gg_if_eq C dX9_pass_22 (tgt := 35) (by decide) (fun _ => ?_) (fun _ => ?_)
    · refine gg_ldc2 C tw_803 dX9_pass_35 ?_
      exact gg_lret C M dX9_pass_38 ⟨rfl, rfl⟩
    · refine gg_iload_n C dX9_pass_25 rfl 3 rfl ?_
      refine gg_i2l C dX9_pass_26 ?_
      refine gg_lconst C dX9_pass_27 (v := 0) (by decide) ?_
      refine gg_lconst C dX9_pass_28 (v := 1) (by decide) ?_
      refine gg_callS C (fun l r h => c_X9_in l D T v3.toInt64 0 1 r h) lk_X9_76 ⟨by decide, by decide⟩ hnn rfl (rest := []) rfl (Nat.le_of_ble_eq_true rfl) dX9_pass_29 cut_none (st2 := fun r3 => [.int r3]) (fun _ => rfl) (fun r3 => ?_)
      refine gg_if_ne C dX9_pass_32 (tgt := 39) (by decide) (fun _ => ?_) (fun _ => ?_)
      · refine gg_iload_n C dX9_pass_39 rfl 1 rfl ?_
        refine gg_iload_n C dX9_pass_40 rfl 2 rfl ?_
        refine gg_callS C (fun l r h => c_X9_likely l D T v1 v2 r h) lk_X9_271 ⟨by decide, by decide⟩ hnn rfl (rest := []) rfl (Nat.le_of_ble_eq_true rfl) dX9_pass_41 cut_none (st2 := fun r4 => [.long r4]) (fun _ => rfl) (fun r4 => ?_)
        refine gg_iload_n C dX9_pass_44 rfl 1 rfl ?_
        refine gg_i2l C dX9_pass_45 ?_
        refine gg_ldc2 C tw_888 dX9_pass_46 ?_
        refine gg_lmul C dX9_pass_49 ?_
        refine gg_iload_n C dX9_pass_50 rfl 3 rfl ?_
        refine gg_callS C (fun l r h => c_X9_lowest l D T r4 (v1.toInt64 * 232792560) v3 r h) lk_X9_231 ⟨by decide, by decide⟩ hnn rfl (rest := []) rfl (Nat.le_of_ble_eq_true rfl) dX9_pass_51 cut_none (st2 := fun r5 => [.long r5]) (fun _ => rfl) (fun r5 => ?_)
        exact gg_lret C M dX9_pass_54 ⟨rfl, rfl⟩
      · refine gg_ldc2 C tw_803 dX9_pass_35 ?_
        exact gg_lret C M dX9_pass_38 ⟨rfl, rfl⟩
def f_X9_passes_L19 (y1 : Int32) : Nat → Int32 → Int32 → Option (Int32 × Int32)
  | 0, _, _ => none
  | nn + 1, y2, y3 => if y1 ≤ y3 then some (y2, y3) else jn (f_X9_likely y1 y3) (fun r2 => jn (f_X9_likely y1 y2) (fun r3 => if lg_cmp r2 r3 ≤ 0 then f_X9_passes_L19 y1 nn y2 (y3 + 1) else f_X9_passes_L19 y1 nn y3 (y3 + 1)))
set_option maxHeartbeats 4000000 in
set_option maxRecDepth 100000 in
theorem g_X9_passes_L19 {X : KX} {D : va_G} {T : Nat → ClassId} {Q : Int32 × Int32 → State → Prop} {n : Nat × Nat} (C : Cx X D T cX9_passes RX9 { frames := 1, cells := 0, slots := 0, locals := 25 }) (hnn : n.1 ≤ 0 ∧ n.2 ≤ 0) (hn : kxL X = 4) (a : Nat → Nat)  (y1 : Int32) (m_beat : Nat → Int32) (m_nick : Nat → Int32) (m_owner : Nat → Int32) (m_place : Nat → Int32) (m_kept : Nat → Int32) (m_heard : Nat → Int32) (m_chosen : Nat → Int32) (m_minutes : Int32) (m_sightBeat : Nat → Int32) (m_sightOff : Nat → Int32) (m_sightIs : Nat → Int32) (m_sights : Int32) (m_pad : Nat → Int32) (m_padMany : Int32) (m_act : Nat → Int32) (m_who : Nat → Int32) (m_much : Nat → Int32) (m_acts : Int32) (m_heardMany : Int32) (m_wrongNow : Int32) (m_had : Nat → Int32) (m_badAct : Int32) (m_badWhy : Int32) (m_wrongAct : Int32) (m_wrongHeir : Int32) (m_odd : Nat → Int32) (m_span : Nat → Int32) (m_rise : Nat → Int32) (m_wins : Nat → Int32) (m_stored : Nat → Int32) (m_isStored : Nat → Int32) (m_storedAt : Int32) (m_isWriting : Int32) (hk : ∀ v : Int32 × Int32, GG X D Q n (wM T a m_beat m_nick m_owner m_place m_kept m_heard m_chosen m_minutes m_sightBeat m_sightOff m_sightIs m_sights m_pad m_padMany m_act m_who m_much m_acts m_heardMany m_wrongNow m_had m_badAct m_badWhy m_wrongAct m_wrongHeir m_odd m_span m_rise m_wins m_stored m_isStored m_storedAt m_isWriting) [(0, .ref (a 0)), (1, .int y1), (2, .int v.1), (3, .int v.2)] 50 [] (some (v))) : ∀ (nn : Nat) (y2 : Int32) (y3 : Int32), GG X D Q n (wM T a m_beat m_nick m_owner m_place m_kept m_heard m_chosen m_minutes m_sightBeat m_sightOff m_sightIs m_sights m_pad m_padMany m_act m_who m_much m_acts m_heardMany m_wrongNow m_had m_badAct m_badWhy m_wrongAct m_wrongHeir m_odd m_span m_rise m_wins m_stored m_isStored m_storedAt m_isWriting) [(0, .ref (a 0)), (1, .int y1), (2, .int y2), (3, .int y3)] 19 [] (f_X9_passes_L19 y1 nn y2 y3) := by
  intro nn
  induction nn with
  | zero => intros; exact gg_none
  | succ nn ih =>
    intro y2 y3
    unfold f_X9_passes_L19
    refine gg_iload_n C dX9_passes_19 rfl 3 rfl ?_
    refine gg_iload_n C dX9_passes_20 rfl 1 rfl ?_
    refine gg_icmp_ge C dX9_passes_21 (tgt := 50) (by decide) (fun _ => ?_) (fun _ => ?_)
    · refine gg_sub [0, 1, 2, 3] rfl ?_
      exact hk (y2, y3)
    · refine gg_iload_n C dX9_passes_24 rfl 1 rfl ?_
      refine gg_iload_n C dX9_passes_25 rfl 3 rfl ?_
      refine gg_callS C (fun l r h => c_X9_likely l D T y1 y3 r h) lk_X9_271 ⟨by decide, by decide⟩ hnn rfl (rest := []) rfl (Nat.le_of_ble_eq_true rfl) dX9_passes_26 cut_none (st2 := fun r2 => [.long r2]) (fun _ => rfl) (fun r2 => ?_)
      refine gg_iload_n C dX9_passes_29 rfl 1 rfl ?_
      refine gg_iload_n C dX9_passes_30 rfl 2 rfl ?_
      refine gg_callS C (fun l r h => c_X9_likely l D T y1 y2 r h) lk_X9_271 ⟨by decide, by decide⟩ hnn rfl (rest := [.long r2]) rfl (Nat.le_of_ble_eq_true rfl) dX9_passes_31 cut_none (st2 := fun r3 => [.long r3, .long r2]) (fun _ => rfl) (fun r3 => ?_)
      refine gg_lcmp C dX9_passes_34 ?_
      refine gg_if_le C dX9_passes_35 (tgt := 42) (by decide) (fun _ => ?_) (fun _ => ?_)
      · refine gg_iload_n C dX9_passes_42 rfl 2 rfl ?_
        refine gg_istore_n C dX9_passes_43 rfl hn (by decide) (lv' := [(2, .int y2), (0, .ref (a 0)), (1, .int y1), (3, .int y3)]) rfl ?_
        refine gg_iinc C dX9_passes_44 (j := 3) rfl (v := y3 + 1) (by first | rfl | decide) hn (by decide) (lv' := [(3, .int (y3 + 1)), (2, .int y2), (0, .ref (a 0)), (1, .int y1)]) rfl ?_
        refine gg_goto C dX9_passes_47 (tgt := 19) (by decide) ?_
        refine gg_sub [2, 3, 1, 0] rfl ?_
        exact ih y2 (y3 + 1)
      · refine gg_iload_n C dX9_passes_38 rfl 3 rfl ?_
        refine gg_goto C dX9_passes_39 (tgt := 43) (by decide) ?_
        refine gg_istore_n C dX9_passes_43 rfl hn (by decide) (lv' := [(2, .int y3), (0, .ref (a 0)), (1, .int y1), (3, .int y3)]) rfl ?_
        refine gg_iinc C dX9_passes_44 (j := 3) rfl (v := y3 + 1) (by first | rfl | decide) hn (by decide) (lv' := [(3, .int (y3 + 1)), (2, .int y3), (0, .ref (a 0)), (1, .int y1)]) rfl ?_
        refine gg_goto C dX9_passes_47 (tgt := 19) (by decide) ?_
        refine gg_sub [2, 3, 1, 0] rfl ?_
        exact ih y3 (y3 + 1)
def f_X9_passes (v1 : Int32) : Option (Int32) := jn (f_X9_in v1.toInt64 1 20) (fun r1 => if r1 = 0 then some (-2) else jn (α := Int32 × Int32) (f_X9_passes_L19 v1 100 0 1) (fun z4 => some z4.1))
set_option maxHeartbeats 4000000 in
set_option maxRecDepth 100000 in
theorem c_X9_passes (l : Launch) (D : va_G) (T : Nat → ClassId) (a : Nat → Nat) (m_beat : Nat → Int32) (m_nick : Nat → Int32) (m_owner : Nat → Int32) (m_place : Nat → Int32) (m_kept : Nat → Int32) (m_heard : Nat → Int32) (m_chosen : Nat → Int32) (m_minutes : Int32) (m_sightBeat : Nat → Int32) (m_sightOff : Nat → Int32) (m_sightIs : Nat → Int32) (m_sights : Int32) (m_pad : Nat → Int32) (m_padMany : Int32) (m_act : Nat → Int32) (m_who : Nat → Int32) (m_much : Nat → Int32) (m_acts : Int32) (m_heardMany : Int32) (m_wrongNow : Int32) (m_had : Nat → Int32) (m_badAct : Int32) (m_badWhy : Int32) (m_wrongAct : Int32) (m_wrongHeir : Int32) (m_odd : Nat → Int32) (m_span : Nat → Int32) (m_rise : Nat → Int32) (m_wins : Nat → Int32) (m_stored : Nat → Int32) (m_isStored : Nat → Int32) (m_storedAt : Int32) (m_isWriting : Int32) (v1 : Int32) (r : Int32) (h : f_X9_passes v1 = some r) : Kt l D T yX9_passes cX9_passes 4 (some .int) (1, 0, 0, 25) [.ref (a 0), .int v1] (wM T a m_beat m_nick m_owner m_place m_kept m_heard m_chosen m_minutes m_sightBeat m_sightOff m_sightIs m_sights m_pad m_padMany m_act m_who m_much m_acts m_heardMany m_wrongNow m_had m_badAct m_badWhy m_wrongAct m_wrongHeir m_odd m_span m_rise m_wins m_stored m_isStored m_storedAt m_isWriting) (FF (fun (r : Int32) => some (.int r)) (fun r => wM T a m_beat m_nick m_owner m_place m_kept m_heard m_chosen m_minutes m_sightBeat m_sightOff m_sightIs m_sights m_pad m_padMany m_act m_who m_much m_acts m_heardMany m_wrongNow m_had m_badAct m_badWhy m_wrongAct m_wrongHeir m_odd m_span m_rise m_wins m_stored m_isStored m_storedAt m_isWriting) r) := by
  refine kt_of (own := RX9) (nm := "passes") (lv := [(0, .ref (a 0)), (1, .int v1)]) (by decide) rfl rfl rfl (Nat.le_of_ble_eq_true rfl) h (fun X hn C M => ?_)
  have hnn : ((0, 0) : Nat × Nat).1 ≤ 0 ∧ ((0, 0) : Nat × Nat).2 ≤ 0 := ⟨Nat.le_refl 0, Nat.le_refl 0⟩
  unfold f_X9_passes
  refine gg_iload_n C dX9_passes_0 rfl 1 rfl ?_
  refine gg_i2l C dX9_passes_1 ?_
  refine gg_lconst C dX9_passes_2 (v := 1) (by decide) ?_
  refine gg_ldc2 C tw_884 dX9_passes_3 ?_
  refine gg_callS C (fun l r h => c_X9_in l D T v1.toInt64 1 20 r h) lk_X9_76 ⟨by decide, by decide⟩ hnn rfl (rest := []) rfl (Nat.le_of_ble_eq_true rfl) dX9_passes_6 cut_none (st2 := fun r1 => [.int r1]) (fun _ => rfl) (fun r1 => ?_)
  refine gg_if_ne C dX9_passes_9 (tgt := 15) (by decide) (fun _ => ?_) (fun _ => ?_)
  · refine gg_iconst C dX9_passes_15 kI_0 ?_
    refine gg_istore_n C dX9_passes_16 rfl hn (by decide) (lv' := [(2, .int 0), (0, .ref (a 0)), (1, .int v1)]) rfl ?_
    refine gg_iconst C dX9_passes_17 kI_1 ?_
    refine gg_istore_n C dX9_passes_18 rfl hn (by decide) (lv' := [(3, .int 1), (2, .int 0), (0, .ref (a 0)), (1, .int v1)]) rfl ?_
    refine gg_join (α := Int32 × Int32) 50 (fun z4 => wM T a m_beat m_nick m_owner m_place m_kept m_heard m_chosen m_minutes m_sightBeat m_sightOff m_sightIs m_sights m_pad m_padMany m_act m_who m_much m_acts m_heardMany m_wrongNow m_had m_badAct m_badWhy m_wrongAct m_wrongHeir m_odd m_span m_rise m_wins m_stored m_isStored m_storedAt m_isWriting) (fun z4 => [(0, .ref (a 0)), (1, .int v1), (2, .int z4.1), (3, .int z4.2)]) (fun z4 => []) (fun z4 => ?_) (fun K5 => ?_)
    · refine gg_iload_n C dX9_passes_50 rfl 2 rfl ?_
      exact gg_iret C M dX9_passes_51 ⟨rfl, rfl⟩
    · refine gg_sub [2, 3, 1, 0] rfl ?_
      exact g_X9_passes_L19 C hnn hn a v1 m_beat m_nick m_owner m_place m_kept m_heard m_chosen m_minutes m_sightBeat m_sightOff m_sightIs m_sights m_pad m_padMany m_act m_who m_much m_acts m_heardMany m_wrongNow m_had m_badAct m_badWhy m_wrongAct m_wrongHeir m_odd m_span m_rise m_wins m_stored m_isStored m_storedAt m_isWriting K5 100 0 1
  · refine gg_bipush C dX9_passes_12 kB_m2 ?_
    exact gg_iret C M dX9_passes_14 ⟨rfl, rfl⟩
def f_X9_hour_L49 (y2 : Int32) (m_kept : Nat → Int32) : Nat → Int32 → Int32 → (Nat → Int32) → (Nat → Int32) → (Nat → Int32) → (Nat → Int32) → (Nat → Int32) → (Nat → Int32) → Int32 → Int32 → Int32 → Option (Int32 × Int32 × (Nat → Int32) × (Nat → Int32) × (Nat → Int32) × (Nat → Int32) × (Nat → Int32) × (Nat → Int32) × Int32 × Int32 × Int32)
  | 0, _, _, _, _, _, _, _, _, _, _, _ => none
  | nn + 1, y4, y5, m_beat, m_nick, m_owner, m_place, m_heard, m_chosen, m_minutes, m_heardMany, m_wrongNow => if y2 ≤ y5 then some (y4, y5, m_beat, m_nick, m_owner, m_place, m_heard, m_chosen, m_minutes, m_heardMany, m_wrongNow) else bi ((((75 * y4.toInt64) + 74) - ((75 * y4.toInt64) + 74) / 65537 * 65537 : Int64).toInt32) (fun x5 => bi (x5 / 48) (fun x6 => jn (f_X9_actBy ((x5 / 6) - (x5 / 6) / 8 * 8) x6) (fun r7 => bi (1 + (x6 - x6 / 9 * 9)) (fun x8 => jn (f_X9_whyNot m_beat m_place m_chosen m_minutes r7 (x5 - x5 / 6 * 6) x8) (fun r9 => if r9 = 0 then jn (f_X9_happen m_beat m_nick m_owner m_place m_kept m_heard m_chosen m_minutes m_heardMany r7 (x5 - x5 / 6 * 6) x8) (fun r10 => f_X9_hour_L49 y2 m_kept nn x5 (y5 + 1) r10.1 r10.2.1 r10.2.2.1 r10.2.2.2.1 r10.2.2.2.2.1 r10.2.2.2.2.2.1 r10.2.2.2.2.2.2.1 r10.2.2.2.2.2.2.2.1 r10.2.2.2.2.2.2.2.2) else f_X9_hour_L49 y2 m_kept nn x5 (y5 + 1) m_beat m_nick m_owner m_place m_heard m_chosen m_minutes m_heardMany m_wrongNow)))))
set_option maxHeartbeats 4000000 in
set_option maxRecDepth 100000 in
theorem g_X9_hour_L49 {X : KX} {D : va_G} {T : Nat → ClassId} {Q : Int32 × Int32 × (Nat → Int32) × (Nat → Int32) × (Nat → Int32) × (Nat → Int32) × (Nat → Int32) × (Nat → Int32) × Int32 × Int32 × Int32 → State → Prop} {n : Nat × Nat} (C : Cx X D T cX9_hour RX9 { frames := 3, cells := 0, slots := 0, locals := 68 }) (hnn : n.1 ≤ 0 ∧ n.2 ≤ 0) (hn : kxL X = 9) (a : Nat → Nat)  (y1 : Int32) (y2 : Int32) (y3 : Int32) (m_kept : Nat → Int32) (m_sightBeat : Nat → Int32) (m_sightOff : Nat → Int32) (m_sightIs : Nat → Int32) (m_sights : Int32) (m_pad : Nat → Int32) (m_padMany : Int32) (m_act : Nat → Int32) (m_who : Nat → Int32) (m_much : Nat → Int32) (m_acts : Int32) (m_had : Nat → Int32) (m_badAct : Int32) (m_badWhy : Int32) (m_wrongAct : Int32) (m_wrongHeir : Int32) (m_odd : Nat → Int32) (m_span : Nat → Int32) (m_rise : Nat → Int32) (m_wins : Nat → Int32) (m_stored : Nat → Int32) (m_isStored : Nat → Int32) (m_storedAt : Int32) (m_isWriting : Int32) (hk : ∀ v : Int32 × Int32 × (Nat → Int32) × (Nat → Int32) × (Nat → Int32) × (Nat → Int32) × (Nat → Int32) × (Nat → Int32) × Int32 × Int32 × Int32, GG X D Q n (wM T a v.2.2.1 v.2.2.2.1 v.2.2.2.2.1 v.2.2.2.2.2.1 m_kept v.2.2.2.2.2.2.1 v.2.2.2.2.2.2.2.1 v.2.2.2.2.2.2.2.2.1 m_sightBeat m_sightOff m_sightIs m_sights m_pad m_padMany m_act m_who m_much m_acts v.2.2.2.2.2.2.2.2.2.1 v.2.2.2.2.2.2.2.2.2.2 m_had m_badAct m_badWhy m_wrongAct m_wrongHeir m_odd m_span m_rise m_wins m_stored m_isStored m_storedAt m_isWriting) [(0, .ref (a 0)), (1, .int y1), (2, .int y2), (3, .int y3), (4, .int v.1), (5, .int v.2.1)] 139 [] (some (v))) : ∀ (nn : Nat) (y4 : Int32) (y5 : Int32) (m_beat : Nat → Int32) (m_nick : Nat → Int32) (m_owner : Nat → Int32) (m_place : Nat → Int32) (m_heard : Nat → Int32) (m_chosen : Nat → Int32) (m_minutes : Int32) (m_heardMany : Int32) (m_wrongNow : Int32), GG X D Q n (wM T a m_beat m_nick m_owner m_place m_kept m_heard m_chosen m_minutes m_sightBeat m_sightOff m_sightIs m_sights m_pad m_padMany m_act m_who m_much m_acts m_heardMany m_wrongNow m_had m_badAct m_badWhy m_wrongAct m_wrongHeir m_odd m_span m_rise m_wins m_stored m_isStored m_storedAt m_isWriting) [(0, .ref (a 0)), (1, .int y1), (2, .int y2), (3, .int y3), (4, .int y4), (5, .int y5)] 49 [] (f_X9_hour_L49 y2 m_kept nn y4 y5 m_beat m_nick m_owner m_place m_heard m_chosen m_minutes m_heardMany m_wrongNow) := by
  intro nn
  induction nn with
  | zero => intros; exact gg_none
  | succ nn ih =>
    intro y4 y5 m_beat m_nick m_owner m_place m_heard m_chosen m_minutes m_heardMany m_wrongNow
    unfold f_X9_hour_L49
    refine gg_iload C dX9_hour_49 5 rfl ?_
    refine gg_iload_n C dX9_hour_51 rfl 2 rfl ?_
    refine gg_icmp_ge C dX9_hour_52 (tgt := 139) (by decide) (fun _ => ?_) (fun _ => ?_)
    · refine gg_sub [0, 1, 2, 3, 4, 5] rfl ?_
      exact hk (y4, y5, m_beat, m_nick, m_owner, m_place, m_heard, m_chosen, m_minutes, m_heardMany, m_wrongNow)
    · refine gg_ldc2 C tw_899 dX9_hour_55 ?_
      refine gg_iload C dX9_hour_58 4 rfl ?_
      refine gg_i2l C dX9_hour_60 ?_
      refine gg_lmul C dX9_hour_61 ?_
      refine gg_ldc2 C tw_900 dX9_hour_62 ?_
      refine gg_ladd C dX9_hour_65 ?_
      refine gg_ldc2 C tw_901 dX9_hour_66 ?_
      refine gg_lremK C dX9_hour_69 (by decide) ?_
      refine gg_l2i C dX9_hour_70 ?_
      refine gg_bi (fun x5 => ?_)
      refine gg_istore C dX9_hour_71 hn (by decide) (lv' := [(4, .int x5), (0, .ref (a 0)), (1, .int y1), (2, .int y2), (3, .int y3), (5, .int y5)]) rfl ?_
      refine gg_iload C dX9_hour_73 0 rfl ?_
      refine gg_bipush C dX9_hour_75 kB_48 ?_
      refine gg_idivK C dX9_hour_77 (by decide) ?_
      refine gg_bi (fun x6 => ?_)
      refine gg_istore C dX9_hour_78 hn (by decide) (lv' := [(6, .int x6), (4, .int x5), (0, .ref (a 0)), (1, .int y1), (2, .int y2), (3, .int y3), (5, .int y5)]) rfl ?_
      refine gg_iload C dX9_hour_80 1 rfl ?_
      refine gg_bipush C dX9_hour_82 kB_6 ?_
      refine gg_idivK C dX9_hour_84 (by decide) ?_
      refine gg_bipush C dX9_hour_85 kB_8 ?_
      refine gg_iremK C dX9_hour_87 (by decide) ?_
      refine gg_iload C dX9_hour_88 0 rfl ?_
      refine gg_callS C (fun l r h => c_X9_actBy l D T ((x5 / 6) - (x5 / 6) / 8 * 8) x6 r h) lk_X9_285 ⟨by decide, by decide⟩ hnn rfl (rest := []) rfl (Nat.le_of_ble_eq_true rfl) dX9_hour_90 cut_none (st2 := fun r7 => [.int r7]) (fun _ => rfl) (fun r7 => ?_)
      refine gg_istore C dX9_hour_93 hn (by decide) (lv' := [(7, .int r7), (6, .int x6), (4, .int x5), (0, .ref (a 0)), (1, .int y1), (2, .int y2), (3, .int y3), (5, .int y5)]) rfl ?_
      refine gg_iconst C dX9_hour_95 kI_1 ?_
      refine gg_iload C dX9_hour_96 1 rfl ?_
      refine gg_bipush C dX9_hour_98 kB_9 ?_
      refine gg_iremK C dX9_hour_100 (by decide) ?_
      refine gg_iadd C dX9_hour_101 ?_
      refine gg_bi (fun x8 => ?_)
      refine gg_istore C dX9_hour_102 hn (by decide) (lv' := [(8, .int x8), (7, .int r7), (6, .int x6), (4, .int x5), (0, .ref (a 0)), (1, .int y1), (2, .int y2), (3, .int y3), (5, .int y5)]) rfl ?_
      refine gg_aload_n C dX9_hour_104 rfl 4 rfl ?_
      refine gg_iload C dX9_hour_105 1 rfl ?_
      refine gg_iload C dX9_hour_107 3 rfl ?_
      refine gg_bipush C dX9_hour_109 kB_6 ?_
      refine gg_iremK C dX9_hour_111 (by decide) ?_
      refine gg_iload C dX9_hour_112 0 rfl ?_
      refine gg_callV C (fun l r h => c_X9_whyNot l D T a m_beat m_nick m_owner m_place m_kept m_heard m_chosen m_minutes m_sightBeat m_sightOff m_sightIs m_sights m_pad m_padMany m_act m_who m_much m_acts m_heardMany m_wrongNow m_had m_badAct m_badWhy m_wrongAct m_wrongHeir m_odd m_span m_rise m_wins m_stored m_isStored m_storedAt m_isWriting r7 (x5 - x5 / 6 * 6) x8 r h) lk_X9_173 ⟨by decide, by decide⟩ hnn rfl (rest := []) rfl (Nat.le_of_ble_eq_true rfl) 0 rfl rfl dX9_hour_114 (ws2 := fun r9 => wM T a m_beat m_nick m_owner m_place m_kept m_heard m_chosen m_minutes m_sightBeat m_sightOff m_sightIs m_sights m_pad m_padMany m_act m_who m_much m_acts m_heardMany m_wrongNow m_had m_badAct m_badWhy m_wrongAct m_wrongHeir m_odd m_span m_rise m_wins m_stored m_isStored m_storedAt m_isWriting) (cut_full (fun _ => rfl)) (st2 := fun r9 => [.int r9]) (fun _ => rfl) (fun r9 => ?_)
      refine gg_if_ne C dX9_hour_117 (tgt := 133) (by decide) (fun _ => ?_) (fun _ => ?_)
      · refine gg_iinc C dX9_hour_133 (j := 8) rfl (v := y5 + 1) (by first | rfl | decide) hn (by decide) (lv' := [(5, .int (y5 + 1)), (8, .int x8), (7, .int r7), (6, .int x6), (4, .int x5), (0, .ref (a 0)), (1, .int y1), (2, .int y2), (3, .int y3)]) rfl ?_
        refine gg_goto C dX9_hour_136 (tgt := 49) (by decide) ?_
        refine gg_sub [5, 6, 7, 8, 4, 0] rfl ?_
        exact ih x5 (y5 + 1) m_beat m_nick m_owner m_place m_heard m_chosen m_minutes m_heardMany m_wrongNow
      · refine gg_aload_n C dX9_hour_120 rfl 4 rfl ?_
        refine gg_iload C dX9_hour_121 1 rfl ?_
        refine gg_iload C dX9_hour_123 3 rfl ?_
        refine gg_bipush C dX9_hour_125 kB_6 ?_
        refine gg_iremK C dX9_hour_127 (by decide) ?_
        refine gg_iload C dX9_hour_128 0 rfl ?_
        refine gg_callV C (fun l r h => c_X9_happen l D T a m_beat m_nick m_owner m_place m_kept m_heard m_chosen m_minutes m_sightBeat m_sightOff m_sightIs m_sights m_pad m_padMany m_act m_who m_much m_acts m_heardMany m_wrongNow m_had m_badAct m_badWhy m_wrongAct m_wrongHeir m_odd m_span m_rise m_wins m_stored m_isStored m_storedAt m_isWriting r7 (x5 - x5 / 6 * 6) x8 r h) lk_X9_157 ⟨by decide, by decide⟩ hnn rfl (rest := []) rfl (Nat.le_of_ble_eq_true rfl) 0 rfl rfl dX9_hour_130 (ws2 := fun r10 => wM T a r10.1 r10.2.1 r10.2.2.1 r10.2.2.2.1 m_kept r10.2.2.2.2.1 r10.2.2.2.2.2.1 r10.2.2.2.2.2.2.1 m_sightBeat m_sightOff m_sightIs m_sights m_pad m_padMany m_act m_who m_much m_acts r10.2.2.2.2.2.2.2.1 r10.2.2.2.2.2.2.2.2 m_had m_badAct m_badWhy m_wrongAct m_wrongHeir m_odd m_span m_rise m_wins m_stored m_isStored m_storedAt m_isWriting) (cut_full (fun _ => rfl)) (st2 := fun r10 => []) (fun _ => rfl) (fun r10 => ?_)
        refine gg_iinc C dX9_hour_133 (j := 8) rfl (v := y5 + 1) (by first | rfl | decide) hn (by decide) (lv' := [(5, .int (y5 + 1)), (8, .int x8), (7, .int r7), (6, .int x6), (4, .int x5), (0, .ref (a 0)), (1, .int y1), (2, .int y2), (3, .int y3)]) rfl ?_
        refine gg_goto C dX9_hour_136 (tgt := 49) (by decide) ?_
        refine gg_sub [5, 6, 7, 8, 4, 0] rfl ?_
        exact ih x5 (y5 + 1) r10.1 r10.2.1 r10.2.2.1 r10.2.2.2.1 r10.2.2.2.2.1 r10.2.2.2.2.2.1 r10.2.2.2.2.2.2.1 r10.2.2.2.2.2.2.2.1 r10.2.2.2.2.2.2.2.2
def f_X9_hour (m_beat : Nat → Int32) (m_nick : Nat → Int32) (m_owner : Nat → Int32) (m_place : Nat → Int32) (m_kept : Nat → Int32) (m_heard : Nat → Int32) (m_chosen : Nat → Int32) (m_minutes : Int32) (m_heardMany : Int32) (m_wrongNow : Int32) (m_had : Nat → Int32) (v1 : Int32) (v2 : Int32) (v3 : Int32) : Option (Int32 × (Nat → Int32) × (Nat → Int32) × (Nat → Int32) × (Nat → Int32) × (Nat → Int32) × (Nat → Int32) × Int32 × Int32 × Int32 × (Nat → Int32)) := jn (f_X9_in v1.toInt64 0 9999) (fun r1 => if r1 = 0 then some ((-2), m_beat, m_nick, m_owner, m_place, m_heard, m_chosen, m_minutes, m_heardMany, m_wrongNow, m_had) else jn (f_X9_in v2.toInt64 1 99) (fun r2 => if r2 = 0 then some ((-2), m_beat, m_nick, m_owner, m_place, m_heard, m_chosen, m_minutes, m_heardMany, m_wrongNow, m_had) else jn (f_X9_in v3.toInt64 0 2) (fun r3 => if r3 = 0 then some ((-2), m_beat, m_nick, m_owner, m_place, m_heard, m_chosen, m_minutes, m_heardMany, m_wrongNow, m_had) else jn (f_X9_keepNow m_beat m_nick m_owner m_place m_heard m_chosen m_minutes m_had) (fun r4 => jn (α := Int32 × Int32 × (Nat → Int32) × (Nat → Int32) × (Nat → Int32) × (Nat → Int32) × (Nat → Int32) × (Nat → Int32) × Int32 × Int32 × Int32) (f_X9_hour_L49 v2 m_kept 200 v1 0 m_beat m_nick m_owner m_place m_heard m_chosen m_minutes m_heardMany m_wrongNow) (fun z11 => jn (α := Int32) (if v3 = 0 then gu 0 6 (some (z11.2.2.2.2.2.1 (0 : Int32).toNatClampNeg)) else if v3 = 1 then jn (f_X9_nickMany z11.2.2.2.1) (fun r15 => some r15) else jn (f_X9_whoChose z11.2.2.2.2.2.2.2.1) (fun r14 => some r14)) (fun z12 => jn (f_X9_back z11.2.2.1 z11.2.2.2.1 z11.2.2.2.2.1 z11.2.2.2.2.2.1 z11.2.2.2.2.2.2.1 z11.2.2.2.2.2.2.2.1 r4 z12) (fun r16 => some (r16.1, r16.2.1, r16.2.2.1, r16.2.2.2.1, r16.2.2.2.2.1, r16.2.2.2.2.2.1, r16.2.2.2.2.2.2.1, r16.2.2.2.2.2.2.2, z11.2.2.2.2.2.2.2.2.2.1, z11.2.2.2.2.2.2.2.2.2.2, r4))))))))
set_option maxHeartbeats 4000000 in
set_option maxRecDepth 100000 in
theorem c_X9_hour (l : Launch) (D : va_G) (T : Nat → ClassId) (a : Nat → Nat) (m_beat : Nat → Int32) (m_nick : Nat → Int32) (m_owner : Nat → Int32) (m_place : Nat → Int32) (m_kept : Nat → Int32) (m_heard : Nat → Int32) (m_chosen : Nat → Int32) (m_minutes : Int32) (m_sightBeat : Nat → Int32) (m_sightOff : Nat → Int32) (m_sightIs : Nat → Int32) (m_sights : Int32) (m_pad : Nat → Int32) (m_padMany : Int32) (m_act : Nat → Int32) (m_who : Nat → Int32) (m_much : Nat → Int32) (m_acts : Int32) (m_heardMany : Int32) (m_wrongNow : Int32) (m_had : Nat → Int32) (m_badAct : Int32) (m_badWhy : Int32) (m_wrongAct : Int32) (m_wrongHeir : Int32) (m_odd : Nat → Int32) (m_span : Nat → Int32) (m_rise : Nat → Int32) (m_wins : Nat → Int32) (m_stored : Nat → Int32) (m_isStored : Nat → Int32) (m_storedAt : Int32) (m_isWriting : Int32) (v1 : Int32) (v2 : Int32) (v3 : Int32) (r : Int32 × (Nat → Int32) × (Nat → Int32) × (Nat → Int32) × (Nat → Int32) × (Nat → Int32) × (Nat → Int32) × Int32 × Int32 × Int32 × (Nat → Int32)) (h : f_X9_hour m_beat m_nick m_owner m_place m_kept m_heard m_chosen m_minutes m_heardMany m_wrongNow m_had v1 v2 v3 = some r) : Kt l D T yX9_hour cX9_hour 9 (some .int) (3, 0, 0, 68) [.ref (a 0), .int v1, .int v2, .int v3] (wM T a m_beat m_nick m_owner m_place m_kept m_heard m_chosen m_minutes m_sightBeat m_sightOff m_sightIs m_sights m_pad m_padMany m_act m_who m_much m_acts m_heardMany m_wrongNow m_had m_badAct m_badWhy m_wrongAct m_wrongHeir m_odd m_span m_rise m_wins m_stored m_isStored m_storedAt m_isWriting) (FF (fun (r : Int32 × (Nat → Int32) × (Nat → Int32) × (Nat → Int32) × (Nat → Int32) × (Nat → Int32) × (Nat → Int32) × Int32 × Int32 × Int32 × (Nat → Int32)) => some (.int r.1)) (fun r => wM T a r.2.1 r.2.2.1 r.2.2.2.1 r.2.2.2.2.1 m_kept r.2.2.2.2.2.1 r.2.2.2.2.2.2.1 r.2.2.2.2.2.2.2.1 m_sightBeat m_sightOff m_sightIs m_sights m_pad m_padMany m_act m_who m_much m_acts r.2.2.2.2.2.2.2.2.1 r.2.2.2.2.2.2.2.2.2.1 r.2.2.2.2.2.2.2.2.2.2 m_badAct m_badWhy m_wrongAct m_wrongHeir m_odd m_span m_rise m_wins m_stored m_isStored m_storedAt m_isWriting) r) := by
  refine kt_of (own := RX9) (nm := "hour") (lv := [(0, .ref (a 0)), (1, .int v1), (2, .int v2), (3, .int v3)]) (by decide) rfl rfl rfl (Nat.le_of_ble_eq_true rfl) h (fun X hn C M => ?_)
  have hnn : ((0, 0) : Nat × Nat).1 ≤ 0 ∧ ((0, 0) : Nat × Nat).2 ≤ 0 := ⟨Nat.le_refl 0, Nat.le_refl 0⟩
  unfold f_X9_hour
  refine gg_iload_n C dX9_hour_0 rfl 1 rfl ?_
  refine gg_i2l C dX9_hour_1 ?_
  refine gg_lconst C dX9_hour_2 (v := 0) (by decide) ?_
  refine gg_ldc2 C tw_897 dX9_hour_3 ?_
  refine gg_callS C (fun l r h => c_X9_in l D T v1.toInt64 0 9999 r h) lk_X9_76 ⟨by decide, by decide⟩ hnn rfl (rest := []) rfl (Nat.le_of_ble_eq_true rfl) dX9_hour_6 cut_none (st2 := fun r1 => [.int r1]) (fun _ => rfl) (fun r1 => ?_)
  refine gg_if_eq C dX9_hour_9 (tgt := 36) (by decide) (fun _ => ?_) (fun _ => ?_)
  · refine gg_bipush C dX9_hour_36 kB_m2 ?_
    exact gg_iret C M dX9_hour_38 ⟨rfl, rfl⟩
  · refine gg_iload_n C dX9_hour_12 rfl 2 rfl ?_
    refine gg_i2l C dX9_hour_13 ?_
    refine gg_lconst C dX9_hour_14 (v := 1) (by decide) ?_
    refine gg_ldc2 C tw_898 dX9_hour_15 ?_
    refine gg_callS C (fun l r h => c_X9_in l D T v2.toInt64 1 99 r h) lk_X9_76 ⟨by decide, by decide⟩ hnn rfl (rest := []) rfl (Nat.le_of_ble_eq_true rfl) dX9_hour_18 cut_none (st2 := fun r2 => [.int r2]) (fun _ => rfl) (fun r2 => ?_)
    refine gg_if_eq C dX9_hour_21 (tgt := 36) (by decide) (fun _ => ?_) (fun _ => ?_)
    · refine gg_bipush C dX9_hour_36 kB_m2 ?_
      exact gg_iret C M dX9_hour_38 ⟨rfl, rfl⟩
    · refine gg_iload_n C dX9_hour_24 rfl 3 rfl ?_
      refine gg_i2l C dX9_hour_25 ?_
      refine gg_lconst C dX9_hour_26 (v := 0) (by decide) ?_
      refine gg_ldc2 C tw_702 dX9_hour_27 ?_
      refine gg_callS C (fun l r h => c_X9_in l D T v3.toInt64 0 2 r h) lk_X9_76 ⟨by decide, by decide⟩ hnn rfl (rest := []) rfl (Nat.le_of_ble_eq_true rfl) dX9_hour_30 cut_none (st2 := fun r3 => [.int r3]) (fun _ => rfl) (fun r3 => ?_)
      refine gg_if_ne C dX9_hour_33 (tgt := 39) (by decide) (fun _ => ?_) (fun _ => ?_)
      · refine gg_aload_n C dX9_hour_39 rfl 0 rfl ?_
        refine gg_callV C (fun l r h => c_X9_keepNow l D T a m_beat m_nick m_owner m_place m_kept m_heard m_chosen m_minutes m_sightBeat m_sightOff m_sightIs m_sights m_pad m_padMany m_act m_who m_much m_acts m_heardMany m_wrongNow m_had m_badAct m_badWhy m_wrongAct m_wrongHeir m_odd m_span m_rise m_wins m_stored m_isStored m_storedAt m_isWriting r h) lk_X9_180 ⟨by decide, by decide⟩ hnn rfl (rest := []) rfl (Nat.le_of_ble_eq_true rfl) 0 rfl rfl dX9_hour_40 (ws2 := fun r4 => wM T a m_beat m_nick m_owner m_place m_kept m_heard m_chosen m_minutes m_sightBeat m_sightOff m_sightIs m_sights m_pad m_padMany m_act m_who m_much m_acts m_heardMany m_wrongNow r4 m_badAct m_badWhy m_wrongAct m_wrongHeir m_odd m_span m_rise m_wins m_stored m_isStored m_storedAt m_isWriting) (cut_full (fun _ => rfl)) (st2 := fun r4 => []) (fun _ => rfl) (fun r4 => ?_)
        refine gg_iload_n C dX9_hour_43 rfl 1 rfl ?_
        refine gg_istore C dX9_hour_44 hn (by decide) (lv' := [(4, .int v1), (0, .ref (a 0)), (1, .int v1), (2, .int v2), (3, .int v3)]) rfl ?_
        refine gg_iconst C dX9_hour_46 kI_0 ?_
        refine gg_istore C dX9_hour_47 hn (by decide) (lv' := [(5, .int 0), (4, .int v1), (0, .ref (a 0)), (1, .int v1), (2, .int v2), (3, .int v3)]) rfl ?_
        refine gg_join (α := Int32 × Int32 × (Nat → Int32) × (Nat → Int32) × (Nat → Int32) × (Nat → Int32) × (Nat → Int32) × (Nat → Int32) × Int32 × Int32 × Int32) 139 (fun z11 => wM T a z11.2.2.1 z11.2.2.2.1 z11.2.2.2.2.1 z11.2.2.2.2.2.1 m_kept z11.2.2.2.2.2.2.1 z11.2.2.2.2.2.2.2.1 z11.2.2.2.2.2.2.2.2.1 m_sightBeat m_sightOff m_sightIs m_sights m_pad m_padMany m_act m_who m_much m_acts z11.2.2.2.2.2.2.2.2.2.1 z11.2.2.2.2.2.2.2.2.2.2 r4 m_badAct m_badWhy m_wrongAct m_wrongHeir m_odd m_span m_rise m_wins m_stored m_isStored m_storedAt m_isWriting) (fun z11 => [(0, .ref (a 0)), (1, .int v1), (2, .int v2), (3, .int v3), (4, .int z11.1), (5, .int z11.2.1)]) (fun z11 => []) (fun z11 => ?_) (fun K17 => ?_)
        · refine gg_aload_n C dX9_hour_139 rfl 0 rfl ?_
          refine gg_iload_n C dX9_hour_140 rfl 3 rfl ?_
          refine gg_join (α := Int32) 169 (fun z12 => wM T a z11.2.2.1 z11.2.2.2.1 z11.2.2.2.2.1 z11.2.2.2.2.2.1 m_kept z11.2.2.2.2.2.2.1 z11.2.2.2.2.2.2.2.1 z11.2.2.2.2.2.2.2.2.1 m_sightBeat m_sightOff m_sightIs m_sights m_pad m_padMany m_act m_who m_much m_acts z11.2.2.2.2.2.2.2.2.2.1 z11.2.2.2.2.2.2.2.2.2.2 r4 m_badAct m_badWhy m_wrongAct m_wrongHeir m_odd m_span m_rise m_wins m_stored m_isStored m_storedAt m_isWriting) (fun z12 => [(0, .ref (a 0)), (1, .int v1), (2, .int v2), (3, .int v3), (4, .int z11.1), (5, .int z11.2.1)]) (fun z12 => [.int z12, .ref (a 0)]) (fun z12 => ?_) (fun K13 => ?_)
          · refine gg_callV C (fun l r h => c_X9_back l D T a z11.2.2.1 z11.2.2.2.1 z11.2.2.2.2.1 z11.2.2.2.2.2.1 m_kept z11.2.2.2.2.2.2.1 z11.2.2.2.2.2.2.2.1 z11.2.2.2.2.2.2.2.2.1 m_sightBeat m_sightOff m_sightIs m_sights m_pad m_padMany m_act m_who m_much m_acts z11.2.2.2.2.2.2.2.2.2.1 z11.2.2.2.2.2.2.2.2.2.2 r4 m_badAct m_badWhy m_wrongAct m_wrongHeir m_odd m_span m_rise m_wins m_stored m_isStored m_storedAt m_isWriting z12 r h) lk_X9_195 ⟨by decide, by decide⟩ hnn rfl (rest := []) rfl (Nat.le_of_ble_eq_true rfl) 0 rfl rfl dX9_hour_169 (ws2 := fun r16 => wM T a r16.2.1 r16.2.2.1 r16.2.2.2.1 r16.2.2.2.2.1 m_kept r16.2.2.2.2.2.1 r16.2.2.2.2.2.2.1 r16.2.2.2.2.2.2.2 m_sightBeat m_sightOff m_sightIs m_sights m_pad m_padMany m_act m_who m_much m_acts z11.2.2.2.2.2.2.2.2.2.1 z11.2.2.2.2.2.2.2.2.2.2 r4 m_badAct m_badWhy m_wrongAct m_wrongHeir m_odd m_span m_rise m_wins m_stored m_isStored m_storedAt m_isWriting) (cut_full (fun _ => rfl)) (st2 := fun r16 => [.int r16.1]) (fun _ => rfl) (fun r16 => ?_)
            exact gg_iret C M dX9_hour_172 ⟨rfl, rfl⟩
          · refine gg_if_ne C dX9_hour_141 (tgt := 153) (by decide) (fun _ => ?_) (fun _ => ?_)
            · refine gg_iload_n C dX9_hour_153 rfl 3 rfl ?_
              refine gg_iconst C dX9_hour_154 kI_1 ?_
              refine gg_icmp_ne C dX9_hour_155 (tgt := 165) (by decide) (fun _ => ?_) (fun _ => ?_)
              · refine gg_aload_n C dX9_hour_165 rfl 0 rfl ?_
                refine gg_callV C (fun l r h => c_X9_whoChose l D T a z11.2.2.1 z11.2.2.2.1 z11.2.2.2.2.1 z11.2.2.2.2.2.1 m_kept z11.2.2.2.2.2.2.1 z11.2.2.2.2.2.2.2.1 z11.2.2.2.2.2.2.2.2.1 m_sightBeat m_sightOff m_sightIs m_sights m_pad m_padMany m_act m_who m_much m_acts z11.2.2.2.2.2.2.2.2.2.1 z11.2.2.2.2.2.2.2.2.2.2 r4 m_badAct m_badWhy m_wrongAct m_wrongHeir m_odd m_span m_rise m_wins m_stored m_isStored m_storedAt m_isWriting r h) lk_X9_198 ⟨by decide, by decide⟩ hnn rfl (rest := [.ref (a 0)]) rfl (Nat.le_of_ble_eq_true rfl) 0 rfl rfl dX9_hour_166 (ws2 := fun r14 => wM T a z11.2.2.1 z11.2.2.2.1 z11.2.2.2.2.1 z11.2.2.2.2.2.1 m_kept z11.2.2.2.2.2.2.1 z11.2.2.2.2.2.2.2.1 z11.2.2.2.2.2.2.2.2.1 m_sightBeat m_sightOff m_sightIs m_sights m_pad m_padMany m_act m_who m_much m_acts z11.2.2.2.2.2.2.2.2.2.1 z11.2.2.2.2.2.2.2.2.2.2 r4 m_badAct m_badWhy m_wrongAct m_wrongHeir m_odd m_span m_rise m_wins m_stored m_isStored m_storedAt m_isWriting) (cut_full (fun _ => rfl)) (st2 := fun r14 => [.int r14, .ref (a 0)]) (fun _ => rfl) (fun r14 => ?_)
                refine gg_sub [0, 1, 2, 3, 4, 5] rfl ?_
                exact K13 r14
              · refine gg_aload_n C dX9_hour_158 rfl 0 rfl ?_
                refine gg_callV C (fun l r h => c_X9_nickMany l D T a z11.2.2.1 z11.2.2.2.1 z11.2.2.2.2.1 z11.2.2.2.2.2.1 m_kept z11.2.2.2.2.2.2.1 z11.2.2.2.2.2.2.2.1 z11.2.2.2.2.2.2.2.2.1 m_sightBeat m_sightOff m_sightIs m_sights m_pad m_padMany m_act m_who m_much m_acts z11.2.2.2.2.2.2.2.2.2.1 z11.2.2.2.2.2.2.2.2.2.2 r4 m_badAct m_badWhy m_wrongAct m_wrongHeir m_odd m_span m_rise m_wins m_stored m_isStored m_storedAt m_isWriting r h) lk_X9_204 ⟨by decide, by decide⟩ hnn rfl (rest := [.ref (a 0)]) rfl (Nat.le_of_ble_eq_true rfl) 0 rfl rfl dX9_hour_159 (ws2 := fun r15 => wM T a z11.2.2.1 z11.2.2.2.1 z11.2.2.2.2.1 z11.2.2.2.2.2.1 m_kept z11.2.2.2.2.2.2.1 z11.2.2.2.2.2.2.2.1 z11.2.2.2.2.2.2.2.2.1 m_sightBeat m_sightOff m_sightIs m_sights m_pad m_padMany m_act m_who m_much m_acts z11.2.2.2.2.2.2.2.2.2.1 z11.2.2.2.2.2.2.2.2.2.2 r4 m_badAct m_badWhy m_wrongAct m_wrongHeir m_odd m_span m_rise m_wins m_stored m_isStored m_storedAt m_isWriting) (cut_full (fun _ => rfl)) (st2 := fun r15 => [.int r15, .ref (a 0)]) (fun _ => rfl) (fun r15 => ?_)
                refine gg_goto C dX9_hour_162 (tgt := 169) (by decide) ?_
                refine gg_sub [0, 1, 2, 3, 4, 5] rfl ?_
                exact K13 r15
            · refine gg_aload_n C dX9_hour_144 rfl 0 rfl ?_
              refine gf_X9_19 C 0 rfl rfl dX9_hour_145 ?_
              refine gg_iconst C dX9_hour_148 kI_0 ?_
              refine gg_iald C 4 rfl dX9_hour_149 ?_
              refine gg_goto C dX9_hour_150 (tgt := 169) (by decide) ?_
              refine gg_sub [0, 1, 2, 3, 4, 5] rfl ?_
              exact K13 (z11.2.2.2.2.2.1 (0 : Int32).toNatClampNeg)
        · refine gg_sub [2, 3, 4, 5, 1, 0] rfl ?_
          exact g_X9_hour_L49 C hnn hn a v1 v2 v3 m_kept m_sightBeat m_sightOff m_sightIs m_sights m_pad m_padMany m_act m_who m_much m_acts r4 m_badAct m_badWhy m_wrongAct m_wrongHeir m_odd m_span m_rise m_wins m_stored m_isStored m_storedAt m_isWriting K17 200 v1 0 m_beat m_nick m_owner m_place m_heard m_chosen m_minutes m_heardMany m_wrongNow
      · refine gg_bipush C dX9_hour_36 kB_m2 ?_
        exact gg_iret C M dX9_hour_38 ⟨rfl, rfl⟩
