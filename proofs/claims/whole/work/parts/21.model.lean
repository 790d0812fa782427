def f_X9_cradle (m_beat : Nat → Int32) (m_nick : Nat → Int32) (m_owner : Nat → Int32) (v1 : Int32) (v2 : Int32) (v3 : Int32) (v4 : Int32) : Option (Int32 × (Nat → Int32) × (Nat → Int32) × (Nat → Int32)) := jn (f_X9_isPlace v1) (fun r1 => if r1 = 0 then some ((-1), m_beat, m_nick, m_owner) else jn (f_X9_in v4.toInt64 (-1) 5) (fun r2 => if r2 = 0 then some ((-1), m_beat, m_nick, m_owner) else jn (f_X9_in v2.toInt64 1 9) (fun r3 => if r3 = 0 then some ((-2), m_beat, m_nick, m_owner) else jn (f_X9_in v3.toInt64 0 1) (fun r4 => if r4 = 0 then some ((-2), m_beat, m_nick, m_owner) else gu v1 40 (bi (m_beat v1.toNatClampNeg) (fun x5 => gu v1 40 (gu v1 40 (if 0 ≤ v4 then gu v1 40 (some (x5, upd m_beat v1.toNatClampNeg v2, upd m_nick v1.toNatClampNeg v3, upd m_owner v1.toNatClampNeg v4)) else gu v1 40 (some (x5, upd m_beat v1.toNatClampNeg v2, upd m_nick v1.toNatClampNeg v3, upd m_owner v1.toNatClampNeg (-6)))))))))))
set_option maxHeartbeats 4000000 in
set_option maxRecDepth 100000 in
theorem c_X9_cradle (l : Launch) (D : va_G) (T : Nat → ClassId) (a : Nat → Nat) (m_beat : Nat → Int32) (m_nick : Nat → Int32) (m_owner : Nat → Int32) (m_place : Nat → Int32) (m_kept : Nat → Int32) (m_heard : Nat → Int32) (m_chosen : Nat → Int32) (m_minutes : Int32) (m_sightBeat : Nat → Int32) (m_sightOff : Nat → Int32) (m_sightIs : Nat → Int32) (m_sights : Int32) (m_pad : Nat → Int32) (m_padMany : Int32) (m_act : Nat → Int32) (m_who : Nat → Int32) (m_much : Nat → Int32) (m_acts : Int32) (m_heardMany : Int32) (m_wrongNow : Int32) (m_had : Nat → Int32) (m_badAct : Int32) (m_badWhy : Int32) (m_wrongAct : Int32) (m_wrongHeir : Int32) (m_odd : Nat → Int32) (m_span : Nat → Int32) (m_rise : Nat → Int32) (m_wins : Nat → Int32) (m_stored : Nat → Int32) (m_isStored : Nat → Int32) (m_storedAt : Int32) (m_isWriting : Int32) (v1 : Int32) (v2 : Int32) (v3 : Int32) (v4 : Int32) (r : Int32 × (Nat → Int32) × (Nat → Int32) × (Nat → Int32)) (h : f_X9_cradle m_beat m_nick m_owner v1 v2 v3 v4 = some r) : Kt l D T yX9_cradle cX9_cradle 6 (some .int) (2, 0, 0, 45) [.ref (a 0), .int v1, .int v2, .int v3, .int v4] (wM T a m_beat m_nick m_owner m_place m_kept m_heard m_chosen m_minutes m_sightBeat m_sightOff m_sightIs m_sights m_pad m_padMany m_act m_who m_much m_acts m_heardMany m_wrongNow m_had m_badAct m_badWhy m_wrongAct m_wrongHeir m_odd m_span m_rise m_wins m_stored m_isStored m_storedAt m_isWriting) (FF (fun (r : Int32 × (Nat → Int32) × (Nat → Int32) × (Nat → Int32)) => some (.int r.1)) (fun r => wM T a r.2.1 r.2.2.1 r.2.2.2 m_place m_kept m_heard m_chosen m_minutes m_sightBeat m_sightOff m_sightIs m_sights m_pad m_padMany m_act m_who m_much m_acts m_heardMany m_wrongNow m_had m_badAct m_badWhy m_wrongAct m_wrongHeir m_odd m_span m_rise m_wins m_stored m_isStored m_storedAt m_isWriting) r) := by
  refine kt_of (own := RX9) (nm := "cradle") (lv := [(0, .ref (a 0)), (1, .int v1), (2, .int v2), (3, .int v3), (4, .int v4)]) (by decide) rfl rfl rfl (Nat.le_of_ble_eq_true rfl) h (fun X hn C M => ?_)
  have hnn : ((0, 0) : Nat × Nat).1 ≤ 0 ∧ ((0, 0) : Nat × Nat).2 ≤ 0 := ⟨Nat.le_refl 0, Nat.le_refl 0⟩
  unfold f_X9_cradle
  refine gg_iload_n C dX9_cradle_0 rfl 1 rfl ?_
  refine gg_callS C (fun l r h => c_X9_isPlace l D T v1 r h) lk_X9_82 ⟨by decide, by decide⟩ hnn rfl (rest := []) rfl (Nat.le_of_ble_eq_true rfl) dX9_cradle_1 cut_none (st2 := fun r1 => [.int r1]) (fun _ => rfl) (fun r1 => ?_)
  refine gg_if_eq C dX9_cradle_4 (tgt := 22) (by decide) (fun _ => ?_) (fun _ => ?_)
  · refine gg_iconst C dX9_cradle_22 kI_m1 ?_
    exact gg_iret C M dX9_cradle_23 ⟨rfl, rfl⟩
  · refine gg_iload C dX9_cradle_7 4 rfl ?_
    refine gg_i2l C dX9_cradle_9 ?_
    refine gg_ldc2 C tw_650 dX9_cradle_10 ?_
    refine gg_ldc2 C tw_651 dX9_cradle_13 ?_
    refine gg_callS C (fun l r h => c_X9_in l D T v4.toInt64 (-1) 5 r h) lk_X9_76 ⟨by decide, by decide⟩ hnn rfl (rest := []) rfl (Nat.le_of_ble_eq_true rfl) dX9_cradle_16 cut_none (st2 := fun r2 => [.int r2]) (fun _ => rfl) (fun r2 => ?_)
    refine gg_if_ne C dX9_cradle_19 (tgt := 24) (by decide) (fun _ => ?_) (fun _ => ?_)
    · refine gg_iload_n C dX9_cradle_24 rfl 2 rfl ?_
      refine gg_i2l C dX9_cradle_25 ?_
      refine gg_lconst C dX9_cradle_26 (v := 1) (by decide) ?_
      refine gg_ldc2 C tw_652 dX9_cradle_27 ?_
      refine gg_callS C (fun l r h => c_X9_in l D T v2.toInt64 1 9 r h) lk_X9_76 ⟨by decide, by decide⟩ hnn rfl (rest := []) rfl (Nat.le_of_ble_eq_true rfl) dX9_cradle_30 cut_none (st2 := fun r3 => [.int r3]) (fun _ => rfl) (fun r3 => ?_)
      refine gg_if_eq C dX9_cradle_33 (tgt := 46) (by decide) (fun _ => ?_) (fun _ => ?_)
      · refine gg_bipush C dX9_cradle_46 kB_m2 ?_
        exact gg_iret C M dX9_cradle_48 ⟨rfl, rfl⟩
      · refine gg_iload_n C dX9_cradle_36 rfl 3 rfl ?_
        refine gg_i2l C dX9_cradle_37 ?_
        refine gg_lconst C dX9_cradle_38 (v := 0) (by decide) ?_
        refine gg_lconst C dX9_cradle_39 (v := 1) (by decide) ?_
        refine gg_callS C (fun l r h => c_X9_in l D T v3.toInt64 0 1 r h) lk_X9_76 ⟨by decide, by decide⟩ hnn rfl (rest := []) rfl (Nat.le_of_ble_eq_true rfl) dX9_cradle_40 cut_none (st2 := fun r4 => [.int r4]) (fun _ => rfl) (fun r4 => ?_)
        refine gg_if_ne C dX9_cradle_43 (tgt := 49) (by decide) (fun _ => ?_) (fun _ => ?_)
        · refine gg_aload_n C dX9_cradle_49 rfl 0 rfl ?_
          refine gf_X9_7 C 0 rfl rfl dX9_cradle_50 ?_
          refine gg_iload_n C dX9_cradle_53 rfl 1 rfl ?_
          refine gg_iald C 1 rfl dX9_cradle_54 ?_
          refine gg_bi (fun x5 => ?_)
          refine gg_istore C dX9_cradle_55 hn (by decide) (lv' := [(5, .int x5), (0, .ref (a 0)), (1, .int v1), (2, .int v2), (3, .int v3), (4, .int v4)]) rfl ?_
          refine gg_aload_n C dX9_cradle_57 rfl 1 rfl ?_
          refine gf_X9_7 C 0 rfl rfl dX9_cradle_58 ?_
          refine gg_iload_n C dX9_cradle_61 rfl 2 rfl ?_
          refine gg_iload_n C dX9_cradle_62 rfl 3 rfl ?_
          refine gg_iast C 1 rfl dX9_cradle_63 (ws' := wM T a (upd m_beat v1.toNatClampNeg v2) m_nick m_owner m_place m_kept m_heard m_chosen m_minutes m_sightBeat m_sightOff m_sightIs m_sights m_pad m_padMany m_act m_who m_much m_acts m_heardMany m_wrongNow m_had m_badAct m_badWhy m_wrongAct m_wrongHeir m_odd m_span m_rise m_wins m_stored m_isStored m_storedAt m_isWriting) rfl ?_
          refine gg_aload_n C dX9_cradle_64 rfl 1 rfl ?_
          refine gf_X9_13 C 0 rfl rfl dX9_cradle_65 ?_
          refine gg_iload_n C dX9_cradle_68 rfl 2 rfl ?_
          refine gg_iload_n C dX9_cradle_69 rfl 4 rfl ?_
          refine gg_iast C 2 rfl dX9_cradle_70 (ws' := wM T a (upd m_beat v1.toNatClampNeg v2) (upd m_nick v1.toNatClampNeg v3) m_owner m_place m_kept m_heard m_chosen m_minutes m_sightBeat m_sightOff m_sightIs m_sights m_pad m_padMany m_act m_who m_much m_acts m_heardMany m_wrongNow m_had m_badAct m_badWhy m_wrongAct m_wrongHeir m_odd m_span m_rise m_wins m_stored m_isStored m_storedAt m_isWriting) rfl ?_
          refine gg_aload_n C dX9_cradle_71 rfl 1 rfl ?_
          refine gf_X9_16 C 0 rfl rfl dX9_cradle_72 ?_
          refine gg_iload_n C dX9_cradle_75 rfl 2 rfl ?_
          refine gg_iload C dX9_cradle_76 5 rfl ?_
          refine gg_if_ge C dX9_cradle_78 (tgt := 86) (by decide) (fun _ => ?_) (fun _ => ?_)
          · refine gg_iload C dX9_cradle_86 5 rfl ?_
            refine gg_iast C 3 rfl dX9_cradle_88 (ws' := wM T a (upd m_beat v1.toNatClampNeg v2) (upd m_nick v1.toNatClampNeg v3) (upd m_owner v1.toNatClampNeg v4) m_place m_kept m_heard m_chosen m_minutes m_sightBeat m_sightOff m_sightIs m_sights m_pad m_padMany m_act m_who m_much m_acts m_heardMany m_wrongNow m_had m_badAct m_badWhy m_wrongAct m_wrongHeir m_odd m_span m_rise m_wins m_stored m_isStored m_storedAt m_isWriting) rfl ?_
            refine gg_iload C dX9_cradle_89 0 rfl ?_
            exact gg_iret C M dX9_cradle_91 ⟨rfl, rfl⟩
          · refine gg_bipush C dX9_cradle_81 kB_m6 ?_
            refine gg_goto C dX9_cradle_83 (tgt := 88) (by decide) ?_
            refine gg_iast C 3 rfl dX9_cradle_88 (ws' := wM T a (upd m_beat v1.toNatClampNeg v2) (upd m_nick v1.toNatClampNeg v3) (upd m_owner v1.toNatClampNeg (-6)) m_place m_kept m_heard m_chosen m_minutes m_sightBeat m_sightOff m_sightIs m_sights m_pad m_padMany m_act m_who m_much m_acts m_heardMany m_wrongNow m_had m_badAct m_badWhy m_wrongAct m_wrongHeir m_odd m_span m_rise m_wins m_stored m_isStored m_storedAt m_isWriting) rfl ?_
            refine gg_iload C dX9_cradle_89 0 rfl ?_
            exact gg_iret C M dX9_cradle_91 ⟨rfl, rfl⟩
        · refine gg_bipush C dX9_cradle_46 kB_m2 ?_
          exact gg_iret C M dX9_cradle_48 ⟨rfl, rfl⟩
    · refine gg_iconst C dX9_cradle_22 kI_m1 ?_
      exact gg_iret C M dX9_cradle_23 ⟨rfl, rfl⟩
def f_X9_heir (m_place : Nat → Int32) (m_kept : Nat → Int32) (m_heard : Nat → Int32) (m_chosen : Nat → Int32) (v1 : Int32) (v2 : Int32) (v3 : Int32) : Option (Int32 × (Nat → Int32) × (Nat → Int32) × (Nat → Int32) × (Nat → Int32)) := jn (f_X9_isHeir v1) (fun r1 => if r1 = 0 then some ((-1), m_place, m_kept, m_heard, m_chosen) else jn (f_X9_isPlace v2) (fun r2 => if r2 = 0 then some ((-1), m_place, m_kept, m_heard, m_chosen) else jn (f_X9_in v3.toInt64 1 9) (fun r3 => if r3 = 0 then some ((-2), m_place, m_kept, m_heard, m_chosen) else gu v1 6 (bi (m_place v1.toNatClampNeg) (fun x4 => gu v1 6 (gu v1 6 (gu v1 6 (gu v1 6 (some (x4, upd m_place v1.toNatClampNeg v2, upd m_kept v1.toNatClampNeg v3, upd m_heard v1.toNatClampNeg 0, upd m_chosen v1.toNatClampNeg (-6)))))))))))
set_option maxHeartbeats 4000000 in
set_option maxRecDepth 100000 in
theorem c_X9_heir (l : Launch) (D : va_G) (T : Nat → ClassId) (a : Nat → Nat) (m_beat : Nat → Int32) (m_nick : Nat → Int32) (m_owner : Nat → Int32) (m_place : Nat → Int32) (m_kept : Nat → Int32) (m_heard : Nat → Int32) (m_chosen : Nat → Int32) (m_minutes : Int32) (m_sightBeat : Nat → Int32) (m_sightOff : Nat → Int32) (m_sightIs : Nat → Int32) (m_sights : Int32) (m_pad : Nat → Int32) (m_padMany : Int32) (m_act : Nat → Int32) (m_who : Nat → Int32) (m_much : Nat → Int32) (m_acts : Int32) (m_heardMany : Int32) (m_wrongNow : Int32) (m_had : Nat → Int32) (m_badAct : Int32) (m_badWhy : Int32) (m_wrongAct : Int32) (m_wrongHeir : Int32) (m_odd : Nat → Int32) (m_span : Nat → Int32) (m_rise : Nat → Int32) (m_wins : Nat → Int32) (m_stored : Nat → Int32) (m_isStored : Nat → Int32) (m_storedAt : Int32) (m_isWriting : Int32) (v1 : Int32) (v2 : Int32) (v3 : Int32) (r : Int32 × (Nat → Int32) × (Nat → Int32) × (Nat → Int32) × (Nat → Int32)) (h : f_X9_heir m_place m_kept m_heard m_chosen v1 v2 v3 = some r) : Kt l D T yX9_heir cX9_heir 5 (some .int) (2, 0, 0, 45) [.ref (a 0), .int v1, .int v2, .int v3] (wM T a m_beat m_nick m_owner m_place m_kept m_heard m_chosen m_minutes m_sightBeat m_sightOff m_sightIs m_sights m_pad m_padMany m_act m_who m_much m_acts m_heardMany m_wrongNow m_had m_badAct m_badWhy m_wrongAct m_wrongHeir m_odd m_span m_rise m_wins m_stored m_isStored m_storedAt m_isWriting) (FF (fun (r : Int32 × (Nat → Int32) × (Nat → Int32) × (Nat → Int32) × (Nat → Int32)) => some (.int r.1)) (fun r => wM T a m_beat m_nick m_owner r.2.1 r.2.2.1 r.2.2.2.1 r.2.2.2.2 m_minutes m_sightBeat m_sightOff m_sightIs m_sights m_pad m_padMany m_act m_who m_much m_acts m_heardMany m_wrongNow m_had m_badAct m_badWhy m_wrongAct m_wrongHeir m_odd m_span m_rise m_wins m_stored m_isStored m_storedAt m_isWriting) r) := by
  refine kt_of (own := RX9) (nm := "heir") (lv := [(0, .ref (a 0)), (1, .int v1), (2, .int v2), (3, .int v3)]) (by decide) rfl rfl rfl (Nat.le_of_ble_eq_true rfl) h (fun X hn C M => ?_)
  have hnn : ((0, 0) : Nat × Nat).1 ≤ 0 ∧ ((0, 0) : Nat × Nat).2 ≤ 0 := ⟨Nat.le_refl 0, Nat.le_refl 0⟩
  unfold f_X9_heir
  refine gg_iload_n C dX9_heir_0 rfl 1 rfl ?_
  refine gg_callS C (fun l r h => c_X9_isHeir l D T v1 r h) lk_X9_90 ⟨by decide, by decide⟩ hnn rfl (rest := []) rfl (Nat.le_of_ble_eq_true rfl) dX9_heir_1 cut_none (st2 := fun r1 => [.int r1]) (fun _ => rfl) (fun r1 => ?_)
  refine gg_if_eq C dX9_heir_4 (tgt := 14) (by decide) (fun _ => ?_) (fun _ => ?_)
  · refine gg_iconst C dX9_heir_14 kI_m1 ?_
    exact gg_iret C M dX9_heir_15 ⟨rfl, rfl⟩
  · refine gg_iload_n C dX9_heir_7 rfl 2 rfl ?_
    refine gg_callS C (fun l r h => c_X9_isPlace l D T v2 r h) lk_X9_82 ⟨by decide, by decide⟩ hnn rfl (rest := []) rfl (Nat.le_of_ble_eq_true rfl) dX9_heir_8 cut_none (st2 := fun r2 => [.int r2]) (fun _ => rfl) (fun r2 => ?_)
    refine gg_if_ne C dX9_heir_11 (tgt := 16) (by decide) (fun _ => ?_) (fun _ => ?_)
    · refine gg_iload_n C dX9_heir_16 rfl 3 rfl ?_
      refine gg_i2l C dX9_heir_17 ?_
      refine gg_lconst C dX9_heir_18 (v := 1) (by decide) ?_
      refine gg_ldc2 C tw_652 dX9_heir_19 ?_
      refine gg_callS C (fun l r h => c_X9_in l D T v3.toInt64 1 9 r h) lk_X9_76 ⟨by decide, by decide⟩ hnn rfl (rest := []) rfl (Nat.le_of_ble_eq_true rfl) dX9_heir_22 cut_none (st2 := fun r3 => [.int r3]) (fun _ => rfl) (fun r3 => ?_)
      refine gg_if_ne C dX9_heir_25 (tgt := 31) (by decide) (fun _ => ?_) (fun _ => ?_)
      · refine gg_aload_n C dX9_heir_31 rfl 0 rfl ?_
        refine gf_X9_19 C 0 rfl rfl dX9_heir_32 ?_
        refine gg_iload_n C dX9_heir_35 rfl 1 rfl ?_
        refine gg_iald C 4 rfl dX9_heir_36 ?_
        refine gg_bi (fun x4 => ?_)
        refine gg_istore C dX9_heir_37 hn (by decide) (lv' := [(4, .int x4), (0, .ref (a 0)), (1, .int v1), (2, .int v2), (3, .int v3)]) rfl ?_
        refine gg_aload_n C dX9_heir_39 rfl 1 rfl ?_
        refine gf_X9_19 C 0 rfl rfl dX9_heir_40 ?_
        refine gg_iload_n C dX9_heir_43 rfl 2 rfl ?_
        refine gg_iload_n C dX9_heir_44 rfl 3 rfl ?_
        refine gg_iast C 4 rfl dX9_heir_45 (ws' := wM T a m_beat m_nick m_owner (upd m_place v1.toNatClampNeg v2) m_kept m_heard m_chosen m_minutes m_sightBeat m_sightOff m_sightIs m_sights m_pad m_padMany m_act m_who m_much m_acts m_heardMany m_wrongNow m_had m_badAct m_badWhy m_wrongAct m_wrongHeir m_odd m_span m_rise m_wins m_stored m_isStored m_storedAt m_isWriting) rfl ?_
        refine gg_aload_n C dX9_heir_46 rfl 1 rfl ?_
        refine gf_X9_22 C 0 rfl rfl dX9_heir_47 ?_
        refine gg_iload_n C dX9_heir_50 rfl 2 rfl ?_
        refine gg_iload_n C dX9_heir_51 rfl 4 rfl ?_
        refine gg_iast C 5 rfl dX9_heir_52 (ws' := wM T a m_beat m_nick m_owner (upd m_place v1.toNatClampNeg v2) (upd m_kept v1.toNatClampNeg v3) m_heard m_chosen m_minutes m_sightBeat m_sightOff m_sightIs m_sights m_pad m_padMany m_act m_who m_much m_acts m_heardMany m_wrongNow m_had m_badAct m_badWhy m_wrongAct m_wrongHeir m_odd m_span m_rise m_wins m_stored m_isStored m_storedAt m_isWriting) rfl ?_
        refine gg_aload_n C dX9_heir_53 rfl 1 rfl ?_
        refine gf_X9_25 C 0 rfl rfl dX9_heir_54 ?_
        refine gg_iload_n C dX9_heir_57 rfl 2 rfl ?_
        refine gg_iconst C dX9_heir_58 kI_0 ?_
        refine gg_iast C 6 rfl dX9_heir_59 (ws' := wM T a m_beat m_nick m_owner (upd m_place v1.toNatClampNeg v2) (upd m_kept v1.toNatClampNeg v3) (upd m_heard v1.toNatClampNeg 0) m_chosen m_minutes m_sightBeat m_sightOff m_sightIs m_sights m_pad m_padMany m_act m_who m_much m_acts m_heardMany m_wrongNow m_had m_badAct m_badWhy m_wrongAct m_wrongHeir m_odd m_span m_rise m_wins m_stored m_isStored m_storedAt m_isWriting) rfl ?_
        refine gg_aload_n C dX9_heir_60 rfl 1 rfl ?_
        refine gf_X9_28 C 0 rfl rfl dX9_heir_61 ?_
        refine gg_iload_n C dX9_heir_64 rfl 2 rfl ?_
        refine gg_bipush C dX9_heir_65 kB_m6 ?_
        refine gg_iast C 7 rfl dX9_heir_67 (ws' := wM T a m_beat m_nick m_owner (upd m_place v1.toNatClampNeg v2) (upd m_kept v1.toNatClampNeg v3) (upd m_heard v1.toNatClampNeg 0) (upd m_chosen v1.toNatClampNeg (-6)) m_minutes m_sightBeat m_sightOff m_sightIs m_sights m_pad m_padMany m_act m_who m_much m_acts m_heardMany m_wrongNow m_had m_badAct m_badWhy m_wrongAct m_wrongHeir m_odd m_span m_rise m_wins m_stored m_isStored m_storedAt m_isWriting) rfl ?_
        refine gg_iload C dX9_heir_68 0 rfl ?_
        exact gg_iret C M dX9_heir_70 ⟨rfl, rfl⟩
      · refine gg_bipush C dX9_heir_28 kB_m2 ?_
        exact gg_iret C M dX9_heir_30 ⟨rfl, rfl⟩
    · refine gg_iconst C dX9_heir_14 kI_m1 ?_
      exact gg_iret C M dX9_heir_15 ⟨rfl, rfl⟩
def f_X9_say (m_pad : Nat → Int32) (m_padMany : Int32) (v1 : Int32) : Option (Int32 × (Nat → Int32) × Int32) := jn (f_X9_in v1.toInt64 33 126) (fun r1 => if r1 = 0 then some ((-2), m_pad, m_padMany) else if m_padMany = 60 then some ((-4), m_pad, m_padMany) else gu m_padMany 60 (some (m_padMany + 1, upd m_pad m_padMany.toNatClampNeg v1, m_padMany + 1)))
set_option maxHeartbeats 4000000 in
set_option maxRecDepth 100000 in
theorem c_X9_say (l : Launch) (D : va_G) (T : Nat → ClassId) (a : Nat → Nat) (m_beat : Nat → Int32) (m_nick : Nat → Int32) (m_owner : Nat → Int32) (m_place : Nat → Int32) (m_kept : Nat → Int32) (m_heard : Nat → Int32) (m_chosen : Nat → Int32) (m_minutes : Int32) (m_sightBeat : Nat → Int32) (m_sightOff : Nat → Int32) (m_sightIs : Nat → Int32) (m_sights : Int32) (m_pad : Nat → Int32) (m_padMany : Int32) (m_act : Nat → Int32) (m_who : Nat → Int32) (m_much : Nat → Int32) (m_acts : Int32) (m_heardMany : Int32) (m_wrongNow : Int32) (m_had : Nat → Int32) (m_badAct : Int32) (m_badWhy : Int32) (m_wrongAct : Int32) (m_wrongHeir : Int32) (m_odd : Nat → Int32) (m_span : Nat → Int32) (m_rise : Nat → Int32) (m_wins : Nat → Int32) (m_stored : Nat → Int32) (m_isStored : Nat → Int32) (m_storedAt : Int32) (m_isWriting : Int32) (v1 : Int32) (r : Int32 × (Nat → Int32) × Int32) (h : f_X9_say m_pad m_padMany v1 = some r) : Kt l D T yX9_say cX9_say 2 (some .int) (1, 0, 0, 25) [.ref (a 0), .int v1] (wM T a m_beat m_nick m_owner m_place m_kept m_heard m_chosen m_minutes m_sightBeat m_sightOff m_sightIs m_sights m_pad m_padMany m_act m_who m_much m_acts m_heardMany m_wrongNow m_had m_badAct m_badWhy m_wrongAct m_wrongHeir m_odd m_span m_rise m_wins m_stored m_isStored m_storedAt m_isWriting) (FF (fun (r : Int32 × (Nat → Int32) × Int32) => some (.int r.1)) (fun r => wM T a m_beat m_nick m_owner m_place m_kept m_heard m_chosen m_minutes m_sightBeat m_sightOff m_sightIs m_sights r.2.1 r.2.2 m_act m_who m_much m_acts m_heardMany m_wrongNow m_had m_badAct m_badWhy m_wrongAct m_wrongHeir m_odd m_span m_rise m_wins m_stored m_isStored m_storedAt m_isWriting) r) := by
  refine kt_of (own := RX9) (nm := "say") (lv := [(0, .ref (a 0)), (1, .int v1)]) (by decide) rfl rfl rfl (Nat.le_of_ble_eq_true rfl) h (fun X hn C M => ?_)
  have hnn : ((0, 0) : Nat × Nat).1 ≤ 0 ∧ ((0, 0) : Nat × Nat).2 ≤ 0 := ⟨Nat.le_refl 0, Nat.le_refl 0⟩
  unfold f_X9_say
  refine gg_iload_n C dX9_say_0 rfl 1 rfl ?_
  refine gg_i2l C dX9_say_1 ?_
  refine gg_ldc2 C tw_664 dX9_say_2 ?_
  refine gg_ldc2 C tw_665 dX9_say_5 ?_
  refine gg_callS C (fun l r h => c_X9_in l D T v1.toInt64 33 126 r h) lk_X9_76 ⟨by decide, by decide⟩ hnn rfl (rest := []) rfl (Nat.le_of_ble_eq_true rfl) dX9_say_8 cut_none (st2 := fun r1 => [.int r1]) (fun _ => rfl) (fun r1 => ?_)
  refine gg_if_ne C dX9_say_11 (tgt := 17) (by decide) (fun _ => ?_) (fun _ => ?_)
  · refine gg_aload_n C dX9_say_17 rfl 0 rfl ?_
    refine gf_X9_97 C 0 rfl rfl dX9_say_18 ?_
    refine gg_bipush C dX9_say_21 kB_60 ?_
    refine gg_icmp_ne C dX9_say_23 (tgt := 29) (by decide) (fun _ => ?_) (fun _ => ?_)
    · refine gg_aload_n C dX9_say_29 rfl 0 rfl ?_
      refine gf_X9_40 C 0 rfl rfl dX9_say_30 ?_
      refine gg_aload_n C dX9_say_33 rfl 0 rfl ?_
      refine gf_X9_97 C 0 rfl rfl dX9_say_34 ?_
      refine gg_iload_n C dX9_say_37 rfl 1 rfl ?_
      refine gg_iast C 11 rfl dX9_say_38 (ws' := wM T a m_beat m_nick m_owner m_place m_kept m_heard m_chosen m_minutes m_sightBeat m_sightOff m_sightIs m_sights (upd m_pad m_padMany.toNatClampNeg v1) m_padMany m_act m_who m_much m_acts m_heardMany m_wrongNow m_had m_badAct m_badWhy m_wrongAct m_wrongHeir m_odd m_span m_rise m_wins m_stored m_isStored m_storedAt m_isWriting) rfl ?_
      refine gg_aload_n C dX9_say_39 rfl 0 rfl ?_
      refine gg_dup C dX9_say_40 rfl ?_
      refine gf_X9_97 C 0 rfl rfl dX9_say_41 ?_
      refine gg_iconst C dX9_say_44 kI_1 ?_
      refine gg_iadd C dX9_say_45 ?_
      refine pf_X9_97 C 0 rfl (Nat.le_of_ble_eq_true rfl) dX9_say_46 (ws' := wM T a m_beat m_nick m_owner m_place m_kept m_heard m_chosen m_minutes m_sightBeat m_sightOff m_sightIs m_sights (upd m_pad m_padMany.toNatClampNeg v1) (m_padMany + 1) m_act m_who m_much m_acts m_heardMany m_wrongNow m_had m_badAct m_badWhy m_wrongAct m_wrongHeir m_odd m_span m_rise m_wins m_stored m_isStored m_storedAt m_isWriting) rfl ?_
      refine gg_aload_n C dX9_say_49 rfl 0 rfl ?_
      refine gf_X9_97 C 0 rfl rfl dX9_say_50 ?_
      exact gg_iret C M dX9_say_53 ⟨rfl, rfl⟩
    · refine gg_bipush C dX9_say_26 kB_m4 ?_
      exact gg_iret C M dX9_say_28 ⟨rfl, rfl⟩
  · refine gg_bipush C dX9_say_14 kB_m2 ?_
    exact gg_iret C M dX9_say_16 ⟨rfl, rfl⟩
def f_X9_wipe (m_padMany : Int32) : Option (Int32 × Int32) := some (m_padMany, 0)
set_option maxHeartbeats 4000000 in
set_option maxRecDepth 100000 in
theorem c_X9_wipe (l : Launch) (D : va_G) (T : Nat → ClassId) (a : Nat → Nat) (m_beat : Nat → Int32) (m_nick : Nat → Int32) (m_owner : Nat → Int32) (m_place : Nat → Int32) (m_kept : Nat → Int32) (m_heard : Nat → Int32) (m_chosen : Nat → Int32) (m_minutes : Int32) (m_sightBeat : Nat → Int32) (m_sightOff : Nat → Int32) (m_sightIs : Nat → Int32) (m_sights : Int32) (m_pad : Nat → Int32) (m_padMany : Int32) (m_act : Nat → Int32) (m_who : Nat → Int32) (m_much : Nat → Int32) (m_acts : Int32) (m_heardMany : Int32) (m_wrongNow : Int32) (m_had : Nat → Int32) (m_badAct : Int32) (m_badWhy : Int32) (m_wrongAct : Int32) (m_wrongHeir : Int32) (m_odd : Nat → Int32) (m_span : Nat → Int32) (m_rise : Nat → Int32) (m_wins : Nat → Int32) (m_stored : Nat → Int32) (m_isStored : Nat → Int32) (m_storedAt : Int32) (m_isWriting : Int32) (r : Int32 × Int32) (h : f_X9_wipe m_padMany = some r) : Kt l D T yX9_wipe cX9_wipe 2 (some .int) (0, 0, 0, 0) [.ref (a 0)] (wM T a m_beat m_nick m_owner m_place m_kept m_heard m_chosen m_minutes m_sightBeat m_sightOff m_sightIs m_sights m_pad m_padMany m_act m_who m_much m_acts m_heardMany m_wrongNow m_had m_badAct m_badWhy m_wrongAct m_wrongHeir m_odd m_span m_rise m_wins m_stored m_isStored m_storedAt m_isWriting) (FF (fun (r : Int32 × Int32) => some (.int r.1)) (fun r => wM T a m_beat m_nick m_owner m_place m_kept m_heard m_chosen m_minutes m_sightBeat m_sightOff m_sightIs m_sights m_pad r.2 m_act m_who m_much m_acts m_heardMany m_wrongNow m_had m_badAct m_badWhy m_wrongAct m_wrongHeir m_odd m_span m_rise m_wins m_stored m_isStored m_storedAt m_isWriting) r) := by
  refine kt_of (own := RX9) (nm := "wipe") (lv := [(0, .ref (a 0))]) (by decide) rfl rfl rfl (Nat.le_of_ble_eq_true rfl) h (fun X hn C M => ?_)
  have hnn : ((0, 0) : Nat × Nat).1 ≤ 0 ∧ ((0, 0) : Nat × Nat).2 ≤ 0 := ⟨Nat.le_refl 0, Nat.le_refl 0⟩
  unfold f_X9_wipe
  refine gg_aload_n C dX9_wipe_0 rfl 0 rfl ?_
  refine gf_X9_97 C 0 rfl rfl dX9_wipe_1 ?_
  refine gg_istore_n C dX9_wipe_4 rfl hn (by decide) (lv' := [(1, .int m_padMany), (0, .ref (a 0))]) rfl ?_
  refine gg_aload_n C dX9_wipe_5 rfl 1 rfl ?_
  refine gg_iconst C dX9_wipe_6 kI_0 ?_
  refine pf_X9_97 C 0 rfl (Nat.le_of_ble_eq_true rfl) dX9_wipe_7 (ws' := wM T a m_beat m_nick m_owner m_place m_kept m_heard m_chosen m_minutes m_sightBeat m_sightOff m_sightIs m_sights m_pad 0 m_act m_who m_much m_acts m_heardMany m_wrongNow m_had m_badAct m_badWhy m_wrongAct m_wrongHeir m_odd m_span m_rise m_wins m_stored m_isStored m_storedAt m_isWriting) rfl ?_
  refine gg_iload_n C dX9_wipe_10 rfl 0 rfl ?_
  exact gg_iret C M dX9_wipe_11 ⟨rfl, rfl⟩
def f_X9_close (m_act : Nat → Int32) (m_acts : Int32) (v1 : Int32) : Option (Int32 × (Nat → Int32) × Int32) := gu m_acts 60 (some (0, upd m_act m_acts.toNatClampNeg v1, m_acts + 1))
set_option maxHeartbeats 4000000 in
set_option maxRecDepth 100000 in
theorem c_X9_close (l : Launch) (D : va_G) (T : Nat → ClassId) (a : Nat → Nat) (m_beat : Nat → Int32) (m_nick : Nat → Int32) (m_owner : Nat → Int32) (m_place : Nat → Int32) (m_kept : Nat → Int32) (m_heard : Nat → Int32) (m_chosen : Nat → Int32) (m_minutes : Int32) (m_sightBeat : Nat → Int32) (m_sightOff : Nat → Int32) (m_sightIs : Nat → Int32) (m_sights : Int32) (m_pad : Nat → Int32) (m_padMany : Int32) (m_act : Nat → Int32) (m_who : Nat → Int32) (m_much : Nat → Int32) (m_acts : Int32) (m_heardMany : Int32) (m_wrongNow : Int32) (m_had : Nat → Int32) (m_badAct : Int32) (m_badWhy : Int32) (m_wrongAct : Int32) (m_wrongHeir : Int32) (m_odd : Nat → Int32) (m_span : Nat → Int32) (m_rise : Nat → Int32) (m_wins : Nat → Int32) (m_stored : Nat → Int32) (m_isStored : Nat → Int32) (m_storedAt : Int32) (m_isWriting : Int32) (v1 : Int32) (r : Int32 × (Nat → Int32) × Int32) (h : f_X9_close m_act m_acts v1 = some r) : Kt l D T yX9_close cX9_close 2 (some .int) (0, 0, 0, 0) [.ref (a 0), .int v1] (wM T a m_beat m_nick m_owner m_place m_kept m_heard m_chosen m_minutes m_sightBeat m_sightOff m_sightIs m_sights m_pad m_padMany m_act m_who m_much m_acts m_heardMany m_wrongNow m_had m_badAct m_badWhy m_wrongAct m_wrongHeir m_odd m_span m_rise m_wins m_stored m_isStored m_storedAt m_isWriting) (FF (fun (r : Int32 × (Nat → Int32) × Int32) => some (.int r.1)) (fun r => wM T a m_beat m_nick m_owner m_place m_kept m_heard m_chosen m_minutes m_sightBeat m_sightOff m_sightIs m_sights m_pad m_padMany r.2.1 m_who m_much r.2.2 m_heardMany m_wrongNow m_had m_badAct m_badWhy m_wrongAct m_wrongHeir m_odd m_span m_rise m_wins m_stored m_isStored m_storedAt m_isWriting) r) := by
  refine kt_of (own := RX9) (nm := "close") (lv := [(0, .ref (a 0)), (1, .int v1)]) (by decide) rfl rfl rfl (Nat.le_of_ble_eq_true rfl) h (fun X hn C M => ?_)
  have hnn : ((0, 0) : Nat × Nat).1 ≤ 0 ∧ ((0, 0) : Nat × Nat).2 ≤ 0 := ⟨Nat.le_refl 0, Nat.le_refl 0⟩
  unfold f_X9_close
  refine gg_aload_n C dX9_close_0 rfl 0 rfl ?_
  refine gf_X9_43 C 0 rfl rfl dX9_close_1 ?_
  refine gg_aload_n C dX9_close_4 rfl 0 rfl ?_
  refine gf_X9_101 C 0 rfl rfl dX9_close_5 ?_
  refine gg_iload_n C dX9_close_8 rfl 1 rfl ?_
  refine gg_iast C 12 rfl dX9_close_9 (ws' := wM T a m_beat m_nick m_owner m_place m_kept m_heard m_chosen m_minutes m_sightBeat m_sightOff m_sightIs m_sights m_pad m_padMany (upd m_act m_acts.toNatClampNeg v1) m_who m_much m_acts m_heardMany m_wrongNow m_had m_badAct m_badWhy m_wrongAct m_wrongHeir m_odd m_span m_rise m_wins m_stored m_isStored m_storedAt m_isWriting) rfl ?_
  refine gg_aload_n C dX9_close_10 rfl 0 rfl ?_
  refine gg_dup C dX9_close_11 rfl ?_
  refine gf_X9_101 C 0 rfl rfl dX9_close_12 ?_
  refine gg_iconst C dX9_close_15 kI_1 ?_
  refine gg_iadd C dX9_close_16 ?_
  refine pf_X9_101 C 0 rfl (Nat.le_of_ble_eq_true rfl) dX9_close_17 (ws' := wM T a m_beat m_nick m_owner m_place m_kept m_heard m_chosen m_minutes m_sightBeat m_sightOff m_sightIs m_sights m_pad m_padMany (upd m_act m_acts.toNatClampNeg v1) m_who m_much (m_acts + 1) m_heardMany m_wrongNow m_had m_badAct m_badWhy m_wrongAct m_wrongHeir m_odd m_span m_rise m_wins m_stored m_isStored m_storedAt m_isWriting) rfl ?_
  refine gg_iconst C dX9_close_20 kI_0 ?_
  exact gg_iret C M dX9_close_21 ⟨rfl, rfl⟩
def f_X9_begin (m_act : Nat → Int32) (m_who : Nat → Int32) (m_much : Nat → Int32) (m_acts : Int32) (v1 : Int32) : Option (Int32 × (Nat → Int32) × (Nat → Int32) × (Nat → Int32) × Int32) := jn (f_X9_in v1.toInt64 65 70) (fun r1 => jn (α := Int32) (if r1 = 0 then some 0 else some (v1 - 65)) (fun z2 => gu m_acts 60 (gu m_acts 60 (if r1 = 0 then if v1 = 46 then jn (f_X9_close m_act m_acts 7) (fun r4 => some (r4.1, r4.2.1, upd m_who m_acts.toNatClampNeg z2, upd m_much m_acts.toNatClampNeg 0, r4.2.2)) else some ((-6), m_act, upd m_who m_acts.toNatClampNeg z2, upd m_much m_acts.toNatClampNeg 0, m_acts) else some (1, m_act, upd m_who m_acts.toNatClampNeg z2, upd m_much m_acts.toNatClampNeg 0, m_acts)))))
set_option maxHeartbeats 4000000 in
set_option maxRecDepth 100000 in
theorem c_X9_begin (l : Launch) (D : va_G) (T : Nat → ClassId) (a : Nat → Nat) (m_beat : Nat → Int32) (m_nick : Nat → Int32) (m_owner : Nat → Int32) (m_place : Nat → Int32) (m_kept : Nat → Int32) (m_heard : Nat → Int32) (m_chosen : Nat → Int32) (m_minutes : Int32) (m_sightBeat : Nat → Int32) (m_sightOff : Nat → Int32) (m_sightIs : Nat → Int32) (m_sights : Int32) (m_pad : Nat → Int32) (m_padMany : Int32) (m_act : Nat → Int32) (m_who : Nat → Int32) (m_much : Nat → Int32) (m_acts : Int32) (m_heardMany : Int32) (m_wrongNow : Int32) (m_had : Nat → Int32) (m_badAct : Int32) (m_badWhy : Int32) (m_wrongAct : Int32) (m_wrongHeir : Int32) (m_odd : Nat → Int32) (m_span : Nat → Int32) (m_rise : Nat → Int32) (m_wins : Nat → Int32) (m_stored : Nat → Int32) (m_isStored : Nat → Int32) (m_storedAt : Int32) (m_isWriting : Int32) (v1 : Int32) (r : Int32 × (Nat → Int32) × (Nat → Int32) × (Nat → Int32) × Int32) (h : f_X9_begin m_act m_who m_much m_acts v1 = some r) : Kt l D T yX9_begin cX9_begin 3 (some .int) (1, 0, 0, 25) [.ref (a 0), .int v1] (wM T a m_beat m_nick m_owner m_place m_kept m_heard m_chosen m_minutes m_sightBeat m_sightOff m_sightIs m_sights m_pad m_padMany m_act m_who m_much m_acts m_heardMany m_wrongNow m_had m_badAct m_badWhy m_wrongAct m_wrongHeir m_odd m_span m_rise m_wins m_stored m_isStored m_storedAt m_isWriting) (FF (fun (r : Int32 × (Nat → Int32) × (Nat → Int32) × (Nat → Int32) × Int32) => some (.int r.1)) (fun r => wM T a m_beat m_nick m_owner m_place m_kept m_heard m_chosen m_minutes m_sightBeat m_sightOff m_sightIs m_sights m_pad m_padMany r.2.1 r.2.2.1 r.2.2.2.1 r.2.2.2.2 m_heardMany m_wrongNow m_had m_badAct m_badWhy m_wrongAct m_wrongHeir m_odd m_span m_rise m_wins m_stored m_isStored m_storedAt m_isWriting) r) := by
  refine kt_of (own := RX9) (nm := "begin") (lv := [(0, .ref (a 0)), (1, .int v1)]) (by decide) rfl rfl rfl (Nat.le_of_ble_eq_true rfl) h (fun X hn C M => ?_)
  have hnn : ((0, 0) : Nat × Nat).1 ≤ 0 ∧ ((0, 0) : Nat × Nat).2 ≤ 0 := ⟨Nat.le_refl 0, Nat.le_refl 0⟩
  unfold f_X9_begin
  refine gg_iload_n C dX9_begin_0 rfl 1 rfl ?_
  refine gg_i2l C dX9_begin_1 ?_
  refine gg_ldc2 C tw_682 dX9_begin_2 ?_
  refine gg_ldc2 C tw_683 dX9_begin_5 ?_
  refine gg_callS C (fun l r h => c_X9_in l D T v1.toInt64 65 70 r h) lk_X9_76 ⟨by decide, by decide⟩ hnn rfl (rest := []) rfl (Nat.le_of_ble_eq_true rfl) dX9_begin_8 cut_none (st2 := fun r1 => [.int r1]) (fun _ => rfl) (fun r1 => ?_)
  refine gg_istore_n C dX9_begin_11 rfl hn (by decide) (lv' := [(2, .int r1), (0, .ref (a 0)), (1, .int v1)]) rfl ?_
  refine gg_aload_n C dX9_begin_12 rfl 1 rfl ?_
  refine gf_X9_46 C 0 rfl rfl dX9_begin_13 ?_
  refine gg_aload_n C dX9_begin_16 rfl 1 rfl ?_
  refine gf_X9_101 C 0 rfl rfl dX9_begin_17 ?_
  refine gg_iload_n C dX9_begin_20 rfl 0 rfl ?_
  refine gg_join (α := Int32) 32 (fun z2 => wM T a m_beat m_nick m_owner m_place m_kept m_heard m_chosen m_minutes m_sightBeat m_sightOff m_sightIs m_sights m_pad m_padMany m_act m_who m_much m_acts m_heardMany m_wrongNow m_had m_badAct m_badWhy m_wrongAct m_wrongHeir m_odd m_span m_rise m_wins m_stored m_isStored m_storedAt m_isWriting) (fun z2 => [(0, .ref (a 0)), (1, .int v1), (2, .int r1)]) (fun z2 => [.int z2, .int m_acts, .ref (a 13)]) (fun z2 => ?_) (fun K3 => ?_)
  · refine gg_iast C 13 rfl dX9_begin_32 (ws' := wM T a m_beat m_nick m_owner m_place m_kept m_heard m_chosen m_minutes m_sightBeat m_sightOff m_sightIs m_sights m_pad m_padMany m_act (upd m_who m_acts.toNatClampNeg z2) m_much m_acts m_heardMany m_wrongNow m_had m_badAct m_badWhy m_wrongAct m_wrongHeir m_odd m_span m_rise m_wins m_stored m_isStored m_storedAt m_isWriting) rfl ?_
    refine gg_aload_n C dX9_begin_33 rfl 0 rfl ?_
    refine gf_X9_49 C 0 rfl rfl dX9_begin_34 ?_
    refine gg_aload_n C dX9_begin_37 rfl 0 rfl ?_
    refine gf_X9_101 C 0 rfl rfl dX9_begin_38 ?_
    refine gg_iconst C dX9_begin_41 kI_0 ?_
    refine gg_iast C 14 rfl dX9_begin_42 (ws' := wM T a m_beat m_nick m_owner m_place m_kept m_heard m_chosen m_minutes m_sightBeat m_sightOff m_sightIs m_sights m_pad m_padMany m_act (upd m_who m_acts.toNatClampNeg z2) (upd m_much m_acts.toNatClampNeg 0) m_acts m_heardMany m_wrongNow m_had m_badAct m_badWhy m_wrongAct m_wrongHeir m_odd m_span m_rise m_wins m_stored m_isStored m_storedAt m_isWriting) rfl ?_
    refine gg_iload_n C dX9_begin_43 rfl 2 rfl ?_
    refine gg_if_eq C dX9_begin_44 (tgt := 51) (by decide) (fun _ => ?_) (fun _ => ?_)
    · refine gg_iload_n C dX9_begin_51 rfl 1 rfl ?_
      refine gg_bipush C dX9_begin_52 kB_46 ?_
      refine gg_icmp_ne C dX9_begin_54 (tgt := 66) (by decide) (fun _ => ?_) (fun _ => ?_)
      · refine gg_bipush C dX9_begin_66 kB_m6 ?_
        exact gg_iret C M dX9_begin_68 ⟨rfl, rfl⟩
      · refine gg_aload_n C dX9_begin_57 rfl 0 rfl ?_
        refine gg_bipush C dX9_begin_58 kB_7 ?_
        refine gg_callV C (fun l r h => c_X9_close l D T a m_beat m_nick m_owner m_place m_kept m_heard m_chosen m_minutes m_sightBeat m_sightOff m_sightIs m_sights m_pad m_padMany m_act (upd m_who m_acts.toNatClampNeg z2) (upd m_much m_acts.toNatClampNeg 0) m_acts m_heardMany m_wrongNow m_had m_badAct m_badWhy m_wrongAct m_wrongHeir m_odd m_span m_rise m_wins m_stored m_isStored m_storedAt m_isWriting 7 r h) lk_X9_108 ⟨by decide, by decide⟩ hnn rfl (rest := []) rfl (Nat.le_of_ble_eq_true rfl) 0 rfl rfl dX9_begin_60 (ws2 := fun r4 => wM T a m_beat m_nick m_owner m_place m_kept m_heard m_chosen m_minutes m_sightBeat m_sightOff m_sightIs m_sights m_pad m_padMany r4.2.1 (upd m_who m_acts.toNatClampNeg z2) (upd m_much m_acts.toNatClampNeg 0) r4.2.2 m_heardMany m_wrongNow m_had m_badAct m_badWhy m_wrongAct m_wrongHeir m_odd m_span m_rise m_wins m_stored m_isStored m_storedAt m_isWriting) (cut_full (fun _ => rfl)) (st2 := fun r4 => [.int r4.1]) (fun _ => rfl) (fun r4 => ?_)
        refine gg_goto C dX9_begin_63 (tgt := 68) (by decide) ?_
        exact gg_iret C M dX9_begin_68 ⟨rfl, rfl⟩
    · refine gg_iconst C dX9_begin_47 kI_1 ?_
      refine gg_goto C dX9_begin_48 (tgt := 68) (by decide) ?_
      exact gg_iret C M dX9_begin_68 ⟨rfl, rfl⟩
  · refine gg_if_eq C dX9_begin_21 (tgt := 31) (by decide) (fun _ => ?_) (fun _ => ?_)
    · refine gg_iconst C dX9_begin_31 kI_0 ?_
      refine gg_sub [1, 2, 0] rfl ?_
      exact K3 0
    · refine gg_iload_n C dX9_begin_24 rfl 2 rfl ?_
      refine gg_bipush C dX9_begin_25 kB_65 ?_
      refine gg_isub C dX9_begin_27 ?_
      refine gg_goto C dX9_begin_28 (tgt := 32) (by decide) ?_
      refine gg_sub [1, 2, 0] rfl ?_
      exact K3 (v1 - 65)
def f_X9_count (m_act : Nat → Int32) (m_much : Nat → Int32) (m_acts : Int32) (v1 : Int32) (v2 : Int32) : Option (Int32 × (Nat → Int32) × (Nat → Int32) × Int32) := gu m_acts 60 (jn (f_X9_in v2.toInt64 49 57) (fun r1 => if r1 = 0 then some ((-6), m_act, upd m_much m_acts.toNatClampNeg (v2 - 48), m_acts) else jn (f_X9_close m_act m_acts v1) (fun r2 => some (r2.1, r2.2.1, upd m_much m_acts.toNatClampNeg (v2 - 48), r2.2.2))))
set_option maxHeartbeats 4000000 in
set_option maxRecDepth 100000 in
theorem c_X9_count (l : Launch) (D : va_G) (T : Nat → ClassId) (a : Nat → Nat) (m_beat : Nat → Int32) (m_nick : Nat → Int32) (m_owner : Nat → Int32) (m_place : Nat → Int32) (m_kept : Nat → Int32) (m_heard : Nat → Int32) (m_chosen : Nat → Int32) (m_minutes : Int32) (m_sightBeat : Nat → Int32) (m_sightOff : Nat → Int32) (m_sightIs : Nat → Int32) (m_sights : Int32) (m_pad : Nat → Int32) (m_padMany : Int32) (m_act : Nat → Int32) (m_who : Nat → Int32) (m_much : Nat → Int32) (m_acts : Int32) (m_heardMany : Int32) (m_wrongNow : Int32) (m_had : Nat → Int32) (m_badAct : Int32) (m_badWhy : Int32) (m_wrongAct : Int32) (m_wrongHeir : Int32) (m_odd : Nat → Int32) (m_span : Nat → Int32) (m_rise : Nat → Int32) (m_wins : Nat → Int32) (m_stored : Nat → Int32) (m_isStored : Nat → Int32) (m_storedAt : Int32) (m_isWriting : Int32) (v1 : Int32) (v2 : Int32) (r : Int32 × (Nat → Int32) × (Nat → Int32) × Int32) (h : f_X9_count m_act m_much m_acts v1 v2 = some r) : Kt l D T yX9_count cX9_count 3 (some .int) (1, 0, 0, 25) [.ref (a 0), .int v1, .int v2] (wM T a m_beat m_nick m_owner m_place m_kept m_heard m_chosen m_minutes m_sightBeat m_sightOff m_sightIs m_sights m_pad m_padMany m_act m_who m_much m_acts m_heardMany m_wrongNow m_had m_badAct m_badWhy m_wrongAct m_wrongHeir m_odd m_span m_rise m_wins m_stored m_isStored m_storedAt m_isWriting) (FF (fun (r : Int32 × (Nat → Int32) × (Nat → Int32) × Int32) => some (.int r.1)) (fun r => wM T a m_beat m_nick m_owner m_place m_kept m_heard m_chosen m_minutes m_sightBeat m_sightOff m_sightIs m_sights m_pad m_padMany r.2.1 m_who r.2.2.1 r.2.2.2 m_heardMany m_wrongNow m_had m_badAct m_badWhy m_wrongAct m_wrongHeir m_odd m_span m_rise m_wins m_stored m_isStored m_storedAt m_isWriting) r) := by
  refine kt_of (own := RX9) (nm := "count") (lv := [(0, .ref (a 0)), (1, .int v1), (2, .int v2)]) (by decide) rfl rfl rfl (Nat.le_of_ble_eq_true rfl) h (fun X hn C M => ?_)
  have hnn : ((0, 0) : Nat × Nat).1 ≤ 0 ∧ ((0, 0) : Nat × Nat).2 ≤ 0 := ⟨Nat.le_refl 0, Nat.le_refl 0⟩
  unfold f_X9_count
  refine gg_aload_n C dX9_count_0 rfl 0 rfl ?_
  refine gf_X9_49 C 0 rfl rfl dX9_count_1 ?_
  refine gg_aload_n C dX9_count_4 rfl 0 rfl ?_
  refine gf_X9_101 C 0 rfl rfl dX9_count_5 ?_
  refine gg_iload_n C dX9_count_8 rfl 2 rfl ?_
  refine gg_bipush C dX9_count_9 kB_48 ?_
  refine gg_isub C dX9_count_11 ?_
  refine gg_iast C 14 rfl dX9_count_12 (ws' := wM T a m_beat m_nick m_owner m_place m_kept m_heard m_chosen m_minutes m_sightBeat m_sightOff m_sightIs m_sights m_pad m_padMany m_act m_who (upd m_much m_acts.toNatClampNeg (v2 - 48)) m_acts m_heardMany m_wrongNow m_had m_badAct m_badWhy m_wrongAct m_wrongHeir m_odd m_span m_rise m_wins m_stored m_isStored m_storedAt m_isWriting) rfl ?_
  refine gg_iload_n C dX9_count_13 rfl 2 rfl ?_
  refine gg_i2l C dX9_count_14 ?_
  refine gg_ldc2 C tw_696 dX9_count_15 ?_
  refine gg_ldc2 C tw_697 dX9_count_18 ?_
  refine gg_callS C (fun l r h => c_X9_in l D T v2.toInt64 49 57 r h) lk_X9_76 ⟨by decide, by decide⟩ hnn rfl (rest := []) rfl (Nat.le_of_ble_eq_true rfl) dX9_count_21 cut_none (st2 := fun r1 => [.int r1]) (fun _ => rfl) (fun r1 => ?_)
  refine gg_if_eq C dX9_count_24 (tgt := 35) (by decide) (fun _ => ?_) (fun _ => ?_)
  · refine gg_bipush C dX9_count_35 kB_m6 ?_
    exact gg_iret C M dX9_count_37 ⟨rfl, rfl⟩
  · refine gg_aload_n C dX9_count_27 rfl 0 rfl ?_
    refine gg_iload_n C dX9_count_28 rfl 1 rfl ?_
    refine gg_callV C (fun l r h => c_X9_close l D T a m_beat m_nick m_owner m_place m_kept m_heard m_chosen m_minutes m_sightBeat m_sightOff m_sightIs m_sights m_pad m_padMany m_act m_who (upd m_much m_acts.toNatClampNeg (v2 - 48)) m_acts m_heardMany m_wrongNow m_had m_badAct m_badWhy m_wrongAct m_wrongHeir m_odd m_span m_rise m_wins m_stored m_isStored m_storedAt m_isWriting v1 r h) lk_X9_108 ⟨by decide, by decide⟩ hnn rfl (rest := []) rfl (Nat.le_of_ble_eq_true rfl) 0 rfl rfl dX9_count_29 (ws2 := fun r2 => wM T a m_beat m_nick m_owner m_place m_kept m_heard m_chosen m_minutes m_sightBeat m_sightOff m_sightIs m_sights m_pad m_padMany r2.2.1 m_who (upd m_much m_acts.toNatClampNeg (v2 - 48)) r2.2.2 m_heardMany m_wrongNow m_had m_badAct m_badWhy m_wrongAct m_wrongHeir m_odd m_span m_rise m_wins m_stored m_isStored m_storedAt m_isWriting) (cut_full (fun _ => rfl)) (st2 := fun r2 => [.int r2.1]) (fun _ => rfl) (fun r2 => ?_)
    refine gg_goto C dX9_count_32 (tgt := 37) (by decide) ?_
    exact gg_iret C M dX9_count_37 ⟨rfl, rfl⟩
def f_X9_deed (m_act : Nat → Int32) (m_much : Nat → Int32) (m_acts : Int32) (v1 : Int32) : Option (Int32 × (Nat → Int32) × (Nat → Int32) × Int32) := if v1 = 33 then jn (f_X9_close m_act m_acts 6) (fun r2 => some (r2.1, r2.2.1, m_much, r2.2.2)) else (if v1 = 42 then jn (f_X9_close m_act m_acts 3) (fun r4 => some (r4.1, r4.2.1, m_much, r4.2.2)) else (if v1 = 60 then some (3, m_act, m_much, m_acts) else (if v1 = 62 then some (2, m_act, m_much, m_acts) else (if v1 = 63 then jn (f_X9_close m_act m_acts 2) (fun r8 => some (r8.1, r8.2.1, m_much, r8.2.2)) else (if v1 = 126 then jn (f_X9_close m_act m_acts 5) (fun r10 => some (r10.1, r10.2.1, m_much, r10.2.2)) else (jn (f_X9_count m_act m_much m_acts 4 v1) (fun r11 => some (r11.1, r11.2.1, r11.2.2.1, r11.2.2.2))))))))
set_option maxHeartbeats 4000000 in
set_option maxRecDepth 100000 in
theorem c_X9_deed (l : Launch) (D : va_G) (T : Nat → ClassId) (a : Nat → Nat) (m_beat : Nat → Int32) (m_nick : Nat → Int32) (m_owner : Nat → Int32) (m_place : Nat → Int32) (m_kept : Nat → Int32) (m_heard : Nat → Int32) (m_chosen : Nat → Int32) (m_minutes : Int32) (m_sightBeat : Nat → Int32) (m_sightOff : Nat → Int32) (m_sightIs : Nat → Int32) (m_sights : Int32) (m_pad : Nat → Int32) (m_padMany : Int32) (m_act : Nat → Int32) (m_who : Nat → Int32) (m_much : Nat → Int32) (m_acts : Int32) (m_heardMany : Int32) (m_wrongNow : Int32) (m_had : Nat → Int32) (m_badAct : Int32) (m_badWhy : Int32) (m_wrongAct : Int32) (m_wrongHeir : Int32) (m_odd : Nat → Int32) (m_span : Nat → Int32) (m_rise : Nat → Int32) (m_wins : Nat → Int32) (m_stored : Nat → Int32) (m_isStored : Nat → Int32) (m_storedAt : Int32) (m_isWriting : Int32) (v1 : Int32) (r : Int32 × (Nat → Int32) × (Nat → Int32) × Int32) (h : f_X9_deed m_act m_much m_acts v1 = some r) : Kt l D T yX9_deed cX9_deed 2 (some .int) (2, 0, 0, 47) [.ref (a 0), .int v1] (wM T a m_beat m_nick m_owner m_place m_kept m_heard m_chosen m_minutes m_sightBeat m_sightOff m_sightIs m_sights m_pad m_padMany m_act m_who m_much m_acts m_heardMany m_wrongNow m_had m_badAct m_badWhy m_wrongAct m_wrongHeir m_odd m_span m_rise m_wins m_stored m_isStored m_storedAt m_isWriting) (FF (fun (r : Int32 × (Nat → Int32) × (Nat → Int32) × Int32) => some (.int r.1)) (fun r => wM T a m_beat m_nick m_owner m_place m_kept m_heard m_chosen m_minutes m_sightBeat m_sightOff m_sightIs m_sights m_pad m_padMany r.2.1 m_who r.2.2.1 r.2.2.2 m_heardMany m_wrongNow m_had m_badAct m_badWhy m_wrongAct m_wrongHeir m_odd m_span m_rise m_wins m_stored m_isStored m_storedAt m_isWriting) r) := by
  refine kt_of (own := RX9) (nm := "deed") (lv := [(0, .ref (a 0)), (1, .int v1)]) (by decide) rfl rfl rfl (Nat.le_of_ble_eq_true rfl) h (fun X hn C M => ?_)
  have hnn : ((0, 0) : Nat × Nat).1 ≤ 0 ∧ ((0, 0) : Nat × Nat).2 ≤ 0 := ⟨Nat.le_refl 0, Nat.le_refl 0⟩
  unfold f_X9_deed
  refine gg_iload_n C dX9_deed_0 rfl 1 rfl ?_
  refine gg_ite (fun hs1 => ?_) (fun hs1 => ?_)
  · refine gg_look C dX9_deed_1 (by decide) (off := 81) (by rw [hs1]; decide) (tgt := 82) (by decide) ?_
    refine gg_aload_n C dX9_deed_82 rfl 0 rfl ?_
    refine gg_bipush C dX9_deed_83 kB_6 ?_
    refine gg_callV C (fun l r h => c_X9_close l D T a m_beat m_nick m_owner m_place m_kept m_heard m_chosen m_minutes m_sightBeat m_sightOff m_sightIs m_sights m_pad m_padMany m_act m_who m_much m_acts m_heardMany m_wrongNow m_had m_badAct m_badWhy m_wrongAct m_wrongHeir m_odd m_span m_rise m_wins m_stored m_isStored m_storedAt m_isWriting 6 r h) lk_X9_108 ⟨by decide, by decide⟩ hnn rfl (rest := []) rfl (Nat.le_of_ble_eq_true rfl) 0 rfl rfl dX9_deed_85 (ws2 := fun r2 => wM T a m_beat m_nick m_owner m_place m_kept m_heard m_chosen m_minutes m_sightBeat m_sightOff m_sightIs m_sights m_pad m_padMany r2.2.1 m_who m_much r2.2.2 m_heardMany m_wrongNow m_had m_badAct m_badWhy m_wrongAct m_wrongHeir m_odd m_span m_rise m_wins m_stored m_isStored m_storedAt m_isWriting) (cut_full (fun _ => rfl)) (st2 := fun r2 => [.int r2.1]) (fun _ => rfl) (fun r2 => ?_)
    exact gg_iret C M dX9_deed_88 ⟨rfl, rfl⟩
  refine gg_ite (fun hs3 => ?_) (fun hs3 => ?_)
  · refine gg_look C dX9_deed_1 (by decide) (off := 69) (by rw [hs3]; decide) (tgt := 70) (by decide) ?_
    refine gg_aload_n C dX9_deed_70 rfl 0 rfl ?_
    refine gg_iconst C dX9_deed_71 kI_3 ?_
    refine gg_callV C (fun l r h => c_X9_close l D T a m_beat m_nick m_owner m_place m_kept m_heard m_chosen m_minutes m_sightBeat m_sightOff m_sightIs m_sights m_pad m_padMany m_act m_who m_much m_acts m_heardMany m_wrongNow m_had m_badAct m_badWhy m_wrongAct m_wrongHeir m_odd m_span m_rise m_wins m_stored m_isStored m_storedAt m_isWriting 3 r h) lk_X9_108 ⟨by decide, by decide⟩ hnn rfl (rest := []) rfl (Nat.le_of_ble_eq_true rfl) 0 rfl rfl dX9_deed_72 (ws2 := fun r4 => wM T a m_beat m_nick m_owner m_place m_kept m_heard m_chosen m_minutes m_sightBeat m_sightOff m_sightIs m_sights m_pad m_padMany r4.2.1 m_who m_much r4.2.2 m_heardMany m_wrongNow m_had m_badAct m_badWhy m_wrongAct m_wrongHeir m_odd m_span m_rise m_wins m_stored m_isStored m_storedAt m_isWriting) (cut_full (fun _ => rfl)) (st2 := fun r4 => [.int r4.1]) (fun _ => rfl) (fun r4 => ?_)
    exact gg_iret C M dX9_deed_75 ⟨rfl, rfl⟩
  refine gg_ite (fun hs5 => ?_) (fun hs5 => ?_)
  · refine gg_look C dX9_deed_1 (by decide) (off := 61) (by rw [hs5]; decide) (tgt := 62) (by decide) ?_
    refine gg_iconst C dX9_deed_62 kI_3 ?_
    exact gg_iret C M dX9_deed_63 ⟨rfl, rfl⟩
  refine gg_ite (fun hs6 => ?_) (fun hs6 => ?_)
  · refine gg_look C dX9_deed_1 (by decide) (off := 59) (by rw [hs6]; decide) (tgt := 60) (by decide) ?_
    refine gg_iconst C dX9_deed_60 kI_2 ?_
    exact gg_iret C M dX9_deed_61 ⟨rfl, rfl⟩
  refine gg_ite (fun hs7 => ?_) (fun hs7 => ?_)
  · refine gg_look C dX9_deed_1 (by decide) (off := 63) (by rw [hs7]; decide) (tgt := 64) (by decide) ?_
    refine gg_aload_n C dX9_deed_64 rfl 0 rfl ?_
    refine gg_iconst C dX9_deed_65 kI_2 ?_
    refine gg_callV C (fun l r h => c_X9_close l D T a m_beat m_nick m_owner m_place m_kept m_heard m_chosen m_minutes m_sightBeat m_sightOff m_sightIs m_sights m_pad m_padMany m_act m_who m_much m_acts m_heardMany m_wrongNow m_had m_badAct m_badWhy m_wrongAct m_wrongHeir m_odd m_span m_rise m_wins m_stored m_isStored m_storedAt m_isWriting 2 r h) lk_X9_108 ⟨by decide, by decide⟩ hnn rfl (rest := []) rfl (Nat.le_of_ble_eq_true rfl) 0 rfl rfl dX9_deed_66 (ws2 := fun r8 => wM T a m_beat m_nick m_owner m_place m_kept m_heard m_chosen m_minutes m_sightBeat m_sightOff m_sightIs m_sights m_pad m_padMany r8.2.1 m_who m_much r8.2.2 m_heardMany m_wrongNow m_had m_badAct m_badWhy m_wrongAct m_wrongHeir m_odd m_span m_rise m_wins m_stored m_isStored m_storedAt m_isWriting) (cut_full (fun _ => rfl)) (st2 := fun r8 => [.int r8.1]) (fun _ => rfl) (fun r8 => ?_)
    exact gg_iret C M dX9_deed_69 ⟨rfl, rfl⟩
  refine gg_ite (fun hs9 => ?_) (fun hs9 => ?_)
  · refine gg_look C dX9_deed_1 (by decide) (off := 75) (by rw [hs9]; decide) (tgt := 76) (by decide) ?_
    refine gg_aload_n C dX9_deed_76 rfl 0 rfl ?_
    refine gg_iconst C dX9_deed_77 kI_5 ?_
    refine gg_callV C (fun l r h => c_X9_close l D T a m_beat m_nick m_owner m_place m_kept m_heard m_chosen m_minutes m_sightBeat m_sightOff m_sightIs m_sights m_pad m_padMany m_act m_who m_much m_acts m_heardMany m_wrongNow m_had m_badAct m_badWhy m_wrongAct m_wrongHeir m_odd m_span m_rise m_wins m_stored m_isStored m_storedAt m_isWriting 5 r h) lk_X9_108 ⟨by decide, by decide⟩ hnn rfl (rest := []) rfl (Nat.le_of_ble_eq_true rfl) 0 rfl rfl dX9_deed_78 (ws2 := fun r10 => wM T a m_beat m_nick m_owner m_place m_kept m_heard m_chosen m_minutes m_sightBeat m_sightOff m_sightIs m_sights m_pad m_padMany r10.2.1 m_who m_much r10.2.2 m_heardMany m_wrongNow m_had m_badAct m_badWhy m_wrongAct m_wrongHeir m_odd m_span m_rise m_wins m_stored m_isStored m_storedAt m_isWriting) (cut_full (fun _ => rfl)) (st2 := fun r10 => [.int r10.1]) (fun _ => rfl) (fun r10 => ?_)
    exact gg_iret C M dX9_deed_81 ⟨rfl, rfl⟩
  refine gg_look C dX9_deed_1 (by decide) (off := 88) (by show Op.lookupswitch.offset ([(33, 81), (42, 69), (60, 61), (62, 59), (63, 63), (126, 75)] : List (Int × Int)) (88) _ = _; rw [lv_osw hs1 (by decide), lv_osw hs3 (by decide), lv_osw hs5 (by decide), lv_osw hs6 (by decide), lv_osw hs7 (by decide), lv_osw hs9 (by decide)]; rfl) (tgt := 89) (by decide) ?_
  refine gg_aload_n C dX9_deed_89 rfl 0 rfl ?_
  refine gg_iconst C dX9_deed_90 kI_4 ?_
  refine gg_iload_n C dX9_deed_91 rfl 1 rfl ?_
  refine gg_callV C (fun l r h => c_X9_count l D T a m_beat m_nick m_owner m_place m_kept m_heard m_chosen m_minutes m_sightBeat m_sightOff m_sightIs m_sights m_pad m_padMany m_act m_who m_much m_acts m_heardMany m_wrongNow m_had m_badAct m_badWhy m_wrongAct m_wrongHeir m_odd m_span m_rise m_wins m_stored m_isStored m_storedAt m_isWriting 4 v1 r h) lk_X9_116 ⟨by decide, by decide⟩ hnn rfl (rest := []) rfl (Nat.le_of_ble_eq_true rfl) 0 rfl rfl dX9_deed_92 (ws2 := fun r11 => wM T a m_beat m_nick m_owner m_place m_kept m_heard m_chosen m_minutes m_sightBeat m_sightOff m_sightIs m_sights m_pad m_padMany r11.2.1 m_who r11.2.2.1 r11.2.2.2 m_heardMany m_wrongNow m_had m_badAct m_badWhy m_wrongAct m_wrongHeir m_odd m_span m_rise m_wins m_stored m_isStored m_storedAt m_isWriting) (cut_full (fun _ => rfl)) (st2 := fun r11 => [.int r11.1]) (fun _ => rfl) (fun r11 => ?_)
  exact gg_iret C M dX9_deed_95 ⟨rfl, rfl⟩
def f_X9_readOn (m_act : Nat → Int32) (m_who : Nat → Int32) (m_much : Nat → Int32) (m_acts : Int32) (v1 : Int32) (v2 : Int32) : Option (Int32 × (Nat → Int32) × (Nat → Int32) × (Nat → Int32) × Int32) := if v1 = 0 then jn (f_X9_begin m_act m_who m_much m_acts v2) (fun r2 => some (r2.1, r2.2.1, r2.2.2.1, r2.2.2.2.1, r2.2.2.2.2)) else (if v1 = 1 then jn (f_X9_deed m_act m_much m_acts v2) (fun r4 => some (r4.1, r4.2.1, m_who, r4.2.2.1, r4.2.2.2)) else (jn (α := Int32) (if v1 = 2 then some 0 else some 1) (fun z5 => jn (f_X9_count m_act m_much m_acts z5 v2) (fun r7 => some (r7.1, r7.2.1, m_who, r7.2.2.1, r7.2.2.2)))))
set_option maxHeartbeats 4000000 in
set_option maxRecDepth 100000 in
theorem c_X9_readOn (l : Launch) (D : va_G) (T : Nat → ClassId) (a : Nat → Nat) (m_beat : Nat → Int32) (m_nick : Nat → Int32) (m_owner : Nat → Int32) (m_place : Nat → Int32) (m_kept : Nat → Int32) (m_heard : Nat → Int32) (m_chosen : Nat → Int32) (m_minutes : Int32) (m_sightBeat : Nat → Int32) (m_sightOff : Nat → Int32) (m_sightIs : Nat → Int32) (m_sights : Int32) (m_pad : Nat → Int32) (m_padMany : Int32) (m_act : Nat → Int32) (m_who : Nat → Int32) (m_much : Nat → Int32) (m_acts : Int32) (m_heardMany : Int32) (m_wrongNow : Int32) (m_had : Nat → Int32) (m_badAct : Int32) (m_badWhy : Int32) (m_wrongAct : Int32) (m_wrongHeir : Int32) (m_odd : Nat → Int32) (m_span : Nat → Int32) (m_rise : Nat → Int32) (m_wins : Nat → Int32) (m_stored : Nat → Int32) (m_isStored : Nat → Int32) (m_storedAt : Int32) (m_isWriting : Int32) (v1 : Int32) (v2 : Int32) (r : Int32 × (Nat → Int32) × (Nat → Int32) × (Nat → Int32) × Int32) (h : f_X9_readOn m_act m_who m_much m_acts v1 v2 = some r) : Kt l D T yX9_readOn cX9_readOn 3 (some .int) (3, 0, 0, 68) [.ref (a 0), .int v1, .int v2] (wM T a m_beat m_nick m_owner m_place m_kept m_heard m_chosen m_minutes m_sightBeat m_sightOff m_sightIs m_sights m_pad m_padMany m_act m_who m_much m_acts m_heardMany m_wrongNow m_had m_badAct m_badWhy m_wrongAct m_wrongHeir m_odd m_span m_rise m_wins m_stored m_isStored m_storedAt m_isWriting) (FF (fun (r : Int32 × (Nat → Int32) × (Nat → Int32) × (Nat → Int32) × Int32) => some (.int r.1)) (fun r => wM T a m_beat m_nick m_owner m_place m_kept m_heard m_chosen m_minutes m_sightBeat m_sightOff m_sightIs m_sights m_pad m_padMany r.2.1 r.2.2.1 r.2.2.2.1 r.2.2.2.2 m_heardMany m_wrongNow m_had m_badAct m_badWhy m_wrongAct m_wrongHeir m_odd m_span m_rise m_wins m_stored m_isStored m_storedAt m_isWriting) r) := by
  refine kt_of (own := RX9) (nm := "readOn") (lv := [(0, .ref (a 0)), (1, .int v1), (2, .int v2)]) (by decide) rfl rfl rfl (Nat.le_of_ble_eq_true rfl) h (fun X hn C M => ?_)
  have hnn : ((0, 0) : Nat × Nat).1 ≤ 0 ∧ ((0, 0) : Nat × Nat).2 ≤ 0 := ⟨Nat.le_refl 0, Nat.le_refl 0⟩
  unfold f_X9_readOn
  refine gg_iload_n C dX9_readOn_0 rfl 1 rfl ?_
  refine gg_ite (fun hs1 => ?_) (fun hs1 => ?_)
  · refine gg_look C dX9_readOn_1 (by decide) (off := 27) (by rw [hs1]; decide) (tgt := 28) (by decide) ?_
    refine gg_aload_n C dX9_readOn_28 rfl 0 rfl ?_
    refine gg_iload_n C dX9_readOn_29 rfl 2 rfl ?_
    refine gg_callV C (fun l r h => c_X9_begin l D T a m_beat m_nick m_owner m_place m_kept m_heard m_chosen m_minutes m_sightBeat m_sightOff m_sightIs m_sights m_pad m_padMany m_act m_who m_much m_acts m_heardMany m_wrongNow m_had m_badAct m_badWhy m_wrongAct m_wrongHeir m_odd m_span m_rise m_wins m_stored m_isStored m_storedAt m_isWriting v2 r h) lk_X9_120 ⟨by decide, by decide⟩ hnn rfl (rest := []) rfl (Nat.le_of_ble_eq_true rfl) 0 rfl rfl dX9_readOn_30 (ws2 := fun r2 => wM T a m_beat m_nick m_owner m_place m_kept m_heard m_chosen m_minutes m_sightBeat m_sightOff m_sightIs m_sights m_pad m_padMany r2.2.1 r2.2.2.1 r2.2.2.2.1 r2.2.2.2.2 m_heardMany m_wrongNow m_had m_badAct m_badWhy m_wrongAct m_wrongHeir m_odd m_span m_rise m_wins m_stored m_isStored m_storedAt m_isWriting) (cut_full (fun _ => rfl)) (st2 := fun r2 => [.int r2.1]) (fun _ => rfl) (fun r2 => ?_)
    exact gg_iret C M dX9_readOn_33 ⟨rfl, rfl⟩
  refine gg_ite (fun hs3 => ?_) (fun hs3 => ?_)
  · refine gg_look C dX9_readOn_1 (by decide) (off := 33) (by rw [hs3]; decide) (tgt := 34) (by decide) ?_
    refine gg_aload_n C dX9_readOn_34 rfl 0 rfl ?_
    refine gg_iload_n C dX9_readOn_35 rfl 2 rfl ?_
    refine gg_callV C (fun l r h => c_X9_deed l D T a m_beat m_nick m_owner m_place m_kept m_heard m_chosen m_minutes m_sightBeat m_sightOff m_sightIs m_sights m_pad m_padMany m_act m_who m_much m_acts m_heardMany m_wrongNow m_had m_badAct m_badWhy m_wrongAct m_wrongHeir m_odd m_span m_rise m_wins m_stored m_isStored m_storedAt m_isWriting v2 r h) lk_X9_123 ⟨by decide, by decide⟩ hnn rfl (rest := []) rfl (Nat.le_of_ble_eq_true rfl) 0 rfl rfl dX9_readOn_36 (ws2 := fun r4 => wM T a m_beat m_nick m_owner m_place m_kept m_heard m_chosen m_minutes m_sightBeat m_sightOff m_sightIs m_sights m_pad m_padMany r4.2.1 m_who r4.2.2.1 r4.2.2.2 m_heardMany m_wrongNow m_had m_badAct m_badWhy m_wrongAct m_wrongHeir m_odd m_span m_rise m_wins m_stored m_isStored m_storedAt m_isWriting) (cut_full (fun _ => rfl)) (st2 := fun r4 => [.int r4.1]) (fun _ => rfl) (fun r4 => ?_)
    exact gg_iret C M dX9_readOn_39 ⟨rfl, rfl⟩
  refine gg_look C dX9_readOn_1 (by decide) (off := 39) (by show Op.lookupswitch.offset ([(0, 27), (1, 33)] : List (Int × Int)) (39) _ = _; rw [lv_osw hs1 (by decide), lv_osw hs3 (by decide)]; rfl) (tgt := 40) (by decide) ?_
  refine gg_aload_n C dX9_readOn_40 rfl 0 rfl ?_
  refine gg_iload_n C dX9_readOn_41 rfl 1 rfl ?_
  refine gg_iconst C dX9_readOn_42 kI_2 ?_
  refine gg_join (α := Int32) 51 (fun z5 => wM T a m_beat m_nick m_owner m_place m_kept m_heard m_chosen m_minutes m_sightBeat m_sightOff m_sightIs m_sights m_pad m_padMany m_act m_who m_much m_acts m_heardMany m_wrongNow m_had m_badAct m_badWhy m_wrongAct m_wrongHeir m_odd m_span m_rise m_wins m_stored m_isStored m_storedAt m_isWriting) (fun z5 => [(0, .ref (a 0)), (1, .int v1), (2, .int v2)]) (fun z5 => [.int z5, .ref (a 0)]) (fun z5 => ?_) (fun K6 => ?_)
  · refine gg_iload_n C dX9_readOn_51 rfl 2 rfl ?_
    refine gg_callV C (fun l r h => c_X9_count l D T a m_beat m_nick m_owner m_place m_kept m_heard m_chosen m_minutes m_sightBeat m_sightOff m_sightIs m_sights m_pad m_padMany m_act m_who m_much m_acts m_heardMany m_wrongNow m_had m_badAct m_badWhy m_wrongAct m_wrongHeir m_odd m_span m_rise m_wins m_stored m_isStored m_storedAt m_isWriting z5 v2 r h) lk_X9_116 ⟨by decide, by decide⟩ hnn rfl (rest := []) rfl (Nat.le_of_ble_eq_true rfl) 0 rfl rfl dX9_readOn_52 (ws2 := fun r7 => wM T a m_beat m_nick m_owner m_place m_kept m_heard m_chosen m_minutes m_sightBeat m_sightOff m_sightIs m_sights m_pad m_padMany r7.2.1 m_who r7.2.2.1 r7.2.2.2 m_heardMany m_wrongNow m_had m_badAct m_badWhy m_wrongAct m_wrongHeir m_odd m_span m_rise m_wins m_stored m_isStored m_storedAt m_isWriting) (cut_full (fun _ => rfl)) (st2 := fun r7 => [.int r7.1]) (fun _ => rfl) (fun r7 => ?_)
    exact gg_iret C M dX9_readOn_55 ⟨rfl, rfl⟩
  · refine gg_icmp_ne C dX9_readOn_43 (tgt := 50) (by decide) (fun _ => ?_) (fun _ => ?_)
    · refine gg_iconst C dX9_readOn_50 kI_1 ?_
      refine gg_sub [0, 1, 2] rfl ?_
      exact K6 1
    · refine gg_iconst C dX9_readOn_46 kI_0 ?_
      refine gg_goto C dX9_readOn_47 (tgt := 51) (by decide) ?_
      refine gg_sub [0, 1, 2] rfl ?_
      exact K6 0
def f_X9_fault_L9 (m_pad : Nat → Int32) (m_padMany : Int32) : Nat → Int32 → Int32 → (Nat → Int32) → (Nat → Int32) → (Nat → Int32) → Int32 → Option ((Int32 × Int32 × (Nat → Int32) × (Nat → Int32) × (Nat → Int32) × Int32) ⊕ (Int32 × (Nat → Int32) × (Nat → Int32) × (Nat → Int32) × Int32))
  | 0, _, _, _, _, _, _ => none
  | nn + 1, y1, y2, m_act, m_who, m_much, m_acts => if m_padMany ≤ y2 then some (.inl (y1, y2, m_act, m_who, m_much, m_acts)) else gu y2 60 (jn (f_X9_readOn m_act m_who m_much m_acts y1 (m_pad y2.toNatClampNeg)) (fun r1 => if 0 ≤ r1.1 then f_X9_fault_L9 m_pad m_padMany nn r1.1 (y2 + 1) r1.2.1 r1.2.2.1 r1.2.2.2.1 r1.2.2.2.2 else some (.inr (y2, r1.2.1, r1.2.2.1, r1.2.2.2.1, r1.2.2.2.2))))
set_option maxHeartbeats 4000000 in
set_option maxRecDepth 100000 in
theorem g_X9_fault_L9 {X : KX} {D : va_G} {T : Nat → ClassId} {Q : (Int32 × Int32 × (Nat → Int32) × (Nat → Int32) × (Nat → Int32) × Int32) ⊕ (Int32 × (Nat → Int32) × (Nat → Int32) × (Nat → Int32) × Int32) → State → Prop} {n : Nat × Nat} (C : Cx X D T cX9_fault RX9 { frames := 4, cells := 0, slots := 0, locals := 90 }) (hnn : n.1 ≤ 0 ∧ n.2 ≤ 0) (hn : kxL X = 3) (a : Nat → Nat)  (m_beat : Nat → Int32) (m_nick : Nat → Int32) (m_owner : Nat → Int32) (m_place : Nat → Int32) (m_kept : Nat → Int32) (m_heard : Nat → Int32) (m_chosen : Nat → Int32) (m_minutes : Int32) (m_sightBeat : Nat → Int32) (m_sightOff : Nat → Int32) (m_sightIs : Nat → Int32) (m_sights : Int32) (m_pad : Nat → Int32) (m_padMany : Int32) (m_heardMany : Int32) (m_wrongNow : Int32) (m_had : Nat → Int32) (m_badAct : Int32) (m_badWhy : Int32) (m_wrongAct : Int32) (m_wrongHeir : Int32) (m_odd : Nat → Int32) (m_span : Nat → Int32) (m_rise : Nat → Int32) (m_wins : Nat → Int32) (m_stored : Nat → Int32) (m_isStored : Nat → Int32) (m_storedAt : Int32) (m_isWriting : Int32) (hk : ∀ v : Int32 × Int32 × (Nat → Int32) × (Nat → Int32) × (Nat → Int32) × Int32, GG X D Q n (wM T a m_beat m_nick m_owner m_place m_kept m_heard m_chosen m_minutes m_sightBeat m_sightOff m_sightIs m_sights m_pad m_padMany v.2.2.1 v.2.2.2.1 v.2.2.2.2.1 v.2.2.2.2.2 m_heardMany m_wrongNow m_had m_badAct m_badWhy m_wrongAct m_wrongHeir m_odd m_span m_rise m_wins m_stored m_isStored m_storedAt m_isWriting) [(0, .ref (a 0)), (1, .int v.1), (2, .int v.2.1)] 41 [] (some (.inl v))) (hr0 : ∀ (v : Int32) (m_act' : Nat → Int32) (m_who' : Nat → Int32) (m_much' : Nat → Int32) (m_acts' : Int32), GG X D Q n (wM T a m_beat m_nick m_owner m_place m_kept m_heard m_chosen m_minutes m_sightBeat m_sightOff m_sightIs m_sights m_pad m_padMany m_act' m_who' m_much' m_acts' m_heardMany m_wrongNow m_had m_badAct m_badWhy m_wrongAct m_wrongHeir m_odd m_span m_rise m_wins m_stored m_isStored m_storedAt m_isWriting) [] 34 [.int v] (some (.inr (v, m_act', m_who', m_much', m_acts')))) : ∀ (nn : Nat) (y1 : Int32) (y2 : Int32) (m_act : Nat → Int32) (m_who : Nat → Int32) (m_much : Nat → Int32) (m_acts : Int32), GG X D Q n (wM T a m_beat m_nick m_owner m_place m_kept m_heard m_chosen m_minutes m_sightBeat m_sightOff m_sightIs m_sights m_pad m_padMany m_act m_who m_much m_acts m_heardMany m_wrongNow m_had m_badAct m_badWhy m_wrongAct m_wrongHeir m_odd m_span m_rise m_wins m_stored m_isStored m_storedAt m_isWriting) [(0, .ref (a 0)), (1, .int y1), (2, .int y2)] 9 [] (f_X9_fault_L9 m_pad m_padMany nn y1 y2 m_act m_who m_much m_acts) := by
  intro nn
  induction nn with
  | zero => intros; exact gg_none
  | succ nn ih =>
    intro y1 y2 m_act m_who m_much m_acts
    unfold f_X9_fault_L9
    refine gg_iload_n C dX9_fault_9 rfl 2 rfl ?_
    refine gg_aload_n C dX9_fault_10 rfl 0 rfl ?_
    refine gf_X9_97 C 0 rfl rfl dX9_fault_11 ?_
    refine gg_icmp_ge C dX9_fault_14 (tgt := 41) (by decide) (fun _ => ?_) (fun _ => ?_)
    · refine gg_sub [0, 1, 2] rfl ?_
      exact hk (y1, y2, m_act, m_who, m_much, m_acts)
    · refine gg_aload_n C dX9_fault_17 rfl 0 rfl ?_
      refine gg_iload_n C dX9_fault_18 rfl 1 rfl ?_
      refine gg_aload_n C dX9_fault_19 rfl 0 rfl ?_
      refine gf_X9_40 C 0 rfl rfl dX9_fault_20 ?_
      refine gg_iload_n C dX9_fault_23 rfl 2 rfl ?_
      refine gg_iald C 11 rfl dX9_fault_24 ?_
      refine gg_callV C (fun l r h => c_X9_readOn l D T a m_beat m_nick m_owner m_place m_kept m_heard m_chosen m_minutes m_sightBeat m_sightOff m_sightIs m_sights m_pad m_padMany m_act m_who m_much m_acts m_heardMany m_wrongNow m_had m_badAct m_badWhy m_wrongAct m_wrongHeir m_odd m_span m_rise m_wins m_stored m_isStored m_storedAt m_isWriting y1 (m_pad y2.toNatClampNeg) r h) lk_X9_126 ⟨by decide, by decide⟩ hnn rfl (rest := []) rfl (Nat.le_of_ble_eq_true rfl) 0 rfl rfl dX9_fault_25 (ws2 := fun r1 => wM T a m_beat m_nick m_owner m_place m_kept m_heard m_chosen m_minutes m_sightBeat m_sightOff m_sightIs m_sights m_pad m_padMany r1.2.1 r1.2.2.1 r1.2.2.2.1 r1.2.2.2.2 m_heardMany m_wrongNow m_had m_badAct m_badWhy m_wrongAct m_wrongHeir m_odd m_span m_rise m_wins m_stored m_isStored m_storedAt m_isWriting) (cut_full (fun _ => rfl)) (st2 := fun r1 => [.int r1.1]) (fun _ => rfl) (fun r1 => ?_)
      refine gg_istore_n C dX9_fault_28 rfl hn (by decide) (lv' := [(1, .int r1.1), (0, .ref (a 0)), (2, .int y2)]) rfl ?_
      refine gg_iload_n C dX9_fault_29 rfl 0 rfl ?_
      refine gg_if_ge C dX9_fault_30 (tgt := 35) (by decide) (fun _ => ?_) (fun _ => ?_)
      · refine gg_iinc C dX9_fault_35 (j := 2) rfl (v := y2 + 1) (by first | rfl | decide) hn (by decide) (lv' := [(2, .int (y2 + 1)), (1, .int r1.1), (0, .ref (a 0))]) rfl ?_
        refine gg_goto C dX9_fault_38 (tgt := 9) (by decide) ?_
        refine gg_sub [2, 1, 0] rfl ?_
        exact ih r1.1 (y2 + 1) r1.2.1 r1.2.2.1 r1.2.2.2.1 r1.2.2.2.2
      · refine gg_iload_n C dX9_fault_33 rfl 2 rfl ?_
        refine gg_sub [] rfl ?_
        exact hr0 y2 r1.2.1 r1.2.2.1 r1.2.2.2.1 r1.2.2.2.2
def f_X9_fault (m_pad : Nat → Int32) (m_padMany : Int32) (m_act : Nat → Int32) (m_who : Nat → Int32) (m_much : Nat → Int32) : Option (Int32 × (Nat → Int32) × (Nat → Int32) × (Nat → Int32) × Int32) := jn (f_X9_fault_L9 m_pad m_padMany 100 0 0 m_act m_who m_much 0) (Sum.elim (fun z2 => if z2.1 = 0 then some ((-6), z2.2.2.1, z2.2.2.2.1, z2.2.2.2.2.1, z2.2.2.2.2.2) else some (m_padMany, z2.2.2.1, z2.2.2.2.1, z2.2.2.2.2.1, z2.2.2.2.2.2)) some)
set_option maxHeartbeats 4000000 in
set_option maxRecDepth 100000 in
theorem c_X9_fault (l : Launch) (D : va_G) (T : Nat → ClassId) (a : Nat → Nat) (m_beat : Nat → Int32) (m_nick : Nat → Int32) (m_owner : Nat → Int32) (m_place : Nat → Int32) (m_kept : Nat → Int32) (m_heard : Nat → Int32) (m_chosen : Nat → Int32) (m_minutes : Int32) (m_sightBeat : Nat → Int32) (m_sightOff : Nat → Int32) (m_sightIs : Nat → Int32) (m_sights : Int32) (m_pad : Nat → Int32) (m_padMany : Int32) (m_act : Nat → Int32) (m_who : Nat → Int32) (m_much : Nat → Int32) (m_acts : Int32) (m_heardMany : Int32) (m_wrongNow : Int32) (m_had : Nat → Int32) (m_badAct : Int32) (m_badWhy : Int32) (m_wrongAct : Int32) (m_wrongHeir : Int32) (m_odd : Nat → Int32) (m_span : Nat → Int32) (m_rise : Nat → Int32) (m_wins : Nat → Int32) (m_stored : Nat → Int32) (m_isStored : Nat → Int32) (m_storedAt : Int32) (m_isWriting : Int32) (r : Int32 × (Nat → Int32) × (Nat → Int32) × (Nat → Int32) × Int32) (h : f_X9_fault m_pad m_padMany m_act m_who m_much = some r) : Kt l D T yX9_fault cX9_fault 3 (some .int) (4, 0, 0, 90) [.ref (a 0)] (wM T a m_beat m_nick m_owner m_place m_kept m_heard m_chosen m_minutes m_sightBeat m_sightOff m_sightIs m_sights m_pad m_padMany m_act m_who m_much m_acts m_heardMany m_wrongNow m_had m_badAct m_badWhy m_wrongAct m_wrongHeir m_odd m_span m_rise m_wins m_stored m_isStored m_storedAt m_isWriting) (FF (fun (r : Int32 × (Nat → Int32) × (Nat → Int32) × (Nat → Int32) × Int32) => some (.int r.1)) (fun r => wM T a m_beat m_nick m_owner m_place m_kept m_heard m_chosen m_minutes m_sightBeat m_sightOff m_sightIs m_sights m_pad m_padMany r.2.1 r.2.2.1 r.2.2.2.1 r.2.2.2.2 m_heardMany m_wrongNow m_had m_badAct m_badWhy m_wrongAct m_wrongHeir m_odd m_span m_rise m_wins m_stored m_isStored m_storedAt m_isWriting) r) := by
  refine kt_of (own := RX9) (nm := "fault") (lv := [(0, .ref (a 0))]) (by decide) rfl rfl rfl (Nat.le_of_ble_eq_true rfl) h (fun X hn C M => ?_)
  have hnn : ((0, 0) : Nat × Nat).1 ≤ 0 ∧ ((0, 0) : Nat × Nat).2 ≤ 0 := ⟨Nat.le_refl 0, Nat.le_refl 0⟩
  unfold f_X9_fault
  refine gg_aload_n C dX9_fault_0 rfl 0 rfl ?_
  refine gg_iconst C dX9_fault_1 kI_0 ?_
  refine pf_X9_101 C 0 rfl (Nat.le_of_ble_eq_true rfl) dX9_fault_2 (ws' := wM T a m_beat m_nick m_owner m_place m_kept m_heard m_chosen m_minutes m_sightBeat m_sightOff m_sightIs m_sights m_pad m_padMany m_act m_who m_much 0 m_heardMany m_wrongNow m_had m_badAct m_badWhy m_wrongAct m_wrongHeir m_odd m_span m_rise m_wins m_stored m_isStored m_storedAt m_isWriting) rfl ?_
  refine gg_iconst C dX9_fault_5 kI_0 ?_
  refine gg_istore_n C dX9_fault_6 rfl hn (by decide) (lv' := [(1, .int 0), (0, .ref (a 0))]) rfl ?_
  refine gg_iconst C dX9_fault_7 kI_0 ?_
  refine gg_istore_n C dX9_fault_8 rfl hn (by decide) (lv' := [(2, .int 0), (1, .int 0), (0, .ref (a 0))]) rfl ?_
  refine gg_jn ?_
  refine gg_sub [2, 1, 0] rfl ?_
  refine g_X9_fault_L9 C hnn hn a m_beat m_nick m_owner m_place m_kept m_heard m_chosen m_minutes m_sightBeat m_sightOff m_sightIs m_sights m_pad m_padMany m_heardMany m_wrongNow m_had m_badAct m_badWhy m_wrongAct m_wrongHeir m_odd m_span m_rise m_wins m_stored m_isStored m_storedAt m_isWriting (fun z2 => gg_leafL ?_) (fun v m_act' m_who' m_much' m_acts' => gg_leafR ?_) 100 0 0 m_act m_who m_much 0
  · refine gg_iload_n C dX9_fault_41 rfl 1 rfl ?_
    refine gg_if_ne C dX9_fault_42 (tgt := 50) (by decide) (fun _ => ?_) (fun _ => ?_)
    · refine gg_aload_n C dX9_fault_50 rfl 0 rfl ?_
      refine gf_X9_97 C 0 rfl rfl dX9_fault_51 ?_
      exact gg_iret C M dX9_fault_54 ⟨rfl, rfl⟩
    · refine gg_bipush C dX9_fault_45 kB_m6 ?_
      refine gg_goto C dX9_fault_47 (tgt := 54) (by decide) ?_
      exact gg_iret C M dX9_fault_54 ⟨rfl, rfl⟩
  · exact gg_iret C M dX9_fault_34 ⟨rfl, rfl⟩
def f_X9_isChosen_L4 (y1 : Int32) (m_chosen : Nat → Int32) : Nat → Int32 → Int32 → Option (Int32 × Int32)
  | 0, _, _ => none
  | nn + 1, y2, y3 => if 6 ≤ y3 then some (y2, y3) else if y2 = 0 then gu y3 6 (if m_chosen y3.toNatClampNeg = y1 then f_X9_isChosen_L4 y1 m_chosen nn 1 (y3 + 1) else f_X9_isChosen_L4 y1 m_chosen nn 0 (y3 + 1)) else f_X9_isChosen_L4 y1 m_chosen nn 1 (y3 + 1)
set_option maxHeartbeats 4000000 in
set_option maxRecDepth 100000 in
theorem g_X9_isChosen_L4 {X : KX} {D : va_G} {T : Nat → ClassId} {Q : Int32 × Int32 → State → Prop} {n : Nat × Nat} (C : Cx X D T cX9_isChosen RX9 { frames := 0, cells := 0, slots := 0, locals := 0 }) (hnn : n.1 ≤ 0 ∧ n.2 ≤ 0) (hn : kxL X = 4) (a : Nat → Nat)  (y1 : Int32) (m_beat : Nat → Int32) (m_nick : Nat → Int32) (m_owner : Nat → Int32) (m_place : Nat → Int32) (m_kept : Nat → Int32) (m_heard : Nat → Int32) (m_chosen : Nat → Int32) (m_minutes : Int32) (m_sightBeat : Nat → Int32) (m_sightOff : Nat → Int32) (m_sightIs : Nat → Int32) (m_sights : Int32) (m_pad : Nat → Int32) (m_padMany : Int32) (m_act : Nat → Int32) (m_who : Nat → Int32) (m_much : Nat → Int32) (m_acts : Int32) (m_heardMany : Int32) (m_wrongNow : Int32) (m_had : Nat → Int32) (m_badAct : Int32) (m_badWhy : Int32) (m_wrongAct : Int32) (m_wrongHeir : Int32) (m_odd : Nat → Int32) (m_span : Nat → Int32) (m_rise : Nat → Int32) (m_wins : Nat → Int32) (m_stored : Nat → Int32) (m_isStored : Nat → Int32) (m_storedAt : Int32) (m_isWriting : Int32) (hk : ∀ v : Int32 × Int32, GG X D Q n (wM T a m_beat m_nick m_owner m_place m_kept m_heard m_chosen m_minutes m_sightBeat m_sightOff m_sightIs m_sights m_pad m_padMany m_act m_who m_much m_acts m_heardMany m_wrongNow m_had m_badAct m_badWhy m_wrongAct m_wrongHeir m_odd m_span m_rise m_wins m_stored m_isStored m_storedAt m_isWriting) [(0, .ref (a 0)), (1, .int y1), (2, .int v.1), (3, .int v.2)] 36 [] (some (v))) : ∀ (nn : Nat) (y2 : Int32) (y3 : Int32), GG X D Q n (wM T a m_beat m_nick m_owner m_place m_kept m_heard m_chosen m_minutes m_sightBeat m_sightOff m_sightIs m_sights m_pad m_padMany m_act m_who m_much m_acts m_heardMany m_wrongNow m_had m_badAct m_badWhy m_wrongAct m_wrongHeir m_odd m_span m_rise m_wins m_stored m_isStored m_storedAt m_isWriting) [(0, .ref (a 0)), (1, .int y1), (2, .int y2), (3, .int y3)] 4 [] (f_X9_isChosen_L4 y1 m_chosen nn y2 y3) := by
  intro nn
  induction nn with
  | zero => intros; exact gg_none
  | succ nn ih =>
    intro y2 y3
    unfold f_X9_isChosen_L4
    refine gg_iload_n C dX9_isChosen_4 rfl 3 rfl ?_
    refine gg_bipush C dX9_isChosen_5 kB_6 ?_
    refine gg_icmp_ge C dX9_isChosen_7 (tgt := 36) (by decide) (fun _ => ?_) (fun _ => ?_)
    · refine gg_sub [0, 1, 2, 3] rfl ?_
      exact hk (y2, y3)
    · refine gg_iload_n C dX9_isChosen_10 rfl 2 rfl ?_
      refine gg_if_ne C dX9_isChosen_11 (tgt := 24) (by decide) (fun _ => ?_) (fun _ => ?_)
      · refine gg_iconst C dX9_isChosen_24 kI_1 ?_
        refine gg_goto C dX9_isChosen_25 (tgt := 29) (by decide) ?_
        refine gg_istore_n C dX9_isChosen_29 rfl hn (by decide) (lv' := [(2, .int 1), (0, .ref (a 0)), (1, .int y1), (3, .int y3)]) rfl ?_
        refine gg_iinc C dX9_isChosen_30 (j := 3) rfl (v := y3 + 1) (by first | rfl | decide) hn (by decide) (lv' := [(3, .int (y3 + 1)), (2, .int 1), (0, .ref (a 0)), (1, .int y1)]) rfl ?_
        refine gg_goto C dX9_isChosen_33 (tgt := 4) (by decide) ?_
        refine gg_sub [2, 3, 1, 0] rfl ?_
        exact ih 1 (y3 + 1)
      · refine gg_aload_n C dX9_isChosen_14 rfl 0 rfl ?_
        refine gf_X9_28 C 0 rfl rfl dX9_isChosen_15 ?_
        refine gg_iload_n C dX9_isChosen_18 rfl 3 rfl ?_
        refine gg_iald C 7 rfl dX9_isChosen_19 ?_
        refine gg_iload_n C dX9_isChosen_20 rfl 1 rfl ?_
        refine gg_icmp_ne C dX9_isChosen_21 (tgt := 28) (by decide) (fun _ => ?_) (fun _ => ?_)
        · refine gg_iconst C dX9_isChosen_28 kI_0 ?_
          refine gg_istore_n C dX9_isChosen_29 rfl hn (by decide) (lv' := [(2, .int 0), (0, .ref (a 0)), (1, .int y1), (3, .int y3)]) rfl ?_
          refine gg_iinc C dX9_isChosen_30 (j := 3) rfl (v := y3 + 1) (by first | rfl | decide) hn (by decide) (lv' := [(3, .int (y3 + 1)), (2, .int 0), (0, .ref (a 0)), (1, .int y1)]) rfl ?_
          refine gg_goto C dX9_isChosen_33 (tgt := 4) (by decide) ?_
          refine gg_sub [2, 3, 1, 0] rfl ?_
          exact ih 0 (y3 + 1)
        · refine gg_iconst C dX9_isChosen_24 kI_1 ?_
          refine gg_goto C dX9_isChosen_25 (tgt := 29) (by decide) ?_
          refine gg_istore_n C dX9_isChosen_29 rfl hn (by decide) (lv' := [(2, .int 1), (0, .ref (a 0)), (1, .int y1), (3, .int y3)]) rfl ?_
          refine gg_iinc C dX9_isChosen_30 (j := 3) rfl (v := y3 + 1) (by first | rfl | decide) hn (by decide) (lv' := [(3, .int (y3 + 1)), (2, .int 1), (0, .ref (a 0)), (1, .int y1)]) rfl ?_
          refine gg_goto C dX9_isChosen_33 (tgt := 4) (by decide) ?_
          refine gg_sub [2, 3, 1, 0] rfl ?_
          exact ih 1 (y3 + 1)
def f_X9_isChosen (m_chosen : Nat → Int32) (v1 : Int32) : Option (Int32) := jn (α := Int32 × Int32) (f_X9_isChosen_L4 v1 m_chosen 100 0 0) (fun z1 => gz z1.1 (some z1.1))
set_option maxHeartbeats 4000000 in
set_option maxRecDepth 100000 in
theorem c_X9_isChosen (l : Launch) (D : va_G) (T : Nat → ClassId) (a : Nat → Nat) (m_beat : Nat → Int32) (m_nick : Nat → Int32) (m_owner : Nat → Int32) (m_place : Nat → Int32) (m_kept : Nat → Int32) (m_heard : Nat → Int32) (m_chosen : Nat → Int32) (m_minutes : Int32) (m_sightBeat : Nat → Int32) (m_sightOff : Nat → Int32) (m_sightIs : Nat → Int32) (m_sights : Int32) (m_pad : Nat → Int32) (m_padMany : Int32) (m_act : Nat → Int32) (m_who : Nat → Int32) (m_much : Nat → Int32) (m_acts : Int32) (m_heardMany : Int32) (m_wrongNow : Int32) (m_had : Nat → Int32) (m_badAct : Int32) (m_badWhy : Int32) (m_wrongAct : Int32) (m_wrongHeir : Int32) (m_odd : Nat → Int32) (m_span : Nat → Int32) (m_rise : Nat → Int32) (m_wins : Nat → Int32) (m_stored : Nat → Int32) (m_isStored : Nat → Int32) (m_storedAt : Int32) (m_isWriting : Int32) (v1 : Int32) (r : Int32) (h : f_X9_isChosen m_chosen v1 = some r) : Kt l D T yX9_isChosen cX9_isChosen 4 (some .boolean) (0, 0, 0, 0) [.ref (a 0), .int v1] (wM T a m_beat m_nick m_owner m_place m_kept m_heard m_chosen m_minutes m_sightBeat m_sightOff m_sightIs m_sights m_pad m_padMany m_act m_who m_much m_acts m_heardMany m_wrongNow m_had m_badAct m_badWhy m_wrongAct m_wrongHeir m_odd m_span m_rise m_wins m_stored m_isStored m_storedAt m_isWriting) (FF (fun (r : Int32) => some (.int r)) (fun r => wM T a m_beat m_nick m_owner m_place m_kept m_heard m_chosen m_minutes m_sightBeat m_sightOff m_sightIs m_sights m_pad m_padMany m_act m_who m_much m_acts m_heardMany m_wrongNow m_had m_badAct m_badWhy m_wrongAct m_wrongHeir m_odd m_span m_rise m_wins m_stored m_isStored m_storedAt m_isWriting) r) := by
  refine kt_of (own := RX9) (nm := "isChosen") (lv := [(0, .ref (a 0)), (1, .int v1)]) (by decide) rfl rfl rfl (Nat.le_of_ble_eq_true rfl) h (fun X hn C M => ?_)
  have hnn : ((0, 0) : Nat × Nat).1 ≤ 0 ∧ ((0, 0) : Nat × Nat).2 ≤ 0 := ⟨Nat.le_refl 0, Nat.le_refl 0⟩
  unfold f_X9_isChosen
  refine gg_iconst C dX9_isChosen_0 kI_0 ?_
  refine gg_istore_n C dX9_isChosen_1 rfl hn (by decide) (lv' := [(2, .int 0), (0, .ref (a 0)), (1, .int v1)]) rfl ?_
  refine gg_iconst C dX9_isChosen_2 kI_0 ?_
  refine gg_istore_n C dX9_isChosen_3 rfl hn (by decide) (lv' := [(3, .int 0), (2, .int 0), (0, .ref (a 0)), (1, .int v1)]) rfl ?_
  refine gg_join (α := Int32 × Int32) 36 (fun z1 => wM T a m_beat m_nick m_owner m_place m_kept m_heard m_chosen m_minutes m_sightBeat m_sightOff m_sightIs m_sights m_pad m_padMany m_act m_who m_much m_acts m_heardMany m_wrongNow m_had m_badAct m_badWhy m_wrongAct m_wrongHeir m_odd m_span m_rise m_wins m_stored m_isStored m_storedAt m_isWriting) (fun z1 => [(0, .ref (a 0)), (1, .int v1), (2, .int z1.1), (3, .int z1.2)]) (fun z1 => []) (fun z1 => ?_) (fun K2 => ?_)
  · refine gg_iload_n C dX9_isChosen_36 rfl 2 rfl ?_
    exact gg_zretG C M dX9_isChosen_37 ⟨rfl, rfl⟩
  · refine gg_sub [2, 3, 1, 0] rfl ?_
    exact g_X9_isChosen_L4 C hnn hn a v1 m_beat m_nick m_owner m_place m_kept m_heard m_chosen m_minutes m_sightBeat m_sightOff m_sightIs m_sights m_pad m_padMany m_act m_who m_much m_acts m_heardMany m_wrongNow m_had m_badAct m_badWhy m_wrongAct m_wrongHeir m_odd m_span m_rise m_wins m_stored m_isStored m_storedAt m_isWriting K2 100 0 0
def f_X9_whyNot (m_beat : Nat → Int32) (m_place : Nat → Int32) (m_chosen : Nat → Int32) (m_minutes : Int32) (v1 : Int32) (v2 : Int32) (v3 : Int32) : Option (Int32) := if v1 = 7 then if m_minutes = 60 then some 5 else some 0 else gu v2 6 (if m_chosen v2.toNatClampNeg < 0 then if v1 = 0 then gu v2 6 (jn (f_X9_isPlace ((m_place v2.toNatClampNeg) + v3)) (fun r2 => if r2 = 0 then some 2 else some 0)) else (if v1 = 1 then gu v2 6 (jn (f_X9_isPlace ((m_place v2.toNatClampNeg) - v3)) (fun r4 => if r4 = 0 then some 2 else some 0)) else (if v1 = 2 then some 0 else (if v1 = 3 then some 0 else (if v1 = 4 then gu v2 6 (gu (m_place v2.toNatClampNeg) 40 (if m_beat (m_place v2.toNatClampNeg).toNatClampNeg = v3 then some 3 else some 0)) else (if v1 = 5 then gu v2 6 (jn (f_X9_isPlace ((m_place v2.toNatClampNeg) + 1)) (fun r9 => if r9 = 0 then some 2 else some 0)) else (if v1 = 6 then gu v2 6 (jn (f_X9_isChosen m_chosen (m_place v2.toNatClampNeg)) (fun r11 => if r11 = 0 then some 0 else some 4)) else (some 0))))))) else some 1)
set_option maxHeartbeats 4000000 in
set_option maxRecDepth 100000 in
theorem c_X9_whyNot (l : Launch) (D : va_G) (T : Nat → ClassId) (a : Nat → Nat) (m_beat : Nat → Int32) (m_nick : Nat → Int32) (m_owner : Nat → Int32) (m_place : Nat → Int32) (m_kept : Nat → Int32) (m_heard : Nat → Int32) (m_chosen : Nat → Int32) (m_minutes : Int32) (m_sightBeat : Nat → Int32) (m_sightOff : Nat → Int32) (m_sightIs : Nat → Int32) (m_sights : Int32) (m_pad : Nat → Int32) (m_padMany : Int32) (m_act : Nat → Int32) (m_who : Nat → Int32) (m_much : Nat → Int32) (m_acts : Int32) (m_heardMany : Int32) (m_wrongNow : Int32) (m_had : Nat → Int32) (m_badAct : Int32) (m_badWhy : Int32) (m_wrongAct : Int32) (m_wrongHeir : Int32) (m_odd : Nat → Int32) (m_span : Nat → Int32) (m_rise : Nat → Int32) (m_wins : Nat → Int32) (m_stored : Nat → Int32) (m_isStored : Nat → Int32) (m_storedAt : Int32) (m_isWriting : Int32) (v1 : Int32) (v2 : Int32) (v3 : Int32) (r : Int32) (h : f_X9_whyNot m_beat m_place m_chosen m_minutes v1 v2 v3 = some r) : Kt l D T yX9_whyNot cX9_whyNot 4 (some .int) (2, 0, 0, 45) [.ref (a 0), .int v1, .int v2, .int v3] (wM T a m_beat m_nick m_owner m_place m_kept m_heard m_chosen m_minutes m_sightBeat m_sightOff m_sightIs m_sights m_pad m_padMany m_act m_who m_much m_acts m_heardMany m_wrongNow m_had m_badAct m_badWhy m_wrongAct m_wrongHeir m_odd m_span m_rise m_wins m_stored m_isStored m_storedAt m_isWriting) (FF (fun (r : Int32) => some (.int r)) (fun r => wM T a m_beat m_nick m_owner m_place m_kept m_heard m_chosen m_minutes m_sightBeat m_sightOff m_sightIs m_sights m_pad m_padMany m_act m_who m_much m_acts m_heardMany m_wrongNow m_had m_badAct m_badWhy m_wrongAct m_wrongHeir m_odd m_span m_rise m_wins m_stored m_isStored m_storedAt m_isWriting) r) := by
  refine kt_of (own := RX9) (nm := "whyNot") (lv := [(0, .ref (a 0)), (1, .int v1), (2, .int v2), (3, .int v3)]) (by decide) rfl rfl rfl (Nat.le_of_ble_eq_true rfl) h (fun X hn C M => ?_)
  have hnn : ((0, 0) : Nat × Nat).1 ≤ 0 ∧ ((0, 0) : Nat × Nat).2 ≤ 0 := ⟨Nat.le_refl 0, Nat.le_refl 0⟩
  unfold f_X9_whyNot
  refine gg_iload_n C dX9_whyNot_0 rfl 1 rfl ?_
  refine gg_bipush C dX9_whyNot_1 kB_7 ?_
  refine gg_icmp_ne C dX9_whyNot_3 (tgt := 21) (by decide) (fun _ => ?_) (fun _ => ?_)
  · refine gg_aload_n C dX9_whyNot_21 rfl 0 rfl ?_
    refine gf_X9_28 C 0 rfl rfl dX9_whyNot_22 ?_
    refine gg_iload_n C dX9_whyNot_25 rfl 2 rfl ?_
    refine gg_iald C 7 rfl dX9_whyNot_26 ?_
    refine gg_if_lt C dX9_whyNot_27 (tgt := 32) (by decide) (fun _ => ?_) (fun _ => ?_)
    · refine gg_iload_n C dX9_whyNot_32 rfl 1 rfl ?_
      refine gg_ite (fun hs1 => ?_) (fun hs1 => ?_)
      · refine gg_tabIn C 0 dX9_whyNot_33 (by rw [hs1]; decide) (by decide) (by decide) (off := 43) (by decide) (tgt := 76) (by decide) ?_
        refine gg_aload_n C dX9_whyNot_76 rfl 0 rfl ?_
        refine gf_X9_19 C 0 rfl rfl dX9_whyNot_77 ?_
        refine gg_iload_n C dX9_whyNot_80 rfl 2 rfl ?_
        refine gg_iald C 4 rfl dX9_whyNot_81 ?_
        refine gg_iload_n C dX9_whyNot_82 rfl 3 rfl ?_
        refine gg_iadd C dX9_whyNot_83 ?_
        refine gg_callS C (fun l r h => c_X9_isPlace l D T ((m_place v2.toNatClampNeg) + v3) r h) lk_X9_82 ⟨by decide, by decide⟩ hnn rfl (rest := []) rfl (Nat.le_of_ble_eq_true rfl) dX9_whyNot_84 cut_none (st2 := fun r2 => [.int r2]) (fun _ => rfl) (fun r2 => ?_)
        refine gg_if_eq C dX9_whyNot_87 (tgt := 94) (by decide) (fun _ => ?_) (fun _ => ?_)
        · refine gg_iconst C dX9_whyNot_94 kI_2 ?_
          exact gg_iret C M dX9_whyNot_95 ⟨rfl, rfl⟩
        · refine gg_iconst C dX9_whyNot_90 kI_0 ?_
          refine gg_goto C dX9_whyNot_91 (tgt := 95) (by decide) ?_
          exact gg_iret C M dX9_whyNot_95 ⟨rfl, rfl⟩
      refine gg_ite (fun hs3 => ?_) (fun hs3 => ?_)
      · refine gg_tabIn C 1 dX9_whyNot_33 (by rw [hs3]; decide) (by decide) (by decide) (off := 63) (by decide) (tgt := 96) (by decide) ?_
        refine gg_aload_n C dX9_whyNot_96 rfl 0 rfl ?_
        refine gf_X9_19 C 0 rfl rfl dX9_whyNot_97 ?_
        refine gg_iload_n C dX9_whyNot_100 rfl 2 rfl ?_
        refine gg_iald C 4 rfl dX9_whyNot_101 ?_
        refine gg_iload_n C dX9_whyNot_102 rfl 3 rfl ?_
        refine gg_isub C dX9_whyNot_103 ?_
        refine gg_callS C (fun l r h => c_X9_isPlace l D T ((m_place v2.toNatClampNeg) - v3) r h) lk_X9_82 ⟨by decide, by decide⟩ hnn rfl (rest := []) rfl (Nat.le_of_ble_eq_true rfl) dX9_whyNot_104 cut_none (st2 := fun r4 => [.int r4]) (fun _ => rfl) (fun r4 => ?_)
        refine gg_if_eq C dX9_whyNot_107 (tgt := 114) (by decide) (fun _ => ?_) (fun _ => ?_)
        · refine gg_iconst C dX9_whyNot_114 kI_2 ?_
          exact gg_iret C M dX9_whyNot_115 ⟨rfl, rfl⟩
        · refine gg_iconst C dX9_whyNot_110 kI_0 ?_
          refine gg_goto C dX9_whyNot_111 (tgt := 115) (by decide) ?_
          exact gg_iret C M dX9_whyNot_115 ⟨rfl, rfl⟩
      refine gg_ite (fun hs5 => ?_) (fun hs5 => ?_)
      · refine gg_tabIn C 2 dX9_whyNot_33 (by rw [hs5]; decide) (by decide) (by decide) (off := 143) (by decide) (tgt := 176) (by decide) ?_
        refine gg_iconst C dX9_whyNot_176 kI_0 ?_
        exact gg_iret C M dX9_whyNot_177 ⟨rfl, rfl⟩
      refine gg_ite (fun hs6 => ?_) (fun hs6 => ?_)
      · refine gg_tabIn C 3 dX9_whyNot_33 (by rw [hs6]; decide) (by decide) (by decide) (off := 143) (by decide) (tgt := 176) (by decide) ?_
        refine gg_iconst C dX9_whyNot_176 kI_0 ?_
        exact gg_iret C M dX9_whyNot_177 ⟨rfl, rfl⟩
      refine gg_ite (fun hs7 => ?_) (fun hs7 => ?_)
      · refine gg_tabIn C 4 dX9_whyNot_33 (by rw [hs7]; decide) (by decide) (by decide) (off := 83) (by decide) (tgt := 116) (by decide) ?_
        refine gg_aload_n C dX9_whyNot_116 rfl 0 rfl ?_
        refine gf_X9_7 C 0 rfl rfl dX9_whyNot_117 ?_
        refine gg_aload_n C dX9_whyNot_120 rfl 0 rfl ?_
        refine gf_X9_19 C 0 rfl rfl dX9_whyNot_121 ?_
        refine gg_iload_n C dX9_whyNot_124 rfl 2 rfl ?_
        refine gg_iald C 4 rfl dX9_whyNot_125 ?_
        refine gg_iald C 1 rfl dX9_whyNot_126 ?_
        refine gg_iload_n C dX9_whyNot_127 rfl 3 rfl ?_
        refine gg_icmp_ne C dX9_whyNot_128 (tgt := 135) (by decide) (fun _ => ?_) (fun _ => ?_)
        · refine gg_iconst C dX9_whyNot_135 kI_0 ?_
          exact gg_iret C M dX9_whyNot_136 ⟨rfl, rfl⟩
        · refine gg_iconst C dX9_whyNot_131 kI_3 ?_
          refine gg_goto C dX9_whyNot_132 (tgt := 136) (by decide) ?_
          exact gg_iret C M dX9_whyNot_136 ⟨rfl, rfl⟩
      refine gg_ite (fun hs8 => ?_) (fun hs8 => ?_)
      · refine gg_tabIn C 5 dX9_whyNot_33 (by rw [hs8]; decide) (by decide) (by decide) (off := 104) (by decide) (tgt := 137) (by decide) ?_
        refine gg_aload_n C dX9_whyNot_137 rfl 0 rfl ?_
        refine gf_X9_19 C 0 rfl rfl dX9_whyNot_138 ?_
        refine gg_iload_n C dX9_whyNot_141 rfl 2 rfl ?_
        refine gg_iald C 4 rfl dX9_whyNot_142 ?_
        refine gg_iconst C dX9_whyNot_143 kI_1 ?_
        refine gg_iadd C dX9_whyNot_144 ?_
        refine gg_callS C (fun l r h => c_X9_isPlace l D T ((m_place v2.toNatClampNeg) + 1) r h) lk_X9_82 ⟨by decide, by decide⟩ hnn rfl (rest := []) rfl (Nat.le_of_ble_eq_true rfl) dX9_whyNot_145 cut_none (st2 := fun r9 => [.int r9]) (fun _ => rfl) (fun r9 => ?_)
        refine gg_if_eq C dX9_whyNot_148 (tgt := 155) (by decide) (fun _ => ?_) (fun _ => ?_)
        · refine gg_iconst C dX9_whyNot_155 kI_2 ?_
          exact gg_iret C M dX9_whyNot_156 ⟨rfl, rfl⟩
        · refine gg_iconst C dX9_whyNot_151 kI_0 ?_
          refine gg_goto C dX9_whyNot_152 (tgt := 156) (by decide) ?_
          exact gg_iret C M dX9_whyNot_156 ⟨rfl, rfl⟩
      refine gg_ite (fun hs10 => ?_) (fun hs10 => ?_)
      · refine gg_tabIn C 6 dX9_whyNot_33 (by rw [hs10]; decide) (by decide) (by decide) (off := 124) (by decide) (tgt := 157) (by decide) ?_
        refine gg_aload_n C dX9_whyNot_157 rfl 0 rfl ?_
        refine gg_aload_n C dX9_whyNot_158 rfl 0 rfl ?_
        refine gf_X9_19 C 0 rfl rfl dX9_whyNot_159 ?_
        refine gg_iload_n C dX9_whyNot_162 rfl 2 rfl ?_
        refine gg_iald C 4 rfl dX9_whyNot_163 ?_
        refine gg_callV C (fun l r h => c_X9_isChosen l D T a m_beat m_nick m_owner m_place m_kept m_heard m_chosen m_minutes m_sightBeat m_sightOff m_sightIs m_sights m_pad m_padMany m_act m_who m_much m_acts m_heardMany m_wrongNow m_had m_badAct m_badWhy m_wrongAct m_wrongHeir m_odd m_span m_rise m_wins m_stored m_isStored m_storedAt m_isWriting (m_place v2.toNatClampNeg) r h) lk_X9_132 ⟨by decide, by decide⟩ hnn rfl (rest := []) rfl (Nat.le_of_ble_eq_true rfl) 0 rfl rfl dX9_whyNot_164 (ws2 := fun r11 => wM T a m_beat m_nick m_owner m_place m_kept m_heard m_chosen m_minutes m_sightBeat m_sightOff m_sightIs m_sights m_pad m_padMany m_act m_who m_much m_acts m_heardMany m_wrongNow m_had m_badAct m_badWhy m_wrongAct m_wrongHeir m_odd m_span m_rise m_wins m_stored m_isStored m_storedAt m_isWriting) (cut_full (fun _ => rfl)) (st2 := fun r11 => [.int r11]) (fun _ => rfl) (fun r11 => ?_)
        refine gg_if_eq C dX9_whyNot_167 (tgt := 174) (by decide) (fun _ => ?_) (fun _ => ?_)
        · refine gg_iconst C dX9_whyNot_174 kI_0 ?_
          exact gg_iret C M dX9_whyNot_175 ⟨rfl, rfl⟩
        · refine gg_iconst C dX9_whyNot_170 kI_4 ?_
          refine gg_goto C dX9_whyNot_171 (tgt := 175) (by decide) ?_
          exact gg_iret C M dX9_whyNot_175 ⟨rfl, rfl⟩
      refine gg_tabOut C dX9_whyNot_33 (by have q0 := lv_neT hs1 (a := 0) (by decide); have q1 := lv_neT hs3 (a := 1) (by decide); have q2 := lv_neT hs5 (a := 2) (by decide); have q3 := lv_neT hs6 (a := 3) (by decide); have q4 := lv_neT hs7 (a := 4) (by decide); have q5 := lv_neT hs8 (a := 5) (by decide); have q6 := lv_neT hs10 (a := 6) (by decide); omega) (tgt := 176) (by decide) ?_
      refine gg_iconst C dX9_whyNot_176 kI_0 ?_
      exact gg_iret C M dX9_whyNot_177 ⟨rfl, rfl⟩
    · refine gg_iconst C dX9_whyNot_30 kI_1 ?_
      exact gg_iret C M dX9_whyNot_31 ⟨rfl, rfl⟩
  · refine gg_aload_n C dX9_whyNot_6 rfl 0 rfl ?_
    refine gf_X9_129 C 0 rfl rfl dX9_whyNot_7 ?_
    refine gg_bipush C dX9_whyNot_10 kB_60 ?_
    refine gg_icmp_ne C dX9_whyNot_12 (tgt := 19) (by decide) (fun _ => ?_) (fun _ => ?_)
    · refine gg_iconst C dX9_whyNot_19 kI_0 ?_
      exact gg_iret C M dX9_whyNot_20 ⟨rfl, rfl⟩
    · refine gg_iconst C dX9_whyNot_15 kI_5 ?_
      refine gg_goto C dX9_whyNot_16 (tgt := 20) (by decide) ?_
      exact gg_iret C M dX9_whyNot_20 ⟨rfl, rfl⟩
def f_X9_listen (m_beat : Nat → Int32) (m_place : Nat → Int32) (m_kept : Nat → Int32) (m_heard : Nat → Int32) (m_heardMany : Int32) (v1 : Int32) : Option ((Nat → Int32) × Int32) := gu v1 6 (gu (m_place v1.toNatClampNeg) 40 (gu v1 6 (if m_beat (m_place v1.toNatClampNeg).toNatClampNeg = m_kept v1.toNatClampNeg then gu v1 6 (jn (f_X9_less 99 ((m_heard v1.toNatClampNeg) + 1)) (fun r1 => gu v1 6 (some (upd m_heard v1.toNatClampNeg r1, m_heardMany + 1)))) else some (m_heard, m_heardMany))))
set_option maxHeartbeats 4000000 in
set_option maxRecDepth 100000 in
theorem c_X9_listen (l : Launch) (D : va_G) (T : Nat → ClassId) (a : Nat → Nat) (m_beat : Nat → Int32) (m_nick : Nat → Int32) (m_owner : Nat → Int32) (m_place : Nat → Int32) (m_kept : Nat → Int32) (m_heard : Nat → Int32) (m_chosen : Nat → Int32) (m_minutes : Int32) (m_sightBeat : Nat → Int32) (m_sightOff : Nat → Int32) (m_sightIs : Nat → Int32) (m_sights : Int32) (m_pad : Nat → Int32) (m_padMany : Int32) (m_act : Nat → Int32) (m_who : Nat → Int32) (m_much : Nat → Int32) (m_acts : Int32) (m_heardMany : Int32) (m_wrongNow : Int32) (m_had : Nat → Int32) (m_badAct : Int32) (m_badWhy : Int32) (m_wrongAct : Int32) (m_wrongHeir : Int32) (m_odd : Nat → Int32) (m_span : Nat → Int32) (m_rise : Nat → Int32) (m_wins : Nat → Int32) (m_stored : Nat → Int32) (m_isStored : Nat → Int32) (m_storedAt : Int32) (m_isWriting : Int32) (v1 : Int32) (r : (Nat → Int32) × Int32) (h : f_X9_listen m_beat m_place m_kept m_heard m_heardMany v1 = some r) : Kt l D T yX9_listen cX9_listen 2 none (1, 0, 0, 21) [.ref (a 0), .int v1] (wM T a m_beat m_nick m_owner m_place m_kept m_heard m_chosen m_minutes m_sightBeat m_sightOff m_sightIs m_sights m_pad m_padMany m_act m_who m_much m_acts m_heardMany m_wrongNow m_had m_badAct m_badWhy m_wrongAct m_wrongHeir m_odd m_span m_rise m_wins m_stored m_isStored m_storedAt m_isWriting) (FF (fun (r : (Nat → Int32) × Int32) => none) (fun r => wM T a m_beat m_nick m_owner m_place m_kept r.1 m_chosen m_minutes m_sightBeat m_sightOff m_sightIs m_sights m_pad m_padMany m_act m_who m_much m_acts r.2 m_wrongNow m_had m_badAct m_badWhy m_wrongAct m_wrongHeir m_odd m_span m_rise m_wins m_stored m_isStored m_storedAt m_isWriting) r) := by
  refine kt_of (own := RX9) (nm := "listen") (lv := [(0, .ref (a 0)), (1, .int v1)]) (by decide) rfl rfl rfl (Nat.le_of_ble_eq_true rfl) h (fun X hn C M => ?_)
  have hnn : ((0, 0) : Nat × Nat).1 ≤ 0 ∧ ((0, 0) : Nat × Nat).2 ≤ 0 := ⟨Nat.le_refl 0, Nat.le_refl 0⟩
  unfold f_X9_listen
  refine gg_aload_n C dX9_listen_0 rfl 0 rfl ?_
  refine gf_X9_7 C 0 rfl rfl dX9_listen_1 ?_
  refine gg_aload_n C dX9_listen_4 rfl 0 rfl ?_
  refine gf_X9_19 C 0 rfl rfl dX9_listen_5 ?_
  refine gg_iload_n C dX9_listen_8 rfl 1 rfl ?_
  refine gg_iald C 4 rfl dX9_listen_9 ?_
  refine gg_iald C 1 rfl dX9_listen_10 ?_
  refine gg_aload_n C dX9_listen_11 rfl 0 rfl ?_
  refine gf_X9_22 C 0 rfl rfl dX9_listen_12 ?_
  refine gg_iload_n C dX9_listen_15 rfl 1 rfl ?_
  refine gg_iald C 5 rfl dX9_listen_16 ?_
  refine gg_icmp_ne C dX9_listen_17 (tgt := 49) (by decide) (fun _ => ?_) (fun _ => ?_)
  · exact gg_vret C M dX9_listen_49 ⟨rfl, rfl⟩
  · refine gg_aload_n C dX9_listen_20 rfl 0 rfl ?_
    refine gg_dup C dX9_listen_21 rfl ?_
    refine gf_X9_135 C 0 rfl rfl dX9_listen_22 ?_
    refine gg_iconst C dX9_listen_25 kI_1 ?_
    refine gg_iadd C dX9_listen_26 ?_
    refine pf_X9_135 C 0 rfl (Nat.le_of_ble_eq_true rfl) dX9_listen_27 (ws' := wM T a m_beat m_nick m_owner m_place m_kept m_heard m_chosen m_minutes m_sightBeat m_sightOff m_sightIs m_sights m_pad m_padMany m_act m_who m_much m_acts (m_heardMany + 1) m_wrongNow m_had m_badAct m_badWhy m_wrongAct m_wrongHeir m_odd m_span m_rise m_wins m_stored m_isStored m_storedAt m_isWriting) rfl ?_
    refine gg_aload_n C dX9_listen_30 rfl 0 rfl ?_
    refine gf_X9_25 C 0 rfl rfl dX9_listen_31 ?_
    refine gg_iload_n C dX9_listen_34 rfl 1 rfl ?_
    refine gg_bipush C dX9_listen_35 kB_99 ?_
    refine gg_aload_n C dX9_listen_37 rfl 0 rfl ?_
    refine gf_X9_25 C 0 rfl rfl dX9_listen_38 ?_
    refine gg_iload_n C dX9_listen_41 rfl 1 rfl ?_
    refine gg_iald C 6 rfl dX9_listen_42 ?_
    refine gg_iconst C dX9_listen_43 kI_1 ?_
    refine gg_iadd C dX9_listen_44 ?_
    refine gg_callS C (fun l r h => c_X9_less l D T 99 ((m_heard v1.toNatClampNeg) + 1) r h) lk_X9_138 ⟨by decide, by decide⟩ hnn rfl (rest := [.int v1, .ref (a 6)]) rfl (Nat.le_of_ble_eq_true rfl) dX9_listen_45 cut_none (st2 := fun r1 => [.int r1, .int v1, .ref (a 6)]) (fun _ => rfl) (fun r1 => ?_)
    refine gg_iast C 6 rfl dX9_listen_48 (ws' := wM T a m_beat m_nick m_owner m_place m_kept (upd m_heard v1.toNatClampNeg r1) m_chosen m_minutes m_sightBeat m_sightOff m_sightIs m_sights m_pad m_padMany m_act m_who m_much m_acts (m_heardMany + 1) m_wrongNow m_had m_badAct m_badWhy m_wrongAct m_wrongHeir m_odd m_span m_rise m_wins m_stored m_isStored m_storedAt m_isWriting) rfl ?_
    exact gg_vret C M dX9_listen_49 ⟨rfl, rfl⟩
def f_X9_swap (m_beat : Nat → Int32) (m_nick : Nat → Int32) (m_owner : Nat → Int32) (v1 : Int32) : Option ((Nat → Int32) × (Nat → Int32) × (Nat → Int32)) := gu v1 40 (bi (m_beat v1.toNatClampNeg) (fun x1 => gu v1 40 (bi (m_nick v1.toNatClampNeg) (fun x2 => gu v1 40 (bi (m_owner v1.toNatClampNeg) (fun x3 => gu (v1 + 1) 40 (gu v1 40 (gu (v1 + 1) 40 (gu v1 40 (gu (v1 + 1) 40 (gu v1 40 (gu (v1 + 1) 40 (gu (v1 + 1) 40 (gu (v1 + 1) 40 (some (upd (upd m_beat v1.toNatClampNeg (m_beat (v1 + 1).toNatClampNeg)) (v1 + 1).toNatClampNeg x1, upd (upd m_nick v1.toNatClampNeg (m_nick (v1 + 1).toNatClampNeg)) (v1 + 1).toNatClampNeg x2, upd (upd m_owner v1.toNatClampNeg (m_owner (v1 + 1).toNatClampNeg)) (v1 + 1).toNatClampNeg x3))))))))))))))))
set_option maxHeartbeats 4000000 in
set_option maxRecDepth 100000 in
theorem c_X9_swap (l : Launch) (D : va_G) (T : Nat → ClassId) (a : Nat → Nat) (m_beat : Nat → Int32) (m_nick : Nat → Int32) (m_owner : Nat → Int32) (m_place : Nat → Int32) (m_kept : Nat → Int32) (m_heard : Nat → Int32) (m_chosen : Nat → Int32) (m_minutes : Int32) (m_sightBeat : Nat → Int32) (m_sightOff : Nat → Int32) (m_sightIs : Nat → Int32) (m_sights : Int32) (m_pad : Nat → Int32) (m_padMany : Int32) (m_act : Nat → Int32) (m_who : Nat → Int32) (m_much : Nat → Int32) (m_acts : Int32) (m_heardMany : Int32) (m_wrongNow : Int32) (m_had : Nat → Int32) (m_badAct : Int32) (m_badWhy : Int32) (m_wrongAct : Int32) (m_wrongHeir : Int32) (m_odd : Nat → Int32) (m_span : Nat → Int32) (m_rise : Nat → Int32) (m_wins : Nat → Int32) (m_stored : Nat → Int32) (m_isStored : Nat → Int32) (m_storedAt : Int32) (m_isWriting : Int32) (v1 : Int32) (r : (Nat → Int32) × (Nat → Int32) × (Nat → Int32)) (h : f_X9_swap m_beat m_nick m_owner v1 = some r) : Kt l D T yX9_swap cX9_swap 5 none (0, 0, 0, 0) [.ref (a 0), .int v1] (wM T a m_beat m_nick m_owner m_place m_kept m_heard m_chosen m_minutes m_sightBeat m_sightOff m_sightIs m_sights m_pad m_padMany m_act m_who m_much m_acts m_heardMany m_wrongNow m_had m_badAct m_badWhy m_wrongAct m_wrongHeir m_odd m_span m_rise m_wins m_stored m_isStored m_storedAt m_isWriting) (FF (fun (r : (Nat → Int32) × (Nat → Int32) × (Nat → Int32)) => none) (fun r => wM T a r.1 r.2.1 r.2.2 m_place m_kept m_heard m_chosen m_minutes m_sightBeat m_sightOff m_sightIs m_sights m_pad m_padMany m_act m_who m_much m_acts m_heardMany m_wrongNow m_had m_badAct m_badWhy m_wrongAct m_wrongHeir m_odd m_span m_rise m_wins m_stored m_isStored m_storedAt m_isWriting) r) := by
  refine kt_of (own := RX9) (nm := "swap") (lv := [(0, .ref (a 0)), (1, .int v1)]) (by decide) rfl rfl rfl (Nat.le_of_ble_eq_true rfl) h (fun X hn C M => ?_)
  have hnn : ((0, 0) : Nat × Nat).1 ≤ 0 ∧ ((0, 0) : Nat × Nat).2 ≤ 0 := ⟨Nat.le_refl 0, Nat.le_refl 0⟩
  unfold f_X9_swap
  refine gg_aload_n C dX9_swap_0 rfl 0 rfl ?_
  refine gf_X9_7 C 0 rfl rfl dX9_swap_1 ?_
  refine gg_iload_n C dX9_swap_4 rfl 1 rfl ?_
  refine gg_iald C 1 rfl dX9_swap_5 ?_
  refine gg_bi (fun x1 => ?_)
  refine gg_istore_n C dX9_swap_6 rfl hn (by decide) (lv' := [(2, .int x1), (0, .ref (a 0)), (1, .int v1)]) rfl ?_
  refine gg_aload_n C dX9_swap_7 rfl 1 rfl ?_
  refine gf_X9_13 C 0 rfl rfl dX9_swap_8 ?_
  refine gg_iload_n C dX9_swap_11 rfl 2 rfl ?_
  refine gg_iald C 2 rfl dX9_swap_12 ?_
  refine gg_bi (fun x2 => ?_)
  refine gg_istore_n C dX9_swap_13 rfl hn (by decide) (lv' := [(3, .int x2), (2, .int x1), (0, .ref (a 0)), (1, .int v1)]) rfl ?_
  refine gg_aload_n C dX9_swap_14 rfl 2 rfl ?_
  refine gf_X9_16 C 0 rfl rfl dX9_swap_15 ?_
  refine gg_iload_n C dX9_swap_18 rfl 3 rfl ?_
  refine gg_iald C 3 rfl dX9_swap_19 ?_
  refine gg_bi (fun x3 => ?_)
  refine gg_istore C dX9_swap_20 hn (by decide) (lv' := [(4, .int x3), (3, .int x2), (2, .int x1), (0, .ref (a 0)), (1, .int v1)]) rfl ?_
  refine gg_aload_n C dX9_swap_22 rfl 3 rfl ?_
  refine gf_X9_7 C 0 rfl rfl dX9_swap_23 ?_
  refine gg_iload_n C dX9_swap_26 rfl 4 rfl ?_
  refine gg_aload_n C dX9_swap_27 rfl 3 rfl ?_
  refine gf_X9_7 C 0 rfl rfl dX9_swap_28 ?_
  refine gg_iload_n C dX9_swap_31 rfl 4 rfl ?_
  refine gg_iconst C dX9_swap_32 kI_1 ?_
  refine gg_iadd C dX9_swap_33 ?_
  refine gg_iald C 1 rfl dX9_swap_34 ?_
  refine gg_iast C 1 rfl dX9_swap_35 (ws' := wM T a (upd m_beat v1.toNatClampNeg (m_beat (v1 + 1).toNatClampNeg)) m_nick m_owner m_place m_kept m_heard m_chosen m_minutes m_sightBeat m_sightOff m_sightIs m_sights m_pad m_padMany m_act m_who m_much m_acts m_heardMany m_wrongNow m_had m_badAct m_badWhy m_wrongAct m_wrongHeir m_odd m_span m_rise m_wins m_stored m_isStored m_storedAt m_isWriting) rfl ?_
  refine gg_aload_n C dX9_swap_36 rfl 3 rfl ?_
  refine gf_X9_13 C 0 rfl rfl dX9_swap_37 ?_
  refine gg_iload_n C dX9_swap_40 rfl 4 rfl ?_
  refine gg_aload_n C dX9_swap_41 rfl 3 rfl ?_
  refine gf_X9_13 C 0 rfl rfl dX9_swap_42 ?_
  refine gg_iload_n C dX9_swap_45 rfl 4 rfl ?_
  refine gg_iconst C dX9_swap_46 kI_1 ?_
  refine gg_iadd C dX9_swap_47 ?_
  refine gg_iald C 2 rfl dX9_swap_48 ?_
  refine gg_iast C 2 rfl dX9_swap_49 (ws' := wM T a (upd m_beat v1.toNatClampNeg (m_beat (v1 + 1).toNatClampNeg)) (upd m_nick v1.toNatClampNeg (m_nick (v1 + 1).toNatClampNeg)) m_owner m_place m_kept m_heard m_chosen m_minutes m_sightBeat m_sightOff m_sightIs m_sights m_pad m_padMany m_act m_who m_much m_acts m_heardMany m_wrongNow m_had m_badAct m_badWhy m_wrongAct m_wrongHeir m_odd m_span m_rise m_wins m_stored m_isStored m_storedAt m_isWriting) rfl ?_
  refine gg_aload_n C dX9_swap_50 rfl 3 rfl ?_
  refine gf_X9_16 C 0 rfl rfl dX9_swap_51 ?_
  refine gg_iload_n C dX9_swap_54 rfl 4 rfl ?_
  refine gg_aload_n C dX9_swap_55 rfl 3 rfl ?_
  refine gf_X9_16 C 0 rfl rfl dX9_swap_56 ?_
  refine gg_iload_n C dX9_swap_59 rfl 4 rfl ?_
  refine gg_iconst C dX9_swap_60 kI_1 ?_
  refine gg_iadd C dX9_swap_61 ?_
  refine gg_iald C 3 rfl dX9_swap_62 ?_
  refine gg_iast C 3 rfl dX9_swap_63 (ws' := wM T a (upd m_beat v1.toNatClampNeg (m_beat (v1 + 1).toNatClampNeg)) (upd m_nick v1.toNatClampNeg (m_nick (v1 + 1).toNatClampNeg)) (upd m_owner v1.toNatClampNeg (m_owner (v1 + 1).toNatClampNeg)) m_place m_kept m_heard m_chosen m_minutes m_sightBeat m_sightOff m_sightIs m_sights m_pad m_padMany m_act m_who m_much m_acts m_heardMany m_wrongNow m_had m_badAct m_badWhy m_wrongAct m_wrongHeir m_odd m_span m_rise m_wins m_stored m_isStored m_storedAt m_isWriting) rfl ?_
  refine gg_aload_n C dX9_swap_64 rfl 3 rfl ?_
  refine gf_X9_7 C 0 rfl rfl dX9_swap_65 ?_
  refine gg_iload_n C dX9_swap_68 rfl 4 rfl ?_
  refine gg_iconst C dX9_swap_69 kI_1 ?_
  refine gg_iadd C dX9_swap_70 ?_
  refine gg_iload_n C dX9_swap_71 rfl 2 rfl ?_
  refine gg_iast C 1 rfl dX9_swap_72 (ws' := wM T a (upd (upd m_beat v1.toNatClampNeg (m_beat (v1 + 1).toNatClampNeg)) (v1 + 1).toNatClampNeg x1) (upd m_nick v1.toNatClampNeg (m_nick (v1 + 1).toNatClampNeg)) (upd m_owner v1.toNatClampNeg (m_owner (v1 + 1).toNatClampNeg)) m_place m_kept m_heard m_chosen m_minutes m_sightBeat m_sightOff m_sightIs m_sights m_pad m_padMany m_act m_who m_much m_acts m_heardMany m_wrongNow m_had m_badAct m_badWhy m_wrongAct m_wrongHeir m_odd m_span m_rise m_wins m_stored m_isStored m_storedAt m_isWriting) rfl ?_
  refine gg_aload_n C dX9_swap_73 rfl 3 rfl ?_
  refine gf_X9_13 C 0 rfl rfl dX9_swap_74 ?_
  refine gg_iload_n C dX9_swap_77 rfl 4 rfl ?_
  refine gg_iconst C dX9_swap_78 kI_1 ?_
  refine gg_iadd C dX9_swap_79 ?_
  refine gg_iload_n C dX9_swap_80 rfl 1 rfl ?_
  refine gg_iast C 2 rfl dX9_swap_81 (ws' := wM T a (upd (upd m_beat v1.toNatClampNeg (m_beat (v1 + 1).toNatClampNeg)) (v1 + 1).toNatClampNeg x1) (upd (upd m_nick v1.toNatClampNeg (m_nick (v1 + 1).toNatClampNeg)) (v1 + 1).toNatClampNeg x2) (upd m_owner v1.toNatClampNeg (m_owner (v1 + 1).toNatClampNeg)) m_place m_kept m_heard m_chosen m_minutes m_sightBeat m_sightOff m_sightIs m_sights m_pad m_padMany m_act m_who m_much m_acts m_heardMany m_wrongNow m_had m_badAct m_badWhy m_wrongAct m_wrongHeir m_odd m_span m_rise m_wins m_stored m_isStored m_storedAt m_isWriting) rfl ?_
  refine gg_aload_n C dX9_swap_82 rfl 3 rfl ?_
  refine gf_X9_16 C 0 rfl rfl dX9_swap_83 ?_
  refine gg_iload_n C dX9_swap_86 rfl 4 rfl ?_
  refine gg_iconst C dX9_swap_87 kI_1 ?_
  refine gg_iadd C dX9_swap_88 ?_
  refine gg_iload C dX9_swap_89 0 rfl ?_
  refine gg_iast C 3 rfl dX9_swap_91 (ws' := wM T a (upd (upd m_beat v1.toNatClampNeg (m_beat (v1 + 1).toNatClampNeg)) (v1 + 1).toNatClampNeg x1) (upd (upd m_nick v1.toNatClampNeg (m_nick (v1 + 1).toNatClampNeg)) (v1 + 1).toNatClampNeg x2) (upd (upd m_owner v1.toNatClampNeg (m_owner (v1 + 1).toNatClampNeg)) (v1 + 1).toNatClampNeg x3) m_place m_kept m_heard m_chosen m_minutes m_sightBeat m_sightOff m_sightIs m_sights m_pad m_padMany m_act m_who m_much m_acts m_heardMany m_wrongNow m_had m_badAct m_badWhy m_wrongAct m_wrongHeir m_odd m_span m_rise m_wins m_stored m_isStored m_storedAt m_isWriting) rfl ?_
  exact gg_vret C M dX9_swap_92 ⟨rfl, rfl⟩
def f_X9_choose (m_owner : Nat → Int32) (m_place : Nat → Int32) (m_chosen : Nat → Int32) (v1 : Int32) : Option ((Nat → Int32) × Int32) := gu v1 6 (gu v1 6 (gu v1 6 (gu (m_place v1.toNatClampNeg) 40 (if m_owner (m_place v1.toNatClampNeg).toNatClampNeg = v1 then some (upd m_chosen v1.toNatClampNeg (m_place v1.toNatClampNeg), (-6)) else some (upd m_chosen v1.toNatClampNeg (m_place v1.toNatClampNeg), v1)))))
set_option maxHeartbeats 4000000 in
set_option maxRecDepth 100000 in
theorem c_X9_choose (l : Launch) (D : va_G) (T : Nat → ClassId) (a : Nat → Nat) (m_beat : Nat → Int32) (m_nick : Nat → Int32) (m_owner : Nat → Int32) (m_place : Nat → Int32) (m_kept : Nat → Int32) (m_heard : Nat → Int32) (m_chosen : Nat → Int32) (m_minutes : Int32) (m_sightBeat : Nat → Int32) (m_sightOff : Nat → Int32) (m_sightIs : Nat → Int32) (m_sights : Int32) (m_pad : Nat → Int32) (m_padMany : Int32) (m_act : Nat → Int32) (m_who : Nat → Int32) (m_much : Nat → Int32) (m_acts : Int32) (m_heardMany : Int32) (m_wrongNow : Int32) (m_had : Nat → Int32) (m_badAct : Int32) (m_badWhy : Int32) (m_wrongAct : Int32) (m_wrongHeir : Int32) (m_odd : Nat → Int32) (m_span : Nat → Int32) (m_rise : Nat → Int32) (m_wins : Nat → Int32) (m_stored : Nat → Int32) (m_isStored : Nat → Int32) (m_storedAt : Int32) (m_isWriting : Int32) (v1 : Int32) (r : (Nat → Int32) × Int32) (h : f_X9_choose m_owner m_place m_chosen v1 = some r) : Kt l D T yX9_choose cX9_choose 2 none (0, 0, 0, 0) [.ref (a 0), .int v1] (wM T a m_beat m_nick m_owner m_place m_kept m_heard m_chosen m_minutes m_sightBeat m_sightOff m_sightIs m_sights m_pad m_padMany m_act m_who m_much m_acts m_heardMany m_wrongNow m_had m_badAct m_badWhy m_wrongAct m_wrongHeir m_odd m_span m_rise m_wins m_stored m_isStored m_storedAt m_isWriting) (FF (fun (r : (Nat → Int32) × Int32) => none) (fun r => wM T a m_beat m_nick m_owner m_place m_kept m_heard r.1 m_minutes m_sightBeat m_sightOff m_sightIs m_sights m_pad m_padMany m_act m_who m_much m_acts m_heardMany r.2 m_had m_badAct m_badWhy m_wrongAct m_wrongHeir m_odd m_span m_rise m_wins m_stored m_isStored m_storedAt m_isWriting) r) := by
  refine kt_of (own := RX9) (nm := "choose") (lv := [(0, .ref (a 0)), (1, .int v1)]) (by decide) rfl rfl rfl (Nat.le_of_ble_eq_true rfl) h (fun X hn C M => ?_)
  have hnn : ((0, 0) : Nat × Nat).1 ≤ 0 ∧ ((0, 0) : Nat × Nat).2 ≤ 0 := ⟨Nat.le_refl 0, Nat.le_refl 0⟩
  unfold f_X9_choose
  refine gg_aload_n C dX9_choose_0 rfl 0 rfl ?_
  refine gf_X9_28 C 0 rfl rfl dX9_choose_1 ?_
  refine gg_iload_n C dX9_choose_4 rfl 1 rfl ?_
  refine gg_aload_n C dX9_choose_5 rfl 0 rfl ?_
  refine gf_X9_19 C 0 rfl rfl dX9_choose_6 ?_
  refine gg_iload_n C dX9_choose_9 rfl 1 rfl ?_
  refine gg_iald C 4 rfl dX9_choose_10 ?_
  refine gg_iast C 7 rfl dX9_choose_11 (ws' := wM T a m_beat m_nick m_owner m_place m_kept m_heard (upd m_chosen v1.toNatClampNeg (m_place v1.toNatClampNeg)) m_minutes m_sightBeat m_sightOff m_sightIs m_sights m_pad m_padMany m_act m_who m_much m_acts m_heardMany m_wrongNow m_had m_badAct m_badWhy m_wrongAct m_wrongHeir m_odd m_span m_rise m_wins m_stored m_isStored m_storedAt m_isWriting) rfl ?_
  refine gg_aload_n C dX9_choose_12 rfl 0 rfl ?_
  refine gg_aload_n C dX9_choose_13 rfl 0 rfl ?_
  refine gf_X9_16 C 0 rfl rfl dX9_choose_14 ?_
  refine gg_aload_n C dX9_choose_17 rfl 0 rfl ?_
  refine gf_X9_19 C 0 rfl rfl dX9_choose_18 ?_
  refine gg_iload_n C dX9_choose_21 rfl 1 rfl ?_
  refine gg_iald C 4 rfl dX9_choose_22 ?_
  refine gg_iald C 3 rfl dX9_choose_23 ?_
  refine gg_iload_n C dX9_choose_24 rfl 1 rfl ?_
  refine gg_icmp_ne C dX9_choose_25 (tgt := 33) (by decide) (fun _ => ?_) (fun _ => ?_)
  · refine gg_iload_n C dX9_choose_33 rfl 1 rfl ?_
    refine pf_X9_141 C 0 rfl (Nat.le_of_ble_eq_true rfl) dX9_choose_34 (ws' := wM T a m_beat m_nick m_owner m_place m_kept m_heard (upd m_chosen v1.toNatClampNeg (m_place v1.toNatClampNeg)) m_minutes m_sightBeat m_sightOff m_sightIs m_sights m_pad m_padMany m_act m_who m_much m_acts m_heardMany v1 m_had m_badAct m_badWhy m_wrongAct m_wrongHeir m_odd m_span m_rise m_wins m_stored m_isStored m_storedAt m_isWriting) rfl ?_
    exact gg_vret C M dX9_choose_37 ⟨rfl, rfl⟩
  · refine gg_bipush C dX9_choose_28 kB_m6 ?_
    refine gg_goto C dX9_choose_30 (tgt := 34) (by decide) ?_
    refine pf_X9_141 C 0 rfl (Nat.le_of_ble_eq_true rfl) dX9_choose_34 (ws' := wM T a m_beat m_nick m_owner m_place m_kept m_heard (upd m_chosen v1.toNatClampNeg (m_place v1.toNatClampNeg)) m_minutes m_sightBeat m_sightOff m_sightIs m_sights m_pad m_padMany m_act m_who m_much m_acts m_heardMany (-6) m_had m_badAct m_badWhy m_wrongAct m_wrongHeir m_odd m_span m_rise m_wins m_stored m_isStored m_storedAt m_isWriting) rfl ?_
    exact gg_vret C M dX9_choose_37 ⟨rfl, rfl⟩
def f_X9_passMinute_L2 (m_nick : Nat → Int32) (m_chosen : Nat → Int32) : Nat → Int32 → (Nat → Int32) → Option (Int32 × (Nat → Int32))
  | 0, _, _ => none
  | nn + 1, y1, m_place => if 6 ≤ y1 then some (y1, m_place) else gu y1 6 (jn (α := Int32) (if 0 ≤ m_chosen y1.toNatClampNeg then some 0 else gu y1 6 (gu (m_place y1.toNatClampNeg) 40 (if m_nick (m_place y1.toNatClampNeg).toNatClampNeg = 1 then gu y1 6 (if 39 ≤ m_place y1.toNatClampNeg then some 0 else some 1) else some 0))) (fun z1 => gu y1 6 (if z1 = 0 then gu y1 6 (f_X9_passMinute_L2 m_nick m_chosen nn (y1 + 1) (upd m_place y1.toNatClampNeg ((m_place y1.toNatClampNeg) + 0))) else gu y1 6 (f_X9_passMinute_L2 m_nick m_chosen nn (y1 + 1) (upd m_place y1.toNatClampNeg ((m_place y1.toNatClampNeg) + 1))))))
set_option maxHeartbeats 4000000 in
set_option maxRecDepth 100000 in
theorem g_X9_passMinute_L2 {X : KX} {D : va_G} {T : Nat → ClassId} {Q : Int32 × (Nat → Int32) → State → Prop} {n : Nat × Nat} (C : Cx X D T cX9_passMinute RX9 { frames := 0, cells := 0, slots := 0, locals := 0 }) (hnn : n.1 ≤ 0 ∧ n.2 ≤ 0) (hn : kxL X = 3) (a : Nat → Nat)  (m_beat : Nat → Int32) (m_nick : Nat → Int32) (m_owner : Nat → Int32) (m_kept : Nat → Int32) (m_heard : Nat → Int32) (m_chosen : Nat → Int32) (m_minutes : Int32) (m_sightBeat : Nat → Int32) (m_sightOff : Nat → Int32) (m_sightIs : Nat → Int32) (m_sights : Int32) (m_pad : Nat → Int32) (m_padMany : Int32) (m_act : Nat → Int32) (m_who : Nat → Int32) (m_much : Nat → Int32) (m_acts : Int32) (m_heardMany : Int32) (m_wrongNow : Int32) (m_had : Nat → Int32) (m_badAct : Int32) (m_badWhy : Int32) (m_wrongAct : Int32) (m_wrongHeir : Int32) (m_odd : Nat → Int32) (m_span : Nat → Int32) (m_rise : Nat → Int32) (m_wins : Nat → Int32) (m_stored : Nat → Int32) (m_isStored : Nat → Int32) (m_storedAt : Int32) (m_isWriting : Int32) (hk : ∀ v : Int32 × (Nat → Int32), GG X D Q n (wM T a m_beat m_nick m_owner v.2 m_kept m_heard m_chosen m_minutes m_sightBeat m_sightOff m_sightIs m_sights m_pad m_padMany m_act m_who m_much m_acts m_heardMany m_wrongNow m_had m_badAct m_badWhy m_wrongAct m_wrongHeir m_odd m_span m_rise m_wins m_stored m_isStored m_storedAt m_isWriting) [(0, .ref (a 0)), (1, .int v.1)] 73 [] (some (v))) : ∀ (nn : Nat) (y1 : Int32) (m_place : Nat → Int32), GG X D Q n (wM T a m_beat m_nick m_owner m_place m_kept m_heard m_chosen m_minutes m_sightBeat m_sightOff m_sightIs m_sights m_pad m_padMany m_act m_who m_much m_acts m_heardMany m_wrongNow m_had m_badAct m_badWhy m_wrongAct m_wrongHeir m_odd m_span m_rise m_wins m_stored m_isStored m_storedAt m_isWriting) [(0, .ref (a 0)), (1, .int y1)] 2 [] (f_X9_passMinute_L2 m_nick m_chosen nn y1 m_place) := by
  intro nn
  induction nn with
  | zero => intros; exact gg_none
  | succ nn ih =>
    intro y1 m_place
    unfold f_X9_passMinute_L2
    refine gg_iload_n C dX9_passMinute_2 rfl 1 rfl ?_
    refine gg_bipush C dX9_passMinute_3 kB_6 ?_
    refine gg_icmp_ge C dX9_passMinute_5 (tgt := 73) (by decide) (fun _ => ?_) (fun _ => ?_)
    · refine gg_sub [0, 1] rfl ?_
      exact hk (y1, m_place)
    · refine gg_aload_n C dX9_passMinute_8 rfl 0 rfl ?_
      refine gf_X9_28 C 0 rfl rfl dX9_passMinute_9 ?_
      refine gg_iload_n C dX9_passMinute_12 rfl 1 rfl ?_
      refine gg_iald C 7 rfl dX9_passMinute_13 ?_
      refine gg_join (α := Int32) 48 (fun z1 => wM T a m_beat m_nick m_owner m_place m_kept m_heard m_chosen m_minutes m_sightBeat m_sightOff m_sightIs m_sights m_pad m_padMany m_act m_who m_much m_acts m_heardMany m_wrongNow m_had m_badAct m_badWhy m_wrongAct m_wrongHeir m_odd m_span m_rise m_wins m_stored m_isStored m_storedAt m_isWriting) (fun z1 => [(0, .ref (a 0)), (1, .int y1)]) (fun z1 => [.int z1]) (fun z1 => ?_) (fun K2 => ?_)
      · refine gg_istore_n C dX9_passMinute_48 rfl hn (by decide) (lv' := [(2, .int z1), (0, .ref (a 0)), (1, .int y1)]) rfl ?_
        refine gg_aload_n C dX9_passMinute_49 rfl 1 rfl ?_
        refine gf_X9_19 C 0 rfl rfl dX9_passMinute_50 ?_
        refine gg_iload_n C dX9_passMinute_53 rfl 2 rfl ?_
        refine gg_dup2 C dX9_passMinute_54 rfl rfl ?_
        refine gg_iald C 4 rfl dX9_passMinute_55 ?_
        refine gg_iload_n C dX9_passMinute_56 rfl 0 rfl ?_
        refine gg_if_eq C dX9_passMinute_57 (tgt := 64) (by decide) (fun _ => ?_) (fun _ => ?_)
        · refine gg_iconst C dX9_passMinute_64 kI_0 ?_
          refine gg_iadd C dX9_passMinute_65 ?_
          refine gg_iast C 4 rfl dX9_passMinute_66 (ws' := wM T a m_beat m_nick m_owner (upd m_place y1.toNatClampNeg ((m_place y1.toNatClampNeg) + 0)) m_kept m_heard m_chosen m_minutes m_sightBeat m_sightOff m_sightIs m_sights m_pad m_padMany m_act m_who m_much m_acts m_heardMany m_wrongNow m_had m_badAct m_badWhy m_wrongAct m_wrongHeir m_odd m_span m_rise m_wins m_stored m_isStored m_storedAt m_isWriting) rfl ?_
          refine gg_iinc C dX9_passMinute_67 (j := 2) rfl (v := y1 + 1) (by first | rfl | decide) hn (by decide) (lv' := [(1, .int (y1 + 1)), (2, .int z1), (0, .ref (a 0))]) rfl ?_
          refine gg_goto C dX9_passMinute_70 (tgt := 2) (by decide) ?_
          refine gg_sub [2, 0] rfl ?_
          exact ih (y1 + 1) (upd m_place y1.toNatClampNeg ((m_place y1.toNatClampNeg) + 0))
        · refine gg_iconst C dX9_passMinute_60 kI_1 ?_
          refine gg_goto C dX9_passMinute_61 (tgt := 65) (by decide) ?_
          refine gg_iadd C dX9_passMinute_65 ?_
          refine gg_iast C 4 rfl dX9_passMinute_66 (ws' := wM T a m_beat m_nick m_owner (upd m_place y1.toNatClampNeg ((m_place y1.toNatClampNeg) + 1)) m_kept m_heard m_chosen m_minutes m_sightBeat m_sightOff m_sightIs m_sights m_pad m_padMany m_act m_who m_much m_acts m_heardMany m_wrongNow m_had m_badAct m_badWhy m_wrongAct m_wrongHeir m_odd m_span m_rise m_wins m_stored m_isStored m_storedAt m_isWriting) rfl ?_
          refine gg_iinc C dX9_passMinute_67 (j := 2) rfl (v := y1 + 1) (by first | rfl | decide) hn (by decide) (lv' := [(1, .int (y1 + 1)), (2, .int z1), (0, .ref (a 0))]) rfl ?_
          refine gg_goto C dX9_passMinute_70 (tgt := 2) (by decide) ?_
          refine gg_sub [2, 0] rfl ?_
          exact ih (y1 + 1) (upd m_place y1.toNatClampNeg ((m_place y1.toNatClampNeg) + 1))
      · refine gg_if_ge C dX9_passMinute_14 (tgt := 47) (by decide) (fun _ => ?_) (fun _ => ?_)
        · refine gg_iconst C dX9_passMinute_47 kI_0 ?_
          refine gg_sub [0, 1] rfl ?_
          exact K2 0
        · refine gg_aload_n C dX9_passMinute_17 rfl 0 rfl ?_
          refine gf_X9_13 C 0 rfl rfl dX9_passMinute_18 ?_
          refine gg_aload_n C dX9_passMinute_21 rfl 0 rfl ?_
          refine gf_X9_19 C 0 rfl rfl dX9_passMinute_22 ?_
          refine gg_iload_n C dX9_passMinute_25 rfl 1 rfl ?_
          refine gg_iald C 4 rfl dX9_passMinute_26 ?_
          refine gg_iald C 2 rfl dX9_passMinute_27 ?_
          refine gg_iconst C dX9_passMinute_28 kI_1 ?_
          refine gg_icmp_ne C dX9_passMinute_29 (tgt := 47) (by decide) (fun _ => ?_) (fun _ => ?_)
          · refine gg_iconst C dX9_passMinute_47 kI_0 ?_
            refine gg_sub [0, 1] rfl ?_
            exact K2 0
          · refine gg_aload_n C dX9_passMinute_32 rfl 0 rfl ?_
            refine gf_X9_19 C 0 rfl rfl dX9_passMinute_33 ?_
            refine gg_iload_n C dX9_passMinute_36 rfl 1 rfl ?_
            refine gg_iald C 4 rfl dX9_passMinute_37 ?_
            refine gg_bipush C dX9_passMinute_38 kB_39 ?_
            refine gg_icmp_ge C dX9_passMinute_40 (tgt := 47) (by decide) (fun _ => ?_) (fun _ => ?_)
            · refine gg_iconst C dX9_passMinute_47 kI_0 ?_
              refine gg_sub [0, 1] rfl ?_
              exact K2 0
            · refine gg_iconst C dX9_passMinute_43 kI_1 ?_
              refine gg_goto C dX9_passMinute_44 (tgt := 48) (by decide) ?_
              refine gg_sub [0, 1] rfl ?_
              exact K2 1
def f_X9_passMinute (m_nick : Nat → Int32) (m_place : Nat → Int32) (m_chosen : Nat → Int32) (m_minutes : Int32) : Option ((Nat → Int32) × Int32) := jn (α := Int32 × (Nat → Int32)) (f_X9_passMinute_L2 m_nick m_chosen 100 0 m_place) (fun z3 => some (z3.2, m_minutes + 1))
set_option maxHeartbeats 4000000 in
set_option maxRecDepth 100000 in
theorem c_X9_passMinute (l : Launch) (D : va_G) (T : Nat → ClassId) (a : Nat → Nat) (m_beat : Nat → Int32) (m_nick : Nat → Int32) (m_owner : Nat → Int32) (m_place : Nat → Int32) (m_kept : Nat → Int32) (m_heard : Nat → Int32) (m_chosen : Nat → Int32) (m_minutes : Int32) (m_sightBeat : Nat → Int32) (m_sightOff : Nat → Int32) (m_sightIs : Nat → Int32) (m_sights : Int32) (m_pad : Nat → Int32) (m_padMany : Int32) (m_act : Nat → Int32) (m_who : Nat → Int32) (m_much : Nat → Int32) (m_acts : Int32) (m_heardMany : Int32) (m_wrongNow : Int32) (m_had : Nat → Int32) (m_badAct : Int32) (m_badWhy : Int32) (m_wrongAct : Int32) (m_wrongHeir : Int32) (m_odd : Nat → Int32) (m_span : Nat → Int32) (m_rise : Nat → Int32) (m_wins : Nat → Int32) (m_stored : Nat → Int32) (m_isStored : Nat → Int32) (m_storedAt : Int32) (m_isWriting : Int32) (r : (Nat → Int32) × Int32) (h : f_X9_passMinute m_nick m_place m_chosen m_minutes = some r) : Kt l D T yX9_passMinute cX9_passMinute 3 none (0, 0, 0, 0) [.ref (a 0)] (wM T a m_beat m_nick m_owner m_place m_kept m_heard m_chosen m_minutes m_sightBeat m_sightOff m_sightIs m_sights m_pad m_padMany m_act m_who m_much m_acts m_heardMany m_wrongNow m_had m_badAct m_badWhy m_wrongAct m_wrongHeir m_odd m_span m_rise m_wins m_stored m_isStored m_storedAt m_isWriting) (FF (fun (r : (Nat → Int32) × Int32) => none) (fun r => wM T a m_beat m_nick m_owner r.1 m_kept m_heard m_chosen r.2 m_sightBeat m_sightOff m_sightIs m_sights m_pad m_padMany m_act m_who m_much m_acts m_heardMany m_wrongNow m_had m_badAct m_badWhy m_wrongAct m_wrongHeir m_odd m_span m_rise m_wins m_stored m_isStored m_storedAt m_isWriting) r) := by
  refine kt_of (own := RX9) (nm := "passMinute") (lv := [(0, .ref (a 0))]) (by decide) rfl rfl rfl (Nat.le_of_ble_eq_true rfl) h (fun X hn C M => ?_)
  have hnn : ((0, 0) : Nat × Nat).1 ≤ 0 ∧ ((0, 0) : Nat × Nat).2 ≤ 0 := ⟨Nat.le_refl 0, Nat.le_refl 0⟩
  unfold f_X9_passMinute
  refine gg_iconst C dX9_passMinute_0 kI_0 ?_
  refine gg_istore_n C dX9_passMinute_1 rfl hn (by decide) (lv' := [(1, .int 0), (0, .ref (a 0))]) rfl ?_
  refine gg_join (α := Int32 × (Nat → Int32)) 73 (fun z3 => wM T a m_beat m_nick m_owner z3.2 m_kept m_heard m_chosen m_minutes m_sightBeat m_sightOff m_sightIs m_sights m_pad m_padMany m_act m_who m_much m_acts m_heardMany m_wrongNow m_had m_badAct m_badWhy m_wrongAct m_wrongHeir m_odd m_span m_rise m_wins m_stored m_isStored m_storedAt m_isWriting) (fun z3 => [(0, .ref (a 0)), (1, .int z3.1)]) (fun z3 => []) (fun z3 => ?_) (fun K4 => ?_)
  · refine gg_aload_n C dX9_passMinute_73 rfl 0 rfl ?_
    refine gg_dup C dX9_passMinute_74 rfl ?_
    refine gf_X9_129 C 0 rfl rfl dX9_passMinute_75 ?_
    refine gg_iconst C dX9_passMinute_78 kI_1 ?_
    refine gg_iadd C dX9_passMinute_79 ?_
    refine pf_X9_129 C 0 rfl (Nat.le_of_ble_eq_true rfl) dX9_passMinute_80 (ws' := wM T a m_beat m_nick m_owner z3.2 m_kept m_heard m_chosen (m_minutes + 1) m_sightBeat m_sightOff m_sightIs m_sights m_pad m_padMany m_act m_who m_much m_acts m_heardMany m_wrongNow m_had m_badAct m_badWhy m_wrongAct m_wrongHeir m_odd m_span m_rise m_wins m_stored m_isStored m_storedAt m_isWriting) rfl ?_
    exact gg_vret C M dX9_passMinute_83 ⟨rfl, rfl⟩
  · refine gg_sub [1, 0] rfl ?_
    exact g_X9_passMinute_L2 C hnn hn a m_beat m_nick m_owner m_kept m_heard m_chosen m_minutes m_sightBeat m_sightOff m_sightIs m_sights m_pad m_padMany m_act m_who m_much m_acts m_heardMany m_wrongNow m_had m_badAct m_badWhy m_wrongAct m_wrongHeir m_odd m_span m_rise m_wins m_stored m_isStored m_storedAt m_isWriting K4 100 0 m_place
def f_X9_happen (m_beat : Nat → Int32) (m_nick : Nat → Int32) (m_owner : Nat → Int32) (m_place : Nat → Int32) (m_kept : Nat → Int32) (m_heard : Nat → Int32) (m_chosen : Nat → Int32) (m_minutes : Int32) (m_heardMany : Int32) (v1 : Int32) (v2 : Int32) (v3 : Int32) : Option ((Nat → Int32) × (Nat → Int32) × (Nat → Int32) × (Nat → Int32) × (Nat → Int32) × (Nat → Int32) × Int32 × Int32 × Int32) := if v1 = 0 then gu v2 6 (gu v2 6 (some (m_beat, m_nick, m_owner, upd m_place v2.toNatClampNeg ((m_place v2.toNatClampNeg) + v3), m_heard, m_chosen, m_minutes, m_heardMany, (-6)))) else (if v1 = 1 then gu v2 6 (gu v2 6 (some (m_beat, m_nick, m_owner, upd m_place v2.toNatClampNeg ((m_place v2.toNatClampNeg) - v3), m_heard, m_chosen, m_minutes, m_heardMany, (-6)))) else (if v1 = 2 then jn (f_X9_listen m_beat m_place m_kept m_heard m_heardMany v2) (fun r4 => some (m_beat, m_nick, m_owner, m_place, r4.1, m_chosen, m_minutes, r4.2, (-6))) else (if v1 = 3 then gu v2 6 (gu v2 6 (gu (m_place v2.toNatClampNeg) 40 (gu (m_place v2.toNatClampNeg) 40 (some (m_beat, upd m_nick (m_place v2.toNatClampNeg).toNatClampNeg (1 - (m_nick (m_place v2.toNatClampNeg).toNatClampNeg)), m_owner, m_place, m_heard, m_chosen, m_minutes, m_heardMany, (-6)))))) else (if v1 = 4 then gu v2 6 (gu (m_place v2.toNatClampNeg) 40 (some (upd m_beat (m_place v2.toNatClampNeg).toNatClampNeg v3, m_nick, m_owner, m_place, m_heard, m_chosen, m_minutes, m_heardMany, (-6)))) else (if v1 = 5 then gu v2 6 (jn (f_X9_swap m_beat m_nick m_owner (m_place v2.toNatClampNeg)) (fun r8 => some (r8.1, r8.2.1, r8.2.2, m_place, m_heard, m_chosen, m_minutes, m_heardMany, (-6)))) else (if v1 = 6 then jn (f_X9_choose m_owner m_place m_chosen v2) (fun r10 => some (m_beat, m_nick, m_owner, m_place, m_heard, r10.1, m_minutes, m_heardMany, r10.2)) else (jn (f_X9_passMinute m_nick m_place m_chosen m_minutes) (fun r11 => some (m_beat, m_nick, m_owner, r11.1, m_heard, m_chosen, r11.2, m_heardMany, (-6))))))))))
set_option maxHeartbeats 4000000 in
set_option maxRecDepth 100000 in
theorem c_X9_happen (l : Launch) (D : va_G) (T : Nat → ClassId) (a : Nat → Nat) (m_beat : Nat → Int32) (m_nick : Nat → Int32) (m_owner : Nat → Int32) (m_place : Nat → Int32) (m_kept : Nat → Int32) (m_heard : Nat → Int32) (m_chosen : Nat → Int32) (m_minutes : Int32) (m_sightBeat : Nat → Int32) (m_sightOff : Nat → Int32) (m_sightIs : Nat → Int32) (m_sights : Int32) (m_pad : Nat → Int32) (m_padMany : Int32) (m_act : Nat → Int32) (m_who : Nat → Int32) (m_much : Nat → Int32) (m_acts : Int32) (m_heardMany : Int32) (m_wrongNow : Int32) (m_had : Nat → Int32) (m_badAct : Int32) (m_badWhy : Int32) (m_wrongAct : Int32) (m_wrongHeir : Int32) (m_odd : Nat → Int32) (m_span : Nat → Int32) (m_rise : Nat → Int32) (m_wins : Nat → Int32) (m_stored : Nat → Int32) (m_isStored : Nat → Int32) (m_storedAt : Int32) (m_isWriting : Int32) (v1 : Int32) (v2 : Int32) (v3 : Int32) (r : (Nat → Int32) × (Nat → Int32) × (Nat → Int32) × (Nat → Int32) × (Nat → Int32) × (Nat → Int32) × Int32 × Int32 × Int32) (h : f_X9_happen m_beat m_nick m_owner m_place m_kept m_heard m_chosen m_minutes m_heardMany v1 v2 v3 = some r) : Kt l D T yX9_happen cX9_happen 4 none (2, 0, 0, 42) [.ref (a 0), .int v1, .int v2, .int v3] (wM T a m_beat m_nick m_owner m_place m_kept m_heard m_chosen m_minutes m_sightBeat m_sightOff m_sightIs m_sights m_pad m_padMany m_act m_who m_much m_acts m_heardMany m_wrongNow m_had m_badAct m_badWhy m_wrongAct m_wrongHeir m_odd m_span m_rise m_wins m_stored m_isStored m_storedAt m_isWriting) (FF (fun (r : (Nat → Int32) × (Nat → Int32) × (Nat → Int32) × (Nat → Int32) × (Nat → Int32) × (Nat → Int32) × Int32 × Int32 × Int32) => none) (fun r => wM T a r.1 r.2.1 r.2.2.1 r.2.2.2.1 m_kept r.2.2.2.2.1 r.2.2.2.2.2.1 r.2.2.2.2.2.2.1 m_sightBeat m_sightOff m_sightIs m_sights m_pad m_padMany m_act m_who m_much m_acts r.2.2.2.2.2.2.2.1 r.2.2.2.2.2.2.2.2 m_had m_badAct m_badWhy m_wrongAct m_wrongHeir m_odd m_span m_rise m_wins m_stored m_isStored m_storedAt m_isWriting) r) := by
  refine kt_of (own := RX9) (nm := "happen") (lv := [(0, .ref (a 0)), (1, .int v1), (2, .int v2), (3, .int v3)]) (by decide) rfl rfl rfl (Nat.le_of_ble_eq_true rfl) h (fun X hn C M => ?_)
  have hnn : ((0, 0) : Nat × Nat).1 ≤ 0 ∧ ((0, 0) : Nat × Nat).2 ≤ 0 := ⟨Nat.le_refl 0, Nat.le_refl 0⟩
  unfold f_X9_happen
  refine gg_aload_n C dX9_happen_0 rfl 0 rfl ?_
  refine gg_bipush C dX9_happen_1 kB_m6 ?_
  refine pf_X9_141 C 0 rfl (Nat.le_of_ble_eq_true rfl) dX9_happen_3 (ws' := wM T a m_beat m_nick m_owner m_place m_kept m_heard m_chosen m_minutes m_sightBeat m_sightOff m_sightIs m_sights m_pad m_padMany m_act m_who m_much m_acts m_heardMany (-6) m_had m_badAct m_badWhy m_wrongAct m_wrongHeir m_odd m_span m_rise m_wins m_stored m_isStored m_storedAt m_isWriting) rfl ?_
  refine gg_iload_n C dX9_happen_6 rfl 1 rfl ?_
  refine gg_ite (fun hs1 => ?_) (fun hs1 => ?_)
  · refine gg_tabIn C 0 dX9_happen_7 (by rw [hs1]; decide) (by decide) (by decide) (off := 41) (by decide) (tgt := 48) (by decide) ?_
    refine gg_aload_n C dX9_happen_48 rfl 0 rfl ?_
    refine gf_X9_19 C 0 rfl rfl dX9_happen_49 ?_
    refine gg_iload_n C dX9_happen_52 rfl 2 rfl ?_
    refine gg_dup2 C dX9_happen_53 rfl rfl ?_
    refine gg_iald C 4 rfl dX9_happen_54 ?_
    refine gg_iload_n C dX9_happen_55 rfl 3 rfl ?_
    refine gg_iadd C dX9_happen_56 ?_
    refine gg_iast C 4 rfl dX9_happen_57 (ws' := wM T a m_beat m_nick m_owner (upd m_place v2.toNatClampNeg ((m_place v2.toNatClampNeg) + v3)) m_kept m_heard m_chosen m_minutes m_sightBeat m_sightOff m_sightIs m_sights m_pad m_padMany m_act m_who m_much m_acts m_heardMany (-6) m_had m_badAct m_badWhy m_wrongAct m_wrongHeir m_odd m_span m_rise m_wins m_stored m_isStored m_storedAt m_isWriting) rfl ?_
    refine gg_goto C dX9_happen_58 (tgt := 149) (by decide) ?_
    exact gg_vret C M dX9_happen_149 ⟨rfl, rfl⟩
  refine gg_ite (fun hs2 => ?_) (fun hs2 => ?_)
  · refine gg_tabIn C 1 dX9_happen_7 (by rw [hs2]; decide) (by decide) (by decide) (off := 54) (by decide) (tgt := 61) (by decide) ?_
    refine gg_aload_n C dX9_happen_61 rfl 0 rfl ?_
    refine gf_X9_19 C 0 rfl rfl dX9_happen_62 ?_
    refine gg_iload_n C dX9_happen_65 rfl 2 rfl ?_
    refine gg_dup2 C dX9_happen_66 rfl rfl ?_
    refine gg_iald C 4 rfl dX9_happen_67 ?_
    refine gg_iload_n C dX9_happen_68 rfl 3 rfl ?_
    refine gg_isub C dX9_happen_69 ?_
    refine gg_iast C 4 rfl dX9_happen_70 (ws' := wM T a m_beat m_nick m_owner (upd m_place v2.toNatClampNeg ((m_place v2.toNatClampNeg) - v3)) m_kept m_heard m_chosen m_minutes m_sightBeat m_sightOff m_sightIs m_sights m_pad m_padMany m_act m_who m_much m_acts m_heardMany (-6) m_had m_badAct m_badWhy m_wrongAct m_wrongHeir m_odd m_span m_rise m_wins m_stored m_isStored m_storedAt m_isWriting) rfl ?_
    refine gg_goto C dX9_happen_71 (tgt := 149) (by decide) ?_
    exact gg_vret C M dX9_happen_149 ⟨rfl, rfl⟩
  refine gg_ite (fun hs3 => ?_) (fun hs3 => ?_)
  · refine gg_tabIn C 2 dX9_happen_7 (by rw [hs3]; decide) (by decide) (by decide) (off := 67) (by decide) (tgt := 74) (by decide) ?_
    refine gg_aload_n C dX9_happen_74 rfl 0 rfl ?_
    refine gg_iload_n C dX9_happen_75 rfl 2 rfl ?_
    refine gg_callV C (fun l r h => c_X9_listen l D T a m_beat m_nick m_owner m_place m_kept m_heard m_chosen m_minutes m_sightBeat m_sightOff m_sightIs m_sights m_pad m_padMany m_act m_who m_much m_acts m_heardMany (-6) m_had m_badAct m_badWhy m_wrongAct m_wrongHeir m_odd m_span m_rise m_wins m_stored m_isStored m_storedAt m_isWriting v2 r h) lk_X9_144 ⟨by decide, by decide⟩ hnn rfl (rest := []) rfl (Nat.le_of_ble_eq_true rfl) 0 rfl rfl dX9_happen_76 (ws2 := fun r4 => wM T a m_beat m_nick m_owner m_place m_kept r4.1 m_chosen m_minutes m_sightBeat m_sightOff m_sightIs m_sights m_pad m_padMany m_act m_who m_much m_acts r4.2 (-6) m_had m_badAct m_badWhy m_wrongAct m_wrongHeir m_odd m_span m_rise m_wins m_stored m_isStored m_storedAt m_isWriting) (cut_full (fun _ => rfl)) (st2 := fun r4 => []) (fun _ => rfl) (fun r4 => ?_)
    refine gg_goto C dX9_happen_79 (tgt := 149) (by decide) ?_
    exact gg_vret C M dX9_happen_149 ⟨rfl, rfl⟩
  refine gg_ite (fun hs5 => ?_) (fun hs5 => ?_)
  · refine gg_tabIn C 3 dX9_happen_7 (by rw [hs5]; decide) (by decide) (by decide) (off := 75) (by decide) (tgt := 82) (by decide) ?_
    refine gg_aload_n C dX9_happen_82 rfl 0 rfl ?_
    refine gf_X9_13 C 0 rfl rfl dX9_happen_83 ?_
    refine gg_aload_n C dX9_happen_86 rfl 0 rfl ?_
    refine gf_X9_19 C 0 rfl rfl dX9_happen_87 ?_
    refine gg_iload_n C dX9_happen_90 rfl 2 rfl ?_
    refine gg_iald C 4 rfl dX9_happen_91 ?_
    refine gg_iconst C dX9_happen_92 kI_1 ?_
    refine gg_aload_n C dX9_happen_93 rfl 0 rfl ?_
    refine gf_X9_13 C 0 rfl rfl dX9_happen_94 ?_
    refine gg_aload_n C dX9_happen_97 rfl 0 rfl ?_
    refine gf_X9_19 C 0 rfl rfl dX9_happen_98 ?_
    refine gg_iload_n C dX9_happen_101 rfl 2 rfl ?_
    refine gg_iald C 4 rfl dX9_happen_102 ?_
    refine gg_iald C 2 rfl dX9_happen_103 ?_
    refine gg_isub C dX9_happen_104 ?_
    refine gg_iast C 2 rfl dX9_happen_105 (ws' := wM T a m_beat (upd m_nick (m_place v2.toNatClampNeg).toNatClampNeg (1 - (m_nick (m_place v2.toNatClampNeg).toNatClampNeg))) m_owner m_place m_kept m_heard m_chosen m_minutes m_sightBeat m_sightOff m_sightIs m_sights m_pad m_padMany m_act m_who m_much m_acts m_heardMany (-6) m_had m_badAct m_badWhy m_wrongAct m_wrongHeir m_odd m_span m_rise m_wins m_stored m_isStored m_storedAt m_isWriting) rfl ?_
    refine gg_goto C dX9_happen_106 (tgt := 149) (by decide) ?_
    exact gg_vret C M dX9_happen_149 ⟨rfl, rfl⟩
  refine gg_ite (fun hs6 => ?_) (fun hs6 => ?_)
  · refine gg_tabIn C 4 dX9_happen_7 (by rw [hs6]; decide) (by decide) (by decide) (off := 102) (by decide) (tgt := 109) (by decide) ?_
    refine gg_aload_n C dX9_happen_109 rfl 0 rfl ?_
    refine gf_X9_7 C 0 rfl rfl dX9_happen_110 ?_
    refine gg_aload_n C dX9_happen_113 rfl 0 rfl ?_
    refine gf_X9_19 C 0 rfl rfl dX9_happen_114 ?_
    refine gg_iload_n C dX9_happen_117 rfl 2 rfl ?_
    refine gg_iald C 4 rfl dX9_happen_118 ?_
    refine gg_iload_n C dX9_happen_119 rfl 3 rfl ?_
    refine gg_iast C 1 rfl dX9_happen_120 (ws' := wM T a (upd m_beat (m_place v2.toNatClampNeg).toNatClampNeg v3) m_nick m_owner m_place m_kept m_heard m_chosen m_minutes m_sightBeat m_sightOff m_sightIs m_sights m_pad m_padMany m_act m_who m_much m_acts m_heardMany (-6) m_had m_badAct m_badWhy m_wrongAct m_wrongHeir m_odd m_span m_rise m_wins m_stored m_isStored m_storedAt m_isWriting) rfl ?_
    refine gg_goto C dX9_happen_121 (tgt := 149) (by decide) ?_
    exact gg_vret C M dX9_happen_149 ⟨rfl, rfl⟩
  refine gg_ite (fun hs7 => ?_) (fun hs7 => ?_)
  · refine gg_tabIn C 5 dX9_happen_7 (by rw [hs7]; decide) (by decide) (by decide) (off := 117) (by decide) (tgt := 124) (by decide) ?_
    refine gg_aload_n C dX9_happen_124 rfl 0 rfl ?_
    refine gg_aload_n C dX9_happen_125 rfl 0 rfl ?_
    refine gf_X9_19 C 0 rfl rfl dX9_happen_126 ?_
    refine gg_iload_n C dX9_happen_129 rfl 2 rfl ?_
    refine gg_iald C 4 rfl dX9_happen_130 ?_
    refine gg_callV C (fun l r h => c_X9_swap l D T a m_beat m_nick m_owner m_place m_kept m_heard m_chosen m_minutes m_sightBeat m_sightOff m_sightIs m_sights m_pad m_padMany m_act m_who m_much m_acts m_heardMany (-6) m_had m_badAct m_badWhy m_wrongAct m_wrongHeir m_odd m_span m_rise m_wins m_stored m_isStored m_storedAt m_isWriting (m_place v2.toNatClampNeg) r h) lk_X9_148 ⟨by decide, by decide⟩ hnn rfl (rest := []) rfl (Nat.le_of_ble_eq_true rfl) 0 rfl rfl dX9_happen_131 (ws2 := fun r8 => wM T a r8.1 r8.2.1 r8.2.2 m_place m_kept m_heard m_chosen m_minutes m_sightBeat m_sightOff m_sightIs m_sights m_pad m_padMany m_act m_who m_much m_acts m_heardMany (-6) m_had m_badAct m_badWhy m_wrongAct m_wrongHeir m_odd m_span m_rise m_wins m_stored m_isStored m_storedAt m_isWriting) (cut_full (fun _ => rfl)) (st2 := fun r8 => []) (fun _ => rfl) (fun r8 => ?_)
    refine gg_goto C dX9_happen_134 (tgt := 149) (by decide) ?_
    exact gg_vret C M dX9_happen_149 ⟨rfl, rfl⟩
  refine gg_ite (fun hs9 => ?_) (fun hs9 => ?_)
  · refine gg_tabIn C 6 dX9_happen_7 (by rw [hs9]; decide) (by decide) (by decide) (off := 130) (by decide) (tgt := 137) (by decide) ?_
    refine gg_aload_n C dX9_happen_137 rfl 0 rfl ?_
    refine gg_iload_n C dX9_happen_138 rfl 2 rfl ?_
    refine gg_callV C (fun l r h => c_X9_choose l D T a m_beat m_nick m_owner m_place m_kept m_heard m_chosen m_minutes m_sightBeat m_sightOff m_sightIs m_sights m_pad m_padMany m_act m_who m_much m_acts m_heardMany (-6) m_had m_badAct m_badWhy m_wrongAct m_wrongHeir m_odd m_span m_rise m_wins m_stored m_isStored m_storedAt m_isWriting v2 r h) lk_X9_151 ⟨by decide, by decide⟩ hnn rfl (rest := []) rfl (Nat.le_of_ble_eq_true rfl) 0 rfl rfl dX9_happen_139 (ws2 := fun r10 => wM T a m_beat m_nick m_owner m_place m_kept m_heard r10.1 m_minutes m_sightBeat m_sightOff m_sightIs m_sights m_pad m_padMany m_act m_who m_much m_acts m_heardMany r10.2 m_had m_badAct m_badWhy m_wrongAct m_wrongHeir m_odd m_span m_rise m_wins m_stored m_isStored m_storedAt m_isWriting) (cut_full (fun _ => rfl)) (st2 := fun r10 => []) (fun _ => rfl) (fun r10 => ?_)
    refine gg_goto C dX9_happen_142 (tgt := 149) (by decide) ?_
    exact gg_vret C M dX9_happen_149 ⟨rfl, rfl⟩
  refine gg_tabOut C dX9_happen_7 (by have q0 := lv_neT hs1 (a := 0) (by decide); have q1 := lv_neT hs2 (a := 1) (by decide); have q2 := lv_neT hs3 (a := 2) (by decide); have q3 := lv_neT hs5 (a := 3) (by decide); have q4 := lv_neT hs6 (a := 4) (by decide); have q5 := lv_neT hs7 (a := 5) (by decide); have q6 := lv_neT hs9 (a := 6) (by decide); omega) (tgt := 145) (by decide) ?_
  refine gg_aload_n C dX9_happen_145 rfl 0 rfl ?_
  refine gg_callV C (fun l r h => c_X9_passMinute l D T a m_beat m_nick m_owner m_place m_kept m_heard m_chosen m_minutes m_sightBeat m_sightOff m_sightIs m_sights m_pad m_padMany m_act m_who m_much m_acts m_heardMany (-6) m_had m_badAct m_badWhy m_wrongAct m_wrongHeir m_odd m_span m_rise m_wins m_stored m_isStored m_storedAt m_isWriting r h) lk_X9_154 ⟨by decide, by decide⟩ hnn rfl (rest := []) rfl (Nat.le_of_ble_eq_true rfl) 0 rfl rfl dX9_happen_146 (ws2 := fun r11 => wM T a m_beat m_nick m_owner r11.1 m_kept m_heard m_chosen r11.2 m_sightBeat m_sightOff m_sightIs m_sights m_pad m_padMany m_act m_who m_much m_acts m_heardMany (-6) m_had m_badAct m_badWhy m_wrongAct m_wrongHeir m_odd m_span m_rise m_wins m_stored m_isStored m_storedAt m_isWriting) (cut_full (fun _ => rfl)) (st2 := fun r11 => []) (fun _ => rfl) (fun r11 => ?_)
  exact gg_vret C M dX9_happen_149 ⟨rfl, rfl⟩
def f_X9_keepNow_L2 (m_beat : Nat → Int32) (m_nick : Nat → Int32) (m_owner : Nat → Int32) : Nat → Int32 → (Nat → Int32) → Option (Int32 × (Nat → Int32))
  | 0, _, _ => none
  | nn + 1, y1, m_had => if 40 ≤ y1 then some (y1, m_had) else gu y1 40 (gu y1 139 (gu y1 40 (gu (40 + y1) 139 (gu y1 40 (gu (80 + y1) 139 (f_X9_keepNow_L2 m_beat m_nick m_owner nn (y1 + 1) (upd (upd (upd m_had y1.toNatClampNeg (m_beat y1.toNatClampNeg)) (40 + y1).toNatClampNeg (m_nick y1.toNatClampNeg)) (80 + y1).toNatClampNeg (m_owner y1.toNatClampNeg))))))))
set_option maxHeartbeats 4000000 in
set_option maxRecDepth 100000 in
theorem g_X9_keepNow_L2 {X : KX} {D : va_G} {T : Nat → ClassId} {Q : Int32 × (Nat → Int32) → State → Prop} {n : Nat × Nat} (C : Cx X D T cX9_keepNow RX9 { frames := 0, cells := 0, slots := 0, locals := 0 }) (hnn : n.1 ≤ 0 ∧ n.2 ≤ 0) (hn : kxL X = 2) (a : Nat → Nat)  (m_beat : Nat → Int32) (m_nick : Nat → Int32) (m_owner : Nat → Int32) (m_place : Nat → Int32) (m_kept : Nat → Int32) (m_heard : Nat → Int32) (m_chosen : Nat → Int32) (m_minutes : Int32) (m_sightBeat : Nat → Int32) (m_sightOff : Nat → Int32) (m_sightIs : Nat → Int32) (m_sights : Int32) (m_pad : Nat → Int32) (m_padMany : Int32) (m_act : Nat → Int32) (m_who : Nat → Int32) (m_much : Nat → Int32) (m_acts : Int32) (m_heardMany : Int32) (m_wrongNow : Int32) (m_badAct : Int32) (m_badWhy : Int32) (m_wrongAct : Int32) (m_wrongHeir : Int32) (m_odd : Nat → Int32) (m_span : Nat → Int32) (m_rise : Nat → Int32) (m_wins : Nat → Int32) (m_stored : Nat → Int32) (m_isStored : Nat → Int32) (m_storedAt : Int32) (m_isWriting : Int32) (hk : ∀ v : Int32 × (Nat → Int32), GG X D Q n (wM T a m_beat m_nick m_owner m_place m_kept m_heard m_chosen m_minutes m_sightBeat m_sightOff m_sightIs m_sights m_pad m_padMany m_act m_who m_much m_acts m_heardMany m_wrongNow v.2 m_badAct m_badWhy m_wrongAct m_wrongHeir m_odd m_span m_rise m_wins m_stored m_isStored m_storedAt m_isWriting) [(0, .ref (a 0)), (1, .int v.1)] 56 [] (some (v))) : ∀ (nn : Nat) (y1 : Int32) (m_had : Nat → Int32), GG X D Q n (wM T a m_beat m_nick m_owner m_place m_kept m_heard m_chosen m_minutes m_sightBeat m_sightOff m_sightIs m_sights m_pad m_padMany m_act m_who m_much m_acts m_heardMany m_wrongNow m_had m_badAct m_badWhy m_wrongAct m_wrongHeir m_odd m_span m_rise m_wins m_stored m_isStored m_storedAt m_isWriting) [(0, .ref (a 0)), (1, .int y1)] 2 [] (f_X9_keepNow_L2 m_beat m_nick m_owner nn y1 m_had) := by
  intro nn
  induction nn with
  | zero => intros; exact gg_none
  | succ nn ih =>
    intro y1 m_had
    unfold f_X9_keepNow_L2
    refine gg_iload_n C dX9_keepNow_2 rfl 1 rfl ?_
    refine gg_bipush C dX9_keepNow_3 kB_40 ?_
    refine gg_icmp_ge C dX9_keepNow_5 (tgt := 56) (by decide) (fun _ => ?_) (fun _ => ?_)
    · refine gg_sub [0, 1] rfl ?_
      exact hk (y1, m_had)
    · refine gg_aload_n C dX9_keepNow_8 rfl 0 rfl ?_
      refine gf_X9_52 C 0 rfl rfl dX9_keepNow_9 ?_
      refine gg_iload_n C dX9_keepNow_12 rfl 1 rfl ?_
      refine gg_aload_n C dX9_keepNow_13 rfl 0 rfl ?_
      refine gf_X9_7 C 0 rfl rfl dX9_keepNow_14 ?_
      refine gg_iload_n C dX9_keepNow_17 rfl 1 rfl ?_
      refine gg_iald C 1 rfl dX9_keepNow_18 ?_
      refine gg_iast C 15 rfl dX9_keepNow_19 (ws' := wM T a m_beat m_nick m_owner m_place m_kept m_heard m_chosen m_minutes m_sightBeat m_sightOff m_sightIs m_sights m_pad m_padMany m_act m_who m_much m_acts m_heardMany m_wrongNow (upd m_had y1.toNatClampNeg (m_beat y1.toNatClampNeg)) m_badAct m_badWhy m_wrongAct m_wrongHeir m_odd m_span m_rise m_wins m_stored m_isStored m_storedAt m_isWriting) rfl ?_
      refine gg_aload_n C dX9_keepNow_20 rfl 0 rfl ?_
      refine gf_X9_52 C 0 rfl rfl dX9_keepNow_21 ?_
      refine gg_bipush C dX9_keepNow_24 kB_40 ?_
      refine gg_iload_n C dX9_keepNow_26 rfl 1 rfl ?_
      refine gg_iadd C dX9_keepNow_27 ?_
      refine gg_aload_n C dX9_keepNow_28 rfl 0 rfl ?_
      refine gf_X9_13 C 0 rfl rfl dX9_keepNow_29 ?_
      refine gg_iload_n C dX9_keepNow_32 rfl 1 rfl ?_
      refine gg_iald C 2 rfl dX9_keepNow_33 ?_
      refine gg_iast C 15 rfl dX9_keepNow_34 (ws' := wM T a m_beat m_nick m_owner m_place m_kept m_heard m_chosen m_minutes m_sightBeat m_sightOff m_sightIs m_sights m_pad m_padMany m_act m_who m_much m_acts m_heardMany m_wrongNow (upd (upd m_had y1.toNatClampNeg (m_beat y1.toNatClampNeg)) (40 + y1).toNatClampNeg (m_nick y1.toNatClampNeg)) m_badAct m_badWhy m_wrongAct m_wrongHeir m_odd m_span m_rise m_wins m_stored m_isStored m_storedAt m_isWriting) rfl ?_
      refine gg_aload_n C dX9_keepNow_35 rfl 0 rfl ?_
      refine gf_X9_52 C 0 rfl rfl dX9_keepNow_36 ?_
      refine gg_bipush C dX9_keepNow_39 kB_80 ?_
      refine gg_iload_n C dX9_keepNow_41 rfl 1 rfl ?_
      refine gg_iadd C dX9_keepNow_42 ?_
      refine gg_aload_n C dX9_keepNow_43 rfl 0 rfl ?_
      refine gf_X9_16 C 0 rfl rfl dX9_keepNow_44 ?_
      refine gg_iload_n C dX9_keepNow_47 rfl 1 rfl ?_
      refine gg_iald C 3 rfl dX9_keepNow_48 ?_
      refine gg_iast C 15 rfl dX9_keepNow_49 (ws' := wM T a m_beat m_nick m_owner m_place m_kept m_heard m_chosen m_minutes m_sightBeat m_sightOff m_sightIs m_sights m_pad m_padMany m_act m_who m_much m_acts m_heardMany m_wrongNow (upd (upd (upd m_had y1.toNatClampNeg (m_beat y1.toNatClampNeg)) (40 + y1).toNatClampNeg (m_nick y1.toNatClampNeg)) (80 + y1).toNatClampNeg (m_owner y1.toNatClampNeg)) m_badAct m_badWhy m_wrongAct m_wrongHeir m_odd m_span m_rise m_wins m_stored m_isStored m_storedAt m_isWriting) rfl ?_
      refine gg_iinc C dX9_keepNow_50 (j := 1) rfl (v := y1 + 1) (by first | rfl | decide) hn (by decide) (lv' := [(1, .int (y1 + 1)), (0, .ref (a 0))]) rfl ?_
      refine gg_goto C dX9_keepNow_53 (tgt := 2) (by decide) ?_
      refine gg_sub [1, 0] rfl ?_
      exact ih (y1 + 1) (upd (upd (upd m_had y1.toNatClampNeg (m_beat y1.toNatClampNeg)) (40 + y1).toNatClampNeg (m_nick y1.toNatClampNeg)) (80 + y1).toNatClampNeg (m_owner y1.toNatClampNeg))
def f_X9_keepNow_L58 (m_place : Nat → Int32) (m_heard : Nat → Int32) (m_chosen : Nat → Int32) : Nat → Int32 → (Nat → Int32) → Option (Int32 × (Nat → Int32))
  | 0, _, _ => none
  | nn + 1, y1, m_had => if 6 ≤ y1 then some (y1, m_had) else gu y1 6 (gu (120 + y1) 139 (gu y1 6 (gu (126 + y1) 139 (gu y1 6 (gu (132 + y1) 139 (f_X9_keepNow_L58 m_place m_heard m_chosen nn (y1 + 1) (upd (upd (upd m_had (120 + y1).toNatClampNeg (m_place y1.toNatClampNeg)) (126 + y1).toNatClampNeg (m_heard y1.toNatClampNeg)) (132 + y1).toNatClampNeg (m_chosen y1.toNatClampNeg))))))))
set_option maxHeartbeats 4000000 in
set_option maxRecDepth 100000 in
theorem g_X9_keepNow_L58 {X : KX} {D : va_G} {T : Nat → ClassId} {Q : Int32 × (Nat → Int32) → State → Prop} {n : Nat × Nat} (C : Cx X D T cX9_keepNow RX9 { frames := 0, cells := 0, slots := 0, locals := 0 }) (hnn : n.1 ≤ 0 ∧ n.2 ≤ 0) (hn : kxL X = 2) (a : Nat → Nat)  (m_beat : Nat → Int32) (m_nick : Nat → Int32) (m_owner : Nat → Int32) (m_place : Nat → Int32) (m_kept : Nat → Int32) (m_heard : Nat → Int32) (m_chosen : Nat → Int32) (m_minutes : Int32) (m_sightBeat : Nat → Int32) (m_sightOff : Nat → Int32) (m_sightIs : Nat → Int32) (m_sights : Int32) (m_pad : Nat → Int32) (m_padMany : Int32) (m_act : Nat → Int32) (m_who : Nat → Int32) (m_much : Nat → Int32) (m_acts : Int32) (m_heardMany : Int32) (m_wrongNow : Int32) (m_badAct : Int32) (m_badWhy : Int32) (m_wrongAct : Int32) (m_wrongHeir : Int32) (m_odd : Nat → Int32) (m_span : Nat → Int32) (m_rise : Nat → Int32) (m_wins : Nat → Int32) (m_stored : Nat → Int32) (m_isStored : Nat → Int32) (m_storedAt : Int32) (m_isWriting : Int32) (hk : ∀ v : Int32 × (Nat → Int32), GG X D Q n (wM T a m_beat m_nick m_owner m_place m_kept m_heard m_chosen m_minutes m_sightBeat m_sightOff m_sightIs m_sights m_pad m_padMany m_act m_who m_much m_acts m_heardMany m_wrongNow v.2 m_badAct m_badWhy m_wrongAct m_wrongHeir m_odd m_span m_rise m_wins m_stored m_isStored m_storedAt m_isWriting) [(0, .ref (a 0)), (1, .int v.1)] 116 [] (some (v))) : ∀ (nn : Nat) (y1 : Int32) (m_had : Nat → Int32), GG X D Q n (wM T a m_beat m_nick m_owner m_place m_kept m_heard m_chosen m_minutes m_sightBeat m_sightOff m_sightIs m_sights m_pad m_padMany m_act m_who m_much m_acts m_heardMany m_wrongNow m_had m_badAct m_badWhy m_wrongAct m_wrongHeir m_odd m_span m_rise m_wins m_stored m_isStored m_storedAt m_isWriting) [(0, .ref (a 0)), (1, .int y1)] 58 [] (f_X9_keepNow_L58 m_place m_heard m_chosen nn y1 m_had) := by
  intro nn
  induction nn with
  | zero => intros; exact gg_none
  | succ nn ih =>
    intro y1 m_had
    unfold f_X9_keepNow_L58
    refine gg_iload_n C dX9_keepNow_58 rfl 1 rfl ?_
    refine gg_bipush C dX9_keepNow_59 kB_6 ?_
    refine gg_icmp_ge C dX9_keepNow_61 (tgt := 116) (by decide) (fun _ => ?_) (fun _ => ?_)
    · refine gg_sub [0, 1] rfl ?_
      exact hk (y1, m_had)
    · refine gg_aload_n C dX9_keepNow_64 rfl 0 rfl ?_
      refine gf_X9_52 C 0 rfl rfl dX9_keepNow_65 ?_
      refine gg_bipush C dX9_keepNow_68 kB_120 ?_
      refine gg_iload_n C dX9_keepNow_70 rfl 1 rfl ?_
      refine gg_iadd C dX9_keepNow_71 ?_
      refine gg_aload_n C dX9_keepNow_72 rfl 0 rfl ?_
      refine gf_X9_19 C 0 rfl rfl dX9_keepNow_73 ?_
      refine gg_iload_n C dX9_keepNow_76 rfl 1 rfl ?_
      refine gg_iald C 4 rfl dX9_keepNow_77 ?_
      refine gg_iast C 15 rfl dX9_keepNow_78 (ws' := wM T a m_beat m_nick m_owner m_place m_kept m_heard m_chosen m_minutes m_sightBeat m_sightOff m_sightIs m_sights m_pad m_padMany m_act m_who m_much m_acts m_heardMany m_wrongNow (upd m_had (120 + y1).toNatClampNeg (m_place y1.toNatClampNeg)) m_badAct m_badWhy m_wrongAct m_wrongHeir m_odd m_span m_rise m_wins m_stored m_isStored m_storedAt m_isWriting) rfl ?_
      refine gg_aload_n C dX9_keepNow_79 rfl 0 rfl ?_
      refine gf_X9_52 C 0 rfl rfl dX9_keepNow_80 ?_
      refine gg_bipush C dX9_keepNow_83 kB_126 ?_
      refine gg_iload_n C dX9_keepNow_85 rfl 1 rfl ?_
      refine gg_iadd C dX9_keepNow_86 ?_
      refine gg_aload_n C dX9_keepNow_87 rfl 0 rfl ?_
      refine gf_X9_25 C 0 rfl rfl dX9_keepNow_88 ?_
      refine gg_iload_n C dX9_keepNow_91 rfl 1 rfl ?_
      refine gg_iald C 6 rfl dX9_keepNow_92 ?_
      refine gg_iast C 15 rfl dX9_keepNow_93 (ws' := wM T a m_beat m_nick m_owner m_place m_kept m_heard m_chosen m_minutes m_sightBeat m_sightOff m_sightIs m_sights m_pad m_padMany m_act m_who m_much m_acts m_heardMany m_wrongNow (upd (upd m_had (120 + y1).toNatClampNeg (m_place y1.toNatClampNeg)) (126 + y1).toNatClampNeg (m_heard y1.toNatClampNeg)) m_badAct m_badWhy m_wrongAct m_wrongHeir m_odd m_span m_rise m_wins m_stored m_isStored m_storedAt m_isWriting) rfl ?_
      refine gg_aload_n C dX9_keepNow_94 rfl 0 rfl ?_
      refine gf_X9_52 C 0 rfl rfl dX9_keepNow_95 ?_
      refine gg_sipush C dX9_keepNow_98 kS_132 ?_
      refine gg_iload_n C dX9_keepNow_101 rfl 1 rfl ?_
      refine gg_iadd C dX9_keepNow_102 ?_
      refine gg_aload_n C dX9_keepNow_103 rfl 0 rfl ?_
      refine gf_X9_28 C 0 rfl rfl dX9_keepNow_104 ?_
      refine gg_iload_n C dX9_keepNow_107 rfl 1 rfl ?_
      refine gg_iald C 7 rfl dX9_keepNow_108 ?_
      refine gg_iast C 15 rfl dX9_keepNow_109 (ws' := wM T a m_beat m_nick m_owner m_place m_kept m_heard m_chosen m_minutes m_sightBeat m_sightOff m_sightIs m_sights m_pad m_padMany m_act m_who m_much m_acts m_heardMany m_wrongNow (upd (upd (upd m_had (120 + y1).toNatClampNeg (m_place y1.toNatClampNeg)) (126 + y1).toNatClampNeg (m_heard y1.toNatClampNeg)) (132 + y1).toNatClampNeg (m_chosen y1.toNatClampNeg)) m_badAct m_badWhy m_wrongAct m_wrongHeir m_odd m_span m_rise m_wins m_stored m_isStored m_storedAt m_isWriting) rfl ?_
      refine gg_iinc C dX9_keepNow_110 (j := 1) rfl (v := y1 + 1) (by first | rfl | decide) hn (by decide) (lv' := [(1, .int (y1 + 1)), (0, .ref (a 0))]) rfl ?_
      refine gg_goto C dX9_keepNow_113 (tgt := 58) (by decide) ?_
      refine gg_sub [1, 0] rfl ?_
      exact ih (y1 + 1) (upd (upd (upd m_had (120 + y1).toNatClampNeg (m_place y1.toNatClampNeg)) (126 + y1).toNatClampNeg (m_heard y1.toNatClampNeg)) (132 + y1).toNatClampNeg (m_chosen y1.toNatClampNeg))
def f_X9_keepNow (m_beat : Nat → Int32) (m_nick : Nat → Int32) (m_owner : Nat → Int32) (m_place : Nat → Int32) (m_heard : Nat → Int32) (m_chosen : Nat → Int32) (m_minutes : Int32) (m_had : Nat → Int32) : Option ((Nat → Int32)) := jn (α := Int32 × (Nat → Int32)) (f_X9_keepNow_L2 m_beat m_nick m_owner 100 0 m_had) (fun z1 => jn (α := Int32 × (Nat → Int32)) (f_X9_keepNow_L58 m_place m_heard m_chosen 100 0 z1.2) (fun z2 => gu 138 139 (some (upd z2.2 (138 : Int32).toNatClampNeg m_minutes))))
set_option maxHeartbeats 4000000 in
set_option maxRecDepth 100000 in
theorem c_X9_keepNow (l : Launch) (D : va_G) (T : Nat → ClassId) (a : Nat → Nat) (m_beat : Nat → Int32) (m_nick : Nat → Int32) (m_owner : Nat → Int32) (m_place : Nat → Int32) (m_kept : Nat → Int32) (m_heard : Nat → Int32) (m_chosen : Nat → Int32) (m_minutes : Int32) (m_sightBeat : Nat → Int32) (m_sightOff : Nat → Int32) (m_sightIs : Nat → Int32) (m_sights : Int32) (m_pad : Nat → Int32) (m_padMany : Int32) (m_act : Nat → Int32) (m_who : Nat → Int32) (m_much : Nat → Int32) (m_acts : Int32) (m_heardMany : Int32) (m_wrongNow : Int32) (m_had : Nat → Int32) (m_badAct : Int32) (m_badWhy : Int32) (m_wrongAct : Int32) (m_wrongHeir : Int32) (m_odd : Nat → Int32) (m_span : Nat → Int32) (m_rise : Nat → Int32) (m_wins : Nat → Int32) (m_stored : Nat → Int32) (m_isStored : Nat → Int32) (m_storedAt : Int32) (m_isWriting : Int32) (r : (Nat → Int32)) (h : f_X9_keepNow m_beat m_nick m_owner m_place m_heard m_chosen m_minutes m_had = some r) : Kt l D T yX9_keepNow cX9_keepNow 2 none (0, 0, 0, 0) [.ref (a 0)] (wM T a m_beat m_nick m_owner m_place m_kept m_heard m_chosen m_minutes m_sightBeat m_sightOff m_sightIs m_sights m_pad m_padMany m_act m_who m_much m_acts m_heardMany m_wrongNow m_had m_badAct m_badWhy m_wrongAct m_wrongHeir m_odd m_span m_rise m_wins m_stored m_isStored m_storedAt m_isWriting) (FF (fun (r : (Nat → Int32)) => none) (fun r => wM T a m_beat m_nick m_owner m_place m_kept m_heard m_chosen m_minutes m_sightBeat m_sightOff m_sightIs m_sights m_pad m_padMany m_act m_who m_much m_acts m_heardMany m_wrongNow r m_badAct m_badWhy m_wrongAct m_wrongHeir m_odd m_span m_rise m_wins m_stored m_isStored m_storedAt m_isWriting) r) := by
  refine kt_of (own := RX9) (nm := "keepNow") (lv := [(0, .ref (a 0))]) (by decide) rfl rfl rfl (Nat.le_of_ble_eq_true rfl) h (fun X hn C M => ?_)
  have hnn : ((0, 0) : Nat × Nat).1 ≤ 0 ∧ ((0, 0) : Nat × Nat).2 ≤ 0 := ⟨Nat.le_refl 0, Nat.le_refl 0⟩
  unfold f_X9_keepNow
  refine gg_iconst C dX9_keepNow_0 kI_0 ?_
  refine gg_istore_n C dX9_keepNow_1 rfl hn (by decide) (lv' := [(1, .int 0), (0, .ref (a 0))]) rfl ?_
  refine gg_join (α := Int32 × (Nat → Int32)) 56 (fun z1 => wM T a m_beat m_nick m_owner m_place m_kept m_heard m_chosen m_minutes m_sightBeat m_sightOff m_sightIs m_sights m_pad m_padMany m_act m_who m_much m_acts m_heardMany m_wrongNow z1.2 m_badAct m_badWhy m_wrongAct m_wrongHeir m_odd m_span m_rise m_wins m_stored m_isStored m_storedAt m_isWriting) (fun z1 => [(0, .ref (a 0)), (1, .int z1.1)]) (fun z1 => []) (fun z1 => ?_) (fun K4 => ?_)
  · refine gg_iconst C dX9_keepNow_56 kI_0 ?_
    refine gg_istore_n C dX9_keepNow_57 rfl hn (by decide) (lv' := [(1, .int 0), (0, .ref (a 0))]) rfl ?_
    refine gg_join (α := Int32 × (Nat → Int32)) 116 (fun z2 => wM T a m_beat m_nick m_owner m_place m_kept m_heard m_chosen m_minutes m_sightBeat m_sightOff m_sightIs m_sights m_pad m_padMany m_act m_who m_much m_acts m_heardMany m_wrongNow z2.2 m_badAct m_badWhy m_wrongAct m_wrongHeir m_odd m_span m_rise m_wins m_stored m_isStored m_storedAt m_isWriting) (fun z2 => [(0, .ref (a 0)), (1, .int z2.1)]) (fun z2 => []) (fun z2 => ?_) (fun K3 => ?_)
    · refine gg_aload_n C dX9_keepNow_116 rfl 0 rfl ?_
      refine gf_X9_52 C 0 rfl rfl dX9_keepNow_117 ?_
      refine gg_sipush C dX9_keepNow_120 kS_138 ?_
      refine gg_aload_n C dX9_keepNow_123 rfl 0 rfl ?_
      refine gf_X9_129 C 0 rfl rfl dX9_keepNow_124 ?_
      refine gg_iast C 15 rfl dX9_keepNow_127 (ws' := wM T a m_beat m_nick m_owner m_place m_kept m_heard m_chosen m_minutes m_sightBeat m_sightOff m_sightIs m_sights m_pad m_padMany m_act m_who m_much m_acts m_heardMany m_wrongNow (upd z2.2 (138 : Int32).toNatClampNeg m_minutes) m_badAct m_badWhy m_wrongAct m_wrongHeir m_odd m_span m_rise m_wins m_stored m_isStored m_storedAt m_isWriting) rfl ?_
      exact gg_vret C M dX9_keepNow_128 ⟨rfl, rfl⟩
    · refine gg_sub [1, 0] rfl ?_
      exact g_X9_keepNow_L58 C hnn hn a m_beat m_nick m_owner m_place m_kept m_heard m_chosen m_minutes m_sightBeat m_sightOff m_sightIs m_sights m_pad m_padMany m_act m_who m_much m_acts m_heardMany m_wrongNow m_badAct m_badWhy m_wrongAct m_wrongHeir m_odd m_span m_rise m_wins m_stored m_isStored m_storedAt m_isWriting K3 100 0 z1.2
  · refine gg_sub [1, 0] rfl ?_
    exact g_X9_keepNow_L2 C hnn hn a m_beat m_nick m_owner m_place m_kept m_heard m_chosen m_minutes m_sightBeat m_sightOff m_sightIs m_sights m_pad m_padMany m_act m_who m_much m_acts m_heardMany m_wrongNow m_badAct m_badWhy m_wrongAct m_wrongHeir m_odd m_span m_rise m_wins m_stored m_isStored m_storedAt m_isWriting K4 100 0 m_had
def f_X9_back_L2 (m_had : Nat → Int32) : Nat → Int32 → (Nat → Int32) → (Nat → Int32) → (Nat → Int32) → Option (Int32 × (Nat → Int32) × (Nat → Int32) × (Nat → Int32))
  | 0, _, _, _, _ => none
  | nn + 1, y2, m_beat, m_nick, m_owner => if 40 ≤ y2 then some (y2, m_beat, m_nick, m_owner) else gu y2 139 (gu y2 40 (gu (40 + y2) 139 (gu y2 40 (gu (80 + y2) 139 (gu y2 40 (f_X9_back_L2 m_had nn (y2 + 1) (upd m_beat y2.toNatClampNeg (m_had y2.toNatClampNeg)) (upd m_nick y2.toNatClampNeg (m_had (40 + y2).toNatClampNeg)) (upd m_owner y2.toNatClampNeg (m_had (80 + y2).toNatClampNeg))))))))
set_option maxHeartbeats 4000000 in
set_option maxRecDepth 100000 in
theorem g_X9_back_L2 {X : KX} {D : va_G} {T : Nat → ClassId} {Q : Int32 × (Nat → Int32) × (Nat → Int32) × (Nat → Int32) → State → Prop} {n : Nat × Nat} (C : Cx X D T cX9_back RX9 { frames := 0, cells := 0, slots := 0, locals := 0 }) (hnn : n.1 ≤ 0 ∧ n.2 ≤ 0) (hn : kxL X = 3) (a : Nat → Nat)  (y1 : Int32) (m_place : Nat → Int32) (m_kept : Nat → Int32) (m_heard : Nat → Int32) (m_chosen : Nat → Int32) (m_minutes : Int32) (m_sightBeat : Nat → Int32) (m_sightOff : Nat → Int32) (m_sightIs : Nat → Int32) (m_sights : Int32) (m_pad : Nat → Int32) (m_padMany : Int32) (m_act : Nat → Int32) (m_who : Nat → Int32) (m_much : Nat → Int32) (m_acts : Int32) (m_heardMany : Int32) (m_wrongNow : Int32) (m_had : Nat → Int32) (m_badAct : Int32) (m_badWhy : Int32) (m_wrongAct : Int32) (m_wrongHeir : Int32) (m_odd : Nat → Int32) (m_span : Nat → Int32) (m_rise : Nat → Int32) (m_wins : Nat → Int32) (m_stored : Nat → Int32) (m_isStored : Nat → Int32) (m_storedAt : Int32) (m_isWriting : Int32) (hk : ∀ v : Int32 × (Nat → Int32) × (Nat → Int32) × (Nat → Int32), GG X D Q n (wM T a v.2.1 v.2.2.1 v.2.2.2 m_place m_kept m_heard m_chosen m_minutes m_sightBeat m_sightOff m_sightIs m_sights m_pad m_padMany m_act m_who m_much m_acts m_heardMany m_wrongNow m_had m_badAct m_badWhy m_wrongAct m_wrongHeir m_odd m_span m_rise m_wins m_stored m_isStored m_storedAt m_isWriting) [(0, .ref (a 0)), (1, .int y1), (2, .int v.1)] 56 [] (some (v))) : ∀ (nn : Nat) (y2 : Int32) (m_beat : Nat → Int32) (m_nick : Nat → Int32) (m_owner : Nat → Int32), GG X D Q n (wM T a m_beat m_nick m_owner m_place m_kept m_heard m_chosen m_minutes m_sightBeat m_sightOff m_sightIs m_sights m_pad m_padMany m_act m_who m_much m_acts m_heardMany m_wrongNow m_had m_badAct m_badWhy m_wrongAct m_wrongHeir m_odd m_span m_rise m_wins m_stored m_isStored m_storedAt m_isWriting) [(0, .ref (a 0)), (1, .int y1), (2, .int y2)] 2 [] (f_X9_back_L2 m_had nn y2 m_beat m_nick m_owner) := by
  intro nn
  induction nn with
  | zero => intros; exact gg_none
  | succ nn ih =>
    intro y2 m_beat m_nick m_owner
    unfold f_X9_back_L2
    refine gg_iload_n C dX9_back_2 rfl 2 rfl ?_
    refine gg_bipush C dX9_back_3 kB_40 ?_
    refine gg_icmp_ge C dX9_back_5 (tgt := 56) (by decide) (fun _ => ?_) (fun _ => ?_)
    · refine gg_sub [0, 1, 2] rfl ?_
      exact hk (y2, m_beat, m_nick, m_owner)
    · refine gg_aload_n C dX9_back_8 rfl 0 rfl ?_
      refine gf_X9_7 C 0 rfl rfl dX9_back_9 ?_
      refine gg_iload_n C dX9_back_12 rfl 2 rfl ?_
      refine gg_aload_n C dX9_back_13 rfl 0 rfl ?_
      refine gf_X9_52 C 0 rfl rfl dX9_back_14 ?_
      refine gg_iload_n C dX9_back_17 rfl 2 rfl ?_
      refine gg_iald C 15 rfl dX9_back_18 ?_
      refine gg_iast C 1 rfl dX9_back_19 (ws' := wM T a (upd m_beat y2.toNatClampNeg (m_had y2.toNatClampNeg)) m_nick m_owner m_place m_kept m_heard m_chosen m_minutes m_sightBeat m_sightOff m_sightIs m_sights m_pad m_padMany m_act m_who m_much m_acts m_heardMany m_wrongNow m_had m_badAct m_badWhy m_wrongAct m_wrongHeir m_odd m_span m_rise m_wins m_stored m_isStored m_storedAt m_isWriting) rfl ?_
      refine gg_aload_n C dX9_back_20 rfl 0 rfl ?_
      refine gf_X9_13 C 0 rfl rfl dX9_back_21 ?_
      refine gg_iload_n C dX9_back_24 rfl 2 rfl ?_
      refine gg_aload_n C dX9_back_25 rfl 0 rfl ?_
      refine gf_X9_52 C 0 rfl rfl dX9_back_26 ?_
      refine gg_bipush C dX9_back_29 kB_40 ?_
      refine gg_iload_n C dX9_back_31 rfl 2 rfl ?_
      refine gg_iadd C dX9_back_32 ?_
      refine gg_iald C 15 rfl dX9_back_33 ?_
      refine gg_iast C 2 rfl dX9_back_34 (ws' := wM T a (upd m_beat y2.toNatClampNeg (m_had y2.toNatClampNeg)) (upd m_nick y2.toNatClampNeg (m_had (40 + y2).toNatClampNeg)) m_owner m_place m_kept m_heard m_chosen m_minutes m_sightBeat m_sightOff m_sightIs m_sights m_pad m_padMany m_act m_who m_much m_acts m_heardMany m_wrongNow m_had m_badAct m_badWhy m_wrongAct m_wrongHeir m_odd m_span m_rise m_wins m_stored m_isStored m_storedAt m_isWriting) rfl ?_
      refine gg_aload_n C dX9_back_35 rfl 0 rfl ?_
      refine gf_X9_16 C 0 rfl rfl dX9_back_36 ?_
      refine gg_iload_n C dX9_back_39 rfl 2 rfl ?_
      refine gg_aload_n C dX9_back_40 rfl 0 rfl ?_
      refine gf_X9_52 C 0 rfl rfl dX9_back_41 ?_
      refine gg_bipush C dX9_back_44 kB_80 ?_
      refine gg_iload_n C dX9_back_46 rfl 2 rfl ?_
      refine gg_iadd C dX9_back_47 ?_
      refine gg_iald C 15 rfl dX9_back_48 ?_
      refine gg_iast C 3 rfl dX9_back_49 (ws' := wM T a (upd m_beat y2.toNatClampNeg (m_had y2.toNatClampNeg)) (upd m_nick y2.toNatClampNeg (m_had (40 + y2).toNatClampNeg)) (upd m_owner y2.toNatClampNeg (m_had (80 + y2).toNatClampNeg)) m_place m_kept m_heard m_chosen m_minutes m_sightBeat m_sightOff m_sightIs m_sights m_pad m_padMany m_act m_who m_much m_acts m_heardMany m_wrongNow m_had m_badAct m_badWhy m_wrongAct m_wrongHeir m_odd m_span m_rise m_wins m_stored m_isStored m_storedAt m_isWriting) rfl ?_
      refine gg_iinc C dX9_back_50 (j := 2) rfl (v := y2 + 1) (by first | rfl | decide) hn (by decide) (lv' := [(2, .int (y2 + 1)), (0, .ref (a 0)), (1, .int y1)]) rfl ?_
      refine gg_goto C dX9_back_53 (tgt := 2) (by decide) ?_
      refine gg_sub [1, 2, 0] rfl ?_
      exact ih (y2 + 1) (upd m_beat y2.toNatClampNeg (m_had y2.toNatClampNeg)) (upd m_nick y2.toNatClampNeg (m_had (40 + y2).toNatClampNeg)) (upd m_owner y2.toNatClampNeg (m_had (80 + y2).toNatClampNeg))
def f_X9_back_L58 (m_had : Nat → Int32) : Nat → Int32 → (Nat → Int32) → (Nat → Int32) → (Nat → Int32) → Option (Int32 × (Nat → Int32) × (Nat → Int32) × (Nat → Int32))
  | 0, _, _, _, _ => none
  | nn + 1, y2, m_place, m_heard, m_chosen => if 6 ≤ y2 then some (y2, m_place, m_heard, m_chosen) else gu (120 + y2) 139 (gu y2 6 (gu (126 + y2) 139 (gu y2 6 (gu (132 + y2) 139 (gu y2 6 (f_X9_back_L58 m_had nn (y2 + 1) (upd m_place y2.toNatClampNeg (m_had (120 + y2).toNatClampNeg)) (upd m_heard y2.toNatClampNeg (m_had (126 + y2).toNatClampNeg)) (upd m_chosen y2.toNatClampNeg (m_had (132 + y2).toNatClampNeg))))))))
set_option maxHeartbeats 4000000 in
set_option maxRecDepth 100000 in
theorem g_X9_back_L58 {X : KX} {D : va_G} {T : Nat → ClassId} {Q : Int32 × (Nat → Int32) × (Nat → Int32) × (Nat → Int32) → State → Prop} {n : Nat × Nat} (C : Cx X D T cX9_back RX9 { frames := 0, cells := 0, slots := 0, locals := 0 }) (hnn : n.1 ≤ 0 ∧ n.2 ≤ 0) (hn : kxL X = 3) (a : Nat → Nat)  (y1 : Int32) (m_beat : Nat → Int32) (m_nick : Nat → Int32) (m_owner : Nat → Int32) (m_kept : Nat → Int32) (m_minutes : Int32) (m_sightBeat : Nat → Int32) (m_sightOff : Nat → Int32) (m_sightIs : Nat → Int32) (m_sights : Int32) (m_pad : Nat → Int32) (m_padMany : Int32) (m_act : Nat → Int32) (m_who : Nat → Int32) (m_much : Nat → Int32) (m_acts : Int32) (m_heardMany : Int32) (m_wrongNow : Int32) (m_had : Nat → Int32) (m_badAct : Int32) (m_badWhy : Int32) (m_wrongAct : Int32) (m_wrongHeir : Int32) (m_odd : Nat → Int32) (m_span : Nat → Int32) (m_rise : Nat → Int32) (m_wins : Nat → Int32) (m_stored : Nat → Int32) (m_isStored : Nat → Int32) (m_storedAt : Int32) (m_isWriting : Int32) (hk : ∀ v : Int32 × (Nat → Int32) × (Nat → Int32) × (Nat → Int32), GG X D Q n (wM T a m_beat m_nick m_owner v.2.1 m_kept v.2.2.1 v.2.2.2 m_minutes m_sightBeat m_sightOff m_sightIs m_sights m_pad m_padMany m_act m_who m_much m_acts m_heardMany m_wrongNow m_had m_badAct m_badWhy m_wrongAct m_wrongHeir m_odd m_span m_rise m_wins m_stored m_isStored m_storedAt m_isWriting) [(0, .ref (a 0)), (1, .int y1), (2, .int v.1)] 116 [] (some (v))) : ∀ (nn : Nat) (y2 : Int32) (m_place : Nat → Int32) (m_heard : Nat → Int32) (m_chosen : Nat → Int32), GG X D Q n (wM T a m_beat m_nick m_owner m_place m_kept m_heard m_chosen m_minutes m_sightBeat m_sightOff m_sightIs m_sights m_pad m_padMany m_act m_who m_much m_acts m_heardMany m_wrongNow m_had m_badAct m_badWhy m_wrongAct m_wrongHeir m_odd m_span m_rise m_wins m_stored m_isStored m_storedAt m_isWriting) [(0, .ref (a 0)), (1, .int y1), (2, .int y2)] 58 [] (f_X9_back_L58 m_had nn y2 m_place m_heard m_chosen) := by
  intro nn
  induction nn with
  | zero => intros; exact gg_none
  | succ nn ih =>
    intro y2 m_place m_heard m_chosen
    unfold f_X9_back_L58
    refine gg_iload_n C dX9_back_58 rfl 2 rfl ?_
    refine gg_bipush C dX9_back_59 kB_6 ?_
    refine gg_icmp_ge C dX9_back_61 (tgt := 116) (by decide) (fun _ => ?_) (fun _ => ?_)
    · refine gg_sub [0, 1, 2] rfl ?_
      exact hk (y2, m_place, m_heard, m_chosen)
    · refine gg_aload_n C dX9_back_64 rfl 0 rfl ?_
      refine gf_X9_19 C 0 rfl rfl dX9_back_65 ?_
      refine gg_iload_n C dX9_back_68 rfl 2 rfl ?_
      refine gg_aload_n C dX9_back_69 rfl 0 rfl ?_
      refine gf_X9_52 C 0 rfl rfl dX9_back_70 ?_
      refine gg_bipush C dX9_back_73 kB_120 ?_
      refine gg_iload_n C dX9_back_75 rfl 2 rfl ?_
      refine gg_iadd C dX9_back_76 ?_
      refine gg_iald C 15 rfl dX9_back_77 ?_
      refine gg_iast C 4 rfl dX9_back_78 (ws' := wM T a m_beat m_nick m_owner (upd m_place y2.toNatClampNeg (m_had (120 + y2).toNatClampNeg)) m_kept m_heard m_chosen m_minutes m_sightBeat m_sightOff m_sightIs m_sights m_pad m_padMany m_act m_who m_much m_acts m_heardMany m_wrongNow m_had m_badAct m_badWhy m_wrongAct m_wrongHeir m_odd m_span m_rise m_wins m_stored m_isStored m_storedAt m_isWriting) rfl ?_
      refine gg_aload_n C dX9_back_79 rfl 0 rfl ?_
      refine gf_X9_25 C 0 rfl rfl dX9_back_80 ?_
      refine gg_iload_n C dX9_back_83 rfl 2 rfl ?_
      refine gg_aload_n C dX9_back_84 rfl 0 rfl ?_
      refine gf_X9_52 C 0 rfl rfl dX9_back_85 ?_
      refine gg_bipush C dX9_back_88 kB_126 ?_
      refine gg_iload_n C dX9_back_90 rfl 2 rfl ?_
      refine gg_iadd C dX9_back_91 ?_
      refine gg_iald C 15 rfl dX9_back_92 ?_
      refine gg_iast C 6 rfl dX9_back_93 (ws' := wM T a m_beat m_nick m_owner (upd m_place y2.toNatClampNeg (m_had (120 + y2).toNatClampNeg)) m_kept (upd m_heard y2.toNatClampNeg (m_had (126 + y2).toNatClampNeg)) m_chosen m_minutes m_sightBeat m_sightOff m_sightIs m_sights m_pad m_padMany m_act m_who m_much m_acts m_heardMany m_wrongNow m_had m_badAct m_badWhy m_wrongAct m_wrongHeir m_odd m_span m_rise m_wins m_stored m_isStored m_storedAt m_isWriting) rfl ?_
      refine gg_aload_n C dX9_back_94 rfl 0 rfl ?_
      refine gf_X9_28 C 0 rfl rfl dX9_back_95 ?_
      refine gg_iload_n C dX9_back_98 rfl 2 rfl ?_
      refine gg_aload_n C dX9_back_99 rfl 0 rfl ?_
      refine gf_X9_52 C 0 rfl rfl dX9_back_100 ?_
      refine gg_sipush C dX9_back_103 kS_132 ?_
      refine gg_iload_n C dX9_back_106 rfl 2 rfl ?_
      refine gg_iadd C dX9_back_107 ?_
      refine gg_iald C 15 rfl dX9_back_108 ?_
      refine gg_iast C 7 rfl dX9_back_109 (ws' := wM T a m_beat m_nick m_owner (upd m_place y2.toNatClampNeg (m_had (120 + y2).toNatClampNeg)) m_kept (upd m_heard y2.toNatClampNeg (m_had (126 + y2).toNatClampNeg)) (upd m_chosen y2.toNatClampNeg (m_had (132 + y2).toNatClampNeg)) m_minutes m_sightBeat m_sightOff m_sightIs m_sights m_pad m_padMany m_act m_who m_much m_acts m_heardMany m_wrongNow m_had m_badAct m_badWhy m_wrongAct m_wrongHeir m_odd m_span m_rise m_wins m_stored m_isStored m_storedAt m_isWriting) rfl ?_
      refine gg_iinc C dX9_back_110 (j := 2) rfl (v := y2 + 1) (by first | rfl | decide) hn (by decide) (lv' := [(2, .int (y2 + 1)), (0, .ref (a 0)), (1, .int y1)]) rfl ?_
      refine gg_goto C dX9_back_113 (tgt := 58) (by decide) ?_
      refine gg_sub [1, 2, 0] rfl ?_
      exact ih (y2 + 1) (upd m_place y2.toNatClampNeg (m_had (120 + y2).toNatClampNeg)) (upd m_heard y2.toNatClampNeg (m_had (126 + y2).toNatClampNeg)) (upd m_chosen y2.toNatClampNeg (m_had (132 + y2).toNatClampNeg))
def f_X9_back (m_beat : Nat → Int32) (m_nick : Nat → Int32) (m_owner : Nat → Int32) (m_place : Nat → Int32) (m_heard : Nat → Int32) (m_chosen : Nat → Int32) (m_had : Nat → Int32) (v1 : Int32) : Option (Int32 × (Nat → Int32) × (Nat → Int32) × (Nat → Int32) × (Nat → Int32) × (Nat → Int32) × (Nat → Int32) × Int32) := jn (α := Int32 × (Nat → Int32) × (Nat → Int32) × (Nat → Int32)) (f_X9_back_L2 m_had 100 0 m_beat m_nick m_owner) (fun z1 => jn (α := Int32 × (Nat → Int32) × (Nat → Int32) × (Nat → Int32)) (f_X9_back_L58 m_had 100 0 m_place m_heard m_chosen) (fun z2 => gu 138 139 (some (v1, z1.2.1, z1.2.2.1, z1.2.2.2, z2.2.1, z2.2.2.1, z2.2.2.2, m_had (138 : Int32).toNatClampNeg))))
set_option maxHeartbeats 4000000 in
set_option maxRecDepth 100000 in
theorem c_X9_back (l : Launch) (D : va_G) (T : Nat → ClassId) (a : Nat → Nat) (m_beat : Nat → Int32) (m_nick : Nat → Int32) (m_owner : Nat → Int32) (m_place : Nat → Int32) (m_kept : Nat → Int32) (m_heard : Nat → Int32) (m_chosen : Nat → Int32) (m_minutes : Int32) (m_sightBeat : Nat → Int32) (m_sightOff : Nat → Int32) (m_sightIs : Nat → Int32) (m_sights : Int32) (m_pad : Nat → Int32) (m_padMany : Int32) (m_act : Nat → Int32) (m_who : Nat → Int32) (m_much : Nat → Int32) (m_acts : Int32) (m_heardMany : Int32) (m_wrongNow : Int32) (m_had : Nat → Int32) (m_badAct : Int32) (m_badWhy : Int32) (m_wrongAct : Int32) (m_wrongHeir : Int32) (m_odd : Nat → Int32) (m_span : Nat → Int32) (m_rise : Nat → Int32) (m_wins : Nat → Int32) (m_stored : Nat → Int32) (m_isStored : Nat → Int32) (m_storedAt : Int32) (m_isWriting : Int32) (v1 : Int32) (r : Int32 × (Nat → Int32) × (Nat → Int32) × (Nat → Int32) × (Nat → Int32) × (Nat → Int32) × (Nat → Int32) × Int32) (h : f_X9_back m_beat m_nick m_owner m_place m_heard m_chosen m_had v1 = some r) : Kt l D T yX9_back cX9_back 3 (some .int) (0, 0, 0, 0) [.ref (a 0), .int v1] (wM T a m_beat m_nick m_owner m_place m_kept m_heard m_chosen m_minutes m_sightBeat m_sightOff m_sightIs m_sights m_pad m_padMany m_act m_who m_much m_acts m_heardMany m_wrongNow m_had m_badAct m_badWhy m_wrongAct m_wrongHeir m_odd m_span m_rise m_wins m_stored m_isStored m_storedAt m_isWriting) (FF (fun (r : Int32 × (Nat → Int32) × (Nat → Int32) × (Nat → Int32) × (Nat → Int32) × (Nat → Int32) × (Nat → Int32) × Int32) => some (.int r.1)) (fun r => wM T a r.2.1 r.2.2.1 r.2.2.2.1 r.2.2.2.2.1 m_kept r.2.2.2.2.2.1 r.2.2.2.2.2.2.1 r.2.2.2.2.2.2.2 m_sightBeat m_sightOff m_sightIs m_sights m_pad m_padMany m_act m_who m_much m_acts m_heardMany m_wrongNow m_had m_badAct m_badWhy m_wrongAct m_wrongHeir m_odd m_span m_rise m_wins m_stored m_isStored m_storedAt m_isWriting) r) := by
  refine kt_of (own := RX9) (nm := "back") (lv := [(0, .ref (a 0)), (1, .int v1)]) (by decide) rfl rfl rfl (Nat.le_of_ble_eq_true rfl) h (fun X hn C M => ?_)
  have hnn : ((0, 0) : Nat × Nat).1 ≤ 0 ∧ ((0, 0) : Nat × Nat).2 ≤ 0 := ⟨Nat.le_refl 0, Nat.le_refl 0⟩
  unfold f_X9_back
  refine gg_iconst C dX9_back_0 kI_0 ?_
  refine gg_istore_n C dX9_back_1 rfl hn (by decide) (lv' := [(2, .int 0), (0, .ref (a 0)), (1, .int v1)]) rfl ?_
  refine gg_join (α := Int32 × (Nat → Int32) × (Nat → Int32) × (Nat → Int32)) 56 (fun z1 => wM T a z1.2.1 z1.2.2.1 z1.2.2.2 m_place m_kept m_heard m_chosen m_minutes m_sightBeat m_sightOff m_sightIs m_sights m_pad m_padMany m_act m_who m_much m_acts m_heardMany m_wrongNow m_had m_badAct m_badWhy m_wrongAct m_wrongHeir m_odd m_span m_rise m_wins m_stored m_isStored m_storedAt m_isWriting) (fun z1 => [(0, .ref (a 0)), (1, .int v1), (2, .int z1.1)]) (fun z1 => []) (fun z1 => ?_) (fun K4 => ?_)
  · refine gg_iconst C dX9_back_56 kI_0 ?_
    refine gg_istore_n C dX9_back_57 rfl hn (by decide) (lv' := [(2, .int 0), (0, .ref (a 0)), (1, .int v1)]) rfl ?_
    refine gg_join (α := Int32 × (Nat → Int32) × (Nat → Int32) × (Nat → Int32)) 116 (fun z2 => wM T a z1.2.1 z1.2.2.1 z1.2.2.2 z2.2.1 m_kept z2.2.2.1 z2.2.2.2 m_minutes m_sightBeat m_sightOff m_sightIs m_sights m_pad m_padMany m_act m_who m_much m_acts m_heardMany m_wrongNow m_had m_badAct m_badWhy m_wrongAct m_wrongHeir m_odd m_span m_rise m_wins m_stored m_isStored m_storedAt m_isWriting) (fun z2 => [(0, .ref (a 0)), (1, .int v1), (2, .int z2.1)]) (fun z2 => []) (fun z2 => ?_) (fun K3 => ?_)
    · refine gg_aload_n C dX9_back_116 rfl 0 rfl ?_
      refine gg_aload_n C dX9_back_117 rfl 0 rfl ?_
      refine gf_X9_52 C 0 rfl rfl dX9_back_118 ?_
      refine gg_sipush C dX9_back_121 kS_138 ?_
      refine gg_iald C 15 rfl dX9_back_124 ?_
      refine pf_X9_129 C 0 rfl (Nat.le_of_ble_eq_true rfl) dX9_back_125 (ws' := wM T a z1.2.1 z1.2.2.1 z1.2.2.2 z2.2.1 m_kept z2.2.2.1 z2.2.2.2 (m_had (138 : Int32).toNatClampNeg) m_sightBeat m_sightOff m_sightIs m_sights m_pad m_padMany m_act m_who m_much m_acts m_heardMany m_wrongNow m_had m_badAct m_badWhy m_wrongAct m_wrongHeir m_odd m_span m_rise m_wins m_stored m_isStored m_storedAt m_isWriting) rfl ?_
      refine gg_iload_n C dX9_back_128 rfl 1 rfl ?_
      exact gg_iret C M dX9_back_129 ⟨rfl, rfl⟩
    · refine gg_sub [1, 2, 0] rfl ?_
      exact g_X9_back_L58 C hnn hn a v1 z1.2.1 z1.2.2.1 z1.2.2.2 m_kept m_minutes m_sightBeat m_sightOff m_sightIs m_sights m_pad m_padMany m_act m_who m_much m_acts m_heardMany m_wrongNow m_had m_badAct m_badWhy m_wrongAct m_wrongHeir m_odd m_span m_rise m_wins m_stored m_isStored m_storedAt m_isWriting K3 100 0 m_place m_heard m_chosen
  · refine gg_sub [1, 2, 0] rfl ?_
    exact g_X9_back_L2 C hnn hn a v1 m_place m_kept m_heard m_chosen m_minutes m_sightBeat m_sightOff m_sightIs m_sights m_pad m_padMany m_act m_who m_much m_acts m_heardMany m_wrongNow m_had m_badAct m_badWhy m_wrongAct m_wrongHeir m_odd m_span m_rise m_wins m_stored m_isStored m_storedAt m_isWriting K4 100 0 m_beat m_nick m_owner
def f_X9_goOne (m_beat : Nat → Int32) (m_nick : Nat → Int32) (m_owner : Nat → Int32) (m_place : Nat → Int32) (m_kept : Nat → Int32) (m_heard : Nat → Int32) (m_chosen : Nat → Int32) (m_minutes : Int32) (m_act : Nat → Int32) (m_who : Nat → Int32) (m_much : Nat → Int32) (m_heardMany : Int32) (m_wrongAct : Int32) (m_wrongHeir : Int32) (v1 : Int32) : Option ((Nat → Int32) × (Nat → Int32) × (Nat → Int32) × (Nat → Int32) × (Nat → Int32) × (Nat → Int32) × Int32 × Int32 × Int32 × Int32 × Int32) := gu v1 60 (gu v1 60 (gu v1 60 (jn (f_X9_happen m_beat m_nick m_owner m_place m_kept m_heard m_chosen m_minutes m_heardMany (m_act v1.toNatClampNeg) (m_who v1.toNatClampNeg) (m_much v1.toNatClampNeg)) (fun r1 => if r1.2.2.2.2.2.2.2.2 < 0 then some (r1.1, r1.2.1, r1.2.2.1, r1.2.2.2.1, r1.2.2.2.2.1, r1.2.2.2.2.2.1, r1.2.2.2.2.2.2.1, r1.2.2.2.2.2.2.2.1, r1.2.2.2.2.2.2.2.2, m_wrongAct, m_wrongHeir) else if 0 ≤ m_wrongAct then some (r1.1, r1.2.1, r1.2.2.1, r1.2.2.2.1, r1.2.2.2.2.1, r1.2.2.2.2.2.1, r1.2.2.2.2.2.2.1, r1.2.2.2.2.2.2.2.1, r1.2.2.2.2.2.2.2.2, m_wrongAct, m_wrongHeir) else some (r1.1, r1.2.1, r1.2.2.1, r1.2.2.2.1, r1.2.2.2.2.1, r1.2.2.2.2.2.1, r1.2.2.2.2.2.2.1, r1.2.2.2.2.2.2.2.1, r1.2.2.2.2.2.2.2.2, v1, r1.2.2.2.2.2.2.2.2)))))
set_option maxHeartbeats 4000000 in
set_option maxRecDepth 100000 in
theorem c_X9_goOne (l : Launch) (D : va_G) (T : Nat → ClassId) (a : Nat → Nat) (m_beat : Nat → Int32) (m_nick : Nat → Int32) (m_owner : Nat → Int32) (m_place : Nat → Int32) (m_kept : Nat → Int32) (m_heard : Nat → Int32) (m_chosen : Nat → Int32) (m_minutes : Int32) (m_sightBeat : Nat → Int32) (m_sightOff : Nat → Int32) (m_sightIs : Nat → Int32) (m_sights : Int32) (m_pad : Nat → Int32) (m_padMany : Int32) (m_act : Nat → Int32) (m_who : Nat → Int32) (m_much : Nat → Int32) (m_acts : Int32) (m_heardMany : Int32) (m_wrongNow : Int32) (m_had : Nat → Int32) (m_badAct : Int32) (m_badWhy : Int32) (m_wrongAct : Int32) (m_wrongHeir : Int32) (m_odd : Nat → Int32) (m_span : Nat → Int32) (m_rise : Nat → Int32) (m_wins : Nat → Int32) (m_stored : Nat → Int32) (m_isStored : Nat → Int32) (m_storedAt : Int32) (m_isWriting : Int32) (v1 : Int32) (r : (Nat → Int32) × (Nat → Int32) × (Nat → Int32) × (Nat → Int32) × (Nat → Int32) × (Nat → Int32) × Int32 × Int32 × Int32 × Int32 × Int32) (h : f_X9_goOne m_beat m_nick m_owner m_place m_kept m_heard m_chosen m_minutes m_act m_who m_much m_heardMany m_wrongAct m_wrongHeir v1 = some r) : Kt l D T yX9_goOne cX9_goOne 2 none (3, 0, 0, 65) [.ref (a 0), .int v1] (wM T a m_beat m_nick m_owner m_place m_kept m_heard m_chosen m_minutes m_sightBeat m_sightOff m_sightIs m_sights m_pad m_padMany m_act m_who m_much m_acts m_heardMany m_wrongNow m_had m_badAct m_badWhy m_wrongAct m_wrongHeir m_odd m_span m_rise m_wins m_stored m_isStored m_storedAt m_isWriting) (FF (fun (r : (Nat → Int32) × (Nat → Int32) × (Nat → Int32) × (Nat → Int32) × (Nat → Int32) × (Nat → Int32) × Int32 × Int32 × Int32 × Int32 × Int32) => none) (fun r => wM T a r.1 r.2.1 r.2.2.1 r.2.2.2.1 m_kept r.2.2.2.2.1 r.2.2.2.2.2.1 r.2.2.2.2.2.2.1 m_sightBeat m_sightOff m_sightIs m_sights m_pad m_padMany m_act m_who m_much m_acts r.2.2.2.2.2.2.2.1 r.2.2.2.2.2.2.2.2.1 m_had m_badAct m_badWhy r.2.2.2.2.2.2.2.2.2.1 r.2.2.2.2.2.2.2.2.2.2 m_odd m_span m_rise m_wins m_stored m_isStored m_storedAt m_isWriting) r) := by
  refine kt_of (own := RX9) (nm := "goOne") (lv := [(0, .ref (a 0)), (1, .int v1)]) (by decide) rfl rfl rfl (Nat.le_of_ble_eq_true rfl) h (fun X hn C M => ?_)
  have hnn : ((0, 0) : Nat × Nat).1 ≤ 0 ∧ ((0, 0) : Nat × Nat).2 ≤ 0 := ⟨Nat.le_refl 0, Nat.le_refl 0⟩
  unfold f_X9_goOne
  refine gg_aload_n C dX9_goOne_0 rfl 0 rfl ?_
  refine gg_aload_n C dX9_goOne_1 rfl 0 rfl ?_
  refine gf_X9_43 C 0 rfl rfl dX9_goOne_2 ?_
  refine gg_iload_n C dX9_goOne_5 rfl 1 rfl ?_
  refine gg_iald C 12 rfl dX9_goOne_6 ?_
  refine gg_aload_n C dX9_goOne_7 rfl 0 rfl ?_
  refine gf_X9_46 C 0 rfl rfl dX9_goOne_8 ?_
  refine gg_iload_n C dX9_goOne_11 rfl 1 rfl ?_
  refine gg_iald C 13 rfl dX9_goOne_12 ?_
  refine gg_aload_n C dX9_goOne_13 rfl 0 rfl ?_
  refine gf_X9_49 C 0 rfl rfl dX9_goOne_14 ?_
  refine gg_iload_n C dX9_goOne_17 rfl 1 rfl ?_
  refine gg_iald C 14 rfl dX9_goOne_18 ?_
  refine gg_callV C (fun l r h => c_X9_happen l D T a m_beat m_nick m_owner m_place m_kept m_heard m_chosen m_minutes m_sightBeat m_sightOff m_sightIs m_sights m_pad m_padMany m_act m_who m_much m_acts m_heardMany m_wrongNow m_had m_badAct m_badWhy m_wrongAct m_wrongHeir m_odd m_span m_rise m_wins m_stored m_isStored m_storedAt m_isWriting (m_act v1.toNatClampNeg) (m_who v1.toNatClampNeg) (m_much v1.toNatClampNeg) r h) lk_X9_157 ⟨by decide, by decide⟩ hnn rfl (rest := []) rfl (Nat.le_of_ble_eq_true rfl) 0 rfl rfl dX9_goOne_19 (ws2 := fun r1 => wM T a r1.1 r1.2.1 r1.2.2.1 r1.2.2.2.1 m_kept r1.2.2.2.2.1 r1.2.2.2.2.2.1 r1.2.2.2.2.2.2.1 m_sightBeat m_sightOff m_sightIs m_sights m_pad m_padMany m_act m_who m_much m_acts r1.2.2.2.2.2.2.2.1 r1.2.2.2.2.2.2.2.2 m_had m_badAct m_badWhy m_wrongAct m_wrongHeir m_odd m_span m_rise m_wins m_stored m_isStored m_storedAt m_isWriting) (cut_full (fun _ => rfl)) (st2 := fun r1 => []) (fun _ => rfl) (fun r1 => ?_)
  refine gg_aload_n C dX9_goOne_22 rfl 0 rfl ?_
  refine gf_X9_141 C 0 rfl rfl dX9_goOne_23 ?_
  refine gg_if_lt C dX9_goOne_26 (tgt := 49) (by decide) (fun _ => ?_) (fun _ => ?_)
  · exact gg_vret C M dX9_goOne_49 ⟨rfl, rfl⟩
  · refine gg_aload_n C dX9_goOne_29 rfl 0 rfl ?_
    refine gf_X9_161 C 0 rfl rfl dX9_goOne_30 ?_
    refine gg_if_ge C dX9_goOne_33 (tgt := 49) (by decide) (fun _ => ?_) (fun _ => ?_)
    · exact gg_vret C M dX9_goOne_49 ⟨rfl, rfl⟩
    · refine gg_aload_n C dX9_goOne_36 rfl 0 rfl ?_
      refine gg_iload_n C dX9_goOne_37 rfl 1 rfl ?_
      refine pf_X9_161 C 0 rfl (Nat.le_of_ble_eq_true rfl) dX9_goOne_38 (ws' := wM T a r1.1 r1.2.1 r1.2.2.1 r1.2.2.2.1 m_kept r1.2.2.2.2.1 r1.2.2.2.2.2.1 r1.2.2.2.2.2.2.1 m_sightBeat m_sightOff m_sightIs m_sights m_pad m_padMany m_act m_who m_much m_acts r1.2.2.2.2.2.2.2.1 r1.2.2.2.2.2.2.2.2 m_had m_badAct m_badWhy v1 m_wrongHeir m_odd m_span m_rise m_wins m_stored m_isStored m_storedAt m_isWriting) rfl ?_
      refine gg_aload_n C dX9_goOne_41 rfl 0 rfl ?_
      refine gg_aload_n C dX9_goOne_42 rfl 0 rfl ?_
      refine gf_X9_141 C 0 rfl rfl dX9_goOne_43 ?_
      refine pf_X9_164 C 0 rfl (Nat.le_of_ble_eq_true rfl) dX9_goOne_46 (ws' := wM T a r1.1 r1.2.1 r1.2.2.1 r1.2.2.2.1 m_kept r1.2.2.2.2.1 r1.2.2.2.2.2.1 r1.2.2.2.2.2.2.1 m_sightBeat m_sightOff m_sightIs m_sights m_pad m_padMany m_act m_who m_much m_acts r1.2.2.2.2.2.2.2.1 r1.2.2.2.2.2.2.2.2 m_had m_badAct m_badWhy v1 r1.2.2.2.2.2.2.2.2 m_odd m_span m_rise m_wins m_stored m_isStored m_storedAt m_isWriting) rfl ?_
      exact gg_vret C M dX9_goOne_49 ⟨rfl, rfl⟩
def f_X9_goHours_L31 (m_kept : Nat → Int32) (m_act : Nat → Int32) (m_who : Nat → Int32) (m_much : Nat → Int32) (m_acts : Int32) : Nat → Int32 → (Nat → Int32) → (Nat → Int32) → (Nat → Int32) → (Nat → Int32) → (Nat → Int32) → (Nat → Int32) → Int32 → Int32 → Int32 → Int32 → Int32 → Int32 → Int32 → Option (Int32 × (Nat → Int32) × (Nat → Int32) × (Nat → Int32) × (Nat → Int32) × (Nat → Int32) × (Nat → Int32) × Int32 × Int32 × Int32 × Int32 × Int32 × Int32 × Int32)
  | 0, _, _, _, _, _, _, _, _, _, _, _, _, _, _ => none
  | nn + 1, y1, m_beat, m_nick, m_owner, m_place, m_heard, m_chosen, m_minutes, m_heardMany, m_wrongNow, m_badAct, m_badWhy, m_wrongAct, m_wrongHeir => if m_acts ≤ y1 then some (y1, m_beat, m_nick, m_owner, m_place, m_heard, m_chosen, m_minutes, m_heardMany, m_wrongNow, m_badAct, m_badWhy, m_wrongAct, m_wrongHeir) else if 0 ≤ m_badAct then some (y1, m_beat, m_nick, m_owner, m_place, m_heard, m_chosen, m_minutes, m_heardMany, m_wrongNow, m_badAct, m_badWhy, m_wrongAct, m_wrongHeir) else gu y1 60 (gu y1 60 (gu y1 60 (jn (f_X9_whyNot m_beat m_place m_chosen m_minutes (m_act y1.toNatClampNeg) (m_who y1.toNatClampNeg) (m_much y1.toNatClampNeg)) (fun r1 => jn (α := Int32) (if r1 ≤ 0 then some (-6) else some y1) (fun z2 => jn (α := Int32) (if r1 ≤ 0 then some (-6) else some r1) (fun z4 => if r1 = 0 then jn (f_X9_goOne m_beat m_nick m_owner m_place m_kept m_heard m_chosen m_minutes m_act m_who m_much m_heardMany m_wrongAct m_wrongHeir y1) (fun r6 => f_X9_goHours_L31 m_kept m_act m_who m_much m_acts nn (y1 + 1) r6.1 r6.2.1 r6.2.2.1 r6.2.2.2.1 r6.2.2.2.2.1 r6.2.2.2.2.2.1 r6.2.2.2.2.2.2.1 r6.2.2.2.2.2.2.2.1 r6.2.2.2.2.2.2.2.2.1 z2 z4 r6.2.2.2.2.2.2.2.2.2.1 r6.2.2.2.2.2.2.2.2.2.2) else f_X9_goHours_L31 m_kept m_act m_who m_much m_acts nn (y1 + 1) m_beat m_nick m_owner m_place m_heard m_chosen m_minutes m_heardMany m_wrongNow z2 z4 m_wrongAct m_wrongHeir))))))
set_option maxHeartbeats 4000000 in
set_option maxRecDepth 100000 in
theorem g_X9_goHours_L31 {X : KX} {D : va_G} {T : Nat → ClassId} {Q : Int32 × (Nat → Int32) × (Nat → Int32) × (Nat → Int32) × (Nat → Int32) × (Nat → Int32) × (Nat → Int32) × Int32 × Int32 × Int32 × Int32 × Int32 × Int32 × Int32 → State → Prop} {n : Nat × Nat} (C : Cx X D T cX9_goHours RX9 { frames := 4, cells := 0, slots := 0, locals := 86 }) (hnn : n.1 ≤ 0 ∧ n.2 ≤ 0) (hn : kxL X = 3) (a : Nat → Nat)  (m_kept : Nat → Int32) (m_sightBeat : Nat → Int32) (m_sightOff : Nat → Int32) (m_sightIs : Nat → Int32) (m_sights : Int32) (m_pad : Nat → Int32) (m_padMany : Int32) (m_act : Nat → Int32) (m_who : Nat → Int32) (m_much : Nat → Int32) (m_acts : Int32) (m_had : Nat → Int32) (m_odd : Nat → Int32) (m_span : Nat → Int32) (m_rise : Nat → Int32) (m_wins : Nat → Int32) (m_stored : Nat → Int32) (m_isStored : Nat → Int32) (m_storedAt : Int32) (m_isWriting : Int32) (hk : ∀ v : Int32 × (Nat → Int32) × (Nat → Int32) × (Nat → Int32) × (Nat → Int32) × (Nat → Int32) × (Nat → Int32) × Int32 × Int32 × Int32 × Int32 × Int32 × Int32 × Int32, GG X D Q n (wM T a v.2.1 v.2.2.1 v.2.2.2.1 v.2.2.2.2.1 m_kept v.2.2.2.2.2.1 v.2.2.2.2.2.2.1 v.2.2.2.2.2.2.2.1 m_sightBeat m_sightOff m_sightIs m_sights m_pad m_padMany m_act m_who m_much m_acts v.2.2.2.2.2.2.2.2.1 v.2.2.2.2.2.2.2.2.2.1 m_had v.2.2.2.2.2.2.2.2.2.2.1 v.2.2.2.2.2.2.2.2.2.2.2.1 v.2.2.2.2.2.2.2.2.2.2.2.2.1 v.2.2.2.2.2.2.2.2.2.2.2.2.2 m_odd m_span m_rise m_wins m_stored m_isStored m_storedAt m_isWriting) [(0, .ref (a 0)), (1, .int v.1)] 112 [] (some (v))) : ∀ (nn : Nat) (y1 : Int32) (m_beat : Nat → Int32) (m_nick : Nat → Int32) (m_owner : Nat → Int32) (m_place : Nat → Int32) (m_heard : Nat → Int32) (m_chosen : Nat → Int32) (m_minutes : Int32) (m_heardMany : Int32) (m_wrongNow : Int32) (m_badAct : Int32) (m_badWhy : Int32) (m_wrongAct : Int32) (m_wrongHeir : Int32), GG X D Q n (wM T a m_beat m_nick m_owner m_place m_kept m_heard m_chosen m_minutes m_sightBeat m_sightOff m_sightIs m_sights m_pad m_padMany m_act m_who m_much m_acts m_heardMany m_wrongNow m_had m_badAct m_badWhy m_wrongAct m_wrongHeir m_odd m_span m_rise m_wins m_stored m_isStored m_storedAt m_isWriting) [(0, .ref (a 0)), (1, .int y1)] 31 [] (f_X9_goHours_L31 m_kept m_act m_who m_much m_acts nn y1 m_beat m_nick m_owner m_place m_heard m_chosen m_minutes m_heardMany m_wrongNow m_badAct m_badWhy m_wrongAct m_wrongHeir) := by
  intro nn
  induction nn with
  | zero => intros; exact gg_none
  | succ nn ih =>
    intro y1 m_beat m_nick m_owner m_place m_heard m_chosen m_minutes m_heardMany m_wrongNow m_badAct m_badWhy m_wrongAct m_wrongHeir
    unfold f_X9_goHours_L31
    refine gg_iload_n C dX9_goHours_31 rfl 1 rfl ?_
    refine gg_aload_n C dX9_goHours_32 rfl 0 rfl ?_
    refine gf_X9_101 C 0 rfl rfl dX9_goHours_33 ?_
    refine gg_icmp_ge C dX9_goHours_36 (tgt := 112) (by decide) (fun _ => ?_) (fun _ => ?_)
    · refine gg_sub [0, 1] rfl ?_
      exact hk (y1, m_beat, m_nick, m_owner, m_place, m_heard, m_chosen, m_minutes, m_heardMany, m_wrongNow, m_badAct, m_badWhy, m_wrongAct, m_wrongHeir)
    · refine gg_aload_n C dX9_goHours_39 rfl 0 rfl ?_
      refine gf_X9_167 C 0 rfl rfl dX9_goHours_40 ?_
      refine gg_if_ge C dX9_goHours_43 (tgt := 112) (by decide) (fun _ => ?_) (fun _ => ?_)
      · refine gg_sub [0, 1] rfl ?_
        exact hk (y1, m_beat, m_nick, m_owner, m_place, m_heard, m_chosen, m_minutes, m_heardMany, m_wrongNow, m_badAct, m_badWhy, m_wrongAct, m_wrongHeir)
      · refine gg_aload_n C dX9_goHours_46 rfl 0 rfl ?_
        refine gg_aload_n C dX9_goHours_47 rfl 0 rfl ?_
        refine gf_X9_43 C 0 rfl rfl dX9_goHours_48 ?_
        refine gg_iload_n C dX9_goHours_51 rfl 1 rfl ?_
        refine gg_iald C 12 rfl dX9_goHours_52 ?_
        refine gg_aload_n C dX9_goHours_53 rfl 0 rfl ?_
        refine gf_X9_46 C 0 rfl rfl dX9_goHours_54 ?_
        refine gg_iload_n C dX9_goHours_57 rfl 1 rfl ?_
        refine gg_iald C 13 rfl dX9_goHours_58 ?_
        refine gg_aload_n C dX9_goHours_59 rfl 0 rfl ?_
        refine gf_X9_49 C 0 rfl rfl dX9_goHours_60 ?_
        refine gg_iload_n C dX9_goHours_63 rfl 1 rfl ?_
        refine gg_iald C 14 rfl dX9_goHours_64 ?_
        refine gg_callV C (fun l r h => c_X9_whyNot l D T a m_beat m_nick m_owner m_place m_kept m_heard m_chosen m_minutes m_sightBeat m_sightOff m_sightIs m_sights m_pad m_padMany m_act m_who m_much m_acts m_heardMany m_wrongNow m_had m_badAct m_badWhy m_wrongAct m_wrongHeir m_odd m_span m_rise m_wins m_stored m_isStored m_storedAt m_isWriting (m_act y1.toNatClampNeg) (m_who y1.toNatClampNeg) (m_much y1.toNatClampNeg) r h) lk_X9_173 ⟨by decide, by decide⟩ hnn rfl (rest := []) rfl (Nat.le_of_ble_eq_true rfl) 0 rfl rfl dX9_goHours_65 (ws2 := fun r1 => wM T a m_beat m_nick m_owner m_place m_kept m_heard m_chosen m_minutes m_sightBeat m_sightOff m_sightIs m_sights m_pad m_padMany m_act m_who m_much m_acts m_heardMany m_wrongNow m_had m_badAct m_badWhy m_wrongAct m_wrongHeir m_odd m_span m_rise m_wins m_stored m_isStored m_storedAt m_isWriting) (cut_full (fun _ => rfl)) (st2 := fun r1 => [.int r1]) (fun _ => rfl) (fun r1 => ?_)
        refine gg_istore_n C dX9_goHours_68 rfl hn (by decide) (lv' := [(2, .int r1), (0, .ref (a 0)), (1, .int y1)]) rfl ?_
        refine gg_aload_n C dX9_goHours_69 rfl 1 rfl ?_
        refine gg_iload_n C dX9_goHours_70 rfl 0 rfl ?_
        refine gg_join (α := Int32) 80 (fun z2 => wM T a m_beat m_nick m_owner m_place m_kept m_heard m_chosen m_minutes m_sightBeat m_sightOff m_sightIs m_sights m_pad m_padMany m_act m_who m_much m_acts m_heardMany m_wrongNow m_had m_badAct m_badWhy m_wrongAct m_wrongHeir m_odd m_span m_rise m_wins m_stored m_isStored m_storedAt m_isWriting) (fun z2 => [(0, .ref (a 0)), (1, .int y1), (2, .int r1)]) (fun z2 => [.int z2, .ref (a 0)]) (fun z2 => ?_) (fun K3 => ?_)
        · refine pf_X9_167 C 0 rfl (Nat.le_of_ble_eq_true rfl) dX9_goHours_80 (ws' := wM T a m_beat m_nick m_owner m_place m_kept m_heard m_chosen m_minutes m_sightBeat m_sightOff m_sightIs m_sights m_pad m_padMany m_act m_who m_much m_acts m_heardMany m_wrongNow m_had z2 m_badWhy m_wrongAct m_wrongHeir m_odd m_span m_rise m_wins m_stored m_isStored m_storedAt m_isWriting) rfl ?_
          refine gg_aload_n C dX9_goHours_83 rfl 0 rfl ?_
          refine gg_iload_n C dX9_goHours_84 rfl 2 rfl ?_
          refine gg_join (α := Int32) 94 (fun z4 => wM T a m_beat m_nick m_owner m_place m_kept m_heard m_chosen m_minutes m_sightBeat m_sightOff m_sightIs m_sights m_pad m_padMany m_act m_who m_much m_acts m_heardMany m_wrongNow m_had z2 m_badWhy m_wrongAct m_wrongHeir m_odd m_span m_rise m_wins m_stored m_isStored m_storedAt m_isWriting) (fun z4 => [(0, .ref (a 0)), (1, .int y1), (2, .int r1)]) (fun z4 => [.int z4, .ref (a 0)]) (fun z4 => ?_) (fun K5 => ?_)
          · refine pf_X9_170 C 0 rfl (Nat.le_of_ble_eq_true rfl) dX9_goHours_94 (ws' := wM T a m_beat m_nick m_owner m_place m_kept m_heard m_chosen m_minutes m_sightBeat m_sightOff m_sightIs m_sights m_pad m_padMany m_act m_who m_much m_acts m_heardMany m_wrongNow m_had z2 z4 m_wrongAct m_wrongHeir m_odd m_span m_rise m_wins m_stored m_isStored m_storedAt m_isWriting) rfl ?_
            refine gg_iload_n C dX9_goHours_97 rfl 2 rfl ?_
            refine gg_if_ne C dX9_goHours_98 (tgt := 106) (by decide) (fun _ => ?_) (fun _ => ?_)
            · refine gg_iinc C dX9_goHours_106 (j := 1) rfl (v := y1 + 1) (by first | rfl | decide) hn (by decide) (lv' := [(1, .int (y1 + 1)), (0, .ref (a 0)), (2, .int r1)]) rfl ?_
              refine gg_goto C dX9_goHours_109 (tgt := 31) (by decide) ?_
              refine gg_sub [1, 0] rfl ?_
              exact ih (y1 + 1) m_beat m_nick m_owner m_place m_heard m_chosen m_minutes m_heardMany m_wrongNow z2 z4 m_wrongAct m_wrongHeir
            · refine gg_aload_n C dX9_goHours_101 rfl 0 rfl ?_
              refine gg_iload_n C dX9_goHours_102 rfl 1 rfl ?_
              refine gg_callV C (fun l r h => c_X9_goOne l D T a m_beat m_nick m_owner m_place m_kept m_heard m_chosen m_minutes m_sightBeat m_sightOff m_sightIs m_sights m_pad m_padMany m_act m_who m_much m_acts m_heardMany m_wrongNow m_had z2 z4 m_wrongAct m_wrongHeir m_odd m_span m_rise m_wins m_stored m_isStored m_storedAt m_isWriting y1 r h) lk_X9_177 ⟨by decide, by decide⟩ hnn rfl (rest := []) rfl (Nat.le_of_ble_eq_true rfl) 0 rfl rfl dX9_goHours_103 (ws2 := fun r6 => wM T a r6.1 r6.2.1 r6.2.2.1 r6.2.2.2.1 m_kept r6.2.2.2.2.1 r6.2.2.2.2.2.1 r6.2.2.2.2.2.2.1 m_sightBeat m_sightOff m_sightIs m_sights m_pad m_padMany m_act m_who m_much m_acts r6.2.2.2.2.2.2.2.1 r6.2.2.2.2.2.2.2.2.1 m_had z2 z4 r6.2.2.2.2.2.2.2.2.2.1 r6.2.2.2.2.2.2.2.2.2.2 m_odd m_span m_rise m_wins m_stored m_isStored m_storedAt m_isWriting) (cut_full (fun _ => rfl)) (st2 := fun r6 => []) (fun _ => rfl) (fun r6 => ?_)
              refine gg_iinc C dX9_goHours_106 (j := 1) rfl (v := y1 + 1) (by first | rfl | decide) hn (by decide) (lv' := [(1, .int (y1 + 1)), (0, .ref (a 0)), (2, .int r1)]) rfl ?_
              refine gg_goto C dX9_goHours_109 (tgt := 31) (by decide) ?_
              refine gg_sub [1, 0] rfl ?_
              exact ih (y1 + 1) r6.1 r6.2.1 r6.2.2.1 r6.2.2.2.1 r6.2.2.2.2.1 r6.2.2.2.2.2.1 r6.2.2.2.2.2.2.1 r6.2.2.2.2.2.2.2.1 r6.2.2.2.2.2.2.2.2.1 z2 z4 r6.2.2.2.2.2.2.2.2.2.1 r6.2.2.2.2.2.2.2.2.2.2
          · refine gg_if_le C dX9_goHours_85 (tgt := 92) (by decide) (fun _ => ?_) (fun _ => ?_)
            · refine gg_bipush C dX9_goHours_92 kB_m6 ?_
              refine gg_sub [0, 1, 2] rfl ?_
              exact K5 (-6)
            · refine gg_iload_n C dX9_goHours_88 rfl 2 rfl ?_
              refine gg_goto C dX9_goHours_89 (tgt := 94) (by decide) ?_
              refine gg_sub [0, 1, 2] rfl ?_
              exact K5 r1
        · refine gg_if_le C dX9_goHours_71 (tgt := 78) (by decide) (fun _ => ?_) (fun _ => ?_)
          · refine gg_bipush C dX9_goHours_78 kB_m6 ?_
            refine gg_sub [1, 2, 0] rfl ?_
            exact K3 (-6)
          · refine gg_iload_n C dX9_goHours_74 rfl 2 rfl ?_
            refine gg_goto C dX9_goHours_75 (tgt := 80) (by decide) ?_
            refine gg_sub [1, 2, 0] rfl ?_
            exact K3 y1
def f_X9_goHours (m_beat : Nat → Int32) (m_nick : Nat → Int32) (m_owner : Nat → Int32) (m_place : Nat → Int32) (m_kept : Nat → Int32) (m_heard : Nat → Int32) (m_chosen : Nat → Int32) (m_minutes : Int32) (m_act : Nat → Int32) (m_who : Nat → Int32) (m_much : Nat → Int32) (m_acts : Int32) (m_wrongNow : Int32) : Option ((Nat → Int32) × (Nat → Int32) × (Nat → Int32) × (Nat → Int32) × (Nat → Int32) × (Nat → Int32) × Int32 × Int32 × Int32 × Int32 × Int32 × Int32 × Int32) := jn (α := Int32 × (Nat → Int32) × (Nat → Int32) × (Nat → Int32) × (Nat → Int32) × (Nat → Int32) × (Nat → Int32) × Int32 × Int32 × Int32 × Int32 × Int32 × Int32 × Int32) (f_X9_goHours_L31 m_kept m_act m_who m_much m_acts 100 0 m_beat m_nick m_owner m_place m_heard m_chosen m_minutes 0 m_wrongNow (-6) (-6) (-6) (-6)) (fun z7 => some (z7.2.1, z7.2.2.1, z7.2.2.2.1, z7.2.2.2.2.1, z7.2.2.2.2.2.1, z7.2.2.2.2.2.2.1, z7.2.2.2.2.2.2.2.1, z7.2.2.2.2.2.2.2.2.1, z7.2.2.2.2.2.2.2.2.2.1, z7.2.2.2.2.2.2.2.2.2.2.1, z7.2.2.2.2.2.2.2.2.2.2.2.1, z7.2.2.2.2.2.2.2.2.2.2.2.2.1, z7.2.2.2.2.2.2.2.2.2.2.2.2.2))
set_option maxHeartbeats 4000000 in
set_option maxRecDepth 100000 in
theorem c_X9_goHours (l : Launch) (D : va_G) (T : Nat → ClassId) (a : Nat → Nat) (m_beat : Nat → Int32) (m_nick : Nat → Int32) (m_owner : Nat → Int32) (m_place : Nat → Int32) (m_kept : Nat → Int32) (m_heard : Nat → Int32) (m_chosen : Nat → Int32) (m_minutes : Int32) (m_sightBeat : Nat → Int32) (m_sightOff : Nat → Int32) (m_sightIs : Nat → Int32) (m_sights : Int32) (m_pad : Nat → Int32) (m_padMany : Int32) (m_act : Nat → Int32) (m_who : Nat → Int32) (m_much : Nat → Int32) (m_acts : Int32) (m_heardMany : Int32) (m_wrongNow : Int32) (m_had : Nat → Int32) (m_badAct : Int32) (m_badWhy : Int32) (m_wrongAct : Int32) (m_wrongHeir : Int32) (m_odd : Nat → Int32) (m_span : Nat → Int32) (m_rise : Nat → Int32) (m_wins : Nat → Int32) (m_stored : Nat → Int32) (m_isStored : Nat → Int32) (m_storedAt : Int32) (m_isWriting : Int32) (r : (Nat → Int32) × (Nat → Int32) × (Nat → Int32) × (Nat → Int32) × (Nat → Int32) × (Nat → Int32) × Int32 × Int32 × Int32 × Int32 × Int32 × Int32 × Int32) (h : f_X9_goHours m_beat m_nick m_owner m_place m_kept m_heard m_chosen m_minutes m_act m_who m_much m_acts m_wrongNow = some r) : Kt l D T yX9_goHours cX9_goHours 3 none (4, 0, 0, 86) [.ref (a 0)] (wM T a m_beat m_nick m_owner m_place m_kept m_heard m_chosen m_minutes m_sightBeat m_sightOff m_sightIs m_sights m_pad m_padMany m_act m_who m_much m_acts m_heardMany m_wrongNow m_had m_badAct m_badWhy m_wrongAct m_wrongHeir m_odd m_span m_rise m_wins m_stored m_isStored m_storedAt m_isWriting) (FF (fun (r : (Nat → Int32) × (Nat → Int32) × (Nat → Int32) × (Nat → Int32) × (Nat → Int32) × (Nat → Int32) × Int32 × Int32 × Int32 × Int32 × Int32 × Int32 × Int32) => none) (fun r => wM T a r.1 r.2.1 r.2.2.1 r.2.2.2.1 m_kept r.2.2.2.2.1 r.2.2.2.2.2.1 r.2.2.2.2.2.2.1 m_sightBeat m_sightOff m_sightIs m_sights m_pad m_padMany m_act m_who m_much m_acts r.2.2.2.2.2.2.2.1 r.2.2.2.2.2.2.2.2.1 m_had r.2.2.2.2.2.2.2.2.2.1 r.2.2.2.2.2.2.2.2.2.2.1 r.2.2.2.2.2.2.2.2.2.2.2.1 r.2.2.2.2.2.2.2.2.2.2.2.2 m_odd m_span m_rise m_wins m_stored m_isStored m_storedAt m_isWriting) r) := by
  refine kt_of (own := RX9) (nm := "goHours") (lv := [(0, .ref (a 0))]) (by decide) rfl rfl rfl (Nat.le_of_ble_eq_true rfl) h (fun X hn C M => ?_)
  have hnn : ((0, 0) : Nat × Nat).1 ≤ 0 ∧ ((0, 0) : Nat × Nat).2 ≤ 0 := ⟨Nat.le_refl 0, Nat.le_refl 0⟩
  unfold f_X9_goHours
  refine gg_aload_n C dX9_goHours_0 rfl 0 rfl ?_
  refine gg_bipush C dX9_goHours_1 kB_m6 ?_
  refine pf_X9_167 C 0 rfl (Nat.le_of_ble_eq_true rfl) dX9_goHours_3 (ws' := wM T a m_beat m_nick m_owner m_place m_kept m_heard m_chosen m_minutes m_sightBeat m_sightOff m_sightIs m_sights m_pad m_padMany m_act m_who m_much m_acts m_heardMany m_wrongNow m_had (-6) m_badWhy m_wrongAct m_wrongHeir m_odd m_span m_rise m_wins m_stored m_isStored m_storedAt m_isWriting) rfl ?_
  refine gg_aload_n C dX9_goHours_6 rfl 0 rfl ?_
  refine gg_bipush C dX9_goHours_7 kB_m6 ?_
  refine pf_X9_170 C 0 rfl (Nat.le_of_ble_eq_true rfl) dX9_goHours_9 (ws' := wM T a m_beat m_nick m_owner m_place m_kept m_heard m_chosen m_minutes m_sightBeat m_sightOff m_sightIs m_sights m_pad m_padMany m_act m_who m_much m_acts m_heardMany m_wrongNow m_had (-6) (-6) m_wrongAct m_wrongHeir m_odd m_span m_rise m_wins m_stored m_isStored m_storedAt m_isWriting) rfl ?_
  refine gg_aload_n C dX9_goHours_12 rfl 0 rfl ?_
  refine gg_bipush C dX9_goHours_13 kB_m6 ?_
  refine pf_X9_161 C 0 rfl (Nat.le_of_ble_eq_true rfl) dX9_goHours_15 (ws' := wM T a m_beat m_nick m_owner m_place m_kept m_heard m_chosen m_minutes m_sightBeat m_sightOff m_sightIs m_sights m_pad m_padMany m_act m_who m_much m_acts m_heardMany m_wrongNow m_had (-6) (-6) (-6) m_wrongHeir m_odd m_span m_rise m_wins m_stored m_isStored m_storedAt m_isWriting) rfl ?_
  refine gg_aload_n C dX9_goHours_18 rfl 0 rfl ?_
  refine gg_bipush C dX9_goHours_19 kB_m6 ?_
  refine pf_X9_164 C 0 rfl (Nat.le_of_ble_eq_true rfl) dX9_goHours_21 (ws' := wM T a m_beat m_nick m_owner m_place m_kept m_heard m_chosen m_minutes m_sightBeat m_sightOff m_sightIs m_sights m_pad m_padMany m_act m_who m_much m_acts m_heardMany m_wrongNow m_had (-6) (-6) (-6) (-6) m_odd m_span m_rise m_wins m_stored m_isStored m_storedAt m_isWriting) rfl ?_
  refine gg_aload_n C dX9_goHours_24 rfl 0 rfl ?_
  refine gg_iconst C dX9_goHours_25 kI_0 ?_
  refine pf_X9_135 C 0 rfl (Nat.le_of_ble_eq_true rfl) dX9_goHours_26 (ws' := wM T a m_beat m_nick m_owner m_place m_kept m_heard m_chosen m_minutes m_sightBeat m_sightOff m_sightIs m_sights m_pad m_padMany m_act m_who m_much m_acts 0 m_wrongNow m_had (-6) (-6) (-6) (-6) m_odd m_span m_rise m_wins m_stored m_isStored m_storedAt m_isWriting) rfl ?_
  refine gg_iconst C dX9_goHours_29 kI_0 ?_
  refine gg_istore_n C dX9_goHours_30 rfl hn (by decide) (lv' := [(1, .int 0), (0, .ref (a 0))]) rfl ?_
  refine gg_join (α := Int32 × (Nat → Int32) × (Nat → Int32) × (Nat → Int32) × (Nat → Int32) × (Nat → Int32) × (Nat → Int32) × Int32 × Int32 × Int32 × Int32 × Int32 × Int32 × Int32) 112 (fun z7 => wM T a z7.2.1 z7.2.2.1 z7.2.2.2.1 z7.2.2.2.2.1 m_kept z7.2.2.2.2.2.1 z7.2.2.2.2.2.2.1 z7.2.2.2.2.2.2.2.1 m_sightBeat m_sightOff m_sightIs m_sights m_pad m_padMany m_act m_who m_much m_acts z7.2.2.2.2.2.2.2.2.1 z7.2.2.2.2.2.2.2.2.2.1 m_had z7.2.2.2.2.2.2.2.2.2.2.1 z7.2.2.2.2.2.2.2.2.2.2.2.1 z7.2.2.2.2.2.2.2.2.2.2.2.2.1 z7.2.2.2.2.2.2.2.2.2.2.2.2.2 m_odd m_span m_rise m_wins m_stored m_isStored m_storedAt m_isWriting) (fun z7 => [(0, .ref (a 0)), (1, .int z7.1)]) (fun z7 => []) (fun z7 => ?_) (fun K8 => ?_)
  · exact gg_vret C M dX9_goHours_112 ⟨rfl, rfl⟩
  · refine gg_sub [1, 0] rfl ?_
    exact g_X9_goHours_L31 C hnn hn a m_kept m_sightBeat m_sightOff m_sightIs m_sights m_pad m_padMany m_act m_who m_much m_acts m_had m_odd m_span m_rise m_wins m_stored m_isStored m_storedAt m_isWriting K8 100 0 m_beat m_nick m_owner m_place m_heard m_chosen m_minutes 0 m_wrongNow (-6) (-6) (-6) (-6)
def f_X9_refusal (m_beat : Nat → Int32) (m_nick : Nat → Int32) (m_owner : Nat → Int32) (m_place : Nat → Int32) (m_kept : Nat → Int32) (m_heard : Nat → Int32) (m_chosen : Nat → Int32) (m_minutes : Int32) (m_pad : Nat → Int32) (m_padMany : Int32) (m_act : Nat → Int32) (m_who : Nat → Int32) (m_much : Nat → Int32) (m_heardMany : Int32) (m_wrongNow : Int32) (m_had : Nat → Int32) (m_badAct : Int32) (m_badWhy : Int32) (m_wrongAct : Int32) (m_wrongHeir : Int32) : Option (Int32 × (Nat → Int32) × (Nat → Int32) × (Nat → Int32) × (Nat → Int32) × (Nat → Int32) × (Nat → Int32) × Int32 × (Nat → Int32) × (Nat → Int32) × (Nat → Int32) × Int32 × Int32 × Int32 × (Nat → Int32) × Int32 × Int32 × Int32 × Int32) := jn (f_X9_keepNow m_beat m_nick m_owner m_place m_heard m_chosen m_minutes m_had) (fun r1 => jn (f_X9_fault m_pad m_padMany m_act m_who m_much) (fun r2 => if r2.1 < 0 then jn (f_X9_goHours m_beat m_nick m_owner m_place m_kept m_heard m_chosen m_minutes r2.2.1 r2.2.2.1 r2.2.2.2.1 r2.2.2.2.2 m_wrongNow) (fun r3 => if r3.2.2.2.2.2.2.2.2.2.1 < 0 then some ((-6), r3.1, r3.2.1, r3.2.2.1, r3.2.2.2.1, r3.2.2.2.2.1, r3.2.2.2.2.2.1, r3.2.2.2.2.2.2.1, r2.2.1, r2.2.2.1, r2.2.2.2.1, r2.2.2.2.2, r3.2.2.2.2.2.2.2.1, r3.2.2.2.2.2.2.2.2.1, r1, r3.2.2.2.2.2.2.2.2.2.1, r3.2.2.2.2.2.2.2.2.2.2.1, r3.2.2.2.2.2.2.2.2.2.2.2.1, r3.2.2.2.2.2.2.2.2.2.2.2.2) else some ((-3), r3.1, r3.2.1, r3.2.2.1, r3.2.2.2.1, r3.2.2.2.2.1, r3.2.2.2.2.2.1, r3.2.2.2.2.2.2.1, r2.2.1, r2.2.2.1, r2.2.2.2.1, r2.2.2.2.2, r3.2.2.2.2.2.2.2.1, r3.2.2.2.2.2.2.2.2.1, r1, r3.2.2.2.2.2.2.2.2.2.1, r3.2.2.2.2.2.2.2.2.2.2.1, r3.2.2.2.2.2.2.2.2.2.2.2.1, r3.2.2.2.2.2.2.2.2.2.2.2.2)) else some ((-5), m_beat, m_nick, m_owner, m_place, m_heard, m_chosen, m_minutes, r2.2.1, r2.2.2.1, r2.2.2.2.1, r2.2.2.2.2, m_heardMany, m_wrongNow, r1, m_badAct, m_badWhy, m_wrongAct, m_wrongHeir)))
set_option maxHeartbeats 4000000 in
set_option maxRecDepth 100000 in
theorem c_X9_refusal (l : Launch) (D : va_G) (T : Nat → ClassId) (a : Nat → Nat) (m_beat : Nat → Int32) (m_nick : Nat → Int32) (m_owner : Nat → Int32) (m_place : Nat → Int32) (m_kept : Nat → Int32) (m_heard : Nat → Int32) (m_chosen : Nat → Int32) (m_minutes : Int32) (m_sightBeat : Nat → Int32) (m_sightOff : Nat → Int32) (m_sightIs : Nat → Int32) (m_sights : Int32) (m_pad : Nat → Int32) (m_padMany : Int32) (m_act : Nat → Int32) (m_who : Nat → Int32) (m_much : Nat → Int32) (m_acts : Int32) (m_heardMany : Int32) (m_wrongNow : Int32) (m_had : Nat → Int32) (m_badAct : Int32) (m_badWhy : Int32) (m_wrongAct : Int32) (m_wrongHeir : Int32) (m_odd : Nat → Int32) (m_span : Nat → Int32) (m_rise : Nat → Int32) (m_wins : Nat → Int32) (m_stored : Nat → Int32) (m_isStored : Nat → Int32) (m_storedAt : Int32) (m_isWriting : Int32) (r : Int32 × (Nat → Int32) × (Nat → Int32) × (Nat → Int32) × (Nat → Int32) × (Nat → Int32) × (Nat → Int32) × Int32 × (Nat → Int32) × (Nat → Int32) × (Nat → Int32) × Int32 × Int32 × Int32 × (Nat → Int32) × Int32 × Int32 × Int32 × Int32) (h : f_X9_refusal m_beat m_nick m_owner m_place m_kept m_heard m_chosen m_minutes m_pad m_padMany m_act m_who m_much m_heardMany m_wrongNow m_had m_badAct m_badWhy m_wrongAct m_wrongHeir = some r) : Kt l D T yX9_refusal cX9_refusal 1 (some .int) (5, 0, 0, 112) [.ref (a 0)] (wM T a m_beat m_nick m_owner m_place m_kept m_heard m_chosen m_minutes m_sightBeat m_sightOff m_sightIs m_sights m_pad m_padMany m_act m_who m_much m_acts m_heardMany m_wrongNow m_had m_badAct m_badWhy m_wrongAct m_wrongHeir m_odd m_span m_rise m_wins m_stored m_isStored m_storedAt m_isWriting) (FF (fun (r : Int32 × (Nat → Int32) × (Nat → Int32) × (Nat → Int32) × (Nat → Int32) × (Nat → Int32) × (Nat → Int32) × Int32 × (Nat → Int32) × (Nat → Int32) × (Nat → Int32) × Int32 × Int32 × Int32 × (Nat → Int32) × Int32 × Int32 × Int32 × Int32) => some (.int r.1)) (fun r => wM T a r.2.1 r.2.2.1 r.2.2.2.1 r.2.2.2.2.1 m_kept r.2.2.2.2.2.1 r.2.2.2.2.2.2.1 r.2.2.2.2.2.2.2.1 m_sightBeat m_sightOff m_sightIs m_sights m_pad m_padMany r.2.2.2.2.2.2.2.2.1 r.2.2.2.2.2.2.2.2.2.1 r.2.2.2.2.2.2.2.2.2.2.1 r.2.2.2.2.2.2.2.2.2.2.2.1 r.2.2.2.2.2.2.2.2.2.2.2.2.1 r.2.2.2.2.2.2.2.2.2.2.2.2.2.1 r.2.2.2.2.2.2.2.2.2.2.2.2.2.2.1 r.2.2.2.2.2.2.2.2.2.2.2.2.2.2.2.1 r.2.2.2.2.2.2.2.2.2.2.2.2.2.2.2.2.1 r.2.2.2.2.2.2.2.2.2.2.2.2.2.2.2.2.2.1 r.2.2.2.2.2.2.2.2.2.2.2.2.2.2.2.2.2.2 m_odd m_span m_rise m_wins m_stored m_isStored m_storedAt m_isWriting) r) := by
  refine kt_of (own := RX9) (nm := "refusal") (lv := [(0, .ref (a 0))]) (by decide) rfl rfl rfl (Nat.le_of_ble_eq_true rfl) h (fun X hn C M => ?_)
  have hnn : ((0, 0) : Nat × Nat).1 ≤ 0 ∧ ((0, 0) : Nat × Nat).2 ≤ 0 := ⟨Nat.le_refl 0, Nat.le_refl 0⟩
  unfold f_X9_refusal
  refine gg_aload_n C dX9_refusal_0 rfl 0 rfl ?_
  refine gg_callV C (fun l r h => c_X9_keepNow l D T a m_beat m_nick m_owner m_place m_kept m_heard m_chosen m_minutes m_sightBeat m_sightOff m_sightIs m_sights m_pad m_padMany m_act m_who m_much m_acts m_heardMany m_wrongNow m_had m_badAct m_badWhy m_wrongAct m_wrongHeir m_odd m_span m_rise m_wins m_stored m_isStored m_storedAt m_isWriting r h) lk_X9_180 ⟨by decide, by decide⟩ hnn rfl (rest := []) rfl (Nat.le_of_ble_eq_true rfl) 0 rfl rfl dX9_refusal_1 (ws2 := fun r1 => wM T a m_beat m_nick m_owner m_place m_kept m_heard m_chosen m_minutes m_sightBeat m_sightOff m_sightIs m_sights m_pad m_padMany m_act m_who m_much m_acts m_heardMany m_wrongNow r1 m_badAct m_badWhy m_wrongAct m_wrongHeir m_odd m_span m_rise m_wins m_stored m_isStored m_storedAt m_isWriting) (cut_full (fun _ => rfl)) (st2 := fun r1 => []) (fun _ => rfl) (fun r1 => ?_)
  refine gg_aload_n C dX9_refusal_4 rfl 0 rfl ?_
  refine gg_callV C (fun l r h => c_X9_fault l D T a m_beat m_nick m_owner m_place m_kept m_heard m_chosen m_minutes m_sightBeat m_sightOff m_sightIs m_sights m_pad m_padMany m_act m_who m_much m_acts m_heardMany m_wrongNow r1 m_badAct m_badWhy m_wrongAct m_wrongHeir m_odd m_span m_rise m_wins m_stored m_isStored m_storedAt m_isWriting r h) lk_X9_183 ⟨by decide, by decide⟩ hnn rfl (rest := []) rfl (Nat.le_of_ble_eq_true rfl) 0 rfl rfl dX9_refusal_5 (ws2 := fun r2 => wM T a m_beat m_nick m_owner m_place m_kept m_heard m_chosen m_minutes m_sightBeat m_sightOff m_sightIs m_sights m_pad m_padMany r2.2.1 r2.2.2.1 r2.2.2.2.1 r2.2.2.2.2 m_heardMany m_wrongNow r1 m_badAct m_badWhy m_wrongAct m_wrongHeir m_odd m_span m_rise m_wins m_stored m_isStored m_storedAt m_isWriting) (cut_full (fun _ => rfl)) (st2 := fun r2 => [.int r2.1]) (fun _ => rfl) (fun r2 => ?_)
  refine gg_if_lt C dX9_refusal_8 (tgt := 14) (by decide) (fun _ => ?_) (fun _ => ?_)
  · refine gg_aload_n C dX9_refusal_14 rfl 0 rfl ?_
    refine gg_callV C (fun l r h => c_X9_goHours l D T a m_beat m_nick m_owner m_place m_kept m_heard m_chosen m_minutes m_sightBeat m_sightOff m_sightIs m_sights m_pad m_padMany r2.2.1 r2.2.2.1 r2.2.2.2.1 r2.2.2.2.2 m_heardMany m_wrongNow r1 m_badAct m_badWhy m_wrongAct m_wrongHeir m_odd m_span m_rise m_wins m_stored m_isStored m_storedAt m_isWriting r h) lk_X9_187 ⟨by decide, by decide⟩ hnn rfl (rest := []) rfl (Nat.le_of_ble_eq_true rfl) 0 rfl rfl dX9_refusal_15 (ws2 := fun r3 => wM T a r3.1 r3.2.1 r3.2.2.1 r3.2.2.2.1 m_kept r3.2.2.2.2.1 r3.2.2.2.2.2.1 r3.2.2.2.2.2.2.1 m_sightBeat m_sightOff m_sightIs m_sights m_pad m_padMany r2.2.1 r2.2.2.1 r2.2.2.2.1 r2.2.2.2.2 r3.2.2.2.2.2.2.2.1 r3.2.2.2.2.2.2.2.2.1 r1 r3.2.2.2.2.2.2.2.2.2.1 r3.2.2.2.2.2.2.2.2.2.2.1 r3.2.2.2.2.2.2.2.2.2.2.2.1 r3.2.2.2.2.2.2.2.2.2.2.2.2 m_odd m_span m_rise m_wins m_stored m_isStored m_storedAt m_isWriting) (cut_full (fun _ => rfl)) (st2 := fun r3 => []) (fun _ => rfl) (fun r3 => ?_)
    refine gg_aload_n C dX9_refusal_18 rfl 0 rfl ?_
    refine gf_X9_167 C 0 rfl rfl dX9_refusal_19 ?_
    refine gg_if_lt C dX9_refusal_22 (tgt := 30) (by decide) (fun _ => ?_) (fun _ => ?_)
    · refine gg_bipush C dX9_refusal_30 kB_m6 ?_
      exact gg_iret C M dX9_refusal_32 ⟨rfl, rfl⟩
    · refine gg_bipush C dX9_refusal_25 kB_m3 ?_
      refine gg_goto C dX9_refusal_27 (tgt := 32) (by decide) ?_
      exact gg_iret C M dX9_refusal_32 ⟨rfl, rfl⟩
  · refine gg_bipush C dX9_refusal_11 kB_m5 ?_
    exact gg_iret C M dX9_refusal_13 ⟨rfl, rfl⟩
def f_X9_judge (m_beat : Nat → Int32) (m_nick : Nat → Int32) (m_owner : Nat → Int32) (m_place : Nat → Int32) (m_kept : Nat → Int32) (m_heard : Nat → Int32) (m_chosen : Nat → Int32) (m_minutes : Int32) (m_pad : Nat → Int32) (m_padMany : Int32) (m_act : Nat → Int32) (m_who : Nat → Int32) (m_much : Nat → Int32) (m_acts : Int32) (m_heardMany : Int32) (m_wrongNow : Int32) (m_had : Nat → Int32) (m_badAct : Int32) (m_badWhy : Int32) (m_wrongAct : Int32) (m_wrongHeir : Int32) (v1 : Int32) : Option (Int32 × (Nat → Int32) × (Nat → Int32) × (Nat → Int32) × (Nat → Int32) × (Nat → Int32) × (Nat → Int32) × Int32 × (Nat → Int32) × (Nat → Int32) × (Nat → Int32) × Int32 × Int32 × Int32 × (Nat → Int32) × Int32 × Int32 × Int32 × Int32) := jn (f_X9_in v1.toInt64 0 2) (fun r1 => if r1 = 0 then some ((-2), m_beat, m_nick, m_owner, m_place, m_heard, m_chosen, m_minutes, m_act, m_who, m_much, m_acts, m_heardMany, m_wrongNow, m_had, m_badAct, m_badWhy, m_wrongAct, m_wrongHeir) else jn (f_X9_refusal m_beat m_nick m_owner m_place m_kept m_heard m_chosen m_minutes m_pad m_padMany m_act m_who m_much m_heardMany m_wrongNow m_had m_badAct m_badWhy m_wrongAct m_wrongHeir) (fun r2 => jn (f_X9_back r2.2.1 r2.2.2.1 r2.2.2.2.1 r2.2.2.2.2.1 r2.2.2.2.2.2.1 r2.2.2.2.2.2.2.1 r2.2.2.2.2.2.2.2.2.2.2.2.2.2.2.1 r2.1) (fun r3 => if r3.1 = (-5) then some (r3.1, r3.2.1, r3.2.2.1, r3.2.2.2.1, r3.2.2.2.2.1, r3.2.2.2.2.2.1, r3.2.2.2.2.2.2.1, r3.2.2.2.2.2.2.2, r2.2.2.2.2.2.2.2.2.1, r2.2.2.2.2.2.2.2.2.2.1, r2.2.2.2.2.2.2.2.2.2.2.1, r2.2.2.2.2.2.2.2.2.2.2.2.1, r2.2.2.2.2.2.2.2.2.2.2.2.2.1, r2.2.2.2.2.2.2.2.2.2.2.2.2.2.1, r2.2.2.2.2.2.2.2.2.2.2.2.2.2.2.1, r2.2.2.2.2.2.2.2.2.2.2.2.2.2.2.2.1, r2.2.2.2.2.2.2.2.2.2.2.2.2.2.2.2.2.1, r2.2.2.2.2.2.2.2.2.2.2.2.2.2.2.2.2.2.1, r2.2.2.2.2.2.2.2.2.2.2.2.2.2.2.2.2.2.2) else if v1 ≤ 1 then if v1 = 0 then some (r2.2.2.2.2.2.2.2.2.2.2.2.2.2.2.2.1, r3.2.1, r3.2.2.1, r3.2.2.2.1, r3.2.2.2.2.1, r3.2.2.2.2.2.1, r3.2.2.2.2.2.2.1, r3.2.2.2.2.2.2.2, r2.2.2.2.2.2.2.2.2.1, r2.2.2.2.2.2.2.2.2.2.1, r2.2.2.2.2.2.2.2.2.2.2.1, r2.2.2.2.2.2.2.2.2.2.2.2.1, r2.2.2.2.2.2.2.2.2.2.2.2.2.1, r2.2.2.2.2.2.2.2.2.2.2.2.2.2.1, r2.2.2.2.2.2.2.2.2.2.2.2.2.2.2.1, r2.2.2.2.2.2.2.2.2.2.2.2.2.2.2.2.1, r2.2.2.2.2.2.2.2.2.2.2.2.2.2.2.2.2.1, r2.2.2.2.2.2.2.2.2.2.2.2.2.2.2.2.2.2.1, r2.2.2.2.2.2.2.2.2.2.2.2.2.2.2.2.2.2.2) else if v1 = 1 then some (r2.2.2.2.2.2.2.2.2.2.2.2.2.2.2.2.2.1, r3.2.1, r3.2.2.1, r3.2.2.2.1, r3.2.2.2.2.1, r3.2.2.2.2.2.1, r3.2.2.2.2.2.2.1, r3.2.2.2.2.2.2.2, r2.2.2.2.2.2.2.2.2.1, r2.2.2.2.2.2.2.2.2.2.1, r2.2.2.2.2.2.2.2.2.2.2.1, r2.2.2.2.2.2.2.2.2.2.2.2.1, r2.2.2.2.2.2.2.2.2.2.2.2.2.1, r2.2.2.2.2.2.2.2.2.2.2.2.2.2.1, r2.2.2.2.2.2.2.2.2.2.2.2.2.2.2.1, r2.2.2.2.2.2.2.2.2.2.2.2.2.2.2.2.1, r2.2.2.2.2.2.2.2.2.2.2.2.2.2.2.2.2.1, r2.2.2.2.2.2.2.2.2.2.2.2.2.2.2.2.2.2.1, r2.2.2.2.2.2.2.2.2.2.2.2.2.2.2.2.2.2.2) else some (r2.2.2.2.2.2.2.2.2.2.2.2.2.1, r3.2.1, r3.2.2.1, r3.2.2.2.1, r3.2.2.2.2.1, r3.2.2.2.2.2.1, r3.2.2.2.2.2.2.1, r3.2.2.2.2.2.2.2, r2.2.2.2.2.2.2.2.2.1, r2.2.2.2.2.2.2.2.2.2.1, r2.2.2.2.2.2.2.2.2.2.2.1, r2.2.2.2.2.2.2.2.2.2.2.2.1, r2.2.2.2.2.2.2.2.2.2.2.2.2.1, r2.2.2.2.2.2.2.2.2.2.2.2.2.2.1, r2.2.2.2.2.2.2.2.2.2.2.2.2.2.2.1, r2.2.2.2.2.2.2.2.2.2.2.2.2.2.2.2.1, r2.2.2.2.2.2.2.2.2.2.2.2.2.2.2.2.2.1, r2.2.2.2.2.2.2.2.2.2.2.2.2.2.2.2.2.2.1, r2.2.2.2.2.2.2.2.2.2.2.2.2.2.2.2.2.2.2) else if r3.1 = (-3) then some (r3.1, r3.2.1, r3.2.2.1, r3.2.2.2.1, r3.2.2.2.2.1, r3.2.2.2.2.2.1, r3.2.2.2.2.2.2.1, r3.2.2.2.2.2.2.2, r2.2.2.2.2.2.2.2.2.1, r2.2.2.2.2.2.2.2.2.2.1, r2.2.2.2.2.2.2.2.2.2.2.1, r2.2.2.2.2.2.2.2.2.2.2.2.1, r2.2.2.2.2.2.2.2.2.2.2.2.2.1, r2.2.2.2.2.2.2.2.2.2.2.2.2.2.1, r2.2.2.2.2.2.2.2.2.2.2.2.2.2.2.1, r2.2.2.2.2.2.2.2.2.2.2.2.2.2.2.2.1, r2.2.2.2.2.2.2.2.2.2.2.2.2.2.2.2.2.1, r2.2.2.2.2.2.2.2.2.2.2.2.2.2.2.2.2.2.1, r2.2.2.2.2.2.2.2.2.2.2.2.2.2.2.2.2.2.2) else if v1 = 0 then some (r2.2.2.2.2.2.2.2.2.2.2.2.2.2.2.2.1, r3.2.1, r3.2.2.1, r3.2.2.2.1, r3.2.2.2.2.1, r3.2.2.2.2.2.1, r3.2.2.2.2.2.2.1, r3.2.2.2.2.2.2.2, r2.2.2.2.2.2.2.2.2.1, r2.2.2.2.2.2.2.2.2.2.1, r2.2.2.2.2.2.2.2.2.2.2.1, r2.2.2.2.2.2.2.2.2.2.2.2.1, r2.2.2.2.2.2.2.2.2.2.2.2.2.1, r2.2.2.2.2.2.2.2.2.2.2.2.2.2.1, r2.2.2.2.2.2.2.2.2.2.2.2.2.2.2.1, r2.2.2.2.2.2.2.2.2.2.2.2.2.2.2.2.1, r2.2.2.2.2.2.2.2.2.2.2.2.2.2.2.2.2.1, r2.2.2.2.2.2.2.2.2.2.2.2.2.2.2.2.2.2.1, r2.2.2.2.2.2.2.2.2.2.2.2.2.2.2.2.2.2.2) else if v1 = 1 then some (r2.2.2.2.2.2.2.2.2.2.2.2.2.2.2.2.2.1, r3.2.1, r3.2.2.1, r3.2.2.2.1, r3.2.2.2.2.1, r3.2.2.2.2.2.1, r3.2.2.2.2.2.2.1, r3.2.2.2.2.2.2.2, r2.2.2.2.2.2.2.2.2.1, r2.2.2.2.2.2.2.2.2.2.1, r2.2.2.2.2.2.2.2.2.2.2.1, r2.2.2.2.2.2.2.2.2.2.2.2.1, r2.2.2.2.2.2.2.2.2.2.2.2.2.1, r2.2.2.2.2.2.2.2.2.2.2.2.2.2.1, r2.2.2.2.2.2.2.2.2.2.2.2.2.2.2.1, r2.2.2.2.2.2.2.2.2.2.2.2.2.2.2.2.1, r2.2.2.2.2.2.2.2.2.2.2.2.2.2.2.2.2.1, r2.2.2.2.2.2.2.2.2.2.2.2.2.2.2.2.2.2.1, r2.2.2.2.2.2.2.2.2.2.2.2.2.2.2.2.2.2.2) else some (r2.2.2.2.2.2.2.2.2.2.2.2.2.1, r3.2.1, r3.2.2.1, r3.2.2.2.1, r3.2.2.2.2.1, r3.2.2.2.2.2.1, r3.2.2.2.2.2.2.1, r3.2.2.2.2.2.2.2, r2.2.2.2.2.2.2.2.2.1, r2.2.2.2.2.2.2.2.2.2.1, r2.2.2.2.2.2.2.2.2.2.2.1, r2.2.2.2.2.2.2.2.2.2.2.2.1, r2.2.2.2.2.2.2.2.2.2.2.2.2.1, r2.2.2.2.2.2.2.2.2.2.2.2.2.2.1, r2.2.2.2.2.2.2.2.2.2.2.2.2.2.2.1, r2.2.2.2.2.2.2.2.2.2.2.2.2.2.2.2.1, r2.2.2.2.2.2.2.2.2.2.2.2.2.2.2.2.2.1, r2.2.2.2.2.2.2.2.2.2.2.2.2.2.2.2.2.2.1, r2.2.2.2.2.2.2.2.2.2.2.2.2.2.2.2.2.2.2))))
set_option maxHeartbeats 4000000 in
set_option maxRecDepth 100000 in
theorem c_X9_judge (l : Launch) (D : va_G) (T : Nat → ClassId) (a : Nat → Nat) (m_beat : Nat → Int32) (m_nick : Nat → Int32) (m_owner : Nat → Int32) (m_place : Nat → Int32) (m_kept : Nat → Int32) (m_heard : Nat → Int32) (m_chosen : Nat → Int32) (m_minutes : Int32) (m_sightBeat : Nat → Int32) (m_sightOff : Nat → Int32) (m_sightIs : Nat → Int32) (m_sights : Int32) (m_pad : Nat → Int32) (m_padMany : Int32) (m_act : Nat → Int32) (m_who : Nat → Int32) (m_much : Nat → Int32) (m_acts : Int32) (m_heardMany : Int32) (m_wrongNow : Int32) (m_had : Nat → Int32) (m_badAct : Int32) (m_badWhy : Int32) (m_wrongAct : Int32) (m_wrongHeir : Int32) (m_odd : Nat → Int32) (m_span : Nat → Int32) (m_rise : Nat → Int32) (m_wins : Nat → Int32) (m_stored : Nat → Int32) (m_isStored : Nat → Int32) (m_storedAt : Int32) (m_isWriting : Int32) (v1 : Int32) (r : Int32 × (Nat → Int32) × (Nat → Int32) × (Nat → Int32) × (Nat → Int32) × (Nat → Int32) × (Nat → Int32) × Int32 × (Nat → Int32) × (Nat → Int32) × (Nat → Int32) × Int32 × Int32 × Int32 × (Nat → Int32) × Int32 × Int32 × Int32 × Int32) (h : f_X9_judge m_beat m_nick m_owner m_place m_kept m_heard m_chosen m_minutes m_pad m_padMany m_act m_who m_much m_acts m_heardMany m_wrongNow m_had m_badAct m_badWhy m_wrongAct m_wrongHeir v1 = some r) : Kt l D T yX9_judge cX9_judge 3 (some .int) (6, 0, 0, 132) [.ref (a 0), .int v1] (wM T a m_beat m_nick m_owner m_place m_kept m_heard m_chosen m_minutes m_sightBeat m_sightOff m_sightIs m_sights m_pad m_padMany m_act m_who m_much m_acts m_heardMany m_wrongNow m_had m_badAct m_badWhy m_wrongAct m_wrongHeir m_odd m_span m_rise m_wins m_stored m_isStored m_storedAt m_isWriting) (FF (fun (r : Int32 × (Nat → Int32) × (Nat → Int32) × (Nat → Int32) × (Nat → Int32) × (Nat → Int32) × (Nat → Int32) × Int32 × (Nat → Int32) × (Nat → Int32) × (Nat → Int32) × Int32 × Int32 × Int32 × (Nat → Int32) × Int32 × Int32 × Int32 × Int32) => some (.int r.1)) (fun r => wM T a r.2.1 r.2.2.1 r.2.2.2.1 r.2.2.2.2.1 m_kept r.2.2.2.2.2.1 r.2.2.2.2.2.2.1 r.2.2.2.2.2.2.2.1 m_sightBeat m_sightOff m_sightIs m_sights m_pad m_padMany r.2.2.2.2.2.2.2.2.1 r.2.2.2.2.2.2.2.2.2.1 r.2.2.2.2.2.2.2.2.2.2.1 r.2.2.2.2.2.2.2.2.2.2.2.1 r.2.2.2.2.2.2.2.2.2.2.2.2.1 r.2.2.2.2.2.2.2.2.2.2.2.2.2.1 r.2.2.2.2.2.2.2.2.2.2.2.2.2.2.1 r.2.2.2.2.2.2.2.2.2.2.2.2.2.2.2.1 r.2.2.2.2.2.2.2.2.2.2.2.2.2.2.2.2.1 r.2.2.2.2.2.2.2.2.2.2.2.2.2.2.2.2.2.1 r.2.2.2.2.2.2.2.2.2.2.2.2.2.2.2.2.2.2 m_odd m_span m_rise m_wins m_stored m_isStored m_storedAt m_isWriting) r) := by
  refine kt_of (own := RX9) (nm := "judge") (lv := [(0, .ref (a 0)), (1, .int v1)]) (by decide) rfl rfl rfl (Nat.le_of_ble_eq_true rfl) h (fun X hn C M => ?_)
  have hnn : ((0, 0) : Nat × Nat).1 ≤ 0 ∧ ((0, 0) : Nat × Nat).2 ≤ 0 := ⟨Nat.le_refl 0, Nat.le_refl 0⟩
  unfold f_X9_judge
  refine gg_iload_n C dX9_judge_0 rfl 1 rfl ?_
  refine gg_i2l C dX9_judge_1 ?_
  refine gg_lconst C dX9_judge_2 (v := 0) (by decide) ?_
  refine gg_ldc2 C tw_702 dX9_judge_3 ?_
  refine gg_callS C (fun l r h => c_X9_in l D T v1.toInt64 0 2 r h) lk_X9_76 ⟨by decide, by decide⟩ hnn rfl (rest := []) rfl (Nat.le_of_ble_eq_true rfl) dX9_judge_6 cut_none (st2 := fun r1 => [.int r1]) (fun _ => rfl) (fun r1 => ?_)
  refine gg_if_ne C dX9_judge_9 (tgt := 15) (by decide) (fun _ => ?_) (fun _ => ?_)
  · refine gg_aload_n C dX9_judge_15 rfl 0 rfl ?_
    refine gg_aload_n C dX9_judge_16 rfl 0 rfl ?_
    refine gg_callV C (fun l r h => c_X9_refusal l D T a m_beat m_nick m_owner m_place m_kept m_heard m_chosen m_minutes m_sightBeat m_sightOff m_sightIs m_sights m_pad m_padMany m_act m_who m_much m_acts m_heardMany m_wrongNow m_had m_badAct m_badWhy m_wrongAct m_wrongHeir m_odd m_span m_rise m_wins m_stored m_isStored m_storedAt m_isWriting r h) lk_X9_192 ⟨by decide, by decide⟩ hnn rfl (rest := [.ref (a 0)]) rfl (Nat.le_of_ble_eq_true rfl) 0 rfl rfl dX9_judge_17 (ws2 := fun r2 => wM T a r2.2.1 r2.2.2.1 r2.2.2.2.1 r2.2.2.2.2.1 m_kept r2.2.2.2.2.2.1 r2.2.2.2.2.2.2.1 r2.2.2.2.2.2.2.2.1 m_sightBeat m_sightOff m_sightIs m_sights m_pad m_padMany r2.2.2.2.2.2.2.2.2.1 r2.2.2.2.2.2.2.2.2.2.1 r2.2.2.2.2.2.2.2.2.2.2.1 r2.2.2.2.2.2.2.2.2.2.2.2.1 r2.2.2.2.2.2.2.2.2.2.2.2.2.1 r2.2.2.2.2.2.2.2.2.2.2.2.2.2.1 r2.2.2.2.2.2.2.2.2.2.2.2.2.2.2.1 r2.2.2.2.2.2.2.2.2.2.2.2.2.2.2.2.1 r2.2.2.2.2.2.2.2.2.2.2.2.2.2.2.2.2.1 r2.2.2.2.2.2.2.2.2.2.2.2.2.2.2.2.2.2.1 r2.2.2.2.2.2.2.2.2.2.2.2.2.2.2.2.2.2.2 m_odd m_span m_rise m_wins m_stored m_isStored m_storedAt m_isWriting) (cut_full (fun _ => rfl)) (st2 := fun r2 => [.int r2.1, .ref (a 0)]) (fun _ => rfl) (fun r2 => ?_)
    refine gg_callV C (fun l r h => c_X9_back l D T a r2.2.1 r2.2.2.1 r2.2.2.2.1 r2.2.2.2.2.1 m_kept r2.2.2.2.2.2.1 r2.2.2.2.2.2.2.1 r2.2.2.2.2.2.2.2.1 m_sightBeat m_sightOff m_sightIs m_sights m_pad m_padMany r2.2.2.2.2.2.2.2.2.1 r2.2.2.2.2.2.2.2.2.2.1 r2.2.2.2.2.2.2.2.2.2.2.1 r2.2.2.2.2.2.2.2.2.2.2.2.1 r2.2.2.2.2.2.2.2.2.2.2.2.2.1 r2.2.2.2.2.2.2.2.2.2.2.2.2.2.1 r2.2.2.2.2.2.2.2.2.2.2.2.2.2.2.1 r2.2.2.2.2.2.2.2.2.2.2.2.2.2.2.2.1 r2.2.2.2.2.2.2.2.2.2.2.2.2.2.2.2.2.1 r2.2.2.2.2.2.2.2.2.2.2.2.2.2.2.2.2.2.1 r2.2.2.2.2.2.2.2.2.2.2.2.2.2.2.2.2.2.2 m_odd m_span m_rise m_wins m_stored m_isStored m_storedAt m_isWriting r2.1 r h) lk_X9_195 ⟨by decide, by decide⟩ hnn rfl (rest := []) rfl (Nat.le_of_ble_eq_true rfl) 0 rfl rfl dX9_judge_20 (ws2 := fun r3 => wM T a r3.2.1 r3.2.2.1 r3.2.2.2.1 r3.2.2.2.2.1 m_kept r3.2.2.2.2.2.1 r3.2.2.2.2.2.2.1 r3.2.2.2.2.2.2.2 m_sightBeat m_sightOff m_sightIs m_sights m_pad m_padMany r2.2.2.2.2.2.2.2.2.1 r2.2.2.2.2.2.2.2.2.2.1 r2.2.2.2.2.2.2.2.2.2.2.1 r2.2.2.2.2.2.2.2.2.2.2.2.1 r2.2.2.2.2.2.2.2.2.2.2.2.2.1 r2.2.2.2.2.2.2.2.2.2.2.2.2.2.1 r2.2.2.2.2.2.2.2.2.2.2.2.2.2.2.1 r2.2.2.2.2.2.2.2.2.2.2.2.2.2.2.2.1 r2.2.2.2.2.2.2.2.2.2.2.2.2.2.2.2.2.1 r2.2.2.2.2.2.2.2.2.2.2.2.2.2.2.2.2.2.1 r2.2.2.2.2.2.2.2.2.2.2.2.2.2.2.2.2.2.2 m_odd m_span m_rise m_wins m_stored m_isStored m_storedAt m_isWriting) (cut_full (fun _ => rfl)) (st2 := fun r3 => [.int r3.1]) (fun _ => rfl) (fun r3 => ?_)
    refine gg_istore_n C dX9_judge_23 rfl hn (by decide) (lv' := [(2, .int r3.1), (0, .ref (a 0)), (1, .int v1)]) rfl ?_
    refine gg_iload_n C dX9_judge_24 rfl 0 rfl ?_
    refine gg_bipush C dX9_judge_25 kB_m5 ?_
    refine gg_icmp_eq C dX9_judge_27 (tgt := 41) (by decide) (fun _ => ?_) (fun _ => ?_)
    · refine gg_iload_n C dX9_judge_41 rfl 0 rfl ?_
      exact gg_iret C M dX9_judge_42 ⟨rfl, rfl⟩
    · refine gg_iload_n C dX9_judge_30 rfl 2 rfl ?_
      refine gg_iconst C dX9_judge_31 kI_1 ?_
      refine gg_icmp_le C dX9_judge_32 (tgt := 43) (by decide) (fun _ => ?_) (fun _ => ?_)
      · refine gg_iload_n C dX9_judge_43 rfl 2 rfl ?_
        refine gg_if_ne C dX9_judge_44 (tgt := 54) (by decide) (fun _ => ?_) (fun _ => ?_)
        · refine gg_iload_n C dX9_judge_54 rfl 2 rfl ?_
          refine gg_iconst C dX9_judge_55 kI_1 ?_
          refine gg_icmp_ne C dX9_judge_56 (tgt := 66) (by decide) (fun _ => ?_) (fun _ => ?_)
          · refine gg_aload_n C dX9_judge_66 rfl 1 rfl ?_
            refine gf_X9_135 C 0 rfl rfl dX9_judge_67 ?_
            exact gg_iret C M dX9_judge_70 ⟨rfl, rfl⟩
          · refine gg_aload_n C dX9_judge_59 rfl 1 rfl ?_
            refine gf_X9_170 C 0 rfl rfl dX9_judge_60 ?_
            refine gg_goto C dX9_judge_63 (tgt := 70) (by decide) ?_
            exact gg_iret C M dX9_judge_70 ⟨rfl, rfl⟩
        · refine gg_aload_n C dX9_judge_47 rfl 1 rfl ?_
          refine gf_X9_167 C 0 rfl rfl dX9_judge_48 ?_
          refine gg_goto C dX9_judge_51 (tgt := 70) (by decide) ?_
          exact gg_iret C M dX9_judge_70 ⟨rfl, rfl⟩
      · refine gg_iload_n C dX9_judge_35 rfl 0 rfl ?_
        refine gg_bipush C dX9_judge_36 kB_m3 ?_
        refine gg_icmp_ne C dX9_judge_38 (tgt := 43) (by decide) (fun _ => ?_) (fun _ => ?_)
        · refine gg_iload_n C dX9_judge_43 rfl 2 rfl ?_
          refine gg_if_ne C dX9_judge_44 (tgt := 54) (by decide) (fun _ => ?_) (fun _ => ?_)
          · refine gg_iload_n C dX9_judge_54 rfl 2 rfl ?_
            refine gg_iconst C dX9_judge_55 kI_1 ?_
            refine gg_icmp_ne C dX9_judge_56 (tgt := 66) (by decide) (fun _ => ?_) (fun _ => ?_)
            · refine gg_aload_n C dX9_judge_66 rfl 1 rfl ?_
              refine gf_X9_135 C 0 rfl rfl dX9_judge_67 ?_
              exact gg_iret C M dX9_judge_70 ⟨rfl, rfl⟩
            · refine gg_aload_n C dX9_judge_59 rfl 1 rfl ?_
              refine gf_X9_170 C 0 rfl rfl dX9_judge_60 ?_
              refine gg_goto C dX9_judge_63 (tgt := 70) (by decide) ?_
              exact gg_iret C M dX9_judge_70 ⟨rfl, rfl⟩
          · refine gg_aload_n C dX9_judge_47 rfl 1 rfl ?_
            refine gf_X9_167 C 0 rfl rfl dX9_judge_48 ?_
            refine gg_goto C dX9_judge_51 (tgt := 70) (by decide) ?_
            exact gg_iret C M dX9_judge_70 ⟨rfl, rfl⟩
        · refine gg_iload_n C dX9_judge_41 rfl 0 rfl ?_
          exact gg_iret C M dX9_judge_42 ⟨rfl, rfl⟩
  · refine gg_bipush C dX9_judge_12 kB_m2 ?_
    exact gg_iret C M dX9_judge_14 ⟨rfl, rfl⟩
def f_X9_behind (m_beat : Nat → Int32) (m_nick : Nat → Int32) (m_owner : Nat → Int32) (m_place : Nat → Int32) (m_kept : Nat → Int32) (m_heard : Nat → Int32) (m_chosen : Nat → Int32) (m_minutes : Int32) (m_pad : Nat → Int32) (m_padMany : Int32) (m_act : Nat → Int32) (m_who : Nat → Int32) (m_much : Nat → Int32) (m_acts : Int32) (m_heardMany : Int32) (m_wrongNow : Int32) (m_had : Nat → Int32) (m_badAct : Int32) (m_badWhy : Int32) (m_wrongAct : Int32) (m_wrongHeir : Int32) (v1 : Int32) (v2 : Int32) : Option (Int32 × (Nat → Int32) × (Nat → Int32) × (Nat → Int32) × (Nat → Int32) × (Nat → Int32) × (Nat → Int32) × Int32 × (Nat → Int32) × (Nat → Int32) × (Nat → Int32) × Int32 × Int32 × Int32 × (Nat → Int32) × Int32 × Int32 × Int32 × Int32) := jn (f_X9_isHeir v1) (fun r1 => if r1 = 0 then some ((-1), m_beat, m_nick, m_owner, m_place, m_heard, m_chosen, m_minutes, m_act, m_who, m_much, m_acts, m_heardMany, m_wrongNow, m_had, m_badAct, m_badWhy, m_wrongAct, m_wrongHeir) else jn (f_X9_in v2.toInt64 0 2) (fun r2 => if r2 = 0 then some ((-2), m_beat, m_nick, m_owner, m_place, m_heard, m_chosen, m_minutes, m_act, m_who, m_much, m_acts, m_heardMany, m_wrongNow, m_had, m_badAct, m_badWhy, m_wrongAct, m_wrongHeir) else jn (f_X9_refusal m_beat m_nick m_owner m_place m_kept m_heard m_chosen m_minutes m_pad m_padMany m_act m_who m_much m_heardMany m_wrongNow m_had m_badAct m_badWhy m_wrongAct m_wrongHeir) (fun r3 => jn (α := Int32) (if r3.1 = (-6) then if v2 = 0 then gu v1 6 (some (r3.2.2.2.2.1 v1.toNatClampNeg)) else if v2 = 1 then gu v1 6 (some (r3.2.2.2.2.2.1 v1.toNatClampNeg)) else gu v1 6 (some (r3.2.2.2.2.2.2.1 v1.toNatClampNeg)) else some r3.1) (fun z4 => jn (f_X9_back r3.2.1 r3.2.2.1 r3.2.2.2.1 r3.2.2.2.2.1 r3.2.2.2.2.2.1 r3.2.2.2.2.2.2.1 r3.2.2.2.2.2.2.2.2.2.2.2.2.2.2.1 z4) (fun r6 => some (r6.1, r6.2.1, r6.2.2.1, r6.2.2.2.1, r6.2.2.2.2.1, r6.2.2.2.2.2.1, r6.2.2.2.2.2.2.1, r6.2.2.2.2.2.2.2, r3.2.2.2.2.2.2.2.2.1, r3.2.2.2.2.2.2.2.2.2.1, r3.2.2.2.2.2.2.2.2.2.2.1, r3.2.2.2.2.2.2.2.2.2.2.2.1, r3.2.2.2.2.2.2.2.2.2.2.2.2.1, r3.2.2.2.2.2.2.2.2.2.2.2.2.2.1, r3.2.2.2.2.2.2.2.2.2.2.2.2.2.2.1, r3.2.2.2.2.2.2.2.2.2.2.2.2.2.2.2.1, r3.2.2.2.2.2.2.2.2.2.2.2.2.2.2.2.2.1, r3.2.2.2.2.2.2.2.2.2.2.2.2.2.2.2.2.2.1, r3.2.2.2.2.2.2.2.2.2.2.2.2.2.2.2.2.2.2))))))
set_option maxHeartbeats 4000000 in
set_option maxRecDepth 100000 in
theorem c_X9_behind (l : Launch) (D : va_G) (T : Nat → ClassId) (a : Nat → Nat) (m_beat : Nat → Int32) (m_nick : Nat → Int32) (m_owner : Nat → Int32) (m_place : Nat → Int32) (m_kept : Nat → Int32) (m_heard : Nat → Int32) (m_chosen : Nat → Int32) (m_minutes : Int32) (m_sightBeat : Nat → Int32) (m_sightOff : Nat → Int32) (m_sightIs : Nat → Int32) (m_sights : Int32) (m_pad : Nat → Int32) (m_padMany : Int32) (m_act : Nat → Int32) (m_who : Nat → Int32) (m_much : Nat → Int32) (m_acts : Int32) (m_heardMany : Int32) (m_wrongNow : Int32) (m_had : Nat → Int32) (m_badAct : Int32) (m_badWhy : Int32) (m_wrongAct : Int32) (m_wrongHeir : Int32) (m_odd : Nat → Int32) (m_span : Nat → Int32) (m_rise : Nat → Int32) (m_wins : Nat → Int32) (m_stored : Nat → Int32) (m_isStored : Nat → Int32) (m_storedAt : Int32) (m_isWriting : Int32) (v1 : Int32) (v2 : Int32) (r : Int32 × (Nat → Int32) × (Nat → Int32) × (Nat → Int32) × (Nat → Int32) × (Nat → Int32) × (Nat → Int32) × Int32 × (Nat → Int32) × (Nat → Int32) × (Nat → Int32) × Int32 × Int32 × Int32 × (Nat → Int32) × Int32 × Int32 × Int32 × Int32) (h : f_X9_behind m_beat m_nick m_owner m_place m_kept m_heard m_chosen m_minutes m_pad m_padMany m_act m_who m_much m_acts m_heardMany m_wrongNow m_had m_badAct m_badWhy m_wrongAct m_wrongHeir v1 v2 = some r) : Kt l D T yX9_behind cX9_behind 4 (some .int) (6, 0, 0, 132) [.ref (a 0), .int v1, .int v2] (wM T a m_beat m_nick m_owner m_place m_kept m_heard m_chosen m_minutes m_sightBeat m_sightOff m_sightIs m_sights m_pad m_padMany m_act m_who m_much m_acts m_heardMany m_wrongNow m_had m_badAct m_badWhy m_wrongAct m_wrongHeir m_odd m_span m_rise m_wins m_stored m_isStored m_storedAt m_isWriting) (FF (fun (r : Int32 × (Nat → Int32) × (Nat → Int32) × (Nat → Int32) × (Nat → Int32) × (Nat → Int32) × (Nat → Int32) × Int32 × (Nat → Int32) × (Nat → Int32) × (Nat → Int32) × Int32 × Int32 × Int32 × (Nat → Int32) × Int32 × Int32 × Int32 × Int32) => some (.int r.1)) (fun r => wM T a r.2.1 r.2.2.1 r.2.2.2.1 r.2.2.2.2.1 m_kept r.2.2.2.2.2.1 r.2.2.2.2.2.2.1 r.2.2.2.2.2.2.2.1 m_sightBeat m_sightOff m_sightIs m_sights m_pad m_padMany r.2.2.2.2.2.2.2.2.1 r.2.2.2.2.2.2.2.2.2.1 r.2.2.2.2.2.2.2.2.2.2.1 r.2.2.2.2.2.2.2.2.2.2.2.1 r.2.2.2.2.2.2.2.2.2.2.2.2.1 r.2.2.2.2.2.2.2.2.2.2.2.2.2.1 r.2.2.2.2.2.2.2.2.2.2.2.2.2.2.1 r.2.2.2.2.2.2.2.2.2.2.2.2.2.2.2.1 r.2.2.2.2.2.2.2.2.2.2.2.2.2.2.2.2.1 r.2.2.2.2.2.2.2.2.2.2.2.2.2.2.2.2.2.1 r.2.2.2.2.2.2.2.2.2.2.2.2.2.2.2.2.2.2 m_odd m_span m_rise m_wins m_stored m_isStored m_storedAt m_isWriting) r) := by
  refine kt_of (own := RX9) (nm := "behind") (lv := [(0, .ref (a 0)), (1, .int v1), (2, .int v2)]) (by decide) rfl rfl rfl (Nat.le_of_ble_eq_true rfl) h (fun X hn C M => ?_)
  have hnn : ((0, 0) : Nat × Nat).1 ≤ 0 ∧ ((0, 0) : Nat × Nat).2 ≤ 0 := ⟨Nat.le_refl 0, Nat.le_refl 0⟩
  unfold f_X9_behind
  refine gg_iload_n C dX9_behind_0 rfl 1 rfl ?_
  refine gg_callS C (fun l r h => c_X9_isHeir l D T v1 r h) lk_X9_90 ⟨by decide, by decide⟩ hnn rfl (rest := []) rfl (Nat.le_of_ble_eq_true rfl) dX9_behind_1 cut_none (st2 := fun r1 => [.int r1]) (fun _ => rfl) (fun r1 => ?_)
  refine gg_if_ne C dX9_behind_4 (tgt := 9) (by decide) (fun _ => ?_) (fun _ => ?_)
  · refine gg_iload_n C dX9_behind_9 rfl 2 rfl ?_
    refine gg_i2l C dX9_behind_10 ?_
    refine gg_lconst C dX9_behind_11 (v := 0) (by decide) ?_
    refine gg_ldc2 C tw_702 dX9_behind_12 ?_
    refine gg_callS C (fun l r h => c_X9_in l D T v2.toInt64 0 2 r h) lk_X9_76 ⟨by decide, by decide⟩ hnn rfl (rest := []) rfl (Nat.le_of_ble_eq_true rfl) dX9_behind_15 cut_none (st2 := fun r2 => [.int r2]) (fun _ => rfl) (fun r2 => ?_)
    refine gg_if_ne C dX9_behind_18 (tgt := 24) (by decide) (fun _ => ?_) (fun _ => ?_)
    · refine gg_aload_n C dX9_behind_24 rfl 0 rfl ?_
      refine gg_callV C (fun l r h => c_X9_refusal l D T a m_beat m_nick m_owner m_place m_kept m_heard m_chosen m_minutes m_sightBeat m_sightOff m_sightIs m_sights m_pad m_padMany m_act m_who m_much m_acts m_heardMany m_wrongNow m_had m_badAct m_badWhy m_wrongAct m_wrongHeir m_odd m_span m_rise m_wins m_stored m_isStored m_storedAt m_isWriting r h) lk_X9_192 ⟨by decide, by decide⟩ hnn rfl (rest := []) rfl (Nat.le_of_ble_eq_true rfl) 0 rfl rfl dX9_behind_25 (ws2 := fun r3 => wM T a r3.2.1 r3.2.2.1 r3.2.2.2.1 r3.2.2.2.2.1 m_kept r3.2.2.2.2.2.1 r3.2.2.2.2.2.2.1 r3.2.2.2.2.2.2.2.1 m_sightBeat m_sightOff m_sightIs m_sights m_pad m_padMany r3.2.2.2.2.2.2.2.2.1 r3.2.2.2.2.2.2.2.2.2.1 r3.2.2.2.2.2.2.2.2.2.2.1 r3.2.2.2.2.2.2.2.2.2.2.2.1 r3.2.2.2.2.2.2.2.2.2.2.2.2.1 r3.2.2.2.2.2.2.2.2.2.2.2.2.2.1 r3.2.2.2.2.2.2.2.2.2.2.2.2.2.2.1 r3.2.2.2.2.2.2.2.2.2.2.2.2.2.2.2.1 r3.2.2.2.2.2.2.2.2.2.2.2.2.2.2.2.2.1 r3.2.2.2.2.2.2.2.2.2.2.2.2.2.2.2.2.2.1 r3.2.2.2.2.2.2.2.2.2.2.2.2.2.2.2.2.2.2 m_odd m_span m_rise m_wins m_stored m_isStored m_storedAt m_isWriting) (cut_full (fun _ => rfl)) (st2 := fun r3 => [.int r3.1]) (fun _ => rfl) (fun r3 => ?_)
      refine gg_istore_n C dX9_behind_28 rfl hn (by decide) (lv' := [(3, .int r3.1), (0, .ref (a 0)), (1, .int v1), (2, .int v2)]) rfl ?_
      refine gg_aload_n C dX9_behind_29 rfl 1 rfl ?_
      refine gg_iload_n C dX9_behind_30 rfl 0 rfl ?_
      refine gg_bipush C dX9_behind_31 kB_m6 ?_
      refine gg_join (α := Int32) 73 (fun z4 => wM T a r3.2.1 r3.2.2.1 r3.2.2.2.1 r3.2.2.2.2.1 m_kept r3.2.2.2.2.2.1 r3.2.2.2.2.2.2.1 r3.2.2.2.2.2.2.2.1 m_sightBeat m_sightOff m_sightIs m_sights m_pad m_padMany r3.2.2.2.2.2.2.2.2.1 r3.2.2.2.2.2.2.2.2.2.1 r3.2.2.2.2.2.2.2.2.2.2.1 r3.2.2.2.2.2.2.2.2.2.2.2.1 r3.2.2.2.2.2.2.2.2.2.2.2.2.1 r3.2.2.2.2.2.2.2.2.2.2.2.2.2.1 r3.2.2.2.2.2.2.2.2.2.2.2.2.2.2.1 r3.2.2.2.2.2.2.2.2.2.2.2.2.2.2.2.1 r3.2.2.2.2.2.2.2.2.2.2.2.2.2.2.2.2.1 r3.2.2.2.2.2.2.2.2.2.2.2.2.2.2.2.2.2.1 r3.2.2.2.2.2.2.2.2.2.2.2.2.2.2.2.2.2.2 m_odd m_span m_rise m_wins m_stored m_isStored m_storedAt m_isWriting) (fun z4 => [(0, .ref (a 0)), (1, .int v1), (2, .int v2), (3, .int r3.1)]) (fun z4 => [.int z4, .ref (a 0)]) (fun z4 => ?_) (fun K5 => ?_)
      · refine gg_callV C (fun l r h => c_X9_back l D T a r3.2.1 r3.2.2.1 r3.2.2.2.1 r3.2.2.2.2.1 m_kept r3.2.2.2.2.2.1 r3.2.2.2.2.2.2.1 r3.2.2.2.2.2.2.2.1 m_sightBeat m_sightOff m_sightIs m_sights m_pad m_padMany r3.2.2.2.2.2.2.2.2.1 r3.2.2.2.2.2.2.2.2.2.1 r3.2.2.2.2.2.2.2.2.2.2.1 r3.2.2.2.2.2.2.2.2.2.2.2.1 r3.2.2.2.2.2.2.2.2.2.2.2.2.1 r3.2.2.2.2.2.2.2.2.2.2.2.2.2.1 r3.2.2.2.2.2.2.2.2.2.2.2.2.2.2.1 r3.2.2.2.2.2.2.2.2.2.2.2.2.2.2.2.1 r3.2.2.2.2.2.2.2.2.2.2.2.2.2.2.2.2.1 r3.2.2.2.2.2.2.2.2.2.2.2.2.2.2.2.2.2.1 r3.2.2.2.2.2.2.2.2.2.2.2.2.2.2.2.2.2.2 m_odd m_span m_rise m_wins m_stored m_isStored m_storedAt m_isWriting z4 r h) lk_X9_195 ⟨by decide, by decide⟩ hnn rfl (rest := []) rfl (Nat.le_of_ble_eq_true rfl) 0 rfl rfl dX9_behind_73 (ws2 := fun r6 => wM T a r6.2.1 r6.2.2.1 r6.2.2.2.1 r6.2.2.2.2.1 m_kept r6.2.2.2.2.2.1 r6.2.2.2.2.2.2.1 r6.2.2.2.2.2.2.2 m_sightBeat m_sightOff m_sightIs m_sights m_pad m_padMany r3.2.2.2.2.2.2.2.2.1 r3.2.2.2.2.2.2.2.2.2.1 r3.2.2.2.2.2.2.2.2.2.2.1 r3.2.2.2.2.2.2.2.2.2.2.2.1 r3.2.2.2.2.2.2.2.2.2.2.2.2.1 r3.2.2.2.2.2.2.2.2.2.2.2.2.2.1 r3.2.2.2.2.2.2.2.2.2.2.2.2.2.2.1 r3.2.2.2.2.2.2.2.2.2.2.2.2.2.2.2.1 r3.2.2.2.2.2.2.2.2.2.2.2.2.2.2.2.2.1 r3.2.2.2.2.2.2.2.2.2.2.2.2.2.2.2.2.2.1 r3.2.2.2.2.2.2.2.2.2.2.2.2.2.2.2.2.2.2 m_odd m_span m_rise m_wins m_stored m_isStored m_storedAt m_isWriting) (cut_full (fun _ => rfl)) (st2 := fun r6 => [.int r6.1]) (fun _ => rfl) (fun r6 => ?_)
        exact gg_iret C M dX9_behind_76 ⟨rfl, rfl⟩
      · refine gg_icmp_eq C dX9_behind_33 (tgt := 40) (by decide) (fun _ => ?_) (fun _ => ?_)
        · refine gg_iload_n C dX9_behind_40 rfl 3 rfl ?_
          refine gg_if_ne C dX9_behind_41 (tgt := 53) (by decide) (fun _ => ?_) (fun _ => ?_)
          · refine gg_iload_n C dX9_behind_53 rfl 3 rfl ?_
            refine gg_iconst C dX9_behind_54 kI_1 ?_
            refine gg_icmp_ne C dX9_behind_55 (tgt := 67) (by decide) (fun _ => ?_) (fun _ => ?_)
            · refine gg_aload_n C dX9_behind_67 rfl 1 rfl ?_
              refine gf_X9_28 C 0 rfl rfl dX9_behind_68 ?_
              refine gg_iload_n C dX9_behind_71 rfl 2 rfl ?_
              refine gg_iald C 7 rfl dX9_behind_72 ?_
              refine gg_sub [1, 2, 3, 0] rfl ?_
              exact K5 (r3.2.2.2.2.2.2.1 v1.toNatClampNeg)
            · refine gg_aload_n C dX9_behind_58 rfl 1 rfl ?_
              refine gf_X9_25 C 0 rfl rfl dX9_behind_59 ?_
              refine gg_iload_n C dX9_behind_62 rfl 2 rfl ?_
              refine gg_iald C 6 rfl dX9_behind_63 ?_
              refine gg_goto C dX9_behind_64 (tgt := 73) (by decide) ?_
              refine gg_sub [1, 2, 3, 0] rfl ?_
              exact K5 (r3.2.2.2.2.2.1 v1.toNatClampNeg)
          · refine gg_aload_n C dX9_behind_44 rfl 1 rfl ?_
            refine gf_X9_19 C 0 rfl rfl dX9_behind_45 ?_
            refine gg_iload_n C dX9_behind_48 rfl 2 rfl ?_
            refine gg_iald C 4 rfl dX9_behind_49 ?_
            refine gg_goto C dX9_behind_50 (tgt := 73) (by decide) ?_
            refine gg_sub [1, 2, 3, 0] rfl ?_
            exact K5 (r3.2.2.2.2.1 v1.toNatClampNeg)
        · refine gg_iload_n C dX9_behind_36 rfl 0 rfl ?_
          refine gg_goto C dX9_behind_37 (tgt := 73) (by decide) ?_
          refine gg_sub [1, 2, 3, 0] rfl ?_
          exact K5 r3.1
    · refine gg_bipush C dX9_behind_21 kB_m2 ?_
      exact gg_iret C M dX9_behind_23 ⟨rfl, rfl⟩
  · refine gg_iconst C dX9_behind_7 kI_m1 ?_
    exact gg_iret C M dX9_behind_8 ⟨rfl, rfl⟩
def f_X9_stands (m_beat : Nat → Int32) (m_nick : Nat → Int32) (m_owner : Nat → Int32) (m_place : Nat → Int32) (m_kept : Nat → Int32) (m_heard : Nat → Int32) (m_chosen : Nat → Int32) (m_minutes : Int32) (m_pad : Nat → Int32) (m_padMany : Int32) (m_act : Nat → Int32) (m_who : Nat → Int32) (m_much : Nat → Int32) (m_acts : Int32) (m_heardMany : Int32) (m_wrongNow : Int32) (m_had : Nat → Int32) (m_badAct : Int32) (m_badWhy : Int32) (m_wrongAct : Int32) (m_wrongHeir : Int32) (v1 : Int32) (v2 : Int32) : Option (Int32 × (Nat → Int32) × (Nat → Int32) × (Nat → Int32) × (Nat → Int32) × (Nat → Int32) × (Nat → Int32) × Int32 × (Nat → Int32) × (Nat → Int32) × (Nat → Int32) × Int32 × Int32 × Int32 × (Nat → Int32) × Int32 × Int32 × Int32 × Int32) := jn (f_X9_isPlace v1) (fun r1 => if r1 = 0 then some ((-1), m_beat, m_nick, m_owner, m_place, m_heard, m_chosen, m_minutes, m_act, m_who, m_much, m_acts, m_heardMany, m_wrongNow, m_had, m_badAct, m_badWhy, m_wrongAct, m_wrongHeir) else jn (f_X9_in v2.toInt64 0 2) (fun r2 => if r2 = 0 then some ((-2), m_beat, m_nick, m_owner, m_place, m_heard, m_chosen, m_minutes, m_act, m_who, m_much, m_acts, m_heardMany, m_wrongNow, m_had, m_badAct, m_badWhy, m_wrongAct, m_wrongHeir) else jn (f_X9_refusal m_beat m_nick m_owner m_place m_kept m_heard m_chosen m_minutes m_pad m_padMany m_act m_who m_much m_heardMany m_wrongNow m_had m_badAct m_badWhy m_wrongAct m_wrongHeir) (fun r3 => jn (α := Int32) (if r3.1 = (-6) then if v2 = 0 then gu v1 40 (some (r3.2.1 v1.toNatClampNeg)) else if v2 = 1 then gu v1 40 (some (r3.2.2.1 v1.toNatClampNeg)) else gu v1 40 (some (r3.2.2.2.1 v1.toNatClampNeg)) else some r3.1) (fun z4 => jn (f_X9_back r3.2.1 r3.2.2.1 r3.2.2.2.1 r3.2.2.2.2.1 r3.2.2.2.2.2.1 r3.2.2.2.2.2.2.1 r3.2.2.2.2.2.2.2.2.2.2.2.2.2.2.1 z4) (fun r6 => some (r6.1, r6.2.1, r6.2.2.1, r6.2.2.2.1, r6.2.2.2.2.1, r6.2.2.2.2.2.1, r6.2.2.2.2.2.2.1, r6.2.2.2.2.2.2.2, r3.2.2.2.2.2.2.2.2.1, r3.2.2.2.2.2.2.2.2.2.1, r3.2.2.2.2.2.2.2.2.2.2.1, r3.2.2.2.2.2.2.2.2.2.2.2.1, r3.2.2.2.2.2.2.2.2.2.2.2.2.1, r3.2.2.2.2.2.2.2.2.2.2.2.2.2.1, r3.2.2.2.2.2.2.2.2.2.2.2.2.2.2.1, r3.2.2.2.2.2.2.2.2.2.2.2.2.2.2.2.1, r3.2.2.2.2.2.2.2.2.2.2.2.2.2.2.2.2.1, r3.2.2.2.2.2.2.2.2.2.2.2.2.2.2.2.2.2.1, r3.2.2.2.2.2.2.2.2.2.2.2.2.2.2.2.2.2.2))))))
set_option maxHeartbeats 4000000 in
set_option maxRecDepth 100000 in
theorem c_X9_stands (l : Launch) (D : va_G) (T : Nat → ClassId) (a : Nat → Nat) (m_beat : Nat → Int32) (m_nick : Nat → Int32) (m_owner : Nat → Int32) (m_place : Nat → Int32) (m_kept : Nat → Int32) (m_heard : Nat → Int32) (m_chosen : Nat → Int32) (m_minutes : Int32) (m_sightBeat : Nat → Int32) (m_sightOff : Nat → Int32) (m_sightIs : Nat → Int32) (m_sights : Int32) (m_pad : Nat → Int32) (m_padMany : Int32) (m_act : Nat → Int32) (m_who : Nat → Int32) (m_much : Nat → Int32) (m_acts : Int32) (m_heardMany : Int32) (m_wrongNow : Int32) (m_had : Nat → Int32) (m_badAct : Int32) (m_badWhy : Int32) (m_wrongAct : Int32) (m_wrongHeir : Int32) (m_odd : Nat → Int32) (m_span : Nat → Int32) (m_rise : Nat → Int32) (m_wins : Nat → Int32) (m_stored : Nat → Int32) (m_isStored : Nat → Int32) (m_storedAt : Int32) (m_isWriting : Int32) (v1 : Int32) (v2 : Int32) (r : Int32 × (Nat → Int32) × (Nat → Int32) × (Nat → Int32) × (Nat → Int32) × (Nat → Int32) × (Nat → Int32) × Int32 × (Nat → Int32) × (Nat → Int32) × (Nat → Int32) × Int32 × Int32 × Int32 × (Nat → Int32) × Int32 × Int32 × Int32 × Int32) (h : f_X9_stands m_beat m_nick m_owner m_place m_kept m_heard m_chosen m_minutes m_pad m_padMany m_act m_who m_much m_acts m_heardMany m_wrongNow m_had m_badAct m_badWhy m_wrongAct m_wrongHeir v1 v2 = some r) : Kt l D T yX9_stands cX9_stands 4 (some .int) (6, 0, 0, 132) [.ref (a 0), .int v1, .int v2] (wM T a m_beat m_nick m_owner m_place m_kept m_heard m_chosen m_minutes m_sightBeat m_sightOff m_sightIs m_sights m_pad m_padMany m_act m_who m_much m_acts m_heardMany m_wrongNow m_had m_badAct m_badWhy m_wrongAct m_wrongHeir m_odd m_span m_rise m_wins m_stored m_isStored m_storedAt m_isWriting) (FF (fun (r : Int32 × (Nat → Int32) × (Nat → Int32) × (Nat → Int32) × (Nat → Int32) × (Nat → Int32) × (Nat → Int32) × Int32 × (Nat → Int32) × (Nat → Int32) × (Nat → Int32) × Int32 × Int32 × Int32 × (Nat → Int32) × Int32 × Int32 × Int32 × Int32) => some (.int r.1)) (fun r => wM T a r.2.1 r.2.2.1 r.2.2.2.1 r.2.2.2.2.1 m_kept r.2.2.2.2.2.1 r.2.2.2.2.2.2.1 r.2.2.2.2.2.2.2.1 m_sightBeat m_sightOff m_sightIs m_sights m_pad m_padMany r.2.2.2.2.2.2.2.2.1 r.2.2.2.2.2.2.2.2.2.1 r.2.2.2.2.2.2.2.2.2.2.1 r.2.2.2.2.2.2.2.2.2.2.2.1 r.2.2.2.2.2.2.2.2.2.2.2.2.1 r.2.2.2.2.2.2.2.2.2.2.2.2.2.1 r.2.2.2.2.2.2.2.2.2.2.2.2.2.2.1 r.2.2.2.2.2.2.2.2.2.2.2.2.2.2.2.1 r.2.2.2.2.2.2.2.2.2.2.2.2.2.2.2.2.1 r.2.2.2.2.2.2.2.2.2.2.2.2.2.2.2.2.2.1 r.2.2.2.2.2.2.2.2.2.2.2.2.2.2.2.2.2.2 m_odd m_span m_rise m_wins m_stored m_isStored m_storedAt m_isWriting) r) := by
  refine kt_of (own := RX9) (nm := "stands") (lv := [(0, .ref (a 0)), (1, .int v1), (2, .int v2)]) (by decide) rfl rfl rfl (Nat.le_of_ble_eq_true rfl) h (fun X hn C M => ?_)
  have hnn : ((0, 0) : Nat × Nat).1 ≤ 0 ∧ ((0, 0) : Nat × Nat).2 ≤ 0 := ⟨Nat.le_refl 0, Nat.le_refl 0⟩
  unfold f_X9_stands
  refine gg_iload_n C dX9_stands_0 rfl 1 rfl ?_
  refine gg_callS C (fun l r h => c_X9_isPlace l D T v1 r h) lk_X9_82 ⟨by decide, by decide⟩ hnn rfl (rest := []) rfl (Nat.le_of_ble_eq_true rfl) dX9_stands_1 cut_none (st2 := fun r1 => [.int r1]) (fun _ => rfl) (fun r1 => ?_)
  refine gg_if_ne C dX9_stands_4 (tgt := 9) (by decide) (fun _ => ?_) (fun _ => ?_)
  · refine gg_iload_n C dX9_stands_9 rfl 2 rfl ?_
    refine gg_i2l C dX9_stands_10 ?_
    refine gg_lconst C dX9_stands_11 (v := 0) (by decide) ?_
    refine gg_ldc2 C tw_702 dX9_stands_12 ?_
    refine gg_callS C (fun l r h => c_X9_in l D T v2.toInt64 0 2 r h) lk_X9_76 ⟨by decide, by decide⟩ hnn rfl (rest := []) rfl (Nat.le_of_ble_eq_true rfl) dX9_stands_15 cut_none (st2 := fun r2 => [.int r2]) (fun _ => rfl) (fun r2 => ?_)
    refine gg_if_ne C dX9_stands_18 (tgt := 24) (by decide) (fun _ => ?_) (fun _ => ?_)
    · refine gg_aload_n C dX9_stands_24 rfl 0 rfl ?_
      refine gg_callV C (fun l r h => c_X9_refusal l D T a m_beat m_nick m_owner m_place m_kept m_heard m_chosen m_minutes m_sightBeat m_sightOff m_sightIs m_sights m_pad m_padMany m_act m_who m_much m_acts m_heardMany m_wrongNow m_had m_badAct m_badWhy m_wrongAct m_wrongHeir m_odd m_span m_rise m_wins m_stored m_isStored m_storedAt m_isWriting r h) lk_X9_192 ⟨by decide, by decide⟩ hnn rfl (rest := []) rfl (Nat.le_of_ble_eq_true rfl) 0 rfl rfl dX9_stands_25 (ws2 := fun r3 => wM T a r3.2.1 r3.2.2.1 r3.2.2.2.1 r3.2.2.2.2.1 m_kept r3.2.2.2.2.2.1 r3.2.2.2.2.2.2.1 r3.2.2.2.2.2.2.2.1 m_sightBeat m_sightOff m_sightIs m_sights m_pad m_padMany r3.2.2.2.2.2.2.2.2.1 r3.2.2.2.2.2.2.2.2.2.1 r3.2.2.2.2.2.2.2.2.2.2.1 r3.2.2.2.2.2.2.2.2.2.2.2.1 r3.2.2.2.2.2.2.2.2.2.2.2.2.1 r3.2.2.2.2.2.2.2.2.2.2.2.2.2.1 r3.2.2.2.2.2.2.2.2.2.2.2.2.2.2.1 r3.2.2.2.2.2.2.2.2.2.2.2.2.2.2.2.1 r3.2.2.2.2.2.2.2.2.2.2.2.2.2.2.2.2.1 r3.2.2.2.2.2.2.2.2.2.2.2.2.2.2.2.2.2.1 r3.2.2.2.2.2.2.2.2.2.2.2.2.2.2.2.2.2.2 m_odd m_span m_rise m_wins m_stored m_isStored m_storedAt m_isWriting) (cut_full (fun _ => rfl)) (st2 := fun r3 => [.int r3.1]) (fun _ => rfl) (fun r3 => ?_)
      refine gg_istore_n C dX9_stands_28 rfl hn (by decide) (lv' := [(3, .int r3.1), (0, .ref (a 0)), (1, .int v1), (2, .int v2)]) rfl ?_
      refine gg_aload_n C dX9_stands_29 rfl 1 rfl ?_
      refine gg_iload_n C dX9_stands_30 rfl 0 rfl ?_
      refine gg_bipush C dX9_stands_31 kB_m6 ?_
      refine gg_join (α := Int32) 73 (fun z4 => wM T a r3.2.1 r3.2.2.1 r3.2.2.2.1 r3.2.2.2.2.1 m_kept r3.2.2.2.2.2.1 r3.2.2.2.2.2.2.1 r3.2.2.2.2.2.2.2.1 m_sightBeat m_sightOff m_sightIs m_sights m_pad m_padMany r3.2.2.2.2.2.2.2.2.1 r3.2.2.2.2.2.2.2.2.2.1 r3.2.2.2.2.2.2.2.2.2.2.1 r3.2.2.2.2.2.2.2.2.2.2.2.1 r3.2.2.2.2.2.2.2.2.2.2.2.2.1 r3.2.2.2.2.2.2.2.2.2.2.2.2.2.1 r3.2.2.2.2.2.2.2.2.2.2.2.2.2.2.1 r3.2.2.2.2.2.2.2.2.2.2.2.2.2.2.2.1 r3.2.2.2.2.2.2.2.2.2.2.2.2.2.2.2.2.1 r3.2.2.2.2.2.2.2.2.2.2.2.2.2.2.2.2.2.1 r3.2.2.2.2.2.2.2.2.2.2.2.2.2.2.2.2.2.2 m_odd m_span m_rise m_wins m_stored m_isStored m_storedAt m_isWriting) (fun z4 => [(0, .ref (a 0)), (1, .int v1), (2, .int v2), (3, .int r3.1)]) (fun z4 => [.int z4, .ref (a 0)]) (fun z4 => ?_) (fun K5 => ?_)
      · refine gg_callV C (fun l r h => c_X9_back l D T a r3.2.1 r3.2.2.1 r3.2.2.2.1 r3.2.2.2.2.1 m_kept r3.2.2.2.2.2.1 r3.2.2.2.2.2.2.1 r3.2.2.2.2.2.2.2.1 m_sightBeat m_sightOff m_sightIs m_sights m_pad m_padMany r3.2.2.2.2.2.2.2.2.1 r3.2.2.2.2.2.2.2.2.2.1 r3.2.2.2.2.2.2.2.2.2.2.1 r3.2.2.2.2.2.2.2.2.2.2.2.1 r3.2.2.2.2.2.2.2.2.2.2.2.2.1 r3.2.2.2.2.2.2.2.2.2.2.2.2.2.1 r3.2.2.2.2.2.2.2.2.2.2.2.2.2.2.1 r3.2.2.2.2.2.2.2.2.2.2.2.2.2.2.2.1 r3.2.2.2.2.2.2.2.2.2.2.2.2.2.2.2.2.1 r3.2.2.2.2.2.2.2.2.2.2.2.2.2.2.2.2.2.1 r3.2.2.2.2.2.2.2.2.2.2.2.2.2.2.2.2.2.2 m_odd m_span m_rise m_wins m_stored m_isStored m_storedAt m_isWriting z4 r h) lk_X9_195 ⟨by decide, by decide⟩ hnn rfl (rest := []) rfl (Nat.le_of_ble_eq_true rfl) 0 rfl rfl dX9_stands_73 (ws2 := fun r6 => wM T a r6.2.1 r6.2.2.1 r6.2.2.2.1 r6.2.2.2.2.1 m_kept r6.2.2.2.2.2.1 r6.2.2.2.2.2.2.1 r6.2.2.2.2.2.2.2 m_sightBeat m_sightOff m_sightIs m_sights m_pad m_padMany r3.2.2.2.2.2.2.2.2.1 r3.2.2.2.2.2.2.2.2.2.1 r3.2.2.2.2.2.2.2.2.2.2.1 r3.2.2.2.2.2.2.2.2.2.2.2.1 r3.2.2.2.2.2.2.2.2.2.2.2.2.1 r3.2.2.2.2.2.2.2.2.2.2.2.2.2.1 r3.2.2.2.2.2.2.2.2.2.2.2.2.2.2.1 r3.2.2.2.2.2.2.2.2.2.2.2.2.2.2.2.1 r3.2.2.2.2.2.2.2.2.2.2.2.2.2.2.2.2.1 r3.2.2.2.2.2.2.2.2.2.2.2.2.2.2.2.2.2.1 r3.2.2.2.2.2.2.2.2.2.2.2.2.2.2.2.2.2.2 m_odd m_span m_rise m_wins m_stored m_isStored m_storedAt m_isWriting) (cut_full (fun _ => rfl)) (st2 := fun r6 => [.int r6.1]) (fun _ => rfl) (fun r6 => ?_)
        exact gg_iret C M dX9_stands_76 ⟨rfl, rfl⟩
      · refine gg_icmp_eq C dX9_stands_33 (tgt := 40) (by decide) (fun _ => ?_) (fun _ => ?_)
        · refine gg_iload_n C dX9_stands_40 rfl 3 rfl ?_
          refine gg_if_ne C dX9_stands_41 (tgt := 53) (by decide) (fun _ => ?_) (fun _ => ?_)
          · refine gg_iload_n C dX9_stands_53 rfl 3 rfl ?_
            refine gg_iconst C dX9_stands_54 kI_1 ?_
            refine gg_icmp_ne C dX9_stands_55 (tgt := 67) (by decide) (fun _ => ?_) (fun _ => ?_)
            · refine gg_aload_n C dX9_stands_67 rfl 1 rfl ?_
              refine gf_X9_16 C 0 rfl rfl dX9_stands_68 ?_
              refine gg_iload_n C dX9_stands_71 rfl 2 rfl ?_
              refine gg_iald C 3 rfl dX9_stands_72 ?_
              refine gg_sub [1, 2, 3, 0] rfl ?_
              exact K5 (r3.2.2.2.1 v1.toNatClampNeg)
            · refine gg_aload_n C dX9_stands_58 rfl 1 rfl ?_
              refine gf_X9_13 C 0 rfl rfl dX9_stands_59 ?_
              refine gg_iload_n C dX9_stands_62 rfl 2 rfl ?_
              refine gg_iald C 2 rfl dX9_stands_63 ?_
              refine gg_goto C dX9_stands_64 (tgt := 73) (by decide) ?_
              refine gg_sub [1, 2, 3, 0] rfl ?_
              exact K5 (r3.2.2.1 v1.toNatClampNeg)
          · refine gg_aload_n C dX9_stands_44 rfl 1 rfl ?_
            refine gf_X9_7 C 0 rfl rfl dX9_stands_45 ?_
            refine gg_iload_n C dX9_stands_48 rfl 2 rfl ?_
            refine gg_iald C 1 rfl dX9_stands_49 ?_
            refine gg_goto C dX9_stands_50 (tgt := 73) (by decide) ?_
            refine gg_sub [1, 2, 3, 0] rfl ?_
            exact K5 (r3.2.1 v1.toNatClampNeg)
        · refine gg_iload_n C dX9_stands_36 rfl 0 rfl ?_
          refine gg_goto C dX9_stands_37 (tgt := 73) (by decide) ?_
          refine gg_sub [1, 2, 3, 0] rfl ?_
          exact K5 r3.1
    · refine gg_bipush C dX9_stands_21 kB_m2 ?_
      exact gg_iret C M dX9_stands_23 ⟨rfl, rfl⟩
  · refine gg_iconst C dX9_stands_7 kI_m1 ?_
    exact gg_iret C M dX9_stands_8 ⟨rfl, rfl⟩
def f_X9_whoChose_L4 (m_chosen : Nat → Int32) : Nat → Int32 → Int32 → Option (Int32 × Int32)
  | 0, _, _ => none
  | nn + 1, y1, y2 => if 6 ≤ y2 then some (y1, y2) else gu y2 6 (if 0 ≤ m_chosen y2.toNatClampNeg then bi (y1 ||| ((1 : Int32) <<< (y2 &&& 31))) (fun x1 => f_X9_whoChose_L4 m_chosen nn x1 (y2 + 1)) else bi (y1 ||| 0) (fun x2 => f_X9_whoChose_L4 m_chosen nn x2 (y2 + 1)))
set_option maxHeartbeats 4000000 in
set_option maxRecDepth 100000 in
theorem g_X9_whoChose_L4 {X : KX} {D : va_G} {T : Nat → ClassId} {Q : Int32 × Int32 → State → Prop} {n : Nat × Nat} (C : Cx X D T cX9_whoChose RX9 { frames := 0, cells := 0, slots := 0, locals := 0 }) (hnn : n.1 ≤ 0 ∧ n.2 ≤ 0) (hn : kxL X = 3) (a : Nat → Nat)  (m_beat : Nat → Int32) (m_nick : Nat → Int32) (m_owner : Nat → Int32) (m_place : Nat → Int32) (m_kept : Nat → Int32) (m_heard : Nat → Int32) (m_chosen : Nat → Int32) (m_minutes : Int32) (m_sightBeat : Nat → Int32) (m_sightOff : Nat → Int32) (m_sightIs : Nat → Int32) (m_sights : Int32) (m_pad : Nat → Int32) (m_padMany : Int32) (m_act : Nat → Int32) (m_who : Nat → Int32) (m_much : Nat → Int32) (m_acts : Int32) (m_heardMany : Int32) (m_wrongNow : Int32) (m_had : Nat → Int32) (m_badAct : Int32) (m_badWhy : Int32) (m_wrongAct : Int32) (m_wrongHeir : Int32) (m_odd : Nat → Int32) (m_span : Nat → Int32) (m_rise : Nat → Int32) (m_wins : Nat → Int32) (m_stored : Nat → Int32) (m_isStored : Nat → Int32) (m_storedAt : Int32) (m_isWriting : Int32) (hk : ∀ v : Int32 × Int32, GG X D Q n (wM T a m_beat m_nick m_owner m_place m_kept m_heard m_chosen m_minutes m_sightBeat m_sightOff m_sightIs m_sights m_pad m_padMany m_act m_who m_much m_acts m_heardMany m_wrongNow m_had m_badAct m_badWhy m_wrongAct m_wrongHeir m_odd m_span m_rise m_wins m_stored m_isStored m_storedAt m_isWriting) [(0, .ref (a 0)), (1, .int v.1), (2, .int v.2)] 35 [] (some (v))) : ∀ (nn : Nat) (y1 : Int32) (y2 : Int32), GG X D Q n (wM T a m_beat m_nick m_owner m_place m_kept m_heard m_chosen m_minutes m_sightBeat m_sightOff m_sightIs m_sights m_pad m_padMany m_act m_who m_much m_acts m_heardMany m_wrongNow m_had m_badAct m_badWhy m_wrongAct m_wrongHeir m_odd m_span m_rise m_wins m_stored m_isStored m_storedAt m_isWriting) [(0, .ref (a 0)), (1, .int y1), (2, .int y2)] 4 [] (f_X9_whoChose_L4 m_chosen nn y1 y2) := by
  intro nn
  induction nn with
  | zero => intros; exact gg_none
  | succ nn ih =>
    intro y1 y2
    unfold f_X9_whoChose_L4
    refine gg_iload_n C dX9_whoChose_4 rfl 2 rfl ?_
    refine gg_bipush C dX9_whoChose_5 kB_6 ?_
    refine gg_icmp_ge C dX9_whoChose_7 (tgt := 35) (by decide) (fun _ => ?_) (fun _ => ?_)
    · refine gg_sub [0, 1, 2] rfl ?_
      exact hk (y1, y2)
    · refine gg_iload_n C dX9_whoChose_10 rfl 1 rfl ?_
      refine gg_aload_n C dX9_whoChose_11 rfl 0 rfl ?_
      refine gf_X9_28 C 0 rfl rfl dX9_whoChose_12 ?_
      refine gg_iload_n C dX9_whoChose_15 rfl 2 rfl ?_
      refine gg_iald C 7 rfl dX9_whoChose_16 ?_
      refine gg_if_ge C dX9_whoChose_17 (tgt := 24) (by decide) (fun _ => ?_) (fun _ => ?_)
      · refine gg_iconst C dX9_whoChose_24 kI_1 ?_
        refine gg_iload_n C dX9_whoChose_25 rfl 2 rfl ?_
        refine gg_ishl C dX9_whoChose_26 ?_
        refine gg_ior C dX9_whoChose_27 ?_
        refine gg_bi (fun x1 => ?_)
        refine gg_istore_n C dX9_whoChose_28 rfl hn (by decide) (lv' := [(1, .int x1), (0, .ref (a 0)), (2, .int y2)]) rfl ?_
        refine gg_iinc C dX9_whoChose_29 (j := 2) rfl (v := y2 + 1) (by first | rfl | decide) hn (by decide) (lv' := [(2, .int (y2 + 1)), (1, .int x1), (0, .ref (a 0))]) rfl ?_
        refine gg_goto C dX9_whoChose_32 (tgt := 4) (by decide) ?_
        refine gg_sub [2, 1, 0] rfl ?_
        exact ih x1 (y2 + 1)
      · refine gg_iconst C dX9_whoChose_20 kI_0 ?_
        refine gg_goto C dX9_whoChose_21 (tgt := 27) (by decide) ?_
        refine gg_ior C dX9_whoChose_27 ?_
        refine gg_bi (fun x2 => ?_)
        refine gg_istore_n C dX9_whoChose_28 rfl hn (by decide) (lv' := [(1, .int x2), (0, .ref (a 0)), (2, .int y2)]) rfl ?_
        refine gg_iinc C dX9_whoChose_29 (j := 2) rfl (v := y2 + 1) (by first | rfl | decide) hn (by decide) (lv' := [(2, .int (y2 + 1)), (1, .int x2), (0, .ref (a 0))]) rfl ?_
        refine gg_goto C dX9_whoChose_32 (tgt := 4) (by decide) ?_
        refine gg_sub [2, 1, 0] rfl ?_
        exact ih x2 (y2 + 1)
def f_X9_whoChose (m_chosen : Nat → Int32) : Option (Int32) := jn (α := Int32 × Int32) (f_X9_whoChose_L4 m_chosen 100 0 0) (fun z3 => some z3.1)
set_option maxHeartbeats 4000000 in
set_option maxRecDepth 100000 in
theorem c_X9_whoChose (l : Launch) (D : va_G) (T : Nat → ClassId) (a : Nat → Nat) (m_beat : Nat → Int32) (m_nick : Nat → Int32) (m_owner : Nat → Int32) (m_place : Nat → Int32) (m_kept : Nat → Int32) (m_heard : Nat → Int32) (m_chosen : Nat → Int32) (m_minutes : Int32) (m_sightBeat : Nat → Int32) (m_sightOff : Nat → Int32) (m_sightIs : Nat → Int32) (m_sights : Int32) (m_pad : Nat → Int32) (m_padMany : Int32) (m_act : Nat → Int32) (m_who : Nat → Int32) (m_much : Nat → Int32) (m_acts : Int32) (m_heardMany : Int32) (m_wrongNow : Int32) (m_had : Nat → Int32) (m_badAct : Int32) (m_badWhy : Int32) (m_wrongAct : Int32) (m_wrongHeir : Int32) (m_odd : Nat → Int32) (m_span : Nat → Int32) (m_rise : Nat → Int32) (m_wins : Nat → Int32) (m_stored : Nat → Int32) (m_isStored : Nat → Int32) (m_storedAt : Int32) (m_isWriting : Int32) (r : Int32) (h : f_X9_whoChose m_chosen = some r) : Kt l D T yX9_whoChose cX9_whoChose 3 (some .int) (0, 0, 0, 0) [.ref (a 0)] (wM T a m_beat m_nick m_owner m_place m_kept m_heard m_chosen m_minutes m_sightBeat m_sightOff m_sightIs m_sights m_pad m_padMany m_act m_who m_much m_acts m_heardMany m_wrongNow m_had m_badAct m_badWhy m_wrongAct m_wrongHeir m_odd m_span m_rise m_wins m_stored m_isStored m_storedAt m_isWriting) (FF (fun (r : Int32) => some (.int r)) (fun r => wM T a m_beat m_nick m_owner m_place m_kept m_heard m_chosen m_minutes m_sightBeat m_sightOff m_sightIs m_sights m_pad m_padMany m_act m_who m_much m_acts m_heardMany m_wrongNow m_had m_badAct m_badWhy m_wrongAct m_wrongHeir m_odd m_span m_rise m_wins m_stored m_isStored m_storedAt m_isWriting) r) := by
  refine kt_of (own := RX9) (nm := "whoChose") (lv := [(0, .ref (a 0))]) (by decide) rfl rfl rfl (Nat.le_of_ble_eq_true rfl) h (fun X hn C M => ?_)
  have hnn : ((0, 0) : Nat × Nat).1 ≤ 0 ∧ ((0, 0) : Nat × Nat).2 ≤ 0 := ⟨Nat.le_refl 0, Nat.le_refl 0⟩
  unfold f_X9_whoChose
  refine gg_iconst C dX9_whoChose_0 kI_0 ?_
  refine gg_istore_n C dX9_whoChose_1 rfl hn (by decide) (lv' := [(1, .int 0), (0, .ref (a 0))]) rfl ?_
  refine gg_iconst C dX9_whoChose_2 kI_0 ?_
  refine gg_istore_n C dX9_whoChose_3 rfl hn (by decide) (lv' := [(2, .int 0), (1, .int 0), (0, .ref (a 0))]) rfl ?_
  refine gg_join (α := Int32 × Int32) 35 (fun z3 => wM T a m_beat m_nick m_owner m_place m_kept m_heard m_chosen m_minutes m_sightBeat m_sightOff m_sightIs m_sights m_pad m_padMany m_act m_who m_much m_acts m_heardMany m_wrongNow m_had m_badAct m_badWhy m_wrongAct m_wrongHeir m_odd m_span m_rise m_wins m_stored m_isStored m_storedAt m_isWriting) (fun z3 => [(0, .ref (a 0)), (1, .int z3.1), (2, .int z3.2)]) (fun z3 => []) (fun z3 => ?_) (fun K4 => ?_)
  · refine gg_iload_n C dX9_whoChose_35 rfl 1 rfl ?_
    exact gg_iret C M dX9_whoChose_36 ⟨rfl, rfl⟩
  · refine gg_sub [2, 1, 0] rfl ?_
    exact g_X9_whoChose_L4 C hnn hn a m_beat m_nick m_owner m_place m_kept m_heard m_chosen m_minutes m_sightBeat m_sightOff m_sightIs m_sights m_pad m_padMany m_act m_who m_much m_acts m_heardMany m_wrongNow m_had m_badAct m_badWhy m_wrongAct m_wrongHeir m_odd m_span m_rise m_wins m_stored m_isStored m_storedAt m_isWriting K4 100 0 0
def f_X9_whoRight_L4 (m_owner : Nat → Int32) (m_chosen : Nat → Int32) : Nat → Int32 → Int32 → Option (Int32 × Int32)
  | 0, _, _ => none
  | nn + 1, y1, y2 => if 6 ≤ y2 then some (y1, y2) else gu y2 6 (jn (α := Int32) (if m_chosen y2.toNatClampNeg < 0 then some 0 else gu y2 6 (gu (m_chosen y2.toNatClampNeg) 40 (if m_owner (m_chosen y2.toNatClampNeg).toNatClampNeg = y2 then some 1 else some 0))) (fun z1 => if z1 = 0 then bi (y1 ||| 0) (fun x3 => f_X9_whoRight_L4 m_owner m_chosen nn x3 (y2 + 1)) else bi (y1 ||| ((1 : Int32) <<< (y2 &&& 31))) (fun x4 => f_X9_whoRight_L4 m_owner m_chosen nn x4 (y2 + 1))))
set_option maxHeartbeats 4000000 in
set_option maxRecDepth 100000 in
theorem g_X9_whoRight_L4 {X : KX} {D : va_G} {T : Nat → ClassId} {Q : Int32 × Int32 → State → Prop} {n : Nat × Nat} (C : Cx X D T cX9_whoRight RX9 { frames := 0, cells := 0, slots := 0, locals := 0 }) (hnn : n.1 ≤ 0 ∧ n.2 ≤ 0) (hn : kxL X = 4) (a : Nat → Nat)  (m_beat : Nat → Int32) (m_nick : Nat → Int32) (m_owner : Nat → Int32) (m_place : Nat → Int32) (m_kept : Nat → Int32) (m_heard : Nat → Int32) (m_chosen : Nat → Int32) (m_minutes : Int32) (m_sightBeat : Nat → Int32) (m_sightOff : Nat → Int32) (m_sightIs : Nat → Int32) (m_sights : Int32) (m_pad : Nat → Int32) (m_padMany : Int32) (m_act : Nat → Int32) (m_who : Nat → Int32) (m_much : Nat → Int32) (m_acts : Int32) (m_heardMany : Int32) (m_wrongNow : Int32) (m_had : Nat → Int32) (m_badAct : Int32) (m_badWhy : Int32) (m_wrongAct : Int32) (m_wrongHeir : Int32) (m_odd : Nat → Int32) (m_span : Nat → Int32) (m_rise : Nat → Int32) (m_wins : Nat → Int32) (m_stored : Nat → Int32) (m_isStored : Nat → Int32) (m_storedAt : Int32) (m_isWriting : Int32) (hk : ∀ v : Int32 × Int32, GG X D Q n (wM T a m_beat m_nick m_owner m_place m_kept m_heard m_chosen m_minutes m_sightBeat m_sightOff m_sightIs m_sights m_pad m_padMany m_act m_who m_much m_acts m_heardMany m_wrongNow m_had m_badAct m_badWhy m_wrongAct m_wrongHeir m_odd m_span m_rise m_wins m_stored m_isStored m_storedAt m_isWriting) [(0, .ref (a 0)), (1, .int v.1), (2, .int v.2)] 60 [] (some (v))) : ∀ (nn : Nat) (y1 : Int32) (y2 : Int32), GG X D Q n (wM T a m_beat m_nick m_owner m_place m_kept m_heard m_chosen m_minutes m_sightBeat m_sightOff m_sightIs m_sights m_pad m_padMany m_act m_who m_much m_acts m_heardMany m_wrongNow m_had m_badAct m_badWhy m_wrongAct m_wrongHeir m_odd m_span m_rise m_wins m_stored m_isStored m_storedAt m_isWriting) [(0, .ref (a 0)), (1, .int y1), (2, .int y2)] 4 [] (f_X9_whoRight_L4 m_owner m_chosen nn y1 y2) := by
  intro nn
  induction nn with
  | zero => intros; exact gg_none
  | succ nn ih =>
    intro y1 y2
    unfold f_X9_whoRight_L4
    refine gg_iload_n C dX9_whoRight_4 rfl 2 rfl ?_
    refine gg_bipush C dX9_whoRight_5 kB_6 ?_
    refine gg_icmp_ge C dX9_whoRight_7 (tgt := 60) (by decide) (fun _ => ?_) (fun _ => ?_)
    · refine gg_sub [0, 1, 2] rfl ?_
      exact hk (y1, y2)
    · refine gg_aload_n C dX9_whoRight_10 rfl 0 rfl ?_
      refine gf_X9_28 C 0 rfl rfl dX9_whoRight_11 ?_
      refine gg_iload_n C dX9_whoRight_14 rfl 2 rfl ?_
      refine gg_iald C 7 rfl dX9_whoRight_15 ?_
      refine gg_join (α := Int32) 39 (fun z1 => wM T a m_beat m_nick m_owner m_place m_kept m_heard m_chosen m_minutes m_sightBeat m_sightOff m_sightIs m_sights m_pad m_padMany m_act m_who m_much m_acts m_heardMany m_wrongNow m_had m_badAct m_badWhy m_wrongAct m_wrongHeir m_odd m_span m_rise m_wins m_stored m_isStored m_storedAt m_isWriting) (fun z1 => [(0, .ref (a 0)), (1, .int y1), (2, .int y2)]) (fun z1 => [.int z1]) (fun z1 => ?_) (fun K2 => ?_)
      · refine gg_istore_n C dX9_whoRight_39 rfl hn (by decide) (lv' := [(3, .int z1), (0, .ref (a 0)), (1, .int y1), (2, .int y2)]) rfl ?_
        refine gg_iload_n C dX9_whoRight_40 rfl 2 rfl ?_
        refine gg_iload_n C dX9_whoRight_41 rfl 0 rfl ?_
        refine gg_if_eq C dX9_whoRight_42 (tgt := 51) (by decide) (fun _ => ?_) (fun _ => ?_)
        · refine gg_iconst C dX9_whoRight_51 kI_0 ?_
          refine gg_ior C dX9_whoRight_52 ?_
          refine gg_bi (fun x3 => ?_)
          refine gg_istore_n C dX9_whoRight_53 rfl hn (by decide) (lv' := [(1, .int x3), (3, .int z1), (0, .ref (a 0)), (2, .int y2)]) rfl ?_
          refine gg_iinc C dX9_whoRight_54 (j := 3) rfl (v := y2 + 1) (by first | rfl | decide) hn (by decide) (lv' := [(2, .int (y2 + 1)), (1, .int x3), (3, .int z1), (0, .ref (a 0))]) rfl ?_
          refine gg_goto C dX9_whoRight_57 (tgt := 4) (by decide) ?_
          refine gg_sub [3, 1, 0] rfl ?_
          exact ih x3 (y2 + 1)
        · refine gg_iconst C dX9_whoRight_45 kI_1 ?_
          refine gg_iload_n C dX9_whoRight_46 rfl 3 rfl ?_
          refine gg_ishl C dX9_whoRight_47 ?_
          refine gg_goto C dX9_whoRight_48 (tgt := 52) (by decide) ?_
          refine gg_ior C dX9_whoRight_52 ?_
          refine gg_bi (fun x4 => ?_)
          refine gg_istore_n C dX9_whoRight_53 rfl hn (by decide) (lv' := [(1, .int x4), (3, .int z1), (0, .ref (a 0)), (2, .int y2)]) rfl ?_
          refine gg_iinc C dX9_whoRight_54 (j := 3) rfl (v := y2 + 1) (by first | rfl | decide) hn (by decide) (lv' := [(2, .int (y2 + 1)), (1, .int x4), (3, .int z1), (0, .ref (a 0))]) rfl ?_
          refine gg_goto C dX9_whoRight_57 (tgt := 4) (by decide) ?_
          refine gg_sub [3, 1, 0] rfl ?_
          exact ih x4 (y2 + 1)
      · refine gg_if_lt C dX9_whoRight_16 (tgt := 38) (by decide) (fun _ => ?_) (fun _ => ?_)
        · refine gg_iconst C dX9_whoRight_38 kI_0 ?_
          refine gg_sub [0, 1, 2] rfl ?_
          exact K2 0
        · refine gg_aload_n C dX9_whoRight_19 rfl 0 rfl ?_
          refine gf_X9_16 C 0 rfl rfl dX9_whoRight_20 ?_
          refine gg_aload_n C dX9_whoRight_23 rfl 0 rfl ?_
          refine gf_X9_28 C 0 rfl rfl dX9_whoRight_24 ?_
          refine gg_iload_n C dX9_whoRight_27 rfl 2 rfl ?_
          refine gg_iald C 7 rfl dX9_whoRight_28 ?_
          refine gg_iald C 3 rfl dX9_whoRight_29 ?_
          refine gg_iload_n C dX9_whoRight_30 rfl 2 rfl ?_
          refine gg_icmp_ne C dX9_whoRight_31 (tgt := 38) (by decide) (fun _ => ?_) (fun _ => ?_)
          · refine gg_iconst C dX9_whoRight_38 kI_0 ?_
            refine gg_sub [0, 1, 2] rfl ?_
            exact K2 0
          · refine gg_iconst C dX9_whoRight_34 kI_1 ?_
            refine gg_goto C dX9_whoRight_35 (tgt := 39) (by decide) ?_
            refine gg_sub [0, 1, 2] rfl ?_
            exact K2 1
def f_X9_whoRight (m_owner : Nat → Int32) (m_chosen : Nat → Int32) : Option (Int32) := jn (α := Int32 × Int32) (f_X9_whoRight_L4 m_owner m_chosen 100 0 0) (fun z5 => some z5.1)
set_option maxHeartbeats 4000000 in
set_option maxRecDepth 100000 in
theorem c_X9_whoRight (l : Launch) (D : va_G) (T : Nat → ClassId) (a : Nat → Nat) (m_beat : Nat → Int32) (m_nick : Nat → Int32) (m_owner : Nat → Int32) (m_place : Nat → Int32) (m_kept : Nat → Int32) (m_heard : Nat → Int32) (m_chosen : Nat → Int32) (m_minutes : Int32) (m_sightBeat : Nat → Int32) (m_sightOff : Nat → Int32) (m_sightIs : Nat → Int32) (m_sights : Int32) (m_pad : Nat → Int32) (m_padMany : Int32) (m_act : Nat → Int32) (m_who : Nat → Int32) (m_much : Nat → Int32) (m_acts : Int32) (m_heardMany : Int32) (m_wrongNow : Int32) (m_had : Nat → Int32) (m_badAct : Int32) (m_badWhy : Int32) (m_wrongAct : Int32) (m_wrongHeir : Int32) (m_odd : Nat → Int32) (m_span : Nat → Int32) (m_rise : Nat → Int32) (m_wins : Nat → Int32) (m_stored : Nat → Int32) (m_isStored : Nat → Int32) (m_storedAt : Int32) (m_isWriting : Int32) (r : Int32) (h : f_X9_whoRight m_owner m_chosen = some r) : Kt l D T yX9_whoRight cX9_whoRight 4 (some .int) (0, 0, 0, 0) [.ref (a 0)] (wM T a m_beat m_nick m_owner m_place m_kept m_heard m_chosen m_minutes m_sightBeat m_sightOff m_sightIs m_sights m_pad m_padMany m_act m_who m_much m_acts m_heardMany m_wrongNow m_had m_badAct m_badWhy m_wrongAct m_wrongHeir m_odd m_span m_rise m_wins m_stored m_isStored m_storedAt m_isWriting) (FF (fun (r : Int32) => some (.int r)) (fun r => wM T a m_beat m_nick m_owner m_place m_kept m_heard m_chosen m_minutes m_sightBeat m_sightOff m_sightIs m_sights m_pad m_padMany m_act m_who m_much m_acts m_heardMany m_wrongNow m_had m_badAct m_badWhy m_wrongAct m_wrongHeir m_odd m_span m_rise m_wins m_stored m_isStored m_storedAt m_isWriting) r) := by
  refine kt_of (own := RX9) (nm := "whoRight") (lv := [(0, .ref (a 0))]) (by decide) rfl rfl rfl (Nat.le_of_ble_eq_true rfl) h (fun X hn C M => ?_)
  have hnn : ((0, 0) : Nat × Nat).1 ≤ 0 ∧ ((0, 0) : Nat × Nat).2 ≤ 0 := ⟨Nat.le_refl 0, Nat.le_refl 0⟩
  unfold f_X9_whoRight
  refine gg_iconst C dX9_whoRight_0 kI_0 ?_
  refine gg_istore_n C dX9_whoRight_1 rfl hn (by decide) (lv' := [(1, .int 0), (0, .ref (a 0))]) rfl ?_
  refine gg_iconst C dX9_whoRight_2 kI_0 ?_
  refine gg_istore_n C dX9_whoRight_3 rfl hn (by decide) (lv' := [(2, .int 0), (1, .int 0), (0, .ref (a 0))]) rfl ?_
  refine gg_join (α := Int32 × Int32) 60 (fun z5 => wM T a m_beat m_nick m_owner m_place m_kept m_heard m_chosen m_minutes m_sightBeat m_sightOff m_sightIs m_sights m_pad m_padMany m_act m_who m_much m_acts m_heardMany m_wrongNow m_had m_badAct m_badWhy m_wrongAct m_wrongHeir m_odd m_span m_rise m_wins m_stored m_isStored m_storedAt m_isWriting) (fun z5 => [(0, .ref (a 0)), (1, .int z5.1), (2, .int z5.2)]) (fun z5 => []) (fun z5 => ?_) (fun K6 => ?_)
  · refine gg_iload_n C dX9_whoRight_60 rfl 1 rfl ?_
    exact gg_iret C M dX9_whoRight_61 ⟨rfl, rfl⟩
  · refine gg_sub [2, 1, 0] rfl ?_
    exact g_X9_whoRight_L4 C hnn hn a m_beat m_nick m_owner m_place m_kept m_heard m_chosen m_minutes m_sightBeat m_sightOff m_sightIs m_sights m_pad m_padMany m_act m_who m_much m_acts m_heardMany m_wrongNow m_had m_badAct m_badWhy m_wrongAct m_wrongHeir m_odd m_span m_rise m_wins m_stored m_isStored m_storedAt m_isWriting K6 100 0 0
def f_X9_nickMany_L4 (m_nick : Nat → Int32) : Nat → Int32 → Int32 → Option (Int32 × Int32)
  | 0, _, _ => none
  | nn + 1, y1, y2 => if 40 ≤ y2 then some (y1, y2) else gu y2 40 (bi (y1 + (m_nick y2.toNatClampNeg)) (fun x1 => f_X9_nickMany_L4 m_nick nn x1 (y2 + 1)))
set_option maxHeartbeats 4000000 in
set_option maxRecDepth 100000 in
theorem g_X9_nickMany_L4 {X : KX} {D : va_G} {T : Nat → ClassId} {Q : Int32 × Int32 → State → Prop} {n : Nat × Nat} (C : Cx X D T cX9_nickMany RX9 { frames := 0, cells := 0, slots := 0, locals := 0 }) (hnn : n.1 ≤ 0 ∧ n.2 ≤ 0) (hn : kxL X = 3) (a : Nat → Nat)  (m_beat : Nat → Int32) (m_nick : Nat → Int32) (m_owner : Nat → Int32) (m_place : Nat → Int32) (m_kept : Nat → Int32) (m_heard : Nat → Int32) (m_chosen : Nat → Int32) (m_minutes : Int32) (m_sightBeat : Nat → Int32) (m_sightOff : Nat → Int32) (m_sightIs : Nat → Int32) (m_sights : Int32) (m_pad : Nat → Int32) (m_padMany : Int32) (m_act : Nat → Int32) (m_who : Nat → Int32) (m_much : Nat → Int32) (m_acts : Int32) (m_heardMany : Int32) (m_wrongNow : Int32) (m_had : Nat → Int32) (m_badAct : Int32) (m_badWhy : Int32) (m_wrongAct : Int32) (m_wrongHeir : Int32) (m_odd : Nat → Int32) (m_span : Nat → Int32) (m_rise : Nat → Int32) (m_wins : Nat → Int32) (m_stored : Nat → Int32) (m_isStored : Nat → Int32) (m_storedAt : Int32) (m_isWriting : Int32) (hk : ∀ v : Int32 × Int32, GG X D Q n (wM T a m_beat m_nick m_owner m_place m_kept m_heard m_chosen m_minutes m_sightBeat m_sightOff m_sightIs m_sights m_pad m_padMany m_act m_who m_much m_acts m_heardMany m_wrongNow m_had m_badAct m_badWhy m_wrongAct m_wrongHeir m_odd m_span m_rise m_wins m_stored m_isStored m_storedAt m_isWriting) [(0, .ref (a 0)), (1, .int v.1), (2, .int v.2)] 25 [] (some (v))) : ∀ (nn : Nat) (y1 : Int32) (y2 : Int32), GG X D Q n (wM T a m_beat m_nick m_owner m_place m_kept m_heard m_chosen m_minutes m_sightBeat m_sightOff m_sightIs m_sights m_pad m_padMany m_act m_who m_much m_acts m_heardMany m_wrongNow m_had m_badAct m_badWhy m_wrongAct m_wrongHeir m_odd m_span m_rise m_wins m_stored m_isStored m_storedAt m_isWriting) [(0, .ref (a 0)), (1, .int y1), (2, .int y2)] 4 [] (f_X9_nickMany_L4 m_nick nn y1 y2) := by
  intro nn
  induction nn with
  | zero => intros; exact gg_none
  | succ nn ih =>
    intro y1 y2
    unfold f_X9_nickMany_L4
    refine gg_iload_n C dX9_nickMany_4 rfl 2 rfl ?_
    refine gg_bipush C dX9_nickMany_5 kB_40 ?_
    refine gg_icmp_ge C dX9_nickMany_7 (tgt := 25) (by decide) (fun _ => ?_) (fun _ => ?_)
    · refine gg_sub [0, 1, 2] rfl ?_
      exact hk (y1, y2)
    · refine gg_iload_n C dX9_nickMany_10 rfl 1 rfl ?_
      refine gg_aload_n C dX9_nickMany_11 rfl 0 rfl ?_
      refine gf_X9_13 C 0 rfl rfl dX9_nickMany_12 ?_
      refine gg_iload_n C dX9_nickMany_15 rfl 2 rfl ?_
      refine gg_iald C 2 rfl dX9_nickMany_16 ?_
      refine gg_iadd C dX9_nickMany_17 ?_
      refine gg_bi (fun x1 => ?_)
      refine gg_istore_n C dX9_nickMany_18 rfl hn (by decide) (lv' := [(1, .int x1), (0, .ref (a 0)), (2, .int y2)]) rfl ?_
      refine gg_iinc C dX9_nickMany_19 (j := 2) rfl (v := y2 + 1) (by first | rfl | decide) hn (by decide) (lv' := [(2, .int (y2 + 1)), (1, .int x1), (0, .ref (a 0))]) rfl ?_
      refine gg_goto C dX9_nickMany_22 (tgt := 4) (by decide) ?_
      refine gg_sub [2, 1, 0] rfl ?_
      exact ih x1 (y2 + 1)
def f_X9_nickMany (m_nick : Nat → Int32) : Option (Int32) := jn (α := Int32 × Int32) (f_X9_nickMany_L4 m_nick 100 0 0) (fun z2 => some z2.1)
set_option maxHeartbeats 4000000 in
set_option maxRecDepth 100000 in
theorem c_X9_nickMany (l : Launch) (D : va_G) (T : Nat → ClassId) (a : Nat → Nat) (m_beat : Nat → Int32) (m_nick : Nat → Int32) (m_owner : Nat → Int32) (m_place : Nat → Int32) (m_kept : Nat → Int32) (m_heard : Nat → Int32) (m_chosen : Nat → Int32) (m_minutes : Int32) (m_sightBeat : Nat → Int32) (m_sightOff : Nat → Int32) (m_sightIs : Nat → Int32) (m_sights : Int32) (m_pad : Nat → Int32) (m_padMany : Int32) (m_act : Nat → Int32) (m_who : Nat → Int32) (m_much : Nat → Int32) (m_acts : Int32) (m_heardMany : Int32) (m_wrongNow : Int32) (m_had : Nat → Int32) (m_badAct : Int32) (m_badWhy : Int32) (m_wrongAct : Int32) (m_wrongHeir : Int32) (m_odd : Nat → Int32) (m_span : Nat → Int32) (m_rise : Nat → Int32) (m_wins : Nat → Int32) (m_stored : Nat → Int32) (m_isStored : Nat → Int32) (m_storedAt : Int32) (m_isWriting : Int32) (r : Int32) (h : f_X9_nickMany m_nick = some r) : Kt l D T yX9_nickMany cX9_nickMany 3 (some .int) (0, 0, 0, 0) [.ref (a 0)] (wM T a m_beat m_nick m_owner m_place m_kept m_heard m_chosen m_minutes m_sightBeat m_sightOff m_sightIs m_sights m_pad m_padMany m_act m_who m_much m_acts m_heardMany m_wrongNow m_had m_badAct m_badWhy m_wrongAct m_wrongHeir m_odd m_span m_rise m_wins m_stored m_isStored m_storedAt m_isWriting) (FF (fun (r : Int32) => some (.int r)) (fun r => wM T a m_beat m_nick m_owner m_place m_kept m_heard m_chosen m_minutes m_sightBeat m_sightOff m_sightIs m_sights m_pad m_padMany m_act m_who m_much m_acts m_heardMany m_wrongNow m_had m_badAct m_badWhy m_wrongAct m_wrongHeir m_odd m_span m_rise m_wins m_stored m_isStored m_storedAt m_isWriting) r) := by
  refine kt_of (own := RX9) (nm := "nickMany") (lv := [(0, .ref (a 0))]) (by decide) rfl rfl rfl (Nat.le_of_ble_eq_true rfl) h (fun X hn C M => ?_)
  have hnn : ((0, 0) : Nat × Nat).1 ≤ 0 ∧ ((0, 0) : Nat × Nat).2 ≤ 0 := ⟨Nat.le_refl 0, Nat.le_refl 0⟩
  unfold f_X9_nickMany
  refine gg_iconst C dX9_nickMany_0 kI_0 ?_
  refine gg_istore_n C dX9_nickMany_1 rfl hn (by decide) (lv' := [(1, .int 0), (0, .ref (a 0))]) rfl ?_
  refine gg_iconst C dX9_nickMany_2 kI_0 ?_
  refine gg_istore_n C dX9_nickMany_3 rfl hn (by decide) (lv' := [(2, .int 0), (1, .int 0), (0, .ref (a 0))]) rfl ?_
  refine gg_join (α := Int32 × Int32) 25 (fun z2 => wM T a m_beat m_nick m_owner m_place m_kept m_heard m_chosen m_minutes m_sightBeat m_sightOff m_sightIs m_sights m_pad m_padMany m_act m_who m_much m_acts m_heardMany m_wrongNow m_had m_badAct m_badWhy m_wrongAct m_wrongHeir m_odd m_span m_rise m_wins m_stored m_isStored m_storedAt m_isWriting) (fun z2 => [(0, .ref (a 0)), (1, .int z2.1), (2, .int z2.2)]) (fun z2 => []) (fun z2 => ?_) (fun K3 => ?_)
  · refine gg_iload_n C dX9_nickMany_25 rfl 1 rfl ?_
    exact gg_iret C M dX9_nickMany_26 ⟨rfl, rfl⟩
  · refine gg_sub [2, 1, 0] rfl ?_
    exact g_X9_nickMany_L4 C hnn hn a m_beat m_nick m_owner m_place m_kept m_heard m_chosen m_minutes m_sightBeat m_sightOff m_sightIs m_sights m_pad m_padMany m_act m_who m_much m_acts m_heardMany m_wrongNow m_had m_badAct m_badWhy m_wrongAct m_wrongHeir m_odd m_span m_rise m_wins m_stored m_isStored m_storedAt m_isWriting K3 100 0 0
def f_X9_ofHouse (m_nick : Nat → Int32) (m_owner : Nat → Int32) (m_chosen : Nat → Int32) (m_minutes : Int32) (v1 : Int32) : Option (Int32) := if v1 = 0 then jn (f_X9_whoChose m_chosen) (fun r3 => some r3) else if v1 = 1 then jn (f_X9_whoRight m_owner m_chosen) (fun r2 => some r2) else if v1 = 2 then jn (f_X9_nickMany m_nick) (fun r1 => some r1) else some m_minutes
set_option maxHeartbeats 4000000 in
set_option maxRecDepth 100000 in
theorem c_X9_ofHouse (l : Launch) (D : va_G) (T : Nat → ClassId) (a : Nat → Nat) (m_beat : Nat → Int32) (m_nick : Nat → Int32) (m_owner : Nat → Int32) (m_place : Nat → Int32) (m_kept : Nat → Int32) (m_heard : Nat → Int32) (m_chosen : Nat → Int32) (m_minutes : Int32) (m_sightBeat : Nat → Int32) (m_sightOff : Nat → Int32) (m_sightIs : Nat → Int32) (m_sights : Int32) (m_pad : Nat → Int32) (m_padMany : Int32) (m_act : Nat → Int32) (m_who : Nat → Int32) (m_much : Nat → Int32) (m_acts : Int32) (m_heardMany : Int32) (m_wrongNow : Int32) (m_had : Nat → Int32) (m_badAct : Int32) (m_badWhy : Int32) (m_wrongAct : Int32) (m_wrongHeir : Int32) (m_odd : Nat → Int32) (m_span : Nat → Int32) (m_rise : Nat → Int32) (m_wins : Nat → Int32) (m_stored : Nat → Int32) (m_isStored : Nat → Int32) (m_storedAt : Int32) (m_isWriting : Int32) (v1 : Int32) (r : Int32) (h : f_X9_ofHouse m_nick m_owner m_chosen m_minutes v1 = some r) : Kt l D T yX9_ofHouse cX9_ofHouse 2 (some .int) (1, 0, 0, 23) [.ref (a 0), .int v1] (wM T a m_beat m_nick m_owner m_place m_kept m_heard m_chosen m_minutes m_sightBeat m_sightOff m_sightIs m_sights m_pad m_padMany m_act m_who m_much m_acts m_heardMany m_wrongNow m_had m_badAct m_badWhy m_wrongAct m_wrongHeir m_odd m_span m_rise m_wins m_stored m_isStored m_storedAt m_isWriting) (FF (fun (r : Int32) => some (.int r)) (fun r => wM T a m_beat m_nick m_owner m_place m_kept m_heard m_chosen m_minutes m_sightBeat m_sightOff m_sightIs m_sights m_pad m_padMany m_act m_who m_much m_acts m_heardMany m_wrongNow m_had m_badAct m_badWhy m_wrongAct m_wrongHeir m_odd m_span m_rise m_wins m_stored m_isStored m_storedAt m_isWriting) r) := by
  refine kt_of (own := RX9) (nm := "ofHouse") (lv := [(0, .ref (a 0)), (1, .int v1)]) (by decide) rfl rfl rfl (Nat.le_of_ble_eq_true rfl) h (fun X hn C M => ?_)
  have hnn : ((0, 0) : Nat × Nat).1 ≤ 0 ∧ ((0, 0) : Nat × Nat).2 ≤ 0 := ⟨Nat.le_refl 0, Nat.le_refl 0⟩
  unfold f_X9_ofHouse
  refine gg_iload_n C dX9_ofHouse_0 rfl 1 rfl ?_
  refine gg_if_ne C dX9_ofHouse_1 (tgt := 11) (by decide) (fun _ => ?_) (fun _ => ?_)
  · refine gg_iload_n C dX9_ofHouse_11 rfl 1 rfl ?_
    refine gg_iconst C dX9_ofHouse_12 kI_1 ?_
    refine gg_icmp_ne C dX9_ofHouse_13 (tgt := 23) (by decide) (fun _ => ?_) (fun _ => ?_)
    · refine gg_iload_n C dX9_ofHouse_23 rfl 1 rfl ?_
      refine gg_iconst C dX9_ofHouse_24 kI_2 ?_
      refine gg_icmp_ne C dX9_ofHouse_25 (tgt := 35) (by decide) (fun _ => ?_) (fun _ => ?_)
      · refine gg_aload_n C dX9_ofHouse_35 rfl 0 rfl ?_
        refine gf_X9_129 C 0 rfl rfl dX9_ofHouse_36 ?_
        exact gg_iret C M dX9_ofHouse_39 ⟨rfl, rfl⟩
      · refine gg_aload_n C dX9_ofHouse_28 rfl 0 rfl ?_
        refine gg_callV C (fun l r h => c_X9_nickMany l D T a m_beat m_nick m_owner m_place m_kept m_heard m_chosen m_minutes m_sightBeat m_sightOff m_sightIs m_sights m_pad m_padMany m_act m_who m_much m_acts m_heardMany m_wrongNow m_had m_badAct m_badWhy m_wrongAct m_wrongHeir m_odd m_span m_rise m_wins m_stored m_isStored m_storedAt m_isWriting r h) lk_X9_204 ⟨by decide, by decide⟩ hnn rfl (rest := []) rfl (Nat.le_of_ble_eq_true rfl) 0 rfl rfl dX9_ofHouse_29 (ws2 := fun r1 => wM T a m_beat m_nick m_owner m_place m_kept m_heard m_chosen m_minutes m_sightBeat m_sightOff m_sightIs m_sights m_pad m_padMany m_act m_who m_much m_acts m_heardMany m_wrongNow m_had m_badAct m_badWhy m_wrongAct m_wrongHeir m_odd m_span m_rise m_wins m_stored m_isStored m_storedAt m_isWriting) (cut_full (fun _ => rfl)) (st2 := fun r1 => [.int r1]) (fun _ => rfl) (fun r1 => ?_)
        refine gg_goto C dX9_ofHouse_32 (tgt := 39) (by decide) ?_
        exact gg_iret C M dX9_ofHouse_39 ⟨rfl, rfl⟩
    · refine gg_aload_n C dX9_ofHouse_16 rfl 0 rfl ?_
      refine gg_callV C (fun l r h => c_X9_whoRight l D T a m_beat m_nick m_owner m_place m_kept m_heard m_chosen m_minutes m_sightBeat m_sightOff m_sightIs m_sights m_pad m_padMany m_act m_who m_much m_acts m_heardMany m_wrongNow m_had m_badAct m_badWhy m_wrongAct m_wrongHeir m_odd m_span m_rise m_wins m_stored m_isStored m_storedAt m_isWriting r h) lk_X9_201 ⟨by decide, by decide⟩ hnn rfl (rest := []) rfl (Nat.le_of_ble_eq_true rfl) 0 rfl rfl dX9_ofHouse_17 (ws2 := fun r2 => wM T a m_beat m_nick m_owner m_place m_kept m_heard m_chosen m_minutes m_sightBeat m_sightOff m_sightIs m_sights m_pad m_padMany m_act m_who m_much m_acts m_heardMany m_wrongNow m_had m_badAct m_badWhy m_wrongAct m_wrongHeir m_odd m_span m_rise m_wins m_stored m_isStored m_storedAt m_isWriting) (cut_full (fun _ => rfl)) (st2 := fun r2 => [.int r2]) (fun _ => rfl) (fun r2 => ?_)
      refine gg_goto C dX9_ofHouse_20 (tgt := 39) (by decide) ?_
      exact gg_iret C M dX9_ofHouse_39 ⟨rfl, rfl⟩
  · refine gg_aload_n C dX9_ofHouse_4 rfl 0 rfl ?_
    refine gg_callV C (fun l r h => c_X9_whoChose l D T a m_beat m_nick m_owner m_place m_kept m_heard m_chosen m_minutes m_sightBeat m_sightOff m_sightIs m_sights m_pad m_padMany m_act m_who m_much m_acts m_heardMany m_wrongNow m_had m_badAct m_badWhy m_wrongAct m_wrongHeir m_odd m_span m_rise m_wins m_stored m_isStored m_storedAt m_isWriting r h) lk_X9_198 ⟨by decide, by decide⟩ hnn rfl (rest := []) rfl (Nat.le_of_ble_eq_true rfl) 0 rfl rfl dX9_ofHouse_5 (ws2 := fun r3 => wM T a m_beat m_nick m_owner m_place m_kept m_heard m_chosen m_minutes m_sightBeat m_sightOff m_sightIs m_sights m_pad m_padMany m_act m_who m_much m_acts m_heardMany m_wrongNow m_had m_badAct m_badWhy m_wrongAct m_wrongHeir m_odd m_span m_rise m_wins m_stored m_isStored m_storedAt m_isWriting) (cut_full (fun _ => rfl)) (st2 := fun r3 => [.int r3]) (fun _ => rfl) (fun r3 => ?_)
    refine gg_goto C dX9_ofHouse_8 (tgt := 39) (by decide) ?_
    exact gg_iret C M dX9_ofHouse_39 ⟨rfl, rfl⟩
def f_X9_house (m_beat : Nat → Int32) (m_nick : Nat → Int32) (m_owner : Nat → Int32) (m_place : Nat → Int32) (m_kept : Nat → Int32) (m_heard : Nat → Int32) (m_chosen : Nat → Int32) (m_minutes : Int32) (m_pad : Nat → Int32) (m_padMany : Int32) (m_act : Nat → Int32) (m_who : Nat → Int32) (m_much : Nat → Int32) (m_acts : Int32) (m_heardMany : Int32) (m_wrongNow : Int32) (m_had : Nat → Int32) (m_badAct : Int32) (m_badWhy : Int32) (m_wrongAct : Int32) (m_wrongHeir : Int32) (v1 : Int32) : Option (Int32 × (Nat → Int32) × (Nat → Int32) × (Nat → Int32) × (Nat → Int32) × (Nat → Int32) × (Nat → Int32) × Int32 × (Nat → Int32) × (Nat → Int32) × (Nat → Int32) × Int32 × Int32 × Int32 × (Nat → Int32) × Int32 × Int32 × Int32 × Int32) := jn (f_X9_in v1.toInt64 0 3) (fun r1 => if r1 = 0 then some ((-2), m_beat, m_nick, m_owner, m_place, m_heard, m_chosen, m_minutes, m_act, m_who, m_much, m_acts, m_heardMany, m_wrongNow, m_had, m_badAct, m_badWhy, m_wrongAct, m_wrongHeir) else jn (f_X9_refusal m_beat m_nick m_owner m_place m_kept m_heard m_chosen m_minutes m_pad m_padMany m_act m_who m_much m_heardMany m_wrongNow m_had m_badAct m_badWhy m_wrongAct m_wrongHeir) (fun r2 => jn (α := Int32) (if r2.1 = (-6) then jn (f_X9_ofHouse r2.2.2.1 r2.2.2.2.1 r2.2.2.2.2.2.2.1 r2.2.2.2.2.2.2.2.1 v1) (fun r5 => some r5) else some r2.1) (fun z3 => jn (f_X9_back r2.2.1 r2.2.2.1 r2.2.2.2.1 r2.2.2.2.2.1 r2.2.2.2.2.2.1 r2.2.2.2.2.2.2.1 r2.2.2.2.2.2.2.2.2.2.2.2.2.2.2.1 z3) (fun r6 => some (r6.1, r6.2.1, r6.2.2.1, r6.2.2.2.1, r6.2.2.2.2.1, r6.2.2.2.2.2.1, r6.2.2.2.2.2.2.1, r6.2.2.2.2.2.2.2, r2.2.2.2.2.2.2.2.2.1, r2.2.2.2.2.2.2.2.2.2.1, r2.2.2.2.2.2.2.2.2.2.2.1, r2.2.2.2.2.2.2.2.2.2.2.2.1, r2.2.2.2.2.2.2.2.2.2.2.2.2.1, r2.2.2.2.2.2.2.2.2.2.2.2.2.2.1, r2.2.2.2.2.2.2.2.2.2.2.2.2.2.2.1, r2.2.2.2.2.2.2.2.2.2.2.2.2.2.2.2.1, r2.2.2.2.2.2.2.2.2.2.2.2.2.2.2.2.2.1, r2.2.2.2.2.2.2.2.2.2.2.2.2.2.2.2.2.2.1, r2.2.2.2.2.2.2.2.2.2.2.2.2.2.2.2.2.2.2)))))
set_option maxHeartbeats 4000000 in
set_option maxRecDepth 100000 in
theorem c_X9_house (l : Launch) (D : va_G) (T : Nat → ClassId) (a : Nat → Nat) (m_beat : Nat → Int32) (m_nick : Nat → Int32) (m_owner : Nat → Int32) (m_place : Nat → Int32) (m_kept : Nat → Int32) (m_heard : Nat → Int32) (m_chosen : Nat → Int32) (m_minutes : Int32) (m_sightBeat : Nat → Int32) (m_sightOff : Nat → Int32) (m_sightIs : Nat → Int32) (m_sights : Int32) (m_pad : Nat → Int32) (m_padMany : Int32) (m_act : Nat → Int32) (m_who : Nat → Int32) (m_much : Nat → Int32) (m_acts : Int32) (m_heardMany : Int32) (m_wrongNow : Int32) (m_had : Nat → Int32) (m_badAct : Int32) (m_badWhy : Int32) (m_wrongAct : Int32) (m_wrongHeir : Int32) (m_odd : Nat → Int32) (m_span : Nat → Int32) (m_rise : Nat → Int32) (m_wins : Nat → Int32) (m_stored : Nat → Int32) (m_isStored : Nat → Int32) (m_storedAt : Int32) (m_isWriting : Int32) (v1 : Int32) (r : Int32 × (Nat → Int32) × (Nat → Int32) × (Nat → Int32) × (Nat → Int32) × (Nat → Int32) × (Nat → Int32) × Int32 × (Nat → Int32) × (Nat → Int32) × (Nat → Int32) × Int32 × Int32 × Int32 × (Nat → Int32) × Int32 × Int32 × Int32 × Int32) (h : f_X9_house m_beat m_nick m_owner m_place m_kept m_heard m_chosen m_minutes m_pad m_padMany m_act m_who m_much m_acts m_heardMany m_wrongNow m_had m_badAct m_badWhy m_wrongAct m_wrongHeir v1 = some r) : Kt l D T yX9_house cX9_house 3 (some .int) (6, 0, 0, 132) [.ref (a 0), .int v1] (wM T a m_beat m_nick m_owner m_place m_kept m_heard m_chosen m_minutes m_sightBeat m_sightOff m_sightIs m_sights m_pad m_padMany m_act m_who m_much m_acts m_heardMany m_wrongNow m_had m_badAct m_badWhy m_wrongAct m_wrongHeir m_odd m_span m_rise m_wins m_stored m_isStored m_storedAt m_isWriting) (FF (fun (r : Int32 × (Nat → Int32) × (Nat → Int32) × (Nat → Int32) × (Nat → Int32) × (Nat → Int32) × (Nat → Int32) × Int32 × (Nat → Int32) × (Nat → Int32) × (Nat → Int32) × Int32 × Int32 × Int32 × (Nat → Int32) × Int32 × Int32 × Int32 × Int32) => some (.int r.1)) (fun r => wM T a r.2.1 r.2.2.1 r.2.2.2.1 r.2.2.2.2.1 m_kept r.2.2.2.2.2.1 r.2.2.2.2.2.2.1 r.2.2.2.2.2.2.2.1 m_sightBeat m_sightOff m_sightIs m_sights m_pad m_padMany r.2.2.2.2.2.2.2.2.1 r.2.2.2.2.2.2.2.2.2.1 r.2.2.2.2.2.2.2.2.2.2.1 r.2.2.2.2.2.2.2.2.2.2.2.1 r.2.2.2.2.2.2.2.2.2.2.2.2.1 r.2.2.2.2.2.2.2.2.2.2.2.2.2.1 r.2.2.2.2.2.2.2.2.2.2.2.2.2.2.1 r.2.2.2.2.2.2.2.2.2.2.2.2.2.2.2.1 r.2.2.2.2.2.2.2.2.2.2.2.2.2.2.2.2.1 r.2.2.2.2.2.2.2.2.2.2.2.2.2.2.2.2.2.1 r.2.2.2.2.2.2.2.2.2.2.2.2.2.2.2.2.2.2 m_odd m_span m_rise m_wins m_stored m_isStored m_storedAt m_isWriting) r) := by
  refine kt_of (own := RX9) (nm := "house") (lv := [(0, .ref (a 0)), (1, .int v1)]) (by decide) rfl rfl rfl (Nat.le_of_ble_eq_true rfl) h (fun X hn C M => ?_)
  have hnn : ((0, 0) : Nat × Nat).1 ≤ 0 ∧ ((0, 0) : Nat × Nat).2 ≤ 0 := ⟨Nat.le_refl 0, Nat.le_refl 0⟩
  unfold f_X9_house
  refine gg_iload_n C dX9_house_0 rfl 1 rfl ?_
  refine gg_i2l C dX9_house_1 ?_
  refine gg_lconst C dX9_house_2 (v := 0) (by decide) ?_
  refine gg_ldc2 C tw_767 dX9_house_3 ?_
  refine gg_callS C (fun l r h => c_X9_in l D T v1.toInt64 0 3 r h) lk_X9_76 ⟨by decide, by decide⟩ hnn rfl (rest := []) rfl (Nat.le_of_ble_eq_true rfl) dX9_house_6 cut_none (st2 := fun r1 => [.int r1]) (fun _ => rfl) (fun r1 => ?_)
  refine gg_if_ne C dX9_house_9 (tgt := 15) (by decide) (fun _ => ?_) (fun _ => ?_)
  · refine gg_aload_n C dX9_house_15 rfl 0 rfl ?_
    refine gg_callV C (fun l r h => c_X9_refusal l D T a m_beat m_nick m_owner m_place m_kept m_heard m_chosen m_minutes m_sightBeat m_sightOff m_sightIs m_sights m_pad m_padMany m_act m_who m_much m_acts m_heardMany m_wrongNow m_had m_badAct m_badWhy m_wrongAct m_wrongHeir m_odd m_span m_rise m_wins m_stored m_isStored m_storedAt m_isWriting r h) lk_X9_192 ⟨by decide, by decide⟩ hnn rfl (rest := []) rfl (Nat.le_of_ble_eq_true rfl) 0 rfl rfl dX9_house_16 (ws2 := fun r2 => wM T a r2.2.1 r2.2.2.1 r2.2.2.2.1 r2.2.2.2.2.1 m_kept r2.2.2.2.2.2.1 r2.2.2.2.2.2.2.1 r2.2.2.2.2.2.2.2.1 m_sightBeat m_sightOff m_sightIs m_sights m_pad m_padMany r2.2.2.2.2.2.2.2.2.1 r2.2.2.2.2.2.2.2.2.2.1 r2.2.2.2.2.2.2.2.2.2.2.1 r2.2.2.2.2.2.2.2.2.2.2.2.1 r2.2.2.2.2.2.2.2.2.2.2.2.2.1 r2.2.2.2.2.2.2.2.2.2.2.2.2.2.1 r2.2.2.2.2.2.2.2.2.2.2.2.2.2.2.1 r2.2.2.2.2.2.2.2.2.2.2.2.2.2.2.2.1 r2.2.2.2.2.2.2.2.2.2.2.2.2.2.2.2.2.1 r2.2.2.2.2.2.2.2.2.2.2.2.2.2.2.2.2.2.1 r2.2.2.2.2.2.2.2.2.2.2.2.2.2.2.2.2.2.2 m_odd m_span m_rise m_wins m_stored m_isStored m_storedAt m_isWriting) (cut_full (fun _ => rfl)) (st2 := fun r2 => [.int r2.1]) (fun _ => rfl) (fun r2 => ?_)
    refine gg_istore_n C dX9_house_19 rfl hn (by decide) (lv' := [(2, .int r2.1), (0, .ref (a 0)), (1, .int v1)]) rfl ?_
    refine gg_aload_n C dX9_house_20 rfl 1 rfl ?_
    refine gg_iload_n C dX9_house_21 rfl 0 rfl ?_
    refine gg_bipush C dX9_house_22 kB_m6 ?_
    refine gg_join (α := Int32) 36 (fun z3 => wM T a r2.2.1 r2.2.2.1 r2.2.2.2.1 r2.2.2.2.2.1 m_kept r2.2.2.2.2.2.1 r2.2.2.2.2.2.2.1 r2.2.2.2.2.2.2.2.1 m_sightBeat m_sightOff m_sightIs m_sights m_pad m_padMany r2.2.2.2.2.2.2.2.2.1 r2.2.2.2.2.2.2.2.2.2.1 r2.2.2.2.2.2.2.2.2.2.2.1 r2.2.2.2.2.2.2.2.2.2.2.2.1 r2.2.2.2.2.2.2.2.2.2.2.2.2.1 r2.2.2.2.2.2.2.2.2.2.2.2.2.2.1 r2.2.2.2.2.2.2.2.2.2.2.2.2.2.2.1 r2.2.2.2.2.2.2.2.2.2.2.2.2.2.2.2.1 r2.2.2.2.2.2.2.2.2.2.2.2.2.2.2.2.2.1 r2.2.2.2.2.2.2.2.2.2.2.2.2.2.2.2.2.2.1 r2.2.2.2.2.2.2.2.2.2.2.2.2.2.2.2.2.2.2 m_odd m_span m_rise m_wins m_stored m_isStored m_storedAt m_isWriting) (fun z3 => [(0, .ref (a 0)), (1, .int v1), (2, .int r2.1)]) (fun z3 => [.int z3, .ref (a 0)]) (fun z3 => ?_) (fun K4 => ?_)
    · refine gg_callV C (fun l r h => c_X9_back l D T a r2.2.1 r2.2.2.1 r2.2.2.2.1 r2.2.2.2.2.1 m_kept r2.2.2.2.2.2.1 r2.2.2.2.2.2.2.1 r2.2.2.2.2.2.2.2.1 m_sightBeat m_sightOff m_sightIs m_sights m_pad m_padMany r2.2.2.2.2.2.2.2.2.1 r2.2.2.2.2.2.2.2.2.2.1 r2.2.2.2.2.2.2.2.2.2.2.1 r2.2.2.2.2.2.2.2.2.2.2.2.1 r2.2.2.2.2.2.2.2.2.2.2.2.2.1 r2.2.2.2.2.2.2.2.2.2.2.2.2.2.1 r2.2.2.2.2.2.2.2.2.2.2.2.2.2.2.1 r2.2.2.2.2.2.2.2.2.2.2.2.2.2.2.2.1 r2.2.2.2.2.2.2.2.2.2.2.2.2.2.2.2.2.1 r2.2.2.2.2.2.2.2.2.2.2.2.2.2.2.2.2.2.1 r2.2.2.2.2.2.2.2.2.2.2.2.2.2.2.2.2.2.2 m_odd m_span m_rise m_wins m_stored m_isStored m_storedAt m_isWriting z3 r h) lk_X9_195 ⟨by decide, by decide⟩ hnn rfl (rest := []) rfl (Nat.le_of_ble_eq_true rfl) 0 rfl rfl dX9_house_36 (ws2 := fun r6 => wM T a r6.2.1 r6.2.2.1 r6.2.2.2.1 r6.2.2.2.2.1 m_kept r6.2.2.2.2.2.1 r6.2.2.2.2.2.2.1 r6.2.2.2.2.2.2.2 m_sightBeat m_sightOff m_sightIs m_sights m_pad m_padMany r2.2.2.2.2.2.2.2.2.1 r2.2.2.2.2.2.2.2.2.2.1 r2.2.2.2.2.2.2.2.2.2.2.1 r2.2.2.2.2.2.2.2.2.2.2.2.1 r2.2.2.2.2.2.2.2.2.2.2.2.2.1 r2.2.2.2.2.2.2.2.2.2.2.2.2.2.1 r2.2.2.2.2.2.2.2.2.2.2.2.2.2.2.1 r2.2.2.2.2.2.2.2.2.2.2.2.2.2.2.2.1 r2.2.2.2.2.2.2.2.2.2.2.2.2.2.2.2.2.1 r2.2.2.2.2.2.2.2.2.2.2.2.2.2.2.2.2.2.1 r2.2.2.2.2.2.2.2.2.2.2.2.2.2.2.2.2.2.2 m_odd m_span m_rise m_wins m_stored m_isStored m_storedAt m_isWriting) (cut_full (fun _ => rfl)) (st2 := fun r6 => [.int r6.1]) (fun _ => rfl) (fun r6 => ?_)
      exact gg_iret C M dX9_house_39 ⟨rfl, rfl⟩
    · refine gg_icmp_eq C dX9_house_24 (tgt := 31) (by decide) (fun _ => ?_) (fun _ => ?_)
      · refine gg_aload_n C dX9_house_31 rfl 1 rfl ?_
        refine gg_iload_n C dX9_house_32 rfl 2 rfl ?_
        refine gg_callV C (fun l r h => c_X9_ofHouse l D T a r2.2.1 r2.2.2.1 r2.2.2.2.1 r2.2.2.2.2.1 m_kept r2.2.2.2.2.2.1 r2.2.2.2.2.2.2.1 r2.2.2.2.2.2.2.2.1 m_sightBeat m_sightOff m_sightIs m_sights m_pad m_padMany r2.2.2.2.2.2.2.2.2.1 r2.2.2.2.2.2.2.2.2.2.1 r2.2.2.2.2.2.2.2.2.2.2.1 r2.2.2.2.2.2.2.2.2.2.2.2.1 r2.2.2.2.2.2.2.2.2.2.2.2.2.1 r2.2.2.2.2.2.2.2.2.2.2.2.2.2.1 r2.2.2.2.2.2.2.2.2.2.2.2.2.2.2.1 r2.2.2.2.2.2.2.2.2.2.2.2.2.2.2.2.1 r2.2.2.2.2.2.2.2.2.2.2.2.2.2.2.2.2.1 r2.2.2.2.2.2.2.2.2.2.2.2.2.2.2.2.2.2.1 r2.2.2.2.2.2.2.2.2.2.2.2.2.2.2.2.2.2.2 m_odd m_span m_rise m_wins m_stored m_isStored m_storedAt m_isWriting v1 r h) lk_X9_209 ⟨by decide, by decide⟩ hnn rfl (rest := [.ref (a 0)]) rfl (Nat.le_of_ble_eq_true rfl) 0 rfl rfl dX9_house_33 (ws2 := fun r5 => wM T a r2.2.1 r2.2.2.1 r2.2.2.2.1 r2.2.2.2.2.1 m_kept r2.2.2.2.2.2.1 r2.2.2.2.2.2.2.1 r2.2.2.2.2.2.2.2.1 m_sightBeat m_sightOff m_sightIs m_sights m_pad m_padMany r2.2.2.2.2.2.2.2.2.1 r2.2.2.2.2.2.2.2.2.2.1 r2.2.2.2.2.2.2.2.2.2.2.1 r2.2.2.2.2.2.2.2.2.2.2.2.1 r2.2.2.2.2.2.2.2.2.2.2.2.2.1 r2.2.2.2.2.2.2.2.2.2.2.2.2.2.1 r2.2.2.2.2.2.2.2.2.2.2.2.2.2.2.1 r2.2.2.2.2.2.2.2.2.2.2.2.2.2.2.2.1 r2.2.2.2.2.2.2.2.2.2.2.2.2.2.2.2.2.1 r2.2.2.2.2.2.2.2.2.2.2.2.2.2.2.2.2.2.1 r2.2.2.2.2.2.2.2.2.2.2.2.2.2.2.2.2.2.2 m_odd m_span m_rise m_wins m_stored m_isStored m_storedAt m_isWriting) (cut_full (fun _ => rfl)) (st2 := fun r5 => [.int r5, .ref (a 0)]) (fun _ => rfl) (fun r5 => ?_)
        refine gg_sub [1, 2, 0] rfl ?_
        exact K4 r5
      · refine gg_iload_n C dX9_house_27 rfl 0 rfl ?_
        refine gg_goto C dX9_house_28 (tgt := 36) (by decide) ?_
        refine gg_sub [1, 2, 0] rfl ?_
        exact K4 r2.1
  · refine gg_bipush C dX9_house_12 kB_m2 ?_
    exact gg_iret C M dX9_house_14 ⟨rfl, rfl⟩
def f_X9_wrong (m_beat : Nat → Int32) (m_nick : Nat → Int32) (m_owner : Nat → Int32) (m_place : Nat → Int32) (m_kept : Nat → Int32) (m_heard : Nat → Int32) (m_chosen : Nat → Int32) (m_minutes : Int32) (m_pad : Nat → Int32) (m_padMany : Int32) (m_act : Nat → Int32) (m_who : Nat → Int32) (m_much : Nat → Int32) (m_acts : Int32) (m_heardMany : Int32) (m_wrongNow : Int32) (m_had : Nat → Int32) (m_badAct : Int32) (m_badWhy : Int32) (m_wrongAct : Int32) (m_wrongHeir : Int32) (v1 : Int32) : Option (Int32 × (Nat → Int32) × (Nat → Int32) × (Nat → Int32) × (Nat → Int32) × (Nat → Int32) × (Nat → Int32) × Int32 × (Nat → Int32) × (Nat → Int32) × (Nat → Int32) × Int32 × Int32 × Int32 × (Nat → Int32) × Int32 × Int32 × Int32 × Int32) := jn (f_X9_in v1.toInt64 0 1) (fun r1 => if r1 = 0 then some ((-2), m_beat, m_nick, m_owner, m_place, m_heard, m_chosen, m_minutes, m_act, m_who, m_much, m_acts, m_heardMany, m_wrongNow, m_had, m_badAct, m_badWhy, m_wrongAct, m_wrongHeir) else jn (f_X9_refusal m_beat m_nick m_owner m_place m_kept m_heard m_chosen m_minutes m_pad m_padMany m_act m_who m_much m_heardMany m_wrongNow m_had m_badAct m_badWhy m_wrongAct m_wrongHeir) (fun r2 => jn (f_X9_back r2.2.1 r2.2.2.1 r2.2.2.2.1 r2.2.2.2.2.1 r2.2.2.2.2.2.1 r2.2.2.2.2.2.2.1 r2.2.2.2.2.2.2.2.2.2.2.2.2.2.2.1 r2.1) (fun r3 => if r3.1 = (-6) then if v1 = 0 then some (r2.2.2.2.2.2.2.2.2.2.2.2.2.2.2.2.2.2.1, r3.2.1, r3.2.2.1, r3.2.2.2.1, r3.2.2.2.2.1, r3.2.2.2.2.2.1, r3.2.2.2.2.2.2.1, r3.2.2.2.2.2.2.2, r2.2.2.2.2.2.2.2.2.1, r2.2.2.2.2.2.2.2.2.2.1, r2.2.2.2.2.2.2.2.2.2.2.1, r2.2.2.2.2.2.2.2.2.2.2.2.1, r2.2.2.2.2.2.2.2.2.2.2.2.2.1, r2.2.2.2.2.2.2.2.2.2.2.2.2.2.1, r2.2.2.2.2.2.2.2.2.2.2.2.2.2.2.1, r2.2.2.2.2.2.2.2.2.2.2.2.2.2.2.2.1, r2.2.2.2.2.2.2.2.2.2.2.2.2.2.2.2.2.1, r2.2.2.2.2.2.2.2.2.2.2.2.2.2.2.2.2.2.1, r2.2.2.2.2.2.2.2.2.2.2.2.2.2.2.2.2.2.2) else some (r2.2.2.2.2.2.2.2.2.2.2.2.2.2.2.2.2.2.2, r3.2.1, r3.2.2.1, r3.2.2.2.1, r3.2.2.2.2.1, r3.2.2.2.2.2.1, r3.2.2.2.2.2.2.1, r3.2.2.2.2.2.2.2, r2.2.2.2.2.2.2.2.2.1, r2.2.2.2.2.2.2.2.2.2.1, r2.2.2.2.2.2.2.2.2.2.2.1, r2.2.2.2.2.2.2.2.2.2.2.2.1, r2.2.2.2.2.2.2.2.2.2.2.2.2.1, r2.2.2.2.2.2.2.2.2.2.2.2.2.2.1, r2.2.2.2.2.2.2.2.2.2.2.2.2.2.2.1, r2.2.2.2.2.2.2.2.2.2.2.2.2.2.2.2.1, r2.2.2.2.2.2.2.2.2.2.2.2.2.2.2.2.2.1, r2.2.2.2.2.2.2.2.2.2.2.2.2.2.2.2.2.2.1, r2.2.2.2.2.2.2.2.2.2.2.2.2.2.2.2.2.2.2) else some (r3.1, r3.2.1, r3.2.2.1, r3.2.2.2.1, r3.2.2.2.2.1, r3.2.2.2.2.2.1, r3.2.2.2.2.2.2.1, r3.2.2.2.2.2.2.2, r2.2.2.2.2.2.2.2.2.1, r2.2.2.2.2.2.2.2.2.2.1, r2.2.2.2.2.2.2.2.2.2.2.1, r2.2.2.2.2.2.2.2.2.2.2.2.1, r2.2.2.2.2.2.2.2.2.2.2.2.2.1, r2.2.2.2.2.2.2.2.2.2.2.2.2.2.1, r2.2.2.2.2.2.2.2.2.2.2.2.2.2.2.1, r2.2.2.2.2.2.2.2.2.2.2.2.2.2.2.2.1, r2.2.2.2.2.2.2.2.2.2.2.2.2.2.2.2.2.1, r2.2.2.2.2.2.2.2.2.2.2.2.2.2.2.2.2.2.1, r2.2.2.2.2.2.2.2.2.2.2.2.2.2.2.2.2.2.2))))
set_option maxHeartbeats 4000000 in
set_option maxRecDepth 100000 in
theorem c_X9_wrong (l : Launch) (D : va_G) (T : Nat → ClassId) (a : Nat → Nat) (m_beat : Nat → Int32) (m_nick : Nat → Int32) (m_owner : Nat → Int32) (m_place : Nat → Int32) (m_kept : Nat → Int32) (m_heard : Nat → Int32) (m_chosen : Nat → Int32) (m_minutes : Int32) (m_sightBeat : Nat → Int32) (m_sightOff : Nat → Int32) (m_sightIs : Nat → Int32) (m_sights : Int32) (m_pad : Nat → Int32) (m_padMany : Int32) (m_act : Nat → Int32) (m_who : Nat → Int32) (m_much : Nat → Int32) (m_acts : Int32) (m_heardMany : Int32) (m_wrongNow : Int32) (m_had : Nat → Int32) (m_badAct : Int32) (m_badWhy : Int32) (m_wrongAct : Int32) (m_wrongHeir : Int32) (m_odd : Nat → Int32) (m_span : Nat → Int32) (m_rise : Nat → Int32) (m_wins : Nat → Int32) (m_stored : Nat → Int32) (m_isStored : Nat → Int32) (m_storedAt : Int32) (m_isWriting : Int32) (v1 : Int32) (r : Int32 × (Nat → Int32) × (Nat → Int32) × (Nat → Int32) × (Nat → Int32) × (Nat → Int32) × (Nat → Int32) × Int32 × (Nat → Int32) × (Nat → Int32) × (Nat → Int32) × Int32 × Int32 × Int32 × (Nat → Int32) × Int32 × Int32 × Int32 × Int32) (h : f_X9_wrong m_beat m_nick m_owner m_place m_kept m_heard m_chosen m_minutes m_pad m_padMany m_act m_who m_much m_acts m_heardMany m_wrongNow m_had m_badAct m_badWhy m_wrongAct m_wrongHeir v1 = some r) : Kt l D T yX9_wrong cX9_wrong 3 (some .int) (6, 0, 0, 132) [.ref (a 0), .int v1] (wM T a m_beat m_nick m_owner m_place m_kept m_heard m_chosen m_minutes m_sightBeat m_sightOff m_sightIs m_sights m_pad m_padMany m_act m_who m_much m_acts m_heardMany m_wrongNow m_had m_badAct m_badWhy m_wrongAct m_wrongHeir m_odd m_span m_rise m_wins m_stored m_isStored m_storedAt m_isWriting) (FF (fun (r : Int32 × (Nat → Int32) × (Nat → Int32) × (Nat → Int32) × (Nat → Int32) × (Nat → Int32) × (Nat → Int32) × Int32 × (Nat → Int32) × (Nat → Int32) × (Nat → Int32) × Int32 × Int32 × Int32 × (Nat → Int32) × Int32 × Int32 × Int32 × Int32) => some (.int r.1)) (fun r => wM T a r.2.1 r.2.2.1 r.2.2.2.1 r.2.2.2.2.1 m_kept r.2.2.2.2.2.1 r.2.2.2.2.2.2.1 r.2.2.2.2.2.2.2.1 m_sightBeat m_sightOff m_sightIs m_sights m_pad m_padMany r.2.2.2.2.2.2.2.2.1 r.2.2.2.2.2.2.2.2.2.1 r.2.2.2.2.2.2.2.2.2.2.1 r.2.2.2.2.2.2.2.2.2.2.2.1 r.2.2.2.2.2.2.2.2.2.2.2.2.1 r.2.2.2.2.2.2.2.2.2.2.2.2.2.1 r.2.2.2.2.2.2.2.2.2.2.2.2.2.2.1 r.2.2.2.2.2.2.2.2.2.2.2.2.2.2.2.1 r.2.2.2.2.2.2.2.2.2.2.2.2.2.2.2.2.1 r.2.2.2.2.2.2.2.2.2.2.2.2.2.2.2.2.2.1 r.2.2.2.2.2.2.2.2.2.2.2.2.2.2.2.2.2.2 m_odd m_span m_rise m_wins m_stored m_isStored m_storedAt m_isWriting) r) := by
  refine kt_of (own := RX9) (nm := "wrong") (lv := [(0, .ref (a 0)), (1, .int v1)]) (by decide) rfl rfl rfl (Nat.le_of_ble_eq_true rfl) h (fun X hn C M => ?_)
  have hnn : ((0, 0) : Nat × Nat).1 ≤ 0 ∧ ((0, 0) : Nat × Nat).2 ≤ 0 := ⟨Nat.le_refl 0, Nat.le_refl 0⟩
  unfold f_X9_wrong
  refine gg_iload_n C dX9_wrong_0 rfl 1 rfl ?_
  refine gg_i2l C dX9_wrong_1 ?_
  refine gg_lconst C dX9_wrong_2 (v := 0) (by decide) ?_
  refine gg_lconst C dX9_wrong_3 (v := 1) (by decide) ?_
  refine gg_callS C (fun l r h => c_X9_in l D T v1.toInt64 0 1 r h) lk_X9_76 ⟨by decide, by decide⟩ hnn rfl (rest := []) rfl (Nat.le_of_ble_eq_true rfl) dX9_wrong_4 cut_none (st2 := fun r1 => [.int r1]) (fun _ => rfl) (fun r1 => ?_)
  refine gg_if_ne C dX9_wrong_7 (tgt := 13) (by decide) (fun _ => ?_) (fun _ => ?_)
  · refine gg_aload_n C dX9_wrong_13 rfl 0 rfl ?_
    refine gg_aload_n C dX9_wrong_14 rfl 0 rfl ?_
    refine gg_callV C (fun l r h => c_X9_refusal l D T a m_beat m_nick m_owner m_place m_kept m_heard m_chosen m_minutes m_sightBeat m_sightOff m_sightIs m_sights m_pad m_padMany m_act m_who m_much m_acts m_heardMany m_wrongNow m_had m_badAct m_badWhy m_wrongAct m_wrongHeir m_odd m_span m_rise m_wins m_stored m_isStored m_storedAt m_isWriting r h) lk_X9_192 ⟨by decide, by decide⟩ hnn rfl (rest := [.ref (a 0)]) rfl (Nat.le_of_ble_eq_true rfl) 0 rfl rfl dX9_wrong_15 (ws2 := fun r2 => wM T a r2.2.1 r2.2.2.1 r2.2.2.2.1 r2.2.2.2.2.1 m_kept r2.2.2.2.2.2.1 r2.2.2.2.2.2.2.1 r2.2.2.2.2.2.2.2.1 m_sightBeat m_sightOff m_sightIs m_sights m_pad m_padMany r2.2.2.2.2.2.2.2.2.1 r2.2.2.2.2.2.2.2.2.2.1 r2.2.2.2.2.2.2.2.2.2.2.1 r2.2.2.2.2.2.2.2.2.2.2.2.1 r2.2.2.2.2.2.2.2.2.2.2.2.2.1 r2.2.2.2.2.2.2.2.2.2.2.2.2.2.1 r2.2.2.2.2.2.2.2.2.2.2.2.2.2.2.1 r2.2.2.2.2.2.2.2.2.2.2.2.2.2.2.2.1 r2.2.2.2.2.2.2.2.2.2.2.2.2.2.2.2.2.1 r2.2.2.2.2.2.2.2.2.2.2.2.2.2.2.2.2.2.1 r2.2.2.2.2.2.2.2.2.2.2.2.2.2.2.2.2.2.2 m_odd m_span m_rise m_wins m_stored m_isStored m_storedAt m_isWriting) (cut_full (fun _ => rfl)) (st2 := fun r2 => [.int r2.1, .ref (a 0)]) (fun _ => rfl) (fun r2 => ?_)
    refine gg_callV C (fun l r h => c_X9_back l D T a r2.2.1 r2.2.2.1 r2.2.2.2.1 r2.2.2.2.2.1 m_kept r2.2.2.2.2.2.1 r2.2.2.2.2.2.2.1 r2.2.2.2.2.2.2.2.1 m_sightBeat m_sightOff m_sightIs m_sights m_pad m_padMany r2.2.2.2.2.2.2.2.2.1 r2.2.2.2.2.2.2.2.2.2.1 r2.2.2.2.2.2.2.2.2.2.2.1 r2.2.2.2.2.2.2.2.2.2.2.2.1 r2.2.2.2.2.2.2.2.2.2.2.2.2.1 r2.2.2.2.2.2.2.2.2.2.2.2.2.2.1 r2.2.2.2.2.2.2.2.2.2.2.2.2.2.2.1 r2.2.2.2.2.2.2.2.2.2.2.2.2.2.2.2.1 r2.2.2.2.2.2.2.2.2.2.2.2.2.2.2.2.2.1 r2.2.2.2.2.2.2.2.2.2.2.2.2.2.2.2.2.2.1 r2.2.2.2.2.2.2.2.2.2.2.2.2.2.2.2.2.2.2 m_odd m_span m_rise m_wins m_stored m_isStored m_storedAt m_isWriting r2.1 r h) lk_X9_195 ⟨by decide, by decide⟩ hnn rfl (rest := []) rfl (Nat.le_of_ble_eq_true rfl) 0 rfl rfl dX9_wrong_18 (ws2 := fun r3 => wM T a r3.2.1 r3.2.2.1 r3.2.2.2.1 r3.2.2.2.2.1 m_kept r3.2.2.2.2.2.1 r3.2.2.2.2.2.2.1 r3.2.2.2.2.2.2.2 m_sightBeat m_sightOff m_sightIs m_sights m_pad m_padMany r2.2.2.2.2.2.2.2.2.1 r2.2.2.2.2.2.2.2.2.2.1 r2.2.2.2.2.2.2.2.2.2.2.1 r2.2.2.2.2.2.2.2.2.2.2.2.1 r2.2.2.2.2.2.2.2.2.2.2.2.2.1 r2.2.2.2.2.2.2.2.2.2.2.2.2.2.1 r2.2.2.2.2.2.2.2.2.2.2.2.2.2.2.1 r2.2.2.2.2.2.2.2.2.2.2.2.2.2.2.2.1 r2.2.2.2.2.2.2.2.2.2.2.2.2.2.2.2.2.1 r2.2.2.2.2.2.2.2.2.2.2.2.2.2.2.2.2.2.1 r2.2.2.2.2.2.2.2.2.2.2.2.2.2.2.2.2.2.2 m_odd m_span m_rise m_wins m_stored m_isStored m_storedAt m_isWriting) (cut_full (fun _ => rfl)) (st2 := fun r3 => [.int r3.1]) (fun _ => rfl) (fun r3 => ?_)
    refine gg_istore_n C dX9_wrong_21 rfl hn (by decide) (lv' := [(2, .int r3.1), (0, .ref (a 0)), (1, .int v1)]) rfl ?_
    refine gg_iload_n C dX9_wrong_22 rfl 0 rfl ?_
    refine gg_bipush C dX9_wrong_23 kB_m6 ?_
    refine gg_icmp_eq C dX9_wrong_25 (tgt := 32) (by decide) (fun _ => ?_) (fun _ => ?_)
    · refine gg_iload_n C dX9_wrong_32 rfl 2 rfl ?_
      refine gg_if_ne C dX9_wrong_33 (tgt := 43) (by decide) (fun _ => ?_) (fun _ => ?_)
      · refine gg_aload_n C dX9_wrong_43 rfl 1 rfl ?_
        refine gf_X9_164 C 0 rfl rfl dX9_wrong_44 ?_
        exact gg_iret C M dX9_wrong_47 ⟨rfl, rfl⟩
      · refine gg_aload_n C dX9_wrong_36 rfl 1 rfl ?_
        refine gf_X9_161 C 0 rfl rfl dX9_wrong_37 ?_
        refine gg_goto C dX9_wrong_40 (tgt := 47) (by decide) ?_
        exact gg_iret C M dX9_wrong_47 ⟨rfl, rfl⟩
    · refine gg_iload_n C dX9_wrong_28 rfl 0 rfl ?_
      refine gg_goto C dX9_wrong_29 (tgt := 47) (by decide) ?_
      exact gg_iret C M dX9_wrong_47 ⟨rfl, rfl⟩
  · refine gg_bipush C dX9_wrong_10 kB_m2 ?_
    exact gg_iret C M dX9_wrong_12 ⟨rfl, rfl⟩
def f_X9_done (m_beat : Nat → Int32) (m_nick : Nat → Int32) (m_owner : Nat → Int32) (m_place : Nat → Int32) (m_kept : Nat → Int32) (m_heard : Nat → Int32) (m_chosen : Nat → Int32) (m_minutes : Int32) (m_pad : Nat → Int32) (m_padMany : Int32) (m_act : Nat → Int32) (m_who : Nat → Int32) (m_much : Nat → Int32) (m_heardMany : Int32) (m_wrongNow : Int32) (m_had : Nat → Int32) (m_badAct : Int32) (m_badWhy : Int32) (m_wrongAct : Int32) (m_wrongHeir : Int32) : Option (Int32 × (Nat → Int32) × (Nat → Int32) × (Nat → Int32) × (Nat → Int32) × (Nat → Int32) × (Nat → Int32) × Int32 × Int32 × (Nat → Int32) × (Nat → Int32) × (Nat → Int32) × Int32 × Int32 × Int32 × (Nat → Int32) × Int32 × Int32 × Int32 × Int32) := jn (f_X9_refusal m_beat m_nick m_owner m_place m_kept m_heard m_chosen m_minutes m_pad m_padMany m_act m_who m_much m_heardMany m_wrongNow m_had m_badAct m_badWhy m_wrongAct m_wrongHeir) (fun r1 => if r1.1 = (-6) then some (r1.2.2.2.2.2.2.2.2.2.2.2.1, r1.2.1, r1.2.2.1, r1.2.2.2.1, r1.2.2.2.2.1, r1.2.2.2.2.2.1, r1.2.2.2.2.2.2.1, r1.2.2.2.2.2.2.2.1, 0, r1.2.2.2.2.2.2.2.2.1, r1.2.2.2.2.2.2.2.2.2.1, r1.2.2.2.2.2.2.2.2.2.2.1, r1.2.2.2.2.2.2.2.2.2.2.2.1, r1.2.2.2.2.2.2.2.2.2.2.2.2.1, r1.2.2.2.2.2.2.2.2.2.2.2.2.2.1, r1.2.2.2.2.2.2.2.2.2.2.2.2.2.2.1, r1.2.2.2.2.2.2.2.2.2.2.2.2.2.2.2.1, r1.2.2.2.2.2.2.2.2.2.2.2.2.2.2.2.2.1, r1.2.2.2.2.2.2.2.2.2.2.2.2.2.2.2.2.2.1, r1.2.2.2.2.2.2.2.2.2.2.2.2.2.2.2.2.2.2) else jn (f_X9_back r1.2.1 r1.2.2.1 r1.2.2.2.1 r1.2.2.2.2.1 r1.2.2.2.2.2.1 r1.2.2.2.2.2.2.1 r1.2.2.2.2.2.2.2.2.2.2.2.2.2.2.1 r1.1) (fun r2 => some (r2.1, r2.2.1, r2.2.2.1, r2.2.2.2.1, r2.2.2.2.2.1, r2.2.2.2.2.2.1, r2.2.2.2.2.2.2.1, r2.2.2.2.2.2.2.2, m_padMany, r1.2.2.2.2.2.2.2.2.1, r1.2.2.2.2.2.2.2.2.2.1, r1.2.2.2.2.2.2.2.2.2.2.1, r1.2.2.2.2.2.2.2.2.2.2.2.1, r1.2.2.2.2.2.2.2.2.2.2.2.2.1, r1.2.2.2.2.2.2.2.2.2.2.2.2.2.1, r1.2.2.2.2.2.2.2.2.2.2.2.2.2.2.1, r1.2.2.2.2.2.2.2.2.2.2.2.2.2.2.2.1, r1.2.2.2.2.2.2.2.2.2.2.2.2.2.2.2.2.1, r1.2.2.2.2.2.2.2.2.2.2.2.2.2.2.2.2.2.1, r1.2.2.2.2.2.2.2.2.2.2.2.2.2.2.2.2.2.2)))
set_option maxHeartbeats 4000000 in
set_option maxRecDepth 100000 in
theorem c_X9_done (l : Launch) (D : va_G) (T : Nat → ClassId) (a : Nat → Nat) (m_beat : Nat → Int32) (m_nick : Nat → Int32) (m_owner : Nat → Int32) (m_place : Nat → Int32) (m_kept : Nat → Int32) (m_heard : Nat → Int32) (m_chosen : Nat → Int32) (m_minutes : Int32) (m_sightBeat : Nat → Int32) (m_sightOff : Nat → Int32) (m_sightIs : Nat → Int32) (m_sights : Int32) (m_pad : Nat → Int32) (m_padMany : Int32) (m_act : Nat → Int32) (m_who : Nat → Int32) (m_much : Nat → Int32) (m_acts : Int32) (m_heardMany : Int32) (m_wrongNow : Int32) (m_had : Nat → Int32) (m_badAct : Int32) (m_badWhy : Int32) (m_wrongAct : Int32) (m_wrongHeir : Int32) (m_odd : Nat → Int32) (m_span : Nat → Int32) (m_rise : Nat → Int32) (m_wins : Nat → Int32) (m_stored : Nat → Int32) (m_isStored : Nat → Int32) (m_storedAt : Int32) (m_isWriting : Int32) (r : Int32 × (Nat → Int32) × (Nat → Int32) × (Nat → Int32) × (Nat → Int32) × (Nat → Int32) × (Nat → Int32) × Int32 × Int32 × (Nat → Int32) × (Nat → Int32) × (Nat → Int32) × Int32 × Int32 × Int32 × (Nat → Int32) × Int32 × Int32 × Int32 × Int32) (h : f_X9_done m_beat m_nick m_owner m_place m_kept m_heard m_chosen m_minutes m_pad m_padMany m_act m_who m_much m_heardMany m_wrongNow m_had m_badAct m_badWhy m_wrongAct m_wrongHeir = some r) : Kt l D T yX9_done cX9_done 2 (some .int) (6, 0, 0, 132) [.ref (a 0)] (wM T a m_beat m_nick m_owner m_place m_kept m_heard m_chosen m_minutes m_sightBeat m_sightOff m_sightIs m_sights m_pad m_padMany m_act m_who m_much m_acts m_heardMany m_wrongNow m_had m_badAct m_badWhy m_wrongAct m_wrongHeir m_odd m_span m_rise m_wins m_stored m_isStored m_storedAt m_isWriting) (FF (fun (r : Int32 × (Nat → Int32) × (Nat → Int32) × (Nat → Int32) × (Nat → Int32) × (Nat → Int32) × (Nat → Int32) × Int32 × Int32 × (Nat → Int32) × (Nat → Int32) × (Nat → Int32) × Int32 × Int32 × Int32 × (Nat → Int32) × Int32 × Int32 × Int32 × Int32) => some (.int r.1)) (fun r => wM T a r.2.1 r.2.2.1 r.2.2.2.1 r.2.2.2.2.1 m_kept r.2.2.2.2.2.1 r.2.2.2.2.2.2.1 r.2.2.2.2.2.2.2.1 m_sightBeat m_sightOff m_sightIs m_sights m_pad r.2.2.2.2.2.2.2.2.1 r.2.2.2.2.2.2.2.2.2.1 r.2.2.2.2.2.2.2.2.2.2.1 r.2.2.2.2.2.2.2.2.2.2.2.1 r.2.2.2.2.2.2.2.2.2.2.2.2.1 r.2.2.2.2.2.2.2.2.2.2.2.2.2.1 r.2.2.2.2.2.2.2.2.2.2.2.2.2.2.1 r.2.2.2.2.2.2.2.2.2.2.2.2.2.2.2.1 r.2.2.2.2.2.2.2.2.2.2.2.2.2.2.2.2.1 r.2.2.2.2.2.2.2.2.2.2.2.2.2.2.2.2.2.1 r.2.2.2.2.2.2.2.2.2.2.2.2.2.2.2.2.2.2.1 r.2.2.2.2.2.2.2.2.2.2.2.2.2.2.2.2.2.2.2 m_odd m_span m_rise m_wins m_stored m_isStored m_storedAt m_isWriting) r) := by
  refine kt_of (own := RX9) (nm := "done") (lv := [(0, .ref (a 0))]) (by decide) rfl rfl rfl (Nat.le_of_ble_eq_true rfl) h (fun X hn C M => ?_)
  have hnn : ((0, 0) : Nat × Nat).1 ≤ 0 ∧ ((0, 0) : Nat × Nat).2 ≤ 0 := ⟨Nat.le_refl 0, Nat.le_refl 0⟩
  unfold f_X9_done
  refine gg_aload_n C dX9_done_0 rfl 0 rfl ?_
  refine gg_callV C (fun l r h => c_X9_refusal l D T a m_beat m_nick m_owner m_place m_kept m_heard m_chosen m_minutes m_sightBeat m_sightOff m_sightIs m_sights m_pad m_padMany m_act m_who m_much m_acts m_heardMany m_wrongNow m_had m_badAct m_badWhy m_wrongAct m_wrongHeir m_odd m_span m_rise m_wins m_stored m_isStored m_storedAt m_isWriting r h) lk_X9_192 ⟨by decide, by decide⟩ hnn rfl (rest := []) rfl (Nat.le_of_ble_eq_true rfl) 0 rfl rfl dX9_done_1 (ws2 := fun r1 => wM T a r1.2.1 r1.2.2.1 r1.2.2.2.1 r1.2.2.2.2.1 m_kept r1.2.2.2.2.2.1 r1.2.2.2.2.2.2.1 r1.2.2.2.2.2.2.2.1 m_sightBeat m_sightOff m_sightIs m_sights m_pad m_padMany r1.2.2.2.2.2.2.2.2.1 r1.2.2.2.2.2.2.2.2.2.1 r1.2.2.2.2.2.2.2.2.2.2.1 r1.2.2.2.2.2.2.2.2.2.2.2.1 r1.2.2.2.2.2.2.2.2.2.2.2.2.1 r1.2.2.2.2.2.2.2.2.2.2.2.2.2.1 r1.2.2.2.2.2.2.2.2.2.2.2.2.2.2.1 r1.2.2.2.2.2.2.2.2.2.2.2.2.2.2.2.1 r1.2.2.2.2.2.2.2.2.2.2.2.2.2.2.2.2.1 r1.2.2.2.2.2.2.2.2.2.2.2.2.2.2.2.2.2.1 r1.2.2.2.2.2.2.2.2.2.2.2.2.2.2.2.2.2.2 m_odd m_span m_rise m_wins m_stored m_isStored m_storedAt m_isWriting) (cut_full (fun _ => rfl)) (st2 := fun r1 => [.int r1.1]) (fun _ => rfl) (fun r1 => ?_)
  refine gg_istore_n C dX9_done_4 rfl hn (by decide) (lv' := [(1, .int r1.1), (0, .ref (a 0))]) rfl ?_
  refine gg_iload_n C dX9_done_5 rfl 0 rfl ?_
  refine gg_bipush C dX9_done_6 kB_m6 ?_
  refine gg_icmp_eq C dX9_done_8 (tgt := 17) (by decide) (fun _ => ?_) (fun _ => ?_)
  · refine gg_aload_n C dX9_done_17 rfl 1 rfl ?_
    refine gg_iconst C dX9_done_18 kI_0 ?_
    refine pf_X9_97 C 0 rfl (Nat.le_of_ble_eq_true rfl) dX9_done_19 (ws' := wM T a r1.2.1 r1.2.2.1 r1.2.2.2.1 r1.2.2.2.2.1 m_kept r1.2.2.2.2.2.1 r1.2.2.2.2.2.2.1 r1.2.2.2.2.2.2.2.1 m_sightBeat m_sightOff m_sightIs m_sights m_pad 0 r1.2.2.2.2.2.2.2.2.1 r1.2.2.2.2.2.2.2.2.2.1 r1.2.2.2.2.2.2.2.2.2.2.1 r1.2.2.2.2.2.2.2.2.2.2.2.1 r1.2.2.2.2.2.2.2.2.2.2.2.2.1 r1.2.2.2.2.2.2.2.2.2.2.2.2.2.1 r1.2.2.2.2.2.2.2.2.2.2.2.2.2.2.1 r1.2.2.2.2.2.2.2.2.2.2.2.2.2.2.2.1 r1.2.2.2.2.2.2.2.2.2.2.2.2.2.2.2.2.1 r1.2.2.2.2.2.2.2.2.2.2.2.2.2.2.2.2.2.1 r1.2.2.2.2.2.2.2.2.2.2.2.2.2.2.2.2.2.2 m_odd m_span m_rise m_wins m_stored m_isStored m_storedAt m_isWriting) rfl ?_
    refine gg_aload_n C dX9_done_22 rfl 1 rfl ?_
    refine gf_X9_101 C 0 rfl rfl dX9_done_23 ?_
    exact gg_iret C M dX9_done_26 ⟨rfl, rfl⟩
  · refine gg_aload_n C dX9_done_11 rfl 1 rfl ?_
    refine gg_iload_n C dX9_done_12 rfl 0 rfl ?_
    refine gg_callV C (fun l r h => c_X9_back l D T a r1.2.1 r1.2.2.1 r1.2.2.2.1 r1.2.2.2.2.1 m_kept r1.2.2.2.2.2.1 r1.2.2.2.2.2.2.1 r1.2.2.2.2.2.2.2.1 m_sightBeat m_sightOff m_sightIs m_sights m_pad m_padMany r1.2.2.2.2.2.2.2.2.1 r1.2.2.2.2.2.2.2.2.2.1 r1.2.2.2.2.2.2.2.2.2.2.1 r1.2.2.2.2.2.2.2.2.2.2.2.1 r1.2.2.2.2.2.2.2.2.2.2.2.2.1 r1.2.2.2.2.2.2.2.2.2.2.2.2.2.1 r1.2.2.2.2.2.2.2.2.2.2.2.2.2.2.1 r1.2.2.2.2.2.2.2.2.2.2.2.2.2.2.2.1 r1.2.2.2.2.2.2.2.2.2.2.2.2.2.2.2.2.1 r1.2.2.2.2.2.2.2.2.2.2.2.2.2.2.2.2.2.1 r1.2.2.2.2.2.2.2.2.2.2.2.2.2.2.2.2.2.2 m_odd m_span m_rise m_wins m_stored m_isStored m_storedAt m_isWriting r1.1 r h) lk_X9_195 ⟨by decide, by decide⟩ hnn rfl (rest := []) rfl (Nat.le_of_ble_eq_true rfl) 0 rfl rfl dX9_done_13 (ws2 := fun r2 => wM T a r2.2.1 r2.2.2.1 r2.2.2.2.1 r2.2.2.2.2.1 m_kept r2.2.2.2.2.2.1 r2.2.2.2.2.2.2.1 r2.2.2.2.2.2.2.2 m_sightBeat m_sightOff m_sightIs m_sights m_pad m_padMany r1.2.2.2.2.2.2.2.2.1 r1.2.2.2.2.2.2.2.2.2.1 r1.2.2.2.2.2.2.2.2.2.2.1 r1.2.2.2.2.2.2.2.2.2.2.2.1 r1.2.2.2.2.2.2.2.2.2.2.2.2.1 r1.2.2.2.2.2.2.2.2.2.2.2.2.2.1 r1.2.2.2.2.2.2.2.2.2.2.2.2.2.2.1 r1.2.2.2.2.2.2.2.2.2.2.2.2.2.2.2.1 r1.2.2.2.2.2.2.2.2.2.2.2.2.2.2.2.2.1 r1.2.2.2.2.2.2.2.2.2.2.2.2.2.2.2.2.2.1 r1.2.2.2.2.2.2.2.2.2.2.2.2.2.2.2.2.2.2 m_odd m_span m_rise m_wins m_stored m_isStored m_storedAt m_isWriting) (cut_full (fun _ => rfl)) (st2 := fun r2 => [.int r2.1]) (fun _ => rfl) (fun r2 => ?_)
    exact gg_iret C M dX9_done_16 ⟨rfl, rfl⟩
