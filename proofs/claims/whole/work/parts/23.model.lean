def f_X9_put (m_stored : Nat → Int32) (m_storedAt : Int32) (m_isWriting : Int32) (v1 : Int32) : Option (Int32 × (Nat → Int32) × Int32) := jn (α := Int32) (if m_isWriting = 0 then gu m_storedAt 340 (some (m_stored m_storedAt.toNatClampNeg)) else some v1) (fun z1 => gu m_storedAt 340 (some (z1, upd m_stored m_storedAt.toNatClampNeg z1, m_storedAt + 1)))
set_option maxHeartbeats 4000000 in
set_option maxRecDepth 100000 in
theorem c_X9_put (l : Launch) (D : va_G) (T : Nat → ClassId) (a : Nat → Nat) (m_beat : Nat → Int32) (m_nick : Nat → Int32) (m_owner : Nat → Int32) (m_place : Nat → Int32) (m_kept : Nat → Int32) (m_heard : Nat → Int32) (m_chosen : Nat → Int32) (m_minutes : Int32) (m_sightBeat : Nat → Int32) (m_sightOff : Nat → Int32) (m_sightIs : Nat → Int32) (m_sights : Int32) (m_pad : Nat → Int32) (m_padMany : Int32) (m_act : Nat → Int32) (m_who : Nat → Int32) (m_much : Nat → Int32) (m_acts : Int32) (m_heardMany : Int32) (m_wrongNow : Int32) (m_had : Nat → Int32) (m_badAct : Int32) (m_badWhy : Int32) (m_wrongAct : Int32) (m_wrongHeir : Int32) (m_odd : Nat → Int32) (m_span : Nat → Int32) (m_rise : Nat → Int32) (m_wins : Nat → Int32) (m_stored : Nat → Int32) (m_isStored : Nat → Int32) (m_storedAt : Int32) (m_isWriting : Int32) (v1 : Int32) (r : Int32 × (Nat → Int32) × Int32) (h : f_X9_put m_stored m_storedAt m_isWriting v1 = some r) : Kt l D T yX9_put cX9_put 3 (some .int) (0, 0, 0, 0) [.ref (a 0), .int v1] (wM T a m_beat m_nick m_owner m_place m_kept m_heard m_chosen m_minutes m_sightBeat m_sightOff m_sightIs m_sights m_pad m_padMany m_act m_who m_much m_acts m_heardMany m_wrongNow m_had m_badAct m_badWhy m_wrongAct m_wrongHeir m_odd m_span m_rise m_wins m_stored m_isStored m_storedAt m_isWriting) (FF (fun (r : Int32 × (Nat → Int32) × Int32) => some (.int r.1)) (fun r => wM T a m_beat m_nick m_owner m_place m_kept m_heard m_chosen m_minutes m_sightBeat m_sightOff m_sightIs m_sights m_pad m_padMany m_act m_who m_much m_acts m_heardMany m_wrongNow m_had m_badAct m_badWhy m_wrongAct m_wrongHeir m_odd m_span m_rise m_wins r.2.1 m_isStored r.2.2 m_isWriting) r) := by
  refine kt_of (own := RX9) (nm := "put") (lv := [(0, .ref (a 0)), (1, .int v1)]) (by decide) rfl rfl rfl (Nat.le_of_ble_eq_true rfl) h (fun X hn C M => ?_)
  have hnn : ((0, 0) : Nat × Nat).1 ≤ 0 ∧ ((0, 0) : Nat × Nat).2 ≤ 0 := ⟨Nat.le_refl 0, Nat.le_refl 0⟩
  unfold f_X9_put
  refine gg_aload_n C dX9_put_0 rfl 0 rfl ?_
  refine gf_X9_288 C 0 rfl rfl dX9_put_1 ?_
  refine gg_join (α := Int32) 20 (fun z1 => wM T a m_beat m_nick m_owner m_place m_kept m_heard m_chosen m_minutes m_sightBeat m_sightOff m_sightIs m_sights m_pad m_padMany m_act m_who m_much m_acts m_heardMany m_wrongNow m_had m_badAct m_badWhy m_wrongAct m_wrongHeir m_odd m_span m_rise m_wins m_stored m_isStored m_storedAt m_isWriting) (fun z1 => [(0, .ref (a 0)), (1, .int v1)]) (fun z1 => [.int z1]) (fun z1 => ?_) (fun K2 => ?_)
  · refine gg_istore_n C dX9_put_20 rfl hn (by decide) (lv' := [(2, .int z1), (0, .ref (a 0)), (1, .int v1)]) rfl ?_
    refine gg_aload_n C dX9_put_21 rfl 1 rfl ?_
    refine gf_X9_68 C 0 rfl rfl dX9_put_22 ?_
    refine gg_aload_n C dX9_put_25 rfl 1 rfl ?_
    refine gf_X9_292 C 0 rfl rfl dX9_put_26 ?_
    refine gg_iload_n C dX9_put_29 rfl 0 rfl ?_
    refine gg_iast C 20 rfl dX9_put_30 (ws' := wM T a m_beat m_nick m_owner m_place m_kept m_heard m_chosen m_minutes m_sightBeat m_sightOff m_sightIs m_sights m_pad m_padMany m_act m_who m_much m_acts m_heardMany m_wrongNow m_had m_badAct m_badWhy m_wrongAct m_wrongHeir m_odd m_span m_rise m_wins (upd m_stored m_storedAt.toNatClampNeg z1) m_isStored m_storedAt m_isWriting) rfl ?_
    refine gg_aload_n C dX9_put_31 rfl 1 rfl ?_
    refine gg_dup C dX9_put_32 rfl ?_
    refine gf_X9_292 C 0 rfl rfl dX9_put_33 ?_
    refine gg_iconst C dX9_put_36 kI_1 ?_
    refine gg_iadd C dX9_put_37 ?_
    refine pf_X9_292 C 0 rfl (Nat.le_of_ble_eq_true rfl) dX9_put_38 (ws' := wM T a m_beat m_nick m_owner m_place m_kept m_heard m_chosen m_minutes m_sightBeat m_sightOff m_sightIs m_sights m_pad m_padMany m_act m_who m_much m_acts m_heardMany m_wrongNow m_had m_badAct m_badWhy m_wrongAct m_wrongHeir m_odd m_span m_rise m_wins (upd m_stored m_storedAt.toNatClampNeg z1) m_isStored (m_storedAt + 1) m_isWriting) rfl ?_
    refine gg_iload_n C dX9_put_41 rfl 0 rfl ?_
    exact gg_iret C M dX9_put_42 ⟨rfl, rfl⟩
  · refine gg_if_eq C dX9_put_4 (tgt := 11) (by decide) (fun _ => ?_) (fun _ => ?_)
    · refine gg_aload_n C dX9_put_11 rfl 0 rfl ?_
      refine gf_X9_68 C 0 rfl rfl dX9_put_12 ?_
      refine gg_aload_n C dX9_put_15 rfl 0 rfl ?_
      refine gf_X9_292 C 0 rfl rfl dX9_put_16 ?_
      refine gg_iald C 20 rfl dX9_put_19 ?_
      refine gg_sub [0, 1] rfl ?_
      exact K2 (m_stored m_storedAt.toNatClampNeg)
    · refine gg_iload_n C dX9_put_7 rfl 1 rfl ?_
      refine gg_goto C dX9_put_8 (tgt := 20) (by decide) ?_
      refine gg_sub [0, 1] rfl ?_
      exact K2 v1
def f_X9_passRow_beat_L2 (y2 : Int32) (m_isWriting : Int32) : Nat → Int32 → (Nat → Int32) → (Nat → Int32) → Int32 → Option (Int32 × (Nat → Int32) × (Nat → Int32) × Int32)
  | 0, _, _, _, _ => none
  | nn + 1, y3, m_beat, m_stored, m_storedAt => if y2 ≤ y3 then some (y3, m_beat, m_stored, m_storedAt) else gu y3 40 (jn (f_X9_put m_stored m_storedAt m_isWriting (m_beat y3.toNatClampNeg)) (fun r1 => gu y3 40 (f_X9_passRow_beat_L2 y2 m_isWriting nn (y3 + 1) (upd m_beat y3.toNatClampNeg r1.1) r1.2.1 r1.2.2)))
set_option maxHeartbeats 4000000 in
set_option maxRecDepth 100000 in
theorem g_X9_passRow_beat_L2 {X : KX} {D : va_G} {T : Nat → ClassId} {Q : Int32 × (Nat → Int32) × (Nat → Int32) × Int32 → State → Prop} {n : Nat × Nat} (C : Cx X D T cX9_passRow RX9 { frames := 1, cells := 0, slots := 0, locals := 22 }) (hnn : n.1 ≤ 0 ∧ n.2 ≤ 0) (hn : kxL X = 4) (a : Nat → Nat)  (y2 : Int32) (m_nick : Nat → Int32) (m_owner : Nat → Int32) (m_place : Nat → Int32) (m_kept : Nat → Int32) (m_heard : Nat → Int32) (m_chosen : Nat → Int32) (m_minutes : Int32) (m_sightBeat : Nat → Int32) (m_sightOff : Nat → Int32) (m_sightIs : Nat → Int32) (m_sights : Int32) (m_pad : Nat → Int32) (m_padMany : Int32) (m_act : Nat → Int32) (m_who : Nat → Int32) (m_much : Nat → Int32) (m_acts : Int32) (m_heardMany : Int32) (m_wrongNow : Int32) (m_had : Nat → Int32) (m_badAct : Int32) (m_badWhy : Int32) (m_wrongAct : Int32) (m_wrongHeir : Int32) (m_odd : Nat → Int32) (m_span : Nat → Int32) (m_rise : Nat → Int32) (m_wins : Nat → Int32) (m_isStored : Nat → Int32) (m_isWriting : Int32) (hk : ∀ v : Int32 × (Nat → Int32) × (Nat → Int32) × Int32, GG X D Q n (wM T a v.2.1 m_nick m_owner m_place m_kept m_heard m_chosen m_minutes m_sightBeat m_sightOff m_sightIs m_sights m_pad m_padMany m_act m_who m_much m_acts m_heardMany m_wrongNow m_had m_badAct m_badWhy m_wrongAct m_wrongHeir m_odd m_span m_rise m_wins v.2.2.1 m_isStored v.2.2.2 m_isWriting) [(0, .ref (a 0)), (1, .ref (a 1)), (2, .int y2), (3, .int v.1)] 23 [] (some (v))) : ∀ (nn : Nat) (y3 : Int32) (m_beat : Nat → Int32) (m_stored : Nat → Int32) (m_storedAt : Int32), GG X D Q n (wM T a m_beat m_nick m_owner m_place m_kept m_heard m_chosen m_minutes m_sightBeat m_sightOff m_sightIs m_sights m_pad m_padMany m_act m_who m_much m_acts m_heardMany m_wrongNow m_had m_badAct m_badWhy m_wrongAct m_wrongHeir m_odd m_span m_rise m_wins m_stored m_isStored m_storedAt m_isWriting) [(0, .ref (a 0)), (1, .ref (a 1)), (2, .int y2), (3, .int y3)] 2 [] (f_X9_passRow_beat_L2 y2 m_isWriting nn y3 m_beat m_stored m_storedAt) := by
  intro nn
  induction nn with
  | zero => intros; exact gg_none
  | succ nn ih =>
    intro y3 m_beat m_stored m_storedAt
    unfold f_X9_passRow_beat_L2
    refine gg_iload_n C dX9_passRow_2 rfl 3 rfl ?_
    refine gg_iload_n C dX9_passRow_3 rfl 2 rfl ?_
    refine gg_icmp_ge C dX9_passRow_4 (tgt := 23) (by decide) (fun _ => ?_) (fun _ => ?_)
    · refine gg_sub [0, 1, 2, 3] rfl ?_
      exact hk (y3, m_beat, m_stored, m_storedAt)
    · refine gg_aload_n C dX9_passRow_7 rfl 1 rfl ?_
      refine gg_iload_n C dX9_passRow_8 rfl 3 rfl ?_
      refine gg_aload_n C dX9_passRow_9 rfl 0 rfl ?_
      refine gg_aload_n C dX9_passRow_10 rfl 1 rfl ?_
      refine gg_iload_n C dX9_passRow_11 rfl 3 rfl ?_
      refine gg_iald C 1 rfl dX9_passRow_12 ?_
      refine gg_callV C (fun l r h => c_X9_put l D T a m_beat m_nick m_owner m_place m_kept m_heard m_chosen m_minutes m_sightBeat m_sightOff m_sightIs m_sights m_pad m_padMany m_act m_who m_much m_acts m_heardMany m_wrongNow m_had m_badAct m_badWhy m_wrongAct m_wrongHeir m_odd m_span m_rise m_wins m_stored m_isStored m_storedAt m_isWriting (m_beat y3.toNatClampNeg) r h) lk_X9_295 ⟨by decide, by decide⟩ hnn rfl (rest := [.int y3, .ref (a 1)]) rfl (Nat.le_of_ble_eq_true rfl) 0 rfl rfl dX9_passRow_13 (ws2 := fun r1 => wM T a m_beat m_nick m_owner m_place m_kept m_heard m_chosen m_minutes m_sightBeat m_sightOff m_sightIs m_sights m_pad m_padMany m_act m_who m_much m_acts m_heardMany m_wrongNow m_had m_badAct m_badWhy m_wrongAct m_wrongHeir m_odd m_span m_rise m_wins r1.2.1 m_isStored r1.2.2 m_isWriting) (cut_full (fun _ => rfl)) (st2 := fun r1 => [.int r1.1, .int y3, .ref (a 1)]) (fun _ => rfl) (fun r1 => ?_)
      refine gg_iast C 1 rfl dX9_passRow_16 (ws' := wM T a (upd m_beat y3.toNatClampNeg r1.1) m_nick m_owner m_place m_kept m_heard m_chosen m_minutes m_sightBeat m_sightOff m_sightIs m_sights m_pad m_padMany m_act m_who m_much m_acts m_heardMany m_wrongNow m_had m_badAct m_badWhy m_wrongAct m_wrongHeir m_odd m_span m_rise m_wins r1.2.1 m_isStored r1.2.2 m_isWriting) rfl ?_
      refine gg_iinc C dX9_passRow_17 (j := 3) rfl (v := y3 + 1) (by first | rfl | decide) hn (by decide) (lv' := [(3, .int (y3 + 1)), (0, .ref (a 0)), (1, .ref (a 1)), (2, .int y2)]) rfl ?_
      refine gg_goto C dX9_passRow_20 (tgt := 2) (by decide) ?_
      refine gg_sub [1, 2, 3, 0] rfl ?_
      exact ih (y3 + 1) (upd m_beat y3.toNatClampNeg r1.1) r1.2.1 r1.2.2
def f_X9_passRow_beat (m_beat : Nat → Int32) (m_stored : Nat → Int32) (m_storedAt : Int32) (m_isWriting : Int32) (v2 : Int32) : Option ((Nat → Int32) × (Nat → Int32) × Int32) := jn (α := Int32 × (Nat → Int32) × (Nat → Int32) × Int32) (f_X9_passRow_beat_L2 v2 m_isWriting 100 0 m_beat m_stored m_storedAt) (fun z2 => some (z2.2.1, z2.2.2.1, z2.2.2.2))
set_option maxHeartbeats 4000000 in
set_option maxRecDepth 100000 in
theorem c_X9_passRow_beat (l : Launch) (D : va_G) (T : Nat → ClassId) (a : Nat → Nat) (m_beat : Nat → Int32) (m_nick : Nat → Int32) (m_owner : Nat → Int32) (m_place : Nat → Int32) (m_kept : Nat → Int32) (m_heard : Nat → Int32) (m_chosen : Nat → Int32) (m_minutes : Int32) (m_sightBeat : Nat → Int32) (m_sightOff : Nat → Int32) (m_sightIs : Nat → Int32) (m_sights : Int32) (m_pad : Nat → Int32) (m_padMany : Int32) (m_act : Nat → Int32) (m_who : Nat → Int32) (m_much : Nat → Int32) (m_acts : Int32) (m_heardMany : Int32) (m_wrongNow : Int32) (m_had : Nat → Int32) (m_badAct : Int32) (m_badWhy : Int32) (m_wrongAct : Int32) (m_wrongHeir : Int32) (m_odd : Nat → Int32) (m_span : Nat → Int32) (m_rise : Nat → Int32) (m_wins : Nat → Int32) (m_stored : Nat → Int32) (m_isStored : Nat → Int32) (m_storedAt : Int32) (m_isWriting : Int32) (v2 : Int32) (r : (Nat → Int32) × (Nat → Int32) × Int32) (h : f_X9_passRow_beat m_beat m_stored m_storedAt m_isWriting v2 = some r) : Kt l D T yX9_passRow cX9_passRow 4 none (1, 0, 0, 22) [.ref (a 0), .ref (a 1), .int v2] (wM T a m_beat m_nick m_owner m_place m_kept m_heard m_chosen m_minutes m_sightBeat m_sightOff m_sightIs m_sights m_pad m_padMany m_act m_who m_much m_acts m_heardMany m_wrongNow m_had m_badAct m_badWhy m_wrongAct m_wrongHeir m_odd m_span m_rise m_wins m_stored m_isStored m_storedAt m_isWriting) (FF (fun (r : (Nat → Int32) × (Nat → Int32) × Int32) => none) (fun r => wM T a r.1 m_nick m_owner m_place m_kept m_heard m_chosen m_minutes m_sightBeat m_sightOff m_sightIs m_sights m_pad m_padMany m_act m_who m_much m_acts m_heardMany m_wrongNow m_had m_badAct m_badWhy m_wrongAct m_wrongHeir m_odd m_span m_rise m_wins r.2.1 m_isStored r.2.2 m_isWriting) r) := by
  refine kt_of (own := RX9) (nm := "passRow") (lv := [(0, .ref (a 0)), (1, .ref (a 1)), (2, .int v2)]) (by decide) rfl rfl rfl (Nat.le_of_ble_eq_true rfl) h (fun X hn C M => ?_)
  have hnn : ((0, 0) : Nat × Nat).1 ≤ 0 ∧ ((0, 0) : Nat × Nat).2 ≤ 0 := ⟨Nat.le_refl 0, Nat.le_refl 0⟩
  unfold f_X9_passRow_beat
  refine gg_iconst C dX9_passRow_0 kI_0 ?_
  refine gg_istore_n C dX9_passRow_1 rfl hn (by decide) (lv' := [(3, .int 0), (0, .ref (a 0)), (1, .ref (a 1)), (2, .int v2)]) rfl ?_
  refine gg_join (α := Int32 × (Nat → Int32) × (Nat → Int32) × Int32) 23 (fun z2 => wM T a z2.2.1 m_nick m_owner m_place m_kept m_heard m_chosen m_minutes m_sightBeat m_sightOff m_sightIs m_sights m_pad m_padMany m_act m_who m_much m_acts m_heardMany m_wrongNow m_had m_badAct m_badWhy m_wrongAct m_wrongHeir m_odd m_span m_rise m_wins z2.2.2.1 m_isStored z2.2.2.2 m_isWriting) (fun z2 => [(0, .ref (a 0)), (1, .ref (a 1)), (2, .int v2), (3, .int z2.1)]) (fun z2 => []) (fun z2 => ?_) (fun K3 => ?_)
  · exact gg_vret C M dX9_passRow_23 ⟨rfl, rfl⟩
  · refine gg_sub [1, 2, 3, 0] rfl ?_
    exact g_X9_passRow_beat_L2 C hnn hn a v2 m_nick m_owner m_place m_kept m_heard m_chosen m_minutes m_sightBeat m_sightOff m_sightIs m_sights m_pad m_padMany m_act m_who m_much m_acts m_heardMany m_wrongNow m_had m_badAct m_badWhy m_wrongAct m_wrongHeir m_odd m_span m_rise m_wins m_isStored m_isWriting K3 100 0 m_beat m_stored m_storedAt
def f_X9_passRow_nick_L2 (y2 : Int32) (m_isWriting : Int32) : Nat → Int32 → (Nat → Int32) → (Nat → Int32) → Int32 → Option (Int32 × (Nat → Int32) × (Nat → Int32) × Int32)
  | 0, _, _, _, _ => none
  | nn + 1, y3, m_nick, m_stored, m_storedAt => if y2 ≤ y3 then some (y3, m_nick, m_stored, m_storedAt) else gu y3 40 (jn (f_X9_put m_stored m_storedAt m_isWriting (m_nick y3.toNatClampNeg)) (fun r1 => gu y3 40 (f_X9_passRow_nick_L2 y2 m_isWriting nn (y3 + 1) (upd m_nick y3.toNatClampNeg r1.1) r1.2.1 r1.2.2)))
set_option maxHeartbeats 4000000 in
set_option maxRecDepth 100000 in
theorem g_X9_passRow_nick_L2 {X : KX} {D : va_G} {T : Nat → ClassId} {Q : Int32 × (Nat → Int32) × (Nat → Int32) × Int32 → State → Prop} {n : Nat × Nat} (C : Cx X D T cX9_passRow RX9 { frames := 1, cells := 0, slots := 0, locals := 22 }) (hnn : n.1 ≤ 0 ∧ n.2 ≤ 0) (hn : kxL X = 4) (a : Nat → Nat)  (y2 : Int32) (m_beat : Nat → Int32) (m_owner : Nat → Int32) (m_place : Nat → Int32) (m_kept : Nat → Int32) (m_heard : Nat → Int32) (m_chosen : Nat → Int32) (m_minutes : Int32) (m_sightBeat : Nat → Int32) (m_sightOff : Nat → Int32) (m_sightIs : Nat → Int32) (m_sights : Int32) (m_pad : Nat → Int32) (m_padMany : Int32) (m_act : Nat → Int32) (m_who : Nat → Int32) (m_much : Nat → Int32) (m_acts : Int32) (m_heardMany : Int32) (m_wrongNow : Int32) (m_had : Nat → Int32) (m_badAct : Int32) (m_badWhy : Int32) (m_wrongAct : Int32) (m_wrongHeir : Int32) (m_odd : Nat → Int32) (m_span : Nat → Int32) (m_rise : Nat → Int32) (m_wins : Nat → Int32) (m_isStored : Nat → Int32) (m_isWriting : Int32) (hk : ∀ v : Int32 × (Nat → Int32) × (Nat → Int32) × Int32, GG X D Q n (wM T a m_beat v.2.1 m_owner m_place m_kept m_heard m_chosen m_minutes m_sightBeat m_sightOff m_sightIs m_sights m_pad m_padMany m_act m_who m_much m_acts m_heardMany m_wrongNow m_had m_badAct m_badWhy m_wrongAct m_wrongHeir m_odd m_span m_rise m_wins v.2.2.1 m_isStored v.2.2.2 m_isWriting) [(0, .ref (a 0)), (1, .ref (a 2)), (2, .int y2), (3, .int v.1)] 23 [] (some (v))) : ∀ (nn : Nat) (y3 : Int32) (m_nick : Nat → Int32) (m_stored : Nat → Int32) (m_storedAt : Int32), GG X D Q n (wM T a m_beat m_nick m_owner m_place m_kept m_heard m_chosen m_minutes m_sightBeat m_sightOff m_sightIs m_sights m_pad m_padMany m_act m_who m_much m_acts m_heardMany m_wrongNow m_had m_badAct m_badWhy m_wrongAct m_wrongHeir m_odd m_span m_rise m_wins m_stored m_isStored m_storedAt m_isWriting) [(0, .ref (a 0)), (1, .ref (a 2)), (2, .int y2), (3, .int y3)] 2 [] (f_X9_passRow_nick_L2 y2 m_isWriting nn y3 m_nick m_stored m_storedAt) := by
  intro nn
  induction nn with
  | zero => intros; exact gg_none
  | succ nn ih =>
    intro y3 m_nick m_stored m_storedAt
    unfold f_X9_passRow_nick_L2
    refine gg_iload_n C dX9_passRow_2 rfl 3 rfl ?_
    refine gg_iload_n C dX9_passRow_3 rfl 2 rfl ?_
    refine gg_icmp_ge C dX9_passRow_4 (tgt := 23) (by decide) (fun _ => ?_) (fun _ => ?_)
    · refine gg_sub [0, 1, 2, 3] rfl ?_
      exact hk (y3, m_nick, m_stored, m_storedAt)
    · refine gg_aload_n C dX9_passRow_7 rfl 1 rfl ?_
      refine gg_iload_n C dX9_passRow_8 rfl 3 rfl ?_
      refine gg_aload_n C dX9_passRow_9 rfl 0 rfl ?_
      refine gg_aload_n C dX9_passRow_10 rfl 1 rfl ?_
      refine gg_iload_n C dX9_passRow_11 rfl 3 rfl ?_
      refine gg_iald C 2 rfl dX9_passRow_12 ?_
      refine gg_callV C (fun l r h => c_X9_put l D T a m_beat m_nick m_owner m_place m_kept m_heard m_chosen m_minutes m_sightBeat m_sightOff m_sightIs m_sights m_pad m_padMany m_act m_who m_much m_acts m_heardMany m_wrongNow m_had m_badAct m_badWhy m_wrongAct m_wrongHeir m_odd m_span m_rise m_wins m_stored m_isStored m_storedAt m_isWriting (m_nick y3.toNatClampNeg) r h) lk_X9_295 ⟨by decide, by decide⟩ hnn rfl (rest := [.int y3, .ref (a 2)]) rfl (Nat.le_of_ble_eq_true rfl) 0 rfl rfl dX9_passRow_13 (ws2 := fun r1 => wM T a m_beat m_nick m_owner m_place m_kept m_heard m_chosen m_minutes m_sightBeat m_sightOff m_sightIs m_sights m_pad m_padMany m_act m_who m_much m_acts m_heardMany m_wrongNow m_had m_badAct m_badWhy m_wrongAct m_wrongHeir m_odd m_span m_rise m_wins r1.2.1 m_isStored r1.2.2 m_isWriting) (cut_full (fun _ => rfl)) (st2 := fun r1 => [.int r1.1, .int y3, .ref (a 2)]) (fun _ => rfl) (fun r1 => ?_)
      refine gg_iast C 2 rfl dX9_passRow_16 (ws' := wM T a m_beat (upd m_nick y3.toNatClampNeg r1.1) m_owner m_place m_kept m_heard m_chosen m_minutes m_sightBeat m_sightOff m_sightIs m_sights m_pad m_padMany m_act m_who m_much m_acts m_heardMany m_wrongNow m_had m_badAct m_badWhy m_wrongAct m_wrongHeir m_odd m_span m_rise m_wins r1.2.1 m_isStored r1.2.2 m_isWriting) rfl ?_
      refine gg_iinc C dX9_passRow_17 (j := 3) rfl (v := y3 + 1) (by first | rfl | decide) hn (by decide) (lv' := [(3, .int (y3 + 1)), (0, .ref (a 0)), (1, .ref (a 2)), (2, .int y2)]) rfl ?_
      refine gg_goto C dX9_passRow_20 (tgt := 2) (by decide) ?_
      refine gg_sub [1, 2, 3, 0] rfl ?_
      exact ih (y3 + 1) (upd m_nick y3.toNatClampNeg r1.1) r1.2.1 r1.2.2
def f_X9_passRow_nick (m_nick : Nat → Int32) (m_stored : Nat → Int32) (m_storedAt : Int32) (m_isWriting : Int32) (v2 : Int32) : Option ((Nat → Int32) × (Nat → Int32) × Int32) := jn (α := Int32 × (Nat → Int32) × (Nat → Int32) × Int32) (f_X9_passRow_nick_L2 v2 m_isWriting 100 0 m_nick m_stored m_storedAt) (fun z2 => some (z2.2.1, z2.2.2.1, z2.2.2.2))
set_option maxHeartbeats 4000000 in
set_option maxRecDepth 100000 in
theorem c_X9_passRow_nick (l : Launch) (D : va_G) (T : Nat → ClassId) (a : Nat → Nat) (m_beat : Nat → Int32) (m_nick : Nat → Int32) (m_owner : Nat → Int32) (m_place : Nat → Int32) (m_kept : Nat → Int32) (m_heard : Nat → Int32) (m_chosen : Nat → Int32) (m_minutes : Int32) (m_sightBeat : Nat → Int32) (m_sightOff : Nat → Int32) (m_sightIs : Nat → Int32) (m_sights : Int32) (m_pad : Nat → Int32) (m_padMany : Int32) (m_act : Nat → Int32) (m_who : Nat → Int32) (m_much : Nat → Int32) (m_acts : Int32) (m_heardMany : Int32) (m_wrongNow : Int32) (m_had : Nat → Int32) (m_badAct : Int32) (m_badWhy : Int32) (m_wrongAct : Int32) (m_wrongHeir : Int32) (m_odd : Nat → Int32) (m_span : Nat → Int32) (m_rise : Nat → Int32) (m_wins : Nat → Int32) (m_stored : Nat → Int32) (m_isStored : Nat → Int32) (m_storedAt : Int32) (m_isWriting : Int32) (v2 : Int32) (r : (Nat → Int32) × (Nat → Int32) × Int32) (h : f_X9_passRow_nick m_nick m_stored m_storedAt m_isWriting v2 = some r) : Kt l D T yX9_passRow cX9_passRow 4 none (1, 0, 0, 22) [.ref (a 0), .ref (a 2), .int v2] (wM T a m_beat m_nick m_owner m_place m_kept m_heard m_chosen m_minutes m_sightBeat m_sightOff m_sightIs m_sights m_pad m_padMany m_act m_who m_much m_acts m_heardMany m_wrongNow m_had m_badAct m_badWhy m_wrongAct m_wrongHeir m_odd m_span m_rise m_wins m_stored m_isStored m_storedAt m_isWriting) (FF (fun (r : (Nat → Int32) × (Nat → Int32) × Int32) => none) (fun r => wM T a m_beat r.1 m_owner m_place m_kept m_heard m_chosen m_minutes m_sightBeat m_sightOff m_sightIs m_sights m_pad m_padMany m_act m_who m_much m_acts m_heardMany m_wrongNow m_had m_badAct m_badWhy m_wrongAct m_wrongHeir m_odd m_span m_rise m_wins r.2.1 m_isStored r.2.2 m_isWriting) r) := by
  refine kt_of (own := RX9) (nm := "passRow") (lv := [(0, .ref (a 0)), (1, .ref (a 2)), (2, .int v2)]) (by decide) rfl rfl rfl (Nat.le_of_ble_eq_true rfl) h (fun X hn C M => ?_)
  have hnn : ((0, 0) : Nat × Nat).1 ≤ 0 ∧ ((0, 0) : Nat × Nat).2 ≤ 0 := ⟨Nat.le_refl 0, Nat.le_refl 0⟩
  unfold f_X9_passRow_nick
  refine gg_iconst C dX9_passRow_0 kI_0 ?_
  refine gg_istore_n C dX9_passRow_1 rfl hn (by decide) (lv' := [(3, .int 0), (0, .ref (a 0)), (1, .ref (a 2)), (2, .int v2)]) rfl ?_
  refine gg_join (α := Int32 × (Nat → Int32) × (Nat → Int32) × Int32) 23 (fun z2 => wM T a m_beat z2.2.1 m_owner m_place m_kept m_heard m_chosen m_minutes m_sightBeat m_sightOff m_sightIs m_sights m_pad m_padMany m_act m_who m_much m_acts m_heardMany m_wrongNow m_had m_badAct m_badWhy m_wrongAct m_wrongHeir m_odd m_span m_rise m_wins z2.2.2.1 m_isStored z2.2.2.2 m_isWriting) (fun z2 => [(0, .ref (a 0)), (1, .ref (a 2)), (2, .int v2), (3, .int z2.1)]) (fun z2 => []) (fun z2 => ?_) (fun K3 => ?_)
  · exact gg_vret C M dX9_passRow_23 ⟨rfl, rfl⟩
  · refine gg_sub [1, 2, 3, 0] rfl ?_
    exact g_X9_passRow_nick_L2 C hnn hn a v2 m_beat m_owner m_place m_kept m_heard m_chosen m_minutes m_sightBeat m_sightOff m_sightIs m_sights m_pad m_padMany m_act m_who m_much m_acts m_heardMany m_wrongNow m_had m_badAct m_badWhy m_wrongAct m_wrongHeir m_odd m_span m_rise m_wins m_isStored m_isWriting K3 100 0 m_nick m_stored m_storedAt
def f_X9_passRow_owner_L2 (y2 : Int32) (m_isWriting : Int32) : Nat → Int32 → (Nat → Int32) → (Nat → Int32) → Int32 → Option (Int32 × (Nat → Int32) × (Nat → Int32) × Int32)
  | 0, _, _, _, _ => none
  | nn + 1, y3, m_owner, m_stored, m_storedAt => if y2 ≤ y3 then some (y3, m_owner, m_stored, m_storedAt) else gu y3 40 (jn (f_X9_put m_stored m_storedAt m_isWriting (m_owner y3.toNatClampNeg)) (fun r1 => gu y3 40 (f_X9_passRow_owner_L2 y2 m_isWriting nn (y3 + 1) (upd m_owner y3.toNatClampNeg r1.1) r1.2.1 r1.2.2)))
set_option maxHeartbeats 4000000 in
set_option maxRecDepth 100000 in
theorem g_X9_passRow_owner_L2 {X : KX} {D : va_G} {T : Nat → ClassId} {Q : Int32 × (Nat → Int32) × (Nat → Int32) × Int32 → State → Prop} {n : Nat × Nat} (C : Cx X D T cX9_passRow RX9 { frames := 1, cells := 0, slots := 0, locals := 22 }) (hnn : n.1 ≤ 0 ∧ n.2 ≤ 0) (hn : kxL X = 4) (a : Nat → Nat)  (y2 : Int32) (m_beat : Nat → Int32) (m_nick : Nat → Int32) (m_place : Nat → Int32) (m_kept : Nat → Int32) (m_heard : Nat → Int32) (m_chosen : Nat → Int32) (m_minutes : Int32) (m_sightBeat : Nat → Int32) (m_sightOff : Nat → Int32) (m_sightIs : Nat → Int32) (m_sights : Int32) (m_pad : Nat → Int32) (m_padMany : Int32) (m_act : Nat → Int32) (m_who : Nat → Int32) (m_much : Nat → Int32) (m_acts : Int32) (m_heardMany : Int32) (m_wrongNow : Int32) (m_had : Nat → Int32) (m_badAct : Int32) (m_badWhy : Int32) (m_wrongAct : Int32) (m_wrongHeir : Int32) (m_odd : Nat → Int32) (m_span : Nat → Int32) (m_rise : Nat → Int32) (m_wins : Nat → Int32) (m_isStored : Nat → Int32) (m_isWriting : Int32) (hk : ∀ v : Int32 × (Nat → Int32) × (Nat → Int32) × Int32, GG X D Q n (wM T a m_beat m_nick v.2.1 m_place m_kept m_heard m_chosen m_minutes m_sightBeat m_sightOff m_sightIs m_sights m_pad m_padMany m_act m_who m_much m_acts m_heardMany m_wrongNow m_had m_badAct m_badWhy m_wrongAct m_wrongHeir m_odd m_span m_rise m_wins v.2.2.1 m_isStored v.2.2.2 m_isWriting) [(0, .ref (a 0)), (1, .ref (a 3)), (2, .int y2), (3, .int v.1)] 23 [] (some (v))) : ∀ (nn : Nat) (y3 : Int32) (m_owner : Nat → Int32) (m_stored : Nat → Int32) (m_storedAt : Int32), GG X D Q n (wM T a m_beat m_nick m_owner m_place m_kept m_heard m_chosen m_minutes m_sightBeat m_sightOff m_sightIs m_sights m_pad m_padMany m_act m_who m_much m_acts m_heardMany m_wrongNow m_had m_badAct m_badWhy m_wrongAct m_wrongHeir m_odd m_span m_rise m_wins m_stored m_isStored m_storedAt m_isWriting) [(0, .ref (a 0)), (1, .ref (a 3)), (2, .int y2), (3, .int y3)] 2 [] (f_X9_passRow_owner_L2 y2 m_isWriting nn y3 m_owner m_stored m_storedAt) := by
  intro nn
  induction nn with
  | zero => intros; exact gg_none
  | succ nn ih =>
    intro y3 m_owner m_stored m_storedAt
    unfold f_X9_passRow_owner_L2
    refine gg_iload_n C dX9_passRow_2 rfl 3 rfl ?_
    refine gg_iload_n C dX9_passRow_3 rfl 2 rfl ?_
    refine gg_icmp_ge C dX9_passRow_4 (tgt := 23) (by decide) (fun _ => ?_) (fun _ => ?_)
    · refine gg_sub [0, 1, 2, 3] rfl ?_
      exact hk (y3, m_owner, m_stored, m_storedAt)
    · refine gg_aload_n C dX9_passRow_7 rfl 1 rfl ?_
      refine gg_iload_n C dX9_passRow_8 rfl 3 rfl ?_
      refine gg_aload_n C dX9_passRow_9 rfl 0 rfl ?_
      refine gg_aload_n C dX9_passRow_10 rfl 1 rfl ?_
      refine gg_iload_n C dX9_passRow_11 rfl 3 rfl ?_
      refine gg_iald C 3 rfl dX9_passRow_12 ?_
      refine gg_callV C (fun l r h => c_X9_put l D T a m_beat m_nick m_owner m_place m_kept m_heard m_chosen m_minutes m_sightBeat m_sightOff m_sightIs m_sights m_pad m_padMany m_act m_who m_much m_acts m_heardMany m_wrongNow m_had m_badAct m_badWhy m_wrongAct m_wrongHeir m_odd m_span m_rise m_wins m_stored m_isStored m_storedAt m_isWriting (m_owner y3.toNatClampNeg) r h) lk_X9_295 ⟨by decide, by decide⟩ hnn rfl (rest := [.int y3, .ref (a 3)]) rfl (Nat.le_of_ble_eq_true rfl) 0 rfl rfl dX9_passRow_13 (ws2 := fun r1 => wM T a m_beat m_nick m_owner m_place m_kept m_heard m_chosen m_minutes m_sightBeat m_sightOff m_sightIs m_sights m_pad m_padMany m_act m_who m_much m_acts m_heardMany m_wrongNow m_had m_badAct m_badWhy m_wrongAct m_wrongHeir m_odd m_span m_rise m_wins r1.2.1 m_isStored r1.2.2 m_isWriting) (cut_full (fun _ => rfl)) (st2 := fun r1 => [.int r1.1, .int y3, .ref (a 3)]) (fun _ => rfl) (fun r1 => ?_)
      refine gg_iast C 3 rfl dX9_passRow_16 (ws' := wM T a m_beat m_nick (upd m_owner y3.toNatClampNeg r1.1) m_place m_kept m_heard m_chosen m_minutes m_sightBeat m_sightOff m_sightIs m_sights m_pad m_padMany m_act m_who m_much m_acts m_heardMany m_wrongNow m_had m_badAct m_badWhy m_wrongAct m_wrongHeir m_odd m_span m_rise m_wins r1.2.1 m_isStored r1.2.2 m_isWriting) rfl ?_
      refine gg_iinc C dX9_passRow_17 (j := 3) rfl (v := y3 + 1) (by first | rfl | decide) hn (by decide) (lv' := [(3, .int (y3 + 1)), (0, .ref (a 0)), (1, .ref (a 3)), (2, .int y2)]) rfl ?_
      refine gg_goto C dX9_passRow_20 (tgt := 2) (by decide) ?_
      refine gg_sub [1, 2, 3, 0] rfl ?_
      exact ih (y3 + 1) (upd m_owner y3.toNatClampNeg r1.1) r1.2.1 r1.2.2
def f_X9_passRow_owner (m_owner : Nat → Int32) (m_stored : Nat → Int32) (m_storedAt : Int32) (m_isWriting : Int32) (v2 : Int32) : Option ((Nat → Int32) × (Nat → Int32) × Int32) := jn (α := Int32 × (Nat → Int32) × (Nat → Int32) × Int32) (f_X9_passRow_owner_L2 v2 m_isWriting 100 0 m_owner m_stored m_storedAt) (fun z2 => some (z2.2.1, z2.2.2.1, z2.2.2.2))
set_option maxHeartbeats 4000000 in
set_option maxRecDepth 100000 in
theorem c_X9_passRow_owner (l : Launch) (D : va_G) (T : Nat → ClassId) (a : Nat → Nat) (m_beat : Nat → Int32) (m_nick : Nat → Int32) (m_owner : Nat → Int32) (m_place : Nat → Int32) (m_kept : Nat → Int32) (m_heard : Nat → Int32) (m_chosen : Nat → Int32) (m_minutes : Int32) (m_sightBeat : Nat → Int32) (m_sightOff : Nat → Int32) (m_sightIs : Nat → Int32) (m_sights : Int32) (m_pad : Nat → Int32) (m_padMany : Int32) (m_act : Nat → Int32) (m_who : Nat → Int32) (m_much : Nat → Int32) (m_acts : Int32) (m_heardMany : Int32) (m_wrongNow : Int32) (m_had : Nat → Int32) (m_badAct : Int32) (m_badWhy : Int32) (m_wrongAct : Int32) (m_wrongHeir : Int32) (m_odd : Nat → Int32) (m_span : Nat → Int32) (m_rise : Nat → Int32) (m_wins : Nat → Int32) (m_stored : Nat → Int32) (m_isStored : Nat → Int32) (m_storedAt : Int32) (m_isWriting : Int32) (v2 : Int32) (r : (Nat → Int32) × (Nat → Int32) × Int32) (h : f_X9_passRow_owner m_owner m_stored m_storedAt m_isWriting v2 = some r) : Kt l D T yX9_passRow cX9_passRow 4 none (1, 0, 0, 22) [.ref (a 0), .ref (a 3), .int v2] (wM T a m_beat m_nick m_owner m_place m_kept m_heard m_chosen m_minutes m_sightBeat m_sightOff m_sightIs m_sights m_pad m_padMany m_act m_who m_much m_acts m_heardMany m_wrongNow m_had m_badAct m_badWhy m_wrongAct m_wrongHeir m_odd m_span m_rise m_wins m_stored m_isStored m_storedAt m_isWriting) (FF (fun (r : (Nat → Int32) × (Nat → Int32) × Int32) => none) (fun r => wM T a m_beat m_nick r.1 m_place m_kept m_heard m_chosen m_minutes m_sightBeat m_sightOff m_sightIs m_sights m_pad m_padMany m_act m_who m_much m_acts m_heardMany m_wrongNow m_had m_badAct m_badWhy m_wrongAct m_wrongHeir m_odd m_span m_rise m_wins r.2.1 m_isStored r.2.2 m_isWriting) r) := by
  refine kt_of (own := RX9) (nm := "passRow") (lv := [(0, .ref (a 0)), (1, .ref (a 3)), (2, .int v2)]) (by decide) rfl rfl rfl (Nat.le_of_ble_eq_true rfl) h (fun X hn C M => ?_)
  have hnn : ((0, 0) : Nat × Nat).1 ≤ 0 ∧ ((0, 0) : Nat × Nat).2 ≤ 0 := ⟨Nat.le_refl 0, Nat.le_refl 0⟩
  unfold f_X9_passRow_owner
  refine gg_iconst C dX9_passRow_0 kI_0 ?_
  refine gg_istore_n C dX9_passRow_1 rfl hn (by decide) (lv' := [(3, .int 0), (0, .ref (a 0)), (1, .ref (a 3)), (2, .int v2)]) rfl ?_
  refine gg_join (α := Int32 × (Nat → Int32) × (Nat → Int32) × Int32) 23 (fun z2 => wM T a m_beat m_nick z2.2.1 m_place m_kept m_heard m_chosen m_minutes m_sightBeat m_sightOff m_sightIs m_sights m_pad m_padMany m_act m_who m_much m_acts m_heardMany m_wrongNow m_had m_badAct m_badWhy m_wrongAct m_wrongHeir m_odd m_span m_rise m_wins z2.2.2.1 m_isStored z2.2.2.2 m_isWriting) (fun z2 => [(0, .ref (a 0)), (1, .ref (a 3)), (2, .int v2), (3, .int z2.1)]) (fun z2 => []) (fun z2 => ?_) (fun K3 => ?_)
  · exact gg_vret C M dX9_passRow_23 ⟨rfl, rfl⟩
  · refine gg_sub [1, 2, 3, 0] rfl ?_
    exact g_X9_passRow_owner_L2 C hnn hn a v2 m_beat m_nick m_place m_kept m_heard m_chosen m_minutes m_sightBeat m_sightOff m_sightIs m_sights m_pad m_padMany m_act m_who m_much m_acts m_heardMany m_wrongNow m_had m_badAct m_badWhy m_wrongAct m_wrongHeir m_odd m_span m_rise m_wins m_isStored m_isWriting K3 100 0 m_owner m_stored m_storedAt
def f_X9_passRow_place_L2 (y2 : Int32) (m_isWriting : Int32) : Nat → Int32 → (Nat → Int32) → (Nat → Int32) → Int32 → Option (Int32 × (Nat → Int32) × (Nat → Int32) × Int32)
  | 0, _, _, _, _ => none
  | nn + 1, y3, m_place, m_stored, m_storedAt => if y2 ≤ y3 then some (y3, m_place, m_stored, m_storedAt) else gu y3 6 (jn (f_X9_put m_stored m_storedAt m_isWriting (m_place y3.toNatClampNeg)) (fun r1 => gu y3 6 (f_X9_passRow_place_L2 y2 m_isWriting nn (y3 + 1) (upd m_place y3.toNatClampNeg r1.1) r1.2.1 r1.2.2)))
set_option maxHeartbeats 4000000 in
set_option maxRecDepth 100000 in
theorem g_X9_passRow_place_L2 {X : KX} {D : va_G} {T : Nat → ClassId} {Q : Int32 × (Nat → Int32) × (Nat → Int32) × Int32 → State → Prop} {n : Nat × Nat} (C : Cx X D T cX9_passRow RX9 { frames := 1, cells := 0, slots := 0, locals := 22 }) (hnn : n.1 ≤ 0 ∧ n.2 ≤ 0) (hn : kxL X = 4) (a : Nat → Nat)  (y2 : Int32) (m_beat : Nat → Int32) (m_nick : Nat → Int32) (m_owner : Nat → Int32) (m_kept : Nat → Int32) (m_heard : Nat → Int32) (m_chosen : Nat → Int32) (m_minutes : Int32) (m_sightBeat : Nat → Int32) (m_sightOff : Nat → Int32) (m_sightIs : Nat → Int32) (m_sights : Int32) (m_pad : Nat → Int32) (m_padMany : Int32) (m_act : Nat → Int32) (m_who : Nat → Int32) (m_much : Nat → Int32) (m_acts : Int32) (m_heardMany : Int32) (m_wrongNow : Int32) (m_had : Nat → Int32) (m_badAct : Int32) (m_badWhy : Int32) (m_wrongAct : Int32) (m_wrongHeir : Int32) (m_odd : Nat → Int32) (m_span : Nat → Int32) (m_rise : Nat → Int32) (m_wins : Nat → Int32) (m_isStored : Nat → Int32) (m_isWriting : Int32) (hk : ∀ v : Int32 × (Nat → Int32) × (Nat → Int32) × Int32, GG X D Q n (wM T a m_beat m_nick m_owner v.2.1 m_kept m_heard m_chosen m_minutes m_sightBeat m_sightOff m_sightIs m_sights m_pad m_padMany m_act m_who m_much m_acts m_heardMany m_wrongNow m_had m_badAct m_badWhy m_wrongAct m_wrongHeir m_odd m_span m_rise m_wins v.2.2.1 m_isStored v.2.2.2 m_isWriting) [(0, .ref (a 0)), (1, .ref (a 4)), (2, .int y2), (3, .int v.1)] 23 [] (some (v))) : ∀ (nn : Nat) (y3 : Int32) (m_place : Nat → Int32) (m_stored : Nat → Int32) (m_storedAt : Int32), GG X D Q n (wM T a m_beat m_nick m_owner m_place m_kept m_heard m_chosen m_minutes m_sightBeat m_sightOff m_sightIs m_sights m_pad m_padMany m_act m_who m_much m_acts m_heardMany m_wrongNow m_had m_badAct m_badWhy m_wrongAct m_wrongHeir m_odd m_span m_rise m_wins m_stored m_isStored m_storedAt m_isWriting) [(0, .ref (a 0)), (1, .ref (a 4)), (2, .int y2), (3, .int y3)] 2 [] (f_X9_passRow_place_L2 y2 m_isWriting nn y3 m_place m_stored m_storedAt) := by
  intro nn
  induction nn with
  | zero => intros; exact gg_none
  | succ nn ih =>
    intro y3 m_place m_stored m_storedAt
    unfold f_X9_passRow_place_L2
    refine gg_iload_n C dX9_passRow_2 rfl 3 rfl ?_
    refine gg_iload_n C dX9_passRow_3 rfl 2 rfl ?_
    refine gg_icmp_ge C dX9_passRow_4 (tgt := 23) (by decide) (fun _ => ?_) (fun _ => ?_)
    · refine gg_sub [0, 1, 2, 3] rfl ?_
      exact hk (y3, m_place, m_stored, m_storedAt)
    · refine gg_aload_n C dX9_passRow_7 rfl 1 rfl ?_
      refine gg_iload_n C dX9_passRow_8 rfl 3 rfl ?_
      refine gg_aload_n C dX9_passRow_9 rfl 0 rfl ?_
      refine gg_aload_n C dX9_passRow_10 rfl 1 rfl ?_
      refine gg_iload_n C dX9_passRow_11 rfl 3 rfl ?_
      refine gg_iald C 4 rfl dX9_passRow_12 ?_
      refine gg_callV C (fun l r h => c_X9_put l D T a m_beat m_nick m_owner m_place m_kept m_heard m_chosen m_minutes m_sightBeat m_sightOff m_sightIs m_sights m_pad m_padMany m_act m_who m_much m_acts m_heardMany m_wrongNow m_had m_badAct m_badWhy m_wrongAct m_wrongHeir m_odd m_span m_rise m_wins m_stored m_isStored m_storedAt m_isWriting (m_place y3.toNatClampNeg) r h) lk_X9_295 ⟨by decide, by decide⟩ hnn rfl (rest := [.int y3, .ref (a 4)]) rfl (Nat.le_of_ble_eq_true rfl) 0 rfl rfl dX9_passRow_13 (ws2 := fun r1 => wM T a m_beat m_nick m_owner m_place m_kept m_heard m_chosen m_minutes m_sightBeat m_sightOff m_sightIs m_sights m_pad m_padMany m_act m_who m_much m_acts m_heardMany m_wrongNow m_had m_badAct m_badWhy m_wrongAct m_wrongHeir m_odd m_span m_rise m_wins r1.2.1 m_isStored r1.2.2 m_isWriting) (cut_full (fun _ => rfl)) (st2 := fun r1 => [.int r1.1, .int y3, .ref (a 4)]) (fun _ => rfl) (fun r1 => ?_)
      refine gg_iast C 4 rfl dX9_passRow_16 (ws' := wM T a m_beat m_nick m_owner (upd m_place y3.toNatClampNeg r1.1) m_kept m_heard m_chosen m_minutes m_sightBeat m_sightOff m_sightIs m_sights m_pad m_padMany m_act m_who m_much m_acts m_heardMany m_wrongNow m_had m_badAct m_badWhy m_wrongAct m_wrongHeir m_odd m_span m_rise m_wins r1.2.1 m_isStored r1.2.2 m_isWriting) rfl ?_
      refine gg_iinc C dX9_passRow_17 (j := 3) rfl (v := y3 + 1) (by first | rfl | decide) hn (by decide) (lv' := [(3, .int (y3 + 1)), (0, .ref (a 0)), (1, .ref (a 4)), (2, .int y2)]) rfl ?_
      refine gg_goto C dX9_passRow_20 (tgt := 2) (by decide) ?_
      refine gg_sub [1, 2, 3, 0] rfl ?_
      exact ih (y3 + 1) (upd m_place y3.toNatClampNeg r1.1) r1.2.1 r1.2.2
def f_X9_passRow_place (m_place : Nat → Int32) (m_stored : Nat → Int32) (m_storedAt : Int32) (m_isWriting : Int32) (v2 : Int32) : Option ((Nat → Int32) × (Nat → Int32) × Int32) := jn (α := Int32 × (Nat → Int32) × (Nat → Int32) × Int32) (f_X9_passRow_place_L2 v2 m_isWriting 100 0 m_place m_stored m_storedAt) (fun z2 => some (z2.2.1, z2.2.2.1, z2.2.2.2))
set_option maxHeartbeats 4000000 in
set_option maxRecDepth 100000 in
theorem c_X9_passRow_place (l : Launch) (D : va_G) (T : Nat → ClassId) (a : Nat → Nat) (m_beat : Nat → Int32) (m_nick : Nat → Int32) (m_owner : Nat → Int32) (m_place : Nat → Int32) (m_kept : Nat → Int32) (m_heard : Nat → Int32) (m_chosen : Nat → Int32) (m_minutes : Int32) (m_sightBeat : Nat → Int32) (m_sightOff : Nat → Int32) (m_sightIs : Nat → Int32) (m_sights : Int32) (m_pad : Nat → Int32) (m_padMany : Int32) (m_act : Nat → Int32) (m_who : Nat → Int32) (m_much : Nat → Int32) (m_acts : Int32) (m_heardMany : Int32) (m_wrongNow : Int32) (m_had : Nat → Int32) (m_badAct : Int32) (m_badWhy : Int32) (m_wrongAct : Int32) (m_wrongHeir : Int32) (m_odd : Nat → Int32) (m_span : Nat → Int32) (m_rise : Nat → Int32) (m_wins : Nat → Int32) (m_stored : Nat → Int32) (m_isStored : Nat → Int32) (m_storedAt : Int32) (m_isWriting : Int32) (v2 : Int32) (r : (Nat → Int32) × (Nat → Int32) × Int32) (h : f_X9_passRow_place m_place m_stored m_storedAt m_isWriting v2 = some r) : Kt l D T yX9_passRow cX9_passRow 4 none (1, 0, 0, 22) [.ref (a 0), .ref (a 4), .int v2] (wM T a m_beat m_nick m_owner m_place m_kept m_heard m_chosen m_minutes m_sightBeat m_sightOff m_sightIs m_sights m_pad m_padMany m_act m_who m_much m_acts m_heardMany m_wrongNow m_had m_badAct m_badWhy m_wrongAct m_wrongHeir m_odd m_span m_rise m_wins m_stored m_isStored m_storedAt m_isWriting) (FF (fun (r : (Nat → Int32) × (Nat → Int32) × Int32) => none) (fun r => wM T a m_beat m_nick m_owner r.1 m_kept m_heard m_chosen m_minutes m_sightBeat m_sightOff m_sightIs m_sights m_pad m_padMany m_act m_who m_much m_acts m_heardMany m_wrongNow m_had m_badAct m_badWhy m_wrongAct m_wrongHeir m_odd m_span m_rise m_wins r.2.1 m_isStored r.2.2 m_isWriting) r) := by
  refine kt_of (own := RX9) (nm := "passRow") (lv := [(0, .ref (a 0)), (1, .ref (a 4)), (2, .int v2)]) (by decide) rfl rfl rfl (Nat.le_of_ble_eq_true rfl) h (fun X hn C M => ?_)
  have hnn : ((0, 0) : Nat × Nat).1 ≤ 0 ∧ ((0, 0) : Nat × Nat).2 ≤ 0 := ⟨Nat.le_refl 0, Nat.le_refl 0⟩
  unfold f_X9_passRow_place
  refine gg_iconst C dX9_passRow_0 kI_0 ?_
  refine gg_istore_n C dX9_passRow_1 rfl hn (by decide) (lv' := [(3, .int 0), (0, .ref (a 0)), (1, .ref (a 4)), (2, .int v2)]) rfl ?_
  refine gg_join (α := Int32 × (Nat → Int32) × (Nat → Int32) × Int32) 23 (fun z2 => wM T a m_beat m_nick m_owner z2.2.1 m_kept m_heard m_chosen m_minutes m_sightBeat m_sightOff m_sightIs m_sights m_pad m_padMany m_act m_who m_much m_acts m_heardMany m_wrongNow m_had m_badAct m_badWhy m_wrongAct m_wrongHeir m_odd m_span m_rise m_wins z2.2.2.1 m_isStored z2.2.2.2 m_isWriting) (fun z2 => [(0, .ref (a 0)), (1, .ref (a 4)), (2, .int v2), (3, .int z2.1)]) (fun z2 => []) (fun z2 => ?_) (fun K3 => ?_)
  · exact gg_vret C M dX9_passRow_23 ⟨rfl, rfl⟩
  · refine gg_sub [1, 2, 3, 0] rfl ?_
    exact g_X9_passRow_place_L2 C hnn hn a v2 m_beat m_nick m_owner m_kept m_heard m_chosen m_minutes m_sightBeat m_sightOff m_sightIs m_sights m_pad m_padMany m_act m_who m_much m_acts m_heardMany m_wrongNow m_had m_badAct m_badWhy m_wrongAct m_wrongHeir m_odd m_span m_rise m_wins m_isStored m_isWriting K3 100 0 m_place m_stored m_storedAt
def f_X9_passRow_kept_L2 (y2 : Int32) (m_isWriting : Int32) : Nat → Int32 → (Nat → Int32) → (Nat → Int32) → Int32 → Option (Int32 × (Nat → Int32) × (Nat → Int32) × Int32)
  | 0, _, _, _, _ => none
  | nn + 1, y3, m_kept, m_stored, m_storedAt => if y2 ≤ y3 then some (y3, m_kept, m_stored, m_storedAt) else gu y3 6 (jn (f_X9_put m_stored m_storedAt m_isWriting (m_kept y3.toNatClampNeg)) (fun r1 => gu y3 6 (f_X9_passRow_kept_L2 y2 m_isWriting nn (y3 + 1) (upd m_kept y3.toNatClampNeg r1.1) r1.2.1 r1.2.2)))
set_option maxHeartbeats 4000000 in
set_option maxRecDepth 100000 in
theorem g_X9_passRow_kept_L2 {X : KX} {D : va_G} {T : Nat → ClassId} {Q : Int32 × (Nat → Int32) × (Nat → Int32) × Int32 → State → Prop} {n : Nat × Nat} (C : Cx X D T cX9_passRow RX9 { frames := 1, cells := 0, slots := 0, locals := 22 }) (hnn : n.1 ≤ 0 ∧ n.2 ≤ 0) (hn : kxL X = 4) (a : Nat → Nat)  (y2 : Int32) (m_beat : Nat → Int32) (m_nick : Nat → Int32) (m_owner : Nat → Int32) (m_place : Nat → Int32) (m_heard : Nat → Int32) (m_chosen : Nat → Int32) (m_minutes : Int32) (m_sightBeat : Nat → Int32) (m_sightOff : Nat → Int32) (m_sightIs : Nat → Int32) (m_sights : Int32) (m_pad : Nat → Int32) (m_padMany : Int32) (m_act : Nat → Int32) (m_who : Nat → Int32) (m_much : Nat → Int32) (m_acts : Int32) (m_heardMany : Int32) (m_wrongNow : Int32) (m_had : Nat → Int32) (m_badAct : Int32) (m_badWhy : Int32) (m_wrongAct : Int32) (m_wrongHeir : Int32) (m_odd : Nat → Int32) (m_span : Nat → Int32) (m_rise : Nat → Int32) (m_wins : Nat → Int32) (m_isStored : Nat → Int32) (m_isWriting : Int32) (hk : ∀ v : Int32 × (Nat → Int32) × (Nat → Int32) × Int32, GG X D Q n (wM T a m_beat m_nick m_owner m_place v.2.1 m_heard m_chosen m_minutes m_sightBeat m_sightOff m_sightIs m_sights m_pad m_padMany m_act m_who m_much m_acts m_heardMany m_wrongNow m_had m_badAct m_badWhy m_wrongAct m_wrongHeir m_odd m_span m_rise m_wins v.2.2.1 m_isStored v.2.2.2 m_isWriting) [(0, .ref (a 0)), (1, .ref (a 5)), (2, .int y2), (3, .int v.1)] 23 [] (some (v))) : ∀ (nn : Nat) (y3 : Int32) (m_kept : Nat → Int32) (m_stored : Nat → Int32) (m_storedAt : Int32), GG X D Q n (wM T a m_beat m_nick m_owner m_place m_kept m_heard m_chosen m_minutes m_sightBeat m_sightOff m_sightIs m_sights m_pad m_padMany m_act m_who m_much m_acts m_heardMany m_wrongNow m_had m_badAct m_badWhy m_wrongAct m_wrongHeir m_odd m_span m_rise m_wins m_stored m_isStored m_storedAt m_isWriting) [(0, .ref (a 0)), (1, .ref (a 5)), (2, .int y2), (3, .int y3)] 2 [] (f_X9_passRow_kept_L2 y2 m_isWriting nn y3 m_kept m_stored m_storedAt) := by
  intro nn
  induction nn with
  | zero => intros; exact gg_none
  | succ nn ih =>
    intro y3 m_kept m_stored m_storedAt
    unfold f_X9_passRow_kept_L2
    refine gg_iload_n C dX9_passRow_2 rfl 3 rfl ?_
    refine gg_iload_n C dX9_passRow_3 rfl 2 rfl ?_
    refine gg_icmp_ge C dX9_passRow_4 (tgt := 23) (by decide) (fun _ => ?_) (fun _ => ?_)
    · refine gg_sub [0, 1, 2, 3] rfl ?_
      exact hk (y3, m_kept, m_stored, m_storedAt)
    · refine gg_aload_n C dX9_passRow_7 rfl 1 rfl ?_
      refine gg_iload_n C dX9_passRow_8 rfl 3 rfl ?_
      refine gg_aload_n C dX9_passRow_9 rfl 0 rfl ?_
      refine gg_aload_n C dX9_passRow_10 rfl 1 rfl ?_
      refine gg_iload_n C dX9_passRow_11 rfl 3 rfl ?_
      refine gg_iald C 5 rfl dX9_passRow_12 ?_
      refine gg_callV C (fun l r h => c_X9_put l D T a m_beat m_nick m_owner m_place m_kept m_heard m_chosen m_minutes m_sightBeat m_sightOff m_sightIs m_sights m_pad m_padMany m_act m_who m_much m_acts m_heardMany m_wrongNow m_had m_badAct m_badWhy m_wrongAct m_wrongHeir m_odd m_span m_rise m_wins m_stored m_isStored m_storedAt m_isWriting (m_kept y3.toNatClampNeg) r h) lk_X9_295 ⟨by decide, by decide⟩ hnn rfl (rest := [.int y3, .ref (a 5)]) rfl (Nat.le_of_ble_eq_true rfl) 0 rfl rfl dX9_passRow_13 (ws2 := fun r1 => wM T a m_beat m_nick m_owner m_place m_kept m_heard m_chosen m_minutes m_sightBeat m_sightOff m_sightIs m_sights m_pad m_padMany m_act m_who m_much m_acts m_heardMany m_wrongNow m_had m_badAct m_badWhy m_wrongAct m_wrongHeir m_odd m_span m_rise m_wins r1.2.1 m_isStored r1.2.2 m_isWriting) (cut_full (fun _ => rfl)) (st2 := fun r1 => [.int r1.1, .int y3, .ref (a 5)]) (fun _ => rfl) (fun r1 => ?_)
      refine gg_iast C 5 rfl dX9_passRow_16 (ws' := wM T a m_beat m_nick m_owner m_place (upd m_kept y3.toNatClampNeg r1.1) m_heard m_chosen m_minutes m_sightBeat m_sightOff m_sightIs m_sights m_pad m_padMany m_act m_who m_much m_acts m_heardMany m_wrongNow m_had m_badAct m_badWhy m_wrongAct m_wrongHeir m_odd m_span m_rise m_wins r1.2.1 m_isStored r1.2.2 m_isWriting) rfl ?_
      refine gg_iinc C dX9_passRow_17 (j := 3) rfl (v := y3 + 1) (by first | rfl | decide) hn (by decide) (lv' := [(3, .int (y3 + 1)), (0, .ref (a 0)), (1, .ref (a 5)), (2, .int y2)]) rfl ?_
      refine gg_goto C dX9_passRow_20 (tgt := 2) (by decide) ?_
      refine gg_sub [1, 2, 3, 0] rfl ?_
      exact ih (y3 + 1) (upd m_kept y3.toNatClampNeg r1.1) r1.2.1 r1.2.2
def f_X9_passRow_kept (m_kept : Nat → Int32) (m_stored : Nat → Int32) (m_storedAt : Int32) (m_isWriting : Int32) (v2 : Int32) : Option ((Nat → Int32) × (Nat → Int32) × Int32) := jn (α := Int32 × (Nat → Int32) × (Nat → Int32) × Int32) (f_X9_passRow_kept_L2 v2 m_isWriting 100 0 m_kept m_stored m_storedAt) (fun z2 => some (z2.2.1, z2.2.2.1, z2.2.2.2))
set_option maxHeartbeats 4000000 in
set_option maxRecDepth 100000 in
theorem c_X9_passRow_kept (l : Launch) (D : va_G) (T : Nat → ClassId) (a : Nat → Nat) (m_beat : Nat → Int32) (m_nick : Nat → Int32) (m_owner : Nat → Int32) (m_place : Nat → Int32) (m_kept : Nat → Int32) (m_heard : Nat → Int32) (m_chosen : Nat → Int32) (m_minutes : Int32) (m_sightBeat : Nat → Int32) (m_sightOff : Nat → Int32) (m_sightIs : Nat → Int32) (m_sights : Int32) (m_pad : Nat → Int32) (m_padMany : Int32) (m_act : Nat → Int32) (m_who : Nat → Int32) (m_much : Nat → Int32) (m_acts : Int32) (m_heardMany : Int32) (m_wrongNow : Int32) (m_had : Nat → Int32) (m_badAct : Int32) (m_badWhy : Int32) (m_wrongAct : Int32) (m_wrongHeir : Int32) (m_odd : Nat → Int32) (m_span : Nat → Int32) (m_rise : Nat → Int32) (m_wins : Nat → Int32) (m_stored : Nat → Int32) (m_isStored : Nat → Int32) (m_storedAt : Int32) (m_isWriting : Int32) (v2 : Int32) (r : (Nat → Int32) × (Nat → Int32) × Int32) (h : f_X9_passRow_kept m_kept m_stored m_storedAt m_isWriting v2 = some r) : Kt l D T yX9_passRow cX9_passRow 4 none (1, 0, 0, 22) [.ref (a 0), .ref (a 5), .int v2] (wM T a m_beat m_nick m_owner m_place m_kept m_heard m_chosen m_minutes m_sightBeat m_sightOff m_sightIs m_sights m_pad m_padMany m_act m_who m_much m_acts m_heardMany m_wrongNow m_had m_badAct m_badWhy m_wrongAct m_wrongHeir m_odd m_span m_rise m_wins m_stored m_isStored m_storedAt m_isWriting) (FF (fun (r : (Nat → Int32) × (Nat → Int32) × Int32) => none) (fun r => wM T a m_beat m_nick m_owner m_place r.1 m_heard m_chosen m_minutes m_sightBeat m_sightOff m_sightIs m_sights m_pad m_padMany m_act m_who m_much m_acts m_heardMany m_wrongNow m_had m_badAct m_badWhy m_wrongAct m_wrongHeir m_odd m_span m_rise m_wins r.2.1 m_isStored r.2.2 m_isWriting) r) := by
  refine kt_of (own := RX9) (nm := "passRow") (lv := [(0, .ref (a 0)), (1, .ref (a 5)), (2, .int v2)]) (by decide) rfl rfl rfl (Nat.le_of_ble_eq_true rfl) h (fun X hn C M => ?_)
  have hnn : ((0, 0) : Nat × Nat).1 ≤ 0 ∧ ((0, 0) : Nat × Nat).2 ≤ 0 := ⟨Nat.le_refl 0, Nat.le_refl 0⟩
  unfold f_X9_passRow_kept
  refine gg_iconst C dX9_passRow_0 kI_0 ?_
  refine gg_istore_n C dX9_passRow_1 rfl hn (by decide) (lv' := [(3, .int 0), (0, .ref (a 0)), (1, .ref (a 5)), (2, .int v2)]) rfl ?_
  refine gg_join (α := Int32 × (Nat → Int32) × (Nat → Int32) × Int32) 23 (fun z2 => wM T a m_beat m_nick m_owner m_place z2.2.1 m_heard m_chosen m_minutes m_sightBeat m_sightOff m_sightIs m_sights m_pad m_padMany m_act m_who m_much m_acts m_heardMany m_wrongNow m_had m_badAct m_badWhy m_wrongAct m_wrongHeir m_odd m_span m_rise m_wins z2.2.2.1 m_isStored z2.2.2.2 m_isWriting) (fun z2 => [(0, .ref (a 0)), (1, .ref (a 5)), (2, .int v2), (3, .int z2.1)]) (fun z2 => []) (fun z2 => ?_) (fun K3 => ?_)
  · exact gg_vret C M dX9_passRow_23 ⟨rfl, rfl⟩
  · refine gg_sub [1, 2, 3, 0] rfl ?_
    exact g_X9_passRow_kept_L2 C hnn hn a v2 m_beat m_nick m_owner m_place m_heard m_chosen m_minutes m_sightBeat m_sightOff m_sightIs m_sights m_pad m_padMany m_act m_who m_much m_acts m_heardMany m_wrongNow m_had m_badAct m_badWhy m_wrongAct m_wrongHeir m_odd m_span m_rise m_wins m_isStored m_isWriting K3 100 0 m_kept m_stored m_storedAt
def f_X9_passRow_heard_L2 (y2 : Int32) (m_isWriting : Int32) : Nat → Int32 → (Nat → Int32) → (Nat → Int32) → Int32 → Option (Int32 × (Nat → Int32) × (Nat → Int32) × Int32)
  | 0, _, _, _, _ => none
  | nn + 1, y3, m_heard, m_stored, m_storedAt => if y2 ≤ y3 then some (y3, m_heard, m_stored, m_storedAt) else gu y3 6 (jn (f_X9_put m_stored m_storedAt m_isWriting (m_heard y3.toNatClampNeg)) (fun r1 => gu y3 6 (f_X9_passRow_heard_L2 y2 m_isWriting nn (y3 + 1) (upd m_heard y3.toNatClampNeg r1.1) r1.2.1 r1.2.2)))
set_option maxHeartbeats 4000000 in
set_option maxRecDepth 100000 in
theorem g_X9_passRow_heard_L2 {X : KX} {D : va_G} {T : Nat → ClassId} {Q : Int32 × (Nat → Int32) × (Nat → Int32) × Int32 → State → Prop} {n : Nat × Nat} (C : Cx X D T cX9_passRow RX9 { frames := 1, cells := 0, slots := 0, locals := 22 }) (hnn : n.1 ≤ 0 ∧ n.2 ≤ 0) (hn : kxL X = 4) (a : Nat → Nat)  (y2 : Int32) (m_beat : Nat → Int32) (m_nick : Nat → Int32) (m_owner : Nat → Int32) (m_place : Nat → Int32) (m_kept : Nat → Int32) (m_chosen : Nat → Int32) (m_minutes : Int32) (m_sightBeat : Nat → Int32) (m_sightOff : Nat → Int32) (m_sightIs : Nat → Int32) (m_sights : Int32) (m_pad : Nat → Int32) (m_padMany : Int32) (m_act : Nat → Int32) (m_who : Nat → Int32) (m_much : Nat → Int32) (m_acts : Int32) (m_heardMany : Int32) (m_wrongNow : Int32) (m_had : Nat → Int32) (m_badAct : Int32) (m_badWhy : Int32) (m_wrongAct : Int32) (m_wrongHeir : Int32) (m_odd : Nat → Int32) (m_span : Nat → Int32) (m_rise : Nat → Int32) (m_wins : Nat → Int32) (m_isStored : Nat → Int32) (m_isWriting : Int32) (hk : ∀ v : Int32 × (Nat → Int32) × (Nat → Int32) × Int32, GG X D Q n (wM T a m_beat m_nick m_owner m_place m_kept v.2.1 m_chosen m_minutes m_sightBeat m_sightOff m_sightIs m_sights m_pad m_padMany m_act m_who m_much m_acts m_heardMany m_wrongNow m_had m_badAct m_badWhy m_wrongAct m_wrongHeir m_odd m_span m_rise m_wins v.2.2.1 m_isStored v.2.2.2 m_isWriting) [(0, .ref (a 0)), (1, .ref (a 6)), (2, .int y2), (3, .int v.1)] 23 [] (some (v))) : ∀ (nn : Nat) (y3 : Int32) (m_heard : Nat → Int32) (m_stored : Nat → Int32) (m_storedAt : Int32), GG X D Q n (wM T a m_beat m_nick m_owner m_place m_kept m_heard m_chosen m_minutes m_sightBeat m_sightOff m_sightIs m_sights m_pad m_padMany m_act m_who m_much m_acts m_heardMany m_wrongNow m_had m_badAct m_badWhy m_wrongAct m_wrongHeir m_odd m_span m_rise m_wins m_stored m_isStored m_storedAt m_isWriting) [(0, .ref (a 0)), (1, .ref (a 6)), (2, .int y2), (3, .int y3)] 2 [] (f_X9_passRow_heard_L2 y2 m_isWriting nn y3 m_heard m_stored m_storedAt) := by
  intro nn
  induction nn with
  | zero => intros; exact gg_none
  | succ nn ih =>
    intro y3 m_heard m_stored m_storedAt
    unfold f_X9_passRow_heard_L2
    refine gg_iload_n C dX9_passRow_2 rfl 3 rfl ?_
    refine gg_iload_n C dX9_passRow_3 rfl 2 rfl ?_
    refine gg_icmp_ge C dX9_passRow_4 (tgt := 23) (by decide) (fun _ => ?_) (fun _ => ?_)
    · refine gg_sub [0, 1, 2, 3] rfl ?_
      exact hk (y3, m_heard, m_stored, m_storedAt)
    · refine gg_aload_n C dX9_passRow_7 rfl 1 rfl ?_
      refine gg_iload_n C dX9_passRow_8 rfl 3 rfl ?_
      refine gg_aload_n C dX9_passRow_9 rfl 0 rfl ?_
      refine gg_aload_n C dX9_passRow_10 rfl 1 rfl ?_
      refine gg_iload_n C dX9_passRow_11 rfl 3 rfl ?_
      refine gg_iald C 6 rfl dX9_passRow_12 ?_
      refine gg_callV C (fun l r h => c_X9_put l D T a m_beat m_nick m_owner m_place m_kept m_heard m_chosen m_minutes m_sightBeat m_sightOff m_sightIs m_sights m_pad m_padMany m_act m_who m_much m_acts m_heardMany m_wrongNow m_had m_badAct m_badWhy m_wrongAct m_wrongHeir m_odd m_span m_rise m_wins m_stored m_isStored m_storedAt m_isWriting (m_heard y3.toNatClampNeg) r h) lk_X9_295 ⟨by decide, by decide⟩ hnn rfl (rest := [.int y3, .ref (a 6)]) rfl (Nat.le_of_ble_eq_true rfl) 0 rfl rfl dX9_passRow_13 (ws2 := fun r1 => wM T a m_beat m_nick m_owner m_place m_kept m_heard m_chosen m_minutes m_sightBeat m_sightOff m_sightIs m_sights m_pad m_padMany m_act m_who m_much m_acts m_heardMany m_wrongNow m_had m_badAct m_badWhy m_wrongAct m_wrongHeir m_odd m_span m_rise m_wins r1.2.1 m_isStored r1.2.2 m_isWriting) (cut_full (fun _ => rfl)) (st2 := fun r1 => [.int r1.1, .int y3, .ref (a 6)]) (fun _ => rfl) (fun r1 => ?_)
      refine gg_iast C 6 rfl dX9_passRow_16 (ws' := wM T a m_beat m_nick m_owner m_place m_kept (upd m_heard y3.toNatClampNeg r1.1) m_chosen m_minutes m_sightBeat m_sightOff m_sightIs m_sights m_pad m_padMany m_act m_who m_much m_acts m_heardMany m_wrongNow m_had m_badAct m_badWhy m_wrongAct m_wrongHeir m_odd m_span m_rise m_wins r1.2.1 m_isStored r1.2.2 m_isWriting) rfl ?_
      refine gg_iinc C dX9_passRow_17 (j := 3) rfl (v := y3 + 1) (by first | rfl | decide) hn (by decide) (lv' := [(3, .int (y3 + 1)), (0, .ref (a 0)), (1, .ref (a 6)), (2, .int y2)]) rfl ?_
      refine gg_goto C dX9_passRow_20 (tgt := 2) (by decide) ?_
      refine gg_sub [1, 2, 3, 0] rfl ?_
      exact ih (y3 + 1) (upd m_heard y3.toNatClampNeg r1.1) r1.2.1 r1.2.2
def f_X9_passRow_heard (m_heard : Nat → Int32) (m_stored : Nat → Int32) (m_storedAt : Int32) (m_isWriting : Int32) (v2 : Int32) : Option ((Nat → Int32) × (Nat → Int32) × Int32) := jn (α := Int32 × (Nat → Int32) × (Nat → Int32) × Int32) (f_X9_passRow_heard_L2 v2 m_isWriting 100 0 m_heard m_stored m_storedAt) (fun z2 => some (z2.2.1, z2.2.2.1, z2.2.2.2))
set_option maxHeartbeats 4000000 in
set_option maxRecDepth 100000 in
theorem c_X9_passRow_heard (l : Launch) (D : va_G) (T : Nat → ClassId) (a : Nat → Nat) (m_beat : Nat → Int32) (m_nick : Nat → Int32) (m_owner : Nat → Int32) (m_place : Nat → Int32) (m_kept : Nat → Int32) (m_heard : Nat → Int32) (m_chosen : Nat → Int32) (m_minutes : Int32) (m_sightBeat : Nat → Int32) (m_sightOff : Nat → Int32) (m_sightIs : Nat → Int32) (m_sights : Int32) (m_pad : Nat → Int32) (m_padMany : Int32) (m_act : Nat → Int32) (m_who : Nat → Int32) (m_much : Nat → Int32) (m_acts : Int32) (m_heardMany : Int32) (m_wrongNow : Int32) (m_had : Nat → Int32) (m_badAct : Int32) (m_badWhy : Int32) (m_wrongAct : Int32) (m_wrongHeir : Int32) (m_odd : Nat → Int32) (m_span : Nat → Int32) (m_rise : Nat → Int32) (m_wins : Nat → Int32) (m_stored : Nat → Int32) (m_isStored : Nat → Int32) (m_storedAt : Int32) (m_isWriting : Int32) (v2 : Int32) (r : (Nat → Int32) × (Nat → Int32) × Int32) (h : f_X9_passRow_heard m_heard m_stored m_storedAt m_isWriting v2 = some r) : Kt l D T yX9_passRow cX9_passRow 4 none (1, 0, 0, 22) [.ref (a 0), .ref (a 6), .int v2] (wM T a m_beat m_nick m_owner m_place m_kept m_heard m_chosen m_minutes m_sightBeat m_sightOff m_sightIs m_sights m_pad m_padMany m_act m_who m_much m_acts m_heardMany m_wrongNow m_had m_badAct m_badWhy m_wrongAct m_wrongHeir m_odd m_span m_rise m_wins m_stored m_isStored m_storedAt m_isWriting) (FF (fun (r : (Nat → Int32) × (Nat → Int32) × Int32) => none) (fun r => wM T a m_beat m_nick m_owner m_place m_kept r.1 m_chosen m_minutes m_sightBeat m_sightOff m_sightIs m_sights m_pad m_padMany m_act m_who m_much m_acts m_heardMany m_wrongNow m_had m_badAct m_badWhy m_wrongAct m_wrongHeir m_odd m_span m_rise m_wins r.2.1 m_isStored r.2.2 m_isWriting) r) := by
  refine kt_of (own := RX9) (nm := "passRow") (lv := [(0, .ref (a 0)), (1, .ref (a 6)), (2, .int v2)]) (by decide) rfl rfl rfl (Nat.le_of_ble_eq_true rfl) h (fun X hn C M => ?_)
  have hnn : ((0, 0) : Nat × Nat).1 ≤ 0 ∧ ((0, 0) : Nat × Nat).2 ≤ 0 := ⟨Nat.le_refl 0, Nat.le_refl 0⟩
  unfold f_X9_passRow_heard
  refine gg_iconst C dX9_passRow_0 kI_0 ?_
  refine gg_istore_n C dX9_passRow_1 rfl hn (by decide) (lv' := [(3, .int 0), (0, .ref (a 0)), (1, .ref (a 6)), (2, .int v2)]) rfl ?_
  refine gg_join (α := Int32 × (Nat → Int32) × (Nat → Int32) × Int32) 23 (fun z2 => wM T a m_beat m_nick m_owner m_place m_kept z2.2.1 m_chosen m_minutes m_sightBeat m_sightOff m_sightIs m_sights m_pad m_padMany m_act m_who m_much m_acts m_heardMany m_wrongNow m_had m_badAct m_badWhy m_wrongAct m_wrongHeir m_odd m_span m_rise m_wins z2.2.2.1 m_isStored z2.2.2.2 m_isWriting) (fun z2 => [(0, .ref (a 0)), (1, .ref (a 6)), (2, .int v2), (3, .int z2.1)]) (fun z2 => []) (fun z2 => ?_) (fun K3 => ?_)
  · exact gg_vret C M dX9_passRow_23 ⟨rfl, rfl⟩
  · refine gg_sub [1, 2, 3, 0] rfl ?_
    exact g_X9_passRow_heard_L2 C hnn hn a v2 m_beat m_nick m_owner m_place m_kept m_chosen m_minutes m_sightBeat m_sightOff m_sightIs m_sights m_pad m_padMany m_act m_who m_much m_acts m_heardMany m_wrongNow m_had m_badAct m_badWhy m_wrongAct m_wrongHeir m_odd m_span m_rise m_wins m_isStored m_isWriting K3 100 0 m_heard m_stored m_storedAt
def f_X9_passRow_chosen_L2 (y2 : Int32) (m_isWriting : Int32) : Nat → Int32 → (Nat → Int32) → (Nat → Int32) → Int32 → Option (Int32 × (Nat → Int32) × (Nat → Int32) × Int32)
  | 0, _, _, _, _ => none
  | nn + 1, y3, m_chosen, m_stored, m_storedAt => if y2 ≤ y3 then some (y3, m_chosen, m_stored, m_storedAt) else gu y3 6 (jn (f_X9_put m_stored m_storedAt m_isWriting (m_chosen y3.toNatClampNeg)) (fun r1 => gu y3 6 (f_X9_passRow_chosen_L2 y2 m_isWriting nn (y3 + 1) (upd m_chosen y3.toNatClampNeg r1.1) r1.2.1 r1.2.2)))
set_option maxHeartbeats 4000000 in
set_option maxRecDepth 100000 in
theorem g_X9_passRow_chosen_L2 {X : KX} {D : va_G} {T : Nat → ClassId} {Q : Int32 × (Nat → Int32) × (Nat → Int32) × Int32 → State → Prop} {n : Nat × Nat} (C : Cx X D T cX9_passRow RX9 { frames := 1, cells := 0, slots := 0, locals := 22 }) (hnn : n.1 ≤ 0 ∧ n.2 ≤ 0) (hn : kxL X = 4) (a : Nat → Nat)  (y2 : Int32) (m_beat : Nat → Int32) (m_nick : Nat → Int32) (m_owner : Nat → Int32) (m_place : Nat → Int32) (m_kept : Nat → Int32) (m_heard : Nat → Int32) (m_minutes : Int32) (m_sightBeat : Nat → Int32) (m_sightOff : Nat → Int32) (m_sightIs : Nat → Int32) (m_sights : Int32) (m_pad : Nat → Int32) (m_padMany : Int32) (m_act : Nat → Int32) (m_who : Nat → Int32) (m_much : Nat → Int32) (m_acts : Int32) (m_heardMany : Int32) (m_wrongNow : Int32) (m_had : Nat → Int32) (m_badAct : Int32) (m_badWhy : Int32) (m_wrongAct : Int32) (m_wrongHeir : Int32) (m_odd : Nat → Int32) (m_span : Nat → Int32) (m_rise : Nat → Int32) (m_wins : Nat → Int32) (m_isStored : Nat → Int32) (m_isWriting : Int32) (hk : ∀ v : Int32 × (Nat → Int32) × (Nat → Int32) × Int32, GG X D Q n (wM T a m_beat m_nick m_owner m_place m_kept m_heard v.2.1 m_minutes m_sightBeat m_sightOff m_sightIs m_sights m_pad m_padMany m_act m_who m_much m_acts m_heardMany m_wrongNow m_had m_badAct m_badWhy m_wrongAct m_wrongHeir m_odd m_span m_rise m_wins v.2.2.1 m_isStored v.2.2.2 m_isWriting) [(0, .ref (a 0)), (1, .ref (a 7)), (2, .int y2), (3, .int v.1)] 23 [] (some (v))) : ∀ (nn : Nat) (y3 : Int32) (m_chosen : Nat → Int32) (m_stored : Nat → Int32) (m_storedAt : Int32), GG X D Q n (wM T a m_beat m_nick m_owner m_place m_kept m_heard m_chosen m_minutes m_sightBeat m_sightOff m_sightIs m_sights m_pad m_padMany m_act m_who m_much m_acts m_heardMany m_wrongNow m_had m_badAct m_badWhy m_wrongAct m_wrongHeir m_odd m_span m_rise m_wins m_stored m_isStored m_storedAt m_isWriting) [(0, .ref (a 0)), (1, .ref (a 7)), (2, .int y2), (3, .int y3)] 2 [] (f_X9_passRow_chosen_L2 y2 m_isWriting nn y3 m_chosen m_stored m_storedAt) := by
  intro nn
  induction nn with
  | zero => intros; exact gg_none
  | succ nn ih =>
    intro y3 m_chosen m_stored m_storedAt
    unfold f_X9_passRow_chosen_L2
    refine gg_iload_n C dX9_passRow_2 rfl 3 rfl ?_
    refine gg_iload_n C dX9_passRow_3 rfl 2 rfl ?_
    refine gg_icmp_ge C dX9_passRow_4 (tgt := 23) (by decide) (fun _ => ?_) (fun _ => ?_)
    · refine gg_sub [0, 1, 2, 3] rfl ?_
      exact hk (y3, m_chosen, m_stored, m_storedAt)
    · refine gg_aload_n C dX9_passRow_7 rfl 1 rfl ?_
      refine gg_iload_n C dX9_passRow_8 rfl 3 rfl ?_
      refine gg_aload_n C dX9_passRow_9 rfl 0 rfl ?_
      refine gg_aload_n C dX9_passRow_10 rfl 1 rfl ?_
      refine gg_iload_n C dX9_passRow_11 rfl 3 rfl ?_
      refine gg_iald C 7 rfl dX9_passRow_12 ?_
      refine gg_callV C (fun l r h => c_X9_put l D T a m_beat m_nick m_owner m_place m_kept m_heard m_chosen m_minutes m_sightBeat m_sightOff m_sightIs m_sights m_pad m_padMany m_act m_who m_much m_acts m_heardMany m_wrongNow m_had m_badAct m_badWhy m_wrongAct m_wrongHeir m_odd m_span m_rise m_wins m_stored m_isStored m_storedAt m_isWriting (m_chosen y3.toNatClampNeg) r h) lk_X9_295 ⟨by decide, by decide⟩ hnn rfl (rest := [.int y3, .ref (a 7)]) rfl (Nat.le_of_ble_eq_true rfl) 0 rfl rfl dX9_passRow_13 (ws2 := fun r1 => wM T a m_beat m_nick m_owner m_place m_kept m_heard m_chosen m_minutes m_sightBeat m_sightOff m_sightIs m_sights m_pad m_padMany m_act m_who m_much m_acts m_heardMany m_wrongNow m_had m_badAct m_badWhy m_wrongAct m_wrongHeir m_odd m_span m_rise m_wins r1.2.1 m_isStored r1.2.2 m_isWriting) (cut_full (fun _ => rfl)) (st2 := fun r1 => [.int r1.1, .int y3, .ref (a 7)]) (fun _ => rfl) (fun r1 => ?_)
      refine gg_iast C 7 rfl dX9_passRow_16 (ws' := wM T a m_beat m_nick m_owner m_place m_kept m_heard (upd m_chosen y3.toNatClampNeg r1.1) m_minutes m_sightBeat m_sightOff m_sightIs m_sights m_pad m_padMany m_act m_who m_much m_acts m_heardMany m_wrongNow m_had m_badAct m_badWhy m_wrongAct m_wrongHeir m_odd m_span m_rise m_wins r1.2.1 m_isStored r1.2.2 m_isWriting) rfl ?_
      refine gg_iinc C dX9_passRow_17 (j := 3) rfl (v := y3 + 1) (by first | rfl | decide) hn (by decide) (lv' := [(3, .int (y3 + 1)), (0, .ref (a 0)), (1, .ref (a 7)), (2, .int y2)]) rfl ?_
      refine gg_goto C dX9_passRow_20 (tgt := 2) (by decide) ?_
      refine gg_sub [1, 2, 3, 0] rfl ?_
      exact ih (y3 + 1) (upd m_chosen y3.toNatClampNeg r1.1) r1.2.1 r1.2.2
def f_X9_passRow_chosen (m_chosen : Nat → Int32) (m_stored : Nat → Int32) (m_storedAt : Int32) (m_isWriting : Int32) (v2 : Int32) : Option ((Nat → Int32) × (Nat → Int32) × Int32) := jn (α := Int32 × (Nat → Int32) × (Nat → Int32) × Int32) (f_X9_passRow_chosen_L2 v2 m_isWriting 100 0 m_chosen m_stored m_storedAt) (fun z2 => some (z2.2.1, z2.2.2.1, z2.2.2.2))
set_option maxHeartbeats 4000000 in
set_option maxRecDepth 100000 in
theorem c_X9_passRow_chosen (l : Launch) (D : va_G) (T : Nat → ClassId) (a : Nat → Nat) (m_beat : Nat → Int32) (m_nick : Nat → Int32) (m_owner : Nat → Int32) (m_place : Nat → Int32) (m_kept : Nat → Int32) (m_heard : Nat → Int32) (m_chosen : Nat → Int32) (m_minutes : Int32) (m_sightBeat : Nat → Int32) (m_sightOff : Nat → Int32) (m_sightIs : Nat → Int32) (m_sights : Int32) (m_pad : Nat → Int32) (m_padMany : Int32) (m_act : Nat → Int32) (m_who : Nat → Int32) (m_much : Nat → Int32) (m_acts : Int32) (m_heardMany : Int32) (m_wrongNow : Int32) (m_had : Nat → Int32) (m_badAct : Int32) (m_badWhy : Int32) (m_wrongAct : Int32) (m_wrongHeir : Int32) (m_odd : Nat → Int32) (m_span : Nat → Int32) (m_rise : Nat → Int32) (m_wins : Nat → Int32) (m_stored : Nat → Int32) (m_isStored : Nat → Int32) (m_storedAt : Int32) (m_isWriting : Int32) (v2 : Int32) (r : (Nat → Int32) × (Nat → Int32) × Int32) (h : f_X9_passRow_chosen m_chosen m_stored m_storedAt m_isWriting v2 = some r) : Kt l D T yX9_passRow cX9_passRow 4 none (1, 0, 0, 22) [.ref (a 0), .ref (a 7), .int v2] (wM T a m_beat m_nick m_owner m_place m_kept m_heard m_chosen m_minutes m_sightBeat m_sightOff m_sightIs m_sights m_pad m_padMany m_act m_who m_much m_acts m_heardMany m_wrongNow m_had m_badAct m_badWhy m_wrongAct m_wrongHeir m_odd m_span m_rise m_wins m_stored m_isStored m_storedAt m_isWriting) (FF (fun (r : (Nat → Int32) × (Nat → Int32) × Int32) => none) (fun r => wM T a m_beat m_nick m_owner m_place m_kept m_heard r.1 m_minutes m_sightBeat m_sightOff m_sightIs m_sights m_pad m_padMany m_act m_who m_much m_acts m_heardMany m_wrongNow m_had m_badAct m_badWhy m_wrongAct m_wrongHeir m_odd m_span m_rise m_wins r.2.1 m_isStored r.2.2 m_isWriting) r) := by
  refine kt_of (own := RX9) (nm := "passRow") (lv := [(0, .ref (a 0)), (1, .ref (a 7)), (2, .int v2)]) (by decide) rfl rfl rfl (Nat.le_of_ble_eq_true rfl) h (fun X hn C M => ?_)
  have hnn : ((0, 0) : Nat × Nat).1 ≤ 0 ∧ ((0, 0) : Nat × Nat).2 ≤ 0 := ⟨Nat.le_refl 0, Nat.le_refl 0⟩
  unfold f_X9_passRow_chosen
  refine gg_iconst C dX9_passRow_0 kI_0 ?_
  refine gg_istore_n C dX9_passRow_1 rfl hn (by decide) (lv' := [(3, .int 0), (0, .ref (a 0)), (1, .ref (a 7)), (2, .int v2)]) rfl ?_
  refine gg_join (α := Int32 × (Nat → Int32) × (Nat → Int32) × Int32) 23 (fun z2 => wM T a m_beat m_nick m_owner m_place m_kept m_heard z2.2.1 m_minutes m_sightBeat m_sightOff m_sightIs m_sights m_pad m_padMany m_act m_who m_much m_acts m_heardMany m_wrongNow m_had m_badAct m_badWhy m_wrongAct m_wrongHeir m_odd m_span m_rise m_wins z2.2.2.1 m_isStored z2.2.2.2 m_isWriting) (fun z2 => [(0, .ref (a 0)), (1, .ref (a 7)), (2, .int v2), (3, .int z2.1)]) (fun z2 => []) (fun z2 => ?_) (fun K3 => ?_)
  · exact gg_vret C M dX9_passRow_23 ⟨rfl, rfl⟩
  · refine gg_sub [1, 2, 3, 0] rfl ?_
    exact g_X9_passRow_chosen_L2 C hnn hn a v2 m_beat m_nick m_owner m_place m_kept m_heard m_minutes m_sightBeat m_sightOff m_sightIs m_sights m_pad m_padMany m_act m_who m_much m_acts m_heardMany m_wrongNow m_had m_badAct m_badWhy m_wrongAct m_wrongHeir m_odd m_span m_rise m_wins m_isStored m_isWriting K3 100 0 m_chosen m_stored m_storedAt
def f_X9_passRow_sightBeat_L2 (y2 : Int32) (m_isWriting : Int32) : Nat → Int32 → (Nat → Int32) → (Nat → Int32) → Int32 → Option (Int32 × (Nat → Int32) × (Nat → Int32) × Int32)
  | 0, _, _, _, _ => none
  | nn + 1, y3, m_sightBeat, m_stored, m_storedAt => if y2 ≤ y3 then some (y3, m_sightBeat, m_stored, m_storedAt) else gu y3 8 (jn (f_X9_put m_stored m_storedAt m_isWriting (m_sightBeat y3.toNatClampNeg)) (fun r1 => gu y3 8 (f_X9_passRow_sightBeat_L2 y2 m_isWriting nn (y3 + 1) (upd m_sightBeat y3.toNatClampNeg r1.1) r1.2.1 r1.2.2)))
set_option maxHeartbeats 4000000 in
set_option maxRecDepth 100000 in
theorem g_X9_passRow_sightBeat_L2 {X : KX} {D : va_G} {T : Nat → ClassId} {Q : Int32 × (Nat → Int32) × (Nat → Int32) × Int32 → State → Prop} {n : Nat × Nat} (C : Cx X D T cX9_passRow RX9 { frames := 1, cells := 0, slots := 0, locals := 22 }) (hnn : n.1 ≤ 0 ∧ n.2 ≤ 0) (hn : kxL X = 4) (a : Nat → Nat)  (y2 : Int32) (m_beat : Nat → Int32) (m_nick : Nat → Int32) (m_owner : Nat → Int32) (m_place : Nat → Int32) (m_kept : Nat → Int32) (m_heard : Nat → Int32) (m_chosen : Nat → Int32) (m_minutes : Int32) (m_sightOff : Nat → Int32) (m_sightIs : Nat → Int32) (m_sights : Int32) (m_pad : Nat → Int32) (m_padMany : Int32) (m_act : Nat → Int32) (m_who : Nat → Int32) (m_much : Nat → Int32) (m_acts : Int32) (m_heardMany : Int32) (m_wrongNow : Int32) (m_had : Nat → Int32) (m_badAct : Int32) (m_badWhy : Int32) (m_wrongAct : Int32) (m_wrongHeir : Int32) (m_odd : Nat → Int32) (m_span : Nat → Int32) (m_rise : Nat → Int32) (m_wins : Nat → Int32) (m_isStored : Nat → Int32) (m_isWriting : Int32) (hk : ∀ v : Int32 × (Nat → Int32) × (Nat → Int32) × Int32, GG X D Q n (wM T a m_beat m_nick m_owner m_place m_kept m_heard m_chosen m_minutes v.2.1 m_sightOff m_sightIs m_sights m_pad m_padMany m_act m_who m_much m_acts m_heardMany m_wrongNow m_had m_badAct m_badWhy m_wrongAct m_wrongHeir m_odd m_span m_rise m_wins v.2.2.1 m_isStored v.2.2.2 m_isWriting) [(0, .ref (a 0)), (1, .ref (a 8)), (2, .int y2), (3, .int v.1)] 23 [] (some (v))) : ∀ (nn : Nat) (y3 : Int32) (m_sightBeat : Nat → Int32) (m_stored : Nat → Int32) (m_storedAt : Int32), GG X D Q n (wM T a m_beat m_nick m_owner m_place m_kept m_heard m_chosen m_minutes m_sightBeat m_sightOff m_sightIs m_sights m_pad m_padMany m_act m_who m_much m_acts m_heardMany m_wrongNow m_had m_badAct m_badWhy m_wrongAct m_wrongHeir m_odd m_span m_rise m_wins m_stored m_isStored m_storedAt m_isWriting) [(0, .ref (a 0)), (1, .ref (a 8)), (2, .int y2), (3, .int y3)] 2 [] (f_X9_passRow_sightBeat_L2 y2 m_isWriting nn y3 m_sightBeat m_stored m_storedAt) := by
  intro nn
  induction nn with
  | zero => intros; exact gg_none
  | succ nn ih =>
    intro y3 m_sightBeat m_stored m_storedAt
    unfold f_X9_passRow_sightBeat_L2
    refine gg_iload_n C dX9_passRow_2 rfl 3 rfl ?_
    refine gg_iload_n C dX9_passRow_3 rfl 2 rfl ?_
    refine gg_icmp_ge C dX9_passRow_4 (tgt := 23) (by decide) (fun _ => ?_) (fun _ => ?_)
    · refine gg_sub [0, 1, 2, 3] rfl ?_
      exact hk (y3, m_sightBeat, m_stored, m_storedAt)
    · refine gg_aload_n C dX9_passRow_7 rfl 1 rfl ?_
      refine gg_iload_n C dX9_passRow_8 rfl 3 rfl ?_
      refine gg_aload_n C dX9_passRow_9 rfl 0 rfl ?_
      refine gg_aload_n C dX9_passRow_10 rfl 1 rfl ?_
      refine gg_iload_n C dX9_passRow_11 rfl 3 rfl ?_
      refine gg_iald C 8 rfl dX9_passRow_12 ?_
      refine gg_callV C (fun l r h => c_X9_put l D T a m_beat m_nick m_owner m_place m_kept m_heard m_chosen m_minutes m_sightBeat m_sightOff m_sightIs m_sights m_pad m_padMany m_act m_who m_much m_acts m_heardMany m_wrongNow m_had m_badAct m_badWhy m_wrongAct m_wrongHeir m_odd m_span m_rise m_wins m_stored m_isStored m_storedAt m_isWriting (m_sightBeat y3.toNatClampNeg) r h) lk_X9_295 ⟨by decide, by decide⟩ hnn rfl (rest := [.int y3, .ref (a 8)]) rfl (Nat.le_of_ble_eq_true rfl) 0 rfl rfl dX9_passRow_13 (ws2 := fun r1 => wM T a m_beat m_nick m_owner m_place m_kept m_heard m_chosen m_minutes m_sightBeat m_sightOff m_sightIs m_sights m_pad m_padMany m_act m_who m_much m_acts m_heardMany m_wrongNow m_had m_badAct m_badWhy m_wrongAct m_wrongHeir m_odd m_span m_rise m_wins r1.2.1 m_isStored r1.2.2 m_isWriting) (cut_full (fun _ => rfl)) (st2 := fun r1 => [.int r1.1, .int y3, .ref (a 8)]) (fun _ => rfl) (fun r1 => ?_)
      refine gg_iast C 8 rfl dX9_passRow_16 (ws' := wM T a m_beat m_nick m_owner m_place m_kept m_heard m_chosen m_minutes (upd m_sightBeat y3.toNatClampNeg r1.1) m_sightOff m_sightIs m_sights m_pad m_padMany m_act m_who m_much m_acts m_heardMany m_wrongNow m_had m_badAct m_badWhy m_wrongAct m_wrongHeir m_odd m_span m_rise m_wins r1.2.1 m_isStored r1.2.2 m_isWriting) rfl ?_
      refine gg_iinc C dX9_passRow_17 (j := 3) rfl (v := y3 + 1) (by first | rfl | decide) hn (by decide) (lv' := [(3, .int (y3 + 1)), (0, .ref (a 0)), (1, .ref (a 8)), (2, .int y2)]) rfl ?_
      refine gg_goto C dX9_passRow_20 (tgt := 2) (by decide) ?_
      refine gg_sub [1, 2, 3, 0] rfl ?_
      exact ih (y3 + 1) (upd m_sightBeat y3.toNatClampNeg r1.1) r1.2.1 r1.2.2
def f_X9_passRow_sightBeat (m_sightBeat : Nat → Int32) (m_stored : Nat → Int32) (m_storedAt : Int32) (m_isWriting : Int32) (v2 : Int32) : Option ((Nat → Int32) × (Nat → Int32) × Int32) := jn (α := Int32 × (Nat → Int32) × (Nat → Int32) × Int32) (f_X9_passRow_sightBeat_L2 v2 m_isWriting 100 0 m_sightBeat m_stored m_storedAt) (fun z2 => some (z2.2.1, z2.2.2.1, z2.2.2.2))
set_option maxHeartbeats 4000000 in
set_option maxRecDepth 100000 in
theorem c_X9_passRow_sightBeat (l : Launch) (D : va_G) (T : Nat → ClassId) (a : Nat → Nat) (m_beat : Nat → Int32) (m_nick : Nat → Int32) (m_owner : Nat → Int32) (m_place : Nat → Int32) (m_kept : Nat → Int32) (m_heard : Nat → Int32) (m_chosen : Nat → Int32) (m_minutes : Int32) (m_sightBeat : Nat → Int32) (m_sightOff : Nat → Int32) (m_sightIs : Nat → Int32) (m_sights : Int32) (m_pad : Nat → Int32) (m_padMany : Int32) (m_act : Nat → Int32) (m_who : Nat → Int32) (m_much : Nat → Int32) (m_acts : Int32) (m_heardMany : Int32) (m_wrongNow : Int32) (m_had : Nat → Int32) (m_badAct : Int32) (m_badWhy : Int32) (m_wrongAct : Int32) (m_wrongHeir : Int32) (m_odd : Nat → Int32) (m_span : Nat → Int32) (m_rise : Nat → Int32) (m_wins : Nat → Int32) (m_stored : Nat → Int32) (m_isStored : Nat → Int32) (m_storedAt : Int32) (m_isWriting : Int32) (v2 : Int32) (r : (Nat → Int32) × (Nat → Int32) × Int32) (h : f_X9_passRow_sightBeat m_sightBeat m_stored m_storedAt m_isWriting v2 = some r) : Kt l D T yX9_passRow cX9_passRow 4 none (1, 0, 0, 22) [.ref (a 0), .ref (a 8), .int v2] (wM T a m_beat m_nick m_owner m_place m_kept m_heard m_chosen m_minutes m_sightBeat m_sightOff m_sightIs m_sights m_pad m_padMany m_act m_who m_much m_acts m_heardMany m_wrongNow m_had m_badAct m_badWhy m_wrongAct m_wrongHeir m_odd m_span m_rise m_wins m_stored m_isStored m_storedAt m_isWriting) (FF (fun (r : (Nat → Int32) × (Nat → Int32) × Int32) => none) (fun r => wM T a m_beat m_nick m_owner m_place m_kept m_heard m_chosen m_minutes r.1 m_sightOff m_sightIs m_sights m_pad m_padMany m_act m_who m_much m_acts m_heardMany m_wrongNow m_had m_badAct m_badWhy m_wrongAct m_wrongHeir m_odd m_span m_rise m_wins r.2.1 m_isStored r.2.2 m_isWriting) r) := by
  refine kt_of (own := RX9) (nm := "passRow") (lv := [(0, .ref (a 0)), (1, .ref (a 8)), (2, .int v2)]) (by decide) rfl rfl rfl (Nat.le_of_ble_eq_true rfl) h (fun X hn C M => ?_)
  have hnn : ((0, 0) : Nat × Nat).1 ≤ 0 ∧ ((0, 0) : Nat × Nat).2 ≤ 0 := ⟨Nat.le_refl 0, Nat.le_refl 0⟩
  unfold f_X9_passRow_sightBeat
  refine gg_iconst C dX9_passRow_0 kI_0 ?_
  refine gg_istore_n C dX9_passRow_1 rfl hn (by decide) (lv' := [(3, .int 0), (0, .ref (a 0)), (1, .ref (a 8)), (2, .int v2)]) rfl ?_
  refine gg_join (α := Int32 × (Nat → Int32) × (Nat → Int32) × Int32) 23 (fun z2 => wM T a m_beat m_nick m_owner m_place m_kept m_heard m_chosen m_minutes z2.2.1 m_sightOff m_sightIs m_sights m_pad m_padMany m_act m_who m_much m_acts m_heardMany m_wrongNow m_had m_badAct m_badWhy m_wrongAct m_wrongHeir m_odd m_span m_rise m_wins z2.2.2.1 m_isStored z2.2.2.2 m_isWriting) (fun z2 => [(0, .ref (a 0)), (1, .ref (a 8)), (2, .int v2), (3, .int z2.1)]) (fun z2 => []) (fun z2 => ?_) (fun K3 => ?_)
  · exact gg_vret C M dX9_passRow_23 ⟨rfl, rfl⟩
  · refine gg_sub [1, 2, 3, 0] rfl ?_
    exact g_X9_passRow_sightBeat_L2 C hnn hn a v2 m_beat m_nick m_owner m_place m_kept m_heard m_chosen m_minutes m_sightOff m_sightIs m_sights m_pad m_padMany m_act m_who m_much m_acts m_heardMany m_wrongNow m_had m_badAct m_badWhy m_wrongAct m_wrongHeir m_odd m_span m_rise m_wins m_isStored m_isWriting K3 100 0 m_sightBeat m_stored m_storedAt
def f_X9_passRow_sightOff_L2 (y2 : Int32) (m_isWriting : Int32) : Nat → Int32 → (Nat → Int32) → (Nat → Int32) → Int32 → Option (Int32 × (Nat → Int32) × (Nat → Int32) × Int32)
  | 0, _, _, _, _ => none
  | nn + 1, y3, m_sightOff, m_stored, m_storedAt => if y2 ≤ y3 then some (y3, m_sightOff, m_stored, m_storedAt) else gu y3 8 (jn (f_X9_put m_stored m_storedAt m_isWriting (m_sightOff y3.toNatClampNeg)) (fun r1 => gu y3 8 (f_X9_passRow_sightOff_L2 y2 m_isWriting nn (y3 + 1) (upd m_sightOff y3.toNatClampNeg r1.1) r1.2.1 r1.2.2)))
set_option maxHeartbeats 4000000 in
set_option maxRecDepth 100000 in
theorem g_X9_passRow_sightOff_L2 {X : KX} {D : va_G} {T : Nat → ClassId} {Q : Int32 × (Nat → Int32) × (Nat → Int32) × Int32 → State → Prop} {n : Nat × Nat} (C : Cx X D T cX9_passRow RX9 { frames := 1, cells := 0, slots := 0, locals := 22 }) (hnn : n.1 ≤ 0 ∧ n.2 ≤ 0) (hn : kxL X = 4) (a : Nat → Nat)  (y2 : Int32) (m_beat : Nat → Int32) (m_nick : Nat → Int32) (m_owner : Nat → Int32) (m_place : Nat → Int32) (m_kept : Nat → Int32) (m_heard : Nat → Int32) (m_chosen : Nat → Int32) (m_minutes : Int32) (m_sightBeat : Nat → Int32) (m_sightIs : Nat → Int32) (m_sights : Int32) (m_pad : Nat → Int32) (m_padMany : Int32) (m_act : Nat → Int32) (m_who : Nat → Int32) (m_much : Nat → Int32) (m_acts : Int32) (m_heardMany : Int32) (m_wrongNow : Int32) (m_had : Nat → Int32) (m_badAct : Int32) (m_badWhy : Int32) (m_wrongAct : Int32) (m_wrongHeir : Int32) (m_odd : Nat → Int32) (m_span : Nat → Int32) (m_rise : Nat → Int32) (m_wins : Nat → Int32) (m_isStored : Nat → Int32) (m_isWriting : Int32) (hk : ∀ v : Int32 × (Nat → Int32) × (Nat → Int32) × Int32, GG X D Q n (wM T a m_beat m_nick m_owner m_place m_kept m_heard m_chosen m_minutes m_sightBeat v.2.1 m_sightIs m_sights m_pad m_padMany m_act m_who m_much m_acts m_heardMany m_wrongNow m_had m_badAct m_badWhy m_wrongAct m_wrongHeir m_odd m_span m_rise m_wins v.2.2.1 m_isStored v.2.2.2 m_isWriting) [(0, .ref (a 0)), (1, .ref (a 9)), (2, .int y2), (3, .int v.1)] 23 [] (some (v))) : ∀ (nn : Nat) (y3 : Int32) (m_sightOff : Nat → Int32) (m_stored : Nat → Int32) (m_storedAt : Int32), GG X D Q n (wM T a m_beat m_nick m_owner m_place m_kept m_heard m_chosen m_minutes m_sightBeat m_sightOff m_sightIs m_sights m_pad m_padMany m_act m_who m_much m_acts m_heardMany m_wrongNow m_had m_badAct m_badWhy m_wrongAct m_wrongHeir m_odd m_span m_rise m_wins m_stored m_isStored m_storedAt m_isWriting) [(0, .ref (a 0)), (1, .ref (a 9)), (2, .int y2), (3, .int y3)] 2 [] (f_X9_passRow_sightOff_L2 y2 m_isWriting nn y3 m_sightOff m_stored m_storedAt) := by
  intro nn
  induction nn with
  | zero => intros; exact gg_none
  | succ nn ih =>
    intro y3 m_sightOff m_stored m_storedAt
    unfold f_X9_passRow_sightOff_L2
    refine gg_iload_n C dX9_passRow_2 rfl 3 rfl ?_
    refine gg_iload_n C dX9_passRow_3 rfl 2 rfl ?_
    refine gg_icmp_ge C dX9_passRow_4 (tgt := 23) (by decide) (fun _ => ?_) (fun _ => ?_)
    · refine gg_sub [0, 1, 2, 3] rfl ?_
      exact hk (y3, m_sightOff, m_stored, m_storedAt)
    · refine gg_aload_n C dX9_passRow_7 rfl 1 rfl ?_
      refine gg_iload_n C dX9_passRow_8 rfl 3 rfl ?_
      refine gg_aload_n C dX9_passRow_9 rfl 0 rfl ?_
      refine gg_aload_n C dX9_passRow_10 rfl 1 rfl ?_
      refine gg_iload_n C dX9_passRow_11 rfl 3 rfl ?_
      refine gg_iald C 9 rfl dX9_passRow_12 ?_
      refine gg_callV C (fun l r h => c_X9_put l D T a m_beat m_nick m_owner m_place m_kept m_heard m_chosen m_minutes m_sightBeat m_sightOff m_sightIs m_sights m_pad m_padMany m_act m_who m_much m_acts m_heardMany m_wrongNow m_had m_badAct m_badWhy m_wrongAct m_wrongHeir m_odd m_span m_rise m_wins m_stored m_isStored m_storedAt m_isWriting (m_sightOff y3.toNatClampNeg) r h) lk_X9_295 ⟨by decide, by decide⟩ hnn rfl (rest := [.int y3, .ref (a 9)]) rfl (Nat.le_of_ble_eq_true rfl) 0 rfl rfl dX9_passRow_13 (ws2 := fun r1 => wM T a m_beat m_nick m_owner m_place m_kept m_heard m_chosen m_minutes m_sightBeat m_sightOff m_sightIs m_sights m_pad m_padMany m_act m_who m_much m_acts m_heardMany m_wrongNow m_had m_badAct m_badWhy m_wrongAct m_wrongHeir m_odd m_span m_rise m_wins r1.2.1 m_isStored r1.2.2 m_isWriting) (cut_full (fun _ => rfl)) (st2 := fun r1 => [.int r1.1, .int y3, .ref (a 9)]) (fun _ => rfl) (fun r1 => ?_)
      refine gg_iast C 9 rfl dX9_passRow_16 (ws' := wM T a m_beat m_nick m_owner m_place m_kept m_heard m_chosen m_minutes m_sightBeat (upd m_sightOff y3.toNatClampNeg r1.1) m_sightIs m_sights m_pad m_padMany m_act m_who m_much m_acts m_heardMany m_wrongNow m_had m_badAct m_badWhy m_wrongAct m_wrongHeir m_odd m_span m_rise m_wins r1.2.1 m_isStored r1.2.2 m_isWriting) rfl ?_
      refine gg_iinc C dX9_passRow_17 (j := 3) rfl (v := y3 + 1) (by first | rfl | decide) hn (by decide) (lv' := [(3, .int (y3 + 1)), (0, .ref (a 0)), (1, .ref (a 9)), (2, .int y2)]) rfl ?_
      refine gg_goto C dX9_passRow_20 (tgt := 2) (by decide) ?_
      refine gg_sub [1, 2, 3, 0] rfl ?_
      exact ih (y3 + 1) (upd m_sightOff y3.toNatClampNeg r1.1) r1.2.1 r1.2.2
def f_X9_passRow_sightOff (m_sightOff : Nat → Int32) (m_stored : Nat → Int32) (m_storedAt : Int32) (m_isWriting : Int32) (v2 : Int32) : Option ((Nat → Int32) × (Nat → Int32) × Int32) := jn (α := Int32 × (Nat → Int32) × (Nat → Int32) × Int32) (f_X9_passRow_sightOff_L2 v2 m_isWriting 100 0 m_sightOff m_stored m_storedAt) (fun z2 => some (z2.2.1, z2.2.2.1, z2.2.2.2))
set_option maxHeartbeats 4000000 in
set_option maxRecDepth 100000 in
theorem c_X9_passRow_sightOff (l : Launch) (D : va_G) (T : Nat → ClassId) (a : Nat → Nat) (m_beat : Nat → Int32) (m_nick : Nat → Int32) (m_owner : Nat → Int32) (m_place : Nat → Int32) (m_kept : Nat → Int32) (m_heard : Nat → Int32) (m_chosen : Nat → Int32) (m_minutes : Int32) (m_sightBeat : Nat → Int32) (m_sightOff : Nat → Int32) (m_sightIs : Nat → Int32) (m_sights : Int32) (m_pad : Nat → Int32) (m_padMany : Int32) (m_act : Nat → Int32) (m_who : Nat → Int32) (m_much : Nat → Int32) (m_acts : Int32) (m_heardMany : Int32) (m_wrongNow : Int32) (m_had : Nat → Int32) (m_badAct : Int32) (m_badWhy : Int32) (m_wrongAct : Int32) (m_wrongHeir : Int32) (m_odd : Nat → Int32) (m_span : Nat → Int32) (m_rise : Nat → Int32) (m_wins : Nat → Int32) (m_stored : Nat → Int32) (m_isStored : Nat → Int32) (m_storedAt : Int32) (m_isWriting : Int32) (v2 : Int32) (r : (Nat → Int32) × (Nat → Int32) × Int32) (h : f_X9_passRow_sightOff m_sightOff m_stored m_storedAt m_isWriting v2 = some r) : Kt l D T yX9_passRow cX9_passRow 4 none (1, 0, 0, 22) [.ref (a 0), .ref (a 9), .int v2] (wM T a m_beat m_nick m_owner m_place m_kept m_heard m_chosen m_minutes m_sightBeat m_sightOff m_sightIs m_sights m_pad m_padMany m_act m_who m_much m_acts m_heardMany m_wrongNow m_had m_badAct m_badWhy m_wrongAct m_wrongHeir m_odd m_span m_rise m_wins m_stored m_isStored m_storedAt m_isWriting) (FF (fun (r : (Nat → Int32) × (Nat → Int32) × Int32) => none) (fun r => wM T a m_beat m_nick m_owner m_place m_kept m_heard m_chosen m_minutes m_sightBeat r.1 m_sightIs m_sights m_pad m_padMany m_act m_who m_much m_acts m_heardMany m_wrongNow m_had m_badAct m_badWhy m_wrongAct m_wrongHeir m_odd m_span m_rise m_wins r.2.1 m_isStored r.2.2 m_isWriting) r) := by
  refine kt_of (own := RX9) (nm := "passRow") (lv := [(0, .ref (a 0)), (1, .ref (a 9)), (2, .int v2)]) (by decide) rfl rfl rfl (Nat.le_of_ble_eq_true rfl) h (fun X hn C M => ?_)
  have hnn : ((0, 0) : Nat × Nat).1 ≤ 0 ∧ ((0, 0) : Nat × Nat).2 ≤ 0 := ⟨Nat.le_refl 0, Nat.le_refl 0⟩
  unfold f_X9_passRow_sightOff
  refine gg_iconst C dX9_passRow_0 kI_0 ?_
  refine gg_istore_n C dX9_passRow_1 rfl hn (by decide) (lv' := [(3, .int 0), (0, .ref (a 0)), (1, .ref (a 9)), (2, .int v2)]) rfl ?_
  refine gg_join (α := Int32 × (Nat → Int32) × (Nat → Int32) × Int32) 23 (fun z2 => wM T a m_beat m_nick m_owner m_place m_kept m_heard m_chosen m_minutes m_sightBeat z2.2.1 m_sightIs m_sights m_pad m_padMany m_act m_who m_much m_acts m_heardMany m_wrongNow m_had m_badAct m_badWhy m_wrongAct m_wrongHeir m_odd m_span m_rise m_wins z2.2.2.1 m_isStored z2.2.2.2 m_isWriting) (fun z2 => [(0, .ref (a 0)), (1, .ref (a 9)), (2, .int v2), (3, .int z2.1)]) (fun z2 => []) (fun z2 => ?_) (fun K3 => ?_)
  · exact gg_vret C M dX9_passRow_23 ⟨rfl, rfl⟩
  · refine gg_sub [1, 2, 3, 0] rfl ?_
    exact g_X9_passRow_sightOff_L2 C hnn hn a v2 m_beat m_nick m_owner m_place m_kept m_heard m_chosen m_minutes m_sightBeat m_sightIs m_sights m_pad m_padMany m_act m_who m_much m_acts m_heardMany m_wrongNow m_had m_badAct m_badWhy m_wrongAct m_wrongHeir m_odd m_span m_rise m_wins m_isStored m_isWriting K3 100 0 m_sightOff m_stored m_storedAt
def f_X9_passRow_sightIs_L2 (y2 : Int32) (m_isWriting : Int32) : Nat → Int32 → (Nat → Int32) → (Nat → Int32) → Int32 → Option (Int32 × (Nat → Int32) × (Nat → Int32) × Int32)
  | 0, _, _, _, _ => none
  | nn + 1, y3, m_sightIs, m_stored, m_storedAt => if y2 ≤ y3 then some (y3, m_sightIs, m_stored, m_storedAt) else gu y3 8 (jn (f_X9_put m_stored m_storedAt m_isWriting (m_sightIs y3.toNatClampNeg)) (fun r1 => gu y3 8 (f_X9_passRow_sightIs_L2 y2 m_isWriting nn (y3 + 1) (upd m_sightIs y3.toNatClampNeg r1.1) r1.2.1 r1.2.2)))
set_option maxHeartbeats 4000000 in
set_option maxRecDepth 100000 in
theorem g_X9_passRow_sightIs_L2 {X : KX} {D : va_G} {T : Nat → ClassId} {Q : Int32 × (Nat → Int32) × (Nat → Int32) × Int32 → State → Prop} {n : Nat × Nat} (C : Cx X D T cX9_passRow RX9 { frames := 1, cells := 0, slots := 0, locals := 22 }) (hnn : n.1 ≤ 0 ∧ n.2 ≤ 0) (hn : kxL X = 4) (a : Nat → Nat)  (y2 : Int32) (m_beat : Nat → Int32) (m_nick : Nat → Int32) (m_owner : Nat → Int32) (m_place : Nat → Int32) (m_kept : Nat → Int32) (m_heard : Nat → Int32) (m_chosen : Nat → Int32) (m_minutes : Int32) (m_sightBeat : Nat → Int32) (m_sightOff : Nat → Int32) (m_sights : Int32) (m_pad : Nat → Int32) (m_padMany : Int32) (m_act : Nat → Int32) (m_who : Nat → Int32) (m_much : Nat → Int32) (m_acts : Int32) (m_heardMany : Int32) (m_wrongNow : Int32) (m_had : Nat → Int32) (m_badAct : Int32) (m_badWhy : Int32) (m_wrongAct : Int32) (m_wrongHeir : Int32) (m_odd : Nat → Int32) (m_span : Nat → Int32) (m_rise : Nat → Int32) (m_wins : Nat → Int32) (m_isStored : Nat → Int32) (m_isWriting : Int32) (hk : ∀ v : Int32 × (Nat → Int32) × (Nat → Int32) × Int32, GG X D Q n (wM T a m_beat m_nick m_owner m_place m_kept m_heard m_chosen m_minutes m_sightBeat m_sightOff v.2.1 m_sights m_pad m_padMany m_act m_who m_much m_acts m_heardMany m_wrongNow m_had m_badAct m_badWhy m_wrongAct m_wrongHeir m_odd m_span m_rise m_wins v.2.2.1 m_isStored v.2.2.2 m_isWriting) [(0, .ref (a 0)), (1, .ref (a 10)), (2, .int y2), (3, .int v.1)] 23 [] (some (v))) : ∀ (nn : Nat) (y3 : Int32) (m_sightIs : Nat → Int32) (m_stored : Nat → Int32) (m_storedAt : Int32), GG X D Q n (wM T a m_beat m_nick m_owner m_place m_kept m_heard m_chosen m_minutes m_sightBeat m_sightOff m_sightIs m_sights m_pad m_padMany m_act m_who m_much m_acts m_heardMany m_wrongNow m_had m_badAct m_badWhy m_wrongAct m_wrongHeir m_odd m_span m_rise m_wins m_stored m_isStored m_storedAt m_isWriting) [(0, .ref (a 0)), (1, .ref (a 10)), (2, .int y2), (3, .int y3)] 2 [] (f_X9_passRow_sightIs_L2 y2 m_isWriting nn y3 m_sightIs m_stored m_storedAt) := by
  intro nn
  induction nn with
  | zero => intros; exact gg_none
  | succ nn ih =>
    intro y3 m_sightIs m_stored m_storedAt
    unfold f_X9_passRow_sightIs_L2
    refine gg_iload_n C dX9_passRow_2 rfl 3 rfl ?_
    refine gg_iload_n C dX9_passRow_3 rfl 2 rfl ?_
    refine gg_icmp_ge C dX9_passRow_4 (tgt := 23) (by decide) (fun _ => ?_) (fun _ => ?_)
    · refine gg_sub [0, 1, 2, 3] rfl ?_
      exact hk (y3, m_sightIs, m_stored, m_storedAt)
    · refine gg_aload_n C dX9_passRow_7 rfl 1 rfl ?_
      refine gg_iload_n C dX9_passRow_8 rfl 3 rfl ?_
      refine gg_aload_n C dX9_passRow_9 rfl 0 rfl ?_
      refine gg_aload_n C dX9_passRow_10 rfl 1 rfl ?_
      refine gg_iload_n C dX9_passRow_11 rfl 3 rfl ?_
      refine gg_iald C 10 rfl dX9_passRow_12 ?_
      refine gg_callV C (fun l r h => c_X9_put l D T a m_beat m_nick m_owner m_place m_kept m_heard m_chosen m_minutes m_sightBeat m_sightOff m_sightIs m_sights m_pad m_padMany m_act m_who m_much m_acts m_heardMany m_wrongNow m_had m_badAct m_badWhy m_wrongAct m_wrongHeir m_odd m_span m_rise m_wins m_stored m_isStored m_storedAt m_isWriting (m_sightIs y3.toNatClampNeg) r h) lk_X9_295 ⟨by decide, by decide⟩ hnn rfl (rest := [.int y3, .ref (a 10)]) rfl (Nat.le_of_ble_eq_true rfl) 0 rfl rfl dX9_passRow_13 (ws2 := fun r1 => wM T a m_beat m_nick m_owner m_place m_kept m_heard m_chosen m_minutes m_sightBeat m_sightOff m_sightIs m_sights m_pad m_padMany m_act m_who m_much m_acts m_heardMany m_wrongNow m_had m_badAct m_badWhy m_wrongAct m_wrongHeir m_odd m_span m_rise m_wins r1.2.1 m_isStored r1.2.2 m_isWriting) (cut_full (fun _ => rfl)) (st2 := fun r1 => [.int r1.1, .int y3, .ref (a 10)]) (fun _ => rfl) (fun r1 => ?_)
      refine gg_iast C 10 rfl dX9_passRow_16 (ws' := wM T a m_beat m_nick m_owner m_place m_kept m_heard m_chosen m_minutes m_sightBeat m_sightOff (upd m_sightIs y3.toNatClampNeg r1.1) m_sights m_pad m_padMany m_act m_who m_much m_acts m_heardMany m_wrongNow m_had m_badAct m_badWhy m_wrongAct m_wrongHeir m_odd m_span m_rise m_wins r1.2.1 m_isStored r1.2.2 m_isWriting) rfl ?_
      refine gg_iinc C dX9_passRow_17 (j := 3) rfl (v := y3 + 1) (by first | rfl | decide) hn (by decide) (lv' := [(3, .int (y3 + 1)), (0, .ref (a 0)), (1, .ref (a 10)), (2, .int y2)]) rfl ?_
      refine gg_goto C dX9_passRow_20 (tgt := 2) (by decide) ?_
      refine gg_sub [1, 2, 3, 0] rfl ?_
      exact ih (y3 + 1) (upd m_sightIs y3.toNatClampNeg r1.1) r1.2.1 r1.2.2
def f_X9_passRow_sightIs (m_sightIs : Nat → Int32) (m_stored : Nat → Int32) (m_storedAt : Int32) (m_isWriting : Int32) (v2 : Int32) : Option ((Nat → Int32) × (Nat → Int32) × Int32) := jn (α := Int32 × (Nat → Int32) × (Nat → Int32) × Int32) (f_X9_passRow_sightIs_L2 v2 m_isWriting 100 0 m_sightIs m_stored m_storedAt) (fun z2 => some (z2.2.1, z2.2.2.1, z2.2.2.2))
set_option maxHeartbeats 4000000 in
set_option maxRecDepth 100000 in
theorem c_X9_passRow_sightIs (l : Launch) (D : va_G) (T : Nat → ClassId) (a : Nat → Nat) (m_beat : Nat → Int32) (m_nick : Nat → Int32) (m_owner : Nat → Int32) (m_place : Nat → Int32) (m_kept : Nat → Int32) (m_heard : Nat → Int32) (m_chosen : Nat → Int32) (m_minutes : Int32) (m_sightBeat : Nat → Int32) (m_sightOff : Nat → Int32) (m_sightIs : Nat → Int32) (m_sights : Int32) (m_pad : Nat → Int32) (m_padMany : Int32) (m_act : Nat → Int32) (m_who : Nat → Int32) (m_much : Nat → Int32) (m_acts : Int32) (m_heardMany : Int32) (m_wrongNow : Int32) (m_had : Nat → Int32) (m_badAct : Int32) (m_badWhy : Int32) (m_wrongAct : Int32) (m_wrongHeir : Int32) (m_odd : Nat → Int32) (m_span : Nat → Int32) (m_rise : Nat → Int32) (m_wins : Nat → Int32) (m_stored : Nat → Int32) (m_isStored : Nat → Int32) (m_storedAt : Int32) (m_isWriting : Int32) (v2 : Int32) (r : (Nat → Int32) × (Nat → Int32) × Int32) (h : f_X9_passRow_sightIs m_sightIs m_stored m_storedAt m_isWriting v2 = some r) : Kt l D T yX9_passRow cX9_passRow 4 none (1, 0, 0, 22) [.ref (a 0), .ref (a 10), .int v2] (wM T a m_beat m_nick m_owner m_place m_kept m_heard m_chosen m_minutes m_sightBeat m_sightOff m_sightIs m_sights m_pad m_padMany m_act m_who m_much m_acts m_heardMany m_wrongNow m_had m_badAct m_badWhy m_wrongAct m_wrongHeir m_odd m_span m_rise m_wins m_stored m_isStored m_storedAt m_isWriting) (FF (fun (r : (Nat → Int32) × (Nat → Int32) × Int32) => none) (fun r => wM T a m_beat m_nick m_owner m_place m_kept m_heard m_chosen m_minutes m_sightBeat m_sightOff r.1 m_sights m_pad m_padMany m_act m_who m_much m_acts m_heardMany m_wrongNow m_had m_badAct m_badWhy m_wrongAct m_wrongHeir m_odd m_span m_rise m_wins r.2.1 m_isStored r.2.2 m_isWriting) r) := by
  refine kt_of (own := RX9) (nm := "passRow") (lv := [(0, .ref (a 0)), (1, .ref (a 10)), (2, .int v2)]) (by decide) rfl rfl rfl (Nat.le_of_ble_eq_true rfl) h (fun X hn C M => ?_)
  have hnn : ((0, 0) : Nat × Nat).1 ≤ 0 ∧ ((0, 0) : Nat × Nat).2 ≤ 0 := ⟨Nat.le_refl 0, Nat.le_refl 0⟩
  unfold f_X9_passRow_sightIs
  refine gg_iconst C dX9_passRow_0 kI_0 ?_
  refine gg_istore_n C dX9_passRow_1 rfl hn (by decide) (lv' := [(3, .int 0), (0, .ref (a 0)), (1, .ref (a 10)), (2, .int v2)]) rfl ?_
  refine gg_join (α := Int32 × (Nat → Int32) × (Nat → Int32) × Int32) 23 (fun z2 => wM T a m_beat m_nick m_owner m_place m_kept m_heard m_chosen m_minutes m_sightBeat m_sightOff z2.2.1 m_sights m_pad m_padMany m_act m_who m_much m_acts m_heardMany m_wrongNow m_had m_badAct m_badWhy m_wrongAct m_wrongHeir m_odd m_span m_rise m_wins z2.2.2.1 m_isStored z2.2.2.2 m_isWriting) (fun z2 => [(0, .ref (a 0)), (1, .ref (a 10)), (2, .int v2), (3, .int z2.1)]) (fun z2 => []) (fun z2 => ?_) (fun K3 => ?_)
  · exact gg_vret C M dX9_passRow_23 ⟨rfl, rfl⟩
  · refine gg_sub [1, 2, 3, 0] rfl ?_
    exact g_X9_passRow_sightIs_L2 C hnn hn a v2 m_beat m_nick m_owner m_place m_kept m_heard m_chosen m_minutes m_sightBeat m_sightOff m_sights m_pad m_padMany m_act m_who m_much m_acts m_heardMany m_wrongNow m_had m_badAct m_badWhy m_wrongAct m_wrongHeir m_odd m_span m_rise m_wins m_isStored m_isWriting K3 100 0 m_sightIs m_stored m_storedAt
def f_X9_passAll (m_beat : Nat → Int32) (m_nick : Nat → Int32) (m_owner : Nat → Int32) (m_place : Nat → Int32) (m_kept : Nat → Int32) (m_heard : Nat → Int32) (m_chosen : Nat → Int32) (m_minutes : Int32) (m_sightBeat : Nat → Int32) (m_sightOff : Nat → Int32) (m_sightIs : Nat → Int32) (m_sights : Int32) (m_stored : Nat → Int32) (m_storedAt : Int32) (m_isWriting : Int32) : Option ((Nat → Int32) × (Nat → Int32) × (Nat → Int32) × (Nat → Int32) × (Nat → Int32) × (Nat → Int32) × (Nat → Int32) × Int32 × (Nat → Int32) × (Nat → Int32) × (Nat → Int32) × Int32 × (Nat → Int32) × Int32) := jn (f_X9_put m_stored m_storedAt m_isWriting m_minutes) (fun r1 => jn (f_X9_put r1.2.1 r1.2.2 m_isWriting m_sights) (fun r2 => jn (f_X9_passRow_beat m_beat r2.2.1 r2.2.2 m_isWriting 40) (fun r3 => jn (f_X9_passRow_nick m_nick r3.2.1 r3.2.2 m_isWriting 40) (fun r4 => jn (f_X9_passRow_owner m_owner r4.2.1 r4.2.2 m_isWriting 40) (fun r5 => jn (f_X9_passRow_place m_place r5.2.1 r5.2.2 m_isWriting 6) (fun r6 => jn (f_X9_passRow_kept m_kept r6.2.1 r6.2.2 m_isWriting 6) (fun r7 => jn (f_X9_passRow_heard m_heard r7.2.1 r7.2.2 m_isWriting 6) (fun r8 => jn (f_X9_passRow_chosen m_chosen r8.2.1 r8.2.2 m_isWriting 6) (fun r9 => jn (f_X9_passRow_sightBeat m_sightBeat r9.2.1 r9.2.2 m_isWriting 8) (fun r10 => jn (f_X9_passRow_sightOff m_sightOff r10.2.1 r10.2.2 m_isWriting 8) (fun r11 => jn (f_X9_passRow_sightIs m_sightIs r11.2.1 r11.2.2 m_isWriting 8) (fun r12 => some (r3.1, r4.1, r5.1, r6.1, r7.1, r8.1, r9.1, r1.1, r10.1, r11.1, r12.1, r2.1, r12.2.1, r12.2.2)))))))))))))
set_option maxHeartbeats 4000000 in
set_option maxRecDepth 100000 in
theorem c_X9_passAll (l : Launch) (D : va_G) (T : Nat → ClassId) (a : Nat → Nat) (m_beat : Nat → Int32) (m_nick : Nat → Int32) (m_owner : Nat → Int32) (m_place : Nat → Int32) (m_kept : Nat → Int32) (m_heard : Nat → Int32) (m_chosen : Nat → Int32) (m_minutes : Int32) (m_sightBeat : Nat → Int32) (m_sightOff : Nat → Int32) (m_sightIs : Nat → Int32) (m_sights : Int32) (m_pad : Nat → Int32) (m_padMany : Int32) (m_act : Nat → Int32) (m_who : Nat → Int32) (m_much : Nat → Int32) (m_acts : Int32) (m_heardMany : Int32) (m_wrongNow : Int32) (m_had : Nat → Int32) (m_badAct : Int32) (m_badWhy : Int32) (m_wrongAct : Int32) (m_wrongHeir : Int32) (m_odd : Nat → Int32) (m_span : Nat → Int32) (m_rise : Nat → Int32) (m_wins : Nat → Int32) (m_stored : Nat → Int32) (m_isStored : Nat → Int32) (m_storedAt : Int32) (m_isWriting : Int32) (r : (Nat → Int32) × (Nat → Int32) × (Nat → Int32) × (Nat → Int32) × (Nat → Int32) × (Nat → Int32) × (Nat → Int32) × Int32 × (Nat → Int32) × (Nat → Int32) × (Nat → Int32) × Int32 × (Nat → Int32) × Int32) (h : f_X9_passAll m_beat m_nick m_owner m_place m_kept m_heard m_chosen m_minutes m_sightBeat m_sightOff m_sightIs m_sights m_stored m_storedAt m_isWriting = some r) : Kt l D T yX9_passAll cX9_passAll 1 none (2, 0, 0, 45) [.ref (a 0)] (wM T a m_beat m_nick m_owner m_place m_kept m_heard m_chosen m_minutes m_sightBeat m_sightOff m_sightIs m_sights m_pad m_padMany m_act m_who m_much m_acts m_heardMany m_wrongNow m_had m_badAct m_badWhy m_wrongAct m_wrongHeir m_odd m_span m_rise m_wins m_stored m_isStored m_storedAt m_isWriting) (FF (fun (r : (Nat → Int32) × (Nat → Int32) × (Nat → Int32) × (Nat → Int32) × (Nat → Int32) × (Nat → Int32) × (Nat → Int32) × Int32 × (Nat → Int32) × (Nat → Int32) × (Nat → Int32) × Int32 × (Nat → Int32) × Int32) => none) (fun r => wM T a r.1 r.2.1 r.2.2.1 r.2.2.2.1 r.2.2.2.2.1 r.2.2.2.2.2.1 r.2.2.2.2.2.2.1 r.2.2.2.2.2.2.2.1 r.2.2.2.2.2.2.2.2.1 r.2.2.2.2.2.2.2.2.2.1 r.2.2.2.2.2.2.2.2.2.2.1 r.2.2.2.2.2.2.2.2.2.2.2.1 m_pad m_padMany m_act m_who m_much m_acts m_heardMany m_wrongNow m_had m_badAct m_badWhy m_wrongAct m_wrongHeir m_odd m_span m_rise m_wins r.2.2.2.2.2.2.2.2.2.2.2.2.1 m_isStored r.2.2.2.2.2.2.2.2.2.2.2.2.2 m_isWriting) r) := by
  refine kt_of (own := RX9) (nm := "passAll") (lv := [(0, .ref (a 0))]) (by decide) rfl rfl rfl (Nat.le_of_ble_eq_true rfl) h (fun X hn C M => ?_)
  have hnn : ((0, 0) : Nat × Nat).1 ≤ 0 ∧ ((0, 0) : Nat × Nat).2 ≤ 0 := ⟨Nat.le_refl 0, Nat.le_refl 0⟩
  unfold f_X9_passAll
  refine gg_aload_n C dX9_passAll_0 rfl 0 rfl ?_
  refine gg_aload_n C dX9_passAll_1 rfl 0 rfl ?_
  refine gg_aload_n C dX9_passAll_2 rfl 0 rfl ?_
  refine gf_X9_129 C 0 rfl rfl dX9_passAll_3 ?_
  refine gg_callV C (fun l r h => c_X9_put l D T a m_beat m_nick m_owner m_place m_kept m_heard m_chosen m_minutes m_sightBeat m_sightOff m_sightIs m_sights m_pad m_padMany m_act m_who m_much m_acts m_heardMany m_wrongNow m_had m_badAct m_badWhy m_wrongAct m_wrongHeir m_odd m_span m_rise m_wins m_stored m_isStored m_storedAt m_isWriting m_minutes r h) lk_X9_295 ⟨by decide, by decide⟩ hnn rfl (rest := [.ref (a 0)]) rfl (Nat.le_of_ble_eq_true rfl) 0 rfl rfl dX9_passAll_6 (ws2 := fun r1 => wM T a m_beat m_nick m_owner m_place m_kept m_heard m_chosen m_minutes m_sightBeat m_sightOff m_sightIs m_sights m_pad m_padMany m_act m_who m_much m_acts m_heardMany m_wrongNow m_had m_badAct m_badWhy m_wrongAct m_wrongHeir m_odd m_span m_rise m_wins r1.2.1 m_isStored r1.2.2 m_isWriting) (cut_full (fun _ => rfl)) (st2 := fun r1 => [.int r1.1, .ref (a 0)]) (fun _ => rfl) (fun r1 => ?_)
  refine pf_X9_129 C 0 rfl (Nat.le_of_ble_eq_true rfl) dX9_passAll_9 (ws' := wM T a m_beat m_nick m_owner m_place m_kept m_heard m_chosen r1.1 m_sightBeat m_sightOff m_sightIs m_sights m_pad m_padMany m_act m_who m_much m_acts m_heardMany m_wrongNow m_had m_badAct m_badWhy m_wrongAct m_wrongHeir m_odd m_span m_rise m_wins r1.2.1 m_isStored r1.2.2 m_isWriting) rfl ?_
  refine gg_aload_n C dX9_passAll_12 rfl 0 rfl ?_
  refine gg_aload_n C dX9_passAll_13 rfl 0 rfl ?_
  refine gg_aload_n C dX9_passAll_14 rfl 0 rfl ?_
  refine gf_X9_250 C 0 rfl rfl dX9_passAll_15 ?_
  refine gg_callV C (fun l r h => c_X9_put l D T a m_beat m_nick m_owner m_place m_kept m_heard m_chosen r1.1 m_sightBeat m_sightOff m_sightIs m_sights m_pad m_padMany m_act m_who m_much m_acts m_heardMany m_wrongNow m_had m_badAct m_badWhy m_wrongAct m_wrongHeir m_odd m_span m_rise m_wins r1.2.1 m_isStored r1.2.2 m_isWriting m_sights r h) lk_X9_295 ⟨by decide, by decide⟩ hnn rfl (rest := [.ref (a 0)]) rfl (Nat.le_of_ble_eq_true rfl) 0 rfl rfl dX9_passAll_18 (ws2 := fun r2 => wM T a m_beat m_nick m_owner m_place m_kept m_heard m_chosen r1.1 m_sightBeat m_sightOff m_sightIs m_sights m_pad m_padMany m_act m_who m_much m_acts m_heardMany m_wrongNow m_had m_badAct m_badWhy m_wrongAct m_wrongHeir m_odd m_span m_rise m_wins r2.2.1 m_isStored r2.2.2 m_isWriting) (cut_full (fun _ => rfl)) (st2 := fun r2 => [.int r2.1, .ref (a 0)]) (fun _ => rfl) (fun r2 => ?_)
  refine pf_X9_250 C 0 rfl (Nat.le_of_ble_eq_true rfl) dX9_passAll_21 (ws' := wM T a m_beat m_nick m_owner m_place m_kept m_heard m_chosen r1.1 m_sightBeat m_sightOff m_sightIs r2.1 m_pad m_padMany m_act m_who m_much m_acts m_heardMany m_wrongNow m_had m_badAct m_badWhy m_wrongAct m_wrongHeir m_odd m_span m_rise m_wins r2.2.1 m_isStored r2.2.2 m_isWriting) rfl ?_
  refine gg_aload_n C dX9_passAll_24 rfl 0 rfl ?_
  refine gg_aload_n C dX9_passAll_25 rfl 0 rfl ?_
  refine gf_X9_7 C 0 rfl rfl dX9_passAll_26 ?_
  refine gg_bipush C dX9_passAll_29 kB_40 ?_
  refine gg_callV C (fun l r h => c_X9_passRow_beat l D T a m_beat m_nick m_owner m_place m_kept m_heard m_chosen r1.1 m_sightBeat m_sightOff m_sightIs r2.1 m_pad m_padMany m_act m_who m_much m_acts m_heardMany m_wrongNow m_had m_badAct m_badWhy m_wrongAct m_wrongHeir m_odd m_span m_rise m_wins r2.2.1 m_isStored r2.2.2 m_isWriting 40 r h) lk_X9_298 ⟨by decide, by decide⟩ hnn rfl (rest := []) rfl (Nat.le_of_ble_eq_true rfl) 0 rfl rfl dX9_passAll_31 (ws2 := fun r3 => wM T a r3.1 m_nick m_owner m_place m_kept m_heard m_chosen r1.1 m_sightBeat m_sightOff m_sightIs r2.1 m_pad m_padMany m_act m_who m_much m_acts m_heardMany m_wrongNow m_had m_badAct m_badWhy m_wrongAct m_wrongHeir m_odd m_span m_rise m_wins r3.2.1 m_isStored r3.2.2 m_isWriting) (cut_full (fun _ => rfl)) (st2 := fun r3 => []) (fun _ => rfl) (fun r3 => ?_)
  refine gg_aload_n C dX9_passAll_34 rfl 0 rfl ?_
  refine gg_aload_n C dX9_passAll_35 rfl 0 rfl ?_
  refine gf_X9_13 C 0 rfl rfl dX9_passAll_36 ?_
  refine gg_bipush C dX9_passAll_39 kB_40 ?_
  refine gg_callV C (fun l r h => c_X9_passRow_nick l D T a r3.1 m_nick m_owner m_place m_kept m_heard m_chosen r1.1 m_sightBeat m_sightOff m_sightIs r2.1 m_pad m_padMany m_act m_who m_much m_acts m_heardMany m_wrongNow m_had m_badAct m_badWhy m_wrongAct m_wrongHeir m_odd m_span m_rise m_wins r3.2.1 m_isStored r3.2.2 m_isWriting 40 r h) lk_X9_298 ⟨by decide, by decide⟩ hnn rfl (rest := []) rfl (Nat.le_of_ble_eq_true rfl) 0 rfl rfl dX9_passAll_41 (ws2 := fun r4 => wM T a r3.1 r4.1 m_owner m_place m_kept m_heard m_chosen r1.1 m_sightBeat m_sightOff m_sightIs r2.1 m_pad m_padMany m_act m_who m_much m_acts m_heardMany m_wrongNow m_had m_badAct m_badWhy m_wrongAct m_wrongHeir m_odd m_span m_rise m_wins r4.2.1 m_isStored r4.2.2 m_isWriting) (cut_full (fun _ => rfl)) (st2 := fun r4 => []) (fun _ => rfl) (fun r4 => ?_)
  refine gg_aload_n C dX9_passAll_44 rfl 0 rfl ?_
  refine gg_aload_n C dX9_passAll_45 rfl 0 rfl ?_
  refine gf_X9_16 C 0 rfl rfl dX9_passAll_46 ?_
  refine gg_bipush C dX9_passAll_49 kB_40 ?_
  refine gg_callV C (fun l r h => c_X9_passRow_owner l D T a r3.1 r4.1 m_owner m_place m_kept m_heard m_chosen r1.1 m_sightBeat m_sightOff m_sightIs r2.1 m_pad m_padMany m_act m_who m_much m_acts m_heardMany m_wrongNow m_had m_badAct m_badWhy m_wrongAct m_wrongHeir m_odd m_span m_rise m_wins r4.2.1 m_isStored r4.2.2 m_isWriting 40 r h) lk_X9_298 ⟨by decide, by decide⟩ hnn rfl (rest := []) rfl (Nat.le_of_ble_eq_true rfl) 0 rfl rfl dX9_passAll_51 (ws2 := fun r5 => wM T a r3.1 r4.1 r5.1 m_place m_kept m_heard m_chosen r1.1 m_sightBeat m_sightOff m_sightIs r2.1 m_pad m_padMany m_act m_who m_much m_acts m_heardMany m_wrongNow m_had m_badAct m_badWhy m_wrongAct m_wrongHeir m_odd m_span m_rise m_wins r5.2.1 m_isStored r5.2.2 m_isWriting) (cut_full (fun _ => rfl)) (st2 := fun r5 => []) (fun _ => rfl) (fun r5 => ?_)
  refine gg_aload_n C dX9_passAll_54 rfl 0 rfl ?_
  refine gg_aload_n C dX9_passAll_55 rfl 0 rfl ?_
  refine gf_X9_19 C 0 rfl rfl dX9_passAll_56 ?_
  refine gg_bipush C dX9_passAll_59 kB_6 ?_
  refine gg_callV C (fun l r h => c_X9_passRow_place l D T a r3.1 r4.1 r5.1 m_place m_kept m_heard m_chosen r1.1 m_sightBeat m_sightOff m_sightIs r2.1 m_pad m_padMany m_act m_who m_much m_acts m_heardMany m_wrongNow m_had m_badAct m_badWhy m_wrongAct m_wrongHeir m_odd m_span m_rise m_wins r5.2.1 m_isStored r5.2.2 m_isWriting 6 r h) lk_X9_298 ⟨by decide, by decide⟩ hnn rfl (rest := []) rfl (Nat.le_of_ble_eq_true rfl) 0 rfl rfl dX9_passAll_61 (ws2 := fun r6 => wM T a r3.1 r4.1 r5.1 r6.1 m_kept m_heard m_chosen r1.1 m_sightBeat m_sightOff m_sightIs r2.1 m_pad m_padMany m_act m_who m_much m_acts m_heardMany m_wrongNow m_had m_badAct m_badWhy m_wrongAct m_wrongHeir m_odd m_span m_rise m_wins r6.2.1 m_isStored r6.2.2 m_isWriting) (cut_full (fun _ => rfl)) (st2 := fun r6 => []) (fun _ => rfl) (fun r6 => ?_)
  refine gg_aload_n C dX9_passAll_64 rfl 0 rfl ?_
  refine gg_aload_n C dX9_passAll_65 rfl 0 rfl ?_
  refine gf_X9_22 C 0 rfl rfl dX9_passAll_66 ?_
  refine gg_bipush C dX9_passAll_69 kB_6 ?_
  refine gg_callV C (fun l r h => c_X9_passRow_kept l D T a r3.1 r4.1 r5.1 r6.1 m_kept m_heard m_chosen r1.1 m_sightBeat m_sightOff m_sightIs r2.1 m_pad m_padMany m_act m_who m_much m_acts m_heardMany m_wrongNow m_had m_badAct m_badWhy m_wrongAct m_wrongHeir m_odd m_span m_rise m_wins r6.2.1 m_isStored r6.2.2 m_isWriting 6 r h) lk_X9_298 ⟨by decide, by decide⟩ hnn rfl (rest := []) rfl (Nat.le_of_ble_eq_true rfl) 0 rfl rfl dX9_passAll_71 (ws2 := fun r7 => wM T a r3.1 r4.1 r5.1 r6.1 r7.1 m_heard m_chosen r1.1 m_sightBeat m_sightOff m_sightIs r2.1 m_pad m_padMany m_act m_who m_much m_acts m_heardMany m_wrongNow m_had m_badAct m_badWhy m_wrongAct m_wrongHeir m_odd m_span m_rise m_wins r7.2.1 m_isStored r7.2.2 m_isWriting) (cut_full (fun _ => rfl)) (st2 := fun r7 => []) (fun _ => rfl) (fun r7 => ?_)
  refine gg_aload_n C dX9_passAll_74 rfl 0 rfl ?_
  refine gg_aload_n C dX9_passAll_75 rfl 0 rfl ?_
  refine gf_X9_25 C 0 rfl rfl dX9_passAll_76 ?_
  refine gg_bipush C dX9_passAll_79 kB_6 ?_
  refine gg_callV C (fun l r h => c_X9_passRow_heard l D T a r3.1 r4.1 r5.1 r6.1 r7.1 m_heard m_chosen r1.1 m_sightBeat m_sightOff m_sightIs r2.1 m_pad m_padMany m_act m_who m_much m_acts m_heardMany m_wrongNow m_had m_badAct m_badWhy m_wrongAct m_wrongHeir m_odd m_span m_rise m_wins r7.2.1 m_isStored r7.2.2 m_isWriting 6 r h) lk_X9_298 ⟨by decide, by decide⟩ hnn rfl (rest := []) rfl (Nat.le_of_ble_eq_true rfl) 0 rfl rfl dX9_passAll_81 (ws2 := fun r8 => wM T a r3.1 r4.1 r5.1 r6.1 r7.1 r8.1 m_chosen r1.1 m_sightBeat m_sightOff m_sightIs r2.1 m_pad m_padMany m_act m_who m_much m_acts m_heardMany m_wrongNow m_had m_badAct m_badWhy m_wrongAct m_wrongHeir m_odd m_span m_rise m_wins r8.2.1 m_isStored r8.2.2 m_isWriting) (cut_full (fun _ => rfl)) (st2 := fun r8 => []) (fun _ => rfl) (fun r8 => ?_)
  refine gg_aload_n C dX9_passAll_84 rfl 0 rfl ?_
  refine gg_aload_n C dX9_passAll_85 rfl 0 rfl ?_
  refine gf_X9_28 C 0 rfl rfl dX9_passAll_86 ?_
  refine gg_bipush C dX9_passAll_89 kB_6 ?_
  refine gg_callV C (fun l r h => c_X9_passRow_chosen l D T a r3.1 r4.1 r5.1 r6.1 r7.1 r8.1 m_chosen r1.1 m_sightBeat m_sightOff m_sightIs r2.1 m_pad m_padMany m_act m_who m_much m_acts m_heardMany m_wrongNow m_had m_badAct m_badWhy m_wrongAct m_wrongHeir m_odd m_span m_rise m_wins r8.2.1 m_isStored r8.2.2 m_isWriting 6 r h) lk_X9_298 ⟨by decide, by decide⟩ hnn rfl (rest := []) rfl (Nat.le_of_ble_eq_true rfl) 0 rfl rfl dX9_passAll_91 (ws2 := fun r9 => wM T a r3.1 r4.1 r5.1 r6.1 r7.1 r8.1 r9.1 r1.1 m_sightBeat m_sightOff m_sightIs r2.1 m_pad m_padMany m_act m_who m_much m_acts m_heardMany m_wrongNow m_had m_badAct m_badWhy m_wrongAct m_wrongHeir m_odd m_span m_rise m_wins r9.2.1 m_isStored r9.2.2 m_isWriting) (cut_full (fun _ => rfl)) (st2 := fun r9 => []) (fun _ => rfl) (fun r9 => ?_)
  refine gg_aload_n C dX9_passAll_94 rfl 0 rfl ?_
  refine gg_aload_n C dX9_passAll_95 rfl 0 rfl ?_
  refine gf_X9_31 C 0 rfl rfl dX9_passAll_96 ?_
  refine gg_bipush C dX9_passAll_99 kB_8 ?_
  refine gg_callV C (fun l r h => c_X9_passRow_sightBeat l D T a r3.1 r4.1 r5.1 r6.1 r7.1 r8.1 r9.1 r1.1 m_sightBeat m_sightOff m_sightIs r2.1 m_pad m_padMany m_act m_who m_much m_acts m_heardMany m_wrongNow m_had m_badAct m_badWhy m_wrongAct m_wrongHeir m_odd m_span m_rise m_wins r9.2.1 m_isStored r9.2.2 m_isWriting 8 r h) lk_X9_298 ⟨by decide, by decide⟩ hnn rfl (rest := []) rfl (Nat.le_of_ble_eq_true rfl) 0 rfl rfl dX9_passAll_101 (ws2 := fun r10 => wM T a r3.1 r4.1 r5.1 r6.1 r7.1 r8.1 r9.1 r1.1 r10.1 m_sightOff m_sightIs r2.1 m_pad m_padMany m_act m_who m_much m_acts m_heardMany m_wrongNow m_had m_badAct m_badWhy m_wrongAct m_wrongHeir m_odd m_span m_rise m_wins r10.2.1 m_isStored r10.2.2 m_isWriting) (cut_full (fun _ => rfl)) (st2 := fun r10 => []) (fun _ => rfl) (fun r10 => ?_)
  refine gg_aload_n C dX9_passAll_104 rfl 0 rfl ?_
  refine gg_aload_n C dX9_passAll_105 rfl 0 rfl ?_
  refine gf_X9_34 C 0 rfl rfl dX9_passAll_106 ?_
  refine gg_bipush C dX9_passAll_109 kB_8 ?_
  refine gg_callV C (fun l r h => c_X9_passRow_sightOff l D T a r3.1 r4.1 r5.1 r6.1 r7.1 r8.1 r9.1 r1.1 r10.1 m_sightOff m_sightIs r2.1 m_pad m_padMany m_act m_who m_much m_acts m_heardMany m_wrongNow m_had m_badAct m_badWhy m_wrongAct m_wrongHeir m_odd m_span m_rise m_wins r10.2.1 m_isStored r10.2.2 m_isWriting 8 r h) lk_X9_298 ⟨by decide, by decide⟩ hnn rfl (rest := []) rfl (Nat.le_of_ble_eq_true rfl) 0 rfl rfl dX9_passAll_111 (ws2 := fun r11 => wM T a r3.1 r4.1 r5.1 r6.1 r7.1 r8.1 r9.1 r1.1 r10.1 r11.1 m_sightIs r2.1 m_pad m_padMany m_act m_who m_much m_acts m_heardMany m_wrongNow m_had m_badAct m_badWhy m_wrongAct m_wrongHeir m_odd m_span m_rise m_wins r11.2.1 m_isStored r11.2.2 m_isWriting) (cut_full (fun _ => rfl)) (st2 := fun r11 => []) (fun _ => rfl) (fun r11 => ?_)
  refine gg_aload_n C dX9_passAll_114 rfl 0 rfl ?_
  refine gg_aload_n C dX9_passAll_115 rfl 0 rfl ?_
  refine gf_X9_37 C 0 rfl rfl dX9_passAll_116 ?_
  refine gg_bipush C dX9_passAll_119 kB_8 ?_
  refine gg_callV C (fun l r h => c_X9_passRow_sightIs l D T a r3.1 r4.1 r5.1 r6.1 r7.1 r8.1 r9.1 r1.1 r10.1 r11.1 m_sightIs r2.1 m_pad m_padMany m_act m_who m_much m_acts m_heardMany m_wrongNow m_had m_badAct m_badWhy m_wrongAct m_wrongHeir m_odd m_span m_rise m_wins r11.2.1 m_isStored r11.2.2 m_isWriting 8 r h) lk_X9_298 ⟨by decide, by decide⟩ hnn rfl (rest := []) rfl (Nat.le_of_ble_eq_true rfl) 0 rfl rfl dX9_passAll_121 (ws2 := fun r12 => wM T a r3.1 r4.1 r5.1 r6.1 r7.1 r8.1 r9.1 r1.1 r10.1 r11.1 r12.1 r2.1 m_pad m_padMany m_act m_who m_much m_acts m_heardMany m_wrongNow m_had m_badAct m_badWhy m_wrongAct m_wrongHeir m_odd m_span m_rise m_wins r12.2.1 m_isStored r12.2.2 m_isWriting) (cut_full (fun _ => rfl)) (st2 := fun r12 => []) (fun _ => rfl) (fun r12 => ?_)
  exact gg_vret C M dX9_passAll_124 ⟨rfl, rfl⟩
def f_X9_image (m_beat : Nat → Int32) (m_nick : Nat → Int32) (m_owner : Nat → Int32) (m_place : Nat → Int32) (m_kept : Nat → Int32) (m_heard : Nat → Int32) (m_chosen : Nat → Int32) (m_minutes : Int32) (m_sightBeat : Nat → Int32) (m_sightOff : Nat → Int32) (m_sightIs : Nat → Int32) (m_sights : Int32) (m_stored : Nat → Int32) (m_isStored : Nat → Int32) (m_storedAt : Int32) (m_isWriting : Int32) (v1 : Int32) : Option (Int32 × (Nat → Int32) × (Nat → Int32) × (Nat → Int32) × (Nat → Int32) × (Nat → Int32) × (Nat → Int32) × (Nat → Int32) × Int32 × (Nat → Int32) × (Nat → Int32) × (Nat → Int32) × Int32 × (Nat → Int32) × (Nat → Int32) × Int32 × Int32) := jn (f_X9_in v1.toInt64 0 1) (fun r1 => if r1 = 0 then some ((-2), m_beat, m_nick, m_owner, m_place, m_kept, m_heard, m_chosen, m_minutes, m_sightBeat, m_sightOff, m_sightIs, m_sights, m_stored, m_isStored, m_storedAt, m_isWriting) else jn (f_X9_passAll m_beat m_nick m_owner m_place m_kept m_heard m_chosen m_minutes m_sightBeat m_sightOff m_sightIs m_sights m_stored (170 * v1) 1) (fun r2 => gu v1 2 (some (1, r2.1, r2.2.1, r2.2.2.1, r2.2.2.2.1, r2.2.2.2.2.1, r2.2.2.2.2.2.1, r2.2.2.2.2.2.2.1, r2.2.2.2.2.2.2.2.1, r2.2.2.2.2.2.2.2.2.1, r2.2.2.2.2.2.2.2.2.2.1, r2.2.2.2.2.2.2.2.2.2.2.1, r2.2.2.2.2.2.2.2.2.2.2.2.1, r2.2.2.2.2.2.2.2.2.2.2.2.2.1, upd m_isStored v1.toNatClampNeg (vp_nar .boolean 1), r2.2.2.2.2.2.2.2.2.2.2.2.2.2, 1))))
set_option maxHeartbeats 4000000 in
set_option maxRecDepth 100000 in
theorem c_X9_image (l : Launch) (D : va_G) (T : Nat → ClassId) (a : Nat → Nat) (m_beat : Nat → Int32) (m_nick : Nat → Int32) (m_owner : Nat → Int32) (m_place : Nat → Int32) (m_kept : Nat → Int32) (m_heard : Nat → Int32) (m_chosen : Nat → Int32) (m_minutes : Int32) (m_sightBeat : Nat → Int32) (m_sightOff : Nat → Int32) (m_sightIs : Nat → Int32) (m_sights : Int32) (m_pad : Nat → Int32) (m_padMany : Int32) (m_act : Nat → Int32) (m_who : Nat → Int32) (m_much : Nat → Int32) (m_acts : Int32) (m_heardMany : Int32) (m_wrongNow : Int32) (m_had : Nat → Int32) (m_badAct : Int32) (m_badWhy : Int32) (m_wrongAct : Int32) (m_wrongHeir : Int32) (m_odd : Nat → Int32) (m_span : Nat → Int32) (m_rise : Nat → Int32) (m_wins : Nat → Int32) (m_stored : Nat → Int32) (m_isStored : Nat → Int32) (m_storedAt : Int32) (m_isWriting : Int32) (v1 : Int32) (r : Int32 × (Nat → Int32) × (Nat → Int32) × (Nat → Int32) × (Nat → Int32) × (Nat → Int32) × (Nat → Int32) × (Nat → Int32) × Int32 × (Nat → Int32) × (Nat → Int32) × (Nat → Int32) × Int32 × (Nat → Int32) × (Nat → Int32) × Int32 × Int32) (h : f_X9_image m_beat m_nick m_owner m_place m_kept m_heard m_chosen m_minutes m_sightBeat m_sightOff m_sightIs m_sights m_stored m_isStored m_storedAt m_isWriting v1 = some r) : Kt l D T yX9_image cX9_image 2 (some .int) (3, 0, 0, 65) [.ref (a 0), .int v1] (wM T a m_beat m_nick m_owner m_place m_kept m_heard m_chosen m_minutes m_sightBeat m_sightOff m_sightIs m_sights m_pad m_padMany m_act m_who m_much m_acts m_heardMany m_wrongNow m_had m_badAct m_badWhy m_wrongAct m_wrongHeir m_odd m_span m_rise m_wins m_stored m_isStored m_storedAt m_isWriting) (FF (fun (r : Int32 × (Nat → Int32) × (Nat → Int32) × (Nat → Int32) × (Nat → Int32) × (Nat → Int32) × (Nat → Int32) × (Nat → Int32) × Int32 × (Nat → Int32) × (Nat → Int32) × (Nat → Int32) × Int32 × (Nat → Int32) × (Nat → Int32) × Int32 × Int32) => some (.int r.1)) (fun r => wM T a r.2.1 r.2.2.1 r.2.2.2.1 r.2.2.2.2.1 r.2.2.2.2.2.1 r.2.2.2.2.2.2.1 r.2.2.2.2.2.2.2.1 r.2.2.2.2.2.2.2.2.1 r.2.2.2.2.2.2.2.2.2.1 r.2.2.2.2.2.2.2.2.2.2.1 r.2.2.2.2.2.2.2.2.2.2.2.1 r.2.2.2.2.2.2.2.2.2.2.2.2.1 m_pad m_padMany m_act m_who m_much m_acts m_heardMany m_wrongNow m_had m_badAct m_badWhy m_wrongAct m_wrongHeir m_odd m_span m_rise m_wins r.2.2.2.2.2.2.2.2.2.2.2.2.2.1 r.2.2.2.2.2.2.2.2.2.2.2.2.2.2.1 r.2.2.2.2.2.2.2.2.2.2.2.2.2.2.2.1 r.2.2.2.2.2.2.2.2.2.2.2.2.2.2.2.2) r) := by
  refine kt_of (own := RX9) (nm := "image") (lv := [(0, .ref (a 0)), (1, .int v1)]) (by decide) rfl rfl rfl (Nat.le_of_ble_eq_true rfl) h (fun X hn C M => ?_)
  have hnn : ((0, 0) : Nat × Nat).1 ≤ 0 ∧ ((0, 0) : Nat × Nat).2 ≤ 0 := ⟨Nat.le_refl 0, Nat.le_refl 0⟩
  unfold f_X9_image
  refine gg_iload_n C dX9_image_0 rfl 1 rfl ?_
  refine gg_i2l C dX9_image_1 ?_
  refine gg_lconst C dX9_image_2 (v := 0) (by decide) ?_
  refine gg_lconst C dX9_image_3 (v := 1) (by decide) ?_
  refine gg_callS C (fun l r h => c_X9_in l D T v1.toInt64 0 1 r h) lk_X9_76 ⟨by decide, by decide⟩ hnn rfl (rest := []) rfl (Nat.le_of_ble_eq_true rfl) dX9_image_4 cut_none (st2 := fun r1 => [.int r1]) (fun _ => rfl) (fun r1 => ?_)
  refine gg_if_ne C dX9_image_7 (tgt := 13) (by decide) (fun _ => ?_) (fun _ => ?_)
  · refine gg_aload_n C dX9_image_13 rfl 0 rfl ?_
    refine gg_sipush C dX9_image_14 kS_170 ?_
    refine gg_iload_n C dX9_image_17 rfl 1 rfl ?_
    refine gg_imul C dX9_image_18 ?_
    refine pf_X9_292 C 0 rfl (Nat.le_of_ble_eq_true rfl) dX9_image_19 (ws' := wM T a m_beat m_nick m_owner m_place m_kept m_heard m_chosen m_minutes m_sightBeat m_sightOff m_sightIs m_sights m_pad m_padMany m_act m_who m_much m_acts m_heardMany m_wrongNow m_had m_badAct m_badWhy m_wrongAct m_wrongHeir m_odd m_span m_rise m_wins m_stored m_isStored (170 * v1) m_isWriting) rfl ?_
    refine gg_aload_n C dX9_image_22 rfl 0 rfl ?_
    refine gg_iconst C dX9_image_23 kI_1 ?_
    refine pf_X9_288 C 0 rfl rfl rfl (Nat.le_of_ble_eq_true rfl) dX9_image_24 (ws' := wM T a m_beat m_nick m_owner m_place m_kept m_heard m_chosen m_minutes m_sightBeat m_sightOff m_sightIs m_sights m_pad m_padMany m_act m_who m_much m_acts m_heardMany m_wrongNow m_had m_badAct m_badWhy m_wrongAct m_wrongHeir m_odd m_span m_rise m_wins m_stored m_isStored (170 * v1) 1) rfl ?_
    refine gg_aload_n C dX9_image_27 rfl 0 rfl ?_
    refine gg_callV C (fun l r h => c_X9_passAll l D T a m_beat m_nick m_owner m_place m_kept m_heard m_chosen m_minutes m_sightBeat m_sightOff m_sightIs m_sights m_pad m_padMany m_act m_who m_much m_acts m_heardMany m_wrongNow m_had m_badAct m_badWhy m_wrongAct m_wrongHeir m_odd m_span m_rise m_wins m_stored m_isStored (170 * v1) 1 r h) lk_X9_302 ⟨by decide, by decide⟩ hnn rfl (rest := []) rfl (Nat.le_of_ble_eq_true rfl) 0 rfl rfl dX9_image_28 (ws2 := fun r2 => wM T a r2.1 r2.2.1 r2.2.2.1 r2.2.2.2.1 r2.2.2.2.2.1 r2.2.2.2.2.2.1 r2.2.2.2.2.2.2.1 r2.2.2.2.2.2.2.2.1 r2.2.2.2.2.2.2.2.2.1 r2.2.2.2.2.2.2.2.2.2.1 r2.2.2.2.2.2.2.2.2.2.2.1 r2.2.2.2.2.2.2.2.2.2.2.2.1 m_pad m_padMany m_act m_who m_much m_acts m_heardMany m_wrongNow m_had m_badAct m_badWhy m_wrongAct m_wrongHeir m_odd m_span m_rise m_wins r2.2.2.2.2.2.2.2.2.2.2.2.2.1 m_isStored r2.2.2.2.2.2.2.2.2.2.2.2.2.2 1) (cut_full (fun _ => rfl)) (st2 := fun r2 => []) (fun _ => rfl) (fun r2 => ?_)
    refine gg_aload_n C dX9_image_31 rfl 0 rfl ?_
    refine gf_X9_71 C 0 rfl rfl dX9_image_32 ?_
    refine gg_iload_n C dX9_image_35 rfl 1 rfl ?_
    refine gg_iconst C dX9_image_36 kI_1 ?_
    refine gg_zast C 21 rfl dX9_image_37 (ws' := wM T a r2.1 r2.2.1 r2.2.2.1 r2.2.2.2.1 r2.2.2.2.2.1 r2.2.2.2.2.2.1 r2.2.2.2.2.2.2.1 r2.2.2.2.2.2.2.2.1 r2.2.2.2.2.2.2.2.2.1 r2.2.2.2.2.2.2.2.2.2.1 r2.2.2.2.2.2.2.2.2.2.2.1 r2.2.2.2.2.2.2.2.2.2.2.2.1 m_pad m_padMany m_act m_who m_much m_acts m_heardMany m_wrongNow m_had m_badAct m_badWhy m_wrongAct m_wrongHeir m_odd m_span m_rise m_wins r2.2.2.2.2.2.2.2.2.2.2.2.2.1 (upd m_isStored v1.toNatClampNeg (vp_nar .boolean 1)) r2.2.2.2.2.2.2.2.2.2.2.2.2.2 1) rfl ?_
    refine gg_iconst C dX9_image_38 kI_1 ?_
    exact gg_iret C M dX9_image_39 ⟨rfl, rfl⟩
  · refine gg_bipush C dX9_image_10 kB_m2 ?_
    exact gg_iret C M dX9_image_12 ⟨rfl, rfl⟩
def f_X9_restore (m_beat : Nat → Int32) (m_nick : Nat → Int32) (m_owner : Nat → Int32) (m_place : Nat → Int32) (m_kept : Nat → Int32) (m_heard : Nat → Int32) (m_chosen : Nat → Int32) (m_minutes : Int32) (m_sightBeat : Nat → Int32) (m_sightOff : Nat → Int32) (m_sightIs : Nat → Int32) (m_sights : Int32) (m_stored : Nat → Int32) (m_isStored : Nat → Int32) (m_storedAt : Int32) (m_isWriting : Int32) (v1 : Int32) : Option (Int32 × (Nat → Int32) × (Nat → Int32) × (Nat → Int32) × (Nat → Int32) × (Nat → Int32) × (Nat → Int32) × (Nat → Int32) × Int32 × (Nat → Int32) × (Nat → Int32) × (Nat → Int32) × Int32 × (Nat → Int32) × Int32 × Int32) := jn (f_X9_in v1.toInt64 0 1) (fun r1 => if r1 = 0 then some ((-2), m_beat, m_nick, m_owner, m_place, m_kept, m_heard, m_chosen, m_minutes, m_sightBeat, m_sightOff, m_sightIs, m_sights, m_stored, m_storedAt, m_isWriting) else gu v1 2 (if m_isStored v1.toNatClampNeg = 0 then some ((-3), m_beat, m_nick, m_owner, m_place, m_kept, m_heard, m_chosen, m_minutes, m_sightBeat, m_sightOff, m_sightIs, m_sights, m_stored, m_storedAt, m_isWriting) else jn (f_X9_passAll m_beat m_nick m_owner m_place m_kept m_heard m_chosen m_minutes m_sightBeat m_sightOff m_sightIs m_sights m_stored (170 * v1) 0) (fun r2 => some (1, r2.1, r2.2.1, r2.2.2.1, r2.2.2.2.1, r2.2.2.2.2.1, r2.2.2.2.2.2.1, r2.2.2.2.2.2.2.1, r2.2.2.2.2.2.2.2.1, r2.2.2.2.2.2.2.2.2.1, r2.2.2.2.2.2.2.2.2.2.1, r2.2.2.2.2.2.2.2.2.2.2.1, r2.2.2.2.2.2.2.2.2.2.2.2.1, r2.2.2.2.2.2.2.2.2.2.2.2.2.1, r2.2.2.2.2.2.2.2.2.2.2.2.2.2, 0))))
set_option maxHeartbeats 4000000 in
set_option maxRecDepth 100000 in
theorem c_X9_restore (l : Launch) (D : va_G) (T : Nat → ClassId) (a : Nat → Nat) (m_beat : Nat → Int32) (m_nick : Nat → Int32) (m_owner : Nat → Int32) (m_place : Nat → Int32) (m_kept : Nat → Int32) (m_heard : Nat → Int32) (m_chosen : Nat → Int32) (m_minutes : Int32) (m_sightBeat : Nat → Int32) (m_sightOff : Nat → Int32) (m_sightIs : Nat → Int32) (m_sights : Int32) (m_pad : Nat → Int32) (m_padMany : Int32) (m_act : Nat → Int32) (m_who : Nat → Int32) (m_much : Nat → Int32) (m_acts : Int32) (m_heardMany : Int32) (m_wrongNow : Int32) (m_had : Nat → Int32) (m_badAct : Int32) (m_badWhy : Int32) (m_wrongAct : Int32) (m_wrongHeir : Int32) (m_odd : Nat → Int32) (m_span : Nat → Int32) (m_rise : Nat → Int32) (m_wins : Nat → Int32) (m_stored : Nat → Int32) (m_isStored : Nat → Int32) (m_storedAt : Int32) (m_isWriting : Int32) (v1 : Int32) (r : Int32 × (Nat → Int32) × (Nat → Int32) × (Nat → Int32) × (Nat → Int32) × (Nat → Int32) × (Nat → Int32) × (Nat → Int32) × Int32 × (Nat → Int32) × (Nat → Int32) × (Nat → Int32) × Int32 × (Nat → Int32) × Int32 × Int32) (h : f_X9_restore m_beat m_nick m_owner m_place m_kept m_heard m_chosen m_minutes m_sightBeat m_sightOff m_sightIs m_sights m_stored m_isStored m_storedAt m_isWriting v1 = some r) : Kt l D T yX9_restore cX9_restore 2 (some .int) (3, 0, 0, 65) [.ref (a 0), .int v1] (wM T a m_beat m_nick m_owner m_place m_kept m_heard m_chosen m_minutes m_sightBeat m_sightOff m_sightIs m_sights m_pad m_padMany m_act m_who m_much m_acts m_heardMany m_wrongNow m_had m_badAct m_badWhy m_wrongAct m_wrongHeir m_odd m_span m_rise m_wins m_stored m_isStored m_storedAt m_isWriting) (FF (fun (r : Int32 × (Nat → Int32) × (Nat → Int32) × (Nat → Int32) × (Nat → Int32) × (Nat → Int32) × (Nat → Int32) × (Nat → Int32) × Int32 × (Nat → Int32) × (Nat → Int32) × (Nat → Int32) × Int32 × (Nat → Int32) × Int32 × Int32) => some (.int r.1)) (fun r => wM T a r.2.1 r.2.2.1 r.2.2.2.1 r.2.2.2.2.1 r.2.2.2.2.2.1 r.2.2.2.2.2.2.1 r.2.2.2.2.2.2.2.1 r.2.2.2.2.2.2.2.2.1 r.2.2.2.2.2.2.2.2.2.1 r.2.2.2.2.2.2.2.2.2.2.1 r.2.2.2.2.2.2.2.2.2.2.2.1 r.2.2.2.2.2.2.2.2.2.2.2.2.1 m_pad m_padMany m_act m_who m_much m_acts m_heardMany m_wrongNow m_had m_badAct m_badWhy m_wrongAct m_wrongHeir m_odd m_span m_rise m_wins r.2.2.2.2.2.2.2.2.2.2.2.2.2.1 m_isStored r.2.2.2.2.2.2.2.2.2.2.2.2.2.2.1 r.2.2.2.2.2.2.2.2.2.2.2.2.2.2.2) r) := by
  refine kt_of (own := RX9) (nm := "restore") (lv := [(0, .ref (a 0)), (1, .int v1)]) (by decide) rfl rfl rfl (Nat.le_of_ble_eq_true rfl) h (fun X hn C M => ?_)
  have hnn : ((0, 0) : Nat × Nat).1 ≤ 0 ∧ ((0, 0) : Nat × Nat).2 ≤ 0 := ⟨Nat.le_refl 0, Nat.le_refl 0⟩
  unfold f_X9_restore
  refine gg_iload_n C dX9_restore_0 rfl 1 rfl ?_
  refine gg_i2l C dX9_restore_1 ?_
  refine gg_lconst C dX9_restore_2 (v := 0) (by decide) ?_
  refine gg_lconst C dX9_restore_3 (v := 1) (by decide) ?_
  refine gg_callS C (fun l r h => c_X9_in l D T v1.toInt64 0 1 r h) lk_X9_76 ⟨by decide, by decide⟩ hnn rfl (rest := []) rfl (Nat.le_of_ble_eq_true rfl) dX9_restore_4 cut_none (st2 := fun r1 => [.int r1]) (fun _ => rfl) (fun r1 => ?_)
  refine gg_if_ne C dX9_restore_7 (tgt := 13) (by decide) (fun _ => ?_) (fun _ => ?_)
  · refine gg_aload_n C dX9_restore_13 rfl 0 rfl ?_
    refine gf_X9_71 C 0 rfl rfl dX9_restore_14 ?_
    refine gg_iload_n C dX9_restore_17 rfl 1 rfl ?_
    refine gg_zald C 21 rfl dX9_restore_18 ?_
    refine gg_if_ne C dX9_restore_19 (tgt := 25) (by decide) (fun _ => ?_) (fun _ => ?_)
    · refine gg_aload_n C dX9_restore_25 rfl 0 rfl ?_
      refine gg_sipush C dX9_restore_26 kS_170 ?_
      refine gg_iload_n C dX9_restore_29 rfl 1 rfl ?_
      refine gg_imul C dX9_restore_30 ?_
      refine pf_X9_292 C 0 rfl (Nat.le_of_ble_eq_true rfl) dX9_restore_31 (ws' := wM T a m_beat m_nick m_owner m_place m_kept m_heard m_chosen m_minutes m_sightBeat m_sightOff m_sightIs m_sights m_pad m_padMany m_act m_who m_much m_acts m_heardMany m_wrongNow m_had m_badAct m_badWhy m_wrongAct m_wrongHeir m_odd m_span m_rise m_wins m_stored m_isStored (170 * v1) m_isWriting) rfl ?_
      refine gg_aload_n C dX9_restore_34 rfl 0 rfl ?_
      refine gg_iconst C dX9_restore_35 kI_0 ?_
      refine pf_X9_288 C 0 rfl rfl rfl (Nat.le_of_ble_eq_true rfl) dX9_restore_36 (ws' := wM T a m_beat m_nick m_owner m_place m_kept m_heard m_chosen m_minutes m_sightBeat m_sightOff m_sightIs m_sights m_pad m_padMany m_act m_who m_much m_acts m_heardMany m_wrongNow m_had m_badAct m_badWhy m_wrongAct m_wrongHeir m_odd m_span m_rise m_wins m_stored m_isStored (170 * v1) 0) rfl ?_
      refine gg_aload_n C dX9_restore_39 rfl 0 rfl ?_
      refine gg_callV C (fun l r h => c_X9_passAll l D T a m_beat m_nick m_owner m_place m_kept m_heard m_chosen m_minutes m_sightBeat m_sightOff m_sightIs m_sights m_pad m_padMany m_act m_who m_much m_acts m_heardMany m_wrongNow m_had m_badAct m_badWhy m_wrongAct m_wrongHeir m_odd m_span m_rise m_wins m_stored m_isStored (170 * v1) 0 r h) lk_X9_302 ⟨by decide, by decide⟩ hnn rfl (rest := []) rfl (Nat.le_of_ble_eq_true rfl) 0 rfl rfl dX9_restore_40 (ws2 := fun r2 => wM T a r2.1 r2.2.1 r2.2.2.1 r2.2.2.2.1 r2.2.2.2.2.1 r2.2.2.2.2.2.1 r2.2.2.2.2.2.2.1 r2.2.2.2.2.2.2.2.1 r2.2.2.2.2.2.2.2.2.1 r2.2.2.2.2.2.2.2.2.2.1 r2.2.2.2.2.2.2.2.2.2.2.1 r2.2.2.2.2.2.2.2.2.2.2.2.1 m_pad m_padMany m_act m_who m_much m_acts m_heardMany m_wrongNow m_had m_badAct m_badWhy m_wrongAct m_wrongHeir m_odd m_span m_rise m_wins r2.2.2.2.2.2.2.2.2.2.2.2.2.1 m_isStored r2.2.2.2.2.2.2.2.2.2.2.2.2.2 0) (cut_full (fun _ => rfl)) (st2 := fun r2 => []) (fun _ => rfl) (fun r2 => ?_)
      refine gg_iconst C dX9_restore_43 kI_1 ?_
      exact gg_iret C M dX9_restore_44 ⟨rfl, rfl⟩
    · refine gg_bipush C dX9_restore_22 kB_m3 ?_
      exact gg_iret C M dX9_restore_24 ⟨rfl, rfl⟩
  · refine gg_bipush C dX9_restore_10 kB_m2 ?_
    exact gg_iret C M dX9_restore_12 ⟨rfl, rfl⟩
def f_X9_toldOfHeir (m_place : Nat → Int32) (m_kept : Nat → Int32) (m_heard : Nat → Int32) (m_chosen : Nat → Int32) (v1 : Int32) : Option (Int32) := bi (v1 - v1 / 10 * 10) (fun x1 => jn (f_X9_isHeir x1) (fun r2 => if r2 = 0 then some (-2) else if 20 ≤ v1 then if 30 ≤ v1 then if 40 ≤ v1 then gu x1 6 (some (m_chosen x1.toNatClampNeg)) else gu x1 6 (some (m_heard x1.toNatClampNeg)) else gu x1 6 (some (m_kept x1.toNatClampNeg)) else gu x1 6 (some (m_place x1.toNatClampNeg))))
set_option maxHeartbeats 4000000 in
set_option maxRecDepth 100000 in
theorem c_X9_toldOfHeir (l : Launch) (D : va_G) (T : Nat → ClassId) (a : Nat → Nat) (m_beat : Nat → Int32) (m_nick : Nat → Int32) (m_owner : Nat → Int32) (m_place : Nat → Int32) (m_kept : Nat → Int32) (m_heard : Nat → Int32) (m_chosen : Nat → Int32) (m_minutes : Int32) (m_sightBeat : Nat → Int32) (m_sightOff : Nat → Int32) (m_sightIs : Nat → Int32) (m_sights : Int32) (m_pad : Nat → Int32) (m_padMany : Int32) (m_act : Nat → Int32) (m_who : Nat → Int32) (m_much : Nat → Int32) (m_acts : Int32) (m_heardMany : Int32) (m_wrongNow : Int32) (m_had : Nat → Int32) (m_badAct : Int32) (m_badWhy : Int32) (m_wrongAct : Int32) (m_wrongHeir : Int32) (m_odd : Nat → Int32) (m_span : Nat → Int32) (m_rise : Nat → Int32) (m_wins : Nat → Int32) (m_stored : Nat → Int32) (m_isStored : Nat → Int32) (m_storedAt : Int32) (m_isWriting : Int32) (v1 : Int32) (r : Int32) (h : f_X9_toldOfHeir m_place m_kept m_heard m_chosen v1 = some r) : Kt l D T yX9_toldOfHeir cX9_toldOfHeir 3 (some .int) (2, 0, 0, 45) [.ref (a 0), .int v1] (wM T a m_beat m_nick m_owner m_place m_kept m_heard m_chosen m_minutes m_sightBeat m_sightOff m_sightIs m_sights m_pad m_padMany m_act m_who m_much m_acts m_heardMany m_wrongNow m_had m_badAct m_badWhy m_wrongAct m_wrongHeir m_odd m_span m_rise m_wins m_stored m_isStored m_storedAt m_isWriting) (FF (fun (r : Int32) => some (.int r)) (fun r => wM T a m_beat m_nick m_owner m_place m_kept m_heard m_chosen m_minutes m_sightBeat m_sightOff m_sightIs m_sights m_pad m_padMany m_act m_who m_much m_acts m_heardMany m_wrongNow m_had m_badAct m_badWhy m_wrongAct m_wrongHeir m_odd m_span m_rise m_wins m_stored m_isStored m_storedAt m_isWriting) r) := by
  refine kt_of (own := RX9) (nm := "toldOfHeir") (lv := [(0, .ref (a 0)), (1, .int v1)]) (by decide) rfl rfl rfl (Nat.le_of_ble_eq_true rfl) h (fun X hn C M => ?_)
  have hnn : ((0, 0) : Nat × Nat).1 ≤ 0 ∧ ((0, 0) : Nat × Nat).2 ≤ 0 := ⟨Nat.le_refl 0, Nat.le_refl 0⟩
  unfold f_X9_toldOfHeir
  refine gg_iload_n C dX9_toldOfHeir_0 rfl 1 rfl ?_
  refine gg_bipush C dX9_toldOfHeir_1 kB_10 ?_
  refine gg_iremK C dX9_toldOfHeir_3 (by decide) ?_
  refine gg_bi (fun x1 => ?_)
  refine gg_istore_n C dX9_toldOfHeir_4 rfl hn (by decide) (lv' := [(2, .int x1), (0, .ref (a 0)), (1, .int v1)]) rfl ?_
  refine gg_iload_n C dX9_toldOfHeir_5 rfl 0 rfl ?_
  refine gg_callS C (fun l r h => c_X9_isHeir l D T x1 r h) lk_X9_90 ⟨by decide, by decide⟩ hnn rfl (rest := []) rfl (Nat.le_of_ble_eq_true rfl) dX9_toldOfHeir_6 cut_none (st2 := fun r2 => [.int r2]) (fun _ => rfl) (fun r2 => ?_)
  refine gg_if_ne C dX9_toldOfHeir_9 (tgt := 15) (by decide) (fun _ => ?_) (fun _ => ?_)
  · refine gg_iload_n C dX9_toldOfHeir_15 rfl 2 rfl ?_
    refine gg_bipush C dX9_toldOfHeir_16 kB_20 ?_
    refine gg_icmp_ge C dX9_toldOfHeir_18 (tgt := 30) (by decide) (fun _ => ?_) (fun _ => ?_)
    · refine gg_iload_n C dX9_toldOfHeir_30 rfl 2 rfl ?_
      refine gg_bipush C dX9_toldOfHeir_31 kB_30 ?_
      refine gg_icmp_ge C dX9_toldOfHeir_33 (tgt := 45) (by decide) (fun _ => ?_) (fun _ => ?_)
      · refine gg_iload_n C dX9_toldOfHeir_45 rfl 2 rfl ?_
        refine gg_bipush C dX9_toldOfHeir_46 kB_40 ?_
        refine gg_icmp_ge C dX9_toldOfHeir_48 (tgt := 60) (by decide) (fun _ => ?_) (fun _ => ?_)
        · refine gg_aload_n C dX9_toldOfHeir_60 rfl 1 rfl ?_
          refine gf_X9_28 C 0 rfl rfl dX9_toldOfHeir_61 ?_
          refine gg_iload_n C dX9_toldOfHeir_64 rfl 0 rfl ?_
          refine gg_iald C 7 rfl dX9_toldOfHeir_65 ?_
          exact gg_iret C M dX9_toldOfHeir_66 ⟨rfl, rfl⟩
        · refine gg_aload_n C dX9_toldOfHeir_51 rfl 1 rfl ?_
          refine gf_X9_25 C 0 rfl rfl dX9_toldOfHeir_52 ?_
          refine gg_iload_n C dX9_toldOfHeir_55 rfl 0 rfl ?_
          refine gg_iald C 6 rfl dX9_toldOfHeir_56 ?_
          refine gg_goto C dX9_toldOfHeir_57 (tgt := 66) (by decide) ?_
          exact gg_iret C M dX9_toldOfHeir_66 ⟨rfl, rfl⟩
      · refine gg_aload_n C dX9_toldOfHeir_36 rfl 1 rfl ?_
        refine gf_X9_22 C 0 rfl rfl dX9_toldOfHeir_37 ?_
        refine gg_iload_n C dX9_toldOfHeir_40 rfl 0 rfl ?_
        refine gg_iald C 5 rfl dX9_toldOfHeir_41 ?_
        refine gg_goto C dX9_toldOfHeir_42 (tgt := 66) (by decide) ?_
        exact gg_iret C M dX9_toldOfHeir_66 ⟨rfl, rfl⟩
    · refine gg_aload_n C dX9_toldOfHeir_21 rfl 1 rfl ?_
      refine gf_X9_19 C 0 rfl rfl dX9_toldOfHeir_22 ?_
      refine gg_iload_n C dX9_toldOfHeir_25 rfl 0 rfl ?_
      refine gg_iald C 4 rfl dX9_toldOfHeir_26 ?_
      refine gg_goto C dX9_toldOfHeir_27 (tgt := 66) (by decide) ?_
      exact gg_iret C M dX9_toldOfHeir_66 ⟨rfl, rfl⟩
  · refine gg_bipush C dX9_toldOfHeir_12 kB_m2 ?_
    exact gg_iret C M dX9_toldOfHeir_14 ⟨rfl, rfl⟩
def f_X9_toldOfPlace (m_beat : Nat → Int32) (m_nick : Nat → Int32) (m_owner : Nat → Int32) (v1 : Int32) : Option (Int32) := bi (v1 - v1 / 100 * 100) (fun x1 => jn (f_X9_isPlace x1) (fun r2 => if r2 = 0 then some (-2) else if 200 ≤ v1 then if 300 ≤ v1 then gu x1 40 (some (m_owner x1.toNatClampNeg)) else gu x1 40 (some (m_nick x1.toNatClampNeg)) else gu x1 40 (some (m_beat x1.toNatClampNeg))))
set_option maxHeartbeats 4000000 in
set_option maxRecDepth 100000 in
theorem c_X9_toldOfPlace (l : Launch) (D : va_G) (T : Nat → ClassId) (a : Nat → Nat) (m_beat : Nat → Int32) (m_nick : Nat → Int32) (m_owner : Nat → Int32) (m_place : Nat → Int32) (m_kept : Nat → Int32) (m_heard : Nat → Int32) (m_chosen : Nat → Int32) (m_minutes : Int32) (m_sightBeat : Nat → Int32) (m_sightOff : Nat → Int32) (m_sightIs : Nat → Int32) (m_sights : Int32) (m_pad : Nat → Int32) (m_padMany : Int32) (m_act : Nat → Int32) (m_who : Nat → Int32) (m_much : Nat → Int32) (m_acts : Int32) (m_heardMany : Int32) (m_wrongNow : Int32) (m_had : Nat → Int32) (m_badAct : Int32) (m_badWhy : Int32) (m_wrongAct : Int32) (m_wrongHeir : Int32) (m_odd : Nat → Int32) (m_span : Nat → Int32) (m_rise : Nat → Int32) (m_wins : Nat → Int32) (m_stored : Nat → Int32) (m_isStored : Nat → Int32) (m_storedAt : Int32) (m_isWriting : Int32) (v1 : Int32) (r : Int32) (h : f_X9_toldOfPlace m_beat m_nick m_owner v1 = some r) : Kt l D T yX9_toldOfPlace cX9_toldOfPlace 3 (some .int) (2, 0, 0, 45) [.ref (a 0), .int v1] (wM T a m_beat m_nick m_owner m_place m_kept m_heard m_chosen m_minutes m_sightBeat m_sightOff m_sightIs m_sights m_pad m_padMany m_act m_who m_much m_acts m_heardMany m_wrongNow m_had m_badAct m_badWhy m_wrongAct m_wrongHeir m_odd m_span m_rise m_wins m_stored m_isStored m_storedAt m_isWriting) (FF (fun (r : Int32) => some (.int r)) (fun r => wM T a m_beat m_nick m_owner m_place m_kept m_heard m_chosen m_minutes m_sightBeat m_sightOff m_sightIs m_sights m_pad m_padMany m_act m_who m_much m_acts m_heardMany m_wrongNow m_had m_badAct m_badWhy m_wrongAct m_wrongHeir m_odd m_span m_rise m_wins m_stored m_isStored m_storedAt m_isWriting) r) := by
  refine kt_of (own := RX9) (nm := "toldOfPlace") (lv := [(0, .ref (a 0)), (1, .int v1)]) (by decide) rfl rfl rfl (Nat.le_of_ble_eq_true rfl) h (fun X hn C M => ?_)
  have hnn : ((0, 0) : Nat × Nat).1 ≤ 0 ∧ ((0, 0) : Nat × Nat).2 ≤ 0 := ⟨Nat.le_refl 0, Nat.le_refl 0⟩
  unfold f_X9_toldOfPlace
  refine gg_iload_n C dX9_toldOfPlace_0 rfl 1 rfl ?_
  refine gg_bipush C dX9_toldOfPlace_1 kB_100 ?_
  refine gg_iremK C dX9_toldOfPlace_3 (by decide) ?_
  refine gg_bi (fun x1 => ?_)
  refine gg_istore_n C dX9_toldOfPlace_4 rfl hn (by decide) (lv' := [(2, .int x1), (0, .ref (a 0)), (1, .int v1)]) rfl ?_
  refine gg_iload_n C dX9_toldOfPlace_5 rfl 0 rfl ?_
  refine gg_callS C (fun l r h => c_X9_isPlace l D T x1 r h) lk_X9_82 ⟨by decide, by decide⟩ hnn rfl (rest := []) rfl (Nat.le_of_ble_eq_true rfl) dX9_toldOfPlace_6 cut_none (st2 := fun r2 => [.int r2]) (fun _ => rfl) (fun r2 => ?_)
  refine gg_if_ne C dX9_toldOfPlace_9 (tgt := 15) (by decide) (fun _ => ?_) (fun _ => ?_)
  · refine gg_iload_n C dX9_toldOfPlace_15 rfl 2 rfl ?_
    refine gg_sipush C dX9_toldOfPlace_16 kS_200 ?_
    refine gg_icmp_ge C dX9_toldOfPlace_19 (tgt := 31) (by decide) (fun _ => ?_) (fun _ => ?_)
    · refine gg_iload_n C dX9_toldOfPlace_31 rfl 2 rfl ?_
      refine gg_sipush C dX9_toldOfPlace_32 kS_300 ?_
      refine gg_icmp_ge C dX9_toldOfPlace_35 (tgt := 47) (by decide) (fun _ => ?_) (fun _ => ?_)
      · refine gg_aload_n C dX9_toldOfPlace_47 rfl 1 rfl ?_
        refine gf_X9_16 C 0 rfl rfl dX9_toldOfPlace_48 ?_
        refine gg_iload_n C dX9_toldOfPlace_51 rfl 0 rfl ?_
        refine gg_iald C 3 rfl dX9_toldOfPlace_52 ?_
        exact gg_iret C M dX9_toldOfPlace_53 ⟨rfl, rfl⟩
      · refine gg_aload_n C dX9_toldOfPlace_38 rfl 1 rfl ?_
        refine gf_X9_13 C 0 rfl rfl dX9_toldOfPlace_39 ?_
        refine gg_iload_n C dX9_toldOfPlace_42 rfl 0 rfl ?_
        refine gg_iald C 2 rfl dX9_toldOfPlace_43 ?_
        refine gg_goto C dX9_toldOfPlace_44 (tgt := 53) (by decide) ?_
        exact gg_iret C M dX9_toldOfPlace_53 ⟨rfl, rfl⟩
    · refine gg_aload_n C dX9_toldOfPlace_22 rfl 1 rfl ?_
      refine gf_X9_7 C 0 rfl rfl dX9_toldOfPlace_23 ?_
      refine gg_iload_n C dX9_toldOfPlace_26 rfl 0 rfl ?_
      refine gg_iald C 1 rfl dX9_toldOfPlace_27 ?_
      refine gg_goto C dX9_toldOfPlace_28 (tgt := 53) (by decide) ?_
      exact gg_iret C M dX9_toldOfPlace_53 ⟨rfl, rfl⟩
  · refine gg_bipush C dX9_toldOfPlace_12 kB_m2 ?_
    exact gg_iret C M dX9_toldOfPlace_14 ⟨rfl, rfl⟩
def f_X9_told (m_beat : Nat → Int32) (m_nick : Nat → Int32) (m_owner : Nat → Int32) (m_place : Nat → Int32) (m_kept : Nat → Int32) (m_heard : Nat → Int32) (m_chosen : Nat → Int32) (m_minutes : Int32) (m_sights : Int32) (m_padMany : Int32) (v1 : Int32) : Option (Int32) := jn (f_X9_in v1.toInt64 100 399) (fun r1 => if r1 = 0 then jn (f_X9_in v1.toInt64 10 49) (fun r2 => if r2 = 0 then if v1 = 0 then some m_padMany else (if v1 = 1 then jn (f_X9_whoChose m_chosen) (fun r5 => some r5) else (if v1 = 2 then jn (f_X9_nickMany m_nick) (fun r7 => some r7) else (if v1 = 3 then some m_minutes else (if v1 = 4 then some m_sights else (some (-2)))))) else jn (f_X9_toldOfHeir m_place m_kept m_heard m_chosen v1) (fun r10 => some r10)) else jn (f_X9_toldOfPlace m_beat m_nick m_owner v1) (fun r11 => some r11))
set_option maxHeartbeats 4000000 in
set_option maxRecDepth 100000 in
theorem c_X9_told (l : Launch) (D : va_G) (T : Nat → ClassId) (a : Nat → Nat) (m_beat : Nat → Int32) (m_nick : Nat → Int32) (m_owner : Nat → Int32) (m_place : Nat → Int32) (m_kept : Nat → Int32) (m_heard : Nat → Int32) (m_chosen : Nat → Int32) (m_minutes : Int32) (m_sightBeat : Nat → Int32) (m_sightOff : Nat → Int32) (m_sightIs : Nat → Int32) (m_sights : Int32) (m_pad : Nat → Int32) (m_padMany : Int32) (m_act : Nat → Int32) (m_who : Nat → Int32) (m_much : Nat → Int32) (m_acts : Int32) (m_heardMany : Int32) (m_wrongNow : Int32) (m_had : Nat → Int32) (m_badAct : Int32) (m_badWhy : Int32) (m_wrongAct : Int32) (m_wrongHeir : Int32) (m_odd : Nat → Int32) (m_span : Nat → Int32) (m_rise : Nat → Int32) (m_wins : Nat → Int32) (m_stored : Nat → Int32) (m_isStored : Nat → Int32) (m_storedAt : Int32) (m_isWriting : Int32) (v1 : Int32) (r : Int32) (h : f_X9_told m_beat m_nick m_owner m_place m_kept m_heard m_chosen m_minutes m_sights m_padMany v1 = some r) : Kt l D T yX9_told cX9_told 2 (some .int) (3, 0, 0, 67) [.ref (a 0), .int v1] (wM T a m_beat m_nick m_owner m_place m_kept m_heard m_chosen m_minutes m_sightBeat m_sightOff m_sightIs m_sights m_pad m_padMany m_act m_who m_much m_acts m_heardMany m_wrongNow m_had m_badAct m_badWhy m_wrongAct m_wrongHeir m_odd m_span m_rise m_wins m_stored m_isStored m_storedAt m_isWriting) (FF (fun (r : Int32) => some (.int r)) (fun r => wM T a m_beat m_nick m_owner m_place m_kept m_heard m_chosen m_minutes m_sightBeat m_sightOff m_sightIs m_sights m_pad m_padMany m_act m_who m_much m_acts m_heardMany m_wrongNow m_had m_badAct m_badWhy m_wrongAct m_wrongHeir m_odd m_span m_rise m_wins m_stored m_isStored m_storedAt m_isWriting) r) := by
  refine kt_of (own := RX9) (nm := "told") (lv := [(0, .ref (a 0)), (1, .int v1)]) (by decide) rfl rfl rfl (Nat.le_of_ble_eq_true rfl) h (fun X hn C M => ?_)
  have hnn : ((0, 0) : Nat × Nat).1 ≤ 0 ∧ ((0, 0) : Nat × Nat).2 ≤ 0 := ⟨Nat.le_refl 0, Nat.le_refl 0⟩
  unfold f_X9_told
  refine gg_iload_n C dX9_told_0 rfl 1 rfl ?_
  refine gg_i2l C dX9_told_1 ?_
  refine gg_ldc2 C tw_929 dX9_told_2 ?_
  refine gg_ldc2 C tw_930 dX9_told_5 ?_
  refine gg_callS C (fun l r h => c_X9_in l D T v1.toInt64 100 399 r h) lk_X9_76 ⟨by decide, by decide⟩ hnn rfl (rest := []) rfl (Nat.le_of_ble_eq_true rfl) dX9_told_8 cut_none (st2 := fun r1 => [.int r1]) (fun _ => rfl) (fun r1 => ?_)
  refine gg_if_eq C dX9_told_11 (tgt := 20) (by decide) (fun _ => ?_) (fun _ => ?_)
  · refine gg_iload_n C dX9_told_20 rfl 1 rfl ?_
    refine gg_i2l C dX9_told_21 ?_
    refine gg_ldc2 C tw_935 dX9_told_22 ?_
    refine gg_ldc2 C tw_696 dX9_told_25 ?_
    refine gg_callS C (fun l r h => c_X9_in l D T v1.toInt64 10 49 r h) lk_X9_76 ⟨by decide, by decide⟩ hnn rfl (rest := []) rfl (Nat.le_of_ble_eq_true rfl) dX9_told_28 cut_none (st2 := fun r2 => [.int r2]) (fun _ => rfl) (fun r2 => ?_)
    refine gg_if_eq C dX9_told_31 (tgt := 40) (by decide) (fun _ => ?_) (fun _ => ?_)
    · refine gg_iload_n C dX9_told_40 rfl 1 rfl ?_
      refine gg_ite (fun hs3 => ?_) (fun hs3 => ?_)
      · refine gg_tabIn C 0 dX9_told_41 (by rw [hs3]; decide) (by decide) (by decide) (off := 35) (by decide) (tgt := 76) (by decide) ?_
        refine gg_aload_n C dX9_told_76 rfl 0 rfl ?_
        refine gf_X9_97 C 0 rfl rfl dX9_told_77 ?_
        exact gg_iret C M dX9_told_80 ⟨rfl, rfl⟩
      refine gg_ite (fun hs4 => ?_) (fun hs4 => ?_)
      · refine gg_tabIn C 1 dX9_told_41 (by rw [hs4]; decide) (by decide) (by decide) (off := 40) (by decide) (tgt := 81) (by decide) ?_
        refine gg_aload_n C dX9_told_81 rfl 0 rfl ?_
        refine gg_callV C (fun l r h => c_X9_whoChose l D T a m_beat m_nick m_owner m_place m_kept m_heard m_chosen m_minutes m_sightBeat m_sightOff m_sightIs m_sights m_pad m_padMany m_act m_who m_much m_acts m_heardMany m_wrongNow m_had m_badAct m_badWhy m_wrongAct m_wrongHeir m_odd m_span m_rise m_wins m_stored m_isStored m_storedAt m_isWriting r h) lk_X9_198 ⟨by decide, by decide⟩ hnn rfl (rest := []) rfl (Nat.le_of_ble_eq_true rfl) 0 rfl rfl dX9_told_82 (ws2 := fun r5 => wM T a m_beat m_nick m_owner m_place m_kept m_heard m_chosen m_minutes m_sightBeat m_sightOff m_sightIs m_sights m_pad m_padMany m_act m_who m_much m_acts m_heardMany m_wrongNow m_had m_badAct m_badWhy m_wrongAct m_wrongHeir m_odd m_span m_rise m_wins m_stored m_isStored m_storedAt m_isWriting) (cut_full (fun _ => rfl)) (st2 := fun r5 => [.int r5]) (fun _ => rfl) (fun r5 => ?_)
        exact gg_iret C M dX9_told_85 ⟨rfl, rfl⟩
      refine gg_ite (fun hs6 => ?_) (fun hs6 => ?_)
      · refine gg_tabIn C 2 dX9_told_41 (by rw [hs6]; decide) (by decide) (by decide) (off := 45) (by decide) (tgt := 86) (by decide) ?_
        refine gg_aload_n C dX9_told_86 rfl 0 rfl ?_
        refine gg_callV C (fun l r h => c_X9_nickMany l D T a m_beat m_nick m_owner m_place m_kept m_heard m_chosen m_minutes m_sightBeat m_sightOff m_sightIs m_sights m_pad m_padMany m_act m_who m_much m_acts m_heardMany m_wrongNow m_had m_badAct m_badWhy m_wrongAct m_wrongHeir m_odd m_span m_rise m_wins m_stored m_isStored m_storedAt m_isWriting r h) lk_X9_204 ⟨by decide, by decide⟩ hnn rfl (rest := []) rfl (Nat.le_of_ble_eq_true rfl) 0 rfl rfl dX9_told_87 (ws2 := fun r7 => wM T a m_beat m_nick m_owner m_place m_kept m_heard m_chosen m_minutes m_sightBeat m_sightOff m_sightIs m_sights m_pad m_padMany m_act m_who m_much m_acts m_heardMany m_wrongNow m_had m_badAct m_badWhy m_wrongAct m_wrongHeir m_odd m_span m_rise m_wins m_stored m_isStored m_storedAt m_isWriting) (cut_full (fun _ => rfl)) (st2 := fun r7 => [.int r7]) (fun _ => rfl) (fun r7 => ?_)
        exact gg_iret C M dX9_told_90 ⟨rfl, rfl⟩
      refine gg_ite (fun hs8 => ?_) (fun hs8 => ?_)
      · refine gg_tabIn C 3 dX9_told_41 (by rw [hs8]; decide) (by decide) (by decide) (off := 50) (by decide) (tgt := 91) (by decide) ?_
        refine gg_aload_n C dX9_told_91 rfl 0 rfl ?_
        refine gf_X9_129 C 0 rfl rfl dX9_told_92 ?_
        exact gg_iret C M dX9_told_95 ⟨rfl, rfl⟩
      refine gg_ite (fun hs9 => ?_) (fun hs9 => ?_)
      · refine gg_tabIn C 4 dX9_told_41 (by rw [hs9]; decide) (by decide) (by decide) (off := 55) (by decide) (tgt := 96) (by decide) ?_
        refine gg_aload_n C dX9_told_96 rfl 0 rfl ?_
        refine gf_X9_250 C 0 rfl rfl dX9_told_97 ?_
        exact gg_iret C M dX9_told_100 ⟨rfl, rfl⟩
      refine gg_tabOut C dX9_told_41 (by have q0 := lv_neT hs3 (a := 0) (by decide); have q1 := lv_neT hs4 (a := 1) (by decide); have q2 := lv_neT hs6 (a := 2) (by decide); have q3 := lv_neT hs8 (a := 3) (by decide); have q4 := lv_neT hs9 (a := 4) (by decide); omega) (tgt := 101) (by decide) ?_
      refine gg_bipush C dX9_told_101 kB_m2 ?_
      exact gg_iret C M dX9_told_103 ⟨rfl, rfl⟩
    · refine gg_aload_n C dX9_told_34 rfl 0 rfl ?_
      refine gg_iload_n C dX9_told_35 rfl 1 rfl ?_
      refine gg_callV C (fun l r h => c_X9_toldOfHeir l D T a m_beat m_nick m_owner m_place m_kept m_heard m_chosen m_minutes m_sightBeat m_sightOff m_sightIs m_sights m_pad m_padMany m_act m_who m_much m_acts m_heardMany m_wrongNow m_had m_badAct m_badWhy m_wrongAct m_wrongHeir m_odd m_span m_rise m_wins m_stored m_isStored m_storedAt m_isWriting v1 r h) lk_X9_314 ⟨by decide, by decide⟩ hnn rfl (rest := []) rfl (Nat.le_of_ble_eq_true rfl) 0 rfl rfl dX9_told_36 (ws2 := fun r10 => wM T a m_beat m_nick m_owner m_place m_kept m_heard m_chosen m_minutes m_sightBeat m_sightOff m_sightIs m_sights m_pad m_padMany m_act m_who m_much m_acts m_heardMany m_wrongNow m_had m_badAct m_badWhy m_wrongAct m_wrongHeir m_odd m_span m_rise m_wins m_stored m_isStored m_storedAt m_isWriting) (cut_full (fun _ => rfl)) (st2 := fun r10 => [.int r10]) (fun _ => rfl) (fun r10 => ?_)
      exact gg_iret C M dX9_told_39 ⟨rfl, rfl⟩
  · refine gg_aload_n C dX9_told_14 rfl 0 rfl ?_
    refine gg_iload_n C dX9_told_15 rfl 1 rfl ?_
    refine gg_callV C (fun l r h => c_X9_toldOfPlace l D T a m_beat m_nick m_owner m_place m_kept m_heard m_chosen m_minutes m_sightBeat m_sightOff m_sightIs m_sights m_pad m_padMany m_act m_who m_much m_acts m_heardMany m_wrongNow m_had m_badAct m_badWhy m_wrongAct m_wrongHeir m_odd m_span m_rise m_wins m_stored m_isStored m_storedAt m_isWriting v1 r h) lk_X9_309 ⟨by decide, by decide⟩ hnn rfl (rest := []) rfl (Nat.le_of_ble_eq_true rfl) 0 rfl rfl dX9_told_16 (ws2 := fun r11 => wM T a m_beat m_nick m_owner m_place m_kept m_heard m_chosen m_minutes m_sightBeat m_sightOff m_sightIs m_sights m_pad m_padMany m_act m_who m_much m_acts m_heardMany m_wrongNow m_had m_badAct m_badWhy m_wrongAct m_wrongHeir m_odd m_span m_rise m_wins m_stored m_isStored m_storedAt m_isWriting) (cut_full (fun _ => rfl)) (st2 := fun r11 => [.int r11]) (fun _ => rfl) (fun r11 => ?_)
    exact gg_iret C M dX9_told_19 ⟨rfl, rfl⟩
