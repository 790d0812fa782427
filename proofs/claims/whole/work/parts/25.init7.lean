def f_X7_init : Option ((((Nat → Int32) × (Nat → Int32) × (Nat → Int32) × (Nat → Int32)))) := jn f_X0_init (fun r2 => some r2)
abbrev F_X7_init (T : Nat → ClassId) (hh : Nat) (r : (((Nat → Int32) × (Nat → Int32) × (Nat → Int32) × (Nat → Int32)))) (v : Option Value) (w : va_W) : Prop := v = none ∧ ∃ (ea_3 : Nat → Nat), w = [(hh, .inr (4, [.ref (ea_3 0), .int 0, .int 0, .int 0, .int 0, .int 0, .int 0]))] ++ (wG T ea_3 r.1 (fun _ => 0) r.2.1 (fun _ => 0) r.2.2.1 (fun _ => 0) r.2.2.2 0)
set_option maxHeartbeats 4000000 in
set_option maxRecDepth 100000 in
theorem c_X7_init (l : Launch) (D : va_G) (T : Nat → ClassId) (hh : Nat) (r : (((Nat → Int32) × (Nat → Int32) × (Nat → Int32) × (Nat → Int32)))) (h : f_X7_init = some r) : Kt l D T yX7_init cX7_init 1 none (2, 8, 152, 41) [.ref hh] ([(hh, .inr (4, [.null, .int 0, .int 0, .int 0, .int 0, .int 0, .int 0]))]) (F_X7_init T hh r) := by
  refine kt_of (own := RX7) (nm := "<init>") (lv := [(0, .ref hh)]) (Fi := F_X7_init T hh) (by decide) rfl rfl rfl (Nat.le_of_ble_eq_true rfl) h (fun X hn C M => ?_)
  unfold f_X7_init
  refine gg_aload_n C dX7_init_0 rfl 0 rfl ?_
  refine gg_objInit C tw_114 tw_19 tw_20 (by decide) (Nat.le_of_ble_eq_true rfl) dX7_init_1 ?_
  refine gg_aload_n C dX7_init_4 rfl 0 rfl ?_
  refine gg_new C in_X0 tyX0 tyX0_ok tw_115 tw_22 tw_2 (ci := 0) rfl (fs := [.null, .null, .null, .null, .null, .null, .null, .int 0]) (by decide) (by decide) (by decide) (n2 := (1, 8)) rfl dX7_init_5 (wq := fun q1 => [(hh, .inr (4, [.null, .int 0, .int 0, .int 0, .int 0, .int 0, .int 0])), (q1, .inr (0, [.null, .null, .null, .null, .null, .null, .null, .int 0]))]) (fun _ => rfl) (fun q1 => ?_)
  refine gg_dup C dX7_init_8 rfl ?_
  refine gg_callI C (fun l r h => c_X0_init l D T q1 r h) lk_X7_11 ⟨by decide, by decide⟩ ⟨by decide, by decide⟩ (n2 := (8, 152)) rfl rfl (rest := [.ref q1, .ref hh]) rfl (Nat.le_of_ble_eq_true rfl) dX7_init_9 (wr := [(hh, .inr (4, [.null, .int 0, .int 0, .int 0, .int 0, .int 0, .int 0]))]) rfl (fun _ _ _ h => And.left h) (fun r2 w9 h9 => ?_)
  obtain ⟨-, ea_3, rfl, rfl⟩ := h9
  refine gg_cw (ws' := [(hh, .inr (4, [.null, .int 0, .int 0, .int 0, .int 0, .int 0, .int 0]))] ++ (wG T ea_3 r2.1 (fun _ => 0) r2.2.1 (fun _ => 0) r2.2.2.1 (fun _ => 0) r2.2.2.2 0)) rfl ?_
  refine pF_X7_12 C M.init 0 rfl (Nat.le_of_ble_eq_true rfl) dX7_init_12 (ws' := [(hh, .inr (4, [.ref (ea_3 0), .int 0, .int 0, .int 0, .int 0, .int 0, .int 0]))] ++ (wG T ea_3 r2.1 (fun _ => 0) r2.2.1 (fun _ => 0) r2.2.2.1 (fun _ => 0) r2.2.2.2 0)) rfl ?_
  exact gg_vret C M dX7_init_15 ⟨rfl, ea_3, rfl⟩
