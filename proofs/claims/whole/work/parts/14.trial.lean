def f_X7_drawnKind (v0 : Int32) (v1 : Int32) : Option (Int32) := if v0 = 0 then some 62 else (if v0 = 1 then some 62 else (if v0 = 2 then some 60 else (if v0 = 3 then some 63 else (if v0 = 4 then some 42 else (if v0 = 5 then some 48 else (if v0 = 6 then some 126 else (if v1 - v1 / 8 * 8 = 0 then some 33 else some 46)))))))
set_option maxHeartbeats 4000000 in
set_option maxRecDepth 100000 in
theorem c_X7_drawnKind (l : Launch) (D : va_G) (T : Nat → ClassId)   (v0 : Int32) (v1 : Int32) (r : Int32) (h : f_X7_drawnKind v0 v1 = some r) : Kt l D T yX7_drawnKind cX7_drawnKind 2 (some .int) (0, 0, 0, 0) [.int v0, .int v1] ([]) (FF (fun (r : Int32) => some (.int r)) (fun r => []) r) := by
  refine kt_of (own := RX7) (nm := "drawnKind") (lv := [(0, .int v0), (1, .int v1)]) (by decide) rfl rfl rfl (Nat.le_of_ble_eq_true rfl) h (fun X hn C M => ?_)
  have hnn : ((0, 0) : Nat × Nat).1 ≤ 0 ∧ ((0, 0) : Nat × Nat).2 ≤ 0 := ⟨Nat.le_refl 0, Nat.le_refl 0⟩
  unfold f_X7_drawnKind
  refine gg_iload_n C dX7_drawnKind_0 rfl 0 rfl ?_
  refine gg_ite (fun hs1 => ?_) (fun hs1 => ?_)
  · refine gg_tabIn C 0 dX7_drawnKind_1 (by rw [hs1]; decide) (by decide) (by decide) (off := 43) (by decide) (tgt := 44) (by decide) ?_
    refine gg_bipush C dX7_drawnKind_44 kB_62 ?_
    exact gg_iret C M dX7_drawnKind_46 ⟨rfl, rfl⟩
  refine gg_ite (fun hs2 => ?_) (fun hs2 => ?_)
  · refine gg_tabIn C 1 dX7_drawnKind_1 (by rw [hs2]; decide) (by decide) (by decide) (off := 43) (by decide) (tgt := 44) (by decide) ?_
    refine gg_bipush C dX7_drawnKind_44 kB_62 ?_
    exact gg_iret C M dX7_drawnKind_46 ⟨rfl, rfl⟩
  refine gg_ite (fun hs3 => ?_) (fun hs3 => ?_)
  · refine gg_tabIn C 2 dX7_drawnKind_1 (by rw [hs3]; decide) (by decide) (by decide) (off := 46) (by decide) (tgt := 47) (by decide) ?_
    refine gg_bipush C dX7_drawnKind_47 kB_60 ?_
    exact gg_iret C M dX7_drawnKind_49 ⟨rfl, rfl⟩
  refine gg_ite (fun hs4 => ?_) (fun hs4 => ?_)
  · refine gg_tabIn C 3 dX7_drawnKind_1 (by rw [hs4]; decide) (by decide) (by decide) (off := 49) (by decide) (tgt := 50) (by decide) ?_
    refine gg_bipush C dX7_drawnKind_50 kB_63 ?_
    exact gg_iret C M dX7_drawnKind_52 ⟨rfl, rfl⟩
  refine gg_ite (fun hs5 => ?_) (fun hs5 => ?_)
  · refine gg_tabIn C 4 dX7_drawnKind_1 (by rw [hs5]; decide) (by decide) (by decide) (off := 52) (by decide) (tgt := 53) (by decide) ?_
    refine gg_bipush C dX7_drawnKind_53 kB_42 ?_
    exact gg_iret C M dX7_drawnKind_55 ⟨rfl, rfl⟩
  refine gg_ite (fun hs6 => ?_) (fun hs6 => ?_)
  · refine gg_tabIn C 5 dX7_drawnKind_1 (by rw [hs6]; decide) (by decide) (by decide) (off := 55) (by decide) (tgt := 56) (by decide) ?_
    refine gg_bipush C dX7_drawnKind_56 kB_48 ?_
    exact gg_iret C M dX7_drawnKind_58 ⟨rfl, rfl⟩
  refine gg_ite (fun hs7 => ?_) (fun hs7 => ?_)
  · refine gg_tabIn C 6 dX7_drawnKind_1 (by rw [hs7]; decide) (by decide) (by decide) (off := 58) (by decide) (tgt := 59) (by decide) ?_
    refine gg_bipush C dX7_drawnKind_59 kB_126 ?_
    exact gg_iret C M dX7_drawnKind_61 ⟨rfl, rfl⟩
  refine gg_tabOut C dX7_drawnKind_1 (by have q0 := lv_neT hs1 (a := 0) (by decide); have q1 := lv_neT hs2 (a := 1) (by decide); have q2 := lv_neT hs3 (a := 2) (by decide); have q3 := lv_neT hs4 (a := 3) (by decide); have q4 := lv_neT hs5 (a := 4) (by decide); have q5 := lv_neT hs6 (a := 5) (by decide); have q6 := lv_neT hs7 (a := 6) (by decide); omega) (tgt := 62) (by decide) ?_
  refine gg_iload_n C dX7_drawnKind_62 rfl 1 rfl ?_
  refine gg_bipush C dX7_drawnKind_63 kB_8 ?_
  refine gg_iremK C dX7_drawnKind_65 (by decide) ?_
  refine gg_if_ne C dX7_drawnKind_66 (tgt := 74) (by decide) (fun _ => ?_) (fun _ => ?_)
  · refine gg_bipush C dX7_drawnKind_74 kB_46 ?_
    exact gg_iret C M dX7_drawnKind_76 ⟨rfl, rfl⟩
  · refine gg_bipush C dX7_drawnKind_69 kB_33 ?_
    refine gg_goto C dX7_drawnKind_71 (tgt := 76) (by decide) ?_
    exact gg_iret C M dX7_drawnKind_76 ⟨rfl, rfl⟩
def f_X7_begin (gal_b : Nat → Int32) (gal_n : Nat → Int32) (gal_o : Nat → Int32) (gal_s : Nat → Int32) (gal_k : Nat → Int32) (gal_h : Nat → Int32) (gal_c : Nat → Int32) (u_b : Nat → Int32) (u_n : Nat → Int32) (u_o : Nat → Int32) (u_s : Nat → Int32) (u_k : Nat → Int32) (u_h : Nat → Int32) (u_c : Nat → Int32) (u_m : Int32) : Option (Int32 × Int32 × Int32 × Int32 × Int32 × Int32 × (Nat → Int32) × (Nat → Int32) × (Nat → Int32) × (Nat → Int32) × (Nat → Int32) × (Nat → Int32) × (Nat → Int32) × Int32) := jn (f_X0_copyFrom gal_b gal_n gal_o gal_s gal_k gal_h gal_c u_b u_n u_o u_s u_k u_h u_c u_m) (fun r1 => some (0, (-6), (-6), 0, (-6), (-6), r1.1, r1.2.1, r1.2.2.1, r1.2.2.2.1, r1.2.2.2.2.1, r1.2.2.2.2.2.1, r1.2.2.2.2.2.2.1, r1.2.2.2.2.2.2.2))
set_option maxHeartbeats 4000000 in
set_option maxRecDepth 100000 in
theorem c_X7_begin (l : Launch) (D : va_G) (T : Nat → ClassId) (a : Nat) (b : Nat → Nat) (e : Nat → Nat) (t_ac : Int32) (t_ba : Int32) (t_bw : Int32) (t_he : Int32) (t_wa : Int32) (t_wh : Int32) (gal_b : Nat → Int32) (gal_n : Nat → Int32) (gal_o : Nat → Int32) (gal_s : Nat → Int32) (gal_k : Nat → Int32) (gal_h : Nat → Int32) (gal_c : Nat → Int32) (gal_m : Int32) (u_b : Nat → Int32) (u_n : Nat → Int32) (u_o : Nat → Int32) (u_s : Nat → Int32) (u_k : Nat → Int32) (u_h : Nat → Int32) (u_c : Nat → Int32) (u_m : Int32) (r : Int32 × Int32 × Int32 × Int32 × Int32 × Int32 × (Nat → Int32) × (Nat → Int32) × (Nat → Int32) × (Nat → Int32) × (Nat → Int32) × (Nat → Int32) × (Nat → Int32) × Int32) (h : f_X7_begin gal_b gal_n gal_o gal_s gal_k gal_h gal_c u_b u_n u_o u_s u_k u_h u_c u_m = some r) : Kt l D T yX7_begin cX7_begin 2 none (2, 0, 0, 81) [.ref a, .ref (e 0)] (wT a (b 0) t_ac t_ba t_bw t_he t_wa t_wh ++ (wG T b gal_b gal_n gal_o gal_s gal_k gal_h gal_c gal_m ++ (wG T e u_b u_n u_o u_s u_k u_h u_c u_m))) (FF (fun (r : Int32 × Int32 × Int32 × Int32 × Int32 × Int32 × (Nat → Int32) × (Nat → Int32) × (Nat → Int32) × (Nat → Int32) × (Nat → Int32) × (Nat → Int32) × (Nat → Int32) × Int32) => none) (fun r => wT a (b 0) r.1 r.2.1 r.2.2.1 r.2.2.2.1 r.2.2.2.2.1 r.2.2.2.2.2.1 ++ (wG T b r.2.2.2.2.2.2.1 r.2.2.2.2.2.2.2.1 r.2.2.2.2.2.2.2.2.1 r.2.2.2.2.2.2.2.2.2.1 r.2.2.2.2.2.2.2.2.2.2.1 r.2.2.2.2.2.2.2.2.2.2.2.1 r.2.2.2.2.2.2.2.2.2.2.2.2.1 r.2.2.2.2.2.2.2.2.2.2.2.2.2 ++ (wG T e u_b u_n u_o u_s u_k u_h u_c u_m))) r) := by
  refine kt_of (own := RX7) (nm := "begin") (lv := [(0, .ref a), (1, .ref (e 0))]) (by decide) rfl rfl rfl (Nat.le_of_ble_eq_true rfl) h (fun X hn C M => ?_)
  have hnn : ((0, 0) : Nat × Nat).1 ≤ 0 ∧ ((0, 0) : Nat × Nat).2 ≤ 0 := ⟨Nat.le_refl 0, Nat.le_refl 0⟩
  unfold f_X7_begin
  refine gg_aload_n C dX7_begin_0 rfl 0 rfl ?_
  refine gf_X7_12 C 0 rfl rfl dX7_begin_1 ?_
  refine gg_aload_n C dX7_begin_4 rfl 1 rfl ?_
  refine gg_callV C (fun l r h => c_X0_copyFrom l D T b e gal_b gal_n gal_o gal_s gal_k gal_h gal_c gal_m u_b u_n u_o u_s u_k u_h u_c u_m r h) lk_X7_61 ⟨by decide, by decide⟩ hnn rfl (rest := []) rfl (Nat.le_of_ble_eq_true rfl) 1 rfl rfl dX7_begin_5 (ws2 := fun r1 => wT a (b 0) t_ac t_ba t_bw t_he t_wa t_wh ++ (wG T b r1.1 r1.2.1 r1.2.2.1 r1.2.2.2.1 r1.2.2.2.2.1 r1.2.2.2.2.2.1 r1.2.2.2.2.2.2.1 r1.2.2.2.2.2.2.2 ++ (wG T e u_b u_n u_o u_s u_k u_h u_c u_m))) (cut_part 17 [1, 2, 3, 4, 5, 6, 7, 8, 9, 10, 11, 12, 13, 14, 15, 16] [0] rfl (by decide) rfl (fun _ => rfl) (fun _ => rfl) (fun _ => rfl)) (st2 := fun r1 => []) (fun _ => rfl) (fun r1 => ?_)
  refine gg_aload_n C dX7_begin_8 rfl 0 rfl ?_
  refine gg_iconst C dX7_begin_9 kI_0 ?_
  refine pf_X7_64 C 0 rfl (Nat.le_of_ble_eq_true rfl) dX7_begin_10 (ws' := wT a (b 0) 0 t_ba t_bw t_he t_wa t_wh ++ (wG T b r1.1 r1.2.1 r1.2.2.1 r1.2.2.2.1 r1.2.2.2.2.1 r1.2.2.2.2.2.1 r1.2.2.2.2.2.2.1 r1.2.2.2.2.2.2.2 ++ (wG T e u_b u_n u_o u_s u_k u_h u_c u_m))) rfl ?_
  refine gg_aload_n C dX7_begin_13 rfl 0 rfl ?_
  refine gg_bipush C dX7_begin_14 kB_m6 ?_
  refine pf_X7_28 C 0 rfl (Nat.le_of_ble_eq_true rfl) dX7_begin_16 (ws' := wT a (b 0) 0 (-6) t_bw t_he t_wa t_wh ++ (wG T b r1.1 r1.2.1 r1.2.2.1 r1.2.2.2.1 r1.2.2.2.2.1 r1.2.2.2.2.2.1 r1.2.2.2.2.2.2.1 r1.2.2.2.2.2.2.2 ++ (wG T e u_b u_n u_o u_s u_k u_h u_c u_m))) rfl ?_
  refine gg_aload_n C dX7_begin_19 rfl 0 rfl ?_
  refine gg_bipush C dX7_begin_20 kB_m6 ?_
  refine pf_X7_67 C 0 rfl (Nat.le_of_ble_eq_true rfl) dX7_begin_22 (ws' := wT a (b 0) 0 (-6) (-6) t_he t_wa t_wh ++ (wG T b r1.1 r1.2.1 r1.2.2.1 r1.2.2.2.1 r1.2.2.2.2.1 r1.2.2.2.2.2.1 r1.2.2.2.2.2.2.1 r1.2.2.2.2.2.2.2 ++ (wG T e u_b u_n u_o u_s u_k u_h u_c u_m))) rfl ?_
  refine gg_aload_n C dX7_begin_25 rfl 0 rfl ?_
  refine gg_iconst C dX7_begin_26 kI_0 ?_
  refine pf_X7_70 C 0 rfl (Nat.le_of_ble_eq_true rfl) dX7_begin_27 (ws' := wT a (b 0) 0 (-6) (-6) 0 t_wa t_wh ++ (wG T b r1.1 r1.2.1 r1.2.2.1 r1.2.2.2.1 r1.2.2.2.2.1 r1.2.2.2.2.2.1 r1.2.2.2.2.2.2.1 r1.2.2.2.2.2.2.2 ++ (wG T e u_b u_n u_o u_s u_k u_h u_c u_m))) rfl ?_
  refine gg_aload_n C dX7_begin_30 rfl 0 rfl ?_
  refine gg_bipush C dX7_begin_31 kB_m6 ?_
  refine pf_X7_73 C 0 rfl (Nat.le_of_ble_eq_true rfl) dX7_begin_33 (ws' := wT a (b 0) 0 (-6) (-6) 0 (-6) t_wh ++ (wG T b r1.1 r1.2.1 r1.2.2.1 r1.2.2.2.1 r1.2.2.2.2.1 r1.2.2.2.2.2.1 r1.2.2.2.2.2.2.1 r1.2.2.2.2.2.2.2 ++ (wG T e u_b u_n u_o u_s u_k u_h u_c u_m))) rfl ?_
  refine gg_aload_n C dX7_begin_36 rfl 0 rfl ?_
  refine gg_bipush C dX7_begin_37 kB_m6 ?_
  refine pf_X7_76 C 0 rfl (Nat.le_of_ble_eq_true rfl) dX7_begin_39 (ws' := wT a (b 0) 0 (-6) (-6) 0 (-6) (-6) ++ (wG T b r1.1 r1.2.1 r1.2.2.1 r1.2.2.2.1 r1.2.2.2.2.1 r1.2.2.2.2.2.1 r1.2.2.2.2.2.2.1 r1.2.2.2.2.2.2.2 ++ (wG T e u_b u_n u_o u_s u_k u_h u_c u_m))) rfl ?_
  exact gg_vret C M dX7_begin_42 ⟨rfl, rfl⟩
def f_X7_attempt (t_ac : Int32) (t_ba : Int32) (t_bw : Int32) (t_he : Int32) (t_wa : Int32) (t_wh : Int32) (gal_b : Nat → Int32) (gal_n : Nat → Int32) (gal_o : Nat → Int32) (gal_s : Nat → Int32) (gal_k : Nat → Int32) (gal_h : Nat → Int32) (gal_c : Nat → Int32) (gal_m : Int32) (v1 : Int32) (v2 : Int32) (v3 : Int32) : Option (Int32 × Int32 × Int32 × Int32 × Int32 × Int32 × (Nat → Int32) × (Nat → Int32) × (Nat → Int32) × (Nat → Int32) × (Nat → Int32) × (Nat → Int32) × Int32) := jn (f_X0_bar gal_b gal_s gal_c gal_m v1 v2 v3) (fun r1 => if r1 = 0 then jn (α := Int32) (if v2 = 63 then jn (f_X0_hearsOwnBeat gal_b gal_s gal_k v1) (fun r4 => if r4 = 0 then some t_he else some (t_he + 1)) else some t_he) (fun z2 => jn (α := Int32 × Int32) (if v2 = 33 then if t_wa = (-6) then jn (f_X0_standsAtOwn gal_o gal_s v1) (fun r7 => if r7 = 0 then some (t_ac, v1) else some (t_wa, t_wh)) else some (t_wa, t_wh) else some (t_wa, t_wh)) (fun z5 => jn (f_X0_act gal_b gal_n gal_o gal_s gal_k gal_h gal_c gal_m v1 v2 v3) (fun r8 => some (t_ac + 1, t_ba, t_bw, z2, z5.1, z5.2, r8.1, r8.2.1, r8.2.2.1, r8.2.2.2.1, r8.2.2.2.2.1, r8.2.2.2.2.2.1, r8.2.2.2.2.2.2)))) else some (t_ac, t_ac, r1, t_he, t_wa, t_wh, gal_b, gal_n, gal_o, gal_s, gal_h, gal_c, gal_m))
set_option maxHeartbeats 4000000 in
set_option maxRecDepth 100000 in
theorem c_X7_attempt (l : Launch) (D : va_G) (T : Nat → ClassId) (a : Nat) (b : Nat → Nat) (t_ac : Int32) (t_ba : Int32) (t_bw : Int32) (t_he : Int32) (t_wa : Int32) (t_wh : Int32) (gal_b : Nat → Int32) (gal_n : Nat → Int32) (gal_o : Nat → Int32) (gal_s : Nat → Int32) (gal_k : Nat → Int32) (gal_h : Nat → Int32) (gal_c : Nat → Int32) (gal_m : Int32) (v1 : Int32) (v2 : Int32) (v3 : Int32) (r : Int32 × Int32 × Int32 × Int32 × Int32 × Int32 × (Nat → Int32) × (Nat → Int32) × (Nat → Int32) × (Nat → Int32) × (Nat → Int32) × (Nat → Int32) × Int32) (h : f_X7_attempt t_ac t_ba t_bw t_he t_wa t_wh gal_b gal_n gal_o gal_s gal_k gal_h gal_c gal_m v1 v2 v3 = some r) : Kt l D T yX7_attempt cX7_attempt 5 none (4, 0, 0, 87) [.ref a, .int v1, .int v2, .int v3] (wT a (b 0) t_ac t_ba t_bw t_he t_wa t_wh ++ (wG T b gal_b gal_n gal_o gal_s gal_k gal_h gal_c gal_m)) (FF (fun (r : Int32 × Int32 × Int32 × Int32 × Int32 × Int32 × (Nat → Int32) × (Nat → Int32) × (Nat → Int32) × (Nat → Int32) × (Nat → Int32) × (Nat → Int32) × Int32) => none) (fun r => wT a (b 0) r.1 r.2.1 r.2.2.1 r.2.2.2.1 r.2.2.2.2.1 r.2.2.2.2.2.1 ++ (wG T b r.2.2.2.2.2.2.1 r.2.2.2.2.2.2.2.1 r.2.2.2.2.2.2.2.2.1 r.2.2.2.2.2.2.2.2.2.1 gal_k r.2.2.2.2.2.2.2.2.2.2.1 r.2.2.2.2.2.2.2.2.2.2.2.1 r.2.2.2.2.2.2.2.2.2.2.2.2)) r) := by
  refine kt_of (own := RX7) (nm := "attempt") (lv := [(0, .ref a), (1, .int v1), (2, .int v2), (3, .int v3)]) (by decide) rfl rfl rfl (Nat.le_of_ble_eq_true rfl) h (fun X hn C M => ?_)
  have hnn : ((0, 0) : Nat × Nat).1 ≤ 0 ∧ ((0, 0) : Nat × Nat).2 ≤ 0 := ⟨Nat.le_refl 0, Nat.le_refl 0⟩
  unfold f_X7_attempt
  refine gg_aload_n C dX7_attempt_0 rfl 0 rfl ?_
  refine gf_X7_12 C 0 rfl rfl dX7_attempt_1 ?_
  refine gg_iload_n C dX7_attempt_4 rfl 1 rfl ?_
  refine gg_iload_n C dX7_attempt_5 rfl 2 rfl ?_
  refine gg_iload_n C dX7_attempt_6 rfl 3 rfl ?_
  refine gg_callV C (fun l r h => c_X0_bar l D T b gal_b gal_n gal_o gal_s gal_k gal_h gal_c gal_m v1 v2 v3 r h) lk_X7_54 ⟨by decide, by decide⟩ hnn rfl (rest := []) rfl (Nat.le_of_ble_eq_true rfl) 1 rfl rfl dX7_attempt_7 (ws2 := fun r1 => wT a (b 0) t_ac t_ba t_bw t_he t_wa t_wh ++ (wG T b gal_b gal_n gal_o gal_s gal_k gal_h gal_c gal_m)) (cut_part 9 [1, 2, 3, 4, 5, 6, 7, 8] [0] rfl (by decide) rfl (fun _ => rfl) (fun _ => rfl) (fun _ => rfl)) (st2 := fun r1 => [.int r1]) (fun _ => rfl) (fun r1 => ?_)
  refine gg_istore C dX7_attempt_10 hn (by decide) (lv' := [(4, .int r1), (0, .ref a), (1, .int v1), (2, .int v2), (3, .int v3)]) rfl ?_
  refine gg_iload C dX7_attempt_12 0 rfl ?_
  refine gg_if_eq C dX7_attempt_14 (tgt := 32) (by decide) (fun _ => ?_) (fun _ => ?_)
  · refine gg_iload_n C dX7_attempt_32 rfl 3 rfl ?_
    refine gg_bipush C dX7_attempt_33 kB_63 ?_
    refine gg_join (α := Int32) 59 (fun z2 => wT a (b 0) t_ac t_ba t_bw z2 t_wa t_wh ++ (wG T b gal_b gal_n gal_o gal_s gal_k gal_h gal_c gal_m)) (fun z2 => [(0, .ref a), (1, .int v1), (2, .int v2), (3, .int v3), (4, .int r1)]) (fun z2 => []) (fun z2 => ?_) (fun K3 => ?_)
    · refine gg_iload_n C dX7_attempt_59 rfl 2 rfl ?_
      refine gg_bipush C dX7_attempt_60 kB_33 ?_
      refine gg_join (α := Int32 × Int32) 98 (fun z5 => wT a (b 0) t_ac t_ba t_bw z2 z5.1 z5.2 ++ (wG T b gal_b gal_n gal_o gal_s gal_k gal_h gal_c gal_m)) (fun z5 => [(0, .ref a), (1, .int v1), (2, .int v2), (3, .int v3), (4, .int r1)]) (fun z5 => []) (fun z5 => ?_) (fun K6 => ?_)
      · refine gg_aload_n C dX7_attempt_98 rfl 0 rfl ?_
        refine gf_X7_12 C 0 rfl rfl dX7_attempt_99 ?_
        refine gg_iload_n C dX7_attempt_102 rfl 1 rfl ?_
        refine gg_iload_n C dX7_attempt_103 rfl 2 rfl ?_
        refine gg_iload_n C dX7_attempt_104 rfl 3 rfl ?_
        refine gg_callV C (fun l r h => c_X0_act l D T b gal_b gal_n gal_o gal_s gal_k gal_h gal_c gal_m v1 v2 v3 r h) lk_X7_58 ⟨by decide, by decide⟩ hnn rfl (rest := []) rfl (Nat.le_of_ble_eq_true rfl) 1 rfl rfl dX7_attempt_105 (ws2 := fun r8 => wT a (b 0) t_ac t_ba t_bw z2 z5.1 z5.2 ++ (wG T b r8.1 r8.2.1 r8.2.2.1 r8.2.2.2.1 gal_k r8.2.2.2.2.1 r8.2.2.2.2.2.1 r8.2.2.2.2.2.2)) (cut_part 9 [1, 2, 3, 4, 5, 6, 7, 8] [0] rfl (by decide) rfl (fun _ => rfl) (fun _ => rfl) (fun _ => rfl)) (st2 := fun r8 => []) (fun _ => rfl) (fun r8 => ?_)
        refine gg_aload_n C dX7_attempt_108 rfl 0 rfl ?_
        refine gg_dup C dX7_attempt_109 rfl ?_
        refine gf_X7_64 C 0 rfl rfl dX7_attempt_110 ?_
        refine gg_iconst C dX7_attempt_113 kI_1 ?_
        refine gg_iadd C dX7_attempt_114 ?_
        refine pf_X7_64 C 0 rfl (Nat.le_of_ble_eq_true rfl) dX7_attempt_115 (ws' := wT a (b 0) (t_ac + 1) t_ba t_bw z2 z5.1 z5.2 ++ (wG T b r8.1 r8.2.1 r8.2.2.1 r8.2.2.2.1 gal_k r8.2.2.2.2.1 r8.2.2.2.2.2.1 r8.2.2.2.2.2.2)) rfl ?_
        exact gg_vret C M dX7_attempt_118 ⟨rfl, rfl⟩
      · refine gg_icmp_ne C dX7_attempt_62 (tgt := 98) (by decide) (fun _ => ?_) (fun _ => ?_)
        · refine gg_sub [0, 1, 2, 3, 4] rfl ?_
          exact K6 (t_wa, t_wh)
        · refine gg_aload_n C dX7_attempt_65 rfl 0 rfl ?_
          refine gf_X7_73 C 0 rfl rfl dX7_attempt_66 ?_
          refine gg_bipush C dX7_attempt_69 kB_m6 ?_
          refine gg_icmp_ne C dX7_attempt_71 (tgt := 98) (by decide) (fun _ => ?_) (fun _ => ?_)
          · refine gg_sub [0, 1, 2, 3, 4] rfl ?_
            exact K6 (t_wa, t_wh)
          · refine gg_aload_n C dX7_attempt_74 rfl 0 rfl ?_
            refine gf_X7_12 C 0 rfl rfl dX7_attempt_75 ?_
            refine gg_iload_n C dX7_attempt_78 rfl 1 rfl ?_
            refine gg_callV C (fun l r h => c_X0_standsAtOwn l D T b gal_b gal_n gal_o gal_s gal_k gal_h gal_c gal_m v1 r h) lk_X7_82 ⟨by decide, by decide⟩ hnn rfl (rest := []) rfl (Nat.le_of_ble_eq_true rfl) 1 rfl rfl dX7_attempt_79 (ws2 := fun r7 => wT a (b 0) t_ac t_ba t_bw z2 t_wa t_wh ++ (wG T b gal_b gal_n gal_o gal_s gal_k gal_h gal_c gal_m)) (cut_part 9 [1, 2, 3, 4, 5, 6, 7, 8] [0] rfl (by decide) rfl (fun _ => rfl) (fun _ => rfl) (fun _ => rfl)) (st2 := fun r7 => [.int r7]) (fun _ => rfl) (fun r7 => ?_)
            refine gg_if_ne C dX7_attempt_82 (tgt := 98) (by decide) (fun _ => ?_) (fun _ => ?_)
            · refine gg_sub [0, 1, 2, 3, 4] rfl ?_
              exact K6 (t_wa, t_wh)
            · refine gg_aload_n C dX7_attempt_85 rfl 0 rfl ?_
              refine gg_aload_n C dX7_attempt_86 rfl 0 rfl ?_
              refine gf_X7_64 C 0 rfl rfl dX7_attempt_87 ?_
              refine pf_X7_73 C 0 rfl (Nat.le_of_ble_eq_true rfl) dX7_attempt_90 (ws' := wT a (b 0) t_ac t_ba t_bw z2 t_ac t_wh ++ (wG T b gal_b gal_n gal_o gal_s gal_k gal_h gal_c gal_m)) rfl ?_
              refine gg_aload_n C dX7_attempt_93 rfl 0 rfl ?_
              refine gg_iload_n C dX7_attempt_94 rfl 1 rfl ?_
              refine pf_X7_76 C 0 rfl (Nat.le_of_ble_eq_true rfl) dX7_attempt_95 (ws' := wT a (b 0) t_ac t_ba t_bw z2 t_ac v1 ++ (wG T b gal_b gal_n gal_o gal_s gal_k gal_h gal_c gal_m)) rfl ?_
              refine gg_sub [0, 1, 2, 3, 4] rfl ?_
              exact K6 (t_ac, v1)
    · refine gg_icmp_ne C dX7_attempt_35 (tgt := 59) (by decide) (fun _ => ?_) (fun _ => ?_)
      · refine gg_sub [1, 2, 3, 4, 0] rfl ?_
        exact K3 t_he
      · refine gg_aload_n C dX7_attempt_38 rfl 1 rfl ?_
        refine gf_X7_12 C 0 rfl rfl dX7_attempt_39 ?_
        refine gg_iload_n C dX7_attempt_42 rfl 2 rfl ?_
        refine gg_callV C (fun l r h => c_X0_hearsOwnBeat l D T b gal_b gal_n gal_o gal_s gal_k gal_h gal_c gal_m v1 r h) lk_X7_79 ⟨by decide, by decide⟩ hnn rfl (rest := []) rfl (Nat.le_of_ble_eq_true rfl) 1 rfl rfl dX7_attempt_43 (ws2 := fun r4 => wT a (b 0) t_ac t_ba t_bw t_he t_wa t_wh ++ (wG T b gal_b gal_n gal_o gal_s gal_k gal_h gal_c gal_m)) (cut_part 9 [1, 2, 3, 4, 5, 6, 7, 8] [0] rfl (by decide) rfl (fun _ => rfl) (fun _ => rfl) (fun _ => rfl)) (st2 := fun r4 => [.int r4]) (fun _ => rfl) (fun r4 => ?_)
        refine gg_if_eq C dX7_attempt_46 (tgt := 59) (by decide) (fun _ => ?_) (fun _ => ?_)
        · refine gg_sub [1, 2, 3, 4, 0] rfl ?_
          exact K3 t_he
        · refine gg_aload_n C dX7_attempt_49 rfl 1 rfl ?_
          refine gg_dup C dX7_attempt_50 rfl ?_
          refine gf_X7_70 C 0 rfl rfl dX7_attempt_51 ?_
          refine gg_iconst C dX7_attempt_54 kI_1 ?_
          refine gg_iadd C dX7_attempt_55 ?_
          refine pf_X7_70 C 0 rfl (Nat.le_of_ble_eq_true rfl) dX7_attempt_56 (ws' := wT a (b 0) t_ac t_ba t_bw (t_he + 1) t_wa t_wh ++ (wG T b gal_b gal_n gal_o gal_s gal_k gal_h gal_c gal_m)) rfl ?_
          refine gg_sub [1, 2, 3, 4, 0] rfl ?_
          exact K3 (t_he + 1)
  · refine gg_aload_n C dX7_attempt_17 rfl 1 rfl ?_
    refine gg_aload_n C dX7_attempt_18 rfl 1 rfl ?_
    refine gf_X7_64 C 0 rfl rfl dX7_attempt_19 ?_
    refine pf_X7_28 C 0 rfl (Nat.le_of_ble_eq_true rfl) dX7_attempt_22 (ws' := wT a (b 0) t_ac t_ac t_bw t_he t_wa t_wh ++ (wG T b gal_b gal_n gal_o gal_s gal_k gal_h gal_c gal_m)) rfl ?_
    refine gg_aload_n C dX7_attempt_25 rfl 1 rfl ?_
    refine gg_iload C dX7_attempt_26 0 rfl ?_
    refine pf_X7_67 C 0 rfl (Nat.le_of_ble_eq_true rfl) dX7_attempt_28 (ws' := wT a (b 0) t_ac t_ac r1 t_he t_wa t_wh ++ (wG T b gal_b gal_n gal_o gal_s gal_k gal_h gal_c gal_m)) rfl ?_
    exact gg_vret C M dX7_attempt_31 ⟨rfl, rfl⟩
def f_X7_follow_L13 (gal_k : Nat → Int32) (p_s : Nat → Int32) (p_n : Int32) : Nat → Int32 → Int32 → Int32 → Int32 → Int32 → Int32 → Int32 → Int32 → Int32 → (Nat → Int32) → (Nat → Int32) → (Nat → Int32) → (Nat → Int32) → (Nat → Int32) → (Nat → Int32) → Int32 → Option (Int32 × Int32 × Int32 × Int32 × Int32 × Int32 × Int32 × Int32 × Int32 × (Nat → Int32) × (Nat → Int32) × (Nat → Int32) × (Nat → Int32) × (Nat → Int32) × (Nat → Int32) × Int32)
  | 0, _, _, _, _, _, _, _, _, _, _, _, _, _, _, _, _ => none
  | nn + 1, y3, y4, y5, t_ac, t_ba, t_bw, t_he, t_wa, t_wh, gal_b, gal_n, gal_o, gal_s, gal_h, gal_c, gal_m => if p_n ≤ y5 then some (y3, y4, y5, t_ac, t_ba, t_bw, t_he, t_wa, t_wh, gal_b, gal_n, gal_o, gal_s, gal_h, gal_c, gal_m) else if 60 ≤ y5 then some (y3, y4, y5, t_ac, t_ba, t_bw, t_he, t_wa, t_wh, gal_b, gal_n, gal_o, gal_s, gal_h, gal_c, gal_m) else if t_ba = (-6) then gu y5 60 (bi (p_s y5.toNatClampNeg) (fun x2 => if y4 = 0 then jn (f_X2_isLetter x2) (fun r3 => if r3 = 0 then jn (f_X2_isWay x2) (fun r4 => if r4 = 0 then jn (f_X2_isDigit x2) (fun r5 => if r5 = 0 then jn (f_X7_attempt t_ac t_ba t_bw t_he t_wa t_wh gal_b gal_n gal_o gal_s gal_k gal_h gal_c gal_m y3 x2 0) (fun r6 => f_X7_follow_L13 gal_k p_s p_n nn y3 y4 (y5 + 1) r6.1 r6.2.1 r6.2.2.1 r6.2.2.2.1 r6.2.2.2.2.1 r6.2.2.2.2.2.1 r6.2.2.2.2.2.2.1 r6.2.2.2.2.2.2.2.1 r6.2.2.2.2.2.2.2.2.1 r6.2.2.2.2.2.2.2.2.2.1 r6.2.2.2.2.2.2.2.2.2.2.1 r6.2.2.2.2.2.2.2.2.2.2.2.1 r6.2.2.2.2.2.2.2.2.2.2.2.2) else jn (f_X7_attempt t_ac t_ba t_bw t_he t_wa t_wh gal_b gal_n gal_o gal_s gal_k gal_h gal_c gal_m y3 48 (x2 - 48)) (fun r7 => f_X7_follow_L13 gal_k p_s p_n nn y3 y4 (y5 + 1) r7.1 r7.2.1 r7.2.2.1 r7.2.2.2.1 r7.2.2.2.2.1 r7.2.2.2.2.2.1 r7.2.2.2.2.2.2.1 r7.2.2.2.2.2.2.2.1 r7.2.2.2.2.2.2.2.2.1 r7.2.2.2.2.2.2.2.2.2.1 r7.2.2.2.2.2.2.2.2.2.2.1 r7.2.2.2.2.2.2.2.2.2.2.2.1 r7.2.2.2.2.2.2.2.2.2.2.2.2)) else f_X7_follow_L13 gal_k p_s p_n nn y3 x2 (y5 + 1) t_ac t_ba t_bw t_he t_wa t_wh gal_b gal_n gal_o gal_s gal_h gal_c gal_m) else bi (x2 - 65) (fun x8 => f_X7_follow_L13 gal_k p_s p_n nn x8 y4 (y5 + 1) t_ac t_ba t_bw t_he t_wa t_wh gal_b gal_n gal_o gal_s gal_h gal_c gal_m)) else jn (f_X7_attempt t_ac t_ba t_bw t_he t_wa t_wh gal_b gal_n gal_o gal_s gal_k gal_h gal_c gal_m y3 y4 (x2 - 48)) (fun r9 => f_X7_follow_L13 gal_k p_s p_n nn y3 0 (y5 + 1) r9.1 r9.2.1 r9.2.2.1 r9.2.2.2.1 r9.2.2.2.2.1 r9.2.2.2.2.2.1 r9.2.2.2.2.2.2.1 r9.2.2.2.2.2.2.2.1 r9.2.2.2.2.2.2.2.2.1 r9.2.2.2.2.2.2.2.2.2.1 r9.2.2.2.2.2.2.2.2.2.2.1 r9.2.2.2.2.2.2.2.2.2.2.2.1 r9.2.2.2.2.2.2.2.2.2.2.2.2))) else some (y3, y4, y5, t_ac, t_ba, t_bw, t_he, t_wa, t_wh, gal_b, gal_n, gal_o, gal_s, gal_h, gal_c, gal_m)
set_option maxHeartbeats 4000000 in
set_option maxRecDepth 100000 in
theorem g_X7_follow_L13 {X : KX} {D : va_G} {T : Nat → ClassId} {Q : Int32 × Int32 × Int32 × Int32 × Int32 × Int32 × Int32 × Int32 × Int32 × (Nat → Int32) × (Nat → Int32) × (Nat → Int32) × (Nat → Int32) × (Nat → Int32) × (Nat → Int32) × Int32 → State → Prop} {n : Nat × Nat} (C : Cx X D T cX7_follow RX7 { frames := 5, cells := 0, slots := 0, locals := 111 }) (hnn : n.1 ≤ 0 ∧ n.2 ≤ 0) (hn : kxL X = 7) (a : Nat) (b : Nat → Nat) (e : Nat → Nat) (d : Nat → Nat)  (gal_k : Nat → Int32) (u_b : Nat → Int32) (u_n : Nat → Int32) (u_o : Nat → Int32) (u_s : Nat → Int32) (u_k : Nat → Int32) (u_h : Nat → Int32) (u_c : Nat → Int32) (u_m : Int32) (p_s : Nat → Int32) (p_n : Int32) (hk : ∀ v : Int32 × Int32 × Int32 × Int32 × Int32 × Int32 × Int32 × Int32 × Int32 × (Nat → Int32) × (Nat → Int32) × (Nat → Int32) × (Nat → Int32) × (Nat → Int32) × (Nat → Int32) × Int32, GG X D Q n (wT a (b 0) v.2.2.2.1 v.2.2.2.2.1 v.2.2.2.2.2.1 v.2.2.2.2.2.2.1 v.2.2.2.2.2.2.2.1 v.2.2.2.2.2.2.2.2.1 ++ (wG T b v.2.2.2.2.2.2.2.2.2.1 v.2.2.2.2.2.2.2.2.2.2.1 v.2.2.2.2.2.2.2.2.2.2.2.1 v.2.2.2.2.2.2.2.2.2.2.2.2.1 gal_k v.2.2.2.2.2.2.2.2.2.2.2.2.2.1 v.2.2.2.2.2.2.2.2.2.2.2.2.2.2.1 v.2.2.2.2.2.2.2.2.2.2.2.2.2.2.2 ++ (wG T e u_b u_n u_o u_s u_k u_h u_c u_m ++ (wP T d p_s p_n)))) [(0, .ref a), (1, .ref (e 0)), (2, .ref (d 0)), (3, .int v.1), (4, .int v.2.1), (5, .int v.2.2.1)] 139 [] (some (v))) : ∀ (nn : Nat) (y3 : Int32) (y4 : Int32) (y5 : Int32) (t_ac : Int32) (t_ba : Int32) (t_bw : Int32) (t_he : Int32) (t_wa : Int32) (t_wh : Int32) (gal_b : Nat → Int32) (gal_n : Nat → Int32) (gal_o : Nat → Int32) (gal_s : Nat → Int32) (gal_h : Nat → Int32) (gal_c : Nat → Int32) (gal_m : Int32), GG X D Q n (wT a (b 0) t_ac t_ba t_bw t_he t_wa t_wh ++ (wG T b gal_b gal_n gal_o gal_s gal_k gal_h gal_c gal_m ++ (wG T e u_b u_n u_o u_s u_k u_h u_c u_m ++ (wP T d p_s p_n)))) [(0, .ref a), (1, .ref (e 0)), (2, .ref (d 0)), (3, .int y3), (4, .int y4), (5, .int y5)] 13 [] (f_X7_follow_L13 gal_k p_s p_n nn y3 y4 y5 t_ac t_ba t_bw t_he t_wa t_wh gal_b gal_n gal_o gal_s gal_h gal_c gal_m) := by
  intro nn
  induction nn with
  | zero => intros; exact gg_none
  | succ nn ih =>
    intro y3 y4 y5 t_ac t_ba t_bw t_he t_wa t_wh gal_b gal_n gal_o gal_s gal_h gal_c gal_m
    unfold f_X7_follow_L13
    refine gg_iload C dX7_follow_13 5 rfl ?_
    refine gg_aload_n C dX7_follow_15 rfl 2 rfl ?_
    refine gf_X7_22 C 17 rfl rfl dX7_follow_16 ?_
    refine gg_icmp_ge C dX7_follow_19 (tgt := 139) (by decide) (fun _ => ?_) (fun _ => ?_)
    · refine gg_sub [0, 1, 2, 3, 4, 5] rfl ?_
      exact hk (y3, y4, y5, t_ac, t_ba, t_bw, t_he, t_wa, t_wh, gal_b, gal_n, gal_o, gal_s, gal_h, gal_c, gal_m)
    · refine gg_iload C dX7_follow_22 5 rfl ?_
      refine gg_bipush C dX7_follow_24 kB_60 ?_
      refine gg_icmp_ge C dX7_follow_26 (tgt := 139) (by decide) (fun _ => ?_) (fun _ => ?_)
      · refine gg_sub [0, 1, 2, 3, 4, 5] rfl ?_
        exact hk (y3, y4, y5, t_ac, t_ba, t_bw, t_he, t_wa, t_wh, gal_b, gal_n, gal_o, gal_s, gal_h, gal_c, gal_m)
      · refine gg_aload_n C dX7_follow_29 rfl 0 rfl ?_
        refine gf_X7_28 C 0 rfl rfl dX7_follow_30 ?_
        refine gg_bipush C dX7_follow_33 kB_m6 ?_
        refine gg_icmp_ne C dX7_follow_35 (tgt := 139) (by decide) (fun _ => ?_) (fun _ => ?_)
        · refine gg_sub [0, 1, 2, 3, 4, 5] rfl ?_
          exact hk (y3, y4, y5, t_ac, t_ba, t_bw, t_he, t_wa, t_wh, gal_b, gal_n, gal_o, gal_s, gal_h, gal_c, gal_m)
        · refine gg_aload_n C dX7_follow_38 rfl 2 rfl ?_
          refine gf_X7_31 C 17 rfl rfl dX7_follow_39 ?_
          refine gg_iload C dX7_follow_42 5 rfl ?_
          refine gg_iald C 18 rfl dX7_follow_44 ?_
          refine gg_bi (fun x2 => ?_)
          refine gg_istore C dX7_follow_45 hn (by decide) (lv' := [(6, .int x2), (0, .ref a), (1, .ref (e 0)), (2, .ref (d 0)), (3, .int y3), (4, .int y4), (5, .int y5)]) rfl ?_
          refine gg_iload C dX7_follow_47 5 rfl ?_
          refine gg_if_eq C dX7_follow_49 (tgt := 70) (by decide) (fun _ => ?_) (fun _ => ?_)
          · refine gg_iload C dX7_follow_70 0 rfl ?_
            refine gg_callS C (fun l r h => c_X2_isLetter l D T x2 r h) lk_X7_39 ⟨by decide, by decide⟩ hnn rfl (rest := []) rfl (Nat.le_of_ble_eq_true rfl) dX7_follow_72 cut_none (st2 := fun r3 => [.int r3]) (fun _ => rfl) (fun r3 => ?_)
            refine gg_if_eq C dX7_follow_75 (tgt := 87) (by decide) (fun _ => ?_) (fun _ => ?_)
            · refine gg_iload C dX7_follow_87 0 rfl ?_
              refine gg_callS C (fun l r h => c_X2_isWay l D T x2 r h) lk_X7_43 ⟨by decide, by decide⟩ hnn rfl (rest := []) rfl (Nat.le_of_ble_eq_true rfl) dX7_follow_89 cut_none (st2 := fun r4 => [.int r4]) (fun _ => rfl) (fun r4 => ?_)
              refine gg_if_eq C dX7_follow_92 (tgt := 102) (by decide) (fun _ => ?_) (fun _ => ?_)
              · refine gg_iload C dX7_follow_102 0 rfl ?_
                refine gg_callS C (fun l r h => c_X2_isDigit l D T x2 r h) lk_X7_46 ⟨by decide, by decide⟩ hnn rfl (rest := []) rfl (Nat.le_of_ble_eq_true rfl) dX7_follow_104 cut_none (st2 := fun r5 => [.int r5]) (fun _ => rfl) (fun r5 => ?_)
                refine gg_if_eq C dX7_follow_107 (tgt := 125) (by decide) (fun _ => ?_) (fun _ => ?_)
                · refine gg_aload_n C dX7_follow_125 rfl 1 rfl ?_
                  refine gg_iload_n C dX7_follow_126 rfl 4 rfl ?_
                  refine gg_iload C dX7_follow_127 0 rfl ?_
                  refine gg_iconst C dX7_follow_129 kI_0 ?_
                  refine gg_callV C (fun l r h => c_X7_attempt l D T a b t_ac t_ba t_bw t_he t_wa t_wh gal_b gal_n gal_o gal_s gal_k gal_h gal_c gal_m y3 x2 0 r h) lk_X7_35 ⟨by decide, by decide⟩ hnn rfl (rest := []) rfl (Nat.le_of_ble_eq_true rfl) 0 rfl rfl dX7_follow_130 (ws2 := fun r6 => wT a (b 0) r6.1 r6.2.1 r6.2.2.1 r6.2.2.2.1 r6.2.2.2.2.1 r6.2.2.2.2.2.1 ++ (wG T b r6.2.2.2.2.2.2.1 r6.2.2.2.2.2.2.2.1 r6.2.2.2.2.2.2.2.2.1 r6.2.2.2.2.2.2.2.2.2.1 gal_k r6.2.2.2.2.2.2.2.2.2.2.1 r6.2.2.2.2.2.2.2.2.2.2.2.1 r6.2.2.2.2.2.2.2.2.2.2.2.2 ++ (wG T e u_b u_n u_o u_s u_k u_h u_c u_m ++ (wP T d p_s p_n)))) (cut_part 19 [0, 1, 2, 3, 4, 5, 6, 7, 8] [9, 10, 11, 12, 13, 14, 15, 16, 17, 18] rfl (by decide) rfl (fun _ => rfl) (fun _ => rfl) (fun _ => rfl)) (st2 := fun r6 => []) (fun _ => rfl) (fun r6 => ?_)
                  refine gg_iinc C dX7_follow_133 (j := 6) rfl (v := y5 + 1) (by first | rfl | decide) hn (by decide) (lv' := [(5, .int (y5 + 1)), (6, .int x2), (0, .ref a), (1, .ref (e 0)), (2, .ref (d 0)), (3, .int y3), (4, .int y4)]) rfl ?_
                  refine gg_goto C dX7_follow_136 (tgt := 13) (by decide) ?_
                  refine gg_sub [2, 3, 4, 5, 6, 0] rfl ?_
                  exact ih y3 y4 (y5 + 1) r6.1 r6.2.1 r6.2.2.1 r6.2.2.2.1 r6.2.2.2.2.1 r6.2.2.2.2.2.1 r6.2.2.2.2.2.2.1 r6.2.2.2.2.2.2.2.1 r6.2.2.2.2.2.2.2.2.1 r6.2.2.2.2.2.2.2.2.2.1 r6.2.2.2.2.2.2.2.2.2.2.1 r6.2.2.2.2.2.2.2.2.2.2.2.1 r6.2.2.2.2.2.2.2.2.2.2.2.2
                · refine gg_aload_n C dX7_follow_110 rfl 1 rfl ?_
                  refine gg_iload_n C dX7_follow_111 rfl 4 rfl ?_
                  refine gg_bipush C dX7_follow_112 kB_48 ?_
                  refine gg_iload C dX7_follow_114 0 rfl ?_
                  refine gg_bipush C dX7_follow_116 kB_48 ?_
                  refine gg_isub C dX7_follow_118 ?_
                  refine gg_callV C (fun l r h => c_X7_attempt l D T a b t_ac t_ba t_bw t_he t_wa t_wh gal_b gal_n gal_o gal_s gal_k gal_h gal_c gal_m y3 48 (x2 - 48) r h) lk_X7_35 ⟨by decide, by decide⟩ hnn rfl (rest := []) rfl (Nat.le_of_ble_eq_true rfl) 0 rfl rfl dX7_follow_119 (ws2 := fun r7 => wT a (b 0) r7.1 r7.2.1 r7.2.2.1 r7.2.2.2.1 r7.2.2.2.2.1 r7.2.2.2.2.2.1 ++ (wG T b r7.2.2.2.2.2.2.1 r7.2.2.2.2.2.2.2.1 r7.2.2.2.2.2.2.2.2.1 r7.2.2.2.2.2.2.2.2.2.1 gal_k r7.2.2.2.2.2.2.2.2.2.2.1 r7.2.2.2.2.2.2.2.2.2.2.2.1 r7.2.2.2.2.2.2.2.2.2.2.2.2 ++ (wG T e u_b u_n u_o u_s u_k u_h u_c u_m ++ (wP T d p_s p_n)))) (cut_part 19 [0, 1, 2, 3, 4, 5, 6, 7, 8] [9, 10, 11, 12, 13, 14, 15, 16, 17, 18] rfl (by decide) rfl (fun _ => rfl) (fun _ => rfl) (fun _ => rfl)) (st2 := fun r7 => []) (fun _ => rfl) (fun r7 => ?_)
                  refine gg_goto C dX7_follow_122 (tgt := 133) (by decide) ?_
                  refine gg_iinc C dX7_follow_133 (j := 6) rfl (v := y5 + 1) (by first | rfl | decide) hn (by decide) (lv' := [(5, .int (y5 + 1)), (6, .int x2), (0, .ref a), (1, .ref (e 0)), (2, .ref (d 0)), (3, .int y3), (4, .int y4)]) rfl ?_
                  refine gg_goto C dX7_follow_136 (tgt := 13) (by decide) ?_
                  refine gg_sub [2, 3, 4, 5, 6, 0] rfl ?_
                  exact ih y3 y4 (y5 + 1) r7.1 r7.2.1 r7.2.2.1 r7.2.2.2.1 r7.2.2.2.2.1 r7.2.2.2.2.2.1 r7.2.2.2.2.2.2.1 r7.2.2.2.2.2.2.2.1 r7.2.2.2.2.2.2.2.2.1 r7.2.2.2.2.2.2.2.2.2.1 r7.2.2.2.2.2.2.2.2.2.2.1 r7.2.2.2.2.2.2.2.2.2.2.2.1 r7.2.2.2.2.2.2.2.2.2.2.2.2
              · refine gg_iload C dX7_follow_95 0 rfl ?_
                refine gg_istore C dX7_follow_97 hn (by decide) (lv' := [(4, .int x2), (6, .int x2), (0, .ref a), (1, .ref (e 0)), (2, .ref (d 0)), (3, .int y3), (5, .int y5)]) rfl ?_
                refine gg_goto C dX7_follow_99 (tgt := 133) (by decide) ?_
                refine gg_iinc C dX7_follow_133 (j := 6) rfl (v := y5 + 1) (by first | rfl | decide) hn (by decide) (lv' := [(5, .int (y5 + 1)), (4, .int x2), (6, .int x2), (0, .ref a), (1, .ref (e 0)), (2, .ref (d 0)), (3, .int y3)]) rfl ?_
                refine gg_goto C dX7_follow_136 (tgt := 13) (by decide) ?_
                refine gg_sub [3, 4, 5, 6, 1, 0] rfl ?_
                exact ih y3 x2 (y5 + 1) t_ac t_ba t_bw t_he t_wa t_wh gal_b gal_n gal_o gal_s gal_h gal_c gal_m
            · refine gg_iload C dX7_follow_78 0 rfl ?_
              refine gg_bipush C dX7_follow_80 kB_65 ?_
              refine gg_isub C dX7_follow_82 ?_
              refine gg_bi (fun x8 => ?_)
              refine gg_istore_n C dX7_follow_83 rfl hn (by decide) (lv' := [(3, .int x8), (6, .int x2), (0, .ref a), (1, .ref (e 0)), (2, .ref (d 0)), (4, .int y4), (5, .int y5)]) rfl ?_
              refine gg_goto C dX7_follow_84 (tgt := 133) (by decide) ?_
              refine gg_iinc C dX7_follow_133 (j := 6) rfl (v := y5 + 1) (by first | rfl | decide) hn (by decide) (lv' := [(5, .int (y5 + 1)), (3, .int x8), (6, .int x2), (0, .ref a), (1, .ref (e 0)), (2, .ref (d 0)), (4, .int y4)]) rfl ?_
              refine gg_goto C dX7_follow_136 (tgt := 13) (by decide) ?_
              refine gg_sub [3, 4, 5, 1, 6, 0] rfl ?_
              exact ih x8 y4 (y5 + 1) t_ac t_ba t_bw t_he t_wa t_wh gal_b gal_n gal_o gal_s gal_h gal_c gal_m
          · refine gg_aload_n C dX7_follow_52 rfl 1 rfl ?_
            refine gg_iload_n C dX7_follow_53 rfl 4 rfl ?_
            refine gg_iload C dX7_follow_54 5 rfl ?_
            refine gg_iload C dX7_follow_56 0 rfl ?_
            refine gg_bipush C dX7_follow_58 kB_48 ?_
            refine gg_isub C dX7_follow_60 ?_
            refine gg_callV C (fun l r h => c_X7_attempt l D T a b t_ac t_ba t_bw t_he t_wa t_wh gal_b gal_n gal_o gal_s gal_k gal_h gal_c gal_m y3 y4 (x2 - 48) r h) lk_X7_35 ⟨by decide, by decide⟩ hnn rfl (rest := []) rfl (Nat.le_of_ble_eq_true rfl) 0 rfl rfl dX7_follow_61 (ws2 := fun r9 => wT a (b 0) r9.1 r9.2.1 r9.2.2.1 r9.2.2.2.1 r9.2.2.2.2.1 r9.2.2.2.2.2.1 ++ (wG T b r9.2.2.2.2.2.2.1 r9.2.2.2.2.2.2.2.1 r9.2.2.2.2.2.2.2.2.1 r9.2.2.2.2.2.2.2.2.2.1 gal_k r9.2.2.2.2.2.2.2.2.2.2.1 r9.2.2.2.2.2.2.2.2.2.2.2.1 r9.2.2.2.2.2.2.2.2.2.2.2.2 ++ (wG T e u_b u_n u_o u_s u_k u_h u_c u_m ++ (wP T d p_s p_n)))) (cut_part 19 [0, 1, 2, 3, 4, 5, 6, 7, 8] [9, 10, 11, 12, 13, 14, 15, 16, 17, 18] rfl (by decide) rfl (fun _ => rfl) (fun _ => rfl) (fun _ => rfl)) (st2 := fun r9 => []) (fun _ => rfl) (fun r9 => ?_)
            refine gg_iconst C dX7_follow_64 kI_0 ?_
            refine gg_istore C dX7_follow_65 hn (by decide) (lv' := [(4, .int 0), (6, .int x2), (0, .ref a), (1, .ref (e 0)), (2, .ref (d 0)), (3, .int y3), (5, .int y5)]) rfl ?_
            refine gg_goto C dX7_follow_67 (tgt := 133) (by decide) ?_
            refine gg_iinc C dX7_follow_133 (j := 6) rfl (v := y5 + 1) (by first | rfl | decide) hn (by decide) (lv' := [(5, .int (y5 + 1)), (4, .int 0), (6, .int x2), (0, .ref a), (1, .ref (e 0)), (2, .ref (d 0)), (3, .int y3)]) rfl ?_
            refine gg_goto C dX7_follow_136 (tgt := 13) (by decide) ?_
            refine gg_sub [3, 4, 5, 6, 1, 0] rfl ?_
            exact ih y3 0 (y5 + 1) r9.1 r9.2.1 r9.2.2.1 r9.2.2.2.1 r9.2.2.2.2.1 r9.2.2.2.2.2.1 r9.2.2.2.2.2.2.1 r9.2.2.2.2.2.2.2.1 r9.2.2.2.2.2.2.2.2.1 r9.2.2.2.2.2.2.2.2.2.1 r9.2.2.2.2.2.2.2.2.2.2.1 r9.2.2.2.2.2.2.2.2.2.2.2.1 r9.2.2.2.2.2.2.2.2.2.2.2.2
def f_X7_follow (gal_b : Nat → Int32) (gal_n : Nat → Int32) (gal_o : Nat → Int32) (gal_s : Nat → Int32) (gal_k : Nat → Int32) (gal_h : Nat → Int32) (gal_c : Nat → Int32) (u_b : Nat → Int32) (u_n : Nat → Int32) (u_o : Nat → Int32) (u_s : Nat → Int32) (u_k : Nat → Int32) (u_h : Nat → Int32) (u_c : Nat → Int32) (u_m : Int32) (p_s : Nat → Int32) (p_n : Int32) : Option (Int32 × Int32 × Int32 × Int32 × Int32 × Int32 × (Nat → Int32) × (Nat → Int32) × (Nat → Int32) × (Nat → Int32) × (Nat → Int32) × (Nat → Int32) × (Nat → Int32) × Int32) := jn (f_X7_begin gal_b gal_n gal_o gal_s gal_k gal_h gal_c u_b u_n u_o u_s u_k u_h u_c u_m) (fun r1 => jn (α := Int32 × Int32 × Int32 × Int32 × Int32 × Int32 × Int32 × Int32 × Int32 × (Nat → Int32) × (Nat → Int32) × (Nat → Int32) × (Nat → Int32) × (Nat → Int32) × (Nat → Int32) × Int32) (f_X7_follow_L13 r1.2.2.2.2.2.2.2.2.2.2.1 p_s p_n 100 0 0 0 r1.1 r1.2.1 r1.2.2.1 r1.2.2.2.1 r1.2.2.2.2.1 r1.2.2.2.2.2.1 r1.2.2.2.2.2.2.1 r1.2.2.2.2.2.2.2.1 r1.2.2.2.2.2.2.2.2.1 r1.2.2.2.2.2.2.2.2.2.1 r1.2.2.2.2.2.2.2.2.2.2.2.1 r1.2.2.2.2.2.2.2.2.2.2.2.2.1 r1.2.2.2.2.2.2.2.2.2.2.2.2.2) (fun z10 => some (z10.2.2.2.1, z10.2.2.2.2.1, z10.2.2.2.2.2.1, z10.2.2.2.2.2.2.1, z10.2.2.2.2.2.2.2.1, z10.2.2.2.2.2.2.2.2.1, z10.2.2.2.2.2.2.2.2.2.1, z10.2.2.2.2.2.2.2.2.2.2.1, z10.2.2.2.2.2.2.2.2.2.2.2.1, z10.2.2.2.2.2.2.2.2.2.2.2.2.1, r1.2.2.2.2.2.2.2.2.2.2.1, z10.2.2.2.2.2.2.2.2.2.2.2.2.2.1, z10.2.2.2.2.2.2.2.2.2.2.2.2.2.2.1, z10.2.2.2.2.2.2.2.2.2.2.2.2.2.2.2)))
set_option maxHeartbeats 4000000 in
set_option maxRecDepth 100000 in
theorem c_X7_follow (l : Launch) (D : va_G) (T : Nat → ClassId) (a : Nat) (b : Nat → Nat) (e : Nat → Nat) (d : Nat → Nat) (t_ac : Int32) (t_ba : Int32) (t_bw : Int32) (t_he : Int32) (t_wa : Int32) (t_wh : Int32) (gal_b : Nat → Int32) (gal_n : Nat → Int32) (gal_o : Nat → Int32) (gal_s : Nat → Int32) (gal_k : Nat → Int32) (gal_h : Nat → Int32) (gal_c : Nat → Int32) (gal_m : Int32) (u_b : Nat → Int32) (u_n : Nat → Int32) (u_o : Nat → Int32) (u_s : Nat → Int32) (u_k : Nat → Int32) (u_h : Nat → Int32) (u_c : Nat → Int32) (u_m : Int32) (p_s : Nat → Int32) (p_n : Int32) (r : Int32 × Int32 × Int32 × Int32 × Int32 × Int32 × (Nat → Int32) × (Nat → Int32) × (Nat → Int32) × (Nat → Int32) × (Nat → Int32) × (Nat → Int32) × (Nat → Int32) × Int32) (h : f_X7_follow gal_b gal_n gal_o gal_s gal_k gal_h gal_c u_b u_n u_o u_s u_k u_h u_c u_m p_s p_n = some r) : Kt l D T yX7_follow cX7_follow 7 none (5, 0, 0, 111) [.ref a, .ref (e 0), .ref (d 0)] (wT a (b 0) t_ac t_ba t_bw t_he t_wa t_wh ++ (wG T b gal_b gal_n gal_o gal_s gal_k gal_h gal_c gal_m ++ (wG T e u_b u_n u_o u_s u_k u_h u_c u_m ++ (wP T d p_s p_n)))) (FF (fun (r : Int32 × Int32 × Int32 × Int32 × Int32 × Int32 × (Nat → Int32) × (Nat → Int32) × (Nat → Int32) × (Nat → Int32) × (Nat → Int32) × (Nat → Int32) × (Nat → Int32) × Int32) => none) (fun r => wT a (b 0) r.1 r.2.1 r.2.2.1 r.2.2.2.1 r.2.2.2.2.1 r.2.2.2.2.2.1 ++ (wG T b r.2.2.2.2.2.2.1 r.2.2.2.2.2.2.2.1 r.2.2.2.2.2.2.2.2.1 r.2.2.2.2.2.2.2.2.2.1 r.2.2.2.2.2.2.2.2.2.2.1 r.2.2.2.2.2.2.2.2.2.2.2.1 r.2.2.2.2.2.2.2.2.2.2.2.2.1 r.2.2.2.2.2.2.2.2.2.2.2.2.2 ++ (wG T e u_b u_n u_o u_s u_k u_h u_c u_m ++ (wP T d p_s p_n)))) r) := by
  refine kt_of (own := RX7) (nm := "follow") (lv := [(0, .ref a), (1, .ref (e 0)), (2, .ref (d 0))]) (by decide) rfl rfl rfl (Nat.le_of_ble_eq_true rfl) h (fun X hn C M => ?_)
  have hnn : ((0, 0) : Nat × Nat).1 ≤ 0 ∧ ((0, 0) : Nat × Nat).2 ≤ 0 := ⟨Nat.le_refl 0, Nat.le_refl 0⟩
  unfold f_X7_follow
  refine gg_aload_n C dX7_follow_0 rfl 0 rfl ?_
  refine gg_aload_n C dX7_follow_1 rfl 1 rfl ?_
  refine gg_callV C (fun l r h => c_X7_begin l D T a b e t_ac t_ba t_bw t_he t_wa t_wh gal_b gal_n gal_o gal_s gal_k gal_h gal_c gal_m u_b u_n u_o u_s u_k u_h u_c u_m r h) lk_X7_18 ⟨by decide, by decide⟩ hnn rfl (rest := []) rfl (Nat.le_of_ble_eq_true rfl) 0 rfl rfl dX7_follow_2 (ws2 := fun r1 => wT a (b 0) r1.1 r1.2.1 r1.2.2.1 r1.2.2.2.1 r1.2.2.2.2.1 r1.2.2.2.2.2.1 ++ (wG T b r1.2.2.2.2.2.2.1 r1.2.2.2.2.2.2.2.1 r1.2.2.2.2.2.2.2.2.1 r1.2.2.2.2.2.2.2.2.2.1 r1.2.2.2.2.2.2.2.2.2.2.1 r1.2.2.2.2.2.2.2.2.2.2.2.1 r1.2.2.2.2.2.2.2.2.2.2.2.2.1 r1.2.2.2.2.2.2.2.2.2.2.2.2.2 ++ (wG T e u_b u_n u_o u_s u_k u_h u_c u_m ++ (wP T d p_s p_n)))) (cut_part 19 [0, 1, 2, 3, 4, 5, 6, 7, 8, 9, 10, 11, 12, 13, 14, 15, 16] [17, 18] rfl (by decide) rfl (fun _ => rfl) (fun _ => rfl) (fun _ => rfl)) (st2 := fun r1 => []) (fun _ => rfl) (fun r1 => ?_)
  refine gg_iconst C dX7_follow_5 kI_0 ?_
  refine gg_istore_n C dX7_follow_6 rfl hn (by decide) (lv' := [(3, .int 0), (0, .ref a), (1, .ref (e 0)), (2, .ref (d 0))]) rfl ?_
  refine gg_iconst C dX7_follow_7 kI_0 ?_
  refine gg_istore C dX7_follow_8 hn (by decide) (lv' := [(4, .int 0), (3, .int 0), (0, .ref a), (1, .ref (e 0)), (2, .ref (d 0))]) rfl ?_
  refine gg_iconst C dX7_follow_10 kI_0 ?_
  refine gg_istore C dX7_follow_11 hn (by decide) (lv' := [(5, .int 0), (4, .int 0), (3, .int 0), (0, .ref a), (1, .ref (e 0)), (2, .ref (d 0))]) rfl ?_
  refine gg_join (α := Int32 × Int32 × Int32 × Int32 × Int32 × Int32 × Int32 × Int32 × Int32 × (Nat → Int32) × (Nat → Int32) × (Nat → Int32) × (Nat → Int32) × (Nat → Int32) × (Nat → Int32) × Int32) 139 (fun z10 => wT a (b 0) z10.2.2.2.1 z10.2.2.2.2.1 z10.2.2.2.2.2.1 z10.2.2.2.2.2.2.1 z10.2.2.2.2.2.2.2.1 z10.2.2.2.2.2.2.2.2.1 ++ (wG T b z10.2.2.2.2.2.2.2.2.2.1 z10.2.2.2.2.2.2.2.2.2.2.1 z10.2.2.2.2.2.2.2.2.2.2.2.1 z10.2.2.2.2.2.2.2.2.2.2.2.2.1 r1.2.2.2.2.2.2.2.2.2.2.1 z10.2.2.2.2.2.2.2.2.2.2.2.2.2.1 z10.2.2.2.2.2.2.2.2.2.2.2.2.2.2.1 z10.2.2.2.2.2.2.2.2.2.2.2.2.2.2.2 ++ (wG T e u_b u_n u_o u_s u_k u_h u_c u_m ++ (wP T d p_s p_n)))) (fun z10 => [(0, .ref a), (1, .ref (e 0)), (2, .ref (d 0)), (3, .int z10.1), (4, .int z10.2.1), (5, .int z10.2.2.1)]) (fun z10 => []) (fun z10 => ?_) (fun K11 => ?_)
  · exact gg_vret C M dX7_follow_139 ⟨rfl, rfl⟩
  · refine gg_sub [3, 4, 5, 2, 1, 0] rfl ?_
    exact g_X7_follow_L13 C hnn hn a b e d r1.2.2.2.2.2.2.2.2.2.2.1 u_b u_n u_o u_s u_k u_h u_c u_m p_s p_n K11 100 0 0 0 r1.1 r1.2.1 r1.2.2.1 r1.2.2.2.1 r1.2.2.2.2.1 r1.2.2.2.2.2.1 r1.2.2.2.2.2.2.1 r1.2.2.2.2.2.2.2.1 r1.2.2.2.2.2.2.2.2.1 r1.2.2.2.2.2.2.2.2.2.1 r1.2.2.2.2.2.2.2.2.2.2.2.1 r1.2.2.2.2.2.2.2.2.2.2.2.2.1 r1.2.2.2.2.2.2.2.2.2.2.2.2.2
def f_X7_draw_L11 (y3 : Int32) (gal_k : Nat → Int32) : Nat → Int32 → Int32 → (Nat → Int32) → (Nat → Int32) → (Nat → Int32) → (Nat → Int32) → (Nat → Int32) → (Nat → Int32) → Int32 → Option (Int32 × Int32 × (Nat → Int32) × (Nat → Int32) × (Nat → Int32) × (Nat → Int32) × (Nat → Int32) × (Nat → Int32) × Int32)
  | 0, _, _, _, _, _, _, _, _, _ => none
  | nn + 1, y4, y5, gal_b, gal_n, gal_o, gal_s, gal_h, gal_c, gal_m => if y3 ≤ y5 then some (y4, y5, gal_b, gal_n, gal_o, gal_s, gal_h, gal_c, gal_m) else bi (((75 * y4) + 74) - ((75 * y4) + 74) / 65537 * 65537) (fun x2 => jn (f_X7_drawnKind ((x2 / 6) - (x2 / 6) / 8 * 8) (x2 / 48)) (fun r3 => bi (((x2 / 48) - (x2 / 48) / 9 * 9) + 1) (fun x4 => jn (f_X0_bar gal_b gal_s gal_c gal_m (x2 - x2 / 6 * 6) r3 x4) (fun r5 => if r5 = 0 then jn (f_X0_act gal_b gal_n gal_o gal_s gal_k gal_h gal_c gal_m (x2 - x2 / 6 * 6) r3 x4) (fun r6 => f_X7_draw_L11 y3 gal_k nn x2 (y5 + 1) r6.1 r6.2.1 r6.2.2.1 r6.2.2.2.1 r6.2.2.2.2.1 r6.2.2.2.2.2.1 r6.2.2.2.2.2.2) else f_X7_draw_L11 y3 gal_k nn x2 (y5 + 1) gal_b gal_n gal_o gal_s gal_h gal_c gal_m))))
set_option maxHeartbeats 4000000 in
set_option maxRecDepth 100000 in
theorem g_X7_draw_L11 {X : KX} {D : va_G} {T : Nat → ClassId} {Q : Int32 × Int32 × (Nat → Int32) × (Nat → Int32) × (Nat → Int32) × (Nat → Int32) × (Nat → Int32) × (Nat → Int32) × Int32 → State → Prop} {n : Nat × Nat} (C : Cx X D T cX7_draw RX7 { frames := 4, cells := 0, slots := 0, locals := 102 }) (hnn : n.1 ≤ 0 ∧ n.2 ≤ 0) (hn : kxL X = 8) (a : Nat) (b : Nat → Nat) (e : Nat → Nat)  (y2 : Int32) (y3 : Int32) (t_ac : Int32) (t_ba : Int32) (t_bw : Int32) (t_he : Int32) (t_wa : Int32) (t_wh : Int32) (gal_k : Nat → Int32) (u_b : Nat → Int32) (u_n : Nat → Int32) (u_o : Nat → Int32) (u_s : Nat → Int32) (u_k : Nat → Int32) (u_h : Nat → Int32) (u_c : Nat → Int32) (u_m : Int32) (hk : ∀ v : Int32 × Int32 × (Nat → Int32) × (Nat → Int32) × (Nat → Int32) × (Nat → Int32) × (Nat → Int32) × (Nat → Int32) × Int32, GG X D Q n (wT a (b 0) t_ac t_ba t_bw t_he t_wa t_wh ++ (wG T b v.2.2.1 v.2.2.2.1 v.2.2.2.2.1 v.2.2.2.2.2.1 gal_k v.2.2.2.2.2.2.1 v.2.2.2.2.2.2.2.1 v.2.2.2.2.2.2.2.2 ++ (wG T e u_b u_n u_o u_s u_k u_h u_c u_m))) [(0, .ref a), (1, .ref (e 0)), (2, .int y2), (3, .int y3), (4, .int v.1), (5, .int v.2.1)] 101 [] (some (v))) : ∀ (nn : Nat) (y4 : Int32) (y5 : Int32) (gal_b : Nat → Int32) (gal_n : Nat → Int32) (gal_o : Nat → Int32) (gal_s : Nat → Int32) (gal_h : Nat → Int32) (gal_c : Nat → Int32) (gal_m : Int32), GG X D Q n (wT a (b 0) t_ac t_ba t_bw t_he t_wa t_wh ++ (wG T b gal_b gal_n gal_o gal_s gal_k gal_h gal_c gal_m ++ (wG T e u_b u_n u_o u_s u_k u_h u_c u_m))) [(0, .ref a), (1, .ref (e 0)), (2, .int y2), (3, .int y3), (4, .int y4), (5, .int y5)] 11 [] (f_X7_draw_L11 y3 gal_k nn y4 y5 gal_b gal_n gal_o gal_s gal_h gal_c gal_m) := by
  intro nn
  induction nn with
  | zero => intros; exact gg_none
  | succ nn ih =>
    intro y4 y5 gal_b gal_n gal_o gal_s gal_h gal_c gal_m
    unfold f_X7_draw_L11
    refine gg_iload C dX7_draw_11 5 rfl ?_
    refine gg_iload_n C dX7_draw_13 rfl 3 rfl ?_
    refine gg_icmp_ge C dX7_draw_14 (tgt := 101) (by decide) (fun _ => ?_) (fun _ => ?_)
    · refine gg_sub [0, 1, 2, 3, 4, 5] rfl ?_
      exact hk (y4, y5, gal_b, gal_n, gal_o, gal_s, gal_h, gal_c, gal_m)
    · refine gg_bipush C dX7_draw_17 kB_75 ?_
      refine gg_iload C dX7_draw_19 4 rfl ?_
      refine gg_imul C dX7_draw_21 ?_
      refine gg_bipush C dX7_draw_22 kB_74 ?_
      refine gg_iadd C dX7_draw_24 ?_
      refine gg_ldc C tw_505 dX7_draw_25 ?_
      refine gg_iremK C dX7_draw_27 (by decide) ?_
      refine gg_bi (fun x2 => ?_)
      refine gg_istore C dX7_draw_28 hn (by decide) (lv' := [(4, .int x2), (0, .ref a), (1, .ref (e 0)), (2, .int y2), (3, .int y3), (5, .int y5)]) rfl ?_
      refine gg_iload C dX7_draw_30 0 rfl ?_
      refine gg_bipush C dX7_draw_32 kB_6 ?_
      refine gg_idivK C dX7_draw_34 (by decide) ?_
      refine gg_bipush C dX7_draw_35 kB_8 ?_
      refine gg_iremK C dX7_draw_37 (by decide) ?_
      refine gg_iload C dX7_draw_38 0 rfl ?_
      refine gg_bipush C dX7_draw_40 kB_48 ?_
      refine gg_idivK C dX7_draw_42 (by decide) ?_
      refine gg_callS C (fun l r h => c_X7_drawnKind l D T ((x2 / 6) - (x2 / 6) / 8 * 8) (x2 / 48) r h) lk_X7_50 ⟨by decide, by decide⟩ hnn rfl (rest := []) rfl (Nat.le_of_ble_eq_true rfl) dX7_draw_43 cut_none (st2 := fun r3 => [.int r3]) (fun _ => rfl) (fun r3 => ?_)
      refine gg_istore C dX7_draw_46 hn (by decide) (lv' := [(6, .int r3), (4, .int x2), (0, .ref a), (1, .ref (e 0)), (2, .int y2), (3, .int y3), (5, .int y5)]) rfl ?_
      refine gg_iload C dX7_draw_48 1 rfl ?_
      refine gg_bipush C dX7_draw_50 kB_48 ?_
      refine gg_idivK C dX7_draw_52 (by decide) ?_
      refine gg_bipush C dX7_draw_53 kB_9 ?_
      refine gg_iremK C dX7_draw_55 (by decide) ?_
      refine gg_iconst C dX7_draw_56 kI_1 ?_
      refine gg_iadd C dX7_draw_57 ?_
      refine gg_bi (fun x4 => ?_)
      refine gg_istore C dX7_draw_58 hn (by decide) (lv' := [(7, .int x4), (6, .int r3), (4, .int x2), (0, .ref a), (1, .ref (e 0)), (2, .int y2), (3, .int y3), (5, .int y5)]) rfl ?_
      refine gg_aload_n C dX7_draw_60 rfl 3 rfl ?_
      refine gf_X7_12 C 0 rfl rfl dX7_draw_61 ?_
      refine gg_iload C dX7_draw_64 2 rfl ?_
      refine gg_bipush C dX7_draw_66 kB_6 ?_
      refine gg_iremK C dX7_draw_68 (by decide) ?_
      refine gg_iload C dX7_draw_69 1 rfl ?_
      refine gg_iload C dX7_draw_71 0 rfl ?_
      refine gg_callV C (fun l r h => c_X0_bar l D T b gal_b gal_n gal_o gal_s gal_k gal_h gal_c gal_m (x2 - x2 / 6 * 6) r3 x4 r h) lk_X7_54 ⟨by decide, by decide⟩ hnn rfl (rest := []) rfl (Nat.le_of_ble_eq_true rfl) 1 rfl rfl dX7_draw_73 (ws2 := fun r5 => wT a (b 0) t_ac t_ba t_bw t_he t_wa t_wh ++ (wG T b gal_b gal_n gal_o gal_s gal_k gal_h gal_c gal_m ++ (wG T e u_b u_n u_o u_s u_k u_h u_c u_m))) (cut_part 17 [1, 2, 3, 4, 5, 6, 7, 8] [0, 9, 10, 11, 12, 13, 14, 15, 16] rfl (by decide) rfl (fun _ => rfl) (fun _ => rfl) (fun _ => rfl)) (st2 := fun r5 => [.int r5]) (fun _ => rfl) (fun r5 => ?_)
      refine gg_if_ne C dX7_draw_76 (tgt := 95) (by decide) (fun _ => ?_) (fun _ => ?_)
      · refine gg_iinc C dX7_draw_95 (j := 7) rfl (v := y5 + 1) (by first | rfl | decide) hn (by decide) (lv' := [(5, .int (y5 + 1)), (7, .int x4), (6, .int r3), (4, .int x2), (0, .ref a), (1, .ref (e 0)), (2, .int y2), (3, .int y3)]) rfl ?_
        refine gg_goto C dX7_draw_98 (tgt := 11) (by decide) ?_
        refine gg_sub [4, 5, 6, 7, 3, 0] rfl ?_
        exact ih x2 (y5 + 1) gal_b gal_n gal_o gal_s gal_h gal_c gal_m
      · refine gg_aload_n C dX7_draw_79 rfl 3 rfl ?_
        refine gf_X7_12 C 0 rfl rfl dX7_draw_80 ?_
        refine gg_iload C dX7_draw_83 2 rfl ?_
        refine gg_bipush C dX7_draw_85 kB_6 ?_
        refine gg_iremK C dX7_draw_87 (by decide) ?_
        refine gg_iload C dX7_draw_88 1 rfl ?_
        refine gg_iload C dX7_draw_90 0 rfl ?_
        refine gg_callV C (fun l r h => c_X0_act l D T b gal_b gal_n gal_o gal_s gal_k gal_h gal_c gal_m (x2 - x2 / 6 * 6) r3 x4 r h) lk_X7_58 ⟨by decide, by decide⟩ hnn rfl (rest := []) rfl (Nat.le_of_ble_eq_true rfl) 1 rfl rfl dX7_draw_92 (ws2 := fun r6 => wT a (b 0) t_ac t_ba t_bw t_he t_wa t_wh ++ (wG T b r6.1 r6.2.1 r6.2.2.1 r6.2.2.2.1 gal_k r6.2.2.2.2.1 r6.2.2.2.2.2.1 r6.2.2.2.2.2.2 ++ (wG T e u_b u_n u_o u_s u_k u_h u_c u_m))) (cut_part 17 [1, 2, 3, 4, 5, 6, 7, 8] [0, 9, 10, 11, 12, 13, 14, 15, 16] rfl (by decide) rfl (fun _ => rfl) (fun _ => rfl) (fun _ => rfl)) (st2 := fun r6 => []) (fun _ => rfl) (fun r6 => ?_)
        refine gg_iinc C dX7_draw_95 (j := 7) rfl (v := y5 + 1) (by first | rfl | decide) hn (by decide) (lv' := [(5, .int (y5 + 1)), (7, .int x4), (6, .int r3), (4, .int x2), (0, .ref a), (1, .ref (e 0)), (2, .int y2), (3, .int y3)]) rfl ?_
        refine gg_goto C dX7_draw_98 (tgt := 11) (by decide) ?_
        refine gg_sub [4, 5, 6, 7, 3, 0] rfl ?_
        exact ih x2 (y5 + 1) r6.1 r6.2.1 r6.2.2.1 r6.2.2.2.1 r6.2.2.2.2.1 r6.2.2.2.2.2.1 r6.2.2.2.2.2.2
def f_X7_draw (gal_b : Nat → Int32) (gal_n : Nat → Int32) (gal_o : Nat → Int32) (gal_s : Nat → Int32) (gal_k : Nat → Int32) (gal_h : Nat → Int32) (gal_c : Nat → Int32) (u_b : Nat → Int32) (u_n : Nat → Int32) (u_o : Nat → Int32) (u_s : Nat → Int32) (u_k : Nat → Int32) (u_h : Nat → Int32) (u_c : Nat → Int32) (u_m : Int32) (v2 : Int32) (v3 : Int32) : Option (Int32 × Int32 × Int32 × Int32 × Int32 × Int32 × (Nat → Int32) × (Nat → Int32) × (Nat → Int32) × (Nat → Int32) × (Nat → Int32) × (Nat → Int32) × (Nat → Int32) × Int32) := jn (f_X7_begin gal_b gal_n gal_o gal_s gal_k gal_h gal_c u_b u_n u_o u_s u_k u_h u_c u_m) (fun r1 => jn (α := Int32 × Int32 × (Nat → Int32) × (Nat → Int32) × (Nat → Int32) × (Nat → Int32) × (Nat → Int32) × (Nat → Int32) × Int32) (f_X7_draw_L11 v3 r1.2.2.2.2.2.2.2.2.2.2.1 200 v2 0 r1.2.2.2.2.2.2.1 r1.2.2.2.2.2.2.2.1 r1.2.2.2.2.2.2.2.2.1 r1.2.2.2.2.2.2.2.2.2.1 r1.2.2.2.2.2.2.2.2.2.2.2.1 r1.2.2.2.2.2.2.2.2.2.2.2.2.1 r1.2.2.2.2.2.2.2.2.2.2.2.2.2) (fun z7 => some (r1.1, r1.2.1, r1.2.2.1, r1.2.2.2.1, r1.2.2.2.2.1, r1.2.2.2.2.2.1, z7.2.2.1, z7.2.2.2.1, z7.2.2.2.2.1, z7.2.2.2.2.2.1, r1.2.2.2.2.2.2.2.2.2.2.1, z7.2.2.2.2.2.2.1, z7.2.2.2.2.2.2.2.1, z7.2.2.2.2.2.2.2.2)))
set_option maxHeartbeats 4000000 in
set_option maxRecDepth 100000 in
theorem c_X7_draw (l : Launch) (D : va_G) (T : Nat → ClassId) (a : Nat) (b : Nat → Nat) (e : Nat → Nat) (t_ac : Int32) (t_ba : Int32) (t_bw : Int32) (t_he : Int32) (t_wa : Int32) (t_wh : Int32) (gal_b : Nat → Int32) (gal_n : Nat → Int32) (gal_o : Nat → Int32) (gal_s : Nat → Int32) (gal_k : Nat → Int32) (gal_h : Nat → Int32) (gal_c : Nat → Int32) (gal_m : Int32) (u_b : Nat → Int32) (u_n : Nat → Int32) (u_o : Nat → Int32) (u_s : Nat → Int32) (u_k : Nat → Int32) (u_h : Nat → Int32) (u_c : Nat → Int32) (u_m : Int32) (v2 : Int32) (v3 : Int32) (r : Int32 × Int32 × Int32 × Int32 × Int32 × Int32 × (Nat → Int32) × (Nat → Int32) × (Nat → Int32) × (Nat → Int32) × (Nat → Int32) × (Nat → Int32) × (Nat → Int32) × Int32) (h : f_X7_draw gal_b gal_n gal_o gal_s gal_k gal_h gal_c u_b u_n u_o u_s u_k u_h u_c u_m v2 v3 = some r) : Kt l D T yX7_draw cX7_draw 8 none (4, 0, 0, 102) [.ref a, .ref (e 0), .int v2, .int v3] (wT a (b 0) t_ac t_ba t_bw t_he t_wa t_wh ++ (wG T b gal_b gal_n gal_o gal_s gal_k gal_h gal_c gal_m ++ (wG T e u_b u_n u_o u_s u_k u_h u_c u_m))) (FF (fun (r : Int32 × Int32 × Int32 × Int32 × Int32 × Int32 × (Nat → Int32) × (Nat → Int32) × (Nat → Int32) × (Nat → Int32) × (Nat → Int32) × (Nat → Int32) × (Nat → Int32) × Int32) => none) (fun r => wT a (b 0) r.1 r.2.1 r.2.2.1 r.2.2.2.1 r.2.2.2.2.1 r.2.2.2.2.2.1 ++ (wG T b r.2.2.2.2.2.2.1 r.2.2.2.2.2.2.2.1 r.2.2.2.2.2.2.2.2.1 r.2.2.2.2.2.2.2.2.2.1 r.2.2.2.2.2.2.2.2.2.2.1 r.2.2.2.2.2.2.2.2.2.2.2.1 r.2.2.2.2.2.2.2.2.2.2.2.2.1 r.2.2.2.2.2.2.2.2.2.2.2.2.2 ++ (wG T e u_b u_n u_o u_s u_k u_h u_c u_m))) r) := by
  refine kt_of (own := RX7) (nm := "draw") (lv := [(0, .ref a), (1, .ref (e 0)), (2, .int v2), (3, .int v3)]) (by decide) rfl rfl rfl (Nat.le_of_ble_eq_true rfl) h (fun X hn C M => ?_)
  have hnn : ((0, 0) : Nat × Nat).1 ≤ 0 ∧ ((0, 0) : Nat × Nat).2 ≤ 0 := ⟨Nat.le_refl 0, Nat.le_refl 0⟩
  unfold f_X7_draw
  refine gg_aload_n C dX7_draw_0 rfl 0 rfl ?_
  refine gg_aload_n C dX7_draw_1 rfl 1 rfl ?_
  refine gg_callV C (fun l r h => c_X7_begin l D T a b e t_ac t_ba t_bw t_he t_wa t_wh gal_b gal_n gal_o gal_s gal_k gal_h gal_c gal_m u_b u_n u_o u_s u_k u_h u_c u_m r h) lk_X7_18 ⟨by decide, by decide⟩ hnn rfl (rest := []) rfl (Nat.le_of_ble_eq_true rfl) 0 rfl rfl dX7_draw_2 (ws2 := fun r1 => wT a (b 0) r1.1 r1.2.1 r1.2.2.1 r1.2.2.2.1 r1.2.2.2.2.1 r1.2.2.2.2.2.1 ++ (wG T b r1.2.2.2.2.2.2.1 r1.2.2.2.2.2.2.2.1 r1.2.2.2.2.2.2.2.2.1 r1.2.2.2.2.2.2.2.2.2.1 r1.2.2.2.2.2.2.2.2.2.2.1 r1.2.2.2.2.2.2.2.2.2.2.2.1 r1.2.2.2.2.2.2.2.2.2.2.2.2.1 r1.2.2.2.2.2.2.2.2.2.2.2.2.2 ++ (wG T e u_b u_n u_o u_s u_k u_h u_c u_m))) (cut_full (fun _ => rfl)) (st2 := fun r1 => []) (fun _ => rfl) (fun r1 => ?_)
  refine gg_iload_n C dX7_draw_5 rfl 2 rfl ?_
  refine gg_istore C dX7_draw_6 hn (by decide) (lv' := [(4, .int v2), (0, .ref a), (1, .ref (e 0)), (2, .int v2), (3, .int v3)]) rfl ?_
  refine gg_iconst C dX7_draw_8 kI_0 ?_
  refine gg_istore C dX7_draw_9 hn (by decide) (lv' := [(5, .int 0), (4, .int v2), (0, .ref a), (1, .ref (e 0)), (2, .int v2), (3, .int v3)]) rfl ?_
  refine gg_join (α := Int32 × Int32 × (Nat → Int32) × (Nat → Int32) × (Nat → Int32) × (Nat → Int32) × (Nat → Int32) × (Nat → Int32) × Int32) 101 (fun z7 => wT a (b 0) r1.1 r1.2.1 r1.2.2.1 r1.2.2.2.1 r1.2.2.2.2.1 r1.2.2.2.2.2.1 ++ (wG T b z7.2.2.1 z7.2.2.2.1 z7.2.2.2.2.1 z7.2.2.2.2.2.1 r1.2.2.2.2.2.2.2.2.2.2.1 z7.2.2.2.2.2.2.1 z7.2.2.2.2.2.2.2.1 z7.2.2.2.2.2.2.2.2 ++ (wG T e u_b u_n u_o u_s u_k u_h u_c u_m))) (fun z7 => [(0, .ref a), (1, .ref (e 0)), (2, .int v2), (3, .int v3), (4, .int z7.1), (5, .int z7.2.1)]) (fun z7 => []) (fun z7 => ?_) (fun K8 => ?_)
  · exact gg_vret C M dX7_draw_101 ⟨rfl, rfl⟩
  · refine gg_sub [2, 3, 4, 5, 1, 0] rfl ?_
    exact g_X7_draw_L11 C hnn hn a b e v2 v3 r1.1 r1.2.1 r1.2.2.1 r1.2.2.2.1 r1.2.2.2.2.1 r1.2.2.2.2.2.1 r1.2.2.2.2.2.2.2.2.2.2.1 u_b u_n u_o u_s u_k u_h u_c u_m K8 200 v2 0 r1.2.2.2.2.2.2.1 r1.2.2.2.2.2.2.2.1 r1.2.2.2.2.2.2.2.2.1 r1.2.2.2.2.2.2.2.2.2.1 r1.2.2.2.2.2.2.2.2.2.2.2.1 r1.2.2.2.2.2.2.2.2.2.2.2.2.1 r1.2.2.2.2.2.2.2.2.2.2.2.2.2
