def f_X8_toldOfPlace (N_b : Nat → Int32) (N_n : Nat → Int32) (N_o : Nat → Int32) (v1 : Int32) (v2 : Int32) : Option (Int32) := jn (f_X8_isPlace v2) (fun r1 => if r1 = 0 then some (-2) else if v1 = 1 then gu v2 40 (some (N_b v2.toNatClampNeg)) else (if v1 = 2 then gu v2 40 (some (N_n v2.toNatClampNeg)) else (gu v2 40 (some (N_o v2.toNatClampNeg)))))
set_option maxHeartbeats 4000000 in
set_option maxRecDepth 100000 in
theorem c_X8_toldOfPlace (l : Launch) (D : va_G) (T : Nat → ClassId) (hc : Nat) (an : Nat → Nat) (ad1 : Nat) (ad2 : Nat) (ad3 : Nat) (ad4 : Nat) (ad5 : Nat) (ad6 : Nat) (ad7 : Nat) (N_b : Nat → Int32) (N_n : Nat → Int32) (N_o : Nat → Int32) (N_s : Nat → Int32) (N_k : Nat → Int32) (N_h : Nat → Int32) (N_c : Nat → Int32) (N_m : Int32) (v1 : Int32) (v2 : Int32) (r : Int32) (h : f_X8_toldOfPlace N_b N_n N_o v1 v2 = some r) : Kt l D T yX8_toldOfPlace cX8_toldOfPlace 3 (some .int) (1, 0, 0, 20) [.ref hc, .int v1, .int v2] (wC hc (an 0) ad1 ad2 ad3 ad4 ad5 ad6 ad7 ++ (wG T an N_b N_n N_o N_s N_k N_h N_c N_m)) (FF (fun (r : Int32) => some (.int r)) (fun r => wC hc (an 0) ad1 ad2 ad3 ad4 ad5 ad6 ad7 ++ (wG T an N_b N_n N_o N_s N_k N_h N_c N_m)) r) := by
  refine kt_of (own := RX8) (nm := "toldOfPlace") (lv := [(0, .ref hc), (1, .int v1), (2, .int v2)]) (by decide) rfl rfl rfl (Nat.le_of_ble_eq_true rfl) h (fun X hn C M => ?_)
  have hnn : ((0, 0) : Nat × Nat).1 ≤ 0 ∧ ((0, 0) : Nat × Nat).2 ≤ 0 := ⟨Nat.le_refl 0, Nat.le_refl 0⟩
  unfold f_X8_toldOfPlace
  refine gg_iload_n C dX8_toldOfPlace_0 rfl 2 rfl ?_
  refine gg_callS C (fun l r h => c_X8_isPlace l D T v2 r h) lk_X8_56 ⟨by decide, by decide⟩ hnn rfl (rest := []) rfl (Nat.le_of_ble_eq_true rfl) dX8_toldOfPlace_1 cut_none (st2 := fun r1 => [.int r1]) (fun _ => rfl) (fun r1 => ?_)
  refine gg_if_ne C dX8_toldOfPlace_4 (tgt := 10) (by decide) (fun _ => ?_) (fun _ => ?_)
  · refine gg_iload_n C dX8_toldOfPlace_10 rfl 1 rfl ?_
    refine gg_ite (fun hs2 => ?_) (fun hs2 => ?_)
    · refine gg_look C dX8_toldOfPlace_11 (by decide) (off := 25) (by rw [hs2]; decide) (tgt := 36) (by decide) ?_
      refine gg_aload_n C dX8_toldOfPlace_36 rfl 0 rfl ?_
      refine gf_X8_10 C 0 rfl rfl dX8_toldOfPlace_37 ?_
      refine gf_X8_70 C 1 rfl rfl dX8_toldOfPlace_40 ?_
      refine gg_iload_n C dX8_toldOfPlace_43 rfl 2 rfl ?_
      refine gg_iald C 2 rfl dX8_toldOfPlace_44 ?_
      exact gg_iret C M dX8_toldOfPlace_45 ⟨rfl, rfl⟩
    refine gg_ite (fun hs3 => ?_) (fun hs3 => ?_)
    · refine gg_look C dX8_toldOfPlace_11 (by decide) (off := 35) (by rw [hs3]; decide) (tgt := 46) (by decide) ?_
      refine gg_aload_n C dX8_toldOfPlace_46 rfl 0 rfl ?_
      refine gf_X8_10 C 0 rfl rfl dX8_toldOfPlace_47 ?_
      refine gf_X8_74 C 1 rfl rfl dX8_toldOfPlace_50 ?_
      refine gg_iload_n C dX8_toldOfPlace_53 rfl 2 rfl ?_
      refine gg_iald C 3 rfl dX8_toldOfPlace_54 ?_
      exact gg_iret C M dX8_toldOfPlace_55 ⟨rfl, rfl⟩
    refine gg_look C dX8_toldOfPlace_11 (by decide) (off := 45) (by show Op.lookupswitch.offset ([(1, 25), (2, 35)] : List (Int × Int)) (45) _ = _; rw [lv_osw hs2 (by decide), lv_osw hs3 (by decide)]; rfl) (tgt := 56) (by decide) ?_
    refine gg_aload_n C dX8_toldOfPlace_56 rfl 0 rfl ?_
    refine gf_X8_10 C 0 rfl rfl dX8_toldOfPlace_57 ?_
    refine gf_X8_77 C 1 rfl rfl dX8_toldOfPlace_60 ?_
    refine gg_iload_n C dX8_toldOfPlace_63 rfl 2 rfl ?_
    refine gg_iald C 4 rfl dX8_toldOfPlace_64 ?_
    exact gg_iret C M dX8_toldOfPlace_65 ⟨rfl, rfl⟩
  · refine gg_bipush C dX8_toldOfPlace_7 kB_m2 ?_
    exact gg_iret C M dX8_toldOfPlace_9 ⟨rfl, rfl⟩
def f_X8_toldOfHeir (N_s : Nat → Int32) (N_k : Nat → Int32) (N_h : Nat → Int32) (N_c : Nat → Int32) (v1 : Int32) (v2 : Int32) : Option (Int32) := jn (f_X8_isHeir v2) (fun r1 => if r1 = 0 then some (-2) else if v1 = 1 then gu v2 6 (some (N_s v2.toNatClampNeg)) else (if v1 = 2 then gu v2 6 (some (N_k v2.toNatClampNeg)) else (if v1 = 3 then gu v2 6 (some (N_h v2.toNatClampNeg)) else (gu v2 6 (some (N_c v2.toNatClampNeg))))))
set_option maxHeartbeats 4000000 in
set_option maxRecDepth 100000 in
theorem c_X8_toldOfHeir (l : Launch) (D : va_G) (T : Nat → ClassId) (hc : Nat) (an : Nat → Nat) (ad1 : Nat) (ad2 : Nat) (ad3 : Nat) (ad4 : Nat) (ad5 : Nat) (ad6 : Nat) (ad7 : Nat) (N_b : Nat → Int32) (N_n : Nat → Int32) (N_o : Nat → Int32) (N_s : Nat → Int32) (N_k : Nat → Int32) (N_h : Nat → Int32) (N_c : Nat → Int32) (N_m : Int32) (v1 : Int32) (v2 : Int32) (r : Int32) (h : f_X8_toldOfHeir N_s N_k N_h N_c v1 v2 = some r) : Kt l D T yX8_toldOfHeir cX8_toldOfHeir 3 (some .int) (1, 0, 0, 20) [.ref hc, .int v1, .int v2] (wC hc (an 0) ad1 ad2 ad3 ad4 ad5 ad6 ad7 ++ (wG T an N_b N_n N_o N_s N_k N_h N_c N_m)) (FF (fun (r : Int32) => some (.int r)) (fun r => wC hc (an 0) ad1 ad2 ad3 ad4 ad5 ad6 ad7 ++ (wG T an N_b N_n N_o N_s N_k N_h N_c N_m)) r) := by
  refine kt_of (own := RX8) (nm := "toldOfHeir") (lv := [(0, .ref hc), (1, .int v1), (2, .int v2)]) (by decide) rfl rfl rfl (Nat.le_of_ble_eq_true rfl) h (fun X hn C M => ?_)
  have hnn : ((0, 0) : Nat × Nat).1 ≤ 0 ∧ ((0, 0) : Nat × Nat).2 ≤ 0 := ⟨Nat.le_refl 0, Nat.le_refl 0⟩
  unfold f_X8_toldOfHeir
  refine gg_iload_n C dX8_toldOfHeir_0 rfl 2 rfl ?_
  refine gg_callS C (fun l r h => c_X8_isHeir l D T v2 r h) lk_X8_60 ⟨by decide, by decide⟩ hnn rfl (rest := []) rfl (Nat.le_of_ble_eq_true rfl) dX8_toldOfHeir_1 cut_none (st2 := fun r1 => [.int r1]) (fun _ => rfl) (fun r1 => ?_)
  refine gg_if_ne C dX8_toldOfHeir_4 (tgt := 10) (by decide) (fun _ => ?_) (fun _ => ?_)
  · refine gg_iload_n C dX8_toldOfHeir_10 rfl 1 rfl ?_
    refine gg_ite (fun hs2 => ?_) (fun hs2 => ?_)
    · refine gg_tabIn C 1 dX8_toldOfHeir_11 (by rw [hs2]; decide) (by decide) (by decide) (off := 25) (by decide) (tgt := 36) (by decide) ?_
      refine gg_aload_n C dX8_toldOfHeir_36 rfl 0 rfl ?_
      refine gf_X8_10 C 0 rfl rfl dX8_toldOfHeir_37 ?_
      refine gf_X8_80 C 1 rfl rfl dX8_toldOfHeir_40 ?_
      refine gg_iload_n C dX8_toldOfHeir_43 rfl 2 rfl ?_
      refine gg_iald C 5 rfl dX8_toldOfHeir_44 ?_
      exact gg_iret C M dX8_toldOfHeir_45 ⟨rfl, rfl⟩
    refine gg_ite (fun hs3 => ?_) (fun hs3 => ?_)
    · refine gg_tabIn C 2 dX8_toldOfHeir_11 (by rw [hs3]; decide) (by decide) (by decide) (off := 35) (by decide) (tgt := 46) (by decide) ?_
      refine gg_aload_n C dX8_toldOfHeir_46 rfl 0 rfl ?_
      refine gf_X8_10 C 0 rfl rfl dX8_toldOfHeir_47 ?_
      refine gf_X8_83 C 1 rfl rfl dX8_toldOfHeir_50 ?_
      refine gg_iload_n C dX8_toldOfHeir_53 rfl 2 rfl ?_
      refine gg_iald C 6 rfl dX8_toldOfHeir_54 ?_
      exact gg_iret C M dX8_toldOfHeir_55 ⟨rfl, rfl⟩
    refine gg_ite (fun hs4 => ?_) (fun hs4 => ?_)
    · refine gg_tabIn C 3 dX8_toldOfHeir_11 (by rw [hs4]; decide) (by decide) (by decide) (off := 45) (by decide) (tgt := 56) (by decide) ?_
      refine gg_aload_n C dX8_toldOfHeir_56 rfl 0 rfl ?_
      refine gf_X8_10 C 0 rfl rfl dX8_toldOfHeir_57 ?_
      refine gf_X8_86 C 1 rfl rfl dX8_toldOfHeir_60 ?_
      refine gg_iload_n C dX8_toldOfHeir_63 rfl 2 rfl ?_
      refine gg_iald C 7 rfl dX8_toldOfHeir_64 ?_
      exact gg_iret C M dX8_toldOfHeir_65 ⟨rfl, rfl⟩
    refine gg_tabOut C dX8_toldOfHeir_11 (by have q1 := lv_neT hs2 (a := 1) (by decide); have q2 := lv_neT hs3 (a := 2) (by decide); have q3 := lv_neT hs4 (a := 3) (by decide); omega) (tgt := 66) (by decide) ?_
    refine gg_aload_n C dX8_toldOfHeir_66 rfl 0 rfl ?_
    refine gf_X8_10 C 0 rfl rfl dX8_toldOfHeir_67 ?_
    refine gf_X8_89 C 1 rfl rfl dX8_toldOfHeir_70 ?_
    refine gg_iload_n C dX8_toldOfHeir_73 rfl 2 rfl ?_
    refine gg_iald C 8 rfl dX8_toldOfHeir_74 ?_
    exact gg_iret C M dX8_toldOfHeir_75 ⟨rfl, rfl⟩
  · refine gg_bipush C dX8_toldOfHeir_7 kB_m2 ?_
    exact gg_iret C M dX8_toldOfHeir_9 ⟨rfl, rfl⟩
def f_X8_followText (N_b : Nat → Int32) (N_n : Nat → Int32) (N_o : Nat → Int32) (N_s : Nat → Int32) (N_k : Nat → Int32) (N_h : Nat → Int32) (N_c : Nat → Int32) (N_m : Int32) (P_s : Nat → Int32) (P_n : Int32) (T_ac : Int32) (T_ba : Int32) (T_bw : Int32) (T_he : Int32) (T_wa : Int32) (T_wh : Int32) (gal_b : Nat → Int32) (gal_n : Nat → Int32) (gal_o : Nat → Int32) (gal_s : Nat → Int32) (gal_k : Nat → Int32) (gal_h : Nat → Int32) (gal_c : Nat → Int32) (gal_m : Int32) : Option (Int32 × Int32 × Int32 × Int32 × Int32 × Int32 × Int32 × (Nat → Int32) × (Nat → Int32) × (Nat → Int32) × (Nat → Int32) × (Nat → Int32) × (Nat → Int32) × (Nat → Int32) × Int32) := jn (f_X2_flaw P_s P_n) (fun r1 => if r1 = (-6) then jn (f_X7_follow gal_b gal_n gal_o gal_s gal_k gal_h gal_c N_b N_n N_o N_s N_k N_h N_c N_m P_s P_n) (fun r2 => if r2.2.1 = (-6) then some (0, r2.1, r2.2.1, r2.2.2.1, r2.2.2.2.1, r2.2.2.2.2.1, r2.2.2.2.2.2.1, r2.2.2.2.2.2.2.1, r2.2.2.2.2.2.2.2.1, r2.2.2.2.2.2.2.2.2.1, r2.2.2.2.2.2.2.2.2.2.1, r2.2.2.2.2.2.2.2.2.2.2.1, r2.2.2.2.2.2.2.2.2.2.2.2.1, r2.2.2.2.2.2.2.2.2.2.2.2.2.1, r2.2.2.2.2.2.2.2.2.2.2.2.2.2) else some ((-3), r2.1, r2.2.1, r2.2.2.1, r2.2.2.2.1, r2.2.2.2.2.1, r2.2.2.2.2.2.1, r2.2.2.2.2.2.2.1, r2.2.2.2.2.2.2.2.1, r2.2.2.2.2.2.2.2.2.1, r2.2.2.2.2.2.2.2.2.2.1, r2.2.2.2.2.2.2.2.2.2.2.1, r2.2.2.2.2.2.2.2.2.2.2.2.1, r2.2.2.2.2.2.2.2.2.2.2.2.2.1, r2.2.2.2.2.2.2.2.2.2.2.2.2.2)) else some ((-5), T_ac, T_ba, T_bw, T_he, T_wa, T_wh, gal_b, gal_n, gal_o, gal_s, gal_k, gal_h, gal_c, gal_m))
set_option maxHeartbeats 4000000 in
set_option maxRecDepth 100000 in
theorem c_X8_followText (l : Launch) (D : va_G) (T : Nat → ClassId) (hc : Nat) (an : Nat → Nat) (ap : Nat → Nat) (atr : Nat) (ag : Nat → Nat) (ad1 : Nat) (ad4 : Nat) (ad5 : Nat) (ad6 : Nat) (ad7 : Nat) (N_b : Nat → Int32) (N_n : Nat → Int32) (N_o : Nat → Int32) (N_s : Nat → Int32) (N_k : Nat → Int32) (N_h : Nat → Int32) (N_c : Nat → Int32) (N_m : Int32) (P_s : Nat → Int32) (P_n : Int32) (T_ac : Int32) (T_ba : Int32) (T_bw : Int32) (T_he : Int32) (T_wa : Int32) (T_wh : Int32) (gal_b : Nat → Int32) (gal_n : Nat → Int32) (gal_o : Nat → Int32) (gal_s : Nat → Int32) (gal_k : Nat → Int32) (gal_h : Nat → Int32) (gal_c : Nat → Int32) (gal_m : Int32) (r : Int32 × Int32 × Int32 × Int32 × Int32 × Int32 × Int32 × (Nat → Int32) × (Nat → Int32) × (Nat → Int32) × (Nat → Int32) × (Nat → Int32) × (Nat → Int32) × (Nat → Int32) × Int32) (h : f_X8_followText N_b N_n N_o N_s N_k N_h N_c N_m P_s P_n T_ac T_ba T_bw T_he T_wa T_wh gal_b gal_n gal_o gal_s gal_k gal_h gal_c gal_m = some r) : Kt l D T yX8_followText cX8_followText 1 (some .int) (6, 0, 0, 137) [.ref hc] (wC hc (an 0) ad1 (ap 0) atr ad4 ad5 ad6 ad7 ++ (wG T an N_b N_n N_o N_s N_k N_h N_c N_m ++ (wP T ap P_s P_n ++ (wT atr (ag 0) T_ac T_ba T_bw T_he T_wa T_wh ++ (wG T ag gal_b gal_n gal_o gal_s gal_k gal_h gal_c gal_m))))) (FF (fun (r : Int32 × Int32 × Int32 × Int32 × Int32 × Int32 × Int32 × (Nat → Int32) × (Nat → Int32) × (Nat → Int32) × (Nat → Int32) × (Nat → Int32) × (Nat → Int32) × (Nat → Int32) × Int32) => some (.int r.1)) (fun r => wC hc (an 0) ad1 (ap 0) atr ad4 ad5 ad6 ad7 ++ (wG T an N_b N_n N_o N_s N_k N_h N_c N_m ++ (wP T ap P_s P_n ++ (wT atr (ag 0) r.2.1 r.2.2.1 r.2.2.2.1 r.2.2.2.2.1 r.2.2.2.2.2.1 r.2.2.2.2.2.2.1 ++ (wG T ag r.2.2.2.2.2.2.2.1 r.2.2.2.2.2.2.2.2.1 r.2.2.2.2.2.2.2.2.2.1 r.2.2.2.2.2.2.2.2.2.2.1 r.2.2.2.2.2.2.2.2.2.2.2.1 r.2.2.2.2.2.2.2.2.2.2.2.2.1 r.2.2.2.2.2.2.2.2.2.2.2.2.2.1 r.2.2.2.2.2.2.2.2.2.2.2.2.2.2))))) r) := by
  refine kt_of (own := RX8) (nm := "followText") (lv := [(0, .ref hc)]) (by decide) rfl rfl rfl (Nat.le_of_ble_eq_true rfl) h (fun X hn C M => ?_)
  have hnn : ((0, 0) : Nat × Nat).1 ≤ 0 ∧ ((0, 0) : Nat × Nat).2 ≤ 0 := ⟨Nat.le_refl 0, Nat.le_refl 0⟩
  unfold f_X8_followText
  refine gg_aload_n C dX8_followText_0 rfl 0 rfl ?_
  refine gf_X8_26 C 0 rfl rfl dX8_followText_1 ?_
  refine gg_callV C (fun l r h => c_X2_flaw l D T ap P_s P_n r h) lk_X8_100 ⟨by decide, by decide⟩ hnn rfl (rest := []) rfl (Nat.le_of_ble_eq_true rfl) 9 rfl rfl dX8_followText_4 (ws2 := fun r1 => wC hc (an 0) ad1 (ap 0) atr ad4 ad5 ad6 ad7 ++ (wG T an N_b N_n N_o N_s N_k N_h N_c N_m ++ (wP T ap P_s P_n ++ (wT atr (ag 0) T_ac T_ba T_bw T_he T_wa T_wh ++ (wG T ag gal_b gal_n gal_o gal_s gal_k gal_h gal_c gal_m))))) (cut_part 20 [9, 10] [0, 1, 2, 3, 4, 5, 6, 7, 8, 11, 12, 13, 14, 15, 16, 17, 18, 19] rfl (by decide) rfl (fun _ => rfl) (fun _ => rfl) (fun _ => rfl)) (st2 := fun r1 => [.int r1]) (fun _ => rfl) (fun r1 => ?_)
  refine gg_bipush C dX8_followText_7 kB_m6 ?_
  refine gg_icmp_eq C dX8_followText_9 (tgt := 15) (by decide) (fun _ => ?_) (fun _ => ?_)
  · refine gg_aload_n C dX8_followText_15 rfl 0 rfl ?_
    refine gf_X8_33 C 0 rfl rfl dX8_followText_16 ?_
    refine gg_aload_n C dX8_followText_19 rfl 0 rfl ?_
    refine gf_X8_10 C 0 rfl rfl dX8_followText_20 ?_
    refine gg_aload_n C dX8_followText_23 rfl 0 rfl ?_
    refine gf_X8_26 C 0 rfl rfl dX8_followText_24 ?_
    refine gg_callV C (fun l r h => c_X7_follow l D T atr ag an ap T_ac T_ba T_bw T_he T_wa T_wh gal_b gal_n gal_o gal_s gal_k gal_h gal_c gal_m N_b N_n N_o N_s N_k N_h N_c N_m P_s P_n r h) lk_X8_235 ⟨by decide, by decide⟩ hnn rfl (rest := []) rfl (Nat.le_of_ble_eq_true rfl) 11 rfl rfl dX8_followText_27 (ws2 := fun r2 => wC hc (an 0) ad1 (ap 0) atr ad4 ad5 ad6 ad7 ++ (wG T an N_b N_n N_o N_s N_k N_h N_c N_m ++ (wP T ap P_s P_n ++ (wT atr (ag 0) r2.1 r2.2.1 r2.2.2.1 r2.2.2.2.1 r2.2.2.2.2.1 r2.2.2.2.2.2.1 ++ (wG T ag r2.2.2.2.2.2.2.1 r2.2.2.2.2.2.2.2.1 r2.2.2.2.2.2.2.2.2.1 r2.2.2.2.2.2.2.2.2.2.1 r2.2.2.2.2.2.2.2.2.2.2.1 r2.2.2.2.2.2.2.2.2.2.2.2.1 r2.2.2.2.2.2.2.2.2.2.2.2.2.1 r2.2.2.2.2.2.2.2.2.2.2.2.2.2))))) (cut_part 20 [11, 12, 13, 14, 15, 16, 17, 18, 19, 1, 2, 3, 4, 5, 6, 7, 8, 9, 10] [0] rfl (by decide) rfl (fun _ => rfl) (fun _ => rfl) (fun _ => rfl)) (st2 := fun r2 => []) (fun _ => rfl) (fun r2 => ?_)
    refine gg_aload_n C dX8_followText_30 rfl 0 rfl ?_
    refine gf_X8_33 C 0 rfl rfl dX8_followText_31 ?_
    refine gf_X8_106 C 11 rfl rfl dX8_followText_34 ?_
    refine gg_bipush C dX8_followText_37 kB_m6 ?_
    refine gg_icmp_ne C dX8_followText_39 (tgt := 46) (by decide) (fun _ => ?_) (fun _ => ?_)
    · refine gg_bipush C dX8_followText_46 kB_m3 ?_
      exact gg_iret C M dX8_followText_48 ⟨rfl, rfl⟩
    · refine gg_iconst C dX8_followText_42 kI_0 ?_
      refine gg_goto C dX8_followText_43 (tgt := 48) (by decide) ?_
      exact gg_iret C M dX8_followText_48 ⟨rfl, rfl⟩
  · refine gg_bipush C dX8_followText_12 kB_m5 ?_
    exact gg_iret C M dX8_followText_14 ⟨rfl, rfl⟩
def f_X8_cradle (N_b : Nat → Int32) (N_n : Nat → Int32) (N_o : Nat → Int32) (v1 : Int32) (v2 : Int32) (v3 : Int32) (v4 : Int32) : Option (Int32 × (Nat → Int32) × (Nat → Int32) × (Nat → Int32)) := jn (f_X8_isPlace v1) (fun r1 => if r1 = 0 then some ((-1), N_b, N_n, N_o) else if v4 = (-1) then jn (f_X8_isBeat v2) (fun r2 => if r2 = 0 then some ((-2), N_b, N_n, N_o) else jn (f_X8_isWithin v3 0 1) (fun r3 => if r3 = 0 then some ((-2), N_b, N_n, N_o) else gu v1 40 (bi (N_b v1.toNatClampNeg) (fun x4 => gu v1 40 (gu v1 40 (if v4 = (-1) then gu v1 40 (some (x4, upd N_b v1.toNatClampNeg v2, upd N_n v1.toNatClampNeg v3, upd N_o v1.toNatClampNeg (-6))) else gu v1 40 (some (x4, upd N_b v1.toNatClampNeg v2, upd N_n v1.toNatClampNeg v3, upd N_o v1.toNatClampNeg v4)))))))) else jn (f_X8_isHeir v4) (fun r5 => if r5 = 0 then some ((-1), N_b, N_n, N_o) else jn (f_X8_isBeat v2) (fun r6 => if r6 = 0 then some ((-2), N_b, N_n, N_o) else jn (f_X8_isWithin v3 0 1) (fun r7 => if r7 = 0 then some ((-2), N_b, N_n, N_o) else gu v1 40 (bi (N_b v1.toNatClampNeg) (fun x8 => gu v1 40 (gu v1 40 (if v4 = (-1) then gu v1 40 (some (x8, upd N_b v1.toNatClampNeg v2, upd N_n v1.toNatClampNeg v3, upd N_o v1.toNatClampNeg (-6))) else gu v1 40 (some (x8, upd N_b v1.toNatClampNeg v2, upd N_n v1.toNatClampNeg v3, upd N_o v1.toNatClampNeg v4))))))))))
set_option maxHeartbeats 4000000 in
set_option maxRecDepth 100000 in
theorem c_X8_cradle (l : Launch) (D : va_G) (T : Nat → ClassId) (hc : Nat) (an : Nat → Nat) (ad1 : Nat) (ad2 : Nat) (ad3 : Nat) (ad4 : Nat) (ad5 : Nat) (ad6 : Nat) (ad7 : Nat) (N_b : Nat → Int32) (N_n : Nat → Int32) (N_o : Nat → Int32) (N_s : Nat → Int32) (N_k : Nat → Int32) (N_h : Nat → Int32) (N_c : Nat → Int32) (N_m : Int32) (v1 : Int32) (v2 : Int32) (v3 : Int32) (v4 : Int32) (r : Int32 × (Nat → Int32) × (Nat → Int32) × (Nat → Int32)) (h : f_X8_cradle N_b N_n N_o v1 v2 v3 v4 = some r) : Kt l D T yX8_cradle cX8_cradle 6 (some .int) (2, 0, 0, 42) [.ref hc, .int v1, .int v2, .int v3, .int v4] (wC hc (an 0) ad1 ad2 ad3 ad4 ad5 ad6 ad7 ++ (wG T an N_b N_n N_o N_s N_k N_h N_c N_m)) (FF (fun (r : Int32 × (Nat → Int32) × (Nat → Int32) × (Nat → Int32)) => some (.int r.1)) (fun r => wC hc (an 0) ad1 ad2 ad3 ad4 ad5 ad6 ad7 ++ (wG T an r.2.1 r.2.2.1 r.2.2.2 N_s N_k N_h N_c N_m)) r) := by
  refine kt_of (own := RX8) (nm := "cradle") (lv := [(0, .ref hc), (1, .int v1), (2, .int v2), (3, .int v3), (4, .int v4)]) (by decide) rfl rfl rfl (Nat.le_of_ble_eq_true rfl) h (fun X hn C M => ?_)
  have hnn : ((0, 0) : Nat × Nat).1 ≤ 0 ∧ ((0, 0) : Nat × Nat).2 ≤ 0 := ⟨Nat.le_refl 0, Nat.le_refl 0⟩
  unfold f_X8_cradle
  refine gg_iload_n C dX8_cradle_0 rfl 1 rfl ?_
  refine gg_callS C (fun l r h => c_X8_isPlace l D T v1 r h) lk_X8_56 ⟨by decide, by decide⟩ hnn rfl (rest := []) rfl (Nat.le_of_ble_eq_true rfl) dX8_cradle_1 cut_none (st2 := fun r1 => [.int r1]) (fun _ => rfl) (fun r1 => ?_)
  refine gg_if_eq C dX8_cradle_4 (tgt := 21) (by decide) (fun _ => ?_) (fun _ => ?_)
  · refine gg_iconst C dX8_cradle_21 kI_m1 ?_
    exact gg_iret C M dX8_cradle_22 ⟨rfl, rfl⟩
  · refine gg_iload C dX8_cradle_7 4 rfl ?_
    refine gg_iconst C dX8_cradle_9 kI_m1 ?_
    refine gg_icmp_eq C dX8_cradle_10 (tgt := 23) (by decide) (fun _ => ?_) (fun _ => ?_)
    · refine gg_iload_n C dX8_cradle_23 rfl 2 rfl ?_
      refine gg_callS C (fun l r h => c_X8_isBeat l D T v2 r h) lk_X8_63 ⟨by decide, by decide⟩ hnn rfl (rest := []) rfl (Nat.le_of_ble_eq_true rfl) dX8_cradle_24 cut_none (st2 := fun r2 => [.int r2]) (fun _ => rfl) (fun r2 => ?_)
      refine gg_if_eq C dX8_cradle_27 (tgt := 39) (by decide) (fun _ => ?_) (fun _ => ?_)
      · refine gg_bipush C dX8_cradle_39 kB_m2 ?_
        exact gg_iret C M dX8_cradle_41 ⟨rfl, rfl⟩
      · refine gg_iload_n C dX8_cradle_30 rfl 3 rfl ?_
        refine gg_iconst C dX8_cradle_31 kI_0 ?_
        refine gg_iconst C dX8_cradle_32 kI_1 ?_
        refine gg_callS C (fun l r h => c_X8_isWithin l D T v3 0 1 r h) lk_X8_66 ⟨by decide, by decide⟩ hnn rfl (rest := []) rfl (Nat.le_of_ble_eq_true rfl) dX8_cradle_33 cut_none (st2 := fun r3 => [.int r3]) (fun _ => rfl) (fun r3 => ?_)
        refine gg_if_ne C dX8_cradle_36 (tgt := 42) (by decide) (fun _ => ?_) (fun _ => ?_)
        · refine gg_aload_n C dX8_cradle_42 rfl 0 rfl ?_
          refine gf_X8_10 C 0 rfl rfl dX8_cradle_43 ?_
          refine gf_X8_70 C 1 rfl rfl dX8_cradle_46 ?_
          refine gg_iload_n C dX8_cradle_49 rfl 1 rfl ?_
          refine gg_iald C 2 rfl dX8_cradle_50 ?_
          refine gg_bi (fun x4 => ?_)
          refine gg_istore C dX8_cradle_51 hn (by decide) (lv' := [(5, .int x4), (0, .ref hc), (1, .int v1), (2, .int v2), (3, .int v3), (4, .int v4)]) rfl ?_
          refine gg_aload_n C dX8_cradle_53 rfl 1 rfl ?_
          refine gf_X8_10 C 0 rfl rfl dX8_cradle_54 ?_
          refine gf_X8_70 C 1 rfl rfl dX8_cradle_57 ?_
          refine gg_iload_n C dX8_cradle_60 rfl 2 rfl ?_
          refine gg_iload_n C dX8_cradle_61 rfl 3 rfl ?_
          refine gg_iast C 2 rfl dX8_cradle_62 (ws' := wC hc (an 0) ad1 ad2 ad3 ad4 ad5 ad6 ad7 ++ (wG T an (upd N_b v1.toNatClampNeg v2) N_n N_o N_s N_k N_h N_c N_m)) rfl ?_
          refine gg_aload_n C dX8_cradle_63 rfl 1 rfl ?_
          refine gf_X8_10 C 0 rfl rfl dX8_cradle_64 ?_
          refine gf_X8_74 C 1 rfl rfl dX8_cradle_67 ?_
          refine gg_iload_n C dX8_cradle_70 rfl 2 rfl ?_
          refine gg_iload_n C dX8_cradle_71 rfl 4 rfl ?_
          refine gg_iast C 3 rfl dX8_cradle_72 (ws' := wC hc (an 0) ad1 ad2 ad3 ad4 ad5 ad6 ad7 ++ (wG T an (upd N_b v1.toNatClampNeg v2) (upd N_n v1.toNatClampNeg v3) N_o N_s N_k N_h N_c N_m)) rfl ?_
          refine gg_aload_n C dX8_cradle_73 rfl 1 rfl ?_
          refine gf_X8_10 C 0 rfl rfl dX8_cradle_74 ?_
          refine gf_X8_77 C 1 rfl rfl dX8_cradle_77 ?_
          refine gg_iload_n C dX8_cradle_80 rfl 2 rfl ?_
          refine gg_iload C dX8_cradle_81 5 rfl ?_
          refine gg_iconst C dX8_cradle_83 kI_m1 ?_
          refine gg_icmp_ne C dX8_cradle_84 (tgt := 92) (by decide) (fun _ => ?_) (fun _ => ?_)
          · refine gg_iload C dX8_cradle_92 5 rfl ?_
            refine gg_iast C 4 rfl dX8_cradle_94 (ws' := wC hc (an 0) ad1 ad2 ad3 ad4 ad5 ad6 ad7 ++ (wG T an (upd N_b v1.toNatClampNeg v2) (upd N_n v1.toNatClampNeg v3) (upd N_o v1.toNatClampNeg v4) N_s N_k N_h N_c N_m)) rfl ?_
            refine gg_iload C dX8_cradle_95 0 rfl ?_
            exact gg_iret C M dX8_cradle_97 ⟨rfl, rfl⟩
          · refine gg_bipush C dX8_cradle_87 kB_m6 ?_
            refine gg_goto C dX8_cradle_89 (tgt := 94) (by decide) ?_
            refine gg_iast C 4 rfl dX8_cradle_94 (ws' := wC hc (an 0) ad1 ad2 ad3 ad4 ad5 ad6 ad7 ++ (wG T an (upd N_b v1.toNatClampNeg v2) (upd N_n v1.toNatClampNeg v3) (upd N_o v1.toNatClampNeg (-6)) N_s N_k N_h N_c N_m)) rfl ?_
            refine gg_iload C dX8_cradle_95 0 rfl ?_
            exact gg_iret C M dX8_cradle_97 ⟨rfl, rfl⟩
        · refine gg_bipush C dX8_cradle_39 kB_m2 ?_
          exact gg_iret C M dX8_cradle_41 ⟨rfl, rfl⟩
    · refine gg_iload C dX8_cradle_13 4 rfl ?_
      refine gg_callS C (fun l r h => c_X8_isHeir l D T v4 r h) lk_X8_60 ⟨by decide, by decide⟩ hnn rfl (rest := []) rfl (Nat.le_of_ble_eq_true rfl) dX8_cradle_15 cut_none (st2 := fun r5 => [.int r5]) (fun _ => rfl) (fun r5 => ?_)
      refine gg_if_ne C dX8_cradle_18 (tgt := 23) (by decide) (fun _ => ?_) (fun _ => ?_)
      · refine gg_iload_n C dX8_cradle_23 rfl 2 rfl ?_
        refine gg_callS C (fun l r h => c_X8_isBeat l D T v2 r h) lk_X8_63 ⟨by decide, by decide⟩ hnn rfl (rest := []) rfl (Nat.le_of_ble_eq_true rfl) dX8_cradle_24 cut_none (st2 := fun r6 => [.int r6]) (fun _ => rfl) (fun r6 => ?_)
        refine gg_if_eq C dX8_cradle_27 (tgt := 39) (by decide) (fun _ => ?_) (fun _ => ?_)
        · refine gg_bipush C dX8_cradle_39 kB_m2 ?_
          exact gg_iret C M dX8_cradle_41 ⟨rfl, rfl⟩
        · refine gg_iload_n C dX8_cradle_30 rfl 3 rfl ?_
          refine gg_iconst C dX8_cradle_31 kI_0 ?_
          refine gg_iconst C dX8_cradle_32 kI_1 ?_
          refine gg_callS C (fun l r h => c_X8_isWithin l D T v3 0 1 r h) lk_X8_66 ⟨by decide, by decide⟩ hnn rfl (rest := []) rfl (Nat.le_of_ble_eq_true rfl) dX8_cradle_33 cut_none (st2 := fun r7 => [.int r7]) (fun _ => rfl) (fun r7 => ?_)
          refine gg_if_ne C dX8_cradle_36 (tgt := 42) (by decide) (fun _ => ?_) (fun _ => ?_)
          · refine gg_aload_n C dX8_cradle_42 rfl 0 rfl ?_
            refine gf_X8_10 C 0 rfl rfl dX8_cradle_43 ?_
            refine gf_X8_70 C 1 rfl rfl dX8_cradle_46 ?_
            refine gg_iload_n C dX8_cradle_49 rfl 1 rfl ?_
            refine gg_iald C 2 rfl dX8_cradle_50 ?_
            refine gg_bi (fun x8 => ?_)
            refine gg_istore C dX8_cradle_51 hn (by decide) (lv' := [(5, .int x8), (0, .ref hc), (1, .int v1), (2, .int v2), (3, .int v3), (4, .int v4)]) rfl ?_
            refine gg_aload_n C dX8_cradle_53 rfl 1 rfl ?_
            refine gf_X8_10 C 0 rfl rfl dX8_cradle_54 ?_
            refine gf_X8_70 C 1 rfl rfl dX8_cradle_57 ?_
            refine gg_iload_n C dX8_cradle_60 rfl 2 rfl ?_
            refine gg_iload_n C dX8_cradle_61 rfl 3 rfl ?_
            refine gg_iast C 2 rfl dX8_cradle_62 (ws' := wC hc (an 0) ad1 ad2 ad3 ad4 ad5 ad6 ad7 ++ (wG T an (upd N_b v1.toNatClampNeg v2) N_n N_o N_s N_k N_h N_c N_m)) rfl ?_
            refine gg_aload_n C dX8_cradle_63 rfl 1 rfl ?_
            refine gf_X8_10 C 0 rfl rfl dX8_cradle_64 ?_
            refine gf_X8_74 C 1 rfl rfl dX8_cradle_67 ?_
            refine gg_iload_n C dX8_cradle_70 rfl 2 rfl ?_
            refine gg_iload_n C dX8_cradle_71 rfl 4 rfl ?_
            refine gg_iast C 3 rfl dX8_cradle_72 (ws' := wC hc (an 0) ad1 ad2 ad3 ad4 ad5 ad6 ad7 ++ (wG T an (upd N_b v1.toNatClampNeg v2) (upd N_n v1.toNatClampNeg v3) N_o N_s N_k N_h N_c N_m)) rfl ?_
            refine gg_aload_n C dX8_cradle_73 rfl 1 rfl ?_
            refine gf_X8_10 C 0 rfl rfl dX8_cradle_74 ?_
            refine gf_X8_77 C 1 rfl rfl dX8_cradle_77 ?_
            refine gg_iload_n C dX8_cradle_80 rfl 2 rfl ?_
            refine gg_iload C dX8_cradle_81 5 rfl ?_
            refine gg_iconst C dX8_cradle_83 kI_m1 ?_
            refine gg_icmp_ne C dX8_cradle_84 (tgt := 92) (by decide) (fun _ => ?_) (fun _ => ?_)
            · refine gg_iload C dX8_cradle_92 5 rfl ?_
              refine gg_iast C 4 rfl dX8_cradle_94 (ws' := wC hc (an 0) ad1 ad2 ad3 ad4 ad5 ad6 ad7 ++ (wG T an (upd N_b v1.toNatClampNeg v2) (upd N_n v1.toNatClampNeg v3) (upd N_o v1.toNatClampNeg v4) N_s N_k N_h N_c N_m)) rfl ?_
              refine gg_iload C dX8_cradle_95 0 rfl ?_
              exact gg_iret C M dX8_cradle_97 ⟨rfl, rfl⟩
            · refine gg_bipush C dX8_cradle_87 kB_m6 ?_
              refine gg_goto C dX8_cradle_89 (tgt := 94) (by decide) ?_
              refine gg_iast C 4 rfl dX8_cradle_94 (ws' := wC hc (an 0) ad1 ad2 ad3 ad4 ad5 ad6 ad7 ++ (wG T an (upd N_b v1.toNatClampNeg v2) (upd N_n v1.toNatClampNeg v3) (upd N_o v1.toNatClampNeg (-6)) N_s N_k N_h N_c N_m)) rfl ?_
              refine gg_iload C dX8_cradle_95 0 rfl ?_
              exact gg_iret C M dX8_cradle_97 ⟨rfl, rfl⟩
          · refine gg_bipush C dX8_cradle_39 kB_m2 ?_
            exact gg_iret C M dX8_cradle_41 ⟨rfl, rfl⟩
      · refine gg_iconst C dX8_cradle_21 kI_m1 ?_
        exact gg_iret C M dX8_cradle_22 ⟨rfl, rfl⟩
def f_X8_heir (N_s : Nat → Int32) (N_k : Nat → Int32) (N_h : Nat → Int32) (N_c : Nat → Int32) (v1 : Int32) (v2 : Int32) (v3 : Int32) : Option (Int32 × (Nat → Int32) × (Nat → Int32) × (Nat → Int32) × (Nat → Int32)) := jn (f_X8_isHeir v1) (fun r1 => if r1 = 0 then some ((-1), N_s, N_k, N_h, N_c) else jn (f_X8_isPlace v2) (fun r2 => if r2 = 0 then some ((-1), N_s, N_k, N_h, N_c) else jn (f_X8_isBeat v3) (fun r3 => if r3 = 0 then some ((-2), N_s, N_k, N_h, N_c) else gu v1 6 (bi (N_s v1.toNatClampNeg) (fun x4 => gu v1 6 (gu v1 6 (gu v1 6 (gu v1 6 (some (x4, upd N_s v1.toNatClampNeg v2, upd N_k v1.toNatClampNeg v3, upd N_h v1.toNatClampNeg 0, upd N_c v1.toNatClampNeg (-6)))))))))))
set_option maxHeartbeats 4000000 in
set_option maxRecDepth 100000 in
theorem c_X8_heir (l : Launch) (D : va_G) (T : Nat → ClassId) (hc : Nat) (an : Nat → Nat) (ad1 : Nat) (ad2 : Nat) (ad3 : Nat) (ad4 : Nat) (ad5 : Nat) (ad6 : Nat) (ad7 : Nat) (N_b : Nat → Int32) (N_n : Nat → Int32) (N_o : Nat → Int32) (N_s : Nat → Int32) (N_k : Nat → Int32) (N_h : Nat → Int32) (N_c : Nat → Int32) (N_m : Int32) (v1 : Int32) (v2 : Int32) (v3 : Int32) (r : Int32 × (Nat → Int32) × (Nat → Int32) × (Nat → Int32) × (Nat → Int32)) (h : f_X8_heir N_s N_k N_h N_c v1 v2 v3 = some r) : Kt l D T yX8_heir cX8_heir 5 (some .int) (2, 0, 0, 42) [.ref hc, .int v1, .int v2, .int v3] (wC hc (an 0) ad1 ad2 ad3 ad4 ad5 ad6 ad7 ++ (wG T an N_b N_n N_o N_s N_k N_h N_c N_m)) (FF (fun (r : Int32 × (Nat → Int32) × (Nat → Int32) × (Nat → Int32) × (Nat → Int32)) => some (.int r.1)) (fun r => wC hc (an 0) ad1 ad2 ad3 ad4 ad5 ad6 ad7 ++ (wG T an N_b N_n N_o r.2.1 r.2.2.1 r.2.2.2.1 r.2.2.2.2 N_m)) r) := by
  refine kt_of (own := RX8) (nm := "heir") (lv := [(0, .ref hc), (1, .int v1), (2, .int v2), (3, .int v3)]) (by decide) rfl rfl rfl (Nat.le_of_ble_eq_true rfl) h (fun X hn C M => ?_)
  have hnn : ((0, 0) : Nat × Nat).1 ≤ 0 ∧ ((0, 0) : Nat × Nat).2 ≤ 0 := ⟨Nat.le_refl 0, Nat.le_refl 0⟩
  unfold f_X8_heir
  refine gg_iload_n C dX8_heir_0 rfl 1 rfl ?_
  refine gg_callS C (fun l r h => c_X8_isHeir l D T v1 r h) lk_X8_60 ⟨by decide, by decide⟩ hnn rfl (rest := []) rfl (Nat.le_of_ble_eq_true rfl) dX8_heir_1 cut_none (st2 := fun r1 => [.int r1]) (fun _ => rfl) (fun r1 => ?_)
  refine gg_if_eq C dX8_heir_4 (tgt := 14) (by decide) (fun _ => ?_) (fun _ => ?_)
  · refine gg_iconst C dX8_heir_14 kI_m1 ?_
    exact gg_iret C M dX8_heir_15 ⟨rfl, rfl⟩
  · refine gg_iload_n C dX8_heir_7 rfl 2 rfl ?_
    refine gg_callS C (fun l r h => c_X8_isPlace l D T v2 r h) lk_X8_56 ⟨by decide, by decide⟩ hnn rfl (rest := []) rfl (Nat.le_of_ble_eq_true rfl) dX8_heir_8 cut_none (st2 := fun r2 => [.int r2]) (fun _ => rfl) (fun r2 => ?_)
    refine gg_if_ne C dX8_heir_11 (tgt := 16) (by decide) (fun _ => ?_) (fun _ => ?_)
    · refine gg_iload_n C dX8_heir_16 rfl 3 rfl ?_
      refine gg_callS C (fun l r h => c_X8_isBeat l D T v3 r h) lk_X8_63 ⟨by decide, by decide⟩ hnn rfl (rest := []) rfl (Nat.le_of_ble_eq_true rfl) dX8_heir_17 cut_none (st2 := fun r3 => [.int r3]) (fun _ => rfl) (fun r3 => ?_)
      refine gg_if_ne C dX8_heir_20 (tgt := 26) (by decide) (fun _ => ?_) (fun _ => ?_)
      · refine gg_aload_n C dX8_heir_26 rfl 0 rfl ?_
        refine gf_X8_10 C 0 rfl rfl dX8_heir_27 ?_
        refine gf_X8_80 C 1 rfl rfl dX8_heir_30 ?_
        refine gg_iload_n C dX8_heir_33 rfl 1 rfl ?_
        refine gg_iald C 5 rfl dX8_heir_34 ?_
        refine gg_bi (fun x4 => ?_)
        refine gg_istore C dX8_heir_35 hn (by decide) (lv' := [(4, .int x4), (0, .ref hc), (1, .int v1), (2, .int v2), (3, .int v3)]) rfl ?_
        refine gg_aload_n C dX8_heir_37 rfl 1 rfl ?_
        refine gf_X8_10 C 0 rfl rfl dX8_heir_38 ?_
        refine gf_X8_80 C 1 rfl rfl dX8_heir_41 ?_
        refine gg_iload_n C dX8_heir_44 rfl 2 rfl ?_
        refine gg_iload_n C dX8_heir_45 rfl 3 rfl ?_
        refine gg_iast C 5 rfl dX8_heir_46 (ws' := wC hc (an 0) ad1 ad2 ad3 ad4 ad5 ad6 ad7 ++ (wG T an N_b N_n N_o (upd N_s v1.toNatClampNeg v2) N_k N_h N_c N_m)) rfl ?_
        refine gg_aload_n C dX8_heir_47 rfl 1 rfl ?_
        refine gf_X8_10 C 0 rfl rfl dX8_heir_48 ?_
        refine gf_X8_83 C 1 rfl rfl dX8_heir_51 ?_
        refine gg_iload_n C dX8_heir_54 rfl 2 rfl ?_
        refine gg_iload_n C dX8_heir_55 rfl 4 rfl ?_
        refine gg_iast C 6 rfl dX8_heir_56 (ws' := wC hc (an 0) ad1 ad2 ad3 ad4 ad5 ad6 ad7 ++ (wG T an N_b N_n N_o (upd N_s v1.toNatClampNeg v2) (upd N_k v1.toNatClampNeg v3) N_h N_c N_m)) rfl ?_
        refine gg_aload_n C dX8_heir_57 rfl 1 rfl ?_
        refine gf_X8_10 C 0 rfl rfl dX8_heir_58 ?_
        refine gf_X8_86 C 1 rfl rfl dX8_heir_61 ?_
        refine gg_iload_n C dX8_heir_64 rfl 2 rfl ?_
        refine gg_iconst C dX8_heir_65 kI_0 ?_
        refine gg_iast C 7 rfl dX8_heir_66 (ws' := wC hc (an 0) ad1 ad2 ad3 ad4 ad5 ad6 ad7 ++ (wG T an N_b N_n N_o (upd N_s v1.toNatClampNeg v2) (upd N_k v1.toNatClampNeg v3) (upd N_h v1.toNatClampNeg 0) N_c N_m)) rfl ?_
        refine gg_aload_n C dX8_heir_67 rfl 1 rfl ?_
        refine gf_X8_10 C 0 rfl rfl dX8_heir_68 ?_
        refine gf_X8_89 C 1 rfl rfl dX8_heir_71 ?_
        refine gg_iload_n C dX8_heir_74 rfl 2 rfl ?_
        refine gg_bipush C dX8_heir_75 kB_m6 ?_
        refine gg_iast C 8 rfl dX8_heir_77 (ws' := wC hc (an 0) ad1 ad2 ad3 ad4 ad5 ad6 ad7 ++ (wG T an N_b N_n N_o (upd N_s v1.toNatClampNeg v2) (upd N_k v1.toNatClampNeg v3) (upd N_h v1.toNatClampNeg 0) (upd N_c v1.toNatClampNeg (-6)) N_m)) rfl ?_
        refine gg_iload C dX8_heir_78 0 rfl ?_
        exact gg_iret C M dX8_heir_80 ⟨rfl, rfl⟩
      · refine gg_bipush C dX8_heir_23 kB_m2 ?_
        exact gg_iret C M dX8_heir_25 ⟨rfl, rfl⟩
    · refine gg_iconst C dX8_heir_14 kI_m1 ?_
      exact gg_iret C M dX8_heir_15 ⟨rfl, rfl⟩
def f_X8_say (P_s : Nat → Int32) (P_n : Int32) (v1 : Int32) : Option (Int32 × (Nat → Int32) × Int32) := jn (f_X8_isWithin v1 33 126) (fun r1 => if r1 = 0 then some ((-2), P_s, P_n) else jn (f_X2_add P_s P_n v1) (fun r2 => some (r2.1, r2.2.1, r2.2.2)))
set_option maxHeartbeats 4000000 in
set_option maxRecDepth 100000 in
theorem c_X8_say (l : Launch) (D : va_G) (T : Nat → ClassId) (hc : Nat) (ap : Nat → Nat) (ad0 : Nat) (ad1 : Nat) (ad3 : Nat) (ad4 : Nat) (ad5 : Nat) (ad6 : Nat) (ad7 : Nat) (P_s : Nat → Int32) (P_n : Int32) (v1 : Int32) (r : Int32 × (Nat → Int32) × Int32) (h : f_X8_say P_s P_n v1 = some r) : Kt l D T yX8_say cX8_say 2 (some .int) (1, 0, 0, 22) [.ref hc, .int v1] (wC hc ad0 ad1 (ap 0) ad3 ad4 ad5 ad6 ad7 ++ (wP T ap P_s P_n)) (FF (fun (r : Int32 × (Nat → Int32) × Int32) => some (.int r.1)) (fun r => wC hc ad0 ad1 (ap 0) ad3 ad4 ad5 ad6 ad7 ++ (wP T ap r.2.1 r.2.2)) r) := by
  refine kt_of (own := RX8) (nm := "say") (lv := [(0, .ref hc), (1, .int v1)]) (by decide) rfl rfl rfl (Nat.le_of_ble_eq_true rfl) h (fun X hn C M => ?_)
  have hnn : ((0, 0) : Nat × Nat).1 ≤ 0 ∧ ((0, 0) : Nat × Nat).2 ≤ 0 := ⟨Nat.le_refl 0, Nat.le_refl 0⟩
  unfold f_X8_say
  refine gg_iload_n C dX8_say_0 rfl 1 rfl ?_
  refine gg_bipush C dX8_say_1 kB_33 ?_
  refine gg_bipush C dX8_say_3 kB_126 ?_
  refine gg_callS C (fun l r h => c_X8_isWithin l D T v1 33 126 r h) lk_X8_66 ⟨by decide, by decide⟩ hnn rfl (rest := []) rfl (Nat.le_of_ble_eq_true rfl) dX8_say_5 cut_none (st2 := fun r1 => [.int r1]) (fun _ => rfl) (fun r1 => ?_)
  refine gg_if_ne C dX8_say_8 (tgt := 14) (by decide) (fun _ => ?_) (fun _ => ?_)
  · refine gg_aload_n C dX8_say_14 rfl 0 rfl ?_
    refine gf_X8_26 C 0 rfl rfl dX8_say_15 ?_
    refine gg_iload_n C dX8_say_18 rfl 1 rfl ?_
    refine gg_callV C (fun l r h => c_X2_add l D T ap P_s P_n v1 r h) lk_X8_92 ⟨by decide, by decide⟩ hnn rfl (rest := []) rfl (Nat.le_of_ble_eq_true rfl) 1 rfl rfl dX8_say_19 (ws2 := fun r2 => wC hc ad0 ad1 (ap 0) ad3 ad4 ad5 ad6 ad7 ++ (wP T ap r2.2.1 r2.2.2)) (cut_part 3 [1, 2] [0] rfl (by decide) rfl (fun _ => rfl) (fun _ => rfl) (fun _ => rfl)) (st2 := fun r2 => [.int r2.1]) (fun _ => rfl) (fun r2 => ?_)
    exact gg_iret C M dX8_say_22 ⟨rfl, rfl⟩
  · refine gg_bipush C dX8_say_11 kB_m2 ?_
    exact gg_iret C M dX8_say_13 ⟨rfl, rfl⟩
def f_X8_wipe (P_n : Int32) : Option (Int32 × Int32) := jn (f_X2_clear P_n) (fun r1 => some (r1.1, r1.2))
set_option maxHeartbeats 4000000 in
set_option maxRecDepth 100000 in
theorem c_X8_wipe (l : Launch) (D : va_G) (T : Nat → ClassId) (hc : Nat) (ap : Nat → Nat) (ad0 : Nat) (ad1 : Nat) (ad3 : Nat) (ad4 : Nat) (ad5 : Nat) (ad6 : Nat) (ad7 : Nat) (P_s : Nat → Int32) (P_n : Int32) (r : Int32 × Int32) (h : f_X8_wipe P_n = some r) : Kt l D T yX8_wipe cX8_wipe 1 (some .int) (1, 0, 0, 21) [.ref hc] (wC hc ad0 ad1 (ap 0) ad3 ad4 ad5 ad6 ad7 ++ (wP T ap P_s P_n)) (FF (fun (r : Int32 × Int32) => some (.int r.1)) (fun r => wC hc ad0 ad1 (ap 0) ad3 ad4 ad5 ad6 ad7 ++ (wP T ap P_s r.2)) r) := by
  refine kt_of (own := RX8) (nm := "wipe") (lv := [(0, .ref hc)]) (by decide) rfl rfl rfl (Nat.le_of_ble_eq_true rfl) h (fun X hn C M => ?_)
  have hnn : ((0, 0) : Nat × Nat).1 ≤ 0 ∧ ((0, 0) : Nat × Nat).2 ≤ 0 := ⟨Nat.le_refl 0, Nat.le_refl 0⟩
  unfold f_X8_wipe
  refine gg_aload_n C dX8_wipe_0 rfl 0 rfl ?_
  refine gf_X8_26 C 0 rfl rfl dX8_wipe_1 ?_
  refine gg_callV C (fun l r h => c_X2_clear l D T ap P_s P_n r h) lk_X8_96 ⟨by decide, by decide⟩ hnn rfl (rest := []) rfl (Nat.le_of_ble_eq_true rfl) 1 rfl rfl dX8_wipe_4 (ws2 := fun r1 => wC hc ad0 ad1 (ap 0) ad3 ad4 ad5 ad6 ad7 ++ (wP T ap P_s r1.2)) (cut_part 3 [1, 2] [0] rfl (by decide) rfl (fun _ => rfl) (fun _ => rfl) (fun _ => rfl)) (st2 := fun r1 => [.int r1.1]) (fun _ => rfl) (fun r1 => ?_)
  exact gg_iret C M dX8_wipe_7 ⟨rfl, rfl⟩
def f_X8_fault (P_s : Nat → Int32) (P_n : Int32) : Option (Int32) := jn (f_X2_flaw P_s P_n) (fun r1 => some r1)
set_option maxHeartbeats 4000000 in
set_option maxRecDepth 100000 in
theorem c_X8_fault (l : Launch) (D : va_G) (T : Nat → ClassId) (hc : Nat) (ap : Nat → Nat) (ad0 : Nat) (ad1 : Nat) (ad3 : Nat) (ad4 : Nat) (ad5 : Nat) (ad6 : Nat) (ad7 : Nat) (P_s : Nat → Int32) (P_n : Int32) (r : Int32) (h : f_X8_fault P_s P_n = some r) : Kt l D T yX8_fault cX8_fault 1 (some .int) (4, 0, 0, 85) [.ref hc] (wC hc ad0 ad1 (ap 0) ad3 ad4 ad5 ad6 ad7 ++ (wP T ap P_s P_n)) (FF (fun (r : Int32) => some (.int r)) (fun r => wC hc ad0 ad1 (ap 0) ad3 ad4 ad5 ad6 ad7 ++ (wP T ap P_s P_n)) r) := by
  refine kt_of (own := RX8) (nm := "fault") (lv := [(0, .ref hc)]) (by decide) rfl rfl rfl (Nat.le_of_ble_eq_true rfl) h (fun X hn C M => ?_)
  have hnn : ((0, 0) : Nat × Nat).1 ≤ 0 ∧ ((0, 0) : Nat × Nat).2 ≤ 0 := ⟨Nat.le_refl 0, Nat.le_refl 0⟩
  unfold f_X8_fault
  refine gg_aload_n C dX8_fault_0 rfl 0 rfl ?_
  refine gf_X8_26 C 0 rfl rfl dX8_fault_1 ?_
  refine gg_callV C (fun l r h => c_X2_flaw l D T ap P_s P_n r h) lk_X8_100 ⟨by decide, by decide⟩ hnn rfl (rest := []) rfl (Nat.le_of_ble_eq_true rfl) 1 rfl rfl dX8_fault_4 (ws2 := fun r1 => wC hc ad0 ad1 (ap 0) ad3 ad4 ad5 ad6 ad7 ++ (wP T ap P_s P_n)) (cut_part 3 [1, 2] [0] rfl (by decide) rfl (fun _ => rfl) (fun _ => rfl) (fun _ => rfl)) (st2 := fun r1 => [.int r1]) (fun _ => rfl) (fun r1 => ?_)
  exact gg_iret C M dX8_fault_7 ⟨rfl, rfl⟩
def f_X8_judge (N_b : Nat → Int32) (N_n : Nat → Int32) (N_o : Nat → Int32) (N_s : Nat → Int32) (N_k : Nat → Int32) (N_h : Nat → Int32) (N_c : Nat → Int32) (N_m : Int32) (P_s : Nat → Int32) (P_n : Int32) (T_ac : Int32) (T_ba : Int32) (T_bw : Int32) (T_he : Int32) (T_wa : Int32) (T_wh : Int32) (gal_b : Nat → Int32) (gal_n : Nat → Int32) (gal_o : Nat → Int32) (gal_s : Nat → Int32) (gal_k : Nat → Int32) (gal_h : Nat → Int32) (gal_c : Nat → Int32) (gal_m : Int32) (v1 : Int32) : Option (Int32 × Int32 × Int32 × Int32 × Int32 × Int32 × Int32 × (Nat → Int32) × (Nat → Int32) × (Nat → Int32) × (Nat → Int32) × (Nat → Int32) × (Nat → Int32) × (Nat → Int32) × Int32) := jn (f_X8_isWithin v1 0 2) (fun r1 => if r1 = 0 then some ((-2), T_ac, T_ba, T_bw, T_he, T_wa, T_wh, gal_b, gal_n, gal_o, gal_s, gal_k, gal_h, gal_c, gal_m) else jn (f_X8_followText N_b N_n N_o N_s N_k N_h N_c N_m P_s P_n T_ac T_ba T_bw T_he T_wa T_wh gal_b gal_n gal_o gal_s gal_k gal_h gal_c gal_m) (fun r2 => if r2.1 = (-5) then some (r2.1, r2.2.1, r2.2.2.1, r2.2.2.2.1, r2.2.2.2.2.1, r2.2.2.2.2.2.1, r2.2.2.2.2.2.2.1, r2.2.2.2.2.2.2.2.1, r2.2.2.2.2.2.2.2.2.1, r2.2.2.2.2.2.2.2.2.2.1, r2.2.2.2.2.2.2.2.2.2.2.1, r2.2.2.2.2.2.2.2.2.2.2.2.1, r2.2.2.2.2.2.2.2.2.2.2.2.2.1, r2.2.2.2.2.2.2.2.2.2.2.2.2.2.1, r2.2.2.2.2.2.2.2.2.2.2.2.2.2.2) else if r2.1 = (-3) then if v1 = 2 then some (r2.1, r2.2.1, r2.2.2.1, r2.2.2.2.1, r2.2.2.2.2.1, r2.2.2.2.2.2.1, r2.2.2.2.2.2.2.1, r2.2.2.2.2.2.2.2.1, r2.2.2.2.2.2.2.2.2.1, r2.2.2.2.2.2.2.2.2.2.1, r2.2.2.2.2.2.2.2.2.2.2.1, r2.2.2.2.2.2.2.2.2.2.2.2.1, r2.2.2.2.2.2.2.2.2.2.2.2.2.1, r2.2.2.2.2.2.2.2.2.2.2.2.2.2.1, r2.2.2.2.2.2.2.2.2.2.2.2.2.2.2) else if v1 = 0 then some (r2.2.2.1, r2.2.1, r2.2.2.1, r2.2.2.2.1, r2.2.2.2.2.1, r2.2.2.2.2.2.1, r2.2.2.2.2.2.2.1, r2.2.2.2.2.2.2.2.1, r2.2.2.2.2.2.2.2.2.1, r2.2.2.2.2.2.2.2.2.2.1, r2.2.2.2.2.2.2.2.2.2.2.1, r2.2.2.2.2.2.2.2.2.2.2.2.1, r2.2.2.2.2.2.2.2.2.2.2.2.2.1, r2.2.2.2.2.2.2.2.2.2.2.2.2.2.1, r2.2.2.2.2.2.2.2.2.2.2.2.2.2.2) else if v1 = 1 then some (r2.2.2.2.1, r2.2.1, r2.2.2.1, r2.2.2.2.1, r2.2.2.2.2.1, r2.2.2.2.2.2.1, r2.2.2.2.2.2.2.1, r2.2.2.2.2.2.2.2.1, r2.2.2.2.2.2.2.2.2.1, r2.2.2.2.2.2.2.2.2.2.1, r2.2.2.2.2.2.2.2.2.2.2.1, r2.2.2.2.2.2.2.2.2.2.2.2.1, r2.2.2.2.2.2.2.2.2.2.2.2.2.1, r2.2.2.2.2.2.2.2.2.2.2.2.2.2.1, r2.2.2.2.2.2.2.2.2.2.2.2.2.2.2) else some (r2.2.2.2.2.1, r2.2.1, r2.2.2.1, r2.2.2.2.1, r2.2.2.2.2.1, r2.2.2.2.2.2.1, r2.2.2.2.2.2.2.1, r2.2.2.2.2.2.2.2.1, r2.2.2.2.2.2.2.2.2.1, r2.2.2.2.2.2.2.2.2.2.1, r2.2.2.2.2.2.2.2.2.2.2.1, r2.2.2.2.2.2.2.2.2.2.2.2.1, r2.2.2.2.2.2.2.2.2.2.2.2.2.1, r2.2.2.2.2.2.2.2.2.2.2.2.2.2.1, r2.2.2.2.2.2.2.2.2.2.2.2.2.2.2) else if v1 = 0 then some (r2.2.2.1, r2.2.1, r2.2.2.1, r2.2.2.2.1, r2.2.2.2.2.1, r2.2.2.2.2.2.1, r2.2.2.2.2.2.2.1, r2.2.2.2.2.2.2.2.1, r2.2.2.2.2.2.2.2.2.1, r2.2.2.2.2.2.2.2.2.2.1, r2.2.2.2.2.2.2.2.2.2.2.1, r2.2.2.2.2.2.2.2.2.2.2.2.1, r2.2.2.2.2.2.2.2.2.2.2.2.2.1, r2.2.2.2.2.2.2.2.2.2.2.2.2.2.1, r2.2.2.2.2.2.2.2.2.2.2.2.2.2.2) else if v1 = 1 then some (r2.2.2.2.1, r2.2.1, r2.2.2.1, r2.2.2.2.1, r2.2.2.2.2.1, r2.2.2.2.2.2.1, r2.2.2.2.2.2.2.1, r2.2.2.2.2.2.2.2.1, r2.2.2.2.2.2.2.2.2.1, r2.2.2.2.2.2.2.2.2.2.1, r2.2.2.2.2.2.2.2.2.2.2.1, r2.2.2.2.2.2.2.2.2.2.2.2.1, r2.2.2.2.2.2.2.2.2.2.2.2.2.1, r2.2.2.2.2.2.2.2.2.2.2.2.2.2.1, r2.2.2.2.2.2.2.2.2.2.2.2.2.2.2) else some (r2.2.2.2.2.1, r2.2.1, r2.2.2.1, r2.2.2.2.1, r2.2.2.2.2.1, r2.2.2.2.2.2.1, r2.2.2.2.2.2.2.1, r2.2.2.2.2.2.2.2.1, r2.2.2.2.2.2.2.2.2.1, r2.2.2.2.2.2.2.2.2.2.1, r2.2.2.2.2.2.2.2.2.2.2.1, r2.2.2.2.2.2.2.2.2.2.2.2.1, r2.2.2.2.2.2.2.2.2.2.2.2.2.1, r2.2.2.2.2.2.2.2.2.2.2.2.2.2.1, r2.2.2.2.2.2.2.2.2.2.2.2.2.2.2)))
set_option maxHeartbeats 4000000 in
set_option maxRecDepth 100000 in
theorem c_X8_judge (l : Launch) (D : va_G) (T : Nat → ClassId) (hc : Nat) (an : Nat → Nat) (ap : Nat → Nat) (atr : Nat) (ag : Nat → Nat) (ad1 : Nat) (ad4 : Nat) (ad5 : Nat) (ad6 : Nat) (ad7 : Nat) (N_b : Nat → Int32) (N_n : Nat → Int32) (N_o : Nat → Int32) (N_s : Nat → Int32) (N_k : Nat → Int32) (N_h : Nat → Int32) (N_c : Nat → Int32) (N_m : Int32) (P_s : Nat → Int32) (P_n : Int32) (T_ac : Int32) (T_ba : Int32) (T_bw : Int32) (T_he : Int32) (T_wa : Int32) (T_wh : Int32) (gal_b : Nat → Int32) (gal_n : Nat → Int32) (gal_o : Nat → Int32) (gal_s : Nat → Int32) (gal_k : Nat → Int32) (gal_h : Nat → Int32) (gal_c : Nat → Int32) (gal_m : Int32) (v1 : Int32) (r : Int32 × Int32 × Int32 × Int32 × Int32 × Int32 × Int32 × (Nat → Int32) × (Nat → Int32) × (Nat → Int32) × (Nat → Int32) × (Nat → Int32) × (Nat → Int32) × (Nat → Int32) × Int32) (h : f_X8_judge N_b N_n N_o N_s N_k N_h N_c N_m P_s P_n T_ac T_ba T_bw T_he T_wa T_wh gal_b gal_n gal_o gal_s gal_k gal_h gal_c gal_m v1 = some r) : Kt l D T yX8_judge cX8_judge 3 (some .int) (7, 0, 0, 157) [.ref hc, .int v1] (wC hc (an 0) ad1 (ap 0) atr ad4 ad5 ad6 ad7 ++ (wG T an N_b N_n N_o N_s N_k N_h N_c N_m ++ (wP T ap P_s P_n ++ (wT atr (ag 0) T_ac T_ba T_bw T_he T_wa T_wh ++ (wG T ag gal_b gal_n gal_o gal_s gal_k gal_h gal_c gal_m))))) (FF (fun (r : Int32 × Int32 × Int32 × Int32 × Int32 × Int32 × Int32 × (Nat → Int32) × (Nat → Int32) × (Nat → Int32) × (Nat → Int32) × (Nat → Int32) × (Nat → Int32) × (Nat → Int32) × Int32) => some (.int r.1)) (fun r => wC hc (an 0) ad1 (ap 0) atr ad4 ad5 ad6 ad7 ++ (wG T an N_b N_n N_o N_s N_k N_h N_c N_m ++ (wP T ap P_s P_n ++ (wT atr (ag 0) r.2.1 r.2.2.1 r.2.2.2.1 r.2.2.2.2.1 r.2.2.2.2.2.1 r.2.2.2.2.2.2.1 ++ (wG T ag r.2.2.2.2.2.2.2.1 r.2.2.2.2.2.2.2.2.1 r.2.2.2.2.2.2.2.2.2.1 r.2.2.2.2.2.2.2.2.2.2.1 r.2.2.2.2.2.2.2.2.2.2.2.1 r.2.2.2.2.2.2.2.2.2.2.2.2.1 r.2.2.2.2.2.2.2.2.2.2.2.2.2.1 r.2.2.2.2.2.2.2.2.2.2.2.2.2.2))))) r) := by
  refine kt_of (own := RX8) (nm := "judge") (lv := [(0, .ref hc), (1, .int v1)]) (by decide) rfl rfl rfl (Nat.le_of_ble_eq_true rfl) h (fun X hn C M => ?_)
  have hnn : ((0, 0) : Nat × Nat).1 ≤ 0 ∧ ((0, 0) : Nat × Nat).2 ≤ 0 := ⟨Nat.le_refl 0, Nat.le_refl 0⟩
  unfold f_X8_judge
  refine gg_iload_n C dX8_judge_0 rfl 1 rfl ?_
  refine gg_iconst C dX8_judge_1 kI_0 ?_
  refine gg_iconst C dX8_judge_2 kI_2 ?_
  refine gg_callS C (fun l r h => c_X8_isWithin l D T v1 0 2 r h) lk_X8_66 ⟨by decide, by decide⟩ hnn rfl (rest := []) rfl (Nat.le_of_ble_eq_true rfl) dX8_judge_3 cut_none (st2 := fun r1 => [.int r1]) (fun _ => rfl) (fun r1 => ?_)
  refine gg_if_ne C dX8_judge_6 (tgt := 12) (by decide) (fun _ => ?_) (fun _ => ?_)
  · refine gg_aload_n C dX8_judge_12 rfl 0 rfl ?_
    refine gg_callV C (fun l r h => c_X8_followText l D T hc an ap atr ag ad1 ad4 ad5 ad6 ad7 N_b N_n N_o N_s N_k N_h N_c N_m P_s P_n T_ac T_ba T_bw T_he T_wa T_wh gal_b gal_n gal_o gal_s gal_k gal_h gal_c gal_m r h) lk_X8_103 ⟨by decide, by decide⟩ hnn rfl (rest := []) rfl (Nat.le_of_ble_eq_true rfl) 0 rfl rfl dX8_judge_13 (ws2 := fun r2 => wC hc (an 0) ad1 (ap 0) atr ad4 ad5 ad6 ad7 ++ (wG T an N_b N_n N_o N_s N_k N_h N_c N_m ++ (wP T ap P_s P_n ++ (wT atr (ag 0) r2.2.1 r2.2.2.1 r2.2.2.2.1 r2.2.2.2.2.1 r2.2.2.2.2.2.1 r2.2.2.2.2.2.2.1 ++ (wG T ag r2.2.2.2.2.2.2.2.1 r2.2.2.2.2.2.2.2.2.1 r2.2.2.2.2.2.2.2.2.2.1 r2.2.2.2.2.2.2.2.2.2.2.1 r2.2.2.2.2.2.2.2.2.2.2.2.1 r2.2.2.2.2.2.2.2.2.2.2.2.2.1 r2.2.2.2.2.2.2.2.2.2.2.2.2.2.1 r2.2.2.2.2.2.2.2.2.2.2.2.2.2.2))))) (cut_full (fun _ => rfl)) (st2 := fun r2 => [.int r2.1]) (fun _ => rfl) (fun r2 => ?_)
    refine gg_istore_n C dX8_judge_16 rfl hn (by decide) (lv' := [(2, .int r2.1), (0, .ref hc), (1, .int v1)]) rfl ?_
    refine gg_iload_n C dX8_judge_17 rfl 0 rfl ?_
    refine gg_bipush C dX8_judge_18 kB_m5 ?_
    refine gg_icmp_eq C dX8_judge_20 (tgt := 34) (by decide) (fun _ => ?_) (fun _ => ?_)
    · refine gg_iload_n C dX8_judge_34 rfl 0 rfl ?_
      exact gg_iret C M dX8_judge_35 ⟨rfl, rfl⟩
    · refine gg_iload_n C dX8_judge_23 rfl 0 rfl ?_
      refine gg_bipush C dX8_judge_24 kB_m3 ?_
      refine gg_icmp_ne C dX8_judge_26 (tgt := 36) (by decide) (fun _ => ?_) (fun _ => ?_)
      · refine gg_iload_n C dX8_judge_36 rfl 2 rfl ?_
        refine gg_if_ne C dX8_judge_37 (tgt := 48) (by decide) (fun _ => ?_) (fun _ => ?_)
        · refine gg_iload_n C dX8_judge_48 rfl 2 rfl ?_
          refine gg_iconst C dX8_judge_49 kI_1 ?_
          refine gg_icmp_ne C dX8_judge_50 (tgt := 63) (by decide) (fun _ => ?_) (fun _ => ?_)
          · refine gg_aload_n C dX8_judge_63 rfl 1 rfl ?_
            refine gf_X8_33 C 0 rfl rfl dX8_judge_64 ?_
            refine gf_X8_113 C 11 rfl rfl dX8_judge_67 ?_
            exact gg_iret C M dX8_judge_70 ⟨rfl, rfl⟩
          · refine gg_aload_n C dX8_judge_53 rfl 1 rfl ?_
            refine gf_X8_33 C 0 rfl rfl dX8_judge_54 ?_
            refine gf_X8_110 C 11 rfl rfl dX8_judge_57 ?_
            refine gg_goto C dX8_judge_60 (tgt := 70) (by decide) ?_
            exact gg_iret C M dX8_judge_70 ⟨rfl, rfl⟩
        · refine gg_aload_n C dX8_judge_40 rfl 1 rfl ?_
          refine gf_X8_33 C 0 rfl rfl dX8_judge_41 ?_
          refine gf_X8_106 C 11 rfl rfl dX8_judge_44 ?_
          exact gg_iret C M dX8_judge_47 ⟨rfl, rfl⟩
      · refine gg_iload_n C dX8_judge_29 rfl 2 rfl ?_
        refine gg_iconst C dX8_judge_30 kI_2 ?_
        refine gg_icmp_ne C dX8_judge_31 (tgt := 36) (by decide) (fun _ => ?_) (fun _ => ?_)
        · refine gg_iload_n C dX8_judge_36 rfl 2 rfl ?_
          refine gg_if_ne C dX8_judge_37 (tgt := 48) (by decide) (fun _ => ?_) (fun _ => ?_)
          · refine gg_iload_n C dX8_judge_48 rfl 2 rfl ?_
            refine gg_iconst C dX8_judge_49 kI_1 ?_
            refine gg_icmp_ne C dX8_judge_50 (tgt := 63) (by decide) (fun _ => ?_) (fun _ => ?_)
            · refine gg_aload_n C dX8_judge_63 rfl 1 rfl ?_
              refine gf_X8_33 C 0 rfl rfl dX8_judge_64 ?_
              refine gf_X8_113 C 11 rfl rfl dX8_judge_67 ?_
              exact gg_iret C M dX8_judge_70 ⟨rfl, rfl⟩
            · refine gg_aload_n C dX8_judge_53 rfl 1 rfl ?_
              refine gf_X8_33 C 0 rfl rfl dX8_judge_54 ?_
              refine gf_X8_110 C 11 rfl rfl dX8_judge_57 ?_
              refine gg_goto C dX8_judge_60 (tgt := 70) (by decide) ?_
              exact gg_iret C M dX8_judge_70 ⟨rfl, rfl⟩
          · refine gg_aload_n C dX8_judge_40 rfl 1 rfl ?_
            refine gf_X8_33 C 0 rfl rfl dX8_judge_41 ?_
            refine gf_X8_106 C 11 rfl rfl dX8_judge_44 ?_
            exact gg_iret C M dX8_judge_47 ⟨rfl, rfl⟩
        · refine gg_iload_n C dX8_judge_34 rfl 0 rfl ?_
          exact gg_iret C M dX8_judge_35 ⟨rfl, rfl⟩
  · refine gg_bipush C dX8_judge_9 kB_m2 ?_
    exact gg_iret C M dX8_judge_11 ⟨rfl, rfl⟩
def f_X8_behind (N_b : Nat → Int32) (N_n : Nat → Int32) (N_o : Nat → Int32) (N_s : Nat → Int32) (N_k : Nat → Int32) (N_h : Nat → Int32) (N_c : Nat → Int32) (N_m : Int32) (P_s : Nat → Int32) (P_n : Int32) (T_ac : Int32) (T_ba : Int32) (T_bw : Int32) (T_he : Int32) (T_wa : Int32) (T_wh : Int32) (gal_b : Nat → Int32) (gal_n : Nat → Int32) (gal_o : Nat → Int32) (gal_s : Nat → Int32) (gal_k : Nat → Int32) (gal_h : Nat → Int32) (gal_c : Nat → Int32) (gal_m : Int32) (v1 : Int32) (v2 : Int32) : Option (Int32 × Int32 × Int32 × Int32 × Int32 × Int32 × Int32 × (Nat → Int32) × (Nat → Int32) × (Nat → Int32) × (Nat → Int32) × (Nat → Int32) × (Nat → Int32) × (Nat → Int32) × Int32) := jn (f_X8_isHeir v1) (fun r1 => if r1 = 0 then some ((-1), T_ac, T_ba, T_bw, T_he, T_wa, T_wh, gal_b, gal_n, gal_o, gal_s, gal_k, gal_h, gal_c, gal_m) else jn (f_X8_isWithin v2 0 2) (fun r2 => if r2 = 0 then some ((-2), T_ac, T_ba, T_bw, T_he, T_wa, T_wh, gal_b, gal_n, gal_o, gal_s, gal_k, gal_h, gal_c, gal_m) else jn (f_X8_followText N_b N_n N_o N_s N_k N_h N_c N_m P_s P_n T_ac T_ba T_bw T_he T_wa T_wh gal_b gal_n gal_o gal_s gal_k gal_h gal_c gal_m) (fun r3 => if r3.1 = 0 then if v2 = 0 then gu v1 6 (some (r3.2.2.2.2.2.2.2.2.2.2.1 v1.toNatClampNeg, r3.2.1, r3.2.2.1, r3.2.2.2.1, r3.2.2.2.2.1, r3.2.2.2.2.2.1, r3.2.2.2.2.2.2.1, r3.2.2.2.2.2.2.2.1, r3.2.2.2.2.2.2.2.2.1, r3.2.2.2.2.2.2.2.2.2.1, r3.2.2.2.2.2.2.2.2.2.2.1, r3.2.2.2.2.2.2.2.2.2.2.2.1, r3.2.2.2.2.2.2.2.2.2.2.2.2.1, r3.2.2.2.2.2.2.2.2.2.2.2.2.2.1, r3.2.2.2.2.2.2.2.2.2.2.2.2.2.2)) else if v2 = 1 then gu v1 6 (some (r3.2.2.2.2.2.2.2.2.2.2.2.2.1 v1.toNatClampNeg, r3.2.1, r3.2.2.1, r3.2.2.2.1, r3.2.2.2.2.1, r3.2.2.2.2.2.1, r3.2.2.2.2.2.2.1, r3.2.2.2.2.2.2.2.1, r3.2.2.2.2.2.2.2.2.1, r3.2.2.2.2.2.2.2.2.2.1, r3.2.2.2.2.2.2.2.2.2.2.1, r3.2.2.2.2.2.2.2.2.2.2.2.1, r3.2.2.2.2.2.2.2.2.2.2.2.2.1, r3.2.2.2.2.2.2.2.2.2.2.2.2.2.1, r3.2.2.2.2.2.2.2.2.2.2.2.2.2.2)) else gu v1 6 (some (r3.2.2.2.2.2.2.2.2.2.2.2.2.2.1 v1.toNatClampNeg, r3.2.1, r3.2.2.1, r3.2.2.2.1, r3.2.2.2.2.1, r3.2.2.2.2.2.1, r3.2.2.2.2.2.2.1, r3.2.2.2.2.2.2.2.1, r3.2.2.2.2.2.2.2.2.1, r3.2.2.2.2.2.2.2.2.2.1, r3.2.2.2.2.2.2.2.2.2.2.1, r3.2.2.2.2.2.2.2.2.2.2.2.1, r3.2.2.2.2.2.2.2.2.2.2.2.2.1, r3.2.2.2.2.2.2.2.2.2.2.2.2.2.1, r3.2.2.2.2.2.2.2.2.2.2.2.2.2.2)) else some (r3.1, r3.2.1, r3.2.2.1, r3.2.2.2.1, r3.2.2.2.2.1, r3.2.2.2.2.2.1, r3.2.2.2.2.2.2.1, r3.2.2.2.2.2.2.2.1, r3.2.2.2.2.2.2.2.2.1, r3.2.2.2.2.2.2.2.2.2.1, r3.2.2.2.2.2.2.2.2.2.2.1, r3.2.2.2.2.2.2.2.2.2.2.2.1, r3.2.2.2.2.2.2.2.2.2.2.2.2.1, r3.2.2.2.2.2.2.2.2.2.2.2.2.2.1, r3.2.2.2.2.2.2.2.2.2.2.2.2.2.2))))
set_option maxHeartbeats 4000000 in
set_option maxRecDepth 100000 in
theorem c_X8_behind (l : Launch) (D : va_G) (T : Nat → ClassId) (hc : Nat) (an : Nat → Nat) (ap : Nat → Nat) (atr : Nat) (ag : Nat → Nat) (ad1 : Nat) (ad4 : Nat) (ad5 : Nat) (ad6 : Nat) (ad7 : Nat) (N_b : Nat → Int32) (N_n : Nat → Int32) (N_o : Nat → Int32) (N_s : Nat → Int32) (N_k : Nat → Int32) (N_h : Nat → Int32) (N_c : Nat → Int32) (N_m : Int32) (P_s : Nat → Int32) (P_n : Int32) (T_ac : Int32) (T_ba : Int32) (T_bw : Int32) (T_he : Int32) (T_wa : Int32) (T_wh : Int32) (gal_b : Nat → Int32) (gal_n : Nat → Int32) (gal_o : Nat → Int32) (gal_s : Nat → Int32) (gal_k : Nat → Int32) (gal_h : Nat → Int32) (gal_c : Nat → Int32) (gal_m : Int32) (v1 : Int32) (v2 : Int32) (r : Int32 × Int32 × Int32 × Int32 × Int32 × Int32 × Int32 × (Nat → Int32) × (Nat → Int32) × (Nat → Int32) × (Nat → Int32) × (Nat → Int32) × (Nat → Int32) × (Nat → Int32) × Int32) (h : f_X8_behind N_b N_n N_o N_s N_k N_h N_c N_m P_s P_n T_ac T_ba T_bw T_he T_wa T_wh gal_b gal_n gal_o gal_s gal_k gal_h gal_c gal_m v1 v2 = some r) : Kt l D T yX8_behind cX8_behind 4 (some .int) (7, 0, 0, 157) [.ref hc, .int v1, .int v2] (wC hc (an 0) ad1 (ap 0) atr ad4 ad5 ad6 ad7 ++ (wG T an N_b N_n N_o N_s N_k N_h N_c N_m ++ (wP T ap P_s P_n ++ (wT atr (ag 0) T_ac T_ba T_bw T_he T_wa T_wh ++ (wG T ag gal_b gal_n gal_o gal_s gal_k gal_h gal_c gal_m))))) (FF (fun (r : Int32 × Int32 × Int32 × Int32 × Int32 × Int32 × Int32 × (Nat → Int32) × (Nat → Int32) × (Nat → Int32) × (Nat → Int32) × (Nat → Int32) × (Nat → Int32) × (Nat → Int32) × Int32) => some (.int r.1)) (fun r => wC hc (an 0) ad1 (ap 0) atr ad4 ad5 ad6 ad7 ++ (wG T an N_b N_n N_o N_s N_k N_h N_c N_m ++ (wP T ap P_s P_n ++ (wT atr (ag 0) r.2.1 r.2.2.1 r.2.2.2.1 r.2.2.2.2.1 r.2.2.2.2.2.1 r.2.2.2.2.2.2.1 ++ (wG T ag r.2.2.2.2.2.2.2.1 r.2.2.2.2.2.2.2.2.1 r.2.2.2.2.2.2.2.2.2.1 r.2.2.2.2.2.2.2.2.2.2.1 r.2.2.2.2.2.2.2.2.2.2.2.1 r.2.2.2.2.2.2.2.2.2.2.2.2.1 r.2.2.2.2.2.2.2.2.2.2.2.2.2.1 r.2.2.2.2.2.2.2.2.2.2.2.2.2.2))))) r) := by
  refine kt_of (own := RX8) (nm := "behind") (lv := [(0, .ref hc), (1, .int v1), (2, .int v2)]) (by decide) rfl rfl rfl (Nat.le_of_ble_eq_true rfl) h (fun X hn C M => ?_)
  have hnn : ((0, 0) : Nat × Nat).1 ≤ 0 ∧ ((0, 0) : Nat × Nat).2 ≤ 0 := ⟨Nat.le_refl 0, Nat.le_refl 0⟩
  unfold f_X8_behind
  refine gg_iload_n C dX8_behind_0 rfl 1 rfl ?_
  refine gg_callS C (fun l r h => c_X8_isHeir l D T v1 r h) lk_X8_60 ⟨by decide, by decide⟩ hnn rfl (rest := []) rfl (Nat.le_of_ble_eq_true rfl) dX8_behind_1 cut_none (st2 := fun r1 => [.int r1]) (fun _ => rfl) (fun r1 => ?_)
  refine gg_if_ne C dX8_behind_4 (tgt := 9) (by decide) (fun _ => ?_) (fun _ => ?_)
  · refine gg_iload_n C dX8_behind_9 rfl 2 rfl ?_
    refine gg_iconst C dX8_behind_10 kI_0 ?_
    refine gg_iconst C dX8_behind_11 kI_2 ?_
    refine gg_callS C (fun l r h => c_X8_isWithin l D T v2 0 2 r h) lk_X8_66 ⟨by decide, by decide⟩ hnn rfl (rest := []) rfl (Nat.le_of_ble_eq_true rfl) dX8_behind_12 cut_none (st2 := fun r2 => [.int r2]) (fun _ => rfl) (fun r2 => ?_)
    refine gg_if_ne C dX8_behind_15 (tgt := 21) (by decide) (fun _ => ?_) (fun _ => ?_)
    · refine gg_aload_n C dX8_behind_21 rfl 0 rfl ?_
      refine gg_callV C (fun l r h => c_X8_followText l D T hc an ap atr ag ad1 ad4 ad5 ad6 ad7 N_b N_n N_o N_s N_k N_h N_c N_m P_s P_n T_ac T_ba T_bw T_he T_wa T_wh gal_b gal_n gal_o gal_s gal_k gal_h gal_c gal_m r h) lk_X8_103 ⟨by decide, by decide⟩ hnn rfl (rest := []) rfl (Nat.le_of_ble_eq_true rfl) 0 rfl rfl dX8_behind_22 (ws2 := fun r3 => wC hc (an 0) ad1 (ap 0) atr ad4 ad5 ad6 ad7 ++ (wG T an N_b N_n N_o N_s N_k N_h N_c N_m ++ (wP T ap P_s P_n ++ (wT atr (ag 0) r3.2.1 r3.2.2.1 r3.2.2.2.1 r3.2.2.2.2.1 r3.2.2.2.2.2.1 r3.2.2.2.2.2.2.1 ++ (wG T ag r3.2.2.2.2.2.2.2.1 r3.2.2.2.2.2.2.2.2.1 r3.2.2.2.2.2.2.2.2.2.1 r3.2.2.2.2.2.2.2.2.2.2.1 r3.2.2.2.2.2.2.2.2.2.2.2.1 r3.2.2.2.2.2.2.2.2.2.2.2.2.1 r3.2.2.2.2.2.2.2.2.2.2.2.2.2.1 r3.2.2.2.2.2.2.2.2.2.2.2.2.2.2))))) (cut_full (fun _ => rfl)) (st2 := fun r3 => [.int r3.1]) (fun _ => rfl) (fun r3 => ?_)
      refine gg_istore_n C dX8_behind_25 rfl hn (by decide) (lv' := [(3, .int r3.1), (0, .ref hc), (1, .int v1), (2, .int v2)]) rfl ?_
      refine gg_iload_n C dX8_behind_26 rfl 0 rfl ?_
      refine gg_if_eq C dX8_behind_27 (tgt := 32) (by decide) (fun _ => ?_) (fun _ => ?_)
      · refine gg_iload_n C dX8_behind_32 rfl 3 rfl ?_
        refine gg_if_ne C dX8_behind_33 (tgt := 49) (by decide) (fun _ => ?_) (fun _ => ?_)
        · refine gg_iload_n C dX8_behind_49 rfl 3 rfl ?_
          refine gg_iconst C dX8_behind_50 kI_1 ?_
          refine gg_icmp_ne C dX8_behind_51 (tgt := 69) (by decide) (fun _ => ?_) (fun _ => ?_)
          · refine gg_aload_n C dX8_behind_69 rfl 1 rfl ?_
            refine gf_X8_33 C 0 rfl rfl dX8_behind_70 ?_
            refine gf_X8_116 C 11 rfl rfl dX8_behind_73 ?_
            refine gf_X8_89 C 12 rfl rfl dX8_behind_76 ?_
            refine gg_iload_n C dX8_behind_79 rfl 2 rfl ?_
            refine gg_iald C 19 rfl dX8_behind_80 ?_
            exact gg_iret C M dX8_behind_81 ⟨rfl, rfl⟩
          · refine gg_aload_n C dX8_behind_54 rfl 1 rfl ?_
            refine gf_X8_33 C 0 rfl rfl dX8_behind_55 ?_
            refine gf_X8_116 C 11 rfl rfl dX8_behind_58 ?_
            refine gf_X8_86 C 12 rfl rfl dX8_behind_61 ?_
            refine gg_iload_n C dX8_behind_64 rfl 2 rfl ?_
            refine gg_iald C 18 rfl dX8_behind_65 ?_
            refine gg_goto C dX8_behind_66 (tgt := 81) (by decide) ?_
            exact gg_iret C M dX8_behind_81 ⟨rfl, rfl⟩
        · refine gg_aload_n C dX8_behind_36 rfl 1 rfl ?_
          refine gf_X8_33 C 0 rfl rfl dX8_behind_37 ?_
          refine gf_X8_116 C 11 rfl rfl dX8_behind_40 ?_
          refine gf_X8_80 C 12 rfl rfl dX8_behind_43 ?_
          refine gg_iload_n C dX8_behind_46 rfl 2 rfl ?_
          refine gg_iald C 16 rfl dX8_behind_47 ?_
          exact gg_iret C M dX8_behind_48 ⟨rfl, rfl⟩
      · refine gg_iload_n C dX8_behind_30 rfl 0 rfl ?_
        exact gg_iret C M dX8_behind_31 ⟨rfl, rfl⟩
    · refine gg_bipush C dX8_behind_18 kB_m2 ?_
      exact gg_iret C M dX8_behind_20 ⟨rfl, rfl⟩
  · refine gg_iconst C dX8_behind_7 kI_m1 ?_
    exact gg_iret C M dX8_behind_8 ⟨rfl, rfl⟩
def f_X8_stands (N_b : Nat → Int32) (N_n : Nat → Int32) (N_o : Nat → Int32) (N_s : Nat → Int32) (N_k : Nat → Int32) (N_h : Nat → Int32) (N_c : Nat → Int32) (N_m : Int32) (P_s : Nat → Int32) (P_n : Int32) (T_ac : Int32) (T_ba : Int32) (T_bw : Int32) (T_he : Int32) (T_wa : Int32) (T_wh : Int32) (gal_b : Nat → Int32) (gal_n : Nat → Int32) (gal_o : Nat → Int32) (gal_s : Nat → Int32) (gal_k : Nat → Int32) (gal_h : Nat → Int32) (gal_c : Nat → Int32) (gal_m : Int32) (v1 : Int32) (v2 : Int32) : Option (Int32 × Int32 × Int32 × Int32 × Int32 × Int32 × Int32 × (Nat → Int32) × (Nat → Int32) × (Nat → Int32) × (Nat → Int32) × (Nat → Int32) × (Nat → Int32) × (Nat → Int32) × Int32) := jn (f_X8_isPlace v1) (fun r1 => if r1 = 0 then some ((-1), T_ac, T_ba, T_bw, T_he, T_wa, T_wh, gal_b, gal_n, gal_o, gal_s, gal_k, gal_h, gal_c, gal_m) else jn (f_X8_isWithin v2 0 2) (fun r2 => if r2 = 0 then some ((-2), T_ac, T_ba, T_bw, T_he, T_wa, T_wh, gal_b, gal_n, gal_o, gal_s, gal_k, gal_h, gal_c, gal_m) else jn (f_X8_followText N_b N_n N_o N_s N_k N_h N_c N_m P_s P_n T_ac T_ba T_bw T_he T_wa T_wh gal_b gal_n gal_o gal_s gal_k gal_h gal_c gal_m) (fun r3 => if r3.1 = 0 then if v2 = 0 then gu v1 40 (some (r3.2.2.2.2.2.2.2.1 v1.toNatClampNeg, r3.2.1, r3.2.2.1, r3.2.2.2.1, r3.2.2.2.2.1, r3.2.2.2.2.2.1, r3.2.2.2.2.2.2.1, r3.2.2.2.2.2.2.2.1, r3.2.2.2.2.2.2.2.2.1, r3.2.2.2.2.2.2.2.2.2.1, r3.2.2.2.2.2.2.2.2.2.2.1, r3.2.2.2.2.2.2.2.2.2.2.2.1, r3.2.2.2.2.2.2.2.2.2.2.2.2.1, r3.2.2.2.2.2.2.2.2.2.2.2.2.2.1, r3.2.2.2.2.2.2.2.2.2.2.2.2.2.2)) else if v2 = 1 then gu v1 40 (some (r3.2.2.2.2.2.2.2.2.1 v1.toNatClampNeg, r3.2.1, r3.2.2.1, r3.2.2.2.1, r3.2.2.2.2.1, r3.2.2.2.2.2.1, r3.2.2.2.2.2.2.1, r3.2.2.2.2.2.2.2.1, r3.2.2.2.2.2.2.2.2.1, r3.2.2.2.2.2.2.2.2.2.1, r3.2.2.2.2.2.2.2.2.2.2.1, r3.2.2.2.2.2.2.2.2.2.2.2.1, r3.2.2.2.2.2.2.2.2.2.2.2.2.1, r3.2.2.2.2.2.2.2.2.2.2.2.2.2.1, r3.2.2.2.2.2.2.2.2.2.2.2.2.2.2)) else gu v1 40 (some (r3.2.2.2.2.2.2.2.2.2.1 v1.toNatClampNeg, r3.2.1, r3.2.2.1, r3.2.2.2.1, r3.2.2.2.2.1, r3.2.2.2.2.2.1, r3.2.2.2.2.2.2.1, r3.2.2.2.2.2.2.2.1, r3.2.2.2.2.2.2.2.2.1, r3.2.2.2.2.2.2.2.2.2.1, r3.2.2.2.2.2.2.2.2.2.2.1, r3.2.2.2.2.2.2.2.2.2.2.2.1, r3.2.2.2.2.2.2.2.2.2.2.2.2.1, r3.2.2.2.2.2.2.2.2.2.2.2.2.2.1, r3.2.2.2.2.2.2.2.2.2.2.2.2.2.2)) else some (r3.1, r3.2.1, r3.2.2.1, r3.2.2.2.1, r3.2.2.2.2.1, r3.2.2.2.2.2.1, r3.2.2.2.2.2.2.1, r3.2.2.2.2.2.2.2.1, r3.2.2.2.2.2.2.2.2.1, r3.2.2.2.2.2.2.2.2.2.1, r3.2.2.2.2.2.2.2.2.2.2.1, r3.2.2.2.2.2.2.2.2.2.2.2.1, r3.2.2.2.2.2.2.2.2.2.2.2.2.1, r3.2.2.2.2.2.2.2.2.2.2.2.2.2.1, r3.2.2.2.2.2.2.2.2.2.2.2.2.2.2))))
set_option maxHeartbeats 4000000 in
set_option maxRecDepth 100000 in
theorem c_X8_stands (l : Launch) (D : va_G) (T : Nat → ClassId) (hc : Nat) (an : Nat → Nat) (ap : Nat → Nat) (atr : Nat) (ag : Nat → Nat) (ad1 : Nat) (ad4 : Nat) (ad5 : Nat) (ad6 : Nat) (ad7 : Nat) (N_b : Nat → Int32) (N_n : Nat → Int32) (N_o : Nat → Int32) (N_s : Nat → Int32) (N_k : Nat → Int32) (N_h : Nat → Int32) (N_c : Nat → Int32) (N_m : Int32) (P_s : Nat → Int32) (P_n : Int32) (T_ac : Int32) (T_ba : Int32) (T_bw : Int32) (T_he : Int32) (T_wa : Int32) (T_wh : Int32) (gal_b : Nat → Int32) (gal_n : Nat → Int32) (gal_o : Nat → Int32) (gal_s : Nat → Int32) (gal_k : Nat → Int32) (gal_h : Nat → Int32) (gal_c : Nat → Int32) (gal_m : Int32) (v1 : Int32) (v2 : Int32) (r : Int32 × Int32 × Int32 × Int32 × Int32 × Int32 × Int32 × (Nat → Int32) × (Nat → Int32) × (Nat → Int32) × (Nat → Int32) × (Nat → Int32) × (Nat → Int32) × (Nat → Int32) × Int32) (h : f_X8_stands N_b N_n N_o N_s N_k N_h N_c N_m P_s P_n T_ac T_ba T_bw T_he T_wa T_wh gal_b gal_n gal_o gal_s gal_k gal_h gal_c gal_m v1 v2 = some r) : Kt l D T yX8_stands cX8_stands 4 (some .int) (7, 0, 0, 157) [.ref hc, .int v1, .int v2] (wC hc (an 0) ad1 (ap 0) atr ad4 ad5 ad6 ad7 ++ (wG T an N_b N_n N_o N_s N_k N_h N_c N_m ++ (wP T ap P_s P_n ++ (wT atr (ag 0) T_ac T_ba T_bw T_he T_wa T_wh ++ (wG T ag gal_b gal_n gal_o gal_s gal_k gal_h gal_c gal_m))))) (FF (fun (r : Int32 × Int32 × Int32 × Int32 × Int32 × Int32 × Int32 × (Nat → Int32) × (Nat → Int32) × (Nat → Int32) × (Nat → Int32) × (Nat → Int32) × (Nat → Int32) × (Nat → Int32) × Int32) => some (.int r.1)) (fun r => wC hc (an 0) ad1 (ap 0) atr ad4 ad5 ad6 ad7 ++ (wG T an N_b N_n N_o N_s N_k N_h N_c N_m ++ (wP T ap P_s P_n ++ (wT atr (ag 0) r.2.1 r.2.2.1 r.2.2.2.1 r.2.2.2.2.1 r.2.2.2.2.2.1 r.2.2.2.2.2.2.1 ++ (wG T ag r.2.2.2.2.2.2.2.1 r.2.2.2.2.2.2.2.2.1 r.2.2.2.2.2.2.2.2.2.1 r.2.2.2.2.2.2.2.2.2.2.1 r.2.2.2.2.2.2.2.2.2.2.2.1 r.2.2.2.2.2.2.2.2.2.2.2.2.1 r.2.2.2.2.2.2.2.2.2.2.2.2.2.1 r.2.2.2.2.2.2.2.2.2.2.2.2.2.2))))) r) := by
  refine kt_of (own := RX8) (nm := "stands") (lv := [(0, .ref hc), (1, .int v1), (2, .int v2)]) (by decide) rfl rfl rfl (Nat.le_of_ble_eq_true rfl) h (fun X hn C M => ?_)
  have hnn : ((0, 0) : Nat × Nat).1 ≤ 0 ∧ ((0, 0) : Nat × Nat).2 ≤ 0 := ⟨Nat.le_refl 0, Nat.le_refl 0⟩
  unfold f_X8_stands
  refine gg_iload_n C dX8_stands_0 rfl 1 rfl ?_
  refine gg_callS C (fun l r h => c_X8_isPlace l D T v1 r h) lk_X8_56 ⟨by decide, by decide⟩ hnn rfl (rest := []) rfl (Nat.le_of_ble_eq_true rfl) dX8_stands_1 cut_none (st2 := fun r1 => [.int r1]) (fun _ => rfl) (fun r1 => ?_)
  refine gg_if_ne C dX8_stands_4 (tgt := 9) (by decide) (fun _ => ?_) (fun _ => ?_)
  · refine gg_iload_n C dX8_stands_9 rfl 2 rfl ?_
    refine gg_iconst C dX8_stands_10 kI_0 ?_
    refine gg_iconst C dX8_stands_11 kI_2 ?_
    refine gg_callS C (fun l r h => c_X8_isWithin l D T v2 0 2 r h) lk_X8_66 ⟨by decide, by decide⟩ hnn rfl (rest := []) rfl (Nat.le_of_ble_eq_true rfl) dX8_stands_12 cut_none (st2 := fun r2 => [.int r2]) (fun _ => rfl) (fun r2 => ?_)
    refine gg_if_ne C dX8_stands_15 (tgt := 21) (by decide) (fun _ => ?_) (fun _ => ?_)
    · refine gg_aload_n C dX8_stands_21 rfl 0 rfl ?_
      refine gg_callV C (fun l r h => c_X8_followText l D T hc an ap atr ag ad1 ad4 ad5 ad6 ad7 N_b N_n N_o N_s N_k N_h N_c N_m P_s P_n T_ac T_ba T_bw T_he T_wa T_wh gal_b gal_n gal_o gal_s gal_k gal_h gal_c gal_m r h) lk_X8_103 ⟨by decide, by decide⟩ hnn rfl (rest := []) rfl (Nat.le_of_ble_eq_true rfl) 0 rfl rfl dX8_stands_22 (ws2 := fun r3 => wC hc (an 0) ad1 (ap 0) atr ad4 ad5 ad6 ad7 ++ (wG T an N_b N_n N_o N_s N_k N_h N_c N_m ++ (wP T ap P_s P_n ++ (wT atr (ag 0) r3.2.1 r3.2.2.1 r3.2.2.2.1 r3.2.2.2.2.1 r3.2.2.2.2.2.1 r3.2.2.2.2.2.2.1 ++ (wG T ag r3.2.2.2.2.2.2.2.1 r3.2.2.2.2.2.2.2.2.1 r3.2.2.2.2.2.2.2.2.2.1 r3.2.2.2.2.2.2.2.2.2.2.1 r3.2.2.2.2.2.2.2.2.2.2.2.1 r3.2.2.2.2.2.2.2.2.2.2.2.2.1 r3.2.2.2.2.2.2.2.2.2.2.2.2.2.1 r3.2.2.2.2.2.2.2.2.2.2.2.2.2.2))))) (cut_full (fun _ => rfl)) (st2 := fun r3 => [.int r3.1]) (fun _ => rfl) (fun r3 => ?_)
      refine gg_istore_n C dX8_stands_25 rfl hn (by decide) (lv' := [(3, .int r3.1), (0, .ref hc), (1, .int v1), (2, .int v2)]) rfl ?_
      refine gg_iload_n C dX8_stands_26 rfl 0 rfl ?_
      refine gg_if_eq C dX8_stands_27 (tgt := 32) (by decide) (fun _ => ?_) (fun _ => ?_)
      · refine gg_iload_n C dX8_stands_32 rfl 3 rfl ?_
        refine gg_if_ne C dX8_stands_33 (tgt := 49) (by decide) (fun _ => ?_) (fun _ => ?_)
        · refine gg_iload_n C dX8_stands_49 rfl 3 rfl ?_
          refine gg_iconst C dX8_stands_50 kI_1 ?_
          refine gg_icmp_ne C dX8_stands_51 (tgt := 69) (by decide) (fun _ => ?_) (fun _ => ?_)
          · refine gg_aload_n C dX8_stands_69 rfl 1 rfl ?_
            refine gf_X8_33 C 0 rfl rfl dX8_stands_70 ?_
            refine gf_X8_116 C 11 rfl rfl dX8_stands_73 ?_
            refine gf_X8_77 C 12 rfl rfl dX8_stands_76 ?_
            refine gg_iload_n C dX8_stands_79 rfl 2 rfl ?_
            refine gg_iald C 15 rfl dX8_stands_80 ?_
            exact gg_iret C M dX8_stands_81 ⟨rfl, rfl⟩
          · refine gg_aload_n C dX8_stands_54 rfl 1 rfl ?_
            refine gf_X8_33 C 0 rfl rfl dX8_stands_55 ?_
            refine gf_X8_116 C 11 rfl rfl dX8_stands_58 ?_
            refine gf_X8_74 C 12 rfl rfl dX8_stands_61 ?_
            refine gg_iload_n C dX8_stands_64 rfl 2 rfl ?_
            refine gg_iald C 14 rfl dX8_stands_65 ?_
            refine gg_goto C dX8_stands_66 (tgt := 81) (by decide) ?_
            exact gg_iret C M dX8_stands_81 ⟨rfl, rfl⟩
        · refine gg_aload_n C dX8_stands_36 rfl 1 rfl ?_
          refine gf_X8_33 C 0 rfl rfl dX8_stands_37 ?_
          refine gf_X8_116 C 11 rfl rfl dX8_stands_40 ?_
          refine gf_X8_70 C 12 rfl rfl dX8_stands_43 ?_
          refine gg_iload_n C dX8_stands_46 rfl 2 rfl ?_
          refine gg_iald C 13 rfl dX8_stands_47 ?_
          exact gg_iret C M dX8_stands_48 ⟨rfl, rfl⟩
      · refine gg_iload_n C dX8_stands_30 rfl 0 rfl ?_
        exact gg_iret C M dX8_stands_31 ⟨rfl, rfl⟩
    · refine gg_bipush C dX8_stands_18 kB_m2 ?_
      exact gg_iret C M dX8_stands_20 ⟨rfl, rfl⟩
  · refine gg_iconst C dX8_stands_7 kI_m1 ?_
    exact gg_iret C M dX8_stands_8 ⟨rfl, rfl⟩
def f_X8_house (N_b : Nat → Int32) (N_n : Nat → Int32) (N_o : Nat → Int32) (N_s : Nat → Int32) (N_k : Nat → Int32) (N_h : Nat → Int32) (N_c : Nat → Int32) (N_m : Int32) (P_s : Nat → Int32) (P_n : Int32) (T_ac : Int32) (T_ba : Int32) (T_bw : Int32) (T_he : Int32) (T_wa : Int32) (T_wh : Int32) (gal_b : Nat → Int32) (gal_n : Nat → Int32) (gal_o : Nat → Int32) (gal_s : Nat → Int32) (gal_k : Nat → Int32) (gal_h : Nat → Int32) (gal_c : Nat → Int32) (gal_m : Int32) (v1 : Int32) : Option (Int32 × Int32 × Int32 × Int32 × Int32 × Int32 × Int32 × (Nat → Int32) × (Nat → Int32) × (Nat → Int32) × (Nat → Int32) × (Nat → Int32) × (Nat → Int32) × (Nat → Int32) × Int32) := jn (f_X8_isWithin v1 0 3) (fun r1 => if r1 = 0 then some ((-2), T_ac, T_ba, T_bw, T_he, T_wa, T_wh, gal_b, gal_n, gal_o, gal_s, gal_k, gal_h, gal_c, gal_m) else jn (f_X8_followText N_b N_n N_o N_s N_k N_h N_c N_m P_s P_n T_ac T_ba T_bw T_he T_wa T_wh gal_b gal_n gal_o gal_s gal_k gal_h gal_c gal_m) (fun r2 => if r2.1 = 0 then if v1 = 0 then jn (f_X0_chosenBits r2.2.2.2.2.2.2.2.2.2.2.2.2.2.1) (fun r4 => some (r4, r2.2.1, r2.2.2.1, r2.2.2.2.1, r2.2.2.2.2.1, r2.2.2.2.2.2.1, r2.2.2.2.2.2.2.1, r2.2.2.2.2.2.2.2.1, r2.2.2.2.2.2.2.2.2.1, r2.2.2.2.2.2.2.2.2.2.1, r2.2.2.2.2.2.2.2.2.2.2.1, r2.2.2.2.2.2.2.2.2.2.2.2.1, r2.2.2.2.2.2.2.2.2.2.2.2.2.1, r2.2.2.2.2.2.2.2.2.2.2.2.2.2.1, r2.2.2.2.2.2.2.2.2.2.2.2.2.2.2)) else (if v1 = 1 then jn (f_X0_rightBits r2.2.2.2.2.2.2.2.2.2.1 r2.2.2.2.2.2.2.2.2.2.2.2.2.2.1) (fun r6 => some (r6, r2.2.1, r2.2.2.1, r2.2.2.2.1, r2.2.2.2.2.1, r2.2.2.2.2.2.1, r2.2.2.2.2.2.2.1, r2.2.2.2.2.2.2.2.1, r2.2.2.2.2.2.2.2.2.1, r2.2.2.2.2.2.2.2.2.2.1, r2.2.2.2.2.2.2.2.2.2.2.1, r2.2.2.2.2.2.2.2.2.2.2.2.1, r2.2.2.2.2.2.2.2.2.2.2.2.2.1, r2.2.2.2.2.2.2.2.2.2.2.2.2.2.1, r2.2.2.2.2.2.2.2.2.2.2.2.2.2.2)) else (if v1 = 2 then jn (f_X0_nickCount r2.2.2.2.2.2.2.2.2.1) (fun r8 => some (r8, r2.2.1, r2.2.2.1, r2.2.2.2.1, r2.2.2.2.2.1, r2.2.2.2.2.2.1, r2.2.2.2.2.2.2.1, r2.2.2.2.2.2.2.2.1, r2.2.2.2.2.2.2.2.2.1, r2.2.2.2.2.2.2.2.2.2.1, r2.2.2.2.2.2.2.2.2.2.2.1, r2.2.2.2.2.2.2.2.2.2.2.2.1, r2.2.2.2.2.2.2.2.2.2.2.2.2.1, r2.2.2.2.2.2.2.2.2.2.2.2.2.2.1, r2.2.2.2.2.2.2.2.2.2.2.2.2.2.2)) else (some (r2.2.2.2.2.2.2.2.2.2.2.2.2.2.2, r2.2.1, r2.2.2.1, r2.2.2.2.1, r2.2.2.2.2.1, r2.2.2.2.2.2.1, r2.2.2.2.2.2.2.1, r2.2.2.2.2.2.2.2.1, r2.2.2.2.2.2.2.2.2.1, r2.2.2.2.2.2.2.2.2.2.1, r2.2.2.2.2.2.2.2.2.2.2.1, r2.2.2.2.2.2.2.2.2.2.2.2.1, r2.2.2.2.2.2.2.2.2.2.2.2.2.1, r2.2.2.2.2.2.2.2.2.2.2.2.2.2.1, r2.2.2.2.2.2.2.2.2.2.2.2.2.2.2)))) else some (r2.1, r2.2.1, r2.2.2.1, r2.2.2.2.1, r2.2.2.2.2.1, r2.2.2.2.2.2.1, r2.2.2.2.2.2.2.1, r2.2.2.2.2.2.2.2.1, r2.2.2.2.2.2.2.2.2.1, r2.2.2.2.2.2.2.2.2.2.1, r2.2.2.2.2.2.2.2.2.2.2.1, r2.2.2.2.2.2.2.2.2.2.2.2.1, r2.2.2.2.2.2.2.2.2.2.2.2.2.1, r2.2.2.2.2.2.2.2.2.2.2.2.2.2.1, r2.2.2.2.2.2.2.2.2.2.2.2.2.2.2)))
set_option maxHeartbeats 4000000 in
set_option maxRecDepth 100000 in
theorem c_X8_house (l : Launch) (D : va_G) (T : Nat → ClassId) (hc : Nat) (an : Nat → Nat) (ap : Nat → Nat) (atr : Nat) (ag : Nat → Nat) (ad1 : Nat) (ad4 : Nat) (ad5 : Nat) (ad6 : Nat) (ad7 : Nat) (N_b : Nat → Int32) (N_n : Nat → Int32) (N_o : Nat → Int32) (N_s : Nat → Int32) (N_k : Nat → Int32) (N_h : Nat → Int32) (N_c : Nat → Int32) (N_m : Int32) (P_s : Nat → Int32) (P_n : Int32) (T_ac : Int32) (T_ba : Int32) (T_bw : Int32) (T_he : Int32) (T_wa : Int32) (T_wh : Int32) (gal_b : Nat → Int32) (gal_n : Nat → Int32) (gal_o : Nat → Int32) (gal_s : Nat → Int32) (gal_k : Nat → Int32) (gal_h : Nat → Int32) (gal_c : Nat → Int32) (gal_m : Int32) (v1 : Int32) (r : Int32 × Int32 × Int32 × Int32 × Int32 × Int32 × Int32 × (Nat → Int32) × (Nat → Int32) × (Nat → Int32) × (Nat → Int32) × (Nat → Int32) × (Nat → Int32) × (Nat → Int32) × Int32) (h : f_X8_house N_b N_n N_o N_s N_k N_h N_c N_m P_s P_n T_ac T_ba T_bw T_he T_wa T_wh gal_b gal_n gal_o gal_s gal_k gal_h gal_c gal_m v1 = some r) : Kt l D T yX8_house cX8_house 3 (some .int) (7, 0, 0, 157) [.ref hc, .int v1] (wC hc (an 0) ad1 (ap 0) atr ad4 ad5 ad6 ad7 ++ (wG T an N_b N_n N_o N_s N_k N_h N_c N_m ++ (wP T ap P_s P_n ++ (wT atr (ag 0) T_ac T_ba T_bw T_he T_wa T_wh ++ (wG T ag gal_b gal_n gal_o gal_s gal_k gal_h gal_c gal_m))))) (FF (fun (r : Int32 × Int32 × Int32 × Int32 × Int32 × Int32 × Int32 × (Nat → Int32) × (Nat → Int32) × (Nat → Int32) × (Nat → Int32) × (Nat → Int32) × (Nat → Int32) × (Nat → Int32) × Int32) => some (.int r.1)) (fun r => wC hc (an 0) ad1 (ap 0) atr ad4 ad5 ad6 ad7 ++ (wG T an N_b N_n N_o N_s N_k N_h N_c N_m ++ (wP T ap P_s P_n ++ (wT atr (ag 0) r.2.1 r.2.2.1 r.2.2.2.1 r.2.2.2.2.1 r.2.2.2.2.2.1 r.2.2.2.2.2.2.1 ++ (wG T ag r.2.2.2.2.2.2.2.1 r.2.2.2.2.2.2.2.2.1 r.2.2.2.2.2.2.2.2.2.1 r.2.2.2.2.2.2.2.2.2.2.1 r.2.2.2.2.2.2.2.2.2.2.2.1 r.2.2.2.2.2.2.2.2.2.2.2.2.1 r.2.2.2.2.2.2.2.2.2.2.2.2.2.1 r.2.2.2.2.2.2.2.2.2.2.2.2.2.2))))) r) := by
  refine kt_of (own := RX8) (nm := "house") (lv := [(0, .ref hc), (1, .int v1)]) (by decide) rfl rfl rfl (Nat.le_of_ble_eq_true rfl) h (fun X hn C M => ?_)
  have hnn : ((0, 0) : Nat × Nat).1 ≤ 0 ∧ ((0, 0) : Nat × Nat).2 ≤ 0 := ⟨Nat.le_refl 0, Nat.le_refl 0⟩
  unfold f_X8_house
  refine gg_iload_n C dX8_house_0 rfl 1 rfl ?_
  refine gg_iconst C dX8_house_1 kI_0 ?_
  refine gg_iconst C dX8_house_2 kI_3 ?_
  refine gg_callS C (fun l r h => c_X8_isWithin l D T v1 0 3 r h) lk_X8_66 ⟨by decide, by decide⟩ hnn rfl (rest := []) rfl (Nat.le_of_ble_eq_true rfl) dX8_house_3 cut_none (st2 := fun r1 => [.int r1]) (fun _ => rfl) (fun r1 => ?_)
  refine gg_if_ne C dX8_house_6 (tgt := 12) (by decide) (fun _ => ?_) (fun _ => ?_)
  · refine gg_aload_n C dX8_house_12 rfl 0 rfl ?_
    refine gg_callV C (fun l r h => c_X8_followText l D T hc an ap atr ag ad1 ad4 ad5 ad6 ad7 N_b N_n N_o N_s N_k N_h N_c N_m P_s P_n T_ac T_ba T_bw T_he T_wa T_wh gal_b gal_n gal_o gal_s gal_k gal_h gal_c gal_m r h) lk_X8_103 ⟨by decide, by decide⟩ hnn rfl (rest := []) rfl (Nat.le_of_ble_eq_true rfl) 0 rfl rfl dX8_house_13 (ws2 := fun r2 => wC hc (an 0) ad1 (ap 0) atr ad4 ad5 ad6 ad7 ++ (wG T an N_b N_n N_o N_s N_k N_h N_c N_m ++ (wP T ap P_s P_n ++ (wT atr (ag 0) r2.2.1 r2.2.2.1 r2.2.2.2.1 r2.2.2.2.2.1 r2.2.2.2.2.2.1 r2.2.2.2.2.2.2.1 ++ (wG T ag r2.2.2.2.2.2.2.2.1 r2.2.2.2.2.2.2.2.2.1 r2.2.2.2.2.2.2.2.2.2.1 r2.2.2.2.2.2.2.2.2.2.2.1 r2.2.2.2.2.2.2.2.2.2.2.2.1 r2.2.2.2.2.2.2.2.2.2.2.2.2.1 r2.2.2.2.2.2.2.2.2.2.2.2.2.2.1 r2.2.2.2.2.2.2.2.2.2.2.2.2.2.2))))) (cut_full (fun _ => rfl)) (st2 := fun r2 => [.int r2.1]) (fun _ => rfl) (fun r2 => ?_)
    refine gg_istore_n C dX8_house_16 rfl hn (by decide) (lv' := [(2, .int r2.1), (0, .ref hc), (1, .int v1)]) rfl ?_
    refine gg_iload_n C dX8_house_17 rfl 0 rfl ?_
    refine gg_if_eq C dX8_house_18 (tgt := 23) (by decide) (fun _ => ?_) (fun _ => ?_)
    · refine gg_iload_n C dX8_house_23 rfl 2 rfl ?_
      refine gg_ite (fun hs3 => ?_) (fun hs3 => ?_)
      · refine gg_tabIn C 0 dX8_house_24 (by rw [hs3]; decide) (by decide) (by decide) (off := 28) (by decide) (tgt := 52) (by decide) ?_
        refine gg_aload_n C dX8_house_52 rfl 1 rfl ?_
        refine gf_X8_33 C 0 rfl rfl dX8_house_53 ?_
        refine gf_X8_116 C 11 rfl rfl dX8_house_56 ?_
        refine gg_callV C (fun l r h => c_X0_chosenBits l D T ag r2.2.2.2.2.2.2.2.1 r2.2.2.2.2.2.2.2.2.1 r2.2.2.2.2.2.2.2.2.2.1 r2.2.2.2.2.2.2.2.2.2.2.1 r2.2.2.2.2.2.2.2.2.2.2.2.1 r2.2.2.2.2.2.2.2.2.2.2.2.2.1 r2.2.2.2.2.2.2.2.2.2.2.2.2.2.1 r2.2.2.2.2.2.2.2.2.2.2.2.2.2.2 r h) lk_X8_119 ⟨by decide, by decide⟩ hnn rfl (rest := []) rfl (Nat.le_of_ble_eq_true rfl) 12 rfl rfl dX8_house_59 (ws2 := fun r4 => wC hc (an 0) ad1 (ap 0) atr ad4 ad5 ad6 ad7 ++ (wG T an N_b N_n N_o N_s N_k N_h N_c N_m ++ (wP T ap P_s P_n ++ (wT atr (ag 0) r2.2.1 r2.2.2.1 r2.2.2.2.1 r2.2.2.2.2.1 r2.2.2.2.2.2.1 r2.2.2.2.2.2.2.1 ++ (wG T ag r2.2.2.2.2.2.2.2.1 r2.2.2.2.2.2.2.2.2.1 r2.2.2.2.2.2.2.2.2.2.1 r2.2.2.2.2.2.2.2.2.2.2.1 r2.2.2.2.2.2.2.2.2.2.2.2.1 r2.2.2.2.2.2.2.2.2.2.2.2.2.1 r2.2.2.2.2.2.2.2.2.2.2.2.2.2.1 r2.2.2.2.2.2.2.2.2.2.2.2.2.2.2))))) (cut_part 20 [12, 13, 14, 15, 16, 17, 18, 19] [0, 1, 2, 3, 4, 5, 6, 7, 8, 9, 10, 11] rfl (by decide) rfl (fun _ => rfl) (fun _ => rfl) (fun _ => rfl)) (st2 := fun r4 => [.int r4]) (fun _ => rfl) (fun r4 => ?_)
        exact gg_iret C M dX8_house_62 ⟨rfl, rfl⟩
      refine gg_ite (fun hs5 => ?_) (fun hs5 => ?_)
      · refine gg_tabIn C 1 dX8_house_24 (by rw [hs5]; decide) (by decide) (by decide) (off := 39) (by decide) (tgt := 63) (by decide) ?_
        refine gg_aload_n C dX8_house_63 rfl 1 rfl ?_
        refine gf_X8_33 C 0 rfl rfl dX8_house_64 ?_
        refine gf_X8_116 C 11 rfl rfl dX8_house_67 ?_
        refine gg_callV C (fun l r h => c_X0_rightBits l D T ag r2.2.2.2.2.2.2.2.1 r2.2.2.2.2.2.2.2.2.1 r2.2.2.2.2.2.2.2.2.2.1 r2.2.2.2.2.2.2.2.2.2.2.1 r2.2.2.2.2.2.2.2.2.2.2.2.1 r2.2.2.2.2.2.2.2.2.2.2.2.2.1 r2.2.2.2.2.2.2.2.2.2.2.2.2.2.1 r2.2.2.2.2.2.2.2.2.2.2.2.2.2.2 r h) lk_X8_122 ⟨by decide, by decide⟩ hnn rfl (rest := []) rfl (Nat.le_of_ble_eq_true rfl) 12 rfl rfl dX8_house_70 (ws2 := fun r6 => wC hc (an 0) ad1 (ap 0) atr ad4 ad5 ad6 ad7 ++ (wG T an N_b N_n N_o N_s N_k N_h N_c N_m ++ (wP T ap P_s P_n ++ (wT atr (ag 0) r2.2.1 r2.2.2.1 r2.2.2.2.1 r2.2.2.2.2.1 r2.2.2.2.2.2.1 r2.2.2.2.2.2.2.1 ++ (wG T ag r2.2.2.2.2.2.2.2.1 r2.2.2.2.2.2.2.2.2.1 r2.2.2.2.2.2.2.2.2.2.1 r2.2.2.2.2.2.2.2.2.2.2.1 r2.2.2.2.2.2.2.2.2.2.2.2.1 r2.2.2.2.2.2.2.2.2.2.2.2.2.1 r2.2.2.2.2.2.2.2.2.2.2.2.2.2.1 r2.2.2.2.2.2.2.2.2.2.2.2.2.2.2))))) (cut_part 20 [12, 13, 14, 15, 16, 17, 18, 19] [0, 1, 2, 3, 4, 5, 6, 7, 8, 9, 10, 11] rfl (by decide) rfl (fun _ => rfl) (fun _ => rfl) (fun _ => rfl)) (st2 := fun r6 => [.int r6]) (fun _ => rfl) (fun r6 => ?_)
        exact gg_iret C M dX8_house_73 ⟨rfl, rfl⟩
      refine gg_ite (fun hs7 => ?_) (fun hs7 => ?_)
      · refine gg_tabIn C 2 dX8_house_24 (by rw [hs7]; decide) (by decide) (by decide) (off := 50) (by decide) (tgt := 74) (by decide) ?_
        refine gg_aload_n C dX8_house_74 rfl 1 rfl ?_
        refine gf_X8_33 C 0 rfl rfl dX8_house_75 ?_
        refine gf_X8_116 C 11 rfl rfl dX8_house_78 ?_
        refine gg_callV C (fun l r h => c_X0_nickCount l D T ag r2.2.2.2.2.2.2.2.1 r2.2.2.2.2.2.2.2.2.1 r2.2.2.2.2.2.2.2.2.2.1 r2.2.2.2.2.2.2.2.2.2.2.1 r2.2.2.2.2.2.2.2.2.2.2.2.1 r2.2.2.2.2.2.2.2.2.2.2.2.2.1 r2.2.2.2.2.2.2.2.2.2.2.2.2.2.1 r2.2.2.2.2.2.2.2.2.2.2.2.2.2.2 r h) lk_X8_125 ⟨by decide, by decide⟩ hnn rfl (rest := []) rfl (Nat.le_of_ble_eq_true rfl) 12 rfl rfl dX8_house_81 (ws2 := fun r8 => wC hc (an 0) ad1 (ap 0) atr ad4 ad5 ad6 ad7 ++ (wG T an N_b N_n N_o N_s N_k N_h N_c N_m ++ (wP T ap P_s P_n ++ (wT atr (ag 0) r2.2.1 r2.2.2.1 r2.2.2.2.1 r2.2.2.2.2.1 r2.2.2.2.2.2.1 r2.2.2.2.2.2.2.1 ++ (wG T ag r2.2.2.2.2.2.2.2.1 r2.2.2.2.2.2.2.2.2.1 r2.2.2.2.2.2.2.2.2.2.1 r2.2.2.2.2.2.2.2.2.2.2.1 r2.2.2.2.2.2.2.2.2.2.2.2.1 r2.2.2.2.2.2.2.2.2.2.2.2.2.1 r2.2.2.2.2.2.2.2.2.2.2.2.2.2.1 r2.2.2.2.2.2.2.2.2.2.2.2.2.2.2))))) (cut_part 20 [12, 13, 14, 15, 16, 17, 18, 19] [0, 1, 2, 3, 4, 5, 6, 7, 8, 9, 10, 11] rfl (by decide) rfl (fun _ => rfl) (fun _ => rfl) (fun _ => rfl)) (st2 := fun r8 => [.int r8]) (fun _ => rfl) (fun r8 => ?_)
        exact gg_iret C M dX8_house_84 ⟨rfl, rfl⟩
      refine gg_tabOut C dX8_house_24 (by have q0 := lv_neT hs3 (a := 0) (by decide); have q1 := lv_neT hs5 (a := 1) (by decide); have q2 := lv_neT hs7 (a := 2) (by decide); omega) (tgt := 85) (by decide) ?_
      refine gg_aload_n C dX8_house_85 rfl 1 rfl ?_
      refine gf_X8_33 C 0 rfl rfl dX8_house_86 ?_
      refine gf_X8_116 C 11 rfl rfl dX8_house_89 ?_
      refine gf_X8_128 C 12 rfl rfl dX8_house_92 ?_
      exact gg_iret C M dX8_house_95 ⟨rfl, rfl⟩
    · refine gg_iload_n C dX8_house_21 rfl 0 rfl ?_
      exact gg_iret C M dX8_house_22 ⟨rfl, rfl⟩
  · refine gg_bipush C dX8_house_9 kB_m2 ?_
    exact gg_iret C M dX8_house_11 ⟨rfl, rfl⟩
def f_X8_wrong (N_b : Nat → Int32) (N_n : Nat → Int32) (N_o : Nat → Int32) (N_s : Nat → Int32) (N_k : Nat → Int32) (N_h : Nat → Int32) (N_c : Nat → Int32) (N_m : Int32) (P_s : Nat → Int32) (P_n : Int32) (T_ac : Int32) (T_ba : Int32) (T_bw : Int32) (T_he : Int32) (T_wa : Int32) (T_wh : Int32) (gal_b : Nat → Int32) (gal_n : Nat → Int32) (gal_o : Nat → Int32) (gal_s : Nat → Int32) (gal_k : Nat → Int32) (gal_h : Nat → Int32) (gal_c : Nat → Int32) (gal_m : Int32) (v1 : Int32) : Option (Int32 × Int32 × Int32 × Int32 × Int32 × Int32 × Int32 × (Nat → Int32) × (Nat → Int32) × (Nat → Int32) × (Nat → Int32) × (Nat → Int32) × (Nat → Int32) × (Nat → Int32) × Int32) := jn (f_X8_isWithin v1 0 1) (fun r1 => if r1 = 0 then some ((-2), T_ac, T_ba, T_bw, T_he, T_wa, T_wh, gal_b, gal_n, gal_o, gal_s, gal_k, gal_h, gal_c, gal_m) else jn (f_X8_followText N_b N_n N_o N_s N_k N_h N_c N_m P_s P_n T_ac T_ba T_bw T_he T_wa T_wh gal_b gal_n gal_o gal_s gal_k gal_h gal_c gal_m) (fun r2 => if r2.1 = 0 then if v1 = 0 then some (r2.2.2.2.2.2.1, r2.2.1, r2.2.2.1, r2.2.2.2.1, r2.2.2.2.2.1, r2.2.2.2.2.2.1, r2.2.2.2.2.2.2.1, r2.2.2.2.2.2.2.2.1, r2.2.2.2.2.2.2.2.2.1, r2.2.2.2.2.2.2.2.2.2.1, r2.2.2.2.2.2.2.2.2.2.2.1, r2.2.2.2.2.2.2.2.2.2.2.2.1, r2.2.2.2.2.2.2.2.2.2.2.2.2.1, r2.2.2.2.2.2.2.2.2.2.2.2.2.2.1, r2.2.2.2.2.2.2.2.2.2.2.2.2.2.2) else some (r2.2.2.2.2.2.2.1, r2.2.1, r2.2.2.1, r2.2.2.2.1, r2.2.2.2.2.1, r2.2.2.2.2.2.1, r2.2.2.2.2.2.2.1, r2.2.2.2.2.2.2.2.1, r2.2.2.2.2.2.2.2.2.1, r2.2.2.2.2.2.2.2.2.2.1, r2.2.2.2.2.2.2.2.2.2.2.1, r2.2.2.2.2.2.2.2.2.2.2.2.1, r2.2.2.2.2.2.2.2.2.2.2.2.2.1, r2.2.2.2.2.2.2.2.2.2.2.2.2.2.1, r2.2.2.2.2.2.2.2.2.2.2.2.2.2.2) else some (r2.1, r2.2.1, r2.2.2.1, r2.2.2.2.1, r2.2.2.2.2.1, r2.2.2.2.2.2.1, r2.2.2.2.2.2.2.1, r2.2.2.2.2.2.2.2.1, r2.2.2.2.2.2.2.2.2.1, r2.2.2.2.2.2.2.2.2.2.1, r2.2.2.2.2.2.2.2.2.2.2.1, r2.2.2.2.2.2.2.2.2.2.2.2.1, r2.2.2.2.2.2.2.2.2.2.2.2.2.1, r2.2.2.2.2.2.2.2.2.2.2.2.2.2.1, r2.2.2.2.2.2.2.2.2.2.2.2.2.2.2)))
set_option maxHeartbeats 4000000 in
set_option maxRecDepth 100000 in
theorem c_X8_wrong (l : Launch) (D : va_G) (T : Nat → ClassId) (hc : Nat) (an : Nat → Nat) (ap : Nat → Nat) (atr : Nat) (ag : Nat → Nat) (ad1 : Nat) (ad4 : Nat) (ad5 : Nat) (ad6 : Nat) (ad7 : Nat) (N_b : Nat → Int32) (N_n : Nat → Int32) (N_o : Nat → Int32) (N_s : Nat → Int32) (N_k : Nat → Int32) (N_h : Nat → Int32) (N_c : Nat → Int32) (N_m : Int32) (P_s : Nat → Int32) (P_n : Int32) (T_ac : Int32) (T_ba : Int32) (T_bw : Int32) (T_he : Int32) (T_wa : Int32) (T_wh : Int32) (gal_b : Nat → Int32) (gal_n : Nat → Int32) (gal_o : Nat → Int32) (gal_s : Nat → Int32) (gal_k : Nat → Int32) (gal_h : Nat → Int32) (gal_c : Nat → Int32) (gal_m : Int32) (v1 : Int32) (r : Int32 × Int32 × Int32 × Int32 × Int32 × Int32 × Int32 × (Nat → Int32) × (Nat → Int32) × (Nat → Int32) × (Nat → Int32) × (Nat → Int32) × (Nat → Int32) × (Nat → Int32) × Int32) (h : f_X8_wrong N_b N_n N_o N_s N_k N_h N_c N_m P_s P_n T_ac T_ba T_bw T_he T_wa T_wh gal_b gal_n gal_o gal_s gal_k gal_h gal_c gal_m v1 = some r) : Kt l D T yX8_wrong cX8_wrong 3 (some .int) (7, 0, 0, 157) [.ref hc, .int v1] (wC hc (an 0) ad1 (ap 0) atr ad4 ad5 ad6 ad7 ++ (wG T an N_b N_n N_o N_s N_k N_h N_c N_m ++ (wP T ap P_s P_n ++ (wT atr (ag 0) T_ac T_ba T_bw T_he T_wa T_wh ++ (wG T ag gal_b gal_n gal_o gal_s gal_k gal_h gal_c gal_m))))) (FF (fun (r : Int32 × Int32 × Int32 × Int32 × Int32 × Int32 × Int32 × (Nat → Int32) × (Nat → Int32) × (Nat → Int32) × (Nat → Int32) × (Nat → Int32) × (Nat → Int32) × (Nat → Int32) × Int32) => some (.int r.1)) (fun r => wC hc (an 0) ad1 (ap 0) atr ad4 ad5 ad6 ad7 ++ (wG T an N_b N_n N_o N_s N_k N_h N_c N_m ++ (wP T ap P_s P_n ++ (wT atr (ag 0) r.2.1 r.2.2.1 r.2.2.2.1 r.2.2.2.2.1 r.2.2.2.2.2.1 r.2.2.2.2.2.2.1 ++ (wG T ag r.2.2.2.2.2.2.2.1 r.2.2.2.2.2.2.2.2.1 r.2.2.2.2.2.2.2.2.2.1 r.2.2.2.2.2.2.2.2.2.2.1 r.2.2.2.2.2.2.2.2.2.2.2.1 r.2.2.2.2.2.2.2.2.2.2.2.2.1 r.2.2.2.2.2.2.2.2.2.2.2.2.2.1 r.2.2.2.2.2.2.2.2.2.2.2.2.2.2))))) r) := by
  refine kt_of (own := RX8) (nm := "wrong") (lv := [(0, .ref hc), (1, .int v1)]) (by decide) rfl rfl rfl (Nat.le_of_ble_eq_true rfl) h (fun X hn C M => ?_)
  have hnn : ((0, 0) : Nat × Nat).1 ≤ 0 ∧ ((0, 0) : Nat × Nat).2 ≤ 0 := ⟨Nat.le_refl 0, Nat.le_refl 0⟩
  unfold f_X8_wrong
  refine gg_iload_n C dX8_wrong_0 rfl 1 rfl ?_
  refine gg_iconst C dX8_wrong_1 kI_0 ?_
  refine gg_iconst C dX8_wrong_2 kI_1 ?_
  refine gg_callS C (fun l r h => c_X8_isWithin l D T v1 0 1 r h) lk_X8_66 ⟨by decide, by decide⟩ hnn rfl (rest := []) rfl (Nat.le_of_ble_eq_true rfl) dX8_wrong_3 cut_none (st2 := fun r1 => [.int r1]) (fun _ => rfl) (fun r1 => ?_)
  refine gg_if_ne C dX8_wrong_6 (tgt := 12) (by decide) (fun _ => ?_) (fun _ => ?_)
  · refine gg_aload_n C dX8_wrong_12 rfl 0 rfl ?_
    refine gg_callV C (fun l r h => c_X8_followText l D T hc an ap atr ag ad1 ad4 ad5 ad6 ad7 N_b N_n N_o N_s N_k N_h N_c N_m P_s P_n T_ac T_ba T_bw T_he T_wa T_wh gal_b gal_n gal_o gal_s gal_k gal_h gal_c gal_m r h) lk_X8_103 ⟨by decide, by decide⟩ hnn rfl (rest := []) rfl (Nat.le_of_ble_eq_true rfl) 0 rfl rfl dX8_wrong_13 (ws2 := fun r2 => wC hc (an 0) ad1 (ap 0) atr ad4 ad5 ad6 ad7 ++ (wG T an N_b N_n N_o N_s N_k N_h N_c N_m ++ (wP T ap P_s P_n ++ (wT atr (ag 0) r2.2.1 r2.2.2.1 r2.2.2.2.1 r2.2.2.2.2.1 r2.2.2.2.2.2.1 r2.2.2.2.2.2.2.1 ++ (wG T ag r2.2.2.2.2.2.2.2.1 r2.2.2.2.2.2.2.2.2.1 r2.2.2.2.2.2.2.2.2.2.1 r2.2.2.2.2.2.2.2.2.2.2.1 r2.2.2.2.2.2.2.2.2.2.2.2.1 r2.2.2.2.2.2.2.2.2.2.2.2.2.1 r2.2.2.2.2.2.2.2.2.2.2.2.2.2.1 r2.2.2.2.2.2.2.2.2.2.2.2.2.2.2))))) (cut_full (fun _ => rfl)) (st2 := fun r2 => [.int r2.1]) (fun _ => rfl) (fun r2 => ?_)
    refine gg_istore_n C dX8_wrong_16 rfl hn (by decide) (lv' := [(2, .int r2.1), (0, .ref hc), (1, .int v1)]) rfl ?_
    refine gg_iload_n C dX8_wrong_17 rfl 0 rfl ?_
    refine gg_if_eq C dX8_wrong_18 (tgt := 23) (by decide) (fun _ => ?_) (fun _ => ?_)
    · refine gg_iload_n C dX8_wrong_23 rfl 2 rfl ?_
      refine gg_if_ne C dX8_wrong_24 (tgt := 37) (by decide) (fun _ => ?_) (fun _ => ?_)
      · refine gg_aload_n C dX8_wrong_37 rfl 1 rfl ?_
        refine gf_X8_33 C 0 rfl rfl dX8_wrong_38 ?_
        refine gf_X8_134 C 11 rfl rfl dX8_wrong_41 ?_
        exact gg_iret C M dX8_wrong_44 ⟨rfl, rfl⟩
      · refine gg_aload_n C dX8_wrong_27 rfl 1 rfl ?_
        refine gf_X8_33 C 0 rfl rfl dX8_wrong_28 ?_
        refine gf_X8_131 C 11 rfl rfl dX8_wrong_31 ?_
        refine gg_goto C dX8_wrong_34 (tgt := 44) (by decide) ?_
        exact gg_iret C M dX8_wrong_44 ⟨rfl, rfl⟩
    · refine gg_iload_n C dX8_wrong_21 rfl 0 rfl ?_
      exact gg_iret C M dX8_wrong_22 ⟨rfl, rfl⟩
  · refine gg_bipush C dX8_wrong_9 kB_m2 ?_
    exact gg_iret C M dX8_wrong_11 ⟨rfl, rfl⟩
def f_X8_done (N_b : Nat → Int32) (N_n : Nat → Int32) (N_o : Nat → Int32) (N_s : Nat → Int32) (N_k : Nat → Int32) (N_h : Nat → Int32) (N_c : Nat → Int32) (N_m : Int32) (P_s : Nat → Int32) (P_n : Int32) (T_ac : Int32) (T_ba : Int32) (T_bw : Int32) (T_he : Int32) (T_wa : Int32) (T_wh : Int32) (gal_b : Nat → Int32) (gal_n : Nat → Int32) (gal_o : Nat → Int32) (gal_s : Nat → Int32) (gal_k : Nat → Int32) (gal_h : Nat → Int32) (gal_c : Nat → Int32) (gal_m : Int32) : Option (Int32 × (Nat → Int32) × (Nat → Int32) × (Nat → Int32) × (Nat → Int32) × (Nat → Int32) × (Nat → Int32) × (Nat → Int32) × Int32 × Int32 × Int32 × Int32 × Int32 × Int32 × Int32 × Int32 × (Nat → Int32) × (Nat → Int32) × (Nat → Int32) × (Nat → Int32) × (Nat → Int32) × (Nat → Int32) × (Nat → Int32) × Int32) := jn (f_X8_followText N_b N_n N_o N_s N_k N_h N_c N_m P_s P_n T_ac T_ba T_bw T_he T_wa T_wh gal_b gal_n gal_o gal_s gal_k gal_h gal_c gal_m) (fun r1 => if r1.1 = 0 then jn (f_X0_copyFrom N_b N_n N_o N_s N_k N_h N_c r1.2.2.2.2.2.2.2.1 r1.2.2.2.2.2.2.2.2.1 r1.2.2.2.2.2.2.2.2.2.1 r1.2.2.2.2.2.2.2.2.2.2.1 r1.2.2.2.2.2.2.2.2.2.2.2.1 r1.2.2.2.2.2.2.2.2.2.2.2.2.1 r1.2.2.2.2.2.2.2.2.2.2.2.2.2.1 r1.2.2.2.2.2.2.2.2.2.2.2.2.2.2) (fun r2 => jn (f_X2_clear P_n) (fun r3 => some (r1.2.1, r2.1, r2.2.1, r2.2.2.1, r2.2.2.2.1, r2.2.2.2.2.1, r2.2.2.2.2.2.1, r2.2.2.2.2.2.2.1, r2.2.2.2.2.2.2.2, r3.2, r1.2.1, r1.2.2.1, r1.2.2.2.1, r1.2.2.2.2.1, r1.2.2.2.2.2.1, r1.2.2.2.2.2.2.1, r1.2.2.2.2.2.2.2.1, r1.2.2.2.2.2.2.2.2.1, r1.2.2.2.2.2.2.2.2.2.1, r1.2.2.2.2.2.2.2.2.2.2.1, r1.2.2.2.2.2.2.2.2.2.2.2.1, r1.2.2.2.2.2.2.2.2.2.2.2.2.1, r1.2.2.2.2.2.2.2.2.2.2.2.2.2.1, r1.2.2.2.2.2.2.2.2.2.2.2.2.2.2))) else some (r1.1, N_b, N_n, N_o, N_s, N_k, N_h, N_c, N_m, P_n, r1.2.1, r1.2.2.1, r1.2.2.2.1, r1.2.2.2.2.1, r1.2.2.2.2.2.1, r1.2.2.2.2.2.2.1, r1.2.2.2.2.2.2.2.1, r1.2.2.2.2.2.2.2.2.1, r1.2.2.2.2.2.2.2.2.2.1, r1.2.2.2.2.2.2.2.2.2.2.1, r1.2.2.2.2.2.2.2.2.2.2.2.1, r1.2.2.2.2.2.2.2.2.2.2.2.2.1, r1.2.2.2.2.2.2.2.2.2.2.2.2.2.1, r1.2.2.2.2.2.2.2.2.2.2.2.2.2.2))
set_option maxHeartbeats 4000000 in
set_option maxRecDepth 100000 in
theorem c_X8_done (l : Launch) (D : va_G) (T : Nat → ClassId) (hc : Nat) (an : Nat → Nat) (ap : Nat → Nat) (atr : Nat) (ag : Nat → Nat) (ad1 : Nat) (ad4 : Nat) (ad5 : Nat) (ad6 : Nat) (ad7 : Nat) (N_b : Nat → Int32) (N_n : Nat → Int32) (N_o : Nat → Int32) (N_s : Nat → Int32) (N_k : Nat → Int32) (N_h : Nat → Int32) (N_c : Nat → Int32) (N_m : Int32) (P_s : Nat → Int32) (P_n : Int32) (T_ac : Int32) (T_ba : Int32) (T_bw : Int32) (T_he : Int32) (T_wa : Int32) (T_wh : Int32) (gal_b : Nat → Int32) (gal_n : Nat → Int32) (gal_o : Nat → Int32) (gal_s : Nat → Int32) (gal_k : Nat → Int32) (gal_h : Nat → Int32) (gal_c : Nat → Int32) (gal_m : Int32) (r : Int32 × (Nat → Int32) × (Nat → Int32) × (Nat → Int32) × (Nat → Int32) × (Nat → Int32) × (Nat → Int32) × (Nat → Int32) × Int32 × Int32 × Int32 × Int32 × Int32 × Int32 × Int32 × Int32 × (Nat → Int32) × (Nat → Int32) × (Nat → Int32) × (Nat → Int32) × (Nat → Int32) × (Nat → Int32) × (Nat → Int32) × Int32) (h : f_X8_done N_b N_n N_o N_s N_k N_h N_c N_m P_s P_n T_ac T_ba T_bw T_he T_wa T_wh gal_b gal_n gal_o gal_s gal_k gal_h gal_c gal_m = some r) : Kt l D T yX8_done cX8_done 2 (some .int) (7, 0, 0, 157) [.ref hc] (wC hc (an 0) ad1 (ap 0) atr ad4 ad5 ad6 ad7 ++ (wG T an N_b N_n N_o N_s N_k N_h N_c N_m ++ (wP T ap P_s P_n ++ (wT atr (ag 0) T_ac T_ba T_bw T_he T_wa T_wh ++ (wG T ag gal_b gal_n gal_o gal_s gal_k gal_h gal_c gal_m))))) (FF (fun (r : Int32 × (Nat → Int32) × (Nat → Int32) × (Nat → Int32) × (Nat → Int32) × (Nat → Int32) × (Nat → Int32) × (Nat → Int32) × Int32 × Int32 × Int32 × Int32 × Int32 × Int32 × Int32 × Int32 × (Nat → Int32) × (Nat → Int32) × (Nat → Int32) × (Nat → Int32) × (Nat → Int32) × (Nat → Int32) × (Nat → Int32) × Int32) => some (.int r.1)) (fun r => wC hc (an 0) ad1 (ap 0) atr ad4 ad5 ad6 ad7 ++ (wG T an r.2.1 r.2.2.1 r.2.2.2.1 r.2.2.2.2.1 r.2.2.2.2.2.1 r.2.2.2.2.2.2.1 r.2.2.2.2.2.2.2.1 r.2.2.2.2.2.2.2.2.1 ++ (wP T ap P_s r.2.2.2.2.2.2.2.2.2.1 ++ (wT atr (ag 0) r.2.2.2.2.2.2.2.2.2.2.1 r.2.2.2.2.2.2.2.2.2.2.2.1 r.2.2.2.2.2.2.2.2.2.2.2.2.1 r.2.2.2.2.2.2.2.2.2.2.2.2.2.1 r.2.2.2.2.2.2.2.2.2.2.2.2.2.2.1 r.2.2.2.2.2.2.2.2.2.2.2.2.2.2.2.1 ++ (wG T ag r.2.2.2.2.2.2.2.2.2.2.2.2.2.2.2.2.1 r.2.2.2.2.2.2.2.2.2.2.2.2.2.2.2.2.2.1 r.2.2.2.2.2.2.2.2.2.2.2.2.2.2.2.2.2.2.1 r.2.2.2.2.2.2.2.2.2.2.2.2.2.2.2.2.2.2.2.1 r.2.2.2.2.2.2.2.2.2.2.2.2.2.2.2.2.2.2.2.2.1 r.2.2.2.2.2.2.2.2.2.2.2.2.2.2.2.2.2.2.2.2.2.1 r.2.2.2.2.2.2.2.2.2.2.2.2.2.2.2.2.2.2.2.2.2.2.1 r.2.2.2.2.2.2.2.2.2.2.2.2.2.2.2.2.2.2.2.2.2.2.2))))) r) := by
  refine kt_of (own := RX8) (nm := "done") (lv := [(0, .ref hc)]) (by decide) rfl rfl rfl (Nat.le_of_ble_eq_true rfl) h (fun X hn C M => ?_)
  have hnn : ((0, 0) : Nat × Nat).1 ≤ 0 ∧ ((0, 0) : Nat × Nat).2 ≤ 0 := ⟨Nat.le_refl 0, Nat.le_refl 0⟩
  unfold f_X8_done
  refine gg_aload_n C dX8_done_0 rfl 0 rfl ?_
  refine gg_callV C (fun l r h => c_X8_followText l D T hc an ap atr ag ad1 ad4 ad5 ad6 ad7 N_b N_n N_o N_s N_k N_h N_c N_m P_s P_n T_ac T_ba T_bw T_he T_wa T_wh gal_b gal_n gal_o gal_s gal_k gal_h gal_c gal_m r h) lk_X8_103 ⟨by decide, by decide⟩ hnn rfl (rest := []) rfl (Nat.le_of_ble_eq_true rfl) 0 rfl rfl dX8_done_1 (ws2 := fun r1 => wC hc (an 0) ad1 (ap 0) atr ad4 ad5 ad6 ad7 ++ (wG T an N_b N_n N_o N_s N_k N_h N_c N_m ++ (wP T ap P_s P_n ++ (wT atr (ag 0) r1.2.1 r1.2.2.1 r1.2.2.2.1 r1.2.2.2.2.1 r1.2.2.2.2.2.1 r1.2.2.2.2.2.2.1 ++ (wG T ag r1.2.2.2.2.2.2.2.1 r1.2.2.2.2.2.2.2.2.1 r1.2.2.2.2.2.2.2.2.2.1 r1.2.2.2.2.2.2.2.2.2.2.1 r1.2.2.2.2.2.2.2.2.2.2.2.1 r1.2.2.2.2.2.2.2.2.2.2.2.2.1 r1.2.2.2.2.2.2.2.2.2.2.2.2.2.1 r1.2.2.2.2.2.2.2.2.2.2.2.2.2.2))))) (cut_full (fun _ => rfl)) (st2 := fun r1 => [.int r1.1]) (fun _ => rfl) (fun r1 => ?_)
  refine gg_istore_n C dX8_done_4 rfl hn (by decide) (lv' := [(1, .int r1.1), (0, .ref hc)]) rfl ?_
  refine gg_iload_n C dX8_done_5 rfl 0 rfl ?_
  refine gg_if_eq C dX8_done_6 (tgt := 11) (by decide) (fun _ => ?_) (fun _ => ?_)
  · refine gg_aload_n C dX8_done_11 rfl 1 rfl ?_
    refine gf_X8_10 C 0 rfl rfl dX8_done_12 ?_
    refine gg_aload_n C dX8_done_15 rfl 1 rfl ?_
    refine gf_X8_33 C 0 rfl rfl dX8_done_16 ?_
    refine gf_X8_116 C 11 rfl rfl dX8_done_19 ?_
    refine gg_callV C (fun l r h => c_X0_copyFrom l D T an ag N_b N_n N_o N_s N_k N_h N_c N_m r1.2.2.2.2.2.2.2.1 r1.2.2.2.2.2.2.2.2.1 r1.2.2.2.2.2.2.2.2.2.1 r1.2.2.2.2.2.2.2.2.2.2.1 r1.2.2.2.2.2.2.2.2.2.2.2.1 r1.2.2.2.2.2.2.2.2.2.2.2.2.1 r1.2.2.2.2.2.2.2.2.2.2.2.2.2.1 r1.2.2.2.2.2.2.2.2.2.2.2.2.2.2 r h) lk_X8_137 ⟨by decide, by decide⟩ hnn rfl (rest := []) rfl (Nat.le_of_ble_eq_true rfl) 1 rfl rfl dX8_done_22 (ws2 := fun r2 => wC hc (an 0) ad1 (ap 0) atr ad4 ad5 ad6 ad7 ++ (wG T an r2.1 r2.2.1 r2.2.2.1 r2.2.2.2.1 r2.2.2.2.2.1 r2.2.2.2.2.2.1 r2.2.2.2.2.2.2.1 r2.2.2.2.2.2.2.2 ++ (wP T ap P_s P_n ++ (wT atr (ag 0) r1.2.1 r1.2.2.1 r1.2.2.2.1 r1.2.2.2.2.1 r1.2.2.2.2.2.1 r1.2.2.2.2.2.2.1 ++ (wG T ag r1.2.2.2.2.2.2.2.1 r1.2.2.2.2.2.2.2.2.1 r1.2.2.2.2.2.2.2.2.2.1 r1.2.2.2.2.2.2.2.2.2.2.1 r1.2.2.2.2.2.2.2.2.2.2.2.1 r1.2.2.2.2.2.2.2.2.2.2.2.2.1 r1.2.2.2.2.2.2.2.2.2.2.2.2.2.1 r1.2.2.2.2.2.2.2.2.2.2.2.2.2.2))))) (cut_part 20 [1, 2, 3, 4, 5, 6, 7, 8, 12, 13, 14, 15, 16, 17, 18, 19] [0, 9, 10, 11] rfl (by decide) rfl (fun _ => rfl) (fun _ => rfl) (fun _ => rfl)) (st2 := fun r2 => []) (fun _ => rfl) (fun r2 => ?_)
    refine gg_aload_n C dX8_done_25 rfl 1 rfl ?_
    refine gf_X8_26 C 0 rfl rfl dX8_done_26 ?_
    refine gg_callV C (fun l r h => c_X2_clear l D T ap P_s P_n r h) lk_X8_96 ⟨by decide, by decide⟩ hnn rfl (rest := []) rfl (Nat.le_of_ble_eq_true rfl) 9 rfl rfl dX8_done_29 (ws2 := fun r3 => wC hc (an 0) ad1 (ap 0) atr ad4 ad5 ad6 ad7 ++ (wG T an r2.1 r2.2.1 r2.2.2.1 r2.2.2.2.1 r2.2.2.2.2.1 r2.2.2.2.2.2.1 r2.2.2.2.2.2.2.1 r2.2.2.2.2.2.2.2 ++ (wP T ap P_s r3.2 ++ (wT atr (ag 0) r1.2.1 r1.2.2.1 r1.2.2.2.1 r1.2.2.2.2.1 r1.2.2.2.2.2.1 r1.2.2.2.2.2.2.1 ++ (wG T ag r1.2.2.2.2.2.2.2.1 r1.2.2.2.2.2.2.2.2.1 r1.2.2.2.2.2.2.2.2.2.1 r1.2.2.2.2.2.2.2.2.2.2.1 r1.2.2.2.2.2.2.2.2.2.2.2.1 r1.2.2.2.2.2.2.2.2.2.2.2.2.1 r1.2.2.2.2.2.2.2.2.2.2.2.2.2.1 r1.2.2.2.2.2.2.2.2.2.2.2.2.2.2))))) (cut_part 20 [9, 10] [0, 1, 2, 3, 4, 5, 6, 7, 8, 11, 12, 13, 14, 15, 16, 17, 18, 19] rfl (by decide) rfl (fun _ => rfl) (fun _ => rfl) (fun _ => rfl)) (st2 := fun r3 => [.int r3.1]) (fun _ => rfl) (fun r3 => ?_)
    refine gg_pop C dX8_done_32 rfl ?_
    refine gg_aload_n C dX8_done_33 rfl 1 rfl ?_
    refine gf_X8_33 C 0 rfl rfl dX8_done_34 ?_
    refine gf_X8_141 C 11 rfl rfl dX8_done_37 ?_
    exact gg_iret C M dX8_done_40 ⟨rfl, rfl⟩
  · refine gg_iload_n C dX8_done_9 rfl 0 rfl ?_
    exact gg_iret C M dX8_done_10 ⟨rfl, rfl⟩
def f_X8_seek (v1 : Int32) (v2 : Int32) (v3 : Int32) (v4 : Int32) : Option (Int64) := jn (f_X5_isAsTold v1 v2 v3) (fun r1 => if r1 = 0 then some (-1000000000000000002) else jn (f_X8_isWithin v4 0 1) (fun r2 => if r2 = 0 then some (-1000000000000000002) else jn (f_X5_leastSum v1 v2 v3) (fun r3 => jn (f_X5_digitSum v1 v3) (fun r4 => jn (f_X8_lowestTerm r3 r4 v4) (fun r5 => some r5)))))
set_option maxHeartbeats 4000000 in
set_option maxRecDepth 100000 in
theorem c_X8_seek (l : Launch) (D : va_G) (T : Nat → ClassId) (hc : Nat) (ad0 : Nat) (ad1 : Nat) (ad2 : Nat) (ad3 : Nat) (ad4 : Nat) (ad5 : Nat) (ad6 : Nat) (ad7 : Nat) (v1 : Int32) (v2 : Int32) (v3 : Int32) (v4 : Int32) (r : Int64) (h : f_X8_seek v1 v2 v3 v4 = some r) : Kt l D T yX8_seek cX8_seek 5 (some .long) (4, 0, 0, 89) [.ref hc, .int v1, .int v2, .int v3, .int v4] (wC hc ad0 ad1 ad2 ad3 ad4 ad5 ad6 ad7) (FF (fun (r : Int64) => some (.long r)) (fun r => wC hc ad0 ad1 ad2 ad3 ad4 ad5 ad6 ad7) r) := by
  refine kt_of (own := RX8) (nm := "seek") (lv := [(0, .ref hc), (1, .int v1), (2, .int v2), (3, .int v3), (4, .int v4)]) (by decide) rfl rfl rfl (Nat.le_of_ble_eq_true rfl) h (fun X hn C M => ?_)
  have hnn : ((0, 0) : Nat × Nat).1 ≤ 0 ∧ ((0, 0) : Nat × Nat).2 ≤ 0 := ⟨Nat.le_refl 0, Nat.le_refl 0⟩
  unfold f_X8_seek
  refine gg_iload_n C dX8_seek_0 rfl 1 rfl ?_
  refine gg_iload_n C dX8_seek_1 rfl 2 rfl ?_
  refine gg_iload_n C dX8_seek_2 rfl 3 rfl ?_
  refine gg_callS C (fun l r h => c_X5_isAsTold l D T v1 v2 v3 r h) lk_X8_144 ⟨by decide, by decide⟩ hnn rfl (rest := []) rfl (Nat.le_of_ble_eq_true rfl) dX8_seek_3 cut_none (st2 := fun r1 => [.int r1]) (fun _ => rfl) (fun r1 => ?_)
  refine gg_if_eq C dX8_seek_6 (tgt := 19) (by decide) (fun _ => ?_) (fun _ => ?_)
  · refine gg_ldc2 C tw_374 dX8_seek_19 ?_
    exact gg_lret C M dX8_seek_22 ⟨rfl, rfl⟩
  · refine gg_iload C dX8_seek_9 4 rfl ?_
    refine gg_iconst C dX8_seek_11 kI_0 ?_
    refine gg_iconst C dX8_seek_12 kI_1 ?_
    refine gg_callS C (fun l r h => c_X8_isWithin l D T v4 0 1 r h) lk_X8_66 ⟨by decide, by decide⟩ hnn rfl (rest := []) rfl (Nat.le_of_ble_eq_true rfl) dX8_seek_13 cut_none (st2 := fun r2 => [.int r2]) (fun _ => rfl) (fun r2 => ?_)
    refine gg_if_ne C dX8_seek_16 (tgt := 23) (by decide) (fun _ => ?_) (fun _ => ?_)
    · refine gg_iload_n C dX8_seek_23 rfl 1 rfl ?_
      refine gg_iload_n C dX8_seek_24 rfl 2 rfl ?_
      refine gg_iload_n C dX8_seek_25 rfl 3 rfl ?_
      refine gg_callS C (fun l r h => c_X5_leastSum l D T v1 v2 v3 r h) lk_X8_151 ⟨by decide, by decide⟩ hnn rfl (rest := []) rfl (Nat.le_of_ble_eq_true rfl) dX8_seek_26 cut_none (st2 := fun r3 => [.long r3]) (fun _ => rfl) (fun r3 => ?_)
      refine gg_iload_n C dX8_seek_29 rfl 1 rfl ?_
      refine gg_iload_n C dX8_seek_30 rfl 3 rfl ?_
      refine gg_callS C (fun l r h => c_X5_digitSum l D T v1 v3 r h) lk_X8_155 ⟨by decide, by decide⟩ hnn rfl (rest := [.long r3]) rfl (Nat.le_of_ble_eq_true rfl) dX8_seek_31 cut_none (st2 := fun r4 => [.long r4, .long r3]) (fun _ => rfl) (fun r4 => ?_)
      refine gg_iload C dX8_seek_34 4 rfl ?_
      refine gg_callS C (fun l r h => c_X8_lowestTerm l D T r3 r4 v4 r h) lk_X8_159 ⟨by decide, by decide⟩ hnn rfl (rest := []) rfl (Nat.le_of_ble_eq_true rfl) dX8_seek_36 cut_none (st2 := fun r5 => [.long r5]) (fun _ => rfl) (fun r5 => ?_)
      exact gg_lret C M dX8_seek_39 ⟨rfl, rfl⟩
    · refine gg_ldc2 C tw_374 dX8_seek_19 ?_
      exact gg_lret C M dX8_seek_22 ⟨rfl, rfl⟩
def f_X8_looks (v1 : Int32) (v2 : Int32) (v3 : Int32) : Option (Int32) := jn (f_X5_isAsTold v1 v2 v3) (fun r1 => if r1 = 0 then some (-2) else jn (f_X5_first v1 v2 v3) (fun r2 => some r2))
set_option maxHeartbeats 4000000 in
set_option maxRecDepth 100000 in
theorem c_X8_looks (l : Launch) (D : va_G) (T : Nat → ClassId) (hc : Nat) (ad0 : Nat) (ad1 : Nat) (ad2 : Nat) (ad3 : Nat) (ad4 : Nat) (ad5 : Nat) (ad6 : Nat) (ad7 : Nat) (v1 : Int32) (v2 : Int32) (v3 : Int32) (r : Int32) (h : f_X8_looks v1 v2 v3 = some r) : Kt l D T yX8_looks cX8_looks 4 (some .int) (4, 0, 0, 89) [.ref hc, .int v1, .int v2, .int v3] (wC hc ad0 ad1 ad2 ad3 ad4 ad5 ad6 ad7) (FF (fun (r : Int32) => some (.int r)) (fun r => wC hc ad0 ad1 ad2 ad3 ad4 ad5 ad6 ad7) r) := by
  refine kt_of (own := RX8) (nm := "looks") (lv := [(0, .ref hc), (1, .int v1), (2, .int v2), (3, .int v3)]) (by decide) rfl rfl rfl (Nat.le_of_ble_eq_true rfl) h (fun X hn C M => ?_)
  have hnn : ((0, 0) : Nat × Nat).1 ≤ 0 ∧ ((0, 0) : Nat × Nat).2 ≤ 0 := ⟨Nat.le_refl 0, Nat.le_refl 0⟩
  unfold f_X8_looks
  refine gg_iload_n C dX8_looks_0 rfl 1 rfl ?_
  refine gg_iload_n C dX8_looks_1 rfl 2 rfl ?_
  refine gg_iload_n C dX8_looks_2 rfl 3 rfl ?_
  refine gg_callS C (fun l r h => c_X5_isAsTold l D T v1 v2 v3 r h) lk_X8_144 ⟨by decide, by decide⟩ hnn rfl (rest := []) rfl (Nat.le_of_ble_eq_true rfl) dX8_looks_3 cut_none (st2 := fun r1 => [.int r1]) (fun _ => rfl) (fun r1 => ?_)
  refine gg_if_ne C dX8_looks_6 (tgt := 12) (by decide) (fun _ => ?_) (fun _ => ?_)
  · refine gg_iload_n C dX8_looks_12 rfl 1 rfl ?_
    refine gg_iload_n C dX8_looks_13 rfl 2 rfl ?_
    refine gg_iload_n C dX8_looks_14 rfl 3 rfl ?_
    refine gg_callS C (fun l r h => c_X5_first l D T v1 v2 v3 r h) lk_X8_163 ⟨by decide, by decide⟩ hnn rfl (rest := []) rfl (Nat.le_of_ble_eq_true rfl) dX8_looks_15 cut_none (st2 := fun r2 => [.int r2]) (fun _ => rfl) (fun r2 => ?_)
    exact gg_iret C M dX8_looks_18 ⟨rfl, rfl⟩
  · refine gg_bipush C dX8_looks_9 kB_m2 ?_
    exact gg_iret C M dX8_looks_11 ⟨rfl, rfl⟩
def f_X8_mix (v1 : Int32) (v2 : Int32) (v3 : Int32) (v4 : Int32) : Option (Int32) := jn (f_X8_isWithin v1 2 998) (fun r1 => if r1 = 0 then some (-2) else if v1 - v1 / 2 * 2 = 0 then jn (f_X8_isWithin v2 0 (v1 - 1)) (fun r2 => if r2 = 0 then some (-2) else jn (f_X8_isWithin v3 0 999999999) (fun r3 => if r3 = 0 then some (-2) else jn (f_X8_isWithin v4 0 1) (fun r4 => if r4 = 0 then some (-2) else if v4 = 0 then jn (f_X1_placeBehind v1 v2 v3) (fun r6 => some r6) else jn (f_X1_round v1) (fun r5 => some r5)))) else some (-2))
set_option maxHeartbeats 4000000 in
set_option maxRecDepth 100000 in
theorem c_X8_mix (l : Launch) (D : va_G) (T : Nat → ClassId) (hc : Nat) (ad0 : Nat) (ad1 : Nat) (ad2 : Nat) (ad3 : Nat) (ad4 : Nat) (ad5 : Nat) (ad6 : Nat) (ad7 : Nat) (v1 : Int32) (v2 : Int32) (v3 : Int32) (v4 : Int32) (r : Int32) (h : f_X8_mix v1 v2 v3 v4 = some r) : Kt l D T yX8_mix cX8_mix 5 (some .int) (1, 0, 0, 26) [.ref hc, .int v1, .int v2, .int v3, .int v4] (wC hc ad0 ad1 ad2 ad3 ad4 ad5 ad6 ad7) (FF (fun (r : Int32) => some (.int r)) (fun r => wC hc ad0 ad1 ad2 ad3 ad4 ad5 ad6 ad7) r) := by
  refine kt_of (own := RX8) (nm := "mix") (lv := [(0, .ref hc), (1, .int v1), (2, .int v2), (3, .int v3), (4, .int v4)]) (by decide) rfl rfl rfl (Nat.le_of_ble_eq_true rfl) h (fun X hn C M => ?_)
  have hnn : ((0, 0) : Nat × Nat).1 ≤ 0 ∧ ((0, 0) : Nat × Nat).2 ≤ 0 := ⟨Nat.le_refl 0, Nat.le_refl 0⟩
  unfold f_X8_mix
  refine gg_iload_n C dX8_mix_0 rfl 1 rfl ?_
  refine gg_iconst C dX8_mix_1 kI_2 ?_
  refine gg_sipush C dX8_mix_2 kS_998 ?_
  refine gg_callS C (fun l r h => c_X8_isWithin l D T v1 2 998 r h) lk_X8_66 ⟨by decide, by decide⟩ hnn rfl (rest := []) rfl (Nat.le_of_ble_eq_true rfl) dX8_mix_5 cut_none (st2 := fun r1 => [.int r1]) (fun _ => rfl) (fun r1 => ?_)
  refine gg_if_eq C dX8_mix_8 (tgt := 28) (by decide) (fun _ => ?_) (fun _ => ?_)
  · refine gg_bipush C dX8_mix_28 kB_m2 ?_
    exact gg_iret C M dX8_mix_30 ⟨rfl, rfl⟩
  · refine gg_iload_n C dX8_mix_11 rfl 1 rfl ?_
    refine gg_iconst C dX8_mix_12 kI_2 ?_
    refine gg_iremK C dX8_mix_13 (by decide) ?_
    refine gg_if_ne C dX8_mix_14 (tgt := 28) (by decide) (fun _ => ?_) (fun _ => ?_)
    · refine gg_bipush C dX8_mix_28 kB_m2 ?_
      exact gg_iret C M dX8_mix_30 ⟨rfl, rfl⟩
    · refine gg_iload_n C dX8_mix_17 rfl 2 rfl ?_
      refine gg_iconst C dX8_mix_18 kI_0 ?_
      refine gg_iload_n C dX8_mix_19 rfl 1 rfl ?_
      refine gg_iconst C dX8_mix_20 kI_1 ?_
      refine gg_isub C dX8_mix_21 ?_
      refine gg_callS C (fun l r h => c_X8_isWithin l D T v2 0 (v1 - 1) r h) lk_X8_66 ⟨by decide, by decide⟩ hnn rfl (rest := []) rfl (Nat.le_of_ble_eq_true rfl) dX8_mix_22 cut_none (st2 := fun r2 => [.int r2]) (fun _ => rfl) (fun r2 => ?_)
      refine gg_if_ne C dX8_mix_25 (tgt := 31) (by decide) (fun _ => ?_) (fun _ => ?_)
      · refine gg_iload_n C dX8_mix_31 rfl 3 rfl ?_
        refine gg_iconst C dX8_mix_32 kI_0 ?_
        refine gg_ldc C tw_399 dX8_mix_33 ?_
        refine gg_callS C (fun l r h => c_X8_isWithin l D T v3 0 999999999 r h) lk_X8_66 ⟨by decide, by decide⟩ hnn rfl (rest := []) rfl (Nat.le_of_ble_eq_true rfl) dX8_mix_35 cut_none (st2 := fun r3 => [.int r3]) (fun _ => rfl) (fun r3 => ?_)
        refine gg_if_eq C dX8_mix_38 (tgt := 51) (by decide) (fun _ => ?_) (fun _ => ?_)
        · refine gg_bipush C dX8_mix_51 kB_m2 ?_
          exact gg_iret C M dX8_mix_53 ⟨rfl, rfl⟩
        · refine gg_iload C dX8_mix_41 4 rfl ?_
          refine gg_iconst C dX8_mix_43 kI_0 ?_
          refine gg_iconst C dX8_mix_44 kI_1 ?_
          refine gg_callS C (fun l r h => c_X8_isWithin l D T v4 0 1 r h) lk_X8_66 ⟨by decide, by decide⟩ hnn rfl (rest := []) rfl (Nat.le_of_ble_eq_true rfl) dX8_mix_45 cut_none (st2 := fun r4 => [.int r4]) (fun _ => rfl) (fun r4 => ?_)
          refine gg_if_ne C dX8_mix_48 (tgt := 54) (by decide) (fun _ => ?_) (fun _ => ?_)
          · refine gg_iload C dX8_mix_54 4 rfl ?_
            refine gg_if_ne C dX8_mix_56 (tgt := 68) (by decide) (fun _ => ?_) (fun _ => ?_)
            · refine gg_iload_n C dX8_mix_68 rfl 1 rfl ?_
              refine gg_callS C (fun l r h => c_X1_round l D T v1 r h) lk_X8_173 ⟨by decide, by decide⟩ hnn rfl (rest := []) rfl (Nat.le_of_ble_eq_true rfl) dX8_mix_69 cut_none (st2 := fun r5 => [.int r5]) (fun _ => rfl) (fun r5 => ?_)
              exact gg_iret C M dX8_mix_72 ⟨rfl, rfl⟩
            · refine gg_iload_n C dX8_mix_59 rfl 1 rfl ?_
              refine gg_iload_n C dX8_mix_60 rfl 2 rfl ?_
              refine gg_iload_n C dX8_mix_61 rfl 3 rfl ?_
              refine gg_callS C (fun l r h => c_X1_placeBehind l D T v1 v2 v3 r h) lk_X8_168 ⟨by decide, by decide⟩ hnn rfl (rest := []) rfl (Nat.le_of_ble_eq_true rfl) dX8_mix_62 cut_none (st2 := fun r6 => [.int r6]) (fun _ => rfl) (fun r6 => ?_)
              refine gg_goto C dX8_mix_65 (tgt := 72) (by decide) ?_
              exact gg_iret C M dX8_mix_72 ⟨rfl, rfl⟩
          · refine gg_bipush C dX8_mix_51 kB_m2 ?_
            exact gg_iret C M dX8_mix_53 ⟨rfl, rfl⟩
      · refine gg_bipush C dX8_mix_28 kB_m2 ?_
        exact gg_iret C M dX8_mix_30 ⟨rfl, rfl⟩
def f_X8_rises (N_b : Nat → Int32) (R_l : Nat → Int32) (R_m : Int32) (R_f : Int32) (v1 : Int32) (v2 : Int32) : Option (Int32 × (Nat → Int32) × Int32 × Int32) := jn (f_X8_isPlace v1) (fun r1 => if r1 = 0 then some ((-1), R_l, R_m, R_f) else jn (f_X8_isWithin v2 0 1) (fun r2 => if r2 = 0 then some ((-2), R_l, R_m, R_f) else jn (f_X4_measure R_l N_b v1) (fun r3 => if v2 = 0 then some (r3.2.1, r3.1, r3.2.1, r3.2.2) else some (r3.2.2, r3.1, r3.2.1, r3.2.2))))
set_option maxHeartbeats 4000000 in
set_option maxRecDepth 100000 in
theorem c_X8_rises (l : Launch) (D : va_G) (T : Nat → ClassId) (hc : Nat) (an : Nat → Nat) (ar : Nat → Nat) (ad1 : Nat) (ad2 : Nat) (ad3 : Nat) (ad5 : Nat) (ad6 : Nat) (ad7 : Nat) (N_b : Nat → Int32) (N_n : Nat → Int32) (N_o : Nat → Int32) (N_s : Nat → Int32) (N_k : Nat → Int32) (N_h : Nat → Int32) (N_c : Nat → Int32) (N_m : Int32) (R_l : Nat → Int32) (R_m : Int32) (R_f : Int32) (v1 : Int32) (v2 : Int32) (r : Int32 × (Nat → Int32) × Int32 × Int32) (h : f_X8_rises N_b R_l R_m R_f v1 v2 = some r) : Kt l D T yX8_rises cX8_rises 3 (some .int) (3, 0, 0, 69) [.ref hc, .int v1, .int v2] (wC hc (an 0) ad1 ad2 ad3 (ar 0) ad5 ad6 ad7 ++ (wG T an N_b N_n N_o N_s N_k N_h N_c N_m ++ (wR T ar R_l R_m R_f))) (FF (fun (r : Int32 × (Nat → Int32) × Int32 × Int32) => some (.int r.1)) (fun r => wC hc (an 0) ad1 ad2 ad3 (ar 0) ad5 ad6 ad7 ++ (wG T an N_b N_n N_o N_s N_k N_h N_c N_m ++ (wR T ar r.2.1 r.2.2.1 r.2.2.2))) r) := by
  refine kt_of (own := RX8) (nm := "rises") (lv := [(0, .ref hc), (1, .int v1), (2, .int v2)]) (by decide) rfl rfl rfl (Nat.le_of_ble_eq_true rfl) h (fun X hn C M => ?_)
  have hnn : ((0, 0) : Nat × Nat).1 ≤ 0 ∧ ((0, 0) : Nat × Nat).2 ≤ 0 := ⟨Nat.le_refl 0, Nat.le_refl 0⟩
  unfold f_X8_rises
  refine gg_iload_n C dX8_rises_0 rfl 1 rfl ?_
  refine gg_callS C (fun l r h => c_X8_isPlace l D T v1 r h) lk_X8_56 ⟨by decide, by decide⟩ hnn rfl (rest := []) rfl (Nat.le_of_ble_eq_true rfl) dX8_rises_1 cut_none (st2 := fun r1 => [.int r1]) (fun _ => rfl) (fun r1 => ?_)
  refine gg_if_ne C dX8_rises_4 (tgt := 9) (by decide) (fun _ => ?_) (fun _ => ?_)
  · refine gg_iload_n C dX8_rises_9 rfl 2 rfl ?_
    refine gg_iconst C dX8_rises_10 kI_0 ?_
    refine gg_iconst C dX8_rises_11 kI_1 ?_
    refine gg_callS C (fun l r h => c_X8_isWithin l D T v2 0 1 r h) lk_X8_66 ⟨by decide, by decide⟩ hnn rfl (rest := []) rfl (Nat.le_of_ble_eq_true rfl) dX8_rises_12 cut_none (st2 := fun r2 => [.int r2]) (fun _ => rfl) (fun r2 => ?_)
    refine gg_if_ne C dX8_rises_15 (tgt := 21) (by decide) (fun _ => ?_) (fun _ => ?_)
    · refine gg_aload_n C dX8_rises_21 rfl 0 rfl ?_
      refine gf_X8_40 C 0 rfl rfl dX8_rises_22 ?_
      refine gg_aload_n C dX8_rises_25 rfl 0 rfl ?_
      refine gf_X8_10 C 0 rfl rfl dX8_rises_26 ?_
      refine gf_X8_70 C 1 rfl rfl dX8_rises_29 ?_
      refine gg_iload_n C dX8_rises_32 rfl 1 rfl ?_
      refine gg_callV C (fun l r h => c_X4_measure l D T ar (an 1) R_l R_m R_f N_b v1 r h) lk_X8_176 ⟨by decide, by decide⟩ hnn rfl (rest := []) rfl (Nat.le_of_ble_eq_true rfl) 9 rfl rfl dX8_rises_33 (ws2 := fun r3 => wC hc (an 0) ad1 ad2 ad3 (ar 0) ad5 ad6 ad7 ++ (wG T an N_b N_n N_o N_s N_k N_h N_c N_m ++ (wR T ar r3.1 r3.2.1 r3.2.2))) (cut_part 11 [9, 10, 2] [0, 1, 3, 4, 5, 6, 7, 8] rfl (by decide) rfl (fun _ => rfl) (fun _ => rfl) (fun _ => rfl)) (st2 := fun r3 => []) (fun _ => rfl) (fun r3 => ?_)
      refine gg_iload_n C dX8_rises_36 rfl 2 rfl ?_
      refine gg_if_ne C dX8_rises_37 (tgt := 50) (by decide) (fun _ => ?_) (fun _ => ?_)
      · refine gg_aload_n C dX8_rises_50 rfl 0 rfl ?_
        refine gf_X8_40 C 0 rfl rfl dX8_rises_51 ?_
        refine gf_X8_183 C 9 rfl rfl dX8_rises_54 ?_
        exact gg_iret C M dX8_rises_57 ⟨rfl, rfl⟩
      · refine gg_aload_n C dX8_rises_40 rfl 0 rfl ?_
        refine gf_X8_40 C 0 rfl rfl dX8_rises_41 ?_
        refine gf_X8_180 C 9 rfl rfl dX8_rises_44 ?_
        refine gg_goto C dX8_rises_47 (tgt := 57) (by decide) ?_
        exact gg_iret C M dX8_rises_57 ⟨rfl, rfl⟩
    · refine gg_bipush C dX8_rises_18 kB_m2 ?_
      exact gg_iret C M dX8_rises_20 ⟨rfl, rfl⟩
  · refine gg_iconst C dX8_rises_7 kI_m1 ?_
    exact gg_iret C M dX8_rises_8 ⟨rfl, rfl⟩
def f_X8_like (S_b : Nat → Int32) (S_s : Nat → Int32) (S_i : Nat → Int32) (S_c : Int32) (v1 : Int32) (v2 : Int32) (v3 : Int32) : Option (Int32 × (Nat → Int32) × (Nat → Int32) × (Nat → Int32) × Int32) := jn (f_X8_isBeat v1) (fun r1 => if r1 = 0 then some ((-2), S_b, S_s, S_i, S_c) else jn (f_X8_isWithin v2 0 8) (fun r2 => if r2 = 0 then some ((-2), S_b, S_s, S_i, S_c) else jn (f_X6_add S_b S_s S_i S_c v1 v2 v3) (fun r3 => some (r3.1, r3.2.1, r3.2.2.1, r3.2.2.2.1, r3.2.2.2.2))))
set_option maxHeartbeats 4000000 in
set_option maxRecDepth 100000 in
theorem c_X8_like (l : Launch) (D : va_G) (T : Nat → ClassId) (hc : Nat) (asg : Nat → Nat) (ad0 : Nat) (ad2 : Nat) (ad3 : Nat) (ad4 : Nat) (ad5 : Nat) (ad6 : Nat) (ad7 : Nat) (S_b : Nat → Int32) (S_s : Nat → Int32) (S_i : Nat → Int32) (S_f : Nat → Int32) (S_c : Int32) (S_q : Int32) (S_l : Int32) (v1 : Int32) (v2 : Int32) (v3 : Int32) (r : Int32 × (Nat → Int32) × (Nat → Int32) × (Nat → Int32) × Int32) (h : f_X8_like S_b S_s S_i S_c v1 v2 v3 = some r) : Kt l D T yX8_like cX8_like 4 (some .int) (2, 0, 0, 42) [.ref hc, .int v1, .int v2, .int v3] (wC hc ad0 (asg 0) ad2 ad3 ad4 ad5 ad6 ad7 ++ (wS T asg S_b S_s S_i S_f S_c S_q S_l)) (FF (fun (r : Int32 × (Nat → Int32) × (Nat → Int32) × (Nat → Int32) × Int32) => some (.int r.1)) (fun r => wC hc ad0 (asg 0) ad2 ad3 ad4 ad5 ad6 ad7 ++ (wS T asg r.2.1 r.2.2.1 r.2.2.2.1 S_f r.2.2.2.2 S_q S_l)) r) := by
  refine kt_of (own := RX8) (nm := "like") (lv := [(0, .ref hc), (1, .int v1), (2, .int v2), (3, .int v3)]) (by decide) rfl rfl rfl (Nat.le_of_ble_eq_true rfl) h (fun X hn C M => ?_)
  have hnn : ((0, 0) : Nat × Nat).1 ≤ 0 ∧ ((0, 0) : Nat × Nat).2 ≤ 0 := ⟨Nat.le_refl 0, Nat.le_refl 0⟩
  unfold f_X8_like
  refine gg_iload_n C dX8_like_0 rfl 1 rfl ?_
  refine gg_callS C (fun l r h => c_X8_isBeat l D T v1 r h) lk_X8_63 ⟨by decide, by decide⟩ hnn rfl (rest := []) rfl (Nat.le_of_ble_eq_true rfl) dX8_like_1 cut_none (st2 := fun r1 => [.int r1]) (fun _ => rfl) (fun r1 => ?_)
  refine gg_if_eq C dX8_like_4 (tgt := 17) (by decide) (fun _ => ?_) (fun _ => ?_)
  · refine gg_bipush C dX8_like_17 kB_m2 ?_
    exact gg_iret C M dX8_like_19 ⟨rfl, rfl⟩
  · refine gg_iload_n C dX8_like_7 rfl 2 rfl ?_
    refine gg_iconst C dX8_like_8 kI_0 ?_
    refine gg_bipush C dX8_like_9 kB_8 ?_
    refine gg_callS C (fun l r h => c_X8_isWithin l D T v2 0 8 r h) lk_X8_66 ⟨by decide, by decide⟩ hnn rfl (rest := []) rfl (Nat.le_of_ble_eq_true rfl) dX8_like_11 cut_none (st2 := fun r2 => [.int r2]) (fun _ => rfl) (fun r2 => ?_)
    refine gg_if_ne C dX8_like_14 (tgt := 20) (by decide) (fun _ => ?_) (fun _ => ?_)
    · refine gg_aload_n C dX8_like_20 rfl 0 rfl ?_
      refine gf_X8_19 C 0 rfl rfl dX8_like_21 ?_
      refine gg_iload_n C dX8_like_24 rfl 1 rfl ?_
      refine gg_iload_n C dX8_like_25 rfl 2 rfl ?_
      refine gg_iload_n C dX8_like_26 rfl 3 rfl ?_
      refine gg_callV C (fun l r h => c_X6_add l D T asg S_b S_s S_i S_f S_c S_q S_l v1 v2 v3 r h) lk_X8_185 ⟨by decide, by decide⟩ hnn rfl (rest := []) rfl (Nat.le_of_ble_eq_true rfl) 1 rfl rfl dX8_like_27 (ws2 := fun r3 => wC hc ad0 (asg 0) ad2 ad3 ad4 ad5 ad6 ad7 ++ (wS T asg r3.2.1 r3.2.2.1 r3.2.2.2.1 S_f r3.2.2.2.2 S_q S_l)) (cut_part 6 [1, 2, 3, 4, 5] [0] rfl (by decide) rfl (fun _ => rfl) (fun _ => rfl) (fun _ => rfl)) (st2 := fun r3 => [.int r3.1]) (fun _ => rfl) (fun r3 => ?_)
      exact gg_iret C M dX8_like_30 ⟨rfl, rfl⟩
    · refine gg_bipush C dX8_like_17 kB_m2 ?_
      exact gg_iret C M dX8_like_19 ⟨rfl, rfl⟩
def f_X8_forget (S_c : Int32) : Option (Int32 × Int32) := jn (f_X6_clear S_c) (fun r1 => some (r1.1, r1.2))
set_option maxHeartbeats 4000000 in
set_option maxRecDepth 100000 in
theorem c_X8_forget (l : Launch) (D : va_G) (T : Nat → ClassId) (hc : Nat) (asg : Nat → Nat) (ad0 : Nat) (ad2 : Nat) (ad3 : Nat) (ad4 : Nat) (ad5 : Nat) (ad6 : Nat) (ad7 : Nat) (S_b : Nat → Int32) (S_s : Nat → Int32) (S_i : Nat → Int32) (S_f : Nat → Int32) (S_c : Int32) (S_q : Int32) (S_l : Int32) (r : Int32 × Int32) (h : f_X8_forget S_c = some r) : Kt l D T yX8_forget cX8_forget 1 (some .int) (1, 0, 0, 21) [.ref hc] (wC hc ad0 (asg 0) ad2 ad3 ad4 ad5 ad6 ad7 ++ (wS T asg S_b S_s S_i S_f S_c S_q S_l)) (FF (fun (r : Int32 × Int32) => some (.int r.1)) (fun r => wC hc ad0 (asg 0) ad2 ad3 ad4 ad5 ad6 ad7 ++ (wS T asg S_b S_s S_i S_f r.2 S_q S_l)) r) := by
  refine kt_of (own := RX8) (nm := "forget") (lv := [(0, .ref hc)]) (by decide) rfl rfl rfl (Nat.le_of_ble_eq_true rfl) h (fun X hn C M => ?_)
  have hnn : ((0, 0) : Nat × Nat).1 ≤ 0 ∧ ((0, 0) : Nat × Nat).2 ≤ 0 := ⟨Nat.le_refl 0, Nat.le_refl 0⟩
  unfold f_X8_forget
  refine gg_aload_n C dX8_forget_0 rfl 0 rfl ?_
  refine gf_X8_19 C 0 rfl rfl dX8_forget_1 ?_
  refine gg_callV C (fun l r h => c_X6_clear l D T asg S_b S_s S_i S_f S_c S_q S_l r h) lk_X8_188 ⟨by decide, by decide⟩ hnn rfl (rest := []) rfl (Nat.le_of_ble_eq_true rfl) 1 rfl rfl dX8_forget_4 (ws2 := fun r1 => wC hc ad0 (asg 0) ad2 ad3 ad4 ad5 ad6 ad7 ++ (wS T asg S_b S_s S_i S_f r1.2 S_q S_l)) (cut_part 6 [1, 2, 3, 4, 5] [0] rfl (by decide) rfl (fun _ => rfl) (fun _ => rfl) (fun _ => rfl)) (st2 := fun r1 => [.int r1.1]) (fun _ => rfl) (fun r1 => ?_)
  exact gg_iret C M dX8_forget_7 ⟨rfl, rfl⟩
def f_X8_own_L12 (y1 : Int32) (N_b : Nat → Int32) (S_b : Nat → Int32) (S_s : Nat → Int32) (S_i : Nat → Int32) (S_c : Int32) : Nat → Int32 → Int32 → Option ((Int32 × Int32) ⊕ (Int32))
  | 0, _, _ => none
  | nn + 1, y2, y3 => if 40 ≤ y3 then some (.inl (y2, y3)) else gu y3 40 (jn (f_X6_fit S_b S_s S_i S_c (N_b y3.toNatClampNeg)) (fun r1 => if r1 = 0 then f_X8_own_L12 y1 N_b S_b S_s S_i S_c nn y2 (y3 + 1) else if y2 = y1 then some (.inr y3) else f_X8_own_L12 y1 N_b S_b S_s S_i S_c nn (y2 + 1) (y3 + 1)))
set_option maxHeartbeats 4000000 in
set_option maxRecDepth 100000 in
theorem g_X8_own_L12 {X : KX} {D : va_G} {T : Nat → ClassId} {Q : (Int32 × Int32) ⊕ (Int32) → State → Prop} {n : Nat × Nat} (C : Cx X D T cX8_own RX8 { frames := 3, cells := 0, slots := 0, locals := 65 }) (hnn : n.1 ≤ 0 ∧ n.2 ≤ 0) (hn : kxL X = 4) (hc : Nat) (an : Nat → Nat) (asg : Nat → Nat) (ad2 : Nat) (ad3 : Nat) (ad4 : Nat) (ad5 : Nat) (ad6 : Nat) (ad7 : Nat) (y1 : Int32) (N_b : Nat → Int32) (N_n : Nat → Int32) (N_o : Nat → Int32) (N_s : Nat → Int32) (N_k : Nat → Int32) (N_h : Nat → Int32) (N_c : Nat → Int32) (N_m : Int32) (S_b : Nat → Int32) (S_s : Nat → Int32) (S_i : Nat → Int32) (S_f : Nat → Int32) (S_c : Int32) (S_q : Int32) (S_l : Int32) (hk : ∀ v : Int32 × Int32, GG X D Q n (wC hc (an 0) (asg 0) ad2 ad3 ad4 ad5 ad6 ad7 ++ (wG T an N_b N_n N_o N_s N_k N_h N_c N_m ++ (wS T asg S_b S_s S_i S_f S_c S_q S_l))) [(0, .ref hc), (1, .int y1), (2, .int v.1), (3, .int v.2)] 53 [] (some (.inl v))) (hr0 : ∀ (v : Int32), GG X D Q n (wC hc (an 0) (asg 0) ad2 ad3 ad4 ad5 ad6 ad7 ++ (wG T an N_b N_n N_o N_s N_k N_h N_c N_m ++ (wS T asg S_b S_s S_i S_f S_c S_q S_l))) [] 43 [.int v] (some (.inr v))) : ∀ (nn : Nat) (y2 : Int32) (y3 : Int32), GG X D Q n (wC hc (an 0) (asg 0) ad2 ad3 ad4 ad5 ad6 ad7 ++ (wG T an N_b N_n N_o N_s N_k N_h N_c N_m ++ (wS T asg S_b S_s S_i S_f S_c S_q S_l))) [(0, .ref hc), (1, .int y1), (2, .int y2), (3, .int y3)] 12 [] (f_X8_own_L12 y1 N_b S_b S_s S_i S_c nn y2 y3) := by
  intro nn
  induction nn with
  | zero => intros; exact gg_none
  | succ nn ih =>
    intro y2 y3
    unfold f_X8_own_L12
    refine gg_iload_n C dX8_own_12 rfl 3 rfl ?_
    refine gg_bipush C dX8_own_13 kB_40 ?_
    refine gg_icmp_ge C dX8_own_15 (tgt := 53) (by decide) (fun _ => ?_) (fun _ => ?_)
    · refine gg_sub [0, 1, 2, 3] rfl ?_
      exact hk (y2, y3)
    · refine gg_aload_n C dX8_own_18 rfl 0 rfl ?_
      refine gf_X8_19 C 0 rfl rfl dX8_own_19 ?_
      refine gg_aload_n C dX8_own_22 rfl 0 rfl ?_
      refine gf_X8_10 C 0 rfl rfl dX8_own_23 ?_
      refine gf_X8_70 C 1 rfl rfl dX8_own_26 ?_
      refine gg_iload_n C dX8_own_29 rfl 3 rfl ?_
      refine gg_iald C 2 rfl dX8_own_30 ?_
      refine gg_callV C (fun l r h => c_X6_fit l D T asg S_b S_s S_i S_f S_c S_q S_l (N_b y3.toNatClampNeg) r h) lk_X8_189 ⟨by decide, by decide⟩ hnn rfl (rest := []) rfl (Nat.le_of_ble_eq_true rfl) 9 rfl rfl dX8_own_31 (ws2 := fun r1 => wC hc (an 0) (asg 0) ad2 ad3 ad4 ad5 ad6 ad7 ++ (wG T an N_b N_n N_o N_s N_k N_h N_c N_m ++ (wS T asg S_b S_s S_i S_f S_c S_q S_l))) (cut_part 14 [9, 10, 11, 12, 13] [0, 1, 2, 3, 4, 5, 6, 7, 8] rfl (by decide) rfl (fun _ => rfl) (fun _ => rfl) (fun _ => rfl)) (st2 := fun r1 => [.int r1]) (fun _ => rfl) (fun r1 => ?_)
      refine gg_if_eq C dX8_own_34 (tgt := 47) (by decide) (fun _ => ?_) (fun _ => ?_)
      · refine gg_iinc C dX8_own_47 (j := 3) rfl (v := y3 + 1) (by first | rfl | decide) hn (by decide) (lv' := [(3, .int (y3 + 1)), (0, .ref hc), (1, .int y1), (2, .int y2)]) rfl ?_
        refine gg_goto C dX8_own_50 (tgt := 12) (by decide) ?_
        refine gg_sub [1, 2, 3, 0] rfl ?_
        exact ih y2 (y3 + 1)
      · refine gg_iload_n C dX8_own_37 rfl 2 rfl ?_
        refine gg_iload_n C dX8_own_38 rfl 1 rfl ?_
        refine gg_icmp_ne C dX8_own_39 (tgt := 44) (by decide) (fun _ => ?_) (fun _ => ?_)
        · refine gg_iinc C dX8_own_44 (j := 2) rfl (v := y2 + 1) (by first | rfl | decide) hn (by decide) (lv' := [(2, .int (y2 + 1)), (0, .ref hc), (1, .int y1), (3, .int y3)]) rfl ?_
          refine gg_iinc C dX8_own_47 (j := 3) rfl (v := y3 + 1) (by first | rfl | decide) hn (by decide) (lv' := [(3, .int (y3 + 1)), (2, .int (y2 + 1)), (0, .ref hc), (1, .int y1)]) rfl ?_
          refine gg_goto C dX8_own_50 (tgt := 12) (by decide) ?_
          refine gg_sub [2, 3, 1, 0] rfl ?_
          exact ih (y2 + 1) (y3 + 1)
        · refine gg_iload_n C dX8_own_42 rfl 3 rfl ?_
          refine gg_sub [] rfl ?_
          exact hr0 y3
def f_X8_own (N_b : Nat → Int32) (S_b : Nat → Int32) (S_s : Nat → Int32) (S_i : Nat → Int32) (S_c : Int32) (v1 : Int32) : Option (Int32) := if (-1) ≤ v1 then jn (f_X8_own_L12 v1 N_b S_b S_s S_i S_c 100 0 0) (Sum.elim (fun z2 => if v1 = (-1) then some z2.1 else some (-6)) some) else some (-6)
set_option maxHeartbeats 4000000 in
set_option maxRecDepth 100000 in
theorem c_X8_own (l : Launch) (D : va_G) (T : Nat → ClassId) (hc : Nat) (an : Nat → Nat) (asg : Nat → Nat) (ad2 : Nat) (ad3 : Nat) (ad4 : Nat) (ad5 : Nat) (ad6 : Nat) (ad7 : Nat) (N_b : Nat → Int32) (N_n : Nat → Int32) (N_o : Nat → Int32) (N_s : Nat → Int32) (N_k : Nat → Int32) (N_h : Nat → Int32) (N_c : Nat → Int32) (N_m : Int32) (S_b : Nat → Int32) (S_s : Nat → Int32) (S_i : Nat → Int32) (S_f : Nat → Int32) (S_c : Int32) (S_q : Int32) (S_l : Int32) (v1 : Int32) (r : Int32) (h : f_X8_own N_b S_b S_s S_i S_c v1 = some r) : Kt l D T yX8_own cX8_own 4 (some .int) (3, 0, 0, 65) [.ref hc, .int v1] (wC hc (an 0) (asg 0) ad2 ad3 ad4 ad5 ad6 ad7 ++ (wG T an N_b N_n N_o N_s N_k N_h N_c N_m ++ (wS T asg S_b S_s S_i S_f S_c S_q S_l))) (FF (fun (r : Int32) => some (.int r)) (fun r => wC hc (an 0) (asg 0) ad2 ad3 ad4 ad5 ad6 ad7 ++ (wG T an N_b N_n N_o N_s N_k N_h N_c N_m ++ (wS T asg S_b S_s S_i S_f S_c S_q S_l))) r) := by
  refine kt_of (own := RX8) (nm := "own") (lv := [(0, .ref hc), (1, .int v1)]) (by decide) rfl rfl rfl (Nat.le_of_ble_eq_true rfl) h (fun X hn C M => ?_)
  have hnn : ((0, 0) : Nat × Nat).1 ≤ 0 ∧ ((0, 0) : Nat × Nat).2 ≤ 0 := ⟨Nat.le_refl 0, Nat.le_refl 0⟩
  unfold f_X8_own
  refine gg_iload_n C dX8_own_0 rfl 1 rfl ?_
  refine gg_iconst C dX8_own_1 kI_m1 ?_
  refine gg_icmp_ge C dX8_own_2 (tgt := 8) (by decide) (fun _ => ?_) (fun _ => ?_)
  · refine gg_iconst C dX8_own_8 kI_0 ?_
    refine gg_istore_n C dX8_own_9 rfl hn (by decide) (lv' := [(2, .int 0), (0, .ref hc), (1, .int v1)]) rfl ?_
    refine gg_iconst C dX8_own_10 kI_0 ?_
    refine gg_istore_n C dX8_own_11 rfl hn (by decide) (lv' := [(3, .int 0), (2, .int 0), (0, .ref hc), (1, .int v1)]) rfl ?_
    refine gg_jn ?_
    refine gg_sub [2, 3, 1, 0] rfl ?_
    refine g_X8_own_L12 C hnn hn hc an asg ad2 ad3 ad4 ad5 ad6 ad7 v1 N_b N_n N_o N_s N_k N_h N_c N_m S_b S_s S_i S_f S_c S_q S_l (fun z2 => gg_leafL ?_) (fun v => gg_leafR ?_) 100 0 0
    · refine gg_iload_n C dX8_own_53 rfl 1 rfl ?_
      refine gg_iconst C dX8_own_54 kI_m1 ?_
      refine gg_icmp_ne C dX8_own_55 (tgt := 62) (by decide) (fun _ => ?_) (fun _ => ?_)
      · refine gg_bipush C dX8_own_62 kB_m6 ?_
        exact gg_iret C M dX8_own_64 ⟨rfl, rfl⟩
      · refine gg_iload_n C dX8_own_58 rfl 2 rfl ?_
        refine gg_goto C dX8_own_59 (tgt := 64) (by decide) ?_
        exact gg_iret C M dX8_own_64 ⟨rfl, rfl⟩
    · exact gg_iret C M dX8_own_43 ⟨rfl, rfl⟩
  · refine gg_bipush C dX8_own_5 kB_m6 ?_
    exact gg_iret C M dX8_own_7 ⟨rfl, rfl⟩
def f_X8_ask (N_b : Nat → Int32) (S_b : Nat → Int32) (S_s : Nat → Int32) (S_i : Nat → Int32) (S_f : Nat → Int32) (S_c : Int32) (S_q : Int32) (S_l : Int32) (v1 : Int32) : Option (Int32 × (Nat → Int32) × Int32 × Int32) := jn (f_X8_isWithin v1 0 1) (fun r1 => if r1 = 0 then some ((-2), S_f, S_q, S_l) else jn (f_X6_findQuestion S_b S_s S_i S_f S_c N_b) (fun r2 => if v1 = 0 then some (r2.2.1, r2.1, r2.2.1, r2.2.2) else some (r2.2.2, r2.1, r2.2.1, r2.2.2)))
set_option maxHeartbeats 4000000 in
set_option maxRecDepth 100000 in
theorem c_X8_ask (l : Launch) (D : va_G) (T : Nat → ClassId) (hc : Nat) (an : Nat → Nat) (asg : Nat → Nat) (ad2 : Nat) (ad3 : Nat) (ad4 : Nat) (ad5 : Nat) (ad6 : Nat) (ad7 : Nat) (N_b : Nat → Int32) (N_n : Nat → Int32) (N_o : Nat → Int32) (N_s : Nat → Int32) (N_k : Nat → Int32) (N_h : Nat → Int32) (N_c : Nat → Int32) (N_m : Int32) (S_b : Nat → Int32) (S_s : Nat → Int32) (S_i : Nat → Int32) (S_f : Nat → Int32) (S_c : Int32) (S_q : Int32) (S_l : Int32) (v1 : Int32) (r : Int32 × (Nat → Int32) × Int32 × Int32) (h : f_X8_ask N_b S_b S_s S_i S_f S_c S_q S_l v1 = some r) : Kt l D T yX8_ask cX8_ask 2 (some .int) (5, 0, 0, 115) [.ref hc, .int v1] (wC hc (an 0) (asg 0) ad2 ad3 ad4 ad5 ad6 ad7 ++ (wG T an N_b N_n N_o N_s N_k N_h N_c N_m ++ (wS T asg S_b S_s S_i S_f S_c S_q S_l))) (FF (fun (r : Int32 × (Nat → Int32) × Int32 × Int32) => some (.int r.1)) (fun r => wC hc (an 0) (asg 0) ad2 ad3 ad4 ad5 ad6 ad7 ++ (wG T an N_b N_n N_o N_s N_k N_h N_c N_m ++ (wS T asg S_b S_s S_i r.2.1 S_c r.2.2.1 r.2.2.2))) r) := by
  refine kt_of (own := RX8) (nm := "ask") (lv := [(0, .ref hc), (1, .int v1)]) (by decide) rfl rfl rfl (Nat.le_of_ble_eq_true rfl) h (fun X hn C M => ?_)
  have hnn : ((0, 0) : Nat × Nat).1 ≤ 0 ∧ ((0, 0) : Nat × Nat).2 ≤ 0 := ⟨Nat.le_refl 0, Nat.le_refl 0⟩
  unfold f_X8_ask
  refine gg_iload_n C dX8_ask_0 rfl 1 rfl ?_
  refine gg_iconst C dX8_ask_1 kI_0 ?_
  refine gg_iconst C dX8_ask_2 kI_1 ?_
  refine gg_callS C (fun l r h => c_X8_isWithin l D T v1 0 1 r h) lk_X8_66 ⟨by decide, by decide⟩ hnn rfl (rest := []) rfl (Nat.le_of_ble_eq_true rfl) dX8_ask_3 cut_none (st2 := fun r1 => [.int r1]) (fun _ => rfl) (fun r1 => ?_)
  refine gg_if_ne C dX8_ask_6 (tgt := 12) (by decide) (fun _ => ?_) (fun _ => ?_)
  · refine gg_aload_n C dX8_ask_12 rfl 0 rfl ?_
    refine gf_X8_19 C 0 rfl rfl dX8_ask_13 ?_
    refine gg_aload_n C dX8_ask_16 rfl 0 rfl ?_
    refine gf_X8_10 C 0 rfl rfl dX8_ask_17 ?_
    refine gf_X8_70 C 1 rfl rfl dX8_ask_20 ?_
    refine gg_callV C (fun l r h => c_X6_findQuestion l D T asg (an 1) S_b S_s S_i S_f S_c S_q S_l N_b r h) lk_X8_192 ⟨by decide, by decide⟩ hnn rfl (rest := []) rfl (Nat.le_of_ble_eq_true rfl) 9 rfl rfl dX8_ask_23 (ws2 := fun r2 => wC hc (an 0) (asg 0) ad2 ad3 ad4 ad5 ad6 ad7 ++ (wG T an N_b N_n N_o N_s N_k N_h N_c N_m ++ (wS T asg S_b S_s S_i r2.1 S_c r2.2.1 r2.2.2))) (cut_part 14 [9, 10, 11, 12, 13, 2] [0, 1, 3, 4, 5, 6, 7, 8] rfl (by decide) rfl (fun _ => rfl) (fun _ => rfl) (fun _ => rfl)) (st2 := fun r2 => []) (fun _ => rfl) (fun r2 => ?_)
    refine gg_iload_n C dX8_ask_26 rfl 1 rfl ?_
    refine gg_if_ne C dX8_ask_27 (tgt := 40) (by decide) (fun _ => ?_) (fun _ => ?_)
    · refine gg_aload_n C dX8_ask_40 rfl 0 rfl ?_
      refine gf_X8_19 C 0 rfl rfl dX8_ask_41 ?_
      refine gf_X8_199 C 9 rfl rfl dX8_ask_44 ?_
      exact gg_iret C M dX8_ask_47 ⟨rfl, rfl⟩
    · refine gg_aload_n C dX8_ask_30 rfl 0 rfl ?_
      refine gf_X8_19 C 0 rfl rfl dX8_ask_31 ?_
      refine gf_X8_196 C 9 rfl rfl dX8_ask_34 ?_
      refine gg_goto C dX8_ask_37 (tgt := 47) (by decide) ?_
      exact gg_iret C M dX8_ask_47 ⟨rfl, rfl⟩
  · refine gg_bipush C dX8_ask_9 kB_m2 ?_
    exact gg_iret C M dX8_ask_11 ⟨rfl, rfl⟩
def f_X8_take (v1 : Int32) (v2 : Int32) : Option (Int32) := jn (f_X8_isWithin v1 1 999) (fun r1 => if r1 = 0 then some (-2) else jn (f_X8_isWithin v2 0 1) (fun r2 => if r2 = 0 then some (-2) else jn (f_X8_firstTaking v1) (fun r3 => if v2 = 0 then if r3 = 0 then some 0 else some 1 else if r3 = 0 then some (-6) else some r3)))
set_option maxHeartbeats 4000000 in
set_option maxRecDepth 100000 in
theorem c_X8_take (l : Launch) (D : va_G) (T : Nat → ClassId) (hc : Nat) (ad0 : Nat) (ad1 : Nat) (ad2 : Nat) (ad3 : Nat) (ad4 : Nat) (ad5 : Nat) (ad6 : Nat) (ad7 : Nat) (v1 : Int32) (v2 : Int32) (r : Int32) (h : f_X8_take v1 v2 = some r) : Kt l D T yX8_take cX8_take 4 (some .int) (1, 0, 0, 22) [.ref hc, .int v1, .int v2] (wC hc ad0 ad1 ad2 ad3 ad4 ad5 ad6 ad7) (FF (fun (r : Int32) => some (.int r)) (fun r => wC hc ad0 ad1 ad2 ad3 ad4 ad5 ad6 ad7) r) := by
  refine kt_of (own := RX8) (nm := "take") (lv := [(0, .ref hc), (1, .int v1), (2, .int v2)]) (by decide) rfl rfl rfl (Nat.le_of_ble_eq_true rfl) h (fun X hn C M => ?_)
  have hnn : ((0, 0) : Nat × Nat).1 ≤ 0 ∧ ((0, 0) : Nat × Nat).2 ≤ 0 := ⟨Nat.le_refl 0, Nat.le_refl 0⟩
  unfold f_X8_take
  refine gg_iload_n C dX8_take_0 rfl 1 rfl ?_
  refine gg_iconst C dX8_take_1 kI_1 ?_
  refine gg_sipush C dX8_take_2 kS_999 ?_
  refine gg_callS C (fun l r h => c_X8_isWithin l D T v1 1 999 r h) lk_X8_66 ⟨by decide, by decide⟩ hnn rfl (rest := []) rfl (Nat.le_of_ble_eq_true rfl) dX8_take_5 cut_none (st2 := fun r1 => [.int r1]) (fun _ => rfl) (fun r1 => ?_)
  refine gg_if_eq C dX8_take_8 (tgt := 20) (by decide) (fun _ => ?_) (fun _ => ?_)
  · refine gg_bipush C dX8_take_20 kB_m2 ?_
    exact gg_iret C M dX8_take_22 ⟨rfl, rfl⟩
  · refine gg_iload_n C dX8_take_11 rfl 2 rfl ?_
    refine gg_iconst C dX8_take_12 kI_0 ?_
    refine gg_iconst C dX8_take_13 kI_1 ?_
    refine gg_callS C (fun l r h => c_X8_isWithin l D T v2 0 1 r h) lk_X8_66 ⟨by decide, by decide⟩ hnn rfl (rest := []) rfl (Nat.le_of_ble_eq_true rfl) dX8_take_14 cut_none (st2 := fun r2 => [.int r2]) (fun _ => rfl) (fun r2 => ?_)
    refine gg_if_ne C dX8_take_17 (tgt := 23) (by decide) (fun _ => ?_) (fun _ => ?_)
    · refine gg_iload_n C dX8_take_23 rfl 1 rfl ?_
      refine gg_callS C (fun l r h => c_X8_firstTaking l D T v1 r h) lk_X8_202 ⟨by decide, by decide⟩ hnn rfl (rest := []) rfl (Nat.le_of_ble_eq_true rfl) dX8_take_24 cut_none (st2 := fun r3 => [.int r3]) (fun _ => rfl) (fun r3 => ?_)
      refine gg_istore_n C dX8_take_27 rfl hn (by decide) (lv' := [(3, .int r3), (0, .ref hc), (1, .int v1), (2, .int v2)]) rfl ?_
      refine gg_iload_n C dX8_take_28 rfl 3 rfl ?_
      refine gg_if_ne C dX8_take_29 (tgt := 42) (by decide) (fun _ => ?_) (fun _ => ?_)
      · refine gg_iload_n C dX8_take_42 rfl 0 rfl ?_
        refine gg_if_ne C dX8_take_43 (tgt := 51) (by decide) (fun _ => ?_) (fun _ => ?_)
        · refine gg_iload_n C dX8_take_51 rfl 0 rfl ?_
          exact gg_iret C M dX8_take_52 ⟨rfl, rfl⟩
        · refine gg_bipush C dX8_take_46 kB_m6 ?_
          refine gg_goto C dX8_take_48 (tgt := 52) (by decide) ?_
          exact gg_iret C M dX8_take_52 ⟨rfl, rfl⟩
      · refine gg_iload_n C dX8_take_32 rfl 0 rfl ?_
        refine gg_if_ne C dX8_take_33 (tgt := 40) (by decide) (fun _ => ?_) (fun _ => ?_)
        · refine gg_iconst C dX8_take_40 kI_1 ?_
          exact gg_iret C M dX8_take_41 ⟨rfl, rfl⟩
        · refine gg_iconst C dX8_take_36 kI_0 ?_
          refine gg_goto C dX8_take_37 (tgt := 41) (by decide) ?_
          exact gg_iret C M dX8_take_41 ⟨rfl, rfl⟩
    · refine gg_bipush C dX8_take_20 kB_m2 ?_
      exact gg_iret C M dX8_take_22 ⟨rfl, rfl⟩
def f_X8_pass (v1 : Int32) (v2 : Int32) (v3 : Int32) : Option (Int64) := jn (f_X8_isWithin v1 1 20) (fun r1 => if r1 = 0 then some (-1000000000000000002) else jn (f_X8_isWithin v2 0 (v1 - 1)) (fun r2 => if r2 = 0 then some (-1000000000000000002) else jn (f_X8_isWithin v3 0 1) (fun r3 => if r3 = 0 then some (-1000000000000000002) else jn (f_X3_weight v1 v2) (fun r4 => jn (f_X3_whole v1) (fun r5 => jn (f_X8_lowestTerm r4 r5 v3) (fun r6 => some r6))))))
set_option maxHeartbeats 4000000 in
set_option maxRecDepth 100000 in
theorem c_X8_pass (l : Launch) (D : va_G) (T : Nat → ClassId) (hc : Nat) (ad0 : Nat) (ad1 : Nat) (ad2 : Nat) (ad3 : Nat) (ad4 : Nat) (ad5 : Nat) (ad6 : Nat) (ad7 : Nat) (v1 : Int32) (v2 : Int32) (v3 : Int32) (r : Int64) (h : f_X8_pass v1 v2 v3 = some r) : Kt l D T yX8_pass cX8_pass 4 (some .long) (2, 0, 0, 58) [.ref hc, .int v1, .int v2, .int v3] (wC hc ad0 ad1 ad2 ad3 ad4 ad5 ad6 ad7) (FF (fun (r : Int64) => some (.long r)) (fun r => wC hc ad0 ad1 ad2 ad3 ad4 ad5 ad6 ad7) r) := by
  refine kt_of (own := RX8) (nm := "pass") (lv := [(0, .ref hc), (1, .int v1), (2, .int v2), (3, .int v3)]) (by decide) rfl rfl rfl (Nat.le_of_ble_eq_true rfl) h (fun X hn C M => ?_)
  have hnn : ((0, 0) : Nat × Nat).1 ≤ 0 ∧ ((0, 0) : Nat × Nat).2 ≤ 0 := ⟨Nat.le_refl 0, Nat.le_refl 0⟩
  unfold f_X8_pass
  refine gg_iload_n C dX8_pass_0 rfl 1 rfl ?_
  refine gg_iconst C dX8_pass_1 kI_1 ?_
  refine gg_bipush C dX8_pass_2 kB_20 ?_
  refine gg_callS C (fun l r h => c_X8_isWithin l D T v1 1 20 r h) lk_X8_66 ⟨by decide, by decide⟩ hnn rfl (rest := []) rfl (Nat.le_of_ble_eq_true rfl) dX8_pass_4 cut_none (st2 := fun r1 => [.int r1]) (fun _ => rfl) (fun r1 => ?_)
  refine gg_if_eq C dX8_pass_7 (tgt := 30) (by decide) (fun _ => ?_) (fun _ => ?_)
  · refine gg_ldc2 C tw_374 dX8_pass_30 ?_
    exact gg_lret C M dX8_pass_33 ⟨rfl, rfl⟩
  · refine gg_iload_n C dX8_pass_10 rfl 2 rfl ?_
    refine gg_iconst C dX8_pass_11 kI_0 ?_
    refine gg_iload_n C dX8_pass_12 rfl 1 rfl ?_
    refine gg_iconst C dX8_pass_13 kI_1 ?_
    refine gg_isub C dX8_pass_14 ?_
    refine gg_callS C (fun l r h => c_X8_isWithin l D T v2 0 (v1 - 1) r h) lk_X8_66 ⟨by decide, by decide⟩ hnn rfl (rest := []) rfl (Nat.le_of_ble_eq_true rfl) dX8_pass_15 cut_none (st2 := fun r2 => [.int r2]) (fun _ => rfl) (fun r2 => ?_)
    refine gg_if_eq C dX8_pass_18 (tgt := 30) (by decide) (fun _ => ?_) (fun _ => ?_)
    · refine gg_ldc2 C tw_374 dX8_pass_30 ?_
      exact gg_lret C M dX8_pass_33 ⟨rfl, rfl⟩
    · refine gg_iload_n C dX8_pass_21 rfl 3 rfl ?_
      refine gg_iconst C dX8_pass_22 kI_0 ?_
      refine gg_iconst C dX8_pass_23 kI_1 ?_
      refine gg_callS C (fun l r h => c_X8_isWithin l D T v3 0 1 r h) lk_X8_66 ⟨by decide, by decide⟩ hnn rfl (rest := []) rfl (Nat.le_of_ble_eq_true rfl) dX8_pass_24 cut_none (st2 := fun r3 => [.int r3]) (fun _ => rfl) (fun r3 => ?_)
      refine gg_if_ne C dX8_pass_27 (tgt := 34) (by decide) (fun _ => ?_) (fun _ => ?_)
      · refine gg_iload_n C dX8_pass_34 rfl 1 rfl ?_
        refine gg_iload_n C dX8_pass_35 rfl 2 rfl ?_
        refine gg_callS C (fun l r h => c_X3_weight l D T v1 v2 r h) lk_X8_207 ⟨by decide, by decide⟩ hnn rfl (rest := []) rfl (Nat.le_of_ble_eq_true rfl) dX8_pass_36 cut_none (st2 := fun r4 => [.long r4]) (fun _ => rfl) (fun r4 => ?_)
        refine gg_iload_n C dX8_pass_39 rfl 1 rfl ?_
        refine gg_callS C (fun l r h => c_X3_whole l D T v1 r h) lk_X8_210 ⟨by decide, by decide⟩ hnn rfl (rest := [.long r4]) rfl (Nat.le_of_ble_eq_true rfl) dX8_pass_40 cut_none (st2 := fun r5 => [.long r5, .long r4]) (fun _ => rfl) (fun r5 => ?_)
        refine gg_iload_n C dX8_pass_43 rfl 3 rfl ?_
        refine gg_callS C (fun l r h => c_X8_lowestTerm l D T r4 r5 v3 r h) lk_X8_159 ⟨by decide, by decide⟩ hnn rfl (rest := []) rfl (Nat.le_of_ble_eq_true rfl) dX8_pass_44 cut_none (st2 := fun r6 => [.long r6]) (fun _ => rfl) (fun r6 => ?_)
        exact gg_lret C M dX8_pass_47 ⟨rfl, rfl⟩
      · refine gg_ldc2 C tw_374 dX8_pass_30 ?_
        exact gg_lret C M dX8_pass_33 ⟨rfl, rfl⟩
def f_X8_passes (v1 : Int32) : Option (Int32) := jn (f_X8_isWithin v1 1 20) (fun r1 => if r1 = 0 then some (-2) else jn (f_X3_best v1) (fun r2 => some r2))
set_option maxHeartbeats 4000000 in
set_option maxRecDepth 100000 in
theorem c_X8_passes (l : Launch) (D : va_G) (T : Nat → ClassId) (hc : Nat) (ad0 : Nat) (ad1 : Nat) (ad2 : Nat) (ad3 : Nat) (ad4 : Nat) (ad5 : Nat) (ad6 : Nat) (ad7 : Nat) (v1 : Int32) (r : Int32) (h : f_X8_passes v1 = some r) : Kt l D T yX8_passes cX8_passes 2 (some .int) (2, 0, 0, 46) [.ref hc, .int v1] (wC hc ad0 ad1 ad2 ad3 ad4 ad5 ad6 ad7) (FF (fun (r : Int32) => some (.int r)) (fun r => wC hc ad0 ad1 ad2 ad3 ad4 ad5 ad6 ad7) r) := by
  refine kt_of (own := RX8) (nm := "passes") (lv := [(0, .ref hc), (1, .int v1)]) (by decide) rfl rfl rfl (Nat.le_of_ble_eq_true rfl) h (fun X hn C M => ?_)
  have hnn : ((0, 0) : Nat × Nat).1 ≤ 0 ∧ ((0, 0) : Nat × Nat).2 ≤ 0 := ⟨Nat.le_refl 0, Nat.le_refl 0⟩
  unfold f_X8_passes
  refine gg_iload_n C dX8_passes_0 rfl 1 rfl ?_
  refine gg_iconst C dX8_passes_1 kI_1 ?_
  refine gg_bipush C dX8_passes_2 kB_20 ?_
  refine gg_callS C (fun l r h => c_X8_isWithin l D T v1 1 20 r h) lk_X8_66 ⟨by decide, by decide⟩ hnn rfl (rest := []) rfl (Nat.le_of_ble_eq_true rfl) dX8_passes_4 cut_none (st2 := fun r1 => [.int r1]) (fun _ => rfl) (fun r1 => ?_)
  refine gg_if_ne C dX8_passes_7 (tgt := 13) (by decide) (fun _ => ?_) (fun _ => ?_)
  · refine gg_iload_n C dX8_passes_13 rfl 1 rfl ?_
    refine gg_callS C (fun l r h => c_X3_best l D T v1 r h) lk_X8_214 ⟨by decide, by decide⟩ hnn rfl (rest := []) rfl (Nat.le_of_ble_eq_true rfl) dX8_passes_14 cut_none (st2 := fun r2 => [.int r2]) (fun _ => rfl) (fun r2 => ?_)
    exact gg_iret C M dX8_passes_17 ⟨rfl, rfl⟩
  · refine gg_bipush C dX8_passes_10 kB_m2 ?_
    exact gg_iret C M dX8_passes_12 ⟨rfl, rfl⟩
def f_X8_hour (N_b : Nat → Int32) (N_n : Nat → Int32) (N_o : Nat → Int32) (N_s : Nat → Int32) (N_k : Nat → Int32) (N_h : Nat → Int32) (N_c : Nat → Int32) (N_m : Int32) (T_ac : Int32) (T_ba : Int32) (T_bw : Int32) (T_he : Int32) (T_wa : Int32) (T_wh : Int32) (gal_b : Nat → Int32) (gal_n : Nat → Int32) (gal_o : Nat → Int32) (gal_s : Nat → Int32) (gal_k : Nat → Int32) (gal_h : Nat → Int32) (gal_c : Nat → Int32) (gal_m : Int32) (v1 : Int32) (v2 : Int32) (v3 : Int32) : Option (Int32 × Int32 × Int32 × Int32 × Int32 × Int32 × Int32 × (Nat → Int32) × (Nat → Int32) × (Nat → Int32) × (Nat → Int32) × (Nat → Int32) × (Nat → Int32) × (Nat → Int32) × Int32) := jn (f_X8_isWithin v1 0 9999) (fun r1 => if r1 = 0 then some ((-2), T_ac, T_ba, T_bw, T_he, T_wa, T_wh, gal_b, gal_n, gal_o, gal_s, gal_k, gal_h, gal_c, gal_m) else jn (f_X8_isWithin v2 1 99) (fun r2 => if r2 = 0 then some ((-2), T_ac, T_ba, T_bw, T_he, T_wa, T_wh, gal_b, gal_n, gal_o, gal_s, gal_k, gal_h, gal_c, gal_m) else jn (f_X8_isWithin v3 0 2) (fun r3 => if r3 = 0 then some ((-2), T_ac, T_ba, T_bw, T_he, T_wa, T_wh, gal_b, gal_n, gal_o, gal_s, gal_k, gal_h, gal_c, gal_m) else jn (f_X7_draw gal_b gal_n gal_o gal_s gal_k gal_h gal_c N_b N_n N_o N_s N_k N_h N_c N_m v1 v2) (fun r4 => if v3 = 0 then gu 0 6 (some (r4.2.2.2.2.2.2.2.2.2.1 (0 : Int32).toNatClampNeg, r4.1, r4.2.1, r4.2.2.1, r4.2.2.2.1, r4.2.2.2.2.1, r4.2.2.2.2.2.1, r4.2.2.2.2.2.2.1, r4.2.2.2.2.2.2.2.1, r4.2.2.2.2.2.2.2.2.1, r4.2.2.2.2.2.2.2.2.2.1, r4.2.2.2.2.2.2.2.2.2.2.1, r4.2.2.2.2.2.2.2.2.2.2.2.1, r4.2.2.2.2.2.2.2.2.2.2.2.2.1, r4.2.2.2.2.2.2.2.2.2.2.2.2.2)) else if v3 = 1 then jn (f_X0_nickCount r4.2.2.2.2.2.2.2.1) (fun r6 => some (r6, r4.1, r4.2.1, r4.2.2.1, r4.2.2.2.1, r4.2.2.2.2.1, r4.2.2.2.2.2.1, r4.2.2.2.2.2.2.1, r4.2.2.2.2.2.2.2.1, r4.2.2.2.2.2.2.2.2.1, r4.2.2.2.2.2.2.2.2.2.1, r4.2.2.2.2.2.2.2.2.2.2.1, r4.2.2.2.2.2.2.2.2.2.2.2.1, r4.2.2.2.2.2.2.2.2.2.2.2.2.1, r4.2.2.2.2.2.2.2.2.2.2.2.2.2)) else jn (f_X0_chosenBits r4.2.2.2.2.2.2.2.2.2.2.2.2.1) (fun r5 => some (r5, r4.1, r4.2.1, r4.2.2.1, r4.2.2.2.1, r4.2.2.2.2.1, r4.2.2.2.2.2.1, r4.2.2.2.2.2.2.1, r4.2.2.2.2.2.2.2.1, r4.2.2.2.2.2.2.2.2.1, r4.2.2.2.2.2.2.2.2.2.1, r4.2.2.2.2.2.2.2.2.2.2.1, r4.2.2.2.2.2.2.2.2.2.2.2.1, r4.2.2.2.2.2.2.2.2.2.2.2.2.1, r4.2.2.2.2.2.2.2.2.2.2.2.2.2))))))
set_option maxHeartbeats 4000000 in
set_option maxRecDepth 100000 in
theorem c_X8_hour (l : Launch) (D : va_G) (T : Nat → ClassId) (hc : Nat) (an : Nat → Nat) (atr : Nat) (ag : Nat → Nat) (ad1 : Nat) (ad2 : Nat) (ad4 : Nat) (ad5 : Nat) (ad6 : Nat) (ad7 : Nat) (N_b : Nat → Int32) (N_n : Nat → Int32) (N_o : Nat → Int32) (N_s : Nat → Int32) (N_k : Nat → Int32) (N_h : Nat → Int32) (N_c : Nat → Int32) (N_m : Int32) (T_ac : Int32) (T_ba : Int32) (T_bw : Int32) (T_he : Int32) (T_wa : Int32) (T_wh : Int32) (gal_b : Nat → Int32) (gal_n : Nat → Int32) (gal_o : Nat → Int32) (gal_s : Nat → Int32) (gal_k : Nat → Int32) (gal_h : Nat → Int32) (gal_c : Nat → Int32) (gal_m : Int32) (v1 : Int32) (v2 : Int32) (v3 : Int32) (r : Int32 × Int32 × Int32 × Int32 × Int32 × Int32 × Int32 × (Nat → Int32) × (Nat → Int32) × (Nat → Int32) × (Nat → Int32) × (Nat → Int32) × (Nat → Int32) × (Nat → Int32) × Int32) (h : f_X8_hour N_b N_n N_o N_s N_k N_h N_c N_m T_ac T_ba T_bw T_he T_wa T_wh gal_b gal_n gal_o gal_s gal_k gal_h gal_c gal_m v1 v2 v3 = some r) : Kt l D T yX8_hour cX8_hour 4 (some .int) (5, 0, 0, 129) [.ref hc, .int v1, .int v2, .int v3] (wC hc (an 0) ad1 ad2 atr ad4 ad5 ad6 ad7 ++ (wG T an N_b N_n N_o N_s N_k N_h N_c N_m ++ (wT atr (ag 0) T_ac T_ba T_bw T_he T_wa T_wh ++ (wG T ag gal_b gal_n gal_o gal_s gal_k gal_h gal_c gal_m)))) (FF (fun (r : Int32 × Int32 × Int32 × Int32 × Int32 × Int32 × Int32 × (Nat → Int32) × (Nat → Int32) × (Nat → Int32) × (Nat → Int32) × (Nat → Int32) × (Nat → Int32) × (Nat → Int32) × Int32) => some (.int r.1)) (fun r => wC hc (an 0) ad1 ad2 atr ad4 ad5 ad6 ad7 ++ (wG T an N_b N_n N_o N_s N_k N_h N_c N_m ++ (wT atr (ag 0) r.2.1 r.2.2.1 r.2.2.2.1 r.2.2.2.2.1 r.2.2.2.2.2.1 r.2.2.2.2.2.2.1 ++ (wG T ag r.2.2.2.2.2.2.2.1 r.2.2.2.2.2.2.2.2.1 r.2.2.2.2.2.2.2.2.2.1 r.2.2.2.2.2.2.2.2.2.2.1 r.2.2.2.2.2.2.2.2.2.2.2.1 r.2.2.2.2.2.2.2.2.2.2.2.2.1 r.2.2.2.2.2.2.2.2.2.2.2.2.2.1 r.2.2.2.2.2.2.2.2.2.2.2.2.2.2)))) r) := by
  refine kt_of (own := RX8) (nm := "hour") (lv := [(0, .ref hc), (1, .int v1), (2, .int v2), (3, .int v3)]) (by decide) rfl rfl rfl (Nat.le_of_ble_eq_true rfl) h (fun X hn C M => ?_)
  have hnn : ((0, 0) : Nat × Nat).1 ≤ 0 ∧ ((0, 0) : Nat × Nat).2 ≤ 0 := ⟨Nat.le_refl 0, Nat.le_refl 0⟩
  unfold f_X8_hour
  refine gg_iload_n C dX8_hour_0 rfl 1 rfl ?_
  refine gg_iconst C dX8_hour_1 kI_0 ?_
  refine gg_sipush C dX8_hour_2 kS_9999 ?_
  refine gg_callS C (fun l r h => c_X8_isWithin l D T v1 0 9999 r h) lk_X8_66 ⟨by decide, by decide⟩ hnn rfl (rest := []) rfl (Nat.le_of_ble_eq_true rfl) dX8_hour_5 cut_none (st2 := fun r1 => [.int r1]) (fun _ => rfl) (fun r1 => ?_)
  refine gg_if_eq C dX8_hour_8 (tgt := 30) (by decide) (fun _ => ?_) (fun _ => ?_)
  · refine gg_bipush C dX8_hour_30 kB_m2 ?_
    exact gg_iret C M dX8_hour_32 ⟨rfl, rfl⟩
  · refine gg_iload_n C dX8_hour_11 rfl 2 rfl ?_
    refine gg_iconst C dX8_hour_12 kI_1 ?_
    refine gg_bipush C dX8_hour_13 kB_99 ?_
    refine gg_callS C (fun l r h => c_X8_isWithin l D T v2 1 99 r h) lk_X8_66 ⟨by decide, by decide⟩ hnn rfl (rest := []) rfl (Nat.le_of_ble_eq_true rfl) dX8_hour_15 cut_none (st2 := fun r2 => [.int r2]) (fun _ => rfl) (fun r2 => ?_)
    refine gg_if_eq C dX8_hour_18 (tgt := 30) (by decide) (fun _ => ?_) (fun _ => ?_)
    · refine gg_bipush C dX8_hour_30 kB_m2 ?_
      exact gg_iret C M dX8_hour_32 ⟨rfl, rfl⟩
    · refine gg_iload_n C dX8_hour_21 rfl 3 rfl ?_
      refine gg_iconst C dX8_hour_22 kI_0 ?_
      refine gg_iconst C dX8_hour_23 kI_2 ?_
      refine gg_callS C (fun l r h => c_X8_isWithin l D T v3 0 2 r h) lk_X8_66 ⟨by decide, by decide⟩ hnn rfl (rest := []) rfl (Nat.le_of_ble_eq_true rfl) dX8_hour_24 cut_none (st2 := fun r3 => [.int r3]) (fun _ => rfl) (fun r3 => ?_)
      refine gg_if_ne C dX8_hour_27 (tgt := 33) (by decide) (fun _ => ?_) (fun _ => ?_)
      · refine gg_aload_n C dX8_hour_33 rfl 0 rfl ?_
        refine gf_X8_33 C 0 rfl rfl dX8_hour_34 ?_
        refine gg_aload_n C dX8_hour_37 rfl 0 rfl ?_
        refine gf_X8_10 C 0 rfl rfl dX8_hour_38 ?_
        refine gg_iload_n C dX8_hour_41 rfl 1 rfl ?_
        refine gg_iload_n C dX8_hour_42 rfl 2 rfl ?_
        refine gg_callV C (fun l r h => c_X7_draw l D T atr ag an T_ac T_ba T_bw T_he T_wa T_wh gal_b gal_n gal_o gal_s gal_k gal_h gal_c gal_m N_b N_n N_o N_s N_k N_h N_c N_m v1 v2 r h) lk_X8_217 ⟨by decide, by decide⟩ hnn rfl (rest := []) rfl (Nat.le_of_ble_eq_true rfl) 9 rfl rfl dX8_hour_43 (ws2 := fun r4 => wC hc (an 0) ad1 ad2 atr ad4 ad5 ad6 ad7 ++ (wG T an N_b N_n N_o N_s N_k N_h N_c N_m ++ (wT atr (ag 0) r4.1 r4.2.1 r4.2.2.1 r4.2.2.2.1 r4.2.2.2.2.1 r4.2.2.2.2.2.1 ++ (wG T ag r4.2.2.2.2.2.2.1 r4.2.2.2.2.2.2.2.1 r4.2.2.2.2.2.2.2.2.1 r4.2.2.2.2.2.2.2.2.2.1 r4.2.2.2.2.2.2.2.2.2.2.1 r4.2.2.2.2.2.2.2.2.2.2.2.1 r4.2.2.2.2.2.2.2.2.2.2.2.2.1 r4.2.2.2.2.2.2.2.2.2.2.2.2.2)))) (cut_part 18 [9, 10, 11, 12, 13, 14, 15, 16, 17, 1, 2, 3, 4, 5, 6, 7, 8] [0] rfl (by decide) rfl (fun _ => rfl) (fun _ => rfl) (fun _ => rfl)) (st2 := fun r4 => []) (fun _ => rfl) (fun r4 => ?_)
        refine gg_iload_n C dX8_hour_46 rfl 3 rfl ?_
        refine gg_if_ne C dX8_hour_47 (tgt := 63) (by decide) (fun _ => ?_) (fun _ => ?_)
        · refine gg_iload_n C dX8_hour_63 rfl 3 rfl ?_
          refine gg_iconst C dX8_hour_64 kI_1 ?_
          refine gg_icmp_ne C dX8_hour_65 (tgt := 81) (by decide) (fun _ => ?_) (fun _ => ?_)
          · refine gg_aload_n C dX8_hour_81 rfl 0 rfl ?_
            refine gf_X8_33 C 0 rfl rfl dX8_hour_82 ?_
            refine gf_X8_116 C 9 rfl rfl dX8_hour_85 ?_
            refine gg_callV C (fun l r h => c_X0_chosenBits l D T ag r4.2.2.2.2.2.2.1 r4.2.2.2.2.2.2.2.1 r4.2.2.2.2.2.2.2.2.1 r4.2.2.2.2.2.2.2.2.2.1 r4.2.2.2.2.2.2.2.2.2.2.1 r4.2.2.2.2.2.2.2.2.2.2.2.1 r4.2.2.2.2.2.2.2.2.2.2.2.2.1 r4.2.2.2.2.2.2.2.2.2.2.2.2.2 r h) lk_X8_119 ⟨by decide, by decide⟩ hnn rfl (rest := []) rfl (Nat.le_of_ble_eq_true rfl) 10 rfl rfl dX8_hour_88 (ws2 := fun r5 => wC hc (an 0) ad1 ad2 atr ad4 ad5 ad6 ad7 ++ (wG T an N_b N_n N_o N_s N_k N_h N_c N_m ++ (wT atr (ag 0) r4.1 r4.2.1 r4.2.2.1 r4.2.2.2.1 r4.2.2.2.2.1 r4.2.2.2.2.2.1 ++ (wG T ag r4.2.2.2.2.2.2.1 r4.2.2.2.2.2.2.2.1 r4.2.2.2.2.2.2.2.2.1 r4.2.2.2.2.2.2.2.2.2.1 r4.2.2.2.2.2.2.2.2.2.2.1 r4.2.2.2.2.2.2.2.2.2.2.2.1 r4.2.2.2.2.2.2.2.2.2.2.2.2.1 r4.2.2.2.2.2.2.2.2.2.2.2.2.2)))) (cut_part 18 [10, 11, 12, 13, 14, 15, 16, 17] [0, 1, 2, 3, 4, 5, 6, 7, 8, 9] rfl (by decide) rfl (fun _ => rfl) (fun _ => rfl) (fun _ => rfl)) (st2 := fun r5 => [.int r5]) (fun _ => rfl) (fun r5 => ?_)
            exact gg_iret C M dX8_hour_91 ⟨rfl, rfl⟩
          · refine gg_aload_n C dX8_hour_68 rfl 0 rfl ?_
            refine gf_X8_33 C 0 rfl rfl dX8_hour_69 ?_
            refine gf_X8_116 C 9 rfl rfl dX8_hour_72 ?_
            refine gg_callV C (fun l r h => c_X0_nickCount l D T ag r4.2.2.2.2.2.2.1 r4.2.2.2.2.2.2.2.1 r4.2.2.2.2.2.2.2.2.1 r4.2.2.2.2.2.2.2.2.2.1 r4.2.2.2.2.2.2.2.2.2.2.1 r4.2.2.2.2.2.2.2.2.2.2.2.1 r4.2.2.2.2.2.2.2.2.2.2.2.2.1 r4.2.2.2.2.2.2.2.2.2.2.2.2.2 r h) lk_X8_125 ⟨by decide, by decide⟩ hnn rfl (rest := []) rfl (Nat.le_of_ble_eq_true rfl) 10 rfl rfl dX8_hour_75 (ws2 := fun r6 => wC hc (an 0) ad1 ad2 atr ad4 ad5 ad6 ad7 ++ (wG T an N_b N_n N_o N_s N_k N_h N_c N_m ++ (wT atr (ag 0) r4.1 r4.2.1 r4.2.2.1 r4.2.2.2.1 r4.2.2.2.2.1 r4.2.2.2.2.2.1 ++ (wG T ag r4.2.2.2.2.2.2.1 r4.2.2.2.2.2.2.2.1 r4.2.2.2.2.2.2.2.2.1 r4.2.2.2.2.2.2.2.2.2.1 r4.2.2.2.2.2.2.2.2.2.2.1 r4.2.2.2.2.2.2.2.2.2.2.2.1 r4.2.2.2.2.2.2.2.2.2.2.2.2.1 r4.2.2.2.2.2.2.2.2.2.2.2.2.2)))) (cut_part 18 [10, 11, 12, 13, 14, 15, 16, 17] [0, 1, 2, 3, 4, 5, 6, 7, 8, 9] rfl (by decide) rfl (fun _ => rfl) (fun _ => rfl) (fun _ => rfl)) (st2 := fun r6 => [.int r6]) (fun _ => rfl) (fun r6 => ?_)
            refine gg_goto C dX8_hour_78 (tgt := 91) (by decide) ?_
            exact gg_iret C M dX8_hour_91 ⟨rfl, rfl⟩
        · refine gg_aload_n C dX8_hour_50 rfl 0 rfl ?_
          refine gf_X8_33 C 0 rfl rfl dX8_hour_51 ?_
          refine gf_X8_116 C 9 rfl rfl dX8_hour_54 ?_
          refine gf_X8_80 C 10 rfl rfl dX8_hour_57 ?_
          refine gg_iconst C dX8_hour_60 kI_0 ?_
          refine gg_iald C 14 rfl dX8_hour_61 ?_
          exact gg_iret C M dX8_hour_62 ⟨rfl, rfl⟩
      · refine gg_bipush C dX8_hour_30 kB_m2 ?_
        exact gg_iret C M dX8_hour_32 ⟨rfl, rfl⟩
def f_X8_image (N_b : Nat → Int32) (N_n : Nat → Int32) (N_o : Nat → Int32) (N_s : Nat → Int32) (N_k : Nat → Int32) (N_h : Nat → Int32) (N_c : Nat → Int32) (N_m : Int32) (S_b : Nat → Int32) (S_s : Nat → Int32) (S_i : Nat → Int32) (S_c : Int32) (I_kp : Nat → Int32) (i0_b : Nat → Int32) (i0_n : Nat → Int32) (i0_o : Nat → Int32) (i0_s : Nat → Int32) (i0_k : Nat → Int32) (i0_h : Nat → Int32) (i0_c : Nat → Int32) (i0_m : Int32) (k0_b : Nat → Int32) (k0_s : Nat → Int32) (k0_i : Nat → Int32) (k0_c : Int32) (i1_b : Nat → Int32) (i1_n : Nat → Int32) (i1_o : Nat → Int32) (i1_s : Nat → Int32) (i1_k : Nat → Int32) (i1_h : Nat → Int32) (i1_c : Nat → Int32) (i1_m : Int32) (k1_b : Nat → Int32) (k1_s : Nat → Int32) (k1_i : Nat → Int32) (k1_c : Int32) (v1 : Int32) : Option (Int32 × (Nat → Int32) × (Nat → Int32) × (Nat → Int32) × (Nat → Int32) × (Nat → Int32) × (Nat → Int32) × (Nat → Int32) × (Nat → Int32) × Int32 × (Nat → Int32) × (Nat → Int32) × (Nat → Int32) × Int32 × (Nat → Int32) × (Nat → Int32) × (Nat → Int32) × (Nat → Int32) × (Nat → Int32) × (Nat → Int32) × (Nat → Int32) × Int32 × (Nat → Int32) × (Nat → Int32) × (Nat → Int32) × Int32) := jn (f_X8_isWithin v1 0 1) (fun r1 => if r1 = 0 then some ((-2), I_kp, i0_b, i0_n, i0_o, i0_s, i0_k, i0_h, i0_c, i0_m, k0_b, k0_s, k0_i, k0_c, i1_b, i1_n, i1_o, i1_s, i1_k, i1_h, i1_c, i1_m, k1_b, k1_s, k1_i, k1_c) else if v1 = 0 then jn (f_X0_copyFrom i0_b i0_n i0_o i0_s i0_k i0_h i0_c N_b N_n N_o N_s N_k N_h N_c N_m) (fun r2 => if v1 = 0 then jn (f_X6_copyFrom k0_b k0_s k0_i S_b S_s S_i S_c) (fun r3 => gu v1 2 (some (1, upd I_kp v1.toNatClampNeg (vp_nar .boolean 1), r2.1, r2.2.1, r2.2.2.1, r2.2.2.2.1, r2.2.2.2.2.1, r2.2.2.2.2.2.1, r2.2.2.2.2.2.2.1, r2.2.2.2.2.2.2.2, r3.1, r3.2.1, r3.2.2.1, r3.2.2.2, i1_b, i1_n, i1_o, i1_s, i1_k, i1_h, i1_c, i1_m, k1_b, k1_s, k1_i, k1_c))) else if v1 = 1 then jn (f_X6_copyFrom k1_b k1_s k1_i S_b S_s S_i S_c) (fun r4 => gu v1 2 (some (1, upd I_kp v1.toNatClampNeg (vp_nar .boolean 1), r2.1, r2.2.1, r2.2.2.1, r2.2.2.2.1, r2.2.2.2.2.1, r2.2.2.2.2.2.1, r2.2.2.2.2.2.2.1, r2.2.2.2.2.2.2.2, k0_b, k0_s, k0_i, k0_c, i1_b, i1_n, i1_o, i1_s, i1_k, i1_h, i1_c, i1_m, r4.1, r4.2.1, r4.2.2.1, r4.2.2.2))) else none) else if v1 = 1 then jn (f_X0_copyFrom i1_b i1_n i1_o i1_s i1_k i1_h i1_c N_b N_n N_o N_s N_k N_h N_c N_m) (fun r5 => if v1 = 0 then jn (f_X6_copyFrom k0_b k0_s k0_i S_b S_s S_i S_c) (fun r6 => gu v1 2 (some (1, upd I_kp v1.toNatClampNeg (vp_nar .boolean 1), i0_b, i0_n, i0_o, i0_s, i0_k, i0_h, i0_c, i0_m, r6.1, r6.2.1, r6.2.2.1, r6.2.2.2, r5.1, r5.2.1, r5.2.2.1, r5.2.2.2.1, r5.2.2.2.2.1, r5.2.2.2.2.2.1, r5.2.2.2.2.2.2.1, r5.2.2.2.2.2.2.2, k1_b, k1_s, k1_i, k1_c))) else if v1 = 1 then jn (f_X6_copyFrom k1_b k1_s k1_i S_b S_s S_i S_c) (fun r7 => gu v1 2 (some (1, upd I_kp v1.toNatClampNeg (vp_nar .boolean 1), i0_b, i0_n, i0_o, i0_s, i0_k, i0_h, i0_c, i0_m, k0_b, k0_s, k0_i, k0_c, r5.1, r5.2.1, r5.2.2.1, r5.2.2.2.1, r5.2.2.2.2.1, r5.2.2.2.2.2.1, r5.2.2.2.2.2.2.1, r5.2.2.2.2.2.2.2, r7.1, r7.2.1, r7.2.2.1, r7.2.2.2))) else none) else none)
set_option maxHeartbeats 4000000 in
set_option maxRecDepth 100000 in
theorem c_X8_image (l : Launch) (D : va_G) (T : Nat → ClassId) (hc : Nat) (an : Nat → Nat) (asg : Nat → Nat) (ai : Nat → Nat) (ak : Nat → Nat) (aj : Nat → Nat) (al : Nat → Nat) (ad2 : Nat) (ad3 : Nat) (ad4 : Nat) (ad5 : Nat) (ad6 : Nat) (ad7 : Nat) (N_b : Nat → Int32) (N_n : Nat → Int32) (N_o : Nat → Int32) (N_s : Nat → Int32) (N_k : Nat → Int32) (N_h : Nat → Int32) (N_c : Nat → Int32) (N_m : Int32) (S_b : Nat → Int32) (S_s : Nat → Int32) (S_i : Nat → Int32) (S_f : Nat → Int32) (S_c : Int32) (S_q : Int32) (S_l : Int32) (I_kp : Nat → Int32) (i0_b : Nat → Int32) (i0_n : Nat → Int32) (i0_o : Nat → Int32) (i0_s : Nat → Int32) (i0_k : Nat → Int32) (i0_h : Nat → Int32) (i0_c : Nat → Int32) (i0_m : Int32) (k0_b : Nat → Int32) (k0_s : Nat → Int32) (k0_i : Nat → Int32) (k0_f : Nat → Int32) (k0_c : Int32) (k0_q : Int32) (k0_l : Int32) (i1_b : Nat → Int32) (i1_n : Nat → Int32) (i1_o : Nat → Int32) (i1_s : Nat → Int32) (i1_k : Nat → Int32) (i1_h : Nat → Int32) (i1_c : Nat → Int32) (i1_m : Int32) (k1_b : Nat → Int32) (k1_s : Nat → Int32) (k1_i : Nat → Int32) (k1_f : Nat → Int32) (k1_c : Int32) (k1_q : Int32) (k1_l : Int32) (v1 : Int32) (r : Int32 × (Nat → Int32) × (Nat → Int32) × (Nat → Int32) × (Nat → Int32) × (Nat → Int32) × (Nat → Int32) × (Nat → Int32) × (Nat → Int32) × Int32 × (Nat → Int32) × (Nat → Int32) × (Nat → Int32) × Int32 × (Nat → Int32) × (Nat → Int32) × (Nat → Int32) × (Nat → Int32) × (Nat → Int32) × (Nat → Int32) × (Nat → Int32) × Int32 × (Nat → Int32) × (Nat → Int32) × (Nat → Int32) × Int32) (h : f_X8_image N_b N_n N_o N_s N_k N_h N_c N_m S_b S_s S_i S_c I_kp i0_b i0_n i0_o i0_s i0_k i0_h i0_c i0_m k0_b k0_s k0_i k0_c i1_b i1_n i1_o i1_s i1_k i1_h i1_c i1_m k1_b k1_s k1_i k1_c v1 = some r) : Kt l D T yX8_image cX8_image 2 (some .int) (2, 0, 0, 81) [.ref hc, .int v1] (wC hc (an 0) (asg 0) ad2 ad3 ad4 ad5 ad6 ad7 ++ (wG T an N_b N_n N_o N_s N_k N_h N_c N_m ++ (wS T asg S_b S_s S_i S_f S_c S_q S_l ++ (wI T ad5 ad6 ad7 (ai 0) (aj 0) (ak 0) (al 0) I_kp ++ (wG T ai i0_b i0_n i0_o i0_s i0_k i0_h i0_c i0_m ++ (wS T ak k0_b k0_s k0_i k0_f k0_c k0_q k0_l ++ (wG T aj i1_b i1_n i1_o i1_s i1_k i1_h i1_c i1_m ++ (wS T al k1_b k1_s k1_i k1_f k1_c k1_q k1_l)))))))) (FF (fun (r : Int32 × (Nat → Int32) × (Nat → Int32) × (Nat → Int32) × (Nat → Int32) × (Nat → Int32) × (Nat → Int32) × (Nat → Int32) × (Nat → Int32) × Int32 × (Nat → Int32) × (Nat → Int32) × (Nat → Int32) × Int32 × (Nat → Int32) × (Nat → Int32) × (Nat → Int32) × (Nat → Int32) × (Nat → Int32) × (Nat → Int32) × (Nat → Int32) × Int32 × (Nat → Int32) × (Nat → Int32) × (Nat → Int32) × Int32) => some (.int r.1)) (fun r => wC hc (an 0) (asg 0) ad2 ad3 ad4 ad5 ad6 ad7 ++ (wG T an N_b N_n N_o N_s N_k N_h N_c N_m ++ (wS T asg S_b S_s S_i S_f S_c S_q S_l ++ (wI T ad5 ad6 ad7 (ai 0) (aj 0) (ak 0) (al 0) r.2.1 ++ (wG T ai r.2.2.1 r.2.2.2.1 r.2.2.2.2.1 r.2.2.2.2.2.1 r.2.2.2.2.2.2.1 r.2.2.2.2.2.2.2.1 r.2.2.2.2.2.2.2.2.1 r.2.2.2.2.2.2.2.2.2.1 ++ (wS T ak r.2.2.2.2.2.2.2.2.2.2.1 r.2.2.2.2.2.2.2.2.2.2.2.1 r.2.2.2.2.2.2.2.2.2.2.2.2.1 k0_f r.2.2.2.2.2.2.2.2.2.2.2.2.2.1 k0_q k0_l ++ (wG T aj r.2.2.2.2.2.2.2.2.2.2.2.2.2.2.1 r.2.2.2.2.2.2.2.2.2.2.2.2.2.2.2.1 r.2.2.2.2.2.2.2.2.2.2.2.2.2.2.2.2.1 r.2.2.2.2.2.2.2.2.2.2.2.2.2.2.2.2.2.1 r.2.2.2.2.2.2.2.2.2.2.2.2.2.2.2.2.2.2.1 r.2.2.2.2.2.2.2.2.2.2.2.2.2.2.2.2.2.2.2.1 r.2.2.2.2.2.2.2.2.2.2.2.2.2.2.2.2.2.2.2.2.1 r.2.2.2.2.2.2.2.2.2.2.2.2.2.2.2.2.2.2.2.2.2.1 ++ (wS T al r.2.2.2.2.2.2.2.2.2.2.2.2.2.2.2.2.2.2.2.2.2.2.1 r.2.2.2.2.2.2.2.2.2.2.2.2.2.2.2.2.2.2.2.2.2.2.2.1 r.2.2.2.2.2.2.2.2.2.2.2.2.2.2.2.2.2.2.2.2.2.2.2.2.1 k1_f r.2.2.2.2.2.2.2.2.2.2.2.2.2.2.2.2.2.2.2.2.2.2.2.2.2 k1_q k1_l)))))))) r) := by
  refine kt_of (own := RX8) (nm := "image") (lv := [(0, .ref hc), (1, .int v1)]) (by decide) rfl rfl rfl (Nat.le_of_ble_eq_true rfl) h (fun X hn C M => ?_)
  have hnn : ((0, 0) : Nat × Nat).1 ≤ 0 ∧ ((0, 0) : Nat × Nat).2 ≤ 0 := ⟨Nat.le_refl 0, Nat.le_refl 0⟩
  unfold f_X8_image
  refine gg_iload_n C dX8_image_0 rfl 1 rfl ?_
  refine gg_iconst C dX8_image_1 kI_0 ?_
  refine gg_iconst C dX8_image_2 kI_1 ?_
  refine gg_callS C (fun l r h => c_X8_isWithin l D T v1 0 1 r h) lk_X8_66 ⟨by decide, by decide⟩ hnn rfl (rest := []) rfl (Nat.le_of_ble_eq_true rfl) dX8_image_3 cut_none (st2 := fun r1 => [.int r1]) (fun _ => rfl) (fun r1 => ?_)
  refine gg_if_ne C dX8_image_6 (tgt := 12) (by decide) (fun _ => ?_) (fun _ => ?_)
  · refine gg_aload_n C dX8_image_12 rfl 0 rfl ?_
    refine gf_X8_44 C 0 rfl rfl dX8_image_13 ?_
    refine gg_iload_n C dX8_image_16 rfl 1 rfl ?_
    refine gg_aald2_0 C 14 rfl dX8_image_17 (fun _ => ?_) (fun _ => ?_)
    · refine gg_aload_n C dX8_image_18 rfl 0 rfl ?_
      refine gf_X8_10 C 0 rfl rfl dX8_image_19 ?_
      refine gg_callV C (fun l r h => c_X0_copyFrom l D T ai an i0_b i0_n i0_o i0_s i0_k i0_h i0_c i0_m N_b N_n N_o N_s N_k N_h N_c N_m r h) lk_X8_137 ⟨by decide, by decide⟩ hnn rfl (rest := []) rfl (Nat.le_of_ble_eq_true rfl) 17 rfl rfl dX8_image_22 (ws2 := fun r2 => wC hc (an 0) (asg 0) ad2 ad3 ad4 ad5 ad6 ad7 ++ (wG T an N_b N_n N_o N_s N_k N_h N_c N_m ++ (wS T asg S_b S_s S_i S_f S_c S_q S_l ++ (wI T ad5 ad6 ad7 (ai 0) (aj 0) (ak 0) (al 0) I_kp ++ (wG T ai r2.1 r2.2.1 r2.2.2.1 r2.2.2.2.1 r2.2.2.2.2.1 r2.2.2.2.2.2.1 r2.2.2.2.2.2.2.1 r2.2.2.2.2.2.2.2 ++ (wS T ak k0_b k0_s k0_i k0_f k0_c k0_q k0_l ++ (wG T aj i1_b i1_n i1_o i1_s i1_k i1_h i1_c i1_m ++ (wS T al k1_b k1_s k1_i k1_f k1_c k1_q k1_l)))))))) (cut_part 43 [17, 18, 19, 20, 21, 22, 23, 24, 1, 2, 3, 4, 5, 6, 7, 8] [0, 9, 10, 11, 12, 13, 14, 15, 16, 25, 26, 27, 28, 29, 30, 31, 32, 33, 34, 35, 36, 37, 38, 39, 40, 41, 42] rfl (by decide) rfl (fun _ => rfl) (fun _ => rfl) (fun _ => rfl)) (st2 := fun r2 => []) (fun _ => rfl) (fun r2 => ?_)
      refine gg_aload_n C dX8_image_25 rfl 0 rfl ?_
      refine gf_X8_48 C 0 rfl rfl dX8_image_26 ?_
      refine gg_iload_n C dX8_image_29 rfl 1 rfl ?_
      refine gg_aald2_1 C 15 rfl dX8_image_30 (fun _ => ?_) (fun _ => ?_)
      · refine gg_aload_n C dX8_image_31 rfl 0 rfl ?_
        refine gf_X8_19 C 0 rfl rfl dX8_image_32 ?_
        refine gg_callV C (fun l r h => c_X6_copyFrom l D T ak asg k0_b k0_s k0_i k0_f k0_c k0_q k0_l S_b S_s S_i S_f S_c S_q S_l r h) lk_X8_221 ⟨by decide, by decide⟩ hnn rfl (rest := []) rfl (Nat.le_of_ble_eq_true rfl) 25 rfl rfl dX8_image_35 (ws2 := fun r3 => wC hc (an 0) (asg 0) ad2 ad3 ad4 ad5 ad6 ad7 ++ (wG T an N_b N_n N_o N_s N_k N_h N_c N_m ++ (wS T asg S_b S_s S_i S_f S_c S_q S_l ++ (wI T ad5 ad6 ad7 (ai 0) (aj 0) (ak 0) (al 0) I_kp ++ (wG T ai r2.1 r2.2.1 r2.2.2.1 r2.2.2.2.1 r2.2.2.2.2.1 r2.2.2.2.2.2.1 r2.2.2.2.2.2.2.1 r2.2.2.2.2.2.2.2 ++ (wS T ak r3.1 r3.2.1 r3.2.2.1 k0_f r3.2.2.2 k0_q k0_l ++ (wG T aj i1_b i1_n i1_o i1_s i1_k i1_h i1_c i1_m ++ (wS T al k1_b k1_s k1_i k1_f k1_c k1_q k1_l)))))))) (cut_part 43 [25, 26, 27, 28, 29, 9, 10, 11, 12, 13] [0, 1, 2, 3, 4, 5, 6, 7, 8, 14, 15, 16, 17, 18, 19, 20, 21, 22, 23, 24, 30, 31, 32, 33, 34, 35, 36, 37, 38, 39, 40, 41, 42] rfl (by decide) rfl (fun _ => rfl) (fun _ => rfl) (fun _ => rfl)) (st2 := fun r3 => []) (fun _ => rfl) (fun r3 => ?_)
        refine gg_aload_n C dX8_image_38 rfl 0 rfl ?_
        refine gf_X8_52 C 0 rfl rfl dX8_image_39 ?_
        refine gg_iload_n C dX8_image_42 rfl 1 rfl ?_
        refine gg_iconst C dX8_image_43 kI_1 ?_
        refine gg_zast C 16 rfl dX8_image_44 (ws' := wC hc (an 0) (asg 0) ad2 ad3 ad4 ad5 ad6 ad7 ++ (wG T an N_b N_n N_o N_s N_k N_h N_c N_m ++ (wS T asg S_b S_s S_i S_f S_c S_q S_l ++ (wI T ad5 ad6 ad7 (ai 0) (aj 0) (ak 0) (al 0) (upd I_kp v1.toNatClampNeg (vp_nar .boolean 1)) ++ (wG T ai r2.1 r2.2.1 r2.2.2.1 r2.2.2.2.1 r2.2.2.2.2.1 r2.2.2.2.2.2.1 r2.2.2.2.2.2.2.1 r2.2.2.2.2.2.2.2 ++ (wS T ak r3.1 r3.2.1 r3.2.2.1 k0_f r3.2.2.2 k0_q k0_l ++ (wG T aj i1_b i1_n i1_o i1_s i1_k i1_h i1_c i1_m ++ (wS T al k1_b k1_s k1_i k1_f k1_c k1_q k1_l)))))))) rfl ?_
        refine gg_iconst C dX8_image_45 kI_1 ?_
        exact gg_iret C M dX8_image_46 ⟨rfl, rfl⟩
      · refine gg_aload_n C dX8_image_31 rfl 0 rfl ?_
        refine gf_X8_19 C 0 rfl rfl dX8_image_32 ?_
        refine gg_callV C (fun l r h => c_X6_copyFrom l D T al asg k1_b k1_s k1_i k1_f k1_c k1_q k1_l S_b S_s S_i S_f S_c S_q S_l r h) lk_X8_221 ⟨by decide, by decide⟩ hnn rfl (rest := []) rfl (Nat.le_of_ble_eq_true rfl) 38 rfl rfl dX8_image_35 (ws2 := fun r4 => wC hc (an 0) (asg 0) ad2 ad3 ad4 ad5 ad6 ad7 ++ (wG T an N_b N_n N_o N_s N_k N_h N_c N_m ++ (wS T asg S_b S_s S_i S_f S_c S_q S_l ++ (wI T ad5 ad6 ad7 (ai 0) (aj 0) (ak 0) (al 0) I_kp ++ (wG T ai r2.1 r2.2.1 r2.2.2.1 r2.2.2.2.1 r2.2.2.2.2.1 r2.2.2.2.2.2.1 r2.2.2.2.2.2.2.1 r2.2.2.2.2.2.2.2 ++ (wS T ak k0_b k0_s k0_i k0_f k0_c k0_q k0_l ++ (wG T aj i1_b i1_n i1_o i1_s i1_k i1_h i1_c i1_m ++ (wS T al r4.1 r4.2.1 r4.2.2.1 k1_f r4.2.2.2 k1_q k1_l)))))))) (cut_part 43 [38, 39, 40, 41, 42, 9, 10, 11, 12, 13] [0, 1, 2, 3, 4, 5, 6, 7, 8, 14, 15, 16, 17, 18, 19, 20, 21, 22, 23, 24, 25, 26, 27, 28, 29, 30, 31, 32, 33, 34, 35, 36, 37] rfl (by decide) rfl (fun _ => rfl) (fun _ => rfl) (fun _ => rfl)) (st2 := fun r4 => []) (fun _ => rfl) (fun r4 => ?_)
        refine gg_aload_n C dX8_image_38 rfl 0 rfl ?_
        refine gf_X8_52 C 0 rfl rfl dX8_image_39 ?_
        refine gg_iload_n C dX8_image_42 rfl 1 rfl ?_
        refine gg_iconst C dX8_image_43 kI_1 ?_
        refine gg_zast C 16 rfl dX8_image_44 (ws' := wC hc (an 0) (asg 0) ad2 ad3 ad4 ad5 ad6 ad7 ++ (wG T an N_b N_n N_o N_s N_k N_h N_c N_m ++ (wS T asg S_b S_s S_i S_f S_c S_q S_l ++ (wI T ad5 ad6 ad7 (ai 0) (aj 0) (ak 0) (al 0) (upd I_kp v1.toNatClampNeg (vp_nar .boolean 1)) ++ (wG T ai r2.1 r2.2.1 r2.2.2.1 r2.2.2.2.1 r2.2.2.2.2.1 r2.2.2.2.2.2.1 r2.2.2.2.2.2.2.1 r2.2.2.2.2.2.2.2 ++ (wS T ak k0_b k0_s k0_i k0_f k0_c k0_q k0_l ++ (wG T aj i1_b i1_n i1_o i1_s i1_k i1_h i1_c i1_m ++ (wS T al r4.1 r4.2.1 r4.2.2.1 k1_f r4.2.2.2 k1_q k1_l)))))))) rfl ?_
        refine gg_iconst C dX8_image_45 kI_1 ?_
        exact gg_iret C M dX8_image_46 ⟨rfl, rfl⟩
    · refine gg_aload_n C dX8_image_18 rfl 0 rfl ?_
      refine gf_X8_10 C 0 rfl rfl dX8_image_19 ?_
      refine gg_callV C (fun l r h => c_X0_copyFrom l D T aj an i1_b i1_n i1_o i1_s i1_k i1_h i1_c i1_m N_b N_n N_o N_s N_k N_h N_c N_m r h) lk_X8_137 ⟨by decide, by decide⟩ hnn rfl (rest := []) rfl (Nat.le_of_ble_eq_true rfl) 30 rfl rfl dX8_image_22 (ws2 := fun r5 => wC hc (an 0) (asg 0) ad2 ad3 ad4 ad5 ad6 ad7 ++ (wG T an N_b N_n N_o N_s N_k N_h N_c N_m ++ (wS T asg S_b S_s S_i S_f S_c S_q S_l ++ (wI T ad5 ad6 ad7 (ai 0) (aj 0) (ak 0) (al 0) I_kp ++ (wG T ai i0_b i0_n i0_o i0_s i0_k i0_h i0_c i0_m ++ (wS T ak k0_b k0_s k0_i k0_f k0_c k0_q k0_l ++ (wG T aj r5.1 r5.2.1 r5.2.2.1 r5.2.2.2.1 r5.2.2.2.2.1 r5.2.2.2.2.2.1 r5.2.2.2.2.2.2.1 r5.2.2.2.2.2.2.2 ++ (wS T al k1_b k1_s k1_i k1_f k1_c k1_q k1_l)))))))) (cut_part 43 [30, 31, 32, 33, 34, 35, 36, 37, 1, 2, 3, 4, 5, 6, 7, 8] [0, 9, 10, 11, 12, 13, 14, 15, 16, 17, 18, 19, 20, 21, 22, 23, 24, 25, 26, 27, 28, 29, 38, 39, 40, 41, 42] rfl (by decide) rfl (fun _ => rfl) (fun _ => rfl) (fun _ => rfl)) (st2 := fun r5 => []) (fun _ => rfl) (fun r5 => ?_)
      refine gg_aload_n C dX8_image_25 rfl 0 rfl ?_
      refine gf_X8_48 C 0 rfl rfl dX8_image_26 ?_
      refine gg_iload_n C dX8_image_29 rfl 1 rfl ?_
      refine gg_aald2_1 C 15 rfl dX8_image_30 (fun _ => ?_) (fun _ => ?_)
      · refine gg_aload_n C dX8_image_31 rfl 0 rfl ?_
        refine gf_X8_19 C 0 rfl rfl dX8_image_32 ?_
        refine gg_callV C (fun l r h => c_X6_copyFrom l D T ak asg k0_b k0_s k0_i k0_f k0_c k0_q k0_l S_b S_s S_i S_f S_c S_q S_l r h) lk_X8_221 ⟨by decide, by decide⟩ hnn rfl (rest := []) rfl (Nat.le_of_ble_eq_true rfl) 25 rfl rfl dX8_image_35 (ws2 := fun r6 => wC hc (an 0) (asg 0) ad2 ad3 ad4 ad5 ad6 ad7 ++ (wG T an N_b N_n N_o N_s N_k N_h N_c N_m ++ (wS T asg S_b S_s S_i S_f S_c S_q S_l ++ (wI T ad5 ad6 ad7 (ai 0) (aj 0) (ak 0) (al 0) I_kp ++ (wG T ai i0_b i0_n i0_o i0_s i0_k i0_h i0_c i0_m ++ (wS T ak r6.1 r6.2.1 r6.2.2.1 k0_f r6.2.2.2 k0_q k0_l ++ (wG T aj r5.1 r5.2.1 r5.2.2.1 r5.2.2.2.1 r5.2.2.2.2.1 r5.2.2.2.2.2.1 r5.2.2.2.2.2.2.1 r5.2.2.2.2.2.2.2 ++ (wS T al k1_b k1_s k1_i k1_f k1_c k1_q k1_l)))))))) (cut_part 43 [25, 26, 27, 28, 29, 9, 10, 11, 12, 13] [0, 1, 2, 3, 4, 5, 6, 7, 8, 14, 15, 16, 17, 18, 19, 20, 21, 22, 23, 24, 30, 31, 32, 33, 34, 35, 36, 37, 38, 39, 40, 41, 42] rfl (by decide) rfl (fun _ => rfl) (fun _ => rfl) (fun _ => rfl)) (st2 := fun r6 => []) (fun _ => rfl) (fun r6 => ?_)
        refine gg_aload_n C dX8_image_38 rfl 0 rfl ?_
        refine gf_X8_52 C 0 rfl rfl dX8_image_39 ?_
        refine gg_iload_n C dX8_image_42 rfl 1 rfl ?_
        refine gg_iconst C dX8_image_43 kI_1 ?_
        refine gg_zast C 16 rfl dX8_image_44 (ws' := wC hc (an 0) (asg 0) ad2 ad3 ad4 ad5 ad6 ad7 ++ (wG T an N_b N_n N_o N_s N_k N_h N_c N_m ++ (wS T asg S_b S_s S_i S_f S_c S_q S_l ++ (wI T ad5 ad6 ad7 (ai 0) (aj 0) (ak 0) (al 0) (upd I_kp v1.toNatClampNeg (vp_nar .boolean 1)) ++ (wG T ai i0_b i0_n i0_o i0_s i0_k i0_h i0_c i0_m ++ (wS T ak r6.1 r6.2.1 r6.2.2.1 k0_f r6.2.2.2 k0_q k0_l ++ (wG T aj r5.1 r5.2.1 r5.2.2.1 r5.2.2.2.1 r5.2.2.2.2.1 r5.2.2.2.2.2.1 r5.2.2.2.2.2.2.1 r5.2.2.2.2.2.2.2 ++ (wS T al k1_b k1_s k1_i k1_f k1_c k1_q k1_l)))))))) rfl ?_
        refine gg_iconst C dX8_image_45 kI_1 ?_
        exact gg_iret C M dX8_image_46 ⟨rfl, rfl⟩
      · refine gg_aload_n C dX8_image_31 rfl 0 rfl ?_
        refine gf_X8_19 C 0 rfl rfl dX8_image_32 ?_
        refine gg_callV C (fun l r h => c_X6_copyFrom l D T al asg k1_b k1_s k1_i k1_f k1_c k1_q k1_l S_b S_s S_i S_f S_c S_q S_l r h) lk_X8_221 ⟨by decide, by decide⟩ hnn rfl (rest := []) rfl (Nat.le_of_ble_eq_true rfl) 38 rfl rfl dX8_image_35 (ws2 := fun r7 => wC hc (an 0) (asg 0) ad2 ad3 ad4 ad5 ad6 ad7 ++ (wG T an N_b N_n N_o N_s N_k N_h N_c N_m ++ (wS T asg S_b S_s S_i S_f S_c S_q S_l ++ (wI T ad5 ad6 ad7 (ai 0) (aj 0) (ak 0) (al 0) I_kp ++ (wG T ai i0_b i0_n i0_o i0_s i0_k i0_h i0_c i0_m ++ (wS T ak k0_b k0_s k0_i k0_f k0_c k0_q k0_l ++ (wG T aj r5.1 r5.2.1 r5.2.2.1 r5.2.2.2.1 r5.2.2.2.2.1 r5.2.2.2.2.2.1 r5.2.2.2.2.2.2.1 r5.2.2.2.2.2.2.2 ++ (wS T al r7.1 r7.2.1 r7.2.2.1 k1_f r7.2.2.2 k1_q k1_l)))))))) (cut_part 43 [38, 39, 40, 41, 42, 9, 10, 11, 12, 13] [0, 1, 2, 3, 4, 5, 6, 7, 8, 14, 15, 16, 17, 18, 19, 20, 21, 22, 23, 24, 25, 26, 27, 28, 29, 30, 31, 32, 33, 34, 35, 36, 37] rfl (by decide) rfl (fun _ => rfl) (fun _ => rfl) (fun _ => rfl)) (st2 := fun r7 => []) (fun _ => rfl) (fun r7 => ?_)
        refine gg_aload_n C dX8_image_38 rfl 0 rfl ?_
        refine gf_X8_52 C 0 rfl rfl dX8_image_39 ?_
        refine gg_iload_n C dX8_image_42 rfl 1 rfl ?_
        refine gg_iconst C dX8_image_43 kI_1 ?_
        refine gg_zast C 16 rfl dX8_image_44 (ws' := wC hc (an 0) (asg 0) ad2 ad3 ad4 ad5 ad6 ad7 ++ (wG T an N_b N_n N_o N_s N_k N_h N_c N_m ++ (wS T asg S_b S_s S_i S_f S_c S_q S_l ++ (wI T ad5 ad6 ad7 (ai 0) (aj 0) (ak 0) (al 0) (upd I_kp v1.toNatClampNeg (vp_nar .boolean 1)) ++ (wG T ai i0_b i0_n i0_o i0_s i0_k i0_h i0_c i0_m ++ (wS T ak k0_b k0_s k0_i k0_f k0_c k0_q k0_l ++ (wG T aj r5.1 r5.2.1 r5.2.2.1 r5.2.2.2.1 r5.2.2.2.2.1 r5.2.2.2.2.2.1 r5.2.2.2.2.2.2.1 r5.2.2.2.2.2.2.2 ++ (wS T al r7.1 r7.2.1 r7.2.2.1 k1_f r7.2.2.2 k1_q k1_l)))))))) rfl ?_
        refine gg_iconst C dX8_image_45 kI_1 ?_
        exact gg_iret C M dX8_image_46 ⟨rfl, rfl⟩
  · refine gg_bipush C dX8_image_9 kB_m2 ?_
    exact gg_iret C M dX8_image_11 ⟨rfl, rfl⟩
def f_X8_restore (N_b : Nat → Int32) (N_n : Nat → Int32) (N_o : Nat → Int32) (N_s : Nat → Int32) (N_k : Nat → Int32) (N_h : Nat → Int32) (N_c : Nat → Int32) (N_m : Int32) (S_b : Nat → Int32) (S_s : Nat → Int32) (S_i : Nat → Int32) (S_c : Int32) (I_kp : Nat → Int32) (i0_b : Nat → Int32) (i0_n : Nat → Int32) (i0_o : Nat → Int32) (i0_s : Nat → Int32) (i0_k : Nat → Int32) (i0_h : Nat → Int32) (i0_c : Nat → Int32) (i0_m : Int32) (k0_b : Nat → Int32) (k0_s : Nat → Int32) (k0_i : Nat → Int32) (k0_c : Int32) (i1_b : Nat → Int32) (i1_n : Nat → Int32) (i1_o : Nat → Int32) (i1_s : Nat → Int32) (i1_k : Nat → Int32) (i1_h : Nat → Int32) (i1_c : Nat → Int32) (i1_m : Int32) (k1_b : Nat → Int32) (k1_s : Nat → Int32) (k1_i : Nat → Int32) (k1_c : Int32) (v1 : Int32) : Option (Int32 × (Nat → Int32) × (Nat → Int32) × (Nat → Int32) × (Nat → Int32) × (Nat → Int32) × (Nat → Int32) × (Nat → Int32) × Int32 × (Nat → Int32) × (Nat → Int32) × (Nat → Int32) × Int32) := jn (f_X8_isWithin v1 0 1) (fun r1 => if r1 = 0 then some ((-2), N_b, N_n, N_o, N_s, N_k, N_h, N_c, N_m, S_b, S_s, S_i, S_c) else gu v1 2 (if I_kp v1.toNatClampNeg = 0 then some ((-3), N_b, N_n, N_o, N_s, N_k, N_h, N_c, N_m, S_b, S_s, S_i, S_c) else if v1 = 0 then jn (f_X0_copyFrom N_b N_n N_o N_s N_k N_h N_c i0_b i0_n i0_o i0_s i0_k i0_h i0_c i0_m) (fun r2 => if v1 = 0 then jn (f_X6_copyFrom S_b S_s S_i k0_b k0_s k0_i k0_c) (fun r3 => some (1, r2.1, r2.2.1, r2.2.2.1, r2.2.2.2.1, r2.2.2.2.2.1, r2.2.2.2.2.2.1, r2.2.2.2.2.2.2.1, r2.2.2.2.2.2.2.2, r3.1, r3.2.1, r3.2.2.1, r3.2.2.2)) else if v1 = 1 then jn (f_X6_copyFrom S_b S_s S_i k1_b k1_s k1_i k1_c) (fun r4 => some (1, r2.1, r2.2.1, r2.2.2.1, r2.2.2.2.1, r2.2.2.2.2.1, r2.2.2.2.2.2.1, r2.2.2.2.2.2.2.1, r2.2.2.2.2.2.2.2, r4.1, r4.2.1, r4.2.2.1, r4.2.2.2)) else none) else if v1 = 1 then jn (f_X0_copyFrom N_b N_n N_o N_s N_k N_h N_c i1_b i1_n i1_o i1_s i1_k i1_h i1_c i1_m) (fun r5 => if v1 = 0 then jn (f_X6_copyFrom S_b S_s S_i k0_b k0_s k0_i k0_c) (fun r6 => some (1, r5.1, r5.2.1, r5.2.2.1, r5.2.2.2.1, r5.2.2.2.2.1, r5.2.2.2.2.2.1, r5.2.2.2.2.2.2.1, r5.2.2.2.2.2.2.2, r6.1, r6.2.1, r6.2.2.1, r6.2.2.2)) else if v1 = 1 then jn (f_X6_copyFrom S_b S_s S_i k1_b k1_s k1_i k1_c) (fun r7 => some (1, r5.1, r5.2.1, r5.2.2.1, r5.2.2.2.1, r5.2.2.2.2.1, r5.2.2.2.2.2.1, r5.2.2.2.2.2.2.1, r5.2.2.2.2.2.2.2, r7.1, r7.2.1, r7.2.2.1, r7.2.2.2)) else none) else none))
set_option maxHeartbeats 4000000 in
set_option maxRecDepth 100000 in
theorem c_X8_restore (l : Launch) (D : va_G) (T : Nat → ClassId) (hc : Nat) (an : Nat → Nat) (asg : Nat → Nat) (ai : Nat → Nat) (ak : Nat → Nat) (aj : Nat → Nat) (al : Nat → Nat) (ad2 : Nat) (ad3 : Nat) (ad4 : Nat) (ad5 : Nat) (ad6 : Nat) (ad7 : Nat) (N_b : Nat → Int32) (N_n : Nat → Int32) (N_o : Nat → Int32) (N_s : Nat → Int32) (N_k : Nat → Int32) (N_h : Nat → Int32) (N_c : Nat → Int32) (N_m : Int32) (S_b : Nat → Int32) (S_s : Nat → Int32) (S_i : Nat → Int32) (S_f : Nat → Int32) (S_c : Int32) (S_q : Int32) (S_l : Int32) (I_kp : Nat → Int32) (i0_b : Nat → Int32) (i0_n : Nat → Int32) (i0_o : Nat → Int32) (i0_s : Nat → Int32) (i0_k : Nat → Int32) (i0_h : Nat → Int32) (i0_c : Nat → Int32) (i0_m : Int32) (k0_b : Nat → Int32) (k0_s : Nat → Int32) (k0_i : Nat → Int32) (k0_f : Nat → Int32) (k0_c : Int32) (k0_q : Int32) (k0_l : Int32) (i1_b : Nat → Int32) (i1_n : Nat → Int32) (i1_o : Nat → Int32) (i1_s : Nat → Int32) (i1_k : Nat → Int32) (i1_h : Nat → Int32) (i1_c : Nat → Int32) (i1_m : Int32) (k1_b : Nat → Int32) (k1_s : Nat → Int32) (k1_i : Nat → Int32) (k1_f : Nat → Int32) (k1_c : Int32) (k1_q : Int32) (k1_l : Int32) (v1 : Int32) (r : Int32 × (Nat → Int32) × (Nat → Int32) × (Nat → Int32) × (Nat → Int32) × (Nat → Int32) × (Nat → Int32) × (Nat → Int32) × Int32 × (Nat → Int32) × (Nat → Int32) × (Nat → Int32) × Int32) (h : f_X8_restore N_b N_n N_o N_s N_k N_h N_c N_m S_b S_s S_i S_c I_kp i0_b i0_n i0_o i0_s i0_k i0_h i0_c i0_m k0_b k0_s k0_i k0_c i1_b i1_n i1_o i1_s i1_k i1_h i1_c i1_m k1_b k1_s k1_i k1_c v1 = some r) : Kt l D T yX8_restore cX8_restore 2 (some .int) (2, 0, 0, 81) [.ref hc, .int v1] (wC hc (an 0) (asg 0) ad2 ad3 ad4 ad5 ad6 ad7 ++ (wG T an N_b N_n N_o N_s N_k N_h N_c N_m ++ (wS T asg S_b S_s S_i S_f S_c S_q S_l ++ (wI T ad5 ad6 ad7 (ai 0) (aj 0) (ak 0) (al 0) I_kp ++ (wG T ai i0_b i0_n i0_o i0_s i0_k i0_h i0_c i0_m ++ (wS T ak k0_b k0_s k0_i k0_f k0_c k0_q k0_l ++ (wG T aj i1_b i1_n i1_o i1_s i1_k i1_h i1_c i1_m ++ (wS T al k1_b k1_s k1_i k1_f k1_c k1_q k1_l)))))))) (FF (fun (r : Int32 × (Nat → Int32) × (Nat → Int32) × (Nat → Int32) × (Nat → Int32) × (Nat → Int32) × (Nat → Int32) × (Nat → Int32) × Int32 × (Nat → Int32) × (Nat → Int32) × (Nat → Int32) × Int32) => some (.int r.1)) (fun r => wC hc (an 0) (asg 0) ad2 ad3 ad4 ad5 ad6 ad7 ++ (wG T an r.2.1 r.2.2.1 r.2.2.2.1 r.2.2.2.2.1 r.2.2.2.2.2.1 r.2.2.2.2.2.2.1 r.2.2.2.2.2.2.2.1 r.2.2.2.2.2.2.2.2.1 ++ (wS T asg r.2.2.2.2.2.2.2.2.2.1 r.2.2.2.2.2.2.2.2.2.2.1 r.2.2.2.2.2.2.2.2.2.2.2.1 S_f r.2.2.2.2.2.2.2.2.2.2.2.2 S_q S_l ++ (wI T ad5 ad6 ad7 (ai 0) (aj 0) (ak 0) (al 0) I_kp ++ (wG T ai i0_b i0_n i0_o i0_s i0_k i0_h i0_c i0_m ++ (wS T ak k0_b k0_s k0_i k0_f k0_c k0_q k0_l ++ (wG T aj i1_b i1_n i1_o i1_s i1_k i1_h i1_c i1_m ++ (wS T al k1_b k1_s k1_i k1_f k1_c k1_q k1_l)))))))) r) := by
  refine kt_of (own := RX8) (nm := "restore") (lv := [(0, .ref hc), (1, .int v1)]) (by decide) rfl rfl rfl (Nat.le_of_ble_eq_true rfl) h (fun X hn C M => ?_)
  have hnn : ((0, 0) : Nat × Nat).1 ≤ 0 ∧ ((0, 0) : Nat × Nat).2 ≤ 0 := ⟨Nat.le_refl 0, Nat.le_refl 0⟩
  unfold f_X8_restore
  refine gg_iload_n C dX8_restore_0 rfl 1 rfl ?_
  refine gg_iconst C dX8_restore_1 kI_0 ?_
  refine gg_iconst C dX8_restore_2 kI_1 ?_
  refine gg_callS C (fun l r h => c_X8_isWithin l D T v1 0 1 r h) lk_X8_66 ⟨by decide, by decide⟩ hnn rfl (rest := []) rfl (Nat.le_of_ble_eq_true rfl) dX8_restore_3 cut_none (st2 := fun r1 => [.int r1]) (fun _ => rfl) (fun r1 => ?_)
  refine gg_if_ne C dX8_restore_6 (tgt := 12) (by decide) (fun _ => ?_) (fun _ => ?_)
  · refine gg_aload_n C dX8_restore_12 rfl 0 rfl ?_
    refine gf_X8_52 C 0 rfl rfl dX8_restore_13 ?_
    refine gg_iload_n C dX8_restore_16 rfl 1 rfl ?_
    refine gg_zald C 16 rfl dX8_restore_17 ?_
    refine gg_if_ne C dX8_restore_18 (tgt := 24) (by decide) (fun _ => ?_) (fun _ => ?_)
    · refine gg_aload_n C dX8_restore_24 rfl 0 rfl ?_
      refine gf_X8_10 C 0 rfl rfl dX8_restore_25 ?_
      refine gg_aload_n C dX8_restore_28 rfl 0 rfl ?_
      refine gf_X8_44 C 0 rfl rfl dX8_restore_29 ?_
      refine gg_iload_n C dX8_restore_32 rfl 1 rfl ?_
      refine gg_aald2_0 C 14 rfl dX8_restore_33 (fun _ => ?_) (fun _ => ?_)
      · refine gg_callV C (fun l r h => c_X0_copyFrom l D T an ai N_b N_n N_o N_s N_k N_h N_c N_m i0_b i0_n i0_o i0_s i0_k i0_h i0_c i0_m r h) lk_X8_137 ⟨by decide, by decide⟩ hnn rfl (rest := []) rfl (Nat.le_of_ble_eq_true rfl) 1 rfl rfl dX8_restore_34 (ws2 := fun r2 => wC hc (an 0) (asg 0) ad2 ad3 ad4 ad5 ad6 ad7 ++ (wG T an r2.1 r2.2.1 r2.2.2.1 r2.2.2.2.1 r2.2.2.2.2.1 r2.2.2.2.2.2.1 r2.2.2.2.2.2.2.1 r2.2.2.2.2.2.2.2 ++ (wS T asg S_b S_s S_i S_f S_c S_q S_l ++ (wI T ad5 ad6 ad7 (ai 0) (aj 0) (ak 0) (al 0) I_kp ++ (wG T ai i0_b i0_n i0_o i0_s i0_k i0_h i0_c i0_m ++ (wS T ak k0_b k0_s k0_i k0_f k0_c k0_q k0_l ++ (wG T aj i1_b i1_n i1_o i1_s i1_k i1_h i1_c i1_m ++ (wS T al k1_b k1_s k1_i k1_f k1_c k1_q k1_l)))))))) (cut_part 43 [1, 2, 3, 4, 5, 6, 7, 8, 17, 18, 19, 20, 21, 22, 23, 24] [0, 9, 10, 11, 12, 13, 14, 15, 16, 25, 26, 27, 28, 29, 30, 31, 32, 33, 34, 35, 36, 37, 38, 39, 40, 41, 42] rfl (by decide) rfl (fun _ => rfl) (fun _ => rfl) (fun _ => rfl)) (st2 := fun r2 => []) (fun _ => rfl) (fun r2 => ?_)
        refine gg_aload_n C dX8_restore_37 rfl 0 rfl ?_
        refine gf_X8_19 C 0 rfl rfl dX8_restore_38 ?_
        refine gg_aload_n C dX8_restore_41 rfl 0 rfl ?_
        refine gf_X8_48 C 0 rfl rfl dX8_restore_42 ?_
        refine gg_iload_n C dX8_restore_45 rfl 1 rfl ?_
        refine gg_aald2_1 C 15 rfl dX8_restore_46 (fun _ => ?_) (fun _ => ?_)
        · refine gg_callV C (fun l r h => c_X6_copyFrom l D T asg ak S_b S_s S_i S_f S_c S_q S_l k0_b k0_s k0_i k0_f k0_c k0_q k0_l r h) lk_X8_221 ⟨by decide, by decide⟩ hnn rfl (rest := []) rfl (Nat.le_of_ble_eq_true rfl) 9 rfl rfl dX8_restore_47 (ws2 := fun r3 => wC hc (an 0) (asg 0) ad2 ad3 ad4 ad5 ad6 ad7 ++ (wG T an r2.1 r2.2.1 r2.2.2.1 r2.2.2.2.1 r2.2.2.2.2.1 r2.2.2.2.2.2.1 r2.2.2.2.2.2.2.1 r2.2.2.2.2.2.2.2 ++ (wS T asg r3.1 r3.2.1 r3.2.2.1 S_f r3.2.2.2 S_q S_l ++ (wI T ad5 ad6 ad7 (ai 0) (aj 0) (ak 0) (al 0) I_kp ++ (wG T ai i0_b i0_n i0_o i0_s i0_k i0_h i0_c i0_m ++ (wS T ak k0_b k0_s k0_i k0_f k0_c k0_q k0_l ++ (wG T aj i1_b i1_n i1_o i1_s i1_k i1_h i1_c i1_m ++ (wS T al k1_b k1_s k1_i k1_f k1_c k1_q k1_l)))))))) (cut_part 43 [9, 10, 11, 12, 13, 25, 26, 27, 28, 29] [0, 1, 2, 3, 4, 5, 6, 7, 8, 14, 15, 16, 17, 18, 19, 20, 21, 22, 23, 24, 30, 31, 32, 33, 34, 35, 36, 37, 38, 39, 40, 41, 42] rfl (by decide) rfl (fun _ => rfl) (fun _ => rfl) (fun _ => rfl)) (st2 := fun r3 => []) (fun _ => rfl) (fun r3 => ?_)
          refine gg_iconst C dX8_restore_50 kI_1 ?_
          exact gg_iret C M dX8_restore_51 ⟨rfl, rfl⟩
        · refine gg_callV C (fun l r h => c_X6_copyFrom l D T asg al S_b S_s S_i S_f S_c S_q S_l k1_b k1_s k1_i k1_f k1_c k1_q k1_l r h) lk_X8_221 ⟨by decide, by decide⟩ hnn rfl (rest := []) rfl (Nat.le_of_ble_eq_true rfl) 9 rfl rfl dX8_restore_47 (ws2 := fun r4 => wC hc (an 0) (asg 0) ad2 ad3 ad4 ad5 ad6 ad7 ++ (wG T an r2.1 r2.2.1 r2.2.2.1 r2.2.2.2.1 r2.2.2.2.2.1 r2.2.2.2.2.2.1 r2.2.2.2.2.2.2.1 r2.2.2.2.2.2.2.2 ++ (wS T asg r4.1 r4.2.1 r4.2.2.1 S_f r4.2.2.2 S_q S_l ++ (wI T ad5 ad6 ad7 (ai 0) (aj 0) (ak 0) (al 0) I_kp ++ (wG T ai i0_b i0_n i0_o i0_s i0_k i0_h i0_c i0_m ++ (wS T ak k0_b k0_s k0_i k0_f k0_c k0_q k0_l ++ (wG T aj i1_b i1_n i1_o i1_s i1_k i1_h i1_c i1_m ++ (wS T al k1_b k1_s k1_i k1_f k1_c k1_q k1_l)))))))) (cut_part 43 [9, 10, 11, 12, 13, 38, 39, 40, 41, 42] [0, 1, 2, 3, 4, 5, 6, 7, 8, 14, 15, 16, 17, 18, 19, 20, 21, 22, 23, 24, 25, 26, 27, 28, 29, 30, 31, 32, 33, 34, 35, 36, 37] rfl (by decide) rfl (fun _ => rfl) (fun _ => rfl) (fun _ => rfl)) (st2 := fun r4 => []) (fun _ => rfl) (fun r4 => ?_)
          refine gg_iconst C dX8_restore_50 kI_1 ?_
          exact gg_iret C M dX8_restore_51 ⟨rfl, rfl⟩
      · refine gg_callV C (fun l r h => c_X0_copyFrom l D T an aj N_b N_n N_o N_s N_k N_h N_c N_m i1_b i1_n i1_o i1_s i1_k i1_h i1_c i1_m r h) lk_X8_137 ⟨by decide, by decide⟩ hnn rfl (rest := []) rfl (Nat.le_of_ble_eq_true rfl) 1 rfl rfl dX8_restore_34 (ws2 := fun r5 => wC hc (an 0) (asg 0) ad2 ad3 ad4 ad5 ad6 ad7 ++ (wG T an r5.1 r5.2.1 r5.2.2.1 r5.2.2.2.1 r5.2.2.2.2.1 r5.2.2.2.2.2.1 r5.2.2.2.2.2.2.1 r5.2.2.2.2.2.2.2 ++ (wS T asg S_b S_s S_i S_f S_c S_q S_l ++ (wI T ad5 ad6 ad7 (ai 0) (aj 0) (ak 0) (al 0) I_kp ++ (wG T ai i0_b i0_n i0_o i0_s i0_k i0_h i0_c i0_m ++ (wS T ak k0_b k0_s k0_i k0_f k0_c k0_q k0_l ++ (wG T aj i1_b i1_n i1_o i1_s i1_k i1_h i1_c i1_m ++ (wS T al k1_b k1_s k1_i k1_f k1_c k1_q k1_l)))))))) (cut_part 43 [1, 2, 3, 4, 5, 6, 7, 8, 30, 31, 32, 33, 34, 35, 36, 37] [0, 9, 10, 11, 12, 13, 14, 15, 16, 17, 18, 19, 20, 21, 22, 23, 24, 25, 26, 27, 28, 29, 38, 39, 40, 41, 42] rfl (by decide) rfl (fun _ => rfl) (fun _ => rfl) (fun _ => rfl)) (st2 := fun r5 => []) (fun _ => rfl) (fun r5 => ?_)
        refine gg_aload_n C dX8_restore_37 rfl 0 rfl ?_
        refine gf_X8_19 C 0 rfl rfl dX8_restore_38 ?_
        refine gg_aload_n C dX8_restore_41 rfl 0 rfl ?_
        refine gf_X8_48 C 0 rfl rfl dX8_restore_42 ?_
        refine gg_iload_n C dX8_restore_45 rfl 1 rfl ?_
        refine gg_aald2_1 C 15 rfl dX8_restore_46 (fun _ => ?_) (fun _ => ?_)
        · refine gg_callV C (fun l r h => c_X6_copyFrom l D T asg ak S_b S_s S_i S_f S_c S_q S_l k0_b k0_s k0_i k0_f k0_c k0_q k0_l r h) lk_X8_221 ⟨by decide, by decide⟩ hnn rfl (rest := []) rfl (Nat.le_of_ble_eq_true rfl) 9 rfl rfl dX8_restore_47 (ws2 := fun r6 => wC hc (an 0) (asg 0) ad2 ad3 ad4 ad5 ad6 ad7 ++ (wG T an r5.1 r5.2.1 r5.2.2.1 r5.2.2.2.1 r5.2.2.2.2.1 r5.2.2.2.2.2.1 r5.2.2.2.2.2.2.1 r5.2.2.2.2.2.2.2 ++ (wS T asg r6.1 r6.2.1 r6.2.2.1 S_f r6.2.2.2 S_q S_l ++ (wI T ad5 ad6 ad7 (ai 0) (aj 0) (ak 0) (al 0) I_kp ++ (wG T ai i0_b i0_n i0_o i0_s i0_k i0_h i0_c i0_m ++ (wS T ak k0_b k0_s k0_i k0_f k0_c k0_q k0_l ++ (wG T aj i1_b i1_n i1_o i1_s i1_k i1_h i1_c i1_m ++ (wS T al k1_b k1_s k1_i k1_f k1_c k1_q k1_l)))))))) (cut_part 43 [9, 10, 11, 12, 13, 25, 26, 27, 28, 29] [0, 1, 2, 3, 4, 5, 6, 7, 8, 14, 15, 16, 17, 18, 19, 20, 21, 22, 23, 24, 30, 31, 32, 33, 34, 35, 36, 37, 38, 39, 40, 41, 42] rfl (by decide) rfl (fun _ => rfl) (fun _ => rfl) (fun _ => rfl)) (st2 := fun r6 => []) (fun _ => rfl) (fun r6 => ?_)
          refine gg_iconst C dX8_restore_50 kI_1 ?_
          exact gg_iret C M dX8_restore_51 ⟨rfl, rfl⟩
        · refine gg_callV C (fun l r h => c_X6_copyFrom l D T asg al S_b S_s S_i S_f S_c S_q S_l k1_b k1_s k1_i k1_f k1_c k1_q k1_l r h) lk_X8_221 ⟨by decide, by decide⟩ hnn rfl (rest := []) rfl (Nat.le_of_ble_eq_true rfl) 9 rfl rfl dX8_restore_47 (ws2 := fun r7 => wC hc (an 0) (asg 0) ad2 ad3 ad4 ad5 ad6 ad7 ++ (wG T an r5.1 r5.2.1 r5.2.2.1 r5.2.2.2.1 r5.2.2.2.2.1 r5.2.2.2.2.2.1 r5.2.2.2.2.2.2.1 r5.2.2.2.2.2.2.2 ++ (wS T asg r7.1 r7.2.1 r7.2.2.1 S_f r7.2.2.2 S_q S_l ++ (wI T ad5 ad6 ad7 (ai 0) (aj 0) (ak 0) (al 0) I_kp ++ (wG T ai i0_b i0_n i0_o i0_s i0_k i0_h i0_c i0_m ++ (wS T ak k0_b k0_s k0_i k0_f k0_c k0_q k0_l ++ (wG T aj i1_b i1_n i1_o i1_s i1_k i1_h i1_c i1_m ++ (wS T al k1_b k1_s k1_i k1_f k1_c k1_q k1_l)))))))) (cut_part 43 [9, 10, 11, 12, 13, 38, 39, 40, 41, 42] [0, 1, 2, 3, 4, 5, 6, 7, 8, 14, 15, 16, 17, 18, 19, 20, 21, 22, 23, 24, 25, 26, 27, 28, 29, 30, 31, 32, 33, 34, 35, 36, 37] rfl (by decide) rfl (fun _ => rfl) (fun _ => rfl) (fun _ => rfl)) (st2 := fun r7 => []) (fun _ => rfl) (fun r7 => ?_)
          refine gg_iconst C dX8_restore_50 kI_1 ?_
          exact gg_iret C M dX8_restore_51 ⟨rfl, rfl⟩
    · refine gg_bipush C dX8_restore_21 kB_m3 ?_
      exact gg_iret C M dX8_restore_23 ⟨rfl, rfl⟩
  · refine gg_bipush C dX8_restore_9 kB_m2 ?_
    exact gg_iret C M dX8_restore_11 ⟨rfl, rfl⟩
def f_X8_told (N_b : Nat → Int32) (N_n : Nat → Int32) (N_o : Nat → Int32) (N_s : Nat → Int32) (N_k : Nat → Int32) (N_h : Nat → Int32) (N_c : Nat → Int32) (N_m : Int32) (S_c : Int32) (P_n : Int32) (v1 : Int32) : Option (Int32) := jn (f_X8_isWithin v1 100 399) (fun r1 => if r1 = 0 then jn (f_X8_isWithin v1 10 49) (fun r2 => if r2 = 0 then if v1 = 0 then some P_n else (if v1 = 1 then jn (f_X0_chosenBits N_c) (fun r5 => some r5) else (if v1 = 2 then jn (f_X0_nickCount N_n) (fun r7 => some r7) else (if v1 = 3 then some N_m else (if v1 = 4 then some S_c else (some (-2)))))) else jn (f_X8_toldOfHeir N_s N_k N_h N_c (v1 / 10) (v1 - v1 / 10 * 10)) (fun r10 => some r10)) else jn (f_X8_toldOfPlace N_b N_n N_o (v1 / 100) (v1 - v1 / 100 * 100)) (fun r11 => some r11))
set_option maxHeartbeats 4000000 in
set_option maxRecDepth 100000 in
theorem c_X8_told (l : Launch) (D : va_G) (T : Nat → ClassId) (hc : Nat) (an : Nat → Nat) (asg : Nat → Nat) (ap : Nat → Nat) (ad3 : Nat) (ad4 : Nat) (ad5 : Nat) (ad6 : Nat) (ad7 : Nat) (N_b : Nat → Int32) (N_n : Nat → Int32) (N_o : Nat → Int32) (N_s : Nat → Int32) (N_k : Nat → Int32) (N_h : Nat → Int32) (N_c : Nat → Int32) (N_m : Int32) (S_b : Nat → Int32) (S_s : Nat → Int32) (S_i : Nat → Int32) (S_f : Nat → Int32) (S_c : Int32) (S_q : Int32) (S_l : Int32) (P_s : Nat → Int32) (P_n : Int32) (v1 : Int32) (r : Int32) (h : f_X8_told N_b N_n N_o N_s N_k N_h N_c N_m S_c P_n v1 = some r) : Kt l D T yX8_told cX8_told 2 (some .int) (2, 0, 0, 42) [.ref hc, .int v1] (wC hc (an 0) (asg 0) (ap 0) ad3 ad4 ad5 ad6 ad7 ++ (wG T an N_b N_n N_o N_s N_k N_h N_c N_m ++ (wS T asg S_b S_s S_i S_f S_c S_q S_l ++ (wP T ap P_s P_n)))) (FF (fun (r : Int32) => some (.int r)) (fun r => wC hc (an 0) (asg 0) (ap 0) ad3 ad4 ad5 ad6 ad7 ++ (wG T an N_b N_n N_o N_s N_k N_h N_c N_m ++ (wS T asg S_b S_s S_i S_f S_c S_q S_l ++ (wP T ap P_s P_n)))) r) := by
  refine kt_of (own := RX8) (nm := "told") (lv := [(0, .ref hc), (1, .int v1)]) (by decide) rfl rfl rfl (Nat.le_of_ble_eq_true rfl) h (fun X hn C M => ?_)
  have hnn : ((0, 0) : Nat × Nat).1 ≤ 0 ∧ ((0, 0) : Nat × Nat).2 ≤ 0 := ⟨Nat.le_refl 0, Nat.le_refl 0⟩
  unfold f_X8_told
  refine gg_iload_n C dX8_told_0 rfl 1 rfl ?_
  refine gg_bipush C dX8_told_1 kB_100 ?_
  refine gg_sipush C dX8_told_3 kS_399 ?_
  refine gg_callS C (fun l r h => c_X8_isWithin l D T v1 100 399 r h) lk_X8_66 ⟨by decide, by decide⟩ hnn rfl (rest := []) rfl (Nat.le_of_ble_eq_true rfl) dX8_told_6 cut_none (st2 := fun r1 => [.int r1]) (fun _ => rfl) (fun r1 => ?_)
  refine gg_if_eq C dX8_told_9 (tgt := 25) (by decide) (fun _ => ?_) (fun _ => ?_)
  · refine gg_iload_n C dX8_told_25 rfl 1 rfl ?_
    refine gg_bipush C dX8_told_26 kB_10 ?_
    refine gg_bipush C dX8_told_28 kB_49 ?_
    refine gg_callS C (fun l r h => c_X8_isWithin l D T v1 10 49 r h) lk_X8_66 ⟨by decide, by decide⟩ hnn rfl (rest := []) rfl (Nat.le_of_ble_eq_true rfl) dX8_told_30 cut_none (st2 := fun r2 => [.int r2]) (fun _ => rfl) (fun r2 => ?_)
    refine gg_if_eq C dX8_told_33 (tgt := 49) (by decide) (fun _ => ?_) (fun _ => ?_)
    · refine gg_iload_n C dX8_told_49 rfl 1 rfl ?_
      refine gg_ite (fun hs3 => ?_) (fun hs3 => ?_)
      · refine gg_tabIn C 0 dX8_told_50 (by rw [hs3]; decide) (by decide) (by decide) (off := 34) (by decide) (tgt := 84) (by decide) ?_
        refine gg_aload_n C dX8_told_84 rfl 0 rfl ?_
        refine gf_X8_26 C 0 rfl rfl dX8_told_85 ?_
        refine gf_X8_231 C 14 rfl rfl dX8_told_88 ?_
        exact gg_iret C M dX8_told_91 ⟨rfl, rfl⟩
      refine gg_ite (fun hs4 => ?_) (fun hs4 => ?_)
      · refine gg_tabIn C 1 dX8_told_50 (by rw [hs4]; decide) (by decide) (by decide) (off := 42) (by decide) (tgt := 92) (by decide) ?_
        refine gg_aload_n C dX8_told_92 rfl 0 rfl ?_
        refine gf_X8_10 C 0 rfl rfl dX8_told_93 ?_
        refine gg_callV C (fun l r h => c_X0_chosenBits l D T an N_b N_n N_o N_s N_k N_h N_c N_m r h) lk_X8_119 ⟨by decide, by decide⟩ hnn rfl (rest := []) rfl (Nat.le_of_ble_eq_true rfl) 1 rfl rfl dX8_told_96 (ws2 := fun r5 => wC hc (an 0) (asg 0) (ap 0) ad3 ad4 ad5 ad6 ad7 ++ (wG T an N_b N_n N_o N_s N_k N_h N_c N_m ++ (wS T asg S_b S_s S_i S_f S_c S_q S_l ++ (wP T ap P_s P_n)))) (cut_part 16 [1, 2, 3, 4, 5, 6, 7, 8] [0, 9, 10, 11, 12, 13, 14, 15] rfl (by decide) rfl (fun _ => rfl) (fun _ => rfl) (fun _ => rfl)) (st2 := fun r5 => [.int r5]) (fun _ => rfl) (fun r5 => ?_)
        exact gg_iret C M dX8_told_99 ⟨rfl, rfl⟩
      refine gg_ite (fun hs6 => ?_) (fun hs6 => ?_)
      · refine gg_tabIn C 2 dX8_told_50 (by rw [hs6]; decide) (by decide) (by decide) (off := 50) (by decide) (tgt := 100) (by decide) ?_
        refine gg_aload_n C dX8_told_100 rfl 0 rfl ?_
        refine gf_X8_10 C 0 rfl rfl dX8_told_101 ?_
        refine gg_callV C (fun l r h => c_X0_nickCount l D T an N_b N_n N_o N_s N_k N_h N_c N_m r h) lk_X8_125 ⟨by decide, by decide⟩ hnn rfl (rest := []) rfl (Nat.le_of_ble_eq_true rfl) 1 rfl rfl dX8_told_104 (ws2 := fun r7 => wC hc (an 0) (asg 0) (ap 0) ad3 ad4 ad5 ad6 ad7 ++ (wG T an N_b N_n N_o N_s N_k N_h N_c N_m ++ (wS T asg S_b S_s S_i S_f S_c S_q S_l ++ (wP T ap P_s P_n)))) (cut_part 16 [1, 2, 3, 4, 5, 6, 7, 8] [0, 9, 10, 11, 12, 13, 14, 15] rfl (by decide) rfl (fun _ => rfl) (fun _ => rfl) (fun _ => rfl)) (st2 := fun r7 => [.int r7]) (fun _ => rfl) (fun r7 => ?_)
        exact gg_iret C M dX8_told_107 ⟨rfl, rfl⟩
      refine gg_ite (fun hs8 => ?_) (fun hs8 => ?_)
      · refine gg_tabIn C 3 dX8_told_50 (by rw [hs8]; decide) (by decide) (by decide) (off := 58) (by decide) (tgt := 108) (by decide) ?_
        refine gg_aload_n C dX8_told_108 rfl 0 rfl ?_
        refine gf_X8_10 C 0 rfl rfl dX8_told_109 ?_
        refine gf_X8_128 C 1 rfl rfl dX8_told_112 ?_
        exact gg_iret C M dX8_told_115 ⟨rfl, rfl⟩
      refine gg_ite (fun hs9 => ?_) (fun hs9 => ?_)
      · refine gg_tabIn C 4 dX8_told_50 (by rw [hs9]; decide) (by decide) (by decide) (off := 66) (by decide) (tgt := 116) (by decide) ?_
        refine gg_aload_n C dX8_told_116 rfl 0 rfl ?_
        refine gf_X8_19 C 0 rfl rfl dX8_told_117 ?_
        refine gf_X8_234 C 9 rfl rfl dX8_told_120 ?_
        exact gg_iret C M dX8_told_123 ⟨rfl, rfl⟩
      refine gg_tabOut C dX8_told_50 (by have q0 := lv_neT hs3 (a := 0) (by decide); have q1 := lv_neT hs4 (a := 1) (by decide); have q2 := lv_neT hs6 (a := 2) (by decide); have q3 := lv_neT hs8 (a := 3) (by decide); have q4 := lv_neT hs9 (a := 4) (by decide); omega) (tgt := 124) (by decide) ?_
      refine gg_bipush C dX8_told_124 kB_m2 ?_
      exact gg_iret C M dX8_told_126 ⟨rfl, rfl⟩
    · refine gg_aload_n C dX8_told_36 rfl 0 rfl ?_
      refine gg_iload_n C dX8_told_37 rfl 1 rfl ?_
      refine gg_bipush C dX8_told_38 kB_10 ?_
      refine gg_idivK C dX8_told_40 (by decide) ?_
      refine gg_iload_n C dX8_told_41 rfl 1 rfl ?_
      refine gg_bipush C dX8_told_42 kB_10 ?_
      refine gg_iremK C dX8_told_44 (by decide) ?_
      refine gg_callV C (fun l r h => c_X8_toldOfHeir l D T hc an (asg 0) (ap 0) ad3 ad4 ad5 ad6 ad7 N_b N_n N_o N_s N_k N_h N_c N_m (v1 / 10) (v1 - v1 / 10 * 10) r h) lk_X8_228 ⟨by decide, by decide⟩ hnn rfl (rest := []) rfl (Nat.le_of_ble_eq_true rfl) 0 rfl rfl dX8_told_45 (ws2 := fun r10 => wC hc (an 0) (asg 0) (ap 0) ad3 ad4 ad5 ad6 ad7 ++ (wG T an N_b N_n N_o N_s N_k N_h N_c N_m ++ (wS T asg S_b S_s S_i S_f S_c S_q S_l ++ (wP T ap P_s P_n)))) (cut_part 16 [0, 1, 2, 3, 4, 5, 6, 7, 8] [9, 10, 11, 12, 13, 14, 15] rfl (by decide) rfl (fun _ => rfl) (fun _ => rfl) (fun _ => rfl)) (st2 := fun r10 => [.int r10]) (fun _ => rfl) (fun r10 => ?_)
      exact gg_iret C M dX8_told_48 ⟨rfl, rfl⟩
  · refine gg_aload_n C dX8_told_12 rfl 0 rfl ?_
    refine gg_iload_n C dX8_told_13 rfl 1 rfl ?_
    refine gg_bipush C dX8_told_14 kB_100 ?_
    refine gg_idivK C dX8_told_16 (by decide) ?_
    refine gg_iload_n C dX8_told_17 rfl 1 rfl ?_
    refine gg_bipush C dX8_told_18 kB_100 ?_
    refine gg_iremK C dX8_told_20 (by decide) ?_
    refine gg_callV C (fun l r h => c_X8_toldOfPlace l D T hc an (asg 0) (ap 0) ad3 ad4 ad5 ad6 ad7 N_b N_n N_o N_s N_k N_h N_c N_m (v1 / 100) (v1 - v1 / 100 * 100) r h) lk_X8_224 ⟨by decide, by decide⟩ hnn rfl (rest := []) rfl (Nat.le_of_ble_eq_true rfl) 0 rfl rfl dX8_told_21 (ws2 := fun r11 => wC hc (an 0) (asg 0) (ap 0) ad3 ad4 ad5 ad6 ad7 ++ (wG T an N_b N_n N_o N_s N_k N_h N_c N_m ++ (wS T asg S_b S_s S_i S_f S_c S_q S_l ++ (wP T ap P_s P_n)))) (cut_part 16 [0, 1, 2, 3, 4, 5, 6, 7, 8] [9, 10, 11, 12, 13, 14, 15] rfl (by decide) rfl (fun _ => rfl) (fun _ => rfl) (fun _ => rfl)) (st2 := fun r11 => [.int r11]) (fun _ => rfl) (fun r11 => ?_)
    exact gg_iret C M dX8_told_24 ⟨rfl, rfl⟩
