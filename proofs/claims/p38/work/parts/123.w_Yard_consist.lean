/-! ===== printed by wip/gen: Yard_consist Yard_finding State_damps State_there Report_ever Yard_count Report_bodyAt Yard_trace Yard_digestThing Yard_digest History_written Yard_log Stacks_height_start Stacks_height_goal Plans_setRoom Yard_room Stacks_wagonAt_start Stacks_placeOn_start Stacks_stackOf_start ===== -/
def f_Yard_consist (a1 : Int32) (a2 : Int32) (S : SS) : Option (Int32 × SS) :=
  if 0 ≤ a2 then
    bndv (f_Report_begin  S) (fun S1 =>
    bnd (f_Yard_named a1 (127 : Int32) S1) (fun r3 S2 =>
    if r3 = 0 then
      bndv (f_Trains_lineUp ((2 : Int32) * a1) S2) (fun S4 =>
      bnd (f_Trains_inLine a2 S4) (fun r6 S5 =>
      some (r6, S5)))
    else
      bnd (f_Report_found r3 S2) (fun r8 S7 =>
      some (r8, S7))))
  else
    some ((-1 : Int32), S)
theorem dX11_consist_0 : decode cX11_consist 0 = .ok (.iload_n 2, 1) := dc_28 (by decide +kernel)
theorem dX11_consist_1 : decode cX11_consist 1 = .ok (.ifCond .ge 5, 3) := dc_156 (a := 0) (b := 5) (by decide +kernel) (by decide)
theorem dX11_consist_4 : decode cX11_consist 4 = .ok (.iconst (-1), 1) := dc_2 (by decide +kernel)
theorem dX11_consist_5 : decode cX11_consist 5 = .ok (.ireturn, 1) := dc_172 (by decide +kernel)
theorem dX11_consist_6 : decode cX11_consist 6 = .ok (.aload_n 0, 1) := dc_42 (by decide +kernel)
theorem dX11_consist_7 : decode cX11_consist 7 = .ok (.getfield 10, 3) := dc_180 (a := 0) (b := 10) (by decide +kernel)
theorem dX11_consist_10 : decode cX11_consist 10 = .ok (.invokevirtual 95, 3) := dc_182 (a := 0) (b := 95) (by decide +kernel)
theorem dX11_consist_13 : decode cX11_consist 13 = .ok (.aload_n 0, 1) := dc_42 (by decide +kernel)
theorem dX11_consist_14 : decode cX11_consist 14 = .ok (.iload_n 1, 1) := dc_27 (by decide +kernel)
theorem dX11_consist_15 : decode cX11_consist 15 = .ok (.bipush 127, 2) := dc_16 (a := 127) (by decide +kernel) (by decide)
theorem dX11_consist_17 : decode cX11_consist 17 = .ok (.invokevirtual 185, 3) := dc_182 (a := 0) (b := 185) (by decide +kernel)
theorem dX11_consist_20 : decode cX11_consist 20 = .ok (.istore_n 3, 1) := dc_62 (by decide +kernel)
theorem dX11_consist_21 : decode cX11_consist 21 = .ok (.iload_n 3, 1) := dc_29 (by decide +kernel)
theorem dX11_consist_22 : decode cX11_consist 22 = .ok (.ifCond .eq 12, 3) := dc_153 (a := 0) (b := 12) (by decide +kernel) (by decide)
theorem dX11_consist_25 : decode cX11_consist 25 = .ok (.aload_n 0, 1) := dc_42 (by decide +kernel)
theorem dX11_consist_26 : decode cX11_consist 26 = .ok (.getfield 10, 3) := dc_180 (a := 0) (b := 10) (by decide +kernel)
theorem dX11_consist_29 : decode cX11_consist 29 = .ok (.iload_n 3, 1) := dc_29 (by decide +kernel)
theorem dX11_consist_30 : decode cX11_consist 30 = .ok (.invokevirtual 98, 3) := dc_182 (a := 0) (b := 98) (by decide +kernel)
theorem dX11_consist_33 : decode cX11_consist 33 = .ok (.ireturn, 1) := dc_172 (by decide +kernel)
theorem dX11_consist_34 : decode cX11_consist 34 = .ok (.aload_n 0, 1) := dc_42 (by decide +kernel)
theorem dX11_consist_35 : decode cX11_consist 35 = .ok (.getfield 58, 3) := dc_180 (a := 0) (b := 58) (by decide +kernel)
theorem dX11_consist_38 : decode cX11_consist 38 = .ok (.iconst 2, 1) := dc_5 (by decide +kernel)
theorem dX11_consist_39 : decode cX11_consist 39 = .ok (.iload_n 1, 1) := dc_27 (by decide +kernel)
theorem dX11_consist_40 : decode cX11_consist 40 = .ok (.imul, 1) := dc_104 (by decide +kernel)
theorem dX11_consist_41 : decode cX11_consist 41 = .ok (.invokevirtual 281, 3) := dc_182 (a := 1) (b := 25) (by decide +kernel)
theorem dX11_consist_44 : decode cX11_consist 44 = .ok (.aload_n 0, 1) := dc_42 (by decide +kernel)
theorem dX11_consist_45 : decode cX11_consist 45 = .ok (.getfield 58, 3) := dc_180 (a := 0) (b := 58) (by decide +kernel)
theorem dX11_consist_48 : decode cX11_consist 48 = .ok (.iload_n 2, 1) := dc_28 (by decide +kernel)
theorem dX11_consist_49 : decode cX11_consist 49 = .ok (.invokevirtual 299, 3) := dc_182 (a := 1) (b := 43) (by decide +kernel)
theorem dX11_consist_52 : decode cX11_consist 52 = .ok (.ireturn, 1) := dc_172 (by decide +kernel)
set_option maxRecDepth 100000 in
set_option maxHeartbeats 4000000 in
theorem m_Yard_consist (a1 : Int32) (a2 : Int32) (S S' : SS) (r : Int32) (h : f_Yard_consist a1 a2 S = some (r, S')) : MT yX11_consist cX11_consist 4 (some .int) 3 67 (fun ad => [.ref (ad 61), .int a1, .int a2]) S (some (.int r)) S' := by
  refine MT.of RX11 (fun ad => [(0, .ref (ad 61)), (1, .int a1), (2, .int a2)]) (by decide) rfl (fun _ => Nat.le_of_ble_eq_true rfl) (fun _ => rfl) ?_
  intro p l e R s m args below meth c dC dI cs ad A hR1 hR2 F H locs ls w hl
  have hx := F.1.1
  have hb := F.1.2.1
  rw [f_Yard_consist] at h
  refine lv_iload_n (pc := 0) hx hb dX11_consist_0 rfl (lv_at hl 2 rfl) ?_
  refine lv_if_ge (pc := 1) (tgt := 6) hx hb dX11_consist_1 (by decide) (fun q => ?_) (fun q => ?_)
  · have h := ite_t q h
    refine lv_aload_n (pc := 6) hx hb dX11_consist_6 rfl (lv_at hl 0 rfl) ?_
    refine s_getR (pc := 7) F w 62 ds_61 (j := 0) vc_X11 vi_X11 rfl (by decide) kf_X11_10 dX11_consist_7 ?_
    obtain ⟨S1, hc, h⟩ := bndv_t h
    refine s_cvv (pc := 10) [] (fun ad => [.ref (ad 62)]) F w (m_Report_begin  _ _ hc) rfl rfl hl.1 ds_62 vc_X5 rfl ok_X5_begin rfl kc_X5_begin kl_X11_95 ki_X5_begin kv_X5_begin kn_X5 ⟨Nat.le_trans (by decide) hR1, Nat.le_trans (by decide) hR2⟩ ⟨Nat.zero_le _, Nat.zero_le _⟩ (Nat.le_of_ble_eq_true rfl) dX11_consist_10 (fun H locs w => ?_)
    refine lv_aload_n (pc := 13) hx hb dX11_consist_13 rfl (lv_at hl 0 rfl) ?_
    refine lv_iload_n (pc := 14) hx hb dX11_consist_14 rfl (lv_at hl 1 rfl) ?_
    refine lv_bipush (pc := 15) (v := 127) hx hb dX11_consist_15 (by decide) ?_
    obtain ⟨r3, S2, hc, h⟩ := bnd_t h
    refine s_cvi (pc := 17) [.int a1, .int (127 : Int32)] (fun ad => [.ref (ad 61), .int a1, .int (127 : Int32)]) F w (m_Yard_named _ _ _ _ _ hc) rfl rfl hl.1 ds_61 vc_X11 rfl ok_X11_named rfl kc_X11_named kl_X11_185 ki_X11_named kv_X11_named kn_X11 ⟨Nat.le_trans (by decide) hR1, Nat.le_trans (by decide) hR2⟩ ⟨Nat.zero_le _, Nat.zero_le _⟩ (Nat.le_of_ble_eq_true rfl) dX11_consist_17 (fun H locs w => ?_)
    refine lv_istore_n (pc := 20) (lv' := [(3, .int r3), (0, .ref (ad 61)), (1, .int a1), (2, .int a2)]) hx hb dX11_consist_20 rfl hl (by decide) rfl (fun ls hl => ?_)
    refine lv_iload_n (pc := 21) hx hb dX11_consist_21 rfl (lv_at hl 0 rfl) ?_
    refine lv_if_eq (pc := 22) (tgt := 34) hx hb dX11_consist_22 (by decide) (fun q => ?_) (fun q => ?_)
    · have h := ite_t q h
      refine lv_aload_n (pc := 34) hx hb dX11_consist_34 rfl (lv_at hl 1 rfl) ?_
      refine s_getR (pc := 35) F w 68 ds_61 (j := 6) vc_X11 vi_X11 rfl (by decide) kf_X11_58 dX11_consist_35 ?_
      refine lv_iconst (pc := 38) (v := 2) hx hb dX11_consist_38 (by decide) ?_
      refine lv_iload_n (pc := 39) hx hb dX11_consist_39 rfl (lv_at hl 2 rfl) ?_
      refine lv_imul (pc := 40) hx hb dX11_consist_40 ?_
      obtain ⟨S4, hc, h⟩ := bndv_t h
      refine s_cvv (pc := 41) [.int ((2 : Int32) * a1)] (fun ad => [.ref (ad 68), .int ((2 : Int32) * a1)]) F w (m_Trains_lineUp _ _ _ hc) rfl rfl hl.1 ds_68 vc_X10 rfl ok_X10_lineUp rfl kc_X10_lineUp kl_X11_281 ki_X10_lineUp kv_X10_lineUp kn_X10 ⟨Nat.le_trans (by decide) hR1, Nat.le_trans (by decide) hR2⟩ ⟨Nat.zero_le _, Nat.zero_le _⟩ (Nat.le_of_ble_eq_true rfl) dX11_consist_41 (fun H locs w => ?_)
      refine lv_aload_n (pc := 44) hx hb dX11_consist_44 rfl (lv_at hl 1 rfl) ?_
      refine s_getR (pc := 45) F w 68 ds_61 (j := 6) vc_X11 vi_X11 rfl (by decide) kf_X11_58 dX11_consist_45 ?_
      refine lv_iload_n (pc := 48) hx hb dX11_consist_48 rfl (lv_at hl 3 rfl) ?_
      obtain ⟨r6, S5, hc, h⟩ := bnd_t h
      refine s_cvi (pc := 49) [.int a2] (fun ad => [.ref (ad 68), .int a2]) F w (m_Trains_inLine _ _ _ _ hc) rfl rfl hl.1 ds_68 vc_X10 rfl ok_X10_inLine rfl kc_X10_inLine kl_X11_299 ki_X10_inLine kv_X10_inLine kn_X10 ⟨Nat.le_trans (by decide) hR1, Nat.le_trans (by decide) hR2⟩ ⟨Nat.zero_le _, Nat.zero_le _⟩ (Nat.le_of_ble_eq_true rfl) dX11_consist_49 (fun H locs w => ?_)
      exact s_iret F w h dX11_consist_52
    · have h := ite_f q h
      refine lv_aload_n (pc := 25) hx hb dX11_consist_25 rfl (lv_at hl 1 rfl) ?_
      refine s_getR (pc := 26) F w 62 ds_61 (j := 0) vc_X11 vi_X11 rfl (by decide) kf_X11_10 dX11_consist_26 ?_
      refine lv_iload_n (pc := 29) hx hb dX11_consist_29 rfl (lv_at hl 0 rfl) ?_
      obtain ⟨r8, S7, hc, h⟩ := bnd_t h
      refine s_cvi (pc := 30) [.int r3] (fun ad => [.ref (ad 62), .int r3]) F w (m_Report_found _ _ _ _ hc) rfl rfl hl.1 ds_62 vc_X5 rfl ok_X5_found rfl kc_X5_found kl_X11_98 ki_X5_found kv_X5_found kn_X5 ⟨Nat.le_trans (by decide) hR1, Nat.le_trans (by decide) hR2⟩ ⟨Nat.zero_le _, Nat.zero_le _⟩ (Nat.le_of_ble_eq_true rfl) dX11_consist_30 (fun H locs w => ?_)
      exact s_iret F w h dX11_consist_33
  · have h := ite_f q h
    refine lv_iconst (pc := 4) (v := -1) hx hb dX11_consist_4 (by decide) ?_
    exact s_iret F w h dX11_consist_5
def f_Yard_finding (a1 : Int32) (S : SS) : Option (Int32 × SS) :=
  if a1 = (0 : Int32) then
    some (S.1 62 3, S)
  else
  if a1 = (1 : Int32) then
    some (S.1 62 4, S)
  else
  if a1 = (2 : Int32) then
    some (S.1 62 5, S)
  else
  if a1 = (3 : Int32) then
    some (S.1 62 6, S)
  else
  some ((-1 : Int32), S)
theorem dX11_finding_0 : decode cX11_finding 0 = .ok (.iload_n 1, 1) := dc_27 (by decide +kernel)
theorem dX11_finding_1 : decode cX11_finding 1 = .ok (.tableswitch 63 0 3 #[31, 39, 47, 55], 31) := by decide +kernel
theorem dX11_finding_32 : decode cX11_finding 32 = .ok (.aload_n 0, 1) := dc_42 (by decide +kernel)
theorem dX11_finding_33 : decode cX11_finding 33 = .ok (.getfield 10, 3) := dc_180 (a := 0) (b := 10) (by decide +kernel)
theorem dX11_finding_36 : decode cX11_finding 36 = .ok (.getfield 363, 3) := dc_180 (a := 1) (b := 107) (by decide +kernel)
theorem dX11_finding_39 : decode cX11_finding 39 = .ok (.ireturn, 1) := dc_172 (by decide +kernel)
theorem dX11_finding_40 : decode cX11_finding 40 = .ok (.aload_n 0, 1) := dc_42 (by decide +kernel)
theorem dX11_finding_41 : decode cX11_finding 41 = .ok (.getfield 10, 3) := dc_180 (a := 0) (b := 10) (by decide +kernel)
theorem dX11_finding_44 : decode cX11_finding 44 = .ok (.getfield 366, 3) := dc_180 (a := 1) (b := 110) (by decide +kernel)
theorem dX11_finding_47 : decode cX11_finding 47 = .ok (.ireturn, 1) := dc_172 (by decide +kernel)
theorem dX11_finding_48 : decode cX11_finding 48 = .ok (.aload_n 0, 1) := dc_42 (by decide +kernel)
theorem dX11_finding_49 : decode cX11_finding 49 = .ok (.getfield 10, 3) := dc_180 (a := 0) (b := 10) (by decide +kernel)
theorem dX11_finding_52 : decode cX11_finding 52 = .ok (.getfield 293, 3) := dc_180 (a := 1) (b := 37) (by decide +kernel)
theorem dX11_finding_55 : decode cX11_finding 55 = .ok (.ireturn, 1) := dc_172 (by decide +kernel)
theorem dX11_finding_56 : decode cX11_finding 56 = .ok (.aload_n 0, 1) := dc_42 (by decide +kernel)
theorem dX11_finding_57 : decode cX11_finding 57 = .ok (.getfield 10, 3) := dc_180 (a := 0) (b := 10) (by decide +kernel)
theorem dX11_finding_60 : decode cX11_finding 60 = .ok (.getfield 369, 3) := dc_180 (a := 1) (b := 113) (by decide +kernel)
theorem dX11_finding_63 : decode cX11_finding 63 = .ok (.ireturn, 1) := dc_172 (by decide +kernel)
theorem dX11_finding_64 : decode cX11_finding 64 = .ok (.iconst (-1), 1) := dc_2 (by decide +kernel)
theorem dX11_finding_65 : decode cX11_finding 65 = .ok (.ireturn, 1) := dc_172 (by decide +kernel)
set_option maxRecDepth 100000 in
set_option maxHeartbeats 4000000 in
theorem m_Yard_finding (a1 : Int32) (S S' : SS) (r : Int32) (h : f_Yard_finding a1 S = some (r, S')) : MT yX11_finding cX11_finding 2 (some .int) 0 0 (fun ad => [.ref (ad 61), .int a1]) S (some (.int r)) S' := by
  refine MT.of RX11 (fun ad => [(0, .ref (ad 61)), (1, .int a1)]) (by decide) rfl (fun _ => Nat.le_of_ble_eq_true rfl) (fun _ => rfl) ?_
  intro p l e R s m args below meth c dC dI cs ad A hR1 hR2 F H locs ls w hl
  have hx := F.1.1
  have hb := F.1.2.1
  rw [f_Yard_finding] at h
  refine lv_iload_n (pc := 0) hx hb dX11_finding_0 rfl (lv_at hl 1 rfl) ?_
  rcases Decidable.em (a1 = (0 : Int32)) with q0 | q0
  · refine lv_tableIn (pc := 1) (tgt := 32) (off := 31) hx hb dX11_finding_1 (by rw [q0]; decide) (by rw [q0]; decide) (by rw [q0]; rfl) (by decide) ?_
    have h := ite_t q0 h
    refine lv_aload_n (pc := 32) hx hb dX11_finding_32 rfl (lv_at hl 0 rfl) ?_
    refine s_getR (pc := 33) F w 62 ds_61 (j := 0) vc_X11 vi_X11 rfl (by decide) kf_X11_10 dX11_finding_33 ?_
    refine s_getI (pc := 36) F w ds_62 (j := 3) vc_X5 vi_X5 rfl (by decide) kf_X11_363 dX11_finding_36 ?_
    exact s_iret F w h dX11_finding_39
  have h := ite_f q0 h
  rcases Decidable.em (a1 = (1 : Int32)) with q1 | q1
  · refine lv_tableIn (pc := 1) (tgt := 40) (off := 39) hx hb dX11_finding_1 (by rw [q1]; decide) (by rw [q1]; decide) (by rw [q1]; rfl) (by decide) ?_
    have h := ite_t q1 h
    refine lv_aload_n (pc := 40) hx hb dX11_finding_40 rfl (lv_at hl 0 rfl) ?_
    refine s_getR (pc := 41) F w 62 ds_61 (j := 0) vc_X11 vi_X11 rfl (by decide) kf_X11_10 dX11_finding_41 ?_
    refine s_getI (pc := 44) F w ds_62 (j := 4) vc_X5 vi_X5 rfl (by decide) kf_X11_366 dX11_finding_44 ?_
    exact s_iret F w h dX11_finding_47
  have h := ite_f q1 h
  rcases Decidable.em (a1 = (2 : Int32)) with q2 | q2
  · refine lv_tableIn (pc := 1) (tgt := 48) (off := 47) hx hb dX11_finding_1 (by rw [q2]; decide) (by rw [q2]; decide) (by rw [q2]; rfl) (by decide) ?_
    have h := ite_t q2 h
    refine lv_aload_n (pc := 48) hx hb dX11_finding_48 rfl (lv_at hl 0 rfl) ?_
    refine s_getR (pc := 49) F w 62 ds_61 (j := 0) vc_X11 vi_X11 rfl (by decide) kf_X11_10 dX11_finding_49 ?_
    refine s_getI (pc := 52) F w ds_62 (j := 5) vc_X5 vi_X5 rfl (by decide) kf_X11_293 dX11_finding_52 ?_
    exact s_iret F w h dX11_finding_55
  have h := ite_f q2 h
  rcases Decidable.em (a1 = (3 : Int32)) with q3 | q3
  · refine lv_tableIn (pc := 1) (tgt := 56) (off := 55) hx hb dX11_finding_1 (by rw [q3]; decide) (by rw [q3]; decide) (by rw [q3]; rfl) (by decide) ?_
    have h := ite_t q3 h
    refine lv_aload_n (pc := 56) hx hb dX11_finding_56 rfl (lv_at hl 0 rfl) ?_
    refine s_getR (pc := 57) F w 62 ds_61 (j := 0) vc_X11 vi_X11 rfl (by decide) kf_X11_10 dX11_finding_57 ?_
    refine s_getI (pc := 60) F w ds_62 (j := 6) vc_X5 vi_X5 rfl (by decide) kf_X11_369 dX11_finding_60 ?_
    exact s_iret F w h dX11_finding_63
  have h := ite_f q3 h
  refine lv_tableOut (pc := 1) (tgt := 64) hx hb dX11_finding_1 (by have zq0 := i32ne q0 (show ((0 : Int32)).toInt = 0 by decide); have zq1 := i32ne q1 (show ((1 : Int32)).toInt = 1 by decide); have zq2 := i32ne q2 (show ((2 : Int32)).toInt = 2 by decide); have zq3 := i32ne q3 (show ((3 : Int32)).toInt = 3 by decide); omega) (by decide) ?_
  refine lv_iconst (pc := 64) (v := -1) hx hb dX11_finding_64 (by decide) ?_
  exact s_iret F w h dX11_finding_65
def f_State_damps  (S : SS) : Option (Int32 × SS) :=
  grd (inb (0 : Int32) 946) (
  some (S.1 79 (0 : Int32).toNatClampNeg, S))
theorem dX8_damps_0 : decode cX8_damps 0 = .ok (.aload_n 0, 1) := dc_42 (by decide +kernel)
theorem dX8_damps_1 : decode cX8_damps 1 = .ok (.getfield 13, 3) := dc_180 (a := 0) (b := 13) (by decide +kernel)
theorem dX8_damps_4 : decode cX8_damps 4 = .ok (.iconst 0, 1) := dc_3 (by decide +kernel)
theorem dX8_damps_5 : decode cX8_damps 5 = .ok (.iaload, 1) := dc_46 (by decide +kernel)
theorem dX8_damps_6 : decode cX8_damps 6 = .ok (.ireturn, 1) := dc_172 (by decide +kernel)
set_option maxRecDepth 100000 in
set_option maxHeartbeats 4000000 in
theorem m_State_damps  (S S' : SS) (r : Int32) (h : f_State_damps  S = some (r, S')) : MT yX8_damps cX8_damps 1 (some .int) 0 0 (fun ad => [.ref (ad 63)]) S (some (.int r)) S' := by
  refine MT.of RX8 (fun ad => [(0, .ref (ad 63))]) (by decide) rfl (fun _ => Nat.le_of_ble_eq_true rfl) (fun _ => rfl) ?_
  intro p l e R s m args below meth c dC dI cs ad A hR1 hR2 F H locs ls w hl
  have hx := F.1.1
  have hb := F.1.2.1
  rw [f_State_damps] at h
  refine lv_aload_n (pc := 0) hx hb dX8_damps_0 rfl (lv_at hl 0 rfl) ?_
  refine s_getR (pc := 1) F w 79 ds_63 (j := 0) vc_X8 vi_X8 rfl (by decide) kf_X8_13 dX8_damps_1 ?_
  refine lv_iconst (pc := 4) (v := 0) hx hb dX8_damps_4 (by decide) ?_
  refine s_iald (pc := 5) F w ds_79 h dX8_damps_5 (fun h => ?_)
  exact s_iret F w h dX8_damps_6
def f_State_there_j23 (K4 : Int32 → Int32 → SS → Option (Int32 × SS)) (x1 : Int32) (x2 : Int32) (S : SS) : Option (Int32 × SS) :=
    nm (x2 + (1 : Int32)) (fun z3 =>
    K4 x1 z3 S)
def f_State_there_L4  : Nat → Int32 → Int32 → SS → Option (Int32 × SS)
  | 0, _, _, _ => none
  | n + 1, x1, x2, S =>
    if (S.1 63 1) ≤ x2 then
      some (x1, S)
    else
      bnd (f_State_isThere x2 S) (fun r2 S1 =>
      if r2 = 0 then
        f_State_there_j23 (fun v0 v1 S => f_State_there_L4 n v0 v1 S) x1 x2 S1
      else
        nm (x1 + (1 : Int32)) (fun z4 =>
        f_State_there_j23 (fun v0 v1 S => f_State_there_L4 n v0 v1 S) z4 x2 S1))
def f_State_there  (S : SS) : Option (Int32 × SS) :=
  f_State_there_L4 NF (0 : Int32) (0 : Int32) S
theorem dX8_there_0 : decode cX8_there 0 = .ok (.iconst 0, 1) := dc_3 (by decide +kernel)
theorem dX8_there_1 : decode cX8_there 1 = .ok (.istore_n 1, 1) := dc_60 (by decide +kernel)
theorem dX8_there_2 : decode cX8_there 2 = .ok (.iconst 0, 1) := dc_3 (by decide +kernel)
theorem dX8_there_3 : decode cX8_there 3 = .ok (.istore_n 2, 1) := dc_61 (by decide +kernel)
theorem dX8_there_4 : decode cX8_there 4 = .ok (.iload_n 2, 1) := dc_28 (by decide +kernel)
theorem dX8_there_5 : decode cX8_there 5 = .ok (.aload_n 0, 1) := dc_42 (by decide +kernel)
theorem dX8_there_6 : decode cX8_there 6 = .ok (.getfield 17, 3) := dc_180 (a := 0) (b := 17) (by decide +kernel)
theorem dX8_there_9 : decode cX8_there 9 = .ok (.if_icmp .ge 20, 3) := dc_162 (a := 0) (b := 20) (by decide +kernel) (by decide)
theorem dX8_there_12 : decode cX8_there 12 = .ok (.aload_n 0, 1) := dc_42 (by decide +kernel)
theorem dX8_there_13 : decode cX8_there 13 = .ok (.iload_n 2, 1) := dc_28 (by decide +kernel)
theorem dX8_there_14 : decode cX8_there 14 = .ok (.invokevirtual 35, 3) := dc_182 (a := 0) (b := 35) (by decide +kernel)
theorem dX8_there_17 : decode cX8_there 17 = .ok (.ifCond .eq 6, 3) := dc_153 (a := 0) (b := 6) (by decide +kernel) (by decide)
theorem dX8_there_20 : decode cX8_there 20 = .ok (.iinc 1 1, 3) := dc_132 (a := 1) (b := 1) (by decide +kernel) (by decide)
theorem dX8_there_23 : decode cX8_there 23 = .ok (.iinc 2 1, 3) := dc_132 (a := 2) (b := 1) (by decide +kernel) (by decide)
theorem dX8_there_26 : decode cX8_there 26 = .ok (.goto (-22), 3) := dc_167 (a := 255) (b := 234) (by decide +kernel) (by decide)
theorem dX8_there_29 : decode cX8_there 29 = .ok (.iload_n 1, 1) := dc_27 (by decide +kernel)
theorem dX8_there_30 : decode cX8_there 30 = .ok (.ireturn, 1) := dc_172 (by decide +kernel)
set_option maxRecDepth 100000 in
set_option maxHeartbeats 4000000 in
theorem w_State_there_j23 {p : Program} {l : Launch} {e : Env} {R : Room} {s : State} {m : MethodId} {args : Array Value} {below : List Frame} {meth : Method} {c : Code} {dC : Nat → ClassId} {dI : Nat → Nat → Nat} {cs : Nat → ClassId} {ad : Nat → Nat} {A : Nat → Prop} {D0 : Nat → Nat} {S' : SS} {r : Int32} (F : Fx p s m args meth c cX8_there 3 RX8 (some .int) dC dI cs A) (hR1 : 0 ≤ R.frames) (hR2 : 0 ≤ R.locals) (K4 : Int32 → Int32 → SS → Option (Int32 × SS)) (hK4 : ∀ (v0 : Int32) (v1 : Int32) (S : SS), K4 v0 v1 S = some (r, S') → AW p l e R s m args below meth c dC dI cs ad A D0 (some (.int r)) S' 3 4 [(0, .ref (ad 63)), (1, .int v0), (2, .int v1)] [] S) (x1 : Int32) (x2 : Int32) (S : SS) (h : f_State_there_j23 K4 x1 x2 S = some (r, S')) : AW p l e R s m args below meth c dC dI cs ad A D0 (some (.int r)) S' 3 23 [(0, .ref (ad 63)), (1, .int x1), (2, .int x2)] [] S := by
  have hx := F.1.1
  have hb := F.1.2.1
  intro H locs ls w hl
  rw [f_State_there_j23] at h
  refine s_nm h (fun z3 ez3 h => ?_)
  refine lv_iinc (pc := 23) (v := z3) (lv' := [(2, .int z3), (0, .ref (ad 63)), (1, .int x1)]) hx hb dX8_there_23 hl (k := 2) rfl (by rw [ez3]; rfl) (by decide) rfl (fun ls hl => ?_)
  refine lv_goto (pc := 26) (tgt := 4) hx hb dX8_there_26 (by decide) ?_
  exact hK4 _ _ _ h _ _ _ w (lv_sub hl [1, 2, 0] rfl)
set_option maxRecDepth 100000 in
set_option maxHeartbeats 4000000 in
theorem w_State_there_L4 {p : Program} {l : Launch} {e : Env} {R : Room} {s : State} {m : MethodId} {args : Array Value} {below : List Frame} {meth : Method} {c : Code} {dC : Nat → ClassId} {dI : Nat → Nat → Nat} {cs : Nat → ClassId} {ad : Nat → Nat} {A : Nat → Prop} {D0 : Nat → Nat} {S' : SS} {r : Int32} (F : Fx p s m args meth c cX8_there 3 RX8 (some .int) dC dI cs A) (hR1 : 2 ≤ R.frames) (hR2 : 43 ≤ R.locals) : ∀ (n : Nat) (x1 : Int32) (x2 : Int32) (S : SS), f_State_there_L4 n x1 x2 S = some (r, S') → AW p l e R s m args below meth c dC dI cs ad A D0 (some (.int r)) S' 3 4 [(0, .ref (ad 63)), (1, .int x1), (2, .int x2)] [] S := by
  have hx := F.1.1
  have hb := F.1.2.1
  intro n
  induction n with
  | zero => intro x1 x2 S h; cases h
  | succ n ih =>
    intro x1 x2 S h H locs ls w hl
    rw [f_State_there_L4] at h
    refine lv_iload_n (pc := 4) hx hb dX8_there_4 rfl (lv_at hl 2 rfl) ?_
    refine lv_aload_n (pc := 5) hx hb dX8_there_5 rfl (lv_at hl 0 rfl) ?_
    refine s_getI (pc := 6) F w ds_63 (j := 1) vc_X8 vi_X8 rfl (by decide) kf_X8_17 dX8_there_6 ?_
    refine lv_icmp_ge (pc := 9) (tgt := 29) hx hb dX8_there_9 (by decide) (fun q => ?_) (fun q => ?_)
    · have h := ite_t q h
      refine lv_iload_n (pc := 29) hx hb dX8_there_29 rfl (lv_at hl 1 rfl) ?_
      exact s_iret F w h dX8_there_30
    · have h := ite_f q h
      refine lv_aload_n (pc := 12) hx hb dX8_there_12 rfl (lv_at hl 0 rfl) ?_
      refine lv_iload_n (pc := 13) hx hb dX8_there_13 rfl (lv_at hl 2 rfl) ?_
      obtain ⟨r2, S1, hc, h⟩ := bnd_t h
      refine s_cvi (pc := 14) [.int x2] (fun ad => [.ref (ad 63), .int x2]) F w (m_State_isThere _ _ _ _ hc) rfl rfl hl.1 ds_63 vc_X8 rfl ok_X8_isThere rfl kc_X8_isThere kl_X8_35 ki_X8_isThere kv_X8_isThere kn_X8 ⟨Nat.le_trans (by decide) hR1, Nat.le_trans (by decide) hR2⟩ ⟨Nat.zero_le _, Nat.zero_le _⟩ (Nat.le_of_ble_eq_true rfl) dX8_there_14 (fun H locs w => ?_)
      refine lv_if_eq (pc := 17) (tgt := 23) hx hb dX8_there_17 (by decide) (fun q => ?_) (fun q => ?_)
      · have h := ite_t q h
        exact w_State_there_j23 F (Nat.le_trans (by decide) hR1) (Nat.le_trans (by decide) hR2) _ (fun v0 v1 S h => ih v0 v1 S h) _ _ _ h _ _ _ w (lv_sub hl [0, 1, 2] rfl)
      · have h := ite_f q h
        refine s_nm h (fun z4 ez4 h => ?_)
        refine lv_iinc (pc := 20) (v := z4) (lv' := [(1, .int z4), (0, .ref (ad 63)), (2, .int x2)]) hx hb dX8_there_20 hl (k := 1) rfl (by rw [ez4]; rfl) (by decide) rfl (fun ls hl => ?_)
        exact w_State_there_j23 F (Nat.le_trans (by decide) hR1) (Nat.le_trans (by decide) hR2) _ (fun v0 v1 S h => ih v0 v1 S h) _ _ _ h _ _ _ w (lv_sub hl [1, 0, 2] rfl)
set_option maxRecDepth 100000 in
set_option maxHeartbeats 4000000 in
theorem m_State_there  (S S' : SS) (r : Int32) (h : f_State_there  S = some (r, S')) : MT yX8_there cX8_there 3 (some .int) 2 43 (fun ad => [.ref (ad 63)]) S (some (.int r)) S' := by
  refine MT.of RX8 (fun ad => [(0, .ref (ad 63))]) (by decide) rfl (fun _ => Nat.le_of_ble_eq_true rfl) (fun _ => rfl) ?_
  intro p l e R s m args below meth c dC dI cs ad A hR1 hR2 F H locs ls w hl
  have hx := F.1.1
  have hb := F.1.2.1
  rw [f_State_there] at h
  refine lv_iconst (pc := 0) (v := 0) hx hb dX8_there_0 (by decide) ?_
  refine lv_istore_n (pc := 1) (lv' := [(1, .int (0 : Int32)), (0, .ref (ad 63))]) hx hb dX8_there_1 rfl hl (by decide) rfl (fun ls hl => ?_)
  refine lv_iconst (pc := 2) (v := 0) hx hb dX8_there_2 (by decide) ?_
  refine lv_istore_n (pc := 3) (lv' := [(2, .int (0 : Int32)), (1, .int (0 : Int32)), (0, .ref (ad 63))]) hx hb dX8_there_3 rfl hl (by decide) rfl (fun ls hl => ?_)
  exact w_State_there_L4 F (Nat.le_trans (by decide) hR1) (Nat.le_trans (by decide) hR2) _ _ _ _ h _ _ _ w (lv_sub hl [2, 1, 0] rfl)
def f_Report_ever (a1 : Int32) (S : SS) : Option (Int32 × SS) :=
  if a1 < (1 : Int32) then
    some ((-1 : Int32), S)
  else
    if a1 ≤ (17 : Int32) then
      grd (inb a1 18) (
      some (S.1 77 a1.toNatClampNeg, S))
    else
      some ((-1 : Int32), S)
theorem dX5_ever_0 : decode cX5_ever 0 = .ok (.iload_n 1, 1) := dc_27 (by decide +kernel)
theorem dX5_ever_1 : decode cX5_ever 1 = .ok (.iconst 1, 1) := dc_4 (by decide +kernel)
theorem dX5_ever_2 : decode cX5_ever 2 = .ok (.if_icmp .lt 9, 3) := dc_161 (a := 0) (b := 9) (by decide +kernel) (by decide)
theorem dX5_ever_5 : decode cX5_ever 5 = .ok (.iload_n 1, 1) := dc_27 (by decide +kernel)
theorem dX5_ever_6 : decode cX5_ever 6 = .ok (.bipush 17, 2) := dc_16 (a := 17) (by decide +kernel) (by decide)
theorem dX5_ever_8 : decode cX5_ever 8 = .ok (.if_icmp .le 7, 3) := dc_164 (a := 0) (b := 7) (by decide +kernel) (by decide)
theorem dX5_ever_11 : decode cX5_ever 11 = .ok (.iconst (-1), 1) := dc_2 (by decide +kernel)
theorem dX5_ever_12 : decode cX5_ever 12 = .ok (.goto 9, 3) := dc_167 (a := 0) (b := 9) (by decide +kernel) (by decide)
theorem dX5_ever_15 : decode cX5_ever 15 = .ok (.aload_n 0, 1) := dc_42 (by decide +kernel)
theorem dX5_ever_16 : decode cX5_ever 16 = .ok (.getfield 11, 3) := dc_180 (a := 0) (b := 11) (by decide +kernel)
theorem dX5_ever_19 : decode cX5_ever 19 = .ok (.iload_n 1, 1) := dc_27 (by decide +kernel)
theorem dX5_ever_20 : decode cX5_ever 20 = .ok (.iaload, 1) := dc_46 (by decide +kernel)
theorem dX5_ever_21 : decode cX5_ever 21 = .ok (.ireturn, 1) := dc_172 (by decide +kernel)
set_option maxRecDepth 100000 in
set_option maxHeartbeats 4000000 in
theorem m_Report_ever (a1 : Int32) (S S' : SS) (r : Int32) (h : f_Report_ever a1 S = some (r, S')) : MT yX5_ever cX5_ever 2 (some .int) 0 0 (fun ad => [.ref (ad 62), .int a1]) S (some (.int r)) S' := by
  refine MT.of RX5 (fun ad => [(0, .ref (ad 62)), (1, .int a1)]) (by decide) rfl (fun _ => Nat.le_of_ble_eq_true rfl) (fun _ => rfl) ?_
  intro p l e R s m args below meth c dC dI cs ad A hR1 hR2 F H locs ls w hl
  have hx := F.1.1
  have hb := F.1.2.1
  rw [f_Report_ever] at h
  refine lv_iload_n (pc := 0) hx hb dX5_ever_0 rfl (lv_at hl 1 rfl) ?_
  refine lv_iconst (pc := 1) (v := 1) hx hb dX5_ever_1 (by decide) ?_
  refine lv_icmp_lt (pc := 2) (tgt := 11) hx hb dX5_ever_2 (by decide) (fun q => ?_) (fun q => ?_)
  · have h := ite_t q h
    refine lv_iconst (pc := 11) (v := -1) hx hb dX5_ever_11 (by decide) ?_
    refine lv_goto (pc := 12) (tgt := 21) hx hb dX5_ever_12 (by decide) ?_
    exact s_iret F w h dX5_ever_21
  · have h := ite_f q h
    refine lv_iload_n (pc := 5) hx hb dX5_ever_5 rfl (lv_at hl 1 rfl) ?_
    refine lv_bipush (pc := 6) (v := 17) hx hb dX5_ever_6 (by decide) ?_
    refine lv_icmp_le (pc := 8) (tgt := 15) hx hb dX5_ever_8 (by decide) (fun q => ?_) (fun q => ?_)
    · have h := ite_t q h
      refine lv_aload_n (pc := 15) hx hb dX5_ever_15 rfl (lv_at hl 0 rfl) ?_
      refine s_getR (pc := 16) F w 77 ds_62 (j := 0) vc_X5 vi_X5 rfl (by decide) kf_X5_11 dX5_ever_16 ?_
      refine lv_iload_n (pc := 19) hx hb dX5_ever_19 rfl (lv_at hl 1 rfl) ?_
      refine s_iald (pc := 20) F w ds_77 h dX5_ever_20 (fun h => ?_)
      exact s_iret F w h dX5_ever_21
    · have h := ite_f q h
      refine lv_iconst (pc := 11) (v := -1) hx hb dX5_ever_11 (by decide) ?_
      refine lv_goto (pc := 12) (tgt := 21) hx hb dX5_ever_12 (by decide) ?_
      exact s_iret F w h dX5_ever_21
def f_Yard_count (a1 : Int32) (S : SS) : Option (Int32 × SS) :=
  if a1 = (-9 : Int32) then
    some (S.1 64 7, S)
  else
  if a1 = (-8 : Int32) then
    some (S.1 64 6, S)
  else
  if a1 = (-7 : Int32) then
    some (S.1 67 8, S)
  else
  if a1 = (-6 : Int32) then
    some (S.1 66 8, S)
  else
  if a1 = (-5 : Int32) then
    some (S.1 68 5, S)
  else
  if a1 = (-4 : Int32) then
    bnd (f_State_damps  S) (fun r2 S1 =>
    some (r2, S1))
  else
  if a1 = (-3 : Int32) then
    bnd (f_State_running  S) (fun r4 S3 =>
    some (r4, S3))
  else
  if a1 = (-2 : Int32) then
    bnd (f_State_there  S) (fun r6 S5 =>
    some (r6, S5))
  else
  if a1 = (-1 : Int32) then
    some (S.1 63 1, S)
  else
  if a1 = (0 : Int32) then
    some (S.1 66 7, S)
  else
  bnd (f_Report_ever a1 S) (fun r8 S7 =>
  some (r8, S7))
theorem dX11_count_0 : decode cX11_count 0 = .ok (.iload_n 1, 1) := dc_27 (by decide +kernel)
theorem dX11_count_1 : decode cX11_count 1 = .ok (.tableswitch 135 (-9) 0 #[127, 119, 111, 103, 95, 87, 79, 71, 63, 55], 55) := by decide +kernel
theorem dX11_count_56 : decode cX11_count 56 = .ok (.aload_n 0, 1) := dc_42 (by decide +kernel)
theorem dX11_count_57 : decode cX11_count 57 = .ok (.getfield 42, 3) := dc_180 (a := 0) (b := 42) (by decide +kernel)
theorem dX11_count_60 : decode cX11_count 60 = .ok (.getfield 91, 3) := dc_180 (a := 0) (b := 91) (by decide +kernel)
theorem dX11_count_63 : decode cX11_count 63 = .ok (.ireturn, 1) := dc_172 (by decide +kernel)
theorem dX11_count_64 : decode cX11_count 64 = .ok (.aload_n 0, 1) := dc_42 (by decide +kernel)
theorem dX11_count_65 : decode cX11_count 65 = .ok (.getfield 19, 3) := dc_180 (a := 0) (b := 19) (by decide +kernel)
theorem dX11_count_68 : decode cX11_count 68 = .ok (.getfield 140, 3) := dc_180 (a := 0) (b := 140) (by decide +kernel)
theorem dX11_count_71 : decode cX11_count 71 = .ok (.ireturn, 1) := dc_172 (by decide +kernel)
theorem dX11_count_72 : decode cX11_count 72 = .ok (.aload_n 0, 1) := dc_42 (by decide +kernel)
theorem dX11_count_73 : decode cX11_count 73 = .ok (.getfield 19, 3) := dc_180 (a := 0) (b := 19) (by decide +kernel)
theorem dX11_count_76 : decode cX11_count 76 = .ok (.invokevirtual 371, 3) := dc_182 (a := 1) (b := 115) (by decide +kernel)
theorem dX11_count_79 : decode cX11_count 79 = .ok (.ireturn, 1) := dc_172 (by decide +kernel)
theorem dX11_count_80 : decode cX11_count 80 = .ok (.aload_n 0, 1) := dc_42 (by decide +kernel)
theorem dX11_count_81 : decode cX11_count 81 = .ok (.getfield 19, 3) := dc_180 (a := 0) (b := 19) (by decide +kernel)
theorem dX11_count_84 : decode cX11_count 84 = .ok (.invokevirtual 374, 3) := dc_182 (a := 1) (b := 118) (by decide +kernel)
theorem dX11_count_87 : decode cX11_count 87 = .ok (.ireturn, 1) := dc_172 (by decide +kernel)
theorem dX11_count_88 : decode cX11_count 88 = .ok (.aload_n 0, 1) := dc_42 (by decide +kernel)
theorem dX11_count_89 : decode cX11_count 89 = .ok (.getfield 19, 3) := dc_180 (a := 0) (b := 19) (by decide +kernel)
theorem dX11_count_92 : decode cX11_count 92 = .ok (.invokevirtual 377, 3) := dc_182 (a := 1) (b := 121) (by decide +kernel)
theorem dX11_count_95 : decode cX11_count 95 = .ok (.ireturn, 1) := dc_172 (by decide +kernel)
theorem dX11_count_96 : decode cX11_count 96 = .ok (.aload_n 0, 1) := dc_42 (by decide +kernel)
theorem dX11_count_97 : decode cX11_count 97 = .ok (.getfield 58, 3) := dc_180 (a := 0) (b := 58) (by decide +kernel)
theorem dX11_count_100 : decode cX11_count 100 = .ok (.getfield 380, 3) := dc_180 (a := 1) (b := 124) (by decide +kernel)
theorem dX11_count_103 : decode cX11_count 103 = .ok (.ireturn, 1) := dc_172 (by decide +kernel)
theorem dX11_count_104 : decode cX11_count 104 = .ok (.aload_n 0, 1) := dc_42 (by decide +kernel)
theorem dX11_count_105 : decode cX11_count 105 = .ok (.getfield 42, 3) := dc_180 (a := 0) (b := 42) (by decide +kernel)
theorem dX11_count_108 : decode cX11_count 108 = .ok (.getfield 112, 3) := dc_180 (a := 0) (b := 112) (by decide +kernel)
theorem dX11_count_111 : decode cX11_count 111 = .ok (.ireturn, 1) := dc_172 (by decide +kernel)
theorem dX11_count_112 : decode cX11_count 112 = .ok (.aload_n 0, 1) := dc_42 (by decide +kernel)
theorem dX11_count_113 : decode cX11_count 113 = .ok (.getfield 51, 3) := dc_180 (a := 0) (b := 51) (by decide +kernel)
theorem dX11_count_116 : decode cX11_count 116 = .ok (.getfield 168, 3) := dc_180 (a := 0) (b := 168) (by decide +kernel)
theorem dX11_count_119 : decode cX11_count 119 = .ok (.ireturn, 1) := dc_172 (by decide +kernel)
theorem dX11_count_120 : decode cX11_count 120 = .ok (.aload_n 0, 1) := dc_42 (by decide +kernel)
theorem dX11_count_121 : decode cX11_count 121 = .ok (.getfield 26, 3) := dc_180 (a := 0) (b := 26) (by decide +kernel)
theorem dX11_count_124 : decode cX11_count 124 = .ok (.getfield 383, 3) := dc_180 (a := 1) (b := 127) (by decide +kernel)
theorem dX11_count_127 : decode cX11_count 127 = .ok (.ireturn, 1) := dc_172 (by decide +kernel)
theorem dX11_count_128 : decode cX11_count 128 = .ok (.aload_n 0, 1) := dc_42 (by decide +kernel)
theorem dX11_count_129 : decode cX11_count 129 = .ok (.getfield 26, 3) := dc_180 (a := 0) (b := 26) (by decide +kernel)
theorem dX11_count_132 : decode cX11_count 132 = .ok (.getfield 386, 3) := dc_180 (a := 1) (b := 130) (by decide +kernel)
theorem dX11_count_135 : decode cX11_count 135 = .ok (.ireturn, 1) := dc_172 (by decide +kernel)
theorem dX11_count_136 : decode cX11_count 136 = .ok (.aload_n 0, 1) := dc_42 (by decide +kernel)
theorem dX11_count_137 : decode cX11_count 137 = .ok (.getfield 10, 3) := dc_180 (a := 0) (b := 10) (by decide +kernel)
theorem dX11_count_140 : decode cX11_count 140 = .ok (.iload_n 1, 1) := dc_27 (by decide +kernel)
theorem dX11_count_141 : decode cX11_count 141 = .ok (.invokevirtual 389, 3) := dc_182 (a := 1) (b := 133) (by decide +kernel)
theorem dX11_count_144 : decode cX11_count 144 = .ok (.ireturn, 1) := dc_172 (by decide +kernel)
set_option maxRecDepth 100000 in
set_option maxHeartbeats 4000000 in
theorem m_Yard_count (a1 : Int32) (S S' : SS) (r : Int32) (h : f_Yard_count a1 S = some (r, S')) : MT yX11_count cX11_count 2 (some .int) 3 65 (fun ad => [.ref (ad 61), .int a1]) S (some (.int r)) S' := by
  refine MT.of RX11 (fun ad => [(0, .ref (ad 61)), (1, .int a1)]) (by decide) rfl (fun _ => Nat.le_of_ble_eq_true rfl) (fun _ => rfl) ?_
  intro p l e R s m args below meth c dC dI cs ad A hR1 hR2 F H locs ls w hl
  have hx := F.1.1
  have hb := F.1.2.1
  rw [f_Yard_count] at h
  refine lv_iload_n (pc := 0) hx hb dX11_count_0 rfl (lv_at hl 1 rfl) ?_
  rcases Decidable.em (a1 = (-9 : Int32)) with qm9 | qm9
  · refine lv_tableIn (pc := 1) (tgt := 128) (off := 127) hx hb dX11_count_1 (by rw [qm9]; decide) (by rw [qm9]; decide) (by rw [qm9]; rfl) (by decide) ?_
    have h := ite_t qm9 h
    refine lv_aload_n (pc := 128) hx hb dX11_count_128 rfl (lv_at hl 0 rfl) ?_
    refine s_getR (pc := 129) F w 64 ds_61 (j := 2) vc_X11 vi_X11 rfl (by decide) kf_X11_26 dX11_count_129 ?_
    refine s_getI (pc := 132) F w ds_64 (j := 7) vc_X1 vi_X1 rfl (by decide) kf_X11_386 dX11_count_132 ?_
    exact s_iret F w h dX11_count_135
  have h := ite_f qm9 h
  rcases Decidable.em (a1 = (-8 : Int32)) with qm8 | qm8
  · refine lv_tableIn (pc := 1) (tgt := 120) (off := 119) hx hb dX11_count_1 (by rw [qm8]; decide) (by rw [qm8]; decide) (by rw [qm8]; rfl) (by decide) ?_
    have h := ite_t qm8 h
    refine lv_aload_n (pc := 120) hx hb dX11_count_120 rfl (lv_at hl 0 rfl) ?_
    refine s_getR (pc := 121) F w 64 ds_61 (j := 2) vc_X11 vi_X11 rfl (by decide) kf_X11_26 dX11_count_121 ?_
    refine s_getI (pc := 124) F w ds_64 (j := 6) vc_X1 vi_X1 rfl (by decide) kf_X11_383 dX11_count_124 ?_
    exact s_iret F w h dX11_count_127
  have h := ite_f qm8 h
  rcases Decidable.em (a1 = (-7 : Int32)) with qm7 | qm7
  · refine lv_tableIn (pc := 1) (tgt := 112) (off := 111) hx hb dX11_count_1 (by rw [qm7]; decide) (by rw [qm7]; decide) (by rw [qm7]; rfl) (by decide) ?_
    have h := ite_t qm7 h
    refine lv_aload_n (pc := 112) hx hb dX11_count_112 rfl (lv_at hl 0 rfl) ?_
    refine s_getR (pc := 113) F w 67 ds_61 (j := 5) vc_X11 vi_X11 rfl (by decide) kf_X11_51 dX11_count_113 ?_
    refine s_getI (pc := 116) F w ds_67 (j := 8) vc_X6 vi_X6 rfl (by decide) kf_X11_168 dX11_count_116 ?_
    exact s_iret F w h dX11_count_119
  have h := ite_f qm7 h
  rcases Decidable.em (a1 = (-6 : Int32)) with qm6 | qm6
  · refine lv_tableIn (pc := 1) (tgt := 104) (off := 103) hx hb dX11_count_1 (by rw [qm6]; decide) (by rw [qm6]; decide) (by rw [qm6]; rfl) (by decide) ?_
    have h := ite_t qm6 h
    refine lv_aload_n (pc := 104) hx hb dX11_count_104 rfl (lv_at hl 0 rfl) ?_
    refine s_getR (pc := 105) F w 66 ds_61 (j := 4) vc_X11 vi_X11 rfl (by decide) kf_X11_42 dX11_count_105 ?_
    refine s_getI (pc := 108) F w ds_66 (j := 8) vc_X2 vi_X2 rfl (by decide) kf_X11_112 dX11_count_108 ?_
    exact s_iret F w h dX11_count_111
  have h := ite_f qm6 h
  rcases Decidable.em (a1 = (-5 : Int32)) with qm5 | qm5
  · refine lv_tableIn (pc := 1) (tgt := 96) (off := 95) hx hb dX11_count_1 (by rw [qm5]; decide) (by rw [qm5]; decide) (by rw [qm5]; rfl) (by decide) ?_
    have h := ite_t qm5 h
    refine lv_aload_n (pc := 96) hx hb dX11_count_96 rfl (lv_at hl 0 rfl) ?_
    refine s_getR (pc := 97) F w 68 ds_61 (j := 6) vc_X11 vi_X11 rfl (by decide) kf_X11_58 dX11_count_97 ?_
    refine s_getI (pc := 100) F w ds_68 (j := 5) vc_X10 vi_X10 rfl (by decide) kf_X11_380 dX11_count_100 ?_
    exact s_iret F w h dX11_count_103
  have h := ite_f qm5 h
  rcases Decidable.em (a1 = (-4 : Int32)) with qm4 | qm4
  · refine lv_tableIn (pc := 1) (tgt := 88) (off := 87) hx hb dX11_count_1 (by rw [qm4]; decide) (by rw [qm4]; decide) (by rw [qm4]; rfl) (by decide) ?_
    have h := ite_t qm4 h
    refine lv_aload_n (pc := 88) hx hb dX11_count_88 rfl (lv_at hl 0 rfl) ?_
    refine s_getR (pc := 89) F w 63 ds_61 (j := 1) vc_X11 vi_X11 rfl (by decide) kf_X11_19 dX11_count_89 ?_
    obtain ⟨r2, S1, hc, h⟩ := bnd_t h
    refine s_cvi (pc := 92) [] (fun ad => [.ref (ad 63)]) F w (m_State_damps  _ _ _ hc) rfl rfl hl.1 ds_63 vc_X8 rfl ok_X8_damps rfl kc_X8_damps kl_X11_377 ki_X8_damps kv_X8_damps kn_X8 ⟨Nat.le_trans (by decide) hR1, Nat.le_trans (by decide) hR2⟩ ⟨Nat.zero_le _, Nat.zero_le _⟩ (Nat.le_of_ble_eq_true rfl) dX11_count_92 (fun H locs w => ?_)
    exact s_iret F w h dX11_count_95
  have h := ite_f qm4 h
  rcases Decidable.em (a1 = (-3 : Int32)) with qm3 | qm3
  · refine lv_tableIn (pc := 1) (tgt := 80) (off := 79) hx hb dX11_count_1 (by rw [qm3]; decide) (by rw [qm3]; decide) (by rw [qm3]; rfl) (by decide) ?_
    have h := ite_t qm3 h
    refine lv_aload_n (pc := 80) hx hb dX11_count_80 rfl (lv_at hl 0 rfl) ?_
    refine s_getR (pc := 81) F w 63 ds_61 (j := 1) vc_X11 vi_X11 rfl (by decide) kf_X11_19 dX11_count_81 ?_
    obtain ⟨r4, S3, hc, h⟩ := bnd_t h
    refine s_cvi (pc := 84) [] (fun ad => [.ref (ad 63)]) F w (m_State_running  _ _ _ hc) rfl rfl hl.1 ds_63 vc_X8 rfl ok_X8_running rfl kc_X8_running kl_X11_374 ki_X8_running kv_X8_running kn_X8 ⟨Nat.le_trans (by decide) hR1, Nat.le_trans (by decide) hR2⟩ ⟨Nat.zero_le _, Nat.zero_le _⟩ (Nat.le_of_ble_eq_true rfl) dX11_count_84 (fun H locs w => ?_)
    exact s_iret F w h dX11_count_87
  have h := ite_f qm3 h
  rcases Decidable.em (a1 = (-2 : Int32)) with qm2 | qm2
  · refine lv_tableIn (pc := 1) (tgt := 72) (off := 71) hx hb dX11_count_1 (by rw [qm2]; decide) (by rw [qm2]; decide) (by rw [qm2]; rfl) (by decide) ?_
    have h := ite_t qm2 h
    refine lv_aload_n (pc := 72) hx hb dX11_count_72 rfl (lv_at hl 0 rfl) ?_
    refine s_getR (pc := 73) F w 63 ds_61 (j := 1) vc_X11 vi_X11 rfl (by decide) kf_X11_19 dX11_count_73 ?_
    obtain ⟨r6, S5, hc, h⟩ := bnd_t h
    refine s_cvi (pc := 76) [] (fun ad => [.ref (ad 63)]) F w (m_State_there  _ _ _ hc) rfl rfl hl.1 ds_63 vc_X8 rfl ok_X8_there rfl kc_X8_there kl_X11_371 ki_X8_there kv_X8_there kn_X8 ⟨Nat.le_trans (by decide) hR1, Nat.le_trans (by decide) hR2⟩ ⟨Nat.zero_le _, Nat.zero_le _⟩ (Nat.le_of_ble_eq_true rfl) dX11_count_76 (fun H locs w => ?_)
    exact s_iret F w h dX11_count_79
  have h := ite_f qm2 h
  rcases Decidable.em (a1 = (-1 : Int32)) with qm1 | qm1
  · refine lv_tableIn (pc := 1) (tgt := 64) (off := 63) hx hb dX11_count_1 (by rw [qm1]; decide) (by rw [qm1]; decide) (by rw [qm1]; rfl) (by decide) ?_
    have h := ite_t qm1 h
    refine lv_aload_n (pc := 64) hx hb dX11_count_64 rfl (lv_at hl 0 rfl) ?_
    refine s_getR (pc := 65) F w 63 ds_61 (j := 1) vc_X11 vi_X11 rfl (by decide) kf_X11_19 dX11_count_65 ?_
    refine s_getI (pc := 68) F w ds_63 (j := 1) vc_X8 vi_X8 rfl (by decide) kf_X11_140 dX11_count_68 ?_
    exact s_iret F w h dX11_count_71
  have h := ite_f qm1 h
  rcases Decidable.em (a1 = (0 : Int32)) with q0 | q0
  · refine lv_tableIn (pc := 1) (tgt := 56) (off := 55) hx hb dX11_count_1 (by rw [q0]; decide) (by rw [q0]; decide) (by rw [q0]; rfl) (by decide) ?_
    have h := ite_t q0 h
    refine lv_aload_n (pc := 56) hx hb dX11_count_56 rfl (lv_at hl 0 rfl) ?_
    refine s_getR (pc := 57) F w 66 ds_61 (j := 4) vc_X11 vi_X11 rfl (by decide) kf_X11_42 dX11_count_57 ?_
    refine s_getI (pc := 60) F w ds_66 (j := 7) vc_X2 vi_X2 rfl (by decide) kf_X11_91 dX11_count_60 ?_
    exact s_iret F w h dX11_count_63
  have h := ite_f q0 h
  refine lv_tableOut (pc := 1) (tgt := 136) hx hb dX11_count_1 (by have zqm9 := i32ne qm9 (show ((-9 : Int32)).toInt = (-9) by decide); have zqm8 := i32ne qm8 (show ((-8 : Int32)).toInt = (-8) by decide); have zqm7 := i32ne qm7 (show ((-7 : Int32)).toInt = (-7) by decide); have zqm6 := i32ne qm6 (show ((-6 : Int32)).toInt = (-6) by decide); have zqm5 := i32ne qm5 (show ((-5 : Int32)).toInt = (-5) by decide); have zqm4 := i32ne qm4 (show ((-4 : Int32)).toInt = (-4) by decide); have zqm3 := i32ne qm3 (show ((-3 : Int32)).toInt = (-3) by decide); have zqm2 := i32ne qm2 (show ((-2 : Int32)).toInt = (-2) by decide); have zqm1 := i32ne qm1 (show ((-1 : Int32)).toInt = (-1) by decide); have zq0 := i32ne q0 (show ((0 : Int32)).toInt = 0 by decide); omega) (by decide) ?_
  refine lv_aload_n (pc := 136) hx hb dX11_count_136 rfl (lv_at hl 0 rfl) ?_
  refine s_getR (pc := 137) F w 62 ds_61 (j := 0) vc_X11 vi_X11 rfl (by decide) kf_X11_10 dX11_count_137 ?_
  refine lv_iload_n (pc := 140) hx hb dX11_count_140 rfl (lv_at hl 1 rfl) ?_
  obtain ⟨r8, S7, hc, h⟩ := bnd_t h
  refine s_cvi (pc := 141) [.int a1] (fun ad => [.ref (ad 62), .int a1]) F w (m_Report_ever _ _ _ _ hc) rfl rfl hl.1 ds_62 vc_X5 rfl ok_X5_ever rfl kc_X5_ever kl_X11_389 ki_X5_ever kv_X5_ever kn_X5 ⟨Nat.le_trans (by decide) hR1, Nat.le_trans (by decide) hR2⟩ ⟨Nat.zero_le _, Nat.zero_le _⟩ (Nat.le_of_ble_eq_true rfl) dX11_count_141 (fun H locs w => ?_)
  exact s_iret F w h dX11_count_144
def f_Report_bodyAt (a1 : Int32) (S : SS) : Option (Int32 × SS) :=
  if a1 < 0 then
    some ((-4 : Int32), S)
  else
    if (S.1 62 2) ≤ a1 then
      some ((-4 : Int32), S)
    else
      if a1 < (200 : Int32) then
        grd (inb a1 200) (
        some (S.1 78 a1.toNatClampNeg, S))
      else
        some ((-4 : Int32), S)
theorem dX5_bodyAt_0 : decode cX5_bodyAt 0 = .ok (.iload_n 1, 1) := dc_27 (by decide +kernel)
theorem dX5_bodyAt_1 : decode cX5_bodyAt 1 = .ok (.ifCond .lt 18, 3) := dc_155 (a := 0) (b := 18) (by decide +kernel) (by decide)
theorem dX5_bodyAt_4 : decode cX5_bodyAt 4 = .ok (.iload_n 1, 1) := dc_27 (by decide +kernel)
theorem dX5_bodyAt_5 : decode cX5_bodyAt 5 = .ok (.aload_n 0, 1) := dc_42 (by decide +kernel)
theorem dX5_bodyAt_6 : decode cX5_bodyAt 6 = .ok (.getfield 18, 3) := dc_180 (a := 0) (b := 18) (by decide +kernel)
theorem dX5_bodyAt_9 : decode cX5_bodyAt 9 = .ok (.if_icmp .ge 10, 3) := dc_162 (a := 0) (b := 10) (by decide +kernel) (by decide)
theorem dX5_bodyAt_12 : decode cX5_bodyAt 12 = .ok (.iload_n 1, 1) := dc_27 (by decide +kernel)
theorem dX5_bodyAt_13 : decode cX5_bodyAt 13 = .ok (.sipush 200, 3) := dc_17 (a := 0) (b := 200) (by decide +kernel) (by decide)
theorem dX5_bodyAt_16 : decode cX5_bodyAt 16 = .ok (.if_icmp .lt 8, 3) := dc_161 (a := 0) (b := 8) (by decide +kernel) (by decide)
theorem dX5_bodyAt_19 : decode cX5_bodyAt 19 = .ok (.bipush (-4), 2) := dc_16 (a := 252) (by decide +kernel) (by decide)
theorem dX5_bodyAt_21 : decode cX5_bodyAt 21 = .ok (.goto 9, 3) := dc_167 (a := 0) (b := 9) (by decide +kernel) (by decide)
theorem dX5_bodyAt_24 : decode cX5_bodyAt 24 = .ok (.aload_n 0, 1) := dc_42 (by decide +kernel)
theorem dX5_bodyAt_25 : decode cX5_bodyAt 25 = .ok (.getfield 15, 3) := dc_180 (a := 0) (b := 15) (by decide +kernel)
theorem dX5_bodyAt_28 : decode cX5_bodyAt 28 = .ok (.iload_n 1, 1) := dc_27 (by decide +kernel)
theorem dX5_bodyAt_29 : decode cX5_bodyAt 29 = .ok (.iaload, 1) := dc_46 (by decide +kernel)
theorem dX5_bodyAt_30 : decode cX5_bodyAt 30 = .ok (.ireturn, 1) := dc_172 (by decide +kernel)
set_option maxRecDepth 100000 in
set_option maxHeartbeats 4000000 in
theorem m_Report_bodyAt (a1 : Int32) (S S' : SS) (r : Int32) (h : f_Report_bodyAt a1 S = some (r, S')) : MT yX5_bodyAt cX5_bodyAt 2 (some .int) 0 0 (fun ad => [.ref (ad 62), .int a1]) S (some (.int r)) S' := by
  refine MT.of RX5 (fun ad => [(0, .ref (ad 62)), (1, .int a1)]) (by decide) rfl (fun _ => Nat.le_of_ble_eq_true rfl) (fun _ => rfl) ?_
  intro p l e R s m args below meth c dC dI cs ad A hR1 hR2 F H locs ls w hl
  have hx := F.1.1
  have hb := F.1.2.1
  rw [f_Report_bodyAt] at h
  refine lv_iload_n (pc := 0) hx hb dX5_bodyAt_0 rfl (lv_at hl 1 rfl) ?_
  refine lv_if_lt (pc := 1) (tgt := 19) hx hb dX5_bodyAt_1 (by decide) (fun q => ?_) (fun q => ?_)
  · have h := ite_t q h
    refine lv_bipush (pc := 19) (v := -4) hx hb dX5_bodyAt_19 (by decide) ?_
    refine lv_goto (pc := 21) (tgt := 30) hx hb dX5_bodyAt_21 (by decide) ?_
    exact s_iret F w h dX5_bodyAt_30
  · have h := ite_f q h
    refine lv_iload_n (pc := 4) hx hb dX5_bodyAt_4 rfl (lv_at hl 1 rfl) ?_
    refine lv_aload_n (pc := 5) hx hb dX5_bodyAt_5 rfl (lv_at hl 0 rfl) ?_
    refine s_getI (pc := 6) F w ds_62 (j := 2) vc_X5 vi_X5 rfl (by decide) kf_X5_18 dX5_bodyAt_6 ?_
    refine lv_icmp_ge (pc := 9) (tgt := 19) hx hb dX5_bodyAt_9 (by decide) (fun q => ?_) (fun q => ?_)
    · have h := ite_t q h
      refine lv_bipush (pc := 19) (v := -4) hx hb dX5_bodyAt_19 (by decide) ?_
      refine lv_goto (pc := 21) (tgt := 30) hx hb dX5_bodyAt_21 (by decide) ?_
      exact s_iret F w h dX5_bodyAt_30
    · have h := ite_f q h
      refine lv_iload_n (pc := 12) hx hb dX5_bodyAt_12 rfl (lv_at hl 1 rfl) ?_
      refine lv_sipush (pc := 13) (v := 200) hx hb dX5_bodyAt_13 (by decide) ?_
      refine lv_icmp_lt (pc := 16) (tgt := 24) hx hb dX5_bodyAt_16 (by decide) (fun q => ?_) (fun q => ?_)
      · have h := ite_t q h
        refine lv_aload_n (pc := 24) hx hb dX5_bodyAt_24 rfl (lv_at hl 0 rfl) ?_
        refine s_getR (pc := 25) F w 78 ds_62 (j := 1) vc_X5 vi_X5 rfl (by decide) kf_X5_15 dX5_bodyAt_25 ?_
        refine lv_iload_n (pc := 28) hx hb dX5_bodyAt_28 rfl (lv_at hl 1 rfl) ?_
        refine s_iald (pc := 29) F w ds_78 h dX5_bodyAt_29 (fun h => ?_)
        exact s_iret F w h dX5_bodyAt_30
      · have h := ite_f q h
        refine lv_bipush (pc := 19) (v := -4) hx hb dX5_bodyAt_19 (by decide) ?_
        refine lv_goto (pc := 21) (tgt := 30) hx hb dX5_bodyAt_21 (by decide) ?_
        exact s_iret F w h dX5_bodyAt_30
def f_Yard_trace (a1 : Int32) (S : SS) : Option (Int32 × SS) :=
  if 0 ≤ a1 then
    bnd (f_Report_bodyAt a1 S) (fun r2 S1 =>
    some (r2, S1))
  else
    some ((-1 : Int32), S)
theorem dX11_trace_0 : decode cX11_trace 0 = .ok (.iload_n 1, 1) := dc_27 (by decide +kernel)
theorem dX11_trace_1 : decode cX11_trace 1 = .ok (.ifCond .ge 7, 3) := dc_156 (a := 0) (b := 7) (by decide +kernel) (by decide)
theorem dX11_trace_4 : decode cX11_trace 4 = .ok (.iconst (-1), 1) := dc_2 (by decide +kernel)
theorem dX11_trace_5 : decode cX11_trace 5 = .ok (.goto 11, 3) := dc_167 (a := 0) (b := 11) (by decide +kernel) (by decide)
theorem dX11_trace_8 : decode cX11_trace 8 = .ok (.aload_n 0, 1) := dc_42 (by decide +kernel)
theorem dX11_trace_9 : decode cX11_trace 9 = .ok (.getfield 10, 3) := dc_180 (a := 0) (b := 10) (by decide +kernel)
theorem dX11_trace_12 : decode cX11_trace 12 = .ok (.iload_n 1, 1) := dc_27 (by decide +kernel)
theorem dX11_trace_13 : decode cX11_trace 13 = .ok (.invokevirtual 392, 3) := dc_182 (a := 1) (b := 136) (by decide +kernel)
theorem dX11_trace_16 : decode cX11_trace 16 = .ok (.ireturn, 1) := dc_172 (by decide +kernel)
set_option maxRecDepth 100000 in
set_option maxHeartbeats 4000000 in
theorem m_Yard_trace (a1 : Int32) (S S' : SS) (r : Int32) (h : f_Yard_trace a1 S = some (r, S')) : MT yX11_trace cX11_trace 2 (some .int) 1 21 (fun ad => [.ref (ad 61), .int a1]) S (some (.int r)) S' := by
  refine MT.of RX11 (fun ad => [(0, .ref (ad 61)), (1, .int a1)]) (by decide) rfl (fun _ => Nat.le_of_ble_eq_true rfl) (fun _ => rfl) ?_
  intro p l e R s m args below meth c dC dI cs ad A hR1 hR2 F H locs ls w hl
  have hx := F.1.1
  have hb := F.1.2.1
  rw [f_Yard_trace] at h
  refine lv_iload_n (pc := 0) hx hb dX11_trace_0 rfl (lv_at hl 1 rfl) ?_
  refine lv_if_ge (pc := 1) (tgt := 8) hx hb dX11_trace_1 (by decide) (fun q => ?_) (fun q => ?_)
  · have h := ite_t q h
    refine lv_aload_n (pc := 8) hx hb dX11_trace_8 rfl (lv_at hl 0 rfl) ?_
    refine s_getR (pc := 9) F w 62 ds_61 (j := 0) vc_X11 vi_X11 rfl (by decide) kf_X11_10 dX11_trace_9 ?_
    refine lv_iload_n (pc := 12) hx hb dX11_trace_12 rfl (lv_at hl 1 rfl) ?_
    obtain ⟨r2, S1, hc, h⟩ := bnd_t h
    refine s_cvi (pc := 13) [.int a1] (fun ad => [.ref (ad 62), .int a1]) F w (m_Report_bodyAt _ _ _ _ hc) rfl rfl hl.1 ds_62 vc_X5 rfl ok_X5_bodyAt rfl kc_X5_bodyAt kl_X11_392 ki_X5_bodyAt kv_X5_bodyAt kn_X5 ⟨Nat.le_trans (by decide) hR1, Nat.le_trans (by decide) hR2⟩ ⟨Nat.zero_le _, Nat.zero_le _⟩ (Nat.le_of_ble_eq_true rfl) dX11_trace_13 (fun H locs w => ?_)
    exact s_iret F w h dX11_trace_16
  · have h := ite_f q h
    refine lv_iconst (pc := 4) (v := -1) hx hb dX11_trace_4 (by decide) ?_
    refine lv_goto (pc := 5) (tgt := 16) hx hb dX11_trace_5 (by decide) ?_
    exact s_iret F w h dX11_trace_16
def f_Yard_digestThing (a1 : Int64) (a3 : Int32) (S : SS) : Option (Int64 × SS) :=
  bnd (f_State_isThere a3 S) (fun r2 S1 =>
  if r2 = 0 then
    some (((31 : Int64) * a1) - (1 : Int64), S1)
  else
    bnd (f_State_get a3 (0 : Int32) S1) (fun r4 S3 =>
    nm (((31 : Int64) * a1) + (r4.toInt64)) (fun z5 =>
    bnd (f_State_get a3 (1 : Int32) S3) (fun r7 S6 =>
    nm (((31 : Int64) * z5) + (r7.toInt64)) (fun z8 =>
    bnd (f_State_get a3 (2 : Int32) S6) (fun r10 S9 =>
    nm (((31 : Int64) * z8) + (r10.toInt64)) (fun z11 =>
    bnd (f_State_get a3 (3 : Int32) S9) (fun r13 S12 =>
    nm (((31 : Int64) * z11) + (r13.toInt64)) (fun z14 =>
    bnd (f_State_get a3 (5 : Int32) S12) (fun r16 S15 =>
    nm (((31 : Int64) * z14) + (r16.toInt64)) (fun z17 =>
    bnd (f_State_get a3 (6 : Int32) S15) (fun r19 S18 =>
    nm (((31 : Int64) * z17) + (r19.toInt64)) (fun z20 =>
    bnd (f_State_get a3 (8 : Int32) S18) (fun r22 S21 =>
    nm (((31 : Int64) * z20) + (r22.toInt64)) (fun z23 =>
    bnd (f_State_get a3 (7 : Int32) S21) (fun r25 S24 =>
    nm (((31 : Int64) * z23) + (r25.toInt64)) (fun z26 =>
    bnd (f_State_get a3 (10 : Int32) S24) (fun r28 S27 =>
    some (((31 : Int64) * z26) + (r28.toInt64), S27)))))))))))))))))))
theorem dX11_digestThing_0 : decode cX11_digestThing 0 = .ok (.aload_n 0, 1) := dc_42 (by decide +kernel)
theorem dX11_digestThing_1 : decode cX11_digestThing 1 = .ok (.getfield 19, 3) := dc_180 (a := 0) (b := 19) (by decide +kernel)
theorem dX11_digestThing_4 : decode cX11_digestThing 4 = .ok (.iload_n 3, 1) := dc_29 (by decide +kernel)
theorem dX11_digestThing_5 : decode cX11_digestThing 5 = .ok (.invokevirtual 410, 3) := dc_182 (a := 1) (b := 154) (by decide +kernel)
theorem dX11_digestThing_8 : decode cX11_digestThing 8 = .ok (.ifCond .ne 11, 3) := dc_154 (a := 0) (b := 11) (by decide +kernel) (by decide)
theorem dX11_digestThing_11 : decode cX11_digestThing 11 = .ok (.ldc2_w 408, 3) := dc_20 (a := 1) (b := 152) (by decide +kernel)
theorem dX11_digestThing_14 : decode cX11_digestThing 14 = .ok (.lload_n 1, 1) := dc_31 (by decide +kernel)
theorem dX11_digestThing_15 : decode cX11_digestThing 15 = .ok (.lmul, 1) := dc_105 (by decide +kernel)
theorem dX11_digestThing_16 : decode cX11_digestThing 16 = .ok (.lconst 1, 1) := dc_10 (by decide +kernel)
theorem dX11_digestThing_17 : decode cX11_digestThing 17 = .ok (.lsub, 1) := dc_101 (by decide +kernel)
theorem dX11_digestThing_18 : decode cX11_digestThing 18 = .ok (.lreturn, 1) := dc_173 (by decide +kernel)
theorem dX11_digestThing_19 : decode cX11_digestThing 19 = .ok (.ldc2_w 408, 3) := dc_20 (a := 1) (b := 152) (by decide +kernel)
theorem dX11_digestThing_22 : decode cX11_digestThing 22 = .ok (.lload_n 1, 1) := dc_31 (by decide +kernel)
theorem dX11_digestThing_23 : decode cX11_digestThing 23 = .ok (.lmul, 1) := dc_105 (by decide +kernel)
theorem dX11_digestThing_24 : decode cX11_digestThing 24 = .ok (.aload_n 0, 1) := dc_42 (by decide +kernel)
theorem dX11_digestThing_25 : decode cX11_digestThing 25 = .ok (.getfield 19, 3) := dc_180 (a := 0) (b := 19) (by decide +kernel)
theorem dX11_digestThing_28 : decode cX11_digestThing 28 = .ok (.iload_n 3, 1) := dc_29 (by decide +kernel)
theorem dX11_digestThing_29 : decode cX11_digestThing 29 = .ok (.iconst 0, 1) := dc_3 (by decide +kernel)
theorem dX11_digestThing_30 : decode cX11_digestThing 30 = .ok (.invokevirtual 253, 3) := dc_182 (a := 0) (b := 253) (by decide +kernel)
theorem dX11_digestThing_33 : decode cX11_digestThing 33 = .ok (.i2l, 1) := dc_133 (by decide +kernel)
theorem dX11_digestThing_34 : decode cX11_digestThing 34 = .ok (.ladd, 1) := dc_97 (by decide +kernel)
theorem dX11_digestThing_35 : decode cX11_digestThing 35 = .ok (.lstore 4, 2) := dc_55 (a := 4) (by decide +kernel)
theorem dX11_digestThing_37 : decode cX11_digestThing 37 = .ok (.ldc2_w 408, 3) := dc_20 (a := 1) (b := 152) (by decide +kernel)
theorem dX11_digestThing_40 : decode cX11_digestThing 40 = .ok (.lload 4, 2) := dc_22 (a := 4) (by decide +kernel)
theorem dX11_digestThing_42 : decode cX11_digestThing 42 = .ok (.lmul, 1) := dc_105 (by decide +kernel)
theorem dX11_digestThing_43 : decode cX11_digestThing 43 = .ok (.aload_n 0, 1) := dc_42 (by decide +kernel)
theorem dX11_digestThing_44 : decode cX11_digestThing 44 = .ok (.getfield 19, 3) := dc_180 (a := 0) (b := 19) (by decide +kernel)
theorem dX11_digestThing_47 : decode cX11_digestThing 47 = .ok (.iload_n 3, 1) := dc_29 (by decide +kernel)
theorem dX11_digestThing_48 : decode cX11_digestThing 48 = .ok (.iconst 1, 1) := dc_4 (by decide +kernel)
theorem dX11_digestThing_49 : decode cX11_digestThing 49 = .ok (.invokevirtual 253, 3) := dc_182 (a := 0) (b := 253) (by decide +kernel)
theorem dX11_digestThing_52 : decode cX11_digestThing 52 = .ok (.i2l, 1) := dc_133 (by decide +kernel)
theorem dX11_digestThing_53 : decode cX11_digestThing 53 = .ok (.ladd, 1) := dc_97 (by decide +kernel)
theorem dX11_digestThing_54 : decode cX11_digestThing 54 = .ok (.lstore 4, 2) := dc_55 (a := 4) (by decide +kernel)
theorem dX11_digestThing_56 : decode cX11_digestThing 56 = .ok (.ldc2_w 408, 3) := dc_20 (a := 1) (b := 152) (by decide +kernel)
theorem dX11_digestThing_59 : decode cX11_digestThing 59 = .ok (.lload 4, 2) := dc_22 (a := 4) (by decide +kernel)
theorem dX11_digestThing_61 : decode cX11_digestThing 61 = .ok (.lmul, 1) := dc_105 (by decide +kernel)
theorem dX11_digestThing_62 : decode cX11_digestThing 62 = .ok (.aload_n 0, 1) := dc_42 (by decide +kernel)
theorem dX11_digestThing_63 : decode cX11_digestThing 63 = .ok (.getfield 19, 3) := dc_180 (a := 0) (b := 19) (by decide +kernel)
theorem dX11_digestThing_66 : decode cX11_digestThing 66 = .ok (.iload_n 3, 1) := dc_29 (by decide +kernel)
theorem dX11_digestThing_67 : decode cX11_digestThing 67 = .ok (.iconst 2, 1) := dc_5 (by decide +kernel)
theorem dX11_digestThing_68 : decode cX11_digestThing 68 = .ok (.invokevirtual 253, 3) := dc_182 (a := 0) (b := 253) (by decide +kernel)
theorem dX11_digestThing_71 : decode cX11_digestThing 71 = .ok (.i2l, 1) := dc_133 (by decide +kernel)
theorem dX11_digestThing_72 : decode cX11_digestThing 72 = .ok (.ladd, 1) := dc_97 (by decide +kernel)
theorem dX11_digestThing_73 : decode cX11_digestThing 73 = .ok (.lstore 4, 2) := dc_55 (a := 4) (by decide +kernel)
theorem dX11_digestThing_75 : decode cX11_digestThing 75 = .ok (.ldc2_w 408, 3) := dc_20 (a := 1) (b := 152) (by decide +kernel)
theorem dX11_digestThing_78 : decode cX11_digestThing 78 = .ok (.lload 4, 2) := dc_22 (a := 4) (by decide +kernel)
theorem dX11_digestThing_80 : decode cX11_digestThing 80 = .ok (.lmul, 1) := dc_105 (by decide +kernel)
theorem dX11_digestThing_81 : decode cX11_digestThing 81 = .ok (.aload_n 0, 1) := dc_42 (by decide +kernel)
theorem dX11_digestThing_82 : decode cX11_digestThing 82 = .ok (.getfield 19, 3) := dc_180 (a := 0) (b := 19) (by decide +kernel)
theorem dX11_digestThing_85 : decode cX11_digestThing 85 = .ok (.iload_n 3, 1) := dc_29 (by decide +kernel)
theorem dX11_digestThing_86 : decode cX11_digestThing 86 = .ok (.iconst 3, 1) := dc_6 (by decide +kernel)
theorem dX11_digestThing_87 : decode cX11_digestThing 87 = .ok (.invokevirtual 253, 3) := dc_182 (a := 0) (b := 253) (by decide +kernel)
theorem dX11_digestThing_90 : decode cX11_digestThing 90 = .ok (.i2l, 1) := dc_133 (by decide +kernel)
theorem dX11_digestThing_91 : decode cX11_digestThing 91 = .ok (.ladd, 1) := dc_97 (by decide +kernel)
theorem dX11_digestThing_92 : decode cX11_digestThing 92 = .ok (.lstore 4, 2) := dc_55 (a := 4) (by decide +kernel)
theorem dX11_digestThing_94 : decode cX11_digestThing 94 = .ok (.ldc2_w 408, 3) := dc_20 (a := 1) (b := 152) (by decide +kernel)
theorem dX11_digestThing_97 : decode cX11_digestThing 97 = .ok (.lload 4, 2) := dc_22 (a := 4) (by decide +kernel)
theorem dX11_digestThing_99 : decode cX11_digestThing 99 = .ok (.lmul, 1) := dc_105 (by decide +kernel)
theorem dX11_digestThing_100 : decode cX11_digestThing 100 = .ok (.aload_n 0, 1) := dc_42 (by decide +kernel)
theorem dX11_digestThing_101 : decode cX11_digestThing 101 = .ok (.getfield 19, 3) := dc_180 (a := 0) (b := 19) (by decide +kernel)
theorem dX11_digestThing_104 : decode cX11_digestThing 104 = .ok (.iload_n 3, 1) := dc_29 (by decide +kernel)
theorem dX11_digestThing_105 : decode cX11_digestThing 105 = .ok (.iconst 5, 1) := dc_8 (by decide +kernel)
theorem dX11_digestThing_106 : decode cX11_digestThing 106 = .ok (.invokevirtual 253, 3) := dc_182 (a := 0) (b := 253) (by decide +kernel)
theorem dX11_digestThing_109 : decode cX11_digestThing 109 = .ok (.i2l, 1) := dc_133 (by decide +kernel)
theorem dX11_digestThing_110 : decode cX11_digestThing 110 = .ok (.ladd, 1) := dc_97 (by decide +kernel)
theorem dX11_digestThing_111 : decode cX11_digestThing 111 = .ok (.lstore 4, 2) := dc_55 (a := 4) (by decide +kernel)
theorem dX11_digestThing_113 : decode cX11_digestThing 113 = .ok (.ldc2_w 408, 3) := dc_20 (a := 1) (b := 152) (by decide +kernel)
theorem dX11_digestThing_116 : decode cX11_digestThing 116 = .ok (.lload 4, 2) := dc_22 (a := 4) (by decide +kernel)
theorem dX11_digestThing_118 : decode cX11_digestThing 118 = .ok (.lmul, 1) := dc_105 (by decide +kernel)
theorem dX11_digestThing_119 : decode cX11_digestThing 119 = .ok (.aload_n 0, 1) := dc_42 (by decide +kernel)
theorem dX11_digestThing_120 : decode cX11_digestThing 120 = .ok (.getfield 19, 3) := dc_180 (a := 0) (b := 19) (by decide +kernel)
theorem dX11_digestThing_123 : decode cX11_digestThing 123 = .ok (.iload_n 3, 1) := dc_29 (by decide +kernel)
theorem dX11_digestThing_124 : decode cX11_digestThing 124 = .ok (.bipush 6, 2) := dc_16 (a := 6) (by decide +kernel) (by decide)
theorem dX11_digestThing_126 : decode cX11_digestThing 126 = .ok (.invokevirtual 253, 3) := dc_182 (a := 0) (b := 253) (by decide +kernel)
theorem dX11_digestThing_129 : decode cX11_digestThing 129 = .ok (.i2l, 1) := dc_133 (by decide +kernel)
theorem dX11_digestThing_130 : decode cX11_digestThing 130 = .ok (.ladd, 1) := dc_97 (by decide +kernel)
theorem dX11_digestThing_131 : decode cX11_digestThing 131 = .ok (.lstore 4, 2) := dc_55 (a := 4) (by decide +kernel)
theorem dX11_digestThing_133 : decode cX11_digestThing 133 = .ok (.ldc2_w 408, 3) := dc_20 (a := 1) (b := 152) (by decide +kernel)
theorem dX11_digestThing_136 : decode cX11_digestThing 136 = .ok (.lload 4, 2) := dc_22 (a := 4) (by decide +kernel)
theorem dX11_digestThing_138 : decode cX11_digestThing 138 = .ok (.lmul, 1) := dc_105 (by decide +kernel)
theorem dX11_digestThing_139 : decode cX11_digestThing 139 = .ok (.aload_n 0, 1) := dc_42 (by decide +kernel)
theorem dX11_digestThing_140 : decode cX11_digestThing 140 = .ok (.getfield 19, 3) := dc_180 (a := 0) (b := 19) (by decide +kernel)
theorem dX11_digestThing_143 : decode cX11_digestThing 143 = .ok (.iload_n 3, 1) := dc_29 (by decide +kernel)
theorem dX11_digestThing_144 : decode cX11_digestThing 144 = .ok (.bipush 8, 2) := dc_16 (a := 8) (by decide +kernel) (by decide)
theorem dX11_digestThing_146 : decode cX11_digestThing 146 = .ok (.invokevirtual 253, 3) := dc_182 (a := 0) (b := 253) (by decide +kernel)
theorem dX11_digestThing_149 : decode cX11_digestThing 149 = .ok (.i2l, 1) := dc_133 (by decide +kernel)
theorem dX11_digestThing_150 : decode cX11_digestThing 150 = .ok (.ladd, 1) := dc_97 (by decide +kernel)
theorem dX11_digestThing_151 : decode cX11_digestThing 151 = .ok (.lstore 4, 2) := dc_55 (a := 4) (by decide +kernel)
theorem dX11_digestThing_153 : decode cX11_digestThing 153 = .ok (.ldc2_w 408, 3) := dc_20 (a := 1) (b := 152) (by decide +kernel)
theorem dX11_digestThing_156 : decode cX11_digestThing 156 = .ok (.lload 4, 2) := dc_22 (a := 4) (by decide +kernel)
theorem dX11_digestThing_158 : decode cX11_digestThing 158 = .ok (.lmul, 1) := dc_105 (by decide +kernel)
theorem dX11_digestThing_159 : decode cX11_digestThing 159 = .ok (.aload_n 0, 1) := dc_42 (by decide +kernel)
theorem dX11_digestThing_160 : decode cX11_digestThing 160 = .ok (.getfield 19, 3) := dc_180 (a := 0) (b := 19) (by decide +kernel)
theorem dX11_digestThing_163 : decode cX11_digestThing 163 = .ok (.iload_n 3, 1) := dc_29 (by decide +kernel)
theorem dX11_digestThing_164 : decode cX11_digestThing 164 = .ok (.bipush 7, 2) := dc_16 (a := 7) (by decide +kernel) (by decide)
theorem dX11_digestThing_166 : decode cX11_digestThing 166 = .ok (.invokevirtual 253, 3) := dc_182 (a := 0) (b := 253) (by decide +kernel)
theorem dX11_digestThing_169 : decode cX11_digestThing 169 = .ok (.i2l, 1) := dc_133 (by decide +kernel)
theorem dX11_digestThing_170 : decode cX11_digestThing 170 = .ok (.ladd, 1) := dc_97 (by decide +kernel)
theorem dX11_digestThing_171 : decode cX11_digestThing 171 = .ok (.lstore 4, 2) := dc_55 (a := 4) (by decide +kernel)
theorem dX11_digestThing_173 : decode cX11_digestThing 173 = .ok (.ldc2_w 408, 3) := dc_20 (a := 1) (b := 152) (by decide +kernel)
theorem dX11_digestThing_176 : decode cX11_digestThing 176 = .ok (.lload 4, 2) := dc_22 (a := 4) (by decide +kernel)
theorem dX11_digestThing_178 : decode cX11_digestThing 178 = .ok (.lmul, 1) := dc_105 (by decide +kernel)
theorem dX11_digestThing_179 : decode cX11_digestThing 179 = .ok (.aload_n 0, 1) := dc_42 (by decide +kernel)
theorem dX11_digestThing_180 : decode cX11_digestThing 180 = .ok (.getfield 19, 3) := dc_180 (a := 0) (b := 19) (by decide +kernel)
theorem dX11_digestThing_183 : decode cX11_digestThing 183 = .ok (.iload_n 3, 1) := dc_29 (by decide +kernel)
theorem dX11_digestThing_184 : decode cX11_digestThing 184 = .ok (.bipush 10, 2) := dc_16 (a := 10) (by decide +kernel) (by decide)
theorem dX11_digestThing_186 : decode cX11_digestThing 186 = .ok (.invokevirtual 253, 3) := dc_182 (a := 0) (b := 253) (by decide +kernel)
theorem dX11_digestThing_189 : decode cX11_digestThing 189 = .ok (.i2l, 1) := dc_133 (by decide +kernel)
theorem dX11_digestThing_190 : decode cX11_digestThing 190 = .ok (.ladd, 1) := dc_97 (by decide +kernel)
theorem dX11_digestThing_191 : decode cX11_digestThing 191 = .ok (.lreturn, 1) := dc_173 (by decide +kernel)
set_option maxRecDepth 100000 in
set_option maxHeartbeats 4000000 in
theorem m_Yard_digestThing (a1 : Int64) (a3 : Int32) (S S' : SS) (r : Int64) (h : f_Yard_digestThing a1 a3 S = some (r, S')) : MT yX11_digestThing cX11_digestThing 6 (some .long) 2 43 (fun ad => [.ref (ad 61), .long a1, .int a3]) S (some (.long r)) S' := by
  refine MT.of RX11 (fun ad => [(0, .ref (ad 61)), (1, .long a1), (3, .int a3)]) (by decide) rfl (fun _ => Nat.le_of_ble_eq_true rfl) (fun _ => rfl) ?_
  intro p l e R s m args below meth c dC dI cs ad A hR1 hR2 F H locs ls w hl
  have hx := F.1.1
  have hb := F.1.2.1
  rw [f_Yard_digestThing] at h
  refine lv_aload_n (pc := 0) hx hb dX11_digestThing_0 rfl (lv_at hl 0 rfl) ?_
  refine s_getR (pc := 1) F w 63 ds_61 (j := 1) vc_X11 vi_X11 rfl (by decide) kf_X11_19 dX11_digestThing_1 ?_
  refine lv_iload_n (pc := 4) hx hb dX11_digestThing_4 rfl (lv_at hl 2 rfl) ?_
  obtain ⟨r2, S1, hc, h⟩ := bnd_t h
  refine s_cvi (pc := 5) [.int a3] (fun ad => [.ref (ad 63), .int a3]) F w (m_State_isThere _ _ _ _ hc) rfl rfl hl.1 ds_63 vc_X8 rfl ok_X8_isThere rfl kc_X8_isThere kl_X11_410 ki_X8_isThere kv_X8_isThere kn_X8 ⟨Nat.le_trans (by decide) hR1, Nat.le_trans (by decide) hR2⟩ ⟨Nat.zero_le _, Nat.zero_le _⟩ (Nat.le_of_ble_eq_true rfl) dX11_digestThing_5 (fun H locs w => ?_)
  refine lv_if_ne (pc := 8) (tgt := 19) hx hb dX11_digestThing_8 (by decide) (fun q => ?_) (fun q => ?_)
  · have h := ite_f q h
    refine lv_ldc2 (pc := 19) (v := 31) hx hb F.1.2.2.2.1 (F.1.2.2.2.2 _ kk_X11_408) dX11_digestThing_19 ?_
    refine lv_lload_n (pc := 22) hx hb dX11_digestThing_22 rfl (lv_at hl 1 rfl) ?_
    refine lv_lmul (pc := 23) hx hb dX11_digestThing_23 ?_
    refine lv_aload_n (pc := 24) hx hb dX11_digestThing_24 rfl (lv_at hl 0 rfl) ?_
    refine s_getR (pc := 25) F w 63 ds_61 (j := 1) vc_X11 vi_X11 rfl (by decide) kf_X11_19 dX11_digestThing_25 ?_
    refine lv_iload_n (pc := 28) hx hb dX11_digestThing_28 rfl (lv_at hl 2 rfl) ?_
    refine lv_iconst (pc := 29) (v := 0) hx hb dX11_digestThing_29 (by decide) ?_
    obtain ⟨r4, S3, hc, h⟩ := bnd_t h
    refine s_cvi (pc := 30) [.int a3, .int (0 : Int32)] (fun ad => [.ref (ad 63), .int a3, .int (0 : Int32)]) F w (m_State_get _ _ _ _ _ hc) rfl rfl hl.1 ds_63 vc_X8 rfl ok_X8_get rfl kc_X8_get kl_X11_253 ki_X8_get kv_X8_get kn_X8 ⟨Nat.le_trans (by decide) hR1, Nat.le_trans (by decide) hR2⟩ ⟨Nat.zero_le _, Nat.zero_le _⟩ (Nat.le_of_ble_eq_true rfl) dX11_digestThing_30 (fun H locs w => ?_)
    refine lv_i2l (pc := 33) hx hb dX11_digestThing_33 rfl ?_
    refine lv_ladd (pc := 34) hx hb dX11_digestThing_34 ?_
    refine s_nm h (fun z5 ez5 h => ?_)
    rw [← ez5]
    refine lv_lstore (pc := 35) (lv' := [(4, .long z5), (0, .ref (ad 61)), (1, .long a1), (3, .int a3)]) hx hb dX11_digestThing_35 hl (by decide) rfl (fun ls hl => ?_)
    refine lv_ldc2 (pc := 37) (v := 31) hx hb F.1.2.2.2.1 (F.1.2.2.2.2 _ kk_X11_408) dX11_digestThing_37 ?_
    refine lv_lload (pc := 40) hx hb dX11_digestThing_40 (lv_at hl 0 rfl) ?_
    refine lv_lmul (pc := 42) hx hb dX11_digestThing_42 ?_
    refine lv_aload_n (pc := 43) hx hb dX11_digestThing_43 rfl (lv_at hl 1 rfl) ?_
    refine s_getR (pc := 44) F w 63 ds_61 (j := 1) vc_X11 vi_X11 rfl (by decide) kf_X11_19 dX11_digestThing_44 ?_
    refine lv_iload_n (pc := 47) hx hb dX11_digestThing_47 rfl (lv_at hl 3 rfl) ?_
    refine lv_iconst (pc := 48) (v := 1) hx hb dX11_digestThing_48 (by decide) ?_
    obtain ⟨r7, S6, hc, h⟩ := bnd_t h
    refine s_cvi (pc := 49) [.int a3, .int (1 : Int32)] (fun ad => [.ref (ad 63), .int a3, .int (1 : Int32)]) F w (m_State_get _ _ _ _ _ hc) rfl rfl hl.1 ds_63 vc_X8 rfl ok_X8_get rfl kc_X8_get kl_X11_253 ki_X8_get kv_X8_get kn_X8 ⟨Nat.le_trans (by decide) hR1, Nat.le_trans (by decide) hR2⟩ ⟨Nat.zero_le _, Nat.zero_le _⟩ (Nat.le_of_ble_eq_true rfl) dX11_digestThing_49 (fun H locs w => ?_)
    refine lv_i2l (pc := 52) hx hb dX11_digestThing_52 rfl ?_
    refine lv_ladd (pc := 53) hx hb dX11_digestThing_53 ?_
    refine s_nm h (fun z8 ez8 h => ?_)
    rw [← ez8]
    refine lv_lstore (pc := 54) (lv' := [(4, .long z8), (0, .ref (ad 61)), (1, .long a1), (3, .int a3)]) hx hb dX11_digestThing_54 hl (by decide) rfl (fun ls hl => ?_)
    refine lv_ldc2 (pc := 56) (v := 31) hx hb F.1.2.2.2.1 (F.1.2.2.2.2 _ kk_X11_408) dX11_digestThing_56 ?_
    refine lv_lload (pc := 59) hx hb dX11_digestThing_59 (lv_at hl 0 rfl) ?_
    refine lv_lmul (pc := 61) hx hb dX11_digestThing_61 ?_
    refine lv_aload_n (pc := 62) hx hb dX11_digestThing_62 rfl (lv_at hl 1 rfl) ?_
    refine s_getR (pc := 63) F w 63 ds_61 (j := 1) vc_X11 vi_X11 rfl (by decide) kf_X11_19 dX11_digestThing_63 ?_
    refine lv_iload_n (pc := 66) hx hb dX11_digestThing_66 rfl (lv_at hl 3 rfl) ?_
    refine lv_iconst (pc := 67) (v := 2) hx hb dX11_digestThing_67 (by decide) ?_
    obtain ⟨r10, S9, hc, h⟩ := bnd_t h
    refine s_cvi (pc := 68) [.int a3, .int (2 : Int32)] (fun ad => [.ref (ad 63), .int a3, .int (2 : Int32)]) F w (m_State_get _ _ _ _ _ hc) rfl rfl hl.1 ds_63 vc_X8 rfl ok_X8_get rfl kc_X8_get kl_X11_253 ki_X8_get kv_X8_get kn_X8 ⟨Nat.le_trans (by decide) hR1, Nat.le_trans (by decide) hR2⟩ ⟨Nat.zero_le _, Nat.zero_le _⟩ (Nat.le_of_ble_eq_true rfl) dX11_digestThing_68 (fun H locs w => ?_)
    refine lv_i2l (pc := 71) hx hb dX11_digestThing_71 rfl ?_
    refine lv_ladd (pc := 72) hx hb dX11_digestThing_72 ?_
    refine s_nm h (fun z11 ez11 h => ?_)
    rw [← ez11]
    refine lv_lstore (pc := 73) (lv' := [(4, .long z11), (0, .ref (ad 61)), (1, .long a1), (3, .int a3)]) hx hb dX11_digestThing_73 hl (by decide) rfl (fun ls hl => ?_)
    refine lv_ldc2 (pc := 75) (v := 31) hx hb F.1.2.2.2.1 (F.1.2.2.2.2 _ kk_X11_408) dX11_digestThing_75 ?_
    refine lv_lload (pc := 78) hx hb dX11_digestThing_78 (lv_at hl 0 rfl) ?_
    refine lv_lmul (pc := 80) hx hb dX11_digestThing_80 ?_
    refine lv_aload_n (pc := 81) hx hb dX11_digestThing_81 rfl (lv_at hl 1 rfl) ?_
    refine s_getR (pc := 82) F w 63 ds_61 (j := 1) vc_X11 vi_X11 rfl (by decide) kf_X11_19 dX11_digestThing_82 ?_
    refine lv_iload_n (pc := 85) hx hb dX11_digestThing_85 rfl (lv_at hl 3 rfl) ?_
    refine lv_iconst (pc := 86) (v := 3) hx hb dX11_digestThing_86 (by decide) ?_
    obtain ⟨r13, S12, hc, h⟩ := bnd_t h
    refine s_cvi (pc := 87) [.int a3, .int (3 : Int32)] (fun ad => [.ref (ad 63), .int a3, .int (3 : Int32)]) F w (m_State_get _ _ _ _ _ hc) rfl rfl hl.1 ds_63 vc_X8 rfl ok_X8_get rfl kc_X8_get kl_X11_253 ki_X8_get kv_X8_get kn_X8 ⟨Nat.le_trans (by decide) hR1, Nat.le_trans (by decide) hR2⟩ ⟨Nat.zero_le _, Nat.zero_le _⟩ (Nat.le_of_ble_eq_true rfl) dX11_digestThing_87 (fun H locs w => ?_)
    refine lv_i2l (pc := 90) hx hb dX11_digestThing_90 rfl ?_
    refine lv_ladd (pc := 91) hx hb dX11_digestThing_91 ?_
    refine s_nm h (fun z14 ez14 h => ?_)
    rw [← ez14]
    refine lv_lstore (pc := 92) (lv' := [(4, .long z14), (0, .ref (ad 61)), (1, .long a1), (3, .int a3)]) hx hb dX11_digestThing_92 hl (by decide) rfl (fun ls hl => ?_)
    refine lv_ldc2 (pc := 94) (v := 31) hx hb F.1.2.2.2.1 (F.1.2.2.2.2 _ kk_X11_408) dX11_digestThing_94 ?_
    refine lv_lload (pc := 97) hx hb dX11_digestThing_97 (lv_at hl 0 rfl) ?_
    refine lv_lmul (pc := 99) hx hb dX11_digestThing_99 ?_
    refine lv_aload_n (pc := 100) hx hb dX11_digestThing_100 rfl (lv_at hl 1 rfl) ?_
    refine s_getR (pc := 101) F w 63 ds_61 (j := 1) vc_X11 vi_X11 rfl (by decide) kf_X11_19 dX11_digestThing_101 ?_
    refine lv_iload_n (pc := 104) hx hb dX11_digestThing_104 rfl (lv_at hl 3 rfl) ?_
    refine lv_iconst (pc := 105) (v := 5) hx hb dX11_digestThing_105 (by decide) ?_
    obtain ⟨r16, S15, hc, h⟩ := bnd_t h
    refine s_cvi (pc := 106) [.int a3, .int (5 : Int32)] (fun ad => [.ref (ad 63), .int a3, .int (5 : Int32)]) F w (m_State_get _ _ _ _ _ hc) rfl rfl hl.1 ds_63 vc_X8 rfl ok_X8_get rfl kc_X8_get kl_X11_253 ki_X8_get kv_X8_get kn_X8 ⟨Nat.le_trans (by decide) hR1, Nat.le_trans (by decide) hR2⟩ ⟨Nat.zero_le _, Nat.zero_le _⟩ (Nat.le_of_ble_eq_true rfl) dX11_digestThing_106 (fun H locs w => ?_)
    refine lv_i2l (pc := 109) hx hb dX11_digestThing_109 rfl ?_
    refine lv_ladd (pc := 110) hx hb dX11_digestThing_110 ?_
    refine s_nm h (fun z17 ez17 h => ?_)
    rw [← ez17]
    refine lv_lstore (pc := 111) (lv' := [(4, .long z17), (0, .ref (ad 61)), (1, .long a1), (3, .int a3)]) hx hb dX11_digestThing_111 hl (by decide) rfl (fun ls hl => ?_)
    refine lv_ldc2 (pc := 113) (v := 31) hx hb F.1.2.2.2.1 (F.1.2.2.2.2 _ kk_X11_408) dX11_digestThing_113 ?_
    refine lv_lload (pc := 116) hx hb dX11_digestThing_116 (lv_at hl 0 rfl) ?_
    refine lv_lmul (pc := 118) hx hb dX11_digestThing_118 ?_
    refine lv_aload_n (pc := 119) hx hb dX11_digestThing_119 rfl (lv_at hl 1 rfl) ?_
    refine s_getR (pc := 120) F w 63 ds_61 (j := 1) vc_X11 vi_X11 rfl (by decide) kf_X11_19 dX11_digestThing_120 ?_
    refine lv_iload_n (pc := 123) hx hb dX11_digestThing_123 rfl (lv_at hl 3 rfl) ?_
    refine lv_bipush (pc := 124) (v := 6) hx hb dX11_digestThing_124 (by decide) ?_
    obtain ⟨r19, S18, hc, h⟩ := bnd_t h
    refine s_cvi (pc := 126) [.int a3, .int (6 : Int32)] (fun ad => [.ref (ad 63), .int a3, .int (6 : Int32)]) F w (m_State_get _ _ _ _ _ hc) rfl rfl hl.1 ds_63 vc_X8 rfl ok_X8_get rfl kc_X8_get kl_X11_253 ki_X8_get kv_X8_get kn_X8 ⟨Nat.le_trans (by decide) hR1, Nat.le_trans (by decide) hR2⟩ ⟨Nat.zero_le _, Nat.zero_le _⟩ (Nat.le_of_ble_eq_true rfl) dX11_digestThing_126 (fun H locs w => ?_)
    refine lv_i2l (pc := 129) hx hb dX11_digestThing_129 rfl ?_
    refine lv_ladd (pc := 130) hx hb dX11_digestThing_130 ?_
    refine s_nm h (fun z20 ez20 h => ?_)
    rw [← ez20]
    refine lv_lstore (pc := 131) (lv' := [(4, .long z20), (0, .ref (ad 61)), (1, .long a1), (3, .int a3)]) hx hb dX11_digestThing_131 hl (by decide) rfl (fun ls hl => ?_)
    refine lv_ldc2 (pc := 133) (v := 31) hx hb F.1.2.2.2.1 (F.1.2.2.2.2 _ kk_X11_408) dX11_digestThing_133 ?_
    refine lv_lload (pc := 136) hx hb dX11_digestThing_136 (lv_at hl 0 rfl) ?_
    refine lv_lmul (pc := 138) hx hb dX11_digestThing_138 ?_
    refine lv_aload_n (pc := 139) hx hb dX11_digestThing_139 rfl (lv_at hl 1 rfl) ?_
    refine s_getR (pc := 140) F w 63 ds_61 (j := 1) vc_X11 vi_X11 rfl (by decide) kf_X11_19 dX11_digestThing_140 ?_
    refine lv_iload_n (pc := 143) hx hb dX11_digestThing_143 rfl (lv_at hl 3 rfl) ?_
    refine lv_bipush (pc := 144) (v := 8) hx hb dX11_digestThing_144 (by decide) ?_
    obtain ⟨r22, S21, hc, h⟩ := bnd_t h
    refine s_cvi (pc := 146) [.int a3, .int (8 : Int32)] (fun ad => [.ref (ad 63), .int a3, .int (8 : Int32)]) F w (m_State_get _ _ _ _ _ hc) rfl rfl hl.1 ds_63 vc_X8 rfl ok_X8_get rfl kc_X8_get kl_X11_253 ki_X8_get kv_X8_get kn_X8 ⟨Nat.le_trans (by decide) hR1, Nat.le_trans (by decide) hR2⟩ ⟨Nat.zero_le _, Nat.zero_le _⟩ (Nat.le_of_ble_eq_true rfl) dX11_digestThing_146 (fun H locs w => ?_)
    refine lv_i2l (pc := 149) hx hb dX11_digestThing_149 rfl ?_
    refine lv_ladd (pc := 150) hx hb dX11_digestThing_150 ?_
    refine s_nm h (fun z23 ez23 h => ?_)
    rw [← ez23]
    refine lv_lstore (pc := 151) (lv' := [(4, .long z23), (0, .ref (ad 61)), (1, .long a1), (3, .int a3)]) hx hb dX11_digestThing_151 hl (by decide) rfl (fun ls hl => ?_)
    refine lv_ldc2 (pc := 153) (v := 31) hx hb F.1.2.2.2.1 (F.1.2.2.2.2 _ kk_X11_408) dX11_digestThing_153 ?_
    refine lv_lload (pc := 156) hx hb dX11_digestThing_156 (lv_at hl 0 rfl) ?_
    refine lv_lmul (pc := 158) hx hb dX11_digestThing_158 ?_
    refine lv_aload_n (pc := 159) hx hb dX11_digestThing_159 rfl (lv_at hl 1 rfl) ?_
    refine s_getR (pc := 160) F w 63 ds_61 (j := 1) vc_X11 vi_X11 rfl (by decide) kf_X11_19 dX11_digestThing_160 ?_
    refine lv_iload_n (pc := 163) hx hb dX11_digestThing_163 rfl (lv_at hl 3 rfl) ?_
    refine lv_bipush (pc := 164) (v := 7) hx hb dX11_digestThing_164 (by decide) ?_
    obtain ⟨r25, S24, hc, h⟩ := bnd_t h
    refine s_cvi (pc := 166) [.int a3, .int (7 : Int32)] (fun ad => [.ref (ad 63), .int a3, .int (7 : Int32)]) F w (m_State_get _ _ _ _ _ hc) rfl rfl hl.1 ds_63 vc_X8 rfl ok_X8_get rfl kc_X8_get kl_X11_253 ki_X8_get kv_X8_get kn_X8 ⟨Nat.le_trans (by decide) hR1, Nat.le_trans (by decide) hR2⟩ ⟨Nat.zero_le _, Nat.zero_le _⟩ (Nat.le_of_ble_eq_true rfl) dX11_digestThing_166 (fun H locs w => ?_)
    refine lv_i2l (pc := 169) hx hb dX11_digestThing_169 rfl ?_
    refine lv_ladd (pc := 170) hx hb dX11_digestThing_170 ?_
    refine s_nm h (fun z26 ez26 h => ?_)
    rw [← ez26]
    refine lv_lstore (pc := 171) (lv' := [(4, .long z26), (0, .ref (ad 61)), (1, .long a1), (3, .int a3)]) hx hb dX11_digestThing_171 hl (by decide) rfl (fun ls hl => ?_)
    refine lv_ldc2 (pc := 173) (v := 31) hx hb F.1.2.2.2.1 (F.1.2.2.2.2 _ kk_X11_408) dX11_digestThing_173 ?_
    refine lv_lload (pc := 176) hx hb dX11_digestThing_176 (lv_at hl 0 rfl) ?_
    refine lv_lmul (pc := 178) hx hb dX11_digestThing_178 ?_
    refine lv_aload_n (pc := 179) hx hb dX11_digestThing_179 rfl (lv_at hl 1 rfl) ?_
    refine s_getR (pc := 180) F w 63 ds_61 (j := 1) vc_X11 vi_X11 rfl (by decide) kf_X11_19 dX11_digestThing_180 ?_
    refine lv_iload_n (pc := 183) hx hb dX11_digestThing_183 rfl (lv_at hl 3 rfl) ?_
    refine lv_bipush (pc := 184) (v := 10) hx hb dX11_digestThing_184 (by decide) ?_
    obtain ⟨r28, S27, hc, h⟩ := bnd_t h
    refine s_cvi (pc := 186) [.int a3, .int (10 : Int32)] (fun ad => [.ref (ad 63), .int a3, .int (10 : Int32)]) F w (m_State_get _ _ _ _ _ hc) rfl rfl hl.1 ds_63 vc_X8 rfl ok_X8_get rfl kc_X8_get kl_X11_253 ki_X8_get kv_X8_get kn_X8 ⟨Nat.le_trans (by decide) hR1, Nat.le_trans (by decide) hR2⟩ ⟨Nat.zero_le _, Nat.zero_le _⟩ (Nat.le_of_ble_eq_true rfl) dX11_digestThing_186 (fun H locs w => ?_)
    refine lv_i2l (pc := 189) hx hb dX11_digestThing_189 rfl ?_
    refine lv_ladd (pc := 190) hx hb dX11_digestThing_190 ?_
    exact s_lret F w h dX11_digestThing_191
  · have h := ite_t q h
    refine lv_ldc2 (pc := 11) (v := 31) hx hb F.1.2.2.2.1 (F.1.2.2.2.2 _ kk_X11_408) dX11_digestThing_11 ?_
    refine lv_lload_n (pc := 14) hx hb dX11_digestThing_14 rfl (lv_at hl 1 rfl) ?_
    refine lv_lmul (pc := 15) hx hb dX11_digestThing_15 ?_
    refine lv_lconst (pc := 16) (v := 1) hx hb dX11_digestThing_16 (by decide) ?_
    refine lv_lsub (pc := 17) hx hb dX11_digestThing_17 ?_
    exact s_lret F w h dX11_digestThing_18
def f_Yard_digest_L32  : Nat → Int64 → Int32 → SS → Option (Int64 × SS)
  | 0, _, _, _ => none
  | n + 1, x1, x3, S =>
    if (S.1 66 8) ≤ x3 then
      some (x1, S)
    else
      bnd (f_State_setting x3 S) (fun r2 S1 =>
      nm (((31 : Int64) * x1) + (r2.toInt64)) (fun z3 =>
      bnd (f_State_locker x3 S1) (fun r5 S4 =>
      nm (((31 : Int64) * z3) + (r5.toInt64)) (fun z6 =>
      nm (x3 + (1 : Int32)) (fun z7 =>
      f_Yard_digest_L32 n z6 z7 S4)))))
def f_Yard_digest_L6  : Nat → Int64 → Int32 → SS → Option (Int64 × SS)
  | 0, _, _, _ => none
  | n + 1, x1, x3, S =>
    if (S.1 63 1) ≤ x3 then
      f_Yard_digest_L32 NF x1 (0 : Int32) S
    else
      bndl (f_Yard_digestThing x1 x3 S) (fun r9 S8 =>
      nm (x3 + (1 : Int32)) (fun z10 =>
      f_Yard_digest_L6 n r9 z10 S8))
def f_Yard_digest  (S : SS) : Option (Int64 × SS) :=
  f_Yard_digest_L6 NF (7 : Int64) (0 : Int32) S
theorem dX11_digest_0 : decode cX11_digest 0 = .ok (.ldc2_w 402, 3) := dc_20 (a := 1) (b := 146) (by decide +kernel)
theorem dX11_digest_3 : decode cX11_digest 3 = .ok (.lstore_n 1, 1) := dc_64 (by decide +kernel)
theorem dX11_digest_4 : decode cX11_digest 4 = .ok (.iconst 0, 1) := dc_3 (by decide +kernel)
theorem dX11_digest_5 : decode cX11_digest 5 = .ok (.istore_n 3, 1) := dc_62 (by decide +kernel)
theorem dX11_digest_6 : decode cX11_digest 6 = .ok (.iload_n 3, 1) := dc_29 (by decide +kernel)
theorem dX11_digest_7 : decode cX11_digest 7 = .ok (.aload_n 0, 1) := dc_42 (by decide +kernel)
theorem dX11_digest_8 : decode cX11_digest 8 = .ok (.getfield 19, 3) := dc_180 (a := 0) (b := 19) (by decide +kernel)
theorem dX11_digest_11 : decode cX11_digest 11 = .ok (.getfield 140, 3) := dc_180 (a := 0) (b := 140) (by decide +kernel)
theorem dX11_digest_14 : decode cX11_digest 14 = .ok (.if_icmp .ge 16, 3) := dc_162 (a := 0) (b := 16) (by decide +kernel) (by decide)
theorem dX11_digest_17 : decode cX11_digest 17 = .ok (.aload_n 0, 1) := dc_42 (by decide +kernel)
theorem dX11_digest_18 : decode cX11_digest 18 = .ok (.lload_n 1, 1) := dc_31 (by decide +kernel)
theorem dX11_digest_19 : decode cX11_digest 19 = .ok (.iload_n 3, 1) := dc_29 (by decide +kernel)
theorem dX11_digest_20 : decode cX11_digest 20 = .ok (.invokevirtual 404, 3) := dc_182 (a := 1) (b := 148) (by decide +kernel)
theorem dX11_digest_23 : decode cX11_digest 23 = .ok (.lstore_n 1, 1) := dc_64 (by decide +kernel)
theorem dX11_digest_24 : decode cX11_digest 24 = .ok (.iinc 3 1, 3) := dc_132 (a := 3) (b := 1) (by decide +kernel) (by decide)
theorem dX11_digest_27 : decode cX11_digest 27 = .ok (.goto (-21), 3) := dc_167 (a := 255) (b := 235) (by decide +kernel) (by decide)
theorem dX11_digest_30 : decode cX11_digest 30 = .ok (.iconst 0, 1) := dc_3 (by decide +kernel)
theorem dX11_digest_31 : decode cX11_digest 31 = .ok (.istore_n 3, 1) := dc_62 (by decide +kernel)
theorem dX11_digest_32 : decode cX11_digest 32 = .ok (.iload_n 3, 1) := dc_29 (by decide +kernel)
theorem dX11_digest_33 : decode cX11_digest 33 = .ok (.aload_n 0, 1) := dc_42 (by decide +kernel)
theorem dX11_digest_34 : decode cX11_digest 34 = .ok (.getfield 42, 3) := dc_180 (a := 0) (b := 42) (by decide +kernel)
theorem dX11_digest_37 : decode cX11_digest 37 = .ok (.getfield 112, 3) := dc_180 (a := 0) (b := 112) (by decide +kernel)
theorem dX11_digest_40 : decode cX11_digest 40 = .ok (.if_icmp .ge 41, 3) := dc_162 (a := 0) (b := 41) (by decide +kernel) (by decide)
theorem dX11_digest_43 : decode cX11_digest 43 = .ok (.ldc2_w 408, 3) := dc_20 (a := 1) (b := 152) (by decide +kernel)
theorem dX11_digest_46 : decode cX11_digest 46 = .ok (.lload_n 1, 1) := dc_31 (by decide +kernel)
theorem dX11_digest_47 : decode cX11_digest 47 = .ok (.lmul, 1) := dc_105 (by decide +kernel)
theorem dX11_digest_48 : decode cX11_digest 48 = .ok (.aload_n 0, 1) := dc_42 (by decide +kernel)
theorem dX11_digest_49 : decode cX11_digest 49 = .ok (.getfield 19, 3) := dc_180 (a := 0) (b := 19) (by decide +kernel)
theorem dX11_digest_52 : decode cX11_digest 52 = .ok (.iload_n 3, 1) := dc_29 (by decide +kernel)
theorem dX11_digest_53 : decode cX11_digest 53 = .ok (.invokevirtual 348, 3) := dc_182 (a := 1) (b := 92) (by decide +kernel)
theorem dX11_digest_56 : decode cX11_digest 56 = .ok (.i2l, 1) := dc_133 (by decide +kernel)
theorem dX11_digest_57 : decode cX11_digest 57 = .ok (.ladd, 1) := dc_97 (by decide +kernel)
theorem dX11_digest_58 : decode cX11_digest 58 = .ok (.lstore_n 1, 1) := dc_64 (by decide +kernel)
theorem dX11_digest_59 : decode cX11_digest 59 = .ok (.ldc2_w 408, 3) := dc_20 (a := 1) (b := 152) (by decide +kernel)
theorem dX11_digest_62 : decode cX11_digest 62 = .ok (.lload_n 1, 1) := dc_31 (by decide +kernel)
theorem dX11_digest_63 : decode cX11_digest 63 = .ok (.lmul, 1) := dc_105 (by decide +kernel)
theorem dX11_digest_64 : decode cX11_digest 64 = .ok (.aload_n 0, 1) := dc_42 (by decide +kernel)
theorem dX11_digest_65 : decode cX11_digest 65 = .ok (.getfield 19, 3) := dc_180 (a := 0) (b := 19) (by decide +kernel)
theorem dX11_digest_68 : decode cX11_digest 68 = .ok (.iload_n 3, 1) := dc_29 (by decide +kernel)
theorem dX11_digest_69 : decode cX11_digest 69 = .ok (.invokevirtual 351, 3) := dc_182 (a := 1) (b := 95) (by decide +kernel)
theorem dX11_digest_72 : decode cX11_digest 72 = .ok (.i2l, 1) := dc_133 (by decide +kernel)
theorem dX11_digest_73 : decode cX11_digest 73 = .ok (.ladd, 1) := dc_97 (by decide +kernel)
theorem dX11_digest_74 : decode cX11_digest 74 = .ok (.lstore_n 1, 1) := dc_64 (by decide +kernel)
theorem dX11_digest_75 : decode cX11_digest 75 = .ok (.iinc 3 1, 3) := dc_132 (a := 3) (b := 1) (by decide +kernel) (by decide)
theorem dX11_digest_78 : decode cX11_digest 78 = .ok (.goto (-46), 3) := dc_167 (a := 255) (b := 210) (by decide +kernel) (by decide)
theorem dX11_digest_81 : decode cX11_digest 81 = .ok (.lload_n 1, 1) := dc_31 (by decide +kernel)
theorem dX11_digest_82 : decode cX11_digest 82 = .ok (.lreturn, 1) := dc_173 (by decide +kernel)
set_option maxRecDepth 100000 in
set_option maxHeartbeats 4000000 in
theorem w_Yard_digest_L32 {p : Program} {l : Launch} {e : Env} {R : Room} {s : State} {m : MethodId} {args : Array Value} {below : List Frame} {meth : Method} {c : Code} {dC : Nat → ClassId} {dI : Nat → Nat → Nat} {cs : Nat → ClassId} {ad : Nat → Nat} {A : Nat → Prop} {D0 : Nat → Nat} {S' : SS} {r : Int64} (F : Fx p s m args meth c cX11_digest 4 RX11 (some .long) dC dI cs A) (hR1 : 1 ≤ R.frames) (hR2 : 21 ≤ R.locals) : ∀ (n : Nat) (x1 : Int64) (x3 : Int32) (S : SS), f_Yard_digest_L32 n x1 x3 S = some (r, S') → AW p l e R s m args below meth c dC dI cs ad A D0 (some (.long r)) S' 4 32 [(0, .ref (ad 61)), (1, .long x1), (3, .int x3)] [] S := by
  have hx := F.1.1
  have hb := F.1.2.1
  intro n
  induction n with
  | zero => intro x1 x3 S h; cases h
  | succ n ih =>
    intro x1 x3 S h H locs ls w hl
    rw [f_Yard_digest_L32] at h
    refine lv_iload_n (pc := 32) hx hb dX11_digest_32 rfl (lv_at hl 2 rfl) ?_
    refine lv_aload_n (pc := 33) hx hb dX11_digest_33 rfl (lv_at hl 0 rfl) ?_
    refine s_getR (pc := 34) F w 66 ds_61 (j := 4) vc_X11 vi_X11 rfl (by decide) kf_X11_42 dX11_digest_34 ?_
    refine s_getI (pc := 37) F w ds_66 (j := 8) vc_X2 vi_X2 rfl (by decide) kf_X11_112 dX11_digest_37 ?_
    refine lv_icmp_ge (pc := 40) (tgt := 81) hx hb dX11_digest_40 (by decide) (fun q => ?_) (fun q => ?_)
    · have h := ite_t q h
      refine lv_lload_n (pc := 81) hx hb dX11_digest_81 rfl (lv_at hl 1 rfl) ?_
      exact s_lret F w h dX11_digest_82
    · have h := ite_f q h
      refine lv_ldc2 (pc := 43) (v := 31) hx hb F.1.2.2.2.1 (F.1.2.2.2.2 _ kk_X11_408) dX11_digest_43 ?_
      refine lv_lload_n (pc := 46) hx hb dX11_digest_46 rfl (lv_at hl 1 rfl) ?_
      refine lv_lmul (pc := 47) hx hb dX11_digest_47 ?_
      refine lv_aload_n (pc := 48) hx hb dX11_digest_48 rfl (lv_at hl 0 rfl) ?_
      refine s_getR (pc := 49) F w 63 ds_61 (j := 1) vc_X11 vi_X11 rfl (by decide) kf_X11_19 dX11_digest_49 ?_
      refine lv_iload_n (pc := 52) hx hb dX11_digest_52 rfl (lv_at hl 2 rfl) ?_
      obtain ⟨r2, S1, hc, h⟩ := bnd_t h
      refine s_cvi (pc := 53) [.int x3] (fun ad => [.ref (ad 63), .int x3]) F w (m_State_setting _ _ _ _ hc) rfl rfl hl.1 ds_63 vc_X8 rfl ok_X8_setting rfl kc_X8_setting kl_X11_348 ki_X8_setting kv_X8_setting kn_X8 ⟨Nat.le_trans (by decide) hR1, Nat.le_trans (by decide) hR2⟩ ⟨Nat.zero_le _, Nat.zero_le _⟩ (Nat.le_of_ble_eq_true rfl) dX11_digest_53 (fun H locs w => ?_)
      refine lv_i2l (pc := 56) hx hb dX11_digest_56 rfl ?_
      refine lv_ladd (pc := 57) hx hb dX11_digest_57 ?_
      refine s_nm h (fun z3 ez3 h => ?_)
      rw [← ez3]
      refine lv_lstore_n (pc := 58) (lv' := [(1, .long z3), (0, .ref (ad 61)), (3, .int x3)]) hx hb dX11_digest_58 rfl hl (by decide) rfl (fun ls hl => ?_)
      refine lv_ldc2 (pc := 59) (v := 31) hx hb F.1.2.2.2.1 (F.1.2.2.2.2 _ kk_X11_408) dX11_digest_59 ?_
      refine lv_lload_n (pc := 62) hx hb dX11_digest_62 rfl (lv_at hl 0 rfl) ?_
      refine lv_lmul (pc := 63) hx hb dX11_digest_63 ?_
      refine lv_aload_n (pc := 64) hx hb dX11_digest_64 rfl (lv_at hl 1 rfl) ?_
      refine s_getR (pc := 65) F w 63 ds_61 (j := 1) vc_X11 vi_X11 rfl (by decide) kf_X11_19 dX11_digest_65 ?_
      refine lv_iload_n (pc := 68) hx hb dX11_digest_68 rfl (lv_at hl 2 rfl) ?_
      obtain ⟨r5, S4, hc, h⟩ := bnd_t h
      refine s_cvi (pc := 69) [.int x3] (fun ad => [.ref (ad 63), .int x3]) F w (m_State_locker _ _ _ _ hc) rfl rfl hl.1 ds_63 vc_X8 rfl ok_X8_locker rfl kc_X8_locker kl_X11_351 ki_X8_locker kv_X8_locker kn_X8 ⟨Nat.le_trans (by decide) hR1, Nat.le_trans (by decide) hR2⟩ ⟨Nat.zero_le _, Nat.zero_le _⟩ (Nat.le_of_ble_eq_true rfl) dX11_digest_69 (fun H locs w => ?_)
      refine lv_i2l (pc := 72) hx hb dX11_digest_72 rfl ?_
      refine lv_ladd (pc := 73) hx hb dX11_digest_73 ?_
      refine s_nm h (fun z6 ez6 h => ?_)
      rw [← ez6]
      refine lv_lstore_n (pc := 74) (lv' := [(1, .long z6), (0, .ref (ad 61)), (3, .int x3)]) hx hb dX11_digest_74 rfl hl (by decide) rfl (fun ls hl => ?_)
      refine s_nm h (fun z7 ez7 h => ?_)
      refine lv_iinc (pc := 75) (v := z7) (lv' := [(3, .int z7), (1, .long z6), (0, .ref (ad 61))]) hx hb dX11_digest_75 hl (k := 2) rfl (by rw [ez7]; rfl) (by decide) rfl (fun ls hl => ?_)
      refine lv_goto (pc := 78) (tgt := 32) hx hb dX11_digest_78 (by decide) ?_
      exact ih _ _ _ h _ _ _ w (lv_sub hl [2, 1, 0] rfl)
set_option maxRecDepth 100000 in
set_option maxHeartbeats 4000000 in
theorem w_Yard_digest_L6 {p : Program} {l : Launch} {e : Env} {R : Room} {s : State} {m : MethodId} {args : Array Value} {below : List Frame} {meth : Method} {c : Code} {dC : Nat → ClassId} {dI : Nat → Nat → Nat} {cs : Nat → ClassId} {ad : Nat → Nat} {A : Nat → Prop} {D0 : Nat → Nat} {S' : SS} {r : Int64} (F : Fx p s m args meth c cX11_digest 4 RX11 (some .long) dC dI cs A) (hR1 : 3 ≤ R.frames) (hR2 : 68 ≤ R.locals) : ∀ (n : Nat) (x1 : Int64) (x3 : Int32) (S : SS), f_Yard_digest_L6 n x1 x3 S = some (r, S') → AW p l e R s m args below meth c dC dI cs ad A D0 (some (.long r)) S' 4 6 [(0, .ref (ad 61)), (1, .long x1), (3, .int x3)] [] S := by
  have hx := F.1.1
  have hb := F.1.2.1
  intro n
  induction n with
  | zero => intro x1 x3 S h; cases h
  | succ n ih =>
    intro x1 x3 S h H locs ls w hl
    rw [f_Yard_digest_L6] at h
    refine lv_iload_n (pc := 6) hx hb dX11_digest_6 rfl (lv_at hl 2 rfl) ?_
    refine lv_aload_n (pc := 7) hx hb dX11_digest_7 rfl (lv_at hl 0 rfl) ?_
    refine s_getR (pc := 8) F w 63 ds_61 (j := 1) vc_X11 vi_X11 rfl (by decide) kf_X11_19 dX11_digest_8 ?_
    refine s_getI (pc := 11) F w ds_63 (j := 1) vc_X8 vi_X8 rfl (by decide) kf_X11_140 dX11_digest_11 ?_
    refine lv_icmp_ge (pc := 14) (tgt := 30) hx hb dX11_digest_14 (by decide) (fun q => ?_) (fun q => ?_)
    · have h := ite_t q h
      refine lv_iconst (pc := 30) (v := 0) hx hb dX11_digest_30 (by decide) ?_
      refine lv_istore_n (pc := 31) (lv' := [(3, .int (0 : Int32)), (0, .ref (ad 61)), (1, .long x1)]) hx hb dX11_digest_31 rfl hl (by decide) rfl (fun ls hl => ?_)
      exact w_Yard_digest_L32 F (Nat.le_trans (by decide) hR1) (Nat.le_trans (by decide) hR2) _ _ _ _ h _ _ _ w (lv_sub hl [1, 2, 0] rfl)
    · have h := ite_f q h
      refine lv_aload_n (pc := 17) hx hb dX11_digest_17 rfl (lv_at hl 0 rfl) ?_
      refine lv_lload_n (pc := 18) hx hb dX11_digest_18 rfl (lv_at hl 1 rfl) ?_
      refine lv_iload_n (pc := 19) hx hb dX11_digest_19 rfl (lv_at hl 2 rfl) ?_
      obtain ⟨r9, S8, hc, h⟩ := bndl_t h
      refine s_cvl (pc := 20) [.long x1, .int x3] (fun ad => [.ref (ad 61), .long x1, .int x3]) F w (m_Yard_digestThing _ _ _ _ _ hc) rfl rfl hl.1 ds_61 vc_X11 rfl ok_X11_digestThing rfl kc_X11_digestThing kl_X11_404 ki_X11_digestThing kv_X11_digestThing kn_X11 ⟨Nat.le_trans (by decide) hR1, Nat.le_trans (by decide) hR2⟩ ⟨Nat.zero_le _, Nat.zero_le _⟩ (Nat.le_of_ble_eq_true rfl) dX11_digest_20 (fun H locs w => ?_)
      refine lv_lstore_n (pc := 23) (lv' := [(1, .long r9), (0, .ref (ad 61)), (3, .int x3)]) hx hb dX11_digest_23 rfl hl (by decide) rfl (fun ls hl => ?_)
      refine s_nm h (fun z10 ez10 h => ?_)
      refine lv_iinc (pc := 24) (v := z10) (lv' := [(3, .int z10), (1, .long r9), (0, .ref (ad 61))]) hx hb dX11_digest_24 hl (k := 2) rfl (by rw [ez10]; rfl) (by decide) rfl (fun ls hl => ?_)
      refine lv_goto (pc := 27) (tgt := 6) hx hb dX11_digest_27 (by decide) ?_
      exact ih _ _ _ h _ _ _ w (lv_sub hl [2, 1, 0] rfl)
set_option maxRecDepth 100000 in
set_option maxHeartbeats 4000000 in
theorem m_Yard_digest  (S S' : SS) (r : Int64) (h : f_Yard_digest  S = some (r, S')) : MT yX11_digest cX11_digest 4 (some .long) 3 68 (fun ad => [.ref (ad 61)]) S (some (.long r)) S' := by
  refine MT.of RX11 (fun ad => [(0, .ref (ad 61))]) (by decide) rfl (fun _ => Nat.le_of_ble_eq_true rfl) (fun _ => rfl) ?_
  intro p l e R s m args below meth c dC dI cs ad A hR1 hR2 F H locs ls w hl
  have hx := F.1.1
  have hb := F.1.2.1
  rw [f_Yard_digest] at h
  refine lv_ldc2 (pc := 0) (v := 7) hx hb F.1.2.2.2.1 (F.1.2.2.2.2 _ kk_X11_402) dX11_digest_0 ?_
  refine lv_lstore_n (pc := 3) (lv' := [(1, .long (7 : Int64)), (0, .ref (ad 61))]) hx hb dX11_digest_3 rfl hl (by decide) rfl (fun ls hl => ?_)
  refine lv_iconst (pc := 4) (v := 0) hx hb dX11_digest_4 (by decide) ?_
  refine lv_istore_n (pc := 5) (lv' := [(3, .int (0 : Int32)), (1, .long (7 : Int64)), (0, .ref (ad 61))]) hx hb dX11_digest_5 rfl hl (by decide) rfl (fun ls hl => ?_)
  exact w_Yard_digest_L6 F (Nat.le_trans (by decide) hR1) (Nat.le_trans (by decide) hR2) _ _ _ _ h _ _ _ w (lv_sub hl [2, 1, 0] rfl)
def f_History_written (a1 : Int32) (a2 : Int32) (S : SS) : Option (Int32 × SS) :=
  if a1 < 0 then
    some ((-4 : Int32), S)
  else
    if a1 < (S.1 64 5) then
      nm ((((S.1 64 4) + (40 : Int32)) - a1) - (((S.1 64 4) + (40 : Int32)) - a1) / (40 : Int32) * (40 : Int32)) (fun z1 =>
      if a2 = 0 then
        grd (inb z1 40) (
        some (S.1 89 z1.toNatClampNeg, S))
      else
        grd (inb z1 40) (
        some (S.1 90 z1.toNatClampNeg, S)))
    else
      some ((-4 : Int32), S)
theorem dX1_written_0 : decode cX1_written 0 = .ok (.iload_n 1, 1) := dc_27 (by decide +kernel)
theorem dX1_written_1 : decode cX1_written 1 = .ok (.ifCond .lt 11, 3) := dc_155 (a := 0) (b := 11) (by decide +kernel) (by decide)
theorem dX1_written_4 : decode cX1_written 4 = .ok (.iload_n 1, 1) := dc_27 (by decide +kernel)
theorem dX1_written_5 : decode cX1_written 5 = .ok (.aload_n 0, 1) := dc_42 (by decide +kernel)
theorem dX1_written_6 : decode cX1_written 6 = .ok (.getfield 32, 3) := dc_180 (a := 0) (b := 32) (by decide +kernel)
theorem dX1_written_9 : decode cX1_written 9 = .ok (.if_icmp .lt 6, 3) := dc_161 (a := 0) (b := 6) (by decide +kernel) (by decide)
theorem dX1_written_12 : decode cX1_written 12 = .ok (.bipush (-4), 2) := dc_16 (a := 252) (by decide +kernel) (by decide)
theorem dX1_written_14 : decode cX1_written 14 = .ok (.ireturn, 1) := dc_172 (by decide +kernel)
theorem dX1_written_15 : decode cX1_written 15 = .ok (.aload_n 0, 1) := dc_42 (by decide +kernel)
theorem dX1_written_16 : decode cX1_written 16 = .ok (.getfield 29, 3) := dc_180 (a := 0) (b := 29) (by decide +kernel)
theorem dX1_written_19 : decode cX1_written 19 = .ok (.bipush 40, 2) := dc_16 (a := 40) (by decide +kernel) (by decide)
theorem dX1_written_21 : decode cX1_written 21 = .ok (.iadd, 1) := dc_96 (by decide +kernel)
theorem dX1_written_22 : decode cX1_written 22 = .ok (.iload_n 1, 1) := dc_27 (by decide +kernel)
theorem dX1_written_23 : decode cX1_written 23 = .ok (.isub, 1) := dc_100 (by decide +kernel)
theorem dX1_written_24 : decode cX1_written 24 = .ok (.bipush 40, 2) := dc_16 (a := 40) (by decide +kernel) (by decide)
theorem dX1_written_26 : decode cX1_written 26 = .ok (.irem, 1) := dc_112 (by decide +kernel)
theorem dX1_written_27 : decode cX1_written 27 = .ok (.istore_n 3, 1) := dc_62 (by decide +kernel)
theorem dX1_written_28 : decode cX1_written 28 = .ok (.iload_n 2, 1) := dc_28 (by decide +kernel)
theorem dX1_written_29 : decode cX1_written 29 = .ok (.ifCond .ne 12, 3) := dc_154 (a := 0) (b := 12) (by decide +kernel) (by decide)
theorem dX1_written_32 : decode cX1_written 32 = .ok (.aload_n 0, 1) := dc_42 (by decide +kernel)
theorem dX1_written_33 : decode cX1_written 33 = .ok (.getfield 18, 3) := dc_180 (a := 0) (b := 18) (by decide +kernel)
theorem dX1_written_36 : decode cX1_written 36 = .ok (.iload_n 3, 1) := dc_29 (by decide +kernel)
theorem dX1_written_37 : decode cX1_written 37 = .ok (.iaload, 1) := dc_46 (by decide +kernel)
theorem dX1_written_38 : decode cX1_written 38 = .ok (.goto 9, 3) := dc_167 (a := 0) (b := 9) (by decide +kernel) (by decide)
theorem dX1_written_41 : decode cX1_written 41 = .ok (.aload_n 0, 1) := dc_42 (by decide +kernel)
theorem dX1_written_42 : decode cX1_written 42 = .ok (.getfield 22, 3) := dc_180 (a := 0) (b := 22) (by decide +kernel)
theorem dX1_written_45 : decode cX1_written 45 = .ok (.iload_n 3, 1) := dc_29 (by decide +kernel)
theorem dX1_written_46 : decode cX1_written 46 = .ok (.iaload, 1) := dc_46 (by decide +kernel)
theorem dX1_written_47 : decode cX1_written 47 = .ok (.ireturn, 1) := dc_172 (by decide +kernel)
set_option maxRecDepth 100000 in
set_option maxHeartbeats 4000000 in
theorem m_History_written (a1 : Int32) (a2 : Int32) (S S' : SS) (r : Int32) (h : f_History_written a1 a2 S = some (r, S')) : MT yX1_written cX1_written 4 (some .int) 0 0 (fun ad => [.ref (ad 64), .int a1, .int a2]) S (some (.int r)) S' := by
  refine MT.of RX1 (fun ad => [(0, .ref (ad 64)), (1, .int a1), (2, .int a2)]) (by decide) rfl (fun _ => Nat.le_of_ble_eq_true rfl) (fun _ => rfl) ?_
  intro p l e R s m args below meth c dC dI cs ad A hR1 hR2 F H locs ls w hl
  have hx := F.1.1
  have hb := F.1.2.1
  rw [f_History_written] at h
  refine lv_iload_n (pc := 0) hx hb dX1_written_0 rfl (lv_at hl 1 rfl) ?_
  refine lv_if_lt (pc := 1) (tgt := 12) hx hb dX1_written_1 (by decide) (fun q => ?_) (fun q => ?_)
  · have h := ite_t q h
    refine lv_bipush (pc := 12) (v := -4) hx hb dX1_written_12 (by decide) ?_
    exact s_iret F w h dX1_written_14
  · have h := ite_f q h
    refine lv_iload_n (pc := 4) hx hb dX1_written_4 rfl (lv_at hl 1 rfl) ?_
    refine lv_aload_n (pc := 5) hx hb dX1_written_5 rfl (lv_at hl 0 rfl) ?_
    refine s_getI (pc := 6) F w ds_64 (j := 5) vc_X1 vi_X1 rfl (by decide) kf_X1_32 dX1_written_6 ?_
    refine lv_icmp_lt (pc := 9) (tgt := 15) hx hb dX1_written_9 (by decide) (fun q => ?_) (fun q => ?_)
    · have h := ite_t q h
      refine lv_aload_n (pc := 15) hx hb dX1_written_15 rfl (lv_at hl 0 rfl) ?_
      refine s_getI (pc := 16) F w ds_64 (j := 4) vc_X1 vi_X1 rfl (by decide) kf_X1_29 dX1_written_16 ?_
      refine lv_bipush (pc := 19) (v := 40) hx hb dX1_written_19 (by decide) ?_
      refine lv_iadd (pc := 21) hx hb dX1_written_21 ?_
      refine lv_iload_n (pc := 22) hx hb dX1_written_22 rfl (lv_at hl 1 rfl) ?_
      refine lv_isub (pc := 23) hx hb dX1_written_23 ?_
      refine lv_bipush (pc := 24) (v := 40) hx hb dX1_written_24 (by decide) ?_
      refine lv_irem (pc := 26) hx hb dX1_written_26 (by decide) ?_
      refine s_nm h (fun z1 ez1 h => ?_)
      rw [← ez1]
      refine lv_istore_n (pc := 27) (lv' := [(3, .int z1), (0, .ref (ad 64)), (1, .int a1), (2, .int a2)]) hx hb dX1_written_27 rfl hl (by decide) rfl (fun ls hl => ?_)
      refine lv_iload_n (pc := 28) hx hb dX1_written_28 rfl (lv_at hl 3 rfl) ?_
      refine lv_if_ne (pc := 29) (tgt := 41) hx hb dX1_written_29 (by decide) (fun q => ?_) (fun q => ?_)
      · have h := ite_f q h
        refine lv_aload_n (pc := 41) hx hb dX1_written_41 rfl (lv_at hl 1 rfl) ?_
        refine s_getR (pc := 42) F w 90 ds_64 (j := 2) vc_X1 vi_X1 rfl (by decide) kf_X1_22 dX1_written_42 ?_
        refine lv_iload_n (pc := 45) hx hb dX1_written_45 rfl (lv_at hl 0 rfl) ?_
        refine s_iald (pc := 46) F w ds_90 h dX1_written_46 (fun h => ?_)
        exact s_iret F w h dX1_written_47
      · have h := ite_t q h
        refine lv_aload_n (pc := 32) hx hb dX1_written_32 rfl (lv_at hl 1 rfl) ?_
        refine s_getR (pc := 33) F w 89 ds_64 (j := 1) vc_X1 vi_X1 rfl (by decide) kf_X1_18 dX1_written_33 ?_
        refine lv_iload_n (pc := 36) hx hb dX1_written_36 rfl (lv_at hl 0 rfl) ?_
        refine s_iald (pc := 37) F w ds_89 h dX1_written_37 (fun h => ?_)
        refine lv_goto (pc := 38) (tgt := 47) hx hb dX1_written_38 (by decide) ?_
        exact s_iret F w h dX1_written_47
    · have h := ite_f q h
      refine lv_bipush (pc := 12) (v := -4) hx hb dX1_written_12 (by decide) ?_
      exact s_iret F w h dX1_written_14
def f_Yard_log (a1 : Int32) (a2 : Int32) (S : SS) : Option (Int32 × SS) :=
  if a1 < 0 then
    some ((-1 : Int32), S)
  else
    bnd (f_Yard_isNot a2 (0 : Int32) (1 : Int32) S) (fun r2 S1 =>
    if r2 = 0 then
      bnd (f_History_written a1 a2 S1) (fun r4 S3 =>
      some (r4, S3))
    else
      some ((-1 : Int32), S1))
theorem dX11_log_0 : decode cX11_log 0 = .ok (.iload_n 1, 1) := dc_27 (by decide +kernel)
theorem dX11_log_1 : decode cX11_log 1 = .ok (.ifCond .lt 12, 3) := dc_155 (a := 0) (b := 12) (by decide +kernel) (by decide)
theorem dX11_log_4 : decode cX11_log 4 = .ok (.iload_n 2, 1) := dc_28 (by decide +kernel)
theorem dX11_log_5 : decode cX11_log 5 = .ok (.iconst 0, 1) := dc_3 (by decide +kernel)
theorem dX11_log_6 : decode cX11_log 6 = .ok (.iconst 1, 1) := dc_4 (by decide +kernel)
theorem dX11_log_7 : decode cX11_log 7 = .ok (.invokestatic 108, 3) := dc_184 (a := 0) (b := 108) (by decide +kernel)
theorem dX11_log_10 : decode cX11_log 10 = .ok (.ifCond .eq 5, 3) := dc_153 (a := 0) (b := 5) (by decide +kernel) (by decide)
theorem dX11_log_13 : decode cX11_log 13 = .ok (.iconst (-1), 1) := dc_2 (by decide +kernel)
theorem dX11_log_14 : decode cX11_log 14 = .ok (.ireturn, 1) := dc_172 (by decide +kernel)
theorem dX11_log_15 : decode cX11_log 15 = .ok (.aload_n 0, 1) := dc_42 (by decide +kernel)
theorem dX11_log_16 : decode cX11_log 16 = .ok (.getfield 26, 3) := dc_180 (a := 0) (b := 26) (by decide +kernel)
theorem dX11_log_19 : decode cX11_log 19 = .ok (.iload_n 1, 1) := dc_27 (by decide +kernel)
theorem dX11_log_20 : decode cX11_log 20 = .ok (.iload_n 2, 1) := dc_28 (by decide +kernel)
theorem dX11_log_21 : decode cX11_log 21 = .ok (.invokevirtual 413, 3) := dc_182 (a := 1) (b := 157) (by decide +kernel)
theorem dX11_log_24 : decode cX11_log 24 = .ok (.ireturn, 1) := dc_172 (by decide +kernel)
set_option maxRecDepth 100000 in
set_option maxHeartbeats 4000000 in
theorem m_Yard_log (a1 : Int32) (a2 : Int32) (S S' : SS) (r : Int32) (h : f_Yard_log a1 a2 S = some (r, S')) : MT yX11_log cX11_log 3 (some .int) 1 23 (fun ad => [.ref (ad 61), .int a1, .int a2]) S (some (.int r)) S' := by
  refine MT.of RX11 (fun ad => [(0, .ref (ad 61)), (1, .int a1), (2, .int a2)]) (by decide) rfl (fun _ => Nat.le_of_ble_eq_true rfl) (fun _ => rfl) ?_
  intro p l e R s m args below meth c dC dI cs ad A hR1 hR2 F H locs ls w hl
  have hx := F.1.1
  have hb := F.1.2.1
  rw [f_Yard_log] at h
  refine lv_iload_n (pc := 0) hx hb dX11_log_0 rfl (lv_at hl 1 rfl) ?_
  refine lv_if_lt (pc := 1) (tgt := 13) hx hb dX11_log_1 (by decide) (fun q => ?_) (fun q => ?_)
  · have h := ite_t q h
    refine lv_iconst (pc := 13) (v := -1) hx hb dX11_log_13 (by decide) ?_
    exact s_iret F w h dX11_log_14
  · have h := ite_f q h
    refine lv_iload_n (pc := 4) hx hb dX11_log_4 rfl (lv_at hl 2 rfl) ?_
    refine lv_iconst (pc := 5) (v := 0) hx hb dX11_log_5 (by decide) ?_
    refine lv_iconst (pc := 6) (v := 1) hx hb dX11_log_6 (by decide) ?_
    obtain ⟨r2, S1, hc, h⟩ := bnd_t h
    refine s_csi (pc := 7) [.int a2, .int (0 : Int32), .int (1 : Int32)] (fun ad => [.int a2, .int (0 : Int32), .int (1 : Int32)]) F w (m_Yard_isNot _ _ _ _ _ _ hc) rfl rfl hl.1 ok_X11_isNot rfl kc_X11_isNot kl_X11_108 ks_X11_isNot kn_X11 ⟨Nat.le_trans (by decide) hR1, Nat.le_trans (by decide) hR2⟩ ⟨Nat.zero_le _, Nat.zero_le _⟩ (Nat.le_of_ble_eq_true rfl) dX11_log_7 (fun H locs w => ?_)
    refine lv_if_eq (pc := 10) (tgt := 15) hx hb dX11_log_10 (by decide) (fun q => ?_) (fun q => ?_)
    · have h := ite_t q h
      refine lv_aload_n (pc := 15) hx hb dX11_log_15 rfl (lv_at hl 0 rfl) ?_
      refine s_getR (pc := 16) F w 64 ds_61 (j := 2) vc_X11 vi_X11 rfl (by decide) kf_X11_26 dX11_log_16 ?_
      refine lv_iload_n (pc := 19) hx hb dX11_log_19 rfl (lv_at hl 1 rfl) ?_
      refine lv_iload_n (pc := 20) hx hb dX11_log_20 rfl (lv_at hl 2 rfl) ?_
      obtain ⟨r4, S3, hc, h⟩ := bnd_t h
      refine s_cvi (pc := 21) [.int a1, .int a2] (fun ad => [.ref (ad 64), .int a1, .int a2]) F w (m_History_written _ _ _ _ _ hc) rfl rfl hl.1 ds_64 vc_X1 rfl ok_X1_written rfl kc_X1_written kl_X11_413 ki_X1_written kv_X1_written kn_X1 ⟨Nat.le_trans (by decide) hR1, Nat.le_trans (by decide) hR2⟩ ⟨Nat.zero_le _, Nat.zero_le _⟩ (Nat.le_of_ble_eq_true rfl) dX11_log_21 (fun H locs w => ?_)
      exact s_iret F w h dX11_log_24
    · have h := ite_f q h
      refine lv_iconst (pc := 13) (v := -1) hx hb dX11_log_13 (by decide) ?_
      exact s_iret F w h dX11_log_14
def f_Stacks_height_start (a1 : Int32) (S : SS) : Option (Int32 × SS) :=
  if a1 < 0 then
    some ((0 : Int32), S)
  else
    if (4 : Int32) ≤ a1 then
      some ((0 : Int32), S)
    else
      grd (inb a1 4) (
      some (S.1 123 a1.toNatClampNeg, S))
theorem dX7_height_0 : decode cX7_height 0 = .ok (.iload_n 1, 1) := dc_27 (by decide +kernel)
theorem dX7_height_1 : decode cX7_height 1 = .ok (.ifCond .lt 17, 3) := dc_155 (a := 0) (b := 17) (by decide +kernel) (by decide)
theorem dX7_height_4 : decode cX7_height 4 = .ok (.iload_n 1, 1) := dc_27 (by decide +kernel)
theorem dX7_height_5 : decode cX7_height 5 = .ok (.iconst 4, 1) := dc_7 (by decide +kernel)
theorem dX7_height_6 : decode cX7_height 6 = .ok (.if_icmp .ge 12, 3) := dc_162 (a := 0) (b := 12) (by decide +kernel) (by decide)
theorem dX7_height_9 : decode cX7_height 9 = .ok (.aload_n 0, 1) := dc_42 (by decide +kernel)
theorem dX7_height_10 : decode cX7_height 10 = .ok (.getfield 15, 3) := dc_180 (a := 0) (b := 15) (by decide +kernel)
theorem dX7_height_13 : decode cX7_height 13 = .ok (.iload_n 1, 1) := dc_27 (by decide +kernel)
theorem dX7_height_14 : decode cX7_height 14 = .ok (.iaload, 1) := dc_46 (by decide +kernel)
theorem dX7_height_15 : decode cX7_height 15 = .ok (.goto 4, 3) := dc_167 (a := 0) (b := 4) (by decide +kernel) (by decide)
theorem dX7_height_18 : decode cX7_height 18 = .ok (.iconst 0, 1) := dc_3 (by decide +kernel)
theorem dX7_height_19 : decode cX7_height 19 = .ok (.ireturn, 1) := dc_172 (by decide +kernel)
set_option maxRecDepth 100000 in
set_option maxHeartbeats 4000000 in
theorem m_Stacks_height_start (a1 : Int32) (S S' : SS) (r : Int32) (h : f_Stacks_height_start a1 S = some (r, S')) : MT yX7_height cX7_height 2 (some .int) 0 0 (fun ad => [.ref (ad 72), .int a1]) S (some (.int r)) S' := by
  refine MT.of RX7 (fun ad => [(0, .ref (ad 72)), (1, .int a1)]) (by decide) rfl (fun _ => Nat.le_of_ble_eq_true rfl) (fun _ => rfl) ?_
  intro p l e R s m args below meth c dC dI cs ad A hR1 hR2 F H locs ls w hl
  have hx := F.1.1
  have hb := F.1.2.1
  rw [f_Stacks_height_start] at h
  refine lv_iload_n (pc := 0) hx hb dX7_height_0 rfl (lv_at hl 1 rfl) ?_
  refine lv_if_lt (pc := 1) (tgt := 18) hx hb dX7_height_1 (by decide) (fun q => ?_) (fun q => ?_)
  · have h := ite_t q h
    refine lv_iconst (pc := 18) (v := 0) hx hb dX7_height_18 (by decide) ?_
    exact s_iret F w h dX7_height_19
  · have h := ite_f q h
    refine lv_iload_n (pc := 4) hx hb dX7_height_4 rfl (lv_at hl 1 rfl) ?_
    refine lv_iconst (pc := 5) (v := 4) hx hb dX7_height_5 (by decide) ?_
    refine lv_icmp_ge (pc := 6) (tgt := 18) hx hb dX7_height_6 (by decide) (fun q => ?_) (fun q => ?_)
    · have h := ite_t q h
      refine lv_iconst (pc := 18) (v := 0) hx hb dX7_height_18 (by decide) ?_
      exact s_iret F w h dX7_height_19
    · have h := ite_f q h
      refine lv_aload_n (pc := 9) hx hb dX7_height_9 rfl (lv_at hl 0 rfl) ?_
      refine s_getR (pc := 10) F w 123 ds_72 (j := 1) vc_X7 vi_X7 rfl (by decide) kf_X7_15 dX7_height_10 ?_
      refine lv_iload_n (pc := 13) hx hb dX7_height_13 rfl (lv_at hl 1 rfl) ?_
      refine s_iald (pc := 14) F w ds_123 h dX7_height_14 (fun h => ?_)
      refine lv_goto (pc := 15) (tgt := 19) hx hb dX7_height_15 (by decide) ?_
      exact s_iret F w h dX7_height_19
def f_Stacks_height_goal (a1 : Int32) (S : SS) : Option (Int32 × SS) :=
  if a1 < 0 then
    some ((0 : Int32), S)
  else
    if (4 : Int32) ≤ a1 then
      some ((0 : Int32), S)
    else
      grd (inb a1 4) (
      some (S.1 125 a1.toNatClampNeg, S))
set_option maxRecDepth 100000 in
set_option maxHeartbeats 4000000 in
theorem m_Stacks_height_goal (a1 : Int32) (S S' : SS) (r : Int32) (h : f_Stacks_height_goal a1 S = some (r, S')) : MT yX7_height cX7_height 2 (some .int) 0 0 (fun ad => [.ref (ad 73), .int a1]) S (some (.int r)) S' := by
  refine MT.of RX7 (fun ad => [(0, .ref (ad 73)), (1, .int a1)]) (by decide) rfl (fun _ => Nat.le_of_ble_eq_true rfl) (fun _ => rfl) ?_
  intro p l e R s m args below meth c dC dI cs ad A hR1 hR2 F H locs ls w hl
  have hx := F.1.1
  have hb := F.1.2.1
  rw [f_Stacks_height_goal] at h
  refine lv_iload_n (pc := 0) hx hb dX7_height_0 rfl (lv_at hl 1 rfl) ?_
  refine lv_if_lt (pc := 1) (tgt := 18) hx hb dX7_height_1 (by decide) (fun q => ?_) (fun q => ?_)
  · have h := ite_t q h
    refine lv_iconst (pc := 18) (v := 0) hx hb dX7_height_18 (by decide) ?_
    exact s_iret F w h dX7_height_19
  · have h := ite_f q h
    refine lv_iload_n (pc := 4) hx hb dX7_height_4 rfl (lv_at hl 1 rfl) ?_
    refine lv_iconst (pc := 5) (v := 4) hx hb dX7_height_5 (by decide) ?_
    refine lv_icmp_ge (pc := 6) (tgt := 18) hx hb dX7_height_6 (by decide) (fun q => ?_) (fun q => ?_)
    · have h := ite_t q h
      refine lv_iconst (pc := 18) (v := 0) hx hb dX7_height_18 (by decide) ?_
      exact s_iret F w h dX7_height_19
    · have h := ite_f q h
      refine lv_aload_n (pc := 9) hx hb dX7_height_9 rfl (lv_at hl 0 rfl) ?_
      refine s_getR (pc := 10) F w 125 ds_73 (j := 1) vc_X7 vi_X7 rfl (by decide) kf_X7_15 dX7_height_10 ?_
      refine lv_iload_n (pc := 13) hx hb dX7_height_13 rfl (lv_at hl 1 rfl) ?_
      refine s_iald (pc := 14) F w ds_125 h dX7_height_14 (fun h => ?_)
      refine lv_goto (pc := 15) (tgt := 19) hx hb dX7_height_15 (by decide) ?_
      exact s_iret F w h dX7_height_19
def f_Plans_setRoom (a1 : Int32) (a2 : Int32) (S : SS) : Option (Int32 × SS) :=
  if a1 < 0 then
    some ((-1 : Int32), S)
  else
    if (4 : Int32) ≤ a1 then
      some ((-1 : Int32), S)
    else
      bnd (f_Stacks_height_start a1 S) (fun r2 S1 =>
      if a2 < r2 then
        some ((-1 : Int32), S1)
      else
        bnd (f_Stacks_height_goal a1 S1) (fun r4 S3 =>
        if r4 ≤ a2 then
          grd (inb a1 4) (
          nm (S3.1 106 a1.toNatClampNeg) (fun z5 =>
          grd (inb a1 4) (wr S3 106 a1.toNatClampNeg a2 (fun S6 =>
          some (z5, S6)))))
        else
          some ((-1 : Int32), S3)))
theorem dX3_setRoom_0 : decode cX3_setRoom 0 = .ok (.iload_n 1, 1) := dc_27 (by decide +kernel)
theorem dX3_setRoom_1 : decode cX3_setRoom 1 = .ok (.ifCond .lt 32, 3) := dc_155 (a := 0) (b := 32) (by decide +kernel) (by decide)
theorem dX3_setRoom_4 : decode cX3_setRoom 4 = .ok (.iload_n 1, 1) := dc_27 (by decide +kernel)
theorem dX3_setRoom_5 : decode cX3_setRoom 5 = .ok (.iconst 4, 1) := dc_7 (by decide +kernel)
theorem dX3_setRoom_6 : decode cX3_setRoom 6 = .ok (.if_icmp .ge 27, 3) := dc_162 (a := 0) (b := 27) (by decide +kernel) (by decide)
theorem dX3_setRoom_9 : decode cX3_setRoom 9 = .ok (.aload_n 0, 1) := dc_42 (by decide +kernel)
theorem dX3_setRoom_10 : decode cX3_setRoom 10 = .ok (.getfield 12, 3) := dc_180 (a := 0) (b := 12) (by decide +kernel)
theorem dX3_setRoom_13 : decode cX3_setRoom 13 = .ok (.iload_n 1, 1) := dc_27 (by decide +kernel)
theorem dX3_setRoom_14 : decode cX3_setRoom 14 = .ok (.invokevirtual 54, 3) := dc_182 (a := 0) (b := 54) (by decide +kernel)
theorem dX3_setRoom_17 : decode cX3_setRoom 17 = .ok (.iload_n 2, 1) := dc_28 (by decide +kernel)
theorem dX3_setRoom_18 : decode cX3_setRoom 18 = .ok (.if_icmp .gt 15, 3) := dc_163 (a := 0) (b := 15) (by decide +kernel) (by decide)
theorem dX3_setRoom_21 : decode cX3_setRoom 21 = .ok (.aload_n 0, 1) := dc_42 (by decide +kernel)
theorem dX3_setRoom_22 : decode cX3_setRoom 22 = .ok (.getfield 18, 3) := dc_180 (a := 0) (b := 18) (by decide +kernel)
theorem dX3_setRoom_25 : decode cX3_setRoom 25 = .ok (.iload_n 1, 1) := dc_27 (by decide +kernel)
theorem dX3_setRoom_26 : decode cX3_setRoom 26 = .ok (.invokevirtual 54, 3) := dc_182 (a := 0) (b := 54) (by decide +kernel)
theorem dX3_setRoom_29 : decode cX3_setRoom 29 = .ok (.iload_n 2, 1) := dc_28 (by decide +kernel)
theorem dX3_setRoom_30 : decode cX3_setRoom 30 = .ok (.if_icmp .le 5, 3) := dc_164 (a := 0) (b := 5) (by decide +kernel) (by decide)
theorem dX3_setRoom_33 : decode cX3_setRoom 33 = .ok (.iconst (-1), 1) := dc_2 (by decide +kernel)
theorem dX3_setRoom_34 : decode cX3_setRoom 34 = .ok (.ireturn, 1) := dc_172 (by decide +kernel)
theorem dX3_setRoom_35 : decode cX3_setRoom 35 = .ok (.aload_n 0, 1) := dc_42 (by decide +kernel)
theorem dX3_setRoom_36 : decode cX3_setRoom 36 = .ok (.getfield 24, 3) := dc_180 (a := 0) (b := 24) (by decide +kernel)
theorem dX3_setRoom_39 : decode cX3_setRoom 39 = .ok (.iload_n 1, 1) := dc_27 (by decide +kernel)
theorem dX3_setRoom_40 : decode cX3_setRoom 40 = .ok (.iaload, 1) := dc_46 (by decide +kernel)
theorem dX3_setRoom_41 : decode cX3_setRoom 41 = .ok (.istore_n 3, 1) := dc_62 (by decide +kernel)
theorem dX3_setRoom_42 : decode cX3_setRoom 42 = .ok (.aload_n 0, 1) := dc_42 (by decide +kernel)
theorem dX3_setRoom_43 : decode cX3_setRoom 43 = .ok (.getfield 24, 3) := dc_180 (a := 0) (b := 24) (by decide +kernel)
theorem dX3_setRoom_46 : decode cX3_setRoom 46 = .ok (.iload_n 1, 1) := dc_27 (by decide +kernel)
theorem dX3_setRoom_47 : decode cX3_setRoom 47 = .ok (.iload_n 2, 1) := dc_28 (by decide +kernel)
theorem dX3_setRoom_48 : decode cX3_setRoom 48 = .ok (.iastore, 1) := dc_79 (by decide +kernel)
theorem dX3_setRoom_49 : decode cX3_setRoom 49 = .ok (.iload_n 3, 1) := dc_29 (by decide +kernel)
theorem dX3_setRoom_50 : decode cX3_setRoom 50 = .ok (.ireturn, 1) := dc_172 (by decide +kernel)
set_option maxRecDepth 100000 in
set_option maxHeartbeats 4000000 in
theorem m_Plans_setRoom (a1 : Int32) (a2 : Int32) (S S' : SS) (r : Int32) (h : f_Plans_setRoom a1 a2 S = some (r, S')) : MT yX3_setRoom cX3_setRoom 4 (some .int) 1 21 (fun ad => [.ref (ad 70), .int a1, .int a2]) S (some (.int r)) S' := by
  refine MT.of RX3 (fun ad => [(0, .ref (ad 70)), (1, .int a1), (2, .int a2)]) (by decide) rfl (fun _ => Nat.le_of_ble_eq_true rfl) (fun _ => rfl) ?_
  intro p l e R s m args below meth c dC dI cs ad A hR1 hR2 F H locs ls w hl
  have hx := F.1.1
  have hb := F.1.2.1
  rw [f_Plans_setRoom] at h
  refine lv_iload_n (pc := 0) hx hb dX3_setRoom_0 rfl (lv_at hl 1 rfl) ?_
  refine lv_if_lt (pc := 1) (tgt := 33) hx hb dX3_setRoom_1 (by decide) (fun q => ?_) (fun q => ?_)
  · have h := ite_t q h
    refine lv_iconst (pc := 33) (v := -1) hx hb dX3_setRoom_33 (by decide) ?_
    exact s_iret F w h dX3_setRoom_34
  · have h := ite_f q h
    refine lv_iload_n (pc := 4) hx hb dX3_setRoom_4 rfl (lv_at hl 1 rfl) ?_
    refine lv_iconst (pc := 5) (v := 4) hx hb dX3_setRoom_5 (by decide) ?_
    refine lv_icmp_ge (pc := 6) (tgt := 33) hx hb dX3_setRoom_6 (by decide) (fun q => ?_) (fun q => ?_)
    · have h := ite_t q h
      refine lv_iconst (pc := 33) (v := -1) hx hb dX3_setRoom_33 (by decide) ?_
      exact s_iret F w h dX3_setRoom_34
    · have h := ite_f q h
      refine lv_aload_n (pc := 9) hx hb dX3_setRoom_9 rfl (lv_at hl 0 rfl) ?_
      refine s_getR (pc := 10) F w 72 ds_70 (j := 0) vc_X3 vi_X3 rfl (by decide) kf_X3_12 dX3_setRoom_10 ?_
      refine lv_iload_n (pc := 13) hx hb dX3_setRoom_13 rfl (lv_at hl 1 rfl) ?_
      obtain ⟨r2, S1, hc, h⟩ := bnd_t h
      refine s_cvi (pc := 14) [.int a1] (fun ad => [.ref (ad 72), .int a1]) F w (m_Stacks_height_start _ _ _ _ hc) rfl rfl hl.1 ds_72 vc_X7 rfl ok_X7_height rfl kc_X7_height kl_X3_54 ki_X7_height kv_X7_height kn_X7 ⟨Nat.le_trans (by decide) hR1, Nat.le_trans (by decide) hR2⟩ ⟨Nat.zero_le _, Nat.zero_le _⟩ (Nat.le_of_ble_eq_true rfl) dX3_setRoom_14 (fun H locs w => ?_)
      refine lv_iload_n (pc := 17) hx hb dX3_setRoom_17 rfl (lv_at hl 2 rfl) ?_
      refine lv_icmp_gt (pc := 18) (tgt := 33) hx hb dX3_setRoom_18 (by decide) (fun q => ?_) (fun q => ?_)
      · have h := ite_t q h
        refine lv_iconst (pc := 33) (v := -1) hx hb dX3_setRoom_33 (by decide) ?_
        exact s_iret F w h dX3_setRoom_34
      · have h := ite_f q h
        refine lv_aload_n (pc := 21) hx hb dX3_setRoom_21 rfl (lv_at hl 0 rfl) ?_
        refine s_getR (pc := 22) F w 73 ds_70 (j := 1) vc_X3 vi_X3 rfl (by decide) kf_X3_18 dX3_setRoom_22 ?_
        refine lv_iload_n (pc := 25) hx hb dX3_setRoom_25 rfl (lv_at hl 1 rfl) ?_
        obtain ⟨r4, S3, hc, h⟩ := bnd_t h
        refine s_cvi (pc := 26) [.int a1] (fun ad => [.ref (ad 73), .int a1]) F w (m_Stacks_height_goal _ _ _ _ hc) rfl rfl hl.1 ds_73 vc_X7 rfl ok_X7_height rfl kc_X7_height kl_X3_54 ki_X7_height kv_X7_height kn_X7 ⟨Nat.le_trans (by decide) hR1, Nat.le_trans (by decide) hR2⟩ ⟨Nat.zero_le _, Nat.zero_le _⟩ (Nat.le_of_ble_eq_true rfl) dX3_setRoom_26 (fun H locs w => ?_)
        refine lv_iload_n (pc := 29) hx hb dX3_setRoom_29 rfl (lv_at hl 2 rfl) ?_
        refine lv_icmp_le (pc := 30) (tgt := 35) hx hb dX3_setRoom_30 (by decide) (fun q => ?_) (fun q => ?_)
        · have h := ite_t q h
          refine lv_aload_n (pc := 35) hx hb dX3_setRoom_35 rfl (lv_at hl 0 rfl) ?_
          refine s_getR (pc := 36) F w 106 ds_70 (j := 3) vc_X3 vi_X3 rfl (by decide) kf_X3_24 dX3_setRoom_36 ?_
          refine lv_iload_n (pc := 39) hx hb dX3_setRoom_39 rfl (lv_at hl 1 rfl) ?_
          refine s_iald (pc := 40) F w ds_106 h dX3_setRoom_40 (fun h => ?_)
          refine s_nm h (fun z5 ez5 h => ?_)
          rw [← ez5]
          refine lv_istore_n (pc := 41) (lv' := [(3, .int z5), (0, .ref (ad 70)), (1, .int a1), (2, .int a2)]) hx hb dX3_setRoom_41 rfl hl (by decide) rfl (fun ls hl => ?_)
          refine lv_aload_n (pc := 42) hx hb dX3_setRoom_42 rfl (lv_at hl 1 rfl) ?_
          refine s_getR (pc := 43) F w 106 ds_70 (j := 3) vc_X3 vi_X3 rfl (by decide) kf_X3_24 dX3_setRoom_43 ?_
          refine lv_iload_n (pc := 46) hx hb dX3_setRoom_46 rfl (lv_at hl 2 rfl) ?_
          refine lv_iload_n (pc := 47) hx hb dX3_setRoom_47 rfl (lv_at hl 3 rfl) ?_
          refine s_iast (pc := 48) F w ds_106 h dX3_setRoom_48 (fun S6 H locs h w => ?_)
          refine lv_iload_n (pc := 49) hx hb dX3_setRoom_49 rfl (lv_at hl 0 rfl) ?_
          exact s_iret F w h dX3_setRoom_50
        · have h := ite_f q h
          refine lv_iconst (pc := 33) (v := -1) hx hb dX3_setRoom_33 (by decide) ?_
          exact s_iret F w h dX3_setRoom_34
def f_Yard_room (a1 : Int32) (a2 : Int32) (S : SS) : Option (Int32 × SS) :=
  bnd (f_Yard_isNot a1 (0 : Int32) (3 : Int32) S) (fun r2 S1 =>
  if r2 = 0 then
    bnd (f_Yard_isNot a2 (1 : Int32) (10 : Int32) S1) (fun r4 S3 =>
    if r4 = 0 then
      bnd (f_Plans_setRoom a1 a2 S3) (fun r6 S5 =>
      some (r6, S5))
    else
      some ((-1 : Int32), S3))
  else
    some ((-1 : Int32), S1))
theorem dX11_room_0 : decode cX11_room 0 = .ok (.iload_n 1, 1) := dc_27 (by decide +kernel)
theorem dX11_room_1 : decode cX11_room 1 = .ok (.iconst 0, 1) := dc_3 (by decide +kernel)
theorem dX11_room_2 : decode cX11_room 2 = .ok (.iconst 3, 1) := dc_6 (by decide +kernel)
theorem dX11_room_3 : decode cX11_room 3 = .ok (.invokestatic 108, 3) := dc_184 (a := 0) (b := 108) (by decide +kernel)
theorem dX11_room_6 : decode cX11_room 6 = .ok (.ifCond .ne 13, 3) := dc_154 (a := 0) (b := 13) (by decide +kernel) (by decide)
theorem dX11_room_9 : decode cX11_room 9 = .ok (.iload_n 2, 1) := dc_28 (by decide +kernel)
theorem dX11_room_10 : decode cX11_room 10 = .ok (.iconst 1, 1) := dc_4 (by decide +kernel)
theorem dX11_room_11 : decode cX11_room 11 = .ok (.bipush 10, 2) := dc_16 (a := 10) (by decide +kernel) (by decide)
theorem dX11_room_13 : decode cX11_room 13 = .ok (.invokestatic 108, 3) := dc_184 (a := 0) (b := 108) (by decide +kernel)
theorem dX11_room_16 : decode cX11_room 16 = .ok (.ifCond .eq 5, 3) := dc_153 (a := 0) (b := 5) (by decide +kernel) (by decide)
theorem dX11_room_19 : decode cX11_room 19 = .ok (.iconst (-1), 1) := dc_2 (by decide +kernel)
theorem dX11_room_20 : decode cX11_room 20 = .ok (.ireturn, 1) := dc_172 (by decide +kernel)
theorem dX11_room_21 : decode cX11_room 21 = .ok (.aload_n 0, 1) := dc_42 (by decide +kernel)
theorem dX11_room_22 : decode cX11_room 22 = .ok (.getfield 74, 3) := dc_180 (a := 0) (b := 74) (by decide +kernel)
theorem dX11_room_25 : decode cX11_room 25 = .ok (.iload_n 1, 1) := dc_27 (by decide +kernel)
theorem dX11_room_26 : decode cX11_room 26 = .ok (.iload_n 2, 1) := dc_28 (by decide +kernel)
theorem dX11_room_27 : decode cX11_room 27 = .ok (.invokevirtual 418, 3) := dc_182 (a := 1) (b := 162) (by decide +kernel)
theorem dX11_room_30 : decode cX11_room 30 = .ok (.ireturn, 1) := dc_172 (by decide +kernel)
set_option maxRecDepth 100000 in
set_option maxHeartbeats 4000000 in
theorem m_Yard_room (a1 : Int32) (a2 : Int32) (S S' : SS) (r : Int32) (h : f_Yard_room a1 a2 S = some (r, S')) : MT yX11_room cX11_room 3 (some .int) 2 44 (fun ad => [.ref (ad 61), .int a1, .int a2]) S (some (.int r)) S' := by
  refine MT.of RX11 (fun ad => [(0, .ref (ad 61)), (1, .int a1), (2, .int a2)]) (by decide) rfl (fun _ => Nat.le_of_ble_eq_true rfl) (fun _ => rfl) ?_
  intro p l e R s m args below meth c dC dI cs ad A hR1 hR2 F H locs ls w hl
  have hx := F.1.1
  have hb := F.1.2.1
  rw [f_Yard_room] at h
  refine lv_iload_n (pc := 0) hx hb dX11_room_0 rfl (lv_at hl 1 rfl) ?_
  refine lv_iconst (pc := 1) (v := 0) hx hb dX11_room_1 (by decide) ?_
  refine lv_iconst (pc := 2) (v := 3) hx hb dX11_room_2 (by decide) ?_
  obtain ⟨r2, S1, hc, h⟩ := bnd_t h
  refine s_csi (pc := 3) [.int a1, .int (0 : Int32), .int (3 : Int32)] (fun ad => [.int a1, .int (0 : Int32), .int (3 : Int32)]) F w (m_Yard_isNot _ _ _ _ _ _ hc) rfl rfl hl.1 ok_X11_isNot rfl kc_X11_isNot kl_X11_108 ks_X11_isNot kn_X11 ⟨Nat.le_trans (by decide) hR1, Nat.le_trans (by decide) hR2⟩ ⟨Nat.zero_le _, Nat.zero_le _⟩ (Nat.le_of_ble_eq_true rfl) dX11_room_3 (fun H locs w => ?_)
  refine lv_if_ne (pc := 6) (tgt := 19) hx hb dX11_room_6 (by decide) (fun q => ?_) (fun q => ?_)
  · have h := ite_f q h
    refine lv_iconst (pc := 19) (v := -1) hx hb dX11_room_19 (by decide) ?_
    exact s_iret F w h dX11_room_20
  · have h := ite_t q h
    refine lv_iload_n (pc := 9) hx hb dX11_room_9 rfl (lv_at hl 2 rfl) ?_
    refine lv_iconst (pc := 10) (v := 1) hx hb dX11_room_10 (by decide) ?_
    refine lv_bipush (pc := 11) (v := 10) hx hb dX11_room_11 (by decide) ?_
    obtain ⟨r4, S3, hc, h⟩ := bnd_t h
    refine s_csi (pc := 13) [.int a2, .int (1 : Int32), .int (10 : Int32)] (fun ad => [.int a2, .int (1 : Int32), .int (10 : Int32)]) F w (m_Yard_isNot _ _ _ _ _ _ hc) rfl rfl hl.1 ok_X11_isNot rfl kc_X11_isNot kl_X11_108 ks_X11_isNot kn_X11 ⟨Nat.le_trans (by decide) hR1, Nat.le_trans (by decide) hR2⟩ ⟨Nat.zero_le _, Nat.zero_le _⟩ (Nat.le_of_ble_eq_true rfl) dX11_room_13 (fun H locs w => ?_)
    refine lv_if_eq (pc := 16) (tgt := 21) hx hb dX11_room_16 (by decide) (fun q => ?_) (fun q => ?_)
    · have h := ite_t q h
      refine lv_aload_n (pc := 21) hx hb dX11_room_21 rfl (lv_at hl 0 rfl) ?_
      refine s_getR (pc := 22) F w 70 ds_61 (j := 8) vc_X11 vi_X11 rfl (by decide) kf_X11_74 dX11_room_22 ?_
      refine lv_iload_n (pc := 25) hx hb dX11_room_25 rfl (lv_at hl 1 rfl) ?_
      refine lv_iload_n (pc := 26) hx hb dX11_room_26 rfl (lv_at hl 2 rfl) ?_
      obtain ⟨r6, S5, hc, h⟩ := bnd_t h
      refine s_cvi (pc := 27) [.int a1, .int a2] (fun ad => [.ref (ad 70), .int a1, .int a2]) F w (m_Plans_setRoom _ _ _ _ _ hc) rfl rfl hl.1 ds_70 vc_X3 rfl ok_X3_setRoom rfl kc_X3_setRoom kl_X11_418 ki_X3_setRoom kv_X3_setRoom kn_X3 ⟨Nat.le_trans (by decide) hR1, Nat.le_trans (by decide) hR2⟩ ⟨Nat.zero_le _, Nat.zero_le _⟩ (Nat.le_of_ble_eq_true rfl) dX11_room_27 (fun H locs w => ?_)
      exact s_iret F w h dX11_room_30
    · have h := ite_f q h
      refine lv_iconst (pc := 19) (v := -1) hx hb dX11_room_19 (by decide) ?_
      exact s_iret F w h dX11_room_20
def f_Stacks_wagonAt_start_j28  (x1 : Int32) (x2 : Int32) (y0 : Int32) (S : SS) : Option (Int32 × SS) :=
    if y0 = 0 then
      some ((-4 : Int32), S)
    else
      grd (inb (((10 : Int32) * x1) + x2) 40) (
      some (S.1 122 (((10 : Int32) * x1) + x2).toNatClampNeg, S))
def f_Stacks_wagonAt_start_j27  (x1 : Int32) (x2 : Int32) (S : SS) : Option (Int32 × SS) :=
    f_Stacks_wagonAt_start_j28 x1 x2 (0 : Int32) S
def f_Stacks_wagonAt_start (a1 : Int32) (a2 : Int32) (S : SS) : Option (Int32 × SS) :=
  if a1 < 0 then
    f_Stacks_wagonAt_start_j27 a1 a2 S
  else
    if (4 : Int32) ≤ a1 then
      f_Stacks_wagonAt_start_j27 a1 a2 S
    else
      if a2 < 0 then
        f_Stacks_wagonAt_start_j27 a1 a2 S
      else
        grd (inb a1 4) (
        if (S.1 123 a1.toNatClampNeg) ≤ a2 then
          f_Stacks_wagonAt_start_j27 a1 a2 S
        else
          f_Stacks_wagonAt_start_j28 a1 a2 (1 : Int32) S)
theorem dX7_wagonAt_0 : decode cX7_wagonAt 0 = .ok (.iload_n 1, 1) := dc_27 (by decide +kernel)
theorem dX7_wagonAt_1 : decode cX7_wagonAt 1 = .ok (.ifCond .lt 26, 3) := dc_155 (a := 0) (b := 26) (by decide +kernel) (by decide)
theorem dX7_wagonAt_4 : decode cX7_wagonAt 4 = .ok (.iload_n 1, 1) := dc_27 (by decide +kernel)
theorem dX7_wagonAt_5 : decode cX7_wagonAt 5 = .ok (.iconst 4, 1) := dc_7 (by decide +kernel)
theorem dX7_wagonAt_6 : decode cX7_wagonAt 6 = .ok (.if_icmp .ge 21, 3) := dc_162 (a := 0) (b := 21) (by decide +kernel) (by decide)
theorem dX7_wagonAt_9 : decode cX7_wagonAt 9 = .ok (.iload_n 2, 1) := dc_28 (by decide +kernel)
theorem dX7_wagonAt_10 : decode cX7_wagonAt 10 = .ok (.ifCond .lt 17, 3) := dc_155 (a := 0) (b := 17) (by decide +kernel) (by decide)
theorem dX7_wagonAt_13 : decode cX7_wagonAt 13 = .ok (.iload_n 2, 1) := dc_28 (by decide +kernel)
theorem dX7_wagonAt_14 : decode cX7_wagonAt 14 = .ok (.aload_n 0, 1) := dc_42 (by decide +kernel)
theorem dX7_wagonAt_15 : decode cX7_wagonAt 15 = .ok (.getfield 15, 3) := dc_180 (a := 0) (b := 15) (by decide +kernel)
theorem dX7_wagonAt_18 : decode cX7_wagonAt 18 = .ok (.iload_n 1, 1) := dc_27 (by decide +kernel)
theorem dX7_wagonAt_19 : decode cX7_wagonAt 19 = .ok (.iaload, 1) := dc_46 (by decide +kernel)
theorem dX7_wagonAt_20 : decode cX7_wagonAt 20 = .ok (.if_icmp .ge 7, 3) := dc_162 (a := 0) (b := 7) (by decide +kernel) (by decide)
theorem dX7_wagonAt_23 : decode cX7_wagonAt 23 = .ok (.iconst 1, 1) := dc_4 (by decide +kernel)
theorem dX7_wagonAt_24 : decode cX7_wagonAt 24 = .ok (.goto 4, 3) := dc_167 (a := 0) (b := 4) (by decide +kernel) (by decide)
theorem dX7_wagonAt_27 : decode cX7_wagonAt 27 = .ok (.iconst 0, 1) := dc_3 (by decide +kernel)
theorem dX7_wagonAt_28 : decode cX7_wagonAt 28 = .ok (.istore_n 3, 1) := dc_62 (by decide +kernel)
theorem dX7_wagonAt_29 : decode cX7_wagonAt 29 = .ok (.iload_n 3, 1) := dc_29 (by decide +kernel)
theorem dX7_wagonAt_30 : decode cX7_wagonAt 30 = .ok (.ifCond .eq 17, 3) := dc_153 (a := 0) (b := 17) (by decide +kernel) (by decide)
theorem dX7_wagonAt_33 : decode cX7_wagonAt 33 = .ok (.aload_n 0, 1) := dc_42 (by decide +kernel)
theorem dX7_wagonAt_34 : decode cX7_wagonAt 34 = .ok (.getfield 11, 3) := dc_180 (a := 0) (b := 11) (by decide +kernel)
theorem dX7_wagonAt_37 : decode cX7_wagonAt 37 = .ok (.bipush 10, 2) := dc_16 (a := 10) (by decide +kernel) (by decide)
theorem dX7_wagonAt_39 : decode cX7_wagonAt 39 = .ok (.iload_n 1, 1) := dc_27 (by decide +kernel)
theorem dX7_wagonAt_40 : decode cX7_wagonAt 40 = .ok (.imul, 1) := dc_104 (by decide +kernel)
theorem dX7_wagonAt_41 : decode cX7_wagonAt 41 = .ok (.iload_n 2, 1) := dc_28 (by decide +kernel)
theorem dX7_wagonAt_42 : decode cX7_wagonAt 42 = .ok (.iadd, 1) := dc_96 (by decide +kernel)
theorem dX7_wagonAt_43 : decode cX7_wagonAt 43 = .ok (.iaload, 1) := dc_46 (by decide +kernel)
theorem dX7_wagonAt_44 : decode cX7_wagonAt 44 = .ok (.goto 5, 3) := dc_167 (a := 0) (b := 5) (by decide +kernel) (by decide)
theorem dX7_wagonAt_47 : decode cX7_wagonAt 47 = .ok (.bipush (-4), 2) := dc_16 (a := 252) (by decide +kernel) (by decide)
theorem dX7_wagonAt_49 : decode cX7_wagonAt 49 = .ok (.ireturn, 1) := dc_172 (by decide +kernel)
set_option maxRecDepth 100000 in
set_option maxHeartbeats 4000000 in
theorem w_Stacks_wagonAt_start_j28 {p : Program} {l : Launch} {e : Env} {R : Room} {s : State} {m : MethodId} {args : Array Value} {below : List Frame} {meth : Method} {c : Code} {dC : Nat → ClassId} {dI : Nat → Nat → Nat} {cs : Nat → ClassId} {ad : Nat → Nat} {A : Nat → Prop} {D0 : Nat → Nat} {S' : SS} {r : Int32} (F : Fx p s m args meth c cX7_wagonAt 4 RX7 (some .int) dC dI cs A) (hR1 : 0 ≤ R.frames) (hR2 : 0 ≤ R.locals) (x1 : Int32) (x2 : Int32) (y0 : Int32) (S : SS) (h : f_Stacks_wagonAt_start_j28 x1 x2 y0 S = some (r, S')) : AW p l e R s m args below meth c dC dI cs ad A D0 (some (.int r)) S' 4 28 [(0, .ref (ad 72)), (1, .int x1), (2, .int x2)] [.int y0] S := by
  have hx := F.1.1
  have hb := F.1.2.1
  intro H locs ls w hl
  rw [f_Stacks_wagonAt_start_j28] at h
  refine lv_istore_n (pc := 28) (lv' := [(3, .int y0), (0, .ref (ad 72)), (1, .int x1), (2, .int x2)]) hx hb dX7_wagonAt_28 rfl hl (by decide) rfl (fun ls hl => ?_)
  refine lv_iload_n (pc := 29) hx hb dX7_wagonAt_29 rfl (lv_at hl 0 rfl) ?_
  refine lv_if_eq (pc := 30) (tgt := 47) hx hb dX7_wagonAt_30 (by decide) (fun q => ?_) (fun q => ?_)
  · have h := ite_t q h
    refine lv_bipush (pc := 47) (v := -4) hx hb dX7_wagonAt_47 (by decide) ?_
    exact s_iret F w h dX7_wagonAt_49
  · have h := ite_f q h
    refine lv_aload_n (pc := 33) hx hb dX7_wagonAt_33 rfl (lv_at hl 1 rfl) ?_
    refine s_getR (pc := 34) F w 122 ds_72 (j := 0) vc_X7 vi_X7 rfl (by decide) kf_X7_11 dX7_wagonAt_34 ?_
    refine lv_bipush (pc := 37) (v := 10) hx hb dX7_wagonAt_37 (by decide) ?_
    refine lv_iload_n (pc := 39) hx hb dX7_wagonAt_39 rfl (lv_at hl 2 rfl) ?_
    refine lv_imul (pc := 40) hx hb dX7_wagonAt_40 ?_
    refine lv_iload_n (pc := 41) hx hb dX7_wagonAt_41 rfl (lv_at hl 3 rfl) ?_
    refine lv_iadd (pc := 42) hx hb dX7_wagonAt_42 ?_
    refine s_iald (pc := 43) F w ds_122 h dX7_wagonAt_43 (fun h => ?_)
    refine lv_goto (pc := 44) (tgt := 49) hx hb dX7_wagonAt_44 (by decide) ?_
    exact s_iret F w h dX7_wagonAt_49
set_option maxRecDepth 100000 in
set_option maxHeartbeats 4000000 in
theorem w_Stacks_wagonAt_start_j27 {p : Program} {l : Launch} {e : Env} {R : Room} {s : State} {m : MethodId} {args : Array Value} {below : List Frame} {meth : Method} {c : Code} {dC : Nat → ClassId} {dI : Nat → Nat → Nat} {cs : Nat → ClassId} {ad : Nat → Nat} {A : Nat → Prop} {D0 : Nat → Nat} {S' : SS} {r : Int32} (F : Fx p s m args meth c cX7_wagonAt 4 RX7 (some .int) dC dI cs A) (hR1 : 0 ≤ R.frames) (hR2 : 0 ≤ R.locals) (x1 : Int32) (x2 : Int32) (S : SS) (h : f_Stacks_wagonAt_start_j27 x1 x2 S = some (r, S')) : AW p l e R s m args below meth c dC dI cs ad A D0 (some (.int r)) S' 4 27 [(0, .ref (ad 72)), (1, .int x1), (2, .int x2)] [] S := by
  have hx := F.1.1
  have hb := F.1.2.1
  intro H locs ls w hl
  rw [f_Stacks_wagonAt_start_j27] at h
  refine lv_iconst (pc := 27) (v := 0) hx hb dX7_wagonAt_27 (by decide) ?_
  exact w_Stacks_wagonAt_start_j28 F (Nat.le_trans (by decide) hR1) (Nat.le_trans (by decide) hR2) _ _ _ _ h _ _ _ w (lv_sub hl [0, 1, 2] rfl)
set_option maxRecDepth 100000 in
set_option maxHeartbeats 4000000 in
theorem m_Stacks_wagonAt_start (a1 : Int32) (a2 : Int32) (S S' : SS) (r : Int32) (h : f_Stacks_wagonAt_start a1 a2 S = some (r, S')) : MT yX7_wagonAt cX7_wagonAt 4 (some .int) 0 0 (fun ad => [.ref (ad 72), .int a1, .int a2]) S (some (.int r)) S' := by
  refine MT.of RX7 (fun ad => [(0, .ref (ad 72)), (1, .int a1), (2, .int a2)]) (by decide) rfl (fun _ => Nat.le_of_ble_eq_true rfl) (fun _ => rfl) ?_
  intro p l e R s m args below meth c dC dI cs ad A hR1 hR2 F H locs ls w hl
  have hx := F.1.1
  have hb := F.1.2.1
  rw [f_Stacks_wagonAt_start] at h
  refine lv_iload_n (pc := 0) hx hb dX7_wagonAt_0 rfl (lv_at hl 1 rfl) ?_
  refine lv_if_lt (pc := 1) (tgt := 27) hx hb dX7_wagonAt_1 (by decide) (fun q => ?_) (fun q => ?_)
  · have h := ite_t q h
    exact w_Stacks_wagonAt_start_j27 F (Nat.le_trans (by decide) hR1) (Nat.le_trans (by decide) hR2) _ _ _ h _ _ _ w (lv_sub hl [0, 1, 2] rfl)
  · have h := ite_f q h
    refine lv_iload_n (pc := 4) hx hb dX7_wagonAt_4 rfl (lv_at hl 1 rfl) ?_
    refine lv_iconst (pc := 5) (v := 4) hx hb dX7_wagonAt_5 (by decide) ?_
    refine lv_icmp_ge (pc := 6) (tgt := 27) hx hb dX7_wagonAt_6 (by decide) (fun q => ?_) (fun q => ?_)
    · have h := ite_t q h
      exact w_Stacks_wagonAt_start_j27 F (Nat.le_trans (by decide) hR1) (Nat.le_trans (by decide) hR2) _ _ _ h _ _ _ w (lv_sub hl [0, 1, 2] rfl)
    · have h := ite_f q h
      refine lv_iload_n (pc := 9) hx hb dX7_wagonAt_9 rfl (lv_at hl 2 rfl) ?_
      refine lv_if_lt (pc := 10) (tgt := 27) hx hb dX7_wagonAt_10 (by decide) (fun q => ?_) (fun q => ?_)
      · have h := ite_t q h
        exact w_Stacks_wagonAt_start_j27 F (Nat.le_trans (by decide) hR1) (Nat.le_trans (by decide) hR2) _ _ _ h _ _ _ w (lv_sub hl [0, 1, 2] rfl)
      · have h := ite_f q h
        refine lv_iload_n (pc := 13) hx hb dX7_wagonAt_13 rfl (lv_at hl 2 rfl) ?_
        refine lv_aload_n (pc := 14) hx hb dX7_wagonAt_14 rfl (lv_at hl 0 rfl) ?_
        refine s_getR (pc := 15) F w 123 ds_72 (j := 1) vc_X7 vi_X7 rfl (by decide) kf_X7_15 dX7_wagonAt_15 ?_
        refine lv_iload_n (pc := 18) hx hb dX7_wagonAt_18 rfl (lv_at hl 1 rfl) ?_
        refine s_iald (pc := 19) F w ds_123 h dX7_wagonAt_19 (fun h => ?_)
        refine lv_icmp_ge (pc := 20) (tgt := 27) hx hb dX7_wagonAt_20 (by decide) (fun q => ?_) (fun q => ?_)
        · have h := ite_t q h
          exact w_Stacks_wagonAt_start_j27 F (Nat.le_trans (by decide) hR1) (Nat.le_trans (by decide) hR2) _ _ _ h _ _ _ w (lv_sub hl [0, 1, 2] rfl)
        · have h := ite_f q h
          refine lv_iconst (pc := 23) (v := 1) hx hb dX7_wagonAt_23 (by decide) ?_
          refine lv_goto (pc := 24) (tgt := 28) hx hb dX7_wagonAt_24 (by decide) ?_
          exact w_Stacks_wagonAt_start_j28 F (Nat.le_trans (by decide) hR1) (Nat.le_trans (by decide) hR2) _ _ _ _ h _ _ _ w (lv_sub hl [0, 1, 2] rfl)
def f_Stacks_placeOn_start_L2  : Nat → Int32 → Int32 → Int32 → SS → Option (Int32 × SS)
  | 0, _, _, _, _ => none
  | n + 1, x1, x2, x3, S =>
    bnd (f_Stacks_height_start x1 S) (fun r2 S1 =>
    if r2 ≤ x3 then
      some ((-4 : Int32), S1)
    else
      bnd (f_Stacks_wagonAt_start x1 x3 S1) (fun r4 S3 =>
      if r4 = x2 then
        some (x3, S3)
      else
        nm (x3 + (1 : Int32)) (fun z5 =>
        f_Stacks_placeOn_start_L2 n x1 x2 z5 S3)))
def f_Stacks_placeOn_start (a1 : Int32) (a2 : Int32) (S : SS) : Option (Int32 × SS) :=
  f_Stacks_placeOn_start_L2 NF a1 a2 (0 : Int32) S
theorem dX7_placeOn_0 : decode cX7_placeOn 0 = .ok (.iconst 0, 1) := dc_3 (by decide +kernel)
theorem dX7_placeOn_1 : decode cX7_placeOn 1 = .ok (.istore_n 3, 1) := dc_62 (by decide +kernel)
theorem dX7_placeOn_2 : decode cX7_placeOn 2 = .ok (.iload_n 3, 1) := dc_29 (by decide +kernel)
theorem dX7_placeOn_3 : decode cX7_placeOn 3 = .ok (.aload_n 0, 1) := dc_42 (by decide +kernel)
theorem dX7_placeOn_4 : decode cX7_placeOn 4 = .ok (.iload_n 1, 1) := dc_27 (by decide +kernel)
theorem dX7_placeOn_5 : decode cX7_placeOn 5 = .ok (.invokevirtual 30, 3) := dc_182 (a := 0) (b := 30) (by decide +kernel)
theorem dX7_placeOn_8 : decode cX7_placeOn 8 = .ok (.if_icmp .ge 21, 3) := dc_162 (a := 0) (b := 21) (by decide +kernel) (by decide)
theorem dX7_placeOn_11 : decode cX7_placeOn 11 = .ok (.aload_n 0, 1) := dc_42 (by decide +kernel)
theorem dX7_placeOn_12 : decode cX7_placeOn 12 = .ok (.iload_n 1, 1) := dc_27 (by decide +kernel)
theorem dX7_placeOn_13 : decode cX7_placeOn 13 = .ok (.iload_n 3, 1) := dc_29 (by decide +kernel)
theorem dX7_placeOn_14 : decode cX7_placeOn 14 = .ok (.invokevirtual 34, 3) := dc_182 (a := 0) (b := 34) (by decide +kernel)
theorem dX7_placeOn_17 : decode cX7_placeOn 17 = .ok (.iload_n 2, 1) := dc_28 (by decide +kernel)
theorem dX7_placeOn_18 : decode cX7_placeOn 18 = .ok (.if_icmp .ne 5, 3) := dc_160 (a := 0) (b := 5) (by decide +kernel) (by decide)
theorem dX7_placeOn_21 : decode cX7_placeOn 21 = .ok (.iload_n 3, 1) := dc_29 (by decide +kernel)
theorem dX7_placeOn_22 : decode cX7_placeOn 22 = .ok (.ireturn, 1) := dc_172 (by decide +kernel)
theorem dX7_placeOn_23 : decode cX7_placeOn 23 = .ok (.iinc 3 1, 3) := dc_132 (a := 3) (b := 1) (by decide +kernel) (by decide)
theorem dX7_placeOn_26 : decode cX7_placeOn 26 = .ok (.goto (-24), 3) := dc_167 (a := 255) (b := 232) (by decide +kernel) (by decide)
theorem dX7_placeOn_29 : decode cX7_placeOn 29 = .ok (.bipush (-4), 2) := dc_16 (a := 252) (by decide +kernel) (by decide)
theorem dX7_placeOn_31 : decode cX7_placeOn 31 = .ok (.ireturn, 1) := dc_172 (by decide +kernel)
set_option maxRecDepth 100000 in
set_option maxHeartbeats 4000000 in
theorem w_Stacks_placeOn_start_L2 {p : Program} {l : Launch} {e : Env} {R : Room} {s : State} {m : MethodId} {args : Array Value} {below : List Frame} {meth : Method} {c : Code} {dC : Nat → ClassId} {dI : Nat → Nat → Nat} {cs : Nat → ClassId} {ad : Nat → Nat} {A : Nat → Prop} {D0 : Nat → Nat} {S' : SS} {r : Int32} (F : Fx p s m args meth c cX7_placeOn 4 RX7 (some .int) dC dI cs A) (hR1 : 1 ≤ R.frames) (hR2 : 23 ≤ R.locals) : ∀ (n : Nat) (x1 : Int32) (x2 : Int32) (x3 : Int32) (S : SS), f_Stacks_placeOn_start_L2 n x1 x2 x3 S = some (r, S') → AW p l e R s m args below meth c dC dI cs ad A D0 (some (.int r)) S' 4 2 [(0, .ref (ad 72)), (1, .int x1), (2, .int x2), (3, .int x3)] [] S := by
  have hx := F.1.1
  have hb := F.1.2.1
  intro n
  induction n with
  | zero => intro x1 x2 x3 S h; cases h
  | succ n ih =>
    intro x1 x2 x3 S h H locs ls w hl
    rw [f_Stacks_placeOn_start_L2] at h
    refine lv_iload_n (pc := 2) hx hb dX7_placeOn_2 rfl (lv_at hl 3 rfl) ?_
    refine lv_aload_n (pc := 3) hx hb dX7_placeOn_3 rfl (lv_at hl 0 rfl) ?_
    refine lv_iload_n (pc := 4) hx hb dX7_placeOn_4 rfl (lv_at hl 1 rfl) ?_
    obtain ⟨r2, S1, hc, h⟩ := bnd_t h
    refine s_cvi (pc := 5) [.int x1] (fun ad => [.ref (ad 72), .int x1]) F w (m_Stacks_height_start _ _ _ _ hc) rfl rfl hl.1 ds_72 vc_X7 rfl ok_X7_height rfl kc_X7_height kl_X7_30 ki_X7_height kv_X7_height kn_X7 ⟨Nat.le_trans (by decide) hR1, Nat.le_trans (by decide) hR2⟩ ⟨Nat.zero_le _, Nat.zero_le _⟩ (Nat.le_of_ble_eq_true rfl) dX7_placeOn_5 (fun H locs w => ?_)
    refine lv_icmp_ge (pc := 8) (tgt := 29) hx hb dX7_placeOn_8 (by decide) (fun q => ?_) (fun q => ?_)
    · have h := ite_t q h
      refine lv_bipush (pc := 29) (v := -4) hx hb dX7_placeOn_29 (by decide) ?_
      exact s_iret F w h dX7_placeOn_31
    · have h := ite_f q h
      refine lv_aload_n (pc := 11) hx hb dX7_placeOn_11 rfl (lv_at hl 0 rfl) ?_
      refine lv_iload_n (pc := 12) hx hb dX7_placeOn_12 rfl (lv_at hl 1 rfl) ?_
      refine lv_iload_n (pc := 13) hx hb dX7_placeOn_13 rfl (lv_at hl 3 rfl) ?_
      obtain ⟨r4, S3, hc, h⟩ := bnd_t h
      refine s_cvi (pc := 14) [.int x1, .int x3] (fun ad => [.ref (ad 72), .int x1, .int x3]) F w (m_Stacks_wagonAt_start _ _ _ _ _ hc) rfl rfl hl.1 ds_72 vc_X7 rfl ok_X7_wagonAt rfl kc_X7_wagonAt kl_X7_34 ki_X7_wagonAt kv_X7_wagonAt kn_X7 ⟨Nat.le_trans (by decide) hR1, Nat.le_trans (by decide) hR2⟩ ⟨Nat.zero_le _, Nat.zero_le _⟩ (Nat.le_of_ble_eq_true rfl) dX7_placeOn_14 (fun H locs w => ?_)
      refine lv_iload_n (pc := 17) hx hb dX7_placeOn_17 rfl (lv_at hl 2 rfl) ?_
      refine lv_icmp_ne (pc := 18) (tgt := 23) hx hb dX7_placeOn_18 (by decide) (fun q => ?_) (fun q => ?_)
      · have h := ite_f q h
        refine s_nm h (fun z5 ez5 h => ?_)
        refine lv_iinc (pc := 23) (v := z5) (lv' := [(3, .int z5), (0, .ref (ad 72)), (1, .int x1), (2, .int x2)]) hx hb dX7_placeOn_23 hl (k := 3) rfl (by rw [ez5]; rfl) (by decide) rfl (fun ls hl => ?_)
        refine lv_goto (pc := 26) (tgt := 2) hx hb dX7_placeOn_26 (by decide) ?_
        exact ih _ _ _ _ h _ _ _ w (lv_sub hl [1, 2, 3, 0] rfl)
      · have h := ite_t q h
        refine lv_iload_n (pc := 21) hx hb dX7_placeOn_21 rfl (lv_at hl 3 rfl) ?_
        exact s_iret F w h dX7_placeOn_22
set_option maxRecDepth 100000 in
set_option maxHeartbeats 4000000 in
theorem m_Stacks_placeOn_start (a1 : Int32) (a2 : Int32) (S S' : SS) (r : Int32) (h : f_Stacks_placeOn_start a1 a2 S = some (r, S')) : MT yX7_placeOn cX7_placeOn 4 (some .int) 1 23 (fun ad => [.ref (ad 72), .int a1, .int a2]) S (some (.int r)) S' := by
  refine MT.of RX7 (fun ad => [(0, .ref (ad 72)), (1, .int a1), (2, .int a2)]) (by decide) rfl (fun _ => Nat.le_of_ble_eq_true rfl) (fun _ => rfl) ?_
  intro p l e R s m args below meth c dC dI cs ad A hR1 hR2 F H locs ls w hl
  have hx := F.1.1
  have hb := F.1.2.1
  rw [f_Stacks_placeOn_start] at h
  refine lv_iconst (pc := 0) (v := 0) hx hb dX7_placeOn_0 (by decide) ?_
  refine lv_istore_n (pc := 1) (lv' := [(3, .int (0 : Int32)), (0, .ref (ad 72)), (1, .int a1), (2, .int a2)]) hx hb dX7_placeOn_1 rfl hl (by decide) rfl (fun ls hl => ?_)
  exact w_Stacks_placeOn_start_L2 F (Nat.le_trans (by decide) hR1) (Nat.le_trans (by decide) hR2) _ _ _ _ _ h _ _ _ w (lv_sub hl [1, 2, 3, 0] rfl)
def f_Stacks_stackOf_start_L2  : Nat → Int32 → Int32 → SS → Option (Int32 × SS)
  | 0, _, _, _ => none
  | n + 1, x1, x2, S =>
    if (4 : Int32) ≤ x2 then
      some ((-4 : Int32), S)
    else
      bnd (f_Stacks_placeOn_start x2 x1 S) (fun r2 S1 =>
      if r2 = (-4 : Int32) then
        nm (x2 + (1 : Int32)) (fun z3 =>
        f_Stacks_stackOf_start_L2 n x1 z3 S1)
      else
        some (x2, S1))
def f_Stacks_stackOf_start (a1 : Int32) (S : SS) : Option (Int32 × SS) :=
  f_Stacks_stackOf_start_L2 NF a1 (0 : Int32) S
theorem dX7_stackOf_0 : decode cX7_stackOf 0 = .ok (.iconst 0, 1) := dc_3 (by decide +kernel)
theorem dX7_stackOf_1 : decode cX7_stackOf 1 = .ok (.istore_n 2, 1) := dc_61 (by decide +kernel)
theorem dX7_stackOf_2 : decode cX7_stackOf 2 = .ok (.iload_n 2, 1) := dc_28 (by decide +kernel)
theorem dX7_stackOf_3 : decode cX7_stackOf 3 = .ok (.iconst 4, 1) := dc_7 (by decide +kernel)
theorem dX7_stackOf_4 : decode cX7_stackOf 4 = .ok (.if_icmp .ge 22, 3) := dc_162 (a := 0) (b := 22) (by decide +kernel) (by decide)
theorem dX7_stackOf_7 : decode cX7_stackOf 7 = .ok (.aload_n 0, 1) := dc_42 (by decide +kernel)
theorem dX7_stackOf_8 : decode cX7_stackOf 8 = .ok (.iload_n 2, 1) := dc_28 (by decide +kernel)
theorem dX7_stackOf_9 : decode cX7_stackOf 9 = .ok (.iload_n 1, 1) := dc_27 (by decide +kernel)
theorem dX7_stackOf_10 : decode cX7_stackOf 10 = .ok (.invokevirtual 38, 3) := dc_182 (a := 0) (b := 38) (by decide +kernel)
theorem dX7_stackOf_13 : decode cX7_stackOf 13 = .ok (.bipush (-4), 2) := dc_16 (a := 252) (by decide +kernel) (by decide)
theorem dX7_stackOf_15 : decode cX7_stackOf 15 = .ok (.if_icmp .eq 5, 3) := dc_159 (a := 0) (b := 5) (by decide +kernel) (by decide)
theorem dX7_stackOf_18 : decode cX7_stackOf 18 = .ok (.iload_n 2, 1) := dc_28 (by decide +kernel)
theorem dX7_stackOf_19 : decode cX7_stackOf 19 = .ok (.ireturn, 1) := dc_172 (by decide +kernel)
theorem dX7_stackOf_20 : decode cX7_stackOf 20 = .ok (.iinc 2 1, 3) := dc_132 (a := 2) (b := 1) (by decide +kernel) (by decide)
theorem dX7_stackOf_23 : decode cX7_stackOf 23 = .ok (.goto (-21), 3) := dc_167 (a := 255) (b := 235) (by decide +kernel) (by decide)
theorem dX7_stackOf_26 : decode cX7_stackOf 26 = .ok (.bipush (-4), 2) := dc_16 (a := 252) (by decide +kernel) (by decide)
theorem dX7_stackOf_28 : decode cX7_stackOf 28 = .ok (.ireturn, 1) := dc_172 (by decide +kernel)
set_option maxRecDepth 100000 in
set_option maxHeartbeats 4000000 in
theorem w_Stacks_stackOf_start_L2 {p : Program} {l : Launch} {e : Env} {R : Room} {s : State} {m : MethodId} {args : Array Value} {below : List Frame} {meth : Method} {c : Code} {dC : Nat → ClassId} {dI : Nat → Nat → Nat} {cs : Nat → ClassId} {ad : Nat → Nat} {A : Nat → Prop} {D0 : Nat → Nat} {S' : SS} {r : Int32} (F : Fx p s m args meth c cX7_stackOf 3 RX7 (some .int) dC dI cs A) (hR1 : 2 ≤ R.frames) (hR2 : 46 ≤ R.locals) : ∀ (n : Nat) (x1 : Int32) (x2 : Int32) (S : SS), f_Stacks_stackOf_start_L2 n x1 x2 S = some (r, S') → AW p l e R s m args below meth c dC dI cs ad A D0 (some (.int r)) S' 3 2 [(0, .ref (ad 72)), (1, .int x1), (2, .int x2)] [] S := by
  have hx := F.1.1
  have hb := F.1.2.1
  intro n
  induction n with
  | zero => intro x1 x2 S h; cases h
  | succ n ih =>
    intro x1 x2 S h H locs ls w hl
    rw [f_Stacks_stackOf_start_L2] at h
    refine lv_iload_n (pc := 2) hx hb dX7_stackOf_2 rfl (lv_at hl 2 rfl) ?_
    refine lv_iconst (pc := 3) (v := 4) hx hb dX7_stackOf_3 (by decide) ?_
    refine lv_icmp_ge (pc := 4) (tgt := 26) hx hb dX7_stackOf_4 (by decide) (fun q => ?_) (fun q => ?_)
    · have h := ite_t q h
      refine lv_bipush (pc := 26) (v := -4) hx hb dX7_stackOf_26 (by decide) ?_
      exact s_iret F w h dX7_stackOf_28
    · have h := ite_f q h
      refine lv_aload_n (pc := 7) hx hb dX7_stackOf_7 rfl (lv_at hl 0 rfl) ?_
      refine lv_iload_n (pc := 8) hx hb dX7_stackOf_8 rfl (lv_at hl 2 rfl) ?_
      refine lv_iload_n (pc := 9) hx hb dX7_stackOf_9 rfl (lv_at hl 1 rfl) ?_
      obtain ⟨r2, S1, hc, h⟩ := bnd_t h
      refine s_cvi (pc := 10) [.int x2, .int x1] (fun ad => [.ref (ad 72), .int x2, .int x1]) F w (m_Stacks_placeOn_start _ _ _ _ _ hc) rfl rfl hl.1 ds_72 vc_X7 rfl ok_X7_placeOn rfl kc_X7_placeOn kl_X7_38 ki_X7_placeOn kv_X7_placeOn kn_X7 ⟨Nat.le_trans (by decide) hR1, Nat.le_trans (by decide) hR2⟩ ⟨Nat.zero_le _, Nat.zero_le _⟩ (Nat.le_of_ble_eq_true rfl) dX7_stackOf_10 (fun H locs w => ?_)
      refine lv_bipush (pc := 13) (v := -4) hx hb dX7_stackOf_13 (by decide) ?_
      refine lv_icmp_eq (pc := 15) (tgt := 20) hx hb dX7_stackOf_15 (by decide) (fun q => ?_) (fun q => ?_)
      · have h := ite_t q h
        refine s_nm h (fun z3 ez3 h => ?_)
        refine lv_iinc (pc := 20) (v := z3) (lv' := [(2, .int z3), (0, .ref (ad 72)), (1, .int x1)]) hx hb dX7_stackOf_20 hl (k := 2) rfl (by rw [ez3]; rfl) (by decide) rfl (fun ls hl => ?_)
        refine lv_goto (pc := 23) (tgt := 2) hx hb dX7_stackOf_23 (by decide) ?_
        exact ih _ _ _ h _ _ _ w (lv_sub hl [1, 2, 0] rfl)
      · have h := ite_f q h
        refine lv_iload_n (pc := 18) hx hb dX7_stackOf_18 rfl (lv_at hl 2 rfl) ?_
        exact s_iret F w h dX7_stackOf_19
set_option maxRecDepth 100000 in
set_option maxHeartbeats 4000000 in
theorem m_Stacks_stackOf_start (a1 : Int32) (S S' : SS) (r : Int32) (h : f_Stacks_stackOf_start a1 S = some (r, S')) : MT yX7_stackOf cX7_stackOf 3 (some .int) 2 46 (fun ad => [.ref (ad 72), .int a1]) S (some (.int r)) S' := by
  refine MT.of RX7 (fun ad => [(0, .ref (ad 72)), (1, .int a1)]) (by decide) rfl (fun _ => Nat.le_of_ble_eq_true rfl) (fun _ => rfl) ?_
  intro p l e R s m args below meth c dC dI cs ad A hR1 hR2 F H locs ls w hl
  have hx := F.1.1
  have hb := F.1.2.1
  rw [f_Stacks_stackOf_start] at h
  refine lv_iconst (pc := 0) (v := 0) hx hb dX7_stackOf_0 (by decide) ?_
  refine lv_istore_n (pc := 1) (lv' := [(2, .int (0 : Int32)), (0, .ref (ad 72)), (1, .int a1)]) hx hb dX7_stackOf_1 rfl hl (by decide) rfl (fun ls hl => ?_)
  exact w_Stacks_stackOf_start_L2 F (Nat.le_trans (by decide) hR1) (Nat.le_trans (by decide) hR2) _ _ _ _ h _ _ _ w (lv_sub hl [1, 2, 0] rfl)
