/-! ===== printed by wip/gen: State_setPoint Layout_addPoint Layout_pointAt Yard_point Layout_addLink Layout_join Layout_linksAt Layout_areJoined Layout_mayGetLink Layout_mayJoin Yard_link Layout_setExit Yard_exit Layout_placesOf Layout_placeFinding Layout_spot Trains_nextSerial Arrays_rangeCheck_23922 Arrays_fill_fda19_State_cells State_set State_addThing ===== -/
def f_State_setPoint (a1 : Int32) (a2 : Int32) (a3 : Int32) (S : SS) : Option (SS) :=
  if a1 < 0 then
    some S
  else
    if (40 : Int32) ≤ a1 then
      some S
    else
      grd (inb ((74 : Int32) + a1) 946) (wr S 79 ((74 : Int32) + a1).toNatClampNeg a2 (fun S1 =>
      grd (inb ((114 : Int32) + a1) 946) (wr S1 79 ((114 : Int32) + a1).toNatClampNeg a3 (fun S2 =>
      some S2))))
theorem dX8_setPoint_0 : decode cX8_setPoint 0 = .ok (.iload_n 1, 1) := dc_27 (by decide +kernel)
theorem dX8_setPoint_1 : decode cX8_setPoint 1 = .ok (.ifCond .lt 29, 3) := dc_155 (a := 0) (b := 29) (by decide +kernel) (by decide)
theorem dX8_setPoint_4 : decode cX8_setPoint 4 = .ok (.iload_n 1, 1) := dc_27 (by decide +kernel)
theorem dX8_setPoint_5 : decode cX8_setPoint 5 = .ok (.bipush 40, 2) := dc_16 (a := 40) (by decide +kernel) (by decide)
theorem dX8_setPoint_7 : decode cX8_setPoint 7 = .ok (.if_icmp .ge 23, 3) := dc_162 (a := 0) (b := 23) (by decide +kernel) (by decide)
theorem dX8_setPoint_10 : decode cX8_setPoint 10 = .ok (.aload_n 0, 1) := dc_42 (by decide +kernel)
theorem dX8_setPoint_11 : decode cX8_setPoint 11 = .ok (.getfield 13, 3) := dc_180 (a := 0) (b := 13) (by decide +kernel)
theorem dX8_setPoint_14 : decode cX8_setPoint 14 = .ok (.bipush 74, 2) := dc_16 (a := 74) (by decide +kernel) (by decide)
theorem dX8_setPoint_16 : decode cX8_setPoint 16 = .ok (.iload_n 1, 1) := dc_27 (by decide +kernel)
theorem dX8_setPoint_17 : decode cX8_setPoint 17 = .ok (.iadd, 1) := dc_96 (by decide +kernel)
theorem dX8_setPoint_18 : decode cX8_setPoint 18 = .ok (.iload_n 2, 1) := dc_28 (by decide +kernel)
theorem dX8_setPoint_19 : decode cX8_setPoint 19 = .ok (.iastore, 1) := dc_79 (by decide +kernel)
theorem dX8_setPoint_20 : decode cX8_setPoint 20 = .ok (.aload_n 0, 1) := dc_42 (by decide +kernel)
theorem dX8_setPoint_21 : decode cX8_setPoint 21 = .ok (.getfield 13, 3) := dc_180 (a := 0) (b := 13) (by decide +kernel)
theorem dX8_setPoint_24 : decode cX8_setPoint 24 = .ok (.bipush 114, 2) := dc_16 (a := 114) (by decide +kernel) (by decide)
theorem dX8_setPoint_26 : decode cX8_setPoint 26 = .ok (.iload_n 1, 1) := dc_27 (by decide +kernel)
theorem dX8_setPoint_27 : decode cX8_setPoint 27 = .ok (.iadd, 1) := dc_96 (by decide +kernel)
theorem dX8_setPoint_28 : decode cX8_setPoint 28 = .ok (.iload_n 3, 1) := dc_29 (by decide +kernel)
theorem dX8_setPoint_29 : decode cX8_setPoint 29 = .ok (.iastore, 1) := dc_79 (by decide +kernel)
theorem dX8_setPoint_30 : decode cX8_setPoint 30 = .ok (.return_, 1) := dc_177 (by decide +kernel)
set_option maxRecDepth 100000 in
set_option maxHeartbeats 4000000 in
theorem m_State_setPoint (a1 : Int32) (a2 : Int32) (a3 : Int32) (S S' : SS) (h : f_State_setPoint a1 a2 a3 S = some S') : MT yX8_setPoint cX8_setPoint 4 none 0 0 (fun ad => [.ref (ad 63), .int a1, .int a2, .int a3]) S none S' := by
  refine MT.of RX8 (fun ad => [(0, .ref (ad 63)), (1, .int a1), (2, .int a2), (3, .int a3)]) (by decide) rfl (fun _ => Nat.le_of_ble_eq_true rfl) (fun _ => rfl) ?_
  intro p l e R s m args below meth c dC dI cs ad A hR1 hR2 F H locs ls w hl
  have hx := F.1.1
  have hb := F.1.2.1
  rw [f_State_setPoint] at h
  refine lv_iload_n (pc := 0) hx hb dX8_setPoint_0 rfl (lv_at hl 1 rfl) ?_
  refine lv_if_lt (pc := 1) (tgt := 30) hx hb dX8_setPoint_1 (by decide) (fun q => ?_) (fun q => ?_)
  · have h := ite_t q h
    exact s_vret F w h dX8_setPoint_30
  · have h := ite_f q h
    refine lv_iload_n (pc := 4) hx hb dX8_setPoint_4 rfl (lv_at hl 1 rfl) ?_
    refine lv_bipush (pc := 5) (v := 40) hx hb dX8_setPoint_5 (by decide) ?_
    refine lv_icmp_ge (pc := 7) (tgt := 30) hx hb dX8_setPoint_7 (by decide) (fun q => ?_) (fun q => ?_)
    · have h := ite_t q h
      exact s_vret F w h dX8_setPoint_30
    · have h := ite_f q h
      refine lv_aload_n (pc := 10) hx hb dX8_setPoint_10 rfl (lv_at hl 0 rfl) ?_
      refine s_getR (pc := 11) F w 79 ds_63 (j := 0) vc_X8 vi_X8 rfl (by decide) kf_X8_13 dX8_setPoint_11 ?_
      refine lv_bipush (pc := 14) (v := 74) hx hb dX8_setPoint_14 (by decide) ?_
      refine lv_iload_n (pc := 16) hx hb dX8_setPoint_16 rfl (lv_at hl 1 rfl) ?_
      refine lv_iadd (pc := 17) hx hb dX8_setPoint_17 ?_
      refine lv_iload_n (pc := 18) hx hb dX8_setPoint_18 rfl (lv_at hl 2 rfl) ?_
      refine s_iast (pc := 19) F w ds_79 h dX8_setPoint_19 (fun S1 H locs h w => ?_)
      refine lv_aload_n (pc := 20) hx hb dX8_setPoint_20 rfl (lv_at hl 0 rfl) ?_
      refine s_getR (pc := 21) F w 79 ds_63 (j := 0) vc_X8 vi_X8 rfl (by decide) kf_X8_13 dX8_setPoint_21 ?_
      refine lv_bipush (pc := 24) (v := 114) hx hb dX8_setPoint_24 (by decide) ?_
      refine lv_iload_n (pc := 26) hx hb dX8_setPoint_26 rfl (lv_at hl 1 rfl) ?_
      refine lv_iadd (pc := 27) hx hb dX8_setPoint_27 ?_
      refine lv_iload_n (pc := 28) hx hb dX8_setPoint_28 rfl (lv_at hl 3 rfl) ?_
      refine s_iast (pc := 29) F w ds_79 h dX8_setPoint_29 (fun S2 H locs h w => ?_)
      exact s_vret F w h dX8_setPoint_30
def f_Layout_addPoint (a1 : Int32) (S : SS) : Option (Int32 × SS) :=
  if (40 : Int32) ≤ (S.1 66 8) then
    some ((-3 : Int32), S)
  else
    bnd (f_Layout_isEnd a1 S) (fun r2 S1 =>
    if r2 = 0 then
      some ((-3 : Int32), S1)
    else
      grd (inb a1 48) (wr S1 94 a1.toNatClampNeg (S1.1 66 8) (fun S3 =>
      grd (inb (S3.1 66 8) 40) (wr S3 95 (S3.1 66 8).toNatClampNeg a1 (fun S4 =>
      bndv (f_State_setPoint (S4.1 66 8) (0 : Int32) (-4 : Int32) S4) (fun S5 =>
      wr S5 66 8 ((S5.1 66 8) + (1 : Int32)) (fun S6 =>
      some ((S6.1 66 8) - (1 : Int32), S6))))))))
theorem dX2_addPoint_0 : decode cX2_addPoint 0 = .ok (.aload_n 0, 1) := dc_42 (by decide +kernel)
theorem dX2_addPoint_1 : decode cX2_addPoint 1 = .ok (.getfield 35, 3) := dc_180 (a := 0) (b := 35) (by decide +kernel)
theorem dX2_addPoint_4 : decode cX2_addPoint 4 = .ok (.bipush 40, 2) := dc_16 (a := 40) (by decide +kernel) (by decide)
theorem dX2_addPoint_6 : decode cX2_addPoint 6 = .ok (.if_icmp .ge 10, 3) := dc_162 (a := 0) (b := 10) (by decide +kernel) (by decide)
theorem dX2_addPoint_9 : decode cX2_addPoint 9 = .ok (.iload_n 1, 1) := dc_27 (by decide +kernel)
theorem dX2_addPoint_10 : decode cX2_addPoint 10 = .ok (.invokestatic 48, 3) := dc_184 (a := 0) (b := 48) (by decide +kernel)
theorem dX2_addPoint_13 : decode cX2_addPoint 13 = .ok (.ifCond .ne 6, 3) := dc_154 (a := 0) (b := 6) (by decide +kernel) (by decide)
theorem dX2_addPoint_16 : decode cX2_addPoint 16 = .ok (.bipush (-3), 2) := dc_16 (a := 253) (by decide +kernel) (by decide)
theorem dX2_addPoint_18 : decode cX2_addPoint 18 = .ok (.ireturn, 1) := dc_172 (by decide +kernel)
theorem dX2_addPoint_19 : decode cX2_addPoint 19 = .ok (.aload_n 0, 1) := dc_42 (by decide +kernel)
theorem dX2_addPoint_20 : decode cX2_addPoint 20 = .ok (.getfield 15, 3) := dc_180 (a := 0) (b := 15) (by decide +kernel)
theorem dX2_addPoint_23 : decode cX2_addPoint 23 = .ok (.iload_n 1, 1) := dc_27 (by decide +kernel)
theorem dX2_addPoint_24 : decode cX2_addPoint 24 = .ok (.aload_n 0, 1) := dc_42 (by decide +kernel)
theorem dX2_addPoint_25 : decode cX2_addPoint 25 = .ok (.getfield 35, 3) := dc_180 (a := 0) (b := 35) (by decide +kernel)
theorem dX2_addPoint_28 : decode cX2_addPoint 28 = .ok (.iastore, 1) := dc_79 (by decide +kernel)
theorem dX2_addPoint_29 : decode cX2_addPoint 29 = .ok (.aload_n 0, 1) := dc_42 (by decide +kernel)
theorem dX2_addPoint_30 : decode cX2_addPoint 30 = .ok (.getfield 18, 3) := dc_180 (a := 0) (b := 18) (by decide +kernel)
theorem dX2_addPoint_33 : decode cX2_addPoint 33 = .ok (.aload_n 0, 1) := dc_42 (by decide +kernel)
theorem dX2_addPoint_34 : decode cX2_addPoint 34 = .ok (.getfield 35, 3) := dc_180 (a := 0) (b := 35) (by decide +kernel)
theorem dX2_addPoint_37 : decode cX2_addPoint 37 = .ok (.iload_n 1, 1) := dc_27 (by decide +kernel)
theorem dX2_addPoint_38 : decode cX2_addPoint 38 = .ok (.iastore, 1) := dc_79 (by decide +kernel)
theorem dX2_addPoint_39 : decode cX2_addPoint 39 = .ok (.aload_n 0, 1) := dc_42 (by decide +kernel)
theorem dX2_addPoint_40 : decode cX2_addPoint 40 = .ok (.getfield 38, 3) := dc_180 (a := 0) (b := 38) (by decide +kernel)
theorem dX2_addPoint_43 : decode cX2_addPoint 43 = .ok (.aload_n 0, 1) := dc_42 (by decide +kernel)
theorem dX2_addPoint_44 : decode cX2_addPoint 44 = .ok (.getfield 35, 3) := dc_180 (a := 0) (b := 35) (by decide +kernel)
theorem dX2_addPoint_47 : decode cX2_addPoint 47 = .ok (.iconst 0, 1) := dc_3 (by decide +kernel)
theorem dX2_addPoint_48 : decode cX2_addPoint 48 = .ok (.bipush (-4), 2) := dc_16 (a := 252) (by decide +kernel) (by decide)
theorem dX2_addPoint_50 : decode cX2_addPoint 50 = .ok (.invokevirtual 52, 3) := dc_182 (a := 0) (b := 52) (by decide +kernel)
theorem dX2_addPoint_53 : decode cX2_addPoint 53 = .ok (.aload_n 0, 1) := dc_42 (by decide +kernel)
theorem dX2_addPoint_54 : decode cX2_addPoint 54 = .ok (.dup, 1) := dc_89 (by decide +kernel)
theorem dX2_addPoint_55 : decode cX2_addPoint 55 = .ok (.getfield 35, 3) := dc_180 (a := 0) (b := 35) (by decide +kernel)
theorem dX2_addPoint_58 : decode cX2_addPoint 58 = .ok (.iconst 1, 1) := dc_4 (by decide +kernel)
theorem dX2_addPoint_59 : decode cX2_addPoint 59 = .ok (.iadd, 1) := dc_96 (by decide +kernel)
theorem dX2_addPoint_60 : decode cX2_addPoint 60 = .ok (.putfield 35, 3) := dc_181 (a := 0) (b := 35) (by decide +kernel)
theorem dX2_addPoint_63 : decode cX2_addPoint 63 = .ok (.aload_n 0, 1) := dc_42 (by decide +kernel)
theorem dX2_addPoint_64 : decode cX2_addPoint 64 = .ok (.getfield 35, 3) := dc_180 (a := 0) (b := 35) (by decide +kernel)
theorem dX2_addPoint_67 : decode cX2_addPoint 67 = .ok (.iconst 1, 1) := dc_4 (by decide +kernel)
theorem dX2_addPoint_68 : decode cX2_addPoint 68 = .ok (.isub, 1) := dc_100 (by decide +kernel)
theorem dX2_addPoint_69 : decode cX2_addPoint 69 = .ok (.ireturn, 1) := dc_172 (by decide +kernel)
set_option maxRecDepth 100000 in
set_option maxHeartbeats 4000000 in
theorem m_Layout_addPoint (a1 : Int32) (S S' : SS) (r : Int32) (h : f_Layout_addPoint a1 S = some (r, S')) : MT yX2_addPoint cX2_addPoint 2 (some .int) 1 23 (fun ad => [.ref (ad 66), .int a1]) S (some (.int r)) S' := by
  refine MT.of RX2 (fun ad => [(0, .ref (ad 66)), (1, .int a1)]) (by decide) rfl (fun _ => Nat.le_of_ble_eq_true rfl) (fun _ => rfl) ?_
  intro p l e R s m args below meth c dC dI cs ad A hR1 hR2 F H locs ls w hl
  have hx := F.1.1
  have hb := F.1.2.1
  rw [f_Layout_addPoint] at h
  refine lv_aload_n (pc := 0) hx hb dX2_addPoint_0 rfl (lv_at hl 0 rfl) ?_
  refine s_getI (pc := 1) F w ds_66 (j := 8) vc_X2 vi_X2 rfl (by decide) kf_X2_35 dX2_addPoint_1 ?_
  refine lv_bipush (pc := 4) (v := 40) hx hb dX2_addPoint_4 (by decide) ?_
  refine lv_icmp_ge (pc := 6) (tgt := 16) hx hb dX2_addPoint_6 (by decide) (fun q => ?_) (fun q => ?_)
  · have h := ite_t q h
    refine lv_bipush (pc := 16) (v := -3) hx hb dX2_addPoint_16 (by decide) ?_
    exact s_iret F w h dX2_addPoint_18
  · have h := ite_f q h
    refine lv_iload_n (pc := 9) hx hb dX2_addPoint_9 rfl (lv_at hl 1 rfl) ?_
    obtain ⟨r2, S1, hc, h⟩ := bnd_t h
    refine s_csi (pc := 10) [.int a1] (fun ad => [.int a1]) F w (m_Layout_isEnd _ _ _ _ hc) rfl rfl hl.1 ok_X2_isEnd rfl kc_X2_isEnd kl_X2_48 ks_X2_isEnd kn_X2 ⟨Nat.le_trans (by decide) hR1, Nat.le_trans (by decide) hR2⟩ ⟨Nat.zero_le _, Nat.zero_le _⟩ (Nat.le_of_ble_eq_true rfl) dX2_addPoint_10 (fun H locs w => ?_)
    refine lv_if_ne (pc := 13) (tgt := 19) hx hb dX2_addPoint_13 (by decide) (fun q => ?_) (fun q => ?_)
    · have h := ite_f q h
      refine lv_aload_n (pc := 19) hx hb dX2_addPoint_19 rfl (lv_at hl 0 rfl) ?_
      refine s_getR (pc := 20) F w 94 ds_66 (j := 2) vc_X2 vi_X2 rfl (by decide) kf_X2_15 dX2_addPoint_20 ?_
      refine lv_iload_n (pc := 23) hx hb dX2_addPoint_23 rfl (lv_at hl 1 rfl) ?_
      refine lv_aload_n (pc := 24) hx hb dX2_addPoint_24 rfl (lv_at hl 0 rfl) ?_
      refine s_getI (pc := 25) F w ds_66 (j := 8) vc_X2 vi_X2 rfl (by decide) kf_X2_35 dX2_addPoint_25 ?_
      refine s_iast (pc := 28) F w ds_94 h dX2_addPoint_28 (fun S3 H locs h w => ?_)
      refine lv_aload_n (pc := 29) hx hb dX2_addPoint_29 rfl (lv_at hl 0 rfl) ?_
      refine s_getR (pc := 30) F w 95 ds_66 (j := 3) vc_X2 vi_X2 rfl (by decide) kf_X2_18 dX2_addPoint_30 ?_
      refine lv_aload_n (pc := 33) hx hb dX2_addPoint_33 rfl (lv_at hl 0 rfl) ?_
      refine s_getI (pc := 34) F w ds_66 (j := 8) vc_X2 vi_X2 rfl (by decide) kf_X2_35 dX2_addPoint_34 ?_
      refine lv_iload_n (pc := 37) hx hb dX2_addPoint_37 rfl (lv_at hl 1 rfl) ?_
      refine s_iast (pc := 38) F w ds_95 h dX2_addPoint_38 (fun S4 H locs h w => ?_)
      refine lv_aload_n (pc := 39) hx hb dX2_addPoint_39 rfl (lv_at hl 0 rfl) ?_
      refine s_getR (pc := 40) F w 63 ds_66 (j := 0) vc_X2 vi_X2 rfl (by decide) kf_X2_38 dX2_addPoint_40 ?_
      refine lv_aload_n (pc := 43) hx hb dX2_addPoint_43 rfl (lv_at hl 0 rfl) ?_
      refine s_getI (pc := 44) F w ds_66 (j := 8) vc_X2 vi_X2 rfl (by decide) kf_X2_35 dX2_addPoint_44 ?_
      refine lv_iconst (pc := 47) (v := 0) hx hb dX2_addPoint_47 (by decide) ?_
      refine lv_bipush (pc := 48) (v := -4) hx hb dX2_addPoint_48 (by decide) ?_
      obtain ⟨S5, hc, h⟩ := bndv_t h
      refine s_cvv (pc := 50) [.int (S4.1 66 8), .int (0 : Int32), .int (-4 : Int32)] (fun ad => [.ref (ad 63), .int (S4.1 66 8), .int (0 : Int32), .int (-4 : Int32)]) F w (m_State_setPoint _ _ _ _ _ hc) rfl rfl hl.1 ds_63 vc_X8 rfl ok_X8_setPoint rfl kc_X8_setPoint kl_X2_52 ki_X8_setPoint kv_X8_setPoint kn_X8 ⟨Nat.le_trans (by decide) hR1, Nat.le_trans (by decide) hR2⟩ ⟨Nat.zero_le _, Nat.zero_le _⟩ (Nat.le_of_ble_eq_true rfl) dX2_addPoint_50 (fun H locs w => ?_)
      refine lv_aload_n (pc := 53) hx hb dX2_addPoint_53 rfl (lv_at hl 0 rfl) ?_
      refine lv_dup (pc := 54) hx hb dX2_addPoint_54 rfl ?_
      refine s_getI (pc := 55) F w ds_66 (j := 8) vc_X2 vi_X2 rfl (by decide) kf_X2_35 dX2_addPoint_55 ?_
      refine lv_iconst (pc := 58) (v := 1) hx hb dX2_addPoint_58 (by decide) ?_
      refine lv_iadd (pc := 59) hx hb dX2_addPoint_59 ?_
      refine s_putI (pc := 60) F w ds_66 vc_X2 vi_X2 tyX2_ok nmX2 (j := 8) rfl (by decide) kf_X2_35 rfl pd_I h dX2_addPoint_60 (fun S6 H locs h w => ?_)
      refine lv_aload_n (pc := 63) hx hb dX2_addPoint_63 rfl (lv_at hl 0 rfl) ?_
      refine s_getI (pc := 64) F w ds_66 (j := 8) vc_X2 vi_X2 rfl (by decide) kf_X2_35 dX2_addPoint_64 ?_
      refine lv_iconst (pc := 67) (v := 1) hx hb dX2_addPoint_67 (by decide) ?_
      refine lv_isub (pc := 68) hx hb dX2_addPoint_68 ?_
      exact s_iret F w h dX2_addPoint_69
    · have h := ite_t q h
      refine lv_bipush (pc := 16) (v := -3) hx hb dX2_addPoint_16 (by decide) ?_
      exact s_iret F w h dX2_addPoint_18
def f_Layout_pointAt (a1 : Int32) (S : SS) : Option (Int32 × SS) :=
  if a1 < 0 then
    some ((-4 : Int32), S)
  else
    if (48 : Int32) ≤ a1 then
      some ((-4 : Int32), S)
    else
      grd (inb a1 48) (
      some (S.1 94 a1.toNatClampNeg, S))
theorem dX2_pointAt_0 : decode cX2_pointAt 0 = .ok (.iload_n 1, 1) := dc_27 (by decide +kernel)
theorem dX2_pointAt_1 : decode cX2_pointAt 1 = .ok (.ifCond .lt 18, 3) := dc_155 (a := 0) (b := 18) (by decide +kernel) (by decide)
theorem dX2_pointAt_4 : decode cX2_pointAt 4 = .ok (.iload_n 1, 1) := dc_27 (by decide +kernel)
theorem dX2_pointAt_5 : decode cX2_pointAt 5 = .ok (.bipush 48, 2) := dc_16 (a := 48) (by decide +kernel) (by decide)
theorem dX2_pointAt_7 : decode cX2_pointAt 7 = .ok (.if_icmp .ge 12, 3) := dc_162 (a := 0) (b := 12) (by decide +kernel) (by decide)
theorem dX2_pointAt_10 : decode cX2_pointAt 10 = .ok (.aload_n 0, 1) := dc_42 (by decide +kernel)
theorem dX2_pointAt_11 : decode cX2_pointAt 11 = .ok (.getfield 15, 3) := dc_180 (a := 0) (b := 15) (by decide +kernel)
theorem dX2_pointAt_14 : decode cX2_pointAt 14 = .ok (.iload_n 1, 1) := dc_27 (by decide +kernel)
theorem dX2_pointAt_15 : decode cX2_pointAt 15 = .ok (.iaload, 1) := dc_46 (by decide +kernel)
theorem dX2_pointAt_16 : decode cX2_pointAt 16 = .ok (.goto 5, 3) := dc_167 (a := 0) (b := 5) (by decide +kernel) (by decide)
theorem dX2_pointAt_19 : decode cX2_pointAt 19 = .ok (.bipush (-4), 2) := dc_16 (a := 252) (by decide +kernel) (by decide)
theorem dX2_pointAt_21 : decode cX2_pointAt 21 = .ok (.ireturn, 1) := dc_172 (by decide +kernel)
set_option maxRecDepth 100000 in
set_option maxHeartbeats 4000000 in
theorem m_Layout_pointAt (a1 : Int32) (S S' : SS) (r : Int32) (h : f_Layout_pointAt a1 S = some (r, S')) : MT yX2_pointAt cX2_pointAt 2 (some .int) 0 0 (fun ad => [.ref (ad 66), .int a1]) S (some (.int r)) S' := by
  refine MT.of RX2 (fun ad => [(0, .ref (ad 66)), (1, .int a1)]) (by decide) rfl (fun _ => Nat.le_of_ble_eq_true rfl) (fun _ => rfl) ?_
  intro p l e R s m args below meth c dC dI cs ad A hR1 hR2 F H locs ls w hl
  have hx := F.1.1
  have hb := F.1.2.1
  rw [f_Layout_pointAt] at h
  refine lv_iload_n (pc := 0) hx hb dX2_pointAt_0 rfl (lv_at hl 1 rfl) ?_
  refine lv_if_lt (pc := 1) (tgt := 19) hx hb dX2_pointAt_1 (by decide) (fun q => ?_) (fun q => ?_)
  · have h := ite_t q h
    refine lv_bipush (pc := 19) (v := -4) hx hb dX2_pointAt_19 (by decide) ?_
    exact s_iret F w h dX2_pointAt_21
  · have h := ite_f q h
    refine lv_iload_n (pc := 4) hx hb dX2_pointAt_4 rfl (lv_at hl 1 rfl) ?_
    refine lv_bipush (pc := 5) (v := 48) hx hb dX2_pointAt_5 (by decide) ?_
    refine lv_icmp_ge (pc := 7) (tgt := 19) hx hb dX2_pointAt_7 (by decide) (fun q => ?_) (fun q => ?_)
    · have h := ite_t q h
      refine lv_bipush (pc := 19) (v := -4) hx hb dX2_pointAt_19 (by decide) ?_
      exact s_iret F w h dX2_pointAt_21
    · have h := ite_f q h
      refine lv_aload_n (pc := 10) hx hb dX2_pointAt_10 rfl (lv_at hl 0 rfl) ?_
      refine s_getR (pc := 11) F w 94 ds_66 (j := 2) vc_X2 vi_X2 rfl (by decide) kf_X2_15 dX2_pointAt_11 ?_
      refine lv_iload_n (pc := 14) hx hb dX2_pointAt_14 rfl (lv_at hl 1 rfl) ?_
      refine s_iald (pc := 15) F w ds_94 h dX2_pointAt_15 (fun h => ?_)
      refine lv_goto (pc := 16) (tgt := 21) hx hb dX2_pointAt_16 (by decide) ?_
      exact s_iret F w h dX2_pointAt_21
def f_Yard_point_j66  (x1 : Int32) (x2 : Int32) (x3 : Int32) (S : SS) : Option (Int32 × SS) :=
    if x3 = 0 then
      bndv (f_History_forget  S) (fun S6 =>
      bnd (f_Layout_addPoint (((2 : Int32) * x1) + x2) S6) (fun r8 S7 =>
      some (r8, S7)))
    else
      bnd (f_Report_found x3 S) (fun r10 S9 =>
      some (r10, S9))
def f_Yard_point (a1 : Int32) (a2 : Int32) (S : SS) : Option (Int32 × SS) :=
  bnd (f_Yard_isNot a2 (0 : Int32) (1 : Int32) S) (fun r2 S1 =>
  if r2 = 0 then
    if (S1.1 66 8) < (40 : Int32) then
      bndv (f_Report_begin  S1) (fun S3 =>
      bnd (f_Layout_trackFinding a1 S3) (fun r5 S4 =>
      if r5 = 0 then
        bnd (f_Layout_pointAt (((2 : Int32) * a1) + a2) S4) (fun r12 S11 =>
        if r12 = (-4 : Int32) then
          f_Yard_point_j66 a1 a2 r5 S11
        else
          f_Yard_point_j66 a1 a2 (9 : Int32) S11)
      else
        f_Yard_point_j66 a1 a2 r5 S4))
    else
      some ((-3 : Int32), S1)
  else
    some ((-1 : Int32), S1))
theorem dX11_point_0 : decode cX11_point 0 = .ok (.iload_n 2, 1) := dc_28 (by decide +kernel)
theorem dX11_point_1 : decode cX11_point 1 = .ok (.iconst 0, 1) := dc_3 (by decide +kernel)
theorem dX11_point_2 : decode cX11_point 2 = .ok (.iconst 1, 1) := dc_4 (by decide +kernel)
theorem dX11_point_3 : decode cX11_point 3 = .ok (.invokestatic 108, 3) := dc_184 (a := 0) (b := 108) (by decide +kernel)
theorem dX11_point_6 : decode cX11_point 6 = .ok (.ifCond .eq 5, 3) := dc_153 (a := 0) (b := 5) (by decide +kernel) (by decide)
theorem dX11_point_9 : decode cX11_point 9 = .ok (.iconst (-1), 1) := dc_2 (by decide +kernel)
theorem dX11_point_10 : decode cX11_point 10 = .ok (.ireturn, 1) := dc_172 (by decide +kernel)
theorem dX11_point_11 : decode cX11_point 11 = .ok (.aload_n 0, 1) := dc_42 (by decide +kernel)
theorem dX11_point_12 : decode cX11_point 12 = .ok (.getfield 42, 3) := dc_180 (a := 0) (b := 42) (by decide +kernel)
theorem dX11_point_15 : decode cX11_point 15 = .ok (.getfield 112, 3) := dc_180 (a := 0) (b := 112) (by decide +kernel)
theorem dX11_point_18 : decode cX11_point 18 = .ok (.bipush 40, 2) := dc_16 (a := 40) (by decide +kernel) (by decide)
theorem dX11_point_20 : decode cX11_point 20 = .ok (.if_icmp .lt 6, 3) := dc_161 (a := 0) (b := 6) (by decide +kernel) (by decide)
theorem dX11_point_23 : decode cX11_point 23 = .ok (.bipush (-3), 2) := dc_16 (a := 253) (by decide +kernel) (by decide)
theorem dX11_point_25 : decode cX11_point 25 = .ok (.ireturn, 1) := dc_172 (by decide +kernel)
theorem dX11_point_26 : decode cX11_point 26 = .ok (.aload_n 0, 1) := dc_42 (by decide +kernel)
theorem dX11_point_27 : decode cX11_point 27 = .ok (.getfield 10, 3) := dc_180 (a := 0) (b := 10) (by decide +kernel)
theorem dX11_point_30 : decode cX11_point 30 = .ok (.invokevirtual 95, 3) := dc_182 (a := 0) (b := 95) (by decide +kernel)
theorem dX11_point_33 : decode cX11_point 33 = .ok (.aload_n 0, 1) := dc_42 (by decide +kernel)
theorem dX11_point_34 : decode cX11_point 34 = .ok (.getfield 42, 3) := dc_180 (a := 0) (b := 42) (by decide +kernel)
theorem dX11_point_37 : decode cX11_point 37 = .ok (.iload_n 1, 1) := dc_27 (by decide +kernel)
theorem dX11_point_38 : decode cX11_point 38 = .ok (.invokevirtual 115, 3) := dc_182 (a := 0) (b := 115) (by decide +kernel)
theorem dX11_point_41 : decode cX11_point 41 = .ok (.istore_n 3, 1) := dc_62 (by decide +kernel)
theorem dX11_point_42 : decode cX11_point 42 = .ok (.iload_n 3, 1) := dc_29 (by decide +kernel)
theorem dX11_point_43 : decode cX11_point 43 = .ok (.ifCond .ne 23, 3) := dc_154 (a := 0) (b := 23) (by decide +kernel) (by decide)
theorem dX11_point_46 : decode cX11_point 46 = .ok (.aload_n 0, 1) := dc_42 (by decide +kernel)
theorem dX11_point_47 : decode cX11_point 47 = .ok (.getfield 42, 3) := dc_180 (a := 0) (b := 42) (by decide +kernel)
theorem dX11_point_50 : decode cX11_point 50 = .ok (.iconst 2, 1) := dc_5 (by decide +kernel)
theorem dX11_point_51 : decode cX11_point 51 = .ok (.iload_n 1, 1) := dc_27 (by decide +kernel)
theorem dX11_point_52 : decode cX11_point 52 = .ok (.imul, 1) := dc_104 (by decide +kernel)
theorem dX11_point_53 : decode cX11_point 53 = .ok (.iload_n 2, 1) := dc_28 (by decide +kernel)
theorem dX11_point_54 : decode cX11_point 54 = .ok (.iadd, 1) := dc_96 (by decide +kernel)
theorem dX11_point_55 : decode cX11_point 55 = .ok (.invokevirtual 118, 3) := dc_182 (a := 0) (b := 118) (by decide +kernel)
theorem dX11_point_58 : decode cX11_point 58 = .ok (.bipush (-4), 2) := dc_16 (a := 252) (by decide +kernel) (by decide)
theorem dX11_point_60 : decode cX11_point 60 = .ok (.if_icmp .eq 6, 3) := dc_159 (a := 0) (b := 6) (by decide +kernel) (by decide)
theorem dX11_point_63 : decode cX11_point 63 = .ok (.bipush 9, 2) := dc_16 (a := 9) (by decide +kernel) (by decide)
theorem dX11_point_65 : decode cX11_point 65 = .ok (.istore_n 3, 1) := dc_62 (by decide +kernel)
theorem dX11_point_66 : decode cX11_point 66 = .ok (.iload_n 3, 1) := dc_29 (by decide +kernel)
theorem dX11_point_67 : decode cX11_point 67 = .ok (.ifCond .eq 12, 3) := dc_153 (a := 0) (b := 12) (by decide +kernel) (by decide)
theorem dX11_point_70 : decode cX11_point 70 = .ok (.aload_n 0, 1) := dc_42 (by decide +kernel)
theorem dX11_point_71 : decode cX11_point 71 = .ok (.getfield 10, 3) := dc_180 (a := 0) (b := 10) (by decide +kernel)
theorem dX11_point_74 : decode cX11_point 74 = .ok (.iload_n 3, 1) := dc_29 (by decide +kernel)
theorem dX11_point_75 : decode cX11_point 75 = .ok (.invokevirtual 98, 3) := dc_182 (a := 0) (b := 98) (by decide +kernel)
theorem dX11_point_78 : decode cX11_point 78 = .ok (.ireturn, 1) := dc_172 (by decide +kernel)
theorem dX11_point_79 : decode cX11_point 79 = .ok (.aload_n 0, 1) := dc_42 (by decide +kernel)
theorem dX11_point_80 : decode cX11_point 80 = .ok (.getfield 26, 3) := dc_180 (a := 0) (b := 26) (by decide +kernel)
theorem dX11_point_83 : decode cX11_point 83 = .ok (.invokevirtual 102, 3) := dc_182 (a := 0) (b := 102) (by decide +kernel)
theorem dX11_point_86 : decode cX11_point 86 = .ok (.aload_n 0, 1) := dc_42 (by decide +kernel)
theorem dX11_point_87 : decode cX11_point 87 = .ok (.getfield 42, 3) := dc_180 (a := 0) (b := 42) (by decide +kernel)
theorem dX11_point_90 : decode cX11_point 90 = .ok (.iconst 2, 1) := dc_5 (by decide +kernel)
theorem dX11_point_91 : decode cX11_point 91 = .ok (.iload_n 1, 1) := dc_27 (by decide +kernel)
theorem dX11_point_92 : decode cX11_point 92 = .ok (.imul, 1) := dc_104 (by decide +kernel)
theorem dX11_point_93 : decode cX11_point 93 = .ok (.iload_n 2, 1) := dc_28 (by decide +kernel)
theorem dX11_point_94 : decode cX11_point 94 = .ok (.iadd, 1) := dc_96 (by decide +kernel)
theorem dX11_point_95 : decode cX11_point 95 = .ok (.invokevirtual 121, 3) := dc_182 (a := 0) (b := 121) (by decide +kernel)
theorem dX11_point_98 : decode cX11_point 98 = .ok (.ireturn, 1) := dc_172 (by decide +kernel)
set_option maxRecDepth 100000 in
set_option maxHeartbeats 4000000 in
theorem w_Yard_point_j66 {p : Program} {l : Launch} {e : Env} {R : Room} {s : State} {m : MethodId} {args : Array Value} {below : List Frame} {meth : Method} {c : Code} {dC : Nat → ClassId} {dI : Nat → Nat → Nat} {cs : Nat → ClassId} {ad : Nat → Nat} {A : Nat → Prop} {D0 : Nat → Nat} {S' : SS} {r : Int32} (F : Fx p s m args meth c cX11_point 4 RX11 (some .int) dC dI cs A) (hR1 : 2 ≤ R.frames) (hR2 : 44 ≤ R.locals) (x1 : Int32) (x2 : Int32) (x3 : Int32) (S : SS) (h : f_Yard_point_j66 x1 x2 x3 S = some (r, S')) : AW p l e R s m args below meth c dC dI cs ad A D0 (some (.int r)) S' 4 66 [(0, .ref (ad 61)), (1, .int x1), (2, .int x2), (3, .int x3)] [] S := by
  have hx := F.1.1
  have hb := F.1.2.1
  intro H locs ls w hl
  rw [f_Yard_point_j66] at h
  refine lv_iload_n (pc := 66) hx hb dX11_point_66 rfl (lv_at hl 3 rfl) ?_
  refine lv_if_eq (pc := 67) (tgt := 79) hx hb dX11_point_67 (by decide) (fun q => ?_) (fun q => ?_)
  · have h := ite_t q h
    refine lv_aload_n (pc := 79) hx hb dX11_point_79 rfl (lv_at hl 0 rfl) ?_
    refine s_getR (pc := 80) F w 64 ds_61 (j := 2) vc_X11 vi_X11 rfl (by decide) kf_X11_26 dX11_point_80 ?_
    obtain ⟨S6, hc, h⟩ := bndv_t h
    refine s_cvv (pc := 83) [] (fun ad => [.ref (ad 64)]) F w (m_History_forget  _ _ hc) rfl rfl hl.1 ds_64 vc_X1 rfl ok_X1_forget rfl kc_X1_forget kl_X11_102 ki_X1_forget kv_X1_forget kn_X1 ⟨Nat.le_trans (by decide) hR1, Nat.le_trans (by decide) hR2⟩ ⟨Nat.zero_le _, Nat.zero_le _⟩ (Nat.le_of_ble_eq_true rfl) dX11_point_83 (fun H locs w => ?_)
    refine lv_aload_n (pc := 86) hx hb dX11_point_86 rfl (lv_at hl 0 rfl) ?_
    refine s_getR (pc := 87) F w 66 ds_61 (j := 4) vc_X11 vi_X11 rfl (by decide) kf_X11_42 dX11_point_87 ?_
    refine lv_iconst (pc := 90) (v := 2) hx hb dX11_point_90 (by decide) ?_
    refine lv_iload_n (pc := 91) hx hb dX11_point_91 rfl (lv_at hl 1 rfl) ?_
    refine lv_imul (pc := 92) hx hb dX11_point_92 ?_
    refine lv_iload_n (pc := 93) hx hb dX11_point_93 rfl (lv_at hl 2 rfl) ?_
    refine lv_iadd (pc := 94) hx hb dX11_point_94 ?_
    obtain ⟨r8, S7, hc, h⟩ := bnd_t h
    refine s_cvi (pc := 95) [.int (((2 : Int32) * x1) + x2)] (fun ad => [.ref (ad 66), .int (((2 : Int32) * x1) + x2)]) F w (m_Layout_addPoint _ _ _ _ hc) rfl rfl hl.1 ds_66 vc_X2 rfl ok_X2_addPoint rfl kc_X2_addPoint kl_X11_121 ki_X2_addPoint kv_X2_addPoint kn_X2 ⟨Nat.le_trans (by decide) hR1, Nat.le_trans (by decide) hR2⟩ ⟨Nat.zero_le _, Nat.zero_le _⟩ (Nat.le_of_ble_eq_true rfl) dX11_point_95 (fun H locs w => ?_)
    exact s_iret F w h dX11_point_98
  · have h := ite_f q h
    refine lv_aload_n (pc := 70) hx hb dX11_point_70 rfl (lv_at hl 0 rfl) ?_
    refine s_getR (pc := 71) F w 62 ds_61 (j := 0) vc_X11 vi_X11 rfl (by decide) kf_X11_10 dX11_point_71 ?_
    refine lv_iload_n (pc := 74) hx hb dX11_point_74 rfl (lv_at hl 3 rfl) ?_
    obtain ⟨r10, S9, hc, h⟩ := bnd_t h
    refine s_cvi (pc := 75) [.int x3] (fun ad => [.ref (ad 62), .int x3]) F w (m_Report_found _ _ _ _ hc) rfl rfl hl.1 ds_62 vc_X5 rfl ok_X5_found rfl kc_X5_found kl_X11_98 ki_X5_found kv_X5_found kn_X5 ⟨Nat.le_trans (by decide) hR1, Nat.le_trans (by decide) hR2⟩ ⟨Nat.zero_le _, Nat.zero_le _⟩ (Nat.le_of_ble_eq_true rfl) dX11_point_75 (fun H locs w => ?_)
    exact s_iret F w h dX11_point_78
set_option maxRecDepth 100000 in
set_option maxHeartbeats 4000000 in
theorem m_Yard_point (a1 : Int32) (a2 : Int32) (S S' : SS) (r : Int32) (h : f_Yard_point a1 a2 S = some (r, S')) : MT yX11_point cX11_point 4 (some .int) 2 44 (fun ad => [.ref (ad 61), .int a1, .int a2]) S (some (.int r)) S' := by
  refine MT.of RX11 (fun ad => [(0, .ref (ad 61)), (1, .int a1), (2, .int a2)]) (by decide) rfl (fun _ => Nat.le_of_ble_eq_true rfl) (fun _ => rfl) ?_
  intro p l e R s m args below meth c dC dI cs ad A hR1 hR2 F H locs ls w hl
  have hx := F.1.1
  have hb := F.1.2.1
  rw [f_Yard_point] at h
  refine lv_iload_n (pc := 0) hx hb dX11_point_0 rfl (lv_at hl 2 rfl) ?_
  refine lv_iconst (pc := 1) (v := 0) hx hb dX11_point_1 (by decide) ?_
  refine lv_iconst (pc := 2) (v := 1) hx hb dX11_point_2 (by decide) ?_
  obtain ⟨r2, S1, hc, h⟩ := bnd_t h
  refine s_csi (pc := 3) [.int a2, .int (0 : Int32), .int (1 : Int32)] (fun ad => [.int a2, .int (0 : Int32), .int (1 : Int32)]) F w (m_Yard_isNot _ _ _ _ _ _ hc) rfl rfl hl.1 ok_X11_isNot rfl kc_X11_isNot kl_X11_108 ks_X11_isNot kn_X11 ⟨Nat.le_trans (by decide) hR1, Nat.le_trans (by decide) hR2⟩ ⟨Nat.zero_le _, Nat.zero_le _⟩ (Nat.le_of_ble_eq_true rfl) dX11_point_3 (fun H locs w => ?_)
  refine lv_if_eq (pc := 6) (tgt := 11) hx hb dX11_point_6 (by decide) (fun q => ?_) (fun q => ?_)
  · have h := ite_t q h
    refine lv_aload_n (pc := 11) hx hb dX11_point_11 rfl (lv_at hl 0 rfl) ?_
    refine s_getR (pc := 12) F w 66 ds_61 (j := 4) vc_X11 vi_X11 rfl (by decide) kf_X11_42 dX11_point_12 ?_
    refine s_getI (pc := 15) F w ds_66 (j := 8) vc_X2 vi_X2 rfl (by decide) kf_X11_112 dX11_point_15 ?_
    refine lv_bipush (pc := 18) (v := 40) hx hb dX11_point_18 (by decide) ?_
    refine lv_icmp_lt (pc := 20) (tgt := 26) hx hb dX11_point_20 (by decide) (fun q => ?_) (fun q => ?_)
    · have h := ite_t q h
      refine lv_aload_n (pc := 26) hx hb dX11_point_26 rfl (lv_at hl 0 rfl) ?_
      refine s_getR (pc := 27) F w 62 ds_61 (j := 0) vc_X11 vi_X11 rfl (by decide) kf_X11_10 dX11_point_27 ?_
      obtain ⟨S3, hc, h⟩ := bndv_t h
      refine s_cvv (pc := 30) [] (fun ad => [.ref (ad 62)]) F w (m_Report_begin  _ _ hc) rfl rfl hl.1 ds_62 vc_X5 rfl ok_X5_begin rfl kc_X5_begin kl_X11_95 ki_X5_begin kv_X5_begin kn_X5 ⟨Nat.le_trans (by decide) hR1, Nat.le_trans (by decide) hR2⟩ ⟨Nat.zero_le _, Nat.zero_le _⟩ (Nat.le_of_ble_eq_true rfl) dX11_point_30 (fun H locs w => ?_)
      refine lv_aload_n (pc := 33) hx hb dX11_point_33 rfl (lv_at hl 0 rfl) ?_
      refine s_getR (pc := 34) F w 66 ds_61 (j := 4) vc_X11 vi_X11 rfl (by decide) kf_X11_42 dX11_point_34 ?_
      refine lv_iload_n (pc := 37) hx hb dX11_point_37 rfl (lv_at hl 1 rfl) ?_
      obtain ⟨r5, S4, hc, h⟩ := bnd_t h
      refine s_cvi (pc := 38) [.int a1] (fun ad => [.ref (ad 66), .int a1]) F w (m_Layout_trackFinding _ _ _ _ hc) rfl rfl hl.1 ds_66 vc_X2 rfl ok_X2_trackFinding rfl kc_X2_trackFinding kl_X11_115 ki_X2_trackFinding kv_X2_trackFinding kn_X2 ⟨Nat.le_trans (by decide) hR1, Nat.le_trans (by decide) hR2⟩ ⟨Nat.zero_le _, Nat.zero_le _⟩ (Nat.le_of_ble_eq_true rfl) dX11_point_38 (fun H locs w => ?_)
      refine lv_istore_n (pc := 41) (lv' := [(3, .int r5), (0, .ref (ad 61)), (1, .int a1), (2, .int a2)]) hx hb dX11_point_41 rfl hl (by decide) rfl (fun ls hl => ?_)
      refine lv_iload_n (pc := 42) hx hb dX11_point_42 rfl (lv_at hl 0 rfl) ?_
      refine lv_if_ne (pc := 43) (tgt := 66) hx hb dX11_point_43 (by decide) (fun q => ?_) (fun q => ?_)
      · have h := ite_f q h
        exact w_Yard_point_j66 F (Nat.le_trans (by decide) hR1) (Nat.le_trans (by decide) hR2) _ _ _ _ h _ _ _ w (lv_sub hl [1, 2, 3, 0] rfl)
      · have h := ite_t q h
        refine lv_aload_n (pc := 46) hx hb dX11_point_46 rfl (lv_at hl 1 rfl) ?_
        refine s_getR (pc := 47) F w 66 ds_61 (j := 4) vc_X11 vi_X11 rfl (by decide) kf_X11_42 dX11_point_47 ?_
        refine lv_iconst (pc := 50) (v := 2) hx hb dX11_point_50 (by decide) ?_
        refine lv_iload_n (pc := 51) hx hb dX11_point_51 rfl (lv_at hl 2 rfl) ?_
        refine lv_imul (pc := 52) hx hb dX11_point_52 ?_
        refine lv_iload_n (pc := 53) hx hb dX11_point_53 rfl (lv_at hl 3 rfl) ?_
        refine lv_iadd (pc := 54) hx hb dX11_point_54 ?_
        obtain ⟨r12, S11, hc, h⟩ := bnd_t h
        refine s_cvi (pc := 55) [.int (((2 : Int32) * a1) + a2)] (fun ad => [.ref (ad 66), .int (((2 : Int32) * a1) + a2)]) F w (m_Layout_pointAt _ _ _ _ hc) rfl rfl hl.1 ds_66 vc_X2 rfl ok_X2_pointAt rfl kc_X2_pointAt kl_X11_118 ki_X2_pointAt kv_X2_pointAt kn_X2 ⟨Nat.le_trans (by decide) hR1, Nat.le_trans (by decide) hR2⟩ ⟨Nat.zero_le _, Nat.zero_le _⟩ (Nat.le_of_ble_eq_true rfl) dX11_point_55 (fun H locs w => ?_)
        refine lv_bipush (pc := 58) (v := -4) hx hb dX11_point_58 (by decide) ?_
        refine lv_icmp_eq (pc := 60) (tgt := 66) hx hb dX11_point_60 (by decide) (fun q => ?_) (fun q => ?_)
        · have h := ite_t q h
          exact w_Yard_point_j66 F (Nat.le_trans (by decide) hR1) (Nat.le_trans (by decide) hR2) _ _ _ _ h _ _ _ w (lv_sub hl [1, 2, 3, 0] rfl)
        · have h := ite_f q h
          refine lv_bipush (pc := 63) (v := 9) hx hb dX11_point_63 (by decide) ?_
          refine lv_istore_n (pc := 65) (lv' := [(3, .int (9 : Int32)), (0, .ref (ad 61)), (1, .int a1), (2, .int a2)]) hx hb dX11_point_65 rfl hl (by decide) rfl (fun ls hl => ?_)
          exact w_Yard_point_j66 F (Nat.le_trans (by decide) hR1) (Nat.le_trans (by decide) hR2) _ _ _ _ h _ _ _ w (lv_sub hl [1, 2, 3, 0] rfl)
    · have h := ite_f q h
      refine lv_bipush (pc := 23) (v := -3) hx hb dX11_point_23 (by decide) ?_
      exact s_iret F w h dX11_point_25
  · have h := ite_f q h
    refine lv_iconst (pc := 9) (v := -1) hx hb dX11_point_9 (by decide) ?_
    exact s_iret F w h dX11_point_10
def f_Layout_addLink (a1 : Int32) (a2 : Int32) (S : SS) : Option (SS) :=
  bnd (f_Layout_isEnd a1 S) (fun r2 S1 =>
  if r2 = 0 then
    some S1
  else
    grd (inb a1 48) (
    if (3 : Int32) ≤ (S1.1 96 a1.toNatClampNeg) then
      some S1
    else
      grd (inb a1 48) (
      grd (inb (((3 : Int32) * a1) + (S1.1 96 a1.toNatClampNeg)) 144) (wr S1 97 (((3 : Int32) * a1) + (S1.1 96 a1.toNatClampNeg)).toNatClampNeg a2 (fun S3 =>
      grd (inb a1 48) (
      grd (inb a1 48) (wr S3 96 a1.toNatClampNeg ((S3.1 96 a1.toNatClampNeg) + (1 : Int32)) (fun S4 =>
      some S4))))))))
theorem dX2_addLink_0 : decode cX2_addLink 0 = .ok (.iload_n 1, 1) := dc_27 (by decide +kernel)
theorem dX2_addLink_1 : decode cX2_addLink 1 = .ok (.invokestatic 48, 3) := dc_184 (a := 0) (b := 48) (by decide +kernel)
theorem dX2_addLink_4 : decode cX2_addLink 4 = .ok (.ifCond .eq 39, 3) := dc_153 (a := 0) (b := 39) (by decide +kernel) (by decide)
theorem dX2_addLink_7 : decode cX2_addLink 7 = .ok (.aload_n 0, 1) := dc_42 (by decide +kernel)
theorem dX2_addLink_8 : decode cX2_addLink 8 = .ok (.getfield 21, 3) := dc_180 (a := 0) (b := 21) (by decide +kernel)
theorem dX2_addLink_11 : decode cX2_addLink 11 = .ok (.iload_n 1, 1) := dc_27 (by decide +kernel)
theorem dX2_addLink_12 : decode cX2_addLink 12 = .ok (.iaload, 1) := dc_46 (by decide +kernel)
theorem dX2_addLink_13 : decode cX2_addLink 13 = .ok (.iconst 3, 1) := dc_6 (by decide +kernel)
theorem dX2_addLink_14 : decode cX2_addLink 14 = .ok (.if_icmp .ge 29, 3) := dc_162 (a := 0) (b := 29) (by decide +kernel) (by decide)
theorem dX2_addLink_17 : decode cX2_addLink 17 = .ok (.aload_n 0, 1) := dc_42 (by decide +kernel)
theorem dX2_addLink_18 : decode cX2_addLink 18 = .ok (.getfield 24, 3) := dc_180 (a := 0) (b := 24) (by decide +kernel)
theorem dX2_addLink_21 : decode cX2_addLink 21 = .ok (.iconst 3, 1) := dc_6 (by decide +kernel)
theorem dX2_addLink_22 : decode cX2_addLink 22 = .ok (.iload_n 1, 1) := dc_27 (by decide +kernel)
theorem dX2_addLink_23 : decode cX2_addLink 23 = .ok (.imul, 1) := dc_104 (by decide +kernel)
theorem dX2_addLink_24 : decode cX2_addLink 24 = .ok (.aload_n 0, 1) := dc_42 (by decide +kernel)
theorem dX2_addLink_25 : decode cX2_addLink 25 = .ok (.getfield 21, 3) := dc_180 (a := 0) (b := 21) (by decide +kernel)
theorem dX2_addLink_28 : decode cX2_addLink 28 = .ok (.iload_n 1, 1) := dc_27 (by decide +kernel)
theorem dX2_addLink_29 : decode cX2_addLink 29 = .ok (.iaload, 1) := dc_46 (by decide +kernel)
theorem dX2_addLink_30 : decode cX2_addLink 30 = .ok (.iadd, 1) := dc_96 (by decide +kernel)
theorem dX2_addLink_31 : decode cX2_addLink 31 = .ok (.iload_n 2, 1) := dc_28 (by decide +kernel)
theorem dX2_addLink_32 : decode cX2_addLink 32 = .ok (.iastore, 1) := dc_79 (by decide +kernel)
theorem dX2_addLink_33 : decode cX2_addLink 33 = .ok (.aload_n 0, 1) := dc_42 (by decide +kernel)
theorem dX2_addLink_34 : decode cX2_addLink 34 = .ok (.getfield 21, 3) := dc_180 (a := 0) (b := 21) (by decide +kernel)
theorem dX2_addLink_37 : decode cX2_addLink 37 = .ok (.iload_n 1, 1) := dc_27 (by decide +kernel)
theorem dX2_addLink_38 : decode cX2_addLink 38 = .ok (.dup2, 1) := dc_92 (by decide +kernel)
theorem dX2_addLink_39 : decode cX2_addLink 39 = .ok (.iaload, 1) := dc_46 (by decide +kernel)
theorem dX2_addLink_40 : decode cX2_addLink 40 = .ok (.iconst 1, 1) := dc_4 (by decide +kernel)
theorem dX2_addLink_41 : decode cX2_addLink 41 = .ok (.iadd, 1) := dc_96 (by decide +kernel)
theorem dX2_addLink_42 : decode cX2_addLink 42 = .ok (.iastore, 1) := dc_79 (by decide +kernel)
theorem dX2_addLink_43 : decode cX2_addLink 43 = .ok (.return_, 1) := dc_177 (by decide +kernel)
set_option maxRecDepth 100000 in
set_option maxHeartbeats 4000000 in
theorem m_Layout_addLink (a1 : Int32) (a2 : Int32) (S S' : SS) (h : f_Layout_addLink a1 a2 S = some S') : MT yX2_addLink cX2_addLink 3 none 1 20 (fun ad => [.ref (ad 66), .int a1, .int a2]) S none S' := by
  refine MT.of RX2 (fun ad => [(0, .ref (ad 66)), (1, .int a1), (2, .int a2)]) (by decide) rfl (fun _ => Nat.le_of_ble_eq_true rfl) (fun _ => rfl) ?_
  intro p l e R s m args below meth c dC dI cs ad A hR1 hR2 F H locs ls w hl
  have hx := F.1.1
  have hb := F.1.2.1
  rw [f_Layout_addLink] at h
  refine lv_iload_n (pc := 0) hx hb dX2_addLink_0 rfl (lv_at hl 1 rfl) ?_
  obtain ⟨r2, S1, hc, h⟩ := bnd_t h
  refine s_csi (pc := 1) [.int a1] (fun ad => [.int a1]) F w (m_Layout_isEnd _ _ _ _ hc) rfl rfl hl.1 ok_X2_isEnd rfl kc_X2_isEnd kl_X2_48 ks_X2_isEnd kn_X2 ⟨Nat.le_trans (by decide) hR1, Nat.le_trans (by decide) hR2⟩ ⟨Nat.zero_le _, Nat.zero_le _⟩ (Nat.le_of_ble_eq_true rfl) dX2_addLink_1 (fun H locs w => ?_)
  refine lv_if_eq (pc := 4) (tgt := 43) hx hb dX2_addLink_4 (by decide) (fun q => ?_) (fun q => ?_)
  · have h := ite_t q h
    exact s_vret F w h dX2_addLink_43
  · have h := ite_f q h
    refine lv_aload_n (pc := 7) hx hb dX2_addLink_7 rfl (lv_at hl 0 rfl) ?_
    refine s_getR (pc := 8) F w 96 ds_66 (j := 4) vc_X2 vi_X2 rfl (by decide) kf_X2_21 dX2_addLink_8 ?_
    refine lv_iload_n (pc := 11) hx hb dX2_addLink_11 rfl (lv_at hl 1 rfl) ?_
    refine s_iald (pc := 12) F w ds_96 h dX2_addLink_12 (fun h => ?_)
    refine lv_iconst (pc := 13) (v := 3) hx hb dX2_addLink_13 (by decide) ?_
    refine lv_icmp_ge (pc := 14) (tgt := 43) hx hb dX2_addLink_14 (by decide) (fun q => ?_) (fun q => ?_)
    · have h := ite_t q h
      exact s_vret F w h dX2_addLink_43
    · have h := ite_f q h
      refine lv_aload_n (pc := 17) hx hb dX2_addLink_17 rfl (lv_at hl 0 rfl) ?_
      refine s_getR (pc := 18) F w 97 ds_66 (j := 5) vc_X2 vi_X2 rfl (by decide) kf_X2_24 dX2_addLink_18 ?_
      refine lv_iconst (pc := 21) (v := 3) hx hb dX2_addLink_21 (by decide) ?_
      refine lv_iload_n (pc := 22) hx hb dX2_addLink_22 rfl (lv_at hl 1 rfl) ?_
      refine lv_imul (pc := 23) hx hb dX2_addLink_23 ?_
      refine lv_aload_n (pc := 24) hx hb dX2_addLink_24 rfl (lv_at hl 0 rfl) ?_
      refine s_getR (pc := 25) F w 96 ds_66 (j := 4) vc_X2 vi_X2 rfl (by decide) kf_X2_21 dX2_addLink_25 ?_
      refine lv_iload_n (pc := 28) hx hb dX2_addLink_28 rfl (lv_at hl 1 rfl) ?_
      refine s_iald (pc := 29) F w ds_96 h dX2_addLink_29 (fun h => ?_)
      refine lv_iadd (pc := 30) hx hb dX2_addLink_30 ?_
      refine lv_iload_n (pc := 31) hx hb dX2_addLink_31 rfl (lv_at hl 2 rfl) ?_
      refine s_iast (pc := 32) F w ds_97 h dX2_addLink_32 (fun S3 H locs h w => ?_)
      refine lv_aload_n (pc := 33) hx hb dX2_addLink_33 rfl (lv_at hl 0 rfl) ?_
      refine s_getR (pc := 34) F w 96 ds_66 (j := 4) vc_X2 vi_X2 rfl (by decide) kf_X2_21 dX2_addLink_34 ?_
      refine lv_iload_n (pc := 37) hx hb dX2_addLink_37 rfl (lv_at hl 1 rfl) ?_
      refine lv_dup2_11 (pc := 38) hx hb dX2_addLink_38 rfl rfl ?_
      refine s_iald (pc := 39) F w ds_96 h dX2_addLink_39 (fun h => ?_)
      refine lv_iconst (pc := 40) (v := 1) hx hb dX2_addLink_40 (by decide) ?_
      refine lv_iadd (pc := 41) hx hb dX2_addLink_41 ?_
      refine s_iast (pc := 42) F w ds_96 h dX2_addLink_42 (fun S4 H locs h w => ?_)
      exact s_vret F w h dX2_addLink_43
def f_Layout_join (a1 : Int32) (a2 : Int32) (S : SS) : Option (SS) :=
  bndv (f_Layout_addLink a1 a2 S) (fun S1 =>
  bndv (f_Layout_addLink a2 a1 S1) (fun S2 =>
  some S2))
theorem dX2_join_0 : decode cX2_join 0 = .ok (.aload_n 0, 1) := dc_42 (by decide +kernel)
theorem dX2_join_1 : decode cX2_join 1 = .ok (.iload_n 1, 1) := dc_27 (by decide +kernel)
theorem dX2_join_2 : decode cX2_join 2 = .ok (.iload_n 2, 1) := dc_28 (by decide +kernel)
theorem dX2_join_3 : decode cX2_join 3 = .ok (.invokevirtual 78, 3) := dc_182 (a := 0) (b := 78) (by decide +kernel)
theorem dX2_join_6 : decode cX2_join 6 = .ok (.aload_n 0, 1) := dc_42 (by decide +kernel)
theorem dX2_join_7 : decode cX2_join 7 = .ok (.iload_n 2, 1) := dc_28 (by decide +kernel)
theorem dX2_join_8 : decode cX2_join 8 = .ok (.iload_n 1, 1) := dc_27 (by decide +kernel)
theorem dX2_join_9 : decode cX2_join 9 = .ok (.invokevirtual 78, 3) := dc_182 (a := 0) (b := 78) (by decide +kernel)
theorem dX2_join_12 : decode cX2_join 12 = .ok (.return_, 1) := dc_177 (by decide +kernel)
set_option maxRecDepth 100000 in
set_option maxHeartbeats 4000000 in
theorem m_Layout_join (a1 : Int32) (a2 : Int32) (S S' : SS) (h : f_Layout_join a1 a2 S = some S') : MT yX2_join cX2_join 3 none 2 42 (fun ad => [.ref (ad 66), .int a1, .int a2]) S none S' := by
  refine MT.of RX2 (fun ad => [(0, .ref (ad 66)), (1, .int a1), (2, .int a2)]) (by decide) rfl (fun _ => Nat.le_of_ble_eq_true rfl) (fun _ => rfl) ?_
  intro p l e R s m args below meth c dC dI cs ad A hR1 hR2 F H locs ls w hl
  have hx := F.1.1
  have hb := F.1.2.1
  rw [f_Layout_join] at h
  refine lv_aload_n (pc := 0) hx hb dX2_join_0 rfl (lv_at hl 0 rfl) ?_
  refine lv_iload_n (pc := 1) hx hb dX2_join_1 rfl (lv_at hl 1 rfl) ?_
  refine lv_iload_n (pc := 2) hx hb dX2_join_2 rfl (lv_at hl 2 rfl) ?_
  obtain ⟨S1, hc, h⟩ := bndv_t h
  refine s_cvv (pc := 3) [.int a1, .int a2] (fun ad => [.ref (ad 66), .int a1, .int a2]) F w (m_Layout_addLink _ _ _ _ hc) rfl rfl hl.1 ds_66 vc_X2 rfl ok_X2_addLink rfl kc_X2_addLink kl_X2_78 ki_X2_addLink kv_X2_addLink kn_X2 ⟨Nat.le_trans (by decide) hR1, Nat.le_trans (by decide) hR2⟩ ⟨Nat.zero_le _, Nat.zero_le _⟩ (Nat.le_of_ble_eq_true rfl) dX2_join_3 (fun H locs w => ?_)
  refine lv_aload_n (pc := 6) hx hb dX2_join_6 rfl (lv_at hl 0 rfl) ?_
  refine lv_iload_n (pc := 7) hx hb dX2_join_7 rfl (lv_at hl 2 rfl) ?_
  refine lv_iload_n (pc := 8) hx hb dX2_join_8 rfl (lv_at hl 1 rfl) ?_
  obtain ⟨S2, hc, h⟩ := bndv_t h
  refine s_cvv (pc := 9) [.int a2, .int a1] (fun ad => [.ref (ad 66), .int a2, .int a1]) F w (m_Layout_addLink _ _ _ _ hc) rfl rfl hl.1 ds_66 vc_X2 rfl ok_X2_addLink rfl kc_X2_addLink kl_X2_78 ki_X2_addLink kv_X2_addLink kn_X2 ⟨Nat.le_trans (by decide) hR1, Nat.le_trans (by decide) hR2⟩ ⟨Nat.zero_le _, Nat.zero_le _⟩ (Nat.le_of_ble_eq_true rfl) dX2_join_9 (fun H locs w => ?_)
  exact s_vret F w h dX2_join_12
def f_Layout_linksAt (a1 : Int32) (S : SS) : Option (Int32 × SS) :=
  if a1 < 0 then
    some ((0 : Int32), S)
  else
    if (48 : Int32) ≤ a1 then
      some ((0 : Int32), S)
    else
      grd (inb a1 48) (
      some (S.1 96 a1.toNatClampNeg, S))
theorem dX2_linksAt_0 : decode cX2_linksAt 0 = .ok (.iload_n 1, 1) := dc_27 (by decide +kernel)
theorem dX2_linksAt_1 : decode cX2_linksAt 1 = .ok (.ifCond .lt 18, 3) := dc_155 (a := 0) (b := 18) (by decide +kernel) (by decide)
theorem dX2_linksAt_4 : decode cX2_linksAt 4 = .ok (.iload_n 1, 1) := dc_27 (by decide +kernel)
theorem dX2_linksAt_5 : decode cX2_linksAt 5 = .ok (.bipush 48, 2) := dc_16 (a := 48) (by decide +kernel) (by decide)
theorem dX2_linksAt_7 : decode cX2_linksAt 7 = .ok (.if_icmp .ge 12, 3) := dc_162 (a := 0) (b := 12) (by decide +kernel) (by decide)
theorem dX2_linksAt_10 : decode cX2_linksAt 10 = .ok (.aload_n 0, 1) := dc_42 (by decide +kernel)
theorem dX2_linksAt_11 : decode cX2_linksAt 11 = .ok (.getfield 21, 3) := dc_180 (a := 0) (b := 21) (by decide +kernel)
theorem dX2_linksAt_14 : decode cX2_linksAt 14 = .ok (.iload_n 1, 1) := dc_27 (by decide +kernel)
theorem dX2_linksAt_15 : decode cX2_linksAt 15 = .ok (.iaload, 1) := dc_46 (by decide +kernel)
theorem dX2_linksAt_16 : decode cX2_linksAt 16 = .ok (.goto 4, 3) := dc_167 (a := 0) (b := 4) (by decide +kernel) (by decide)
theorem dX2_linksAt_19 : decode cX2_linksAt 19 = .ok (.iconst 0, 1) := dc_3 (by decide +kernel)
theorem dX2_linksAt_20 : decode cX2_linksAt 20 = .ok (.ireturn, 1) := dc_172 (by decide +kernel)
set_option maxRecDepth 100000 in
set_option maxHeartbeats 4000000 in
theorem m_Layout_linksAt (a1 : Int32) (S S' : SS) (r : Int32) (h : f_Layout_linksAt a1 S = some (r, S')) : MT yX2_linksAt cX2_linksAt 2 (some .int) 0 0 (fun ad => [.ref (ad 66), .int a1]) S (some (.int r)) S' := by
  refine MT.of RX2 (fun ad => [(0, .ref (ad 66)), (1, .int a1)]) (by decide) rfl (fun _ => Nat.le_of_ble_eq_true rfl) (fun _ => rfl) ?_
  intro p l e R s m args below meth c dC dI cs ad A hR1 hR2 F H locs ls w hl
  have hx := F.1.1
  have hb := F.1.2.1
  rw [f_Layout_linksAt] at h
  refine lv_iload_n (pc := 0) hx hb dX2_linksAt_0 rfl (lv_at hl 1 rfl) ?_
  refine lv_if_lt (pc := 1) (tgt := 19) hx hb dX2_linksAt_1 (by decide) (fun q => ?_) (fun q => ?_)
  · have h := ite_t q h
    refine lv_iconst (pc := 19) (v := 0) hx hb dX2_linksAt_19 (by decide) ?_
    exact s_iret F w h dX2_linksAt_20
  · have h := ite_f q h
    refine lv_iload_n (pc := 4) hx hb dX2_linksAt_4 rfl (lv_at hl 1 rfl) ?_
    refine lv_bipush (pc := 5) (v := 48) hx hb dX2_linksAt_5 (by decide) ?_
    refine lv_icmp_ge (pc := 7) (tgt := 19) hx hb dX2_linksAt_7 (by decide) (fun q => ?_) (fun q => ?_)
    · have h := ite_t q h
      refine lv_iconst (pc := 19) (v := 0) hx hb dX2_linksAt_19 (by decide) ?_
      exact s_iret F w h dX2_linksAt_20
    · have h := ite_f q h
      refine lv_aload_n (pc := 10) hx hb dX2_linksAt_10 rfl (lv_at hl 0 rfl) ?_
      refine s_getR (pc := 11) F w 96 ds_66 (j := 4) vc_X2 vi_X2 rfl (by decide) kf_X2_21 dX2_linksAt_11 ?_
      refine lv_iload_n (pc := 14) hx hb dX2_linksAt_14 rfl (lv_at hl 1 rfl) ?_
      refine s_iald (pc := 15) F w ds_96 h dX2_linksAt_15 (fun h => ?_)
      refine lv_goto (pc := 16) (tgt := 20) hx hb dX2_linksAt_16 (by decide) ?_
      exact s_iret F w h dX2_linksAt_20
def f_Layout_areJoined_L2  : Nat → Int32 → Int32 → Int32 → SS → Option (Int32 × SS)
  | 0, _, _, _, _ => none
  | n + 1, x1, x2, x3, S =>
    bnd (f_Layout_linksAt x1 S) (fun r2 S1 =>
    if r2 ≤ x3 then
      some ((0 : Int32), S1)
    else
      grd (inb (((3 : Int32) * x1) + x3) 144) (
      if (S1.1 97 (((3 : Int32) * x1) + x3).toNatClampNeg) = x2 then
        some ((1 : Int32), S1)
      else
        nm (x3 + (1 : Int32)) (fun z3 =>
        f_Layout_areJoined_L2 n x1 x2 z3 S1)))
def f_Layout_areJoined (a1 : Int32) (a2 : Int32) (S : SS) : Option (Int32 × SS) :=
  f_Layout_areJoined_L2 NF a1 a2 (0 : Int32) S
theorem dX2_areJoined_0 : decode cX2_areJoined 0 = .ok (.iconst 0, 1) := dc_3 (by decide +kernel)
theorem dX2_areJoined_1 : decode cX2_areJoined 1 = .ok (.istore_n 3, 1) := dc_62 (by decide +kernel)
theorem dX2_areJoined_2 : decode cX2_areJoined 2 = .ok (.iload_n 3, 1) := dc_29 (by decide +kernel)
theorem dX2_areJoined_3 : decode cX2_areJoined 3 = .ok (.aload_n 0, 1) := dc_42 (by decide +kernel)
theorem dX2_areJoined_4 : decode cX2_areJoined 4 = .ok (.iload_n 1, 1) := dc_27 (by decide +kernel)
theorem dX2_areJoined_5 : decode cX2_areJoined 5 = .ok (.invokevirtual 72, 3) := dc_182 (a := 0) (b := 72) (by decide +kernel)
theorem dX2_areJoined_8 : decode cX2_areJoined 8 = .ok (.if_icmp .ge 25, 3) := dc_162 (a := 0) (b := 25) (by decide +kernel) (by decide)
theorem dX2_areJoined_11 : decode cX2_areJoined 11 = .ok (.aload_n 0, 1) := dc_42 (by decide +kernel)
theorem dX2_areJoined_12 : decode cX2_areJoined 12 = .ok (.getfield 24, 3) := dc_180 (a := 0) (b := 24) (by decide +kernel)
theorem dX2_areJoined_15 : decode cX2_areJoined 15 = .ok (.iconst 3, 1) := dc_6 (by decide +kernel)
theorem dX2_areJoined_16 : decode cX2_areJoined 16 = .ok (.iload_n 1, 1) := dc_27 (by decide +kernel)
theorem dX2_areJoined_17 : decode cX2_areJoined 17 = .ok (.imul, 1) := dc_104 (by decide +kernel)
theorem dX2_areJoined_18 : decode cX2_areJoined 18 = .ok (.iload_n 3, 1) := dc_29 (by decide +kernel)
theorem dX2_areJoined_19 : decode cX2_areJoined 19 = .ok (.iadd, 1) := dc_96 (by decide +kernel)
theorem dX2_areJoined_20 : decode cX2_areJoined 20 = .ok (.iaload, 1) := dc_46 (by decide +kernel)
theorem dX2_areJoined_21 : decode cX2_areJoined 21 = .ok (.iload_n 2, 1) := dc_28 (by decide +kernel)
theorem dX2_areJoined_22 : decode cX2_areJoined 22 = .ok (.if_icmp .ne 5, 3) := dc_160 (a := 0) (b := 5) (by decide +kernel) (by decide)
theorem dX2_areJoined_25 : decode cX2_areJoined 25 = .ok (.iconst 1, 1) := dc_4 (by decide +kernel)
theorem dX2_areJoined_26 : decode cX2_areJoined 26 = .ok (.ireturn, 1) := dc_172 (by decide +kernel)
theorem dX2_areJoined_27 : decode cX2_areJoined 27 = .ok (.iinc 3 1, 3) := dc_132 (a := 3) (b := 1) (by decide +kernel) (by decide)
theorem dX2_areJoined_30 : decode cX2_areJoined 30 = .ok (.goto (-28), 3) := dc_167 (a := 255) (b := 228) (by decide +kernel) (by decide)
theorem dX2_areJoined_33 : decode cX2_areJoined 33 = .ok (.iconst 0, 1) := dc_3 (by decide +kernel)
theorem dX2_areJoined_34 : decode cX2_areJoined 34 = .ok (.ireturn, 1) := dc_172 (by decide +kernel)
set_option maxRecDepth 100000 in
set_option maxHeartbeats 4000000 in
theorem w_Layout_areJoined_L2 {p : Program} {l : Launch} {e : Env} {R : Room} {s : State} {m : MethodId} {args : Array Value} {below : List Frame} {meth : Method} {c : Code} {dC : Nat → ClassId} {dI : Nat → Nat → Nat} {cs : Nat → ClassId} {ad : Nat → Nat} {A : Nat → Prop} {D0 : Nat → Nat} {S' : SS} {r : Int32} (F : Fx p s m args meth c cX2_areJoined 4 RX2 (some .boolean) dC dI cs A) (hR1 : 1 ≤ R.frames) (hR2 : 21 ≤ R.locals) : ∀ (n : Nat) (x1 : Int32) (x2 : Int32) (x3 : Int32) (S : SS), f_Layout_areJoined_L2 n x1 x2 x3 S = some (r, S') → AW p l e R s m args below meth c dC dI cs ad A D0 (some (.int r)) S' 4 2 [(0, .ref (ad 66)), (1, .int x1), (2, .int x2), (3, .int x3)] [] S := by
  have hx := F.1.1
  have hb := F.1.2.1
  intro n
  induction n with
  | zero => intro x1 x2 x3 S h; cases h
  | succ n ih =>
    intro x1 x2 x3 S h H locs ls w hl
    rw [f_Layout_areJoined_L2] at h
    refine lv_iload_n (pc := 2) hx hb dX2_areJoined_2 rfl (lv_at hl 3 rfl) ?_
    refine lv_aload_n (pc := 3) hx hb dX2_areJoined_3 rfl (lv_at hl 0 rfl) ?_
    refine lv_iload_n (pc := 4) hx hb dX2_areJoined_4 rfl (lv_at hl 1 rfl) ?_
    obtain ⟨r2, S1, hc, h⟩ := bnd_t h
    refine s_cvi (pc := 5) [.int x1] (fun ad => [.ref (ad 66), .int x1]) F w (m_Layout_linksAt _ _ _ _ hc) rfl rfl hl.1 ds_66 vc_X2 rfl ok_X2_linksAt rfl kc_X2_linksAt kl_X2_72 ki_X2_linksAt kv_X2_linksAt kn_X2 ⟨Nat.le_trans (by decide) hR1, Nat.le_trans (by decide) hR2⟩ ⟨Nat.zero_le _, Nat.zero_le _⟩ (Nat.le_of_ble_eq_true rfl) dX2_areJoined_5 (fun H locs w => ?_)
    refine lv_icmp_ge (pc := 8) (tgt := 33) hx hb dX2_areJoined_8 (by decide) (fun q => ?_) (fun q => ?_)
    · have h := ite_t q h
      refine lv_iconst (pc := 33) (v := 0) hx hb dX2_areJoined_33 (by decide) ?_
      exact s_zretc F w rfl h dX2_areJoined_34
    · have h := ite_f q h
      refine lv_aload_n (pc := 11) hx hb dX2_areJoined_11 rfl (lv_at hl 0 rfl) ?_
      refine s_getR (pc := 12) F w 97 ds_66 (j := 5) vc_X2 vi_X2 rfl (by decide) kf_X2_24 dX2_areJoined_12 ?_
      refine lv_iconst (pc := 15) (v := 3) hx hb dX2_areJoined_15 (by decide) ?_
      refine lv_iload_n (pc := 16) hx hb dX2_areJoined_16 rfl (lv_at hl 1 rfl) ?_
      refine lv_imul (pc := 17) hx hb dX2_areJoined_17 ?_
      refine lv_iload_n (pc := 18) hx hb dX2_areJoined_18 rfl (lv_at hl 3 rfl) ?_
      refine lv_iadd (pc := 19) hx hb dX2_areJoined_19 ?_
      refine s_iald (pc := 20) F w ds_97 h dX2_areJoined_20 (fun h => ?_)
      refine lv_iload_n (pc := 21) hx hb dX2_areJoined_21 rfl (lv_at hl 2 rfl) ?_
      refine lv_icmp_ne (pc := 22) (tgt := 27) hx hb dX2_areJoined_22 (by decide) (fun q => ?_) (fun q => ?_)
      · have h := ite_f q h
        refine s_nm h (fun z3 ez3 h => ?_)
        refine lv_iinc (pc := 27) (v := z3) (lv' := [(3, .int z3), (0, .ref (ad 66)), (1, .int x1), (2, .int x2)]) hx hb dX2_areJoined_27 hl (k := 3) rfl (by rw [ez3]; rfl) (by decide) rfl (fun ls hl => ?_)
        refine lv_goto (pc := 30) (tgt := 2) hx hb dX2_areJoined_30 (by decide) ?_
        exact ih _ _ _ _ h _ _ _ w (lv_sub hl [1, 2, 3, 0] rfl)
      · have h := ite_t q h
        refine lv_iconst (pc := 25) (v := 1) hx hb dX2_areJoined_25 (by decide) ?_
        exact s_zretc F w rfl h dX2_areJoined_26
set_option maxRecDepth 100000 in
set_option maxHeartbeats 4000000 in
theorem m_Layout_areJoined (a1 : Int32) (a2 : Int32) (S S' : SS) (r : Int32) (h : f_Layout_areJoined a1 a2 S = some (r, S')) : MT yX2_areJoined cX2_areJoined 4 (some .boolean) 1 21 (fun ad => [.ref (ad 66), .int a1, .int a2]) S (some (.int r)) S' := by
  refine MT.of RX2 (fun ad => [(0, .ref (ad 66)), (1, .int a1), (2, .int a2)]) (by decide) rfl (fun _ => Nat.le_of_ble_eq_true rfl) (fun _ => rfl) ?_
  intro p l e R s m args below meth c dC dI cs ad A hR1 hR2 F H locs ls w hl
  have hx := F.1.1
  have hb := F.1.2.1
  rw [f_Layout_areJoined] at h
  refine lv_iconst (pc := 0) (v := 0) hx hb dX2_areJoined_0 (by decide) ?_
  refine lv_istore_n (pc := 1) (lv' := [(3, .int (0 : Int32)), (0, .ref (ad 66)), (1, .int a1), (2, .int a2)]) hx hb dX2_areJoined_1 rfl hl (by decide) rfl (fun ls hl => ?_)
  exact w_Layout_areJoined_L2 F (Nat.le_trans (by decide) hR1) (Nat.le_trans (by decide) hR2) _ _ _ _ _ h _ _ _ w (lv_sub hl [1, 2, 3, 0] rfl)
def f_Layout_mayGetLink_j20  (y0 : Int32) (y1 : Int32) (S : SS) : Option (Int32 × SS) :=
    if y0 ≤ y1 then
      some ((0 : Int32), S)
    else
      some ((1 : Int32), S)
def f_Layout_mayGetLink (a1 : Int32) (S : SS) : Option (Int32 × SS) :=
  bnd (f_Layout_linksAt a1 S) (fun r2 S1 =>
  bnd (f_Layout_pointAt a1 S1) (fun r4 S3 =>
  if r4 = (-4 : Int32) then
    f_Layout_mayGetLink_j20 (1 : Int32) r2 S3
  else
    f_Layout_mayGetLink_j20 (3 : Int32) r2 S3))
theorem dX2_mayGetLink_0 : decode cX2_mayGetLink 0 = .ok (.aload_n 0, 1) := dc_42 (by decide +kernel)
theorem dX2_mayGetLink_1 : decode cX2_mayGetLink 1 = .ok (.iload_n 1, 1) := dc_27 (by decide +kernel)
theorem dX2_mayGetLink_2 : decode cX2_mayGetLink 2 = .ok (.invokevirtual 72, 3) := dc_182 (a := 0) (b := 72) (by decide +kernel)
theorem dX2_mayGetLink_5 : decode cX2_mayGetLink 5 = .ok (.aload_n 0, 1) := dc_42 (by decide +kernel)
theorem dX2_mayGetLink_6 : decode cX2_mayGetLink 6 = .ok (.iload_n 1, 1) := dc_27 (by decide +kernel)
theorem dX2_mayGetLink_7 : decode cX2_mayGetLink 7 = .ok (.invokevirtual 75, 3) := dc_182 (a := 0) (b := 75) (by decide +kernel)
theorem dX2_mayGetLink_10 : decode cX2_mayGetLink 10 = .ok (.bipush (-4), 2) := dc_16 (a := 252) (by decide +kernel) (by decide)
theorem dX2_mayGetLink_12 : decode cX2_mayGetLink 12 = .ok (.if_icmp .ne 7, 3) := dc_160 (a := 0) (b := 7) (by decide +kernel) (by decide)
theorem dX2_mayGetLink_15 : decode cX2_mayGetLink 15 = .ok (.iconst 1, 1) := dc_4 (by decide +kernel)
theorem dX2_mayGetLink_16 : decode cX2_mayGetLink 16 = .ok (.goto 4, 3) := dc_167 (a := 0) (b := 4) (by decide +kernel) (by decide)
theorem dX2_mayGetLink_19 : decode cX2_mayGetLink 19 = .ok (.iconst 3, 1) := dc_6 (by decide +kernel)
theorem dX2_mayGetLink_20 : decode cX2_mayGetLink 20 = .ok (.if_icmp .ge 7, 3) := dc_162 (a := 0) (b := 7) (by decide +kernel) (by decide)
theorem dX2_mayGetLink_23 : decode cX2_mayGetLink 23 = .ok (.iconst 1, 1) := dc_4 (by decide +kernel)
theorem dX2_mayGetLink_24 : decode cX2_mayGetLink 24 = .ok (.goto 4, 3) := dc_167 (a := 0) (b := 4) (by decide +kernel) (by decide)
theorem dX2_mayGetLink_27 : decode cX2_mayGetLink 27 = .ok (.iconst 0, 1) := dc_3 (by decide +kernel)
theorem dX2_mayGetLink_28 : decode cX2_mayGetLink 28 = .ok (.ireturn, 1) := dc_172 (by decide +kernel)
set_option maxRecDepth 100000 in
set_option maxHeartbeats 4000000 in
theorem w_Layout_mayGetLink_j20 {p : Program} {l : Launch} {e : Env} {R : Room} {s : State} {m : MethodId} {args : Array Value} {below : List Frame} {meth : Method} {c : Code} {dC : Nat → ClassId} {dI : Nat → Nat → Nat} {cs : Nat → ClassId} {ad : Nat → Nat} {A : Nat → Prop} {D0 : Nat → Nat} {S' : SS} {r : Int32} (F : Fx p s m args meth c cX2_mayGetLink 2 RX2 (some .boolean) dC dI cs A) (hR1 : 0 ≤ R.frames) (hR2 : 0 ≤ R.locals) (y0 : Int32) (y1 : Int32) (S : SS) (h : f_Layout_mayGetLink_j20 y0 y1 S = some (r, S')) : AW p l e R s m args below meth c dC dI cs ad A D0 (some (.int r)) S' 2 20 [] [.int y0, .int y1] S := by
  have hx := F.1.1
  have hb := F.1.2.1
  intro H locs ls w hl
  rw [f_Layout_mayGetLink_j20] at h
  refine lv_icmp_ge (pc := 20) (tgt := 27) hx hb dX2_mayGetLink_20 (by decide) (fun q => ?_) (fun q => ?_)
  · have h := ite_t q h
    refine lv_iconst (pc := 27) (v := 0) hx hb dX2_mayGetLink_27 (by decide) ?_
    exact s_zretc F w rfl h dX2_mayGetLink_28
  · have h := ite_f q h
    refine lv_iconst (pc := 23) (v := 1) hx hb dX2_mayGetLink_23 (by decide) ?_
    refine lv_goto (pc := 24) (tgt := 28) hx hb dX2_mayGetLink_24 (by decide) ?_
    exact s_zretc F w rfl h dX2_mayGetLink_28
set_option maxRecDepth 100000 in
set_option maxHeartbeats 4000000 in
theorem m_Layout_mayGetLink (a1 : Int32) (S S' : SS) (r : Int32) (h : f_Layout_mayGetLink a1 S = some (r, S')) : MT yX2_mayGetLink cX2_mayGetLink 2 (some .boolean) 1 21 (fun ad => [.ref (ad 66), .int a1]) S (some (.int r)) S' := by
  refine MT.of RX2 (fun ad => [(0, .ref (ad 66)), (1, .int a1)]) (by decide) rfl (fun _ => Nat.le_of_ble_eq_true rfl) (fun _ => rfl) ?_
  intro p l e R s m args below meth c dC dI cs ad A hR1 hR2 F H locs ls w hl
  have hx := F.1.1
  have hb := F.1.2.1
  rw [f_Layout_mayGetLink] at h
  refine lv_aload_n (pc := 0) hx hb dX2_mayGetLink_0 rfl (lv_at hl 0 rfl) ?_
  refine lv_iload_n (pc := 1) hx hb dX2_mayGetLink_1 rfl (lv_at hl 1 rfl) ?_
  obtain ⟨r2, S1, hc, h⟩ := bnd_t h
  refine s_cvi (pc := 2) [.int a1] (fun ad => [.ref (ad 66), .int a1]) F w (m_Layout_linksAt _ _ _ _ hc) rfl rfl hl.1 ds_66 vc_X2 rfl ok_X2_linksAt rfl kc_X2_linksAt kl_X2_72 ki_X2_linksAt kv_X2_linksAt kn_X2 ⟨Nat.le_trans (by decide) hR1, Nat.le_trans (by decide) hR2⟩ ⟨Nat.zero_le _, Nat.zero_le _⟩ (Nat.le_of_ble_eq_true rfl) dX2_mayGetLink_2 (fun H locs w => ?_)
  refine lv_aload_n (pc := 5) hx hb dX2_mayGetLink_5 rfl (lv_at hl 0 rfl) ?_
  refine lv_iload_n (pc := 6) hx hb dX2_mayGetLink_6 rfl (lv_at hl 1 rfl) ?_
  obtain ⟨r4, S3, hc, h⟩ := bnd_t h
  refine s_cvi (pc := 7) [.int a1] (fun ad => [.ref (ad 66), .int a1]) F w (m_Layout_pointAt _ _ _ _ hc) rfl rfl hl.1 ds_66 vc_X2 rfl ok_X2_pointAt rfl kc_X2_pointAt kl_X2_75 ki_X2_pointAt kv_X2_pointAt kn_X2 ⟨Nat.le_trans (by decide) hR1, Nat.le_trans (by decide) hR2⟩ ⟨Nat.zero_le _, Nat.zero_le _⟩ (Nat.le_of_ble_eq_true rfl) dX2_mayGetLink_7 (fun H locs w => ?_)
  refine lv_bipush (pc := 10) (v := -4) hx hb dX2_mayGetLink_10 (by decide) ?_
  refine lv_icmp_ne (pc := 12) (tgt := 19) hx hb dX2_mayGetLink_12 (by decide) (fun q => ?_) (fun q => ?_)
  · have h := ite_f q h
    refine lv_iconst (pc := 19) (v := 3) hx hb dX2_mayGetLink_19 (by decide) ?_
    exact w_Layout_mayGetLink_j20 F (Nat.le_trans (by decide) hR1) (Nat.le_trans (by decide) hR2) _ _ _ h _ _ _ w (lv_sub hl [] rfl)
  · have h := ite_t q h
    refine lv_iconst (pc := 15) (v := 1) hx hb dX2_mayGetLink_15 (by decide) ?_
    refine lv_goto (pc := 16) (tgt := 20) hx hb dX2_mayGetLink_16 (by decide) ?_
    exact w_Layout_mayGetLink_j20 F (Nat.le_trans (by decide) hR1) (Nat.le_trans (by decide) hR2) _ _ _ h _ _ _ w (lv_sub hl [] rfl)
def f_Layout_mayJoin (a1 : Int32) (a2 : Int32) (S : SS) : Option (Int32 × SS) :=
  if a1 = a2 then
    some ((0 : Int32), S)
  else
    bnd (f_Layout_areJoined a1 a2 S) (fun r2 S1 =>
    if r2 = 0 then
      bnd (f_Layout_mayGetLink a1 S1) (fun r4 S3 =>
      if r4 = 0 then
        some ((0 : Int32), S3)
      else
        bnd (f_Layout_mayGetLink a2 S3) (fun r6 S5 =>
        if r6 = 0 then
          some ((0 : Int32), S5)
        else
          some ((1 : Int32), S5)))
    else
      some ((0 : Int32), S1))
theorem dX2_mayJoin_0 : decode cX2_mayJoin 0 = .ok (.iload_n 1, 1) := dc_27 (by decide +kernel)
theorem dX2_mayJoin_1 : decode cX2_mayJoin 1 = .ok (.iload_n 2, 1) := dc_28 (by decide +kernel)
theorem dX2_mayJoin_2 : decode cX2_mayJoin 2 = .ok (.if_icmp .eq 32, 3) := dc_159 (a := 0) (b := 32) (by decide +kernel) (by decide)
theorem dX2_mayJoin_5 : decode cX2_mayJoin 5 = .ok (.aload_n 0, 1) := dc_42 (by decide +kernel)
theorem dX2_mayJoin_6 : decode cX2_mayJoin 6 = .ok (.iload_n 1, 1) := dc_27 (by decide +kernel)
theorem dX2_mayJoin_7 : decode cX2_mayJoin 7 = .ok (.iload_n 2, 1) := dc_28 (by decide +kernel)
theorem dX2_mayJoin_8 : decode cX2_mayJoin 8 = .ok (.invokevirtual 65, 3) := dc_182 (a := 0) (b := 65) (by decide +kernel)
theorem dX2_mayJoin_11 : decode cX2_mayJoin 11 = .ok (.ifCond .ne 23, 3) := dc_154 (a := 0) (b := 23) (by decide +kernel) (by decide)
theorem dX2_mayJoin_14 : decode cX2_mayJoin 14 = .ok (.aload_n 0, 1) := dc_42 (by decide +kernel)
theorem dX2_mayJoin_15 : decode cX2_mayJoin 15 = .ok (.iload_n 1, 1) := dc_27 (by decide +kernel)
theorem dX2_mayJoin_16 : decode cX2_mayJoin 16 = .ok (.invokevirtual 69, 3) := dc_182 (a := 0) (b := 69) (by decide +kernel)
theorem dX2_mayJoin_19 : decode cX2_mayJoin 19 = .ok (.ifCond .eq 15, 3) := dc_153 (a := 0) (b := 15) (by decide +kernel) (by decide)
theorem dX2_mayJoin_22 : decode cX2_mayJoin 22 = .ok (.aload_n 0, 1) := dc_42 (by decide +kernel)
theorem dX2_mayJoin_23 : decode cX2_mayJoin 23 = .ok (.iload_n 2, 1) := dc_28 (by decide +kernel)
theorem dX2_mayJoin_24 : decode cX2_mayJoin 24 = .ok (.invokevirtual 69, 3) := dc_182 (a := 0) (b := 69) (by decide +kernel)
theorem dX2_mayJoin_27 : decode cX2_mayJoin 27 = .ok (.ifCond .eq 7, 3) := dc_153 (a := 0) (b := 7) (by decide +kernel) (by decide)
theorem dX2_mayJoin_30 : decode cX2_mayJoin 30 = .ok (.iconst 1, 1) := dc_4 (by decide +kernel)
theorem dX2_mayJoin_31 : decode cX2_mayJoin 31 = .ok (.goto 4, 3) := dc_167 (a := 0) (b := 4) (by decide +kernel) (by decide)
theorem dX2_mayJoin_34 : decode cX2_mayJoin 34 = .ok (.iconst 0, 1) := dc_3 (by decide +kernel)
theorem dX2_mayJoin_35 : decode cX2_mayJoin 35 = .ok (.ireturn, 1) := dc_172 (by decide +kernel)
set_option maxRecDepth 100000 in
set_option maxHeartbeats 4000000 in
theorem m_Layout_mayJoin (a1 : Int32) (a2 : Int32) (S S' : SS) (r : Int32) (h : f_Layout_mayJoin a1 a2 S = some (r, S')) : MT yX2_mayJoin cX2_mayJoin 3 (some .boolean) 2 44 (fun ad => [.ref (ad 66), .int a1, .int a2]) S (some (.int r)) S' := by
  refine MT.of RX2 (fun ad => [(0, .ref (ad 66)), (1, .int a1), (2, .int a2)]) (by decide) rfl (fun _ => Nat.le_of_ble_eq_true rfl) (fun _ => rfl) ?_
  intro p l e R s m args below meth c dC dI cs ad A hR1 hR2 F H locs ls w hl
  have hx := F.1.1
  have hb := F.1.2.1
  rw [f_Layout_mayJoin] at h
  refine lv_iload_n (pc := 0) hx hb dX2_mayJoin_0 rfl (lv_at hl 1 rfl) ?_
  refine lv_iload_n (pc := 1) hx hb dX2_mayJoin_1 rfl (lv_at hl 2 rfl) ?_
  refine lv_icmp_eq (pc := 2) (tgt := 34) hx hb dX2_mayJoin_2 (by decide) (fun q => ?_) (fun q => ?_)
  · have h := ite_t q h
    refine lv_iconst (pc := 34) (v := 0) hx hb dX2_mayJoin_34 (by decide) ?_
    exact s_zretc F w rfl h dX2_mayJoin_35
  · have h := ite_f q h
    refine lv_aload_n (pc := 5) hx hb dX2_mayJoin_5 rfl (lv_at hl 0 rfl) ?_
    refine lv_iload_n (pc := 6) hx hb dX2_mayJoin_6 rfl (lv_at hl 1 rfl) ?_
    refine lv_iload_n (pc := 7) hx hb dX2_mayJoin_7 rfl (lv_at hl 2 rfl) ?_
    obtain ⟨r2, S1, hc, h⟩ := bnd_t h
    refine s_cvi (pc := 8) [.int a1, .int a2] (fun ad => [.ref (ad 66), .int a1, .int a2]) F w (m_Layout_areJoined _ _ _ _ _ hc) rfl rfl hl.1 ds_66 vc_X2 rfl ok_X2_areJoined rfl kc_X2_areJoined kl_X2_65 ki_X2_areJoined kv_X2_areJoined kn_X2 ⟨Nat.le_trans (by decide) hR1, Nat.le_trans (by decide) hR2⟩ ⟨Nat.zero_le _, Nat.zero_le _⟩ (Nat.le_of_ble_eq_true rfl) dX2_mayJoin_8 (fun H locs w => ?_)
    refine lv_if_ne (pc := 11) (tgt := 34) hx hb dX2_mayJoin_11 (by decide) (fun q => ?_) (fun q => ?_)
    · have h := ite_f q h
      refine lv_iconst (pc := 34) (v := 0) hx hb dX2_mayJoin_34 (by decide) ?_
      exact s_zretc F w rfl h dX2_mayJoin_35
    · have h := ite_t q h
      refine lv_aload_n (pc := 14) hx hb dX2_mayJoin_14 rfl (lv_at hl 0 rfl) ?_
      refine lv_iload_n (pc := 15) hx hb dX2_mayJoin_15 rfl (lv_at hl 1 rfl) ?_
      obtain ⟨r4, S3, hc, h⟩ := bnd_t h
      refine s_cvi (pc := 16) [.int a1] (fun ad => [.ref (ad 66), .int a1]) F w (m_Layout_mayGetLink _ _ _ _ hc) rfl rfl hl.1 ds_66 vc_X2 rfl ok_X2_mayGetLink rfl kc_X2_mayGetLink kl_X2_69 ki_X2_mayGetLink kv_X2_mayGetLink kn_X2 ⟨Nat.le_trans (by decide) hR1, Nat.le_trans (by decide) hR2⟩ ⟨Nat.zero_le _, Nat.zero_le _⟩ (Nat.le_of_ble_eq_true rfl) dX2_mayJoin_16 (fun H locs w => ?_)
      refine lv_if_eq (pc := 19) (tgt := 34) hx hb dX2_mayJoin_19 (by decide) (fun q => ?_) (fun q => ?_)
      · have h := ite_t q h
        refine lv_iconst (pc := 34) (v := 0) hx hb dX2_mayJoin_34 (by decide) ?_
        exact s_zretc F w rfl h dX2_mayJoin_35
      · have h := ite_f q h
        refine lv_aload_n (pc := 22) hx hb dX2_mayJoin_22 rfl (lv_at hl 0 rfl) ?_
        refine lv_iload_n (pc := 23) hx hb dX2_mayJoin_23 rfl (lv_at hl 2 rfl) ?_
        obtain ⟨r6, S5, hc, h⟩ := bnd_t h
        refine s_cvi (pc := 24) [.int a2] (fun ad => [.ref (ad 66), .int a2]) F w (m_Layout_mayGetLink _ _ _ _ hc) rfl rfl hl.1 ds_66 vc_X2 rfl ok_X2_mayGetLink rfl kc_X2_mayGetLink kl_X2_69 ki_X2_mayGetLink kv_X2_mayGetLink kn_X2 ⟨Nat.le_trans (by decide) hR1, Nat.le_trans (by decide) hR2⟩ ⟨Nat.zero_le _, Nat.zero_le _⟩ (Nat.le_of_ble_eq_true rfl) dX2_mayJoin_24 (fun H locs w => ?_)
        refine lv_if_eq (pc := 27) (tgt := 34) hx hb dX2_mayJoin_27 (by decide) (fun q => ?_) (fun q => ?_)
        · have h := ite_t q h
          refine lv_iconst (pc := 34) (v := 0) hx hb dX2_mayJoin_34 (by decide) ?_
          exact s_zretc F w rfl h dX2_mayJoin_35
        · have h := ite_f q h
          refine lv_iconst (pc := 30) (v := 1) hx hb dX2_mayJoin_30 (by decide) ?_
          refine lv_goto (pc := 31) (tgt := 35) hx hb dX2_mayJoin_31 (by decide) ?_
          exact s_zretc F w rfl h dX2_mayJoin_35
def f_Yard_link_j83  (x1 : Int32) (x2 : Int32) (x3 : Int32) (x4 : Int32) (x5 : Int32) (S : SS) : Option (Int32 × SS) :=
    if x5 = 0 then
      bndv (f_History_forget  S) (fun S8 =>
      bndv (f_Layout_join (((2 : Int32) * x1) + x2) (((2 : Int32) * x3) + x4) S8) (fun S9 =>
      some ((1 : Int32), S9)))
    else
      bnd (f_Report_found x5 S) (fun r11 S10 =>
      some (r11, S10))
def f_Yard_link_j53  (x1 : Int32) (x2 : Int32) (x3 : Int32) (x4 : Int32) (x5 : Int32) (S : SS) : Option (Int32 × SS) :=
    if x5 = 0 then
      bnd (f_Layout_mayJoin (((2 : Int32) * x1) + x2) (((2 : Int32) * x3) + x4) S) (fun r13 S12 =>
      if r13 = 0 then
        f_Yard_link_j83 x1 x2 x3 x4 (9 : Int32) S12
      else
        f_Yard_link_j83 x1 x2 x3 x4 x5 S12)
    else
      f_Yard_link_j83 x1 x2 x3 x4 x5 S
def f_Yard_link (a1 : Int32) (a2 : Int32) (a3 : Int32) (a4 : Int32) (S : SS) : Option (Int32 × SS) :=
  bnd (f_Yard_isNot a2 (0 : Int32) (1 : Int32) S) (fun r2 S1 =>
  if r2 = 0 then
    bnd (f_Yard_isNot a4 (0 : Int32) (1 : Int32) S1) (fun r4 S3 =>
    if r4 = 0 then
      bndv (f_Report_begin  S3) (fun S5 =>
      bnd (f_Layout_trackFinding a1 S5) (fun r7 S6 =>
      if r7 = 0 then
        bnd (f_Layout_trackFinding a3 S6) (fun r15 S14 =>
        f_Yard_link_j53 a1 a2 a3 a4 r15 S14)
      else
        f_Yard_link_j53 a1 a2 a3 a4 r7 S6))
    else
      some ((-1 : Int32), S3))
  else
    some ((-1 : Int32), S1))
theorem dX11_link_0 : decode cX11_link 0 = .ok (.iload_n 2, 1) := dc_28 (by decide +kernel)
theorem dX11_link_1 : decode cX11_link 1 = .ok (.iconst 0, 1) := dc_3 (by decide +kernel)
theorem dX11_link_2 : decode cX11_link 2 = .ok (.iconst 1, 1) := dc_4 (by decide +kernel)
theorem dX11_link_3 : decode cX11_link 3 = .ok (.invokestatic 108, 3) := dc_184 (a := 0) (b := 108) (by decide +kernel)
theorem dX11_link_6 : decode cX11_link 6 = .ok (.ifCond .ne 13, 3) := dc_154 (a := 0) (b := 13) (by decide +kernel) (by decide)
theorem dX11_link_9 : decode cX11_link 9 = .ok (.iload 4, 2) := dc_21 (a := 4) (by decide +kernel)
theorem dX11_link_11 : decode cX11_link 11 = .ok (.iconst 0, 1) := dc_3 (by decide +kernel)
theorem dX11_link_12 : decode cX11_link 12 = .ok (.iconst 1, 1) := dc_4 (by decide +kernel)
theorem dX11_link_13 : decode cX11_link 13 = .ok (.invokestatic 108, 3) := dc_184 (a := 0) (b := 108) (by decide +kernel)
theorem dX11_link_16 : decode cX11_link 16 = .ok (.ifCond .eq 5, 3) := dc_153 (a := 0) (b := 5) (by decide +kernel) (by decide)
theorem dX11_link_19 : decode cX11_link 19 = .ok (.iconst (-1), 1) := dc_2 (by decide +kernel)
theorem dX11_link_20 : decode cX11_link 20 = .ok (.ireturn, 1) := dc_172 (by decide +kernel)
theorem dX11_link_21 : decode cX11_link 21 = .ok (.aload_n 0, 1) := dc_42 (by decide +kernel)
theorem dX11_link_22 : decode cX11_link 22 = .ok (.getfield 10, 3) := dc_180 (a := 0) (b := 10) (by decide +kernel)
theorem dX11_link_25 : decode cX11_link 25 = .ok (.invokevirtual 95, 3) := dc_182 (a := 0) (b := 95) (by decide +kernel)
theorem dX11_link_28 : decode cX11_link 28 = .ok (.aload_n 0, 1) := dc_42 (by decide +kernel)
theorem dX11_link_29 : decode cX11_link 29 = .ok (.getfield 42, 3) := dc_180 (a := 0) (b := 42) (by decide +kernel)
theorem dX11_link_32 : decode cX11_link 32 = .ok (.iload_n 1, 1) := dc_27 (by decide +kernel)
theorem dX11_link_33 : decode cX11_link 33 = .ok (.invokevirtual 115, 3) := dc_182 (a := 0) (b := 115) (by decide +kernel)
theorem dX11_link_36 : decode cX11_link 36 = .ok (.istore 5, 2) := dc_54 (a := 5) (by decide +kernel)
theorem dX11_link_38 : decode cX11_link 38 = .ok (.iload 5, 2) := dc_21 (a := 5) (by decide +kernel)
theorem dX11_link_40 : decode cX11_link 40 = .ok (.ifCond .ne 13, 3) := dc_154 (a := 0) (b := 13) (by decide +kernel) (by decide)
theorem dX11_link_43 : decode cX11_link 43 = .ok (.aload_n 0, 1) := dc_42 (by decide +kernel)
theorem dX11_link_44 : decode cX11_link 44 = .ok (.getfield 42, 3) := dc_180 (a := 0) (b := 42) (by decide +kernel)
theorem dX11_link_47 : decode cX11_link 47 = .ok (.iload_n 3, 1) := dc_29 (by decide +kernel)
theorem dX11_link_48 : decode cX11_link 48 = .ok (.invokevirtual 115, 3) := dc_182 (a := 0) (b := 115) (by decide +kernel)
theorem dX11_link_51 : decode cX11_link 51 = .ok (.istore 5, 2) := dc_54 (a := 5) (by decide +kernel)
theorem dX11_link_53 : decode cX11_link 53 = .ok (.iload 5, 2) := dc_21 (a := 5) (by decide +kernel)
theorem dX11_link_55 : decode cX11_link 55 = .ok (.ifCond .ne 28, 3) := dc_154 (a := 0) (b := 28) (by decide +kernel) (by decide)
theorem dX11_link_58 : decode cX11_link 58 = .ok (.aload_n 0, 1) := dc_42 (by decide +kernel)
theorem dX11_link_59 : decode cX11_link 59 = .ok (.getfield 42, 3) := dc_180 (a := 0) (b := 42) (by decide +kernel)
theorem dX11_link_62 : decode cX11_link 62 = .ok (.iconst 2, 1) := dc_5 (by decide +kernel)
theorem dX11_link_63 : decode cX11_link 63 = .ok (.iload_n 1, 1) := dc_27 (by decide +kernel)
theorem dX11_link_64 : decode cX11_link 64 = .ok (.imul, 1) := dc_104 (by decide +kernel)
theorem dX11_link_65 : decode cX11_link 65 = .ok (.iload_n 2, 1) := dc_28 (by decide +kernel)
theorem dX11_link_66 : decode cX11_link 66 = .ok (.iadd, 1) := dc_96 (by decide +kernel)
theorem dX11_link_67 : decode cX11_link 67 = .ok (.iconst 2, 1) := dc_5 (by decide +kernel)
theorem dX11_link_68 : decode cX11_link 68 = .ok (.iload_n 3, 1) := dc_29 (by decide +kernel)
theorem dX11_link_69 : decode cX11_link 69 = .ok (.imul, 1) := dc_104 (by decide +kernel)
theorem dX11_link_70 : decode cX11_link 70 = .ok (.iload 4, 2) := dc_21 (a := 4) (by decide +kernel)
theorem dX11_link_72 : decode cX11_link 72 = .ok (.iadd, 1) := dc_96 (by decide +kernel)
theorem dX11_link_73 : decode cX11_link 73 = .ok (.invokevirtual 124, 3) := dc_182 (a := 0) (b := 124) (by decide +kernel)
theorem dX11_link_76 : decode cX11_link 76 = .ok (.ifCond .ne 7, 3) := dc_154 (a := 0) (b := 7) (by decide +kernel) (by decide)
theorem dX11_link_79 : decode cX11_link 79 = .ok (.bipush 9, 2) := dc_16 (a := 9) (by decide +kernel) (by decide)
theorem dX11_link_81 : decode cX11_link 81 = .ok (.istore 5, 2) := dc_54 (a := 5) (by decide +kernel)
theorem dX11_link_83 : decode cX11_link 83 = .ok (.iload 5, 2) := dc_21 (a := 5) (by decide +kernel)
theorem dX11_link_85 : decode cX11_link 85 = .ok (.ifCond .eq 13, 3) := dc_153 (a := 0) (b := 13) (by decide +kernel) (by decide)
theorem dX11_link_88 : decode cX11_link 88 = .ok (.aload_n 0, 1) := dc_42 (by decide +kernel)
theorem dX11_link_89 : decode cX11_link 89 = .ok (.getfield 10, 3) := dc_180 (a := 0) (b := 10) (by decide +kernel)
theorem dX11_link_92 : decode cX11_link 92 = .ok (.iload 5, 2) := dc_21 (a := 5) (by decide +kernel)
theorem dX11_link_94 : decode cX11_link 94 = .ok (.invokevirtual 98, 3) := dc_182 (a := 0) (b := 98) (by decide +kernel)
theorem dX11_link_97 : decode cX11_link 97 = .ok (.ireturn, 1) := dc_172 (by decide +kernel)
theorem dX11_link_98 : decode cX11_link 98 = .ok (.aload_n 0, 1) := dc_42 (by decide +kernel)
theorem dX11_link_99 : decode cX11_link 99 = .ok (.getfield 26, 3) := dc_180 (a := 0) (b := 26) (by decide +kernel)
theorem dX11_link_102 : decode cX11_link 102 = .ok (.invokevirtual 102, 3) := dc_182 (a := 0) (b := 102) (by decide +kernel)
theorem dX11_link_105 : decode cX11_link 105 = .ok (.aload_n 0, 1) := dc_42 (by decide +kernel)
theorem dX11_link_106 : decode cX11_link 106 = .ok (.getfield 42, 3) := dc_180 (a := 0) (b := 42) (by decide +kernel)
theorem dX11_link_109 : decode cX11_link 109 = .ok (.iconst 2, 1) := dc_5 (by decide +kernel)
theorem dX11_link_110 : decode cX11_link 110 = .ok (.iload_n 1, 1) := dc_27 (by decide +kernel)
theorem dX11_link_111 : decode cX11_link 111 = .ok (.imul, 1) := dc_104 (by decide +kernel)
theorem dX11_link_112 : decode cX11_link 112 = .ok (.iload_n 2, 1) := dc_28 (by decide +kernel)
theorem dX11_link_113 : decode cX11_link 113 = .ok (.iadd, 1) := dc_96 (by decide +kernel)
theorem dX11_link_114 : decode cX11_link 114 = .ok (.iconst 2, 1) := dc_5 (by decide +kernel)
theorem dX11_link_115 : decode cX11_link 115 = .ok (.iload_n 3, 1) := dc_29 (by decide +kernel)
theorem dX11_link_116 : decode cX11_link 116 = .ok (.imul, 1) := dc_104 (by decide +kernel)
theorem dX11_link_117 : decode cX11_link 117 = .ok (.iload 4, 2) := dc_21 (a := 4) (by decide +kernel)
theorem dX11_link_119 : decode cX11_link 119 = .ok (.iadd, 1) := dc_96 (by decide +kernel)
theorem dX11_link_120 : decode cX11_link 120 = .ok (.invokevirtual 128, 3) := dc_182 (a := 0) (b := 128) (by decide +kernel)
theorem dX11_link_123 : decode cX11_link 123 = .ok (.iconst 1, 1) := dc_4 (by decide +kernel)
theorem dX11_link_124 : decode cX11_link 124 = .ok (.ireturn, 1) := dc_172 (by decide +kernel)
set_option maxRecDepth 100000 in
set_option maxHeartbeats 4000000 in
theorem w_Yard_link_j83 {p : Program} {l : Launch} {e : Env} {R : Room} {s : State} {m : MethodId} {args : Array Value} {below : List Frame} {meth : Method} {c : Code} {dC : Nat → ClassId} {dI : Nat → Nat → Nat} {cs : Nat → ClassId} {ad : Nat → Nat} {A : Nat → Prop} {D0 : Nat → Nat} {S' : SS} {r : Int32} (F : Fx p s m args meth c cX11_link 6 RX11 (some .int) dC dI cs A) (hR1 : 3 ≤ R.frames) (hR2 : 64 ≤ R.locals) (x1 : Int32) (x2 : Int32) (x3 : Int32) (x4 : Int32) (x5 : Int32) (S : SS) (h : f_Yard_link_j83 x1 x2 x3 x4 x5 S = some (r, S')) : AW p l e R s m args below meth c dC dI cs ad A D0 (some (.int r)) S' 6 83 [(0, .ref (ad 61)), (1, .int x1), (2, .int x2), (3, .int x3), (4, .int x4), (5, .int x5)] [] S := by
  have hx := F.1.1
  have hb := F.1.2.1
  intro H locs ls w hl
  rw [f_Yard_link_j83] at h
  refine lv_iload (pc := 83) hx hb dX11_link_83 (lv_at hl 5 rfl) ?_
  refine lv_if_eq (pc := 85) (tgt := 98) hx hb dX11_link_85 (by decide) (fun q => ?_) (fun q => ?_)
  · have h := ite_t q h
    refine lv_aload_n (pc := 98) hx hb dX11_link_98 rfl (lv_at hl 0 rfl) ?_
    refine s_getR (pc := 99) F w 64 ds_61 (j := 2) vc_X11 vi_X11 rfl (by decide) kf_X11_26 dX11_link_99 ?_
    obtain ⟨S8, hc, h⟩ := bndv_t h
    refine s_cvv (pc := 102) [] (fun ad => [.ref (ad 64)]) F w (m_History_forget  _ _ hc) rfl rfl hl.1 ds_64 vc_X1 rfl ok_X1_forget rfl kc_X1_forget kl_X11_102 ki_X1_forget kv_X1_forget kn_X1 ⟨Nat.le_trans (by decide) hR1, Nat.le_trans (by decide) hR2⟩ ⟨Nat.zero_le _, Nat.zero_le _⟩ (Nat.le_of_ble_eq_true rfl) dX11_link_102 (fun H locs w => ?_)
    refine lv_aload_n (pc := 105) hx hb dX11_link_105 rfl (lv_at hl 0 rfl) ?_
    refine s_getR (pc := 106) F w 66 ds_61 (j := 4) vc_X11 vi_X11 rfl (by decide) kf_X11_42 dX11_link_106 ?_
    refine lv_iconst (pc := 109) (v := 2) hx hb dX11_link_109 (by decide) ?_
    refine lv_iload_n (pc := 110) hx hb dX11_link_110 rfl (lv_at hl 1 rfl) ?_
    refine lv_imul (pc := 111) hx hb dX11_link_111 ?_
    refine lv_iload_n (pc := 112) hx hb dX11_link_112 rfl (lv_at hl 2 rfl) ?_
    refine lv_iadd (pc := 113) hx hb dX11_link_113 ?_
    refine lv_iconst (pc := 114) (v := 2) hx hb dX11_link_114 (by decide) ?_
    refine lv_iload_n (pc := 115) hx hb dX11_link_115 rfl (lv_at hl 3 rfl) ?_
    refine lv_imul (pc := 116) hx hb dX11_link_116 ?_
    refine lv_iload (pc := 117) hx hb dX11_link_117 (lv_at hl 4 rfl) ?_
    refine lv_iadd (pc := 119) hx hb dX11_link_119 ?_
    obtain ⟨S9, hc, h⟩ := bndv_t h
    refine s_cvv (pc := 120) [.int (((2 : Int32) * x1) + x2), .int (((2 : Int32) * x3) + x4)] (fun ad => [.ref (ad 66), .int (((2 : Int32) * x1) + x2), .int (((2 : Int32) * x3) + x4)]) F w (m_Layout_join _ _ _ _ hc) rfl rfl hl.1 ds_66 vc_X2 rfl ok_X2_join rfl kc_X2_join kl_X11_128 ki_X2_join kv_X2_join kn_X2 ⟨Nat.le_trans (by decide) hR1, Nat.le_trans (by decide) hR2⟩ ⟨Nat.zero_le _, Nat.zero_le _⟩ (Nat.le_of_ble_eq_true rfl) dX11_link_120 (fun H locs w => ?_)
    refine lv_iconst (pc := 123) (v := 1) hx hb dX11_link_123 (by decide) ?_
    exact s_iret F w h dX11_link_124
  · have h := ite_f q h
    refine lv_aload_n (pc := 88) hx hb dX11_link_88 rfl (lv_at hl 0 rfl) ?_
    refine s_getR (pc := 89) F w 62 ds_61 (j := 0) vc_X11 vi_X11 rfl (by decide) kf_X11_10 dX11_link_89 ?_
    refine lv_iload (pc := 92) hx hb dX11_link_92 (lv_at hl 5 rfl) ?_
    obtain ⟨r11, S10, hc, h⟩ := bnd_t h
    refine s_cvi (pc := 94) [.int x5] (fun ad => [.ref (ad 62), .int x5]) F w (m_Report_found _ _ _ _ hc) rfl rfl hl.1 ds_62 vc_X5 rfl ok_X5_found rfl kc_X5_found kl_X11_98 ki_X5_found kv_X5_found kn_X5 ⟨Nat.le_trans (by decide) hR1, Nat.le_trans (by decide) hR2⟩ ⟨Nat.zero_le _, Nat.zero_le _⟩ (Nat.le_of_ble_eq_true rfl) dX11_link_94 (fun H locs w => ?_)
    exact s_iret F w h dX11_link_97
set_option maxRecDepth 100000 in
set_option maxHeartbeats 4000000 in
theorem w_Yard_link_j53 {p : Program} {l : Launch} {e : Env} {R : Room} {s : State} {m : MethodId} {args : Array Value} {below : List Frame} {meth : Method} {c : Code} {dC : Nat → ClassId} {dI : Nat → Nat → Nat} {cs : Nat → ClassId} {ad : Nat → Nat} {A : Nat → Prop} {D0 : Nat → Nat} {S' : SS} {r : Int32} (F : Fx p s m args meth c cX11_link 6 RX11 (some .int) dC dI cs A) (hR1 : 3 ≤ R.frames) (hR2 : 66 ≤ R.locals) (x1 : Int32) (x2 : Int32) (x3 : Int32) (x4 : Int32) (x5 : Int32) (S : SS) (h : f_Yard_link_j53 x1 x2 x3 x4 x5 S = some (r, S')) : AW p l e R s m args below meth c dC dI cs ad A D0 (some (.int r)) S' 6 53 [(0, .ref (ad 61)), (1, .int x1), (2, .int x2), (3, .int x3), (4, .int x4), (5, .int x5)] [] S := by
  have hx := F.1.1
  have hb := F.1.2.1
  intro H locs ls w hl
  rw [f_Yard_link_j53] at h
  refine lv_iload (pc := 53) hx hb dX11_link_53 (lv_at hl 5 rfl) ?_
  refine lv_if_ne (pc := 55) (tgt := 83) hx hb dX11_link_55 (by decide) (fun q => ?_) (fun q => ?_)
  · have h := ite_f q h
    exact w_Yard_link_j83 F (Nat.le_trans (by decide) hR1) (Nat.le_trans (by decide) hR2) _ _ _ _ _ _ h _ _ _ w (lv_sub hl [0, 1, 2, 3, 4, 5] rfl)
  · have h := ite_t q h
    refine lv_aload_n (pc := 58) hx hb dX11_link_58 rfl (lv_at hl 0 rfl) ?_
    refine s_getR (pc := 59) F w 66 ds_61 (j := 4) vc_X11 vi_X11 rfl (by decide) kf_X11_42 dX11_link_59 ?_
    refine lv_iconst (pc := 62) (v := 2) hx hb dX11_link_62 (by decide) ?_
    refine lv_iload_n (pc := 63) hx hb dX11_link_63 rfl (lv_at hl 1 rfl) ?_
    refine lv_imul (pc := 64) hx hb dX11_link_64 ?_
    refine lv_iload_n (pc := 65) hx hb dX11_link_65 rfl (lv_at hl 2 rfl) ?_
    refine lv_iadd (pc := 66) hx hb dX11_link_66 ?_
    refine lv_iconst (pc := 67) (v := 2) hx hb dX11_link_67 (by decide) ?_
    refine lv_iload_n (pc := 68) hx hb dX11_link_68 rfl (lv_at hl 3 rfl) ?_
    refine lv_imul (pc := 69) hx hb dX11_link_69 ?_
    refine lv_iload (pc := 70) hx hb dX11_link_70 (lv_at hl 4 rfl) ?_
    refine lv_iadd (pc := 72) hx hb dX11_link_72 ?_
    obtain ⟨r13, S12, hc, h⟩ := bnd_t h
    refine s_cvi (pc := 73) [.int (((2 : Int32) * x1) + x2), .int (((2 : Int32) * x3) + x4)] (fun ad => [.ref (ad 66), .int (((2 : Int32) * x1) + x2), .int (((2 : Int32) * x3) + x4)]) F w (m_Layout_mayJoin _ _ _ _ _ hc) rfl rfl hl.1 ds_66 vc_X2 rfl ok_X2_mayJoin rfl kc_X2_mayJoin kl_X11_124 ki_X2_mayJoin kv_X2_mayJoin kn_X2 ⟨Nat.le_trans (by decide) hR1, Nat.le_trans (by decide) hR2⟩ ⟨Nat.zero_le _, Nat.zero_le _⟩ (Nat.le_of_ble_eq_true rfl) dX11_link_73 (fun H locs w => ?_)
    refine lv_if_ne (pc := 76) (tgt := 83) hx hb dX11_link_76 (by decide) (fun q => ?_) (fun q => ?_)
    · have h := ite_f q h
      exact w_Yard_link_j83 F (Nat.le_trans (by decide) hR1) (Nat.le_trans (by decide) hR2) _ _ _ _ _ _ h _ _ _ w (lv_sub hl [0, 1, 2, 3, 4, 5] rfl)
    · have h := ite_t q h
      refine lv_bipush (pc := 79) (v := 9) hx hb dX11_link_79 (by decide) ?_
      refine lv_istore (pc := 81) (lv' := [(5, .int (9 : Int32)), (0, .ref (ad 61)), (1, .int x1), (2, .int x2), (3, .int x3), (4, .int x4)]) hx hb dX11_link_81 hl (by decide) rfl (fun ls hl => ?_)
      exact w_Yard_link_j83 F (Nat.le_trans (by decide) hR1) (Nat.le_trans (by decide) hR2) _ _ _ _ _ _ h _ _ _ w (lv_sub hl [1, 2, 3, 4, 5, 0] rfl)
set_option maxRecDepth 100000 in
set_option maxHeartbeats 4000000 in
theorem m_Yard_link (a1 : Int32) (a2 : Int32) (a3 : Int32) (a4 : Int32) (S S' : SS) (r : Int32) (h : f_Yard_link a1 a2 a3 a4 S = some (r, S')) : MT yX11_link cX11_link 6 (some .int) 3 66 (fun ad => [.ref (ad 61), .int a1, .int a2, .int a3, .int a4]) S (some (.int r)) S' := by
  refine MT.of RX11 (fun ad => [(0, .ref (ad 61)), (1, .int a1), (2, .int a2), (3, .int a3), (4, .int a4)]) (by decide) rfl (fun _ => Nat.le_of_ble_eq_true rfl) (fun _ => rfl) ?_
  intro p l e R s m args below meth c dC dI cs ad A hR1 hR2 F H locs ls w hl
  have hx := F.1.1
  have hb := F.1.2.1
  rw [f_Yard_link] at h
  refine lv_iload_n (pc := 0) hx hb dX11_link_0 rfl (lv_at hl 2 rfl) ?_
  refine lv_iconst (pc := 1) (v := 0) hx hb dX11_link_1 (by decide) ?_
  refine lv_iconst (pc := 2) (v := 1) hx hb dX11_link_2 (by decide) ?_
  obtain ⟨r2, S1, hc, h⟩ := bnd_t h
  refine s_csi (pc := 3) [.int a2, .int (0 : Int32), .int (1 : Int32)] (fun ad => [.int a2, .int (0 : Int32), .int (1 : Int32)]) F w (m_Yard_isNot _ _ _ _ _ _ hc) rfl rfl hl.1 ok_X11_isNot rfl kc_X11_isNot kl_X11_108 ks_X11_isNot kn_X11 ⟨Nat.le_trans (by decide) hR1, Nat.le_trans (by decide) hR2⟩ ⟨Nat.zero_le _, Nat.zero_le _⟩ (Nat.le_of_ble_eq_true rfl) dX11_link_3 (fun H locs w => ?_)
  refine lv_if_ne (pc := 6) (tgt := 19) hx hb dX11_link_6 (by decide) (fun q => ?_) (fun q => ?_)
  · have h := ite_f q h
    refine lv_iconst (pc := 19) (v := -1) hx hb dX11_link_19 (by decide) ?_
    exact s_iret F w h dX11_link_20
  · have h := ite_t q h
    refine lv_iload (pc := 9) hx hb dX11_link_9 (lv_at hl 4 rfl) ?_
    refine lv_iconst (pc := 11) (v := 0) hx hb dX11_link_11 (by decide) ?_
    refine lv_iconst (pc := 12) (v := 1) hx hb dX11_link_12 (by decide) ?_
    obtain ⟨r4, S3, hc, h⟩ := bnd_t h
    refine s_csi (pc := 13) [.int a4, .int (0 : Int32), .int (1 : Int32)] (fun ad => [.int a4, .int (0 : Int32), .int (1 : Int32)]) F w (m_Yard_isNot _ _ _ _ _ _ hc) rfl rfl hl.1 ok_X11_isNot rfl kc_X11_isNot kl_X11_108 ks_X11_isNot kn_X11 ⟨Nat.le_trans (by decide) hR1, Nat.le_trans (by decide) hR2⟩ ⟨Nat.zero_le _, Nat.zero_le _⟩ (Nat.le_of_ble_eq_true rfl) dX11_link_13 (fun H locs w => ?_)
    refine lv_if_eq (pc := 16) (tgt := 21) hx hb dX11_link_16 (by decide) (fun q => ?_) (fun q => ?_)
    · have h := ite_t q h
      refine lv_aload_n (pc := 21) hx hb dX11_link_21 rfl (lv_at hl 0 rfl) ?_
      refine s_getR (pc := 22) F w 62 ds_61 (j := 0) vc_X11 vi_X11 rfl (by decide) kf_X11_10 dX11_link_22 ?_
      obtain ⟨S5, hc, h⟩ := bndv_t h
      refine s_cvv (pc := 25) [] (fun ad => [.ref (ad 62)]) F w (m_Report_begin  _ _ hc) rfl rfl hl.1 ds_62 vc_X5 rfl ok_X5_begin rfl kc_X5_begin kl_X11_95 ki_X5_begin kv_X5_begin kn_X5 ⟨Nat.le_trans (by decide) hR1, Nat.le_trans (by decide) hR2⟩ ⟨Nat.zero_le _, Nat.zero_le _⟩ (Nat.le_of_ble_eq_true rfl) dX11_link_25 (fun H locs w => ?_)
      refine lv_aload_n (pc := 28) hx hb dX11_link_28 rfl (lv_at hl 0 rfl) ?_
      refine s_getR (pc := 29) F w 66 ds_61 (j := 4) vc_X11 vi_X11 rfl (by decide) kf_X11_42 dX11_link_29 ?_
      refine lv_iload_n (pc := 32) hx hb dX11_link_32 rfl (lv_at hl 1 rfl) ?_
      obtain ⟨r7, S6, hc, h⟩ := bnd_t h
      refine s_cvi (pc := 33) [.int a1] (fun ad => [.ref (ad 66), .int a1]) F w (m_Layout_trackFinding _ _ _ _ hc) rfl rfl hl.1 ds_66 vc_X2 rfl ok_X2_trackFinding rfl kc_X2_trackFinding kl_X11_115 ki_X2_trackFinding kv_X2_trackFinding kn_X2 ⟨Nat.le_trans (by decide) hR1, Nat.le_trans (by decide) hR2⟩ ⟨Nat.zero_le _, Nat.zero_le _⟩ (Nat.le_of_ble_eq_true rfl) dX11_link_33 (fun H locs w => ?_)
      refine lv_istore (pc := 36) (lv' := [(5, .int r7), (0, .ref (ad 61)), (1, .int a1), (2, .int a2), (3, .int a3), (4, .int a4)]) hx hb dX11_link_36 hl (by decide) rfl (fun ls hl => ?_)
      refine lv_iload (pc := 38) hx hb dX11_link_38 (lv_at hl 0 rfl) ?_
      refine lv_if_ne (pc := 40) (tgt := 53) hx hb dX11_link_40 (by decide) (fun q => ?_) (fun q => ?_)
      · have h := ite_f q h
        exact w_Yard_link_j53 F (Nat.le_trans (by decide) hR1) (Nat.le_trans (by decide) hR2) _ _ _ _ _ _ h _ _ _ w (lv_sub hl [1, 2, 3, 4, 5, 0] rfl)
      · have h := ite_t q h
        refine lv_aload_n (pc := 43) hx hb dX11_link_43 rfl (lv_at hl 1 rfl) ?_
        refine s_getR (pc := 44) F w 66 ds_61 (j := 4) vc_X11 vi_X11 rfl (by decide) kf_X11_42 dX11_link_44 ?_
        refine lv_iload_n (pc := 47) hx hb dX11_link_47 rfl (lv_at hl 4 rfl) ?_
        obtain ⟨r15, S14, hc, h⟩ := bnd_t h
        refine s_cvi (pc := 48) [.int a3] (fun ad => [.ref (ad 66), .int a3]) F w (m_Layout_trackFinding _ _ _ _ hc) rfl rfl hl.1 ds_66 vc_X2 rfl ok_X2_trackFinding rfl kc_X2_trackFinding kl_X11_115 ki_X2_trackFinding kv_X2_trackFinding kn_X2 ⟨Nat.le_trans (by decide) hR1, Nat.le_trans (by decide) hR2⟩ ⟨Nat.zero_le _, Nat.zero_le _⟩ (Nat.le_of_ble_eq_true rfl) dX11_link_48 (fun H locs w => ?_)
        refine lv_istore (pc := 51) (lv' := [(5, .int r15), (0, .ref (ad 61)), (1, .int a1), (2, .int a2), (3, .int a3), (4, .int a4)]) hx hb dX11_link_51 hl (by decide) rfl (fun ls hl => ?_)
        exact w_Yard_link_j53 F (Nat.le_trans (by decide) hR1) (Nat.le_trans (by decide) hR2) _ _ _ _ _ _ h _ _ _ w (lv_sub hl [1, 2, 3, 4, 5, 0] rfl)
    · have h := ite_f q h
      refine lv_iconst (pc := 19) (v := -1) hx hb dX11_link_19 (by decide) ?_
      exact s_iret F w h dX11_link_20
def f_Layout_setExit (a1 : Int32) (a2 : Int32) (S : SS) : Option (Int32 × SS) :=
  bnd (f_Layout_isEnd a1 S) (fun r2 S1 =>
  if r2 = 0 then
    some ((0 : Int32), S1)
  else
    grd (inb a1 48) (
    nm (S1.1 98 a1.toNatClampNeg) (fun z3 =>
    grd (inb a1 48) (wr S1 98 a1.toNatClampNeg (vp_nar .boolean a2) (fun S4 =>
    grd (isB z3) (some (z3, S4)))))))
theorem dX2_setExit_0 : decode cX2_setExit 0 = .ok (.iload_n 1, 1) := dc_27 (by decide +kernel)
theorem dX2_setExit_1 : decode cX2_setExit 1 = .ok (.invokestatic 48, 3) := dc_184 (a := 0) (b := 48) (by decide +kernel)
theorem dX2_setExit_4 : decode cX2_setExit 4 = .ok (.ifCond .ne 5, 3) := dc_154 (a := 0) (b := 5) (by decide +kernel) (by decide)
theorem dX2_setExit_7 : decode cX2_setExit 7 = .ok (.iconst 0, 1) := dc_3 (by decide +kernel)
theorem dX2_setExit_8 : decode cX2_setExit 8 = .ok (.ireturn, 1) := dc_172 (by decide +kernel)
theorem dX2_setExit_9 : decode cX2_setExit 9 = .ok (.aload_n 0, 1) := dc_42 (by decide +kernel)
theorem dX2_setExit_10 : decode cX2_setExit 10 = .ok (.getfield 27, 3) := dc_180 (a := 0) (b := 27) (by decide +kernel)
theorem dX2_setExit_13 : decode cX2_setExit 13 = .ok (.iload_n 1, 1) := dc_27 (by decide +kernel)
theorem dX2_setExit_14 : decode cX2_setExit 14 = .ok (.baload, 1) := dc_51 (by decide +kernel)
theorem dX2_setExit_15 : decode cX2_setExit 15 = .ok (.istore_n 3, 1) := dc_62 (by decide +kernel)
theorem dX2_setExit_16 : decode cX2_setExit 16 = .ok (.aload_n 0, 1) := dc_42 (by decide +kernel)
theorem dX2_setExit_17 : decode cX2_setExit 17 = .ok (.getfield 27, 3) := dc_180 (a := 0) (b := 27) (by decide +kernel)
theorem dX2_setExit_20 : decode cX2_setExit 20 = .ok (.iload_n 1, 1) := dc_27 (by decide +kernel)
theorem dX2_setExit_21 : decode cX2_setExit 21 = .ok (.iload_n 2, 1) := dc_28 (by decide +kernel)
theorem dX2_setExit_22 : decode cX2_setExit 22 = .ok (.bastore, 1) := dc_84 (by decide +kernel)
theorem dX2_setExit_23 : decode cX2_setExit 23 = .ok (.iload_n 3, 1) := dc_29 (by decide +kernel)
theorem dX2_setExit_24 : decode cX2_setExit 24 = .ok (.ireturn, 1) := dc_172 (by decide +kernel)
set_option maxRecDepth 100000 in
set_option maxHeartbeats 4000000 in
theorem m_Layout_setExit (a1 : Int32) (a2 : Int32) (S S' : SS) (r : Int32) (h : f_Layout_setExit a1 a2 S = some (r, S')) : MT yX2_setExit cX2_setExit 4 (some .boolean) 1 20 (fun ad => [.ref (ad 66), .int a1, .int a2]) S (some (.int r)) S' := by
  refine MT.of RX2 (fun ad => [(0, .ref (ad 66)), (1, .int a1), (2, .int a2)]) (by decide) rfl (fun _ => Nat.le_of_ble_eq_true rfl) (fun _ => rfl) ?_
  intro p l e R s m args below meth c dC dI cs ad A hR1 hR2 F H locs ls w hl
  have hx := F.1.1
  have hb := F.1.2.1
  rw [f_Layout_setExit] at h
  refine lv_iload_n (pc := 0) hx hb dX2_setExit_0 rfl (lv_at hl 1 rfl) ?_
  obtain ⟨r2, S1, hc, h⟩ := bnd_t h
  refine s_csi (pc := 1) [.int a1] (fun ad => [.int a1]) F w (m_Layout_isEnd _ _ _ _ hc) rfl rfl hl.1 ok_X2_isEnd rfl kc_X2_isEnd kl_X2_48 ks_X2_isEnd kn_X2 ⟨Nat.le_trans (by decide) hR1, Nat.le_trans (by decide) hR2⟩ ⟨Nat.zero_le _, Nat.zero_le _⟩ (Nat.le_of_ble_eq_true rfl) dX2_setExit_1 (fun H locs w => ?_)
  refine lv_if_ne (pc := 4) (tgt := 9) hx hb dX2_setExit_4 (by decide) (fun q => ?_) (fun q => ?_)
  · have h := ite_f q h
    refine lv_aload_n (pc := 9) hx hb dX2_setExit_9 rfl (lv_at hl 0 rfl) ?_
    refine s_getR (pc := 10) F w 98 ds_66 (j := 6) vc_X2 vi_X2 rfl (by decide) kf_X2_27 dX2_setExit_10 ?_
    refine lv_iload_n (pc := 13) hx hb dX2_setExit_13 rfl (lv_at hl 1 rfl) ?_
    refine s_zald (pc := 14) F w ds_98 h dX2_setExit_14 (fun h => ?_)
    refine s_nm h (fun z3 ez3 h => ?_)
    rw [← ez3]
    refine lv_istore_n (pc := 15) (lv' := [(3, .int z3), (0, .ref (ad 66)), (1, .int a1), (2, .int a2)]) hx hb dX2_setExit_15 rfl hl (by decide) rfl (fun ls hl => ?_)
    refine lv_aload_n (pc := 16) hx hb dX2_setExit_16 rfl (lv_at hl 1 rfl) ?_
    refine s_getR (pc := 17) F w 98 ds_66 (j := 6) vc_X2 vi_X2 rfl (by decide) kf_X2_27 dX2_setExit_17 ?_
    refine lv_iload_n (pc := 20) hx hb dX2_setExit_20 rfl (lv_at hl 2 rfl) ?_
    refine lv_iload_n (pc := 21) hx hb dX2_setExit_21 rfl (lv_at hl 3 rfl) ?_
    refine s_zast (pc := 22) F w ds_98 h dX2_setExit_22 (fun S4 H locs h w => ?_)
    refine lv_iload_n (pc := 23) hx hb dX2_setExit_23 rfl (lv_at hl 0 rfl) ?_
    exact s_zret F w h dX2_setExit_24
  · have h := ite_t q h
    refine lv_iconst (pc := 7) (v := 0) hx hb dX2_setExit_7 (by decide) ?_
    exact s_zretc F w rfl h dX2_setExit_8
def f_Yard_exit (a1 : Int32) (a2 : Int32) (a3 : Int32) (S : SS) : Option (Int32 × SS) :=
  bnd (f_Yard_isNot a2 (0 : Int32) (1 : Int32) S) (fun r2 S1 =>
  if r2 = 0 then
    bndv (f_Report_begin  S1) (fun S3 =>
    bnd (f_Layout_trackFinding a1 S3) (fun r5 S4 =>
    if r5 = 0 then
      bndv (f_History_forget  S4) (fun S6 =>
      bnd (f_Layout_setExit (((2 : Int32) * a1) + a2) a3 S6) (fun r8 S7 =>
      if r8 = 0 then
        some ((0 : Int32), S7)
      else
        some ((1 : Int32), S7)))
    else
      bnd (f_Report_found r5 S4) (fun r10 S9 =>
      some (r10, S9))))
  else
    some ((-1 : Int32), S1))
theorem dX11_exit_0 : decode cX11_exit 0 = .ok (.iload_n 2, 1) := dc_28 (by decide +kernel)
theorem dX11_exit_1 : decode cX11_exit 1 = .ok (.iconst 0, 1) := dc_3 (by decide +kernel)
theorem dX11_exit_2 : decode cX11_exit 2 = .ok (.iconst 1, 1) := dc_4 (by decide +kernel)
theorem dX11_exit_3 : decode cX11_exit 3 = .ok (.invokestatic 108, 3) := dc_184 (a := 0) (b := 108) (by decide +kernel)
theorem dX11_exit_6 : decode cX11_exit 6 = .ok (.ifCond .eq 5, 3) := dc_153 (a := 0) (b := 5) (by decide +kernel) (by decide)
theorem dX11_exit_9 : decode cX11_exit 9 = .ok (.iconst (-1), 1) := dc_2 (by decide +kernel)
theorem dX11_exit_10 : decode cX11_exit 10 = .ok (.ireturn, 1) := dc_172 (by decide +kernel)
theorem dX11_exit_11 : decode cX11_exit 11 = .ok (.aload_n 0, 1) := dc_42 (by decide +kernel)
theorem dX11_exit_12 : decode cX11_exit 12 = .ok (.getfield 10, 3) := dc_180 (a := 0) (b := 10) (by decide +kernel)
theorem dX11_exit_15 : decode cX11_exit 15 = .ok (.invokevirtual 95, 3) := dc_182 (a := 0) (b := 95) (by decide +kernel)
theorem dX11_exit_18 : decode cX11_exit 18 = .ok (.aload_n 0, 1) := dc_42 (by decide +kernel)
theorem dX11_exit_19 : decode cX11_exit 19 = .ok (.getfield 42, 3) := dc_180 (a := 0) (b := 42) (by decide +kernel)
theorem dX11_exit_22 : decode cX11_exit 22 = .ok (.iload_n 1, 1) := dc_27 (by decide +kernel)
theorem dX11_exit_23 : decode cX11_exit 23 = .ok (.invokevirtual 115, 3) := dc_182 (a := 0) (b := 115) (by decide +kernel)
theorem dX11_exit_26 : decode cX11_exit 26 = .ok (.istore 4, 2) := dc_54 (a := 4) (by decide +kernel)
theorem dX11_exit_28 : decode cX11_exit 28 = .ok (.iload 4, 2) := dc_21 (a := 4) (by decide +kernel)
theorem dX11_exit_30 : decode cX11_exit 30 = .ok (.ifCond .eq 13, 3) := dc_153 (a := 0) (b := 13) (by decide +kernel) (by decide)
theorem dX11_exit_33 : decode cX11_exit 33 = .ok (.aload_n 0, 1) := dc_42 (by decide +kernel)
theorem dX11_exit_34 : decode cX11_exit 34 = .ok (.getfield 10, 3) := dc_180 (a := 0) (b := 10) (by decide +kernel)
theorem dX11_exit_37 : decode cX11_exit 37 = .ok (.iload 4, 2) := dc_21 (a := 4) (by decide +kernel)
theorem dX11_exit_39 : decode cX11_exit 39 = .ok (.invokevirtual 98, 3) := dc_182 (a := 0) (b := 98) (by decide +kernel)
theorem dX11_exit_42 : decode cX11_exit 42 = .ok (.ireturn, 1) := dc_172 (by decide +kernel)
theorem dX11_exit_43 : decode cX11_exit 43 = .ok (.aload_n 0, 1) := dc_42 (by decide +kernel)
theorem dX11_exit_44 : decode cX11_exit 44 = .ok (.getfield 26, 3) := dc_180 (a := 0) (b := 26) (by decide +kernel)
theorem dX11_exit_47 : decode cX11_exit 47 = .ok (.invokevirtual 102, 3) := dc_182 (a := 0) (b := 102) (by decide +kernel)
theorem dX11_exit_50 : decode cX11_exit 50 = .ok (.aload_n 0, 1) := dc_42 (by decide +kernel)
theorem dX11_exit_51 : decode cX11_exit 51 = .ok (.getfield 42, 3) := dc_180 (a := 0) (b := 42) (by decide +kernel)
theorem dX11_exit_54 : decode cX11_exit 54 = .ok (.iconst 2, 1) := dc_5 (by decide +kernel)
theorem dX11_exit_55 : decode cX11_exit 55 = .ok (.iload_n 1, 1) := dc_27 (by decide +kernel)
theorem dX11_exit_56 : decode cX11_exit 56 = .ok (.imul, 1) := dc_104 (by decide +kernel)
theorem dX11_exit_57 : decode cX11_exit 57 = .ok (.iload_n 2, 1) := dc_28 (by decide +kernel)
theorem dX11_exit_58 : decode cX11_exit 58 = .ok (.iadd, 1) := dc_96 (by decide +kernel)
theorem dX11_exit_59 : decode cX11_exit 59 = .ok (.iload_n 3, 1) := dc_29 (by decide +kernel)
theorem dX11_exit_60 : decode cX11_exit 60 = .ok (.invokevirtual 132, 3) := dc_182 (a := 0) (b := 132) (by decide +kernel)
theorem dX11_exit_63 : decode cX11_exit 63 = .ok (.ifCond .eq 7, 3) := dc_153 (a := 0) (b := 7) (by decide +kernel) (by decide)
theorem dX11_exit_66 : decode cX11_exit 66 = .ok (.iconst 1, 1) := dc_4 (by decide +kernel)
theorem dX11_exit_67 : decode cX11_exit 67 = .ok (.goto 4, 3) := dc_167 (a := 0) (b := 4) (by decide +kernel) (by decide)
theorem dX11_exit_70 : decode cX11_exit 70 = .ok (.iconst 0, 1) := dc_3 (by decide +kernel)
theorem dX11_exit_71 : decode cX11_exit 71 = .ok (.ireturn, 1) := dc_172 (by decide +kernel)
set_option maxRecDepth 100000 in
set_option maxHeartbeats 4000000 in
theorem m_Yard_exit (a1 : Int32) (a2 : Int32) (a3 : Int32) (S S' : SS) (r : Int32) (h : f_Yard_exit a1 a2 a3 S = some (r, S')) : MT yX11_exit cX11_exit 5 (some .int) 2 43 (fun ad => [.ref (ad 61), .int a1, .int a2, .int a3]) S (some (.int r)) S' := by
  refine MT.of RX11 (fun ad => [(0, .ref (ad 61)), (1, .int a1), (2, .int a2), (3, .int a3)]) (by decide) rfl (fun _ => Nat.le_of_ble_eq_true rfl) (fun _ => rfl) ?_
  intro p l e R s m args below meth c dC dI cs ad A hR1 hR2 F H locs ls w hl
  have hx := F.1.1
  have hb := F.1.2.1
  rw [f_Yard_exit] at h
  refine lv_iload_n (pc := 0) hx hb dX11_exit_0 rfl (lv_at hl 2 rfl) ?_
  refine lv_iconst (pc := 1) (v := 0) hx hb dX11_exit_1 (by decide) ?_
  refine lv_iconst (pc := 2) (v := 1) hx hb dX11_exit_2 (by decide) ?_
  obtain ⟨r2, S1, hc, h⟩ := bnd_t h
  refine s_csi (pc := 3) [.int a2, .int (0 : Int32), .int (1 : Int32)] (fun ad => [.int a2, .int (0 : Int32), .int (1 : Int32)]) F w (m_Yard_isNot _ _ _ _ _ _ hc) rfl rfl hl.1 ok_X11_isNot rfl kc_X11_isNot kl_X11_108 ks_X11_isNot kn_X11 ⟨Nat.le_trans (by decide) hR1, Nat.le_trans (by decide) hR2⟩ ⟨Nat.zero_le _, Nat.zero_le _⟩ (Nat.le_of_ble_eq_true rfl) dX11_exit_3 (fun H locs w => ?_)
  refine lv_if_eq (pc := 6) (tgt := 11) hx hb dX11_exit_6 (by decide) (fun q => ?_) (fun q => ?_)
  · have h := ite_t q h
    refine lv_aload_n (pc := 11) hx hb dX11_exit_11 rfl (lv_at hl 0 rfl) ?_
    refine s_getR (pc := 12) F w 62 ds_61 (j := 0) vc_X11 vi_X11 rfl (by decide) kf_X11_10 dX11_exit_12 ?_
    obtain ⟨S3, hc, h⟩ := bndv_t h
    refine s_cvv (pc := 15) [] (fun ad => [.ref (ad 62)]) F w (m_Report_begin  _ _ hc) rfl rfl hl.1 ds_62 vc_X5 rfl ok_X5_begin rfl kc_X5_begin kl_X11_95 ki_X5_begin kv_X5_begin kn_X5 ⟨Nat.le_trans (by decide) hR1, Nat.le_trans (by decide) hR2⟩ ⟨Nat.zero_le _, Nat.zero_le _⟩ (Nat.le_of_ble_eq_true rfl) dX11_exit_15 (fun H locs w => ?_)
    refine lv_aload_n (pc := 18) hx hb dX11_exit_18 rfl (lv_at hl 0 rfl) ?_
    refine s_getR (pc := 19) F w 66 ds_61 (j := 4) vc_X11 vi_X11 rfl (by decide) kf_X11_42 dX11_exit_19 ?_
    refine lv_iload_n (pc := 22) hx hb dX11_exit_22 rfl (lv_at hl 1 rfl) ?_
    obtain ⟨r5, S4, hc, h⟩ := bnd_t h
    refine s_cvi (pc := 23) [.int a1] (fun ad => [.ref (ad 66), .int a1]) F w (m_Layout_trackFinding _ _ _ _ hc) rfl rfl hl.1 ds_66 vc_X2 rfl ok_X2_trackFinding rfl kc_X2_trackFinding kl_X11_115 ki_X2_trackFinding kv_X2_trackFinding kn_X2 ⟨Nat.le_trans (by decide) hR1, Nat.le_trans (by decide) hR2⟩ ⟨Nat.zero_le _, Nat.zero_le _⟩ (Nat.le_of_ble_eq_true rfl) dX11_exit_23 (fun H locs w => ?_)
    refine lv_istore (pc := 26) (lv' := [(4, .int r5), (0, .ref (ad 61)), (1, .int a1), (2, .int a2), (3, .int a3)]) hx hb dX11_exit_26 hl (by decide) rfl (fun ls hl => ?_)
    refine lv_iload (pc := 28) hx hb dX11_exit_28 (lv_at hl 0 rfl) ?_
    refine lv_if_eq (pc := 30) (tgt := 43) hx hb dX11_exit_30 (by decide) (fun q => ?_) (fun q => ?_)
    · have h := ite_t q h
      refine lv_aload_n (pc := 43) hx hb dX11_exit_43 rfl (lv_at hl 1 rfl) ?_
      refine s_getR (pc := 44) F w 64 ds_61 (j := 2) vc_X11 vi_X11 rfl (by decide) kf_X11_26 dX11_exit_44 ?_
      obtain ⟨S6, hc, h⟩ := bndv_t h
      refine s_cvv (pc := 47) [] (fun ad => [.ref (ad 64)]) F w (m_History_forget  _ _ hc) rfl rfl hl.1 ds_64 vc_X1 rfl ok_X1_forget rfl kc_X1_forget kl_X11_102 ki_X1_forget kv_X1_forget kn_X1 ⟨Nat.le_trans (by decide) hR1, Nat.le_trans (by decide) hR2⟩ ⟨Nat.zero_le _, Nat.zero_le _⟩ (Nat.le_of_ble_eq_true rfl) dX11_exit_47 (fun H locs w => ?_)
      refine lv_aload_n (pc := 50) hx hb dX11_exit_50 rfl (lv_at hl 1 rfl) ?_
      refine s_getR (pc := 51) F w 66 ds_61 (j := 4) vc_X11 vi_X11 rfl (by decide) kf_X11_42 dX11_exit_51 ?_
      refine lv_iconst (pc := 54) (v := 2) hx hb dX11_exit_54 (by decide) ?_
      refine lv_iload_n (pc := 55) hx hb dX11_exit_55 rfl (lv_at hl 2 rfl) ?_
      refine lv_imul (pc := 56) hx hb dX11_exit_56 ?_
      refine lv_iload_n (pc := 57) hx hb dX11_exit_57 rfl (lv_at hl 3 rfl) ?_
      refine lv_iadd (pc := 58) hx hb dX11_exit_58 ?_
      refine lv_iload_n (pc := 59) hx hb dX11_exit_59 rfl (lv_at hl 4 rfl) ?_
      obtain ⟨r8, S7, hc, h⟩ := bnd_t h
      refine s_cvi (pc := 60) [.int (((2 : Int32) * a1) + a2), .int a3] (fun ad => [.ref (ad 66), .int (((2 : Int32) * a1) + a2), .int a3]) F w (m_Layout_setExit _ _ _ _ _ hc) rfl rfl hl.1 ds_66 vc_X2 rfl ok_X2_setExit rfl kc_X2_setExit kl_X11_132 ki_X2_setExit kv_X2_setExit kn_X2 ⟨Nat.le_trans (by decide) hR1, Nat.le_trans (by decide) hR2⟩ ⟨Nat.zero_le _, Nat.zero_le _⟩ (Nat.le_of_ble_eq_true rfl) dX11_exit_60 (fun H locs w => ?_)
      refine lv_if_eq (pc := 63) (tgt := 70) hx hb dX11_exit_63 (by decide) (fun q => ?_) (fun q => ?_)
      · have h := ite_t q h
        refine lv_iconst (pc := 70) (v := 0) hx hb dX11_exit_70 (by decide) ?_
        exact s_iret F w h dX11_exit_71
      · have h := ite_f q h
        refine lv_iconst (pc := 66) (v := 1) hx hb dX11_exit_66 (by decide) ?_
        refine lv_goto (pc := 67) (tgt := 71) hx hb dX11_exit_67 (by decide) ?_
        exact s_iret F w h dX11_exit_71
    · have h := ite_f q h
      refine lv_aload_n (pc := 33) hx hb dX11_exit_33 rfl (lv_at hl 1 rfl) ?_
      refine s_getR (pc := 34) F w 62 ds_61 (j := 0) vc_X11 vi_X11 rfl (by decide) kf_X11_10 dX11_exit_34 ?_
      refine lv_iload (pc := 37) hx hb dX11_exit_37 (lv_at hl 0 rfl) ?_
      obtain ⟨r10, S9, hc, h⟩ := bnd_t h
      refine s_cvi (pc := 39) [.int r5] (fun ad => [.ref (ad 62), .int r5]) F w (m_Report_found _ _ _ _ hc) rfl rfl hl.1 ds_62 vc_X5 rfl ok_X5_found rfl kc_X5_found kl_X11_98 ki_X5_found kv_X5_found kn_X5 ⟨Nat.le_trans (by decide) hR1, Nat.le_trans (by decide) hR2⟩ ⟨Nat.zero_le _, Nat.zero_le _⟩ (Nat.le_of_ble_eq_true rfl) dX11_exit_39 (fun H locs w => ?_)
      exact s_iret F w h dX11_exit_42
  · have h := ite_f q h
    refine lv_iconst (pc := 9) (v := -1) hx hb dX11_exit_9 (by decide) ?_
    exact s_iret F w h dX11_exit_10
def f_Layout_placesOf (a1 : Int32) (S : SS) : Option (Int32 × SS) :=
  if a1 < 0 then
    some ((0 : Int32), S)
  else
    if (S.1 66 7) ≤ a1 then
      some ((0 : Int32), S)
    else
      grd (inb a1 24) (
      some (S.1 93 a1.toNatClampNeg, S))
theorem dX2_placesOf_0 : decode cX2_placesOf 0 = .ok (.iload_n 1, 1) := dc_27 (by decide +kernel)
theorem dX2_placesOf_1 : decode cX2_placesOf 1 = .ok (.ifCond .lt 20, 3) := dc_155 (a := 0) (b := 20) (by decide +kernel) (by decide)
theorem dX2_placesOf_4 : decode cX2_placesOf 4 = .ok (.iload_n 1, 1) := dc_27 (by decide +kernel)
theorem dX2_placesOf_5 : decode cX2_placesOf 5 = .ok (.aload_n 0, 1) := dc_42 (by decide +kernel)
theorem dX2_placesOf_6 : decode cX2_placesOf 6 = .ok (.getfield 31, 3) := dc_180 (a := 0) (b := 31) (by decide +kernel)
theorem dX2_placesOf_9 : decode cX2_placesOf 9 = .ok (.if_icmp .ge 12, 3) := dc_162 (a := 0) (b := 12) (by decide +kernel) (by decide)
theorem dX2_placesOf_12 : decode cX2_placesOf 12 = .ok (.aload_n 0, 1) := dc_42 (by decide +kernel)
theorem dX2_placesOf_13 : decode cX2_placesOf 13 = .ok (.getfield 11, 3) := dc_180 (a := 0) (b := 11) (by decide +kernel)
theorem dX2_placesOf_16 : decode cX2_placesOf 16 = .ok (.iload_n 1, 1) := dc_27 (by decide +kernel)
theorem dX2_placesOf_17 : decode cX2_placesOf 17 = .ok (.iaload, 1) := dc_46 (by decide +kernel)
theorem dX2_placesOf_18 : decode cX2_placesOf 18 = .ok (.goto 4, 3) := dc_167 (a := 0) (b := 4) (by decide +kernel) (by decide)
theorem dX2_placesOf_21 : decode cX2_placesOf 21 = .ok (.iconst 0, 1) := dc_3 (by decide +kernel)
theorem dX2_placesOf_22 : decode cX2_placesOf 22 = .ok (.ireturn, 1) := dc_172 (by decide +kernel)
set_option maxRecDepth 100000 in
set_option maxHeartbeats 4000000 in
theorem m_Layout_placesOf (a1 : Int32) (S S' : SS) (r : Int32) (h : f_Layout_placesOf a1 S = some (r, S')) : MT yX2_placesOf cX2_placesOf 2 (some .int) 0 0 (fun ad => [.ref (ad 66), .int a1]) S (some (.int r)) S' := by
  refine MT.of RX2 (fun ad => [(0, .ref (ad 66)), (1, .int a1)]) (by decide) rfl (fun _ => Nat.le_of_ble_eq_true rfl) (fun _ => rfl) ?_
  intro p l e R s m args below meth c dC dI cs ad A hR1 hR2 F H locs ls w hl
  have hx := F.1.1
  have hb := F.1.2.1
  rw [f_Layout_placesOf] at h
  refine lv_iload_n (pc := 0) hx hb dX2_placesOf_0 rfl (lv_at hl 1 rfl) ?_
  refine lv_if_lt (pc := 1) (tgt := 21) hx hb dX2_placesOf_1 (by decide) (fun q => ?_) (fun q => ?_)
  · have h := ite_t q h
    refine lv_iconst (pc := 21) (v := 0) hx hb dX2_placesOf_21 (by decide) ?_
    exact s_iret F w h dX2_placesOf_22
  · have h := ite_f q h
    refine lv_iload_n (pc := 4) hx hb dX2_placesOf_4 rfl (lv_at hl 1 rfl) ?_
    refine lv_aload_n (pc := 5) hx hb dX2_placesOf_5 rfl (lv_at hl 0 rfl) ?_
    refine s_getI (pc := 6) F w ds_66 (j := 7) vc_X2 vi_X2 rfl (by decide) kf_X2_31 dX2_placesOf_6 ?_
    refine lv_icmp_ge (pc := 9) (tgt := 21) hx hb dX2_placesOf_9 (by decide) (fun q => ?_) (fun q => ?_)
    · have h := ite_t q h
      refine lv_iconst (pc := 21) (v := 0) hx hb dX2_placesOf_21 (by decide) ?_
      exact s_iret F w h dX2_placesOf_22
    · have h := ite_f q h
      refine lv_aload_n (pc := 12) hx hb dX2_placesOf_12 rfl (lv_at hl 0 rfl) ?_
      refine s_getR (pc := 13) F w 93 ds_66 (j := 1) vc_X2 vi_X2 rfl (by decide) kf_X2_11 dX2_placesOf_13 ?_
      refine lv_iload_n (pc := 16) hx hb dX2_placesOf_16 rfl (lv_at hl 1 rfl) ?_
      refine s_iald (pc := 17) F w ds_93 h dX2_placesOf_17 (fun h => ?_)
      refine lv_goto (pc := 18) (tgt := 22) hx hb dX2_placesOf_18 (by decide) ?_
      exact s_iret F w h dX2_placesOf_22
def f_Layout_placeFinding (a1 : Int32) (a2 : Int32) (S : SS) : Option (Int32 × SS) :=
  bnd (f_Layout_trackFinding a1 S) (fun r2 S1 =>
  if r2 = 0 then
    if a2 < 0 then
      some ((3 : Int32), S1)
    else
      bnd (f_Layout_placesOf a1 S1) (fun r4 S3 =>
      if a2 < r4 then
        some (r2, S3)
      else
        some ((3 : Int32), S3))
  else
    some (r2, S1))
theorem dX2_placeFinding_0 : decode cX2_placeFinding 0 = .ok (.aload_n 0, 1) := dc_42 (by decide +kernel)
theorem dX2_placeFinding_1 : decode cX2_placeFinding 1 = .ok (.iload_n 1, 1) := dc_27 (by decide +kernel)
theorem dX2_placeFinding_2 : decode cX2_placeFinding 2 = .ok (.invokevirtual 58, 3) := dc_182 (a := 0) (b := 58) (by decide +kernel)
theorem dX2_placeFinding_5 : decode cX2_placeFinding 5 = .ok (.istore_n 3, 1) := dc_62 (by decide +kernel)
theorem dX2_placeFinding_6 : decode cX2_placeFinding 6 = .ok (.iload_n 3, 1) := dc_29 (by decide +kernel)
theorem dX2_placeFinding_7 : decode cX2_placeFinding 7 = .ok (.ifCond .ne 18, 3) := dc_154 (a := 0) (b := 18) (by decide +kernel) (by decide)
theorem dX2_placeFinding_10 : decode cX2_placeFinding 10 = .ok (.iload_n 2, 1) := dc_28 (by decide +kernel)
theorem dX2_placeFinding_11 : decode cX2_placeFinding 11 = .ok (.ifCond .lt 12, 3) := dc_155 (a := 0) (b := 12) (by decide +kernel) (by decide)
theorem dX2_placeFinding_14 : decode cX2_placeFinding 14 = .ok (.iload_n 2, 1) := dc_28 (by decide +kernel)
theorem dX2_placeFinding_15 : decode cX2_placeFinding 15 = .ok (.aload_n 0, 1) := dc_42 (by decide +kernel)
theorem dX2_placeFinding_16 : decode cX2_placeFinding 16 = .ok (.iload_n 1, 1) := dc_27 (by decide +kernel)
theorem dX2_placeFinding_17 : decode cX2_placeFinding 17 = .ok (.invokevirtual 62, 3) := dc_182 (a := 0) (b := 62) (by decide +kernel)
theorem dX2_placeFinding_20 : decode cX2_placeFinding 20 = .ok (.if_icmp .lt 5, 3) := dc_161 (a := 0) (b := 5) (by decide +kernel) (by decide)
theorem dX2_placeFinding_23 : decode cX2_placeFinding 23 = .ok (.iconst 3, 1) := dc_6 (by decide +kernel)
theorem dX2_placeFinding_24 : decode cX2_placeFinding 24 = .ok (.ireturn, 1) := dc_172 (by decide +kernel)
theorem dX2_placeFinding_25 : decode cX2_placeFinding 25 = .ok (.iload_n 3, 1) := dc_29 (by decide +kernel)
theorem dX2_placeFinding_26 : decode cX2_placeFinding 26 = .ok (.ireturn, 1) := dc_172 (by decide +kernel)
set_option maxRecDepth 100000 in
set_option maxHeartbeats 4000000 in
theorem m_Layout_placeFinding (a1 : Int32) (a2 : Int32) (S S' : SS) (r : Int32) (h : f_Layout_placeFinding a1 a2 S = some (r, S')) : MT yX2_placeFinding cX2_placeFinding 4 (some .int) 1 21 (fun ad => [.ref (ad 66), .int a1, .int a2]) S (some (.int r)) S' := by
  refine MT.of RX2 (fun ad => [(0, .ref (ad 66)), (1, .int a1), (2, .int a2)]) (by decide) rfl (fun _ => Nat.le_of_ble_eq_true rfl) (fun _ => rfl) ?_
  intro p l e R s m args below meth c dC dI cs ad A hR1 hR2 F H locs ls w hl
  have hx := F.1.1
  have hb := F.1.2.1
  rw [f_Layout_placeFinding] at h
  refine lv_aload_n (pc := 0) hx hb dX2_placeFinding_0 rfl (lv_at hl 0 rfl) ?_
  refine lv_iload_n (pc := 1) hx hb dX2_placeFinding_1 rfl (lv_at hl 1 rfl) ?_
  obtain ⟨r2, S1, hc, h⟩ := bnd_t h
  refine s_cvi (pc := 2) [.int a1] (fun ad => [.ref (ad 66), .int a1]) F w (m_Layout_trackFinding _ _ _ _ hc) rfl rfl hl.1 ds_66 vc_X2 rfl ok_X2_trackFinding rfl kc_X2_trackFinding kl_X2_58 ki_X2_trackFinding kv_X2_trackFinding kn_X2 ⟨Nat.le_trans (by decide) hR1, Nat.le_trans (by decide) hR2⟩ ⟨Nat.zero_le _, Nat.zero_le _⟩ (Nat.le_of_ble_eq_true rfl) dX2_placeFinding_2 (fun H locs w => ?_)
  refine lv_istore_n (pc := 5) (lv' := [(3, .int r2), (0, .ref (ad 66)), (1, .int a1), (2, .int a2)]) hx hb dX2_placeFinding_5 rfl hl (by decide) rfl (fun ls hl => ?_)
  refine lv_iload_n (pc := 6) hx hb dX2_placeFinding_6 rfl (lv_at hl 0 rfl) ?_
  refine lv_if_ne (pc := 7) (tgt := 25) hx hb dX2_placeFinding_7 (by decide) (fun q => ?_) (fun q => ?_)
  · have h := ite_f q h
    refine lv_iload_n (pc := 25) hx hb dX2_placeFinding_25 rfl (lv_at hl 0 rfl) ?_
    exact s_iret F w h dX2_placeFinding_26
  · have h := ite_t q h
    refine lv_iload_n (pc := 10) hx hb dX2_placeFinding_10 rfl (lv_at hl 3 rfl) ?_
    refine lv_if_lt (pc := 11) (tgt := 23) hx hb dX2_placeFinding_11 (by decide) (fun q => ?_) (fun q => ?_)
    · have h := ite_t q h
      refine lv_iconst (pc := 23) (v := 3) hx hb dX2_placeFinding_23 (by decide) ?_
      exact s_iret F w h dX2_placeFinding_24
    · have h := ite_f q h
      refine lv_iload_n (pc := 14) hx hb dX2_placeFinding_14 rfl (lv_at hl 3 rfl) ?_
      refine lv_aload_n (pc := 15) hx hb dX2_placeFinding_15 rfl (lv_at hl 1 rfl) ?_
      refine lv_iload_n (pc := 16) hx hb dX2_placeFinding_16 rfl (lv_at hl 2 rfl) ?_
      obtain ⟨r4, S3, hc, h⟩ := bnd_t h
      refine s_cvi (pc := 17) [.int a1] (fun ad => [.ref (ad 66), .int a1]) F w (m_Layout_placesOf _ _ _ _ hc) rfl rfl hl.1 ds_66 vc_X2 rfl ok_X2_placesOf rfl kc_X2_placesOf kl_X2_62 ki_X2_placesOf kv_X2_placesOf kn_X2 ⟨Nat.le_trans (by decide) hR1, Nat.le_trans (by decide) hR2⟩ ⟨Nat.zero_le _, Nat.zero_le _⟩ (Nat.le_of_ble_eq_true rfl) dX2_placeFinding_17 (fun H locs w => ?_)
      refine lv_icmp_lt (pc := 20) (tgt := 25) hx hb dX2_placeFinding_20 (by decide) (fun q => ?_) (fun q => ?_)
      · have h := ite_t q h
        refine lv_iload_n (pc := 25) hx hb dX2_placeFinding_25 rfl (lv_at hl 0 rfl) ?_
        exact s_iret F w h dX2_placeFinding_26
      · have h := ite_f q h
        refine lv_iconst (pc := 23) (v := 3) hx hb dX2_placeFinding_23 (by decide) ?_
        exact s_iret F w h dX2_placeFinding_24
def f_Layout_spot (a0 : Int32) (a1 : Int32) (S : SS) : Option (Int32 × SS) :=
  some (((24 : Int32) * a0) + a1, S)
theorem dX2_spot_0 : decode cX2_spot 0 = .ok (.bipush 24, 2) := dc_16 (a := 24) (by decide +kernel) (by decide)
theorem dX2_spot_2 : decode cX2_spot 2 = .ok (.iload_n 0, 1) := dc_26 (by decide +kernel)
theorem dX2_spot_3 : decode cX2_spot 3 = .ok (.imul, 1) := dc_104 (by decide +kernel)
theorem dX2_spot_4 : decode cX2_spot 4 = .ok (.iload_n 1, 1) := dc_27 (by decide +kernel)
theorem dX2_spot_5 : decode cX2_spot 5 = .ok (.iadd, 1) := dc_96 (by decide +kernel)
theorem dX2_spot_6 : decode cX2_spot 6 = .ok (.ireturn, 1) := dc_172 (by decide +kernel)
set_option maxRecDepth 100000 in
set_option maxHeartbeats 4000000 in
theorem m_Layout_spot (a0 : Int32) (a1 : Int32) (S S' : SS) (r : Int32) (h : f_Layout_spot a0 a1 S = some (r, S')) : MT yX2_spot cX2_spot 2 (some .int) 0 0 (fun ad => [.int a0, .int a1]) S (some (.int r)) S' := by
  refine MT.of RX2 (fun ad => [(0, .int a0), (1, .int a1)]) (by decide) rfl (fun _ => Nat.le_of_ble_eq_true rfl) (fun _ => rfl) ?_
  intro p l e R s m args below meth c dC dI cs ad A hR1 hR2 F H locs ls w hl
  have hx := F.1.1
  have hb := F.1.2.1
  rw [f_Layout_spot] at h
  refine lv_bipush (pc := 0) (v := 24) hx hb dX2_spot_0 (by decide) ?_
  refine lv_iload_n (pc := 2) hx hb dX2_spot_2 rfl (lv_at hl 0 rfl) ?_
  refine lv_imul (pc := 3) hx hb dX2_spot_3 ?_
  refine lv_iload_n (pc := 4) hx hb dX2_spot_4 rfl (lv_at hl 1 rfl) ?_
  refine lv_iadd (pc := 5) hx hb dX2_spot_5 ?_
  exact s_iret F w h dX2_spot_6
def f_Trains_nextSerial  (S : SS) : Option (Int32 × SS) :=
  wr S 68 5 ((S.1 68 5) + (1 : Int32)) (fun S1 =>
  some (S1.1 68 5, S1))
theorem dX10_nextSerial_0 : decode cX10_nextSerial 0 = .ok (.aload_n 0, 1) := dc_42 (by decide +kernel)
theorem dX10_nextSerial_1 : decode cX10_nextSerial 1 = .ok (.dup, 1) := dc_89 (by decide +kernel)
theorem dX10_nextSerial_2 : decode cX10_nextSerial 2 = .ok (.getfield 21, 3) := dc_180 (a := 0) (b := 21) (by decide +kernel)
theorem dX10_nextSerial_5 : decode cX10_nextSerial 5 = .ok (.iconst 1, 1) := dc_4 (by decide +kernel)
theorem dX10_nextSerial_6 : decode cX10_nextSerial 6 = .ok (.iadd, 1) := dc_96 (by decide +kernel)
theorem dX10_nextSerial_7 : decode cX10_nextSerial 7 = .ok (.putfield 21, 3) := dc_181 (a := 0) (b := 21) (by decide +kernel)
theorem dX10_nextSerial_10 : decode cX10_nextSerial 10 = .ok (.aload_n 0, 1) := dc_42 (by decide +kernel)
theorem dX10_nextSerial_11 : decode cX10_nextSerial 11 = .ok (.getfield 21, 3) := dc_180 (a := 0) (b := 21) (by decide +kernel)
theorem dX10_nextSerial_14 : decode cX10_nextSerial 14 = .ok (.ireturn, 1) := dc_172 (by decide +kernel)
set_option maxRecDepth 100000 in
set_option maxHeartbeats 4000000 in
theorem m_Trains_nextSerial  (S S' : SS) (r : Int32) (h : f_Trains_nextSerial  S = some (r, S')) : MT yX10_nextSerial cX10_nextSerial 1 (some .int) 0 0 (fun ad => [.ref (ad 68)]) S (some (.int r)) S' := by
  refine MT.of RX10 (fun ad => [(0, .ref (ad 68))]) (by decide) rfl (fun _ => Nat.le_of_ble_eq_true rfl) (fun _ => rfl) ?_
  intro p l e R s m args below meth c dC dI cs ad A hR1 hR2 F H locs ls w hl
  have hx := F.1.1
  have hb := F.1.2.1
  rw [f_Trains_nextSerial] at h
  refine lv_aload_n (pc := 0) hx hb dX10_nextSerial_0 rfl (lv_at hl 0 rfl) ?_
  refine lv_dup (pc := 1) hx hb dX10_nextSerial_1 rfl ?_
  refine s_getI (pc := 2) F w ds_68 (j := 5) vc_X10 vi_X10 rfl (by decide) kf_X10_21 dX10_nextSerial_2 ?_
  refine lv_iconst (pc := 5) (v := 1) hx hb dX10_nextSerial_5 (by decide) ?_
  refine lv_iadd (pc := 6) hx hb dX10_nextSerial_6 ?_
  refine s_putI (pc := 7) F w ds_68 vc_X10 vi_X10 tyX10_ok nmX10 (j := 5) rfl (by decide) kf_X10_21 rfl pd_I h dX10_nextSerial_7 (fun S1 H locs h w => ?_)
  refine lv_aload_n (pc := 10) hx hb dX10_nextSerial_10 rfl (lv_at hl 0 rfl) ?_
  refine s_getI (pc := 11) F w ds_68 (j := 5) vc_X10 vi_X10 rfl (by decide) kf_X10_21 dX10_nextSerial_11 ?_
  exact s_iret F w h dX10_nextSerial_14
def f_Arrays_rangeCheck_23922 (a0 : Int32) (a1 : Int32) (a2 : Int32) (S : SS) : Option (SS) :=
  if a1 ≤ a2 then
    if 0 ≤ a1 then
      if a2 ≤ a0 then
        some S
      else
        none
    else
      none
  else
    none
theorem dJ7_rangeCheck_23922_0 : decode cJ7_rangeCheck_23922 0 = .ok (.iload_n 1, 1) := dc_27 (by decide +kernel)
theorem dJ7_rangeCheck_23922_1 : decode cJ7_rangeCheck_23922 1 = .ok (.iload_n 2, 1) := dc_28 (by decide +kernel)
theorem dJ7_rangeCheck_23922_2 : decode cJ7_rangeCheck_23922 2 = .ok (.if_icmp .le 44, 3) := dc_164 (a := 0) (b := 44) (by decide +kernel) (by decide)
theorem dJ7_rangeCheck_23922_46 : decode cJ7_rangeCheck_23922 46 = .ok (.iload_n 1, 1) := dc_27 (by decide +kernel)
theorem dJ7_rangeCheck_23922_47 : decode cJ7_rangeCheck_23922 47 = .ok (.ifCond .ge 12, 3) := dc_156 (a := 0) (b := 12) (by decide +kernel) (by decide)
theorem dJ7_rangeCheck_23922_59 : decode cJ7_rangeCheck_23922 59 = .ok (.iload_n 2, 1) := dc_28 (by decide +kernel)
theorem dJ7_rangeCheck_23922_60 : decode cJ7_rangeCheck_23922 60 = .ok (.iload_n 0, 1) := dc_26 (by decide +kernel)
theorem dJ7_rangeCheck_23922_61 : decode cJ7_rangeCheck_23922 61 = .ok (.if_icmp .le 12, 3) := dc_164 (a := 0) (b := 12) (by decide +kernel) (by decide)
theorem dJ7_rangeCheck_23922_73 : decode cJ7_rangeCheck_23922 73 = .ok (.return_, 1) := dc_177 (by decide +kernel)
set_option maxRecDepth 100000 in
set_option maxHeartbeats 4000000 in
theorem m_Arrays_rangeCheck_23922 (a0 : Int32) (a1 : Int32) (a2 : Int32) (S S' : SS) (h : f_Arrays_rangeCheck_23922 a0 a1 a2 S = some S') : MT yJ7_rangeCheck_23922 cJ7_rangeCheck_23922 3 none 0 0 (fun ad => [.int a0, .int a1, .int a2]) S none S' := by
  refine MT.ofF RJ7 (fun ad => [(0, .int a0), (1, .int a1), (2, .int a2)]) (by decide +kernel) rfl (fun _ => Nat.le_of_ble_eq_true rfl) (fun _ => rfl) ?_
  intro p l e R s m args below meth c dC dI cs ad A hR1 hR2 F H locs ls w hl
  have hx := F.1.1
  have hb := F.1.2.1
  rw [f_Arrays_rangeCheck_23922] at h
  refine lv_iload_n (pc := 0) hx hb dJ7_rangeCheck_23922_0 rfl (lv_at hl 1 rfl) ?_
  refine lv_iload_n (pc := 1) hx hb dJ7_rangeCheck_23922_1 rfl (lv_at hl 2 rfl) ?_
  refine lv_icmp_le (pc := 2) (tgt := 46) hx hb dJ7_rangeCheck_23922_2 (by decide) (fun q => ?_) (fun q => ?_)
  · have h := ite_t q h
    refine lv_iload_n (pc := 46) hx hb dJ7_rangeCheck_23922_46 rfl (lv_at hl 1 rfl) ?_
    refine lv_if_ge (pc := 47) (tgt := 59) hx hb dJ7_rangeCheck_23922_47 (by decide) (fun q => ?_) (fun q => ?_)
    · have h := ite_t q h
      refine lv_iload_n (pc := 59) hx hb dJ7_rangeCheck_23922_59 rfl (lv_at hl 2 rfl) ?_
      refine lv_iload_n (pc := 60) hx hb dJ7_rangeCheck_23922_60 rfl (lv_at hl 0 rfl) ?_
      refine lv_icmp_le (pc := 61) (tgt := 73) hx hb dJ7_rangeCheck_23922_61 (by decide) (fun q => ?_) (fun q => ?_)
      · have h := ite_t q h
        exact s_vret F w h dJ7_rangeCheck_23922_73
      · have h := ite_f q h
        cases h
    · have h := ite_f q h
      cases h
  · have h := ite_f q h
    cases h
def f_Arrays_fill_fda19_State_cells_L10  : Nat → Int32 → Int32 → Int32 → SS → Option (SS)
  | 0, _, _, _, _ => none
  | n + 1, x2, x3, x4, S =>
    if x2 ≤ x4 then
      some S
    else
      grd (inb x4 946) (wr S 79 x4.toNatClampNeg x3 (fun S2 =>
      nm (x4 + (1 : Int32)) (fun z3 =>
      f_Arrays_fill_fda19_State_cells_L10 n x2 x3 z3 S2)))
def f_Arrays_fill_fda19_State_cells (a1 : Int32) (a2 : Int32) (a3 : Int32) (S : SS) : Option (SS) :=
  bndv (f_Arrays_rangeCheck_23922 (Int32.ofNat 946) a1 a2 S) (fun S1 =>
  f_Arrays_fill_fda19_State_cells_L10 NF a2 a3 a1 S1)
theorem dJ7_fill_fda19_0 : decode cJ7_fill_fda19 0 = .ok (.aload_n 0, 1) := dc_42 (by decide +kernel)
theorem dJ7_fill_fda19_1 : decode cJ7_fill_fda19 1 = .ok (.arraylength, 1) := dc_190 (by decide +kernel)
theorem dJ7_fill_fda19_2 : decode cJ7_fill_fda19 2 = .ok (.iload_n 1, 1) := dc_27 (by decide +kernel)
theorem dJ7_fill_fda19_3 : decode cJ7_fill_fda19 3 = .ok (.iload_n 2, 1) := dc_28 (by decide +kernel)
theorem dJ7_fill_fda19_4 : decode cJ7_fill_fda19 4 = .ok (.invokestatic 13, 3) := dc_184 (a := 0) (b := 13) (by decide +kernel)
theorem dJ7_fill_fda19_7 : decode cJ7_fill_fda19 7 = .ok (.iload_n 1, 1) := dc_27 (by decide +kernel)
theorem dJ7_fill_fda19_8 : decode cJ7_fill_fda19 8 = .ok (.istore 4, 2) := dc_54 (a := 4) (by decide +kernel)
theorem dJ7_fill_fda19_10 : decode cJ7_fill_fda19 10 = .ok (.iload 4, 2) := dc_21 (a := 4) (by decide +kernel)
theorem dJ7_fill_fda19_12 : decode cJ7_fill_fda19 12 = .ok (.iload_n 2, 1) := dc_28 (by decide +kernel)
theorem dJ7_fill_fda19_13 : decode cJ7_fill_fda19 13 = .ok (.if_icmp .ge 14, 3) := dc_162 (a := 0) (b := 14) (by decide +kernel) (by decide)
theorem dJ7_fill_fda19_16 : decode cJ7_fill_fda19 16 = .ok (.aload_n 0, 1) := dc_42 (by decide +kernel)
theorem dJ7_fill_fda19_17 : decode cJ7_fill_fda19 17 = .ok (.iload 4, 2) := dc_21 (a := 4) (by decide +kernel)
theorem dJ7_fill_fda19_19 : decode cJ7_fill_fda19 19 = .ok (.iload_n 3, 1) := dc_29 (by decide +kernel)
theorem dJ7_fill_fda19_20 : decode cJ7_fill_fda19 20 = .ok (.iastore, 1) := dc_79 (by decide +kernel)
theorem dJ7_fill_fda19_21 : decode cJ7_fill_fda19 21 = .ok (.iinc 4 1, 3) := dc_132 (a := 4) (b := 1) (by decide +kernel) (by decide)
theorem dJ7_fill_fda19_24 : decode cJ7_fill_fda19 24 = .ok (.goto (-14), 3) := dc_167 (a := 255) (b := 242) (by decide +kernel) (by decide)
theorem dJ7_fill_fda19_27 : decode cJ7_fill_fda19 27 = .ok (.return_, 1) := dc_177 (by decide +kernel)
set_option maxRecDepth 100000 in
set_option maxHeartbeats 4000000 in
theorem w_Arrays_fill_fda19_State_cells_L10 {p : Program} {l : Launch} {e : Env} {R : Room} {s : State} {m : MethodId} {args : Array Value} {below : List Frame} {meth : Method} {c : Code} {dC : Nat → ClassId} {dI : Nat → Nat → Nat} {cs : Nat → ClassId} {ad : Nat → Nat} {A : Nat → Prop} {D0 : Nat → Nat} {S' : SS} (F : Fx p s m args meth c cJ7_fill_fda19 5 RJ7 none dC dI cs A) (hR1 : 0 ≤ R.frames) (hR2 : 0 ≤ R.locals) : ∀ (n : Nat) (x2 : Int32) (x3 : Int32) (x4 : Int32) (S : SS), f_Arrays_fill_fda19_State_cells_L10 n x2 x3 x4 S = some S' → AW p l e R s m args below meth c dC dI cs ad A D0 none S' 5 10 [(0, .ref (ad 79)), (2, .int x2), (3, .int x3), (4, .int x4)] [] S := by
  have hx := F.1.1
  have hb := F.1.2.1
  intro n
  induction n with
  | zero => intro x2 x3 x4 S h; cases h
  | succ n ih =>
    intro x2 x3 x4 S h H locs ls w hl
    rw [f_Arrays_fill_fda19_State_cells_L10] at h
    refine lv_iload (pc := 10) hx hb dJ7_fill_fda19_10 (lv_at hl 3 rfl) ?_
    refine lv_iload_n (pc := 12) hx hb dJ7_fill_fda19_12 rfl (lv_at hl 1 rfl) ?_
    refine lv_icmp_ge (pc := 13) (tgt := 27) hx hb dJ7_fill_fda19_13 (by decide) (fun q => ?_) (fun q => ?_)
    · have h := ite_t q h
      exact s_vret F w h dJ7_fill_fda19_27
    · have h := ite_f q h
      refine lv_aload_n (pc := 16) hx hb dJ7_fill_fda19_16 rfl (lv_at hl 0 rfl) ?_
      refine lv_iload (pc := 17) hx hb dJ7_fill_fda19_17 (lv_at hl 3 rfl) ?_
      refine lv_iload_n (pc := 19) hx hb dJ7_fill_fda19_19 rfl (lv_at hl 2 rfl) ?_
      refine s_iast (pc := 20) F w ds_79 h dJ7_fill_fda19_20 (fun S2 H locs h w => ?_)
      refine s_nm h (fun z3 ez3 h => ?_)
      refine lv_iinc (pc := 21) (v := z3) (lv' := [(4, .int z3), (0, .ref (ad 79)), (2, .int x2), (3, .int x3)]) hx hb dJ7_fill_fda19_21 hl (k := 3) rfl (by rw [ez3]; rfl) (by decide) rfl (fun ls hl => ?_)
      refine lv_goto (pc := 24) (tgt := 10) hx hb dJ7_fill_fda19_24 (by decide) ?_
      exact ih _ _ _ _ h _ _ _ w (lv_sub hl [1, 2, 3, 0] rfl)
set_option maxRecDepth 100000 in
set_option maxHeartbeats 4000000 in
theorem m_Arrays_fill_fda19_State_cells (a1 : Int32) (a2 : Int32) (a3 : Int32) (S S' : SS) (h : f_Arrays_fill_fda19_State_cells a1 a2 a3 S = some S') : MT yJ7_fill_fda19 cJ7_fill_fda19 5 none 1 22 (fun ad => [.ref (ad 79), .int a1, .int a2, .int a3]) S none S' := by
  refine MT.ofF RJ7 (fun ad => [(0, .ref (ad 79)), (1, .int a1), (2, .int a2), (3, .int a3)]) (by decide +kernel) rfl (fun _ => Nat.le_of_ble_eq_true rfl) (fun _ => rfl) ?_
  intro p l e R s m args below meth c dC dI cs ad A hR1 hR2 F H locs ls w hl
  have hx := F.1.1
  have hb := F.1.2.1
  rw [f_Arrays_fill_fda19_State_cells] at h
  refine lv_aload_n (pc := 0) hx hb dJ7_fill_fda19_0 rfl (lv_at hl 0 rfl) ?_
  refine s_alen (pc := 1) F w ds_79 dJ7_fill_fda19_1 ?_
  show W _ _ _ _ _ _ _ _ _ _ _ _ _ _ _ (F0 _ _ _ (.int (Int32.ofNat 946) :: _))
  refine lv_iload_n (pc := 2) hx hb dJ7_fill_fda19_2 rfl (lv_at hl 1 rfl) ?_
  refine lv_iload_n (pc := 3) hx hb dJ7_fill_fda19_3 rfl (lv_at hl 2 rfl) ?_
  obtain ⟨S1, hc, h⟩ := bndv_t h
  refine s_csv (pc := 4) [.int (Int32.ofNat 946), .int a1, .int a2] (fun ad => [.int (Int32.ofNat 946), .int a1, .int a2]) F w (m_Arrays_rangeCheck_23922 _ _ _ _ _ hc) rfl rfl hl.1 ok_J7_rangeCheck_23922 rfl kc_J7_rangeCheck_23922 kl_J7_13 ks_J7_rangeCheck_23922 kn_J7 ⟨Nat.le_trans (by decide) hR1, Nat.le_trans (by decide) hR2⟩ ⟨Nat.zero_le _, Nat.zero_le _⟩ (Nat.le_of_ble_eq_true rfl) dJ7_fill_fda19_4 (fun H locs w => ?_)
  refine lv_iload_n (pc := 7) hx hb dJ7_fill_fda19_7 rfl (lv_at hl 1 rfl) ?_
  refine lv_istore (pc := 8) (lv' := [(4, .int a1), (0, .ref (ad 79)), (1, .int a1), (2, .int a2), (3, .int a3)]) hx hb dJ7_fill_fda19_8 hl (by decide) rfl (fun ls hl => ?_)
  exact w_Arrays_fill_fda19_State_cells_L10 F (Nat.le_trans (by decide) hR1) (Nat.le_trans (by decide) hR2) _ _ _ _ _ h _ _ _ w (lv_sub hl [1, 3, 4, 0] rfl)
def f_State_set (a1 : Int32) (a2 : Int32) (a3 : Int32) (S : SS) : Option (SS) :=
  if a1 < 0 then
    some S
  else
    if (S.1 63 1) ≤ a1 then
      some S
    else
      grd (inb (((154 : Int32) + ((11 : Int32) * a1)) + a2) 946) (wr S 79 (((154 : Int32) + ((11 : Int32) * a1)) + a2).toNatClampNeg a3 (fun S1 =>
      some S1))
theorem dX8_set_0 : decode cX8_set 0 = .ok (.iload_n 1, 1) := dc_27 (by decide +kernel)
theorem dX8_set_1 : decode cX8_set 1 = .ok (.ifCond .lt 27, 3) := dc_155 (a := 0) (b := 27) (by decide +kernel) (by decide)
theorem dX8_set_4 : decode cX8_set 4 = .ok (.iload_n 1, 1) := dc_27 (by decide +kernel)
theorem dX8_set_5 : decode cX8_set 5 = .ok (.aload_n 0, 1) := dc_42 (by decide +kernel)
theorem dX8_set_6 : decode cX8_set 6 = .ok (.getfield 17, 3) := dc_180 (a := 0) (b := 17) (by decide +kernel)
theorem dX8_set_9 : decode cX8_set 9 = .ok (.if_icmp .ge 19, 3) := dc_162 (a := 0) (b := 19) (by decide +kernel) (by decide)
theorem dX8_set_12 : decode cX8_set 12 = .ok (.aload_n 0, 1) := dc_42 (by decide +kernel)
theorem dX8_set_13 : decode cX8_set 13 = .ok (.getfield 13, 3) := dc_180 (a := 0) (b := 13) (by decide +kernel)
theorem dX8_set_16 : decode cX8_set 16 = .ok (.sipush 154, 3) := dc_17 (a := 0) (b := 154) (by decide +kernel) (by decide)
theorem dX8_set_19 : decode cX8_set 19 = .ok (.bipush 11, 2) := dc_16 (a := 11) (by decide +kernel) (by decide)
theorem dX8_set_21 : decode cX8_set 21 = .ok (.iload_n 1, 1) := dc_27 (by decide +kernel)
theorem dX8_set_22 : decode cX8_set 22 = .ok (.imul, 1) := dc_104 (by decide +kernel)
theorem dX8_set_23 : decode cX8_set 23 = .ok (.iadd, 1) := dc_96 (by decide +kernel)
theorem dX8_set_24 : decode cX8_set 24 = .ok (.iload_n 2, 1) := dc_28 (by decide +kernel)
theorem dX8_set_25 : decode cX8_set 25 = .ok (.iadd, 1) := dc_96 (by decide +kernel)
theorem dX8_set_26 : decode cX8_set 26 = .ok (.iload_n 3, 1) := dc_29 (by decide +kernel)
theorem dX8_set_27 : decode cX8_set 27 = .ok (.iastore, 1) := dc_79 (by decide +kernel)
theorem dX8_set_28 : decode cX8_set 28 = .ok (.return_, 1) := dc_177 (by decide +kernel)
set_option maxRecDepth 100000 in
set_option maxHeartbeats 4000000 in
theorem m_State_set (a1 : Int32) (a2 : Int32) (a3 : Int32) (S S' : SS) (h : f_State_set a1 a2 a3 S = some S') : MT yX8_set cX8_set 4 none 0 0 (fun ad => [.ref (ad 63), .int a1, .int a2, .int a3]) S none S' := by
  refine MT.of RX8 (fun ad => [(0, .ref (ad 63)), (1, .int a1), (2, .int a2), (3, .int a3)]) (by decide) rfl (fun _ => Nat.le_of_ble_eq_true rfl) (fun _ => rfl) ?_
  intro p l e R s m args below meth c dC dI cs ad A hR1 hR2 F H locs ls w hl
  have hx := F.1.1
  have hb := F.1.2.1
  rw [f_State_set] at h
  refine lv_iload_n (pc := 0) hx hb dX8_set_0 rfl (lv_at hl 1 rfl) ?_
  refine lv_if_lt (pc := 1) (tgt := 28) hx hb dX8_set_1 (by decide) (fun q => ?_) (fun q => ?_)
  · have h := ite_t q h
    exact s_vret F w h dX8_set_28
  · have h := ite_f q h
    refine lv_iload_n (pc := 4) hx hb dX8_set_4 rfl (lv_at hl 1 rfl) ?_
    refine lv_aload_n (pc := 5) hx hb dX8_set_5 rfl (lv_at hl 0 rfl) ?_
    refine s_getI (pc := 6) F w ds_63 (j := 1) vc_X8 vi_X8 rfl (by decide) kf_X8_17 dX8_set_6 ?_
    refine lv_icmp_ge (pc := 9) (tgt := 28) hx hb dX8_set_9 (by decide) (fun q => ?_) (fun q => ?_)
    · have h := ite_t q h
      exact s_vret F w h dX8_set_28
    · have h := ite_f q h
      refine lv_aload_n (pc := 12) hx hb dX8_set_12 rfl (lv_at hl 0 rfl) ?_
      refine s_getR (pc := 13) F w 79 ds_63 (j := 0) vc_X8 vi_X8 rfl (by decide) kf_X8_13 dX8_set_13 ?_
      refine lv_sipush (pc := 16) (v := 154) hx hb dX8_set_16 (by decide) ?_
      refine lv_bipush (pc := 19) (v := 11) hx hb dX8_set_19 (by decide) ?_
      refine lv_iload_n (pc := 21) hx hb dX8_set_21 rfl (lv_at hl 1 rfl) ?_
      refine lv_imul (pc := 22) hx hb dX8_set_22 ?_
      refine lv_iadd (pc := 23) hx hb dX8_set_23 ?_
      refine lv_iload_n (pc := 24) hx hb dX8_set_24 rfl (lv_at hl 2 rfl) ?_
      refine lv_iadd (pc := 25) hx hb dX8_set_25 ?_
      refine lv_iload_n (pc := 26) hx hb dX8_set_26 rfl (lv_at hl 3 rfl) ?_
      refine s_iast (pc := 27) F w ds_79 h dX8_set_27 (fun S1 H locs h w => ?_)
      exact s_vret F w h dX8_set_28
def f_State_addThing (a1 : Int32) (a2 : Int32) (S : SS) : Option (Int32 × SS) :=
  if (S.1 63 1) < (72 : Int32) then
    nm (S.1 63 1) (fun z1 =>
    wr S 63 1 ((S.1 63 1) + (1 : Int32)) (fun S2 =>
    bndv (f_Arrays_fill_fda19_State_cells ((154 : Int32) + ((11 : Int32) * z1)) ((154 : Int32) + ((11 : Int32) * (S2.1 63 1))) (0 : Int32) S2) (fun S3 =>
    bndv (f_State_set z1 (0 : Int32) a1 S3) (fun S4 =>
    bndv (f_State_set z1 (1 : Int32) (1 : Int32) S4) (fun S5 =>
    bndv (f_State_set z1 (2 : Int32) (-4 : Int32) S5) (fun S6 =>
    bndv (f_State_set z1 (3 : Int32) (-4 : Int32) S6) (fun S7 =>
    bndv (f_State_set z1 (4 : Int32) a2 S7) (fun S8 =>
    bndv (f_State_set z1 (5 : Int32) (-4 : Int32) S8) (fun S9 =>
    some (z1, S9))))))))))
  else
    some ((-4 : Int32), S)
theorem dX8_addThing_0 : decode cX8_addThing 0 = .ok (.aload_n 0, 1) := dc_42 (by decide +kernel)
theorem dX8_addThing_1 : decode cX8_addThing 1 = .ok (.getfield 17, 3) := dc_180 (a := 0) (b := 17) (by decide +kernel)
theorem dX8_addThing_4 : decode cX8_addThing 4 = .ok (.bipush 72, 2) := dc_16 (a := 72) (by decide +kernel) (by decide)
theorem dX8_addThing_6 : decode cX8_addThing 6 = .ok (.if_icmp .lt 6, 3) := dc_161 (a := 0) (b := 6) (by decide +kernel) (by decide)
theorem dX8_addThing_9 : decode cX8_addThing 9 = .ok (.bipush (-4), 2) := dc_16 (a := 252) (by decide +kernel) (by decide)
theorem dX8_addThing_11 : decode cX8_addThing 11 = .ok (.ireturn, 1) := dc_172 (by decide +kernel)
theorem dX8_addThing_12 : decode cX8_addThing 12 = .ok (.aload_n 0, 1) := dc_42 (by decide +kernel)
theorem dX8_addThing_13 : decode cX8_addThing 13 = .ok (.getfield 17, 3) := dc_180 (a := 0) (b := 17) (by decide +kernel)
theorem dX8_addThing_16 : decode cX8_addThing 16 = .ok (.istore_n 3, 1) := dc_62 (by decide +kernel)
theorem dX8_addThing_17 : decode cX8_addThing 17 = .ok (.aload_n 0, 1) := dc_42 (by decide +kernel)
theorem dX8_addThing_18 : decode cX8_addThing 18 = .ok (.dup, 1) := dc_89 (by decide +kernel)
theorem dX8_addThing_19 : decode cX8_addThing 19 = .ok (.getfield 17, 3) := dc_180 (a := 0) (b := 17) (by decide +kernel)
theorem dX8_addThing_22 : decode cX8_addThing 22 = .ok (.iconst 1, 1) := dc_4 (by decide +kernel)
theorem dX8_addThing_23 : decode cX8_addThing 23 = .ok (.iadd, 1) := dc_96 (by decide +kernel)
theorem dX8_addThing_24 : decode cX8_addThing 24 = .ok (.putfield 17, 3) := dc_181 (a := 0) (b := 17) (by decide +kernel)
theorem dX8_addThing_27 : decode cX8_addThing 27 = .ok (.aload_n 0, 1) := dc_42 (by decide +kernel)
theorem dX8_addThing_28 : decode cX8_addThing 28 = .ok (.getfield 13, 3) := dc_180 (a := 0) (b := 13) (by decide +kernel)
theorem dX8_addThing_31 : decode cX8_addThing 31 = .ok (.sipush 154, 3) := dc_17 (a := 0) (b := 154) (by decide +kernel) (by decide)
theorem dX8_addThing_34 : decode cX8_addThing 34 = .ok (.bipush 11, 2) := dc_16 (a := 11) (by decide +kernel) (by decide)
theorem dX8_addThing_36 : decode cX8_addThing 36 = .ok (.iload_n 3, 1) := dc_29 (by decide +kernel)
theorem dX8_addThing_37 : decode cX8_addThing 37 = .ok (.imul, 1) := dc_104 (by decide +kernel)
theorem dX8_addThing_38 : decode cX8_addThing 38 = .ok (.iadd, 1) := dc_96 (by decide +kernel)
theorem dX8_addThing_39 : decode cX8_addThing 39 = .ok (.sipush 154, 3) := dc_17 (a := 0) (b := 154) (by decide +kernel) (by decide)
theorem dX8_addThing_42 : decode cX8_addThing 42 = .ok (.bipush 11, 2) := dc_16 (a := 11) (by decide +kernel) (by decide)
theorem dX8_addThing_44 : decode cX8_addThing 44 = .ok (.aload_n 0, 1) := dc_42 (by decide +kernel)
theorem dX8_addThing_45 : decode cX8_addThing 45 = .ok (.getfield 17, 3) := dc_180 (a := 0) (b := 17) (by decide +kernel)
theorem dX8_addThing_48 : decode cX8_addThing 48 = .ok (.imul, 1) := dc_104 (by decide +kernel)
theorem dX8_addThing_49 : decode cX8_addThing 49 = .ok (.iadd, 1) := dc_96 (by decide +kernel)
theorem dX8_addThing_50 : decode cX8_addThing 50 = .ok (.iconst 0, 1) := dc_3 (by decide +kernel)
theorem dX8_addThing_51 : decode cX8_addThing 51 = .ok (.invokestatic 21, 3) := dc_184 (a := 0) (b := 21) (by decide +kernel)
theorem dX8_addThing_54 : decode cX8_addThing 54 = .ok (.aload_n 0, 1) := dc_42 (by decide +kernel)
theorem dX8_addThing_55 : decode cX8_addThing 55 = .ok (.iload_n 3, 1) := dc_29 (by decide +kernel)
theorem dX8_addThing_56 : decode cX8_addThing 56 = .ok (.iconst 0, 1) := dc_3 (by decide +kernel)
theorem dX8_addThing_57 : decode cX8_addThing 57 = .ok (.iload_n 1, 1) := dc_27 (by decide +kernel)
theorem dX8_addThing_58 : decode cX8_addThing 58 = .ok (.invokevirtual 27, 3) := dc_182 (a := 0) (b := 27) (by decide +kernel)
theorem dX8_addThing_61 : decode cX8_addThing 61 = .ok (.aload_n 0, 1) := dc_42 (by decide +kernel)
theorem dX8_addThing_62 : decode cX8_addThing 62 = .ok (.iload_n 3, 1) := dc_29 (by decide +kernel)
theorem dX8_addThing_63 : decode cX8_addThing 63 = .ok (.iconst 1, 1) := dc_4 (by decide +kernel)
theorem dX8_addThing_64 : decode cX8_addThing 64 = .ok (.iconst 1, 1) := dc_4 (by decide +kernel)
theorem dX8_addThing_65 : decode cX8_addThing 65 = .ok (.invokevirtual 27, 3) := dc_182 (a := 0) (b := 27) (by decide +kernel)
theorem dX8_addThing_68 : decode cX8_addThing 68 = .ok (.aload_n 0, 1) := dc_42 (by decide +kernel)
theorem dX8_addThing_69 : decode cX8_addThing 69 = .ok (.iload_n 3, 1) := dc_29 (by decide +kernel)
theorem dX8_addThing_70 : decode cX8_addThing 70 = .ok (.iconst 2, 1) := dc_5 (by decide +kernel)
theorem dX8_addThing_71 : decode cX8_addThing 71 = .ok (.bipush (-4), 2) := dc_16 (a := 252) (by decide +kernel) (by decide)
theorem dX8_addThing_73 : decode cX8_addThing 73 = .ok (.invokevirtual 27, 3) := dc_182 (a := 0) (b := 27) (by decide +kernel)
theorem dX8_addThing_76 : decode cX8_addThing 76 = .ok (.aload_n 0, 1) := dc_42 (by decide +kernel)
theorem dX8_addThing_77 : decode cX8_addThing 77 = .ok (.iload_n 3, 1) := dc_29 (by decide +kernel)
theorem dX8_addThing_78 : decode cX8_addThing 78 = .ok (.iconst 3, 1) := dc_6 (by decide +kernel)
theorem dX8_addThing_79 : decode cX8_addThing 79 = .ok (.bipush (-4), 2) := dc_16 (a := 252) (by decide +kernel) (by decide)
theorem dX8_addThing_81 : decode cX8_addThing 81 = .ok (.invokevirtual 27, 3) := dc_182 (a := 0) (b := 27) (by decide +kernel)
theorem dX8_addThing_84 : decode cX8_addThing 84 = .ok (.aload_n 0, 1) := dc_42 (by decide +kernel)
theorem dX8_addThing_85 : decode cX8_addThing 85 = .ok (.iload_n 3, 1) := dc_29 (by decide +kernel)
theorem dX8_addThing_86 : decode cX8_addThing 86 = .ok (.iconst 4, 1) := dc_7 (by decide +kernel)
theorem dX8_addThing_87 : decode cX8_addThing 87 = .ok (.iload_n 2, 1) := dc_28 (by decide +kernel)
theorem dX8_addThing_88 : decode cX8_addThing 88 = .ok (.invokevirtual 27, 3) := dc_182 (a := 0) (b := 27) (by decide +kernel)
theorem dX8_addThing_91 : decode cX8_addThing 91 = .ok (.aload_n 0, 1) := dc_42 (by decide +kernel)
theorem dX8_addThing_92 : decode cX8_addThing 92 = .ok (.iload_n 3, 1) := dc_29 (by decide +kernel)
theorem dX8_addThing_93 : decode cX8_addThing 93 = .ok (.iconst 5, 1) := dc_8 (by decide +kernel)
theorem dX8_addThing_94 : decode cX8_addThing 94 = .ok (.bipush (-4), 2) := dc_16 (a := 252) (by decide +kernel) (by decide)
theorem dX8_addThing_96 : decode cX8_addThing 96 = .ok (.invokevirtual 27, 3) := dc_182 (a := 0) (b := 27) (by decide +kernel)
theorem dX8_addThing_99 : decode cX8_addThing 99 = .ok (.iload_n 3, 1) := dc_29 (by decide +kernel)
theorem dX8_addThing_100 : decode cX8_addThing 100 = .ok (.ireturn, 1) := dc_172 (by decide +kernel)
set_option maxRecDepth 100000 in
set_option maxHeartbeats 4000000 in
theorem m_State_addThing (a1 : Int32) (a2 : Int32) (S S' : SS) (r : Int32) (h : f_State_addThing a1 a2 S = some (r, S')) : MT yX8_addThing cX8_addThing 4 (some .int) 2 46 (fun ad => [.ref (ad 63), .int a1, .int a2]) S (some (.int r)) S' := by
  refine MT.of RX8 (fun ad => [(0, .ref (ad 63)), (1, .int a1), (2, .int a2)]) (by decide) rfl (fun _ => Nat.le_of_ble_eq_true rfl) (fun _ => rfl) ?_
  intro p l e R s m args below meth c dC dI cs ad A hR1 hR2 F H locs ls w hl
  have hx := F.1.1
  have hb := F.1.2.1
  rw [f_State_addThing] at h
  refine lv_aload_n (pc := 0) hx hb dX8_addThing_0 rfl (lv_at hl 0 rfl) ?_
  refine s_getI (pc := 1) F w ds_63 (j := 1) vc_X8 vi_X8 rfl (by decide) kf_X8_17 dX8_addThing_1 ?_
  refine lv_bipush (pc := 4) (v := 72) hx hb dX8_addThing_4 (by decide) ?_
  refine lv_icmp_lt (pc := 6) (tgt := 12) hx hb dX8_addThing_6 (by decide) (fun q => ?_) (fun q => ?_)
  · have h := ite_t q h
    refine lv_aload_n (pc := 12) hx hb dX8_addThing_12 rfl (lv_at hl 0 rfl) ?_
    refine s_getI (pc := 13) F w ds_63 (j := 1) vc_X8 vi_X8 rfl (by decide) kf_X8_17 dX8_addThing_13 ?_
    refine s_nm h (fun z1 ez1 h => ?_)
    rw [← ez1]
    refine lv_istore_n (pc := 16) (lv' := [(3, .int z1), (0, .ref (ad 63)), (1, .int a1), (2, .int a2)]) hx hb dX8_addThing_16 rfl hl (by decide) rfl (fun ls hl => ?_)
    refine lv_aload_n (pc := 17) hx hb dX8_addThing_17 rfl (lv_at hl 1 rfl) ?_
    refine lv_dup (pc := 18) hx hb dX8_addThing_18 rfl ?_
    refine s_getI (pc := 19) F w ds_63 (j := 1) vc_X8 vi_X8 rfl (by decide) kf_X8_17 dX8_addThing_19 ?_
    refine lv_iconst (pc := 22) (v := 1) hx hb dX8_addThing_22 (by decide) ?_
    refine lv_iadd (pc := 23) hx hb dX8_addThing_23 ?_
    refine s_putI (pc := 24) F w ds_63 vc_X8 vi_X8 tyX8_ok nmX8 (j := 1) rfl (by decide) kf_X8_17 rfl pd_I h dX8_addThing_24 (fun S2 H locs h w => ?_)
    refine lv_aload_n (pc := 27) hx hb dX8_addThing_27 rfl (lv_at hl 1 rfl) ?_
    refine s_getR (pc := 28) F w 79 ds_63 (j := 0) vc_X8 vi_X8 rfl (by decide) kf_X8_13 dX8_addThing_28 ?_
    refine lv_sipush (pc := 31) (v := 154) hx hb dX8_addThing_31 (by decide) ?_
    refine lv_bipush (pc := 34) (v := 11) hx hb dX8_addThing_34 (by decide) ?_
    refine lv_iload_n (pc := 36) hx hb dX8_addThing_36 rfl (lv_at hl 0 rfl) ?_
    refine lv_imul (pc := 37) hx hb dX8_addThing_37 ?_
    refine lv_iadd (pc := 38) hx hb dX8_addThing_38 ?_
    refine lv_sipush (pc := 39) (v := 154) hx hb dX8_addThing_39 (by decide) ?_
    refine lv_bipush (pc := 42) (v := 11) hx hb dX8_addThing_42 (by decide) ?_
    refine lv_aload_n (pc := 44) hx hb dX8_addThing_44 rfl (lv_at hl 1 rfl) ?_
    refine s_getI (pc := 45) F w ds_63 (j := 1) vc_X8 vi_X8 rfl (by decide) kf_X8_17 dX8_addThing_45 ?_
    refine lv_imul (pc := 48) hx hb dX8_addThing_48 ?_
    refine lv_iadd (pc := 49) hx hb dX8_addThing_49 ?_
    refine lv_iconst (pc := 50) (v := 0) hx hb dX8_addThing_50 (by decide) ?_
    obtain ⟨S3, hc, h⟩ := bndv_t h
    refine s_csv (pc := 51) [.ref (ad 79), .int ((154 : Int32) + ((11 : Int32) * z1)), .int ((154 : Int32) + ((11 : Int32) * (S2.1 63 1))), .int (0 : Int32)] (fun ad => [.ref (ad 79), .int ((154 : Int32) + ((11 : Int32) * z1)), .int ((154 : Int32) + ((11 : Int32) * (S2.1 63 1))), .int (0 : Int32)]) F w (m_Arrays_fill_fda19_State_cells _ _ _ _ _ hc) rfl rfl hl.1 ok_J7_fill_fda19 rfl kc_J7_fill_fda19 kl_X8_21 ks_J7_fill_fda19 kn_J7 ⟨Nat.le_trans (by decide) hR1, Nat.le_trans (by decide) hR2⟩ ⟨Nat.zero_le _, Nat.zero_le _⟩ (Nat.le_of_ble_eq_true rfl) dX8_addThing_51 (fun H locs w => ?_)
    refine lv_aload_n (pc := 54) hx hb dX8_addThing_54 rfl (lv_at hl 1 rfl) ?_
    refine lv_iload_n (pc := 55) hx hb dX8_addThing_55 rfl (lv_at hl 0 rfl) ?_
    refine lv_iconst (pc := 56) (v := 0) hx hb dX8_addThing_56 (by decide) ?_
    refine lv_iload_n (pc := 57) hx hb dX8_addThing_57 rfl (lv_at hl 2 rfl) ?_
    obtain ⟨S4, hc, h⟩ := bndv_t h
    refine s_cvv (pc := 58) [.int z1, .int (0 : Int32), .int a1] (fun ad => [.ref (ad 63), .int z1, .int (0 : Int32), .int a1]) F w (m_State_set _ _ _ _ _ hc) rfl rfl hl.1 ds_63 vc_X8 rfl ok_X8_set rfl kc_X8_set kl_X8_27 ki_X8_set kv_X8_set kn_X8 ⟨Nat.le_trans (by decide) hR1, Nat.le_trans (by decide) hR2⟩ ⟨Nat.zero_le _, Nat.zero_le _⟩ (Nat.le_of_ble_eq_true rfl) dX8_addThing_58 (fun H locs w => ?_)
    refine lv_aload_n (pc := 61) hx hb dX8_addThing_61 rfl (lv_at hl 1 rfl) ?_
    refine lv_iload_n (pc := 62) hx hb dX8_addThing_62 rfl (lv_at hl 0 rfl) ?_
    refine lv_iconst (pc := 63) (v := 1) hx hb dX8_addThing_63 (by decide) ?_
    refine lv_iconst (pc := 64) (v := 1) hx hb dX8_addThing_64 (by decide) ?_
    obtain ⟨S5, hc, h⟩ := bndv_t h
    refine s_cvv (pc := 65) [.int z1, .int (1 : Int32), .int (1 : Int32)] (fun ad => [.ref (ad 63), .int z1, .int (1 : Int32), .int (1 : Int32)]) F w (m_State_set _ _ _ _ _ hc) rfl rfl hl.1 ds_63 vc_X8 rfl ok_X8_set rfl kc_X8_set kl_X8_27 ki_X8_set kv_X8_set kn_X8 ⟨Nat.le_trans (by decide) hR1, Nat.le_trans (by decide) hR2⟩ ⟨Nat.zero_le _, Nat.zero_le _⟩ (Nat.le_of_ble_eq_true rfl) dX8_addThing_65 (fun H locs w => ?_)
    refine lv_aload_n (pc := 68) hx hb dX8_addThing_68 rfl (lv_at hl 1 rfl) ?_
    refine lv_iload_n (pc := 69) hx hb dX8_addThing_69 rfl (lv_at hl 0 rfl) ?_
    refine lv_iconst (pc := 70) (v := 2) hx hb dX8_addThing_70 (by decide) ?_
    refine lv_bipush (pc := 71) (v := -4) hx hb dX8_addThing_71 (by decide) ?_
    obtain ⟨S6, hc, h⟩ := bndv_t h
    refine s_cvv (pc := 73) [.int z1, .int (2 : Int32), .int (-4 : Int32)] (fun ad => [.ref (ad 63), .int z1, .int (2 : Int32), .int (-4 : Int32)]) F w (m_State_set _ _ _ _ _ hc) rfl rfl hl.1 ds_63 vc_X8 rfl ok_X8_set rfl kc_X8_set kl_X8_27 ki_X8_set kv_X8_set kn_X8 ⟨Nat.le_trans (by decide) hR1, Nat.le_trans (by decide) hR2⟩ ⟨Nat.zero_le _, Nat.zero_le _⟩ (Nat.le_of_ble_eq_true rfl) dX8_addThing_73 (fun H locs w => ?_)
    refine lv_aload_n (pc := 76) hx hb dX8_addThing_76 rfl (lv_at hl 1 rfl) ?_
    refine lv_iload_n (pc := 77) hx hb dX8_addThing_77 rfl (lv_at hl 0 rfl) ?_
    refine lv_iconst (pc := 78) (v := 3) hx hb dX8_addThing_78 (by decide) ?_
    refine lv_bipush (pc := 79) (v := -4) hx hb dX8_addThing_79 (by decide) ?_
    obtain ⟨S7, hc, h⟩ := bndv_t h
    refine s_cvv (pc := 81) [.int z1, .int (3 : Int32), .int (-4 : Int32)] (fun ad => [.ref (ad 63), .int z1, .int (3 : Int32), .int (-4 : Int32)]) F w (m_State_set _ _ _ _ _ hc) rfl rfl hl.1 ds_63 vc_X8 rfl ok_X8_set rfl kc_X8_set kl_X8_27 ki_X8_set kv_X8_set kn_X8 ⟨Nat.le_trans (by decide) hR1, Nat.le_trans (by decide) hR2⟩ ⟨Nat.zero_le _, Nat.zero_le _⟩ (Nat.le_of_ble_eq_true rfl) dX8_addThing_81 (fun H locs w => ?_)
    refine lv_aload_n (pc := 84) hx hb dX8_addThing_84 rfl (lv_at hl 1 rfl) ?_
    refine lv_iload_n (pc := 85) hx hb dX8_addThing_85 rfl (lv_at hl 0 rfl) ?_
    refine lv_iconst (pc := 86) (v := 4) hx hb dX8_addThing_86 (by decide) ?_
    refine lv_iload_n (pc := 87) hx hb dX8_addThing_87 rfl (lv_at hl 3 rfl) ?_
    obtain ⟨S8, hc, h⟩ := bndv_t h
    refine s_cvv (pc := 88) [.int z1, .int (4 : Int32), .int a2] (fun ad => [.ref (ad 63), .int z1, .int (4 : Int32), .int a2]) F w (m_State_set _ _ _ _ _ hc) rfl rfl hl.1 ds_63 vc_X8 rfl ok_X8_set rfl kc_X8_set kl_X8_27 ki_X8_set kv_X8_set kn_X8 ⟨Nat.le_trans (by decide) hR1, Nat.le_trans (by decide) hR2⟩ ⟨Nat.zero_le _, Nat.zero_le _⟩ (Nat.le_of_ble_eq_true rfl) dX8_addThing_88 (fun H locs w => ?_)
    refine lv_aload_n (pc := 91) hx hb dX8_addThing_91 rfl (lv_at hl 1 rfl) ?_
    refine lv_iload_n (pc := 92) hx hb dX8_addThing_92 rfl (lv_at hl 0 rfl) ?_
    refine lv_iconst (pc := 93) (v := 5) hx hb dX8_addThing_93 (by decide) ?_
    refine lv_bipush (pc := 94) (v := -4) hx hb dX8_addThing_94 (by decide) ?_
    obtain ⟨S9, hc, h⟩ := bndv_t h
    refine s_cvv (pc := 96) [.int z1, .int (5 : Int32), .int (-4 : Int32)] (fun ad => [.ref (ad 63), .int z1, .int (5 : Int32), .int (-4 : Int32)]) F w (m_State_set _ _ _ _ _ hc) rfl rfl hl.1 ds_63 vc_X8 rfl ok_X8_set rfl kc_X8_set kl_X8_27 ki_X8_set kv_X8_set kn_X8 ⟨Nat.le_trans (by decide) hR1, Nat.le_trans (by decide) hR2⟩ ⟨Nat.zero_le _, Nat.zero_le _⟩ (Nat.le_of_ble_eq_true rfl) dX8_addThing_96 (fun H locs w => ?_)
    refine lv_iload_n (pc := 99) hx hb dX8_addThing_99 rfl (lv_at hl 0 rfl) ?_
    exact s_iret F w h dX8_addThing_100
  · have h := ite_f q h
    refine lv_bipush (pc := 9) (v := -4) hx hb dX8_addThing_9 (by decide) ?_
    exact s_iret F w h dX8_addThing_11
