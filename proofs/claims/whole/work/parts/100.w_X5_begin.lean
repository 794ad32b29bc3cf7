/-! ===== printed by wip/gen: X5_begin X1_forget X2_addTrack X5_found X11_track X12_begin X12_forget X12_found X12_track X11_isNot X2_trackFinding X2_isEnd X8_setPoint X2_addPoint X2_pointAt X11_point X12_isSide X12_missTrack X12_ends X12_point X2_addLink X2_join X2_linksAt X2_areJoined X2_mayGetLink ===== -/
def f_X5_begin  (S : SS) : Option (SS) :=
  wr S 1 2 (0 : Int32) (fun S1 =>
  wr S1 1 3 (0 : Int32) (fun S2 =>
  wr S2 1 4 (-4 : Int32) (fun S3 =>
  wr S3 1 5 (0 : Int32) (fun S4 =>
  wr S4 1 6 (-4 : Int32) (fun S5 =>
  some S5)))))
theorem dX5_begin_0 : decode cX5_begin 0 = .ok (.aload_n 0, 1) := by decide +kernel
theorem dX5_begin_1 : decode cX5_begin 1 = .ok (.iconst 0, 1) := by decide +kernel
theorem dX5_begin_2 : decode cX5_begin 2 = .ok (.putfield 18, 3) := by decide +kernel
theorem dX5_begin_5 : decode cX5_begin 5 = .ok (.aload_n 0, 1) := by decide +kernel
theorem dX5_begin_6 : decode cX5_begin 6 = .ok (.iconst 0, 1) := by decide +kernel
theorem dX5_begin_7 : decode cX5_begin 7 = .ok (.putfield 22, 3) := by decide +kernel
theorem dX5_begin_10 : decode cX5_begin 10 = .ok (.aload_n 0, 1) := by decide +kernel
theorem dX5_begin_11 : decode cX5_begin 11 = .ok (.bipush (-4), 2) := by decide +kernel
theorem dX5_begin_13 : decode cX5_begin 13 = .ok (.putfield 25, 3) := by decide +kernel
theorem dX5_begin_16 : decode cX5_begin 16 = .ok (.aload_n 0, 1) := by decide +kernel
theorem dX5_begin_17 : decode cX5_begin 17 = .ok (.iconst 0, 1) := by decide +kernel
theorem dX5_begin_18 : decode cX5_begin 18 = .ok (.putfield 28, 3) := by decide +kernel
theorem dX5_begin_21 : decode cX5_begin 21 = .ok (.aload_n 0, 1) := by decide +kernel
theorem dX5_begin_22 : decode cX5_begin 22 = .ok (.bipush (-4), 2) := by decide +kernel
theorem dX5_begin_24 : decode cX5_begin 24 = .ok (.putfield 31, 3) := by decide +kernel
theorem dX5_begin_27 : decode cX5_begin 27 = .ok (.return_, 1) := by decide +kernel
set_option maxRecDepth 100000 in
set_option maxHeartbeats 4000000 in
theorem m_X5_begin  (S S' : SS) (h : f_X5_begin  S = some S') : MT yX5_begin cX5_begin 1 none 0 0 (fun ad => [.ref (ad 1)]) S none S' := by
  refine MT.of RX5 (fun ad => [(0, .ref (ad 1))]) (by decide) rfl (fun _ => Nat.le_of_ble_eq_true rfl) (fun _ => rfl) ?_
  intro p l e R s m args below meth c dC dI cs ad A hR1 hR2 F H locs ls w hl
  have hx := F.1.1
  have hb := F.1.2.1
  rw [f_X5_begin] at h
  refine lv_aload_n (pc := 0) hx hb dX5_begin_0 rfl (lv_at hl 0 rfl) ?_
  refine lv_iconst (pc := 1) (v := 0) hx hb dX5_begin_1 (by decide) ?_
  refine s_putI (pc := 2) F w ds_1 vc_X5 vi_X5 tyX5_ok nmX5 (j := 2) rfl (by decide) kf_X5_18 rfl pd_I h dX5_begin_2 (fun S1 H locs h w => ?_)
  refine lv_aload_n (pc := 5) hx hb dX5_begin_5 rfl (lv_at hl 0 rfl) ?_
  refine lv_iconst (pc := 6) (v := 0) hx hb dX5_begin_6 (by decide) ?_
  refine s_putI (pc := 7) F w ds_1 vc_X5 vi_X5 tyX5_ok nmX5 (j := 3) rfl (by decide) kf_X5_22 rfl pd_I h dX5_begin_7 (fun S2 H locs h w => ?_)
  refine lv_aload_n (pc := 10) hx hb dX5_begin_10 rfl (lv_at hl 0 rfl) ?_
  refine lv_bipush (pc := 11) (v := -4) hx hb dX5_begin_11 (by decide) ?_
  refine s_putI (pc := 13) F w ds_1 vc_X5 vi_X5 tyX5_ok nmX5 (j := 4) rfl (by decide) kf_X5_25 rfl pd_I h dX5_begin_13 (fun S3 H locs h w => ?_)
  refine lv_aload_n (pc := 16) hx hb dX5_begin_16 rfl (lv_at hl 0 rfl) ?_
  refine lv_iconst (pc := 17) (v := 0) hx hb dX5_begin_17 (by decide) ?_
  refine s_putI (pc := 18) F w ds_1 vc_X5 vi_X5 tyX5_ok nmX5 (j := 5) rfl (by decide) kf_X5_28 rfl pd_I h dX5_begin_18 (fun S4 H locs h w => ?_)
  refine lv_aload_n (pc := 21) hx hb dX5_begin_21 rfl (lv_at hl 0 rfl) ?_
  refine lv_bipush (pc := 22) (v := -4) hx hb dX5_begin_22 (by decide) ?_
  refine s_putI (pc := 24) F w ds_1 vc_X5 vi_X5 tyX5_ok nmX5 (j := 6) rfl (by decide) kf_X5_31 rfl pd_I h dX5_begin_24 (fun S5 H locs h w => ?_)
  exact s_vret F w h dX5_begin_27
def f_X1_forget  (S : SS) : Option (SS) :=
  wr S 3 6 (0 : Int32) (fun S1 =>
  wr S1 3 7 (0 : Int32) (fun S2 =>
  some S2))
theorem dX1_forget_0 : decode cX1_forget 0 = .ok (.aload_n 0, 1) := by decide +kernel
theorem dX1_forget_1 : decode cX1_forget 1 = .ok (.iconst 0, 1) := by decide +kernel
theorem dX1_forget_2 : decode cX1_forget 2 = .ok (.putfield 35, 3) := by decide +kernel
theorem dX1_forget_5 : decode cX1_forget 5 = .ok (.aload_n 0, 1) := by decide +kernel
theorem dX1_forget_6 : decode cX1_forget 6 = .ok (.iconst 0, 1) := by decide +kernel
theorem dX1_forget_7 : decode cX1_forget 7 = .ok (.putfield 38, 3) := by decide +kernel
theorem dX1_forget_10 : decode cX1_forget 10 = .ok (.return_, 1) := by decide +kernel
set_option maxRecDepth 100000 in
set_option maxHeartbeats 4000000 in
theorem m_X1_forget  (S S' : SS) (h : f_X1_forget  S = some S') : MT yX1_forget cX1_forget 1 none 0 0 (fun ad => [.ref (ad 3)]) S none S' := by
  refine MT.of RX1 (fun ad => [(0, .ref (ad 3))]) (by decide) rfl (fun _ => Nat.le_of_ble_eq_true rfl) (fun _ => rfl) ?_
  intro p l e R s m args below meth c dC dI cs ad A hR1 hR2 F H locs ls w hl
  have hx := F.1.1
  have hb := F.1.2.1
  rw [f_X1_forget] at h
  refine lv_aload_n (pc := 0) hx hb dX1_forget_0 rfl (lv_at hl 0 rfl) ?_
  refine lv_iconst (pc := 1) (v := 0) hx hb dX1_forget_1 (by decide) ?_
  refine s_putI (pc := 2) F w ds_3 vc_X1 vi_X1 tyX1_ok nmX1 (j := 6) rfl (by decide) kf_X1_35 rfl pd_I h dX1_forget_2 (fun S1 H locs h w => ?_)
  refine lv_aload_n (pc := 5) hx hb dX1_forget_5 rfl (lv_at hl 0 rfl) ?_
  refine lv_iconst (pc := 6) (v := 0) hx hb dX1_forget_6 (by decide) ?_
  refine s_putI (pc := 7) F w ds_3 vc_X1 vi_X1 tyX1_ok nmX1 (j := 7) rfl (by decide) kf_X1_38 rfl pd_I h dX1_forget_7 (fun S2 H locs h w => ?_)
  exact s_vret F w h dX1_forget_10
def f_X2_addTrack (a1 : Int32) (S : SS) : Option (Int32 × SS) :=
  if (S.1 5 7) < (24 : Int32) then
    grd (inb (S.1 5 7) 24) (wr S 33 (S.1 5 7).toNatClampNeg a1 (fun S1 =>
    wr S1 5 7 ((S1.1 5 7) + (1 : Int32)) (fun S2 =>
    some ((S2.1 5 7) - (1 : Int32), S2))))
  else
    some ((-3 : Int32), S)
theorem dX2_addTrack_0 : decode cX2_addTrack 0 = .ok (.aload_n 0, 1) := by decide +kernel
theorem dX2_addTrack_1 : decode cX2_addTrack 1 = .ok (.getfield 31, 3) := by decide +kernel
theorem dX2_addTrack_4 : decode cX2_addTrack 4 = .ok (.bipush 24, 2) := by decide +kernel
theorem dX2_addTrack_6 : decode cX2_addTrack 6 = .ok (.if_icmp .lt 6, 3) := by decide +kernel
theorem dX2_addTrack_9 : decode cX2_addTrack 9 = .ok (.bipush (-3), 2) := by decide +kernel
theorem dX2_addTrack_11 : decode cX2_addTrack 11 = .ok (.ireturn, 1) := by decide +kernel
theorem dX2_addTrack_12 : decode cX2_addTrack 12 = .ok (.aload_n 0, 1) := by decide +kernel
theorem dX2_addTrack_13 : decode cX2_addTrack 13 = .ok (.getfield 11, 3) := by decide +kernel
theorem dX2_addTrack_16 : decode cX2_addTrack 16 = .ok (.aload_n 0, 1) := by decide +kernel
theorem dX2_addTrack_17 : decode cX2_addTrack 17 = .ok (.getfield 31, 3) := by decide +kernel
theorem dX2_addTrack_20 : decode cX2_addTrack 20 = .ok (.iload_n 1, 1) := by decide +kernel
theorem dX2_addTrack_21 : decode cX2_addTrack 21 = .ok (.iastore, 1) := by decide +kernel
theorem dX2_addTrack_22 : decode cX2_addTrack 22 = .ok (.aload_n 0, 1) := by decide +kernel
theorem dX2_addTrack_23 : decode cX2_addTrack 23 = .ok (.dup, 1) := by decide +kernel
theorem dX2_addTrack_24 : decode cX2_addTrack 24 = .ok (.getfield 31, 3) := by decide +kernel
theorem dX2_addTrack_27 : decode cX2_addTrack 27 = .ok (.iconst 1, 1) := by decide +kernel
theorem dX2_addTrack_28 : decode cX2_addTrack 28 = .ok (.iadd, 1) := by decide +kernel
theorem dX2_addTrack_29 : decode cX2_addTrack 29 = .ok (.putfield 31, 3) := by decide +kernel
theorem dX2_addTrack_32 : decode cX2_addTrack 32 = .ok (.aload_n 0, 1) := by decide +kernel
theorem dX2_addTrack_33 : decode cX2_addTrack 33 = .ok (.getfield 31, 3) := by decide +kernel
theorem dX2_addTrack_36 : decode cX2_addTrack 36 = .ok (.iconst 1, 1) := by decide +kernel
theorem dX2_addTrack_37 : decode cX2_addTrack 37 = .ok (.isub, 1) := by decide +kernel
theorem dX2_addTrack_38 : decode cX2_addTrack 38 = .ok (.ireturn, 1) := by decide +kernel
set_option maxRecDepth 100000 in
set_option maxHeartbeats 4000000 in
theorem m_X2_addTrack (a1 : Int32) (S S' : SS) (r : Int32) (h : f_X2_addTrack a1 S = some (r, S')) : MT yX2_addTrack cX2_addTrack 2 (some .int) 0 0 (fun ad => [.ref (ad 5), .int a1]) S (some (.int r)) S' := by
  refine MT.of RX2 (fun ad => [(0, .ref (ad 5)), (1, .int a1)]) (by decide) rfl (fun _ => Nat.le_of_ble_eq_true rfl) (fun _ => rfl) ?_
  intro p l e R s m args below meth c dC dI cs ad A hR1 hR2 F H locs ls w hl
  have hx := F.1.1
  have hb := F.1.2.1
  rw [f_X2_addTrack] at h
  refine lv_aload_n (pc := 0) hx hb dX2_addTrack_0 rfl (lv_at hl 0 rfl) ?_
  refine s_getI (pc := 1) F w ds_5 (j := 7) vc_X2 vi_X2 rfl (by decide) kf_X2_31 dX2_addTrack_1 ?_
  refine lv_bipush (pc := 4) (v := 24) hx hb dX2_addTrack_4 (by decide) ?_
  refine lv_icmp_lt (pc := 6) (tgt := 12) hx hb dX2_addTrack_6 (by decide) (fun q => ?_) (fun q => ?_)
  · have h := ite_t q h
    refine lv_aload_n (pc := 12) hx hb dX2_addTrack_12 rfl (lv_at hl 0 rfl) ?_
    refine s_getR (pc := 13) F w 33 ds_5 (j := 1) vc_X2 vi_X2 rfl (by decide) kf_X2_11 dX2_addTrack_13 ?_
    refine lv_aload_n (pc := 16) hx hb dX2_addTrack_16 rfl (lv_at hl 0 rfl) ?_
    refine s_getI (pc := 17) F w ds_5 (j := 7) vc_X2 vi_X2 rfl (by decide) kf_X2_31 dX2_addTrack_17 ?_
    refine lv_iload_n (pc := 20) hx hb dX2_addTrack_20 rfl (lv_at hl 1 rfl) ?_
    refine s_iast (pc := 21) F w ds_33 h dX2_addTrack_21 (fun S1 H locs h w => ?_)
    refine lv_aload_n (pc := 22) hx hb dX2_addTrack_22 rfl (lv_at hl 0 rfl) ?_
    refine lv_dup (pc := 23) hx hb dX2_addTrack_23 rfl ?_
    refine s_getI (pc := 24) F w ds_5 (j := 7) vc_X2 vi_X2 rfl (by decide) kf_X2_31 dX2_addTrack_24 ?_
    refine lv_iconst (pc := 27) (v := 1) hx hb dX2_addTrack_27 (by decide) ?_
    refine lv_iadd (pc := 28) hx hb dX2_addTrack_28 ?_
    refine s_putI (pc := 29) F w ds_5 vc_X2 vi_X2 tyX2_ok nmX2 (j := 7) rfl (by decide) kf_X2_31 rfl pd_I h dX2_addTrack_29 (fun S2 H locs h w => ?_)
    refine lv_aload_n (pc := 32) hx hb dX2_addTrack_32 rfl (lv_at hl 0 rfl) ?_
    refine s_getI (pc := 33) F w ds_5 (j := 7) vc_X2 vi_X2 rfl (by decide) kf_X2_31 dX2_addTrack_33 ?_
    refine lv_iconst (pc := 36) (v := 1) hx hb dX2_addTrack_36 (by decide) ?_
    refine lv_isub (pc := 37) hx hb dX2_addTrack_37 ?_
    exact s_iret F w h dX2_addTrack_38
  · have h := ite_f q h
    refine lv_bipush (pc := 9) (v := -3) hx hb dX2_addTrack_9 (by decide) ?_
    exact s_iret F w h dX2_addTrack_11
def f_X5_found (a1 : Int32) (S : SS) : Option (Int32 × SS) :=
  wr S 1 3 a1 (fun S1 =>
  if a1 ≤ 0 then
    some ((-2 : Int32), S1)
  else
    if (17 : Int32) < a1 then
      some ((-2 : Int32), S1)
    else
      grd (inb a1 18) (
      grd (inb a1 18) (wr S1 17 a1.toNatClampNeg ((S1.1 17 a1.toNatClampNeg) + (1 : Int32)) (fun S2 =>
      some ((-2 : Int32), S2)))))
theorem dX5_found_0 : decode cX5_found 0 = .ok (.aload_n 0, 1) := by decide +kernel
theorem dX5_found_1 : decode cX5_found 1 = .ok (.iload_n 1, 1) := by decide +kernel
theorem dX5_found_2 : decode cX5_found 2 = .ok (.putfield 22, 3) := by decide +kernel
theorem dX5_found_5 : decode cX5_found 5 = .ok (.iload_n 1, 1) := by decide +kernel
theorem dX5_found_6 : decode cX5_found 6 = .ok (.ifCond .le 19, 3) := by decide +kernel
theorem dX5_found_9 : decode cX5_found 9 = .ok (.iload_n 1, 1) := by decide +kernel
theorem dX5_found_10 : decode cX5_found 10 = .ok (.bipush 17, 2) := by decide +kernel
theorem dX5_found_12 : decode cX5_found 12 = .ok (.if_icmp .gt 13, 3) := by decide +kernel
theorem dX5_found_15 : decode cX5_found 15 = .ok (.aload_n 0, 1) := by decide +kernel
theorem dX5_found_16 : decode cX5_found 16 = .ok (.getfield 11, 3) := by decide +kernel
theorem dX5_found_19 : decode cX5_found 19 = .ok (.iload_n 1, 1) := by decide +kernel
theorem dX5_found_20 : decode cX5_found 20 = .ok (.dup2, 1) := by decide +kernel
theorem dX5_found_21 : decode cX5_found 21 = .ok (.iaload, 1) := by decide +kernel
theorem dX5_found_22 : decode cX5_found 22 = .ok (.iconst 1, 1) := by decide +kernel
theorem dX5_found_23 : decode cX5_found 23 = .ok (.iadd, 1) := by decide +kernel
theorem dX5_found_24 : decode cX5_found 24 = .ok (.iastore, 1) := by decide +kernel
theorem dX5_found_25 : decode cX5_found 25 = .ok (.bipush (-2), 2) := by decide +kernel
theorem dX5_found_27 : decode cX5_found 27 = .ok (.ireturn, 1) := by decide +kernel
set_option maxRecDepth 100000 in
set_option maxHeartbeats 4000000 in
theorem m_X5_found (a1 : Int32) (S S' : SS) (r : Int32) (h : f_X5_found a1 S = some (r, S')) : MT yX5_found cX5_found 2 (some .int) 0 0 (fun ad => [.ref (ad 1), .int a1]) S (some (.int r)) S' := by
  refine MT.of RX5 (fun ad => [(0, .ref (ad 1)), (1, .int a1)]) (by decide) rfl (fun _ => Nat.le_of_ble_eq_true rfl) (fun _ => rfl) ?_
  intro p l e R s m args below meth c dC dI cs ad A hR1 hR2 F H locs ls w hl
  have hx := F.1.1
  have hb := F.1.2.1
  rw [f_X5_found] at h
  refine lv_aload_n (pc := 0) hx hb dX5_found_0 rfl (lv_at hl 0 rfl) ?_
  refine lv_iload_n (pc := 1) hx hb dX5_found_1 rfl (lv_at hl 1 rfl) ?_
  refine s_putI (pc := 2) F w ds_1 vc_X5 vi_X5 tyX5_ok nmX5 (j := 3) rfl (by decide) kf_X5_22 rfl pd_I h dX5_found_2 (fun S1 H locs h w => ?_)
  refine lv_iload_n (pc := 5) hx hb dX5_found_5 rfl (lv_at hl 1 rfl) ?_
  refine lv_if_le (pc := 6) (tgt := 25) hx hb dX5_found_6 (by decide) (fun q => ?_) (fun q => ?_)
  · have h := ite_t q h
    refine lv_bipush (pc := 25) (v := -2) hx hb dX5_found_25 (by decide) ?_
    exact s_iret F w h dX5_found_27
  · have h := ite_f q h
    refine lv_iload_n (pc := 9) hx hb dX5_found_9 rfl (lv_at hl 1 rfl) ?_
    refine lv_bipush (pc := 10) (v := 17) hx hb dX5_found_10 (by decide) ?_
    refine lv_icmp_gt (pc := 12) (tgt := 25) hx hb dX5_found_12 (by decide) (fun q => ?_) (fun q => ?_)
    · have h := ite_t q h
      refine lv_bipush (pc := 25) (v := -2) hx hb dX5_found_25 (by decide) ?_
      exact s_iret F w h dX5_found_27
    · have h := ite_f q h
      refine lv_aload_n (pc := 15) hx hb dX5_found_15 rfl (lv_at hl 0 rfl) ?_
      refine s_getR (pc := 16) F w 17 ds_1 (j := 0) vc_X5 vi_X5 rfl (by decide) kf_X5_11 dX5_found_16 ?_
      refine lv_iload_n (pc := 19) hx hb dX5_found_19 rfl (lv_at hl 1 rfl) ?_
      refine lv_dup2_11 (pc := 20) hx hb dX5_found_20 rfl rfl ?_
      refine s_iald (pc := 21) F w ds_17 h dX5_found_21 (fun h => ?_)
      refine lv_iconst (pc := 22) (v := 1) hx hb dX5_found_22 (by decide) ?_
      refine lv_iadd (pc := 23) hx hb dX5_found_23 ?_
      refine s_iast (pc := 24) F w ds_17 h dX5_found_24 (fun S2 H locs h w => ?_)
      refine lv_bipush (pc := 25) (v := -2) hx hb dX5_found_25 (by decide) ?_
      exact s_iret F w h dX5_found_27
def f_X11_track (a1 : Int32) (S : SS) : Option (Int32 × SS) :=
  if a1 = 0 then
    some ((-1 : Int32), S)
  else
    if a1 ≤ (24 : Int32) then
      if (S.1 5 7) < (24 : Int32) then
        bndv (f_X5_begin  S) (fun S1 =>
        if 0 ≤ a1 then
          bndv (f_X1_forget  S1) (fun S2 =>
          bnd (f_X2_addTrack a1 S2) (fun r4 S3 =>
          some (r4, S3)))
        else
          bnd (f_X5_found (5 : Int32) S1) (fun r6 S5 =>
          some (r6, S5)))
      else
        some ((-3 : Int32), S)
    else
      some ((-1 : Int32), S)
theorem dX11_track_0 : decode cX11_track 0 = .ok (.iload_n 1, 1) := by decide +kernel
theorem dX11_track_1 : decode cX11_track 1 = .ok (.ifCond .eq 9, 3) := by decide +kernel
theorem dX11_track_4 : decode cX11_track 4 = .ok (.iload_n 1, 1) := by decide +kernel
theorem dX11_track_5 : decode cX11_track 5 = .ok (.bipush 24, 2) := by decide +kernel
theorem dX11_track_7 : decode cX11_track 7 = .ok (.if_icmp .le 5, 3) := by decide +kernel
theorem dX11_track_10 : decode cX11_track 10 = .ok (.iconst (-1), 1) := by decide +kernel
theorem dX11_track_11 : decode cX11_track 11 = .ok (.ireturn, 1) := by decide +kernel
theorem dX11_track_12 : decode cX11_track 12 = .ok (.aload_n 0, 1) := by decide +kernel
theorem dX11_track_13 : decode cX11_track 13 = .ok (.getfield 42, 3) := by decide +kernel
theorem dX11_track_16 : decode cX11_track 16 = .ok (.getfield 91, 3) := by decide +kernel
theorem dX11_track_19 : decode cX11_track 19 = .ok (.bipush 24, 2) := by decide +kernel
theorem dX11_track_21 : decode cX11_track 21 = .ok (.if_icmp .lt 6, 3) := by decide +kernel
theorem dX11_track_24 : decode cX11_track 24 = .ok (.bipush (-3), 2) := by decide +kernel
theorem dX11_track_26 : decode cX11_track 26 = .ok (.ireturn, 1) := by decide +kernel
theorem dX11_track_27 : decode cX11_track 27 = .ok (.aload_n 0, 1) := by decide +kernel
theorem dX11_track_28 : decode cX11_track 28 = .ok (.getfield 10, 3) := by decide +kernel
theorem dX11_track_31 : decode cX11_track 31 = .ok (.invokevirtual 95, 3) := by decide +kernel
theorem dX11_track_34 : decode cX11_track 34 = .ok (.iload_n 1, 1) := by decide +kernel
theorem dX11_track_35 : decode cX11_track 35 = .ok (.ifCond .ge 12, 3) := by decide +kernel
theorem dX11_track_38 : decode cX11_track 38 = .ok (.aload_n 0, 1) := by decide +kernel
theorem dX11_track_39 : decode cX11_track 39 = .ok (.getfield 10, 3) := by decide +kernel
theorem dX11_track_42 : decode cX11_track 42 = .ok (.iconst 5, 1) := by decide +kernel
theorem dX11_track_43 : decode cX11_track 43 = .ok (.invokevirtual 98, 3) := by decide +kernel
theorem dX11_track_46 : decode cX11_track 46 = .ok (.ireturn, 1) := by decide +kernel
theorem dX11_track_47 : decode cX11_track 47 = .ok (.aload_n 0, 1) := by decide +kernel
theorem dX11_track_48 : decode cX11_track 48 = .ok (.getfield 26, 3) := by decide +kernel
theorem dX11_track_51 : decode cX11_track 51 = .ok (.invokevirtual 102, 3) := by decide +kernel
theorem dX11_track_54 : decode cX11_track 54 = .ok (.aload_n 0, 1) := by decide +kernel
theorem dX11_track_55 : decode cX11_track 55 = .ok (.getfield 42, 3) := by decide +kernel
theorem dX11_track_58 : decode cX11_track 58 = .ok (.iload_n 1, 1) := by decide +kernel
theorem dX11_track_59 : decode cX11_track 59 = .ok (.invokevirtual 105, 3) := by decide +kernel
theorem dX11_track_62 : decode cX11_track 62 = .ok (.ireturn, 1) := by decide +kernel
set_option maxRecDepth 100000 in
set_option maxHeartbeats 4000000 in
theorem m_X11_track (a1 : Int32) (S S' : SS) (r : Int32) (h : f_X11_track a1 S = some (r, S')) : MT yX11_track cX11_track 2 (some .int) 1 21 (fun ad => [.ref (ad 0), .int a1]) S (some (.int r)) S' := by
  refine MT.of RX11 (fun ad => [(0, .ref (ad 0)), (1, .int a1)]) (by decide) rfl (fun _ => Nat.le_of_ble_eq_true rfl) (fun _ => rfl) ?_
  intro p l e R s m args below meth c dC dI cs ad A hR1 hR2 F H locs ls w hl
  have hx := F.1.1
  have hb := F.1.2.1
  rw [f_X11_track] at h
  refine lv_iload_n (pc := 0) hx hb dX11_track_0 rfl (lv_at hl 1 rfl) ?_
  refine lv_if_eq (pc := 1) (tgt := 10) hx hb dX11_track_1 (by decide) (fun q => ?_) (fun q => ?_)
  · have h := ite_t q h
    refine lv_iconst (pc := 10) (v := -1) hx hb dX11_track_10 (by decide) ?_
    exact s_iret F w h dX11_track_11
  · have h := ite_f q h
    refine lv_iload_n (pc := 4) hx hb dX11_track_4 rfl (lv_at hl 1 rfl) ?_
    refine lv_bipush (pc := 5) (v := 24) hx hb dX11_track_5 (by decide) ?_
    refine lv_icmp_le (pc := 7) (tgt := 12) hx hb dX11_track_7 (by decide) (fun q => ?_) (fun q => ?_)
    · have h := ite_t q h
      refine lv_aload_n (pc := 12) hx hb dX11_track_12 rfl (lv_at hl 0 rfl) ?_
      refine s_getR (pc := 13) F w 5 ds_0 (j := 4) vc_X11 vi_X11 rfl (by decide) kf_X11_42 dX11_track_13 ?_
      refine s_getI (pc := 16) F w ds_5 (j := 7) vc_X2 vi_X2 rfl (by decide) kf_X11_91 dX11_track_16 ?_
      refine lv_bipush (pc := 19) (v := 24) hx hb dX11_track_19 (by decide) ?_
      refine lv_icmp_lt (pc := 21) (tgt := 27) hx hb dX11_track_21 (by decide) (fun q => ?_) (fun q => ?_)
      · have h := ite_t q h
        refine lv_aload_n (pc := 27) hx hb dX11_track_27 rfl (lv_at hl 0 rfl) ?_
        refine s_getR (pc := 28) F w 1 ds_0 (j := 0) vc_X11 vi_X11 rfl (by decide) kf_X11_10 dX11_track_28 ?_
        obtain ⟨S1, hc, h⟩ := bndv_t h
        refine s_cvv (pc := 31) [] (fun ad => [.ref (ad 1)]) F w (m_X5_begin  _ _ hc) rfl rfl hl.1 ds_1 vc_X5 rfl ok_X5_begin rfl kc_X5_begin kl_X11_95 ki_X5_begin kv_X5_begin kn_X5 ⟨Nat.le_trans (by decide) hR1, Nat.le_trans (by decide) hR2⟩ ⟨Nat.zero_le _, Nat.zero_le _⟩ (Nat.le_of_ble_eq_true rfl) dX11_track_31 (fun H locs w => ?_)
        refine lv_iload_n (pc := 34) hx hb dX11_track_34 rfl (lv_at hl 1 rfl) ?_
        refine lv_if_ge (pc := 35) (tgt := 47) hx hb dX11_track_35 (by decide) (fun q => ?_) (fun q => ?_)
        · have h := ite_t q h
          refine lv_aload_n (pc := 47) hx hb dX11_track_47 rfl (lv_at hl 0 rfl) ?_
          refine s_getR (pc := 48) F w 3 ds_0 (j := 2) vc_X11 vi_X11 rfl (by decide) kf_X11_26 dX11_track_48 ?_
          obtain ⟨S2, hc, h⟩ := bndv_t h
          refine s_cvv (pc := 51) [] (fun ad => [.ref (ad 3)]) F w (m_X1_forget  _ _ hc) rfl rfl hl.1 ds_3 vc_X1 rfl ok_X1_forget rfl kc_X1_forget kl_X11_102 ki_X1_forget kv_X1_forget kn_X1 ⟨Nat.le_trans (by decide) hR1, Nat.le_trans (by decide) hR2⟩ ⟨Nat.zero_le _, Nat.zero_le _⟩ (Nat.le_of_ble_eq_true rfl) dX11_track_51 (fun H locs w => ?_)
          refine lv_aload_n (pc := 54) hx hb dX11_track_54 rfl (lv_at hl 0 rfl) ?_
          refine s_getR (pc := 55) F w 5 ds_0 (j := 4) vc_X11 vi_X11 rfl (by decide) kf_X11_42 dX11_track_55 ?_
          refine lv_iload_n (pc := 58) hx hb dX11_track_58 rfl (lv_at hl 1 rfl) ?_
          obtain ⟨r4, S3, hc, h⟩ := bnd_t h
          refine s_cvi (pc := 59) [.int a1] (fun ad => [.ref (ad 5), .int a1]) F w (m_X2_addTrack _ _ _ _ hc) rfl rfl hl.1 ds_5 vc_X2 rfl ok_X2_addTrack rfl kc_X2_addTrack kl_X11_105 ki_X2_addTrack kv_X2_addTrack kn_X2 ⟨Nat.le_trans (by decide) hR1, Nat.le_trans (by decide) hR2⟩ ⟨Nat.zero_le _, Nat.zero_le _⟩ (Nat.le_of_ble_eq_true rfl) dX11_track_59 (fun H locs w => ?_)
          exact s_iret F w h dX11_track_62
        · have h := ite_f q h
          refine lv_aload_n (pc := 38) hx hb dX11_track_38 rfl (lv_at hl 0 rfl) ?_
          refine s_getR (pc := 39) F w 1 ds_0 (j := 0) vc_X11 vi_X11 rfl (by decide) kf_X11_10 dX11_track_39 ?_
          refine lv_iconst (pc := 42) (v := 5) hx hb dX11_track_42 (by decide) ?_
          obtain ⟨r6, S5, hc, h⟩ := bnd_t h
          refine s_cvi (pc := 43) [.int (5 : Int32)] (fun ad => [.ref (ad 1), .int (5 : Int32)]) F w (m_X5_found _ _ _ _ hc) rfl rfl hl.1 ds_1 vc_X5 rfl ok_X5_found rfl kc_X5_found kl_X11_98 ki_X5_found kv_X5_found kn_X5 ⟨Nat.le_trans (by decide) hR1, Nat.le_trans (by decide) hR2⟩ ⟨Nat.zero_le _, Nat.zero_le _⟩ (Nat.le_of_ble_eq_true rfl) dX11_track_43 (fun H locs w => ?_)
          exact s_iret F w h dX11_track_46
      · have h := ite_f q h
        refine lv_bipush (pc := 24) (v := -3) hx hb dX11_track_24 (by decide) ?_
        exact s_iret F w h dX11_track_26
    · have h := ite_f q h
      refine lv_iconst (pc := 10) (v := -1) hx hb dX11_track_10 (by decide) ?_
      exact s_iret F w h dX11_track_11
def f_X12_begin  (S : SS) : Option (SS) :=
  wr S 14 0 (0 : Int32) (fun S1 =>
  wr S1 14 1 (-4 : Int32) (fun S2 =>
  wr S2 14 2 (0 : Int32) (fun S3 =>
  wr S3 14 3 (-4 : Int32) (fun S4 =>
  wr S4 14 5 (0 : Int32) (fun S5 =>
  some S5)))))
theorem dX12_begin_0 : decode cX12_begin 0 = .ok (.aload_n 0, 1) := by decide +kernel
theorem dX12_begin_1 : decode cX12_begin 1 = .ok (.iconst 0, 1) := by decide +kernel
theorem dX12_begin_2 : decode cX12_begin 2 = .ok (.putfield 201, 3) := by decide +kernel
theorem dX12_begin_5 : decode cX12_begin 5 = .ok (.aload_n 0, 1) := by decide +kernel
theorem dX12_begin_6 : decode cX12_begin 6 = .ok (.bipush (-4), 2) := by decide +kernel
theorem dX12_begin_8 : decode cX12_begin 8 = .ok (.putfield 9, 3) := by decide +kernel
theorem dX12_begin_11 : decode cX12_begin 11 = .ok (.aload_n 0, 1) := by decide +kernel
theorem dX12_begin_12 : decode cX12_begin 12 = .ok (.iconst 0, 1) := by decide +kernel
theorem dX12_begin_13 : decode cX12_begin 13 = .ok (.putfield 204, 3) := by decide +kernel
theorem dX12_begin_16 : decode cX12_begin 16 = .ok (.aload_n 0, 1) := by decide +kernel
theorem dX12_begin_17 : decode cX12_begin 17 = .ok (.bipush (-4), 2) := by decide +kernel
theorem dX12_begin_19 : decode cX12_begin 19 = .ok (.putfield 13, 3) := by decide +kernel
theorem dX12_begin_22 : decode cX12_begin 22 = .ok (.aload_n 0, 1) := by decide +kernel
theorem dX12_begin_23 : decode cX12_begin 23 = .ok (.iconst 0, 1) := by decide +kernel
theorem dX12_begin_24 : decode cX12_begin 24 = .ok (.putfield 207, 3) := by decide +kernel
theorem dX12_begin_27 : decode cX12_begin 27 = .ok (.return_, 1) := by decide +kernel
set_option maxRecDepth 100000 in
set_option maxHeartbeats 4000000 in
theorem m_X12_begin  (S S' : SS) (h : f_X12_begin  S = some S') : MT yX12_begin cX12_begin 1 none 0 0 (fun ad => [.ref (ad 14)]) S none S' := by
  refine MT.of RX12 (fun ad => [(0, .ref (ad 14))]) (by decide) rfl (fun _ => Nat.le_of_ble_eq_true rfl) (fun _ => rfl) ?_
  intro p l e R s m args below meth c dC dI cs ad A hR1 hR2 F H locs ls w hl
  have hx := F.1.1
  have hb := F.1.2.1
  rw [f_X12_begin] at h
  refine lv_aload_n (pc := 0) hx hb dX12_begin_0 rfl (lv_at hl 0 rfl) ?_
  refine lv_iconst (pc := 1) (v := 0) hx hb dX12_begin_1 (by decide) ?_
  refine s_putI (pc := 2) F w ds_14 vc_X12 vi_X12 tyX12_ok nmX12 (j := 0) rfl (by decide) kf_X12_201 rfl pd_I h dX12_begin_2 (fun S1 H locs h w => ?_)
  refine lv_aload_n (pc := 5) hx hb dX12_begin_5 rfl (lv_at hl 0 rfl) ?_
  refine lv_bipush (pc := 6) (v := -4) hx hb dX12_begin_6 (by decide) ?_
  refine s_putI (pc := 8) F w ds_14 vc_X12 vi_X12 tyX12_ok nmX12 (j := 1) rfl (by decide) kf_X12_9 rfl pd_I h dX12_begin_8 (fun S2 H locs h w => ?_)
  refine lv_aload_n (pc := 11) hx hb dX12_begin_11 rfl (lv_at hl 0 rfl) ?_
  refine lv_iconst (pc := 12) (v := 0) hx hb dX12_begin_12 (by decide) ?_
  refine s_putI (pc := 13) F w ds_14 vc_X12 vi_X12 tyX12_ok nmX12 (j := 2) rfl (by decide) kf_X12_204 rfl pd_I h dX12_begin_13 (fun S3 H locs h w => ?_)
  refine lv_aload_n (pc := 16) hx hb dX12_begin_16 rfl (lv_at hl 0 rfl) ?_
  refine lv_bipush (pc := 17) (v := -4) hx hb dX12_begin_17 (by decide) ?_
  refine s_putI (pc := 19) F w ds_14 vc_X12 vi_X12 tyX12_ok nmX12 (j := 3) rfl (by decide) kf_X12_13 rfl pd_I h dX12_begin_19 (fun S4 H locs h w => ?_)
  refine lv_aload_n (pc := 22) hx hb dX12_begin_22 rfl (lv_at hl 0 rfl) ?_
  refine lv_iconst (pc := 23) (v := 0) hx hb dX12_begin_23 (by decide) ?_
  refine s_putI (pc := 24) F w ds_14 vc_X12 vi_X12 tyX12_ok nmX12 (j := 5) rfl (by decide) kf_X12_207 rfl pd_I h dX12_begin_24 (fun S5 H locs h w => ?_)
  exact s_vret F w h dX12_begin_27
def f_X12_forget  (S : SS) : Option (SS) :=
  wr S 14 60 (0 : Int32) (fun S1 =>
  wr S1 14 61 (0 : Int32) (fun S2 =>
  some S2))
theorem dX12_forget_0 : decode cX12_forget 0 = .ok (.aload_n 0, 1) := by decide +kernel
theorem dX12_forget_1 : decode cX12_forget 1 = .ok (.iconst 0, 1) := by decide +kernel
theorem dX12_forget_2 : decode cX12_forget 2 = .ok (.putfield 328, 3) := by decide +kernel
theorem dX12_forget_5 : decode cX12_forget 5 = .ok (.aload_n 0, 1) := by decide +kernel
theorem dX12_forget_6 : decode cX12_forget 6 = .ok (.iconst 0, 1) := by decide +kernel
theorem dX12_forget_7 : decode cX12_forget 7 = .ok (.putfield 331, 3) := by decide +kernel
theorem dX12_forget_10 : decode cX12_forget 10 = .ok (.return_, 1) := by decide +kernel
set_option maxRecDepth 100000 in
set_option maxHeartbeats 4000000 in
theorem m_X12_forget  (S S' : SS) (h : f_X12_forget  S = some S') : MT yX12_forget cX12_forget 1 none 0 0 (fun ad => [.ref (ad 14)]) S none S' := by
  refine MT.of RX12 (fun ad => [(0, .ref (ad 14))]) (by decide) rfl (fun _ => Nat.le_of_ble_eq_true rfl) (fun _ => rfl) ?_
  intro p l e R s m args below meth c dC dI cs ad A hR1 hR2 F H locs ls w hl
  have hx := F.1.1
  have hb := F.1.2.1
  rw [f_X12_forget] at h
  refine lv_aload_n (pc := 0) hx hb dX12_forget_0 rfl (lv_at hl 0 rfl) ?_
  refine lv_iconst (pc := 1) (v := 0) hx hb dX12_forget_1 (by decide) ?_
  refine s_putI (pc := 2) F w ds_14 vc_X12 vi_X12 tyX12_ok nmX12 (j := 60) rfl (by decide) kf_X12_328 rfl pd_I h dX12_forget_2 (fun S1 H locs h w => ?_)
  refine lv_aload_n (pc := 5) hx hb dX12_forget_5 rfl (lv_at hl 0 rfl) ?_
  refine lv_iconst (pc := 6) (v := 0) hx hb dX12_forget_6 (by decide) ?_
  refine s_putI (pc := 7) F w ds_14 vc_X12 vi_X12 tyX12_ok nmX12 (j := 61) rfl (by decide) kf_X12_331 rfl pd_I h dX12_forget_7 (fun S2 H locs h w => ?_)
  exact s_vret F w h dX12_forget_10
def f_X12_found (a1 : Int32) (S : SS) : Option (Int32 × SS) :=
  wr S 14 0 a1 (fun S1 =>
  grd (inb a1 18) (
  grd (inb a1 18) (wr S1 68 a1.toNatClampNeg ((S1.1 68 a1.toNatClampNeg) + (1 : Int32)) (fun S2 =>
  some ((-2 : Int32), S2)))))
theorem dX12_found_0 : decode cX12_found 0 = .ok (.aload_n 0, 1) := by decide +kernel
theorem dX12_found_1 : decode cX12_found 1 = .ok (.iload_n 1, 1) := by decide +kernel
theorem dX12_found_2 : decode cX12_found 2 = .ok (.putfield 201, 3) := by decide +kernel
theorem dX12_found_5 : decode cX12_found 5 = .ok (.aload_n 0, 1) := by decide +kernel
theorem dX12_found_6 : decode cX12_found 6 = .ok (.getfield 16, 3) := by decide +kernel
theorem dX12_found_9 : decode cX12_found 9 = .ok (.iload_n 1, 1) := by decide +kernel
theorem dX12_found_10 : decode cX12_found 10 = .ok (.dup2, 1) := by decide +kernel
theorem dX12_found_11 : decode cX12_found 11 = .ok (.iaload, 1) := by decide +kernel
theorem dX12_found_12 : decode cX12_found 12 = .ok (.iconst 1, 1) := by decide +kernel
theorem dX12_found_13 : decode cX12_found 13 = .ok (.iadd, 1) := by decide +kernel
theorem dX12_found_14 : decode cX12_found 14 = .ok (.iastore, 1) := by decide +kernel
theorem dX12_found_15 : decode cX12_found 15 = .ok (.bipush (-2), 2) := by decide +kernel
theorem dX12_found_17 : decode cX12_found 17 = .ok (.ireturn, 1) := by decide +kernel
set_option maxRecDepth 100000 in
set_option maxHeartbeats 4000000 in
theorem m_X12_found (a1 : Int32) (S S' : SS) (r : Int32) (h : f_X12_found a1 S = some (r, S')) : MT yX12_found cX12_found 2 (some .int) 0 0 (fun ad => [.ref (ad 14), .int a1]) S (some (.int r)) S' := by
  refine MT.of RX12 (fun ad => [(0, .ref (ad 14)), (1, .int a1)]) (by decide) rfl (fun _ => Nat.le_of_ble_eq_true rfl) (fun _ => rfl) ?_
  intro p l e R s m args below meth c dC dI cs ad A hR1 hR2 F H locs ls w hl
  have hx := F.1.1
  have hb := F.1.2.1
  rw [f_X12_found] at h
  refine lv_aload_n (pc := 0) hx hb dX12_found_0 rfl (lv_at hl 0 rfl) ?_
  refine lv_iload_n (pc := 1) hx hb dX12_found_1 rfl (lv_at hl 1 rfl) ?_
  refine s_putI (pc := 2) F w ds_14 vc_X12 vi_X12 tyX12_ok nmX12 (j := 0) rfl (by decide) kf_X12_201 rfl pd_I h dX12_found_2 (fun S1 H locs h w => ?_)
  refine lv_aload_n (pc := 5) hx hb dX12_found_5 rfl (lv_at hl 0 rfl) ?_
  refine s_getR (pc := 6) F w 68 ds_14 (j := 4) vc_X12 vi_X12 rfl (by decide) kf_X12_16 dX12_found_6 ?_
  refine lv_iload_n (pc := 9) hx hb dX12_found_9 rfl (lv_at hl 1 rfl) ?_
  refine lv_dup2_11 (pc := 10) hx hb dX12_found_10 rfl rfl ?_
  refine s_iald (pc := 11) F w ds_68 h dX12_found_11 (fun h => ?_)
  refine lv_iconst (pc := 12) (v := 1) hx hb dX12_found_12 (by decide) ?_
  refine lv_iadd (pc := 13) hx hb dX12_found_13 ?_
  refine s_iast (pc := 14) F w ds_68 h dX12_found_14 (fun S2 H locs h w => ?_)
  refine lv_bipush (pc := 15) (v := -2) hx hb dX12_found_15 (by decide) ?_
  exact s_iret F w h dX12_found_17
def f_X12_track (a1 : Int32) (S : SS) : Option (Int32 × SS) :=
  if a1 = 0 then
    some ((-1 : Int32), S)
  else
    if a1 ≤ (24 : Int32) then
      if (S.1 14 7) = (24 : Int32) then
        some ((-3 : Int32), S)
      else
        bndv (f_X12_begin  S) (fun S1 =>
        if 0 ≤ a1 then
          grd (inb (S1.1 14 7) 24) (wr S1 70 (S1.1 14 7).toNatClampNeg a1 (fun S2 =>
          wr S2 14 7 ((S2.1 14 7) + (1 : Int32)) (fun S3 =>
          bndv (f_X12_forget  S3) (fun S4 =>
          some ((S4.1 14 7) - (1 : Int32), S4)))))
        else
          bnd (f_X12_found (5 : Int32) S1) (fun r6 S5 =>
          some (r6, S5)))
    else
      some ((-1 : Int32), S)
theorem dX12_track_0 : decode cX12_track 0 = .ok (.iload_n 1, 1) := by decide +kernel
theorem dX12_track_1 : decode cX12_track 1 = .ok (.ifCond .eq 9, 3) := by decide +kernel
theorem dX12_track_4 : decode cX12_track 4 = .ok (.iload_n 1, 1) := by decide +kernel
theorem dX12_track_5 : decode cX12_track 5 = .ok (.bipush 24, 2) := by decide +kernel
theorem dX12_track_7 : decode cX12_track 7 = .ok (.if_icmp .le 5, 3) := by decide +kernel
theorem dX12_track_10 : decode cX12_track 10 = .ok (.iconst (-1), 1) := by decide +kernel
theorem dX12_track_11 : decode cX12_track 11 = .ok (.ireturn, 1) := by decide +kernel
theorem dX12_track_12 : decode cX12_track 12 = .ok (.aload_n 0, 1) := by decide +kernel
theorem dX12_track_13 : decode cX12_track 13 = .ok (.getfield 214, 3) := by decide +kernel
theorem dX12_track_16 : decode cX12_track 16 = .ok (.bipush 24, 2) := by decide +kernel
theorem dX12_track_18 : decode cX12_track 18 = .ok (.if_icmp .ne 6, 3) := by decide +kernel
theorem dX12_track_21 : decode cX12_track 21 = .ok (.bipush (-3), 2) := by decide +kernel
theorem dX12_track_23 : decode cX12_track 23 = .ok (.ireturn, 1) := by decide +kernel
theorem dX12_track_24 : decode cX12_track 24 = .ok (.aload_n 0, 1) := by decide +kernel
theorem dX12_track_25 : decode cX12_track 25 = .ok (.invokevirtual 226, 3) := by decide +kernel
theorem dX12_track_28 : decode cX12_track 28 = .ok (.iload_n 1, 1) := by decide +kernel
theorem dX12_track_29 : decode cX12_track 29 = .ok (.ifCond .ge 9, 3) := by decide +kernel
theorem dX12_track_32 : decode cX12_track 32 = .ok (.aload_n 0, 1) := by decide +kernel
theorem dX12_track_33 : decode cX12_track 33 = .ok (.iconst 5, 1) := by decide +kernel
theorem dX12_track_34 : decode cX12_track 34 = .ok (.invokevirtual 210, 3) := by decide +kernel
theorem dX12_track_37 : decode cX12_track 37 = .ok (.ireturn, 1) := by decide +kernel
theorem dX12_track_38 : decode cX12_track 38 = .ok (.aload_n 0, 1) := by decide +kernel
theorem dX12_track_39 : decode cX12_track 39 = .ok (.getfield 23, 3) := by decide +kernel
theorem dX12_track_42 : decode cX12_track 42 = .ok (.aload_n 0, 1) := by decide +kernel
theorem dX12_track_43 : decode cX12_track 43 = .ok (.getfield 214, 3) := by decide +kernel
theorem dX12_track_46 : decode cX12_track 46 = .ok (.iload_n 1, 1) := by decide +kernel
theorem dX12_track_47 : decode cX12_track 47 = .ok (.iastore, 1) := by decide +kernel
theorem dX12_track_48 : decode cX12_track 48 = .ok (.aload_n 0, 1) := by decide +kernel
theorem dX12_track_49 : decode cX12_track 49 = .ok (.dup, 1) := by decide +kernel
theorem dX12_track_50 : decode cX12_track 50 = .ok (.getfield 214, 3) := by decide +kernel
theorem dX12_track_53 : decode cX12_track 53 = .ok (.iconst 1, 1) := by decide +kernel
theorem dX12_track_54 : decode cX12_track 54 = .ok (.iadd, 1) := by decide +kernel
theorem dX12_track_55 : decode cX12_track 55 = .ok (.putfield 214, 3) := by decide +kernel
theorem dX12_track_58 : decode cX12_track 58 = .ok (.aload_n 0, 1) := by decide +kernel
theorem dX12_track_59 : decode cX12_track 59 = .ok (.invokevirtual 229, 3) := by decide +kernel
theorem dX12_track_62 : decode cX12_track 62 = .ok (.aload_n 0, 1) := by decide +kernel
theorem dX12_track_63 : decode cX12_track 63 = .ok (.getfield 214, 3) := by decide +kernel
theorem dX12_track_66 : decode cX12_track 66 = .ok (.iconst 1, 1) := by decide +kernel
theorem dX12_track_67 : decode cX12_track 67 = .ok (.isub, 1) := by decide +kernel
theorem dX12_track_68 : decode cX12_track 68 = .ok (.ireturn, 1) := by decide +kernel
set_option maxRecDepth 100000 in
set_option maxHeartbeats 4000000 in
theorem m_X12_track (a1 : Int32) (S S' : SS) (r : Int32) (h : f_X12_track a1 S = some (r, S')) : MT yX12_track cX12_track 2 (some .int) 1 21 (fun ad => [.ref (ad 14), .int a1]) S (some (.int r)) S' := by
  refine MT.of RX12 (fun ad => [(0, .ref (ad 14)), (1, .int a1)]) (by decide) rfl (fun _ => Nat.le_of_ble_eq_true rfl) (fun _ => rfl) ?_
  intro p l e R s m args below meth c dC dI cs ad A hR1 hR2 F H locs ls w hl
  have hx := F.1.1
  have hb := F.1.2.1
  rw [f_X12_track] at h
  refine lv_iload_n (pc := 0) hx hb dX12_track_0 rfl (lv_at hl 1 rfl) ?_
  refine lv_if_eq (pc := 1) (tgt := 10) hx hb dX12_track_1 (by decide) (fun q => ?_) (fun q => ?_)
  · have h := ite_t q h
    refine lv_iconst (pc := 10) (v := -1) hx hb dX12_track_10 (by decide) ?_
    exact s_iret F w h dX12_track_11
  · have h := ite_f q h
    refine lv_iload_n (pc := 4) hx hb dX12_track_4 rfl (lv_at hl 1 rfl) ?_
    refine lv_bipush (pc := 5) (v := 24) hx hb dX12_track_5 (by decide) ?_
    refine lv_icmp_le (pc := 7) (tgt := 12) hx hb dX12_track_7 (by decide) (fun q => ?_) (fun q => ?_)
    · have h := ite_t q h
      refine lv_aload_n (pc := 12) hx hb dX12_track_12 rfl (lv_at hl 0 rfl) ?_
      refine s_getI (pc := 13) F w ds_14 (j := 7) vc_X12 vi_X12 rfl (by decide) kf_X12_214 dX12_track_13 ?_
      refine lv_bipush (pc := 16) (v := 24) hx hb dX12_track_16 (by decide) ?_
      refine lv_icmp_ne (pc := 18) (tgt := 24) hx hb dX12_track_18 (by decide) (fun q => ?_) (fun q => ?_)
      · have h := ite_f q h
        refine lv_aload_n (pc := 24) hx hb dX12_track_24 rfl (lv_at hl 0 rfl) ?_
        obtain ⟨S1, hc, h⟩ := bndv_t h
        refine s_cvv (pc := 25) [] (fun ad => [.ref (ad 14)]) F w (m_X12_begin  _ _ hc) rfl rfl hl.1 ds_14 vc_X12 rfl ok_X12_begin rfl kc_X12_begin kl_X12_226 ki_X12_begin kv_X12_begin kn_X12 ⟨Nat.le_trans (by decide) hR1, Nat.le_trans (by decide) hR2⟩ ⟨Nat.zero_le _, Nat.zero_le _⟩ (Nat.le_of_ble_eq_true rfl) dX12_track_25 (fun H locs w => ?_)
        refine lv_iload_n (pc := 28) hx hb dX12_track_28 rfl (lv_at hl 1 rfl) ?_
        refine lv_if_ge (pc := 29) (tgt := 38) hx hb dX12_track_29 (by decide) (fun q => ?_) (fun q => ?_)
        · have h := ite_t q h
          refine lv_aload_n (pc := 38) hx hb dX12_track_38 rfl (lv_at hl 0 rfl) ?_
          refine s_getR (pc := 39) F w 70 ds_14 (j := 8) vc_X12 vi_X12 rfl (by decide) kf_X12_23 dX12_track_39 ?_
          refine lv_aload_n (pc := 42) hx hb dX12_track_42 rfl (lv_at hl 0 rfl) ?_
          refine s_getI (pc := 43) F w ds_14 (j := 7) vc_X12 vi_X12 rfl (by decide) kf_X12_214 dX12_track_43 ?_
          refine lv_iload_n (pc := 46) hx hb dX12_track_46 rfl (lv_at hl 1 rfl) ?_
          refine s_iast (pc := 47) F w ds_70 h dX12_track_47 (fun S2 H locs h w => ?_)
          refine lv_aload_n (pc := 48) hx hb dX12_track_48 rfl (lv_at hl 0 rfl) ?_
          refine lv_dup (pc := 49) hx hb dX12_track_49 rfl ?_
          refine s_getI (pc := 50) F w ds_14 (j := 7) vc_X12 vi_X12 rfl (by decide) kf_X12_214 dX12_track_50 ?_
          refine lv_iconst (pc := 53) (v := 1) hx hb dX12_track_53 (by decide) ?_
          refine lv_iadd (pc := 54) hx hb dX12_track_54 ?_
          refine s_putI (pc := 55) F w ds_14 vc_X12 vi_X12 tyX12_ok nmX12 (j := 7) rfl (by decide) kf_X12_214 rfl pd_I h dX12_track_55 (fun S3 H locs h w => ?_)
          refine lv_aload_n (pc := 58) hx hb dX12_track_58 rfl (lv_at hl 0 rfl) ?_
          obtain ⟨S4, hc, h⟩ := bndv_t h
          refine s_cvv (pc := 59) [] (fun ad => [.ref (ad 14)]) F w (m_X12_forget  _ _ hc) rfl rfl hl.1 ds_14 vc_X12 rfl ok_X12_forget rfl kc_X12_forget kl_X12_229 ki_X12_forget kv_X12_forget kn_X12 ⟨Nat.le_trans (by decide) hR1, Nat.le_trans (by decide) hR2⟩ ⟨Nat.zero_le _, Nat.zero_le _⟩ (Nat.le_of_ble_eq_true rfl) dX12_track_59 (fun H locs w => ?_)
          refine lv_aload_n (pc := 62) hx hb dX12_track_62 rfl (lv_at hl 0 rfl) ?_
          refine s_getI (pc := 63) F w ds_14 (j := 7) vc_X12 vi_X12 rfl (by decide) kf_X12_214 dX12_track_63 ?_
          refine lv_iconst (pc := 66) (v := 1) hx hb dX12_track_66 (by decide) ?_
          refine lv_isub (pc := 67) hx hb dX12_track_67 ?_
          exact s_iret F w h dX12_track_68
        · have h := ite_f q h
          refine lv_aload_n (pc := 32) hx hb dX12_track_32 rfl (lv_at hl 0 rfl) ?_
          refine lv_iconst (pc := 33) (v := 5) hx hb dX12_track_33 (by decide) ?_
          obtain ⟨r6, S5, hc, h⟩ := bnd_t h
          refine s_cvi (pc := 34) [.int (5 : Int32)] (fun ad => [.ref (ad 14), .int (5 : Int32)]) F w (m_X12_found _ _ _ _ hc) rfl rfl hl.1 ds_14 vc_X12 rfl ok_X12_found rfl kc_X12_found kl_X12_210 ki_X12_found kv_X12_found kn_X12 ⟨Nat.le_trans (by decide) hR1, Nat.le_trans (by decide) hR2⟩ ⟨Nat.zero_le _, Nat.zero_le _⟩ (Nat.le_of_ble_eq_true rfl) dX12_track_34 (fun H locs w => ?_)
          exact s_iret F w h dX12_track_37
      · have h := ite_t q h
        refine lv_bipush (pc := 21) (v := -3) hx hb dX12_track_21 (by decide) ?_
        exact s_iret F w h dX12_track_23
    · have h := ite_f q h
      refine lv_iconst (pc := 10) (v := -1) hx hb dX12_track_10 (by decide) ?_
      exact s_iret F w h dX12_track_11
def f_X11_isNot (a0 : Int32) (a1 : Int32) (a2 : Int32) (S : SS) : Option (Int32 × SS) :=
  if a0 < a1 then
    some ((1 : Int32), S)
  else
    if a0 ≤ a2 then
      some ((0 : Int32), S)
    else
      some ((1 : Int32), S)
theorem dX11_isNot_0 : decode cX11_isNot 0 = .ok (.iload_n 0, 1) := by decide +kernel
theorem dX11_isNot_1 : decode cX11_isNot 1 = .ok (.iload_n 1, 1) := by decide +kernel
theorem dX11_isNot_2 : decode cX11_isNot 2 = .ok (.if_icmp .lt 8, 3) := by decide +kernel
theorem dX11_isNot_5 : decode cX11_isNot 5 = .ok (.iload_n 0, 1) := by decide +kernel
theorem dX11_isNot_6 : decode cX11_isNot 6 = .ok (.iload_n 2, 1) := by decide +kernel
theorem dX11_isNot_7 : decode cX11_isNot 7 = .ok (.if_icmp .le 7, 3) := by decide +kernel
theorem dX11_isNot_10 : decode cX11_isNot 10 = .ok (.iconst 1, 1) := by decide +kernel
theorem dX11_isNot_11 : decode cX11_isNot 11 = .ok (.goto 4, 3) := by decide +kernel
theorem dX11_isNot_14 : decode cX11_isNot 14 = .ok (.iconst 0, 1) := by decide +kernel
theorem dX11_isNot_15 : decode cX11_isNot 15 = .ok (.ireturn, 1) := by decide +kernel
set_option maxRecDepth 100000 in
set_option maxHeartbeats 4000000 in
theorem m_X11_isNot (a0 : Int32) (a1 : Int32) (a2 : Int32) (S S' : SS) (r : Int32) (h : f_X11_isNot a0 a1 a2 S = some (r, S')) : MT yX11_isNot cX11_isNot 3 (some .boolean) 0 0 (fun ad => [.int a0, .int a1, .int a2]) S (some (.int r)) S' := by
  refine MT.of RX11 (fun ad => [(0, .int a0), (1, .int a1), (2, .int a2)]) (by decide) rfl (fun _ => Nat.le_of_ble_eq_true rfl) (fun _ => rfl) ?_
  intro p l e R s m args below meth c dC dI cs ad A hR1 hR2 F H locs ls w hl
  have hx := F.1.1
  have hb := F.1.2.1
  rw [f_X11_isNot] at h
  refine lv_iload_n (pc := 0) hx hb dX11_isNot_0 rfl (lv_at hl 0 rfl) ?_
  refine lv_iload_n (pc := 1) hx hb dX11_isNot_1 rfl (lv_at hl 1 rfl) ?_
  refine lv_icmp_lt (pc := 2) (tgt := 10) hx hb dX11_isNot_2 (by decide) (fun q => ?_) (fun q => ?_)
  · have h := ite_t q h
    refine lv_iconst (pc := 10) (v := 1) hx hb dX11_isNot_10 (by decide) ?_
    refine lv_goto (pc := 11) (tgt := 15) hx hb dX11_isNot_11 (by decide) ?_
    exact s_zretc F w rfl h dX11_isNot_15
  · have h := ite_f q h
    refine lv_iload_n (pc := 5) hx hb dX11_isNot_5 rfl (lv_at hl 0 rfl) ?_
    refine lv_iload_n (pc := 6) hx hb dX11_isNot_6 rfl (lv_at hl 2 rfl) ?_
    refine lv_icmp_le (pc := 7) (tgt := 14) hx hb dX11_isNot_7 (by decide) (fun q => ?_) (fun q => ?_)
    · have h := ite_t q h
      refine lv_iconst (pc := 14) (v := 0) hx hb dX11_isNot_14 (by decide) ?_
      exact s_zretc F w rfl h dX11_isNot_15
    · have h := ite_f q h
      refine lv_iconst (pc := 10) (v := 1) hx hb dX11_isNot_10 (by decide) ?_
      refine lv_goto (pc := 11) (tgt := 15) hx hb dX11_isNot_11 (by decide) ?_
      exact s_zretc F w rfl h dX11_isNot_15
def f_X2_trackFinding (a1 : Int32) (S : SS) : Option (Int32 × SS) :=
  if a1 < 0 then
    some ((3 : Int32), S)
  else
    if a1 < (24 : Int32) then
      if (S.1 5 7) ≤ a1 then
        some ((1 : Int32), S)
      else
        some ((0 : Int32), S)
    else
      some ((3 : Int32), S)
theorem dX2_trackFinding_0 : decode cX2_trackFinding 0 = .ok (.iload_n 1, 1) := by decide +kernel
theorem dX2_trackFinding_1 : decode cX2_trackFinding 1 = .ok (.ifCond .lt 9, 3) := by decide +kernel
theorem dX2_trackFinding_4 : decode cX2_trackFinding 4 = .ok (.iload_n 1, 1) := by decide +kernel
theorem dX2_trackFinding_5 : decode cX2_trackFinding 5 = .ok (.bipush 24, 2) := by decide +kernel
theorem dX2_trackFinding_7 : decode cX2_trackFinding 7 = .ok (.if_icmp .lt 5, 3) := by decide +kernel
theorem dX2_trackFinding_10 : decode cX2_trackFinding 10 = .ok (.iconst 3, 1) := by decide +kernel
theorem dX2_trackFinding_11 : decode cX2_trackFinding 11 = .ok (.ireturn, 1) := by decide +kernel
theorem dX2_trackFinding_12 : decode cX2_trackFinding 12 = .ok (.iload_n 1, 1) := by decide +kernel
theorem dX2_trackFinding_13 : decode cX2_trackFinding 13 = .ok (.aload_n 0, 1) := by decide +kernel
theorem dX2_trackFinding_14 : decode cX2_trackFinding 14 = .ok (.getfield 31, 3) := by decide +kernel
theorem dX2_trackFinding_17 : decode cX2_trackFinding 17 = .ok (.if_icmp .ge 7, 3) := by decide +kernel
theorem dX2_trackFinding_20 : decode cX2_trackFinding 20 = .ok (.iconst 0, 1) := by decide +kernel
theorem dX2_trackFinding_21 : decode cX2_trackFinding 21 = .ok (.goto 4, 3) := by decide +kernel
theorem dX2_trackFinding_24 : decode cX2_trackFinding 24 = .ok (.iconst 1, 1) := by decide +kernel
theorem dX2_trackFinding_25 : decode cX2_trackFinding 25 = .ok (.ireturn, 1) := by decide +kernel
set_option maxRecDepth 100000 in
set_option maxHeartbeats 4000000 in
theorem m_X2_trackFinding (a1 : Int32) (S S' : SS) (r : Int32) (h : f_X2_trackFinding a1 S = some (r, S')) : MT yX2_trackFinding cX2_trackFinding 2 (some .int) 0 0 (fun ad => [.ref (ad 5), .int a1]) S (some (.int r)) S' := by
  refine MT.of RX2 (fun ad => [(0, .ref (ad 5)), (1, .int a1)]) (by decide) rfl (fun _ => Nat.le_of_ble_eq_true rfl) (fun _ => rfl) ?_
  intro p l e R s m args below meth c dC dI cs ad A hR1 hR2 F H locs ls w hl
  have hx := F.1.1
  have hb := F.1.2.1
  rw [f_X2_trackFinding] at h
  refine lv_iload_n (pc := 0) hx hb dX2_trackFinding_0 rfl (lv_at hl 1 rfl) ?_
  refine lv_if_lt (pc := 1) (tgt := 10) hx hb dX2_trackFinding_1 (by decide) (fun q => ?_) (fun q => ?_)
  · have h := ite_t q h
    refine lv_iconst (pc := 10) (v := 3) hx hb dX2_trackFinding_10 (by decide) ?_
    exact s_iret F w h dX2_trackFinding_11
  · have h := ite_f q h
    refine lv_iload_n (pc := 4) hx hb dX2_trackFinding_4 rfl (lv_at hl 1 rfl) ?_
    refine lv_bipush (pc := 5) (v := 24) hx hb dX2_trackFinding_5 (by decide) ?_
    refine lv_icmp_lt (pc := 7) (tgt := 12) hx hb dX2_trackFinding_7 (by decide) (fun q => ?_) (fun q => ?_)
    · have h := ite_t q h
      refine lv_iload_n (pc := 12) hx hb dX2_trackFinding_12 rfl (lv_at hl 1 rfl) ?_
      refine lv_aload_n (pc := 13) hx hb dX2_trackFinding_13 rfl (lv_at hl 0 rfl) ?_
      refine s_getI (pc := 14) F w ds_5 (j := 7) vc_X2 vi_X2 rfl (by decide) kf_X2_31 dX2_trackFinding_14 ?_
      refine lv_icmp_ge (pc := 17) (tgt := 24) hx hb dX2_trackFinding_17 (by decide) (fun q => ?_) (fun q => ?_)
      · have h := ite_t q h
        refine lv_iconst (pc := 24) (v := 1) hx hb dX2_trackFinding_24 (by decide) ?_
        exact s_iret F w h dX2_trackFinding_25
      · have h := ite_f q h
        refine lv_iconst (pc := 20) (v := 0) hx hb dX2_trackFinding_20 (by decide) ?_
        refine lv_goto (pc := 21) (tgt := 25) hx hb dX2_trackFinding_21 (by decide) ?_
        exact s_iret F w h dX2_trackFinding_25
    · have h := ite_f q h
      refine lv_iconst (pc := 10) (v := 3) hx hb dX2_trackFinding_10 (by decide) ?_
      exact s_iret F w h dX2_trackFinding_11
def f_X2_isEnd (a0 : Int32) (S : SS) : Option (Int32 × SS) :=
  if a0 < 0 then
    some ((0 : Int32), S)
  else
    if (48 : Int32) ≤ a0 then
      some ((0 : Int32), S)
    else
      some ((1 : Int32), S)
theorem dX2_isEnd_0 : decode cX2_isEnd 0 = .ok (.iload_n 0, 1) := by decide +kernel
theorem dX2_isEnd_1 : decode cX2_isEnd 1 = .ok (.ifCond .lt 13, 3) := by decide +kernel
theorem dX2_isEnd_4 : decode cX2_isEnd 4 = .ok (.iload_n 0, 1) := by decide +kernel
theorem dX2_isEnd_5 : decode cX2_isEnd 5 = .ok (.bipush 48, 2) := by decide +kernel
theorem dX2_isEnd_7 : decode cX2_isEnd 7 = .ok (.if_icmp .ge 7, 3) := by decide +kernel
theorem dX2_isEnd_10 : decode cX2_isEnd 10 = .ok (.iconst 1, 1) := by decide +kernel
theorem dX2_isEnd_11 : decode cX2_isEnd 11 = .ok (.goto 4, 3) := by decide +kernel
theorem dX2_isEnd_14 : decode cX2_isEnd 14 = .ok (.iconst 0, 1) := by decide +kernel
theorem dX2_isEnd_15 : decode cX2_isEnd 15 = .ok (.ireturn, 1) := by decide +kernel
set_option maxRecDepth 100000 in
set_option maxHeartbeats 4000000 in
theorem m_X2_isEnd (a0 : Int32) (S S' : SS) (r : Int32) (h : f_X2_isEnd a0 S = some (r, S')) : MT yX2_isEnd cX2_isEnd 1 (some .boolean) 0 0 (fun ad => [.int a0]) S (some (.int r)) S' := by
  refine MT.of RX2 (fun ad => [(0, .int a0)]) (by decide) rfl (fun _ => Nat.le_of_ble_eq_true rfl) (fun _ => rfl) ?_
  intro p l e R s m args below meth c dC dI cs ad A hR1 hR2 F H locs ls w hl
  have hx := F.1.1
  have hb := F.1.2.1
  rw [f_X2_isEnd] at h
  refine lv_iload_n (pc := 0) hx hb dX2_isEnd_0 rfl (lv_at hl 0 rfl) ?_
  refine lv_if_lt (pc := 1) (tgt := 14) hx hb dX2_isEnd_1 (by decide) (fun q => ?_) (fun q => ?_)
  · have h := ite_t q h
    refine lv_iconst (pc := 14) (v := 0) hx hb dX2_isEnd_14 (by decide) ?_
    exact s_zretc F w rfl h dX2_isEnd_15
  · have h := ite_f q h
    refine lv_iload_n (pc := 4) hx hb dX2_isEnd_4 rfl (lv_at hl 0 rfl) ?_
    refine lv_bipush (pc := 5) (v := 48) hx hb dX2_isEnd_5 (by decide) ?_
    refine lv_icmp_ge (pc := 7) (tgt := 14) hx hb dX2_isEnd_7 (by decide) (fun q => ?_) (fun q => ?_)
    · have h := ite_t q h
      refine lv_iconst (pc := 14) (v := 0) hx hb dX2_isEnd_14 (by decide) ?_
      exact s_zretc F w rfl h dX2_isEnd_15
    · have h := ite_f q h
      refine lv_iconst (pc := 10) (v := 1) hx hb dX2_isEnd_10 (by decide) ?_
      refine lv_goto (pc := 11) (tgt := 15) hx hb dX2_isEnd_11 (by decide) ?_
      exact s_zretc F w rfl h dX2_isEnd_15
def f_X8_setPoint (a1 : Int32) (a2 : Int32) (a3 : Int32) (S : SS) : Option (SS) :=
  if a1 < 0 then
    some S
  else
    if (40 : Int32) ≤ a1 then
      some S
    else
      grd (inb ((74 : Int32) + a1) 946) (wr S 19 ((74 : Int32) + a1).toNatClampNeg a2 (fun S1 =>
      grd (inb ((114 : Int32) + a1) 946) (wr S1 19 ((114 : Int32) + a1).toNatClampNeg a3 (fun S2 =>
      some S2))))
theorem dX8_setPoint_0 : decode cX8_setPoint 0 = .ok (.iload_n 1, 1) := by decide +kernel
theorem dX8_setPoint_1 : decode cX8_setPoint 1 = .ok (.ifCond .lt 29, 3) := by decide +kernel
theorem dX8_setPoint_4 : decode cX8_setPoint 4 = .ok (.iload_n 1, 1) := by decide +kernel
theorem dX8_setPoint_5 : decode cX8_setPoint 5 = .ok (.bipush 40, 2) := by decide +kernel
theorem dX8_setPoint_7 : decode cX8_setPoint 7 = .ok (.if_icmp .ge 23, 3) := by decide +kernel
theorem dX8_setPoint_10 : decode cX8_setPoint 10 = .ok (.aload_n 0, 1) := by decide +kernel
theorem dX8_setPoint_11 : decode cX8_setPoint 11 = .ok (.getfield 13, 3) := by decide +kernel
theorem dX8_setPoint_14 : decode cX8_setPoint 14 = .ok (.bipush 74, 2) := by decide +kernel
theorem dX8_setPoint_16 : decode cX8_setPoint 16 = .ok (.iload_n 1, 1) := by decide +kernel
theorem dX8_setPoint_17 : decode cX8_setPoint 17 = .ok (.iadd, 1) := by decide +kernel
theorem dX8_setPoint_18 : decode cX8_setPoint 18 = .ok (.iload_n 2, 1) := by decide +kernel
theorem dX8_setPoint_19 : decode cX8_setPoint 19 = .ok (.iastore, 1) := by decide +kernel
theorem dX8_setPoint_20 : decode cX8_setPoint 20 = .ok (.aload_n 0, 1) := by decide +kernel
theorem dX8_setPoint_21 : decode cX8_setPoint 21 = .ok (.getfield 13, 3) := by decide +kernel
theorem dX8_setPoint_24 : decode cX8_setPoint 24 = .ok (.bipush 114, 2) := by decide +kernel
theorem dX8_setPoint_26 : decode cX8_setPoint 26 = .ok (.iload_n 1, 1) := by decide +kernel
theorem dX8_setPoint_27 : decode cX8_setPoint 27 = .ok (.iadd, 1) := by decide +kernel
theorem dX8_setPoint_28 : decode cX8_setPoint 28 = .ok (.iload_n 3, 1) := by decide +kernel
theorem dX8_setPoint_29 : decode cX8_setPoint 29 = .ok (.iastore, 1) := by decide +kernel
theorem dX8_setPoint_30 : decode cX8_setPoint 30 = .ok (.return_, 1) := by decide +kernel
set_option maxRecDepth 100000 in
set_option maxHeartbeats 4000000 in
theorem m_X8_setPoint (a1 : Int32) (a2 : Int32) (a3 : Int32) (S S' : SS) (h : f_X8_setPoint a1 a2 a3 S = some S') : MT yX8_setPoint cX8_setPoint 4 none 0 0 (fun ad => [.ref (ad 2), .int a1, .int a2, .int a3]) S none S' := by
  refine MT.of RX8 (fun ad => [(0, .ref (ad 2)), (1, .int a1), (2, .int a2), (3, .int a3)]) (by decide) rfl (fun _ => Nat.le_of_ble_eq_true rfl) (fun _ => rfl) ?_
  intro p l e R s m args below meth c dC dI cs ad A hR1 hR2 F H locs ls w hl
  have hx := F.1.1
  have hb := F.1.2.1
  rw [f_X8_setPoint] at h
  refine lv_iload_n (pc := 0) hx hb dX8_setPoint_0 rfl (lv_at hl 1 rfl) ?_
  refine lv_if_lt (pc := 1) (tgt := 30) hx hb dX8_setPoint_1 (by decide) (fun q => ?_) (fun q => ?_)
  · have h := ite_t q h
    exact s_vret F w h dX8_setPoint_30
  · have h := ite_f q h
    refine lv_iload_n (pc := 4) hx hb dX8_setPoint_4 rfl (lv_at hl 1 rfl) ?_
    refine lv_bipush (pc := 5) (v := 40) hx hb dX8_setPoint_5 (by decide) ?_
    refine lv_icmp_ge (pc := 7) (tgt := 30) hx hb dX8_setPoint_7 (by decide) (fun q => ?_) (fun q => ?_)
    · have h := ite_t q h
      exact s_vret F w h dX8_setPoint_30
    · have h := ite_f q h
      refine lv_aload_n (pc := 10) hx hb dX8_setPoint_10 rfl (lv_at hl 0 rfl) ?_
      refine s_getR (pc := 11) F w 19 ds_2 (j := 0) vc_X8 vi_X8 rfl (by decide) kf_X8_13 dX8_setPoint_11 ?_
      refine lv_bipush (pc := 14) (v := 74) hx hb dX8_setPoint_14 (by decide) ?_
      refine lv_iload_n (pc := 16) hx hb dX8_setPoint_16 rfl (lv_at hl 1 rfl) ?_
      refine lv_iadd (pc := 17) hx hb dX8_setPoint_17 ?_
      refine lv_iload_n (pc := 18) hx hb dX8_setPoint_18 rfl (lv_at hl 2 rfl) ?_
      refine s_iast (pc := 19) F w ds_19 h dX8_setPoint_19 (fun S1 H locs h w => ?_)
      refine lv_aload_n (pc := 20) hx hb dX8_setPoint_20 rfl (lv_at hl 0 rfl) ?_
      refine s_getR (pc := 21) F w 19 ds_2 (j := 0) vc_X8 vi_X8 rfl (by decide) kf_X8_13 dX8_setPoint_21 ?_
      refine lv_bipush (pc := 24) (v := 114) hx hb dX8_setPoint_24 (by decide) ?_
      refine lv_iload_n (pc := 26) hx hb dX8_setPoint_26 rfl (lv_at hl 1 rfl) ?_
      refine lv_iadd (pc := 27) hx hb dX8_setPoint_27 ?_
      refine lv_iload_n (pc := 28) hx hb dX8_setPoint_28 rfl (lv_at hl 3 rfl) ?_
      refine s_iast (pc := 29) F w ds_19 h dX8_setPoint_29 (fun S2 H locs h w => ?_)
      exact s_vret F w h dX8_setPoint_30
def f_X2_addPoint (a1 : Int32) (S : SS) : Option (Int32 × SS) :=
  if (40 : Int32) ≤ (S.1 5 8) then
    some ((-3 : Int32), S)
  else
    bnd (f_X2_isEnd a1 S) (fun r2 S1 =>
    if r2 = 0 then
      some ((-3 : Int32), S1)
    else
      grd (inb a1 48) (wr S1 34 a1.toNatClampNeg (S1.1 5 8) (fun S3 =>
      grd (inb (S3.1 5 8) 40) (wr S3 35 (S3.1 5 8).toNatClampNeg a1 (fun S4 =>
      bndv (f_X8_setPoint (S4.1 5 8) (0 : Int32) (-4 : Int32) S4) (fun S5 =>
      wr S5 5 8 ((S5.1 5 8) + (1 : Int32)) (fun S6 =>
      some ((S6.1 5 8) - (1 : Int32), S6))))))))
theorem dX2_addPoint_0 : decode cX2_addPoint 0 = .ok (.aload_n 0, 1) := by decide +kernel
theorem dX2_addPoint_1 : decode cX2_addPoint 1 = .ok (.getfield 35, 3) := by decide +kernel
theorem dX2_addPoint_4 : decode cX2_addPoint 4 = .ok (.bipush 40, 2) := by decide +kernel
theorem dX2_addPoint_6 : decode cX2_addPoint 6 = .ok (.if_icmp .ge 10, 3) := by decide +kernel
theorem dX2_addPoint_9 : decode cX2_addPoint 9 = .ok (.iload_n 1, 1) := by decide +kernel
theorem dX2_addPoint_10 : decode cX2_addPoint 10 = .ok (.invokestatic 48, 3) := by decide +kernel
theorem dX2_addPoint_13 : decode cX2_addPoint 13 = .ok (.ifCond .ne 6, 3) := by decide +kernel
theorem dX2_addPoint_16 : decode cX2_addPoint 16 = .ok (.bipush (-3), 2) := by decide +kernel
theorem dX2_addPoint_18 : decode cX2_addPoint 18 = .ok (.ireturn, 1) := by decide +kernel
theorem dX2_addPoint_19 : decode cX2_addPoint 19 = .ok (.aload_n 0, 1) := by decide +kernel
theorem dX2_addPoint_20 : decode cX2_addPoint 20 = .ok (.getfield 15, 3) := by decide +kernel
theorem dX2_addPoint_23 : decode cX2_addPoint 23 = .ok (.iload_n 1, 1) := by decide +kernel
theorem dX2_addPoint_24 : decode cX2_addPoint 24 = .ok (.aload_n 0, 1) := by decide +kernel
theorem dX2_addPoint_25 : decode cX2_addPoint 25 = .ok (.getfield 35, 3) := by decide +kernel
theorem dX2_addPoint_28 : decode cX2_addPoint 28 = .ok (.iastore, 1) := by decide +kernel
theorem dX2_addPoint_29 : decode cX2_addPoint 29 = .ok (.aload_n 0, 1) := by decide +kernel
theorem dX2_addPoint_30 : decode cX2_addPoint 30 = .ok (.getfield 18, 3) := by decide +kernel
theorem dX2_addPoint_33 : decode cX2_addPoint 33 = .ok (.aload_n 0, 1) := by decide +kernel
theorem dX2_addPoint_34 : decode cX2_addPoint 34 = .ok (.getfield 35, 3) := by decide +kernel
theorem dX2_addPoint_37 : decode cX2_addPoint 37 = .ok (.iload_n 1, 1) := by decide +kernel
theorem dX2_addPoint_38 : decode cX2_addPoint 38 = .ok (.iastore, 1) := by decide +kernel
theorem dX2_addPoint_39 : decode cX2_addPoint 39 = .ok (.aload_n 0, 1) := by decide +kernel
theorem dX2_addPoint_40 : decode cX2_addPoint 40 = .ok (.getfield 38, 3) := by decide +kernel
theorem dX2_addPoint_43 : decode cX2_addPoint 43 = .ok (.aload_n 0, 1) := by decide +kernel
theorem dX2_addPoint_44 : decode cX2_addPoint 44 = .ok (.getfield 35, 3) := by decide +kernel
theorem dX2_addPoint_47 : decode cX2_addPoint 47 = .ok (.iconst 0, 1) := by decide +kernel
theorem dX2_addPoint_48 : decode cX2_addPoint 48 = .ok (.bipush (-4), 2) := by decide +kernel
theorem dX2_addPoint_50 : decode cX2_addPoint 50 = .ok (.invokevirtual 52, 3) := by decide +kernel
theorem dX2_addPoint_53 : decode cX2_addPoint 53 = .ok (.aload_n 0, 1) := by decide +kernel
theorem dX2_addPoint_54 : decode cX2_addPoint 54 = .ok (.dup, 1) := by decide +kernel
theorem dX2_addPoint_55 : decode cX2_addPoint 55 = .ok (.getfield 35, 3) := by decide +kernel
theorem dX2_addPoint_58 : decode cX2_addPoint 58 = .ok (.iconst 1, 1) := by decide +kernel
theorem dX2_addPoint_59 : decode cX2_addPoint 59 = .ok (.iadd, 1) := by decide +kernel
theorem dX2_addPoint_60 : decode cX2_addPoint 60 = .ok (.putfield 35, 3) := by decide +kernel
theorem dX2_addPoint_63 : decode cX2_addPoint 63 = .ok (.aload_n 0, 1) := by decide +kernel
theorem dX2_addPoint_64 : decode cX2_addPoint 64 = .ok (.getfield 35, 3) := by decide +kernel
theorem dX2_addPoint_67 : decode cX2_addPoint 67 = .ok (.iconst 1, 1) := by decide +kernel
theorem dX2_addPoint_68 : decode cX2_addPoint 68 = .ok (.isub, 1) := by decide +kernel
theorem dX2_addPoint_69 : decode cX2_addPoint 69 = .ok (.ireturn, 1) := by decide +kernel
set_option maxRecDepth 100000 in
set_option maxHeartbeats 4000000 in
theorem m_X2_addPoint (a1 : Int32) (S S' : SS) (r : Int32) (h : f_X2_addPoint a1 S = some (r, S')) : MT yX2_addPoint cX2_addPoint 2 (some .int) 1 23 (fun ad => [.ref (ad 5), .int a1]) S (some (.int r)) S' := by
  refine MT.of RX2 (fun ad => [(0, .ref (ad 5)), (1, .int a1)]) (by decide) rfl (fun _ => Nat.le_of_ble_eq_true rfl) (fun _ => rfl) ?_
  intro p l e R s m args below meth c dC dI cs ad A hR1 hR2 F H locs ls w hl
  have hx := F.1.1
  have hb := F.1.2.1
  rw [f_X2_addPoint] at h
  refine lv_aload_n (pc := 0) hx hb dX2_addPoint_0 rfl (lv_at hl 0 rfl) ?_
  refine s_getI (pc := 1) F w ds_5 (j := 8) vc_X2 vi_X2 rfl (by decide) kf_X2_35 dX2_addPoint_1 ?_
  refine lv_bipush (pc := 4) (v := 40) hx hb dX2_addPoint_4 (by decide) ?_
  refine lv_icmp_ge (pc := 6) (tgt := 16) hx hb dX2_addPoint_6 (by decide) (fun q => ?_) (fun q => ?_)
  · have h := ite_t q h
    refine lv_bipush (pc := 16) (v := -3) hx hb dX2_addPoint_16 (by decide) ?_
    exact s_iret F w h dX2_addPoint_18
  · have h := ite_f q h
    refine lv_iload_n (pc := 9) hx hb dX2_addPoint_9 rfl (lv_at hl 1 rfl) ?_
    obtain ⟨r2, S1, hc, h⟩ := bnd_t h
    refine s_csi (pc := 10) [.int a1] (fun ad => [.int a1]) F w (m_X2_isEnd _ _ _ _ hc) rfl rfl hl.1 ok_X2_isEnd rfl kc_X2_isEnd kl_X2_48 ks_X2_isEnd kn_X2 ⟨Nat.le_trans (by decide) hR1, Nat.le_trans (by decide) hR2⟩ ⟨Nat.zero_le _, Nat.zero_le _⟩ (Nat.le_of_ble_eq_true rfl) dX2_addPoint_10 (fun H locs w => ?_)
    refine lv_if_ne (pc := 13) (tgt := 19) hx hb dX2_addPoint_13 (by decide) (fun q => ?_) (fun q => ?_)
    · have h := ite_f q h
      refine lv_aload_n (pc := 19) hx hb dX2_addPoint_19 rfl (lv_at hl 0 rfl) ?_
      refine s_getR (pc := 20) F w 34 ds_5 (j := 2) vc_X2 vi_X2 rfl (by decide) kf_X2_15 dX2_addPoint_20 ?_
      refine lv_iload_n (pc := 23) hx hb dX2_addPoint_23 rfl (lv_at hl 1 rfl) ?_
      refine lv_aload_n (pc := 24) hx hb dX2_addPoint_24 rfl (lv_at hl 0 rfl) ?_
      refine s_getI (pc := 25) F w ds_5 (j := 8) vc_X2 vi_X2 rfl (by decide) kf_X2_35 dX2_addPoint_25 ?_
      refine s_iast (pc := 28) F w ds_34 h dX2_addPoint_28 (fun S3 H locs h w => ?_)
      refine lv_aload_n (pc := 29) hx hb dX2_addPoint_29 rfl (lv_at hl 0 rfl) ?_
      refine s_getR (pc := 30) F w 35 ds_5 (j := 3) vc_X2 vi_X2 rfl (by decide) kf_X2_18 dX2_addPoint_30 ?_
      refine lv_aload_n (pc := 33) hx hb dX2_addPoint_33 rfl (lv_at hl 0 rfl) ?_
      refine s_getI (pc := 34) F w ds_5 (j := 8) vc_X2 vi_X2 rfl (by decide) kf_X2_35 dX2_addPoint_34 ?_
      refine lv_iload_n (pc := 37) hx hb dX2_addPoint_37 rfl (lv_at hl 1 rfl) ?_
      refine s_iast (pc := 38) F w ds_35 h dX2_addPoint_38 (fun S4 H locs h w => ?_)
      refine lv_aload_n (pc := 39) hx hb dX2_addPoint_39 rfl (lv_at hl 0 rfl) ?_
      refine s_getR (pc := 40) F w 2 ds_5 (j := 0) vc_X2 vi_X2 rfl (by decide) kf_X2_38 dX2_addPoint_40 ?_
      refine lv_aload_n (pc := 43) hx hb dX2_addPoint_43 rfl (lv_at hl 0 rfl) ?_
      refine s_getI (pc := 44) F w ds_5 (j := 8) vc_X2 vi_X2 rfl (by decide) kf_X2_35 dX2_addPoint_44 ?_
      refine lv_iconst (pc := 47) (v := 0) hx hb dX2_addPoint_47 (by decide) ?_
      refine lv_bipush (pc := 48) (v := -4) hx hb dX2_addPoint_48 (by decide) ?_
      obtain ⟨S5, hc, h⟩ := bndv_t h
      refine s_cvv (pc := 50) [.int (S4.1 5 8), .int (0 : Int32), .int (-4 : Int32)] (fun ad => [.ref (ad 2), .int (S4.1 5 8), .int (0 : Int32), .int (-4 : Int32)]) F w (m_X8_setPoint _ _ _ _ _ hc) rfl rfl hl.1 ds_2 vc_X8 rfl ok_X8_setPoint rfl kc_X8_setPoint kl_X2_52 ki_X8_setPoint kv_X8_setPoint kn_X8 ⟨Nat.le_trans (by decide) hR1, Nat.le_trans (by decide) hR2⟩ ⟨Nat.zero_le _, Nat.zero_le _⟩ (Nat.le_of_ble_eq_true rfl) dX2_addPoint_50 (fun H locs w => ?_)
      refine lv_aload_n (pc := 53) hx hb dX2_addPoint_53 rfl (lv_at hl 0 rfl) ?_
      refine lv_dup (pc := 54) hx hb dX2_addPoint_54 rfl ?_
      refine s_getI (pc := 55) F w ds_5 (j := 8) vc_X2 vi_X2 rfl (by decide) kf_X2_35 dX2_addPoint_55 ?_
      refine lv_iconst (pc := 58) (v := 1) hx hb dX2_addPoint_58 (by decide) ?_
      refine lv_iadd (pc := 59) hx hb dX2_addPoint_59 ?_
      refine s_putI (pc := 60) F w ds_5 vc_X2 vi_X2 tyX2_ok nmX2 (j := 8) rfl (by decide) kf_X2_35 rfl pd_I h dX2_addPoint_60 (fun S6 H locs h w => ?_)
      refine lv_aload_n (pc := 63) hx hb dX2_addPoint_63 rfl (lv_at hl 0 rfl) ?_
      refine s_getI (pc := 64) F w ds_5 (j := 8) vc_X2 vi_X2 rfl (by decide) kf_X2_35 dX2_addPoint_64 ?_
      refine lv_iconst (pc := 67) (v := 1) hx hb dX2_addPoint_67 (by decide) ?_
      refine lv_isub (pc := 68) hx hb dX2_addPoint_68 ?_
      exact s_iret F w h dX2_addPoint_69
    · have h := ite_t q h
      refine lv_bipush (pc := 16) (v := -3) hx hb dX2_addPoint_16 (by decide) ?_
      exact s_iret F w h dX2_addPoint_18
def f_X2_pointAt (a1 : Int32) (S : SS) : Option (Int32 × SS) :=
  if a1 < 0 then
    some ((-4 : Int32), S)
  else
    if (48 : Int32) ≤ a1 then
      some ((-4 : Int32), S)
    else
      grd (inb a1 48) (
      some (S.1 34 a1.toNatClampNeg, S))
theorem dX2_pointAt_0 : decode cX2_pointAt 0 = .ok (.iload_n 1, 1) := by decide +kernel
theorem dX2_pointAt_1 : decode cX2_pointAt 1 = .ok (.ifCond .lt 18, 3) := by decide +kernel
theorem dX2_pointAt_4 : decode cX2_pointAt 4 = .ok (.iload_n 1, 1) := by decide +kernel
theorem dX2_pointAt_5 : decode cX2_pointAt 5 = .ok (.bipush 48, 2) := by decide +kernel
theorem dX2_pointAt_7 : decode cX2_pointAt 7 = .ok (.if_icmp .ge 12, 3) := by decide +kernel
theorem dX2_pointAt_10 : decode cX2_pointAt 10 = .ok (.aload_n 0, 1) := by decide +kernel
theorem dX2_pointAt_11 : decode cX2_pointAt 11 = .ok (.getfield 15, 3) := by decide +kernel
theorem dX2_pointAt_14 : decode cX2_pointAt 14 = .ok (.iload_n 1, 1) := by decide +kernel
theorem dX2_pointAt_15 : decode cX2_pointAt 15 = .ok (.iaload, 1) := by decide +kernel
theorem dX2_pointAt_16 : decode cX2_pointAt 16 = .ok (.goto 5, 3) := by decide +kernel
theorem dX2_pointAt_19 : decode cX2_pointAt 19 = .ok (.bipush (-4), 2) := by decide +kernel
theorem dX2_pointAt_21 : decode cX2_pointAt 21 = .ok (.ireturn, 1) := by decide +kernel
set_option maxRecDepth 100000 in
set_option maxHeartbeats 4000000 in
theorem m_X2_pointAt (a1 : Int32) (S S' : SS) (r : Int32) (h : f_X2_pointAt a1 S = some (r, S')) : MT yX2_pointAt cX2_pointAt 2 (some .int) 0 0 (fun ad => [.ref (ad 5), .int a1]) S (some (.int r)) S' := by
  refine MT.of RX2 (fun ad => [(0, .ref (ad 5)), (1, .int a1)]) (by decide) rfl (fun _ => Nat.le_of_ble_eq_true rfl) (fun _ => rfl) ?_
  intro p l e R s m args below meth c dC dI cs ad A hR1 hR2 F H locs ls w hl
  have hx := F.1.1
  have hb := F.1.2.1
  rw [f_X2_pointAt] at h
  refine lv_iload_n (pc := 0) hx hb dX2_pointAt_0 rfl (lv_at hl 1 rfl) ?_
  refine lv_if_lt (pc := 1) (tgt := 19) hx hb dX2_pointAt_1 (by decide) (fun q => ?_) (fun q => ?_)
  · have h := ite_t q h
    refine lv_bipush (pc := 19) (v := -4) hx hb dX2_pointAt_19 (by decide) ?_
    exact s_iret F w h dX2_pointAt_21
  · have h := ite_f q h
    refine lv_iload_n (pc := 4) hx hb dX2_pointAt_4 rfl (lv_at hl 1 rfl) ?_
    refine lv_bipush (pc := 5) (v := 48) hx hb dX2_pointAt_5 (by decide) ?_
    refine lv_icmp_ge (pc := 7) (tgt := 19) hx hb dX2_pointAt_7 (by decide) (fun q => ?_) (fun q => ?_)
    · have h := ite_t q h
      refine lv_bipush (pc := 19) (v := -4) hx hb dX2_pointAt_19 (by decide) ?_
      exact s_iret F w h dX2_pointAt_21
    · have h := ite_f q h
      refine lv_aload_n (pc := 10) hx hb dX2_pointAt_10 rfl (lv_at hl 0 rfl) ?_
      refine s_getR (pc := 11) F w 34 ds_5 (j := 2) vc_X2 vi_X2 rfl (by decide) kf_X2_15 dX2_pointAt_11 ?_
      refine lv_iload_n (pc := 14) hx hb dX2_pointAt_14 rfl (lv_at hl 1 rfl) ?_
      refine s_iald (pc := 15) F w ds_34 h dX2_pointAt_15 (fun h => ?_)
      refine lv_goto (pc := 16) (tgt := 21) hx hb dX2_pointAt_16 (by decide) ?_
      exact s_iret F w h dX2_pointAt_21
def f_X11_point_j66  (x1 : Int32) (x2 : Int32) (x3 : Int32) (S : SS) : Option (Int32 × SS) :=
    if x3 = 0 then
      bndv (f_X1_forget  S) (fun S6 =>
      bnd (f_X2_addPoint (((2 : Int32) * x1) + x2) S6) (fun r8 S7 =>
      some (r8, S7)))
    else
      bnd (f_X5_found x3 S) (fun r10 S9 =>
      some (r10, S9))
def f_X11_point (a1 : Int32) (a2 : Int32) (S : SS) : Option (Int32 × SS) :=
  bnd (f_X11_isNot a2 (0 : Int32) (1 : Int32) S) (fun r2 S1 =>
  if r2 = 0 then
    if (S1.1 5 8) < (40 : Int32) then
      bndv (f_X5_begin  S1) (fun S3 =>
      bnd (f_X2_trackFinding a1 S3) (fun r5 S4 =>
      if r5 = 0 then
        bnd (f_X2_pointAt (((2 : Int32) * a1) + a2) S4) (fun r12 S11 =>
        if r12 = (-4 : Int32) then
          f_X11_point_j66 a1 a2 r5 S11
        else
          f_X11_point_j66 a1 a2 (9 : Int32) S11)
      else
        f_X11_point_j66 a1 a2 r5 S4))
    else
      some ((-3 : Int32), S1)
  else
    some ((-1 : Int32), S1))
theorem dX11_point_0 : decode cX11_point 0 = .ok (.iload_n 2, 1) := by decide +kernel
theorem dX11_point_1 : decode cX11_point 1 = .ok (.iconst 0, 1) := by decide +kernel
theorem dX11_point_2 : decode cX11_point 2 = .ok (.iconst 1, 1) := by decide +kernel
theorem dX11_point_3 : decode cX11_point 3 = .ok (.invokestatic 108, 3) := by decide +kernel
theorem dX11_point_6 : decode cX11_point 6 = .ok (.ifCond .eq 5, 3) := by decide +kernel
theorem dX11_point_9 : decode cX11_point 9 = .ok (.iconst (-1), 1) := by decide +kernel
theorem dX11_point_10 : decode cX11_point 10 = .ok (.ireturn, 1) := by decide +kernel
theorem dX11_point_11 : decode cX11_point 11 = .ok (.aload_n 0, 1) := by decide +kernel
theorem dX11_point_12 : decode cX11_point 12 = .ok (.getfield 42, 3) := by decide +kernel
theorem dX11_point_15 : decode cX11_point 15 = .ok (.getfield 112, 3) := by decide +kernel
theorem dX11_point_18 : decode cX11_point 18 = .ok (.bipush 40, 2) := by decide +kernel
theorem dX11_point_20 : decode cX11_point 20 = .ok (.if_icmp .lt 6, 3) := by decide +kernel
theorem dX11_point_23 : decode cX11_point 23 = .ok (.bipush (-3), 2) := by decide +kernel
theorem dX11_point_25 : decode cX11_point 25 = .ok (.ireturn, 1) := by decide +kernel
theorem dX11_point_26 : decode cX11_point 26 = .ok (.aload_n 0, 1) := by decide +kernel
theorem dX11_point_27 : decode cX11_point 27 = .ok (.getfield 10, 3) := by decide +kernel
theorem dX11_point_30 : decode cX11_point 30 = .ok (.invokevirtual 95, 3) := by decide +kernel
theorem dX11_point_33 : decode cX11_point 33 = .ok (.aload_n 0, 1) := by decide +kernel
theorem dX11_point_34 : decode cX11_point 34 = .ok (.getfield 42, 3) := by decide +kernel
theorem dX11_point_37 : decode cX11_point 37 = .ok (.iload_n 1, 1) := by decide +kernel
theorem dX11_point_38 : decode cX11_point 38 = .ok (.invokevirtual 115, 3) := by decide +kernel
theorem dX11_point_41 : decode cX11_point 41 = .ok (.istore_n 3, 1) := by decide +kernel
theorem dX11_point_42 : decode cX11_point 42 = .ok (.iload_n 3, 1) := by decide +kernel
theorem dX11_point_43 : decode cX11_point 43 = .ok (.ifCond .ne 23, 3) := by decide +kernel
theorem dX11_point_46 : decode cX11_point 46 = .ok (.aload_n 0, 1) := by decide +kernel
theorem dX11_point_47 : decode cX11_point 47 = .ok (.getfield 42, 3) := by decide +kernel
theorem dX11_point_50 : decode cX11_point 50 = .ok (.iconst 2, 1) := by decide +kernel
theorem dX11_point_51 : decode cX11_point 51 = .ok (.iload_n 1, 1) := by decide +kernel
theorem dX11_point_52 : decode cX11_point 52 = .ok (.imul, 1) := by decide +kernel
theorem dX11_point_53 : decode cX11_point 53 = .ok (.iload_n 2, 1) := by decide +kernel
theorem dX11_point_54 : decode cX11_point 54 = .ok (.iadd, 1) := by decide +kernel
theorem dX11_point_55 : decode cX11_point 55 = .ok (.invokevirtual 118, 3) := by decide +kernel
theorem dX11_point_58 : decode cX11_point 58 = .ok (.bipush (-4), 2) := by decide +kernel
theorem dX11_point_60 : decode cX11_point 60 = .ok (.if_icmp .eq 6, 3) := by decide +kernel
theorem dX11_point_63 : decode cX11_point 63 = .ok (.bipush 9, 2) := by decide +kernel
theorem dX11_point_65 : decode cX11_point 65 = .ok (.istore_n 3, 1) := by decide +kernel
theorem dX11_point_66 : decode cX11_point 66 = .ok (.iload_n 3, 1) := by decide +kernel
theorem dX11_point_67 : decode cX11_point 67 = .ok (.ifCond .eq 12, 3) := by decide +kernel
theorem dX11_point_70 : decode cX11_point 70 = .ok (.aload_n 0, 1) := by decide +kernel
theorem dX11_point_71 : decode cX11_point 71 = .ok (.getfield 10, 3) := by decide +kernel
theorem dX11_point_74 : decode cX11_point 74 = .ok (.iload_n 3, 1) := by decide +kernel
theorem dX11_point_75 : decode cX11_point 75 = .ok (.invokevirtual 98, 3) := by decide +kernel
theorem dX11_point_78 : decode cX11_point 78 = .ok (.ireturn, 1) := by decide +kernel
theorem dX11_point_79 : decode cX11_point 79 = .ok (.aload_n 0, 1) := by decide +kernel
theorem dX11_point_80 : decode cX11_point 80 = .ok (.getfield 26, 3) := by decide +kernel
theorem dX11_point_83 : decode cX11_point 83 = .ok (.invokevirtual 102, 3) := by decide +kernel
theorem dX11_point_86 : decode cX11_point 86 = .ok (.aload_n 0, 1) := by decide +kernel
theorem dX11_point_87 : decode cX11_point 87 = .ok (.getfield 42, 3) := by decide +kernel
theorem dX11_point_90 : decode cX11_point 90 = .ok (.iconst 2, 1) := by decide +kernel
theorem dX11_point_91 : decode cX11_point 91 = .ok (.iload_n 1, 1) := by decide +kernel
theorem dX11_point_92 : decode cX11_point 92 = .ok (.imul, 1) := by decide +kernel
theorem dX11_point_93 : decode cX11_point 93 = .ok (.iload_n 2, 1) := by decide +kernel
theorem dX11_point_94 : decode cX11_point 94 = .ok (.iadd, 1) := by decide +kernel
theorem dX11_point_95 : decode cX11_point 95 = .ok (.invokevirtual 121, 3) := by decide +kernel
theorem dX11_point_98 : decode cX11_point 98 = .ok (.ireturn, 1) := by decide +kernel
set_option maxRecDepth 100000 in
set_option maxHeartbeats 4000000 in
theorem w_X11_point_j66 {p : Program} {l : Launch} {e : Env} {R : Room} {s : State} {m : MethodId} {args : Array Value} {below : List Frame} {meth : Method} {c : Code} {dC : Nat → ClassId} {dI : Nat → Nat → Nat} {cs : Nat → ClassId} {ad : Nat → Nat} {A : Nat → Prop} {D0 : Nat → Nat} {S' : SS} {r : Int32} (F : Fx p s m args meth c cX11_point 4 RX11 (some .int) dC dI cs A) (hR1 : 2 ≤ R.frames) (hR2 : 44 ≤ R.locals) (x1 : Int32) (x2 : Int32) (x3 : Int32) (S : SS) (h : f_X11_point_j66 x1 x2 x3 S = some (r, S')) : AW p l e R s m args below meth c dC dI cs ad A D0 (some (.int r)) S' 4 66 [(0, .ref (ad 0)), (1, .int x1), (2, .int x2), (3, .int x3)] [] S := by
  have hx := F.1.1
  have hb := F.1.2.1
  intro H locs ls w hl
  rw [f_X11_point_j66] at h
  refine lv_iload_n (pc := 66) hx hb dX11_point_66 rfl (lv_at hl 3 rfl) ?_
  refine lv_if_eq (pc := 67) (tgt := 79) hx hb dX11_point_67 (by decide) (fun q => ?_) (fun q => ?_)
  · have h := ite_t q h
    refine lv_aload_n (pc := 79) hx hb dX11_point_79 rfl (lv_at hl 0 rfl) ?_
    refine s_getR (pc := 80) F w 3 ds_0 (j := 2) vc_X11 vi_X11 rfl (by decide) kf_X11_26 dX11_point_80 ?_
    obtain ⟨S6, hc, h⟩ := bndv_t h
    refine s_cvv (pc := 83) [] (fun ad => [.ref (ad 3)]) F w (m_X1_forget  _ _ hc) rfl rfl hl.1 ds_3 vc_X1 rfl ok_X1_forget rfl kc_X1_forget kl_X11_102 ki_X1_forget kv_X1_forget kn_X1 ⟨Nat.le_trans (by decide) hR1, Nat.le_trans (by decide) hR2⟩ ⟨Nat.zero_le _, Nat.zero_le _⟩ (Nat.le_of_ble_eq_true rfl) dX11_point_83 (fun H locs w => ?_)
    refine lv_aload_n (pc := 86) hx hb dX11_point_86 rfl (lv_at hl 0 rfl) ?_
    refine s_getR (pc := 87) F w 5 ds_0 (j := 4) vc_X11 vi_X11 rfl (by decide) kf_X11_42 dX11_point_87 ?_
    refine lv_iconst (pc := 90) (v := 2) hx hb dX11_point_90 (by decide) ?_
    refine lv_iload_n (pc := 91) hx hb dX11_point_91 rfl (lv_at hl 1 rfl) ?_
    refine lv_imul (pc := 92) hx hb dX11_point_92 ?_
    refine lv_iload_n (pc := 93) hx hb dX11_point_93 rfl (lv_at hl 2 rfl) ?_
    refine lv_iadd (pc := 94) hx hb dX11_point_94 ?_
    obtain ⟨r8, S7, hc, h⟩ := bnd_t h
    refine s_cvi (pc := 95) [.int (((2 : Int32) * x1) + x2)] (fun ad => [.ref (ad 5), .int (((2 : Int32) * x1) + x2)]) F w (m_X2_addPoint _ _ _ _ hc) rfl rfl hl.1 ds_5 vc_X2 rfl ok_X2_addPoint rfl kc_X2_addPoint kl_X11_121 ki_X2_addPoint kv_X2_addPoint kn_X2 ⟨Nat.le_trans (by decide) hR1, Nat.le_trans (by decide) hR2⟩ ⟨Nat.zero_le _, Nat.zero_le _⟩ (Nat.le_of_ble_eq_true rfl) dX11_point_95 (fun H locs w => ?_)
    exact s_iret F w h dX11_point_98
  · have h := ite_f q h
    refine lv_aload_n (pc := 70) hx hb dX11_point_70 rfl (lv_at hl 0 rfl) ?_
    refine s_getR (pc := 71) F w 1 ds_0 (j := 0) vc_X11 vi_X11 rfl (by decide) kf_X11_10 dX11_point_71 ?_
    refine lv_iload_n (pc := 74) hx hb dX11_point_74 rfl (lv_at hl 3 rfl) ?_
    obtain ⟨r10, S9, hc, h⟩ := bnd_t h
    refine s_cvi (pc := 75) [.int x3] (fun ad => [.ref (ad 1), .int x3]) F w (m_X5_found _ _ _ _ hc) rfl rfl hl.1 ds_1 vc_X5 rfl ok_X5_found rfl kc_X5_found kl_X11_98 ki_X5_found kv_X5_found kn_X5 ⟨Nat.le_trans (by decide) hR1, Nat.le_trans (by decide) hR2⟩ ⟨Nat.zero_le _, Nat.zero_le _⟩ (Nat.le_of_ble_eq_true rfl) dX11_point_75 (fun H locs w => ?_)
    exact s_iret F w h dX11_point_78
set_option maxRecDepth 100000 in
set_option maxHeartbeats 4000000 in
theorem m_X11_point (a1 : Int32) (a2 : Int32) (S S' : SS) (r : Int32) (h : f_X11_point a1 a2 S = some (r, S')) : MT yX11_point cX11_point 4 (some .int) 2 44 (fun ad => [.ref (ad 0), .int a1, .int a2]) S (some (.int r)) S' := by
  refine MT.of RX11 (fun ad => [(0, .ref (ad 0)), (1, .int a1), (2, .int a2)]) (by decide) rfl (fun _ => Nat.le_of_ble_eq_true rfl) (fun _ => rfl) ?_
  intro p l e R s m args below meth c dC dI cs ad A hR1 hR2 F H locs ls w hl
  have hx := F.1.1
  have hb := F.1.2.1
  rw [f_X11_point] at h
  refine lv_iload_n (pc := 0) hx hb dX11_point_0 rfl (lv_at hl 2 rfl) ?_
  refine lv_iconst (pc := 1) (v := 0) hx hb dX11_point_1 (by decide) ?_
  refine lv_iconst (pc := 2) (v := 1) hx hb dX11_point_2 (by decide) ?_
  obtain ⟨r2, S1, hc, h⟩ := bnd_t h
  refine s_csi (pc := 3) [.int a2, .int (0 : Int32), .int (1 : Int32)] (fun ad => [.int a2, .int (0 : Int32), .int (1 : Int32)]) F w (m_X11_isNot _ _ _ _ _ _ hc) rfl rfl hl.1 ok_X11_isNot rfl kc_X11_isNot kl_X11_108 ks_X11_isNot kn_X11 ⟨Nat.le_trans (by decide) hR1, Nat.le_trans (by decide) hR2⟩ ⟨Nat.zero_le _, Nat.zero_le _⟩ (Nat.le_of_ble_eq_true rfl) dX11_point_3 (fun H locs w => ?_)
  refine lv_if_eq (pc := 6) (tgt := 11) hx hb dX11_point_6 (by decide) (fun q => ?_) (fun q => ?_)
  · have h := ite_t q h
    refine lv_aload_n (pc := 11) hx hb dX11_point_11 rfl (lv_at hl 0 rfl) ?_
    refine s_getR (pc := 12) F w 5 ds_0 (j := 4) vc_X11 vi_X11 rfl (by decide) kf_X11_42 dX11_point_12 ?_
    refine s_getI (pc := 15) F w ds_5 (j := 8) vc_X2 vi_X2 rfl (by decide) kf_X11_112 dX11_point_15 ?_
    refine lv_bipush (pc := 18) (v := 40) hx hb dX11_point_18 (by decide) ?_
    refine lv_icmp_lt (pc := 20) (tgt := 26) hx hb dX11_point_20 (by decide) (fun q => ?_) (fun q => ?_)
    · have h := ite_t q h
      refine lv_aload_n (pc := 26) hx hb dX11_point_26 rfl (lv_at hl 0 rfl) ?_
      refine s_getR (pc := 27) F w 1 ds_0 (j := 0) vc_X11 vi_X11 rfl (by decide) kf_X11_10 dX11_point_27 ?_
      obtain ⟨S3, hc, h⟩ := bndv_t h
      refine s_cvv (pc := 30) [] (fun ad => [.ref (ad 1)]) F w (m_X5_begin  _ _ hc) rfl rfl hl.1 ds_1 vc_X5 rfl ok_X5_begin rfl kc_X5_begin kl_X11_95 ki_X5_begin kv_X5_begin kn_X5 ⟨Nat.le_trans (by decide) hR1, Nat.le_trans (by decide) hR2⟩ ⟨Nat.zero_le _, Nat.zero_le _⟩ (Nat.le_of_ble_eq_true rfl) dX11_point_30 (fun H locs w => ?_)
      refine lv_aload_n (pc := 33) hx hb dX11_point_33 rfl (lv_at hl 0 rfl) ?_
      refine s_getR (pc := 34) F w 5 ds_0 (j := 4) vc_X11 vi_X11 rfl (by decide) kf_X11_42 dX11_point_34 ?_
      refine lv_iload_n (pc := 37) hx hb dX11_point_37 rfl (lv_at hl 1 rfl) ?_
      obtain ⟨r5, S4, hc, h⟩ := bnd_t h
      refine s_cvi (pc := 38) [.int a1] (fun ad => [.ref (ad 5), .int a1]) F w (m_X2_trackFinding _ _ _ _ hc) rfl rfl hl.1 ds_5 vc_X2 rfl ok_X2_trackFinding rfl kc_X2_trackFinding kl_X11_115 ki_X2_trackFinding kv_X2_trackFinding kn_X2 ⟨Nat.le_trans (by decide) hR1, Nat.le_trans (by decide) hR2⟩ ⟨Nat.zero_le _, Nat.zero_le _⟩ (Nat.le_of_ble_eq_true rfl) dX11_point_38 (fun H locs w => ?_)
      refine lv_istore_n (pc := 41) (lv' := [(3, .int r5), (0, .ref (ad 0)), (1, .int a1), (2, .int a2)]) hx hb dX11_point_41 rfl hl (by decide) rfl (fun ls hl => ?_)
      refine lv_iload_n (pc := 42) hx hb dX11_point_42 rfl (lv_at hl 0 rfl) ?_
      refine lv_if_ne (pc := 43) (tgt := 66) hx hb dX11_point_43 (by decide) (fun q => ?_) (fun q => ?_)
      · have h := ite_f q h
        exact w_X11_point_j66 F (Nat.le_trans (by decide) hR1) (Nat.le_trans (by decide) hR2) _ _ _ _ h _ _ _ w (lv_sub hl [1, 2, 3, 0] rfl)
      · have h := ite_t q h
        refine lv_aload_n (pc := 46) hx hb dX11_point_46 rfl (lv_at hl 1 rfl) ?_
        refine s_getR (pc := 47) F w 5 ds_0 (j := 4) vc_X11 vi_X11 rfl (by decide) kf_X11_42 dX11_point_47 ?_
        refine lv_iconst (pc := 50) (v := 2) hx hb dX11_point_50 (by decide) ?_
        refine lv_iload_n (pc := 51) hx hb dX11_point_51 rfl (lv_at hl 2 rfl) ?_
        refine lv_imul (pc := 52) hx hb dX11_point_52 ?_
        refine lv_iload_n (pc := 53) hx hb dX11_point_53 rfl (lv_at hl 3 rfl) ?_
        refine lv_iadd (pc := 54) hx hb dX11_point_54 ?_
        obtain ⟨r12, S11, hc, h⟩ := bnd_t h
        refine s_cvi (pc := 55) [.int (((2 : Int32) * a1) + a2)] (fun ad => [.ref (ad 5), .int (((2 : Int32) * a1) + a2)]) F w (m_X2_pointAt _ _ _ _ hc) rfl rfl hl.1 ds_5 vc_X2 rfl ok_X2_pointAt rfl kc_X2_pointAt kl_X11_118 ki_X2_pointAt kv_X2_pointAt kn_X2 ⟨Nat.le_trans (by decide) hR1, Nat.le_trans (by decide) hR2⟩ ⟨Nat.zero_le _, Nat.zero_le _⟩ (Nat.le_of_ble_eq_true rfl) dX11_point_55 (fun H locs w => ?_)
        refine lv_bipush (pc := 58) (v := -4) hx hb dX11_point_58 (by decide) ?_
        refine lv_icmp_eq (pc := 60) (tgt := 66) hx hb dX11_point_60 (by decide) (fun q => ?_) (fun q => ?_)
        · have h := ite_t q h
          exact w_X11_point_j66 F (Nat.le_trans (by decide) hR1) (Nat.le_trans (by decide) hR2) _ _ _ _ h _ _ _ w (lv_sub hl [1, 2, 3, 0] rfl)
        · have h := ite_f q h
          refine lv_bipush (pc := 63) (v := 9) hx hb dX11_point_63 (by decide) ?_
          refine lv_istore_n (pc := 65) (lv' := [(3, .int (9 : Int32)), (0, .ref (ad 0)), (1, .int a1), (2, .int a2)]) hx hb dX11_point_65 rfl hl (by decide) rfl (fun ls hl => ?_)
          exact w_X11_point_j66 F (Nat.le_trans (by decide) hR1) (Nat.le_trans (by decide) hR2) _ _ _ _ h _ _ _ w (lv_sub hl [1, 2, 3, 0] rfl)
    · have h := ite_f q h
      refine lv_bipush (pc := 23) (v := -3) hx hb dX11_point_23 (by decide) ?_
      exact s_iret F w h dX11_point_25
  · have h := ite_f q h
    refine lv_iconst (pc := 9) (v := -1) hx hb dX11_point_9 (by decide) ?_
    exact s_iret F w h dX11_point_10
def f_X12_isSide (a0 : Int32) (S : SS) : Option (Int32 × SS) :=
  if a0 = 0 then
    some ((1 : Int32), S)
  else
    if a0 = (1 : Int32) then
      some ((1 : Int32), S)
    else
      some ((0 : Int32), S)
theorem dX12_isSide_0 : decode cX12_isSide 0 = .ok (.iload_n 0, 1) := by decide +kernel
theorem dX12_isSide_1 : decode cX12_isSide 1 = .ok (.ifCond .eq 8, 3) := by decide +kernel
theorem dX12_isSide_4 : decode cX12_isSide 4 = .ok (.iload_n 0, 1) := by decide +kernel
theorem dX12_isSide_5 : decode cX12_isSide 5 = .ok (.iconst 1, 1) := by decide +kernel
theorem dX12_isSide_6 : decode cX12_isSide 6 = .ok (.if_icmp .ne 7, 3) := by decide +kernel
theorem dX12_isSide_9 : decode cX12_isSide 9 = .ok (.iconst 1, 1) := by decide +kernel
theorem dX12_isSide_10 : decode cX12_isSide 10 = .ok (.goto 4, 3) := by decide +kernel
theorem dX12_isSide_13 : decode cX12_isSide 13 = .ok (.iconst 0, 1) := by decide +kernel
theorem dX12_isSide_14 : decode cX12_isSide 14 = .ok (.ireturn, 1) := by decide +kernel
set_option maxRecDepth 100000 in
set_option maxHeartbeats 4000000 in
theorem m_X12_isSide (a0 : Int32) (S S' : SS) (r : Int32) (h : f_X12_isSide a0 S = some (r, S')) : MT yX12_isSide cX12_isSide 1 (some .boolean) 0 0 (fun ad => [.int a0]) S (some (.int r)) S' := by
  refine MT.of RX12 (fun ad => [(0, .int a0)]) (by decide) rfl (fun _ => Nat.le_of_ble_eq_true rfl) (fun _ => rfl) ?_
  intro p l e R s m args below meth c dC dI cs ad A hR1 hR2 F H locs ls w hl
  have hx := F.1.1
  have hb := F.1.2.1
  rw [f_X12_isSide] at h
  refine lv_iload_n (pc := 0) hx hb dX12_isSide_0 rfl (lv_at hl 0 rfl) ?_
  refine lv_if_eq (pc := 1) (tgt := 9) hx hb dX12_isSide_1 (by decide) (fun q => ?_) (fun q => ?_)
  · have h := ite_t q h
    refine lv_iconst (pc := 9) (v := 1) hx hb dX12_isSide_9 (by decide) ?_
    refine lv_goto (pc := 10) (tgt := 14) hx hb dX12_isSide_10 (by decide) ?_
    exact s_zretc F w rfl h dX12_isSide_14
  · have h := ite_f q h
    refine lv_iload_n (pc := 4) hx hb dX12_isSide_4 rfl (lv_at hl 0 rfl) ?_
    refine lv_iconst (pc := 5) (v := 1) hx hb dX12_isSide_5 (by decide) ?_
    refine lv_icmp_ne (pc := 6) (tgt := 13) hx hb dX12_isSide_6 (by decide) (fun q => ?_) (fun q => ?_)
    · have h := ite_f q h
      refine lv_iconst (pc := 13) (v := 0) hx hb dX12_isSide_13 (by decide) ?_
      exact s_zretc F w rfl h dX12_isSide_14
    · have h := ite_t q h
      refine lv_iconst (pc := 9) (v := 1) hx hb dX12_isSide_9 (by decide) ?_
      refine lv_goto (pc := 10) (tgt := 14) hx hb dX12_isSide_10 (by decide) ?_
      exact s_zretc F w rfl h dX12_isSide_14
def f_X12_missTrack (a1 : Int32) (S : SS) : Option (Int32 × SS) :=
  if a1 < 0 then
    some ((3 : Int32), S)
  else
    if a1 < (24 : Int32) then
      if a1 < (S.1 14 7) then
        some ((0 : Int32), S)
      else
        some ((1 : Int32), S)
    else
      some ((3 : Int32), S)
theorem dX12_missTrack_0 : decode cX12_missTrack 0 = .ok (.iload_n 1, 1) := by decide +kernel
theorem dX12_missTrack_1 : decode cX12_missTrack 1 = .ok (.ifCond .lt 9, 3) := by decide +kernel
theorem dX12_missTrack_4 : decode cX12_missTrack 4 = .ok (.iload_n 1, 1) := by decide +kernel
theorem dX12_missTrack_5 : decode cX12_missTrack 5 = .ok (.bipush 24, 2) := by decide +kernel
theorem dX12_missTrack_7 : decode cX12_missTrack 7 = .ok (.if_icmp .lt 7, 3) := by decide +kernel
theorem dX12_missTrack_10 : decode cX12_missTrack 10 = .ok (.iconst 3, 1) := by decide +kernel
theorem dX12_missTrack_11 : decode cX12_missTrack 11 = .ok (.goto 16, 3) := by decide +kernel
theorem dX12_missTrack_14 : decode cX12_missTrack 14 = .ok (.iload_n 1, 1) := by decide +kernel
theorem dX12_missTrack_15 : decode cX12_missTrack 15 = .ok (.aload_n 0, 1) := by decide +kernel
theorem dX12_missTrack_16 : decode cX12_missTrack 16 = .ok (.getfield 214, 3) := by decide +kernel
theorem dX12_missTrack_19 : decode cX12_missTrack 19 = .ok (.if_icmp .lt 7, 3) := by decide +kernel
theorem dX12_missTrack_22 : decode cX12_missTrack 22 = .ok (.iconst 1, 1) := by decide +kernel
theorem dX12_missTrack_23 : decode cX12_missTrack 23 = .ok (.goto 4, 3) := by decide +kernel
theorem dX12_missTrack_26 : decode cX12_missTrack 26 = .ok (.iconst 0, 1) := by decide +kernel
theorem dX12_missTrack_27 : decode cX12_missTrack 27 = .ok (.ireturn, 1) := by decide +kernel
set_option maxRecDepth 100000 in
set_option maxHeartbeats 4000000 in
theorem m_X12_missTrack (a1 : Int32) (S S' : SS) (r : Int32) (h : f_X12_missTrack a1 S = some (r, S')) : MT yX12_missTrack cX12_missTrack 2 (some .int) 0 0 (fun ad => [.ref (ad 14), .int a1]) S (some (.int r)) S' := by
  refine MT.of RX12 (fun ad => [(0, .ref (ad 14)), (1, .int a1)]) (by decide) rfl (fun _ => Nat.le_of_ble_eq_true rfl) (fun _ => rfl) ?_
  intro p l e R s m args below meth c dC dI cs ad A hR1 hR2 F H locs ls w hl
  have hx := F.1.1
  have hb := F.1.2.1
  rw [f_X12_missTrack] at h
  refine lv_iload_n (pc := 0) hx hb dX12_missTrack_0 rfl (lv_at hl 1 rfl) ?_
  refine lv_if_lt (pc := 1) (tgt := 10) hx hb dX12_missTrack_1 (by decide) (fun q => ?_) (fun q => ?_)
  · have h := ite_t q h
    refine lv_iconst (pc := 10) (v := 3) hx hb dX12_missTrack_10 (by decide) ?_
    refine lv_goto (pc := 11) (tgt := 27) hx hb dX12_missTrack_11 (by decide) ?_
    exact s_iret F w h dX12_missTrack_27
  · have h := ite_f q h
    refine lv_iload_n (pc := 4) hx hb dX12_missTrack_4 rfl (lv_at hl 1 rfl) ?_
    refine lv_bipush (pc := 5) (v := 24) hx hb dX12_missTrack_5 (by decide) ?_
    refine lv_icmp_lt (pc := 7) (tgt := 14) hx hb dX12_missTrack_7 (by decide) (fun q => ?_) (fun q => ?_)
    · have h := ite_t q h
      refine lv_iload_n (pc := 14) hx hb dX12_missTrack_14 rfl (lv_at hl 1 rfl) ?_
      refine lv_aload_n (pc := 15) hx hb dX12_missTrack_15 rfl (lv_at hl 0 rfl) ?_
      refine s_getI (pc := 16) F w ds_14 (j := 7) vc_X12 vi_X12 rfl (by decide) kf_X12_214 dX12_missTrack_16 ?_
      refine lv_icmp_lt (pc := 19) (tgt := 26) hx hb dX12_missTrack_19 (by decide) (fun q => ?_) (fun q => ?_)
      · have h := ite_t q h
        refine lv_iconst (pc := 26) (v := 0) hx hb dX12_missTrack_26 (by decide) ?_
        exact s_iret F w h dX12_missTrack_27
      · have h := ite_f q h
        refine lv_iconst (pc := 22) (v := 1) hx hb dX12_missTrack_22 (by decide) ?_
        refine lv_goto (pc := 23) (tgt := 27) hx hb dX12_missTrack_23 (by decide) ?_
        exact s_iret F w h dX12_missTrack_27
    · have h := ite_f q h
      refine lv_iconst (pc := 10) (v := 3) hx hb dX12_missTrack_10 (by decide) ?_
      refine lv_goto (pc := 11) (tgt := 27) hx hb dX12_missTrack_11 (by decide) ?_
      exact s_iret F w h dX12_missTrack_27
def f_X12_ends_j10  (x1 : Int32) (S : SS) : Option (Int32 × SS) :=
    if x1 = 0 then
      some ((0 : Int32), S)
    else
      some ((1 : Int32), S)
def f_X12_ends (a1 : Int32) (S : SS) : Option (Int32 × SS) :=
  if a1 = 0 then
    f_X12_ends_j10 a1 S
  else
    bnd (f_X12_found a1 S) (fun r2 S1 =>
    f_X12_ends_j10 a1 S1)
theorem dX12_ends_0 : decode cX12_ends 0 = .ok (.iload_n 1, 1) := by decide +kernel
theorem dX12_ends_1 : decode cX12_ends 1 = .ok (.ifCond .eq 9, 3) := by decide +kernel
theorem dX12_ends_4 : decode cX12_ends 4 = .ok (.aload_n 0, 1) := by decide +kernel
theorem dX12_ends_5 : decode cX12_ends 5 = .ok (.iload_n 1, 1) := by decide +kernel
theorem dX12_ends_6 : decode cX12_ends 6 = .ok (.invokevirtual 210, 3) := by decide +kernel
theorem dX12_ends_9 : decode cX12_ends 9 = .ok (.pop, 1) := by decide +kernel
theorem dX12_ends_10 : decode cX12_ends 10 = .ok (.iload_n 1, 1) := by decide +kernel
theorem dX12_ends_11 : decode cX12_ends 11 = .ok (.ifCond .eq 7, 3) := by decide +kernel
theorem dX12_ends_14 : decode cX12_ends 14 = .ok (.iconst 1, 1) := by decide +kernel
theorem dX12_ends_15 : decode cX12_ends 15 = .ok (.goto 4, 3) := by decide +kernel
theorem dX12_ends_18 : decode cX12_ends 18 = .ok (.iconst 0, 1) := by decide +kernel
theorem dX12_ends_19 : decode cX12_ends 19 = .ok (.ireturn, 1) := by decide +kernel
set_option maxRecDepth 100000 in
set_option maxHeartbeats 4000000 in
theorem w_X12_ends_j10 {p : Program} {l : Launch} {e : Env} {R : Room} {s : State} {m : MethodId} {args : Array Value} {below : List Frame} {meth : Method} {c : Code} {dC : Nat → ClassId} {dI : Nat → Nat → Nat} {cs : Nat → ClassId} {ad : Nat → Nat} {A : Nat → Prop} {D0 : Nat → Nat} {S' : SS} {r : Int32} (F : Fx p s m args meth c cX12_ends 2 RX12 (some .boolean) dC dI cs A) (hR1 : 0 ≤ R.frames) (hR2 : 0 ≤ R.locals) (x1 : Int32) (S : SS) (h : f_X12_ends_j10 x1 S = some (r, S')) : AW p l e R s m args below meth c dC dI cs ad A D0 (some (.int r)) S' 2 10 [(1, .int x1)] [] S := by
  have hx := F.1.1
  have hb := F.1.2.1
  intro H locs ls w hl
  rw [f_X12_ends_j10] at h
  refine lv_iload_n (pc := 10) hx hb dX12_ends_10 rfl (lv_at hl 0 rfl) ?_
  refine lv_if_eq (pc := 11) (tgt := 18) hx hb dX12_ends_11 (by decide) (fun q => ?_) (fun q => ?_)
  · have h := ite_t q h
    refine lv_iconst (pc := 18) (v := 0) hx hb dX12_ends_18 (by decide) ?_
    exact s_zretc F w rfl h dX12_ends_19
  · have h := ite_f q h
    refine lv_iconst (pc := 14) (v := 1) hx hb dX12_ends_14 (by decide) ?_
    refine lv_goto (pc := 15) (tgt := 19) hx hb dX12_ends_15 (by decide) ?_
    exact s_zretc F w rfl h dX12_ends_19
set_option maxRecDepth 100000 in
set_option maxHeartbeats 4000000 in
theorem m_X12_ends (a1 : Int32) (S S' : SS) (r : Int32) (h : f_X12_ends a1 S = some (r, S')) : MT yX12_ends cX12_ends 2 (some .boolean) 1 21 (fun ad => [.ref (ad 14), .int a1]) S (some (.int r)) S' := by
  refine MT.of RX12 (fun ad => [(0, .ref (ad 14)), (1, .int a1)]) (by decide) rfl (fun _ => Nat.le_of_ble_eq_true rfl) (fun _ => rfl) ?_
  intro p l e R s m args below meth c dC dI cs ad A hR1 hR2 F H locs ls w hl
  have hx := F.1.1
  have hb := F.1.2.1
  rw [f_X12_ends] at h
  refine lv_iload_n (pc := 0) hx hb dX12_ends_0 rfl (lv_at hl 1 rfl) ?_
  refine lv_if_eq (pc := 1) (tgt := 10) hx hb dX12_ends_1 (by decide) (fun q => ?_) (fun q => ?_)
  · have h := ite_t q h
    exact w_X12_ends_j10 F (Nat.le_trans (by decide) hR1) (Nat.le_trans (by decide) hR2) _ _ h _ _ _ w (lv_sub hl [1] rfl)
  · have h := ite_f q h
    refine lv_aload_n (pc := 4) hx hb dX12_ends_4 rfl (lv_at hl 0 rfl) ?_
    refine lv_iload_n (pc := 5) hx hb dX12_ends_5 rfl (lv_at hl 1 rfl) ?_
    obtain ⟨r2, S1, hc, h⟩ := bnd_t h
    refine s_cvi (pc := 6) [.int a1] (fun ad => [.ref (ad 14), .int a1]) F w (m_X12_found _ _ _ _ hc) rfl rfl hl.1 ds_14 vc_X12 rfl ok_X12_found rfl kc_X12_found kl_X12_210 ki_X12_found kv_X12_found kn_X12 ⟨Nat.le_trans (by decide) hR1, Nat.le_trans (by decide) hR2⟩ ⟨Nat.zero_le _, Nat.zero_le _⟩ (Nat.le_of_ble_eq_true rfl) dX12_ends_6 (fun H locs w => ?_)
    refine lv_pop (pc := 9) hx hb dX12_ends_9 rfl ?_
    exact w_X12_ends_j10 F (Nat.le_trans (by decide) hR1) (Nat.le_trans (by decide) hR2) _ _ h _ _ _ w (lv_sub hl [1] rfl)
def f_X12_point (a1 : Int32) (a2 : Int32) (S : SS) : Option (Int32 × SS) :=
  bnd (f_X12_isSide a2 S) (fun r2 S1 =>
  if r2 = 0 then
    some ((-1 : Int32), S1)
  else
    if (S1.1 14 15) = (40 : Int32) then
      some ((-3 : Int32), S1)
    else
      bndv (f_X12_begin  S1) (fun S3 =>
      bnd (f_X12_missTrack a1 S3) (fun r5 S4 =>
      bnd (f_X12_ends r5 S4) (fun r7 S6 =>
      if r7 = 0 then
        grd (inb (((2 : Int32) * a1) + a2) 48) (
        if (S6.1 72 (((2 : Int32) * a1) + a2).toNatClampNeg) = (-4 : Int32) then
          grd (inb (((2 : Int32) * a1) + a2) 48) (wr S6 72 (((2 : Int32) * a1) + a2).toNatClampNeg (S6.1 14 15) (fun S8 =>
          grd (inb (S8.1 14 15) 40) (wr S8 76 (S8.1 14 15).toNatClampNeg (((2 : Int32) * a1) + a2) (fun S9 =>
          grd (inb (S9.1 14 15) 40) (wr S9 77 (S9.1 14 15).toNatClampNeg (0 : Int32) (fun S10 =>
          grd (inb (S10.1 14 15) 40) (wr S10 78 (S10.1 14 15).toNatClampNeg (-4 : Int32) (fun S11 =>
          wr S11 14 15 ((S11.1 14 15) + (1 : Int32)) (fun S12 =>
          bndv (f_X12_forget  S12) (fun S13 =>
          some ((S13.1 14 15) - (1 : Int32), S13)))))))))))
        else
          bnd (f_X12_found (9 : Int32) S6) (fun r15 S14 =>
          some (r15, S14)))
      else
        some ((-2 : Int32), S6)))))
theorem dX12_point_0 : decode cX12_point 0 = .ok (.iload_n 2, 1) := by decide +kernel
theorem dX12_point_1 : decode cX12_point 1 = .ok (.invokestatic 232, 3) := by decide +kernel
theorem dX12_point_4 : decode cX12_point 4 = .ok (.ifCond .ne 5, 3) := by decide +kernel
theorem dX12_point_7 : decode cX12_point 7 = .ok (.iconst (-1), 1) := by decide +kernel
theorem dX12_point_8 : decode cX12_point 8 = .ok (.ireturn, 1) := by decide +kernel
theorem dX12_point_9 : decode cX12_point 9 = .ok (.aload_n 0, 1) := by decide +kernel
theorem dX12_point_10 : decode cX12_point 10 = .ok (.getfield 217, 3) := by decide +kernel
theorem dX12_point_13 : decode cX12_point 13 = .ok (.bipush 40, 2) := by decide +kernel
theorem dX12_point_15 : decode cX12_point 15 = .ok (.if_icmp .ne 6, 3) := by decide +kernel
theorem dX12_point_18 : decode cX12_point 18 = .ok (.bipush (-3), 2) := by decide +kernel
theorem dX12_point_20 : decode cX12_point 20 = .ok (.ireturn, 1) := by decide +kernel
theorem dX12_point_21 : decode cX12_point 21 = .ok (.aload_n 0, 1) := by decide +kernel
theorem dX12_point_22 : decode cX12_point 22 = .ok (.invokevirtual 226, 3) := by decide +kernel
theorem dX12_point_25 : decode cX12_point 25 = .ok (.aload_n 0, 1) := by decide +kernel
theorem dX12_point_26 : decode cX12_point 26 = .ok (.aload_n 0, 1) := by decide +kernel
theorem dX12_point_27 : decode cX12_point 27 = .ok (.iload_n 1, 1) := by decide +kernel
theorem dX12_point_28 : decode cX12_point 28 = .ok (.invokevirtual 223, 3) := by decide +kernel
theorem dX12_point_31 : decode cX12_point 31 = .ok (.invokevirtual 236, 3) := by decide +kernel
theorem dX12_point_34 : decode cX12_point 34 = .ok (.ifCond .eq 6, 3) := by decide +kernel
theorem dX12_point_37 : decode cX12_point 37 = .ok (.bipush (-2), 2) := by decide +kernel
theorem dX12_point_39 : decode cX12_point 39 = .ok (.ireturn, 1) := by decide +kernel
theorem dX12_point_40 : decode cX12_point 40 = .ok (.aload_n 0, 1) := by decide +kernel
theorem dX12_point_41 : decode cX12_point 41 = .ok (.getfield 30, 3) := by decide +kernel
theorem dX12_point_44 : decode cX12_point 44 = .ok (.iconst 2, 1) := by decide +kernel
theorem dX12_point_45 : decode cX12_point 45 = .ok (.iload_n 1, 1) := by decide +kernel
theorem dX12_point_46 : decode cX12_point 46 = .ok (.imul, 1) := by decide +kernel
theorem dX12_point_47 : decode cX12_point 47 = .ok (.iload_n 2, 1) := by decide +kernel
theorem dX12_point_48 : decode cX12_point 48 = .ok (.iadd, 1) := by decide +kernel
theorem dX12_point_49 : decode cX12_point 49 = .ok (.iaload, 1) := by decide +kernel
theorem dX12_point_50 : decode cX12_point 50 = .ok (.bipush (-4), 2) := by decide +kernel
theorem dX12_point_52 : decode cX12_point 52 = .ok (.if_icmp .eq 10, 3) := by decide +kernel
theorem dX12_point_55 : decode cX12_point 55 = .ok (.aload_n 0, 1) := by decide +kernel
theorem dX12_point_56 : decode cX12_point 56 = .ok (.bipush 9, 2) := by decide +kernel
theorem dX12_point_58 : decode cX12_point 58 = .ok (.invokevirtual 210, 3) := by decide +kernel
theorem dX12_point_61 : decode cX12_point 61 = .ok (.ireturn, 1) := by decide +kernel
theorem dX12_point_62 : decode cX12_point 62 = .ok (.aload_n 0, 1) := by decide +kernel
theorem dX12_point_63 : decode cX12_point 63 = .ok (.getfield 30, 3) := by decide +kernel
theorem dX12_point_66 : decode cX12_point 66 = .ok (.iconst 2, 1) := by decide +kernel
theorem dX12_point_67 : decode cX12_point 67 = .ok (.iload_n 1, 1) := by decide +kernel
theorem dX12_point_68 : decode cX12_point 68 = .ok (.imul, 1) := by decide +kernel
theorem dX12_point_69 : decode cX12_point 69 = .ok (.iload_n 2, 1) := by decide +kernel
theorem dX12_point_70 : decode cX12_point 70 = .ok (.iadd, 1) := by decide +kernel
theorem dX12_point_71 : decode cX12_point 71 = .ok (.aload_n 0, 1) := by decide +kernel
theorem dX12_point_72 : decode cX12_point 72 = .ok (.getfield 217, 3) := by decide +kernel
theorem dX12_point_75 : decode cX12_point 75 = .ok (.iastore, 1) := by decide +kernel
theorem dX12_point_76 : decode cX12_point 76 = .ok (.aload_n 0, 1) := by decide +kernel
theorem dX12_point_77 : decode cX12_point 77 = .ok (.getfield 42, 3) := by decide +kernel
theorem dX12_point_80 : decode cX12_point 80 = .ok (.aload_n 0, 1) := by decide +kernel
theorem dX12_point_81 : decode cX12_point 81 = .ok (.getfield 217, 3) := by decide +kernel
theorem dX12_point_84 : decode cX12_point 84 = .ok (.iconst 2, 1) := by decide +kernel
theorem dX12_point_85 : decode cX12_point 85 = .ok (.iload_n 1, 1) := by decide +kernel
theorem dX12_point_86 : decode cX12_point 86 = .ok (.imul, 1) := by decide +kernel
theorem dX12_point_87 : decode cX12_point 87 = .ok (.iload_n 2, 1) := by decide +kernel
theorem dX12_point_88 : decode cX12_point 88 = .ok (.iadd, 1) := by decide +kernel
theorem dX12_point_89 : decode cX12_point 89 = .ok (.iastore, 1) := by decide +kernel
theorem dX12_point_90 : decode cX12_point 90 = .ok (.aload_n 0, 1) := by decide +kernel
theorem dX12_point_91 : decode cX12_point 91 = .ok (.getfield 45, 3) := by decide +kernel
theorem dX12_point_94 : decode cX12_point 94 = .ok (.aload_n 0, 1) := by decide +kernel
theorem dX12_point_95 : decode cX12_point 95 = .ok (.getfield 217, 3) := by decide +kernel
theorem dX12_point_98 : decode cX12_point 98 = .ok (.iconst 0, 1) := by decide +kernel
theorem dX12_point_99 : decode cX12_point 99 = .ok (.iastore, 1) := by decide +kernel
theorem dX12_point_100 : decode cX12_point 100 = .ok (.aload_n 0, 1) := by decide +kernel
theorem dX12_point_101 : decode cX12_point 101 = .ok (.getfield 48, 3) := by decide +kernel
theorem dX12_point_104 : decode cX12_point 104 = .ok (.aload_n 0, 1) := by decide +kernel
theorem dX12_point_105 : decode cX12_point 105 = .ok (.getfield 217, 3) := by decide +kernel
theorem dX12_point_108 : decode cX12_point 108 = .ok (.bipush (-4), 2) := by decide +kernel
theorem dX12_point_110 : decode cX12_point 110 = .ok (.iastore, 1) := by decide +kernel
theorem dX12_point_111 : decode cX12_point 111 = .ok (.aload_n 0, 1) := by decide +kernel
theorem dX12_point_112 : decode cX12_point 112 = .ok (.dup, 1) := by decide +kernel
theorem dX12_point_113 : decode cX12_point 113 = .ok (.getfield 217, 3) := by decide +kernel
theorem dX12_point_116 : decode cX12_point 116 = .ok (.iconst 1, 1) := by decide +kernel
theorem dX12_point_117 : decode cX12_point 117 = .ok (.iadd, 1) := by decide +kernel
theorem dX12_point_118 : decode cX12_point 118 = .ok (.putfield 217, 3) := by decide +kernel
theorem dX12_point_121 : decode cX12_point 121 = .ok (.aload_n 0, 1) := by decide +kernel
theorem dX12_point_122 : decode cX12_point 122 = .ok (.invokevirtual 229, 3) := by decide +kernel
theorem dX12_point_125 : decode cX12_point 125 = .ok (.aload_n 0, 1) := by decide +kernel
theorem dX12_point_126 : decode cX12_point 126 = .ok (.getfield 217, 3) := by decide +kernel
theorem dX12_point_129 : decode cX12_point 129 = .ok (.iconst 1, 1) := by decide +kernel
theorem dX12_point_130 : decode cX12_point 130 = .ok (.isub, 1) := by decide +kernel
theorem dX12_point_131 : decode cX12_point 131 = .ok (.ireturn, 1) := by decide +kernel
set_option maxRecDepth 100000 in
set_option maxHeartbeats 4000000 in
theorem m_X12_point (a1 : Int32) (a2 : Int32) (S S' : SS) (r : Int32) (h : f_X12_point a1 a2 S = some (r, S')) : MT yX12_point cX12_point 3 (some .int) 2 42 (fun ad => [.ref (ad 14), .int a1, .int a2]) S (some (.int r)) S' := by
  refine MT.of RX12 (fun ad => [(0, .ref (ad 14)), (1, .int a1), (2, .int a2)]) (by decide) rfl (fun _ => Nat.le_of_ble_eq_true rfl) (fun _ => rfl) ?_
  intro p l e R s m args below meth c dC dI cs ad A hR1 hR2 F H locs ls w hl
  have hx := F.1.1
  have hb := F.1.2.1
  rw [f_X12_point] at h
  refine lv_iload_n (pc := 0) hx hb dX12_point_0 rfl (lv_at hl 2 rfl) ?_
  obtain ⟨r2, S1, hc, h⟩ := bnd_t h
  refine s_csi (pc := 1) [.int a2] (fun ad => [.int a2]) F w (m_X12_isSide _ _ _ _ hc) rfl rfl hl.1 ok_X12_isSide rfl kc_X12_isSide kl_X12_232 ks_X12_isSide kn_X12 ⟨Nat.le_trans (by decide) hR1, Nat.le_trans (by decide) hR2⟩ ⟨Nat.zero_le _, Nat.zero_le _⟩ (Nat.le_of_ble_eq_true rfl) dX12_point_1 (fun H locs w => ?_)
  refine lv_if_ne (pc := 4) (tgt := 9) hx hb dX12_point_4 (by decide) (fun q => ?_) (fun q => ?_)
  · have h := ite_f q h
    refine lv_aload_n (pc := 9) hx hb dX12_point_9 rfl (lv_at hl 0 rfl) ?_
    refine s_getI (pc := 10) F w ds_14 (j := 15) vc_X12 vi_X12 rfl (by decide) kf_X12_217 dX12_point_10 ?_
    refine lv_bipush (pc := 13) (v := 40) hx hb dX12_point_13 (by decide) ?_
    refine lv_icmp_ne (pc := 15) (tgt := 21) hx hb dX12_point_15 (by decide) (fun q => ?_) (fun q => ?_)
    · have h := ite_f q h
      refine lv_aload_n (pc := 21) hx hb dX12_point_21 rfl (lv_at hl 0 rfl) ?_
      obtain ⟨S3, hc, h⟩ := bndv_t h
      refine s_cvv (pc := 22) [] (fun ad => [.ref (ad 14)]) F w (m_X12_begin  _ _ hc) rfl rfl hl.1 ds_14 vc_X12 rfl ok_X12_begin rfl kc_X12_begin kl_X12_226 ki_X12_begin kv_X12_begin kn_X12 ⟨Nat.le_trans (by decide) hR1, Nat.le_trans (by decide) hR2⟩ ⟨Nat.zero_le _, Nat.zero_le _⟩ (Nat.le_of_ble_eq_true rfl) dX12_point_22 (fun H locs w => ?_)
      refine lv_aload_n (pc := 25) hx hb dX12_point_25 rfl (lv_at hl 0 rfl) ?_
      refine lv_aload_n (pc := 26) hx hb dX12_point_26 rfl (lv_at hl 0 rfl) ?_
      refine lv_iload_n (pc := 27) hx hb dX12_point_27 rfl (lv_at hl 1 rfl) ?_
      obtain ⟨r5, S4, hc, h⟩ := bnd_t h
      refine s_cvi (pc := 28) [.int a1] (fun ad => [.ref (ad 14), .int a1]) F w (m_X12_missTrack _ _ _ _ hc) rfl rfl hl.1 ds_14 vc_X12 rfl ok_X12_missTrack rfl kc_X12_missTrack kl_X12_223 ki_X12_missTrack kv_X12_missTrack kn_X12 ⟨Nat.le_trans (by decide) hR1, Nat.le_trans (by decide) hR2⟩ ⟨Nat.zero_le _, Nat.zero_le _⟩ (Nat.le_of_ble_eq_true rfl) dX12_point_28 (fun H locs w => ?_)
      obtain ⟨r7, S6, hc, h⟩ := bnd_t h
      refine s_cvi (pc := 31) [.int r5] (fun ad => [.ref (ad 14), .int r5]) F w (m_X12_ends _ _ _ _ hc) rfl rfl hl.1 ds_14 vc_X12 rfl ok_X12_ends rfl kc_X12_ends kl_X12_236 ki_X12_ends kv_X12_ends kn_X12 ⟨Nat.le_trans (by decide) hR1, Nat.le_trans (by decide) hR2⟩ ⟨Nat.zero_le _, Nat.zero_le _⟩ (Nat.le_of_ble_eq_true rfl) dX12_point_31 (fun H locs w => ?_)
      refine lv_if_eq (pc := 34) (tgt := 40) hx hb dX12_point_34 (by decide) (fun q => ?_) (fun q => ?_)
      · have h := ite_t q h
        refine lv_aload_n (pc := 40) hx hb dX12_point_40 rfl (lv_at hl 0 rfl) ?_
        refine s_getR (pc := 41) F w 72 ds_14 (j := 10) vc_X12 vi_X12 rfl (by decide) kf_X12_30 dX12_point_41 ?_
        refine lv_iconst (pc := 44) (v := 2) hx hb dX12_point_44 (by decide) ?_
        refine lv_iload_n (pc := 45) hx hb dX12_point_45 rfl (lv_at hl 1 rfl) ?_
        refine lv_imul (pc := 46) hx hb dX12_point_46 ?_
        refine lv_iload_n (pc := 47) hx hb dX12_point_47 rfl (lv_at hl 2 rfl) ?_
        refine lv_iadd (pc := 48) hx hb dX12_point_48 ?_
        refine s_iald (pc := 49) F w ds_72 h dX12_point_49 (fun h => ?_)
        refine lv_bipush (pc := 50) (v := -4) hx hb dX12_point_50 (by decide) ?_
        refine lv_icmp_eq (pc := 52) (tgt := 62) hx hb dX12_point_52 (by decide) (fun q => ?_) (fun q => ?_)
        · have h := ite_t q h
          refine lv_aload_n (pc := 62) hx hb dX12_point_62 rfl (lv_at hl 0 rfl) ?_
          refine s_getR (pc := 63) F w 72 ds_14 (j := 10) vc_X12 vi_X12 rfl (by decide) kf_X12_30 dX12_point_63 ?_
          refine lv_iconst (pc := 66) (v := 2) hx hb dX12_point_66 (by decide) ?_
          refine lv_iload_n (pc := 67) hx hb dX12_point_67 rfl (lv_at hl 1 rfl) ?_
          refine lv_imul (pc := 68) hx hb dX12_point_68 ?_
          refine lv_iload_n (pc := 69) hx hb dX12_point_69 rfl (lv_at hl 2 rfl) ?_
          refine lv_iadd (pc := 70) hx hb dX12_point_70 ?_
          refine lv_aload_n (pc := 71) hx hb dX12_point_71 rfl (lv_at hl 0 rfl) ?_
          refine s_getI (pc := 72) F w ds_14 (j := 15) vc_X12 vi_X12 rfl (by decide) kf_X12_217 dX12_point_72 ?_
          refine s_iast (pc := 75) F w ds_72 h dX12_point_75 (fun S8 H locs h w => ?_)
          refine lv_aload_n (pc := 76) hx hb dX12_point_76 rfl (lv_at hl 0 rfl) ?_
          refine s_getR (pc := 77) F w 76 ds_14 (j := 16) vc_X12 vi_X12 rfl (by decide) kf_X12_42 dX12_point_77 ?_
          refine lv_aload_n (pc := 80) hx hb dX12_point_80 rfl (lv_at hl 0 rfl) ?_
          refine s_getI (pc := 81) F w ds_14 (j := 15) vc_X12 vi_X12 rfl (by decide) kf_X12_217 dX12_point_81 ?_
          refine lv_iconst (pc := 84) (v := 2) hx hb dX12_point_84 (by decide) ?_
          refine lv_iload_n (pc := 85) hx hb dX12_point_85 rfl (lv_at hl 1 rfl) ?_
          refine lv_imul (pc := 86) hx hb dX12_point_86 ?_
          refine lv_iload_n (pc := 87) hx hb dX12_point_87 rfl (lv_at hl 2 rfl) ?_
          refine lv_iadd (pc := 88) hx hb dX12_point_88 ?_
          refine s_iast (pc := 89) F w ds_76 h dX12_point_89 (fun S9 H locs h w => ?_)
          refine lv_aload_n (pc := 90) hx hb dX12_point_90 rfl (lv_at hl 0 rfl) ?_
          refine s_getR (pc := 91) F w 77 ds_14 (j := 17) vc_X12 vi_X12 rfl (by decide) kf_X12_45 dX12_point_91 ?_
          refine lv_aload_n (pc := 94) hx hb dX12_point_94 rfl (lv_at hl 0 rfl) ?_
          refine s_getI (pc := 95) F w ds_14 (j := 15) vc_X12 vi_X12 rfl (by decide) kf_X12_217 dX12_point_95 ?_
          refine lv_iconst (pc := 98) (v := 0) hx hb dX12_point_98 (by decide) ?_
          refine s_iast (pc := 99) F w ds_77 h dX12_point_99 (fun S10 H locs h w => ?_)
          refine lv_aload_n (pc := 100) hx hb dX12_point_100 rfl (lv_at hl 0 rfl) ?_
          refine s_getR (pc := 101) F w 78 ds_14 (j := 18) vc_X12 vi_X12 rfl (by decide) kf_X12_48 dX12_point_101 ?_
          refine lv_aload_n (pc := 104) hx hb dX12_point_104 rfl (lv_at hl 0 rfl) ?_
          refine s_getI (pc := 105) F w ds_14 (j := 15) vc_X12 vi_X12 rfl (by decide) kf_X12_217 dX12_point_105 ?_
          refine lv_bipush (pc := 108) (v := -4) hx hb dX12_point_108 (by decide) ?_
          refine s_iast (pc := 110) F w ds_78 h dX12_point_110 (fun S11 H locs h w => ?_)
          refine lv_aload_n (pc := 111) hx hb dX12_point_111 rfl (lv_at hl 0 rfl) ?_
          refine lv_dup (pc := 112) hx hb dX12_point_112 rfl ?_
          refine s_getI (pc := 113) F w ds_14 (j := 15) vc_X12 vi_X12 rfl (by decide) kf_X12_217 dX12_point_113 ?_
          refine lv_iconst (pc := 116) (v := 1) hx hb dX12_point_116 (by decide) ?_
          refine lv_iadd (pc := 117) hx hb dX12_point_117 ?_
          refine s_putI (pc := 118) F w ds_14 vc_X12 vi_X12 tyX12_ok nmX12 (j := 15) rfl (by decide) kf_X12_217 rfl pd_I h dX12_point_118 (fun S12 H locs h w => ?_)
          refine lv_aload_n (pc := 121) hx hb dX12_point_121 rfl (lv_at hl 0 rfl) ?_
          obtain ⟨S13, hc, h⟩ := bndv_t h
          refine s_cvv (pc := 122) [] (fun ad => [.ref (ad 14)]) F w (m_X12_forget  _ _ hc) rfl rfl hl.1 ds_14 vc_X12 rfl ok_X12_forget rfl kc_X12_forget kl_X12_229 ki_X12_forget kv_X12_forget kn_X12 ⟨Nat.le_trans (by decide) hR1, Nat.le_trans (by decide) hR2⟩ ⟨Nat.zero_le _, Nat.zero_le _⟩ (Nat.le_of_ble_eq_true rfl) dX12_point_122 (fun H locs w => ?_)
          refine lv_aload_n (pc := 125) hx hb dX12_point_125 rfl (lv_at hl 0 rfl) ?_
          refine s_getI (pc := 126) F w ds_14 (j := 15) vc_X12 vi_X12 rfl (by decide) kf_X12_217 dX12_point_126 ?_
          refine lv_iconst (pc := 129) (v := 1) hx hb dX12_point_129 (by decide) ?_
          refine lv_isub (pc := 130) hx hb dX12_point_130 ?_
          exact s_iret F w h dX12_point_131
        · have h := ite_f q h
          refine lv_aload_n (pc := 55) hx hb dX12_point_55 rfl (lv_at hl 0 rfl) ?_
          refine lv_bipush (pc := 56) (v := 9) hx hb dX12_point_56 (by decide) ?_
          obtain ⟨r15, S14, hc, h⟩ := bnd_t h
          refine s_cvi (pc := 58) [.int (9 : Int32)] (fun ad => [.ref (ad 14), .int (9 : Int32)]) F w (m_X12_found _ _ _ _ hc) rfl rfl hl.1 ds_14 vc_X12 rfl ok_X12_found rfl kc_X12_found kl_X12_210 ki_X12_found kv_X12_found kn_X12 ⟨Nat.le_trans (by decide) hR1, Nat.le_trans (by decide) hR2⟩ ⟨Nat.zero_le _, Nat.zero_le _⟩ (Nat.le_of_ble_eq_true rfl) dX12_point_58 (fun H locs w => ?_)
          exact s_iret F w h dX12_point_61
      · have h := ite_f q h
        refine lv_bipush (pc := 37) (v := -2) hx hb dX12_point_37 (by decide) ?_
        exact s_iret F w h dX12_point_39
    · have h := ite_t q h
      refine lv_bipush (pc := 18) (v := -3) hx hb dX12_point_18 (by decide) ?_
      exact s_iret F w h dX12_point_20
  · have h := ite_t q h
    refine lv_iconst (pc := 7) (v := -1) hx hb dX12_point_7 (by decide) ?_
    exact s_iret F w h dX12_point_8
def f_X2_addLink (a1 : Int32) (a2 : Int32) (S : SS) : Option (SS) :=
  bnd (f_X2_isEnd a1 S) (fun r2 S1 =>
  if r2 = 0 then
    some S1
  else
    grd (inb a1 48) (
    if (3 : Int32) ≤ (S1.1 36 a1.toNatClampNeg) then
      some S1
    else
      grd (inb a1 48) (
      grd (inb (((3 : Int32) * a1) + (S1.1 36 a1.toNatClampNeg)) 144) (wr S1 37 (((3 : Int32) * a1) + (S1.1 36 a1.toNatClampNeg)).toNatClampNeg a2 (fun S3 =>
      grd (inb a1 48) (
      grd (inb a1 48) (wr S3 36 a1.toNatClampNeg ((S3.1 36 a1.toNatClampNeg) + (1 : Int32)) (fun S4 =>
      some S4))))))))
theorem dX2_addLink_0 : decode cX2_addLink 0 = .ok (.iload_n 1, 1) := by decide +kernel
theorem dX2_addLink_1 : decode cX2_addLink 1 = .ok (.invokestatic 48, 3) := by decide +kernel
theorem dX2_addLink_4 : decode cX2_addLink 4 = .ok (.ifCond .eq 39, 3) := by decide +kernel
theorem dX2_addLink_7 : decode cX2_addLink 7 = .ok (.aload_n 0, 1) := by decide +kernel
theorem dX2_addLink_8 : decode cX2_addLink 8 = .ok (.getfield 21, 3) := by decide +kernel
theorem dX2_addLink_11 : decode cX2_addLink 11 = .ok (.iload_n 1, 1) := by decide +kernel
theorem dX2_addLink_12 : decode cX2_addLink 12 = .ok (.iaload, 1) := by decide +kernel
theorem dX2_addLink_13 : decode cX2_addLink 13 = .ok (.iconst 3, 1) := by decide +kernel
theorem dX2_addLink_14 : decode cX2_addLink 14 = .ok (.if_icmp .ge 29, 3) := by decide +kernel
theorem dX2_addLink_17 : decode cX2_addLink 17 = .ok (.aload_n 0, 1) := by decide +kernel
theorem dX2_addLink_18 : decode cX2_addLink 18 = .ok (.getfield 24, 3) := by decide +kernel
theorem dX2_addLink_21 : decode cX2_addLink 21 = .ok (.iconst 3, 1) := by decide +kernel
theorem dX2_addLink_22 : decode cX2_addLink 22 = .ok (.iload_n 1, 1) := by decide +kernel
theorem dX2_addLink_23 : decode cX2_addLink 23 = .ok (.imul, 1) := by decide +kernel
theorem dX2_addLink_24 : decode cX2_addLink 24 = .ok (.aload_n 0, 1) := by decide +kernel
theorem dX2_addLink_25 : decode cX2_addLink 25 = .ok (.getfield 21, 3) := by decide +kernel
theorem dX2_addLink_28 : decode cX2_addLink 28 = .ok (.iload_n 1, 1) := by decide +kernel
theorem dX2_addLink_29 : decode cX2_addLink 29 = .ok (.iaload, 1) := by decide +kernel
theorem dX2_addLink_30 : decode cX2_addLink 30 = .ok (.iadd, 1) := by decide +kernel
theorem dX2_addLink_31 : decode cX2_addLink 31 = .ok (.iload_n 2, 1) := by decide +kernel
theorem dX2_addLink_32 : decode cX2_addLink 32 = .ok (.iastore, 1) := by decide +kernel
theorem dX2_addLink_33 : decode cX2_addLink 33 = .ok (.aload_n 0, 1) := by decide +kernel
theorem dX2_addLink_34 : decode cX2_addLink 34 = .ok (.getfield 21, 3) := by decide +kernel
theorem dX2_addLink_37 : decode cX2_addLink 37 = .ok (.iload_n 1, 1) := by decide +kernel
theorem dX2_addLink_38 : decode cX2_addLink 38 = .ok (.dup2, 1) := by decide +kernel
theorem dX2_addLink_39 : decode cX2_addLink 39 = .ok (.iaload, 1) := by decide +kernel
theorem dX2_addLink_40 : decode cX2_addLink 40 = .ok (.iconst 1, 1) := by decide +kernel
theorem dX2_addLink_41 : decode cX2_addLink 41 = .ok (.iadd, 1) := by decide +kernel
theorem dX2_addLink_42 : decode cX2_addLink 42 = .ok (.iastore, 1) := by decide +kernel
theorem dX2_addLink_43 : decode cX2_addLink 43 = .ok (.return_, 1) := by decide +kernel
set_option maxRecDepth 100000 in
set_option maxHeartbeats 4000000 in
theorem m_X2_addLink (a1 : Int32) (a2 : Int32) (S S' : SS) (h : f_X2_addLink a1 a2 S = some S') : MT yX2_addLink cX2_addLink 3 none 1 20 (fun ad => [.ref (ad 5), .int a1, .int a2]) S none S' := by
  refine MT.of RX2 (fun ad => [(0, .ref (ad 5)), (1, .int a1), (2, .int a2)]) (by decide) rfl (fun _ => Nat.le_of_ble_eq_true rfl) (fun _ => rfl) ?_
  intro p l e R s m args below meth c dC dI cs ad A hR1 hR2 F H locs ls w hl
  have hx := F.1.1
  have hb := F.1.2.1
  rw [f_X2_addLink] at h
  refine lv_iload_n (pc := 0) hx hb dX2_addLink_0 rfl (lv_at hl 1 rfl) ?_
  obtain ⟨r2, S1, hc, h⟩ := bnd_t h
  refine s_csi (pc := 1) [.int a1] (fun ad => [.int a1]) F w (m_X2_isEnd _ _ _ _ hc) rfl rfl hl.1 ok_X2_isEnd rfl kc_X2_isEnd kl_X2_48 ks_X2_isEnd kn_X2 ⟨Nat.le_trans (by decide) hR1, Nat.le_trans (by decide) hR2⟩ ⟨Nat.zero_le _, Nat.zero_le _⟩ (Nat.le_of_ble_eq_true rfl) dX2_addLink_1 (fun H locs w => ?_)
  refine lv_if_eq (pc := 4) (tgt := 43) hx hb dX2_addLink_4 (by decide) (fun q => ?_) (fun q => ?_)
  · have h := ite_t q h
    exact s_vret F w h dX2_addLink_43
  · have h := ite_f q h
    refine lv_aload_n (pc := 7) hx hb dX2_addLink_7 rfl (lv_at hl 0 rfl) ?_
    refine s_getR (pc := 8) F w 36 ds_5 (j := 4) vc_X2 vi_X2 rfl (by decide) kf_X2_21 dX2_addLink_8 ?_
    refine lv_iload_n (pc := 11) hx hb dX2_addLink_11 rfl (lv_at hl 1 rfl) ?_
    refine s_iald (pc := 12) F w ds_36 h dX2_addLink_12 (fun h => ?_)
    refine lv_iconst (pc := 13) (v := 3) hx hb dX2_addLink_13 (by decide) ?_
    refine lv_icmp_ge (pc := 14) (tgt := 43) hx hb dX2_addLink_14 (by decide) (fun q => ?_) (fun q => ?_)
    · have h := ite_t q h
      exact s_vret F w h dX2_addLink_43
    · have h := ite_f q h
      refine lv_aload_n (pc := 17) hx hb dX2_addLink_17 rfl (lv_at hl 0 rfl) ?_
      refine s_getR (pc := 18) F w 37 ds_5 (j := 5) vc_X2 vi_X2 rfl (by decide) kf_X2_24 dX2_addLink_18 ?_
      refine lv_iconst (pc := 21) (v := 3) hx hb dX2_addLink_21 (by decide) ?_
      refine lv_iload_n (pc := 22) hx hb dX2_addLink_22 rfl (lv_at hl 1 rfl) ?_
      refine lv_imul (pc := 23) hx hb dX2_addLink_23 ?_
      refine lv_aload_n (pc := 24) hx hb dX2_addLink_24 rfl (lv_at hl 0 rfl) ?_
      refine s_getR (pc := 25) F w 36 ds_5 (j := 4) vc_X2 vi_X2 rfl (by decide) kf_X2_21 dX2_addLink_25 ?_
      refine lv_iload_n (pc := 28) hx hb dX2_addLink_28 rfl (lv_at hl 1 rfl) ?_
      refine s_iald (pc := 29) F w ds_36 h dX2_addLink_29 (fun h => ?_)
      refine lv_iadd (pc := 30) hx hb dX2_addLink_30 ?_
      refine lv_iload_n (pc := 31) hx hb dX2_addLink_31 rfl (lv_at hl 2 rfl) ?_
      refine s_iast (pc := 32) F w ds_37 h dX2_addLink_32 (fun S3 H locs h w => ?_)
      refine lv_aload_n (pc := 33) hx hb dX2_addLink_33 rfl (lv_at hl 0 rfl) ?_
      refine s_getR (pc := 34) F w 36 ds_5 (j := 4) vc_X2 vi_X2 rfl (by decide) kf_X2_21 dX2_addLink_34 ?_
      refine lv_iload_n (pc := 37) hx hb dX2_addLink_37 rfl (lv_at hl 1 rfl) ?_
      refine lv_dup2_11 (pc := 38) hx hb dX2_addLink_38 rfl rfl ?_
      refine s_iald (pc := 39) F w ds_36 h dX2_addLink_39 (fun h => ?_)
      refine lv_iconst (pc := 40) (v := 1) hx hb dX2_addLink_40 (by decide) ?_
      refine lv_iadd (pc := 41) hx hb dX2_addLink_41 ?_
      refine s_iast (pc := 42) F w ds_36 h dX2_addLink_42 (fun S4 H locs h w => ?_)
      exact s_vret F w h dX2_addLink_43
def f_X2_join (a1 : Int32) (a2 : Int32) (S : SS) : Option (SS) :=
  bndv (f_X2_addLink a1 a2 S) (fun S1 =>
  bndv (f_X2_addLink a2 a1 S1) (fun S2 =>
  some S2))
theorem dX2_join_0 : decode cX2_join 0 = .ok (.aload_n 0, 1) := by decide +kernel
theorem dX2_join_1 : decode cX2_join 1 = .ok (.iload_n 1, 1) := by decide +kernel
theorem dX2_join_2 : decode cX2_join 2 = .ok (.iload_n 2, 1) := by decide +kernel
theorem dX2_join_3 : decode cX2_join 3 = .ok (.invokevirtual 78, 3) := by decide +kernel
theorem dX2_join_6 : decode cX2_join 6 = .ok (.aload_n 0, 1) := by decide +kernel
theorem dX2_join_7 : decode cX2_join 7 = .ok (.iload_n 2, 1) := by decide +kernel
theorem dX2_join_8 : decode cX2_join 8 = .ok (.iload_n 1, 1) := by decide +kernel
theorem dX2_join_9 : decode cX2_join 9 = .ok (.invokevirtual 78, 3) := by decide +kernel
theorem dX2_join_12 : decode cX2_join 12 = .ok (.return_, 1) := by decide +kernel
set_option maxRecDepth 100000 in
set_option maxHeartbeats 4000000 in
theorem m_X2_join (a1 : Int32) (a2 : Int32) (S S' : SS) (h : f_X2_join a1 a2 S = some S') : MT yX2_join cX2_join 3 none 2 42 (fun ad => [.ref (ad 5), .int a1, .int a2]) S none S' := by
  refine MT.of RX2 (fun ad => [(0, .ref (ad 5)), (1, .int a1), (2, .int a2)]) (by decide) rfl (fun _ => Nat.le_of_ble_eq_true rfl) (fun _ => rfl) ?_
  intro p l e R s m args below meth c dC dI cs ad A hR1 hR2 F H locs ls w hl
  have hx := F.1.1
  have hb := F.1.2.1
  rw [f_X2_join] at h
  refine lv_aload_n (pc := 0) hx hb dX2_join_0 rfl (lv_at hl 0 rfl) ?_
  refine lv_iload_n (pc := 1) hx hb dX2_join_1 rfl (lv_at hl 1 rfl) ?_
  refine lv_iload_n (pc := 2) hx hb dX2_join_2 rfl (lv_at hl 2 rfl) ?_
  obtain ⟨S1, hc, h⟩ := bndv_t h
  refine s_cvv (pc := 3) [.int a1, .int a2] (fun ad => [.ref (ad 5), .int a1, .int a2]) F w (m_X2_addLink _ _ _ _ hc) rfl rfl hl.1 ds_5 vc_X2 rfl ok_X2_addLink rfl kc_X2_addLink kl_X2_78 ki_X2_addLink kv_X2_addLink kn_X2 ⟨Nat.le_trans (by decide) hR1, Nat.le_trans (by decide) hR2⟩ ⟨Nat.zero_le _, Nat.zero_le _⟩ (Nat.le_of_ble_eq_true rfl) dX2_join_3 (fun H locs w => ?_)
  refine lv_aload_n (pc := 6) hx hb dX2_join_6 rfl (lv_at hl 0 rfl) ?_
  refine lv_iload_n (pc := 7) hx hb dX2_join_7 rfl (lv_at hl 2 rfl) ?_
  refine lv_iload_n (pc := 8) hx hb dX2_join_8 rfl (lv_at hl 1 rfl) ?_
  obtain ⟨S2, hc, h⟩ := bndv_t h
  refine s_cvv (pc := 9) [.int a2, .int a1] (fun ad => [.ref (ad 5), .int a2, .int a1]) F w (m_X2_addLink _ _ _ _ hc) rfl rfl hl.1 ds_5 vc_X2 rfl ok_X2_addLink rfl kc_X2_addLink kl_X2_78 ki_X2_addLink kv_X2_addLink kn_X2 ⟨Nat.le_trans (by decide) hR1, Nat.le_trans (by decide) hR2⟩ ⟨Nat.zero_le _, Nat.zero_le _⟩ (Nat.le_of_ble_eq_true rfl) dX2_join_9 (fun H locs w => ?_)
  exact s_vret F w h dX2_join_12
def f_X2_linksAt (a1 : Int32) (S : SS) : Option (Int32 × SS) :=
  if a1 < 0 then
    some ((0 : Int32), S)
  else
    if (48 : Int32) ≤ a1 then
      some ((0 : Int32), S)
    else
      grd (inb a1 48) (
      some (S.1 36 a1.toNatClampNeg, S))
theorem dX2_linksAt_0 : decode cX2_linksAt 0 = .ok (.iload_n 1, 1) := by decide +kernel
theorem dX2_linksAt_1 : decode cX2_linksAt 1 = .ok (.ifCond .lt 18, 3) := by decide +kernel
theorem dX2_linksAt_4 : decode cX2_linksAt 4 = .ok (.iload_n 1, 1) := by decide +kernel
theorem dX2_linksAt_5 : decode cX2_linksAt 5 = .ok (.bipush 48, 2) := by decide +kernel
theorem dX2_linksAt_7 : decode cX2_linksAt 7 = .ok (.if_icmp .ge 12, 3) := by decide +kernel
theorem dX2_linksAt_10 : decode cX2_linksAt 10 = .ok (.aload_n 0, 1) := by decide +kernel
theorem dX2_linksAt_11 : decode cX2_linksAt 11 = .ok (.getfield 21, 3) := by decide +kernel
theorem dX2_linksAt_14 : decode cX2_linksAt 14 = .ok (.iload_n 1, 1) := by decide +kernel
theorem dX2_linksAt_15 : decode cX2_linksAt 15 = .ok (.iaload, 1) := by decide +kernel
theorem dX2_linksAt_16 : decode cX2_linksAt 16 = .ok (.goto 4, 3) := by decide +kernel
theorem dX2_linksAt_19 : decode cX2_linksAt 19 = .ok (.iconst 0, 1) := by decide +kernel
theorem dX2_linksAt_20 : decode cX2_linksAt 20 = .ok (.ireturn, 1) := by decide +kernel
set_option maxRecDepth 100000 in
set_option maxHeartbeats 4000000 in
theorem m_X2_linksAt (a1 : Int32) (S S' : SS) (r : Int32) (h : f_X2_linksAt a1 S = some (r, S')) : MT yX2_linksAt cX2_linksAt 2 (some .int) 0 0 (fun ad => [.ref (ad 5), .int a1]) S (some (.int r)) S' := by
  refine MT.of RX2 (fun ad => [(0, .ref (ad 5)), (1, .int a1)]) (by decide) rfl (fun _ => Nat.le_of_ble_eq_true rfl) (fun _ => rfl) ?_
  intro p l e R s m args below meth c dC dI cs ad A hR1 hR2 F H locs ls w hl
  have hx := F.1.1
  have hb := F.1.2.1
  rw [f_X2_linksAt] at h
  refine lv_iload_n (pc := 0) hx hb dX2_linksAt_0 rfl (lv_at hl 1 rfl) ?_
  refine lv_if_lt (pc := 1) (tgt := 19) hx hb dX2_linksAt_1 (by decide) (fun q => ?_) (fun q => ?_)
  · have h := ite_t q h
    refine lv_iconst (pc := 19) (v := 0) hx hb dX2_linksAt_19 (by decide) ?_
    exact s_iret F w h dX2_linksAt_20
  · have h := ite_f q h
    refine lv_iload_n (pc := 4) hx hb dX2_linksAt_4 rfl (lv_at hl 1 rfl) ?_
    refine lv_bipush (pc := 5) (v := 48) hx hb dX2_linksAt_5 (by decide) ?_
    refine lv_icmp_ge (pc := 7) (tgt := 19) hx hb dX2_linksAt_7 (by decide) (fun q => ?_) (fun q => ?_)
    · have h := ite_t q h
      refine lv_iconst (pc := 19) (v := 0) hx hb dX2_linksAt_19 (by decide) ?_
      exact s_iret F w h dX2_linksAt_20
    · have h := ite_f q h
      refine lv_aload_n (pc := 10) hx hb dX2_linksAt_10 rfl (lv_at hl 0 rfl) ?_
      refine s_getR (pc := 11) F w 36 ds_5 (j := 4) vc_X2 vi_X2 rfl (by decide) kf_X2_21 dX2_linksAt_11 ?_
      refine lv_iload_n (pc := 14) hx hb dX2_linksAt_14 rfl (lv_at hl 1 rfl) ?_
      refine s_iald (pc := 15) F w ds_36 h dX2_linksAt_15 (fun h => ?_)
      refine lv_goto (pc := 16) (tgt := 20) hx hb dX2_linksAt_16 (by decide) ?_
      exact s_iret F w h dX2_linksAt_20
def f_X2_areJoined_L2  : Nat → Int32 → Int32 → Int32 → SS → Option (Int32 × SS)
  | 0, _, _, _, _ => none
  | n + 1, x1, x2, x3, S =>
    bnd (f_X2_linksAt x1 S) (fun r2 S1 =>
    if r2 ≤ x3 then
      some ((0 : Int32), S1)
    else
      grd (inb (((3 : Int32) * x1) + x3) 144) (
      if (S1.1 37 (((3 : Int32) * x1) + x3).toNatClampNeg) = x2 then
        some ((1 : Int32), S1)
      else
        nm (x3 + (1 : Int32)) (fun z3 =>
        f_X2_areJoined_L2 n x1 x2 z3 S1)))
def f_X2_areJoined (a1 : Int32) (a2 : Int32) (S : SS) : Option (Int32 × SS) :=
  f_X2_areJoined_L2 NF a1 a2 (0 : Int32) S
theorem dX2_areJoined_0 : decode cX2_areJoined 0 = .ok (.iconst 0, 1) := by decide +kernel
theorem dX2_areJoined_1 : decode cX2_areJoined 1 = .ok (.istore_n 3, 1) := by decide +kernel
theorem dX2_areJoined_2 : decode cX2_areJoined 2 = .ok (.iload_n 3, 1) := by decide +kernel
theorem dX2_areJoined_3 : decode cX2_areJoined 3 = .ok (.aload_n 0, 1) := by decide +kernel
theorem dX2_areJoined_4 : decode cX2_areJoined 4 = .ok (.iload_n 1, 1) := by decide +kernel
theorem dX2_areJoined_5 : decode cX2_areJoined 5 = .ok (.invokevirtual 72, 3) := by decide +kernel
theorem dX2_areJoined_8 : decode cX2_areJoined 8 = .ok (.if_icmp .ge 25, 3) := by decide +kernel
theorem dX2_areJoined_11 : decode cX2_areJoined 11 = .ok (.aload_n 0, 1) := by decide +kernel
theorem dX2_areJoined_12 : decode cX2_areJoined 12 = .ok (.getfield 24, 3) := by decide +kernel
theorem dX2_areJoined_15 : decode cX2_areJoined 15 = .ok (.iconst 3, 1) := by decide +kernel
theorem dX2_areJoined_16 : decode cX2_areJoined 16 = .ok (.iload_n 1, 1) := by decide +kernel
theorem dX2_areJoined_17 : decode cX2_areJoined 17 = .ok (.imul, 1) := by decide +kernel
theorem dX2_areJoined_18 : decode cX2_areJoined 18 = .ok (.iload_n 3, 1) := by decide +kernel
theorem dX2_areJoined_19 : decode cX2_areJoined 19 = .ok (.iadd, 1) := by decide +kernel
theorem dX2_areJoined_20 : decode cX2_areJoined 20 = .ok (.iaload, 1) := by decide +kernel
theorem dX2_areJoined_21 : decode cX2_areJoined 21 = .ok (.iload_n 2, 1) := by decide +kernel
theorem dX2_areJoined_22 : decode cX2_areJoined 22 = .ok (.if_icmp .ne 5, 3) := by decide +kernel
theorem dX2_areJoined_25 : decode cX2_areJoined 25 = .ok (.iconst 1, 1) := by decide +kernel
theorem dX2_areJoined_26 : decode cX2_areJoined 26 = .ok (.ireturn, 1) := by decide +kernel
theorem dX2_areJoined_27 : decode cX2_areJoined 27 = .ok (.iinc 3 1, 3) := by decide +kernel
theorem dX2_areJoined_30 : decode cX2_areJoined 30 = .ok (.goto (-28), 3) := by decide +kernel
theorem dX2_areJoined_33 : decode cX2_areJoined 33 = .ok (.iconst 0, 1) := by decide +kernel
theorem dX2_areJoined_34 : decode cX2_areJoined 34 = .ok (.ireturn, 1) := by decide +kernel
set_option maxRecDepth 100000 in
set_option maxHeartbeats 4000000 in
theorem w_X2_areJoined_L2 {p : Program} {l : Launch} {e : Env} {R : Room} {s : State} {m : MethodId} {args : Array Value} {below : List Frame} {meth : Method} {c : Code} {dC : Nat → ClassId} {dI : Nat → Nat → Nat} {cs : Nat → ClassId} {ad : Nat → Nat} {A : Nat → Prop} {D0 : Nat → Nat} {S' : SS} {r : Int32} (F : Fx p s m args meth c cX2_areJoined 4 RX2 (some .boolean) dC dI cs A) (hR1 : 1 ≤ R.frames) (hR2 : 21 ≤ R.locals) : ∀ (n : Nat) (x1 : Int32) (x2 : Int32) (x3 : Int32) (S : SS), f_X2_areJoined_L2 n x1 x2 x3 S = some (r, S') → AW p l e R s m args below meth c dC dI cs ad A D0 (some (.int r)) S' 4 2 [(0, .ref (ad 5)), (1, .int x1), (2, .int x2), (3, .int x3)] [] S := by
  have hx := F.1.1
  have hb := F.1.2.1
  intro n
  induction n with
  | zero => intro x1 x2 x3 S h; cases h
  | succ n ih =>
    intro x1 x2 x3 S h H locs ls w hl
    rw [f_X2_areJoined_L2] at h
    refine lv_iload_n (pc := 2) hx hb dX2_areJoined_2 rfl (lv_at hl 3 rfl) ?_
    refine lv_aload_n (pc := 3) hx hb dX2_areJoined_3 rfl (lv_at hl 0 rfl) ?_
    refine lv_iload_n (pc := 4) hx hb dX2_areJoined_4 rfl (lv_at hl 1 rfl) ?_
    obtain ⟨r2, S1, hc, h⟩ := bnd_t h
    refine s_cvi (pc := 5) [.int x1] (fun ad => [.ref (ad 5), .int x1]) F w (m_X2_linksAt _ _ _ _ hc) rfl rfl hl.1 ds_5 vc_X2 rfl ok_X2_linksAt rfl kc_X2_linksAt kl_X2_72 ki_X2_linksAt kv_X2_linksAt kn_X2 ⟨Nat.le_trans (by decide) hR1, Nat.le_trans (by decide) hR2⟩ ⟨Nat.zero_le _, Nat.zero_le _⟩ (Nat.le_of_ble_eq_true rfl) dX2_areJoined_5 (fun H locs w => ?_)
    refine lv_icmp_ge (pc := 8) (tgt := 33) hx hb dX2_areJoined_8 (by decide) (fun q => ?_) (fun q => ?_)
    · have h := ite_t q h
      refine lv_iconst (pc := 33) (v := 0) hx hb dX2_areJoined_33 (by decide) ?_
      exact s_zretc F w rfl h dX2_areJoined_34
    · have h := ite_f q h
      refine lv_aload_n (pc := 11) hx hb dX2_areJoined_11 rfl (lv_at hl 0 rfl) ?_
      refine s_getR (pc := 12) F w 37 ds_5 (j := 5) vc_X2 vi_X2 rfl (by decide) kf_X2_24 dX2_areJoined_12 ?_
      refine lv_iconst (pc := 15) (v := 3) hx hb dX2_areJoined_15 (by decide) ?_
      refine lv_iload_n (pc := 16) hx hb dX2_areJoined_16 rfl (lv_at hl 1 rfl) ?_
      refine lv_imul (pc := 17) hx hb dX2_areJoined_17 ?_
      refine lv_iload_n (pc := 18) hx hb dX2_areJoined_18 rfl (lv_at hl 3 rfl) ?_
      refine lv_iadd (pc := 19) hx hb dX2_areJoined_19 ?_
      refine s_iald (pc := 20) F w ds_37 h dX2_areJoined_20 (fun h => ?_)
      refine lv_iload_n (pc := 21) hx hb dX2_areJoined_21 rfl (lv_at hl 2 rfl) ?_
      refine lv_icmp_ne (pc := 22) (tgt := 27) hx hb dX2_areJoined_22 (by decide) (fun q => ?_) (fun q => ?_)
      · have h := ite_f q h
        refine s_nm h (fun z3 ez3 h => ?_)
        refine lv_iinc (pc := 27) (v := z3) (lv' := [(3, .int z3), (0, .ref (ad 5)), (1, .int x1), (2, .int x2)]) hx hb dX2_areJoined_27 hl (k := 3) rfl (by rw [ez3]; rfl) (by decide) rfl (fun ls hl => ?_)
        refine lv_goto (pc := 30) (tgt := 2) hx hb dX2_areJoined_30 (by decide) ?_
        exact ih _ _ _ _ h _ _ _ w (lv_sub hl [1, 2, 3, 0] rfl)
      · have h := ite_t q h
        refine lv_iconst (pc := 25) (v := 1) hx hb dX2_areJoined_25 (by decide) ?_
        exact s_zretc F w rfl h dX2_areJoined_26
set_option maxRecDepth 100000 in
set_option maxHeartbeats 4000000 in
theorem m_X2_areJoined (a1 : Int32) (a2 : Int32) (S S' : SS) (r : Int32) (h : f_X2_areJoined a1 a2 S = some (r, S')) : MT yX2_areJoined cX2_areJoined 4 (some .boolean) 1 21 (fun ad => [.ref (ad 5), .int a1, .int a2]) S (some (.int r)) S' := by
  refine MT.of RX2 (fun ad => [(0, .ref (ad 5)), (1, .int a1), (2, .int a2)]) (by decide) rfl (fun _ => Nat.le_of_ble_eq_true rfl) (fun _ => rfl) ?_
  intro p l e R s m args below meth c dC dI cs ad A hR1 hR2 F H locs ls w hl
  have hx := F.1.1
  have hb := F.1.2.1
  rw [f_X2_areJoined] at h
  refine lv_iconst (pc := 0) (v := 0) hx hb dX2_areJoined_0 (by decide) ?_
  refine lv_istore_n (pc := 1) (lv' := [(3, .int (0 : Int32)), (0, .ref (ad 5)), (1, .int a1), (2, .int a2)]) hx hb dX2_areJoined_1 rfl hl (by decide) rfl (fun ls hl => ?_)
  exact w_X2_areJoined_L2 F (Nat.le_trans (by decide) hR1) (Nat.le_trans (by decide) hR2) _ _ _ _ _ h _ _ _ w (lv_sub hl [1, 2, 3, 0] rfl)
def f_X2_mayGetLink_j20  (y0 : Int32) (y1 : Int32) (S : SS) : Option (Int32 × SS) :=
    if y0 ≤ y1 then
      some ((0 : Int32), S)
    else
      some ((1 : Int32), S)
def f_X2_mayGetLink (a1 : Int32) (S : SS) : Option (Int32 × SS) :=
  bnd (f_X2_linksAt a1 S) (fun r2 S1 =>
  bnd (f_X2_pointAt a1 S1) (fun r4 S3 =>
  if r4 = (-4 : Int32) then
    f_X2_mayGetLink_j20 (1 : Int32) r2 S3
  else
    f_X2_mayGetLink_j20 (3 : Int32) r2 S3))
theorem dX2_mayGetLink_0 : decode cX2_mayGetLink 0 = .ok (.aload_n 0, 1) := by decide +kernel
theorem dX2_mayGetLink_1 : decode cX2_mayGetLink 1 = .ok (.iload_n 1, 1) := by decide +kernel
theorem dX2_mayGetLink_2 : decode cX2_mayGetLink 2 = .ok (.invokevirtual 72, 3) := by decide +kernel
theorem dX2_mayGetLink_5 : decode cX2_mayGetLink 5 = .ok (.aload_n 0, 1) := by decide +kernel
theorem dX2_mayGetLink_6 : decode cX2_mayGetLink 6 = .ok (.iload_n 1, 1) := by decide +kernel
theorem dX2_mayGetLink_7 : decode cX2_mayGetLink 7 = .ok (.invokevirtual 75, 3) := by decide +kernel
theorem dX2_mayGetLink_10 : decode cX2_mayGetLink 10 = .ok (.bipush (-4), 2) := by decide +kernel
theorem dX2_mayGetLink_12 : decode cX2_mayGetLink 12 = .ok (.if_icmp .ne 7, 3) := by decide +kernel
theorem dX2_mayGetLink_15 : decode cX2_mayGetLink 15 = .ok (.iconst 1, 1) := by decide +kernel
theorem dX2_mayGetLink_16 : decode cX2_mayGetLink 16 = .ok (.goto 4, 3) := by decide +kernel
theorem dX2_mayGetLink_19 : decode cX2_mayGetLink 19 = .ok (.iconst 3, 1) := by decide +kernel
theorem dX2_mayGetLink_20 : decode cX2_mayGetLink 20 = .ok (.if_icmp .ge 7, 3) := by decide +kernel
theorem dX2_mayGetLink_23 : decode cX2_mayGetLink 23 = .ok (.iconst 1, 1) := by decide +kernel
theorem dX2_mayGetLink_24 : decode cX2_mayGetLink 24 = .ok (.goto 4, 3) := by decide +kernel
theorem dX2_mayGetLink_27 : decode cX2_mayGetLink 27 = .ok (.iconst 0, 1) := by decide +kernel
theorem dX2_mayGetLink_28 : decode cX2_mayGetLink 28 = .ok (.ireturn, 1) := by decide +kernel
set_option maxRecDepth 100000 in
set_option maxHeartbeats 4000000 in
theorem w_X2_mayGetLink_j20 {p : Program} {l : Launch} {e : Env} {R : Room} {s : State} {m : MethodId} {args : Array Value} {below : List Frame} {meth : Method} {c : Code} {dC : Nat → ClassId} {dI : Nat → Nat → Nat} {cs : Nat → ClassId} {ad : Nat → Nat} {A : Nat → Prop} {D0 : Nat → Nat} {S' : SS} {r : Int32} (F : Fx p s m args meth c cX2_mayGetLink 2 RX2 (some .boolean) dC dI cs A) (hR1 : 0 ≤ R.frames) (hR2 : 0 ≤ R.locals) (y0 : Int32) (y1 : Int32) (S : SS) (h : f_X2_mayGetLink_j20 y0 y1 S = some (r, S')) : AW p l e R s m args below meth c dC dI cs ad A D0 (some (.int r)) S' 2 20 [] [.int y0, .int y1] S := by
  have hx := F.1.1
  have hb := F.1.2.1
  intro H locs ls w hl
  rw [f_X2_mayGetLink_j20] at h
  refine lv_icmp_ge (pc := 20) (tgt := 27) hx hb dX2_mayGetLink_20 (by decide) (fun q => ?_) (fun q => ?_)
  · have h := ite_t q h
    refine lv_iconst (pc := 27) (v := 0) hx hb dX2_mayGetLink_27 (by decide) ?_
    exact s_zretc F w rfl h dX2_mayGetLink_28
  · have h := ite_f q h
    refine lv_iconst (pc := 23) (v := 1) hx hb dX2_mayGetLink_23 (by decide) ?_
    refine lv_goto (pc := 24) (tgt := 28) hx hb dX2_mayGetLink_24 (by decide) ?_
    exact s_zretc F w rfl h dX2_mayGetLink_28
set_option maxRecDepth 100000 in
set_option maxHeartbeats 4000000 in
theorem m_X2_mayGetLink (a1 : Int32) (S S' : SS) (r : Int32) (h : f_X2_mayGetLink a1 S = some (r, S')) : MT yX2_mayGetLink cX2_mayGetLink 2 (some .boolean) 1 21 (fun ad => [.ref (ad 5), .int a1]) S (some (.int r)) S' := by
  refine MT.of RX2 (fun ad => [(0, .ref (ad 5)), (1, .int a1)]) (by decide) rfl (fun _ => Nat.le_of_ble_eq_true rfl) (fun _ => rfl) ?_
  intro p l e R s m args below meth c dC dI cs ad A hR1 hR2 F H locs ls w hl
  have hx := F.1.1
  have hb := F.1.2.1
  rw [f_X2_mayGetLink] at h
  refine lv_aload_n (pc := 0) hx hb dX2_mayGetLink_0 rfl (lv_at hl 0 rfl) ?_
  refine lv_iload_n (pc := 1) hx hb dX2_mayGetLink_1 rfl (lv_at hl 1 rfl) ?_
  obtain ⟨r2, S1, hc, h⟩ := bnd_t h
  refine s_cvi (pc := 2) [.int a1] (fun ad => [.ref (ad 5), .int a1]) F w (m_X2_linksAt _ _ _ _ hc) rfl rfl hl.1 ds_5 vc_X2 rfl ok_X2_linksAt rfl kc_X2_linksAt kl_X2_72 ki_X2_linksAt kv_X2_linksAt kn_X2 ⟨Nat.le_trans (by decide) hR1, Nat.le_trans (by decide) hR2⟩ ⟨Nat.zero_le _, Nat.zero_le _⟩ (Nat.le_of_ble_eq_true rfl) dX2_mayGetLink_2 (fun H locs w => ?_)
  refine lv_aload_n (pc := 5) hx hb dX2_mayGetLink_5 rfl (lv_at hl 0 rfl) ?_
  refine lv_iload_n (pc := 6) hx hb dX2_mayGetLink_6 rfl (lv_at hl 1 rfl) ?_
  obtain ⟨r4, S3, hc, h⟩ := bnd_t h
  refine s_cvi (pc := 7) [.int a1] (fun ad => [.ref (ad 5), .int a1]) F w (m_X2_pointAt _ _ _ _ hc) rfl rfl hl.1 ds_5 vc_X2 rfl ok_X2_pointAt rfl kc_X2_pointAt kl_X2_75 ki_X2_pointAt kv_X2_pointAt kn_X2 ⟨Nat.le_trans (by decide) hR1, Nat.le_trans (by decide) hR2⟩ ⟨Nat.zero_le _, Nat.zero_le _⟩ (Nat.le_of_ble_eq_true rfl) dX2_mayGetLink_7 (fun H locs w => ?_)
  refine lv_bipush (pc := 10) (v := -4) hx hb dX2_mayGetLink_10 (by decide) ?_
  refine lv_icmp_ne (pc := 12) (tgt := 19) hx hb dX2_mayGetLink_12 (by decide) (fun q => ?_) (fun q => ?_)
  · have h := ite_f q h
    refine lv_iconst (pc := 19) (v := 3) hx hb dX2_mayGetLink_19 (by decide) ?_
    exact w_X2_mayGetLink_j20 F (Nat.le_trans (by decide) hR1) (Nat.le_trans (by decide) hR2) _ _ _ h _ _ _ w (lv_sub hl [] rfl)
  · have h := ite_t q h
    refine lv_iconst (pc := 15) (v := 1) hx hb dX2_mayGetLink_15 (by decide) ?_
    refine lv_goto (pc := 16) (tgt := 20) hx hb dX2_mayGetLink_16 (by decide) ?_
    exact w_X2_mayGetLink_j20 F (Nat.le_trans (by decide) hR1) (Nat.le_trans (by decide) hR2) _ _ _ h _ _ _ w (lv_sub hl [] rfl)
