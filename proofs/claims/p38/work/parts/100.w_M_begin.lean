/-! ===== printed by wip/gen: M_begin M_forget M_found M_track M_isSide M_missTrack M_ends M_point M_mostLinks M_link M_exit M_missPlace M_standing M_missFree ===== -/
def f_M_begin  (S : SS) : Option (SS) :=
  wr S 0 0 (0 : Int32) (fun S1 =>
  wr S1 0 1 (-4 : Int32) (fun S2 =>
  wr S2 0 2 (0 : Int32) (fun S3 =>
  wr S3 0 3 (-4 : Int32) (fun S4 =>
  wr S4 0 5 (0 : Int32) (fun S5 =>
  some S5)))))
theorem dX12_begin_0 : decode cX12_begin 0 = .ok (.aload_n 0, 1) := dc_42 (by decide +kernel)
theorem dX12_begin_1 : decode cX12_begin 1 = .ok (.iconst 0, 1) := dc_3 (by decide +kernel)
theorem dX12_begin_2 : decode cX12_begin 2 = .ok (.putfield 201, 3) := dc_181 (a := 0) (b := 201) (by decide +kernel)
theorem dX12_begin_5 : decode cX12_begin 5 = .ok (.aload_n 0, 1) := dc_42 (by decide +kernel)
theorem dX12_begin_6 : decode cX12_begin 6 = .ok (.bipush (-4), 2) := dc_16 (a := 252) (by decide +kernel) (by decide)
theorem dX12_begin_8 : decode cX12_begin 8 = .ok (.putfield 9, 3) := dc_181 (a := 0) (b := 9) (by decide +kernel)
theorem dX12_begin_11 : decode cX12_begin 11 = .ok (.aload_n 0, 1) := dc_42 (by decide +kernel)
theorem dX12_begin_12 : decode cX12_begin 12 = .ok (.iconst 0, 1) := dc_3 (by decide +kernel)
theorem dX12_begin_13 : decode cX12_begin 13 = .ok (.putfield 204, 3) := dc_181 (a := 0) (b := 204) (by decide +kernel)
theorem dX12_begin_16 : decode cX12_begin 16 = .ok (.aload_n 0, 1) := dc_42 (by decide +kernel)
theorem dX12_begin_17 : decode cX12_begin 17 = .ok (.bipush (-4), 2) := dc_16 (a := 252) (by decide +kernel) (by decide)
theorem dX12_begin_19 : decode cX12_begin 19 = .ok (.putfield 13, 3) := dc_181 (a := 0) (b := 13) (by decide +kernel)
theorem dX12_begin_22 : decode cX12_begin 22 = .ok (.aload_n 0, 1) := dc_42 (by decide +kernel)
theorem dX12_begin_23 : decode cX12_begin 23 = .ok (.iconst 0, 1) := dc_3 (by decide +kernel)
theorem dX12_begin_24 : decode cX12_begin 24 = .ok (.putfield 207, 3) := dc_181 (a := 0) (b := 207) (by decide +kernel)
theorem dX12_begin_27 : decode cX12_begin 27 = .ok (.return_, 1) := dc_177 (by decide +kernel)
set_option maxRecDepth 100000 in
set_option maxHeartbeats 4000000 in
theorem m_M_begin  (S S' : SS) (h : f_M_begin  S = some S') : MT yX12_begin cX12_begin 1 none 0 0 (fun ad => [.ref (ad 0)]) S none S' := by
  refine MT.of RX12 (fun ad => [(0, .ref (ad 0))]) (by decide) rfl (fun _ => Nat.le_of_ble_eq_true rfl) (fun _ => rfl) ?_
  intro p l e R s m args below meth c dC dI cs ad A hR1 hR2 F H locs ls w hl
  have hx := F.1.1
  have hb := F.1.2.1
  rw [f_M_begin] at h
  refine lv_aload_n (pc := 0) hx hb dX12_begin_0 rfl (lv_at hl 0 rfl) ?_
  refine lv_iconst (pc := 1) (v := 0) hx hb dX12_begin_1 (by decide) ?_
  refine s_putI (pc := 2) F w ds_0 vc_X12 vi_X12 tyX12_ok nmX12 (j := 0) rfl (by decide) kf_X12_201 rfl pd_I h dX12_begin_2 (fun S1 H locs h w => ?_)
  refine lv_aload_n (pc := 5) hx hb dX12_begin_5 rfl (lv_at hl 0 rfl) ?_
  refine lv_bipush (pc := 6) (v := -4) hx hb dX12_begin_6 (by decide) ?_
  refine s_putI (pc := 8) F w ds_0 vc_X12 vi_X12 tyX12_ok nmX12 (j := 1) rfl (by decide) kf_X12_9 rfl pd_I h dX12_begin_8 (fun S2 H locs h w => ?_)
  refine lv_aload_n (pc := 11) hx hb dX12_begin_11 rfl (lv_at hl 0 rfl) ?_
  refine lv_iconst (pc := 12) (v := 0) hx hb dX12_begin_12 (by decide) ?_
  refine s_putI (pc := 13) F w ds_0 vc_X12 vi_X12 tyX12_ok nmX12 (j := 2) rfl (by decide) kf_X12_204 rfl pd_I h dX12_begin_13 (fun S3 H locs h w => ?_)
  refine lv_aload_n (pc := 16) hx hb dX12_begin_16 rfl (lv_at hl 0 rfl) ?_
  refine lv_bipush (pc := 17) (v := -4) hx hb dX12_begin_17 (by decide) ?_
  refine s_putI (pc := 19) F w ds_0 vc_X12 vi_X12 tyX12_ok nmX12 (j := 3) rfl (by decide) kf_X12_13 rfl pd_I h dX12_begin_19 (fun S4 H locs h w => ?_)
  refine lv_aload_n (pc := 22) hx hb dX12_begin_22 rfl (lv_at hl 0 rfl) ?_
  refine lv_iconst (pc := 23) (v := 0) hx hb dX12_begin_23 (by decide) ?_
  refine s_putI (pc := 24) F w ds_0 vc_X12 vi_X12 tyX12_ok nmX12 (j := 5) rfl (by decide) kf_X12_207 rfl pd_I h dX12_begin_24 (fun S5 H locs h w => ?_)
  exact s_vret F w h dX12_begin_27
def f_M_forget  (S : SS) : Option (SS) :=
  wr S 0 60 (0 : Int32) (fun S1 =>
  wr S1 0 61 (0 : Int32) (fun S2 =>
  some S2))
theorem dX12_forget_0 : decode cX12_forget 0 = .ok (.aload_n 0, 1) := dc_42 (by decide +kernel)
theorem dX12_forget_1 : decode cX12_forget 1 = .ok (.iconst 0, 1) := dc_3 (by decide +kernel)
theorem dX12_forget_2 : decode cX12_forget 2 = .ok (.putfield 328, 3) := dc_181 (a := 1) (b := 72) (by decide +kernel)
theorem dX12_forget_5 : decode cX12_forget 5 = .ok (.aload_n 0, 1) := dc_42 (by decide +kernel)
theorem dX12_forget_6 : decode cX12_forget 6 = .ok (.iconst 0, 1) := dc_3 (by decide +kernel)
theorem dX12_forget_7 : decode cX12_forget 7 = .ok (.putfield 331, 3) := dc_181 (a := 1) (b := 75) (by decide +kernel)
theorem dX12_forget_10 : decode cX12_forget 10 = .ok (.return_, 1) := dc_177 (by decide +kernel)
set_option maxRecDepth 100000 in
set_option maxHeartbeats 4000000 in
theorem m_M_forget  (S S' : SS) (h : f_M_forget  S = some S') : MT yX12_forget cX12_forget 1 none 0 0 (fun ad => [.ref (ad 0)]) S none S' := by
  refine MT.of RX12 (fun ad => [(0, .ref (ad 0))]) (by decide) rfl (fun _ => Nat.le_of_ble_eq_true rfl) (fun _ => rfl) ?_
  intro p l e R s m args below meth c dC dI cs ad A hR1 hR2 F H locs ls w hl
  have hx := F.1.1
  have hb := F.1.2.1
  rw [f_M_forget] at h
  refine lv_aload_n (pc := 0) hx hb dX12_forget_0 rfl (lv_at hl 0 rfl) ?_
  refine lv_iconst (pc := 1) (v := 0) hx hb dX12_forget_1 (by decide) ?_
  refine s_putI (pc := 2) F w ds_0 vc_X12 vi_X12 tyX12_ok nmX12 (j := 60) rfl (by decide) kf_X12_328 rfl pd_I h dX12_forget_2 (fun S1 H locs h w => ?_)
  refine lv_aload_n (pc := 5) hx hb dX12_forget_5 rfl (lv_at hl 0 rfl) ?_
  refine lv_iconst (pc := 6) (v := 0) hx hb dX12_forget_6 (by decide) ?_
  refine s_putI (pc := 7) F w ds_0 vc_X12 vi_X12 tyX12_ok nmX12 (j := 61) rfl (by decide) kf_X12_331 rfl pd_I h dX12_forget_7 (fun S2 H locs h w => ?_)
  exact s_vret F w h dX12_forget_10
def f_M_found (a1 : Int32) (S : SS) : Option (Int32 × SS) :=
  wr S 0 0 a1 (fun S1 =>
  grd (inb a1 18) (
  grd (inb a1 18) (wr S1 1 a1.toNatClampNeg ((S1.1 1 a1.toNatClampNeg) + (1 : Int32)) (fun S2 =>
  some ((-2 : Int32), S2)))))
theorem dX12_found_0 : decode cX12_found 0 = .ok (.aload_n 0, 1) := dc_42 (by decide +kernel)
theorem dX12_found_1 : decode cX12_found 1 = .ok (.iload_n 1, 1) := dc_27 (by decide +kernel)
theorem dX12_found_2 : decode cX12_found 2 = .ok (.putfield 201, 3) := dc_181 (a := 0) (b := 201) (by decide +kernel)
theorem dX12_found_5 : decode cX12_found 5 = .ok (.aload_n 0, 1) := dc_42 (by decide +kernel)
theorem dX12_found_6 : decode cX12_found 6 = .ok (.getfield 16, 3) := dc_180 (a := 0) (b := 16) (by decide +kernel)
theorem dX12_found_9 : decode cX12_found 9 = .ok (.iload_n 1, 1) := dc_27 (by decide +kernel)
theorem dX12_found_10 : decode cX12_found 10 = .ok (.dup2, 1) := dc_92 (by decide +kernel)
theorem dX12_found_11 : decode cX12_found 11 = .ok (.iaload, 1) := dc_46 (by decide +kernel)
theorem dX12_found_12 : decode cX12_found 12 = .ok (.iconst 1, 1) := dc_4 (by decide +kernel)
theorem dX12_found_13 : decode cX12_found 13 = .ok (.iadd, 1) := dc_96 (by decide +kernel)
theorem dX12_found_14 : decode cX12_found 14 = .ok (.iastore, 1) := dc_79 (by decide +kernel)
theorem dX12_found_15 : decode cX12_found 15 = .ok (.bipush (-2), 2) := dc_16 (a := 254) (by decide +kernel) (by decide)
theorem dX12_found_17 : decode cX12_found 17 = .ok (.ireturn, 1) := dc_172 (by decide +kernel)
set_option maxRecDepth 100000 in
set_option maxHeartbeats 4000000 in
theorem m_M_found (a1 : Int32) (S S' : SS) (r : Int32) (h : f_M_found a1 S = some (r, S')) : MT yX12_found cX12_found 2 (some .int) 0 0 (fun ad => [.ref (ad 0), .int a1]) S (some (.int r)) S' := by
  refine MT.of RX12 (fun ad => [(0, .ref (ad 0)), (1, .int a1)]) (by decide) rfl (fun _ => Nat.le_of_ble_eq_true rfl) (fun _ => rfl) ?_
  intro p l e R s m args below meth c dC dI cs ad A hR1 hR2 F H locs ls w hl
  have hx := F.1.1
  have hb := F.1.2.1
  rw [f_M_found] at h
  refine lv_aload_n (pc := 0) hx hb dX12_found_0 rfl (lv_at hl 0 rfl) ?_
  refine lv_iload_n (pc := 1) hx hb dX12_found_1 rfl (lv_at hl 1 rfl) ?_
  refine s_putI (pc := 2) F w ds_0 vc_X12 vi_X12 tyX12_ok nmX12 (j := 0) rfl (by decide) kf_X12_201 rfl pd_I h dX12_found_2 (fun S1 H locs h w => ?_)
  refine lv_aload_n (pc := 5) hx hb dX12_found_5 rfl (lv_at hl 0 rfl) ?_
  refine s_getR (pc := 6) F w 1 ds_0 (j := 4) vc_X12 vi_X12 rfl (by decide) kf_X12_16 dX12_found_6 ?_
  refine lv_iload_n (pc := 9) hx hb dX12_found_9 rfl (lv_at hl 1 rfl) ?_
  refine lv_dup2_11 (pc := 10) hx hb dX12_found_10 rfl rfl ?_
  refine s_iald (pc := 11) F w ds_1 h dX12_found_11 (fun h => ?_)
  refine lv_iconst (pc := 12) (v := 1) hx hb dX12_found_12 (by decide) ?_
  refine lv_iadd (pc := 13) hx hb dX12_found_13 ?_
  refine s_iast (pc := 14) F w ds_1 h dX12_found_14 (fun S2 H locs h w => ?_)
  refine lv_bipush (pc := 15) (v := -2) hx hb dX12_found_15 (by decide) ?_
  exact s_iret F w h dX12_found_17
def f_M_track (a1 : Int32) (S : SS) : Option (Int32 × SS) :=
  if a1 = 0 then
    some ((-1 : Int32), S)
  else
    if a1 ≤ (24 : Int32) then
      if (S.1 0 7) = (24 : Int32) then
        some ((-3 : Int32), S)
      else
        bndv (f_M_begin  S) (fun S1 =>
        if 0 ≤ a1 then
          grd (inb (S1.1 0 7) 24) (wr S1 3 (S1.1 0 7).toNatClampNeg a1 (fun S2 =>
          wr S2 0 7 ((S2.1 0 7) + (1 : Int32)) (fun S3 =>
          bndv (f_M_forget  S3) (fun S4 =>
          some ((S4.1 0 7) - (1 : Int32), S4)))))
        else
          bnd (f_M_found (5 : Int32) S1) (fun r6 S5 =>
          some (r6, S5)))
    else
      some ((-1 : Int32), S)
theorem dX12_track_0 : decode cX12_track 0 = .ok (.iload_n 1, 1) := dc_27 (by decide +kernel)
theorem dX12_track_1 : decode cX12_track 1 = .ok (.ifCond .eq 9, 3) := dc_153 (a := 0) (b := 9) (by decide +kernel) (by decide)
theorem dX12_track_4 : decode cX12_track 4 = .ok (.iload_n 1, 1) := dc_27 (by decide +kernel)
theorem dX12_track_5 : decode cX12_track 5 = .ok (.bipush 24, 2) := dc_16 (a := 24) (by decide +kernel) (by decide)
theorem dX12_track_7 : decode cX12_track 7 = .ok (.if_icmp .le 5, 3) := dc_164 (a := 0) (b := 5) (by decide +kernel) (by decide)
theorem dX12_track_10 : decode cX12_track 10 = .ok (.iconst (-1), 1) := dc_2 (by decide +kernel)
theorem dX12_track_11 : decode cX12_track 11 = .ok (.ireturn, 1) := dc_172 (by decide +kernel)
theorem dX12_track_12 : decode cX12_track 12 = .ok (.aload_n 0, 1) := dc_42 (by decide +kernel)
theorem dX12_track_13 : decode cX12_track 13 = .ok (.getfield 214, 3) := dc_180 (a := 0) (b := 214) (by decide +kernel)
theorem dX12_track_16 : decode cX12_track 16 = .ok (.bipush 24, 2) := dc_16 (a := 24) (by decide +kernel) (by decide)
theorem dX12_track_18 : decode cX12_track 18 = .ok (.if_icmp .ne 6, 3) := dc_160 (a := 0) (b := 6) (by decide +kernel) (by decide)
theorem dX12_track_21 : decode cX12_track 21 = .ok (.bipush (-3), 2) := dc_16 (a := 253) (by decide +kernel) (by decide)
theorem dX12_track_23 : decode cX12_track 23 = .ok (.ireturn, 1) := dc_172 (by decide +kernel)
theorem dX12_track_24 : decode cX12_track 24 = .ok (.aload_n 0, 1) := dc_42 (by decide +kernel)
theorem dX12_track_25 : decode cX12_track 25 = .ok (.invokevirtual 226, 3) := dc_182 (a := 0) (b := 226) (by decide +kernel)
theorem dX12_track_28 : decode cX12_track 28 = .ok (.iload_n 1, 1) := dc_27 (by decide +kernel)
theorem dX12_track_29 : decode cX12_track 29 = .ok (.ifCond .ge 9, 3) := dc_156 (a := 0) (b := 9) (by decide +kernel) (by decide)
theorem dX12_track_32 : decode cX12_track 32 = .ok (.aload_n 0, 1) := dc_42 (by decide +kernel)
theorem dX12_track_33 : decode cX12_track 33 = .ok (.iconst 5, 1) := dc_8 (by decide +kernel)
theorem dX12_track_34 : decode cX12_track 34 = .ok (.invokevirtual 210, 3) := dc_182 (a := 0) (b := 210) (by decide +kernel)
theorem dX12_track_37 : decode cX12_track 37 = .ok (.ireturn, 1) := dc_172 (by decide +kernel)
theorem dX12_track_38 : decode cX12_track 38 = .ok (.aload_n 0, 1) := dc_42 (by decide +kernel)
theorem dX12_track_39 : decode cX12_track 39 = .ok (.getfield 23, 3) := dc_180 (a := 0) (b := 23) (by decide +kernel)
theorem dX12_track_42 : decode cX12_track 42 = .ok (.aload_n 0, 1) := dc_42 (by decide +kernel)
theorem dX12_track_43 : decode cX12_track 43 = .ok (.getfield 214, 3) := dc_180 (a := 0) (b := 214) (by decide +kernel)
theorem dX12_track_46 : decode cX12_track 46 = .ok (.iload_n 1, 1) := dc_27 (by decide +kernel)
theorem dX12_track_47 : decode cX12_track 47 = .ok (.iastore, 1) := dc_79 (by decide +kernel)
theorem dX12_track_48 : decode cX12_track 48 = .ok (.aload_n 0, 1) := dc_42 (by decide +kernel)
theorem dX12_track_49 : decode cX12_track 49 = .ok (.dup, 1) := dc_89 (by decide +kernel)
theorem dX12_track_50 : decode cX12_track 50 = .ok (.getfield 214, 3) := dc_180 (a := 0) (b := 214) (by decide +kernel)
theorem dX12_track_53 : decode cX12_track 53 = .ok (.iconst 1, 1) := dc_4 (by decide +kernel)
theorem dX12_track_54 : decode cX12_track 54 = .ok (.iadd, 1) := dc_96 (by decide +kernel)
theorem dX12_track_55 : decode cX12_track 55 = .ok (.putfield 214, 3) := dc_181 (a := 0) (b := 214) (by decide +kernel)
theorem dX12_track_58 : decode cX12_track 58 = .ok (.aload_n 0, 1) := dc_42 (by decide +kernel)
theorem dX12_track_59 : decode cX12_track 59 = .ok (.invokevirtual 229, 3) := dc_182 (a := 0) (b := 229) (by decide +kernel)
theorem dX12_track_62 : decode cX12_track 62 = .ok (.aload_n 0, 1) := dc_42 (by decide +kernel)
theorem dX12_track_63 : decode cX12_track 63 = .ok (.getfield 214, 3) := dc_180 (a := 0) (b := 214) (by decide +kernel)
theorem dX12_track_66 : decode cX12_track 66 = .ok (.iconst 1, 1) := dc_4 (by decide +kernel)
theorem dX12_track_67 : decode cX12_track 67 = .ok (.isub, 1) := dc_100 (by decide +kernel)
theorem dX12_track_68 : decode cX12_track 68 = .ok (.ireturn, 1) := dc_172 (by decide +kernel)
set_option maxRecDepth 100000 in
set_option maxHeartbeats 4000000 in
theorem m_M_track (a1 : Int32) (S S' : SS) (r : Int32) (h : f_M_track a1 S = some (r, S')) : MT yX12_track cX12_track 2 (some .int) 1 21 (fun ad => [.ref (ad 0), .int a1]) S (some (.int r)) S' := by
  refine MT.of RX12 (fun ad => [(0, .ref (ad 0)), (1, .int a1)]) (by decide) rfl (fun _ => Nat.le_of_ble_eq_true rfl) (fun _ => rfl) ?_
  intro p l e R s m args below meth c dC dI cs ad A hR1 hR2 F H locs ls w hl
  have hx := F.1.1
  have hb := F.1.2.1
  rw [f_M_track] at h
  refine lv_iload_n (pc := 0) hx hb dX12_track_0 rfl (lv_at hl 1 rfl) ?_
  refine lv_if_eq (pc := 1) (tgt := 10) hx hb dX12_track_1 (by decide) (fun q => ?_) (fun q => ?_)
  · have h := ite_t q h
    refine lv_iconst (pc := 10) (v := -1) hx hb dX12_track_10 (by decide) ?_
    exact s_iret F w h dX12_track_11
  · have h := ite_f q h
    refine lv_iload_n (pc := 4) hx hb dX12_track_4 rfl (lv_at hl 1 rfl) ?_
    refine lv_bipush (pc := 5) (v := 24) hx hb dX12_track_5 (by decide) ?_
    refine lv_icmp_le (pc := 7) (tgt := 12) hx hb dX12_track_7 (by decide) (fun q => ?_) (fun q => ?_)
    · have h := ite_t q h
      refine lv_aload_n (pc := 12) hx hb dX12_track_12 rfl (lv_at hl 0 rfl) ?_
      refine s_getI (pc := 13) F w ds_0 (j := 7) vc_X12 vi_X12 rfl (by decide) kf_X12_214 dX12_track_13 ?_
      refine lv_bipush (pc := 16) (v := 24) hx hb dX12_track_16 (by decide) ?_
      refine lv_icmp_ne (pc := 18) (tgt := 24) hx hb dX12_track_18 (by decide) (fun q => ?_) (fun q => ?_)
      · have h := ite_f q h
        refine lv_aload_n (pc := 24) hx hb dX12_track_24 rfl (lv_at hl 0 rfl) ?_
        obtain ⟨S1, hc, h⟩ := bndv_t h
        refine s_cvv (pc := 25) [] (fun ad => [.ref (ad 0)]) F w (m_M_begin  _ _ hc) rfl rfl hl.1 ds_0 vc_X12 rfl ok_X12_begin rfl kc_X12_begin kl_X12_226 ki_X12_begin kv_X12_begin kn_X12 ⟨Nat.le_trans (by decide) hR1, Nat.le_trans (by decide) hR2⟩ ⟨Nat.zero_le _, Nat.zero_le _⟩ (Nat.le_of_ble_eq_true rfl) dX12_track_25 (fun H locs w => ?_)
        refine lv_iload_n (pc := 28) hx hb dX12_track_28 rfl (lv_at hl 1 rfl) ?_
        refine lv_if_ge (pc := 29) (tgt := 38) hx hb dX12_track_29 (by decide) (fun q => ?_) (fun q => ?_)
        · have h := ite_t q h
          refine lv_aload_n (pc := 38) hx hb dX12_track_38 rfl (lv_at hl 0 rfl) ?_
          refine s_getR (pc := 39) F w 3 ds_0 (j := 8) vc_X12 vi_X12 rfl (by decide) kf_X12_23 dX12_track_39 ?_
          refine lv_aload_n (pc := 42) hx hb dX12_track_42 rfl (lv_at hl 0 rfl) ?_
          refine s_getI (pc := 43) F w ds_0 (j := 7) vc_X12 vi_X12 rfl (by decide) kf_X12_214 dX12_track_43 ?_
          refine lv_iload_n (pc := 46) hx hb dX12_track_46 rfl (lv_at hl 1 rfl) ?_
          refine s_iast (pc := 47) F w ds_3 h dX12_track_47 (fun S2 H locs h w => ?_)
          refine lv_aload_n (pc := 48) hx hb dX12_track_48 rfl (lv_at hl 0 rfl) ?_
          refine lv_dup (pc := 49) hx hb dX12_track_49 rfl ?_
          refine s_getI (pc := 50) F w ds_0 (j := 7) vc_X12 vi_X12 rfl (by decide) kf_X12_214 dX12_track_50 ?_
          refine lv_iconst (pc := 53) (v := 1) hx hb dX12_track_53 (by decide) ?_
          refine lv_iadd (pc := 54) hx hb dX12_track_54 ?_
          refine s_putI (pc := 55) F w ds_0 vc_X12 vi_X12 tyX12_ok nmX12 (j := 7) rfl (by decide) kf_X12_214 rfl pd_I h dX12_track_55 (fun S3 H locs h w => ?_)
          refine lv_aload_n (pc := 58) hx hb dX12_track_58 rfl (lv_at hl 0 rfl) ?_
          obtain ⟨S4, hc, h⟩ := bndv_t h
          refine s_cvv (pc := 59) [] (fun ad => [.ref (ad 0)]) F w (m_M_forget  _ _ hc) rfl rfl hl.1 ds_0 vc_X12 rfl ok_X12_forget rfl kc_X12_forget kl_X12_229 ki_X12_forget kv_X12_forget kn_X12 ⟨Nat.le_trans (by decide) hR1, Nat.le_trans (by decide) hR2⟩ ⟨Nat.zero_le _, Nat.zero_le _⟩ (Nat.le_of_ble_eq_true rfl) dX12_track_59 (fun H locs w => ?_)
          refine lv_aload_n (pc := 62) hx hb dX12_track_62 rfl (lv_at hl 0 rfl) ?_
          refine s_getI (pc := 63) F w ds_0 (j := 7) vc_X12 vi_X12 rfl (by decide) kf_X12_214 dX12_track_63 ?_
          refine lv_iconst (pc := 66) (v := 1) hx hb dX12_track_66 (by decide) ?_
          refine lv_isub (pc := 67) hx hb dX12_track_67 ?_
          exact s_iret F w h dX12_track_68
        · have h := ite_f q h
          refine lv_aload_n (pc := 32) hx hb dX12_track_32 rfl (lv_at hl 0 rfl) ?_
          refine lv_iconst (pc := 33) (v := 5) hx hb dX12_track_33 (by decide) ?_
          obtain ⟨r6, S5, hc, h⟩ := bnd_t h
          refine s_cvi (pc := 34) [.int (5 : Int32)] (fun ad => [.ref (ad 0), .int (5 : Int32)]) F w (m_M_found _ _ _ _ hc) rfl rfl hl.1 ds_0 vc_X12 rfl ok_X12_found rfl kc_X12_found kl_X12_210 ki_X12_found kv_X12_found kn_X12 ⟨Nat.le_trans (by decide) hR1, Nat.le_trans (by decide) hR2⟩ ⟨Nat.zero_le _, Nat.zero_le _⟩ (Nat.le_of_ble_eq_true rfl) dX12_track_34 (fun H locs w => ?_)
          exact s_iret F w h dX12_track_37
      · have h := ite_t q h
        refine lv_bipush (pc := 21) (v := -3) hx hb dX12_track_21 (by decide) ?_
        exact s_iret F w h dX12_track_23
    · have h := ite_f q h
      refine lv_iconst (pc := 10) (v := -1) hx hb dX12_track_10 (by decide) ?_
      exact s_iret F w h dX12_track_11
def f_M_isSide (a0 : Int32) (S : SS) : Option (Int32 × SS) :=
  if a0 = 0 then
    some ((1 : Int32), S)
  else
    if a0 = (1 : Int32) then
      some ((1 : Int32), S)
    else
      some ((0 : Int32), S)
theorem dX12_isSide_0 : decode cX12_isSide 0 = .ok (.iload_n 0, 1) := dc_26 (by decide +kernel)
theorem dX12_isSide_1 : decode cX12_isSide 1 = .ok (.ifCond .eq 8, 3) := dc_153 (a := 0) (b := 8) (by decide +kernel) (by decide)
theorem dX12_isSide_4 : decode cX12_isSide 4 = .ok (.iload_n 0, 1) := dc_26 (by decide +kernel)
theorem dX12_isSide_5 : decode cX12_isSide 5 = .ok (.iconst 1, 1) := dc_4 (by decide +kernel)
theorem dX12_isSide_6 : decode cX12_isSide 6 = .ok (.if_icmp .ne 7, 3) := dc_160 (a := 0) (b := 7) (by decide +kernel) (by decide)
theorem dX12_isSide_9 : decode cX12_isSide 9 = .ok (.iconst 1, 1) := dc_4 (by decide +kernel)
theorem dX12_isSide_10 : decode cX12_isSide 10 = .ok (.goto 4, 3) := dc_167 (a := 0) (b := 4) (by decide +kernel) (by decide)
theorem dX12_isSide_13 : decode cX12_isSide 13 = .ok (.iconst 0, 1) := dc_3 (by decide +kernel)
theorem dX12_isSide_14 : decode cX12_isSide 14 = .ok (.ireturn, 1) := dc_172 (by decide +kernel)
set_option maxRecDepth 100000 in
set_option maxHeartbeats 4000000 in
theorem m_M_isSide (a0 : Int32) (S S' : SS) (r : Int32) (h : f_M_isSide a0 S = some (r, S')) : MT yX12_isSide cX12_isSide 1 (some .boolean) 0 0 (fun ad => [.int a0]) S (some (.int r)) S' := by
  refine MT.of RX12 (fun ad => [(0, .int a0)]) (by decide) rfl (fun _ => Nat.le_of_ble_eq_true rfl) (fun _ => rfl) ?_
  intro p l e R s m args below meth c dC dI cs ad A hR1 hR2 F H locs ls w hl
  have hx := F.1.1
  have hb := F.1.2.1
  rw [f_M_isSide] at h
  refine lv_iload_n (pc := 0) hx hb dX12_isSide_0 rfl (lv_at hl 0 rfl) ?_
  refine lv_if_eq (pc := 1) (tgt := 9) hx hb dX12_isSide_1 (by decide) (fun q => ?_) (fun q => ?_)
  · have h := ite_t q h
    refine lv_iconst (pc := 9) (v := 1) hx hb dX12_isSide_9 (by decide) ?_
    refine lv_goto (pc := 10) (tgt := 14) hx hb dX12_isSide_10 (by decide) ?_
    exact s_zretc F w rfl h dX12_isSide_14
  · have h := ite_f q h
    refine lv_iload_n (pc := 4) hx hb dX12_isSide_4 rfl (lv_at hl 0 rfl) ?_
    refine lv_iconst (pc := 5) (v := 1) hx hb dX12_isSide_5 (by decide) ?_
    refine lv_icmp_ne (pc := 6) (tgt := 13) hx hb dX12_isSide_6 (by decide) (fun q => ?_) (fun q => ?_)
    · have h := ite_f q h
      refine lv_iconst (pc := 13) (v := 0) hx hb dX12_isSide_13 (by decide) ?_
      exact s_zretc F w rfl h dX12_isSide_14
    · have h := ite_t q h
      refine lv_iconst (pc := 9) (v := 1) hx hb dX12_isSide_9 (by decide) ?_
      refine lv_goto (pc := 10) (tgt := 14) hx hb dX12_isSide_10 (by decide) ?_
      exact s_zretc F w rfl h dX12_isSide_14
def f_M_missTrack (a1 : Int32) (S : SS) : Option (Int32 × SS) :=
  if a1 < 0 then
    some ((3 : Int32), S)
  else
    if a1 < (24 : Int32) then
      if a1 < (S.1 0 7) then
        some ((0 : Int32), S)
      else
        some ((1 : Int32), S)
    else
      some ((3 : Int32), S)
theorem dX12_missTrack_0 : decode cX12_missTrack 0 = .ok (.iload_n 1, 1) := dc_27 (by decide +kernel)
theorem dX12_missTrack_1 : decode cX12_missTrack 1 = .ok (.ifCond .lt 9, 3) := dc_155 (a := 0) (b := 9) (by decide +kernel) (by decide)
theorem dX12_missTrack_4 : decode cX12_missTrack 4 = .ok (.iload_n 1, 1) := dc_27 (by decide +kernel)
theorem dX12_missTrack_5 : decode cX12_missTrack 5 = .ok (.bipush 24, 2) := dc_16 (a := 24) (by decide +kernel) (by decide)
theorem dX12_missTrack_7 : decode cX12_missTrack 7 = .ok (.if_icmp .lt 7, 3) := dc_161 (a := 0) (b := 7) (by decide +kernel) (by decide)
theorem dX12_missTrack_10 : decode cX12_missTrack 10 = .ok (.iconst 3, 1) := dc_6 (by decide +kernel)
theorem dX12_missTrack_11 : decode cX12_missTrack 11 = .ok (.goto 16, 3) := dc_167 (a := 0) (b := 16) (by decide +kernel) (by decide)
theorem dX12_missTrack_14 : decode cX12_missTrack 14 = .ok (.iload_n 1, 1) := dc_27 (by decide +kernel)
theorem dX12_missTrack_15 : decode cX12_missTrack 15 = .ok (.aload_n 0, 1) := dc_42 (by decide +kernel)
theorem dX12_missTrack_16 : decode cX12_missTrack 16 = .ok (.getfield 214, 3) := dc_180 (a := 0) (b := 214) (by decide +kernel)
theorem dX12_missTrack_19 : decode cX12_missTrack 19 = .ok (.if_icmp .lt 7, 3) := dc_161 (a := 0) (b := 7) (by decide +kernel) (by decide)
theorem dX12_missTrack_22 : decode cX12_missTrack 22 = .ok (.iconst 1, 1) := dc_4 (by decide +kernel)
theorem dX12_missTrack_23 : decode cX12_missTrack 23 = .ok (.goto 4, 3) := dc_167 (a := 0) (b := 4) (by decide +kernel) (by decide)
theorem dX12_missTrack_26 : decode cX12_missTrack 26 = .ok (.iconst 0, 1) := dc_3 (by decide +kernel)
theorem dX12_missTrack_27 : decode cX12_missTrack 27 = .ok (.ireturn, 1) := dc_172 (by decide +kernel)
set_option maxRecDepth 100000 in
set_option maxHeartbeats 4000000 in
theorem m_M_missTrack (a1 : Int32) (S S' : SS) (r : Int32) (h : f_M_missTrack a1 S = some (r, S')) : MT yX12_missTrack cX12_missTrack 2 (some .int) 0 0 (fun ad => [.ref (ad 0), .int a1]) S (some (.int r)) S' := by
  refine MT.of RX12 (fun ad => [(0, .ref (ad 0)), (1, .int a1)]) (by decide) rfl (fun _ => Nat.le_of_ble_eq_true rfl) (fun _ => rfl) ?_
  intro p l e R s m args below meth c dC dI cs ad A hR1 hR2 F H locs ls w hl
  have hx := F.1.1
  have hb := F.1.2.1
  rw [f_M_missTrack] at h
  refine lv_iload_n (pc := 0) hx hb dX12_missTrack_0 rfl (lv_at hl 1 rfl) ?_
  refine lv_if_lt (pc := 1) (tgt := 10) hx hb dX12_missTrack_1 (by decide) (fun q => ?_) (fun q => ?_)
  · have h := ite_t q h
    refine lv_iconst (pc := 10) (v := 3) hx hb dX12_missTrack_10 (by decide) ?_
    refine lv_goto (pc := 11) (tgt := 27) hx hb dX12_missTrack_11 (by decide) ?_
    exact s_iret F w h dX12_missTrack_27
  · have h := ite_f q h
    refine lv_iload_n (pc := 4) hx hb dX12_missTrack_4 rfl (lv_at hl 1 rfl) ?_
    refine lv_bipush (pc := 5) (v := 24) hx hb dX12_missTrack_5 (by decide) ?_
    refine lv_icmp_lt (pc := 7) (tgt := 14) hx hb dX12_missTrack_7 (by decide) (fun q => ?_) (fun q => ?_)
    · have h := ite_t q h
      refine lv_iload_n (pc := 14) hx hb dX12_missTrack_14 rfl (lv_at hl 1 rfl) ?_
      refine lv_aload_n (pc := 15) hx hb dX12_missTrack_15 rfl (lv_at hl 0 rfl) ?_
      refine s_getI (pc := 16) F w ds_0 (j := 7) vc_X12 vi_X12 rfl (by decide) kf_X12_214 dX12_missTrack_16 ?_
      refine lv_icmp_lt (pc := 19) (tgt := 26) hx hb dX12_missTrack_19 (by decide) (fun q => ?_) (fun q => ?_)
      · have h := ite_t q h
        refine lv_iconst (pc := 26) (v := 0) hx hb dX12_missTrack_26 (by decide) ?_
        exact s_iret F w h dX12_missTrack_27
      · have h := ite_f q h
        refine lv_iconst (pc := 22) (v := 1) hx hb dX12_missTrack_22 (by decide) ?_
        refine lv_goto (pc := 23) (tgt := 27) hx hb dX12_missTrack_23 (by decide) ?_
        exact s_iret F w h dX12_missTrack_27
    · have h := ite_f q h
      refine lv_iconst (pc := 10) (v := 3) hx hb dX12_missTrack_10 (by decide) ?_
      refine lv_goto (pc := 11) (tgt := 27) hx hb dX12_missTrack_11 (by decide) ?_
      exact s_iret F w h dX12_missTrack_27
def f_M_ends_j10  (x1 : Int32) (S : SS) : Option (Int32 × SS) :=
    if x1 = 0 then
      some ((0 : Int32), S)
    else
      some ((1 : Int32), S)
def f_M_ends (a1 : Int32) (S : SS) : Option (Int32 × SS) :=
  if a1 = 0 then
    f_M_ends_j10 a1 S
  else
    bnd (f_M_found a1 S) (fun r2 S1 =>
    f_M_ends_j10 a1 S1)
theorem dX12_ends_0 : decode cX12_ends 0 = .ok (.iload_n 1, 1) := dc_27 (by decide +kernel)
theorem dX12_ends_1 : decode cX12_ends 1 = .ok (.ifCond .eq 9, 3) := dc_153 (a := 0) (b := 9) (by decide +kernel) (by decide)
theorem dX12_ends_4 : decode cX12_ends 4 = .ok (.aload_n 0, 1) := dc_42 (by decide +kernel)
theorem dX12_ends_5 : decode cX12_ends 5 = .ok (.iload_n 1, 1) := dc_27 (by decide +kernel)
theorem dX12_ends_6 : decode cX12_ends 6 = .ok (.invokevirtual 210, 3) := dc_182 (a := 0) (b := 210) (by decide +kernel)
theorem dX12_ends_9 : decode cX12_ends 9 = .ok (.pop, 1) := dc_87 (by decide +kernel)
theorem dX12_ends_10 : decode cX12_ends 10 = .ok (.iload_n 1, 1) := dc_27 (by decide +kernel)
theorem dX12_ends_11 : decode cX12_ends 11 = .ok (.ifCond .eq 7, 3) := dc_153 (a := 0) (b := 7) (by decide +kernel) (by decide)
theorem dX12_ends_14 : decode cX12_ends 14 = .ok (.iconst 1, 1) := dc_4 (by decide +kernel)
theorem dX12_ends_15 : decode cX12_ends 15 = .ok (.goto 4, 3) := dc_167 (a := 0) (b := 4) (by decide +kernel) (by decide)
theorem dX12_ends_18 : decode cX12_ends 18 = .ok (.iconst 0, 1) := dc_3 (by decide +kernel)
theorem dX12_ends_19 : decode cX12_ends 19 = .ok (.ireturn, 1) := dc_172 (by decide +kernel)
set_option maxRecDepth 100000 in
set_option maxHeartbeats 4000000 in
theorem w_M_ends_j10 {p : Program} {l : Launch} {e : Env} {R : Room} {s : State} {m : MethodId} {args : Array Value} {below : List Frame} {meth : Method} {c : Code} {dC : Nat → ClassId} {dI : Nat → Nat → Nat} {cs : Nat → ClassId} {ad : Nat → Nat} {A : Nat → Prop} {D0 : Nat → Nat} {S' : SS} {r : Int32} (F : Fx p s m args meth c cX12_ends 2 RX12 (some .boolean) dC dI cs A) (hR1 : 0 ≤ R.frames) (hR2 : 0 ≤ R.locals) (x1 : Int32) (S : SS) (h : f_M_ends_j10 x1 S = some (r, S')) : AW p l e R s m args below meth c dC dI cs ad A D0 (some (.int r)) S' 2 10 [(1, .int x1)] [] S := by
  have hx := F.1.1
  have hb := F.1.2.1
  intro H locs ls w hl
  rw [f_M_ends_j10] at h
  refine lv_iload_n (pc := 10) hx hb dX12_ends_10 rfl (lv_at hl 0 rfl) ?_
  refine lv_if_eq (pc := 11) (tgt := 18) hx hb dX12_ends_11 (by decide) (fun q => ?_) (fun q => ?_)
  · have h := ite_t q h
    refine lv_iconst (pc := 18) (v := 0) hx hb dX12_ends_18 (by decide) ?_
    exact s_zretc F w rfl h dX12_ends_19
  · have h := ite_f q h
    refine lv_iconst (pc := 14) (v := 1) hx hb dX12_ends_14 (by decide) ?_
    refine lv_goto (pc := 15) (tgt := 19) hx hb dX12_ends_15 (by decide) ?_
    exact s_zretc F w rfl h dX12_ends_19
set_option maxRecDepth 100000 in
set_option maxHeartbeats 4000000 in
theorem m_M_ends (a1 : Int32) (S S' : SS) (r : Int32) (h : f_M_ends a1 S = some (r, S')) : MT yX12_ends cX12_ends 2 (some .boolean) 1 21 (fun ad => [.ref (ad 0), .int a1]) S (some (.int r)) S' := by
  refine MT.of RX12 (fun ad => [(0, .ref (ad 0)), (1, .int a1)]) (by decide) rfl (fun _ => Nat.le_of_ble_eq_true rfl) (fun _ => rfl) ?_
  intro p l e R s m args below meth c dC dI cs ad A hR1 hR2 F H locs ls w hl
  have hx := F.1.1
  have hb := F.1.2.1
  rw [f_M_ends] at h
  refine lv_iload_n (pc := 0) hx hb dX12_ends_0 rfl (lv_at hl 1 rfl) ?_
  refine lv_if_eq (pc := 1) (tgt := 10) hx hb dX12_ends_1 (by decide) (fun q => ?_) (fun q => ?_)
  · have h := ite_t q h
    exact w_M_ends_j10 F (Nat.le_trans (by decide) hR1) (Nat.le_trans (by decide) hR2) _ _ h _ _ _ w (lv_sub hl [1] rfl)
  · have h := ite_f q h
    refine lv_aload_n (pc := 4) hx hb dX12_ends_4 rfl (lv_at hl 0 rfl) ?_
    refine lv_iload_n (pc := 5) hx hb dX12_ends_5 rfl (lv_at hl 1 rfl) ?_
    obtain ⟨r2, S1, hc, h⟩ := bnd_t h
    refine s_cvi (pc := 6) [.int a1] (fun ad => [.ref (ad 0), .int a1]) F w (m_M_found _ _ _ _ hc) rfl rfl hl.1 ds_0 vc_X12 rfl ok_X12_found rfl kc_X12_found kl_X12_210 ki_X12_found kv_X12_found kn_X12 ⟨Nat.le_trans (by decide) hR1, Nat.le_trans (by decide) hR2⟩ ⟨Nat.zero_le _, Nat.zero_le _⟩ (Nat.le_of_ble_eq_true rfl) dX12_ends_6 (fun H locs w => ?_)
    refine lv_pop (pc := 9) hx hb dX12_ends_9 rfl ?_
    exact w_M_ends_j10 F (Nat.le_trans (by decide) hR1) (Nat.le_trans (by decide) hR2) _ _ h _ _ _ w (lv_sub hl [1] rfl)
def f_M_point (a1 : Int32) (a2 : Int32) (S : SS) : Option (Int32 × SS) :=
  bnd (f_M_isSide a2 S) (fun r2 S1 =>
  if r2 = 0 then
    some ((-1 : Int32), S1)
  else
    if (S1.1 0 15) = (40 : Int32) then
      some ((-3 : Int32), S1)
    else
      bndv (f_M_begin  S1) (fun S3 =>
      bnd (f_M_missTrack a1 S3) (fun r5 S4 =>
      bnd (f_M_ends r5 S4) (fun r7 S6 =>
      if r7 = 0 then
        grd (inb (((2 : Int32) * a1) + a2) 48) (
        if (S6.1 5 (((2 : Int32) * a1) + a2).toNatClampNeg) = (-4 : Int32) then
          grd (inb (((2 : Int32) * a1) + a2) 48) (wr S6 5 (((2 : Int32) * a1) + a2).toNatClampNeg (S6.1 0 15) (fun S8 =>
          grd (inb (S8.1 0 15) 40) (wr S8 9 (S8.1 0 15).toNatClampNeg (((2 : Int32) * a1) + a2) (fun S9 =>
          grd (inb (S9.1 0 15) 40) (wr S9 10 (S9.1 0 15).toNatClampNeg (0 : Int32) (fun S10 =>
          grd (inb (S10.1 0 15) 40) (wr S10 11 (S10.1 0 15).toNatClampNeg (-4 : Int32) (fun S11 =>
          wr S11 0 15 ((S11.1 0 15) + (1 : Int32)) (fun S12 =>
          bndv (f_M_forget  S12) (fun S13 =>
          some ((S13.1 0 15) - (1 : Int32), S13)))))))))))
        else
          bnd (f_M_found (9 : Int32) S6) (fun r15 S14 =>
          some (r15, S14)))
      else
        some ((-2 : Int32), S6)))))
theorem dX12_point_0 : decode cX12_point 0 = .ok (.iload_n 2, 1) := dc_28 (by decide +kernel)
theorem dX12_point_1 : decode cX12_point 1 = .ok (.invokestatic 232, 3) := dc_184 (a := 0) (b := 232) (by decide +kernel)
theorem dX12_point_4 : decode cX12_point 4 = .ok (.ifCond .ne 5, 3) := dc_154 (a := 0) (b := 5) (by decide +kernel) (by decide)
theorem dX12_point_7 : decode cX12_point 7 = .ok (.iconst (-1), 1) := dc_2 (by decide +kernel)
theorem dX12_point_8 : decode cX12_point 8 = .ok (.ireturn, 1) := dc_172 (by decide +kernel)
theorem dX12_point_9 : decode cX12_point 9 = .ok (.aload_n 0, 1) := dc_42 (by decide +kernel)
theorem dX12_point_10 : decode cX12_point 10 = .ok (.getfield 217, 3) := dc_180 (a := 0) (b := 217) (by decide +kernel)
theorem dX12_point_13 : decode cX12_point 13 = .ok (.bipush 40, 2) := dc_16 (a := 40) (by decide +kernel) (by decide)
theorem dX12_point_15 : decode cX12_point 15 = .ok (.if_icmp .ne 6, 3) := dc_160 (a := 0) (b := 6) (by decide +kernel) (by decide)
theorem dX12_point_18 : decode cX12_point 18 = .ok (.bipush (-3), 2) := dc_16 (a := 253) (by decide +kernel) (by decide)
theorem dX12_point_20 : decode cX12_point 20 = .ok (.ireturn, 1) := dc_172 (by decide +kernel)
theorem dX12_point_21 : decode cX12_point 21 = .ok (.aload_n 0, 1) := dc_42 (by decide +kernel)
theorem dX12_point_22 : decode cX12_point 22 = .ok (.invokevirtual 226, 3) := dc_182 (a := 0) (b := 226) (by decide +kernel)
theorem dX12_point_25 : decode cX12_point 25 = .ok (.aload_n 0, 1) := dc_42 (by decide +kernel)
theorem dX12_point_26 : decode cX12_point 26 = .ok (.aload_n 0, 1) := dc_42 (by decide +kernel)
theorem dX12_point_27 : decode cX12_point 27 = .ok (.iload_n 1, 1) := dc_27 (by decide +kernel)
theorem dX12_point_28 : decode cX12_point 28 = .ok (.invokevirtual 223, 3) := dc_182 (a := 0) (b := 223) (by decide +kernel)
theorem dX12_point_31 : decode cX12_point 31 = .ok (.invokevirtual 236, 3) := dc_182 (a := 0) (b := 236) (by decide +kernel)
theorem dX12_point_34 : decode cX12_point 34 = .ok (.ifCond .eq 6, 3) := dc_153 (a := 0) (b := 6) (by decide +kernel) (by decide)
theorem dX12_point_37 : decode cX12_point 37 = .ok (.bipush (-2), 2) := dc_16 (a := 254) (by decide +kernel) (by decide)
theorem dX12_point_39 : decode cX12_point 39 = .ok (.ireturn, 1) := dc_172 (by decide +kernel)
theorem dX12_point_40 : decode cX12_point 40 = .ok (.aload_n 0, 1) := dc_42 (by decide +kernel)
theorem dX12_point_41 : decode cX12_point 41 = .ok (.getfield 30, 3) := dc_180 (a := 0) (b := 30) (by decide +kernel)
theorem dX12_point_44 : decode cX12_point 44 = .ok (.iconst 2, 1) := dc_5 (by decide +kernel)
theorem dX12_point_45 : decode cX12_point 45 = .ok (.iload_n 1, 1) := dc_27 (by decide +kernel)
theorem dX12_point_46 : decode cX12_point 46 = .ok (.imul, 1) := dc_104 (by decide +kernel)
theorem dX12_point_47 : decode cX12_point 47 = .ok (.iload_n 2, 1) := dc_28 (by decide +kernel)
theorem dX12_point_48 : decode cX12_point 48 = .ok (.iadd, 1) := dc_96 (by decide +kernel)
theorem dX12_point_49 : decode cX12_point 49 = .ok (.iaload, 1) := dc_46 (by decide +kernel)
theorem dX12_point_50 : decode cX12_point 50 = .ok (.bipush (-4), 2) := dc_16 (a := 252) (by decide +kernel) (by decide)
theorem dX12_point_52 : decode cX12_point 52 = .ok (.if_icmp .eq 10, 3) := dc_159 (a := 0) (b := 10) (by decide +kernel) (by decide)
theorem dX12_point_55 : decode cX12_point 55 = .ok (.aload_n 0, 1) := dc_42 (by decide +kernel)
theorem dX12_point_56 : decode cX12_point 56 = .ok (.bipush 9, 2) := dc_16 (a := 9) (by decide +kernel) (by decide)
theorem dX12_point_58 : decode cX12_point 58 = .ok (.invokevirtual 210, 3) := dc_182 (a := 0) (b := 210) (by decide +kernel)
theorem dX12_point_61 : decode cX12_point 61 = .ok (.ireturn, 1) := dc_172 (by decide +kernel)
theorem dX12_point_62 : decode cX12_point 62 = .ok (.aload_n 0, 1) := dc_42 (by decide +kernel)
theorem dX12_point_63 : decode cX12_point 63 = .ok (.getfield 30, 3) := dc_180 (a := 0) (b := 30) (by decide +kernel)
theorem dX12_point_66 : decode cX12_point 66 = .ok (.iconst 2, 1) := dc_5 (by decide +kernel)
theorem dX12_point_67 : decode cX12_point 67 = .ok (.iload_n 1, 1) := dc_27 (by decide +kernel)
theorem dX12_point_68 : decode cX12_point 68 = .ok (.imul, 1) := dc_104 (by decide +kernel)
theorem dX12_point_69 : decode cX12_point 69 = .ok (.iload_n 2, 1) := dc_28 (by decide +kernel)
theorem dX12_point_70 : decode cX12_point 70 = .ok (.iadd, 1) := dc_96 (by decide +kernel)
theorem dX12_point_71 : decode cX12_point 71 = .ok (.aload_n 0, 1) := dc_42 (by decide +kernel)
theorem dX12_point_72 : decode cX12_point 72 = .ok (.getfield 217, 3) := dc_180 (a := 0) (b := 217) (by decide +kernel)
theorem dX12_point_75 : decode cX12_point 75 = .ok (.iastore, 1) := dc_79 (by decide +kernel)
theorem dX12_point_76 : decode cX12_point 76 = .ok (.aload_n 0, 1) := dc_42 (by decide +kernel)
theorem dX12_point_77 : decode cX12_point 77 = .ok (.getfield 42, 3) := dc_180 (a := 0) (b := 42) (by decide +kernel)
theorem dX12_point_80 : decode cX12_point 80 = .ok (.aload_n 0, 1) := dc_42 (by decide +kernel)
theorem dX12_point_81 : decode cX12_point 81 = .ok (.getfield 217, 3) := dc_180 (a := 0) (b := 217) (by decide +kernel)
theorem dX12_point_84 : decode cX12_point 84 = .ok (.iconst 2, 1) := dc_5 (by decide +kernel)
theorem dX12_point_85 : decode cX12_point 85 = .ok (.iload_n 1, 1) := dc_27 (by decide +kernel)
theorem dX12_point_86 : decode cX12_point 86 = .ok (.imul, 1) := dc_104 (by decide +kernel)
theorem dX12_point_87 : decode cX12_point 87 = .ok (.iload_n 2, 1) := dc_28 (by decide +kernel)
theorem dX12_point_88 : decode cX12_point 88 = .ok (.iadd, 1) := dc_96 (by decide +kernel)
theorem dX12_point_89 : decode cX12_point 89 = .ok (.iastore, 1) := dc_79 (by decide +kernel)
theorem dX12_point_90 : decode cX12_point 90 = .ok (.aload_n 0, 1) := dc_42 (by decide +kernel)
theorem dX12_point_91 : decode cX12_point 91 = .ok (.getfield 45, 3) := dc_180 (a := 0) (b := 45) (by decide +kernel)
theorem dX12_point_94 : decode cX12_point 94 = .ok (.aload_n 0, 1) := dc_42 (by decide +kernel)
theorem dX12_point_95 : decode cX12_point 95 = .ok (.getfield 217, 3) := dc_180 (a := 0) (b := 217) (by decide +kernel)
theorem dX12_point_98 : decode cX12_point 98 = .ok (.iconst 0, 1) := dc_3 (by decide +kernel)
theorem dX12_point_99 : decode cX12_point 99 = .ok (.iastore, 1) := dc_79 (by decide +kernel)
theorem dX12_point_100 : decode cX12_point 100 = .ok (.aload_n 0, 1) := dc_42 (by decide +kernel)
theorem dX12_point_101 : decode cX12_point 101 = .ok (.getfield 48, 3) := dc_180 (a := 0) (b := 48) (by decide +kernel)
theorem dX12_point_104 : decode cX12_point 104 = .ok (.aload_n 0, 1) := dc_42 (by decide +kernel)
theorem dX12_point_105 : decode cX12_point 105 = .ok (.getfield 217, 3) := dc_180 (a := 0) (b := 217) (by decide +kernel)
theorem dX12_point_108 : decode cX12_point 108 = .ok (.bipush (-4), 2) := dc_16 (a := 252) (by decide +kernel) (by decide)
theorem dX12_point_110 : decode cX12_point 110 = .ok (.iastore, 1) := dc_79 (by decide +kernel)
theorem dX12_point_111 : decode cX12_point 111 = .ok (.aload_n 0, 1) := dc_42 (by decide +kernel)
theorem dX12_point_112 : decode cX12_point 112 = .ok (.dup, 1) := dc_89 (by decide +kernel)
theorem dX12_point_113 : decode cX12_point 113 = .ok (.getfield 217, 3) := dc_180 (a := 0) (b := 217) (by decide +kernel)
theorem dX12_point_116 : decode cX12_point 116 = .ok (.iconst 1, 1) := dc_4 (by decide +kernel)
theorem dX12_point_117 : decode cX12_point 117 = .ok (.iadd, 1) := dc_96 (by decide +kernel)
theorem dX12_point_118 : decode cX12_point 118 = .ok (.putfield 217, 3) := dc_181 (a := 0) (b := 217) (by decide +kernel)
theorem dX12_point_121 : decode cX12_point 121 = .ok (.aload_n 0, 1) := dc_42 (by decide +kernel)
theorem dX12_point_122 : decode cX12_point 122 = .ok (.invokevirtual 229, 3) := dc_182 (a := 0) (b := 229) (by decide +kernel)
theorem dX12_point_125 : decode cX12_point 125 = .ok (.aload_n 0, 1) := dc_42 (by decide +kernel)
theorem dX12_point_126 : decode cX12_point 126 = .ok (.getfield 217, 3) := dc_180 (a := 0) (b := 217) (by decide +kernel)
theorem dX12_point_129 : decode cX12_point 129 = .ok (.iconst 1, 1) := dc_4 (by decide +kernel)
theorem dX12_point_130 : decode cX12_point 130 = .ok (.isub, 1) := dc_100 (by decide +kernel)
theorem dX12_point_131 : decode cX12_point 131 = .ok (.ireturn, 1) := dc_172 (by decide +kernel)
set_option maxRecDepth 100000 in
set_option maxHeartbeats 4000000 in
theorem m_M_point (a1 : Int32) (a2 : Int32) (S S' : SS) (r : Int32) (h : f_M_point a1 a2 S = some (r, S')) : MT yX12_point cX12_point 3 (some .int) 2 42 (fun ad => [.ref (ad 0), .int a1, .int a2]) S (some (.int r)) S' := by
  refine MT.of RX12 (fun ad => [(0, .ref (ad 0)), (1, .int a1), (2, .int a2)]) (by decide) rfl (fun _ => Nat.le_of_ble_eq_true rfl) (fun _ => rfl) ?_
  intro p l e R s m args below meth c dC dI cs ad A hR1 hR2 F H locs ls w hl
  have hx := F.1.1
  have hb := F.1.2.1
  rw [f_M_point] at h
  refine lv_iload_n (pc := 0) hx hb dX12_point_0 rfl (lv_at hl 2 rfl) ?_
  obtain ⟨r2, S1, hc, h⟩ := bnd_t h
  refine s_csi (pc := 1) [.int a2] (fun ad => [.int a2]) F w (m_M_isSide _ _ _ _ hc) rfl rfl hl.1 ok_X12_isSide rfl kc_X12_isSide kl_X12_232 ks_X12_isSide kn_X12 ⟨Nat.le_trans (by decide) hR1, Nat.le_trans (by decide) hR2⟩ ⟨Nat.zero_le _, Nat.zero_le _⟩ (Nat.le_of_ble_eq_true rfl) dX12_point_1 (fun H locs w => ?_)
  refine lv_if_ne (pc := 4) (tgt := 9) hx hb dX12_point_4 (by decide) (fun q => ?_) (fun q => ?_)
  · have h := ite_f q h
    refine lv_aload_n (pc := 9) hx hb dX12_point_9 rfl (lv_at hl 0 rfl) ?_
    refine s_getI (pc := 10) F w ds_0 (j := 15) vc_X12 vi_X12 rfl (by decide) kf_X12_217 dX12_point_10 ?_
    refine lv_bipush (pc := 13) (v := 40) hx hb dX12_point_13 (by decide) ?_
    refine lv_icmp_ne (pc := 15) (tgt := 21) hx hb dX12_point_15 (by decide) (fun q => ?_) (fun q => ?_)
    · have h := ite_f q h
      refine lv_aload_n (pc := 21) hx hb dX12_point_21 rfl (lv_at hl 0 rfl) ?_
      obtain ⟨S3, hc, h⟩ := bndv_t h
      refine s_cvv (pc := 22) [] (fun ad => [.ref (ad 0)]) F w (m_M_begin  _ _ hc) rfl rfl hl.1 ds_0 vc_X12 rfl ok_X12_begin rfl kc_X12_begin kl_X12_226 ki_X12_begin kv_X12_begin kn_X12 ⟨Nat.le_trans (by decide) hR1, Nat.le_trans (by decide) hR2⟩ ⟨Nat.zero_le _, Nat.zero_le _⟩ (Nat.le_of_ble_eq_true rfl) dX12_point_22 (fun H locs w => ?_)
      refine lv_aload_n (pc := 25) hx hb dX12_point_25 rfl (lv_at hl 0 rfl) ?_
      refine lv_aload_n (pc := 26) hx hb dX12_point_26 rfl (lv_at hl 0 rfl) ?_
      refine lv_iload_n (pc := 27) hx hb dX12_point_27 rfl (lv_at hl 1 rfl) ?_
      obtain ⟨r5, S4, hc, h⟩ := bnd_t h
      refine s_cvi (pc := 28) [.int a1] (fun ad => [.ref (ad 0), .int a1]) F w (m_M_missTrack _ _ _ _ hc) rfl rfl hl.1 ds_0 vc_X12 rfl ok_X12_missTrack rfl kc_X12_missTrack kl_X12_223 ki_X12_missTrack kv_X12_missTrack kn_X12 ⟨Nat.le_trans (by decide) hR1, Nat.le_trans (by decide) hR2⟩ ⟨Nat.zero_le _, Nat.zero_le _⟩ (Nat.le_of_ble_eq_true rfl) dX12_point_28 (fun H locs w => ?_)
      obtain ⟨r7, S6, hc, h⟩ := bnd_t h
      refine s_cvi (pc := 31) [.int r5] (fun ad => [.ref (ad 0), .int r5]) F w (m_M_ends _ _ _ _ hc) rfl rfl hl.1 ds_0 vc_X12 rfl ok_X12_ends rfl kc_X12_ends kl_X12_236 ki_X12_ends kv_X12_ends kn_X12 ⟨Nat.le_trans (by decide) hR1, Nat.le_trans (by decide) hR2⟩ ⟨Nat.zero_le _, Nat.zero_le _⟩ (Nat.le_of_ble_eq_true rfl) dX12_point_31 (fun H locs w => ?_)
      refine lv_if_eq (pc := 34) (tgt := 40) hx hb dX12_point_34 (by decide) (fun q => ?_) (fun q => ?_)
      · have h := ite_t q h
        refine lv_aload_n (pc := 40) hx hb dX12_point_40 rfl (lv_at hl 0 rfl) ?_
        refine s_getR (pc := 41) F w 5 ds_0 (j := 10) vc_X12 vi_X12 rfl (by decide) kf_X12_30 dX12_point_41 ?_
        refine lv_iconst (pc := 44) (v := 2) hx hb dX12_point_44 (by decide) ?_
        refine lv_iload_n (pc := 45) hx hb dX12_point_45 rfl (lv_at hl 1 rfl) ?_
        refine lv_imul (pc := 46) hx hb dX12_point_46 ?_
        refine lv_iload_n (pc := 47) hx hb dX12_point_47 rfl (lv_at hl 2 rfl) ?_
        refine lv_iadd (pc := 48) hx hb dX12_point_48 ?_
        refine s_iald (pc := 49) F w ds_5 h dX12_point_49 (fun h => ?_)
        refine lv_bipush (pc := 50) (v := -4) hx hb dX12_point_50 (by decide) ?_
        refine lv_icmp_eq (pc := 52) (tgt := 62) hx hb dX12_point_52 (by decide) (fun q => ?_) (fun q => ?_)
        · have h := ite_t q h
          refine lv_aload_n (pc := 62) hx hb dX12_point_62 rfl (lv_at hl 0 rfl) ?_
          refine s_getR (pc := 63) F w 5 ds_0 (j := 10) vc_X12 vi_X12 rfl (by decide) kf_X12_30 dX12_point_63 ?_
          refine lv_iconst (pc := 66) (v := 2) hx hb dX12_point_66 (by decide) ?_
          refine lv_iload_n (pc := 67) hx hb dX12_point_67 rfl (lv_at hl 1 rfl) ?_
          refine lv_imul (pc := 68) hx hb dX12_point_68 ?_
          refine lv_iload_n (pc := 69) hx hb dX12_point_69 rfl (lv_at hl 2 rfl) ?_
          refine lv_iadd (pc := 70) hx hb dX12_point_70 ?_
          refine lv_aload_n (pc := 71) hx hb dX12_point_71 rfl (lv_at hl 0 rfl) ?_
          refine s_getI (pc := 72) F w ds_0 (j := 15) vc_X12 vi_X12 rfl (by decide) kf_X12_217 dX12_point_72 ?_
          refine s_iast (pc := 75) F w ds_5 h dX12_point_75 (fun S8 H locs h w => ?_)
          refine lv_aload_n (pc := 76) hx hb dX12_point_76 rfl (lv_at hl 0 rfl) ?_
          refine s_getR (pc := 77) F w 9 ds_0 (j := 16) vc_X12 vi_X12 rfl (by decide) kf_X12_42 dX12_point_77 ?_
          refine lv_aload_n (pc := 80) hx hb dX12_point_80 rfl (lv_at hl 0 rfl) ?_
          refine s_getI (pc := 81) F w ds_0 (j := 15) vc_X12 vi_X12 rfl (by decide) kf_X12_217 dX12_point_81 ?_
          refine lv_iconst (pc := 84) (v := 2) hx hb dX12_point_84 (by decide) ?_
          refine lv_iload_n (pc := 85) hx hb dX12_point_85 rfl (lv_at hl 1 rfl) ?_
          refine lv_imul (pc := 86) hx hb dX12_point_86 ?_
          refine lv_iload_n (pc := 87) hx hb dX12_point_87 rfl (lv_at hl 2 rfl) ?_
          refine lv_iadd (pc := 88) hx hb dX12_point_88 ?_
          refine s_iast (pc := 89) F w ds_9 h dX12_point_89 (fun S9 H locs h w => ?_)
          refine lv_aload_n (pc := 90) hx hb dX12_point_90 rfl (lv_at hl 0 rfl) ?_
          refine s_getR (pc := 91) F w 10 ds_0 (j := 17) vc_X12 vi_X12 rfl (by decide) kf_X12_45 dX12_point_91 ?_
          refine lv_aload_n (pc := 94) hx hb dX12_point_94 rfl (lv_at hl 0 rfl) ?_
          refine s_getI (pc := 95) F w ds_0 (j := 15) vc_X12 vi_X12 rfl (by decide) kf_X12_217 dX12_point_95 ?_
          refine lv_iconst (pc := 98) (v := 0) hx hb dX12_point_98 (by decide) ?_
          refine s_iast (pc := 99) F w ds_10 h dX12_point_99 (fun S10 H locs h w => ?_)
          refine lv_aload_n (pc := 100) hx hb dX12_point_100 rfl (lv_at hl 0 rfl) ?_
          refine s_getR (pc := 101) F w 11 ds_0 (j := 18) vc_X12 vi_X12 rfl (by decide) kf_X12_48 dX12_point_101 ?_
          refine lv_aload_n (pc := 104) hx hb dX12_point_104 rfl (lv_at hl 0 rfl) ?_
          refine s_getI (pc := 105) F w ds_0 (j := 15) vc_X12 vi_X12 rfl (by decide) kf_X12_217 dX12_point_105 ?_
          refine lv_bipush (pc := 108) (v := -4) hx hb dX12_point_108 (by decide) ?_
          refine s_iast (pc := 110) F w ds_11 h dX12_point_110 (fun S11 H locs h w => ?_)
          refine lv_aload_n (pc := 111) hx hb dX12_point_111 rfl (lv_at hl 0 rfl) ?_
          refine lv_dup (pc := 112) hx hb dX12_point_112 rfl ?_
          refine s_getI (pc := 113) F w ds_0 (j := 15) vc_X12 vi_X12 rfl (by decide) kf_X12_217 dX12_point_113 ?_
          refine lv_iconst (pc := 116) (v := 1) hx hb dX12_point_116 (by decide) ?_
          refine lv_iadd (pc := 117) hx hb dX12_point_117 ?_
          refine s_putI (pc := 118) F w ds_0 vc_X12 vi_X12 tyX12_ok nmX12 (j := 15) rfl (by decide) kf_X12_217 rfl pd_I h dX12_point_118 (fun S12 H locs h w => ?_)
          refine lv_aload_n (pc := 121) hx hb dX12_point_121 rfl (lv_at hl 0 rfl) ?_
          obtain ⟨S13, hc, h⟩ := bndv_t h
          refine s_cvv (pc := 122) [] (fun ad => [.ref (ad 0)]) F w (m_M_forget  _ _ hc) rfl rfl hl.1 ds_0 vc_X12 rfl ok_X12_forget rfl kc_X12_forget kl_X12_229 ki_X12_forget kv_X12_forget kn_X12 ⟨Nat.le_trans (by decide) hR1, Nat.le_trans (by decide) hR2⟩ ⟨Nat.zero_le _, Nat.zero_le _⟩ (Nat.le_of_ble_eq_true rfl) dX12_point_122 (fun H locs w => ?_)
          refine lv_aload_n (pc := 125) hx hb dX12_point_125 rfl (lv_at hl 0 rfl) ?_
          refine s_getI (pc := 126) F w ds_0 (j := 15) vc_X12 vi_X12 rfl (by decide) kf_X12_217 dX12_point_126 ?_
          refine lv_iconst (pc := 129) (v := 1) hx hb dX12_point_129 (by decide) ?_
          refine lv_isub (pc := 130) hx hb dX12_point_130 ?_
          exact s_iret F w h dX12_point_131
        · have h := ite_f q h
          refine lv_aload_n (pc := 55) hx hb dX12_point_55 rfl (lv_at hl 0 rfl) ?_
          refine lv_bipush (pc := 56) (v := 9) hx hb dX12_point_56 (by decide) ?_
          obtain ⟨r15, S14, hc, h⟩ := bnd_t h
          refine s_cvi (pc := 58) [.int (9 : Int32)] (fun ad => [.ref (ad 0), .int (9 : Int32)]) F w (m_M_found _ _ _ _ hc) rfl rfl hl.1 ds_0 vc_X12 rfl ok_X12_found rfl kc_X12_found kl_X12_210 ki_X12_found kv_X12_found kn_X12 ⟨Nat.le_trans (by decide) hR1, Nat.le_trans (by decide) hR2⟩ ⟨Nat.zero_le _, Nat.zero_le _⟩ (Nat.le_of_ble_eq_true rfl) dX12_point_58 (fun H locs w => ?_)
          exact s_iret F w h dX12_point_61
      · have h := ite_f q h
        refine lv_bipush (pc := 37) (v := -2) hx hb dX12_point_37 (by decide) ?_
        exact s_iret F w h dX12_point_39
    · have h := ite_t q h
      refine lv_bipush (pc := 18) (v := -3) hx hb dX12_point_18 (by decide) ?_
      exact s_iret F w h dX12_point_20
  · have h := ite_t q h
    refine lv_iconst (pc := 7) (v := -1) hx hb dX12_point_7 (by decide) ?_
    exact s_iret F w h dX12_point_8
def f_M_mostLinks (a1 : Int32) (S : SS) : Option (Int32 × SS) :=
  grd (inb a1 48) (
  if (S.1 5 a1.toNatClampNeg) = (-4 : Int32) then
    some ((1 : Int32), S)
  else
    some ((3 : Int32), S))
theorem dX12_mostLinks_0 : decode cX12_mostLinks 0 = .ok (.aload_n 0, 1) := dc_42 (by decide +kernel)
theorem dX12_mostLinks_1 : decode cX12_mostLinks 1 = .ok (.getfield 30, 3) := dc_180 (a := 0) (b := 30) (by decide +kernel)
theorem dX12_mostLinks_4 : decode cX12_mostLinks 4 = .ok (.iload_n 1, 1) := dc_27 (by decide +kernel)
theorem dX12_mostLinks_5 : decode cX12_mostLinks 5 = .ok (.iaload, 1) := dc_46 (by decide +kernel)
theorem dX12_mostLinks_6 : decode cX12_mostLinks 6 = .ok (.bipush (-4), 2) := dc_16 (a := 252) (by decide +kernel) (by decide)
theorem dX12_mostLinks_8 : decode cX12_mostLinks 8 = .ok (.if_icmp .ne 7, 3) := dc_160 (a := 0) (b := 7) (by decide +kernel) (by decide)
theorem dX12_mostLinks_11 : decode cX12_mostLinks 11 = .ok (.iconst 1, 1) := dc_4 (by decide +kernel)
theorem dX12_mostLinks_12 : decode cX12_mostLinks 12 = .ok (.goto 4, 3) := dc_167 (a := 0) (b := 4) (by decide +kernel) (by decide)
theorem dX12_mostLinks_15 : decode cX12_mostLinks 15 = .ok (.iconst 3, 1) := dc_6 (by decide +kernel)
theorem dX12_mostLinks_16 : decode cX12_mostLinks 16 = .ok (.ireturn, 1) := dc_172 (by decide +kernel)
set_option maxRecDepth 100000 in
set_option maxHeartbeats 4000000 in
theorem m_M_mostLinks (a1 : Int32) (S S' : SS) (r : Int32) (h : f_M_mostLinks a1 S = some (r, S')) : MT yX12_mostLinks cX12_mostLinks 2 (some .int) 0 0 (fun ad => [.ref (ad 0), .int a1]) S (some (.int r)) S' := by
  refine MT.of RX12 (fun ad => [(0, .ref (ad 0)), (1, .int a1)]) (by decide) rfl (fun _ => Nat.le_of_ble_eq_true rfl) (fun _ => rfl) ?_
  intro p l e R s m args below meth c dC dI cs ad A hR1 hR2 F H locs ls w hl
  have hx := F.1.1
  have hb := F.1.2.1
  rw [f_M_mostLinks] at h
  refine lv_aload_n (pc := 0) hx hb dX12_mostLinks_0 rfl (lv_at hl 0 rfl) ?_
  refine s_getR (pc := 1) F w 5 ds_0 (j := 10) vc_X12 vi_X12 rfl (by decide) kf_X12_30 dX12_mostLinks_1 ?_
  refine lv_iload_n (pc := 4) hx hb dX12_mostLinks_4 rfl (lv_at hl 1 rfl) ?_
  refine s_iald (pc := 5) F w ds_5 h dX12_mostLinks_5 (fun h => ?_)
  refine lv_bipush (pc := 6) (v := -4) hx hb dX12_mostLinks_6 (by decide) ?_
  refine lv_icmp_ne (pc := 8) (tgt := 15) hx hb dX12_mostLinks_8 (by decide) (fun q => ?_) (fun q => ?_)
  · have h := ite_f q h
    refine lv_iconst (pc := 15) (v := 3) hx hb dX12_mostLinks_15 (by decide) ?_
    exact s_iret F w h dX12_mostLinks_16
  · have h := ite_t q h
    refine lv_iconst (pc := 11) (v := 1) hx hb dX12_mostLinks_11 (by decide) ?_
    refine lv_goto (pc := 12) (tgt := 16) hx hb dX12_mostLinks_12 (by decide) ?_
    exact s_iret F w h dX12_mostLinks_16
def f_M_link_j164   (S : SS) : Option (Int32 × SS) :=
    bnd (f_M_found (9 : Int32) S) (fun r17 S16 =>
    some (r17, S16))
def f_M_link_j119 (K80 : Int32 → Int32 → Int32 → Int32 → SS → Option (Int32 × SS)) (x5 : Int32) (x6 : Int32) (x8 : Int32) (y0 : Int32) (S : SS) : Option (Int32 × SS) :=
    nm (x8 + (1 : Int32)) (fun z30 =>
    K80 x5 x6 y0 z30 S)
def f_M_link_j114 (K80 : Int32 → Int32 → Int32 → Int32 → SS → Option (Int32 × SS)) (x5 : Int32) (x6 : Int32) (x8 : Int32) (S : SS) : Option (Int32 × SS) :=
    f_M_link_j119 K80 x5 x6 x8 (1 : Int32) S
def f_M_link_L80  : Nat → Int32 → Int32 → Int32 → Int32 → SS → Option (Int32 × SS)
  | 0, _, _, _, _, _ => none
  | n + 1, x5, x6, x7, x8, S =>
    grd (inb x5 48) (
    if (S.1 6 x5.toNatClampNeg) ≤ x8 then
      if x7 = 0 then
        grd (inb x5 48) (
        bnd (f_M_mostLinks x5 S) (fun r19 S18 =>
        if r19 ≤ (S.1 6 x5.toNatClampNeg) then
          f_M_link_j164  S18
        else
          grd (inb x6 48) (
          bnd (f_M_mostLinks x6 S18) (fun r21 S20 =>
          if (S18.1 6 x6.toNatClampNeg) < r21 then
            grd (inb x5 48) (
            grd (inb (((3 : Int32) * x5) + (S20.1 6 x5.toNatClampNeg)) 144) (wr S20 7 (((3 : Int32) * x5) + (S20.1 6 x5.toNatClampNeg)).toNatClampNeg x6 (fun S22 =>
            grd (inb x5 48) (
            grd (inb (((3 : Int32) * x5) + (S22.1 6 x5.toNatClampNeg)) 144) (wr S22 8 (((3 : Int32) * x5) + (S22.1 6 x5.toNatClampNeg)).toNatClampNeg (S22.1 0 14) (fun S23 =>
            grd (inb x5 48) (
            grd (inb x5 48) (wr S23 6 x5.toNatClampNeg ((S23.1 6 x5.toNatClampNeg) + (1 : Int32)) (fun S24 =>
            grd (inb x6 48) (
            grd (inb (((3 : Int32) * x6) + (S24.1 6 x6.toNatClampNeg)) 144) (wr S24 7 (((3 : Int32) * x6) + (S24.1 6 x6.toNatClampNeg)).toNatClampNeg x5 (fun S25 =>
            grd (inb x6 48) (
            grd (inb (((3 : Int32) * x6) + (S25.1 6 x6.toNatClampNeg)) 144) (wr S25 8 (((3 : Int32) * x6) + (S25.1 6 x6.toNatClampNeg)).toNatClampNeg (S25.1 0 14) (fun S26 =>
            grd (inb x6 48) (
            grd (inb x6 48) (wr S26 6 x6.toNatClampNeg ((S26.1 6 x6.toNatClampNeg) + (1 : Int32)) (fun S27 =>
            wr S27 0 14 ((S27.1 0 14) + (1 : Int32)) (fun S28 =>
            bndv (f_M_forget  S28) (fun S29 =>
            some ((1 : Int32), S29)))))))))))))))))))))
          else
            f_M_link_j164  S20))))
      else
        f_M_link_j164  S
    else
      if x7 = 0 then
        grd (inb (((3 : Int32) * x5) + x8) 144) (
        if (S.1 7 (((3 : Int32) * x5) + x8).toNatClampNeg) = x6 then
          f_M_link_j114 (fun v0 v1 v2 v3 S => f_M_link_L80 n v0 v1 v2 v3 S) x5 x6 x8 S
        else
          f_M_link_j119 (fun v0 v1 v2 v3 S => f_M_link_L80 n v0 v1 v2 v3 S) x5 x6 x8 (0 : Int32) S)
      else
        f_M_link_j114 (fun v0 v1 v2 v3 S => f_M_link_L80 n v0 v1 v2 v3 S) x5 x6 x8 S)
def f_M_link_j75  (x5 : Int32) (x6 : Int32) (y0 : Int32) (S : SS) : Option (Int32 × SS) :=
    f_M_link_L80 NF x5 x6 y0 (0 : Int32) S
def f_M_link (a1 : Int32) (a2 : Int32) (a3 : Int32) (a4 : Int32) (S : SS) : Option (Int32 × SS) :=
  bnd (f_M_isSide a2 S) (fun r2 S1 =>
  if r2 = 0 then
    some ((-1 : Int32), S1)
  else
    bnd (f_M_isSide a4 S1) (fun r4 S3 =>
    if r4 = 0 then
      some ((-1 : Int32), S3)
    else
      bndv (f_M_begin  S3) (fun S5 =>
      bnd (f_M_missTrack a1 S5) (fun r7 S6 =>
      bnd (f_M_ends r7 S6) (fun r9 S8 =>
      if r9 = 0 then
        bnd (f_M_missTrack a3 S8) (fun r11 S10 =>
        bnd (f_M_ends r11 S10) (fun r13 S12 =>
        if r13 = 0 then
          nm (((2 : Int32) * a1) + a2) (fun z14 =>
          nm (((2 : Int32) * a3) + a4) (fun z15 =>
          if z14 = z15 then
            f_M_link_j75 z14 z15 (1 : Int32) S12
          else
            f_M_link_j75 z14 z15 (0 : Int32) S12))
        else
          some ((-2 : Int32), S12)))
      else
        some ((-2 : Int32), S8))))))
theorem dX12_link_0 : decode cX12_link 0 = .ok (.iload_n 2, 1) := dc_28 (by decide +kernel)
theorem dX12_link_1 : decode cX12_link 1 = .ok (.invokestatic 232, 3) := dc_184 (a := 0) (b := 232) (by decide +kernel)
theorem dX12_link_4 : decode cX12_link 4 = .ok (.ifCond .eq 11, 3) := dc_153 (a := 0) (b := 11) (by decide +kernel) (by decide)
theorem dX12_link_7 : decode cX12_link 7 = .ok (.iload 4, 2) := dc_21 (a := 4) (by decide +kernel)
theorem dX12_link_9 : decode cX12_link 9 = .ok (.invokestatic 232, 3) := dc_184 (a := 0) (b := 232) (by decide +kernel)
theorem dX12_link_12 : decode cX12_link 12 = .ok (.ifCond .ne 5, 3) := dc_154 (a := 0) (b := 5) (by decide +kernel) (by decide)
theorem dX12_link_15 : decode cX12_link 15 = .ok (.iconst (-1), 1) := dc_2 (by decide +kernel)
theorem dX12_link_16 : decode cX12_link 16 = .ok (.ireturn, 1) := dc_172 (by decide +kernel)
theorem dX12_link_17 : decode cX12_link 17 = .ok (.aload_n 0, 1) := dc_42 (by decide +kernel)
theorem dX12_link_18 : decode cX12_link 18 = .ok (.invokevirtual 226, 3) := dc_182 (a := 0) (b := 226) (by decide +kernel)
theorem dX12_link_21 : decode cX12_link 21 = .ok (.aload_n 0, 1) := dc_42 (by decide +kernel)
theorem dX12_link_22 : decode cX12_link 22 = .ok (.aload_n 0, 1) := dc_42 (by decide +kernel)
theorem dX12_link_23 : decode cX12_link 23 = .ok (.iload_n 1, 1) := dc_27 (by decide +kernel)
theorem dX12_link_24 : decode cX12_link 24 = .ok (.invokevirtual 223, 3) := dc_182 (a := 0) (b := 223) (by decide +kernel)
theorem dX12_link_27 : decode cX12_link 27 = .ok (.invokevirtual 236, 3) := dc_182 (a := 0) (b := 236) (by decide +kernel)
theorem dX12_link_30 : decode cX12_link 30 = .ok (.ifCond .ne 15, 3) := dc_154 (a := 0) (b := 15) (by decide +kernel) (by decide)
theorem dX12_link_33 : decode cX12_link 33 = .ok (.aload_n 0, 1) := dc_42 (by decide +kernel)
theorem dX12_link_34 : decode cX12_link 34 = .ok (.aload_n 0, 1) := dc_42 (by decide +kernel)
theorem dX12_link_35 : decode cX12_link 35 = .ok (.iload_n 3, 1) := dc_29 (by decide +kernel)
theorem dX12_link_36 : decode cX12_link 36 = .ok (.invokevirtual 223, 3) := dc_182 (a := 0) (b := 223) (by decide +kernel)
theorem dX12_link_39 : decode cX12_link 39 = .ok (.invokevirtual 236, 3) := dc_182 (a := 0) (b := 236) (by decide +kernel)
theorem dX12_link_42 : decode cX12_link 42 = .ok (.ifCond .eq 6, 3) := dc_153 (a := 0) (b := 6) (by decide +kernel) (by decide)
theorem dX12_link_45 : decode cX12_link 45 = .ok (.bipush (-2), 2) := dc_16 (a := 254) (by decide +kernel) (by decide)
theorem dX12_link_47 : decode cX12_link 47 = .ok (.ireturn, 1) := dc_172 (by decide +kernel)
theorem dX12_link_48 : decode cX12_link 48 = .ok (.iconst 2, 1) := dc_5 (by decide +kernel)
theorem dX12_link_49 : decode cX12_link 49 = .ok (.iload_n 1, 1) := dc_27 (by decide +kernel)
theorem dX12_link_50 : decode cX12_link 50 = .ok (.imul, 1) := dc_104 (by decide +kernel)
theorem dX12_link_51 : decode cX12_link 51 = .ok (.iload_n 2, 1) := dc_28 (by decide +kernel)
theorem dX12_link_52 : decode cX12_link 52 = .ok (.iadd, 1) := dc_96 (by decide +kernel)
theorem dX12_link_53 : decode cX12_link 53 = .ok (.istore 5, 2) := dc_54 (a := 5) (by decide +kernel)
theorem dX12_link_55 : decode cX12_link 55 = .ok (.iconst 2, 1) := dc_5 (by decide +kernel)
theorem dX12_link_56 : decode cX12_link 56 = .ok (.iload_n 3, 1) := dc_29 (by decide +kernel)
theorem dX12_link_57 : decode cX12_link 57 = .ok (.imul, 1) := dc_104 (by decide +kernel)
theorem dX12_link_58 : decode cX12_link 58 = .ok (.iload 4, 2) := dc_21 (a := 4) (by decide +kernel)
theorem dX12_link_60 : decode cX12_link 60 = .ok (.iadd, 1) := dc_96 (by decide +kernel)
theorem dX12_link_61 : decode cX12_link 61 = .ok (.istore 6, 2) := dc_54 (a := 6) (by decide +kernel)
theorem dX12_link_63 : decode cX12_link 63 = .ok (.iload 5, 2) := dc_21 (a := 5) (by decide +kernel)
theorem dX12_link_65 : decode cX12_link 65 = .ok (.iload 6, 2) := dc_21 (a := 6) (by decide +kernel)
theorem dX12_link_67 : decode cX12_link 67 = .ok (.if_icmp .ne 7, 3) := dc_160 (a := 0) (b := 7) (by decide +kernel) (by decide)
theorem dX12_link_70 : decode cX12_link 70 = .ok (.iconst 1, 1) := dc_4 (by decide +kernel)
theorem dX12_link_71 : decode cX12_link 71 = .ok (.goto 4, 3) := dc_167 (a := 0) (b := 4) (by decide +kernel) (by decide)
theorem dX12_link_74 : decode cX12_link 74 = .ok (.iconst 0, 1) := dc_3 (by decide +kernel)
theorem dX12_link_75 : decode cX12_link 75 = .ok (.istore 7, 2) := dc_54 (a := 7) (by decide +kernel)
theorem dX12_link_77 : decode cX12_link 77 = .ok (.iconst 0, 1) := dc_3 (by decide +kernel)
theorem dX12_link_78 : decode cX12_link 78 = .ok (.istore 8, 2) := dc_54 (a := 8) (by decide +kernel)
theorem dX12_link_80 : decode cX12_link 80 = .ok (.iload 8, 2) := dc_21 (a := 8) (by decide +kernel)
theorem dX12_link_82 : decode cX12_link 82 = .ok (.aload_n 0, 1) := dc_42 (by decide +kernel)
theorem dX12_link_83 : decode cX12_link 83 = .ok (.getfield 33, 3) := dc_180 (a := 0) (b := 33) (by decide +kernel)
theorem dX12_link_86 : decode cX12_link 86 = .ok (.iload 5, 2) := dc_21 (a := 5) (by decide +kernel)
theorem dX12_link_88 : decode cX12_link 88 = .ok (.iaload, 1) := dc_46 (by decide +kernel)
theorem dX12_link_89 : decode cX12_link 89 = .ok (.if_icmp .ge 38, 3) := dc_162 (a := 0) (b := 38) (by decide +kernel) (by decide)
theorem dX12_link_92 : decode cX12_link 92 = .ok (.iload 7, 2) := dc_21 (a := 7) (by decide +kernel)
theorem dX12_link_94 : decode cX12_link 94 = .ok (.ifCond .ne 20, 3) := dc_154 (a := 0) (b := 20) (by decide +kernel) (by decide)
theorem dX12_link_97 : decode cX12_link 97 = .ok (.aload_n 0, 1) := dc_42 (by decide +kernel)
theorem dX12_link_98 : decode cX12_link 98 = .ok (.getfield 36, 3) := dc_180 (a := 0) (b := 36) (by decide +kernel)
theorem dX12_link_101 : decode cX12_link 101 = .ok (.iconst 3, 1) := dc_6 (by decide +kernel)
theorem dX12_link_102 : decode cX12_link 102 = .ok (.iload 5, 2) := dc_21 (a := 5) (by decide +kernel)
theorem dX12_link_104 : decode cX12_link 104 = .ok (.imul, 1) := dc_104 (by decide +kernel)
theorem dX12_link_105 : decode cX12_link 105 = .ok (.iload 8, 2) := dc_21 (a := 8) (by decide +kernel)
theorem dX12_link_107 : decode cX12_link 107 = .ok (.iadd, 1) := dc_96 (by decide +kernel)
theorem dX12_link_108 : decode cX12_link 108 = .ok (.iaload, 1) := dc_46 (by decide +kernel)
theorem dX12_link_109 : decode cX12_link 109 = .ok (.iload 6, 2) := dc_21 (a := 6) (by decide +kernel)
theorem dX12_link_111 : decode cX12_link 111 = .ok (.if_icmp .ne 7, 3) := dc_160 (a := 0) (b := 7) (by decide +kernel) (by decide)
theorem dX12_link_114 : decode cX12_link 114 = .ok (.iconst 1, 1) := dc_4 (by decide +kernel)
theorem dX12_link_115 : decode cX12_link 115 = .ok (.goto 4, 3) := dc_167 (a := 0) (b := 4) (by decide +kernel) (by decide)
theorem dX12_link_118 : decode cX12_link 118 = .ok (.iconst 0, 1) := dc_3 (by decide +kernel)
theorem dX12_link_119 : decode cX12_link 119 = .ok (.istore 7, 2) := dc_54 (a := 7) (by decide +kernel)
theorem dX12_link_121 : decode cX12_link 121 = .ok (.iinc 8 1, 3) := dc_132 (a := 8) (b := 1) (by decide +kernel) (by decide)
theorem dX12_link_124 : decode cX12_link 124 = .ok (.goto (-44), 3) := dc_167 (a := 255) (b := 212) (by decide +kernel) (by decide)
theorem dX12_link_127 : decode cX12_link 127 = .ok (.iload 7, 2) := dc_21 (a := 7) (by decide +kernel)
theorem dX12_link_129 : decode cX12_link 129 = .ok (.ifCond .ne 35, 3) := dc_154 (a := 0) (b := 35) (by decide +kernel) (by decide)
theorem dX12_link_132 : decode cX12_link 132 = .ok (.aload_n 0, 1) := dc_42 (by decide +kernel)
theorem dX12_link_133 : decode cX12_link 133 = .ok (.getfield 33, 3) := dc_180 (a := 0) (b := 33) (by decide +kernel)
theorem dX12_link_136 : decode cX12_link 136 = .ok (.iload 5, 2) := dc_21 (a := 5) (by decide +kernel)
theorem dX12_link_138 : decode cX12_link 138 = .ok (.iaload, 1) := dc_46 (by decide +kernel)
theorem dX12_link_139 : decode cX12_link 139 = .ok (.aload_n 0, 1) := dc_42 (by decide +kernel)
theorem dX12_link_140 : decode cX12_link 140 = .ok (.iload 5, 2) := dc_21 (a := 5) (by decide +kernel)
theorem dX12_link_142 : decode cX12_link 142 = .ok (.invokevirtual 239, 3) := dc_182 (a := 0) (b := 239) (by decide +kernel)
theorem dX12_link_145 : decode cX12_link 145 = .ok (.if_icmp .ge 19, 3) := dc_162 (a := 0) (b := 19) (by decide +kernel) (by decide)
theorem dX12_link_148 : decode cX12_link 148 = .ok (.aload_n 0, 1) := dc_42 (by decide +kernel)
theorem dX12_link_149 : decode cX12_link 149 = .ok (.getfield 33, 3) := dc_180 (a := 0) (b := 33) (by decide +kernel)
theorem dX12_link_152 : decode cX12_link 152 = .ok (.iload 6, 2) := dc_21 (a := 6) (by decide +kernel)
theorem dX12_link_154 : decode cX12_link 154 = .ok (.iaload, 1) := dc_46 (by decide +kernel)
theorem dX12_link_155 : decode cX12_link 155 = .ok (.aload_n 0, 1) := dc_42 (by decide +kernel)
theorem dX12_link_156 : decode cX12_link 156 = .ok (.iload 6, 2) := dc_21 (a := 6) (by decide +kernel)
theorem dX12_link_158 : decode cX12_link 158 = .ok (.invokevirtual 239, 3) := dc_182 (a := 0) (b := 239) (by decide +kernel)
theorem dX12_link_161 : decode cX12_link 161 = .ok (.if_icmp .lt 10, 3) := dc_161 (a := 0) (b := 10) (by decide +kernel) (by decide)
theorem dX12_link_164 : decode cX12_link 164 = .ok (.aload_n 0, 1) := dc_42 (by decide +kernel)
theorem dX12_link_165 : decode cX12_link 165 = .ok (.bipush 9, 2) := dc_16 (a := 9) (by decide +kernel) (by decide)
theorem dX12_link_167 : decode cX12_link 167 = .ok (.invokevirtual 210, 3) := dc_182 (a := 0) (b := 210) (by decide +kernel)
theorem dX12_link_170 : decode cX12_link 170 = .ok (.ireturn, 1) := dc_172 (by decide +kernel)
theorem dX12_link_171 : decode cX12_link 171 = .ok (.aload_n 0, 1) := dc_42 (by decide +kernel)
theorem dX12_link_172 : decode cX12_link 172 = .ok (.getfield 36, 3) := dc_180 (a := 0) (b := 36) (by decide +kernel)
theorem dX12_link_175 : decode cX12_link 175 = .ok (.iconst 3, 1) := dc_6 (by decide +kernel)
theorem dX12_link_176 : decode cX12_link 176 = .ok (.iload 5, 2) := dc_21 (a := 5) (by decide +kernel)
theorem dX12_link_178 : decode cX12_link 178 = .ok (.imul, 1) := dc_104 (by decide +kernel)
theorem dX12_link_179 : decode cX12_link 179 = .ok (.aload_n 0, 1) := dc_42 (by decide +kernel)
theorem dX12_link_180 : decode cX12_link 180 = .ok (.getfield 33, 3) := dc_180 (a := 0) (b := 33) (by decide +kernel)
theorem dX12_link_183 : decode cX12_link 183 = .ok (.iload 5, 2) := dc_21 (a := 5) (by decide +kernel)
theorem dX12_link_185 : decode cX12_link 185 = .ok (.iaload, 1) := dc_46 (by decide +kernel)
theorem dX12_link_186 : decode cX12_link 186 = .ok (.iadd, 1) := dc_96 (by decide +kernel)
theorem dX12_link_187 : decode cX12_link 187 = .ok (.iload 6, 2) := dc_21 (a := 6) (by decide +kernel)
theorem dX12_link_189 : decode cX12_link 189 = .ok (.iastore, 1) := dc_79 (by decide +kernel)
theorem dX12_link_190 : decode cX12_link 190 = .ok (.aload_n 0, 1) := dc_42 (by decide +kernel)
theorem dX12_link_191 : decode cX12_link 191 = .ok (.getfield 39, 3) := dc_180 (a := 0) (b := 39) (by decide +kernel)
theorem dX12_link_194 : decode cX12_link 194 = .ok (.iconst 3, 1) := dc_6 (by decide +kernel)
theorem dX12_link_195 : decode cX12_link 195 = .ok (.iload 5, 2) := dc_21 (a := 5) (by decide +kernel)
theorem dX12_link_197 : decode cX12_link 197 = .ok (.imul, 1) := dc_104 (by decide +kernel)
theorem dX12_link_198 : decode cX12_link 198 = .ok (.aload_n 0, 1) := dc_42 (by decide +kernel)
theorem dX12_link_199 : decode cX12_link 199 = .ok (.getfield 33, 3) := dc_180 (a := 0) (b := 33) (by decide +kernel)
theorem dX12_link_202 : decode cX12_link 202 = .ok (.iload 5, 2) := dc_21 (a := 5) (by decide +kernel)
theorem dX12_link_204 : decode cX12_link 204 = .ok (.iaload, 1) := dc_46 (by decide +kernel)
theorem dX12_link_205 : decode cX12_link 205 = .ok (.iadd, 1) := dc_96 (by decide +kernel)
theorem dX12_link_206 : decode cX12_link 206 = .ok (.aload_n 0, 1) := dc_42 (by decide +kernel)
theorem dX12_link_207 : decode cX12_link 207 = .ok (.getfield 242, 3) := dc_180 (a := 0) (b := 242) (by decide +kernel)
theorem dX12_link_210 : decode cX12_link 210 = .ok (.iastore, 1) := dc_79 (by decide +kernel)
theorem dX12_link_211 : decode cX12_link 211 = .ok (.aload_n 0, 1) := dc_42 (by decide +kernel)
theorem dX12_link_212 : decode cX12_link 212 = .ok (.getfield 33, 3) := dc_180 (a := 0) (b := 33) (by decide +kernel)
theorem dX12_link_215 : decode cX12_link 215 = .ok (.iload 5, 2) := dc_21 (a := 5) (by decide +kernel)
theorem dX12_link_217 : decode cX12_link 217 = .ok (.dup2, 1) := dc_92 (by decide +kernel)
theorem dX12_link_218 : decode cX12_link 218 = .ok (.iaload, 1) := dc_46 (by decide +kernel)
theorem dX12_link_219 : decode cX12_link 219 = .ok (.iconst 1, 1) := dc_4 (by decide +kernel)
theorem dX12_link_220 : decode cX12_link 220 = .ok (.iadd, 1) := dc_96 (by decide +kernel)
theorem dX12_link_221 : decode cX12_link 221 = .ok (.iastore, 1) := dc_79 (by decide +kernel)
theorem dX12_link_222 : decode cX12_link 222 = .ok (.aload_n 0, 1) := dc_42 (by decide +kernel)
theorem dX12_link_223 : decode cX12_link 223 = .ok (.getfield 36, 3) := dc_180 (a := 0) (b := 36) (by decide +kernel)
theorem dX12_link_226 : decode cX12_link 226 = .ok (.iconst 3, 1) := dc_6 (by decide +kernel)
theorem dX12_link_227 : decode cX12_link 227 = .ok (.iload 6, 2) := dc_21 (a := 6) (by decide +kernel)
theorem dX12_link_229 : decode cX12_link 229 = .ok (.imul, 1) := dc_104 (by decide +kernel)
theorem dX12_link_230 : decode cX12_link 230 = .ok (.aload_n 0, 1) := dc_42 (by decide +kernel)
theorem dX12_link_231 : decode cX12_link 231 = .ok (.getfield 33, 3) := dc_180 (a := 0) (b := 33) (by decide +kernel)
theorem dX12_link_234 : decode cX12_link 234 = .ok (.iload 6, 2) := dc_21 (a := 6) (by decide +kernel)
theorem dX12_link_236 : decode cX12_link 236 = .ok (.iaload, 1) := dc_46 (by decide +kernel)
theorem dX12_link_237 : decode cX12_link 237 = .ok (.iadd, 1) := dc_96 (by decide +kernel)
theorem dX12_link_238 : decode cX12_link 238 = .ok (.iload 5, 2) := dc_21 (a := 5) (by decide +kernel)
theorem dX12_link_240 : decode cX12_link 240 = .ok (.iastore, 1) := dc_79 (by decide +kernel)
theorem dX12_link_241 : decode cX12_link 241 = .ok (.aload_n 0, 1) := dc_42 (by decide +kernel)
theorem dX12_link_242 : decode cX12_link 242 = .ok (.getfield 39, 3) := dc_180 (a := 0) (b := 39) (by decide +kernel)
theorem dX12_link_245 : decode cX12_link 245 = .ok (.iconst 3, 1) := dc_6 (by decide +kernel)
theorem dX12_link_246 : decode cX12_link 246 = .ok (.iload 6, 2) := dc_21 (a := 6) (by decide +kernel)
theorem dX12_link_248 : decode cX12_link 248 = .ok (.imul, 1) := dc_104 (by decide +kernel)
theorem dX12_link_249 : decode cX12_link 249 = .ok (.aload_n 0, 1) := dc_42 (by decide +kernel)
theorem dX12_link_250 : decode cX12_link 250 = .ok (.getfield 33, 3) := dc_180 (a := 0) (b := 33) (by decide +kernel)
theorem dX12_link_253 : decode cX12_link 253 = .ok (.iload 6, 2) := dc_21 (a := 6) (by decide +kernel)
theorem dX12_link_255 : decode cX12_link 255 = .ok (.iaload, 1) := dc_46 (by decide +kernel)
theorem dX12_link_256 : decode cX12_link 256 = .ok (.iadd, 1) := dc_96 (by decide +kernel)
theorem dX12_link_257 : decode cX12_link 257 = .ok (.aload_n 0, 1) := dc_42 (by decide +kernel)
theorem dX12_link_258 : decode cX12_link 258 = .ok (.getfield 242, 3) := dc_180 (a := 0) (b := 242) (by decide +kernel)
theorem dX12_link_261 : decode cX12_link 261 = .ok (.iastore, 1) := dc_79 (by decide +kernel)
theorem dX12_link_262 : decode cX12_link 262 = .ok (.aload_n 0, 1) := dc_42 (by decide +kernel)
theorem dX12_link_263 : decode cX12_link 263 = .ok (.getfield 33, 3) := dc_180 (a := 0) (b := 33) (by decide +kernel)
theorem dX12_link_266 : decode cX12_link 266 = .ok (.iload 6, 2) := dc_21 (a := 6) (by decide +kernel)
theorem dX12_link_268 : decode cX12_link 268 = .ok (.dup2, 1) := dc_92 (by decide +kernel)
theorem dX12_link_269 : decode cX12_link 269 = .ok (.iaload, 1) := dc_46 (by decide +kernel)
theorem dX12_link_270 : decode cX12_link 270 = .ok (.iconst 1, 1) := dc_4 (by decide +kernel)
theorem dX12_link_271 : decode cX12_link 271 = .ok (.iadd, 1) := dc_96 (by decide +kernel)
theorem dX12_link_272 : decode cX12_link 272 = .ok (.iastore, 1) := dc_79 (by decide +kernel)
theorem dX12_link_273 : decode cX12_link 273 = .ok (.aload_n 0, 1) := dc_42 (by decide +kernel)
theorem dX12_link_274 : decode cX12_link 274 = .ok (.dup, 1) := dc_89 (by decide +kernel)
theorem dX12_link_275 : decode cX12_link 275 = .ok (.getfield 242, 3) := dc_180 (a := 0) (b := 242) (by decide +kernel)
theorem dX12_link_278 : decode cX12_link 278 = .ok (.iconst 1, 1) := dc_4 (by decide +kernel)
theorem dX12_link_279 : decode cX12_link 279 = .ok (.iadd, 1) := dc_96 (by decide +kernel)
theorem dX12_link_280 : decode cX12_link 280 = .ok (.putfield 242, 3) := dc_181 (a := 0) (b := 242) (by decide +kernel)
theorem dX12_link_283 : decode cX12_link 283 = .ok (.aload_n 0, 1) := dc_42 (by decide +kernel)
theorem dX12_link_284 : decode cX12_link 284 = .ok (.invokevirtual 229, 3) := dc_182 (a := 0) (b := 229) (by decide +kernel)
theorem dX12_link_287 : decode cX12_link 287 = .ok (.iconst 1, 1) := dc_4 (by decide +kernel)
theorem dX12_link_288 : decode cX12_link 288 = .ok (.ireturn, 1) := dc_172 (by decide +kernel)
set_option maxRecDepth 100000 in
set_option maxHeartbeats 4000000 in
theorem w_M_link_j164 {p : Program} {l : Launch} {e : Env} {R : Room} {s : State} {m : MethodId} {args : Array Value} {below : List Frame} {meth : Method} {c : Code} {dC : Nat → ClassId} {dI : Nat → Nat → Nat} {cs : Nat → ClassId} {ad : Nat → Nat} {A : Nat → Prop} {D0 : Nat → Nat} {S' : SS} {r : Int32} (F : Fx p s m args meth c cX12_link 9 RX12 (some .int) dC dI cs A) (hR1 : 1 ≤ R.frames) (hR2 : 21 ≤ R.locals)  (S : SS) (h : f_M_link_j164  S = some (r, S')) : AW p l e R s m args below meth c dC dI cs ad A D0 (some (.int r)) S' 9 164 [(0, .ref (ad 0))] [] S := by
  have hx := F.1.1
  have hb := F.1.2.1
  intro H locs ls w hl
  rw [f_M_link_j164] at h
  refine lv_aload_n (pc := 164) hx hb dX12_link_164 rfl (lv_at hl 0 rfl) ?_
  refine lv_bipush (pc := 165) (v := 9) hx hb dX12_link_165 (by decide) ?_
  obtain ⟨r17, S16, hc, h⟩ := bnd_t h
  refine s_cvi (pc := 167) [.int (9 : Int32)] (fun ad => [.ref (ad 0), .int (9 : Int32)]) F w (m_M_found _ _ _ _ hc) rfl rfl hl.1 ds_0 vc_X12 rfl ok_X12_found rfl kc_X12_found kl_X12_210 ki_X12_found kv_X12_found kn_X12 ⟨Nat.le_trans (by decide) hR1, Nat.le_trans (by decide) hR2⟩ ⟨Nat.zero_le _, Nat.zero_le _⟩ (Nat.le_of_ble_eq_true rfl) dX12_link_167 (fun H locs w => ?_)
  exact s_iret F w h dX12_link_170
set_option maxRecDepth 100000 in
set_option maxHeartbeats 4000000 in
theorem w_M_link_j119 {p : Program} {l : Launch} {e : Env} {R : Room} {s : State} {m : MethodId} {args : Array Value} {below : List Frame} {meth : Method} {c : Code} {dC : Nat → ClassId} {dI : Nat → Nat → Nat} {cs : Nat → ClassId} {ad : Nat → Nat} {A : Nat → Prop} {D0 : Nat → Nat} {S' : SS} {r : Int32} (F : Fx p s m args meth c cX12_link 9 RX12 (some .int) dC dI cs A) (hR1 : 0 ≤ R.frames) (hR2 : 0 ≤ R.locals) (K80 : Int32 → Int32 → Int32 → Int32 → SS → Option (Int32 × SS)) (hK80 : ∀ (v0 : Int32) (v1 : Int32) (v2 : Int32) (v3 : Int32) (S : SS), K80 v0 v1 v2 v3 S = some (r, S') → AW p l e R s m args below meth c dC dI cs ad A D0 (some (.int r)) S' 9 80 [(0, .ref (ad 0)), (5, .int v0), (6, .int v1), (7, .int v2), (8, .int v3)] [] S) (x5 : Int32) (x6 : Int32) (x8 : Int32) (y0 : Int32) (S : SS) (h : f_M_link_j119 K80 x5 x6 x8 y0 S = some (r, S')) : AW p l e R s m args below meth c dC dI cs ad A D0 (some (.int r)) S' 9 119 [(0, .ref (ad 0)), (5, .int x5), (6, .int x6), (8, .int x8)] [.int y0] S := by
  have hx := F.1.1
  have hb := F.1.2.1
  intro H locs ls w hl
  rw [f_M_link_j119] at h
  refine lv_istore (pc := 119) (lv' := [(7, .int y0), (0, .ref (ad 0)), (5, .int x5), (6, .int x6), (8, .int x8)]) hx hb dX12_link_119 hl (by decide) rfl (fun ls hl => ?_)
  refine s_nm h (fun z30 ez30 h => ?_)
  refine lv_iinc (pc := 121) (v := z30) (lv' := [(8, .int z30), (7, .int y0), (0, .ref (ad 0)), (5, .int x5), (6, .int x6)]) hx hb dX12_link_121 hl (k := 4) rfl (by rw [ez30]; rfl) (by decide) rfl (fun ls hl => ?_)
  refine lv_goto (pc := 124) (tgt := 80) hx hb dX12_link_124 (by decide) ?_
  exact hK80 _ _ _ _ _ h _ _ _ w (lv_sub hl [2, 3, 4, 1, 0] rfl)
set_option maxRecDepth 100000 in
set_option maxHeartbeats 4000000 in
theorem w_M_link_j114 {p : Program} {l : Launch} {e : Env} {R : Room} {s : State} {m : MethodId} {args : Array Value} {below : List Frame} {meth : Method} {c : Code} {dC : Nat → ClassId} {dI : Nat → Nat → Nat} {cs : Nat → ClassId} {ad : Nat → Nat} {A : Nat → Prop} {D0 : Nat → Nat} {S' : SS} {r : Int32} (F : Fx p s m args meth c cX12_link 9 RX12 (some .int) dC dI cs A) (hR1 : 0 ≤ R.frames) (hR2 : 0 ≤ R.locals) (K80 : Int32 → Int32 → Int32 → Int32 → SS → Option (Int32 × SS)) (hK80 : ∀ (v0 : Int32) (v1 : Int32) (v2 : Int32) (v3 : Int32) (S : SS), K80 v0 v1 v2 v3 S = some (r, S') → AW p l e R s m args below meth c dC dI cs ad A D0 (some (.int r)) S' 9 80 [(0, .ref (ad 0)), (5, .int v0), (6, .int v1), (7, .int v2), (8, .int v3)] [] S) (x5 : Int32) (x6 : Int32) (x8 : Int32) (S : SS) (h : f_M_link_j114 K80 x5 x6 x8 S = some (r, S')) : AW p l e R s m args below meth c dC dI cs ad A D0 (some (.int r)) S' 9 114 [(0, .ref (ad 0)), (5, .int x5), (6, .int x6), (8, .int x8)] [] S := by
  have hx := F.1.1
  have hb := F.1.2.1
  intro H locs ls w hl
  rw [f_M_link_j114] at h
  refine lv_iconst (pc := 114) (v := 1) hx hb dX12_link_114 (by decide) ?_
  refine lv_goto (pc := 115) (tgt := 119) hx hb dX12_link_115 (by decide) ?_
  exact w_M_link_j119 F (Nat.le_trans (by decide) hR1) (Nat.le_trans (by decide) hR2) _ hK80 _ _ _ _ _ h _ _ _ w (lv_sub hl [0, 1, 2, 3] rfl)
set_option maxRecDepth 100000 in
set_option maxHeartbeats 4000000 in
theorem w_M_link_L80 {p : Program} {l : Launch} {e : Env} {R : Room} {s : State} {m : MethodId} {args : Array Value} {below : List Frame} {meth : Method} {c : Code} {dC : Nat → ClassId} {dI : Nat → Nat → Nat} {cs : Nat → ClassId} {ad : Nat → Nat} {A : Nat → Prop} {D0 : Nat → Nat} {S' : SS} {r : Int32} (F : Fx p s m args meth c cX12_link 9 RX12 (some .int) dC dI cs A) (hR1 : 1 ≤ R.frames) (hR2 : 21 ≤ R.locals) : ∀ (n : Nat) (x5 : Int32) (x6 : Int32) (x7 : Int32) (x8 : Int32) (S : SS), f_M_link_L80 n x5 x6 x7 x8 S = some (r, S') → AW p l e R s m args below meth c dC dI cs ad A D0 (some (.int r)) S' 9 80 [(0, .ref (ad 0)), (5, .int x5), (6, .int x6), (7, .int x7), (8, .int x8)] [] S := by
  have hx := F.1.1
  have hb := F.1.2.1
  intro n
  induction n with
  | zero => intro x5 x6 x7 x8 S h; cases h
  | succ n ih =>
    intro x5 x6 x7 x8 S h H locs ls w hl
    rw [f_M_link_L80] at h
    refine lv_iload (pc := 80) hx hb dX12_link_80 (lv_at hl 4 rfl) ?_
    refine lv_aload_n (pc := 82) hx hb dX12_link_82 rfl (lv_at hl 0 rfl) ?_
    refine s_getR (pc := 83) F w 6 ds_0 (j := 11) vc_X12 vi_X12 rfl (by decide) kf_X12_33 dX12_link_83 ?_
    refine lv_iload (pc := 86) hx hb dX12_link_86 (lv_at hl 1 rfl) ?_
    refine s_iald (pc := 88) F w ds_6 h dX12_link_88 (fun h => ?_)
    refine lv_icmp_ge (pc := 89) (tgt := 127) hx hb dX12_link_89 (by decide) (fun q => ?_) (fun q => ?_)
    · have h := ite_t q h
      refine lv_iload (pc := 127) hx hb dX12_link_127 (lv_at hl 3 rfl) ?_
      refine lv_if_ne (pc := 129) (tgt := 164) hx hb dX12_link_129 (by decide) (fun q => ?_) (fun q => ?_)
      · have h := ite_f q h
        exact w_M_link_j164 F (Nat.le_trans (by decide) hR1) (Nat.le_trans (by decide) hR2)  _ h _ _ _ w (lv_sub hl [0] rfl)
      · have h := ite_t q h
        refine lv_aload_n (pc := 132) hx hb dX12_link_132 rfl (lv_at hl 0 rfl) ?_
        refine s_getR (pc := 133) F w 6 ds_0 (j := 11) vc_X12 vi_X12 rfl (by decide) kf_X12_33 dX12_link_133 ?_
        refine lv_iload (pc := 136) hx hb dX12_link_136 (lv_at hl 1 rfl) ?_
        refine s_iald (pc := 138) F w ds_6 h dX12_link_138 (fun h => ?_)
        refine lv_aload_n (pc := 139) hx hb dX12_link_139 rfl (lv_at hl 0 rfl) ?_
        refine lv_iload (pc := 140) hx hb dX12_link_140 (lv_at hl 1 rfl) ?_
        obtain ⟨r19, S18, hc, h⟩ := bnd_t h
        refine s_cvi (pc := 142) [.int x5] (fun ad => [.ref (ad 0), .int x5]) F w (m_M_mostLinks _ _ _ _ hc) rfl rfl hl.1 ds_0 vc_X12 rfl ok_X12_mostLinks rfl kc_X12_mostLinks kl_X12_239 ki_X12_mostLinks kv_X12_mostLinks kn_X12 ⟨Nat.le_trans (by decide) hR1, Nat.le_trans (by decide) hR2⟩ ⟨Nat.zero_le _, Nat.zero_le _⟩ (Nat.le_of_ble_eq_true rfl) dX12_link_142 (fun H locs w => ?_)
        refine lv_icmp_ge (pc := 145) (tgt := 164) hx hb dX12_link_145 (by decide) (fun q => ?_) (fun q => ?_)
        · have h := ite_t q h
          exact w_M_link_j164 F (Nat.le_trans (by decide) hR1) (Nat.le_trans (by decide) hR2)  _ h _ _ _ w (lv_sub hl [0] rfl)
        · have h := ite_f q h
          refine lv_aload_n (pc := 148) hx hb dX12_link_148 rfl (lv_at hl 0 rfl) ?_
          refine s_getR (pc := 149) F w 6 ds_0 (j := 11) vc_X12 vi_X12 rfl (by decide) kf_X12_33 dX12_link_149 ?_
          refine lv_iload (pc := 152) hx hb dX12_link_152 (lv_at hl 2 rfl) ?_
          refine s_iald (pc := 154) F w ds_6 h dX12_link_154 (fun h => ?_)
          refine lv_aload_n (pc := 155) hx hb dX12_link_155 rfl (lv_at hl 0 rfl) ?_
          refine lv_iload (pc := 156) hx hb dX12_link_156 (lv_at hl 2 rfl) ?_
          obtain ⟨r21, S20, hc, h⟩ := bnd_t h
          refine s_cvi (pc := 158) [.int x6] (fun ad => [.ref (ad 0), .int x6]) F w (m_M_mostLinks _ _ _ _ hc) rfl rfl hl.1 ds_0 vc_X12 rfl ok_X12_mostLinks rfl kc_X12_mostLinks kl_X12_239 ki_X12_mostLinks kv_X12_mostLinks kn_X12 ⟨Nat.le_trans (by decide) hR1, Nat.le_trans (by decide) hR2⟩ ⟨Nat.zero_le _, Nat.zero_le _⟩ (Nat.le_of_ble_eq_true rfl) dX12_link_158 (fun H locs w => ?_)
          refine lv_icmp_lt (pc := 161) (tgt := 171) hx hb dX12_link_161 (by decide) (fun q => ?_) (fun q => ?_)
          · have h := ite_t q h
            refine lv_aload_n (pc := 171) hx hb dX12_link_171 rfl (lv_at hl 0 rfl) ?_
            refine s_getR (pc := 172) F w 7 ds_0 (j := 12) vc_X12 vi_X12 rfl (by decide) kf_X12_36 dX12_link_172 ?_
            refine lv_iconst (pc := 175) (v := 3) hx hb dX12_link_175 (by decide) ?_
            refine lv_iload (pc := 176) hx hb dX12_link_176 (lv_at hl 1 rfl) ?_
            refine lv_imul (pc := 178) hx hb dX12_link_178 ?_
            refine lv_aload_n (pc := 179) hx hb dX12_link_179 rfl (lv_at hl 0 rfl) ?_
            refine s_getR (pc := 180) F w 6 ds_0 (j := 11) vc_X12 vi_X12 rfl (by decide) kf_X12_33 dX12_link_180 ?_
            refine lv_iload (pc := 183) hx hb dX12_link_183 (lv_at hl 1 rfl) ?_
            refine s_iald (pc := 185) F w ds_6 h dX12_link_185 (fun h => ?_)
            refine lv_iadd (pc := 186) hx hb dX12_link_186 ?_
            refine lv_iload (pc := 187) hx hb dX12_link_187 (lv_at hl 2 rfl) ?_
            refine s_iast (pc := 189) F w ds_7 h dX12_link_189 (fun S22 H locs h w => ?_)
            refine lv_aload_n (pc := 190) hx hb dX12_link_190 rfl (lv_at hl 0 rfl) ?_
            refine s_getR (pc := 191) F w 8 ds_0 (j := 13) vc_X12 vi_X12 rfl (by decide) kf_X12_39 dX12_link_191 ?_
            refine lv_iconst (pc := 194) (v := 3) hx hb dX12_link_194 (by decide) ?_
            refine lv_iload (pc := 195) hx hb dX12_link_195 (lv_at hl 1 rfl) ?_
            refine lv_imul (pc := 197) hx hb dX12_link_197 ?_
            refine lv_aload_n (pc := 198) hx hb dX12_link_198 rfl (lv_at hl 0 rfl) ?_
            refine s_getR (pc := 199) F w 6 ds_0 (j := 11) vc_X12 vi_X12 rfl (by decide) kf_X12_33 dX12_link_199 ?_
            refine lv_iload (pc := 202) hx hb dX12_link_202 (lv_at hl 1 rfl) ?_
            refine s_iald (pc := 204) F w ds_6 h dX12_link_204 (fun h => ?_)
            refine lv_iadd (pc := 205) hx hb dX12_link_205 ?_
            refine lv_aload_n (pc := 206) hx hb dX12_link_206 rfl (lv_at hl 0 rfl) ?_
            refine s_getI (pc := 207) F w ds_0 (j := 14) vc_X12 vi_X12 rfl (by decide) kf_X12_242 dX12_link_207 ?_
            refine s_iast (pc := 210) F w ds_8 h dX12_link_210 (fun S23 H locs h w => ?_)
            refine lv_aload_n (pc := 211) hx hb dX12_link_211 rfl (lv_at hl 0 rfl) ?_
            refine s_getR (pc := 212) F w 6 ds_0 (j := 11) vc_X12 vi_X12 rfl (by decide) kf_X12_33 dX12_link_212 ?_
            refine lv_iload (pc := 215) hx hb dX12_link_215 (lv_at hl 1 rfl) ?_
            refine lv_dup2_11 (pc := 217) hx hb dX12_link_217 rfl rfl ?_
            refine s_iald (pc := 218) F w ds_6 h dX12_link_218 (fun h => ?_)
            refine lv_iconst (pc := 219) (v := 1) hx hb dX12_link_219 (by decide) ?_
            refine lv_iadd (pc := 220) hx hb dX12_link_220 ?_
            refine s_iast (pc := 221) F w ds_6 h dX12_link_221 (fun S24 H locs h w => ?_)
            refine lv_aload_n (pc := 222) hx hb dX12_link_222 rfl (lv_at hl 0 rfl) ?_
            refine s_getR (pc := 223) F w 7 ds_0 (j := 12) vc_X12 vi_X12 rfl (by decide) kf_X12_36 dX12_link_223 ?_
            refine lv_iconst (pc := 226) (v := 3) hx hb dX12_link_226 (by decide) ?_
            refine lv_iload (pc := 227) hx hb dX12_link_227 (lv_at hl 2 rfl) ?_
            refine lv_imul (pc := 229) hx hb dX12_link_229 ?_
            refine lv_aload_n (pc := 230) hx hb dX12_link_230 rfl (lv_at hl 0 rfl) ?_
            refine s_getR (pc := 231) F w 6 ds_0 (j := 11) vc_X12 vi_X12 rfl (by decide) kf_X12_33 dX12_link_231 ?_
            refine lv_iload (pc := 234) hx hb dX12_link_234 (lv_at hl 2 rfl) ?_
            refine s_iald (pc := 236) F w ds_6 h dX12_link_236 (fun h => ?_)
            refine lv_iadd (pc := 237) hx hb dX12_link_237 ?_
            refine lv_iload (pc := 238) hx hb dX12_link_238 (lv_at hl 1 rfl) ?_
            refine s_iast (pc := 240) F w ds_7 h dX12_link_240 (fun S25 H locs h w => ?_)
            refine lv_aload_n (pc := 241) hx hb dX12_link_241 rfl (lv_at hl 0 rfl) ?_
            refine s_getR (pc := 242) F w 8 ds_0 (j := 13) vc_X12 vi_X12 rfl (by decide) kf_X12_39 dX12_link_242 ?_
            refine lv_iconst (pc := 245) (v := 3) hx hb dX12_link_245 (by decide) ?_
            refine lv_iload (pc := 246) hx hb dX12_link_246 (lv_at hl 2 rfl) ?_
            refine lv_imul (pc := 248) hx hb dX12_link_248 ?_
            refine lv_aload_n (pc := 249) hx hb dX12_link_249 rfl (lv_at hl 0 rfl) ?_
            refine s_getR (pc := 250) F w 6 ds_0 (j := 11) vc_X12 vi_X12 rfl (by decide) kf_X12_33 dX12_link_250 ?_
            refine lv_iload (pc := 253) hx hb dX12_link_253 (lv_at hl 2 rfl) ?_
            refine s_iald (pc := 255) F w ds_6 h dX12_link_255 (fun h => ?_)
            refine lv_iadd (pc := 256) hx hb dX12_link_256 ?_
            refine lv_aload_n (pc := 257) hx hb dX12_link_257 rfl (lv_at hl 0 rfl) ?_
            refine s_getI (pc := 258) F w ds_0 (j := 14) vc_X12 vi_X12 rfl (by decide) kf_X12_242 dX12_link_258 ?_
            refine s_iast (pc := 261) F w ds_8 h dX12_link_261 (fun S26 H locs h w => ?_)
            refine lv_aload_n (pc := 262) hx hb dX12_link_262 rfl (lv_at hl 0 rfl) ?_
            refine s_getR (pc := 263) F w 6 ds_0 (j := 11) vc_X12 vi_X12 rfl (by decide) kf_X12_33 dX12_link_263 ?_
            refine lv_iload (pc := 266) hx hb dX12_link_266 (lv_at hl 2 rfl) ?_
            refine lv_dup2_11 (pc := 268) hx hb dX12_link_268 rfl rfl ?_
            refine s_iald (pc := 269) F w ds_6 h dX12_link_269 (fun h => ?_)
            refine lv_iconst (pc := 270) (v := 1) hx hb dX12_link_270 (by decide) ?_
            refine lv_iadd (pc := 271) hx hb dX12_link_271 ?_
            refine s_iast (pc := 272) F w ds_6 h dX12_link_272 (fun S27 H locs h w => ?_)
            refine lv_aload_n (pc := 273) hx hb dX12_link_273 rfl (lv_at hl 0 rfl) ?_
            refine lv_dup (pc := 274) hx hb dX12_link_274 rfl ?_
            refine s_getI (pc := 275) F w ds_0 (j := 14) vc_X12 vi_X12 rfl (by decide) kf_X12_242 dX12_link_275 ?_
            refine lv_iconst (pc := 278) (v := 1) hx hb dX12_link_278 (by decide) ?_
            refine lv_iadd (pc := 279) hx hb dX12_link_279 ?_
            refine s_putI (pc := 280) F w ds_0 vc_X12 vi_X12 tyX12_ok nmX12 (j := 14) rfl (by decide) kf_X12_242 rfl pd_I h dX12_link_280 (fun S28 H locs h w => ?_)
            refine lv_aload_n (pc := 283) hx hb dX12_link_283 rfl (lv_at hl 0 rfl) ?_
            obtain ⟨S29, hc, h⟩ := bndv_t h
            refine s_cvv (pc := 284) [] (fun ad => [.ref (ad 0)]) F w (m_M_forget  _ _ hc) rfl rfl hl.1 ds_0 vc_X12 rfl ok_X12_forget rfl kc_X12_forget kl_X12_229 ki_X12_forget kv_X12_forget kn_X12 ⟨Nat.le_trans (by decide) hR1, Nat.le_trans (by decide) hR2⟩ ⟨Nat.zero_le _, Nat.zero_le _⟩ (Nat.le_of_ble_eq_true rfl) dX12_link_284 (fun H locs w => ?_)
            refine lv_iconst (pc := 287) (v := 1) hx hb dX12_link_287 (by decide) ?_
            exact s_iret F w h dX12_link_288
          · have h := ite_f q h
            exact w_M_link_j164 F (Nat.le_trans (by decide) hR1) (Nat.le_trans (by decide) hR2)  _ h _ _ _ w (lv_sub hl [0] rfl)
    · have h := ite_f q h
      refine lv_iload (pc := 92) hx hb dX12_link_92 (lv_at hl 3 rfl) ?_
      refine lv_if_ne (pc := 94) (tgt := 114) hx hb dX12_link_94 (by decide) (fun q => ?_) (fun q => ?_)
      · have h := ite_f q h
        exact w_M_link_j114 F (Nat.le_trans (by decide) hR1) (Nat.le_trans (by decide) hR2) _ (fun v0 v1 v2 v3 S h => ih v0 v1 v2 v3 S h) _ _ _ _ h _ _ _ w (lv_sub hl [0, 1, 2, 4] rfl)
      · have h := ite_t q h
        refine lv_aload_n (pc := 97) hx hb dX12_link_97 rfl (lv_at hl 0 rfl) ?_
        refine s_getR (pc := 98) F w 7 ds_0 (j := 12) vc_X12 vi_X12 rfl (by decide) kf_X12_36 dX12_link_98 ?_
        refine lv_iconst (pc := 101) (v := 3) hx hb dX12_link_101 (by decide) ?_
        refine lv_iload (pc := 102) hx hb dX12_link_102 (lv_at hl 1 rfl) ?_
        refine lv_imul (pc := 104) hx hb dX12_link_104 ?_
        refine lv_iload (pc := 105) hx hb dX12_link_105 (lv_at hl 4 rfl) ?_
        refine lv_iadd (pc := 107) hx hb dX12_link_107 ?_
        refine s_iald (pc := 108) F w ds_7 h dX12_link_108 (fun h => ?_)
        refine lv_iload (pc := 109) hx hb dX12_link_109 (lv_at hl 2 rfl) ?_
        refine lv_icmp_ne (pc := 111) (tgt := 118) hx hb dX12_link_111 (by decide) (fun q => ?_) (fun q => ?_)
        · have h := ite_f q h
          refine lv_iconst (pc := 118) (v := 0) hx hb dX12_link_118 (by decide) ?_
          exact w_M_link_j119 F (Nat.le_trans (by decide) hR1) (Nat.le_trans (by decide) hR2) _ (fun v0 v1 v2 v3 S h => ih v0 v1 v2 v3 S h) _ _ _ _ _ h _ _ _ w (lv_sub hl [0, 1, 2, 4] rfl)
        · have h := ite_t q h
          exact w_M_link_j114 F (Nat.le_trans (by decide) hR1) (Nat.le_trans (by decide) hR2) _ (fun v0 v1 v2 v3 S h => ih v0 v1 v2 v3 S h) _ _ _ _ h _ _ _ w (lv_sub hl [0, 1, 2, 4] rfl)
set_option maxRecDepth 100000 in
set_option maxHeartbeats 4000000 in
theorem w_M_link_j75 {p : Program} {l : Launch} {e : Env} {R : Room} {s : State} {m : MethodId} {args : Array Value} {below : List Frame} {meth : Method} {c : Code} {dC : Nat → ClassId} {dI : Nat → Nat → Nat} {cs : Nat → ClassId} {ad : Nat → Nat} {A : Nat → Prop} {D0 : Nat → Nat} {S' : SS} {r : Int32} (F : Fx p s m args meth c cX12_link 9 RX12 (some .int) dC dI cs A) (hR1 : 1 ≤ R.frames) (hR2 : 21 ≤ R.locals) (x5 : Int32) (x6 : Int32) (y0 : Int32) (S : SS) (h : f_M_link_j75 x5 x6 y0 S = some (r, S')) : AW p l e R s m args below meth c dC dI cs ad A D0 (some (.int r)) S' 9 75 [(0, .ref (ad 0)), (5, .int x5), (6, .int x6)] [.int y0] S := by
  have hx := F.1.1
  have hb := F.1.2.1
  intro H locs ls w hl
  rw [f_M_link_j75] at h
  refine lv_istore (pc := 75) (lv' := [(7, .int y0), (0, .ref (ad 0)), (5, .int x5), (6, .int x6)]) hx hb dX12_link_75 hl (by decide) rfl (fun ls hl => ?_)
  refine lv_iconst (pc := 77) (v := 0) hx hb dX12_link_77 (by decide) ?_
  refine lv_istore (pc := 78) (lv' := [(8, .int (0 : Int32)), (7, .int y0), (0, .ref (ad 0)), (5, .int x5), (6, .int x6)]) hx hb dX12_link_78 hl (by decide) rfl (fun ls hl => ?_)
  exact w_M_link_L80 F (Nat.le_trans (by decide) hR1) (Nat.le_trans (by decide) hR2) _ _ _ _ _ _ h _ _ _ w (lv_sub hl [2, 3, 4, 1, 0] rfl)
set_option maxRecDepth 100000 in
set_option maxHeartbeats 4000000 in
theorem m_M_link (a1 : Int32) (a2 : Int32) (a3 : Int32) (a4 : Int32) (S S' : SS) (r : Int32) (h : f_M_link a1 a2 a3 a4 S = some (r, S')) : MT yX12_link cX12_link 9 (some .int) 2 42 (fun ad => [.ref (ad 0), .int a1, .int a2, .int a3, .int a4]) S (some (.int r)) S' := by
  refine MT.of RX12 (fun ad => [(0, .ref (ad 0)), (1, .int a1), (2, .int a2), (3, .int a3), (4, .int a4)]) (by decide) rfl (fun _ => Nat.le_of_ble_eq_true rfl) (fun _ => rfl) ?_
  intro p l e R s m args below meth c dC dI cs ad A hR1 hR2 F H locs ls w hl
  have hx := F.1.1
  have hb := F.1.2.1
  rw [f_M_link] at h
  refine lv_iload_n (pc := 0) hx hb dX12_link_0 rfl (lv_at hl 2 rfl) ?_
  obtain ⟨r2, S1, hc, h⟩ := bnd_t h
  refine s_csi (pc := 1) [.int a2] (fun ad => [.int a2]) F w (m_M_isSide _ _ _ _ hc) rfl rfl hl.1 ok_X12_isSide rfl kc_X12_isSide kl_X12_232 ks_X12_isSide kn_X12 ⟨Nat.le_trans (by decide) hR1, Nat.le_trans (by decide) hR2⟩ ⟨Nat.zero_le _, Nat.zero_le _⟩ (Nat.le_of_ble_eq_true rfl) dX12_link_1 (fun H locs w => ?_)
  refine lv_if_eq (pc := 4) (tgt := 15) hx hb dX12_link_4 (by decide) (fun q => ?_) (fun q => ?_)
  · have h := ite_t q h
    refine lv_iconst (pc := 15) (v := -1) hx hb dX12_link_15 (by decide) ?_
    exact s_iret F w h dX12_link_16
  · have h := ite_f q h
    refine lv_iload (pc := 7) hx hb dX12_link_7 (lv_at hl 4 rfl) ?_
    obtain ⟨r4, S3, hc, h⟩ := bnd_t h
    refine s_csi (pc := 9) [.int a4] (fun ad => [.int a4]) F w (m_M_isSide _ _ _ _ hc) rfl rfl hl.1 ok_X12_isSide rfl kc_X12_isSide kl_X12_232 ks_X12_isSide kn_X12 ⟨Nat.le_trans (by decide) hR1, Nat.le_trans (by decide) hR2⟩ ⟨Nat.zero_le _, Nat.zero_le _⟩ (Nat.le_of_ble_eq_true rfl) dX12_link_9 (fun H locs w => ?_)
    refine lv_if_ne (pc := 12) (tgt := 17) hx hb dX12_link_12 (by decide) (fun q => ?_) (fun q => ?_)
    · have h := ite_f q h
      refine lv_aload_n (pc := 17) hx hb dX12_link_17 rfl (lv_at hl 0 rfl) ?_
      obtain ⟨S5, hc, h⟩ := bndv_t h
      refine s_cvv (pc := 18) [] (fun ad => [.ref (ad 0)]) F w (m_M_begin  _ _ hc) rfl rfl hl.1 ds_0 vc_X12 rfl ok_X12_begin rfl kc_X12_begin kl_X12_226 ki_X12_begin kv_X12_begin kn_X12 ⟨Nat.le_trans (by decide) hR1, Nat.le_trans (by decide) hR2⟩ ⟨Nat.zero_le _, Nat.zero_le _⟩ (Nat.le_of_ble_eq_true rfl) dX12_link_18 (fun H locs w => ?_)
      refine lv_aload_n (pc := 21) hx hb dX12_link_21 rfl (lv_at hl 0 rfl) ?_
      refine lv_aload_n (pc := 22) hx hb dX12_link_22 rfl (lv_at hl 0 rfl) ?_
      refine lv_iload_n (pc := 23) hx hb dX12_link_23 rfl (lv_at hl 1 rfl) ?_
      obtain ⟨r7, S6, hc, h⟩ := bnd_t h
      refine s_cvi (pc := 24) [.int a1] (fun ad => [.ref (ad 0), .int a1]) F w (m_M_missTrack _ _ _ _ hc) rfl rfl hl.1 ds_0 vc_X12 rfl ok_X12_missTrack rfl kc_X12_missTrack kl_X12_223 ki_X12_missTrack kv_X12_missTrack kn_X12 ⟨Nat.le_trans (by decide) hR1, Nat.le_trans (by decide) hR2⟩ ⟨Nat.zero_le _, Nat.zero_le _⟩ (Nat.le_of_ble_eq_true rfl) dX12_link_24 (fun H locs w => ?_)
      obtain ⟨r9, S8, hc, h⟩ := bnd_t h
      refine s_cvi (pc := 27) [.int r7] (fun ad => [.ref (ad 0), .int r7]) F w (m_M_ends _ _ _ _ hc) rfl rfl hl.1 ds_0 vc_X12 rfl ok_X12_ends rfl kc_X12_ends kl_X12_236 ki_X12_ends kv_X12_ends kn_X12 ⟨Nat.le_trans (by decide) hR1, Nat.le_trans (by decide) hR2⟩ ⟨Nat.zero_le _, Nat.zero_le _⟩ (Nat.le_of_ble_eq_true rfl) dX12_link_27 (fun H locs w => ?_)
      refine lv_if_ne (pc := 30) (tgt := 45) hx hb dX12_link_30 (by decide) (fun q => ?_) (fun q => ?_)
      · have h := ite_f q h
        refine lv_bipush (pc := 45) (v := -2) hx hb dX12_link_45 (by decide) ?_
        exact s_iret F w h dX12_link_47
      · have h := ite_t q h
        refine lv_aload_n (pc := 33) hx hb dX12_link_33 rfl (lv_at hl 0 rfl) ?_
        refine lv_aload_n (pc := 34) hx hb dX12_link_34 rfl (lv_at hl 0 rfl) ?_
        refine lv_iload_n (pc := 35) hx hb dX12_link_35 rfl (lv_at hl 3 rfl) ?_
        obtain ⟨r11, S10, hc, h⟩ := bnd_t h
        refine s_cvi (pc := 36) [.int a3] (fun ad => [.ref (ad 0), .int a3]) F w (m_M_missTrack _ _ _ _ hc) rfl rfl hl.1 ds_0 vc_X12 rfl ok_X12_missTrack rfl kc_X12_missTrack kl_X12_223 ki_X12_missTrack kv_X12_missTrack kn_X12 ⟨Nat.le_trans (by decide) hR1, Nat.le_trans (by decide) hR2⟩ ⟨Nat.zero_le _, Nat.zero_le _⟩ (Nat.le_of_ble_eq_true rfl) dX12_link_36 (fun H locs w => ?_)
        obtain ⟨r13, S12, hc, h⟩ := bnd_t h
        refine s_cvi (pc := 39) [.int r11] (fun ad => [.ref (ad 0), .int r11]) F w (m_M_ends _ _ _ _ hc) rfl rfl hl.1 ds_0 vc_X12 rfl ok_X12_ends rfl kc_X12_ends kl_X12_236 ki_X12_ends kv_X12_ends kn_X12 ⟨Nat.le_trans (by decide) hR1, Nat.le_trans (by decide) hR2⟩ ⟨Nat.zero_le _, Nat.zero_le _⟩ (Nat.le_of_ble_eq_true rfl) dX12_link_39 (fun H locs w => ?_)
        refine lv_if_eq (pc := 42) (tgt := 48) hx hb dX12_link_42 (by decide) (fun q => ?_) (fun q => ?_)
        · have h := ite_t q h
          refine lv_iconst (pc := 48) (v := 2) hx hb dX12_link_48 (by decide) ?_
          refine lv_iload_n (pc := 49) hx hb dX12_link_49 rfl (lv_at hl 1 rfl) ?_
          refine lv_imul (pc := 50) hx hb dX12_link_50 ?_
          refine lv_iload_n (pc := 51) hx hb dX12_link_51 rfl (lv_at hl 2 rfl) ?_
          refine lv_iadd (pc := 52) hx hb dX12_link_52 ?_
          refine s_nm h (fun z14 ez14 h => ?_)
          rw [← ez14]
          refine lv_istore (pc := 53) (lv' := [(5, .int z14), (0, .ref (ad 0)), (1, .int a1), (2, .int a2), (3, .int a3), (4, .int a4)]) hx hb dX12_link_53 hl (by decide) rfl (fun ls hl => ?_)
          refine lv_iconst (pc := 55) (v := 2) hx hb dX12_link_55 (by decide) ?_
          refine lv_iload_n (pc := 56) hx hb dX12_link_56 rfl (lv_at hl 4 rfl) ?_
          refine lv_imul (pc := 57) hx hb dX12_link_57 ?_
          refine lv_iload (pc := 58) hx hb dX12_link_58 (lv_at hl 5 rfl) ?_
          refine lv_iadd (pc := 60) hx hb dX12_link_60 ?_
          refine s_nm h (fun z15 ez15 h => ?_)
          rw [← ez15]
          refine lv_istore (pc := 61) (lv' := [(6, .int z15), (5, .int z14), (0, .ref (ad 0)), (1, .int a1), (2, .int a2), (3, .int a3), (4, .int a4)]) hx hb dX12_link_61 hl (by decide) rfl (fun ls hl => ?_)
          refine lv_iload (pc := 63) hx hb dX12_link_63 (lv_at hl 1 rfl) ?_
          refine lv_iload (pc := 65) hx hb dX12_link_65 (lv_at hl 0 rfl) ?_
          refine lv_icmp_ne (pc := 67) (tgt := 74) hx hb dX12_link_67 (by decide) (fun q => ?_) (fun q => ?_)
          · have h := ite_f q h
            refine lv_iconst (pc := 74) (v := 0) hx hb dX12_link_74 (by decide) ?_
            exact w_M_link_j75 F (Nat.le_trans (by decide) hR1) (Nat.le_trans (by decide) hR2) _ _ _ _ h _ _ _ w (lv_sub hl [2, 1, 0] rfl)
          · have h := ite_t q h
            refine lv_iconst (pc := 70) (v := 1) hx hb dX12_link_70 (by decide) ?_
            refine lv_goto (pc := 71) (tgt := 75) hx hb dX12_link_71 (by decide) ?_
            exact w_M_link_j75 F (Nat.le_trans (by decide) hR1) (Nat.le_trans (by decide) hR2) _ _ _ _ h _ _ _ w (lv_sub hl [2, 1, 0] rfl)
        · have h := ite_f q h
          refine lv_bipush (pc := 45) (v := -2) hx hb dX12_link_45 (by decide) ?_
          exact s_iret F w h dX12_link_47
    · have h := ite_t q h
      refine lv_iconst (pc := 15) (v := -1) hx hb dX12_link_15 (by decide) ?_
      exact s_iret F w h dX12_link_16
def f_M_exit_j46  (x1 : Int32) (x2 : Int32) (x3 : Int32) (y0 : Int32) (S : SS) : Option (Int32 × SS) :=
    grd (inb (((2 : Int32) * x1) + x2) 48) (wr S 4 (((2 : Int32) * x1) + x2).toNatClampNeg (vp_nar .boolean x3) (fun S8 =>
    bndv (f_M_forget  S8) (fun S9 =>
    some (y0, S9))))
def f_M_exit (a1 : Int32) (a2 : Int32) (a3 : Int32) (S : SS) : Option (Int32 × SS) :=
  bnd (f_M_isSide a2 S) (fun r2 S1 =>
  if r2 = 0 then
    some ((-1 : Int32), S1)
  else
    bndv (f_M_begin  S1) (fun S3 =>
    bnd (f_M_missTrack a1 S3) (fun r5 S4 =>
    bnd (f_M_ends r5 S4) (fun r7 S6 =>
    if r7 = 0 then
      grd (inb (((2 : Int32) * a1) + a2) 48) (
      if (S6.1 4 (((2 : Int32) * a1) + a2).toNatClampNeg) = 0 then
        f_M_exit_j46 a1 a2 a3 (0 : Int32) S6
      else
        f_M_exit_j46 a1 a2 a3 (1 : Int32) S6)
    else
      some ((-2 : Int32), S6)))))
theorem dX12_exit_0 : decode cX12_exit 0 = .ok (.iload_n 2, 1) := dc_28 (by decide +kernel)
theorem dX12_exit_1 : decode cX12_exit 1 = .ok (.invokestatic 232, 3) := dc_184 (a := 0) (b := 232) (by decide +kernel)
theorem dX12_exit_4 : decode cX12_exit 4 = .ok (.ifCond .ne 5, 3) := dc_154 (a := 0) (b := 5) (by decide +kernel) (by decide)
theorem dX12_exit_7 : decode cX12_exit 7 = .ok (.iconst (-1), 1) := dc_2 (by decide +kernel)
theorem dX12_exit_8 : decode cX12_exit 8 = .ok (.ireturn, 1) := dc_172 (by decide +kernel)
theorem dX12_exit_9 : decode cX12_exit 9 = .ok (.aload_n 0, 1) := dc_42 (by decide +kernel)
theorem dX12_exit_10 : decode cX12_exit 10 = .ok (.invokevirtual 226, 3) := dc_182 (a := 0) (b := 226) (by decide +kernel)
theorem dX12_exit_13 : decode cX12_exit 13 = .ok (.aload_n 0, 1) := dc_42 (by decide +kernel)
theorem dX12_exit_14 : decode cX12_exit 14 = .ok (.aload_n 0, 1) := dc_42 (by decide +kernel)
theorem dX12_exit_15 : decode cX12_exit 15 = .ok (.iload_n 1, 1) := dc_27 (by decide +kernel)
theorem dX12_exit_16 : decode cX12_exit 16 = .ok (.invokevirtual 223, 3) := dc_182 (a := 0) (b := 223) (by decide +kernel)
theorem dX12_exit_19 : decode cX12_exit 19 = .ok (.invokevirtual 236, 3) := dc_182 (a := 0) (b := 236) (by decide +kernel)
theorem dX12_exit_22 : decode cX12_exit 22 = .ok (.ifCond .eq 6, 3) := dc_153 (a := 0) (b := 6) (by decide +kernel) (by decide)
theorem dX12_exit_25 : decode cX12_exit 25 = .ok (.bipush (-2), 2) := dc_16 (a := 254) (by decide +kernel) (by decide)
theorem dX12_exit_27 : decode cX12_exit 27 = .ok (.ireturn, 1) := dc_172 (by decide +kernel)
theorem dX12_exit_28 : decode cX12_exit 28 = .ok (.aload_n 0, 1) := dc_42 (by decide +kernel)
theorem dX12_exit_29 : decode cX12_exit 29 = .ok (.getfield 26, 3) := dc_180 (a := 0) (b := 26) (by decide +kernel)
theorem dX12_exit_32 : decode cX12_exit 32 = .ok (.iconst 2, 1) := dc_5 (by decide +kernel)
theorem dX12_exit_33 : decode cX12_exit 33 = .ok (.iload_n 1, 1) := dc_27 (by decide +kernel)
theorem dX12_exit_34 : decode cX12_exit 34 = .ok (.imul, 1) := dc_104 (by decide +kernel)
theorem dX12_exit_35 : decode cX12_exit 35 = .ok (.iload_n 2, 1) := dc_28 (by decide +kernel)
theorem dX12_exit_36 : decode cX12_exit 36 = .ok (.iadd, 1) := dc_96 (by decide +kernel)
theorem dX12_exit_37 : decode cX12_exit 37 = .ok (.baload, 1) := dc_51 (by decide +kernel)
theorem dX12_exit_38 : decode cX12_exit 38 = .ok (.ifCond .eq 7, 3) := dc_153 (a := 0) (b := 7) (by decide +kernel) (by decide)
theorem dX12_exit_41 : decode cX12_exit 41 = .ok (.iconst 1, 1) := dc_4 (by decide +kernel)
theorem dX12_exit_42 : decode cX12_exit 42 = .ok (.goto 4, 3) := dc_167 (a := 0) (b := 4) (by decide +kernel) (by decide)
theorem dX12_exit_45 : decode cX12_exit 45 = .ok (.iconst 0, 1) := dc_3 (by decide +kernel)
theorem dX12_exit_46 : decode cX12_exit 46 = .ok (.istore 4, 2) := dc_54 (a := 4) (by decide +kernel)
theorem dX12_exit_48 : decode cX12_exit 48 = .ok (.aload_n 0, 1) := dc_42 (by decide +kernel)
theorem dX12_exit_49 : decode cX12_exit 49 = .ok (.getfield 26, 3) := dc_180 (a := 0) (b := 26) (by decide +kernel)
theorem dX12_exit_52 : decode cX12_exit 52 = .ok (.iconst 2, 1) := dc_5 (by decide +kernel)
theorem dX12_exit_53 : decode cX12_exit 53 = .ok (.iload_n 1, 1) := dc_27 (by decide +kernel)
theorem dX12_exit_54 : decode cX12_exit 54 = .ok (.imul, 1) := dc_104 (by decide +kernel)
theorem dX12_exit_55 : decode cX12_exit 55 = .ok (.iload_n 2, 1) := dc_28 (by decide +kernel)
theorem dX12_exit_56 : decode cX12_exit 56 = .ok (.iadd, 1) := dc_96 (by decide +kernel)
theorem dX12_exit_57 : decode cX12_exit 57 = .ok (.iload_n 3, 1) := dc_29 (by decide +kernel)
theorem dX12_exit_58 : decode cX12_exit 58 = .ok (.bastore, 1) := dc_84 (by decide +kernel)
theorem dX12_exit_59 : decode cX12_exit 59 = .ok (.aload_n 0, 1) := dc_42 (by decide +kernel)
theorem dX12_exit_60 : decode cX12_exit 60 = .ok (.invokevirtual 229, 3) := dc_182 (a := 0) (b := 229) (by decide +kernel)
theorem dX12_exit_63 : decode cX12_exit 63 = .ok (.iload 4, 2) := dc_21 (a := 4) (by decide +kernel)
theorem dX12_exit_65 : decode cX12_exit 65 = .ok (.ireturn, 1) := dc_172 (by decide +kernel)
set_option maxRecDepth 100000 in
set_option maxHeartbeats 4000000 in
theorem w_M_exit_j46 {p : Program} {l : Launch} {e : Env} {R : Room} {s : State} {m : MethodId} {args : Array Value} {below : List Frame} {meth : Method} {c : Code} {dC : Nat → ClassId} {dI : Nat → Nat → Nat} {cs : Nat → ClassId} {ad : Nat → Nat} {A : Nat → Prop} {D0 : Nat → Nat} {S' : SS} {r : Int32} (F : Fx p s m args meth c cX12_exit 5 RX12 (some .int) dC dI cs A) (hR1 : 1 ≤ R.frames) (hR2 : 20 ≤ R.locals) (x1 : Int32) (x2 : Int32) (x3 : Int32) (y0 : Int32) (S : SS) (h : f_M_exit_j46 x1 x2 x3 y0 S = some (r, S')) : AW p l e R s m args below meth c dC dI cs ad A D0 (some (.int r)) S' 5 46 [(0, .ref (ad 0)), (1, .int x1), (2, .int x2), (3, .int x3)] [.int y0] S := by
  have hx := F.1.1
  have hb := F.1.2.1
  intro H locs ls w hl
  rw [f_M_exit_j46] at h
  refine lv_istore (pc := 46) (lv' := [(4, .int y0), (0, .ref (ad 0)), (1, .int x1), (2, .int x2), (3, .int x3)]) hx hb dX12_exit_46 hl (by decide) rfl (fun ls hl => ?_)
  refine lv_aload_n (pc := 48) hx hb dX12_exit_48 rfl (lv_at hl 1 rfl) ?_
  refine s_getR (pc := 49) F w 4 ds_0 (j := 9) vc_X12 vi_X12 rfl (by decide) kf_X12_26 dX12_exit_49 ?_
  refine lv_iconst (pc := 52) (v := 2) hx hb dX12_exit_52 (by decide) ?_
  refine lv_iload_n (pc := 53) hx hb dX12_exit_53 rfl (lv_at hl 2 rfl) ?_
  refine lv_imul (pc := 54) hx hb dX12_exit_54 ?_
  refine lv_iload_n (pc := 55) hx hb dX12_exit_55 rfl (lv_at hl 3 rfl) ?_
  refine lv_iadd (pc := 56) hx hb dX12_exit_56 ?_
  refine lv_iload_n (pc := 57) hx hb dX12_exit_57 rfl (lv_at hl 4 rfl) ?_
  refine s_zast (pc := 58) F w ds_4 h dX12_exit_58 (fun S8 H locs h w => ?_)
  refine lv_aload_n (pc := 59) hx hb dX12_exit_59 rfl (lv_at hl 1 rfl) ?_
  obtain ⟨S9, hc, h⟩ := bndv_t h
  refine s_cvv (pc := 60) [] (fun ad => [.ref (ad 0)]) F w (m_M_forget  _ _ hc) rfl rfl hl.1 ds_0 vc_X12 rfl ok_X12_forget rfl kc_X12_forget kl_X12_229 ki_X12_forget kv_X12_forget kn_X12 ⟨Nat.le_trans (by decide) hR1, Nat.le_trans (by decide) hR2⟩ ⟨Nat.zero_le _, Nat.zero_le _⟩ (Nat.le_of_ble_eq_true rfl) dX12_exit_60 (fun H locs w => ?_)
  refine lv_iload (pc := 63) hx hb dX12_exit_63 (lv_at hl 0 rfl) ?_
  exact s_iret F w h dX12_exit_65
set_option maxRecDepth 100000 in
set_option maxHeartbeats 4000000 in
theorem m_M_exit (a1 : Int32) (a2 : Int32) (a3 : Int32) (S S' : SS) (r : Int32) (h : f_M_exit a1 a2 a3 S = some (r, S')) : MT yX12_exit cX12_exit 5 (some .int) 2 42 (fun ad => [.ref (ad 0), .int a1, .int a2, .int a3]) S (some (.int r)) S' := by
  refine MT.of RX12 (fun ad => [(0, .ref (ad 0)), (1, .int a1), (2, .int a2), (3, .int a3)]) (by decide) rfl (fun _ => Nat.le_of_ble_eq_true rfl) (fun _ => rfl) ?_
  intro p l e R s m args below meth c dC dI cs ad A hR1 hR2 F H locs ls w hl
  have hx := F.1.1
  have hb := F.1.2.1
  rw [f_M_exit] at h
  refine lv_iload_n (pc := 0) hx hb dX12_exit_0 rfl (lv_at hl 2 rfl) ?_
  obtain ⟨r2, S1, hc, h⟩ := bnd_t h
  refine s_csi (pc := 1) [.int a2] (fun ad => [.int a2]) F w (m_M_isSide _ _ _ _ hc) rfl rfl hl.1 ok_X12_isSide rfl kc_X12_isSide kl_X12_232 ks_X12_isSide kn_X12 ⟨Nat.le_trans (by decide) hR1, Nat.le_trans (by decide) hR2⟩ ⟨Nat.zero_le _, Nat.zero_le _⟩ (Nat.le_of_ble_eq_true rfl) dX12_exit_1 (fun H locs w => ?_)
  refine lv_if_ne (pc := 4) (tgt := 9) hx hb dX12_exit_4 (by decide) (fun q => ?_) (fun q => ?_)
  · have h := ite_f q h
    refine lv_aload_n (pc := 9) hx hb dX12_exit_9 rfl (lv_at hl 0 rfl) ?_
    obtain ⟨S3, hc, h⟩ := bndv_t h
    refine s_cvv (pc := 10) [] (fun ad => [.ref (ad 0)]) F w (m_M_begin  _ _ hc) rfl rfl hl.1 ds_0 vc_X12 rfl ok_X12_begin rfl kc_X12_begin kl_X12_226 ki_X12_begin kv_X12_begin kn_X12 ⟨Nat.le_trans (by decide) hR1, Nat.le_trans (by decide) hR2⟩ ⟨Nat.zero_le _, Nat.zero_le _⟩ (Nat.le_of_ble_eq_true rfl) dX12_exit_10 (fun H locs w => ?_)
    refine lv_aload_n (pc := 13) hx hb dX12_exit_13 rfl (lv_at hl 0 rfl) ?_
    refine lv_aload_n (pc := 14) hx hb dX12_exit_14 rfl (lv_at hl 0 rfl) ?_
    refine lv_iload_n (pc := 15) hx hb dX12_exit_15 rfl (lv_at hl 1 rfl) ?_
    obtain ⟨r5, S4, hc, h⟩ := bnd_t h
    refine s_cvi (pc := 16) [.int a1] (fun ad => [.ref (ad 0), .int a1]) F w (m_M_missTrack _ _ _ _ hc) rfl rfl hl.1 ds_0 vc_X12 rfl ok_X12_missTrack rfl kc_X12_missTrack kl_X12_223 ki_X12_missTrack kv_X12_missTrack kn_X12 ⟨Nat.le_trans (by decide) hR1, Nat.le_trans (by decide) hR2⟩ ⟨Nat.zero_le _, Nat.zero_le _⟩ (Nat.le_of_ble_eq_true rfl) dX12_exit_16 (fun H locs w => ?_)
    obtain ⟨r7, S6, hc, h⟩ := bnd_t h
    refine s_cvi (pc := 19) [.int r5] (fun ad => [.ref (ad 0), .int r5]) F w (m_M_ends _ _ _ _ hc) rfl rfl hl.1 ds_0 vc_X12 rfl ok_X12_ends rfl kc_X12_ends kl_X12_236 ki_X12_ends kv_X12_ends kn_X12 ⟨Nat.le_trans (by decide) hR1, Nat.le_trans (by decide) hR2⟩ ⟨Nat.zero_le _, Nat.zero_le _⟩ (Nat.le_of_ble_eq_true rfl) dX12_exit_19 (fun H locs w => ?_)
    refine lv_if_eq (pc := 22) (tgt := 28) hx hb dX12_exit_22 (by decide) (fun q => ?_) (fun q => ?_)
    · have h := ite_t q h
      refine lv_aload_n (pc := 28) hx hb dX12_exit_28 rfl (lv_at hl 0 rfl) ?_
      refine s_getR (pc := 29) F w 4 ds_0 (j := 9) vc_X12 vi_X12 rfl (by decide) kf_X12_26 dX12_exit_29 ?_
      refine lv_iconst (pc := 32) (v := 2) hx hb dX12_exit_32 (by decide) ?_
      refine lv_iload_n (pc := 33) hx hb dX12_exit_33 rfl (lv_at hl 1 rfl) ?_
      refine lv_imul (pc := 34) hx hb dX12_exit_34 ?_
      refine lv_iload_n (pc := 35) hx hb dX12_exit_35 rfl (lv_at hl 2 rfl) ?_
      refine lv_iadd (pc := 36) hx hb dX12_exit_36 ?_
      refine s_zald (pc := 37) F w ds_4 h dX12_exit_37 (fun h => ?_)
      refine lv_if_eq (pc := 38) (tgt := 45) hx hb dX12_exit_38 (by decide) (fun q => ?_) (fun q => ?_)
      · have h := ite_t q h
        refine lv_iconst (pc := 45) (v := 0) hx hb dX12_exit_45 (by decide) ?_
        exact w_M_exit_j46 F (Nat.le_trans (by decide) hR1) (Nat.le_trans (by decide) hR2) _ _ _ _ _ h _ _ _ w (lv_sub hl [0, 1, 2, 3] rfl)
      · have h := ite_f q h
        refine lv_iconst (pc := 41) (v := 1) hx hb dX12_exit_41 (by decide) ?_
        refine lv_goto (pc := 42) (tgt := 46) hx hb dX12_exit_42 (by decide) ?_
        exact w_M_exit_j46 F (Nat.le_trans (by decide) hR1) (Nat.le_trans (by decide) hR2) _ _ _ _ _ h _ _ _ w (lv_sub hl [0, 1, 2, 3] rfl)
    · have h := ite_f q h
      refine lv_bipush (pc := 25) (v := -2) hx hb dX12_exit_25 (by decide) ?_
      exact s_iret F w h dX12_exit_27
  · have h := ite_t q h
    refine lv_iconst (pc := 7) (v := -1) hx hb dX12_exit_7 (by decide) ?_
    exact s_iret F w h dX12_exit_8
def f_M_missPlace (a1 : Int32) (a2 : Int32) (S : SS) : Option (Int32 × SS) :=
  bnd (f_M_missTrack a1 S) (fun r2 S1 =>
  if r2 = 0 then
    if a2 < 0 then
      some ((3 : Int32), S1)
    else
      grd (inb a1 24) (
      if a2 < (S1.1 3 a1.toNatClampNeg) then
        some ((0 : Int32), S1)
      else
        some ((3 : Int32), S1))
  else
    some (r2, S1))
theorem dX12_missPlace_0 : decode cX12_missPlace 0 = .ok (.aload_n 0, 1) := dc_42 (by decide +kernel)
theorem dX12_missPlace_1 : decode cX12_missPlace 1 = .ok (.iload_n 1, 1) := dc_27 (by decide +kernel)
theorem dX12_missPlace_2 : decode cX12_missPlace 2 = .ok (.invokevirtual 223, 3) := dc_182 (a := 0) (b := 223) (by decide +kernel)
theorem dX12_missPlace_5 : decode cX12_missPlace 5 = .ok (.istore_n 3, 1) := dc_62 (by decide +kernel)
theorem dX12_missPlace_6 : decode cX12_missPlace 6 = .ok (.iload_n 3, 1) := dc_29 (by decide +kernel)
theorem dX12_missPlace_7 : decode cX12_missPlace 7 = .ok (.ifCond .eq 7, 3) := dc_153 (a := 0) (b := 7) (by decide +kernel) (by decide)
theorem dX12_missPlace_10 : decode cX12_missPlace 10 = .ok (.iload_n 3, 1) := dc_29 (by decide +kernel)
theorem dX12_missPlace_11 : decode cX12_missPlace 11 = .ok (.goto 22, 3) := dc_167 (a := 0) (b := 22) (by decide +kernel) (by decide)
theorem dX12_missPlace_14 : decode cX12_missPlace 14 = .ok (.iload_n 2, 1) := dc_28 (by decide +kernel)
theorem dX12_missPlace_15 : decode cX12_missPlace 15 = .ok (.ifCond .lt 13, 3) := dc_155 (a := 0) (b := 13) (by decide +kernel) (by decide)
theorem dX12_missPlace_18 : decode cX12_missPlace 18 = .ok (.iload_n 2, 1) := dc_28 (by decide +kernel)
theorem dX12_missPlace_19 : decode cX12_missPlace 19 = .ok (.aload_n 0, 1) := dc_42 (by decide +kernel)
theorem dX12_missPlace_20 : decode cX12_missPlace 20 = .ok (.getfield 23, 3) := dc_180 (a := 0) (b := 23) (by decide +kernel)
theorem dX12_missPlace_23 : decode cX12_missPlace 23 = .ok (.iload_n 1, 1) := dc_27 (by decide +kernel)
theorem dX12_missPlace_24 : decode cX12_missPlace 24 = .ok (.iaload, 1) := dc_46 (by decide +kernel)
theorem dX12_missPlace_25 : decode cX12_missPlace 25 = .ok (.if_icmp .lt 7, 3) := dc_161 (a := 0) (b := 7) (by decide +kernel) (by decide)
theorem dX12_missPlace_28 : decode cX12_missPlace 28 = .ok (.iconst 3, 1) := dc_6 (by decide +kernel)
theorem dX12_missPlace_29 : decode cX12_missPlace 29 = .ok (.goto 4, 3) := dc_167 (a := 0) (b := 4) (by decide +kernel) (by decide)
theorem dX12_missPlace_32 : decode cX12_missPlace 32 = .ok (.iconst 0, 1) := dc_3 (by decide +kernel)
theorem dX12_missPlace_33 : decode cX12_missPlace 33 = .ok (.ireturn, 1) := dc_172 (by decide +kernel)
set_option maxRecDepth 100000 in
set_option maxHeartbeats 4000000 in
theorem m_M_missPlace (a1 : Int32) (a2 : Int32) (S S' : SS) (r : Int32) (h : f_M_missPlace a1 a2 S = some (r, S')) : MT yX12_missPlace cX12_missPlace 4 (some .int) 1 21 (fun ad => [.ref (ad 0), .int a1, .int a2]) S (some (.int r)) S' := by
  refine MT.of RX12 (fun ad => [(0, .ref (ad 0)), (1, .int a1), (2, .int a2)]) (by decide) rfl (fun _ => Nat.le_of_ble_eq_true rfl) (fun _ => rfl) ?_
  intro p l e R s m args below meth c dC dI cs ad A hR1 hR2 F H locs ls w hl
  have hx := F.1.1
  have hb := F.1.2.1
  rw [f_M_missPlace] at h
  refine lv_aload_n (pc := 0) hx hb dX12_missPlace_0 rfl (lv_at hl 0 rfl) ?_
  refine lv_iload_n (pc := 1) hx hb dX12_missPlace_1 rfl (lv_at hl 1 rfl) ?_
  obtain ⟨r2, S1, hc, h⟩ := bnd_t h
  refine s_cvi (pc := 2) [.int a1] (fun ad => [.ref (ad 0), .int a1]) F w (m_M_missTrack _ _ _ _ hc) rfl rfl hl.1 ds_0 vc_X12 rfl ok_X12_missTrack rfl kc_X12_missTrack kl_X12_223 ki_X12_missTrack kv_X12_missTrack kn_X12 ⟨Nat.le_trans (by decide) hR1, Nat.le_trans (by decide) hR2⟩ ⟨Nat.zero_le _, Nat.zero_le _⟩ (Nat.le_of_ble_eq_true rfl) dX12_missPlace_2 (fun H locs w => ?_)
  refine lv_istore_n (pc := 5) (lv' := [(3, .int r2), (0, .ref (ad 0)), (1, .int a1), (2, .int a2)]) hx hb dX12_missPlace_5 rfl hl (by decide) rfl (fun ls hl => ?_)
  refine lv_iload_n (pc := 6) hx hb dX12_missPlace_6 rfl (lv_at hl 0 rfl) ?_
  refine lv_if_eq (pc := 7) (tgt := 14) hx hb dX12_missPlace_7 (by decide) (fun q => ?_) (fun q => ?_)
  · have h := ite_t q h
    refine lv_iload_n (pc := 14) hx hb dX12_missPlace_14 rfl (lv_at hl 3 rfl) ?_
    refine lv_if_lt (pc := 15) (tgt := 28) hx hb dX12_missPlace_15 (by decide) (fun q => ?_) (fun q => ?_)
    · have h := ite_t q h
      refine lv_iconst (pc := 28) (v := 3) hx hb dX12_missPlace_28 (by decide) ?_
      refine lv_goto (pc := 29) (tgt := 33) hx hb dX12_missPlace_29 (by decide) ?_
      exact s_iret F w h dX12_missPlace_33
    · have h := ite_f q h
      refine lv_iload_n (pc := 18) hx hb dX12_missPlace_18 rfl (lv_at hl 3 rfl) ?_
      refine lv_aload_n (pc := 19) hx hb dX12_missPlace_19 rfl (lv_at hl 1 rfl) ?_
      refine s_getR (pc := 20) F w 3 ds_0 (j := 8) vc_X12 vi_X12 rfl (by decide) kf_X12_23 dX12_missPlace_20 ?_
      refine lv_iload_n (pc := 23) hx hb dX12_missPlace_23 rfl (lv_at hl 2 rfl) ?_
      refine s_iald (pc := 24) F w ds_3 h dX12_missPlace_24 (fun h => ?_)
      refine lv_icmp_lt (pc := 25) (tgt := 32) hx hb dX12_missPlace_25 (by decide) (fun q => ?_) (fun q => ?_)
      · have h := ite_t q h
        refine lv_iconst (pc := 32) (v := 0) hx hb dX12_missPlace_32 (by decide) ?_
        exact s_iret F w h dX12_missPlace_33
      · have h := ite_f q h
        refine lv_iconst (pc := 28) (v := 3) hx hb dX12_missPlace_28 (by decide) ?_
        refine lv_goto (pc := 29) (tgt := 33) hx hb dX12_missPlace_29 (by decide) ?_
        exact s_iret F w h dX12_missPlace_33
  · have h := ite_f q h
    refine lv_iload_n (pc := 10) hx hb dX12_missPlace_10 rfl (lv_at hl 0 rfl) ?_
    refine lv_goto (pc := 11) (tgt := 33) hx hb dX12_missPlace_11 (by decide) ?_
    exact s_iret F w h dX12_missPlace_33
def f_M_standing_j41 (K2 : Int32 → Int32 → Int32 → SS → Option (Int32 × SS)) (x1 : Int32) (x2 : Int32) (x3 : Int32) (S : SS) : Option (Int32 × SS) :=
    nm (x3 + (1 : Int32)) (fun z1 =>
    K2 x1 x2 z1 S)
def f_M_standing_L2  : Nat → Int32 → Int32 → Int32 → SS → Option (Int32 × SS)
  | 0, _, _, _, _ => none
  | n + 1, x1, x2, x3, S =>
    if (S.1 0 29) ≤ x3 then
      some ((-4 : Int32), S)
    else
      grd (inb x3 72) (
      if (S.1 19 x3.toNatClampNeg) = 0 then
        f_M_standing_j41 (fun v0 v1 v2 S => f_M_standing_L2 n v0 v1 v2 S) x1 x2 x3 S
      else
        grd (inb x3 72) (
        if (S.1 20 x3.toNatClampNeg) = x1 then
          grd (inb x3 72) (
          if (S.1 21 x3.toNatClampNeg) = x2 then
            some (x3, S)
          else
            f_M_standing_j41 (fun v0 v1 v2 S => f_M_standing_L2 n v0 v1 v2 S) x1 x2 x3 S)
        else
          f_M_standing_j41 (fun v0 v1 v2 S => f_M_standing_L2 n v0 v1 v2 S) x1 x2 x3 S))
def f_M_standing (a1 : Int32) (a2 : Int32) (S : SS) : Option (Int32 × SS) :=
  f_M_standing_L2 NF a1 a2 (0 : Int32) S
theorem dX12_standing_0 : decode cX12_standing 0 = .ok (.iconst 0, 1) := dc_3 (by decide +kernel)
theorem dX12_standing_1 : decode cX12_standing 1 = .ok (.istore_n 3, 1) := dc_62 (by decide +kernel)
theorem dX12_standing_2 : decode cX12_standing 2 = .ok (.iload_n 3, 1) := dc_29 (by decide +kernel)
theorem dX12_standing_3 : decode cX12_standing 3 = .ok (.aload_n 0, 1) := dc_42 (by decide +kernel)
theorem dX12_standing_4 : decode cX12_standing 4 = .ok (.getfield 269, 3) := dc_180 (a := 1) (b := 13) (by decide +kernel)
theorem dX12_standing_7 : decode cX12_standing 7 = .ok (.if_icmp .ge 40, 3) := dc_162 (a := 0) (b := 40) (by decide +kernel) (by decide)
theorem dX12_standing_10 : decode cX12_standing 10 = .ok (.aload_n 0, 1) := dc_42 (by decide +kernel)
theorem dX12_standing_11 : decode cX12_standing 11 = .ok (.getfield 72, 3) := dc_180 (a := 0) (b := 72) (by decide +kernel)
theorem dX12_standing_14 : decode cX12_standing 14 = .ok (.iload_n 3, 1) := dc_29 (by decide +kernel)
theorem dX12_standing_15 : decode cX12_standing 15 = .ok (.baload, 1) := dc_51 (by decide +kernel)
theorem dX12_standing_16 : decode cX12_standing 16 = .ok (.ifCond .eq 25, 3) := dc_153 (a := 0) (b := 25) (by decide +kernel) (by decide)
theorem dX12_standing_19 : decode cX12_standing 19 = .ok (.aload_n 0, 1) := dc_42 (by decide +kernel)
theorem dX12_standing_20 : decode cX12_standing 20 = .ok (.getfield 75, 3) := dc_180 (a := 0) (b := 75) (by decide +kernel)
theorem dX12_standing_23 : decode cX12_standing 23 = .ok (.iload_n 3, 1) := dc_29 (by decide +kernel)
theorem dX12_standing_24 : decode cX12_standing 24 = .ok (.iaload, 1) := dc_46 (by decide +kernel)
theorem dX12_standing_25 : decode cX12_standing 25 = .ok (.iload_n 1, 1) := dc_27 (by decide +kernel)
theorem dX12_standing_26 : decode cX12_standing 26 = .ok (.if_icmp .ne 15, 3) := dc_160 (a := 0) (b := 15) (by decide +kernel) (by decide)
theorem dX12_standing_29 : decode cX12_standing 29 = .ok (.aload_n 0, 1) := dc_42 (by decide +kernel)
theorem dX12_standing_30 : decode cX12_standing 30 = .ok (.getfield 78, 3) := dc_180 (a := 0) (b := 78) (by decide +kernel)
theorem dX12_standing_33 : decode cX12_standing 33 = .ok (.iload_n 3, 1) := dc_29 (by decide +kernel)
theorem dX12_standing_34 : decode cX12_standing 34 = .ok (.iaload, 1) := dc_46 (by decide +kernel)
theorem dX12_standing_35 : decode cX12_standing 35 = .ok (.iload_n 2, 1) := dc_28 (by decide +kernel)
theorem dX12_standing_36 : decode cX12_standing 36 = .ok (.if_icmp .ne 5, 3) := dc_160 (a := 0) (b := 5) (by decide +kernel) (by decide)
theorem dX12_standing_39 : decode cX12_standing 39 = .ok (.iload_n 3, 1) := dc_29 (by decide +kernel)
theorem dX12_standing_40 : decode cX12_standing 40 = .ok (.ireturn, 1) := dc_172 (by decide +kernel)
theorem dX12_standing_41 : decode cX12_standing 41 = .ok (.iinc 3 1, 3) := dc_132 (a := 3) (b := 1) (by decide +kernel) (by decide)
theorem dX12_standing_44 : decode cX12_standing 44 = .ok (.goto (-42), 3) := dc_167 (a := 255) (b := 214) (by decide +kernel) (by decide)
theorem dX12_standing_47 : decode cX12_standing 47 = .ok (.bipush (-4), 2) := dc_16 (a := 252) (by decide +kernel) (by decide)
theorem dX12_standing_49 : decode cX12_standing 49 = .ok (.ireturn, 1) := dc_172 (by decide +kernel)
set_option maxRecDepth 100000 in
set_option maxHeartbeats 4000000 in
theorem w_M_standing_j41 {p : Program} {l : Launch} {e : Env} {R : Room} {s : State} {m : MethodId} {args : Array Value} {below : List Frame} {meth : Method} {c : Code} {dC : Nat → ClassId} {dI : Nat → Nat → Nat} {cs : Nat → ClassId} {ad : Nat → Nat} {A : Nat → Prop} {D0 : Nat → Nat} {S' : SS} {r : Int32} (F : Fx p s m args meth c cX12_standing 4 RX12 (some .int) dC dI cs A) (hR1 : 0 ≤ R.frames) (hR2 : 0 ≤ R.locals) (K2 : Int32 → Int32 → Int32 → SS → Option (Int32 × SS)) (hK2 : ∀ (v0 : Int32) (v1 : Int32) (v2 : Int32) (S : SS), K2 v0 v1 v2 S = some (r, S') → AW p l e R s m args below meth c dC dI cs ad A D0 (some (.int r)) S' 4 2 [(0, .ref (ad 0)), (1, .int v0), (2, .int v1), (3, .int v2)] [] S) (x1 : Int32) (x2 : Int32) (x3 : Int32) (S : SS) (h : f_M_standing_j41 K2 x1 x2 x3 S = some (r, S')) : AW p l e R s m args below meth c dC dI cs ad A D0 (some (.int r)) S' 4 41 [(0, .ref (ad 0)), (1, .int x1), (2, .int x2), (3, .int x3)] [] S := by
  have hx := F.1.1
  have hb := F.1.2.1
  intro H locs ls w hl
  rw [f_M_standing_j41] at h
  refine s_nm h (fun z1 ez1 h => ?_)
  refine lv_iinc (pc := 41) (v := z1) (lv' := [(3, .int z1), (0, .ref (ad 0)), (1, .int x1), (2, .int x2)]) hx hb dX12_standing_41 hl (k := 3) rfl (by rw [ez1]; rfl) (by decide) rfl (fun ls hl => ?_)
  refine lv_goto (pc := 44) (tgt := 2) hx hb dX12_standing_44 (by decide) ?_
  exact hK2 _ _ _ _ h _ _ _ w (lv_sub hl [1, 2, 3, 0] rfl)
set_option maxRecDepth 100000 in
set_option maxHeartbeats 4000000 in
theorem w_M_standing_L2 {p : Program} {l : Launch} {e : Env} {R : Room} {s : State} {m : MethodId} {args : Array Value} {below : List Frame} {meth : Method} {c : Code} {dC : Nat → ClassId} {dI : Nat → Nat → Nat} {cs : Nat → ClassId} {ad : Nat → Nat} {A : Nat → Prop} {D0 : Nat → Nat} {S' : SS} {r : Int32} (F : Fx p s m args meth c cX12_standing 4 RX12 (some .int) dC dI cs A) (hR1 : 0 ≤ R.frames) (hR2 : 0 ≤ R.locals) : ∀ (n : Nat) (x1 : Int32) (x2 : Int32) (x3 : Int32) (S : SS), f_M_standing_L2 n x1 x2 x3 S = some (r, S') → AW p l e R s m args below meth c dC dI cs ad A D0 (some (.int r)) S' 4 2 [(0, .ref (ad 0)), (1, .int x1), (2, .int x2), (3, .int x3)] [] S := by
  have hx := F.1.1
  have hb := F.1.2.1
  intro n
  induction n with
  | zero => intro x1 x2 x3 S h; cases h
  | succ n ih =>
    intro x1 x2 x3 S h H locs ls w hl
    rw [f_M_standing_L2] at h
    refine lv_iload_n (pc := 2) hx hb dX12_standing_2 rfl (lv_at hl 3 rfl) ?_
    refine lv_aload_n (pc := 3) hx hb dX12_standing_3 rfl (lv_at hl 0 rfl) ?_
    refine s_getI (pc := 4) F w ds_0 (j := 29) vc_X12 vi_X12 rfl (by decide) kf_X12_269 dX12_standing_4 ?_
    refine lv_icmp_ge (pc := 7) (tgt := 47) hx hb dX12_standing_7 (by decide) (fun q => ?_) (fun q => ?_)
    · have h := ite_t q h
      refine lv_bipush (pc := 47) (v := -4) hx hb dX12_standing_47 (by decide) ?_
      exact s_iret F w h dX12_standing_49
    · have h := ite_f q h
      refine lv_aload_n (pc := 10) hx hb dX12_standing_10 rfl (lv_at hl 0 rfl) ?_
      refine s_getR (pc := 11) F w 19 ds_0 (j := 31) vc_X12 vi_X12 rfl (by decide) kf_X12_72 dX12_standing_11 ?_
      refine lv_iload_n (pc := 14) hx hb dX12_standing_14 rfl (lv_at hl 3 rfl) ?_
      refine s_zald (pc := 15) F w ds_19 h dX12_standing_15 (fun h => ?_)
      refine lv_if_eq (pc := 16) (tgt := 41) hx hb dX12_standing_16 (by decide) (fun q => ?_) (fun q => ?_)
      · have h := ite_t q h
        exact w_M_standing_j41 F (Nat.le_trans (by decide) hR1) (Nat.le_trans (by decide) hR2) _ (fun v0 v1 v2 S h => ih v0 v1 v2 S h) _ _ _ _ h _ _ _ w (lv_sub hl [0, 1, 2, 3] rfl)
      · have h := ite_f q h
        refine lv_aload_n (pc := 19) hx hb dX12_standing_19 rfl (lv_at hl 0 rfl) ?_
        refine s_getR (pc := 20) F w 20 ds_0 (j := 32) vc_X12 vi_X12 rfl (by decide) kf_X12_75 dX12_standing_20 ?_
        refine lv_iload_n (pc := 23) hx hb dX12_standing_23 rfl (lv_at hl 3 rfl) ?_
        refine s_iald (pc := 24) F w ds_20 h dX12_standing_24 (fun h => ?_)
        refine lv_iload_n (pc := 25) hx hb dX12_standing_25 rfl (lv_at hl 1 rfl) ?_
        refine lv_icmp_ne (pc := 26) (tgt := 41) hx hb dX12_standing_26 (by decide) (fun q => ?_) (fun q => ?_)
        · have h := ite_f q h
          exact w_M_standing_j41 F (Nat.le_trans (by decide) hR1) (Nat.le_trans (by decide) hR2) _ (fun v0 v1 v2 S h => ih v0 v1 v2 S h) _ _ _ _ h _ _ _ w (lv_sub hl [0, 1, 2, 3] rfl)
        · have h := ite_t q h
          refine lv_aload_n (pc := 29) hx hb dX12_standing_29 rfl (lv_at hl 0 rfl) ?_
          refine s_getR (pc := 30) F w 21 ds_0 (j := 33) vc_X12 vi_X12 rfl (by decide) kf_X12_78 dX12_standing_30 ?_
          refine lv_iload_n (pc := 33) hx hb dX12_standing_33 rfl (lv_at hl 3 rfl) ?_
          refine s_iald (pc := 34) F w ds_21 h dX12_standing_34 (fun h => ?_)
          refine lv_iload_n (pc := 35) hx hb dX12_standing_35 rfl (lv_at hl 2 rfl) ?_
          refine lv_icmp_ne (pc := 36) (tgt := 41) hx hb dX12_standing_36 (by decide) (fun q => ?_) (fun q => ?_)
          · have h := ite_f q h
            exact w_M_standing_j41 F (Nat.le_trans (by decide) hR1) (Nat.le_trans (by decide) hR2) _ (fun v0 v1 v2 S h => ih v0 v1 v2 S h) _ _ _ _ h _ _ _ w (lv_sub hl [0, 1, 2, 3] rfl)
          · have h := ite_t q h
            refine lv_iload_n (pc := 39) hx hb dX12_standing_39 rfl (lv_at hl 3 rfl) ?_
            exact s_iret F w h dX12_standing_40
set_option maxRecDepth 100000 in
set_option maxHeartbeats 4000000 in
theorem m_M_standing (a1 : Int32) (a2 : Int32) (S S' : SS) (r : Int32) (h : f_M_standing a1 a2 S = some (r, S')) : MT yX12_standing cX12_standing 4 (some .int) 0 0 (fun ad => [.ref (ad 0), .int a1, .int a2]) S (some (.int r)) S' := by
  refine MT.of RX12 (fun ad => [(0, .ref (ad 0)), (1, .int a1), (2, .int a2)]) (by decide) rfl (fun _ => Nat.le_of_ble_eq_true rfl) (fun _ => rfl) ?_
  intro p l e R s m args below meth c dC dI cs ad A hR1 hR2 F H locs ls w hl
  have hx := F.1.1
  have hb := F.1.2.1
  rw [f_M_standing] at h
  refine lv_iconst (pc := 0) (v := 0) hx hb dX12_standing_0 (by decide) ?_
  refine lv_istore_n (pc := 1) (lv' := [(3, .int (0 : Int32)), (0, .ref (ad 0)), (1, .int a1), (2, .int a2)]) hx hb dX12_standing_1 rfl hl (by decide) rfl (fun ls hl => ?_)
  exact w_M_standing_L2 F (Nat.le_trans (by decide) hR1) (Nat.le_trans (by decide) hR2) _ _ _ _ _ h _ _ _ w (lv_sub hl [1, 2, 3, 0] rfl)
def f_M_missFree (a1 : Int32) (a2 : Int32) (S : SS) : Option (Int32 × SS) :=
  bnd (f_M_missPlace a1 a2 S) (fun r2 S1 =>
  if r2 = 0 then
    bnd (f_M_standing a1 a2 S1) (fun r4 S3 =>
    if r4 = (-4 : Int32) then
      some ((0 : Int32), S3)
    else
      some ((9 : Int32), S3))
  else
    some (r2, S1))
theorem dX12_missFree_0 : decode cX12_missFree 0 = .ok (.aload_n 0, 1) := dc_42 (by decide +kernel)
theorem dX12_missFree_1 : decode cX12_missFree 1 = .ok (.iload_n 1, 1) := dc_27 (by decide +kernel)
theorem dX12_missFree_2 : decode cX12_missFree 2 = .ok (.iload_n 2, 1) := dc_28 (by decide +kernel)
theorem dX12_missFree_3 : decode cX12_missFree 3 = .ok (.invokevirtual 275, 3) := dc_182 (a := 1) (b := 19) (by decide +kernel)
theorem dX12_missFree_6 : decode cX12_missFree 6 = .ok (.istore_n 3, 1) := dc_62 (by decide +kernel)
theorem dX12_missFree_7 : decode cX12_missFree 7 = .ok (.iload_n 3, 1) := dc_29 (by decide +kernel)
theorem dX12_missFree_8 : decode cX12_missFree 8 = .ok (.ifCond .eq 7, 3) := dc_153 (a := 0) (b := 7) (by decide +kernel) (by decide)
theorem dX12_missFree_11 : decode cX12_missFree 11 = .ok (.iload_n 3, 1) := dc_29 (by decide +kernel)
theorem dX12_missFree_12 : decode cX12_missFree 12 = .ok (.goto 20, 3) := dc_167 (a := 0) (b := 20) (by decide +kernel) (by decide)
theorem dX12_missFree_15 : decode cX12_missFree 15 = .ok (.aload_n 0, 1) := dc_42 (by decide +kernel)
theorem dX12_missFree_16 : decode cX12_missFree 16 = .ok (.iload_n 1, 1) := dc_27 (by decide +kernel)
theorem dX12_missFree_17 : decode cX12_missFree 17 = .ok (.iload_n 2, 1) := dc_28 (by decide +kernel)
theorem dX12_missFree_18 : decode cX12_missFree 18 = .ok (.invokevirtual 279, 3) := dc_182 (a := 1) (b := 23) (by decide +kernel)
theorem dX12_missFree_21 : decode cX12_missFree 21 = .ok (.bipush (-4), 2) := dc_16 (a := 252) (by decide +kernel) (by decide)
theorem dX12_missFree_23 : decode cX12_missFree 23 = .ok (.if_icmp .eq 8, 3) := dc_159 (a := 0) (b := 8) (by decide +kernel) (by decide)
theorem dX12_missFree_26 : decode cX12_missFree 26 = .ok (.bipush 9, 2) := dc_16 (a := 9) (by decide +kernel) (by decide)
theorem dX12_missFree_28 : decode cX12_missFree 28 = .ok (.goto 4, 3) := dc_167 (a := 0) (b := 4) (by decide +kernel) (by decide)
theorem dX12_missFree_31 : decode cX12_missFree 31 = .ok (.iconst 0, 1) := dc_3 (by decide +kernel)
theorem dX12_missFree_32 : decode cX12_missFree 32 = .ok (.ireturn, 1) := dc_172 (by decide +kernel)
set_option maxRecDepth 100000 in
set_option maxHeartbeats 4000000 in
theorem m_M_missFree (a1 : Int32) (a2 : Int32) (S S' : SS) (r : Int32) (h : f_M_missFree a1 a2 S = some (r, S')) : MT yX12_missFree cX12_missFree 4 (some .int) 2 44 (fun ad => [.ref (ad 0), .int a1, .int a2]) S (some (.int r)) S' := by
  refine MT.of RX12 (fun ad => [(0, .ref (ad 0)), (1, .int a1), (2, .int a2)]) (by decide) rfl (fun _ => Nat.le_of_ble_eq_true rfl) (fun _ => rfl) ?_
  intro p l e R s m args below meth c dC dI cs ad A hR1 hR2 F H locs ls w hl
  have hx := F.1.1
  have hb := F.1.2.1
  rw [f_M_missFree] at h
  refine lv_aload_n (pc := 0) hx hb dX12_missFree_0 rfl (lv_at hl 0 rfl) ?_
  refine lv_iload_n (pc := 1) hx hb dX12_missFree_1 rfl (lv_at hl 1 rfl) ?_
  refine lv_iload_n (pc := 2) hx hb dX12_missFree_2 rfl (lv_at hl 2 rfl) ?_
  obtain ⟨r2, S1, hc, h⟩ := bnd_t h
  refine s_cvi (pc := 3) [.int a1, .int a2] (fun ad => [.ref (ad 0), .int a1, .int a2]) F w (m_M_missPlace _ _ _ _ _ hc) rfl rfl hl.1 ds_0 vc_X12 rfl ok_X12_missPlace rfl kc_X12_missPlace kl_X12_275 ki_X12_missPlace kv_X12_missPlace kn_X12 ⟨Nat.le_trans (by decide) hR1, Nat.le_trans (by decide) hR2⟩ ⟨Nat.zero_le _, Nat.zero_le _⟩ (Nat.le_of_ble_eq_true rfl) dX12_missFree_3 (fun H locs w => ?_)
  refine lv_istore_n (pc := 6) (lv' := [(3, .int r2), (0, .ref (ad 0)), (1, .int a1), (2, .int a2)]) hx hb dX12_missFree_6 rfl hl (by decide) rfl (fun ls hl => ?_)
  refine lv_iload_n (pc := 7) hx hb dX12_missFree_7 rfl (lv_at hl 0 rfl) ?_
  refine lv_if_eq (pc := 8) (tgt := 15) hx hb dX12_missFree_8 (by decide) (fun q => ?_) (fun q => ?_)
  · have h := ite_t q h
    refine lv_aload_n (pc := 15) hx hb dX12_missFree_15 rfl (lv_at hl 1 rfl) ?_
    refine lv_iload_n (pc := 16) hx hb dX12_missFree_16 rfl (lv_at hl 2 rfl) ?_
    refine lv_iload_n (pc := 17) hx hb dX12_missFree_17 rfl (lv_at hl 3 rfl) ?_
    obtain ⟨r4, S3, hc, h⟩ := bnd_t h
    refine s_cvi (pc := 18) [.int a1, .int a2] (fun ad => [.ref (ad 0), .int a1, .int a2]) F w (m_M_standing _ _ _ _ _ hc) rfl rfl hl.1 ds_0 vc_X12 rfl ok_X12_standing rfl kc_X12_standing kl_X12_279 ki_X12_standing kv_X12_standing kn_X12 ⟨Nat.le_trans (by decide) hR1, Nat.le_trans (by decide) hR2⟩ ⟨Nat.zero_le _, Nat.zero_le _⟩ (Nat.le_of_ble_eq_true rfl) dX12_missFree_18 (fun H locs w => ?_)
    refine lv_bipush (pc := 21) (v := -4) hx hb dX12_missFree_21 (by decide) ?_
    refine lv_icmp_eq (pc := 23) (tgt := 31) hx hb dX12_missFree_23 (by decide) (fun q => ?_) (fun q => ?_)
    · have h := ite_t q h
      refine lv_iconst (pc := 31) (v := 0) hx hb dX12_missFree_31 (by decide) ?_
      exact s_iret F w h dX12_missFree_32
    · have h := ite_f q h
      refine lv_bipush (pc := 26) (v := 9) hx hb dX12_missFree_26 (by decide) ?_
      refine lv_goto (pc := 28) (tgt := 32) hx hb dX12_missFree_28 (by decide) ?_
      exact s_iret F w h dX12_missFree_32
  · have h := ite_f q h
    refine lv_iload_n (pc := 11) hx hb dX12_missFree_11 rfl (lv_at hl 0 rfl) ?_
    refine lv_goto (pc := 12) (tgt := 32) hx hb dX12_missFree_12 (by decide) ?_
    exact s_iret F w h dX12_missFree_32
