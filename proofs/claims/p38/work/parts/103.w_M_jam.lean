/-! ===== printed by wip/gen: M_jam M_raised M_raise M_placeAtEnd M_isUnder M_missTurn M_turn M_missEntry M_lock M_free M_missSide M_wayOf M_openLink ===== -/
def f_M_jam (a1 : Int32) (a2 : Int32) (S : SS) : Option (Int32 × SS) :=
  if a2 < 0 then
    some ((-1 : Int32), S)
  else
    if a2 ≤ (50 : Int32) then
      bndv (f_M_begin  S) (fun S1 =>
      bndv (f_M_keep  S1) (fun S2 =>
      bnd (f_M_missThing a1 (0 : Int32) S2) (fun r4 S3 =>
      bnd (f_M_ends r4 S3) (fun r6 S5 =>
      if r6 = 0 then
        grd (inb a1 72) (
        nm (S5.1 26 a1.toNatClampNeg) (fun z7 =>
        grd (inb a1 72) (wr S5 26 a1.toNatClampNeg a2 (fun S8 =>
        bnd (f_M_entered (2 : Int32) z7 S8) (fun r10 S9 =>
        some (r10, S9))))))
      else
        bnd (f_M_entered (2 : Int32) (-2 : Int32) S5) (fun r12 S11 =>
        some (r12, S11))))))
    else
      some ((-1 : Int32), S)
theorem dX12_jam_0 : decode cX12_jam 0 = .ok (.iload_n 2, 1) := dc_28 (by decide +kernel)
theorem dX12_jam_1 : decode cX12_jam 1 = .ok (.ifCond .lt 9, 3) := dc_155 (a := 0) (b := 9) (by decide +kernel) (by decide)
theorem dX12_jam_4 : decode cX12_jam 4 = .ok (.iload_n 2, 1) := dc_28 (by decide +kernel)
theorem dX12_jam_5 : decode cX12_jam 5 = .ok (.bipush 50, 2) := dc_16 (a := 50) (by decide +kernel) (by decide)
theorem dX12_jam_7 : decode cX12_jam 7 = .ok (.if_icmp .le 5, 3) := dc_164 (a := 0) (b := 5) (by decide +kernel) (by decide)
theorem dX12_jam_10 : decode cX12_jam 10 = .ok (.iconst (-1), 1) := dc_2 (by decide +kernel)
theorem dX12_jam_11 : decode cX12_jam 11 = .ok (.ireturn, 1) := dc_172 (by decide +kernel)
theorem dX12_jam_12 : decode cX12_jam 12 = .ok (.aload_n 0, 1) := dc_42 (by decide +kernel)
theorem dX12_jam_13 : decode cX12_jam 13 = .ok (.invokevirtual 226, 3) := dc_182 (a := 0) (b := 226) (by decide +kernel)
theorem dX12_jam_16 : decode cX12_jam 16 = .ok (.aload_n 0, 1) := dc_42 (by decide +kernel)
theorem dX12_jam_17 : decode cX12_jam 17 = .ok (.invokevirtual 346, 3) := dc_182 (a := 1) (b := 90) (by decide +kernel)
theorem dX12_jam_20 : decode cX12_jam 20 = .ok (.aload_n 0, 1) := dc_42 (by decide +kernel)
theorem dX12_jam_21 : decode cX12_jam 21 = .ok (.aload_n 0, 1) := dc_42 (by decide +kernel)
theorem dX12_jam_22 : decode cX12_jam 22 = .ok (.iload_n 1, 1) := dc_27 (by decide +kernel)
theorem dX12_jam_23 : decode cX12_jam 23 = .ok (.iconst 0, 1) := dc_3 (by decide +kernel)
theorem dX12_jam_24 : decode cX12_jam 24 = .ok (.invokevirtual 293, 3) := dc_182 (a := 1) (b := 37) (by decide +kernel)
theorem dX12_jam_27 : decode cX12_jam 27 = .ok (.invokevirtual 236, 3) := dc_182 (a := 0) (b := 236) (by decide +kernel)
theorem dX12_jam_30 : decode cX12_jam 30 = .ok (.ifCond .eq 11, 3) := dc_153 (a := 0) (b := 11) (by decide +kernel) (by decide)
theorem dX12_jam_33 : decode cX12_jam 33 = .ok (.aload_n 0, 1) := dc_42 (by decide +kernel)
theorem dX12_jam_34 : decode cX12_jam 34 = .ok (.iconst 2, 1) := dc_5 (by decide +kernel)
theorem dX12_jam_35 : decode cX12_jam 35 = .ok (.bipush (-2), 2) := dc_16 (a := 254) (by decide +kernel) (by decide)
theorem dX12_jam_37 : decode cX12_jam 37 = .ok (.invokevirtual 349, 3) := dc_182 (a := 1) (b := 93) (by decide +kernel)
theorem dX12_jam_40 : decode cX12_jam 40 = .ok (.ireturn, 1) := dc_172 (by decide +kernel)
theorem dX12_jam_41 : decode cX12_jam 41 = .ok (.aload_n 0, 1) := dc_42 (by decide +kernel)
theorem dX12_jam_42 : decode cX12_jam 42 = .ok (.getfield 93, 3) := dc_180 (a := 0) (b := 93) (by decide +kernel)
theorem dX12_jam_45 : decode cX12_jam 45 = .ok (.iload_n 1, 1) := dc_27 (by decide +kernel)
theorem dX12_jam_46 : decode cX12_jam 46 = .ok (.iaload, 1) := dc_46 (by decide +kernel)
theorem dX12_jam_47 : decode cX12_jam 47 = .ok (.istore_n 3, 1) := dc_62 (by decide +kernel)
theorem dX12_jam_48 : decode cX12_jam 48 = .ok (.aload_n 0, 1) := dc_42 (by decide +kernel)
theorem dX12_jam_49 : decode cX12_jam 49 = .ok (.getfield 93, 3) := dc_180 (a := 0) (b := 93) (by decide +kernel)
theorem dX12_jam_52 : decode cX12_jam 52 = .ok (.iload_n 1, 1) := dc_27 (by decide +kernel)
theorem dX12_jam_53 : decode cX12_jam 53 = .ok (.iload_n 2, 1) := dc_28 (by decide +kernel)
theorem dX12_jam_54 : decode cX12_jam 54 = .ok (.iastore, 1) := dc_79 (by decide +kernel)
theorem dX12_jam_55 : decode cX12_jam 55 = .ok (.aload_n 0, 1) := dc_42 (by decide +kernel)
theorem dX12_jam_56 : decode cX12_jam 56 = .ok (.iconst 2, 1) := dc_5 (by decide +kernel)
theorem dX12_jam_57 : decode cX12_jam 57 = .ok (.iload_n 3, 1) := dc_29 (by decide +kernel)
theorem dX12_jam_58 : decode cX12_jam 58 = .ok (.invokevirtual 349, 3) := dc_182 (a := 1) (b := 93) (by decide +kernel)
theorem dX12_jam_61 : decode cX12_jam 61 = .ok (.ireturn, 1) := dc_172 (by decide +kernel)
set_option maxRecDepth 100000 in
set_option maxHeartbeats 4000000 in
theorem m_M_jam (a1 : Int32) (a2 : Int32) (S S' : SS) (r : Int32) (h : f_M_jam a1 a2 S = some (r, S')) : MT yX12_jam cX12_jam 4 (some .int) 2 45 (fun ad => [.ref (ad 0), .int a1, .int a2]) S (some (.int r)) S' := by
  refine MT.of RX12 (fun ad => [(0, .ref (ad 0)), (1, .int a1), (2, .int a2)]) (by decide) rfl (fun _ => Nat.le_of_ble_eq_true rfl) (fun _ => rfl) ?_
  intro p l e R s m args below meth c dC dI cs ad A hR1 hR2 F H locs ls w hl
  have hx := F.1.1
  have hb := F.1.2.1
  rw [f_M_jam] at h
  refine lv_iload_n (pc := 0) hx hb dX12_jam_0 rfl (lv_at hl 2 rfl) ?_
  refine lv_if_lt (pc := 1) (tgt := 10) hx hb dX12_jam_1 (by decide) (fun q => ?_) (fun q => ?_)
  · have h := ite_t q h
    refine lv_iconst (pc := 10) (v := -1) hx hb dX12_jam_10 (by decide) ?_
    exact s_iret F w h dX12_jam_11
  · have h := ite_f q h
    refine lv_iload_n (pc := 4) hx hb dX12_jam_4 rfl (lv_at hl 2 rfl) ?_
    refine lv_bipush (pc := 5) (v := 50) hx hb dX12_jam_5 (by decide) ?_
    refine lv_icmp_le (pc := 7) (tgt := 12) hx hb dX12_jam_7 (by decide) (fun q => ?_) (fun q => ?_)
    · have h := ite_t q h
      refine lv_aload_n (pc := 12) hx hb dX12_jam_12 rfl (lv_at hl 0 rfl) ?_
      obtain ⟨S1, hc, h⟩ := bndv_t h
      refine s_cvv (pc := 13) [] (fun ad => [.ref (ad 0)]) F w (m_M_begin  _ _ hc) rfl rfl hl.1 ds_0 vc_X12 rfl ok_X12_begin rfl kc_X12_begin kl_X12_226 ki_X12_begin kv_X12_begin kn_X12 ⟨Nat.le_trans (by decide) hR1, Nat.le_trans (by decide) hR2⟩ ⟨Nat.zero_le _, Nat.zero_le _⟩ (Nat.le_of_ble_eq_true rfl) dX12_jam_13 (fun H locs w => ?_)
      refine lv_aload_n (pc := 16) hx hb dX12_jam_16 rfl (lv_at hl 0 rfl) ?_
      obtain ⟨S2, hc, h⟩ := bndv_t h
      refine s_cvv (pc := 17) [] (fun ad => [.ref (ad 0)]) F w (m_M_keep  _ _ hc) rfl rfl hl.1 ds_0 vc_X12 rfl ok_X12_keep rfl kc_X12_keep kl_X12_346 ki_X12_keep kv_X12_keep kn_X12 ⟨Nat.le_trans (by decide) hR1, Nat.le_trans (by decide) hR2⟩ ⟨Nat.zero_le _, Nat.zero_le _⟩ (Nat.le_of_ble_eq_true rfl) dX12_jam_17 (fun H locs w => ?_)
      refine lv_aload_n (pc := 20) hx hb dX12_jam_20 rfl (lv_at hl 0 rfl) ?_
      refine lv_aload_n (pc := 21) hx hb dX12_jam_21 rfl (lv_at hl 0 rfl) ?_
      refine lv_iload_n (pc := 22) hx hb dX12_jam_22 rfl (lv_at hl 1 rfl) ?_
      refine lv_iconst (pc := 23) (v := 0) hx hb dX12_jam_23 (by decide) ?_
      obtain ⟨r4, S3, hc, h⟩ := bnd_t h
      refine s_cvi (pc := 24) [.int a1, .int (0 : Int32)] (fun ad => [.ref (ad 0), .int a1, .int (0 : Int32)]) F w (m_M_missThing _ _ _ _ _ hc) rfl rfl hl.1 ds_0 vc_X12 rfl ok_X12_missThing rfl kc_X12_missThing kl_X12_293 ki_X12_missThing kv_X12_missThing kn_X12 ⟨Nat.le_trans (by decide) hR1, Nat.le_trans (by decide) hR2⟩ ⟨Nat.zero_le _, Nat.zero_le _⟩ (Nat.le_of_ble_eq_true rfl) dX12_jam_24 (fun H locs w => ?_)
      obtain ⟨r6, S5, hc, h⟩ := bnd_t h
      refine s_cvi (pc := 27) [.int r4] (fun ad => [.ref (ad 0), .int r4]) F w (m_M_ends _ _ _ _ hc) rfl rfl hl.1 ds_0 vc_X12 rfl ok_X12_ends rfl kc_X12_ends kl_X12_236 ki_X12_ends kv_X12_ends kn_X12 ⟨Nat.le_trans (by decide) hR1, Nat.le_trans (by decide) hR2⟩ ⟨Nat.zero_le _, Nat.zero_le _⟩ (Nat.le_of_ble_eq_true rfl) dX12_jam_27 (fun H locs w => ?_)
      refine lv_if_eq (pc := 30) (tgt := 41) hx hb dX12_jam_30 (by decide) (fun q => ?_) (fun q => ?_)
      · have h := ite_t q h
        refine lv_aload_n (pc := 41) hx hb dX12_jam_41 rfl (lv_at hl 0 rfl) ?_
        refine s_getR (pc := 42) F w 26 ds_0 (j := 38) vc_X12 vi_X12 rfl (by decide) kf_X12_93 dX12_jam_42 ?_
        refine lv_iload_n (pc := 45) hx hb dX12_jam_45 rfl (lv_at hl 1 rfl) ?_
        refine s_iald (pc := 46) F w ds_26 h dX12_jam_46 (fun h => ?_)
        refine s_nm h (fun z7 ez7 h => ?_)
        rw [← ez7]
        refine lv_istore_n (pc := 47) (lv' := [(3, .int z7), (0, .ref (ad 0)), (1, .int a1), (2, .int a2)]) hx hb dX12_jam_47 rfl hl (by decide) rfl (fun ls hl => ?_)
        refine lv_aload_n (pc := 48) hx hb dX12_jam_48 rfl (lv_at hl 1 rfl) ?_
        refine s_getR (pc := 49) F w 26 ds_0 (j := 38) vc_X12 vi_X12 rfl (by decide) kf_X12_93 dX12_jam_49 ?_
        refine lv_iload_n (pc := 52) hx hb dX12_jam_52 rfl (lv_at hl 2 rfl) ?_
        refine lv_iload_n (pc := 53) hx hb dX12_jam_53 rfl (lv_at hl 3 rfl) ?_
        refine s_iast (pc := 54) F w ds_26 h dX12_jam_54 (fun S8 H locs h w => ?_)
        refine lv_aload_n (pc := 55) hx hb dX12_jam_55 rfl (lv_at hl 1 rfl) ?_
        refine lv_iconst (pc := 56) (v := 2) hx hb dX12_jam_56 (by decide) ?_
        refine lv_iload_n (pc := 57) hx hb dX12_jam_57 rfl (lv_at hl 0 rfl) ?_
        obtain ⟨r10, S9, hc, h⟩ := bnd_t h
        refine s_cvi (pc := 58) [.int (2 : Int32), .int z7] (fun ad => [.ref (ad 0), .int (2 : Int32), .int z7]) F w (m_M_entered _ _ _ _ _ hc) rfl rfl hl.1 ds_0 vc_X12 rfl ok_X12_entered rfl kc_X12_entered kl_X12_349 ki_X12_entered kv_X12_entered kn_X12 ⟨Nat.le_trans (by decide) hR1, Nat.le_trans (by decide) hR2⟩ ⟨Nat.zero_le _, Nat.zero_le _⟩ (Nat.le_of_ble_eq_true rfl) dX12_jam_58 (fun H locs w => ?_)
        exact s_iret F w h dX12_jam_61
      · have h := ite_f q h
        refine lv_aload_n (pc := 33) hx hb dX12_jam_33 rfl (lv_at hl 0 rfl) ?_
        refine lv_iconst (pc := 34) (v := 2) hx hb dX12_jam_34 (by decide) ?_
        refine lv_bipush (pc := 35) (v := -2) hx hb dX12_jam_35 (by decide) ?_
        obtain ⟨r12, S11, hc, h⟩ := bnd_t h
        refine s_cvi (pc := 37) [.int (2 : Int32), .int (-2 : Int32)] (fun ad => [.ref (ad 0), .int (2 : Int32), .int (-2 : Int32)]) F w (m_M_entered _ _ _ _ _ hc) rfl rfl hl.1 ds_0 vc_X12 rfl ok_X12_entered rfl kc_X12_entered kl_X12_349 ki_X12_entered kv_X12_entered kn_X12 ⟨Nat.le_trans (by decide) hR1, Nat.le_trans (by decide) hR2⟩ ⟨Nat.zero_le _, Nat.zero_le _⟩ (Nat.le_of_ble_eq_true rfl) dX12_jam_37 (fun H locs w => ?_)
        exact s_iret F w h dX12_jam_40
    · have h := ite_f q h
      refine lv_iconst (pc := 10) (v := -1) hx hb dX12_jam_10 (by decide) ?_
      exact s_iret F w h dX12_jam_11
def f_M_raised (a1 : Int32) (S : SS) : Option (Int32 × SS) :=
  grd (inb a1 72) (
  wr S 0 1 (S.1 25 a1.toNatClampNeg) (fun S1 =>
  grd (inb a1 72) (
  if (S1.1 25 a1.toNatClampNeg) = (-4 : Int32) then
    some ((7 : Int32), S1)
  else
    some ((8 : Int32), S1))))
theorem dX12_raised_0 : decode cX12_raised 0 = .ok (.aload_n 0, 1) := dc_42 (by decide +kernel)
theorem dX12_raised_1 : decode cX12_raised 1 = .ok (.aload_n 0, 1) := dc_42 (by decide +kernel)
theorem dX12_raised_2 : decode cX12_raised 2 = .ok (.getfield 90, 3) := dc_180 (a := 0) (b := 90) (by decide +kernel)
theorem dX12_raised_5 : decode cX12_raised 5 = .ok (.iload_n 1, 1) := dc_27 (by decide +kernel)
theorem dX12_raised_6 : decode cX12_raised 6 = .ok (.iaload, 1) := dc_46 (by decide +kernel)
theorem dX12_raised_7 : decode cX12_raised 7 = .ok (.putfield 9, 3) := dc_181 (a := 0) (b := 9) (by decide +kernel)
theorem dX12_raised_10 : decode cX12_raised 10 = .ok (.aload_n 0, 1) := dc_42 (by decide +kernel)
theorem dX12_raised_11 : decode cX12_raised 11 = .ok (.getfield 90, 3) := dc_180 (a := 0) (b := 90) (by decide +kernel)
theorem dX12_raised_14 : decode cX12_raised 14 = .ok (.iload_n 1, 1) := dc_27 (by decide +kernel)
theorem dX12_raised_15 : decode cX12_raised 15 = .ok (.iaload, 1) := dc_46 (by decide +kernel)
theorem dX12_raised_16 : decode cX12_raised 16 = .ok (.bipush (-4), 2) := dc_16 (a := 252) (by decide +kernel) (by decide)
theorem dX12_raised_18 : decode cX12_raised 18 = .ok (.if_icmp .ne 8, 3) := dc_160 (a := 0) (b := 8) (by decide +kernel) (by decide)
theorem dX12_raised_21 : decode cX12_raised 21 = .ok (.bipush 7, 2) := dc_16 (a := 7) (by decide +kernel) (by decide)
theorem dX12_raised_23 : decode cX12_raised 23 = .ok (.goto 5, 3) := dc_167 (a := 0) (b := 5) (by decide +kernel) (by decide)
theorem dX12_raised_26 : decode cX12_raised 26 = .ok (.bipush 8, 2) := dc_16 (a := 8) (by decide +kernel) (by decide)
theorem dX12_raised_28 : decode cX12_raised 28 = .ok (.ireturn, 1) := dc_172 (by decide +kernel)
set_option maxRecDepth 100000 in
set_option maxHeartbeats 4000000 in
theorem m_M_raised (a1 : Int32) (S S' : SS) (r : Int32) (h : f_M_raised a1 S = some (r, S')) : MT yX12_raised cX12_raised 2 (some .int) 0 0 (fun ad => [.ref (ad 0), .int a1]) S (some (.int r)) S' := by
  refine MT.of RX12 (fun ad => [(0, .ref (ad 0)), (1, .int a1)]) (by decide) rfl (fun _ => Nat.le_of_ble_eq_true rfl) (fun _ => rfl) ?_
  intro p l e R s m args below meth c dC dI cs ad A hR1 hR2 F H locs ls w hl
  have hx := F.1.1
  have hb := F.1.2.1
  rw [f_M_raised] at h
  refine lv_aload_n (pc := 0) hx hb dX12_raised_0 rfl (lv_at hl 0 rfl) ?_
  refine lv_aload_n (pc := 1) hx hb dX12_raised_1 rfl (lv_at hl 0 rfl) ?_
  refine s_getR (pc := 2) F w 25 ds_0 (j := 37) vc_X12 vi_X12 rfl (by decide) kf_X12_90 dX12_raised_2 ?_
  refine lv_iload_n (pc := 5) hx hb dX12_raised_5 rfl (lv_at hl 1 rfl) ?_
  refine s_iald (pc := 6) F w ds_25 h dX12_raised_6 (fun h => ?_)
  refine s_putI (pc := 7) F w ds_0 vc_X12 vi_X12 tyX12_ok nmX12 (j := 1) rfl (by decide) kf_X12_9 rfl pd_I h dX12_raised_7 (fun S1 H locs h w => ?_)
  refine lv_aload_n (pc := 10) hx hb dX12_raised_10 rfl (lv_at hl 0 rfl) ?_
  refine s_getR (pc := 11) F w 25 ds_0 (j := 37) vc_X12 vi_X12 rfl (by decide) kf_X12_90 dX12_raised_11 ?_
  refine lv_iload_n (pc := 14) hx hb dX12_raised_14 rfl (lv_at hl 1 rfl) ?_
  refine s_iald (pc := 15) F w ds_25 h dX12_raised_15 (fun h => ?_)
  refine lv_bipush (pc := 16) (v := -4) hx hb dX12_raised_16 (by decide) ?_
  refine lv_icmp_ne (pc := 18) (tgt := 26) hx hb dX12_raised_18 (by decide) (fun q => ?_) (fun q => ?_)
  · have h := ite_f q h
    refine lv_bipush (pc := 26) (v := 8) hx hb dX12_raised_26 (by decide) ?_
    exact s_iret F w h dX12_raised_28
  · have h := ite_t q h
    refine lv_bipush (pc := 21) (v := 7) hx hb dX12_raised_21 (by decide) ?_
    refine lv_goto (pc := 23) (tgt := 28) hx hb dX12_raised_23 (by decide) ?_
    exact s_iret F w h dX12_raised_28
def f_M_raise (a1 : Int32) (S : SS) : Option (Int32 × SS) :=
  bndv (f_M_begin  S) (fun S1 =>
  bnd (f_M_missThing a1 (0 : Int32) S1) (fun r3 S2 =>
  if r3 = 0 then
    bnd (f_M_raised a1 S2) (fun r5 S4 =>
    bnd (f_M_found r5 S4) (fun r7 S6 =>
    some (r7, S6)))
  else
    bnd (f_M_found r3 S2) (fun r9 S8 =>
    some (r9, S8))))
theorem dX12_raise_0 : decode cX12_raise 0 = .ok (.aload_n 0, 1) := dc_42 (by decide +kernel)
theorem dX12_raise_1 : decode cX12_raise 1 = .ok (.invokevirtual 226, 3) := dc_182 (a := 0) (b := 226) (by decide +kernel)
theorem dX12_raise_4 : decode cX12_raise 4 = .ok (.aload_n 0, 1) := dc_42 (by decide +kernel)
theorem dX12_raise_5 : decode cX12_raise 5 = .ok (.iload_n 1, 1) := dc_27 (by decide +kernel)
theorem dX12_raise_6 : decode cX12_raise 6 = .ok (.iconst 0, 1) := dc_3 (by decide +kernel)
theorem dX12_raise_7 : decode cX12_raise 7 = .ok (.invokevirtual 293, 3) := dc_182 (a := 1) (b := 37) (by decide +kernel)
theorem dX12_raise_10 : decode cX12_raise 10 = .ok (.istore_n 2, 1) := dc_61 (by decide +kernel)
theorem dX12_raise_11 : decode cX12_raise 11 = .ok (.aload_n 0, 1) := dc_42 (by decide +kernel)
theorem dX12_raise_12 : decode cX12_raise 12 = .ok (.iload_n 2, 1) := dc_28 (by decide +kernel)
theorem dX12_raise_13 : decode cX12_raise 13 = .ok (.ifCond .eq 7, 3) := dc_153 (a := 0) (b := 7) (by decide +kernel) (by decide)
theorem dX12_raise_16 : decode cX12_raise 16 = .ok (.iload_n 2, 1) := dc_28 (by decide +kernel)
theorem dX12_raise_17 : decode cX12_raise 17 = .ok (.goto 8, 3) := dc_167 (a := 0) (b := 8) (by decide +kernel) (by decide)
theorem dX12_raise_20 : decode cX12_raise 20 = .ok (.aload_n 0, 1) := dc_42 (by decide +kernel)
theorem dX12_raise_21 : decode cX12_raise 21 = .ok (.iload_n 1, 1) := dc_27 (by decide +kernel)
theorem dX12_raise_22 : decode cX12_raise 22 = .ok (.invokevirtual 352, 3) := dc_182 (a := 1) (b := 96) (by decide +kernel)
theorem dX12_raise_25 : decode cX12_raise 25 = .ok (.invokevirtual 210, 3) := dc_182 (a := 0) (b := 210) (by decide +kernel)
theorem dX12_raise_28 : decode cX12_raise 28 = .ok (.ireturn, 1) := dc_172 (by decide +kernel)
set_option maxRecDepth 100000 in
set_option maxHeartbeats 4000000 in
theorem m_M_raise (a1 : Int32) (S S' : SS) (r : Int32) (h : f_M_raise a1 S = some (r, S')) : MT yX12_raise cX12_raise 3 (some .int) 2 45 (fun ad => [.ref (ad 0), .int a1]) S (some (.int r)) S' := by
  refine MT.of RX12 (fun ad => [(0, .ref (ad 0)), (1, .int a1)]) (by decide) rfl (fun _ => Nat.le_of_ble_eq_true rfl) (fun _ => rfl) ?_
  intro p l e R s m args below meth c dC dI cs ad A hR1 hR2 F H locs ls w hl
  have hx := F.1.1
  have hb := F.1.2.1
  rw [f_M_raise] at h
  refine lv_aload_n (pc := 0) hx hb dX12_raise_0 rfl (lv_at hl 0 rfl) ?_
  obtain ⟨S1, hc, h⟩ := bndv_t h
  refine s_cvv (pc := 1) [] (fun ad => [.ref (ad 0)]) F w (m_M_begin  _ _ hc) rfl rfl hl.1 ds_0 vc_X12 rfl ok_X12_begin rfl kc_X12_begin kl_X12_226 ki_X12_begin kv_X12_begin kn_X12 ⟨Nat.le_trans (by decide) hR1, Nat.le_trans (by decide) hR2⟩ ⟨Nat.zero_le _, Nat.zero_le _⟩ (Nat.le_of_ble_eq_true rfl) dX12_raise_1 (fun H locs w => ?_)
  refine lv_aload_n (pc := 4) hx hb dX12_raise_4 rfl (lv_at hl 0 rfl) ?_
  refine lv_iload_n (pc := 5) hx hb dX12_raise_5 rfl (lv_at hl 1 rfl) ?_
  refine lv_iconst (pc := 6) (v := 0) hx hb dX12_raise_6 (by decide) ?_
  obtain ⟨r3, S2, hc, h⟩ := bnd_t h
  refine s_cvi (pc := 7) [.int a1, .int (0 : Int32)] (fun ad => [.ref (ad 0), .int a1, .int (0 : Int32)]) F w (m_M_missThing _ _ _ _ _ hc) rfl rfl hl.1 ds_0 vc_X12 rfl ok_X12_missThing rfl kc_X12_missThing kl_X12_293 ki_X12_missThing kv_X12_missThing kn_X12 ⟨Nat.le_trans (by decide) hR1, Nat.le_trans (by decide) hR2⟩ ⟨Nat.zero_le _, Nat.zero_le _⟩ (Nat.le_of_ble_eq_true rfl) dX12_raise_7 (fun H locs w => ?_)
  refine lv_istore_n (pc := 10) (lv' := [(2, .int r3), (0, .ref (ad 0)), (1, .int a1)]) hx hb dX12_raise_10 rfl hl (by decide) rfl (fun ls hl => ?_)
  refine lv_aload_n (pc := 11) hx hb dX12_raise_11 rfl (lv_at hl 1 rfl) ?_
  refine lv_iload_n (pc := 12) hx hb dX12_raise_12 rfl (lv_at hl 0 rfl) ?_
  refine lv_if_eq (pc := 13) (tgt := 20) hx hb dX12_raise_13 (by decide) (fun q => ?_) (fun q => ?_)
  · have h := ite_t q h
    refine lv_aload_n (pc := 20) hx hb dX12_raise_20 rfl (lv_at hl 1 rfl) ?_
    refine lv_iload_n (pc := 21) hx hb dX12_raise_21 rfl (lv_at hl 2 rfl) ?_
    obtain ⟨r5, S4, hc, h⟩ := bnd_t h
    refine s_cvi (pc := 22) [.int a1] (fun ad => [.ref (ad 0), .int a1]) F w (m_M_raised _ _ _ _ hc) rfl rfl hl.1 ds_0 vc_X12 rfl ok_X12_raised rfl kc_X12_raised kl_X12_352 ki_X12_raised kv_X12_raised kn_X12 ⟨Nat.le_trans (by decide) hR1, Nat.le_trans (by decide) hR2⟩ ⟨Nat.zero_le _, Nat.zero_le _⟩ (Nat.le_of_ble_eq_true rfl) dX12_raise_22 (fun H locs w => ?_)
    obtain ⟨r7, S6, hc, h⟩ := bnd_t h
    refine s_cvi (pc := 25) [.int r5] (fun ad => [.ref (ad 0), .int r5]) F w (m_M_found _ _ _ _ hc) rfl rfl hl.1 ds_0 vc_X12 rfl ok_X12_found rfl kc_X12_found kl_X12_210 ki_X12_found kv_X12_found kn_X12 ⟨Nat.le_trans (by decide) hR1, Nat.le_trans (by decide) hR2⟩ ⟨Nat.zero_le _, Nat.zero_le _⟩ (Nat.le_of_ble_eq_true rfl) dX12_raise_25 (fun H locs w => ?_)
    exact s_iret F w h dX12_raise_28
  · have h := ite_f q h
    refine lv_iload_n (pc := 16) hx hb dX12_raise_16 rfl (lv_at hl 0 rfl) ?_
    refine lv_goto (pc := 17) (tgt := 25) hx hb dX12_raise_17 (by decide) ?_
    obtain ⟨r9, S8, hc, h⟩ := bnd_t h
    refine s_cvi (pc := 25) [.int r3] (fun ad => [.ref (ad 0), .int r3]) F w (m_M_found _ _ _ _ hc) rfl rfl hl.1 ds_0 vc_X12 rfl ok_X12_found rfl kc_X12_found kl_X12_210 ki_X12_found kv_X12_found kn_X12 ⟨Nat.le_trans (by decide) hR1, Nat.le_trans (by decide) hR2⟩ ⟨Nat.zero_le _, Nat.zero_le _⟩ (Nat.le_of_ble_eq_true rfl) dX12_raise_25 (fun H locs w => ?_)
    exact s_iret F w h dX12_raise_28
def f_M_placeAtEnd (a1 : Int32) (S : SS) : Option (Int32 × SS) :=
  if (a1 - a1 / (2 : Int32) * (2 : Int32)) = 0 then
    some ((0 : Int32), S)
  else
    grd (inb (a1 / (2 : Int32)) 24) (
    some ((S.1 3 (a1 / (2 : Int32)).toNatClampNeg) - (1 : Int32), S))
theorem dX12_placeAtEnd_0 : decode cX12_placeAtEnd 0 = .ok (.iload_n 1, 1) := dc_27 (by decide +kernel)
theorem dX12_placeAtEnd_1 : decode cX12_placeAtEnd 1 = .ok (.iconst 2, 1) := dc_5 (by decide +kernel)
theorem dX12_placeAtEnd_2 : decode cX12_placeAtEnd 2 = .ok (.irem, 1) := dc_112 (by decide +kernel)
theorem dX12_placeAtEnd_3 : decode cX12_placeAtEnd 3 = .ok (.ifCond .ne 7, 3) := dc_154 (a := 0) (b := 7) (by decide +kernel) (by decide)
theorem dX12_placeAtEnd_6 : decode cX12_placeAtEnd 6 = .ok (.iconst 0, 1) := dc_3 (by decide +kernel)
theorem dX12_placeAtEnd_7 : decode cX12_placeAtEnd 7 = .ok (.goto 13, 3) := dc_167 (a := 0) (b := 13) (by decide +kernel) (by decide)
theorem dX12_placeAtEnd_10 : decode cX12_placeAtEnd 10 = .ok (.aload_n 0, 1) := dc_42 (by decide +kernel)
theorem dX12_placeAtEnd_11 : decode cX12_placeAtEnd 11 = .ok (.getfield 23, 3) := dc_180 (a := 0) (b := 23) (by decide +kernel)
theorem dX12_placeAtEnd_14 : decode cX12_placeAtEnd 14 = .ok (.iload_n 1, 1) := dc_27 (by decide +kernel)
theorem dX12_placeAtEnd_15 : decode cX12_placeAtEnd 15 = .ok (.iconst 2, 1) := dc_5 (by decide +kernel)
theorem dX12_placeAtEnd_16 : decode cX12_placeAtEnd 16 = .ok (.idiv, 1) := dc_108 (by decide +kernel)
theorem dX12_placeAtEnd_17 : decode cX12_placeAtEnd 17 = .ok (.iaload, 1) := dc_46 (by decide +kernel)
theorem dX12_placeAtEnd_18 : decode cX12_placeAtEnd 18 = .ok (.iconst 1, 1) := dc_4 (by decide +kernel)
theorem dX12_placeAtEnd_19 : decode cX12_placeAtEnd 19 = .ok (.isub, 1) := dc_100 (by decide +kernel)
theorem dX12_placeAtEnd_20 : decode cX12_placeAtEnd 20 = .ok (.ireturn, 1) := dc_172 (by decide +kernel)
set_option maxRecDepth 100000 in
set_option maxHeartbeats 4000000 in
theorem m_M_placeAtEnd (a1 : Int32) (S S' : SS) (r : Int32) (h : f_M_placeAtEnd a1 S = some (r, S')) : MT yX12_placeAtEnd cX12_placeAtEnd 2 (some .int) 0 0 (fun ad => [.ref (ad 0), .int a1]) S (some (.int r)) S' := by
  refine MT.of RX12 (fun ad => [(0, .ref (ad 0)), (1, .int a1)]) (by decide) rfl (fun _ => Nat.le_of_ble_eq_true rfl) (fun _ => rfl) ?_
  intro p l e R s m args below meth c dC dI cs ad A hR1 hR2 F H locs ls w hl
  have hx := F.1.1
  have hb := F.1.2.1
  rw [f_M_placeAtEnd] at h
  refine lv_iload_n (pc := 0) hx hb dX12_placeAtEnd_0 rfl (lv_at hl 1 rfl) ?_
  refine lv_iconst (pc := 1) (v := 2) hx hb dX12_placeAtEnd_1 (by decide) ?_
  refine lv_irem (pc := 2) hx hb dX12_placeAtEnd_2 (by decide) ?_
  refine lv_if_ne (pc := 3) (tgt := 10) hx hb dX12_placeAtEnd_3 (by decide) (fun q => ?_) (fun q => ?_)
  · have h := ite_f q h
    refine lv_aload_n (pc := 10) hx hb dX12_placeAtEnd_10 rfl (lv_at hl 0 rfl) ?_
    refine s_getR (pc := 11) F w 3 ds_0 (j := 8) vc_X12 vi_X12 rfl (by decide) kf_X12_23 dX12_placeAtEnd_11 ?_
    refine lv_iload_n (pc := 14) hx hb dX12_placeAtEnd_14 rfl (lv_at hl 1 rfl) ?_
    refine lv_iconst (pc := 15) (v := 2) hx hb dX12_placeAtEnd_15 (by decide) ?_
    refine lv_idiv (pc := 16) hx hb dX12_placeAtEnd_16 (by decide) ?_
    refine s_iald (pc := 17) F w ds_3 h dX12_placeAtEnd_17 (fun h => ?_)
    refine lv_iconst (pc := 18) (v := 1) hx hb dX12_placeAtEnd_18 (by decide) ?_
    refine lv_isub (pc := 19) hx hb dX12_placeAtEnd_19 ?_
    exact s_iret F w h dX12_placeAtEnd_20
  · have h := ite_t q h
    refine lv_iconst (pc := 6) (v := 0) hx hb dX12_placeAtEnd_6 (by decide) ?_
    refine lv_goto (pc := 7) (tgt := 20) hx hb dX12_placeAtEnd_7 (by decide) ?_
    exact s_iret F w h dX12_placeAtEnd_20
def f_M_isUnder (a1 : Int32) (S : SS) : Option (Int32 × SS) :=
  grd (inb a1 40) (
  grd (inb a1 40) (
  bnd (f_M_placeAtEnd (S.1 9 a1.toNatClampNeg) S) (fun r2 S1 =>
  bnd (f_M_standing ((S.1 9 a1.toNatClampNeg) / (2 : Int32)) r2 S1) (fun r4 S3 =>
  if r4 = (-4 : Int32) then
    some ((0 : Int32), S3)
  else
    some ((1 : Int32), S3)))))
theorem dX12_isUnder_0 : decode cX12_isUnder 0 = .ok (.aload_n 0, 1) := dc_42 (by decide +kernel)
theorem dX12_isUnder_1 : decode cX12_isUnder 1 = .ok (.aload_n 0, 1) := dc_42 (by decide +kernel)
theorem dX12_isUnder_2 : decode cX12_isUnder 2 = .ok (.getfield 42, 3) := dc_180 (a := 0) (b := 42) (by decide +kernel)
theorem dX12_isUnder_5 : decode cX12_isUnder 5 = .ok (.iload_n 1, 1) := dc_27 (by decide +kernel)
theorem dX12_isUnder_6 : decode cX12_isUnder 6 = .ok (.iaload, 1) := dc_46 (by decide +kernel)
theorem dX12_isUnder_7 : decode cX12_isUnder 7 = .ok (.iconst 2, 1) := dc_5 (by decide +kernel)
theorem dX12_isUnder_8 : decode cX12_isUnder 8 = .ok (.idiv, 1) := dc_108 (by decide +kernel)
theorem dX12_isUnder_9 : decode cX12_isUnder 9 = .ok (.aload_n 0, 1) := dc_42 (by decide +kernel)
theorem dX12_isUnder_10 : decode cX12_isUnder 10 = .ok (.aload_n 0, 1) := dc_42 (by decide +kernel)
theorem dX12_isUnder_11 : decode cX12_isUnder 11 = .ok (.getfield 42, 3) := dc_180 (a := 0) (b := 42) (by decide +kernel)
theorem dX12_isUnder_14 : decode cX12_isUnder 14 = .ok (.iload_n 1, 1) := dc_27 (by decide +kernel)
theorem dX12_isUnder_15 : decode cX12_isUnder 15 = .ok (.iaload, 1) := dc_46 (by decide +kernel)
theorem dX12_isUnder_16 : decode cX12_isUnder 16 = .ok (.invokevirtual 257, 3) := dc_182 (a := 1) (b := 1) (by decide +kernel)
theorem dX12_isUnder_19 : decode cX12_isUnder 19 = .ok (.invokevirtual 279, 3) := dc_182 (a := 1) (b := 23) (by decide +kernel)
theorem dX12_isUnder_22 : decode cX12_isUnder 22 = .ok (.bipush (-4), 2) := dc_16 (a := 252) (by decide +kernel) (by decide)
theorem dX12_isUnder_24 : decode cX12_isUnder 24 = .ok (.if_icmp .eq 7, 3) := dc_159 (a := 0) (b := 7) (by decide +kernel) (by decide)
theorem dX12_isUnder_27 : decode cX12_isUnder 27 = .ok (.iconst 1, 1) := dc_4 (by decide +kernel)
theorem dX12_isUnder_28 : decode cX12_isUnder 28 = .ok (.goto 4, 3) := dc_167 (a := 0) (b := 4) (by decide +kernel) (by decide)
theorem dX12_isUnder_31 : decode cX12_isUnder 31 = .ok (.iconst 0, 1) := dc_3 (by decide +kernel)
theorem dX12_isUnder_32 : decode cX12_isUnder 32 = .ok (.ireturn, 1) := dc_172 (by decide +kernel)
set_option maxRecDepth 100000 in
set_option maxHeartbeats 4000000 in
theorem m_M_isUnder (a1 : Int32) (S S' : SS) (r : Int32) (h : f_M_isUnder a1 S = some (r, S')) : MT yX12_isUnder cX12_isUnder 2 (some .boolean) 1 23 (fun ad => [.ref (ad 0), .int a1]) S (some (.int r)) S' := by
  refine MT.of RX12 (fun ad => [(0, .ref (ad 0)), (1, .int a1)]) (by decide) rfl (fun _ => Nat.le_of_ble_eq_true rfl) (fun _ => rfl) ?_
  intro p l e R s m args below meth c dC dI cs ad A hR1 hR2 F H locs ls w hl
  have hx := F.1.1
  have hb := F.1.2.1
  rw [f_M_isUnder] at h
  refine lv_aload_n (pc := 0) hx hb dX12_isUnder_0 rfl (lv_at hl 0 rfl) ?_
  refine lv_aload_n (pc := 1) hx hb dX12_isUnder_1 rfl (lv_at hl 0 rfl) ?_
  refine s_getR (pc := 2) F w 9 ds_0 (j := 16) vc_X12 vi_X12 rfl (by decide) kf_X12_42 dX12_isUnder_2 ?_
  refine lv_iload_n (pc := 5) hx hb dX12_isUnder_5 rfl (lv_at hl 1 rfl) ?_
  refine s_iald (pc := 6) F w ds_9 h dX12_isUnder_6 (fun h => ?_)
  refine lv_iconst (pc := 7) (v := 2) hx hb dX12_isUnder_7 (by decide) ?_
  refine lv_idiv (pc := 8) hx hb dX12_isUnder_8 (by decide) ?_
  refine lv_aload_n (pc := 9) hx hb dX12_isUnder_9 rfl (lv_at hl 0 rfl) ?_
  refine lv_aload_n (pc := 10) hx hb dX12_isUnder_10 rfl (lv_at hl 0 rfl) ?_
  refine s_getR (pc := 11) F w 9 ds_0 (j := 16) vc_X12 vi_X12 rfl (by decide) kf_X12_42 dX12_isUnder_11 ?_
  refine lv_iload_n (pc := 14) hx hb dX12_isUnder_14 rfl (lv_at hl 1 rfl) ?_
  refine s_iald (pc := 15) F w ds_9 h dX12_isUnder_15 (fun h => ?_)
  obtain ⟨r2, S1, hc, h⟩ := bnd_t h
  refine s_cvi (pc := 16) [.int (S.1 9 a1.toNatClampNeg)] (fun ad => [.ref (ad 0), .int (S.1 9 a1.toNatClampNeg)]) F w (m_M_placeAtEnd _ _ _ _ hc) rfl rfl hl.1 ds_0 vc_X12 rfl ok_X12_placeAtEnd rfl kc_X12_placeAtEnd kl_X12_257 ki_X12_placeAtEnd kv_X12_placeAtEnd kn_X12 ⟨Nat.le_trans (by decide) hR1, Nat.le_trans (by decide) hR2⟩ ⟨Nat.zero_le _, Nat.zero_le _⟩ (Nat.le_of_ble_eq_true rfl) dX12_isUnder_16 (fun H locs w => ?_)
  obtain ⟨r4, S3, hc, h⟩ := bnd_t h
  refine s_cvi (pc := 19) [.int ((S.1 9 a1.toNatClampNeg) / (2 : Int32)), .int r2] (fun ad => [.ref (ad 0), .int ((S.1 9 a1.toNatClampNeg) / (2 : Int32)), .int r2]) F w (m_M_standing _ _ _ _ _ hc) rfl rfl hl.1 ds_0 vc_X12 rfl ok_X12_standing rfl kc_X12_standing kl_X12_279 ki_X12_standing kv_X12_standing kn_X12 ⟨Nat.le_trans (by decide) hR1, Nat.le_trans (by decide) hR2⟩ ⟨Nat.zero_le _, Nat.zero_le _⟩ (Nat.le_of_ble_eq_true rfl) dX12_isUnder_19 (fun H locs w => ?_)
  refine lv_bipush (pc := 22) (v := -4) hx hb dX12_isUnder_22 (by decide) ?_
  refine lv_icmp_eq (pc := 24) (tgt := 31) hx hb dX12_isUnder_24 (by decide) (fun q => ?_) (fun q => ?_)
  · have h := ite_t q h
    refine lv_iconst (pc := 31) (v := 0) hx hb dX12_isUnder_31 (by decide) ?_
    exact s_zretc F w rfl h dX12_isUnder_32
  · have h := ite_f q h
    refine lv_iconst (pc := 27) (v := 1) hx hb dX12_isUnder_27 (by decide) ?_
    refine lv_goto (pc := 28) (tgt := 32) hx hb dX12_isUnder_28 (by decide) ?_
    exact s_zretc F w rfl h dX12_isUnder_32
def f_M_missTurn (a1 : Int32) (a2 : Int32) (S : SS) : Option (Int32 × SS) :=
  bnd (f_M_missPoint a1 S) (fun r2 S1 =>
  if r2 = 0 then
    if a2 < 0 then
      some ((3 : Int32), S1)
    else
      grd (inb a1 40) (
      grd (inb (S1.1 9 a1.toNatClampNeg) 48) (
      if a2 < (S1.1 6 (S1.1 9 a1.toNatClampNeg).toNatClampNeg) then
        grd (inb a1 40) (
        if (S1.1 10 a1.toNatClampNeg) = a2 then
          some ((0 : Int32), S1)
        else
          grd (inb a1 40) (
          wr S1 0 3 (S1.1 11 a1.toNatClampNeg) (fun S3 =>
          grd (inb a1 40) (
          if (S3.1 11 a1.toNatClampNeg) = (-4 : Int32) then
            bnd (f_M_isUnder a1 S3) (fun r5 S4 =>
            if r5 = 0 then
              some ((0 : Int32), S4)
            else
              some ((12 : Int32), S4))
          else
            some ((11 : Int32), S3)))))
      else
        some ((3 : Int32), S1)))
  else
    some (r2, S1))
theorem dX12_missTurn_0 : decode cX12_missTurn 0 = .ok (.aload_n 0, 1) := dc_42 (by decide +kernel)
theorem dX12_missTurn_1 : decode cX12_missTurn 1 = .ok (.iload_n 1, 1) := dc_27 (by decide +kernel)
theorem dX12_missTurn_2 : decode cX12_missTurn 2 = .ok (.invokevirtual 263, 3) := dc_182 (a := 1) (b := 7) (by decide +kernel)
theorem dX12_missTurn_5 : decode cX12_missTurn 5 = .ok (.istore_n 3, 1) := dc_62 (by decide +kernel)
theorem dX12_missTurn_6 : decode cX12_missTurn 6 = .ok (.iload_n 3, 1) := dc_29 (by decide +kernel)
theorem dX12_missTurn_7 : decode cX12_missTurn 7 = .ok (.ifCond .eq 5, 3) := dc_153 (a := 0) (b := 5) (by decide +kernel) (by decide)
theorem dX12_missTurn_10 : decode cX12_missTurn 10 = .ok (.iload_n 3, 1) := dc_29 (by decide +kernel)
theorem dX12_missTurn_11 : decode cX12_missTurn 11 = .ok (.ireturn, 1) := dc_172 (by decide +kernel)
theorem dX12_missTurn_12 : decode cX12_missTurn 12 = .ok (.iload_n 2, 1) := dc_28 (by decide +kernel)
theorem dX12_missTurn_13 : decode cX12_missTurn 13 = .ok (.ifCond .lt 18, 3) := dc_155 (a := 0) (b := 18) (by decide +kernel) (by decide)
theorem dX12_missTurn_16 : decode cX12_missTurn 16 = .ok (.iload_n 2, 1) := dc_28 (by decide +kernel)
theorem dX12_missTurn_17 : decode cX12_missTurn 17 = .ok (.aload_n 0, 1) := dc_42 (by decide +kernel)
theorem dX12_missTurn_18 : decode cX12_missTurn 18 = .ok (.getfield 33, 3) := dc_180 (a := 0) (b := 33) (by decide +kernel)
theorem dX12_missTurn_21 : decode cX12_missTurn 21 = .ok (.aload_n 0, 1) := dc_42 (by decide +kernel)
theorem dX12_missTurn_22 : decode cX12_missTurn 22 = .ok (.getfield 42, 3) := dc_180 (a := 0) (b := 42) (by decide +kernel)
theorem dX12_missTurn_25 : decode cX12_missTurn 25 = .ok (.iload_n 1, 1) := dc_27 (by decide +kernel)
theorem dX12_missTurn_26 : decode cX12_missTurn 26 = .ok (.iaload, 1) := dc_46 (by decide +kernel)
theorem dX12_missTurn_27 : decode cX12_missTurn 27 = .ok (.iaload, 1) := dc_46 (by decide +kernel)
theorem dX12_missTurn_28 : decode cX12_missTurn 28 = .ok (.if_icmp .lt 5, 3) := dc_161 (a := 0) (b := 5) (by decide +kernel) (by decide)
theorem dX12_missTurn_31 : decode cX12_missTurn 31 = .ok (.iconst 3, 1) := dc_6 (by decide +kernel)
theorem dX12_missTurn_32 : decode cX12_missTurn 32 = .ok (.ireturn, 1) := dc_172 (by decide +kernel)
theorem dX12_missTurn_33 : decode cX12_missTurn 33 = .ok (.aload_n 0, 1) := dc_42 (by decide +kernel)
theorem dX12_missTurn_34 : decode cX12_missTurn 34 = .ok (.getfield 45, 3) := dc_180 (a := 0) (b := 45) (by decide +kernel)
theorem dX12_missTurn_37 : decode cX12_missTurn 37 = .ok (.iload_n 1, 1) := dc_27 (by decide +kernel)
theorem dX12_missTurn_38 : decode cX12_missTurn 38 = .ok (.iaload, 1) := dc_46 (by decide +kernel)
theorem dX12_missTurn_39 : decode cX12_missTurn 39 = .ok (.iload_n 2, 1) := dc_28 (by decide +kernel)
theorem dX12_missTurn_40 : decode cX12_missTurn 40 = .ok (.if_icmp .ne 5, 3) := dc_160 (a := 0) (b := 5) (by decide +kernel) (by decide)
theorem dX12_missTurn_43 : decode cX12_missTurn 43 = .ok (.iconst 0, 1) := dc_3 (by decide +kernel)
theorem dX12_missTurn_44 : decode cX12_missTurn 44 = .ok (.ireturn, 1) := dc_172 (by decide +kernel)
theorem dX12_missTurn_45 : decode cX12_missTurn 45 = .ok (.aload_n 0, 1) := dc_42 (by decide +kernel)
theorem dX12_missTurn_46 : decode cX12_missTurn 46 = .ok (.aload_n 0, 1) := dc_42 (by decide +kernel)
theorem dX12_missTurn_47 : decode cX12_missTurn 47 = .ok (.getfield 48, 3) := dc_180 (a := 0) (b := 48) (by decide +kernel)
theorem dX12_missTurn_50 : decode cX12_missTurn 50 = .ok (.iload_n 1, 1) := dc_27 (by decide +kernel)
theorem dX12_missTurn_51 : decode cX12_missTurn 51 = .ok (.iaload, 1) := dc_46 (by decide +kernel)
theorem dX12_missTurn_52 : decode cX12_missTurn 52 = .ok (.putfield 13, 3) := dc_181 (a := 0) (b := 13) (by decide +kernel)
theorem dX12_missTurn_55 : decode cX12_missTurn 55 = .ok (.aload_n 0, 1) := dc_42 (by decide +kernel)
theorem dX12_missTurn_56 : decode cX12_missTurn 56 = .ok (.getfield 48, 3) := dc_180 (a := 0) (b := 48) (by decide +kernel)
theorem dX12_missTurn_59 : decode cX12_missTurn 59 = .ok (.iload_n 1, 1) := dc_27 (by decide +kernel)
theorem dX12_missTurn_60 : decode cX12_missTurn 60 = .ok (.iaload, 1) := dc_46 (by decide +kernel)
theorem dX12_missTurn_61 : decode cX12_missTurn 61 = .ok (.bipush (-4), 2) := dc_16 (a := 252) (by decide +kernel) (by decide)
theorem dX12_missTurn_63 : decode cX12_missTurn 63 = .ok (.if_icmp .eq 8, 3) := dc_159 (a := 0) (b := 8) (by decide +kernel) (by decide)
theorem dX12_missTurn_66 : decode cX12_missTurn 66 = .ok (.bipush 11, 2) := dc_16 (a := 11) (by decide +kernel) (by decide)
theorem dX12_missTurn_68 : decode cX12_missTurn 68 = .ok (.goto 17, 3) := dc_167 (a := 0) (b := 17) (by decide +kernel) (by decide)
theorem dX12_missTurn_71 : decode cX12_missTurn 71 = .ok (.aload_n 0, 1) := dc_42 (by decide +kernel)
theorem dX12_missTurn_72 : decode cX12_missTurn 72 = .ok (.iload_n 1, 1) := dc_27 (by decide +kernel)
theorem dX12_missTurn_73 : decode cX12_missTurn 73 = .ok (.invokevirtual 355, 3) := dc_182 (a := 1) (b := 99) (by decide +kernel)
theorem dX12_missTurn_76 : decode cX12_missTurn 76 = .ok (.ifCond .eq 8, 3) := dc_153 (a := 0) (b := 8) (by decide +kernel) (by decide)
theorem dX12_missTurn_79 : decode cX12_missTurn 79 = .ok (.bipush 12, 2) := dc_16 (a := 12) (by decide +kernel) (by decide)
theorem dX12_missTurn_81 : decode cX12_missTurn 81 = .ok (.goto 4, 3) := dc_167 (a := 0) (b := 4) (by decide +kernel) (by decide)
theorem dX12_missTurn_84 : decode cX12_missTurn 84 = .ok (.iconst 0, 1) := dc_3 (by decide +kernel)
theorem dX12_missTurn_85 : decode cX12_missTurn 85 = .ok (.ireturn, 1) := dc_172 (by decide +kernel)
set_option maxRecDepth 100000 in
set_option maxHeartbeats 4000000 in
theorem m_M_missTurn (a1 : Int32) (a2 : Int32) (S S' : SS) (r : Int32) (h : f_M_missTurn a1 a2 S = some (r, S')) : MT yX12_missTurn cX12_missTurn 4 (some .int) 2 44 (fun ad => [.ref (ad 0), .int a1, .int a2]) S (some (.int r)) S' := by
  refine MT.of RX12 (fun ad => [(0, .ref (ad 0)), (1, .int a1), (2, .int a2)]) (by decide) rfl (fun _ => Nat.le_of_ble_eq_true rfl) (fun _ => rfl) ?_
  intro p l e R s m args below meth c dC dI cs ad A hR1 hR2 F H locs ls w hl
  have hx := F.1.1
  have hb := F.1.2.1
  rw [f_M_missTurn] at h
  refine lv_aload_n (pc := 0) hx hb dX12_missTurn_0 rfl (lv_at hl 0 rfl) ?_
  refine lv_iload_n (pc := 1) hx hb dX12_missTurn_1 rfl (lv_at hl 1 rfl) ?_
  obtain ⟨r2, S1, hc, h⟩ := bnd_t h
  refine s_cvi (pc := 2) [.int a1] (fun ad => [.ref (ad 0), .int a1]) F w (m_M_missPoint _ _ _ _ hc) rfl rfl hl.1 ds_0 vc_X12 rfl ok_X12_missPoint rfl kc_X12_missPoint kl_X12_263 ki_X12_missPoint kv_X12_missPoint kn_X12 ⟨Nat.le_trans (by decide) hR1, Nat.le_trans (by decide) hR2⟩ ⟨Nat.zero_le _, Nat.zero_le _⟩ (Nat.le_of_ble_eq_true rfl) dX12_missTurn_2 (fun H locs w => ?_)
  refine lv_istore_n (pc := 5) (lv' := [(3, .int r2), (0, .ref (ad 0)), (1, .int a1), (2, .int a2)]) hx hb dX12_missTurn_5 rfl hl (by decide) rfl (fun ls hl => ?_)
  refine lv_iload_n (pc := 6) hx hb dX12_missTurn_6 rfl (lv_at hl 0 rfl) ?_
  refine lv_if_eq (pc := 7) (tgt := 12) hx hb dX12_missTurn_7 (by decide) (fun q => ?_) (fun q => ?_)
  · have h := ite_t q h
    refine lv_iload_n (pc := 12) hx hb dX12_missTurn_12 rfl (lv_at hl 3 rfl) ?_
    refine lv_if_lt (pc := 13) (tgt := 31) hx hb dX12_missTurn_13 (by decide) (fun q => ?_) (fun q => ?_)
    · have h := ite_t q h
      refine lv_iconst (pc := 31) (v := 3) hx hb dX12_missTurn_31 (by decide) ?_
      exact s_iret F w h dX12_missTurn_32
    · have h := ite_f q h
      refine lv_iload_n (pc := 16) hx hb dX12_missTurn_16 rfl (lv_at hl 3 rfl) ?_
      refine lv_aload_n (pc := 17) hx hb dX12_missTurn_17 rfl (lv_at hl 1 rfl) ?_
      refine s_getR (pc := 18) F w 6 ds_0 (j := 11) vc_X12 vi_X12 rfl (by decide) kf_X12_33 dX12_missTurn_18 ?_
      refine lv_aload_n (pc := 21) hx hb dX12_missTurn_21 rfl (lv_at hl 1 rfl) ?_
      refine s_getR (pc := 22) F w 9 ds_0 (j := 16) vc_X12 vi_X12 rfl (by decide) kf_X12_42 dX12_missTurn_22 ?_
      refine lv_iload_n (pc := 25) hx hb dX12_missTurn_25 rfl (lv_at hl 2 rfl) ?_
      refine s_iald (pc := 26) F w ds_9 h dX12_missTurn_26 (fun h => ?_)
      refine s_iald (pc := 27) F w ds_6 h dX12_missTurn_27 (fun h => ?_)
      refine lv_icmp_lt (pc := 28) (tgt := 33) hx hb dX12_missTurn_28 (by decide) (fun q => ?_) (fun q => ?_)
      · have h := ite_t q h
        refine lv_aload_n (pc := 33) hx hb dX12_missTurn_33 rfl (lv_at hl 1 rfl) ?_
        refine s_getR (pc := 34) F w 10 ds_0 (j := 17) vc_X12 vi_X12 rfl (by decide) kf_X12_45 dX12_missTurn_34 ?_
        refine lv_iload_n (pc := 37) hx hb dX12_missTurn_37 rfl (lv_at hl 2 rfl) ?_
        refine s_iald (pc := 38) F w ds_10 h dX12_missTurn_38 (fun h => ?_)
        refine lv_iload_n (pc := 39) hx hb dX12_missTurn_39 rfl (lv_at hl 3 rfl) ?_
        refine lv_icmp_ne (pc := 40) (tgt := 45) hx hb dX12_missTurn_40 (by decide) (fun q => ?_) (fun q => ?_)
        · have h := ite_f q h
          refine lv_aload_n (pc := 45) hx hb dX12_missTurn_45 rfl (lv_at hl 1 rfl) ?_
          refine lv_aload_n (pc := 46) hx hb dX12_missTurn_46 rfl (lv_at hl 1 rfl) ?_
          refine s_getR (pc := 47) F w 11 ds_0 (j := 18) vc_X12 vi_X12 rfl (by decide) kf_X12_48 dX12_missTurn_47 ?_
          refine lv_iload_n (pc := 50) hx hb dX12_missTurn_50 rfl (lv_at hl 2 rfl) ?_
          refine s_iald (pc := 51) F w ds_11 h dX12_missTurn_51 (fun h => ?_)
          refine s_putI (pc := 52) F w ds_0 vc_X12 vi_X12 tyX12_ok nmX12 (j := 3) rfl (by decide) kf_X12_13 rfl pd_I h dX12_missTurn_52 (fun S3 H locs h w => ?_)
          refine lv_aload_n (pc := 55) hx hb dX12_missTurn_55 rfl (lv_at hl 1 rfl) ?_
          refine s_getR (pc := 56) F w 11 ds_0 (j := 18) vc_X12 vi_X12 rfl (by decide) kf_X12_48 dX12_missTurn_56 ?_
          refine lv_iload_n (pc := 59) hx hb dX12_missTurn_59 rfl (lv_at hl 2 rfl) ?_
          refine s_iald (pc := 60) F w ds_11 h dX12_missTurn_60 (fun h => ?_)
          refine lv_bipush (pc := 61) (v := -4) hx hb dX12_missTurn_61 (by decide) ?_
          refine lv_icmp_eq (pc := 63) (tgt := 71) hx hb dX12_missTurn_63 (by decide) (fun q => ?_) (fun q => ?_)
          · have h := ite_t q h
            refine lv_aload_n (pc := 71) hx hb dX12_missTurn_71 rfl (lv_at hl 1 rfl) ?_
            refine lv_iload_n (pc := 72) hx hb dX12_missTurn_72 rfl (lv_at hl 2 rfl) ?_
            obtain ⟨r5, S4, hc, h⟩ := bnd_t h
            refine s_cvi (pc := 73) [.int a1] (fun ad => [.ref (ad 0), .int a1]) F w (m_M_isUnder _ _ _ _ hc) rfl rfl hl.1 ds_0 vc_X12 rfl ok_X12_isUnder rfl kc_X12_isUnder kl_X12_355 ki_X12_isUnder kv_X12_isUnder kn_X12 ⟨Nat.le_trans (by decide) hR1, Nat.le_trans (by decide) hR2⟩ ⟨Nat.zero_le _, Nat.zero_le _⟩ (Nat.le_of_ble_eq_true rfl) dX12_missTurn_73 (fun H locs w => ?_)
            refine lv_if_eq (pc := 76) (tgt := 84) hx hb dX12_missTurn_76 (by decide) (fun q => ?_) (fun q => ?_)
            · have h := ite_t q h
              refine lv_iconst (pc := 84) (v := 0) hx hb dX12_missTurn_84 (by decide) ?_
              exact s_iret F w h dX12_missTurn_85
            · have h := ite_f q h
              refine lv_bipush (pc := 79) (v := 12) hx hb dX12_missTurn_79 (by decide) ?_
              refine lv_goto (pc := 81) (tgt := 85) hx hb dX12_missTurn_81 (by decide) ?_
              exact s_iret F w h dX12_missTurn_85
          · have h := ite_f q h
            refine lv_bipush (pc := 66) (v := 11) hx hb dX12_missTurn_66 (by decide) ?_
            refine lv_goto (pc := 68) (tgt := 85) hx hb dX12_missTurn_68 (by decide) ?_
            exact s_iret F w h dX12_missTurn_85
        · have h := ite_t q h
          refine lv_iconst (pc := 43) (v := 0) hx hb dX12_missTurn_43 (by decide) ?_
          exact s_iret F w h dX12_missTurn_44
      · have h := ite_f q h
        refine lv_iconst (pc := 31) (v := 3) hx hb dX12_missTurn_31 (by decide) ?_
        exact s_iret F w h dX12_missTurn_32
  · have h := ite_f q h
    refine lv_iload_n (pc := 10) hx hb dX12_missTurn_10 rfl (lv_at hl 0 rfl) ?_
    exact s_iret F w h dX12_missTurn_11
def f_M_turn (a1 : Int32) (a2 : Int32) (S : SS) : Option (Int32 × SS) :=
  bndv (f_M_begin  S) (fun S1 =>
  bndv (f_M_keep  S1) (fun S2 =>
  bnd (f_M_missTurn a1 a2 S2) (fun r4 S3 =>
  bnd (f_M_ends r4 S3) (fun r6 S5 =>
  if r6 = 0 then
    grd (inb a1 40) (
    nm (S5.1 10 a1.toNatClampNeg) (fun z7 =>
    grd (inb a1 40) (wr S5 10 a1.toNatClampNeg a2 (fun S8 =>
    bnd (f_M_entered (3 : Int32) z7 S8) (fun r10 S9 =>
    some (r10, S9))))))
  else
    bnd (f_M_entered (3 : Int32) (-2 : Int32) S5) (fun r12 S11 =>
    some (r12, S11))))))
theorem dX12_turn_0 : decode cX12_turn 0 = .ok (.aload_n 0, 1) := dc_42 (by decide +kernel)
theorem dX12_turn_1 : decode cX12_turn 1 = .ok (.invokevirtual 226, 3) := dc_182 (a := 0) (b := 226) (by decide +kernel)
theorem dX12_turn_4 : decode cX12_turn 4 = .ok (.aload_n 0, 1) := dc_42 (by decide +kernel)
theorem dX12_turn_5 : decode cX12_turn 5 = .ok (.invokevirtual 346, 3) := dc_182 (a := 1) (b := 90) (by decide +kernel)
theorem dX12_turn_8 : decode cX12_turn 8 = .ok (.aload_n 0, 1) := dc_42 (by decide +kernel)
theorem dX12_turn_9 : decode cX12_turn 9 = .ok (.aload_n 0, 1) := dc_42 (by decide +kernel)
theorem dX12_turn_10 : decode cX12_turn 10 = .ok (.iload_n 1, 1) := dc_27 (by decide +kernel)
theorem dX12_turn_11 : decode cX12_turn 11 = .ok (.iload_n 2, 1) := dc_28 (by decide +kernel)
theorem dX12_turn_12 : decode cX12_turn 12 = .ok (.invokevirtual 358, 3) := dc_182 (a := 1) (b := 102) (by decide +kernel)
theorem dX12_turn_15 : decode cX12_turn 15 = .ok (.invokevirtual 236, 3) := dc_182 (a := 0) (b := 236) (by decide +kernel)
theorem dX12_turn_18 : decode cX12_turn 18 = .ok (.ifCond .eq 11, 3) := dc_153 (a := 0) (b := 11) (by decide +kernel) (by decide)
theorem dX12_turn_21 : decode cX12_turn 21 = .ok (.aload_n 0, 1) := dc_42 (by decide +kernel)
theorem dX12_turn_22 : decode cX12_turn 22 = .ok (.iconst 3, 1) := dc_6 (by decide +kernel)
theorem dX12_turn_23 : decode cX12_turn 23 = .ok (.bipush (-2), 2) := dc_16 (a := 254) (by decide +kernel) (by decide)
theorem dX12_turn_25 : decode cX12_turn 25 = .ok (.invokevirtual 349, 3) := dc_182 (a := 1) (b := 93) (by decide +kernel)
theorem dX12_turn_28 : decode cX12_turn 28 = .ok (.ireturn, 1) := dc_172 (by decide +kernel)
theorem dX12_turn_29 : decode cX12_turn 29 = .ok (.aload_n 0, 1) := dc_42 (by decide +kernel)
theorem dX12_turn_30 : decode cX12_turn 30 = .ok (.getfield 45, 3) := dc_180 (a := 0) (b := 45) (by decide +kernel)
theorem dX12_turn_33 : decode cX12_turn 33 = .ok (.iload_n 1, 1) := dc_27 (by decide +kernel)
theorem dX12_turn_34 : decode cX12_turn 34 = .ok (.iaload, 1) := dc_46 (by decide +kernel)
theorem dX12_turn_35 : decode cX12_turn 35 = .ok (.istore_n 3, 1) := dc_62 (by decide +kernel)
theorem dX12_turn_36 : decode cX12_turn 36 = .ok (.aload_n 0, 1) := dc_42 (by decide +kernel)
theorem dX12_turn_37 : decode cX12_turn 37 = .ok (.getfield 45, 3) := dc_180 (a := 0) (b := 45) (by decide +kernel)
theorem dX12_turn_40 : decode cX12_turn 40 = .ok (.iload_n 1, 1) := dc_27 (by decide +kernel)
theorem dX12_turn_41 : decode cX12_turn 41 = .ok (.iload_n 2, 1) := dc_28 (by decide +kernel)
theorem dX12_turn_42 : decode cX12_turn 42 = .ok (.iastore, 1) := dc_79 (by decide +kernel)
theorem dX12_turn_43 : decode cX12_turn 43 = .ok (.aload_n 0, 1) := dc_42 (by decide +kernel)
theorem dX12_turn_44 : decode cX12_turn 44 = .ok (.iconst 3, 1) := dc_6 (by decide +kernel)
theorem dX12_turn_45 : decode cX12_turn 45 = .ok (.iload_n 3, 1) := dc_29 (by decide +kernel)
theorem dX12_turn_46 : decode cX12_turn 46 = .ok (.invokevirtual 349, 3) := dc_182 (a := 1) (b := 93) (by decide +kernel)
theorem dX12_turn_49 : decode cX12_turn 49 = .ok (.ireturn, 1) := dc_172 (by decide +kernel)
set_option maxRecDepth 100000 in
set_option maxHeartbeats 4000000 in
theorem m_M_turn (a1 : Int32) (a2 : Int32) (S S' : SS) (r : Int32) (h : f_M_turn a1 a2 S = some (r, S')) : MT yX12_turn cX12_turn 4 (some .int) 3 67 (fun ad => [.ref (ad 0), .int a1, .int a2]) S (some (.int r)) S' := by
  refine MT.of RX12 (fun ad => [(0, .ref (ad 0)), (1, .int a1), (2, .int a2)]) (by decide) rfl (fun _ => Nat.le_of_ble_eq_true rfl) (fun _ => rfl) ?_
  intro p l e R s m args below meth c dC dI cs ad A hR1 hR2 F H locs ls w hl
  have hx := F.1.1
  have hb := F.1.2.1
  rw [f_M_turn] at h
  refine lv_aload_n (pc := 0) hx hb dX12_turn_0 rfl (lv_at hl 0 rfl) ?_
  obtain ⟨S1, hc, h⟩ := bndv_t h
  refine s_cvv (pc := 1) [] (fun ad => [.ref (ad 0)]) F w (m_M_begin  _ _ hc) rfl rfl hl.1 ds_0 vc_X12 rfl ok_X12_begin rfl kc_X12_begin kl_X12_226 ki_X12_begin kv_X12_begin kn_X12 ⟨Nat.le_trans (by decide) hR1, Nat.le_trans (by decide) hR2⟩ ⟨Nat.zero_le _, Nat.zero_le _⟩ (Nat.le_of_ble_eq_true rfl) dX12_turn_1 (fun H locs w => ?_)
  refine lv_aload_n (pc := 4) hx hb dX12_turn_4 rfl (lv_at hl 0 rfl) ?_
  obtain ⟨S2, hc, h⟩ := bndv_t h
  refine s_cvv (pc := 5) [] (fun ad => [.ref (ad 0)]) F w (m_M_keep  _ _ hc) rfl rfl hl.1 ds_0 vc_X12 rfl ok_X12_keep rfl kc_X12_keep kl_X12_346 ki_X12_keep kv_X12_keep kn_X12 ⟨Nat.le_trans (by decide) hR1, Nat.le_trans (by decide) hR2⟩ ⟨Nat.zero_le _, Nat.zero_le _⟩ (Nat.le_of_ble_eq_true rfl) dX12_turn_5 (fun H locs w => ?_)
  refine lv_aload_n (pc := 8) hx hb dX12_turn_8 rfl (lv_at hl 0 rfl) ?_
  refine lv_aload_n (pc := 9) hx hb dX12_turn_9 rfl (lv_at hl 0 rfl) ?_
  refine lv_iload_n (pc := 10) hx hb dX12_turn_10 rfl (lv_at hl 1 rfl) ?_
  refine lv_iload_n (pc := 11) hx hb dX12_turn_11 rfl (lv_at hl 2 rfl) ?_
  obtain ⟨r4, S3, hc, h⟩ := bnd_t h
  refine s_cvi (pc := 12) [.int a1, .int a2] (fun ad => [.ref (ad 0), .int a1, .int a2]) F w (m_M_missTurn _ _ _ _ _ hc) rfl rfl hl.1 ds_0 vc_X12 rfl ok_X12_missTurn rfl kc_X12_missTurn kl_X12_358 ki_X12_missTurn kv_X12_missTurn kn_X12 ⟨Nat.le_trans (by decide) hR1, Nat.le_trans (by decide) hR2⟩ ⟨Nat.zero_le _, Nat.zero_le _⟩ (Nat.le_of_ble_eq_true rfl) dX12_turn_12 (fun H locs w => ?_)
  obtain ⟨r6, S5, hc, h⟩ := bnd_t h
  refine s_cvi (pc := 15) [.int r4] (fun ad => [.ref (ad 0), .int r4]) F w (m_M_ends _ _ _ _ hc) rfl rfl hl.1 ds_0 vc_X12 rfl ok_X12_ends rfl kc_X12_ends kl_X12_236 ki_X12_ends kv_X12_ends kn_X12 ⟨Nat.le_trans (by decide) hR1, Nat.le_trans (by decide) hR2⟩ ⟨Nat.zero_le _, Nat.zero_le _⟩ (Nat.le_of_ble_eq_true rfl) dX12_turn_15 (fun H locs w => ?_)
  refine lv_if_eq (pc := 18) (tgt := 29) hx hb dX12_turn_18 (by decide) (fun q => ?_) (fun q => ?_)
  · have h := ite_t q h
    refine lv_aload_n (pc := 29) hx hb dX12_turn_29 rfl (lv_at hl 0 rfl) ?_
    refine s_getR (pc := 30) F w 10 ds_0 (j := 17) vc_X12 vi_X12 rfl (by decide) kf_X12_45 dX12_turn_30 ?_
    refine lv_iload_n (pc := 33) hx hb dX12_turn_33 rfl (lv_at hl 1 rfl) ?_
    refine s_iald (pc := 34) F w ds_10 h dX12_turn_34 (fun h => ?_)
    refine s_nm h (fun z7 ez7 h => ?_)
    rw [← ez7]
    refine lv_istore_n (pc := 35) (lv' := [(3, .int z7), (0, .ref (ad 0)), (1, .int a1), (2, .int a2)]) hx hb dX12_turn_35 rfl hl (by decide) rfl (fun ls hl => ?_)
    refine lv_aload_n (pc := 36) hx hb dX12_turn_36 rfl (lv_at hl 1 rfl) ?_
    refine s_getR (pc := 37) F w 10 ds_0 (j := 17) vc_X12 vi_X12 rfl (by decide) kf_X12_45 dX12_turn_37 ?_
    refine lv_iload_n (pc := 40) hx hb dX12_turn_40 rfl (lv_at hl 2 rfl) ?_
    refine lv_iload_n (pc := 41) hx hb dX12_turn_41 rfl (lv_at hl 3 rfl) ?_
    refine s_iast (pc := 42) F w ds_10 h dX12_turn_42 (fun S8 H locs h w => ?_)
    refine lv_aload_n (pc := 43) hx hb dX12_turn_43 rfl (lv_at hl 1 rfl) ?_
    refine lv_iconst (pc := 44) (v := 3) hx hb dX12_turn_44 (by decide) ?_
    refine lv_iload_n (pc := 45) hx hb dX12_turn_45 rfl (lv_at hl 0 rfl) ?_
    obtain ⟨r10, S9, hc, h⟩ := bnd_t h
    refine s_cvi (pc := 46) [.int (3 : Int32), .int z7] (fun ad => [.ref (ad 0), .int (3 : Int32), .int z7]) F w (m_M_entered _ _ _ _ _ hc) rfl rfl hl.1 ds_0 vc_X12 rfl ok_X12_entered rfl kc_X12_entered kl_X12_349 ki_X12_entered kv_X12_entered kn_X12 ⟨Nat.le_trans (by decide) hR1, Nat.le_trans (by decide) hR2⟩ ⟨Nat.zero_le _, Nat.zero_le _⟩ (Nat.le_of_ble_eq_true rfl) dX12_turn_46 (fun H locs w => ?_)
    exact s_iret F w h dX12_turn_49
  · have h := ite_f q h
    refine lv_aload_n (pc := 21) hx hb dX12_turn_21 rfl (lv_at hl 0 rfl) ?_
    refine lv_iconst (pc := 22) (v := 3) hx hb dX12_turn_22 (by decide) ?_
    refine lv_bipush (pc := 23) (v := -2) hx hb dX12_turn_23 (by decide) ?_
    obtain ⟨r12, S11, hc, h⟩ := bnd_t h
    refine s_cvi (pc := 25) [.int (3 : Int32), .int (-2 : Int32)] (fun ad => [.ref (ad 0), .int (3 : Int32), .int (-2 : Int32)]) F w (m_M_entered _ _ _ _ _ hc) rfl rfl hl.1 ds_0 vc_X12 rfl ok_X12_entered rfl kc_X12_entered kl_X12_349 ki_X12_entered kv_X12_entered kn_X12 ⟨Nat.le_trans (by decide) hR1, Nat.le_trans (by decide) hR2⟩ ⟨Nat.zero_le _, Nat.zero_le _⟩ (Nat.le_of_ble_eq_true rfl) dX12_turn_25 (fun H locs w => ?_)
    exact s_iret F w h dX12_turn_28
def f_M_missEntry (a1 : Int32) (S : SS) : Option (Int32 × SS) :=
  grd (inb a1 96) (
  nm (S.1 13 a1.toNatClampNeg) (fun z1 =>
  grd (inb a1 96) (
  nm (S.1 14 a1.toNatClampNeg) (fun z2 =>
  grd (inb z1 40) (
  if (S.1 11 z1.toNatClampNeg) = (-4 : Int32) then
    grd (inb z1 40) (
    grd (inb (S.1 9 z1.toNatClampNeg) 48) (
    if z2 < (S.1 6 (S.1 9 z1.toNatClampNeg).toNatClampNeg) then
      grd (inb z1 40) (
      if (S.1 10 z1.toNatClampNeg) = z2 then
        some ((0 : Int32), S)
      else
        bnd (f_M_isUnder z1 S) (fun r4 S3 =>
        if r4 = 0 then
          some ((0 : Int32), S3)
        else
          some ((12 : Int32), S3)))
    else
      some ((3 : Int32), S)))
  else
    grd (inb z1 40) (
    wr S 0 3 (S.1 11 z1.toNatClampNeg) (fun S5 =>
    some ((11 : Int32), S5))))))))
theorem dX12_missEntry_0 : decode cX12_missEntry 0 = .ok (.aload_n 0, 1) := dc_42 (by decide +kernel)
theorem dX12_missEntry_1 : decode cX12_missEntry 1 = .ok (.getfield 54, 3) := dc_180 (a := 0) (b := 54) (by decide +kernel)
theorem dX12_missEntry_4 : decode cX12_missEntry 4 = .ok (.iload_n 1, 1) := dc_27 (by decide +kernel)
theorem dX12_missEntry_5 : decode cX12_missEntry 5 = .ok (.iaload, 1) := dc_46 (by decide +kernel)
theorem dX12_missEntry_6 : decode cX12_missEntry 6 = .ok (.istore_n 2, 1) := dc_61 (by decide +kernel)
theorem dX12_missEntry_7 : decode cX12_missEntry 7 = .ok (.aload_n 0, 1) := dc_42 (by decide +kernel)
theorem dX12_missEntry_8 : decode cX12_missEntry 8 = .ok (.getfield 57, 3) := dc_180 (a := 0) (b := 57) (by decide +kernel)
theorem dX12_missEntry_11 : decode cX12_missEntry 11 = .ok (.iload_n 1, 1) := dc_27 (by decide +kernel)
theorem dX12_missEntry_12 : decode cX12_missEntry 12 = .ok (.iaload, 1) := dc_46 (by decide +kernel)
theorem dX12_missEntry_13 : decode cX12_missEntry 13 = .ok (.istore_n 3, 1) := dc_62 (by decide +kernel)
theorem dX12_missEntry_14 : decode cX12_missEntry 14 = .ok (.aload_n 0, 1) := dc_42 (by decide +kernel)
theorem dX12_missEntry_15 : decode cX12_missEntry 15 = .ok (.getfield 48, 3) := dc_180 (a := 0) (b := 48) (by decide +kernel)
theorem dX12_missEntry_18 : decode cX12_missEntry 18 = .ok (.iload_n 2, 1) := dc_28 (by decide +kernel)
theorem dX12_missEntry_19 : decode cX12_missEntry 19 = .ok (.iaload, 1) := dc_46 (by decide +kernel)
theorem dX12_missEntry_20 : decode cX12_missEntry 20 = .ok (.bipush (-4), 2) := dc_16 (a := 252) (by decide +kernel) (by decide)
theorem dX12_missEntry_22 : decode cX12_missEntry 22 = .ok (.if_icmp .eq 16, 3) := dc_159 (a := 0) (b := 16) (by decide +kernel) (by decide)
theorem dX12_missEntry_25 : decode cX12_missEntry 25 = .ok (.aload_n 0, 1) := dc_42 (by decide +kernel)
theorem dX12_missEntry_26 : decode cX12_missEntry 26 = .ok (.aload_n 0, 1) := dc_42 (by decide +kernel)
theorem dX12_missEntry_27 : decode cX12_missEntry 27 = .ok (.getfield 48, 3) := dc_180 (a := 0) (b := 48) (by decide +kernel)
theorem dX12_missEntry_30 : decode cX12_missEntry 30 = .ok (.iload_n 2, 1) := dc_28 (by decide +kernel)
theorem dX12_missEntry_31 : decode cX12_missEntry 31 = .ok (.iaload, 1) := dc_46 (by decide +kernel)
theorem dX12_missEntry_32 : decode cX12_missEntry 32 = .ok (.putfield 13, 3) := dc_181 (a := 0) (b := 13) (by decide +kernel)
theorem dX12_missEntry_35 : decode cX12_missEntry 35 = .ok (.bipush 11, 2) := dc_16 (a := 11) (by decide +kernel) (by decide)
theorem dX12_missEntry_37 : decode cX12_missEntry 37 = .ok (.ireturn, 1) := dc_172 (by decide +kernel)
theorem dX12_missEntry_38 : decode cX12_missEntry 38 = .ok (.iload_n 3, 1) := dc_29 (by decide +kernel)
theorem dX12_missEntry_39 : decode cX12_missEntry 39 = .ok (.aload_n 0, 1) := dc_42 (by decide +kernel)
theorem dX12_missEntry_40 : decode cX12_missEntry 40 = .ok (.getfield 33, 3) := dc_180 (a := 0) (b := 33) (by decide +kernel)
theorem dX12_missEntry_43 : decode cX12_missEntry 43 = .ok (.aload_n 0, 1) := dc_42 (by decide +kernel)
theorem dX12_missEntry_44 : decode cX12_missEntry 44 = .ok (.getfield 42, 3) := dc_180 (a := 0) (b := 42) (by decide +kernel)
theorem dX12_missEntry_47 : decode cX12_missEntry 47 = .ok (.iload_n 2, 1) := dc_28 (by decide +kernel)
theorem dX12_missEntry_48 : decode cX12_missEntry 48 = .ok (.iaload, 1) := dc_46 (by decide +kernel)
theorem dX12_missEntry_49 : decode cX12_missEntry 49 = .ok (.iaload, 1) := dc_46 (by decide +kernel)
theorem dX12_missEntry_50 : decode cX12_missEntry 50 = .ok (.if_icmp .lt 7, 3) := dc_161 (a := 0) (b := 7) (by decide +kernel) (by decide)
theorem dX12_missEntry_53 : decode cX12_missEntry 53 = .ok (.iconst 3, 1) := dc_6 (by decide +kernel)
theorem dX12_missEntry_54 : decode cX12_missEntry 54 = .ok (.goto 27, 3) := dc_167 (a := 0) (b := 27) (by decide +kernel) (by decide)
theorem dX12_missEntry_57 : decode cX12_missEntry 57 = .ok (.aload_n 0, 1) := dc_42 (by decide +kernel)
theorem dX12_missEntry_58 : decode cX12_missEntry 58 = .ok (.getfield 45, 3) := dc_180 (a := 0) (b := 45) (by decide +kernel)
theorem dX12_missEntry_61 : decode cX12_missEntry 61 = .ok (.iload_n 2, 1) := dc_28 (by decide +kernel)
theorem dX12_missEntry_62 : decode cX12_missEntry 62 = .ok (.iaload, 1) := dc_46 (by decide +kernel)
theorem dX12_missEntry_63 : decode cX12_missEntry 63 = .ok (.iload_n 3, 1) := dc_29 (by decide +kernel)
theorem dX12_missEntry_64 : decode cX12_missEntry 64 = .ok (.if_icmp .eq 16, 3) := dc_159 (a := 0) (b := 16) (by decide +kernel) (by decide)
theorem dX12_missEntry_67 : decode cX12_missEntry 67 = .ok (.aload_n 0, 1) := dc_42 (by decide +kernel)
theorem dX12_missEntry_68 : decode cX12_missEntry 68 = .ok (.iload_n 2, 1) := dc_28 (by decide +kernel)
theorem dX12_missEntry_69 : decode cX12_missEntry 69 = .ok (.invokevirtual 355, 3) := dc_182 (a := 1) (b := 99) (by decide +kernel)
theorem dX12_missEntry_72 : decode cX12_missEntry 72 = .ok (.ifCond .eq 8, 3) := dc_153 (a := 0) (b := 8) (by decide +kernel) (by decide)
theorem dX12_missEntry_75 : decode cX12_missEntry 75 = .ok (.bipush 12, 2) := dc_16 (a := 12) (by decide +kernel) (by decide)
theorem dX12_missEntry_77 : decode cX12_missEntry 77 = .ok (.goto 4, 3) := dc_167 (a := 0) (b := 4) (by decide +kernel) (by decide)
theorem dX12_missEntry_80 : decode cX12_missEntry 80 = .ok (.iconst 0, 1) := dc_3 (by decide +kernel)
theorem dX12_missEntry_81 : decode cX12_missEntry 81 = .ok (.ireturn, 1) := dc_172 (by decide +kernel)
set_option maxRecDepth 100000 in
set_option maxHeartbeats 4000000 in
theorem m_M_missEntry (a1 : Int32) (S S' : SS) (r : Int32) (h : f_M_missEntry a1 S = some (r, S')) : MT yX12_missEntry cX12_missEntry 4 (some .int) 2 44 (fun ad => [.ref (ad 0), .int a1]) S (some (.int r)) S' := by
  refine MT.of RX12 (fun ad => [(0, .ref (ad 0)), (1, .int a1)]) (by decide) rfl (fun _ => Nat.le_of_ble_eq_true rfl) (fun _ => rfl) ?_
  intro p l e R s m args below meth c dC dI cs ad A hR1 hR2 F H locs ls w hl
  have hx := F.1.1
  have hb := F.1.2.1
  rw [f_M_missEntry] at h
  refine lv_aload_n (pc := 0) hx hb dX12_missEntry_0 rfl (lv_at hl 0 rfl) ?_
  refine s_getR (pc := 1) F w 13 ds_0 (j := 21) vc_X12 vi_X12 rfl (by decide) kf_X12_54 dX12_missEntry_1 ?_
  refine lv_iload_n (pc := 4) hx hb dX12_missEntry_4 rfl (lv_at hl 1 rfl) ?_
  refine s_iald (pc := 5) F w ds_13 h dX12_missEntry_5 (fun h => ?_)
  refine s_nm h (fun z1 ez1 h => ?_)
  rw [← ez1]
  refine lv_istore_n (pc := 6) (lv' := [(2, .int z1), (0, .ref (ad 0)), (1, .int a1)]) hx hb dX12_missEntry_6 rfl hl (by decide) rfl (fun ls hl => ?_)
  refine lv_aload_n (pc := 7) hx hb dX12_missEntry_7 rfl (lv_at hl 1 rfl) ?_
  refine s_getR (pc := 8) F w 14 ds_0 (j := 22) vc_X12 vi_X12 rfl (by decide) kf_X12_57 dX12_missEntry_8 ?_
  refine lv_iload_n (pc := 11) hx hb dX12_missEntry_11 rfl (lv_at hl 2 rfl) ?_
  refine s_iald (pc := 12) F w ds_14 h dX12_missEntry_12 (fun h => ?_)
  refine s_nm h (fun z2 ez2 h => ?_)
  rw [← ez2]
  refine lv_istore_n (pc := 13) (lv' := [(3, .int z2), (2, .int z1), (0, .ref (ad 0)), (1, .int a1)]) hx hb dX12_missEntry_13 rfl hl (by decide) rfl (fun ls hl => ?_)
  refine lv_aload_n (pc := 14) hx hb dX12_missEntry_14 rfl (lv_at hl 2 rfl) ?_
  refine s_getR (pc := 15) F w 11 ds_0 (j := 18) vc_X12 vi_X12 rfl (by decide) kf_X12_48 dX12_missEntry_15 ?_
  refine lv_iload_n (pc := 18) hx hb dX12_missEntry_18 rfl (lv_at hl 1 rfl) ?_
  refine s_iald (pc := 19) F w ds_11 h dX12_missEntry_19 (fun h => ?_)
  refine lv_bipush (pc := 20) (v := -4) hx hb dX12_missEntry_20 (by decide) ?_
  refine lv_icmp_eq (pc := 22) (tgt := 38) hx hb dX12_missEntry_22 (by decide) (fun q => ?_) (fun q => ?_)
  · have h := ite_t q h
    refine lv_iload_n (pc := 38) hx hb dX12_missEntry_38 rfl (lv_at hl 0 rfl) ?_
    refine lv_aload_n (pc := 39) hx hb dX12_missEntry_39 rfl (lv_at hl 2 rfl) ?_
    refine s_getR (pc := 40) F w 6 ds_0 (j := 11) vc_X12 vi_X12 rfl (by decide) kf_X12_33 dX12_missEntry_40 ?_
    refine lv_aload_n (pc := 43) hx hb dX12_missEntry_43 rfl (lv_at hl 2 rfl) ?_
    refine s_getR (pc := 44) F w 9 ds_0 (j := 16) vc_X12 vi_X12 rfl (by decide) kf_X12_42 dX12_missEntry_44 ?_
    refine lv_iload_n (pc := 47) hx hb dX12_missEntry_47 rfl (lv_at hl 1 rfl) ?_
    refine s_iald (pc := 48) F w ds_9 h dX12_missEntry_48 (fun h => ?_)
    refine s_iald (pc := 49) F w ds_6 h dX12_missEntry_49 (fun h => ?_)
    refine lv_icmp_lt (pc := 50) (tgt := 57) hx hb dX12_missEntry_50 (by decide) (fun q => ?_) (fun q => ?_)
    · have h := ite_t q h
      refine lv_aload_n (pc := 57) hx hb dX12_missEntry_57 rfl (lv_at hl 2 rfl) ?_
      refine s_getR (pc := 58) F w 10 ds_0 (j := 17) vc_X12 vi_X12 rfl (by decide) kf_X12_45 dX12_missEntry_58 ?_
      refine lv_iload_n (pc := 61) hx hb dX12_missEntry_61 rfl (lv_at hl 1 rfl) ?_
      refine s_iald (pc := 62) F w ds_10 h dX12_missEntry_62 (fun h => ?_)
      refine lv_iload_n (pc := 63) hx hb dX12_missEntry_63 rfl (lv_at hl 0 rfl) ?_
      refine lv_icmp_eq (pc := 64) (tgt := 80) hx hb dX12_missEntry_64 (by decide) (fun q => ?_) (fun q => ?_)
      · have h := ite_t q h
        refine lv_iconst (pc := 80) (v := 0) hx hb dX12_missEntry_80 (by decide) ?_
        exact s_iret F w h dX12_missEntry_81
      · have h := ite_f q h
        refine lv_aload_n (pc := 67) hx hb dX12_missEntry_67 rfl (lv_at hl 2 rfl) ?_
        refine lv_iload_n (pc := 68) hx hb dX12_missEntry_68 rfl (lv_at hl 1 rfl) ?_
        obtain ⟨r4, S3, hc, h⟩ := bnd_t h
        refine s_cvi (pc := 69) [.int z1] (fun ad => [.ref (ad 0), .int z1]) F w (m_M_isUnder _ _ _ _ hc) rfl rfl hl.1 ds_0 vc_X12 rfl ok_X12_isUnder rfl kc_X12_isUnder kl_X12_355 ki_X12_isUnder kv_X12_isUnder kn_X12 ⟨Nat.le_trans (by decide) hR1, Nat.le_trans (by decide) hR2⟩ ⟨Nat.zero_le _, Nat.zero_le _⟩ (Nat.le_of_ble_eq_true rfl) dX12_missEntry_69 (fun H locs w => ?_)
        refine lv_if_eq (pc := 72) (tgt := 80) hx hb dX12_missEntry_72 (by decide) (fun q => ?_) (fun q => ?_)
        · have h := ite_t q h
          refine lv_iconst (pc := 80) (v := 0) hx hb dX12_missEntry_80 (by decide) ?_
          exact s_iret F w h dX12_missEntry_81
        · have h := ite_f q h
          refine lv_bipush (pc := 75) (v := 12) hx hb dX12_missEntry_75 (by decide) ?_
          refine lv_goto (pc := 77) (tgt := 81) hx hb dX12_missEntry_77 (by decide) ?_
          exact s_iret F w h dX12_missEntry_81
    · have h := ite_f q h
      refine lv_iconst (pc := 53) (v := 3) hx hb dX12_missEntry_53 (by decide) ?_
      refine lv_goto (pc := 54) (tgt := 81) hx hb dX12_missEntry_54 (by decide) ?_
      exact s_iret F w h dX12_missEntry_81
  · have h := ite_f q h
    refine lv_aload_n (pc := 25) hx hb dX12_missEntry_25 rfl (lv_at hl 2 rfl) ?_
    refine lv_aload_n (pc := 26) hx hb dX12_missEntry_26 rfl (lv_at hl 2 rfl) ?_
    refine s_getR (pc := 27) F w 11 ds_0 (j := 18) vc_X12 vi_X12 rfl (by decide) kf_X12_48 dX12_missEntry_27 ?_
    refine lv_iload_n (pc := 30) hx hb dX12_missEntry_30 rfl (lv_at hl 1 rfl) ?_
    refine s_iald (pc := 31) F w ds_11 h dX12_missEntry_31 (fun h => ?_)
    refine s_putI (pc := 32) F w ds_0 vc_X12 vi_X12 tyX12_ok nmX12 (j := 3) rfl (by decide) kf_X12_13 rfl pd_I h dX12_missEntry_32 (fun S5 H locs h w => ?_)
    refine lv_bipush (pc := 35) (v := 11) hx hb dX12_missEntry_35 (by decide) ?_
    exact s_iret F w h dX12_missEntry_37
def f_M_lock_L72  : Nat → Int32 → Int32 → Int32 → Int32 → SS → Option (Int32 × SS)
  | 0, _, _, _, _, _ => none
  | n + 1, x1, x2, x4, x5, S =>
    if x2 ≤ x5 then
      bnd (f_M_found x4 S) (fun r17 S16 =>
      bnd (f_M_entered (4 : Int32) (-2 : Int32) S16) (fun r19 S18 =>
      some (r19, S18)))
    else
      grd (inb (((8 : Int32) * x1) + x5) 96) (
      grd (inb (S.1 13 (((8 : Int32) * x1) + x5).toNatClampNeg) 40) (wr S 11 (S.1 13 (((8 : Int32) * x1) + x5).toNatClampNeg).toNatClampNeg (-4 : Int32) (fun S20 =>
      grd (inb (((8 : Int32) * x1) + x5) 96) (
      grd (inb x5 8) (
      grd (inb (S20.1 13 (((8 : Int32) * x1) + x5).toNatClampNeg) 40) (wr S20 10 (S20.1 13 (((8 : Int32) * x1) + x5).toNatClampNeg).toNatClampNeg (S20.1 43 x5.toNatClampNeg) (fun S21 =>
      nm (x5 + (1 : Int32)) (fun z22 =>
      f_M_lock_L72 n x1 x2 x4 z22 S21))))))))
def f_M_lock_L30  : Nat → Int32 → Int32 → SS → Option (Int32 × SS)
  | 0, _, _, _ => none
  | n + 1, x1, x2, S =>
    grd (inb x1 12) (
    if (S.1 12 x1.toNatClampNeg) ≤ x2 then
      grd (inb x1 12) (
      bnd (f_M_entered (4 : Int32) (S.1 12 x1.toNatClampNeg) S) (fun r8 S7 =>
      some (r8, S7)))
    else
      grd (inb (((8 : Int32) * x1) + x2) 96) (
      nm (S.1 13 (((8 : Int32) * x1) + x2).toNatClampNeg) (fun z9 =>
      bnd (f_M_missEntry (((8 : Int32) * x1) + x2) S) (fun r11 S10 =>
      if r11 = 0 then
        grd (inb z9 40) (
        grd (inb x2 8) (wr S10 43 x2.toNatClampNeg (S10.1 10 z9.toNatClampNeg) (fun S12 =>
        grd (inb (((8 : Int32) * x1) + x2) 96) (
        grd (inb z9 40) (wr S12 10 z9.toNatClampNeg (S12.1 14 (((8 : Int32) * x1) + x2).toNatClampNeg) (fun S13 =>
        grd (inb z9 40) (wr S13 11 z9.toNatClampNeg x1 (fun S14 =>
        nm (x2 + (1 : Int32)) (fun z15 =>
        f_M_lock_L30 n x1 z15 S14)))))))))
      else
        f_M_lock_L72 NF x1 x2 r11 (0 : Int32) S10))))
def f_M_lock (a1 : Int32) (S : SS) : Option (Int32 × SS) :=
  bndv (f_M_begin  S) (fun S1 =>
  bndv (f_M_keep  S1) (fun S2 =>
  bnd (f_M_missRoute a1 S2) (fun r4 S3 =>
  bnd (f_M_ends r4 S3) (fun r6 S5 =>
  if r6 = 0 then
    f_M_lock_L30 NF a1 (0 : Int32) S5
  else
    bnd (f_M_entered (4 : Int32) (-2 : Int32) S5) (fun r24 S23 =>
    some (r24, S23))))))
theorem dX12_lock_0 : decode cX12_lock 0 = .ok (.aload_n 0, 1) := dc_42 (by decide +kernel)
theorem dX12_lock_1 : decode cX12_lock 1 = .ok (.invokevirtual 226, 3) := dc_182 (a := 0) (b := 226) (by decide +kernel)
theorem dX12_lock_4 : decode cX12_lock 4 = .ok (.aload_n 0, 1) := dc_42 (by decide +kernel)
theorem dX12_lock_5 : decode cX12_lock 5 = .ok (.invokevirtual 346, 3) := dc_182 (a := 1) (b := 90) (by decide +kernel)
theorem dX12_lock_8 : decode cX12_lock 8 = .ok (.aload_n 0, 1) := dc_42 (by decide +kernel)
theorem dX12_lock_9 : decode cX12_lock 9 = .ok (.aload_n 0, 1) := dc_42 (by decide +kernel)
theorem dX12_lock_10 : decode cX12_lock 10 = .ok (.iload_n 1, 1) := dc_27 (by decide +kernel)
theorem dX12_lock_11 : decode cX12_lock 11 = .ok (.invokevirtual 260, 3) := dc_182 (a := 1) (b := 4) (by decide +kernel)
theorem dX12_lock_14 : decode cX12_lock 14 = .ok (.invokevirtual 236, 3) := dc_182 (a := 0) (b := 236) (by decide +kernel)
theorem dX12_lock_17 : decode cX12_lock 17 = .ok (.ifCond .eq 11, 3) := dc_153 (a := 0) (b := 11) (by decide +kernel) (by decide)
theorem dX12_lock_20 : decode cX12_lock 20 = .ok (.aload_n 0, 1) := dc_42 (by decide +kernel)
theorem dX12_lock_21 : decode cX12_lock 21 = .ok (.iconst 4, 1) := dc_7 (by decide +kernel)
theorem dX12_lock_22 : decode cX12_lock 22 = .ok (.bipush (-2), 2) := dc_16 (a := 254) (by decide +kernel) (by decide)
theorem dX12_lock_24 : decode cX12_lock 24 = .ok (.invokevirtual 349, 3) := dc_182 (a := 1) (b := 93) (by decide +kernel)
theorem dX12_lock_27 : decode cX12_lock 27 = .ok (.ireturn, 1) := dc_172 (by decide +kernel)
theorem dX12_lock_28 : decode cX12_lock 28 = .ok (.iconst 0, 1) := dc_3 (by decide +kernel)
theorem dX12_lock_29 : decode cX12_lock 29 = .ok (.istore_n 2, 1) := dc_61 (by decide +kernel)
theorem dX12_lock_30 : decode cX12_lock 30 = .ok (.iload_n 2, 1) := dc_28 (by decide +kernel)
theorem dX12_lock_31 : decode cX12_lock 31 = .ok (.aload_n 0, 1) := dc_42 (by decide +kernel)
theorem dX12_lock_32 : decode cX12_lock 32 = .ok (.getfield 51, 3) := dc_180 (a := 0) (b := 51) (by decide +kernel)
theorem dX12_lock_35 : decode cX12_lock 35 = .ok (.iload_n 1, 1) := dc_27 (by decide +kernel)
theorem dX12_lock_36 : decode cX12_lock 36 = .ok (.iaload, 1) := dc_46 (by decide +kernel)
theorem dX12_lock_37 : decode cX12_lock 37 = .ok (.if_icmp .ge 147, 3) := dc_162 (a := 0) (b := 147) (by decide +kernel) (by decide)
theorem dX12_lock_40 : decode cX12_lock 40 = .ok (.aload_n 0, 1) := dc_42 (by decide +kernel)
theorem dX12_lock_41 : decode cX12_lock 41 = .ok (.getfield 54, 3) := dc_180 (a := 0) (b := 54) (by decide +kernel)
theorem dX12_lock_44 : decode cX12_lock 44 = .ok (.bipush 8, 2) := dc_16 (a := 8) (by decide +kernel) (by decide)
theorem dX12_lock_46 : decode cX12_lock 46 = .ok (.iload_n 1, 1) := dc_27 (by decide +kernel)
theorem dX12_lock_47 : decode cX12_lock 47 = .ok (.imul, 1) := dc_104 (by decide +kernel)
theorem dX12_lock_48 : decode cX12_lock 48 = .ok (.iload_n 2, 1) := dc_28 (by decide +kernel)
theorem dX12_lock_49 : decode cX12_lock 49 = .ok (.iadd, 1) := dc_96 (by decide +kernel)
theorem dX12_lock_50 : decode cX12_lock 50 = .ok (.iaload, 1) := dc_46 (by decide +kernel)
theorem dX12_lock_51 : decode cX12_lock 51 = .ok (.istore_n 3, 1) := dc_62 (by decide +kernel)
theorem dX12_lock_52 : decode cX12_lock 52 = .ok (.aload_n 0, 1) := dc_42 (by decide +kernel)
theorem dX12_lock_53 : decode cX12_lock 53 = .ok (.bipush 8, 2) := dc_16 (a := 8) (by decide +kernel) (by decide)
theorem dX12_lock_55 : decode cX12_lock 55 = .ok (.iload_n 1, 1) := dc_27 (by decide +kernel)
theorem dX12_lock_56 : decode cX12_lock 56 = .ok (.imul, 1) := dc_104 (by decide +kernel)
theorem dX12_lock_57 : decode cX12_lock 57 = .ok (.iload_n 2, 1) := dc_28 (by decide +kernel)
theorem dX12_lock_58 : decode cX12_lock 58 = .ok (.iadd, 1) := dc_96 (by decide +kernel)
theorem dX12_lock_59 : decode cX12_lock 59 = .ok (.invokevirtual 361, 3) := dc_182 (a := 1) (b := 105) (by decide +kernel)
theorem dX12_lock_62 : decode cX12_lock 62 = .ok (.istore 4, 2) := dc_54 (a := 4) (by decide +kernel)
theorem dX12_lock_64 : decode cX12_lock 64 = .ok (.iload 4, 2) := dc_21 (a := 4) (by decide +kernel)
theorem dX12_lock_66 : decode cX12_lock 66 = .ok (.ifCond .eq 76, 3) := dc_153 (a := 0) (b := 76) (by decide +kernel) (by decide)
theorem dX12_lock_69 : decode cX12_lock 69 = .ok (.iconst 0, 1) := dc_3 (by decide +kernel)
theorem dX12_lock_70 : decode cX12_lock 70 = .ok (.istore 5, 2) := dc_54 (a := 5) (by decide +kernel)
theorem dX12_lock_72 : decode cX12_lock 72 = .ok (.iload 5, 2) := dc_21 (a := 5) (by decide +kernel)
theorem dX12_lock_74 : decode cX12_lock 74 = .ok (.iload_n 2, 1) := dc_28 (by decide +kernel)
theorem dX12_lock_75 : decode cX12_lock 75 = .ok (.if_icmp .ge 52, 3) := dc_162 (a := 0) (b := 52) (by decide +kernel) (by decide)
theorem dX12_lock_78 : decode cX12_lock 78 = .ok (.aload_n 0, 1) := dc_42 (by decide +kernel)
theorem dX12_lock_79 : decode cX12_lock 79 = .ok (.getfield 48, 3) := dc_180 (a := 0) (b := 48) (by decide +kernel)
theorem dX12_lock_82 : decode cX12_lock 82 = .ok (.aload_n 0, 1) := dc_42 (by decide +kernel)
theorem dX12_lock_83 : decode cX12_lock 83 = .ok (.getfield 54, 3) := dc_180 (a := 0) (b := 54) (by decide +kernel)
theorem dX12_lock_86 : decode cX12_lock 86 = .ok (.bipush 8, 2) := dc_16 (a := 8) (by decide +kernel) (by decide)
theorem dX12_lock_88 : decode cX12_lock 88 = .ok (.iload_n 1, 1) := dc_27 (by decide +kernel)
theorem dX12_lock_89 : decode cX12_lock 89 = .ok (.imul, 1) := dc_104 (by decide +kernel)
theorem dX12_lock_90 : decode cX12_lock 90 = .ok (.iload 5, 2) := dc_21 (a := 5) (by decide +kernel)
theorem dX12_lock_92 : decode cX12_lock 92 = .ok (.iadd, 1) := dc_96 (by decide +kernel)
theorem dX12_lock_93 : decode cX12_lock 93 = .ok (.iaload, 1) := dc_46 (by decide +kernel)
theorem dX12_lock_94 : decode cX12_lock 94 = .ok (.bipush (-4), 2) := dc_16 (a := 252) (by decide +kernel) (by decide)
theorem dX12_lock_96 : decode cX12_lock 96 = .ok (.iastore, 1) := dc_79 (by decide +kernel)
theorem dX12_lock_97 : decode cX12_lock 97 = .ok (.aload_n 0, 1) := dc_42 (by decide +kernel)
theorem dX12_lock_98 : decode cX12_lock 98 = .ok (.getfield 45, 3) := dc_180 (a := 0) (b := 45) (by decide +kernel)
theorem dX12_lock_101 : decode cX12_lock 101 = .ok (.aload_n 0, 1) := dc_42 (by decide +kernel)
theorem dX12_lock_102 : decode cX12_lock 102 = .ok (.getfield 54, 3) := dc_180 (a := 0) (b := 54) (by decide +kernel)
theorem dX12_lock_105 : decode cX12_lock 105 = .ok (.bipush 8, 2) := dc_16 (a := 8) (by decide +kernel) (by decide)
theorem dX12_lock_107 : decode cX12_lock 107 = .ok (.iload_n 1, 1) := dc_27 (by decide +kernel)
theorem dX12_lock_108 : decode cX12_lock 108 = .ok (.imul, 1) := dc_104 (by decide +kernel)
theorem dX12_lock_109 : decode cX12_lock 109 = .ok (.iload 5, 2) := dc_21 (a := 5) (by decide +kernel)
theorem dX12_lock_111 : decode cX12_lock 111 = .ok (.iadd, 1) := dc_96 (by decide +kernel)
theorem dX12_lock_112 : decode cX12_lock 112 = .ok (.iaload, 1) := dc_46 (by decide +kernel)
theorem dX12_lock_113 : decode cX12_lock 113 = .ok (.aload_n 0, 1) := dc_42 (by decide +kernel)
theorem dX12_lock_114 : decode cX12_lock 114 = .ok (.getfield 144, 3) := dc_180 (a := 0) (b := 144) (by decide +kernel)
theorem dX12_lock_117 : decode cX12_lock 117 = .ok (.iload 5, 2) := dc_21 (a := 5) (by decide +kernel)
theorem dX12_lock_119 : decode cX12_lock 119 = .ok (.iaload, 1) := dc_46 (by decide +kernel)
theorem dX12_lock_120 : decode cX12_lock 120 = .ok (.iastore, 1) := dc_79 (by decide +kernel)
theorem dX12_lock_121 : decode cX12_lock 121 = .ok (.iinc 5 1, 3) := dc_132 (a := 5) (b := 1) (by decide +kernel) (by decide)
theorem dX12_lock_124 : decode cX12_lock 124 = .ok (.goto (-52), 3) := dc_167 (a := 255) (b := 204) (by decide +kernel) (by decide)
theorem dX12_lock_127 : decode cX12_lock 127 = .ok (.aload_n 0, 1) := dc_42 (by decide +kernel)
theorem dX12_lock_128 : decode cX12_lock 128 = .ok (.iload 4, 2) := dc_21 (a := 4) (by decide +kernel)
theorem dX12_lock_130 : decode cX12_lock 130 = .ok (.invokevirtual 210, 3) := dc_182 (a := 0) (b := 210) (by decide +kernel)
theorem dX12_lock_133 : decode cX12_lock 133 = .ok (.pop, 1) := dc_87 (by decide +kernel)
theorem dX12_lock_134 : decode cX12_lock 134 = .ok (.aload_n 0, 1) := dc_42 (by decide +kernel)
theorem dX12_lock_135 : decode cX12_lock 135 = .ok (.iconst 4, 1) := dc_7 (by decide +kernel)
theorem dX12_lock_136 : decode cX12_lock 136 = .ok (.bipush (-2), 2) := dc_16 (a := 254) (by decide +kernel) (by decide)
theorem dX12_lock_138 : decode cX12_lock 138 = .ok (.invokevirtual 349, 3) := dc_182 (a := 1) (b := 93) (by decide +kernel)
theorem dX12_lock_141 : decode cX12_lock 141 = .ok (.ireturn, 1) := dc_172 (by decide +kernel)
theorem dX12_lock_142 : decode cX12_lock 142 = .ok (.aload_n 0, 1) := dc_42 (by decide +kernel)
theorem dX12_lock_143 : decode cX12_lock 143 = .ok (.getfield 144, 3) := dc_180 (a := 0) (b := 144) (by decide +kernel)
theorem dX12_lock_146 : decode cX12_lock 146 = .ok (.iload_n 2, 1) := dc_28 (by decide +kernel)
theorem dX12_lock_147 : decode cX12_lock 147 = .ok (.aload_n 0, 1) := dc_42 (by decide +kernel)
theorem dX12_lock_148 : decode cX12_lock 148 = .ok (.getfield 45, 3) := dc_180 (a := 0) (b := 45) (by decide +kernel)
theorem dX12_lock_151 : decode cX12_lock 151 = .ok (.iload_n 3, 1) := dc_29 (by decide +kernel)
theorem dX12_lock_152 : decode cX12_lock 152 = .ok (.iaload, 1) := dc_46 (by decide +kernel)
theorem dX12_lock_153 : decode cX12_lock 153 = .ok (.iastore, 1) := dc_79 (by decide +kernel)
theorem dX12_lock_154 : decode cX12_lock 154 = .ok (.aload_n 0, 1) := dc_42 (by decide +kernel)
theorem dX12_lock_155 : decode cX12_lock 155 = .ok (.getfield 45, 3) := dc_180 (a := 0) (b := 45) (by decide +kernel)
theorem dX12_lock_158 : decode cX12_lock 158 = .ok (.iload_n 3, 1) := dc_29 (by decide +kernel)
theorem dX12_lock_159 : decode cX12_lock 159 = .ok (.aload_n 0, 1) := dc_42 (by decide +kernel)
theorem dX12_lock_160 : decode cX12_lock 160 = .ok (.getfield 57, 3) := dc_180 (a := 0) (b := 57) (by decide +kernel)
theorem dX12_lock_163 : decode cX12_lock 163 = .ok (.bipush 8, 2) := dc_16 (a := 8) (by decide +kernel) (by decide)
theorem dX12_lock_165 : decode cX12_lock 165 = .ok (.iload_n 1, 1) := dc_27 (by decide +kernel)
theorem dX12_lock_166 : decode cX12_lock 166 = .ok (.imul, 1) := dc_104 (by decide +kernel)
theorem dX12_lock_167 : decode cX12_lock 167 = .ok (.iload_n 2, 1) := dc_28 (by decide +kernel)
theorem dX12_lock_168 : decode cX12_lock 168 = .ok (.iadd, 1) := dc_96 (by decide +kernel)
theorem dX12_lock_169 : decode cX12_lock 169 = .ok (.iaload, 1) := dc_46 (by decide +kernel)
theorem dX12_lock_170 : decode cX12_lock 170 = .ok (.iastore, 1) := dc_79 (by decide +kernel)
theorem dX12_lock_171 : decode cX12_lock 171 = .ok (.aload_n 0, 1) := dc_42 (by decide +kernel)
theorem dX12_lock_172 : decode cX12_lock 172 = .ok (.getfield 48, 3) := dc_180 (a := 0) (b := 48) (by decide +kernel)
theorem dX12_lock_175 : decode cX12_lock 175 = .ok (.iload_n 3, 1) := dc_29 (by decide +kernel)
theorem dX12_lock_176 : decode cX12_lock 176 = .ok (.iload_n 1, 1) := dc_27 (by decide +kernel)
theorem dX12_lock_177 : decode cX12_lock 177 = .ok (.iastore, 1) := dc_79 (by decide +kernel)
theorem dX12_lock_178 : decode cX12_lock 178 = .ok (.iinc 2 1, 3) := dc_132 (a := 2) (b := 1) (by decide +kernel) (by decide)
theorem dX12_lock_181 : decode cX12_lock 181 = .ok (.goto (-151), 3) := dc_167 (a := 255) (b := 105) (by decide +kernel) (by decide)
theorem dX12_lock_184 : decode cX12_lock 184 = .ok (.aload_n 0, 1) := dc_42 (by decide +kernel)
theorem dX12_lock_185 : decode cX12_lock 185 = .ok (.iconst 4, 1) := dc_7 (by decide +kernel)
theorem dX12_lock_186 : decode cX12_lock 186 = .ok (.aload_n 0, 1) := dc_42 (by decide +kernel)
theorem dX12_lock_187 : decode cX12_lock 187 = .ok (.getfield 51, 3) := dc_180 (a := 0) (b := 51) (by decide +kernel)
theorem dX12_lock_190 : decode cX12_lock 190 = .ok (.iload_n 1, 1) := dc_27 (by decide +kernel)
theorem dX12_lock_191 : decode cX12_lock 191 = .ok (.iaload, 1) := dc_46 (by decide +kernel)
theorem dX12_lock_192 : decode cX12_lock 192 = .ok (.invokevirtual 349, 3) := dc_182 (a := 1) (b := 93) (by decide +kernel)
theorem dX12_lock_195 : decode cX12_lock 195 = .ok (.ireturn, 1) := dc_172 (by decide +kernel)
set_option maxRecDepth 100000 in
set_option maxHeartbeats 4000000 in
theorem w_M_lock_L72 {p : Program} {l : Launch} {e : Env} {R : Room} {s : State} {m : MethodId} {args : Array Value} {below : List Frame} {meth : Method} {c : Code} {dC : Nat → ClassId} {dI : Nat → Nat → Nat} {cs : Nat → ClassId} {ad : Nat → Nat} {A : Nat → Prop} {D0 : Nat → Nat} {S' : SS} {r : Int32} (F : Fx p s m args meth c cX12_lock 6 RX12 (some .int) dC dI cs A) (hR1 : 1 ≤ R.frames) (hR2 : 22 ≤ R.locals) : ∀ (n : Nat) (x1 : Int32) (x2 : Int32) (x4 : Int32) (x5 : Int32) (S : SS), f_M_lock_L72 n x1 x2 x4 x5 S = some (r, S') → AW p l e R s m args below meth c dC dI cs ad A D0 (some (.int r)) S' 6 72 [(0, .ref (ad 0)), (1, .int x1), (2, .int x2), (4, .int x4), (5, .int x5)] [] S := by
  have hx := F.1.1
  have hb := F.1.2.1
  intro n
  induction n with
  | zero => intro x1 x2 x4 x5 S h; cases h
  | succ n ih =>
    intro x1 x2 x4 x5 S h H locs ls w hl
    rw [f_M_lock_L72] at h
    refine lv_iload (pc := 72) hx hb dX12_lock_72 (lv_at hl 4 rfl) ?_
    refine lv_iload_n (pc := 74) hx hb dX12_lock_74 rfl (lv_at hl 2 rfl) ?_
    refine lv_icmp_ge (pc := 75) (tgt := 127) hx hb dX12_lock_75 (by decide) (fun q => ?_) (fun q => ?_)
    · have h := ite_t q h
      refine lv_aload_n (pc := 127) hx hb dX12_lock_127 rfl (lv_at hl 0 rfl) ?_
      refine lv_iload (pc := 128) hx hb dX12_lock_128 (lv_at hl 3 rfl) ?_
      obtain ⟨r17, S16, hc, h⟩ := bnd_t h
      refine s_cvi (pc := 130) [.int x4] (fun ad => [.ref (ad 0), .int x4]) F w (m_M_found _ _ _ _ hc) rfl rfl hl.1 ds_0 vc_X12 rfl ok_X12_found rfl kc_X12_found kl_X12_210 ki_X12_found kv_X12_found kn_X12 ⟨Nat.le_trans (by decide) hR1, Nat.le_trans (by decide) hR2⟩ ⟨Nat.zero_le _, Nat.zero_le _⟩ (Nat.le_of_ble_eq_true rfl) dX12_lock_130 (fun H locs w => ?_)
      refine lv_pop (pc := 133) hx hb dX12_lock_133 rfl ?_
      refine lv_aload_n (pc := 134) hx hb dX12_lock_134 rfl (lv_at hl 0 rfl) ?_
      refine lv_iconst (pc := 135) (v := 4) hx hb dX12_lock_135 (by decide) ?_
      refine lv_bipush (pc := 136) (v := -2) hx hb dX12_lock_136 (by decide) ?_
      obtain ⟨r19, S18, hc, h⟩ := bnd_t h
      refine s_cvi (pc := 138) [.int (4 : Int32), .int (-2 : Int32)] (fun ad => [.ref (ad 0), .int (4 : Int32), .int (-2 : Int32)]) F w (m_M_entered _ _ _ _ _ hc) rfl rfl hl.1 ds_0 vc_X12 rfl ok_X12_entered rfl kc_X12_entered kl_X12_349 ki_X12_entered kv_X12_entered kn_X12 ⟨Nat.le_trans (by decide) hR1, Nat.le_trans (by decide) hR2⟩ ⟨Nat.zero_le _, Nat.zero_le _⟩ (Nat.le_of_ble_eq_true rfl) dX12_lock_138 (fun H locs w => ?_)
      exact s_iret F w h dX12_lock_141
    · have h := ite_f q h
      refine lv_aload_n (pc := 78) hx hb dX12_lock_78 rfl (lv_at hl 0 rfl) ?_
      refine s_getR (pc := 79) F w 11 ds_0 (j := 18) vc_X12 vi_X12 rfl (by decide) kf_X12_48 dX12_lock_79 ?_
      refine lv_aload_n (pc := 82) hx hb dX12_lock_82 rfl (lv_at hl 0 rfl) ?_
      refine s_getR (pc := 83) F w 13 ds_0 (j := 21) vc_X12 vi_X12 rfl (by decide) kf_X12_54 dX12_lock_83 ?_
      refine lv_bipush (pc := 86) (v := 8) hx hb dX12_lock_86 (by decide) ?_
      refine lv_iload_n (pc := 88) hx hb dX12_lock_88 rfl (lv_at hl 1 rfl) ?_
      refine lv_imul (pc := 89) hx hb dX12_lock_89 ?_
      refine lv_iload (pc := 90) hx hb dX12_lock_90 (lv_at hl 4 rfl) ?_
      refine lv_iadd (pc := 92) hx hb dX12_lock_92 ?_
      refine s_iald (pc := 93) F w ds_13 h dX12_lock_93 (fun h => ?_)
      refine lv_bipush (pc := 94) (v := -4) hx hb dX12_lock_94 (by decide) ?_
      refine s_iast (pc := 96) F w ds_11 h dX12_lock_96 (fun S20 H locs h w => ?_)
      refine lv_aload_n (pc := 97) hx hb dX12_lock_97 rfl (lv_at hl 0 rfl) ?_
      refine s_getR (pc := 98) F w 10 ds_0 (j := 17) vc_X12 vi_X12 rfl (by decide) kf_X12_45 dX12_lock_98 ?_
      refine lv_aload_n (pc := 101) hx hb dX12_lock_101 rfl (lv_at hl 0 rfl) ?_
      refine s_getR (pc := 102) F w 13 ds_0 (j := 21) vc_X12 vi_X12 rfl (by decide) kf_X12_54 dX12_lock_102 ?_
      refine lv_bipush (pc := 105) (v := 8) hx hb dX12_lock_105 (by decide) ?_
      refine lv_iload_n (pc := 107) hx hb dX12_lock_107 rfl (lv_at hl 1 rfl) ?_
      refine lv_imul (pc := 108) hx hb dX12_lock_108 ?_
      refine lv_iload (pc := 109) hx hb dX12_lock_109 (lv_at hl 4 rfl) ?_
      refine lv_iadd (pc := 111) hx hb dX12_lock_111 ?_
      refine s_iald (pc := 112) F w ds_13 h dX12_lock_112 (fun h => ?_)
      refine lv_aload_n (pc := 113) hx hb dX12_lock_113 rfl (lv_at hl 0 rfl) ?_
      refine s_getR (pc := 114) F w 43 ds_0 (j := 65) vc_X12 vi_X12 rfl (by decide) kf_X12_144 dX12_lock_114 ?_
      refine lv_iload (pc := 117) hx hb dX12_lock_117 (lv_at hl 4 rfl) ?_
      refine s_iald (pc := 119) F w ds_43 h dX12_lock_119 (fun h => ?_)
      refine s_iast (pc := 120) F w ds_10 h dX12_lock_120 (fun S21 H locs h w => ?_)
      refine s_nm h (fun z22 ez22 h => ?_)
      refine lv_iinc (pc := 121) (v := z22) (lv' := [(5, .int z22), (0, .ref (ad 0)), (1, .int x1), (2, .int x2), (4, .int x4)]) hx hb dX12_lock_121 hl (k := 4) rfl (by rw [ez22]; rfl) (by decide) rfl (fun ls hl => ?_)
      refine lv_goto (pc := 124) (tgt := 72) hx hb dX12_lock_124 (by decide) ?_
      exact ih _ _ _ _ _ h _ _ _ w (lv_sub hl [1, 2, 3, 4, 0] rfl)
set_option maxRecDepth 100000 in
set_option maxHeartbeats 4000000 in
theorem w_M_lock_L30 {p : Program} {l : Launch} {e : Env} {R : Room} {s : State} {m : MethodId} {args : Array Value} {below : List Frame} {meth : Method} {c : Code} {dC : Nat → ClassId} {dI : Nat → Nat → Nat} {cs : Nat → ClassId} {ad : Nat → Nat} {A : Nat → Prop} {D0 : Nat → Nat} {S' : SS} {r : Int32} (F : Fx p s m args meth c cX12_lock 6 RX12 (some .int) dC dI cs A) (hR1 : 3 ≤ R.frames) (hR2 : 67 ≤ R.locals) : ∀ (n : Nat) (x1 : Int32) (x2 : Int32) (S : SS), f_M_lock_L30 n x1 x2 S = some (r, S') → AW p l e R s m args below meth c dC dI cs ad A D0 (some (.int r)) S' 6 30 [(0, .ref (ad 0)), (1, .int x1), (2, .int x2)] [] S := by
  have hx := F.1.1
  have hb := F.1.2.1
  intro n
  induction n with
  | zero => intro x1 x2 S h; cases h
  | succ n ih =>
    intro x1 x2 S h H locs ls w hl
    rw [f_M_lock_L30] at h
    refine lv_iload_n (pc := 30) hx hb dX12_lock_30 rfl (lv_at hl 2 rfl) ?_
    refine lv_aload_n (pc := 31) hx hb dX12_lock_31 rfl (lv_at hl 0 rfl) ?_
    refine s_getR (pc := 32) F w 12 ds_0 (j := 20) vc_X12 vi_X12 rfl (by decide) kf_X12_51 dX12_lock_32 ?_
    refine lv_iload_n (pc := 35) hx hb dX12_lock_35 rfl (lv_at hl 1 rfl) ?_
    refine s_iald (pc := 36) F w ds_12 h dX12_lock_36 (fun h => ?_)
    refine lv_icmp_ge (pc := 37) (tgt := 184) hx hb dX12_lock_37 (by decide) (fun q => ?_) (fun q => ?_)
    · have h := ite_t q h
      refine lv_aload_n (pc := 184) hx hb dX12_lock_184 rfl (lv_at hl 0 rfl) ?_
      refine lv_iconst (pc := 185) (v := 4) hx hb dX12_lock_185 (by decide) ?_
      refine lv_aload_n (pc := 186) hx hb dX12_lock_186 rfl (lv_at hl 0 rfl) ?_
      refine s_getR (pc := 187) F w 12 ds_0 (j := 20) vc_X12 vi_X12 rfl (by decide) kf_X12_51 dX12_lock_187 ?_
      refine lv_iload_n (pc := 190) hx hb dX12_lock_190 rfl (lv_at hl 1 rfl) ?_
      refine s_iald (pc := 191) F w ds_12 h dX12_lock_191 (fun h => ?_)
      obtain ⟨r8, S7, hc, h⟩ := bnd_t h
      refine s_cvi (pc := 192) [.int (4 : Int32), .int (S.1 12 x1.toNatClampNeg)] (fun ad => [.ref (ad 0), .int (4 : Int32), .int (S.1 12 x1.toNatClampNeg)]) F w (m_M_entered _ _ _ _ _ hc) rfl rfl hl.1 ds_0 vc_X12 rfl ok_X12_entered rfl kc_X12_entered kl_X12_349 ki_X12_entered kv_X12_entered kn_X12 ⟨Nat.le_trans (by decide) hR1, Nat.le_trans (by decide) hR2⟩ ⟨Nat.zero_le _, Nat.zero_le _⟩ (Nat.le_of_ble_eq_true rfl) dX12_lock_192 (fun H locs w => ?_)
      exact s_iret F w h dX12_lock_195
    · have h := ite_f q h
      refine lv_aload_n (pc := 40) hx hb dX12_lock_40 rfl (lv_at hl 0 rfl) ?_
      refine s_getR (pc := 41) F w 13 ds_0 (j := 21) vc_X12 vi_X12 rfl (by decide) kf_X12_54 dX12_lock_41 ?_
      refine lv_bipush (pc := 44) (v := 8) hx hb dX12_lock_44 (by decide) ?_
      refine lv_iload_n (pc := 46) hx hb dX12_lock_46 rfl (lv_at hl 1 rfl) ?_
      refine lv_imul (pc := 47) hx hb dX12_lock_47 ?_
      refine lv_iload_n (pc := 48) hx hb dX12_lock_48 rfl (lv_at hl 2 rfl) ?_
      refine lv_iadd (pc := 49) hx hb dX12_lock_49 ?_
      refine s_iald (pc := 50) F w ds_13 h dX12_lock_50 (fun h => ?_)
      refine s_nm h (fun z9 ez9 h => ?_)
      rw [← ez9]
      refine lv_istore_n (pc := 51) (lv' := [(3, .int z9), (0, .ref (ad 0)), (1, .int x1), (2, .int x2)]) hx hb dX12_lock_51 rfl hl (by decide) rfl (fun ls hl => ?_)
      refine lv_aload_n (pc := 52) hx hb dX12_lock_52 rfl (lv_at hl 1 rfl) ?_
      refine lv_bipush (pc := 53) (v := 8) hx hb dX12_lock_53 (by decide) ?_
      refine lv_iload_n (pc := 55) hx hb dX12_lock_55 rfl (lv_at hl 2 rfl) ?_
      refine lv_imul (pc := 56) hx hb dX12_lock_56 ?_
      refine lv_iload_n (pc := 57) hx hb dX12_lock_57 rfl (lv_at hl 3 rfl) ?_
      refine lv_iadd (pc := 58) hx hb dX12_lock_58 ?_
      obtain ⟨r11, S10, hc, h⟩ := bnd_t h
      refine s_cvi (pc := 59) [.int (((8 : Int32) * x1) + x2)] (fun ad => [.ref (ad 0), .int (((8 : Int32) * x1) + x2)]) F w (m_M_missEntry _ _ _ _ hc) rfl rfl hl.1 ds_0 vc_X12 rfl ok_X12_missEntry rfl kc_X12_missEntry kl_X12_361 ki_X12_missEntry kv_X12_missEntry kn_X12 ⟨Nat.le_trans (by decide) hR1, Nat.le_trans (by decide) hR2⟩ ⟨Nat.zero_le _, Nat.zero_le _⟩ (Nat.le_of_ble_eq_true rfl) dX12_lock_59 (fun H locs w => ?_)
      refine lv_istore (pc := 62) (lv' := [(4, .int r11), (3, .int z9), (0, .ref (ad 0)), (1, .int x1), (2, .int x2)]) hx hb dX12_lock_62 hl (by decide) rfl (fun ls hl => ?_)
      refine lv_iload (pc := 64) hx hb dX12_lock_64 (lv_at hl 0 rfl) ?_
      refine lv_if_eq (pc := 66) (tgt := 142) hx hb dX12_lock_66 (by decide) (fun q => ?_) (fun q => ?_)
      · have h := ite_t q h
        refine lv_aload_n (pc := 142) hx hb dX12_lock_142 rfl (lv_at hl 2 rfl) ?_
        refine s_getR (pc := 143) F w 43 ds_0 (j := 65) vc_X12 vi_X12 rfl (by decide) kf_X12_144 dX12_lock_143 ?_
        refine lv_iload_n (pc := 146) hx hb dX12_lock_146 rfl (lv_at hl 4 rfl) ?_
        refine lv_aload_n (pc := 147) hx hb dX12_lock_147 rfl (lv_at hl 2 rfl) ?_
        refine s_getR (pc := 148) F w 10 ds_0 (j := 17) vc_X12 vi_X12 rfl (by decide) kf_X12_45 dX12_lock_148 ?_
        refine lv_iload_n (pc := 151) hx hb dX12_lock_151 rfl (lv_at hl 1 rfl) ?_
        refine s_iald (pc := 152) F w ds_10 h dX12_lock_152 (fun h => ?_)
        refine s_iast (pc := 153) F w ds_43 h dX12_lock_153 (fun S12 H locs h w => ?_)
        refine lv_aload_n (pc := 154) hx hb dX12_lock_154 rfl (lv_at hl 2 rfl) ?_
        refine s_getR (pc := 155) F w 10 ds_0 (j := 17) vc_X12 vi_X12 rfl (by decide) kf_X12_45 dX12_lock_155 ?_
        refine lv_iload_n (pc := 158) hx hb dX12_lock_158 rfl (lv_at hl 1 rfl) ?_
        refine lv_aload_n (pc := 159) hx hb dX12_lock_159 rfl (lv_at hl 2 rfl) ?_
        refine s_getR (pc := 160) F w 14 ds_0 (j := 22) vc_X12 vi_X12 rfl (by decide) kf_X12_57 dX12_lock_160 ?_
        refine lv_bipush (pc := 163) (v := 8) hx hb dX12_lock_163 (by decide) ?_
        refine lv_iload_n (pc := 165) hx hb dX12_lock_165 rfl (lv_at hl 3 rfl) ?_
        refine lv_imul (pc := 166) hx hb dX12_lock_166 ?_
        refine lv_iload_n (pc := 167) hx hb dX12_lock_167 rfl (lv_at hl 4 rfl) ?_
        refine lv_iadd (pc := 168) hx hb dX12_lock_168 ?_
        refine s_iald (pc := 169) F w ds_14 h dX12_lock_169 (fun h => ?_)
        refine s_iast (pc := 170) F w ds_10 h dX12_lock_170 (fun S13 H locs h w => ?_)
        refine lv_aload_n (pc := 171) hx hb dX12_lock_171 rfl (lv_at hl 2 rfl) ?_
        refine s_getR (pc := 172) F w 11 ds_0 (j := 18) vc_X12 vi_X12 rfl (by decide) kf_X12_48 dX12_lock_172 ?_
        refine lv_iload_n (pc := 175) hx hb dX12_lock_175 rfl (lv_at hl 1 rfl) ?_
        refine lv_iload_n (pc := 176) hx hb dX12_lock_176 rfl (lv_at hl 3 rfl) ?_
        refine s_iast (pc := 177) F w ds_11 h dX12_lock_177 (fun S14 H locs h w => ?_)
        refine s_nm h (fun z15 ez15 h => ?_)
        refine lv_iinc (pc := 178) (v := z15) (lv' := [(2, .int z15), (4, .int r11), (3, .int z9), (0, .ref (ad 0)), (1, .int x1)]) hx hb dX12_lock_178 hl (k := 4) rfl (by rw [ez15]; rfl) (by decide) rfl (fun ls hl => ?_)
        refine lv_goto (pc := 181) (tgt := 30) hx hb dX12_lock_181 (by decide) ?_
        exact ih _ _ _ h _ _ _ w (lv_sub hl [3, 4, 0] rfl)
      · have h := ite_f q h
        refine lv_iconst (pc := 69) (v := 0) hx hb dX12_lock_69 (by decide) ?_
        refine lv_istore (pc := 70) (lv' := [(5, .int (0 : Int32)), (4, .int r11), (3, .int z9), (0, .ref (ad 0)), (1, .int x1), (2, .int x2)]) hx hb dX12_lock_70 hl (by decide) rfl (fun ls hl => ?_)
        exact w_M_lock_L72 F (Nat.le_trans (by decide) hR1) (Nat.le_trans (by decide) hR2) _ _ _ _ _ _ h _ _ _ w (lv_sub hl [3, 4, 5, 1, 0] rfl)
set_option maxRecDepth 100000 in
set_option maxHeartbeats 4000000 in
theorem m_M_lock (a1 : Int32) (S S' : SS) (r : Int32) (h : f_M_lock a1 S = some (r, S')) : MT yX12_lock cX12_lock 6 (some .int) 3 67 (fun ad => [.ref (ad 0), .int a1]) S (some (.int r)) S' := by
  refine MT.of RX12 (fun ad => [(0, .ref (ad 0)), (1, .int a1)]) (by decide) rfl (fun _ => Nat.le_of_ble_eq_true rfl) (fun _ => rfl) ?_
  intro p l e R s m args below meth c dC dI cs ad A hR1 hR2 F H locs ls w hl
  have hx := F.1.1
  have hb := F.1.2.1
  rw [f_M_lock] at h
  refine lv_aload_n (pc := 0) hx hb dX12_lock_0 rfl (lv_at hl 0 rfl) ?_
  obtain ⟨S1, hc, h⟩ := bndv_t h
  refine s_cvv (pc := 1) [] (fun ad => [.ref (ad 0)]) F w (m_M_begin  _ _ hc) rfl rfl hl.1 ds_0 vc_X12 rfl ok_X12_begin rfl kc_X12_begin kl_X12_226 ki_X12_begin kv_X12_begin kn_X12 ⟨Nat.le_trans (by decide) hR1, Nat.le_trans (by decide) hR2⟩ ⟨Nat.zero_le _, Nat.zero_le _⟩ (Nat.le_of_ble_eq_true rfl) dX12_lock_1 (fun H locs w => ?_)
  refine lv_aload_n (pc := 4) hx hb dX12_lock_4 rfl (lv_at hl 0 rfl) ?_
  obtain ⟨S2, hc, h⟩ := bndv_t h
  refine s_cvv (pc := 5) [] (fun ad => [.ref (ad 0)]) F w (m_M_keep  _ _ hc) rfl rfl hl.1 ds_0 vc_X12 rfl ok_X12_keep rfl kc_X12_keep kl_X12_346 ki_X12_keep kv_X12_keep kn_X12 ⟨Nat.le_trans (by decide) hR1, Nat.le_trans (by decide) hR2⟩ ⟨Nat.zero_le _, Nat.zero_le _⟩ (Nat.le_of_ble_eq_true rfl) dX12_lock_5 (fun H locs w => ?_)
  refine lv_aload_n (pc := 8) hx hb dX12_lock_8 rfl (lv_at hl 0 rfl) ?_
  refine lv_aload_n (pc := 9) hx hb dX12_lock_9 rfl (lv_at hl 0 rfl) ?_
  refine lv_iload_n (pc := 10) hx hb dX12_lock_10 rfl (lv_at hl 1 rfl) ?_
  obtain ⟨r4, S3, hc, h⟩ := bnd_t h
  refine s_cvi (pc := 11) [.int a1] (fun ad => [.ref (ad 0), .int a1]) F w (m_M_missRoute _ _ _ _ hc) rfl rfl hl.1 ds_0 vc_X12 rfl ok_X12_missRoute rfl kc_X12_missRoute kl_X12_260 ki_X12_missRoute kv_X12_missRoute kn_X12 ⟨Nat.le_trans (by decide) hR1, Nat.le_trans (by decide) hR2⟩ ⟨Nat.zero_le _, Nat.zero_le _⟩ (Nat.le_of_ble_eq_true rfl) dX12_lock_11 (fun H locs w => ?_)
  obtain ⟨r6, S5, hc, h⟩ := bnd_t h
  refine s_cvi (pc := 14) [.int r4] (fun ad => [.ref (ad 0), .int r4]) F w (m_M_ends _ _ _ _ hc) rfl rfl hl.1 ds_0 vc_X12 rfl ok_X12_ends rfl kc_X12_ends kl_X12_236 ki_X12_ends kv_X12_ends kn_X12 ⟨Nat.le_trans (by decide) hR1, Nat.le_trans (by decide) hR2⟩ ⟨Nat.zero_le _, Nat.zero_le _⟩ (Nat.le_of_ble_eq_true rfl) dX12_lock_14 (fun H locs w => ?_)
  refine lv_if_eq (pc := 17) (tgt := 28) hx hb dX12_lock_17 (by decide) (fun q => ?_) (fun q => ?_)
  · have h := ite_t q h
    refine lv_iconst (pc := 28) (v := 0) hx hb dX12_lock_28 (by decide) ?_
    refine lv_istore_n (pc := 29) (lv' := [(2, .int (0 : Int32)), (0, .ref (ad 0)), (1, .int a1)]) hx hb dX12_lock_29 rfl hl (by decide) rfl (fun ls hl => ?_)
    exact w_M_lock_L30 F (Nat.le_trans (by decide) hR1) (Nat.le_trans (by decide) hR2) _ _ _ _ h _ _ _ w (lv_sub hl [1, 2, 0] rfl)
  · have h := ite_f q h
    refine lv_aload_n (pc := 20) hx hb dX12_lock_20 rfl (lv_at hl 0 rfl) ?_
    refine lv_iconst (pc := 21) (v := 4) hx hb dX12_lock_21 (by decide) ?_
    refine lv_bipush (pc := 22) (v := -2) hx hb dX12_lock_22 (by decide) ?_
    obtain ⟨r24, S23, hc, h⟩ := bnd_t h
    refine s_cvi (pc := 24) [.int (4 : Int32), .int (-2 : Int32)] (fun ad => [.ref (ad 0), .int (4 : Int32), .int (-2 : Int32)]) F w (m_M_entered _ _ _ _ _ hc) rfl rfl hl.1 ds_0 vc_X12 rfl ok_X12_entered rfl kc_X12_entered kl_X12_349 ki_X12_entered kv_X12_entered kn_X12 ⟨Nat.le_trans (by decide) hR1, Nat.le_trans (by decide) hR2⟩ ⟨Nat.zero_le _, Nat.zero_le _⟩ (Nat.le_of_ble_eq_true rfl) dX12_lock_24 (fun H locs w => ?_)
    exact s_iret F w h dX12_lock_27
def f_M_free_j84 (K32 : Int32 → Int32 → Int32 → SS → Option (Int32 × SS)) (x1 : Int32) (x2 : Int32) (x3 : Int32) (y0 : Int32) (y1 : Int32) (S : SS) : Option (Int32 × SS) :=
    grd (inb y1 40) (wr S 11 y1.toNatClampNeg y0 (fun S10 =>
    nm (x3 + (1 : Int32)) (fun z11 =>
    K32 x1 x2 z11 S10)))
def f_M_free_j56 (K32 : Int32 → Int32 → Int32 → SS → Option (Int32 × SS)) (x1 : Int32) (x3 : Int32) (y0 : Int32) (y1 : Int32) (S : SS) : Option (Int32 × SS) :=
    nm (y1 + y0) (fun z9 =>
    grd (inb x3 40) (
    if (S.1 11 x3.toNatClampNeg) = x1 then
      f_M_free_j84 K32 x1 z9 x3 (-4 : Int32) x3 S
    else
      grd (inb x3 40) (
      f_M_free_j84 K32 x1 z9 x3 (S.1 11 x3.toNatClampNeg) x3 S)))
def f_M_free_L32  : Nat → Int32 → Int32 → Int32 → SS → Option (Int32 × SS)
  | 0, _, _, _, _ => none
  | n + 1, x1, x2, x3, S =>
    if (S.1 0 15) ≤ x3 then
      bnd (f_M_entered (5 : Int32) x2 S) (fun r8 S7 =>
      some (r8, S7))
    else
      grd (inb x3 40) (
      if (S.1 11 x3.toNatClampNeg) = x1 then
        f_M_free_j56 (fun v0 v1 v2 S => f_M_free_L32 n v0 v1 v2 S) x1 x3 (1 : Int32) x2 S
      else
        f_M_free_j56 (fun v0 v1 v2 S => f_M_free_L32 n v0 v1 v2 S) x1 x3 (0 : Int32) x2 S)
def f_M_free (a1 : Int32) (S : SS) : Option (Int32 × SS) :=
  bndv (f_M_begin  S) (fun S1 =>
  bndv (f_M_keep  S1) (fun S2 =>
  bnd (f_M_missRoute a1 S2) (fun r4 S3 =>
  bnd (f_M_ends r4 S3) (fun r6 S5 =>
  if r6 = 0 then
    f_M_free_L32 NF a1 (0 : Int32) (0 : Int32) S5
  else
    bnd (f_M_entered (5 : Int32) (-2 : Int32) S5) (fun r13 S12 =>
    some (r13, S12))))))
theorem dX12_free_0 : decode cX12_free 0 = .ok (.aload_n 0, 1) := dc_42 (by decide +kernel)
theorem dX12_free_1 : decode cX12_free 1 = .ok (.invokevirtual 226, 3) := dc_182 (a := 0) (b := 226) (by decide +kernel)
theorem dX12_free_4 : decode cX12_free 4 = .ok (.aload_n 0, 1) := dc_42 (by decide +kernel)
theorem dX12_free_5 : decode cX12_free 5 = .ok (.invokevirtual 346, 3) := dc_182 (a := 1) (b := 90) (by decide +kernel)
theorem dX12_free_8 : decode cX12_free 8 = .ok (.aload_n 0, 1) := dc_42 (by decide +kernel)
theorem dX12_free_9 : decode cX12_free 9 = .ok (.aload_n 0, 1) := dc_42 (by decide +kernel)
theorem dX12_free_10 : decode cX12_free 10 = .ok (.iload_n 1, 1) := dc_27 (by decide +kernel)
theorem dX12_free_11 : decode cX12_free 11 = .ok (.invokevirtual 260, 3) := dc_182 (a := 1) (b := 4) (by decide +kernel)
theorem dX12_free_14 : decode cX12_free 14 = .ok (.invokevirtual 236, 3) := dc_182 (a := 0) (b := 236) (by decide +kernel)
theorem dX12_free_17 : decode cX12_free 17 = .ok (.ifCond .eq 11, 3) := dc_153 (a := 0) (b := 11) (by decide +kernel) (by decide)
theorem dX12_free_20 : decode cX12_free 20 = .ok (.aload_n 0, 1) := dc_42 (by decide +kernel)
theorem dX12_free_21 : decode cX12_free 21 = .ok (.iconst 5, 1) := dc_8 (by decide +kernel)
theorem dX12_free_22 : decode cX12_free 22 = .ok (.bipush (-2), 2) := dc_16 (a := 254) (by decide +kernel) (by decide)
theorem dX12_free_24 : decode cX12_free 24 = .ok (.invokevirtual 349, 3) := dc_182 (a := 1) (b := 93) (by decide +kernel)
theorem dX12_free_27 : decode cX12_free 27 = .ok (.ireturn, 1) := dc_172 (by decide +kernel)
theorem dX12_free_28 : decode cX12_free 28 = .ok (.iconst 0, 1) := dc_3 (by decide +kernel)
theorem dX12_free_29 : decode cX12_free 29 = .ok (.istore_n 2, 1) := dc_61 (by decide +kernel)
theorem dX12_free_30 : decode cX12_free 30 = .ok (.iconst 0, 1) := dc_3 (by decide +kernel)
theorem dX12_free_31 : decode cX12_free 31 = .ok (.istore_n 3, 1) := dc_62 (by decide +kernel)
theorem dX12_free_32 : decode cX12_free 32 = .ok (.iload_n 3, 1) := dc_29 (by decide +kernel)
theorem dX12_free_33 : decode cX12_free 33 = .ok (.aload_n 0, 1) := dc_42 (by decide +kernel)
theorem dX12_free_34 : decode cX12_free 34 = .ok (.getfield 217, 3) := dc_180 (a := 0) (b := 217) (by decide +kernel)
theorem dX12_free_37 : decode cX12_free 37 = .ok (.if_icmp .ge 54, 3) := dc_162 (a := 0) (b := 54) (by decide +kernel) (by decide)
theorem dX12_free_40 : decode cX12_free 40 = .ok (.iload_n 2, 1) := dc_28 (by decide +kernel)
theorem dX12_free_41 : decode cX12_free 41 = .ok (.aload_n 0, 1) := dc_42 (by decide +kernel)
theorem dX12_free_42 : decode cX12_free 42 = .ok (.getfield 48, 3) := dc_180 (a := 0) (b := 48) (by decide +kernel)
theorem dX12_free_45 : decode cX12_free 45 = .ok (.iload_n 3, 1) := dc_29 (by decide +kernel)
theorem dX12_free_46 : decode cX12_free 46 = .ok (.iaload, 1) := dc_46 (by decide +kernel)
theorem dX12_free_47 : decode cX12_free 47 = .ok (.iload_n 1, 1) := dc_27 (by decide +kernel)
theorem dX12_free_48 : decode cX12_free 48 = .ok (.if_icmp .ne 7, 3) := dc_160 (a := 0) (b := 7) (by decide +kernel) (by decide)
theorem dX12_free_51 : decode cX12_free 51 = .ok (.iconst 1, 1) := dc_4 (by decide +kernel)
theorem dX12_free_52 : decode cX12_free 52 = .ok (.goto 4, 3) := dc_167 (a := 0) (b := 4) (by decide +kernel) (by decide)
theorem dX12_free_55 : decode cX12_free 55 = .ok (.iconst 0, 1) := dc_3 (by decide +kernel)
theorem dX12_free_56 : decode cX12_free 56 = .ok (.iadd, 1) := dc_96 (by decide +kernel)
theorem dX12_free_57 : decode cX12_free 57 = .ok (.istore_n 2, 1) := dc_61 (by decide +kernel)
theorem dX12_free_58 : decode cX12_free 58 = .ok (.aload_n 0, 1) := dc_42 (by decide +kernel)
theorem dX12_free_59 : decode cX12_free 59 = .ok (.getfield 48, 3) := dc_180 (a := 0) (b := 48) (by decide +kernel)
theorem dX12_free_62 : decode cX12_free 62 = .ok (.iload_n 3, 1) := dc_29 (by decide +kernel)
theorem dX12_free_63 : decode cX12_free 63 = .ok (.aload_n 0, 1) := dc_42 (by decide +kernel)
theorem dX12_free_64 : decode cX12_free 64 = .ok (.getfield 48, 3) := dc_180 (a := 0) (b := 48) (by decide +kernel)
theorem dX12_free_67 : decode cX12_free 67 = .ok (.iload_n 3, 1) := dc_29 (by decide +kernel)
theorem dX12_free_68 : decode cX12_free 68 = .ok (.iaload, 1) := dc_46 (by decide +kernel)
theorem dX12_free_69 : decode cX12_free 69 = .ok (.iload_n 1, 1) := dc_27 (by decide +kernel)
theorem dX12_free_70 : decode cX12_free 70 = .ok (.if_icmp .ne 8, 3) := dc_160 (a := 0) (b := 8) (by decide +kernel) (by decide)
theorem dX12_free_73 : decode cX12_free 73 = .ok (.bipush (-4), 2) := dc_16 (a := 252) (by decide +kernel) (by decide)
theorem dX12_free_75 : decode cX12_free 75 = .ok (.goto 9, 3) := dc_167 (a := 0) (b := 9) (by decide +kernel) (by decide)
theorem dX12_free_78 : decode cX12_free 78 = .ok (.aload_n 0, 1) := dc_42 (by decide +kernel)
theorem dX12_free_79 : decode cX12_free 79 = .ok (.getfield 48, 3) := dc_180 (a := 0) (b := 48) (by decide +kernel)
theorem dX12_free_82 : decode cX12_free 82 = .ok (.iload_n 3, 1) := dc_29 (by decide +kernel)
theorem dX12_free_83 : decode cX12_free 83 = .ok (.iaload, 1) := dc_46 (by decide +kernel)
theorem dX12_free_84 : decode cX12_free 84 = .ok (.iastore, 1) := dc_79 (by decide +kernel)
theorem dX12_free_85 : decode cX12_free 85 = .ok (.iinc 3 1, 3) := dc_132 (a := 3) (b := 1) (by decide +kernel) (by decide)
theorem dX12_free_88 : decode cX12_free 88 = .ok (.goto (-56), 3) := dc_167 (a := 255) (b := 200) (by decide +kernel) (by decide)
theorem dX12_free_91 : decode cX12_free 91 = .ok (.aload_n 0, 1) := dc_42 (by decide +kernel)
theorem dX12_free_92 : decode cX12_free 92 = .ok (.iconst 5, 1) := dc_8 (by decide +kernel)
theorem dX12_free_93 : decode cX12_free 93 = .ok (.iload_n 2, 1) := dc_28 (by decide +kernel)
theorem dX12_free_94 : decode cX12_free 94 = .ok (.invokevirtual 349, 3) := dc_182 (a := 1) (b := 93) (by decide +kernel)
theorem dX12_free_97 : decode cX12_free 97 = .ok (.ireturn, 1) := dc_172 (by decide +kernel)
set_option maxRecDepth 100000 in
set_option maxHeartbeats 4000000 in
theorem w_M_free_j84 {p : Program} {l : Launch} {e : Env} {R : Room} {s : State} {m : MethodId} {args : Array Value} {below : List Frame} {meth : Method} {c : Code} {dC : Nat → ClassId} {dI : Nat → Nat → Nat} {cs : Nat → ClassId} {ad : Nat → Nat} {A : Nat → Prop} {D0 : Nat → Nat} {S' : SS} {r : Int32} (F : Fx p s m args meth c cX12_free 4 RX12 (some .int) dC dI cs A) (hR1 : 0 ≤ R.frames) (hR2 : 0 ≤ R.locals) (K32 : Int32 → Int32 → Int32 → SS → Option (Int32 × SS)) (hK32 : ∀ (v0 : Int32) (v1 : Int32) (v2 : Int32) (S : SS), K32 v0 v1 v2 S = some (r, S') → AW p l e R s m args below meth c dC dI cs ad A D0 (some (.int r)) S' 4 32 [(0, .ref (ad 0)), (1, .int v0), (2, .int v1), (3, .int v2)] [] S) (x1 : Int32) (x2 : Int32) (x3 : Int32) (y0 : Int32) (y1 : Int32) (S : SS) (h : f_M_free_j84 K32 x1 x2 x3 y0 y1 S = some (r, S')) : AW p l e R s m args below meth c dC dI cs ad A D0 (some (.int r)) S' 4 84 [(0, .ref (ad 0)), (1, .int x1), (2, .int x2), (3, .int x3)] [.int y0, .int y1, .ref (ad 11)] S := by
  have hx := F.1.1
  have hb := F.1.2.1
  intro H locs ls w hl
  rw [f_M_free_j84] at h
  refine s_iast (pc := 84) F w ds_11 h dX12_free_84 (fun S10 H locs h w => ?_)
  refine s_nm h (fun z11 ez11 h => ?_)
  refine lv_iinc (pc := 85) (v := z11) (lv' := [(3, .int z11), (0, .ref (ad 0)), (1, .int x1), (2, .int x2)]) hx hb dX12_free_85 hl (k := 3) rfl (by rw [ez11]; rfl) (by decide) rfl (fun ls hl => ?_)
  refine lv_goto (pc := 88) (tgt := 32) hx hb dX12_free_88 (by decide) ?_
  exact hK32 _ _ _ _ h _ _ _ w (lv_sub hl [1, 2, 3, 0] rfl)
set_option maxRecDepth 100000 in
set_option maxHeartbeats 4000000 in
theorem w_M_free_j56 {p : Program} {l : Launch} {e : Env} {R : Room} {s : State} {m : MethodId} {args : Array Value} {below : List Frame} {meth : Method} {c : Code} {dC : Nat → ClassId} {dI : Nat → Nat → Nat} {cs : Nat → ClassId} {ad : Nat → Nat} {A : Nat → Prop} {D0 : Nat → Nat} {S' : SS} {r : Int32} (F : Fx p s m args meth c cX12_free 4 RX12 (some .int) dC dI cs A) (hR1 : 0 ≤ R.frames) (hR2 : 0 ≤ R.locals) (K32 : Int32 → Int32 → Int32 → SS → Option (Int32 × SS)) (hK32 : ∀ (v0 : Int32) (v1 : Int32) (v2 : Int32) (S : SS), K32 v0 v1 v2 S = some (r, S') → AW p l e R s m args below meth c dC dI cs ad A D0 (some (.int r)) S' 4 32 [(0, .ref (ad 0)), (1, .int v0), (2, .int v1), (3, .int v2)] [] S) (x1 : Int32) (x3 : Int32) (y0 : Int32) (y1 : Int32) (S : SS) (h : f_M_free_j56 K32 x1 x3 y0 y1 S = some (r, S')) : AW p l e R s m args below meth c dC dI cs ad A D0 (some (.int r)) S' 4 56 [(0, .ref (ad 0)), (1, .int x1), (3, .int x3)] [.int y0, .int y1] S := by
  have hx := F.1.1
  have hb := F.1.2.1
  intro H locs ls w hl
  rw [f_M_free_j56] at h
  refine lv_iadd (pc := 56) hx hb dX12_free_56 ?_
  refine s_nm h (fun z9 ez9 h => ?_)
  rw [← ez9]
  refine lv_istore_n (pc := 57) (lv' := [(2, .int z9), (0, .ref (ad 0)), (1, .int x1), (3, .int x3)]) hx hb dX12_free_57 rfl hl (by decide) rfl (fun ls hl => ?_)
  refine lv_aload_n (pc := 58) hx hb dX12_free_58 rfl (lv_at hl 1 rfl) ?_
  refine s_getR (pc := 59) F w 11 ds_0 (j := 18) vc_X12 vi_X12 rfl (by decide) kf_X12_48 dX12_free_59 ?_
  refine lv_iload_n (pc := 62) hx hb dX12_free_62 rfl (lv_at hl 3 rfl) ?_
  refine lv_aload_n (pc := 63) hx hb dX12_free_63 rfl (lv_at hl 1 rfl) ?_
  refine s_getR (pc := 64) F w 11 ds_0 (j := 18) vc_X12 vi_X12 rfl (by decide) kf_X12_48 dX12_free_64 ?_
  refine lv_iload_n (pc := 67) hx hb dX12_free_67 rfl (lv_at hl 3 rfl) ?_
  refine s_iald (pc := 68) F w ds_11 h dX12_free_68 (fun h => ?_)
  refine lv_iload_n (pc := 69) hx hb dX12_free_69 rfl (lv_at hl 2 rfl) ?_
  refine lv_icmp_ne (pc := 70) (tgt := 78) hx hb dX12_free_70 (by decide) (fun q => ?_) (fun q => ?_)
  · have h := ite_f q h
    refine lv_aload_n (pc := 78) hx hb dX12_free_78 rfl (lv_at hl 1 rfl) ?_
    refine s_getR (pc := 79) F w 11 ds_0 (j := 18) vc_X12 vi_X12 rfl (by decide) kf_X12_48 dX12_free_79 ?_
    refine lv_iload_n (pc := 82) hx hb dX12_free_82 rfl (lv_at hl 3 rfl) ?_
    refine s_iald (pc := 83) F w ds_11 h dX12_free_83 (fun h => ?_)
    exact w_M_free_j84 F (Nat.le_trans (by decide) hR1) (Nat.le_trans (by decide) hR2) _ hK32 _ _ _ _ _ _ h _ _ _ w (lv_sub hl [1, 2, 0, 3] rfl)
  · have h := ite_t q h
    refine lv_bipush (pc := 73) (v := -4) hx hb dX12_free_73 (by decide) ?_
    refine lv_goto (pc := 75) (tgt := 84) hx hb dX12_free_75 (by decide) ?_
    exact w_M_free_j84 F (Nat.le_trans (by decide) hR1) (Nat.le_trans (by decide) hR2) _ hK32 _ _ _ _ _ _ h _ _ _ w (lv_sub hl [1, 2, 0, 3] rfl)
set_option maxRecDepth 100000 in
set_option maxHeartbeats 4000000 in
theorem w_M_free_L32 {p : Program} {l : Launch} {e : Env} {R : Room} {s : State} {m : MethodId} {args : Array Value} {below : List Frame} {meth : Method} {c : Code} {dC : Nat → ClassId} {dI : Nat → Nat → Nat} {cs : Nat → ClassId} {ad : Nat → Nat} {A : Nat → Prop} {D0 : Nat → Nat} {S' : SS} {r : Int32} (F : Fx p s m args meth c cX12_free 4 RX12 (some .int) dC dI cs A) (hR1 : 1 ≤ R.frames) (hR2 : 22 ≤ R.locals) : ∀ (n : Nat) (x1 : Int32) (x2 : Int32) (x3 : Int32) (S : SS), f_M_free_L32 n x1 x2 x3 S = some (r, S') → AW p l e R s m args below meth c dC dI cs ad A D0 (some (.int r)) S' 4 32 [(0, .ref (ad 0)), (1, .int x1), (2, .int x2), (3, .int x3)] [] S := by
  have hx := F.1.1
  have hb := F.1.2.1
  intro n
  induction n with
  | zero => intro x1 x2 x3 S h; cases h
  | succ n ih =>
    intro x1 x2 x3 S h H locs ls w hl
    rw [f_M_free_L32] at h
    refine lv_iload_n (pc := 32) hx hb dX12_free_32 rfl (lv_at hl 3 rfl) ?_
    refine lv_aload_n (pc := 33) hx hb dX12_free_33 rfl (lv_at hl 0 rfl) ?_
    refine s_getI (pc := 34) F w ds_0 (j := 15) vc_X12 vi_X12 rfl (by decide) kf_X12_217 dX12_free_34 ?_
    refine lv_icmp_ge (pc := 37) (tgt := 91) hx hb dX12_free_37 (by decide) (fun q => ?_) (fun q => ?_)
    · have h := ite_t q h
      refine lv_aload_n (pc := 91) hx hb dX12_free_91 rfl (lv_at hl 0 rfl) ?_
      refine lv_iconst (pc := 92) (v := 5) hx hb dX12_free_92 (by decide) ?_
      refine lv_iload_n (pc := 93) hx hb dX12_free_93 rfl (lv_at hl 2 rfl) ?_
      obtain ⟨r8, S7, hc, h⟩ := bnd_t h
      refine s_cvi (pc := 94) [.int (5 : Int32), .int x2] (fun ad => [.ref (ad 0), .int (5 : Int32), .int x2]) F w (m_M_entered _ _ _ _ _ hc) rfl rfl hl.1 ds_0 vc_X12 rfl ok_X12_entered rfl kc_X12_entered kl_X12_349 ki_X12_entered kv_X12_entered kn_X12 ⟨Nat.le_trans (by decide) hR1, Nat.le_trans (by decide) hR2⟩ ⟨Nat.zero_le _, Nat.zero_le _⟩ (Nat.le_of_ble_eq_true rfl) dX12_free_94 (fun H locs w => ?_)
      exact s_iret F w h dX12_free_97
    · have h := ite_f q h
      refine lv_iload_n (pc := 40) hx hb dX12_free_40 rfl (lv_at hl 2 rfl) ?_
      refine lv_aload_n (pc := 41) hx hb dX12_free_41 rfl (lv_at hl 0 rfl) ?_
      refine s_getR (pc := 42) F w 11 ds_0 (j := 18) vc_X12 vi_X12 rfl (by decide) kf_X12_48 dX12_free_42 ?_
      refine lv_iload_n (pc := 45) hx hb dX12_free_45 rfl (lv_at hl 3 rfl) ?_
      refine s_iald (pc := 46) F w ds_11 h dX12_free_46 (fun h => ?_)
      refine lv_iload_n (pc := 47) hx hb dX12_free_47 rfl (lv_at hl 1 rfl) ?_
      refine lv_icmp_ne (pc := 48) (tgt := 55) hx hb dX12_free_48 (by decide) (fun q => ?_) (fun q => ?_)
      · have h := ite_f q h
        refine lv_iconst (pc := 55) (v := 0) hx hb dX12_free_55 (by decide) ?_
        exact w_M_free_j56 F (Nat.le_trans (by decide) hR1) (Nat.le_trans (by decide) hR2) _ (fun v0 v1 v2 S h => ih v0 v1 v2 S h) _ _ _ _ _ h _ _ _ w (lv_sub hl [0, 1, 3] rfl)
      · have h := ite_t q h
        refine lv_iconst (pc := 51) (v := 1) hx hb dX12_free_51 (by decide) ?_
        refine lv_goto (pc := 52) (tgt := 56) hx hb dX12_free_52 (by decide) ?_
        exact w_M_free_j56 F (Nat.le_trans (by decide) hR1) (Nat.le_trans (by decide) hR2) _ (fun v0 v1 v2 S h => ih v0 v1 v2 S h) _ _ _ _ _ h _ _ _ w (lv_sub hl [0, 1, 3] rfl)
set_option maxRecDepth 100000 in
set_option maxHeartbeats 4000000 in
theorem m_M_free (a1 : Int32) (S S' : SS) (r : Int32) (h : f_M_free a1 S = some (r, S')) : MT yX12_free cX12_free 4 (some .int) 2 44 (fun ad => [.ref (ad 0), .int a1]) S (some (.int r)) S' := by
  refine MT.of RX12 (fun ad => [(0, .ref (ad 0)), (1, .int a1)]) (by decide) rfl (fun _ => Nat.le_of_ble_eq_true rfl) (fun _ => rfl) ?_
  intro p l e R s m args below meth c dC dI cs ad A hR1 hR2 F H locs ls w hl
  have hx := F.1.1
  have hb := F.1.2.1
  rw [f_M_free] at h
  refine lv_aload_n (pc := 0) hx hb dX12_free_0 rfl (lv_at hl 0 rfl) ?_
  obtain ⟨S1, hc, h⟩ := bndv_t h
  refine s_cvv (pc := 1) [] (fun ad => [.ref (ad 0)]) F w (m_M_begin  _ _ hc) rfl rfl hl.1 ds_0 vc_X12 rfl ok_X12_begin rfl kc_X12_begin kl_X12_226 ki_X12_begin kv_X12_begin kn_X12 ⟨Nat.le_trans (by decide) hR1, Nat.le_trans (by decide) hR2⟩ ⟨Nat.zero_le _, Nat.zero_le _⟩ (Nat.le_of_ble_eq_true rfl) dX12_free_1 (fun H locs w => ?_)
  refine lv_aload_n (pc := 4) hx hb dX12_free_4 rfl (lv_at hl 0 rfl) ?_
  obtain ⟨S2, hc, h⟩ := bndv_t h
  refine s_cvv (pc := 5) [] (fun ad => [.ref (ad 0)]) F w (m_M_keep  _ _ hc) rfl rfl hl.1 ds_0 vc_X12 rfl ok_X12_keep rfl kc_X12_keep kl_X12_346 ki_X12_keep kv_X12_keep kn_X12 ⟨Nat.le_trans (by decide) hR1, Nat.le_trans (by decide) hR2⟩ ⟨Nat.zero_le _, Nat.zero_le _⟩ (Nat.le_of_ble_eq_true rfl) dX12_free_5 (fun H locs w => ?_)
  refine lv_aload_n (pc := 8) hx hb dX12_free_8 rfl (lv_at hl 0 rfl) ?_
  refine lv_aload_n (pc := 9) hx hb dX12_free_9 rfl (lv_at hl 0 rfl) ?_
  refine lv_iload_n (pc := 10) hx hb dX12_free_10 rfl (lv_at hl 1 rfl) ?_
  obtain ⟨r4, S3, hc, h⟩ := bnd_t h
  refine s_cvi (pc := 11) [.int a1] (fun ad => [.ref (ad 0), .int a1]) F w (m_M_missRoute _ _ _ _ hc) rfl rfl hl.1 ds_0 vc_X12 rfl ok_X12_missRoute rfl kc_X12_missRoute kl_X12_260 ki_X12_missRoute kv_X12_missRoute kn_X12 ⟨Nat.le_trans (by decide) hR1, Nat.le_trans (by decide) hR2⟩ ⟨Nat.zero_le _, Nat.zero_le _⟩ (Nat.le_of_ble_eq_true rfl) dX12_free_11 (fun H locs w => ?_)
  obtain ⟨r6, S5, hc, h⟩ := bnd_t h
  refine s_cvi (pc := 14) [.int r4] (fun ad => [.ref (ad 0), .int r4]) F w (m_M_ends _ _ _ _ hc) rfl rfl hl.1 ds_0 vc_X12 rfl ok_X12_ends rfl kc_X12_ends kl_X12_236 ki_X12_ends kv_X12_ends kn_X12 ⟨Nat.le_trans (by decide) hR1, Nat.le_trans (by decide) hR2⟩ ⟨Nat.zero_le _, Nat.zero_le _⟩ (Nat.le_of_ble_eq_true rfl) dX12_free_14 (fun H locs w => ?_)
  refine lv_if_eq (pc := 17) (tgt := 28) hx hb dX12_free_17 (by decide) (fun q => ?_) (fun q => ?_)
  · have h := ite_t q h
    refine lv_iconst (pc := 28) (v := 0) hx hb dX12_free_28 (by decide) ?_
    refine lv_istore_n (pc := 29) (lv' := [(2, .int (0 : Int32)), (0, .ref (ad 0)), (1, .int a1)]) hx hb dX12_free_29 rfl hl (by decide) rfl (fun ls hl => ?_)
    refine lv_iconst (pc := 30) (v := 0) hx hb dX12_free_30 (by decide) ?_
    refine lv_istore_n (pc := 31) (lv' := [(3, .int (0 : Int32)), (2, .int (0 : Int32)), (0, .ref (ad 0)), (1, .int a1)]) hx hb dX12_free_31 rfl hl (by decide) rfl (fun ls hl => ?_)
    exact w_M_free_L32 F (Nat.le_trans (by decide) hR1) (Nat.le_trans (by decide) hR2) _ _ _ _ _ h _ _ _ w (lv_sub hl [2, 3, 1, 0] rfl)
  · have h := ite_f q h
    refine lv_aload_n (pc := 20) hx hb dX12_free_20 rfl (lv_at hl 0 rfl) ?_
    refine lv_iconst (pc := 21) (v := 5) hx hb dX12_free_21 (by decide) ?_
    refine lv_bipush (pc := 22) (v := -2) hx hb dX12_free_22 (by decide) ?_
    obtain ⟨r13, S12, hc, h⟩ := bnd_t h
    refine s_cvi (pc := 24) [.int (5 : Int32), .int (-2 : Int32)] (fun ad => [.ref (ad 0), .int (5 : Int32), .int (-2 : Int32)]) F w (m_M_entered _ _ _ _ _ hc) rfl rfl hl.1 ds_0 vc_X12 rfl ok_X12_entered rfl kc_X12_entered kl_X12_349 ki_X12_entered kv_X12_entered kn_X12 ⟨Nat.le_trans (by decide) hR1, Nat.le_trans (by decide) hR2⟩ ⟨Nat.zero_le _, Nat.zero_le _⟩ (Nat.le_of_ble_eq_true rfl) dX12_free_24 (fun H locs w => ?_)
    exact s_iret F w h dX12_free_27
def f_M_missSide (a1 : Int32) (a2 : Int32) (a3 : Int32) (S : SS) : Option (Int32 × SS) :=
  bnd (f_M_missThing a1 a2 S) (fun r2 S1 =>
  if r2 = 0 then
    bnd (f_M_isSide a3 S1) (fun r4 S3 =>
    if r4 = 0 then
      some ((3 : Int32), S3)
    else
      some ((0 : Int32), S3))
  else
    some (r2, S1))
theorem dX12_missSide_0 : decode cX12_missSide 0 = .ok (.aload_n 0, 1) := dc_42 (by decide +kernel)
theorem dX12_missSide_1 : decode cX12_missSide 1 = .ok (.iload_n 1, 1) := dc_27 (by decide +kernel)
theorem dX12_missSide_2 : decode cX12_missSide 2 = .ok (.iload_n 2, 1) := dc_28 (by decide +kernel)
theorem dX12_missSide_3 : decode cX12_missSide 3 = .ok (.invokevirtual 293, 3) := dc_182 (a := 1) (b := 37) (by decide +kernel)
theorem dX12_missSide_6 : decode cX12_missSide 6 = .ok (.istore 4, 2) := dc_54 (a := 4) (by decide +kernel)
theorem dX12_missSide_8 : decode cX12_missSide 8 = .ok (.iload 4, 2) := dc_21 (a := 4) (by decide +kernel)
theorem dX12_missSide_10 : decode cX12_missSide 10 = .ok (.ifCond .eq 8, 3) := dc_153 (a := 0) (b := 8) (by decide +kernel) (by decide)
theorem dX12_missSide_13 : decode cX12_missSide 13 = .ok (.iload 4, 2) := dc_21 (a := 4) (by decide +kernel)
theorem dX12_missSide_15 : decode cX12_missSide 15 = .ok (.goto 15, 3) := dc_167 (a := 0) (b := 15) (by decide +kernel) (by decide)
theorem dX12_missSide_18 : decode cX12_missSide 18 = .ok (.iload_n 3, 1) := dc_29 (by decide +kernel)
theorem dX12_missSide_19 : decode cX12_missSide 19 = .ok (.invokestatic 232, 3) := dc_184 (a := 0) (b := 232) (by decide +kernel)
theorem dX12_missSide_22 : decode cX12_missSide 22 = .ok (.ifCond .eq 7, 3) := dc_153 (a := 0) (b := 7) (by decide +kernel) (by decide)
theorem dX12_missSide_25 : decode cX12_missSide 25 = .ok (.iconst 0, 1) := dc_3 (by decide +kernel)
theorem dX12_missSide_26 : decode cX12_missSide 26 = .ok (.goto 4, 3) := dc_167 (a := 0) (b := 4) (by decide +kernel) (by decide)
theorem dX12_missSide_29 : decode cX12_missSide 29 = .ok (.iconst 3, 1) := dc_6 (by decide +kernel)
theorem dX12_missSide_30 : decode cX12_missSide 30 = .ok (.ireturn, 1) := dc_172 (by decide +kernel)
set_option maxRecDepth 100000 in
set_option maxHeartbeats 4000000 in
theorem m_M_missSide (a1 : Int32) (a2 : Int32) (a3 : Int32) (S S' : SS) (r : Int32) (h : f_M_missSide a1 a2 a3 S = some (r, S')) : MT yX12_missSide cX12_missSide 5 (some .int) 2 45 (fun ad => [.ref (ad 0), .int a1, .int a2, .int a3]) S (some (.int r)) S' := by
  refine MT.of RX12 (fun ad => [(0, .ref (ad 0)), (1, .int a1), (2, .int a2), (3, .int a3)]) (by decide) rfl (fun _ => Nat.le_of_ble_eq_true rfl) (fun _ => rfl) ?_
  intro p l e R s m args below meth c dC dI cs ad A hR1 hR2 F H locs ls w hl
  have hx := F.1.1
  have hb := F.1.2.1
  rw [f_M_missSide] at h
  refine lv_aload_n (pc := 0) hx hb dX12_missSide_0 rfl (lv_at hl 0 rfl) ?_
  refine lv_iload_n (pc := 1) hx hb dX12_missSide_1 rfl (lv_at hl 1 rfl) ?_
  refine lv_iload_n (pc := 2) hx hb dX12_missSide_2 rfl (lv_at hl 2 rfl) ?_
  obtain ⟨r2, S1, hc, h⟩ := bnd_t h
  refine s_cvi (pc := 3) [.int a1, .int a2] (fun ad => [.ref (ad 0), .int a1, .int a2]) F w (m_M_missThing _ _ _ _ _ hc) rfl rfl hl.1 ds_0 vc_X12 rfl ok_X12_missThing rfl kc_X12_missThing kl_X12_293 ki_X12_missThing kv_X12_missThing kn_X12 ⟨Nat.le_trans (by decide) hR1, Nat.le_trans (by decide) hR2⟩ ⟨Nat.zero_le _, Nat.zero_le _⟩ (Nat.le_of_ble_eq_true rfl) dX12_missSide_3 (fun H locs w => ?_)
  refine lv_istore (pc := 6) (lv' := [(4, .int r2), (0, .ref (ad 0)), (1, .int a1), (2, .int a2), (3, .int a3)]) hx hb dX12_missSide_6 hl (by decide) rfl (fun ls hl => ?_)
  refine lv_iload (pc := 8) hx hb dX12_missSide_8 (lv_at hl 0 rfl) ?_
  refine lv_if_eq (pc := 10) (tgt := 18) hx hb dX12_missSide_10 (by decide) (fun q => ?_) (fun q => ?_)
  · have h := ite_t q h
    refine lv_iload_n (pc := 18) hx hb dX12_missSide_18 rfl (lv_at hl 4 rfl) ?_
    obtain ⟨r4, S3, hc, h⟩ := bnd_t h
    refine s_csi (pc := 19) [.int a3] (fun ad => [.int a3]) F w (m_M_isSide _ _ _ _ hc) rfl rfl hl.1 ok_X12_isSide rfl kc_X12_isSide kl_X12_232 ks_X12_isSide kn_X12 ⟨Nat.le_trans (by decide) hR1, Nat.le_trans (by decide) hR2⟩ ⟨Nat.zero_le _, Nat.zero_le _⟩ (Nat.le_of_ble_eq_true rfl) dX12_missSide_19 (fun H locs w => ?_)
    refine lv_if_eq (pc := 22) (tgt := 29) hx hb dX12_missSide_22 (by decide) (fun q => ?_) (fun q => ?_)
    · have h := ite_t q h
      refine lv_iconst (pc := 29) (v := 3) hx hb dX12_missSide_29 (by decide) ?_
      exact s_iret F w h dX12_missSide_30
    · have h := ite_f q h
      refine lv_iconst (pc := 25) (v := 0) hx hb dX12_missSide_25 (by decide) ?_
      refine lv_goto (pc := 26) (tgt := 30) hx hb dX12_missSide_26 (by decide) ?_
      exact s_iret F w h dX12_missSide_30
  · have h := ite_f q h
    refine lv_iload (pc := 13) hx hb dX12_missSide_13 (lv_at hl 0 rfl) ?_
    refine lv_goto (pc := 15) (tgt := 30) hx hb dX12_missSide_15 (by decide) ?_
    exact s_iret F w h dX12_missSide_30
def f_M_wayOf (a1 : Int32) (a2 : Int32) (S : SS) : Option (Int32 × SS) :=
  if a2 = 0 then
    grd (inb a1 72) (
    some (S.1 22 a1.toNatClampNeg, S))
  else
    grd (inb a1 72) (
    some ((1 : Int32) - (S.1 22 a1.toNatClampNeg), S))
theorem dX12_wayOf_0 : decode cX12_wayOf 0 = .ok (.iload_n 2, 1) := dc_28 (by decide +kernel)
theorem dX12_wayOf_1 : decode cX12_wayOf 1 = .ok (.ifCond .ne 12, 3) := dc_154 (a := 0) (b := 12) (by decide +kernel) (by decide)
theorem dX12_wayOf_4 : decode cX12_wayOf 4 = .ok (.aload_n 0, 1) := dc_42 (by decide +kernel)
theorem dX12_wayOf_5 : decode cX12_wayOf 5 = .ok (.getfield 81, 3) := dc_180 (a := 0) (b := 81) (by decide +kernel)
theorem dX12_wayOf_8 : decode cX12_wayOf 8 = .ok (.iload_n 1, 1) := dc_27 (by decide +kernel)
theorem dX12_wayOf_9 : decode cX12_wayOf 9 = .ok (.iaload, 1) := dc_46 (by decide +kernel)
theorem dX12_wayOf_10 : decode cX12_wayOf 10 = .ok (.goto 11, 3) := dc_167 (a := 0) (b := 11) (by decide +kernel) (by decide)
theorem dX12_wayOf_13 : decode cX12_wayOf 13 = .ok (.iconst 1, 1) := dc_4 (by decide +kernel)
theorem dX12_wayOf_14 : decode cX12_wayOf 14 = .ok (.aload_n 0, 1) := dc_42 (by decide +kernel)
theorem dX12_wayOf_15 : decode cX12_wayOf 15 = .ok (.getfield 81, 3) := dc_180 (a := 0) (b := 81) (by decide +kernel)
theorem dX12_wayOf_18 : decode cX12_wayOf 18 = .ok (.iload_n 1, 1) := dc_27 (by decide +kernel)
theorem dX12_wayOf_19 : decode cX12_wayOf 19 = .ok (.iaload, 1) := dc_46 (by decide +kernel)
theorem dX12_wayOf_20 : decode cX12_wayOf 20 = .ok (.isub, 1) := dc_100 (by decide +kernel)
theorem dX12_wayOf_21 : decode cX12_wayOf 21 = .ok (.ireturn, 1) := dc_172 (by decide +kernel)
set_option maxRecDepth 100000 in
set_option maxHeartbeats 4000000 in
theorem m_M_wayOf (a1 : Int32) (a2 : Int32) (S S' : SS) (r : Int32) (h : f_M_wayOf a1 a2 S = some (r, S')) : MT yX12_wayOf cX12_wayOf 3 (some .int) 0 0 (fun ad => [.ref (ad 0), .int a1, .int a2]) S (some (.int r)) S' := by
  refine MT.of RX12 (fun ad => [(0, .ref (ad 0)), (1, .int a1), (2, .int a2)]) (by decide) rfl (fun _ => Nat.le_of_ble_eq_true rfl) (fun _ => rfl) ?_
  intro p l e R s m args below meth c dC dI cs ad A hR1 hR2 F H locs ls w hl
  have hx := F.1.1
  have hb := F.1.2.1
  rw [f_M_wayOf] at h
  refine lv_iload_n (pc := 0) hx hb dX12_wayOf_0 rfl (lv_at hl 2 rfl) ?_
  refine lv_if_ne (pc := 1) (tgt := 13) hx hb dX12_wayOf_1 (by decide) (fun q => ?_) (fun q => ?_)
  · have h := ite_f q h
    refine lv_iconst (pc := 13) (v := 1) hx hb dX12_wayOf_13 (by decide) ?_
    refine lv_aload_n (pc := 14) hx hb dX12_wayOf_14 rfl (lv_at hl 0 rfl) ?_
    refine s_getR (pc := 15) F w 22 ds_0 (j := 34) vc_X12 vi_X12 rfl (by decide) kf_X12_81 dX12_wayOf_15 ?_
    refine lv_iload_n (pc := 18) hx hb dX12_wayOf_18 rfl (lv_at hl 1 rfl) ?_
    refine s_iald (pc := 19) F w ds_22 h dX12_wayOf_19 (fun h => ?_)
    refine lv_isub (pc := 20) hx hb dX12_wayOf_20 ?_
    exact s_iret F w h dX12_wayOf_21
  · have h := ite_t q h
    refine lv_aload_n (pc := 4) hx hb dX12_wayOf_4 rfl (lv_at hl 0 rfl) ?_
    refine s_getR (pc := 5) F w 22 ds_0 (j := 34) vc_X12 vi_X12 rfl (by decide) kf_X12_81 dX12_wayOf_5 ?_
    refine lv_iload_n (pc := 8) hx hb dX12_wayOf_8 rfl (lv_at hl 1 rfl) ?_
    refine s_iald (pc := 9) F w ds_22 h dX12_wayOf_9 (fun h => ?_)
    refine lv_goto (pc := 10) (tgt := 21) hx hb dX12_wayOf_10 (by decide) ?_
    exact s_iret F w h dX12_wayOf_21
def f_M_openLink_j26  (x1 : Int32) (y0 : Int32) (S : SS) : Option (Int32 × SS) :=
    grd (inb x1 48) (
    if (S.1 6 x1.toNatClampNeg) ≤ y0 then
      some ((-4 : Int32), S)
    else
      some (y0, S))
def f_M_openLink (a1 : Int32) (S : SS) : Option (Int32 × SS) :=
  grd (inb a1 48) (
  if (S.1 5 a1.toNatClampNeg) = (-4 : Int32) then
    f_M_openLink_j26 a1 (0 : Int32) S
  else
    grd (inb a1 48) (
    grd (inb (S.1 5 a1.toNatClampNeg) 40) (
    f_M_openLink_j26 a1 (S.1 10 (S.1 5 a1.toNatClampNeg).toNatClampNeg) S)))
theorem dX12_openLink_0 : decode cX12_openLink 0 = .ok (.aload_n 0, 1) := dc_42 (by decide +kernel)
theorem dX12_openLink_1 : decode cX12_openLink 1 = .ok (.getfield 30, 3) := dc_180 (a := 0) (b := 30) (by decide +kernel)
theorem dX12_openLink_4 : decode cX12_openLink 4 = .ok (.iload_n 1, 1) := dc_27 (by decide +kernel)
theorem dX12_openLink_5 : decode cX12_openLink 5 = .ok (.iaload, 1) := dc_46 (by decide +kernel)
theorem dX12_openLink_6 : decode cX12_openLink 6 = .ok (.bipush (-4), 2) := dc_16 (a := 252) (by decide +kernel) (by decide)
theorem dX12_openLink_8 : decode cX12_openLink 8 = .ok (.if_icmp .ne 7, 3) := dc_160 (a := 0) (b := 7) (by decide +kernel) (by decide)
theorem dX12_openLink_11 : decode cX12_openLink 11 = .ok (.iconst 0, 1) := dc_3 (by decide +kernel)
theorem dX12_openLink_12 : decode cX12_openLink 12 = .ok (.goto 14, 3) := dc_167 (a := 0) (b := 14) (by decide +kernel) (by decide)
theorem dX12_openLink_15 : decode cX12_openLink 15 = .ok (.aload_n 0, 1) := dc_42 (by decide +kernel)
theorem dX12_openLink_16 : decode cX12_openLink 16 = .ok (.getfield 45, 3) := dc_180 (a := 0) (b := 45) (by decide +kernel)
theorem dX12_openLink_19 : decode cX12_openLink 19 = .ok (.aload_n 0, 1) := dc_42 (by decide +kernel)
theorem dX12_openLink_20 : decode cX12_openLink 20 = .ok (.getfield 30, 3) := dc_180 (a := 0) (b := 30) (by decide +kernel)
theorem dX12_openLink_23 : decode cX12_openLink 23 = .ok (.iload_n 1, 1) := dc_27 (by decide +kernel)
theorem dX12_openLink_24 : decode cX12_openLink 24 = .ok (.iaload, 1) := dc_46 (by decide +kernel)
theorem dX12_openLink_25 : decode cX12_openLink 25 = .ok (.iaload, 1) := dc_46 (by decide +kernel)
theorem dX12_openLink_26 : decode cX12_openLink 26 = .ok (.istore_n 2, 1) := dc_61 (by decide +kernel)
theorem dX12_openLink_27 : decode cX12_openLink 27 = .ok (.iload_n 2, 1) := dc_28 (by decide +kernel)
theorem dX12_openLink_28 : decode cX12_openLink 28 = .ok (.aload_n 0, 1) := dc_42 (by decide +kernel)
theorem dX12_openLink_29 : decode cX12_openLink 29 = .ok (.getfield 33, 3) := dc_180 (a := 0) (b := 33) (by decide +kernel)
theorem dX12_openLink_32 : decode cX12_openLink 32 = .ok (.iload_n 1, 1) := dc_27 (by decide +kernel)
theorem dX12_openLink_33 : decode cX12_openLink 33 = .ok (.iaload, 1) := dc_46 (by decide +kernel)
theorem dX12_openLink_34 : decode cX12_openLink 34 = .ok (.if_icmp .ge 7, 3) := dc_162 (a := 0) (b := 7) (by decide +kernel) (by decide)
theorem dX12_openLink_37 : decode cX12_openLink 37 = .ok (.iload_n 2, 1) := dc_28 (by decide +kernel)
theorem dX12_openLink_38 : decode cX12_openLink 38 = .ok (.goto 5, 3) := dc_167 (a := 0) (b := 5) (by decide +kernel) (by decide)
theorem dX12_openLink_41 : decode cX12_openLink 41 = .ok (.bipush (-4), 2) := dc_16 (a := 252) (by decide +kernel) (by decide)
theorem dX12_openLink_43 : decode cX12_openLink 43 = .ok (.ireturn, 1) := dc_172 (by decide +kernel)
set_option maxRecDepth 100000 in
set_option maxHeartbeats 4000000 in
theorem w_M_openLink_j26 {p : Program} {l : Launch} {e : Env} {R : Room} {s : State} {m : MethodId} {args : Array Value} {below : List Frame} {meth : Method} {c : Code} {dC : Nat → ClassId} {dI : Nat → Nat → Nat} {cs : Nat → ClassId} {ad : Nat → Nat} {A : Nat → Prop} {D0 : Nat → Nat} {S' : SS} {r : Int32} (F : Fx p s m args meth c cX12_openLink 3 RX12 (some .int) dC dI cs A) (hR1 : 0 ≤ R.frames) (hR2 : 0 ≤ R.locals) (x1 : Int32) (y0 : Int32) (S : SS) (h : f_M_openLink_j26 x1 y0 S = some (r, S')) : AW p l e R s m args below meth c dC dI cs ad A D0 (some (.int r)) S' 3 26 [(0, .ref (ad 0)), (1, .int x1)] [.int y0] S := by
  have hx := F.1.1
  have hb := F.1.2.1
  intro H locs ls w hl
  rw [f_M_openLink_j26] at h
  refine lv_istore_n (pc := 26) (lv' := [(2, .int y0), (0, .ref (ad 0)), (1, .int x1)]) hx hb dX12_openLink_26 rfl hl (by decide) rfl (fun ls hl => ?_)
  refine lv_iload_n (pc := 27) hx hb dX12_openLink_27 rfl (lv_at hl 0 rfl) ?_
  refine lv_aload_n (pc := 28) hx hb dX12_openLink_28 rfl (lv_at hl 1 rfl) ?_
  refine s_getR (pc := 29) F w 6 ds_0 (j := 11) vc_X12 vi_X12 rfl (by decide) kf_X12_33 dX12_openLink_29 ?_
  refine lv_iload_n (pc := 32) hx hb dX12_openLink_32 rfl (lv_at hl 2 rfl) ?_
  refine s_iald (pc := 33) F w ds_6 h dX12_openLink_33 (fun h => ?_)
  refine lv_icmp_ge (pc := 34) (tgt := 41) hx hb dX12_openLink_34 (by decide) (fun q => ?_) (fun q => ?_)
  · have h := ite_t q h
    refine lv_bipush (pc := 41) (v := -4) hx hb dX12_openLink_41 (by decide) ?_
    exact s_iret F w h dX12_openLink_43
  · have h := ite_f q h
    refine lv_iload_n (pc := 37) hx hb dX12_openLink_37 rfl (lv_at hl 0 rfl) ?_
    refine lv_goto (pc := 38) (tgt := 43) hx hb dX12_openLink_38 (by decide) ?_
    exact s_iret F w h dX12_openLink_43
set_option maxRecDepth 100000 in
set_option maxHeartbeats 4000000 in
theorem m_M_openLink (a1 : Int32) (S S' : SS) (r : Int32) (h : f_M_openLink a1 S = some (r, S')) : MT yX12_openLink cX12_openLink 3 (some .int) 0 0 (fun ad => [.ref (ad 0), .int a1]) S (some (.int r)) S' := by
  refine MT.of RX12 (fun ad => [(0, .ref (ad 0)), (1, .int a1)]) (by decide) rfl (fun _ => Nat.le_of_ble_eq_true rfl) (fun _ => rfl) ?_
  intro p l e R s m args below meth c dC dI cs ad A hR1 hR2 F H locs ls w hl
  have hx := F.1.1
  have hb := F.1.2.1
  rw [f_M_openLink] at h
  refine lv_aload_n (pc := 0) hx hb dX12_openLink_0 rfl (lv_at hl 0 rfl) ?_
  refine s_getR (pc := 1) F w 5 ds_0 (j := 10) vc_X12 vi_X12 rfl (by decide) kf_X12_30 dX12_openLink_1 ?_
  refine lv_iload_n (pc := 4) hx hb dX12_openLink_4 rfl (lv_at hl 1 rfl) ?_
  refine s_iald (pc := 5) F w ds_5 h dX12_openLink_5 (fun h => ?_)
  refine lv_bipush (pc := 6) (v := -4) hx hb dX12_openLink_6 (by decide) ?_
  refine lv_icmp_ne (pc := 8) (tgt := 15) hx hb dX12_openLink_8 (by decide) (fun q => ?_) (fun q => ?_)
  · have h := ite_f q h
    refine lv_aload_n (pc := 15) hx hb dX12_openLink_15 rfl (lv_at hl 0 rfl) ?_
    refine s_getR (pc := 16) F w 10 ds_0 (j := 17) vc_X12 vi_X12 rfl (by decide) kf_X12_45 dX12_openLink_16 ?_
    refine lv_aload_n (pc := 19) hx hb dX12_openLink_19 rfl (lv_at hl 0 rfl) ?_
    refine s_getR (pc := 20) F w 5 ds_0 (j := 10) vc_X12 vi_X12 rfl (by decide) kf_X12_30 dX12_openLink_20 ?_
    refine lv_iload_n (pc := 23) hx hb dX12_openLink_23 rfl (lv_at hl 1 rfl) ?_
    refine s_iald (pc := 24) F w ds_5 h dX12_openLink_24 (fun h => ?_)
    refine s_iald (pc := 25) F w ds_10 h dX12_openLink_25 (fun h => ?_)
    exact w_M_openLink_j26 F (Nat.le_trans (by decide) hR1) (Nat.le_trans (by decide) hR2) _ _ _ h _ _ _ w (lv_sub hl [0, 1] rfl)
  · have h := ite_t q h
    refine lv_iconst (pc := 11) (v := 0) hx hb dX12_openLink_11 (by decide) ?_
    refine lv_goto (pc := 12) (tgt := 26) hx hb dX12_openLink_12 (by decide) ?_
    exact w_M_openLink_j26 F (Nat.le_trans (by decide) hR1) (Nat.le_trans (by decide) hR2) _ _ _ h _ _ _ w (lv_sub hl [0, 1] rfl)
