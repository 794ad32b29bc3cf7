/-! ===== printed by wip/gen: X12_turn X6_lockFinding X6_giveBack X6_lockAll X11_lock X12_missEntry X12_lock X6_freeAll X11_free X12_free X11_namedSide X8_looks X2_trackOf X2_placeOf ===== -/
def f_X12_turn (a1 : Int32) (a2 : Int32) (S : SS) : Option (Int32 × SS) :=
  bndv (f_X12_begin  S) (fun S1 =>
  bndv (f_X12_keep  S1) (fun S2 =>
  bnd (f_X12_missTurn a1 a2 S2) (fun r4 S3 =>
  bnd (f_X12_ends r4 S3) (fun r6 S5 =>
  if r6 = 0 then
    grd (inb a1 40) (
    nm (S5.1 77 a1.toNatClampNeg) (fun z7 =>
    grd (inb a1 40) (wr S5 77 a1.toNatClampNeg a2 (fun S8 =>
    bnd (f_X12_entered (3 : Int32) z7 S8) (fun r10 S9 =>
    some (r10, S9))))))
  else
    bnd (f_X12_entered (3 : Int32) (-2 : Int32) S5) (fun r12 S11 =>
    some (r12, S11))))))
theorem dX12_turn_0 : decode cX12_turn 0 = .ok (.aload_n 0, 1) := by decide +kernel
theorem dX12_turn_1 : decode cX12_turn 1 = .ok (.invokevirtual 226, 3) := by decide +kernel
theorem dX12_turn_4 : decode cX12_turn 4 = .ok (.aload_n 0, 1) := by decide +kernel
theorem dX12_turn_5 : decode cX12_turn 5 = .ok (.invokevirtual 346, 3) := by decide +kernel
theorem dX12_turn_8 : decode cX12_turn 8 = .ok (.aload_n 0, 1) := by decide +kernel
theorem dX12_turn_9 : decode cX12_turn 9 = .ok (.aload_n 0, 1) := by decide +kernel
theorem dX12_turn_10 : decode cX12_turn 10 = .ok (.iload_n 1, 1) := by decide +kernel
theorem dX12_turn_11 : decode cX12_turn 11 = .ok (.iload_n 2, 1) := by decide +kernel
theorem dX12_turn_12 : decode cX12_turn 12 = .ok (.invokevirtual 358, 3) := by decide +kernel
theorem dX12_turn_15 : decode cX12_turn 15 = .ok (.invokevirtual 236, 3) := by decide +kernel
theorem dX12_turn_18 : decode cX12_turn 18 = .ok (.ifCond .eq 11, 3) := by decide +kernel
theorem dX12_turn_21 : decode cX12_turn 21 = .ok (.aload_n 0, 1) := by decide +kernel
theorem dX12_turn_22 : decode cX12_turn 22 = .ok (.iconst 3, 1) := by decide +kernel
theorem dX12_turn_23 : decode cX12_turn 23 = .ok (.bipush (-2), 2) := by decide +kernel
theorem dX12_turn_25 : decode cX12_turn 25 = .ok (.invokevirtual 349, 3) := by decide +kernel
theorem dX12_turn_28 : decode cX12_turn 28 = .ok (.ireturn, 1) := by decide +kernel
theorem dX12_turn_29 : decode cX12_turn 29 = .ok (.aload_n 0, 1) := by decide +kernel
theorem dX12_turn_30 : decode cX12_turn 30 = .ok (.getfield 45, 3) := by decide +kernel
theorem dX12_turn_33 : decode cX12_turn 33 = .ok (.iload_n 1, 1) := by decide +kernel
theorem dX12_turn_34 : decode cX12_turn 34 = .ok (.iaload, 1) := by decide +kernel
theorem dX12_turn_35 : decode cX12_turn 35 = .ok (.istore_n 3, 1) := by decide +kernel
theorem dX12_turn_36 : decode cX12_turn 36 = .ok (.aload_n 0, 1) := by decide +kernel
theorem dX12_turn_37 : decode cX12_turn 37 = .ok (.getfield 45, 3) := by decide +kernel
theorem dX12_turn_40 : decode cX12_turn 40 = .ok (.iload_n 1, 1) := by decide +kernel
theorem dX12_turn_41 : decode cX12_turn 41 = .ok (.iload_n 2, 1) := by decide +kernel
theorem dX12_turn_42 : decode cX12_turn 42 = .ok (.iastore, 1) := by decide +kernel
theorem dX12_turn_43 : decode cX12_turn 43 = .ok (.aload_n 0, 1) := by decide +kernel
theorem dX12_turn_44 : decode cX12_turn 44 = .ok (.iconst 3, 1) := by decide +kernel
theorem dX12_turn_45 : decode cX12_turn 45 = .ok (.iload_n 3, 1) := by decide +kernel
theorem dX12_turn_46 : decode cX12_turn 46 = .ok (.invokevirtual 349, 3) := by decide +kernel
theorem dX12_turn_49 : decode cX12_turn 49 = .ok (.ireturn, 1) := by decide +kernel
set_option maxRecDepth 100000 in
set_option maxHeartbeats 4000000 in
theorem m_X12_turn (a1 : Int32) (a2 : Int32) (S S' : SS) (r : Int32) (h : f_X12_turn a1 a2 S = some (r, S')) : MT yX12_turn cX12_turn 4 (some .int) 3 67 (fun ad => [.ref (ad 14), .int a1, .int a2]) S (some (.int r)) S' := by
  refine MT.of RX12 (fun ad => [(0, .ref (ad 14)), (1, .int a1), (2, .int a2)]) (by decide) rfl (fun _ => Nat.le_of_ble_eq_true rfl) (fun _ => rfl) ?_
  intro p l e R s m args below meth c dC dI cs ad A hR1 hR2 F H locs ls w hl
  have hx := F.1.1
  have hb := F.1.2.1
  rw [f_X12_turn] at h
  refine lv_aload_n (pc := 0) hx hb dX12_turn_0 rfl (lv_at hl 0 rfl) ?_
  obtain ⟨S1, hc, h⟩ := bndv_t h
  refine s_cvv (pc := 1) [] (fun ad => [.ref (ad 14)]) F w (m_X12_begin  _ _ hc) rfl rfl hl.1 ds_14 vc_X12 rfl ok_X12_begin rfl kc_X12_begin kl_X12_226 ki_X12_begin kv_X12_begin kn_X12 ⟨Nat.le_trans (by decide) hR1, Nat.le_trans (by decide) hR2⟩ ⟨Nat.zero_le _, Nat.zero_le _⟩ (Nat.le_of_ble_eq_true rfl) dX12_turn_1 (fun H locs w => ?_)
  refine lv_aload_n (pc := 4) hx hb dX12_turn_4 rfl (lv_at hl 0 rfl) ?_
  obtain ⟨S2, hc, h⟩ := bndv_t h
  refine s_cvv (pc := 5) [] (fun ad => [.ref (ad 14)]) F w (m_X12_keep  _ _ hc) rfl rfl hl.1 ds_14 vc_X12 rfl ok_X12_keep rfl kc_X12_keep kl_X12_346 ki_X12_keep kv_X12_keep kn_X12 ⟨Nat.le_trans (by decide) hR1, Nat.le_trans (by decide) hR2⟩ ⟨Nat.zero_le _, Nat.zero_le _⟩ (Nat.le_of_ble_eq_true rfl) dX12_turn_5 (fun H locs w => ?_)
  refine lv_aload_n (pc := 8) hx hb dX12_turn_8 rfl (lv_at hl 0 rfl) ?_
  refine lv_aload_n (pc := 9) hx hb dX12_turn_9 rfl (lv_at hl 0 rfl) ?_
  refine lv_iload_n (pc := 10) hx hb dX12_turn_10 rfl (lv_at hl 1 rfl) ?_
  refine lv_iload_n (pc := 11) hx hb dX12_turn_11 rfl (lv_at hl 2 rfl) ?_
  obtain ⟨r4, S3, hc, h⟩ := bnd_t h
  refine s_cvi (pc := 12) [.int a1, .int a2] (fun ad => [.ref (ad 14), .int a1, .int a2]) F w (m_X12_missTurn _ _ _ _ _ hc) rfl rfl hl.1 ds_14 vc_X12 rfl ok_X12_missTurn rfl kc_X12_missTurn kl_X12_358 ki_X12_missTurn kv_X12_missTurn kn_X12 ⟨Nat.le_trans (by decide) hR1, Nat.le_trans (by decide) hR2⟩ ⟨Nat.zero_le _, Nat.zero_le _⟩ (Nat.le_of_ble_eq_true rfl) dX12_turn_12 (fun H locs w => ?_)
  obtain ⟨r6, S5, hc, h⟩ := bnd_t h
  refine s_cvi (pc := 15) [.int r4] (fun ad => [.ref (ad 14), .int r4]) F w (m_X12_ends _ _ _ _ hc) rfl rfl hl.1 ds_14 vc_X12 rfl ok_X12_ends rfl kc_X12_ends kl_X12_236 ki_X12_ends kv_X12_ends kn_X12 ⟨Nat.le_trans (by decide) hR1, Nat.le_trans (by decide) hR2⟩ ⟨Nat.zero_le _, Nat.zero_le _⟩ (Nat.le_of_ble_eq_true rfl) dX12_turn_15 (fun H locs w => ?_)
  refine lv_if_eq (pc := 18) (tgt := 29) hx hb dX12_turn_18 (by decide) (fun q => ?_) (fun q => ?_)
  · have h := ite_t q h
    refine lv_aload_n (pc := 29) hx hb dX12_turn_29 rfl (lv_at hl 0 rfl) ?_
    refine s_getR (pc := 30) F w 77 ds_14 (j := 17) vc_X12 vi_X12 rfl (by decide) kf_X12_45 dX12_turn_30 ?_
    refine lv_iload_n (pc := 33) hx hb dX12_turn_33 rfl (lv_at hl 1 rfl) ?_
    refine s_iald (pc := 34) F w ds_77 h dX12_turn_34 (fun h => ?_)
    refine s_nm h (fun z7 ez7 h => ?_)
    rw [← ez7]
    refine lv_istore_n (pc := 35) (lv' := [(3, .int z7), (0, .ref (ad 14)), (1, .int a1), (2, .int a2)]) hx hb dX12_turn_35 rfl hl (by decide) rfl (fun ls hl => ?_)
    refine lv_aload_n (pc := 36) hx hb dX12_turn_36 rfl (lv_at hl 1 rfl) ?_
    refine s_getR (pc := 37) F w 77 ds_14 (j := 17) vc_X12 vi_X12 rfl (by decide) kf_X12_45 dX12_turn_37 ?_
    refine lv_iload_n (pc := 40) hx hb dX12_turn_40 rfl (lv_at hl 2 rfl) ?_
    refine lv_iload_n (pc := 41) hx hb dX12_turn_41 rfl (lv_at hl 3 rfl) ?_
    refine s_iast (pc := 42) F w ds_77 h dX12_turn_42 (fun S8 H locs h w => ?_)
    refine lv_aload_n (pc := 43) hx hb dX12_turn_43 rfl (lv_at hl 1 rfl) ?_
    refine lv_iconst (pc := 44) (v := 3) hx hb dX12_turn_44 (by decide) ?_
    refine lv_iload_n (pc := 45) hx hb dX12_turn_45 rfl (lv_at hl 0 rfl) ?_
    obtain ⟨r10, S9, hc, h⟩ := bnd_t h
    refine s_cvi (pc := 46) [.int (3 : Int32), .int z7] (fun ad => [.ref (ad 14), .int (3 : Int32), .int z7]) F w (m_X12_entered _ _ _ _ _ hc) rfl rfl hl.1 ds_14 vc_X12 rfl ok_X12_entered rfl kc_X12_entered kl_X12_349 ki_X12_entered kv_X12_entered kn_X12 ⟨Nat.le_trans (by decide) hR1, Nat.le_trans (by decide) hR2⟩ ⟨Nat.zero_le _, Nat.zero_le _⟩ (Nat.le_of_ble_eq_true rfl) dX12_turn_46 (fun H locs w => ?_)
    exact s_iret F w h dX12_turn_49
  · have h := ite_f q h
    refine lv_aload_n (pc := 21) hx hb dX12_turn_21 rfl (lv_at hl 0 rfl) ?_
    refine lv_iconst (pc := 22) (v := 3) hx hb dX12_turn_22 (by decide) ?_
    refine lv_bipush (pc := 23) (v := -2) hx hb dX12_turn_23 (by decide) ?_
    obtain ⟨r12, S11, hc, h⟩ := bnd_t h
    refine s_cvi (pc := 25) [.int (3 : Int32), .int (-2 : Int32)] (fun ad => [.ref (ad 14), .int (3 : Int32), .int (-2 : Int32)]) F w (m_X12_entered _ _ _ _ _ hc) rfl rfl hl.1 ds_14 vc_X12 rfl ok_X12_entered rfl kc_X12_entered kl_X12_349 ki_X12_entered kv_X12_entered kn_X12 ⟨Nat.le_trans (by decide) hR1, Nat.le_trans (by decide) hR2⟩ ⟨Nat.zero_le _, Nat.zero_le _⟩ (Nat.le_of_ble_eq_true rfl) dX12_turn_25 (fun H locs w => ?_)
    exact s_iret F w h dX12_turn_28
def f_X6_lockFinding (a1 : Int32) (a2 : Int32) (S : SS) : Option (Int32 × SS) :=
  bnd (f_X8_locker a1 S) (fun r2 S1 =>
  if r2 = (-4 : Int32) then
    bnd (f_X6_hasLink a1 a2 S1) (fun r4 S3 =>
    if r4 = 0 then
      some ((3 : Int32), S3)
    else
      bnd (f_X8_setting a1 S3) (fun r6 S5 =>
      if r6 = a2 then
        some ((0 : Int32), S5)
      else
        bnd (f_X6_isUnder a1 S5) (fun r8 S7 =>
        if r8 = 0 then
          some ((0 : Int32), S7)
        else
          some ((12 : Int32), S7))))
  else
    bnd (f_X8_locker a1 S1) (fun r10 S9 =>
    bnd (f_X6_lockedFinding r10 S9) (fun r12 S11 =>
    some (r12, S11))))
theorem dX6_lockFinding_0 : decode cX6_lockFinding 0 = .ok (.aload_n 0, 1) := by decide +kernel
theorem dX6_lockFinding_1 : decode cX6_lockFinding 1 = .ok (.getfield 31, 3) := by decide +kernel
theorem dX6_lockFinding_4 : decode cX6_lockFinding 4 = .ok (.iload_n 1, 1) := by decide +kernel
theorem dX6_lockFinding_5 : decode cX6_lockFinding 5 = .ok (.invokevirtual 58, 3) := by decide +kernel
theorem dX6_lockFinding_8 : decode cX6_lockFinding 8 = .ok (.bipush (-4), 2) := by decide +kernel
theorem dX6_lockFinding_10 : decode cX6_lockFinding 10 = .ok (.if_icmp .eq 16, 3) := by decide +kernel
theorem dX6_lockFinding_13 : decode cX6_lockFinding 13 = .ok (.aload_n 0, 1) := by decide +kernel
theorem dX6_lockFinding_14 : decode cX6_lockFinding 14 = .ok (.aload_n 0, 1) := by decide +kernel
theorem dX6_lockFinding_15 : decode cX6_lockFinding 15 = .ok (.getfield 31, 3) := by decide +kernel
theorem dX6_lockFinding_18 : decode cX6_lockFinding 18 = .ok (.iload_n 1, 1) := by decide +kernel
theorem dX6_lockFinding_19 : decode cX6_lockFinding 19 = .ok (.invokevirtual 58, 3) := by decide +kernel
theorem dX6_lockFinding_22 : decode cX6_lockFinding 22 = .ok (.invokevirtual 50, 3) := by decide +kernel
theorem dX6_lockFinding_25 : decode cX6_lockFinding 25 = .ok (.ireturn, 1) := by decide +kernel
theorem dX6_lockFinding_26 : decode cX6_lockFinding 26 = .ok (.aload_n 0, 1) := by decide +kernel
theorem dX6_lockFinding_27 : decode cX6_lockFinding 27 = .ok (.iload_n 1, 1) := by decide +kernel
theorem dX6_lockFinding_28 : decode cX6_lockFinding 28 = .ok (.iload_n 2, 1) := by decide +kernel
theorem dX6_lockFinding_29 : decode cX6_lockFinding 29 = .ok (.invokevirtual 78, 3) := by decide +kernel
theorem dX6_lockFinding_32 : decode cX6_lockFinding 32 = .ok (.ifCond .ne 5, 3) := by decide +kernel
theorem dX6_lockFinding_35 : decode cX6_lockFinding 35 = .ok (.iconst 3, 1) := by decide +kernel
theorem dX6_lockFinding_36 : decode cX6_lockFinding 36 = .ok (.ireturn, 1) := by decide +kernel
theorem dX6_lockFinding_37 : decode cX6_lockFinding 37 = .ok (.aload_n 0, 1) := by decide +kernel
theorem dX6_lockFinding_38 : decode cX6_lockFinding 38 = .ok (.getfield 31, 3) := by decide +kernel
theorem dX6_lockFinding_41 : decode cX6_lockFinding 41 = .ok (.iload_n 1, 1) := by decide +kernel
theorem dX6_lockFinding_42 : decode cX6_lockFinding 42 = .ok (.invokevirtual 82, 3) := by decide +kernel
theorem dX6_lockFinding_45 : decode cX6_lockFinding 45 = .ok (.iload_n 2, 1) := by decide +kernel
theorem dX6_lockFinding_46 : decode cX6_lockFinding 46 = .ok (.if_icmp .eq 16, 3) := by decide +kernel
theorem dX6_lockFinding_49 : decode cX6_lockFinding 49 = .ok (.aload_n 0, 1) := by decide +kernel
theorem dX6_lockFinding_50 : decode cX6_lockFinding 50 = .ok (.iload_n 1, 1) := by decide +kernel
theorem dX6_lockFinding_51 : decode cX6_lockFinding 51 = .ok (.invokevirtual 95, 3) := by decide +kernel
theorem dX6_lockFinding_54 : decode cX6_lockFinding 54 = .ok (.ifCond .eq 8, 3) := by decide +kernel
theorem dX6_lockFinding_57 : decode cX6_lockFinding 57 = .ok (.bipush 12, 2) := by decide +kernel
theorem dX6_lockFinding_59 : decode cX6_lockFinding 59 = .ok (.goto 4, 3) := by decide +kernel
theorem dX6_lockFinding_62 : decode cX6_lockFinding 62 = .ok (.iconst 0, 1) := by decide +kernel
theorem dX6_lockFinding_63 : decode cX6_lockFinding 63 = .ok (.ireturn, 1) := by decide +kernel
set_option maxRecDepth 100000 in
set_option maxHeartbeats 4000000 in
theorem m_X6_lockFinding (a1 : Int32) (a2 : Int32) (S S' : SS) (r : Int32) (h : f_X6_lockFinding a1 a2 S = some (r, S')) : MT yX6_lockFinding cX6_lockFinding 3 (some .int) 3 65 (fun ad => [.ref (ad 6), .int a1, .int a2]) S (some (.int r)) S' := by
  refine MT.of RX6 (fun ad => [(0, .ref (ad 6)), (1, .int a1), (2, .int a2)]) (by decide) rfl (fun _ => Nat.le_of_ble_eq_true rfl) (fun _ => rfl) ?_
  intro p l e R s m args below meth c dC dI cs ad A hR1 hR2 F H locs ls w hl
  have hx := F.1.1
  have hb := F.1.2.1
  rw [f_X6_lockFinding] at h
  refine lv_aload_n (pc := 0) hx hb dX6_lockFinding_0 rfl (lv_at hl 0 rfl) ?_
  refine s_getR (pc := 1) F w 2 ds_6 (j := 0) vc_X6 vi_X6 rfl (by decide) kf_X6_31 dX6_lockFinding_1 ?_
  refine lv_iload_n (pc := 4) hx hb dX6_lockFinding_4 rfl (lv_at hl 1 rfl) ?_
  obtain ⟨r2, S1, hc, h⟩ := bnd_t h
  refine s_cvi (pc := 5) [.int a1] (fun ad => [.ref (ad 2), .int a1]) F w (m_X8_locker _ _ _ _ hc) rfl rfl hl.1 ds_2 vc_X8 rfl ok_X8_locker rfl kc_X8_locker kl_X6_58 ki_X8_locker kv_X8_locker kn_X8 ⟨Nat.le_trans (by decide) hR1, Nat.le_trans (by decide) hR2⟩ ⟨Nat.zero_le _, Nat.zero_le _⟩ (Nat.le_of_ble_eq_true rfl) dX6_lockFinding_5 (fun H locs w => ?_)
  refine lv_bipush (pc := 8) (v := -4) hx hb dX6_lockFinding_8 (by decide) ?_
  refine lv_icmp_eq (pc := 10) (tgt := 26) hx hb dX6_lockFinding_10 (by decide) (fun q => ?_) (fun q => ?_)
  · have h := ite_t q h
    refine lv_aload_n (pc := 26) hx hb dX6_lockFinding_26 rfl (lv_at hl 0 rfl) ?_
    refine lv_iload_n (pc := 27) hx hb dX6_lockFinding_27 rfl (lv_at hl 1 rfl) ?_
    refine lv_iload_n (pc := 28) hx hb dX6_lockFinding_28 rfl (lv_at hl 2 rfl) ?_
    obtain ⟨r4, S3, hc, h⟩ := bnd_t h
    refine s_cvi (pc := 29) [.int a1, .int a2] (fun ad => [.ref (ad 6), .int a1, .int a2]) F w (m_X6_hasLink _ _ _ _ _ hc) rfl rfl hl.1 ds_6 vc_X6 rfl ok_X6_hasLink rfl kc_X6_hasLink kl_X6_78 ki_X6_hasLink kv_X6_hasLink kn_X6 ⟨Nat.le_trans (by decide) hR1, Nat.le_trans (by decide) hR2⟩ ⟨Nat.zero_le _, Nat.zero_le _⟩ (Nat.le_of_ble_eq_true rfl) dX6_lockFinding_29 (fun H locs w => ?_)
    refine lv_if_ne (pc := 32) (tgt := 37) hx hb dX6_lockFinding_32 (by decide) (fun q => ?_) (fun q => ?_)
    · have h := ite_f q h
      refine lv_aload_n (pc := 37) hx hb dX6_lockFinding_37 rfl (lv_at hl 0 rfl) ?_
      refine s_getR (pc := 38) F w 2 ds_6 (j := 0) vc_X6 vi_X6 rfl (by decide) kf_X6_31 dX6_lockFinding_38 ?_
      refine lv_iload_n (pc := 41) hx hb dX6_lockFinding_41 rfl (lv_at hl 1 rfl) ?_
      obtain ⟨r6, S5, hc, h⟩ := bnd_t h
      refine s_cvi (pc := 42) [.int a1] (fun ad => [.ref (ad 2), .int a1]) F w (m_X8_setting _ _ _ _ hc) rfl rfl hl.1 ds_2 vc_X8 rfl ok_X8_setting rfl kc_X8_setting kl_X6_82 ki_X8_setting kv_X8_setting kn_X8 ⟨Nat.le_trans (by decide) hR1, Nat.le_trans (by decide) hR2⟩ ⟨Nat.zero_le _, Nat.zero_le _⟩ (Nat.le_of_ble_eq_true rfl) dX6_lockFinding_42 (fun H locs w => ?_)
      refine lv_iload_n (pc := 45) hx hb dX6_lockFinding_45 rfl (lv_at hl 2 rfl) ?_
      refine lv_icmp_eq (pc := 46) (tgt := 62) hx hb dX6_lockFinding_46 (by decide) (fun q => ?_) (fun q => ?_)
      · have h := ite_t q h
        refine lv_iconst (pc := 62) (v := 0) hx hb dX6_lockFinding_62 (by decide) ?_
        exact s_iret F w h dX6_lockFinding_63
      · have h := ite_f q h
        refine lv_aload_n (pc := 49) hx hb dX6_lockFinding_49 rfl (lv_at hl 0 rfl) ?_
        refine lv_iload_n (pc := 50) hx hb dX6_lockFinding_50 rfl (lv_at hl 1 rfl) ?_
        obtain ⟨r8, S7, hc, h⟩ := bnd_t h
        refine s_cvi (pc := 51) [.int a1] (fun ad => [.ref (ad 6), .int a1]) F w (m_X6_isUnder _ _ _ _ hc) rfl rfl hl.1 ds_6 vc_X6 rfl ok_X6_isUnder rfl kc_X6_isUnder kl_X6_95 ki_X6_isUnder kv_X6_isUnder kn_X6 ⟨Nat.le_trans (by decide) hR1, Nat.le_trans (by decide) hR2⟩ ⟨Nat.zero_le _, Nat.zero_le _⟩ (Nat.le_of_ble_eq_true rfl) dX6_lockFinding_51 (fun H locs w => ?_)
        refine lv_if_eq (pc := 54) (tgt := 62) hx hb dX6_lockFinding_54 (by decide) (fun q => ?_) (fun q => ?_)
        · have h := ite_t q h
          refine lv_iconst (pc := 62) (v := 0) hx hb dX6_lockFinding_62 (by decide) ?_
          exact s_iret F w h dX6_lockFinding_63
        · have h := ite_f q h
          refine lv_bipush (pc := 57) (v := 12) hx hb dX6_lockFinding_57 (by decide) ?_
          refine lv_goto (pc := 59) (tgt := 63) hx hb dX6_lockFinding_59 (by decide) ?_
          exact s_iret F w h dX6_lockFinding_63
    · have h := ite_t q h
      refine lv_iconst (pc := 35) (v := 3) hx hb dX6_lockFinding_35 (by decide) ?_
      exact s_iret F w h dX6_lockFinding_36
  · have h := ite_f q h
    refine lv_aload_n (pc := 13) hx hb dX6_lockFinding_13 rfl (lv_at hl 0 rfl) ?_
    refine lv_aload_n (pc := 14) hx hb dX6_lockFinding_14 rfl (lv_at hl 0 rfl) ?_
    refine s_getR (pc := 15) F w 2 ds_6 (j := 0) vc_X6 vi_X6 rfl (by decide) kf_X6_31 dX6_lockFinding_15 ?_
    refine lv_iload_n (pc := 18) hx hb dX6_lockFinding_18 rfl (lv_at hl 1 rfl) ?_
    obtain ⟨r10, S9, hc, h⟩ := bnd_t h
    refine s_cvi (pc := 19) [.int a1] (fun ad => [.ref (ad 2), .int a1]) F w (m_X8_locker _ _ _ _ hc) rfl rfl hl.1 ds_2 vc_X8 rfl ok_X8_locker rfl kc_X8_locker kl_X6_58 ki_X8_locker kv_X8_locker kn_X8 ⟨Nat.le_trans (by decide) hR1, Nat.le_trans (by decide) hR2⟩ ⟨Nat.zero_le _, Nat.zero_le _⟩ (Nat.le_of_ble_eq_true rfl) dX6_lockFinding_19 (fun H locs w => ?_)
    obtain ⟨r12, S11, hc, h⟩ := bnd_t h
    refine s_cvi (pc := 22) [.int r10] (fun ad => [.ref (ad 6), .int r10]) F w (m_X6_lockedFinding _ _ _ _ hc) rfl rfl hl.1 ds_6 vc_X6 rfl ok_X6_lockedFinding rfl kc_X6_lockedFinding kl_X6_50 ki_X6_lockedFinding kv_X6_lockedFinding kn_X6 ⟨Nat.le_trans (by decide) hR1, Nat.le_trans (by decide) hR2⟩ ⟨Nat.zero_le _, Nat.zero_le _⟩ (Nat.le_of_ble_eq_true rfl) dX6_lockFinding_22 (fun H locs w => ?_)
    exact s_iret F w h dX6_lockFinding_25
def f_X6_giveBack_L2  : Nat → Int32 → Int32 → Int32 → SS → Option (SS)
  | 0, _, _, _, _ => none
  | n + 1, x1, x2, x3, S =>
    if x2 ≤ x3 then
      some S
    else
      grd (inb (x1 + x3) 96) (
      grd (inb x3 8) (
      bndv (f_X8_setPoint (S.1 40 (x1 + x3).toNatClampNeg) (S.1 43 x3.toNatClampNeg) (-4 : Int32) S) (fun S1 =>
      nm (x3 + (1 : Int32)) (fun z2 =>
      f_X6_giveBack_L2 n x1 x2 z2 S1))))
def f_X6_giveBack (a1 : Int32) (a2 : Int32) (S : SS) : Option (SS) :=
  f_X6_giveBack_L2 NF a1 a2 (0 : Int32) S
theorem dX6_giveBack_0 : decode cX6_giveBack 0 = .ok (.iconst 0, 1) := by decide +kernel
theorem dX6_giveBack_1 : decode cX6_giveBack 1 = .ok (.istore_n 3, 1) := by decide +kernel
theorem dX6_giveBack_2 : decode cX6_giveBack 2 = .ok (.iload_n 3, 1) := by decide +kernel
theorem dX6_giveBack_3 : decode cX6_giveBack 3 = .ok (.iload_n 2, 1) := by decide +kernel
theorem dX6_giveBack_4 : decode cX6_giveBack 4 = .ok (.if_icmp .ge 32, 3) := by decide +kernel
theorem dX6_giveBack_7 : decode cX6_giveBack 7 = .ok (.aload_n 0, 1) := by decide +kernel
theorem dX6_giveBack_8 : decode cX6_giveBack 8 = .ok (.getfield 31, 3) := by decide +kernel
theorem dX6_giveBack_11 : decode cX6_giveBack 11 = .ok (.aload_n 0, 1) := by decide +kernel
theorem dX6_giveBack_12 : decode cX6_giveBack 12 = .ok (.getfield 15, 3) := by decide +kernel
theorem dX6_giveBack_15 : decode cX6_giveBack 15 = .ok (.iload_n 1, 1) := by decide +kernel
theorem dX6_giveBack_16 : decode cX6_giveBack 16 = .ok (.iload_n 3, 1) := by decide +kernel
theorem dX6_giveBack_17 : decode cX6_giveBack 17 = .ok (.iadd, 1) := by decide +kernel
theorem dX6_giveBack_18 : decode cX6_giveBack 18 = .ok (.iaload, 1) := by decide +kernel
theorem dX6_giveBack_19 : decode cX6_giveBack 19 = .ok (.aload_n 0, 1) := by decide +kernel
theorem dX6_giveBack_20 : decode cX6_giveBack 20 = .ok (.getfield 24, 3) := by decide +kernel
theorem dX6_giveBack_23 : decode cX6_giveBack 23 = .ok (.iload_n 3, 1) := by decide +kernel
theorem dX6_giveBack_24 : decode cX6_giveBack 24 = .ok (.iaload, 1) := by decide +kernel
theorem dX6_giveBack_25 : decode cX6_giveBack 25 = .ok (.bipush (-4), 2) := by decide +kernel
theorem dX6_giveBack_27 : decode cX6_giveBack 27 = .ok (.invokevirtual 91, 3) := by decide +kernel
theorem dX6_giveBack_30 : decode cX6_giveBack 30 = .ok (.iinc 3 1, 3) := by decide +kernel
theorem dX6_giveBack_33 : decode cX6_giveBack 33 = .ok (.goto (-31), 3) := by decide +kernel
theorem dX6_giveBack_36 : decode cX6_giveBack 36 = .ok (.return_, 1) := by decide +kernel
set_option maxRecDepth 100000 in
set_option maxHeartbeats 4000000 in
theorem w_X6_giveBack_L2 {p : Program} {l : Launch} {e : Env} {R : Room} {s : State} {m : MethodId} {args : Array Value} {below : List Frame} {meth : Method} {c : Code} {dC : Nat → ClassId} {dI : Nat → Nat → Nat} {cs : Nat → ClassId} {ad : Nat → Nat} {A : Nat → Prop} {D0 : Nat → Nat} {S' : SS} (F : Fx p s m args meth c cX6_giveBack 4 RX6 none dC dI cs A) (hR1 : 1 ≤ R.frames) (hR2 : 23 ≤ R.locals) : ∀ (n : Nat) (x1 : Int32) (x2 : Int32) (x3 : Int32) (S : SS), f_X6_giveBack_L2 n x1 x2 x3 S = some S' → AW p l e R s m args below meth c dC dI cs ad A D0 none S' 4 2 [(0, .ref (ad 6)), (1, .int x1), (2, .int x2), (3, .int x3)] [] S := by
  have hx := F.1.1
  have hb := F.1.2.1
  intro n
  induction n with
  | zero => intro x1 x2 x3 S h; cases h
  | succ n ih =>
    intro x1 x2 x3 S h H locs ls w hl
    rw [f_X6_giveBack_L2] at h
    refine lv_iload_n (pc := 2) hx hb dX6_giveBack_2 rfl (lv_at hl 3 rfl) ?_
    refine lv_iload_n (pc := 3) hx hb dX6_giveBack_3 rfl (lv_at hl 2 rfl) ?_
    refine lv_icmp_ge (pc := 4) (tgt := 36) hx hb dX6_giveBack_4 (by decide) (fun q => ?_) (fun q => ?_)
    · have h := ite_t q h
      exact s_vret F w h dX6_giveBack_36
    · have h := ite_f q h
      refine lv_aload_n (pc := 7) hx hb dX6_giveBack_7 rfl (lv_at hl 0 rfl) ?_
      refine s_getR (pc := 8) F w 2 ds_6 (j := 0) vc_X6 vi_X6 rfl (by decide) kf_X6_31 dX6_giveBack_8 ?_
      refine lv_aload_n (pc := 11) hx hb dX6_giveBack_11 rfl (lv_at hl 0 rfl) ?_
      refine s_getR (pc := 12) F w 40 ds_6 (j := 4) vc_X6 vi_X6 rfl (by decide) kf_X6_15 dX6_giveBack_12 ?_
      refine lv_iload_n (pc := 15) hx hb dX6_giveBack_15 rfl (lv_at hl 1 rfl) ?_
      refine lv_iload_n (pc := 16) hx hb dX6_giveBack_16 rfl (lv_at hl 3 rfl) ?_
      refine lv_iadd (pc := 17) hx hb dX6_giveBack_17 ?_
      refine s_iald (pc := 18) F w ds_40 h dX6_giveBack_18 (fun h => ?_)
      refine lv_aload_n (pc := 19) hx hb dX6_giveBack_19 rfl (lv_at hl 0 rfl) ?_
      refine s_getR (pc := 20) F w 43 ds_6 (j := 7) vc_X6 vi_X6 rfl (by decide) kf_X6_24 dX6_giveBack_20 ?_
      refine lv_iload_n (pc := 23) hx hb dX6_giveBack_23 rfl (lv_at hl 3 rfl) ?_
      refine s_iald (pc := 24) F w ds_43 h dX6_giveBack_24 (fun h => ?_)
      refine lv_bipush (pc := 25) (v := -4) hx hb dX6_giveBack_25 (by decide) ?_
      obtain ⟨S1, hc, h⟩ := bndv_t h
      refine s_cvv (pc := 27) [.int (S.1 40 (x1 + x3).toNatClampNeg), .int (S.1 43 x3.toNatClampNeg), .int (-4 : Int32)] (fun ad => [.ref (ad 2), .int (S.1 40 (x1 + x3).toNatClampNeg), .int (S.1 43 x3.toNatClampNeg), .int (-4 : Int32)]) F w (m_X8_setPoint _ _ _ _ _ hc) rfl rfl hl.1 ds_2 vc_X8 rfl ok_X8_setPoint rfl kc_X8_setPoint kl_X6_91 ki_X8_setPoint kv_X8_setPoint kn_X8 ⟨Nat.le_trans (by decide) hR1, Nat.le_trans (by decide) hR2⟩ ⟨Nat.zero_le _, Nat.zero_le _⟩ (Nat.le_of_ble_eq_true rfl) dX6_giveBack_27 (fun H locs w => ?_)
      refine s_nm h (fun z2 ez2 h => ?_)
      refine lv_iinc (pc := 30) (v := z2) (lv' := [(3, .int z2), (0, .ref (ad 6)), (1, .int x1), (2, .int x2)]) hx hb dX6_giveBack_30 hl (k := 3) rfl (by rw [ez2]; rfl) (by decide) rfl (fun ls hl => ?_)
      refine lv_goto (pc := 33) (tgt := 2) hx hb dX6_giveBack_33 (by decide) ?_
      exact ih _ _ _ _ h _ _ _ w (lv_sub hl [1, 2, 3, 0] rfl)
set_option maxRecDepth 100000 in
set_option maxHeartbeats 4000000 in
theorem m_X6_giveBack (a1 : Int32) (a2 : Int32) (S S' : SS) (h : f_X6_giveBack a1 a2 S = some S') : MT yX6_giveBack cX6_giveBack 4 none 1 23 (fun ad => [.ref (ad 6), .int a1, .int a2]) S none S' := by
  refine MT.of RX6 (fun ad => [(0, .ref (ad 6)), (1, .int a1), (2, .int a2)]) (by decide) rfl (fun _ => Nat.le_of_ble_eq_true rfl) (fun _ => rfl) ?_
  intro p l e R s m args below meth c dC dI cs ad A hR1 hR2 F H locs ls w hl
  have hx := F.1.1
  have hb := F.1.2.1
  rw [f_X6_giveBack] at h
  refine lv_iconst (pc := 0) (v := 0) hx hb dX6_giveBack_0 (by decide) ?_
  refine lv_istore_n (pc := 1) (lv' := [(3, .int (0 : Int32)), (0, .ref (ad 6)), (1, .int a1), (2, .int a2)]) hx hb dX6_giveBack_1 rfl hl (by decide) rfl (fun ls hl => ?_)
  exact w_X6_giveBack_L2 F (Nat.le_trans (by decide) hR1) (Nat.le_trans (by decide) hR2) _ _ _ _ _ h _ _ _ w (lv_sub hl [1, 2, 3, 0] rfl)
def f_X6_lockAll_L34  : Nat → Int32 → Int32 → Int32 → Int32 → SS → Option (Int32 × SS)
  | 0, _, _, _, _, _ => none
  | n + 1, x1, x3, x4, x5, S =>
    if x3 ≤ x5 then
      some (x3, S)
    else
      grd (inb (x4 + x5) 96) (
      nm (S.1 40 (x4 + x5).toNatClampNeg) (fun z6 =>
      grd (inb (x4 + x5) 96) (
      bnd (f_X6_lockFinding z6 (S.1 41 (x4 + x5).toNatClampNeg) S) (fun r8 S7 =>
      if r8 = 0 then
        bnd (f_X8_setting z6 S7) (fun r10 S9 =>
        grd (inb x5 8) (wr S9 43 x5.toNatClampNeg r10 (fun S11 =>
        grd (inb (x4 + x5) 96) (
        bndv (f_X8_setPoint z6 (S11.1 41 (x4 + x5).toNatClampNeg) x1 S11) (fun S12 =>
        nm (x5 + (1 : Int32)) (fun z13 =>
        f_X6_lockAll_L34 n x1 x3 x4 z13 S12))))))
      else
        bndv (f_X6_giveBack x4 x5 S7) (fun S14 =>
        bnd (f_X5_found r8 S14) (fun r16 S15 =>
        some (r16, S15)))))))
def f_X6_lockAll (a1 : Int32) (S : SS) : Option (Int32 × SS) :=
  bnd (f_X6_routeFinding a1 S) (fun r2 S1 =>
  if r2 = 0 then
    bnd (f_X6_entriesOf a1 S1) (fun r4 S3 =>
    nm ((8 : Int32) * a1) (fun z5 =>
    f_X6_lockAll_L34 NF a1 r4 z5 (0 : Int32) S3))
  else
    bnd (f_X5_found r2 S1) (fun r18 S17 =>
    some (r18, S17)))
theorem dX6_lockAll_0 : decode cX6_lockAll 0 = .ok (.aload_n 0, 1) := by decide +kernel
theorem dX6_lockAll_1 : decode cX6_lockAll 1 = .ok (.iload_n 1, 1) := by decide +kernel
theorem dX6_lockAll_2 : decode cX6_lockAll 2 = .ok (.invokevirtual 111, 3) := by decide +kernel
theorem dX6_lockAll_5 : decode cX6_lockAll 5 = .ok (.istore_n 2, 1) := by decide +kernel
theorem dX6_lockAll_6 : decode cX6_lockAll 6 = .ok (.iload_n 2, 1) := by decide +kernel
theorem dX6_lockAll_7 : decode cX6_lockAll 7 = .ok (.ifCond .eq 12, 3) := by decide +kernel
theorem dX6_lockAll_10 : decode cX6_lockAll 10 = .ok (.aload_n 0, 1) := by decide +kernel
theorem dX6_lockAll_11 : decode cX6_lockAll 11 = .ok (.getfield 39, 3) := by decide +kernel
theorem dX6_lockAll_14 : decode cX6_lockAll 14 = .ok (.iload_n 2, 1) := by decide +kernel
theorem dX6_lockAll_15 : decode cX6_lockAll 15 = .ok (.invokevirtual 88, 3) := by decide +kernel
theorem dX6_lockAll_18 : decode cX6_lockAll 18 = .ok (.ireturn, 1) := by decide +kernel
theorem dX6_lockAll_19 : decode cX6_lockAll 19 = .ok (.aload_n 0, 1) := by decide +kernel
theorem dX6_lockAll_20 : decode cX6_lockAll 20 = .ok (.iload_n 1, 1) := by decide +kernel
theorem dX6_lockAll_21 : decode cX6_lockAll 21 = .ok (.invokevirtual 43, 3) := by decide +kernel
theorem dX6_lockAll_24 : decode cX6_lockAll 24 = .ok (.istore_n 3, 1) := by decide +kernel
theorem dX6_lockAll_25 : decode cX6_lockAll 25 = .ok (.bipush 8, 2) := by decide +kernel
theorem dX6_lockAll_27 : decode cX6_lockAll 27 = .ok (.iload_n 1, 1) := by decide +kernel
theorem dX6_lockAll_28 : decode cX6_lockAll 28 = .ok (.imul, 1) := by decide +kernel
theorem dX6_lockAll_29 : decode cX6_lockAll 29 = .ok (.istore 4, 2) := by decide +kernel
theorem dX6_lockAll_31 : decode cX6_lockAll 31 = .ok (.iconst 0, 1) := by decide +kernel
theorem dX6_lockAll_32 : decode cX6_lockAll 32 = .ok (.istore 5, 2) := by decide +kernel
theorem dX6_lockAll_34 : decode cX6_lockAll 34 = .ok (.iload 5, 2) := by decide +kernel
theorem dX6_lockAll_36 : decode cX6_lockAll 36 = .ok (.iload_n 3, 1) := by decide +kernel
theorem dX6_lockAll_37 : decode cX6_lockAll 37 = .ok (.if_icmp .ge 95, 3) := by decide +kernel
theorem dX6_lockAll_40 : decode cX6_lockAll 40 = .ok (.aload_n 0, 1) := by decide +kernel
theorem dX6_lockAll_41 : decode cX6_lockAll 41 = .ok (.getfield 15, 3) := by decide +kernel
theorem dX6_lockAll_44 : decode cX6_lockAll 44 = .ok (.iload 4, 2) := by decide +kernel
theorem dX6_lockAll_46 : decode cX6_lockAll 46 = .ok (.iload 5, 2) := by decide +kernel
theorem dX6_lockAll_48 : decode cX6_lockAll 48 = .ok (.iadd, 1) := by decide +kernel
theorem dX6_lockAll_49 : decode cX6_lockAll 49 = .ok (.iaload, 1) := by decide +kernel
theorem dX6_lockAll_50 : decode cX6_lockAll 50 = .ok (.istore 6, 2) := by decide +kernel
theorem dX6_lockAll_52 : decode cX6_lockAll 52 = .ok (.aload_n 0, 1) := by decide +kernel
theorem dX6_lockAll_53 : decode cX6_lockAll 53 = .ok (.iload 6, 2) := by decide +kernel
theorem dX6_lockAll_55 : decode cX6_lockAll 55 = .ok (.aload_n 0, 1) := by decide +kernel
theorem dX6_lockAll_56 : decode cX6_lockAll 56 = .ok (.getfield 18, 3) := by decide +kernel
theorem dX6_lockAll_59 : decode cX6_lockAll 59 = .ok (.iload 4, 2) := by decide +kernel
theorem dX6_lockAll_61 : decode cX6_lockAll 61 = .ok (.iload 5, 2) := by decide +kernel
theorem dX6_lockAll_63 : decode cX6_lockAll 63 = .ok (.iadd, 1) := by decide +kernel
theorem dX6_lockAll_64 : decode cX6_lockAll 64 = .ok (.iaload, 1) := by decide +kernel
theorem dX6_lockAll_65 : decode cX6_lockAll 65 = .ok (.invokevirtual 114, 3) := by decide +kernel
theorem dX6_lockAll_68 : decode cX6_lockAll 68 = .ok (.istore_n 2, 1) := by decide +kernel
theorem dX6_lockAll_69 : decode cX6_lockAll 69 = .ok (.iload_n 2, 1) := by decide +kernel
theorem dX6_lockAll_70 : decode cX6_lockAll 70 = .ok (.ifCond .eq 20, 3) := by decide +kernel
theorem dX6_lockAll_73 : decode cX6_lockAll 73 = .ok (.aload_n 0, 1) := by decide +kernel
theorem dX6_lockAll_74 : decode cX6_lockAll 74 = .ok (.iload 4, 2) := by decide +kernel
theorem dX6_lockAll_76 : decode cX6_lockAll 76 = .ok (.iload 5, 2) := by decide +kernel
theorem dX6_lockAll_78 : decode cX6_lockAll 78 = .ok (.invokevirtual 118, 3) := by decide +kernel
theorem dX6_lockAll_81 : decode cX6_lockAll 81 = .ok (.aload_n 0, 1) := by decide +kernel
theorem dX6_lockAll_82 : decode cX6_lockAll 82 = .ok (.getfield 39, 3) := by decide +kernel
theorem dX6_lockAll_85 : decode cX6_lockAll 85 = .ok (.iload_n 2, 1) := by decide +kernel
theorem dX6_lockAll_86 : decode cX6_lockAll 86 = .ok (.invokevirtual 88, 3) := by decide +kernel
theorem dX6_lockAll_89 : decode cX6_lockAll 89 = .ok (.ireturn, 1) := by decide +kernel
theorem dX6_lockAll_90 : decode cX6_lockAll 90 = .ok (.aload_n 0, 1) := by decide +kernel
theorem dX6_lockAll_91 : decode cX6_lockAll 91 = .ok (.getfield 24, 3) := by decide +kernel
theorem dX6_lockAll_94 : decode cX6_lockAll 94 = .ok (.iload 5, 2) := by decide +kernel
theorem dX6_lockAll_96 : decode cX6_lockAll 96 = .ok (.aload_n 0, 1) := by decide +kernel
theorem dX6_lockAll_97 : decode cX6_lockAll 97 = .ok (.getfield 31, 3) := by decide +kernel
theorem dX6_lockAll_100 : decode cX6_lockAll 100 = .ok (.iload 6, 2) := by decide +kernel
theorem dX6_lockAll_102 : decode cX6_lockAll 102 = .ok (.invokevirtual 82, 3) := by decide +kernel
theorem dX6_lockAll_105 : decode cX6_lockAll 105 = .ok (.iastore, 1) := by decide +kernel
theorem dX6_lockAll_106 : decode cX6_lockAll 106 = .ok (.aload_n 0, 1) := by decide +kernel
theorem dX6_lockAll_107 : decode cX6_lockAll 107 = .ok (.getfield 31, 3) := by decide +kernel
theorem dX6_lockAll_110 : decode cX6_lockAll 110 = .ok (.iload 6, 2) := by decide +kernel
theorem dX6_lockAll_112 : decode cX6_lockAll 112 = .ok (.aload_n 0, 1) := by decide +kernel
theorem dX6_lockAll_113 : decode cX6_lockAll 113 = .ok (.getfield 18, 3) := by decide +kernel
theorem dX6_lockAll_116 : decode cX6_lockAll 116 = .ok (.iload 4, 2) := by decide +kernel
theorem dX6_lockAll_118 : decode cX6_lockAll 118 = .ok (.iload 5, 2) := by decide +kernel
theorem dX6_lockAll_120 : decode cX6_lockAll 120 = .ok (.iadd, 1) := by decide +kernel
theorem dX6_lockAll_121 : decode cX6_lockAll 121 = .ok (.iaload, 1) := by decide +kernel
theorem dX6_lockAll_122 : decode cX6_lockAll 122 = .ok (.iload_n 1, 1) := by decide +kernel
theorem dX6_lockAll_123 : decode cX6_lockAll 123 = .ok (.invokevirtual 91, 3) := by decide +kernel
theorem dX6_lockAll_126 : decode cX6_lockAll 126 = .ok (.iinc 5 1, 3) := by decide +kernel
theorem dX6_lockAll_129 : decode cX6_lockAll 129 = .ok (.goto (-95), 3) := by decide +kernel
theorem dX6_lockAll_132 : decode cX6_lockAll 132 = .ok (.iload_n 3, 1) := by decide +kernel
theorem dX6_lockAll_133 : decode cX6_lockAll 133 = .ok (.ireturn, 1) := by decide +kernel
set_option maxRecDepth 100000 in
set_option maxHeartbeats 4000000 in
theorem w_X6_lockAll_L34 {p : Program} {l : Launch} {e : Env} {R : Room} {s : State} {m : MethodId} {args : Array Value} {below : List Frame} {meth : Method} {c : Code} {dC : Nat → ClassId} {dI : Nat → Nat → Nat} {cs : Nat → ClassId} {ad : Nat → Nat} {A : Nat → Prop} {D0 : Nat → Nat} {S' : SS} {r : Int32} (F : Fx p s m args meth c cX6_lockAll 7 RX6 (some .int) dC dI cs A) (hR1 : 4 ≤ R.frames) (hR2 : 87 ≤ R.locals) : ∀ (n : Nat) (x1 : Int32) (x3 : Int32) (x4 : Int32) (x5 : Int32) (S : SS), f_X6_lockAll_L34 n x1 x3 x4 x5 S = some (r, S') → AW p l e R s m args below meth c dC dI cs ad A D0 (some (.int r)) S' 7 34 [(0, .ref (ad 6)), (1, .int x1), (3, .int x3), (4, .int x4), (5, .int x5)] [] S := by
  have hx := F.1.1
  have hb := F.1.2.1
  intro n
  induction n with
  | zero => intro x1 x3 x4 x5 S h; cases h
  | succ n ih =>
    intro x1 x3 x4 x5 S h H locs ls w hl
    rw [f_X6_lockAll_L34] at h
    refine lv_iload (pc := 34) hx hb dX6_lockAll_34 (lv_at hl 4 rfl) ?_
    refine lv_iload_n (pc := 36) hx hb dX6_lockAll_36 rfl (lv_at hl 2 rfl) ?_
    refine lv_icmp_ge (pc := 37) (tgt := 132) hx hb dX6_lockAll_37 (by decide) (fun q => ?_) (fun q => ?_)
    · have h := ite_t q h
      refine lv_iload_n (pc := 132) hx hb dX6_lockAll_132 rfl (lv_at hl 2 rfl) ?_
      exact s_iret F w h dX6_lockAll_133
    · have h := ite_f q h
      refine lv_aload_n (pc := 40) hx hb dX6_lockAll_40 rfl (lv_at hl 0 rfl) ?_
      refine s_getR (pc := 41) F w 40 ds_6 (j := 4) vc_X6 vi_X6 rfl (by decide) kf_X6_15 dX6_lockAll_41 ?_
      refine lv_iload (pc := 44) hx hb dX6_lockAll_44 (lv_at hl 3 rfl) ?_
      refine lv_iload (pc := 46) hx hb dX6_lockAll_46 (lv_at hl 4 rfl) ?_
      refine lv_iadd (pc := 48) hx hb dX6_lockAll_48 ?_
      refine s_iald (pc := 49) F w ds_40 h dX6_lockAll_49 (fun h => ?_)
      refine s_nm h (fun z6 ez6 h => ?_)
      rw [← ez6]
      refine lv_istore (pc := 50) (lv' := [(6, .int z6), (0, .ref (ad 6)), (1, .int x1), (3, .int x3), (4, .int x4), (5, .int x5)]) hx hb dX6_lockAll_50 hl (by decide) rfl (fun ls hl => ?_)
      refine lv_aload_n (pc := 52) hx hb dX6_lockAll_52 rfl (lv_at hl 1 rfl) ?_
      refine lv_iload (pc := 53) hx hb dX6_lockAll_53 (lv_at hl 0 rfl) ?_
      refine lv_aload_n (pc := 55) hx hb dX6_lockAll_55 rfl (lv_at hl 1 rfl) ?_
      refine s_getR (pc := 56) F w 41 ds_6 (j := 5) vc_X6 vi_X6 rfl (by decide) kf_X6_18 dX6_lockAll_56 ?_
      refine lv_iload (pc := 59) hx hb dX6_lockAll_59 (lv_at hl 4 rfl) ?_
      refine lv_iload (pc := 61) hx hb dX6_lockAll_61 (lv_at hl 5 rfl) ?_
      refine lv_iadd (pc := 63) hx hb dX6_lockAll_63 ?_
      refine s_iald (pc := 64) F w ds_41 h dX6_lockAll_64 (fun h => ?_)
      obtain ⟨r8, S7, hc, h⟩ := bnd_t h
      refine s_cvi (pc := 65) [.int z6, .int (S.1 41 (x4 + x5).toNatClampNeg)] (fun ad => [.ref (ad 6), .int z6, .int (S.1 41 (x4 + x5).toNatClampNeg)]) F w (m_X6_lockFinding _ _ _ _ _ hc) rfl rfl hl.1 ds_6 vc_X6 rfl ok_X6_lockFinding rfl kc_X6_lockFinding kl_X6_114 ki_X6_lockFinding kv_X6_lockFinding kn_X6 ⟨Nat.le_trans (by decide) hR1, Nat.le_trans (by decide) hR2⟩ ⟨Nat.zero_le _, Nat.zero_le _⟩ (Nat.le_of_ble_eq_true rfl) dX6_lockAll_65 (fun H locs w => ?_)
      refine lv_istore_n (pc := 68) (lv' := [(2, .int r8), (6, .int z6), (0, .ref (ad 6)), (1, .int x1), (3, .int x3), (4, .int x4), (5, .int x5)]) hx hb dX6_lockAll_68 rfl hl (by decide) rfl (fun ls hl => ?_)
      refine lv_iload_n (pc := 69) hx hb dX6_lockAll_69 rfl (lv_at hl 0 rfl) ?_
      refine lv_if_eq (pc := 70) (tgt := 90) hx hb dX6_lockAll_70 (by decide) (fun q => ?_) (fun q => ?_)
      · have h := ite_t q h
        refine lv_aload_n (pc := 90) hx hb dX6_lockAll_90 rfl (lv_at hl 2 rfl) ?_
        refine s_getR (pc := 91) F w 43 ds_6 (j := 7) vc_X6 vi_X6 rfl (by decide) kf_X6_24 dX6_lockAll_91 ?_
        refine lv_iload (pc := 94) hx hb dX6_lockAll_94 (lv_at hl 6 rfl) ?_
        refine lv_aload_n (pc := 96) hx hb dX6_lockAll_96 rfl (lv_at hl 2 rfl) ?_
        refine s_getR (pc := 97) F w 2 ds_6 (j := 0) vc_X6 vi_X6 rfl (by decide) kf_X6_31 dX6_lockAll_97 ?_
        refine lv_iload (pc := 100) hx hb dX6_lockAll_100 (lv_at hl 1 rfl) ?_
        obtain ⟨r10, S9, hc, h⟩ := bnd_t h
        refine s_cvi (pc := 102) [.int z6] (fun ad => [.ref (ad 2), .int z6]) F w (m_X8_setting _ _ _ _ hc) rfl rfl hl.1 ds_2 vc_X8 rfl ok_X8_setting rfl kc_X8_setting kl_X6_82 ki_X8_setting kv_X8_setting kn_X8 ⟨Nat.le_trans (by decide) hR1, Nat.le_trans (by decide) hR2⟩ ⟨Nat.zero_le _, Nat.zero_le _⟩ (Nat.le_of_ble_eq_true rfl) dX6_lockAll_102 (fun H locs w => ?_)
        refine s_iast (pc := 105) F w ds_43 h dX6_lockAll_105 (fun S11 H locs h w => ?_)
        refine lv_aload_n (pc := 106) hx hb dX6_lockAll_106 rfl (lv_at hl 2 rfl) ?_
        refine s_getR (pc := 107) F w 2 ds_6 (j := 0) vc_X6 vi_X6 rfl (by decide) kf_X6_31 dX6_lockAll_107 ?_
        refine lv_iload (pc := 110) hx hb dX6_lockAll_110 (lv_at hl 1 rfl) ?_
        refine lv_aload_n (pc := 112) hx hb dX6_lockAll_112 rfl (lv_at hl 2 rfl) ?_
        refine s_getR (pc := 113) F w 41 ds_6 (j := 5) vc_X6 vi_X6 rfl (by decide) kf_X6_18 dX6_lockAll_113 ?_
        refine lv_iload (pc := 116) hx hb dX6_lockAll_116 (lv_at hl 5 rfl) ?_
        refine lv_iload (pc := 118) hx hb dX6_lockAll_118 (lv_at hl 6 rfl) ?_
        refine lv_iadd (pc := 120) hx hb dX6_lockAll_120 ?_
        refine s_iald (pc := 121) F w ds_41 h dX6_lockAll_121 (fun h => ?_)
        refine lv_iload_n (pc := 122) hx hb dX6_lockAll_122 rfl (lv_at hl 3 rfl) ?_
        obtain ⟨S12, hc, h⟩ := bndv_t h
        refine s_cvv (pc := 123) [.int z6, .int (S11.1 41 (x4 + x5).toNatClampNeg), .int x1] (fun ad => [.ref (ad 2), .int z6, .int (S11.1 41 (x4 + x5).toNatClampNeg), .int x1]) F w (m_X8_setPoint _ _ _ _ _ hc) rfl rfl hl.1 ds_2 vc_X8 rfl ok_X8_setPoint rfl kc_X8_setPoint kl_X6_91 ki_X8_setPoint kv_X8_setPoint kn_X8 ⟨Nat.le_trans (by decide) hR1, Nat.le_trans (by decide) hR2⟩ ⟨Nat.zero_le _, Nat.zero_le _⟩ (Nat.le_of_ble_eq_true rfl) dX6_lockAll_123 (fun H locs w => ?_)
        refine s_nm h (fun z13 ez13 h => ?_)
        refine lv_iinc (pc := 126) (v := z13) (lv' := [(5, .int z13), (2, .int r8), (6, .int z6), (0, .ref (ad 6)), (1, .int x1), (3, .int x3), (4, .int x4)]) hx hb dX6_lockAll_126 hl (k := 6) rfl (by rw [ez13]; rfl) (by decide) rfl (fun ls hl => ?_)
        refine lv_goto (pc := 129) (tgt := 34) hx hb dX6_lockAll_129 (by decide) ?_
        exact ih _ _ _ _ _ h _ _ _ w (lv_sub hl [3, 4, 5, 6, 0] rfl)
      · have h := ite_f q h
        refine lv_aload_n (pc := 73) hx hb dX6_lockAll_73 rfl (lv_at hl 2 rfl) ?_
        refine lv_iload (pc := 74) hx hb dX6_lockAll_74 (lv_at hl 5 rfl) ?_
        refine lv_iload (pc := 76) hx hb dX6_lockAll_76 (lv_at hl 6 rfl) ?_
        obtain ⟨S14, hc, h⟩ := bndv_t h
        refine s_cvv (pc := 78) [.int x4, .int x5] (fun ad => [.ref (ad 6), .int x4, .int x5]) F w (m_X6_giveBack _ _ _ _ hc) rfl rfl hl.1 ds_6 vc_X6 rfl ok_X6_giveBack rfl kc_X6_giveBack kl_X6_118 ki_X6_giveBack kv_X6_giveBack kn_X6 ⟨Nat.le_trans (by decide) hR1, Nat.le_trans (by decide) hR2⟩ ⟨Nat.zero_le _, Nat.zero_le _⟩ (Nat.le_of_ble_eq_true rfl) dX6_lockAll_78 (fun H locs w => ?_)
        refine lv_aload_n (pc := 81) hx hb dX6_lockAll_81 rfl (lv_at hl 2 rfl) ?_
        refine s_getR (pc := 82) F w 1 ds_6 (j := 2) vc_X6 vi_X6 rfl (by decide) kf_X6_39 dX6_lockAll_82 ?_
        refine lv_iload_n (pc := 85) hx hb dX6_lockAll_85 rfl (lv_at hl 0 rfl) ?_
        obtain ⟨r16, S15, hc, h⟩ := bnd_t h
        refine s_cvi (pc := 86) [.int r8] (fun ad => [.ref (ad 1), .int r8]) F w (m_X5_found _ _ _ _ hc) rfl rfl hl.1 ds_1 vc_X5 rfl ok_X5_found rfl kc_X5_found kl_X6_88 ki_X5_found kv_X5_found kn_X5 ⟨Nat.le_trans (by decide) hR1, Nat.le_trans (by decide) hR2⟩ ⟨Nat.zero_le _, Nat.zero_le _⟩ (Nat.le_of_ble_eq_true rfl) dX6_lockAll_86 (fun H locs w => ?_)
        exact s_iret F w h dX6_lockAll_89
set_option maxRecDepth 100000 in
set_option maxHeartbeats 4000000 in
theorem m_X6_lockAll (a1 : Int32) (S S' : SS) (r : Int32) (h : f_X6_lockAll a1 S = some (r, S')) : MT yX6_lockAll cX6_lockAll 7 (some .int) 4 87 (fun ad => [.ref (ad 6), .int a1]) S (some (.int r)) S' := by
  refine MT.of RX6 (fun ad => [(0, .ref (ad 6)), (1, .int a1)]) (by decide) rfl (fun _ => Nat.le_of_ble_eq_true rfl) (fun _ => rfl) ?_
  intro p l e R s m args below meth c dC dI cs ad A hR1 hR2 F H locs ls w hl
  have hx := F.1.1
  have hb := F.1.2.1
  rw [f_X6_lockAll] at h
  refine lv_aload_n (pc := 0) hx hb dX6_lockAll_0 rfl (lv_at hl 0 rfl) ?_
  refine lv_iload_n (pc := 1) hx hb dX6_lockAll_1 rfl (lv_at hl 1 rfl) ?_
  obtain ⟨r2, S1, hc, h⟩ := bnd_t h
  refine s_cvi (pc := 2) [.int a1] (fun ad => [.ref (ad 6), .int a1]) F w (m_X6_routeFinding _ _ _ _ hc) rfl rfl hl.1 ds_6 vc_X6 rfl ok_X6_routeFinding rfl kc_X6_routeFinding kl_X6_111 ki_X6_routeFinding kv_X6_routeFinding kn_X6 ⟨Nat.le_trans (by decide) hR1, Nat.le_trans (by decide) hR2⟩ ⟨Nat.zero_le _, Nat.zero_le _⟩ (Nat.le_of_ble_eq_true rfl) dX6_lockAll_2 (fun H locs w => ?_)
  refine lv_istore_n (pc := 5) (lv' := [(2, .int r2), (0, .ref (ad 6)), (1, .int a1)]) hx hb dX6_lockAll_5 rfl hl (by decide) rfl (fun ls hl => ?_)
  refine lv_iload_n (pc := 6) hx hb dX6_lockAll_6 rfl (lv_at hl 0 rfl) ?_
  refine lv_if_eq (pc := 7) (tgt := 19) hx hb dX6_lockAll_7 (by decide) (fun q => ?_) (fun q => ?_)
  · have h := ite_t q h
    refine lv_aload_n (pc := 19) hx hb dX6_lockAll_19 rfl (lv_at hl 1 rfl) ?_
    refine lv_iload_n (pc := 20) hx hb dX6_lockAll_20 rfl (lv_at hl 2 rfl) ?_
    obtain ⟨r4, S3, hc, h⟩ := bnd_t h
    refine s_cvi (pc := 21) [.int a1] (fun ad => [.ref (ad 6), .int a1]) F w (m_X6_entriesOf _ _ _ _ hc) rfl rfl hl.1 ds_6 vc_X6 rfl ok_X6_entriesOf rfl kc_X6_entriesOf kl_X6_43 ki_X6_entriesOf kv_X6_entriesOf kn_X6 ⟨Nat.le_trans (by decide) hR1, Nat.le_trans (by decide) hR2⟩ ⟨Nat.zero_le _, Nat.zero_le _⟩ (Nat.le_of_ble_eq_true rfl) dX6_lockAll_21 (fun H locs w => ?_)
    refine lv_istore_n (pc := 24) (lv' := [(3, .int r4), (2, .int r2), (0, .ref (ad 6)), (1, .int a1)]) hx hb dX6_lockAll_24 rfl hl (by decide) rfl (fun ls hl => ?_)
    refine lv_bipush (pc := 25) (v := 8) hx hb dX6_lockAll_25 (by decide) ?_
    refine lv_iload_n (pc := 27) hx hb dX6_lockAll_27 rfl (lv_at hl 3 rfl) ?_
    refine lv_imul (pc := 28) hx hb dX6_lockAll_28 ?_
    refine s_nm h (fun z5 ez5 h => ?_)
    rw [← ez5]
    refine lv_istore (pc := 29) (lv' := [(4, .int z5), (3, .int r4), (2, .int r2), (0, .ref (ad 6)), (1, .int a1)]) hx hb dX6_lockAll_29 hl (by decide) rfl (fun ls hl => ?_)
    refine lv_iconst (pc := 31) (v := 0) hx hb dX6_lockAll_31 (by decide) ?_
    refine lv_istore (pc := 32) (lv' := [(5, .int (0 : Int32)), (4, .int z5), (3, .int r4), (2, .int r2), (0, .ref (ad 6)), (1, .int a1)]) hx hb dX6_lockAll_32 hl (by decide) rfl (fun ls hl => ?_)
    exact w_X6_lockAll_L34 F (Nat.le_trans (by decide) hR1) (Nat.le_trans (by decide) hR2) _ _ _ _ _ _ h _ _ _ w (lv_sub hl [4, 5, 2, 1, 0] rfl)
  · have h := ite_f q h
    refine lv_aload_n (pc := 10) hx hb dX6_lockAll_10 rfl (lv_at hl 1 rfl) ?_
    refine s_getR (pc := 11) F w 1 ds_6 (j := 2) vc_X6 vi_X6 rfl (by decide) kf_X6_39 dX6_lockAll_11 ?_
    refine lv_iload_n (pc := 14) hx hb dX6_lockAll_14 rfl (lv_at hl 0 rfl) ?_
    obtain ⟨r18, S17, hc, h⟩ := bnd_t h
    refine s_cvi (pc := 15) [.int r2] (fun ad => [.ref (ad 1), .int r2]) F w (m_X5_found _ _ _ _ hc) rfl rfl hl.1 ds_1 vc_X5 rfl ok_X5_found rfl kc_X5_found kl_X6_88 ki_X5_found kv_X5_found kn_X5 ⟨Nat.le_trans (by decide) hR1, Nat.le_trans (by decide) hR2⟩ ⟨Nat.zero_le _, Nat.zero_le _⟩ (Nat.le_of_ble_eq_true rfl) dX6_lockAll_15 (fun H locs w => ?_)
    exact s_iret F w h dX6_lockAll_18
def f_X11_lock (a1 : Int32) (S : SS) : Option (Int32 × SS) :=
  bndv (f_X11_beginAct  S) (fun S1 =>
  bnd (f_X6_lockAll a1 S1) (fun r3 S2 =>
  bnd (f_X11_endAct (4 : Int32) r3 S2) (fun r5 S4 =>
  some (r5, S4))))
theorem dX11_lock_0 : decode cX11_lock 0 = .ok (.aload_n 0, 1) := by decide +kernel
theorem dX11_lock_1 : decode cX11_lock 1 = .ok (.invokevirtual 199, 3) := by decide +kernel
theorem dX11_lock_4 : decode cX11_lock 4 = .ok (.aload_n 0, 1) := by decide +kernel
theorem dX11_lock_5 : decode cX11_lock 5 = .ok (.iconst 4, 1) := by decide +kernel
theorem dX11_lock_6 : decode cX11_lock 6 = .ok (.aload_n 0, 1) := by decide +kernel
theorem dX11_lock_7 : decode cX11_lock 7 = .ok (.getfield 51, 3) := by decide +kernel
theorem dX11_lock_10 : decode cX11_lock 10 = .ok (.iload_n 1, 1) := by decide +kernel
theorem dX11_lock_11 : decode cX11_lock 11 = .ok (.invokevirtual 214, 3) := by decide +kernel
theorem dX11_lock_14 : decode cX11_lock 14 = .ok (.invokevirtual 205, 3) := by decide +kernel
theorem dX11_lock_17 : decode cX11_lock 17 = .ok (.ireturn, 1) := by decide +kernel
set_option maxRecDepth 100000 in
set_option maxHeartbeats 4000000 in
theorem m_X11_lock (a1 : Int32) (S S' : SS) (r : Int32) (h : f_X11_lock a1 S = some (r, S')) : MT yX11_lock cX11_lock 2 (some .int) 5 113 (fun ad => [.ref (ad 0), .int a1]) S (some (.int r)) S' := by
  refine MT.of RX11 (fun ad => [(0, .ref (ad 0)), (1, .int a1)]) (by decide) rfl (fun _ => Nat.le_of_ble_eq_true rfl) (fun _ => rfl) ?_
  intro p l e R s m args below meth c dC dI cs ad A hR1 hR2 F H locs ls w hl
  have hx := F.1.1
  have hb := F.1.2.1
  rw [f_X11_lock] at h
  refine lv_aload_n (pc := 0) hx hb dX11_lock_0 rfl (lv_at hl 0 rfl) ?_
  obtain ⟨S1, hc, h⟩ := bndv_t h
  refine s_cvv (pc := 1) [] (fun ad => [.ref (ad 0)]) F w (m_X11_beginAct  _ _ hc) rfl rfl hl.1 ds_0 vc_X11 rfl ok_X11_beginAct rfl kc_X11_beginAct kl_X11_199 ki_X11_beginAct kv_X11_beginAct kn_X11 ⟨Nat.le_trans (by decide) hR1, Nat.le_trans (by decide) hR2⟩ ⟨Nat.zero_le _, Nat.zero_le _⟩ (Nat.le_of_ble_eq_true rfl) dX11_lock_1 (fun H locs w => ?_)
  refine lv_aload_n (pc := 4) hx hb dX11_lock_4 rfl (lv_at hl 0 rfl) ?_
  refine lv_iconst (pc := 5) (v := 4) hx hb dX11_lock_5 (by decide) ?_
  refine lv_aload_n (pc := 6) hx hb dX11_lock_6 rfl (lv_at hl 0 rfl) ?_
  refine s_getR (pc := 7) F w 6 ds_0 (j := 5) vc_X11 vi_X11 rfl (by decide) kf_X11_51 dX11_lock_7 ?_
  refine lv_iload_n (pc := 10) hx hb dX11_lock_10 rfl (lv_at hl 1 rfl) ?_
  obtain ⟨r3, S2, hc, h⟩ := bnd_t h
  refine s_cvi (pc := 11) [.int a1] (fun ad => [.ref (ad 6), .int a1]) F w (m_X6_lockAll _ _ _ _ hc) rfl rfl hl.1 ds_6 vc_X6 rfl ok_X6_lockAll rfl kc_X6_lockAll kl_X11_214 ki_X6_lockAll kv_X6_lockAll kn_X6 ⟨Nat.le_trans (by decide) hR1, Nat.le_trans (by decide) hR2⟩ ⟨Nat.zero_le _, Nat.zero_le _⟩ (Nat.le_of_ble_eq_true rfl) dX11_lock_11 (fun H locs w => ?_)
  obtain ⟨r5, S4, hc, h⟩ := bnd_t h
  refine s_cvi (pc := 14) [.int (4 : Int32), .int r3] (fun ad => [.ref (ad 0), .int (4 : Int32), .int r3]) F w (m_X11_endAct _ _ _ _ _ hc) rfl rfl hl.1 ds_0 vc_X11 rfl ok_X11_endAct rfl kc_X11_endAct kl_X11_205 ki_X11_endAct kv_X11_endAct kn_X11 ⟨Nat.le_trans (by decide) hR1, Nat.le_trans (by decide) hR2⟩ ⟨Nat.zero_le _, Nat.zero_le _⟩ (Nat.le_of_ble_eq_true rfl) dX11_lock_14 (fun H locs w => ?_)
  exact s_iret F w h dX11_lock_17
def f_X12_missEntry (a1 : Int32) (S : SS) : Option (Int32 × SS) :=
  grd (inb a1 96) (
  nm (S.1 80 a1.toNatClampNeg) (fun z1 =>
  grd (inb a1 96) (
  nm (S.1 81 a1.toNatClampNeg) (fun z2 =>
  grd (inb z1 40) (
  if (S.1 78 z1.toNatClampNeg) = (-4 : Int32) then
    grd (inb z1 40) (
    grd (inb (S.1 76 z1.toNatClampNeg) 48) (
    if z2 < (S.1 73 (S.1 76 z1.toNatClampNeg).toNatClampNeg) then
      grd (inb z1 40) (
      if (S.1 77 z1.toNatClampNeg) = z2 then
        some ((0 : Int32), S)
      else
        bnd (f_X12_isUnder z1 S) (fun r4 S3 =>
        if r4 = 0 then
          some ((0 : Int32), S3)
        else
          some ((12 : Int32), S3)))
    else
      some ((3 : Int32), S)))
  else
    grd (inb z1 40) (
    wr S 14 3 (S.1 78 z1.toNatClampNeg) (fun S5 =>
    some ((11 : Int32), S5))))))))
theorem dX12_missEntry_0 : decode cX12_missEntry 0 = .ok (.aload_n 0, 1) := by decide +kernel
theorem dX12_missEntry_1 : decode cX12_missEntry 1 = .ok (.getfield 54, 3) := by decide +kernel
theorem dX12_missEntry_4 : decode cX12_missEntry 4 = .ok (.iload_n 1, 1) := by decide +kernel
theorem dX12_missEntry_5 : decode cX12_missEntry 5 = .ok (.iaload, 1) := by decide +kernel
theorem dX12_missEntry_6 : decode cX12_missEntry 6 = .ok (.istore_n 2, 1) := by decide +kernel
theorem dX12_missEntry_7 : decode cX12_missEntry 7 = .ok (.aload_n 0, 1) := by decide +kernel
theorem dX12_missEntry_8 : decode cX12_missEntry 8 = .ok (.getfield 57, 3) := by decide +kernel
theorem dX12_missEntry_11 : decode cX12_missEntry 11 = .ok (.iload_n 1, 1) := by decide +kernel
theorem dX12_missEntry_12 : decode cX12_missEntry 12 = .ok (.iaload, 1) := by decide +kernel
theorem dX12_missEntry_13 : decode cX12_missEntry 13 = .ok (.istore_n 3, 1) := by decide +kernel
theorem dX12_missEntry_14 : decode cX12_missEntry 14 = .ok (.aload_n 0, 1) := by decide +kernel
theorem dX12_missEntry_15 : decode cX12_missEntry 15 = .ok (.getfield 48, 3) := by decide +kernel
theorem dX12_missEntry_18 : decode cX12_missEntry 18 = .ok (.iload_n 2, 1) := by decide +kernel
theorem dX12_missEntry_19 : decode cX12_missEntry 19 = .ok (.iaload, 1) := by decide +kernel
theorem dX12_missEntry_20 : decode cX12_missEntry 20 = .ok (.bipush (-4), 2) := by decide +kernel
theorem dX12_missEntry_22 : decode cX12_missEntry 22 = .ok (.if_icmp .eq 16, 3) := by decide +kernel
theorem dX12_missEntry_25 : decode cX12_missEntry 25 = .ok (.aload_n 0, 1) := by decide +kernel
theorem dX12_missEntry_26 : decode cX12_missEntry 26 = .ok (.aload_n 0, 1) := by decide +kernel
theorem dX12_missEntry_27 : decode cX12_missEntry 27 = .ok (.getfield 48, 3) := by decide +kernel
theorem dX12_missEntry_30 : decode cX12_missEntry 30 = .ok (.iload_n 2, 1) := by decide +kernel
theorem dX12_missEntry_31 : decode cX12_missEntry 31 = .ok (.iaload, 1) := by decide +kernel
theorem dX12_missEntry_32 : decode cX12_missEntry 32 = .ok (.putfield 13, 3) := by decide +kernel
theorem dX12_missEntry_35 : decode cX12_missEntry 35 = .ok (.bipush 11, 2) := by decide +kernel
theorem dX12_missEntry_37 : decode cX12_missEntry 37 = .ok (.ireturn, 1) := by decide +kernel
theorem dX12_missEntry_38 : decode cX12_missEntry 38 = .ok (.iload_n 3, 1) := by decide +kernel
theorem dX12_missEntry_39 : decode cX12_missEntry 39 = .ok (.aload_n 0, 1) := by decide +kernel
theorem dX12_missEntry_40 : decode cX12_missEntry 40 = .ok (.getfield 33, 3) := by decide +kernel
theorem dX12_missEntry_43 : decode cX12_missEntry 43 = .ok (.aload_n 0, 1) := by decide +kernel
theorem dX12_missEntry_44 : decode cX12_missEntry 44 = .ok (.getfield 42, 3) := by decide +kernel
theorem dX12_missEntry_47 : decode cX12_missEntry 47 = .ok (.iload_n 2, 1) := by decide +kernel
theorem dX12_missEntry_48 : decode cX12_missEntry 48 = .ok (.iaload, 1) := by decide +kernel
theorem dX12_missEntry_49 : decode cX12_missEntry 49 = .ok (.iaload, 1) := by decide +kernel
theorem dX12_missEntry_50 : decode cX12_missEntry 50 = .ok (.if_icmp .lt 7, 3) := by decide +kernel
theorem dX12_missEntry_53 : decode cX12_missEntry 53 = .ok (.iconst 3, 1) := by decide +kernel
theorem dX12_missEntry_54 : decode cX12_missEntry 54 = .ok (.goto 27, 3) := by decide +kernel
theorem dX12_missEntry_57 : decode cX12_missEntry 57 = .ok (.aload_n 0, 1) := by decide +kernel
theorem dX12_missEntry_58 : decode cX12_missEntry 58 = .ok (.getfield 45, 3) := by decide +kernel
theorem dX12_missEntry_61 : decode cX12_missEntry 61 = .ok (.iload_n 2, 1) := by decide +kernel
theorem dX12_missEntry_62 : decode cX12_missEntry 62 = .ok (.iaload, 1) := by decide +kernel
theorem dX12_missEntry_63 : decode cX12_missEntry 63 = .ok (.iload_n 3, 1) := by decide +kernel
theorem dX12_missEntry_64 : decode cX12_missEntry 64 = .ok (.if_icmp .eq 16, 3) := by decide +kernel
theorem dX12_missEntry_67 : decode cX12_missEntry 67 = .ok (.aload_n 0, 1) := by decide +kernel
theorem dX12_missEntry_68 : decode cX12_missEntry 68 = .ok (.iload_n 2, 1) := by decide +kernel
theorem dX12_missEntry_69 : decode cX12_missEntry 69 = .ok (.invokevirtual 355, 3) := by decide +kernel
theorem dX12_missEntry_72 : decode cX12_missEntry 72 = .ok (.ifCond .eq 8, 3) := by decide +kernel
theorem dX12_missEntry_75 : decode cX12_missEntry 75 = .ok (.bipush 12, 2) := by decide +kernel
theorem dX12_missEntry_77 : decode cX12_missEntry 77 = .ok (.goto 4, 3) := by decide +kernel
theorem dX12_missEntry_80 : decode cX12_missEntry 80 = .ok (.iconst 0, 1) := by decide +kernel
theorem dX12_missEntry_81 : decode cX12_missEntry 81 = .ok (.ireturn, 1) := by decide +kernel
set_option maxRecDepth 100000 in
set_option maxHeartbeats 4000000 in
theorem m_X12_missEntry (a1 : Int32) (S S' : SS) (r : Int32) (h : f_X12_missEntry a1 S = some (r, S')) : MT yX12_missEntry cX12_missEntry 4 (some .int) 2 44 (fun ad => [.ref (ad 14), .int a1]) S (some (.int r)) S' := by
  refine MT.of RX12 (fun ad => [(0, .ref (ad 14)), (1, .int a1)]) (by decide) rfl (fun _ => Nat.le_of_ble_eq_true rfl) (fun _ => rfl) ?_
  intro p l e R s m args below meth c dC dI cs ad A hR1 hR2 F H locs ls w hl
  have hx := F.1.1
  have hb := F.1.2.1
  rw [f_X12_missEntry] at h
  refine lv_aload_n (pc := 0) hx hb dX12_missEntry_0 rfl (lv_at hl 0 rfl) ?_
  refine s_getR (pc := 1) F w 80 ds_14 (j := 21) vc_X12 vi_X12 rfl (by decide) kf_X12_54 dX12_missEntry_1 ?_
  refine lv_iload_n (pc := 4) hx hb dX12_missEntry_4 rfl (lv_at hl 1 rfl) ?_
  refine s_iald (pc := 5) F w ds_80 h dX12_missEntry_5 (fun h => ?_)
  refine s_nm h (fun z1 ez1 h => ?_)
  rw [← ez1]
  refine lv_istore_n (pc := 6) (lv' := [(2, .int z1), (0, .ref (ad 14)), (1, .int a1)]) hx hb dX12_missEntry_6 rfl hl (by decide) rfl (fun ls hl => ?_)
  refine lv_aload_n (pc := 7) hx hb dX12_missEntry_7 rfl (lv_at hl 1 rfl) ?_
  refine s_getR (pc := 8) F w 81 ds_14 (j := 22) vc_X12 vi_X12 rfl (by decide) kf_X12_57 dX12_missEntry_8 ?_
  refine lv_iload_n (pc := 11) hx hb dX12_missEntry_11 rfl (lv_at hl 2 rfl) ?_
  refine s_iald (pc := 12) F w ds_81 h dX12_missEntry_12 (fun h => ?_)
  refine s_nm h (fun z2 ez2 h => ?_)
  rw [← ez2]
  refine lv_istore_n (pc := 13) (lv' := [(3, .int z2), (2, .int z1), (0, .ref (ad 14)), (1, .int a1)]) hx hb dX12_missEntry_13 rfl hl (by decide) rfl (fun ls hl => ?_)
  refine lv_aload_n (pc := 14) hx hb dX12_missEntry_14 rfl (lv_at hl 2 rfl) ?_
  refine s_getR (pc := 15) F w 78 ds_14 (j := 18) vc_X12 vi_X12 rfl (by decide) kf_X12_48 dX12_missEntry_15 ?_
  refine lv_iload_n (pc := 18) hx hb dX12_missEntry_18 rfl (lv_at hl 1 rfl) ?_
  refine s_iald (pc := 19) F w ds_78 h dX12_missEntry_19 (fun h => ?_)
  refine lv_bipush (pc := 20) (v := -4) hx hb dX12_missEntry_20 (by decide) ?_
  refine lv_icmp_eq (pc := 22) (tgt := 38) hx hb dX12_missEntry_22 (by decide) (fun q => ?_) (fun q => ?_)
  · have h := ite_t q h
    refine lv_iload_n (pc := 38) hx hb dX12_missEntry_38 rfl (lv_at hl 0 rfl) ?_
    refine lv_aload_n (pc := 39) hx hb dX12_missEntry_39 rfl (lv_at hl 2 rfl) ?_
    refine s_getR (pc := 40) F w 73 ds_14 (j := 11) vc_X12 vi_X12 rfl (by decide) kf_X12_33 dX12_missEntry_40 ?_
    refine lv_aload_n (pc := 43) hx hb dX12_missEntry_43 rfl (lv_at hl 2 rfl) ?_
    refine s_getR (pc := 44) F w 76 ds_14 (j := 16) vc_X12 vi_X12 rfl (by decide) kf_X12_42 dX12_missEntry_44 ?_
    refine lv_iload_n (pc := 47) hx hb dX12_missEntry_47 rfl (lv_at hl 1 rfl) ?_
    refine s_iald (pc := 48) F w ds_76 h dX12_missEntry_48 (fun h => ?_)
    refine s_iald (pc := 49) F w ds_73 h dX12_missEntry_49 (fun h => ?_)
    refine lv_icmp_lt (pc := 50) (tgt := 57) hx hb dX12_missEntry_50 (by decide) (fun q => ?_) (fun q => ?_)
    · have h := ite_t q h
      refine lv_aload_n (pc := 57) hx hb dX12_missEntry_57 rfl (lv_at hl 2 rfl) ?_
      refine s_getR (pc := 58) F w 77 ds_14 (j := 17) vc_X12 vi_X12 rfl (by decide) kf_X12_45 dX12_missEntry_58 ?_
      refine lv_iload_n (pc := 61) hx hb dX12_missEntry_61 rfl (lv_at hl 1 rfl) ?_
      refine s_iald (pc := 62) F w ds_77 h dX12_missEntry_62 (fun h => ?_)
      refine lv_iload_n (pc := 63) hx hb dX12_missEntry_63 rfl (lv_at hl 0 rfl) ?_
      refine lv_icmp_eq (pc := 64) (tgt := 80) hx hb dX12_missEntry_64 (by decide) (fun q => ?_) (fun q => ?_)
      · have h := ite_t q h
        refine lv_iconst (pc := 80) (v := 0) hx hb dX12_missEntry_80 (by decide) ?_
        exact s_iret F w h dX12_missEntry_81
      · have h := ite_f q h
        refine lv_aload_n (pc := 67) hx hb dX12_missEntry_67 rfl (lv_at hl 2 rfl) ?_
        refine lv_iload_n (pc := 68) hx hb dX12_missEntry_68 rfl (lv_at hl 1 rfl) ?_
        obtain ⟨r4, S3, hc, h⟩ := bnd_t h
        refine s_cvi (pc := 69) [.int z1] (fun ad => [.ref (ad 14), .int z1]) F w (m_X12_isUnder _ _ _ _ hc) rfl rfl hl.1 ds_14 vc_X12 rfl ok_X12_isUnder rfl kc_X12_isUnder kl_X12_355 ki_X12_isUnder kv_X12_isUnder kn_X12 ⟨Nat.le_trans (by decide) hR1, Nat.le_trans (by decide) hR2⟩ ⟨Nat.zero_le _, Nat.zero_le _⟩ (Nat.le_of_ble_eq_true rfl) dX12_missEntry_69 (fun H locs w => ?_)
        refine lv_if_eq (pc := 72) (tgt := 80) hx hb dX12_missEntry_72 (by decide) (fun q => ?_) (fun q => ?_)
        · have h := ite_t q h
          refine lv_iconst (pc := 80) (v := 0) hx hb dX12_missEntry_80 (by decide) ?_
          exact s_iret F w h dX12_missEntry_81
        · have h := ite_f q h
          refine lv_bipush (pc := 75) (v := 12) hx hb dX12_missEntry_75 (by decide) ?_
          refine lv_goto (pc := 77) (tgt := 81) hx hb dX12_missEntry_77 (by decide) ?_
          exact s_iret F w h dX12_missEntry_81
    · have h := ite_f q h
      refine lv_iconst (pc := 53) (v := 3) hx hb dX12_missEntry_53 (by decide) ?_
      refine lv_goto (pc := 54) (tgt := 81) hx hb dX12_missEntry_54 (by decide) ?_
      exact s_iret F w h dX12_missEntry_81
  · have h := ite_f q h
    refine lv_aload_n (pc := 25) hx hb dX12_missEntry_25 rfl (lv_at hl 2 rfl) ?_
    refine lv_aload_n (pc := 26) hx hb dX12_missEntry_26 rfl (lv_at hl 2 rfl) ?_
    refine s_getR (pc := 27) F w 78 ds_14 (j := 18) vc_X12 vi_X12 rfl (by decide) kf_X12_48 dX12_missEntry_27 ?_
    refine lv_iload_n (pc := 30) hx hb dX12_missEntry_30 rfl (lv_at hl 1 rfl) ?_
    refine s_iald (pc := 31) F w ds_78 h dX12_missEntry_31 (fun h => ?_)
    refine s_putI (pc := 32) F w ds_14 vc_X12 vi_X12 tyX12_ok nmX12 (j := 3) rfl (by decide) kf_X12_13 rfl pd_I h dX12_missEntry_32 (fun S5 H locs h w => ?_)
    refine lv_bipush (pc := 35) (v := 11) hx hb dX12_missEntry_35 (by decide) ?_
    exact s_iret F w h dX12_missEntry_37
def f_X12_lock_L72  : Nat → Int32 → Int32 → Int32 → Int32 → SS → Option (Int32 × SS)
  | 0, _, _, _, _, _ => none
  | n + 1, x1, x2, x4, x5, S =>
    if x2 ≤ x5 then
      bnd (f_X12_found x4 S) (fun r17 S16 =>
      bnd (f_X12_entered (4 : Int32) (-2 : Int32) S16) (fun r19 S18 =>
      some (r19, S18)))
    else
      grd (inb (((8 : Int32) * x1) + x5) 96) (
      grd (inb (S.1 80 (((8 : Int32) * x1) + x5).toNatClampNeg) 40) (wr S 78 (S.1 80 (((8 : Int32) * x1) + x5).toNatClampNeg).toNatClampNeg (-4 : Int32) (fun S20 =>
      grd (inb (((8 : Int32) * x1) + x5) 96) (
      grd (inb x5 8) (
      grd (inb (S20.1 80 (((8 : Int32) * x1) + x5).toNatClampNeg) 40) (wr S20 77 (S20.1 80 (((8 : Int32) * x1) + x5).toNatClampNeg).toNatClampNeg (S20.1 110 x5.toNatClampNeg) (fun S21 =>
      nm (x5 + (1 : Int32)) (fun z22 =>
      f_X12_lock_L72 n x1 x2 x4 z22 S21))))))))
def f_X12_lock_L30  : Nat → Int32 → Int32 → SS → Option (Int32 × SS)
  | 0, _, _, _ => none
  | n + 1, x1, x2, S =>
    grd (inb x1 12) (
    if (S.1 79 x1.toNatClampNeg) ≤ x2 then
      grd (inb x1 12) (
      bnd (f_X12_entered (4 : Int32) (S.1 79 x1.toNatClampNeg) S) (fun r8 S7 =>
      some (r8, S7)))
    else
      grd (inb (((8 : Int32) * x1) + x2) 96) (
      nm (S.1 80 (((8 : Int32) * x1) + x2).toNatClampNeg) (fun z9 =>
      bnd (f_X12_missEntry (((8 : Int32) * x1) + x2) S) (fun r11 S10 =>
      if r11 = 0 then
        grd (inb z9 40) (
        grd (inb x2 8) (wr S10 110 x2.toNatClampNeg (S10.1 77 z9.toNatClampNeg) (fun S12 =>
        grd (inb (((8 : Int32) * x1) + x2) 96) (
        grd (inb z9 40) (wr S12 77 z9.toNatClampNeg (S12.1 81 (((8 : Int32) * x1) + x2).toNatClampNeg) (fun S13 =>
        grd (inb z9 40) (wr S13 78 z9.toNatClampNeg x1 (fun S14 =>
        nm (x2 + (1 : Int32)) (fun z15 =>
        f_X12_lock_L30 n x1 z15 S14)))))))))
      else
        f_X12_lock_L72 NF x1 x2 r11 (0 : Int32) S10))))
def f_X12_lock (a1 : Int32) (S : SS) : Option (Int32 × SS) :=
  bndv (f_X12_begin  S) (fun S1 =>
  bndv (f_X12_keep  S1) (fun S2 =>
  bnd (f_X12_missRoute a1 S2) (fun r4 S3 =>
  bnd (f_X12_ends r4 S3) (fun r6 S5 =>
  if r6 = 0 then
    f_X12_lock_L30 NF a1 (0 : Int32) S5
  else
    bnd (f_X12_entered (4 : Int32) (-2 : Int32) S5) (fun r24 S23 =>
    some (r24, S23))))))
theorem dX12_lock_0 : decode cX12_lock 0 = .ok (.aload_n 0, 1) := by decide +kernel
theorem dX12_lock_1 : decode cX12_lock 1 = .ok (.invokevirtual 226, 3) := by decide +kernel
theorem dX12_lock_4 : decode cX12_lock 4 = .ok (.aload_n 0, 1) := by decide +kernel
theorem dX12_lock_5 : decode cX12_lock 5 = .ok (.invokevirtual 346, 3) := by decide +kernel
theorem dX12_lock_8 : decode cX12_lock 8 = .ok (.aload_n 0, 1) := by decide +kernel
theorem dX12_lock_9 : decode cX12_lock 9 = .ok (.aload_n 0, 1) := by decide +kernel
theorem dX12_lock_10 : decode cX12_lock 10 = .ok (.iload_n 1, 1) := by decide +kernel
theorem dX12_lock_11 : decode cX12_lock 11 = .ok (.invokevirtual 260, 3) := by decide +kernel
theorem dX12_lock_14 : decode cX12_lock 14 = .ok (.invokevirtual 236, 3) := by decide +kernel
theorem dX12_lock_17 : decode cX12_lock 17 = .ok (.ifCond .eq 11, 3) := by decide +kernel
theorem dX12_lock_20 : decode cX12_lock 20 = .ok (.aload_n 0, 1) := by decide +kernel
theorem dX12_lock_21 : decode cX12_lock 21 = .ok (.iconst 4, 1) := by decide +kernel
theorem dX12_lock_22 : decode cX12_lock 22 = .ok (.bipush (-2), 2) := by decide +kernel
theorem dX12_lock_24 : decode cX12_lock 24 = .ok (.invokevirtual 349, 3) := by decide +kernel
theorem dX12_lock_27 : decode cX12_lock 27 = .ok (.ireturn, 1) := by decide +kernel
theorem dX12_lock_28 : decode cX12_lock 28 = .ok (.iconst 0, 1) := by decide +kernel
theorem dX12_lock_29 : decode cX12_lock 29 = .ok (.istore_n 2, 1) := by decide +kernel
theorem dX12_lock_30 : decode cX12_lock 30 = .ok (.iload_n 2, 1) := by decide +kernel
theorem dX12_lock_31 : decode cX12_lock 31 = .ok (.aload_n 0, 1) := by decide +kernel
theorem dX12_lock_32 : decode cX12_lock 32 = .ok (.getfield 51, 3) := by decide +kernel
theorem dX12_lock_35 : decode cX12_lock 35 = .ok (.iload_n 1, 1) := by decide +kernel
theorem dX12_lock_36 : decode cX12_lock 36 = .ok (.iaload, 1) := by decide +kernel
theorem dX12_lock_37 : decode cX12_lock 37 = .ok (.if_icmp .ge 147, 3) := by decide +kernel
theorem dX12_lock_40 : decode cX12_lock 40 = .ok (.aload_n 0, 1) := by decide +kernel
theorem dX12_lock_41 : decode cX12_lock 41 = .ok (.getfield 54, 3) := by decide +kernel
theorem dX12_lock_44 : decode cX12_lock 44 = .ok (.bipush 8, 2) := by decide +kernel
theorem dX12_lock_46 : decode cX12_lock 46 = .ok (.iload_n 1, 1) := by decide +kernel
theorem dX12_lock_47 : decode cX12_lock 47 = .ok (.imul, 1) := by decide +kernel
theorem dX12_lock_48 : decode cX12_lock 48 = .ok (.iload_n 2, 1) := by decide +kernel
theorem dX12_lock_49 : decode cX12_lock 49 = .ok (.iadd, 1) := by decide +kernel
theorem dX12_lock_50 : decode cX12_lock 50 = .ok (.iaload, 1) := by decide +kernel
theorem dX12_lock_51 : decode cX12_lock 51 = .ok (.istore_n 3, 1) := by decide +kernel
theorem dX12_lock_52 : decode cX12_lock 52 = .ok (.aload_n 0, 1) := by decide +kernel
theorem dX12_lock_53 : decode cX12_lock 53 = .ok (.bipush 8, 2) := by decide +kernel
theorem dX12_lock_55 : decode cX12_lock 55 = .ok (.iload_n 1, 1) := by decide +kernel
theorem dX12_lock_56 : decode cX12_lock 56 = .ok (.imul, 1) := by decide +kernel
theorem dX12_lock_57 : decode cX12_lock 57 = .ok (.iload_n 2, 1) := by decide +kernel
theorem dX12_lock_58 : decode cX12_lock 58 = .ok (.iadd, 1) := by decide +kernel
theorem dX12_lock_59 : decode cX12_lock 59 = .ok (.invokevirtual 361, 3) := by decide +kernel
theorem dX12_lock_62 : decode cX12_lock 62 = .ok (.istore 4, 2) := by decide +kernel
theorem dX12_lock_64 : decode cX12_lock 64 = .ok (.iload 4, 2) := by decide +kernel
theorem dX12_lock_66 : decode cX12_lock 66 = .ok (.ifCond .eq 76, 3) := by decide +kernel
theorem dX12_lock_69 : decode cX12_lock 69 = .ok (.iconst 0, 1) := by decide +kernel
theorem dX12_lock_70 : decode cX12_lock 70 = .ok (.istore 5, 2) := by decide +kernel
theorem dX12_lock_72 : decode cX12_lock 72 = .ok (.iload 5, 2) := by decide +kernel
theorem dX12_lock_74 : decode cX12_lock 74 = .ok (.iload_n 2, 1) := by decide +kernel
theorem dX12_lock_75 : decode cX12_lock 75 = .ok (.if_icmp .ge 52, 3) := by decide +kernel
theorem dX12_lock_78 : decode cX12_lock 78 = .ok (.aload_n 0, 1) := by decide +kernel
theorem dX12_lock_79 : decode cX12_lock 79 = .ok (.getfield 48, 3) := by decide +kernel
theorem dX12_lock_82 : decode cX12_lock 82 = .ok (.aload_n 0, 1) := by decide +kernel
theorem dX12_lock_83 : decode cX12_lock 83 = .ok (.getfield 54, 3) := by decide +kernel
theorem dX12_lock_86 : decode cX12_lock 86 = .ok (.bipush 8, 2) := by decide +kernel
theorem dX12_lock_88 : decode cX12_lock 88 = .ok (.iload_n 1, 1) := by decide +kernel
theorem dX12_lock_89 : decode cX12_lock 89 = .ok (.imul, 1) := by decide +kernel
theorem dX12_lock_90 : decode cX12_lock 90 = .ok (.iload 5, 2) := by decide +kernel
theorem dX12_lock_92 : decode cX12_lock 92 = .ok (.iadd, 1) := by decide +kernel
theorem dX12_lock_93 : decode cX12_lock 93 = .ok (.iaload, 1) := by decide +kernel
theorem dX12_lock_94 : decode cX12_lock 94 = .ok (.bipush (-4), 2) := by decide +kernel
theorem dX12_lock_96 : decode cX12_lock 96 = .ok (.iastore, 1) := by decide +kernel
theorem dX12_lock_97 : decode cX12_lock 97 = .ok (.aload_n 0, 1) := by decide +kernel
theorem dX12_lock_98 : decode cX12_lock 98 = .ok (.getfield 45, 3) := by decide +kernel
theorem dX12_lock_101 : decode cX12_lock 101 = .ok (.aload_n 0, 1) := by decide +kernel
theorem dX12_lock_102 : decode cX12_lock 102 = .ok (.getfield 54, 3) := by decide +kernel
theorem dX12_lock_105 : decode cX12_lock 105 = .ok (.bipush 8, 2) := by decide +kernel
theorem dX12_lock_107 : decode cX12_lock 107 = .ok (.iload_n 1, 1) := by decide +kernel
theorem dX12_lock_108 : decode cX12_lock 108 = .ok (.imul, 1) := by decide +kernel
theorem dX12_lock_109 : decode cX12_lock 109 = .ok (.iload 5, 2) := by decide +kernel
theorem dX12_lock_111 : decode cX12_lock 111 = .ok (.iadd, 1) := by decide +kernel
theorem dX12_lock_112 : decode cX12_lock 112 = .ok (.iaload, 1) := by decide +kernel
theorem dX12_lock_113 : decode cX12_lock 113 = .ok (.aload_n 0, 1) := by decide +kernel
theorem dX12_lock_114 : decode cX12_lock 114 = .ok (.getfield 144, 3) := by decide +kernel
theorem dX12_lock_117 : decode cX12_lock 117 = .ok (.iload 5, 2) := by decide +kernel
theorem dX12_lock_119 : decode cX12_lock 119 = .ok (.iaload, 1) := by decide +kernel
theorem dX12_lock_120 : decode cX12_lock 120 = .ok (.iastore, 1) := by decide +kernel
theorem dX12_lock_121 : decode cX12_lock 121 = .ok (.iinc 5 1, 3) := by decide +kernel
theorem dX12_lock_124 : decode cX12_lock 124 = .ok (.goto (-52), 3) := by decide +kernel
theorem dX12_lock_127 : decode cX12_lock 127 = .ok (.aload_n 0, 1) := by decide +kernel
theorem dX12_lock_128 : decode cX12_lock 128 = .ok (.iload 4, 2) := by decide +kernel
theorem dX12_lock_130 : decode cX12_lock 130 = .ok (.invokevirtual 210, 3) := by decide +kernel
theorem dX12_lock_133 : decode cX12_lock 133 = .ok (.pop, 1) := by decide +kernel
theorem dX12_lock_134 : decode cX12_lock 134 = .ok (.aload_n 0, 1) := by decide +kernel
theorem dX12_lock_135 : decode cX12_lock 135 = .ok (.iconst 4, 1) := by decide +kernel
theorem dX12_lock_136 : decode cX12_lock 136 = .ok (.bipush (-2), 2) := by decide +kernel
theorem dX12_lock_138 : decode cX12_lock 138 = .ok (.invokevirtual 349, 3) := by decide +kernel
theorem dX12_lock_141 : decode cX12_lock 141 = .ok (.ireturn, 1) := by decide +kernel
theorem dX12_lock_142 : decode cX12_lock 142 = .ok (.aload_n 0, 1) := by decide +kernel
theorem dX12_lock_143 : decode cX12_lock 143 = .ok (.getfield 144, 3) := by decide +kernel
theorem dX12_lock_146 : decode cX12_lock 146 = .ok (.iload_n 2, 1) := by decide +kernel
theorem dX12_lock_147 : decode cX12_lock 147 = .ok (.aload_n 0, 1) := by decide +kernel
theorem dX12_lock_148 : decode cX12_lock 148 = .ok (.getfield 45, 3) := by decide +kernel
theorem dX12_lock_151 : decode cX12_lock 151 = .ok (.iload_n 3, 1) := by decide +kernel
theorem dX12_lock_152 : decode cX12_lock 152 = .ok (.iaload, 1) := by decide +kernel
theorem dX12_lock_153 : decode cX12_lock 153 = .ok (.iastore, 1) := by decide +kernel
theorem dX12_lock_154 : decode cX12_lock 154 = .ok (.aload_n 0, 1) := by decide +kernel
theorem dX12_lock_155 : decode cX12_lock 155 = .ok (.getfield 45, 3) := by decide +kernel
theorem dX12_lock_158 : decode cX12_lock 158 = .ok (.iload_n 3, 1) := by decide +kernel
theorem dX12_lock_159 : decode cX12_lock 159 = .ok (.aload_n 0, 1) := by decide +kernel
theorem dX12_lock_160 : decode cX12_lock 160 = .ok (.getfield 57, 3) := by decide +kernel
theorem dX12_lock_163 : decode cX12_lock 163 = .ok (.bipush 8, 2) := by decide +kernel
theorem dX12_lock_165 : decode cX12_lock 165 = .ok (.iload_n 1, 1) := by decide +kernel
theorem dX12_lock_166 : decode cX12_lock 166 = .ok (.imul, 1) := by decide +kernel
theorem dX12_lock_167 : decode cX12_lock 167 = .ok (.iload_n 2, 1) := by decide +kernel
theorem dX12_lock_168 : decode cX12_lock 168 = .ok (.iadd, 1) := by decide +kernel
theorem dX12_lock_169 : decode cX12_lock 169 = .ok (.iaload, 1) := by decide +kernel
theorem dX12_lock_170 : decode cX12_lock 170 = .ok (.iastore, 1) := by decide +kernel
theorem dX12_lock_171 : decode cX12_lock 171 = .ok (.aload_n 0, 1) := by decide +kernel
theorem dX12_lock_172 : decode cX12_lock 172 = .ok (.getfield 48, 3) := by decide +kernel
theorem dX12_lock_175 : decode cX12_lock 175 = .ok (.iload_n 3, 1) := by decide +kernel
theorem dX12_lock_176 : decode cX12_lock 176 = .ok (.iload_n 1, 1) := by decide +kernel
theorem dX12_lock_177 : decode cX12_lock 177 = .ok (.iastore, 1) := by decide +kernel
theorem dX12_lock_178 : decode cX12_lock 178 = .ok (.iinc 2 1, 3) := by decide +kernel
theorem dX12_lock_181 : decode cX12_lock 181 = .ok (.goto (-151), 3) := by decide +kernel
theorem dX12_lock_184 : decode cX12_lock 184 = .ok (.aload_n 0, 1) := by decide +kernel
theorem dX12_lock_185 : decode cX12_lock 185 = .ok (.iconst 4, 1) := by decide +kernel
theorem dX12_lock_186 : decode cX12_lock 186 = .ok (.aload_n 0, 1) := by decide +kernel
theorem dX12_lock_187 : decode cX12_lock 187 = .ok (.getfield 51, 3) := by decide +kernel
theorem dX12_lock_190 : decode cX12_lock 190 = .ok (.iload_n 1, 1) := by decide +kernel
theorem dX12_lock_191 : decode cX12_lock 191 = .ok (.iaload, 1) := by decide +kernel
theorem dX12_lock_192 : decode cX12_lock 192 = .ok (.invokevirtual 349, 3) := by decide +kernel
theorem dX12_lock_195 : decode cX12_lock 195 = .ok (.ireturn, 1) := by decide +kernel
set_option maxRecDepth 100000 in
set_option maxHeartbeats 4000000 in
theorem w_X12_lock_L72 {p : Program} {l : Launch} {e : Env} {R : Room} {s : State} {m : MethodId} {args : Array Value} {below : List Frame} {meth : Method} {c : Code} {dC : Nat → ClassId} {dI : Nat → Nat → Nat} {cs : Nat → ClassId} {ad : Nat → Nat} {A : Nat → Prop} {D0 : Nat → Nat} {S' : SS} {r : Int32} (F : Fx p s m args meth c cX12_lock 6 RX12 (some .int) dC dI cs A) (hR1 : 1 ≤ R.frames) (hR2 : 22 ≤ R.locals) : ∀ (n : Nat) (x1 : Int32) (x2 : Int32) (x4 : Int32) (x5 : Int32) (S : SS), f_X12_lock_L72 n x1 x2 x4 x5 S = some (r, S') → AW p l e R s m args below meth c dC dI cs ad A D0 (some (.int r)) S' 6 72 [(0, .ref (ad 14)), (1, .int x1), (2, .int x2), (4, .int x4), (5, .int x5)] [] S := by
  have hx := F.1.1
  have hb := F.1.2.1
  intro n
  induction n with
  | zero => intro x1 x2 x4 x5 S h; cases h
  | succ n ih =>
    intro x1 x2 x4 x5 S h H locs ls w hl
    rw [f_X12_lock_L72] at h
    refine lv_iload (pc := 72) hx hb dX12_lock_72 (lv_at hl 4 rfl) ?_
    refine lv_iload_n (pc := 74) hx hb dX12_lock_74 rfl (lv_at hl 2 rfl) ?_
    refine lv_icmp_ge (pc := 75) (tgt := 127) hx hb dX12_lock_75 (by decide) (fun q => ?_) (fun q => ?_)
    · have h := ite_t q h
      refine lv_aload_n (pc := 127) hx hb dX12_lock_127 rfl (lv_at hl 0 rfl) ?_
      refine lv_iload (pc := 128) hx hb dX12_lock_128 (lv_at hl 3 rfl) ?_
      obtain ⟨r17, S16, hc, h⟩ := bnd_t h
      refine s_cvi (pc := 130) [.int x4] (fun ad => [.ref (ad 14), .int x4]) F w (m_X12_found _ _ _ _ hc) rfl rfl hl.1 ds_14 vc_X12 rfl ok_X12_found rfl kc_X12_found kl_X12_210 ki_X12_found kv_X12_found kn_X12 ⟨Nat.le_trans (by decide) hR1, Nat.le_trans (by decide) hR2⟩ ⟨Nat.zero_le _, Nat.zero_le _⟩ (Nat.le_of_ble_eq_true rfl) dX12_lock_130 (fun H locs w => ?_)
      refine lv_pop (pc := 133) hx hb dX12_lock_133 rfl ?_
      refine lv_aload_n (pc := 134) hx hb dX12_lock_134 rfl (lv_at hl 0 rfl) ?_
      refine lv_iconst (pc := 135) (v := 4) hx hb dX12_lock_135 (by decide) ?_
      refine lv_bipush (pc := 136) (v := -2) hx hb dX12_lock_136 (by decide) ?_
      obtain ⟨r19, S18, hc, h⟩ := bnd_t h
      refine s_cvi (pc := 138) [.int (4 : Int32), .int (-2 : Int32)] (fun ad => [.ref (ad 14), .int (4 : Int32), .int (-2 : Int32)]) F w (m_X12_entered _ _ _ _ _ hc) rfl rfl hl.1 ds_14 vc_X12 rfl ok_X12_entered rfl kc_X12_entered kl_X12_349 ki_X12_entered kv_X12_entered kn_X12 ⟨Nat.le_trans (by decide) hR1, Nat.le_trans (by decide) hR2⟩ ⟨Nat.zero_le _, Nat.zero_le _⟩ (Nat.le_of_ble_eq_true rfl) dX12_lock_138 (fun H locs w => ?_)
      exact s_iret F w h dX12_lock_141
    · have h := ite_f q h
      refine lv_aload_n (pc := 78) hx hb dX12_lock_78 rfl (lv_at hl 0 rfl) ?_
      refine s_getR (pc := 79) F w 78 ds_14 (j := 18) vc_X12 vi_X12 rfl (by decide) kf_X12_48 dX12_lock_79 ?_
      refine lv_aload_n (pc := 82) hx hb dX12_lock_82 rfl (lv_at hl 0 rfl) ?_
      refine s_getR (pc := 83) F w 80 ds_14 (j := 21) vc_X12 vi_X12 rfl (by decide) kf_X12_54 dX12_lock_83 ?_
      refine lv_bipush (pc := 86) (v := 8) hx hb dX12_lock_86 (by decide) ?_
      refine lv_iload_n (pc := 88) hx hb dX12_lock_88 rfl (lv_at hl 1 rfl) ?_
      refine lv_imul (pc := 89) hx hb dX12_lock_89 ?_
      refine lv_iload (pc := 90) hx hb dX12_lock_90 (lv_at hl 4 rfl) ?_
      refine lv_iadd (pc := 92) hx hb dX12_lock_92 ?_
      refine s_iald (pc := 93) F w ds_80 h dX12_lock_93 (fun h => ?_)
      refine lv_bipush (pc := 94) (v := -4) hx hb dX12_lock_94 (by decide) ?_
      refine s_iast (pc := 96) F w ds_78 h dX12_lock_96 (fun S20 H locs h w => ?_)
      refine lv_aload_n (pc := 97) hx hb dX12_lock_97 rfl (lv_at hl 0 rfl) ?_
      refine s_getR (pc := 98) F w 77 ds_14 (j := 17) vc_X12 vi_X12 rfl (by decide) kf_X12_45 dX12_lock_98 ?_
      refine lv_aload_n (pc := 101) hx hb dX12_lock_101 rfl (lv_at hl 0 rfl) ?_
      refine s_getR (pc := 102) F w 80 ds_14 (j := 21) vc_X12 vi_X12 rfl (by decide) kf_X12_54 dX12_lock_102 ?_
      refine lv_bipush (pc := 105) (v := 8) hx hb dX12_lock_105 (by decide) ?_
      refine lv_iload_n (pc := 107) hx hb dX12_lock_107 rfl (lv_at hl 1 rfl) ?_
      refine lv_imul (pc := 108) hx hb dX12_lock_108 ?_
      refine lv_iload (pc := 109) hx hb dX12_lock_109 (lv_at hl 4 rfl) ?_
      refine lv_iadd (pc := 111) hx hb dX12_lock_111 ?_
      refine s_iald (pc := 112) F w ds_80 h dX12_lock_112 (fun h => ?_)
      refine lv_aload_n (pc := 113) hx hb dX12_lock_113 rfl (lv_at hl 0 rfl) ?_
      refine s_getR (pc := 114) F w 110 ds_14 (j := 65) vc_X12 vi_X12 rfl (by decide) kf_X12_144 dX12_lock_114 ?_
      refine lv_iload (pc := 117) hx hb dX12_lock_117 (lv_at hl 4 rfl) ?_
      refine s_iald (pc := 119) F w ds_110 h dX12_lock_119 (fun h => ?_)
      refine s_iast (pc := 120) F w ds_77 h dX12_lock_120 (fun S21 H locs h w => ?_)
      refine s_nm h (fun z22 ez22 h => ?_)
      refine lv_iinc (pc := 121) (v := z22) (lv' := [(5, .int z22), (0, .ref (ad 14)), (1, .int x1), (2, .int x2), (4, .int x4)]) hx hb dX12_lock_121 hl (k := 4) rfl (by rw [ez22]; rfl) (by decide) rfl (fun ls hl => ?_)
      refine lv_goto (pc := 124) (tgt := 72) hx hb dX12_lock_124 (by decide) ?_
      exact ih _ _ _ _ _ h _ _ _ w (lv_sub hl [1, 2, 3, 4, 0] rfl)
set_option maxRecDepth 100000 in
set_option maxHeartbeats 4000000 in
theorem w_X12_lock_L30 {p : Program} {l : Launch} {e : Env} {R : Room} {s : State} {m : MethodId} {args : Array Value} {below : List Frame} {meth : Method} {c : Code} {dC : Nat → ClassId} {dI : Nat → Nat → Nat} {cs : Nat → ClassId} {ad : Nat → Nat} {A : Nat → Prop} {D0 : Nat → Nat} {S' : SS} {r : Int32} (F : Fx p s m args meth c cX12_lock 6 RX12 (some .int) dC dI cs A) (hR1 : 3 ≤ R.frames) (hR2 : 67 ≤ R.locals) : ∀ (n : Nat) (x1 : Int32) (x2 : Int32) (S : SS), f_X12_lock_L30 n x1 x2 S = some (r, S') → AW p l e R s m args below meth c dC dI cs ad A D0 (some (.int r)) S' 6 30 [(0, .ref (ad 14)), (1, .int x1), (2, .int x2)] [] S := by
  have hx := F.1.1
  have hb := F.1.2.1
  intro n
  induction n with
  | zero => intro x1 x2 S h; cases h
  | succ n ih =>
    intro x1 x2 S h H locs ls w hl
    rw [f_X12_lock_L30] at h
    refine lv_iload_n (pc := 30) hx hb dX12_lock_30 rfl (lv_at hl 2 rfl) ?_
    refine lv_aload_n (pc := 31) hx hb dX12_lock_31 rfl (lv_at hl 0 rfl) ?_
    refine s_getR (pc := 32) F w 79 ds_14 (j := 20) vc_X12 vi_X12 rfl (by decide) kf_X12_51 dX12_lock_32 ?_
    refine lv_iload_n (pc := 35) hx hb dX12_lock_35 rfl (lv_at hl 1 rfl) ?_
    refine s_iald (pc := 36) F w ds_79 h dX12_lock_36 (fun h => ?_)
    refine lv_icmp_ge (pc := 37) (tgt := 184) hx hb dX12_lock_37 (by decide) (fun q => ?_) (fun q => ?_)
    · have h := ite_t q h
      refine lv_aload_n (pc := 184) hx hb dX12_lock_184 rfl (lv_at hl 0 rfl) ?_
      refine lv_iconst (pc := 185) (v := 4) hx hb dX12_lock_185 (by decide) ?_
      refine lv_aload_n (pc := 186) hx hb dX12_lock_186 rfl (lv_at hl 0 rfl) ?_
      refine s_getR (pc := 187) F w 79 ds_14 (j := 20) vc_X12 vi_X12 rfl (by decide) kf_X12_51 dX12_lock_187 ?_
      refine lv_iload_n (pc := 190) hx hb dX12_lock_190 rfl (lv_at hl 1 rfl) ?_
      refine s_iald (pc := 191) F w ds_79 h dX12_lock_191 (fun h => ?_)
      obtain ⟨r8, S7, hc, h⟩ := bnd_t h
      refine s_cvi (pc := 192) [.int (4 : Int32), .int (S.1 79 x1.toNatClampNeg)] (fun ad => [.ref (ad 14), .int (4 : Int32), .int (S.1 79 x1.toNatClampNeg)]) F w (m_X12_entered _ _ _ _ _ hc) rfl rfl hl.1 ds_14 vc_X12 rfl ok_X12_entered rfl kc_X12_entered kl_X12_349 ki_X12_entered kv_X12_entered kn_X12 ⟨Nat.le_trans (by decide) hR1, Nat.le_trans (by decide) hR2⟩ ⟨Nat.zero_le _, Nat.zero_le _⟩ (Nat.le_of_ble_eq_true rfl) dX12_lock_192 (fun H locs w => ?_)
      exact s_iret F w h dX12_lock_195
    · have h := ite_f q h
      refine lv_aload_n (pc := 40) hx hb dX12_lock_40 rfl (lv_at hl 0 rfl) ?_
      refine s_getR (pc := 41) F w 80 ds_14 (j := 21) vc_X12 vi_X12 rfl (by decide) kf_X12_54 dX12_lock_41 ?_
      refine lv_bipush (pc := 44) (v := 8) hx hb dX12_lock_44 (by decide) ?_
      refine lv_iload_n (pc := 46) hx hb dX12_lock_46 rfl (lv_at hl 1 rfl) ?_
      refine lv_imul (pc := 47) hx hb dX12_lock_47 ?_
      refine lv_iload_n (pc := 48) hx hb dX12_lock_48 rfl (lv_at hl 2 rfl) ?_
      refine lv_iadd (pc := 49) hx hb dX12_lock_49 ?_
      refine s_iald (pc := 50) F w ds_80 h dX12_lock_50 (fun h => ?_)
      refine s_nm h (fun z9 ez9 h => ?_)
      rw [← ez9]
      refine lv_istore_n (pc := 51) (lv' := [(3, .int z9), (0, .ref (ad 14)), (1, .int x1), (2, .int x2)]) hx hb dX12_lock_51 rfl hl (by decide) rfl (fun ls hl => ?_)
      refine lv_aload_n (pc := 52) hx hb dX12_lock_52 rfl (lv_at hl 1 rfl) ?_
      refine lv_bipush (pc := 53) (v := 8) hx hb dX12_lock_53 (by decide) ?_
      refine lv_iload_n (pc := 55) hx hb dX12_lock_55 rfl (lv_at hl 2 rfl) ?_
      refine lv_imul (pc := 56) hx hb dX12_lock_56 ?_
      refine lv_iload_n (pc := 57) hx hb dX12_lock_57 rfl (lv_at hl 3 rfl) ?_
      refine lv_iadd (pc := 58) hx hb dX12_lock_58 ?_
      obtain ⟨r11, S10, hc, h⟩ := bnd_t h
      refine s_cvi (pc := 59) [.int (((8 : Int32) * x1) + x2)] (fun ad => [.ref (ad 14), .int (((8 : Int32) * x1) + x2)]) F w (m_X12_missEntry _ _ _ _ hc) rfl rfl hl.1 ds_14 vc_X12 rfl ok_X12_missEntry rfl kc_X12_missEntry kl_X12_361 ki_X12_missEntry kv_X12_missEntry kn_X12 ⟨Nat.le_trans (by decide) hR1, Nat.le_trans (by decide) hR2⟩ ⟨Nat.zero_le _, Nat.zero_le _⟩ (Nat.le_of_ble_eq_true rfl) dX12_lock_59 (fun H locs w => ?_)
      refine lv_istore (pc := 62) (lv' := [(4, .int r11), (3, .int z9), (0, .ref (ad 14)), (1, .int x1), (2, .int x2)]) hx hb dX12_lock_62 hl (by decide) rfl (fun ls hl => ?_)
      refine lv_iload (pc := 64) hx hb dX12_lock_64 (lv_at hl 0 rfl) ?_
      refine lv_if_eq (pc := 66) (tgt := 142) hx hb dX12_lock_66 (by decide) (fun q => ?_) (fun q => ?_)
      · have h := ite_t q h
        refine lv_aload_n (pc := 142) hx hb dX12_lock_142 rfl (lv_at hl 2 rfl) ?_
        refine s_getR (pc := 143) F w 110 ds_14 (j := 65) vc_X12 vi_X12 rfl (by decide) kf_X12_144 dX12_lock_143 ?_
        refine lv_iload_n (pc := 146) hx hb dX12_lock_146 rfl (lv_at hl 4 rfl) ?_
        refine lv_aload_n (pc := 147) hx hb dX12_lock_147 rfl (lv_at hl 2 rfl) ?_
        refine s_getR (pc := 148) F w 77 ds_14 (j := 17) vc_X12 vi_X12 rfl (by decide) kf_X12_45 dX12_lock_148 ?_
        refine lv_iload_n (pc := 151) hx hb dX12_lock_151 rfl (lv_at hl 1 rfl) ?_
        refine s_iald (pc := 152) F w ds_77 h dX12_lock_152 (fun h => ?_)
        refine s_iast (pc := 153) F w ds_110 h dX12_lock_153 (fun S12 H locs h w => ?_)
        refine lv_aload_n (pc := 154) hx hb dX12_lock_154 rfl (lv_at hl 2 rfl) ?_
        refine s_getR (pc := 155) F w 77 ds_14 (j := 17) vc_X12 vi_X12 rfl (by decide) kf_X12_45 dX12_lock_155 ?_
        refine lv_iload_n (pc := 158) hx hb dX12_lock_158 rfl (lv_at hl 1 rfl) ?_
        refine lv_aload_n (pc := 159) hx hb dX12_lock_159 rfl (lv_at hl 2 rfl) ?_
        refine s_getR (pc := 160) F w 81 ds_14 (j := 22) vc_X12 vi_X12 rfl (by decide) kf_X12_57 dX12_lock_160 ?_
        refine lv_bipush (pc := 163) (v := 8) hx hb dX12_lock_163 (by decide) ?_
        refine lv_iload_n (pc := 165) hx hb dX12_lock_165 rfl (lv_at hl 3 rfl) ?_
        refine lv_imul (pc := 166) hx hb dX12_lock_166 ?_
        refine lv_iload_n (pc := 167) hx hb dX12_lock_167 rfl (lv_at hl 4 rfl) ?_
        refine lv_iadd (pc := 168) hx hb dX12_lock_168 ?_
        refine s_iald (pc := 169) F w ds_81 h dX12_lock_169 (fun h => ?_)
        refine s_iast (pc := 170) F w ds_77 h dX12_lock_170 (fun S13 H locs h w => ?_)
        refine lv_aload_n (pc := 171) hx hb dX12_lock_171 rfl (lv_at hl 2 rfl) ?_
        refine s_getR (pc := 172) F w 78 ds_14 (j := 18) vc_X12 vi_X12 rfl (by decide) kf_X12_48 dX12_lock_172 ?_
        refine lv_iload_n (pc := 175) hx hb dX12_lock_175 rfl (lv_at hl 1 rfl) ?_
        refine lv_iload_n (pc := 176) hx hb dX12_lock_176 rfl (lv_at hl 3 rfl) ?_
        refine s_iast (pc := 177) F w ds_78 h dX12_lock_177 (fun S14 H locs h w => ?_)
        refine s_nm h (fun z15 ez15 h => ?_)
        refine lv_iinc (pc := 178) (v := z15) (lv' := [(2, .int z15), (4, .int r11), (3, .int z9), (0, .ref (ad 14)), (1, .int x1)]) hx hb dX12_lock_178 hl (k := 4) rfl (by rw [ez15]; rfl) (by decide) rfl (fun ls hl => ?_)
        refine lv_goto (pc := 181) (tgt := 30) hx hb dX12_lock_181 (by decide) ?_
        exact ih _ _ _ h _ _ _ w (lv_sub hl [3, 4, 0] rfl)
      · have h := ite_f q h
        refine lv_iconst (pc := 69) (v := 0) hx hb dX12_lock_69 (by decide) ?_
        refine lv_istore (pc := 70) (lv' := [(5, .int (0 : Int32)), (4, .int r11), (3, .int z9), (0, .ref (ad 14)), (1, .int x1), (2, .int x2)]) hx hb dX12_lock_70 hl (by decide) rfl (fun ls hl => ?_)
        exact w_X12_lock_L72 F (Nat.le_trans (by decide) hR1) (Nat.le_trans (by decide) hR2) _ _ _ _ _ _ h _ _ _ w (lv_sub hl [3, 4, 5, 1, 0] rfl)
set_option maxRecDepth 100000 in
set_option maxHeartbeats 4000000 in
theorem m_X12_lock (a1 : Int32) (S S' : SS) (r : Int32) (h : f_X12_lock a1 S = some (r, S')) : MT yX12_lock cX12_lock 6 (some .int) 3 67 (fun ad => [.ref (ad 14), .int a1]) S (some (.int r)) S' := by
  refine MT.of RX12 (fun ad => [(0, .ref (ad 14)), (1, .int a1)]) (by decide) rfl (fun _ => Nat.le_of_ble_eq_true rfl) (fun _ => rfl) ?_
  intro p l e R s m args below meth c dC dI cs ad A hR1 hR2 F H locs ls w hl
  have hx := F.1.1
  have hb := F.1.2.1
  rw [f_X12_lock] at h
  refine lv_aload_n (pc := 0) hx hb dX12_lock_0 rfl (lv_at hl 0 rfl) ?_
  obtain ⟨S1, hc, h⟩ := bndv_t h
  refine s_cvv (pc := 1) [] (fun ad => [.ref (ad 14)]) F w (m_X12_begin  _ _ hc) rfl rfl hl.1 ds_14 vc_X12 rfl ok_X12_begin rfl kc_X12_begin kl_X12_226 ki_X12_begin kv_X12_begin kn_X12 ⟨Nat.le_trans (by decide) hR1, Nat.le_trans (by decide) hR2⟩ ⟨Nat.zero_le _, Nat.zero_le _⟩ (Nat.le_of_ble_eq_true rfl) dX12_lock_1 (fun H locs w => ?_)
  refine lv_aload_n (pc := 4) hx hb dX12_lock_4 rfl (lv_at hl 0 rfl) ?_
  obtain ⟨S2, hc, h⟩ := bndv_t h
  refine s_cvv (pc := 5) [] (fun ad => [.ref (ad 14)]) F w (m_X12_keep  _ _ hc) rfl rfl hl.1 ds_14 vc_X12 rfl ok_X12_keep rfl kc_X12_keep kl_X12_346 ki_X12_keep kv_X12_keep kn_X12 ⟨Nat.le_trans (by decide) hR1, Nat.le_trans (by decide) hR2⟩ ⟨Nat.zero_le _, Nat.zero_le _⟩ (Nat.le_of_ble_eq_true rfl) dX12_lock_5 (fun H locs w => ?_)
  refine lv_aload_n (pc := 8) hx hb dX12_lock_8 rfl (lv_at hl 0 rfl) ?_
  refine lv_aload_n (pc := 9) hx hb dX12_lock_9 rfl (lv_at hl 0 rfl) ?_
  refine lv_iload_n (pc := 10) hx hb dX12_lock_10 rfl (lv_at hl 1 rfl) ?_
  obtain ⟨r4, S3, hc, h⟩ := bnd_t h
  refine s_cvi (pc := 11) [.int a1] (fun ad => [.ref (ad 14), .int a1]) F w (m_X12_missRoute _ _ _ _ hc) rfl rfl hl.1 ds_14 vc_X12 rfl ok_X12_missRoute rfl kc_X12_missRoute kl_X12_260 ki_X12_missRoute kv_X12_missRoute kn_X12 ⟨Nat.le_trans (by decide) hR1, Nat.le_trans (by decide) hR2⟩ ⟨Nat.zero_le _, Nat.zero_le _⟩ (Nat.le_of_ble_eq_true rfl) dX12_lock_11 (fun H locs w => ?_)
  obtain ⟨r6, S5, hc, h⟩ := bnd_t h
  refine s_cvi (pc := 14) [.int r4] (fun ad => [.ref (ad 14), .int r4]) F w (m_X12_ends _ _ _ _ hc) rfl rfl hl.1 ds_14 vc_X12 rfl ok_X12_ends rfl kc_X12_ends kl_X12_236 ki_X12_ends kv_X12_ends kn_X12 ⟨Nat.le_trans (by decide) hR1, Nat.le_trans (by decide) hR2⟩ ⟨Nat.zero_le _, Nat.zero_le _⟩ (Nat.le_of_ble_eq_true rfl) dX12_lock_14 (fun H locs w => ?_)
  refine lv_if_eq (pc := 17) (tgt := 28) hx hb dX12_lock_17 (by decide) (fun q => ?_) (fun q => ?_)
  · have h := ite_t q h
    refine lv_iconst (pc := 28) (v := 0) hx hb dX12_lock_28 (by decide) ?_
    refine lv_istore_n (pc := 29) (lv' := [(2, .int (0 : Int32)), (0, .ref (ad 14)), (1, .int a1)]) hx hb dX12_lock_29 rfl hl (by decide) rfl (fun ls hl => ?_)
    exact w_X12_lock_L30 F (Nat.le_trans (by decide) hR1) (Nat.le_trans (by decide) hR2) _ _ _ _ h _ _ _ w (lv_sub hl [1, 2, 0] rfl)
  · have h := ite_f q h
    refine lv_aload_n (pc := 20) hx hb dX12_lock_20 rfl (lv_at hl 0 rfl) ?_
    refine lv_iconst (pc := 21) (v := 4) hx hb dX12_lock_21 (by decide) ?_
    refine lv_bipush (pc := 22) (v := -2) hx hb dX12_lock_22 (by decide) ?_
    obtain ⟨r24, S23, hc, h⟩ := bnd_t h
    refine s_cvi (pc := 24) [.int (4 : Int32), .int (-2 : Int32)] (fun ad => [.ref (ad 14), .int (4 : Int32), .int (-2 : Int32)]) F w (m_X12_entered _ _ _ _ _ hc) rfl rfl hl.1 ds_14 vc_X12 rfl ok_X12_entered rfl kc_X12_entered kl_X12_349 ki_X12_entered kv_X12_entered kn_X12 ⟨Nat.le_trans (by decide) hR1, Nat.le_trans (by decide) hR2⟩ ⟨Nat.zero_le _, Nat.zero_le _⟩ (Nat.le_of_ble_eq_true rfl) dX12_lock_24 (fun H locs w => ?_)
    exact s_iret F w h dX12_lock_27
def f_X6_freeAll_j73 (K28 : Int32 → Int32 → Int32 → SS → Option (Int32 × SS)) (x1 : Int32) (x3 : Int32) (x4 : Int32) (S : SS) : Option (Int32 × SS) :=
    nm (x4 + (1 : Int32)) (fun z7 =>
    K28 x1 x3 z7 S)
def f_X6_freeAll_L28  : Nat → Int32 → Int32 → Int32 → SS → Option (Int32 × SS)
  | 0, _, _, _, _ => none
  | n + 1, x1, x3, x4, S =>
    if (S.1 5 8) ≤ x4 then
      some (x3, S)
    else
      bnd (f_X8_locker x4 S) (fun r6 S5 =>
      if r6 = x1 then
        bnd (f_X8_setting x4 S5) (fun r9 S8 =>
        bndv (f_X8_setPoint x4 r9 (-4 : Int32) S8) (fun S10 =>
        f_X6_freeAll_j73 (fun v0 v1 v2 S => f_X6_freeAll_L28 n v0 v1 v2 S) x1 x3 x4 S10))
      else
        f_X6_freeAll_j73 (fun v0 v1 v2 S => f_X6_freeAll_L28 n v0 v1 v2 S) x1 x3 x4 S5)
def f_X6_freeAll (a1 : Int32) (S : SS) : Option (Int32 × SS) :=
  bnd (f_X6_routeFinding a1 S) (fun r2 S1 =>
  if r2 = 0 then
    bnd (f_X6_lockedBy a1 S1) (fun r4 S3 =>
    f_X6_freeAll_L28 NF a1 r4 (0 : Int32) S3)
  else
    bnd (f_X5_found r2 S1) (fun r12 S11 =>
    some (r12, S11)))
theorem dX6_freeAll_0 : decode cX6_freeAll 0 = .ok (.aload_n 0, 1) := by decide +kernel
theorem dX6_freeAll_1 : decode cX6_freeAll 1 = .ok (.iload_n 1, 1) := by decide +kernel
theorem dX6_freeAll_2 : decode cX6_freeAll 2 = .ok (.invokevirtual 111, 3) := by decide +kernel
theorem dX6_freeAll_5 : decode cX6_freeAll 5 = .ok (.istore_n 2, 1) := by decide +kernel
theorem dX6_freeAll_6 : decode cX6_freeAll 6 = .ok (.iload_n 2, 1) := by decide +kernel
theorem dX6_freeAll_7 : decode cX6_freeAll 7 = .ok (.ifCond .eq 12, 3) := by decide +kernel
theorem dX6_freeAll_10 : decode cX6_freeAll 10 = .ok (.aload_n 0, 1) := by decide +kernel
theorem dX6_freeAll_11 : decode cX6_freeAll 11 = .ok (.getfield 39, 3) := by decide +kernel
theorem dX6_freeAll_14 : decode cX6_freeAll 14 = .ok (.iload_n 2, 1) := by decide +kernel
theorem dX6_freeAll_15 : decode cX6_freeAll 15 = .ok (.invokevirtual 88, 3) := by decide +kernel
theorem dX6_freeAll_18 : decode cX6_freeAll 18 = .ok (.ireturn, 1) := by decide +kernel
theorem dX6_freeAll_19 : decode cX6_freeAll 19 = .ok (.aload_n 0, 1) := by decide +kernel
theorem dX6_freeAll_20 : decode cX6_freeAll 20 = .ok (.iload_n 1, 1) := by decide +kernel
theorem dX6_freeAll_21 : decode cX6_freeAll 21 = .ok (.invokevirtual 47, 3) := by decide +kernel
theorem dX6_freeAll_24 : decode cX6_freeAll 24 = .ok (.istore_n 3, 1) := by decide +kernel
theorem dX6_freeAll_25 : decode cX6_freeAll 25 = .ok (.iconst 0, 1) := by decide +kernel
theorem dX6_freeAll_26 : decode cX6_freeAll 26 = .ok (.istore 4, 2) := by decide +kernel
theorem dX6_freeAll_28 : decode cX6_freeAll 28 = .ok (.iload 4, 2) := by decide +kernel
theorem dX6_freeAll_30 : decode cX6_freeAll 30 = .ok (.aload_n 0, 1) := by decide +kernel
theorem dX6_freeAll_31 : decode cX6_freeAll 31 = .ok (.getfield 35, 3) := by decide +kernel
theorem dX6_freeAll_34 : decode cX6_freeAll 34 = .ok (.getfield 53, 3) := by decide +kernel
theorem dX6_freeAll_37 : decode cX6_freeAll 37 = .ok (.if_icmp .ge 42, 3) := by decide +kernel
theorem dX6_freeAll_40 : decode cX6_freeAll 40 = .ok (.aload_n 0, 1) := by decide +kernel
theorem dX6_freeAll_41 : decode cX6_freeAll 41 = .ok (.getfield 31, 3) := by decide +kernel
theorem dX6_freeAll_44 : decode cX6_freeAll 44 = .ok (.iload 4, 2) := by decide +kernel
theorem dX6_freeAll_46 : decode cX6_freeAll 46 = .ok (.invokevirtual 58, 3) := by decide +kernel
theorem dX6_freeAll_49 : decode cX6_freeAll 49 = .ok (.iload_n 1, 1) := by decide +kernel
theorem dX6_freeAll_50 : decode cX6_freeAll 50 = .ok (.if_icmp .ne 23, 3) := by decide +kernel
theorem dX6_freeAll_53 : decode cX6_freeAll 53 = .ok (.aload_n 0, 1) := by decide +kernel
theorem dX6_freeAll_54 : decode cX6_freeAll 54 = .ok (.getfield 31, 3) := by decide +kernel
theorem dX6_freeAll_57 : decode cX6_freeAll 57 = .ok (.iload 4, 2) := by decide +kernel
theorem dX6_freeAll_59 : decode cX6_freeAll 59 = .ok (.aload_n 0, 1) := by decide +kernel
theorem dX6_freeAll_60 : decode cX6_freeAll 60 = .ok (.getfield 31, 3) := by decide +kernel
theorem dX6_freeAll_63 : decode cX6_freeAll 63 = .ok (.iload 4, 2) := by decide +kernel
theorem dX6_freeAll_65 : decode cX6_freeAll 65 = .ok (.invokevirtual 82, 3) := by decide +kernel
theorem dX6_freeAll_68 : decode cX6_freeAll 68 = .ok (.bipush (-4), 2) := by decide +kernel
theorem dX6_freeAll_70 : decode cX6_freeAll 70 = .ok (.invokevirtual 91, 3) := by decide +kernel
theorem dX6_freeAll_73 : decode cX6_freeAll 73 = .ok (.iinc 4 1, 3) := by decide +kernel
theorem dX6_freeAll_76 : decode cX6_freeAll 76 = .ok (.goto (-48), 3) := by decide +kernel
theorem dX6_freeAll_79 : decode cX6_freeAll 79 = .ok (.iload_n 3, 1) := by decide +kernel
theorem dX6_freeAll_80 : decode cX6_freeAll 80 = .ok (.ireturn, 1) := by decide +kernel
set_option maxRecDepth 100000 in
set_option maxHeartbeats 4000000 in
theorem w_X6_freeAll_j73 {p : Program} {l : Launch} {e : Env} {R : Room} {s : State} {m : MethodId} {args : Array Value} {below : List Frame} {meth : Method} {c : Code} {dC : Nat → ClassId} {dI : Nat → Nat → Nat} {cs : Nat → ClassId} {ad : Nat → Nat} {A : Nat → Prop} {D0 : Nat → Nat} {S' : SS} {r : Int32} (F : Fx p s m args meth c cX6_freeAll 5 RX6 (some .int) dC dI cs A) (hR1 : 0 ≤ R.frames) (hR2 : 0 ≤ R.locals) (K28 : Int32 → Int32 → Int32 → SS → Option (Int32 × SS)) (hK28 : ∀ (v0 : Int32) (v1 : Int32) (v2 : Int32) (S : SS), K28 v0 v1 v2 S = some (r, S') → AW p l e R s m args below meth c dC dI cs ad A D0 (some (.int r)) S' 5 28 [(0, .ref (ad 6)), (1, .int v0), (3, .int v1), (4, .int v2)] [] S) (x1 : Int32) (x3 : Int32) (x4 : Int32) (S : SS) (h : f_X6_freeAll_j73 K28 x1 x3 x4 S = some (r, S')) : AW p l e R s m args below meth c dC dI cs ad A D0 (some (.int r)) S' 5 73 [(0, .ref (ad 6)), (1, .int x1), (3, .int x3), (4, .int x4)] [] S := by
  have hx := F.1.1
  have hb := F.1.2.1
  intro H locs ls w hl
  rw [f_X6_freeAll_j73] at h
  refine s_nm h (fun z7 ez7 h => ?_)
  refine lv_iinc (pc := 73) (v := z7) (lv' := [(4, .int z7), (0, .ref (ad 6)), (1, .int x1), (3, .int x3)]) hx hb dX6_freeAll_73 hl (k := 3) rfl (by rw [ez7]; rfl) (by decide) rfl (fun ls hl => ?_)
  refine lv_goto (pc := 76) (tgt := 28) hx hb dX6_freeAll_76 (by decide) ?_
  exact hK28 _ _ _ _ h _ _ _ w (lv_sub hl [1, 2, 3, 0] rfl)
set_option maxRecDepth 100000 in
set_option maxHeartbeats 4000000 in
theorem w_X6_freeAll_L28 {p : Program} {l : Launch} {e : Env} {R : Room} {s : State} {m : MethodId} {args : Array Value} {below : List Frame} {meth : Method} {c : Code} {dC : Nat → ClassId} {dI : Nat → Nat → Nat} {cs : Nat → ClassId} {ad : Nat → Nat} {A : Nat → Prop} {D0 : Nat → Nat} {S' : SS} {r : Int32} (F : Fx p s m args meth c cX6_freeAll 5 RX6 (some .int) dC dI cs A) (hR1 : 1 ≤ R.frames) (hR2 : 23 ≤ R.locals) : ∀ (n : Nat) (x1 : Int32) (x3 : Int32) (x4 : Int32) (S : SS), f_X6_freeAll_L28 n x1 x3 x4 S = some (r, S') → AW p l e R s m args below meth c dC dI cs ad A D0 (some (.int r)) S' 5 28 [(0, .ref (ad 6)), (1, .int x1), (3, .int x3), (4, .int x4)] [] S := by
  have hx := F.1.1
  have hb := F.1.2.1
  intro n
  induction n with
  | zero => intro x1 x3 x4 S h; cases h
  | succ n ih =>
    intro x1 x3 x4 S h H locs ls w hl
    rw [f_X6_freeAll_L28] at h
    refine lv_iload (pc := 28) hx hb dX6_freeAll_28 (lv_at hl 3 rfl) ?_
    refine lv_aload_n (pc := 30) hx hb dX6_freeAll_30 rfl (lv_at hl 0 rfl) ?_
    refine s_getR (pc := 31) F w 5 ds_6 (j := 1) vc_X6 vi_X6 rfl (by decide) kf_X6_35 dX6_freeAll_31 ?_
    refine s_getI (pc := 34) F w ds_5 (j := 8) vc_X2 vi_X2 rfl (by decide) kf_X6_53 dX6_freeAll_34 ?_
    refine lv_icmp_ge (pc := 37) (tgt := 79) hx hb dX6_freeAll_37 (by decide) (fun q => ?_) (fun q => ?_)
    · have h := ite_t q h
      refine lv_iload_n (pc := 79) hx hb dX6_freeAll_79 rfl (lv_at hl 2 rfl) ?_
      exact s_iret F w h dX6_freeAll_80
    · have h := ite_f q h
      refine lv_aload_n (pc := 40) hx hb dX6_freeAll_40 rfl (lv_at hl 0 rfl) ?_
      refine s_getR (pc := 41) F w 2 ds_6 (j := 0) vc_X6 vi_X6 rfl (by decide) kf_X6_31 dX6_freeAll_41 ?_
      refine lv_iload (pc := 44) hx hb dX6_freeAll_44 (lv_at hl 3 rfl) ?_
      obtain ⟨r6, S5, hc, h⟩ := bnd_t h
      refine s_cvi (pc := 46) [.int x4] (fun ad => [.ref (ad 2), .int x4]) F w (m_X8_locker _ _ _ _ hc) rfl rfl hl.1 ds_2 vc_X8 rfl ok_X8_locker rfl kc_X8_locker kl_X6_58 ki_X8_locker kv_X8_locker kn_X8 ⟨Nat.le_trans (by decide) hR1, Nat.le_trans (by decide) hR2⟩ ⟨Nat.zero_le _, Nat.zero_le _⟩ (Nat.le_of_ble_eq_true rfl) dX6_freeAll_46 (fun H locs w => ?_)
      refine lv_iload_n (pc := 49) hx hb dX6_freeAll_49 rfl (lv_at hl 1 rfl) ?_
      refine lv_icmp_ne (pc := 50) (tgt := 73) hx hb dX6_freeAll_50 (by decide) (fun q => ?_) (fun q => ?_)
      · have h := ite_f q h
        exact w_X6_freeAll_j73 F (Nat.le_trans (by decide) hR1) (Nat.le_trans (by decide) hR2) _ (fun v0 v1 v2 S h => ih v0 v1 v2 S h) _ _ _ _ h _ _ _ w (lv_sub hl [0, 1, 2, 3] rfl)
      · have h := ite_t q h
        refine lv_aload_n (pc := 53) hx hb dX6_freeAll_53 rfl (lv_at hl 0 rfl) ?_
        refine s_getR (pc := 54) F w 2 ds_6 (j := 0) vc_X6 vi_X6 rfl (by decide) kf_X6_31 dX6_freeAll_54 ?_
        refine lv_iload (pc := 57) hx hb dX6_freeAll_57 (lv_at hl 3 rfl) ?_
        refine lv_aload_n (pc := 59) hx hb dX6_freeAll_59 rfl (lv_at hl 0 rfl) ?_
        refine s_getR (pc := 60) F w 2 ds_6 (j := 0) vc_X6 vi_X6 rfl (by decide) kf_X6_31 dX6_freeAll_60 ?_
        refine lv_iload (pc := 63) hx hb dX6_freeAll_63 (lv_at hl 3 rfl) ?_
        obtain ⟨r9, S8, hc, h⟩ := bnd_t h
        refine s_cvi (pc := 65) [.int x4] (fun ad => [.ref (ad 2), .int x4]) F w (m_X8_setting _ _ _ _ hc) rfl rfl hl.1 ds_2 vc_X8 rfl ok_X8_setting rfl kc_X8_setting kl_X6_82 ki_X8_setting kv_X8_setting kn_X8 ⟨Nat.le_trans (by decide) hR1, Nat.le_trans (by decide) hR2⟩ ⟨Nat.zero_le _, Nat.zero_le _⟩ (Nat.le_of_ble_eq_true rfl) dX6_freeAll_65 (fun H locs w => ?_)
        refine lv_bipush (pc := 68) (v := -4) hx hb dX6_freeAll_68 (by decide) ?_
        obtain ⟨S10, hc, h⟩ := bndv_t h
        refine s_cvv (pc := 70) [.int x4, .int r9, .int (-4 : Int32)] (fun ad => [.ref (ad 2), .int x4, .int r9, .int (-4 : Int32)]) F w (m_X8_setPoint _ _ _ _ _ hc) rfl rfl hl.1 ds_2 vc_X8 rfl ok_X8_setPoint rfl kc_X8_setPoint kl_X6_91 ki_X8_setPoint kv_X8_setPoint kn_X8 ⟨Nat.le_trans (by decide) hR1, Nat.le_trans (by decide) hR2⟩ ⟨Nat.zero_le _, Nat.zero_le _⟩ (Nat.le_of_ble_eq_true rfl) dX6_freeAll_70 (fun H locs w => ?_)
        exact w_X6_freeAll_j73 F (Nat.le_trans (by decide) hR1) (Nat.le_trans (by decide) hR2) _ (fun v0 v1 v2 S h => ih v0 v1 v2 S h) _ _ _ _ h _ _ _ w (lv_sub hl [0, 1, 2, 3] rfl)
set_option maxRecDepth 100000 in
set_option maxHeartbeats 4000000 in
theorem m_X6_freeAll (a1 : Int32) (S S' : SS) (r : Int32) (h : f_X6_freeAll a1 S = some (r, S')) : MT yX6_freeAll cX6_freeAll 5 (some .int) 2 44 (fun ad => [.ref (ad 6), .int a1]) S (some (.int r)) S' := by
  refine MT.of RX6 (fun ad => [(0, .ref (ad 6)), (1, .int a1)]) (by decide) rfl (fun _ => Nat.le_of_ble_eq_true rfl) (fun _ => rfl) ?_
  intro p l e R s m args below meth c dC dI cs ad A hR1 hR2 F H locs ls w hl
  have hx := F.1.1
  have hb := F.1.2.1
  rw [f_X6_freeAll] at h
  refine lv_aload_n (pc := 0) hx hb dX6_freeAll_0 rfl (lv_at hl 0 rfl) ?_
  refine lv_iload_n (pc := 1) hx hb dX6_freeAll_1 rfl (lv_at hl 1 rfl) ?_
  obtain ⟨r2, S1, hc, h⟩ := bnd_t h
  refine s_cvi (pc := 2) [.int a1] (fun ad => [.ref (ad 6), .int a1]) F w (m_X6_routeFinding _ _ _ _ hc) rfl rfl hl.1 ds_6 vc_X6 rfl ok_X6_routeFinding rfl kc_X6_routeFinding kl_X6_111 ki_X6_routeFinding kv_X6_routeFinding kn_X6 ⟨Nat.le_trans (by decide) hR1, Nat.le_trans (by decide) hR2⟩ ⟨Nat.zero_le _, Nat.zero_le _⟩ (Nat.le_of_ble_eq_true rfl) dX6_freeAll_2 (fun H locs w => ?_)
  refine lv_istore_n (pc := 5) (lv' := [(2, .int r2), (0, .ref (ad 6)), (1, .int a1)]) hx hb dX6_freeAll_5 rfl hl (by decide) rfl (fun ls hl => ?_)
  refine lv_iload_n (pc := 6) hx hb dX6_freeAll_6 rfl (lv_at hl 0 rfl) ?_
  refine lv_if_eq (pc := 7) (tgt := 19) hx hb dX6_freeAll_7 (by decide) (fun q => ?_) (fun q => ?_)
  · have h := ite_t q h
    refine lv_aload_n (pc := 19) hx hb dX6_freeAll_19 rfl (lv_at hl 1 rfl) ?_
    refine lv_iload_n (pc := 20) hx hb dX6_freeAll_20 rfl (lv_at hl 2 rfl) ?_
    obtain ⟨r4, S3, hc, h⟩ := bnd_t h
    refine s_cvi (pc := 21) [.int a1] (fun ad => [.ref (ad 6), .int a1]) F w (m_X6_lockedBy _ _ _ _ hc) rfl rfl hl.1 ds_6 vc_X6 rfl ok_X6_lockedBy rfl kc_X6_lockedBy kl_X6_47 ki_X6_lockedBy kv_X6_lockedBy kn_X6 ⟨Nat.le_trans (by decide) hR1, Nat.le_trans (by decide) hR2⟩ ⟨Nat.zero_le _, Nat.zero_le _⟩ (Nat.le_of_ble_eq_true rfl) dX6_freeAll_21 (fun H locs w => ?_)
    refine lv_istore_n (pc := 24) (lv' := [(3, .int r4), (2, .int r2), (0, .ref (ad 6)), (1, .int a1)]) hx hb dX6_freeAll_24 rfl hl (by decide) rfl (fun ls hl => ?_)
    refine lv_iconst (pc := 25) (v := 0) hx hb dX6_freeAll_25 (by decide) ?_
    refine lv_istore (pc := 26) (lv' := [(4, .int (0 : Int32)), (3, .int r4), (2, .int r2), (0, .ref (ad 6)), (1, .int a1)]) hx hb dX6_freeAll_26 hl (by decide) rfl (fun ls hl => ?_)
    exact w_X6_freeAll_L28 F (Nat.le_trans (by decide) hR1) (Nat.le_trans (by decide) hR2) _ _ _ _ _ h _ _ _ w (lv_sub hl [3, 4, 1, 0] rfl)
  · have h := ite_f q h
    refine lv_aload_n (pc := 10) hx hb dX6_freeAll_10 rfl (lv_at hl 1 rfl) ?_
    refine s_getR (pc := 11) F w 1 ds_6 (j := 2) vc_X6 vi_X6 rfl (by decide) kf_X6_39 dX6_freeAll_11 ?_
    refine lv_iload_n (pc := 14) hx hb dX6_freeAll_14 rfl (lv_at hl 0 rfl) ?_
    obtain ⟨r12, S11, hc, h⟩ := bnd_t h
    refine s_cvi (pc := 15) [.int r2] (fun ad => [.ref (ad 1), .int r2]) F w (m_X5_found _ _ _ _ hc) rfl rfl hl.1 ds_1 vc_X5 rfl ok_X5_found rfl kc_X5_found kl_X6_88 ki_X5_found kv_X5_found kn_X5 ⟨Nat.le_trans (by decide) hR1, Nat.le_trans (by decide) hR2⟩ ⟨Nat.zero_le _, Nat.zero_le _⟩ (Nat.le_of_ble_eq_true rfl) dX6_freeAll_15 (fun H locs w => ?_)
    exact s_iret F w h dX6_freeAll_18
def f_X11_free (a1 : Int32) (S : SS) : Option (Int32 × SS) :=
  bndv (f_X11_beginAct  S) (fun S1 =>
  bnd (f_X6_freeAll a1 S1) (fun r3 S2 =>
  bnd (f_X11_endAct (5 : Int32) r3 S2) (fun r5 S4 =>
  some (r5, S4))))
theorem dX11_free_0 : decode cX11_free 0 = .ok (.aload_n 0, 1) := by decide +kernel
theorem dX11_free_1 : decode cX11_free 1 = .ok (.invokevirtual 199, 3) := by decide +kernel
theorem dX11_free_4 : decode cX11_free 4 = .ok (.aload_n 0, 1) := by decide +kernel
theorem dX11_free_5 : decode cX11_free 5 = .ok (.iconst 5, 1) := by decide +kernel
theorem dX11_free_6 : decode cX11_free 6 = .ok (.aload_n 0, 1) := by decide +kernel
theorem dX11_free_7 : decode cX11_free 7 = .ok (.getfield 51, 3) := by decide +kernel
theorem dX11_free_10 : decode cX11_free 10 = .ok (.iload_n 1, 1) := by decide +kernel
theorem dX11_free_11 : decode cX11_free 11 = .ok (.invokevirtual 217, 3) := by decide +kernel
theorem dX11_free_14 : decode cX11_free 14 = .ok (.invokevirtual 205, 3) := by decide +kernel
theorem dX11_free_17 : decode cX11_free 17 = .ok (.ireturn, 1) := by decide +kernel
set_option maxRecDepth 100000 in
set_option maxHeartbeats 4000000 in
theorem m_X11_free (a1 : Int32) (S S' : SS) (r : Int32) (h : f_X11_free a1 S = some (r, S')) : MT yX11_free cX11_free 2 (some .int) 3 81 (fun ad => [.ref (ad 0), .int a1]) S (some (.int r)) S' := by
  refine MT.of RX11 (fun ad => [(0, .ref (ad 0)), (1, .int a1)]) (by decide) rfl (fun _ => Nat.le_of_ble_eq_true rfl) (fun _ => rfl) ?_
  intro p l e R s m args below meth c dC dI cs ad A hR1 hR2 F H locs ls w hl
  have hx := F.1.1
  have hb := F.1.2.1
  rw [f_X11_free] at h
  refine lv_aload_n (pc := 0) hx hb dX11_free_0 rfl (lv_at hl 0 rfl) ?_
  obtain ⟨S1, hc, h⟩ := bndv_t h
  refine s_cvv (pc := 1) [] (fun ad => [.ref (ad 0)]) F w (m_X11_beginAct  _ _ hc) rfl rfl hl.1 ds_0 vc_X11 rfl ok_X11_beginAct rfl kc_X11_beginAct kl_X11_199 ki_X11_beginAct kv_X11_beginAct kn_X11 ⟨Nat.le_trans (by decide) hR1, Nat.le_trans (by decide) hR2⟩ ⟨Nat.zero_le _, Nat.zero_le _⟩ (Nat.le_of_ble_eq_true rfl) dX11_free_1 (fun H locs w => ?_)
  refine lv_aload_n (pc := 4) hx hb dX11_free_4 rfl (lv_at hl 0 rfl) ?_
  refine lv_iconst (pc := 5) (v := 5) hx hb dX11_free_5 (by decide) ?_
  refine lv_aload_n (pc := 6) hx hb dX11_free_6 rfl (lv_at hl 0 rfl) ?_
  refine s_getR (pc := 7) F w 6 ds_0 (j := 5) vc_X11 vi_X11 rfl (by decide) kf_X11_51 dX11_free_7 ?_
  refine lv_iload_n (pc := 10) hx hb dX11_free_10 rfl (lv_at hl 1 rfl) ?_
  obtain ⟨r3, S2, hc, h⟩ := bnd_t h
  refine s_cvi (pc := 11) [.int a1] (fun ad => [.ref (ad 6), .int a1]) F w (m_X6_freeAll _ _ _ _ hc) rfl rfl hl.1 ds_6 vc_X6 rfl ok_X6_freeAll rfl kc_X6_freeAll kl_X11_217 ki_X6_freeAll kv_X6_freeAll kn_X6 ⟨Nat.le_trans (by decide) hR1, Nat.le_trans (by decide) hR2⟩ ⟨Nat.zero_le _, Nat.zero_le _⟩ (Nat.le_of_ble_eq_true rfl) dX11_free_11 (fun H locs w => ?_)
  obtain ⟨r5, S4, hc, h⟩ := bnd_t h
  refine s_cvi (pc := 14) [.int (5 : Int32), .int r3] (fun ad => [.ref (ad 0), .int (5 : Int32), .int r3]) F w (m_X11_endAct _ _ _ _ _ hc) rfl rfl hl.1 ds_0 vc_X11 rfl ok_X11_endAct rfl kc_X11_endAct kl_X11_205 ki_X11_endAct kv_X11_endAct kn_X11 ⟨Nat.le_trans (by decide) hR1, Nat.le_trans (by decide) hR2⟩ ⟨Nat.zero_le _, Nat.zero_le _⟩ (Nat.le_of_ble_eq_true rfl) dX11_free_14 (fun H locs w => ?_)
  exact s_iret F w h dX11_free_17
def f_X12_free_j84 (K32 : Int32 → Int32 → Int32 → SS → Option (Int32 × SS)) (x1 : Int32) (x2 : Int32) (x3 : Int32) (y0 : Int32) (y1 : Int32) (S : SS) : Option (Int32 × SS) :=
    grd (inb y1 40) (wr S 78 y1.toNatClampNeg y0 (fun S10 =>
    nm (x3 + (1 : Int32)) (fun z11 =>
    K32 x1 x2 z11 S10)))
def f_X12_free_j56 (K32 : Int32 → Int32 → Int32 → SS → Option (Int32 × SS)) (x1 : Int32) (x3 : Int32) (y0 : Int32) (y1 : Int32) (S : SS) : Option (Int32 × SS) :=
    nm (y1 + y0) (fun z9 =>
    grd (inb x3 40) (
    if (S.1 78 x3.toNatClampNeg) = x1 then
      f_X12_free_j84 K32 x1 z9 x3 (-4 : Int32) x3 S
    else
      grd (inb x3 40) (
      f_X12_free_j84 K32 x1 z9 x3 (S.1 78 x3.toNatClampNeg) x3 S)))
def f_X12_free_L32  : Nat → Int32 → Int32 → Int32 → SS → Option (Int32 × SS)
  | 0, _, _, _, _ => none
  | n + 1, x1, x2, x3, S =>
    if (S.1 14 15) ≤ x3 then
      bnd (f_X12_entered (5 : Int32) x2 S) (fun r8 S7 =>
      some (r8, S7))
    else
      grd (inb x3 40) (
      if (S.1 78 x3.toNatClampNeg) = x1 then
        f_X12_free_j56 (fun v0 v1 v2 S => f_X12_free_L32 n v0 v1 v2 S) x1 x3 (1 : Int32) x2 S
      else
        f_X12_free_j56 (fun v0 v1 v2 S => f_X12_free_L32 n v0 v1 v2 S) x1 x3 (0 : Int32) x2 S)
def f_X12_free (a1 : Int32) (S : SS) : Option (Int32 × SS) :=
  bndv (f_X12_begin  S) (fun S1 =>
  bndv (f_X12_keep  S1) (fun S2 =>
  bnd (f_X12_missRoute a1 S2) (fun r4 S3 =>
  bnd (f_X12_ends r4 S3) (fun r6 S5 =>
  if r6 = 0 then
    f_X12_free_L32 NF a1 (0 : Int32) (0 : Int32) S5
  else
    bnd (f_X12_entered (5 : Int32) (-2 : Int32) S5) (fun r13 S12 =>
    some (r13, S12))))))
theorem dX12_free_0 : decode cX12_free 0 = .ok (.aload_n 0, 1) := by decide +kernel
theorem dX12_free_1 : decode cX12_free 1 = .ok (.invokevirtual 226, 3) := by decide +kernel
theorem dX12_free_4 : decode cX12_free 4 = .ok (.aload_n 0, 1) := by decide +kernel
theorem dX12_free_5 : decode cX12_free 5 = .ok (.invokevirtual 346, 3) := by decide +kernel
theorem dX12_free_8 : decode cX12_free 8 = .ok (.aload_n 0, 1) := by decide +kernel
theorem dX12_free_9 : decode cX12_free 9 = .ok (.aload_n 0, 1) := by decide +kernel
theorem dX12_free_10 : decode cX12_free 10 = .ok (.iload_n 1, 1) := by decide +kernel
theorem dX12_free_11 : decode cX12_free 11 = .ok (.invokevirtual 260, 3) := by decide +kernel
theorem dX12_free_14 : decode cX12_free 14 = .ok (.invokevirtual 236, 3) := by decide +kernel
theorem dX12_free_17 : decode cX12_free 17 = .ok (.ifCond .eq 11, 3) := by decide +kernel
theorem dX12_free_20 : decode cX12_free 20 = .ok (.aload_n 0, 1) := by decide +kernel
theorem dX12_free_21 : decode cX12_free 21 = .ok (.iconst 5, 1) := by decide +kernel
theorem dX12_free_22 : decode cX12_free 22 = .ok (.bipush (-2), 2) := by decide +kernel
theorem dX12_free_24 : decode cX12_free 24 = .ok (.invokevirtual 349, 3) := by decide +kernel
theorem dX12_free_27 : decode cX12_free 27 = .ok (.ireturn, 1) := by decide +kernel
theorem dX12_free_28 : decode cX12_free 28 = .ok (.iconst 0, 1) := by decide +kernel
theorem dX12_free_29 : decode cX12_free 29 = .ok (.istore_n 2, 1) := by decide +kernel
theorem dX12_free_30 : decode cX12_free 30 = .ok (.iconst 0, 1) := by decide +kernel
theorem dX12_free_31 : decode cX12_free 31 = .ok (.istore_n 3, 1) := by decide +kernel
theorem dX12_free_32 : decode cX12_free 32 = .ok (.iload_n 3, 1) := by decide +kernel
theorem dX12_free_33 : decode cX12_free 33 = .ok (.aload_n 0, 1) := by decide +kernel
theorem dX12_free_34 : decode cX12_free 34 = .ok (.getfield 217, 3) := by decide +kernel
theorem dX12_free_37 : decode cX12_free 37 = .ok (.if_icmp .ge 54, 3) := by decide +kernel
theorem dX12_free_40 : decode cX12_free 40 = .ok (.iload_n 2, 1) := by decide +kernel
theorem dX12_free_41 : decode cX12_free 41 = .ok (.aload_n 0, 1) := by decide +kernel
theorem dX12_free_42 : decode cX12_free 42 = .ok (.getfield 48, 3) := by decide +kernel
theorem dX12_free_45 : decode cX12_free 45 = .ok (.iload_n 3, 1) := by decide +kernel
theorem dX12_free_46 : decode cX12_free 46 = .ok (.iaload, 1) := by decide +kernel
theorem dX12_free_47 : decode cX12_free 47 = .ok (.iload_n 1, 1) := by decide +kernel
theorem dX12_free_48 : decode cX12_free 48 = .ok (.if_icmp .ne 7, 3) := by decide +kernel
theorem dX12_free_51 : decode cX12_free 51 = .ok (.iconst 1, 1) := by decide +kernel
theorem dX12_free_52 : decode cX12_free 52 = .ok (.goto 4, 3) := by decide +kernel
theorem dX12_free_55 : decode cX12_free 55 = .ok (.iconst 0, 1) := by decide +kernel
theorem dX12_free_56 : decode cX12_free 56 = .ok (.iadd, 1) := by decide +kernel
theorem dX12_free_57 : decode cX12_free 57 = .ok (.istore_n 2, 1) := by decide +kernel
theorem dX12_free_58 : decode cX12_free 58 = .ok (.aload_n 0, 1) := by decide +kernel
theorem dX12_free_59 : decode cX12_free 59 = .ok (.getfield 48, 3) := by decide +kernel
theorem dX12_free_62 : decode cX12_free 62 = .ok (.iload_n 3, 1) := by decide +kernel
theorem dX12_free_63 : decode cX12_free 63 = .ok (.aload_n 0, 1) := by decide +kernel
theorem dX12_free_64 : decode cX12_free 64 = .ok (.getfield 48, 3) := by decide +kernel
theorem dX12_free_67 : decode cX12_free 67 = .ok (.iload_n 3, 1) := by decide +kernel
theorem dX12_free_68 : decode cX12_free 68 = .ok (.iaload, 1) := by decide +kernel
theorem dX12_free_69 : decode cX12_free 69 = .ok (.iload_n 1, 1) := by decide +kernel
theorem dX12_free_70 : decode cX12_free 70 = .ok (.if_icmp .ne 8, 3) := by decide +kernel
theorem dX12_free_73 : decode cX12_free 73 = .ok (.bipush (-4), 2) := by decide +kernel
theorem dX12_free_75 : decode cX12_free 75 = .ok (.goto 9, 3) := by decide +kernel
theorem dX12_free_78 : decode cX12_free 78 = .ok (.aload_n 0, 1) := by decide +kernel
theorem dX12_free_79 : decode cX12_free 79 = .ok (.getfield 48, 3) := by decide +kernel
theorem dX12_free_82 : decode cX12_free 82 = .ok (.iload_n 3, 1) := by decide +kernel
theorem dX12_free_83 : decode cX12_free 83 = .ok (.iaload, 1) := by decide +kernel
theorem dX12_free_84 : decode cX12_free 84 = .ok (.iastore, 1) := by decide +kernel
theorem dX12_free_85 : decode cX12_free 85 = .ok (.iinc 3 1, 3) := by decide +kernel
theorem dX12_free_88 : decode cX12_free 88 = .ok (.goto (-56), 3) := by decide +kernel
theorem dX12_free_91 : decode cX12_free 91 = .ok (.aload_n 0, 1) := by decide +kernel
theorem dX12_free_92 : decode cX12_free 92 = .ok (.iconst 5, 1) := by decide +kernel
theorem dX12_free_93 : decode cX12_free 93 = .ok (.iload_n 2, 1) := by decide +kernel
theorem dX12_free_94 : decode cX12_free 94 = .ok (.invokevirtual 349, 3) := by decide +kernel
theorem dX12_free_97 : decode cX12_free 97 = .ok (.ireturn, 1) := by decide +kernel
set_option maxRecDepth 100000 in
set_option maxHeartbeats 4000000 in
theorem w_X12_free_j84 {p : Program} {l : Launch} {e : Env} {R : Room} {s : State} {m : MethodId} {args : Array Value} {below : List Frame} {meth : Method} {c : Code} {dC : Nat → ClassId} {dI : Nat → Nat → Nat} {cs : Nat → ClassId} {ad : Nat → Nat} {A : Nat → Prop} {D0 : Nat → Nat} {S' : SS} {r : Int32} (F : Fx p s m args meth c cX12_free 4 RX12 (some .int) dC dI cs A) (hR1 : 0 ≤ R.frames) (hR2 : 0 ≤ R.locals) (K32 : Int32 → Int32 → Int32 → SS → Option (Int32 × SS)) (hK32 : ∀ (v0 : Int32) (v1 : Int32) (v2 : Int32) (S : SS), K32 v0 v1 v2 S = some (r, S') → AW p l e R s m args below meth c dC dI cs ad A D0 (some (.int r)) S' 4 32 [(0, .ref (ad 14)), (1, .int v0), (2, .int v1), (3, .int v2)] [] S) (x1 : Int32) (x2 : Int32) (x3 : Int32) (y0 : Int32) (y1 : Int32) (S : SS) (h : f_X12_free_j84 K32 x1 x2 x3 y0 y1 S = some (r, S')) : AW p l e R s m args below meth c dC dI cs ad A D0 (some (.int r)) S' 4 84 [(0, .ref (ad 14)), (1, .int x1), (2, .int x2), (3, .int x3)] [.int y0, .int y1, .ref (ad 78)] S := by
  have hx := F.1.1
  have hb := F.1.2.1
  intro H locs ls w hl
  rw [f_X12_free_j84] at h
  refine s_iast (pc := 84) F w ds_78 h dX12_free_84 (fun S10 H locs h w => ?_)
  refine s_nm h (fun z11 ez11 h => ?_)
  refine lv_iinc (pc := 85) (v := z11) (lv' := [(3, .int z11), (0, .ref (ad 14)), (1, .int x1), (2, .int x2)]) hx hb dX12_free_85 hl (k := 3) rfl (by rw [ez11]; rfl) (by decide) rfl (fun ls hl => ?_)
  refine lv_goto (pc := 88) (tgt := 32) hx hb dX12_free_88 (by decide) ?_
  exact hK32 _ _ _ _ h _ _ _ w (lv_sub hl [1, 2, 3, 0] rfl)
set_option maxRecDepth 100000 in
set_option maxHeartbeats 4000000 in
theorem w_X12_free_j56 {p : Program} {l : Launch} {e : Env} {R : Room} {s : State} {m : MethodId} {args : Array Value} {below : List Frame} {meth : Method} {c : Code} {dC : Nat → ClassId} {dI : Nat → Nat → Nat} {cs : Nat → ClassId} {ad : Nat → Nat} {A : Nat → Prop} {D0 : Nat → Nat} {S' : SS} {r : Int32} (F : Fx p s m args meth c cX12_free 4 RX12 (some .int) dC dI cs A) (hR1 : 0 ≤ R.frames) (hR2 : 0 ≤ R.locals) (K32 : Int32 → Int32 → Int32 → SS → Option (Int32 × SS)) (hK32 : ∀ (v0 : Int32) (v1 : Int32) (v2 : Int32) (S : SS), K32 v0 v1 v2 S = some (r, S') → AW p l e R s m args below meth c dC dI cs ad A D0 (some (.int r)) S' 4 32 [(0, .ref (ad 14)), (1, .int v0), (2, .int v1), (3, .int v2)] [] S) (x1 : Int32) (x3 : Int32) (y0 : Int32) (y1 : Int32) (S : SS) (h : f_X12_free_j56 K32 x1 x3 y0 y1 S = some (r, S')) : AW p l e R s m args below meth c dC dI cs ad A D0 (some (.int r)) S' 4 56 [(0, .ref (ad 14)), (1, .int x1), (3, .int x3)] [.int y0, .int y1] S := by
  have hx := F.1.1
  have hb := F.1.2.1
  intro H locs ls w hl
  rw [f_X12_free_j56] at h
  refine lv_iadd (pc := 56) hx hb dX12_free_56 ?_
  refine s_nm h (fun z9 ez9 h => ?_)
  rw [← ez9]
  refine lv_istore_n (pc := 57) (lv' := [(2, .int z9), (0, .ref (ad 14)), (1, .int x1), (3, .int x3)]) hx hb dX12_free_57 rfl hl (by decide) rfl (fun ls hl => ?_)
  refine lv_aload_n (pc := 58) hx hb dX12_free_58 rfl (lv_at hl 1 rfl) ?_
  refine s_getR (pc := 59) F w 78 ds_14 (j := 18) vc_X12 vi_X12 rfl (by decide) kf_X12_48 dX12_free_59 ?_
  refine lv_iload_n (pc := 62) hx hb dX12_free_62 rfl (lv_at hl 3 rfl) ?_
  refine lv_aload_n (pc := 63) hx hb dX12_free_63 rfl (lv_at hl 1 rfl) ?_
  refine s_getR (pc := 64) F w 78 ds_14 (j := 18) vc_X12 vi_X12 rfl (by decide) kf_X12_48 dX12_free_64 ?_
  refine lv_iload_n (pc := 67) hx hb dX12_free_67 rfl (lv_at hl 3 rfl) ?_
  refine s_iald (pc := 68) F w ds_78 h dX12_free_68 (fun h => ?_)
  refine lv_iload_n (pc := 69) hx hb dX12_free_69 rfl (lv_at hl 2 rfl) ?_
  refine lv_icmp_ne (pc := 70) (tgt := 78) hx hb dX12_free_70 (by decide) (fun q => ?_) (fun q => ?_)
  · have h := ite_f q h
    refine lv_aload_n (pc := 78) hx hb dX12_free_78 rfl (lv_at hl 1 rfl) ?_
    refine s_getR (pc := 79) F w 78 ds_14 (j := 18) vc_X12 vi_X12 rfl (by decide) kf_X12_48 dX12_free_79 ?_
    refine lv_iload_n (pc := 82) hx hb dX12_free_82 rfl (lv_at hl 3 rfl) ?_
    refine s_iald (pc := 83) F w ds_78 h dX12_free_83 (fun h => ?_)
    exact w_X12_free_j84 F (Nat.le_trans (by decide) hR1) (Nat.le_trans (by decide) hR2) _ hK32 _ _ _ _ _ _ h _ _ _ w (lv_sub hl [1, 2, 0, 3] rfl)
  · have h := ite_t q h
    refine lv_bipush (pc := 73) (v := -4) hx hb dX12_free_73 (by decide) ?_
    refine lv_goto (pc := 75) (tgt := 84) hx hb dX12_free_75 (by decide) ?_
    exact w_X12_free_j84 F (Nat.le_trans (by decide) hR1) (Nat.le_trans (by decide) hR2) _ hK32 _ _ _ _ _ _ h _ _ _ w (lv_sub hl [1, 2, 0, 3] rfl)
set_option maxRecDepth 100000 in
set_option maxHeartbeats 4000000 in
theorem w_X12_free_L32 {p : Program} {l : Launch} {e : Env} {R : Room} {s : State} {m : MethodId} {args : Array Value} {below : List Frame} {meth : Method} {c : Code} {dC : Nat → ClassId} {dI : Nat → Nat → Nat} {cs : Nat → ClassId} {ad : Nat → Nat} {A : Nat → Prop} {D0 : Nat → Nat} {S' : SS} {r : Int32} (F : Fx p s m args meth c cX12_free 4 RX12 (some .int) dC dI cs A) (hR1 : 1 ≤ R.frames) (hR2 : 22 ≤ R.locals) : ∀ (n : Nat) (x1 : Int32) (x2 : Int32) (x3 : Int32) (S : SS), f_X12_free_L32 n x1 x2 x3 S = some (r, S') → AW p l e R s m args below meth c dC dI cs ad A D0 (some (.int r)) S' 4 32 [(0, .ref (ad 14)), (1, .int x1), (2, .int x2), (3, .int x3)] [] S := by
  have hx := F.1.1
  have hb := F.1.2.1
  intro n
  induction n with
  | zero => intro x1 x2 x3 S h; cases h
  | succ n ih =>
    intro x1 x2 x3 S h H locs ls w hl
    rw [f_X12_free_L32] at h
    refine lv_iload_n (pc := 32) hx hb dX12_free_32 rfl (lv_at hl 3 rfl) ?_
    refine lv_aload_n (pc := 33) hx hb dX12_free_33 rfl (lv_at hl 0 rfl) ?_
    refine s_getI (pc := 34) F w ds_14 (j := 15) vc_X12 vi_X12 rfl (by decide) kf_X12_217 dX12_free_34 ?_
    refine lv_icmp_ge (pc := 37) (tgt := 91) hx hb dX12_free_37 (by decide) (fun q => ?_) (fun q => ?_)
    · have h := ite_t q h
      refine lv_aload_n (pc := 91) hx hb dX12_free_91 rfl (lv_at hl 0 rfl) ?_
      refine lv_iconst (pc := 92) (v := 5) hx hb dX12_free_92 (by decide) ?_
      refine lv_iload_n (pc := 93) hx hb dX12_free_93 rfl (lv_at hl 2 rfl) ?_
      obtain ⟨r8, S7, hc, h⟩ := bnd_t h
      refine s_cvi (pc := 94) [.int (5 : Int32), .int x2] (fun ad => [.ref (ad 14), .int (5 : Int32), .int x2]) F w (m_X12_entered _ _ _ _ _ hc) rfl rfl hl.1 ds_14 vc_X12 rfl ok_X12_entered rfl kc_X12_entered kl_X12_349 ki_X12_entered kv_X12_entered kn_X12 ⟨Nat.le_trans (by decide) hR1, Nat.le_trans (by decide) hR2⟩ ⟨Nat.zero_le _, Nat.zero_le _⟩ (Nat.le_of_ble_eq_true rfl) dX12_free_94 (fun H locs w => ?_)
      exact s_iret F w h dX12_free_97
    · have h := ite_f q h
      refine lv_iload_n (pc := 40) hx hb dX12_free_40 rfl (lv_at hl 2 rfl) ?_
      refine lv_aload_n (pc := 41) hx hb dX12_free_41 rfl (lv_at hl 0 rfl) ?_
      refine s_getR (pc := 42) F w 78 ds_14 (j := 18) vc_X12 vi_X12 rfl (by decide) kf_X12_48 dX12_free_42 ?_
      refine lv_iload_n (pc := 45) hx hb dX12_free_45 rfl (lv_at hl 3 rfl) ?_
      refine s_iald (pc := 46) F w ds_78 h dX12_free_46 (fun h => ?_)
      refine lv_iload_n (pc := 47) hx hb dX12_free_47 rfl (lv_at hl 1 rfl) ?_
      refine lv_icmp_ne (pc := 48) (tgt := 55) hx hb dX12_free_48 (by decide) (fun q => ?_) (fun q => ?_)
      · have h := ite_f q h
        refine lv_iconst (pc := 55) (v := 0) hx hb dX12_free_55 (by decide) ?_
        exact w_X12_free_j56 F (Nat.le_trans (by decide) hR1) (Nat.le_trans (by decide) hR2) _ (fun v0 v1 v2 S h => ih v0 v1 v2 S h) _ _ _ _ _ h _ _ _ w (lv_sub hl [0, 1, 3] rfl)
      · have h := ite_t q h
        refine lv_iconst (pc := 51) (v := 1) hx hb dX12_free_51 (by decide) ?_
        refine lv_goto (pc := 52) (tgt := 56) hx hb dX12_free_52 (by decide) ?_
        exact w_X12_free_j56 F (Nat.le_trans (by decide) hR1) (Nat.le_trans (by decide) hR2) _ (fun v0 v1 v2 S h => ih v0 v1 v2 S h) _ _ _ _ _ h _ _ _ w (lv_sub hl [0, 1, 3] rfl)
set_option maxRecDepth 100000 in
set_option maxHeartbeats 4000000 in
theorem m_X12_free (a1 : Int32) (S S' : SS) (r : Int32) (h : f_X12_free a1 S = some (r, S')) : MT yX12_free cX12_free 4 (some .int) 2 44 (fun ad => [.ref (ad 14), .int a1]) S (some (.int r)) S' := by
  refine MT.of RX12 (fun ad => [(0, .ref (ad 14)), (1, .int a1)]) (by decide) rfl (fun _ => Nat.le_of_ble_eq_true rfl) (fun _ => rfl) ?_
  intro p l e R s m args below meth c dC dI cs ad A hR1 hR2 F H locs ls w hl
  have hx := F.1.1
  have hb := F.1.2.1
  rw [f_X12_free] at h
  refine lv_aload_n (pc := 0) hx hb dX12_free_0 rfl (lv_at hl 0 rfl) ?_
  obtain ⟨S1, hc, h⟩ := bndv_t h
  refine s_cvv (pc := 1) [] (fun ad => [.ref (ad 14)]) F w (m_X12_begin  _ _ hc) rfl rfl hl.1 ds_14 vc_X12 rfl ok_X12_begin rfl kc_X12_begin kl_X12_226 ki_X12_begin kv_X12_begin kn_X12 ⟨Nat.le_trans (by decide) hR1, Nat.le_trans (by decide) hR2⟩ ⟨Nat.zero_le _, Nat.zero_le _⟩ (Nat.le_of_ble_eq_true rfl) dX12_free_1 (fun H locs w => ?_)
  refine lv_aload_n (pc := 4) hx hb dX12_free_4 rfl (lv_at hl 0 rfl) ?_
  obtain ⟨S2, hc, h⟩ := bndv_t h
  refine s_cvv (pc := 5) [] (fun ad => [.ref (ad 14)]) F w (m_X12_keep  _ _ hc) rfl rfl hl.1 ds_14 vc_X12 rfl ok_X12_keep rfl kc_X12_keep kl_X12_346 ki_X12_keep kv_X12_keep kn_X12 ⟨Nat.le_trans (by decide) hR1, Nat.le_trans (by decide) hR2⟩ ⟨Nat.zero_le _, Nat.zero_le _⟩ (Nat.le_of_ble_eq_true rfl) dX12_free_5 (fun H locs w => ?_)
  refine lv_aload_n (pc := 8) hx hb dX12_free_8 rfl (lv_at hl 0 rfl) ?_
  refine lv_aload_n (pc := 9) hx hb dX12_free_9 rfl (lv_at hl 0 rfl) ?_
  refine lv_iload_n (pc := 10) hx hb dX12_free_10 rfl (lv_at hl 1 rfl) ?_
  obtain ⟨r4, S3, hc, h⟩ := bnd_t h
  refine s_cvi (pc := 11) [.int a1] (fun ad => [.ref (ad 14), .int a1]) F w (m_X12_missRoute _ _ _ _ hc) rfl rfl hl.1 ds_14 vc_X12 rfl ok_X12_missRoute rfl kc_X12_missRoute kl_X12_260 ki_X12_missRoute kv_X12_missRoute kn_X12 ⟨Nat.le_trans (by decide) hR1, Nat.le_trans (by decide) hR2⟩ ⟨Nat.zero_le _, Nat.zero_le _⟩ (Nat.le_of_ble_eq_true rfl) dX12_free_11 (fun H locs w => ?_)
  obtain ⟨r6, S5, hc, h⟩ := bnd_t h
  refine s_cvi (pc := 14) [.int r4] (fun ad => [.ref (ad 14), .int r4]) F w (m_X12_ends _ _ _ _ hc) rfl rfl hl.1 ds_14 vc_X12 rfl ok_X12_ends rfl kc_X12_ends kl_X12_236 ki_X12_ends kv_X12_ends kn_X12 ⟨Nat.le_trans (by decide) hR1, Nat.le_trans (by decide) hR2⟩ ⟨Nat.zero_le _, Nat.zero_le _⟩ (Nat.le_of_ble_eq_true rfl) dX12_free_14 (fun H locs w => ?_)
  refine lv_if_eq (pc := 17) (tgt := 28) hx hb dX12_free_17 (by decide) (fun q => ?_) (fun q => ?_)
  · have h := ite_t q h
    refine lv_iconst (pc := 28) (v := 0) hx hb dX12_free_28 (by decide) ?_
    refine lv_istore_n (pc := 29) (lv' := [(2, .int (0 : Int32)), (0, .ref (ad 14)), (1, .int a1)]) hx hb dX12_free_29 rfl hl (by decide) rfl (fun ls hl => ?_)
    refine lv_iconst (pc := 30) (v := 0) hx hb dX12_free_30 (by decide) ?_
    refine lv_istore_n (pc := 31) (lv' := [(3, .int (0 : Int32)), (2, .int (0 : Int32)), (0, .ref (ad 14)), (1, .int a1)]) hx hb dX12_free_31 rfl hl (by decide) rfl (fun ls hl => ?_)
    exact w_X12_free_L32 F (Nat.le_trans (by decide) hR1) (Nat.le_trans (by decide) hR2) _ _ _ _ _ h _ _ _ w (lv_sub hl [2, 3, 1, 0] rfl)
  · have h := ite_f q h
    refine lv_aload_n (pc := 20) hx hb dX12_free_20 rfl (lv_at hl 0 rfl) ?_
    refine lv_iconst (pc := 21) (v := 5) hx hb dX12_free_21 (by decide) ?_
    refine lv_bipush (pc := 22) (v := -2) hx hb dX12_free_22 (by decide) ?_
    obtain ⟨r13, S12, hc, h⟩ := bnd_t h
    refine s_cvi (pc := 24) [.int (5 : Int32), .int (-2 : Int32)] (fun ad => [.ref (ad 14), .int (5 : Int32), .int (-2 : Int32)]) F w (m_X12_entered _ _ _ _ _ hc) rfl rfl hl.1 ds_14 vc_X12 rfl ok_X12_entered rfl kc_X12_entered kl_X12_349 ki_X12_entered kv_X12_entered kn_X12 ⟨Nat.le_trans (by decide) hR1, Nat.le_trans (by decide) hR2⟩ ⟨Nat.zero_le _, Nat.zero_le _⟩ (Nat.le_of_ble_eq_true rfl) dX12_free_24 (fun H locs w => ?_)
    exact s_iret F w h dX12_free_27
def f_X11_namedSide (a1 : Int32) (a2 : Int32) (a3 : Int32) (S : SS) : Option (Int32 × SS) :=
  bnd (f_X11_named a1 a2 S) (fun r2 S1 =>
  if r2 = 0 then
    bnd (f_X11_isNot a3 (0 : Int32) (1 : Int32) S1) (fun r4 S3 =>
    if r4 = 0 then
      some (r2, S3)
    else
      some ((3 : Int32), S3))
  else
    some (r2, S1))
theorem dX11_namedSide_0 : decode cX11_namedSide 0 = .ok (.aload_n 0, 1) := by decide +kernel
theorem dX11_namedSide_1 : decode cX11_namedSide 1 = .ok (.iload_n 1, 1) := by decide +kernel
theorem dX11_namedSide_2 : decode cX11_namedSide 2 = .ok (.iload_n 2, 1) := by decide +kernel
theorem dX11_namedSide_3 : decode cX11_namedSide 3 = .ok (.invokevirtual 185, 3) := by decide +kernel
theorem dX11_namedSide_6 : decode cX11_namedSide 6 = .ok (.istore 4, 2) := by decide +kernel
theorem dX11_namedSide_8 : decode cX11_namedSide 8 = .ok (.iload 4, 2) := by decide +kernel
theorem dX11_namedSide_10 : decode cX11_namedSide 10 = .ok (.ifCond .ne 14, 3) := by decide +kernel
theorem dX11_namedSide_13 : decode cX11_namedSide 13 = .ok (.iload_n 3, 1) := by decide +kernel
theorem dX11_namedSide_14 : decode cX11_namedSide 14 = .ok (.iconst 0, 1) := by decide +kernel
theorem dX11_namedSide_15 : decode cX11_namedSide 15 = .ok (.iconst 1, 1) := by decide +kernel
theorem dX11_namedSide_16 : decode cX11_namedSide 16 = .ok (.invokestatic 108, 3) := by decide +kernel
theorem dX11_namedSide_19 : decode cX11_namedSide 19 = .ok (.ifCond .eq 5, 3) := by decide +kernel
theorem dX11_namedSide_22 : decode cX11_namedSide 22 = .ok (.iconst 3, 1) := by decide +kernel
theorem dX11_namedSide_23 : decode cX11_namedSide 23 = .ok (.ireturn, 1) := by decide +kernel
theorem dX11_namedSide_24 : decode cX11_namedSide 24 = .ok (.iload 4, 2) := by decide +kernel
theorem dX11_namedSide_26 : decode cX11_namedSide 26 = .ok (.ireturn, 1) := by decide +kernel
set_option maxRecDepth 100000 in
set_option maxHeartbeats 4000000 in
theorem m_X11_namedSide (a1 : Int32) (a2 : Int32) (a3 : Int32) (S S' : SS) (r : Int32) (h : f_X11_namedSide a1 a2 a3 S = some (r, S')) : MT yX11_namedSide cX11_namedSide 5 (some .int) 3 67 (fun ad => [.ref (ad 0), .int a1, .int a2, .int a3]) S (some (.int r)) S' := by
  refine MT.of RX11 (fun ad => [(0, .ref (ad 0)), (1, .int a1), (2, .int a2), (3, .int a3)]) (by decide) rfl (fun _ => Nat.le_of_ble_eq_true rfl) (fun _ => rfl) ?_
  intro p l e R s m args below meth c dC dI cs ad A hR1 hR2 F H locs ls w hl
  have hx := F.1.1
  have hb := F.1.2.1
  rw [f_X11_namedSide] at h
  refine lv_aload_n (pc := 0) hx hb dX11_namedSide_0 rfl (lv_at hl 0 rfl) ?_
  refine lv_iload_n (pc := 1) hx hb dX11_namedSide_1 rfl (lv_at hl 1 rfl) ?_
  refine lv_iload_n (pc := 2) hx hb dX11_namedSide_2 rfl (lv_at hl 2 rfl) ?_
  obtain ⟨r2, S1, hc, h⟩ := bnd_t h
  refine s_cvi (pc := 3) [.int a1, .int a2] (fun ad => [.ref (ad 0), .int a1, .int a2]) F w (m_X11_named _ _ _ _ _ hc) rfl rfl hl.1 ds_0 vc_X11 rfl ok_X11_named rfl kc_X11_named kl_X11_185 ki_X11_named kv_X11_named kn_X11 ⟨Nat.le_trans (by decide) hR1, Nat.le_trans (by decide) hR2⟩ ⟨Nat.zero_le _, Nat.zero_le _⟩ (Nat.le_of_ble_eq_true rfl) dX11_namedSide_3 (fun H locs w => ?_)
  refine lv_istore (pc := 6) (lv' := [(4, .int r2), (0, .ref (ad 0)), (1, .int a1), (2, .int a2), (3, .int a3)]) hx hb dX11_namedSide_6 hl (by decide) rfl (fun ls hl => ?_)
  refine lv_iload (pc := 8) hx hb dX11_namedSide_8 (lv_at hl 0 rfl) ?_
  refine lv_if_ne (pc := 10) (tgt := 24) hx hb dX11_namedSide_10 (by decide) (fun q => ?_) (fun q => ?_)
  · have h := ite_f q h
    refine lv_iload (pc := 24) hx hb dX11_namedSide_24 (lv_at hl 0 rfl) ?_
    exact s_iret F w h dX11_namedSide_26
  · have h := ite_t q h
    refine lv_iload_n (pc := 13) hx hb dX11_namedSide_13 rfl (lv_at hl 4 rfl) ?_
    refine lv_iconst (pc := 14) (v := 0) hx hb dX11_namedSide_14 (by decide) ?_
    refine lv_iconst (pc := 15) (v := 1) hx hb dX11_namedSide_15 (by decide) ?_
    obtain ⟨r4, S3, hc, h⟩ := bnd_t h
    refine s_csi (pc := 16) [.int a3, .int (0 : Int32), .int (1 : Int32)] (fun ad => [.int a3, .int (0 : Int32), .int (1 : Int32)]) F w (m_X11_isNot _ _ _ _ _ _ hc) rfl rfl hl.1 ok_X11_isNot rfl kc_X11_isNot kl_X11_108 ks_X11_isNot kn_X11 ⟨Nat.le_trans (by decide) hR1, Nat.le_trans (by decide) hR2⟩ ⟨Nat.zero_le _, Nat.zero_le _⟩ (Nat.le_of_ble_eq_true rfl) dX11_namedSide_16 (fun H locs w => ?_)
    refine lv_if_eq (pc := 19) (tgt := 24) hx hb dX11_namedSide_19 (by decide) (fun q => ?_) (fun q => ?_)
    · have h := ite_t q h
      refine lv_iload (pc := 24) hx hb dX11_namedSide_24 (lv_at hl 0 rfl) ?_
      exact s_iret F w h dX11_namedSide_26
    · have h := ite_f q h
      refine lv_iconst (pc := 22) (v := 3) hx hb dX11_namedSide_22 (by decide) ?_
      exact s_iret F w h dX11_namedSide_23
def f_X8_looks (a1 : Int32) (S : SS) : Option (Int32 × SS) :=
  bnd (f_X8_get (a1 >>> ((1 : Int32) &&& 31)) (1 : Int32) S) (fun r2 S1 =>
  some (r2 ^^^ (a1 &&& (1 : Int32)), S1))
theorem dX8_looks_0 : decode cX8_looks 0 = .ok (.aload_n 0, 1) := by decide +kernel
theorem dX8_looks_1 : decode cX8_looks 1 = .ok (.iload_n 1, 1) := by decide +kernel
theorem dX8_looks_2 : decode cX8_looks 2 = .ok (.iconst 1, 1) := by decide +kernel
theorem dX8_looks_3 : decode cX8_looks 3 = .ok (.ishr, 1) := by decide +kernel
theorem dX8_looks_4 : decode cX8_looks 4 = .ok (.iconst 1, 1) := by decide +kernel
theorem dX8_looks_5 : decode cX8_looks 5 = .ok (.invokevirtual 31, 3) := by decide +kernel
theorem dX8_looks_8 : decode cX8_looks 8 = .ok (.iload_n 1, 1) := by decide +kernel
theorem dX8_looks_9 : decode cX8_looks 9 = .ok (.iconst 1, 1) := by decide +kernel
theorem dX8_looks_10 : decode cX8_looks 10 = .ok (.iand, 1) := by decide +kernel
theorem dX8_looks_11 : decode cX8_looks 11 = .ok (.ixor, 1) := by decide +kernel
theorem dX8_looks_12 : decode cX8_looks 12 = .ok (.ireturn, 1) := by decide +kernel
set_option maxRecDepth 100000 in
set_option maxHeartbeats 4000000 in
theorem m_X8_looks (a1 : Int32) (S S' : SS) (r : Int32) (h : f_X8_looks a1 S = some (r, S')) : MT yX8_looks cX8_looks 2 (some .int) 1 22 (fun ad => [.ref (ad 2), .int a1]) S (some (.int r)) S' := by
  refine MT.of RX8 (fun ad => [(0, .ref (ad 2)), (1, .int a1)]) (by decide) rfl (fun _ => Nat.le_of_ble_eq_true rfl) (fun _ => rfl) ?_
  intro p l e R s m args below meth c dC dI cs ad A hR1 hR2 F H locs ls w hl
  have hx := F.1.1
  have hb := F.1.2.1
  rw [f_X8_looks] at h
  refine lv_aload_n (pc := 0) hx hb dX8_looks_0 rfl (lv_at hl 0 rfl) ?_
  refine lv_iload_n (pc := 1) hx hb dX8_looks_1 rfl (lv_at hl 1 rfl) ?_
  refine lv_iconst (pc := 2) (v := 1) hx hb dX8_looks_2 (by decide) ?_
  refine lv_ishr (pc := 3) hx hb dX8_looks_3 ?_
  refine lv_iconst (pc := 4) (v := 1) hx hb dX8_looks_4 (by decide) ?_
  obtain ⟨r2, S1, hc, h⟩ := bnd_t h
  refine s_cvi (pc := 5) [.int (a1 >>> ((1 : Int32) &&& 31)), .int (1 : Int32)] (fun ad => [.ref (ad 2), .int (a1 >>> ((1 : Int32) &&& 31)), .int (1 : Int32)]) F w (m_X8_get _ _ _ _ _ hc) rfl rfl hl.1 ds_2 vc_X8 rfl ok_X8_get rfl kc_X8_get kl_X8_31 ki_X8_get kv_X8_get kn_X8 ⟨Nat.le_trans (by decide) hR1, Nat.le_trans (by decide) hR2⟩ ⟨Nat.zero_le _, Nat.zero_le _⟩ (Nat.le_of_ble_eq_true rfl) dX8_looks_5 (fun H locs w => ?_)
  refine lv_iload_n (pc := 8) hx hb dX8_looks_8 rfl (lv_at hl 1 rfl) ?_
  refine lv_iconst (pc := 9) (v := 1) hx hb dX8_looks_9 (by decide) ?_
  refine lv_iand (pc := 10) hx hb dX8_looks_10 ?_
  refine lv_ixor (pc := 11) hx hb dX8_looks_11 ?_
  exact s_iret F w h dX8_looks_12
def f_X2_trackOf (a0 : Int32) (S : SS) : Option (Int32 × SS) :=
  some (a0 / (24 : Int32), S)
theorem dX2_trackOf_0 : decode cX2_trackOf 0 = .ok (.iload_n 0, 1) := by decide +kernel
theorem dX2_trackOf_1 : decode cX2_trackOf 1 = .ok (.bipush 24, 2) := by decide +kernel
theorem dX2_trackOf_3 : decode cX2_trackOf 3 = .ok (.idiv, 1) := by decide +kernel
theorem dX2_trackOf_4 : decode cX2_trackOf 4 = .ok (.ireturn, 1) := by decide +kernel
set_option maxRecDepth 100000 in
set_option maxHeartbeats 4000000 in
theorem m_X2_trackOf (a0 : Int32) (S S' : SS) (r : Int32) (h : f_X2_trackOf a0 S = some (r, S')) : MT yX2_trackOf cX2_trackOf 1 (some .int) 0 0 (fun ad => [.int a0]) S (some (.int r)) S' := by
  refine MT.of RX2 (fun ad => [(0, .int a0)]) (by decide) rfl (fun _ => Nat.le_of_ble_eq_true rfl) (fun _ => rfl) ?_
  intro p l e R s m args below meth c dC dI cs ad A hR1 hR2 F H locs ls w hl
  have hx := F.1.1
  have hb := F.1.2.1
  rw [f_X2_trackOf] at h
  refine lv_iload_n (pc := 0) hx hb dX2_trackOf_0 rfl (lv_at hl 0 rfl) ?_
  refine lv_bipush (pc := 1) (v := 24) hx hb dX2_trackOf_1 (by decide) ?_
  refine lv_idiv (pc := 3) hx hb dX2_trackOf_3 (by decide) ?_
  exact s_iret F w h dX2_trackOf_4
def f_X2_placeOf (a0 : Int32) (S : SS) : Option (Int32 × SS) :=
  some (a0 - a0 / (24 : Int32) * (24 : Int32), S)
theorem dX2_placeOf_0 : decode cX2_placeOf 0 = .ok (.iload_n 0, 1) := by decide +kernel
theorem dX2_placeOf_1 : decode cX2_placeOf 1 = .ok (.bipush 24, 2) := by decide +kernel
theorem dX2_placeOf_3 : decode cX2_placeOf 3 = .ok (.irem, 1) := by decide +kernel
theorem dX2_placeOf_4 : decode cX2_placeOf 4 = .ok (.ireturn, 1) := by decide +kernel
set_option maxRecDepth 100000 in
set_option maxHeartbeats 4000000 in
theorem m_X2_placeOf (a0 : Int32) (S S' : SS) (r : Int32) (h : f_X2_placeOf a0 S = some (r, S')) : MT yX2_placeOf cX2_placeOf 1 (some .int) 0 0 (fun ad => [.int a0]) S (some (.int r)) S' := by
  refine MT.of RX2 (fun ad => [(0, .int a0)]) (by decide) rfl (fun _ => Nat.le_of_ble_eq_true rfl) (fun _ => rfl) ?_
  intro p l e R s m args below meth c dC dI cs ad A hR1 hR2 F H locs ls w hl
  have hx := F.1.1
  have hb := F.1.2.1
  rw [f_X2_placeOf] at h
  refine lv_iload_n (pc := 0) hx hb dX2_placeOf_0 rfl (lv_at hl 0 rfl) ?_
  refine lv_bipush (pc := 1) (v := 24) hx hb dX2_placeOf_1 (by decide) ?_
  refine lv_irem (pc := 3) hx hb dX2_placeOf_3 (by decide) ?_
  exact s_iret F w h dX2_placeOf_4
