/-! ===== printed by wip/gen: Plans_hasPotential Potentials_isRank Potentials_of Plans_potentialAt Yard_proof Potentials_setTo Plans_setPotential Yard_spoil Stacks_become_work_start Stacks_wagonAt_work Stacks_isLike_work_goal Stacks_height_work Plans_roomLeft Stacks_shift_work Plans_leadsToGoal Potentials_orderOf_Potentials_sequence Potentials_keyWith Potentials_rankOf_goal ===== -/
def f_Plans_hasPotential (a1 : Int32) (S : SS) : Option (Int32 × SS) :=
  if (S.1 70 8) = (1 : Int32) then
    if a1 < 0 then
      some ((0 : Int32), S)
    else
      if (S.1 70 7) < a1 then
        some ((0 : Int32), S)
      else
        if (128 : Int32) < a1 then
          some ((0 : Int32), S)
        else
          some ((1 : Int32), S)
  else
    some ((0 : Int32), S)
theorem dX3_hasPotential_0 : decode cX3_hasPotential 0 = .ok (.aload_n 0, 1) := dc_42 (by decide +kernel)
theorem dX3_hasPotential_1 : decode cX3_hasPotential 1 = .ok (.getfield 45, 3) := dc_180 (a := 0) (b := 45) (by decide +kernel)
theorem dX3_hasPotential_4 : decode cX3_hasPotential 4 = .ok (.iconst 1, 1) := dc_4 (by decide +kernel)
theorem dX3_hasPotential_5 : decode cX3_hasPotential 5 = .ok (.if_icmp .ne 26, 3) := dc_160 (a := 0) (b := 26) (by decide +kernel) (by decide)
theorem dX3_hasPotential_8 : decode cX3_hasPotential 8 = .ok (.iload_n 1, 1) := dc_27 (by decide +kernel)
theorem dX3_hasPotential_9 : decode cX3_hasPotential 9 = .ok (.ifCond .lt 22, 3) := dc_155 (a := 0) (b := 22) (by decide +kernel) (by decide)
theorem dX3_hasPotential_12 : decode cX3_hasPotential 12 = .ok (.iload_n 1, 1) := dc_27 (by decide +kernel)
theorem dX3_hasPotential_13 : decode cX3_hasPotential 13 = .ok (.aload_n 0, 1) := dc_42 (by decide +kernel)
theorem dX3_hasPotential_14 : decode cX3_hasPotential 14 = .ok (.getfield 41, 3) := dc_180 (a := 0) (b := 41) (by decide +kernel)
theorem dX3_hasPotential_17 : decode cX3_hasPotential 17 = .ok (.if_icmp .gt 14, 3) := dc_163 (a := 0) (b := 14) (by decide +kernel) (by decide)
theorem dX3_hasPotential_20 : decode cX3_hasPotential 20 = .ok (.iload_n 1, 1) := dc_27 (by decide +kernel)
theorem dX3_hasPotential_21 : decode cX3_hasPotential 21 = .ok (.sipush 128, 3) := dc_17 (a := 0) (b := 128) (by decide +kernel) (by decide)
theorem dX3_hasPotential_24 : decode cX3_hasPotential 24 = .ok (.if_icmp .gt 7, 3) := dc_163 (a := 0) (b := 7) (by decide +kernel) (by decide)
theorem dX3_hasPotential_27 : decode cX3_hasPotential 27 = .ok (.iconst 1, 1) := dc_4 (by decide +kernel)
theorem dX3_hasPotential_28 : decode cX3_hasPotential 28 = .ok (.goto 4, 3) := dc_167 (a := 0) (b := 4) (by decide +kernel) (by decide)
theorem dX3_hasPotential_31 : decode cX3_hasPotential 31 = .ok (.iconst 0, 1) := dc_3 (by decide +kernel)
theorem dX3_hasPotential_32 : decode cX3_hasPotential 32 = .ok (.ireturn, 1) := dc_172 (by decide +kernel)
set_option maxRecDepth 100000 in
set_option maxHeartbeats 4000000 in
theorem m_Plans_hasPotential (a1 : Int32) (S S' : SS) (r : Int32) (h : f_Plans_hasPotential a1 S = some (r, S')) : MT yX3_hasPotential cX3_hasPotential 2 (some .boolean) 0 0 (fun ad => [.ref (ad 70), .int a1]) S (some (.int r)) S' := by
  refine MT.of RX3 (fun ad => [(0, .ref (ad 70)), (1, .int a1)]) (by decide) rfl (fun _ => Nat.le_of_ble_eq_true rfl) (fun _ => rfl) ?_
  intro p l e R s m args below meth c dC dI cs ad A hR1 hR2 F H locs ls w hl
  have hx := F.1.1
  have hb := F.1.2.1
  rw [f_Plans_hasPotential] at h
  refine lv_aload_n (pc := 0) hx hb dX3_hasPotential_0 rfl (lv_at hl 0 rfl) ?_
  refine s_getI (pc := 1) F w ds_70 (j := 8) vc_X3 vi_X3 rfl (by decide) kf_X3_45 dX3_hasPotential_1 ?_
  refine lv_iconst (pc := 4) (v := 1) hx hb dX3_hasPotential_4 (by decide) ?_
  refine lv_icmp_ne (pc := 5) (tgt := 31) hx hb dX3_hasPotential_5 (by decide) (fun q => ?_) (fun q => ?_)
  · have h := ite_f q h
    refine lv_iconst (pc := 31) (v := 0) hx hb dX3_hasPotential_31 (by decide) ?_
    exact s_zretc F w rfl h dX3_hasPotential_32
  · have h := ite_t q h
    refine lv_iload_n (pc := 8) hx hb dX3_hasPotential_8 rfl (lv_at hl 1 rfl) ?_
    refine lv_if_lt (pc := 9) (tgt := 31) hx hb dX3_hasPotential_9 (by decide) (fun q => ?_) (fun q => ?_)
    · have h := ite_t q h
      refine lv_iconst (pc := 31) (v := 0) hx hb dX3_hasPotential_31 (by decide) ?_
      exact s_zretc F w rfl h dX3_hasPotential_32
    · have h := ite_f q h
      refine lv_iload_n (pc := 12) hx hb dX3_hasPotential_12 rfl (lv_at hl 1 rfl) ?_
      refine lv_aload_n (pc := 13) hx hb dX3_hasPotential_13 rfl (lv_at hl 0 rfl) ?_
      refine s_getI (pc := 14) F w ds_70 (j := 7) vc_X3 vi_X3 rfl (by decide) kf_X3_41 dX3_hasPotential_14 ?_
      refine lv_icmp_gt (pc := 17) (tgt := 31) hx hb dX3_hasPotential_17 (by decide) (fun q => ?_) (fun q => ?_)
      · have h := ite_t q h
        refine lv_iconst (pc := 31) (v := 0) hx hb dX3_hasPotential_31 (by decide) ?_
        exact s_zretc F w rfl h dX3_hasPotential_32
      · have h := ite_f q h
        refine lv_iload_n (pc := 20) hx hb dX3_hasPotential_20 rfl (lv_at hl 1 rfl) ?_
        refine lv_sipush (pc := 21) (v := 128) hx hb dX3_hasPotential_21 (by decide) ?_
        refine lv_icmp_gt (pc := 24) (tgt := 31) hx hb dX3_hasPotential_24 (by decide) (fun q => ?_) (fun q => ?_)
        · have h := ite_t q h
          refine lv_iconst (pc := 31) (v := 0) hx hb dX3_hasPotential_31 (by decide) ?_
          exact s_zretc F w rfl h dX3_hasPotential_32
        · have h := ite_f q h
          refine lv_iconst (pc := 27) (v := 1) hx hb dX3_hasPotential_27 (by decide) ?_
          refine lv_goto (pc := 28) (tgt := 32) hx hb dX3_hasPotential_28 (by decide) ?_
          exact s_zretc F w rfl h dX3_hasPotential_32
def f_Potentials_isRank (a1 : Int32) (S : SS) : Option (Int32 × SS) :=
  if a1 < 0 then
    some ((0 : Int32), S)
  else
    if ((S.1 71 6) * (S.1 71 7)) ≤ a1 then
      some ((0 : Int32), S)
    else
      some ((1 : Int32), S)
theorem dX4_isRank_0 : decode cX4_isRank 0 = .ok (.iload_n 1, 1) := dc_27 (by decide +kernel)
theorem dX4_isRank_1 : decode cX4_isRank 1 = .ok (.ifCond .lt 20, 3) := dc_155 (a := 0) (b := 20) (by decide +kernel) (by decide)
theorem dX4_isRank_4 : decode cX4_isRank 4 = .ok (.iload_n 1, 1) := dc_27 (by decide +kernel)
theorem dX4_isRank_5 : decode cX4_isRank 5 = .ok (.aload_n 0, 1) := dc_42 (by decide +kernel)
theorem dX4_isRank_6 : decode cX4_isRank 6 = .ok (.getfield 33, 3) := dc_180 (a := 0) (b := 33) (by decide +kernel)
theorem dX4_isRank_9 : decode cX4_isRank 9 = .ok (.aload_n 0, 1) := dc_42 (by decide +kernel)
theorem dX4_isRank_10 : decode cX4_isRank 10 = .ok (.getfield 36, 3) := dc_180 (a := 0) (b := 36) (by decide +kernel)
theorem dX4_isRank_13 : decode cX4_isRank 13 = .ok (.imul, 1) := dc_104 (by decide +kernel)
theorem dX4_isRank_14 : decode cX4_isRank 14 = .ok (.if_icmp .ge 7, 3) := dc_162 (a := 0) (b := 7) (by decide +kernel) (by decide)
theorem dX4_isRank_17 : decode cX4_isRank 17 = .ok (.iconst 1, 1) := dc_4 (by decide +kernel)
theorem dX4_isRank_18 : decode cX4_isRank 18 = .ok (.goto 4, 3) := dc_167 (a := 0) (b := 4) (by decide +kernel) (by decide)
theorem dX4_isRank_21 : decode cX4_isRank 21 = .ok (.iconst 0, 1) := dc_3 (by decide +kernel)
theorem dX4_isRank_22 : decode cX4_isRank 22 = .ok (.ireturn, 1) := dc_172 (by decide +kernel)
set_option maxRecDepth 100000 in
set_option maxHeartbeats 4000000 in
theorem m_Potentials_isRank (a1 : Int32) (S S' : SS) (r : Int32) (h : f_Potentials_isRank a1 S = some (r, S')) : MT yX4_isRank cX4_isRank 2 (some .boolean) 0 0 (fun ad => [.ref (ad 71), .int a1]) S (some (.int r)) S' := by
  refine MT.of RX4 (fun ad => [(0, .ref (ad 71)), (1, .int a1)]) (by decide) rfl (fun _ => Nat.le_of_ble_eq_true rfl) (fun _ => rfl) ?_
  intro p l e R s m args below meth c dC dI cs ad A hR1 hR2 F H locs ls w hl
  have hx := F.1.1
  have hb := F.1.2.1
  rw [f_Potentials_isRank] at h
  refine lv_iload_n (pc := 0) hx hb dX4_isRank_0 rfl (lv_at hl 1 rfl) ?_
  refine lv_if_lt (pc := 1) (tgt := 21) hx hb dX4_isRank_1 (by decide) (fun q => ?_) (fun q => ?_)
  · have h := ite_t q h
    refine lv_iconst (pc := 21) (v := 0) hx hb dX4_isRank_21 (by decide) ?_
    exact s_zretc F w rfl h dX4_isRank_22
  · have h := ite_f q h
    refine lv_iload_n (pc := 4) hx hb dX4_isRank_4 rfl (lv_at hl 1 rfl) ?_
    refine lv_aload_n (pc := 5) hx hb dX4_isRank_5 rfl (lv_at hl 0 rfl) ?_
    refine s_getI (pc := 6) F w ds_71 (j := 6) vc_X4 vi_X4 rfl (by decide) kf_X4_33 dX4_isRank_6 ?_
    refine lv_aload_n (pc := 9) hx hb dX4_isRank_9 rfl (lv_at hl 0 rfl) ?_
    refine s_getI (pc := 10) F w ds_71 (j := 7) vc_X4 vi_X4 rfl (by decide) kf_X4_36 dX4_isRank_10 ?_
    refine lv_imul (pc := 13) hx hb dX4_isRank_13 ?_
    refine lv_icmp_ge (pc := 14) (tgt := 21) hx hb dX4_isRank_14 (by decide) (fun q => ?_) (fun q => ?_)
    · have h := ite_t q h
      refine lv_iconst (pc := 21) (v := 0) hx hb dX4_isRank_21 (by decide) ?_
      exact s_zretc F w rfl h dX4_isRank_22
    · have h := ite_f q h
      refine lv_iconst (pc := 17) (v := 1) hx hb dX4_isRank_17 (by decide) ?_
      refine lv_goto (pc := 18) (tgt := 22) hx hb dX4_isRank_18 (by decide) ?_
      exact s_zretc F w rfl h dX4_isRank_22
def f_Potentials_of (a1 : Int32) (S : SS) : Option (Int32 × SS) :=
  bnd (f_Potentials_isRank a1 S) (fun r2 S1 =>
  if r2 = 0 then
    some ((-4 : Int32), S1)
  else
    grd (inb a1 (S1.2 120)) (
    some (S1.1 120 a1.toNatClampNeg, S1)))
theorem dX4_of_0 : decode cX4_of 0 = .ok (.aload_n 0, 1) := dc_42 (by decide +kernel)
theorem dX4_of_1 : decode cX4_of 1 = .ok (.iload_n 1, 1) := dc_27 (by decide +kernel)
theorem dX4_of_2 : decode cX4_of 2 = .ok (.invokevirtual 63, 3) := dc_182 (a := 0) (b := 63) (by decide +kernel)
theorem dX4_of_5 : decode cX4_of 5 = .ok (.ifCond .eq 12, 3) := dc_153 (a := 0) (b := 12) (by decide +kernel) (by decide)
theorem dX4_of_8 : decode cX4_of 8 = .ok (.aload_n 0, 1) := dc_42 (by decide +kernel)
theorem dX4_of_9 : decode cX4_of 9 = .ok (.getfield 57, 3) := dc_180 (a := 0) (b := 57) (by decide +kernel)
theorem dX4_of_12 : decode cX4_of 12 = .ok (.iload_n 1, 1) := dc_27 (by decide +kernel)
theorem dX4_of_13 : decode cX4_of 13 = .ok (.iaload, 1) := dc_46 (by decide +kernel)
theorem dX4_of_14 : decode cX4_of 14 = .ok (.goto 5, 3) := dc_167 (a := 0) (b := 5) (by decide +kernel) (by decide)
theorem dX4_of_17 : decode cX4_of 17 = .ok (.bipush (-4), 2) := dc_16 (a := 252) (by decide +kernel) (by decide)
theorem dX4_of_19 : decode cX4_of 19 = .ok (.ireturn, 1) := dc_172 (by decide +kernel)
set_option maxRecDepth 100000 in
set_option maxHeartbeats 4000000 in
theorem m_Potentials_of (a1 : Int32) (S S' : SS) (r : Int32) (h : f_Potentials_of a1 S = some (r, S')) : MT yX4_of cX4_of 2 (some .int) 1 21 (fun ad => [.ref (ad 71), .int a1]) S (some (.int r)) S' := by
  refine MT.of RX4 (fun ad => [(0, .ref (ad 71)), (1, .int a1)]) (by decide) rfl (fun _ => Nat.le_of_ble_eq_true rfl) (fun _ => rfl) ?_
  intro p l e R s m args below meth c dC dI cs ad A hR1 hR2 F H locs ls w hl
  have hx := F.1.1
  have hb := F.1.2.1
  rw [f_Potentials_of] at h
  refine lv_aload_n (pc := 0) hx hb dX4_of_0 rfl (lv_at hl 0 rfl) ?_
  refine lv_iload_n (pc := 1) hx hb dX4_of_1 rfl (lv_at hl 1 rfl) ?_
  obtain ⟨r2, S1, hc, h⟩ := bnd_t h
  refine s_cvi (pc := 2) [.int a1] (fun ad => [.ref (ad 71), .int a1]) F w (m_Potentials_isRank _ _ _ _ hc) rfl rfl hl.1 ds_71 vc_X4 rfl ok_X4_isRank rfl kc_X4_isRank kl_X4_63 ki_X4_isRank kv_X4_isRank kn_X4 ⟨Nat.le_trans (by decide) hR1, Nat.le_trans (by decide) hR2⟩ ⟨Nat.zero_le _, Nat.zero_le _⟩ (Nat.le_of_ble_eq_true rfl) dX4_of_2 (fun H locs w => ?_)
  refine lv_if_eq (pc := 5) (tgt := 17) hx hb dX4_of_5 (by decide) (fun q => ?_) (fun q => ?_)
  · have h := ite_t q h
    refine lv_bipush (pc := 17) (v := -4) hx hb dX4_of_17 (by decide) ?_
    exact s_iret F w h dX4_of_19
  · have h := ite_f q h
    refine lv_aload_n (pc := 8) hx hb dX4_of_8 rfl (lv_at hl 0 rfl) ?_
    refine s_getR (pc := 9) F w 120 ds_71 (j := 14) vc_X4 vi_X4 rfl (by decide) kf_X4_57 dX4_of_9 ?_
    refine lv_iload_n (pc := 12) hx hb dX4_of_12 rfl (lv_at hl 1 rfl) ?_
    refine s_iald (pc := 13) F w ds_120 h dX4_of_13 (fun h => ?_)
    refine lv_goto (pc := 14) (tgt := 19) hx hb dX4_of_14 (by decide) ?_
    exact s_iret F w h dX4_of_19
def f_Plans_potentialAt (a1 : Int32) (S : SS) : Option (Int32 × SS) :=
  bnd (f_Plans_hasPotential a1 S) (fun r2 S1 =>
  if r2 = 0 then
    some ((-4 : Int32), S1)
  else
    grd (inb a1 129) (
    bnd (f_Potentials_of (S1.1 108 a1.toNatClampNeg) S1) (fun r4 S3 =>
    some (r4, S3))))
theorem dX3_potentialAt_0 : decode cX3_potentialAt 0 = .ok (.aload_n 0, 1) := dc_42 (by decide +kernel)
theorem dX3_potentialAt_1 : decode cX3_potentialAt 1 = .ok (.iload_n 1, 1) := dc_27 (by decide +kernel)
theorem dX3_potentialAt_2 : decode cX3_potentialAt 2 = .ok (.invokevirtual 135, 3) := dc_182 (a := 0) (b := 135) (by decide +kernel)
theorem dX3_potentialAt_5 : decode cX3_potentialAt 5 = .ok (.ifCond .eq 19, 3) := dc_153 (a := 0) (b := 19) (by decide +kernel) (by decide)
theorem dX3_potentialAt_8 : decode cX3_potentialAt 8 = .ok (.aload_n 0, 1) := dc_42 (by decide +kernel)
theorem dX3_potentialAt_9 : decode cX3_potentialAt 9 = .ok (.getfield 31, 3) := dc_180 (a := 0) (b := 31) (by decide +kernel)
theorem dX3_potentialAt_12 : decode cX3_potentialAt 12 = .ok (.aload_n 0, 1) := dc_42 (by decide +kernel)
theorem dX3_potentialAt_13 : decode cX3_potentialAt 13 = .ok (.getfield 38, 3) := dc_180 (a := 0) (b := 38) (by decide +kernel)
theorem dX3_potentialAt_16 : decode cX3_potentialAt 16 = .ok (.iload_n 1, 1) := dc_27 (by decide +kernel)
theorem dX3_potentialAt_17 : decode cX3_potentialAt 17 = .ok (.iaload, 1) := dc_46 (by decide +kernel)
theorem dX3_potentialAt_18 : decode cX3_potentialAt 18 = .ok (.invokevirtual 91, 3) := dc_182 (a := 0) (b := 91) (by decide +kernel)
theorem dX3_potentialAt_21 : decode cX3_potentialAt 21 = .ok (.goto 5, 3) := dc_167 (a := 0) (b := 5) (by decide +kernel) (by decide)
theorem dX3_potentialAt_24 : decode cX3_potentialAt 24 = .ok (.bipush (-4), 2) := dc_16 (a := 252) (by decide +kernel) (by decide)
theorem dX3_potentialAt_26 : decode cX3_potentialAt 26 = .ok (.ireturn, 1) := dc_172 (by decide +kernel)
set_option maxRecDepth 100000 in
set_option maxHeartbeats 4000000 in
theorem m_Plans_potentialAt (a1 : Int32) (S S' : SS) (r : Int32) (h : f_Plans_potentialAt a1 S = some (r, S')) : MT yX3_potentialAt cX3_potentialAt 2 (some .int) 2 42 (fun ad => [.ref (ad 70), .int a1]) S (some (.int r)) S' := by
  refine MT.of RX3 (fun ad => [(0, .ref (ad 70)), (1, .int a1)]) (by decide) rfl (fun _ => Nat.le_of_ble_eq_true rfl) (fun _ => rfl) ?_
  intro p l e R s m args below meth c dC dI cs ad A hR1 hR2 F H locs ls w hl
  have hx := F.1.1
  have hb := F.1.2.1
  rw [f_Plans_potentialAt] at h
  refine lv_aload_n (pc := 0) hx hb dX3_potentialAt_0 rfl (lv_at hl 0 rfl) ?_
  refine lv_iload_n (pc := 1) hx hb dX3_potentialAt_1 rfl (lv_at hl 1 rfl) ?_
  obtain ⟨r2, S1, hc, h⟩ := bnd_t h
  refine s_cvi (pc := 2) [.int a1] (fun ad => [.ref (ad 70), .int a1]) F w (m_Plans_hasPotential _ _ _ _ hc) rfl rfl hl.1 ds_70 vc_X3 rfl ok_X3_hasPotential rfl kc_X3_hasPotential kl_X3_135 ki_X3_hasPotential kv_X3_hasPotential kn_X3 ⟨Nat.le_trans (by decide) hR1, Nat.le_trans (by decide) hR2⟩ ⟨Nat.zero_le _, Nat.zero_le _⟩ (Nat.le_of_ble_eq_true rfl) dX3_potentialAt_2 (fun H locs w => ?_)
  refine lv_if_eq (pc := 5) (tgt := 24) hx hb dX3_potentialAt_5 (by decide) (fun q => ?_) (fun q => ?_)
  · have h := ite_t q h
    refine lv_bipush (pc := 24) (v := -4) hx hb dX3_potentialAt_24 (by decide) ?_
    exact s_iret F w h dX3_potentialAt_26
  · have h := ite_f q h
    refine lv_aload_n (pc := 8) hx hb dX3_potentialAt_8 rfl (lv_at hl 0 rfl) ?_
    refine s_getR (pc := 9) F w 71 ds_70 (j := 4) vc_X3 vi_X3 rfl (by decide) kf_X3_31 dX3_potentialAt_9 ?_
    refine lv_aload_n (pc := 12) hx hb dX3_potentialAt_12 rfl (lv_at hl 0 rfl) ?_
    refine s_getR (pc := 13) F w 108 ds_70 (j := 6) vc_X3 vi_X3 rfl (by decide) kf_X3_38 dX3_potentialAt_13 ?_
    refine lv_iload_n (pc := 16) hx hb dX3_potentialAt_16 rfl (lv_at hl 1 rfl) ?_
    refine s_iald (pc := 17) F w ds_108 h dX3_potentialAt_17 (fun h => ?_)
    obtain ⟨r4, S3, hc, h⟩ := bnd_t h
    refine s_cvi (pc := 18) [.int (S1.1 108 a1.toNatClampNeg)] (fun ad => [.ref (ad 71), .int (S1.1 108 a1.toNatClampNeg)]) F w (m_Potentials_of _ _ _ _ hc) rfl rfl hl.1 ds_71 vc_X4 rfl ok_X4_of rfl kc_X4_of kl_X3_91 ki_X4_of kv_X4_of kn_X4 ⟨Nat.le_trans (by decide) hR1, Nat.le_trans (by decide) hR2⟩ ⟨Nat.zero_le _, Nat.zero_le _⟩ (Nat.le_of_ble_eq_true rfl) dX3_potentialAt_18 (fun H locs w => ?_)
    refine lv_goto (pc := 21) (tgt := 26) hx hb dX3_potentialAt_21 (by decide) ?_
    exact s_iret F w h dX3_potentialAt_26
def f_Yard_proof (a1 : Int32) (S : SS) : Option (Int32 × SS) :=
  if 0 ≤ a1 then
    bnd (f_Plans_potentialAt a1 S) (fun r2 S1 =>
    some (r2, S1))
  else
    some ((-1 : Int32), S)
theorem dX11_proof_0 : decode cX11_proof 0 = .ok (.iload_n 1, 1) := dc_27 (by decide +kernel)
theorem dX11_proof_1 : decode cX11_proof 1 = .ok (.ifCond .ge 7, 3) := dc_156 (a := 0) (b := 7) (by decide +kernel) (by decide)
theorem dX11_proof_4 : decode cX11_proof 4 = .ok (.iconst (-1), 1) := dc_2 (by decide +kernel)
theorem dX11_proof_5 : decode cX11_proof 5 = .ok (.goto 11, 3) := dc_167 (a := 0) (b := 11) (by decide +kernel) (by decide)
theorem dX11_proof_8 : decode cX11_proof 8 = .ok (.aload_n 0, 1) := dc_42 (by decide +kernel)
theorem dX11_proof_9 : decode cX11_proof 9 = .ok (.getfield 74, 3) := dc_180 (a := 0) (b := 74) (by decide +kernel)
theorem dX11_proof_12 : decode cX11_proof 12 = .ok (.iload_n 1, 1) := dc_27 (by decide +kernel)
theorem dX11_proof_13 : decode cX11_proof 13 = .ok (.invokevirtual 447, 3) := dc_182 (a := 1) (b := 191) (by decide +kernel)
theorem dX11_proof_16 : decode cX11_proof 16 = .ok (.ireturn, 1) := dc_172 (by decide +kernel)
set_option maxRecDepth 100000 in
set_option maxHeartbeats 4000000 in
theorem m_Yard_proof (a1 : Int32) (S S' : SS) (r : Int32) (h : f_Yard_proof a1 S = some (r, S')) : MT yX11_proof cX11_proof 2 (some .int) 3 63 (fun ad => [.ref (ad 61), .int a1]) S (some (.int r)) S' := by
  refine MT.of RX11 (fun ad => [(0, .ref (ad 61)), (1, .int a1)]) (by decide) rfl (fun _ => Nat.le_of_ble_eq_true rfl) (fun _ => rfl) ?_
  intro p l e R s m args below meth c dC dI cs ad A hR1 hR2 F H locs ls w hl
  have hx := F.1.1
  have hb := F.1.2.1
  rw [f_Yard_proof] at h
  refine lv_iload_n (pc := 0) hx hb dX11_proof_0 rfl (lv_at hl 1 rfl) ?_
  refine lv_if_ge (pc := 1) (tgt := 8) hx hb dX11_proof_1 (by decide) (fun q => ?_) (fun q => ?_)
  · have h := ite_t q h
    refine lv_aload_n (pc := 8) hx hb dX11_proof_8 rfl (lv_at hl 0 rfl) ?_
    refine s_getR (pc := 9) F w 70 ds_61 (j := 8) vc_X11 vi_X11 rfl (by decide) kf_X11_74 dX11_proof_9 ?_
    refine lv_iload_n (pc := 12) hx hb dX11_proof_12 rfl (lv_at hl 1 rfl) ?_
    obtain ⟨r2, S1, hc, h⟩ := bnd_t h
    refine s_cvi (pc := 13) [.int a1] (fun ad => [.ref (ad 70), .int a1]) F w (m_Plans_potentialAt _ _ _ _ hc) rfl rfl hl.1 ds_70 vc_X3 rfl ok_X3_potentialAt rfl kc_X3_potentialAt kl_X11_447 ki_X3_potentialAt kv_X3_potentialAt kn_X3 ⟨Nat.le_trans (by decide) hR1, Nat.le_trans (by decide) hR2⟩ ⟨Nat.zero_le _, Nat.zero_le _⟩ (Nat.le_of_ble_eq_true rfl) dX11_proof_13 (fun H locs w => ?_)
    exact s_iret F w h dX11_proof_16
  · have h := ite_f q h
    refine lv_iconst (pc := 4) (v := -1) hx hb dX11_proof_4 (by decide) ?_
    refine lv_goto (pc := 5) (tgt := 16) hx hb dX11_proof_5 (by decide) ?_
    exact s_iret F w h dX11_proof_16
def f_Potentials_setTo (a1 : Int32) (a2 : Int32) (S : SS) : Option (SS) :=
  bnd (f_Potentials_isRank a1 S) (fun r2 S1 =>
  if r2 = 0 then
    some S1
  else
    grd (inb a1 (S1.2 120)) (wr S1 120 a1.toNatClampNeg a2 (fun S3 =>
    some S3)))
theorem dX4_setTo_0 : decode cX4_setTo 0 = .ok (.aload_n 0, 1) := dc_42 (by decide +kernel)
theorem dX4_setTo_1 : decode cX4_setTo 1 = .ok (.iload_n 1, 1) := dc_27 (by decide +kernel)
theorem dX4_setTo_2 : decode cX4_setTo 2 = .ok (.invokevirtual 63, 3) := dc_182 (a := 0) (b := 63) (by decide +kernel)
theorem dX4_setTo_5 : decode cX4_setTo 5 = .ok (.ifCond .eq 10, 3) := dc_153 (a := 0) (b := 10) (by decide +kernel) (by decide)
theorem dX4_setTo_8 : decode cX4_setTo 8 = .ok (.aload_n 0, 1) := dc_42 (by decide +kernel)
theorem dX4_setTo_9 : decode cX4_setTo 9 = .ok (.getfield 57, 3) := dc_180 (a := 0) (b := 57) (by decide +kernel)
theorem dX4_setTo_12 : decode cX4_setTo 12 = .ok (.iload_n 1, 1) := dc_27 (by decide +kernel)
theorem dX4_setTo_13 : decode cX4_setTo 13 = .ok (.iload_n 2, 1) := dc_28 (by decide +kernel)
theorem dX4_setTo_14 : decode cX4_setTo 14 = .ok (.iastore, 1) := dc_79 (by decide +kernel)
theorem dX4_setTo_15 : decode cX4_setTo 15 = .ok (.return_, 1) := dc_177 (by decide +kernel)
set_option maxRecDepth 100000 in
set_option maxHeartbeats 4000000 in
theorem m_Potentials_setTo (a1 : Int32) (a2 : Int32) (S S' : SS) (h : f_Potentials_setTo a1 a2 S = some S') : MT yX4_setTo cX4_setTo 3 none 1 21 (fun ad => [.ref (ad 71), .int a1, .int a2]) S none S' := by
  refine MT.of RX4 (fun ad => [(0, .ref (ad 71)), (1, .int a1), (2, .int a2)]) (by decide) rfl (fun _ => Nat.le_of_ble_eq_true rfl) (fun _ => rfl) ?_
  intro p l e R s m args below meth c dC dI cs ad A hR1 hR2 F H locs ls w hl
  have hx := F.1.1
  have hb := F.1.2.1
  rw [f_Potentials_setTo] at h
  refine lv_aload_n (pc := 0) hx hb dX4_setTo_0 rfl (lv_at hl 0 rfl) ?_
  refine lv_iload_n (pc := 1) hx hb dX4_setTo_1 rfl (lv_at hl 1 rfl) ?_
  obtain ⟨r2, S1, hc, h⟩ := bnd_t h
  refine s_cvi (pc := 2) [.int a1] (fun ad => [.ref (ad 71), .int a1]) F w (m_Potentials_isRank _ _ _ _ hc) rfl rfl hl.1 ds_71 vc_X4 rfl ok_X4_isRank rfl kc_X4_isRank kl_X4_63 ki_X4_isRank kv_X4_isRank kn_X4 ⟨Nat.le_trans (by decide) hR1, Nat.le_trans (by decide) hR2⟩ ⟨Nat.zero_le _, Nat.zero_le _⟩ (Nat.le_of_ble_eq_true rfl) dX4_setTo_2 (fun H locs w => ?_)
  refine lv_if_eq (pc := 5) (tgt := 15) hx hb dX4_setTo_5 (by decide) (fun q => ?_) (fun q => ?_)
  · have h := ite_t q h
    exact s_vret F w h dX4_setTo_15
  · have h := ite_f q h
    refine lv_aload_n (pc := 8) hx hb dX4_setTo_8 rfl (lv_at hl 0 rfl) ?_
    refine s_getR (pc := 9) F w 120 ds_71 (j := 14) vc_X4 vi_X4 rfl (by decide) kf_X4_57 dX4_setTo_9 ?_
    refine lv_iload_n (pc := 12) hx hb dX4_setTo_12 rfl (lv_at hl 1 rfl) ?_
    refine lv_iload_n (pc := 13) hx hb dX4_setTo_13 rfl (lv_at hl 2 rfl) ?_
    refine s_iast (pc := 14) F w ds_120 h dX4_setTo_14 (fun S3 H locs h w => ?_)
    exact s_vret F w h dX4_setTo_15
def f_Plans_setPotential (a1 : Int32) (a2 : Int32) (S : SS) : Option (Int32 × SS) :=
  bnd (f_Plans_potentialAt a1 S) (fun r2 S1 =>
  bnd (f_Plans_hasPotential a1 S1) (fun r4 S3 =>
  if r4 = 0 then
    some (r2, S3)
  else
    grd (inb a1 129) (
    bndv (f_Potentials_setTo (S3.1 108 a1.toNatClampNeg) a2 S3) (fun S5 =>
    some (r2, S5)))))
theorem dX3_setPotential_0 : decode cX3_setPotential 0 = .ok (.aload_n 0, 1) := dc_42 (by decide +kernel)
theorem dX3_setPotential_1 : decode cX3_setPotential 1 = .ok (.iload_n 1, 1) := dc_27 (by decide +kernel)
theorem dX3_setPotential_2 : decode cX3_setPotential 2 = .ok (.invokevirtual 139, 3) := dc_182 (a := 0) (b := 139) (by decide +kernel)
theorem dX3_setPotential_5 : decode cX3_setPotential 5 = .ok (.istore_n 3, 1) := dc_62 (by decide +kernel)
theorem dX3_setPotential_6 : decode cX3_setPotential 6 = .ok (.aload_n 0, 1) := dc_42 (by decide +kernel)
theorem dX3_setPotential_7 : decode cX3_setPotential 7 = .ok (.iload_n 1, 1) := dc_27 (by decide +kernel)
theorem dX3_setPotential_8 : decode cX3_setPotential 8 = .ok (.invokevirtual 135, 3) := dc_182 (a := 0) (b := 135) (by decide +kernel)
theorem dX3_setPotential_11 : decode cX3_setPotential 11 = .ok (.ifCond .eq 17, 3) := dc_153 (a := 0) (b := 17) (by decide +kernel) (by decide)
theorem dX3_setPotential_14 : decode cX3_setPotential 14 = .ok (.aload_n 0, 1) := dc_42 (by decide +kernel)
theorem dX3_setPotential_15 : decode cX3_setPotential 15 = .ok (.getfield 31, 3) := dc_180 (a := 0) (b := 31) (by decide +kernel)
theorem dX3_setPotential_18 : decode cX3_setPotential 18 = .ok (.aload_n 0, 1) := dc_42 (by decide +kernel)
theorem dX3_setPotential_19 : decode cX3_setPotential 19 = .ok (.getfield 38, 3) := dc_180 (a := 0) (b := 38) (by decide +kernel)
theorem dX3_setPotential_22 : decode cX3_setPotential 22 = .ok (.iload_n 1, 1) := dc_27 (by decide +kernel)
theorem dX3_setPotential_23 : decode cX3_setPotential 23 = .ok (.iaload, 1) := dc_46 (by decide +kernel)
theorem dX3_setPotential_24 : decode cX3_setPotential 24 = .ok (.iload_n 2, 1) := dc_28 (by decide +kernel)
theorem dX3_setPotential_25 : decode cX3_setPotential 25 = .ok (.invokevirtual 142, 3) := dc_182 (a := 0) (b := 142) (by decide +kernel)
theorem dX3_setPotential_28 : decode cX3_setPotential 28 = .ok (.iload_n 3, 1) := dc_29 (by decide +kernel)
theorem dX3_setPotential_29 : decode cX3_setPotential 29 = .ok (.ireturn, 1) := dc_172 (by decide +kernel)
set_option maxRecDepth 100000 in
set_option maxHeartbeats 4000000 in
theorem m_Plans_setPotential (a1 : Int32) (a2 : Int32) (S S' : SS) (r : Int32) (h : f_Plans_setPotential a1 a2 S = some (r, S')) : MT yX3_setPotential cX3_setPotential 4 (some .int) 3 63 (fun ad => [.ref (ad 70), .int a1, .int a2]) S (some (.int r)) S' := by
  refine MT.of RX3 (fun ad => [(0, .ref (ad 70)), (1, .int a1), (2, .int a2)]) (by decide) rfl (fun _ => Nat.le_of_ble_eq_true rfl) (fun _ => rfl) ?_
  intro p l e R s m args below meth c dC dI cs ad A hR1 hR2 F H locs ls w hl
  have hx := F.1.1
  have hb := F.1.2.1
  rw [f_Plans_setPotential] at h
  refine lv_aload_n (pc := 0) hx hb dX3_setPotential_0 rfl (lv_at hl 0 rfl) ?_
  refine lv_iload_n (pc := 1) hx hb dX3_setPotential_1 rfl (lv_at hl 1 rfl) ?_
  obtain ⟨r2, S1, hc, h⟩ := bnd_t h
  refine s_cvi (pc := 2) [.int a1] (fun ad => [.ref (ad 70), .int a1]) F w (m_Plans_potentialAt _ _ _ _ hc) rfl rfl hl.1 ds_70 vc_X3 rfl ok_X3_potentialAt rfl kc_X3_potentialAt kl_X3_139 ki_X3_potentialAt kv_X3_potentialAt kn_X3 ⟨Nat.le_trans (by decide) hR1, Nat.le_trans (by decide) hR2⟩ ⟨Nat.zero_le _, Nat.zero_le _⟩ (Nat.le_of_ble_eq_true rfl) dX3_setPotential_2 (fun H locs w => ?_)
  refine lv_istore_n (pc := 5) (lv' := [(3, .int r2), (0, .ref (ad 70)), (1, .int a1), (2, .int a2)]) hx hb dX3_setPotential_5 rfl hl (by decide) rfl (fun ls hl => ?_)
  refine lv_aload_n (pc := 6) hx hb dX3_setPotential_6 rfl (lv_at hl 1 rfl) ?_
  refine lv_iload_n (pc := 7) hx hb dX3_setPotential_7 rfl (lv_at hl 2 rfl) ?_
  obtain ⟨r4, S3, hc, h⟩ := bnd_t h
  refine s_cvi (pc := 8) [.int a1] (fun ad => [.ref (ad 70), .int a1]) F w (m_Plans_hasPotential _ _ _ _ hc) rfl rfl hl.1 ds_70 vc_X3 rfl ok_X3_hasPotential rfl kc_X3_hasPotential kl_X3_135 ki_X3_hasPotential kv_X3_hasPotential kn_X3 ⟨Nat.le_trans (by decide) hR1, Nat.le_trans (by decide) hR2⟩ ⟨Nat.zero_le _, Nat.zero_le _⟩ (Nat.le_of_ble_eq_true rfl) dX3_setPotential_8 (fun H locs w => ?_)
  refine lv_if_eq (pc := 11) (tgt := 28) hx hb dX3_setPotential_11 (by decide) (fun q => ?_) (fun q => ?_)
  · have h := ite_t q h
    refine lv_iload_n (pc := 28) hx hb dX3_setPotential_28 rfl (lv_at hl 0 rfl) ?_
    exact s_iret F w h dX3_setPotential_29
  · have h := ite_f q h
    refine lv_aload_n (pc := 14) hx hb dX3_setPotential_14 rfl (lv_at hl 1 rfl) ?_
    refine s_getR (pc := 15) F w 71 ds_70 (j := 4) vc_X3 vi_X3 rfl (by decide) kf_X3_31 dX3_setPotential_15 ?_
    refine lv_aload_n (pc := 18) hx hb dX3_setPotential_18 rfl (lv_at hl 1 rfl) ?_
    refine s_getR (pc := 19) F w 108 ds_70 (j := 6) vc_X3 vi_X3 rfl (by decide) kf_X3_38 dX3_setPotential_19 ?_
    refine lv_iload_n (pc := 22) hx hb dX3_setPotential_22 rfl (lv_at hl 2 rfl) ?_
    refine s_iald (pc := 23) F w ds_108 h dX3_setPotential_23 (fun h => ?_)
    refine lv_iload_n (pc := 24) hx hb dX3_setPotential_24 rfl (lv_at hl 3 rfl) ?_
    obtain ⟨S5, hc, h⟩ := bndv_t h
    refine s_cvv (pc := 25) [.int (S3.1 108 a1.toNatClampNeg), .int a2] (fun ad => [.ref (ad 71), .int (S3.1 108 a1.toNatClampNeg), .int a2]) F w (m_Potentials_setTo _ _ _ _ hc) rfl rfl hl.1 ds_71 vc_X4 rfl ok_X4_setTo rfl kc_X4_setTo kl_X3_142 ki_X4_setTo kv_X4_setTo kn_X4 ⟨Nat.le_trans (by decide) hR1, Nat.le_trans (by decide) hR2⟩ ⟨Nat.zero_le _, Nat.zero_le _⟩ (Nat.le_of_ble_eq_true rfl) dX3_setPotential_25 (fun H locs w => ?_)
    refine lv_iload_n (pc := 28) hx hb dX3_setPotential_28 rfl (lv_at hl 0 rfl) ?_
    exact s_iret F w h dX3_setPotential_29
def f_Yard_spoil (a1 : Int32) (a2 : Int32) (S : SS) : Option (Int32 × SS) :=
  if a1 < 0 then
    some ((-1 : Int32), S)
  else
    bnd (f_Yard_isNot a2 (0 : Int32) (99 : Int32) S) (fun r2 S1 =>
    if r2 = 0 then
      bnd (f_Plans_setPotential a1 a2 S1) (fun r4 S3 =>
      some (r4, S3))
    else
      some ((-1 : Int32), S1))
theorem dX11_spoil_0 : decode cX11_spoil 0 = .ok (.iload_n 1, 1) := dc_27 (by decide +kernel)
theorem dX11_spoil_1 : decode cX11_spoil 1 = .ok (.ifCond .lt 13, 3) := dc_155 (a := 0) (b := 13) (by decide +kernel) (by decide)
theorem dX11_spoil_4 : decode cX11_spoil 4 = .ok (.iload_n 2, 1) := dc_28 (by decide +kernel)
theorem dX11_spoil_5 : decode cX11_spoil 5 = .ok (.iconst 0, 1) := dc_3 (by decide +kernel)
theorem dX11_spoil_6 : decode cX11_spoil 6 = .ok (.bipush 99, 2) := dc_16 (a := 99) (by decide +kernel) (by decide)
theorem dX11_spoil_8 : decode cX11_spoil 8 = .ok (.invokestatic 108, 3) := dc_184 (a := 0) (b := 108) (by decide +kernel)
theorem dX11_spoil_11 : decode cX11_spoil 11 = .ok (.ifCond .eq 5, 3) := dc_153 (a := 0) (b := 5) (by decide +kernel) (by decide)
theorem dX11_spoil_14 : decode cX11_spoil 14 = .ok (.iconst (-1), 1) := dc_2 (by decide +kernel)
theorem dX11_spoil_15 : decode cX11_spoil 15 = .ok (.ireturn, 1) := dc_172 (by decide +kernel)
theorem dX11_spoil_16 : decode cX11_spoil 16 = .ok (.aload_n 0, 1) := dc_42 (by decide +kernel)
theorem dX11_spoil_17 : decode cX11_spoil 17 = .ok (.getfield 74, 3) := dc_180 (a := 0) (b := 74) (by decide +kernel)
theorem dX11_spoil_20 : decode cX11_spoil 20 = .ok (.iload_n 1, 1) := dc_27 (by decide +kernel)
theorem dX11_spoil_21 : decode cX11_spoil 21 = .ok (.iload_n 2, 1) := dc_28 (by decide +kernel)
theorem dX11_spoil_22 : decode cX11_spoil 22 = .ok (.invokevirtual 450, 3) := dc_182 (a := 1) (b := 194) (by decide +kernel)
theorem dX11_spoil_25 : decode cX11_spoil 25 = .ok (.ireturn, 1) := dc_172 (by decide +kernel)
set_option maxRecDepth 100000 in
set_option maxHeartbeats 4000000 in
theorem m_Yard_spoil (a1 : Int32) (a2 : Int32) (S S' : SS) (r : Int32) (h : f_Yard_spoil a1 a2 S = some (r, S')) : MT yX11_spoil cX11_spoil 3 (some .int) 4 86 (fun ad => [.ref (ad 61), .int a1, .int a2]) S (some (.int r)) S' := by
  refine MT.of RX11 (fun ad => [(0, .ref (ad 61)), (1, .int a1), (2, .int a2)]) (by decide) rfl (fun _ => Nat.le_of_ble_eq_true rfl) (fun _ => rfl) ?_
  intro p l e R s m args below meth c dC dI cs ad A hR1 hR2 F H locs ls w hl
  have hx := F.1.1
  have hb := F.1.2.1
  rw [f_Yard_spoil] at h
  refine lv_iload_n (pc := 0) hx hb dX11_spoil_0 rfl (lv_at hl 1 rfl) ?_
  refine lv_if_lt (pc := 1) (tgt := 14) hx hb dX11_spoil_1 (by decide) (fun q => ?_) (fun q => ?_)
  · have h := ite_t q h
    refine lv_iconst (pc := 14) (v := -1) hx hb dX11_spoil_14 (by decide) ?_
    exact s_iret F w h dX11_spoil_15
  · have h := ite_f q h
    refine lv_iload_n (pc := 4) hx hb dX11_spoil_4 rfl (lv_at hl 2 rfl) ?_
    refine lv_iconst (pc := 5) (v := 0) hx hb dX11_spoil_5 (by decide) ?_
    refine lv_bipush (pc := 6) (v := 99) hx hb dX11_spoil_6 (by decide) ?_
    obtain ⟨r2, S1, hc, h⟩ := bnd_t h
    refine s_csi (pc := 8) [.int a2, .int (0 : Int32), .int (99 : Int32)] (fun ad => [.int a2, .int (0 : Int32), .int (99 : Int32)]) F w (m_Yard_isNot _ _ _ _ _ _ hc) rfl rfl hl.1 ok_X11_isNot rfl kc_X11_isNot kl_X11_108 ks_X11_isNot kn_X11 ⟨Nat.le_trans (by decide) hR1, Nat.le_trans (by decide) hR2⟩ ⟨Nat.zero_le _, Nat.zero_le _⟩ (Nat.le_of_ble_eq_true rfl) dX11_spoil_8 (fun H locs w => ?_)
    refine lv_if_eq (pc := 11) (tgt := 16) hx hb dX11_spoil_11 (by decide) (fun q => ?_) (fun q => ?_)
    · have h := ite_t q h
      refine lv_aload_n (pc := 16) hx hb dX11_spoil_16 rfl (lv_at hl 0 rfl) ?_
      refine s_getR (pc := 17) F w 70 ds_61 (j := 8) vc_X11 vi_X11 rfl (by decide) kf_X11_74 dX11_spoil_17 ?_
      refine lv_iload_n (pc := 20) hx hb dX11_spoil_20 rfl (lv_at hl 1 rfl) ?_
      refine lv_iload_n (pc := 21) hx hb dX11_spoil_21 rfl (lv_at hl 2 rfl) ?_
      obtain ⟨r4, S3, hc, h⟩ := bnd_t h
      refine s_cvi (pc := 22) [.int a1, .int a2] (fun ad => [.ref (ad 70), .int a1, .int a2]) F w (m_Plans_setPotential _ _ _ _ _ hc) rfl rfl hl.1 ds_70 vc_X3 rfl ok_X3_setPotential rfl kc_X3_setPotential kl_X11_450 ki_X3_setPotential kv_X3_setPotential kn_X3 ⟨Nat.le_trans (by decide) hR1, Nat.le_trans (by decide) hR2⟩ ⟨Nat.zero_le _, Nat.zero_le _⟩ (Nat.le_of_ble_eq_true rfl) dX11_spoil_22 (fun H locs w => ?_)
      exact s_iret F w h dX11_spoil_25
    · have h := ite_f q h
      refine lv_iconst (pc := 14) (v := -1) hx hb dX11_spoil_14 (by decide) ?_
      exact s_iret F w h dX11_spoil_15
def f_Stacks_become_work_start  (S : SS) : Option (SS) :=
  grd (cpok (0 : Int32) (0 : Int32) (Int32.ofNat 40) 40 40) (cpw S 122 126 (0 : Int32).toNatClampNeg (0 : Int32).toNatClampNeg (Int32.ofNat 40).toNatClampNeg (fun S1 =>
  grd (cpok (0 : Int32) (0 : Int32) (Int32.ofNat 4) 4 4) (cpw S1 123 127 (0 : Int32).toNatClampNeg (0 : Int32).toNatClampNeg (Int32.ofNat 4).toNatClampNeg (fun S2 =>
  some S2))))
theorem dX7_become_0 : decode cX7_become 0 = .ok (.aload_n 1, 1) := dc_43 (by decide +kernel)
theorem dX7_become_1 : decode cX7_become 1 = .ok (.getfield 11, 3) := dc_180 (a := 0) (b := 11) (by decide +kernel)
theorem dX7_become_4 : decode cX7_become 4 = .ok (.iconst 0, 1) := dc_3 (by decide +kernel)
theorem dX7_become_5 : decode cX7_become 5 = .ok (.aload_n 0, 1) := dc_42 (by decide +kernel)
theorem dX7_become_6 : decode cX7_become 6 = .ok (.getfield 11, 3) := dc_180 (a := 0) (b := 11) (by decide +kernel)
theorem dX7_become_9 : decode cX7_become 9 = .ok (.iconst 0, 1) := dc_3 (by decide +kernel)
theorem dX7_become_10 : decode cX7_become 10 = .ok (.aload_n 0, 1) := dc_42 (by decide +kernel)
theorem dX7_become_11 : decode cX7_become 11 = .ok (.getfield 11, 3) := dc_180 (a := 0) (b := 11) (by decide +kernel)
theorem dX7_become_14 : decode cX7_become 14 = .ok (.arraylength, 1) := dc_190 (by decide +kernel)
theorem dX7_become_15 : decode cX7_become 15 = .ok (.invokestatic 24, 3) := dc_184 (a := 0) (b := 24) (by decide +kernel)
theorem dX7_become_18 : decode cX7_become 18 = .ok (.aload_n 1, 1) := dc_43 (by decide +kernel)
theorem dX7_become_19 : decode cX7_become 19 = .ok (.getfield 15, 3) := dc_180 (a := 0) (b := 15) (by decide +kernel)
theorem dX7_become_22 : decode cX7_become 22 = .ok (.iconst 0, 1) := dc_3 (by decide +kernel)
theorem dX7_become_23 : decode cX7_become 23 = .ok (.aload_n 0, 1) := dc_42 (by decide +kernel)
theorem dX7_become_24 : decode cX7_become 24 = .ok (.getfield 15, 3) := dc_180 (a := 0) (b := 15) (by decide +kernel)
theorem dX7_become_27 : decode cX7_become 27 = .ok (.iconst 0, 1) := dc_3 (by decide +kernel)
theorem dX7_become_28 : decode cX7_become 28 = .ok (.aload_n 0, 1) := dc_42 (by decide +kernel)
theorem dX7_become_29 : decode cX7_become 29 = .ok (.getfield 15, 3) := dc_180 (a := 0) (b := 15) (by decide +kernel)
theorem dX7_become_32 : decode cX7_become 32 = .ok (.arraylength, 1) := dc_190 (by decide +kernel)
theorem dX7_become_33 : decode cX7_become 33 = .ok (.invokestatic 24, 3) := dc_184 (a := 0) (b := 24) (by decide +kernel)
theorem dX7_become_36 : decode cX7_become 36 = .ok (.return_, 1) := dc_177 (by decide +kernel)
set_option maxRecDepth 100000 in
set_option maxHeartbeats 4000000 in
theorem m_Stacks_become_work_start  (S S' : SS) (h : f_Stacks_become_work_start  S = some S') : MT yX7_become cX7_become 2 none 1 40 (fun ad => [.ref (ad 74), .ref (ad 72)]) S none S' := by
  refine MT.of RX7 (fun ad => [(0, .ref (ad 74)), (1, .ref (ad 72))]) (by decide) rfl (fun _ => Nat.le_of_ble_eq_true rfl) (fun _ => rfl) ?_
  intro p l e R s m args below meth c dC dI cs ad A hR1 hR2 F H locs ls w hl
  have hx := F.1.1
  have hb := F.1.2.1
  rw [f_Stacks_become_work_start] at h
  refine lv_aload_n (pc := 0) hx hb dX7_become_0 rfl (lv_at hl 1 rfl) ?_
  refine s_getR (pc := 1) F w 122 ds_72 (j := 0) vc_X7 vi_X7 rfl (by decide) kf_X7_11 dX7_become_1 ?_
  refine lv_iconst (pc := 4) (v := 0) hx hb dX7_become_4 (by decide) ?_
  refine lv_aload_n (pc := 5) hx hb dX7_become_5 rfl (lv_at hl 0 rfl) ?_
  refine s_getR (pc := 6) F w 126 ds_74 (j := 0) vc_X7 vi_X7 rfl (by decide) kf_X7_11 dX7_become_6 ?_
  refine lv_iconst (pc := 9) (v := 0) hx hb dX7_become_9 (by decide) ?_
  refine lv_aload_n (pc := 10) hx hb dX7_become_10 rfl (lv_at hl 0 rfl) ?_
  refine s_getR (pc := 11) F w 126 ds_74 (j := 0) vc_X7 vi_X7 rfl (by decide) kf_X7_11 dX7_become_11 ?_
  refine s_alen (pc := 14) F w ds_126 dX7_become_14 ?_
  show W _ _ _ _ _ _ _ _ _ _ _ _ _ _ _ (F0 _ _ _ (.int (Int32.ofNat 40) :: _))
  refine s_copy (pc := 15) F w hl.1 ds_122 ds_126 h kl_X7_24 kx_native kx_static kx_ini (Nat.le_trans (by decide) hR1) (Nat.le_trans (Nat.le_of_ble_eq_true rfl) hR2) dX7_become_15 (fun S1 H locs h w => ?_)
  refine lv_aload_n (pc := 18) hx hb dX7_become_18 rfl (lv_at hl 1 rfl) ?_
  refine s_getR (pc := 19) F w 123 ds_72 (j := 1) vc_X7 vi_X7 rfl (by decide) kf_X7_15 dX7_become_19 ?_
  refine lv_iconst (pc := 22) (v := 0) hx hb dX7_become_22 (by decide) ?_
  refine lv_aload_n (pc := 23) hx hb dX7_become_23 rfl (lv_at hl 0 rfl) ?_
  refine s_getR (pc := 24) F w 127 ds_74 (j := 1) vc_X7 vi_X7 rfl (by decide) kf_X7_15 dX7_become_24 ?_
  refine lv_iconst (pc := 27) (v := 0) hx hb dX7_become_27 (by decide) ?_
  refine lv_aload_n (pc := 28) hx hb dX7_become_28 rfl (lv_at hl 0 rfl) ?_
  refine s_getR (pc := 29) F w 127 ds_74 (j := 1) vc_X7 vi_X7 rfl (by decide) kf_X7_15 dX7_become_29 ?_
  refine s_alen (pc := 32) F w ds_127 dX7_become_32 ?_
  show W _ _ _ _ _ _ _ _ _ _ _ _ _ _ _ (F0 _ _ _ (.int (Int32.ofNat 4) :: _))
  refine s_copy (pc := 33) F w hl.1 ds_123 ds_127 h kl_X7_24 kx_native kx_static kx_ini (Nat.le_trans (by decide) hR1) (Nat.le_trans (Nat.le_of_ble_eq_true rfl) hR2) dX7_become_33 (fun S2 H locs h w => ?_)
  exact s_vret F w h dX7_become_36
def f_Stacks_wagonAt_work_j28  (x1 : Int32) (x2 : Int32) (y0 : Int32) (S : SS) : Option (Int32 × SS) :=
    if y0 = 0 then
      some ((-4 : Int32), S)
    else
      grd (inb (((10 : Int32) * x1) + x2) 40) (
      some (S.1 126 (((10 : Int32) * x1) + x2).toNatClampNeg, S))
def f_Stacks_wagonAt_work_j27  (x1 : Int32) (x2 : Int32) (S : SS) : Option (Int32 × SS) :=
    f_Stacks_wagonAt_work_j28 x1 x2 (0 : Int32) S
def f_Stacks_wagonAt_work (a1 : Int32) (a2 : Int32) (S : SS) : Option (Int32 × SS) :=
  if a1 < 0 then
    f_Stacks_wagonAt_work_j27 a1 a2 S
  else
    if (4 : Int32) ≤ a1 then
      f_Stacks_wagonAt_work_j27 a1 a2 S
    else
      if a2 < 0 then
        f_Stacks_wagonAt_work_j27 a1 a2 S
      else
        grd (inb a1 4) (
        if (S.1 127 a1.toNatClampNeg) ≤ a2 then
          f_Stacks_wagonAt_work_j27 a1 a2 S
        else
          f_Stacks_wagonAt_work_j28 a1 a2 (1 : Int32) S)
set_option maxRecDepth 100000 in
set_option maxHeartbeats 4000000 in
theorem w_Stacks_wagonAt_work_j28 {p : Program} {l : Launch} {e : Env} {R : Room} {s : State} {m : MethodId} {args : Array Value} {below : List Frame} {meth : Method} {c : Code} {dC : Nat → ClassId} {dI : Nat → Nat → Nat} {cs : Nat → ClassId} {ad : Nat → Nat} {A : Nat → Prop} {D0 : Nat → Nat} {S' : SS} {r : Int32} (F : Fx p s m args meth c cX7_wagonAt 4 RX7 (some .int) dC dI cs A) (hR1 : 0 ≤ R.frames) (hR2 : 0 ≤ R.locals) (x1 : Int32) (x2 : Int32) (y0 : Int32) (S : SS) (h : f_Stacks_wagonAt_work_j28 x1 x2 y0 S = some (r, S')) : AW p l e R s m args below meth c dC dI cs ad A D0 (some (.int r)) S' 4 28 [(0, .ref (ad 74)), (1, .int x1), (2, .int x2)] [.int y0] S := by
  have hx := F.1.1
  have hb := F.1.2.1
  intro H locs ls w hl
  rw [f_Stacks_wagonAt_work_j28] at h
  refine lv_istore_n (pc := 28) (lv' := [(3, .int y0), (0, .ref (ad 74)), (1, .int x1), (2, .int x2)]) hx hb dX7_wagonAt_28 rfl hl (by decide) rfl (fun ls hl => ?_)
  refine lv_iload_n (pc := 29) hx hb dX7_wagonAt_29 rfl (lv_at hl 0 rfl) ?_
  refine lv_if_eq (pc := 30) (tgt := 47) hx hb dX7_wagonAt_30 (by decide) (fun q => ?_) (fun q => ?_)
  · have h := ite_t q h
    refine lv_bipush (pc := 47) (v := -4) hx hb dX7_wagonAt_47 (by decide) ?_
    exact s_iret F w h dX7_wagonAt_49
  · have h := ite_f q h
    refine lv_aload_n (pc := 33) hx hb dX7_wagonAt_33 rfl (lv_at hl 1 rfl) ?_
    refine s_getR (pc := 34) F w 126 ds_74 (j := 0) vc_X7 vi_X7 rfl (by decide) kf_X7_11 dX7_wagonAt_34 ?_
    refine lv_bipush (pc := 37) (v := 10) hx hb dX7_wagonAt_37 (by decide) ?_
    refine lv_iload_n (pc := 39) hx hb dX7_wagonAt_39 rfl (lv_at hl 2 rfl) ?_
    refine lv_imul (pc := 40) hx hb dX7_wagonAt_40 ?_
    refine lv_iload_n (pc := 41) hx hb dX7_wagonAt_41 rfl (lv_at hl 3 rfl) ?_
    refine lv_iadd (pc := 42) hx hb dX7_wagonAt_42 ?_
    refine s_iald (pc := 43) F w ds_126 h dX7_wagonAt_43 (fun h => ?_)
    refine lv_goto (pc := 44) (tgt := 49) hx hb dX7_wagonAt_44 (by decide) ?_
    exact s_iret F w h dX7_wagonAt_49
set_option maxRecDepth 100000 in
set_option maxHeartbeats 4000000 in
theorem w_Stacks_wagonAt_work_j27 {p : Program} {l : Launch} {e : Env} {R : Room} {s : State} {m : MethodId} {args : Array Value} {below : List Frame} {meth : Method} {c : Code} {dC : Nat → ClassId} {dI : Nat → Nat → Nat} {cs : Nat → ClassId} {ad : Nat → Nat} {A : Nat → Prop} {D0 : Nat → Nat} {S' : SS} {r : Int32} (F : Fx p s m args meth c cX7_wagonAt 4 RX7 (some .int) dC dI cs A) (hR1 : 0 ≤ R.frames) (hR2 : 0 ≤ R.locals) (x1 : Int32) (x2 : Int32) (S : SS) (h : f_Stacks_wagonAt_work_j27 x1 x2 S = some (r, S')) : AW p l e R s m args below meth c dC dI cs ad A D0 (some (.int r)) S' 4 27 [(0, .ref (ad 74)), (1, .int x1), (2, .int x2)] [] S := by
  have hx := F.1.1
  have hb := F.1.2.1
  intro H locs ls w hl
  rw [f_Stacks_wagonAt_work_j27] at h
  refine lv_iconst (pc := 27) (v := 0) hx hb dX7_wagonAt_27 (by decide) ?_
  exact w_Stacks_wagonAt_work_j28 F (Nat.le_trans (by decide) hR1) (Nat.le_trans (by decide) hR2) _ _ _ _ h _ _ _ w (lv_sub hl [0, 1, 2] rfl)
set_option maxRecDepth 100000 in
set_option maxHeartbeats 4000000 in
theorem m_Stacks_wagonAt_work (a1 : Int32) (a2 : Int32) (S S' : SS) (r : Int32) (h : f_Stacks_wagonAt_work a1 a2 S = some (r, S')) : MT yX7_wagonAt cX7_wagonAt 4 (some .int) 0 0 (fun ad => [.ref (ad 74), .int a1, .int a2]) S (some (.int r)) S' := by
  refine MT.of RX7 (fun ad => [(0, .ref (ad 74)), (1, .int a1), (2, .int a2)]) (by decide) rfl (fun _ => Nat.le_of_ble_eq_true rfl) (fun _ => rfl) ?_
  intro p l e R s m args below meth c dC dI cs ad A hR1 hR2 F H locs ls w hl
  have hx := F.1.1
  have hb := F.1.2.1
  rw [f_Stacks_wagonAt_work] at h
  refine lv_iload_n (pc := 0) hx hb dX7_wagonAt_0 rfl (lv_at hl 1 rfl) ?_
  refine lv_if_lt (pc := 1) (tgt := 27) hx hb dX7_wagonAt_1 (by decide) (fun q => ?_) (fun q => ?_)
  · have h := ite_t q h
    exact w_Stacks_wagonAt_work_j27 F (Nat.le_trans (by decide) hR1) (Nat.le_trans (by decide) hR2) _ _ _ h _ _ _ w (lv_sub hl [0, 1, 2] rfl)
  · have h := ite_f q h
    refine lv_iload_n (pc := 4) hx hb dX7_wagonAt_4 rfl (lv_at hl 1 rfl) ?_
    refine lv_iconst (pc := 5) (v := 4) hx hb dX7_wagonAt_5 (by decide) ?_
    refine lv_icmp_ge (pc := 6) (tgt := 27) hx hb dX7_wagonAt_6 (by decide) (fun q => ?_) (fun q => ?_)
    · have h := ite_t q h
      exact w_Stacks_wagonAt_work_j27 F (Nat.le_trans (by decide) hR1) (Nat.le_trans (by decide) hR2) _ _ _ h _ _ _ w (lv_sub hl [0, 1, 2] rfl)
    · have h := ite_f q h
      refine lv_iload_n (pc := 9) hx hb dX7_wagonAt_9 rfl (lv_at hl 2 rfl) ?_
      refine lv_if_lt (pc := 10) (tgt := 27) hx hb dX7_wagonAt_10 (by decide) (fun q => ?_) (fun q => ?_)
      · have h := ite_t q h
        exact w_Stacks_wagonAt_work_j27 F (Nat.le_trans (by decide) hR1) (Nat.le_trans (by decide) hR2) _ _ _ h _ _ _ w (lv_sub hl [0, 1, 2] rfl)
      · have h := ite_f q h
        refine lv_iload_n (pc := 13) hx hb dX7_wagonAt_13 rfl (lv_at hl 2 rfl) ?_
        refine lv_aload_n (pc := 14) hx hb dX7_wagonAt_14 rfl (lv_at hl 0 rfl) ?_
        refine s_getR (pc := 15) F w 127 ds_74 (j := 1) vc_X7 vi_X7 rfl (by decide) kf_X7_15 dX7_wagonAt_15 ?_
        refine lv_iload_n (pc := 18) hx hb dX7_wagonAt_18 rfl (lv_at hl 1 rfl) ?_
        refine s_iald (pc := 19) F w ds_127 h dX7_wagonAt_19 (fun h => ?_)
        refine lv_icmp_ge (pc := 20) (tgt := 27) hx hb dX7_wagonAt_20 (by decide) (fun q => ?_) (fun q => ?_)
        · have h := ite_t q h
          exact w_Stacks_wagonAt_work_j27 F (Nat.le_trans (by decide) hR1) (Nat.le_trans (by decide) hR2) _ _ _ h _ _ _ w (lv_sub hl [0, 1, 2] rfl)
        · have h := ite_f q h
          refine lv_iconst (pc := 23) (v := 1) hx hb dX7_wagonAt_23 (by decide) ?_
          refine lv_goto (pc := 24) (tgt := 28) hx hb dX7_wagonAt_24 (by decide) ?_
          exact w_Stacks_wagonAt_work_j28 F (Nat.le_trans (by decide) hR1) (Nat.le_trans (by decide) hR2) _ _ _ _ h _ _ _ w (lv_sub hl [0, 1, 2] rfl)
def f_Stacks_isLike_work_goal_L25 (K2 : Int32 → SS → Option (Int32 × SS)) : Nat → Int32 → Int32 → SS → Option (Int32 × SS)
  | 0, _, _, _ => none
  | n + 1, x2, x3, S =>
    grd (inb x2 4) (
    if (S.1 127 x2.toNatClampNeg) ≤ x3 then
      nm (x2 + (1 : Int32)) (fun z3 =>
      K2 z3 S)
    else
      bnd (f_Stacks_wagonAt_work x2 x3 S) (fun r5 S4 =>
      bnd (f_Stacks_wagonAt_goal x2 x3 S4) (fun r7 S6 =>
      if r5 = r7 then
        nm (x3 + (1 : Int32)) (fun z8 =>
        f_Stacks_isLike_work_goal_L25 K2 n x2 z8 S6)
      else
        some ((0 : Int32), S6))))
def f_Stacks_isLike_work_goal_L2  : Nat → Int32 → SS → Option (Int32 × SS)
  | 0, _, _ => none
  | n + 1, x2, S =>
    if (4 : Int32) ≤ x2 then
      some ((1 : Int32), S)
    else
      grd (inb x2 4) (
      bnd (f_Stacks_height_goal x2 S) (fun r2 S1 =>
      if (S.1 127 x2.toNatClampNeg) = r2 then
        f_Stacks_isLike_work_goal_L25 (fun v0 S => f_Stacks_isLike_work_goal_L2 n v0 S) NF x2 (0 : Int32) S1
      else
        some ((0 : Int32), S1)))
def f_Stacks_isLike_work_goal  (S : SS) : Option (Int32 × SS) :=
  f_Stacks_isLike_work_goal_L2 NF (0 : Int32) S
theorem dX7_isLike_0 : decode cX7_isLike 0 = .ok (.iconst 0, 1) := dc_3 (by decide +kernel)
theorem dX7_isLike_1 : decode cX7_isLike 1 = .ok (.istore_n 2, 1) := dc_61 (by decide +kernel)
theorem dX7_isLike_2 : decode cX7_isLike 2 = .ok (.iload_n 2, 1) := dc_28 (by decide +kernel)
theorem dX7_isLike_3 : decode cX7_isLike 3 = .ok (.iconst 4, 1) := dc_7 (by decide +kernel)
theorem dX7_isLike_4 : decode cX7_isLike 4 = .ok (.if_icmp .ge 60, 3) := dc_162 (a := 0) (b := 60) (by decide +kernel) (by decide)
theorem dX7_isLike_7 : decode cX7_isLike 7 = .ok (.aload_n 0, 1) := dc_42 (by decide +kernel)
theorem dX7_isLike_8 : decode cX7_isLike 8 = .ok (.getfield 15, 3) := dc_180 (a := 0) (b := 15) (by decide +kernel)
theorem dX7_isLike_11 : decode cX7_isLike 11 = .ok (.iload_n 2, 1) := dc_28 (by decide +kernel)
theorem dX7_isLike_12 : decode cX7_isLike 12 = .ok (.iaload, 1) := dc_46 (by decide +kernel)
theorem dX7_isLike_13 : decode cX7_isLike 13 = .ok (.aload_n 1, 1) := dc_43 (by decide +kernel)
theorem dX7_isLike_14 : decode cX7_isLike 14 = .ok (.iload_n 2, 1) := dc_28 (by decide +kernel)
theorem dX7_isLike_15 : decode cX7_isLike 15 = .ok (.invokevirtual 30, 3) := dc_182 (a := 0) (b := 30) (by decide +kernel)
theorem dX7_isLike_18 : decode cX7_isLike 18 = .ok (.if_icmp .eq 5, 3) := dc_159 (a := 0) (b := 5) (by decide +kernel) (by decide)
theorem dX7_isLike_21 : decode cX7_isLike 21 = .ok (.iconst 0, 1) := dc_3 (by decide +kernel)
theorem dX7_isLike_22 : decode cX7_isLike 22 = .ok (.ireturn, 1) := dc_172 (by decide +kernel)
theorem dX7_isLike_23 : decode cX7_isLike 23 = .ok (.iconst 0, 1) := dc_3 (by decide +kernel)
theorem dX7_isLike_24 : decode cX7_isLike 24 = .ok (.istore_n 3, 1) := dc_62 (by decide +kernel)
theorem dX7_isLike_25 : decode cX7_isLike 25 = .ok (.iload_n 3, 1) := dc_29 (by decide +kernel)
theorem dX7_isLike_26 : decode cX7_isLike 26 = .ok (.aload_n 0, 1) := dc_42 (by decide +kernel)
theorem dX7_isLike_27 : decode cX7_isLike 27 = .ok (.getfield 15, 3) := dc_180 (a := 0) (b := 15) (by decide +kernel)
theorem dX7_isLike_30 : decode cX7_isLike 30 = .ok (.iload_n 2, 1) := dc_28 (by decide +kernel)
theorem dX7_isLike_31 : decode cX7_isLike 31 = .ok (.iaload, 1) := dc_46 (by decide +kernel)
theorem dX7_isLike_32 : decode cX7_isLike 32 = .ok (.if_icmp .ge 26, 3) := dc_162 (a := 0) (b := 26) (by decide +kernel) (by decide)
theorem dX7_isLike_35 : decode cX7_isLike 35 = .ok (.aload_n 0, 1) := dc_42 (by decide +kernel)
theorem dX7_isLike_36 : decode cX7_isLike 36 = .ok (.iload_n 2, 1) := dc_28 (by decide +kernel)
theorem dX7_isLike_37 : decode cX7_isLike 37 = .ok (.iload_n 3, 1) := dc_29 (by decide +kernel)
theorem dX7_isLike_38 : decode cX7_isLike 38 = .ok (.invokevirtual 34, 3) := dc_182 (a := 0) (b := 34) (by decide +kernel)
theorem dX7_isLike_41 : decode cX7_isLike 41 = .ok (.aload_n 1, 1) := dc_43 (by decide +kernel)
theorem dX7_isLike_42 : decode cX7_isLike 42 = .ok (.iload_n 2, 1) := dc_28 (by decide +kernel)
theorem dX7_isLike_43 : decode cX7_isLike 43 = .ok (.iload_n 3, 1) := dc_29 (by decide +kernel)
theorem dX7_isLike_44 : decode cX7_isLike 44 = .ok (.invokevirtual 34, 3) := dc_182 (a := 0) (b := 34) (by decide +kernel)
theorem dX7_isLike_47 : decode cX7_isLike 47 = .ok (.if_icmp .eq 5, 3) := dc_159 (a := 0) (b := 5) (by decide +kernel) (by decide)
theorem dX7_isLike_50 : decode cX7_isLike 50 = .ok (.iconst 0, 1) := dc_3 (by decide +kernel)
theorem dX7_isLike_51 : decode cX7_isLike 51 = .ok (.ireturn, 1) := dc_172 (by decide +kernel)
theorem dX7_isLike_52 : decode cX7_isLike 52 = .ok (.iinc 3 1, 3) := dc_132 (a := 3) (b := 1) (by decide +kernel) (by decide)
theorem dX7_isLike_55 : decode cX7_isLike 55 = .ok (.goto (-30), 3) := dc_167 (a := 255) (b := 226) (by decide +kernel) (by decide)
theorem dX7_isLike_58 : decode cX7_isLike 58 = .ok (.iinc 2 1, 3) := dc_132 (a := 2) (b := 1) (by decide +kernel) (by decide)
theorem dX7_isLike_61 : decode cX7_isLike 61 = .ok (.goto (-59), 3) := dc_167 (a := 255) (b := 197) (by decide +kernel) (by decide)
theorem dX7_isLike_64 : decode cX7_isLike 64 = .ok (.iconst 1, 1) := dc_4 (by decide +kernel)
theorem dX7_isLike_65 : decode cX7_isLike 65 = .ok (.ireturn, 1) := dc_172 (by decide +kernel)
set_option maxRecDepth 100000 in
set_option maxHeartbeats 4000000 in
theorem w_Stacks_isLike_work_goal_L25 {p : Program} {l : Launch} {e : Env} {R : Room} {s : State} {m : MethodId} {args : Array Value} {below : List Frame} {meth : Method} {c : Code} {dC : Nat → ClassId} {dI : Nat → Nat → Nat} {cs : Nat → ClassId} {ad : Nat → Nat} {A : Nat → Prop} {D0 : Nat → Nat} {S' : SS} {r : Int32} (F : Fx p s m args meth c cX7_isLike 4 RX7 (some .boolean) dC dI cs A) (hR1 : 1 ≤ R.frames) (hR2 : 23 ≤ R.locals) (K2 : Int32 → SS → Option (Int32 × SS)) (hK2 : ∀ (v0 : Int32) (S : SS), K2 v0 S = some (r, S') → AW p l e R s m args below meth c dC dI cs ad A D0 (some (.int r)) S' 4 2 [(0, .ref (ad 74)), (1, .ref (ad 73)), (2, .int v0)] [] S) : ∀ (n : Nat) (x2 : Int32) (x3 : Int32) (S : SS), f_Stacks_isLike_work_goal_L25 K2 n x2 x3 S = some (r, S') → AW p l e R s m args below meth c dC dI cs ad A D0 (some (.int r)) S' 4 25 [(0, .ref (ad 74)), (1, .ref (ad 73)), (2, .int x2), (3, .int x3)] [] S := by
  have hx := F.1.1
  have hb := F.1.2.1
  intro n
  induction n with
  | zero => intro x2 x3 S h; cases h
  | succ n ih =>
    intro x2 x3 S h H locs ls w hl
    rw [f_Stacks_isLike_work_goal_L25] at h
    refine lv_iload_n (pc := 25) hx hb dX7_isLike_25 rfl (lv_at hl 3 rfl) ?_
    refine lv_aload_n (pc := 26) hx hb dX7_isLike_26 rfl (lv_at hl 0 rfl) ?_
    refine s_getR (pc := 27) F w 127 ds_74 (j := 1) vc_X7 vi_X7 rfl (by decide) kf_X7_15 dX7_isLike_27 ?_
    refine lv_iload_n (pc := 30) hx hb dX7_isLike_30 rfl (lv_at hl 2 rfl) ?_
    refine s_iald (pc := 31) F w ds_127 h dX7_isLike_31 (fun h => ?_)
    refine lv_icmp_ge (pc := 32) (tgt := 58) hx hb dX7_isLike_32 (by decide) (fun q => ?_) (fun q => ?_)
    · have h := ite_t q h
      refine s_nm h (fun z3 ez3 h => ?_)
      refine lv_iinc (pc := 58) (v := z3) (lv' := [(2, .int z3), (0, .ref (ad 74)), (1, .ref (ad 73)), (3, .int x3)]) hx hb dX7_isLike_58 hl (k := 2) rfl (by rw [ez3]; rfl) (by decide) rfl (fun ls hl => ?_)
      refine lv_goto (pc := 61) (tgt := 2) hx hb dX7_isLike_61 (by decide) ?_
      exact hK2 _ _ h _ _ _ w (lv_sub hl [1, 2, 0] rfl)
    · have h := ite_f q h
      refine lv_aload_n (pc := 35) hx hb dX7_isLike_35 rfl (lv_at hl 0 rfl) ?_
      refine lv_iload_n (pc := 36) hx hb dX7_isLike_36 rfl (lv_at hl 2 rfl) ?_
      refine lv_iload_n (pc := 37) hx hb dX7_isLike_37 rfl (lv_at hl 3 rfl) ?_
      obtain ⟨r5, S4, hc, h⟩ := bnd_t h
      refine s_cvi (pc := 38) [.int x2, .int x3] (fun ad => [.ref (ad 74), .int x2, .int x3]) F w (m_Stacks_wagonAt_work _ _ _ _ _ hc) rfl rfl hl.1 ds_74 vc_X7 rfl ok_X7_wagonAt rfl kc_X7_wagonAt kl_X7_34 ki_X7_wagonAt kv_X7_wagonAt kn_X7 ⟨Nat.le_trans (by decide) hR1, Nat.le_trans (by decide) hR2⟩ ⟨Nat.zero_le _, Nat.zero_le _⟩ (Nat.le_of_ble_eq_true rfl) dX7_isLike_38 (fun H locs w => ?_)
      refine lv_aload_n (pc := 41) hx hb dX7_isLike_41 rfl (lv_at hl 1 rfl) ?_
      refine lv_iload_n (pc := 42) hx hb dX7_isLike_42 rfl (lv_at hl 2 rfl) ?_
      refine lv_iload_n (pc := 43) hx hb dX7_isLike_43 rfl (lv_at hl 3 rfl) ?_
      obtain ⟨r7, S6, hc, h⟩ := bnd_t h
      refine s_cvi (pc := 44) [.int x2, .int x3] (fun ad => [.ref (ad 73), .int x2, .int x3]) F w (m_Stacks_wagonAt_goal _ _ _ _ _ hc) rfl rfl hl.1 ds_73 vc_X7 rfl ok_X7_wagonAt rfl kc_X7_wagonAt kl_X7_34 ki_X7_wagonAt kv_X7_wagonAt kn_X7 ⟨Nat.le_trans (by decide) hR1, Nat.le_trans (by decide) hR2⟩ ⟨Nat.zero_le _, Nat.zero_le _⟩ (Nat.le_of_ble_eq_true rfl) dX7_isLike_44 (fun H locs w => ?_)
      refine lv_icmp_eq (pc := 47) (tgt := 52) hx hb dX7_isLike_47 (by decide) (fun q => ?_) (fun q => ?_)
      · have h := ite_t q h
        refine s_nm h (fun z8 ez8 h => ?_)
        refine lv_iinc (pc := 52) (v := z8) (lv' := [(3, .int z8), (0, .ref (ad 74)), (1, .ref (ad 73)), (2, .int x2)]) hx hb dX7_isLike_52 hl (k := 3) rfl (by rw [ez8]; rfl) (by decide) rfl (fun ls hl => ?_)
        refine lv_goto (pc := 55) (tgt := 25) hx hb dX7_isLike_55 (by decide) ?_
        exact ih _ _ _ h _ _ _ w (lv_sub hl [1, 2, 3, 0] rfl)
      · have h := ite_f q h
        refine lv_iconst (pc := 50) (v := 0) hx hb dX7_isLike_50 (by decide) ?_
        exact s_zretc F w rfl h dX7_isLike_51
set_option maxRecDepth 100000 in
set_option maxHeartbeats 4000000 in
theorem w_Stacks_isLike_work_goal_L2 {p : Program} {l : Launch} {e : Env} {R : Room} {s : State} {m : MethodId} {args : Array Value} {below : List Frame} {meth : Method} {c : Code} {dC : Nat → ClassId} {dI : Nat → Nat → Nat} {cs : Nat → ClassId} {ad : Nat → Nat} {A : Nat → Prop} {D0 : Nat → Nat} {S' : SS} {r : Int32} (F : Fx p s m args meth c cX7_isLike 4 RX7 (some .boolean) dC dI cs A) (hR1 : 1 ≤ R.frames) (hR2 : 23 ≤ R.locals) : ∀ (n : Nat) (x2 : Int32) (S : SS), f_Stacks_isLike_work_goal_L2 n x2 S = some (r, S') → AW p l e R s m args below meth c dC dI cs ad A D0 (some (.int r)) S' 4 2 [(0, .ref (ad 74)), (1, .ref (ad 73)), (2, .int x2)] [] S := by
  have hx := F.1.1
  have hb := F.1.2.1
  intro n
  induction n with
  | zero => intro x2 S h; cases h
  | succ n ih =>
    intro x2 S h H locs ls w hl
    rw [f_Stacks_isLike_work_goal_L2] at h
    refine lv_iload_n (pc := 2) hx hb dX7_isLike_2 rfl (lv_at hl 2 rfl) ?_
    refine lv_iconst (pc := 3) (v := 4) hx hb dX7_isLike_3 (by decide) ?_
    refine lv_icmp_ge (pc := 4) (tgt := 64) hx hb dX7_isLike_4 (by decide) (fun q => ?_) (fun q => ?_)
    · have h := ite_t q h
      refine lv_iconst (pc := 64) (v := 1) hx hb dX7_isLike_64 (by decide) ?_
      exact s_zretc F w rfl h dX7_isLike_65
    · have h := ite_f q h
      refine lv_aload_n (pc := 7) hx hb dX7_isLike_7 rfl (lv_at hl 0 rfl) ?_
      refine s_getR (pc := 8) F w 127 ds_74 (j := 1) vc_X7 vi_X7 rfl (by decide) kf_X7_15 dX7_isLike_8 ?_
      refine lv_iload_n (pc := 11) hx hb dX7_isLike_11 rfl (lv_at hl 2 rfl) ?_
      refine s_iald (pc := 12) F w ds_127 h dX7_isLike_12 (fun h => ?_)
      refine lv_aload_n (pc := 13) hx hb dX7_isLike_13 rfl (lv_at hl 1 rfl) ?_
      refine lv_iload_n (pc := 14) hx hb dX7_isLike_14 rfl (lv_at hl 2 rfl) ?_
      obtain ⟨r2, S1, hc, h⟩ := bnd_t h
      refine s_cvi (pc := 15) [.int x2] (fun ad => [.ref (ad 73), .int x2]) F w (m_Stacks_height_goal _ _ _ _ hc) rfl rfl hl.1 ds_73 vc_X7 rfl ok_X7_height rfl kc_X7_height kl_X7_30 ki_X7_height kv_X7_height kn_X7 ⟨Nat.le_trans (by decide) hR1, Nat.le_trans (by decide) hR2⟩ ⟨Nat.zero_le _, Nat.zero_le _⟩ (Nat.le_of_ble_eq_true rfl) dX7_isLike_15 (fun H locs w => ?_)
      refine lv_icmp_eq (pc := 18) (tgt := 23) hx hb dX7_isLike_18 (by decide) (fun q => ?_) (fun q => ?_)
      · have h := ite_t q h
        refine lv_iconst (pc := 23) (v := 0) hx hb dX7_isLike_23 (by decide) ?_
        refine lv_istore_n (pc := 24) (lv' := [(3, .int (0 : Int32)), (0, .ref (ad 74)), (1, .ref (ad 73)), (2, .int x2)]) hx hb dX7_isLike_24 rfl hl (by decide) rfl (fun ls hl => ?_)
        exact w_Stacks_isLike_work_goal_L25 F (Nat.le_trans (by decide) hR1) (Nat.le_trans (by decide) hR2) _ (fun v0 S h => ih v0 S h) _ _ _ _ h _ _ _ w (lv_sub hl [1, 2, 3, 0] rfl)
      · have h := ite_f q h
        refine lv_iconst (pc := 21) (v := 0) hx hb dX7_isLike_21 (by decide) ?_
        exact s_zretc F w rfl h dX7_isLike_22
set_option maxRecDepth 100000 in
set_option maxHeartbeats 4000000 in
theorem m_Stacks_isLike_work_goal  (S S' : SS) (r : Int32) (h : f_Stacks_isLike_work_goal  S = some (r, S')) : MT yX7_isLike cX7_isLike 4 (some .boolean) 1 23 (fun ad => [.ref (ad 74), .ref (ad 73)]) S (some (.int r)) S' := by
  refine MT.of RX7 (fun ad => [(0, .ref (ad 74)), (1, .ref (ad 73))]) (by decide) rfl (fun _ => Nat.le_of_ble_eq_true rfl) (fun _ => rfl) ?_
  intro p l e R s m args below meth c dC dI cs ad A hR1 hR2 F H locs ls w hl
  have hx := F.1.1
  have hb := F.1.2.1
  rw [f_Stacks_isLike_work_goal] at h
  refine lv_iconst (pc := 0) (v := 0) hx hb dX7_isLike_0 (by decide) ?_
  refine lv_istore_n (pc := 1) (lv' := [(2, .int (0 : Int32)), (0, .ref (ad 74)), (1, .ref (ad 73))]) hx hb dX7_isLike_1 rfl hl (by decide) rfl (fun ls hl => ?_)
  exact w_Stacks_isLike_work_goal_L2 F (Nat.le_trans (by decide) hR1) (Nat.le_trans (by decide) hR2) _ _ _ h _ _ _ w (lv_sub hl [1, 2, 0] rfl)
def f_Stacks_height_work (a1 : Int32) (S : SS) : Option (Int32 × SS) :=
  if a1 < 0 then
    some ((0 : Int32), S)
  else
    if (4 : Int32) ≤ a1 then
      some ((0 : Int32), S)
    else
      grd (inb a1 4) (
      some (S.1 127 a1.toNatClampNeg, S))
set_option maxRecDepth 100000 in
set_option maxHeartbeats 4000000 in
theorem m_Stacks_height_work (a1 : Int32) (S S' : SS) (r : Int32) (h : f_Stacks_height_work a1 S = some (r, S')) : MT yX7_height cX7_height 2 (some .int) 0 0 (fun ad => [.ref (ad 74), .int a1]) S (some (.int r)) S' := by
  refine MT.of RX7 (fun ad => [(0, .ref (ad 74)), (1, .int a1)]) (by decide) rfl (fun _ => Nat.le_of_ble_eq_true rfl) (fun _ => rfl) ?_
  intro p l e R s m args below meth c dC dI cs ad A hR1 hR2 F H locs ls w hl
  have hx := F.1.1
  have hb := F.1.2.1
  rw [f_Stacks_height_work] at h
  refine lv_iload_n (pc := 0) hx hb dX7_height_0 rfl (lv_at hl 1 rfl) ?_
  refine lv_if_lt (pc := 1) (tgt := 18) hx hb dX7_height_1 (by decide) (fun q => ?_) (fun q => ?_)
  · have h := ite_t q h
    refine lv_iconst (pc := 18) (v := 0) hx hb dX7_height_18 (by decide) ?_
    exact s_iret F w h dX7_height_19
  · have h := ite_f q h
    refine lv_iload_n (pc := 4) hx hb dX7_height_4 rfl (lv_at hl 1 rfl) ?_
    refine lv_iconst (pc := 5) (v := 4) hx hb dX7_height_5 (by decide) ?_
    refine lv_icmp_ge (pc := 6) (tgt := 18) hx hb dX7_height_6 (by decide) (fun q => ?_) (fun q => ?_)
    · have h := ite_t q h
      refine lv_iconst (pc := 18) (v := 0) hx hb dX7_height_18 (by decide) ?_
      exact s_iret F w h dX7_height_19
    · have h := ite_f q h
      refine lv_aload_n (pc := 9) hx hb dX7_height_9 rfl (lv_at hl 0 rfl) ?_
      refine s_getR (pc := 10) F w 127 ds_74 (j := 1) vc_X7 vi_X7 rfl (by decide) kf_X7_15 dX7_height_10 ?_
      refine lv_iload_n (pc := 13) hx hb dX7_height_13 rfl (lv_at hl 1 rfl) ?_
      refine s_iald (pc := 14) F w ds_127 h dX7_height_14 (fun h => ?_)
      refine lv_goto (pc := 15) (tgt := 19) hx hb dX7_height_15 (by decide) ?_
      exact s_iret F w h dX7_height_19
def f_Plans_roomLeft (a1 : Int32) (S : SS) : Option (Int32 × SS) :=
  if a1 < 0 then
    some ((0 : Int32), S)
  else
    if a1 < (4 : Int32) then
      grd (inb a1 4) (
      bnd (f_Stacks_height_work a1 S) (fun r2 S1 =>
      some ((S.1 106 a1.toNatClampNeg) - r2, S1)))
    else
      some ((0 : Int32), S)
theorem dX3_roomLeft_0 : decode cX3_roomLeft 0 = .ok (.iload_n 1, 1) := dc_27 (by decide +kernel)
theorem dX3_roomLeft_1 : decode cX3_roomLeft 1 = .ok (.ifCond .lt 8, 3) := dc_155 (a := 0) (b := 8) (by decide +kernel) (by decide)
theorem dX3_roomLeft_4 : decode cX3_roomLeft 4 = .ok (.iload_n 1, 1) := dc_27 (by decide +kernel)
theorem dX3_roomLeft_5 : decode cX3_roomLeft 5 = .ok (.iconst 4, 1) := dc_7 (by decide +kernel)
theorem dX3_roomLeft_6 : decode cX3_roomLeft 6 = .ok (.if_icmp .lt 7, 3) := dc_161 (a := 0) (b := 7) (by decide +kernel) (by decide)
theorem dX3_roomLeft_9 : decode cX3_roomLeft 9 = .ok (.iconst 0, 1) := dc_3 (by decide +kernel)
theorem dX3_roomLeft_10 : decode cX3_roomLeft 10 = .ok (.goto 18, 3) := dc_167 (a := 0) (b := 18) (by decide +kernel) (by decide)
theorem dX3_roomLeft_13 : decode cX3_roomLeft 13 = .ok (.aload_n 0, 1) := dc_42 (by decide +kernel)
theorem dX3_roomLeft_14 : decode cX3_roomLeft 14 = .ok (.getfield 24, 3) := dc_180 (a := 0) (b := 24) (by decide +kernel)
theorem dX3_roomLeft_17 : decode cX3_roomLeft 17 = .ok (.iload_n 1, 1) := dc_27 (by decide +kernel)
theorem dX3_roomLeft_18 : decode cX3_roomLeft 18 = .ok (.iaload, 1) := dc_46 (by decide +kernel)
theorem dX3_roomLeft_19 : decode cX3_roomLeft 19 = .ok (.aload_n 0, 1) := dc_42 (by decide +kernel)
theorem dX3_roomLeft_20 : decode cX3_roomLeft 20 = .ok (.getfield 21, 3) := dc_180 (a := 0) (b := 21) (by decide +kernel)
theorem dX3_roomLeft_23 : decode cX3_roomLeft 23 = .ok (.iload_n 1, 1) := dc_27 (by decide +kernel)
theorem dX3_roomLeft_24 : decode cX3_roomLeft 24 = .ok (.invokevirtual 54, 3) := dc_182 (a := 0) (b := 54) (by decide +kernel)
theorem dX3_roomLeft_27 : decode cX3_roomLeft 27 = .ok (.isub, 1) := dc_100 (by decide +kernel)
theorem dX3_roomLeft_28 : decode cX3_roomLeft 28 = .ok (.ireturn, 1) := dc_172 (by decide +kernel)
set_option maxRecDepth 100000 in
set_option maxHeartbeats 4000000 in
theorem m_Plans_roomLeft (a1 : Int32) (S S' : SS) (r : Int32) (h : f_Plans_roomLeft a1 S = some (r, S')) : MT yX3_roomLeft cX3_roomLeft 2 (some .int) 1 21 (fun ad => [.ref (ad 70), .int a1]) S (some (.int r)) S' := by
  refine MT.of RX3 (fun ad => [(0, .ref (ad 70)), (1, .int a1)]) (by decide) rfl (fun _ => Nat.le_of_ble_eq_true rfl) (fun _ => rfl) ?_
  intro p l e R s m args below meth c dC dI cs ad A hR1 hR2 F H locs ls w hl
  have hx := F.1.1
  have hb := F.1.2.1
  rw [f_Plans_roomLeft] at h
  refine lv_iload_n (pc := 0) hx hb dX3_roomLeft_0 rfl (lv_at hl 1 rfl) ?_
  refine lv_if_lt (pc := 1) (tgt := 9) hx hb dX3_roomLeft_1 (by decide) (fun q => ?_) (fun q => ?_)
  · have h := ite_t q h
    refine lv_iconst (pc := 9) (v := 0) hx hb dX3_roomLeft_9 (by decide) ?_
    refine lv_goto (pc := 10) (tgt := 28) hx hb dX3_roomLeft_10 (by decide) ?_
    exact s_iret F w h dX3_roomLeft_28
  · have h := ite_f q h
    refine lv_iload_n (pc := 4) hx hb dX3_roomLeft_4 rfl (lv_at hl 1 rfl) ?_
    refine lv_iconst (pc := 5) (v := 4) hx hb dX3_roomLeft_5 (by decide) ?_
    refine lv_icmp_lt (pc := 6) (tgt := 13) hx hb dX3_roomLeft_6 (by decide) (fun q => ?_) (fun q => ?_)
    · have h := ite_t q h
      refine lv_aload_n (pc := 13) hx hb dX3_roomLeft_13 rfl (lv_at hl 0 rfl) ?_
      refine s_getR (pc := 14) F w 106 ds_70 (j := 3) vc_X3 vi_X3 rfl (by decide) kf_X3_24 dX3_roomLeft_14 ?_
      refine lv_iload_n (pc := 17) hx hb dX3_roomLeft_17 rfl (lv_at hl 1 rfl) ?_
      refine s_iald (pc := 18) F w ds_106 h dX3_roomLeft_18 (fun h => ?_)
      refine lv_aload_n (pc := 19) hx hb dX3_roomLeft_19 rfl (lv_at hl 0 rfl) ?_
      refine s_getR (pc := 20) F w 74 ds_70 (j := 2) vc_X3 vi_X3 rfl (by decide) kf_X3_21 dX3_roomLeft_20 ?_
      refine lv_iload_n (pc := 23) hx hb dX3_roomLeft_23 rfl (lv_at hl 1 rfl) ?_
      obtain ⟨r2, S1, hc, h⟩ := bnd_t h
      refine s_cvi (pc := 24) [.int a1] (fun ad => [.ref (ad 74), .int a1]) F w (m_Stacks_height_work _ _ _ _ hc) rfl rfl hl.1 ds_74 vc_X7 rfl ok_X7_height rfl kc_X7_height kl_X3_54 ki_X7_height kv_X7_height kn_X7 ⟨Nat.le_trans (by decide) hR1, Nat.le_trans (by decide) hR2⟩ ⟨Nat.zero_le _, Nat.zero_le _⟩ (Nat.le_of_ble_eq_true rfl) dX3_roomLeft_24 (fun H locs w => ?_)
      refine lv_isub (pc := 27) hx hb dX3_roomLeft_27 ?_
      exact s_iret F w h dX3_roomLeft_28
    · have h := ite_f q h
      refine lv_iconst (pc := 9) (v := 0) hx hb dX3_roomLeft_9 (by decide) ?_
      refine lv_goto (pc := 10) (tgt := 28) hx hb dX3_roomLeft_10 (by decide) ?_
      exact s_iret F w h dX3_roomLeft_28
def f_Stacks_shift_work_j19  (x1 : Int32) (x2 : Int32) (x3 : Int32) (y0 : Int32) (S : SS) : Option (SS) :=
    if y0 = 0 then
      some S
    else
      if x3 < (1 : Int32) then
        some S
      else
        bnd (f_Stacks_height_work x1 S) (fun r2 S1 =>
        if r2 < x3 then
          some S1
        else
          grd (inb x2 4) (
          if x3 ≤ ((10 : Int32) - (S1.1 127 x2.toNatClampNeg)) then
            grd (inb x1 4) (
            grd (inb x1 4) (wr S1 127 x1.toNatClampNeg ((S1.1 127 x1.toNatClampNeg) - x3) (fun S3 =>
            grd (inb x1 4) (
            grd (inb x2 4) (
            grd (cpok (((10 : Int32) * x1) + (S3.1 127 x1.toNatClampNeg)) (((10 : Int32) * x2) + (S3.1 127 x2.toNatClampNeg)) x3 40 40) (cpw S3 126 126 (((10 : Int32) * x1) + (S3.1 127 x1.toNatClampNeg)).toNatClampNeg (((10 : Int32) * x2) + (S3.1 127 x2.toNatClampNeg)).toNatClampNeg x3.toNatClampNeg (fun S4 =>
            grd (inb x2 4) (
            grd (inb x2 4) (wr S4 127 x2.toNatClampNeg ((S4.1 127 x2.toNatClampNeg) + x3) (fun S5 =>
            some S5))))))))))
          else
            some S1))
def f_Stacks_shift_work_j18  (x1 : Int32) (x2 : Int32) (x3 : Int32) (S : SS) : Option (SS) :=
    f_Stacks_shift_work_j19 x1 x2 x3 (0 : Int32) S
def f_Stacks_shift_work (a1 : Int32) (a2 : Int32) (a3 : Int32) (S : SS) : Option (SS) :=
  if a2 < 0 then
    f_Stacks_shift_work_j18 a1 a2 a3 S
  else
    if (4 : Int32) ≤ a2 then
      f_Stacks_shift_work_j18 a1 a2 a3 S
    else
      if a2 = a1 then
        f_Stacks_shift_work_j18 a1 a2 a3 S
      else
        f_Stacks_shift_work_j19 a1 a2 a3 (1 : Int32) S
theorem dX7_shift_0 : decode cX7_shift 0 = .ok (.iload_n 2, 1) := dc_28 (by decide +kernel)
theorem dX7_shift_1 : decode cX7_shift 1 = .ok (.ifCond .lt 17, 3) := dc_155 (a := 0) (b := 17) (by decide +kernel) (by decide)
theorem dX7_shift_4 : decode cX7_shift 4 = .ok (.iload_n 2, 1) := dc_28 (by decide +kernel)
theorem dX7_shift_5 : decode cX7_shift 5 = .ok (.iconst 4, 1) := dc_7 (by decide +kernel)
theorem dX7_shift_6 : decode cX7_shift 6 = .ok (.if_icmp .ge 12, 3) := dc_162 (a := 0) (b := 12) (by decide +kernel) (by decide)
theorem dX7_shift_9 : decode cX7_shift 9 = .ok (.iload_n 2, 1) := dc_28 (by decide +kernel)
theorem dX7_shift_10 : decode cX7_shift 10 = .ok (.iload_n 1, 1) := dc_27 (by decide +kernel)
theorem dX7_shift_11 : decode cX7_shift 11 = .ok (.if_icmp .eq 7, 3) := dc_159 (a := 0) (b := 7) (by decide +kernel) (by decide)
theorem dX7_shift_14 : decode cX7_shift 14 = .ok (.iconst 1, 1) := dc_4 (by decide +kernel)
theorem dX7_shift_15 : decode cX7_shift 15 = .ok (.goto 4, 3) := dc_167 (a := 0) (b := 4) (by decide +kernel) (by decide)
theorem dX7_shift_18 : decode cX7_shift 18 = .ok (.iconst 0, 1) := dc_3 (by decide +kernel)
theorem dX7_shift_19 : decode cX7_shift 19 = .ok (.istore 4, 2) := dc_54 (a := 4) (by decide +kernel)
theorem dX7_shift_21 : decode cX7_shift 21 = .ok (.iload 4, 2) := dc_21 (a := 4) (by decide +kernel)
theorem dX7_shift_23 : decode cX7_shift 23 = .ok (.ifCond .eq 30, 3) := dc_153 (a := 0) (b := 30) (by decide +kernel) (by decide)
theorem dX7_shift_26 : decode cX7_shift 26 = .ok (.iload_n 3, 1) := dc_29 (by decide +kernel)
theorem dX7_shift_27 : decode cX7_shift 27 = .ok (.iconst 1, 1) := dc_4 (by decide +kernel)
theorem dX7_shift_28 : decode cX7_shift 28 = .ok (.if_icmp .lt 25, 3) := dc_161 (a := 0) (b := 25) (by decide +kernel) (by decide)
theorem dX7_shift_31 : decode cX7_shift 31 = .ok (.iload_n 3, 1) := dc_29 (by decide +kernel)
theorem dX7_shift_32 : decode cX7_shift 32 = .ok (.aload_n 0, 1) := dc_42 (by decide +kernel)
theorem dX7_shift_33 : decode cX7_shift 33 = .ok (.iload_n 1, 1) := dc_27 (by decide +kernel)
theorem dX7_shift_34 : decode cX7_shift 34 = .ok (.invokevirtual 30, 3) := dc_182 (a := 0) (b := 30) (by decide +kernel)
theorem dX7_shift_37 : decode cX7_shift 37 = .ok (.if_icmp .gt 16, 3) := dc_163 (a := 0) (b := 16) (by decide +kernel) (by decide)
theorem dX7_shift_40 : decode cX7_shift 40 = .ok (.iload_n 3, 1) := dc_29 (by decide +kernel)
theorem dX7_shift_41 : decode cX7_shift 41 = .ok (.bipush 10, 2) := dc_16 (a := 10) (by decide +kernel) (by decide)
theorem dX7_shift_43 : decode cX7_shift 43 = .ok (.aload_n 0, 1) := dc_42 (by decide +kernel)
theorem dX7_shift_44 : decode cX7_shift 44 = .ok (.getfield 15, 3) := dc_180 (a := 0) (b := 15) (by decide +kernel)
theorem dX7_shift_47 : decode cX7_shift 47 = .ok (.iload_n 2, 1) := dc_28 (by decide +kernel)
theorem dX7_shift_48 : decode cX7_shift 48 = .ok (.iaload, 1) := dc_46 (by decide +kernel)
theorem dX7_shift_49 : decode cX7_shift 49 = .ok (.isub, 1) := dc_100 (by decide +kernel)
theorem dX7_shift_50 : decode cX7_shift 50 = .ok (.if_icmp .le 4, 3) := dc_164 (a := 0) (b := 4) (by decide +kernel) (by decide)
theorem dX7_shift_53 : decode cX7_shift 53 = .ok (.return_, 1) := dc_177 (by decide +kernel)
theorem dX7_shift_54 : decode cX7_shift 54 = .ok (.aload_n 0, 1) := dc_42 (by decide +kernel)
theorem dX7_shift_55 : decode cX7_shift 55 = .ok (.getfield 15, 3) := dc_180 (a := 0) (b := 15) (by decide +kernel)
theorem dX7_shift_58 : decode cX7_shift 58 = .ok (.iload_n 1, 1) := dc_27 (by decide +kernel)
theorem dX7_shift_59 : decode cX7_shift 59 = .ok (.dup2, 1) := dc_92 (by decide +kernel)
theorem dX7_shift_60 : decode cX7_shift 60 = .ok (.iaload, 1) := dc_46 (by decide +kernel)
theorem dX7_shift_61 : decode cX7_shift 61 = .ok (.iload_n 3, 1) := dc_29 (by decide +kernel)
theorem dX7_shift_62 : decode cX7_shift 62 = .ok (.isub, 1) := dc_100 (by decide +kernel)
theorem dX7_shift_63 : decode cX7_shift 63 = .ok (.iastore, 1) := dc_79 (by decide +kernel)
theorem dX7_shift_64 : decode cX7_shift 64 = .ok (.aload_n 0, 1) := dc_42 (by decide +kernel)
theorem dX7_shift_65 : decode cX7_shift 65 = .ok (.getfield 11, 3) := dc_180 (a := 0) (b := 11) (by decide +kernel)
theorem dX7_shift_68 : decode cX7_shift 68 = .ok (.bipush 10, 2) := dc_16 (a := 10) (by decide +kernel) (by decide)
theorem dX7_shift_70 : decode cX7_shift 70 = .ok (.iload_n 1, 1) := dc_27 (by decide +kernel)
theorem dX7_shift_71 : decode cX7_shift 71 = .ok (.imul, 1) := dc_104 (by decide +kernel)
theorem dX7_shift_72 : decode cX7_shift 72 = .ok (.aload_n 0, 1) := dc_42 (by decide +kernel)
theorem dX7_shift_73 : decode cX7_shift 73 = .ok (.getfield 15, 3) := dc_180 (a := 0) (b := 15) (by decide +kernel)
theorem dX7_shift_76 : decode cX7_shift 76 = .ok (.iload_n 1, 1) := dc_27 (by decide +kernel)
theorem dX7_shift_77 : decode cX7_shift 77 = .ok (.iaload, 1) := dc_46 (by decide +kernel)
theorem dX7_shift_78 : decode cX7_shift 78 = .ok (.iadd, 1) := dc_96 (by decide +kernel)
theorem dX7_shift_79 : decode cX7_shift 79 = .ok (.aload_n 0, 1) := dc_42 (by decide +kernel)
theorem dX7_shift_80 : decode cX7_shift 80 = .ok (.getfield 11, 3) := dc_180 (a := 0) (b := 11) (by decide +kernel)
theorem dX7_shift_83 : decode cX7_shift 83 = .ok (.bipush 10, 2) := dc_16 (a := 10) (by decide +kernel) (by decide)
theorem dX7_shift_85 : decode cX7_shift 85 = .ok (.iload_n 2, 1) := dc_28 (by decide +kernel)
theorem dX7_shift_86 : decode cX7_shift 86 = .ok (.imul, 1) := dc_104 (by decide +kernel)
theorem dX7_shift_87 : decode cX7_shift 87 = .ok (.aload_n 0, 1) := dc_42 (by decide +kernel)
theorem dX7_shift_88 : decode cX7_shift 88 = .ok (.getfield 15, 3) := dc_180 (a := 0) (b := 15) (by decide +kernel)
theorem dX7_shift_91 : decode cX7_shift 91 = .ok (.iload_n 2, 1) := dc_28 (by decide +kernel)
theorem dX7_shift_92 : decode cX7_shift 92 = .ok (.iaload, 1) := dc_46 (by decide +kernel)
theorem dX7_shift_93 : decode cX7_shift 93 = .ok (.iadd, 1) := dc_96 (by decide +kernel)
theorem dX7_shift_94 : decode cX7_shift 94 = .ok (.iload_n 3, 1) := dc_29 (by decide +kernel)
theorem dX7_shift_95 : decode cX7_shift 95 = .ok (.invokestatic 24, 3) := dc_184 (a := 0) (b := 24) (by decide +kernel)
theorem dX7_shift_98 : decode cX7_shift 98 = .ok (.aload_n 0, 1) := dc_42 (by decide +kernel)
theorem dX7_shift_99 : decode cX7_shift 99 = .ok (.getfield 15, 3) := dc_180 (a := 0) (b := 15) (by decide +kernel)
theorem dX7_shift_102 : decode cX7_shift 102 = .ok (.iload_n 2, 1) := dc_28 (by decide +kernel)
theorem dX7_shift_103 : decode cX7_shift 103 = .ok (.dup2, 1) := dc_92 (by decide +kernel)
theorem dX7_shift_104 : decode cX7_shift 104 = .ok (.iaload, 1) := dc_46 (by decide +kernel)
theorem dX7_shift_105 : decode cX7_shift 105 = .ok (.iload_n 3, 1) := dc_29 (by decide +kernel)
theorem dX7_shift_106 : decode cX7_shift 106 = .ok (.iadd, 1) := dc_96 (by decide +kernel)
theorem dX7_shift_107 : decode cX7_shift 107 = .ok (.iastore, 1) := dc_79 (by decide +kernel)
theorem dX7_shift_108 : decode cX7_shift 108 = .ok (.return_, 1) := dc_177 (by decide +kernel)
set_option maxRecDepth 100000 in
set_option maxHeartbeats 4000000 in
theorem w_Stacks_shift_work_j19 {p : Program} {l : Launch} {e : Env} {R : Room} {s : State} {m : MethodId} {args : Array Value} {below : List Frame} {meth : Method} {c : Code} {dC : Nat → ClassId} {dI : Nat → Nat → Nat} {cs : Nat → ClassId} {ad : Nat → Nat} {A : Nat → Prop} {D0 : Nat → Nat} {S' : SS} (F : Fx p s m args meth c cX7_shift 5 RX7 none dC dI cs A) (hR1 : 1 ≤ R.frames) (hR2 : 40 ≤ R.locals) (x1 : Int32) (x2 : Int32) (x3 : Int32) (y0 : Int32) (S : SS) (h : f_Stacks_shift_work_j19 x1 x2 x3 y0 S = some S') : AW p l e R s m args below meth c dC dI cs ad A D0 none S' 5 19 [(0, .ref (ad 74)), (1, .int x1), (2, .int x2), (3, .int x3)] [.int y0] S := by
  have hx := F.1.1
  have hb := F.1.2.1
  intro H locs ls w hl
  rw [f_Stacks_shift_work_j19] at h
  refine lv_istore (pc := 19) (lv' := [(4, .int y0), (0, .ref (ad 74)), (1, .int x1), (2, .int x2), (3, .int x3)]) hx hb dX7_shift_19 hl (by decide) rfl (fun ls hl => ?_)
  refine lv_iload (pc := 21) hx hb dX7_shift_21 (lv_at hl 0 rfl) ?_
  refine lv_if_eq (pc := 23) (tgt := 53) hx hb dX7_shift_23 (by decide) (fun q => ?_) (fun q => ?_)
  · have h := ite_t q h
    exact s_vret F w h dX7_shift_53
  · have h := ite_f q h
    refine lv_iload_n (pc := 26) hx hb dX7_shift_26 rfl (lv_at hl 4 rfl) ?_
    refine lv_iconst (pc := 27) (v := 1) hx hb dX7_shift_27 (by decide) ?_
    refine lv_icmp_lt (pc := 28) (tgt := 53) hx hb dX7_shift_28 (by decide) (fun q => ?_) (fun q => ?_)
    · have h := ite_t q h
      exact s_vret F w h dX7_shift_53
    · have h := ite_f q h
      refine lv_iload_n (pc := 31) hx hb dX7_shift_31 rfl (lv_at hl 4 rfl) ?_
      refine lv_aload_n (pc := 32) hx hb dX7_shift_32 rfl (lv_at hl 1 rfl) ?_
      refine lv_iload_n (pc := 33) hx hb dX7_shift_33 rfl (lv_at hl 2 rfl) ?_
      obtain ⟨r2, S1, hc, h⟩ := bnd_t h
      refine s_cvi (pc := 34) [.int x1] (fun ad => [.ref (ad 74), .int x1]) F w (m_Stacks_height_work _ _ _ _ hc) rfl rfl hl.1 ds_74 vc_X7 rfl ok_X7_height rfl kc_X7_height kl_X7_30 ki_X7_height kv_X7_height kn_X7 ⟨Nat.le_trans (by decide) hR1, Nat.le_trans (by decide) hR2⟩ ⟨Nat.zero_le _, Nat.zero_le _⟩ (Nat.le_of_ble_eq_true rfl) dX7_shift_34 (fun H locs w => ?_)
      refine lv_icmp_gt (pc := 37) (tgt := 53) hx hb dX7_shift_37 (by decide) (fun q => ?_) (fun q => ?_)
      · have h := ite_t q h
        exact s_vret F w h dX7_shift_53
      · have h := ite_f q h
        refine lv_iload_n (pc := 40) hx hb dX7_shift_40 rfl (lv_at hl 4 rfl) ?_
        refine lv_bipush (pc := 41) (v := 10) hx hb dX7_shift_41 (by decide) ?_
        refine lv_aload_n (pc := 43) hx hb dX7_shift_43 rfl (lv_at hl 1 rfl) ?_
        refine s_getR (pc := 44) F w 127 ds_74 (j := 1) vc_X7 vi_X7 rfl (by decide) kf_X7_15 dX7_shift_44 ?_
        refine lv_iload_n (pc := 47) hx hb dX7_shift_47 rfl (lv_at hl 3 rfl) ?_
        refine s_iald (pc := 48) F w ds_127 h dX7_shift_48 (fun h => ?_)
        refine lv_isub (pc := 49) hx hb dX7_shift_49 ?_
        refine lv_icmp_le (pc := 50) (tgt := 54) hx hb dX7_shift_50 (by decide) (fun q => ?_) (fun q => ?_)
        · have h := ite_t q h
          refine lv_aload_n (pc := 54) hx hb dX7_shift_54 rfl (lv_at hl 1 rfl) ?_
          refine s_getR (pc := 55) F w 127 ds_74 (j := 1) vc_X7 vi_X7 rfl (by decide) kf_X7_15 dX7_shift_55 ?_
          refine lv_iload_n (pc := 58) hx hb dX7_shift_58 rfl (lv_at hl 2 rfl) ?_
          refine lv_dup2_11 (pc := 59) hx hb dX7_shift_59 rfl rfl ?_
          refine s_iald (pc := 60) F w ds_127 h dX7_shift_60 (fun h => ?_)
          refine lv_iload_n (pc := 61) hx hb dX7_shift_61 rfl (lv_at hl 4 rfl) ?_
          refine lv_isub (pc := 62) hx hb dX7_shift_62 ?_
          refine s_iast (pc := 63) F w ds_127 h dX7_shift_63 (fun S3 H locs h w => ?_)
          refine lv_aload_n (pc := 64) hx hb dX7_shift_64 rfl (lv_at hl 1 rfl) ?_
          refine s_getR (pc := 65) F w 126 ds_74 (j := 0) vc_X7 vi_X7 rfl (by decide) kf_X7_11 dX7_shift_65 ?_
          refine lv_bipush (pc := 68) (v := 10) hx hb dX7_shift_68 (by decide) ?_
          refine lv_iload_n (pc := 70) hx hb dX7_shift_70 rfl (lv_at hl 2 rfl) ?_
          refine lv_imul (pc := 71) hx hb dX7_shift_71 ?_
          refine lv_aload_n (pc := 72) hx hb dX7_shift_72 rfl (lv_at hl 1 rfl) ?_
          refine s_getR (pc := 73) F w 127 ds_74 (j := 1) vc_X7 vi_X7 rfl (by decide) kf_X7_15 dX7_shift_73 ?_
          refine lv_iload_n (pc := 76) hx hb dX7_shift_76 rfl (lv_at hl 2 rfl) ?_
          refine s_iald (pc := 77) F w ds_127 h dX7_shift_77 (fun h => ?_)
          refine lv_iadd (pc := 78) hx hb dX7_shift_78 ?_
          refine lv_aload_n (pc := 79) hx hb dX7_shift_79 rfl (lv_at hl 1 rfl) ?_
          refine s_getR (pc := 80) F w 126 ds_74 (j := 0) vc_X7 vi_X7 rfl (by decide) kf_X7_11 dX7_shift_80 ?_
          refine lv_bipush (pc := 83) (v := 10) hx hb dX7_shift_83 (by decide) ?_
          refine lv_iload_n (pc := 85) hx hb dX7_shift_85 rfl (lv_at hl 3 rfl) ?_
          refine lv_imul (pc := 86) hx hb dX7_shift_86 ?_
          refine lv_aload_n (pc := 87) hx hb dX7_shift_87 rfl (lv_at hl 1 rfl) ?_
          refine s_getR (pc := 88) F w 127 ds_74 (j := 1) vc_X7 vi_X7 rfl (by decide) kf_X7_15 dX7_shift_88 ?_
          refine lv_iload_n (pc := 91) hx hb dX7_shift_91 rfl (lv_at hl 3 rfl) ?_
          refine s_iald (pc := 92) F w ds_127 h dX7_shift_92 (fun h => ?_)
          refine lv_iadd (pc := 93) hx hb dX7_shift_93 ?_
          refine lv_iload_n (pc := 94) hx hb dX7_shift_94 rfl (lv_at hl 4 rfl) ?_
          refine s_copy (pc := 95) F w hl.1 ds_126 ds_126 h kl_X7_24 kx_native kx_static kx_ini (Nat.le_trans (by decide) hR1) (Nat.le_trans (Nat.le_of_ble_eq_true rfl) hR2) dX7_shift_95 (fun S4 H locs h w => ?_)
          refine lv_aload_n (pc := 98) hx hb dX7_shift_98 rfl (lv_at hl 1 rfl) ?_
          refine s_getR (pc := 99) F w 127 ds_74 (j := 1) vc_X7 vi_X7 rfl (by decide) kf_X7_15 dX7_shift_99 ?_
          refine lv_iload_n (pc := 102) hx hb dX7_shift_102 rfl (lv_at hl 3 rfl) ?_
          refine lv_dup2_11 (pc := 103) hx hb dX7_shift_103 rfl rfl ?_
          refine s_iald (pc := 104) F w ds_127 h dX7_shift_104 (fun h => ?_)
          refine lv_iload_n (pc := 105) hx hb dX7_shift_105 rfl (lv_at hl 4 rfl) ?_
          refine lv_iadd (pc := 106) hx hb dX7_shift_106 ?_
          refine s_iast (pc := 107) F w ds_127 h dX7_shift_107 (fun S5 H locs h w => ?_)
          exact s_vret F w h dX7_shift_108
        · have h := ite_f q h
          exact s_vret F w h dX7_shift_53
set_option maxRecDepth 100000 in
set_option maxHeartbeats 4000000 in
theorem w_Stacks_shift_work_j18 {p : Program} {l : Launch} {e : Env} {R : Room} {s : State} {m : MethodId} {args : Array Value} {below : List Frame} {meth : Method} {c : Code} {dC : Nat → ClassId} {dI : Nat → Nat → Nat} {cs : Nat → ClassId} {ad : Nat → Nat} {A : Nat → Prop} {D0 : Nat → Nat} {S' : SS} (F : Fx p s m args meth c cX7_shift 5 RX7 none dC dI cs A) (hR1 : 1 ≤ R.frames) (hR2 : 40 ≤ R.locals) (x1 : Int32) (x2 : Int32) (x3 : Int32) (S : SS) (h : f_Stacks_shift_work_j18 x1 x2 x3 S = some S') : AW p l e R s m args below meth c dC dI cs ad A D0 none S' 5 18 [(0, .ref (ad 74)), (1, .int x1), (2, .int x2), (3, .int x3)] [] S := by
  have hx := F.1.1
  have hb := F.1.2.1
  intro H locs ls w hl
  rw [f_Stacks_shift_work_j18] at h
  refine lv_iconst (pc := 18) (v := 0) hx hb dX7_shift_18 (by decide) ?_
  exact w_Stacks_shift_work_j19 F (Nat.le_trans (by decide) hR1) (Nat.le_trans (by decide) hR2) _ _ _ _ _ h _ _ _ w (lv_sub hl [0, 1, 2, 3] rfl)
set_option maxRecDepth 100000 in
set_option maxHeartbeats 4000000 in
theorem m_Stacks_shift_work (a1 : Int32) (a2 : Int32) (a3 : Int32) (S S' : SS) (h : f_Stacks_shift_work a1 a2 a3 S = some S') : MT yX7_shift cX7_shift 5 none 1 40 (fun ad => [.ref (ad 74), .int a1, .int a2, .int a3]) S none S' := by
  refine MT.of RX7 (fun ad => [(0, .ref (ad 74)), (1, .int a1), (2, .int a2), (3, .int a3)]) (by decide) rfl (fun _ => Nat.le_of_ble_eq_true rfl) (fun _ => rfl) ?_
  intro p l e R s m args below meth c dC dI cs ad A hR1 hR2 F H locs ls w hl
  have hx := F.1.1
  have hb := F.1.2.1
  rw [f_Stacks_shift_work] at h
  refine lv_iload_n (pc := 0) hx hb dX7_shift_0 rfl (lv_at hl 2 rfl) ?_
  refine lv_if_lt (pc := 1) (tgt := 18) hx hb dX7_shift_1 (by decide) (fun q => ?_) (fun q => ?_)
  · have h := ite_t q h
    exact w_Stacks_shift_work_j18 F (Nat.le_trans (by decide) hR1) (Nat.le_trans (by decide) hR2) _ _ _ _ h _ _ _ w (lv_sub hl [0, 1, 2, 3] rfl)
  · have h := ite_f q h
    refine lv_iload_n (pc := 4) hx hb dX7_shift_4 rfl (lv_at hl 2 rfl) ?_
    refine lv_iconst (pc := 5) (v := 4) hx hb dX7_shift_5 (by decide) ?_
    refine lv_icmp_ge (pc := 6) (tgt := 18) hx hb dX7_shift_6 (by decide) (fun q => ?_) (fun q => ?_)
    · have h := ite_t q h
      exact w_Stacks_shift_work_j18 F (Nat.le_trans (by decide) hR1) (Nat.le_trans (by decide) hR2) _ _ _ _ h _ _ _ w (lv_sub hl [0, 1, 2, 3] rfl)
    · have h := ite_f q h
      refine lv_iload_n (pc := 9) hx hb dX7_shift_9 rfl (lv_at hl 2 rfl) ?_
      refine lv_iload_n (pc := 10) hx hb dX7_shift_10 rfl (lv_at hl 1 rfl) ?_
      refine lv_icmp_eq (pc := 11) (tgt := 18) hx hb dX7_shift_11 (by decide) (fun q => ?_) (fun q => ?_)
      · have h := ite_t q h
        exact w_Stacks_shift_work_j18 F (Nat.le_trans (by decide) hR1) (Nat.le_trans (by decide) hR2) _ _ _ _ h _ _ _ w (lv_sub hl [0, 1, 2, 3] rfl)
      · have h := ite_f q h
        refine lv_iconst (pc := 14) (v := 1) hx hb dX7_shift_14 (by decide) ?_
        refine lv_goto (pc := 15) (tgt := 19) hx hb dX7_shift_15 (by decide) ?_
        exact w_Stacks_shift_work_j19 F (Nat.le_trans (by decide) hR1) (Nat.le_trans (by decide) hR2) _ _ _ _ _ h _ _ _ w (lv_sub hl [0, 1, 2, 3] rfl)
def f_Plans_leadsToGoal_L13  : Nat → Int32 → SS → Option (Int32 × SS)
  | 0, _, _ => none
  | n + 1, x1, S =>
    if (S.1 70 7) ≤ x1 then
      bnd (f_Stacks_isLike_work_goal  S) (fun r3 S2 =>
      grd (isB r3) (some (r3, S2)))
    else
      bnd (f_Plans_moveAt x1 (0 : Int32) S) (fun r5 S4 =>
      bnd (f_Plans_moveAt x1 (1 : Int32) S4) (fun r7 S6 =>
      bnd (f_Plans_moveAt x1 (2 : Int32) S6) (fun r9 S8 =>
      bnd (f_Stacks_height_work r5 S8) (fun r11 S10 =>
      if r11 < r9 then
        some ((0 : Int32), S10)
      else
        bnd (f_Plans_roomLeft r7 S10) (fun r13 S12 =>
        if r9 ≤ r13 then
          bndv (f_Stacks_shift_work r5 r7 r9 S12) (fun S14 =>
          nm (x1 + (1 : Int32)) (fun z15 =>
          f_Plans_leadsToGoal_L13 n z15 S14))
        else
          some ((0 : Int32), S12))))))
def f_Plans_leadsToGoal  (S : SS) : Option (Int32 × SS) :=
  bndv (f_Stacks_become_work_start  S) (fun S1 =>
  f_Plans_leadsToGoal_L13 NF (0 : Int32) S1)
theorem dX3_leadsToGoal_0 : decode cX3_leadsToGoal 0 = .ok (.aload_n 0, 1) := dc_42 (by decide +kernel)
theorem dX3_leadsToGoal_1 : decode cX3_leadsToGoal 1 = .ok (.getfield 21, 3) := dc_180 (a := 0) (b := 21) (by decide +kernel)
theorem dX3_leadsToGoal_4 : decode cX3_leadsToGoal 4 = .ok (.aload_n 0, 1) := dc_42 (by decide +kernel)
theorem dX3_leadsToGoal_5 : decode cX3_leadsToGoal 5 = .ok (.getfield 12, 3) := dc_180 (a := 0) (b := 12) (by decide +kernel)
theorem dX3_leadsToGoal_8 : decode cX3_leadsToGoal 8 = .ok (.invokevirtual 104, 3) := dc_182 (a := 0) (b := 104) (by decide +kernel)
theorem dX3_leadsToGoal_11 : decode cX3_leadsToGoal 11 = .ok (.iconst 0, 1) := dc_3 (by decide +kernel)
theorem dX3_leadsToGoal_12 : decode cX3_leadsToGoal 12 = .ok (.istore_n 1, 1) := dc_60 (by decide +kernel)
theorem dX3_leadsToGoal_13 : decode cX3_leadsToGoal 13 = .ok (.iload_n 1, 1) := dc_27 (by decide +kernel)
theorem dX3_leadsToGoal_14 : decode cX3_leadsToGoal 14 = .ok (.aload_n 0, 1) := dc_42 (by decide +kernel)
theorem dX3_leadsToGoal_15 : decode cX3_leadsToGoal 15 = .ok (.getfield 41, 3) := dc_180 (a := 0) (b := 41) (by decide +kernel)
theorem dX3_leadsToGoal_18 : decode cX3_leadsToGoal 18 = .ok (.if_icmp .ge 67, 3) := dc_162 (a := 0) (b := 67) (by decide +kernel) (by decide)
theorem dX3_leadsToGoal_21 : decode cX3_leadsToGoal 21 = .ok (.aload_n 0, 1) := dc_42 (by decide +kernel)
theorem dX3_leadsToGoal_22 : decode cX3_leadsToGoal 22 = .ok (.iload_n 1, 1) := dc_27 (by decide +kernel)
theorem dX3_leadsToGoal_23 : decode cX3_leadsToGoal 23 = .ok (.iconst 0, 1) := dc_3 (by decide +kernel)
theorem dX3_leadsToGoal_24 : decode cX3_leadsToGoal 24 = .ok (.invokevirtual 153, 3) := dc_182 (a := 0) (b := 153) (by decide +kernel)
theorem dX3_leadsToGoal_27 : decode cX3_leadsToGoal 27 = .ok (.istore_n 2, 1) := dc_61 (by decide +kernel)
theorem dX3_leadsToGoal_28 : decode cX3_leadsToGoal 28 = .ok (.aload_n 0, 1) := dc_42 (by decide +kernel)
theorem dX3_leadsToGoal_29 : decode cX3_leadsToGoal 29 = .ok (.iload_n 1, 1) := dc_27 (by decide +kernel)
theorem dX3_leadsToGoal_30 : decode cX3_leadsToGoal 30 = .ok (.iconst 1, 1) := dc_4 (by decide +kernel)
theorem dX3_leadsToGoal_31 : decode cX3_leadsToGoal 31 = .ok (.invokevirtual 153, 3) := dc_182 (a := 0) (b := 153) (by decide +kernel)
theorem dX3_leadsToGoal_34 : decode cX3_leadsToGoal 34 = .ok (.istore_n 3, 1) := dc_62 (by decide +kernel)
theorem dX3_leadsToGoal_35 : decode cX3_leadsToGoal 35 = .ok (.aload_n 0, 1) := dc_42 (by decide +kernel)
theorem dX3_leadsToGoal_36 : decode cX3_leadsToGoal 36 = .ok (.iload_n 1, 1) := dc_27 (by decide +kernel)
theorem dX3_leadsToGoal_37 : decode cX3_leadsToGoal 37 = .ok (.iconst 2, 1) := dc_5 (by decide +kernel)
theorem dX3_leadsToGoal_38 : decode cX3_leadsToGoal 38 = .ok (.invokevirtual 153, 3) := dc_182 (a := 0) (b := 153) (by decide +kernel)
theorem dX3_leadsToGoal_41 : decode cX3_leadsToGoal 41 = .ok (.istore 4, 2) := dc_54 (a := 4) (by decide +kernel)
theorem dX3_leadsToGoal_43 : decode cX3_leadsToGoal 43 = .ok (.iload 4, 2) := dc_21 (a := 4) (by decide +kernel)
theorem dX3_leadsToGoal_45 : decode cX3_leadsToGoal 45 = .ok (.aload_n 0, 1) := dc_42 (by decide +kernel)
theorem dX3_leadsToGoal_46 : decode cX3_leadsToGoal 46 = .ok (.getfield 21, 3) := dc_180 (a := 0) (b := 21) (by decide +kernel)
theorem dX3_leadsToGoal_49 : decode cX3_leadsToGoal 49 = .ok (.iload_n 2, 1) := dc_28 (by decide +kernel)
theorem dX3_leadsToGoal_50 : decode cX3_leadsToGoal 50 = .ok (.invokevirtual 54, 3) := dc_182 (a := 0) (b := 54) (by decide +kernel)
theorem dX3_leadsToGoal_53 : decode cX3_leadsToGoal 53 = .ok (.if_icmp .gt 13, 3) := dc_163 (a := 0) (b := 13) (by decide +kernel) (by decide)
theorem dX3_leadsToGoal_56 : decode cX3_leadsToGoal 56 = .ok (.iload 4, 2) := dc_21 (a := 4) (by decide +kernel)
theorem dX3_leadsToGoal_58 : decode cX3_leadsToGoal 58 = .ok (.aload_n 0, 1) := dc_42 (by decide +kernel)
theorem dX3_leadsToGoal_59 : decode cX3_leadsToGoal 59 = .ok (.iload_n 3, 1) := dc_29 (by decide +kernel)
theorem dX3_leadsToGoal_60 : decode cX3_leadsToGoal 60 = .ok (.invokevirtual 128, 3) := dc_182 (a := 0) (b := 128) (by decide +kernel)
theorem dX3_leadsToGoal_63 : decode cX3_leadsToGoal 63 = .ok (.if_icmp .le 5, 3) := dc_164 (a := 0) (b := 5) (by decide +kernel) (by decide)
theorem dX3_leadsToGoal_66 : decode cX3_leadsToGoal 66 = .ok (.iconst 0, 1) := dc_3 (by decide +kernel)
theorem dX3_leadsToGoal_67 : decode cX3_leadsToGoal 67 = .ok (.ireturn, 1) := dc_172 (by decide +kernel)
theorem dX3_leadsToGoal_68 : decode cX3_leadsToGoal 68 = .ok (.aload_n 0, 1) := dc_42 (by decide +kernel)
theorem dX3_leadsToGoal_69 : decode cX3_leadsToGoal 69 = .ok (.getfield 21, 3) := dc_180 (a := 0) (b := 21) (by decide +kernel)
theorem dX3_leadsToGoal_72 : decode cX3_leadsToGoal 72 = .ok (.iload_n 2, 1) := dc_28 (by decide +kernel)
theorem dX3_leadsToGoal_73 : decode cX3_leadsToGoal 73 = .ok (.iload_n 3, 1) := dc_29 (by decide +kernel)
theorem dX3_leadsToGoal_74 : decode cX3_leadsToGoal 74 = .ok (.iload 4, 2) := dc_21 (a := 4) (by decide +kernel)
theorem dX3_leadsToGoal_76 : decode cX3_leadsToGoal 76 = .ok (.invokevirtual 131, 3) := dc_182 (a := 0) (b := 131) (by decide +kernel)
theorem dX3_leadsToGoal_79 : decode cX3_leadsToGoal 79 = .ok (.iinc 1 1, 3) := dc_132 (a := 1) (b := 1) (by decide +kernel) (by decide)
theorem dX3_leadsToGoal_82 : decode cX3_leadsToGoal 82 = .ok (.goto (-69), 3) := dc_167 (a := 255) (b := 187) (by decide +kernel) (by decide)
theorem dX3_leadsToGoal_85 : decode cX3_leadsToGoal 85 = .ok (.aload_n 0, 1) := dc_42 (by decide +kernel)
theorem dX3_leadsToGoal_86 : decode cX3_leadsToGoal 86 = .ok (.getfield 21, 3) := dc_180 (a := 0) (b := 21) (by decide +kernel)
theorem dX3_leadsToGoal_89 : decode cX3_leadsToGoal 89 = .ok (.aload_n 0, 1) := dc_42 (by decide +kernel)
theorem dX3_leadsToGoal_90 : decode cX3_leadsToGoal 90 = .ok (.getfield 18, 3) := dc_180 (a := 0) (b := 18) (by decide +kernel)
theorem dX3_leadsToGoal_93 : decode cX3_leadsToGoal 93 = .ok (.invokevirtual 156, 3) := dc_182 (a := 0) (b := 156) (by decide +kernel)
theorem dX3_leadsToGoal_96 : decode cX3_leadsToGoal 96 = .ok (.ireturn, 1) := dc_172 (by decide +kernel)
set_option maxRecDepth 100000 in
set_option maxHeartbeats 4000000 in
theorem w_Plans_leadsToGoal_L13 {p : Program} {l : Launch} {e : Env} {R : Room} {s : State} {m : MethodId} {args : Array Value} {below : List Frame} {meth : Method} {c : Code} {dC : Nat → ClassId} {dI : Nat → Nat → Nat} {cs : Nat → ClassId} {ad : Nat → Nat} {A : Nat → Prop} {D0 : Nat → Nat} {S' : SS} {r : Int32} (F : Fx p s m args meth c cX3_leadsToGoal 5 RX3 (some .boolean) dC dI cs A) (hR1 : 2 ≤ R.frames) (hR2 : 64 ≤ R.locals) : ∀ (n : Nat) (x1 : Int32) (S : SS), f_Plans_leadsToGoal_L13 n x1 S = some (r, S') → AW p l e R s m args below meth c dC dI cs ad A D0 (some (.int r)) S' 5 13 [(0, .ref (ad 70)), (1, .int x1)] [] S := by
  have hx := F.1.1
  have hb := F.1.2.1
  intro n
  induction n with
  | zero => intro x1 S h; cases h
  | succ n ih =>
    intro x1 S h H locs ls w hl
    rw [f_Plans_leadsToGoal_L13] at h
    refine lv_iload_n (pc := 13) hx hb dX3_leadsToGoal_13 rfl (lv_at hl 1 rfl) ?_
    refine lv_aload_n (pc := 14) hx hb dX3_leadsToGoal_14 rfl (lv_at hl 0 rfl) ?_
    refine s_getI (pc := 15) F w ds_70 (j := 7) vc_X3 vi_X3 rfl (by decide) kf_X3_41 dX3_leadsToGoal_15 ?_
    refine lv_icmp_ge (pc := 18) (tgt := 85) hx hb dX3_leadsToGoal_18 (by decide) (fun q => ?_) (fun q => ?_)
    · have h := ite_t q h
      refine lv_aload_n (pc := 85) hx hb dX3_leadsToGoal_85 rfl (lv_at hl 0 rfl) ?_
      refine s_getR (pc := 86) F w 74 ds_70 (j := 2) vc_X3 vi_X3 rfl (by decide) kf_X3_21 dX3_leadsToGoal_86 ?_
      refine lv_aload_n (pc := 89) hx hb dX3_leadsToGoal_89 rfl (lv_at hl 0 rfl) ?_
      refine s_getR (pc := 90) F w 73 ds_70 (j := 1) vc_X3 vi_X3 rfl (by decide) kf_X3_18 dX3_leadsToGoal_90 ?_
      obtain ⟨r3, S2, hc, h⟩ := bnd_t h
      refine s_cvi (pc := 93) [.ref (ad 73)] (fun ad => [.ref (ad 74), .ref (ad 73)]) F w (m_Stacks_isLike_work_goal  _ _ _ hc) rfl rfl hl.1 ds_74 vc_X7 rfl ok_X7_isLike rfl kc_X7_isLike kl_X3_156 ki_X7_isLike kv_X7_isLike kn_X7 ⟨Nat.le_trans (by decide) hR1, Nat.le_trans (by decide) hR2⟩ ⟨Nat.zero_le _, Nat.zero_le _⟩ (Nat.le_of_ble_eq_true rfl) dX3_leadsToGoal_93 (fun H locs w => ?_)
      exact s_zret F w h dX3_leadsToGoal_96
    · have h := ite_f q h
      refine lv_aload_n (pc := 21) hx hb dX3_leadsToGoal_21 rfl (lv_at hl 0 rfl) ?_
      refine lv_iload_n (pc := 22) hx hb dX3_leadsToGoal_22 rfl (lv_at hl 1 rfl) ?_
      refine lv_iconst (pc := 23) (v := 0) hx hb dX3_leadsToGoal_23 (by decide) ?_
      obtain ⟨r5, S4, hc, h⟩ := bnd_t h
      refine s_cvi (pc := 24) [.int x1, .int (0 : Int32)] (fun ad => [.ref (ad 70), .int x1, .int (0 : Int32)]) F w (m_Plans_moveAt _ _ _ _ _ hc) rfl rfl hl.1 ds_70 vc_X3 rfl ok_X3_moveAt rfl kc_X3_moveAt kl_X3_153 ki_X3_moveAt kv_X3_moveAt kn_X3 ⟨Nat.le_trans (by decide) hR1, Nat.le_trans (by decide) hR2⟩ ⟨Nat.zero_le _, Nat.zero_le _⟩ (Nat.le_of_ble_eq_true rfl) dX3_leadsToGoal_24 (fun H locs w => ?_)
      refine lv_istore_n (pc := 27) (lv' := [(2, .int r5), (0, .ref (ad 70)), (1, .int x1)]) hx hb dX3_leadsToGoal_27 rfl hl (by decide) rfl (fun ls hl => ?_)
      refine lv_aload_n (pc := 28) hx hb dX3_leadsToGoal_28 rfl (lv_at hl 1 rfl) ?_
      refine lv_iload_n (pc := 29) hx hb dX3_leadsToGoal_29 rfl (lv_at hl 2 rfl) ?_
      refine lv_iconst (pc := 30) (v := 1) hx hb dX3_leadsToGoal_30 (by decide) ?_
      obtain ⟨r7, S6, hc, h⟩ := bnd_t h
      refine s_cvi (pc := 31) [.int x1, .int (1 : Int32)] (fun ad => [.ref (ad 70), .int x1, .int (1 : Int32)]) F w (m_Plans_moveAt _ _ _ _ _ hc) rfl rfl hl.1 ds_70 vc_X3 rfl ok_X3_moveAt rfl kc_X3_moveAt kl_X3_153 ki_X3_moveAt kv_X3_moveAt kn_X3 ⟨Nat.le_trans (by decide) hR1, Nat.le_trans (by decide) hR2⟩ ⟨Nat.zero_le _, Nat.zero_le _⟩ (Nat.le_of_ble_eq_true rfl) dX3_leadsToGoal_31 (fun H locs w => ?_)
      refine lv_istore_n (pc := 34) (lv' := [(3, .int r7), (2, .int r5), (0, .ref (ad 70)), (1, .int x1)]) hx hb dX3_leadsToGoal_34 rfl hl (by decide) rfl (fun ls hl => ?_)
      refine lv_aload_n (pc := 35) hx hb dX3_leadsToGoal_35 rfl (lv_at hl 2 rfl) ?_
      refine lv_iload_n (pc := 36) hx hb dX3_leadsToGoal_36 rfl (lv_at hl 3 rfl) ?_
      refine lv_iconst (pc := 37) (v := 2) hx hb dX3_leadsToGoal_37 (by decide) ?_
      obtain ⟨r9, S8, hc, h⟩ := bnd_t h
      refine s_cvi (pc := 38) [.int x1, .int (2 : Int32)] (fun ad => [.ref (ad 70), .int x1, .int (2 : Int32)]) F w (m_Plans_moveAt _ _ _ _ _ hc) rfl rfl hl.1 ds_70 vc_X3 rfl ok_X3_moveAt rfl kc_X3_moveAt kl_X3_153 ki_X3_moveAt kv_X3_moveAt kn_X3 ⟨Nat.le_trans (by decide) hR1, Nat.le_trans (by decide) hR2⟩ ⟨Nat.zero_le _, Nat.zero_le _⟩ (Nat.le_of_ble_eq_true rfl) dX3_leadsToGoal_38 (fun H locs w => ?_)
      refine lv_istore (pc := 41) (lv' := [(4, .int r9), (3, .int r7), (2, .int r5), (0, .ref (ad 70)), (1, .int x1)]) hx hb dX3_leadsToGoal_41 hl (by decide) rfl (fun ls hl => ?_)
      refine lv_iload (pc := 43) hx hb dX3_leadsToGoal_43 (lv_at hl 0 rfl) ?_
      refine lv_aload_n (pc := 45) hx hb dX3_leadsToGoal_45 rfl (lv_at hl 3 rfl) ?_
      refine s_getR (pc := 46) F w 74 ds_70 (j := 2) vc_X3 vi_X3 rfl (by decide) kf_X3_21 dX3_leadsToGoal_46 ?_
      refine lv_iload_n (pc := 49) hx hb dX3_leadsToGoal_49 rfl (lv_at hl 2 rfl) ?_
      obtain ⟨r11, S10, hc, h⟩ := bnd_t h
      refine s_cvi (pc := 50) [.int r5] (fun ad => [.ref (ad 74), .int r5]) F w (m_Stacks_height_work _ _ _ _ hc) rfl rfl hl.1 ds_74 vc_X7 rfl ok_X7_height rfl kc_X7_height kl_X3_54 ki_X7_height kv_X7_height kn_X7 ⟨Nat.le_trans (by decide) hR1, Nat.le_trans (by decide) hR2⟩ ⟨Nat.zero_le _, Nat.zero_le _⟩ (Nat.le_of_ble_eq_true rfl) dX3_leadsToGoal_50 (fun H locs w => ?_)
      refine lv_icmp_gt (pc := 53) (tgt := 66) hx hb dX3_leadsToGoal_53 (by decide) (fun q => ?_) (fun q => ?_)
      · have h := ite_t q h
        refine lv_iconst (pc := 66) (v := 0) hx hb dX3_leadsToGoal_66 (by decide) ?_
        exact s_zretc F w rfl h dX3_leadsToGoal_67
      · have h := ite_f q h
        refine lv_iload (pc := 56) hx hb dX3_leadsToGoal_56 (lv_at hl 0 rfl) ?_
        refine lv_aload_n (pc := 58) hx hb dX3_leadsToGoal_58 rfl (lv_at hl 3 rfl) ?_
        refine lv_iload_n (pc := 59) hx hb dX3_leadsToGoal_59 rfl (lv_at hl 1 rfl) ?_
        obtain ⟨r13, S12, hc, h⟩ := bnd_t h
        refine s_cvi (pc := 60) [.int r7] (fun ad => [.ref (ad 70), .int r7]) F w (m_Plans_roomLeft _ _ _ _ hc) rfl rfl hl.1 ds_70 vc_X3 rfl ok_X3_roomLeft rfl kc_X3_roomLeft kl_X3_128 ki_X3_roomLeft kv_X3_roomLeft kn_X3 ⟨Nat.le_trans (by decide) hR1, Nat.le_trans (by decide) hR2⟩ ⟨Nat.zero_le _, Nat.zero_le _⟩ (Nat.le_of_ble_eq_true rfl) dX3_leadsToGoal_60 (fun H locs w => ?_)
        refine lv_icmp_le (pc := 63) (tgt := 68) hx hb dX3_leadsToGoal_63 (by decide) (fun q => ?_) (fun q => ?_)
        · have h := ite_t q h
          refine lv_aload_n (pc := 68) hx hb dX3_leadsToGoal_68 rfl (lv_at hl 3 rfl) ?_
          refine s_getR (pc := 69) F w 74 ds_70 (j := 2) vc_X3 vi_X3 rfl (by decide) kf_X3_21 dX3_leadsToGoal_69 ?_
          refine lv_iload_n (pc := 72) hx hb dX3_leadsToGoal_72 rfl (lv_at hl 2 rfl) ?_
          refine lv_iload_n (pc := 73) hx hb dX3_leadsToGoal_73 rfl (lv_at hl 1 rfl) ?_
          refine lv_iload (pc := 74) hx hb dX3_leadsToGoal_74 (lv_at hl 0 rfl) ?_
          obtain ⟨S14, hc, h⟩ := bndv_t h
          refine s_cvv (pc := 76) [.int r5, .int r7, .int r9] (fun ad => [.ref (ad 74), .int r5, .int r7, .int r9]) F w (m_Stacks_shift_work _ _ _ _ _ hc) rfl rfl hl.1 ds_74 vc_X7 rfl ok_X7_shift rfl kc_X7_shift kl_X3_131 ki_X7_shift kv_X7_shift kn_X7 ⟨Nat.le_trans (by decide) hR1, Nat.le_trans (by decide) hR2⟩ ⟨Nat.zero_le _, Nat.zero_le _⟩ (Nat.le_of_ble_eq_true rfl) dX3_leadsToGoal_76 (fun H locs w => ?_)
          refine s_nm h (fun z15 ez15 h => ?_)
          refine lv_iinc (pc := 79) (v := z15) (lv' := [(1, .int z15), (4, .int r9), (3, .int r7), (2, .int r5), (0, .ref (ad 70))]) hx hb dX3_leadsToGoal_79 hl (k := 4) rfl (by rw [ez15]; rfl) (by decide) rfl (fun ls hl => ?_)
          refine lv_goto (pc := 82) (tgt := 13) hx hb dX3_leadsToGoal_82 (by decide) ?_
          exact ih _ _ h _ _ _ w (lv_sub hl [4, 0] rfl)
        · have h := ite_f q h
          refine lv_iconst (pc := 66) (v := 0) hx hb dX3_leadsToGoal_66 (by decide) ?_
          exact s_zretc F w rfl h dX3_leadsToGoal_67
set_option maxRecDepth 100000 in
set_option maxHeartbeats 4000000 in
theorem m_Plans_leadsToGoal  (S S' : SS) (r : Int32) (h : f_Plans_leadsToGoal  S = some (r, S')) : MT yX3_leadsToGoal cX3_leadsToGoal 5 (some .boolean) 2 64 (fun ad => [.ref (ad 70)]) S (some (.int r)) S' := by
  refine MT.of RX3 (fun ad => [(0, .ref (ad 70))]) (by decide) rfl (fun _ => Nat.le_of_ble_eq_true rfl) (fun _ => rfl) ?_
  intro p l e R s m args below meth c dC dI cs ad A hR1 hR2 F H locs ls w hl
  have hx := F.1.1
  have hb := F.1.2.1
  rw [f_Plans_leadsToGoal] at h
  refine lv_aload_n (pc := 0) hx hb dX3_leadsToGoal_0 rfl (lv_at hl 0 rfl) ?_
  refine s_getR (pc := 1) F w 74 ds_70 (j := 2) vc_X3 vi_X3 rfl (by decide) kf_X3_21 dX3_leadsToGoal_1 ?_
  refine lv_aload_n (pc := 4) hx hb dX3_leadsToGoal_4 rfl (lv_at hl 0 rfl) ?_
  refine s_getR (pc := 5) F w 72 ds_70 (j := 0) vc_X3 vi_X3 rfl (by decide) kf_X3_12 dX3_leadsToGoal_5 ?_
  obtain ⟨S1, hc, h⟩ := bndv_t h
  refine s_cvv (pc := 8) [.ref (ad 72)] (fun ad => [.ref (ad 74), .ref (ad 72)]) F w (m_Stacks_become_work_start  _ _ hc) rfl rfl hl.1 ds_74 vc_X7 rfl ok_X7_become rfl kc_X7_become kl_X3_104 ki_X7_become kv_X7_become kn_X7 ⟨Nat.le_trans (by decide) hR1, Nat.le_trans (by decide) hR2⟩ ⟨Nat.zero_le _, Nat.zero_le _⟩ (Nat.le_of_ble_eq_true rfl) dX3_leadsToGoal_8 (fun H locs w => ?_)
  refine lv_iconst (pc := 11) (v := 0) hx hb dX3_leadsToGoal_11 (by decide) ?_
  refine lv_istore_n (pc := 12) (lv' := [(1, .int (0 : Int32)), (0, .ref (ad 70))]) hx hb dX3_leadsToGoal_12 rfl hl (by decide) rfl (fun ls hl => ?_)
  exact w_Plans_leadsToGoal_L13 F (Nat.le_trans (by decide) hR1) (Nat.le_trans (by decide) hR2) _ _ _ h _ _ _ w (lv_sub hl [1, 0] rfl)
def f_Potentials_orderOf_Potentials_sequence_L56  : Nat → Int32 → Int32 → SS → Option (Int32 × SS)
  | 0, _, _, _ => none
  | n + 1, x3, x4, S =>
    if x4 < 0 then
      some (x3, S)
    else
      grd (inb x4 5) (
      nm ((x3 * (x4 + (1 : Int32))) + (S.1 112 x4.toNatClampNeg)) (fun z2 =>
      nm (x4 + (-1 : Int32)) (fun z3 =>
      f_Potentials_orderOf_Potentials_sequence_L56 n z2 z3 S)))
def f_Potentials_orderOf_Potentials_sequence_L4  : Nat → Int32 → Int32 → SS → Option (Int32 × SS)
  | 0, _, _, _ => none
  | n + 1, x2, x3, S =>
    if (S.1 71 5) ≤ x3 then
      nm ((S.1 71 5) - (1 : Int32)) (fun z1 =>
      f_Potentials_orderOf_Potentials_sequence_L56 NF (0 : Int32) z1 S)
    else
      grd (inb x3 5) (
      grd (inb x3 5) (
      bnd (f_Integer_bitCount_0f7a4 (x2 &&& (((1 : Int32) <<< ((S.1 110 x3.toNatClampNeg) &&& 31)) - (1 : Int32))) S) (fun r5 S4 =>
      grd (inb (S.1 110 x3.toNatClampNeg) 5) (wr S4 112 (S.1 110 x3.toNatClampNeg).toNatClampNeg r5 (fun S6 =>
      grd (inb x3 5) (
      nm (x2 ||| ((1 : Int32) <<< ((S6.1 110 x3.toNatClampNeg) &&& 31))) (fun z7 =>
      nm (x3 + (1 : Int32)) (fun z8 =>
      f_Potentials_orderOf_Potentials_sequence_L4 n z7 z8 S6))))))))
def f_Potentials_orderOf_Potentials_sequence  (S : SS) : Option (Int32 × SS) :=
  f_Potentials_orderOf_Potentials_sequence_L4 NF (0 : Int32) (0 : Int32) S
theorem dX4_orderOf_0 : decode cX4_orderOf 0 = .ok (.iconst 0, 1) := dc_3 (by decide +kernel)
theorem dX4_orderOf_1 : decode cX4_orderOf 1 = .ok (.istore_n 2, 1) := dc_61 (by decide +kernel)
theorem dX4_orderOf_2 : decode cX4_orderOf 2 = .ok (.iconst 0, 1) := dc_3 (by decide +kernel)
theorem dX4_orderOf_3 : decode cX4_orderOf 3 = .ok (.istore_n 3, 1) := dc_62 (by decide +kernel)
theorem dX4_orderOf_4 : decode cX4_orderOf 4 = .ok (.iload_n 3, 1) := dc_29 (by decide +kernel)
theorem dX4_orderOf_5 : decode cX4_orderOf 5 = .ok (.aload_n 0, 1) := dc_42 (by decide +kernel)
theorem dX4_orderOf_6 : decode cX4_orderOf 6 = .ok (.getfield 29, 3) := dc_180 (a := 0) (b := 29) (by decide +kernel)
theorem dX4_orderOf_9 : decode cX4_orderOf 9 = .ok (.if_icmp .ge 37, 3) := dc_162 (a := 0) (b := 37) (by decide +kernel) (by decide)
theorem dX4_orderOf_12 : decode cX4_orderOf 12 = .ok (.aload_n 0, 1) := dc_42 (by decide +kernel)
theorem dX4_orderOf_13 : decode cX4_orderOf 13 = .ok (.getfield 23, 3) := dc_180 (a := 0) (b := 23) (by decide +kernel)
theorem dX4_orderOf_16 : decode cX4_orderOf 16 = .ok (.aload_n 1, 1) := dc_43 (by decide +kernel)
theorem dX4_orderOf_17 : decode cX4_orderOf 17 = .ok (.iload_n 3, 1) := dc_29 (by decide +kernel)
theorem dX4_orderOf_18 : decode cX4_orderOf 18 = .ok (.iaload, 1) := dc_46 (by decide +kernel)
theorem dX4_orderOf_19 : decode cX4_orderOf 19 = .ok (.iload_n 2, 1) := dc_28 (by decide +kernel)
theorem dX4_orderOf_20 : decode cX4_orderOf 20 = .ok (.iconst 1, 1) := dc_4 (by decide +kernel)
theorem dX4_orderOf_21 : decode cX4_orderOf 21 = .ok (.aload_n 1, 1) := dc_43 (by decide +kernel)
theorem dX4_orderOf_22 : decode cX4_orderOf 22 = .ok (.iload_n 3, 1) := dc_29 (by decide +kernel)
theorem dX4_orderOf_23 : decode cX4_orderOf 23 = .ok (.iaload, 1) := dc_46 (by decide +kernel)
theorem dX4_orderOf_24 : decode cX4_orderOf 24 = .ok (.ishl, 1) := dc_120 (by decide +kernel)
theorem dX4_orderOf_25 : decode cX4_orderOf 25 = .ok (.iconst 1, 1) := dc_4 (by decide +kernel)
theorem dX4_orderOf_26 : decode cX4_orderOf 26 = .ok (.isub, 1) := dc_100 (by decide +kernel)
theorem dX4_orderOf_27 : decode cX4_orderOf 27 = .ok (.iand, 1) := dc_126 (by decide +kernel)
theorem dX4_orderOf_28 : decode cX4_orderOf 28 = .ok (.invokestatic 83, 3) := dc_184 (a := 0) (b := 83) (by decide +kernel)
theorem dX4_orderOf_31 : decode cX4_orderOf 31 = .ok (.iastore, 1) := dc_79 (by decide +kernel)
theorem dX4_orderOf_32 : decode cX4_orderOf 32 = .ok (.iload_n 2, 1) := dc_28 (by decide +kernel)
theorem dX4_orderOf_33 : decode cX4_orderOf 33 = .ok (.iconst 1, 1) := dc_4 (by decide +kernel)
theorem dX4_orderOf_34 : decode cX4_orderOf 34 = .ok (.aload_n 1, 1) := dc_43 (by decide +kernel)
theorem dX4_orderOf_35 : decode cX4_orderOf 35 = .ok (.iload_n 3, 1) := dc_29 (by decide +kernel)
theorem dX4_orderOf_36 : decode cX4_orderOf 36 = .ok (.iaload, 1) := dc_46 (by decide +kernel)
theorem dX4_orderOf_37 : decode cX4_orderOf 37 = .ok (.ishl, 1) := dc_120 (by decide +kernel)
theorem dX4_orderOf_38 : decode cX4_orderOf 38 = .ok (.ior, 1) := dc_128 (by decide +kernel)
theorem dX4_orderOf_39 : decode cX4_orderOf 39 = .ok (.istore_n 2, 1) := dc_61 (by decide +kernel)
theorem dX4_orderOf_40 : decode cX4_orderOf 40 = .ok (.iinc 3 1, 3) := dc_132 (a := 3) (b := 1) (by decide +kernel) (by decide)
theorem dX4_orderOf_43 : decode cX4_orderOf 43 = .ok (.goto (-39), 3) := dc_167 (a := 255) (b := 217) (by decide +kernel) (by decide)
theorem dX4_orderOf_46 : decode cX4_orderOf 46 = .ok (.iconst 0, 1) := dc_3 (by decide +kernel)
theorem dX4_orderOf_47 : decode cX4_orderOf 47 = .ok (.istore_n 3, 1) := dc_62 (by decide +kernel)
theorem dX4_orderOf_48 : decode cX4_orderOf 48 = .ok (.aload_n 0, 1) := dc_42 (by decide +kernel)
theorem dX4_orderOf_49 : decode cX4_orderOf 49 = .ok (.getfield 29, 3) := dc_180 (a := 0) (b := 29) (by decide +kernel)
theorem dX4_orderOf_52 : decode cX4_orderOf 52 = .ok (.iconst 1, 1) := dc_4 (by decide +kernel)
theorem dX4_orderOf_53 : decode cX4_orderOf 53 = .ok (.isub, 1) := dc_100 (by decide +kernel)
theorem dX4_orderOf_54 : decode cX4_orderOf 54 = .ok (.istore 4, 2) := dc_54 (a := 4) (by decide +kernel)
theorem dX4_orderOf_56 : decode cX4_orderOf 56 = .ok (.iload 4, 2) := dc_21 (a := 4) (by decide +kernel)
theorem dX4_orderOf_58 : decode cX4_orderOf 58 = .ok (.ifCond .lt 24, 3) := dc_155 (a := 0) (b := 24) (by decide +kernel) (by decide)
theorem dX4_orderOf_61 : decode cX4_orderOf 61 = .ok (.iload_n 3, 1) := dc_29 (by decide +kernel)
theorem dX4_orderOf_62 : decode cX4_orderOf 62 = .ok (.iload 4, 2) := dc_21 (a := 4) (by decide +kernel)
theorem dX4_orderOf_64 : decode cX4_orderOf 64 = .ok (.iconst 1, 1) := dc_4 (by decide +kernel)
theorem dX4_orderOf_65 : decode cX4_orderOf 65 = .ok (.iadd, 1) := dc_96 (by decide +kernel)
theorem dX4_orderOf_66 : decode cX4_orderOf 66 = .ok (.imul, 1) := dc_104 (by decide +kernel)
theorem dX4_orderOf_67 : decode cX4_orderOf 67 = .ok (.aload_n 0, 1) := dc_42 (by decide +kernel)
theorem dX4_orderOf_68 : decode cX4_orderOf 68 = .ok (.getfield 23, 3) := dc_180 (a := 0) (b := 23) (by decide +kernel)
theorem dX4_orderOf_71 : decode cX4_orderOf 71 = .ok (.iload 4, 2) := dc_21 (a := 4) (by decide +kernel)
theorem dX4_orderOf_73 : decode cX4_orderOf 73 = .ok (.iaload, 1) := dc_46 (by decide +kernel)
theorem dX4_orderOf_74 : decode cX4_orderOf 74 = .ok (.iadd, 1) := dc_96 (by decide +kernel)
theorem dX4_orderOf_75 : decode cX4_orderOf 75 = .ok (.istore_n 3, 1) := dc_62 (by decide +kernel)
theorem dX4_orderOf_76 : decode cX4_orderOf 76 = .ok (.iinc 4 (-1), 3) := dc_132 (a := 4) (b := 255) (by decide +kernel) (by decide)
theorem dX4_orderOf_79 : decode cX4_orderOf 79 = .ok (.goto (-23), 3) := dc_167 (a := 255) (b := 233) (by decide +kernel) (by decide)
theorem dX4_orderOf_82 : decode cX4_orderOf 82 = .ok (.iload_n 3, 1) := dc_29 (by decide +kernel)
theorem dX4_orderOf_83 : decode cX4_orderOf 83 = .ok (.ireturn, 1) := dc_172 (by decide +kernel)
set_option maxRecDepth 100000 in
set_option maxHeartbeats 4000000 in
theorem w_Potentials_orderOf_Potentials_sequence_L56 {p : Program} {l : Launch} {e : Env} {R : Room} {s : State} {m : MethodId} {args : Array Value} {below : List Frame} {meth : Method} {c : Code} {dC : Nat → ClassId} {dI : Nat → Nat → Nat} {cs : Nat → ClassId} {ad : Nat → Nat} {A : Nat → Prop} {D0 : Nat → Nat} {S' : SS} {r : Int32} (F : Fx p s m args meth c cX4_orderOf 5 RX4 (some .int) dC dI cs A) (hR1 : 0 ≤ R.frames) (hR2 : 0 ≤ R.locals) : ∀ (n : Nat) (x3 : Int32) (x4 : Int32) (S : SS), f_Potentials_orderOf_Potentials_sequence_L56 n x3 x4 S = some (r, S') → AW p l e R s m args below meth c dC dI cs ad A D0 (some (.int r)) S' 5 56 [(0, .ref (ad 71)), (3, .int x3), (4, .int x4)] [] S := by
  have hx := F.1.1
  have hb := F.1.2.1
  intro n
  induction n with
  | zero => intro x3 x4 S h; cases h
  | succ n ih =>
    intro x3 x4 S h H locs ls w hl
    rw [f_Potentials_orderOf_Potentials_sequence_L56] at h
    refine lv_iload (pc := 56) hx hb dX4_orderOf_56 (lv_at hl 2 rfl) ?_
    refine lv_if_lt (pc := 58) (tgt := 82) hx hb dX4_orderOf_58 (by decide) (fun q => ?_) (fun q => ?_)
    · have h := ite_t q h
      refine lv_iload_n (pc := 82) hx hb dX4_orderOf_82 rfl (lv_at hl 1 rfl) ?_
      exact s_iret F w h dX4_orderOf_83
    · have h := ite_f q h
      refine lv_iload_n (pc := 61) hx hb dX4_orderOf_61 rfl (lv_at hl 1 rfl) ?_
      refine lv_iload (pc := 62) hx hb dX4_orderOf_62 (lv_at hl 2 rfl) ?_
      refine lv_iconst (pc := 64) (v := 1) hx hb dX4_orderOf_64 (by decide) ?_
      refine lv_iadd (pc := 65) hx hb dX4_orderOf_65 ?_
      refine lv_imul (pc := 66) hx hb dX4_orderOf_66 ?_
      refine lv_aload_n (pc := 67) hx hb dX4_orderOf_67 rfl (lv_at hl 0 rfl) ?_
      refine s_getR (pc := 68) F w 112 ds_71 (j := 3) vc_X4 vi_X4 rfl (by decide) kf_X4_23 dX4_orderOf_68 ?_
      refine lv_iload (pc := 71) hx hb dX4_orderOf_71 (lv_at hl 2 rfl) ?_
      refine s_iald (pc := 73) F w ds_112 h dX4_orderOf_73 (fun h => ?_)
      refine lv_iadd (pc := 74) hx hb dX4_orderOf_74 ?_
      refine s_nm h (fun z2 ez2 h => ?_)
      rw [← ez2]
      refine lv_istore_n (pc := 75) (lv' := [(3, .int z2), (0, .ref (ad 71)), (4, .int x4)]) hx hb dX4_orderOf_75 rfl hl (by decide) rfl (fun ls hl => ?_)
      refine s_nm h (fun z3 ez3 h => ?_)
      refine lv_iinc (pc := 76) (v := z3) (lv' := [(4, .int z3), (3, .int z2), (0, .ref (ad 71))]) hx hb dX4_orderOf_76 hl (k := 2) rfl (by rw [ez3]; rfl) (by decide) rfl (fun ls hl => ?_)
      refine lv_goto (pc := 79) (tgt := 56) hx hb dX4_orderOf_79 (by decide) ?_
      exact ih _ _ _ h _ _ _ w (lv_sub hl [2, 1, 0] rfl)
set_option maxRecDepth 100000 in
set_option maxHeartbeats 4000000 in
theorem w_Potentials_orderOf_Potentials_sequence_L4 {p : Program} {l : Launch} {e : Env} {R : Room} {s : State} {m : MethodId} {args : Array Value} {below : List Frame} {meth : Method} {c : Code} {dC : Nat → ClassId} {dI : Nat → Nat → Nat} {cs : Nat → ClassId} {ad : Nat → Nat} {A : Nat → Prop} {D0 : Nat → Nat} {S' : SS} {r : Int32} (F : Fx p s m args meth c cX4_orderOf 5 RX4 (some .int) dC dI cs A) (hR1 : 1 ≤ R.frames) (hR2 : 20 ≤ R.locals) : ∀ (n : Nat) (x2 : Int32) (x3 : Int32) (S : SS), f_Potentials_orderOf_Potentials_sequence_L4 n x2 x3 S = some (r, S') → AW p l e R s m args below meth c dC dI cs ad A D0 (some (.int r)) S' 5 4 [(0, .ref (ad 71)), (1, .ref (ad 110)), (2, .int x2), (3, .int x3)] [] S := by
  have hx := F.1.1
  have hb := F.1.2.1
  intro n
  induction n with
  | zero => intro x2 x3 S h; cases h
  | succ n ih =>
    intro x2 x3 S h H locs ls w hl
    rw [f_Potentials_orderOf_Potentials_sequence_L4] at h
    refine lv_iload_n (pc := 4) hx hb dX4_orderOf_4 rfl (lv_at hl 3 rfl) ?_
    refine lv_aload_n (pc := 5) hx hb dX4_orderOf_5 rfl (lv_at hl 0 rfl) ?_
    refine s_getI (pc := 6) F w ds_71 (j := 5) vc_X4 vi_X4 rfl (by decide) kf_X4_29 dX4_orderOf_6 ?_
    refine lv_icmp_ge (pc := 9) (tgt := 46) hx hb dX4_orderOf_9 (by decide) (fun q => ?_) (fun q => ?_)
    · have h := ite_t q h
      refine lv_iconst (pc := 46) (v := 0) hx hb dX4_orderOf_46 (by decide) ?_
      refine lv_istore_n (pc := 47) (lv' := [(3, .int (0 : Int32)), (0, .ref (ad 71)), (1, .ref (ad 110)), (2, .int x2)]) hx hb dX4_orderOf_47 rfl hl (by decide) rfl (fun ls hl => ?_)
      refine lv_aload_n (pc := 48) hx hb dX4_orderOf_48 rfl (lv_at hl 1 rfl) ?_
      refine s_getI (pc := 49) F w ds_71 (j := 5) vc_X4 vi_X4 rfl (by decide) kf_X4_29 dX4_orderOf_49 ?_
      refine lv_iconst (pc := 52) (v := 1) hx hb dX4_orderOf_52 (by decide) ?_
      refine lv_isub (pc := 53) hx hb dX4_orderOf_53 ?_
      refine s_nm h (fun z1 ez1 h => ?_)
      rw [← ez1]
      refine lv_istore (pc := 54) (lv' := [(4, .int z1), (3, .int (0 : Int32)), (0, .ref (ad 71)), (1, .ref (ad 110)), (2, .int x2)]) hx hb dX4_orderOf_54 hl (by decide) rfl (fun ls hl => ?_)
      exact w_Potentials_orderOf_Potentials_sequence_L56 F (Nat.le_trans (by decide) hR1) (Nat.le_trans (by decide) hR2) _ _ _ _ h _ _ _ w (lv_sub hl [2, 1, 0] rfl)
    · have h := ite_f q h
      refine lv_aload_n (pc := 12) hx hb dX4_orderOf_12 rfl (lv_at hl 0 rfl) ?_
      refine s_getR (pc := 13) F w 112 ds_71 (j := 3) vc_X4 vi_X4 rfl (by decide) kf_X4_23 dX4_orderOf_13 ?_
      refine lv_aload_n (pc := 16) hx hb dX4_orderOf_16 rfl (lv_at hl 1 rfl) ?_
      refine lv_iload_n (pc := 17) hx hb dX4_orderOf_17 rfl (lv_at hl 3 rfl) ?_
      refine s_iald (pc := 18) F w ds_110 h dX4_orderOf_18 (fun h => ?_)
      refine lv_iload_n (pc := 19) hx hb dX4_orderOf_19 rfl (lv_at hl 2 rfl) ?_
      refine lv_iconst (pc := 20) (v := 1) hx hb dX4_orderOf_20 (by decide) ?_
      refine lv_aload_n (pc := 21) hx hb dX4_orderOf_21 rfl (lv_at hl 1 rfl) ?_
      refine lv_iload_n (pc := 22) hx hb dX4_orderOf_22 rfl (lv_at hl 3 rfl) ?_
      refine s_iald (pc := 23) F w ds_110 h dX4_orderOf_23 (fun h => ?_)
      refine lv_ishl (pc := 24) hx hb dX4_orderOf_24 ?_
      refine lv_iconst (pc := 25) (v := 1) hx hb dX4_orderOf_25 (by decide) ?_
      refine lv_isub (pc := 26) hx hb dX4_orderOf_26 ?_
      refine lv_iand (pc := 27) hx hb dX4_orderOf_27 ?_
      obtain ⟨r5, S4, hc, h⟩ := bnd_t h
      refine s_csi (pc := 28) [.int (x2 &&& (((1 : Int32) <<< ((S.1 110 x3.toNatClampNeg) &&& 31)) - (1 : Int32)))] (fun ad => [.int (x2 &&& (((1 : Int32) <<< ((S.1 110 x3.toNatClampNeg) &&& 31)) - (1 : Int32)))]) F w (m_Integer_bitCount_0f7a4 _ _ _ _ hc) rfl rfl hl.1 ok_J6_bitCount_0f7a4 rfl kc_J6_bitCount_0f7a4 kl_X4_83 ks_J6_bitCount_0f7a4 kn_J6 ⟨Nat.le_trans (by decide) hR1, Nat.le_trans (by decide) hR2⟩ ⟨Nat.zero_le _, Nat.zero_le _⟩ (Nat.le_of_ble_eq_true rfl) dX4_orderOf_28 (fun H locs w => ?_)
      refine s_iast (pc := 31) F w ds_112 h dX4_orderOf_31 (fun S6 H locs h w => ?_)
      refine lv_iload_n (pc := 32) hx hb dX4_orderOf_32 rfl (lv_at hl 2 rfl) ?_
      refine lv_iconst (pc := 33) (v := 1) hx hb dX4_orderOf_33 (by decide) ?_
      refine lv_aload_n (pc := 34) hx hb dX4_orderOf_34 rfl (lv_at hl 1 rfl) ?_
      refine lv_iload_n (pc := 35) hx hb dX4_orderOf_35 rfl (lv_at hl 3 rfl) ?_
      refine s_iald (pc := 36) F w ds_110 h dX4_orderOf_36 (fun h => ?_)
      refine lv_ishl (pc := 37) hx hb dX4_orderOf_37 ?_
      refine lv_ior (pc := 38) hx hb dX4_orderOf_38 ?_
      refine s_nm h (fun z7 ez7 h => ?_)
      rw [← ez7]
      refine lv_istore_n (pc := 39) (lv' := [(2, .int z7), (0, .ref (ad 71)), (1, .ref (ad 110)), (3, .int x3)]) hx hb dX4_orderOf_39 rfl hl (by decide) rfl (fun ls hl => ?_)
      refine s_nm h (fun z8 ez8 h => ?_)
      refine lv_iinc (pc := 40) (v := z8) (lv' := [(3, .int z8), (2, .int z7), (0, .ref (ad 71)), (1, .ref (ad 110))]) hx hb dX4_orderOf_40 hl (k := 3) rfl (by rw [ez8]; rfl) (by decide) rfl (fun ls hl => ?_)
      refine lv_goto (pc := 43) (tgt := 4) hx hb dX4_orderOf_43 (by decide) ?_
      exact ih _ _ _ h _ _ _ w (lv_sub hl [2, 3, 1, 0] rfl)
set_option maxRecDepth 100000 in
set_option maxHeartbeats 4000000 in
theorem m_Potentials_orderOf_Potentials_sequence  (S S' : SS) (r : Int32) (h : f_Potentials_orderOf_Potentials_sequence  S = some (r, S')) : MT yX4_orderOf cX4_orderOf 5 (some .int) 1 20 (fun ad => [.ref (ad 71), .ref (ad 110)]) S (some (.int r)) S' := by
  refine MT.of RX4 (fun ad => [(0, .ref (ad 71)), (1, .ref (ad 110))]) (by decide) rfl (fun _ => Nat.le_of_ble_eq_true rfl) (fun _ => rfl) ?_
  intro p l e R s m args below meth c dC dI cs ad A hR1 hR2 F H locs ls w hl
  have hx := F.1.1
  have hb := F.1.2.1
  rw [f_Potentials_orderOf_Potentials_sequence] at h
  refine lv_iconst (pc := 0) (v := 0) hx hb dX4_orderOf_0 (by decide) ?_
  refine lv_istore_n (pc := 1) (lv' := [(2, .int (0 : Int32)), (0, .ref (ad 71)), (1, .ref (ad 110))]) hx hb dX4_orderOf_1 rfl hl (by decide) rfl (fun ls hl => ?_)
  refine lv_iconst (pc := 2) (v := 0) hx hb dX4_orderOf_2 (by decide) ?_
  refine lv_istore_n (pc := 3) (lv' := [(3, .int (0 : Int32)), (2, .int (0 : Int32)), (0, .ref (ad 71)), (1, .ref (ad 110))]) hx hb dX4_orderOf_3 rfl hl (by decide) rfl (fun ls hl => ?_)
  exact w_Potentials_orderOf_Potentials_sequence_L4 F (Nat.le_trans (by decide) hR1) (Nat.le_trans (by decide) hR2) _ _ _ _ h _ _ _ w (lv_sub hl [2, 3, 1, 0] rfl)
def f_Potentials_keyWith (a0 : Int32) (a1 : Int32) (a2 : Int32) (S : SS) : Option (Int32 × SS) :=
  if (3 : Int32) ≤ a1 then
    some (a0, S)
  else
    some (((6 : Int32) * a0) + a2, S)
theorem dX4_keyWith_0 : decode cX4_keyWith 0 = .ok (.iload_n 1, 1) := dc_27 (by decide +kernel)
theorem dX4_keyWith_1 : decode cX4_keyWith 1 = .ok (.iconst 3, 1) := dc_6 (by decide +kernel)
theorem dX4_keyWith_2 : decode cX4_keyWith 2 = .ok (.if_icmp .ge 12, 3) := dc_162 (a := 0) (b := 12) (by decide +kernel) (by decide)
theorem dX4_keyWith_5 : decode cX4_keyWith 5 = .ok (.bipush 6, 2) := dc_16 (a := 6) (by decide +kernel) (by decide)
theorem dX4_keyWith_7 : decode cX4_keyWith 7 = .ok (.iload_n 0, 1) := dc_26 (by decide +kernel)
theorem dX4_keyWith_8 : decode cX4_keyWith 8 = .ok (.imul, 1) := dc_104 (by decide +kernel)
theorem dX4_keyWith_9 : decode cX4_keyWith 9 = .ok (.iload_n 2, 1) := dc_28 (by decide +kernel)
theorem dX4_keyWith_10 : decode cX4_keyWith 10 = .ok (.iadd, 1) := dc_96 (by decide +kernel)
theorem dX4_keyWith_11 : decode cX4_keyWith 11 = .ok (.goto 4, 3) := dc_167 (a := 0) (b := 4) (by decide +kernel) (by decide)
theorem dX4_keyWith_14 : decode cX4_keyWith 14 = .ok (.iload_n 0, 1) := dc_26 (by decide +kernel)
theorem dX4_keyWith_15 : decode cX4_keyWith 15 = .ok (.ireturn, 1) := dc_172 (by decide +kernel)
set_option maxRecDepth 100000 in
set_option maxHeartbeats 4000000 in
theorem m_Potentials_keyWith (a0 : Int32) (a1 : Int32) (a2 : Int32) (S S' : SS) (r : Int32) (h : f_Potentials_keyWith a0 a1 a2 S = some (r, S')) : MT yX4_keyWith cX4_keyWith 3 (some .int) 0 0 (fun ad => [.int a0, .int a1, .int a2]) S (some (.int r)) S' := by
  refine MT.of RX4 (fun ad => [(0, .int a0), (1, .int a1), (2, .int a2)]) (by decide) rfl (fun _ => Nat.le_of_ble_eq_true rfl) (fun _ => rfl) ?_
  intro p l e R s m args below meth c dC dI cs ad A hR1 hR2 F H locs ls w hl
  have hx := F.1.1
  have hb := F.1.2.1
  rw [f_Potentials_keyWith] at h
  refine lv_iload_n (pc := 0) hx hb dX4_keyWith_0 rfl (lv_at hl 1 rfl) ?_
  refine lv_iconst (pc := 1) (v := 3) hx hb dX4_keyWith_1 (by decide) ?_
  refine lv_icmp_ge (pc := 2) (tgt := 14) hx hb dX4_keyWith_2 (by decide) (fun q => ?_) (fun q => ?_)
  · have h := ite_t q h
    refine lv_iload_n (pc := 14) hx hb dX4_keyWith_14 rfl (lv_at hl 0 rfl) ?_
    exact s_iret F w h dX4_keyWith_15
  · have h := ite_f q h
    refine lv_bipush (pc := 5) (v := 6) hx hb dX4_keyWith_5 (by decide) ?_
    refine lv_iload_n (pc := 7) hx hb dX4_keyWith_7 rfl (lv_at hl 0 rfl) ?_
    refine lv_imul (pc := 8) hx hb dX4_keyWith_8 ?_
    refine lv_iload_n (pc := 9) hx hb dX4_keyWith_9 rfl (lv_at hl 2 rfl) ?_
    refine lv_iadd (pc := 10) hx hb dX4_keyWith_10 ?_
    refine lv_goto (pc := 11) (tgt := 15) hx hb dX4_keyWith_11 (by decide) ?_
    exact s_iret F w h dX4_keyWith_15
def f_Potentials_rankOf_goal_L16 (K7 : Int32 → Int32 → Int32 → SS → Option (Int32 × SS)) : Nat → Int32 → Int32 → Int32 → Int32 → SS → Option (Int32 × SS)
  | 0, _, _, _, _, _ => none
  | n + 1, x2, x3, x4, x5, S =>
    bnd (f_Stacks_height_goal x4 S) (fun r4 S3 =>
    if r4 ≤ x5 then
      bnd (f_Potentials_keyWith x3 x4 x2 S3) (fun r6 S5 =>
      nm (x4 + (1 : Int32)) (fun z7 =>
      K7 x2 r6 z7 S5))
    else
      bnd (f_Stacks_wagonAt_goal x4 x5 S3) (fun r9 S8 =>
      if r9 < 0 then
        some ((-4 : Int32), S8)
      else
        if (10 : Int32) ≤ r9 then
          some ((-4 : Int32), S8)
        else
          grd (inb r9 10) (
          if (S8.1 109 r9.toNatClampNeg) = (-4 : Int32) then
            some ((-4 : Int32), S8)
          else
            if x2 < (S8.1 71 5) then
              grd (inb r9 10) (
              grd (inb x2 5) (wr S8 110 x2.toNatClampNeg (S8.1 109 r9.toNatClampNeg) (fun S10 =>
              nm (x2 + (1 : Int32)) (fun z11 =>
              nm (x5 + (1 : Int32)) (fun z12 =>
              f_Potentials_rankOf_goal_L16 K7 n z11 x3 x4 z12 S10)))))
            else
              some ((-4 : Int32), S8))))
def f_Potentials_rankOf_goal_L7  : Nat → Int32 → Int32 → Int32 → SS → Option (Int32 × SS)
  | 0, _, _, _, _ => none
  | n + 1, x2, x3, x4, S =>
    if (4 : Int32) ≤ x4 then
      if x2 = (S.1 71 5) then
        bnd (f_Potentials_orderOf_Potentials_sequence  S) (fun r2 S1 =>
        grd (inb x3 216) (
        some ((r2 * (S1.1 71 7)) + (S1.1 113 x3.toNatClampNeg), S1)))
      else
        some ((-4 : Int32), S)
    else
      f_Potentials_rankOf_goal_L16 (fun v0 v1 v2 S => f_Potentials_rankOf_goal_L7 n v0 v1 v2 S) NF x2 x3 x4 (0 : Int32) S
def f_Potentials_rankOf_goal  (S : SS) : Option (Int32 × SS) :=
  f_Potentials_rankOf_goal_L7 NF (0 : Int32) (0 : Int32) (0 : Int32) S
theorem dX4_rankOf_0 : decode cX4_rankOf 0 = .ok (.iconst 0, 1) := dc_3 (by decide +kernel)
theorem dX4_rankOf_1 : decode cX4_rankOf 1 = .ok (.istore_n 2, 1) := dc_61 (by decide +kernel)
theorem dX4_rankOf_2 : decode cX4_rankOf 2 = .ok (.iconst 0, 1) := dc_3 (by decide +kernel)
theorem dX4_rankOf_3 : decode cX4_rankOf 3 = .ok (.istore_n 3, 1) := dc_62 (by decide +kernel)
theorem dX4_rankOf_4 : decode cX4_rankOf 4 = .ok (.iconst 0, 1) := dc_3 (by decide +kernel)
theorem dX4_rankOf_5 : decode cX4_rankOf 5 = .ok (.istore 4, 2) := dc_54 (a := 4) (by decide +kernel)
theorem dX4_rankOf_7 : decode cX4_rankOf 7 = .ok (.iload 4, 2) := dc_21 (a := 4) (by decide +kernel)
theorem dX4_rankOf_9 : decode cX4_rankOf 9 = .ok (.iconst 4, 1) := dc_7 (by decide +kernel)
theorem dX4_rankOf_10 : decode cX4_rankOf 10 = .ok (.if_icmp .ge 98, 3) := dc_162 (a := 0) (b := 98) (by decide +kernel) (by decide)
theorem dX4_rankOf_13 : decode cX4_rankOf 13 = .ok (.iconst 0, 1) := dc_3 (by decide +kernel)
theorem dX4_rankOf_14 : decode cX4_rankOf 14 = .ok (.istore 5, 2) := dc_54 (a := 5) (by decide +kernel)
theorem dX4_rankOf_16 : decode cX4_rankOf 16 = .ok (.iload 5, 2) := dc_21 (a := 5) (by decide +kernel)
theorem dX4_rankOf_18 : decode cX4_rankOf 18 = .ok (.aload_n 1, 1) := dc_43 (by decide +kernel)
theorem dX4_rankOf_19 : decode cX4_rankOf 19 = .ok (.iload 4, 2) := dc_21 (a := 4) (by decide +kernel)
theorem dX4_rankOf_21 : decode cX4_rankOf 21 = .ok (.invokevirtual 67, 3) := dc_182 (a := 0) (b := 67) (by decide +kernel)
theorem dX4_rankOf_24 : decode cX4_rankOf 24 = .ok (.if_icmp .ge 70, 3) := dc_162 (a := 0) (b := 70) (by decide +kernel) (by decide)
theorem dX4_rankOf_27 : decode cX4_rankOf 27 = .ok (.aload_n 1, 1) := dc_43 (by decide +kernel)
theorem dX4_rankOf_28 : decode cX4_rankOf 28 = .ok (.iload 4, 2) := dc_21 (a := 4) (by decide +kernel)
theorem dX4_rankOf_30 : decode cX4_rankOf 30 = .ok (.iload 5, 2) := dc_21 (a := 5) (by decide +kernel)
theorem dX4_rankOf_32 : decode cX4_rankOf 32 = .ok (.invokevirtual 71, 3) := dc_182 (a := 0) (b := 71) (by decide +kernel)
theorem dX4_rankOf_35 : decode cX4_rankOf 35 = .ok (.istore 6, 2) := dc_54 (a := 6) (by decide +kernel)
theorem dX4_rankOf_37 : decode cX4_rankOf 37 = .ok (.iload 6, 2) := dc_21 (a := 6) (by decide +kernel)
theorem dX4_rankOf_39 : decode cX4_rankOf 39 = .ok (.ifCond .lt 30, 3) := dc_155 (a := 0) (b := 30) (by decide +kernel) (by decide)
theorem dX4_rankOf_42 : decode cX4_rankOf 42 = .ok (.iload 6, 2) := dc_21 (a := 6) (by decide +kernel)
theorem dX4_rankOf_44 : decode cX4_rankOf 44 = .ok (.bipush 10, 2) := dc_16 (a := 10) (by decide +kernel) (by decide)
theorem dX4_rankOf_46 : decode cX4_rankOf 46 = .ok (.if_icmp .ge 23, 3) := dc_162 (a := 0) (b := 23) (by decide +kernel) (by decide)
theorem dX4_rankOf_49 : decode cX4_rankOf 49 = .ok (.aload_n 0, 1) := dc_42 (by decide +kernel)
theorem dX4_rankOf_50 : decode cX4_rankOf 50 = .ok (.getfield 11, 3) := dc_180 (a := 0) (b := 11) (by decide +kernel)
theorem dX4_rankOf_53 : decode cX4_rankOf 53 = .ok (.iload 6, 2) := dc_21 (a := 6) (by decide +kernel)
theorem dX4_rankOf_55 : decode cX4_rankOf 55 = .ok (.iaload, 1) := dc_46 (by decide +kernel)
theorem dX4_rankOf_56 : decode cX4_rankOf 56 = .ok (.bipush (-4), 2) := dc_16 (a := 252) (by decide +kernel) (by decide)
theorem dX4_rankOf_58 : decode cX4_rankOf 58 = .ok (.if_icmp .eq 11, 3) := dc_159 (a := 0) (b := 11) (by decide +kernel) (by decide)
theorem dX4_rankOf_61 : decode cX4_rankOf 61 = .ok (.iload_n 2, 1) := dc_28 (by decide +kernel)
theorem dX4_rankOf_62 : decode cX4_rankOf 62 = .ok (.aload_n 0, 1) := dc_42 (by decide +kernel)
theorem dX4_rankOf_63 : decode cX4_rankOf 63 = .ok (.getfield 29, 3) := dc_180 (a := 0) (b := 29) (by decide +kernel)
theorem dX4_rankOf_66 : decode cX4_rankOf 66 = .ok (.if_icmp .lt 6, 3) := dc_161 (a := 0) (b := 6) (by decide +kernel) (by decide)
theorem dX4_rankOf_69 : decode cX4_rankOf 69 = .ok (.bipush (-4), 2) := dc_16 (a := 252) (by decide +kernel) (by decide)
theorem dX4_rankOf_71 : decode cX4_rankOf 71 = .ok (.ireturn, 1) := dc_172 (by decide +kernel)
theorem dX4_rankOf_72 : decode cX4_rankOf 72 = .ok (.aload_n 0, 1) := dc_42 (by decide +kernel)
theorem dX4_rankOf_73 : decode cX4_rankOf 73 = .ok (.getfield 17, 3) := dc_180 (a := 0) (b := 17) (by decide +kernel)
theorem dX4_rankOf_76 : decode cX4_rankOf 76 = .ok (.iload_n 2, 1) := dc_28 (by decide +kernel)
theorem dX4_rankOf_77 : decode cX4_rankOf 77 = .ok (.aload_n 0, 1) := dc_42 (by decide +kernel)
theorem dX4_rankOf_78 : decode cX4_rankOf 78 = .ok (.getfield 11, 3) := dc_180 (a := 0) (b := 11) (by decide +kernel)
theorem dX4_rankOf_81 : decode cX4_rankOf 81 = .ok (.iload 6, 2) := dc_21 (a := 6) (by decide +kernel)
theorem dX4_rankOf_83 : decode cX4_rankOf 83 = .ok (.iaload, 1) := dc_46 (by decide +kernel)
theorem dX4_rankOf_84 : decode cX4_rankOf 84 = .ok (.iastore, 1) := dc_79 (by decide +kernel)
theorem dX4_rankOf_85 : decode cX4_rankOf 85 = .ok (.iinc 2 1, 3) := dc_132 (a := 2) (b := 1) (by decide +kernel) (by decide)
theorem dX4_rankOf_88 : decode cX4_rankOf 88 = .ok (.iinc 5 1, 3) := dc_132 (a := 5) (b := 1) (by decide +kernel) (by decide)
theorem dX4_rankOf_91 : decode cX4_rankOf 91 = .ok (.goto (-75), 3) := dc_167 (a := 255) (b := 181) (by decide +kernel) (by decide)
theorem dX4_rankOf_94 : decode cX4_rankOf 94 = .ok (.iload_n 3, 1) := dc_29 (by decide +kernel)
theorem dX4_rankOf_95 : decode cX4_rankOf 95 = .ok (.iload 4, 2) := dc_21 (a := 4) (by decide +kernel)
theorem dX4_rankOf_97 : decode cX4_rankOf 97 = .ok (.iload_n 2, 1) := dc_28 (by decide +kernel)
theorem dX4_rankOf_98 : decode cX4_rankOf 98 = .ok (.invokestatic 75, 3) := dc_184 (a := 0) (b := 75) (by decide +kernel)
theorem dX4_rankOf_101 : decode cX4_rankOf 101 = .ok (.istore_n 3, 1) := dc_62 (by decide +kernel)
theorem dX4_rankOf_102 : decode cX4_rankOf 102 = .ok (.iinc 4 1, 3) := dc_132 (a := 4) (b := 1) (by decide +kernel) (by decide)
theorem dX4_rankOf_105 : decode cX4_rankOf 105 = .ok (.goto (-98), 3) := dc_167 (a := 255) (b := 158) (by decide +kernel) (by decide)
theorem dX4_rankOf_108 : decode cX4_rankOf 108 = .ok (.iload_n 2, 1) := dc_28 (by decide +kernel)
theorem dX4_rankOf_109 : decode cX4_rankOf 109 = .ok (.aload_n 0, 1) := dc_42 (by decide +kernel)
theorem dX4_rankOf_110 : decode cX4_rankOf 110 = .ok (.getfield 29, 3) := dc_180 (a := 0) (b := 29) (by decide +kernel)
theorem dX4_rankOf_113 : decode cX4_rankOf 113 = .ok (.if_icmp .ne 26, 3) := dc_160 (a := 0) (b := 26) (by decide +kernel) (by decide)
theorem dX4_rankOf_116 : decode cX4_rankOf 116 = .ok (.aload_n 0, 1) := dc_42 (by decide +kernel)
theorem dX4_rankOf_117 : decode cX4_rankOf 117 = .ok (.aload_n 0, 1) := dc_42 (by decide +kernel)
theorem dX4_rankOf_118 : decode cX4_rankOf 118 = .ok (.getfield 17, 3) := dc_180 (a := 0) (b := 17) (by decide +kernel)
theorem dX4_rankOf_121 : decode cX4_rankOf 121 = .ok (.invokevirtual 79, 3) := dc_182 (a := 0) (b := 79) (by decide +kernel)
theorem dX4_rankOf_124 : decode cX4_rankOf 124 = .ok (.aload_n 0, 1) := dc_42 (by decide +kernel)
theorem dX4_rankOf_125 : decode cX4_rankOf 125 = .ok (.getfield 36, 3) := dc_180 (a := 0) (b := 36) (by decide +kernel)
theorem dX4_rankOf_128 : decode cX4_rankOf 128 = .ok (.imul, 1) := dc_104 (by decide +kernel)
theorem dX4_rankOf_129 : decode cX4_rankOf 129 = .ok (.aload_n 0, 1) := dc_42 (by decide +kernel)
theorem dX4_rankOf_130 : decode cX4_rankOf 130 = .ok (.getfield 26, 3) := dc_180 (a := 0) (b := 26) (by decide +kernel)
theorem dX4_rankOf_133 : decode cX4_rankOf 133 = .ok (.iload_n 3, 1) := dc_29 (by decide +kernel)
theorem dX4_rankOf_134 : decode cX4_rankOf 134 = .ok (.iaload, 1) := dc_46 (by decide +kernel)
theorem dX4_rankOf_135 : decode cX4_rankOf 135 = .ok (.iadd, 1) := dc_96 (by decide +kernel)
theorem dX4_rankOf_136 : decode cX4_rankOf 136 = .ok (.goto 5, 3) := dc_167 (a := 0) (b := 5) (by decide +kernel) (by decide)
theorem dX4_rankOf_139 : decode cX4_rankOf 139 = .ok (.bipush (-4), 2) := dc_16 (a := 252) (by decide +kernel) (by decide)
theorem dX4_rankOf_141 : decode cX4_rankOf 141 = .ok (.ireturn, 1) := dc_172 (by decide +kernel)
set_option maxRecDepth 100000 in
set_option maxHeartbeats 4000000 in
theorem w_Potentials_rankOf_goal_L16 {p : Program} {l : Launch} {e : Env} {R : Room} {s : State} {m : MethodId} {args : Array Value} {below : List Frame} {meth : Method} {c : Code} {dC : Nat → ClassId} {dI : Nat → Nat → Nat} {cs : Nat → ClassId} {ad : Nat → Nat} {A : Nat → Prop} {D0 : Nat → Nat} {S' : SS} {r : Int32} (F : Fx p s m args meth c cX4_rankOf 7 RX4 (some .int) dC dI cs A) (hR1 : 1 ≤ R.frames) (hR2 : 23 ≤ R.locals) (K7 : Int32 → Int32 → Int32 → SS → Option (Int32 × SS)) (hK7 : ∀ (v0 : Int32) (v1 : Int32) (v2 : Int32) (S : SS), K7 v0 v1 v2 S = some (r, S') → AW p l e R s m args below meth c dC dI cs ad A D0 (some (.int r)) S' 7 7 [(0, .ref (ad 71)), (1, .ref (ad 73)), (2, .int v0), (3, .int v1), (4, .int v2)] [] S) : ∀ (n : Nat) (x2 : Int32) (x3 : Int32) (x4 : Int32) (x5 : Int32) (S : SS), f_Potentials_rankOf_goal_L16 K7 n x2 x3 x4 x5 S = some (r, S') → AW p l e R s m args below meth c dC dI cs ad A D0 (some (.int r)) S' 7 16 [(0, .ref (ad 71)), (1, .ref (ad 73)), (2, .int x2), (3, .int x3), (4, .int x4), (5, .int x5)] [] S := by
  have hx := F.1.1
  have hb := F.1.2.1
  intro n
  induction n with
  | zero => intro x2 x3 x4 x5 S h; cases h
  | succ n ih =>
    intro x2 x3 x4 x5 S h H locs ls w hl
    rw [f_Potentials_rankOf_goal_L16] at h
    refine lv_iload (pc := 16) hx hb dX4_rankOf_16 (lv_at hl 5 rfl) ?_
    refine lv_aload_n (pc := 18) hx hb dX4_rankOf_18 rfl (lv_at hl 1 rfl) ?_
    refine lv_iload (pc := 19) hx hb dX4_rankOf_19 (lv_at hl 4 rfl) ?_
    obtain ⟨r4, S3, hc, h⟩ := bnd_t h
    refine s_cvi (pc := 21) [.int x4] (fun ad => [.ref (ad 73), .int x4]) F w (m_Stacks_height_goal _ _ _ _ hc) rfl rfl hl.1 ds_73 vc_X7 rfl ok_X7_height rfl kc_X7_height kl_X4_67 ki_X7_height kv_X7_height kn_X7 ⟨Nat.le_trans (by decide) hR1, Nat.le_trans (by decide) hR2⟩ ⟨Nat.zero_le _, Nat.zero_le _⟩ (Nat.le_of_ble_eq_true rfl) dX4_rankOf_21 (fun H locs w => ?_)
    refine lv_icmp_ge (pc := 24) (tgt := 94) hx hb dX4_rankOf_24 (by decide) (fun q => ?_) (fun q => ?_)
    · have h := ite_t q h
      refine lv_iload_n (pc := 94) hx hb dX4_rankOf_94 rfl (lv_at hl 3 rfl) ?_
      refine lv_iload (pc := 95) hx hb dX4_rankOf_95 (lv_at hl 4 rfl) ?_
      refine lv_iload_n (pc := 97) hx hb dX4_rankOf_97 rfl (lv_at hl 2 rfl) ?_
      obtain ⟨r6, S5, hc, h⟩ := bnd_t h
      refine s_csi (pc := 98) [.int x3, .int x4, .int x2] (fun ad => [.int x3, .int x4, .int x2]) F w (m_Potentials_keyWith _ _ _ _ _ _ hc) rfl rfl hl.1 ok_X4_keyWith rfl kc_X4_keyWith kl_X4_75 ks_X4_keyWith kn_X4 ⟨Nat.le_trans (by decide) hR1, Nat.le_trans (by decide) hR2⟩ ⟨Nat.zero_le _, Nat.zero_le _⟩ (Nat.le_of_ble_eq_true rfl) dX4_rankOf_98 (fun H locs w => ?_)
      refine lv_istore_n (pc := 101) (lv' := [(3, .int r6), (0, .ref (ad 71)), (1, .ref (ad 73)), (2, .int x2), (4, .int x4), (5, .int x5)]) hx hb dX4_rankOf_101 rfl hl (by decide) rfl (fun ls hl => ?_)
      refine s_nm h (fun z7 ez7 h => ?_)
      refine lv_iinc (pc := 102) (v := z7) (lv' := [(4, .int z7), (3, .int r6), (0, .ref (ad 71)), (1, .ref (ad 73)), (2, .int x2), (5, .int x5)]) hx hb dX4_rankOf_102 hl (k := 4) rfl (by rw [ez7]; rfl) (by decide) rfl (fun ls hl => ?_)
      refine lv_goto (pc := 105) (tgt := 7) hx hb dX4_rankOf_105 (by decide) ?_
      exact hK7 _ _ _ _ h _ _ _ w (lv_sub hl [2, 3, 4, 1, 0] rfl)
    · have h := ite_f q h
      refine lv_aload_n (pc := 27) hx hb dX4_rankOf_27 rfl (lv_at hl 1 rfl) ?_
      refine lv_iload (pc := 28) hx hb dX4_rankOf_28 (lv_at hl 4 rfl) ?_
      refine lv_iload (pc := 30) hx hb dX4_rankOf_30 (lv_at hl 5 rfl) ?_
      obtain ⟨r9, S8, hc, h⟩ := bnd_t h
      refine s_cvi (pc := 32) [.int x4, .int x5] (fun ad => [.ref (ad 73), .int x4, .int x5]) F w (m_Stacks_wagonAt_goal _ _ _ _ _ hc) rfl rfl hl.1 ds_73 vc_X7 rfl ok_X7_wagonAt rfl kc_X7_wagonAt kl_X4_71 ki_X7_wagonAt kv_X7_wagonAt kn_X7 ⟨Nat.le_trans (by decide) hR1, Nat.le_trans (by decide) hR2⟩ ⟨Nat.zero_le _, Nat.zero_le _⟩ (Nat.le_of_ble_eq_true rfl) dX4_rankOf_32 (fun H locs w => ?_)
      refine lv_istore (pc := 35) (lv' := [(6, .int r9), (0, .ref (ad 71)), (1, .ref (ad 73)), (2, .int x2), (3, .int x3), (4, .int x4), (5, .int x5)]) hx hb dX4_rankOf_35 hl (by decide) rfl (fun ls hl => ?_)
      refine lv_iload (pc := 37) hx hb dX4_rankOf_37 (lv_at hl 0 rfl) ?_
      refine lv_if_lt (pc := 39) (tgt := 69) hx hb dX4_rankOf_39 (by decide) (fun q => ?_) (fun q => ?_)
      · have h := ite_t q h
        refine lv_bipush (pc := 69) (v := -4) hx hb dX4_rankOf_69 (by decide) ?_
        exact s_iret F w h dX4_rankOf_71
      · have h := ite_f q h
        refine lv_iload (pc := 42) hx hb dX4_rankOf_42 (lv_at hl 0 rfl) ?_
        refine lv_bipush (pc := 44) (v := 10) hx hb dX4_rankOf_44 (by decide) ?_
        refine lv_icmp_ge (pc := 46) (tgt := 69) hx hb dX4_rankOf_46 (by decide) (fun q => ?_) (fun q => ?_)
        · have h := ite_t q h
          refine lv_bipush (pc := 69) (v := -4) hx hb dX4_rankOf_69 (by decide) ?_
          exact s_iret F w h dX4_rankOf_71
        · have h := ite_f q h
          refine lv_aload_n (pc := 49) hx hb dX4_rankOf_49 rfl (lv_at hl 1 rfl) ?_
          refine s_getR (pc := 50) F w 109 ds_71 (j := 0) vc_X4 vi_X4 rfl (by decide) kf_X4_11 dX4_rankOf_50 ?_
          refine lv_iload (pc := 53) hx hb dX4_rankOf_53 (lv_at hl 0 rfl) ?_
          refine s_iald (pc := 55) F w ds_109 h dX4_rankOf_55 (fun h => ?_)
          refine lv_bipush (pc := 56) (v := -4) hx hb dX4_rankOf_56 (by decide) ?_
          refine lv_icmp_eq (pc := 58) (tgt := 69) hx hb dX4_rankOf_58 (by decide) (fun q => ?_) (fun q => ?_)
          · have h := ite_t q h
            refine lv_bipush (pc := 69) (v := -4) hx hb dX4_rankOf_69 (by decide) ?_
            exact s_iret F w h dX4_rankOf_71
          · have h := ite_f q h
            refine lv_iload_n (pc := 61) hx hb dX4_rankOf_61 rfl (lv_at hl 3 rfl) ?_
            refine lv_aload_n (pc := 62) hx hb dX4_rankOf_62 rfl (lv_at hl 1 rfl) ?_
            refine s_getI (pc := 63) F w ds_71 (j := 5) vc_X4 vi_X4 rfl (by decide) kf_X4_29 dX4_rankOf_63 ?_
            refine lv_icmp_lt (pc := 66) (tgt := 72) hx hb dX4_rankOf_66 (by decide) (fun q => ?_) (fun q => ?_)
            · have h := ite_t q h
              refine lv_aload_n (pc := 72) hx hb dX4_rankOf_72 rfl (lv_at hl 1 rfl) ?_
              refine s_getR (pc := 73) F w 110 ds_71 (j := 1) vc_X4 vi_X4 rfl (by decide) kf_X4_17 dX4_rankOf_73 ?_
              refine lv_iload_n (pc := 76) hx hb dX4_rankOf_76 rfl (lv_at hl 3 rfl) ?_
              refine lv_aload_n (pc := 77) hx hb dX4_rankOf_77 rfl (lv_at hl 1 rfl) ?_
              refine s_getR (pc := 78) F w 109 ds_71 (j := 0) vc_X4 vi_X4 rfl (by decide) kf_X4_11 dX4_rankOf_78 ?_
              refine lv_iload (pc := 81) hx hb dX4_rankOf_81 (lv_at hl 0 rfl) ?_
              refine s_iald (pc := 83) F w ds_109 h dX4_rankOf_83 (fun h => ?_)
              refine s_iast (pc := 84) F w ds_110 h dX4_rankOf_84 (fun S10 H locs h w => ?_)
              refine s_nm h (fun z11 ez11 h => ?_)
              refine lv_iinc (pc := 85) (v := z11) (lv' := [(2, .int z11), (6, .int r9), (0, .ref (ad 71)), (1, .ref (ad 73)), (3, .int x3), (4, .int x4), (5, .int x5)]) hx hb dX4_rankOf_85 hl (k := 3) rfl (by rw [ez11]; rfl) (by decide) rfl (fun ls hl => ?_)
              refine s_nm h (fun z12 ez12 h => ?_)
              refine lv_iinc (pc := 88) (v := z12) (lv' := [(5, .int z12), (2, .int z11), (6, .int r9), (0, .ref (ad 71)), (1, .ref (ad 73)), (3, .int x3), (4, .int x4)]) hx hb dX4_rankOf_88 hl (k := 6) rfl (by rw [ez12]; rfl) (by decide) rfl (fun ls hl => ?_)
              refine lv_goto (pc := 91) (tgt := 16) hx hb dX4_rankOf_91 (by decide) ?_
              exact ih _ _ _ _ _ h _ _ _ w (lv_sub hl [3, 4, 1, 5, 6, 0] rfl)
            · have h := ite_f q h
              refine lv_bipush (pc := 69) (v := -4) hx hb dX4_rankOf_69 (by decide) ?_
              exact s_iret F w h dX4_rankOf_71
set_option maxRecDepth 100000 in
set_option maxHeartbeats 4000000 in
theorem w_Potentials_rankOf_goal_L7 {p : Program} {l : Launch} {e : Env} {R : Room} {s : State} {m : MethodId} {args : Array Value} {below : List Frame} {meth : Method} {c : Code} {dC : Nat → ClassId} {dI : Nat → Nat → Nat} {cs : Nat → ClassId} {ad : Nat → Nat} {A : Nat → Prop} {D0 : Nat → Nat} {S' : SS} {r : Int32} (F : Fx p s m args meth c cX4_rankOf 7 RX4 (some .int) dC dI cs A) (hR1 : 2 ≤ R.frames) (hR2 : 44 ≤ R.locals) : ∀ (n : Nat) (x2 : Int32) (x3 : Int32) (x4 : Int32) (S : SS), f_Potentials_rankOf_goal_L7 n x2 x3 x4 S = some (r, S') → AW p l e R s m args below meth c dC dI cs ad A D0 (some (.int r)) S' 7 7 [(0, .ref (ad 71)), (1, .ref (ad 73)), (2, .int x2), (3, .int x3), (4, .int x4)] [] S := by
  have hx := F.1.1
  have hb := F.1.2.1
  intro n
  induction n with
  | zero => intro x2 x3 x4 S h; cases h
  | succ n ih =>
    intro x2 x3 x4 S h H locs ls w hl
    rw [f_Potentials_rankOf_goal_L7] at h
    refine lv_iload (pc := 7) hx hb dX4_rankOf_7 (lv_at hl 4 rfl) ?_
    refine lv_iconst (pc := 9) (v := 4) hx hb dX4_rankOf_9 (by decide) ?_
    refine lv_icmp_ge (pc := 10) (tgt := 108) hx hb dX4_rankOf_10 (by decide) (fun q => ?_) (fun q => ?_)
    · have h := ite_t q h
      refine lv_iload_n (pc := 108) hx hb dX4_rankOf_108 rfl (lv_at hl 2 rfl) ?_
      refine lv_aload_n (pc := 109) hx hb dX4_rankOf_109 rfl (lv_at hl 0 rfl) ?_
      refine s_getI (pc := 110) F w ds_71 (j := 5) vc_X4 vi_X4 rfl (by decide) kf_X4_29 dX4_rankOf_110 ?_
      refine lv_icmp_ne (pc := 113) (tgt := 139) hx hb dX4_rankOf_113 (by decide) (fun q => ?_) (fun q => ?_)
      · have h := ite_f q h
        refine lv_bipush (pc := 139) (v := -4) hx hb dX4_rankOf_139 (by decide) ?_
        exact s_iret F w h dX4_rankOf_141
      · have h := ite_t q h
        refine lv_aload_n (pc := 116) hx hb dX4_rankOf_116 rfl (lv_at hl 0 rfl) ?_
        refine lv_aload_n (pc := 117) hx hb dX4_rankOf_117 rfl (lv_at hl 0 rfl) ?_
        refine s_getR (pc := 118) F w 110 ds_71 (j := 1) vc_X4 vi_X4 rfl (by decide) kf_X4_17 dX4_rankOf_118 ?_
        obtain ⟨r2, S1, hc, h⟩ := bnd_t h
        refine s_cvi (pc := 121) [.ref (ad 110)] (fun ad => [.ref (ad 71), .ref (ad 110)]) F w (m_Potentials_orderOf_Potentials_sequence  _ _ _ hc) rfl rfl hl.1 ds_71 vc_X4 rfl ok_X4_orderOf rfl kc_X4_orderOf kl_X4_79 ki_X4_orderOf kv_X4_orderOf kn_X4 ⟨Nat.le_trans (by decide) hR1, Nat.le_trans (by decide) hR2⟩ ⟨Nat.zero_le _, Nat.zero_le _⟩ (Nat.le_of_ble_eq_true rfl) dX4_rankOf_121 (fun H locs w => ?_)
        refine lv_aload_n (pc := 124) hx hb dX4_rankOf_124 rfl (lv_at hl 0 rfl) ?_
        refine s_getI (pc := 125) F w ds_71 (j := 7) vc_X4 vi_X4 rfl (by decide) kf_X4_36 dX4_rankOf_125 ?_
        refine lv_imul (pc := 128) hx hb dX4_rankOf_128 ?_
        refine lv_aload_n (pc := 129) hx hb dX4_rankOf_129 rfl (lv_at hl 0 rfl) ?_
        refine s_getR (pc := 130) F w 113 ds_71 (j := 4) vc_X4 vi_X4 rfl (by decide) kf_X4_26 dX4_rankOf_130 ?_
        refine lv_iload_n (pc := 133) hx hb dX4_rankOf_133 rfl (lv_at hl 3 rfl) ?_
        refine s_iald (pc := 134) F w ds_113 h dX4_rankOf_134 (fun h => ?_)
        refine lv_iadd (pc := 135) hx hb dX4_rankOf_135 ?_
        refine lv_goto (pc := 136) (tgt := 141) hx hb dX4_rankOf_136 (by decide) ?_
        exact s_iret F w h dX4_rankOf_141
    · have h := ite_f q h
      refine lv_iconst (pc := 13) (v := 0) hx hb dX4_rankOf_13 (by decide) ?_
      refine lv_istore (pc := 14) (lv' := [(5, .int (0 : Int32)), (0, .ref (ad 71)), (1, .ref (ad 73)), (2, .int x2), (3, .int x3), (4, .int x4)]) hx hb dX4_rankOf_14 hl (by decide) rfl (fun ls hl => ?_)
      exact w_Potentials_rankOf_goal_L16 F (Nat.le_trans (by decide) hR1) (Nat.le_trans (by decide) hR2) _ (fun v0 v1 v2 S h => ih v0 v1 v2 S h) _ _ _ _ _ _ h _ _ _ w (lv_sub hl [1, 2, 3, 4, 5, 0] rfl)
set_option maxRecDepth 100000 in
set_option maxHeartbeats 4000000 in
theorem m_Potentials_rankOf_goal  (S S' : SS) (r : Int32) (h : f_Potentials_rankOf_goal  S = some (r, S')) : MT yX4_rankOf cX4_rankOf 7 (some .int) 2 44 (fun ad => [.ref (ad 71), .ref (ad 73)]) S (some (.int r)) S' := by
  refine MT.of RX4 (fun ad => [(0, .ref (ad 71)), (1, .ref (ad 73))]) (by decide) rfl (fun _ => Nat.le_of_ble_eq_true rfl) (fun _ => rfl) ?_
  intro p l e R s m args below meth c dC dI cs ad A hR1 hR2 F H locs ls w hl
  have hx := F.1.1
  have hb := F.1.2.1
  rw [f_Potentials_rankOf_goal] at h
  refine lv_iconst (pc := 0) (v := 0) hx hb dX4_rankOf_0 (by decide) ?_
  refine lv_istore_n (pc := 1) (lv' := [(2, .int (0 : Int32)), (0, .ref (ad 71)), (1, .ref (ad 73))]) hx hb dX4_rankOf_1 rfl hl (by decide) rfl (fun ls hl => ?_)
  refine lv_iconst (pc := 2) (v := 0) hx hb dX4_rankOf_2 (by decide) ?_
  refine lv_istore_n (pc := 3) (lv' := [(3, .int (0 : Int32)), (2, .int (0 : Int32)), (0, .ref (ad 71)), (1, .ref (ad 73))]) hx hb dX4_rankOf_3 rfl hl (by decide) rfl (fun ls hl => ?_)
  refine lv_iconst (pc := 4) (v := 0) hx hb dX4_rankOf_4 (by decide) ?_
  refine lv_istore (pc := 5) (lv' := [(4, .int (0 : Int32)), (3, .int (0 : Int32)), (2, .int (0 : Int32)), (0, .ref (ad 71)), (1, .ref (ad 73))]) hx hb dX4_rankOf_5 hl (by decide) rfl (fun ls hl => ?_)
  exact w_Potentials_rankOf_goal_L7 F (Nat.le_trans (by decide) hR1) (Nat.le_trans (by decide) hR2) _ _ _ _ _ h _ _ _ w (lv_sub hl [3, 4, 2, 1, 0] rfl)
