/-! ===== printed by wip/gen: M_isSuch M_missThing M_load M_piece M_save M_keep M_entered M_danger M_hold ===== -/
def f_M_isSuch (a1 : Int32) (a2 : Int32) (S : SS) : Option (Int32 × SS) :=
  grd (inb a1 72) (
  nm (S.1 18 a1.toNatClampNeg) (fun z1 =>
  if a2 = (1 : Int32) then
    if (4 : Int32) < z1 then
      some ((0 : Int32), S)
    else
      some ((1 : Int32), S)
  else
  if a2 = (2 : Int32) then
    if z1 < (5 : Int32) then
      some ((0 : Int32), S)
    else
      some ((1 : Int32), S)
  else
  if a2 = (3 : Int32) then
    if (3 : Int32) < z1 then
      some ((0 : Int32), S)
    else
      some ((1 : Int32), S)
  else
  if a2 = (4 : Int32) then
    if z1 = (2 : Int32) then
      some ((1 : Int32), S)
    else
      some ((0 : Int32), S)
  else
  some ((1 : Int32), S)))
theorem dX12_isSuch_0 : decode cX12_isSuch 0 = .ok (.aload_n 0, 1) := dc_42 (by decide +kernel)
theorem dX12_isSuch_1 : decode cX12_isSuch 1 = .ok (.getfield 69, 3) := dc_180 (a := 0) (b := 69) (by decide +kernel)
theorem dX12_isSuch_4 : decode cX12_isSuch 4 = .ok (.iload_n 1, 1) := dc_27 (by decide +kernel)
theorem dX12_isSuch_5 : decode cX12_isSuch 5 = .ok (.iaload, 1) := dc_46 (by decide +kernel)
theorem dX12_isSuch_6 : decode cX12_isSuch 6 = .ok (.istore_n 3, 1) := dc_62 (by decide +kernel)
theorem dX12_isSuch_7 : decode cX12_isSuch 7 = .ok (.iload_n 2, 1) := dc_28 (by decide +kernel)
theorem dX12_isSuch_8 : decode cX12_isSuch 8 = .ok (.tableswitch 76 1 4 #[32, 43, 54, 65], 32) := by decide +kernel
theorem dX12_isSuch_40 : decode cX12_isSuch 40 = .ok (.iload_n 3, 1) := dc_29 (by decide +kernel)
theorem dX12_isSuch_41 : decode cX12_isSuch 41 = .ok (.iconst 4, 1) := dc_7 (by decide +kernel)
theorem dX12_isSuch_42 : decode cX12_isSuch 42 = .ok (.if_icmp .gt 7, 3) := dc_163 (a := 0) (b := 7) (by decide +kernel) (by decide)
theorem dX12_isSuch_45 : decode cX12_isSuch 45 = .ok (.iconst 1, 1) := dc_4 (by decide +kernel)
theorem dX12_isSuch_46 : decode cX12_isSuch 46 = .ok (.goto 4, 3) := dc_167 (a := 0) (b := 4) (by decide +kernel) (by decide)
theorem dX12_isSuch_49 : decode cX12_isSuch 49 = .ok (.iconst 0, 1) := dc_3 (by decide +kernel)
theorem dX12_isSuch_50 : decode cX12_isSuch 50 = .ok (.ireturn, 1) := dc_172 (by decide +kernel)
theorem dX12_isSuch_51 : decode cX12_isSuch 51 = .ok (.iload_n 3, 1) := dc_29 (by decide +kernel)
theorem dX12_isSuch_52 : decode cX12_isSuch 52 = .ok (.iconst 5, 1) := dc_8 (by decide +kernel)
theorem dX12_isSuch_53 : decode cX12_isSuch 53 = .ok (.if_icmp .lt 7, 3) := dc_161 (a := 0) (b := 7) (by decide +kernel) (by decide)
theorem dX12_isSuch_56 : decode cX12_isSuch 56 = .ok (.iconst 1, 1) := dc_4 (by decide +kernel)
theorem dX12_isSuch_57 : decode cX12_isSuch 57 = .ok (.goto 4, 3) := dc_167 (a := 0) (b := 4) (by decide +kernel) (by decide)
theorem dX12_isSuch_60 : decode cX12_isSuch 60 = .ok (.iconst 0, 1) := dc_3 (by decide +kernel)
theorem dX12_isSuch_61 : decode cX12_isSuch 61 = .ok (.ireturn, 1) := dc_172 (by decide +kernel)
theorem dX12_isSuch_62 : decode cX12_isSuch 62 = .ok (.iload_n 3, 1) := dc_29 (by decide +kernel)
theorem dX12_isSuch_63 : decode cX12_isSuch 63 = .ok (.iconst 3, 1) := dc_6 (by decide +kernel)
theorem dX12_isSuch_64 : decode cX12_isSuch 64 = .ok (.if_icmp .gt 7, 3) := dc_163 (a := 0) (b := 7) (by decide +kernel) (by decide)
theorem dX12_isSuch_67 : decode cX12_isSuch 67 = .ok (.iconst 1, 1) := dc_4 (by decide +kernel)
theorem dX12_isSuch_68 : decode cX12_isSuch 68 = .ok (.goto 4, 3) := dc_167 (a := 0) (b := 4) (by decide +kernel) (by decide)
theorem dX12_isSuch_71 : decode cX12_isSuch 71 = .ok (.iconst 0, 1) := dc_3 (by decide +kernel)
theorem dX12_isSuch_72 : decode cX12_isSuch 72 = .ok (.ireturn, 1) := dc_172 (by decide +kernel)
theorem dX12_isSuch_73 : decode cX12_isSuch 73 = .ok (.iload_n 3, 1) := dc_29 (by decide +kernel)
theorem dX12_isSuch_74 : decode cX12_isSuch 74 = .ok (.iconst 2, 1) := dc_5 (by decide +kernel)
theorem dX12_isSuch_75 : decode cX12_isSuch 75 = .ok (.if_icmp .ne 7, 3) := dc_160 (a := 0) (b := 7) (by decide +kernel) (by decide)
theorem dX12_isSuch_78 : decode cX12_isSuch 78 = .ok (.iconst 1, 1) := dc_4 (by decide +kernel)
theorem dX12_isSuch_79 : decode cX12_isSuch 79 = .ok (.goto 4, 3) := dc_167 (a := 0) (b := 4) (by decide +kernel) (by decide)
theorem dX12_isSuch_82 : decode cX12_isSuch 82 = .ok (.iconst 0, 1) := dc_3 (by decide +kernel)
theorem dX12_isSuch_83 : decode cX12_isSuch 83 = .ok (.ireturn, 1) := dc_172 (by decide +kernel)
theorem dX12_isSuch_84 : decode cX12_isSuch 84 = .ok (.iconst 1, 1) := dc_4 (by decide +kernel)
theorem dX12_isSuch_85 : decode cX12_isSuch 85 = .ok (.ireturn, 1) := dc_172 (by decide +kernel)
set_option maxRecDepth 100000 in
set_option maxHeartbeats 4000000 in
theorem m_M_isSuch (a1 : Int32) (a2 : Int32) (S S' : SS) (r : Int32) (h : f_M_isSuch a1 a2 S = some (r, S')) : MT yX12_isSuch cX12_isSuch 4 (some .boolean) 0 0 (fun ad => [.ref (ad 0), .int a1, .int a2]) S (some (.int r)) S' := by
  refine MT.of RX12 (fun ad => [(0, .ref (ad 0)), (1, .int a1), (2, .int a2)]) (by decide) rfl (fun _ => Nat.le_of_ble_eq_true rfl) (fun _ => rfl) ?_
  intro p l e R s m args below meth c dC dI cs ad A hR1 hR2 F H locs ls w hl
  have hx := F.1.1
  have hb := F.1.2.1
  rw [f_M_isSuch] at h
  refine lv_aload_n (pc := 0) hx hb dX12_isSuch_0 rfl (lv_at hl 0 rfl) ?_
  refine s_getR (pc := 1) F w 18 ds_0 (j := 30) vc_X12 vi_X12 rfl (by decide) kf_X12_69 dX12_isSuch_1 ?_
  refine lv_iload_n (pc := 4) hx hb dX12_isSuch_4 rfl (lv_at hl 1 rfl) ?_
  refine s_iald (pc := 5) F w ds_18 h dX12_isSuch_5 (fun h => ?_)
  refine s_nm h (fun z1 ez1 h => ?_)
  rw [← ez1]
  refine lv_istore_n (pc := 6) (lv' := [(3, .int z1), (0, .ref (ad 0)), (1, .int a1), (2, .int a2)]) hx hb dX12_isSuch_6 rfl hl (by decide) rfl (fun ls hl => ?_)
  refine lv_iload_n (pc := 7) hx hb dX12_isSuch_7 rfl (lv_at hl 3 rfl) ?_
  rcases Decidable.em (a2 = (1 : Int32)) with q1 | q1
  · refine lv_tableIn (pc := 8) (tgt := 40) (off := 32) hx hb dX12_isSuch_8 (by rw [q1]; decide) (by rw [q1]; decide) (by rw [q1]; rfl) (by decide) ?_
    have h := ite_t q1 h
    refine lv_iload_n (pc := 40) hx hb dX12_isSuch_40 rfl (lv_at hl 0 rfl) ?_
    refine lv_iconst (pc := 41) (v := 4) hx hb dX12_isSuch_41 (by decide) ?_
    refine lv_icmp_gt (pc := 42) (tgt := 49) hx hb dX12_isSuch_42 (by decide) (fun q => ?_) (fun q => ?_)
    · have h := ite_t q h
      refine lv_iconst (pc := 49) (v := 0) hx hb dX12_isSuch_49 (by decide) ?_
      exact s_zretc F w rfl h dX12_isSuch_50
    · have h := ite_f q h
      refine lv_iconst (pc := 45) (v := 1) hx hb dX12_isSuch_45 (by decide) ?_
      refine lv_goto (pc := 46) (tgt := 50) hx hb dX12_isSuch_46 (by decide) ?_
      exact s_zretc F w rfl h dX12_isSuch_50
  have h := ite_f q1 h
  rcases Decidable.em (a2 = (2 : Int32)) with q2 | q2
  · refine lv_tableIn (pc := 8) (tgt := 51) (off := 43) hx hb dX12_isSuch_8 (by rw [q2]; decide) (by rw [q2]; decide) (by rw [q2]; rfl) (by decide) ?_
    have h := ite_t q2 h
    refine lv_iload_n (pc := 51) hx hb dX12_isSuch_51 rfl (lv_at hl 0 rfl) ?_
    refine lv_iconst (pc := 52) (v := 5) hx hb dX12_isSuch_52 (by decide) ?_
    refine lv_icmp_lt (pc := 53) (tgt := 60) hx hb dX12_isSuch_53 (by decide) (fun q => ?_) (fun q => ?_)
    · have h := ite_t q h
      refine lv_iconst (pc := 60) (v := 0) hx hb dX12_isSuch_60 (by decide) ?_
      exact s_zretc F w rfl h dX12_isSuch_61
    · have h := ite_f q h
      refine lv_iconst (pc := 56) (v := 1) hx hb dX12_isSuch_56 (by decide) ?_
      refine lv_goto (pc := 57) (tgt := 61) hx hb dX12_isSuch_57 (by decide) ?_
      exact s_zretc F w rfl h dX12_isSuch_61
  have h := ite_f q2 h
  rcases Decidable.em (a2 = (3 : Int32)) with q3 | q3
  · refine lv_tableIn (pc := 8) (tgt := 62) (off := 54) hx hb dX12_isSuch_8 (by rw [q3]; decide) (by rw [q3]; decide) (by rw [q3]; rfl) (by decide) ?_
    have h := ite_t q3 h
    refine lv_iload_n (pc := 62) hx hb dX12_isSuch_62 rfl (lv_at hl 0 rfl) ?_
    refine lv_iconst (pc := 63) (v := 3) hx hb dX12_isSuch_63 (by decide) ?_
    refine lv_icmp_gt (pc := 64) (tgt := 71) hx hb dX12_isSuch_64 (by decide) (fun q => ?_) (fun q => ?_)
    · have h := ite_t q h
      refine lv_iconst (pc := 71) (v := 0) hx hb dX12_isSuch_71 (by decide) ?_
      exact s_zretc F w rfl h dX12_isSuch_72
    · have h := ite_f q h
      refine lv_iconst (pc := 67) (v := 1) hx hb dX12_isSuch_67 (by decide) ?_
      refine lv_goto (pc := 68) (tgt := 72) hx hb dX12_isSuch_68 (by decide) ?_
      exact s_zretc F w rfl h dX12_isSuch_72
  have h := ite_f q3 h
  rcases Decidable.em (a2 = (4 : Int32)) with q4 | q4
  · refine lv_tableIn (pc := 8) (tgt := 73) (off := 65) hx hb dX12_isSuch_8 (by rw [q4]; decide) (by rw [q4]; decide) (by rw [q4]; rfl) (by decide) ?_
    have h := ite_t q4 h
    refine lv_iload_n (pc := 73) hx hb dX12_isSuch_73 rfl (lv_at hl 0 rfl) ?_
    refine lv_iconst (pc := 74) (v := 2) hx hb dX12_isSuch_74 (by decide) ?_
    refine lv_icmp_ne (pc := 75) (tgt := 82) hx hb dX12_isSuch_75 (by decide) (fun q => ?_) (fun q => ?_)
    · have h := ite_f q h
      refine lv_iconst (pc := 82) (v := 0) hx hb dX12_isSuch_82 (by decide) ?_
      exact s_zretc F w rfl h dX12_isSuch_83
    · have h := ite_t q h
      refine lv_iconst (pc := 78) (v := 1) hx hb dX12_isSuch_78 (by decide) ?_
      refine lv_goto (pc := 79) (tgt := 83) hx hb dX12_isSuch_79 (by decide) ?_
      exact s_zretc F w rfl h dX12_isSuch_83
  have h := ite_f q4 h
  refine lv_tableOut (pc := 8) (tgt := 84) hx hb dX12_isSuch_8 (by have zq1 := i32ne q1 (show ((1 : Int32)).toInt = 1 by decide); have zq2 := i32ne q2 (show ((2 : Int32)).toInt = 2 by decide); have zq3 := i32ne q3 (show ((3 : Int32)).toInt = 3 by decide); have zq4 := i32ne q4 (show ((4 : Int32)).toInt = 4 by decide); omega) (by decide) ?_
  refine lv_iconst (pc := 84) (v := 1) hx hb dX12_isSuch_84 (by decide) ?_
  exact s_zretc F w rfl h dX12_isSuch_85
def f_M_missThing (a1 : Int32) (a2 : Int32) (S : SS) : Option (Int32 × SS) :=
  if a1 < 0 then
    some ((3 : Int32), S)
  else
    if a1 < (72 : Int32) then
      if (S.1 0 29) ≤ a1 then
        some ((1 : Int32), S)
      else
        grd (inb a1 72) (
        if (S.1 19 a1.toNatClampNeg) = 0 then
          some ((1 : Int32), S)
        else
          bnd (f_M_isSuch a1 a2 S) (fun r2 S1 =>
          if r2 = 0 then
            some ((2 : Int32), S1)
          else
            some ((0 : Int32), S1)))
    else
      some ((3 : Int32), S)
theorem dX12_missThing_0 : decode cX12_missThing 0 = .ok (.iload_n 1, 1) := dc_27 (by decide +kernel)
theorem dX12_missThing_1 : decode cX12_missThing 1 = .ok (.ifCond .lt 9, 3) := dc_155 (a := 0) (b := 9) (by decide +kernel) (by decide)
theorem dX12_missThing_4 : decode cX12_missThing 4 = .ok (.iload_n 1, 1) := dc_27 (by decide +kernel)
theorem dX12_missThing_5 : decode cX12_missThing 5 = .ok (.bipush 72, 2) := dc_16 (a := 72) (by decide +kernel) (by decide)
theorem dX12_missThing_7 : decode cX12_missThing 7 = .ok (.if_icmp .lt 5, 3) := dc_161 (a := 0) (b := 5) (by decide +kernel) (by decide)
theorem dX12_missThing_10 : decode cX12_missThing 10 = .ok (.iconst 3, 1) := dc_6 (by decide +kernel)
theorem dX12_missThing_11 : decode cX12_missThing 11 = .ok (.ireturn, 1) := dc_172 (by decide +kernel)
theorem dX12_missThing_12 : decode cX12_missThing 12 = .ok (.iload_n 1, 1) := dc_27 (by decide +kernel)
theorem dX12_missThing_13 : decode cX12_missThing 13 = .ok (.aload_n 0, 1) := dc_42 (by decide +kernel)
theorem dX12_missThing_14 : decode cX12_missThing 14 = .ok (.getfield 269, 3) := dc_180 (a := 1) (b := 13) (by decide +kernel)
theorem dX12_missThing_17 : decode cX12_missThing 17 = .ok (.if_icmp .ge 12, 3) := dc_162 (a := 0) (b := 12) (by decide +kernel) (by decide)
theorem dX12_missThing_20 : decode cX12_missThing 20 = .ok (.aload_n 0, 1) := dc_42 (by decide +kernel)
theorem dX12_missThing_21 : decode cX12_missThing 21 = .ok (.getfield 72, 3) := dc_180 (a := 0) (b := 72) (by decide +kernel)
theorem dX12_missThing_24 : decode cX12_missThing 24 = .ok (.iload_n 1, 1) := dc_27 (by decide +kernel)
theorem dX12_missThing_25 : decode cX12_missThing 25 = .ok (.baload, 1) := dc_51 (by decide +kernel)
theorem dX12_missThing_26 : decode cX12_missThing 26 = .ok (.ifCond .ne 5, 3) := dc_154 (a := 0) (b := 5) (by decide +kernel) (by decide)
theorem dX12_missThing_29 : decode cX12_missThing 29 = .ok (.iconst 1, 1) := dc_4 (by decide +kernel)
theorem dX12_missThing_30 : decode cX12_missThing 30 = .ok (.ireturn, 1) := dc_172 (by decide +kernel)
theorem dX12_missThing_31 : decode cX12_missThing 31 = .ok (.aload_n 0, 1) := dc_42 (by decide +kernel)
theorem dX12_missThing_32 : decode cX12_missThing 32 = .ok (.iload_n 1, 1) := dc_27 (by decide +kernel)
theorem dX12_missThing_33 : decode cX12_missThing 33 = .ok (.iload_n 2, 1) := dc_28 (by decide +kernel)
theorem dX12_missThing_34 : decode cX12_missThing 34 = .ok (.invokevirtual 289, 3) := dc_182 (a := 1) (b := 33) (by decide +kernel)
theorem dX12_missThing_37 : decode cX12_missThing 37 = .ok (.ifCond .eq 7, 3) := dc_153 (a := 0) (b := 7) (by decide +kernel) (by decide)
theorem dX12_missThing_40 : decode cX12_missThing 40 = .ok (.iconst 0, 1) := dc_3 (by decide +kernel)
theorem dX12_missThing_41 : decode cX12_missThing 41 = .ok (.goto 4, 3) := dc_167 (a := 0) (b := 4) (by decide +kernel) (by decide)
theorem dX12_missThing_44 : decode cX12_missThing 44 = .ok (.iconst 2, 1) := dc_5 (by decide +kernel)
theorem dX12_missThing_45 : decode cX12_missThing 45 = .ok (.ireturn, 1) := dc_172 (by decide +kernel)
set_option maxRecDepth 100000 in
set_option maxHeartbeats 4000000 in
theorem m_M_missThing (a1 : Int32) (a2 : Int32) (S S' : SS) (r : Int32) (h : f_M_missThing a1 a2 S = some (r, S')) : MT yX12_missThing cX12_missThing 3 (some .int) 1 23 (fun ad => [.ref (ad 0), .int a1, .int a2]) S (some (.int r)) S' := by
  refine MT.of RX12 (fun ad => [(0, .ref (ad 0)), (1, .int a1), (2, .int a2)]) (by decide) rfl (fun _ => Nat.le_of_ble_eq_true rfl) (fun _ => rfl) ?_
  intro p l e R s m args below meth c dC dI cs ad A hR1 hR2 F H locs ls w hl
  have hx := F.1.1
  have hb := F.1.2.1
  rw [f_M_missThing] at h
  refine lv_iload_n (pc := 0) hx hb dX12_missThing_0 rfl (lv_at hl 1 rfl) ?_
  refine lv_if_lt (pc := 1) (tgt := 10) hx hb dX12_missThing_1 (by decide) (fun q => ?_) (fun q => ?_)
  · have h := ite_t q h
    refine lv_iconst (pc := 10) (v := 3) hx hb dX12_missThing_10 (by decide) ?_
    exact s_iret F w h dX12_missThing_11
  · have h := ite_f q h
    refine lv_iload_n (pc := 4) hx hb dX12_missThing_4 rfl (lv_at hl 1 rfl) ?_
    refine lv_bipush (pc := 5) (v := 72) hx hb dX12_missThing_5 (by decide) ?_
    refine lv_icmp_lt (pc := 7) (tgt := 12) hx hb dX12_missThing_7 (by decide) (fun q => ?_) (fun q => ?_)
    · have h := ite_t q h
      refine lv_iload_n (pc := 12) hx hb dX12_missThing_12 rfl (lv_at hl 1 rfl) ?_
      refine lv_aload_n (pc := 13) hx hb dX12_missThing_13 rfl (lv_at hl 0 rfl) ?_
      refine s_getI (pc := 14) F w ds_0 (j := 29) vc_X12 vi_X12 rfl (by decide) kf_X12_269 dX12_missThing_14 ?_
      refine lv_icmp_ge (pc := 17) (tgt := 29) hx hb dX12_missThing_17 (by decide) (fun q => ?_) (fun q => ?_)
      · have h := ite_t q h
        refine lv_iconst (pc := 29) (v := 1) hx hb dX12_missThing_29 (by decide) ?_
        exact s_iret F w h dX12_missThing_30
      · have h := ite_f q h
        refine lv_aload_n (pc := 20) hx hb dX12_missThing_20 rfl (lv_at hl 0 rfl) ?_
        refine s_getR (pc := 21) F w 19 ds_0 (j := 31) vc_X12 vi_X12 rfl (by decide) kf_X12_72 dX12_missThing_21 ?_
        refine lv_iload_n (pc := 24) hx hb dX12_missThing_24 rfl (lv_at hl 1 rfl) ?_
        refine s_zald (pc := 25) F w ds_19 h dX12_missThing_25 (fun h => ?_)
        refine lv_if_ne (pc := 26) (tgt := 31) hx hb dX12_missThing_26 (by decide) (fun q => ?_) (fun q => ?_)
        · have h := ite_f q h
          refine lv_aload_n (pc := 31) hx hb dX12_missThing_31 rfl (lv_at hl 0 rfl) ?_
          refine lv_iload_n (pc := 32) hx hb dX12_missThing_32 rfl (lv_at hl 1 rfl) ?_
          refine lv_iload_n (pc := 33) hx hb dX12_missThing_33 rfl (lv_at hl 2 rfl) ?_
          obtain ⟨r2, S1, hc, h⟩ := bnd_t h
          refine s_cvi (pc := 34) [.int a1, .int a2] (fun ad => [.ref (ad 0), .int a1, .int a2]) F w (m_M_isSuch _ _ _ _ _ hc) rfl rfl hl.1 ds_0 vc_X12 rfl ok_X12_isSuch rfl kc_X12_isSuch kl_X12_289 ki_X12_isSuch kv_X12_isSuch kn_X12 ⟨Nat.le_trans (by decide) hR1, Nat.le_trans (by decide) hR2⟩ ⟨Nat.zero_le _, Nat.zero_le _⟩ (Nat.le_of_ble_eq_true rfl) dX12_missThing_34 (fun H locs w => ?_)
          refine lv_if_eq (pc := 37) (tgt := 44) hx hb dX12_missThing_37 (by decide) (fun q => ?_) (fun q => ?_)
          · have h := ite_t q h
            refine lv_iconst (pc := 44) (v := 2) hx hb dX12_missThing_44 (by decide) ?_
            exact s_iret F w h dX12_missThing_45
          · have h := ite_f q h
            refine lv_iconst (pc := 40) (v := 0) hx hb dX12_missThing_40 (by decide) ?_
            refine lv_goto (pc := 41) (tgt := 45) hx hb dX12_missThing_41 (by decide) ?_
            exact s_iret F w h dX12_missThing_45
        · have h := ite_t q h
          refine lv_iconst (pc := 29) (v := 1) hx hb dX12_missThing_29 (by decide) ?_
          exact s_iret F w h dX12_missThing_30
    · have h := ite_f q h
      refine lv_iconst (pc := 10) (v := 3) hx hb dX12_missThing_10 (by decide) ?_
      exact s_iret F w h dX12_missThing_11
def f_M_load_L64  : Nat → Int32 → Int32 → Int32 → SS → Option (Int32 × SS)
  | 0, _, _, _, _ => none
  | n + 1, x1, x3, x4, S =>
    if (20 : Int32) ≤ x4 then
      some (x3, S)
    else
      grd (inb (((20 : Int32) * x1) + x4) 1440) (wr S 37 (((20 : Int32) * x1) + x4).toNatClampNeg (0 : Int32) (fun S8 =>
      nm (x4 + (1 : Int32)) (fun z9 =>
      f_M_load_L64 n x1 x3 z9 S8)))
def f_M_load (a1 : Int32) (a2 : Int32) (a3 : Int32) (S : SS) : Option (Int32 × SS) :=
  if a2 < 0 then
    some ((-1 : Int32), S)
  else
    if (1 : Int32) < a2 then
      some ((-1 : Int32), S)
    else
      if a3 ≤ (20 : Int32) then
        bndv (f_M_begin  S) (fun S1 =>
        bnd (f_M_missThing a1 (1 : Int32) S1) (fun r3 S2 =>
        bnd (f_M_ends r3 S2) (fun r5 S4 =>
        if r5 = 0 then
          if 0 ≤ a3 then
            grd (inb a1 72) (wr S4 35 a1.toNatClampNeg a3 (fun S6 =>
            grd (inb a1 72) (wr S6 36 a1.toNatClampNeg a2 (fun S7 =>
            f_M_load_L64 NF a1 a3 (0 : Int32) S7))))
          else
            bnd (f_M_found (5 : Int32) S4) (fun r11 S10 =>
            some (r11, S10))
        else
          some ((-2 : Int32), S4))))
      else
        some ((-1 : Int32), S)
theorem dX12_load_0 : decode cX12_load 0 = .ok (.iload_n 2, 1) := dc_28 (by decide +kernel)
theorem dX12_load_1 : decode cX12_load 1 = .ok (.ifCond .lt 14, 3) := dc_155 (a := 0) (b := 14) (by decide +kernel) (by decide)
theorem dX12_load_4 : decode cX12_load 4 = .ok (.iload_n 2, 1) := dc_28 (by decide +kernel)
theorem dX12_load_5 : decode cX12_load 5 = .ok (.iconst 1, 1) := dc_4 (by decide +kernel)
theorem dX12_load_6 : decode cX12_load 6 = .ok (.if_icmp .gt 9, 3) := dc_163 (a := 0) (b := 9) (by decide +kernel) (by decide)
theorem dX12_load_9 : decode cX12_load 9 = .ok (.iload_n 3, 1) := dc_29 (by decide +kernel)
theorem dX12_load_10 : decode cX12_load 10 = .ok (.bipush 20, 2) := dc_16 (a := 20) (by decide +kernel) (by decide)
theorem dX12_load_12 : decode cX12_load 12 = .ok (.if_icmp .le 5, 3) := dc_164 (a := 0) (b := 5) (by decide +kernel) (by decide)
theorem dX12_load_15 : decode cX12_load 15 = .ok (.iconst (-1), 1) := dc_2 (by decide +kernel)
theorem dX12_load_16 : decode cX12_load 16 = .ok (.ireturn, 1) := dc_172 (by decide +kernel)
theorem dX12_load_17 : decode cX12_load 17 = .ok (.aload_n 0, 1) := dc_42 (by decide +kernel)
theorem dX12_load_18 : decode cX12_load 18 = .ok (.invokevirtual 226, 3) := dc_182 (a := 0) (b := 226) (by decide +kernel)
theorem dX12_load_21 : decode cX12_load 21 = .ok (.aload_n 0, 1) := dc_42 (by decide +kernel)
theorem dX12_load_22 : decode cX12_load 22 = .ok (.aload_n 0, 1) := dc_42 (by decide +kernel)
theorem dX12_load_23 : decode cX12_load 23 = .ok (.iload_n 1, 1) := dc_27 (by decide +kernel)
theorem dX12_load_24 : decode cX12_load 24 = .ok (.iconst 1, 1) := dc_4 (by decide +kernel)
theorem dX12_load_25 : decode cX12_load 25 = .ok (.invokevirtual 293, 3) := dc_182 (a := 1) (b := 37) (by decide +kernel)
theorem dX12_load_28 : decode cX12_load 28 = .ok (.invokevirtual 236, 3) := dc_182 (a := 0) (b := 236) (by decide +kernel)
theorem dX12_load_31 : decode cX12_load 31 = .ok (.ifCond .eq 6, 3) := dc_153 (a := 0) (b := 6) (by decide +kernel) (by decide)
theorem dX12_load_34 : decode cX12_load 34 = .ok (.bipush (-2), 2) := dc_16 (a := 254) (by decide +kernel) (by decide)
theorem dX12_load_36 : decode cX12_load 36 = .ok (.ireturn, 1) := dc_172 (by decide +kernel)
theorem dX12_load_37 : decode cX12_load 37 = .ok (.iload_n 3, 1) := dc_29 (by decide +kernel)
theorem dX12_load_38 : decode cX12_load 38 = .ok (.ifCond .ge 9, 3) := dc_156 (a := 0) (b := 9) (by decide +kernel) (by decide)
theorem dX12_load_41 : decode cX12_load 41 = .ok (.aload_n 0, 1) := dc_42 (by decide +kernel)
theorem dX12_load_42 : decode cX12_load 42 = .ok (.iconst 5, 1) := dc_8 (by decide +kernel)
theorem dX12_load_43 : decode cX12_load 43 = .ok (.invokevirtual 210, 3) := dc_182 (a := 0) (b := 210) (by decide +kernel)
theorem dX12_load_46 : decode cX12_load 46 = .ok (.ireturn, 1) := dc_172 (by decide +kernel)
theorem dX12_load_47 : decode cX12_load 47 = .ok (.aload_n 0, 1) := dc_42 (by decide +kernel)
theorem dX12_load_48 : decode cX12_load 48 = .ok (.getfield 120, 3) := dc_180 (a := 0) (b := 120) (by decide +kernel)
theorem dX12_load_51 : decode cX12_load 51 = .ok (.iload_n 1, 1) := dc_27 (by decide +kernel)
theorem dX12_load_52 : decode cX12_load 52 = .ok (.iload_n 3, 1) := dc_29 (by decide +kernel)
theorem dX12_load_53 : decode cX12_load 53 = .ok (.iastore, 1) := dc_79 (by decide +kernel)
theorem dX12_load_54 : decode cX12_load 54 = .ok (.aload_n 0, 1) := dc_42 (by decide +kernel)
theorem dX12_load_55 : decode cX12_load 55 = .ok (.getfield 123, 3) := dc_180 (a := 0) (b := 123) (by decide +kernel)
theorem dX12_load_58 : decode cX12_load 58 = .ok (.iload_n 1, 1) := dc_27 (by decide +kernel)
theorem dX12_load_59 : decode cX12_load 59 = .ok (.iload_n 2, 1) := dc_28 (by decide +kernel)
theorem dX12_load_60 : decode cX12_load 60 = .ok (.iastore, 1) := dc_79 (by decide +kernel)
theorem dX12_load_61 : decode cX12_load 61 = .ok (.iconst 0, 1) := dc_3 (by decide +kernel)
theorem dX12_load_62 : decode cX12_load 62 = .ok (.istore 4, 2) := dc_54 (a := 4) (by decide +kernel)
theorem dX12_load_64 : decode cX12_load 64 = .ok (.iload 4, 2) := dc_21 (a := 4) (by decide +kernel)
theorem dX12_load_66 : decode cX12_load 66 = .ok (.bipush 20, 2) := dc_16 (a := 20) (by decide +kernel) (by decide)
theorem dX12_load_68 : decode cX12_load 68 = .ok (.if_icmp .ge 22, 3) := dc_162 (a := 0) (b := 22) (by decide +kernel) (by decide)
theorem dX12_load_71 : decode cX12_load 71 = .ok (.aload_n 0, 1) := dc_42 (by decide +kernel)
theorem dX12_load_72 : decode cX12_load 72 = .ok (.getfield 126, 3) := dc_180 (a := 0) (b := 126) (by decide +kernel)
theorem dX12_load_75 : decode cX12_load 75 = .ok (.bipush 20, 2) := dc_16 (a := 20) (by decide +kernel) (by decide)
theorem dX12_load_77 : decode cX12_load 77 = .ok (.iload_n 1, 1) := dc_27 (by decide +kernel)
theorem dX12_load_78 : decode cX12_load 78 = .ok (.imul, 1) := dc_104 (by decide +kernel)
theorem dX12_load_79 : decode cX12_load 79 = .ok (.iload 4, 2) := dc_21 (a := 4) (by decide +kernel)
theorem dX12_load_81 : decode cX12_load 81 = .ok (.iadd, 1) := dc_96 (by decide +kernel)
theorem dX12_load_82 : decode cX12_load 82 = .ok (.iconst 0, 1) := dc_3 (by decide +kernel)
theorem dX12_load_83 : decode cX12_load 83 = .ok (.iastore, 1) := dc_79 (by decide +kernel)
theorem dX12_load_84 : decode cX12_load 84 = .ok (.iinc 4 1, 3) := dc_132 (a := 4) (b := 1) (by decide +kernel) (by decide)
theorem dX12_load_87 : decode cX12_load 87 = .ok (.goto (-23), 3) := dc_167 (a := 255) (b := 233) (by decide +kernel) (by decide)
theorem dX12_load_90 : decode cX12_load 90 = .ok (.iload_n 3, 1) := dc_29 (by decide +kernel)
theorem dX12_load_91 : decode cX12_load 91 = .ok (.ireturn, 1) := dc_172 (by decide +kernel)
set_option maxRecDepth 100000 in
set_option maxHeartbeats 4000000 in
theorem w_M_load_L64 {p : Program} {l : Launch} {e : Env} {R : Room} {s : State} {m : MethodId} {args : Array Value} {below : List Frame} {meth : Method} {c : Code} {dC : Nat → ClassId} {dI : Nat → Nat → Nat} {cs : Nat → ClassId} {ad : Nat → Nat} {A : Nat → Prop} {D0 : Nat → Nat} {S' : SS} {r : Int32} (F : Fx p s m args meth c cX12_load 5 RX12 (some .int) dC dI cs A) (hR1 : 0 ≤ R.frames) (hR2 : 0 ≤ R.locals) : ∀ (n : Nat) (x1 : Int32) (x3 : Int32) (x4 : Int32) (S : SS), f_M_load_L64 n x1 x3 x4 S = some (r, S') → AW p l e R s m args below meth c dC dI cs ad A D0 (some (.int r)) S' 5 64 [(0, .ref (ad 0)), (1, .int x1), (3, .int x3), (4, .int x4)] [] S := by
  have hx := F.1.1
  have hb := F.1.2.1
  intro n
  induction n with
  | zero => intro x1 x3 x4 S h; cases h
  | succ n ih =>
    intro x1 x3 x4 S h H locs ls w hl
    rw [f_M_load_L64] at h
    refine lv_iload (pc := 64) hx hb dX12_load_64 (lv_at hl 3 rfl) ?_
    refine lv_bipush (pc := 66) (v := 20) hx hb dX12_load_66 (by decide) ?_
    refine lv_icmp_ge (pc := 68) (tgt := 90) hx hb dX12_load_68 (by decide) (fun q => ?_) (fun q => ?_)
    · have h := ite_t q h
      refine lv_iload_n (pc := 90) hx hb dX12_load_90 rfl (lv_at hl 2 rfl) ?_
      exact s_iret F w h dX12_load_91
    · have h := ite_f q h
      refine lv_aload_n (pc := 71) hx hb dX12_load_71 rfl (lv_at hl 0 rfl) ?_
      refine s_getR (pc := 72) F w 37 ds_0 (j := 52) vc_X12 vi_X12 rfl (by decide) kf_X12_126 dX12_load_72 ?_
      refine lv_bipush (pc := 75) (v := 20) hx hb dX12_load_75 (by decide) ?_
      refine lv_iload_n (pc := 77) hx hb dX12_load_77 rfl (lv_at hl 1 rfl) ?_
      refine lv_imul (pc := 78) hx hb dX12_load_78 ?_
      refine lv_iload (pc := 79) hx hb dX12_load_79 (lv_at hl 3 rfl) ?_
      refine lv_iadd (pc := 81) hx hb dX12_load_81 ?_
      refine lv_iconst (pc := 82) (v := 0) hx hb dX12_load_82 (by decide) ?_
      refine s_iast (pc := 83) F w ds_37 h dX12_load_83 (fun S8 H locs h w => ?_)
      refine s_nm h (fun z9 ez9 h => ?_)
      refine lv_iinc (pc := 84) (v := z9) (lv' := [(4, .int z9), (0, .ref (ad 0)), (1, .int x1), (3, .int x3)]) hx hb dX12_load_84 hl (k := 3) rfl (by rw [ez9]; rfl) (by decide) rfl (fun ls hl => ?_)
      refine lv_goto (pc := 87) (tgt := 64) hx hb dX12_load_87 (by decide) ?_
      exact ih _ _ _ _ h _ _ _ w (lv_sub hl [1, 2, 3, 0] rfl)
set_option maxRecDepth 100000 in
set_option maxHeartbeats 4000000 in
theorem m_M_load (a1 : Int32) (a2 : Int32) (a3 : Int32) (S S' : SS) (r : Int32) (h : f_M_load a1 a2 a3 S = some (r, S')) : MT yX12_load cX12_load 5 (some .int) 2 45 (fun ad => [.ref (ad 0), .int a1, .int a2, .int a3]) S (some (.int r)) S' := by
  refine MT.of RX12 (fun ad => [(0, .ref (ad 0)), (1, .int a1), (2, .int a2), (3, .int a3)]) (by decide) rfl (fun _ => Nat.le_of_ble_eq_true rfl) (fun _ => rfl) ?_
  intro p l e R s m args below meth c dC dI cs ad A hR1 hR2 F H locs ls w hl
  have hx := F.1.1
  have hb := F.1.2.1
  rw [f_M_load] at h
  refine lv_iload_n (pc := 0) hx hb dX12_load_0 rfl (lv_at hl 2 rfl) ?_
  refine lv_if_lt (pc := 1) (tgt := 15) hx hb dX12_load_1 (by decide) (fun q => ?_) (fun q => ?_)
  · have h := ite_t q h
    refine lv_iconst (pc := 15) (v := -1) hx hb dX12_load_15 (by decide) ?_
    exact s_iret F w h dX12_load_16
  · have h := ite_f q h
    refine lv_iload_n (pc := 4) hx hb dX12_load_4 rfl (lv_at hl 2 rfl) ?_
    refine lv_iconst (pc := 5) (v := 1) hx hb dX12_load_5 (by decide) ?_
    refine lv_icmp_gt (pc := 6) (tgt := 15) hx hb dX12_load_6 (by decide) (fun q => ?_) (fun q => ?_)
    · have h := ite_t q h
      refine lv_iconst (pc := 15) (v := -1) hx hb dX12_load_15 (by decide) ?_
      exact s_iret F w h dX12_load_16
    · have h := ite_f q h
      refine lv_iload_n (pc := 9) hx hb dX12_load_9 rfl (lv_at hl 3 rfl) ?_
      refine lv_bipush (pc := 10) (v := 20) hx hb dX12_load_10 (by decide) ?_
      refine lv_icmp_le (pc := 12) (tgt := 17) hx hb dX12_load_12 (by decide) (fun q => ?_) (fun q => ?_)
      · have h := ite_t q h
        refine lv_aload_n (pc := 17) hx hb dX12_load_17 rfl (lv_at hl 0 rfl) ?_
        obtain ⟨S1, hc, h⟩ := bndv_t h
        refine s_cvv (pc := 18) [] (fun ad => [.ref (ad 0)]) F w (m_M_begin  _ _ hc) rfl rfl hl.1 ds_0 vc_X12 rfl ok_X12_begin rfl kc_X12_begin kl_X12_226 ki_X12_begin kv_X12_begin kn_X12 ⟨Nat.le_trans (by decide) hR1, Nat.le_trans (by decide) hR2⟩ ⟨Nat.zero_le _, Nat.zero_le _⟩ (Nat.le_of_ble_eq_true rfl) dX12_load_18 (fun H locs w => ?_)
        refine lv_aload_n (pc := 21) hx hb dX12_load_21 rfl (lv_at hl 0 rfl) ?_
        refine lv_aload_n (pc := 22) hx hb dX12_load_22 rfl (lv_at hl 0 rfl) ?_
        refine lv_iload_n (pc := 23) hx hb dX12_load_23 rfl (lv_at hl 1 rfl) ?_
        refine lv_iconst (pc := 24) (v := 1) hx hb dX12_load_24 (by decide) ?_
        obtain ⟨r3, S2, hc, h⟩ := bnd_t h
        refine s_cvi (pc := 25) [.int a1, .int (1 : Int32)] (fun ad => [.ref (ad 0), .int a1, .int (1 : Int32)]) F w (m_M_missThing _ _ _ _ _ hc) rfl rfl hl.1 ds_0 vc_X12 rfl ok_X12_missThing rfl kc_X12_missThing kl_X12_293 ki_X12_missThing kv_X12_missThing kn_X12 ⟨Nat.le_trans (by decide) hR1, Nat.le_trans (by decide) hR2⟩ ⟨Nat.zero_le _, Nat.zero_le _⟩ (Nat.le_of_ble_eq_true rfl) dX12_load_25 (fun H locs w => ?_)
        obtain ⟨r5, S4, hc, h⟩ := bnd_t h
        refine s_cvi (pc := 28) [.int r3] (fun ad => [.ref (ad 0), .int r3]) F w (m_M_ends _ _ _ _ hc) rfl rfl hl.1 ds_0 vc_X12 rfl ok_X12_ends rfl kc_X12_ends kl_X12_236 ki_X12_ends kv_X12_ends kn_X12 ⟨Nat.le_trans (by decide) hR1, Nat.le_trans (by decide) hR2⟩ ⟨Nat.zero_le _, Nat.zero_le _⟩ (Nat.le_of_ble_eq_true rfl) dX12_load_28 (fun H locs w => ?_)
        refine lv_if_eq (pc := 31) (tgt := 37) hx hb dX12_load_31 (by decide) (fun q => ?_) (fun q => ?_)
        · have h := ite_t q h
          refine lv_iload_n (pc := 37) hx hb dX12_load_37 rfl (lv_at hl 3 rfl) ?_
          refine lv_if_ge (pc := 38) (tgt := 47) hx hb dX12_load_38 (by decide) (fun q => ?_) (fun q => ?_)
          · have h := ite_t q h
            refine lv_aload_n (pc := 47) hx hb dX12_load_47 rfl (lv_at hl 0 rfl) ?_
            refine s_getR (pc := 48) F w 35 ds_0 (j := 50) vc_X12 vi_X12 rfl (by decide) kf_X12_120 dX12_load_48 ?_
            refine lv_iload_n (pc := 51) hx hb dX12_load_51 rfl (lv_at hl 1 rfl) ?_
            refine lv_iload_n (pc := 52) hx hb dX12_load_52 rfl (lv_at hl 3 rfl) ?_
            refine s_iast (pc := 53) F w ds_35 h dX12_load_53 (fun S6 H locs h w => ?_)
            refine lv_aload_n (pc := 54) hx hb dX12_load_54 rfl (lv_at hl 0 rfl) ?_
            refine s_getR (pc := 55) F w 36 ds_0 (j := 51) vc_X12 vi_X12 rfl (by decide) kf_X12_123 dX12_load_55 ?_
            refine lv_iload_n (pc := 58) hx hb dX12_load_58 rfl (lv_at hl 1 rfl) ?_
            refine lv_iload_n (pc := 59) hx hb dX12_load_59 rfl (lv_at hl 2 rfl) ?_
            refine s_iast (pc := 60) F w ds_36 h dX12_load_60 (fun S7 H locs h w => ?_)
            refine lv_iconst (pc := 61) (v := 0) hx hb dX12_load_61 (by decide) ?_
            refine lv_istore (pc := 62) (lv' := [(4, .int (0 : Int32)), (0, .ref (ad 0)), (1, .int a1), (2, .int a2), (3, .int a3)]) hx hb dX12_load_62 hl (by decide) rfl (fun ls hl => ?_)
            exact w_M_load_L64 F (Nat.le_trans (by decide) hR1) (Nat.le_trans (by decide) hR2) _ _ _ _ _ h _ _ _ w (lv_sub hl [1, 2, 4, 0] rfl)
          · have h := ite_f q h
            refine lv_aload_n (pc := 41) hx hb dX12_load_41 rfl (lv_at hl 0 rfl) ?_
            refine lv_iconst (pc := 42) (v := 5) hx hb dX12_load_42 (by decide) ?_
            obtain ⟨r11, S10, hc, h⟩ := bnd_t h
            refine s_cvi (pc := 43) [.int (5 : Int32)] (fun ad => [.ref (ad 0), .int (5 : Int32)]) F w (m_M_found _ _ _ _ hc) rfl rfl hl.1 ds_0 vc_X12 rfl ok_X12_found rfl kc_X12_found kl_X12_210 ki_X12_found kv_X12_found kn_X12 ⟨Nat.le_trans (by decide) hR1, Nat.le_trans (by decide) hR2⟩ ⟨Nat.zero_le _, Nat.zero_le _⟩ (Nat.le_of_ble_eq_true rfl) dX12_load_43 (fun H locs w => ?_)
            exact s_iret F w h dX12_load_46
        · have h := ite_f q h
          refine lv_bipush (pc := 34) (v := -2) hx hb dX12_load_34 (by decide) ?_
          exact s_iret F w h dX12_load_36
      · have h := ite_f q h
        refine lv_iconst (pc := 15) (v := -1) hx hb dX12_load_15 (by decide) ?_
        exact s_iret F w h dX12_load_16
def f_M_piece_j101   (S : SS) : Option (Int32 × SS) :=
    bnd (f_M_found (3 : Int32) S) (fun r7 S6 =>
    some (r7, S6))
def f_M_piece_j70  (x1 : Int32) (x2 : Int32) (x4 : Int32) (S : SS) : Option (Int32 × SS) :=
    grd (inb x1 72) (
    if (S.1 35 x1.toNatClampNeg) = (-4 : Int32) then
      bnd (f_M_found (1 : Int32) S) (fun r10 S9 =>
      some (r10, S9))
    else
      if x2 < 0 then
        f_M_piece_j101  S
      else
        grd (inb x1 72) (
        if x2 < (S.1 35 x1.toNatClampNeg) then
          grd (inb (((20 : Int32) * x1) + x2) 1440) (wr S 37 (((20 : Int32) * x1) + x2).toNatClampNeg x4 (fun S8 =>
          some ((1 : Int32), S8)))
        else
          f_M_piece_j101  S))
def f_M_piece (a1 : Int32) (a2 : Int32) (a3 : Int32) (a4 : Int32) (S : SS) : Option (Int32 × SS) :=
  if a3 < 0 then
    some ((-1 : Int32), S)
  else
    if (1 : Int32) < a3 then
      some ((-1 : Int32), S)
    else
      if a4 < 0 then
        some ((-1 : Int32), S)
      else
        if a4 ≤ (120 : Int32) then
          bndv (f_M_begin  S) (fun S1 =>
          bnd (f_M_missThing a1 (1 : Int32) S1) (fun r3 S2 =>
          bnd (f_M_ends r3 S2) (fun r5 S4 =>
          if r5 = 0 then
            grd (inb a1 72) (
            if (S4.1 35 a1.toNatClampNeg) = (-4 : Int32) then
              f_M_piece_j70 a1 a2 a4 S4
            else
              grd (inb a1 72) (
              if (S4.1 36 a1.toNatClampNeg) = a3 then
                f_M_piece_j70 a1 a2 a4 S4
              else
                bnd (f_M_found (2 : Int32) S4) (fun r12 S11 =>
                some (r12, S11))))
          else
            some ((-2 : Int32), S4))))
        else
          some ((-1 : Int32), S)
theorem dX12_piece_0 : decode cX12_piece 0 = .ok (.iload_n 3, 1) := dc_29 (by decide +kernel)
theorem dX12_piece_1 : decode cX12_piece 1 = .ok (.ifCond .lt 20, 3) := dc_155 (a := 0) (b := 20) (by decide +kernel) (by decide)
theorem dX12_piece_4 : decode cX12_piece 4 = .ok (.iload_n 3, 1) := dc_29 (by decide +kernel)
theorem dX12_piece_5 : decode cX12_piece 5 = .ok (.iconst 1, 1) := dc_4 (by decide +kernel)
theorem dX12_piece_6 : decode cX12_piece 6 = .ok (.if_icmp .gt 15, 3) := dc_163 (a := 0) (b := 15) (by decide +kernel) (by decide)
theorem dX12_piece_9 : decode cX12_piece 9 = .ok (.iload 4, 2) := dc_21 (a := 4) (by decide +kernel)
theorem dX12_piece_11 : decode cX12_piece 11 = .ok (.ifCond .lt 10, 3) := dc_155 (a := 0) (b := 10) (by decide +kernel) (by decide)
theorem dX12_piece_14 : decode cX12_piece 14 = .ok (.iload 4, 2) := dc_21 (a := 4) (by decide +kernel)
theorem dX12_piece_16 : decode cX12_piece 16 = .ok (.bipush 120, 2) := dc_16 (a := 120) (by decide +kernel) (by decide)
theorem dX12_piece_18 : decode cX12_piece 18 = .ok (.if_icmp .le 5, 3) := dc_164 (a := 0) (b := 5) (by decide +kernel) (by decide)
theorem dX12_piece_21 : decode cX12_piece 21 = .ok (.iconst (-1), 1) := dc_2 (by decide +kernel)
theorem dX12_piece_22 : decode cX12_piece 22 = .ok (.ireturn, 1) := dc_172 (by decide +kernel)
theorem dX12_piece_23 : decode cX12_piece 23 = .ok (.aload_n 0, 1) := dc_42 (by decide +kernel)
theorem dX12_piece_24 : decode cX12_piece 24 = .ok (.invokevirtual 226, 3) := dc_182 (a := 0) (b := 226) (by decide +kernel)
theorem dX12_piece_27 : decode cX12_piece 27 = .ok (.aload_n 0, 1) := dc_42 (by decide +kernel)
theorem dX12_piece_28 : decode cX12_piece 28 = .ok (.aload_n 0, 1) := dc_42 (by decide +kernel)
theorem dX12_piece_29 : decode cX12_piece 29 = .ok (.iload_n 1, 1) := dc_27 (by decide +kernel)
theorem dX12_piece_30 : decode cX12_piece 30 = .ok (.iconst 1, 1) := dc_4 (by decide +kernel)
theorem dX12_piece_31 : decode cX12_piece 31 = .ok (.invokevirtual 293, 3) := dc_182 (a := 1) (b := 37) (by decide +kernel)
theorem dX12_piece_34 : decode cX12_piece 34 = .ok (.invokevirtual 236, 3) := dc_182 (a := 0) (b := 236) (by decide +kernel)
theorem dX12_piece_37 : decode cX12_piece 37 = .ok (.ifCond .eq 6, 3) := dc_153 (a := 0) (b := 6) (by decide +kernel) (by decide)
theorem dX12_piece_40 : decode cX12_piece 40 = .ok (.bipush (-2), 2) := dc_16 (a := 254) (by decide +kernel) (by decide)
theorem dX12_piece_42 : decode cX12_piece 42 = .ok (.ireturn, 1) := dc_172 (by decide +kernel)
theorem dX12_piece_43 : decode cX12_piece 43 = .ok (.aload_n 0, 1) := dc_42 (by decide +kernel)
theorem dX12_piece_44 : decode cX12_piece 44 = .ok (.getfield 120, 3) := dc_180 (a := 0) (b := 120) (by decide +kernel)
theorem dX12_piece_47 : decode cX12_piece 47 = .ok (.iload_n 1, 1) := dc_27 (by decide +kernel)
theorem dX12_piece_48 : decode cX12_piece 48 = .ok (.iaload, 1) := dc_46 (by decide +kernel)
theorem dX12_piece_49 : decode cX12_piece 49 = .ok (.bipush (-4), 2) := dc_16 (a := 252) (by decide +kernel) (by decide)
theorem dX12_piece_51 : decode cX12_piece 51 = .ok (.if_icmp .eq 19, 3) := dc_159 (a := 0) (b := 19) (by decide +kernel) (by decide)
theorem dX12_piece_54 : decode cX12_piece 54 = .ok (.aload_n 0, 1) := dc_42 (by decide +kernel)
theorem dX12_piece_55 : decode cX12_piece 55 = .ok (.getfield 123, 3) := dc_180 (a := 0) (b := 123) (by decide +kernel)
theorem dX12_piece_58 : decode cX12_piece 58 = .ok (.iload_n 1, 1) := dc_27 (by decide +kernel)
theorem dX12_piece_59 : decode cX12_piece 59 = .ok (.iaload, 1) := dc_46 (by decide +kernel)
theorem dX12_piece_60 : decode cX12_piece 60 = .ok (.iload_n 3, 1) := dc_29 (by decide +kernel)
theorem dX12_piece_61 : decode cX12_piece 61 = .ok (.if_icmp .eq 9, 3) := dc_159 (a := 0) (b := 9) (by decide +kernel) (by decide)
theorem dX12_piece_64 : decode cX12_piece 64 = .ok (.aload_n 0, 1) := dc_42 (by decide +kernel)
theorem dX12_piece_65 : decode cX12_piece 65 = .ok (.iconst 2, 1) := dc_5 (by decide +kernel)
theorem dX12_piece_66 : decode cX12_piece 66 = .ok (.invokevirtual 210, 3) := dc_182 (a := 0) (b := 210) (by decide +kernel)
theorem dX12_piece_69 : decode cX12_piece 69 = .ok (.ireturn, 1) := dc_172 (by decide +kernel)
theorem dX12_piece_70 : decode cX12_piece 70 = .ok (.aload_n 0, 1) := dc_42 (by decide +kernel)
theorem dX12_piece_71 : decode cX12_piece 71 = .ok (.getfield 120, 3) := dc_180 (a := 0) (b := 120) (by decide +kernel)
theorem dX12_piece_74 : decode cX12_piece 74 = .ok (.iload_n 1, 1) := dc_27 (by decide +kernel)
theorem dX12_piece_75 : decode cX12_piece 75 = .ok (.iaload, 1) := dc_46 (by decide +kernel)
theorem dX12_piece_76 : decode cX12_piece 76 = .ok (.bipush (-4), 2) := dc_16 (a := 252) (by decide +kernel) (by decide)
theorem dX12_piece_78 : decode cX12_piece 78 = .ok (.if_icmp .ne 9, 3) := dc_160 (a := 0) (b := 9) (by decide +kernel) (by decide)
theorem dX12_piece_81 : decode cX12_piece 81 = .ok (.aload_n 0, 1) := dc_42 (by decide +kernel)
theorem dX12_piece_82 : decode cX12_piece 82 = .ok (.iconst 1, 1) := dc_4 (by decide +kernel)
theorem dX12_piece_83 : decode cX12_piece 83 = .ok (.invokevirtual 210, 3) := dc_182 (a := 0) (b := 210) (by decide +kernel)
theorem dX12_piece_86 : decode cX12_piece 86 = .ok (.ireturn, 1) := dc_172 (by decide +kernel)
theorem dX12_piece_87 : decode cX12_piece 87 = .ok (.iload_n 2, 1) := dc_28 (by decide +kernel)
theorem dX12_piece_88 : decode cX12_piece 88 = .ok (.ifCond .lt 13, 3) := dc_155 (a := 0) (b := 13) (by decide +kernel) (by decide)
theorem dX12_piece_91 : decode cX12_piece 91 = .ok (.iload_n 2, 1) := dc_28 (by decide +kernel)
theorem dX12_piece_92 : decode cX12_piece 92 = .ok (.aload_n 0, 1) := dc_42 (by decide +kernel)
theorem dX12_piece_93 : decode cX12_piece 93 = .ok (.getfield 120, 3) := dc_180 (a := 0) (b := 120) (by decide +kernel)
theorem dX12_piece_96 : decode cX12_piece 96 = .ok (.iload_n 1, 1) := dc_27 (by decide +kernel)
theorem dX12_piece_97 : decode cX12_piece 97 = .ok (.iaload, 1) := dc_46 (by decide +kernel)
theorem dX12_piece_98 : decode cX12_piece 98 = .ok (.if_icmp .lt 9, 3) := dc_161 (a := 0) (b := 9) (by decide +kernel) (by decide)
theorem dX12_piece_101 : decode cX12_piece 101 = .ok (.aload_n 0, 1) := dc_42 (by decide +kernel)
theorem dX12_piece_102 : decode cX12_piece 102 = .ok (.iconst 3, 1) := dc_6 (by decide +kernel)
theorem dX12_piece_103 : decode cX12_piece 103 = .ok (.invokevirtual 210, 3) := dc_182 (a := 0) (b := 210) (by decide +kernel)
theorem dX12_piece_106 : decode cX12_piece 106 = .ok (.ireturn, 1) := dc_172 (by decide +kernel)
theorem dX12_piece_107 : decode cX12_piece 107 = .ok (.aload_n 0, 1) := dc_42 (by decide +kernel)
theorem dX12_piece_108 : decode cX12_piece 108 = .ok (.getfield 126, 3) := dc_180 (a := 0) (b := 126) (by decide +kernel)
theorem dX12_piece_111 : decode cX12_piece 111 = .ok (.bipush 20, 2) := dc_16 (a := 20) (by decide +kernel) (by decide)
theorem dX12_piece_113 : decode cX12_piece 113 = .ok (.iload_n 1, 1) := dc_27 (by decide +kernel)
theorem dX12_piece_114 : decode cX12_piece 114 = .ok (.imul, 1) := dc_104 (by decide +kernel)
theorem dX12_piece_115 : decode cX12_piece 115 = .ok (.iload_n 2, 1) := dc_28 (by decide +kernel)
theorem dX12_piece_116 : decode cX12_piece 116 = .ok (.iadd, 1) := dc_96 (by decide +kernel)
theorem dX12_piece_117 : decode cX12_piece 117 = .ok (.iload 4, 2) := dc_21 (a := 4) (by decide +kernel)
theorem dX12_piece_119 : decode cX12_piece 119 = .ok (.iastore, 1) := dc_79 (by decide +kernel)
theorem dX12_piece_120 : decode cX12_piece 120 = .ok (.iconst 1, 1) := dc_4 (by decide +kernel)
theorem dX12_piece_121 : decode cX12_piece 121 = .ok (.ireturn, 1) := dc_172 (by decide +kernel)
set_option maxRecDepth 100000 in
set_option maxHeartbeats 4000000 in
theorem w_M_piece_j101 {p : Program} {l : Launch} {e : Env} {R : Room} {s : State} {m : MethodId} {args : Array Value} {below : List Frame} {meth : Method} {c : Code} {dC : Nat → ClassId} {dI : Nat → Nat → Nat} {cs : Nat → ClassId} {ad : Nat → Nat} {A : Nat → Prop} {D0 : Nat → Nat} {S' : SS} {r : Int32} (F : Fx p s m args meth c cX12_piece 5 RX12 (some .int) dC dI cs A) (hR1 : 1 ≤ R.frames) (hR2 : 21 ≤ R.locals)  (S : SS) (h : f_M_piece_j101  S = some (r, S')) : AW p l e R s m args below meth c dC dI cs ad A D0 (some (.int r)) S' 5 101 [(0, .ref (ad 0))] [] S := by
  have hx := F.1.1
  have hb := F.1.2.1
  intro H locs ls w hl
  rw [f_M_piece_j101] at h
  refine lv_aload_n (pc := 101) hx hb dX12_piece_101 rfl (lv_at hl 0 rfl) ?_
  refine lv_iconst (pc := 102) (v := 3) hx hb dX12_piece_102 (by decide) ?_
  obtain ⟨r7, S6, hc, h⟩ := bnd_t h
  refine s_cvi (pc := 103) [.int (3 : Int32)] (fun ad => [.ref (ad 0), .int (3 : Int32)]) F w (m_M_found _ _ _ _ hc) rfl rfl hl.1 ds_0 vc_X12 rfl ok_X12_found rfl kc_X12_found kl_X12_210 ki_X12_found kv_X12_found kn_X12 ⟨Nat.le_trans (by decide) hR1, Nat.le_trans (by decide) hR2⟩ ⟨Nat.zero_le _, Nat.zero_le _⟩ (Nat.le_of_ble_eq_true rfl) dX12_piece_103 (fun H locs w => ?_)
  exact s_iret F w h dX12_piece_106
set_option maxRecDepth 100000 in
set_option maxHeartbeats 4000000 in
theorem w_M_piece_j70 {p : Program} {l : Launch} {e : Env} {R : Room} {s : State} {m : MethodId} {args : Array Value} {below : List Frame} {meth : Method} {c : Code} {dC : Nat → ClassId} {dI : Nat → Nat → Nat} {cs : Nat → ClassId} {ad : Nat → Nat} {A : Nat → Prop} {D0 : Nat → Nat} {S' : SS} {r : Int32} (F : Fx p s m args meth c cX12_piece 5 RX12 (some .int) dC dI cs A) (hR1 : 1 ≤ R.frames) (hR2 : 21 ≤ R.locals) (x1 : Int32) (x2 : Int32) (x4 : Int32) (S : SS) (h : f_M_piece_j70 x1 x2 x4 S = some (r, S')) : AW p l e R s m args below meth c dC dI cs ad A D0 (some (.int r)) S' 5 70 [(0, .ref (ad 0)), (1, .int x1), (2, .int x2), (4, .int x4)] [] S := by
  have hx := F.1.1
  have hb := F.1.2.1
  intro H locs ls w hl
  rw [f_M_piece_j70] at h
  refine lv_aload_n (pc := 70) hx hb dX12_piece_70 rfl (lv_at hl 0 rfl) ?_
  refine s_getR (pc := 71) F w 35 ds_0 (j := 50) vc_X12 vi_X12 rfl (by decide) kf_X12_120 dX12_piece_71 ?_
  refine lv_iload_n (pc := 74) hx hb dX12_piece_74 rfl (lv_at hl 1 rfl) ?_
  refine s_iald (pc := 75) F w ds_35 h dX12_piece_75 (fun h => ?_)
  refine lv_bipush (pc := 76) (v := -4) hx hb dX12_piece_76 (by decide) ?_
  refine lv_icmp_ne (pc := 78) (tgt := 87) hx hb dX12_piece_78 (by decide) (fun q => ?_) (fun q => ?_)
  · have h := ite_f q h
    refine lv_iload_n (pc := 87) hx hb dX12_piece_87 rfl (lv_at hl 2 rfl) ?_
    refine lv_if_lt (pc := 88) (tgt := 101) hx hb dX12_piece_88 (by decide) (fun q => ?_) (fun q => ?_)
    · have h := ite_t q h
      exact w_M_piece_j101 F (Nat.le_trans (by decide) hR1) (Nat.le_trans (by decide) hR2)  _ h _ _ _ w (lv_sub hl [0] rfl)
    · have h := ite_f q h
      refine lv_iload_n (pc := 91) hx hb dX12_piece_91 rfl (lv_at hl 2 rfl) ?_
      refine lv_aload_n (pc := 92) hx hb dX12_piece_92 rfl (lv_at hl 0 rfl) ?_
      refine s_getR (pc := 93) F w 35 ds_0 (j := 50) vc_X12 vi_X12 rfl (by decide) kf_X12_120 dX12_piece_93 ?_
      refine lv_iload_n (pc := 96) hx hb dX12_piece_96 rfl (lv_at hl 1 rfl) ?_
      refine s_iald (pc := 97) F w ds_35 h dX12_piece_97 (fun h => ?_)
      refine lv_icmp_lt (pc := 98) (tgt := 107) hx hb dX12_piece_98 (by decide) (fun q => ?_) (fun q => ?_)
      · have h := ite_t q h
        refine lv_aload_n (pc := 107) hx hb dX12_piece_107 rfl (lv_at hl 0 rfl) ?_
        refine s_getR (pc := 108) F w 37 ds_0 (j := 52) vc_X12 vi_X12 rfl (by decide) kf_X12_126 dX12_piece_108 ?_
        refine lv_bipush (pc := 111) (v := 20) hx hb dX12_piece_111 (by decide) ?_
        refine lv_iload_n (pc := 113) hx hb dX12_piece_113 rfl (lv_at hl 1 rfl) ?_
        refine lv_imul (pc := 114) hx hb dX12_piece_114 ?_
        refine lv_iload_n (pc := 115) hx hb dX12_piece_115 rfl (lv_at hl 2 rfl) ?_
        refine lv_iadd (pc := 116) hx hb dX12_piece_116 ?_
        refine lv_iload (pc := 117) hx hb dX12_piece_117 (lv_at hl 3 rfl) ?_
        refine s_iast (pc := 119) F w ds_37 h dX12_piece_119 (fun S8 H locs h w => ?_)
        refine lv_iconst (pc := 120) (v := 1) hx hb dX12_piece_120 (by decide) ?_
        exact s_iret F w h dX12_piece_121
      · have h := ite_f q h
        exact w_M_piece_j101 F (Nat.le_trans (by decide) hR1) (Nat.le_trans (by decide) hR2)  _ h _ _ _ w (lv_sub hl [0] rfl)
  · have h := ite_t q h
    refine lv_aload_n (pc := 81) hx hb dX12_piece_81 rfl (lv_at hl 0 rfl) ?_
    refine lv_iconst (pc := 82) (v := 1) hx hb dX12_piece_82 (by decide) ?_
    obtain ⟨r10, S9, hc, h⟩ := bnd_t h
    refine s_cvi (pc := 83) [.int (1 : Int32)] (fun ad => [.ref (ad 0), .int (1 : Int32)]) F w (m_M_found _ _ _ _ hc) rfl rfl hl.1 ds_0 vc_X12 rfl ok_X12_found rfl kc_X12_found kl_X12_210 ki_X12_found kv_X12_found kn_X12 ⟨Nat.le_trans (by decide) hR1, Nat.le_trans (by decide) hR2⟩ ⟨Nat.zero_le _, Nat.zero_le _⟩ (Nat.le_of_ble_eq_true rfl) dX12_piece_83 (fun H locs w => ?_)
    exact s_iret F w h dX12_piece_86
set_option maxRecDepth 100000 in
set_option maxHeartbeats 4000000 in
theorem m_M_piece (a1 : Int32) (a2 : Int32) (a3 : Int32) (a4 : Int32) (S S' : SS) (r : Int32) (h : f_M_piece a1 a2 a3 a4 S = some (r, S')) : MT yX12_piece cX12_piece 5 (some .int) 2 45 (fun ad => [.ref (ad 0), .int a1, .int a2, .int a3, .int a4]) S (some (.int r)) S' := by
  refine MT.of RX12 (fun ad => [(0, .ref (ad 0)), (1, .int a1), (2, .int a2), (3, .int a3), (4, .int a4)]) (by decide) rfl (fun _ => Nat.le_of_ble_eq_true rfl) (fun _ => rfl) ?_
  intro p l e R s m args below meth c dC dI cs ad A hR1 hR2 F H locs ls w hl
  have hx := F.1.1
  have hb := F.1.2.1
  rw [f_M_piece] at h
  refine lv_iload_n (pc := 0) hx hb dX12_piece_0 rfl (lv_at hl 3 rfl) ?_
  refine lv_if_lt (pc := 1) (tgt := 21) hx hb dX12_piece_1 (by decide) (fun q => ?_) (fun q => ?_)
  · have h := ite_t q h
    refine lv_iconst (pc := 21) (v := -1) hx hb dX12_piece_21 (by decide) ?_
    exact s_iret F w h dX12_piece_22
  · have h := ite_f q h
    refine lv_iload_n (pc := 4) hx hb dX12_piece_4 rfl (lv_at hl 3 rfl) ?_
    refine lv_iconst (pc := 5) (v := 1) hx hb dX12_piece_5 (by decide) ?_
    refine lv_icmp_gt (pc := 6) (tgt := 21) hx hb dX12_piece_6 (by decide) (fun q => ?_) (fun q => ?_)
    · have h := ite_t q h
      refine lv_iconst (pc := 21) (v := -1) hx hb dX12_piece_21 (by decide) ?_
      exact s_iret F w h dX12_piece_22
    · have h := ite_f q h
      refine lv_iload (pc := 9) hx hb dX12_piece_9 (lv_at hl 4 rfl) ?_
      refine lv_if_lt (pc := 11) (tgt := 21) hx hb dX12_piece_11 (by decide) (fun q => ?_) (fun q => ?_)
      · have h := ite_t q h
        refine lv_iconst (pc := 21) (v := -1) hx hb dX12_piece_21 (by decide) ?_
        exact s_iret F w h dX12_piece_22
      · have h := ite_f q h
        refine lv_iload (pc := 14) hx hb dX12_piece_14 (lv_at hl 4 rfl) ?_
        refine lv_bipush (pc := 16) (v := 120) hx hb dX12_piece_16 (by decide) ?_
        refine lv_icmp_le (pc := 18) (tgt := 23) hx hb dX12_piece_18 (by decide) (fun q => ?_) (fun q => ?_)
        · have h := ite_t q h
          refine lv_aload_n (pc := 23) hx hb dX12_piece_23 rfl (lv_at hl 0 rfl) ?_
          obtain ⟨S1, hc, h⟩ := bndv_t h
          refine s_cvv (pc := 24) [] (fun ad => [.ref (ad 0)]) F w (m_M_begin  _ _ hc) rfl rfl hl.1 ds_0 vc_X12 rfl ok_X12_begin rfl kc_X12_begin kl_X12_226 ki_X12_begin kv_X12_begin kn_X12 ⟨Nat.le_trans (by decide) hR1, Nat.le_trans (by decide) hR2⟩ ⟨Nat.zero_le _, Nat.zero_le _⟩ (Nat.le_of_ble_eq_true rfl) dX12_piece_24 (fun H locs w => ?_)
          refine lv_aload_n (pc := 27) hx hb dX12_piece_27 rfl (lv_at hl 0 rfl) ?_
          refine lv_aload_n (pc := 28) hx hb dX12_piece_28 rfl (lv_at hl 0 rfl) ?_
          refine lv_iload_n (pc := 29) hx hb dX12_piece_29 rfl (lv_at hl 1 rfl) ?_
          refine lv_iconst (pc := 30) (v := 1) hx hb dX12_piece_30 (by decide) ?_
          obtain ⟨r3, S2, hc, h⟩ := bnd_t h
          refine s_cvi (pc := 31) [.int a1, .int (1 : Int32)] (fun ad => [.ref (ad 0), .int a1, .int (1 : Int32)]) F w (m_M_missThing _ _ _ _ _ hc) rfl rfl hl.1 ds_0 vc_X12 rfl ok_X12_missThing rfl kc_X12_missThing kl_X12_293 ki_X12_missThing kv_X12_missThing kn_X12 ⟨Nat.le_trans (by decide) hR1, Nat.le_trans (by decide) hR2⟩ ⟨Nat.zero_le _, Nat.zero_le _⟩ (Nat.le_of_ble_eq_true rfl) dX12_piece_31 (fun H locs w => ?_)
          obtain ⟨r5, S4, hc, h⟩ := bnd_t h
          refine s_cvi (pc := 34) [.int r3] (fun ad => [.ref (ad 0), .int r3]) F w (m_M_ends _ _ _ _ hc) rfl rfl hl.1 ds_0 vc_X12 rfl ok_X12_ends rfl kc_X12_ends kl_X12_236 ki_X12_ends kv_X12_ends kn_X12 ⟨Nat.le_trans (by decide) hR1, Nat.le_trans (by decide) hR2⟩ ⟨Nat.zero_le _, Nat.zero_le _⟩ (Nat.le_of_ble_eq_true rfl) dX12_piece_34 (fun H locs w => ?_)
          refine lv_if_eq (pc := 37) (tgt := 43) hx hb dX12_piece_37 (by decide) (fun q => ?_) (fun q => ?_)
          · have h := ite_t q h
            refine lv_aload_n (pc := 43) hx hb dX12_piece_43 rfl (lv_at hl 0 rfl) ?_
            refine s_getR (pc := 44) F w 35 ds_0 (j := 50) vc_X12 vi_X12 rfl (by decide) kf_X12_120 dX12_piece_44 ?_
            refine lv_iload_n (pc := 47) hx hb dX12_piece_47 rfl (lv_at hl 1 rfl) ?_
            refine s_iald (pc := 48) F w ds_35 h dX12_piece_48 (fun h => ?_)
            refine lv_bipush (pc := 49) (v := -4) hx hb dX12_piece_49 (by decide) ?_
            refine lv_icmp_eq (pc := 51) (tgt := 70) hx hb dX12_piece_51 (by decide) (fun q => ?_) (fun q => ?_)
            · have h := ite_t q h
              exact w_M_piece_j70 F (Nat.le_trans (by decide) hR1) (Nat.le_trans (by decide) hR2) _ _ _ _ h _ _ _ w (lv_sub hl [0, 1, 2, 4] rfl)
            · have h := ite_f q h
              refine lv_aload_n (pc := 54) hx hb dX12_piece_54 rfl (lv_at hl 0 rfl) ?_
              refine s_getR (pc := 55) F w 36 ds_0 (j := 51) vc_X12 vi_X12 rfl (by decide) kf_X12_123 dX12_piece_55 ?_
              refine lv_iload_n (pc := 58) hx hb dX12_piece_58 rfl (lv_at hl 1 rfl) ?_
              refine s_iald (pc := 59) F w ds_36 h dX12_piece_59 (fun h => ?_)
              refine lv_iload_n (pc := 60) hx hb dX12_piece_60 rfl (lv_at hl 3 rfl) ?_
              refine lv_icmp_eq (pc := 61) (tgt := 70) hx hb dX12_piece_61 (by decide) (fun q => ?_) (fun q => ?_)
              · have h := ite_t q h
                exact w_M_piece_j70 F (Nat.le_trans (by decide) hR1) (Nat.le_trans (by decide) hR2) _ _ _ _ h _ _ _ w (lv_sub hl [0, 1, 2, 4] rfl)
              · have h := ite_f q h
                refine lv_aload_n (pc := 64) hx hb dX12_piece_64 rfl (lv_at hl 0 rfl) ?_
                refine lv_iconst (pc := 65) (v := 2) hx hb dX12_piece_65 (by decide) ?_
                obtain ⟨r12, S11, hc, h⟩ := bnd_t h
                refine s_cvi (pc := 66) [.int (2 : Int32)] (fun ad => [.ref (ad 0), .int (2 : Int32)]) F w (m_M_found _ _ _ _ hc) rfl rfl hl.1 ds_0 vc_X12 rfl ok_X12_found rfl kc_X12_found kl_X12_210 ki_X12_found kv_X12_found kn_X12 ⟨Nat.le_trans (by decide) hR1, Nat.le_trans (by decide) hR2⟩ ⟨Nat.zero_le _, Nat.zero_le _⟩ (Nat.le_of_ble_eq_true rfl) dX12_piece_66 (fun H locs w => ?_)
                exact s_iret F w h dX12_piece_69
          · have h := ite_f q h
            refine lv_bipush (pc := 40) (v := -2) hx hb dX12_piece_40 (by decide) ?_
            exact s_iret F w h dX12_piece_42
        · have h := ite_f q h
          refine lv_iconst (pc := 21) (v := -1) hx hb dX12_piece_21 (by decide) ?_
          exact s_iret F w h dX12_piece_22
def f_M_save_L272  : Nat → Int32 → Int32 → SS → Option (SS)
  | 0, _, _, _ => none
  | n + 1, x2, x3, S =>
    if (40 : Int32) ≤ x3 then
      grd (inb x2 18576) (wr S 40 x2.toNatClampNeg (S.1 0 48) (fun S2 =>
      some S2))
    else
      grd (inb x3 40) (
      grd (inb x2 18576) (wr S 40 x2.toNatClampNeg (S.1 10 x3.toNatClampNeg) (fun S3 =>
      grd (inb x3 40) (
      grd (inb (x2 + (1 : Int32)) 18576) (wr S3 40 (x2 + (1 : Int32)).toNatClampNeg (S3.1 11 x3.toNatClampNeg) (fun S4 =>
      nm (x2 + (2 : Int32)) (fun z5 =>
      nm (x3 + (1 : Int32)) (fun z6 =>
      f_M_save_L272 n z5 z6 S4))))))))
def f_M_save_j260 (K8 : Int32 → Int32 → SS → Option (SS)) (x2 : Int32) (x3 : Int32) (y0 : Int32) (y1 : Int32) (S : SS) : Option (SS) :=
    grd (inb y1 18576) (wr S 40 y1.toNatClampNeg y0 (fun S21 =>
    nm (x2 + (15 : Int32)) (fun z22 =>
    nm (x3 + (1 : Int32)) (fun z23 =>
    K8 z22 z23 S21))))
def f_M_save_j207 (K8 : Int32 → Int32 → SS → Option (SS)) (x2 : Int32) (x3 : Int32) (y0 : Int32) (y1 : Int32) (S : SS) : Option (SS) :=
    grd (inb y1 18576) (wr S 40 y1.toNatClampNeg y0 (fun S18 =>
    grd (inb x3 72) (
    grd (inb (x2 + (12 : Int32)) 18576) (wr S18 40 (x2 + (12 : Int32)).toNatClampNeg (S18.1 32 x3.toNatClampNeg) (fun S19 =>
    grd (inb x3 72) (
    grd (inb (x2 + (13 : Int32)) 18576) (wr S19 40 (x2 + (13 : Int32)).toNatClampNeg (S19.1 33 x3.toNatClampNeg) (fun S20 =>
    grd (inb x3 72) (
    if (S20.1 34 x3.toNatClampNeg) = 0 then
      f_M_save_j260 K8 x2 x3 (0 : Int32) (x2 + (14 : Int32)) S20
    else
      f_M_save_j260 K8 x2 x3 (1 : Int32) (x2 + (14 : Int32)) S20)))))))))
def f_M_save_j33 (K8 : Int32 → Int32 → SS → Option (SS)) (x2 : Int32) (x3 : Int32) (y0 : Int32) (y1 : Int32) (S : SS) : Option (SS) :=
    grd (inb y1 18576) (wr S 40 y1.toNatClampNeg y0 (fun S7 =>
    grd (inb x3 72) (
    grd (inb (x2 + (1 : Int32)) 18576) (wr S7 40 (x2 + (1 : Int32)).toNatClampNeg (S7.1 20 x3.toNatClampNeg) (fun S8 =>
    grd (inb x3 72) (
    grd (inb (x2 + (2 : Int32)) 18576) (wr S8 40 (x2 + (2 : Int32)).toNatClampNeg (S8.1 21 x3.toNatClampNeg) (fun S9 =>
    grd (inb x3 72) (
    grd (inb (x2 + (3 : Int32)) 18576) (wr S9 40 (x2 + (3 : Int32)).toNatClampNeg (S9.1 22 x3.toNatClampNeg) (fun S10 =>
    grd (inb ((2 : Int32) * x3) 144) (
    grd (inb (x2 + (4 : Int32)) 18576) (wr S10 40 (x2 + (4 : Int32)).toNatClampNeg (S10.1 23 ((2 : Int32) * x3).toNatClampNeg) (fun S11 =>
    grd (inb (((2 : Int32) * x3) + (1 : Int32)) 144) (
    grd (inb (x2 + (5 : Int32)) 18576) (wr S11 40 (x2 + (5 : Int32)).toNatClampNeg (S11.1 23 (((2 : Int32) * x3) + (1 : Int32)).toNatClampNeg) (fun S12 =>
    grd (inb x3 72) (
    grd (inb (x2 + (6 : Int32)) 18576) (wr S12 40 (x2 + (6 : Int32)).toNatClampNeg (S12.1 24 x3.toNatClampNeg) (fun S13 =>
    grd (inb x3 72) (
    grd (inb (x2 + (7 : Int32)) 18576) (wr S13 40 (x2 + (7 : Int32)).toNatClampNeg (S13.1 25 x3.toNatClampNeg) (fun S14 =>
    grd (inb x3 72) (
    grd (inb (x2 + (8 : Int32)) 18576) (wr S14 40 (x2 + (8 : Int32)).toNatClampNeg (S14.1 26 x3.toNatClampNeg) (fun S15 =>
    grd (inb x3 72) (
    grd (inb (x2 + (9 : Int32)) 18576) (wr S15 40 (x2 + (9 : Int32)).toNatClampNeg (S15.1 27 x3.toNatClampNeg) (fun S16 =>
    grd (inb x3 72) (
    grd (inb (x2 + (10 : Int32)) 18576) (wr S16 40 (x2 + (10 : Int32)).toNatClampNeg (S16.1 30 x3.toNatClampNeg) (fun S17 =>
    grd (inb x3 72) (
    if (S17.1 31 x3.toNatClampNeg) = 0 then
      f_M_save_j207 K8 x2 x3 (0 : Int32) (x2 + (11 : Int32)) S17
    else
      f_M_save_j207 K8 x2 x3 (1 : Int32) (x2 + (11 : Int32)) S17)))))))))))))))))))))))))))))))))
def f_M_save_L8  : Nat → Int32 → Int32 → SS → Option (SS)
  | 0, _, _, _ => none
  | n + 1, x2, x3, S =>
    if (72 : Int32) ≤ x3 then
      f_M_save_L272 NF x2 (0 : Int32) S
    else
      grd (inb x3 72) (
      if (S.1 19 x3.toNatClampNeg) = 0 then
        f_M_save_j33 (fun v0 v1 S => f_M_save_L8 n v0 v1 S) x2 x3 (0 : Int32) x2 S
      else
        f_M_save_j33 (fun v0 v1 S => f_M_save_L8 n v0 v1 S) x2 x3 (1 : Int32) x2 S)
def f_M_save (a1 : Int32) (S : SS) : Option (SS) :=
  nm ((1161 : Int32) * a1) (fun z1 =>
  f_M_save_L8 NF z1 (0 : Int32) S)
theorem dX12_save_0 : decode cX12_save 0 = .ok (.sipush 1161, 3) := dc_17 (a := 4) (b := 137) (by decide +kernel) (by decide)
theorem dX12_save_3 : decode cX12_save 3 = .ok (.iload_n 1, 1) := dc_27 (by decide +kernel)
theorem dX12_save_4 : decode cX12_save 4 = .ok (.imul, 1) := dc_104 (by decide +kernel)
theorem dX12_save_5 : decode cX12_save 5 = .ok (.istore_n 2, 1) := dc_61 (by decide +kernel)
theorem dX12_save_6 : decode cX12_save 6 = .ok (.iconst 0, 1) := dc_3 (by decide +kernel)
theorem dX12_save_7 : decode cX12_save 7 = .ok (.istore_n 3, 1) := dc_62 (by decide +kernel)
theorem dX12_save_8 : decode cX12_save 8 = .ok (.iload_n 3, 1) := dc_29 (by decide +kernel)
theorem dX12_save_9 : decode cX12_save 9 = .ok (.bipush 72, 2) := dc_16 (a := 72) (by decide +kernel) (by decide)
theorem dX12_save_11 : decode cX12_save 11 = .ok (.if_icmp .ge 259, 3) := dc_162 (a := 1) (b := 3) (by decide +kernel) (by decide)
theorem dX12_save_14 : decode cX12_save 14 = .ok (.aload_n 0, 1) := dc_42 (by decide +kernel)
theorem dX12_save_15 : decode cX12_save 15 = .ok (.getfield 135, 3) := dc_180 (a := 0) (b := 135) (by decide +kernel)
theorem dX12_save_18 : decode cX12_save 18 = .ok (.iload_n 2, 1) := dc_28 (by decide +kernel)
theorem dX12_save_19 : decode cX12_save 19 = .ok (.aload_n 0, 1) := dc_42 (by decide +kernel)
theorem dX12_save_20 : decode cX12_save 20 = .ok (.getfield 72, 3) := dc_180 (a := 0) (b := 72) (by decide +kernel)
theorem dX12_save_23 : decode cX12_save 23 = .ok (.iload_n 3, 1) := dc_29 (by decide +kernel)
theorem dX12_save_24 : decode cX12_save 24 = .ok (.baload, 1) := dc_51 (by decide +kernel)
theorem dX12_save_25 : decode cX12_save 25 = .ok (.ifCond .eq 7, 3) := dc_153 (a := 0) (b := 7) (by decide +kernel) (by decide)
theorem dX12_save_28 : decode cX12_save 28 = .ok (.iconst 1, 1) := dc_4 (by decide +kernel)
theorem dX12_save_29 : decode cX12_save 29 = .ok (.goto 4, 3) := dc_167 (a := 0) (b := 4) (by decide +kernel) (by decide)
theorem dX12_save_32 : decode cX12_save 32 = .ok (.iconst 0, 1) := dc_3 (by decide +kernel)
theorem dX12_save_33 : decode cX12_save 33 = .ok (.iastore, 1) := dc_79 (by decide +kernel)
theorem dX12_save_34 : decode cX12_save 34 = .ok (.aload_n 0, 1) := dc_42 (by decide +kernel)
theorem dX12_save_35 : decode cX12_save 35 = .ok (.getfield 135, 3) := dc_180 (a := 0) (b := 135) (by decide +kernel)
theorem dX12_save_38 : decode cX12_save 38 = .ok (.iload_n 2, 1) := dc_28 (by decide +kernel)
theorem dX12_save_39 : decode cX12_save 39 = .ok (.iconst 1, 1) := dc_4 (by decide +kernel)
theorem dX12_save_40 : decode cX12_save 40 = .ok (.iadd, 1) := dc_96 (by decide +kernel)
theorem dX12_save_41 : decode cX12_save 41 = .ok (.aload_n 0, 1) := dc_42 (by decide +kernel)
theorem dX12_save_42 : decode cX12_save 42 = .ok (.getfield 75, 3) := dc_180 (a := 0) (b := 75) (by decide +kernel)
theorem dX12_save_45 : decode cX12_save 45 = .ok (.iload_n 3, 1) := dc_29 (by decide +kernel)
theorem dX12_save_46 : decode cX12_save 46 = .ok (.iaload, 1) := dc_46 (by decide +kernel)
theorem dX12_save_47 : decode cX12_save 47 = .ok (.iastore, 1) := dc_79 (by decide +kernel)
theorem dX12_save_48 : decode cX12_save 48 = .ok (.aload_n 0, 1) := dc_42 (by decide +kernel)
theorem dX12_save_49 : decode cX12_save 49 = .ok (.getfield 135, 3) := dc_180 (a := 0) (b := 135) (by decide +kernel)
theorem dX12_save_52 : decode cX12_save 52 = .ok (.iload_n 2, 1) := dc_28 (by decide +kernel)
theorem dX12_save_53 : decode cX12_save 53 = .ok (.iconst 2, 1) := dc_5 (by decide +kernel)
theorem dX12_save_54 : decode cX12_save 54 = .ok (.iadd, 1) := dc_96 (by decide +kernel)
theorem dX12_save_55 : decode cX12_save 55 = .ok (.aload_n 0, 1) := dc_42 (by decide +kernel)
theorem dX12_save_56 : decode cX12_save 56 = .ok (.getfield 78, 3) := dc_180 (a := 0) (b := 78) (by decide +kernel)
theorem dX12_save_59 : decode cX12_save 59 = .ok (.iload_n 3, 1) := dc_29 (by decide +kernel)
theorem dX12_save_60 : decode cX12_save 60 = .ok (.iaload, 1) := dc_46 (by decide +kernel)
theorem dX12_save_61 : decode cX12_save 61 = .ok (.iastore, 1) := dc_79 (by decide +kernel)
theorem dX12_save_62 : decode cX12_save 62 = .ok (.aload_n 0, 1) := dc_42 (by decide +kernel)
theorem dX12_save_63 : decode cX12_save 63 = .ok (.getfield 135, 3) := dc_180 (a := 0) (b := 135) (by decide +kernel)
theorem dX12_save_66 : decode cX12_save 66 = .ok (.iload_n 2, 1) := dc_28 (by decide +kernel)
theorem dX12_save_67 : decode cX12_save 67 = .ok (.iconst 3, 1) := dc_6 (by decide +kernel)
theorem dX12_save_68 : decode cX12_save 68 = .ok (.iadd, 1) := dc_96 (by decide +kernel)
theorem dX12_save_69 : decode cX12_save 69 = .ok (.aload_n 0, 1) := dc_42 (by decide +kernel)
theorem dX12_save_70 : decode cX12_save 70 = .ok (.getfield 81, 3) := dc_180 (a := 0) (b := 81) (by decide +kernel)
theorem dX12_save_73 : decode cX12_save 73 = .ok (.iload_n 3, 1) := dc_29 (by decide +kernel)
theorem dX12_save_74 : decode cX12_save 74 = .ok (.iaload, 1) := dc_46 (by decide +kernel)
theorem dX12_save_75 : decode cX12_save 75 = .ok (.iastore, 1) := dc_79 (by decide +kernel)
theorem dX12_save_76 : decode cX12_save 76 = .ok (.aload_n 0, 1) := dc_42 (by decide +kernel)
theorem dX12_save_77 : decode cX12_save 77 = .ok (.getfield 135, 3) := dc_180 (a := 0) (b := 135) (by decide +kernel)
theorem dX12_save_80 : decode cX12_save 80 = .ok (.iload_n 2, 1) := dc_28 (by decide +kernel)
theorem dX12_save_81 : decode cX12_save 81 = .ok (.iconst 4, 1) := dc_7 (by decide +kernel)
theorem dX12_save_82 : decode cX12_save 82 = .ok (.iadd, 1) := dc_96 (by decide +kernel)
theorem dX12_save_83 : decode cX12_save 83 = .ok (.aload_n 0, 1) := dc_42 (by decide +kernel)
theorem dX12_save_84 : decode cX12_save 84 = .ok (.getfield 84, 3) := dc_180 (a := 0) (b := 84) (by decide +kernel)
theorem dX12_save_87 : decode cX12_save 87 = .ok (.iconst 2, 1) := dc_5 (by decide +kernel)
theorem dX12_save_88 : decode cX12_save 88 = .ok (.iload_n 3, 1) := dc_29 (by decide +kernel)
theorem dX12_save_89 : decode cX12_save 89 = .ok (.imul, 1) := dc_104 (by decide +kernel)
theorem dX12_save_90 : decode cX12_save 90 = .ok (.iaload, 1) := dc_46 (by decide +kernel)
theorem dX12_save_91 : decode cX12_save 91 = .ok (.iastore, 1) := dc_79 (by decide +kernel)
theorem dX12_save_92 : decode cX12_save 92 = .ok (.aload_n 0, 1) := dc_42 (by decide +kernel)
theorem dX12_save_93 : decode cX12_save 93 = .ok (.getfield 135, 3) := dc_180 (a := 0) (b := 135) (by decide +kernel)
theorem dX12_save_96 : decode cX12_save 96 = .ok (.iload_n 2, 1) := dc_28 (by decide +kernel)
theorem dX12_save_97 : decode cX12_save 97 = .ok (.iconst 5, 1) := dc_8 (by decide +kernel)
theorem dX12_save_98 : decode cX12_save 98 = .ok (.iadd, 1) := dc_96 (by decide +kernel)
theorem dX12_save_99 : decode cX12_save 99 = .ok (.aload_n 0, 1) := dc_42 (by decide +kernel)
theorem dX12_save_100 : decode cX12_save 100 = .ok (.getfield 84, 3) := dc_180 (a := 0) (b := 84) (by decide +kernel)
theorem dX12_save_103 : decode cX12_save 103 = .ok (.iconst 2, 1) := dc_5 (by decide +kernel)
theorem dX12_save_104 : decode cX12_save 104 = .ok (.iload_n 3, 1) := dc_29 (by decide +kernel)
theorem dX12_save_105 : decode cX12_save 105 = .ok (.imul, 1) := dc_104 (by decide +kernel)
theorem dX12_save_106 : decode cX12_save 106 = .ok (.iconst 1, 1) := dc_4 (by decide +kernel)
theorem dX12_save_107 : decode cX12_save 107 = .ok (.iadd, 1) := dc_96 (by decide +kernel)
theorem dX12_save_108 : decode cX12_save 108 = .ok (.iaload, 1) := dc_46 (by decide +kernel)
theorem dX12_save_109 : decode cX12_save 109 = .ok (.iastore, 1) := dc_79 (by decide +kernel)
theorem dX12_save_110 : decode cX12_save 110 = .ok (.aload_n 0, 1) := dc_42 (by decide +kernel)
theorem dX12_save_111 : decode cX12_save 111 = .ok (.getfield 135, 3) := dc_180 (a := 0) (b := 135) (by decide +kernel)
theorem dX12_save_114 : decode cX12_save 114 = .ok (.iload_n 2, 1) := dc_28 (by decide +kernel)
theorem dX12_save_115 : decode cX12_save 115 = .ok (.bipush 6, 2) := dc_16 (a := 6) (by decide +kernel) (by decide)
theorem dX12_save_117 : decode cX12_save 117 = .ok (.iadd, 1) := dc_96 (by decide +kernel)
theorem dX12_save_118 : decode cX12_save 118 = .ok (.aload_n 0, 1) := dc_42 (by decide +kernel)
theorem dX12_save_119 : decode cX12_save 119 = .ok (.getfield 87, 3) := dc_180 (a := 0) (b := 87) (by decide +kernel)
theorem dX12_save_122 : decode cX12_save 122 = .ok (.iload_n 3, 1) := dc_29 (by decide +kernel)
theorem dX12_save_123 : decode cX12_save 123 = .ok (.iaload, 1) := dc_46 (by decide +kernel)
theorem dX12_save_124 : decode cX12_save 124 = .ok (.iastore, 1) := dc_79 (by decide +kernel)
theorem dX12_save_125 : decode cX12_save 125 = .ok (.aload_n 0, 1) := dc_42 (by decide +kernel)
theorem dX12_save_126 : decode cX12_save 126 = .ok (.getfield 135, 3) := dc_180 (a := 0) (b := 135) (by decide +kernel)
theorem dX12_save_129 : decode cX12_save 129 = .ok (.iload_n 2, 1) := dc_28 (by decide +kernel)
theorem dX12_save_130 : decode cX12_save 130 = .ok (.bipush 7, 2) := dc_16 (a := 7) (by decide +kernel) (by decide)
theorem dX12_save_132 : decode cX12_save 132 = .ok (.iadd, 1) := dc_96 (by decide +kernel)
theorem dX12_save_133 : decode cX12_save 133 = .ok (.aload_n 0, 1) := dc_42 (by decide +kernel)
theorem dX12_save_134 : decode cX12_save 134 = .ok (.getfield 90, 3) := dc_180 (a := 0) (b := 90) (by decide +kernel)
theorem dX12_save_137 : decode cX12_save 137 = .ok (.iload_n 3, 1) := dc_29 (by decide +kernel)
theorem dX12_save_138 : decode cX12_save 138 = .ok (.iaload, 1) := dc_46 (by decide +kernel)
theorem dX12_save_139 : decode cX12_save 139 = .ok (.iastore, 1) := dc_79 (by decide +kernel)
theorem dX12_save_140 : decode cX12_save 140 = .ok (.aload_n 0, 1) := dc_42 (by decide +kernel)
theorem dX12_save_141 : decode cX12_save 141 = .ok (.getfield 135, 3) := dc_180 (a := 0) (b := 135) (by decide +kernel)
theorem dX12_save_144 : decode cX12_save 144 = .ok (.iload_n 2, 1) := dc_28 (by decide +kernel)
theorem dX12_save_145 : decode cX12_save 145 = .ok (.bipush 8, 2) := dc_16 (a := 8) (by decide +kernel) (by decide)
theorem dX12_save_147 : decode cX12_save 147 = .ok (.iadd, 1) := dc_96 (by decide +kernel)
theorem dX12_save_148 : decode cX12_save 148 = .ok (.aload_n 0, 1) := dc_42 (by decide +kernel)
theorem dX12_save_149 : decode cX12_save 149 = .ok (.getfield 93, 3) := dc_180 (a := 0) (b := 93) (by decide +kernel)
theorem dX12_save_152 : decode cX12_save 152 = .ok (.iload_n 3, 1) := dc_29 (by decide +kernel)
theorem dX12_save_153 : decode cX12_save 153 = .ok (.iaload, 1) := dc_46 (by decide +kernel)
theorem dX12_save_154 : decode cX12_save 154 = .ok (.iastore, 1) := dc_79 (by decide +kernel)
theorem dX12_save_155 : decode cX12_save 155 = .ok (.aload_n 0, 1) := dc_42 (by decide +kernel)
theorem dX12_save_156 : decode cX12_save 156 = .ok (.getfield 135, 3) := dc_180 (a := 0) (b := 135) (by decide +kernel)
theorem dX12_save_159 : decode cX12_save 159 = .ok (.iload_n 2, 1) := dc_28 (by decide +kernel)
theorem dX12_save_160 : decode cX12_save 160 = .ok (.bipush 9, 2) := dc_16 (a := 9) (by decide +kernel) (by decide)
theorem dX12_save_162 : decode cX12_save 162 = .ok (.iadd, 1) := dc_96 (by decide +kernel)
theorem dX12_save_163 : decode cX12_save 163 = .ok (.aload_n 0, 1) := dc_42 (by decide +kernel)
theorem dX12_save_164 : decode cX12_save 164 = .ok (.getfield 96, 3) := dc_180 (a := 0) (b := 96) (by decide +kernel)
theorem dX12_save_167 : decode cX12_save 167 = .ok (.iload_n 3, 1) := dc_29 (by decide +kernel)
theorem dX12_save_168 : decode cX12_save 168 = .ok (.iaload, 1) := dc_46 (by decide +kernel)
theorem dX12_save_169 : decode cX12_save 169 = .ok (.iastore, 1) := dc_79 (by decide +kernel)
theorem dX12_save_170 : decode cX12_save 170 = .ok (.aload_n 0, 1) := dc_42 (by decide +kernel)
theorem dX12_save_171 : decode cX12_save 171 = .ok (.getfield 135, 3) := dc_180 (a := 0) (b := 135) (by decide +kernel)
theorem dX12_save_174 : decode cX12_save 174 = .ok (.iload_n 2, 1) := dc_28 (by decide +kernel)
theorem dX12_save_175 : decode cX12_save 175 = .ok (.bipush 10, 2) := dc_16 (a := 10) (by decide +kernel) (by decide)
theorem dX12_save_177 : decode cX12_save 177 = .ok (.iadd, 1) := dc_96 (by decide +kernel)
theorem dX12_save_178 : decode cX12_save 178 = .ok (.aload_n 0, 1) := dc_42 (by decide +kernel)
theorem dX12_save_179 : decode cX12_save 179 = .ok (.getfield 105, 3) := dc_180 (a := 0) (b := 105) (by decide +kernel)
theorem dX12_save_182 : decode cX12_save 182 = .ok (.iload_n 3, 1) := dc_29 (by decide +kernel)
theorem dX12_save_183 : decode cX12_save 183 = .ok (.iaload, 1) := dc_46 (by decide +kernel)
theorem dX12_save_184 : decode cX12_save 184 = .ok (.iastore, 1) := dc_79 (by decide +kernel)
theorem dX12_save_185 : decode cX12_save 185 = .ok (.aload_n 0, 1) := dc_42 (by decide +kernel)
theorem dX12_save_186 : decode cX12_save 186 = .ok (.getfield 135, 3) := dc_180 (a := 0) (b := 135) (by decide +kernel)
theorem dX12_save_189 : decode cX12_save 189 = .ok (.iload_n 2, 1) := dc_28 (by decide +kernel)
theorem dX12_save_190 : decode cX12_save 190 = .ok (.bipush 11, 2) := dc_16 (a := 11) (by decide +kernel) (by decide)
theorem dX12_save_192 : decode cX12_save 192 = .ok (.iadd, 1) := dc_96 (by decide +kernel)
theorem dX12_save_193 : decode cX12_save 193 = .ok (.aload_n 0, 1) := dc_42 (by decide +kernel)
theorem dX12_save_194 : decode cX12_save 194 = .ok (.getfield 108, 3) := dc_180 (a := 0) (b := 108) (by decide +kernel)
theorem dX12_save_197 : decode cX12_save 197 = .ok (.iload_n 3, 1) := dc_29 (by decide +kernel)
theorem dX12_save_198 : decode cX12_save 198 = .ok (.baload, 1) := dc_51 (by decide +kernel)
theorem dX12_save_199 : decode cX12_save 199 = .ok (.ifCond .eq 7, 3) := dc_153 (a := 0) (b := 7) (by decide +kernel) (by decide)
theorem dX12_save_202 : decode cX12_save 202 = .ok (.iconst 1, 1) := dc_4 (by decide +kernel)
theorem dX12_save_203 : decode cX12_save 203 = .ok (.goto 4, 3) := dc_167 (a := 0) (b := 4) (by decide +kernel) (by decide)
theorem dX12_save_206 : decode cX12_save 206 = .ok (.iconst 0, 1) := dc_3 (by decide +kernel)
theorem dX12_save_207 : decode cX12_save 207 = .ok (.iastore, 1) := dc_79 (by decide +kernel)
theorem dX12_save_208 : decode cX12_save 208 = .ok (.aload_n 0, 1) := dc_42 (by decide +kernel)
theorem dX12_save_209 : decode cX12_save 209 = .ok (.getfield 135, 3) := dc_180 (a := 0) (b := 135) (by decide +kernel)
theorem dX12_save_212 : decode cX12_save 212 = .ok (.iload_n 2, 1) := dc_28 (by decide +kernel)
theorem dX12_save_213 : decode cX12_save 213 = .ok (.bipush 12, 2) := dc_16 (a := 12) (by decide +kernel) (by decide)
theorem dX12_save_215 : decode cX12_save 215 = .ok (.iadd, 1) := dc_96 (by decide +kernel)
theorem dX12_save_216 : decode cX12_save 216 = .ok (.aload_n 0, 1) := dc_42 (by decide +kernel)
theorem dX12_save_217 : decode cX12_save 217 = .ok (.getfield 111, 3) := dc_180 (a := 0) (b := 111) (by decide +kernel)
theorem dX12_save_220 : decode cX12_save 220 = .ok (.iload_n 3, 1) := dc_29 (by decide +kernel)
theorem dX12_save_221 : decode cX12_save 221 = .ok (.iaload, 1) := dc_46 (by decide +kernel)
theorem dX12_save_222 : decode cX12_save 222 = .ok (.iastore, 1) := dc_79 (by decide +kernel)
theorem dX12_save_223 : decode cX12_save 223 = .ok (.aload_n 0, 1) := dc_42 (by decide +kernel)
theorem dX12_save_224 : decode cX12_save 224 = .ok (.getfield 135, 3) := dc_180 (a := 0) (b := 135) (by decide +kernel)
theorem dX12_save_227 : decode cX12_save 227 = .ok (.iload_n 2, 1) := dc_28 (by decide +kernel)
theorem dX12_save_228 : decode cX12_save 228 = .ok (.bipush 13, 2) := dc_16 (a := 13) (by decide +kernel) (by decide)
theorem dX12_save_230 : decode cX12_save 230 = .ok (.iadd, 1) := dc_96 (by decide +kernel)
theorem dX12_save_231 : decode cX12_save 231 = .ok (.aload_n 0, 1) := dc_42 (by decide +kernel)
theorem dX12_save_232 : decode cX12_save 232 = .ok (.getfield 114, 3) := dc_180 (a := 0) (b := 114) (by decide +kernel)
theorem dX12_save_235 : decode cX12_save 235 = .ok (.iload_n 3, 1) := dc_29 (by decide +kernel)
theorem dX12_save_236 : decode cX12_save 236 = .ok (.iaload, 1) := dc_46 (by decide +kernel)
theorem dX12_save_237 : decode cX12_save 237 = .ok (.iastore, 1) := dc_79 (by decide +kernel)
theorem dX12_save_238 : decode cX12_save 238 = .ok (.aload_n 0, 1) := dc_42 (by decide +kernel)
theorem dX12_save_239 : decode cX12_save 239 = .ok (.getfield 135, 3) := dc_180 (a := 0) (b := 135) (by decide +kernel)
theorem dX12_save_242 : decode cX12_save 242 = .ok (.iload_n 2, 1) := dc_28 (by decide +kernel)
theorem dX12_save_243 : decode cX12_save 243 = .ok (.bipush 14, 2) := dc_16 (a := 14) (by decide +kernel) (by decide)
theorem dX12_save_245 : decode cX12_save 245 = .ok (.iadd, 1) := dc_96 (by decide +kernel)
theorem dX12_save_246 : decode cX12_save 246 = .ok (.aload_n 0, 1) := dc_42 (by decide +kernel)
theorem dX12_save_247 : decode cX12_save 247 = .ok (.getfield 117, 3) := dc_180 (a := 0) (b := 117) (by decide +kernel)
theorem dX12_save_250 : decode cX12_save 250 = .ok (.iload_n 3, 1) := dc_29 (by decide +kernel)
theorem dX12_save_251 : decode cX12_save 251 = .ok (.baload, 1) := dc_51 (by decide +kernel)
theorem dX12_save_252 : decode cX12_save 252 = .ok (.ifCond .eq 7, 3) := dc_153 (a := 0) (b := 7) (by decide +kernel) (by decide)
theorem dX12_save_255 : decode cX12_save 255 = .ok (.iconst 1, 1) := dc_4 (by decide +kernel)
theorem dX12_save_256 : decode cX12_save 256 = .ok (.goto 4, 3) := dc_167 (a := 0) (b := 4) (by decide +kernel) (by decide)
theorem dX12_save_259 : decode cX12_save 259 = .ok (.iconst 0, 1) := dc_3 (by decide +kernel)
theorem dX12_save_260 : decode cX12_save 260 = .ok (.iastore, 1) := dc_79 (by decide +kernel)
theorem dX12_save_261 : decode cX12_save 261 = .ok (.iinc 2 15, 3) := dc_132 (a := 2) (b := 15) (by decide +kernel) (by decide)
theorem dX12_save_264 : decode cX12_save 264 = .ok (.iinc 3 1, 3) := dc_132 (a := 3) (b := 1) (by decide +kernel) (by decide)
theorem dX12_save_267 : decode cX12_save 267 = .ok (.goto (-259), 3) := dc_167 (a := 254) (b := 253) (by decide +kernel) (by decide)
theorem dX12_save_270 : decode cX12_save 270 = .ok (.iconst 0, 1) := dc_3 (by decide +kernel)
theorem dX12_save_271 : decode cX12_save 271 = .ok (.istore_n 3, 1) := dc_62 (by decide +kernel)
theorem dX12_save_272 : decode cX12_save 272 = .ok (.iload_n 3, 1) := dc_29 (by decide +kernel)
theorem dX12_save_273 : decode cX12_save 273 = .ok (.bipush 40, 2) := dc_16 (a := 40) (by decide +kernel) (by decide)
theorem dX12_save_275 : decode cX12_save 275 = .ok (.if_icmp .ge 38, 3) := dc_162 (a := 0) (b := 38) (by decide +kernel) (by decide)
theorem dX12_save_278 : decode cX12_save 278 = .ok (.aload_n 0, 1) := dc_42 (by decide +kernel)
theorem dX12_save_279 : decode cX12_save 279 = .ok (.getfield 135, 3) := dc_180 (a := 0) (b := 135) (by decide +kernel)
theorem dX12_save_282 : decode cX12_save 282 = .ok (.iload_n 2, 1) := dc_28 (by decide +kernel)
theorem dX12_save_283 : decode cX12_save 283 = .ok (.aload_n 0, 1) := dc_42 (by decide +kernel)
theorem dX12_save_284 : decode cX12_save 284 = .ok (.getfield 45, 3) := dc_180 (a := 0) (b := 45) (by decide +kernel)
theorem dX12_save_287 : decode cX12_save 287 = .ok (.iload_n 3, 1) := dc_29 (by decide +kernel)
theorem dX12_save_288 : decode cX12_save 288 = .ok (.iaload, 1) := dc_46 (by decide +kernel)
theorem dX12_save_289 : decode cX12_save 289 = .ok (.iastore, 1) := dc_79 (by decide +kernel)
theorem dX12_save_290 : decode cX12_save 290 = .ok (.aload_n 0, 1) := dc_42 (by decide +kernel)
theorem dX12_save_291 : decode cX12_save 291 = .ok (.getfield 135, 3) := dc_180 (a := 0) (b := 135) (by decide +kernel)
theorem dX12_save_294 : decode cX12_save 294 = .ok (.iload_n 2, 1) := dc_28 (by decide +kernel)
theorem dX12_save_295 : decode cX12_save 295 = .ok (.iconst 1, 1) := dc_4 (by decide +kernel)
theorem dX12_save_296 : decode cX12_save 296 = .ok (.iadd, 1) := dc_96 (by decide +kernel)
theorem dX12_save_297 : decode cX12_save 297 = .ok (.aload_n 0, 1) := dc_42 (by decide +kernel)
theorem dX12_save_298 : decode cX12_save 298 = .ok (.getfield 48, 3) := dc_180 (a := 0) (b := 48) (by decide +kernel)
theorem dX12_save_301 : decode cX12_save 301 = .ok (.iload_n 3, 1) := dc_29 (by decide +kernel)
theorem dX12_save_302 : decode cX12_save 302 = .ok (.iaload, 1) := dc_46 (by decide +kernel)
theorem dX12_save_303 : decode cX12_save 303 = .ok (.iastore, 1) := dc_79 (by decide +kernel)
theorem dX12_save_304 : decode cX12_save 304 = .ok (.iinc 2 2, 3) := dc_132 (a := 2) (b := 2) (by decide +kernel) (by decide)
theorem dX12_save_307 : decode cX12_save 307 = .ok (.iinc 3 1, 3) := dc_132 (a := 3) (b := 1) (by decide +kernel) (by decide)
theorem dX12_save_310 : decode cX12_save 310 = .ok (.goto (-38), 3) := dc_167 (a := 255) (b := 218) (by decide +kernel) (by decide)
theorem dX12_save_313 : decode cX12_save 313 = .ok (.aload_n 0, 1) := dc_42 (by decide +kernel)
theorem dX12_save_314 : decode cX12_save 314 = .ok (.getfield 135, 3) := dc_180 (a := 0) (b := 135) (by decide +kernel)
theorem dX12_save_317 : decode cX12_save 317 = .ok (.iload_n 2, 1) := dc_28 (by decide +kernel)
theorem dX12_save_318 : decode cX12_save 318 = .ok (.aload_n 0, 1) := dc_42 (by decide +kernel)
theorem dX12_save_319 : decode cX12_save 319 = .ok (.getfield 334, 3) := dc_180 (a := 1) (b := 78) (by decide +kernel)
theorem dX12_save_322 : decode cX12_save 322 = .ok (.iastore, 1) := dc_79 (by decide +kernel)
theorem dX12_save_323 : decode cX12_save 323 = .ok (.return_, 1) := dc_177 (by decide +kernel)
set_option maxRecDepth 100000 in
set_option maxHeartbeats 4000000 in
theorem w_M_save_L272 {p : Program} {l : Launch} {e : Env} {R : Room} {s : State} {m : MethodId} {args : Array Value} {below : List Frame} {meth : Method} {c : Code} {dC : Nat → ClassId} {dI : Nat → Nat → Nat} {cs : Nat → ClassId} {ad : Nat → Nat} {A : Nat → Prop} {D0 : Nat → Nat} {S' : SS} (F : Fx p s m args meth c cX12_save 4 RX12 none dC dI cs A) (hR1 : 0 ≤ R.frames) (hR2 : 0 ≤ R.locals) : ∀ (n : Nat) (x2 : Int32) (x3 : Int32) (S : SS), f_M_save_L272 n x2 x3 S = some S' → AW p l e R s m args below meth c dC dI cs ad A D0 none S' 4 272 [(0, .ref (ad 0)), (2, .int x2), (3, .int x3)] [] S := by
  have hx := F.1.1
  have hb := F.1.2.1
  intro n
  induction n with
  | zero => intro x2 x3 S h; cases h
  | succ n ih =>
    intro x2 x3 S h H locs ls w hl
    rw [f_M_save_L272] at h
    refine lv_iload_n (pc := 272) hx hb dX12_save_272 rfl (lv_at hl 2 rfl) ?_
    refine lv_bipush (pc := 273) (v := 40) hx hb dX12_save_273 (by decide) ?_
    refine lv_icmp_ge (pc := 275) (tgt := 313) hx hb dX12_save_275 (by decide) (fun q => ?_) (fun q => ?_)
    · have h := ite_t q h
      refine lv_aload_n (pc := 313) hx hb dX12_save_313 rfl (lv_at hl 0 rfl) ?_
      refine s_getR (pc := 314) F w 40 ds_0 (j := 59) vc_X12 vi_X12 rfl (by decide) kf_X12_135 dX12_save_314 ?_
      refine lv_iload_n (pc := 317) hx hb dX12_save_317 rfl (lv_at hl 1 rfl) ?_
      refine lv_aload_n (pc := 318) hx hb dX12_save_318 rfl (lv_at hl 0 rfl) ?_
      refine s_getI (pc := 319) F w ds_0 (j := 48) vc_X12 vi_X12 rfl (by decide) kf_X12_334 dX12_save_319 ?_
      refine s_iast (pc := 322) F w ds_40 h dX12_save_322 (fun S2 H locs h w => ?_)
      exact s_vret F w h dX12_save_323
    · have h := ite_f q h
      refine lv_aload_n (pc := 278) hx hb dX12_save_278 rfl (lv_at hl 0 rfl) ?_
      refine s_getR (pc := 279) F w 40 ds_0 (j := 59) vc_X12 vi_X12 rfl (by decide) kf_X12_135 dX12_save_279 ?_
      refine lv_iload_n (pc := 282) hx hb dX12_save_282 rfl (lv_at hl 1 rfl) ?_
      refine lv_aload_n (pc := 283) hx hb dX12_save_283 rfl (lv_at hl 0 rfl) ?_
      refine s_getR (pc := 284) F w 10 ds_0 (j := 17) vc_X12 vi_X12 rfl (by decide) kf_X12_45 dX12_save_284 ?_
      refine lv_iload_n (pc := 287) hx hb dX12_save_287 rfl (lv_at hl 2 rfl) ?_
      refine s_iald (pc := 288) F w ds_10 h dX12_save_288 (fun h => ?_)
      refine s_iast (pc := 289) F w ds_40 h dX12_save_289 (fun S3 H locs h w => ?_)
      refine lv_aload_n (pc := 290) hx hb dX12_save_290 rfl (lv_at hl 0 rfl) ?_
      refine s_getR (pc := 291) F w 40 ds_0 (j := 59) vc_X12 vi_X12 rfl (by decide) kf_X12_135 dX12_save_291 ?_
      refine lv_iload_n (pc := 294) hx hb dX12_save_294 rfl (lv_at hl 1 rfl) ?_
      refine lv_iconst (pc := 295) (v := 1) hx hb dX12_save_295 (by decide) ?_
      refine lv_iadd (pc := 296) hx hb dX12_save_296 ?_
      refine lv_aload_n (pc := 297) hx hb dX12_save_297 rfl (lv_at hl 0 rfl) ?_
      refine s_getR (pc := 298) F w 11 ds_0 (j := 18) vc_X12 vi_X12 rfl (by decide) kf_X12_48 dX12_save_298 ?_
      refine lv_iload_n (pc := 301) hx hb dX12_save_301 rfl (lv_at hl 2 rfl) ?_
      refine s_iald (pc := 302) F w ds_11 h dX12_save_302 (fun h => ?_)
      refine s_iast (pc := 303) F w ds_40 h dX12_save_303 (fun S4 H locs h w => ?_)
      refine s_nm h (fun z5 ez5 h => ?_)
      refine lv_iinc (pc := 304) (v := z5) (lv' := [(2, .int z5), (0, .ref (ad 0)), (3, .int x3)]) hx hb dX12_save_304 hl (k := 1) rfl (by rw [ez5]; rfl) (by decide) rfl (fun ls hl => ?_)
      refine s_nm h (fun z6 ez6 h => ?_)
      refine lv_iinc (pc := 307) (v := z6) (lv' := [(3, .int z6), (2, .int z5), (0, .ref (ad 0))]) hx hb dX12_save_307 hl (k := 2) rfl (by rw [ez6]; rfl) (by decide) rfl (fun ls hl => ?_)
      refine lv_goto (pc := 310) (tgt := 272) hx hb dX12_save_310 (by decide) ?_
      exact ih _ _ _ h _ _ _ w (lv_sub hl [2, 1, 0] rfl)
set_option maxRecDepth 100000 in
set_option maxHeartbeats 4000000 in
theorem w_M_save_j260 {p : Program} {l : Launch} {e : Env} {R : Room} {s : State} {m : MethodId} {args : Array Value} {below : List Frame} {meth : Method} {c : Code} {dC : Nat → ClassId} {dI : Nat → Nat → Nat} {cs : Nat → ClassId} {ad : Nat → Nat} {A : Nat → Prop} {D0 : Nat → Nat} {S' : SS} (F : Fx p s m args meth c cX12_save 4 RX12 none dC dI cs A) (hR1 : 0 ≤ R.frames) (hR2 : 0 ≤ R.locals) (K8 : Int32 → Int32 → SS → Option (SS)) (hK8 : ∀ (v0 : Int32) (v1 : Int32) (S : SS), K8 v0 v1 S = some S' → AW p l e R s m args below meth c dC dI cs ad A D0 none S' 4 8 [(0, .ref (ad 0)), (2, .int v0), (3, .int v1)] [] S) (x2 : Int32) (x3 : Int32) (y0 : Int32) (y1 : Int32) (S : SS) (h : f_M_save_j260 K8 x2 x3 y0 y1 S = some S') : AW p l e R s m args below meth c dC dI cs ad A D0 none S' 4 260 [(0, .ref (ad 0)), (2, .int x2), (3, .int x3)] [.int y0, .int y1, .ref (ad 40)] S := by
  have hx := F.1.1
  have hb := F.1.2.1
  intro H locs ls w hl
  rw [f_M_save_j260] at h
  refine s_iast (pc := 260) F w ds_40 h dX12_save_260 (fun S21 H locs h w => ?_)
  refine s_nm h (fun z22 ez22 h => ?_)
  refine lv_iinc (pc := 261) (v := z22) (lv' := [(2, .int z22), (0, .ref (ad 0)), (3, .int x3)]) hx hb dX12_save_261 hl (k := 1) rfl (by rw [ez22]; rfl) (by decide) rfl (fun ls hl => ?_)
  refine s_nm h (fun z23 ez23 h => ?_)
  refine lv_iinc (pc := 264) (v := z23) (lv' := [(3, .int z23), (2, .int z22), (0, .ref (ad 0))]) hx hb dX12_save_264 hl (k := 2) rfl (by rw [ez23]; rfl) (by decide) rfl (fun ls hl => ?_)
  refine lv_goto (pc := 267) (tgt := 8) hx hb dX12_save_267 (by decide) ?_
  exact hK8 _ _ _ h _ _ _ w (lv_sub hl [2, 1, 0] rfl)
set_option maxRecDepth 100000 in
set_option maxHeartbeats 4000000 in
theorem w_M_save_j207 {p : Program} {l : Launch} {e : Env} {R : Room} {s : State} {m : MethodId} {args : Array Value} {below : List Frame} {meth : Method} {c : Code} {dC : Nat → ClassId} {dI : Nat → Nat → Nat} {cs : Nat → ClassId} {ad : Nat → Nat} {A : Nat → Prop} {D0 : Nat → Nat} {S' : SS} (F : Fx p s m args meth c cX12_save 4 RX12 none dC dI cs A) (hR1 : 0 ≤ R.frames) (hR2 : 0 ≤ R.locals) (K8 : Int32 → Int32 → SS → Option (SS)) (hK8 : ∀ (v0 : Int32) (v1 : Int32) (S : SS), K8 v0 v1 S = some S' → AW p l e R s m args below meth c dC dI cs ad A D0 none S' 4 8 [(0, .ref (ad 0)), (2, .int v0), (3, .int v1)] [] S) (x2 : Int32) (x3 : Int32) (y0 : Int32) (y1 : Int32) (S : SS) (h : f_M_save_j207 K8 x2 x3 y0 y1 S = some S') : AW p l e R s m args below meth c dC dI cs ad A D0 none S' 4 207 [(0, .ref (ad 0)), (2, .int x2), (3, .int x3)] [.int y0, .int y1, .ref (ad 40)] S := by
  have hx := F.1.1
  have hb := F.1.2.1
  intro H locs ls w hl
  rw [f_M_save_j207] at h
  refine s_iast (pc := 207) F w ds_40 h dX12_save_207 (fun S18 H locs h w => ?_)
  refine lv_aload_n (pc := 208) hx hb dX12_save_208 rfl (lv_at hl 0 rfl) ?_
  refine s_getR (pc := 209) F w 40 ds_0 (j := 59) vc_X12 vi_X12 rfl (by decide) kf_X12_135 dX12_save_209 ?_
  refine lv_iload_n (pc := 212) hx hb dX12_save_212 rfl (lv_at hl 1 rfl) ?_
  refine lv_bipush (pc := 213) (v := 12) hx hb dX12_save_213 (by decide) ?_
  refine lv_iadd (pc := 215) hx hb dX12_save_215 ?_
  refine lv_aload_n (pc := 216) hx hb dX12_save_216 rfl (lv_at hl 0 rfl) ?_
  refine s_getR (pc := 217) F w 32 ds_0 (j := 44) vc_X12 vi_X12 rfl (by decide) kf_X12_111 dX12_save_217 ?_
  refine lv_iload_n (pc := 220) hx hb dX12_save_220 rfl (lv_at hl 2 rfl) ?_
  refine s_iald (pc := 221) F w ds_32 h dX12_save_221 (fun h => ?_)
  refine s_iast (pc := 222) F w ds_40 h dX12_save_222 (fun S19 H locs h w => ?_)
  refine lv_aload_n (pc := 223) hx hb dX12_save_223 rfl (lv_at hl 0 rfl) ?_
  refine s_getR (pc := 224) F w 40 ds_0 (j := 59) vc_X12 vi_X12 rfl (by decide) kf_X12_135 dX12_save_224 ?_
  refine lv_iload_n (pc := 227) hx hb dX12_save_227 rfl (lv_at hl 1 rfl) ?_
  refine lv_bipush (pc := 228) (v := 13) hx hb dX12_save_228 (by decide) ?_
  refine lv_iadd (pc := 230) hx hb dX12_save_230 ?_
  refine lv_aload_n (pc := 231) hx hb dX12_save_231 rfl (lv_at hl 0 rfl) ?_
  refine s_getR (pc := 232) F w 33 ds_0 (j := 45) vc_X12 vi_X12 rfl (by decide) kf_X12_114 dX12_save_232 ?_
  refine lv_iload_n (pc := 235) hx hb dX12_save_235 rfl (lv_at hl 2 rfl) ?_
  refine s_iald (pc := 236) F w ds_33 h dX12_save_236 (fun h => ?_)
  refine s_iast (pc := 237) F w ds_40 h dX12_save_237 (fun S20 H locs h w => ?_)
  refine lv_aload_n (pc := 238) hx hb dX12_save_238 rfl (lv_at hl 0 rfl) ?_
  refine s_getR (pc := 239) F w 40 ds_0 (j := 59) vc_X12 vi_X12 rfl (by decide) kf_X12_135 dX12_save_239 ?_
  refine lv_iload_n (pc := 242) hx hb dX12_save_242 rfl (lv_at hl 1 rfl) ?_
  refine lv_bipush (pc := 243) (v := 14) hx hb dX12_save_243 (by decide) ?_
  refine lv_iadd (pc := 245) hx hb dX12_save_245 ?_
  refine lv_aload_n (pc := 246) hx hb dX12_save_246 rfl (lv_at hl 0 rfl) ?_
  refine s_getR (pc := 247) F w 34 ds_0 (j := 46) vc_X12 vi_X12 rfl (by decide) kf_X12_117 dX12_save_247 ?_
  refine lv_iload_n (pc := 250) hx hb dX12_save_250 rfl (lv_at hl 2 rfl) ?_
  refine s_zald (pc := 251) F w ds_34 h dX12_save_251 (fun h => ?_)
  refine lv_if_eq (pc := 252) (tgt := 259) hx hb dX12_save_252 (by decide) (fun q => ?_) (fun q => ?_)
  · have h := ite_t q h
    refine lv_iconst (pc := 259) (v := 0) hx hb dX12_save_259 (by decide) ?_
    exact w_M_save_j260 F (Nat.le_trans (by decide) hR1) (Nat.le_trans (by decide) hR2) _ hK8 _ _ _ _ _ h _ _ _ w (lv_sub hl [0, 1, 2] rfl)
  · have h := ite_f q h
    refine lv_iconst (pc := 255) (v := 1) hx hb dX12_save_255 (by decide) ?_
    refine lv_goto (pc := 256) (tgt := 260) hx hb dX12_save_256 (by decide) ?_
    exact w_M_save_j260 F (Nat.le_trans (by decide) hR1) (Nat.le_trans (by decide) hR2) _ hK8 _ _ _ _ _ h _ _ _ w (lv_sub hl [0, 1, 2] rfl)
set_option maxRecDepth 100000 in
set_option maxHeartbeats 4000000 in
theorem w_M_save_j33 {p : Program} {l : Launch} {e : Env} {R : Room} {s : State} {m : MethodId} {args : Array Value} {below : List Frame} {meth : Method} {c : Code} {dC : Nat → ClassId} {dI : Nat → Nat → Nat} {cs : Nat → ClassId} {ad : Nat → Nat} {A : Nat → Prop} {D0 : Nat → Nat} {S' : SS} (F : Fx p s m args meth c cX12_save 4 RX12 none dC dI cs A) (hR1 : 0 ≤ R.frames) (hR2 : 0 ≤ R.locals) (K8 : Int32 → Int32 → SS → Option (SS)) (hK8 : ∀ (v0 : Int32) (v1 : Int32) (S : SS), K8 v0 v1 S = some S' → AW p l e R s m args below meth c dC dI cs ad A D0 none S' 4 8 [(0, .ref (ad 0)), (2, .int v0), (3, .int v1)] [] S) (x2 : Int32) (x3 : Int32) (y0 : Int32) (y1 : Int32) (S : SS) (h : f_M_save_j33 K8 x2 x3 y0 y1 S = some S') : AW p l e R s m args below meth c dC dI cs ad A D0 none S' 4 33 [(0, .ref (ad 0)), (2, .int x2), (3, .int x3)] [.int y0, .int y1, .ref (ad 40)] S := by
  have hx := F.1.1
  have hb := F.1.2.1
  intro H locs ls w hl
  rw [f_M_save_j33] at h
  refine s_iast (pc := 33) F w ds_40 h dX12_save_33 (fun S7 H locs h w => ?_)
  refine lv_aload_n (pc := 34) hx hb dX12_save_34 rfl (lv_at hl 0 rfl) ?_
  refine s_getR (pc := 35) F w 40 ds_0 (j := 59) vc_X12 vi_X12 rfl (by decide) kf_X12_135 dX12_save_35 ?_
  refine lv_iload_n (pc := 38) hx hb dX12_save_38 rfl (lv_at hl 1 rfl) ?_
  refine lv_iconst (pc := 39) (v := 1) hx hb dX12_save_39 (by decide) ?_
  refine lv_iadd (pc := 40) hx hb dX12_save_40 ?_
  refine lv_aload_n (pc := 41) hx hb dX12_save_41 rfl (lv_at hl 0 rfl) ?_
  refine s_getR (pc := 42) F w 20 ds_0 (j := 32) vc_X12 vi_X12 rfl (by decide) kf_X12_75 dX12_save_42 ?_
  refine lv_iload_n (pc := 45) hx hb dX12_save_45 rfl (lv_at hl 2 rfl) ?_
  refine s_iald (pc := 46) F w ds_20 h dX12_save_46 (fun h => ?_)
  refine s_iast (pc := 47) F w ds_40 h dX12_save_47 (fun S8 H locs h w => ?_)
  refine lv_aload_n (pc := 48) hx hb dX12_save_48 rfl (lv_at hl 0 rfl) ?_
  refine s_getR (pc := 49) F w 40 ds_0 (j := 59) vc_X12 vi_X12 rfl (by decide) kf_X12_135 dX12_save_49 ?_
  refine lv_iload_n (pc := 52) hx hb dX12_save_52 rfl (lv_at hl 1 rfl) ?_
  refine lv_iconst (pc := 53) (v := 2) hx hb dX12_save_53 (by decide) ?_
  refine lv_iadd (pc := 54) hx hb dX12_save_54 ?_
  refine lv_aload_n (pc := 55) hx hb dX12_save_55 rfl (lv_at hl 0 rfl) ?_
  refine s_getR (pc := 56) F w 21 ds_0 (j := 33) vc_X12 vi_X12 rfl (by decide) kf_X12_78 dX12_save_56 ?_
  refine lv_iload_n (pc := 59) hx hb dX12_save_59 rfl (lv_at hl 2 rfl) ?_
  refine s_iald (pc := 60) F w ds_21 h dX12_save_60 (fun h => ?_)
  refine s_iast (pc := 61) F w ds_40 h dX12_save_61 (fun S9 H locs h w => ?_)
  refine lv_aload_n (pc := 62) hx hb dX12_save_62 rfl (lv_at hl 0 rfl) ?_
  refine s_getR (pc := 63) F w 40 ds_0 (j := 59) vc_X12 vi_X12 rfl (by decide) kf_X12_135 dX12_save_63 ?_
  refine lv_iload_n (pc := 66) hx hb dX12_save_66 rfl (lv_at hl 1 rfl) ?_
  refine lv_iconst (pc := 67) (v := 3) hx hb dX12_save_67 (by decide) ?_
  refine lv_iadd (pc := 68) hx hb dX12_save_68 ?_
  refine lv_aload_n (pc := 69) hx hb dX12_save_69 rfl (lv_at hl 0 rfl) ?_
  refine s_getR (pc := 70) F w 22 ds_0 (j := 34) vc_X12 vi_X12 rfl (by decide) kf_X12_81 dX12_save_70 ?_
  refine lv_iload_n (pc := 73) hx hb dX12_save_73 rfl (lv_at hl 2 rfl) ?_
  refine s_iald (pc := 74) F w ds_22 h dX12_save_74 (fun h => ?_)
  refine s_iast (pc := 75) F w ds_40 h dX12_save_75 (fun S10 H locs h w => ?_)
  refine lv_aload_n (pc := 76) hx hb dX12_save_76 rfl (lv_at hl 0 rfl) ?_
  refine s_getR (pc := 77) F w 40 ds_0 (j := 59) vc_X12 vi_X12 rfl (by decide) kf_X12_135 dX12_save_77 ?_
  refine lv_iload_n (pc := 80) hx hb dX12_save_80 rfl (lv_at hl 1 rfl) ?_
  refine lv_iconst (pc := 81) (v := 4) hx hb dX12_save_81 (by decide) ?_
  refine lv_iadd (pc := 82) hx hb dX12_save_82 ?_
  refine lv_aload_n (pc := 83) hx hb dX12_save_83 rfl (lv_at hl 0 rfl) ?_
  refine s_getR (pc := 84) F w 23 ds_0 (j := 35) vc_X12 vi_X12 rfl (by decide) kf_X12_84 dX12_save_84 ?_
  refine lv_iconst (pc := 87) (v := 2) hx hb dX12_save_87 (by decide) ?_
  refine lv_iload_n (pc := 88) hx hb dX12_save_88 rfl (lv_at hl 2 rfl) ?_
  refine lv_imul (pc := 89) hx hb dX12_save_89 ?_
  refine s_iald (pc := 90) F w ds_23 h dX12_save_90 (fun h => ?_)
  refine s_iast (pc := 91) F w ds_40 h dX12_save_91 (fun S11 H locs h w => ?_)
  refine lv_aload_n (pc := 92) hx hb dX12_save_92 rfl (lv_at hl 0 rfl) ?_
  refine s_getR (pc := 93) F w 40 ds_0 (j := 59) vc_X12 vi_X12 rfl (by decide) kf_X12_135 dX12_save_93 ?_
  refine lv_iload_n (pc := 96) hx hb dX12_save_96 rfl (lv_at hl 1 rfl) ?_
  refine lv_iconst (pc := 97) (v := 5) hx hb dX12_save_97 (by decide) ?_
  refine lv_iadd (pc := 98) hx hb dX12_save_98 ?_
  refine lv_aload_n (pc := 99) hx hb dX12_save_99 rfl (lv_at hl 0 rfl) ?_
  refine s_getR (pc := 100) F w 23 ds_0 (j := 35) vc_X12 vi_X12 rfl (by decide) kf_X12_84 dX12_save_100 ?_
  refine lv_iconst (pc := 103) (v := 2) hx hb dX12_save_103 (by decide) ?_
  refine lv_iload_n (pc := 104) hx hb dX12_save_104 rfl (lv_at hl 2 rfl) ?_
  refine lv_imul (pc := 105) hx hb dX12_save_105 ?_
  refine lv_iconst (pc := 106) (v := 1) hx hb dX12_save_106 (by decide) ?_
  refine lv_iadd (pc := 107) hx hb dX12_save_107 ?_
  refine s_iald (pc := 108) F w ds_23 h dX12_save_108 (fun h => ?_)
  refine s_iast (pc := 109) F w ds_40 h dX12_save_109 (fun S12 H locs h w => ?_)
  refine lv_aload_n (pc := 110) hx hb dX12_save_110 rfl (lv_at hl 0 rfl) ?_
  refine s_getR (pc := 111) F w 40 ds_0 (j := 59) vc_X12 vi_X12 rfl (by decide) kf_X12_135 dX12_save_111 ?_
  refine lv_iload_n (pc := 114) hx hb dX12_save_114 rfl (lv_at hl 1 rfl) ?_
  refine lv_bipush (pc := 115) (v := 6) hx hb dX12_save_115 (by decide) ?_
  refine lv_iadd (pc := 117) hx hb dX12_save_117 ?_
  refine lv_aload_n (pc := 118) hx hb dX12_save_118 rfl (lv_at hl 0 rfl) ?_
  refine s_getR (pc := 119) F w 24 ds_0 (j := 36) vc_X12 vi_X12 rfl (by decide) kf_X12_87 dX12_save_119 ?_
  refine lv_iload_n (pc := 122) hx hb dX12_save_122 rfl (lv_at hl 2 rfl) ?_
  refine s_iald (pc := 123) F w ds_24 h dX12_save_123 (fun h => ?_)
  refine s_iast (pc := 124) F w ds_40 h dX12_save_124 (fun S13 H locs h w => ?_)
  refine lv_aload_n (pc := 125) hx hb dX12_save_125 rfl (lv_at hl 0 rfl) ?_
  refine s_getR (pc := 126) F w 40 ds_0 (j := 59) vc_X12 vi_X12 rfl (by decide) kf_X12_135 dX12_save_126 ?_
  refine lv_iload_n (pc := 129) hx hb dX12_save_129 rfl (lv_at hl 1 rfl) ?_
  refine lv_bipush (pc := 130) (v := 7) hx hb dX12_save_130 (by decide) ?_
  refine lv_iadd (pc := 132) hx hb dX12_save_132 ?_
  refine lv_aload_n (pc := 133) hx hb dX12_save_133 rfl (lv_at hl 0 rfl) ?_
  refine s_getR (pc := 134) F w 25 ds_0 (j := 37) vc_X12 vi_X12 rfl (by decide) kf_X12_90 dX12_save_134 ?_
  refine lv_iload_n (pc := 137) hx hb dX12_save_137 rfl (lv_at hl 2 rfl) ?_
  refine s_iald (pc := 138) F w ds_25 h dX12_save_138 (fun h => ?_)
  refine s_iast (pc := 139) F w ds_40 h dX12_save_139 (fun S14 H locs h w => ?_)
  refine lv_aload_n (pc := 140) hx hb dX12_save_140 rfl (lv_at hl 0 rfl) ?_
  refine s_getR (pc := 141) F w 40 ds_0 (j := 59) vc_X12 vi_X12 rfl (by decide) kf_X12_135 dX12_save_141 ?_
  refine lv_iload_n (pc := 144) hx hb dX12_save_144 rfl (lv_at hl 1 rfl) ?_
  refine lv_bipush (pc := 145) (v := 8) hx hb dX12_save_145 (by decide) ?_
  refine lv_iadd (pc := 147) hx hb dX12_save_147 ?_
  refine lv_aload_n (pc := 148) hx hb dX12_save_148 rfl (lv_at hl 0 rfl) ?_
  refine s_getR (pc := 149) F w 26 ds_0 (j := 38) vc_X12 vi_X12 rfl (by decide) kf_X12_93 dX12_save_149 ?_
  refine lv_iload_n (pc := 152) hx hb dX12_save_152 rfl (lv_at hl 2 rfl) ?_
  refine s_iald (pc := 153) F w ds_26 h dX12_save_153 (fun h => ?_)
  refine s_iast (pc := 154) F w ds_40 h dX12_save_154 (fun S15 H locs h w => ?_)
  refine lv_aload_n (pc := 155) hx hb dX12_save_155 rfl (lv_at hl 0 rfl) ?_
  refine s_getR (pc := 156) F w 40 ds_0 (j := 59) vc_X12 vi_X12 rfl (by decide) kf_X12_135 dX12_save_156 ?_
  refine lv_iload_n (pc := 159) hx hb dX12_save_159 rfl (lv_at hl 1 rfl) ?_
  refine lv_bipush (pc := 160) (v := 9) hx hb dX12_save_160 (by decide) ?_
  refine lv_iadd (pc := 162) hx hb dX12_save_162 ?_
  refine lv_aload_n (pc := 163) hx hb dX12_save_163 rfl (lv_at hl 0 rfl) ?_
  refine s_getR (pc := 164) F w 27 ds_0 (j := 39) vc_X12 vi_X12 rfl (by decide) kf_X12_96 dX12_save_164 ?_
  refine lv_iload_n (pc := 167) hx hb dX12_save_167 rfl (lv_at hl 2 rfl) ?_
  refine s_iald (pc := 168) F w ds_27 h dX12_save_168 (fun h => ?_)
  refine s_iast (pc := 169) F w ds_40 h dX12_save_169 (fun S16 H locs h w => ?_)
  refine lv_aload_n (pc := 170) hx hb dX12_save_170 rfl (lv_at hl 0 rfl) ?_
  refine s_getR (pc := 171) F w 40 ds_0 (j := 59) vc_X12 vi_X12 rfl (by decide) kf_X12_135 dX12_save_171 ?_
  refine lv_iload_n (pc := 174) hx hb dX12_save_174 rfl (lv_at hl 1 rfl) ?_
  refine lv_bipush (pc := 175) (v := 10) hx hb dX12_save_175 (by decide) ?_
  refine lv_iadd (pc := 177) hx hb dX12_save_177 ?_
  refine lv_aload_n (pc := 178) hx hb dX12_save_178 rfl (lv_at hl 0 rfl) ?_
  refine s_getR (pc := 179) F w 30 ds_0 (j := 42) vc_X12 vi_X12 rfl (by decide) kf_X12_105 dX12_save_179 ?_
  refine lv_iload_n (pc := 182) hx hb dX12_save_182 rfl (lv_at hl 2 rfl) ?_
  refine s_iald (pc := 183) F w ds_30 h dX12_save_183 (fun h => ?_)
  refine s_iast (pc := 184) F w ds_40 h dX12_save_184 (fun S17 H locs h w => ?_)
  refine lv_aload_n (pc := 185) hx hb dX12_save_185 rfl (lv_at hl 0 rfl) ?_
  refine s_getR (pc := 186) F w 40 ds_0 (j := 59) vc_X12 vi_X12 rfl (by decide) kf_X12_135 dX12_save_186 ?_
  refine lv_iload_n (pc := 189) hx hb dX12_save_189 rfl (lv_at hl 1 rfl) ?_
  refine lv_bipush (pc := 190) (v := 11) hx hb dX12_save_190 (by decide) ?_
  refine lv_iadd (pc := 192) hx hb dX12_save_192 ?_
  refine lv_aload_n (pc := 193) hx hb dX12_save_193 rfl (lv_at hl 0 rfl) ?_
  refine s_getR (pc := 194) F w 31 ds_0 (j := 43) vc_X12 vi_X12 rfl (by decide) kf_X12_108 dX12_save_194 ?_
  refine lv_iload_n (pc := 197) hx hb dX12_save_197 rfl (lv_at hl 2 rfl) ?_
  refine s_zald (pc := 198) F w ds_31 h dX12_save_198 (fun h => ?_)
  refine lv_if_eq (pc := 199) (tgt := 206) hx hb dX12_save_199 (by decide) (fun q => ?_) (fun q => ?_)
  · have h := ite_t q h
    refine lv_iconst (pc := 206) (v := 0) hx hb dX12_save_206 (by decide) ?_
    exact w_M_save_j207 F (Nat.le_trans (by decide) hR1) (Nat.le_trans (by decide) hR2) _ hK8 _ _ _ _ _ h _ _ _ w (lv_sub hl [0, 1, 2] rfl)
  · have h := ite_f q h
    refine lv_iconst (pc := 202) (v := 1) hx hb dX12_save_202 (by decide) ?_
    refine lv_goto (pc := 203) (tgt := 207) hx hb dX12_save_203 (by decide) ?_
    exact w_M_save_j207 F (Nat.le_trans (by decide) hR1) (Nat.le_trans (by decide) hR2) _ hK8 _ _ _ _ _ h _ _ _ w (lv_sub hl [0, 1, 2] rfl)
set_option maxRecDepth 100000 in
set_option maxHeartbeats 4000000 in
theorem w_M_save_L8 {p : Program} {l : Launch} {e : Env} {R : Room} {s : State} {m : MethodId} {args : Array Value} {below : List Frame} {meth : Method} {c : Code} {dC : Nat → ClassId} {dI : Nat → Nat → Nat} {cs : Nat → ClassId} {ad : Nat → Nat} {A : Nat → Prop} {D0 : Nat → Nat} {S' : SS} (F : Fx p s m args meth c cX12_save 4 RX12 none dC dI cs A) (hR1 : 0 ≤ R.frames) (hR2 : 0 ≤ R.locals) : ∀ (n : Nat) (x2 : Int32) (x3 : Int32) (S : SS), f_M_save_L8 n x2 x3 S = some S' → AW p l e R s m args below meth c dC dI cs ad A D0 none S' 4 8 [(0, .ref (ad 0)), (2, .int x2), (3, .int x3)] [] S := by
  have hx := F.1.1
  have hb := F.1.2.1
  intro n
  induction n with
  | zero => intro x2 x3 S h; cases h
  | succ n ih =>
    intro x2 x3 S h H locs ls w hl
    rw [f_M_save_L8] at h
    refine lv_iload_n (pc := 8) hx hb dX12_save_8 rfl (lv_at hl 2 rfl) ?_
    refine lv_bipush (pc := 9) (v := 72) hx hb dX12_save_9 (by decide) ?_
    refine lv_icmp_ge (pc := 11) (tgt := 270) hx hb dX12_save_11 (by decide) (fun q => ?_) (fun q => ?_)
    · have h := ite_t q h
      refine lv_iconst (pc := 270) (v := 0) hx hb dX12_save_270 (by decide) ?_
      refine lv_istore_n (pc := 271) (lv' := [(3, .int (0 : Int32)), (0, .ref (ad 0)), (2, .int x2)]) hx hb dX12_save_271 rfl hl (by decide) rfl (fun ls hl => ?_)
      exact w_M_save_L272 F (Nat.le_trans (by decide) hR1) (Nat.le_trans (by decide) hR2) _ _ _ _ h _ _ _ w (lv_sub hl [1, 2, 0] rfl)
    · have h := ite_f q h
      refine lv_aload_n (pc := 14) hx hb dX12_save_14 rfl (lv_at hl 0 rfl) ?_
      refine s_getR (pc := 15) F w 40 ds_0 (j := 59) vc_X12 vi_X12 rfl (by decide) kf_X12_135 dX12_save_15 ?_
      refine lv_iload_n (pc := 18) hx hb dX12_save_18 rfl (lv_at hl 1 rfl) ?_
      refine lv_aload_n (pc := 19) hx hb dX12_save_19 rfl (lv_at hl 0 rfl) ?_
      refine s_getR (pc := 20) F w 19 ds_0 (j := 31) vc_X12 vi_X12 rfl (by decide) kf_X12_72 dX12_save_20 ?_
      refine lv_iload_n (pc := 23) hx hb dX12_save_23 rfl (lv_at hl 2 rfl) ?_
      refine s_zald (pc := 24) F w ds_19 h dX12_save_24 (fun h => ?_)
      refine lv_if_eq (pc := 25) (tgt := 32) hx hb dX12_save_25 (by decide) (fun q => ?_) (fun q => ?_)
      · have h := ite_t q h
        refine lv_iconst (pc := 32) (v := 0) hx hb dX12_save_32 (by decide) ?_
        exact w_M_save_j33 F (Nat.le_trans (by decide) hR1) (Nat.le_trans (by decide) hR2) _ (fun v0 v1 S h => ih v0 v1 S h) _ _ _ _ _ h _ _ _ w (lv_sub hl [0, 1, 2] rfl)
      · have h := ite_f q h
        refine lv_iconst (pc := 28) (v := 1) hx hb dX12_save_28 (by decide) ?_
        refine lv_goto (pc := 29) (tgt := 33) hx hb dX12_save_29 (by decide) ?_
        exact w_M_save_j33 F (Nat.le_trans (by decide) hR1) (Nat.le_trans (by decide) hR2) _ (fun v0 v1 S h => ih v0 v1 S h) _ _ _ _ _ h _ _ _ w (lv_sub hl [0, 1, 2] rfl)
set_option maxRecDepth 100000 in
set_option maxHeartbeats 4000000 in
theorem m_M_save (a1 : Int32) (S S' : SS) (h : f_M_save a1 S = some S') : MT yX12_save cX12_save 4 none 0 0 (fun ad => [.ref (ad 0), .int a1]) S none S' := by
  refine MT.of RX12 (fun ad => [(0, .ref (ad 0)), (1, .int a1)]) (by decide) rfl (fun _ => Nat.le_of_ble_eq_true rfl) (fun _ => rfl) ?_
  intro p l e R s m args below meth c dC dI cs ad A hR1 hR2 F H locs ls w hl
  have hx := F.1.1
  have hb := F.1.2.1
  rw [f_M_save] at h
  refine lv_sipush (pc := 0) (v := 1161) hx hb dX12_save_0 (by decide) ?_
  refine lv_iload_n (pc := 3) hx hb dX12_save_3 rfl (lv_at hl 1 rfl) ?_
  refine lv_imul (pc := 4) hx hb dX12_save_4 ?_
  refine s_nm h (fun z1 ez1 h => ?_)
  rw [← ez1]
  refine lv_istore_n (pc := 5) (lv' := [(2, .int z1), (0, .ref (ad 0)), (1, .int a1)]) hx hb dX12_save_5 rfl hl (by decide) rfl (fun ls hl => ?_)
  refine lv_iconst (pc := 6) (v := 0) hx hb dX12_save_6 (by decide) ?_
  refine lv_istore_n (pc := 7) (lv' := [(3, .int (0 : Int32)), (2, .int z1), (0, .ref (ad 0)), (1, .int a1)]) hx hb dX12_save_7 rfl hl (by decide) rfl (fun ls hl => ?_)
  exact w_M_save_L8 F (Nat.le_trans (by decide) hR1) (Nat.le_trans (by decide) hR2) _ _ _ _ h _ _ _ w (lv_sub hl [2, 1, 0] rfl)
def f_M_keep_j50   (S : SS) : Option (SS) :=
    bndv (f_M_save (S.1 0 60) S) (fun S1 =>
    wr S1 0 60 ((S1.1 0 60) + (1 : Int32)) (fun S2 =>
    wr S2 0 61 (0 : Int32) (fun S3 =>
    some S3)))
def f_M_keep_L11  : Nat → Int32 → SS → Option (SS)
  | 0, _, _ => none
  | n + 1, x1, S =>
    if (8127 : Int32) ≤ x1 then
      wr S 0 60 ((S.1 0 60) - (1 : Int32)) (fun S4 =>
      f_M_keep_j50  S4)
    else
      grd (inb (x1 + (1161 : Int32)) 18576) (
      grd (inb x1 18576) (wr S 40 x1.toNatClampNeg (S.1 40 (x1 + (1161 : Int32)).toNatClampNeg) (fun S5 =>
      nm (x1 + (1 : Int32)) (fun z6 =>
      f_M_keep_L11 n z6 S5))))
def f_M_keep  (S : SS) : Option (SS) :=
  if (S.1 0 60) = (8 : Int32) then
    f_M_keep_L11 NF (0 : Int32) S
  else
    f_M_keep_j50  S
theorem dX12_keep_0 : decode cX12_keep 0 = .ok (.aload_n 0, 1) := dc_42 (by decide +kernel)
theorem dX12_keep_1 : decode cX12_keep 1 = .ok (.getfield 328, 3) := dc_180 (a := 1) (b := 72) (by decide +kernel)
theorem dX12_keep_4 : decode cX12_keep 4 = .ok (.bipush 8, 2) := dc_16 (a := 8) (by decide +kernel) (by decide)
theorem dX12_keep_6 : decode cX12_keep 6 = .ok (.if_icmp .ne 44, 3) := dc_160 (a := 0) (b := 44) (by decide +kernel) (by decide)
theorem dX12_keep_9 : decode cX12_keep 9 = .ok (.iconst 0, 1) := dc_3 (by decide +kernel)
theorem dX12_keep_10 : decode cX12_keep 10 = .ok (.istore_n 1, 1) := dc_60 (by decide +kernel)
theorem dX12_keep_11 : decode cX12_keep 11 = .ok (.iload_n 1, 1) := dc_27 (by decide +kernel)
theorem dX12_keep_12 : decode cX12_keep 12 = .ok (.sipush 8127, 3) := dc_17 (a := 31) (b := 191) (by decide +kernel) (by decide)
theorem dX12_keep_15 : decode cX12_keep 15 = .ok (.if_icmp .ge 25, 3) := dc_162 (a := 0) (b := 25) (by decide +kernel) (by decide)
theorem dX12_keep_18 : decode cX12_keep 18 = .ok (.aload_n 0, 1) := dc_42 (by decide +kernel)
theorem dX12_keep_19 : decode cX12_keep 19 = .ok (.getfield 135, 3) := dc_180 (a := 0) (b := 135) (by decide +kernel)
theorem dX12_keep_22 : decode cX12_keep 22 = .ok (.iload_n 1, 1) := dc_27 (by decide +kernel)
theorem dX12_keep_23 : decode cX12_keep 23 = .ok (.aload_n 0, 1) := dc_42 (by decide +kernel)
theorem dX12_keep_24 : decode cX12_keep 24 = .ok (.getfield 135, 3) := dc_180 (a := 0) (b := 135) (by decide +kernel)
theorem dX12_keep_27 : decode cX12_keep 27 = .ok (.iload_n 1, 1) := dc_27 (by decide +kernel)
theorem dX12_keep_28 : decode cX12_keep 28 = .ok (.sipush 1161, 3) := dc_17 (a := 4) (b := 137) (by decide +kernel) (by decide)
theorem dX12_keep_31 : decode cX12_keep 31 = .ok (.iadd, 1) := dc_96 (by decide +kernel)
theorem dX12_keep_32 : decode cX12_keep 32 = .ok (.iaload, 1) := dc_46 (by decide +kernel)
theorem dX12_keep_33 : decode cX12_keep 33 = .ok (.iastore, 1) := dc_79 (by decide +kernel)
theorem dX12_keep_34 : decode cX12_keep 34 = .ok (.iinc 1 1, 3) := dc_132 (a := 1) (b := 1) (by decide +kernel) (by decide)
theorem dX12_keep_37 : decode cX12_keep 37 = .ok (.goto (-26), 3) := dc_167 (a := 255) (b := 230) (by decide +kernel) (by decide)
theorem dX12_keep_40 : decode cX12_keep 40 = .ok (.aload_n 0, 1) := dc_42 (by decide +kernel)
theorem dX12_keep_41 : decode cX12_keep 41 = .ok (.dup, 1) := dc_89 (by decide +kernel)
theorem dX12_keep_42 : decode cX12_keep 42 = .ok (.getfield 328, 3) := dc_180 (a := 1) (b := 72) (by decide +kernel)
theorem dX12_keep_45 : decode cX12_keep 45 = .ok (.iconst 1, 1) := dc_4 (by decide +kernel)
theorem dX12_keep_46 : decode cX12_keep 46 = .ok (.isub, 1) := dc_100 (by decide +kernel)
theorem dX12_keep_47 : decode cX12_keep 47 = .ok (.putfield 328, 3) := dc_181 (a := 1) (b := 72) (by decide +kernel)
theorem dX12_keep_50 : decode cX12_keep 50 = .ok (.aload_n 0, 1) := dc_42 (by decide +kernel)
theorem dX12_keep_51 : decode cX12_keep 51 = .ok (.aload_n 0, 1) := dc_42 (by decide +kernel)
theorem dX12_keep_52 : decode cX12_keep 52 = .ok (.getfield 328, 3) := dc_180 (a := 1) (b := 72) (by decide +kernel)
theorem dX12_keep_55 : decode cX12_keep 55 = .ok (.invokevirtual 337, 3) := dc_182 (a := 1) (b := 81) (by decide +kernel)
theorem dX12_keep_58 : decode cX12_keep 58 = .ok (.aload_n 0, 1) := dc_42 (by decide +kernel)
theorem dX12_keep_59 : decode cX12_keep 59 = .ok (.dup, 1) := dc_89 (by decide +kernel)
theorem dX12_keep_60 : decode cX12_keep 60 = .ok (.getfield 328, 3) := dc_180 (a := 1) (b := 72) (by decide +kernel)
theorem dX12_keep_63 : decode cX12_keep 63 = .ok (.iconst 1, 1) := dc_4 (by decide +kernel)
theorem dX12_keep_64 : decode cX12_keep 64 = .ok (.iadd, 1) := dc_96 (by decide +kernel)
theorem dX12_keep_65 : decode cX12_keep 65 = .ok (.putfield 328, 3) := dc_181 (a := 1) (b := 72) (by decide +kernel)
theorem dX12_keep_68 : decode cX12_keep 68 = .ok (.aload_n 0, 1) := dc_42 (by decide +kernel)
theorem dX12_keep_69 : decode cX12_keep 69 = .ok (.iconst 0, 1) := dc_3 (by decide +kernel)
theorem dX12_keep_70 : decode cX12_keep 70 = .ok (.putfield 331, 3) := dc_181 (a := 1) (b := 75) (by decide +kernel)
theorem dX12_keep_73 : decode cX12_keep 73 = .ok (.return_, 1) := dc_177 (by decide +kernel)
set_option maxRecDepth 100000 in
set_option maxHeartbeats 4000000 in
theorem w_M_keep_j50 {p : Program} {l : Launch} {e : Env} {R : Room} {s : State} {m : MethodId} {args : Array Value} {below : List Frame} {meth : Method} {c : Code} {dC : Nat → ClassId} {dI : Nat → Nat → Nat} {cs : Nat → ClassId} {ad : Nat → Nat} {A : Nat → Prop} {D0 : Nat → Nat} {S' : SS} (F : Fx p s m args meth c cX12_keep 2 RX12 none dC dI cs A) (hR1 : 1 ≤ R.frames) (hR2 : 23 ≤ R.locals)  (S : SS) (h : f_M_keep_j50  S = some S') : AW p l e R s m args below meth c dC dI cs ad A D0 none S' 2 50 [(0, .ref (ad 0))] [] S := by
  have hx := F.1.1
  have hb := F.1.2.1
  intro H locs ls w hl
  rw [f_M_keep_j50] at h
  refine lv_aload_n (pc := 50) hx hb dX12_keep_50 rfl (lv_at hl 0 rfl) ?_
  refine lv_aload_n (pc := 51) hx hb dX12_keep_51 rfl (lv_at hl 0 rfl) ?_
  refine s_getI (pc := 52) F w ds_0 (j := 60) vc_X12 vi_X12 rfl (by decide) kf_X12_328 dX12_keep_52 ?_
  obtain ⟨S1, hc, h⟩ := bndv_t h
  refine s_cvv (pc := 55) [.int (S.1 0 60)] (fun ad => [.ref (ad 0), .int (S.1 0 60)]) F w (m_M_save _ _ _ hc) rfl rfl hl.1 ds_0 vc_X12 rfl ok_X12_save rfl kc_X12_save kl_X12_337 ki_X12_save kv_X12_save kn_X12 ⟨Nat.le_trans (by decide) hR1, Nat.le_trans (by decide) hR2⟩ ⟨Nat.zero_le _, Nat.zero_le _⟩ (Nat.le_of_ble_eq_true rfl) dX12_keep_55 (fun H locs w => ?_)
  refine lv_aload_n (pc := 58) hx hb dX12_keep_58 rfl (lv_at hl 0 rfl) ?_
  refine lv_dup (pc := 59) hx hb dX12_keep_59 rfl ?_
  refine s_getI (pc := 60) F w ds_0 (j := 60) vc_X12 vi_X12 rfl (by decide) kf_X12_328 dX12_keep_60 ?_
  refine lv_iconst (pc := 63) (v := 1) hx hb dX12_keep_63 (by decide) ?_
  refine lv_iadd (pc := 64) hx hb dX12_keep_64 ?_
  refine s_putI (pc := 65) F w ds_0 vc_X12 vi_X12 tyX12_ok nmX12 (j := 60) rfl (by decide) kf_X12_328 rfl pd_I h dX12_keep_65 (fun S2 H locs h w => ?_)
  refine lv_aload_n (pc := 68) hx hb dX12_keep_68 rfl (lv_at hl 0 rfl) ?_
  refine lv_iconst (pc := 69) (v := 0) hx hb dX12_keep_69 (by decide) ?_
  refine s_putI (pc := 70) F w ds_0 vc_X12 vi_X12 tyX12_ok nmX12 (j := 61) rfl (by decide) kf_X12_331 rfl pd_I h dX12_keep_70 (fun S3 H locs h w => ?_)
  exact s_vret F w h dX12_keep_73
set_option maxRecDepth 100000 in
set_option maxHeartbeats 4000000 in
theorem w_M_keep_L11 {p : Program} {l : Launch} {e : Env} {R : Room} {s : State} {m : MethodId} {args : Array Value} {below : List Frame} {meth : Method} {c : Code} {dC : Nat → ClassId} {dI : Nat → Nat → Nat} {cs : Nat → ClassId} {ad : Nat → Nat} {A : Nat → Prop} {D0 : Nat → Nat} {S' : SS} (F : Fx p s m args meth c cX12_keep 2 RX12 none dC dI cs A) (hR1 : 1 ≤ R.frames) (hR2 : 23 ≤ R.locals) : ∀ (n : Nat) (x1 : Int32) (S : SS), f_M_keep_L11 n x1 S = some S' → AW p l e R s m args below meth c dC dI cs ad A D0 none S' 2 11 [(0, .ref (ad 0)), (1, .int x1)] [] S := by
  have hx := F.1.1
  have hb := F.1.2.1
  intro n
  induction n with
  | zero => intro x1 S h; cases h
  | succ n ih =>
    intro x1 S h H locs ls w hl
    rw [f_M_keep_L11] at h
    refine lv_iload_n (pc := 11) hx hb dX12_keep_11 rfl (lv_at hl 1 rfl) ?_
    refine lv_sipush (pc := 12) (v := 8127) hx hb dX12_keep_12 (by decide) ?_
    refine lv_icmp_ge (pc := 15) (tgt := 40) hx hb dX12_keep_15 (by decide) (fun q => ?_) (fun q => ?_)
    · have h := ite_t q h
      refine lv_aload_n (pc := 40) hx hb dX12_keep_40 rfl (lv_at hl 0 rfl) ?_
      refine lv_dup (pc := 41) hx hb dX12_keep_41 rfl ?_
      refine s_getI (pc := 42) F w ds_0 (j := 60) vc_X12 vi_X12 rfl (by decide) kf_X12_328 dX12_keep_42 ?_
      refine lv_iconst (pc := 45) (v := 1) hx hb dX12_keep_45 (by decide) ?_
      refine lv_isub (pc := 46) hx hb dX12_keep_46 ?_
      refine s_putI (pc := 47) F w ds_0 vc_X12 vi_X12 tyX12_ok nmX12 (j := 60) rfl (by decide) kf_X12_328 rfl pd_I h dX12_keep_47 (fun S4 H locs h w => ?_)
      exact w_M_keep_j50 F (Nat.le_trans (by decide) hR1) (Nat.le_trans (by decide) hR2)  _ h _ _ _ w (lv_sub hl [0] rfl)
    · have h := ite_f q h
      refine lv_aload_n (pc := 18) hx hb dX12_keep_18 rfl (lv_at hl 0 rfl) ?_
      refine s_getR (pc := 19) F w 40 ds_0 (j := 59) vc_X12 vi_X12 rfl (by decide) kf_X12_135 dX12_keep_19 ?_
      refine lv_iload_n (pc := 22) hx hb dX12_keep_22 rfl (lv_at hl 1 rfl) ?_
      refine lv_aload_n (pc := 23) hx hb dX12_keep_23 rfl (lv_at hl 0 rfl) ?_
      refine s_getR (pc := 24) F w 40 ds_0 (j := 59) vc_X12 vi_X12 rfl (by decide) kf_X12_135 dX12_keep_24 ?_
      refine lv_iload_n (pc := 27) hx hb dX12_keep_27 rfl (lv_at hl 1 rfl) ?_
      refine lv_sipush (pc := 28) (v := 1161) hx hb dX12_keep_28 (by decide) ?_
      refine lv_iadd (pc := 31) hx hb dX12_keep_31 ?_
      refine s_iald (pc := 32) F w ds_40 h dX12_keep_32 (fun h => ?_)
      refine s_iast (pc := 33) F w ds_40 h dX12_keep_33 (fun S5 H locs h w => ?_)
      refine s_nm h (fun z6 ez6 h => ?_)
      refine lv_iinc (pc := 34) (v := z6) (lv' := [(1, .int z6), (0, .ref (ad 0))]) hx hb dX12_keep_34 hl (k := 1) rfl (by rw [ez6]; rfl) (by decide) rfl (fun ls hl => ?_)
      refine lv_goto (pc := 37) (tgt := 11) hx hb dX12_keep_37 (by decide) ?_
      exact ih _ _ h _ _ _ w (lv_sub hl [1, 0] rfl)
set_option maxRecDepth 100000 in
set_option maxHeartbeats 4000000 in
theorem m_M_keep  (S S' : SS) (h : f_M_keep  S = some S') : MT yX12_keep cX12_keep 2 none 1 23 (fun ad => [.ref (ad 0)]) S none S' := by
  refine MT.of RX12 (fun ad => [(0, .ref (ad 0))]) (by decide) rfl (fun _ => Nat.le_of_ble_eq_true rfl) (fun _ => rfl) ?_
  intro p l e R s m args below meth c dC dI cs ad A hR1 hR2 F H locs ls w hl
  have hx := F.1.1
  have hb := F.1.2.1
  rw [f_M_keep] at h
  refine lv_aload_n (pc := 0) hx hb dX12_keep_0 rfl (lv_at hl 0 rfl) ?_
  refine s_getI (pc := 1) F w ds_0 (j := 60) vc_X12 vi_X12 rfl (by decide) kf_X12_328 dX12_keep_1 ?_
  refine lv_bipush (pc := 4) (v := 8) hx hb dX12_keep_4 (by decide) ?_
  refine lv_icmp_ne (pc := 6) (tgt := 50) hx hb dX12_keep_6 (by decide) (fun q => ?_) (fun q => ?_)
  · have h := ite_f q h
    exact w_M_keep_j50 F (Nat.le_trans (by decide) hR1) (Nat.le_trans (by decide) hR2)  _ h _ _ _ w (lv_sub hl [0] rfl)
  · have h := ite_t q h
    refine lv_iconst (pc := 9) (v := 0) hx hb dX12_keep_9 (by decide) ?_
    refine lv_istore_n (pc := 10) (lv' := [(1, .int (0 : Int32)), (0, .ref (ad 0))]) hx hb dX12_keep_10 rfl hl (by decide) rfl (fun ls hl => ?_)
    exact w_M_keep_L11 F (Nat.le_trans (by decide) hR1) (Nat.le_trans (by decide) hR2) _ _ _ h _ _ _ w (lv_sub hl [1, 0] rfl)
def f_M_entered (a1 : Int32) (a2 : Int32) (S : SS) : Option (Int32 × SS) :=
  grd (inb ((S.1 0 62) - (S.1 0 62) / (40 : Int32) * (40 : Int32)) 40) (wr S 41 ((S.1 0 62) - (S.1 0 62) / (40 : Int32) * (40 : Int32)).toNatClampNeg a1 (fun S1 =>
  grd (inb ((S1.1 0 62) - (S1.1 0 62) / (40 : Int32) * (40 : Int32)) 40) (wr S1 42 ((S1.1 0 62) - (S1.1 0 62) / (40 : Int32) * (40 : Int32)).toNatClampNeg a2 (fun S2 =>
  wr S2 0 62 ((S2.1 0 62) + (1 : Int32)) (fun S3 =>
  some (a2, S3))))))
theorem dX12_entered_0 : decode cX12_entered 0 = .ok (.aload_n 0, 1) := dc_42 (by decide +kernel)
theorem dX12_entered_1 : decode cX12_entered 1 = .ok (.getfield 138, 3) := dc_180 (a := 0) (b := 138) (by decide +kernel)
theorem dX12_entered_4 : decode cX12_entered 4 = .ok (.aload_n 0, 1) := dc_42 (by decide +kernel)
theorem dX12_entered_5 : decode cX12_entered 5 = .ok (.getfield 340, 3) := dc_180 (a := 1) (b := 84) (by decide +kernel)
theorem dX12_entered_8 : decode cX12_entered 8 = .ok (.bipush 40, 2) := dc_16 (a := 40) (by decide +kernel) (by decide)
theorem dX12_entered_10 : decode cX12_entered 10 = .ok (.irem, 1) := dc_112 (by decide +kernel)
theorem dX12_entered_11 : decode cX12_entered 11 = .ok (.iload_n 1, 1) := dc_27 (by decide +kernel)
theorem dX12_entered_12 : decode cX12_entered 12 = .ok (.iastore, 1) := dc_79 (by decide +kernel)
theorem dX12_entered_13 : decode cX12_entered 13 = .ok (.aload_n 0, 1) := dc_42 (by decide +kernel)
theorem dX12_entered_14 : decode cX12_entered 14 = .ok (.getfield 141, 3) := dc_180 (a := 0) (b := 141) (by decide +kernel)
theorem dX12_entered_17 : decode cX12_entered 17 = .ok (.aload_n 0, 1) := dc_42 (by decide +kernel)
theorem dX12_entered_18 : decode cX12_entered 18 = .ok (.getfield 340, 3) := dc_180 (a := 1) (b := 84) (by decide +kernel)
theorem dX12_entered_21 : decode cX12_entered 21 = .ok (.bipush 40, 2) := dc_16 (a := 40) (by decide +kernel) (by decide)
theorem dX12_entered_23 : decode cX12_entered 23 = .ok (.irem, 1) := dc_112 (by decide +kernel)
theorem dX12_entered_24 : decode cX12_entered 24 = .ok (.iload_n 2, 1) := dc_28 (by decide +kernel)
theorem dX12_entered_25 : decode cX12_entered 25 = .ok (.iastore, 1) := dc_79 (by decide +kernel)
theorem dX12_entered_26 : decode cX12_entered 26 = .ok (.aload_n 0, 1) := dc_42 (by decide +kernel)
theorem dX12_entered_27 : decode cX12_entered 27 = .ok (.dup, 1) := dc_89 (by decide +kernel)
theorem dX12_entered_28 : decode cX12_entered 28 = .ok (.getfield 340, 3) := dc_180 (a := 1) (b := 84) (by decide +kernel)
theorem dX12_entered_31 : decode cX12_entered 31 = .ok (.iconst 1, 1) := dc_4 (by decide +kernel)
theorem dX12_entered_32 : decode cX12_entered 32 = .ok (.iadd, 1) := dc_96 (by decide +kernel)
theorem dX12_entered_33 : decode cX12_entered 33 = .ok (.putfield 340, 3) := dc_181 (a := 1) (b := 84) (by decide +kernel)
theorem dX12_entered_36 : decode cX12_entered 36 = .ok (.iload_n 2, 1) := dc_28 (by decide +kernel)
theorem dX12_entered_37 : decode cX12_entered 37 = .ok (.ireturn, 1) := dc_172 (by decide +kernel)
set_option maxRecDepth 100000 in
set_option maxHeartbeats 4000000 in
theorem m_M_entered (a1 : Int32) (a2 : Int32) (S S' : SS) (r : Int32) (h : f_M_entered a1 a2 S = some (r, S')) : MT yX12_entered cX12_entered 3 (some .int) 0 0 (fun ad => [.ref (ad 0), .int a1, .int a2]) S (some (.int r)) S' := by
  refine MT.of RX12 (fun ad => [(0, .ref (ad 0)), (1, .int a1), (2, .int a2)]) (by decide) rfl (fun _ => Nat.le_of_ble_eq_true rfl) (fun _ => rfl) ?_
  intro p l e R s m args below meth c dC dI cs ad A hR1 hR2 F H locs ls w hl
  have hx := F.1.1
  have hb := F.1.2.1
  rw [f_M_entered] at h
  refine lv_aload_n (pc := 0) hx hb dX12_entered_0 rfl (lv_at hl 0 rfl) ?_
  refine s_getR (pc := 1) F w 41 ds_0 (j := 63) vc_X12 vi_X12 rfl (by decide) kf_X12_138 dX12_entered_1 ?_
  refine lv_aload_n (pc := 4) hx hb dX12_entered_4 rfl (lv_at hl 0 rfl) ?_
  refine s_getI (pc := 5) F w ds_0 (j := 62) vc_X12 vi_X12 rfl (by decide) kf_X12_340 dX12_entered_5 ?_
  refine lv_bipush (pc := 8) (v := 40) hx hb dX12_entered_8 (by decide) ?_
  refine lv_irem (pc := 10) hx hb dX12_entered_10 (by decide) ?_
  refine lv_iload_n (pc := 11) hx hb dX12_entered_11 rfl (lv_at hl 1 rfl) ?_
  refine s_iast (pc := 12) F w ds_41 h dX12_entered_12 (fun S1 H locs h w => ?_)
  refine lv_aload_n (pc := 13) hx hb dX12_entered_13 rfl (lv_at hl 0 rfl) ?_
  refine s_getR (pc := 14) F w 42 ds_0 (j := 64) vc_X12 vi_X12 rfl (by decide) kf_X12_141 dX12_entered_14 ?_
  refine lv_aload_n (pc := 17) hx hb dX12_entered_17 rfl (lv_at hl 0 rfl) ?_
  refine s_getI (pc := 18) F w ds_0 (j := 62) vc_X12 vi_X12 rfl (by decide) kf_X12_340 dX12_entered_18 ?_
  refine lv_bipush (pc := 21) (v := 40) hx hb dX12_entered_21 (by decide) ?_
  refine lv_irem (pc := 23) hx hb dX12_entered_23 (by decide) ?_
  refine lv_iload_n (pc := 24) hx hb dX12_entered_24 rfl (lv_at hl 2 rfl) ?_
  refine s_iast (pc := 25) F w ds_42 h dX12_entered_25 (fun S2 H locs h w => ?_)
  refine lv_aload_n (pc := 26) hx hb dX12_entered_26 rfl (lv_at hl 0 rfl) ?_
  refine lv_dup (pc := 27) hx hb dX12_entered_27 rfl ?_
  refine s_getI (pc := 28) F w ds_0 (j := 62) vc_X12 vi_X12 rfl (by decide) kf_X12_340 dX12_entered_28 ?_
  refine lv_iconst (pc := 31) (v := 1) hx hb dX12_entered_31 (by decide) ?_
  refine lv_iadd (pc := 32) hx hb dX12_entered_32 ?_
  refine s_putI (pc := 33) F w ds_0 vc_X12 vi_X12 tyX12_ok nmX12 (j := 62) rfl (by decide) kf_X12_340 rfl pd_I h dX12_entered_33 (fun S3 H locs h w => ?_)
  refine lv_iload_n (pc := 36) hx hb dX12_entered_36 rfl (lv_at hl 2 rfl) ?_
  exact s_iret F w h dX12_entered_37
def f_M_danger (a1 : Int32) (a2 : Int32) (S : SS) : Option (Int32 × SS) :=
  if a2 < 0 then
    some ((-1 : Int32), S)
  else
    if a2 ≤ (9 : Int32) then
      bndv (f_M_begin  S) (fun S1 =>
      bndv (f_M_keep  S1) (fun S2 =>
      bnd (f_M_missThing a1 (1 : Int32) S2) (fun r4 S3 =>
      bnd (f_M_ends r4 S3) (fun r6 S5 =>
      if r6 = 0 then
        grd (inb a1 72) (
        nm (S5.1 27 a1.toNatClampNeg) (fun z7 =>
        grd (inb a1 72) (wr S5 27 a1.toNatClampNeg a2 (fun S8 =>
        bnd (f_M_entered (0 : Int32) z7 S8) (fun r10 S9 =>
        some (r10, S9))))))
      else
        bnd (f_M_entered (0 : Int32) (-2 : Int32) S5) (fun r12 S11 =>
        some (r12, S11))))))
    else
      some ((-1 : Int32), S)
theorem dX12_danger_0 : decode cX12_danger 0 = .ok (.iload_n 2, 1) := dc_28 (by decide +kernel)
theorem dX12_danger_1 : decode cX12_danger 1 = .ok (.ifCond .lt 9, 3) := dc_155 (a := 0) (b := 9) (by decide +kernel) (by decide)
theorem dX12_danger_4 : decode cX12_danger 4 = .ok (.iload_n 2, 1) := dc_28 (by decide +kernel)
theorem dX12_danger_5 : decode cX12_danger 5 = .ok (.bipush 9, 2) := dc_16 (a := 9) (by decide +kernel) (by decide)
theorem dX12_danger_7 : decode cX12_danger 7 = .ok (.if_icmp .le 5, 3) := dc_164 (a := 0) (b := 5) (by decide +kernel) (by decide)
theorem dX12_danger_10 : decode cX12_danger 10 = .ok (.iconst (-1), 1) := dc_2 (by decide +kernel)
theorem dX12_danger_11 : decode cX12_danger 11 = .ok (.ireturn, 1) := dc_172 (by decide +kernel)
theorem dX12_danger_12 : decode cX12_danger 12 = .ok (.aload_n 0, 1) := dc_42 (by decide +kernel)
theorem dX12_danger_13 : decode cX12_danger 13 = .ok (.invokevirtual 226, 3) := dc_182 (a := 0) (b := 226) (by decide +kernel)
theorem dX12_danger_16 : decode cX12_danger 16 = .ok (.aload_n 0, 1) := dc_42 (by decide +kernel)
theorem dX12_danger_17 : decode cX12_danger 17 = .ok (.invokevirtual 346, 3) := dc_182 (a := 1) (b := 90) (by decide +kernel)
theorem dX12_danger_20 : decode cX12_danger 20 = .ok (.aload_n 0, 1) := dc_42 (by decide +kernel)
theorem dX12_danger_21 : decode cX12_danger 21 = .ok (.aload_n 0, 1) := dc_42 (by decide +kernel)
theorem dX12_danger_22 : decode cX12_danger 22 = .ok (.iload_n 1, 1) := dc_27 (by decide +kernel)
theorem dX12_danger_23 : decode cX12_danger 23 = .ok (.iconst 1, 1) := dc_4 (by decide +kernel)
theorem dX12_danger_24 : decode cX12_danger 24 = .ok (.invokevirtual 293, 3) := dc_182 (a := 1) (b := 37) (by decide +kernel)
theorem dX12_danger_27 : decode cX12_danger 27 = .ok (.invokevirtual 236, 3) := dc_182 (a := 0) (b := 236) (by decide +kernel)
theorem dX12_danger_30 : decode cX12_danger 30 = .ok (.ifCond .eq 11, 3) := dc_153 (a := 0) (b := 11) (by decide +kernel) (by decide)
theorem dX12_danger_33 : decode cX12_danger 33 = .ok (.aload_n 0, 1) := dc_42 (by decide +kernel)
theorem dX12_danger_34 : decode cX12_danger 34 = .ok (.iconst 0, 1) := dc_3 (by decide +kernel)
theorem dX12_danger_35 : decode cX12_danger 35 = .ok (.bipush (-2), 2) := dc_16 (a := 254) (by decide +kernel) (by decide)
theorem dX12_danger_37 : decode cX12_danger 37 = .ok (.invokevirtual 349, 3) := dc_182 (a := 1) (b := 93) (by decide +kernel)
theorem dX12_danger_40 : decode cX12_danger 40 = .ok (.ireturn, 1) := dc_172 (by decide +kernel)
theorem dX12_danger_41 : decode cX12_danger 41 = .ok (.aload_n 0, 1) := dc_42 (by decide +kernel)
theorem dX12_danger_42 : decode cX12_danger 42 = .ok (.getfield 96, 3) := dc_180 (a := 0) (b := 96) (by decide +kernel)
theorem dX12_danger_45 : decode cX12_danger 45 = .ok (.iload_n 1, 1) := dc_27 (by decide +kernel)
theorem dX12_danger_46 : decode cX12_danger 46 = .ok (.iaload, 1) := dc_46 (by decide +kernel)
theorem dX12_danger_47 : decode cX12_danger 47 = .ok (.istore_n 3, 1) := dc_62 (by decide +kernel)
theorem dX12_danger_48 : decode cX12_danger 48 = .ok (.aload_n 0, 1) := dc_42 (by decide +kernel)
theorem dX12_danger_49 : decode cX12_danger 49 = .ok (.getfield 96, 3) := dc_180 (a := 0) (b := 96) (by decide +kernel)
theorem dX12_danger_52 : decode cX12_danger 52 = .ok (.iload_n 1, 1) := dc_27 (by decide +kernel)
theorem dX12_danger_53 : decode cX12_danger 53 = .ok (.iload_n 2, 1) := dc_28 (by decide +kernel)
theorem dX12_danger_54 : decode cX12_danger 54 = .ok (.iastore, 1) := dc_79 (by decide +kernel)
theorem dX12_danger_55 : decode cX12_danger 55 = .ok (.aload_n 0, 1) := dc_42 (by decide +kernel)
theorem dX12_danger_56 : decode cX12_danger 56 = .ok (.iconst 0, 1) := dc_3 (by decide +kernel)
theorem dX12_danger_57 : decode cX12_danger 57 = .ok (.iload_n 3, 1) := dc_29 (by decide +kernel)
theorem dX12_danger_58 : decode cX12_danger 58 = .ok (.invokevirtual 349, 3) := dc_182 (a := 1) (b := 93) (by decide +kernel)
theorem dX12_danger_61 : decode cX12_danger 61 = .ok (.ireturn, 1) := dc_172 (by decide +kernel)
set_option maxRecDepth 100000 in
set_option maxHeartbeats 4000000 in
theorem m_M_danger (a1 : Int32) (a2 : Int32) (S S' : SS) (r : Int32) (h : f_M_danger a1 a2 S = some (r, S')) : MT yX12_danger cX12_danger 4 (some .int) 2 45 (fun ad => [.ref (ad 0), .int a1, .int a2]) S (some (.int r)) S' := by
  refine MT.of RX12 (fun ad => [(0, .ref (ad 0)), (1, .int a1), (2, .int a2)]) (by decide) rfl (fun _ => Nat.le_of_ble_eq_true rfl) (fun _ => rfl) ?_
  intro p l e R s m args below meth c dC dI cs ad A hR1 hR2 F H locs ls w hl
  have hx := F.1.1
  have hb := F.1.2.1
  rw [f_M_danger] at h
  refine lv_iload_n (pc := 0) hx hb dX12_danger_0 rfl (lv_at hl 2 rfl) ?_
  refine lv_if_lt (pc := 1) (tgt := 10) hx hb dX12_danger_1 (by decide) (fun q => ?_) (fun q => ?_)
  · have h := ite_t q h
    refine lv_iconst (pc := 10) (v := -1) hx hb dX12_danger_10 (by decide) ?_
    exact s_iret F w h dX12_danger_11
  · have h := ite_f q h
    refine lv_iload_n (pc := 4) hx hb dX12_danger_4 rfl (lv_at hl 2 rfl) ?_
    refine lv_bipush (pc := 5) (v := 9) hx hb dX12_danger_5 (by decide) ?_
    refine lv_icmp_le (pc := 7) (tgt := 12) hx hb dX12_danger_7 (by decide) (fun q => ?_) (fun q => ?_)
    · have h := ite_t q h
      refine lv_aload_n (pc := 12) hx hb dX12_danger_12 rfl (lv_at hl 0 rfl) ?_
      obtain ⟨S1, hc, h⟩ := bndv_t h
      refine s_cvv (pc := 13) [] (fun ad => [.ref (ad 0)]) F w (m_M_begin  _ _ hc) rfl rfl hl.1 ds_0 vc_X12 rfl ok_X12_begin rfl kc_X12_begin kl_X12_226 ki_X12_begin kv_X12_begin kn_X12 ⟨Nat.le_trans (by decide) hR1, Nat.le_trans (by decide) hR2⟩ ⟨Nat.zero_le _, Nat.zero_le _⟩ (Nat.le_of_ble_eq_true rfl) dX12_danger_13 (fun H locs w => ?_)
      refine lv_aload_n (pc := 16) hx hb dX12_danger_16 rfl (lv_at hl 0 rfl) ?_
      obtain ⟨S2, hc, h⟩ := bndv_t h
      refine s_cvv (pc := 17) [] (fun ad => [.ref (ad 0)]) F w (m_M_keep  _ _ hc) rfl rfl hl.1 ds_0 vc_X12 rfl ok_X12_keep rfl kc_X12_keep kl_X12_346 ki_X12_keep kv_X12_keep kn_X12 ⟨Nat.le_trans (by decide) hR1, Nat.le_trans (by decide) hR2⟩ ⟨Nat.zero_le _, Nat.zero_le _⟩ (Nat.le_of_ble_eq_true rfl) dX12_danger_17 (fun H locs w => ?_)
      refine lv_aload_n (pc := 20) hx hb dX12_danger_20 rfl (lv_at hl 0 rfl) ?_
      refine lv_aload_n (pc := 21) hx hb dX12_danger_21 rfl (lv_at hl 0 rfl) ?_
      refine lv_iload_n (pc := 22) hx hb dX12_danger_22 rfl (lv_at hl 1 rfl) ?_
      refine lv_iconst (pc := 23) (v := 1) hx hb dX12_danger_23 (by decide) ?_
      obtain ⟨r4, S3, hc, h⟩ := bnd_t h
      refine s_cvi (pc := 24) [.int a1, .int (1 : Int32)] (fun ad => [.ref (ad 0), .int a1, .int (1 : Int32)]) F w (m_M_missThing _ _ _ _ _ hc) rfl rfl hl.1 ds_0 vc_X12 rfl ok_X12_missThing rfl kc_X12_missThing kl_X12_293 ki_X12_missThing kv_X12_missThing kn_X12 ⟨Nat.le_trans (by decide) hR1, Nat.le_trans (by decide) hR2⟩ ⟨Nat.zero_le _, Nat.zero_le _⟩ (Nat.le_of_ble_eq_true rfl) dX12_danger_24 (fun H locs w => ?_)
      obtain ⟨r6, S5, hc, h⟩ := bnd_t h
      refine s_cvi (pc := 27) [.int r4] (fun ad => [.ref (ad 0), .int r4]) F w (m_M_ends _ _ _ _ hc) rfl rfl hl.1 ds_0 vc_X12 rfl ok_X12_ends rfl kc_X12_ends kl_X12_236 ki_X12_ends kv_X12_ends kn_X12 ⟨Nat.le_trans (by decide) hR1, Nat.le_trans (by decide) hR2⟩ ⟨Nat.zero_le _, Nat.zero_le _⟩ (Nat.le_of_ble_eq_true rfl) dX12_danger_27 (fun H locs w => ?_)
      refine lv_if_eq (pc := 30) (tgt := 41) hx hb dX12_danger_30 (by decide) (fun q => ?_) (fun q => ?_)
      · have h := ite_t q h
        refine lv_aload_n (pc := 41) hx hb dX12_danger_41 rfl (lv_at hl 0 rfl) ?_
        refine s_getR (pc := 42) F w 27 ds_0 (j := 39) vc_X12 vi_X12 rfl (by decide) kf_X12_96 dX12_danger_42 ?_
        refine lv_iload_n (pc := 45) hx hb dX12_danger_45 rfl (lv_at hl 1 rfl) ?_
        refine s_iald (pc := 46) F w ds_27 h dX12_danger_46 (fun h => ?_)
        refine s_nm h (fun z7 ez7 h => ?_)
        rw [← ez7]
        refine lv_istore_n (pc := 47) (lv' := [(3, .int z7), (0, .ref (ad 0)), (1, .int a1), (2, .int a2)]) hx hb dX12_danger_47 rfl hl (by decide) rfl (fun ls hl => ?_)
        refine lv_aload_n (pc := 48) hx hb dX12_danger_48 rfl (lv_at hl 1 rfl) ?_
        refine s_getR (pc := 49) F w 27 ds_0 (j := 39) vc_X12 vi_X12 rfl (by decide) kf_X12_96 dX12_danger_49 ?_
        refine lv_iload_n (pc := 52) hx hb dX12_danger_52 rfl (lv_at hl 2 rfl) ?_
        refine lv_iload_n (pc := 53) hx hb dX12_danger_53 rfl (lv_at hl 3 rfl) ?_
        refine s_iast (pc := 54) F w ds_27 h dX12_danger_54 (fun S8 H locs h w => ?_)
        refine lv_aload_n (pc := 55) hx hb dX12_danger_55 rfl (lv_at hl 1 rfl) ?_
        refine lv_iconst (pc := 56) (v := 0) hx hb dX12_danger_56 (by decide) ?_
        refine lv_iload_n (pc := 57) hx hb dX12_danger_57 rfl (lv_at hl 0 rfl) ?_
        obtain ⟨r10, S9, hc, h⟩ := bnd_t h
        refine s_cvi (pc := 58) [.int (0 : Int32), .int z7] (fun ad => [.ref (ad 0), .int (0 : Int32), .int z7]) F w (m_M_entered _ _ _ _ _ hc) rfl rfl hl.1 ds_0 vc_X12 rfl ok_X12_entered rfl kc_X12_entered kl_X12_349 ki_X12_entered kv_X12_entered kn_X12 ⟨Nat.le_trans (by decide) hR1, Nat.le_trans (by decide) hR2⟩ ⟨Nat.zero_le _, Nat.zero_le _⟩ (Nat.le_of_ble_eq_true rfl) dX12_danger_58 (fun H locs w => ?_)
        exact s_iret F w h dX12_danger_61
      · have h := ite_f q h
        refine lv_aload_n (pc := 33) hx hb dX12_danger_33 rfl (lv_at hl 0 rfl) ?_
        refine lv_iconst (pc := 34) (v := 0) hx hb dX12_danger_34 (by decide) ?_
        refine lv_bipush (pc := 35) (v := -2) hx hb dX12_danger_35 (by decide) ?_
        obtain ⟨r12, S11, hc, h⟩ := bnd_t h
        refine s_cvi (pc := 37) [.int (0 : Int32), .int (-2 : Int32)] (fun ad => [.ref (ad 0), .int (0 : Int32), .int (-2 : Int32)]) F w (m_M_entered _ _ _ _ _ hc) rfl rfl hl.1 ds_0 vc_X12 rfl ok_X12_entered rfl kc_X12_entered kl_X12_349 ki_X12_entered kv_X12_entered kn_X12 ⟨Nat.le_trans (by decide) hR1, Nat.le_trans (by decide) hR2⟩ ⟨Nat.zero_le _, Nat.zero_le _⟩ (Nat.le_of_ble_eq_true rfl) dX12_danger_37 (fun H locs w => ?_)
        exact s_iret F w h dX12_danger_40
    · have h := ite_f q h
      refine lv_iconst (pc := 10) (v := -1) hx hb dX12_danger_10 (by decide) ?_
      exact s_iret F w h dX12_danger_11
def f_M_hold_j19  (x1 : Int32) (x2 : Int32) (S : SS) : Option (Int32 × SS) :=
    bndv (f_M_begin  S) (fun S1 =>
    bndv (f_M_keep  S1) (fun S2 =>
    bnd (f_M_missThing x1 (0 : Int32) S2) (fun r4 S3 =>
    bnd (f_M_ends r4 S3) (fun r6 S5 =>
    if r6 = 0 then
      grd (inb x1 72) (
      nm (S5.1 25 x1.toNatClampNeg) (fun z7 =>
      grd (inb x1 72) (wr S5 25 x1.toNatClampNeg x2 (fun S8 =>
      bnd (f_M_entered (1 : Int32) z7 S8) (fun r10 S9 =>
      some (r10, S9))))))
    else
      bnd (f_M_entered (1 : Int32) (-2 : Int32) S5) (fun r12 S11 =>
      some (r12, S11))))))
def f_M_hold (a1 : Int32) (a2 : Int32) (S : SS) : Option (Int32 × SS) :=
  if a2 = (-4 : Int32) then
    f_M_hold_j19 a1 a2 S
  else
    if a2 < 0 then
      some ((-1 : Int32), S)
    else
      if a2 ≤ (999 : Int32) then
        f_M_hold_j19 a1 a2 S
      else
        some ((-1 : Int32), S)
theorem dX12_hold_0 : decode cX12_hold 0 = .ok (.iload_n 2, 1) := dc_28 (by decide +kernel)
theorem dX12_hold_1 : decode cX12_hold 1 = .ok (.bipush (-4), 2) := dc_16 (a := 252) (by decide +kernel) (by decide)
theorem dX12_hold_3 : decode cX12_hold 3 = .ok (.if_icmp .eq 16, 3) := dc_159 (a := 0) (b := 16) (by decide +kernel) (by decide)
theorem dX12_hold_6 : decode cX12_hold 6 = .ok (.iload_n 2, 1) := dc_28 (by decide +kernel)
theorem dX12_hold_7 : decode cX12_hold 7 = .ok (.ifCond .lt 10, 3) := dc_155 (a := 0) (b := 10) (by decide +kernel) (by decide)
theorem dX12_hold_10 : decode cX12_hold 10 = .ok (.iload_n 2, 1) := dc_28 (by decide +kernel)
theorem dX12_hold_11 : decode cX12_hold 11 = .ok (.sipush 999, 3) := dc_17 (a := 3) (b := 231) (by decide +kernel) (by decide)
theorem dX12_hold_14 : decode cX12_hold 14 = .ok (.if_icmp .le 5, 3) := dc_164 (a := 0) (b := 5) (by decide +kernel) (by decide)
theorem dX12_hold_17 : decode cX12_hold 17 = .ok (.iconst (-1), 1) := dc_2 (by decide +kernel)
theorem dX12_hold_18 : decode cX12_hold 18 = .ok (.ireturn, 1) := dc_172 (by decide +kernel)
theorem dX12_hold_19 : decode cX12_hold 19 = .ok (.aload_n 0, 1) := dc_42 (by decide +kernel)
theorem dX12_hold_20 : decode cX12_hold 20 = .ok (.invokevirtual 226, 3) := dc_182 (a := 0) (b := 226) (by decide +kernel)
theorem dX12_hold_23 : decode cX12_hold 23 = .ok (.aload_n 0, 1) := dc_42 (by decide +kernel)
theorem dX12_hold_24 : decode cX12_hold 24 = .ok (.invokevirtual 346, 3) := dc_182 (a := 1) (b := 90) (by decide +kernel)
theorem dX12_hold_27 : decode cX12_hold 27 = .ok (.aload_n 0, 1) := dc_42 (by decide +kernel)
theorem dX12_hold_28 : decode cX12_hold 28 = .ok (.aload_n 0, 1) := dc_42 (by decide +kernel)
theorem dX12_hold_29 : decode cX12_hold 29 = .ok (.iload_n 1, 1) := dc_27 (by decide +kernel)
theorem dX12_hold_30 : decode cX12_hold 30 = .ok (.iconst 0, 1) := dc_3 (by decide +kernel)
theorem dX12_hold_31 : decode cX12_hold 31 = .ok (.invokevirtual 293, 3) := dc_182 (a := 1) (b := 37) (by decide +kernel)
theorem dX12_hold_34 : decode cX12_hold 34 = .ok (.invokevirtual 236, 3) := dc_182 (a := 0) (b := 236) (by decide +kernel)
theorem dX12_hold_37 : decode cX12_hold 37 = .ok (.ifCond .eq 11, 3) := dc_153 (a := 0) (b := 11) (by decide +kernel) (by decide)
theorem dX12_hold_40 : decode cX12_hold 40 = .ok (.aload_n 0, 1) := dc_42 (by decide +kernel)
theorem dX12_hold_41 : decode cX12_hold 41 = .ok (.iconst 1, 1) := dc_4 (by decide +kernel)
theorem dX12_hold_42 : decode cX12_hold 42 = .ok (.bipush (-2), 2) := dc_16 (a := 254) (by decide +kernel) (by decide)
theorem dX12_hold_44 : decode cX12_hold 44 = .ok (.invokevirtual 349, 3) := dc_182 (a := 1) (b := 93) (by decide +kernel)
theorem dX12_hold_47 : decode cX12_hold 47 = .ok (.ireturn, 1) := dc_172 (by decide +kernel)
theorem dX12_hold_48 : decode cX12_hold 48 = .ok (.aload_n 0, 1) := dc_42 (by decide +kernel)
theorem dX12_hold_49 : decode cX12_hold 49 = .ok (.getfield 90, 3) := dc_180 (a := 0) (b := 90) (by decide +kernel)
theorem dX12_hold_52 : decode cX12_hold 52 = .ok (.iload_n 1, 1) := dc_27 (by decide +kernel)
theorem dX12_hold_53 : decode cX12_hold 53 = .ok (.iaload, 1) := dc_46 (by decide +kernel)
theorem dX12_hold_54 : decode cX12_hold 54 = .ok (.istore_n 3, 1) := dc_62 (by decide +kernel)
theorem dX12_hold_55 : decode cX12_hold 55 = .ok (.aload_n 0, 1) := dc_42 (by decide +kernel)
theorem dX12_hold_56 : decode cX12_hold 56 = .ok (.getfield 90, 3) := dc_180 (a := 0) (b := 90) (by decide +kernel)
theorem dX12_hold_59 : decode cX12_hold 59 = .ok (.iload_n 1, 1) := dc_27 (by decide +kernel)
theorem dX12_hold_60 : decode cX12_hold 60 = .ok (.iload_n 2, 1) := dc_28 (by decide +kernel)
theorem dX12_hold_61 : decode cX12_hold 61 = .ok (.iastore, 1) := dc_79 (by decide +kernel)
theorem dX12_hold_62 : decode cX12_hold 62 = .ok (.aload_n 0, 1) := dc_42 (by decide +kernel)
theorem dX12_hold_63 : decode cX12_hold 63 = .ok (.iconst 1, 1) := dc_4 (by decide +kernel)
theorem dX12_hold_64 : decode cX12_hold 64 = .ok (.iload_n 3, 1) := dc_29 (by decide +kernel)
theorem dX12_hold_65 : decode cX12_hold 65 = .ok (.invokevirtual 349, 3) := dc_182 (a := 1) (b := 93) (by decide +kernel)
theorem dX12_hold_68 : decode cX12_hold 68 = .ok (.ireturn, 1) := dc_172 (by decide +kernel)
set_option maxRecDepth 100000 in
set_option maxHeartbeats 4000000 in
theorem w_M_hold_j19 {p : Program} {l : Launch} {e : Env} {R : Room} {s : State} {m : MethodId} {args : Array Value} {below : List Frame} {meth : Method} {c : Code} {dC : Nat → ClassId} {dI : Nat → Nat → Nat} {cs : Nat → ClassId} {ad : Nat → Nat} {A : Nat → Prop} {D0 : Nat → Nat} {S' : SS} {r : Int32} (F : Fx p s m args meth c cX12_hold 4 RX12 (some .int) dC dI cs A) (hR1 : 2 ≤ R.frames) (hR2 : 45 ≤ R.locals) (x1 : Int32) (x2 : Int32) (S : SS) (h : f_M_hold_j19 x1 x2 S = some (r, S')) : AW p l e R s m args below meth c dC dI cs ad A D0 (some (.int r)) S' 4 19 [(0, .ref (ad 0)), (1, .int x1), (2, .int x2)] [] S := by
  have hx := F.1.1
  have hb := F.1.2.1
  intro H locs ls w hl
  rw [f_M_hold_j19] at h
  refine lv_aload_n (pc := 19) hx hb dX12_hold_19 rfl (lv_at hl 0 rfl) ?_
  obtain ⟨S1, hc, h⟩ := bndv_t h
  refine s_cvv (pc := 20) [] (fun ad => [.ref (ad 0)]) F w (m_M_begin  _ _ hc) rfl rfl hl.1 ds_0 vc_X12 rfl ok_X12_begin rfl kc_X12_begin kl_X12_226 ki_X12_begin kv_X12_begin kn_X12 ⟨Nat.le_trans (by decide) hR1, Nat.le_trans (by decide) hR2⟩ ⟨Nat.zero_le _, Nat.zero_le _⟩ (Nat.le_of_ble_eq_true rfl) dX12_hold_20 (fun H locs w => ?_)
  refine lv_aload_n (pc := 23) hx hb dX12_hold_23 rfl (lv_at hl 0 rfl) ?_
  obtain ⟨S2, hc, h⟩ := bndv_t h
  refine s_cvv (pc := 24) [] (fun ad => [.ref (ad 0)]) F w (m_M_keep  _ _ hc) rfl rfl hl.1 ds_0 vc_X12 rfl ok_X12_keep rfl kc_X12_keep kl_X12_346 ki_X12_keep kv_X12_keep kn_X12 ⟨Nat.le_trans (by decide) hR1, Nat.le_trans (by decide) hR2⟩ ⟨Nat.zero_le _, Nat.zero_le _⟩ (Nat.le_of_ble_eq_true rfl) dX12_hold_24 (fun H locs w => ?_)
  refine lv_aload_n (pc := 27) hx hb dX12_hold_27 rfl (lv_at hl 0 rfl) ?_
  refine lv_aload_n (pc := 28) hx hb dX12_hold_28 rfl (lv_at hl 0 rfl) ?_
  refine lv_iload_n (pc := 29) hx hb dX12_hold_29 rfl (lv_at hl 1 rfl) ?_
  refine lv_iconst (pc := 30) (v := 0) hx hb dX12_hold_30 (by decide) ?_
  obtain ⟨r4, S3, hc, h⟩ := bnd_t h
  refine s_cvi (pc := 31) [.int x1, .int (0 : Int32)] (fun ad => [.ref (ad 0), .int x1, .int (0 : Int32)]) F w (m_M_missThing _ _ _ _ _ hc) rfl rfl hl.1 ds_0 vc_X12 rfl ok_X12_missThing rfl kc_X12_missThing kl_X12_293 ki_X12_missThing kv_X12_missThing kn_X12 ⟨Nat.le_trans (by decide) hR1, Nat.le_trans (by decide) hR2⟩ ⟨Nat.zero_le _, Nat.zero_le _⟩ (Nat.le_of_ble_eq_true rfl) dX12_hold_31 (fun H locs w => ?_)
  obtain ⟨r6, S5, hc, h⟩ := bnd_t h
  refine s_cvi (pc := 34) [.int r4] (fun ad => [.ref (ad 0), .int r4]) F w (m_M_ends _ _ _ _ hc) rfl rfl hl.1 ds_0 vc_X12 rfl ok_X12_ends rfl kc_X12_ends kl_X12_236 ki_X12_ends kv_X12_ends kn_X12 ⟨Nat.le_trans (by decide) hR1, Nat.le_trans (by decide) hR2⟩ ⟨Nat.zero_le _, Nat.zero_le _⟩ (Nat.le_of_ble_eq_true rfl) dX12_hold_34 (fun H locs w => ?_)
  refine lv_if_eq (pc := 37) (tgt := 48) hx hb dX12_hold_37 (by decide) (fun q => ?_) (fun q => ?_)
  · have h := ite_t q h
    refine lv_aload_n (pc := 48) hx hb dX12_hold_48 rfl (lv_at hl 0 rfl) ?_
    refine s_getR (pc := 49) F w 25 ds_0 (j := 37) vc_X12 vi_X12 rfl (by decide) kf_X12_90 dX12_hold_49 ?_
    refine lv_iload_n (pc := 52) hx hb dX12_hold_52 rfl (lv_at hl 1 rfl) ?_
    refine s_iald (pc := 53) F w ds_25 h dX12_hold_53 (fun h => ?_)
    refine s_nm h (fun z7 ez7 h => ?_)
    rw [← ez7]
    refine lv_istore_n (pc := 54) (lv' := [(3, .int z7), (0, .ref (ad 0)), (1, .int x1), (2, .int x2)]) hx hb dX12_hold_54 rfl hl (by decide) rfl (fun ls hl => ?_)
    refine lv_aload_n (pc := 55) hx hb dX12_hold_55 rfl (lv_at hl 1 rfl) ?_
    refine s_getR (pc := 56) F w 25 ds_0 (j := 37) vc_X12 vi_X12 rfl (by decide) kf_X12_90 dX12_hold_56 ?_
    refine lv_iload_n (pc := 59) hx hb dX12_hold_59 rfl (lv_at hl 2 rfl) ?_
    refine lv_iload_n (pc := 60) hx hb dX12_hold_60 rfl (lv_at hl 3 rfl) ?_
    refine s_iast (pc := 61) F w ds_25 h dX12_hold_61 (fun S8 H locs h w => ?_)
    refine lv_aload_n (pc := 62) hx hb dX12_hold_62 rfl (lv_at hl 1 rfl) ?_
    refine lv_iconst (pc := 63) (v := 1) hx hb dX12_hold_63 (by decide) ?_
    refine lv_iload_n (pc := 64) hx hb dX12_hold_64 rfl (lv_at hl 0 rfl) ?_
    obtain ⟨r10, S9, hc, h⟩ := bnd_t h
    refine s_cvi (pc := 65) [.int (1 : Int32), .int z7] (fun ad => [.ref (ad 0), .int (1 : Int32), .int z7]) F w (m_M_entered _ _ _ _ _ hc) rfl rfl hl.1 ds_0 vc_X12 rfl ok_X12_entered rfl kc_X12_entered kl_X12_349 ki_X12_entered kv_X12_entered kn_X12 ⟨Nat.le_trans (by decide) hR1, Nat.le_trans (by decide) hR2⟩ ⟨Nat.zero_le _, Nat.zero_le _⟩ (Nat.le_of_ble_eq_true rfl) dX12_hold_65 (fun H locs w => ?_)
    exact s_iret F w h dX12_hold_68
  · have h := ite_f q h
    refine lv_aload_n (pc := 40) hx hb dX12_hold_40 rfl (lv_at hl 0 rfl) ?_
    refine lv_iconst (pc := 41) (v := 1) hx hb dX12_hold_41 (by decide) ?_
    refine lv_bipush (pc := 42) (v := -2) hx hb dX12_hold_42 (by decide) ?_
    obtain ⟨r12, S11, hc, h⟩ := bnd_t h
    refine s_cvi (pc := 44) [.int (1 : Int32), .int (-2 : Int32)] (fun ad => [.ref (ad 0), .int (1 : Int32), .int (-2 : Int32)]) F w (m_M_entered _ _ _ _ _ hc) rfl rfl hl.1 ds_0 vc_X12 rfl ok_X12_entered rfl kc_X12_entered kl_X12_349 ki_X12_entered kv_X12_entered kn_X12 ⟨Nat.le_trans (by decide) hR1, Nat.le_trans (by decide) hR2⟩ ⟨Nat.zero_le _, Nat.zero_le _⟩ (Nat.le_of_ble_eq_true rfl) dX12_hold_44 (fun H locs w => ?_)
    exact s_iret F w h dX12_hold_47
set_option maxRecDepth 100000 in
set_option maxHeartbeats 4000000 in
theorem m_M_hold (a1 : Int32) (a2 : Int32) (S S' : SS) (r : Int32) (h : f_M_hold a1 a2 S = some (r, S')) : MT yX12_hold cX12_hold 4 (some .int) 2 45 (fun ad => [.ref (ad 0), .int a1, .int a2]) S (some (.int r)) S' := by
  refine MT.of RX12 (fun ad => [(0, .ref (ad 0)), (1, .int a1), (2, .int a2)]) (by decide) rfl (fun _ => Nat.le_of_ble_eq_true rfl) (fun _ => rfl) ?_
  intro p l e R s m args below meth c dC dI cs ad A hR1 hR2 F H locs ls w hl
  have hx := F.1.1
  have hb := F.1.2.1
  rw [f_M_hold] at h
  refine lv_iload_n (pc := 0) hx hb dX12_hold_0 rfl (lv_at hl 2 rfl) ?_
  refine lv_bipush (pc := 1) (v := -4) hx hb dX12_hold_1 (by decide) ?_
  refine lv_icmp_eq (pc := 3) (tgt := 19) hx hb dX12_hold_3 (by decide) (fun q => ?_) (fun q => ?_)
  · have h := ite_t q h
    exact w_M_hold_j19 F (Nat.le_trans (by decide) hR1) (Nat.le_trans (by decide) hR2) _ _ _ h _ _ _ w (lv_sub hl [0, 1, 2] rfl)
  · have h := ite_f q h
    refine lv_iload_n (pc := 6) hx hb dX12_hold_6 rfl (lv_at hl 2 rfl) ?_
    refine lv_if_lt (pc := 7) (tgt := 17) hx hb dX12_hold_7 (by decide) (fun q => ?_) (fun q => ?_)
    · have h := ite_t q h
      refine lv_iconst (pc := 17) (v := -1) hx hb dX12_hold_17 (by decide) ?_
      exact s_iret F w h dX12_hold_18
    · have h := ite_f q h
      refine lv_iload_n (pc := 10) hx hb dX12_hold_10 rfl (lv_at hl 2 rfl) ?_
      refine lv_sipush (pc := 11) (v := 999) hx hb dX12_hold_11 (by decide) ?_
      refine lv_icmp_le (pc := 14) (tgt := 19) hx hb dX12_hold_14 (by decide) (fun q => ?_) (fun q => ?_)
      · have h := ite_t q h
        exact w_M_hold_j19 F (Nat.le_trans (by decide) hR1) (Nat.le_trans (by decide) hR2) _ _ _ h _ _ _ w (lv_sub hl [0, 1, 2] rfl)
      · have h := ite_f q h
        refine lv_iconst (pc := 17) (v := -1) hx hb dX12_hold_17 (by decide) ?_
        exact s_iret F w h dX12_hold_18
