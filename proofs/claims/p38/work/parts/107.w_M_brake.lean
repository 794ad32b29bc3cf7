/-! ===== printed by wip/gen: M_brake M_perAxle M_test M_mayLeave M_missLeave M_leave M_roll M_store M_rolled M_at ===== -/
def f_M_brake (a1 : Int32) (S : SS) : Option (Int32 × SS) :=
  grd (inb a1 72) (
  if (S.1 18 a1.toNatClampNeg) = (0 : Int32) then
    bndv (f_M_note (6 : Int32) S) (fun S1 =>
    grd (inb a1 72) (
    some ((4 : Int32) * (S1.1 28 a1.toNatClampNeg), S1)))
  else
  if (S.1 18 a1.toNatClampNeg) = (1 : Int32) then
    bndv (f_M_note (6 : Int32) S) (fun S2 =>
    grd (inb a1 72) (
    some ((4 : Int32) * (S2.1 28 a1.toNatClampNeg), S2)))
  else
  if (S.1 18 a1.toNatClampNeg) = (2 : Int32) then
    bndv (f_M_note (7 : Int32) S) (fun S3 =>
    bndv (f_M_note (6 : Int32) S3) (fun S4 =>
    grd (inb a1 72) (
    some (((4 : Int32) * (S4.1 28 a1.toNatClampNeg)) + (2 : Int32), S4))))
  else
  if (S.1 18 a1.toNatClampNeg) = (3 : Int32) then
    bndv (f_M_note (8 : Int32) S) (fun S5 =>
    grd (inb a1 72) (
    some ((3 : Int32) * (S5.1 28 a1.toNatClampNeg), S5)))
  else
  if (S.1 18 a1.toNatClampNeg) = (4 : Int32) then
    bndv (f_M_note (9 : Int32) S) (fun S6 =>
    grd (inb a1 72) (
    some (S6.1 28 a1.toNatClampNeg, S6)))
  else
  if (S.1 18 a1.toNatClampNeg) = (5 : Int32) then
    bndv (f_M_note (10 : Int32) S) (fun S7 =>
    some ((30 : Int32), S7))
  else
  bndv (f_M_note (11 : Int32) S) (fun S8 =>
  bndv (f_M_note (10 : Int32) S8) (fun S9 =>
  some ((35 : Int32), S9))))
theorem dX12_brake_0 : decode cX12_brake 0 = .ok (.aload_n 0, 1) := dc_42 (by decide +kernel)
theorem dX12_brake_1 : decode cX12_brake 1 = .ok (.getfield 69, 3) := dc_180 (a := 0) (b := 69) (by decide +kernel)
theorem dX12_brake_4 : decode cX12_brake 4 = .ok (.iload_n 1, 1) := dc_27 (by decide +kernel)
theorem dX12_brake_5 : decode cX12_brake 5 = .ok (.iaload, 1) := dc_46 (by decide +kernel)
theorem dX12_brake_6 : decode cX12_brake 6 = .ok (.tableswitch 113 0 5 #[38, 38, 53, 76, 91, 104], 38) := by decide +kernel
theorem dX12_brake_44 : decode cX12_brake 44 = .ok (.aload_n 0, 1) := dc_42 (by decide +kernel)
theorem dX12_brake_45 : decode cX12_brake 45 = .ok (.bipush 6, 2) := dc_16 (a := 6) (by decide +kernel) (by decide)
theorem dX12_brake_47 : decode cX12_brake 47 = .ok (.invokevirtual 296, 3) := dc_182 (a := 1) (b := 40) (by decide +kernel)
theorem dX12_brake_50 : decode cX12_brake 50 = .ok (.iconst 4, 1) := dc_7 (by decide +kernel)
theorem dX12_brake_51 : decode cX12_brake 51 = .ok (.aload_n 0, 1) := dc_42 (by decide +kernel)
theorem dX12_brake_52 : decode cX12_brake 52 = .ok (.getfield 99, 3) := dc_180 (a := 0) (b := 99) (by decide +kernel)
theorem dX12_brake_55 : decode cX12_brake 55 = .ok (.iload_n 1, 1) := dc_27 (by decide +kernel)
theorem dX12_brake_56 : decode cX12_brake 56 = .ok (.iaload, 1) := dc_46 (by decide +kernel)
theorem dX12_brake_57 : decode cX12_brake 57 = .ok (.imul, 1) := dc_104 (by decide +kernel)
theorem dX12_brake_58 : decode cX12_brake 58 = .ok (.ireturn, 1) := dc_172 (by decide +kernel)
theorem dX12_brake_59 : decode cX12_brake 59 = .ok (.aload_n 0, 1) := dc_42 (by decide +kernel)
theorem dX12_brake_60 : decode cX12_brake 60 = .ok (.bipush 7, 2) := dc_16 (a := 7) (by decide +kernel) (by decide)
theorem dX12_brake_62 : decode cX12_brake 62 = .ok (.invokevirtual 296, 3) := dc_182 (a := 1) (b := 40) (by decide +kernel)
theorem dX12_brake_65 : decode cX12_brake 65 = .ok (.aload_n 0, 1) := dc_42 (by decide +kernel)
theorem dX12_brake_66 : decode cX12_brake 66 = .ok (.bipush 6, 2) := dc_16 (a := 6) (by decide +kernel) (by decide)
theorem dX12_brake_68 : decode cX12_brake 68 = .ok (.invokevirtual 296, 3) := dc_182 (a := 1) (b := 40) (by decide +kernel)
theorem dX12_brake_71 : decode cX12_brake 71 = .ok (.iconst 4, 1) := dc_7 (by decide +kernel)
theorem dX12_brake_72 : decode cX12_brake 72 = .ok (.aload_n 0, 1) := dc_42 (by decide +kernel)
theorem dX12_brake_73 : decode cX12_brake 73 = .ok (.getfield 99, 3) := dc_180 (a := 0) (b := 99) (by decide +kernel)
theorem dX12_brake_76 : decode cX12_brake 76 = .ok (.iload_n 1, 1) := dc_27 (by decide +kernel)
theorem dX12_brake_77 : decode cX12_brake 77 = .ok (.iaload, 1) := dc_46 (by decide +kernel)
theorem dX12_brake_78 : decode cX12_brake 78 = .ok (.imul, 1) := dc_104 (by decide +kernel)
theorem dX12_brake_79 : decode cX12_brake 79 = .ok (.iconst 2, 1) := dc_5 (by decide +kernel)
theorem dX12_brake_80 : decode cX12_brake 80 = .ok (.iadd, 1) := dc_96 (by decide +kernel)
theorem dX12_brake_81 : decode cX12_brake 81 = .ok (.ireturn, 1) := dc_172 (by decide +kernel)
theorem dX12_brake_82 : decode cX12_brake 82 = .ok (.aload_n 0, 1) := dc_42 (by decide +kernel)
theorem dX12_brake_83 : decode cX12_brake 83 = .ok (.bipush 8, 2) := dc_16 (a := 8) (by decide +kernel) (by decide)
theorem dX12_brake_85 : decode cX12_brake 85 = .ok (.invokevirtual 296, 3) := dc_182 (a := 1) (b := 40) (by decide +kernel)
theorem dX12_brake_88 : decode cX12_brake 88 = .ok (.iconst 3, 1) := dc_6 (by decide +kernel)
theorem dX12_brake_89 : decode cX12_brake 89 = .ok (.aload_n 0, 1) := dc_42 (by decide +kernel)
theorem dX12_brake_90 : decode cX12_brake 90 = .ok (.getfield 99, 3) := dc_180 (a := 0) (b := 99) (by decide +kernel)
theorem dX12_brake_93 : decode cX12_brake 93 = .ok (.iload_n 1, 1) := dc_27 (by decide +kernel)
theorem dX12_brake_94 : decode cX12_brake 94 = .ok (.iaload, 1) := dc_46 (by decide +kernel)
theorem dX12_brake_95 : decode cX12_brake 95 = .ok (.imul, 1) := dc_104 (by decide +kernel)
theorem dX12_brake_96 : decode cX12_brake 96 = .ok (.ireturn, 1) := dc_172 (by decide +kernel)
theorem dX12_brake_97 : decode cX12_brake 97 = .ok (.aload_n 0, 1) := dc_42 (by decide +kernel)
theorem dX12_brake_98 : decode cX12_brake 98 = .ok (.bipush 9, 2) := dc_16 (a := 9) (by decide +kernel) (by decide)
theorem dX12_brake_100 : decode cX12_brake 100 = .ok (.invokevirtual 296, 3) := dc_182 (a := 1) (b := 40) (by decide +kernel)
theorem dX12_brake_103 : decode cX12_brake 103 = .ok (.aload_n 0, 1) := dc_42 (by decide +kernel)
theorem dX12_brake_104 : decode cX12_brake 104 = .ok (.getfield 99, 3) := dc_180 (a := 0) (b := 99) (by decide +kernel)
theorem dX12_brake_107 : decode cX12_brake 107 = .ok (.iload_n 1, 1) := dc_27 (by decide +kernel)
theorem dX12_brake_108 : decode cX12_brake 108 = .ok (.iaload, 1) := dc_46 (by decide +kernel)
theorem dX12_brake_109 : decode cX12_brake 109 = .ok (.ireturn, 1) := dc_172 (by decide +kernel)
theorem dX12_brake_110 : decode cX12_brake 110 = .ok (.aload_n 0, 1) := dc_42 (by decide +kernel)
theorem dX12_brake_111 : decode cX12_brake 111 = .ok (.bipush 10, 2) := dc_16 (a := 10) (by decide +kernel) (by decide)
theorem dX12_brake_113 : decode cX12_brake 113 = .ok (.invokevirtual 296, 3) := dc_182 (a := 1) (b := 40) (by decide +kernel)
theorem dX12_brake_116 : decode cX12_brake 116 = .ok (.bipush 30, 2) := dc_16 (a := 30) (by decide +kernel) (by decide)
theorem dX12_brake_118 : decode cX12_brake 118 = .ok (.ireturn, 1) := dc_172 (by decide +kernel)
theorem dX12_brake_119 : decode cX12_brake 119 = .ok (.aload_n 0, 1) := dc_42 (by decide +kernel)
theorem dX12_brake_120 : decode cX12_brake 120 = .ok (.bipush 11, 2) := dc_16 (a := 11) (by decide +kernel) (by decide)
theorem dX12_brake_122 : decode cX12_brake 122 = .ok (.invokevirtual 296, 3) := dc_182 (a := 1) (b := 40) (by decide +kernel)
theorem dX12_brake_125 : decode cX12_brake 125 = .ok (.aload_n 0, 1) := dc_42 (by decide +kernel)
theorem dX12_brake_126 : decode cX12_brake 126 = .ok (.bipush 10, 2) := dc_16 (a := 10) (by decide +kernel) (by decide)
theorem dX12_brake_128 : decode cX12_brake 128 = .ok (.invokevirtual 296, 3) := dc_182 (a := 1) (b := 40) (by decide +kernel)
theorem dX12_brake_131 : decode cX12_brake 131 = .ok (.bipush 35, 2) := dc_16 (a := 35) (by decide +kernel) (by decide)
theorem dX12_brake_133 : decode cX12_brake 133 = .ok (.ireturn, 1) := dc_172 (by decide +kernel)
set_option maxRecDepth 100000 in
set_option maxHeartbeats 4000000 in
theorem m_M_brake (a1 : Int32) (S S' : SS) (r : Int32) (h : f_M_brake a1 S = some (r, S')) : MT yX12_brake cX12_brake 2 (some .int) 1 21 (fun ad => [.ref (ad 0), .int a1]) S (some (.int r)) S' := by
  refine MT.of RX12 (fun ad => [(0, .ref (ad 0)), (1, .int a1)]) (by decide) rfl (fun _ => Nat.le_of_ble_eq_true rfl) (fun _ => rfl) ?_
  intro p l e R s m args below meth c dC dI cs ad A hR1 hR2 F H locs ls w hl
  have hx := F.1.1
  have hb := F.1.2.1
  rw [f_M_brake] at h
  refine lv_aload_n (pc := 0) hx hb dX12_brake_0 rfl (lv_at hl 0 rfl) ?_
  refine s_getR (pc := 1) F w 18 ds_0 (j := 30) vc_X12 vi_X12 rfl (by decide) kf_X12_69 dX12_brake_1 ?_
  refine lv_iload_n (pc := 4) hx hb dX12_brake_4 rfl (lv_at hl 1 rfl) ?_
  refine s_iald (pc := 5) F w ds_18 h dX12_brake_5 (fun h => ?_)
  rcases Decidable.em (S.1 18 a1.toNatClampNeg = (0 : Int32)) with q0 | q0
  · refine lv_tableIn (pc := 6) (tgt := 44) (off := 38) hx hb dX12_brake_6 (by rw [q0]; decide) (by rw [q0]; decide) (by rw [q0]; rfl) (by decide) ?_
    have h := ite_t q0 h
    refine lv_aload_n (pc := 44) hx hb dX12_brake_44 rfl (lv_at hl 0 rfl) ?_
    refine lv_bipush (pc := 45) (v := 6) hx hb dX12_brake_45 (by decide) ?_
    obtain ⟨S1, hc, h⟩ := bndv_t h
    refine s_cvv (pc := 47) [.int (6 : Int32)] (fun ad => [.ref (ad 0), .int (6 : Int32)]) F w (m_M_note _ _ _ hc) rfl rfl hl.1 ds_0 vc_X12 rfl ok_X12_note rfl kc_X12_note kl_X12_296 ki_X12_note kv_X12_note kn_X12 ⟨Nat.le_trans (by decide) hR1, Nat.le_trans (by decide) hR2⟩ ⟨Nat.zero_le _, Nat.zero_le _⟩ (Nat.le_of_ble_eq_true rfl) dX12_brake_47 (fun H locs w => ?_)
    refine lv_iconst (pc := 50) (v := 4) hx hb dX12_brake_50 (by decide) ?_
    refine lv_aload_n (pc := 51) hx hb dX12_brake_51 rfl (lv_at hl 0 rfl) ?_
    refine s_getR (pc := 52) F w 28 ds_0 (j := 40) vc_X12 vi_X12 rfl (by decide) kf_X12_99 dX12_brake_52 ?_
    refine lv_iload_n (pc := 55) hx hb dX12_brake_55 rfl (lv_at hl 1 rfl) ?_
    refine s_iald (pc := 56) F w ds_28 h dX12_brake_56 (fun h => ?_)
    refine lv_imul (pc := 57) hx hb dX12_brake_57 ?_
    exact s_iret F w h dX12_brake_58
  have h := ite_f q0 h
  rcases Decidable.em (S.1 18 a1.toNatClampNeg = (1 : Int32)) with q1 | q1
  · refine lv_tableIn (pc := 6) (tgt := 44) (off := 38) hx hb dX12_brake_6 (by rw [q1]; decide) (by rw [q1]; decide) (by rw [q1]; rfl) (by decide) ?_
    have h := ite_t q1 h
    refine lv_aload_n (pc := 44) hx hb dX12_brake_44 rfl (lv_at hl 0 rfl) ?_
    refine lv_bipush (pc := 45) (v := 6) hx hb dX12_brake_45 (by decide) ?_
    obtain ⟨S2, hc, h⟩ := bndv_t h
    refine s_cvv (pc := 47) [.int (6 : Int32)] (fun ad => [.ref (ad 0), .int (6 : Int32)]) F w (m_M_note _ _ _ hc) rfl rfl hl.1 ds_0 vc_X12 rfl ok_X12_note rfl kc_X12_note kl_X12_296 ki_X12_note kv_X12_note kn_X12 ⟨Nat.le_trans (by decide) hR1, Nat.le_trans (by decide) hR2⟩ ⟨Nat.zero_le _, Nat.zero_le _⟩ (Nat.le_of_ble_eq_true rfl) dX12_brake_47 (fun H locs w => ?_)
    refine lv_iconst (pc := 50) (v := 4) hx hb dX12_brake_50 (by decide) ?_
    refine lv_aload_n (pc := 51) hx hb dX12_brake_51 rfl (lv_at hl 0 rfl) ?_
    refine s_getR (pc := 52) F w 28 ds_0 (j := 40) vc_X12 vi_X12 rfl (by decide) kf_X12_99 dX12_brake_52 ?_
    refine lv_iload_n (pc := 55) hx hb dX12_brake_55 rfl (lv_at hl 1 rfl) ?_
    refine s_iald (pc := 56) F w ds_28 h dX12_brake_56 (fun h => ?_)
    refine lv_imul (pc := 57) hx hb dX12_brake_57 ?_
    exact s_iret F w h dX12_brake_58
  have h := ite_f q1 h
  rcases Decidable.em (S.1 18 a1.toNatClampNeg = (2 : Int32)) with q2 | q2
  · refine lv_tableIn (pc := 6) (tgt := 59) (off := 53) hx hb dX12_brake_6 (by rw [q2]; decide) (by rw [q2]; decide) (by rw [q2]; rfl) (by decide) ?_
    have h := ite_t q2 h
    refine lv_aload_n (pc := 59) hx hb dX12_brake_59 rfl (lv_at hl 0 rfl) ?_
    refine lv_bipush (pc := 60) (v := 7) hx hb dX12_brake_60 (by decide) ?_
    obtain ⟨S3, hc, h⟩ := bndv_t h
    refine s_cvv (pc := 62) [.int (7 : Int32)] (fun ad => [.ref (ad 0), .int (7 : Int32)]) F w (m_M_note _ _ _ hc) rfl rfl hl.1 ds_0 vc_X12 rfl ok_X12_note rfl kc_X12_note kl_X12_296 ki_X12_note kv_X12_note kn_X12 ⟨Nat.le_trans (by decide) hR1, Nat.le_trans (by decide) hR2⟩ ⟨Nat.zero_le _, Nat.zero_le _⟩ (Nat.le_of_ble_eq_true rfl) dX12_brake_62 (fun H locs w => ?_)
    refine lv_aload_n (pc := 65) hx hb dX12_brake_65 rfl (lv_at hl 0 rfl) ?_
    refine lv_bipush (pc := 66) (v := 6) hx hb dX12_brake_66 (by decide) ?_
    obtain ⟨S4, hc, h⟩ := bndv_t h
    refine s_cvv (pc := 68) [.int (6 : Int32)] (fun ad => [.ref (ad 0), .int (6 : Int32)]) F w (m_M_note _ _ _ hc) rfl rfl hl.1 ds_0 vc_X12 rfl ok_X12_note rfl kc_X12_note kl_X12_296 ki_X12_note kv_X12_note kn_X12 ⟨Nat.le_trans (by decide) hR1, Nat.le_trans (by decide) hR2⟩ ⟨Nat.zero_le _, Nat.zero_le _⟩ (Nat.le_of_ble_eq_true rfl) dX12_brake_68 (fun H locs w => ?_)
    refine lv_iconst (pc := 71) (v := 4) hx hb dX12_brake_71 (by decide) ?_
    refine lv_aload_n (pc := 72) hx hb dX12_brake_72 rfl (lv_at hl 0 rfl) ?_
    refine s_getR (pc := 73) F w 28 ds_0 (j := 40) vc_X12 vi_X12 rfl (by decide) kf_X12_99 dX12_brake_73 ?_
    refine lv_iload_n (pc := 76) hx hb dX12_brake_76 rfl (lv_at hl 1 rfl) ?_
    refine s_iald (pc := 77) F w ds_28 h dX12_brake_77 (fun h => ?_)
    refine lv_imul (pc := 78) hx hb dX12_brake_78 ?_
    refine lv_iconst (pc := 79) (v := 2) hx hb dX12_brake_79 (by decide) ?_
    refine lv_iadd (pc := 80) hx hb dX12_brake_80 ?_
    exact s_iret F w h dX12_brake_81
  have h := ite_f q2 h
  rcases Decidable.em (S.1 18 a1.toNatClampNeg = (3 : Int32)) with q3 | q3
  · refine lv_tableIn (pc := 6) (tgt := 82) (off := 76) hx hb dX12_brake_6 (by rw [q3]; decide) (by rw [q3]; decide) (by rw [q3]; rfl) (by decide) ?_
    have h := ite_t q3 h
    refine lv_aload_n (pc := 82) hx hb dX12_brake_82 rfl (lv_at hl 0 rfl) ?_
    refine lv_bipush (pc := 83) (v := 8) hx hb dX12_brake_83 (by decide) ?_
    obtain ⟨S5, hc, h⟩ := bndv_t h
    refine s_cvv (pc := 85) [.int (8 : Int32)] (fun ad => [.ref (ad 0), .int (8 : Int32)]) F w (m_M_note _ _ _ hc) rfl rfl hl.1 ds_0 vc_X12 rfl ok_X12_note rfl kc_X12_note kl_X12_296 ki_X12_note kv_X12_note kn_X12 ⟨Nat.le_trans (by decide) hR1, Nat.le_trans (by decide) hR2⟩ ⟨Nat.zero_le _, Nat.zero_le _⟩ (Nat.le_of_ble_eq_true rfl) dX12_brake_85 (fun H locs w => ?_)
    refine lv_iconst (pc := 88) (v := 3) hx hb dX12_brake_88 (by decide) ?_
    refine lv_aload_n (pc := 89) hx hb dX12_brake_89 rfl (lv_at hl 0 rfl) ?_
    refine s_getR (pc := 90) F w 28 ds_0 (j := 40) vc_X12 vi_X12 rfl (by decide) kf_X12_99 dX12_brake_90 ?_
    refine lv_iload_n (pc := 93) hx hb dX12_brake_93 rfl (lv_at hl 1 rfl) ?_
    refine s_iald (pc := 94) F w ds_28 h dX12_brake_94 (fun h => ?_)
    refine lv_imul (pc := 95) hx hb dX12_brake_95 ?_
    exact s_iret F w h dX12_brake_96
  have h := ite_f q3 h
  rcases Decidable.em (S.1 18 a1.toNatClampNeg = (4 : Int32)) with q4 | q4
  · refine lv_tableIn (pc := 6) (tgt := 97) (off := 91) hx hb dX12_brake_6 (by rw [q4]; decide) (by rw [q4]; decide) (by rw [q4]; rfl) (by decide) ?_
    have h := ite_t q4 h
    refine lv_aload_n (pc := 97) hx hb dX12_brake_97 rfl (lv_at hl 0 rfl) ?_
    refine lv_bipush (pc := 98) (v := 9) hx hb dX12_brake_98 (by decide) ?_
    obtain ⟨S6, hc, h⟩ := bndv_t h
    refine s_cvv (pc := 100) [.int (9 : Int32)] (fun ad => [.ref (ad 0), .int (9 : Int32)]) F w (m_M_note _ _ _ hc) rfl rfl hl.1 ds_0 vc_X12 rfl ok_X12_note rfl kc_X12_note kl_X12_296 ki_X12_note kv_X12_note kn_X12 ⟨Nat.le_trans (by decide) hR1, Nat.le_trans (by decide) hR2⟩ ⟨Nat.zero_le _, Nat.zero_le _⟩ (Nat.le_of_ble_eq_true rfl) dX12_brake_100 (fun H locs w => ?_)
    refine lv_aload_n (pc := 103) hx hb dX12_brake_103 rfl (lv_at hl 0 rfl) ?_
    refine s_getR (pc := 104) F w 28 ds_0 (j := 40) vc_X12 vi_X12 rfl (by decide) kf_X12_99 dX12_brake_104 ?_
    refine lv_iload_n (pc := 107) hx hb dX12_brake_107 rfl (lv_at hl 1 rfl) ?_
    refine s_iald (pc := 108) F w ds_28 h dX12_brake_108 (fun h => ?_)
    exact s_iret F w h dX12_brake_109
  have h := ite_f q4 h
  rcases Decidable.em (S.1 18 a1.toNatClampNeg = (5 : Int32)) with q5 | q5
  · refine lv_tableIn (pc := 6) (tgt := 110) (off := 104) hx hb dX12_brake_6 (by rw [q5]; decide) (by rw [q5]; decide) (by rw [q5]; rfl) (by decide) ?_
    have h := ite_t q5 h
    refine lv_aload_n (pc := 110) hx hb dX12_brake_110 rfl (lv_at hl 0 rfl) ?_
    refine lv_bipush (pc := 111) (v := 10) hx hb dX12_brake_111 (by decide) ?_
    obtain ⟨S7, hc, h⟩ := bndv_t h
    refine s_cvv (pc := 113) [.int (10 : Int32)] (fun ad => [.ref (ad 0), .int (10 : Int32)]) F w (m_M_note _ _ _ hc) rfl rfl hl.1 ds_0 vc_X12 rfl ok_X12_note rfl kc_X12_note kl_X12_296 ki_X12_note kv_X12_note kn_X12 ⟨Nat.le_trans (by decide) hR1, Nat.le_trans (by decide) hR2⟩ ⟨Nat.zero_le _, Nat.zero_le _⟩ (Nat.le_of_ble_eq_true rfl) dX12_brake_113 (fun H locs w => ?_)
    refine lv_bipush (pc := 116) (v := 30) hx hb dX12_brake_116 (by decide) ?_
    exact s_iret F w h dX12_brake_118
  have h := ite_f q5 h
  refine lv_tableOut (pc := 6) (tgt := 119) hx hb dX12_brake_6 (by have zq0 := i32ne q0 (show ((0 : Int32)).toInt = 0 by decide); have zq1 := i32ne q1 (show ((1 : Int32)).toInt = 1 by decide); have zq2 := i32ne q2 (show ((2 : Int32)).toInt = 2 by decide); have zq3 := i32ne q3 (show ((3 : Int32)).toInt = 3 by decide); have zq4 := i32ne q4 (show ((4 : Int32)).toInt = 4 by decide); have zq5 := i32ne q5 (show ((5 : Int32)).toInt = 5 by decide); omega) (by decide) ?_
  refine lv_aload_n (pc := 119) hx hb dX12_brake_119 rfl (lv_at hl 0 rfl) ?_
  refine lv_bipush (pc := 120) (v := 11) hx hb dX12_brake_120 (by decide) ?_
  obtain ⟨S8, hc, h⟩ := bndv_t h
  refine s_cvv (pc := 122) [.int (11 : Int32)] (fun ad => [.ref (ad 0), .int (11 : Int32)]) F w (m_M_note _ _ _ hc) rfl rfl hl.1 ds_0 vc_X12 rfl ok_X12_note rfl kc_X12_note kl_X12_296 ki_X12_note kv_X12_note kn_X12 ⟨Nat.le_trans (by decide) hR1, Nat.le_trans (by decide) hR2⟩ ⟨Nat.zero_le _, Nat.zero_le _⟩ (Nat.le_of_ble_eq_true rfl) dX12_brake_122 (fun H locs w => ?_)
  refine lv_aload_n (pc := 125) hx hb dX12_brake_125 rfl (lv_at hl 0 rfl) ?_
  refine lv_bipush (pc := 126) (v := 10) hx hb dX12_brake_126 (by decide) ?_
  obtain ⟨S9, hc, h⟩ := bndv_t h
  refine s_cvv (pc := 128) [.int (10 : Int32)] (fun ad => [.ref (ad 0), .int (10 : Int32)]) F w (m_M_note _ _ _ hc) rfl rfl hl.1 ds_0 vc_X12 rfl ok_X12_note rfl kc_X12_note kl_X12_296 ki_X12_note kv_X12_note kn_X12 ⟨Nat.le_trans (by decide) hR1, Nat.le_trans (by decide) hR2⟩ ⟨Nat.zero_le _, Nat.zero_le _⟩ (Nat.le_of_ble_eq_true rfl) dX12_brake_128 (fun H locs w => ?_)
  refine lv_bipush (pc := 131) (v := 35) hx hb dX12_brake_131 (by decide) ?_
  exact s_iret F w h dX12_brake_133
def f_M_perAxle_j27  (x1 : Int32) (x2 : Int32) (y0 : Int32) (S : SS) : Option (Int32 × SS) :=
    grd (isB y0) (wr S 0 54 y0 (fun S4 =>
    if (S4.1 0 54) = 0 then
      grd (inb x1 72) (
      grd (!(decide (S4.1 28 x1.toNatClampNeg = 0))) (
      some (x2 / (S4.1 28 x1.toNatClampNeg), S4)))
    else
      some ((0 : Int32), S4)))
def f_M_perAxle (a1 : Int32) (S : SS) : Option (Int32 × SS) :=
  bndv (f_M_note (14 : Int32) S) (fun S1 =>
  bnd (f_M_weight a1 S1) (fun r3 S2 =>
  grd (inb a1 72) (
  if (S2.1 28 a1.toNatClampNeg) = 0 then
    f_M_perAxle_j27 a1 r3 (1 : Int32) S2
  else
    f_M_perAxle_j27 a1 r3 (0 : Int32) S2)))
theorem dX12_perAxle_0 : decode cX12_perAxle 0 = .ok (.aload_n 0, 1) := dc_42 (by decide +kernel)
theorem dX12_perAxle_1 : decode cX12_perAxle 1 = .ok (.bipush 14, 2) := dc_16 (a := 14) (by decide +kernel) (by decide)
theorem dX12_perAxle_3 : decode cX12_perAxle 3 = .ok (.invokevirtual 296, 3) := dc_182 (a := 1) (b := 40) (by decide +kernel)
theorem dX12_perAxle_6 : decode cX12_perAxle 6 = .ok (.aload_n 0, 1) := dc_42 (by decide +kernel)
theorem dX12_perAxle_7 : decode cX12_perAxle 7 = .ok (.iload_n 1, 1) := dc_27 (by decide +kernel)
theorem dX12_perAxle_8 : decode cX12_perAxle 8 = .ok (.invokevirtual 303, 3) := dc_182 (a := 1) (b := 47) (by decide +kernel)
theorem dX12_perAxle_11 : decode cX12_perAxle 11 = .ok (.istore_n 2, 1) := dc_61 (by decide +kernel)
theorem dX12_perAxle_12 : decode cX12_perAxle 12 = .ok (.aload_n 0, 1) := dc_42 (by decide +kernel)
theorem dX12_perAxle_13 : decode cX12_perAxle 13 = .ok (.aload_n 0, 1) := dc_42 (by decide +kernel)
theorem dX12_perAxle_14 : decode cX12_perAxle 14 = .ok (.getfield 99, 3) := dc_180 (a := 0) (b := 99) (by decide +kernel)
theorem dX12_perAxle_17 : decode cX12_perAxle 17 = .ok (.iload_n 1, 1) := dc_27 (by decide +kernel)
theorem dX12_perAxle_18 : decode cX12_perAxle 18 = .ok (.iaload, 1) := dc_46 (by decide +kernel)
theorem dX12_perAxle_19 : decode cX12_perAxle 19 = .ok (.ifCond .ne 7, 3) := dc_154 (a := 0) (b := 7) (by decide +kernel) (by decide)
theorem dX12_perAxle_22 : decode cX12_perAxle 22 = .ok (.iconst 1, 1) := dc_4 (by decide +kernel)
theorem dX12_perAxle_23 : decode cX12_perAxle 23 = .ok (.goto 4, 3) := dc_167 (a := 0) (b := 4) (by decide +kernel) (by decide)
theorem dX12_perAxle_26 : decode cX12_perAxle 26 = .ok (.iconst 0, 1) := dc_3 (by decide +kernel)
theorem dX12_perAxle_27 : decode cX12_perAxle 27 = .ok (.putfield 306, 3) := dc_181 (a := 1) (b := 50) (by decide +kernel)
theorem dX12_perAxle_30 : decode cX12_perAxle 30 = .ok (.aload_n 0, 1) := dc_42 (by decide +kernel)
theorem dX12_perAxle_31 : decode cX12_perAxle 31 = .ok (.getfield 306, 3) := dc_180 (a := 1) (b := 50) (by decide +kernel)
theorem dX12_perAxle_34 : decode cX12_perAxle 34 = .ok (.ifCond .eq 7, 3) := dc_153 (a := 0) (b := 7) (by decide +kernel) (by decide)
theorem dX12_perAxle_37 : decode cX12_perAxle 37 = .ok (.iconst 0, 1) := dc_3 (by decide +kernel)
theorem dX12_perAxle_38 : decode cX12_perAxle 38 = .ok (.goto 11, 3) := dc_167 (a := 0) (b := 11) (by decide +kernel) (by decide)
theorem dX12_perAxle_41 : decode cX12_perAxle 41 = .ok (.iload_n 2, 1) := dc_28 (by decide +kernel)
theorem dX12_perAxle_42 : decode cX12_perAxle 42 = .ok (.aload_n 0, 1) := dc_42 (by decide +kernel)
theorem dX12_perAxle_43 : decode cX12_perAxle 43 = .ok (.getfield 99, 3) := dc_180 (a := 0) (b := 99) (by decide +kernel)
theorem dX12_perAxle_46 : decode cX12_perAxle 46 = .ok (.iload_n 1, 1) := dc_27 (by decide +kernel)
theorem dX12_perAxle_47 : decode cX12_perAxle 47 = .ok (.iaload, 1) := dc_46 (by decide +kernel)
theorem dX12_perAxle_48 : decode cX12_perAxle 48 = .ok (.idiv, 1) := dc_108 (by decide +kernel)
theorem dX12_perAxle_49 : decode cX12_perAxle 49 = .ok (.ireturn, 1) := dc_172 (by decide +kernel)
set_option maxRecDepth 100000 in
set_option maxHeartbeats 4000000 in
theorem w_M_perAxle_j27 {p : Program} {l : Launch} {e : Env} {R : Room} {s : State} {m : MethodId} {args : Array Value} {below : List Frame} {meth : Method} {c : Code} {dC : Nat → ClassId} {dI : Nat → Nat → Nat} {cs : Nat → ClassId} {ad : Nat → Nat} {A : Nat → Prop} {D0 : Nat → Nat} {S' : SS} {r : Int32} (F : Fx p s m args meth c cX12_perAxle 3 RX12 (some .int) dC dI cs A) (hR1 : 0 ≤ R.frames) (hR2 : 0 ≤ R.locals) (x1 : Int32) (x2 : Int32) (y0 : Int32) (S : SS) (h : f_M_perAxle_j27 x1 x2 y0 S = some (r, S')) : AW p l e R s m args below meth c dC dI cs ad A D0 (some (.int r)) S' 3 27 [(0, .ref (ad 0)), (1, .int x1), (2, .int x2)] [.int y0, .ref (ad 0)] S := by
  have hx := F.1.1
  have hb := F.1.2.1
  intro H locs ls w hl
  rw [f_M_perAxle_j27] at h
  refine s_putZ (pc := 27) F w ds_0 vc_X12 vi_X12 tyX12_ok nmX12 (j := 54) rfl (by decide) kf_X12_306 rfl pd_Z h dX12_perAxle_27 (fun S4 H locs h w => ?_)
  refine lv_aload_n (pc := 30) hx hb dX12_perAxle_30 rfl (lv_at hl 0 rfl) ?_
  refine s_getI (pc := 31) F w ds_0 (j := 54) vc_X12 vi_X12 rfl (by decide) kf_X12_306 dX12_perAxle_31 ?_
  refine lv_if_eq (pc := 34) (tgt := 41) hx hb dX12_perAxle_34 (by decide) (fun q => ?_) (fun q => ?_)
  · have h := ite_t q h
    refine lv_iload_n (pc := 41) hx hb dX12_perAxle_41 rfl (lv_at hl 2 rfl) ?_
    refine lv_aload_n (pc := 42) hx hb dX12_perAxle_42 rfl (lv_at hl 0 rfl) ?_
    refine s_getR (pc := 43) F w 28 ds_0 (j := 40) vc_X12 vi_X12 rfl (by decide) kf_X12_99 dX12_perAxle_43 ?_
    refine lv_iload_n (pc := 46) hx hb dX12_perAxle_46 rfl (lv_at hl 1 rfl) ?_
    refine s_iald (pc := 47) F w ds_28 h dX12_perAxle_47 (fun h => ?_)
    obtain ⟨hd, h⟩ := grd_t h
    refine lv_idiv (pc := 48) hx hb dX12_perAxle_48 (by simpa using hd) ?_
    exact s_iret F w h dX12_perAxle_49
  · have h := ite_f q h
    refine lv_iconst (pc := 37) (v := 0) hx hb dX12_perAxle_37 (by decide) ?_
    refine lv_goto (pc := 38) (tgt := 49) hx hb dX12_perAxle_38 (by decide) ?_
    exact s_iret F w h dX12_perAxle_49
set_option maxRecDepth 100000 in
set_option maxHeartbeats 4000000 in
theorem m_M_perAxle (a1 : Int32) (S S' : SS) (r : Int32) (h : f_M_perAxle a1 S = some (r, S')) : MT yX12_perAxle cX12_perAxle 3 (some .int) 2 45 (fun ad => [.ref (ad 0), .int a1]) S (some (.int r)) S' := by
  refine MT.of RX12 (fun ad => [(0, .ref (ad 0)), (1, .int a1)]) (by decide) rfl (fun _ => Nat.le_of_ble_eq_true rfl) (fun _ => rfl) ?_
  intro p l e R s m args below meth c dC dI cs ad A hR1 hR2 F H locs ls w hl
  have hx := F.1.1
  have hb := F.1.2.1
  rw [f_M_perAxle] at h
  refine lv_aload_n (pc := 0) hx hb dX12_perAxle_0 rfl (lv_at hl 0 rfl) ?_
  refine lv_bipush (pc := 1) (v := 14) hx hb dX12_perAxle_1 (by decide) ?_
  obtain ⟨S1, hc, h⟩ := bndv_t h
  refine s_cvv (pc := 3) [.int (14 : Int32)] (fun ad => [.ref (ad 0), .int (14 : Int32)]) F w (m_M_note _ _ _ hc) rfl rfl hl.1 ds_0 vc_X12 rfl ok_X12_note rfl kc_X12_note kl_X12_296 ki_X12_note kv_X12_note kn_X12 ⟨Nat.le_trans (by decide) hR1, Nat.le_trans (by decide) hR2⟩ ⟨Nat.zero_le _, Nat.zero_le _⟩ (Nat.le_of_ble_eq_true rfl) dX12_perAxle_3 (fun H locs w => ?_)
  refine lv_aload_n (pc := 6) hx hb dX12_perAxle_6 rfl (lv_at hl 0 rfl) ?_
  refine lv_iload_n (pc := 7) hx hb dX12_perAxle_7 rfl (lv_at hl 1 rfl) ?_
  obtain ⟨r3, S2, hc, h⟩ := bnd_t h
  refine s_cvi (pc := 8) [.int a1] (fun ad => [.ref (ad 0), .int a1]) F w (m_M_weight _ _ _ _ hc) rfl rfl hl.1 ds_0 vc_X12 rfl ok_X12_weight rfl kc_X12_weight kl_X12_303 ki_X12_weight kv_X12_weight kn_X12 ⟨Nat.le_trans (by decide) hR1, Nat.le_trans (by decide) hR2⟩ ⟨Nat.zero_le _, Nat.zero_le _⟩ (Nat.le_of_ble_eq_true rfl) dX12_perAxle_8 (fun H locs w => ?_)
  refine lv_istore_n (pc := 11) (lv' := [(2, .int r3), (0, .ref (ad 0)), (1, .int a1)]) hx hb dX12_perAxle_11 rfl hl (by decide) rfl (fun ls hl => ?_)
  refine lv_aload_n (pc := 12) hx hb dX12_perAxle_12 rfl (lv_at hl 1 rfl) ?_
  refine lv_aload_n (pc := 13) hx hb dX12_perAxle_13 rfl (lv_at hl 1 rfl) ?_
  refine s_getR (pc := 14) F w 28 ds_0 (j := 40) vc_X12 vi_X12 rfl (by decide) kf_X12_99 dX12_perAxle_14 ?_
  refine lv_iload_n (pc := 17) hx hb dX12_perAxle_17 rfl (lv_at hl 2 rfl) ?_
  refine s_iald (pc := 18) F w ds_28 h dX12_perAxle_18 (fun h => ?_)
  refine lv_if_ne (pc := 19) (tgt := 26) hx hb dX12_perAxle_19 (by decide) (fun q => ?_) (fun q => ?_)
  · have h := ite_f q h
    refine lv_iconst (pc := 26) (v := 0) hx hb dX12_perAxle_26 (by decide) ?_
    exact w_M_perAxle_j27 F (Nat.le_trans (by decide) hR1) (Nat.le_trans (by decide) hR2) _ _ _ _ h _ _ _ w (lv_sub hl [1, 2, 0] rfl)
  · have h := ite_t q h
    refine lv_iconst (pc := 22) (v := 1) hx hb dX12_perAxle_22 (by decide) ?_
    refine lv_goto (pc := 23) (tgt := 27) hx hb dX12_perAxle_23 (by decide) ?_
    exact w_M_perAxle_j27 F (Nat.le_trans (by decide) hR1) (Nat.le_trans (by decide) hR2) _ _ _ _ h _ _ _ w (lv_sub hl [1, 2, 0] rfl)
def f_M_test_j150 (K119 : Int32 → Int32 → SS → Option (Int32 × SS)) (x2 : Int32) (x3 : Int32) (y0 : Int32) (y1 : Int32) (S : SS) : Option (Int32 × SS) :=
    grd (inb y1 72) (wr S 34 y1.toNatClampNeg (vp_nar .boolean y0) (fun S10 =>
    nm (x3 + (1 : Int32)) (fun z11 =>
    K119 x2 z11 S10)))
def f_M_test_L119  : Nat → Int32 → Int32 → SS → Option (Int32 × SS)
  | 0, _, _, _ => none
  | n + 1, x2, x3, S =>
    if (S.1 0 56) ≤ x3 then
      bnd (f_M_entered (11 : Int32) x2 S) (fun r9 S8 =>
      some (r9, S8))
    else
      grd (inb x3 72) (
      if x2 = (S.1 0 56) then
        f_M_test_j150 (fun v0 v1 S => f_M_test_L119 n v0 v1 S) x2 x3 (1 : Int32) (S.1 39 x3.toNatClampNeg) S
      else
        f_M_test_j150 (fun v0 v1 S => f_M_test_L119 n v0 v1 S) x2 x3 (0 : Int32) (S.1 39 x3.toNatClampNeg) S)
def f_M_test_j109 (K39 : Int32 → Int32 → SS → Option (Int32 × SS)) (x3 : Int32) (y0 : Int32) (y1 : Int32) (S : SS) : Option (Int32 × SS) :=
    nm (y1 + y0) (fun z16 =>
    nm (x3 + (1 : Int32)) (fun z17 =>
    K39 z16 z17 S))
def f_M_test_L39  : Nat → Int32 → Int32 → SS → Option (Int32 × SS)
  | 0, _, _, _ => none
  | n + 1, x2, x3, S =>
    if (S.1 0 56) ≤ x3 then
      f_M_test_L119 NF x2 (0 : Int32) S
    else
      grd (inb x3 72) (
      bnd (f_M_brake (S.1 39 x3.toNatClampNeg) S) (fun r13 S12 =>
      grd (inb x3 72) (
      bnd (f_M_perAxle (S12.1 39 x3.toNatClampNeg) S12) (fun r15 S14 =>
      if (S14.1 0 54) = 0 then
        if ((2 : Int32) * r13) < r15 then
          f_M_test_j109 (fun v0 v1 S => f_M_test_L39 n v0 v1 S) x3 (0 : Int32) x2 S14
        else
          f_M_test_j109 (fun v0 v1 S => f_M_test_L39 n v0 v1 S) x3 (1 : Int32) x2 S14
      else
        bnd (f_M_found (6 : Int32) S14) (fun r19 S18 =>
        bnd (f_M_entered (11 : Int32) (-2 : Int32) S18) (fun r21 S20 =>
        some (r21, S20)))))))
def f_M_test (a1 : Int32) (S : SS) : Option (Int32 × SS) :=
  bndv (f_M_begin  S) (fun S1 =>
  bndv (f_M_keep  S1) (fun S2 =>
  bnd (f_M_missThing a1 (0 : Int32) S2) (fun r4 S3 =>
  bnd (f_M_ends r4 S3) (fun r6 S5 =>
  if r6 = 0 then
    bndv (f_M_lineUp a1 S5) (fun S7 =>
    f_M_test_L39 NF (0 : Int32) (0 : Int32) S7)
  else
    bnd (f_M_entered (11 : Int32) (-2 : Int32) S5) (fun r23 S22 =>
    some (r23, S22))))))
theorem dX12_test_0 : decode cX12_test 0 = .ok (.aload_n 0, 1) := dc_42 (by decide +kernel)
theorem dX12_test_1 : decode cX12_test 1 = .ok (.invokevirtual 226, 3) := dc_182 (a := 0) (b := 226) (by decide +kernel)
theorem dX12_test_4 : decode cX12_test 4 = .ok (.aload_n 0, 1) := dc_42 (by decide +kernel)
theorem dX12_test_5 : decode cX12_test 5 = .ok (.invokevirtual 346, 3) := dc_182 (a := 1) (b := 90) (by decide +kernel)
theorem dX12_test_8 : decode cX12_test 8 = .ok (.aload_n 0, 1) := dc_42 (by decide +kernel)
theorem dX12_test_9 : decode cX12_test 9 = .ok (.aload_n 0, 1) := dc_42 (by decide +kernel)
theorem dX12_test_10 : decode cX12_test 10 = .ok (.iload_n 1, 1) := dc_27 (by decide +kernel)
theorem dX12_test_11 : decode cX12_test 11 = .ok (.iconst 0, 1) := dc_3 (by decide +kernel)
theorem dX12_test_12 : decode cX12_test 12 = .ok (.invokevirtual 293, 3) := dc_182 (a := 1) (b := 37) (by decide +kernel)
theorem dX12_test_15 : decode cX12_test 15 = .ok (.invokevirtual 236, 3) := dc_182 (a := 0) (b := 236) (by decide +kernel)
theorem dX12_test_18 : decode cX12_test 18 = .ok (.ifCond .eq 12, 3) := dc_153 (a := 0) (b := 12) (by decide +kernel) (by decide)
theorem dX12_test_21 : decode cX12_test 21 = .ok (.aload_n 0, 1) := dc_42 (by decide +kernel)
theorem dX12_test_22 : decode cX12_test 22 = .ok (.bipush 11, 2) := dc_16 (a := 11) (by decide +kernel) (by decide)
theorem dX12_test_24 : decode cX12_test 24 = .ok (.bipush (-2), 2) := dc_16 (a := 254) (by decide +kernel) (by decide)
theorem dX12_test_26 : decode cX12_test 26 = .ok (.invokevirtual 349, 3) := dc_182 (a := 1) (b := 93) (by decide +kernel)
theorem dX12_test_29 : decode cX12_test 29 = .ok (.ireturn, 1) := dc_172 (by decide +kernel)
theorem dX12_test_30 : decode cX12_test 30 = .ok (.aload_n 0, 1) := dc_42 (by decide +kernel)
theorem dX12_test_31 : decode cX12_test 31 = .ok (.iload_n 1, 1) := dc_27 (by decide +kernel)
theorem dX12_test_32 : decode cX12_test 32 = .ok (.invokevirtual 325, 3) := dc_182 (a := 1) (b := 69) (by decide +kernel)
theorem dX12_test_35 : decode cX12_test 35 = .ok (.iconst 0, 1) := dc_3 (by decide +kernel)
theorem dX12_test_36 : decode cX12_test 36 = .ok (.istore_n 2, 1) := dc_61 (by decide +kernel)
theorem dX12_test_37 : decode cX12_test 37 = .ok (.iconst 0, 1) := dc_3 (by decide +kernel)
theorem dX12_test_38 : decode cX12_test 38 = .ok (.istore_n 3, 1) := dc_62 (by decide +kernel)
theorem dX12_test_39 : decode cX12_test 39 = .ok (.iload_n 3, 1) := dc_29 (by decide +kernel)
theorem dX12_test_40 : decode cX12_test 40 = .ok (.aload_n 0, 1) := dc_42 (by decide +kernel)
theorem dX12_test_41 : decode cX12_test 41 = .ok (.getfield 319, 3) := dc_180 (a := 1) (b := 63) (by decide +kernel)
theorem dX12_test_44 : decode cX12_test 44 = .ok (.if_icmp .ge 73, 3) := dc_162 (a := 0) (b := 73) (by decide +kernel) (by decide)
theorem dX12_test_47 : decode cX12_test 47 = .ok (.aload_n 0, 1) := dc_42 (by decide +kernel)
theorem dX12_test_48 : decode cX12_test 48 = .ok (.aload_n 0, 1) := dc_42 (by decide +kernel)
theorem dX12_test_49 : decode cX12_test 49 = .ok (.getfield 132, 3) := dc_180 (a := 0) (b := 132) (by decide +kernel)
theorem dX12_test_52 : decode cX12_test 52 = .ok (.iload_n 3, 1) := dc_29 (by decide +kernel)
theorem dX12_test_53 : decode cX12_test 53 = .ok (.iaload, 1) := dc_46 (by decide +kernel)
theorem dX12_test_54 : decode cX12_test 54 = .ok (.invokevirtual 435, 3) := dc_182 (a := 1) (b := 179) (by decide +kernel)
theorem dX12_test_57 : decode cX12_test 57 = .ok (.istore 4, 2) := dc_54 (a := 4) (by decide +kernel)
theorem dX12_test_59 : decode cX12_test 59 = .ok (.aload_n 0, 1) := dc_42 (by decide +kernel)
theorem dX12_test_60 : decode cX12_test 60 = .ok (.aload_n 0, 1) := dc_42 (by decide +kernel)
theorem dX12_test_61 : decode cX12_test 61 = .ok (.getfield 132, 3) := dc_180 (a := 0) (b := 132) (by decide +kernel)
theorem dX12_test_64 : decode cX12_test 64 = .ok (.iload_n 3, 1) := dc_29 (by decide +kernel)
theorem dX12_test_65 : decode cX12_test 65 = .ok (.iaload, 1) := dc_46 (by decide +kernel)
theorem dX12_test_66 : decode cX12_test 66 = .ok (.invokevirtual 438, 3) := dc_182 (a := 1) (b := 182) (by decide +kernel)
theorem dX12_test_69 : decode cX12_test 69 = .ok (.istore 5, 2) := dc_54 (a := 5) (by decide +kernel)
theorem dX12_test_71 : decode cX12_test 71 = .ok (.aload_n 0, 1) := dc_42 (by decide +kernel)
theorem dX12_test_72 : decode cX12_test 72 = .ok (.getfield 306, 3) := dc_180 (a := 1) (b := 50) (by decide +kernel)
theorem dX12_test_75 : decode cX12_test 75 = .ok (.ifCond .eq 19, 3) := dc_153 (a := 0) (b := 19) (by decide +kernel) (by decide)
theorem dX12_test_78 : decode cX12_test 78 = .ok (.aload_n 0, 1) := dc_42 (by decide +kernel)
theorem dX12_test_79 : decode cX12_test 79 = .ok (.bipush 6, 2) := dc_16 (a := 6) (by decide +kernel) (by decide)
theorem dX12_test_81 : decode cX12_test 81 = .ok (.invokevirtual 210, 3) := dc_182 (a := 0) (b := 210) (by decide +kernel)
theorem dX12_test_84 : decode cX12_test 84 = .ok (.pop, 1) := dc_87 (by decide +kernel)
theorem dX12_test_85 : decode cX12_test 85 = .ok (.aload_n 0, 1) := dc_42 (by decide +kernel)
theorem dX12_test_86 : decode cX12_test 86 = .ok (.bipush 11, 2) := dc_16 (a := 11) (by decide +kernel) (by decide)
theorem dX12_test_88 : decode cX12_test 88 = .ok (.bipush (-2), 2) := dc_16 (a := 254) (by decide +kernel) (by decide)
theorem dX12_test_90 : decode cX12_test 90 = .ok (.invokevirtual 349, 3) := dc_182 (a := 1) (b := 93) (by decide +kernel)
theorem dX12_test_93 : decode cX12_test 93 = .ok (.ireturn, 1) := dc_172 (by decide +kernel)
theorem dX12_test_94 : decode cX12_test 94 = .ok (.iload_n 2, 1) := dc_28 (by decide +kernel)
theorem dX12_test_95 : decode cX12_test 95 = .ok (.iconst 2, 1) := dc_5 (by decide +kernel)
theorem dX12_test_96 : decode cX12_test 96 = .ok (.iload 4, 2) := dc_21 (a := 4) (by decide +kernel)
theorem dX12_test_98 : decode cX12_test 98 = .ok (.imul, 1) := dc_104 (by decide +kernel)
theorem dX12_test_99 : decode cX12_test 99 = .ok (.iload 5, 2) := dc_21 (a := 5) (by decide +kernel)
theorem dX12_test_101 : decode cX12_test 101 = .ok (.if_icmp .lt 7, 3) := dc_161 (a := 0) (b := 7) (by decide +kernel) (by decide)
theorem dX12_test_104 : decode cX12_test 104 = .ok (.iconst 1, 1) := dc_4 (by decide +kernel)
theorem dX12_test_105 : decode cX12_test 105 = .ok (.goto 4, 3) := dc_167 (a := 0) (b := 4) (by decide +kernel) (by decide)
theorem dX12_test_108 : decode cX12_test 108 = .ok (.iconst 0, 1) := dc_3 (by decide +kernel)
theorem dX12_test_109 : decode cX12_test 109 = .ok (.iadd, 1) := dc_96 (by decide +kernel)
theorem dX12_test_110 : decode cX12_test 110 = .ok (.istore_n 2, 1) := dc_61 (by decide +kernel)
theorem dX12_test_111 : decode cX12_test 111 = .ok (.iinc 3 1, 3) := dc_132 (a := 3) (b := 1) (by decide +kernel) (by decide)
theorem dX12_test_114 : decode cX12_test 114 = .ok (.goto (-75), 3) := dc_167 (a := 255) (b := 181) (by decide +kernel) (by decide)
theorem dX12_test_117 : decode cX12_test 117 = .ok (.iconst 0, 1) := dc_3 (by decide +kernel)
theorem dX12_test_118 : decode cX12_test 118 = .ok (.istore_n 3, 1) := dc_62 (by decide +kernel)
theorem dX12_test_119 : decode cX12_test 119 = .ok (.iload_n 3, 1) := dc_29 (by decide +kernel)
theorem dX12_test_120 : decode cX12_test 120 = .ok (.aload_n 0, 1) := dc_42 (by decide +kernel)
theorem dX12_test_121 : decode cX12_test 121 = .ok (.getfield 319, 3) := dc_180 (a := 1) (b := 63) (by decide +kernel)
theorem dX12_test_124 : decode cX12_test 124 = .ok (.if_icmp .ge 33, 3) := dc_162 (a := 0) (b := 33) (by decide +kernel) (by decide)
theorem dX12_test_127 : decode cX12_test 127 = .ok (.aload_n 0, 1) := dc_42 (by decide +kernel)
theorem dX12_test_128 : decode cX12_test 128 = .ok (.getfield 117, 3) := dc_180 (a := 0) (b := 117) (by decide +kernel)
theorem dX12_test_131 : decode cX12_test 131 = .ok (.aload_n 0, 1) := dc_42 (by decide +kernel)
theorem dX12_test_132 : decode cX12_test 132 = .ok (.getfield 132, 3) := dc_180 (a := 0) (b := 132) (by decide +kernel)
theorem dX12_test_135 : decode cX12_test 135 = .ok (.iload_n 3, 1) := dc_29 (by decide +kernel)
theorem dX12_test_136 : decode cX12_test 136 = .ok (.iaload, 1) := dc_46 (by decide +kernel)
theorem dX12_test_137 : decode cX12_test 137 = .ok (.iload_n 2, 1) := dc_28 (by decide +kernel)
theorem dX12_test_138 : decode cX12_test 138 = .ok (.aload_n 0, 1) := dc_42 (by decide +kernel)
theorem dX12_test_139 : decode cX12_test 139 = .ok (.getfield 319, 3) := dc_180 (a := 1) (b := 63) (by decide +kernel)
theorem dX12_test_142 : decode cX12_test 142 = .ok (.if_icmp .ne 7, 3) := dc_160 (a := 0) (b := 7) (by decide +kernel) (by decide)
theorem dX12_test_145 : decode cX12_test 145 = .ok (.iconst 1, 1) := dc_4 (by decide +kernel)
theorem dX12_test_146 : decode cX12_test 146 = .ok (.goto 4, 3) := dc_167 (a := 0) (b := 4) (by decide +kernel) (by decide)
theorem dX12_test_149 : decode cX12_test 149 = .ok (.iconst 0, 1) := dc_3 (by decide +kernel)
theorem dX12_test_150 : decode cX12_test 150 = .ok (.bastore, 1) := dc_84 (by decide +kernel)
theorem dX12_test_151 : decode cX12_test 151 = .ok (.iinc 3 1, 3) := dc_132 (a := 3) (b := 1) (by decide +kernel) (by decide)
theorem dX12_test_154 : decode cX12_test 154 = .ok (.goto (-35), 3) := dc_167 (a := 255) (b := 221) (by decide +kernel) (by decide)
theorem dX12_test_157 : decode cX12_test 157 = .ok (.aload_n 0, 1) := dc_42 (by decide +kernel)
theorem dX12_test_158 : decode cX12_test 158 = .ok (.bipush 11, 2) := dc_16 (a := 11) (by decide +kernel) (by decide)
theorem dX12_test_160 : decode cX12_test 160 = .ok (.iload_n 2, 1) := dc_28 (by decide +kernel)
theorem dX12_test_161 : decode cX12_test 161 = .ok (.invokevirtual 349, 3) := dc_182 (a := 1) (b := 93) (by decide +kernel)
theorem dX12_test_164 : decode cX12_test 164 = .ok (.ireturn, 1) := dc_172 (by decide +kernel)
set_option maxRecDepth 100000 in
set_option maxHeartbeats 4000000 in
theorem w_M_test_j150 {p : Program} {l : Launch} {e : Env} {R : Room} {s : State} {m : MethodId} {args : Array Value} {below : List Frame} {meth : Method} {c : Code} {dC : Nat → ClassId} {dI : Nat → Nat → Nat} {cs : Nat → ClassId} {ad : Nat → Nat} {A : Nat → Prop} {D0 : Nat → Nat} {S' : SS} {r : Int32} (F : Fx p s m args meth c cX12_test 6 RX12 (some .int) dC dI cs A) (hR1 : 0 ≤ R.frames) (hR2 : 0 ≤ R.locals) (K119 : Int32 → Int32 → SS → Option (Int32 × SS)) (hK119 : ∀ (v0 : Int32) (v1 : Int32) (S : SS), K119 v0 v1 S = some (r, S') → AW p l e R s m args below meth c dC dI cs ad A D0 (some (.int r)) S' 6 119 [(0, .ref (ad 0)), (2, .int v0), (3, .int v1)] [] S) (x2 : Int32) (x3 : Int32) (y0 : Int32) (y1 : Int32) (S : SS) (h : f_M_test_j150 K119 x2 x3 y0 y1 S = some (r, S')) : AW p l e R s m args below meth c dC dI cs ad A D0 (some (.int r)) S' 6 150 [(0, .ref (ad 0)), (2, .int x2), (3, .int x3)] [.int y0, .int y1, .ref (ad 34)] S := by
  have hx := F.1.1
  have hb := F.1.2.1
  intro H locs ls w hl
  rw [f_M_test_j150] at h
  refine s_zast (pc := 150) F w ds_34 h dX12_test_150 (fun S10 H locs h w => ?_)
  refine s_nm h (fun z11 ez11 h => ?_)
  refine lv_iinc (pc := 151) (v := z11) (lv' := [(3, .int z11), (0, .ref (ad 0)), (2, .int x2)]) hx hb dX12_test_151 hl (k := 2) rfl (by rw [ez11]; rfl) (by decide) rfl (fun ls hl => ?_)
  refine lv_goto (pc := 154) (tgt := 119) hx hb dX12_test_154 (by decide) ?_
  exact hK119 _ _ _ h _ _ _ w (lv_sub hl [1, 2, 0] rfl)
set_option maxRecDepth 100000 in
set_option maxHeartbeats 4000000 in
theorem w_M_test_L119 {p : Program} {l : Launch} {e : Env} {R : Room} {s : State} {m : MethodId} {args : Array Value} {below : List Frame} {meth : Method} {c : Code} {dC : Nat → ClassId} {dI : Nat → Nat → Nat} {cs : Nat → ClassId} {ad : Nat → Nat} {A : Nat → Prop} {D0 : Nat → Nat} {S' : SS} {r : Int32} (F : Fx p s m args meth c cX12_test 6 RX12 (some .int) dC dI cs A) (hR1 : 1 ≤ R.frames) (hR2 : 22 ≤ R.locals) : ∀ (n : Nat) (x2 : Int32) (x3 : Int32) (S : SS), f_M_test_L119 n x2 x3 S = some (r, S') → AW p l e R s m args below meth c dC dI cs ad A D0 (some (.int r)) S' 6 119 [(0, .ref (ad 0)), (2, .int x2), (3, .int x3)] [] S := by
  have hx := F.1.1
  have hb := F.1.2.1
  intro n
  induction n with
  | zero => intro x2 x3 S h; cases h
  | succ n ih =>
    intro x2 x3 S h H locs ls w hl
    rw [f_M_test_L119] at h
    refine lv_iload_n (pc := 119) hx hb dX12_test_119 rfl (lv_at hl 2 rfl) ?_
    refine lv_aload_n (pc := 120) hx hb dX12_test_120 rfl (lv_at hl 0 rfl) ?_
    refine s_getI (pc := 121) F w ds_0 (j := 56) vc_X12 vi_X12 rfl (by decide) kf_X12_319 dX12_test_121 ?_
    refine lv_icmp_ge (pc := 124) (tgt := 157) hx hb dX12_test_124 (by decide) (fun q => ?_) (fun q => ?_)
    · have h := ite_t q h
      refine lv_aload_n (pc := 157) hx hb dX12_test_157 rfl (lv_at hl 0 rfl) ?_
      refine lv_bipush (pc := 158) (v := 11) hx hb dX12_test_158 (by decide) ?_
      refine lv_iload_n (pc := 160) hx hb dX12_test_160 rfl (lv_at hl 1 rfl) ?_
      obtain ⟨r9, S8, hc, h⟩ := bnd_t h
      refine s_cvi (pc := 161) [.int (11 : Int32), .int x2] (fun ad => [.ref (ad 0), .int (11 : Int32), .int x2]) F w (m_M_entered _ _ _ _ _ hc) rfl rfl hl.1 ds_0 vc_X12 rfl ok_X12_entered rfl kc_X12_entered kl_X12_349 ki_X12_entered kv_X12_entered kn_X12 ⟨Nat.le_trans (by decide) hR1, Nat.le_trans (by decide) hR2⟩ ⟨Nat.zero_le _, Nat.zero_le _⟩ (Nat.le_of_ble_eq_true rfl) dX12_test_161 (fun H locs w => ?_)
      exact s_iret F w h dX12_test_164
    · have h := ite_f q h
      refine lv_aload_n (pc := 127) hx hb dX12_test_127 rfl (lv_at hl 0 rfl) ?_
      refine s_getR (pc := 128) F w 34 ds_0 (j := 46) vc_X12 vi_X12 rfl (by decide) kf_X12_117 dX12_test_128 ?_
      refine lv_aload_n (pc := 131) hx hb dX12_test_131 rfl (lv_at hl 0 rfl) ?_
      refine s_getR (pc := 132) F w 39 ds_0 (j := 55) vc_X12 vi_X12 rfl (by decide) kf_X12_132 dX12_test_132 ?_
      refine lv_iload_n (pc := 135) hx hb dX12_test_135 rfl (lv_at hl 2 rfl) ?_
      refine s_iald (pc := 136) F w ds_39 h dX12_test_136 (fun h => ?_)
      refine lv_iload_n (pc := 137) hx hb dX12_test_137 rfl (lv_at hl 1 rfl) ?_
      refine lv_aload_n (pc := 138) hx hb dX12_test_138 rfl (lv_at hl 0 rfl) ?_
      refine s_getI (pc := 139) F w ds_0 (j := 56) vc_X12 vi_X12 rfl (by decide) kf_X12_319 dX12_test_139 ?_
      refine lv_icmp_ne (pc := 142) (tgt := 149) hx hb dX12_test_142 (by decide) (fun q => ?_) (fun q => ?_)
      · have h := ite_f q h
        refine lv_iconst (pc := 149) (v := 0) hx hb dX12_test_149 (by decide) ?_
        exact w_M_test_j150 F (Nat.le_trans (by decide) hR1) (Nat.le_trans (by decide) hR2) _ (fun v0 v1 S h => ih v0 v1 S h) _ _ _ _ _ h _ _ _ w (lv_sub hl [0, 1, 2] rfl)
      · have h := ite_t q h
        refine lv_iconst (pc := 145) (v := 1) hx hb dX12_test_145 (by decide) ?_
        refine lv_goto (pc := 146) (tgt := 150) hx hb dX12_test_146 (by decide) ?_
        exact w_M_test_j150 F (Nat.le_trans (by decide) hR1) (Nat.le_trans (by decide) hR2) _ (fun v0 v1 S h => ih v0 v1 S h) _ _ _ _ _ h _ _ _ w (lv_sub hl [0, 1, 2] rfl)
set_option maxRecDepth 100000 in
set_option maxHeartbeats 4000000 in
theorem w_M_test_j109 {p : Program} {l : Launch} {e : Env} {R : Room} {s : State} {m : MethodId} {args : Array Value} {below : List Frame} {meth : Method} {c : Code} {dC : Nat → ClassId} {dI : Nat → Nat → Nat} {cs : Nat → ClassId} {ad : Nat → Nat} {A : Nat → Prop} {D0 : Nat → Nat} {S' : SS} {r : Int32} (F : Fx p s m args meth c cX12_test 6 RX12 (some .int) dC dI cs A) (hR1 : 0 ≤ R.frames) (hR2 : 0 ≤ R.locals) (K39 : Int32 → Int32 → SS → Option (Int32 × SS)) (hK39 : ∀ (v0 : Int32) (v1 : Int32) (S : SS), K39 v0 v1 S = some (r, S') → AW p l e R s m args below meth c dC dI cs ad A D0 (some (.int r)) S' 6 39 [(0, .ref (ad 0)), (2, .int v0), (3, .int v1)] [] S) (x3 : Int32) (y0 : Int32) (y1 : Int32) (S : SS) (h : f_M_test_j109 K39 x3 y0 y1 S = some (r, S')) : AW p l e R s m args below meth c dC dI cs ad A D0 (some (.int r)) S' 6 109 [(0, .ref (ad 0)), (3, .int x3)] [.int y0, .int y1] S := by
  have hx := F.1.1
  have hb := F.1.2.1
  intro H locs ls w hl
  rw [f_M_test_j109] at h
  refine lv_iadd (pc := 109) hx hb dX12_test_109 ?_
  refine s_nm h (fun z16 ez16 h => ?_)
  rw [← ez16]
  refine lv_istore_n (pc := 110) (lv' := [(2, .int z16), (0, .ref (ad 0)), (3, .int x3)]) hx hb dX12_test_110 rfl hl (by decide) rfl (fun ls hl => ?_)
  refine s_nm h (fun z17 ez17 h => ?_)
  refine lv_iinc (pc := 111) (v := z17) (lv' := [(3, .int z17), (2, .int z16), (0, .ref (ad 0))]) hx hb dX12_test_111 hl (k := 2) rfl (by rw [ez17]; rfl) (by decide) rfl (fun ls hl => ?_)
  refine lv_goto (pc := 114) (tgt := 39) hx hb dX12_test_114 (by decide) ?_
  exact hK39 _ _ _ h _ _ _ w (lv_sub hl [2, 1, 0] rfl)
set_option maxRecDepth 100000 in
set_option maxHeartbeats 4000000 in
theorem w_M_test_L39 {p : Program} {l : Launch} {e : Env} {R : Room} {s : State} {m : MethodId} {args : Array Value} {below : List Frame} {meth : Method} {c : Code} {dC : Nat → ClassId} {dI : Nat → Nat → Nat} {cs : Nat → ClassId} {ad : Nat → Nat} {A : Nat → Prop} {D0 : Nat → Nat} {S' : SS} {r : Int32} (F : Fx p s m args meth c cX12_test 6 RX12 (some .int) dC dI cs A) (hR1 : 3 ≤ R.frames) (hR2 : 67 ≤ R.locals) : ∀ (n : Nat) (x2 : Int32) (x3 : Int32) (S : SS), f_M_test_L39 n x2 x3 S = some (r, S') → AW p l e R s m args below meth c dC dI cs ad A D0 (some (.int r)) S' 6 39 [(0, .ref (ad 0)), (2, .int x2), (3, .int x3)] [] S := by
  have hx := F.1.1
  have hb := F.1.2.1
  intro n
  induction n with
  | zero => intro x2 x3 S h; cases h
  | succ n ih =>
    intro x2 x3 S h H locs ls w hl
    rw [f_M_test_L39] at h
    refine lv_iload_n (pc := 39) hx hb dX12_test_39 rfl (lv_at hl 2 rfl) ?_
    refine lv_aload_n (pc := 40) hx hb dX12_test_40 rfl (lv_at hl 0 rfl) ?_
    refine s_getI (pc := 41) F w ds_0 (j := 56) vc_X12 vi_X12 rfl (by decide) kf_X12_319 dX12_test_41 ?_
    refine lv_icmp_ge (pc := 44) (tgt := 117) hx hb dX12_test_44 (by decide) (fun q => ?_) (fun q => ?_)
    · have h := ite_t q h
      refine lv_iconst (pc := 117) (v := 0) hx hb dX12_test_117 (by decide) ?_
      refine lv_istore_n (pc := 118) (lv' := [(3, .int (0 : Int32)), (0, .ref (ad 0)), (2, .int x2)]) hx hb dX12_test_118 rfl hl (by decide) rfl (fun ls hl => ?_)
      exact w_M_test_L119 F (Nat.le_trans (by decide) hR1) (Nat.le_trans (by decide) hR2) _ _ _ _ h _ _ _ w (lv_sub hl [1, 2, 0] rfl)
    · have h := ite_f q h
      refine lv_aload_n (pc := 47) hx hb dX12_test_47 rfl (lv_at hl 0 rfl) ?_
      refine lv_aload_n (pc := 48) hx hb dX12_test_48 rfl (lv_at hl 0 rfl) ?_
      refine s_getR (pc := 49) F w 39 ds_0 (j := 55) vc_X12 vi_X12 rfl (by decide) kf_X12_132 dX12_test_49 ?_
      refine lv_iload_n (pc := 52) hx hb dX12_test_52 rfl (lv_at hl 2 rfl) ?_
      refine s_iald (pc := 53) F w ds_39 h dX12_test_53 (fun h => ?_)
      obtain ⟨r13, S12, hc, h⟩ := bnd_t h
      refine s_cvi (pc := 54) [.int (S.1 39 x3.toNatClampNeg)] (fun ad => [.ref (ad 0), .int (S.1 39 x3.toNatClampNeg)]) F w (m_M_brake _ _ _ _ hc) rfl rfl hl.1 ds_0 vc_X12 rfl ok_X12_brake rfl kc_X12_brake kl_X12_435 ki_X12_brake kv_X12_brake kn_X12 ⟨Nat.le_trans (by decide) hR1, Nat.le_trans (by decide) hR2⟩ ⟨Nat.zero_le _, Nat.zero_le _⟩ (Nat.le_of_ble_eq_true rfl) dX12_test_54 (fun H locs w => ?_)
      refine lv_istore (pc := 57) (lv' := [(4, .int r13), (0, .ref (ad 0)), (2, .int x2), (3, .int x3)]) hx hb dX12_test_57 hl (by decide) rfl (fun ls hl => ?_)
      refine lv_aload_n (pc := 59) hx hb dX12_test_59 rfl (lv_at hl 1 rfl) ?_
      refine lv_aload_n (pc := 60) hx hb dX12_test_60 rfl (lv_at hl 1 rfl) ?_
      refine s_getR (pc := 61) F w 39 ds_0 (j := 55) vc_X12 vi_X12 rfl (by decide) kf_X12_132 dX12_test_61 ?_
      refine lv_iload_n (pc := 64) hx hb dX12_test_64 rfl (lv_at hl 3 rfl) ?_
      refine s_iald (pc := 65) F w ds_39 h dX12_test_65 (fun h => ?_)
      obtain ⟨r15, S14, hc, h⟩ := bnd_t h
      refine s_cvi (pc := 66) [.int (S12.1 39 x3.toNatClampNeg)] (fun ad => [.ref (ad 0), .int (S12.1 39 x3.toNatClampNeg)]) F w (m_M_perAxle _ _ _ _ hc) rfl rfl hl.1 ds_0 vc_X12 rfl ok_X12_perAxle rfl kc_X12_perAxle kl_X12_438 ki_X12_perAxle kv_X12_perAxle kn_X12 ⟨Nat.le_trans (by decide) hR1, Nat.le_trans (by decide) hR2⟩ ⟨Nat.zero_le _, Nat.zero_le _⟩ (Nat.le_of_ble_eq_true rfl) dX12_test_66 (fun H locs w => ?_)
      refine lv_istore (pc := 69) (lv' := [(5, .int r15), (4, .int r13), (0, .ref (ad 0)), (2, .int x2), (3, .int x3)]) hx hb dX12_test_69 hl (by decide) rfl (fun ls hl => ?_)
      refine lv_aload_n (pc := 71) hx hb dX12_test_71 rfl (lv_at hl 2 rfl) ?_
      refine s_getI (pc := 72) F w ds_0 (j := 54) vc_X12 vi_X12 rfl (by decide) kf_X12_306 dX12_test_72 ?_
      refine lv_if_eq (pc := 75) (tgt := 94) hx hb dX12_test_75 (by decide) (fun q => ?_) (fun q => ?_)
      · have h := ite_t q h
        refine lv_iload_n (pc := 94) hx hb dX12_test_94 rfl (lv_at hl 3 rfl) ?_
        refine lv_iconst (pc := 95) (v := 2) hx hb dX12_test_95 (by decide) ?_
        refine lv_iload (pc := 96) hx hb dX12_test_96 (lv_at hl 1 rfl) ?_
        refine lv_imul (pc := 98) hx hb dX12_test_98 ?_
        refine lv_iload (pc := 99) hx hb dX12_test_99 (lv_at hl 0 rfl) ?_
        refine lv_icmp_lt (pc := 101) (tgt := 108) hx hb dX12_test_101 (by decide) (fun q => ?_) (fun q => ?_)
        · have h := ite_t q h
          refine lv_iconst (pc := 108) (v := 0) hx hb dX12_test_108 (by decide) ?_
          exact w_M_test_j109 F (Nat.le_trans (by decide) hR1) (Nat.le_trans (by decide) hR2) _ (fun v0 v1 S h => ih v0 v1 S h) _ _ _ _ h _ _ _ w (lv_sub hl [2, 4] rfl)
        · have h := ite_f q h
          refine lv_iconst (pc := 104) (v := 1) hx hb dX12_test_104 (by decide) ?_
          refine lv_goto (pc := 105) (tgt := 109) hx hb dX12_test_105 (by decide) ?_
          exact w_M_test_j109 F (Nat.le_trans (by decide) hR1) (Nat.le_trans (by decide) hR2) _ (fun v0 v1 S h => ih v0 v1 S h) _ _ _ _ h _ _ _ w (lv_sub hl [2, 4] rfl)
      · have h := ite_f q h
        refine lv_aload_n (pc := 78) hx hb dX12_test_78 rfl (lv_at hl 2 rfl) ?_
        refine lv_bipush (pc := 79) (v := 6) hx hb dX12_test_79 (by decide) ?_
        obtain ⟨r19, S18, hc, h⟩ := bnd_t h
        refine s_cvi (pc := 81) [.int (6 : Int32)] (fun ad => [.ref (ad 0), .int (6 : Int32)]) F w (m_M_found _ _ _ _ hc) rfl rfl hl.1 ds_0 vc_X12 rfl ok_X12_found rfl kc_X12_found kl_X12_210 ki_X12_found kv_X12_found kn_X12 ⟨Nat.le_trans (by decide) hR1, Nat.le_trans (by decide) hR2⟩ ⟨Nat.zero_le _, Nat.zero_le _⟩ (Nat.le_of_ble_eq_true rfl) dX12_test_81 (fun H locs w => ?_)
        refine lv_pop (pc := 84) hx hb dX12_test_84 rfl ?_
        refine lv_aload_n (pc := 85) hx hb dX12_test_85 rfl (lv_at hl 2 rfl) ?_
        refine lv_bipush (pc := 86) (v := 11) hx hb dX12_test_86 (by decide) ?_
        refine lv_bipush (pc := 88) (v := -2) hx hb dX12_test_88 (by decide) ?_
        obtain ⟨r21, S20, hc, h⟩ := bnd_t h
        refine s_cvi (pc := 90) [.int (11 : Int32), .int (-2 : Int32)] (fun ad => [.ref (ad 0), .int (11 : Int32), .int (-2 : Int32)]) F w (m_M_entered _ _ _ _ _ hc) rfl rfl hl.1 ds_0 vc_X12 rfl ok_X12_entered rfl kc_X12_entered kl_X12_349 ki_X12_entered kv_X12_entered kn_X12 ⟨Nat.le_trans (by decide) hR1, Nat.le_trans (by decide) hR2⟩ ⟨Nat.zero_le _, Nat.zero_le _⟩ (Nat.le_of_ble_eq_true rfl) dX12_test_90 (fun H locs w => ?_)
        exact s_iret F w h dX12_test_93
set_option maxRecDepth 100000 in
set_option maxHeartbeats 4000000 in
theorem m_M_test (a1 : Int32) (S S' : SS) (r : Int32) (h : f_M_test a1 S = some (r, S')) : MT yX12_test cX12_test 6 (some .int) 3 67 (fun ad => [.ref (ad 0), .int a1]) S (some (.int r)) S' := by
  refine MT.of RX12 (fun ad => [(0, .ref (ad 0)), (1, .int a1)]) (by decide) rfl (fun _ => Nat.le_of_ble_eq_true rfl) (fun _ => rfl) ?_
  intro p l e R s m args below meth c dC dI cs ad A hR1 hR2 F H locs ls w hl
  have hx := F.1.1
  have hb := F.1.2.1
  rw [f_M_test] at h
  refine lv_aload_n (pc := 0) hx hb dX12_test_0 rfl (lv_at hl 0 rfl) ?_
  obtain ⟨S1, hc, h⟩ := bndv_t h
  refine s_cvv (pc := 1) [] (fun ad => [.ref (ad 0)]) F w (m_M_begin  _ _ hc) rfl rfl hl.1 ds_0 vc_X12 rfl ok_X12_begin rfl kc_X12_begin kl_X12_226 ki_X12_begin kv_X12_begin kn_X12 ⟨Nat.le_trans (by decide) hR1, Nat.le_trans (by decide) hR2⟩ ⟨Nat.zero_le _, Nat.zero_le _⟩ (Nat.le_of_ble_eq_true rfl) dX12_test_1 (fun H locs w => ?_)
  refine lv_aload_n (pc := 4) hx hb dX12_test_4 rfl (lv_at hl 0 rfl) ?_
  obtain ⟨S2, hc, h⟩ := bndv_t h
  refine s_cvv (pc := 5) [] (fun ad => [.ref (ad 0)]) F w (m_M_keep  _ _ hc) rfl rfl hl.1 ds_0 vc_X12 rfl ok_X12_keep rfl kc_X12_keep kl_X12_346 ki_X12_keep kv_X12_keep kn_X12 ⟨Nat.le_trans (by decide) hR1, Nat.le_trans (by decide) hR2⟩ ⟨Nat.zero_le _, Nat.zero_le _⟩ (Nat.le_of_ble_eq_true rfl) dX12_test_5 (fun H locs w => ?_)
  refine lv_aload_n (pc := 8) hx hb dX12_test_8 rfl (lv_at hl 0 rfl) ?_
  refine lv_aload_n (pc := 9) hx hb dX12_test_9 rfl (lv_at hl 0 rfl) ?_
  refine lv_iload_n (pc := 10) hx hb dX12_test_10 rfl (lv_at hl 1 rfl) ?_
  refine lv_iconst (pc := 11) (v := 0) hx hb dX12_test_11 (by decide) ?_
  obtain ⟨r4, S3, hc, h⟩ := bnd_t h
  refine s_cvi (pc := 12) [.int a1, .int (0 : Int32)] (fun ad => [.ref (ad 0), .int a1, .int (0 : Int32)]) F w (m_M_missThing _ _ _ _ _ hc) rfl rfl hl.1 ds_0 vc_X12 rfl ok_X12_missThing rfl kc_X12_missThing kl_X12_293 ki_X12_missThing kv_X12_missThing kn_X12 ⟨Nat.le_trans (by decide) hR1, Nat.le_trans (by decide) hR2⟩ ⟨Nat.zero_le _, Nat.zero_le _⟩ (Nat.le_of_ble_eq_true rfl) dX12_test_12 (fun H locs w => ?_)
  obtain ⟨r6, S5, hc, h⟩ := bnd_t h
  refine s_cvi (pc := 15) [.int r4] (fun ad => [.ref (ad 0), .int r4]) F w (m_M_ends _ _ _ _ hc) rfl rfl hl.1 ds_0 vc_X12 rfl ok_X12_ends rfl kc_X12_ends kl_X12_236 ki_X12_ends kv_X12_ends kn_X12 ⟨Nat.le_trans (by decide) hR1, Nat.le_trans (by decide) hR2⟩ ⟨Nat.zero_le _, Nat.zero_le _⟩ (Nat.le_of_ble_eq_true rfl) dX12_test_15 (fun H locs w => ?_)
  refine lv_if_eq (pc := 18) (tgt := 30) hx hb dX12_test_18 (by decide) (fun q => ?_) (fun q => ?_)
  · have h := ite_t q h
    refine lv_aload_n (pc := 30) hx hb dX12_test_30 rfl (lv_at hl 0 rfl) ?_
    refine lv_iload_n (pc := 31) hx hb dX12_test_31 rfl (lv_at hl 1 rfl) ?_
    obtain ⟨S7, hc, h⟩ := bndv_t h
    refine s_cvv (pc := 32) [.int a1] (fun ad => [.ref (ad 0), .int a1]) F w (m_M_lineUp _ _ _ hc) rfl rfl hl.1 ds_0 vc_X12 rfl ok_X12_lineUp rfl kc_X12_lineUp kl_X12_325 ki_X12_lineUp kv_X12_lineUp kn_X12 ⟨Nat.le_trans (by decide) hR1, Nat.le_trans (by decide) hR2⟩ ⟨Nat.zero_le _, Nat.zero_le _⟩ (Nat.le_of_ble_eq_true rfl) dX12_test_32 (fun H locs w => ?_)
    refine lv_iconst (pc := 35) (v := 0) hx hb dX12_test_35 (by decide) ?_
    refine lv_istore_n (pc := 36) (lv' := [(2, .int (0 : Int32)), (0, .ref (ad 0)), (1, .int a1)]) hx hb dX12_test_36 rfl hl (by decide) rfl (fun ls hl => ?_)
    refine lv_iconst (pc := 37) (v := 0) hx hb dX12_test_37 (by decide) ?_
    refine lv_istore_n (pc := 38) (lv' := [(3, .int (0 : Int32)), (2, .int (0 : Int32)), (0, .ref (ad 0)), (1, .int a1)]) hx hb dX12_test_38 rfl hl (by decide) rfl (fun ls hl => ?_)
    exact w_M_test_L39 F (Nat.le_trans (by decide) hR1) (Nat.le_trans (by decide) hR2) _ _ _ _ h _ _ _ w (lv_sub hl [2, 1, 0] rfl)
  · have h := ite_f q h
    refine lv_aload_n (pc := 21) hx hb dX12_test_21 rfl (lv_at hl 0 rfl) ?_
    refine lv_bipush (pc := 22) (v := 11) hx hb dX12_test_22 (by decide) ?_
    refine lv_bipush (pc := 24) (v := -2) hx hb dX12_test_24 (by decide) ?_
    obtain ⟨r23, S22, hc, h⟩ := bnd_t h
    refine s_cvi (pc := 26) [.int (11 : Int32), .int (-2 : Int32)] (fun ad => [.ref (ad 0), .int (11 : Int32), .int (-2 : Int32)]) F w (m_M_entered _ _ _ _ _ hc) rfl rfl hl.1 ds_0 vc_X12 rfl ok_X12_entered rfl kc_X12_entered kl_X12_349 ki_X12_entered kv_X12_entered kn_X12 ⟨Nat.le_trans (by decide) hR1, Nat.le_trans (by decide) hR2⟩ ⟨Nat.zero_le _, Nat.zero_le _⟩ (Nat.le_of_ble_eq_true rfl) dX12_test_26 (fun H locs w => ?_)
    exact s_iret F w h dX12_test_29
def f_M_mayLeave (a1 : Int32) (a2 : Int32) (S : SS) : Option (Int32 × SS) :=
  grd (inb a1 72) (
  bnd (f_M_wayOf a1 a2 S) (fun r2 S1 =>
  nm (((2 : Int32) * (S.1 20 a1.toNatClampNeg)) + r2) (fun z3 =>
  grd (inb z3 48) (
  if (S1.1 4 z3.toNatClampNeg) = 0 then
    some ((0 : Int32), S1)
  else
    grd (inb a1 72) (
    bnd (f_M_placeAtEnd z3 S1) (fun r5 S4 =>
    if (S1.1 21 a1.toNatClampNeg) = r5 then
      some ((1 : Int32), S4)
    else
      some ((0 : Int32), S4)))))))
theorem dX12_mayLeave_0 : decode cX12_mayLeave 0 = .ok (.iconst 2, 1) := dc_5 (by decide +kernel)
theorem dX12_mayLeave_1 : decode cX12_mayLeave 1 = .ok (.aload_n 0, 1) := dc_42 (by decide +kernel)
theorem dX12_mayLeave_2 : decode cX12_mayLeave 2 = .ok (.getfield 75, 3) := dc_180 (a := 0) (b := 75) (by decide +kernel)
theorem dX12_mayLeave_5 : decode cX12_mayLeave 5 = .ok (.iload_n 1, 1) := dc_27 (by decide +kernel)
theorem dX12_mayLeave_6 : decode cX12_mayLeave 6 = .ok (.iaload, 1) := dc_46 (by decide +kernel)
theorem dX12_mayLeave_7 : decode cX12_mayLeave 7 = .ok (.imul, 1) := dc_104 (by decide +kernel)
theorem dX12_mayLeave_8 : decode cX12_mayLeave 8 = .ok (.aload_n 0, 1) := dc_42 (by decide +kernel)
theorem dX12_mayLeave_9 : decode cX12_mayLeave 9 = .ok (.iload_n 1, 1) := dc_27 (by decide +kernel)
theorem dX12_mayLeave_10 : decode cX12_mayLeave 10 = .ok (.iload_n 2, 1) := dc_28 (by decide +kernel)
theorem dX12_mayLeave_11 : decode cX12_mayLeave 11 = .ok (.invokevirtual 368, 3) := dc_182 (a := 1) (b := 112) (by decide +kernel)
theorem dX12_mayLeave_14 : decode cX12_mayLeave 14 = .ok (.iadd, 1) := dc_96 (by decide +kernel)
theorem dX12_mayLeave_15 : decode cX12_mayLeave 15 = .ok (.istore_n 3, 1) := dc_62 (by decide +kernel)
theorem dX12_mayLeave_16 : decode cX12_mayLeave 16 = .ok (.aload_n 0, 1) := dc_42 (by decide +kernel)
theorem dX12_mayLeave_17 : decode cX12_mayLeave 17 = .ok (.getfield 26, 3) := dc_180 (a := 0) (b := 26) (by decide +kernel)
theorem dX12_mayLeave_20 : decode cX12_mayLeave 20 = .ok (.iload_n 3, 1) := dc_29 (by decide +kernel)
theorem dX12_mayLeave_21 : decode cX12_mayLeave 21 = .ok (.baload, 1) := dc_51 (by decide +kernel)
theorem dX12_mayLeave_22 : decode cX12_mayLeave 22 = .ok (.ifCond .eq 21, 3) := dc_153 (a := 0) (b := 21) (by decide +kernel) (by decide)
theorem dX12_mayLeave_25 : decode cX12_mayLeave 25 = .ok (.aload_n 0, 1) := dc_42 (by decide +kernel)
theorem dX12_mayLeave_26 : decode cX12_mayLeave 26 = .ok (.getfield 78, 3) := dc_180 (a := 0) (b := 78) (by decide +kernel)
theorem dX12_mayLeave_29 : decode cX12_mayLeave 29 = .ok (.iload_n 1, 1) := dc_27 (by decide +kernel)
theorem dX12_mayLeave_30 : decode cX12_mayLeave 30 = .ok (.iaload, 1) := dc_46 (by decide +kernel)
theorem dX12_mayLeave_31 : decode cX12_mayLeave 31 = .ok (.aload_n 0, 1) := dc_42 (by decide +kernel)
theorem dX12_mayLeave_32 : decode cX12_mayLeave 32 = .ok (.iload_n 3, 1) := dc_29 (by decide +kernel)
theorem dX12_mayLeave_33 : decode cX12_mayLeave 33 = .ok (.invokevirtual 257, 3) := dc_182 (a := 1) (b := 1) (by decide +kernel)
theorem dX12_mayLeave_36 : decode cX12_mayLeave 36 = .ok (.if_icmp .ne 7, 3) := dc_160 (a := 0) (b := 7) (by decide +kernel) (by decide)
theorem dX12_mayLeave_39 : decode cX12_mayLeave 39 = .ok (.iconst 1, 1) := dc_4 (by decide +kernel)
theorem dX12_mayLeave_40 : decode cX12_mayLeave 40 = .ok (.goto 4, 3) := dc_167 (a := 0) (b := 4) (by decide +kernel) (by decide)
theorem dX12_mayLeave_43 : decode cX12_mayLeave 43 = .ok (.iconst 0, 1) := dc_3 (by decide +kernel)
theorem dX12_mayLeave_44 : decode cX12_mayLeave 44 = .ok (.ireturn, 1) := dc_172 (by decide +kernel)
set_option maxRecDepth 100000 in
set_option maxHeartbeats 4000000 in
theorem m_M_mayLeave (a1 : Int32) (a2 : Int32) (S S' : SS) (r : Int32) (h : f_M_mayLeave a1 a2 S = some (r, S')) : MT yX12_mayLeave cX12_mayLeave 4 (some .boolean) 1 22 (fun ad => [.ref (ad 0), .int a1, .int a2]) S (some (.int r)) S' := by
  refine MT.of RX12 (fun ad => [(0, .ref (ad 0)), (1, .int a1), (2, .int a2)]) (by decide) rfl (fun _ => Nat.le_of_ble_eq_true rfl) (fun _ => rfl) ?_
  intro p l e R s m args below meth c dC dI cs ad A hR1 hR2 F H locs ls w hl
  have hx := F.1.1
  have hb := F.1.2.1
  rw [f_M_mayLeave] at h
  refine lv_iconst (pc := 0) (v := 2) hx hb dX12_mayLeave_0 (by decide) ?_
  refine lv_aload_n (pc := 1) hx hb dX12_mayLeave_1 rfl (lv_at hl 0 rfl) ?_
  refine s_getR (pc := 2) F w 20 ds_0 (j := 32) vc_X12 vi_X12 rfl (by decide) kf_X12_75 dX12_mayLeave_2 ?_
  refine lv_iload_n (pc := 5) hx hb dX12_mayLeave_5 rfl (lv_at hl 1 rfl) ?_
  refine s_iald (pc := 6) F w ds_20 h dX12_mayLeave_6 (fun h => ?_)
  refine lv_imul (pc := 7) hx hb dX12_mayLeave_7 ?_
  refine lv_aload_n (pc := 8) hx hb dX12_mayLeave_8 rfl (lv_at hl 0 rfl) ?_
  refine lv_iload_n (pc := 9) hx hb dX12_mayLeave_9 rfl (lv_at hl 1 rfl) ?_
  refine lv_iload_n (pc := 10) hx hb dX12_mayLeave_10 rfl (lv_at hl 2 rfl) ?_
  obtain ⟨r2, S1, hc, h⟩ := bnd_t h
  refine s_cvi (pc := 11) [.int a1, .int a2] (fun ad => [.ref (ad 0), .int a1, .int a2]) F w (m_M_wayOf _ _ _ _ _ hc) rfl rfl hl.1 ds_0 vc_X12 rfl ok_X12_wayOf rfl kc_X12_wayOf kl_X12_368 ki_X12_wayOf kv_X12_wayOf kn_X12 ⟨Nat.le_trans (by decide) hR1, Nat.le_trans (by decide) hR2⟩ ⟨Nat.zero_le _, Nat.zero_le _⟩ (Nat.le_of_ble_eq_true rfl) dX12_mayLeave_11 (fun H locs w => ?_)
  refine lv_iadd (pc := 14) hx hb dX12_mayLeave_14 ?_
  refine s_nm h (fun z3 ez3 h => ?_)
  rw [← ez3]
  refine lv_istore_n (pc := 15) (lv' := [(3, .int z3), (0, .ref (ad 0)), (1, .int a1), (2, .int a2)]) hx hb dX12_mayLeave_15 rfl hl (by decide) rfl (fun ls hl => ?_)
  refine lv_aload_n (pc := 16) hx hb dX12_mayLeave_16 rfl (lv_at hl 1 rfl) ?_
  refine s_getR (pc := 17) F w 4 ds_0 (j := 9) vc_X12 vi_X12 rfl (by decide) kf_X12_26 dX12_mayLeave_17 ?_
  refine lv_iload_n (pc := 20) hx hb dX12_mayLeave_20 rfl (lv_at hl 0 rfl) ?_
  refine s_zald (pc := 21) F w ds_4 h dX12_mayLeave_21 (fun h => ?_)
  refine lv_if_eq (pc := 22) (tgt := 43) hx hb dX12_mayLeave_22 (by decide) (fun q => ?_) (fun q => ?_)
  · have h := ite_t q h
    refine lv_iconst (pc := 43) (v := 0) hx hb dX12_mayLeave_43 (by decide) ?_
    exact s_zretc F w rfl h dX12_mayLeave_44
  · have h := ite_f q h
    refine lv_aload_n (pc := 25) hx hb dX12_mayLeave_25 rfl (lv_at hl 1 rfl) ?_
    refine s_getR (pc := 26) F w 21 ds_0 (j := 33) vc_X12 vi_X12 rfl (by decide) kf_X12_78 dX12_mayLeave_26 ?_
    refine lv_iload_n (pc := 29) hx hb dX12_mayLeave_29 rfl (lv_at hl 2 rfl) ?_
    refine s_iald (pc := 30) F w ds_21 h dX12_mayLeave_30 (fun h => ?_)
    refine lv_aload_n (pc := 31) hx hb dX12_mayLeave_31 rfl (lv_at hl 1 rfl) ?_
    refine lv_iload_n (pc := 32) hx hb dX12_mayLeave_32 rfl (lv_at hl 0 rfl) ?_
    obtain ⟨r5, S4, hc, h⟩ := bnd_t h
    refine s_cvi (pc := 33) [.int z3] (fun ad => [.ref (ad 0), .int z3]) F w (m_M_placeAtEnd _ _ _ _ hc) rfl rfl hl.1 ds_0 vc_X12 rfl ok_X12_placeAtEnd rfl kc_X12_placeAtEnd kl_X12_257 ki_X12_placeAtEnd kv_X12_placeAtEnd kn_X12 ⟨Nat.le_trans (by decide) hR1, Nat.le_trans (by decide) hR2⟩ ⟨Nat.zero_le _, Nat.zero_le _⟩ (Nat.le_of_ble_eq_true rfl) dX12_mayLeave_33 (fun H locs w => ?_)
    refine lv_icmp_ne (pc := 36) (tgt := 43) hx hb dX12_mayLeave_36 (by decide) (fun q => ?_) (fun q => ?_)
    · have h := ite_f q h
      refine lv_iconst (pc := 43) (v := 0) hx hb dX12_mayLeave_43 (by decide) ?_
      exact s_zretc F w rfl h dX12_mayLeave_44
    · have h := ite_t q h
      refine lv_iconst (pc := 39) (v := 1) hx hb dX12_mayLeave_39 (by decide) ?_
      refine lv_goto (pc := 40) (tgt := 44) hx hb dX12_mayLeave_40 (by decide) ?_
      exact s_zretc F w rfl h dX12_mayLeave_44
def f_M_missLeave_L20  : Nat → Int32 → SS → Option (Int32 × SS)
  | 0, _, _ => none
  | n + 1, x3, S =>
    if (S.1 0 56) ≤ x3 then
      grd (inb (0 : Int32) 72) (
      bnd (f_M_mayLeave (S.1 39 (0 : Int32).toNatClampNeg) (S.1 0 57) S) (fun r5 S4 =>
      if r5 = 0 then
        grd (inb ((S4.1 0 56) - (1 : Int32)) 72) (
        bnd (f_M_mayLeave (S4.1 39 ((S4.1 0 56) - (1 : Int32)).toNatClampNeg) (S4.1 0 58) S4) (fun r7 S6 =>
        if r7 = 0 then
          some ((10 : Int32), S6)
        else
          some ((0 : Int32), S6)))
      else
        some ((0 : Int32), S4)))
    else
      grd (inb x3 72) (
      grd (inb (S.1 39 x3.toNatClampNeg) 72) (
      if (S.1 34 (S.1 39 x3.toNatClampNeg).toNatClampNeg) = 0 then
        some ((17 : Int32), S)
      else
        nm (x3 + (1 : Int32)) (fun z8 =>
        f_M_missLeave_L20 n z8 S)))
def f_M_missLeave (a1 : Int32) (S : SS) : Option (Int32 × SS) :=
  bnd (f_M_missThing a1 (2 : Int32) S) (fun r2 S1 =>
  if r2 = 0 then
    bndv (f_M_lineUp a1 S1) (fun S3 =>
    f_M_missLeave_L20 NF (0 : Int32) S3)
  else
    some (r2, S1))
theorem dX12_missLeave_0 : decode cX12_missLeave 0 = .ok (.aload_n 0, 1) := dc_42 (by decide +kernel)
theorem dX12_missLeave_1 : decode cX12_missLeave 1 = .ok (.iload_n 1, 1) := dc_27 (by decide +kernel)
theorem dX12_missLeave_2 : decode cX12_missLeave 2 = .ok (.iconst 2, 1) := dc_5 (by decide +kernel)
theorem dX12_missLeave_3 : decode cX12_missLeave 3 = .ok (.invokevirtual 293, 3) := dc_182 (a := 1) (b := 37) (by decide +kernel)
theorem dX12_missLeave_6 : decode cX12_missLeave 6 = .ok (.istore_n 2, 1) := dc_61 (by decide +kernel)
theorem dX12_missLeave_7 : decode cX12_missLeave 7 = .ok (.iload_n 2, 1) := dc_28 (by decide +kernel)
theorem dX12_missLeave_8 : decode cX12_missLeave 8 = .ok (.ifCond .eq 5, 3) := dc_153 (a := 0) (b := 5) (by decide +kernel) (by decide)
theorem dX12_missLeave_11 : decode cX12_missLeave 11 = .ok (.iload_n 2, 1) := dc_28 (by decide +kernel)
theorem dX12_missLeave_12 : decode cX12_missLeave 12 = .ok (.ireturn, 1) := dc_172 (by decide +kernel)
theorem dX12_missLeave_13 : decode cX12_missLeave 13 = .ok (.aload_n 0, 1) := dc_42 (by decide +kernel)
theorem dX12_missLeave_14 : decode cX12_missLeave 14 = .ok (.iload_n 1, 1) := dc_27 (by decide +kernel)
theorem dX12_missLeave_15 : decode cX12_missLeave 15 = .ok (.invokevirtual 325, 3) := dc_182 (a := 1) (b := 69) (by decide +kernel)
theorem dX12_missLeave_18 : decode cX12_missLeave 18 = .ok (.iconst 0, 1) := dc_3 (by decide +kernel)
theorem dX12_missLeave_19 : decode cX12_missLeave 19 = .ok (.istore_n 3, 1) := dc_62 (by decide +kernel)
theorem dX12_missLeave_20 : decode cX12_missLeave 20 = .ok (.iload_n 3, 1) := dc_29 (by decide +kernel)
theorem dX12_missLeave_21 : decode cX12_missLeave 21 = .ok (.aload_n 0, 1) := dc_42 (by decide +kernel)
theorem dX12_missLeave_22 : decode cX12_missLeave 22 = .ok (.getfield 319, 3) := dc_180 (a := 1) (b := 63) (by decide +kernel)
theorem dX12_missLeave_25 : decode cX12_missLeave 25 = .ok (.if_icmp .ge 26, 3) := dc_162 (a := 0) (b := 26) (by decide +kernel) (by decide)
theorem dX12_missLeave_28 : decode cX12_missLeave 28 = .ok (.aload_n 0, 1) := dc_42 (by decide +kernel)
theorem dX12_missLeave_29 : decode cX12_missLeave 29 = .ok (.getfield 117, 3) := dc_180 (a := 0) (b := 117) (by decide +kernel)
theorem dX12_missLeave_32 : decode cX12_missLeave 32 = .ok (.aload_n 0, 1) := dc_42 (by decide +kernel)
theorem dX12_missLeave_33 : decode cX12_missLeave 33 = .ok (.getfield 132, 3) := dc_180 (a := 0) (b := 132) (by decide +kernel)
theorem dX12_missLeave_36 : decode cX12_missLeave 36 = .ok (.iload_n 3, 1) := dc_29 (by decide +kernel)
theorem dX12_missLeave_37 : decode cX12_missLeave 37 = .ok (.iaload, 1) := dc_46 (by decide +kernel)
theorem dX12_missLeave_38 : decode cX12_missLeave 38 = .ok (.baload, 1) := dc_51 (by decide +kernel)
theorem dX12_missLeave_39 : decode cX12_missLeave 39 = .ok (.ifCond .ne 6, 3) := dc_154 (a := 0) (b := 6) (by decide +kernel) (by decide)
theorem dX12_missLeave_42 : decode cX12_missLeave 42 = .ok (.bipush 17, 2) := dc_16 (a := 17) (by decide +kernel) (by decide)
theorem dX12_missLeave_44 : decode cX12_missLeave 44 = .ok (.ireturn, 1) := dc_172 (by decide +kernel)
theorem dX12_missLeave_45 : decode cX12_missLeave 45 = .ok (.iinc 3 1, 3) := dc_132 (a := 3) (b := 1) (by decide +kernel) (by decide)
theorem dX12_missLeave_48 : decode cX12_missLeave 48 = .ok (.goto (-28), 3) := dc_167 (a := 255) (b := 228) (by decide +kernel) (by decide)
theorem dX12_missLeave_51 : decode cX12_missLeave 51 = .ok (.aload_n 0, 1) := dc_42 (by decide +kernel)
theorem dX12_missLeave_52 : decode cX12_missLeave 52 = .ok (.aload_n 0, 1) := dc_42 (by decide +kernel)
theorem dX12_missLeave_53 : decode cX12_missLeave 53 = .ok (.getfield 132, 3) := dc_180 (a := 0) (b := 132) (by decide +kernel)
theorem dX12_missLeave_56 : decode cX12_missLeave 56 = .ok (.iconst 0, 1) := dc_3 (by decide +kernel)
theorem dX12_missLeave_57 : decode cX12_missLeave 57 = .ok (.iaload, 1) := dc_46 (by decide +kernel)
theorem dX12_missLeave_58 : decode cX12_missLeave 58 = .ok (.aload_n 0, 1) := dc_42 (by decide +kernel)
theorem dX12_missLeave_59 : decode cX12_missLeave 59 = .ok (.getfield 316, 3) := dc_180 (a := 1) (b := 60) (by decide +kernel)
theorem dX12_missLeave_62 : decode cX12_missLeave 62 = .ok (.invokevirtual 441, 3) := dc_182 (a := 1) (b := 185) (by decide +kernel)
theorem dX12_missLeave_65 : decode cX12_missLeave 65 = .ok (.ifCond .ne 25, 3) := dc_154 (a := 0) (b := 25) (by decide +kernel) (by decide)
theorem dX12_missLeave_68 : decode cX12_missLeave 68 = .ok (.aload_n 0, 1) := dc_42 (by decide +kernel)
theorem dX12_missLeave_69 : decode cX12_missLeave 69 = .ok (.aload_n 0, 1) := dc_42 (by decide +kernel)
theorem dX12_missLeave_70 : decode cX12_missLeave 70 = .ok (.getfield 132, 3) := dc_180 (a := 0) (b := 132) (by decide +kernel)
theorem dX12_missLeave_73 : decode cX12_missLeave 73 = .ok (.aload_n 0, 1) := dc_42 (by decide +kernel)
theorem dX12_missLeave_74 : decode cX12_missLeave 74 = .ok (.getfield 319, 3) := dc_180 (a := 1) (b := 63) (by decide +kernel)
theorem dX12_missLeave_77 : decode cX12_missLeave 77 = .ok (.iconst 1, 1) := dc_4 (by decide +kernel)
theorem dX12_missLeave_78 : decode cX12_missLeave 78 = .ok (.isub, 1) := dc_100 (by decide +kernel)
theorem dX12_missLeave_79 : decode cX12_missLeave 79 = .ok (.iaload, 1) := dc_46 (by decide +kernel)
theorem dX12_missLeave_80 : decode cX12_missLeave 80 = .ok (.aload_n 0, 1) := dc_42 (by decide +kernel)
theorem dX12_missLeave_81 : decode cX12_missLeave 81 = .ok (.getfield 322, 3) := dc_180 (a := 1) (b := 66) (by decide +kernel)
theorem dX12_missLeave_84 : decode cX12_missLeave 84 = .ok (.invokevirtual 441, 3) := dc_182 (a := 1) (b := 185) (by decide +kernel)
theorem dX12_missLeave_87 : decode cX12_missLeave 87 = .ok (.ifCond .eq 7, 3) := dc_153 (a := 0) (b := 7) (by decide +kernel) (by decide)
theorem dX12_missLeave_90 : decode cX12_missLeave 90 = .ok (.iconst 0, 1) := dc_3 (by decide +kernel)
theorem dX12_missLeave_91 : decode cX12_missLeave 91 = .ok (.goto 5, 3) := dc_167 (a := 0) (b := 5) (by decide +kernel) (by decide)
theorem dX12_missLeave_94 : decode cX12_missLeave 94 = .ok (.bipush 10, 2) := dc_16 (a := 10) (by decide +kernel) (by decide)
theorem dX12_missLeave_96 : decode cX12_missLeave 96 = .ok (.ireturn, 1) := dc_172 (by decide +kernel)
set_option maxRecDepth 100000 in
set_option maxHeartbeats 4000000 in
theorem w_M_missLeave_L20 {p : Program} {l : Launch} {e : Env} {R : Room} {s : State} {m : MethodId} {args : Array Value} {below : List Frame} {meth : Method} {c : Code} {dC : Nat → ClassId} {dI : Nat → Nat → Nat} {cs : Nat → ClassId} {ad : Nat → Nat} {A : Nat → Prop} {D0 : Nat → Nat} {S' : SS} {r : Int32} (F : Fx p s m args meth c cX12_missLeave 4 RX12 (some .int) dC dI cs A) (hR1 : 2 ≤ R.frames) (hR2 : 45 ≤ R.locals) : ∀ (n : Nat) (x3 : Int32) (S : SS), f_M_missLeave_L20 n x3 S = some (r, S') → AW p l e R s m args below meth c dC dI cs ad A D0 (some (.int r)) S' 4 20 [(0, .ref (ad 0)), (3, .int x3)] [] S := by
  have hx := F.1.1
  have hb := F.1.2.1
  intro n
  induction n with
  | zero => intro x3 S h; cases h
  | succ n ih =>
    intro x3 S h H locs ls w hl
    rw [f_M_missLeave_L20] at h
    refine lv_iload_n (pc := 20) hx hb dX12_missLeave_20 rfl (lv_at hl 1 rfl) ?_
    refine lv_aload_n (pc := 21) hx hb dX12_missLeave_21 rfl (lv_at hl 0 rfl) ?_
    refine s_getI (pc := 22) F w ds_0 (j := 56) vc_X12 vi_X12 rfl (by decide) kf_X12_319 dX12_missLeave_22 ?_
    refine lv_icmp_ge (pc := 25) (tgt := 51) hx hb dX12_missLeave_25 (by decide) (fun q => ?_) (fun q => ?_)
    · have h := ite_t q h
      refine lv_aload_n (pc := 51) hx hb dX12_missLeave_51 rfl (lv_at hl 0 rfl) ?_
      refine lv_aload_n (pc := 52) hx hb dX12_missLeave_52 rfl (lv_at hl 0 rfl) ?_
      refine s_getR (pc := 53) F w 39 ds_0 (j := 55) vc_X12 vi_X12 rfl (by decide) kf_X12_132 dX12_missLeave_53 ?_
      refine lv_iconst (pc := 56) (v := 0) hx hb dX12_missLeave_56 (by decide) ?_
      refine s_iald (pc := 57) F w ds_39 h dX12_missLeave_57 (fun h => ?_)
      refine lv_aload_n (pc := 58) hx hb dX12_missLeave_58 rfl (lv_at hl 0 rfl) ?_
      refine s_getI (pc := 59) F w ds_0 (j := 57) vc_X12 vi_X12 rfl (by decide) kf_X12_316 dX12_missLeave_59 ?_
      obtain ⟨r5, S4, hc, h⟩ := bnd_t h
      refine s_cvi (pc := 62) [.int (S.1 39 (0 : Int32).toNatClampNeg), .int (S.1 0 57)] (fun ad => [.ref (ad 0), .int (S.1 39 (0 : Int32).toNatClampNeg), .int (S.1 0 57)]) F w (m_M_mayLeave _ _ _ _ _ hc) rfl rfl hl.1 ds_0 vc_X12 rfl ok_X12_mayLeave rfl kc_X12_mayLeave kl_X12_441 ki_X12_mayLeave kv_X12_mayLeave kn_X12 ⟨Nat.le_trans (by decide) hR1, Nat.le_trans (by decide) hR2⟩ ⟨Nat.zero_le _, Nat.zero_le _⟩ (Nat.le_of_ble_eq_true rfl) dX12_missLeave_62 (fun H locs w => ?_)
      refine lv_if_ne (pc := 65) (tgt := 90) hx hb dX12_missLeave_65 (by decide) (fun q => ?_) (fun q => ?_)
      · have h := ite_f q h
        refine lv_iconst (pc := 90) (v := 0) hx hb dX12_missLeave_90 (by decide) ?_
        refine lv_goto (pc := 91) (tgt := 96) hx hb dX12_missLeave_91 (by decide) ?_
        exact s_iret F w h dX12_missLeave_96
      · have h := ite_t q h
        refine lv_aload_n (pc := 68) hx hb dX12_missLeave_68 rfl (lv_at hl 0 rfl) ?_
        refine lv_aload_n (pc := 69) hx hb dX12_missLeave_69 rfl (lv_at hl 0 rfl) ?_
        refine s_getR (pc := 70) F w 39 ds_0 (j := 55) vc_X12 vi_X12 rfl (by decide) kf_X12_132 dX12_missLeave_70 ?_
        refine lv_aload_n (pc := 73) hx hb dX12_missLeave_73 rfl (lv_at hl 0 rfl) ?_
        refine s_getI (pc := 74) F w ds_0 (j := 56) vc_X12 vi_X12 rfl (by decide) kf_X12_319 dX12_missLeave_74 ?_
        refine lv_iconst (pc := 77) (v := 1) hx hb dX12_missLeave_77 (by decide) ?_
        refine lv_isub (pc := 78) hx hb dX12_missLeave_78 ?_
        refine s_iald (pc := 79) F w ds_39 h dX12_missLeave_79 (fun h => ?_)
        refine lv_aload_n (pc := 80) hx hb dX12_missLeave_80 rfl (lv_at hl 0 rfl) ?_
        refine s_getI (pc := 81) F w ds_0 (j := 58) vc_X12 vi_X12 rfl (by decide) kf_X12_322 dX12_missLeave_81 ?_
        obtain ⟨r7, S6, hc, h⟩ := bnd_t h
        refine s_cvi (pc := 84) [.int (S4.1 39 ((S4.1 0 56) - (1 : Int32)).toNatClampNeg), .int (S4.1 0 58)] (fun ad => [.ref (ad 0), .int (S4.1 39 ((S4.1 0 56) - (1 : Int32)).toNatClampNeg), .int (S4.1 0 58)]) F w (m_M_mayLeave _ _ _ _ _ hc) rfl rfl hl.1 ds_0 vc_X12 rfl ok_X12_mayLeave rfl kc_X12_mayLeave kl_X12_441 ki_X12_mayLeave kv_X12_mayLeave kn_X12 ⟨Nat.le_trans (by decide) hR1, Nat.le_trans (by decide) hR2⟩ ⟨Nat.zero_le _, Nat.zero_le _⟩ (Nat.le_of_ble_eq_true rfl) dX12_missLeave_84 (fun H locs w => ?_)
        refine lv_if_eq (pc := 87) (tgt := 94) hx hb dX12_missLeave_87 (by decide) (fun q => ?_) (fun q => ?_)
        · have h := ite_t q h
          refine lv_bipush (pc := 94) (v := 10) hx hb dX12_missLeave_94 (by decide) ?_
          exact s_iret F w h dX12_missLeave_96
        · have h := ite_f q h
          refine lv_iconst (pc := 90) (v := 0) hx hb dX12_missLeave_90 (by decide) ?_
          refine lv_goto (pc := 91) (tgt := 96) hx hb dX12_missLeave_91 (by decide) ?_
          exact s_iret F w h dX12_missLeave_96
    · have h := ite_f q h
      refine lv_aload_n (pc := 28) hx hb dX12_missLeave_28 rfl (lv_at hl 0 rfl) ?_
      refine s_getR (pc := 29) F w 34 ds_0 (j := 46) vc_X12 vi_X12 rfl (by decide) kf_X12_117 dX12_missLeave_29 ?_
      refine lv_aload_n (pc := 32) hx hb dX12_missLeave_32 rfl (lv_at hl 0 rfl) ?_
      refine s_getR (pc := 33) F w 39 ds_0 (j := 55) vc_X12 vi_X12 rfl (by decide) kf_X12_132 dX12_missLeave_33 ?_
      refine lv_iload_n (pc := 36) hx hb dX12_missLeave_36 rfl (lv_at hl 1 rfl) ?_
      refine s_iald (pc := 37) F w ds_39 h dX12_missLeave_37 (fun h => ?_)
      refine s_zald (pc := 38) F w ds_34 h dX12_missLeave_38 (fun h => ?_)
      refine lv_if_ne (pc := 39) (tgt := 45) hx hb dX12_missLeave_39 (by decide) (fun q => ?_) (fun q => ?_)
      · have h := ite_f q h
        refine s_nm h (fun z8 ez8 h => ?_)
        refine lv_iinc (pc := 45) (v := z8) (lv' := [(3, .int z8), (0, .ref (ad 0))]) hx hb dX12_missLeave_45 hl (k := 1) rfl (by rw [ez8]; rfl) (by decide) rfl (fun ls hl => ?_)
        refine lv_goto (pc := 48) (tgt := 20) hx hb dX12_missLeave_48 (by decide) ?_
        exact ih _ _ h _ _ _ w (lv_sub hl [1, 0] rfl)
      · have h := ite_t q h
        refine lv_bipush (pc := 42) (v := 17) hx hb dX12_missLeave_42 (by decide) ?_
        exact s_iret F w h dX12_missLeave_44
set_option maxRecDepth 100000 in
set_option maxHeartbeats 4000000 in
theorem m_M_missLeave (a1 : Int32) (S S' : SS) (r : Int32) (h : f_M_missLeave a1 S = some (r, S')) : MT yX12_missLeave cX12_missLeave 4 (some .int) 2 46 (fun ad => [.ref (ad 0), .int a1]) S (some (.int r)) S' := by
  refine MT.of RX12 (fun ad => [(0, .ref (ad 0)), (1, .int a1)]) (by decide) rfl (fun _ => Nat.le_of_ble_eq_true rfl) (fun _ => rfl) ?_
  intro p l e R s m args below meth c dC dI cs ad A hR1 hR2 F H locs ls w hl
  have hx := F.1.1
  have hb := F.1.2.1
  rw [f_M_missLeave] at h
  refine lv_aload_n (pc := 0) hx hb dX12_missLeave_0 rfl (lv_at hl 0 rfl) ?_
  refine lv_iload_n (pc := 1) hx hb dX12_missLeave_1 rfl (lv_at hl 1 rfl) ?_
  refine lv_iconst (pc := 2) (v := 2) hx hb dX12_missLeave_2 (by decide) ?_
  obtain ⟨r2, S1, hc, h⟩ := bnd_t h
  refine s_cvi (pc := 3) [.int a1, .int (2 : Int32)] (fun ad => [.ref (ad 0), .int a1, .int (2 : Int32)]) F w (m_M_missThing _ _ _ _ _ hc) rfl rfl hl.1 ds_0 vc_X12 rfl ok_X12_missThing rfl kc_X12_missThing kl_X12_293 ki_X12_missThing kv_X12_missThing kn_X12 ⟨Nat.le_trans (by decide) hR1, Nat.le_trans (by decide) hR2⟩ ⟨Nat.zero_le _, Nat.zero_le _⟩ (Nat.le_of_ble_eq_true rfl) dX12_missLeave_3 (fun H locs w => ?_)
  refine lv_istore_n (pc := 6) (lv' := [(2, .int r2), (0, .ref (ad 0)), (1, .int a1)]) hx hb dX12_missLeave_6 rfl hl (by decide) rfl (fun ls hl => ?_)
  refine lv_iload_n (pc := 7) hx hb dX12_missLeave_7 rfl (lv_at hl 0 rfl) ?_
  refine lv_if_eq (pc := 8) (tgt := 13) hx hb dX12_missLeave_8 (by decide) (fun q => ?_) (fun q => ?_)
  · have h := ite_t q h
    refine lv_aload_n (pc := 13) hx hb dX12_missLeave_13 rfl (lv_at hl 1 rfl) ?_
    refine lv_iload_n (pc := 14) hx hb dX12_missLeave_14 rfl (lv_at hl 2 rfl) ?_
    obtain ⟨S3, hc, h⟩ := bndv_t h
    refine s_cvv (pc := 15) [.int a1] (fun ad => [.ref (ad 0), .int a1]) F w (m_M_lineUp _ _ _ hc) rfl rfl hl.1 ds_0 vc_X12 rfl ok_X12_lineUp rfl kc_X12_lineUp kl_X12_325 ki_X12_lineUp kv_X12_lineUp kn_X12 ⟨Nat.le_trans (by decide) hR1, Nat.le_trans (by decide) hR2⟩ ⟨Nat.zero_le _, Nat.zero_le _⟩ (Nat.le_of_ble_eq_true rfl) dX12_missLeave_15 (fun H locs w => ?_)
    refine lv_iconst (pc := 18) (v := 0) hx hb dX12_missLeave_18 (by decide) ?_
    refine lv_istore_n (pc := 19) (lv' := [(3, .int (0 : Int32)), (2, .int r2), (0, .ref (ad 0)), (1, .int a1)]) hx hb dX12_missLeave_19 rfl hl (by decide) rfl (fun ls hl => ?_)
    exact w_M_missLeave_L20 F (Nat.le_trans (by decide) hR1) (Nat.le_trans (by decide) hR2) _ _ _ h _ _ _ w (lv_sub hl [2, 0] rfl)
  · have h := ite_f q h
    refine lv_iload_n (pc := 11) hx hb dX12_missLeave_11 rfl (lv_at hl 0 rfl) ?_
    exact s_iret F w h dX12_missLeave_12
def f_M_leave_L31  : Nat → Int32 → SS → Option (Int32 × SS)
  | 0, _, _ => none
  | n + 1, x2, S =>
    if (S.1 0 56) ≤ x2 then
      bnd (f_M_entered (12 : Int32) (S.1 0 56) S) (fun r8 S7 =>
      some (r8, S7))
    else
      grd (inb x2 72) (
      grd (inb (S.1 39 x2.toNatClampNeg) 72) (wr S 19 (S.1 39 x2.toNatClampNeg).toNatClampNeg (vp_nar .boolean (0 : Int32)) (fun S9 =>
      nm (x2 + (1 : Int32)) (fun z10 =>
      f_M_leave_L31 n z10 S9))))
def f_M_leave (a1 : Int32) (S : SS) : Option (Int32 × SS) :=
  bndv (f_M_begin  S) (fun S1 =>
  bndv (f_M_keep  S1) (fun S2 =>
  bnd (f_M_missLeave a1 S2) (fun r4 S3 =>
  bnd (f_M_ends r4 S3) (fun r6 S5 =>
  if r6 = 0 then
    f_M_leave_L31 NF (0 : Int32) S5
  else
    bnd (f_M_entered (12 : Int32) (-2 : Int32) S5) (fun r12 S11 =>
    some (r12, S11))))))
theorem dX12_leave_0 : decode cX12_leave 0 = .ok (.aload_n 0, 1) := dc_42 (by decide +kernel)
theorem dX12_leave_1 : decode cX12_leave 1 = .ok (.invokevirtual 226, 3) := dc_182 (a := 0) (b := 226) (by decide +kernel)
theorem dX12_leave_4 : decode cX12_leave 4 = .ok (.aload_n 0, 1) := dc_42 (by decide +kernel)
theorem dX12_leave_5 : decode cX12_leave 5 = .ok (.invokevirtual 346, 3) := dc_182 (a := 1) (b := 90) (by decide +kernel)
theorem dX12_leave_8 : decode cX12_leave 8 = .ok (.aload_n 0, 1) := dc_42 (by decide +kernel)
theorem dX12_leave_9 : decode cX12_leave 9 = .ok (.aload_n 0, 1) := dc_42 (by decide +kernel)
theorem dX12_leave_10 : decode cX12_leave 10 = .ok (.iload_n 1, 1) := dc_27 (by decide +kernel)
theorem dX12_leave_11 : decode cX12_leave 11 = .ok (.invokevirtual 444, 3) := dc_182 (a := 1) (b := 188) (by decide +kernel)
theorem dX12_leave_14 : decode cX12_leave 14 = .ok (.invokevirtual 236, 3) := dc_182 (a := 0) (b := 236) (by decide +kernel)
theorem dX12_leave_17 : decode cX12_leave 17 = .ok (.ifCond .eq 12, 3) := dc_153 (a := 0) (b := 12) (by decide +kernel) (by decide)
theorem dX12_leave_20 : decode cX12_leave 20 = .ok (.aload_n 0, 1) := dc_42 (by decide +kernel)
theorem dX12_leave_21 : decode cX12_leave 21 = .ok (.bipush 12, 2) := dc_16 (a := 12) (by decide +kernel) (by decide)
theorem dX12_leave_23 : decode cX12_leave 23 = .ok (.bipush (-2), 2) := dc_16 (a := 254) (by decide +kernel) (by decide)
theorem dX12_leave_25 : decode cX12_leave 25 = .ok (.invokevirtual 349, 3) := dc_182 (a := 1) (b := 93) (by decide +kernel)
theorem dX12_leave_28 : decode cX12_leave 28 = .ok (.ireturn, 1) := dc_172 (by decide +kernel)
theorem dX12_leave_29 : decode cX12_leave 29 = .ok (.iconst 0, 1) := dc_3 (by decide +kernel)
theorem dX12_leave_30 : decode cX12_leave 30 = .ok (.istore_n 2, 1) := dc_61 (by decide +kernel)
theorem dX12_leave_31 : decode cX12_leave 31 = .ok (.iload_n 2, 1) := dc_28 (by decide +kernel)
theorem dX12_leave_32 : decode cX12_leave 32 = .ok (.aload_n 0, 1) := dc_42 (by decide +kernel)
theorem dX12_leave_33 : decode cX12_leave 33 = .ok (.getfield 319, 3) := dc_180 (a := 1) (b := 63) (by decide +kernel)
theorem dX12_leave_36 : decode cX12_leave 36 = .ok (.if_icmp .ge 21, 3) := dc_162 (a := 0) (b := 21) (by decide +kernel) (by decide)
theorem dX12_leave_39 : decode cX12_leave 39 = .ok (.aload_n 0, 1) := dc_42 (by decide +kernel)
theorem dX12_leave_40 : decode cX12_leave 40 = .ok (.getfield 72, 3) := dc_180 (a := 0) (b := 72) (by decide +kernel)
theorem dX12_leave_43 : decode cX12_leave 43 = .ok (.aload_n 0, 1) := dc_42 (by decide +kernel)
theorem dX12_leave_44 : decode cX12_leave 44 = .ok (.getfield 132, 3) := dc_180 (a := 0) (b := 132) (by decide +kernel)
theorem dX12_leave_47 : decode cX12_leave 47 = .ok (.iload_n 2, 1) := dc_28 (by decide +kernel)
theorem dX12_leave_48 : decode cX12_leave 48 = .ok (.iaload, 1) := dc_46 (by decide +kernel)
theorem dX12_leave_49 : decode cX12_leave 49 = .ok (.iconst 0, 1) := dc_3 (by decide +kernel)
theorem dX12_leave_50 : decode cX12_leave 50 = .ok (.bastore, 1) := dc_84 (by decide +kernel)
theorem dX12_leave_51 : decode cX12_leave 51 = .ok (.iinc 2 1, 3) := dc_132 (a := 2) (b := 1) (by decide +kernel) (by decide)
theorem dX12_leave_54 : decode cX12_leave 54 = .ok (.goto (-23), 3) := dc_167 (a := 255) (b := 233) (by decide +kernel) (by decide)
theorem dX12_leave_57 : decode cX12_leave 57 = .ok (.aload_n 0, 1) := dc_42 (by decide +kernel)
theorem dX12_leave_58 : decode cX12_leave 58 = .ok (.bipush 12, 2) := dc_16 (a := 12) (by decide +kernel) (by decide)
theorem dX12_leave_60 : decode cX12_leave 60 = .ok (.aload_n 0, 1) := dc_42 (by decide +kernel)
theorem dX12_leave_61 : decode cX12_leave 61 = .ok (.getfield 319, 3) := dc_180 (a := 1) (b := 63) (by decide +kernel)
theorem dX12_leave_64 : decode cX12_leave 64 = .ok (.invokevirtual 349, 3) := dc_182 (a := 1) (b := 93) (by decide +kernel)
theorem dX12_leave_67 : decode cX12_leave 67 = .ok (.ireturn, 1) := dc_172 (by decide +kernel)
set_option maxRecDepth 100000 in
set_option maxHeartbeats 4000000 in
theorem w_M_leave_L31 {p : Program} {l : Launch} {e : Env} {R : Room} {s : State} {m : MethodId} {args : Array Value} {below : List Frame} {meth : Method} {c : Code} {dC : Nat → ClassId} {dI : Nat → Nat → Nat} {cs : Nat → ClassId} {ad : Nat → Nat} {A : Nat → Prop} {D0 : Nat → Nat} {S' : SS} {r : Int32} (F : Fx p s m args meth c cX12_leave 3 RX12 (some .int) dC dI cs A) (hR1 : 1 ≤ R.frames) (hR2 : 22 ≤ R.locals) : ∀ (n : Nat) (x2 : Int32) (S : SS), f_M_leave_L31 n x2 S = some (r, S') → AW p l e R s m args below meth c dC dI cs ad A D0 (some (.int r)) S' 3 31 [(0, .ref (ad 0)), (2, .int x2)] [] S := by
  have hx := F.1.1
  have hb := F.1.2.1
  intro n
  induction n with
  | zero => intro x2 S h; cases h
  | succ n ih =>
    intro x2 S h H locs ls w hl
    rw [f_M_leave_L31] at h
    refine lv_iload_n (pc := 31) hx hb dX12_leave_31 rfl (lv_at hl 1 rfl) ?_
    refine lv_aload_n (pc := 32) hx hb dX12_leave_32 rfl (lv_at hl 0 rfl) ?_
    refine s_getI (pc := 33) F w ds_0 (j := 56) vc_X12 vi_X12 rfl (by decide) kf_X12_319 dX12_leave_33 ?_
    refine lv_icmp_ge (pc := 36) (tgt := 57) hx hb dX12_leave_36 (by decide) (fun q => ?_) (fun q => ?_)
    · have h := ite_t q h
      refine lv_aload_n (pc := 57) hx hb dX12_leave_57 rfl (lv_at hl 0 rfl) ?_
      refine lv_bipush (pc := 58) (v := 12) hx hb dX12_leave_58 (by decide) ?_
      refine lv_aload_n (pc := 60) hx hb dX12_leave_60 rfl (lv_at hl 0 rfl) ?_
      refine s_getI (pc := 61) F w ds_0 (j := 56) vc_X12 vi_X12 rfl (by decide) kf_X12_319 dX12_leave_61 ?_
      obtain ⟨r8, S7, hc, h⟩ := bnd_t h
      refine s_cvi (pc := 64) [.int (12 : Int32), .int (S.1 0 56)] (fun ad => [.ref (ad 0), .int (12 : Int32), .int (S.1 0 56)]) F w (m_M_entered _ _ _ _ _ hc) rfl rfl hl.1 ds_0 vc_X12 rfl ok_X12_entered rfl kc_X12_entered kl_X12_349 ki_X12_entered kv_X12_entered kn_X12 ⟨Nat.le_trans (by decide) hR1, Nat.le_trans (by decide) hR2⟩ ⟨Nat.zero_le _, Nat.zero_le _⟩ (Nat.le_of_ble_eq_true rfl) dX12_leave_64 (fun H locs w => ?_)
      exact s_iret F w h dX12_leave_67
    · have h := ite_f q h
      refine lv_aload_n (pc := 39) hx hb dX12_leave_39 rfl (lv_at hl 0 rfl) ?_
      refine s_getR (pc := 40) F w 19 ds_0 (j := 31) vc_X12 vi_X12 rfl (by decide) kf_X12_72 dX12_leave_40 ?_
      refine lv_aload_n (pc := 43) hx hb dX12_leave_43 rfl (lv_at hl 0 rfl) ?_
      refine s_getR (pc := 44) F w 39 ds_0 (j := 55) vc_X12 vi_X12 rfl (by decide) kf_X12_132 dX12_leave_44 ?_
      refine lv_iload_n (pc := 47) hx hb dX12_leave_47 rfl (lv_at hl 1 rfl) ?_
      refine s_iald (pc := 48) F w ds_39 h dX12_leave_48 (fun h => ?_)
      refine lv_iconst (pc := 49) (v := 0) hx hb dX12_leave_49 (by decide) ?_
      refine s_zast (pc := 50) F w ds_19 h dX12_leave_50 (fun S9 H locs h w => ?_)
      refine s_nm h (fun z10 ez10 h => ?_)
      refine lv_iinc (pc := 51) (v := z10) (lv' := [(2, .int z10), (0, .ref (ad 0))]) hx hb dX12_leave_51 hl (k := 1) rfl (by rw [ez10]; rfl) (by decide) rfl (fun ls hl => ?_)
      refine lv_goto (pc := 54) (tgt := 31) hx hb dX12_leave_54 (by decide) ?_
      exact ih _ _ h _ _ _ w (lv_sub hl [1, 0] rfl)
set_option maxRecDepth 100000 in
set_option maxHeartbeats 4000000 in
theorem m_M_leave (a1 : Int32) (S S' : SS) (r : Int32) (h : f_M_leave a1 S = some (r, S')) : MT yX12_leave cX12_leave 3 (some .int) 3 69 (fun ad => [.ref (ad 0), .int a1]) S (some (.int r)) S' := by
  refine MT.of RX12 (fun ad => [(0, .ref (ad 0)), (1, .int a1)]) (by decide) rfl (fun _ => Nat.le_of_ble_eq_true rfl) (fun _ => rfl) ?_
  intro p l e R s m args below meth c dC dI cs ad A hR1 hR2 F H locs ls w hl
  have hx := F.1.1
  have hb := F.1.2.1
  rw [f_M_leave] at h
  refine lv_aload_n (pc := 0) hx hb dX12_leave_0 rfl (lv_at hl 0 rfl) ?_
  obtain ⟨S1, hc, h⟩ := bndv_t h
  refine s_cvv (pc := 1) [] (fun ad => [.ref (ad 0)]) F w (m_M_begin  _ _ hc) rfl rfl hl.1 ds_0 vc_X12 rfl ok_X12_begin rfl kc_X12_begin kl_X12_226 ki_X12_begin kv_X12_begin kn_X12 ⟨Nat.le_trans (by decide) hR1, Nat.le_trans (by decide) hR2⟩ ⟨Nat.zero_le _, Nat.zero_le _⟩ (Nat.le_of_ble_eq_true rfl) dX12_leave_1 (fun H locs w => ?_)
  refine lv_aload_n (pc := 4) hx hb dX12_leave_4 rfl (lv_at hl 0 rfl) ?_
  obtain ⟨S2, hc, h⟩ := bndv_t h
  refine s_cvv (pc := 5) [] (fun ad => [.ref (ad 0)]) F w (m_M_keep  _ _ hc) rfl rfl hl.1 ds_0 vc_X12 rfl ok_X12_keep rfl kc_X12_keep kl_X12_346 ki_X12_keep kv_X12_keep kn_X12 ⟨Nat.le_trans (by decide) hR1, Nat.le_trans (by decide) hR2⟩ ⟨Nat.zero_le _, Nat.zero_le _⟩ (Nat.le_of_ble_eq_true rfl) dX12_leave_5 (fun H locs w => ?_)
  refine lv_aload_n (pc := 8) hx hb dX12_leave_8 rfl (lv_at hl 0 rfl) ?_
  refine lv_aload_n (pc := 9) hx hb dX12_leave_9 rfl (lv_at hl 0 rfl) ?_
  refine lv_iload_n (pc := 10) hx hb dX12_leave_10 rfl (lv_at hl 1 rfl) ?_
  obtain ⟨r4, S3, hc, h⟩ := bnd_t h
  refine s_cvi (pc := 11) [.int a1] (fun ad => [.ref (ad 0), .int a1]) F w (m_M_missLeave _ _ _ _ hc) rfl rfl hl.1 ds_0 vc_X12 rfl ok_X12_missLeave rfl kc_X12_missLeave kl_X12_444 ki_X12_missLeave kv_X12_missLeave kn_X12 ⟨Nat.le_trans (by decide) hR1, Nat.le_trans (by decide) hR2⟩ ⟨Nat.zero_le _, Nat.zero_le _⟩ (Nat.le_of_ble_eq_true rfl) dX12_leave_11 (fun H locs w => ?_)
  obtain ⟨r6, S5, hc, h⟩ := bnd_t h
  refine s_cvi (pc := 14) [.int r4] (fun ad => [.ref (ad 0), .int r4]) F w (m_M_ends _ _ _ _ hc) rfl rfl hl.1 ds_0 vc_X12 rfl ok_X12_ends rfl kc_X12_ends kl_X12_236 ki_X12_ends kv_X12_ends kn_X12 ⟨Nat.le_trans (by decide) hR1, Nat.le_trans (by decide) hR2⟩ ⟨Nat.zero_le _, Nat.zero_le _⟩ (Nat.le_of_ble_eq_true rfl) dX12_leave_14 (fun H locs w => ?_)
  refine lv_if_eq (pc := 17) (tgt := 29) hx hb dX12_leave_17 (by decide) (fun q => ?_) (fun q => ?_)
  · have h := ite_t q h
    refine lv_iconst (pc := 29) (v := 0) hx hb dX12_leave_29 (by decide) ?_
    refine lv_istore_n (pc := 30) (lv' := [(2, .int (0 : Int32)), (0, .ref (ad 0)), (1, .int a1)]) hx hb dX12_leave_30 rfl hl (by decide) rfl (fun ls hl => ?_)
    exact w_M_leave_L31 F (Nat.le_trans (by decide) hR1) (Nat.le_trans (by decide) hR2) _ _ _ h _ _ _ w (lv_sub hl [1, 0] rfl)
  · have h := ite_f q h
    refine lv_aload_n (pc := 20) hx hb dX12_leave_20 rfl (lv_at hl 0 rfl) ?_
    refine lv_bipush (pc := 21) (v := 12) hx hb dX12_leave_21 (by decide) ?_
    refine lv_bipush (pc := 23) (v := -2) hx hb dX12_leave_23 (by decide) ?_
    obtain ⟨r12, S11, hc, h⟩ := bnd_t h
    refine s_cvi (pc := 25) [.int (12 : Int32), .int (-2 : Int32)] (fun ad => [.ref (ad 0), .int (12 : Int32), .int (-2 : Int32)]) F w (m_M_entered _ _ _ _ _ hc) rfl rfl hl.1 ds_0 vc_X12 rfl ok_X12_entered rfl kc_X12_entered kl_X12_349 ki_X12_entered kv_X12_entered kn_X12 ⟨Nat.le_trans (by decide) hR1, Nat.le_trans (by decide) hR2⟩ ⟨Nat.zero_le _, Nat.zero_le _⟩ (Nat.le_of_ble_eq_true rfl) dX12_leave_25 (fun H locs w => ?_)
    exact s_iret F w h dX12_leave_28
def f_M_roll_j45   (S : SS) : Option (Int32 × SS) :=
    bnd (f_M_found (3 : Int32) S) (fun r7 S6 =>
    some (r7, S6))
def f_M_roll_j95 (K54 : Int32 → Int32 → Int32 → Int32 → SS → Option (Int32 × SS)) (x1 : Int32) (x2 : Int32) (x3 : Int32) (x4 : Int32) (x5 : Int32) (S : SS) : Option (Int32 × SS) :=
    grd (inb x4 8) (wr S 38 x4.toNatClampNeg x5 (fun S10 =>
    nm (x4 + (1 : Int32)) (fun z11 =>
    K54 x1 x2 x3 z11 S10)))
def f_M_roll_L54  : Nat → Int32 → Int32 → Int32 → Int32 → SS → Option (Int32 × SS)
  | 0, _, _, _, _, _ => none
  | n + 1, x1, x2, x3, x4, S =>
    if x3 ≤ x4 then
      some (x3, S)
    else
      bnd (f_M_standing x1 (x2 + x4) S) (fun r9 S8 =>
      if r9 = (-4 : Int32) then
        f_M_roll_j95 (fun v0 v1 v2 v3 S => f_M_roll_L54 n v0 v1 v2 v3 S) x1 x2 x3 x4 r9 S8
      else
        grd (inb r9 72) (
        if (5 : Int32) ≤ (S8.1 18 r9.toNatClampNeg) then
          f_M_roll_j95 (fun v0 v1 v2 v3 S => f_M_roll_L54 n v0 v1 v2 v3 S) x1 x2 x3 x4 r9 S8
        else
          bnd (f_M_found (4 : Int32) S8) (fun r13 S12 =>
          some (r13, S12))))
def f_M_roll (a1 : Int32) (a2 : Int32) (a3 : Int32) (S : SS) : Option (Int32 × SS) :=
  bndv (f_M_begin  S) (fun S1 =>
  bnd (f_M_missTrack a1 S1) (fun r3 S2 =>
  bnd (f_M_ends r3 S2) (fun r5 S4 =>
  if r5 = 0 then
    if a2 < 0 then
      f_M_roll_j45  S4
    else
      if a3 < 0 then
        f_M_roll_j45  S4
      else
        if (8 : Int32) < a3 then
          f_M_roll_j45  S4
        else
          grd (inb a1 24) (
          if a3 ≤ ((S4.1 3 a1.toNatClampNeg) - a2) then
            f_M_roll_L54 NF a1 a2 a3 (0 : Int32) S4
          else
            f_M_roll_j45  S4)
  else
    some ((-2 : Int32), S4))))
theorem dX12_roll_0 : decode cX12_roll 0 = .ok (.aload_n 0, 1) := dc_42 (by decide +kernel)
theorem dX12_roll_1 : decode cX12_roll 1 = .ok (.invokevirtual 226, 3) := dc_182 (a := 0) (b := 226) (by decide +kernel)
theorem dX12_roll_4 : decode cX12_roll 4 = .ok (.aload_n 0, 1) := dc_42 (by decide +kernel)
theorem dX12_roll_5 : decode cX12_roll 5 = .ok (.aload_n 0, 1) := dc_42 (by decide +kernel)
theorem dX12_roll_6 : decode cX12_roll 6 = .ok (.iload_n 1, 1) := dc_27 (by decide +kernel)
theorem dX12_roll_7 : decode cX12_roll 7 = .ok (.invokevirtual 223, 3) := dc_182 (a := 0) (b := 223) (by decide +kernel)
theorem dX12_roll_10 : decode cX12_roll 10 = .ok (.invokevirtual 236, 3) := dc_182 (a := 0) (b := 236) (by decide +kernel)
theorem dX12_roll_13 : decode cX12_roll 13 = .ok (.ifCond .eq 6, 3) := dc_153 (a := 0) (b := 6) (by decide +kernel) (by decide)
theorem dX12_roll_16 : decode cX12_roll 16 = .ok (.bipush (-2), 2) := dc_16 (a := 254) (by decide +kernel) (by decide)
theorem dX12_roll_18 : decode cX12_roll 18 = .ok (.ireturn, 1) := dc_172 (by decide +kernel)
theorem dX12_roll_19 : decode cX12_roll 19 = .ok (.iload_n 2, 1) := dc_28 (by decide +kernel)
theorem dX12_roll_20 : decode cX12_roll 20 = .ok (.ifCond .lt 25, 3) := dc_155 (a := 0) (b := 25) (by decide +kernel) (by decide)
theorem dX12_roll_23 : decode cX12_roll 23 = .ok (.iload_n 3, 1) := dc_29 (by decide +kernel)
theorem dX12_roll_24 : decode cX12_roll 24 = .ok (.ifCond .lt 21, 3) := dc_155 (a := 0) (b := 21) (by decide +kernel) (by decide)
theorem dX12_roll_27 : decode cX12_roll 27 = .ok (.iload_n 3, 1) := dc_29 (by decide +kernel)
theorem dX12_roll_28 : decode cX12_roll 28 = .ok (.bipush 8, 2) := dc_16 (a := 8) (by decide +kernel) (by decide)
theorem dX12_roll_30 : decode cX12_roll 30 = .ok (.if_icmp .gt 15, 3) := dc_163 (a := 0) (b := 15) (by decide +kernel) (by decide)
theorem dX12_roll_33 : decode cX12_roll 33 = .ok (.iload_n 3, 1) := dc_29 (by decide +kernel)
theorem dX12_roll_34 : decode cX12_roll 34 = .ok (.aload_n 0, 1) := dc_42 (by decide +kernel)
theorem dX12_roll_35 : decode cX12_roll 35 = .ok (.getfield 23, 3) := dc_180 (a := 0) (b := 23) (by decide +kernel)
theorem dX12_roll_38 : decode cX12_roll 38 = .ok (.iload_n 1, 1) := dc_27 (by decide +kernel)
theorem dX12_roll_39 : decode cX12_roll 39 = .ok (.iaload, 1) := dc_46 (by decide +kernel)
theorem dX12_roll_40 : decode cX12_roll 40 = .ok (.iload_n 2, 1) := dc_28 (by decide +kernel)
theorem dX12_roll_41 : decode cX12_roll 41 = .ok (.isub, 1) := dc_100 (by decide +kernel)
theorem dX12_roll_42 : decode cX12_roll 42 = .ok (.if_icmp .le 9, 3) := dc_164 (a := 0) (b := 9) (by decide +kernel) (by decide)
theorem dX12_roll_45 : decode cX12_roll 45 = .ok (.aload_n 0, 1) := dc_42 (by decide +kernel)
theorem dX12_roll_46 : decode cX12_roll 46 = .ok (.iconst 3, 1) := dc_6 (by decide +kernel)
theorem dX12_roll_47 : decode cX12_roll 47 = .ok (.invokevirtual 210, 3) := dc_182 (a := 0) (b := 210) (by decide +kernel)
theorem dX12_roll_50 : decode cX12_roll 50 = .ok (.ireturn, 1) := dc_172 (by decide +kernel)
theorem dX12_roll_51 : decode cX12_roll 51 = .ok (.iconst 0, 1) := dc_3 (by decide +kernel)
theorem dX12_roll_52 : decode cX12_roll 52 = .ok (.istore 4, 2) := dc_54 (a := 4) (by decide +kernel)
theorem dX12_roll_54 : decode cX12_roll 54 = .ok (.iload 4, 2) := dc_21 (a := 4) (by decide +kernel)
theorem dX12_roll_56 : decode cX12_roll 56 = .ok (.iload_n 3, 1) := dc_29 (by decide +kernel)
theorem dX12_roll_57 : decode cX12_roll 57 = .ok (.if_icmp .ge 53, 3) := dc_162 (a := 0) (b := 53) (by decide +kernel) (by decide)
theorem dX12_roll_60 : decode cX12_roll 60 = .ok (.aload_n 0, 1) := dc_42 (by decide +kernel)
theorem dX12_roll_61 : decode cX12_roll 61 = .ok (.iload_n 1, 1) := dc_27 (by decide +kernel)
theorem dX12_roll_62 : decode cX12_roll 62 = .ok (.iload_n 2, 1) := dc_28 (by decide +kernel)
theorem dX12_roll_63 : decode cX12_roll 63 = .ok (.iload 4, 2) := dc_21 (a := 4) (by decide +kernel)
theorem dX12_roll_65 : decode cX12_roll 65 = .ok (.iadd, 1) := dc_96 (by decide +kernel)
theorem dX12_roll_66 : decode cX12_roll 66 = .ok (.invokevirtual 279, 3) := dc_182 (a := 1) (b := 23) (by decide +kernel)
theorem dX12_roll_69 : decode cX12_roll 69 = .ok (.istore 5, 2) := dc_54 (a := 5) (by decide +kernel)
theorem dX12_roll_71 : decode cX12_roll 71 = .ok (.iload 5, 2) := dc_21 (a := 5) (by decide +kernel)
theorem dX12_roll_73 : decode cX12_roll 73 = .ok (.bipush (-4), 2) := dc_16 (a := 252) (by decide +kernel) (by decide)
theorem dX12_roll_75 : decode cX12_roll 75 = .ok (.if_icmp .eq 20, 3) := dc_159 (a := 0) (b := 20) (by decide +kernel) (by decide)
theorem dX12_roll_78 : decode cX12_roll 78 = .ok (.aload_n 0, 1) := dc_42 (by decide +kernel)
theorem dX12_roll_79 : decode cX12_roll 79 = .ok (.getfield 69, 3) := dc_180 (a := 0) (b := 69) (by decide +kernel)
theorem dX12_roll_82 : decode cX12_roll 82 = .ok (.iload 5, 2) := dc_21 (a := 5) (by decide +kernel)
theorem dX12_roll_84 : decode cX12_roll 84 = .ok (.iaload, 1) := dc_46 (by decide +kernel)
theorem dX12_roll_85 : decode cX12_roll 85 = .ok (.iconst 5, 1) := dc_8 (by decide +kernel)
theorem dX12_roll_86 : decode cX12_roll 86 = .ok (.if_icmp .ge 9, 3) := dc_162 (a := 0) (b := 9) (by decide +kernel) (by decide)
theorem dX12_roll_89 : decode cX12_roll 89 = .ok (.aload_n 0, 1) := dc_42 (by decide +kernel)
theorem dX12_roll_90 : decode cX12_roll 90 = .ok (.iconst 4, 1) := dc_7 (by decide +kernel)
theorem dX12_roll_91 : decode cX12_roll 91 = .ok (.invokevirtual 210, 3) := dc_182 (a := 0) (b := 210) (by decide +kernel)
theorem dX12_roll_94 : decode cX12_roll 94 = .ok (.ireturn, 1) := dc_172 (by decide +kernel)
theorem dX12_roll_95 : decode cX12_roll 95 = .ok (.aload_n 0, 1) := dc_42 (by decide +kernel)
theorem dX12_roll_96 : decode cX12_roll 96 = .ok (.getfield 129, 3) := dc_180 (a := 0) (b := 129) (by decide +kernel)
theorem dX12_roll_99 : decode cX12_roll 99 = .ok (.iload 4, 2) := dc_21 (a := 4) (by decide +kernel)
theorem dX12_roll_101 : decode cX12_roll 101 = .ok (.iload 5, 2) := dc_21 (a := 5) (by decide +kernel)
theorem dX12_roll_103 : decode cX12_roll 103 = .ok (.iastore, 1) := dc_79 (by decide +kernel)
theorem dX12_roll_104 : decode cX12_roll 104 = .ok (.iinc 4 1, 3) := dc_132 (a := 4) (b := 1) (by decide +kernel) (by decide)
theorem dX12_roll_107 : decode cX12_roll 107 = .ok (.goto (-53), 3) := dc_167 (a := 255) (b := 203) (by decide +kernel) (by decide)
theorem dX12_roll_110 : decode cX12_roll 110 = .ok (.iload_n 3, 1) := dc_29 (by decide +kernel)
theorem dX12_roll_111 : decode cX12_roll 111 = .ok (.ireturn, 1) := dc_172 (by decide +kernel)
set_option maxRecDepth 100000 in
set_option maxHeartbeats 4000000 in
theorem w_M_roll_j45 {p : Program} {l : Launch} {e : Env} {R : Room} {s : State} {m : MethodId} {args : Array Value} {below : List Frame} {meth : Method} {c : Code} {dC : Nat → ClassId} {dI : Nat → Nat → Nat} {cs : Nat → ClassId} {ad : Nat → Nat} {A : Nat → Prop} {D0 : Nat → Nat} {S' : SS} {r : Int32} (F : Fx p s m args meth c cX12_roll 6 RX12 (some .int) dC dI cs A) (hR1 : 1 ≤ R.frames) (hR2 : 21 ≤ R.locals)  (S : SS) (h : f_M_roll_j45  S = some (r, S')) : AW p l e R s m args below meth c dC dI cs ad A D0 (some (.int r)) S' 6 45 [(0, .ref (ad 0))] [] S := by
  have hx := F.1.1
  have hb := F.1.2.1
  intro H locs ls w hl
  rw [f_M_roll_j45] at h
  refine lv_aload_n (pc := 45) hx hb dX12_roll_45 rfl (lv_at hl 0 rfl) ?_
  refine lv_iconst (pc := 46) (v := 3) hx hb dX12_roll_46 (by decide) ?_
  obtain ⟨r7, S6, hc, h⟩ := bnd_t h
  refine s_cvi (pc := 47) [.int (3 : Int32)] (fun ad => [.ref (ad 0), .int (3 : Int32)]) F w (m_M_found _ _ _ _ hc) rfl rfl hl.1 ds_0 vc_X12 rfl ok_X12_found rfl kc_X12_found kl_X12_210 ki_X12_found kv_X12_found kn_X12 ⟨Nat.le_trans (by decide) hR1, Nat.le_trans (by decide) hR2⟩ ⟨Nat.zero_le _, Nat.zero_le _⟩ (Nat.le_of_ble_eq_true rfl) dX12_roll_47 (fun H locs w => ?_)
  exact s_iret F w h dX12_roll_50
set_option maxRecDepth 100000 in
set_option maxHeartbeats 4000000 in
theorem w_M_roll_j95 {p : Program} {l : Launch} {e : Env} {R : Room} {s : State} {m : MethodId} {args : Array Value} {below : List Frame} {meth : Method} {c : Code} {dC : Nat → ClassId} {dI : Nat → Nat → Nat} {cs : Nat → ClassId} {ad : Nat → Nat} {A : Nat → Prop} {D0 : Nat → Nat} {S' : SS} {r : Int32} (F : Fx p s m args meth c cX12_roll 6 RX12 (some .int) dC dI cs A) (hR1 : 0 ≤ R.frames) (hR2 : 0 ≤ R.locals) (K54 : Int32 → Int32 → Int32 → Int32 → SS → Option (Int32 × SS)) (hK54 : ∀ (v0 : Int32) (v1 : Int32) (v2 : Int32) (v3 : Int32) (S : SS), K54 v0 v1 v2 v3 S = some (r, S') → AW p l e R s m args below meth c dC dI cs ad A D0 (some (.int r)) S' 6 54 [(0, .ref (ad 0)), (1, .int v0), (2, .int v1), (3, .int v2), (4, .int v3)] [] S) (x1 : Int32) (x2 : Int32) (x3 : Int32) (x4 : Int32) (x5 : Int32) (S : SS) (h : f_M_roll_j95 K54 x1 x2 x3 x4 x5 S = some (r, S')) : AW p l e R s m args below meth c dC dI cs ad A D0 (some (.int r)) S' 6 95 [(0, .ref (ad 0)), (1, .int x1), (2, .int x2), (3, .int x3), (4, .int x4), (5, .int x5)] [] S := by
  have hx := F.1.1
  have hb := F.1.2.1
  intro H locs ls w hl
  rw [f_M_roll_j95] at h
  refine lv_aload_n (pc := 95) hx hb dX12_roll_95 rfl (lv_at hl 0 rfl) ?_
  refine s_getR (pc := 96) F w 38 ds_0 (j := 53) vc_X12 vi_X12 rfl (by decide) kf_X12_129 dX12_roll_96 ?_
  refine lv_iload (pc := 99) hx hb dX12_roll_99 (lv_at hl 4 rfl) ?_
  refine lv_iload (pc := 101) hx hb dX12_roll_101 (lv_at hl 5 rfl) ?_
  refine s_iast (pc := 103) F w ds_38 h dX12_roll_103 (fun S10 H locs h w => ?_)
  refine s_nm h (fun z11 ez11 h => ?_)
  refine lv_iinc (pc := 104) (v := z11) (lv' := [(4, .int z11), (0, .ref (ad 0)), (1, .int x1), (2, .int x2), (3, .int x3), (5, .int x5)]) hx hb dX12_roll_104 hl (k := 4) rfl (by rw [ez11]; rfl) (by decide) rfl (fun ls hl => ?_)
  refine lv_goto (pc := 107) (tgt := 54) hx hb dX12_roll_107 (by decide) ?_
  exact hK54 _ _ _ _ _ h _ _ _ w (lv_sub hl [1, 2, 3, 4, 0] rfl)
set_option maxRecDepth 100000 in
set_option maxHeartbeats 4000000 in
theorem w_M_roll_L54 {p : Program} {l : Launch} {e : Env} {R : Room} {s : State} {m : MethodId} {args : Array Value} {below : List Frame} {meth : Method} {c : Code} {dC : Nat → ClassId} {dI : Nat → Nat → Nat} {cs : Nat → ClassId} {ad : Nat → Nat} {A : Nat → Prop} {D0 : Nat → Nat} {S' : SS} {r : Int32} (F : Fx p s m args meth c cX12_roll 6 RX12 (some .int) dC dI cs A) (hR1 : 1 ≤ R.frames) (hR2 : 23 ≤ R.locals) : ∀ (n : Nat) (x1 : Int32) (x2 : Int32) (x3 : Int32) (x4 : Int32) (S : SS), f_M_roll_L54 n x1 x2 x3 x4 S = some (r, S') → AW p l e R s m args below meth c dC dI cs ad A D0 (some (.int r)) S' 6 54 [(0, .ref (ad 0)), (1, .int x1), (2, .int x2), (3, .int x3), (4, .int x4)] [] S := by
  have hx := F.1.1
  have hb := F.1.2.1
  intro n
  induction n with
  | zero => intro x1 x2 x3 x4 S h; cases h
  | succ n ih =>
    intro x1 x2 x3 x4 S h H locs ls w hl
    rw [f_M_roll_L54] at h
    refine lv_iload (pc := 54) hx hb dX12_roll_54 (lv_at hl 4 rfl) ?_
    refine lv_iload_n (pc := 56) hx hb dX12_roll_56 rfl (lv_at hl 3 rfl) ?_
    refine lv_icmp_ge (pc := 57) (tgt := 110) hx hb dX12_roll_57 (by decide) (fun q => ?_) (fun q => ?_)
    · have h := ite_t q h
      refine lv_iload_n (pc := 110) hx hb dX12_roll_110 rfl (lv_at hl 3 rfl) ?_
      exact s_iret F w h dX12_roll_111
    · have h := ite_f q h
      refine lv_aload_n (pc := 60) hx hb dX12_roll_60 rfl (lv_at hl 0 rfl) ?_
      refine lv_iload_n (pc := 61) hx hb dX12_roll_61 rfl (lv_at hl 1 rfl) ?_
      refine lv_iload_n (pc := 62) hx hb dX12_roll_62 rfl (lv_at hl 2 rfl) ?_
      refine lv_iload (pc := 63) hx hb dX12_roll_63 (lv_at hl 4 rfl) ?_
      refine lv_iadd (pc := 65) hx hb dX12_roll_65 ?_
      obtain ⟨r9, S8, hc, h⟩ := bnd_t h
      refine s_cvi (pc := 66) [.int x1, .int (x2 + x4)] (fun ad => [.ref (ad 0), .int x1, .int (x2 + x4)]) F w (m_M_standing _ _ _ _ _ hc) rfl rfl hl.1 ds_0 vc_X12 rfl ok_X12_standing rfl kc_X12_standing kl_X12_279 ki_X12_standing kv_X12_standing kn_X12 ⟨Nat.le_trans (by decide) hR1, Nat.le_trans (by decide) hR2⟩ ⟨Nat.zero_le _, Nat.zero_le _⟩ (Nat.le_of_ble_eq_true rfl) dX12_roll_66 (fun H locs w => ?_)
      refine lv_istore (pc := 69) (lv' := [(5, .int r9), (0, .ref (ad 0)), (1, .int x1), (2, .int x2), (3, .int x3), (4, .int x4)]) hx hb dX12_roll_69 hl (by decide) rfl (fun ls hl => ?_)
      refine lv_iload (pc := 71) hx hb dX12_roll_71 (lv_at hl 0 rfl) ?_
      refine lv_bipush (pc := 73) (v := -4) hx hb dX12_roll_73 (by decide) ?_
      refine lv_icmp_eq (pc := 75) (tgt := 95) hx hb dX12_roll_75 (by decide) (fun q => ?_) (fun q => ?_)
      · have h := ite_t q h
        exact w_M_roll_j95 F (Nat.le_trans (by decide) hR1) (Nat.le_trans (by decide) hR2) _ (fun v0 v1 v2 v3 S h => ih v0 v1 v2 v3 S h) _ _ _ _ _ _ h _ _ _ w (lv_sub hl [1, 2, 3, 4, 5, 0] rfl)
      · have h := ite_f q h
        refine lv_aload_n (pc := 78) hx hb dX12_roll_78 rfl (lv_at hl 1 rfl) ?_
        refine s_getR (pc := 79) F w 18 ds_0 (j := 30) vc_X12 vi_X12 rfl (by decide) kf_X12_69 dX12_roll_79 ?_
        refine lv_iload (pc := 82) hx hb dX12_roll_82 (lv_at hl 0 rfl) ?_
        refine s_iald (pc := 84) F w ds_18 h dX12_roll_84 (fun h => ?_)
        refine lv_iconst (pc := 85) (v := 5) hx hb dX12_roll_85 (by decide) ?_
        refine lv_icmp_ge (pc := 86) (tgt := 95) hx hb dX12_roll_86 (by decide) (fun q => ?_) (fun q => ?_)
        · have h := ite_t q h
          exact w_M_roll_j95 F (Nat.le_trans (by decide) hR1) (Nat.le_trans (by decide) hR2) _ (fun v0 v1 v2 v3 S h => ih v0 v1 v2 v3 S h) _ _ _ _ _ _ h _ _ _ w (lv_sub hl [1, 2, 3, 4, 5, 0] rfl)
        · have h := ite_f q h
          refine lv_aload_n (pc := 89) hx hb dX12_roll_89 rfl (lv_at hl 1 rfl) ?_
          refine lv_iconst (pc := 90) (v := 4) hx hb dX12_roll_90 (by decide) ?_
          obtain ⟨r13, S12, hc, h⟩ := bnd_t h
          refine s_cvi (pc := 91) [.int (4 : Int32)] (fun ad => [.ref (ad 0), .int (4 : Int32)]) F w (m_M_found _ _ _ _ hc) rfl rfl hl.1 ds_0 vc_X12 rfl ok_X12_found rfl kc_X12_found kl_X12_210 ki_X12_found kv_X12_found kn_X12 ⟨Nat.le_trans (by decide) hR1, Nat.le_trans (by decide) hR2⟩ ⟨Nat.zero_le _, Nat.zero_le _⟩ (Nat.le_of_ble_eq_true rfl) dX12_roll_91 (fun H locs w => ?_)
          exact s_iret F w h dX12_roll_94
set_option maxRecDepth 100000 in
set_option maxHeartbeats 4000000 in
theorem m_M_roll (a1 : Int32) (a2 : Int32) (a3 : Int32) (S S' : SS) (r : Int32) (h : f_M_roll a1 a2 a3 S = some (r, S')) : MT yX12_roll cX12_roll 6 (some .int) 2 42 (fun ad => [.ref (ad 0), .int a1, .int a2, .int a3]) S (some (.int r)) S' := by
  refine MT.of RX12 (fun ad => [(0, .ref (ad 0)), (1, .int a1), (2, .int a2), (3, .int a3)]) (by decide) rfl (fun _ => Nat.le_of_ble_eq_true rfl) (fun _ => rfl) ?_
  intro p l e R s m args below meth c dC dI cs ad A hR1 hR2 F H locs ls w hl
  have hx := F.1.1
  have hb := F.1.2.1
  rw [f_M_roll] at h
  refine lv_aload_n (pc := 0) hx hb dX12_roll_0 rfl (lv_at hl 0 rfl) ?_
  obtain ⟨S1, hc, h⟩ := bndv_t h
  refine s_cvv (pc := 1) [] (fun ad => [.ref (ad 0)]) F w (m_M_begin  _ _ hc) rfl rfl hl.1 ds_0 vc_X12 rfl ok_X12_begin rfl kc_X12_begin kl_X12_226 ki_X12_begin kv_X12_begin kn_X12 ⟨Nat.le_trans (by decide) hR1, Nat.le_trans (by decide) hR2⟩ ⟨Nat.zero_le _, Nat.zero_le _⟩ (Nat.le_of_ble_eq_true rfl) dX12_roll_1 (fun H locs w => ?_)
  refine lv_aload_n (pc := 4) hx hb dX12_roll_4 rfl (lv_at hl 0 rfl) ?_
  refine lv_aload_n (pc := 5) hx hb dX12_roll_5 rfl (lv_at hl 0 rfl) ?_
  refine lv_iload_n (pc := 6) hx hb dX12_roll_6 rfl (lv_at hl 1 rfl) ?_
  obtain ⟨r3, S2, hc, h⟩ := bnd_t h
  refine s_cvi (pc := 7) [.int a1] (fun ad => [.ref (ad 0), .int a1]) F w (m_M_missTrack _ _ _ _ hc) rfl rfl hl.1 ds_0 vc_X12 rfl ok_X12_missTrack rfl kc_X12_missTrack kl_X12_223 ki_X12_missTrack kv_X12_missTrack kn_X12 ⟨Nat.le_trans (by decide) hR1, Nat.le_trans (by decide) hR2⟩ ⟨Nat.zero_le _, Nat.zero_le _⟩ (Nat.le_of_ble_eq_true rfl) dX12_roll_7 (fun H locs w => ?_)
  obtain ⟨r5, S4, hc, h⟩ := bnd_t h
  refine s_cvi (pc := 10) [.int r3] (fun ad => [.ref (ad 0), .int r3]) F w (m_M_ends _ _ _ _ hc) rfl rfl hl.1 ds_0 vc_X12 rfl ok_X12_ends rfl kc_X12_ends kl_X12_236 ki_X12_ends kv_X12_ends kn_X12 ⟨Nat.le_trans (by decide) hR1, Nat.le_trans (by decide) hR2⟩ ⟨Nat.zero_le _, Nat.zero_le _⟩ (Nat.le_of_ble_eq_true rfl) dX12_roll_10 (fun H locs w => ?_)
  refine lv_if_eq (pc := 13) (tgt := 19) hx hb dX12_roll_13 (by decide) (fun q => ?_) (fun q => ?_)
  · have h := ite_t q h
    refine lv_iload_n (pc := 19) hx hb dX12_roll_19 rfl (lv_at hl 2 rfl) ?_
    refine lv_if_lt (pc := 20) (tgt := 45) hx hb dX12_roll_20 (by decide) (fun q => ?_) (fun q => ?_)
    · have h := ite_t q h
      exact w_M_roll_j45 F (Nat.le_trans (by decide) hR1) (Nat.le_trans (by decide) hR2)  _ h _ _ _ w (lv_sub hl [0] rfl)
    · have h := ite_f q h
      refine lv_iload_n (pc := 23) hx hb dX12_roll_23 rfl (lv_at hl 3 rfl) ?_
      refine lv_if_lt (pc := 24) (tgt := 45) hx hb dX12_roll_24 (by decide) (fun q => ?_) (fun q => ?_)
      · have h := ite_t q h
        exact w_M_roll_j45 F (Nat.le_trans (by decide) hR1) (Nat.le_trans (by decide) hR2)  _ h _ _ _ w (lv_sub hl [0] rfl)
      · have h := ite_f q h
        refine lv_iload_n (pc := 27) hx hb dX12_roll_27 rfl (lv_at hl 3 rfl) ?_
        refine lv_bipush (pc := 28) (v := 8) hx hb dX12_roll_28 (by decide) ?_
        refine lv_icmp_gt (pc := 30) (tgt := 45) hx hb dX12_roll_30 (by decide) (fun q => ?_) (fun q => ?_)
        · have h := ite_t q h
          exact w_M_roll_j45 F (Nat.le_trans (by decide) hR1) (Nat.le_trans (by decide) hR2)  _ h _ _ _ w (lv_sub hl [0] rfl)
        · have h := ite_f q h
          refine lv_iload_n (pc := 33) hx hb dX12_roll_33 rfl (lv_at hl 3 rfl) ?_
          refine lv_aload_n (pc := 34) hx hb dX12_roll_34 rfl (lv_at hl 0 rfl) ?_
          refine s_getR (pc := 35) F w 3 ds_0 (j := 8) vc_X12 vi_X12 rfl (by decide) kf_X12_23 dX12_roll_35 ?_
          refine lv_iload_n (pc := 38) hx hb dX12_roll_38 rfl (lv_at hl 1 rfl) ?_
          refine s_iald (pc := 39) F w ds_3 h dX12_roll_39 (fun h => ?_)
          refine lv_iload_n (pc := 40) hx hb dX12_roll_40 rfl (lv_at hl 2 rfl) ?_
          refine lv_isub (pc := 41) hx hb dX12_roll_41 ?_
          refine lv_icmp_le (pc := 42) (tgt := 51) hx hb dX12_roll_42 (by decide) (fun q => ?_) (fun q => ?_)
          · have h := ite_t q h
            refine lv_iconst (pc := 51) (v := 0) hx hb dX12_roll_51 (by decide) ?_
            refine lv_istore (pc := 52) (lv' := [(4, .int (0 : Int32)), (0, .ref (ad 0)), (1, .int a1), (2, .int a2), (3, .int a3)]) hx hb dX12_roll_52 hl (by decide) rfl (fun ls hl => ?_)
            exact w_M_roll_L54 F (Nat.le_trans (by decide) hR1) (Nat.le_trans (by decide) hR2) _ _ _ _ _ _ h _ _ _ w (lv_sub hl [1, 2, 3, 4, 0] rfl)
          · have h := ite_f q h
            exact w_M_roll_j45 F (Nat.le_trans (by decide) hR1) (Nat.le_trans (by decide) hR2)  _ h _ _ _ w (lv_sub hl [0] rfl)
  · have h := ite_f q h
    refine lv_bipush (pc := 16) (v := -2) hx hb dX12_roll_16 (by decide) ?_
    exact s_iret F w h dX12_roll_18
def f_M_store_j30   (S : SS) : Option (Int32 × SS) :=
    bnd (f_M_found (3 : Int32) S) (fun r7 S6 =>
    some (r7, S6))
def f_M_store (a1 : Int32) (a2 : Int32) (S : SS) : Option (Int32 × SS) :=
  bndv (f_M_begin  S) (fun S1 =>
  bnd (f_M_missThing a1 (0 : Int32) S1) (fun r3 S2 =>
  bnd (f_M_ends r3 S2) (fun r5 S4 =>
  if r5 = 0 then
    if a2 < 0 then
      f_M_store_j30  S4
    else
      if a2 < (8 : Int32) then
        grd (inb a1 72) (
        if (5 : Int32) ≤ (S4.1 18 a1.toNatClampNeg) then
          grd (inb a2 8) (wr S4 38 a2.toNatClampNeg a1 (fun S8 =>
          some ((1 : Int32), S8)))
        else
          bnd (f_M_found (4 : Int32) S4) (fun r10 S9 =>
          some (r10, S9)))
      else
        f_M_store_j30  S4
  else
    some ((-2 : Int32), S4))))
theorem dX12_store_0 : decode cX12_store 0 = .ok (.aload_n 0, 1) := dc_42 (by decide +kernel)
theorem dX12_store_1 : decode cX12_store 1 = .ok (.invokevirtual 226, 3) := dc_182 (a := 0) (b := 226) (by decide +kernel)
theorem dX12_store_4 : decode cX12_store 4 = .ok (.aload_n 0, 1) := dc_42 (by decide +kernel)
theorem dX12_store_5 : decode cX12_store 5 = .ok (.aload_n 0, 1) := dc_42 (by decide +kernel)
theorem dX12_store_6 : decode cX12_store 6 = .ok (.iload_n 1, 1) := dc_27 (by decide +kernel)
theorem dX12_store_7 : decode cX12_store 7 = .ok (.iconst 0, 1) := dc_3 (by decide +kernel)
theorem dX12_store_8 : decode cX12_store 8 = .ok (.invokevirtual 293, 3) := dc_182 (a := 1) (b := 37) (by decide +kernel)
theorem dX12_store_11 : decode cX12_store 11 = .ok (.invokevirtual 236, 3) := dc_182 (a := 0) (b := 236) (by decide +kernel)
theorem dX12_store_14 : decode cX12_store 14 = .ok (.ifCond .eq 6, 3) := dc_153 (a := 0) (b := 6) (by decide +kernel) (by decide)
theorem dX12_store_17 : decode cX12_store 17 = .ok (.bipush (-2), 2) := dc_16 (a := 254) (by decide +kernel) (by decide)
theorem dX12_store_19 : decode cX12_store 19 = .ok (.ireturn, 1) := dc_172 (by decide +kernel)
theorem dX12_store_20 : decode cX12_store 20 = .ok (.iload_n 2, 1) := dc_28 (by decide +kernel)
theorem dX12_store_21 : decode cX12_store 21 = .ok (.ifCond .lt 9, 3) := dc_155 (a := 0) (b := 9) (by decide +kernel) (by decide)
theorem dX12_store_24 : decode cX12_store 24 = .ok (.iload_n 2, 1) := dc_28 (by decide +kernel)
theorem dX12_store_25 : decode cX12_store 25 = .ok (.bipush 8, 2) := dc_16 (a := 8) (by decide +kernel) (by decide)
theorem dX12_store_27 : decode cX12_store 27 = .ok (.if_icmp .lt 9, 3) := dc_161 (a := 0) (b := 9) (by decide +kernel) (by decide)
theorem dX12_store_30 : decode cX12_store 30 = .ok (.aload_n 0, 1) := dc_42 (by decide +kernel)
theorem dX12_store_31 : decode cX12_store 31 = .ok (.iconst 3, 1) := dc_6 (by decide +kernel)
theorem dX12_store_32 : decode cX12_store 32 = .ok (.invokevirtual 210, 3) := dc_182 (a := 0) (b := 210) (by decide +kernel)
theorem dX12_store_35 : decode cX12_store 35 = .ok (.ireturn, 1) := dc_172 (by decide +kernel)
theorem dX12_store_36 : decode cX12_store 36 = .ok (.aload_n 0, 1) := dc_42 (by decide +kernel)
theorem dX12_store_37 : decode cX12_store 37 = .ok (.getfield 69, 3) := dc_180 (a := 0) (b := 69) (by decide +kernel)
theorem dX12_store_40 : decode cX12_store 40 = .ok (.iload_n 1, 1) := dc_27 (by decide +kernel)
theorem dX12_store_41 : decode cX12_store 41 = .ok (.iaload, 1) := dc_46 (by decide +kernel)
theorem dX12_store_42 : decode cX12_store 42 = .ok (.iconst 5, 1) := dc_8 (by decide +kernel)
theorem dX12_store_43 : decode cX12_store 43 = .ok (.if_icmp .ge 9, 3) := dc_162 (a := 0) (b := 9) (by decide +kernel) (by decide)
theorem dX12_store_46 : decode cX12_store 46 = .ok (.aload_n 0, 1) := dc_42 (by decide +kernel)
theorem dX12_store_47 : decode cX12_store 47 = .ok (.iconst 4, 1) := dc_7 (by decide +kernel)
theorem dX12_store_48 : decode cX12_store 48 = .ok (.invokevirtual 210, 3) := dc_182 (a := 0) (b := 210) (by decide +kernel)
theorem dX12_store_51 : decode cX12_store 51 = .ok (.ireturn, 1) := dc_172 (by decide +kernel)
theorem dX12_store_52 : decode cX12_store 52 = .ok (.aload_n 0, 1) := dc_42 (by decide +kernel)
theorem dX12_store_53 : decode cX12_store 53 = .ok (.getfield 129, 3) := dc_180 (a := 0) (b := 129) (by decide +kernel)
theorem dX12_store_56 : decode cX12_store 56 = .ok (.iload_n 2, 1) := dc_28 (by decide +kernel)
theorem dX12_store_57 : decode cX12_store 57 = .ok (.iload_n 1, 1) := dc_27 (by decide +kernel)
theorem dX12_store_58 : decode cX12_store 58 = .ok (.iastore, 1) := dc_79 (by decide +kernel)
theorem dX12_store_59 : decode cX12_store 59 = .ok (.iconst 1, 1) := dc_4 (by decide +kernel)
theorem dX12_store_60 : decode cX12_store 60 = .ok (.ireturn, 1) := dc_172 (by decide +kernel)
set_option maxRecDepth 100000 in
set_option maxHeartbeats 4000000 in
theorem w_M_store_j30 {p : Program} {l : Launch} {e : Env} {R : Room} {s : State} {m : MethodId} {args : Array Value} {below : List Frame} {meth : Method} {c : Code} {dC : Nat → ClassId} {dI : Nat → Nat → Nat} {cs : Nat → ClassId} {ad : Nat → Nat} {A : Nat → Prop} {D0 : Nat → Nat} {S' : SS} {r : Int32} (F : Fx p s m args meth c cX12_store 3 RX12 (some .int) dC dI cs A) (hR1 : 1 ≤ R.frames) (hR2 : 21 ≤ R.locals)  (S : SS) (h : f_M_store_j30  S = some (r, S')) : AW p l e R s m args below meth c dC dI cs ad A D0 (some (.int r)) S' 3 30 [(0, .ref (ad 0))] [] S := by
  have hx := F.1.1
  have hb := F.1.2.1
  intro H locs ls w hl
  rw [f_M_store_j30] at h
  refine lv_aload_n (pc := 30) hx hb dX12_store_30 rfl (lv_at hl 0 rfl) ?_
  refine lv_iconst (pc := 31) (v := 3) hx hb dX12_store_31 (by decide) ?_
  obtain ⟨r7, S6, hc, h⟩ := bnd_t h
  refine s_cvi (pc := 32) [.int (3 : Int32)] (fun ad => [.ref (ad 0), .int (3 : Int32)]) F w (m_M_found _ _ _ _ hc) rfl rfl hl.1 ds_0 vc_X12 rfl ok_X12_found rfl kc_X12_found kl_X12_210 ki_X12_found kv_X12_found kn_X12 ⟨Nat.le_trans (by decide) hR1, Nat.le_trans (by decide) hR2⟩ ⟨Nat.zero_le _, Nat.zero_le _⟩ (Nat.le_of_ble_eq_true rfl) dX12_store_32 (fun H locs w => ?_)
  exact s_iret F w h dX12_store_35
set_option maxRecDepth 100000 in
set_option maxHeartbeats 4000000 in
theorem m_M_store (a1 : Int32) (a2 : Int32) (S S' : SS) (r : Int32) (h : f_M_store a1 a2 S = some (r, S')) : MT yX12_store cX12_store 3 (some .int) 2 45 (fun ad => [.ref (ad 0), .int a1, .int a2]) S (some (.int r)) S' := by
  refine MT.of RX12 (fun ad => [(0, .ref (ad 0)), (1, .int a1), (2, .int a2)]) (by decide) rfl (fun _ => Nat.le_of_ble_eq_true rfl) (fun _ => rfl) ?_
  intro p l e R s m args below meth c dC dI cs ad A hR1 hR2 F H locs ls w hl
  have hx := F.1.1
  have hb := F.1.2.1
  rw [f_M_store] at h
  refine lv_aload_n (pc := 0) hx hb dX12_store_0 rfl (lv_at hl 0 rfl) ?_
  obtain ⟨S1, hc, h⟩ := bndv_t h
  refine s_cvv (pc := 1) [] (fun ad => [.ref (ad 0)]) F w (m_M_begin  _ _ hc) rfl rfl hl.1 ds_0 vc_X12 rfl ok_X12_begin rfl kc_X12_begin kl_X12_226 ki_X12_begin kv_X12_begin kn_X12 ⟨Nat.le_trans (by decide) hR1, Nat.le_trans (by decide) hR2⟩ ⟨Nat.zero_le _, Nat.zero_le _⟩ (Nat.le_of_ble_eq_true rfl) dX12_store_1 (fun H locs w => ?_)
  refine lv_aload_n (pc := 4) hx hb dX12_store_4 rfl (lv_at hl 0 rfl) ?_
  refine lv_aload_n (pc := 5) hx hb dX12_store_5 rfl (lv_at hl 0 rfl) ?_
  refine lv_iload_n (pc := 6) hx hb dX12_store_6 rfl (lv_at hl 1 rfl) ?_
  refine lv_iconst (pc := 7) (v := 0) hx hb dX12_store_7 (by decide) ?_
  obtain ⟨r3, S2, hc, h⟩ := bnd_t h
  refine s_cvi (pc := 8) [.int a1, .int (0 : Int32)] (fun ad => [.ref (ad 0), .int a1, .int (0 : Int32)]) F w (m_M_missThing _ _ _ _ _ hc) rfl rfl hl.1 ds_0 vc_X12 rfl ok_X12_missThing rfl kc_X12_missThing kl_X12_293 ki_X12_missThing kv_X12_missThing kn_X12 ⟨Nat.le_trans (by decide) hR1, Nat.le_trans (by decide) hR2⟩ ⟨Nat.zero_le _, Nat.zero_le _⟩ (Nat.le_of_ble_eq_true rfl) dX12_store_8 (fun H locs w => ?_)
  obtain ⟨r5, S4, hc, h⟩ := bnd_t h
  refine s_cvi (pc := 11) [.int r3] (fun ad => [.ref (ad 0), .int r3]) F w (m_M_ends _ _ _ _ hc) rfl rfl hl.1 ds_0 vc_X12 rfl ok_X12_ends rfl kc_X12_ends kl_X12_236 ki_X12_ends kv_X12_ends kn_X12 ⟨Nat.le_trans (by decide) hR1, Nat.le_trans (by decide) hR2⟩ ⟨Nat.zero_le _, Nat.zero_le _⟩ (Nat.le_of_ble_eq_true rfl) dX12_store_11 (fun H locs w => ?_)
  refine lv_if_eq (pc := 14) (tgt := 20) hx hb dX12_store_14 (by decide) (fun q => ?_) (fun q => ?_)
  · have h := ite_t q h
    refine lv_iload_n (pc := 20) hx hb dX12_store_20 rfl (lv_at hl 2 rfl) ?_
    refine lv_if_lt (pc := 21) (tgt := 30) hx hb dX12_store_21 (by decide) (fun q => ?_) (fun q => ?_)
    · have h := ite_t q h
      exact w_M_store_j30 F (Nat.le_trans (by decide) hR1) (Nat.le_trans (by decide) hR2)  _ h _ _ _ w (lv_sub hl [0] rfl)
    · have h := ite_f q h
      refine lv_iload_n (pc := 24) hx hb dX12_store_24 rfl (lv_at hl 2 rfl) ?_
      refine lv_bipush (pc := 25) (v := 8) hx hb dX12_store_25 (by decide) ?_
      refine lv_icmp_lt (pc := 27) (tgt := 36) hx hb dX12_store_27 (by decide) (fun q => ?_) (fun q => ?_)
      · have h := ite_t q h
        refine lv_aload_n (pc := 36) hx hb dX12_store_36 rfl (lv_at hl 0 rfl) ?_
        refine s_getR (pc := 37) F w 18 ds_0 (j := 30) vc_X12 vi_X12 rfl (by decide) kf_X12_69 dX12_store_37 ?_
        refine lv_iload_n (pc := 40) hx hb dX12_store_40 rfl (lv_at hl 1 rfl) ?_
        refine s_iald (pc := 41) F w ds_18 h dX12_store_41 (fun h => ?_)
        refine lv_iconst (pc := 42) (v := 5) hx hb dX12_store_42 (by decide) ?_
        refine lv_icmp_ge (pc := 43) (tgt := 52) hx hb dX12_store_43 (by decide) (fun q => ?_) (fun q => ?_)
        · have h := ite_t q h
          refine lv_aload_n (pc := 52) hx hb dX12_store_52 rfl (lv_at hl 0 rfl) ?_
          refine s_getR (pc := 53) F w 38 ds_0 (j := 53) vc_X12 vi_X12 rfl (by decide) kf_X12_129 dX12_store_53 ?_
          refine lv_iload_n (pc := 56) hx hb dX12_store_56 rfl (lv_at hl 2 rfl) ?_
          refine lv_iload_n (pc := 57) hx hb dX12_store_57 rfl (lv_at hl 1 rfl) ?_
          refine s_iast (pc := 58) F w ds_38 h dX12_store_58 (fun S8 H locs h w => ?_)
          refine lv_iconst (pc := 59) (v := 1) hx hb dX12_store_59 (by decide) ?_
          exact s_iret F w h dX12_store_60
        · have h := ite_f q h
          refine lv_aload_n (pc := 46) hx hb dX12_store_46 rfl (lv_at hl 0 rfl) ?_
          refine lv_iconst (pc := 47) (v := 4) hx hb dX12_store_47 (by decide) ?_
          obtain ⟨r10, S9, hc, h⟩ := bnd_t h
          refine s_cvi (pc := 48) [.int (4 : Int32)] (fun ad => [.ref (ad 0), .int (4 : Int32)]) F w (m_M_found _ _ _ _ hc) rfl rfl hl.1 ds_0 vc_X12 rfl ok_X12_found rfl kc_X12_found kl_X12_210 ki_X12_found kv_X12_found kn_X12 ⟨Nat.le_trans (by decide) hR1, Nat.le_trans (by decide) hR2⟩ ⟨Nat.zero_le _, Nat.zero_le _⟩ (Nat.le_of_ble_eq_true rfl) dX12_store_48 (fun H locs w => ?_)
          exact s_iret F w h dX12_store_51
      · have h := ite_f q h
        exact w_M_store_j30 F (Nat.le_trans (by decide) hR1) (Nat.le_trans (by decide) hR2)  _ h _ _ _ w (lv_sub hl [0] rfl)
  · have h := ite_f q h
    refine lv_bipush (pc := 17) (v := -2) hx hb dX12_store_17 (by decide) ?_
    exact s_iret F w h dX12_store_19
def f_M_rolled_j14   (S : SS) : Option (Int32 × SS) :=
    bnd (f_M_found (3 : Int32) S) (fun r3 S2 =>
    some (r3, S2))
def f_M_rolled (a1 : Int32) (S : SS) : Option (Int32 × SS) :=
  bndv (f_M_begin  S) (fun S1 =>
  if a1 < 0 then
    f_M_rolled_j14  S1
  else
    if a1 < (8 : Int32) then
      grd (inb a1 8) (
      some (S1.1 38 a1.toNatClampNeg, S1))
    else
      f_M_rolled_j14  S1)
theorem dX12_rolled_0 : decode cX12_rolled 0 = .ok (.aload_n 0, 1) := dc_42 (by decide +kernel)
theorem dX12_rolled_1 : decode cX12_rolled 1 = .ok (.invokevirtual 226, 3) := dc_182 (a := 0) (b := 226) (by decide +kernel)
theorem dX12_rolled_4 : decode cX12_rolled 4 = .ok (.iload_n 1, 1) := dc_27 (by decide +kernel)
theorem dX12_rolled_5 : decode cX12_rolled 5 = .ok (.ifCond .lt 9, 3) := dc_155 (a := 0) (b := 9) (by decide +kernel) (by decide)
theorem dX12_rolled_8 : decode cX12_rolled 8 = .ok (.iload_n 1, 1) := dc_27 (by decide +kernel)
theorem dX12_rolled_9 : decode cX12_rolled 9 = .ok (.bipush 8, 2) := dc_16 (a := 8) (by decide +kernel) (by decide)
theorem dX12_rolled_11 : decode cX12_rolled 11 = .ok (.if_icmp .lt 11, 3) := dc_161 (a := 0) (b := 11) (by decide +kernel) (by decide)
theorem dX12_rolled_14 : decode cX12_rolled 14 = .ok (.aload_n 0, 1) := dc_42 (by decide +kernel)
theorem dX12_rolled_15 : decode cX12_rolled 15 = .ok (.iconst 3, 1) := dc_6 (by decide +kernel)
theorem dX12_rolled_16 : decode cX12_rolled 16 = .ok (.invokevirtual 210, 3) := dc_182 (a := 0) (b := 210) (by decide +kernel)
theorem dX12_rolled_19 : decode cX12_rolled 19 = .ok (.goto 9, 3) := dc_167 (a := 0) (b := 9) (by decide +kernel) (by decide)
theorem dX12_rolled_22 : decode cX12_rolled 22 = .ok (.aload_n 0, 1) := dc_42 (by decide +kernel)
theorem dX12_rolled_23 : decode cX12_rolled 23 = .ok (.getfield 129, 3) := dc_180 (a := 0) (b := 129) (by decide +kernel)
theorem dX12_rolled_26 : decode cX12_rolled 26 = .ok (.iload_n 1, 1) := dc_27 (by decide +kernel)
theorem dX12_rolled_27 : decode cX12_rolled 27 = .ok (.iaload, 1) := dc_46 (by decide +kernel)
theorem dX12_rolled_28 : decode cX12_rolled 28 = .ok (.ireturn, 1) := dc_172 (by decide +kernel)
set_option maxRecDepth 100000 in
set_option maxHeartbeats 4000000 in
theorem w_M_rolled_j14 {p : Program} {l : Launch} {e : Env} {R : Room} {s : State} {m : MethodId} {args : Array Value} {below : List Frame} {meth : Method} {c : Code} {dC : Nat → ClassId} {dI : Nat → Nat → Nat} {cs : Nat → ClassId} {ad : Nat → Nat} {A : Nat → Prop} {D0 : Nat → Nat} {S' : SS} {r : Int32} (F : Fx p s m args meth c cX12_rolled 2 RX12 (some .int) dC dI cs A) (hR1 : 1 ≤ R.frames) (hR2 : 21 ≤ R.locals)  (S : SS) (h : f_M_rolled_j14  S = some (r, S')) : AW p l e R s m args below meth c dC dI cs ad A D0 (some (.int r)) S' 2 14 [(0, .ref (ad 0))] [] S := by
  have hx := F.1.1
  have hb := F.1.2.1
  intro H locs ls w hl
  rw [f_M_rolled_j14] at h
  refine lv_aload_n (pc := 14) hx hb dX12_rolled_14 rfl (lv_at hl 0 rfl) ?_
  refine lv_iconst (pc := 15) (v := 3) hx hb dX12_rolled_15 (by decide) ?_
  obtain ⟨r3, S2, hc, h⟩ := bnd_t h
  refine s_cvi (pc := 16) [.int (3 : Int32)] (fun ad => [.ref (ad 0), .int (3 : Int32)]) F w (m_M_found _ _ _ _ hc) rfl rfl hl.1 ds_0 vc_X12 rfl ok_X12_found rfl kc_X12_found kl_X12_210 ki_X12_found kv_X12_found kn_X12 ⟨Nat.le_trans (by decide) hR1, Nat.le_trans (by decide) hR2⟩ ⟨Nat.zero_le _, Nat.zero_le _⟩ (Nat.le_of_ble_eq_true rfl) dX12_rolled_16 (fun H locs w => ?_)
  refine lv_goto (pc := 19) (tgt := 28) hx hb dX12_rolled_19 (by decide) ?_
  exact s_iret F w h dX12_rolled_28
set_option maxRecDepth 100000 in
set_option maxHeartbeats 4000000 in
theorem m_M_rolled (a1 : Int32) (S S' : SS) (r : Int32) (h : f_M_rolled a1 S = some (r, S')) : MT yX12_rolled cX12_rolled 2 (some .int) 1 21 (fun ad => [.ref (ad 0), .int a1]) S (some (.int r)) S' := by
  refine MT.of RX12 (fun ad => [(0, .ref (ad 0)), (1, .int a1)]) (by decide) rfl (fun _ => Nat.le_of_ble_eq_true rfl) (fun _ => rfl) ?_
  intro p l e R s m args below meth c dC dI cs ad A hR1 hR2 F H locs ls w hl
  have hx := F.1.1
  have hb := F.1.2.1
  rw [f_M_rolled] at h
  refine lv_aload_n (pc := 0) hx hb dX12_rolled_0 rfl (lv_at hl 0 rfl) ?_
  obtain ⟨S1, hc, h⟩ := bndv_t h
  refine s_cvv (pc := 1) [] (fun ad => [.ref (ad 0)]) F w (m_M_begin  _ _ hc) rfl rfl hl.1 ds_0 vc_X12 rfl ok_X12_begin rfl kc_X12_begin kl_X12_226 ki_X12_begin kv_X12_begin kn_X12 ⟨Nat.le_trans (by decide) hR1, Nat.le_trans (by decide) hR2⟩ ⟨Nat.zero_le _, Nat.zero_le _⟩ (Nat.le_of_ble_eq_true rfl) dX12_rolled_1 (fun H locs w => ?_)
  refine lv_iload_n (pc := 4) hx hb dX12_rolled_4 rfl (lv_at hl 1 rfl) ?_
  refine lv_if_lt (pc := 5) (tgt := 14) hx hb dX12_rolled_5 (by decide) (fun q => ?_) (fun q => ?_)
  · have h := ite_t q h
    exact w_M_rolled_j14 F (Nat.le_trans (by decide) hR1) (Nat.le_trans (by decide) hR2)  _ h _ _ _ w (lv_sub hl [0] rfl)
  · have h := ite_f q h
    refine lv_iload_n (pc := 8) hx hb dX12_rolled_8 rfl (lv_at hl 1 rfl) ?_
    refine lv_bipush (pc := 9) (v := 8) hx hb dX12_rolled_9 (by decide) ?_
    refine lv_icmp_lt (pc := 11) (tgt := 22) hx hb dX12_rolled_11 (by decide) (fun q => ?_) (fun q => ?_)
    · have h := ite_t q h
      refine lv_aload_n (pc := 22) hx hb dX12_rolled_22 rfl (lv_at hl 0 rfl) ?_
      refine s_getR (pc := 23) F w 38 ds_0 (j := 53) vc_X12 vi_X12 rfl (by decide) kf_X12_129 dX12_rolled_23 ?_
      refine lv_iload_n (pc := 26) hx hb dX12_rolled_26 rfl (lv_at hl 1 rfl) ?_
      refine s_iald (pc := 27) F w ds_38 h dX12_rolled_27 (fun h => ?_)
      exact s_iret F w h dX12_rolled_28
    · have h := ite_f q h
      exact w_M_rolled_j14 F (Nat.le_trans (by decide) hR1) (Nat.le_trans (by decide) hR2)  _ h _ _ _ w (lv_sub hl [0] rfl)
def f_M_at (a1 : Int32) (a2 : Int32) (S : SS) : Option (Int32 × SS) :=
  bndv (f_M_begin  S) (fun S1 =>
  bnd (f_M_missPlace a1 a2 S1) (fun r3 S2 =>
  bnd (f_M_ends r3 S2) (fun r5 S4 =>
  if r5 = 0 then
    bnd (f_M_standing a1 a2 S4) (fun r7 S6 =>
    some (r7, S6))
  else
    some ((-2 : Int32), S4))))
theorem dX12_at_0 : decode cX12_at 0 = .ok (.aload_n 0, 1) := dc_42 (by decide +kernel)
theorem dX12_at_1 : decode cX12_at 1 = .ok (.invokevirtual 226, 3) := dc_182 (a := 0) (b := 226) (by decide +kernel)
theorem dX12_at_4 : decode cX12_at 4 = .ok (.aload_n 0, 1) := dc_42 (by decide +kernel)
theorem dX12_at_5 : decode cX12_at 5 = .ok (.aload_n 0, 1) := dc_42 (by decide +kernel)
theorem dX12_at_6 : decode cX12_at 6 = .ok (.iload_n 1, 1) := dc_27 (by decide +kernel)
theorem dX12_at_7 : decode cX12_at 7 = .ok (.iload_n 2, 1) := dc_28 (by decide +kernel)
theorem dX12_at_8 : decode cX12_at 8 = .ok (.invokevirtual 275, 3) := dc_182 (a := 1) (b := 19) (by decide +kernel)
theorem dX12_at_11 : decode cX12_at 11 = .ok (.invokevirtual 236, 3) := dc_182 (a := 0) (b := 236) (by decide +kernel)
theorem dX12_at_14 : decode cX12_at 14 = .ok (.ifCond .eq 8, 3) := dc_153 (a := 0) (b := 8) (by decide +kernel) (by decide)
theorem dX12_at_17 : decode cX12_at 17 = .ok (.bipush (-2), 2) := dc_16 (a := 254) (by decide +kernel) (by decide)
theorem dX12_at_19 : decode cX12_at 19 = .ok (.goto 9, 3) := dc_167 (a := 0) (b := 9) (by decide +kernel) (by decide)
theorem dX12_at_22 : decode cX12_at 22 = .ok (.aload_n 0, 1) := dc_42 (by decide +kernel)
theorem dX12_at_23 : decode cX12_at 23 = .ok (.iload_n 1, 1) := dc_27 (by decide +kernel)
theorem dX12_at_24 : decode cX12_at 24 = .ok (.iload_n 2, 1) := dc_28 (by decide +kernel)
theorem dX12_at_25 : decode cX12_at 25 = .ok (.invokevirtual 279, 3) := dc_182 (a := 1) (b := 23) (by decide +kernel)
theorem dX12_at_28 : decode cX12_at 28 = .ok (.ireturn, 1) := dc_172 (by decide +kernel)
set_option maxRecDepth 100000 in
set_option maxHeartbeats 4000000 in
theorem m_M_at (a1 : Int32) (a2 : Int32) (S S' : SS) (r : Int32) (h : f_M_at a1 a2 S = some (r, S')) : MT yX12_at cX12_at 3 (some .int) 2 44 (fun ad => [.ref (ad 0), .int a1, .int a2]) S (some (.int r)) S' := by
  refine MT.of RX12 (fun ad => [(0, .ref (ad 0)), (1, .int a1), (2, .int a2)]) (by decide) rfl (fun _ => Nat.le_of_ble_eq_true rfl) (fun _ => rfl) ?_
  intro p l e R s m args below meth c dC dI cs ad A hR1 hR2 F H locs ls w hl
  have hx := F.1.1
  have hb := F.1.2.1
  rw [f_M_at] at h
  refine lv_aload_n (pc := 0) hx hb dX12_at_0 rfl (lv_at hl 0 rfl) ?_
  obtain ⟨S1, hc, h⟩ := bndv_t h
  refine s_cvv (pc := 1) [] (fun ad => [.ref (ad 0)]) F w (m_M_begin  _ _ hc) rfl rfl hl.1 ds_0 vc_X12 rfl ok_X12_begin rfl kc_X12_begin kl_X12_226 ki_X12_begin kv_X12_begin kn_X12 ⟨Nat.le_trans (by decide) hR1, Nat.le_trans (by decide) hR2⟩ ⟨Nat.zero_le _, Nat.zero_le _⟩ (Nat.le_of_ble_eq_true rfl) dX12_at_1 (fun H locs w => ?_)
  refine lv_aload_n (pc := 4) hx hb dX12_at_4 rfl (lv_at hl 0 rfl) ?_
  refine lv_aload_n (pc := 5) hx hb dX12_at_5 rfl (lv_at hl 0 rfl) ?_
  refine lv_iload_n (pc := 6) hx hb dX12_at_6 rfl (lv_at hl 1 rfl) ?_
  refine lv_iload_n (pc := 7) hx hb dX12_at_7 rfl (lv_at hl 2 rfl) ?_
  obtain ⟨r3, S2, hc, h⟩ := bnd_t h
  refine s_cvi (pc := 8) [.int a1, .int a2] (fun ad => [.ref (ad 0), .int a1, .int a2]) F w (m_M_missPlace _ _ _ _ _ hc) rfl rfl hl.1 ds_0 vc_X12 rfl ok_X12_missPlace rfl kc_X12_missPlace kl_X12_275 ki_X12_missPlace kv_X12_missPlace kn_X12 ⟨Nat.le_trans (by decide) hR1, Nat.le_trans (by decide) hR2⟩ ⟨Nat.zero_le _, Nat.zero_le _⟩ (Nat.le_of_ble_eq_true rfl) dX12_at_8 (fun H locs w => ?_)
  obtain ⟨r5, S4, hc, h⟩ := bnd_t h
  refine s_cvi (pc := 11) [.int r3] (fun ad => [.ref (ad 0), .int r3]) F w (m_M_ends _ _ _ _ hc) rfl rfl hl.1 ds_0 vc_X12 rfl ok_X12_ends rfl kc_X12_ends kl_X12_236 ki_X12_ends kv_X12_ends kn_X12 ⟨Nat.le_trans (by decide) hR1, Nat.le_trans (by decide) hR2⟩ ⟨Nat.zero_le _, Nat.zero_le _⟩ (Nat.le_of_ble_eq_true rfl) dX12_at_11 (fun H locs w => ?_)
  refine lv_if_eq (pc := 14) (tgt := 22) hx hb dX12_at_14 (by decide) (fun q => ?_) (fun q => ?_)
  · have h := ite_t q h
    refine lv_aload_n (pc := 22) hx hb dX12_at_22 rfl (lv_at hl 0 rfl) ?_
    refine lv_iload_n (pc := 23) hx hb dX12_at_23 rfl (lv_at hl 1 rfl) ?_
    refine lv_iload_n (pc := 24) hx hb dX12_at_24 rfl (lv_at hl 2 rfl) ?_
    obtain ⟨r7, S6, hc, h⟩ := bnd_t h
    refine s_cvi (pc := 25) [.int a1, .int a2] (fun ad => [.ref (ad 0), .int a1, .int a2]) F w (m_M_standing _ _ _ _ _ hc) rfl rfl hl.1 ds_0 vc_X12 rfl ok_X12_standing rfl kc_X12_standing kl_X12_279 ki_X12_standing kv_X12_standing kn_X12 ⟨Nat.le_trans (by decide) hR1, Nat.le_trans (by decide) hR2⟩ ⟨Nat.zero_le _, Nat.zero_le _⟩ (Nat.le_of_ble_eq_true rfl) dX12_at_25 (fun H locs w => ?_)
    exact s_iret F w h dX12_at_28
  · have h := ite_f q h
    refine lv_bipush (pc := 17) (v := -2) hx hb dX12_at_17 (by decide) ?_
    refine lv_goto (pc := 19) (tgt := 28) hx hb dX12_at_19 (by decide) ?_
    exact s_iret F w h dX12_at_28
