/-! ===== printed by wip/gen: M_thing M_pointed M_ask M_meet M_weigh M_share M_consist M_finding M_count ===== -/
def f_M_thing (a1 : Int32) (a2 : Int32) (S : SS) : Option (Int32 × SS) :=
  if a2 < 0 then
    some ((-1 : Int32), S)
  else
    if a2 ≤ (10 : Int32) then
      bndv (f_M_begin  S) (fun S1 =>
      bnd (f_M_missThing a1 (0 : Int32) S1) (fun r3 S2 =>
      bnd (f_M_ends r3 S2) (fun r5 S4 =>
      if r5 = 0 then
        if a2 = (0 : Int32) then
          grd (inb a1 72) (
          some (S4.1 18 a1.toNatClampNeg, S4))
        else
        if a2 = (1 : Int32) then
          grd (inb a1 72) (
          some (S4.1 20 a1.toNatClampNeg, S4))
        else
        if a2 = (2 : Int32) then
          grd (inb a1 72) (
          some (S4.1 21 a1.toNatClampNeg, S4))
        else
        if a2 = (3 : Int32) then
          grd (inb a1 72) (
          some (S4.1 22 a1.toNatClampNeg, S4))
        else
        if a2 = (4 : Int32) then
          grd (inb ((2 : Int32) * a1) 144) (
          some (S4.1 23 ((2 : Int32) * a1).toNatClampNeg, S4))
        else
        if a2 = (5 : Int32) then
          grd (inb (((2 : Int32) * a1) + (1 : Int32)) 144) (
          some (S4.1 23 (((2 : Int32) * a1) + (1 : Int32)).toNatClampNeg, S4))
        else
        if a2 = (6 : Int32) then
          grd (inb a1 72) (
          some (S4.1 24 a1.toNatClampNeg, S4))
        else
        if a2 = (7 : Int32) then
          grd (inb a1 72) (
          some (S4.1 25 a1.toNatClampNeg, S4))
        else
        if a2 = (8 : Int32) then
          grd (inb a1 72) (
          some (S4.1 26 a1.toNatClampNeg, S4))
        else
        if a2 = (9 : Int32) then
          grd (inb a1 72) (
          some (S4.1 30 a1.toNatClampNeg, S4))
        else
        grd (inb a1 72) (
        if (S4.1 34 a1.toNatClampNeg) = 0 then
          some ((0 : Int32), S4)
        else
          some ((1 : Int32), S4))
      else
        some ((-2 : Int32), S4))))
    else
      some ((-1 : Int32), S)
theorem dX12_thing_0 : decode cX12_thing 0 = .ok (.iload_n 2, 1) := dc_28 (by decide +kernel)
theorem dX12_thing_1 : decode cX12_thing 1 = .ok (.ifCond .lt 9, 3) := dc_155 (a := 0) (b := 9) (by decide +kernel) (by decide)
theorem dX12_thing_4 : decode cX12_thing 4 = .ok (.iload_n 2, 1) := dc_28 (by decide +kernel)
theorem dX12_thing_5 : decode cX12_thing 5 = .ok (.bipush 10, 2) := dc_16 (a := 10) (by decide +kernel) (by decide)
theorem dX12_thing_7 : decode cX12_thing 7 = .ok (.if_icmp .le 5, 3) := dc_164 (a := 0) (b := 5) (by decide +kernel) (by decide)
theorem dX12_thing_10 : decode cX12_thing 10 = .ok (.iconst (-1), 1) := dc_2 (by decide +kernel)
theorem dX12_thing_11 : decode cX12_thing 11 = .ok (.ireturn, 1) := dc_172 (by decide +kernel)
theorem dX12_thing_12 : decode cX12_thing 12 = .ok (.aload_n 0, 1) := dc_42 (by decide +kernel)
theorem dX12_thing_13 : decode cX12_thing 13 = .ok (.invokevirtual 226, 3) := dc_182 (a := 0) (b := 226) (by decide +kernel)
theorem dX12_thing_16 : decode cX12_thing 16 = .ok (.aload_n 0, 1) := dc_42 (by decide +kernel)
theorem dX12_thing_17 : decode cX12_thing 17 = .ok (.aload_n 0, 1) := dc_42 (by decide +kernel)
theorem dX12_thing_18 : decode cX12_thing 18 = .ok (.iload_n 1, 1) := dc_27 (by decide +kernel)
theorem dX12_thing_19 : decode cX12_thing 19 = .ok (.iconst 0, 1) := dc_3 (by decide +kernel)
theorem dX12_thing_20 : decode cX12_thing 20 = .ok (.invokevirtual 293, 3) := dc_182 (a := 1) (b := 37) (by decide +kernel)
theorem dX12_thing_23 : decode cX12_thing 23 = .ok (.invokevirtual 236, 3) := dc_182 (a := 0) (b := 236) (by decide +kernel)
theorem dX12_thing_26 : decode cX12_thing 26 = .ok (.ifCond .eq 6, 3) := dc_153 (a := 0) (b := 6) (by decide +kernel) (by decide)
theorem dX12_thing_29 : decode cX12_thing 29 = .ok (.bipush (-2), 2) := dc_16 (a := 254) (by decide +kernel) (by decide)
theorem dX12_thing_31 : decode cX12_thing 31 = .ok (.ireturn, 1) := dc_172 (by decide +kernel)
theorem dX12_thing_32 : decode cX12_thing 32 = .ok (.iload_n 2, 1) := dc_28 (by decide +kernel)
theorem dX12_thing_33 : decode cX12_thing 33 = .ok (.tableswitch 131 0 9 #[55, 62, 69, 76, 83, 92, 103, 110, 117, 124], 55) := by decide +kernel
theorem dX12_thing_88 : decode cX12_thing 88 = .ok (.aload_n 0, 1) := dc_42 (by decide +kernel)
theorem dX12_thing_89 : decode cX12_thing 89 = .ok (.getfield 69, 3) := dc_180 (a := 0) (b := 69) (by decide +kernel)
theorem dX12_thing_92 : decode cX12_thing 92 = .ok (.iload_n 1, 1) := dc_27 (by decide +kernel)
theorem dX12_thing_93 : decode cX12_thing 93 = .ok (.iaload, 1) := dc_46 (by decide +kernel)
theorem dX12_thing_94 : decode cX12_thing 94 = .ok (.ireturn, 1) := dc_172 (by decide +kernel)
theorem dX12_thing_95 : decode cX12_thing 95 = .ok (.aload_n 0, 1) := dc_42 (by decide +kernel)
theorem dX12_thing_96 : decode cX12_thing 96 = .ok (.getfield 75, 3) := dc_180 (a := 0) (b := 75) (by decide +kernel)
theorem dX12_thing_99 : decode cX12_thing 99 = .ok (.iload_n 1, 1) := dc_27 (by decide +kernel)
theorem dX12_thing_100 : decode cX12_thing 100 = .ok (.iaload, 1) := dc_46 (by decide +kernel)
theorem dX12_thing_101 : decode cX12_thing 101 = .ok (.ireturn, 1) := dc_172 (by decide +kernel)
theorem dX12_thing_102 : decode cX12_thing 102 = .ok (.aload_n 0, 1) := dc_42 (by decide +kernel)
theorem dX12_thing_103 : decode cX12_thing 103 = .ok (.getfield 78, 3) := dc_180 (a := 0) (b := 78) (by decide +kernel)
theorem dX12_thing_106 : decode cX12_thing 106 = .ok (.iload_n 1, 1) := dc_27 (by decide +kernel)
theorem dX12_thing_107 : decode cX12_thing 107 = .ok (.iaload, 1) := dc_46 (by decide +kernel)
theorem dX12_thing_108 : decode cX12_thing 108 = .ok (.ireturn, 1) := dc_172 (by decide +kernel)
theorem dX12_thing_109 : decode cX12_thing 109 = .ok (.aload_n 0, 1) := dc_42 (by decide +kernel)
theorem dX12_thing_110 : decode cX12_thing 110 = .ok (.getfield 81, 3) := dc_180 (a := 0) (b := 81) (by decide +kernel)
theorem dX12_thing_113 : decode cX12_thing 113 = .ok (.iload_n 1, 1) := dc_27 (by decide +kernel)
theorem dX12_thing_114 : decode cX12_thing 114 = .ok (.iaload, 1) := dc_46 (by decide +kernel)
theorem dX12_thing_115 : decode cX12_thing 115 = .ok (.ireturn, 1) := dc_172 (by decide +kernel)
theorem dX12_thing_116 : decode cX12_thing 116 = .ok (.aload_n 0, 1) := dc_42 (by decide +kernel)
theorem dX12_thing_117 : decode cX12_thing 117 = .ok (.getfield 84, 3) := dc_180 (a := 0) (b := 84) (by decide +kernel)
theorem dX12_thing_120 : decode cX12_thing 120 = .ok (.iconst 2, 1) := dc_5 (by decide +kernel)
theorem dX12_thing_121 : decode cX12_thing 121 = .ok (.iload_n 1, 1) := dc_27 (by decide +kernel)
theorem dX12_thing_122 : decode cX12_thing 122 = .ok (.imul, 1) := dc_104 (by decide +kernel)
theorem dX12_thing_123 : decode cX12_thing 123 = .ok (.iaload, 1) := dc_46 (by decide +kernel)
theorem dX12_thing_124 : decode cX12_thing 124 = .ok (.ireturn, 1) := dc_172 (by decide +kernel)
theorem dX12_thing_125 : decode cX12_thing 125 = .ok (.aload_n 0, 1) := dc_42 (by decide +kernel)
theorem dX12_thing_126 : decode cX12_thing 126 = .ok (.getfield 84, 3) := dc_180 (a := 0) (b := 84) (by decide +kernel)
theorem dX12_thing_129 : decode cX12_thing 129 = .ok (.iconst 2, 1) := dc_5 (by decide +kernel)
theorem dX12_thing_130 : decode cX12_thing 130 = .ok (.iload_n 1, 1) := dc_27 (by decide +kernel)
theorem dX12_thing_131 : decode cX12_thing 131 = .ok (.imul, 1) := dc_104 (by decide +kernel)
theorem dX12_thing_132 : decode cX12_thing 132 = .ok (.iconst 1, 1) := dc_4 (by decide +kernel)
theorem dX12_thing_133 : decode cX12_thing 133 = .ok (.iadd, 1) := dc_96 (by decide +kernel)
theorem dX12_thing_134 : decode cX12_thing 134 = .ok (.iaload, 1) := dc_46 (by decide +kernel)
theorem dX12_thing_135 : decode cX12_thing 135 = .ok (.ireturn, 1) := dc_172 (by decide +kernel)
theorem dX12_thing_136 : decode cX12_thing 136 = .ok (.aload_n 0, 1) := dc_42 (by decide +kernel)
theorem dX12_thing_137 : decode cX12_thing 137 = .ok (.getfield 87, 3) := dc_180 (a := 0) (b := 87) (by decide +kernel)
theorem dX12_thing_140 : decode cX12_thing 140 = .ok (.iload_n 1, 1) := dc_27 (by decide +kernel)
theorem dX12_thing_141 : decode cX12_thing 141 = .ok (.iaload, 1) := dc_46 (by decide +kernel)
theorem dX12_thing_142 : decode cX12_thing 142 = .ok (.ireturn, 1) := dc_172 (by decide +kernel)
theorem dX12_thing_143 : decode cX12_thing 143 = .ok (.aload_n 0, 1) := dc_42 (by decide +kernel)
theorem dX12_thing_144 : decode cX12_thing 144 = .ok (.getfield 90, 3) := dc_180 (a := 0) (b := 90) (by decide +kernel)
theorem dX12_thing_147 : decode cX12_thing 147 = .ok (.iload_n 1, 1) := dc_27 (by decide +kernel)
theorem dX12_thing_148 : decode cX12_thing 148 = .ok (.iaload, 1) := dc_46 (by decide +kernel)
theorem dX12_thing_149 : decode cX12_thing 149 = .ok (.ireturn, 1) := dc_172 (by decide +kernel)
theorem dX12_thing_150 : decode cX12_thing 150 = .ok (.aload_n 0, 1) := dc_42 (by decide +kernel)
theorem dX12_thing_151 : decode cX12_thing 151 = .ok (.getfield 93, 3) := dc_180 (a := 0) (b := 93) (by decide +kernel)
theorem dX12_thing_154 : decode cX12_thing 154 = .ok (.iload_n 1, 1) := dc_27 (by decide +kernel)
theorem dX12_thing_155 : decode cX12_thing 155 = .ok (.iaload, 1) := dc_46 (by decide +kernel)
theorem dX12_thing_156 : decode cX12_thing 156 = .ok (.ireturn, 1) := dc_172 (by decide +kernel)
theorem dX12_thing_157 : decode cX12_thing 157 = .ok (.aload_n 0, 1) := dc_42 (by decide +kernel)
theorem dX12_thing_158 : decode cX12_thing 158 = .ok (.getfield 105, 3) := dc_180 (a := 0) (b := 105) (by decide +kernel)
theorem dX12_thing_161 : decode cX12_thing 161 = .ok (.iload_n 1, 1) := dc_27 (by decide +kernel)
theorem dX12_thing_162 : decode cX12_thing 162 = .ok (.iaload, 1) := dc_46 (by decide +kernel)
theorem dX12_thing_163 : decode cX12_thing 163 = .ok (.ireturn, 1) := dc_172 (by decide +kernel)
theorem dX12_thing_164 : decode cX12_thing 164 = .ok (.aload_n 0, 1) := dc_42 (by decide +kernel)
theorem dX12_thing_165 : decode cX12_thing 165 = .ok (.getfield 117, 3) := dc_180 (a := 0) (b := 117) (by decide +kernel)
theorem dX12_thing_168 : decode cX12_thing 168 = .ok (.iload_n 1, 1) := dc_27 (by decide +kernel)
theorem dX12_thing_169 : decode cX12_thing 169 = .ok (.baload, 1) := dc_51 (by decide +kernel)
theorem dX12_thing_170 : decode cX12_thing 170 = .ok (.ifCond .eq 7, 3) := dc_153 (a := 0) (b := 7) (by decide +kernel) (by decide)
theorem dX12_thing_173 : decode cX12_thing 173 = .ok (.iconst 1, 1) := dc_4 (by decide +kernel)
theorem dX12_thing_174 : decode cX12_thing 174 = .ok (.goto 4, 3) := dc_167 (a := 0) (b := 4) (by decide +kernel) (by decide)
theorem dX12_thing_177 : decode cX12_thing 177 = .ok (.iconst 0, 1) := dc_3 (by decide +kernel)
theorem dX12_thing_178 : decode cX12_thing 178 = .ok (.ireturn, 1) := dc_172 (by decide +kernel)
set_option maxRecDepth 100000 in
set_option maxHeartbeats 4000000 in
theorem m_M_thing (a1 : Int32) (a2 : Int32) (S S' : SS) (r : Int32) (h : f_M_thing a1 a2 S = some (r, S')) : MT yX12_thing cX12_thing 3 (some .int) 2 45 (fun ad => [.ref (ad 0), .int a1, .int a2]) S (some (.int r)) S' := by
  refine MT.of RX12 (fun ad => [(0, .ref (ad 0)), (1, .int a1), (2, .int a2)]) (by decide) rfl (fun _ => Nat.le_of_ble_eq_true rfl) (fun _ => rfl) ?_
  intro p l e R s m args below meth c dC dI cs ad A hR1 hR2 F H locs ls w hl
  have hx := F.1.1
  have hb := F.1.2.1
  rw [f_M_thing] at h
  refine lv_iload_n (pc := 0) hx hb dX12_thing_0 rfl (lv_at hl 2 rfl) ?_
  refine lv_if_lt (pc := 1) (tgt := 10) hx hb dX12_thing_1 (by decide) (fun q => ?_) (fun q => ?_)
  · have h := ite_t q h
    refine lv_iconst (pc := 10) (v := -1) hx hb dX12_thing_10 (by decide) ?_
    exact s_iret F w h dX12_thing_11
  · have h := ite_f q h
    refine lv_iload_n (pc := 4) hx hb dX12_thing_4 rfl (lv_at hl 2 rfl) ?_
    refine lv_bipush (pc := 5) (v := 10) hx hb dX12_thing_5 (by decide) ?_
    refine lv_icmp_le (pc := 7) (tgt := 12) hx hb dX12_thing_7 (by decide) (fun q => ?_) (fun q => ?_)
    · have h := ite_t q h
      refine lv_aload_n (pc := 12) hx hb dX12_thing_12 rfl (lv_at hl 0 rfl) ?_
      obtain ⟨S1, hc, h⟩ := bndv_t h
      refine s_cvv (pc := 13) [] (fun ad => [.ref (ad 0)]) F w (m_M_begin  _ _ hc) rfl rfl hl.1 ds_0 vc_X12 rfl ok_X12_begin rfl kc_X12_begin kl_X12_226 ki_X12_begin kv_X12_begin kn_X12 ⟨Nat.le_trans (by decide) hR1, Nat.le_trans (by decide) hR2⟩ ⟨Nat.zero_le _, Nat.zero_le _⟩ (Nat.le_of_ble_eq_true rfl) dX12_thing_13 (fun H locs w => ?_)
      refine lv_aload_n (pc := 16) hx hb dX12_thing_16 rfl (lv_at hl 0 rfl) ?_
      refine lv_aload_n (pc := 17) hx hb dX12_thing_17 rfl (lv_at hl 0 rfl) ?_
      refine lv_iload_n (pc := 18) hx hb dX12_thing_18 rfl (lv_at hl 1 rfl) ?_
      refine lv_iconst (pc := 19) (v := 0) hx hb dX12_thing_19 (by decide) ?_
      obtain ⟨r3, S2, hc, h⟩ := bnd_t h
      refine s_cvi (pc := 20) [.int a1, .int (0 : Int32)] (fun ad => [.ref (ad 0), .int a1, .int (0 : Int32)]) F w (m_M_missThing _ _ _ _ _ hc) rfl rfl hl.1 ds_0 vc_X12 rfl ok_X12_missThing rfl kc_X12_missThing kl_X12_293 ki_X12_missThing kv_X12_missThing kn_X12 ⟨Nat.le_trans (by decide) hR1, Nat.le_trans (by decide) hR2⟩ ⟨Nat.zero_le _, Nat.zero_le _⟩ (Nat.le_of_ble_eq_true rfl) dX12_thing_20 (fun H locs w => ?_)
      obtain ⟨r5, S4, hc, h⟩ := bnd_t h
      refine s_cvi (pc := 23) [.int r3] (fun ad => [.ref (ad 0), .int r3]) F w (m_M_ends _ _ _ _ hc) rfl rfl hl.1 ds_0 vc_X12 rfl ok_X12_ends rfl kc_X12_ends kl_X12_236 ki_X12_ends kv_X12_ends kn_X12 ⟨Nat.le_trans (by decide) hR1, Nat.le_trans (by decide) hR2⟩ ⟨Nat.zero_le _, Nat.zero_le _⟩ (Nat.le_of_ble_eq_true rfl) dX12_thing_23 (fun H locs w => ?_)
      refine lv_if_eq (pc := 26) (tgt := 32) hx hb dX12_thing_26 (by decide) (fun q => ?_) (fun q => ?_)
      · have h := ite_t q h
        refine lv_iload_n (pc := 32) hx hb dX12_thing_32 rfl (lv_at hl 2 rfl) ?_
        rcases Decidable.em (a2 = (0 : Int32)) with q0 | q0
        · refine lv_tableIn (pc := 33) (tgt := 88) (off := 55) hx hb dX12_thing_33 (by rw [q0]; decide) (by rw [q0]; decide) (by rw [q0]; rfl) (by decide) ?_
          have h := ite_t q0 h
          refine lv_aload_n (pc := 88) hx hb dX12_thing_88 rfl (lv_at hl 0 rfl) ?_
          refine s_getR (pc := 89) F w 18 ds_0 (j := 30) vc_X12 vi_X12 rfl (by decide) kf_X12_69 dX12_thing_89 ?_
          refine lv_iload_n (pc := 92) hx hb dX12_thing_92 rfl (lv_at hl 1 rfl) ?_
          refine s_iald (pc := 93) F w ds_18 h dX12_thing_93 (fun h => ?_)
          exact s_iret F w h dX12_thing_94
        have h := ite_f q0 h
        rcases Decidable.em (a2 = (1 : Int32)) with q1 | q1
        · refine lv_tableIn (pc := 33) (tgt := 95) (off := 62) hx hb dX12_thing_33 (by rw [q1]; decide) (by rw [q1]; decide) (by rw [q1]; rfl) (by decide) ?_
          have h := ite_t q1 h
          refine lv_aload_n (pc := 95) hx hb dX12_thing_95 rfl (lv_at hl 0 rfl) ?_
          refine s_getR (pc := 96) F w 20 ds_0 (j := 32) vc_X12 vi_X12 rfl (by decide) kf_X12_75 dX12_thing_96 ?_
          refine lv_iload_n (pc := 99) hx hb dX12_thing_99 rfl (lv_at hl 1 rfl) ?_
          refine s_iald (pc := 100) F w ds_20 h dX12_thing_100 (fun h => ?_)
          exact s_iret F w h dX12_thing_101
        have h := ite_f q1 h
        rcases Decidable.em (a2 = (2 : Int32)) with q2 | q2
        · refine lv_tableIn (pc := 33) (tgt := 102) (off := 69) hx hb dX12_thing_33 (by rw [q2]; decide) (by rw [q2]; decide) (by rw [q2]; rfl) (by decide) ?_
          have h := ite_t q2 h
          refine lv_aload_n (pc := 102) hx hb dX12_thing_102 rfl (lv_at hl 0 rfl) ?_
          refine s_getR (pc := 103) F w 21 ds_0 (j := 33) vc_X12 vi_X12 rfl (by decide) kf_X12_78 dX12_thing_103 ?_
          refine lv_iload_n (pc := 106) hx hb dX12_thing_106 rfl (lv_at hl 1 rfl) ?_
          refine s_iald (pc := 107) F w ds_21 h dX12_thing_107 (fun h => ?_)
          exact s_iret F w h dX12_thing_108
        have h := ite_f q2 h
        rcases Decidable.em (a2 = (3 : Int32)) with q3 | q3
        · refine lv_tableIn (pc := 33) (tgt := 109) (off := 76) hx hb dX12_thing_33 (by rw [q3]; decide) (by rw [q3]; decide) (by rw [q3]; rfl) (by decide) ?_
          have h := ite_t q3 h
          refine lv_aload_n (pc := 109) hx hb dX12_thing_109 rfl (lv_at hl 0 rfl) ?_
          refine s_getR (pc := 110) F w 22 ds_0 (j := 34) vc_X12 vi_X12 rfl (by decide) kf_X12_81 dX12_thing_110 ?_
          refine lv_iload_n (pc := 113) hx hb dX12_thing_113 rfl (lv_at hl 1 rfl) ?_
          refine s_iald (pc := 114) F w ds_22 h dX12_thing_114 (fun h => ?_)
          exact s_iret F w h dX12_thing_115
        have h := ite_f q3 h
        rcases Decidable.em (a2 = (4 : Int32)) with q4 | q4
        · refine lv_tableIn (pc := 33) (tgt := 116) (off := 83) hx hb dX12_thing_33 (by rw [q4]; decide) (by rw [q4]; decide) (by rw [q4]; rfl) (by decide) ?_
          have h := ite_t q4 h
          refine lv_aload_n (pc := 116) hx hb dX12_thing_116 rfl (lv_at hl 0 rfl) ?_
          refine s_getR (pc := 117) F w 23 ds_0 (j := 35) vc_X12 vi_X12 rfl (by decide) kf_X12_84 dX12_thing_117 ?_
          refine lv_iconst (pc := 120) (v := 2) hx hb dX12_thing_120 (by decide) ?_
          refine lv_iload_n (pc := 121) hx hb dX12_thing_121 rfl (lv_at hl 1 rfl) ?_
          refine lv_imul (pc := 122) hx hb dX12_thing_122 ?_
          refine s_iald (pc := 123) F w ds_23 h dX12_thing_123 (fun h => ?_)
          exact s_iret F w h dX12_thing_124
        have h := ite_f q4 h
        rcases Decidable.em (a2 = (5 : Int32)) with q5 | q5
        · refine lv_tableIn (pc := 33) (tgt := 125) (off := 92) hx hb dX12_thing_33 (by rw [q5]; decide) (by rw [q5]; decide) (by rw [q5]; rfl) (by decide) ?_
          have h := ite_t q5 h
          refine lv_aload_n (pc := 125) hx hb dX12_thing_125 rfl (lv_at hl 0 rfl) ?_
          refine s_getR (pc := 126) F w 23 ds_0 (j := 35) vc_X12 vi_X12 rfl (by decide) kf_X12_84 dX12_thing_126 ?_
          refine lv_iconst (pc := 129) (v := 2) hx hb dX12_thing_129 (by decide) ?_
          refine lv_iload_n (pc := 130) hx hb dX12_thing_130 rfl (lv_at hl 1 rfl) ?_
          refine lv_imul (pc := 131) hx hb dX12_thing_131 ?_
          refine lv_iconst (pc := 132) (v := 1) hx hb dX12_thing_132 (by decide) ?_
          refine lv_iadd (pc := 133) hx hb dX12_thing_133 ?_
          refine s_iald (pc := 134) F w ds_23 h dX12_thing_134 (fun h => ?_)
          exact s_iret F w h dX12_thing_135
        have h := ite_f q5 h
        rcases Decidable.em (a2 = (6 : Int32)) with q6 | q6
        · refine lv_tableIn (pc := 33) (tgt := 136) (off := 103) hx hb dX12_thing_33 (by rw [q6]; decide) (by rw [q6]; decide) (by rw [q6]; rfl) (by decide) ?_
          have h := ite_t q6 h
          refine lv_aload_n (pc := 136) hx hb dX12_thing_136 rfl (lv_at hl 0 rfl) ?_
          refine s_getR (pc := 137) F w 24 ds_0 (j := 36) vc_X12 vi_X12 rfl (by decide) kf_X12_87 dX12_thing_137 ?_
          refine lv_iload_n (pc := 140) hx hb dX12_thing_140 rfl (lv_at hl 1 rfl) ?_
          refine s_iald (pc := 141) F w ds_24 h dX12_thing_141 (fun h => ?_)
          exact s_iret F w h dX12_thing_142
        have h := ite_f q6 h
        rcases Decidable.em (a2 = (7 : Int32)) with q7 | q7
        · refine lv_tableIn (pc := 33) (tgt := 143) (off := 110) hx hb dX12_thing_33 (by rw [q7]; decide) (by rw [q7]; decide) (by rw [q7]; rfl) (by decide) ?_
          have h := ite_t q7 h
          refine lv_aload_n (pc := 143) hx hb dX12_thing_143 rfl (lv_at hl 0 rfl) ?_
          refine s_getR (pc := 144) F w 25 ds_0 (j := 37) vc_X12 vi_X12 rfl (by decide) kf_X12_90 dX12_thing_144 ?_
          refine lv_iload_n (pc := 147) hx hb dX12_thing_147 rfl (lv_at hl 1 rfl) ?_
          refine s_iald (pc := 148) F w ds_25 h dX12_thing_148 (fun h => ?_)
          exact s_iret F w h dX12_thing_149
        have h := ite_f q7 h
        rcases Decidable.em (a2 = (8 : Int32)) with q8 | q8
        · refine lv_tableIn (pc := 33) (tgt := 150) (off := 117) hx hb dX12_thing_33 (by rw [q8]; decide) (by rw [q8]; decide) (by rw [q8]; rfl) (by decide) ?_
          have h := ite_t q8 h
          refine lv_aload_n (pc := 150) hx hb dX12_thing_150 rfl (lv_at hl 0 rfl) ?_
          refine s_getR (pc := 151) F w 26 ds_0 (j := 38) vc_X12 vi_X12 rfl (by decide) kf_X12_93 dX12_thing_151 ?_
          refine lv_iload_n (pc := 154) hx hb dX12_thing_154 rfl (lv_at hl 1 rfl) ?_
          refine s_iald (pc := 155) F w ds_26 h dX12_thing_155 (fun h => ?_)
          exact s_iret F w h dX12_thing_156
        have h := ite_f q8 h
        rcases Decidable.em (a2 = (9 : Int32)) with q9 | q9
        · refine lv_tableIn (pc := 33) (tgt := 157) (off := 124) hx hb dX12_thing_33 (by rw [q9]; decide) (by rw [q9]; decide) (by rw [q9]; rfl) (by decide) ?_
          have h := ite_t q9 h
          refine lv_aload_n (pc := 157) hx hb dX12_thing_157 rfl (lv_at hl 0 rfl) ?_
          refine s_getR (pc := 158) F w 30 ds_0 (j := 42) vc_X12 vi_X12 rfl (by decide) kf_X12_105 dX12_thing_158 ?_
          refine lv_iload_n (pc := 161) hx hb dX12_thing_161 rfl (lv_at hl 1 rfl) ?_
          refine s_iald (pc := 162) F w ds_30 h dX12_thing_162 (fun h => ?_)
          exact s_iret F w h dX12_thing_163
        have h := ite_f q9 h
        refine lv_tableOut (pc := 33) (tgt := 164) hx hb dX12_thing_33 (by have zq0 := i32ne q0 (show ((0 : Int32)).toInt = 0 by decide); have zq1 := i32ne q1 (show ((1 : Int32)).toInt = 1 by decide); have zq2 := i32ne q2 (show ((2 : Int32)).toInt = 2 by decide); have zq3 := i32ne q3 (show ((3 : Int32)).toInt = 3 by decide); have zq4 := i32ne q4 (show ((4 : Int32)).toInt = 4 by decide); have zq5 := i32ne q5 (show ((5 : Int32)).toInt = 5 by decide); have zq6 := i32ne q6 (show ((6 : Int32)).toInt = 6 by decide); have zq7 := i32ne q7 (show ((7 : Int32)).toInt = 7 by decide); have zq8 := i32ne q8 (show ((8 : Int32)).toInt = 8 by decide); have zq9 := i32ne q9 (show ((9 : Int32)).toInt = 9 by decide); omega) (by decide) ?_
        refine lv_aload_n (pc := 164) hx hb dX12_thing_164 rfl (lv_at hl 0 rfl) ?_
        refine s_getR (pc := 165) F w 34 ds_0 (j := 46) vc_X12 vi_X12 rfl (by decide) kf_X12_117 dX12_thing_165 ?_
        refine lv_iload_n (pc := 168) hx hb dX12_thing_168 rfl (lv_at hl 1 rfl) ?_
        refine s_zald (pc := 169) F w ds_34 h dX12_thing_169 (fun h => ?_)
        refine lv_if_eq (pc := 170) (tgt := 177) hx hb dX12_thing_170 (by decide) (fun q => ?_) (fun q => ?_)
        · have h := ite_t q h
          refine lv_iconst (pc := 177) (v := 0) hx hb dX12_thing_177 (by decide) ?_
          exact s_iret F w h dX12_thing_178
        · have h := ite_f q h
          refine lv_iconst (pc := 173) (v := 1) hx hb dX12_thing_173 (by decide) ?_
          refine lv_goto (pc := 174) (tgt := 178) hx hb dX12_thing_174 (by decide) ?_
          exact s_iret F w h dX12_thing_178
      · have h := ite_f q h
        refine lv_bipush (pc := 29) (v := -2) hx hb dX12_thing_29 (by decide) ?_
        exact s_iret F w h dX12_thing_31
    · have h := ite_f q h
      refine lv_iconst (pc := 10) (v := -1) hx hb dX12_thing_10 (by decide) ?_
      exact s_iret F w h dX12_thing_11
def f_M_pointed (a1 : Int32) (a2 : Int32) (S : SS) : Option (Int32 × SS) :=
  if a2 < 0 then
    some ((-1 : Int32), S)
  else
    if a2 ≤ (4 : Int32) then
      bndv (f_M_begin  S) (fun S1 =>
      bnd (f_M_missPoint a1 S1) (fun r3 S2 =>
      bnd (f_M_ends r3 S2) (fun r5 S4 =>
      if r5 = 0 then
        if a2 = 0 then
          grd (inb a1 40) (
          some ((S4.1 9 a1.toNatClampNeg) / (2 : Int32), S4))
        else
          if a2 = (1 : Int32) then
            grd (inb a1 40) (
            some ((S4.1 9 a1.toNatClampNeg) - (S4.1 9 a1.toNatClampNeg) / (2 : Int32) * (2 : Int32), S4))
          else
            if a2 = (2 : Int32) then
              grd (inb a1 40) (
              grd (inb (S4.1 9 a1.toNatClampNeg) 48) (
              some (S4.1 6 (S4.1 9 a1.toNatClampNeg).toNatClampNeg, S4)))
            else
              if a2 = (3 : Int32) then
                grd (inb a1 40) (
                some (S4.1 10 a1.toNatClampNeg, S4))
              else
                grd (inb a1 40) (
                some (S4.1 11 a1.toNatClampNeg, S4))
      else
        some ((-2 : Int32), S4))))
    else
      some ((-1 : Int32), S)
theorem dX12_pointed_0 : decode cX12_pointed 0 = .ok (.iload_n 2, 1) := dc_28 (by decide +kernel)
theorem dX12_pointed_1 : decode cX12_pointed 1 = .ok (.ifCond .lt 8, 3) := dc_155 (a := 0) (b := 8) (by decide +kernel) (by decide)
theorem dX12_pointed_4 : decode cX12_pointed 4 = .ok (.iload_n 2, 1) := dc_28 (by decide +kernel)
theorem dX12_pointed_5 : decode cX12_pointed 5 = .ok (.iconst 4, 1) := dc_7 (by decide +kernel)
theorem dX12_pointed_6 : decode cX12_pointed 6 = .ok (.if_icmp .le 5, 3) := dc_164 (a := 0) (b := 5) (by decide +kernel) (by decide)
theorem dX12_pointed_9 : decode cX12_pointed 9 = .ok (.iconst (-1), 1) := dc_2 (by decide +kernel)
theorem dX12_pointed_10 : decode cX12_pointed 10 = .ok (.ireturn, 1) := dc_172 (by decide +kernel)
theorem dX12_pointed_11 : decode cX12_pointed 11 = .ok (.aload_n 0, 1) := dc_42 (by decide +kernel)
theorem dX12_pointed_12 : decode cX12_pointed 12 = .ok (.invokevirtual 226, 3) := dc_182 (a := 0) (b := 226) (by decide +kernel)
theorem dX12_pointed_15 : decode cX12_pointed 15 = .ok (.aload_n 0, 1) := dc_42 (by decide +kernel)
theorem dX12_pointed_16 : decode cX12_pointed 16 = .ok (.aload_n 0, 1) := dc_42 (by decide +kernel)
theorem dX12_pointed_17 : decode cX12_pointed 17 = .ok (.iload_n 1, 1) := dc_27 (by decide +kernel)
theorem dX12_pointed_18 : decode cX12_pointed 18 = .ok (.invokevirtual 263, 3) := dc_182 (a := 1) (b := 7) (by decide +kernel)
theorem dX12_pointed_21 : decode cX12_pointed 21 = .ok (.invokevirtual 236, 3) := dc_182 (a := 0) (b := 236) (by decide +kernel)
theorem dX12_pointed_24 : decode cX12_pointed 24 = .ok (.ifCond .eq 6, 3) := dc_153 (a := 0) (b := 6) (by decide +kernel) (by decide)
theorem dX12_pointed_27 : decode cX12_pointed 27 = .ok (.bipush (-2), 2) := dc_16 (a := 254) (by decide +kernel) (by decide)
theorem dX12_pointed_29 : decode cX12_pointed 29 = .ok (.ireturn, 1) := dc_172 (by decide +kernel)
theorem dX12_pointed_30 : decode cX12_pointed 30 = .ok (.iload_n 2, 1) := dc_28 (by decide +kernel)
theorem dX12_pointed_31 : decode cX12_pointed 31 = .ok (.ifCond .ne 14, 3) := dc_154 (a := 0) (b := 14) (by decide +kernel) (by decide)
theorem dX12_pointed_34 : decode cX12_pointed 34 = .ok (.aload_n 0, 1) := dc_42 (by decide +kernel)
theorem dX12_pointed_35 : decode cX12_pointed 35 = .ok (.getfield 42, 3) := dc_180 (a := 0) (b := 42) (by decide +kernel)
theorem dX12_pointed_38 : decode cX12_pointed 38 = .ok (.iload_n 1, 1) := dc_27 (by decide +kernel)
theorem dX12_pointed_39 : decode cX12_pointed 39 = .ok (.iaload, 1) := dc_46 (by decide +kernel)
theorem dX12_pointed_40 : decode cX12_pointed 40 = .ok (.iconst 2, 1) := dc_5 (by decide +kernel)
theorem dX12_pointed_41 : decode cX12_pointed 41 = .ok (.idiv, 1) := dc_108 (by decide +kernel)
theorem dX12_pointed_42 : decode cX12_pointed 42 = .ok (.goto 58, 3) := dc_167 (a := 0) (b := 58) (by decide +kernel) (by decide)
theorem dX12_pointed_45 : decode cX12_pointed 45 = .ok (.iload_n 2, 1) := dc_28 (by decide +kernel)
theorem dX12_pointed_46 : decode cX12_pointed 46 = .ok (.iconst 1, 1) := dc_4 (by decide +kernel)
theorem dX12_pointed_47 : decode cX12_pointed 47 = .ok (.if_icmp .ne 14, 3) := dc_160 (a := 0) (b := 14) (by decide +kernel) (by decide)
theorem dX12_pointed_50 : decode cX12_pointed 50 = .ok (.aload_n 0, 1) := dc_42 (by decide +kernel)
theorem dX12_pointed_51 : decode cX12_pointed 51 = .ok (.getfield 42, 3) := dc_180 (a := 0) (b := 42) (by decide +kernel)
theorem dX12_pointed_54 : decode cX12_pointed 54 = .ok (.iload_n 1, 1) := dc_27 (by decide +kernel)
theorem dX12_pointed_55 : decode cX12_pointed 55 = .ok (.iaload, 1) := dc_46 (by decide +kernel)
theorem dX12_pointed_56 : decode cX12_pointed 56 = .ok (.iconst 2, 1) := dc_5 (by decide +kernel)
theorem dX12_pointed_57 : decode cX12_pointed 57 = .ok (.irem, 1) := dc_112 (by decide +kernel)
theorem dX12_pointed_58 : decode cX12_pointed 58 = .ok (.goto 42, 3) := dc_167 (a := 0) (b := 42) (by decide +kernel) (by decide)
theorem dX12_pointed_61 : decode cX12_pointed 61 = .ok (.iload_n 2, 1) := dc_28 (by decide +kernel)
theorem dX12_pointed_62 : decode cX12_pointed 62 = .ok (.iconst 2, 1) := dc_5 (by decide +kernel)
theorem dX12_pointed_63 : decode cX12_pointed 63 = .ok (.if_icmp .ne 17, 3) := dc_160 (a := 0) (b := 17) (by decide +kernel) (by decide)
theorem dX12_pointed_66 : decode cX12_pointed 66 = .ok (.aload_n 0, 1) := dc_42 (by decide +kernel)
theorem dX12_pointed_67 : decode cX12_pointed 67 = .ok (.getfield 33, 3) := dc_180 (a := 0) (b := 33) (by decide +kernel)
theorem dX12_pointed_70 : decode cX12_pointed 70 = .ok (.aload_n 0, 1) := dc_42 (by decide +kernel)
theorem dX12_pointed_71 : decode cX12_pointed 71 = .ok (.getfield 42, 3) := dc_180 (a := 0) (b := 42) (by decide +kernel)
theorem dX12_pointed_74 : decode cX12_pointed 74 = .ok (.iload_n 1, 1) := dc_27 (by decide +kernel)
theorem dX12_pointed_75 : decode cX12_pointed 75 = .ok (.iaload, 1) := dc_46 (by decide +kernel)
theorem dX12_pointed_76 : decode cX12_pointed 76 = .ok (.iaload, 1) := dc_46 (by decide +kernel)
theorem dX12_pointed_77 : decode cX12_pointed 77 = .ok (.goto 23, 3) := dc_167 (a := 0) (b := 23) (by decide +kernel) (by decide)
theorem dX12_pointed_80 : decode cX12_pointed 80 = .ok (.iload_n 2, 1) := dc_28 (by decide +kernel)
theorem dX12_pointed_81 : decode cX12_pointed 81 = .ok (.iconst 3, 1) := dc_6 (by decide +kernel)
theorem dX12_pointed_82 : decode cX12_pointed 82 = .ok (.if_icmp .ne 12, 3) := dc_160 (a := 0) (b := 12) (by decide +kernel) (by decide)
theorem dX12_pointed_85 : decode cX12_pointed 85 = .ok (.aload_n 0, 1) := dc_42 (by decide +kernel)
theorem dX12_pointed_86 : decode cX12_pointed 86 = .ok (.getfield 45, 3) := dc_180 (a := 0) (b := 45) (by decide +kernel)
theorem dX12_pointed_89 : decode cX12_pointed 89 = .ok (.iload_n 1, 1) := dc_27 (by decide +kernel)
theorem dX12_pointed_90 : decode cX12_pointed 90 = .ok (.iaload, 1) := dc_46 (by decide +kernel)
theorem dX12_pointed_91 : decode cX12_pointed 91 = .ok (.goto 9, 3) := dc_167 (a := 0) (b := 9) (by decide +kernel) (by decide)
theorem dX12_pointed_94 : decode cX12_pointed 94 = .ok (.aload_n 0, 1) := dc_42 (by decide +kernel)
theorem dX12_pointed_95 : decode cX12_pointed 95 = .ok (.getfield 48, 3) := dc_180 (a := 0) (b := 48) (by decide +kernel)
theorem dX12_pointed_98 : decode cX12_pointed 98 = .ok (.iload_n 1, 1) := dc_27 (by decide +kernel)
theorem dX12_pointed_99 : decode cX12_pointed 99 = .ok (.iaload, 1) := dc_46 (by decide +kernel)
theorem dX12_pointed_100 : decode cX12_pointed 100 = .ok (.ireturn, 1) := dc_172 (by decide +kernel)
set_option maxRecDepth 100000 in
set_option maxHeartbeats 4000000 in
theorem m_M_pointed (a1 : Int32) (a2 : Int32) (S S' : SS) (r : Int32) (h : f_M_pointed a1 a2 S = some (r, S')) : MT yX12_pointed cX12_pointed 3 (some .int) 2 42 (fun ad => [.ref (ad 0), .int a1, .int a2]) S (some (.int r)) S' := by
  refine MT.of RX12 (fun ad => [(0, .ref (ad 0)), (1, .int a1), (2, .int a2)]) (by decide) rfl (fun _ => Nat.le_of_ble_eq_true rfl) (fun _ => rfl) ?_
  intro p l e R s m args below meth c dC dI cs ad A hR1 hR2 F H locs ls w hl
  have hx := F.1.1
  have hb := F.1.2.1
  rw [f_M_pointed] at h
  refine lv_iload_n (pc := 0) hx hb dX12_pointed_0 rfl (lv_at hl 2 rfl) ?_
  refine lv_if_lt (pc := 1) (tgt := 9) hx hb dX12_pointed_1 (by decide) (fun q => ?_) (fun q => ?_)
  · have h := ite_t q h
    refine lv_iconst (pc := 9) (v := -1) hx hb dX12_pointed_9 (by decide) ?_
    exact s_iret F w h dX12_pointed_10
  · have h := ite_f q h
    refine lv_iload_n (pc := 4) hx hb dX12_pointed_4 rfl (lv_at hl 2 rfl) ?_
    refine lv_iconst (pc := 5) (v := 4) hx hb dX12_pointed_5 (by decide) ?_
    refine lv_icmp_le (pc := 6) (tgt := 11) hx hb dX12_pointed_6 (by decide) (fun q => ?_) (fun q => ?_)
    · have h := ite_t q h
      refine lv_aload_n (pc := 11) hx hb dX12_pointed_11 rfl (lv_at hl 0 rfl) ?_
      obtain ⟨S1, hc, h⟩ := bndv_t h
      refine s_cvv (pc := 12) [] (fun ad => [.ref (ad 0)]) F w (m_M_begin  _ _ hc) rfl rfl hl.1 ds_0 vc_X12 rfl ok_X12_begin rfl kc_X12_begin kl_X12_226 ki_X12_begin kv_X12_begin kn_X12 ⟨Nat.le_trans (by decide) hR1, Nat.le_trans (by decide) hR2⟩ ⟨Nat.zero_le _, Nat.zero_le _⟩ (Nat.le_of_ble_eq_true rfl) dX12_pointed_12 (fun H locs w => ?_)
      refine lv_aload_n (pc := 15) hx hb dX12_pointed_15 rfl (lv_at hl 0 rfl) ?_
      refine lv_aload_n (pc := 16) hx hb dX12_pointed_16 rfl (lv_at hl 0 rfl) ?_
      refine lv_iload_n (pc := 17) hx hb dX12_pointed_17 rfl (lv_at hl 1 rfl) ?_
      obtain ⟨r3, S2, hc, h⟩ := bnd_t h
      refine s_cvi (pc := 18) [.int a1] (fun ad => [.ref (ad 0), .int a1]) F w (m_M_missPoint _ _ _ _ hc) rfl rfl hl.1 ds_0 vc_X12 rfl ok_X12_missPoint rfl kc_X12_missPoint kl_X12_263 ki_X12_missPoint kv_X12_missPoint kn_X12 ⟨Nat.le_trans (by decide) hR1, Nat.le_trans (by decide) hR2⟩ ⟨Nat.zero_le _, Nat.zero_le _⟩ (Nat.le_of_ble_eq_true rfl) dX12_pointed_18 (fun H locs w => ?_)
      obtain ⟨r5, S4, hc, h⟩ := bnd_t h
      refine s_cvi (pc := 21) [.int r3] (fun ad => [.ref (ad 0), .int r3]) F w (m_M_ends _ _ _ _ hc) rfl rfl hl.1 ds_0 vc_X12 rfl ok_X12_ends rfl kc_X12_ends kl_X12_236 ki_X12_ends kv_X12_ends kn_X12 ⟨Nat.le_trans (by decide) hR1, Nat.le_trans (by decide) hR2⟩ ⟨Nat.zero_le _, Nat.zero_le _⟩ (Nat.le_of_ble_eq_true rfl) dX12_pointed_21 (fun H locs w => ?_)
      refine lv_if_eq (pc := 24) (tgt := 30) hx hb dX12_pointed_24 (by decide) (fun q => ?_) (fun q => ?_)
      · have h := ite_t q h
        refine lv_iload_n (pc := 30) hx hb dX12_pointed_30 rfl (lv_at hl 2 rfl) ?_
        refine lv_if_ne (pc := 31) (tgt := 45) hx hb dX12_pointed_31 (by decide) (fun q => ?_) (fun q => ?_)
        · have h := ite_f q h
          refine lv_iload_n (pc := 45) hx hb dX12_pointed_45 rfl (lv_at hl 2 rfl) ?_
          refine lv_iconst (pc := 46) (v := 1) hx hb dX12_pointed_46 (by decide) ?_
          refine lv_icmp_ne (pc := 47) (tgt := 61) hx hb dX12_pointed_47 (by decide) (fun q => ?_) (fun q => ?_)
          · have h := ite_f q h
            refine lv_iload_n (pc := 61) hx hb dX12_pointed_61 rfl (lv_at hl 2 rfl) ?_
            refine lv_iconst (pc := 62) (v := 2) hx hb dX12_pointed_62 (by decide) ?_
            refine lv_icmp_ne (pc := 63) (tgt := 80) hx hb dX12_pointed_63 (by decide) (fun q => ?_) (fun q => ?_)
            · have h := ite_f q h
              refine lv_iload_n (pc := 80) hx hb dX12_pointed_80 rfl (lv_at hl 2 rfl) ?_
              refine lv_iconst (pc := 81) (v := 3) hx hb dX12_pointed_81 (by decide) ?_
              refine lv_icmp_ne (pc := 82) (tgt := 94) hx hb dX12_pointed_82 (by decide) (fun q => ?_) (fun q => ?_)
              · have h := ite_f q h
                refine lv_aload_n (pc := 94) hx hb dX12_pointed_94 rfl (lv_at hl 0 rfl) ?_
                refine s_getR (pc := 95) F w 11 ds_0 (j := 18) vc_X12 vi_X12 rfl (by decide) kf_X12_48 dX12_pointed_95 ?_
                refine lv_iload_n (pc := 98) hx hb dX12_pointed_98 rfl (lv_at hl 1 rfl) ?_
                refine s_iald (pc := 99) F w ds_11 h dX12_pointed_99 (fun h => ?_)
                exact s_iret F w h dX12_pointed_100
              · have h := ite_t q h
                refine lv_aload_n (pc := 85) hx hb dX12_pointed_85 rfl (lv_at hl 0 rfl) ?_
                refine s_getR (pc := 86) F w 10 ds_0 (j := 17) vc_X12 vi_X12 rfl (by decide) kf_X12_45 dX12_pointed_86 ?_
                refine lv_iload_n (pc := 89) hx hb dX12_pointed_89 rfl (lv_at hl 1 rfl) ?_
                refine s_iald (pc := 90) F w ds_10 h dX12_pointed_90 (fun h => ?_)
                refine lv_goto (pc := 91) (tgt := 100) hx hb dX12_pointed_91 (by decide) ?_
                exact s_iret F w h dX12_pointed_100
            · have h := ite_t q h
              refine lv_aload_n (pc := 66) hx hb dX12_pointed_66 rfl (lv_at hl 0 rfl) ?_
              refine s_getR (pc := 67) F w 6 ds_0 (j := 11) vc_X12 vi_X12 rfl (by decide) kf_X12_33 dX12_pointed_67 ?_
              refine lv_aload_n (pc := 70) hx hb dX12_pointed_70 rfl (lv_at hl 0 rfl) ?_
              refine s_getR (pc := 71) F w 9 ds_0 (j := 16) vc_X12 vi_X12 rfl (by decide) kf_X12_42 dX12_pointed_71 ?_
              refine lv_iload_n (pc := 74) hx hb dX12_pointed_74 rfl (lv_at hl 1 rfl) ?_
              refine s_iald (pc := 75) F w ds_9 h dX12_pointed_75 (fun h => ?_)
              refine s_iald (pc := 76) F w ds_6 h dX12_pointed_76 (fun h => ?_)
              refine lv_goto (pc := 77) (tgt := 100) hx hb dX12_pointed_77 (by decide) ?_
              exact s_iret F w h dX12_pointed_100
          · have h := ite_t q h
            refine lv_aload_n (pc := 50) hx hb dX12_pointed_50 rfl (lv_at hl 0 rfl) ?_
            refine s_getR (pc := 51) F w 9 ds_0 (j := 16) vc_X12 vi_X12 rfl (by decide) kf_X12_42 dX12_pointed_51 ?_
            refine lv_iload_n (pc := 54) hx hb dX12_pointed_54 rfl (lv_at hl 1 rfl) ?_
            refine s_iald (pc := 55) F w ds_9 h dX12_pointed_55 (fun h => ?_)
            refine lv_iconst (pc := 56) (v := 2) hx hb dX12_pointed_56 (by decide) ?_
            refine lv_irem (pc := 57) hx hb dX12_pointed_57 (by decide) ?_
            refine lv_goto (pc := 58) (tgt := 100) hx hb dX12_pointed_58 (by decide) ?_
            exact s_iret F w h dX12_pointed_100
        · have h := ite_t q h
          refine lv_aload_n (pc := 34) hx hb dX12_pointed_34 rfl (lv_at hl 0 rfl) ?_
          refine s_getR (pc := 35) F w 9 ds_0 (j := 16) vc_X12 vi_X12 rfl (by decide) kf_X12_42 dX12_pointed_35 ?_
          refine lv_iload_n (pc := 38) hx hb dX12_pointed_38 rfl (lv_at hl 1 rfl) ?_
          refine s_iald (pc := 39) F w ds_9 h dX12_pointed_39 (fun h => ?_)
          refine lv_iconst (pc := 40) (v := 2) hx hb dX12_pointed_40 (by decide) ?_
          refine lv_idiv (pc := 41) hx hb dX12_pointed_41 (by decide) ?_
          refine lv_goto (pc := 42) (tgt := 100) hx hb dX12_pointed_42 (by decide) ?_
          exact s_iret F w h dX12_pointed_100
      · have h := ite_f q h
        refine lv_bipush (pc := 27) (v := -2) hx hb dX12_pointed_27 (by decide) ?_
        exact s_iret F w h dX12_pointed_29
    · have h := ite_f q h
      refine lv_iconst (pc := 9) (v := -1) hx hb dX12_pointed_9 (by decide) ?_
      exact s_iret F w h dX12_pointed_10
def f_M_ask_j55  (x1 : Int32) (x2 : Int32) (y0 : Int32) (S : SS) : Option (Int32 × SS) :=
    bnd (f_M_missThing x1 y0 S) (fun r3 S2 =>
    bnd (f_M_ends r3 S2) (fun r5 S4 =>
    if r5 = 0 then
      if x2 = (0 : Int32) then
        bnd (f_M_weight x1 S4) (fun r7 S6 =>
        some (r7, S6))
      else
      if x2 = (1 : Int32) then
        bnd (f_M_brake x1 S4) (fun r9 S8 =>
        some (r9, S8))
      else
      if x2 = (2 : Int32) then
        bnd (f_M_heavy x1 S4) (fun r11 S10 =>
        some (r11, S10))
      else
      if x2 = (3 : Int32) then
        bnd (f_M_perAxle x1 S4) (fun r13 S12 =>
        if (S12.1 0 54) = 0 then
          some (r13, S12)
        else
          bnd (f_M_found (6 : Int32) S12) (fun r15 S14 =>
          some (r15, S14)))
      else
      if x2 = (4 : Int32) then
        bnd (f_M_pulls x1 S4) (fun r17 S16 =>
        some (r17, S16))
      else
      if x2 = (5 : Int32) then
        grd (inb x1 72) (
        some (S4.1 27 x1.toNatClampNeg, S4))
      else
      if x2 = (6 : Int32) then
        grd (inb x1 72) (
        if (S4.1 35 x1.toNatClampNeg) = (-4 : Int32) then
          bnd (f_M_found (1 : Int32) S4) (fun r19 S18 =>
          some (r19, S18))
        else
          grd (inb x1 72) (
          some (S4.1 35 x1.toNatClampNeg, S4)))
      else
      grd (inb x1 72) (
      some (S4.1 28 x1.toNatClampNeg, S4))
    else
      some ((-2 : Int32), S4)))
def f_M_ask (a1 : Int32) (a2 : Int32) (S : SS) : Option (Int32 × SS) :=
  if a2 < 0 then
    some ((-1 : Int32), S)
  else
    if a2 ≤ (7 : Int32) then
      bndv (f_M_begin  S) (fun S1 =>
      if a2 = (4 : Int32) then
        f_M_ask_j55 a1 a2 (2 : Int32) S1
      else
        if a2 = (5 : Int32) then
          f_M_ask_j55 a1 a2 (1 : Int32) S1
        else
          if a2 = (6 : Int32) then
            f_M_ask_j55 a1 a2 (3 : Int32) S1
          else
            if a2 = (7 : Int32) then
              f_M_ask_j55 a1 a2 (4 : Int32) S1
            else
              f_M_ask_j55 a1 a2 (0 : Int32) S1)
    else
      some ((-1 : Int32), S)
theorem dX12_ask_0 : decode cX12_ask 0 = .ok (.iload_n 2, 1) := dc_28 (by decide +kernel)
theorem dX12_ask_1 : decode cX12_ask 1 = .ok (.ifCond .lt 9, 3) := dc_155 (a := 0) (b := 9) (by decide +kernel) (by decide)
theorem dX12_ask_4 : decode cX12_ask 4 = .ok (.iload_n 2, 1) := dc_28 (by decide +kernel)
theorem dX12_ask_5 : decode cX12_ask 5 = .ok (.bipush 7, 2) := dc_16 (a := 7) (by decide +kernel) (by decide)
theorem dX12_ask_7 : decode cX12_ask 7 = .ok (.if_icmp .le 5, 3) := dc_164 (a := 0) (b := 5) (by decide +kernel) (by decide)
theorem dX12_ask_10 : decode cX12_ask 10 = .ok (.iconst (-1), 1) := dc_2 (by decide +kernel)
theorem dX12_ask_11 : decode cX12_ask 11 = .ok (.ireturn, 1) := dc_172 (by decide +kernel)
theorem dX12_ask_12 : decode cX12_ask 12 = .ok (.aload_n 0, 1) := dc_42 (by decide +kernel)
theorem dX12_ask_13 : decode cX12_ask 13 = .ok (.invokevirtual 226, 3) := dc_182 (a := 0) (b := 226) (by decide +kernel)
theorem dX12_ask_16 : decode cX12_ask 16 = .ok (.iload_n 2, 1) := dc_28 (by decide +kernel)
theorem dX12_ask_17 : decode cX12_ask 17 = .ok (.iconst 4, 1) := dc_7 (by decide +kernel)
theorem dX12_ask_18 : decode cX12_ask 18 = .ok (.if_icmp .ne 7, 3) := dc_160 (a := 0) (b := 7) (by decide +kernel) (by decide)
theorem dX12_ask_21 : decode cX12_ask 21 = .ok (.iconst 2, 1) := dc_5 (by decide +kernel)
theorem dX12_ask_22 : decode cX12_ask 22 = .ok (.goto 33, 3) := dc_167 (a := 0) (b := 33) (by decide +kernel) (by decide)
theorem dX12_ask_25 : decode cX12_ask 25 = .ok (.iload_n 2, 1) := dc_28 (by decide +kernel)
theorem dX12_ask_26 : decode cX12_ask 26 = .ok (.iconst 5, 1) := dc_8 (by decide +kernel)
theorem dX12_ask_27 : decode cX12_ask 27 = .ok (.if_icmp .ne 7, 3) := dc_160 (a := 0) (b := 7) (by decide +kernel) (by decide)
theorem dX12_ask_30 : decode cX12_ask 30 = .ok (.iconst 1, 1) := dc_4 (by decide +kernel)
theorem dX12_ask_31 : decode cX12_ask 31 = .ok (.goto 24, 3) := dc_167 (a := 0) (b := 24) (by decide +kernel) (by decide)
theorem dX12_ask_34 : decode cX12_ask 34 = .ok (.iload_n 2, 1) := dc_28 (by decide +kernel)
theorem dX12_ask_35 : decode cX12_ask 35 = .ok (.bipush 6, 2) := dc_16 (a := 6) (by decide +kernel) (by decide)
theorem dX12_ask_37 : decode cX12_ask 37 = .ok (.if_icmp .ne 7, 3) := dc_160 (a := 0) (b := 7) (by decide +kernel) (by decide)
theorem dX12_ask_40 : decode cX12_ask 40 = .ok (.iconst 3, 1) := dc_6 (by decide +kernel)
theorem dX12_ask_41 : decode cX12_ask 41 = .ok (.goto 14, 3) := dc_167 (a := 0) (b := 14) (by decide +kernel) (by decide)
theorem dX12_ask_44 : decode cX12_ask 44 = .ok (.iload_n 2, 1) := dc_28 (by decide +kernel)
theorem dX12_ask_45 : decode cX12_ask 45 = .ok (.bipush 7, 2) := dc_16 (a := 7) (by decide +kernel) (by decide)
theorem dX12_ask_47 : decode cX12_ask 47 = .ok (.if_icmp .ne 7, 3) := dc_160 (a := 0) (b := 7) (by decide +kernel) (by decide)
theorem dX12_ask_50 : decode cX12_ask 50 = .ok (.iconst 4, 1) := dc_7 (by decide +kernel)
theorem dX12_ask_51 : decode cX12_ask 51 = .ok (.goto 4, 3) := dc_167 (a := 0) (b := 4) (by decide +kernel) (by decide)
theorem dX12_ask_54 : decode cX12_ask 54 = .ok (.iconst 0, 1) := dc_3 (by decide +kernel)
theorem dX12_ask_55 : decode cX12_ask 55 = .ok (.istore_n 3, 1) := dc_62 (by decide +kernel)
theorem dX12_ask_56 : decode cX12_ask 56 = .ok (.aload_n 0, 1) := dc_42 (by decide +kernel)
theorem dX12_ask_57 : decode cX12_ask 57 = .ok (.aload_n 0, 1) := dc_42 (by decide +kernel)
theorem dX12_ask_58 : decode cX12_ask 58 = .ok (.iload_n 1, 1) := dc_27 (by decide +kernel)
theorem dX12_ask_59 : decode cX12_ask 59 = .ok (.iload_n 3, 1) := dc_29 (by decide +kernel)
theorem dX12_ask_60 : decode cX12_ask 60 = .ok (.invokevirtual 293, 3) := dc_182 (a := 1) (b := 37) (by decide +kernel)
theorem dX12_ask_63 : decode cX12_ask 63 = .ok (.invokevirtual 236, 3) := dc_182 (a := 0) (b := 236) (by decide +kernel)
theorem dX12_ask_66 : decode cX12_ask 66 = .ok (.ifCond .eq 6, 3) := dc_153 (a := 0) (b := 6) (by decide +kernel) (by decide)
theorem dX12_ask_69 : decode cX12_ask 69 = .ok (.bipush (-2), 2) := dc_16 (a := 254) (by decide +kernel) (by decide)
theorem dX12_ask_71 : decode cX12_ask 71 = .ok (.ireturn, 1) := dc_172 (by decide +kernel)
theorem dX12_ask_72 : decode cX12_ask 72 = .ok (.iload_n 2, 1) := dc_28 (by decide +kernel)
theorem dX12_ask_73 : decode cX12_ask 73 = .ok (.tableswitch 126 0 6 #[43, 49, 55, 61, 87, 93, 100], 43) := by decide +kernel
theorem dX12_ask_116 : decode cX12_ask 116 = .ok (.aload_n 0, 1) := dc_42 (by decide +kernel)
theorem dX12_ask_117 : decode cX12_ask 117 = .ok (.iload_n 1, 1) := dc_27 (by decide +kernel)
theorem dX12_ask_118 : decode cX12_ask 118 = .ok (.invokevirtual 303, 3) := dc_182 (a := 1) (b := 47) (by decide +kernel)
theorem dX12_ask_121 : decode cX12_ask 121 = .ok (.ireturn, 1) := dc_172 (by decide +kernel)
theorem dX12_ask_122 : decode cX12_ask 122 = .ok (.aload_n 0, 1) := dc_42 (by decide +kernel)
theorem dX12_ask_123 : decode cX12_ask 123 = .ok (.iload_n 1, 1) := dc_27 (by decide +kernel)
theorem dX12_ask_124 : decode cX12_ask 124 = .ok (.invokevirtual 435, 3) := dc_182 (a := 1) (b := 179) (by decide +kernel)
theorem dX12_ask_127 : decode cX12_ask 127 = .ok (.ireturn, 1) := dc_172 (by decide +kernel)
theorem dX12_ask_128 : decode cX12_ask 128 = .ok (.aload_n 0, 1) := dc_42 (by decide +kernel)
theorem dX12_ask_129 : decode cX12_ask 129 = .ok (.iload_n 1, 1) := dc_27 (by decide +kernel)
theorem dX12_ask_130 : decode cX12_ask 130 = .ok (.invokevirtual 417, 3) := dc_182 (a := 1) (b := 161) (by decide +kernel)
theorem dX12_ask_133 : decode cX12_ask 133 = .ok (.ireturn, 1) := dc_172 (by decide +kernel)
theorem dX12_ask_134 : decode cX12_ask 134 = .ok (.aload_n 0, 1) := dc_42 (by decide +kernel)
theorem dX12_ask_135 : decode cX12_ask 135 = .ok (.iload_n 1, 1) := dc_27 (by decide +kernel)
theorem dX12_ask_136 : decode cX12_ask 136 = .ok (.invokevirtual 438, 3) := dc_182 (a := 1) (b := 182) (by decide +kernel)
theorem dX12_ask_139 : decode cX12_ask 139 = .ok (.istore 4, 2) := dc_54 (a := 4) (by decide +kernel)
theorem dX12_ask_141 : decode cX12_ask 141 = .ok (.aload_n 0, 1) := dc_42 (by decide +kernel)
theorem dX12_ask_142 : decode cX12_ask 142 = .ok (.getfield 306, 3) := dc_180 (a := 1) (b := 50) (by decide +kernel)
theorem dX12_ask_145 : decode cX12_ask 145 = .ok (.ifCond .eq 12, 3) := dc_153 (a := 0) (b := 12) (by decide +kernel) (by decide)
theorem dX12_ask_148 : decode cX12_ask 148 = .ok (.aload_n 0, 1) := dc_42 (by decide +kernel)
theorem dX12_ask_149 : decode cX12_ask 149 = .ok (.bipush 6, 2) := dc_16 (a := 6) (by decide +kernel) (by decide)
theorem dX12_ask_151 : decode cX12_ask 151 = .ok (.invokevirtual 210, 3) := dc_182 (a := 0) (b := 210) (by decide +kernel)
theorem dX12_ask_154 : decode cX12_ask 154 = .ok (.goto 5, 3) := dc_167 (a := 0) (b := 5) (by decide +kernel) (by decide)
theorem dX12_ask_157 : decode cX12_ask 157 = .ok (.iload 4, 2) := dc_21 (a := 4) (by decide +kernel)
theorem dX12_ask_159 : decode cX12_ask 159 = .ok (.ireturn, 1) := dc_172 (by decide +kernel)
theorem dX12_ask_160 : decode cX12_ask 160 = .ok (.aload_n 0, 1) := dc_42 (by decide +kernel)
theorem dX12_ask_161 : decode cX12_ask 161 = .ok (.iload_n 1, 1) := dc_27 (by decide +kernel)
theorem dX12_ask_162 : decode cX12_ask 162 = .ok (.invokevirtual 400, 3) := dc_182 (a := 1) (b := 144) (by decide +kernel)
theorem dX12_ask_165 : decode cX12_ask 165 = .ok (.ireturn, 1) := dc_172 (by decide +kernel)
theorem dX12_ask_166 : decode cX12_ask 166 = .ok (.aload_n 0, 1) := dc_42 (by decide +kernel)
theorem dX12_ask_167 : decode cX12_ask 167 = .ok (.getfield 96, 3) := dc_180 (a := 0) (b := 96) (by decide +kernel)
theorem dX12_ask_170 : decode cX12_ask 170 = .ok (.iload_n 1, 1) := dc_27 (by decide +kernel)
theorem dX12_ask_171 : decode cX12_ask 171 = .ok (.iaload, 1) := dc_46 (by decide +kernel)
theorem dX12_ask_172 : decode cX12_ask 172 = .ok (.ireturn, 1) := dc_172 (by decide +kernel)
theorem dX12_ask_173 : decode cX12_ask 173 = .ok (.aload_n 0, 1) := dc_42 (by decide +kernel)
theorem dX12_ask_174 : decode cX12_ask 174 = .ok (.getfield 120, 3) := dc_180 (a := 0) (b := 120) (by decide +kernel)
theorem dX12_ask_177 : decode cX12_ask 177 = .ok (.iload_n 1, 1) := dc_27 (by decide +kernel)
theorem dX12_ask_178 : decode cX12_ask 178 = .ok (.iaload, 1) := dc_46 (by decide +kernel)
theorem dX12_ask_179 : decode cX12_ask 179 = .ok (.bipush (-4), 2) := dc_16 (a := 252) (by decide +kernel) (by decide)
theorem dX12_ask_181 : decode cX12_ask 181 = .ok (.if_icmp .ne 11, 3) := dc_160 (a := 0) (b := 11) (by decide +kernel) (by decide)
theorem dX12_ask_184 : decode cX12_ask 184 = .ok (.aload_n 0, 1) := dc_42 (by decide +kernel)
theorem dX12_ask_185 : decode cX12_ask 185 = .ok (.iconst 1, 1) := dc_4 (by decide +kernel)
theorem dX12_ask_186 : decode cX12_ask 186 = .ok (.invokevirtual 210, 3) := dc_182 (a := 0) (b := 210) (by decide +kernel)
theorem dX12_ask_189 : decode cX12_ask 189 = .ok (.goto 9, 3) := dc_167 (a := 0) (b := 9) (by decide +kernel) (by decide)
theorem dX12_ask_192 : decode cX12_ask 192 = .ok (.aload_n 0, 1) := dc_42 (by decide +kernel)
theorem dX12_ask_193 : decode cX12_ask 193 = .ok (.getfield 120, 3) := dc_180 (a := 0) (b := 120) (by decide +kernel)
theorem dX12_ask_196 : decode cX12_ask 196 = .ok (.iload_n 1, 1) := dc_27 (by decide +kernel)
theorem dX12_ask_197 : decode cX12_ask 197 = .ok (.iaload, 1) := dc_46 (by decide +kernel)
theorem dX12_ask_198 : decode cX12_ask 198 = .ok (.ireturn, 1) := dc_172 (by decide +kernel)
theorem dX12_ask_199 : decode cX12_ask 199 = .ok (.aload_n 0, 1) := dc_42 (by decide +kernel)
theorem dX12_ask_200 : decode cX12_ask 200 = .ok (.getfield 99, 3) := dc_180 (a := 0) (b := 99) (by decide +kernel)
theorem dX12_ask_203 : decode cX12_ask 203 = .ok (.iload_n 1, 1) := dc_27 (by decide +kernel)
theorem dX12_ask_204 : decode cX12_ask 204 = .ok (.iaload, 1) := dc_46 (by decide +kernel)
theorem dX12_ask_205 : decode cX12_ask 205 = .ok (.ireturn, 1) := dc_172 (by decide +kernel)
set_option maxRecDepth 100000 in
set_option maxHeartbeats 4000000 in
theorem w_M_ask_j55 {p : Program} {l : Launch} {e : Env} {R : Room} {s : State} {m : MethodId} {args : Array Value} {below : List Frame} {meth : Method} {c : Code} {dC : Nat → ClassId} {dI : Nat → Nat → Nat} {cs : Nat → ClassId} {ad : Nat → Nat} {A : Nat → Prop} {D0 : Nat → Nat} {S' : SS} {r : Int32} (F : Fx p s m args meth c cX12_ask 5 RX12 (some .int) dC dI cs A) (hR1 : 3 ≤ R.frames) (hR2 : 67 ≤ R.locals) (x1 : Int32) (x2 : Int32) (y0 : Int32) (S : SS) (h : f_M_ask_j55 x1 x2 y0 S = some (r, S')) : AW p l e R s m args below meth c dC dI cs ad A D0 (some (.int r)) S' 5 55 [(0, .ref (ad 0)), (1, .int x1), (2, .int x2)] [.int y0] S := by
  have hx := F.1.1
  have hb := F.1.2.1
  intro H locs ls w hl
  rw [f_M_ask_j55] at h
  refine lv_istore_n (pc := 55) (lv' := [(3, .int y0), (0, .ref (ad 0)), (1, .int x1), (2, .int x2)]) hx hb dX12_ask_55 rfl hl (by decide) rfl (fun ls hl => ?_)
  refine lv_aload_n (pc := 56) hx hb dX12_ask_56 rfl (lv_at hl 1 rfl) ?_
  refine lv_aload_n (pc := 57) hx hb dX12_ask_57 rfl (lv_at hl 1 rfl) ?_
  refine lv_iload_n (pc := 58) hx hb dX12_ask_58 rfl (lv_at hl 2 rfl) ?_
  refine lv_iload_n (pc := 59) hx hb dX12_ask_59 rfl (lv_at hl 0 rfl) ?_
  obtain ⟨r3, S2, hc, h⟩ := bnd_t h
  refine s_cvi (pc := 60) [.int x1, .int y0] (fun ad => [.ref (ad 0), .int x1, .int y0]) F w (m_M_missThing _ _ _ _ _ hc) rfl rfl hl.1 ds_0 vc_X12 rfl ok_X12_missThing rfl kc_X12_missThing kl_X12_293 ki_X12_missThing kv_X12_missThing kn_X12 ⟨Nat.le_trans (by decide) hR1, Nat.le_trans (by decide) hR2⟩ ⟨Nat.zero_le _, Nat.zero_le _⟩ (Nat.le_of_ble_eq_true rfl) dX12_ask_60 (fun H locs w => ?_)
  obtain ⟨r5, S4, hc, h⟩ := bnd_t h
  refine s_cvi (pc := 63) [.int r3] (fun ad => [.ref (ad 0), .int r3]) F w (m_M_ends _ _ _ _ hc) rfl rfl hl.1 ds_0 vc_X12 rfl ok_X12_ends rfl kc_X12_ends kl_X12_236 ki_X12_ends kv_X12_ends kn_X12 ⟨Nat.le_trans (by decide) hR1, Nat.le_trans (by decide) hR2⟩ ⟨Nat.zero_le _, Nat.zero_le _⟩ (Nat.le_of_ble_eq_true rfl) dX12_ask_63 (fun H locs w => ?_)
  refine lv_if_eq (pc := 66) (tgt := 72) hx hb dX12_ask_66 (by decide) (fun q => ?_) (fun q => ?_)
  · have h := ite_t q h
    refine lv_iload_n (pc := 72) hx hb dX12_ask_72 rfl (lv_at hl 3 rfl) ?_
    rcases Decidable.em (x2 = (0 : Int32)) with q0 | q0
    · refine lv_tableIn (pc := 73) (tgt := 116) (off := 43) hx hb dX12_ask_73 (by rw [q0]; decide) (by rw [q0]; decide) (by rw [q0]; rfl) (by decide) ?_
      have h := ite_t q0 h
      refine lv_aload_n (pc := 116) hx hb dX12_ask_116 rfl (lv_at hl 1 rfl) ?_
      refine lv_iload_n (pc := 117) hx hb dX12_ask_117 rfl (lv_at hl 2 rfl) ?_
      obtain ⟨r7, S6, hc, h⟩ := bnd_t h
      refine s_cvi (pc := 118) [.int x1] (fun ad => [.ref (ad 0), .int x1]) F w (m_M_weight _ _ _ _ hc) rfl rfl hl.1 ds_0 vc_X12 rfl ok_X12_weight rfl kc_X12_weight kl_X12_303 ki_X12_weight kv_X12_weight kn_X12 ⟨Nat.le_trans (by decide) hR1, Nat.le_trans (by decide) hR2⟩ ⟨Nat.zero_le _, Nat.zero_le _⟩ (Nat.le_of_ble_eq_true rfl) dX12_ask_118 (fun H locs w => ?_)
      exact s_iret F w h dX12_ask_121
    have h := ite_f q0 h
    rcases Decidable.em (x2 = (1 : Int32)) with q1 | q1
    · refine lv_tableIn (pc := 73) (tgt := 122) (off := 49) hx hb dX12_ask_73 (by rw [q1]; decide) (by rw [q1]; decide) (by rw [q1]; rfl) (by decide) ?_
      have h := ite_t q1 h
      refine lv_aload_n (pc := 122) hx hb dX12_ask_122 rfl (lv_at hl 1 rfl) ?_
      refine lv_iload_n (pc := 123) hx hb dX12_ask_123 rfl (lv_at hl 2 rfl) ?_
      obtain ⟨r9, S8, hc, h⟩ := bnd_t h
      refine s_cvi (pc := 124) [.int x1] (fun ad => [.ref (ad 0), .int x1]) F w (m_M_brake _ _ _ _ hc) rfl rfl hl.1 ds_0 vc_X12 rfl ok_X12_brake rfl kc_X12_brake kl_X12_435 ki_X12_brake kv_X12_brake kn_X12 ⟨Nat.le_trans (by decide) hR1, Nat.le_trans (by decide) hR2⟩ ⟨Nat.zero_le _, Nat.zero_le _⟩ (Nat.le_of_ble_eq_true rfl) dX12_ask_124 (fun H locs w => ?_)
      exact s_iret F w h dX12_ask_127
    have h := ite_f q1 h
    rcases Decidable.em (x2 = (2 : Int32)) with q2 | q2
    · refine lv_tableIn (pc := 73) (tgt := 128) (off := 55) hx hb dX12_ask_73 (by rw [q2]; decide) (by rw [q2]; decide) (by rw [q2]; rfl) (by decide) ?_
      have h := ite_t q2 h
      refine lv_aload_n (pc := 128) hx hb dX12_ask_128 rfl (lv_at hl 1 rfl) ?_
      refine lv_iload_n (pc := 129) hx hb dX12_ask_129 rfl (lv_at hl 2 rfl) ?_
      obtain ⟨r11, S10, hc, h⟩ := bnd_t h
      refine s_cvi (pc := 130) [.int x1] (fun ad => [.ref (ad 0), .int x1]) F w (m_M_heavy _ _ _ _ hc) rfl rfl hl.1 ds_0 vc_X12 rfl ok_X12_heavy rfl kc_X12_heavy kl_X12_417 ki_X12_heavy kv_X12_heavy kn_X12 ⟨Nat.le_trans (by decide) hR1, Nat.le_trans (by decide) hR2⟩ ⟨Nat.zero_le _, Nat.zero_le _⟩ (Nat.le_of_ble_eq_true rfl) dX12_ask_130 (fun H locs w => ?_)
      exact s_iret F w h dX12_ask_133
    have h := ite_f q2 h
    rcases Decidable.em (x2 = (3 : Int32)) with q3 | q3
    · refine lv_tableIn (pc := 73) (tgt := 134) (off := 61) hx hb dX12_ask_73 (by rw [q3]; decide) (by rw [q3]; decide) (by rw [q3]; rfl) (by decide) ?_
      have h := ite_t q3 h
      refine lv_aload_n (pc := 134) hx hb dX12_ask_134 rfl (lv_at hl 1 rfl) ?_
      refine lv_iload_n (pc := 135) hx hb dX12_ask_135 rfl (lv_at hl 2 rfl) ?_
      obtain ⟨r13, S12, hc, h⟩ := bnd_t h
      refine s_cvi (pc := 136) [.int x1] (fun ad => [.ref (ad 0), .int x1]) F w (m_M_perAxle _ _ _ _ hc) rfl rfl hl.1 ds_0 vc_X12 rfl ok_X12_perAxle rfl kc_X12_perAxle kl_X12_438 ki_X12_perAxle kv_X12_perAxle kn_X12 ⟨Nat.le_trans (by decide) hR1, Nat.le_trans (by decide) hR2⟩ ⟨Nat.zero_le _, Nat.zero_le _⟩ (Nat.le_of_ble_eq_true rfl) dX12_ask_136 (fun H locs w => ?_)
      refine lv_istore (pc := 139) (lv' := [(4, .int r13), (3, .int y0), (0, .ref (ad 0)), (1, .int x1), (2, .int x2)]) hx hb dX12_ask_139 hl (by decide) rfl (fun ls hl => ?_)
      refine lv_aload_n (pc := 141) hx hb dX12_ask_141 rfl (lv_at hl 2 rfl) ?_
      refine s_getI (pc := 142) F w ds_0 (j := 54) vc_X12 vi_X12 rfl (by decide) kf_X12_306 dX12_ask_142 ?_
      refine lv_if_eq (pc := 145) (tgt := 157) hx hb dX12_ask_145 (by decide) (fun q => ?_) (fun q => ?_)
      · have h := ite_t q h
        refine lv_iload (pc := 157) hx hb dX12_ask_157 (lv_at hl 0 rfl) ?_
        exact s_iret F w h dX12_ask_159
      · have h := ite_f q h
        refine lv_aload_n (pc := 148) hx hb dX12_ask_148 rfl (lv_at hl 2 rfl) ?_
        refine lv_bipush (pc := 149) (v := 6) hx hb dX12_ask_149 (by decide) ?_
        obtain ⟨r15, S14, hc, h⟩ := bnd_t h
        refine s_cvi (pc := 151) [.int (6 : Int32)] (fun ad => [.ref (ad 0), .int (6 : Int32)]) F w (m_M_found _ _ _ _ hc) rfl rfl hl.1 ds_0 vc_X12 rfl ok_X12_found rfl kc_X12_found kl_X12_210 ki_X12_found kv_X12_found kn_X12 ⟨Nat.le_trans (by decide) hR1, Nat.le_trans (by decide) hR2⟩ ⟨Nat.zero_le _, Nat.zero_le _⟩ (Nat.le_of_ble_eq_true rfl) dX12_ask_151 (fun H locs w => ?_)
        refine lv_goto (pc := 154) (tgt := 159) hx hb dX12_ask_154 (by decide) ?_
        exact s_iret F w h dX12_ask_159
    have h := ite_f q3 h
    rcases Decidable.em (x2 = (4 : Int32)) with q4 | q4
    · refine lv_tableIn (pc := 73) (tgt := 160) (off := 87) hx hb dX12_ask_73 (by rw [q4]; decide) (by rw [q4]; decide) (by rw [q4]; rfl) (by decide) ?_
      have h := ite_t q4 h
      refine lv_aload_n (pc := 160) hx hb dX12_ask_160 rfl (lv_at hl 1 rfl) ?_
      refine lv_iload_n (pc := 161) hx hb dX12_ask_161 rfl (lv_at hl 2 rfl) ?_
      obtain ⟨r17, S16, hc, h⟩ := bnd_t h
      refine s_cvi (pc := 162) [.int x1] (fun ad => [.ref (ad 0), .int x1]) F w (m_M_pulls _ _ _ _ hc) rfl rfl hl.1 ds_0 vc_X12 rfl ok_X12_pulls rfl kc_X12_pulls kl_X12_400 ki_X12_pulls kv_X12_pulls kn_X12 ⟨Nat.le_trans (by decide) hR1, Nat.le_trans (by decide) hR2⟩ ⟨Nat.zero_le _, Nat.zero_le _⟩ (Nat.le_of_ble_eq_true rfl) dX12_ask_162 (fun H locs w => ?_)
      exact s_iret F w h dX12_ask_165
    have h := ite_f q4 h
    rcases Decidable.em (x2 = (5 : Int32)) with q5 | q5
    · refine lv_tableIn (pc := 73) (tgt := 166) (off := 93) hx hb dX12_ask_73 (by rw [q5]; decide) (by rw [q5]; decide) (by rw [q5]; rfl) (by decide) ?_
      have h := ite_t q5 h
      refine lv_aload_n (pc := 166) hx hb dX12_ask_166 rfl (lv_at hl 1 rfl) ?_
      refine s_getR (pc := 167) F w 27 ds_0 (j := 39) vc_X12 vi_X12 rfl (by decide) kf_X12_96 dX12_ask_167 ?_
      refine lv_iload_n (pc := 170) hx hb dX12_ask_170 rfl (lv_at hl 2 rfl) ?_
      refine s_iald (pc := 171) F w ds_27 h dX12_ask_171 (fun h => ?_)
      exact s_iret F w h dX12_ask_172
    have h := ite_f q5 h
    rcases Decidable.em (x2 = (6 : Int32)) with q6 | q6
    · refine lv_tableIn (pc := 73) (tgt := 173) (off := 100) hx hb dX12_ask_73 (by rw [q6]; decide) (by rw [q6]; decide) (by rw [q6]; rfl) (by decide) ?_
      have h := ite_t q6 h
      refine lv_aload_n (pc := 173) hx hb dX12_ask_173 rfl (lv_at hl 1 rfl) ?_
      refine s_getR (pc := 174) F w 35 ds_0 (j := 50) vc_X12 vi_X12 rfl (by decide) kf_X12_120 dX12_ask_174 ?_
      refine lv_iload_n (pc := 177) hx hb dX12_ask_177 rfl (lv_at hl 2 rfl) ?_
      refine s_iald (pc := 178) F w ds_35 h dX12_ask_178 (fun h => ?_)
      refine lv_bipush (pc := 179) (v := -4) hx hb dX12_ask_179 (by decide) ?_
      refine lv_icmp_ne (pc := 181) (tgt := 192) hx hb dX12_ask_181 (by decide) (fun q => ?_) (fun q => ?_)
      · have h := ite_f q h
        refine lv_aload_n (pc := 192) hx hb dX12_ask_192 rfl (lv_at hl 1 rfl) ?_
        refine s_getR (pc := 193) F w 35 ds_0 (j := 50) vc_X12 vi_X12 rfl (by decide) kf_X12_120 dX12_ask_193 ?_
        refine lv_iload_n (pc := 196) hx hb dX12_ask_196 rfl (lv_at hl 2 rfl) ?_
        refine s_iald (pc := 197) F w ds_35 h dX12_ask_197 (fun h => ?_)
        exact s_iret F w h dX12_ask_198
      · have h := ite_t q h
        refine lv_aload_n (pc := 184) hx hb dX12_ask_184 rfl (lv_at hl 1 rfl) ?_
        refine lv_iconst (pc := 185) (v := 1) hx hb dX12_ask_185 (by decide) ?_
        obtain ⟨r19, S18, hc, h⟩ := bnd_t h
        refine s_cvi (pc := 186) [.int (1 : Int32)] (fun ad => [.ref (ad 0), .int (1 : Int32)]) F w (m_M_found _ _ _ _ hc) rfl rfl hl.1 ds_0 vc_X12 rfl ok_X12_found rfl kc_X12_found kl_X12_210 ki_X12_found kv_X12_found kn_X12 ⟨Nat.le_trans (by decide) hR1, Nat.le_trans (by decide) hR2⟩ ⟨Nat.zero_le _, Nat.zero_le _⟩ (Nat.le_of_ble_eq_true rfl) dX12_ask_186 (fun H locs w => ?_)
        refine lv_goto (pc := 189) (tgt := 198) hx hb dX12_ask_189 (by decide) ?_
        exact s_iret F w h dX12_ask_198
    have h := ite_f q6 h
    refine lv_tableOut (pc := 73) (tgt := 199) hx hb dX12_ask_73 (by have zq0 := i32ne q0 (show ((0 : Int32)).toInt = 0 by decide); have zq1 := i32ne q1 (show ((1 : Int32)).toInt = 1 by decide); have zq2 := i32ne q2 (show ((2 : Int32)).toInt = 2 by decide); have zq3 := i32ne q3 (show ((3 : Int32)).toInt = 3 by decide); have zq4 := i32ne q4 (show ((4 : Int32)).toInt = 4 by decide); have zq5 := i32ne q5 (show ((5 : Int32)).toInt = 5 by decide); have zq6 := i32ne q6 (show ((6 : Int32)).toInt = 6 by decide); omega) (by decide) ?_
    refine lv_aload_n (pc := 199) hx hb dX12_ask_199 rfl (lv_at hl 1 rfl) ?_
    refine s_getR (pc := 200) F w 28 ds_0 (j := 40) vc_X12 vi_X12 rfl (by decide) kf_X12_99 dX12_ask_200 ?_
    refine lv_iload_n (pc := 203) hx hb dX12_ask_203 rfl (lv_at hl 2 rfl) ?_
    refine s_iald (pc := 204) F w ds_28 h dX12_ask_204 (fun h => ?_)
    exact s_iret F w h dX12_ask_205
  · have h := ite_f q h
    refine lv_bipush (pc := 69) (v := -2) hx hb dX12_ask_69 (by decide) ?_
    exact s_iret F w h dX12_ask_71
set_option maxRecDepth 100000 in
set_option maxHeartbeats 4000000 in
theorem m_M_ask (a1 : Int32) (a2 : Int32) (S S' : SS) (r : Int32) (h : f_M_ask a1 a2 S = some (r, S')) : MT yX12_ask cX12_ask 5 (some .int) 3 67 (fun ad => [.ref (ad 0), .int a1, .int a2]) S (some (.int r)) S' := by
  refine MT.of RX12 (fun ad => [(0, .ref (ad 0)), (1, .int a1), (2, .int a2)]) (by decide) rfl (fun _ => Nat.le_of_ble_eq_true rfl) (fun _ => rfl) ?_
  intro p l e R s m args below meth c dC dI cs ad A hR1 hR2 F H locs ls w hl
  have hx := F.1.1
  have hb := F.1.2.1
  rw [f_M_ask] at h
  refine lv_iload_n (pc := 0) hx hb dX12_ask_0 rfl (lv_at hl 2 rfl) ?_
  refine lv_if_lt (pc := 1) (tgt := 10) hx hb dX12_ask_1 (by decide) (fun q => ?_) (fun q => ?_)
  · have h := ite_t q h
    refine lv_iconst (pc := 10) (v := -1) hx hb dX12_ask_10 (by decide) ?_
    exact s_iret F w h dX12_ask_11
  · have h := ite_f q h
    refine lv_iload_n (pc := 4) hx hb dX12_ask_4 rfl (lv_at hl 2 rfl) ?_
    refine lv_bipush (pc := 5) (v := 7) hx hb dX12_ask_5 (by decide) ?_
    refine lv_icmp_le (pc := 7) (tgt := 12) hx hb dX12_ask_7 (by decide) (fun q => ?_) (fun q => ?_)
    · have h := ite_t q h
      refine lv_aload_n (pc := 12) hx hb dX12_ask_12 rfl (lv_at hl 0 rfl) ?_
      obtain ⟨S1, hc, h⟩ := bndv_t h
      refine s_cvv (pc := 13) [] (fun ad => [.ref (ad 0)]) F w (m_M_begin  _ _ hc) rfl rfl hl.1 ds_0 vc_X12 rfl ok_X12_begin rfl kc_X12_begin kl_X12_226 ki_X12_begin kv_X12_begin kn_X12 ⟨Nat.le_trans (by decide) hR1, Nat.le_trans (by decide) hR2⟩ ⟨Nat.zero_le _, Nat.zero_le _⟩ (Nat.le_of_ble_eq_true rfl) dX12_ask_13 (fun H locs w => ?_)
      refine lv_iload_n (pc := 16) hx hb dX12_ask_16 rfl (lv_at hl 2 rfl) ?_
      refine lv_iconst (pc := 17) (v := 4) hx hb dX12_ask_17 (by decide) ?_
      refine lv_icmp_ne (pc := 18) (tgt := 25) hx hb dX12_ask_18 (by decide) (fun q => ?_) (fun q => ?_)
      · have h := ite_f q h
        refine lv_iload_n (pc := 25) hx hb dX12_ask_25 rfl (lv_at hl 2 rfl) ?_
        refine lv_iconst (pc := 26) (v := 5) hx hb dX12_ask_26 (by decide) ?_
        refine lv_icmp_ne (pc := 27) (tgt := 34) hx hb dX12_ask_27 (by decide) (fun q => ?_) (fun q => ?_)
        · have h := ite_f q h
          refine lv_iload_n (pc := 34) hx hb dX12_ask_34 rfl (lv_at hl 2 rfl) ?_
          refine lv_bipush (pc := 35) (v := 6) hx hb dX12_ask_35 (by decide) ?_
          refine lv_icmp_ne (pc := 37) (tgt := 44) hx hb dX12_ask_37 (by decide) (fun q => ?_) (fun q => ?_)
          · have h := ite_f q h
            refine lv_iload_n (pc := 44) hx hb dX12_ask_44 rfl (lv_at hl 2 rfl) ?_
            refine lv_bipush (pc := 45) (v := 7) hx hb dX12_ask_45 (by decide) ?_
            refine lv_icmp_ne (pc := 47) (tgt := 54) hx hb dX12_ask_47 (by decide) (fun q => ?_) (fun q => ?_)
            · have h := ite_f q h
              refine lv_iconst (pc := 54) (v := 0) hx hb dX12_ask_54 (by decide) ?_
              exact w_M_ask_j55 F (Nat.le_trans (by decide) hR1) (Nat.le_trans (by decide) hR2) _ _ _ _ h _ _ _ w (lv_sub hl [0, 1, 2] rfl)
            · have h := ite_t q h
              refine lv_iconst (pc := 50) (v := 4) hx hb dX12_ask_50 (by decide) ?_
              refine lv_goto (pc := 51) (tgt := 55) hx hb dX12_ask_51 (by decide) ?_
              exact w_M_ask_j55 F (Nat.le_trans (by decide) hR1) (Nat.le_trans (by decide) hR2) _ _ _ _ h _ _ _ w (lv_sub hl [0, 1, 2] rfl)
          · have h := ite_t q h
            refine lv_iconst (pc := 40) (v := 3) hx hb dX12_ask_40 (by decide) ?_
            refine lv_goto (pc := 41) (tgt := 55) hx hb dX12_ask_41 (by decide) ?_
            exact w_M_ask_j55 F (Nat.le_trans (by decide) hR1) (Nat.le_trans (by decide) hR2) _ _ _ _ h _ _ _ w (lv_sub hl [0, 1, 2] rfl)
        · have h := ite_t q h
          refine lv_iconst (pc := 30) (v := 1) hx hb dX12_ask_30 (by decide) ?_
          refine lv_goto (pc := 31) (tgt := 55) hx hb dX12_ask_31 (by decide) ?_
          exact w_M_ask_j55 F (Nat.le_trans (by decide) hR1) (Nat.le_trans (by decide) hR2) _ _ _ _ h _ _ _ w (lv_sub hl [0, 1, 2] rfl)
      · have h := ite_t q h
        refine lv_iconst (pc := 21) (v := 2) hx hb dX12_ask_21 (by decide) ?_
        refine lv_goto (pc := 22) (tgt := 55) hx hb dX12_ask_22 (by decide) ?_
        exact w_M_ask_j55 F (Nat.le_trans (by decide) hR1) (Nat.le_trans (by decide) hR2) _ _ _ _ h _ _ _ w (lv_sub hl [0, 1, 2] rfl)
    · have h := ite_f q h
      refine lv_iconst (pc := 10) (v := -1) hx hb dX12_ask_10 (by decide) ?_
      exact s_iret F w h dX12_ask_11
def f_M_meet_L42  : Nat → Int32 → Int32 → Int32 → Int32 → SS → Option (Int32 × SS)
  | 0, _, _, _, _, _ => none
  | n + 1, x3, x4, x5, x6, S =>
    if x3 ≤ x6 then
      some (x4, S)
    else
      grd (inb (((2 : Int32) * x4) + x5) 144) (
      nm (S.1 23 (((2 : Int32) * x4) + x5).toNatClampNeg) (fun z6 =>
      if z6 = (-4 : Int32) then
        bnd (f_M_found (1 : Int32) S) (fun r12 S11 =>
        some (r12, S11))
      else
        bnd (f_M_sideTo z6 x4 S) (fun r8 S7 =>
        nm ((1 : Int32) - r8) (fun z9 =>
        nm (x6 + (1 : Int32)) (fun z10 =>
        f_M_meet_L42 n x3 z6 z9 z10 S7)))))
def f_M_meet (a1 : Int32) (a2 : Int32) (a3 : Int32) (S : SS) : Option (Int32 × SS) :=
  if a3 < 0 then
    some ((-1 : Int32), S)
  else
    if a3 ≤ (100 : Int32) then
      bndv (f_M_begin  S) (fun S1 =>
      bnd (f_M_missSide a1 (0 : Int32) a2 S1) (fun r3 S2 =>
      bnd (f_M_ends r3 S2) (fun r5 S4 =>
      if r5 = 0 then
        f_M_meet_L42 NF a3 a1 a2 (0 : Int32) S4
      else
        some ((-2 : Int32), S4))))
    else
      some ((-1 : Int32), S)
theorem dX12_meet_0 : decode cX12_meet 0 = .ok (.iload_n 3, 1) := dc_29 (by decide +kernel)
theorem dX12_meet_1 : decode cX12_meet 1 = .ok (.ifCond .lt 9, 3) := dc_155 (a := 0) (b := 9) (by decide +kernel) (by decide)
theorem dX12_meet_4 : decode cX12_meet 4 = .ok (.iload_n 3, 1) := dc_29 (by decide +kernel)
theorem dX12_meet_5 : decode cX12_meet 5 = .ok (.bipush 100, 2) := dc_16 (a := 100) (by decide +kernel) (by decide)
theorem dX12_meet_7 : decode cX12_meet 7 = .ok (.if_icmp .le 5, 3) := dc_164 (a := 0) (b := 5) (by decide +kernel) (by decide)
theorem dX12_meet_10 : decode cX12_meet 10 = .ok (.iconst (-1), 1) := dc_2 (by decide +kernel)
theorem dX12_meet_11 : decode cX12_meet 11 = .ok (.ireturn, 1) := dc_172 (by decide +kernel)
theorem dX12_meet_12 : decode cX12_meet 12 = .ok (.aload_n 0, 1) := dc_42 (by decide +kernel)
theorem dX12_meet_13 : decode cX12_meet 13 = .ok (.invokevirtual 226, 3) := dc_182 (a := 0) (b := 226) (by decide +kernel)
theorem dX12_meet_16 : decode cX12_meet 16 = .ok (.aload_n 0, 1) := dc_42 (by decide +kernel)
theorem dX12_meet_17 : decode cX12_meet 17 = .ok (.aload_n 0, 1) := dc_42 (by decide +kernel)
theorem dX12_meet_18 : decode cX12_meet 18 = .ok (.iload_n 1, 1) := dc_27 (by decide +kernel)
theorem dX12_meet_19 : decode cX12_meet 19 = .ok (.iconst 0, 1) := dc_3 (by decide +kernel)
theorem dX12_meet_20 : decode cX12_meet 20 = .ok (.iload_n 2, 1) := dc_28 (by decide +kernel)
theorem dX12_meet_21 : decode cX12_meet 21 = .ok (.invokevirtual 364, 3) := dc_182 (a := 1) (b := 108) (by decide +kernel)
theorem dX12_meet_24 : decode cX12_meet 24 = .ok (.invokevirtual 236, 3) := dc_182 (a := 0) (b := 236) (by decide +kernel)
theorem dX12_meet_27 : decode cX12_meet 27 = .ok (.ifCond .eq 6, 3) := dc_153 (a := 0) (b := 6) (by decide +kernel) (by decide)
theorem dX12_meet_30 : decode cX12_meet 30 = .ok (.bipush (-2), 2) := dc_16 (a := 254) (by decide +kernel) (by decide)
theorem dX12_meet_32 : decode cX12_meet 32 = .ok (.ireturn, 1) := dc_172 (by decide +kernel)
theorem dX12_meet_33 : decode cX12_meet 33 = .ok (.iload_n 1, 1) := dc_27 (by decide +kernel)
theorem dX12_meet_34 : decode cX12_meet 34 = .ok (.istore 4, 2) := dc_54 (a := 4) (by decide +kernel)
theorem dX12_meet_36 : decode cX12_meet 36 = .ok (.iload_n 2, 1) := dc_28 (by decide +kernel)
theorem dX12_meet_37 : decode cX12_meet 37 = .ok (.istore 5, 2) := dc_54 (a := 5) (by decide +kernel)
theorem dX12_meet_39 : decode cX12_meet 39 = .ok (.iconst 0, 1) := dc_3 (by decide +kernel)
theorem dX12_meet_40 : decode cX12_meet 40 = .ok (.istore 6, 2) := dc_54 (a := 6) (by decide +kernel)
theorem dX12_meet_42 : decode cX12_meet 42 = .ok (.iload 6, 2) := dc_21 (a := 6) (by decide +kernel)
theorem dX12_meet_44 : decode cX12_meet 44 = .ok (.iload_n 3, 1) := dc_29 (by decide +kernel)
theorem dX12_meet_45 : decode cX12_meet 45 = .ok (.if_icmp .ge 52, 3) := dc_162 (a := 0) (b := 52) (by decide +kernel) (by decide)
theorem dX12_meet_48 : decode cX12_meet 48 = .ok (.aload_n 0, 1) := dc_42 (by decide +kernel)
theorem dX12_meet_49 : decode cX12_meet 49 = .ok (.getfield 84, 3) := dc_180 (a := 0) (b := 84) (by decide +kernel)
theorem dX12_meet_52 : decode cX12_meet 52 = .ok (.iconst 2, 1) := dc_5 (by decide +kernel)
theorem dX12_meet_53 : decode cX12_meet 53 = .ok (.iload 4, 2) := dc_21 (a := 4) (by decide +kernel)
theorem dX12_meet_55 : decode cX12_meet 55 = .ok (.imul, 1) := dc_104 (by decide +kernel)
theorem dX12_meet_56 : decode cX12_meet 56 = .ok (.iload 5, 2) := dc_21 (a := 5) (by decide +kernel)
theorem dX12_meet_58 : decode cX12_meet 58 = .ok (.iadd, 1) := dc_96 (by decide +kernel)
theorem dX12_meet_59 : decode cX12_meet 59 = .ok (.iaload, 1) := dc_46 (by decide +kernel)
theorem dX12_meet_60 : decode cX12_meet 60 = .ok (.istore 7, 2) := dc_54 (a := 7) (by decide +kernel)
theorem dX12_meet_62 : decode cX12_meet 62 = .ok (.iload 7, 2) := dc_21 (a := 7) (by decide +kernel)
theorem dX12_meet_64 : decode cX12_meet 64 = .ok (.bipush (-4), 2) := dc_16 (a := 252) (by decide +kernel) (by decide)
theorem dX12_meet_66 : decode cX12_meet 66 = .ok (.if_icmp .ne 9, 3) := dc_160 (a := 0) (b := 9) (by decide +kernel) (by decide)
theorem dX12_meet_69 : decode cX12_meet 69 = .ok (.aload_n 0, 1) := dc_42 (by decide +kernel)
theorem dX12_meet_70 : decode cX12_meet 70 = .ok (.iconst 1, 1) := dc_4 (by decide +kernel)
theorem dX12_meet_71 : decode cX12_meet 71 = .ok (.invokevirtual 210, 3) := dc_182 (a := 0) (b := 210) (by decide +kernel)
theorem dX12_meet_74 : decode cX12_meet 74 = .ok (.ireturn, 1) := dc_172 (by decide +kernel)
theorem dX12_meet_75 : decode cX12_meet 75 = .ok (.iconst 1, 1) := dc_4 (by decide +kernel)
theorem dX12_meet_76 : decode cX12_meet 76 = .ok (.aload_n 0, 1) := dc_42 (by decide +kernel)
theorem dX12_meet_77 : decode cX12_meet 77 = .ok (.iload 7, 2) := dc_21 (a := 7) (by decide +kernel)
theorem dX12_meet_79 : decode cX12_meet 79 = .ok (.iload 4, 2) := dc_21 (a := 4) (by decide +kernel)
theorem dX12_meet_81 : decode cX12_meet 81 = .ok (.invokevirtual 313, 3) := dc_182 (a := 1) (b := 57) (by decide +kernel)
theorem dX12_meet_84 : decode cX12_meet 84 = .ok (.isub, 1) := dc_100 (by decide +kernel)
theorem dX12_meet_85 : decode cX12_meet 85 = .ok (.istore 5, 2) := dc_54 (a := 5) (by decide +kernel)
theorem dX12_meet_87 : decode cX12_meet 87 = .ok (.iload 7, 2) := dc_21 (a := 7) (by decide +kernel)
theorem dX12_meet_89 : decode cX12_meet 89 = .ok (.istore 4, 2) := dc_54 (a := 4) (by decide +kernel)
theorem dX12_meet_91 : decode cX12_meet 91 = .ok (.iinc 6 1, 3) := dc_132 (a := 6) (b := 1) (by decide +kernel) (by decide)
theorem dX12_meet_94 : decode cX12_meet 94 = .ok (.goto (-52), 3) := dc_167 (a := 255) (b := 204) (by decide +kernel) (by decide)
theorem dX12_meet_97 : decode cX12_meet 97 = .ok (.iload 4, 2) := dc_21 (a := 4) (by decide +kernel)
theorem dX12_meet_99 : decode cX12_meet 99 = .ok (.ireturn, 1) := dc_172 (by decide +kernel)
set_option maxRecDepth 100000 in
set_option maxHeartbeats 4000000 in
theorem w_M_meet_L42 {p : Program} {l : Launch} {e : Env} {R : Room} {s : State} {m : MethodId} {args : Array Value} {below : List Frame} {meth : Method} {c : Code} {dC : Nat → ClassId} {dI : Nat → Nat → Nat} {cs : Nat → ClassId} {ad : Nat → Nat} {A : Nat → Prop} {D0 : Nat → Nat} {S' : SS} {r : Int32} (F : Fx p s m args meth c cX12_meet 8 RX12 (some .int) dC dI cs A) (hR1 : 1 ≤ R.frames) (hR2 : 22 ≤ R.locals) : ∀ (n : Nat) (x3 : Int32) (x4 : Int32) (x5 : Int32) (x6 : Int32) (S : SS), f_M_meet_L42 n x3 x4 x5 x6 S = some (r, S') → AW p l e R s m args below meth c dC dI cs ad A D0 (some (.int r)) S' 8 42 [(0, .ref (ad 0)), (3, .int x3), (4, .int x4), (5, .int x5), (6, .int x6)] [] S := by
  have hx := F.1.1
  have hb := F.1.2.1
  intro n
  induction n with
  | zero => intro x3 x4 x5 x6 S h; cases h
  | succ n ih =>
    intro x3 x4 x5 x6 S h H locs ls w hl
    rw [f_M_meet_L42] at h
    refine lv_iload (pc := 42) hx hb dX12_meet_42 (lv_at hl 4 rfl) ?_
    refine lv_iload_n (pc := 44) hx hb dX12_meet_44 rfl (lv_at hl 1 rfl) ?_
    refine lv_icmp_ge (pc := 45) (tgt := 97) hx hb dX12_meet_45 (by decide) (fun q => ?_) (fun q => ?_)
    · have h := ite_t q h
      refine lv_iload (pc := 97) hx hb dX12_meet_97 (lv_at hl 2 rfl) ?_
      exact s_iret F w h dX12_meet_99
    · have h := ite_f q h
      refine lv_aload_n (pc := 48) hx hb dX12_meet_48 rfl (lv_at hl 0 rfl) ?_
      refine s_getR (pc := 49) F w 23 ds_0 (j := 35) vc_X12 vi_X12 rfl (by decide) kf_X12_84 dX12_meet_49 ?_
      refine lv_iconst (pc := 52) (v := 2) hx hb dX12_meet_52 (by decide) ?_
      refine lv_iload (pc := 53) hx hb dX12_meet_53 (lv_at hl 2 rfl) ?_
      refine lv_imul (pc := 55) hx hb dX12_meet_55 ?_
      refine lv_iload (pc := 56) hx hb dX12_meet_56 (lv_at hl 3 rfl) ?_
      refine lv_iadd (pc := 58) hx hb dX12_meet_58 ?_
      refine s_iald (pc := 59) F w ds_23 h dX12_meet_59 (fun h => ?_)
      refine s_nm h (fun z6 ez6 h => ?_)
      rw [← ez6]
      refine lv_istore (pc := 60) (lv' := [(7, .int z6), (0, .ref (ad 0)), (3, .int x3), (4, .int x4), (5, .int x5), (6, .int x6)]) hx hb dX12_meet_60 hl (by decide) rfl (fun ls hl => ?_)
      refine lv_iload (pc := 62) hx hb dX12_meet_62 (lv_at hl 0 rfl) ?_
      refine lv_bipush (pc := 64) (v := -4) hx hb dX12_meet_64 (by decide) ?_
      refine lv_icmp_ne (pc := 66) (tgt := 75) hx hb dX12_meet_66 (by decide) (fun q => ?_) (fun q => ?_)
      · have h := ite_f q h
        refine lv_iconst (pc := 75) (v := 1) hx hb dX12_meet_75 (by decide) ?_
        refine lv_aload_n (pc := 76) hx hb dX12_meet_76 rfl (lv_at hl 1 rfl) ?_
        refine lv_iload (pc := 77) hx hb dX12_meet_77 (lv_at hl 0 rfl) ?_
        refine lv_iload (pc := 79) hx hb dX12_meet_79 (lv_at hl 3 rfl) ?_
        obtain ⟨r8, S7, hc, h⟩ := bnd_t h
        refine s_cvi (pc := 81) [.int z6, .int x4] (fun ad => [.ref (ad 0), .int z6, .int x4]) F w (m_M_sideTo _ _ _ _ _ hc) rfl rfl hl.1 ds_0 vc_X12 rfl ok_X12_sideTo rfl kc_X12_sideTo kl_X12_313 ki_X12_sideTo kv_X12_sideTo kn_X12 ⟨Nat.le_trans (by decide) hR1, Nat.le_trans (by decide) hR2⟩ ⟨Nat.zero_le _, Nat.zero_le _⟩ (Nat.le_of_ble_eq_true rfl) dX12_meet_81 (fun H locs w => ?_)
        refine lv_isub (pc := 84) hx hb dX12_meet_84 ?_
        refine s_nm h (fun z9 ez9 h => ?_)
        rw [← ez9]
        refine lv_istore (pc := 85) (lv' := [(5, .int z9), (7, .int z6), (0, .ref (ad 0)), (3, .int x3), (4, .int x4), (6, .int x6)]) hx hb dX12_meet_85 hl (by decide) rfl (fun ls hl => ?_)
        refine lv_iload (pc := 87) hx hb dX12_meet_87 (lv_at hl 1 rfl) ?_
        refine lv_istore (pc := 89) (lv' := [(4, .int z6), (5, .int z9), (7, .int z6), (0, .ref (ad 0)), (3, .int x3), (6, .int x6)]) hx hb dX12_meet_89 hl (by decide) rfl (fun ls hl => ?_)
        refine s_nm h (fun z10 ez10 h => ?_)
        refine lv_iinc (pc := 91) (v := z10) (lv' := [(6, .int z10), (4, .int z6), (5, .int z9), (7, .int z6), (0, .ref (ad 0)), (3, .int x3)]) hx hb dX12_meet_91 hl (k := 5) rfl (by rw [ez10]; rfl) (by decide) rfl (fun ls hl => ?_)
        refine lv_goto (pc := 94) (tgt := 42) hx hb dX12_meet_94 (by decide) ?_
        exact ih _ _ _ _ _ h _ _ _ w (lv_sub hl [4, 5, 1, 2, 0] rfl)
      · have h := ite_t q h
        refine lv_aload_n (pc := 69) hx hb dX12_meet_69 rfl (lv_at hl 1 rfl) ?_
        refine lv_iconst (pc := 70) (v := 1) hx hb dX12_meet_70 (by decide) ?_
        obtain ⟨r12, S11, hc, h⟩ := bnd_t h
        refine s_cvi (pc := 71) [.int (1 : Int32)] (fun ad => [.ref (ad 0), .int (1 : Int32)]) F w (m_M_found _ _ _ _ hc) rfl rfl hl.1 ds_0 vc_X12 rfl ok_X12_found rfl kc_X12_found kl_X12_210 ki_X12_found kv_X12_found kn_X12 ⟨Nat.le_trans (by decide) hR1, Nat.le_trans (by decide) hR2⟩ ⟨Nat.zero_le _, Nat.zero_le _⟩ (Nat.le_of_ble_eq_true rfl) dX12_meet_71 (fun H locs w => ?_)
        exact s_iret F w h dX12_meet_74
set_option maxRecDepth 100000 in
set_option maxHeartbeats 4000000 in
theorem m_M_meet (a1 : Int32) (a2 : Int32) (a3 : Int32) (S S' : SS) (r : Int32) (h : f_M_meet a1 a2 a3 S = some (r, S')) : MT yX12_meet cX12_meet 8 (some .int) 3 69 (fun ad => [.ref (ad 0), .int a1, .int a2, .int a3]) S (some (.int r)) S' := by
  refine MT.of RX12 (fun ad => [(0, .ref (ad 0)), (1, .int a1), (2, .int a2), (3, .int a3)]) (by decide) rfl (fun _ => Nat.le_of_ble_eq_true rfl) (fun _ => rfl) ?_
  intro p l e R s m args below meth c dC dI cs ad A hR1 hR2 F H locs ls w hl
  have hx := F.1.1
  have hb := F.1.2.1
  rw [f_M_meet] at h
  refine lv_iload_n (pc := 0) hx hb dX12_meet_0 rfl (lv_at hl 3 rfl) ?_
  refine lv_if_lt (pc := 1) (tgt := 10) hx hb dX12_meet_1 (by decide) (fun q => ?_) (fun q => ?_)
  · have h := ite_t q h
    refine lv_iconst (pc := 10) (v := -1) hx hb dX12_meet_10 (by decide) ?_
    exact s_iret F w h dX12_meet_11
  · have h := ite_f q h
    refine lv_iload_n (pc := 4) hx hb dX12_meet_4 rfl (lv_at hl 3 rfl) ?_
    refine lv_bipush (pc := 5) (v := 100) hx hb dX12_meet_5 (by decide) ?_
    refine lv_icmp_le (pc := 7) (tgt := 12) hx hb dX12_meet_7 (by decide) (fun q => ?_) (fun q => ?_)
    · have h := ite_t q h
      refine lv_aload_n (pc := 12) hx hb dX12_meet_12 rfl (lv_at hl 0 rfl) ?_
      obtain ⟨S1, hc, h⟩ := bndv_t h
      refine s_cvv (pc := 13) [] (fun ad => [.ref (ad 0)]) F w (m_M_begin  _ _ hc) rfl rfl hl.1 ds_0 vc_X12 rfl ok_X12_begin rfl kc_X12_begin kl_X12_226 ki_X12_begin kv_X12_begin kn_X12 ⟨Nat.le_trans (by decide) hR1, Nat.le_trans (by decide) hR2⟩ ⟨Nat.zero_le _, Nat.zero_le _⟩ (Nat.le_of_ble_eq_true rfl) dX12_meet_13 (fun H locs w => ?_)
      refine lv_aload_n (pc := 16) hx hb dX12_meet_16 rfl (lv_at hl 0 rfl) ?_
      refine lv_aload_n (pc := 17) hx hb dX12_meet_17 rfl (lv_at hl 0 rfl) ?_
      refine lv_iload_n (pc := 18) hx hb dX12_meet_18 rfl (lv_at hl 1 rfl) ?_
      refine lv_iconst (pc := 19) (v := 0) hx hb dX12_meet_19 (by decide) ?_
      refine lv_iload_n (pc := 20) hx hb dX12_meet_20 rfl (lv_at hl 2 rfl) ?_
      obtain ⟨r3, S2, hc, h⟩ := bnd_t h
      refine s_cvi (pc := 21) [.int a1, .int (0 : Int32), .int a2] (fun ad => [.ref (ad 0), .int a1, .int (0 : Int32), .int a2]) F w (m_M_missSide _ _ _ _ _ _ hc) rfl rfl hl.1 ds_0 vc_X12 rfl ok_X12_missSide rfl kc_X12_missSide kl_X12_364 ki_X12_missSide kv_X12_missSide kn_X12 ⟨Nat.le_trans (by decide) hR1, Nat.le_trans (by decide) hR2⟩ ⟨Nat.zero_le _, Nat.zero_le _⟩ (Nat.le_of_ble_eq_true rfl) dX12_meet_21 (fun H locs w => ?_)
      obtain ⟨r5, S4, hc, h⟩ := bnd_t h
      refine s_cvi (pc := 24) [.int r3] (fun ad => [.ref (ad 0), .int r3]) F w (m_M_ends _ _ _ _ hc) rfl rfl hl.1 ds_0 vc_X12 rfl ok_X12_ends rfl kc_X12_ends kl_X12_236 ki_X12_ends kv_X12_ends kn_X12 ⟨Nat.le_trans (by decide) hR1, Nat.le_trans (by decide) hR2⟩ ⟨Nat.zero_le _, Nat.zero_le _⟩ (Nat.le_of_ble_eq_true rfl) dX12_meet_24 (fun H locs w => ?_)
      refine lv_if_eq (pc := 27) (tgt := 33) hx hb dX12_meet_27 (by decide) (fun q => ?_) (fun q => ?_)
      · have h := ite_t q h
        refine lv_iload_n (pc := 33) hx hb dX12_meet_33 rfl (lv_at hl 1 rfl) ?_
        refine lv_istore (pc := 34) (lv' := [(4, .int a1), (0, .ref (ad 0)), (1, .int a1), (2, .int a2), (3, .int a3)]) hx hb dX12_meet_34 hl (by decide) rfl (fun ls hl => ?_)
        refine lv_iload_n (pc := 36) hx hb dX12_meet_36 rfl (lv_at hl 3 rfl) ?_
        refine lv_istore (pc := 37) (lv' := [(5, .int a2), (4, .int a1), (0, .ref (ad 0)), (1, .int a1), (2, .int a2), (3, .int a3)]) hx hb dX12_meet_37 hl (by decide) rfl (fun ls hl => ?_)
        refine lv_iconst (pc := 39) (v := 0) hx hb dX12_meet_39 (by decide) ?_
        refine lv_istore (pc := 40) (lv' := [(6, .int (0 : Int32)), (5, .int a2), (4, .int a1), (0, .ref (ad 0)), (1, .int a1), (2, .int a2), (3, .int a3)]) hx hb dX12_meet_40 hl (by decide) rfl (fun ls hl => ?_)
        exact w_M_meet_L42 F (Nat.le_trans (by decide) hR1) (Nat.le_trans (by decide) hR2) _ _ _ _ _ _ h _ _ _ w (lv_sub hl [3, 6, 2, 1, 0] rfl)
      · have h := ite_f q h
        refine lv_bipush (pc := 30) (v := -2) hx hb dX12_meet_30 (by decide) ?_
        exact s_iret F w h dX12_meet_32
    · have h := ite_f q h
      refine lv_iconst (pc := 10) (v := -1) hx hb dX12_meet_10 (by decide) ?_
      exact s_iret F w h dX12_meet_11
def f_M_weigh_L29  : Nat → Int32 → Int32 → SS → Option (Int32 × SS)
  | 0, _, _, _ => none
  | n + 1, x2, x3, S =>
    if (S.1 0 56) ≤ x3 then
      some (x2, S)
    else
      grd (inb x3 72) (
      bnd (f_M_weight (S.1 39 x3.toNatClampNeg) S) (fun r8 S7 =>
      nm (x2 + r8) (fun z9 =>
      nm (x3 + (1 : Int32)) (fun z10 =>
      f_M_weigh_L29 n z9 z10 S7))))
def f_M_weigh (a1 : Int32) (S : SS) : Option (Int32 × SS) :=
  bndv (f_M_begin  S) (fun S1 =>
  bnd (f_M_missThing a1 (0 : Int32) S1) (fun r3 S2 =>
  bnd (f_M_ends r3 S2) (fun r5 S4 =>
  if r5 = 0 then
    bndv (f_M_lineUp a1 S4) (fun S6 =>
    f_M_weigh_L29 NF (0 : Int32) (0 : Int32) S6)
  else
    some ((-2 : Int32), S4))))
theorem dX12_weigh_0 : decode cX12_weigh 0 = .ok (.aload_n 0, 1) := dc_42 (by decide +kernel)
theorem dX12_weigh_1 : decode cX12_weigh 1 = .ok (.invokevirtual 226, 3) := dc_182 (a := 0) (b := 226) (by decide +kernel)
theorem dX12_weigh_4 : decode cX12_weigh 4 = .ok (.aload_n 0, 1) := dc_42 (by decide +kernel)
theorem dX12_weigh_5 : decode cX12_weigh 5 = .ok (.aload_n 0, 1) := dc_42 (by decide +kernel)
theorem dX12_weigh_6 : decode cX12_weigh 6 = .ok (.iload_n 1, 1) := dc_27 (by decide +kernel)
theorem dX12_weigh_7 : decode cX12_weigh 7 = .ok (.iconst 0, 1) := dc_3 (by decide +kernel)
theorem dX12_weigh_8 : decode cX12_weigh 8 = .ok (.invokevirtual 293, 3) := dc_182 (a := 1) (b := 37) (by decide +kernel)
theorem dX12_weigh_11 : decode cX12_weigh 11 = .ok (.invokevirtual 236, 3) := dc_182 (a := 0) (b := 236) (by decide +kernel)
theorem dX12_weigh_14 : decode cX12_weigh 14 = .ok (.ifCond .eq 6, 3) := dc_153 (a := 0) (b := 6) (by decide +kernel) (by decide)
theorem dX12_weigh_17 : decode cX12_weigh 17 = .ok (.bipush (-2), 2) := dc_16 (a := 254) (by decide +kernel) (by decide)
theorem dX12_weigh_19 : decode cX12_weigh 19 = .ok (.ireturn, 1) := dc_172 (by decide +kernel)
theorem dX12_weigh_20 : decode cX12_weigh 20 = .ok (.aload_n 0, 1) := dc_42 (by decide +kernel)
theorem dX12_weigh_21 : decode cX12_weigh 21 = .ok (.iload_n 1, 1) := dc_27 (by decide +kernel)
theorem dX12_weigh_22 : decode cX12_weigh 22 = .ok (.invokevirtual 325, 3) := dc_182 (a := 1) (b := 69) (by decide +kernel)
theorem dX12_weigh_25 : decode cX12_weigh 25 = .ok (.iconst 0, 1) := dc_3 (by decide +kernel)
theorem dX12_weigh_26 : decode cX12_weigh 26 = .ok (.istore_n 2, 1) := dc_61 (by decide +kernel)
theorem dX12_weigh_27 : decode cX12_weigh 27 = .ok (.iconst 0, 1) := dc_3 (by decide +kernel)
theorem dX12_weigh_28 : decode cX12_weigh 28 = .ok (.istore_n 3, 1) := dc_62 (by decide +kernel)
theorem dX12_weigh_29 : decode cX12_weigh 29 = .ok (.iload_n 3, 1) := dc_29 (by decide +kernel)
theorem dX12_weigh_30 : decode cX12_weigh 30 = .ok (.aload_n 0, 1) := dc_42 (by decide +kernel)
theorem dX12_weigh_31 : decode cX12_weigh 31 = .ok (.getfield 319, 3) := dc_180 (a := 1) (b := 63) (by decide +kernel)
theorem dX12_weigh_34 : decode cX12_weigh 34 = .ok (.if_icmp .ge 22, 3) := dc_162 (a := 0) (b := 22) (by decide +kernel) (by decide)
theorem dX12_weigh_37 : decode cX12_weigh 37 = .ok (.iload_n 2, 1) := dc_28 (by decide +kernel)
theorem dX12_weigh_38 : decode cX12_weigh 38 = .ok (.aload_n 0, 1) := dc_42 (by decide +kernel)
theorem dX12_weigh_39 : decode cX12_weigh 39 = .ok (.aload_n 0, 1) := dc_42 (by decide +kernel)
theorem dX12_weigh_40 : decode cX12_weigh 40 = .ok (.getfield 132, 3) := dc_180 (a := 0) (b := 132) (by decide +kernel)
theorem dX12_weigh_43 : decode cX12_weigh 43 = .ok (.iload_n 3, 1) := dc_29 (by decide +kernel)
theorem dX12_weigh_44 : decode cX12_weigh 44 = .ok (.iaload, 1) := dc_46 (by decide +kernel)
theorem dX12_weigh_45 : decode cX12_weigh 45 = .ok (.invokevirtual 303, 3) := dc_182 (a := 1) (b := 47) (by decide +kernel)
theorem dX12_weigh_48 : decode cX12_weigh 48 = .ok (.iadd, 1) := dc_96 (by decide +kernel)
theorem dX12_weigh_49 : decode cX12_weigh 49 = .ok (.istore_n 2, 1) := dc_61 (by decide +kernel)
theorem dX12_weigh_50 : decode cX12_weigh 50 = .ok (.iinc 3 1, 3) := dc_132 (a := 3) (b := 1) (by decide +kernel) (by decide)
theorem dX12_weigh_53 : decode cX12_weigh 53 = .ok (.goto (-24), 3) := dc_167 (a := 255) (b := 232) (by decide +kernel) (by decide)
theorem dX12_weigh_56 : decode cX12_weigh 56 = .ok (.iload_n 2, 1) := dc_28 (by decide +kernel)
theorem dX12_weigh_57 : decode cX12_weigh 57 = .ok (.ireturn, 1) := dc_172 (by decide +kernel)
set_option maxRecDepth 100000 in
set_option maxHeartbeats 4000000 in
theorem w_M_weigh_L29 {p : Program} {l : Launch} {e : Env} {R : Room} {s : State} {m : MethodId} {args : Array Value} {below : List Frame} {meth : Method} {c : Code} {dC : Nat → ClassId} {dI : Nat → Nat → Nat} {cs : Nat → ClassId} {ad : Nat → Nat} {A : Nat → Prop} {D0 : Nat → Nat} {S' : SS} {r : Int32} (F : Fx p s m args meth c cX12_weigh 4 RX12 (some .int) dC dI cs A) (hR1 : 2 ≤ R.frames) (hR2 : 45 ≤ R.locals) : ∀ (n : Nat) (x2 : Int32) (x3 : Int32) (S : SS), f_M_weigh_L29 n x2 x3 S = some (r, S') → AW p l e R s m args below meth c dC dI cs ad A D0 (some (.int r)) S' 4 29 [(0, .ref (ad 0)), (2, .int x2), (3, .int x3)] [] S := by
  have hx := F.1.1
  have hb := F.1.2.1
  intro n
  induction n with
  | zero => intro x2 x3 S h; cases h
  | succ n ih =>
    intro x2 x3 S h H locs ls w hl
    rw [f_M_weigh_L29] at h
    refine lv_iload_n (pc := 29) hx hb dX12_weigh_29 rfl (lv_at hl 2 rfl) ?_
    refine lv_aload_n (pc := 30) hx hb dX12_weigh_30 rfl (lv_at hl 0 rfl) ?_
    refine s_getI (pc := 31) F w ds_0 (j := 56) vc_X12 vi_X12 rfl (by decide) kf_X12_319 dX12_weigh_31 ?_
    refine lv_icmp_ge (pc := 34) (tgt := 56) hx hb dX12_weigh_34 (by decide) (fun q => ?_) (fun q => ?_)
    · have h := ite_t q h
      refine lv_iload_n (pc := 56) hx hb dX12_weigh_56 rfl (lv_at hl 1 rfl) ?_
      exact s_iret F w h dX12_weigh_57
    · have h := ite_f q h
      refine lv_iload_n (pc := 37) hx hb dX12_weigh_37 rfl (lv_at hl 1 rfl) ?_
      refine lv_aload_n (pc := 38) hx hb dX12_weigh_38 rfl (lv_at hl 0 rfl) ?_
      refine lv_aload_n (pc := 39) hx hb dX12_weigh_39 rfl (lv_at hl 0 rfl) ?_
      refine s_getR (pc := 40) F w 39 ds_0 (j := 55) vc_X12 vi_X12 rfl (by decide) kf_X12_132 dX12_weigh_40 ?_
      refine lv_iload_n (pc := 43) hx hb dX12_weigh_43 rfl (lv_at hl 2 rfl) ?_
      refine s_iald (pc := 44) F w ds_39 h dX12_weigh_44 (fun h => ?_)
      obtain ⟨r8, S7, hc, h⟩ := bnd_t h
      refine s_cvi (pc := 45) [.int (S.1 39 x3.toNatClampNeg)] (fun ad => [.ref (ad 0), .int (S.1 39 x3.toNatClampNeg)]) F w (m_M_weight _ _ _ _ hc) rfl rfl hl.1 ds_0 vc_X12 rfl ok_X12_weight rfl kc_X12_weight kl_X12_303 ki_X12_weight kv_X12_weight kn_X12 ⟨Nat.le_trans (by decide) hR1, Nat.le_trans (by decide) hR2⟩ ⟨Nat.zero_le _, Nat.zero_le _⟩ (Nat.le_of_ble_eq_true rfl) dX12_weigh_45 (fun H locs w => ?_)
      refine lv_iadd (pc := 48) hx hb dX12_weigh_48 ?_
      refine s_nm h (fun z9 ez9 h => ?_)
      rw [← ez9]
      refine lv_istore_n (pc := 49) (lv' := [(2, .int z9), (0, .ref (ad 0)), (3, .int x3)]) hx hb dX12_weigh_49 rfl hl (by decide) rfl (fun ls hl => ?_)
      refine s_nm h (fun z10 ez10 h => ?_)
      refine lv_iinc (pc := 50) (v := z10) (lv' := [(3, .int z10), (2, .int z9), (0, .ref (ad 0))]) hx hb dX12_weigh_50 hl (k := 2) rfl (by rw [ez10]; rfl) (by decide) rfl (fun ls hl => ?_)
      refine lv_goto (pc := 53) (tgt := 29) hx hb dX12_weigh_53 (by decide) ?_
      exact ih _ _ _ h _ _ _ w (lv_sub hl [2, 1, 0] rfl)
set_option maxRecDepth 100000 in
set_option maxHeartbeats 4000000 in
theorem m_M_weigh (a1 : Int32) (S S' : SS) (r : Int32) (h : f_M_weigh a1 S = some (r, S')) : MT yX12_weigh cX12_weigh 4 (some .int) 2 46 (fun ad => [.ref (ad 0), .int a1]) S (some (.int r)) S' := by
  refine MT.of RX12 (fun ad => [(0, .ref (ad 0)), (1, .int a1)]) (by decide) rfl (fun _ => Nat.le_of_ble_eq_true rfl) (fun _ => rfl) ?_
  intro p l e R s m args below meth c dC dI cs ad A hR1 hR2 F H locs ls w hl
  have hx := F.1.1
  have hb := F.1.2.1
  rw [f_M_weigh] at h
  refine lv_aload_n (pc := 0) hx hb dX12_weigh_0 rfl (lv_at hl 0 rfl) ?_
  obtain ⟨S1, hc, h⟩ := bndv_t h
  refine s_cvv (pc := 1) [] (fun ad => [.ref (ad 0)]) F w (m_M_begin  _ _ hc) rfl rfl hl.1 ds_0 vc_X12 rfl ok_X12_begin rfl kc_X12_begin kl_X12_226 ki_X12_begin kv_X12_begin kn_X12 ⟨Nat.le_trans (by decide) hR1, Nat.le_trans (by decide) hR2⟩ ⟨Nat.zero_le _, Nat.zero_le _⟩ (Nat.le_of_ble_eq_true rfl) dX12_weigh_1 (fun H locs w => ?_)
  refine lv_aload_n (pc := 4) hx hb dX12_weigh_4 rfl (lv_at hl 0 rfl) ?_
  refine lv_aload_n (pc := 5) hx hb dX12_weigh_5 rfl (lv_at hl 0 rfl) ?_
  refine lv_iload_n (pc := 6) hx hb dX12_weigh_6 rfl (lv_at hl 1 rfl) ?_
  refine lv_iconst (pc := 7) (v := 0) hx hb dX12_weigh_7 (by decide) ?_
  obtain ⟨r3, S2, hc, h⟩ := bnd_t h
  refine s_cvi (pc := 8) [.int a1, .int (0 : Int32)] (fun ad => [.ref (ad 0), .int a1, .int (0 : Int32)]) F w (m_M_missThing _ _ _ _ _ hc) rfl rfl hl.1 ds_0 vc_X12 rfl ok_X12_missThing rfl kc_X12_missThing kl_X12_293 ki_X12_missThing kv_X12_missThing kn_X12 ⟨Nat.le_trans (by decide) hR1, Nat.le_trans (by decide) hR2⟩ ⟨Nat.zero_le _, Nat.zero_le _⟩ (Nat.le_of_ble_eq_true rfl) dX12_weigh_8 (fun H locs w => ?_)
  obtain ⟨r5, S4, hc, h⟩ := bnd_t h
  refine s_cvi (pc := 11) [.int r3] (fun ad => [.ref (ad 0), .int r3]) F w (m_M_ends _ _ _ _ hc) rfl rfl hl.1 ds_0 vc_X12 rfl ok_X12_ends rfl kc_X12_ends kl_X12_236 ki_X12_ends kv_X12_ends kn_X12 ⟨Nat.le_trans (by decide) hR1, Nat.le_trans (by decide) hR2⟩ ⟨Nat.zero_le _, Nat.zero_le _⟩ (Nat.le_of_ble_eq_true rfl) dX12_weigh_11 (fun H locs w => ?_)
  refine lv_if_eq (pc := 14) (tgt := 20) hx hb dX12_weigh_14 (by decide) (fun q => ?_) (fun q => ?_)
  · have h := ite_t q h
    refine lv_aload_n (pc := 20) hx hb dX12_weigh_20 rfl (lv_at hl 0 rfl) ?_
    refine lv_iload_n (pc := 21) hx hb dX12_weigh_21 rfl (lv_at hl 1 rfl) ?_
    obtain ⟨S6, hc, h⟩ := bndv_t h
    refine s_cvv (pc := 22) [.int a1] (fun ad => [.ref (ad 0), .int a1]) F w (m_M_lineUp _ _ _ hc) rfl rfl hl.1 ds_0 vc_X12 rfl ok_X12_lineUp rfl kc_X12_lineUp kl_X12_325 ki_X12_lineUp kv_X12_lineUp kn_X12 ⟨Nat.le_trans (by decide) hR1, Nat.le_trans (by decide) hR2⟩ ⟨Nat.zero_le _, Nat.zero_le _⟩ (Nat.le_of_ble_eq_true rfl) dX12_weigh_22 (fun H locs w => ?_)
    refine lv_iconst (pc := 25) (v := 0) hx hb dX12_weigh_25 (by decide) ?_
    refine lv_istore_n (pc := 26) (lv' := [(2, .int (0 : Int32)), (0, .ref (ad 0)), (1, .int a1)]) hx hb dX12_weigh_26 rfl hl (by decide) rfl (fun ls hl => ?_)
    refine lv_iconst (pc := 27) (v := 0) hx hb dX12_weigh_27 (by decide) ?_
    refine lv_istore_n (pc := 28) (lv' := [(3, .int (0 : Int32)), (2, .int (0 : Int32)), (0, .ref (ad 0)), (1, .int a1)]) hx hb dX12_weigh_28 rfl hl (by decide) rfl (fun ls hl => ?_)
    exact w_M_weigh_L29 F (Nat.le_trans (by decide) hR1) (Nat.le_trans (by decide) hR2) _ _ _ _ h _ _ _ w (lv_sub hl [2, 1, 0] rfl)
  · have h := ite_f q h
    refine lv_bipush (pc := 17) (v := -2) hx hb dX12_weigh_17 (by decide) ?_
    exact s_iret F w h dX12_weigh_19
def f_M_share_L32  : Nat → Int32 → Int32 → Int32 → SS → Option (Int32 × SS)
  | 0, _, _, _, _ => none
  | n + 1, x2, x3, x4, S =>
    if (S.1 0 56) ≤ x4 then
      if x3 = 0 then
        bnd (f_M_found (6 : Int32) S) (fun r8 S7 =>
        some (r8, S7))
      else
        grd (!(decide (x3 = 0))) (
        some (((100 : Int32) * x2) / x3, S))
    else
      grd (inb x4 72) (
      bnd (f_M_brake (S.1 39 x4.toNatClampNeg) S) (fun r10 S9 =>
      nm (x2 + r10) (fun z11 =>
      grd (inb x4 72) (
      grd (inb (S9.1 39 x4.toNatClampNeg) 72) (
      nm (x3 + (S9.1 28 (S9.1 39 x4.toNatClampNeg).toNatClampNeg)) (fun z12 =>
      nm (x4 + (1 : Int32)) (fun z13 =>
      f_M_share_L32 n z11 z12 z13 S9)))))))
def f_M_share (a1 : Int32) (S : SS) : Option (Int32 × SS) :=
  bndv (f_M_begin  S) (fun S1 =>
  bnd (f_M_missThing a1 (0 : Int32) S1) (fun r3 S2 =>
  bnd (f_M_ends r3 S2) (fun r5 S4 =>
  if r5 = 0 then
    bndv (f_M_lineUp a1 S4) (fun S6 =>
    f_M_share_L32 NF (0 : Int32) (0 : Int32) (0 : Int32) S6)
  else
    some ((-2 : Int32), S4))))
theorem dX12_share_0 : decode cX12_share 0 = .ok (.aload_n 0, 1) := dc_42 (by decide +kernel)
theorem dX12_share_1 : decode cX12_share 1 = .ok (.invokevirtual 226, 3) := dc_182 (a := 0) (b := 226) (by decide +kernel)
theorem dX12_share_4 : decode cX12_share 4 = .ok (.aload_n 0, 1) := dc_42 (by decide +kernel)
theorem dX12_share_5 : decode cX12_share 5 = .ok (.aload_n 0, 1) := dc_42 (by decide +kernel)
theorem dX12_share_6 : decode cX12_share 6 = .ok (.iload_n 1, 1) := dc_27 (by decide +kernel)
theorem dX12_share_7 : decode cX12_share 7 = .ok (.iconst 0, 1) := dc_3 (by decide +kernel)
theorem dX12_share_8 : decode cX12_share 8 = .ok (.invokevirtual 293, 3) := dc_182 (a := 1) (b := 37) (by decide +kernel)
theorem dX12_share_11 : decode cX12_share 11 = .ok (.invokevirtual 236, 3) := dc_182 (a := 0) (b := 236) (by decide +kernel)
theorem dX12_share_14 : decode cX12_share 14 = .ok (.ifCond .eq 6, 3) := dc_153 (a := 0) (b := 6) (by decide +kernel) (by decide)
theorem dX12_share_17 : decode cX12_share 17 = .ok (.bipush (-2), 2) := dc_16 (a := 254) (by decide +kernel) (by decide)
theorem dX12_share_19 : decode cX12_share 19 = .ok (.ireturn, 1) := dc_172 (by decide +kernel)
theorem dX12_share_20 : decode cX12_share 20 = .ok (.aload_n 0, 1) := dc_42 (by decide +kernel)
theorem dX12_share_21 : decode cX12_share 21 = .ok (.iload_n 1, 1) := dc_27 (by decide +kernel)
theorem dX12_share_22 : decode cX12_share 22 = .ok (.invokevirtual 325, 3) := dc_182 (a := 1) (b := 69) (by decide +kernel)
theorem dX12_share_25 : decode cX12_share 25 = .ok (.iconst 0, 1) := dc_3 (by decide +kernel)
theorem dX12_share_26 : decode cX12_share 26 = .ok (.istore_n 2, 1) := dc_61 (by decide +kernel)
theorem dX12_share_27 : decode cX12_share 27 = .ok (.iconst 0, 1) := dc_3 (by decide +kernel)
theorem dX12_share_28 : decode cX12_share 28 = .ok (.istore_n 3, 1) := dc_62 (by decide +kernel)
theorem dX12_share_29 : decode cX12_share 29 = .ok (.iconst 0, 1) := dc_3 (by decide +kernel)
theorem dX12_share_30 : decode cX12_share 30 = .ok (.istore 4, 2) := dc_54 (a := 4) (by decide +kernel)
theorem dX12_share_32 : decode cX12_share 32 = .ok (.iload 4, 2) := dc_21 (a := 4) (by decide +kernel)
theorem dX12_share_34 : decode cX12_share 34 = .ok (.aload_n 0, 1) := dc_42 (by decide +kernel)
theorem dX12_share_35 : decode cX12_share 35 = .ok (.getfield 319, 3) := dc_180 (a := 1) (b := 63) (by decide +kernel)
theorem dX12_share_38 : decode cX12_share 38 = .ok (.if_icmp .ge 38, 3) := dc_162 (a := 0) (b := 38) (by decide +kernel) (by decide)
theorem dX12_share_41 : decode cX12_share 41 = .ok (.iload_n 2, 1) := dc_28 (by decide +kernel)
theorem dX12_share_42 : decode cX12_share 42 = .ok (.aload_n 0, 1) := dc_42 (by decide +kernel)
theorem dX12_share_43 : decode cX12_share 43 = .ok (.aload_n 0, 1) := dc_42 (by decide +kernel)
theorem dX12_share_44 : decode cX12_share 44 = .ok (.getfield 132, 3) := dc_180 (a := 0) (b := 132) (by decide +kernel)
theorem dX12_share_47 : decode cX12_share 47 = .ok (.iload 4, 2) := dc_21 (a := 4) (by decide +kernel)
theorem dX12_share_49 : decode cX12_share 49 = .ok (.iaload, 1) := dc_46 (by decide +kernel)
theorem dX12_share_50 : decode cX12_share 50 = .ok (.invokevirtual 435, 3) := dc_182 (a := 1) (b := 179) (by decide +kernel)
theorem dX12_share_53 : decode cX12_share 53 = .ok (.iadd, 1) := dc_96 (by decide +kernel)
theorem dX12_share_54 : decode cX12_share 54 = .ok (.istore_n 2, 1) := dc_61 (by decide +kernel)
theorem dX12_share_55 : decode cX12_share 55 = .ok (.iload_n 3, 1) := dc_29 (by decide +kernel)
theorem dX12_share_56 : decode cX12_share 56 = .ok (.aload_n 0, 1) := dc_42 (by decide +kernel)
theorem dX12_share_57 : decode cX12_share 57 = .ok (.getfield 99, 3) := dc_180 (a := 0) (b := 99) (by decide +kernel)
theorem dX12_share_60 : decode cX12_share 60 = .ok (.aload_n 0, 1) := dc_42 (by decide +kernel)
theorem dX12_share_61 : decode cX12_share 61 = .ok (.getfield 132, 3) := dc_180 (a := 0) (b := 132) (by decide +kernel)
theorem dX12_share_64 : decode cX12_share 64 = .ok (.iload 4, 2) := dc_21 (a := 4) (by decide +kernel)
theorem dX12_share_66 : decode cX12_share 66 = .ok (.iaload, 1) := dc_46 (by decide +kernel)
theorem dX12_share_67 : decode cX12_share 67 = .ok (.iaload, 1) := dc_46 (by decide +kernel)
theorem dX12_share_68 : decode cX12_share 68 = .ok (.iadd, 1) := dc_96 (by decide +kernel)
theorem dX12_share_69 : decode cX12_share 69 = .ok (.istore_n 3, 1) := dc_62 (by decide +kernel)
theorem dX12_share_70 : decode cX12_share 70 = .ok (.iinc 4 1, 3) := dc_132 (a := 4) (b := 1) (by decide +kernel) (by decide)
theorem dX12_share_73 : decode cX12_share 73 = .ok (.goto (-41), 3) := dc_167 (a := 255) (b := 215) (by decide +kernel) (by decide)
theorem dX12_share_76 : decode cX12_share 76 = .ok (.iload_n 3, 1) := dc_29 (by decide +kernel)
theorem dX12_share_77 : decode cX12_share 77 = .ok (.ifCond .ne 12, 3) := dc_154 (a := 0) (b := 12) (by decide +kernel) (by decide)
theorem dX12_share_80 : decode cX12_share 80 = .ok (.aload_n 0, 1) := dc_42 (by decide +kernel)
theorem dX12_share_81 : decode cX12_share 81 = .ok (.bipush 6, 2) := dc_16 (a := 6) (by decide +kernel) (by decide)
theorem dX12_share_83 : decode cX12_share 83 = .ok (.invokevirtual 210, 3) := dc_182 (a := 0) (b := 210) (by decide +kernel)
theorem dX12_share_86 : decode cX12_share 86 = .ok (.goto 9, 3) := dc_167 (a := 0) (b := 9) (by decide +kernel) (by decide)
theorem dX12_share_89 : decode cX12_share 89 = .ok (.bipush 100, 2) := dc_16 (a := 100) (by decide +kernel) (by decide)
theorem dX12_share_91 : decode cX12_share 91 = .ok (.iload_n 2, 1) := dc_28 (by decide +kernel)
theorem dX12_share_92 : decode cX12_share 92 = .ok (.imul, 1) := dc_104 (by decide +kernel)
theorem dX12_share_93 : decode cX12_share 93 = .ok (.iload_n 3, 1) := dc_29 (by decide +kernel)
theorem dX12_share_94 : decode cX12_share 94 = .ok (.idiv, 1) := dc_108 (by decide +kernel)
theorem dX12_share_95 : decode cX12_share 95 = .ok (.ireturn, 1) := dc_172 (by decide +kernel)
set_option maxRecDepth 100000 in
set_option maxHeartbeats 4000000 in
theorem w_M_share_L32 {p : Program} {l : Launch} {e : Env} {R : Room} {s : State} {m : MethodId} {args : Array Value} {below : List Frame} {meth : Method} {c : Code} {dC : Nat → ClassId} {dI : Nat → Nat → Nat} {cs : Nat → ClassId} {ad : Nat → Nat} {A : Nat → Prop} {D0 : Nat → Nat} {S' : SS} {r : Int32} (F : Fx p s m args meth c cX12_share 5 RX12 (some .int) dC dI cs A) (hR1 : 2 ≤ R.frames) (hR2 : 42 ≤ R.locals) : ∀ (n : Nat) (x2 : Int32) (x3 : Int32) (x4 : Int32) (S : SS), f_M_share_L32 n x2 x3 x4 S = some (r, S') → AW p l e R s m args below meth c dC dI cs ad A D0 (some (.int r)) S' 5 32 [(0, .ref (ad 0)), (2, .int x2), (3, .int x3), (4, .int x4)] [] S := by
  have hx := F.1.1
  have hb := F.1.2.1
  intro n
  induction n with
  | zero => intro x2 x3 x4 S h; cases h
  | succ n ih =>
    intro x2 x3 x4 S h H locs ls w hl
    rw [f_M_share_L32] at h
    refine lv_iload (pc := 32) hx hb dX12_share_32 (lv_at hl 3 rfl) ?_
    refine lv_aload_n (pc := 34) hx hb dX12_share_34 rfl (lv_at hl 0 rfl) ?_
    refine s_getI (pc := 35) F w ds_0 (j := 56) vc_X12 vi_X12 rfl (by decide) kf_X12_319 dX12_share_35 ?_
    refine lv_icmp_ge (pc := 38) (tgt := 76) hx hb dX12_share_38 (by decide) (fun q => ?_) (fun q => ?_)
    · have h := ite_t q h
      refine lv_iload_n (pc := 76) hx hb dX12_share_76 rfl (lv_at hl 2 rfl) ?_
      refine lv_if_ne (pc := 77) (tgt := 89) hx hb dX12_share_77 (by decide) (fun q => ?_) (fun q => ?_)
      · have h := ite_f q h
        refine lv_bipush (pc := 89) (v := 100) hx hb dX12_share_89 (by decide) ?_
        refine lv_iload_n (pc := 91) hx hb dX12_share_91 rfl (lv_at hl 1 rfl) ?_
        refine lv_imul (pc := 92) hx hb dX12_share_92 ?_
        refine lv_iload_n (pc := 93) hx hb dX12_share_93 rfl (lv_at hl 2 rfl) ?_
        obtain ⟨hd, h⟩ := grd_t h
        refine lv_idiv (pc := 94) hx hb dX12_share_94 (by simpa using hd) ?_
        exact s_iret F w h dX12_share_95
      · have h := ite_t q h
        refine lv_aload_n (pc := 80) hx hb dX12_share_80 rfl (lv_at hl 0 rfl) ?_
        refine lv_bipush (pc := 81) (v := 6) hx hb dX12_share_81 (by decide) ?_
        obtain ⟨r8, S7, hc, h⟩ := bnd_t h
        refine s_cvi (pc := 83) [.int (6 : Int32)] (fun ad => [.ref (ad 0), .int (6 : Int32)]) F w (m_M_found _ _ _ _ hc) rfl rfl hl.1 ds_0 vc_X12 rfl ok_X12_found rfl kc_X12_found kl_X12_210 ki_X12_found kv_X12_found kn_X12 ⟨Nat.le_trans (by decide) hR1, Nat.le_trans (by decide) hR2⟩ ⟨Nat.zero_le _, Nat.zero_le _⟩ (Nat.le_of_ble_eq_true rfl) dX12_share_83 (fun H locs w => ?_)
        refine lv_goto (pc := 86) (tgt := 95) hx hb dX12_share_86 (by decide) ?_
        exact s_iret F w h dX12_share_95
    · have h := ite_f q h
      refine lv_iload_n (pc := 41) hx hb dX12_share_41 rfl (lv_at hl 1 rfl) ?_
      refine lv_aload_n (pc := 42) hx hb dX12_share_42 rfl (lv_at hl 0 rfl) ?_
      refine lv_aload_n (pc := 43) hx hb dX12_share_43 rfl (lv_at hl 0 rfl) ?_
      refine s_getR (pc := 44) F w 39 ds_0 (j := 55) vc_X12 vi_X12 rfl (by decide) kf_X12_132 dX12_share_44 ?_
      refine lv_iload (pc := 47) hx hb dX12_share_47 (lv_at hl 3 rfl) ?_
      refine s_iald (pc := 49) F w ds_39 h dX12_share_49 (fun h => ?_)
      obtain ⟨r10, S9, hc, h⟩ := bnd_t h
      refine s_cvi (pc := 50) [.int (S.1 39 x4.toNatClampNeg)] (fun ad => [.ref (ad 0), .int (S.1 39 x4.toNatClampNeg)]) F w (m_M_brake _ _ _ _ hc) rfl rfl hl.1 ds_0 vc_X12 rfl ok_X12_brake rfl kc_X12_brake kl_X12_435 ki_X12_brake kv_X12_brake kn_X12 ⟨Nat.le_trans (by decide) hR1, Nat.le_trans (by decide) hR2⟩ ⟨Nat.zero_le _, Nat.zero_le _⟩ (Nat.le_of_ble_eq_true rfl) dX12_share_50 (fun H locs w => ?_)
      refine lv_iadd (pc := 53) hx hb dX12_share_53 ?_
      refine s_nm h (fun z11 ez11 h => ?_)
      rw [← ez11]
      refine lv_istore_n (pc := 54) (lv' := [(2, .int z11), (0, .ref (ad 0)), (3, .int x3), (4, .int x4)]) hx hb dX12_share_54 rfl hl (by decide) rfl (fun ls hl => ?_)
      refine lv_iload_n (pc := 55) hx hb dX12_share_55 rfl (lv_at hl 2 rfl) ?_
      refine lv_aload_n (pc := 56) hx hb dX12_share_56 rfl (lv_at hl 1 rfl) ?_
      refine s_getR (pc := 57) F w 28 ds_0 (j := 40) vc_X12 vi_X12 rfl (by decide) kf_X12_99 dX12_share_57 ?_
      refine lv_aload_n (pc := 60) hx hb dX12_share_60 rfl (lv_at hl 1 rfl) ?_
      refine s_getR (pc := 61) F w 39 ds_0 (j := 55) vc_X12 vi_X12 rfl (by decide) kf_X12_132 dX12_share_61 ?_
      refine lv_iload (pc := 64) hx hb dX12_share_64 (lv_at hl 3 rfl) ?_
      refine s_iald (pc := 66) F w ds_39 h dX12_share_66 (fun h => ?_)
      refine s_iald (pc := 67) F w ds_28 h dX12_share_67 (fun h => ?_)
      refine lv_iadd (pc := 68) hx hb dX12_share_68 ?_
      refine s_nm h (fun z12 ez12 h => ?_)
      rw [← ez12]
      refine lv_istore_n (pc := 69) (lv' := [(3, .int z12), (2, .int z11), (0, .ref (ad 0)), (4, .int x4)]) hx hb dX12_share_69 rfl hl (by decide) rfl (fun ls hl => ?_)
      refine s_nm h (fun z13 ez13 h => ?_)
      refine lv_iinc (pc := 70) (v := z13) (lv' := [(4, .int z13), (3, .int z12), (2, .int z11), (0, .ref (ad 0))]) hx hb dX12_share_70 hl (k := 3) rfl (by rw [ez13]; rfl) (by decide) rfl (fun ls hl => ?_)
      refine lv_goto (pc := 73) (tgt := 32) hx hb dX12_share_73 (by decide) ?_
      exact ih _ _ _ _ h _ _ _ w (lv_sub hl [3, 2, 1, 0] rfl)
set_option maxRecDepth 100000 in
set_option maxHeartbeats 4000000 in
theorem m_M_share (a1 : Int32) (S S' : SS) (r : Int32) (h : f_M_share a1 S = some (r, S')) : MT yX12_share cX12_share 5 (some .int) 2 46 (fun ad => [.ref (ad 0), .int a1]) S (some (.int r)) S' := by
  refine MT.of RX12 (fun ad => [(0, .ref (ad 0)), (1, .int a1)]) (by decide) rfl (fun _ => Nat.le_of_ble_eq_true rfl) (fun _ => rfl) ?_
  intro p l e R s m args below meth c dC dI cs ad A hR1 hR2 F H locs ls w hl
  have hx := F.1.1
  have hb := F.1.2.1
  rw [f_M_share] at h
  refine lv_aload_n (pc := 0) hx hb dX12_share_0 rfl (lv_at hl 0 rfl) ?_
  obtain ⟨S1, hc, h⟩ := bndv_t h
  refine s_cvv (pc := 1) [] (fun ad => [.ref (ad 0)]) F w (m_M_begin  _ _ hc) rfl rfl hl.1 ds_0 vc_X12 rfl ok_X12_begin rfl kc_X12_begin kl_X12_226 ki_X12_begin kv_X12_begin kn_X12 ⟨Nat.le_trans (by decide) hR1, Nat.le_trans (by decide) hR2⟩ ⟨Nat.zero_le _, Nat.zero_le _⟩ (Nat.le_of_ble_eq_true rfl) dX12_share_1 (fun H locs w => ?_)
  refine lv_aload_n (pc := 4) hx hb dX12_share_4 rfl (lv_at hl 0 rfl) ?_
  refine lv_aload_n (pc := 5) hx hb dX12_share_5 rfl (lv_at hl 0 rfl) ?_
  refine lv_iload_n (pc := 6) hx hb dX12_share_6 rfl (lv_at hl 1 rfl) ?_
  refine lv_iconst (pc := 7) (v := 0) hx hb dX12_share_7 (by decide) ?_
  obtain ⟨r3, S2, hc, h⟩ := bnd_t h
  refine s_cvi (pc := 8) [.int a1, .int (0 : Int32)] (fun ad => [.ref (ad 0), .int a1, .int (0 : Int32)]) F w (m_M_missThing _ _ _ _ _ hc) rfl rfl hl.1 ds_0 vc_X12 rfl ok_X12_missThing rfl kc_X12_missThing kl_X12_293 ki_X12_missThing kv_X12_missThing kn_X12 ⟨Nat.le_trans (by decide) hR1, Nat.le_trans (by decide) hR2⟩ ⟨Nat.zero_le _, Nat.zero_le _⟩ (Nat.le_of_ble_eq_true rfl) dX12_share_8 (fun H locs w => ?_)
  obtain ⟨r5, S4, hc, h⟩ := bnd_t h
  refine s_cvi (pc := 11) [.int r3] (fun ad => [.ref (ad 0), .int r3]) F w (m_M_ends _ _ _ _ hc) rfl rfl hl.1 ds_0 vc_X12 rfl ok_X12_ends rfl kc_X12_ends kl_X12_236 ki_X12_ends kv_X12_ends kn_X12 ⟨Nat.le_trans (by decide) hR1, Nat.le_trans (by decide) hR2⟩ ⟨Nat.zero_le _, Nat.zero_le _⟩ (Nat.le_of_ble_eq_true rfl) dX12_share_11 (fun H locs w => ?_)
  refine lv_if_eq (pc := 14) (tgt := 20) hx hb dX12_share_14 (by decide) (fun q => ?_) (fun q => ?_)
  · have h := ite_t q h
    refine lv_aload_n (pc := 20) hx hb dX12_share_20 rfl (lv_at hl 0 rfl) ?_
    refine lv_iload_n (pc := 21) hx hb dX12_share_21 rfl (lv_at hl 1 rfl) ?_
    obtain ⟨S6, hc, h⟩ := bndv_t h
    refine s_cvv (pc := 22) [.int a1] (fun ad => [.ref (ad 0), .int a1]) F w (m_M_lineUp _ _ _ hc) rfl rfl hl.1 ds_0 vc_X12 rfl ok_X12_lineUp rfl kc_X12_lineUp kl_X12_325 ki_X12_lineUp kv_X12_lineUp kn_X12 ⟨Nat.le_trans (by decide) hR1, Nat.le_trans (by decide) hR2⟩ ⟨Nat.zero_le _, Nat.zero_le _⟩ (Nat.le_of_ble_eq_true rfl) dX12_share_22 (fun H locs w => ?_)
    refine lv_iconst (pc := 25) (v := 0) hx hb dX12_share_25 (by decide) ?_
    refine lv_istore_n (pc := 26) (lv' := [(2, .int (0 : Int32)), (0, .ref (ad 0)), (1, .int a1)]) hx hb dX12_share_26 rfl hl (by decide) rfl (fun ls hl => ?_)
    refine lv_iconst (pc := 27) (v := 0) hx hb dX12_share_27 (by decide) ?_
    refine lv_istore_n (pc := 28) (lv' := [(3, .int (0 : Int32)), (2, .int (0 : Int32)), (0, .ref (ad 0)), (1, .int a1)]) hx hb dX12_share_28 rfl hl (by decide) rfl (fun ls hl => ?_)
    refine lv_iconst (pc := 29) (v := 0) hx hb dX12_share_29 (by decide) ?_
    refine lv_istore (pc := 30) (lv' := [(4, .int (0 : Int32)), (3, .int (0 : Int32)), (2, .int (0 : Int32)), (0, .ref (ad 0)), (1, .int a1)]) hx hb dX12_share_30 hl (by decide) rfl (fun ls hl => ?_)
    exact w_M_share_L32 F (Nat.le_trans (by decide) hR1) (Nat.le_trans (by decide) hR2) _ _ _ _ _ h _ _ _ w (lv_sub hl [3, 2, 1, 0] rfl)
  · have h := ite_f q h
    refine lv_bipush (pc := 17) (v := -2) hx hb dX12_share_17 (by decide) ?_
    exact s_iret F w h dX12_share_19
def f_M_consist (a1 : Int32) (a2 : Int32) (S : SS) : Option (Int32 × SS) :=
  if 0 ≤ a2 then
    bndv (f_M_begin  S) (fun S1 =>
    bnd (f_M_missThing a1 (0 : Int32) S1) (fun r3 S2 =>
    bnd (f_M_ends r3 S2) (fun r5 S4 =>
    if r5 = 0 then
      bndv (f_M_lineUp a1 S4) (fun S6 =>
      if (S6.1 0 56) ≤ a2 then
        some ((-4 : Int32), S6)
      else
        grd (inb a2 72) (
        some (S6.1 39 a2.toNatClampNeg, S6)))
    else
      some ((-2 : Int32), S4))))
  else
    some ((-1 : Int32), S)
theorem dX12_consist_0 : decode cX12_consist 0 = .ok (.iload_n 2, 1) := dc_28 (by decide +kernel)
theorem dX12_consist_1 : decode cX12_consist 1 = .ok (.ifCond .ge 5, 3) := dc_156 (a := 0) (b := 5) (by decide +kernel) (by decide)
theorem dX12_consist_4 : decode cX12_consist 4 = .ok (.iconst (-1), 1) := dc_2 (by decide +kernel)
theorem dX12_consist_5 : decode cX12_consist 5 = .ok (.ireturn, 1) := dc_172 (by decide +kernel)
theorem dX12_consist_6 : decode cX12_consist 6 = .ok (.aload_n 0, 1) := dc_42 (by decide +kernel)
theorem dX12_consist_7 : decode cX12_consist 7 = .ok (.invokevirtual 226, 3) := dc_182 (a := 0) (b := 226) (by decide +kernel)
theorem dX12_consist_10 : decode cX12_consist 10 = .ok (.aload_n 0, 1) := dc_42 (by decide +kernel)
theorem dX12_consist_11 : decode cX12_consist 11 = .ok (.aload_n 0, 1) := dc_42 (by decide +kernel)
theorem dX12_consist_12 : decode cX12_consist 12 = .ok (.iload_n 1, 1) := dc_27 (by decide +kernel)
theorem dX12_consist_13 : decode cX12_consist 13 = .ok (.iconst 0, 1) := dc_3 (by decide +kernel)
theorem dX12_consist_14 : decode cX12_consist 14 = .ok (.invokevirtual 293, 3) := dc_182 (a := 1) (b := 37) (by decide +kernel)
theorem dX12_consist_17 : decode cX12_consist 17 = .ok (.invokevirtual 236, 3) := dc_182 (a := 0) (b := 236) (by decide +kernel)
theorem dX12_consist_20 : decode cX12_consist 20 = .ok (.ifCond .eq 6, 3) := dc_153 (a := 0) (b := 6) (by decide +kernel) (by decide)
theorem dX12_consist_23 : decode cX12_consist 23 = .ok (.bipush (-2), 2) := dc_16 (a := 254) (by decide +kernel) (by decide)
theorem dX12_consist_25 : decode cX12_consist 25 = .ok (.ireturn, 1) := dc_172 (by decide +kernel)
theorem dX12_consist_26 : decode cX12_consist 26 = .ok (.aload_n 0, 1) := dc_42 (by decide +kernel)
theorem dX12_consist_27 : decode cX12_consist 27 = .ok (.iload_n 1, 1) := dc_27 (by decide +kernel)
theorem dX12_consist_28 : decode cX12_consist 28 = .ok (.invokevirtual 325, 3) := dc_182 (a := 1) (b := 69) (by decide +kernel)
theorem dX12_consist_31 : decode cX12_consist 31 = .ok (.iload_n 2, 1) := dc_28 (by decide +kernel)
theorem dX12_consist_32 : decode cX12_consist 32 = .ok (.aload_n 0, 1) := dc_42 (by decide +kernel)
theorem dX12_consist_33 : decode cX12_consist 33 = .ok (.getfield 319, 3) := dc_180 (a := 1) (b := 63) (by decide +kernel)
theorem dX12_consist_36 : decode cX12_consist 36 = .ok (.if_icmp .ge 12, 3) := dc_162 (a := 0) (b := 12) (by decide +kernel) (by decide)
theorem dX12_consist_39 : decode cX12_consist 39 = .ok (.aload_n 0, 1) := dc_42 (by decide +kernel)
theorem dX12_consist_40 : decode cX12_consist 40 = .ok (.getfield 132, 3) := dc_180 (a := 0) (b := 132) (by decide +kernel)
theorem dX12_consist_43 : decode cX12_consist 43 = .ok (.iload_n 2, 1) := dc_28 (by decide +kernel)
theorem dX12_consist_44 : decode cX12_consist 44 = .ok (.iaload, 1) := dc_46 (by decide +kernel)
theorem dX12_consist_45 : decode cX12_consist 45 = .ok (.goto 5, 3) := dc_167 (a := 0) (b := 5) (by decide +kernel) (by decide)
theorem dX12_consist_48 : decode cX12_consist 48 = .ok (.bipush (-4), 2) := dc_16 (a := 252) (by decide +kernel) (by decide)
theorem dX12_consist_50 : decode cX12_consist 50 = .ok (.ireturn, 1) := dc_172 (by decide +kernel)
set_option maxRecDepth 100000 in
set_option maxHeartbeats 4000000 in
theorem m_M_consist (a1 : Int32) (a2 : Int32) (S S' : SS) (r : Int32) (h : f_M_consist a1 a2 S = some (r, S')) : MT yX12_consist cX12_consist 3 (some .int) 2 46 (fun ad => [.ref (ad 0), .int a1, .int a2]) S (some (.int r)) S' := by
  refine MT.of RX12 (fun ad => [(0, .ref (ad 0)), (1, .int a1), (2, .int a2)]) (by decide) rfl (fun _ => Nat.le_of_ble_eq_true rfl) (fun _ => rfl) ?_
  intro p l e R s m args below meth c dC dI cs ad A hR1 hR2 F H locs ls w hl
  have hx := F.1.1
  have hb := F.1.2.1
  rw [f_M_consist] at h
  refine lv_iload_n (pc := 0) hx hb dX12_consist_0 rfl (lv_at hl 2 rfl) ?_
  refine lv_if_ge (pc := 1) (tgt := 6) hx hb dX12_consist_1 (by decide) (fun q => ?_) (fun q => ?_)
  · have h := ite_t q h
    refine lv_aload_n (pc := 6) hx hb dX12_consist_6 rfl (lv_at hl 0 rfl) ?_
    obtain ⟨S1, hc, h⟩ := bndv_t h
    refine s_cvv (pc := 7) [] (fun ad => [.ref (ad 0)]) F w (m_M_begin  _ _ hc) rfl rfl hl.1 ds_0 vc_X12 rfl ok_X12_begin rfl kc_X12_begin kl_X12_226 ki_X12_begin kv_X12_begin kn_X12 ⟨Nat.le_trans (by decide) hR1, Nat.le_trans (by decide) hR2⟩ ⟨Nat.zero_le _, Nat.zero_le _⟩ (Nat.le_of_ble_eq_true rfl) dX12_consist_7 (fun H locs w => ?_)
    refine lv_aload_n (pc := 10) hx hb dX12_consist_10 rfl (lv_at hl 0 rfl) ?_
    refine lv_aload_n (pc := 11) hx hb dX12_consist_11 rfl (lv_at hl 0 rfl) ?_
    refine lv_iload_n (pc := 12) hx hb dX12_consist_12 rfl (lv_at hl 1 rfl) ?_
    refine lv_iconst (pc := 13) (v := 0) hx hb dX12_consist_13 (by decide) ?_
    obtain ⟨r3, S2, hc, h⟩ := bnd_t h
    refine s_cvi (pc := 14) [.int a1, .int (0 : Int32)] (fun ad => [.ref (ad 0), .int a1, .int (0 : Int32)]) F w (m_M_missThing _ _ _ _ _ hc) rfl rfl hl.1 ds_0 vc_X12 rfl ok_X12_missThing rfl kc_X12_missThing kl_X12_293 ki_X12_missThing kv_X12_missThing kn_X12 ⟨Nat.le_trans (by decide) hR1, Nat.le_trans (by decide) hR2⟩ ⟨Nat.zero_le _, Nat.zero_le _⟩ (Nat.le_of_ble_eq_true rfl) dX12_consist_14 (fun H locs w => ?_)
    obtain ⟨r5, S4, hc, h⟩ := bnd_t h
    refine s_cvi (pc := 17) [.int r3] (fun ad => [.ref (ad 0), .int r3]) F w (m_M_ends _ _ _ _ hc) rfl rfl hl.1 ds_0 vc_X12 rfl ok_X12_ends rfl kc_X12_ends kl_X12_236 ki_X12_ends kv_X12_ends kn_X12 ⟨Nat.le_trans (by decide) hR1, Nat.le_trans (by decide) hR2⟩ ⟨Nat.zero_le _, Nat.zero_le _⟩ (Nat.le_of_ble_eq_true rfl) dX12_consist_17 (fun H locs w => ?_)
    refine lv_if_eq (pc := 20) (tgt := 26) hx hb dX12_consist_20 (by decide) (fun q => ?_) (fun q => ?_)
    · have h := ite_t q h
      refine lv_aload_n (pc := 26) hx hb dX12_consist_26 rfl (lv_at hl 0 rfl) ?_
      refine lv_iload_n (pc := 27) hx hb dX12_consist_27 rfl (lv_at hl 1 rfl) ?_
      obtain ⟨S6, hc, h⟩ := bndv_t h
      refine s_cvv (pc := 28) [.int a1] (fun ad => [.ref (ad 0), .int a1]) F w (m_M_lineUp _ _ _ hc) rfl rfl hl.1 ds_0 vc_X12 rfl ok_X12_lineUp rfl kc_X12_lineUp kl_X12_325 ki_X12_lineUp kv_X12_lineUp kn_X12 ⟨Nat.le_trans (by decide) hR1, Nat.le_trans (by decide) hR2⟩ ⟨Nat.zero_le _, Nat.zero_le _⟩ (Nat.le_of_ble_eq_true rfl) dX12_consist_28 (fun H locs w => ?_)
      refine lv_iload_n (pc := 31) hx hb dX12_consist_31 rfl (lv_at hl 2 rfl) ?_
      refine lv_aload_n (pc := 32) hx hb dX12_consist_32 rfl (lv_at hl 0 rfl) ?_
      refine s_getI (pc := 33) F w ds_0 (j := 56) vc_X12 vi_X12 rfl (by decide) kf_X12_319 dX12_consist_33 ?_
      refine lv_icmp_ge (pc := 36) (tgt := 48) hx hb dX12_consist_36 (by decide) (fun q => ?_) (fun q => ?_)
      · have h := ite_t q h
        refine lv_bipush (pc := 48) (v := -4) hx hb dX12_consist_48 (by decide) ?_
        exact s_iret F w h dX12_consist_50
      · have h := ite_f q h
        refine lv_aload_n (pc := 39) hx hb dX12_consist_39 rfl (lv_at hl 0 rfl) ?_
        refine s_getR (pc := 40) F w 39 ds_0 (j := 55) vc_X12 vi_X12 rfl (by decide) kf_X12_132 dX12_consist_40 ?_
        refine lv_iload_n (pc := 43) hx hb dX12_consist_43 rfl (lv_at hl 2 rfl) ?_
        refine s_iald (pc := 44) F w ds_39 h dX12_consist_44 (fun h => ?_)
        refine lv_goto (pc := 45) (tgt := 50) hx hb dX12_consist_45 (by decide) ?_
        exact s_iret F w h dX12_consist_50
    · have h := ite_f q h
      refine lv_bipush (pc := 23) (v := -2) hx hb dX12_consist_23 (by decide) ?_
      exact s_iret F w h dX12_consist_25
  · have h := ite_f q h
    refine lv_iconst (pc := 4) (v := -1) hx hb dX12_consist_4 (by decide) ?_
    exact s_iret F w h dX12_consist_5
def f_M_finding (a1 : Int32) (S : SS) : Option (Int32 × SS) :=
  if a1 = 0 then
    some (S.1 0 0, S)
  else
    if a1 = (1 : Int32) then
      some (S.1 0 1, S)
    else
      if a1 = (2 : Int32) then
        some (S.1 0 2, S)
      else
        if a1 = (3 : Int32) then
          some (S.1 0 3, S)
        else
          some ((-1 : Int32), S)
theorem dX12_finding_0 : decode cX12_finding 0 = .ok (.iload_n 1, 1) := dc_27 (by decide +kernel)
theorem dX12_finding_1 : decode cX12_finding 1 = .ok (.ifCond .ne 10, 3) := dc_154 (a := 0) (b := 10) (by decide +kernel) (by decide)
theorem dX12_finding_4 : decode cX12_finding 4 = .ok (.aload_n 0, 1) := dc_42 (by decide +kernel)
theorem dX12_finding_5 : decode cX12_finding 5 = .ok (.getfield 201, 3) := dc_180 (a := 0) (b := 201) (by decide +kernel)
theorem dX12_finding_8 : decode cX12_finding 8 = .ok (.goto 40, 3) := dc_167 (a := 0) (b := 40) (by decide +kernel) (by decide)
theorem dX12_finding_11 : decode cX12_finding 11 = .ok (.iload_n 1, 1) := dc_27 (by decide +kernel)
theorem dX12_finding_12 : decode cX12_finding 12 = .ok (.iconst 1, 1) := dc_4 (by decide +kernel)
theorem dX12_finding_13 : decode cX12_finding 13 = .ok (.if_icmp .ne 10, 3) := dc_160 (a := 0) (b := 10) (by decide +kernel) (by decide)
theorem dX12_finding_16 : decode cX12_finding 16 = .ok (.aload_n 0, 1) := dc_42 (by decide +kernel)
theorem dX12_finding_17 : decode cX12_finding 17 = .ok (.getfield 9, 3) := dc_180 (a := 0) (b := 9) (by decide +kernel)
theorem dX12_finding_20 : decode cX12_finding 20 = .ok (.goto 28, 3) := dc_167 (a := 0) (b := 28) (by decide +kernel) (by decide)
theorem dX12_finding_23 : decode cX12_finding 23 = .ok (.iload_n 1, 1) := dc_27 (by decide +kernel)
theorem dX12_finding_24 : decode cX12_finding 24 = .ok (.iconst 2, 1) := dc_5 (by decide +kernel)
theorem dX12_finding_25 : decode cX12_finding 25 = .ok (.if_icmp .ne 10, 3) := dc_160 (a := 0) (b := 10) (by decide +kernel) (by decide)
theorem dX12_finding_28 : decode cX12_finding 28 = .ok (.aload_n 0, 1) := dc_42 (by decide +kernel)
theorem dX12_finding_29 : decode cX12_finding 29 = .ok (.getfield 204, 3) := dc_180 (a := 0) (b := 204) (by decide +kernel)
theorem dX12_finding_32 : decode cX12_finding 32 = .ok (.goto 16, 3) := dc_167 (a := 0) (b := 16) (by decide +kernel) (by decide)
theorem dX12_finding_35 : decode cX12_finding 35 = .ok (.iload_n 1, 1) := dc_27 (by decide +kernel)
theorem dX12_finding_36 : decode cX12_finding 36 = .ok (.iconst 3, 1) := dc_6 (by decide +kernel)
theorem dX12_finding_37 : decode cX12_finding 37 = .ok (.if_icmp .ne 10, 3) := dc_160 (a := 0) (b := 10) (by decide +kernel) (by decide)
theorem dX12_finding_40 : decode cX12_finding 40 = .ok (.aload_n 0, 1) := dc_42 (by decide +kernel)
theorem dX12_finding_41 : decode cX12_finding 41 = .ok (.getfield 13, 3) := dc_180 (a := 0) (b := 13) (by decide +kernel)
theorem dX12_finding_44 : decode cX12_finding 44 = .ok (.goto 4, 3) := dc_167 (a := 0) (b := 4) (by decide +kernel) (by decide)
theorem dX12_finding_47 : decode cX12_finding 47 = .ok (.iconst (-1), 1) := dc_2 (by decide +kernel)
theorem dX12_finding_48 : decode cX12_finding 48 = .ok (.ireturn, 1) := dc_172 (by decide +kernel)
set_option maxRecDepth 100000 in
set_option maxHeartbeats 4000000 in
theorem m_M_finding (a1 : Int32) (S S' : SS) (r : Int32) (h : f_M_finding a1 S = some (r, S')) : MT yX12_finding cX12_finding 2 (some .int) 0 0 (fun ad => [.ref (ad 0), .int a1]) S (some (.int r)) S' := by
  refine MT.of RX12 (fun ad => [(0, .ref (ad 0)), (1, .int a1)]) (by decide) rfl (fun _ => Nat.le_of_ble_eq_true rfl) (fun _ => rfl) ?_
  intro p l e R s m args below meth c dC dI cs ad A hR1 hR2 F H locs ls w hl
  have hx := F.1.1
  have hb := F.1.2.1
  rw [f_M_finding] at h
  refine lv_iload_n (pc := 0) hx hb dX12_finding_0 rfl (lv_at hl 1 rfl) ?_
  refine lv_if_ne (pc := 1) (tgt := 11) hx hb dX12_finding_1 (by decide) (fun q => ?_) (fun q => ?_)
  · have h := ite_f q h
    refine lv_iload_n (pc := 11) hx hb dX12_finding_11 rfl (lv_at hl 1 rfl) ?_
    refine lv_iconst (pc := 12) (v := 1) hx hb dX12_finding_12 (by decide) ?_
    refine lv_icmp_ne (pc := 13) (tgt := 23) hx hb dX12_finding_13 (by decide) (fun q => ?_) (fun q => ?_)
    · have h := ite_f q h
      refine lv_iload_n (pc := 23) hx hb dX12_finding_23 rfl (lv_at hl 1 rfl) ?_
      refine lv_iconst (pc := 24) (v := 2) hx hb dX12_finding_24 (by decide) ?_
      refine lv_icmp_ne (pc := 25) (tgt := 35) hx hb dX12_finding_25 (by decide) (fun q => ?_) (fun q => ?_)
      · have h := ite_f q h
        refine lv_iload_n (pc := 35) hx hb dX12_finding_35 rfl (lv_at hl 1 rfl) ?_
        refine lv_iconst (pc := 36) (v := 3) hx hb dX12_finding_36 (by decide) ?_
        refine lv_icmp_ne (pc := 37) (tgt := 47) hx hb dX12_finding_37 (by decide) (fun q => ?_) (fun q => ?_)
        · have h := ite_f q h
          refine lv_iconst (pc := 47) (v := -1) hx hb dX12_finding_47 (by decide) ?_
          exact s_iret F w h dX12_finding_48
        · have h := ite_t q h
          refine lv_aload_n (pc := 40) hx hb dX12_finding_40 rfl (lv_at hl 0 rfl) ?_
          refine s_getI (pc := 41) F w ds_0 (j := 3) vc_X12 vi_X12 rfl (by decide) kf_X12_13 dX12_finding_41 ?_
          refine lv_goto (pc := 44) (tgt := 48) hx hb dX12_finding_44 (by decide) ?_
          exact s_iret F w h dX12_finding_48
      · have h := ite_t q h
        refine lv_aload_n (pc := 28) hx hb dX12_finding_28 rfl (lv_at hl 0 rfl) ?_
        refine s_getI (pc := 29) F w ds_0 (j := 2) vc_X12 vi_X12 rfl (by decide) kf_X12_204 dX12_finding_29 ?_
        refine lv_goto (pc := 32) (tgt := 48) hx hb dX12_finding_32 (by decide) ?_
        exact s_iret F w h dX12_finding_48
    · have h := ite_t q h
      refine lv_aload_n (pc := 16) hx hb dX12_finding_16 rfl (lv_at hl 0 rfl) ?_
      refine s_getI (pc := 17) F w ds_0 (j := 1) vc_X12 vi_X12 rfl (by decide) kf_X12_9 dX12_finding_17 ?_
      refine lv_goto (pc := 20) (tgt := 48) hx hb dX12_finding_20 (by decide) ?_
      exact s_iret F w h dX12_finding_48
  · have h := ite_t q h
    refine lv_aload_n (pc := 4) hx hb dX12_finding_4 rfl (lv_at hl 0 rfl) ?_
    refine s_getI (pc := 5) F w ds_0 (j := 0) vc_X12 vi_X12 rfl (by decide) kf_X12_201 dX12_finding_5 ?_
    refine lv_goto (pc := 8) (tgt := 48) hx hb dX12_finding_8 (by decide) ?_
    exact s_iret F w h dX12_finding_48
def f_M_count_j111 (K88 : Int32 → Int32 → SS → Option (Int32 × SS)) (x3 : Int32) (y0 : Int32) (y1 : Int32) (S : SS) : Option (Int32 × SS) :=
    nm (y1 + y0) (fun z3 =>
    nm (x3 + (1 : Int32)) (fun z4 =>
    K88 z3 z4 S))
def f_M_count_L88  : Nat → Int32 → Int32 → SS → Option (Int32 × SS)
  | 0, _, _, _ => none
  | n + 1, x2, x3, S =>
    if (S.1 0 29) ≤ x3 then
      some (x2, S)
    else
      grd (inb x3 72) (
      if (S.1 19 x3.toNatClampNeg) = 0 then
        f_M_count_j111 (fun v0 v1 S => f_M_count_L88 n v0 v1 S) x3 (0 : Int32) x2 S
      else
        f_M_count_j111 (fun v0 v1 S => f_M_count_L88 n v0 v1 S) x3 (1 : Int32) x2 S)
def f_M_count_j18  (x1 : Int32) (S : SS) : Option (Int32 × SS) :=
    if x1 = (-9 : Int32) then
      some (S.1 0 61, S)
    else
    if x1 = (-8 : Int32) then
      some (S.1 0 60, S)
    else
    if x1 = (-7 : Int32) then
      some (S.1 0 19, S)
    else
    if x1 = (-6 : Int32) then
      some (S.1 0 15, S)
    else
    if x1 = (-5 : Int32) then
      some (S.1 0 49, S)
    else
    if x1 = (-4 : Int32) then
      some (S.1 0 48, S)
    else
    if x1 = (-3 : Int32) then
      bnd (f_M_running  S) (fun r2 S1 =>
      some (r2, S1))
    else
    if x1 = (-2 : Int32) then
      f_M_count_L88 NF (0 : Int32) (0 : Int32) S
    else
    if x1 = (-1 : Int32) then
      some (S.1 0 29, S)
    else
    if x1 = (0 : Int32) then
      some (S.1 0 7, S)
    else
    some ((-1 : Int32), S)
def f_M_count (a1 : Int32) (S : SS) : Option (Int32 × SS) :=
  if a1 < (1 : Int32) then
    f_M_count_j18 a1 S
  else
    if (17 : Int32) < a1 then
      f_M_count_j18 a1 S
    else
      grd (inb a1 18) (
      some (S.1 1 a1.toNatClampNeg, S))
theorem dX12_count_0 : decode cX12_count 0 = .ok (.iload_n 1, 1) := dc_27 (by decide +kernel)
theorem dX12_count_1 : decode cX12_count 1 = .ok (.iconst 1, 1) := dc_4 (by decide +kernel)
theorem dX12_count_2 : decode cX12_count 2 = .ok (.if_icmp .lt 16, 3) := dc_161 (a := 0) (b := 16) (by decide +kernel) (by decide)
theorem dX12_count_5 : decode cX12_count 5 = .ok (.iload_n 1, 1) := dc_27 (by decide +kernel)
theorem dX12_count_6 : decode cX12_count 6 = .ok (.bipush 17, 2) := dc_16 (a := 17) (by decide +kernel) (by decide)
theorem dX12_count_8 : decode cX12_count 8 = .ok (.if_icmp .gt 10, 3) := dc_163 (a := 0) (b := 10) (by decide +kernel) (by decide)
theorem dX12_count_11 : decode cX12_count 11 = .ok (.aload_n 0, 1) := dc_42 (by decide +kernel)
theorem dX12_count_12 : decode cX12_count 12 = .ok (.getfield 16, 3) := dc_180 (a := 0) (b := 16) (by decide +kernel)
theorem dX12_count_15 : decode cX12_count 15 = .ok (.iload_n 1, 1) := dc_27 (by decide +kernel)
theorem dX12_count_16 : decode cX12_count 16 = .ok (.iaload, 1) := dc_46 (by decide +kernel)
theorem dX12_count_17 : decode cX12_count 17 = .ok (.ireturn, 1) := dc_172 (by decide +kernel)
theorem dX12_count_18 : decode cX12_count 18 = .ok (.iconst 0, 1) := dc_3 (by decide +kernel)
theorem dX12_count_19 : decode cX12_count 19 = .ok (.istore_n 2, 1) := dc_61 (by decide +kernel)
theorem dX12_count_20 : decode cX12_count 20 = .ok (.iload_n 1, 1) := dc_27 (by decide +kernel)
theorem dX12_count_21 : decode cX12_count 21 = .ok (.tableswitch 135 (-9) 0 #[130, 125, 120, 115, 110, 105, 100, 65, 60, 55], 55) := by decide +kernel
theorem dX12_count_76 : decode cX12_count 76 = .ok (.aload_n 0, 1) := dc_42 (by decide +kernel)
theorem dX12_count_77 : decode cX12_count 77 = .ok (.getfield 214, 3) := dc_180 (a := 0) (b := 214) (by decide +kernel)
theorem dX12_count_80 : decode cX12_count 80 = .ok (.ireturn, 1) := dc_172 (by decide +kernel)
theorem dX12_count_81 : decode cX12_count 81 = .ok (.aload_n 0, 1) := dc_42 (by decide +kernel)
theorem dX12_count_82 : decode cX12_count 82 = .ok (.getfield 269, 3) := dc_180 (a := 1) (b := 13) (by decide +kernel)
theorem dX12_count_85 : decode cX12_count 85 = .ok (.ireturn, 1) := dc_172 (by decide +kernel)
theorem dX12_count_86 : decode cX12_count 86 = .ok (.iconst 0, 1) := dc_3 (by decide +kernel)
theorem dX12_count_87 : decode cX12_count 87 = .ok (.istore_n 3, 1) := dc_62 (by decide +kernel)
theorem dX12_count_88 : decode cX12_count 88 = .ok (.iload_n 3, 1) := dc_29 (by decide +kernel)
theorem dX12_count_89 : decode cX12_count 89 = .ok (.aload_n 0, 1) := dc_42 (by decide +kernel)
theorem dX12_count_90 : decode cX12_count 90 = .ok (.getfield 269, 3) := dc_180 (a := 1) (b := 13) (by decide +kernel)
theorem dX12_count_93 : decode cX12_count 93 = .ok (.if_icmp .ge 26, 3) := dc_162 (a := 0) (b := 26) (by decide +kernel) (by decide)
theorem dX12_count_96 : decode cX12_count 96 = .ok (.iload_n 2, 1) := dc_28 (by decide +kernel)
theorem dX12_count_97 : decode cX12_count 97 = .ok (.aload_n 0, 1) := dc_42 (by decide +kernel)
theorem dX12_count_98 : decode cX12_count 98 = .ok (.getfield 72, 3) := dc_180 (a := 0) (b := 72) (by decide +kernel)
theorem dX12_count_101 : decode cX12_count 101 = .ok (.iload_n 3, 1) := dc_29 (by decide +kernel)
theorem dX12_count_102 : decode cX12_count 102 = .ok (.baload, 1) := dc_51 (by decide +kernel)
theorem dX12_count_103 : decode cX12_count 103 = .ok (.ifCond .eq 7, 3) := dc_153 (a := 0) (b := 7) (by decide +kernel) (by decide)
theorem dX12_count_106 : decode cX12_count 106 = .ok (.iconst 1, 1) := dc_4 (by decide +kernel)
theorem dX12_count_107 : decode cX12_count 107 = .ok (.goto 4, 3) := dc_167 (a := 0) (b := 4) (by decide +kernel) (by decide)
theorem dX12_count_110 : decode cX12_count 110 = .ok (.iconst 0, 1) := dc_3 (by decide +kernel)
theorem dX12_count_111 : decode cX12_count 111 = .ok (.iadd, 1) := dc_96 (by decide +kernel)
theorem dX12_count_112 : decode cX12_count 112 = .ok (.istore_n 2, 1) := dc_61 (by decide +kernel)
theorem dX12_count_113 : decode cX12_count 113 = .ok (.iinc 3 1, 3) := dc_132 (a := 3) (b := 1) (by decide +kernel) (by decide)
theorem dX12_count_116 : decode cX12_count 116 = .ok (.goto (-28), 3) := dc_167 (a := 255) (b := 228) (by decide +kernel) (by decide)
theorem dX12_count_119 : decode cX12_count 119 = .ok (.iload_n 2, 1) := dc_28 (by decide +kernel)
theorem dX12_count_120 : decode cX12_count 120 = .ok (.ireturn, 1) := dc_172 (by decide +kernel)
theorem dX12_count_121 : decode cX12_count 121 = .ok (.aload_n 0, 1) := dc_42 (by decide +kernel)
theorem dX12_count_122 : decode cX12_count 122 = .ok (.invokevirtual 432, 3) := dc_182 (a := 1) (b := 176) (by decide +kernel)
theorem dX12_count_125 : decode cX12_count 125 = .ok (.ireturn, 1) := dc_172 (by decide +kernel)
theorem dX12_count_126 : decode cX12_count 126 = .ok (.aload_n 0, 1) := dc_42 (by decide +kernel)
theorem dX12_count_127 : decode cX12_count 127 = .ok (.getfield 334, 3) := dc_180 (a := 1) (b := 78) (by decide +kernel)
theorem dX12_count_130 : decode cX12_count 130 = .ok (.ireturn, 1) := dc_172 (by decide +kernel)
theorem dX12_count_131 : decode cX12_count 131 = .ok (.aload_n 0, 1) := dc_42 (by decide +kernel)
theorem dX12_count_132 : decode cX12_count 132 = .ok (.getfield 272, 3) := dc_180 (a := 1) (b := 16) (by decide +kernel)
theorem dX12_count_135 : decode cX12_count 135 = .ok (.ireturn, 1) := dc_172 (by decide +kernel)
theorem dX12_count_136 : decode cX12_count 136 = .ok (.aload_n 0, 1) := dc_42 (by decide +kernel)
theorem dX12_count_137 : decode cX12_count 137 = .ok (.getfield 217, 3) := dc_180 (a := 0) (b := 217) (by decide +kernel)
theorem dX12_count_140 : decode cX12_count 140 = .ok (.ireturn, 1) := dc_172 (by decide +kernel)
theorem dX12_count_141 : decode cX12_count 141 = .ok (.aload_n 0, 1) := dc_42 (by decide +kernel)
theorem dX12_count_142 : decode cX12_count 142 = .ok (.getfield 220, 3) := dc_180 (a := 0) (b := 220) (by decide +kernel)
theorem dX12_count_145 : decode cX12_count 145 = .ok (.ireturn, 1) := dc_172 (by decide +kernel)
theorem dX12_count_146 : decode cX12_count 146 = .ok (.aload_n 0, 1) := dc_42 (by decide +kernel)
theorem dX12_count_147 : decode cX12_count 147 = .ok (.getfield 328, 3) := dc_180 (a := 1) (b := 72) (by decide +kernel)
theorem dX12_count_150 : decode cX12_count 150 = .ok (.ireturn, 1) := dc_172 (by decide +kernel)
theorem dX12_count_151 : decode cX12_count 151 = .ok (.aload_n 0, 1) := dc_42 (by decide +kernel)
theorem dX12_count_152 : decode cX12_count 152 = .ok (.getfield 331, 3) := dc_180 (a := 1) (b := 75) (by decide +kernel)
theorem dX12_count_155 : decode cX12_count 155 = .ok (.ireturn, 1) := dc_172 (by decide +kernel)
theorem dX12_count_156 : decode cX12_count 156 = .ok (.iconst (-1), 1) := dc_2 (by decide +kernel)
theorem dX12_count_157 : decode cX12_count 157 = .ok (.ireturn, 1) := dc_172 (by decide +kernel)
set_option maxRecDepth 100000 in
set_option maxHeartbeats 4000000 in
theorem w_M_count_j111 {p : Program} {l : Launch} {e : Env} {R : Room} {s : State} {m : MethodId} {args : Array Value} {below : List Frame} {meth : Method} {c : Code} {dC : Nat → ClassId} {dI : Nat → Nat → Nat} {cs : Nat → ClassId} {ad : Nat → Nat} {A : Nat → Prop} {D0 : Nat → Nat} {S' : SS} {r : Int32} (F : Fx p s m args meth c cX12_count 4 RX12 (some .int) dC dI cs A) (hR1 : 0 ≤ R.frames) (hR2 : 0 ≤ R.locals) (K88 : Int32 → Int32 → SS → Option (Int32 × SS)) (hK88 : ∀ (v0 : Int32) (v1 : Int32) (S : SS), K88 v0 v1 S = some (r, S') → AW p l e R s m args below meth c dC dI cs ad A D0 (some (.int r)) S' 4 88 [(0, .ref (ad 0)), (2, .int v0), (3, .int v1)] [] S) (x3 : Int32) (y0 : Int32) (y1 : Int32) (S : SS) (h : f_M_count_j111 K88 x3 y0 y1 S = some (r, S')) : AW p l e R s m args below meth c dC dI cs ad A D0 (some (.int r)) S' 4 111 [(0, .ref (ad 0)), (3, .int x3)] [.int y0, .int y1] S := by
  have hx := F.1.1
  have hb := F.1.2.1
  intro H locs ls w hl
  rw [f_M_count_j111] at h
  refine lv_iadd (pc := 111) hx hb dX12_count_111 ?_
  refine s_nm h (fun z3 ez3 h => ?_)
  rw [← ez3]
  refine lv_istore_n (pc := 112) (lv' := [(2, .int z3), (0, .ref (ad 0)), (3, .int x3)]) hx hb dX12_count_112 rfl hl (by decide) rfl (fun ls hl => ?_)
  refine s_nm h (fun z4 ez4 h => ?_)
  refine lv_iinc (pc := 113) (v := z4) (lv' := [(3, .int z4), (2, .int z3), (0, .ref (ad 0))]) hx hb dX12_count_113 hl (k := 2) rfl (by rw [ez4]; rfl) (by decide) rfl (fun ls hl => ?_)
  refine lv_goto (pc := 116) (tgt := 88) hx hb dX12_count_116 (by decide) ?_
  exact hK88 _ _ _ h _ _ _ w (lv_sub hl [2, 1, 0] rfl)
set_option maxRecDepth 100000 in
set_option maxHeartbeats 4000000 in
theorem w_M_count_L88 {p : Program} {l : Launch} {e : Env} {R : Room} {s : State} {m : MethodId} {args : Array Value} {below : List Frame} {meth : Method} {c : Code} {dC : Nat → ClassId} {dI : Nat → Nat → Nat} {cs : Nat → ClassId} {ad : Nat → Nat} {A : Nat → Prop} {D0 : Nat → Nat} {S' : SS} {r : Int32} (F : Fx p s m args meth c cX12_count 4 RX12 (some .int) dC dI cs A) (hR1 : 0 ≤ R.frames) (hR2 : 0 ≤ R.locals) : ∀ (n : Nat) (x2 : Int32) (x3 : Int32) (S : SS), f_M_count_L88 n x2 x3 S = some (r, S') → AW p l e R s m args below meth c dC dI cs ad A D0 (some (.int r)) S' 4 88 [(0, .ref (ad 0)), (2, .int x2), (3, .int x3)] [] S := by
  have hx := F.1.1
  have hb := F.1.2.1
  intro n
  induction n with
  | zero => intro x2 x3 S h; cases h
  | succ n ih =>
    intro x2 x3 S h H locs ls w hl
    rw [f_M_count_L88] at h
    refine lv_iload_n (pc := 88) hx hb dX12_count_88 rfl (lv_at hl 2 rfl) ?_
    refine lv_aload_n (pc := 89) hx hb dX12_count_89 rfl (lv_at hl 0 rfl) ?_
    refine s_getI (pc := 90) F w ds_0 (j := 29) vc_X12 vi_X12 rfl (by decide) kf_X12_269 dX12_count_90 ?_
    refine lv_icmp_ge (pc := 93) (tgt := 119) hx hb dX12_count_93 (by decide) (fun q => ?_) (fun q => ?_)
    · have h := ite_t q h
      refine lv_iload_n (pc := 119) hx hb dX12_count_119 rfl (lv_at hl 1 rfl) ?_
      exact s_iret F w h dX12_count_120
    · have h := ite_f q h
      refine lv_iload_n (pc := 96) hx hb dX12_count_96 rfl (lv_at hl 1 rfl) ?_
      refine lv_aload_n (pc := 97) hx hb dX12_count_97 rfl (lv_at hl 0 rfl) ?_
      refine s_getR (pc := 98) F w 19 ds_0 (j := 31) vc_X12 vi_X12 rfl (by decide) kf_X12_72 dX12_count_98 ?_
      refine lv_iload_n (pc := 101) hx hb dX12_count_101 rfl (lv_at hl 2 rfl) ?_
      refine s_zald (pc := 102) F w ds_19 h dX12_count_102 (fun h => ?_)
      refine lv_if_eq (pc := 103) (tgt := 110) hx hb dX12_count_103 (by decide) (fun q => ?_) (fun q => ?_)
      · have h := ite_t q h
        refine lv_iconst (pc := 110) (v := 0) hx hb dX12_count_110 (by decide) ?_
        exact w_M_count_j111 F (Nat.le_trans (by decide) hR1) (Nat.le_trans (by decide) hR2) _ (fun v0 v1 S h => ih v0 v1 S h) _ _ _ _ h _ _ _ w (lv_sub hl [0, 2] rfl)
      · have h := ite_f q h
        refine lv_iconst (pc := 106) (v := 1) hx hb dX12_count_106 (by decide) ?_
        refine lv_goto (pc := 107) (tgt := 111) hx hb dX12_count_107 (by decide) ?_
        exact w_M_count_j111 F (Nat.le_trans (by decide) hR1) (Nat.le_trans (by decide) hR2) _ (fun v0 v1 S h => ih v0 v1 S h) _ _ _ _ h _ _ _ w (lv_sub hl [0, 2] rfl)
set_option maxRecDepth 100000 in
set_option maxHeartbeats 4000000 in
theorem w_M_count_j18 {p : Program} {l : Launch} {e : Env} {R : Room} {s : State} {m : MethodId} {args : Array Value} {below : List Frame} {meth : Method} {c : Code} {dC : Nat → ClassId} {dI : Nat → Nat → Nat} {cs : Nat → ClassId} {ad : Nat → Nat} {A : Nat → Prop} {D0 : Nat → Nat} {S' : SS} {r : Int32} (F : Fx p s m args meth c cX12_count 4 RX12 (some .int) dC dI cs A) (hR1 : 1 ≤ R.frames) (hR2 : 22 ≤ R.locals) (x1 : Int32) (S : SS) (h : f_M_count_j18 x1 S = some (r, S')) : AW p l e R s m args below meth c dC dI cs ad A D0 (some (.int r)) S' 4 18 [(0, .ref (ad 0)), (1, .int x1)] [] S := by
  have hx := F.1.1
  have hb := F.1.2.1
  intro H locs ls w hl
  rw [f_M_count_j18] at h
  refine lv_iconst (pc := 18) (v := 0) hx hb dX12_count_18 (by decide) ?_
  refine lv_istore_n (pc := 19) (lv' := [(2, .int (0 : Int32)), (0, .ref (ad 0)), (1, .int x1)]) hx hb dX12_count_19 rfl hl (by decide) rfl (fun ls hl => ?_)
  refine lv_iload_n (pc := 20) hx hb dX12_count_20 rfl (lv_at hl 2 rfl) ?_
  rcases Decidable.em (x1 = (-9 : Int32)) with qm9 | qm9
  · refine lv_tableIn (pc := 21) (tgt := 151) (off := 130) hx hb dX12_count_21 (by rw [qm9]; decide) (by rw [qm9]; decide) (by rw [qm9]; rfl) (by decide) ?_
    have h := ite_t qm9 h
    refine lv_aload_n (pc := 151) hx hb dX12_count_151 rfl (lv_at hl 1 rfl) ?_
    refine s_getI (pc := 152) F w ds_0 (j := 61) vc_X12 vi_X12 rfl (by decide) kf_X12_331 dX12_count_152 ?_
    exact s_iret F w h dX12_count_155
  have h := ite_f qm9 h
  rcases Decidable.em (x1 = (-8 : Int32)) with qm8 | qm8
  · refine lv_tableIn (pc := 21) (tgt := 146) (off := 125) hx hb dX12_count_21 (by rw [qm8]; decide) (by rw [qm8]; decide) (by rw [qm8]; rfl) (by decide) ?_
    have h := ite_t qm8 h
    refine lv_aload_n (pc := 146) hx hb dX12_count_146 rfl (lv_at hl 1 rfl) ?_
    refine s_getI (pc := 147) F w ds_0 (j := 60) vc_X12 vi_X12 rfl (by decide) kf_X12_328 dX12_count_147 ?_
    exact s_iret F w h dX12_count_150
  have h := ite_f qm8 h
  rcases Decidable.em (x1 = (-7 : Int32)) with qm7 | qm7
  · refine lv_tableIn (pc := 21) (tgt := 141) (off := 120) hx hb dX12_count_21 (by rw [qm7]; decide) (by rw [qm7]; decide) (by rw [qm7]; rfl) (by decide) ?_
    have h := ite_t qm7 h
    refine lv_aload_n (pc := 141) hx hb dX12_count_141 rfl (lv_at hl 1 rfl) ?_
    refine s_getI (pc := 142) F w ds_0 (j := 19) vc_X12 vi_X12 rfl (by decide) kf_X12_220 dX12_count_142 ?_
    exact s_iret F w h dX12_count_145
  have h := ite_f qm7 h
  rcases Decidable.em (x1 = (-6 : Int32)) with qm6 | qm6
  · refine lv_tableIn (pc := 21) (tgt := 136) (off := 115) hx hb dX12_count_21 (by rw [qm6]; decide) (by rw [qm6]; decide) (by rw [qm6]; rfl) (by decide) ?_
    have h := ite_t qm6 h
    refine lv_aload_n (pc := 136) hx hb dX12_count_136 rfl (lv_at hl 1 rfl) ?_
    refine s_getI (pc := 137) F w ds_0 (j := 15) vc_X12 vi_X12 rfl (by decide) kf_X12_217 dX12_count_137 ?_
    exact s_iret F w h dX12_count_140
  have h := ite_f qm6 h
  rcases Decidable.em (x1 = (-5 : Int32)) with qm5 | qm5
  · refine lv_tableIn (pc := 21) (tgt := 131) (off := 110) hx hb dX12_count_21 (by rw [qm5]; decide) (by rw [qm5]; decide) (by rw [qm5]; rfl) (by decide) ?_
    have h := ite_t qm5 h
    refine lv_aload_n (pc := 131) hx hb dX12_count_131 rfl (lv_at hl 1 rfl) ?_
    refine s_getI (pc := 132) F w ds_0 (j := 49) vc_X12 vi_X12 rfl (by decide) kf_X12_272 dX12_count_132 ?_
    exact s_iret F w h dX12_count_135
  have h := ite_f qm5 h
  rcases Decidable.em (x1 = (-4 : Int32)) with qm4 | qm4
  · refine lv_tableIn (pc := 21) (tgt := 126) (off := 105) hx hb dX12_count_21 (by rw [qm4]; decide) (by rw [qm4]; decide) (by rw [qm4]; rfl) (by decide) ?_
    have h := ite_t qm4 h
    refine lv_aload_n (pc := 126) hx hb dX12_count_126 rfl (lv_at hl 1 rfl) ?_
    refine s_getI (pc := 127) F w ds_0 (j := 48) vc_X12 vi_X12 rfl (by decide) kf_X12_334 dX12_count_127 ?_
    exact s_iret F w h dX12_count_130
  have h := ite_f qm4 h
  rcases Decidable.em (x1 = (-3 : Int32)) with qm3 | qm3
  · refine lv_tableIn (pc := 21) (tgt := 121) (off := 100) hx hb dX12_count_21 (by rw [qm3]; decide) (by rw [qm3]; decide) (by rw [qm3]; rfl) (by decide) ?_
    have h := ite_t qm3 h
    refine lv_aload_n (pc := 121) hx hb dX12_count_121 rfl (lv_at hl 1 rfl) ?_
    obtain ⟨r2, S1, hc, h⟩ := bnd_t h
    refine s_cvi (pc := 122) [] (fun ad => [.ref (ad 0)]) F w (m_M_running  _ _ _ hc) rfl rfl hl.1 ds_0 vc_X12 rfl ok_X12_running rfl kc_X12_running kl_X12_432 ki_X12_running kv_X12_running kn_X12 ⟨Nat.le_trans (by decide) hR1, Nat.le_trans (by decide) hR2⟩ ⟨Nat.zero_le _, Nat.zero_le _⟩ (Nat.le_of_ble_eq_true rfl) dX12_count_122 (fun H locs w => ?_)
    exact s_iret F w h dX12_count_125
  have h := ite_f qm3 h
  rcases Decidable.em (x1 = (-2 : Int32)) with qm2 | qm2
  · refine lv_tableIn (pc := 21) (tgt := 86) (off := 65) hx hb dX12_count_21 (by rw [qm2]; decide) (by rw [qm2]; decide) (by rw [qm2]; rfl) (by decide) ?_
    have h := ite_t qm2 h
    refine lv_iconst (pc := 86) (v := 0) hx hb dX12_count_86 (by decide) ?_
    refine lv_istore_n (pc := 87) (lv' := [(3, .int (0 : Int32)), (2, .int (0 : Int32)), (0, .ref (ad 0)), (1, .int x1)]) hx hb dX12_count_87 rfl hl (by decide) rfl (fun ls hl => ?_)
    exact w_M_count_L88 F (Nat.le_trans (by decide) hR1) (Nat.le_trans (by decide) hR2) _ _ _ _ h _ _ _ w (lv_sub hl [2, 1, 0] rfl)
  have h := ite_f qm2 h
  rcases Decidable.em (x1 = (-1 : Int32)) with qm1 | qm1
  · refine lv_tableIn (pc := 21) (tgt := 81) (off := 60) hx hb dX12_count_21 (by rw [qm1]; decide) (by rw [qm1]; decide) (by rw [qm1]; rfl) (by decide) ?_
    have h := ite_t qm1 h
    refine lv_aload_n (pc := 81) hx hb dX12_count_81 rfl (lv_at hl 1 rfl) ?_
    refine s_getI (pc := 82) F w ds_0 (j := 29) vc_X12 vi_X12 rfl (by decide) kf_X12_269 dX12_count_82 ?_
    exact s_iret F w h dX12_count_85
  have h := ite_f qm1 h
  rcases Decidable.em (x1 = (0 : Int32)) with q0 | q0
  · refine lv_tableIn (pc := 21) (tgt := 76) (off := 55) hx hb dX12_count_21 (by rw [q0]; decide) (by rw [q0]; decide) (by rw [q0]; rfl) (by decide) ?_
    have h := ite_t q0 h
    refine lv_aload_n (pc := 76) hx hb dX12_count_76 rfl (lv_at hl 1 rfl) ?_
    refine s_getI (pc := 77) F w ds_0 (j := 7) vc_X12 vi_X12 rfl (by decide) kf_X12_214 dX12_count_77 ?_
    exact s_iret F w h dX12_count_80
  have h := ite_f q0 h
  refine lv_tableOut (pc := 21) (tgt := 156) hx hb dX12_count_21 (by have zqm9 := i32ne qm9 (show ((-9 : Int32)).toInt = (-9) by decide); have zqm8 := i32ne qm8 (show ((-8 : Int32)).toInt = (-8) by decide); have zqm7 := i32ne qm7 (show ((-7 : Int32)).toInt = (-7) by decide); have zqm6 := i32ne qm6 (show ((-6 : Int32)).toInt = (-6) by decide); have zqm5 := i32ne qm5 (show ((-5 : Int32)).toInt = (-5) by decide); have zqm4 := i32ne qm4 (show ((-4 : Int32)).toInt = (-4) by decide); have zqm3 := i32ne qm3 (show ((-3 : Int32)).toInt = (-3) by decide); have zqm2 := i32ne qm2 (show ((-2 : Int32)).toInt = (-2) by decide); have zqm1 := i32ne qm1 (show ((-1 : Int32)).toInt = (-1) by decide); have zq0 := i32ne q0 (show ((0 : Int32)).toInt = 0 by decide); omega) (by decide) ?_
  refine lv_iconst (pc := 156) (v := -1) hx hb dX12_count_156 (by decide) ?_
  exact s_iret F w h dX12_count_157
set_option maxRecDepth 100000 in
set_option maxHeartbeats 4000000 in
theorem m_M_count (a1 : Int32) (S S' : SS) (r : Int32) (h : f_M_count a1 S = some (r, S')) : MT yX12_count cX12_count 4 (some .int) 1 22 (fun ad => [.ref (ad 0), .int a1]) S (some (.int r)) S' := by
  refine MT.of RX12 (fun ad => [(0, .ref (ad 0)), (1, .int a1)]) (by decide) rfl (fun _ => Nat.le_of_ble_eq_true rfl) (fun _ => rfl) ?_
  intro p l e R s m args below meth c dC dI cs ad A hR1 hR2 F H locs ls w hl
  have hx := F.1.1
  have hb := F.1.2.1
  rw [f_M_count] at h
  refine lv_iload_n (pc := 0) hx hb dX12_count_0 rfl (lv_at hl 1 rfl) ?_
  refine lv_iconst (pc := 1) (v := 1) hx hb dX12_count_1 (by decide) ?_
  refine lv_icmp_lt (pc := 2) (tgt := 18) hx hb dX12_count_2 (by decide) (fun q => ?_) (fun q => ?_)
  · have h := ite_t q h
    exact w_M_count_j18 F (Nat.le_trans (by decide) hR1) (Nat.le_trans (by decide) hR2) _ _ h _ _ _ w (lv_sub hl [0, 1] rfl)
  · have h := ite_f q h
    refine lv_iload_n (pc := 5) hx hb dX12_count_5 rfl (lv_at hl 1 rfl) ?_
    refine lv_bipush (pc := 6) (v := 17) hx hb dX12_count_6 (by decide) ?_
    refine lv_icmp_gt (pc := 8) (tgt := 18) hx hb dX12_count_8 (by decide) (fun q => ?_) (fun q => ?_)
    · have h := ite_t q h
      exact w_M_count_j18 F (Nat.le_trans (by decide) hR1) (Nat.le_trans (by decide) hR2) _ _ h _ _ _ w (lv_sub hl [0, 1] rfl)
    · have h := ite_f q h
      refine lv_aload_n (pc := 11) hx hb dX12_count_11 rfl (lv_at hl 0 rfl) ?_
      refine s_getR (pc := 12) F w 1 ds_0 (j := 4) vc_X12 vi_X12 rfl (by decide) kf_X12_16 dX12_count_12 ?_
      refine lv_iload_n (pc := 15) hx hb dX12_count_15 rfl (lv_at hl 1 rfl) ?_
      refine s_iald (pc := 16) F w ds_1 h dX12_count_16 (fun h => ?_)
      exact s_iret F w h dX12_count_17
