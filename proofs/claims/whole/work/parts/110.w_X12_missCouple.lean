/-! ===== printed by wip/gen: X12_missCouple X12_renumber X12_couple X10_cutHook X11_partFrom X11_part X12_part X0_flatWeight X0_tankWeight X0_weight X11_lineWeight X0_isFed X0_enginePulls ===== -/
def f_X12_missCouple_j136  (x1 : Int32) (x4 : Int32) (y0 : Int32) (S : SS) : Option (Int32 × SS) :=
    wr S 14 67 y0 (fun S10 =>
    grd (inb (((2 : Int32) * x4) + (S10.1 14 67)) 144) (
    if (S10.1 90 (((2 : Int32) * x4) + (S10.1 14 67)).toNatClampNeg) = (-4 : Int32) then
      bnd (f_X12_areTogether x1 x4 S10) (fun r12 S11 =>
      if r12 = 0 then
        bnd (f_X12_suits x1 x4 S11) (fun r14 S13 =>
        if r14 = 0 then
          some ((13 : Int32), S13)
        else
          bnd (f_X12_suits x4 x1 S13) (fun r16 S15 =>
          if r16 = 0 then
            some ((13 : Int32), S15)
          else
            some ((0 : Int32), S15)))
      else
        some ((14 : Int32), S11))
    else
      some ((14 : Int32), S10)))
def f_X12_missCouple (a1 : Int32) (a2 : Int32) (S : SS) : Option (Int32 × SS) :=
  bnd (f_X12_missSide a1 (0 : Int32) a2 S) (fun r2 S1 =>
  if r2 = 0 then
    grd (inb (((2 : Int32) * a1) + a2) 144) (
    if (S1.1 90 (((2 : Int32) * a1) + a2).toNatClampNeg) = (-4 : Int32) then
      grd (inb a1 72) (
      if (S1.1 98 a1.toNatClampNeg) = 0 then
        grd (inb a1 72) (
        grd (inb a1 72) (
        bnd (f_X12_wayOf a1 a2 S1) (fun r4 S3 =>
        bnd (f_X12_isOpen (S1.1 87 a1.toNatClampNeg) (S1.1 88 a1.toNatClampNeg) r4 S3) (fun r6 S5 =>
        if r6 = 0 then
          some ((10 : Int32), S5)
        else
          bnd (f_X12_standing (S5.1 14 26) (S5.1 14 27) S5) (fun r8 S7 =>
          if r8 = (-4 : Int32) then
            some ((1 : Int32), S7)
          else
            grd (inb r8 72) (
            if (S7.1 98 r8.toNatClampNeg) = 0 then
              wr S7 14 66 r8 (fun S9 =>
              grd (inb r8 72) (
              if (S9.1 89 r8.toNatClampNeg) = ((1 : Int32) - (S9.1 14 28)) then
                f_X12_missCouple_j136 a1 r8 (0 : Int32) S9
              else
                f_X12_missCouple_j136 a1 r8 (1 : Int32) S9))
            else
              some ((16 : Int32), S7)))))))
      else
        some ((16 : Int32), S1))
    else
      some ((14 : Int32), S1))
  else
    some (r2, S1))
theorem dX12_missCouple_0 : decode cX12_missCouple 0 = .ok (.aload_n 0, 1) := by decide +kernel
theorem dX12_missCouple_1 : decode cX12_missCouple 1 = .ok (.iload_n 1, 1) := by decide +kernel
theorem dX12_missCouple_2 : decode cX12_missCouple 2 = .ok (.iconst 0, 1) := by decide +kernel
theorem dX12_missCouple_3 : decode cX12_missCouple 3 = .ok (.iload_n 2, 1) := by decide +kernel
theorem dX12_missCouple_4 : decode cX12_missCouple 4 = .ok (.invokevirtual 364, 3) := by decide +kernel
theorem dX12_missCouple_7 : decode cX12_missCouple 7 = .ok (.istore_n 3, 1) := by decide +kernel
theorem dX12_missCouple_8 : decode cX12_missCouple 8 = .ok (.iload_n 3, 1) := by decide +kernel
theorem dX12_missCouple_9 : decode cX12_missCouple 9 = .ok (.ifCond .eq 5, 3) := by decide +kernel
theorem dX12_missCouple_12 : decode cX12_missCouple 12 = .ok (.iload_n 3, 1) := by decide +kernel
theorem dX12_missCouple_13 : decode cX12_missCouple 13 = .ok (.ireturn, 1) := by decide +kernel
theorem dX12_missCouple_14 : decode cX12_missCouple 14 = .ok (.aload_n 0, 1) := by decide +kernel
theorem dX12_missCouple_15 : decode cX12_missCouple 15 = .ok (.getfield 84, 3) := by decide +kernel
theorem dX12_missCouple_18 : decode cX12_missCouple 18 = .ok (.iconst 2, 1) := by decide +kernel
theorem dX12_missCouple_19 : decode cX12_missCouple 19 = .ok (.iload_n 1, 1) := by decide +kernel
theorem dX12_missCouple_20 : decode cX12_missCouple 20 = .ok (.imul, 1) := by decide +kernel
theorem dX12_missCouple_21 : decode cX12_missCouple 21 = .ok (.iload_n 2, 1) := by decide +kernel
theorem dX12_missCouple_22 : decode cX12_missCouple 22 = .ok (.iadd, 1) := by decide +kernel
theorem dX12_missCouple_23 : decode cX12_missCouple 23 = .ok (.iaload, 1) := by decide +kernel
theorem dX12_missCouple_24 : decode cX12_missCouple 24 = .ok (.bipush (-4), 2) := by decide +kernel
theorem dX12_missCouple_26 : decode cX12_missCouple 26 = .ok (.if_icmp .eq 6, 3) := by decide +kernel
theorem dX12_missCouple_29 : decode cX12_missCouple 29 = .ok (.bipush 14, 2) := by decide +kernel
theorem dX12_missCouple_31 : decode cX12_missCouple 31 = .ok (.ireturn, 1) := by decide +kernel
theorem dX12_missCouple_32 : decode cX12_missCouple 32 = .ok (.aload_n 0, 1) := by decide +kernel
theorem dX12_missCouple_33 : decode cX12_missCouple 33 = .ok (.getfield 108, 3) := by decide +kernel
theorem dX12_missCouple_36 : decode cX12_missCouple 36 = .ok (.iload_n 1, 1) := by decide +kernel
theorem dX12_missCouple_37 : decode cX12_missCouple 37 = .ok (.baload, 1) := by decide +kernel
theorem dX12_missCouple_38 : decode cX12_missCouple 38 = .ok (.ifCond .eq 6, 3) := by decide +kernel
theorem dX12_missCouple_41 : decode cX12_missCouple 41 = .ok (.bipush 16, 2) := by decide +kernel
theorem dX12_missCouple_43 : decode cX12_missCouple 43 = .ok (.ireturn, 1) := by decide +kernel
theorem dX12_missCouple_44 : decode cX12_missCouple 44 = .ok (.aload_n 0, 1) := by decide +kernel
theorem dX12_missCouple_45 : decode cX12_missCouple 45 = .ok (.aload_n 0, 1) := by decide +kernel
theorem dX12_missCouple_46 : decode cX12_missCouple 46 = .ok (.getfield 75, 3) := by decide +kernel
theorem dX12_missCouple_49 : decode cX12_missCouple 49 = .ok (.iload_n 1, 1) := by decide +kernel
theorem dX12_missCouple_50 : decode cX12_missCouple 50 = .ok (.iaload, 1) := by decide +kernel
theorem dX12_missCouple_51 : decode cX12_missCouple 51 = .ok (.aload_n 0, 1) := by decide +kernel
theorem dX12_missCouple_52 : decode cX12_missCouple 52 = .ok (.getfield 78, 3) := by decide +kernel
theorem dX12_missCouple_55 : decode cX12_missCouple 55 = .ok (.iload_n 1, 1) := by decide +kernel
theorem dX12_missCouple_56 : decode cX12_missCouple 56 = .ok (.iaload, 1) := by decide +kernel
theorem dX12_missCouple_57 : decode cX12_missCouple 57 = .ok (.aload_n 0, 1) := by decide +kernel
theorem dX12_missCouple_58 : decode cX12_missCouple 58 = .ok (.iload_n 1, 1) := by decide +kernel
theorem dX12_missCouple_59 : decode cX12_missCouple 59 = .ok (.iload_n 2, 1) := by decide +kernel
theorem dX12_missCouple_60 : decode cX12_missCouple 60 = .ok (.invokevirtual 368, 3) := by decide +kernel
theorem dX12_missCouple_63 : decode cX12_missCouple 63 = .ok (.invokevirtual 371, 3) := by decide +kernel
theorem dX12_missCouple_66 : decode cX12_missCouple 66 = .ok (.ifCond .ne 6, 3) := by decide +kernel
theorem dX12_missCouple_69 : decode cX12_missCouple 69 = .ok (.bipush 10, 2) := by decide +kernel
theorem dX12_missCouple_71 : decode cX12_missCouple 71 = .ok (.ireturn, 1) := by decide +kernel
theorem dX12_missCouple_72 : decode cX12_missCouple 72 = .ok (.aload_n 0, 1) := by decide +kernel
theorem dX12_missCouple_73 : decode cX12_missCouple 73 = .ok (.aload_n 0, 1) := by decide +kernel
theorem dX12_missCouple_74 : decode cX12_missCouple 74 = .ok (.getfield 245, 3) := by decide +kernel
theorem dX12_missCouple_77 : decode cX12_missCouple 77 = .ok (.aload_n 0, 1) := by decide +kernel
theorem dX12_missCouple_78 : decode cX12_missCouple 78 = .ok (.getfield 248, 3) := by decide +kernel
theorem dX12_missCouple_81 : decode cX12_missCouple 81 = .ok (.invokevirtual 279, 3) := by decide +kernel
theorem dX12_missCouple_84 : decode cX12_missCouple 84 = .ok (.istore 4, 2) := by decide +kernel
theorem dX12_missCouple_86 : decode cX12_missCouple 86 = .ok (.iload 4, 2) := by decide +kernel
theorem dX12_missCouple_88 : decode cX12_missCouple 88 = .ok (.bipush (-4), 2) := by decide +kernel
theorem dX12_missCouple_90 : decode cX12_missCouple 90 = .ok (.if_icmp .ne 5, 3) := by decide +kernel
theorem dX12_missCouple_93 : decode cX12_missCouple 93 = .ok (.iconst 1, 1) := by decide +kernel
theorem dX12_missCouple_94 : decode cX12_missCouple 94 = .ok (.ireturn, 1) := by decide +kernel
theorem dX12_missCouple_95 : decode cX12_missCouple 95 = .ok (.aload_n 0, 1) := by decide +kernel
theorem dX12_missCouple_96 : decode cX12_missCouple 96 = .ok (.getfield 108, 3) := by decide +kernel
theorem dX12_missCouple_99 : decode cX12_missCouple 99 = .ok (.iload 4, 2) := by decide +kernel
theorem dX12_missCouple_101 : decode cX12_missCouple 101 = .ok (.baload, 1) := by decide +kernel
theorem dX12_missCouple_102 : decode cX12_missCouple 102 = .ok (.ifCond .eq 6, 3) := by decide +kernel
theorem dX12_missCouple_105 : decode cX12_missCouple 105 = .ok (.bipush 16, 2) := by decide +kernel
theorem dX12_missCouple_107 : decode cX12_missCouple 107 = .ok (.ireturn, 1) := by decide +kernel
theorem dX12_missCouple_108 : decode cX12_missCouple 108 = .ok (.aload_n 0, 1) := by decide +kernel
theorem dX12_missCouple_109 : decode cX12_missCouple 109 = .ok (.iload 4, 2) := by decide +kernel
theorem dX12_missCouple_111 : decode cX12_missCouple 111 = .ok (.putfield 375, 3) := by decide +kernel
theorem dX12_missCouple_114 : decode cX12_missCouple 114 = .ok (.aload_n 0, 1) := by decide +kernel
theorem dX12_missCouple_115 : decode cX12_missCouple 115 = .ok (.aload_n 0, 1) := by decide +kernel
theorem dX12_missCouple_116 : decode cX12_missCouple 116 = .ok (.getfield 81, 3) := by decide +kernel
theorem dX12_missCouple_119 : decode cX12_missCouple 119 = .ok (.iload 4, 2) := by decide +kernel
theorem dX12_missCouple_121 : decode cX12_missCouple 121 = .ok (.iaload, 1) := by decide +kernel
theorem dX12_missCouple_122 : decode cX12_missCouple 122 = .ok (.iconst 1, 1) := by decide +kernel
theorem dX12_missCouple_123 : decode cX12_missCouple 123 = .ok (.aload_n 0, 1) := by decide +kernel
theorem dX12_missCouple_124 : decode cX12_missCouple 124 = .ok (.getfield 251, 3) := by decide +kernel
theorem dX12_missCouple_127 : decode cX12_missCouple 127 = .ok (.isub, 1) := by decide +kernel
theorem dX12_missCouple_128 : decode cX12_missCouple 128 = .ok (.if_icmp .ne 7, 3) := by decide +kernel
theorem dX12_missCouple_131 : decode cX12_missCouple 131 = .ok (.iconst 0, 1) := by decide +kernel
theorem dX12_missCouple_132 : decode cX12_missCouple 132 = .ok (.goto 4, 3) := by decide +kernel
theorem dX12_missCouple_135 : decode cX12_missCouple 135 = .ok (.iconst 1, 1) := by decide +kernel
theorem dX12_missCouple_136 : decode cX12_missCouple 136 = .ok (.putfield 378, 3) := by decide +kernel
theorem dX12_missCouple_139 : decode cX12_missCouple 139 = .ok (.aload_n 0, 1) := by decide +kernel
theorem dX12_missCouple_140 : decode cX12_missCouple 140 = .ok (.getfield 84, 3) := by decide +kernel
theorem dX12_missCouple_143 : decode cX12_missCouple 143 = .ok (.iconst 2, 1) := by decide +kernel
theorem dX12_missCouple_144 : decode cX12_missCouple 144 = .ok (.iload 4, 2) := by decide +kernel
theorem dX12_missCouple_146 : decode cX12_missCouple 146 = .ok (.imul, 1) := by decide +kernel
theorem dX12_missCouple_147 : decode cX12_missCouple 147 = .ok (.aload_n 0, 1) := by decide +kernel
theorem dX12_missCouple_148 : decode cX12_missCouple 148 = .ok (.getfield 378, 3) := by decide +kernel
theorem dX12_missCouple_151 : decode cX12_missCouple 151 = .ok (.iadd, 1) := by decide +kernel
theorem dX12_missCouple_152 : decode cX12_missCouple 152 = .ok (.iaload, 1) := by decide +kernel
theorem dX12_missCouple_153 : decode cX12_missCouple 153 = .ok (.bipush (-4), 2) := by decide +kernel
theorem dX12_missCouple_155 : decode cX12_missCouple 155 = .ok (.if_icmp .ne 13, 3) := by decide +kernel
theorem dX12_missCouple_158 : decode cX12_missCouple 158 = .ok (.aload_n 0, 1) := by decide +kernel
theorem dX12_missCouple_159 : decode cX12_missCouple 159 = .ok (.iload_n 1, 1) := by decide +kernel
theorem dX12_missCouple_160 : decode cX12_missCouple 160 = .ok (.iload 4, 2) := by decide +kernel
theorem dX12_missCouple_162 : decode cX12_missCouple 162 = .ok (.invokevirtual 381, 3) := by decide +kernel
theorem dX12_missCouple_165 : decode cX12_missCouple 165 = .ok (.ifCond .eq 6, 3) := by decide +kernel
theorem dX12_missCouple_168 : decode cX12_missCouple 168 = .ok (.bipush 14, 2) := by decide +kernel
theorem dX12_missCouple_170 : decode cX12_missCouple 170 = .ok (.ireturn, 1) := by decide +kernel
theorem dX12_missCouple_171 : decode cX12_missCouple 171 = .ok (.aload_n 0, 1) := by decide +kernel
theorem dX12_missCouple_172 : decode cX12_missCouple 172 = .ok (.iload_n 1, 1) := by decide +kernel
theorem dX12_missCouple_173 : decode cX12_missCouple 173 = .ok (.iload 4, 2) := by decide +kernel
theorem dX12_missCouple_175 : decode cX12_missCouple 175 = .ok (.invokevirtual 384, 3) := by decide +kernel
theorem dX12_missCouple_178 : decode cX12_missCouple 178 = .ok (.ifCond .eq 17, 3) := by decide +kernel
theorem dX12_missCouple_181 : decode cX12_missCouple 181 = .ok (.aload_n 0, 1) := by decide +kernel
theorem dX12_missCouple_182 : decode cX12_missCouple 182 = .ok (.iload 4, 2) := by decide +kernel
theorem dX12_missCouple_184 : decode cX12_missCouple 184 = .ok (.iload_n 1, 1) := by decide +kernel
theorem dX12_missCouple_185 : decode cX12_missCouple 185 = .ok (.invokevirtual 384, 3) := by decide +kernel
theorem dX12_missCouple_188 : decode cX12_missCouple 188 = .ok (.ifCond .eq 7, 3) := by decide +kernel
theorem dX12_missCouple_191 : decode cX12_missCouple 191 = .ok (.iconst 0, 1) := by decide +kernel
theorem dX12_missCouple_192 : decode cX12_missCouple 192 = .ok (.goto 5, 3) := by decide +kernel
theorem dX12_missCouple_195 : decode cX12_missCouple 195 = .ok (.bipush 13, 2) := by decide +kernel
theorem dX12_missCouple_197 : decode cX12_missCouple 197 = .ok (.ireturn, 1) := by decide +kernel
set_option maxRecDepth 100000 in
set_option maxHeartbeats 4000000 in
theorem w_X12_missCouple_j136 {p : Program} {l : Launch} {e : Env} {R : Room} {s : State} {m : MethodId} {args : Array Value} {below : List Frame} {meth : Method} {c : Code} {dC : Nat → ClassId} {dI : Nat → Nat → Nat} {cs : Nat → ClassId} {ad : Nat → Nat} {A : Nat → Prop} {D0 : Nat → Nat} {S' : SS} {r : Int32} (F : Fx p s m args meth c cX12_missCouple 5 RX12 (some .int) dC dI cs A) (hR1 : 3 ≤ R.frames) (hR2 : 70 ≤ R.locals) (x1 : Int32) (x4 : Int32) (y0 : Int32) (S : SS) (h : f_X12_missCouple_j136 x1 x4 y0 S = some (r, S')) : AW p l e R s m args below meth c dC dI cs ad A D0 (some (.int r)) S' 5 136 [(0, .ref (ad 14)), (1, .int x1), (4, .int x4)] [.int y0, .ref (ad 14)] S := by
  have hx := F.1.1
  have hb := F.1.2.1
  intro H locs ls w hl
  rw [f_X12_missCouple_j136] at h
  refine s_putI (pc := 136) F w ds_14 vc_X12 vi_X12 tyX12_ok nmX12 (j := 67) rfl (by decide) kf_X12_378 rfl pd_I h dX12_missCouple_136 (fun S10 H locs h w => ?_)
  refine lv_aload_n (pc := 139) hx hb dX12_missCouple_139 rfl (lv_at hl 0 rfl) ?_
  refine s_getR (pc := 140) F w 90 ds_14 (j := 35) vc_X12 vi_X12 rfl (by decide) kf_X12_84 dX12_missCouple_140 ?_
  refine lv_iconst (pc := 143) (v := 2) hx hb dX12_missCouple_143 (by decide) ?_
  refine lv_iload (pc := 144) hx hb dX12_missCouple_144 (lv_at hl 2 rfl) ?_
  refine lv_imul (pc := 146) hx hb dX12_missCouple_146 ?_
  refine lv_aload_n (pc := 147) hx hb dX12_missCouple_147 rfl (lv_at hl 0 rfl) ?_
  refine s_getI (pc := 148) F w ds_14 (j := 67) vc_X12 vi_X12 rfl (by decide) kf_X12_378 dX12_missCouple_148 ?_
  refine lv_iadd (pc := 151) hx hb dX12_missCouple_151 ?_
  refine s_iald (pc := 152) F w ds_90 h dX12_missCouple_152 (fun h => ?_)
  refine lv_bipush (pc := 153) (v := -4) hx hb dX12_missCouple_153 (by decide) ?_
  refine lv_icmp_ne (pc := 155) (tgt := 168) hx hb dX12_missCouple_155 (by decide) (fun q => ?_) (fun q => ?_)
  · have h := ite_f q h
    refine lv_bipush (pc := 168) (v := 14) hx hb dX12_missCouple_168 (by decide) ?_
    exact s_iret F w h dX12_missCouple_170
  · have h := ite_t q h
    refine lv_aload_n (pc := 158) hx hb dX12_missCouple_158 rfl (lv_at hl 0 rfl) ?_
    refine lv_iload_n (pc := 159) hx hb dX12_missCouple_159 rfl (lv_at hl 1 rfl) ?_
    refine lv_iload (pc := 160) hx hb dX12_missCouple_160 (lv_at hl 2 rfl) ?_
    obtain ⟨r12, S11, hc, h⟩ := bnd_t h
    refine s_cvi (pc := 162) [.int x1, .int x4] (fun ad => [.ref (ad 14), .int x1, .int x4]) F w (m_X12_areTogether _ _ _ _ _ hc) rfl rfl hl.1 ds_14 vc_X12 rfl ok_X12_areTogether rfl kc_X12_areTogether kl_X12_381 ki_X12_areTogether kv_X12_areTogether kn_X12 ⟨Nat.le_trans (by decide) hR1, Nat.le_trans (by decide) hR2⟩ ⟨Nat.zero_le _, Nat.zero_le _⟩ (Nat.le_of_ble_eq_true rfl) dX12_missCouple_162 (fun H locs w => ?_)
    refine lv_if_eq (pc := 165) (tgt := 171) hx hb dX12_missCouple_165 (by decide) (fun q => ?_) (fun q => ?_)
    · have h := ite_t q h
      refine lv_aload_n (pc := 171) hx hb dX12_missCouple_171 rfl (lv_at hl 0 rfl) ?_
      refine lv_iload_n (pc := 172) hx hb dX12_missCouple_172 rfl (lv_at hl 1 rfl) ?_
      refine lv_iload (pc := 173) hx hb dX12_missCouple_173 (lv_at hl 2 rfl) ?_
      obtain ⟨r14, S13, hc, h⟩ := bnd_t h
      refine s_cvi (pc := 175) [.int x1, .int x4] (fun ad => [.ref (ad 14), .int x1, .int x4]) F w (m_X12_suits _ _ _ _ _ hc) rfl rfl hl.1 ds_14 vc_X12 rfl ok_X12_suits rfl kc_X12_suits kl_X12_384 ki_X12_suits kv_X12_suits kn_X12 ⟨Nat.le_trans (by decide) hR1, Nat.le_trans (by decide) hR2⟩ ⟨Nat.zero_le _, Nat.zero_le _⟩ (Nat.le_of_ble_eq_true rfl) dX12_missCouple_175 (fun H locs w => ?_)
      refine lv_if_eq (pc := 178) (tgt := 195) hx hb dX12_missCouple_178 (by decide) (fun q => ?_) (fun q => ?_)
      · have h := ite_t q h
        refine lv_bipush (pc := 195) (v := 13) hx hb dX12_missCouple_195 (by decide) ?_
        exact s_iret F w h dX12_missCouple_197
      · have h := ite_f q h
        refine lv_aload_n (pc := 181) hx hb dX12_missCouple_181 rfl (lv_at hl 0 rfl) ?_
        refine lv_iload (pc := 182) hx hb dX12_missCouple_182 (lv_at hl 2 rfl) ?_
        refine lv_iload_n (pc := 184) hx hb dX12_missCouple_184 rfl (lv_at hl 1 rfl) ?_
        obtain ⟨r16, S15, hc, h⟩ := bnd_t h
        refine s_cvi (pc := 185) [.int x4, .int x1] (fun ad => [.ref (ad 14), .int x4, .int x1]) F w (m_X12_suits _ _ _ _ _ hc) rfl rfl hl.1 ds_14 vc_X12 rfl ok_X12_suits rfl kc_X12_suits kl_X12_384 ki_X12_suits kv_X12_suits kn_X12 ⟨Nat.le_trans (by decide) hR1, Nat.le_trans (by decide) hR2⟩ ⟨Nat.zero_le _, Nat.zero_le _⟩ (Nat.le_of_ble_eq_true rfl) dX12_missCouple_185 (fun H locs w => ?_)
        refine lv_if_eq (pc := 188) (tgt := 195) hx hb dX12_missCouple_188 (by decide) (fun q => ?_) (fun q => ?_)
        · have h := ite_t q h
          refine lv_bipush (pc := 195) (v := 13) hx hb dX12_missCouple_195 (by decide) ?_
          exact s_iret F w h dX12_missCouple_197
        · have h := ite_f q h
          refine lv_iconst (pc := 191) (v := 0) hx hb dX12_missCouple_191 (by decide) ?_
          refine lv_goto (pc := 192) (tgt := 197) hx hb dX12_missCouple_192 (by decide) ?_
          exact s_iret F w h dX12_missCouple_197
    · have h := ite_f q h
      refine lv_bipush (pc := 168) (v := 14) hx hb dX12_missCouple_168 (by decide) ?_
      exact s_iret F w h dX12_missCouple_170
set_option maxRecDepth 100000 in
set_option maxHeartbeats 4000000 in
theorem m_X12_missCouple (a1 : Int32) (a2 : Int32) (S S' : SS) (r : Int32) (h : f_X12_missCouple a1 a2 S = some (r, S')) : MT yX12_missCouple cX12_missCouple 5 (some .int) 3 70 (fun ad => [.ref (ad 14), .int a1, .int a2]) S (some (.int r)) S' := by
  refine MT.of RX12 (fun ad => [(0, .ref (ad 14)), (1, .int a1), (2, .int a2)]) (by decide) rfl (fun _ => Nat.le_of_ble_eq_true rfl) (fun _ => rfl) ?_
  intro p l e R s m args below meth c dC dI cs ad A hR1 hR2 F H locs ls w hl
  have hx := F.1.1
  have hb := F.1.2.1
  rw [f_X12_missCouple] at h
  refine lv_aload_n (pc := 0) hx hb dX12_missCouple_0 rfl (lv_at hl 0 rfl) ?_
  refine lv_iload_n (pc := 1) hx hb dX12_missCouple_1 rfl (lv_at hl 1 rfl) ?_
  refine lv_iconst (pc := 2) (v := 0) hx hb dX12_missCouple_2 (by decide) ?_
  refine lv_iload_n (pc := 3) hx hb dX12_missCouple_3 rfl (lv_at hl 2 rfl) ?_
  obtain ⟨r2, S1, hc, h⟩ := bnd_t h
  refine s_cvi (pc := 4) [.int a1, .int (0 : Int32), .int a2] (fun ad => [.ref (ad 14), .int a1, .int (0 : Int32), .int a2]) F w (m_X12_missSide _ _ _ _ _ _ hc) rfl rfl hl.1 ds_14 vc_X12 rfl ok_X12_missSide rfl kc_X12_missSide kl_X12_364 ki_X12_missSide kv_X12_missSide kn_X12 ⟨Nat.le_trans (by decide) hR1, Nat.le_trans (by decide) hR2⟩ ⟨Nat.zero_le _, Nat.zero_le _⟩ (Nat.le_of_ble_eq_true rfl) dX12_missCouple_4 (fun H locs w => ?_)
  refine lv_istore_n (pc := 7) (lv' := [(3, .int r2), (0, .ref (ad 14)), (1, .int a1), (2, .int a2)]) hx hb dX12_missCouple_7 rfl hl (by decide) rfl (fun ls hl => ?_)
  refine lv_iload_n (pc := 8) hx hb dX12_missCouple_8 rfl (lv_at hl 0 rfl) ?_
  refine lv_if_eq (pc := 9) (tgt := 14) hx hb dX12_missCouple_9 (by decide) (fun q => ?_) (fun q => ?_)
  · have h := ite_t q h
    refine lv_aload_n (pc := 14) hx hb dX12_missCouple_14 rfl (lv_at hl 1 rfl) ?_
    refine s_getR (pc := 15) F w 90 ds_14 (j := 35) vc_X12 vi_X12 rfl (by decide) kf_X12_84 dX12_missCouple_15 ?_
    refine lv_iconst (pc := 18) (v := 2) hx hb dX12_missCouple_18 (by decide) ?_
    refine lv_iload_n (pc := 19) hx hb dX12_missCouple_19 rfl (lv_at hl 2 rfl) ?_
    refine lv_imul (pc := 20) hx hb dX12_missCouple_20 ?_
    refine lv_iload_n (pc := 21) hx hb dX12_missCouple_21 rfl (lv_at hl 3 rfl) ?_
    refine lv_iadd (pc := 22) hx hb dX12_missCouple_22 ?_
    refine s_iald (pc := 23) F w ds_90 h dX12_missCouple_23 (fun h => ?_)
    refine lv_bipush (pc := 24) (v := -4) hx hb dX12_missCouple_24 (by decide) ?_
    refine lv_icmp_eq (pc := 26) (tgt := 32) hx hb dX12_missCouple_26 (by decide) (fun q => ?_) (fun q => ?_)
    · have h := ite_t q h
      refine lv_aload_n (pc := 32) hx hb dX12_missCouple_32 rfl (lv_at hl 1 rfl) ?_
      refine s_getR (pc := 33) F w 98 ds_14 (j := 43) vc_X12 vi_X12 rfl (by decide) kf_X12_108 dX12_missCouple_33 ?_
      refine lv_iload_n (pc := 36) hx hb dX12_missCouple_36 rfl (lv_at hl 2 rfl) ?_
      refine s_zald (pc := 37) F w ds_98 h dX12_missCouple_37 (fun h => ?_)
      refine lv_if_eq (pc := 38) (tgt := 44) hx hb dX12_missCouple_38 (by decide) (fun q => ?_) (fun q => ?_)
      · have h := ite_t q h
        refine lv_aload_n (pc := 44) hx hb dX12_missCouple_44 rfl (lv_at hl 1 rfl) ?_
        refine lv_aload_n (pc := 45) hx hb dX12_missCouple_45 rfl (lv_at hl 1 rfl) ?_
        refine s_getR (pc := 46) F w 87 ds_14 (j := 32) vc_X12 vi_X12 rfl (by decide) kf_X12_75 dX12_missCouple_46 ?_
        refine lv_iload_n (pc := 49) hx hb dX12_missCouple_49 rfl (lv_at hl 2 rfl) ?_
        refine s_iald (pc := 50) F w ds_87 h dX12_missCouple_50 (fun h => ?_)
        refine lv_aload_n (pc := 51) hx hb dX12_missCouple_51 rfl (lv_at hl 1 rfl) ?_
        refine s_getR (pc := 52) F w 88 ds_14 (j := 33) vc_X12 vi_X12 rfl (by decide) kf_X12_78 dX12_missCouple_52 ?_
        refine lv_iload_n (pc := 55) hx hb dX12_missCouple_55 rfl (lv_at hl 2 rfl) ?_
        refine s_iald (pc := 56) F w ds_88 h dX12_missCouple_56 (fun h => ?_)
        refine lv_aload_n (pc := 57) hx hb dX12_missCouple_57 rfl (lv_at hl 1 rfl) ?_
        refine lv_iload_n (pc := 58) hx hb dX12_missCouple_58 rfl (lv_at hl 2 rfl) ?_
        refine lv_iload_n (pc := 59) hx hb dX12_missCouple_59 rfl (lv_at hl 3 rfl) ?_
        obtain ⟨r4, S3, hc, h⟩ := bnd_t h
        refine s_cvi (pc := 60) [.int a1, .int a2] (fun ad => [.ref (ad 14), .int a1, .int a2]) F w (m_X12_wayOf _ _ _ _ _ hc) rfl rfl hl.1 ds_14 vc_X12 rfl ok_X12_wayOf rfl kc_X12_wayOf kl_X12_368 ki_X12_wayOf kv_X12_wayOf kn_X12 ⟨Nat.le_trans (by decide) hR1, Nat.le_trans (by decide) hR2⟩ ⟨Nat.zero_le _, Nat.zero_le _⟩ (Nat.le_of_ble_eq_true rfl) dX12_missCouple_60 (fun H locs w => ?_)
        obtain ⟨r6, S5, hc, h⟩ := bnd_t h
        refine s_cvi (pc := 63) [.int (S1.1 87 a1.toNatClampNeg), .int (S1.1 88 a1.toNatClampNeg), .int r4] (fun ad => [.ref (ad 14), .int (S1.1 87 a1.toNatClampNeg), .int (S1.1 88 a1.toNatClampNeg), .int r4]) F w (m_X12_isOpen _ _ _ _ _ _ hc) rfl rfl hl.1 ds_14 vc_X12 rfl ok_X12_isOpen rfl kc_X12_isOpen kl_X12_371 ki_X12_isOpen kv_X12_isOpen kn_X12 ⟨Nat.le_trans (by decide) hR1, Nat.le_trans (by decide) hR2⟩ ⟨Nat.zero_le _, Nat.zero_le _⟩ (Nat.le_of_ble_eq_true rfl) dX12_missCouple_63 (fun H locs w => ?_)
        refine lv_if_ne (pc := 66) (tgt := 72) hx hb dX12_missCouple_66 (by decide) (fun q => ?_) (fun q => ?_)
        · have h := ite_f q h
          refine lv_aload_n (pc := 72) hx hb dX12_missCouple_72 rfl (lv_at hl 1 rfl) ?_
          refine lv_aload_n (pc := 73) hx hb dX12_missCouple_73 rfl (lv_at hl 1 rfl) ?_
          refine s_getI (pc := 74) F w ds_14 (j := 26) vc_X12 vi_X12 rfl (by decide) kf_X12_245 dX12_missCouple_74 ?_
          refine lv_aload_n (pc := 77) hx hb dX12_missCouple_77 rfl (lv_at hl 1 rfl) ?_
          refine s_getI (pc := 78) F w ds_14 (j := 27) vc_X12 vi_X12 rfl (by decide) kf_X12_248 dX12_missCouple_78 ?_
          obtain ⟨r8, S7, hc, h⟩ := bnd_t h
          refine s_cvi (pc := 81) [.int (S5.1 14 26), .int (S5.1 14 27)] (fun ad => [.ref (ad 14), .int (S5.1 14 26), .int (S5.1 14 27)]) F w (m_X12_standing _ _ _ _ _ hc) rfl rfl hl.1 ds_14 vc_X12 rfl ok_X12_standing rfl kc_X12_standing kl_X12_279 ki_X12_standing kv_X12_standing kn_X12 ⟨Nat.le_trans (by decide) hR1, Nat.le_trans (by decide) hR2⟩ ⟨Nat.zero_le _, Nat.zero_le _⟩ (Nat.le_of_ble_eq_true rfl) dX12_missCouple_81 (fun H locs w => ?_)
          refine lv_istore (pc := 84) (lv' := [(4, .int r8), (3, .int r2), (0, .ref (ad 14)), (1, .int a1), (2, .int a2)]) hx hb dX12_missCouple_84 hl (by decide) rfl (fun ls hl => ?_)
          refine lv_iload (pc := 86) hx hb dX12_missCouple_86 (lv_at hl 0 rfl) ?_
          refine lv_bipush (pc := 88) (v := -4) hx hb dX12_missCouple_88 (by decide) ?_
          refine lv_icmp_ne (pc := 90) (tgt := 95) hx hb dX12_missCouple_90 (by decide) (fun q => ?_) (fun q => ?_)
          · have h := ite_f q h
            refine lv_aload_n (pc := 95) hx hb dX12_missCouple_95 rfl (lv_at hl 2 rfl) ?_
            refine s_getR (pc := 96) F w 98 ds_14 (j := 43) vc_X12 vi_X12 rfl (by decide) kf_X12_108 dX12_missCouple_96 ?_
            refine lv_iload (pc := 99) hx hb dX12_missCouple_99 (lv_at hl 0 rfl) ?_
            refine s_zald (pc := 101) F w ds_98 h dX12_missCouple_101 (fun h => ?_)
            refine lv_if_eq (pc := 102) (tgt := 108) hx hb dX12_missCouple_102 (by decide) (fun q => ?_) (fun q => ?_)
            · have h := ite_t q h
              refine lv_aload_n (pc := 108) hx hb dX12_missCouple_108 rfl (lv_at hl 2 rfl) ?_
              refine lv_iload (pc := 109) hx hb dX12_missCouple_109 (lv_at hl 0 rfl) ?_
              refine s_putI (pc := 111) F w ds_14 vc_X12 vi_X12 tyX12_ok nmX12 (j := 66) rfl (by decide) kf_X12_375 rfl pd_I h dX12_missCouple_111 (fun S9 H locs h w => ?_)
              refine lv_aload_n (pc := 114) hx hb dX12_missCouple_114 rfl (lv_at hl 2 rfl) ?_
              refine lv_aload_n (pc := 115) hx hb dX12_missCouple_115 rfl (lv_at hl 2 rfl) ?_
              refine s_getR (pc := 116) F w 89 ds_14 (j := 34) vc_X12 vi_X12 rfl (by decide) kf_X12_81 dX12_missCouple_116 ?_
              refine lv_iload (pc := 119) hx hb dX12_missCouple_119 (lv_at hl 0 rfl) ?_
              refine s_iald (pc := 121) F w ds_89 h dX12_missCouple_121 (fun h => ?_)
              refine lv_iconst (pc := 122) (v := 1) hx hb dX12_missCouple_122 (by decide) ?_
              refine lv_aload_n (pc := 123) hx hb dX12_missCouple_123 rfl (lv_at hl 2 rfl) ?_
              refine s_getI (pc := 124) F w ds_14 (j := 28) vc_X12 vi_X12 rfl (by decide) kf_X12_251 dX12_missCouple_124 ?_
              refine lv_isub (pc := 127) hx hb dX12_missCouple_127 ?_
              refine lv_icmp_ne (pc := 128) (tgt := 135) hx hb dX12_missCouple_128 (by decide) (fun q => ?_) (fun q => ?_)
              · have h := ite_f q h
                refine lv_iconst (pc := 135) (v := 1) hx hb dX12_missCouple_135 (by decide) ?_
                exact w_X12_missCouple_j136 F (Nat.le_trans (by decide) hR1) (Nat.le_trans (by decide) hR2) _ _ _ _ h _ _ _ w (lv_sub hl [2, 3, 0] rfl)
              · have h := ite_t q h
                refine lv_iconst (pc := 131) (v := 0) hx hb dX12_missCouple_131 (by decide) ?_
                refine lv_goto (pc := 132) (tgt := 136) hx hb dX12_missCouple_132 (by decide) ?_
                exact w_X12_missCouple_j136 F (Nat.le_trans (by decide) hR1) (Nat.le_trans (by decide) hR2) _ _ _ _ h _ _ _ w (lv_sub hl [2, 3, 0] rfl)
            · have h := ite_f q h
              refine lv_bipush (pc := 105) (v := 16) hx hb dX12_missCouple_105 (by decide) ?_
              exact s_iret F w h dX12_missCouple_107
          · have h := ite_t q h
            refine lv_iconst (pc := 93) (v := 1) hx hb dX12_missCouple_93 (by decide) ?_
            exact s_iret F w h dX12_missCouple_94
        · have h := ite_t q h
          refine lv_bipush (pc := 69) (v := 10) hx hb dX12_missCouple_69 (by decide) ?_
          exact s_iret F w h dX12_missCouple_71
      · have h := ite_f q h
        refine lv_bipush (pc := 41) (v := 16) hx hb dX12_missCouple_41 (by decide) ?_
        exact s_iret F w h dX12_missCouple_43
    · have h := ite_f q h
      refine lv_bipush (pc := 29) (v := 14) hx hb dX12_missCouple_29 (by decide) ?_
      exact s_iret F w h dX12_missCouple_31
  · have h := ite_f q h
    refine lv_iload_n (pc := 12) hx hb dX12_missCouple_12 rfl (lv_at hl 0 rfl) ?_
    exact s_iret F w h dX12_missCouple_13
def f_X12_renumber_L17  : Nat → Int32 → SS → Option (SS)
  | 0, _, _ => none
  | n + 1, x2, S =>
    if (S.1 14 56) ≤ x2 then
      some S
    else
      grd (inb x2 72) (
      grd (inb (S.1 106 x2.toNatClampNeg) 72) (wr S 91 (S.1 106 x2.toNatClampNeg).toNatClampNeg (S.1 14 49) (fun S3 =>
      grd (inb x2 72) (
      grd (inb (S3.1 106 x2.toNatClampNeg) 72) (wr S3 101 (S3.1 106 x2.toNatClampNeg).toNatClampNeg (vp_nar .boolean (0 : Int32)) (fun S4 =>
      nm (x2 + (1 : Int32)) (fun z5 =>
      f_X12_renumber_L17 n z5 S4)))))))
def f_X12_renumber (a1 : Int32) (S : SS) : Option (SS) :=
  wr S 14 49 ((S.1 14 49) + (1 : Int32)) (fun S1 =>
  bndv (f_X12_lineUp a1 S1) (fun S2 =>
  f_X12_renumber_L17 NF (0 : Int32) S2))
theorem dX12_renumber_0 : decode cX12_renumber 0 = .ok (.aload_n 0, 1) := by decide +kernel
theorem dX12_renumber_1 : decode cX12_renumber 1 = .ok (.dup, 1) := by decide +kernel
theorem dX12_renumber_2 : decode cX12_renumber 2 = .ok (.getfield 272, 3) := by decide +kernel
theorem dX12_renumber_5 : decode cX12_renumber 5 = .ok (.iconst 1, 1) := by decide +kernel
theorem dX12_renumber_6 : decode cX12_renumber 6 = .ok (.iadd, 1) := by decide +kernel
theorem dX12_renumber_7 : decode cX12_renumber 7 = .ok (.putfield 272, 3) := by decide +kernel
theorem dX12_renumber_10 : decode cX12_renumber 10 = .ok (.aload_n 0, 1) := by decide +kernel
theorem dX12_renumber_11 : decode cX12_renumber 11 = .ok (.iload_n 1, 1) := by decide +kernel
theorem dX12_renumber_12 : decode cX12_renumber 12 = .ok (.invokevirtual 325, 3) := by decide +kernel
theorem dX12_renumber_15 : decode cX12_renumber 15 = .ok (.iconst 0, 1) := by decide +kernel
theorem dX12_renumber_16 : decode cX12_renumber 16 = .ok (.istore_n 2, 1) := by decide +kernel
theorem dX12_renumber_17 : decode cX12_renumber 17 = .ok (.iload_n 2, 1) := by decide +kernel
theorem dX12_renumber_18 : decode cX12_renumber 18 = .ok (.aload_n 0, 1) := by decide +kernel
theorem dX12_renumber_19 : decode cX12_renumber 19 = .ok (.getfield 319, 3) := by decide +kernel
theorem dX12_renumber_22 : decode cX12_renumber 22 = .ok (.if_icmp .ge 36, 3) := by decide +kernel
theorem dX12_renumber_25 : decode cX12_renumber 25 = .ok (.aload_n 0, 1) := by decide +kernel
theorem dX12_renumber_26 : decode cX12_renumber 26 = .ok (.getfield 87, 3) := by decide +kernel
theorem dX12_renumber_29 : decode cX12_renumber 29 = .ok (.aload_n 0, 1) := by decide +kernel
theorem dX12_renumber_30 : decode cX12_renumber 30 = .ok (.getfield 132, 3) := by decide +kernel
theorem dX12_renumber_33 : decode cX12_renumber 33 = .ok (.iload_n 2, 1) := by decide +kernel
theorem dX12_renumber_34 : decode cX12_renumber 34 = .ok (.iaload, 1) := by decide +kernel
theorem dX12_renumber_35 : decode cX12_renumber 35 = .ok (.aload_n 0, 1) := by decide +kernel
theorem dX12_renumber_36 : decode cX12_renumber 36 = .ok (.getfield 272, 3) := by decide +kernel
theorem dX12_renumber_39 : decode cX12_renumber 39 = .ok (.iastore, 1) := by decide +kernel
theorem dX12_renumber_40 : decode cX12_renumber 40 = .ok (.aload_n 0, 1) := by decide +kernel
theorem dX12_renumber_41 : decode cX12_renumber 41 = .ok (.getfield 117, 3) := by decide +kernel
theorem dX12_renumber_44 : decode cX12_renumber 44 = .ok (.aload_n 0, 1) := by decide +kernel
theorem dX12_renumber_45 : decode cX12_renumber 45 = .ok (.getfield 132, 3) := by decide +kernel
theorem dX12_renumber_48 : decode cX12_renumber 48 = .ok (.iload_n 2, 1) := by decide +kernel
theorem dX12_renumber_49 : decode cX12_renumber 49 = .ok (.iaload, 1) := by decide +kernel
theorem dX12_renumber_50 : decode cX12_renumber 50 = .ok (.iconst 0, 1) := by decide +kernel
theorem dX12_renumber_51 : decode cX12_renumber 51 = .ok (.bastore, 1) := by decide +kernel
theorem dX12_renumber_52 : decode cX12_renumber 52 = .ok (.iinc 2 1, 3) := by decide +kernel
theorem dX12_renumber_55 : decode cX12_renumber 55 = .ok (.goto (-38), 3) := by decide +kernel
theorem dX12_renumber_58 : decode cX12_renumber 58 = .ok (.return_, 1) := by decide +kernel
set_option maxRecDepth 100000 in
set_option maxHeartbeats 4000000 in
theorem w_X12_renumber_L17 {p : Program} {l : Launch} {e : Env} {R : Room} {s : State} {m : MethodId} {args : Array Value} {below : List Frame} {meth : Method} {c : Code} {dC : Nat → ClassId} {dI : Nat → Nat → Nat} {cs : Nat → ClassId} {ad : Nat → Nat} {A : Nat → Prop} {D0 : Nat → Nat} {S' : SS} (F : Fx p s m args meth c cX12_renumber 3 RX12 none dC dI cs A) (hR1 : 0 ≤ R.frames) (hR2 : 0 ≤ R.locals) : ∀ (n : Nat) (x2 : Int32) (S : SS), f_X12_renumber_L17 n x2 S = some S' → AW p l e R s m args below meth c dC dI cs ad A D0 none S' 3 17 [(0, .ref (ad 14)), (2, .int x2)] [] S := by
  have hx := F.1.1
  have hb := F.1.2.1
  intro n
  induction n with
  | zero => intro x2 S h; cases h
  | succ n ih =>
    intro x2 S h H locs ls w hl
    rw [f_X12_renumber_L17] at h
    refine lv_iload_n (pc := 17) hx hb dX12_renumber_17 rfl (lv_at hl 1 rfl) ?_
    refine lv_aload_n (pc := 18) hx hb dX12_renumber_18 rfl (lv_at hl 0 rfl) ?_
    refine s_getI (pc := 19) F w ds_14 (j := 56) vc_X12 vi_X12 rfl (by decide) kf_X12_319 dX12_renumber_19 ?_
    refine lv_icmp_ge (pc := 22) (tgt := 58) hx hb dX12_renumber_22 (by decide) (fun q => ?_) (fun q => ?_)
    · have h := ite_t q h
      exact s_vret F w h dX12_renumber_58
    · have h := ite_f q h
      refine lv_aload_n (pc := 25) hx hb dX12_renumber_25 rfl (lv_at hl 0 rfl) ?_
      refine s_getR (pc := 26) F w 91 ds_14 (j := 36) vc_X12 vi_X12 rfl (by decide) kf_X12_87 dX12_renumber_26 ?_
      refine lv_aload_n (pc := 29) hx hb dX12_renumber_29 rfl (lv_at hl 0 rfl) ?_
      refine s_getR (pc := 30) F w 106 ds_14 (j := 55) vc_X12 vi_X12 rfl (by decide) kf_X12_132 dX12_renumber_30 ?_
      refine lv_iload_n (pc := 33) hx hb dX12_renumber_33 rfl (lv_at hl 1 rfl) ?_
      refine s_iald (pc := 34) F w ds_106 h dX12_renumber_34 (fun h => ?_)
      refine lv_aload_n (pc := 35) hx hb dX12_renumber_35 rfl (lv_at hl 0 rfl) ?_
      refine s_getI (pc := 36) F w ds_14 (j := 49) vc_X12 vi_X12 rfl (by decide) kf_X12_272 dX12_renumber_36 ?_
      refine s_iast (pc := 39) F w ds_91 h dX12_renumber_39 (fun S3 H locs h w => ?_)
      refine lv_aload_n (pc := 40) hx hb dX12_renumber_40 rfl (lv_at hl 0 rfl) ?_
      refine s_getR (pc := 41) F w 101 ds_14 (j := 46) vc_X12 vi_X12 rfl (by decide) kf_X12_117 dX12_renumber_41 ?_
      refine lv_aload_n (pc := 44) hx hb dX12_renumber_44 rfl (lv_at hl 0 rfl) ?_
      refine s_getR (pc := 45) F w 106 ds_14 (j := 55) vc_X12 vi_X12 rfl (by decide) kf_X12_132 dX12_renumber_45 ?_
      refine lv_iload_n (pc := 48) hx hb dX12_renumber_48 rfl (lv_at hl 1 rfl) ?_
      refine s_iald (pc := 49) F w ds_106 h dX12_renumber_49 (fun h => ?_)
      refine lv_iconst (pc := 50) (v := 0) hx hb dX12_renumber_50 (by decide) ?_
      refine s_zast (pc := 51) F w ds_101 h dX12_renumber_51 (fun S4 H locs h w => ?_)
      refine s_nm h (fun z5 ez5 h => ?_)
      refine lv_iinc (pc := 52) (v := z5) (lv' := [(2, .int z5), (0, .ref (ad 14))]) hx hb dX12_renumber_52 hl (k := 1) rfl (by rw [ez5]; rfl) (by decide) rfl (fun ls hl => ?_)
      refine lv_goto (pc := 55) (tgt := 17) hx hb dX12_renumber_55 (by decide) ?_
      exact ih _ _ h _ _ _ w (lv_sub hl [1, 0] rfl)
set_option maxRecDepth 100000 in
set_option maxHeartbeats 4000000 in
theorem m_X12_renumber (a1 : Int32) (S S' : SS) (h : f_X12_renumber a1 S = some S') : MT yX12_renumber cX12_renumber 3 none 2 46 (fun ad => [.ref (ad 14), .int a1]) S none S' := by
  refine MT.of RX12 (fun ad => [(0, .ref (ad 14)), (1, .int a1)]) (by decide) rfl (fun _ => Nat.le_of_ble_eq_true rfl) (fun _ => rfl) ?_
  intro p l e R s m args below meth c dC dI cs ad A hR1 hR2 F H locs ls w hl
  have hx := F.1.1
  have hb := F.1.2.1
  rw [f_X12_renumber] at h
  refine lv_aload_n (pc := 0) hx hb dX12_renumber_0 rfl (lv_at hl 0 rfl) ?_
  refine lv_dup (pc := 1) hx hb dX12_renumber_1 rfl ?_
  refine s_getI (pc := 2) F w ds_14 (j := 49) vc_X12 vi_X12 rfl (by decide) kf_X12_272 dX12_renumber_2 ?_
  refine lv_iconst (pc := 5) (v := 1) hx hb dX12_renumber_5 (by decide) ?_
  refine lv_iadd (pc := 6) hx hb dX12_renumber_6 ?_
  refine s_putI (pc := 7) F w ds_14 vc_X12 vi_X12 tyX12_ok nmX12 (j := 49) rfl (by decide) kf_X12_272 rfl pd_I h dX12_renumber_7 (fun S1 H locs h w => ?_)
  refine lv_aload_n (pc := 10) hx hb dX12_renumber_10 rfl (lv_at hl 0 rfl) ?_
  refine lv_iload_n (pc := 11) hx hb dX12_renumber_11 rfl (lv_at hl 1 rfl) ?_
  obtain ⟨S2, hc, h⟩ := bndv_t h
  refine s_cvv (pc := 12) [.int a1] (fun ad => [.ref (ad 14), .int a1]) F w (m_X12_lineUp _ _ _ hc) rfl rfl hl.1 ds_14 vc_X12 rfl ok_X12_lineUp rfl kc_X12_lineUp kl_X12_325 ki_X12_lineUp kv_X12_lineUp kn_X12 ⟨Nat.le_trans (by decide) hR1, Nat.le_trans (by decide) hR2⟩ ⟨Nat.zero_le _, Nat.zero_le _⟩ (Nat.le_of_ble_eq_true rfl) dX12_renumber_12 (fun H locs w => ?_)
  refine lv_iconst (pc := 15) (v := 0) hx hb dX12_renumber_15 (by decide) ?_
  refine lv_istore_n (pc := 16) (lv' := [(2, .int (0 : Int32)), (0, .ref (ad 14)), (1, .int a1)]) hx hb dX12_renumber_16 rfl hl (by decide) rfl (fun ls hl => ?_)
  exact w_X12_renumber_L17 F (Nat.le_trans (by decide) hR1) (Nat.le_trans (by decide) hR2) _ _ _ h _ _ _ w (lv_sub hl [1, 0] rfl)
def f_X12_couple (a1 : Int32) (a2 : Int32) (S : SS) : Option (Int32 × SS) :=
  bndv (f_X12_begin  S) (fun S1 =>
  bndv (f_X12_keep  S1) (fun S2 =>
  bnd (f_X12_missCouple a1 a2 S2) (fun r4 S3 =>
  bnd (f_X12_ends r4 S3) (fun r6 S5 =>
  if r6 = 0 then
    grd (inb (((2 : Int32) * a1) + a2) 144) (wr S5 90 (((2 : Int32) * a1) + a2).toNatClampNeg (S5.1 14 66) (fun S7 =>
    grd (inb (((2 : Int32) * (S7.1 14 66)) + (S7.1 14 67)) 144) (wr S7 90 (((2 : Int32) * (S7.1 14 66)) + (S7.1 14 67)).toNatClampNeg a1 (fun S8 =>
    bndv (f_X12_renumber a1 S8) (fun S9 =>
    bnd (f_X12_entered (6 : Int32) (S9.1 14 66) S9) (fun r11 S10 =>
    some (r11, S10)))))))
  else
    bnd (f_X12_entered (6 : Int32) (-2 : Int32) S5) (fun r13 S12 =>
    some (r13, S12))))))
theorem dX12_couple_0 : decode cX12_couple 0 = .ok (.aload_n 0, 1) := by decide +kernel
theorem dX12_couple_1 : decode cX12_couple 1 = .ok (.invokevirtual 226, 3) := by decide +kernel
theorem dX12_couple_4 : decode cX12_couple 4 = .ok (.aload_n 0, 1) := by decide +kernel
theorem dX12_couple_5 : decode cX12_couple 5 = .ok (.invokevirtual 346, 3) := by decide +kernel
theorem dX12_couple_8 : decode cX12_couple 8 = .ok (.aload_n 0, 1) := by decide +kernel
theorem dX12_couple_9 : decode cX12_couple 9 = .ok (.aload_n 0, 1) := by decide +kernel
theorem dX12_couple_10 : decode cX12_couple 10 = .ok (.iload_n 1, 1) := by decide +kernel
theorem dX12_couple_11 : decode cX12_couple 11 = .ok (.iload_n 2, 1) := by decide +kernel
theorem dX12_couple_12 : decode cX12_couple 12 = .ok (.invokevirtual 387, 3) := by decide +kernel
theorem dX12_couple_15 : decode cX12_couple 15 = .ok (.invokevirtual 236, 3) := by decide +kernel
theorem dX12_couple_18 : decode cX12_couple 18 = .ok (.ifCond .eq 12, 3) := by decide +kernel
theorem dX12_couple_21 : decode cX12_couple 21 = .ok (.aload_n 0, 1) := by decide +kernel
theorem dX12_couple_22 : decode cX12_couple 22 = .ok (.bipush 6, 2) := by decide +kernel
theorem dX12_couple_24 : decode cX12_couple 24 = .ok (.bipush (-2), 2) := by decide +kernel
theorem dX12_couple_26 : decode cX12_couple 26 = .ok (.invokevirtual 349, 3) := by decide +kernel
theorem dX12_couple_29 : decode cX12_couple 29 = .ok (.ireturn, 1) := by decide +kernel
theorem dX12_couple_30 : decode cX12_couple 30 = .ok (.aload_n 0, 1) := by decide +kernel
theorem dX12_couple_31 : decode cX12_couple 31 = .ok (.getfield 84, 3) := by decide +kernel
theorem dX12_couple_34 : decode cX12_couple 34 = .ok (.iconst 2, 1) := by decide +kernel
theorem dX12_couple_35 : decode cX12_couple 35 = .ok (.iload_n 1, 1) := by decide +kernel
theorem dX12_couple_36 : decode cX12_couple 36 = .ok (.imul, 1) := by decide +kernel
theorem dX12_couple_37 : decode cX12_couple 37 = .ok (.iload_n 2, 1) := by decide +kernel
theorem dX12_couple_38 : decode cX12_couple 38 = .ok (.iadd, 1) := by decide +kernel
theorem dX12_couple_39 : decode cX12_couple 39 = .ok (.aload_n 0, 1) := by decide +kernel
theorem dX12_couple_40 : decode cX12_couple 40 = .ok (.getfield 375, 3) := by decide +kernel
theorem dX12_couple_43 : decode cX12_couple 43 = .ok (.iastore, 1) := by decide +kernel
theorem dX12_couple_44 : decode cX12_couple 44 = .ok (.aload_n 0, 1) := by decide +kernel
theorem dX12_couple_45 : decode cX12_couple 45 = .ok (.getfield 84, 3) := by decide +kernel
theorem dX12_couple_48 : decode cX12_couple 48 = .ok (.iconst 2, 1) := by decide +kernel
theorem dX12_couple_49 : decode cX12_couple 49 = .ok (.aload_n 0, 1) := by decide +kernel
theorem dX12_couple_50 : decode cX12_couple 50 = .ok (.getfield 375, 3) := by decide +kernel
theorem dX12_couple_53 : decode cX12_couple 53 = .ok (.imul, 1) := by decide +kernel
theorem dX12_couple_54 : decode cX12_couple 54 = .ok (.aload_n 0, 1) := by decide +kernel
theorem dX12_couple_55 : decode cX12_couple 55 = .ok (.getfield 378, 3) := by decide +kernel
theorem dX12_couple_58 : decode cX12_couple 58 = .ok (.iadd, 1) := by decide +kernel
theorem dX12_couple_59 : decode cX12_couple 59 = .ok (.iload_n 1, 1) := by decide +kernel
theorem dX12_couple_60 : decode cX12_couple 60 = .ok (.iastore, 1) := by decide +kernel
theorem dX12_couple_61 : decode cX12_couple 61 = .ok (.aload_n 0, 1) := by decide +kernel
theorem dX12_couple_62 : decode cX12_couple 62 = .ok (.iload_n 1, 1) := by decide +kernel
theorem dX12_couple_63 : decode cX12_couple 63 = .ok (.invokevirtual 390, 3) := by decide +kernel
theorem dX12_couple_66 : decode cX12_couple 66 = .ok (.aload_n 0, 1) := by decide +kernel
theorem dX12_couple_67 : decode cX12_couple 67 = .ok (.bipush 6, 2) := by decide +kernel
theorem dX12_couple_69 : decode cX12_couple 69 = .ok (.aload_n 0, 1) := by decide +kernel
theorem dX12_couple_70 : decode cX12_couple 70 = .ok (.getfield 375, 3) := by decide +kernel
theorem dX12_couple_73 : decode cX12_couple 73 = .ok (.invokevirtual 349, 3) := by decide +kernel
theorem dX12_couple_76 : decode cX12_couple 76 = .ok (.ireturn, 1) := by decide +kernel
set_option maxRecDepth 100000 in
set_option maxHeartbeats 4000000 in
theorem m_X12_couple (a1 : Int32) (a2 : Int32) (S S' : SS) (r : Int32) (h : f_X12_couple a1 a2 S = some (r, S')) : MT yX12_couple cX12_couple 3 (some .int) 4 94 (fun ad => [.ref (ad 14), .int a1, .int a2]) S (some (.int r)) S' := by
  refine MT.of RX12 (fun ad => [(0, .ref (ad 14)), (1, .int a1), (2, .int a2)]) (by decide) rfl (fun _ => Nat.le_of_ble_eq_true rfl) (fun _ => rfl) ?_
  intro p l e R s m args below meth c dC dI cs ad A hR1 hR2 F H locs ls w hl
  have hx := F.1.1
  have hb := F.1.2.1
  rw [f_X12_couple] at h
  refine lv_aload_n (pc := 0) hx hb dX12_couple_0 rfl (lv_at hl 0 rfl) ?_
  obtain ⟨S1, hc, h⟩ := bndv_t h
  refine s_cvv (pc := 1) [] (fun ad => [.ref (ad 14)]) F w (m_X12_begin  _ _ hc) rfl rfl hl.1 ds_14 vc_X12 rfl ok_X12_begin rfl kc_X12_begin kl_X12_226 ki_X12_begin kv_X12_begin kn_X12 ⟨Nat.le_trans (by decide) hR1, Nat.le_trans (by decide) hR2⟩ ⟨Nat.zero_le _, Nat.zero_le _⟩ (Nat.le_of_ble_eq_true rfl) dX12_couple_1 (fun H locs w => ?_)
  refine lv_aload_n (pc := 4) hx hb dX12_couple_4 rfl (lv_at hl 0 rfl) ?_
  obtain ⟨S2, hc, h⟩ := bndv_t h
  refine s_cvv (pc := 5) [] (fun ad => [.ref (ad 14)]) F w (m_X12_keep  _ _ hc) rfl rfl hl.1 ds_14 vc_X12 rfl ok_X12_keep rfl kc_X12_keep kl_X12_346 ki_X12_keep kv_X12_keep kn_X12 ⟨Nat.le_trans (by decide) hR1, Nat.le_trans (by decide) hR2⟩ ⟨Nat.zero_le _, Nat.zero_le _⟩ (Nat.le_of_ble_eq_true rfl) dX12_couple_5 (fun H locs w => ?_)
  refine lv_aload_n (pc := 8) hx hb dX12_couple_8 rfl (lv_at hl 0 rfl) ?_
  refine lv_aload_n (pc := 9) hx hb dX12_couple_9 rfl (lv_at hl 0 rfl) ?_
  refine lv_iload_n (pc := 10) hx hb dX12_couple_10 rfl (lv_at hl 1 rfl) ?_
  refine lv_iload_n (pc := 11) hx hb dX12_couple_11 rfl (lv_at hl 2 rfl) ?_
  obtain ⟨r4, S3, hc, h⟩ := bnd_t h
  refine s_cvi (pc := 12) [.int a1, .int a2] (fun ad => [.ref (ad 14), .int a1, .int a2]) F w (m_X12_missCouple _ _ _ _ _ hc) rfl rfl hl.1 ds_14 vc_X12 rfl ok_X12_missCouple rfl kc_X12_missCouple kl_X12_387 ki_X12_missCouple kv_X12_missCouple kn_X12 ⟨Nat.le_trans (by decide) hR1, Nat.le_trans (by decide) hR2⟩ ⟨Nat.zero_le _, Nat.zero_le _⟩ (Nat.le_of_ble_eq_true rfl) dX12_couple_12 (fun H locs w => ?_)
  obtain ⟨r6, S5, hc, h⟩ := bnd_t h
  refine s_cvi (pc := 15) [.int r4] (fun ad => [.ref (ad 14), .int r4]) F w (m_X12_ends _ _ _ _ hc) rfl rfl hl.1 ds_14 vc_X12 rfl ok_X12_ends rfl kc_X12_ends kl_X12_236 ki_X12_ends kv_X12_ends kn_X12 ⟨Nat.le_trans (by decide) hR1, Nat.le_trans (by decide) hR2⟩ ⟨Nat.zero_le _, Nat.zero_le _⟩ (Nat.le_of_ble_eq_true rfl) dX12_couple_15 (fun H locs w => ?_)
  refine lv_if_eq (pc := 18) (tgt := 30) hx hb dX12_couple_18 (by decide) (fun q => ?_) (fun q => ?_)
  · have h := ite_t q h
    refine lv_aload_n (pc := 30) hx hb dX12_couple_30 rfl (lv_at hl 0 rfl) ?_
    refine s_getR (pc := 31) F w 90 ds_14 (j := 35) vc_X12 vi_X12 rfl (by decide) kf_X12_84 dX12_couple_31 ?_
    refine lv_iconst (pc := 34) (v := 2) hx hb dX12_couple_34 (by decide) ?_
    refine lv_iload_n (pc := 35) hx hb dX12_couple_35 rfl (lv_at hl 1 rfl) ?_
    refine lv_imul (pc := 36) hx hb dX12_couple_36 ?_
    refine lv_iload_n (pc := 37) hx hb dX12_couple_37 rfl (lv_at hl 2 rfl) ?_
    refine lv_iadd (pc := 38) hx hb dX12_couple_38 ?_
    refine lv_aload_n (pc := 39) hx hb dX12_couple_39 rfl (lv_at hl 0 rfl) ?_
    refine s_getI (pc := 40) F w ds_14 (j := 66) vc_X12 vi_X12 rfl (by decide) kf_X12_375 dX12_couple_40 ?_
    refine s_iast (pc := 43) F w ds_90 h dX12_couple_43 (fun S7 H locs h w => ?_)
    refine lv_aload_n (pc := 44) hx hb dX12_couple_44 rfl (lv_at hl 0 rfl) ?_
    refine s_getR (pc := 45) F w 90 ds_14 (j := 35) vc_X12 vi_X12 rfl (by decide) kf_X12_84 dX12_couple_45 ?_
    refine lv_iconst (pc := 48) (v := 2) hx hb dX12_couple_48 (by decide) ?_
    refine lv_aload_n (pc := 49) hx hb dX12_couple_49 rfl (lv_at hl 0 rfl) ?_
    refine s_getI (pc := 50) F w ds_14 (j := 66) vc_X12 vi_X12 rfl (by decide) kf_X12_375 dX12_couple_50 ?_
    refine lv_imul (pc := 53) hx hb dX12_couple_53 ?_
    refine lv_aload_n (pc := 54) hx hb dX12_couple_54 rfl (lv_at hl 0 rfl) ?_
    refine s_getI (pc := 55) F w ds_14 (j := 67) vc_X12 vi_X12 rfl (by decide) kf_X12_378 dX12_couple_55 ?_
    refine lv_iadd (pc := 58) hx hb dX12_couple_58 ?_
    refine lv_iload_n (pc := 59) hx hb dX12_couple_59 rfl (lv_at hl 1 rfl) ?_
    refine s_iast (pc := 60) F w ds_90 h dX12_couple_60 (fun S8 H locs h w => ?_)
    refine lv_aload_n (pc := 61) hx hb dX12_couple_61 rfl (lv_at hl 0 rfl) ?_
    refine lv_iload_n (pc := 62) hx hb dX12_couple_62 rfl (lv_at hl 1 rfl) ?_
    obtain ⟨S9, hc, h⟩ := bndv_t h
    refine s_cvv (pc := 63) [.int a1] (fun ad => [.ref (ad 14), .int a1]) F w (m_X12_renumber _ _ _ hc) rfl rfl hl.1 ds_14 vc_X12 rfl ok_X12_renumber rfl kc_X12_renumber kl_X12_390 ki_X12_renumber kv_X12_renumber kn_X12 ⟨Nat.le_trans (by decide) hR1, Nat.le_trans (by decide) hR2⟩ ⟨Nat.zero_le _, Nat.zero_le _⟩ (Nat.le_of_ble_eq_true rfl) dX12_couple_63 (fun H locs w => ?_)
    refine lv_aload_n (pc := 66) hx hb dX12_couple_66 rfl (lv_at hl 0 rfl) ?_
    refine lv_bipush (pc := 67) (v := 6) hx hb dX12_couple_67 (by decide) ?_
    refine lv_aload_n (pc := 69) hx hb dX12_couple_69 rfl (lv_at hl 0 rfl) ?_
    refine s_getI (pc := 70) F w ds_14 (j := 66) vc_X12 vi_X12 rfl (by decide) kf_X12_375 dX12_couple_70 ?_
    obtain ⟨r11, S10, hc, h⟩ := bnd_t h
    refine s_cvi (pc := 73) [.int (6 : Int32), .int (S9.1 14 66)] (fun ad => [.ref (ad 14), .int (6 : Int32), .int (S9.1 14 66)]) F w (m_X12_entered _ _ _ _ _ hc) rfl rfl hl.1 ds_14 vc_X12 rfl ok_X12_entered rfl kc_X12_entered kl_X12_349 ki_X12_entered kv_X12_entered kn_X12 ⟨Nat.le_trans (by decide) hR1, Nat.le_trans (by decide) hR2⟩ ⟨Nat.zero_le _, Nat.zero_le _⟩ (Nat.le_of_ble_eq_true rfl) dX12_couple_73 (fun H locs w => ?_)
    exact s_iret F w h dX12_couple_76
  · have h := ite_f q h
    refine lv_aload_n (pc := 21) hx hb dX12_couple_21 rfl (lv_at hl 0 rfl) ?_
    refine lv_bipush (pc := 22) (v := 6) hx hb dX12_couple_22 (by decide) ?_
    refine lv_bipush (pc := 24) (v := -2) hx hb dX12_couple_24 (by decide) ?_
    obtain ⟨r13, S12, hc, h⟩ := bnd_t h
    refine s_cvi (pc := 26) [.int (6 : Int32), .int (-2 : Int32)] (fun ad => [.ref (ad 14), .int (6 : Int32), .int (-2 : Int32)]) F w (m_X12_entered _ _ _ _ _ hc) rfl rfl hl.1 ds_14 vc_X12 rfl ok_X12_entered rfl kc_X12_entered kl_X12_349 ki_X12_entered kv_X12_entered kn_X12 ⟨Nat.le_trans (by decide) hR1, Nat.le_trans (by decide) hR2⟩ ⟨Nat.zero_le _, Nat.zero_le _⟩ (Nat.le_of_ble_eq_true rfl) dX12_couple_26 (fun H locs w => ?_)
    exact s_iret F w h dX12_couple_29
def f_X10_cutHook (a1 : Int32) (S : SS) : Option (SS) :=
  bnd (f_X10_onward a1 S) (fun r2 S1 =>
  nm (r2 ^^^ (1 : Int32)) (fun z3 =>
  bndv (f_X8_set (a1 >>> ((1 : Int32) &&& 31)) ((2 : Int32) + (a1 &&& (1 : Int32))) (-4 : Int32) S1) (fun S4 =>
  bndv (f_X8_set (z3 >>> ((1 : Int32) &&& 31)) ((2 : Int32) + (z3 &&& (1 : Int32))) (-4 : Int32) S4) (fun S5 =>
  bndv (f_X10_renew (a1 >>> ((1 : Int32) &&& 31)) S5) (fun S6 =>
  bndv (f_X10_renew (z3 >>> ((1 : Int32) &&& 31)) S6) (fun S7 =>
  some S7))))))
theorem dX10_cutHook_0 : decode cX10_cutHook 0 = .ok (.aload_n 0, 1) := by decide +kernel
theorem dX10_cutHook_1 : decode cX10_cutHook 1 = .ok (.iload_n 1, 1) := by decide +kernel
theorem dX10_cutHook_2 : decode cX10_cutHook 2 = .ok (.invokevirtual 40, 3) := by decide +kernel
theorem dX10_cutHook_5 : decode cX10_cutHook 5 = .ok (.iconst 1, 1) := by decide +kernel
theorem dX10_cutHook_6 : decode cX10_cutHook 6 = .ok (.ixor, 1) := by decide +kernel
theorem dX10_cutHook_7 : decode cX10_cutHook 7 = .ok (.istore_n 2, 1) := by decide +kernel
theorem dX10_cutHook_8 : decode cX10_cutHook 8 = .ok (.aload_n 0, 1) := by decide +kernel
theorem dX10_cutHook_9 : decode cX10_cutHook 9 = .ok (.getfield 24, 3) := by decide +kernel
theorem dX10_cutHook_12 : decode cX10_cutHook 12 = .ok (.iload_n 1, 1) := by decide +kernel
theorem dX10_cutHook_13 : decode cX10_cutHook 13 = .ok (.iconst 1, 1) := by decide +kernel
theorem dX10_cutHook_14 : decode cX10_cutHook 14 = .ok (.ishr, 1) := by decide +kernel
theorem dX10_cutHook_15 : decode cX10_cutHook 15 = .ok (.iconst 2, 1) := by decide +kernel
theorem dX10_cutHook_16 : decode cX10_cutHook 16 = .ok (.iload_n 1, 1) := by decide +kernel
theorem dX10_cutHook_17 : decode cX10_cutHook 17 = .ok (.iconst 1, 1) := by decide +kernel
theorem dX10_cutHook_18 : decode cX10_cutHook 18 = .ok (.iand, 1) := by decide +kernel
theorem dX10_cutHook_19 : decode cX10_cutHook 19 = .ok (.iadd, 1) := by decide +kernel
theorem dX10_cutHook_20 : decode cX10_cutHook 20 = .ok (.bipush (-4), 2) := by decide +kernel
theorem dX10_cutHook_22 : decode cX10_cutHook 22 = .ok (.invokevirtual 50, 3) := by decide +kernel
theorem dX10_cutHook_25 : decode cX10_cutHook 25 = .ok (.aload_n 0, 1) := by decide +kernel
theorem dX10_cutHook_26 : decode cX10_cutHook 26 = .ok (.getfield 24, 3) := by decide +kernel
theorem dX10_cutHook_29 : decode cX10_cutHook 29 = .ok (.iload_n 2, 1) := by decide +kernel
theorem dX10_cutHook_30 : decode cX10_cutHook 30 = .ok (.iconst 1, 1) := by decide +kernel
theorem dX10_cutHook_31 : decode cX10_cutHook 31 = .ok (.ishr, 1) := by decide +kernel
theorem dX10_cutHook_32 : decode cX10_cutHook 32 = .ok (.iconst 2, 1) := by decide +kernel
theorem dX10_cutHook_33 : decode cX10_cutHook 33 = .ok (.iload_n 2, 1) := by decide +kernel
theorem dX10_cutHook_34 : decode cX10_cutHook 34 = .ok (.iconst 1, 1) := by decide +kernel
theorem dX10_cutHook_35 : decode cX10_cutHook 35 = .ok (.iand, 1) := by decide +kernel
theorem dX10_cutHook_36 : decode cX10_cutHook 36 = .ok (.iadd, 1) := by decide +kernel
theorem dX10_cutHook_37 : decode cX10_cutHook 37 = .ok (.bipush (-4), 2) := by decide +kernel
theorem dX10_cutHook_39 : decode cX10_cutHook 39 = .ok (.invokevirtual 50, 3) := by decide +kernel
theorem dX10_cutHook_42 : decode cX10_cutHook 42 = .ok (.aload_n 0, 1) := by decide +kernel
theorem dX10_cutHook_43 : decode cX10_cutHook 43 = .ok (.iload_n 1, 1) := by decide +kernel
theorem dX10_cutHook_44 : decode cX10_cutHook 44 = .ok (.iconst 1, 1) := by decide +kernel
theorem dX10_cutHook_45 : decode cX10_cutHook 45 = .ok (.ishr, 1) := by decide +kernel
theorem dX10_cutHook_46 : decode cX10_cutHook 46 = .ok (.invokevirtual 83, 3) := by decide +kernel
theorem dX10_cutHook_49 : decode cX10_cutHook 49 = .ok (.aload_n 0, 1) := by decide +kernel
theorem dX10_cutHook_50 : decode cX10_cutHook 50 = .ok (.iload_n 2, 1) := by decide +kernel
theorem dX10_cutHook_51 : decode cX10_cutHook 51 = .ok (.iconst 1, 1) := by decide +kernel
theorem dX10_cutHook_52 : decode cX10_cutHook 52 = .ok (.ishr, 1) := by decide +kernel
theorem dX10_cutHook_53 : decode cX10_cutHook 53 = .ok (.invokevirtual 83, 3) := by decide +kernel
theorem dX10_cutHook_56 : decode cX10_cutHook 56 = .ok (.return_, 1) := by decide +kernel
set_option maxRecDepth 100000 in
set_option maxHeartbeats 4000000 in
theorem m_X10_cutHook (a1 : Int32) (S S' : SS) (h : f_X10_cutHook a1 S = some S') : MT yX10_cutHook cX10_cutHook 3 none 4 88 (fun ad => [.ref (ad 7), .int a1]) S none S' := by
  refine MT.of RX10 (fun ad => [(0, .ref (ad 7)), (1, .int a1)]) (by decide) rfl (fun _ => Nat.le_of_ble_eq_true rfl) (fun _ => rfl) ?_
  intro p l e R s m args below meth c dC dI cs ad A hR1 hR2 F H locs ls w hl
  have hx := F.1.1
  have hb := F.1.2.1
  rw [f_X10_cutHook] at h
  refine lv_aload_n (pc := 0) hx hb dX10_cutHook_0 rfl (lv_at hl 0 rfl) ?_
  refine lv_iload_n (pc := 1) hx hb dX10_cutHook_1 rfl (lv_at hl 1 rfl) ?_
  obtain ⟨r2, S1, hc, h⟩ := bnd_t h
  refine s_cvi (pc := 2) [.int a1] (fun ad => [.ref (ad 7), .int a1]) F w (m_X10_onward _ _ _ _ hc) rfl rfl hl.1 ds_7 vc_X10 rfl ok_X10_onward rfl kc_X10_onward kl_X10_40 ki_X10_onward kv_X10_onward kn_X10 ⟨Nat.le_trans (by decide) hR1, Nat.le_trans (by decide) hR2⟩ ⟨Nat.zero_le _, Nat.zero_le _⟩ (Nat.le_of_ble_eq_true rfl) dX10_cutHook_2 (fun H locs w => ?_)
  refine lv_iconst (pc := 5) (v := 1) hx hb dX10_cutHook_5 (by decide) ?_
  refine lv_ixor (pc := 6) hx hb dX10_cutHook_6 ?_
  refine s_nm h (fun z3 ez3 h => ?_)
  rw [← ez3]
  refine lv_istore_n (pc := 7) (lv' := [(2, .int z3), (0, .ref (ad 7)), (1, .int a1)]) hx hb dX10_cutHook_7 rfl hl (by decide) rfl (fun ls hl => ?_)
  refine lv_aload_n (pc := 8) hx hb dX10_cutHook_8 rfl (lv_at hl 1 rfl) ?_
  refine s_getR (pc := 9) F w 2 ds_7 (j := 0) vc_X10 vi_X10 rfl (by decide) kf_X10_24 dX10_cutHook_9 ?_
  refine lv_iload_n (pc := 12) hx hb dX10_cutHook_12 rfl (lv_at hl 2 rfl) ?_
  refine lv_iconst (pc := 13) (v := 1) hx hb dX10_cutHook_13 (by decide) ?_
  refine lv_ishr (pc := 14) hx hb dX10_cutHook_14 ?_
  refine lv_iconst (pc := 15) (v := 2) hx hb dX10_cutHook_15 (by decide) ?_
  refine lv_iload_n (pc := 16) hx hb dX10_cutHook_16 rfl (lv_at hl 2 rfl) ?_
  refine lv_iconst (pc := 17) (v := 1) hx hb dX10_cutHook_17 (by decide) ?_
  refine lv_iand (pc := 18) hx hb dX10_cutHook_18 ?_
  refine lv_iadd (pc := 19) hx hb dX10_cutHook_19 ?_
  refine lv_bipush (pc := 20) (v := -4) hx hb dX10_cutHook_20 (by decide) ?_
  obtain ⟨S4, hc, h⟩ := bndv_t h
  refine s_cvv (pc := 22) [.int (a1 >>> ((1 : Int32) &&& 31)), .int ((2 : Int32) + (a1 &&& (1 : Int32))), .int (-4 : Int32)] (fun ad => [.ref (ad 2), .int (a1 >>> ((1 : Int32) &&& 31)), .int ((2 : Int32) + (a1 &&& (1 : Int32))), .int (-4 : Int32)]) F w (m_X8_set _ _ _ _ _ hc) rfl rfl hl.1 ds_2 vc_X8 rfl ok_X8_set rfl kc_X8_set kl_X10_50 ki_X8_set kv_X8_set kn_X8 ⟨Nat.le_trans (by decide) hR1, Nat.le_trans (by decide) hR2⟩ ⟨Nat.zero_le _, Nat.zero_le _⟩ (Nat.le_of_ble_eq_true rfl) dX10_cutHook_22 (fun H locs w => ?_)
  refine lv_aload_n (pc := 25) hx hb dX10_cutHook_25 rfl (lv_at hl 1 rfl) ?_
  refine s_getR (pc := 26) F w 2 ds_7 (j := 0) vc_X10 vi_X10 rfl (by decide) kf_X10_24 dX10_cutHook_26 ?_
  refine lv_iload_n (pc := 29) hx hb dX10_cutHook_29 rfl (lv_at hl 0 rfl) ?_
  refine lv_iconst (pc := 30) (v := 1) hx hb dX10_cutHook_30 (by decide) ?_
  refine lv_ishr (pc := 31) hx hb dX10_cutHook_31 ?_
  refine lv_iconst (pc := 32) (v := 2) hx hb dX10_cutHook_32 (by decide) ?_
  refine lv_iload_n (pc := 33) hx hb dX10_cutHook_33 rfl (lv_at hl 0 rfl) ?_
  refine lv_iconst (pc := 34) (v := 1) hx hb dX10_cutHook_34 (by decide) ?_
  refine lv_iand (pc := 35) hx hb dX10_cutHook_35 ?_
  refine lv_iadd (pc := 36) hx hb dX10_cutHook_36 ?_
  refine lv_bipush (pc := 37) (v := -4) hx hb dX10_cutHook_37 (by decide) ?_
  obtain ⟨S5, hc, h⟩ := bndv_t h
  refine s_cvv (pc := 39) [.int (z3 >>> ((1 : Int32) &&& 31)), .int ((2 : Int32) + (z3 &&& (1 : Int32))), .int (-4 : Int32)] (fun ad => [.ref (ad 2), .int (z3 >>> ((1 : Int32) &&& 31)), .int ((2 : Int32) + (z3 &&& (1 : Int32))), .int (-4 : Int32)]) F w (m_X8_set _ _ _ _ _ hc) rfl rfl hl.1 ds_2 vc_X8 rfl ok_X8_set rfl kc_X8_set kl_X10_50 ki_X8_set kv_X8_set kn_X8 ⟨Nat.le_trans (by decide) hR1, Nat.le_trans (by decide) hR2⟩ ⟨Nat.zero_le _, Nat.zero_le _⟩ (Nat.le_of_ble_eq_true rfl) dX10_cutHook_39 (fun H locs w => ?_)
  refine lv_aload_n (pc := 42) hx hb dX10_cutHook_42 rfl (lv_at hl 1 rfl) ?_
  refine lv_iload_n (pc := 43) hx hb dX10_cutHook_43 rfl (lv_at hl 2 rfl) ?_
  refine lv_iconst (pc := 44) (v := 1) hx hb dX10_cutHook_44 (by decide) ?_
  refine lv_ishr (pc := 45) hx hb dX10_cutHook_45 ?_
  obtain ⟨S6, hc, h⟩ := bndv_t h
  refine s_cvv (pc := 46) [.int (a1 >>> ((1 : Int32) &&& 31))] (fun ad => [.ref (ad 7), .int (a1 >>> ((1 : Int32) &&& 31))]) F w (m_X10_renew _ _ _ hc) rfl rfl hl.1 ds_7 vc_X10 rfl ok_X10_renew rfl kc_X10_renew kl_X10_83 ki_X10_renew kv_X10_renew kn_X10 ⟨Nat.le_trans (by decide) hR1, Nat.le_trans (by decide) hR2⟩ ⟨Nat.zero_le _, Nat.zero_le _⟩ (Nat.le_of_ble_eq_true rfl) dX10_cutHook_46 (fun H locs w => ?_)
  refine lv_aload_n (pc := 49) hx hb dX10_cutHook_49 rfl (lv_at hl 1 rfl) ?_
  refine lv_iload_n (pc := 50) hx hb dX10_cutHook_50 rfl (lv_at hl 0 rfl) ?_
  refine lv_iconst (pc := 51) (v := 1) hx hb dX10_cutHook_51 (by decide) ?_
  refine lv_ishr (pc := 52) hx hb dX10_cutHook_52 ?_
  obtain ⟨S7, hc, h⟩ := bndv_t h
  refine s_cvv (pc := 53) [.int (z3 >>> ((1 : Int32) &&& 31))] (fun ad => [.ref (ad 7), .int (z3 >>> ((1 : Int32) &&& 31))]) F w (m_X10_renew _ _ _ hc) rfl rfl hl.1 ds_7 vc_X10 rfl ok_X10_renew rfl kc_X10_renew kl_X10_83 ki_X10_renew kv_X10_renew kn_X10 ⟨Nat.le_trans (by decide) hR1, Nat.le_trans (by decide) hR2⟩ ⟨Nat.zero_le _, Nat.zero_le _⟩ (Nat.le_of_ble_eq_true rfl) dX10_cutHook_53 (fun H locs w => ?_)
  exact s_vret F w h dX10_cutHook_56
def f_X11_partFrom (a1 : Int32) (a2 : Int32) (S : SS) : Option (Int32 × SS) :=
  bnd (f_X11_namedSide a1 (127 : Int32) a2 S) (fun r2 S1 =>
  if r2 = 0 then
    bnd (f_X8_get a1 ((2 : Int32) + a2) S1) (fun r4 S3 =>
    if r4 = (-4 : Int32) then
      bnd (f_X5_found (1 : Int32) S3) (fun r7 S6 =>
      some (r7, S6))
    else
      bndv (f_X10_cutHook (((2 : Int32) * a1) + a2) S3) (fun S5 =>
      some (r4, S5)))
  else
    bnd (f_X5_found r2 S1) (fun r9 S8 =>
    some (r9, S8)))
theorem dX11_partFrom_0 : decode cX11_partFrom 0 = .ok (.aload_n 0, 1) := by decide +kernel
theorem dX11_partFrom_1 : decode cX11_partFrom 1 = .ok (.iload_n 1, 1) := by decide +kernel
theorem dX11_partFrom_2 : decode cX11_partFrom 2 = .ok (.bipush 127, 2) := by decide +kernel
theorem dX11_partFrom_4 : decode cX11_partFrom 4 = .ok (.iload_n 2, 1) := by decide +kernel
theorem dX11_partFrom_5 : decode cX11_partFrom 5 = .ok (.invokevirtual 259, 3) := by decide +kernel
theorem dX11_partFrom_8 : decode cX11_partFrom 8 = .ok (.istore_n 3, 1) := by decide +kernel
theorem dX11_partFrom_9 : decode cX11_partFrom 9 = .ok (.iload_n 3, 1) := by decide +kernel
theorem dX11_partFrom_10 : decode cX11_partFrom 10 = .ok (.ifCond .eq 12, 3) := by decide +kernel
theorem dX11_partFrom_13 : decode cX11_partFrom 13 = .ok (.aload_n 0, 1) := by decide +kernel
theorem dX11_partFrom_14 : decode cX11_partFrom 14 = .ok (.getfield 10, 3) := by decide +kernel
theorem dX11_partFrom_17 : decode cX11_partFrom 17 = .ok (.iload_n 3, 1) := by decide +kernel
theorem dX11_partFrom_18 : decode cX11_partFrom 18 = .ok (.invokevirtual 98, 3) := by decide +kernel
theorem dX11_partFrom_21 : decode cX11_partFrom 21 = .ok (.ireturn, 1) := by decide +kernel
theorem dX11_partFrom_22 : decode cX11_partFrom 22 = .ok (.aload_n 0, 1) := by decide +kernel
theorem dX11_partFrom_23 : decode cX11_partFrom 23 = .ok (.getfield 19, 3) := by decide +kernel
theorem dX11_partFrom_26 : decode cX11_partFrom 26 = .ok (.iload_n 1, 1) := by decide +kernel
theorem dX11_partFrom_27 : decode cX11_partFrom 27 = .ok (.iconst 2, 1) := by decide +kernel
theorem dX11_partFrom_28 : decode cX11_partFrom 28 = .ok (.iload_n 2, 1) := by decide +kernel
theorem dX11_partFrom_29 : decode cX11_partFrom 29 = .ok (.iadd, 1) := by decide +kernel
theorem dX11_partFrom_30 : decode cX11_partFrom 30 = .ok (.invokevirtual 253, 3) := by decide +kernel
theorem dX11_partFrom_33 : decode cX11_partFrom 33 = .ok (.istore 4, 2) := by decide +kernel
theorem dX11_partFrom_35 : decode cX11_partFrom 35 = .ok (.iload 4, 2) := by decide +kernel
theorem dX11_partFrom_37 : decode cX11_partFrom 37 = .ok (.bipush (-4), 2) := by decide +kernel
theorem dX11_partFrom_39 : decode cX11_partFrom 39 = .ok (.if_icmp .ne 12, 3) := by decide +kernel
theorem dX11_partFrom_42 : decode cX11_partFrom 42 = .ok (.aload_n 0, 1) := by decide +kernel
theorem dX11_partFrom_43 : decode cX11_partFrom 43 = .ok (.getfield 10, 3) := by decide +kernel
theorem dX11_partFrom_46 : decode cX11_partFrom 46 = .ok (.iconst 1, 1) := by decide +kernel
theorem dX11_partFrom_47 : decode cX11_partFrom 47 = .ok (.invokevirtual 98, 3) := by decide +kernel
theorem dX11_partFrom_50 : decode cX11_partFrom 50 = .ok (.ireturn, 1) := by decide +kernel
theorem dX11_partFrom_51 : decode cX11_partFrom 51 = .ok (.aload_n 0, 1) := by decide +kernel
theorem dX11_partFrom_52 : decode cX11_partFrom 52 = .ok (.getfield 58, 3) := by decide +kernel
theorem dX11_partFrom_55 : decode cX11_partFrom 55 = .ok (.iconst 2, 1) := by decide +kernel
theorem dX11_partFrom_56 : decode cX11_partFrom 56 = .ok (.iload_n 1, 1) := by decide +kernel
theorem dX11_partFrom_57 : decode cX11_partFrom 57 = .ok (.imul, 1) := by decide +kernel
theorem dX11_partFrom_58 : decode cX11_partFrom 58 = .ok (.iload_n 2, 1) := by decide +kernel
theorem dX11_partFrom_59 : decode cX11_partFrom 59 = .ok (.iadd, 1) := by decide +kernel
theorem dX11_partFrom_60 : decode cX11_partFrom 60 = .ok (.invokevirtual 277, 3) := by decide +kernel
theorem dX11_partFrom_63 : decode cX11_partFrom 63 = .ok (.iload 4, 2) := by decide +kernel
theorem dX11_partFrom_65 : decode cX11_partFrom 65 = .ok (.ireturn, 1) := by decide +kernel
set_option maxRecDepth 100000 in
set_option maxHeartbeats 4000000 in
theorem m_X11_partFrom (a1 : Int32) (a2 : Int32) (S S' : SS) (r : Int32) (h : f_X11_partFrom a1 a2 S = some (r, S')) : MT yX11_partFrom cX11_partFrom 5 (some .int) 5 110 (fun ad => [.ref (ad 0), .int a1, .int a2]) S (some (.int r)) S' := by
  refine MT.of RX11 (fun ad => [(0, .ref (ad 0)), (1, .int a1), (2, .int a2)]) (by decide) rfl (fun _ => Nat.le_of_ble_eq_true rfl) (fun _ => rfl) ?_
  intro p l e R s m args below meth c dC dI cs ad A hR1 hR2 F H locs ls w hl
  have hx := F.1.1
  have hb := F.1.2.1
  rw [f_X11_partFrom] at h
  refine lv_aload_n (pc := 0) hx hb dX11_partFrom_0 rfl (lv_at hl 0 rfl) ?_
  refine lv_iload_n (pc := 1) hx hb dX11_partFrom_1 rfl (lv_at hl 1 rfl) ?_
  refine lv_bipush (pc := 2) (v := 127) hx hb dX11_partFrom_2 (by decide) ?_
  refine lv_iload_n (pc := 4) hx hb dX11_partFrom_4 rfl (lv_at hl 2 rfl) ?_
  obtain ⟨r2, S1, hc, h⟩ := bnd_t h
  refine s_cvi (pc := 5) [.int a1, .int (127 : Int32), .int a2] (fun ad => [.ref (ad 0), .int a1, .int (127 : Int32), .int a2]) F w (m_X11_namedSide _ _ _ _ _ _ hc) rfl rfl hl.1 ds_0 vc_X11 rfl ok_X11_namedSide rfl kc_X11_namedSide kl_X11_259 ki_X11_namedSide kv_X11_namedSide kn_X11 ⟨Nat.le_trans (by decide) hR1, Nat.le_trans (by decide) hR2⟩ ⟨Nat.zero_le _, Nat.zero_le _⟩ (Nat.le_of_ble_eq_true rfl) dX11_partFrom_5 (fun H locs w => ?_)
  refine lv_istore_n (pc := 8) (lv' := [(3, .int r2), (0, .ref (ad 0)), (1, .int a1), (2, .int a2)]) hx hb dX11_partFrom_8 rfl hl (by decide) rfl (fun ls hl => ?_)
  refine lv_iload_n (pc := 9) hx hb dX11_partFrom_9 rfl (lv_at hl 0 rfl) ?_
  refine lv_if_eq (pc := 10) (tgt := 22) hx hb dX11_partFrom_10 (by decide) (fun q => ?_) (fun q => ?_)
  · have h := ite_t q h
    refine lv_aload_n (pc := 22) hx hb dX11_partFrom_22 rfl (lv_at hl 1 rfl) ?_
    refine s_getR (pc := 23) F w 2 ds_0 (j := 1) vc_X11 vi_X11 rfl (by decide) kf_X11_19 dX11_partFrom_23 ?_
    refine lv_iload_n (pc := 26) hx hb dX11_partFrom_26 rfl (lv_at hl 2 rfl) ?_
    refine lv_iconst (pc := 27) (v := 2) hx hb dX11_partFrom_27 (by decide) ?_
    refine lv_iload_n (pc := 28) hx hb dX11_partFrom_28 rfl (lv_at hl 3 rfl) ?_
    refine lv_iadd (pc := 29) hx hb dX11_partFrom_29 ?_
    obtain ⟨r4, S3, hc, h⟩ := bnd_t h
    refine s_cvi (pc := 30) [.int a1, .int ((2 : Int32) + a2)] (fun ad => [.ref (ad 2), .int a1, .int ((2 : Int32) + a2)]) F w (m_X8_get _ _ _ _ _ hc) rfl rfl hl.1 ds_2 vc_X8 rfl ok_X8_get rfl kc_X8_get kl_X11_253 ki_X8_get kv_X8_get kn_X8 ⟨Nat.le_trans (by decide) hR1, Nat.le_trans (by decide) hR2⟩ ⟨Nat.zero_le _, Nat.zero_le _⟩ (Nat.le_of_ble_eq_true rfl) dX11_partFrom_30 (fun H locs w => ?_)
    refine lv_istore (pc := 33) (lv' := [(4, .int r4), (3, .int r2), (0, .ref (ad 0)), (1, .int a1), (2, .int a2)]) hx hb dX11_partFrom_33 hl (by decide) rfl (fun ls hl => ?_)
    refine lv_iload (pc := 35) hx hb dX11_partFrom_35 (lv_at hl 0 rfl) ?_
    refine lv_bipush (pc := 37) (v := -4) hx hb dX11_partFrom_37 (by decide) ?_
    refine lv_icmp_ne (pc := 39) (tgt := 51) hx hb dX11_partFrom_39 (by decide) (fun q => ?_) (fun q => ?_)
    · have h := ite_f q h
      refine lv_aload_n (pc := 51) hx hb dX11_partFrom_51 rfl (lv_at hl 2 rfl) ?_
      refine s_getR (pc := 52) F w 7 ds_0 (j := 6) vc_X11 vi_X11 rfl (by decide) kf_X11_58 dX11_partFrom_52 ?_
      refine lv_iconst (pc := 55) (v := 2) hx hb dX11_partFrom_55 (by decide) ?_
      refine lv_iload_n (pc := 56) hx hb dX11_partFrom_56 rfl (lv_at hl 3 rfl) ?_
      refine lv_imul (pc := 57) hx hb dX11_partFrom_57 ?_
      refine lv_iload_n (pc := 58) hx hb dX11_partFrom_58 rfl (lv_at hl 4 rfl) ?_
      refine lv_iadd (pc := 59) hx hb dX11_partFrom_59 ?_
      obtain ⟨S5, hc, h⟩ := bndv_t h
      refine s_cvv (pc := 60) [.int (((2 : Int32) * a1) + a2)] (fun ad => [.ref (ad 7), .int (((2 : Int32) * a1) + a2)]) F w (m_X10_cutHook _ _ _ hc) rfl rfl hl.1 ds_7 vc_X10 rfl ok_X10_cutHook rfl kc_X10_cutHook kl_X11_277 ki_X10_cutHook kv_X10_cutHook kn_X10 ⟨Nat.le_trans (by decide) hR1, Nat.le_trans (by decide) hR2⟩ ⟨Nat.zero_le _, Nat.zero_le _⟩ (Nat.le_of_ble_eq_true rfl) dX11_partFrom_60 (fun H locs w => ?_)
      refine lv_iload (pc := 63) hx hb dX11_partFrom_63 (lv_at hl 0 rfl) ?_
      exact s_iret F w h dX11_partFrom_65
    · have h := ite_t q h
      refine lv_aload_n (pc := 42) hx hb dX11_partFrom_42 rfl (lv_at hl 2 rfl) ?_
      refine s_getR (pc := 43) F w 1 ds_0 (j := 0) vc_X11 vi_X11 rfl (by decide) kf_X11_10 dX11_partFrom_43 ?_
      refine lv_iconst (pc := 46) (v := 1) hx hb dX11_partFrom_46 (by decide) ?_
      obtain ⟨r7, S6, hc, h⟩ := bnd_t h
      refine s_cvi (pc := 47) [.int (1 : Int32)] (fun ad => [.ref (ad 1), .int (1 : Int32)]) F w (m_X5_found _ _ _ _ hc) rfl rfl hl.1 ds_1 vc_X5 rfl ok_X5_found rfl kc_X5_found kl_X11_98 ki_X5_found kv_X5_found kn_X5 ⟨Nat.le_trans (by decide) hR1, Nat.le_trans (by decide) hR2⟩ ⟨Nat.zero_le _, Nat.zero_le _⟩ (Nat.le_of_ble_eq_true rfl) dX11_partFrom_47 (fun H locs w => ?_)
      exact s_iret F w h dX11_partFrom_50
  · have h := ite_f q h
    refine lv_aload_n (pc := 13) hx hb dX11_partFrom_13 rfl (lv_at hl 1 rfl) ?_
    refine s_getR (pc := 14) F w 1 ds_0 (j := 0) vc_X11 vi_X11 rfl (by decide) kf_X11_10 dX11_partFrom_14 ?_
    refine lv_iload_n (pc := 17) hx hb dX11_partFrom_17 rfl (lv_at hl 0 rfl) ?_
    obtain ⟨r9, S8, hc, h⟩ := bnd_t h
    refine s_cvi (pc := 18) [.int r2] (fun ad => [.ref (ad 1), .int r2]) F w (m_X5_found _ _ _ _ hc) rfl rfl hl.1 ds_1 vc_X5 rfl ok_X5_found rfl kc_X5_found kl_X11_98 ki_X5_found kv_X5_found kn_X5 ⟨Nat.le_trans (by decide) hR1, Nat.le_trans (by decide) hR2⟩ ⟨Nat.zero_le _, Nat.zero_le _⟩ (Nat.le_of_ble_eq_true rfl) dX11_partFrom_18 (fun H locs w => ?_)
    exact s_iret F w h dX11_partFrom_21
def f_X11_part (a1 : Int32) (a2 : Int32) (S : SS) : Option (Int32 × SS) :=
  bndv (f_X11_beginAct  S) (fun S1 =>
  bnd (f_X11_partFrom a1 a2 S1) (fun r3 S2 =>
  bnd (f_X11_endAct (7 : Int32) r3 S2) (fun r5 S4 =>
  some (r5, S4))))
theorem dX11_part_0 : decode cX11_part 0 = .ok (.aload_n 0, 1) := by decide +kernel
theorem dX11_part_1 : decode cX11_part 1 = .ok (.invokevirtual 199, 3) := by decide +kernel
theorem dX11_part_4 : decode cX11_part 4 = .ok (.aload_n 0, 1) := by decide +kernel
theorem dX11_part_5 : decode cX11_part 5 = .ok (.bipush 7, 2) := by decide +kernel
theorem dX11_part_7 : decode cX11_part 7 = .ok (.aload_n 0, 1) := by decide +kernel
theorem dX11_part_8 : decode cX11_part 8 = .ok (.iload_n 1, 1) := by decide +kernel
theorem dX11_part_9 : decode cX11_part 9 = .ok (.iload_n 2, 1) := by decide +kernel
theorem dX11_part_10 : decode cX11_part 10 = .ok (.invokevirtual 223, 3) := by decide +kernel
theorem dX11_part_13 : decode cX11_part 13 = .ok (.invokevirtual 205, 3) := by decide +kernel
theorem dX11_part_16 : decode cX11_part 16 = .ok (.ireturn, 1) := by decide +kernel
set_option maxRecDepth 100000 in
set_option maxHeartbeats 4000000 in
theorem m_X11_part (a1 : Int32) (a2 : Int32) (S S' : SS) (r : Int32) (h : f_X11_part a1 a2 S = some (r, S')) : MT yX11_part cX11_part 3 (some .int) 6 134 (fun ad => [.ref (ad 0), .int a1, .int a2]) S (some (.int r)) S' := by
  refine MT.of RX11 (fun ad => [(0, .ref (ad 0)), (1, .int a1), (2, .int a2)]) (by decide) rfl (fun _ => Nat.le_of_ble_eq_true rfl) (fun _ => rfl) ?_
  intro p l e R s m args below meth c dC dI cs ad A hR1 hR2 F H locs ls w hl
  have hx := F.1.1
  have hb := F.1.2.1
  rw [f_X11_part] at h
  refine lv_aload_n (pc := 0) hx hb dX11_part_0 rfl (lv_at hl 0 rfl) ?_
  obtain ⟨S1, hc, h⟩ := bndv_t h
  refine s_cvv (pc := 1) [] (fun ad => [.ref (ad 0)]) F w (m_X11_beginAct  _ _ hc) rfl rfl hl.1 ds_0 vc_X11 rfl ok_X11_beginAct rfl kc_X11_beginAct kl_X11_199 ki_X11_beginAct kv_X11_beginAct kn_X11 ⟨Nat.le_trans (by decide) hR1, Nat.le_trans (by decide) hR2⟩ ⟨Nat.zero_le _, Nat.zero_le _⟩ (Nat.le_of_ble_eq_true rfl) dX11_part_1 (fun H locs w => ?_)
  refine lv_aload_n (pc := 4) hx hb dX11_part_4 rfl (lv_at hl 0 rfl) ?_
  refine lv_bipush (pc := 5) (v := 7) hx hb dX11_part_5 (by decide) ?_
  refine lv_aload_n (pc := 7) hx hb dX11_part_7 rfl (lv_at hl 0 rfl) ?_
  refine lv_iload_n (pc := 8) hx hb dX11_part_8 rfl (lv_at hl 1 rfl) ?_
  refine lv_iload_n (pc := 9) hx hb dX11_part_9 rfl (lv_at hl 2 rfl) ?_
  obtain ⟨r3, S2, hc, h⟩ := bnd_t h
  refine s_cvi (pc := 10) [.int a1, .int a2] (fun ad => [.ref (ad 0), .int a1, .int a2]) F w (m_X11_partFrom _ _ _ _ _ hc) rfl rfl hl.1 ds_0 vc_X11 rfl ok_X11_partFrom rfl kc_X11_partFrom kl_X11_223 ki_X11_partFrom kv_X11_partFrom kn_X11 ⟨Nat.le_trans (by decide) hR1, Nat.le_trans (by decide) hR2⟩ ⟨Nat.zero_le _, Nat.zero_le _⟩ (Nat.le_of_ble_eq_true rfl) dX11_part_10 (fun H locs w => ?_)
  obtain ⟨r5, S4, hc, h⟩ := bnd_t h
  refine s_cvi (pc := 13) [.int (7 : Int32), .int r3] (fun ad => [.ref (ad 0), .int (7 : Int32), .int r3]) F w (m_X11_endAct _ _ _ _ _ hc) rfl rfl hl.1 ds_0 vc_X11 rfl ok_X11_endAct rfl kc_X11_endAct kl_X11_205 ki_X11_endAct kv_X11_endAct kn_X11 ⟨Nat.le_trans (by decide) hR1, Nat.le_trans (by decide) hR2⟩ ⟨Nat.zero_le _, Nat.zero_le _⟩ (Nat.le_of_ble_eq_true rfl) dX11_part_13 (fun H locs w => ?_)
  exact s_iret F w h dX11_part_16
def f_X12_part_j45  (x1 : Int32) (x2 : Int32) (y0 : Int32) (S : SS) : Option (Int32 × SS) :=
    bnd (f_X12_ends y0 S) (fun r6 S5 =>
    if r6 = 0 then
      grd (inb (((2 : Int32) * x1) + x2) 144) (
      nm (S5.1 90 (((2 : Int32) * x1) + x2).toNatClampNeg) (fun z7 =>
      bnd (f_X12_sideTo z7 x1 S5) (fun r9 S8 =>
      grd (inb (((2 : Int32) * z7) + r9) 144) (wr S8 90 (((2 : Int32) * z7) + r9).toNatClampNeg (-4 : Int32) (fun S10 =>
      grd (inb (((2 : Int32) * x1) + x2) 144) (wr S10 90 (((2 : Int32) * x1) + x2).toNatClampNeg (-4 : Int32) (fun S11 =>
      bndv (f_X12_renumber x1 S11) (fun S12 =>
      bndv (f_X12_renumber z7 S12) (fun S13 =>
      bnd (f_X12_entered (7 : Int32) z7 S13) (fun r15 S14 =>
      some (r15, S14)))))))))))
    else
      bnd (f_X12_entered (7 : Int32) (-2 : Int32) S5) (fun r17 S16 =>
      some (r17, S16)))
def f_X12_part (a1 : Int32) (a2 : Int32) (S : SS) : Option (Int32 × SS) :=
  bndv (f_X12_begin  S) (fun S1 =>
  bndv (f_X12_keep  S1) (fun S2 =>
  bnd (f_X12_missSide a1 (0 : Int32) a2 S2) (fun r4 S3 =>
  if r4 = 0 then
    grd (inb (((2 : Int32) * a1) + a2) 144) (
    if (S3.1 90 (((2 : Int32) * a1) + a2).toNatClampNeg) = (-4 : Int32) then
      f_X12_part_j45 a1 a2 (1 : Int32) S3
    else
      f_X12_part_j45 a1 a2 (0 : Int32) S3)
  else
    f_X12_part_j45 a1 a2 r4 S3)))
theorem dX12_part_0 : decode cX12_part 0 = .ok (.aload_n 0, 1) := by decide +kernel
theorem dX12_part_1 : decode cX12_part 1 = .ok (.invokevirtual 226, 3) := by decide +kernel
theorem dX12_part_4 : decode cX12_part 4 = .ok (.aload_n 0, 1) := by decide +kernel
theorem dX12_part_5 : decode cX12_part 5 = .ok (.invokevirtual 346, 3) := by decide +kernel
theorem dX12_part_8 : decode cX12_part 8 = .ok (.aload_n 0, 1) := by decide +kernel
theorem dX12_part_9 : decode cX12_part 9 = .ok (.iload_n 1, 1) := by decide +kernel
theorem dX12_part_10 : decode cX12_part 10 = .ok (.iconst 0, 1) := by decide +kernel
theorem dX12_part_11 : decode cX12_part 11 = .ok (.iload_n 2, 1) := by decide +kernel
theorem dX12_part_12 : decode cX12_part 12 = .ok (.invokevirtual 364, 3) := by decide +kernel
theorem dX12_part_15 : decode cX12_part 15 = .ok (.istore_n 3, 1) := by decide +kernel
theorem dX12_part_16 : decode cX12_part 16 = .ok (.aload_n 0, 1) := by decide +kernel
theorem dX12_part_17 : decode cX12_part 17 = .ok (.iload_n 3, 1) := by decide +kernel
theorem dX12_part_18 : decode cX12_part 18 = .ok (.ifCond .eq 7, 3) := by decide +kernel
theorem dX12_part_21 : decode cX12_part 21 = .ok (.iload_n 3, 1) := by decide +kernel
theorem dX12_part_22 : decode cX12_part 22 = .ok (.goto 23, 3) := by decide +kernel
theorem dX12_part_25 : decode cX12_part 25 = .ok (.aload_n 0, 1) := by decide +kernel
theorem dX12_part_26 : decode cX12_part 26 = .ok (.getfield 84, 3) := by decide +kernel
theorem dX12_part_29 : decode cX12_part 29 = .ok (.iconst 2, 1) := by decide +kernel
theorem dX12_part_30 : decode cX12_part 30 = .ok (.iload_n 1, 1) := by decide +kernel
theorem dX12_part_31 : decode cX12_part 31 = .ok (.imul, 1) := by decide +kernel
theorem dX12_part_32 : decode cX12_part 32 = .ok (.iload_n 2, 1) := by decide +kernel
theorem dX12_part_33 : decode cX12_part 33 = .ok (.iadd, 1) := by decide +kernel
theorem dX12_part_34 : decode cX12_part 34 = .ok (.iaload, 1) := by decide +kernel
theorem dX12_part_35 : decode cX12_part 35 = .ok (.bipush (-4), 2) := by decide +kernel
theorem dX12_part_37 : decode cX12_part 37 = .ok (.if_icmp .ne 7, 3) := by decide +kernel
theorem dX12_part_40 : decode cX12_part 40 = .ok (.iconst 1, 1) := by decide +kernel
theorem dX12_part_41 : decode cX12_part 41 = .ok (.goto 4, 3) := by decide +kernel
theorem dX12_part_44 : decode cX12_part 44 = .ok (.iconst 0, 1) := by decide +kernel
theorem dX12_part_45 : decode cX12_part 45 = .ok (.invokevirtual 236, 3) := by decide +kernel
theorem dX12_part_48 : decode cX12_part 48 = .ok (.ifCond .eq 12, 3) := by decide +kernel
theorem dX12_part_51 : decode cX12_part 51 = .ok (.aload_n 0, 1) := by decide +kernel
theorem dX12_part_52 : decode cX12_part 52 = .ok (.bipush 7, 2) := by decide +kernel
theorem dX12_part_54 : decode cX12_part 54 = .ok (.bipush (-2), 2) := by decide +kernel
theorem dX12_part_56 : decode cX12_part 56 = .ok (.invokevirtual 349, 3) := by decide +kernel
theorem dX12_part_59 : decode cX12_part 59 = .ok (.ireturn, 1) := by decide +kernel
theorem dX12_part_60 : decode cX12_part 60 = .ok (.aload_n 0, 1) := by decide +kernel
theorem dX12_part_61 : decode cX12_part 61 = .ok (.getfield 84, 3) := by decide +kernel
theorem dX12_part_64 : decode cX12_part 64 = .ok (.iconst 2, 1) := by decide +kernel
theorem dX12_part_65 : decode cX12_part 65 = .ok (.iload_n 1, 1) := by decide +kernel
theorem dX12_part_66 : decode cX12_part 66 = .ok (.imul, 1) := by decide +kernel
theorem dX12_part_67 : decode cX12_part 67 = .ok (.iload_n 2, 1) := by decide +kernel
theorem dX12_part_68 : decode cX12_part 68 = .ok (.iadd, 1) := by decide +kernel
theorem dX12_part_69 : decode cX12_part 69 = .ok (.iaload, 1) := by decide +kernel
theorem dX12_part_70 : decode cX12_part 70 = .ok (.istore 4, 2) := by decide +kernel
theorem dX12_part_72 : decode cX12_part 72 = .ok (.aload_n 0, 1) := by decide +kernel
theorem dX12_part_73 : decode cX12_part 73 = .ok (.getfield 84, 3) := by decide +kernel
theorem dX12_part_76 : decode cX12_part 76 = .ok (.iconst 2, 1) := by decide +kernel
theorem dX12_part_77 : decode cX12_part 77 = .ok (.iload 4, 2) := by decide +kernel
theorem dX12_part_79 : decode cX12_part 79 = .ok (.imul, 1) := by decide +kernel
theorem dX12_part_80 : decode cX12_part 80 = .ok (.aload_n 0, 1) := by decide +kernel
theorem dX12_part_81 : decode cX12_part 81 = .ok (.iload 4, 2) := by decide +kernel
theorem dX12_part_83 : decode cX12_part 83 = .ok (.iload_n 1, 1) := by decide +kernel
theorem dX12_part_84 : decode cX12_part 84 = .ok (.invokevirtual 313, 3) := by decide +kernel
theorem dX12_part_87 : decode cX12_part 87 = .ok (.iadd, 1) := by decide +kernel
theorem dX12_part_88 : decode cX12_part 88 = .ok (.bipush (-4), 2) := by decide +kernel
theorem dX12_part_90 : decode cX12_part 90 = .ok (.iastore, 1) := by decide +kernel
theorem dX12_part_91 : decode cX12_part 91 = .ok (.aload_n 0, 1) := by decide +kernel
theorem dX12_part_92 : decode cX12_part 92 = .ok (.getfield 84, 3) := by decide +kernel
theorem dX12_part_95 : decode cX12_part 95 = .ok (.iconst 2, 1) := by decide +kernel
theorem dX12_part_96 : decode cX12_part 96 = .ok (.iload_n 1, 1) := by decide +kernel
theorem dX12_part_97 : decode cX12_part 97 = .ok (.imul, 1) := by decide +kernel
theorem dX12_part_98 : decode cX12_part 98 = .ok (.iload_n 2, 1) := by decide +kernel
theorem dX12_part_99 : decode cX12_part 99 = .ok (.iadd, 1) := by decide +kernel
theorem dX12_part_100 : decode cX12_part 100 = .ok (.bipush (-4), 2) := by decide +kernel
theorem dX12_part_102 : decode cX12_part 102 = .ok (.iastore, 1) := by decide +kernel
theorem dX12_part_103 : decode cX12_part 103 = .ok (.aload_n 0, 1) := by decide +kernel
theorem dX12_part_104 : decode cX12_part 104 = .ok (.iload_n 1, 1) := by decide +kernel
theorem dX12_part_105 : decode cX12_part 105 = .ok (.invokevirtual 390, 3) := by decide +kernel
theorem dX12_part_108 : decode cX12_part 108 = .ok (.aload_n 0, 1) := by decide +kernel
theorem dX12_part_109 : decode cX12_part 109 = .ok (.iload 4, 2) := by decide +kernel
theorem dX12_part_111 : decode cX12_part 111 = .ok (.invokevirtual 390, 3) := by decide +kernel
theorem dX12_part_114 : decode cX12_part 114 = .ok (.aload_n 0, 1) := by decide +kernel
theorem dX12_part_115 : decode cX12_part 115 = .ok (.bipush 7, 2) := by decide +kernel
theorem dX12_part_117 : decode cX12_part 117 = .ok (.iload 4, 2) := by decide +kernel
theorem dX12_part_119 : decode cX12_part 119 = .ok (.invokevirtual 349, 3) := by decide +kernel
theorem dX12_part_122 : decode cX12_part 122 = .ok (.ireturn, 1) := by decide +kernel
set_option maxRecDepth 100000 in
set_option maxHeartbeats 4000000 in
theorem w_X12_part_j45 {p : Program} {l : Launch} {e : Env} {R : Room} {s : State} {m : MethodId} {args : Array Value} {below : List Frame} {meth : Method} {c : Code} {dC : Nat → ClassId} {dI : Nat → Nat → Nat} {cs : Nat → ClassId} {ad : Nat → Nat} {A : Nat → Prop} {D0 : Nat → Nat} {S' : SS} {r : Int32} (F : Fx p s m args meth c cX12_part 5 RX12 (some .int) dC dI cs A) (hR1 : 3 ≤ R.frames) (hR2 : 68 ≤ R.locals) (x1 : Int32) (x2 : Int32) (y0 : Int32) (S : SS) (h : f_X12_part_j45 x1 x2 y0 S = some (r, S')) : AW p l e R s m args below meth c dC dI cs ad A D0 (some (.int r)) S' 5 45 [(0, .ref (ad 14)), (1, .int x1), (2, .int x2)] [.int y0, .ref (ad 14)] S := by
  have hx := F.1.1
  have hb := F.1.2.1
  intro H locs ls w hl
  rw [f_X12_part_j45] at h
  obtain ⟨r6, S5, hc, h⟩ := bnd_t h
  refine s_cvi (pc := 45) [.int y0] (fun ad => [.ref (ad 14), .int y0]) F w (m_X12_ends _ _ _ _ hc) rfl rfl hl.1 ds_14 vc_X12 rfl ok_X12_ends rfl kc_X12_ends kl_X12_236 ki_X12_ends kv_X12_ends kn_X12 ⟨Nat.le_trans (by decide) hR1, Nat.le_trans (by decide) hR2⟩ ⟨Nat.zero_le _, Nat.zero_le _⟩ (Nat.le_of_ble_eq_true rfl) dX12_part_45 (fun H locs w => ?_)
  refine lv_if_eq (pc := 48) (tgt := 60) hx hb dX12_part_48 (by decide) (fun q => ?_) (fun q => ?_)
  · have h := ite_t q h
    refine lv_aload_n (pc := 60) hx hb dX12_part_60 rfl (lv_at hl 0 rfl) ?_
    refine s_getR (pc := 61) F w 90 ds_14 (j := 35) vc_X12 vi_X12 rfl (by decide) kf_X12_84 dX12_part_61 ?_
    refine lv_iconst (pc := 64) (v := 2) hx hb dX12_part_64 (by decide) ?_
    refine lv_iload_n (pc := 65) hx hb dX12_part_65 rfl (lv_at hl 1 rfl) ?_
    refine lv_imul (pc := 66) hx hb dX12_part_66 ?_
    refine lv_iload_n (pc := 67) hx hb dX12_part_67 rfl (lv_at hl 2 rfl) ?_
    refine lv_iadd (pc := 68) hx hb dX12_part_68 ?_
    refine s_iald (pc := 69) F w ds_90 h dX12_part_69 (fun h => ?_)
    refine s_nm h (fun z7 ez7 h => ?_)
    rw [← ez7]
    refine lv_istore (pc := 70) (lv' := [(4, .int z7), (0, .ref (ad 14)), (1, .int x1), (2, .int x2)]) hx hb dX12_part_70 hl (by decide) rfl (fun ls hl => ?_)
    refine lv_aload_n (pc := 72) hx hb dX12_part_72 rfl (lv_at hl 1 rfl) ?_
    refine s_getR (pc := 73) F w 90 ds_14 (j := 35) vc_X12 vi_X12 rfl (by decide) kf_X12_84 dX12_part_73 ?_
    refine lv_iconst (pc := 76) (v := 2) hx hb dX12_part_76 (by decide) ?_
    refine lv_iload (pc := 77) hx hb dX12_part_77 (lv_at hl 0 rfl) ?_
    refine lv_imul (pc := 79) hx hb dX12_part_79 ?_
    refine lv_aload_n (pc := 80) hx hb dX12_part_80 rfl (lv_at hl 1 rfl) ?_
    refine lv_iload (pc := 81) hx hb dX12_part_81 (lv_at hl 0 rfl) ?_
    refine lv_iload_n (pc := 83) hx hb dX12_part_83 rfl (lv_at hl 2 rfl) ?_
    obtain ⟨r9, S8, hc, h⟩ := bnd_t h
    refine s_cvi (pc := 84) [.int z7, .int x1] (fun ad => [.ref (ad 14), .int z7, .int x1]) F w (m_X12_sideTo _ _ _ _ _ hc) rfl rfl hl.1 ds_14 vc_X12 rfl ok_X12_sideTo rfl kc_X12_sideTo kl_X12_313 ki_X12_sideTo kv_X12_sideTo kn_X12 ⟨Nat.le_trans (by decide) hR1, Nat.le_trans (by decide) hR2⟩ ⟨Nat.zero_le _, Nat.zero_le _⟩ (Nat.le_of_ble_eq_true rfl) dX12_part_84 (fun H locs w => ?_)
    refine lv_iadd (pc := 87) hx hb dX12_part_87 ?_
    refine lv_bipush (pc := 88) (v := -4) hx hb dX12_part_88 (by decide) ?_
    refine s_iast (pc := 90) F w ds_90 h dX12_part_90 (fun S10 H locs h w => ?_)
    refine lv_aload_n (pc := 91) hx hb dX12_part_91 rfl (lv_at hl 1 rfl) ?_
    refine s_getR (pc := 92) F w 90 ds_14 (j := 35) vc_X12 vi_X12 rfl (by decide) kf_X12_84 dX12_part_92 ?_
    refine lv_iconst (pc := 95) (v := 2) hx hb dX12_part_95 (by decide) ?_
    refine lv_iload_n (pc := 96) hx hb dX12_part_96 rfl (lv_at hl 2 rfl) ?_
    refine lv_imul (pc := 97) hx hb dX12_part_97 ?_
    refine lv_iload_n (pc := 98) hx hb dX12_part_98 rfl (lv_at hl 3 rfl) ?_
    refine lv_iadd (pc := 99) hx hb dX12_part_99 ?_
    refine lv_bipush (pc := 100) (v := -4) hx hb dX12_part_100 (by decide) ?_
    refine s_iast (pc := 102) F w ds_90 h dX12_part_102 (fun S11 H locs h w => ?_)
    refine lv_aload_n (pc := 103) hx hb dX12_part_103 rfl (lv_at hl 1 rfl) ?_
    refine lv_iload_n (pc := 104) hx hb dX12_part_104 rfl (lv_at hl 2 rfl) ?_
    obtain ⟨S12, hc, h⟩ := bndv_t h
    refine s_cvv (pc := 105) [.int x1] (fun ad => [.ref (ad 14), .int x1]) F w (m_X12_renumber _ _ _ hc) rfl rfl hl.1 ds_14 vc_X12 rfl ok_X12_renumber rfl kc_X12_renumber kl_X12_390 ki_X12_renumber kv_X12_renumber kn_X12 ⟨Nat.le_trans (by decide) hR1, Nat.le_trans (by decide) hR2⟩ ⟨Nat.zero_le _, Nat.zero_le _⟩ (Nat.le_of_ble_eq_true rfl) dX12_part_105 (fun H locs w => ?_)
    refine lv_aload_n (pc := 108) hx hb dX12_part_108 rfl (lv_at hl 1 rfl) ?_
    refine lv_iload (pc := 109) hx hb dX12_part_109 (lv_at hl 0 rfl) ?_
    obtain ⟨S13, hc, h⟩ := bndv_t h
    refine s_cvv (pc := 111) [.int z7] (fun ad => [.ref (ad 14), .int z7]) F w (m_X12_renumber _ _ _ hc) rfl rfl hl.1 ds_14 vc_X12 rfl ok_X12_renumber rfl kc_X12_renumber kl_X12_390 ki_X12_renumber kv_X12_renumber kn_X12 ⟨Nat.le_trans (by decide) hR1, Nat.le_trans (by decide) hR2⟩ ⟨Nat.zero_le _, Nat.zero_le _⟩ (Nat.le_of_ble_eq_true rfl) dX12_part_111 (fun H locs w => ?_)
    refine lv_aload_n (pc := 114) hx hb dX12_part_114 rfl (lv_at hl 1 rfl) ?_
    refine lv_bipush (pc := 115) (v := 7) hx hb dX12_part_115 (by decide) ?_
    refine lv_iload (pc := 117) hx hb dX12_part_117 (lv_at hl 0 rfl) ?_
    obtain ⟨r15, S14, hc, h⟩ := bnd_t h
    refine s_cvi (pc := 119) [.int (7 : Int32), .int z7] (fun ad => [.ref (ad 14), .int (7 : Int32), .int z7]) F w (m_X12_entered _ _ _ _ _ hc) rfl rfl hl.1 ds_14 vc_X12 rfl ok_X12_entered rfl kc_X12_entered kl_X12_349 ki_X12_entered kv_X12_entered kn_X12 ⟨Nat.le_trans (by decide) hR1, Nat.le_trans (by decide) hR2⟩ ⟨Nat.zero_le _, Nat.zero_le _⟩ (Nat.le_of_ble_eq_true rfl) dX12_part_119 (fun H locs w => ?_)
    exact s_iret F w h dX12_part_122
  · have h := ite_f q h
    refine lv_aload_n (pc := 51) hx hb dX12_part_51 rfl (lv_at hl 0 rfl) ?_
    refine lv_bipush (pc := 52) (v := 7) hx hb dX12_part_52 (by decide) ?_
    refine lv_bipush (pc := 54) (v := -2) hx hb dX12_part_54 (by decide) ?_
    obtain ⟨r17, S16, hc, h⟩ := bnd_t h
    refine s_cvi (pc := 56) [.int (7 : Int32), .int (-2 : Int32)] (fun ad => [.ref (ad 14), .int (7 : Int32), .int (-2 : Int32)]) F w (m_X12_entered _ _ _ _ _ hc) rfl rfl hl.1 ds_14 vc_X12 rfl ok_X12_entered rfl kc_X12_entered kl_X12_349 ki_X12_entered kv_X12_entered kn_X12 ⟨Nat.le_trans (by decide) hR1, Nat.le_trans (by decide) hR2⟩ ⟨Nat.zero_le _, Nat.zero_le _⟩ (Nat.le_of_ble_eq_true rfl) dX12_part_56 (fun H locs w => ?_)
    exact s_iret F w h dX12_part_59
set_option maxRecDepth 100000 in
set_option maxHeartbeats 4000000 in
theorem m_X12_part (a1 : Int32) (a2 : Int32) (S S' : SS) (r : Int32) (h : f_X12_part a1 a2 S = some (r, S')) : MT yX12_part cX12_part 5 (some .int) 3 69 (fun ad => [.ref (ad 14), .int a1, .int a2]) S (some (.int r)) S' := by
  refine MT.of RX12 (fun ad => [(0, .ref (ad 14)), (1, .int a1), (2, .int a2)]) (by decide) rfl (fun _ => Nat.le_of_ble_eq_true rfl) (fun _ => rfl) ?_
  intro p l e R s m args below meth c dC dI cs ad A hR1 hR2 F H locs ls w hl
  have hx := F.1.1
  have hb := F.1.2.1
  rw [f_X12_part] at h
  refine lv_aload_n (pc := 0) hx hb dX12_part_0 rfl (lv_at hl 0 rfl) ?_
  obtain ⟨S1, hc, h⟩ := bndv_t h
  refine s_cvv (pc := 1) [] (fun ad => [.ref (ad 14)]) F w (m_X12_begin  _ _ hc) rfl rfl hl.1 ds_14 vc_X12 rfl ok_X12_begin rfl kc_X12_begin kl_X12_226 ki_X12_begin kv_X12_begin kn_X12 ⟨Nat.le_trans (by decide) hR1, Nat.le_trans (by decide) hR2⟩ ⟨Nat.zero_le _, Nat.zero_le _⟩ (Nat.le_of_ble_eq_true rfl) dX12_part_1 (fun H locs w => ?_)
  refine lv_aload_n (pc := 4) hx hb dX12_part_4 rfl (lv_at hl 0 rfl) ?_
  obtain ⟨S2, hc, h⟩ := bndv_t h
  refine s_cvv (pc := 5) [] (fun ad => [.ref (ad 14)]) F w (m_X12_keep  _ _ hc) rfl rfl hl.1 ds_14 vc_X12 rfl ok_X12_keep rfl kc_X12_keep kl_X12_346 ki_X12_keep kv_X12_keep kn_X12 ⟨Nat.le_trans (by decide) hR1, Nat.le_trans (by decide) hR2⟩ ⟨Nat.zero_le _, Nat.zero_le _⟩ (Nat.le_of_ble_eq_true rfl) dX12_part_5 (fun H locs w => ?_)
  refine lv_aload_n (pc := 8) hx hb dX12_part_8 rfl (lv_at hl 0 rfl) ?_
  refine lv_iload_n (pc := 9) hx hb dX12_part_9 rfl (lv_at hl 1 rfl) ?_
  refine lv_iconst (pc := 10) (v := 0) hx hb dX12_part_10 (by decide) ?_
  refine lv_iload_n (pc := 11) hx hb dX12_part_11 rfl (lv_at hl 2 rfl) ?_
  obtain ⟨r4, S3, hc, h⟩ := bnd_t h
  refine s_cvi (pc := 12) [.int a1, .int (0 : Int32), .int a2] (fun ad => [.ref (ad 14), .int a1, .int (0 : Int32), .int a2]) F w (m_X12_missSide _ _ _ _ _ _ hc) rfl rfl hl.1 ds_14 vc_X12 rfl ok_X12_missSide rfl kc_X12_missSide kl_X12_364 ki_X12_missSide kv_X12_missSide kn_X12 ⟨Nat.le_trans (by decide) hR1, Nat.le_trans (by decide) hR2⟩ ⟨Nat.zero_le _, Nat.zero_le _⟩ (Nat.le_of_ble_eq_true rfl) dX12_part_12 (fun H locs w => ?_)
  refine lv_istore_n (pc := 15) (lv' := [(3, .int r4), (0, .ref (ad 14)), (1, .int a1), (2, .int a2)]) hx hb dX12_part_15 rfl hl (by decide) rfl (fun ls hl => ?_)
  refine lv_aload_n (pc := 16) hx hb dX12_part_16 rfl (lv_at hl 1 rfl) ?_
  refine lv_iload_n (pc := 17) hx hb dX12_part_17 rfl (lv_at hl 0 rfl) ?_
  refine lv_if_eq (pc := 18) (tgt := 25) hx hb dX12_part_18 (by decide) (fun q => ?_) (fun q => ?_)
  · have h := ite_t q h
    refine lv_aload_n (pc := 25) hx hb dX12_part_25 rfl (lv_at hl 1 rfl) ?_
    refine s_getR (pc := 26) F w 90 ds_14 (j := 35) vc_X12 vi_X12 rfl (by decide) kf_X12_84 dX12_part_26 ?_
    refine lv_iconst (pc := 29) (v := 2) hx hb dX12_part_29 (by decide) ?_
    refine lv_iload_n (pc := 30) hx hb dX12_part_30 rfl (lv_at hl 2 rfl) ?_
    refine lv_imul (pc := 31) hx hb dX12_part_31 ?_
    refine lv_iload_n (pc := 32) hx hb dX12_part_32 rfl (lv_at hl 3 rfl) ?_
    refine lv_iadd (pc := 33) hx hb dX12_part_33 ?_
    refine s_iald (pc := 34) F w ds_90 h dX12_part_34 (fun h => ?_)
    refine lv_bipush (pc := 35) (v := -4) hx hb dX12_part_35 (by decide) ?_
    refine lv_icmp_ne (pc := 37) (tgt := 44) hx hb dX12_part_37 (by decide) (fun q => ?_) (fun q => ?_)
    · have h := ite_f q h
      refine lv_iconst (pc := 44) (v := 0) hx hb dX12_part_44 (by decide) ?_
      exact w_X12_part_j45 F (Nat.le_trans (by decide) hR1) (Nat.le_trans (by decide) hR2) _ _ _ _ h _ _ _ w (lv_sub hl [1, 2, 3] rfl)
    · have h := ite_t q h
      refine lv_iconst (pc := 40) (v := 1) hx hb dX12_part_40 (by decide) ?_
      refine lv_goto (pc := 41) (tgt := 45) hx hb dX12_part_41 (by decide) ?_
      exact w_X12_part_j45 F (Nat.le_trans (by decide) hR1) (Nat.le_trans (by decide) hR2) _ _ _ _ h _ _ _ w (lv_sub hl [1, 2, 3] rfl)
  · have h := ite_f q h
    refine lv_iload_n (pc := 21) hx hb dX12_part_21 rfl (lv_at hl 0 rfl) ?_
    refine lv_goto (pc := 22) (tgt := 45) hx hb dX12_part_22 (by decide) ?_
    exact w_X12_part_j45 F (Nat.le_trans (by decide) hR1) (Nat.le_trans (by decide) hR2) _ _ _ _ h _ _ _ w (lv_sub hl [1, 2, 3] rfl)
def f_X0_flatWeight (a1 : Int32) (S : SS) : Option (Int32 × SS) :=
  bndv (f_X5_beginBody (1 : Int32) S) (fun S1 =>
  bnd (f_X9_get a1 (2 : Int32) S1) (fun r3 S2 =>
  bnd (f_X9_get a1 (5 : Int32) S2) (fun r5 S4 =>
  some (r3 + r5, S4))))
theorem dX0_flatWeight_0 : decode cX0_flatWeight 0 = .ok (.aload_n 0, 1) := by decide +kernel
theorem dX0_flatWeight_1 : decode cX0_flatWeight 1 = .ok (.getfield 23, 3) := by decide +kernel
theorem dX0_flatWeight_4 : decode cX0_flatWeight 4 = .ok (.iconst 1, 1) := by decide +kernel
theorem dX0_flatWeight_5 : decode cX0_flatWeight 5 = .ok (.invokevirtual 40, 3) := by decide +kernel
theorem dX0_flatWeight_8 : decode cX0_flatWeight 8 = .ok (.aload_n 0, 1) := by decide +kernel
theorem dX0_flatWeight_9 : decode cX0_flatWeight 9 = .ok (.getfield 19, 3) := by decide +kernel
theorem dX0_flatWeight_12 : decode cX0_flatWeight 12 = .ok (.iload_n 1, 1) := by decide +kernel
theorem dX0_flatWeight_13 : decode cX0_flatWeight 13 = .ok (.iconst 2, 1) := by decide +kernel
theorem dX0_flatWeight_14 : decode cX0_flatWeight 14 = .ok (.invokevirtual 29, 3) := by decide +kernel
theorem dX0_flatWeight_17 : decode cX0_flatWeight 17 = .ok (.aload_n 0, 1) := by decide +kernel
theorem dX0_flatWeight_18 : decode cX0_flatWeight 18 = .ok (.getfield 19, 3) := by decide +kernel
theorem dX0_flatWeight_21 : decode cX0_flatWeight 21 = .ok (.iload_n 1, 1) := by decide +kernel
theorem dX0_flatWeight_22 : decode cX0_flatWeight 22 = .ok (.iconst 5, 1) := by decide +kernel
theorem dX0_flatWeight_23 : decode cX0_flatWeight 23 = .ok (.invokevirtual 29, 3) := by decide +kernel
theorem dX0_flatWeight_26 : decode cX0_flatWeight 26 = .ok (.iadd, 1) := by decide +kernel
theorem dX0_flatWeight_27 : decode cX0_flatWeight 27 = .ok (.ireturn, 1) := by decide +kernel
set_option maxRecDepth 100000 in
set_option maxHeartbeats 4000000 in
theorem m_X0_flatWeight (a1 : Int32) (S S' : SS) (r : Int32) (h : f_X0_flatWeight a1 S = some (r, S')) : MT yX0_flatWeight cX0_flatWeight 2 (some .int) 1 22 (fun ad => [.ref (ad 8), .int a1]) S (some (.int r)) S' := by
  refine MT.of RX0 (fun ad => [(0, .ref (ad 8)), (1, .int a1)]) (by decide) rfl (fun _ => Nat.le_of_ble_eq_true rfl) (fun _ => rfl) ?_
  intro p l e R s m args below meth c dC dI cs ad A hR1 hR2 F H locs ls w hl
  have hx := F.1.1
  have hb := F.1.2.1
  rw [f_X0_flatWeight] at h
  refine lv_aload_n (pc := 0) hx hb dX0_flatWeight_0 rfl (lv_at hl 0 rfl) ?_
  refine s_getR (pc := 1) F w 1 ds_8 (j := 2) vc_X0 vi_X0 rfl (by decide) kf_X0_23 dX0_flatWeight_1 ?_
  refine lv_iconst (pc := 4) (v := 1) hx hb dX0_flatWeight_4 (by decide) ?_
  obtain ⟨S1, hc, h⟩ := bndv_t h
  refine s_cvv (pc := 5) [.int (1 : Int32)] (fun ad => [.ref (ad 1), .int (1 : Int32)]) F w (m_X5_beginBody _ _ _ hc) rfl rfl hl.1 ds_1 vc_X5 rfl ok_X5_beginBody rfl kc_X5_beginBody kl_X0_40 ki_X5_beginBody kv_X5_beginBody kn_X5 ⟨Nat.le_trans (by decide) hR1, Nat.le_trans (by decide) hR2⟩ ⟨Nat.zero_le _, Nat.zero_le _⟩ (Nat.le_of_ble_eq_true rfl) dX0_flatWeight_5 (fun H locs w => ?_)
  refine lv_aload_n (pc := 8) hx hb dX0_flatWeight_8 rfl (lv_at hl 0 rfl) ?_
  refine s_getR (pc := 9) F w 4 ds_8 (j := 1) vc_X0 vi_X0 rfl (by decide) kf_X0_19 dX0_flatWeight_9 ?_
  refine lv_iload_n (pc := 12) hx hb dX0_flatWeight_12 rfl (lv_at hl 1 rfl) ?_
  refine lv_iconst (pc := 13) (v := 2) hx hb dX0_flatWeight_13 (by decide) ?_
  obtain ⟨r3, S2, hc, h⟩ := bnd_t h
  refine s_cvi (pc := 14) [.int a1, .int (2 : Int32)] (fun ad => [.ref (ad 4), .int a1, .int (2 : Int32)]) F w (m_X9_get _ _ _ _ _ hc) rfl rfl hl.1 ds_4 vc_X9 rfl ok_X9_get rfl kc_X9_get kl_X0_29 ki_X9_get kv_X9_get kn_X9 ⟨Nat.le_trans (by decide) hR1, Nat.le_trans (by decide) hR2⟩ ⟨Nat.zero_le _, Nat.zero_le _⟩ (Nat.le_of_ble_eq_true rfl) dX0_flatWeight_14 (fun H locs w => ?_)
  refine lv_aload_n (pc := 17) hx hb dX0_flatWeight_17 rfl (lv_at hl 0 rfl) ?_
  refine s_getR (pc := 18) F w 4 ds_8 (j := 1) vc_X0 vi_X0 rfl (by decide) kf_X0_19 dX0_flatWeight_18 ?_
  refine lv_iload_n (pc := 21) hx hb dX0_flatWeight_21 rfl (lv_at hl 1 rfl) ?_
  refine lv_iconst (pc := 22) (v := 5) hx hb dX0_flatWeight_22 (by decide) ?_
  obtain ⟨r5, S4, hc, h⟩ := bnd_t h
  refine s_cvi (pc := 23) [.int a1, .int (5 : Int32)] (fun ad => [.ref (ad 4), .int a1, .int (5 : Int32)]) F w (m_X9_get _ _ _ _ _ hc) rfl rfl hl.1 ds_4 vc_X9 rfl ok_X9_get rfl kc_X9_get kl_X0_29 ki_X9_get kv_X9_get kn_X9 ⟨Nat.le_trans (by decide) hR1, Nat.le_trans (by decide) hR2⟩ ⟨Nat.zero_le _, Nat.zero_le _⟩ (Nat.le_of_ble_eq_true rfl) dX0_flatWeight_23 (fun H locs w => ?_)
  refine lv_iadd (pc := 26) hx hb dX0_flatWeight_26 ?_
  exact s_iret F w h dX0_flatWeight_27
def f_X0_tankWeight (a1 : Int32) (S : SS) : Option (Int32 × SS) :=
  bndv (f_X5_beginBody (2 : Int32) S) (fun S1 =>
  bnd (f_X0_flatWeight a1 S1) (fun r3 S2 =>
  bnd (f_X9_get a1 (4 : Int32) S2) (fun r5 S4 =>
  some (r3 + r5, S4))))
theorem dX0_tankWeight_0 : decode cX0_tankWeight 0 = .ok (.aload_n 0, 1) := by decide +kernel
theorem dX0_tankWeight_1 : decode cX0_tankWeight 1 = .ok (.getfield 23, 3) := by decide +kernel
theorem dX0_tankWeight_4 : decode cX0_tankWeight 4 = .ok (.iconst 2, 1) := by decide +kernel
theorem dX0_tankWeight_5 : decode cX0_tankWeight 5 = .ok (.invokevirtual 40, 3) := by decide +kernel
theorem dX0_tankWeight_8 : decode cX0_tankWeight 8 = .ok (.aload_n 0, 1) := by decide +kernel
theorem dX0_tankWeight_9 : decode cX0_tankWeight 9 = .ok (.iload_n 1, 1) := by decide +kernel
theorem dX0_tankWeight_10 : decode cX0_tankWeight 10 = .ok (.invokevirtual 46, 3) := by decide +kernel
theorem dX0_tankWeight_13 : decode cX0_tankWeight 13 = .ok (.aload_n 0, 1) := by decide +kernel
theorem dX0_tankWeight_14 : decode cX0_tankWeight 14 = .ok (.getfield 19, 3) := by decide +kernel
theorem dX0_tankWeight_17 : decode cX0_tankWeight 17 = .ok (.iload_n 1, 1) := by decide +kernel
theorem dX0_tankWeight_18 : decode cX0_tankWeight 18 = .ok (.iconst 4, 1) := by decide +kernel
theorem dX0_tankWeight_19 : decode cX0_tankWeight 19 = .ok (.invokevirtual 29, 3) := by decide +kernel
theorem dX0_tankWeight_22 : decode cX0_tankWeight 22 = .ok (.iadd, 1) := by decide +kernel
theorem dX0_tankWeight_23 : decode cX0_tankWeight 23 = .ok (.ireturn, 1) := by decide +kernel
set_option maxRecDepth 100000 in
set_option maxHeartbeats 4000000 in
theorem m_X0_tankWeight (a1 : Int32) (S S' : SS) (r : Int32) (h : f_X0_tankWeight a1 S = some (r, S')) : MT yX0_tankWeight cX0_tankWeight 2 (some .int) 2 43 (fun ad => [.ref (ad 8), .int a1]) S (some (.int r)) S' := by
  refine MT.of RX0 (fun ad => [(0, .ref (ad 8)), (1, .int a1)]) (by decide) rfl (fun _ => Nat.le_of_ble_eq_true rfl) (fun _ => rfl) ?_
  intro p l e R s m args below meth c dC dI cs ad A hR1 hR2 F H locs ls w hl
  have hx := F.1.1
  have hb := F.1.2.1
  rw [f_X0_tankWeight] at h
  refine lv_aload_n (pc := 0) hx hb dX0_tankWeight_0 rfl (lv_at hl 0 rfl) ?_
  refine s_getR (pc := 1) F w 1 ds_8 (j := 2) vc_X0 vi_X0 rfl (by decide) kf_X0_23 dX0_tankWeight_1 ?_
  refine lv_iconst (pc := 4) (v := 2) hx hb dX0_tankWeight_4 (by decide) ?_
  obtain ⟨S1, hc, h⟩ := bndv_t h
  refine s_cvv (pc := 5) [.int (2 : Int32)] (fun ad => [.ref (ad 1), .int (2 : Int32)]) F w (m_X5_beginBody _ _ _ hc) rfl rfl hl.1 ds_1 vc_X5 rfl ok_X5_beginBody rfl kc_X5_beginBody kl_X0_40 ki_X5_beginBody kv_X5_beginBody kn_X5 ⟨Nat.le_trans (by decide) hR1, Nat.le_trans (by decide) hR2⟩ ⟨Nat.zero_le _, Nat.zero_le _⟩ (Nat.le_of_ble_eq_true rfl) dX0_tankWeight_5 (fun H locs w => ?_)
  refine lv_aload_n (pc := 8) hx hb dX0_tankWeight_8 rfl (lv_at hl 0 rfl) ?_
  refine lv_iload_n (pc := 9) hx hb dX0_tankWeight_9 rfl (lv_at hl 1 rfl) ?_
  obtain ⟨r3, S2, hc, h⟩ := bnd_t h
  refine s_cvi (pc := 10) [.int a1] (fun ad => [.ref (ad 8), .int a1]) F w (m_X0_flatWeight _ _ _ _ hc) rfl rfl hl.1 ds_8 vc_X0 rfl ok_X0_flatWeight rfl kc_X0_flatWeight kl_X0_46 ki_X0_flatWeight kv_X0_flatWeight kn_X0 ⟨Nat.le_trans (by decide) hR1, Nat.le_trans (by decide) hR2⟩ ⟨Nat.zero_le _, Nat.zero_le _⟩ (Nat.le_of_ble_eq_true rfl) dX0_tankWeight_10 (fun H locs w => ?_)
  refine lv_aload_n (pc := 13) hx hb dX0_tankWeight_13 rfl (lv_at hl 0 rfl) ?_
  refine s_getR (pc := 14) F w 4 ds_8 (j := 1) vc_X0 vi_X0 rfl (by decide) kf_X0_19 dX0_tankWeight_14 ?_
  refine lv_iload_n (pc := 17) hx hb dX0_tankWeight_17 rfl (lv_at hl 1 rfl) ?_
  refine lv_iconst (pc := 18) (v := 4) hx hb dX0_tankWeight_18 (by decide) ?_
  obtain ⟨r5, S4, hc, h⟩ := bnd_t h
  refine s_cvi (pc := 19) [.int a1, .int (4 : Int32)] (fun ad => [.ref (ad 4), .int a1, .int (4 : Int32)]) F w (m_X9_get _ _ _ _ _ hc) rfl rfl hl.1 ds_4 vc_X9 rfl ok_X9_get rfl kc_X9_get kl_X0_29 ki_X9_get kv_X9_get kn_X9 ⟨Nat.le_trans (by decide) hR1, Nat.le_trans (by decide) hR2⟩ ⟨Nat.zero_le _, Nat.zero_le _⟩ (Nat.le_of_ble_eq_true rfl) dX0_tankWeight_19 (fun H locs w => ?_)
  refine lv_iadd (pc := 22) hx hb dX0_tankWeight_22 ?_
  exact s_iret F w h dX0_tankWeight_23
def f_X0_weight (a1 : Int32) (S : SS) : Option (Int32 × SS) :=
  bnd (f_X0_kindOf a1 S) (fun r2 S1 =>
  if r2 = (1 : Int32) then
    bnd (f_X0_tankWeight a1 S1) (fun r4 S3 =>
    some (r4, S3))
  else
  if r2 = (2 : Int32) then
    bndv (f_X5_beginBody (3 : Int32) S1) (fun S5 =>
    bnd (f_X0_tankWeight a1 S5) (fun r7 S6 =>
    some (r7 + (5 : Int32), S6)))
  else
  if r2 = (3 : Int32) then
    bnd (f_X0_flatWeight a1 S1) (fun r9 S8 =>
    some (r9, S8))
  else
  if r2 = (4 : Int32) then
    bndv (f_X5_beginBody (4 : Int32) S1) (fun S10 =>
    bnd (f_X9_get a1 (2 : Int32) S10) (fun r12 S11 =>
    some (r12, S11)))
  else
  if r2 = (5 : Int32) then
    bndv (f_X5_beginBody (5 : Int32) S1) (fun S13 =>
    bnd (f_X9_get a1 (2 : Int32) S13) (fun r15 S14 =>
    some ((80 : Int32) + r15, S14)))
  else
  if r2 = (6 : Int32) then
    bndv (f_X5_beginBody (5 : Int32) S1) (fun S16 =>
    bnd (f_X9_get a1 (2 : Int32) S16) (fun r18 S17 =>
    some ((80 : Int32) + r18, S17)))
  else
  bnd (f_X0_flatWeight a1 S1) (fun r20 S19 =>
  some (r20, S19)))
theorem dX0_weight_0 : decode cX0_weight 0 = .ok (.aload_n 0, 1) := by decide +kernel
theorem dX0_weight_1 : decode cX0_weight 1 = .ok (.iload_n 1, 1) := by decide +kernel
theorem dX0_weight_2 : decode cX0_weight 2 = .ok (.invokevirtual 33, 3) := by decide +kernel
theorem dX0_weight_5 : decode cX0_weight 5 = .ok (.tableswitch 100 1 6 #[39, 45, 100, 61, 79, 79], 39) := by decide +kernel
theorem dX0_weight_44 : decode cX0_weight 44 = .ok (.aload_n 0, 1) := by decide +kernel
theorem dX0_weight_45 : decode cX0_weight 45 = .ok (.iload_n 1, 1) := by decide +kernel
theorem dX0_weight_46 : decode cX0_weight 46 = .ok (.invokevirtual 37, 3) := by decide +kernel
theorem dX0_weight_49 : decode cX0_weight 49 = .ok (.ireturn, 1) := by decide +kernel
theorem dX0_weight_50 : decode cX0_weight 50 = .ok (.aload_n 0, 1) := by decide +kernel
theorem dX0_weight_51 : decode cX0_weight 51 = .ok (.getfield 23, 3) := by decide +kernel
theorem dX0_weight_54 : decode cX0_weight 54 = .ok (.iconst 3, 1) := by decide +kernel
theorem dX0_weight_55 : decode cX0_weight 55 = .ok (.invokevirtual 40, 3) := by decide +kernel
theorem dX0_weight_58 : decode cX0_weight 58 = .ok (.aload_n 0, 1) := by decide +kernel
theorem dX0_weight_59 : decode cX0_weight 59 = .ok (.iload_n 1, 1) := by decide +kernel
theorem dX0_weight_60 : decode cX0_weight 60 = .ok (.invokevirtual 37, 3) := by decide +kernel
theorem dX0_weight_63 : decode cX0_weight 63 = .ok (.iconst 5, 1) := by decide +kernel
theorem dX0_weight_64 : decode cX0_weight 64 = .ok (.iadd, 1) := by decide +kernel
theorem dX0_weight_65 : decode cX0_weight 65 = .ok (.ireturn, 1) := by decide +kernel
theorem dX0_weight_66 : decode cX0_weight 66 = .ok (.aload_n 0, 1) := by decide +kernel
theorem dX0_weight_67 : decode cX0_weight 67 = .ok (.getfield 23, 3) := by decide +kernel
theorem dX0_weight_70 : decode cX0_weight 70 = .ok (.iconst 4, 1) := by decide +kernel
theorem dX0_weight_71 : decode cX0_weight 71 = .ok (.invokevirtual 40, 3) := by decide +kernel
theorem dX0_weight_74 : decode cX0_weight 74 = .ok (.aload_n 0, 1) := by decide +kernel
theorem dX0_weight_75 : decode cX0_weight 75 = .ok (.getfield 19, 3) := by decide +kernel
theorem dX0_weight_78 : decode cX0_weight 78 = .ok (.iload_n 1, 1) := by decide +kernel
theorem dX0_weight_79 : decode cX0_weight 79 = .ok (.iconst 2, 1) := by decide +kernel
theorem dX0_weight_80 : decode cX0_weight 80 = .ok (.invokevirtual 29, 3) := by decide +kernel
theorem dX0_weight_83 : decode cX0_weight 83 = .ok (.ireturn, 1) := by decide +kernel
theorem dX0_weight_84 : decode cX0_weight 84 = .ok (.aload_n 0, 1) := by decide +kernel
theorem dX0_weight_85 : decode cX0_weight 85 = .ok (.getfield 23, 3) := by decide +kernel
theorem dX0_weight_88 : decode cX0_weight 88 = .ok (.iconst 5, 1) := by decide +kernel
theorem dX0_weight_89 : decode cX0_weight 89 = .ok (.invokevirtual 40, 3) := by decide +kernel
theorem dX0_weight_92 : decode cX0_weight 92 = .ok (.bipush 80, 2) := by decide +kernel
theorem dX0_weight_94 : decode cX0_weight 94 = .ok (.aload_n 0, 1) := by decide +kernel
theorem dX0_weight_95 : decode cX0_weight 95 = .ok (.getfield 19, 3) := by decide +kernel
theorem dX0_weight_98 : decode cX0_weight 98 = .ok (.iload_n 1, 1) := by decide +kernel
theorem dX0_weight_99 : decode cX0_weight 99 = .ok (.iconst 2, 1) := by decide +kernel
theorem dX0_weight_100 : decode cX0_weight 100 = .ok (.invokevirtual 29, 3) := by decide +kernel
theorem dX0_weight_103 : decode cX0_weight 103 = .ok (.iadd, 1) := by decide +kernel
theorem dX0_weight_104 : decode cX0_weight 104 = .ok (.ireturn, 1) := by decide +kernel
theorem dX0_weight_105 : decode cX0_weight 105 = .ok (.aload_n 0, 1) := by decide +kernel
theorem dX0_weight_106 : decode cX0_weight 106 = .ok (.iload_n 1, 1) := by decide +kernel
theorem dX0_weight_107 : decode cX0_weight 107 = .ok (.invokevirtual 46, 3) := by decide +kernel
theorem dX0_weight_110 : decode cX0_weight 110 = .ok (.ireturn, 1) := by decide +kernel
set_option maxRecDepth 100000 in
set_option maxHeartbeats 4000000 in
theorem m_X0_weight (a1 : Int32) (S S' : SS) (r : Int32) (h : f_X0_weight a1 S = some (r, S')) : MT yX0_weight cX0_weight 2 (some .int) 3 64 (fun ad => [.ref (ad 8), .int a1]) S (some (.int r)) S' := by
  refine MT.of RX0 (fun ad => [(0, .ref (ad 8)), (1, .int a1)]) (by decide) rfl (fun _ => Nat.le_of_ble_eq_true rfl) (fun _ => rfl) ?_
  intro p l e R s m args below meth c dC dI cs ad A hR1 hR2 F H locs ls w hl
  have hx := F.1.1
  have hb := F.1.2.1
  rw [f_X0_weight] at h
  refine lv_aload_n (pc := 0) hx hb dX0_weight_0 rfl (lv_at hl 0 rfl) ?_
  refine lv_iload_n (pc := 1) hx hb dX0_weight_1 rfl (lv_at hl 1 rfl) ?_
  obtain ⟨r2, S1, hc, h⟩ := bnd_t h
  refine s_cvi (pc := 2) [.int a1] (fun ad => [.ref (ad 8), .int a1]) F w (m_X0_kindOf _ _ _ _ hc) rfl rfl hl.1 ds_8 vc_X0 rfl ok_X0_kindOf rfl kc_X0_kindOf kl_X0_33 ki_X0_kindOf kv_X0_kindOf kn_X0 ⟨Nat.le_trans (by decide) hR1, Nat.le_trans (by decide) hR2⟩ ⟨Nat.zero_le _, Nat.zero_le _⟩ (Nat.le_of_ble_eq_true rfl) dX0_weight_2 (fun H locs w => ?_)
  rcases Decidable.em (r2 = (1 : Int32)) with q1 | q1
  · refine lv_tableIn (pc := 5) (tgt := 44) (off := 39) hx hb dX0_weight_5 (by rw [q1]; decide) (by rw [q1]; decide) (by rw [q1]; rfl) (by decide) ?_
    have h := ite_t q1 h
    refine lv_aload_n (pc := 44) hx hb dX0_weight_44 rfl (lv_at hl 0 rfl) ?_
    refine lv_iload_n (pc := 45) hx hb dX0_weight_45 rfl (lv_at hl 1 rfl) ?_
    obtain ⟨r4, S3, hc, h⟩ := bnd_t h
    refine s_cvi (pc := 46) [.int a1] (fun ad => [.ref (ad 8), .int a1]) F w (m_X0_tankWeight _ _ _ _ hc) rfl rfl hl.1 ds_8 vc_X0 rfl ok_X0_tankWeight rfl kc_X0_tankWeight kl_X0_37 ki_X0_tankWeight kv_X0_tankWeight kn_X0 ⟨Nat.le_trans (by decide) hR1, Nat.le_trans (by decide) hR2⟩ ⟨Nat.zero_le _, Nat.zero_le _⟩ (Nat.le_of_ble_eq_true rfl) dX0_weight_46 (fun H locs w => ?_)
    exact s_iret F w h dX0_weight_49
  have h := ite_f q1 h
  rcases Decidable.em (r2 = (2 : Int32)) with q2 | q2
  · refine lv_tableIn (pc := 5) (tgt := 50) (off := 45) hx hb dX0_weight_5 (by rw [q2]; decide) (by rw [q2]; decide) (by rw [q2]; rfl) (by decide) ?_
    have h := ite_t q2 h
    refine lv_aload_n (pc := 50) hx hb dX0_weight_50 rfl (lv_at hl 0 rfl) ?_
    refine s_getR (pc := 51) F w 1 ds_8 (j := 2) vc_X0 vi_X0 rfl (by decide) kf_X0_23 dX0_weight_51 ?_
    refine lv_iconst (pc := 54) (v := 3) hx hb dX0_weight_54 (by decide) ?_
    obtain ⟨S5, hc, h⟩ := bndv_t h
    refine s_cvv (pc := 55) [.int (3 : Int32)] (fun ad => [.ref (ad 1), .int (3 : Int32)]) F w (m_X5_beginBody _ _ _ hc) rfl rfl hl.1 ds_1 vc_X5 rfl ok_X5_beginBody rfl kc_X5_beginBody kl_X0_40 ki_X5_beginBody kv_X5_beginBody kn_X5 ⟨Nat.le_trans (by decide) hR1, Nat.le_trans (by decide) hR2⟩ ⟨Nat.zero_le _, Nat.zero_le _⟩ (Nat.le_of_ble_eq_true rfl) dX0_weight_55 (fun H locs w => ?_)
    refine lv_aload_n (pc := 58) hx hb dX0_weight_58 rfl (lv_at hl 0 rfl) ?_
    refine lv_iload_n (pc := 59) hx hb dX0_weight_59 rfl (lv_at hl 1 rfl) ?_
    obtain ⟨r7, S6, hc, h⟩ := bnd_t h
    refine s_cvi (pc := 60) [.int a1] (fun ad => [.ref (ad 8), .int a1]) F w (m_X0_tankWeight _ _ _ _ hc) rfl rfl hl.1 ds_8 vc_X0 rfl ok_X0_tankWeight rfl kc_X0_tankWeight kl_X0_37 ki_X0_tankWeight kv_X0_tankWeight kn_X0 ⟨Nat.le_trans (by decide) hR1, Nat.le_trans (by decide) hR2⟩ ⟨Nat.zero_le _, Nat.zero_le _⟩ (Nat.le_of_ble_eq_true rfl) dX0_weight_60 (fun H locs w => ?_)
    refine lv_iconst (pc := 63) (v := 5) hx hb dX0_weight_63 (by decide) ?_
    refine lv_iadd (pc := 64) hx hb dX0_weight_64 ?_
    exact s_iret F w h dX0_weight_65
  have h := ite_f q2 h
  rcases Decidable.em (r2 = (3 : Int32)) with q3 | q3
  · refine lv_tableIn (pc := 5) (tgt := 105) (off := 100) hx hb dX0_weight_5 (by rw [q3]; decide) (by rw [q3]; decide) (by rw [q3]; rfl) (by decide) ?_
    have h := ite_t q3 h
    refine lv_aload_n (pc := 105) hx hb dX0_weight_105 rfl (lv_at hl 0 rfl) ?_
    refine lv_iload_n (pc := 106) hx hb dX0_weight_106 rfl (lv_at hl 1 rfl) ?_
    obtain ⟨r9, S8, hc, h⟩ := bnd_t h
    refine s_cvi (pc := 107) [.int a1] (fun ad => [.ref (ad 8), .int a1]) F w (m_X0_flatWeight _ _ _ _ hc) rfl rfl hl.1 ds_8 vc_X0 rfl ok_X0_flatWeight rfl kc_X0_flatWeight kl_X0_46 ki_X0_flatWeight kv_X0_flatWeight kn_X0 ⟨Nat.le_trans (by decide) hR1, Nat.le_trans (by decide) hR2⟩ ⟨Nat.zero_le _, Nat.zero_le _⟩ (Nat.le_of_ble_eq_true rfl) dX0_weight_107 (fun H locs w => ?_)
    exact s_iret F w h dX0_weight_110
  have h := ite_f q3 h
  rcases Decidable.em (r2 = (4 : Int32)) with q4 | q4
  · refine lv_tableIn (pc := 5) (tgt := 66) (off := 61) hx hb dX0_weight_5 (by rw [q4]; decide) (by rw [q4]; decide) (by rw [q4]; rfl) (by decide) ?_
    have h := ite_t q4 h
    refine lv_aload_n (pc := 66) hx hb dX0_weight_66 rfl (lv_at hl 0 rfl) ?_
    refine s_getR (pc := 67) F w 1 ds_8 (j := 2) vc_X0 vi_X0 rfl (by decide) kf_X0_23 dX0_weight_67 ?_
    refine lv_iconst (pc := 70) (v := 4) hx hb dX0_weight_70 (by decide) ?_
    obtain ⟨S10, hc, h⟩ := bndv_t h
    refine s_cvv (pc := 71) [.int (4 : Int32)] (fun ad => [.ref (ad 1), .int (4 : Int32)]) F w (m_X5_beginBody _ _ _ hc) rfl rfl hl.1 ds_1 vc_X5 rfl ok_X5_beginBody rfl kc_X5_beginBody kl_X0_40 ki_X5_beginBody kv_X5_beginBody kn_X5 ⟨Nat.le_trans (by decide) hR1, Nat.le_trans (by decide) hR2⟩ ⟨Nat.zero_le _, Nat.zero_le _⟩ (Nat.le_of_ble_eq_true rfl) dX0_weight_71 (fun H locs w => ?_)
    refine lv_aload_n (pc := 74) hx hb dX0_weight_74 rfl (lv_at hl 0 rfl) ?_
    refine s_getR (pc := 75) F w 4 ds_8 (j := 1) vc_X0 vi_X0 rfl (by decide) kf_X0_19 dX0_weight_75 ?_
    refine lv_iload_n (pc := 78) hx hb dX0_weight_78 rfl (lv_at hl 1 rfl) ?_
    refine lv_iconst (pc := 79) (v := 2) hx hb dX0_weight_79 (by decide) ?_
    obtain ⟨r12, S11, hc, h⟩ := bnd_t h
    refine s_cvi (pc := 80) [.int a1, .int (2 : Int32)] (fun ad => [.ref (ad 4), .int a1, .int (2 : Int32)]) F w (m_X9_get _ _ _ _ _ hc) rfl rfl hl.1 ds_4 vc_X9 rfl ok_X9_get rfl kc_X9_get kl_X0_29 ki_X9_get kv_X9_get kn_X9 ⟨Nat.le_trans (by decide) hR1, Nat.le_trans (by decide) hR2⟩ ⟨Nat.zero_le _, Nat.zero_le _⟩ (Nat.le_of_ble_eq_true rfl) dX0_weight_80 (fun H locs w => ?_)
    exact s_iret F w h dX0_weight_83
  have h := ite_f q4 h
  rcases Decidable.em (r2 = (5 : Int32)) with q5 | q5
  · refine lv_tableIn (pc := 5) (tgt := 84) (off := 79) hx hb dX0_weight_5 (by rw [q5]; decide) (by rw [q5]; decide) (by rw [q5]; rfl) (by decide) ?_
    have h := ite_t q5 h
    refine lv_aload_n (pc := 84) hx hb dX0_weight_84 rfl (lv_at hl 0 rfl) ?_
    refine s_getR (pc := 85) F w 1 ds_8 (j := 2) vc_X0 vi_X0 rfl (by decide) kf_X0_23 dX0_weight_85 ?_
    refine lv_iconst (pc := 88) (v := 5) hx hb dX0_weight_88 (by decide) ?_
    obtain ⟨S13, hc, h⟩ := bndv_t h
    refine s_cvv (pc := 89) [.int (5 : Int32)] (fun ad => [.ref (ad 1), .int (5 : Int32)]) F w (m_X5_beginBody _ _ _ hc) rfl rfl hl.1 ds_1 vc_X5 rfl ok_X5_beginBody rfl kc_X5_beginBody kl_X0_40 ki_X5_beginBody kv_X5_beginBody kn_X5 ⟨Nat.le_trans (by decide) hR1, Nat.le_trans (by decide) hR2⟩ ⟨Nat.zero_le _, Nat.zero_le _⟩ (Nat.le_of_ble_eq_true rfl) dX0_weight_89 (fun H locs w => ?_)
    refine lv_bipush (pc := 92) (v := 80) hx hb dX0_weight_92 (by decide) ?_
    refine lv_aload_n (pc := 94) hx hb dX0_weight_94 rfl (lv_at hl 0 rfl) ?_
    refine s_getR (pc := 95) F w 4 ds_8 (j := 1) vc_X0 vi_X0 rfl (by decide) kf_X0_19 dX0_weight_95 ?_
    refine lv_iload_n (pc := 98) hx hb dX0_weight_98 rfl (lv_at hl 1 rfl) ?_
    refine lv_iconst (pc := 99) (v := 2) hx hb dX0_weight_99 (by decide) ?_
    obtain ⟨r15, S14, hc, h⟩ := bnd_t h
    refine s_cvi (pc := 100) [.int a1, .int (2 : Int32)] (fun ad => [.ref (ad 4), .int a1, .int (2 : Int32)]) F w (m_X9_get _ _ _ _ _ hc) rfl rfl hl.1 ds_4 vc_X9 rfl ok_X9_get rfl kc_X9_get kl_X0_29 ki_X9_get kv_X9_get kn_X9 ⟨Nat.le_trans (by decide) hR1, Nat.le_trans (by decide) hR2⟩ ⟨Nat.zero_le _, Nat.zero_le _⟩ (Nat.le_of_ble_eq_true rfl) dX0_weight_100 (fun H locs w => ?_)
    refine lv_iadd (pc := 103) hx hb dX0_weight_103 ?_
    exact s_iret F w h dX0_weight_104
  have h := ite_f q5 h
  rcases Decidable.em (r2 = (6 : Int32)) with q6 | q6
  · refine lv_tableIn (pc := 5) (tgt := 84) (off := 79) hx hb dX0_weight_5 (by rw [q6]; decide) (by rw [q6]; decide) (by rw [q6]; rfl) (by decide) ?_
    have h := ite_t q6 h
    refine lv_aload_n (pc := 84) hx hb dX0_weight_84 rfl (lv_at hl 0 rfl) ?_
    refine s_getR (pc := 85) F w 1 ds_8 (j := 2) vc_X0 vi_X0 rfl (by decide) kf_X0_23 dX0_weight_85 ?_
    refine lv_iconst (pc := 88) (v := 5) hx hb dX0_weight_88 (by decide) ?_
    obtain ⟨S16, hc, h⟩ := bndv_t h
    refine s_cvv (pc := 89) [.int (5 : Int32)] (fun ad => [.ref (ad 1), .int (5 : Int32)]) F w (m_X5_beginBody _ _ _ hc) rfl rfl hl.1 ds_1 vc_X5 rfl ok_X5_beginBody rfl kc_X5_beginBody kl_X0_40 ki_X5_beginBody kv_X5_beginBody kn_X5 ⟨Nat.le_trans (by decide) hR1, Nat.le_trans (by decide) hR2⟩ ⟨Nat.zero_le _, Nat.zero_le _⟩ (Nat.le_of_ble_eq_true rfl) dX0_weight_89 (fun H locs w => ?_)
    refine lv_bipush (pc := 92) (v := 80) hx hb dX0_weight_92 (by decide) ?_
    refine lv_aload_n (pc := 94) hx hb dX0_weight_94 rfl (lv_at hl 0 rfl) ?_
    refine s_getR (pc := 95) F w 4 ds_8 (j := 1) vc_X0 vi_X0 rfl (by decide) kf_X0_19 dX0_weight_95 ?_
    refine lv_iload_n (pc := 98) hx hb dX0_weight_98 rfl (lv_at hl 1 rfl) ?_
    refine lv_iconst (pc := 99) (v := 2) hx hb dX0_weight_99 (by decide) ?_
    obtain ⟨r18, S17, hc, h⟩ := bnd_t h
    refine s_cvi (pc := 100) [.int a1, .int (2 : Int32)] (fun ad => [.ref (ad 4), .int a1, .int (2 : Int32)]) F w (m_X9_get _ _ _ _ _ hc) rfl rfl hl.1 ds_4 vc_X9 rfl ok_X9_get rfl kc_X9_get kl_X0_29 ki_X9_get kv_X9_get kn_X9 ⟨Nat.le_trans (by decide) hR1, Nat.le_trans (by decide) hR2⟩ ⟨Nat.zero_le _, Nat.zero_le _⟩ (Nat.le_of_ble_eq_true rfl) dX0_weight_100 (fun H locs w => ?_)
    refine lv_iadd (pc := 103) hx hb dX0_weight_103 ?_
    exact s_iret F w h dX0_weight_104
  have h := ite_f q6 h
  refine lv_tableOut (pc := 5) (tgt := 105) hx hb dX0_weight_5 (by have zq1 := i32ne q1 (show ((1 : Int32)).toInt = 1 by decide); have zq2 := i32ne q2 (show ((2 : Int32)).toInt = 2 by decide); have zq3 := i32ne q3 (show ((3 : Int32)).toInt = 3 by decide); have zq4 := i32ne q4 (show ((4 : Int32)).toInt = 4 by decide); have zq5 := i32ne q5 (show ((5 : Int32)).toInt = 5 by decide); have zq6 := i32ne q6 (show ((6 : Int32)).toInt = 6 by decide); omega) (by decide) ?_
  refine lv_aload_n (pc := 105) hx hb dX0_weight_105 rfl (lv_at hl 0 rfl) ?_
  refine lv_iload_n (pc := 106) hx hb dX0_weight_106 rfl (lv_at hl 1 rfl) ?_
  obtain ⟨r20, S19, hc, h⟩ := bnd_t h
  refine s_cvi (pc := 107) [.int a1] (fun ad => [.ref (ad 8), .int a1]) F w (m_X0_flatWeight _ _ _ _ hc) rfl rfl hl.1 ds_8 vc_X0 rfl ok_X0_flatWeight rfl kc_X0_flatWeight kl_X0_46 ki_X0_flatWeight kv_X0_flatWeight kn_X0 ⟨Nat.le_trans (by decide) hR1, Nat.le_trans (by decide) hR2⟩ ⟨Nat.zero_le _, Nat.zero_le _⟩ (Nat.le_of_ble_eq_true rfl) dX0_weight_107 (fun H locs w => ?_)
  exact s_iret F w h dX0_weight_110
def f_X11_lineWeight_L4  : Nat → Int32 → Int32 → SS → Option (Int32 × SS)
  | 0, _, _, _ => none
  | n + 1, x1, x2, S =>
    if (S.1 7 4) ≤ x2 then
      some (x1, S)
    else
      bnd (f_X10_inLine x2 S) (fun r2 S1 =>
      bnd (f_X0_weight r2 S1) (fun r4 S3 =>
      nm (x1 + r4) (fun z5 =>
      nm (x2 + (1 : Int32)) (fun z6 =>
      f_X11_lineWeight_L4 n z5 z6 S3))))
def f_X11_lineWeight  (S : SS) : Option (Int32 × SS) :=
  f_X11_lineWeight_L4 NF (0 : Int32) (0 : Int32) S
theorem dX11_lineWeight_0 : decode cX11_lineWeight 0 = .ok (.iconst 0, 1) := by decide +kernel
theorem dX11_lineWeight_1 : decode cX11_lineWeight 1 = .ok (.istore_n 1, 1) := by decide +kernel
theorem dX11_lineWeight_2 : decode cX11_lineWeight 2 = .ok (.iconst 0, 1) := by decide +kernel
theorem dX11_lineWeight_3 : decode cX11_lineWeight 3 = .ok (.istore_n 2, 1) := by decide +kernel
theorem dX11_lineWeight_4 : decode cX11_lineWeight 4 = .ok (.iload_n 2, 1) := by decide +kernel
theorem dX11_lineWeight_5 : decode cX11_lineWeight 5 = .ok (.aload_n 0, 1) := by decide +kernel
theorem dX11_lineWeight_6 : decode cX11_lineWeight 6 = .ok (.getfield 58, 3) := by decide +kernel
theorem dX11_lineWeight_9 : decode cX11_lineWeight 9 = .ok (.getfield 296, 3) := by decide +kernel
theorem dX11_lineWeight_12 : decode cX11_lineWeight 12 = .ok (.if_icmp .ge 27, 3) := by decide +kernel
theorem dX11_lineWeight_15 : decode cX11_lineWeight 15 = .ok (.iload_n 1, 1) := by decide +kernel
theorem dX11_lineWeight_16 : decode cX11_lineWeight 16 = .ok (.aload_n 0, 1) := by decide +kernel
theorem dX11_lineWeight_17 : decode cX11_lineWeight 17 = .ok (.getfield 67, 3) := by decide +kernel
theorem dX11_lineWeight_20 : decode cX11_lineWeight 20 = .ok (.aload_n 0, 1) := by decide +kernel
theorem dX11_lineWeight_21 : decode cX11_lineWeight 21 = .ok (.getfield 58, 3) := by decide +kernel
theorem dX11_lineWeight_24 : decode cX11_lineWeight 24 = .ok (.iload_n 2, 1) := by decide +kernel
theorem dX11_lineWeight_25 : decode cX11_lineWeight 25 = .ok (.invokevirtual 299, 3) := by decide +kernel
theorem dX11_lineWeight_28 : decode cX11_lineWeight 28 = .ok (.invokevirtual 302, 3) := by decide +kernel
theorem dX11_lineWeight_31 : decode cX11_lineWeight 31 = .ok (.iadd, 1) := by decide +kernel
theorem dX11_lineWeight_32 : decode cX11_lineWeight 32 = .ok (.istore_n 1, 1) := by decide +kernel
theorem dX11_lineWeight_33 : decode cX11_lineWeight 33 = .ok (.iinc 2 1, 3) := by decide +kernel
theorem dX11_lineWeight_36 : decode cX11_lineWeight 36 = .ok (.goto (-32), 3) := by decide +kernel
theorem dX11_lineWeight_39 : decode cX11_lineWeight 39 = .ok (.iload_n 1, 1) := by decide +kernel
theorem dX11_lineWeight_40 : decode cX11_lineWeight 40 = .ok (.ireturn, 1) := by decide +kernel
set_option maxRecDepth 100000 in
set_option maxHeartbeats 4000000 in
theorem w_X11_lineWeight_L4 {p : Program} {l : Launch} {e : Env} {R : Room} {s : State} {m : MethodId} {args : Array Value} {below : List Frame} {meth : Method} {c : Code} {dC : Nat → ClassId} {dI : Nat → Nat → Nat} {cs : Nat → ClassId} {ad : Nat → Nat} {A : Nat → Prop} {D0 : Nat → Nat} {S' : SS} {r : Int32} (F : Fx p s m args meth c cX11_lineWeight 3 RX11 (some .int) dC dI cs A) (hR1 : 4 ≤ R.frames) (hR2 : 85 ≤ R.locals) : ∀ (n : Nat) (x1 : Int32) (x2 : Int32) (S : SS), f_X11_lineWeight_L4 n x1 x2 S = some (r, S') → AW p l e R s m args below meth c dC dI cs ad A D0 (some (.int r)) S' 3 4 [(0, .ref (ad 0)), (1, .int x1), (2, .int x2)] [] S := by
  have hx := F.1.1
  have hb := F.1.2.1
  intro n
  induction n with
  | zero => intro x1 x2 S h; cases h
  | succ n ih =>
    intro x1 x2 S h H locs ls w hl
    rw [f_X11_lineWeight_L4] at h
    refine lv_iload_n (pc := 4) hx hb dX11_lineWeight_4 rfl (lv_at hl 2 rfl) ?_
    refine lv_aload_n (pc := 5) hx hb dX11_lineWeight_5 rfl (lv_at hl 0 rfl) ?_
    refine s_getR (pc := 6) F w 7 ds_0 (j := 6) vc_X11 vi_X11 rfl (by decide) kf_X11_58 dX11_lineWeight_6 ?_
    refine s_getI (pc := 9) F w ds_7 (j := 4) vc_X10 vi_X10 rfl (by decide) kf_X11_296 dX11_lineWeight_9 ?_
    refine lv_icmp_ge (pc := 12) (tgt := 39) hx hb dX11_lineWeight_12 (by decide) (fun q => ?_) (fun q => ?_)
    · have h := ite_t q h
      refine lv_iload_n (pc := 39) hx hb dX11_lineWeight_39 rfl (lv_at hl 1 rfl) ?_
      exact s_iret F w h dX11_lineWeight_40
    · have h := ite_f q h
      refine lv_iload_n (pc := 15) hx hb dX11_lineWeight_15 rfl (lv_at hl 1 rfl) ?_
      refine lv_aload_n (pc := 16) hx hb dX11_lineWeight_16 rfl (lv_at hl 0 rfl) ?_
      refine s_getR (pc := 17) F w 8 ds_0 (j := 7) vc_X11 vi_X11 rfl (by decide) kf_X11_67 dX11_lineWeight_17 ?_
      refine lv_aload_n (pc := 20) hx hb dX11_lineWeight_20 rfl (lv_at hl 0 rfl) ?_
      refine s_getR (pc := 21) F w 7 ds_0 (j := 6) vc_X11 vi_X11 rfl (by decide) kf_X11_58 dX11_lineWeight_21 ?_
      refine lv_iload_n (pc := 24) hx hb dX11_lineWeight_24 rfl (lv_at hl 2 rfl) ?_
      obtain ⟨r2, S1, hc, h⟩ := bnd_t h
      refine s_cvi (pc := 25) [.int x2] (fun ad => [.ref (ad 7), .int x2]) F w (m_X10_inLine _ _ _ _ hc) rfl rfl hl.1 ds_7 vc_X10 rfl ok_X10_inLine rfl kc_X10_inLine kl_X11_299 ki_X10_inLine kv_X10_inLine kn_X10 ⟨Nat.le_trans (by decide) hR1, Nat.le_trans (by decide) hR2⟩ ⟨Nat.zero_le _, Nat.zero_le _⟩ (Nat.le_of_ble_eq_true rfl) dX11_lineWeight_25 (fun H locs w => ?_)
      obtain ⟨r4, S3, hc, h⟩ := bnd_t h
      refine s_cvi (pc := 28) [.int r2] (fun ad => [.ref (ad 8), .int r2]) F w (m_X0_weight _ _ _ _ hc) rfl rfl hl.1 ds_8 vc_X0 rfl ok_X0_weight rfl kc_X0_weight kl_X11_302 ki_X0_weight kv_X0_weight kn_X0 ⟨Nat.le_trans (by decide) hR1, Nat.le_trans (by decide) hR2⟩ ⟨Nat.zero_le _, Nat.zero_le _⟩ (Nat.le_of_ble_eq_true rfl) dX11_lineWeight_28 (fun H locs w => ?_)
      refine lv_iadd (pc := 31) hx hb dX11_lineWeight_31 ?_
      refine s_nm h (fun z5 ez5 h => ?_)
      rw [← ez5]
      refine lv_istore_n (pc := 32) (lv' := [(1, .int z5), (0, .ref (ad 0)), (2, .int x2)]) hx hb dX11_lineWeight_32 rfl hl (by decide) rfl (fun ls hl => ?_)
      refine s_nm h (fun z6 ez6 h => ?_)
      refine lv_iinc (pc := 33) (v := z6) (lv' := [(2, .int z6), (1, .int z5), (0, .ref (ad 0))]) hx hb dX11_lineWeight_33 hl (k := 2) rfl (by rw [ez6]; rfl) (by decide) rfl (fun ls hl => ?_)
      refine lv_goto (pc := 36) (tgt := 4) hx hb dX11_lineWeight_36 (by decide) ?_
      exact ih _ _ _ h _ _ _ w (lv_sub hl [2, 1, 0] rfl)
set_option maxRecDepth 100000 in
set_option maxHeartbeats 4000000 in
theorem m_X11_lineWeight  (S S' : SS) (r : Int32) (h : f_X11_lineWeight  S = some (r, S')) : MT yX11_lineWeight cX11_lineWeight 3 (some .int) 4 85 (fun ad => [.ref (ad 0)]) S (some (.int r)) S' := by
  refine MT.of RX11 (fun ad => [(0, .ref (ad 0))]) (by decide) rfl (fun _ => Nat.le_of_ble_eq_true rfl) (fun _ => rfl) ?_
  intro p l e R s m args below meth c dC dI cs ad A hR1 hR2 F H locs ls w hl
  have hx := F.1.1
  have hb := F.1.2.1
  rw [f_X11_lineWeight] at h
  refine lv_iconst (pc := 0) (v := 0) hx hb dX11_lineWeight_0 (by decide) ?_
  refine lv_istore_n (pc := 1) (lv' := [(1, .int (0 : Int32)), (0, .ref (ad 0))]) hx hb dX11_lineWeight_1 rfl hl (by decide) rfl (fun ls hl => ?_)
  refine lv_iconst (pc := 2) (v := 0) hx hb dX11_lineWeight_2 (by decide) ?_
  refine lv_istore_n (pc := 3) (lv' := [(2, .int (0 : Int32)), (1, .int (0 : Int32)), (0, .ref (ad 0))]) hx hb dX11_lineWeight_3 rfl hl (by decide) rfl (fun ls hl => ?_)
  exact w_X11_lineWeight_L4 F (Nat.le_trans (by decide) hR1) (Nat.le_trans (by decide) hR2) _ _ _ _ h _ _ _ w (lv_sub hl [2, 1, 0] rfl)
def f_X0_isFed (a1 : Int32) (a2 : Int32) (S : SS) : Option (Int32 × SS) :=
  bnd (f_X8_get a1 ((2 : Int32) + a2) S) (fun r2 S1 =>
  bnd (f_X0_kindOf r2 S1) (fun r4 S3 =>
  if r4 = (5 : Int32) then
    some ((1 : Int32), S3)
  else
    some ((0 : Int32), S3)))
theorem dX0_isFed_0 : decode cX0_isFed 0 = .ok (.aload_n 0, 1) := by decide +kernel
theorem dX0_isFed_1 : decode cX0_isFed 1 = .ok (.aload_n 0, 1) := by decide +kernel
theorem dX0_isFed_2 : decode cX0_isFed 2 = .ok (.getfield 15, 3) := by decide +kernel
theorem dX0_isFed_5 : decode cX0_isFed 5 = .ok (.iload_n 1, 1) := by decide +kernel
theorem dX0_isFed_6 : decode cX0_isFed 6 = .ok (.iconst 2, 1) := by decide +kernel
theorem dX0_isFed_7 : decode cX0_isFed 7 = .ok (.iload_n 2, 1) := by decide +kernel
theorem dX0_isFed_8 : decode cX0_isFed 8 = .ok (.iadd, 1) := by decide +kernel
theorem dX0_isFed_9 : decode cX0_isFed 9 = .ok (.invokevirtual 68, 3) := by decide +kernel
theorem dX0_isFed_12 : decode cX0_isFed 12 = .ok (.invokevirtual 33, 3) := by decide +kernel
theorem dX0_isFed_15 : decode cX0_isFed 15 = .ok (.iconst 5, 1) := by decide +kernel
theorem dX0_isFed_16 : decode cX0_isFed 16 = .ok (.if_icmp .ne 7, 3) := by decide +kernel
theorem dX0_isFed_19 : decode cX0_isFed 19 = .ok (.iconst 1, 1) := by decide +kernel
theorem dX0_isFed_20 : decode cX0_isFed 20 = .ok (.goto 4, 3) := by decide +kernel
theorem dX0_isFed_23 : decode cX0_isFed 23 = .ok (.iconst 0, 1) := by decide +kernel
theorem dX0_isFed_24 : decode cX0_isFed 24 = .ok (.ireturn, 1) := by decide +kernel
set_option maxRecDepth 100000 in
set_option maxHeartbeats 4000000 in
theorem m_X0_isFed (a1 : Int32) (a2 : Int32) (S S' : SS) (r : Int32) (h : f_X0_isFed a1 a2 S = some (r, S')) : MT yX0_isFed cX0_isFed 3 (some .boolean) 2 43 (fun ad => [.ref (ad 8), .int a1, .int a2]) S (some (.int r)) S' := by
  refine MT.of RX0 (fun ad => [(0, .ref (ad 8)), (1, .int a1), (2, .int a2)]) (by decide) rfl (fun _ => Nat.le_of_ble_eq_true rfl) (fun _ => rfl) ?_
  intro p l e R s m args below meth c dC dI cs ad A hR1 hR2 F H locs ls w hl
  have hx := F.1.1
  have hb := F.1.2.1
  rw [f_X0_isFed] at h
  refine lv_aload_n (pc := 0) hx hb dX0_isFed_0 rfl (lv_at hl 0 rfl) ?_
  refine lv_aload_n (pc := 1) hx hb dX0_isFed_1 rfl (lv_at hl 0 rfl) ?_
  refine s_getR (pc := 2) F w 2 ds_8 (j := 0) vc_X0 vi_X0 rfl (by decide) kf_X0_15 dX0_isFed_2 ?_
  refine lv_iload_n (pc := 5) hx hb dX0_isFed_5 rfl (lv_at hl 1 rfl) ?_
  refine lv_iconst (pc := 6) (v := 2) hx hb dX0_isFed_6 (by decide) ?_
  refine lv_iload_n (pc := 7) hx hb dX0_isFed_7 rfl (lv_at hl 2 rfl) ?_
  refine lv_iadd (pc := 8) hx hb dX0_isFed_8 ?_
  obtain ⟨r2, S1, hc, h⟩ := bnd_t h
  refine s_cvi (pc := 9) [.int a1, .int ((2 : Int32) + a2)] (fun ad => [.ref (ad 2), .int a1, .int ((2 : Int32) + a2)]) F w (m_X8_get _ _ _ _ _ hc) rfl rfl hl.1 ds_2 vc_X8 rfl ok_X8_get rfl kc_X8_get kl_X0_68 ki_X8_get kv_X8_get kn_X8 ⟨Nat.le_trans (by decide) hR1, Nat.le_trans (by decide) hR2⟩ ⟨Nat.zero_le _, Nat.zero_le _⟩ (Nat.le_of_ble_eq_true rfl) dX0_isFed_9 (fun H locs w => ?_)
  obtain ⟨r4, S3, hc, h⟩ := bnd_t h
  refine s_cvi (pc := 12) [.int r2] (fun ad => [.ref (ad 8), .int r2]) F w (m_X0_kindOf _ _ _ _ hc) rfl rfl hl.1 ds_8 vc_X0 rfl ok_X0_kindOf rfl kc_X0_kindOf kl_X0_33 ki_X0_kindOf kv_X0_kindOf kn_X0 ⟨Nat.le_trans (by decide) hR1, Nat.le_trans (by decide) hR2⟩ ⟨Nat.zero_le _, Nat.zero_le _⟩ (Nat.le_of_ble_eq_true rfl) dX0_isFed_12 (fun H locs w => ?_)
  refine lv_iconst (pc := 15) (v := 5) hx hb dX0_isFed_15 (by decide) ?_
  refine lv_icmp_ne (pc := 16) (tgt := 23) hx hb dX0_isFed_16 (by decide) (fun q => ?_) (fun q => ?_)
  · have h := ite_f q h
    refine lv_iconst (pc := 23) (v := 0) hx hb dX0_isFed_23 (by decide) ?_
    exact s_zretc F w rfl h dX0_isFed_24
  · have h := ite_t q h
    refine lv_iconst (pc := 19) (v := 1) hx hb dX0_isFed_19 (by decide) ?_
    refine lv_goto (pc := 20) (tgt := 24) hx hb dX0_isFed_20 (by decide) ?_
    exact s_zretc F w rfl h dX0_isFed_24
def f_X0_enginePulls (a1 : Int32) (S : SS) : Option (Int32 × SS) :=
  bndv (f_X5_beginBody (15 : Int32) S) (fun S1 =>
  bnd (f_X9_get a1 (2 : Int32) S1) (fun r3 S2 =>
  some (r3, S2)))
theorem dX0_enginePulls_0 : decode cX0_enginePulls 0 = .ok (.aload_n 0, 1) := by decide +kernel
theorem dX0_enginePulls_1 : decode cX0_enginePulls 1 = .ok (.getfield 23, 3) := by decide +kernel
theorem dX0_enginePulls_4 : decode cX0_enginePulls 4 = .ok (.bipush 15, 2) := by decide +kernel
theorem dX0_enginePulls_6 : decode cX0_enginePulls 6 = .ok (.invokevirtual 40, 3) := by decide +kernel
theorem dX0_enginePulls_9 : decode cX0_enginePulls 9 = .ok (.aload_n 0, 1) := by decide +kernel
theorem dX0_enginePulls_10 : decode cX0_enginePulls 10 = .ok (.getfield 19, 3) := by decide +kernel
theorem dX0_enginePulls_13 : decode cX0_enginePulls 13 = .ok (.iload_n 1, 1) := by decide +kernel
theorem dX0_enginePulls_14 : decode cX0_enginePulls 14 = .ok (.iconst 2, 1) := by decide +kernel
theorem dX0_enginePulls_15 : decode cX0_enginePulls 15 = .ok (.invokevirtual 29, 3) := by decide +kernel
theorem dX0_enginePulls_18 : decode cX0_enginePulls 18 = .ok (.ireturn, 1) := by decide +kernel
set_option maxRecDepth 100000 in
set_option maxHeartbeats 4000000 in
theorem m_X0_enginePulls (a1 : Int32) (S S' : SS) (r : Int32) (h : f_X0_enginePulls a1 S = some (r, S')) : MT yX0_enginePulls cX0_enginePulls 2 (some .int) 1 22 (fun ad => [.ref (ad 8), .int a1]) S (some (.int r)) S' := by
  refine MT.of RX0 (fun ad => [(0, .ref (ad 8)), (1, .int a1)]) (by decide) rfl (fun _ => Nat.le_of_ble_eq_true rfl) (fun _ => rfl) ?_
  intro p l e R s m args below meth c dC dI cs ad A hR1 hR2 F H locs ls w hl
  have hx := F.1.1
  have hb := F.1.2.1
  rw [f_X0_enginePulls] at h
  refine lv_aload_n (pc := 0) hx hb dX0_enginePulls_0 rfl (lv_at hl 0 rfl) ?_
  refine s_getR (pc := 1) F w 1 ds_8 (j := 2) vc_X0 vi_X0 rfl (by decide) kf_X0_23 dX0_enginePulls_1 ?_
  refine lv_bipush (pc := 4) (v := 15) hx hb dX0_enginePulls_4 (by decide) ?_
  obtain ⟨S1, hc, h⟩ := bndv_t h
  refine s_cvv (pc := 6) [.int (15 : Int32)] (fun ad => [.ref (ad 1), .int (15 : Int32)]) F w (m_X5_beginBody _ _ _ hc) rfl rfl hl.1 ds_1 vc_X5 rfl ok_X5_beginBody rfl kc_X5_beginBody kl_X0_40 ki_X5_beginBody kv_X5_beginBody kn_X5 ⟨Nat.le_trans (by decide) hR1, Nat.le_trans (by decide) hR2⟩ ⟨Nat.zero_le _, Nat.zero_le _⟩ (Nat.le_of_ble_eq_true rfl) dX0_enginePulls_6 (fun H locs w => ?_)
  refine lv_aload_n (pc := 9) hx hb dX0_enginePulls_9 rfl (lv_at hl 0 rfl) ?_
  refine s_getR (pc := 10) F w 4 ds_8 (j := 1) vc_X0 vi_X0 rfl (by decide) kf_X0_19 dX0_enginePulls_10 ?_
  refine lv_iload_n (pc := 13) hx hb dX0_enginePulls_13 rfl (lv_at hl 1 rfl) ?_
  refine lv_iconst (pc := 14) (v := 2) hx hb dX0_enginePulls_14 (by decide) ?_
  obtain ⟨r3, S2, hc, h⟩ := bnd_t h
  refine s_cvi (pc := 15) [.int a1, .int (2 : Int32)] (fun ad => [.ref (ad 4), .int a1, .int (2 : Int32)]) F w (m_X9_get _ _ _ _ _ hc) rfl rfl hl.1 ds_4 vc_X9 rfl ok_X9_get rfl kc_X9_get kl_X0_29 ki_X9_get kv_X9_get kn_X9 ⟨Nat.le_trans (by decide) hR1, Nat.le_trans (by decide) hR2⟩ ⟨Nat.zero_le _, Nat.zero_le _⟩ (Nat.le_of_ble_eq_true rfl) dX0_enginePulls_15 (fun H locs w => ?_)
  exact s_iret F w h dX0_enginePulls_18
