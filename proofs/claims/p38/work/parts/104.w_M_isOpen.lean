/-! ===== printed by wip/gen: M_isOpen M_sideTo M_lineUp M_areTogether M_note M_suits M_missCouple M_renumber M_couple ===== -/
def f_M_isOpen_j163  (x1 : Int32) (x2 : Int32) (y0 : Int32) (S : SS) : Option (Int32 × SS) :=
    wr S 0 28 y0 (fun S11 =>
    if (S11.1 0 26) = x1 then
      if (S11.1 0 27) = x2 then
        some ((0 : Int32), S11)
      else
        some ((1 : Int32), S11)
    else
      some ((1 : Int32), S11))
def f_M_isOpen_j50  (x1 : Int32) (x2 : Int32) (x3 : Int32) (S : SS) : Option (Int32 × SS) :=
    nm (((2 : Int32) * x1) + x3) (fun z1 =>
    bnd (f_M_openLink z1 S) (fun r3 S2 =>
    if r3 = (-4 : Int32) then
      some ((0 : Int32), S2)
    else
      grd (inb (((3 : Int32) * z1) + r3) 144) (
      nm (S2.1 7 (((3 : Int32) * z1) + r3).toNatClampNeg) (fun z4 =>
      bnd (f_M_openLink z4 S2) (fun r6 S5 =>
      if r6 = (-4 : Int32) then
        some ((0 : Int32), S5)
      else
        grd (inb (((3 : Int32) * z4) + r6) 144) (
        grd (inb (((3 : Int32) * z1) + r3) 144) (
        if (S5.1 8 (((3 : Int32) * z4) + r6).toNatClampNeg) = (S5.1 8 (((3 : Int32) * z1) + r3).toNatClampNeg) then
          wr S5 0 26 (z4 / (2 : Int32)) (fun S7 =>
          bnd (f_M_placeAtEnd z4 S7) (fun r9 S8 =>
          wr S8 0 27 r9 (fun S10 =>
          if (z4 - z4 / (2 : Int32) * (2 : Int32)) = 0 then
            f_M_isOpen_j163 x1 x2 (1 : Int32) S10
          else
            f_M_isOpen_j163 x1 x2 (0 : Int32) S10)))
        else
          some ((0 : Int32), S5))))))))
def f_M_isOpen_j14  (x1 : Int32) (x2 : Int32) (x3 : Int32) (y0 : Int32) (S : SS) : Option (Int32 × SS) :=
    if y0 < 0 then
      f_M_isOpen_j50 x1 x2 x3 S
    else
      grd (inb x1 24) (
      if (S.1 3 x1.toNatClampNeg) ≤ y0 then
        f_M_isOpen_j50 x1 x2 x3 S
      else
        wr S 0 26 x1 (fun S12 =>
        wr S12 0 27 y0 (fun S13 =>
        wr S13 0 28 x3 (fun S14 =>
        some ((1 : Int32), S14)))))
def f_M_isOpen (a1 : Int32) (a2 : Int32) (a3 : Int32) (S : SS) : Option (Int32 × SS) :=
  if a3 = (1 : Int32) then
    f_M_isOpen_j14 a1 a2 a3 (a2 + (1 : Int32)) S
  else
    f_M_isOpen_j14 a1 a2 a3 (a2 - (1 : Int32)) S
theorem dX12_isOpen_0 : decode cX12_isOpen 0 = .ok (.iload_n 3, 1) := dc_29 (by decide +kernel)
theorem dX12_isOpen_1 : decode cX12_isOpen 1 = .ok (.iconst 1, 1) := dc_4 (by decide +kernel)
theorem dX12_isOpen_2 : decode cX12_isOpen 2 = .ok (.if_icmp .ne 9, 3) := dc_160 (a := 0) (b := 9) (by decide +kernel) (by decide)
theorem dX12_isOpen_5 : decode cX12_isOpen 5 = .ok (.iload_n 2, 1) := dc_28 (by decide +kernel)
theorem dX12_isOpen_6 : decode cX12_isOpen 6 = .ok (.iconst 1, 1) := dc_4 (by decide +kernel)
theorem dX12_isOpen_7 : decode cX12_isOpen 7 = .ok (.iadd, 1) := dc_96 (by decide +kernel)
theorem dX12_isOpen_8 : decode cX12_isOpen 8 = .ok (.goto 6, 3) := dc_167 (a := 0) (b := 6) (by decide +kernel) (by decide)
theorem dX12_isOpen_11 : decode cX12_isOpen 11 = .ok (.iload_n 2, 1) := dc_28 (by decide +kernel)
theorem dX12_isOpen_12 : decode cX12_isOpen 12 = .ok (.iconst 1, 1) := dc_4 (by decide +kernel)
theorem dX12_isOpen_13 : decode cX12_isOpen 13 = .ok (.isub, 1) := dc_100 (by decide +kernel)
theorem dX12_isOpen_14 : decode cX12_isOpen 14 = .ok (.istore 4, 2) := dc_54 (a := 4) (by decide +kernel)
theorem dX12_isOpen_16 : decode cX12_isOpen 16 = .ok (.iload 4, 2) := dc_21 (a := 4) (by decide +kernel)
theorem dX12_isOpen_18 : decode cX12_isOpen 18 = .ok (.ifCond .lt 32, 3) := dc_155 (a := 0) (b := 32) (by decide +kernel) (by decide)
theorem dX12_isOpen_21 : decode cX12_isOpen 21 = .ok (.iload 4, 2) := dc_21 (a := 4) (by decide +kernel)
theorem dX12_isOpen_23 : decode cX12_isOpen 23 = .ok (.aload_n 0, 1) := dc_42 (by decide +kernel)
theorem dX12_isOpen_24 : decode cX12_isOpen 24 = .ok (.getfield 23, 3) := dc_180 (a := 0) (b := 23) (by decide +kernel)
theorem dX12_isOpen_27 : decode cX12_isOpen 27 = .ok (.iload_n 1, 1) := dc_27 (by decide +kernel)
theorem dX12_isOpen_28 : decode cX12_isOpen 28 = .ok (.iaload, 1) := dc_46 (by decide +kernel)
theorem dX12_isOpen_29 : decode cX12_isOpen 29 = .ok (.if_icmp .ge 21, 3) := dc_162 (a := 0) (b := 21) (by decide +kernel) (by decide)
theorem dX12_isOpen_32 : decode cX12_isOpen 32 = .ok (.aload_n 0, 1) := dc_42 (by decide +kernel)
theorem dX12_isOpen_33 : decode cX12_isOpen 33 = .ok (.iload_n 1, 1) := dc_27 (by decide +kernel)
theorem dX12_isOpen_34 : decode cX12_isOpen 34 = .ok (.putfield 245, 3) := dc_181 (a := 0) (b := 245) (by decide +kernel)
theorem dX12_isOpen_37 : decode cX12_isOpen 37 = .ok (.aload_n 0, 1) := dc_42 (by decide +kernel)
theorem dX12_isOpen_38 : decode cX12_isOpen 38 = .ok (.iload 4, 2) := dc_21 (a := 4) (by decide +kernel)
theorem dX12_isOpen_40 : decode cX12_isOpen 40 = .ok (.putfield 248, 3) := dc_181 (a := 0) (b := 248) (by decide +kernel)
theorem dX12_isOpen_43 : decode cX12_isOpen 43 = .ok (.aload_n 0, 1) := dc_42 (by decide +kernel)
theorem dX12_isOpen_44 : decode cX12_isOpen 44 = .ok (.iload_n 3, 1) := dc_29 (by decide +kernel)
theorem dX12_isOpen_45 : decode cX12_isOpen 45 = .ok (.putfield 251, 3) := dc_181 (a := 0) (b := 251) (by decide +kernel)
theorem dX12_isOpen_48 : decode cX12_isOpen 48 = .ok (.iconst 1, 1) := dc_4 (by decide +kernel)
theorem dX12_isOpen_49 : decode cX12_isOpen 49 = .ok (.ireturn, 1) := dc_172 (by decide +kernel)
theorem dX12_isOpen_50 : decode cX12_isOpen 50 = .ok (.iconst 2, 1) := dc_5 (by decide +kernel)
theorem dX12_isOpen_51 : decode cX12_isOpen 51 = .ok (.iload_n 1, 1) := dc_27 (by decide +kernel)
theorem dX12_isOpen_52 : decode cX12_isOpen 52 = .ok (.imul, 1) := dc_104 (by decide +kernel)
theorem dX12_isOpen_53 : decode cX12_isOpen 53 = .ok (.iload_n 3, 1) := dc_29 (by decide +kernel)
theorem dX12_isOpen_54 : decode cX12_isOpen 54 = .ok (.iadd, 1) := dc_96 (by decide +kernel)
theorem dX12_isOpen_55 : decode cX12_isOpen 55 = .ok (.istore 5, 2) := dc_54 (a := 5) (by decide +kernel)
theorem dX12_isOpen_57 : decode cX12_isOpen 57 = .ok (.aload_n 0, 1) := dc_42 (by decide +kernel)
theorem dX12_isOpen_58 : decode cX12_isOpen 58 = .ok (.iload 5, 2) := dc_21 (a := 5) (by decide +kernel)
theorem dX12_isOpen_60 : decode cX12_isOpen 60 = .ok (.invokevirtual 254, 3) := dc_182 (a := 0) (b := 254) (by decide +kernel)
theorem dX12_isOpen_63 : decode cX12_isOpen 63 = .ok (.istore 6, 2) := dc_54 (a := 6) (by decide +kernel)
theorem dX12_isOpen_65 : decode cX12_isOpen 65 = .ok (.iload 6, 2) := dc_21 (a := 6) (by decide +kernel)
theorem dX12_isOpen_67 : decode cX12_isOpen 67 = .ok (.bipush (-4), 2) := dc_16 (a := 252) (by decide +kernel) (by decide)
theorem dX12_isOpen_69 : decode cX12_isOpen 69 = .ok (.if_icmp .ne 5, 3) := dc_160 (a := 0) (b := 5) (by decide +kernel) (by decide)
theorem dX12_isOpen_72 : decode cX12_isOpen 72 = .ok (.iconst 0, 1) := dc_3 (by decide +kernel)
theorem dX12_isOpen_73 : decode cX12_isOpen 73 = .ok (.ireturn, 1) := dc_172 (by decide +kernel)
theorem dX12_isOpen_74 : decode cX12_isOpen 74 = .ok (.aload_n 0, 1) := dc_42 (by decide +kernel)
theorem dX12_isOpen_75 : decode cX12_isOpen 75 = .ok (.getfield 36, 3) := dc_180 (a := 0) (b := 36) (by decide +kernel)
theorem dX12_isOpen_78 : decode cX12_isOpen 78 = .ok (.iconst 3, 1) := dc_6 (by decide +kernel)
theorem dX12_isOpen_79 : decode cX12_isOpen 79 = .ok (.iload 5, 2) := dc_21 (a := 5) (by decide +kernel)
theorem dX12_isOpen_81 : decode cX12_isOpen 81 = .ok (.imul, 1) := dc_104 (by decide +kernel)
theorem dX12_isOpen_82 : decode cX12_isOpen 82 = .ok (.iload 6, 2) := dc_21 (a := 6) (by decide +kernel)
theorem dX12_isOpen_84 : decode cX12_isOpen 84 = .ok (.iadd, 1) := dc_96 (by decide +kernel)
theorem dX12_isOpen_85 : decode cX12_isOpen 85 = .ok (.iaload, 1) := dc_46 (by decide +kernel)
theorem dX12_isOpen_86 : decode cX12_isOpen 86 = .ok (.istore 7, 2) := dc_54 (a := 7) (by decide +kernel)
theorem dX12_isOpen_88 : decode cX12_isOpen 88 = .ok (.aload_n 0, 1) := dc_42 (by decide +kernel)
theorem dX12_isOpen_89 : decode cX12_isOpen 89 = .ok (.iload 7, 2) := dc_21 (a := 7) (by decide +kernel)
theorem dX12_isOpen_91 : decode cX12_isOpen 91 = .ok (.invokevirtual 254, 3) := dc_182 (a := 0) (b := 254) (by decide +kernel)
theorem dX12_isOpen_94 : decode cX12_isOpen 94 = .ok (.istore 8, 2) := dc_54 (a := 8) (by decide +kernel)
theorem dX12_isOpen_96 : decode cX12_isOpen 96 = .ok (.iload 8, 2) := dc_21 (a := 8) (by decide +kernel)
theorem dX12_isOpen_98 : decode cX12_isOpen 98 = .ok (.bipush (-4), 2) := dc_16 (a := 252) (by decide +kernel) (by decide)
theorem dX12_isOpen_100 : decode cX12_isOpen 100 = .ok (.if_icmp .eq 30, 3) := dc_159 (a := 0) (b := 30) (by decide +kernel) (by decide)
theorem dX12_isOpen_103 : decode cX12_isOpen 103 = .ok (.aload_n 0, 1) := dc_42 (by decide +kernel)
theorem dX12_isOpen_104 : decode cX12_isOpen 104 = .ok (.getfield 39, 3) := dc_180 (a := 0) (b := 39) (by decide +kernel)
theorem dX12_isOpen_107 : decode cX12_isOpen 107 = .ok (.iconst 3, 1) := dc_6 (by decide +kernel)
theorem dX12_isOpen_108 : decode cX12_isOpen 108 = .ok (.iload 7, 2) := dc_21 (a := 7) (by decide +kernel)
theorem dX12_isOpen_110 : decode cX12_isOpen 110 = .ok (.imul, 1) := dc_104 (by decide +kernel)
theorem dX12_isOpen_111 : decode cX12_isOpen 111 = .ok (.iload 8, 2) := dc_21 (a := 8) (by decide +kernel)
theorem dX12_isOpen_113 : decode cX12_isOpen 113 = .ok (.iadd, 1) := dc_96 (by decide +kernel)
theorem dX12_isOpen_114 : decode cX12_isOpen 114 = .ok (.iaload, 1) := dc_46 (by decide +kernel)
theorem dX12_isOpen_115 : decode cX12_isOpen 115 = .ok (.aload_n 0, 1) := dc_42 (by decide +kernel)
theorem dX12_isOpen_116 : decode cX12_isOpen 116 = .ok (.getfield 39, 3) := dc_180 (a := 0) (b := 39) (by decide +kernel)
theorem dX12_isOpen_119 : decode cX12_isOpen 119 = .ok (.iconst 3, 1) := dc_6 (by decide +kernel)
theorem dX12_isOpen_120 : decode cX12_isOpen 120 = .ok (.iload 5, 2) := dc_21 (a := 5) (by decide +kernel)
theorem dX12_isOpen_122 : decode cX12_isOpen 122 = .ok (.imul, 1) := dc_104 (by decide +kernel)
theorem dX12_isOpen_123 : decode cX12_isOpen 123 = .ok (.iload 6, 2) := dc_21 (a := 6) (by decide +kernel)
theorem dX12_isOpen_125 : decode cX12_isOpen 125 = .ok (.iadd, 1) := dc_96 (by decide +kernel)
theorem dX12_isOpen_126 : decode cX12_isOpen 126 = .ok (.iaload, 1) := dc_46 (by decide +kernel)
theorem dX12_isOpen_127 : decode cX12_isOpen 127 = .ok (.if_icmp .eq 5, 3) := dc_159 (a := 0) (b := 5) (by decide +kernel) (by decide)
theorem dX12_isOpen_130 : decode cX12_isOpen 130 = .ok (.iconst 0, 1) := dc_3 (by decide +kernel)
theorem dX12_isOpen_131 : decode cX12_isOpen 131 = .ok (.ireturn, 1) := dc_172 (by decide +kernel)
theorem dX12_isOpen_132 : decode cX12_isOpen 132 = .ok (.aload_n 0, 1) := dc_42 (by decide +kernel)
theorem dX12_isOpen_133 : decode cX12_isOpen 133 = .ok (.iload 7, 2) := dc_21 (a := 7) (by decide +kernel)
theorem dX12_isOpen_135 : decode cX12_isOpen 135 = .ok (.iconst 2, 1) := dc_5 (by decide +kernel)
theorem dX12_isOpen_136 : decode cX12_isOpen 136 = .ok (.idiv, 1) := dc_108 (by decide +kernel)
theorem dX12_isOpen_137 : decode cX12_isOpen 137 = .ok (.putfield 245, 3) := dc_181 (a := 0) (b := 245) (by decide +kernel)
theorem dX12_isOpen_140 : decode cX12_isOpen 140 = .ok (.aload_n 0, 1) := dc_42 (by decide +kernel)
theorem dX12_isOpen_141 : decode cX12_isOpen 141 = .ok (.aload_n 0, 1) := dc_42 (by decide +kernel)
theorem dX12_isOpen_142 : decode cX12_isOpen 142 = .ok (.iload 7, 2) := dc_21 (a := 7) (by decide +kernel)
theorem dX12_isOpen_144 : decode cX12_isOpen 144 = .ok (.invokevirtual 257, 3) := dc_182 (a := 1) (b := 1) (by decide +kernel)
theorem dX12_isOpen_147 : decode cX12_isOpen 147 = .ok (.putfield 248, 3) := dc_181 (a := 0) (b := 248) (by decide +kernel)
theorem dX12_isOpen_150 : decode cX12_isOpen 150 = .ok (.aload_n 0, 1) := dc_42 (by decide +kernel)
theorem dX12_isOpen_151 : decode cX12_isOpen 151 = .ok (.iload 7, 2) := dc_21 (a := 7) (by decide +kernel)
theorem dX12_isOpen_153 : decode cX12_isOpen 153 = .ok (.iconst 2, 1) := dc_5 (by decide +kernel)
theorem dX12_isOpen_154 : decode cX12_isOpen 154 = .ok (.irem, 1) := dc_112 (by decide +kernel)
theorem dX12_isOpen_155 : decode cX12_isOpen 155 = .ok (.ifCond .ne 7, 3) := dc_154 (a := 0) (b := 7) (by decide +kernel) (by decide)
theorem dX12_isOpen_158 : decode cX12_isOpen 158 = .ok (.iconst 1, 1) := dc_4 (by decide +kernel)
theorem dX12_isOpen_159 : decode cX12_isOpen 159 = .ok (.goto 4, 3) := dc_167 (a := 0) (b := 4) (by decide +kernel) (by decide)
theorem dX12_isOpen_162 : decode cX12_isOpen 162 = .ok (.iconst 0, 1) := dc_3 (by decide +kernel)
theorem dX12_isOpen_163 : decode cX12_isOpen 163 = .ok (.putfield 251, 3) := dc_181 (a := 0) (b := 251) (by decide +kernel)
theorem dX12_isOpen_166 : decode cX12_isOpen 166 = .ok (.aload_n 0, 1) := dc_42 (by decide +kernel)
theorem dX12_isOpen_167 : decode cX12_isOpen 167 = .ok (.getfield 245, 3) := dc_180 (a := 0) (b := 245) (by decide +kernel)
theorem dX12_isOpen_170 : decode cX12_isOpen 170 = .ok (.iload_n 1, 1) := dc_27 (by decide +kernel)
theorem dX12_isOpen_171 : decode cX12_isOpen 171 = .ok (.if_icmp .ne 11, 3) := dc_160 (a := 0) (b := 11) (by decide +kernel) (by decide)
theorem dX12_isOpen_174 : decode cX12_isOpen 174 = .ok (.aload_n 0, 1) := dc_42 (by decide +kernel)
theorem dX12_isOpen_175 : decode cX12_isOpen 175 = .ok (.getfield 248, 3) := dc_180 (a := 0) (b := 248) (by decide +kernel)
theorem dX12_isOpen_178 : decode cX12_isOpen 178 = .ok (.iload_n 2, 1) := dc_28 (by decide +kernel)
theorem dX12_isOpen_179 : decode cX12_isOpen 179 = .ok (.if_icmp .eq 7, 3) := dc_159 (a := 0) (b := 7) (by decide +kernel) (by decide)
theorem dX12_isOpen_182 : decode cX12_isOpen 182 = .ok (.iconst 1, 1) := dc_4 (by decide +kernel)
theorem dX12_isOpen_183 : decode cX12_isOpen 183 = .ok (.goto 4, 3) := dc_167 (a := 0) (b := 4) (by decide +kernel) (by decide)
theorem dX12_isOpen_186 : decode cX12_isOpen 186 = .ok (.iconst 0, 1) := dc_3 (by decide +kernel)
theorem dX12_isOpen_187 : decode cX12_isOpen 187 = .ok (.ireturn, 1) := dc_172 (by decide +kernel)
set_option maxRecDepth 100000 in
set_option maxHeartbeats 4000000 in
theorem w_M_isOpen_j163 {p : Program} {l : Launch} {e : Env} {R : Room} {s : State} {m : MethodId} {args : Array Value} {below : List Frame} {meth : Method} {c : Code} {dC : Nat → ClassId} {dI : Nat → Nat → Nat} {cs : Nat → ClassId} {ad : Nat → Nat} {A : Nat → Prop} {D0 : Nat → Nat} {S' : SS} {r : Int32} (F : Fx p s m args meth c cX12_isOpen 9 RX12 (some .boolean) dC dI cs A) (hR1 : 0 ≤ R.frames) (hR2 : 0 ≤ R.locals) (x1 : Int32) (x2 : Int32) (y0 : Int32) (S : SS) (h : f_M_isOpen_j163 x1 x2 y0 S = some (r, S')) : AW p l e R s m args below meth c dC dI cs ad A D0 (some (.int r)) S' 9 163 [(0, .ref (ad 0)), (1, .int x1), (2, .int x2)] [.int y0, .ref (ad 0)] S := by
  have hx := F.1.1
  have hb := F.1.2.1
  intro H locs ls w hl
  rw [f_M_isOpen_j163] at h
  refine s_putI (pc := 163) F w ds_0 vc_X12 vi_X12 tyX12_ok nmX12 (j := 28) rfl (by decide) kf_X12_251 rfl pd_I h dX12_isOpen_163 (fun S11 H locs h w => ?_)
  refine lv_aload_n (pc := 166) hx hb dX12_isOpen_166 rfl (lv_at hl 0 rfl) ?_
  refine s_getI (pc := 167) F w ds_0 (j := 26) vc_X12 vi_X12 rfl (by decide) kf_X12_245 dX12_isOpen_167 ?_
  refine lv_iload_n (pc := 170) hx hb dX12_isOpen_170 rfl (lv_at hl 1 rfl) ?_
  refine lv_icmp_ne (pc := 171) (tgt := 182) hx hb dX12_isOpen_171 (by decide) (fun q => ?_) (fun q => ?_)
  · have h := ite_f q h
    refine lv_iconst (pc := 182) (v := 1) hx hb dX12_isOpen_182 (by decide) ?_
    refine lv_goto (pc := 183) (tgt := 187) hx hb dX12_isOpen_183 (by decide) ?_
    exact s_zretc F w rfl h dX12_isOpen_187
  · have h := ite_t q h
    refine lv_aload_n (pc := 174) hx hb dX12_isOpen_174 rfl (lv_at hl 0 rfl) ?_
    refine s_getI (pc := 175) F w ds_0 (j := 27) vc_X12 vi_X12 rfl (by decide) kf_X12_248 dX12_isOpen_175 ?_
    refine lv_iload_n (pc := 178) hx hb dX12_isOpen_178 rfl (lv_at hl 2 rfl) ?_
    refine lv_icmp_eq (pc := 179) (tgt := 186) hx hb dX12_isOpen_179 (by decide) (fun q => ?_) (fun q => ?_)
    · have h := ite_t q h
      refine lv_iconst (pc := 186) (v := 0) hx hb dX12_isOpen_186 (by decide) ?_
      exact s_zretc F w rfl h dX12_isOpen_187
    · have h := ite_f q h
      refine lv_iconst (pc := 182) (v := 1) hx hb dX12_isOpen_182 (by decide) ?_
      refine lv_goto (pc := 183) (tgt := 187) hx hb dX12_isOpen_183 (by decide) ?_
      exact s_zretc F w rfl h dX12_isOpen_187
set_option maxRecDepth 100000 in
set_option maxHeartbeats 4000000 in
theorem w_M_isOpen_j50 {p : Program} {l : Launch} {e : Env} {R : Room} {s : State} {m : MethodId} {args : Array Value} {below : List Frame} {meth : Method} {c : Code} {dC : Nat → ClassId} {dI : Nat → Nat → Nat} {cs : Nat → ClassId} {ad : Nat → Nat} {A : Nat → Prop} {D0 : Nat → Nat} {S' : SS} {r : Int32} (F : Fx p s m args meth c cX12_isOpen 9 RX12 (some .boolean) dC dI cs A) (hR1 : 1 ≤ R.frames) (hR2 : 22 ≤ R.locals) (x1 : Int32) (x2 : Int32) (x3 : Int32) (S : SS) (h : f_M_isOpen_j50 x1 x2 x3 S = some (r, S')) : AW p l e R s m args below meth c dC dI cs ad A D0 (some (.int r)) S' 9 50 [(0, .ref (ad 0)), (1, .int x1), (2, .int x2), (3, .int x3)] [] S := by
  have hx := F.1.1
  have hb := F.1.2.1
  intro H locs ls w hl
  rw [f_M_isOpen_j50] at h
  refine lv_iconst (pc := 50) (v := 2) hx hb dX12_isOpen_50 (by decide) ?_
  refine lv_iload_n (pc := 51) hx hb dX12_isOpen_51 rfl (lv_at hl 1 rfl) ?_
  refine lv_imul (pc := 52) hx hb dX12_isOpen_52 ?_
  refine lv_iload_n (pc := 53) hx hb dX12_isOpen_53 rfl (lv_at hl 3 rfl) ?_
  refine lv_iadd (pc := 54) hx hb dX12_isOpen_54 ?_
  refine s_nm h (fun z1 ez1 h => ?_)
  rw [← ez1]
  refine lv_istore (pc := 55) (lv' := [(5, .int z1), (0, .ref (ad 0)), (1, .int x1), (2, .int x2), (3, .int x3)]) hx hb dX12_isOpen_55 hl (by decide) rfl (fun ls hl => ?_)
  refine lv_aload_n (pc := 57) hx hb dX12_isOpen_57 rfl (lv_at hl 1 rfl) ?_
  refine lv_iload (pc := 58) hx hb dX12_isOpen_58 (lv_at hl 0 rfl) ?_
  obtain ⟨r3, S2, hc, h⟩ := bnd_t h
  refine s_cvi (pc := 60) [.int z1] (fun ad => [.ref (ad 0), .int z1]) F w (m_M_openLink _ _ _ _ hc) rfl rfl hl.1 ds_0 vc_X12 rfl ok_X12_openLink rfl kc_X12_openLink kl_X12_254 ki_X12_openLink kv_X12_openLink kn_X12 ⟨Nat.le_trans (by decide) hR1, Nat.le_trans (by decide) hR2⟩ ⟨Nat.zero_le _, Nat.zero_le _⟩ (Nat.le_of_ble_eq_true rfl) dX12_isOpen_60 (fun H locs w => ?_)
  refine lv_istore (pc := 63) (lv' := [(6, .int r3), (5, .int z1), (0, .ref (ad 0)), (1, .int x1), (2, .int x2), (3, .int x3)]) hx hb dX12_isOpen_63 hl (by decide) rfl (fun ls hl => ?_)
  refine lv_iload (pc := 65) hx hb dX12_isOpen_65 (lv_at hl 0 rfl) ?_
  refine lv_bipush (pc := 67) (v := -4) hx hb dX12_isOpen_67 (by decide) ?_
  refine lv_icmp_ne (pc := 69) (tgt := 74) hx hb dX12_isOpen_69 (by decide) (fun q => ?_) (fun q => ?_)
  · have h := ite_f q h
    refine lv_aload_n (pc := 74) hx hb dX12_isOpen_74 rfl (lv_at hl 2 rfl) ?_
    refine s_getR (pc := 75) F w 7 ds_0 (j := 12) vc_X12 vi_X12 rfl (by decide) kf_X12_36 dX12_isOpen_75 ?_
    refine lv_iconst (pc := 78) (v := 3) hx hb dX12_isOpen_78 (by decide) ?_
    refine lv_iload (pc := 79) hx hb dX12_isOpen_79 (lv_at hl 1 rfl) ?_
    refine lv_imul (pc := 81) hx hb dX12_isOpen_81 ?_
    refine lv_iload (pc := 82) hx hb dX12_isOpen_82 (lv_at hl 0 rfl) ?_
    refine lv_iadd (pc := 84) hx hb dX12_isOpen_84 ?_
    refine s_iald (pc := 85) F w ds_7 h dX12_isOpen_85 (fun h => ?_)
    refine s_nm h (fun z4 ez4 h => ?_)
    rw [← ez4]
    refine lv_istore (pc := 86) (lv' := [(7, .int z4), (6, .int r3), (5, .int z1), (0, .ref (ad 0)), (1, .int x1), (2, .int x2), (3, .int x3)]) hx hb dX12_isOpen_86 hl (by decide) rfl (fun ls hl => ?_)
    refine lv_aload_n (pc := 88) hx hb dX12_isOpen_88 rfl (lv_at hl 3 rfl) ?_
    refine lv_iload (pc := 89) hx hb dX12_isOpen_89 (lv_at hl 0 rfl) ?_
    obtain ⟨r6, S5, hc, h⟩ := bnd_t h
    refine s_cvi (pc := 91) [.int z4] (fun ad => [.ref (ad 0), .int z4]) F w (m_M_openLink _ _ _ _ hc) rfl rfl hl.1 ds_0 vc_X12 rfl ok_X12_openLink rfl kc_X12_openLink kl_X12_254 ki_X12_openLink kv_X12_openLink kn_X12 ⟨Nat.le_trans (by decide) hR1, Nat.le_trans (by decide) hR2⟩ ⟨Nat.zero_le _, Nat.zero_le _⟩ (Nat.le_of_ble_eq_true rfl) dX12_isOpen_91 (fun H locs w => ?_)
    refine lv_istore (pc := 94) (lv' := [(8, .int r6), (7, .int z4), (6, .int r3), (5, .int z1), (0, .ref (ad 0)), (1, .int x1), (2, .int x2), (3, .int x3)]) hx hb dX12_isOpen_94 hl (by decide) rfl (fun ls hl => ?_)
    refine lv_iload (pc := 96) hx hb dX12_isOpen_96 (lv_at hl 0 rfl) ?_
    refine lv_bipush (pc := 98) (v := -4) hx hb dX12_isOpen_98 (by decide) ?_
    refine lv_icmp_eq (pc := 100) (tgt := 130) hx hb dX12_isOpen_100 (by decide) (fun q => ?_) (fun q => ?_)
    · have h := ite_t q h
      refine lv_iconst (pc := 130) (v := 0) hx hb dX12_isOpen_130 (by decide) ?_
      exact s_zretc F w rfl h dX12_isOpen_131
    · have h := ite_f q h
      refine lv_aload_n (pc := 103) hx hb dX12_isOpen_103 rfl (lv_at hl 4 rfl) ?_
      refine s_getR (pc := 104) F w 8 ds_0 (j := 13) vc_X12 vi_X12 rfl (by decide) kf_X12_39 dX12_isOpen_104 ?_
      refine lv_iconst (pc := 107) (v := 3) hx hb dX12_isOpen_107 (by decide) ?_
      refine lv_iload (pc := 108) hx hb dX12_isOpen_108 (lv_at hl 1 rfl) ?_
      refine lv_imul (pc := 110) hx hb dX12_isOpen_110 ?_
      refine lv_iload (pc := 111) hx hb dX12_isOpen_111 (lv_at hl 0 rfl) ?_
      refine lv_iadd (pc := 113) hx hb dX12_isOpen_113 ?_
      refine s_iald (pc := 114) F w ds_8 h dX12_isOpen_114 (fun h => ?_)
      refine lv_aload_n (pc := 115) hx hb dX12_isOpen_115 rfl (lv_at hl 4 rfl) ?_
      refine s_getR (pc := 116) F w 8 ds_0 (j := 13) vc_X12 vi_X12 rfl (by decide) kf_X12_39 dX12_isOpen_116 ?_
      refine lv_iconst (pc := 119) (v := 3) hx hb dX12_isOpen_119 (by decide) ?_
      refine lv_iload (pc := 120) hx hb dX12_isOpen_120 (lv_at hl 3 rfl) ?_
      refine lv_imul (pc := 122) hx hb dX12_isOpen_122 ?_
      refine lv_iload (pc := 123) hx hb dX12_isOpen_123 (lv_at hl 2 rfl) ?_
      refine lv_iadd (pc := 125) hx hb dX12_isOpen_125 ?_
      refine s_iald (pc := 126) F w ds_8 h dX12_isOpen_126 (fun h => ?_)
      refine lv_icmp_eq (pc := 127) (tgt := 132) hx hb dX12_isOpen_127 (by decide) (fun q => ?_) (fun q => ?_)
      · have h := ite_t q h
        refine lv_aload_n (pc := 132) hx hb dX12_isOpen_132 rfl (lv_at hl 4 rfl) ?_
        refine lv_iload (pc := 133) hx hb dX12_isOpen_133 (lv_at hl 1 rfl) ?_
        refine lv_iconst (pc := 135) (v := 2) hx hb dX12_isOpen_135 (by decide) ?_
        refine lv_idiv (pc := 136) hx hb dX12_isOpen_136 (by decide) ?_
        refine s_putI (pc := 137) F w ds_0 vc_X12 vi_X12 tyX12_ok nmX12 (j := 26) rfl (by decide) kf_X12_245 rfl pd_I h dX12_isOpen_137 (fun S7 H locs h w => ?_)
        refine lv_aload_n (pc := 140) hx hb dX12_isOpen_140 rfl (lv_at hl 4 rfl) ?_
        refine lv_aload_n (pc := 141) hx hb dX12_isOpen_141 rfl (lv_at hl 4 rfl) ?_
        refine lv_iload (pc := 142) hx hb dX12_isOpen_142 (lv_at hl 1 rfl) ?_
        obtain ⟨r9, S8, hc, h⟩ := bnd_t h
        refine s_cvi (pc := 144) [.int z4] (fun ad => [.ref (ad 0), .int z4]) F w (m_M_placeAtEnd _ _ _ _ hc) rfl rfl hl.1 ds_0 vc_X12 rfl ok_X12_placeAtEnd rfl kc_X12_placeAtEnd kl_X12_257 ki_X12_placeAtEnd kv_X12_placeAtEnd kn_X12 ⟨Nat.le_trans (by decide) hR1, Nat.le_trans (by decide) hR2⟩ ⟨Nat.zero_le _, Nat.zero_le _⟩ (Nat.le_of_ble_eq_true rfl) dX12_isOpen_144 (fun H locs w => ?_)
        refine s_putI (pc := 147) F w ds_0 vc_X12 vi_X12 tyX12_ok nmX12 (j := 27) rfl (by decide) kf_X12_248 rfl pd_I h dX12_isOpen_147 (fun S10 H locs h w => ?_)
        refine lv_aload_n (pc := 150) hx hb dX12_isOpen_150 rfl (lv_at hl 4 rfl) ?_
        refine lv_iload (pc := 151) hx hb dX12_isOpen_151 (lv_at hl 1 rfl) ?_
        refine lv_iconst (pc := 153) (v := 2) hx hb dX12_isOpen_153 (by decide) ?_
        refine lv_irem (pc := 154) hx hb dX12_isOpen_154 (by decide) ?_
        refine lv_if_ne (pc := 155) (tgt := 162) hx hb dX12_isOpen_155 (by decide) (fun q => ?_) (fun q => ?_)
        · have h := ite_f q h
          refine lv_iconst (pc := 162) (v := 0) hx hb dX12_isOpen_162 (by decide) ?_
          exact w_M_isOpen_j163 F (Nat.le_trans (by decide) hR1) (Nat.le_trans (by decide) hR2) _ _ _ _ h _ _ _ w (lv_sub hl [4, 5, 6] rfl)
        · have h := ite_t q h
          refine lv_iconst (pc := 158) (v := 1) hx hb dX12_isOpen_158 (by decide) ?_
          refine lv_goto (pc := 159) (tgt := 163) hx hb dX12_isOpen_159 (by decide) ?_
          exact w_M_isOpen_j163 F (Nat.le_trans (by decide) hR1) (Nat.le_trans (by decide) hR2) _ _ _ _ h _ _ _ w (lv_sub hl [4, 5, 6] rfl)
      · have h := ite_f q h
        refine lv_iconst (pc := 130) (v := 0) hx hb dX12_isOpen_130 (by decide) ?_
        exact s_zretc F w rfl h dX12_isOpen_131
  · have h := ite_t q h
    refine lv_iconst (pc := 72) (v := 0) hx hb dX12_isOpen_72 (by decide) ?_
    exact s_zretc F w rfl h dX12_isOpen_73
set_option maxRecDepth 100000 in
set_option maxHeartbeats 4000000 in
theorem w_M_isOpen_j14 {p : Program} {l : Launch} {e : Env} {R : Room} {s : State} {m : MethodId} {args : Array Value} {below : List Frame} {meth : Method} {c : Code} {dC : Nat → ClassId} {dI : Nat → Nat → Nat} {cs : Nat → ClassId} {ad : Nat → Nat} {A : Nat → Prop} {D0 : Nat → Nat} {S' : SS} {r : Int32} (F : Fx p s m args meth c cX12_isOpen 9 RX12 (some .boolean) dC dI cs A) (hR1 : 1 ≤ R.frames) (hR2 : 22 ≤ R.locals) (x1 : Int32) (x2 : Int32) (x3 : Int32) (y0 : Int32) (S : SS) (h : f_M_isOpen_j14 x1 x2 x3 y0 S = some (r, S')) : AW p l e R s m args below meth c dC dI cs ad A D0 (some (.int r)) S' 9 14 [(0, .ref (ad 0)), (1, .int x1), (2, .int x2), (3, .int x3)] [.int y0] S := by
  have hx := F.1.1
  have hb := F.1.2.1
  intro H locs ls w hl
  rw [f_M_isOpen_j14] at h
  refine lv_istore (pc := 14) (lv' := [(4, .int y0), (0, .ref (ad 0)), (1, .int x1), (2, .int x2), (3, .int x3)]) hx hb dX12_isOpen_14 hl (by decide) rfl (fun ls hl => ?_)
  refine lv_iload (pc := 16) hx hb dX12_isOpen_16 (lv_at hl 0 rfl) ?_
  refine lv_if_lt (pc := 18) (tgt := 50) hx hb dX12_isOpen_18 (by decide) (fun q => ?_) (fun q => ?_)
  · have h := ite_t q h
    exact w_M_isOpen_j50 F (Nat.le_trans (by decide) hR1) (Nat.le_trans (by decide) hR2) _ _ _ _ h _ _ _ w (lv_sub hl [1, 2, 3, 4] rfl)
  · have h := ite_f q h
    refine lv_iload (pc := 21) hx hb dX12_isOpen_21 (lv_at hl 0 rfl) ?_
    refine lv_aload_n (pc := 23) hx hb dX12_isOpen_23 rfl (lv_at hl 1 rfl) ?_
    refine s_getR (pc := 24) F w 3 ds_0 (j := 8) vc_X12 vi_X12 rfl (by decide) kf_X12_23 dX12_isOpen_24 ?_
    refine lv_iload_n (pc := 27) hx hb dX12_isOpen_27 rfl (lv_at hl 2 rfl) ?_
    refine s_iald (pc := 28) F w ds_3 h dX12_isOpen_28 (fun h => ?_)
    refine lv_icmp_ge (pc := 29) (tgt := 50) hx hb dX12_isOpen_29 (by decide) (fun q => ?_) (fun q => ?_)
    · have h := ite_t q h
      exact w_M_isOpen_j50 F (Nat.le_trans (by decide) hR1) (Nat.le_trans (by decide) hR2) _ _ _ _ h _ _ _ w (lv_sub hl [1, 2, 3, 4] rfl)
    · have h := ite_f q h
      refine lv_aload_n (pc := 32) hx hb dX12_isOpen_32 rfl (lv_at hl 1 rfl) ?_
      refine lv_iload_n (pc := 33) hx hb dX12_isOpen_33 rfl (lv_at hl 2 rfl) ?_
      refine s_putI (pc := 34) F w ds_0 vc_X12 vi_X12 tyX12_ok nmX12 (j := 26) rfl (by decide) kf_X12_245 rfl pd_I h dX12_isOpen_34 (fun S12 H locs h w => ?_)
      refine lv_aload_n (pc := 37) hx hb dX12_isOpen_37 rfl (lv_at hl 1 rfl) ?_
      refine lv_iload (pc := 38) hx hb dX12_isOpen_38 (lv_at hl 0 rfl) ?_
      refine s_putI (pc := 40) F w ds_0 vc_X12 vi_X12 tyX12_ok nmX12 (j := 27) rfl (by decide) kf_X12_248 rfl pd_I h dX12_isOpen_40 (fun S13 H locs h w => ?_)
      refine lv_aload_n (pc := 43) hx hb dX12_isOpen_43 rfl (lv_at hl 1 rfl) ?_
      refine lv_iload_n (pc := 44) hx hb dX12_isOpen_44 rfl (lv_at hl 4 rfl) ?_
      refine s_putI (pc := 45) F w ds_0 vc_X12 vi_X12 tyX12_ok nmX12 (j := 28) rfl (by decide) kf_X12_251 rfl pd_I h dX12_isOpen_45 (fun S14 H locs h w => ?_)
      refine lv_iconst (pc := 48) (v := 1) hx hb dX12_isOpen_48 (by decide) ?_
      exact s_zretc F w rfl h dX12_isOpen_49
set_option maxRecDepth 100000 in
set_option maxHeartbeats 4000000 in
theorem m_M_isOpen (a1 : Int32) (a2 : Int32) (a3 : Int32) (S S' : SS) (r : Int32) (h : f_M_isOpen a1 a2 a3 S = some (r, S')) : MT yX12_isOpen cX12_isOpen 9 (some .boolean) 1 22 (fun ad => [.ref (ad 0), .int a1, .int a2, .int a3]) S (some (.int r)) S' := by
  refine MT.of RX12 (fun ad => [(0, .ref (ad 0)), (1, .int a1), (2, .int a2), (3, .int a3)]) (by decide) rfl (fun _ => Nat.le_of_ble_eq_true rfl) (fun _ => rfl) ?_
  intro p l e R s m args below meth c dC dI cs ad A hR1 hR2 F H locs ls w hl
  have hx := F.1.1
  have hb := F.1.2.1
  rw [f_M_isOpen] at h
  refine lv_iload_n (pc := 0) hx hb dX12_isOpen_0 rfl (lv_at hl 3 rfl) ?_
  refine lv_iconst (pc := 1) (v := 1) hx hb dX12_isOpen_1 (by decide) ?_
  refine lv_icmp_ne (pc := 2) (tgt := 11) hx hb dX12_isOpen_2 (by decide) (fun q => ?_) (fun q => ?_)
  · have h := ite_f q h
    refine lv_iload_n (pc := 11) hx hb dX12_isOpen_11 rfl (lv_at hl 2 rfl) ?_
    refine lv_iconst (pc := 12) (v := 1) hx hb dX12_isOpen_12 (by decide) ?_
    refine lv_isub (pc := 13) hx hb dX12_isOpen_13 ?_
    exact w_M_isOpen_j14 F (Nat.le_trans (by decide) hR1) (Nat.le_trans (by decide) hR2) _ _ _ _ _ h _ _ _ w (lv_sub hl [0, 1, 2, 3] rfl)
  · have h := ite_t q h
    refine lv_iload_n (pc := 5) hx hb dX12_isOpen_5 rfl (lv_at hl 2 rfl) ?_
    refine lv_iconst (pc := 6) (v := 1) hx hb dX12_isOpen_6 (by decide) ?_
    refine lv_iadd (pc := 7) hx hb dX12_isOpen_7 ?_
    refine lv_goto (pc := 8) (tgt := 14) hx hb dX12_isOpen_8 (by decide) ?_
    exact w_M_isOpen_j14 F (Nat.le_trans (by decide) hR1) (Nat.le_trans (by decide) hR2) _ _ _ _ _ h _ _ _ w (lv_sub hl [0, 1, 2, 3] rfl)
def f_M_sideTo (a1 : Int32) (a2 : Int32) (S : SS) : Option (Int32 × SS) :=
  grd (inb ((2 : Int32) * a1) 144) (
  if (S.1 23 ((2 : Int32) * a1).toNatClampNeg) = a2 then
    some ((0 : Int32), S)
  else
    some ((1 : Int32), S))
theorem dX12_sideTo_0 : decode cX12_sideTo 0 = .ok (.aload_n 0, 1) := dc_42 (by decide +kernel)
theorem dX12_sideTo_1 : decode cX12_sideTo 1 = .ok (.getfield 84, 3) := dc_180 (a := 0) (b := 84) (by decide +kernel)
theorem dX12_sideTo_4 : decode cX12_sideTo 4 = .ok (.iconst 2, 1) := dc_5 (by decide +kernel)
theorem dX12_sideTo_5 : decode cX12_sideTo 5 = .ok (.iload_n 1, 1) := dc_27 (by decide +kernel)
theorem dX12_sideTo_6 : decode cX12_sideTo 6 = .ok (.imul, 1) := dc_104 (by decide +kernel)
theorem dX12_sideTo_7 : decode cX12_sideTo 7 = .ok (.iaload, 1) := dc_46 (by decide +kernel)
theorem dX12_sideTo_8 : decode cX12_sideTo 8 = .ok (.iload_n 2, 1) := dc_28 (by decide +kernel)
theorem dX12_sideTo_9 : decode cX12_sideTo 9 = .ok (.if_icmp .ne 7, 3) := dc_160 (a := 0) (b := 7) (by decide +kernel) (by decide)
theorem dX12_sideTo_12 : decode cX12_sideTo 12 = .ok (.iconst 0, 1) := dc_3 (by decide +kernel)
theorem dX12_sideTo_13 : decode cX12_sideTo 13 = .ok (.goto 4, 3) := dc_167 (a := 0) (b := 4) (by decide +kernel) (by decide)
theorem dX12_sideTo_16 : decode cX12_sideTo 16 = .ok (.iconst 1, 1) := dc_4 (by decide +kernel)
theorem dX12_sideTo_17 : decode cX12_sideTo 17 = .ok (.ireturn, 1) := dc_172 (by decide +kernel)
set_option maxRecDepth 100000 in
set_option maxHeartbeats 4000000 in
theorem m_M_sideTo (a1 : Int32) (a2 : Int32) (S S' : SS) (r : Int32) (h : f_M_sideTo a1 a2 S = some (r, S')) : MT yX12_sideTo cX12_sideTo 3 (some .int) 0 0 (fun ad => [.ref (ad 0), .int a1, .int a2]) S (some (.int r)) S' := by
  refine MT.of RX12 (fun ad => [(0, .ref (ad 0)), (1, .int a1), (2, .int a2)]) (by decide) rfl (fun _ => Nat.le_of_ble_eq_true rfl) (fun _ => rfl) ?_
  intro p l e R s m args below meth c dC dI cs ad A hR1 hR2 F H locs ls w hl
  have hx := F.1.1
  have hb := F.1.2.1
  rw [f_M_sideTo] at h
  refine lv_aload_n (pc := 0) hx hb dX12_sideTo_0 rfl (lv_at hl 0 rfl) ?_
  refine s_getR (pc := 1) F w 23 ds_0 (j := 35) vc_X12 vi_X12 rfl (by decide) kf_X12_84 dX12_sideTo_1 ?_
  refine lv_iconst (pc := 4) (v := 2) hx hb dX12_sideTo_4 (by decide) ?_
  refine lv_iload_n (pc := 5) hx hb dX12_sideTo_5 rfl (lv_at hl 1 rfl) ?_
  refine lv_imul (pc := 6) hx hb dX12_sideTo_6 ?_
  refine s_iald (pc := 7) F w ds_23 h dX12_sideTo_7 (fun h => ?_)
  refine lv_iload_n (pc := 8) hx hb dX12_sideTo_8 rfl (lv_at hl 2 rfl) ?_
  refine lv_icmp_ne (pc := 9) (tgt := 16) hx hb dX12_sideTo_9 (by decide) (fun q => ?_) (fun q => ?_)
  · have h := ite_f q h
    refine lv_iconst (pc := 16) (v := 1) hx hb dX12_sideTo_16 (by decide) ?_
    exact s_iret F w h dX12_sideTo_17
  · have h := ite_t q h
    refine lv_iconst (pc := 12) (v := 0) hx hb dX12_sideTo_12 (by decide) ?_
    refine lv_goto (pc := 13) (tgt := 17) hx hb dX12_sideTo_13 (by decide) ?_
    exact s_iret F w h dX12_sideTo_17
def f_M_lineUp_L81  : Nat → Int32 → Int32 → SS → Option (SS)
  | 0, _, _, _ => none
  | n + 1, x2, x3, S =>
    grd (inb (((2 : Int32) * x2) + x3) 144) (
    if (S.1 23 (((2 : Int32) * x2) + x3).toNatClampNeg) = (-4 : Int32) then
      wr S 0 58 x3 (fun S6 =>
      some S6)
    else
      grd (inb (((2 : Int32) * x2) + x3) 144) (
      nm (S.1 23 (((2 : Int32) * x2) + x3).toNatClampNeg) (fun z7 =>
      bnd (f_M_sideTo z7 x2 S) (fun r9 S8 =>
      nm ((1 : Int32) - r9) (fun z10 =>
      grd (inb (S8.1 0 56) 72) (wr S8 39 (S8.1 0 56).toNatClampNeg z7 (fun S11 =>
      wr S11 0 56 ((S11.1 0 56) + (1 : Int32)) (fun S12 =>
      f_M_lineUp_L81 n z7 z10 S12))))))))
def f_M_lineUp_L4  : Nat → Int32 → Int32 → SS → Option (SS)
  | 0, _, _, _ => none
  | n + 1, x2, x3, S =>
    grd (inb (((2 : Int32) * x2) + x3) 144) (
    if (S.1 23 (((2 : Int32) * x2) + x3).toNatClampNeg) = (-4 : Int32) then
      wr S 0 57 x3 (fun S1 =>
      wr S1 0 56 (0 : Int32) (fun S2 =>
      nm ((1 : Int32) - x3) (fun z3 =>
      grd (inb (S2.1 0 56) 72) (wr S2 39 (S2.1 0 56).toNatClampNeg x2 (fun S4 =>
      wr S4 0 56 ((S4.1 0 56) + (1 : Int32)) (fun S5 =>
      f_M_lineUp_L81 NF x2 z3 S5))))))
    else
      grd (inb (((2 : Int32) * x2) + x3) 144) (
      nm (S.1 23 (((2 : Int32) * x2) + x3).toNatClampNeg) (fun z13 =>
      bnd (f_M_sideTo z13 x2 S) (fun r15 S14 =>
      nm ((1 : Int32) - r15) (fun z16 =>
      f_M_lineUp_L4 n z13 z16 S14)))))
def f_M_lineUp (a1 : Int32) (S : SS) : Option (SS) :=
  f_M_lineUp_L4 NF a1 (0 : Int32) S
theorem dX12_lineUp_0 : decode cX12_lineUp 0 = .ok (.iload_n 1, 1) := dc_27 (by decide +kernel)
theorem dX12_lineUp_1 : decode cX12_lineUp 1 = .ok (.istore_n 2, 1) := dc_61 (by decide +kernel)
theorem dX12_lineUp_2 : decode cX12_lineUp 2 = .ok (.iconst 0, 1) := dc_3 (by decide +kernel)
theorem dX12_lineUp_3 : decode cX12_lineUp 3 = .ok (.istore_n 3, 1) := dc_62 (by decide +kernel)
theorem dX12_lineUp_4 : decode cX12_lineUp 4 = .ok (.aload_n 0, 1) := dc_42 (by decide +kernel)
theorem dX12_lineUp_5 : decode cX12_lineUp 5 = .ok (.getfield 84, 3) := dc_180 (a := 0) (b := 84) (by decide +kernel)
theorem dX12_lineUp_8 : decode cX12_lineUp 8 = .ok (.iconst 2, 1) := dc_5 (by decide +kernel)
theorem dX12_lineUp_9 : decode cX12_lineUp 9 = .ok (.iload_n 2, 1) := dc_28 (by decide +kernel)
theorem dX12_lineUp_10 : decode cX12_lineUp 10 = .ok (.imul, 1) := dc_104 (by decide +kernel)
theorem dX12_lineUp_11 : decode cX12_lineUp 11 = .ok (.iload_n 3, 1) := dc_29 (by decide +kernel)
theorem dX12_lineUp_12 : decode cX12_lineUp 12 = .ok (.iadd, 1) := dc_96 (by decide +kernel)
theorem dX12_lineUp_13 : decode cX12_lineUp 13 = .ok (.iaload, 1) := dc_46 (by decide +kernel)
theorem dX12_lineUp_14 : decode cX12_lineUp 14 = .ok (.bipush (-4), 2) := dc_16 (a := 252) (by decide +kernel) (by decide)
theorem dX12_lineUp_16 : decode cX12_lineUp 16 = .ok (.if_icmp .eq 31, 3) := dc_159 (a := 0) (b := 31) (by decide +kernel) (by decide)
theorem dX12_lineUp_19 : decode cX12_lineUp 19 = .ok (.aload_n 0, 1) := dc_42 (by decide +kernel)
theorem dX12_lineUp_20 : decode cX12_lineUp 20 = .ok (.getfield 84, 3) := dc_180 (a := 0) (b := 84) (by decide +kernel)
theorem dX12_lineUp_23 : decode cX12_lineUp 23 = .ok (.iconst 2, 1) := dc_5 (by decide +kernel)
theorem dX12_lineUp_24 : decode cX12_lineUp 24 = .ok (.iload_n 2, 1) := dc_28 (by decide +kernel)
theorem dX12_lineUp_25 : decode cX12_lineUp 25 = .ok (.imul, 1) := dc_104 (by decide +kernel)
theorem dX12_lineUp_26 : decode cX12_lineUp 26 = .ok (.iload_n 3, 1) := dc_29 (by decide +kernel)
theorem dX12_lineUp_27 : decode cX12_lineUp 27 = .ok (.iadd, 1) := dc_96 (by decide +kernel)
theorem dX12_lineUp_28 : decode cX12_lineUp 28 = .ok (.iaload, 1) := dc_46 (by decide +kernel)
theorem dX12_lineUp_29 : decode cX12_lineUp 29 = .ok (.istore 4, 2) := dc_54 (a := 4) (by decide +kernel)
theorem dX12_lineUp_31 : decode cX12_lineUp 31 = .ok (.iconst 1, 1) := dc_4 (by decide +kernel)
theorem dX12_lineUp_32 : decode cX12_lineUp 32 = .ok (.aload_n 0, 1) := dc_42 (by decide +kernel)
theorem dX12_lineUp_33 : decode cX12_lineUp 33 = .ok (.iload 4, 2) := dc_21 (a := 4) (by decide +kernel)
theorem dX12_lineUp_35 : decode cX12_lineUp 35 = .ok (.iload_n 2, 1) := dc_28 (by decide +kernel)
theorem dX12_lineUp_36 : decode cX12_lineUp 36 = .ok (.invokevirtual 313, 3) := dc_182 (a := 1) (b := 57) (by decide +kernel)
theorem dX12_lineUp_39 : decode cX12_lineUp 39 = .ok (.isub, 1) := dc_100 (by decide +kernel)
theorem dX12_lineUp_40 : decode cX12_lineUp 40 = .ok (.istore_n 3, 1) := dc_62 (by decide +kernel)
theorem dX12_lineUp_41 : decode cX12_lineUp 41 = .ok (.iload 4, 2) := dc_21 (a := 4) (by decide +kernel)
theorem dX12_lineUp_43 : decode cX12_lineUp 43 = .ok (.istore_n 2, 1) := dc_61 (by decide +kernel)
theorem dX12_lineUp_44 : decode cX12_lineUp 44 = .ok (.goto (-40), 3) := dc_167 (a := 255) (b := 216) (by decide +kernel) (by decide)
theorem dX12_lineUp_47 : decode cX12_lineUp 47 = .ok (.aload_n 0, 1) := dc_42 (by decide +kernel)
theorem dX12_lineUp_48 : decode cX12_lineUp 48 = .ok (.iload_n 3, 1) := dc_29 (by decide +kernel)
theorem dX12_lineUp_49 : decode cX12_lineUp 49 = .ok (.putfield 316, 3) := dc_181 (a := 1) (b := 60) (by decide +kernel)
theorem dX12_lineUp_52 : decode cX12_lineUp 52 = .ok (.aload_n 0, 1) := dc_42 (by decide +kernel)
theorem dX12_lineUp_53 : decode cX12_lineUp 53 = .ok (.iconst 0, 1) := dc_3 (by decide +kernel)
theorem dX12_lineUp_54 : decode cX12_lineUp 54 = .ok (.putfield 319, 3) := dc_181 (a := 1) (b := 63) (by decide +kernel)
theorem dX12_lineUp_57 : decode cX12_lineUp 57 = .ok (.iconst 1, 1) := dc_4 (by decide +kernel)
theorem dX12_lineUp_58 : decode cX12_lineUp 58 = .ok (.iload_n 3, 1) := dc_29 (by decide +kernel)
theorem dX12_lineUp_59 : decode cX12_lineUp 59 = .ok (.isub, 1) := dc_100 (by decide +kernel)
theorem dX12_lineUp_60 : decode cX12_lineUp 60 = .ok (.istore_n 3, 1) := dc_62 (by decide +kernel)
theorem dX12_lineUp_61 : decode cX12_lineUp 61 = .ok (.aload_n 0, 1) := dc_42 (by decide +kernel)
theorem dX12_lineUp_62 : decode cX12_lineUp 62 = .ok (.getfield 132, 3) := dc_180 (a := 0) (b := 132) (by decide +kernel)
theorem dX12_lineUp_65 : decode cX12_lineUp 65 = .ok (.aload_n 0, 1) := dc_42 (by decide +kernel)
theorem dX12_lineUp_66 : decode cX12_lineUp 66 = .ok (.getfield 319, 3) := dc_180 (a := 1) (b := 63) (by decide +kernel)
theorem dX12_lineUp_69 : decode cX12_lineUp 69 = .ok (.iload_n 2, 1) := dc_28 (by decide +kernel)
theorem dX12_lineUp_70 : decode cX12_lineUp 70 = .ok (.iastore, 1) := dc_79 (by decide +kernel)
theorem dX12_lineUp_71 : decode cX12_lineUp 71 = .ok (.aload_n 0, 1) := dc_42 (by decide +kernel)
theorem dX12_lineUp_72 : decode cX12_lineUp 72 = .ok (.dup, 1) := dc_89 (by decide +kernel)
theorem dX12_lineUp_73 : decode cX12_lineUp 73 = .ok (.getfield 319, 3) := dc_180 (a := 1) (b := 63) (by decide +kernel)
theorem dX12_lineUp_76 : decode cX12_lineUp 76 = .ok (.iconst 1, 1) := dc_4 (by decide +kernel)
theorem dX12_lineUp_77 : decode cX12_lineUp 77 = .ok (.iadd, 1) := dc_96 (by decide +kernel)
theorem dX12_lineUp_78 : decode cX12_lineUp 78 = .ok (.putfield 319, 3) := dc_181 (a := 1) (b := 63) (by decide +kernel)
theorem dX12_lineUp_81 : decode cX12_lineUp 81 = .ok (.aload_n 0, 1) := dc_42 (by decide +kernel)
theorem dX12_lineUp_82 : decode cX12_lineUp 82 = .ok (.getfield 84, 3) := dc_180 (a := 0) (b := 84) (by decide +kernel)
theorem dX12_lineUp_85 : decode cX12_lineUp 85 = .ok (.iconst 2, 1) := dc_5 (by decide +kernel)
theorem dX12_lineUp_86 : decode cX12_lineUp 86 = .ok (.iload_n 2, 1) := dc_28 (by decide +kernel)
theorem dX12_lineUp_87 : decode cX12_lineUp 87 = .ok (.imul, 1) := dc_104 (by decide +kernel)
theorem dX12_lineUp_88 : decode cX12_lineUp 88 = .ok (.iload_n 3, 1) := dc_29 (by decide +kernel)
theorem dX12_lineUp_89 : decode cX12_lineUp 89 = .ok (.iadd, 1) := dc_96 (by decide +kernel)
theorem dX12_lineUp_90 : decode cX12_lineUp 90 = .ok (.iaload, 1) := dc_46 (by decide +kernel)
theorem dX12_lineUp_91 : decode cX12_lineUp 91 = .ok (.bipush (-4), 2) := dc_16 (a := 252) (by decide +kernel) (by decide)
theorem dX12_lineUp_93 : decode cX12_lineUp 93 = .ok (.if_icmp .eq 51, 3) := dc_159 (a := 0) (b := 51) (by decide +kernel) (by decide)
theorem dX12_lineUp_96 : decode cX12_lineUp 96 = .ok (.aload_n 0, 1) := dc_42 (by decide +kernel)
theorem dX12_lineUp_97 : decode cX12_lineUp 97 = .ok (.getfield 84, 3) := dc_180 (a := 0) (b := 84) (by decide +kernel)
theorem dX12_lineUp_100 : decode cX12_lineUp 100 = .ok (.iconst 2, 1) := dc_5 (by decide +kernel)
theorem dX12_lineUp_101 : decode cX12_lineUp 101 = .ok (.iload_n 2, 1) := dc_28 (by decide +kernel)
theorem dX12_lineUp_102 : decode cX12_lineUp 102 = .ok (.imul, 1) := dc_104 (by decide +kernel)
theorem dX12_lineUp_103 : decode cX12_lineUp 103 = .ok (.iload_n 3, 1) := dc_29 (by decide +kernel)
theorem dX12_lineUp_104 : decode cX12_lineUp 104 = .ok (.iadd, 1) := dc_96 (by decide +kernel)
theorem dX12_lineUp_105 : decode cX12_lineUp 105 = .ok (.iaload, 1) := dc_46 (by decide +kernel)
theorem dX12_lineUp_106 : decode cX12_lineUp 106 = .ok (.istore 4, 2) := dc_54 (a := 4) (by decide +kernel)
theorem dX12_lineUp_108 : decode cX12_lineUp 108 = .ok (.iconst 1, 1) := dc_4 (by decide +kernel)
theorem dX12_lineUp_109 : decode cX12_lineUp 109 = .ok (.aload_n 0, 1) := dc_42 (by decide +kernel)
theorem dX12_lineUp_110 : decode cX12_lineUp 110 = .ok (.iload 4, 2) := dc_21 (a := 4) (by decide +kernel)
theorem dX12_lineUp_112 : decode cX12_lineUp 112 = .ok (.iload_n 2, 1) := dc_28 (by decide +kernel)
theorem dX12_lineUp_113 : decode cX12_lineUp 113 = .ok (.invokevirtual 313, 3) := dc_182 (a := 1) (b := 57) (by decide +kernel)
theorem dX12_lineUp_116 : decode cX12_lineUp 116 = .ok (.isub, 1) := dc_100 (by decide +kernel)
theorem dX12_lineUp_117 : decode cX12_lineUp 117 = .ok (.istore_n 3, 1) := dc_62 (by decide +kernel)
theorem dX12_lineUp_118 : decode cX12_lineUp 118 = .ok (.iload 4, 2) := dc_21 (a := 4) (by decide +kernel)
theorem dX12_lineUp_120 : decode cX12_lineUp 120 = .ok (.istore_n 2, 1) := dc_61 (by decide +kernel)
theorem dX12_lineUp_121 : decode cX12_lineUp 121 = .ok (.aload_n 0, 1) := dc_42 (by decide +kernel)
theorem dX12_lineUp_122 : decode cX12_lineUp 122 = .ok (.getfield 132, 3) := dc_180 (a := 0) (b := 132) (by decide +kernel)
theorem dX12_lineUp_125 : decode cX12_lineUp 125 = .ok (.aload_n 0, 1) := dc_42 (by decide +kernel)
theorem dX12_lineUp_126 : decode cX12_lineUp 126 = .ok (.getfield 319, 3) := dc_180 (a := 1) (b := 63) (by decide +kernel)
theorem dX12_lineUp_129 : decode cX12_lineUp 129 = .ok (.iload_n 2, 1) := dc_28 (by decide +kernel)
theorem dX12_lineUp_130 : decode cX12_lineUp 130 = .ok (.iastore, 1) := dc_79 (by decide +kernel)
theorem dX12_lineUp_131 : decode cX12_lineUp 131 = .ok (.aload_n 0, 1) := dc_42 (by decide +kernel)
theorem dX12_lineUp_132 : decode cX12_lineUp 132 = .ok (.dup, 1) := dc_89 (by decide +kernel)
theorem dX12_lineUp_133 : decode cX12_lineUp 133 = .ok (.getfield 319, 3) := dc_180 (a := 1) (b := 63) (by decide +kernel)
theorem dX12_lineUp_136 : decode cX12_lineUp 136 = .ok (.iconst 1, 1) := dc_4 (by decide +kernel)
theorem dX12_lineUp_137 : decode cX12_lineUp 137 = .ok (.iadd, 1) := dc_96 (by decide +kernel)
theorem dX12_lineUp_138 : decode cX12_lineUp 138 = .ok (.putfield 319, 3) := dc_181 (a := 1) (b := 63) (by decide +kernel)
theorem dX12_lineUp_141 : decode cX12_lineUp 141 = .ok (.goto (-60), 3) := dc_167 (a := 255) (b := 196) (by decide +kernel) (by decide)
theorem dX12_lineUp_144 : decode cX12_lineUp 144 = .ok (.aload_n 0, 1) := dc_42 (by decide +kernel)
theorem dX12_lineUp_145 : decode cX12_lineUp 145 = .ok (.iload_n 3, 1) := dc_29 (by decide +kernel)
theorem dX12_lineUp_146 : decode cX12_lineUp 146 = .ok (.putfield 322, 3) := dc_181 (a := 1) (b := 66) (by decide +kernel)
theorem dX12_lineUp_149 : decode cX12_lineUp 149 = .ok (.return_, 1) := dc_177 (by decide +kernel)
set_option maxRecDepth 100000 in
set_option maxHeartbeats 4000000 in
theorem w_M_lineUp_L81 {p : Program} {l : Launch} {e : Env} {R : Room} {s : State} {m : MethodId} {args : Array Value} {below : List Frame} {meth : Method} {c : Code} {dC : Nat → ClassId} {dI : Nat → Nat → Nat} {cs : Nat → ClassId} {ad : Nat → Nat} {A : Nat → Prop} {D0 : Nat → Nat} {S' : SS} (F : Fx p s m args meth c cX12_lineUp 5 RX12 none dC dI cs A) (hR1 : 1 ≤ R.frames) (hR2 : 22 ≤ R.locals) : ∀ (n : Nat) (x2 : Int32) (x3 : Int32) (S : SS), f_M_lineUp_L81 n x2 x3 S = some S' → AW p l e R s m args below meth c dC dI cs ad A D0 none S' 5 81 [(0, .ref (ad 0)), (2, .int x2), (3, .int x3)] [] S := by
  have hx := F.1.1
  have hb := F.1.2.1
  intro n
  induction n with
  | zero => intro x2 x3 S h; cases h
  | succ n ih =>
    intro x2 x3 S h H locs ls w hl
    rw [f_M_lineUp_L81] at h
    refine lv_aload_n (pc := 81) hx hb dX12_lineUp_81 rfl (lv_at hl 0 rfl) ?_
    refine s_getR (pc := 82) F w 23 ds_0 (j := 35) vc_X12 vi_X12 rfl (by decide) kf_X12_84 dX12_lineUp_82 ?_
    refine lv_iconst (pc := 85) (v := 2) hx hb dX12_lineUp_85 (by decide) ?_
    refine lv_iload_n (pc := 86) hx hb dX12_lineUp_86 rfl (lv_at hl 1 rfl) ?_
    refine lv_imul (pc := 87) hx hb dX12_lineUp_87 ?_
    refine lv_iload_n (pc := 88) hx hb dX12_lineUp_88 rfl (lv_at hl 2 rfl) ?_
    refine lv_iadd (pc := 89) hx hb dX12_lineUp_89 ?_
    refine s_iald (pc := 90) F w ds_23 h dX12_lineUp_90 (fun h => ?_)
    refine lv_bipush (pc := 91) (v := -4) hx hb dX12_lineUp_91 (by decide) ?_
    refine lv_icmp_eq (pc := 93) (tgt := 144) hx hb dX12_lineUp_93 (by decide) (fun q => ?_) (fun q => ?_)
    · have h := ite_t q h
      refine lv_aload_n (pc := 144) hx hb dX12_lineUp_144 rfl (lv_at hl 0 rfl) ?_
      refine lv_iload_n (pc := 145) hx hb dX12_lineUp_145 rfl (lv_at hl 2 rfl) ?_
      refine s_putI (pc := 146) F w ds_0 vc_X12 vi_X12 tyX12_ok nmX12 (j := 58) rfl (by decide) kf_X12_322 rfl pd_I h dX12_lineUp_146 (fun S6 H locs h w => ?_)
      exact s_vret F w h dX12_lineUp_149
    · have h := ite_f q h
      refine lv_aload_n (pc := 96) hx hb dX12_lineUp_96 rfl (lv_at hl 0 rfl) ?_
      refine s_getR (pc := 97) F w 23 ds_0 (j := 35) vc_X12 vi_X12 rfl (by decide) kf_X12_84 dX12_lineUp_97 ?_
      refine lv_iconst (pc := 100) (v := 2) hx hb dX12_lineUp_100 (by decide) ?_
      refine lv_iload_n (pc := 101) hx hb dX12_lineUp_101 rfl (lv_at hl 1 rfl) ?_
      refine lv_imul (pc := 102) hx hb dX12_lineUp_102 ?_
      refine lv_iload_n (pc := 103) hx hb dX12_lineUp_103 rfl (lv_at hl 2 rfl) ?_
      refine lv_iadd (pc := 104) hx hb dX12_lineUp_104 ?_
      refine s_iald (pc := 105) F w ds_23 h dX12_lineUp_105 (fun h => ?_)
      refine s_nm h (fun z7 ez7 h => ?_)
      rw [← ez7]
      refine lv_istore (pc := 106) (lv' := [(4, .int z7), (0, .ref (ad 0)), (2, .int x2), (3, .int x3)]) hx hb dX12_lineUp_106 hl (by decide) rfl (fun ls hl => ?_)
      refine lv_iconst (pc := 108) (v := 1) hx hb dX12_lineUp_108 (by decide) ?_
      refine lv_aload_n (pc := 109) hx hb dX12_lineUp_109 rfl (lv_at hl 1 rfl) ?_
      refine lv_iload (pc := 110) hx hb dX12_lineUp_110 (lv_at hl 0 rfl) ?_
      refine lv_iload_n (pc := 112) hx hb dX12_lineUp_112 rfl (lv_at hl 2 rfl) ?_
      obtain ⟨r9, S8, hc, h⟩ := bnd_t h
      refine s_cvi (pc := 113) [.int z7, .int x2] (fun ad => [.ref (ad 0), .int z7, .int x2]) F w (m_M_sideTo _ _ _ _ _ hc) rfl rfl hl.1 ds_0 vc_X12 rfl ok_X12_sideTo rfl kc_X12_sideTo kl_X12_313 ki_X12_sideTo kv_X12_sideTo kn_X12 ⟨Nat.le_trans (by decide) hR1, Nat.le_trans (by decide) hR2⟩ ⟨Nat.zero_le _, Nat.zero_le _⟩ (Nat.le_of_ble_eq_true rfl) dX12_lineUp_113 (fun H locs w => ?_)
      refine lv_isub (pc := 116) hx hb dX12_lineUp_116 ?_
      refine s_nm h (fun z10 ez10 h => ?_)
      rw [← ez10]
      refine lv_istore_n (pc := 117) (lv' := [(3, .int z10), (4, .int z7), (0, .ref (ad 0)), (2, .int x2)]) hx hb dX12_lineUp_117 rfl hl (by decide) rfl (fun ls hl => ?_)
      refine lv_iload (pc := 118) hx hb dX12_lineUp_118 (lv_at hl 1 rfl) ?_
      refine lv_istore_n (pc := 120) (lv' := [(2, .int z7), (3, .int z10), (4, .int z7), (0, .ref (ad 0))]) hx hb dX12_lineUp_120 rfl hl (by decide) rfl (fun ls hl => ?_)
      refine lv_aload_n (pc := 121) hx hb dX12_lineUp_121 rfl (lv_at hl 3 rfl) ?_
      refine s_getR (pc := 122) F w 39 ds_0 (j := 55) vc_X12 vi_X12 rfl (by decide) kf_X12_132 dX12_lineUp_122 ?_
      refine lv_aload_n (pc := 125) hx hb dX12_lineUp_125 rfl (lv_at hl 3 rfl) ?_
      refine s_getI (pc := 126) F w ds_0 (j := 56) vc_X12 vi_X12 rfl (by decide) kf_X12_319 dX12_lineUp_126 ?_
      refine lv_iload_n (pc := 129) hx hb dX12_lineUp_129 rfl (lv_at hl 0 rfl) ?_
      refine s_iast (pc := 130) F w ds_39 h dX12_lineUp_130 (fun S11 H locs h w => ?_)
      refine lv_aload_n (pc := 131) hx hb dX12_lineUp_131 rfl (lv_at hl 3 rfl) ?_
      refine lv_dup (pc := 132) hx hb dX12_lineUp_132 rfl ?_
      refine s_getI (pc := 133) F w ds_0 (j := 56) vc_X12 vi_X12 rfl (by decide) kf_X12_319 dX12_lineUp_133 ?_
      refine lv_iconst (pc := 136) (v := 1) hx hb dX12_lineUp_136 (by decide) ?_
      refine lv_iadd (pc := 137) hx hb dX12_lineUp_137 ?_
      refine s_putI (pc := 138) F w ds_0 vc_X12 vi_X12 tyX12_ok nmX12 (j := 56) rfl (by decide) kf_X12_319 rfl pd_I h dX12_lineUp_138 (fun S12 H locs h w => ?_)
      refine lv_goto (pc := 141) (tgt := 81) hx hb dX12_lineUp_141 (by decide) ?_
      exact ih _ _ _ h _ _ _ w (lv_sub hl [3, 0, 1] rfl)
set_option maxRecDepth 100000 in
set_option maxHeartbeats 4000000 in
theorem w_M_lineUp_L4 {p : Program} {l : Launch} {e : Env} {R : Room} {s : State} {m : MethodId} {args : Array Value} {below : List Frame} {meth : Method} {c : Code} {dC : Nat → ClassId} {dI : Nat → Nat → Nat} {cs : Nat → ClassId} {ad : Nat → Nat} {A : Nat → Prop} {D0 : Nat → Nat} {S' : SS} (F : Fx p s m args meth c cX12_lineUp 5 RX12 none dC dI cs A) (hR1 : 1 ≤ R.frames) (hR2 : 22 ≤ R.locals) : ∀ (n : Nat) (x2 : Int32) (x3 : Int32) (S : SS), f_M_lineUp_L4 n x2 x3 S = some S' → AW p l e R s m args below meth c dC dI cs ad A D0 none S' 5 4 [(0, .ref (ad 0)), (2, .int x2), (3, .int x3)] [] S := by
  have hx := F.1.1
  have hb := F.1.2.1
  intro n
  induction n with
  | zero => intro x2 x3 S h; cases h
  | succ n ih =>
    intro x2 x3 S h H locs ls w hl
    rw [f_M_lineUp_L4] at h
    refine lv_aload_n (pc := 4) hx hb dX12_lineUp_4 rfl (lv_at hl 0 rfl) ?_
    refine s_getR (pc := 5) F w 23 ds_0 (j := 35) vc_X12 vi_X12 rfl (by decide) kf_X12_84 dX12_lineUp_5 ?_
    refine lv_iconst (pc := 8) (v := 2) hx hb dX12_lineUp_8 (by decide) ?_
    refine lv_iload_n (pc := 9) hx hb dX12_lineUp_9 rfl (lv_at hl 1 rfl) ?_
    refine lv_imul (pc := 10) hx hb dX12_lineUp_10 ?_
    refine lv_iload_n (pc := 11) hx hb dX12_lineUp_11 rfl (lv_at hl 2 rfl) ?_
    refine lv_iadd (pc := 12) hx hb dX12_lineUp_12 ?_
    refine s_iald (pc := 13) F w ds_23 h dX12_lineUp_13 (fun h => ?_)
    refine lv_bipush (pc := 14) (v := -4) hx hb dX12_lineUp_14 (by decide) ?_
    refine lv_icmp_eq (pc := 16) (tgt := 47) hx hb dX12_lineUp_16 (by decide) (fun q => ?_) (fun q => ?_)
    · have h := ite_t q h
      refine lv_aload_n (pc := 47) hx hb dX12_lineUp_47 rfl (lv_at hl 0 rfl) ?_
      refine lv_iload_n (pc := 48) hx hb dX12_lineUp_48 rfl (lv_at hl 2 rfl) ?_
      refine s_putI (pc := 49) F w ds_0 vc_X12 vi_X12 tyX12_ok nmX12 (j := 57) rfl (by decide) kf_X12_316 rfl pd_I h dX12_lineUp_49 (fun S1 H locs h w => ?_)
      refine lv_aload_n (pc := 52) hx hb dX12_lineUp_52 rfl (lv_at hl 0 rfl) ?_
      refine lv_iconst (pc := 53) (v := 0) hx hb dX12_lineUp_53 (by decide) ?_
      refine s_putI (pc := 54) F w ds_0 vc_X12 vi_X12 tyX12_ok nmX12 (j := 56) rfl (by decide) kf_X12_319 rfl pd_I h dX12_lineUp_54 (fun S2 H locs h w => ?_)
      refine lv_iconst (pc := 57) (v := 1) hx hb dX12_lineUp_57 (by decide) ?_
      refine lv_iload_n (pc := 58) hx hb dX12_lineUp_58 rfl (lv_at hl 2 rfl) ?_
      refine lv_isub (pc := 59) hx hb dX12_lineUp_59 ?_
      refine s_nm h (fun z3 ez3 h => ?_)
      rw [← ez3]
      refine lv_istore_n (pc := 60) (lv' := [(3, .int z3), (0, .ref (ad 0)), (2, .int x2)]) hx hb dX12_lineUp_60 rfl hl (by decide) rfl (fun ls hl => ?_)
      refine lv_aload_n (pc := 61) hx hb dX12_lineUp_61 rfl (lv_at hl 1 rfl) ?_
      refine s_getR (pc := 62) F w 39 ds_0 (j := 55) vc_X12 vi_X12 rfl (by decide) kf_X12_132 dX12_lineUp_62 ?_
      refine lv_aload_n (pc := 65) hx hb dX12_lineUp_65 rfl (lv_at hl 1 rfl) ?_
      refine s_getI (pc := 66) F w ds_0 (j := 56) vc_X12 vi_X12 rfl (by decide) kf_X12_319 dX12_lineUp_66 ?_
      refine lv_iload_n (pc := 69) hx hb dX12_lineUp_69 rfl (lv_at hl 2 rfl) ?_
      refine s_iast (pc := 70) F w ds_39 h dX12_lineUp_70 (fun S4 H locs h w => ?_)
      refine lv_aload_n (pc := 71) hx hb dX12_lineUp_71 rfl (lv_at hl 1 rfl) ?_
      refine lv_dup (pc := 72) hx hb dX12_lineUp_72 rfl ?_
      refine s_getI (pc := 73) F w ds_0 (j := 56) vc_X12 vi_X12 rfl (by decide) kf_X12_319 dX12_lineUp_73 ?_
      refine lv_iconst (pc := 76) (v := 1) hx hb dX12_lineUp_76 (by decide) ?_
      refine lv_iadd (pc := 77) hx hb dX12_lineUp_77 ?_
      refine s_putI (pc := 78) F w ds_0 vc_X12 vi_X12 tyX12_ok nmX12 (j := 56) rfl (by decide) kf_X12_319 rfl pd_I h dX12_lineUp_78 (fun S5 H locs h w => ?_)
      exact w_M_lineUp_L81 F (Nat.le_trans (by decide) hR1) (Nat.le_trans (by decide) hR2) _ _ _ _ h _ _ _ w (lv_sub hl [1, 2, 0] rfl)
    · have h := ite_f q h
      refine lv_aload_n (pc := 19) hx hb dX12_lineUp_19 rfl (lv_at hl 0 rfl) ?_
      refine s_getR (pc := 20) F w 23 ds_0 (j := 35) vc_X12 vi_X12 rfl (by decide) kf_X12_84 dX12_lineUp_20 ?_
      refine lv_iconst (pc := 23) (v := 2) hx hb dX12_lineUp_23 (by decide) ?_
      refine lv_iload_n (pc := 24) hx hb dX12_lineUp_24 rfl (lv_at hl 1 rfl) ?_
      refine lv_imul (pc := 25) hx hb dX12_lineUp_25 ?_
      refine lv_iload_n (pc := 26) hx hb dX12_lineUp_26 rfl (lv_at hl 2 rfl) ?_
      refine lv_iadd (pc := 27) hx hb dX12_lineUp_27 ?_
      refine s_iald (pc := 28) F w ds_23 h dX12_lineUp_28 (fun h => ?_)
      refine s_nm h (fun z13 ez13 h => ?_)
      rw [← ez13]
      refine lv_istore (pc := 29) (lv' := [(4, .int z13), (0, .ref (ad 0)), (2, .int x2), (3, .int x3)]) hx hb dX12_lineUp_29 hl (by decide) rfl (fun ls hl => ?_)
      refine lv_iconst (pc := 31) (v := 1) hx hb dX12_lineUp_31 (by decide) ?_
      refine lv_aload_n (pc := 32) hx hb dX12_lineUp_32 rfl (lv_at hl 1 rfl) ?_
      refine lv_iload (pc := 33) hx hb dX12_lineUp_33 (lv_at hl 0 rfl) ?_
      refine lv_iload_n (pc := 35) hx hb dX12_lineUp_35 rfl (lv_at hl 2 rfl) ?_
      obtain ⟨r15, S14, hc, h⟩ := bnd_t h
      refine s_cvi (pc := 36) [.int z13, .int x2] (fun ad => [.ref (ad 0), .int z13, .int x2]) F w (m_M_sideTo _ _ _ _ _ hc) rfl rfl hl.1 ds_0 vc_X12 rfl ok_X12_sideTo rfl kc_X12_sideTo kl_X12_313 ki_X12_sideTo kv_X12_sideTo kn_X12 ⟨Nat.le_trans (by decide) hR1, Nat.le_trans (by decide) hR2⟩ ⟨Nat.zero_le _, Nat.zero_le _⟩ (Nat.le_of_ble_eq_true rfl) dX12_lineUp_36 (fun H locs w => ?_)
      refine lv_isub (pc := 39) hx hb dX12_lineUp_39 ?_
      refine s_nm h (fun z16 ez16 h => ?_)
      rw [← ez16]
      refine lv_istore_n (pc := 40) (lv' := [(3, .int z16), (4, .int z13), (0, .ref (ad 0)), (2, .int x2)]) hx hb dX12_lineUp_40 rfl hl (by decide) rfl (fun ls hl => ?_)
      refine lv_iload (pc := 41) hx hb dX12_lineUp_41 (lv_at hl 1 rfl) ?_
      refine lv_istore_n (pc := 43) (lv' := [(2, .int z13), (3, .int z16), (4, .int z13), (0, .ref (ad 0))]) hx hb dX12_lineUp_43 rfl hl (by decide) rfl (fun ls hl => ?_)
      refine lv_goto (pc := 44) (tgt := 4) hx hb dX12_lineUp_44 (by decide) ?_
      exact ih _ _ _ h _ _ _ w (lv_sub hl [3, 0, 1] rfl)
set_option maxRecDepth 100000 in
set_option maxHeartbeats 4000000 in
theorem m_M_lineUp (a1 : Int32) (S S' : SS) (h : f_M_lineUp a1 S = some S') : MT yX12_lineUp cX12_lineUp 5 none 1 22 (fun ad => [.ref (ad 0), .int a1]) S none S' := by
  refine MT.of RX12 (fun ad => [(0, .ref (ad 0)), (1, .int a1)]) (by decide) rfl (fun _ => Nat.le_of_ble_eq_true rfl) (fun _ => rfl) ?_
  intro p l e R s m args below meth c dC dI cs ad A hR1 hR2 F H locs ls w hl
  have hx := F.1.1
  have hb := F.1.2.1
  rw [f_M_lineUp] at h
  refine lv_iload_n (pc := 0) hx hb dX12_lineUp_0 rfl (lv_at hl 1 rfl) ?_
  refine lv_istore_n (pc := 1) (lv' := [(2, .int a1), (0, .ref (ad 0)), (1, .int a1)]) hx hb dX12_lineUp_1 rfl hl (by decide) rfl (fun ls hl => ?_)
  refine lv_iconst (pc := 2) (v := 0) hx hb dX12_lineUp_2 (by decide) ?_
  refine lv_istore_n (pc := 3) (lv' := [(3, .int (0 : Int32)), (2, .int a1), (0, .ref (ad 0)), (1, .int a1)]) hx hb dX12_lineUp_3 rfl hl (by decide) rfl (fun ls hl => ?_)
  exact w_M_lineUp_L4 F (Nat.le_trans (by decide) hR1) (Nat.le_trans (by decide) hR2) _ _ _ _ h _ _ _ w (lv_sub hl [2, 1, 0] rfl)
def f_M_areTogether_j39 (K10 : Int32 → Int32 → Int32 → SS → Option (Int32 × SS)) (x2 : Int32) (x4 : Int32) (y0 : Int32) (S : SS) : Option (Int32 × SS) :=
    nm (x4 + (1 : Int32)) (fun z2 =>
    K10 x2 y0 z2 S)
def f_M_areTogether_j34 (K10 : Int32 → Int32 → Int32 → SS → Option (Int32 × SS)) (x2 : Int32) (x4 : Int32) (S : SS) : Option (Int32 × SS) :=
    f_M_areTogether_j39 K10 x2 x4 (1 : Int32) S
def f_M_areTogether_L10  : Nat → Int32 → Int32 → Int32 → SS → Option (Int32 × SS)
  | 0, _, _, _, _ => none
  | n + 1, x2, x3, x4, S =>
    if (S.1 0 56) ≤ x4 then
      grd (isB x3) (some (x3, S))
    else
      if x3 = 0 then
        grd (inb x4 72) (
        if (S.1 39 x4.toNatClampNeg) = x2 then
          f_M_areTogether_j34 (fun v0 v1 v2 S => f_M_areTogether_L10 n v0 v1 v2 S) x2 x4 S
        else
          f_M_areTogether_j39 (fun v0 v1 v2 S => f_M_areTogether_L10 n v0 v1 v2 S) x2 x4 (0 : Int32) S)
      else
        f_M_areTogether_j34 (fun v0 v1 v2 S => f_M_areTogether_L10 n v0 v1 v2 S) x2 x4 S
def f_M_areTogether (a1 : Int32) (a2 : Int32) (S : SS) : Option (Int32 × SS) :=
  bndv (f_M_lineUp a1 S) (fun S1 =>
  f_M_areTogether_L10 NF a2 (0 : Int32) (0 : Int32) S1)
theorem dX12_areTogether_0 : decode cX12_areTogether 0 = .ok (.aload_n 0, 1) := dc_42 (by decide +kernel)
theorem dX12_areTogether_1 : decode cX12_areTogether 1 = .ok (.iload_n 1, 1) := dc_27 (by decide +kernel)
theorem dX12_areTogether_2 : decode cX12_areTogether 2 = .ok (.invokevirtual 325, 3) := dc_182 (a := 1) (b := 69) (by decide +kernel)
theorem dX12_areTogether_5 : decode cX12_areTogether 5 = .ok (.iconst 0, 1) := dc_3 (by decide +kernel)
theorem dX12_areTogether_6 : decode cX12_areTogether 6 = .ok (.istore_n 3, 1) := dc_62 (by decide +kernel)
theorem dX12_areTogether_7 : decode cX12_areTogether 7 = .ok (.iconst 0, 1) := dc_3 (by decide +kernel)
theorem dX12_areTogether_8 : decode cX12_areTogether 8 = .ok (.istore 4, 2) := dc_54 (a := 4) (by decide +kernel)
theorem dX12_areTogether_10 : decode cX12_areTogether 10 = .ok (.iload 4, 2) := dc_21 (a := 4) (by decide +kernel)
theorem dX12_areTogether_12 : decode cX12_areTogether 12 = .ok (.aload_n 0, 1) := dc_42 (by decide +kernel)
theorem dX12_areTogether_13 : decode cX12_areTogether 13 = .ok (.getfield 319, 3) := dc_180 (a := 1) (b := 63) (by decide +kernel)
theorem dX12_areTogether_16 : decode cX12_areTogether 16 = .ok (.if_icmp .ge 30, 3) := dc_162 (a := 0) (b := 30) (by decide +kernel) (by decide)
theorem dX12_areTogether_19 : decode cX12_areTogether 19 = .ok (.iload_n 3, 1) := dc_29 (by decide +kernel)
theorem dX12_areTogether_20 : decode cX12_areTogether 20 = .ok (.ifCond .ne 14, 3) := dc_154 (a := 0) (b := 14) (by decide +kernel) (by decide)
theorem dX12_areTogether_23 : decode cX12_areTogether 23 = .ok (.aload_n 0, 1) := dc_42 (by decide +kernel)
theorem dX12_areTogether_24 : decode cX12_areTogether 24 = .ok (.getfield 132, 3) := dc_180 (a := 0) (b := 132) (by decide +kernel)
theorem dX12_areTogether_27 : decode cX12_areTogether 27 = .ok (.iload 4, 2) := dc_21 (a := 4) (by decide +kernel)
theorem dX12_areTogether_29 : decode cX12_areTogether 29 = .ok (.iaload, 1) := dc_46 (by decide +kernel)
theorem dX12_areTogether_30 : decode cX12_areTogether 30 = .ok (.iload_n 2, 1) := dc_28 (by decide +kernel)
theorem dX12_areTogether_31 : decode cX12_areTogether 31 = .ok (.if_icmp .ne 7, 3) := dc_160 (a := 0) (b := 7) (by decide +kernel) (by decide)
theorem dX12_areTogether_34 : decode cX12_areTogether 34 = .ok (.iconst 1, 1) := dc_4 (by decide +kernel)
theorem dX12_areTogether_35 : decode cX12_areTogether 35 = .ok (.goto 4, 3) := dc_167 (a := 0) (b := 4) (by decide +kernel) (by decide)
theorem dX12_areTogether_38 : decode cX12_areTogether 38 = .ok (.iconst 0, 1) := dc_3 (by decide +kernel)
theorem dX12_areTogether_39 : decode cX12_areTogether 39 = .ok (.istore_n 3, 1) := dc_62 (by decide +kernel)
theorem dX12_areTogether_40 : decode cX12_areTogether 40 = .ok (.iinc 4 1, 3) := dc_132 (a := 4) (b := 1) (by decide +kernel) (by decide)
theorem dX12_areTogether_43 : decode cX12_areTogether 43 = .ok (.goto (-33), 3) := dc_167 (a := 255) (b := 223) (by decide +kernel) (by decide)
theorem dX12_areTogether_46 : decode cX12_areTogether 46 = .ok (.iload_n 3, 1) := dc_29 (by decide +kernel)
theorem dX12_areTogether_47 : decode cX12_areTogether 47 = .ok (.ireturn, 1) := dc_172 (by decide +kernel)
set_option maxRecDepth 100000 in
set_option maxHeartbeats 4000000 in
theorem w_M_areTogether_j39 {p : Program} {l : Launch} {e : Env} {R : Room} {s : State} {m : MethodId} {args : Array Value} {below : List Frame} {meth : Method} {c : Code} {dC : Nat → ClassId} {dI : Nat → Nat → Nat} {cs : Nat → ClassId} {ad : Nat → Nat} {A : Nat → Prop} {D0 : Nat → Nat} {S' : SS} {r : Int32} (F : Fx p s m args meth c cX12_areTogether 5 RX12 (some .boolean) dC dI cs A) (hR1 : 0 ≤ R.frames) (hR2 : 0 ≤ R.locals) (K10 : Int32 → Int32 → Int32 → SS → Option (Int32 × SS)) (hK10 : ∀ (v0 : Int32) (v1 : Int32) (v2 : Int32) (S : SS), K10 v0 v1 v2 S = some (r, S') → AW p l e R s m args below meth c dC dI cs ad A D0 (some (.int r)) S' 5 10 [(0, .ref (ad 0)), (2, .int v0), (3, .int v1), (4, .int v2)] [] S) (x2 : Int32) (x4 : Int32) (y0 : Int32) (S : SS) (h : f_M_areTogether_j39 K10 x2 x4 y0 S = some (r, S')) : AW p l e R s m args below meth c dC dI cs ad A D0 (some (.int r)) S' 5 39 [(0, .ref (ad 0)), (2, .int x2), (4, .int x4)] [.int y0] S := by
  have hx := F.1.1
  have hb := F.1.2.1
  intro H locs ls w hl
  rw [f_M_areTogether_j39] at h
  refine lv_istore_n (pc := 39) (lv' := [(3, .int y0), (0, .ref (ad 0)), (2, .int x2), (4, .int x4)]) hx hb dX12_areTogether_39 rfl hl (by decide) rfl (fun ls hl => ?_)
  refine s_nm h (fun z2 ez2 h => ?_)
  refine lv_iinc (pc := 40) (v := z2) (lv' := [(4, .int z2), (3, .int y0), (0, .ref (ad 0)), (2, .int x2)]) hx hb dX12_areTogether_40 hl (k := 3) rfl (by rw [ez2]; rfl) (by decide) rfl (fun ls hl => ?_)
  refine lv_goto (pc := 43) (tgt := 10) hx hb dX12_areTogether_43 (by decide) ?_
  exact hK10 _ _ _ _ h _ _ _ w (lv_sub hl [2, 3, 1, 0] rfl)
set_option maxRecDepth 100000 in
set_option maxHeartbeats 4000000 in
theorem w_M_areTogether_j34 {p : Program} {l : Launch} {e : Env} {R : Room} {s : State} {m : MethodId} {args : Array Value} {below : List Frame} {meth : Method} {c : Code} {dC : Nat → ClassId} {dI : Nat → Nat → Nat} {cs : Nat → ClassId} {ad : Nat → Nat} {A : Nat → Prop} {D0 : Nat → Nat} {S' : SS} {r : Int32} (F : Fx p s m args meth c cX12_areTogether 5 RX12 (some .boolean) dC dI cs A) (hR1 : 0 ≤ R.frames) (hR2 : 0 ≤ R.locals) (K10 : Int32 → Int32 → Int32 → SS → Option (Int32 × SS)) (hK10 : ∀ (v0 : Int32) (v1 : Int32) (v2 : Int32) (S : SS), K10 v0 v1 v2 S = some (r, S') → AW p l e R s m args below meth c dC dI cs ad A D0 (some (.int r)) S' 5 10 [(0, .ref (ad 0)), (2, .int v0), (3, .int v1), (4, .int v2)] [] S) (x2 : Int32) (x4 : Int32) (S : SS) (h : f_M_areTogether_j34 K10 x2 x4 S = some (r, S')) : AW p l e R s m args below meth c dC dI cs ad A D0 (some (.int r)) S' 5 34 [(0, .ref (ad 0)), (2, .int x2), (4, .int x4)] [] S := by
  have hx := F.1.1
  have hb := F.1.2.1
  intro H locs ls w hl
  rw [f_M_areTogether_j34] at h
  refine lv_iconst (pc := 34) (v := 1) hx hb dX12_areTogether_34 (by decide) ?_
  refine lv_goto (pc := 35) (tgt := 39) hx hb dX12_areTogether_35 (by decide) ?_
  exact w_M_areTogether_j39 F (Nat.le_trans (by decide) hR1) (Nat.le_trans (by decide) hR2) _ hK10 _ _ _ _ h _ _ _ w (lv_sub hl [0, 1, 2] rfl)
set_option maxRecDepth 100000 in
set_option maxHeartbeats 4000000 in
theorem w_M_areTogether_L10 {p : Program} {l : Launch} {e : Env} {R : Room} {s : State} {m : MethodId} {args : Array Value} {below : List Frame} {meth : Method} {c : Code} {dC : Nat → ClassId} {dI : Nat → Nat → Nat} {cs : Nat → ClassId} {ad : Nat → Nat} {A : Nat → Prop} {D0 : Nat → Nat} {S' : SS} {r : Int32} (F : Fx p s m args meth c cX12_areTogether 5 RX12 (some .boolean) dC dI cs A) (hR1 : 0 ≤ R.frames) (hR2 : 0 ≤ R.locals) : ∀ (n : Nat) (x2 : Int32) (x3 : Int32) (x4 : Int32) (S : SS), f_M_areTogether_L10 n x2 x3 x4 S = some (r, S') → AW p l e R s m args below meth c dC dI cs ad A D0 (some (.int r)) S' 5 10 [(0, .ref (ad 0)), (2, .int x2), (3, .int x3), (4, .int x4)] [] S := by
  have hx := F.1.1
  have hb := F.1.2.1
  intro n
  induction n with
  | zero => intro x2 x3 x4 S h; cases h
  | succ n ih =>
    intro x2 x3 x4 S h H locs ls w hl
    rw [f_M_areTogether_L10] at h
    refine lv_iload (pc := 10) hx hb dX12_areTogether_10 (lv_at hl 3 rfl) ?_
    refine lv_aload_n (pc := 12) hx hb dX12_areTogether_12 rfl (lv_at hl 0 rfl) ?_
    refine s_getI (pc := 13) F w ds_0 (j := 56) vc_X12 vi_X12 rfl (by decide) kf_X12_319 dX12_areTogether_13 ?_
    refine lv_icmp_ge (pc := 16) (tgt := 46) hx hb dX12_areTogether_16 (by decide) (fun q => ?_) (fun q => ?_)
    · have h := ite_t q h
      refine lv_iload_n (pc := 46) hx hb dX12_areTogether_46 rfl (lv_at hl 2 rfl) ?_
      exact s_zret F w h dX12_areTogether_47
    · have h := ite_f q h
      refine lv_iload_n (pc := 19) hx hb dX12_areTogether_19 rfl (lv_at hl 2 rfl) ?_
      refine lv_if_ne (pc := 20) (tgt := 34) hx hb dX12_areTogether_20 (by decide) (fun q => ?_) (fun q => ?_)
      · have h := ite_f q h
        exact w_M_areTogether_j34 F (Nat.le_trans (by decide) hR1) (Nat.le_trans (by decide) hR2) _ (fun v0 v1 v2 S h => ih v0 v1 v2 S h) _ _ _ h _ _ _ w (lv_sub hl [0, 1, 3] rfl)
      · have h := ite_t q h
        refine lv_aload_n (pc := 23) hx hb dX12_areTogether_23 rfl (lv_at hl 0 rfl) ?_
        refine s_getR (pc := 24) F w 39 ds_0 (j := 55) vc_X12 vi_X12 rfl (by decide) kf_X12_132 dX12_areTogether_24 ?_
        refine lv_iload (pc := 27) hx hb dX12_areTogether_27 (lv_at hl 3 rfl) ?_
        refine s_iald (pc := 29) F w ds_39 h dX12_areTogether_29 (fun h => ?_)
        refine lv_iload_n (pc := 30) hx hb dX12_areTogether_30 rfl (lv_at hl 1 rfl) ?_
        refine lv_icmp_ne (pc := 31) (tgt := 38) hx hb dX12_areTogether_31 (by decide) (fun q => ?_) (fun q => ?_)
        · have h := ite_f q h
          refine lv_iconst (pc := 38) (v := 0) hx hb dX12_areTogether_38 (by decide) ?_
          exact w_M_areTogether_j39 F (Nat.le_trans (by decide) hR1) (Nat.le_trans (by decide) hR2) _ (fun v0 v1 v2 S h => ih v0 v1 v2 S h) _ _ _ _ h _ _ _ w (lv_sub hl [0, 1, 3] rfl)
        · have h := ite_t q h
          exact w_M_areTogether_j34 F (Nat.le_trans (by decide) hR1) (Nat.le_trans (by decide) hR2) _ (fun v0 v1 v2 S h => ih v0 v1 v2 S h) _ _ _ h _ _ _ w (lv_sub hl [0, 1, 3] rfl)
set_option maxRecDepth 100000 in
set_option maxHeartbeats 4000000 in
theorem m_M_areTogether (a1 : Int32) (a2 : Int32) (S S' : SS) (r : Int32) (h : f_M_areTogether a1 a2 S = some (r, S')) : MT yX12_areTogether cX12_areTogether 5 (some .boolean) 2 46 (fun ad => [.ref (ad 0), .int a1, .int a2]) S (some (.int r)) S' := by
  refine MT.of RX12 (fun ad => [(0, .ref (ad 0)), (1, .int a1), (2, .int a2)]) (by decide) rfl (fun _ => Nat.le_of_ble_eq_true rfl) (fun _ => rfl) ?_
  intro p l e R s m args below meth c dC dI cs ad A hR1 hR2 F H locs ls w hl
  have hx := F.1.1
  have hb := F.1.2.1
  rw [f_M_areTogether] at h
  refine lv_aload_n (pc := 0) hx hb dX12_areTogether_0 rfl (lv_at hl 0 rfl) ?_
  refine lv_iload_n (pc := 1) hx hb dX12_areTogether_1 rfl (lv_at hl 1 rfl) ?_
  obtain ⟨S1, hc, h⟩ := bndv_t h
  refine s_cvv (pc := 2) [.int a1] (fun ad => [.ref (ad 0), .int a1]) F w (m_M_lineUp _ _ _ hc) rfl rfl hl.1 ds_0 vc_X12 rfl ok_X12_lineUp rfl kc_X12_lineUp kl_X12_325 ki_X12_lineUp kv_X12_lineUp kn_X12 ⟨Nat.le_trans (by decide) hR1, Nat.le_trans (by decide) hR2⟩ ⟨Nat.zero_le _, Nat.zero_le _⟩ (Nat.le_of_ble_eq_true rfl) dX12_areTogether_2 (fun H locs w => ?_)
  refine lv_iconst (pc := 5) (v := 0) hx hb dX12_areTogether_5 (by decide) ?_
  refine lv_istore_n (pc := 6) (lv' := [(3, .int (0 : Int32)), (0, .ref (ad 0)), (1, .int a1), (2, .int a2)]) hx hb dX12_areTogether_6 rfl hl (by decide) rfl (fun ls hl => ?_)
  refine lv_iconst (pc := 7) (v := 0) hx hb dX12_areTogether_7 (by decide) ?_
  refine lv_istore (pc := 8) (lv' := [(4, .int (0 : Int32)), (3, .int (0 : Int32)), (0, .ref (ad 0)), (1, .int a1), (2, .int a2)]) hx hb dX12_areTogether_8 hl (by decide) rfl (fun ls hl => ?_)
  exact w_M_areTogether_L10 F (Nat.le_trans (by decide) hR1) (Nat.le_trans (by decide) hR2) _ _ _ _ _ h _ _ _ w (lv_sub hl [2, 4, 1, 0] rfl)
def f_M_note (a1 : Int32) (S : SS) : Option (SS) :=
  if (200 : Int32) ≤ (S.1 0 5) then
    some S
  else
    grd (inb (S.1 0 5) 200) (wr S 2 (S.1 0 5).toNatClampNeg a1 (fun S1 =>
    wr S1 0 5 ((S1.1 0 5) + (1 : Int32)) (fun S2 =>
    some S2)))
theorem dX12_note_0 : decode cX12_note 0 = .ok (.aload_n 0, 1) := dc_42 (by decide +kernel)
theorem dX12_note_1 : decode cX12_note 1 = .ok (.getfield 207, 3) := dc_180 (a := 0) (b := 207) (by decide +kernel)
theorem dX12_note_4 : decode cX12_note 4 = .ok (.sipush 200, 3) := dc_17 (a := 0) (b := 200) (by decide +kernel) (by decide)
theorem dX12_note_7 : decode cX12_note 7 = .ok (.if_icmp .ge 23, 3) := dc_162 (a := 0) (b := 23) (by decide +kernel) (by decide)
theorem dX12_note_10 : decode cX12_note 10 = .ok (.aload_n 0, 1) := dc_42 (by decide +kernel)
theorem dX12_note_11 : decode cX12_note 11 = .ok (.getfield 20, 3) := dc_180 (a := 0) (b := 20) (by decide +kernel)
theorem dX12_note_14 : decode cX12_note 14 = .ok (.aload_n 0, 1) := dc_42 (by decide +kernel)
theorem dX12_note_15 : decode cX12_note 15 = .ok (.getfield 207, 3) := dc_180 (a := 0) (b := 207) (by decide +kernel)
theorem dX12_note_18 : decode cX12_note 18 = .ok (.iload_n 1, 1) := dc_27 (by decide +kernel)
theorem dX12_note_19 : decode cX12_note 19 = .ok (.iastore, 1) := dc_79 (by decide +kernel)
theorem dX12_note_20 : decode cX12_note 20 = .ok (.aload_n 0, 1) := dc_42 (by decide +kernel)
theorem dX12_note_21 : decode cX12_note 21 = .ok (.dup, 1) := dc_89 (by decide +kernel)
theorem dX12_note_22 : decode cX12_note 22 = .ok (.getfield 207, 3) := dc_180 (a := 0) (b := 207) (by decide +kernel)
theorem dX12_note_25 : decode cX12_note 25 = .ok (.iconst 1, 1) := dc_4 (by decide +kernel)
theorem dX12_note_26 : decode cX12_note 26 = .ok (.iadd, 1) := dc_96 (by decide +kernel)
theorem dX12_note_27 : decode cX12_note 27 = .ok (.putfield 207, 3) := dc_181 (a := 0) (b := 207) (by decide +kernel)
theorem dX12_note_30 : decode cX12_note 30 = .ok (.return_, 1) := dc_177 (by decide +kernel)
set_option maxRecDepth 100000 in
set_option maxHeartbeats 4000000 in
theorem m_M_note (a1 : Int32) (S S' : SS) (h : f_M_note a1 S = some S') : MT yX12_note cX12_note 2 none 0 0 (fun ad => [.ref (ad 0), .int a1]) S none S' := by
  refine MT.of RX12 (fun ad => [(0, .ref (ad 0)), (1, .int a1)]) (by decide) rfl (fun _ => Nat.le_of_ble_eq_true rfl) (fun _ => rfl) ?_
  intro p l e R s m args below meth c dC dI cs ad A hR1 hR2 F H locs ls w hl
  have hx := F.1.1
  have hb := F.1.2.1
  rw [f_M_note] at h
  refine lv_aload_n (pc := 0) hx hb dX12_note_0 rfl (lv_at hl 0 rfl) ?_
  refine s_getI (pc := 1) F w ds_0 (j := 5) vc_X12 vi_X12 rfl (by decide) kf_X12_207 dX12_note_1 ?_
  refine lv_sipush (pc := 4) (v := 200) hx hb dX12_note_4 (by decide) ?_
  refine lv_icmp_ge (pc := 7) (tgt := 30) hx hb dX12_note_7 (by decide) (fun q => ?_) (fun q => ?_)
  · have h := ite_t q h
    exact s_vret F w h dX12_note_30
  · have h := ite_f q h
    refine lv_aload_n (pc := 10) hx hb dX12_note_10 rfl (lv_at hl 0 rfl) ?_
    refine s_getR (pc := 11) F w 2 ds_0 (j := 6) vc_X12 vi_X12 rfl (by decide) kf_X12_20 dX12_note_11 ?_
    refine lv_aload_n (pc := 14) hx hb dX12_note_14 rfl (lv_at hl 0 rfl) ?_
    refine s_getI (pc := 15) F w ds_0 (j := 5) vc_X12 vi_X12 rfl (by decide) kf_X12_207 dX12_note_15 ?_
    refine lv_iload_n (pc := 18) hx hb dX12_note_18 rfl (lv_at hl 1 rfl) ?_
    refine s_iast (pc := 19) F w ds_2 h dX12_note_19 (fun S1 H locs h w => ?_)
    refine lv_aload_n (pc := 20) hx hb dX12_note_20 rfl (lv_at hl 0 rfl) ?_
    refine lv_dup (pc := 21) hx hb dX12_note_21 rfl ?_
    refine s_getI (pc := 22) F w ds_0 (j := 5) vc_X12 vi_X12 rfl (by decide) kf_X12_207 dX12_note_22 ?_
    refine lv_iconst (pc := 25) (v := 1) hx hb dX12_note_25 (by decide) ?_
    refine lv_iadd (pc := 26) hx hb dX12_note_26 ?_
    refine s_putI (pc := 27) F w ds_0 vc_X12 vi_X12 tyX12_ok nmX12 (j := 5) rfl (by decide) kf_X12_207 rfl pd_I h dX12_note_27 (fun S2 H locs h w => ?_)
    exact s_vret F w h dX12_note_30
def f_M_suits_j56  (x1 : Int32) (x2 : Int32) (S : SS) : Option (Int32 × SS) :=
    bndv (f_M_note (17 : Int32) S) (fun S1 =>
    grd (inb x2 72) (
    if (5 : Int32) ≤ (S1.1 18 x2.toNatClampNeg) then
      some ((1 : Int32), S1)
    else
      grd (inb x1 72) (
      grd (inb x2 72) (
      grd (inb (((10 : Int32) * (S1.1 27 x1.toNatClampNeg)) + (S1.1 27 x2.toNatClampNeg)) 100) (
      if (S1.1 16 (((10 : Int32) * (S1.1 27 x1.toNatClampNeg)) + (S1.1 27 x2.toNatClampNeg)).toNatClampNeg) = 0 then
        some ((1 : Int32), S1)
      else
        some ((0 : Int32), S1))))))
def f_M_suits (a1 : Int32) (a2 : Int32) (S : SS) : Option (Int32 × SS) :=
  grd (inb a1 72) (
  if (S.1 18 a1.toNatClampNeg) < (5 : Int32) then
    grd (inb a1 72) (
    if (S.1 18 a1.toNatClampNeg) = (4 : Int32) then
      bndv (f_M_note (19 : Int32) S) (fun S2 =>
      grd (inb a2 72) (
      if (S2.1 18 a2.toNatClampNeg) = (1 : Int32) then
        some ((0 : Int32), S2)
      else
        grd (inb a2 72) (
        if (S2.1 18 a2.toNatClampNeg) = (2 : Int32) then
          some ((0 : Int32), S2)
        else
          f_M_suits_j56 a1 a2 S2)))
    else
      f_M_suits_j56 a1 a2 S)
  else
    bndv (f_M_note (18 : Int32) S) (fun S3 =>
    some ((1 : Int32), S3)))
theorem dX12_suits_0 : decode cX12_suits 0 = .ok (.aload_n 0, 1) := dc_42 (by decide +kernel)
theorem dX12_suits_1 : decode cX12_suits 1 = .ok (.getfield 69, 3) := dc_180 (a := 0) (b := 69) (by decide +kernel)
theorem dX12_suits_4 : decode cX12_suits 4 = .ok (.iload_n 1, 1) := dc_27 (by decide +kernel)
theorem dX12_suits_5 : decode cX12_suits 5 = .ok (.iaload, 1) := dc_46 (by decide +kernel)
theorem dX12_suits_6 : decode cX12_suits 6 = .ok (.iconst 5, 1) := dc_8 (by decide +kernel)
theorem dX12_suits_7 : decode cX12_suits 7 = .ok (.if_icmp .lt 11, 3) := dc_161 (a := 0) (b := 11) (by decide +kernel) (by decide)
theorem dX12_suits_10 : decode cX12_suits 10 = .ok (.aload_n 0, 1) := dc_42 (by decide +kernel)
theorem dX12_suits_11 : decode cX12_suits 11 = .ok (.bipush 18, 2) := dc_16 (a := 18) (by decide +kernel) (by decide)
theorem dX12_suits_13 : decode cX12_suits 13 = .ok (.invokevirtual 296, 3) := dc_182 (a := 1) (b := 40) (by decide +kernel)
theorem dX12_suits_16 : decode cX12_suits 16 = .ok (.iconst 1, 1) := dc_4 (by decide +kernel)
theorem dX12_suits_17 : decode cX12_suits 17 = .ok (.ireturn, 1) := dc_172 (by decide +kernel)
theorem dX12_suits_18 : decode cX12_suits 18 = .ok (.aload_n 0, 1) := dc_42 (by decide +kernel)
theorem dX12_suits_19 : decode cX12_suits 19 = .ok (.getfield 69, 3) := dc_180 (a := 0) (b := 69) (by decide +kernel)
theorem dX12_suits_22 : decode cX12_suits 22 = .ok (.iload_n 1, 1) := dc_27 (by decide +kernel)
theorem dX12_suits_23 : decode cX12_suits 23 = .ok (.iaload, 1) := dc_46 (by decide +kernel)
theorem dX12_suits_24 : decode cX12_suits 24 = .ok (.iconst 4, 1) := dc_7 (by decide +kernel)
theorem dX12_suits_25 : decode cX12_suits 25 = .ok (.if_icmp .ne 31, 3) := dc_160 (a := 0) (b := 31) (by decide +kernel) (by decide)
theorem dX12_suits_28 : decode cX12_suits 28 = .ok (.aload_n 0, 1) := dc_42 (by decide +kernel)
theorem dX12_suits_29 : decode cX12_suits 29 = .ok (.bipush 19, 2) := dc_16 (a := 19) (by decide +kernel) (by decide)
theorem dX12_suits_31 : decode cX12_suits 31 = .ok (.invokevirtual 296, 3) := dc_182 (a := 1) (b := 40) (by decide +kernel)
theorem dX12_suits_34 : decode cX12_suits 34 = .ok (.aload_n 0, 1) := dc_42 (by decide +kernel)
theorem dX12_suits_35 : decode cX12_suits 35 = .ok (.getfield 69, 3) := dc_180 (a := 0) (b := 69) (by decide +kernel)
theorem dX12_suits_38 : decode cX12_suits 38 = .ok (.iload_n 2, 1) := dc_28 (by decide +kernel)
theorem dX12_suits_39 : decode cX12_suits 39 = .ok (.iaload, 1) := dc_46 (by decide +kernel)
theorem dX12_suits_40 : decode cX12_suits 40 = .ok (.iconst 1, 1) := dc_4 (by decide +kernel)
theorem dX12_suits_41 : decode cX12_suits 41 = .ok (.if_icmp .eq 13, 3) := dc_159 (a := 0) (b := 13) (by decide +kernel) (by decide)
theorem dX12_suits_44 : decode cX12_suits 44 = .ok (.aload_n 0, 1) := dc_42 (by decide +kernel)
theorem dX12_suits_45 : decode cX12_suits 45 = .ok (.getfield 69, 3) := dc_180 (a := 0) (b := 69) (by decide +kernel)
theorem dX12_suits_48 : decode cX12_suits 48 = .ok (.iload_n 2, 1) := dc_28 (by decide +kernel)
theorem dX12_suits_49 : decode cX12_suits 49 = .ok (.iaload, 1) := dc_46 (by decide +kernel)
theorem dX12_suits_50 : decode cX12_suits 50 = .ok (.iconst 2, 1) := dc_5 (by decide +kernel)
theorem dX12_suits_51 : decode cX12_suits 51 = .ok (.if_icmp .ne 5, 3) := dc_160 (a := 0) (b := 5) (by decide +kernel) (by decide)
theorem dX12_suits_54 : decode cX12_suits 54 = .ok (.iconst 0, 1) := dc_3 (by decide +kernel)
theorem dX12_suits_55 : decode cX12_suits 55 = .ok (.ireturn, 1) := dc_172 (by decide +kernel)
theorem dX12_suits_56 : decode cX12_suits 56 = .ok (.aload_n 0, 1) := dc_42 (by decide +kernel)
theorem dX12_suits_57 : decode cX12_suits 57 = .ok (.bipush 17, 2) := dc_16 (a := 17) (by decide +kernel) (by decide)
theorem dX12_suits_59 : decode cX12_suits 59 = .ok (.invokevirtual 296, 3) := dc_182 (a := 1) (b := 40) (by decide +kernel)
theorem dX12_suits_62 : decode cX12_suits 62 = .ok (.aload_n 0, 1) := dc_42 (by decide +kernel)
theorem dX12_suits_63 : decode cX12_suits 63 = .ok (.getfield 69, 3) := dc_180 (a := 0) (b := 69) (by decide +kernel)
theorem dX12_suits_66 : decode cX12_suits 66 = .ok (.iload_n 2, 1) := dc_28 (by decide +kernel)
theorem dX12_suits_67 : decode cX12_suits 67 = .ok (.iaload, 1) := dc_46 (by decide +kernel)
theorem dX12_suits_68 : decode cX12_suits 68 = .ok (.iconst 5, 1) := dc_8 (by decide +kernel)
theorem dX12_suits_69 : decode cX12_suits 69 = .ok (.if_icmp .ge 27, 3) := dc_162 (a := 0) (b := 27) (by decide +kernel) (by decide)
theorem dX12_suits_72 : decode cX12_suits 72 = .ok (.aload_n 0, 1) := dc_42 (by decide +kernel)
theorem dX12_suits_73 : decode cX12_suits 73 = .ok (.getfield 63, 3) := dc_180 (a := 0) (b := 63) (by decide +kernel)
theorem dX12_suits_76 : decode cX12_suits 76 = .ok (.bipush 10, 2) := dc_16 (a := 10) (by decide +kernel) (by decide)
theorem dX12_suits_78 : decode cX12_suits 78 = .ok (.aload_n 0, 1) := dc_42 (by decide +kernel)
theorem dX12_suits_79 : decode cX12_suits 79 = .ok (.getfield 96, 3) := dc_180 (a := 0) (b := 96) (by decide +kernel)
theorem dX12_suits_82 : decode cX12_suits 82 = .ok (.iload_n 1, 1) := dc_27 (by decide +kernel)
theorem dX12_suits_83 : decode cX12_suits 83 = .ok (.iaload, 1) := dc_46 (by decide +kernel)
theorem dX12_suits_84 : decode cX12_suits 84 = .ok (.imul, 1) := dc_104 (by decide +kernel)
theorem dX12_suits_85 : decode cX12_suits 85 = .ok (.aload_n 0, 1) := dc_42 (by decide +kernel)
theorem dX12_suits_86 : decode cX12_suits 86 = .ok (.getfield 96, 3) := dc_180 (a := 0) (b := 96) (by decide +kernel)
theorem dX12_suits_89 : decode cX12_suits 89 = .ok (.iload_n 2, 1) := dc_28 (by decide +kernel)
theorem dX12_suits_90 : decode cX12_suits 90 = .ok (.iaload, 1) := dc_46 (by decide +kernel)
theorem dX12_suits_91 : decode cX12_suits 91 = .ok (.iadd, 1) := dc_96 (by decide +kernel)
theorem dX12_suits_92 : decode cX12_suits 92 = .ok (.baload, 1) := dc_51 (by decide +kernel)
theorem dX12_suits_93 : decode cX12_suits 93 = .ok (.ifCond .ne 7, 3) := dc_154 (a := 0) (b := 7) (by decide +kernel) (by decide)
theorem dX12_suits_96 : decode cX12_suits 96 = .ok (.iconst 1, 1) := dc_4 (by decide +kernel)
theorem dX12_suits_97 : decode cX12_suits 97 = .ok (.goto 4, 3) := dc_167 (a := 0) (b := 4) (by decide +kernel) (by decide)
theorem dX12_suits_100 : decode cX12_suits 100 = .ok (.iconst 0, 1) := dc_3 (by decide +kernel)
theorem dX12_suits_101 : decode cX12_suits 101 = .ok (.ireturn, 1) := dc_172 (by decide +kernel)
set_option maxRecDepth 100000 in
set_option maxHeartbeats 4000000 in
theorem w_M_suits_j56 {p : Program} {l : Launch} {e : Env} {R : Room} {s : State} {m : MethodId} {args : Array Value} {below : List Frame} {meth : Method} {c : Code} {dC : Nat → ClassId} {dI : Nat → Nat → Nat} {cs : Nat → ClassId} {ad : Nat → Nat} {A : Nat → Prop} {D0 : Nat → Nat} {S' : SS} {r : Int32} (F : Fx p s m args meth c cX12_suits 3 RX12 (some .boolean) dC dI cs A) (hR1 : 1 ≤ R.frames) (hR2 : 21 ≤ R.locals) (x1 : Int32) (x2 : Int32) (S : SS) (h : f_M_suits_j56 x1 x2 S = some (r, S')) : AW p l e R s m args below meth c dC dI cs ad A D0 (some (.int r)) S' 3 56 [(0, .ref (ad 0)), (1, .int x1), (2, .int x2)] [] S := by
  have hx := F.1.1
  have hb := F.1.2.1
  intro H locs ls w hl
  rw [f_M_suits_j56] at h
  refine lv_aload_n (pc := 56) hx hb dX12_suits_56 rfl (lv_at hl 0 rfl) ?_
  refine lv_bipush (pc := 57) (v := 17) hx hb dX12_suits_57 (by decide) ?_
  obtain ⟨S1, hc, h⟩ := bndv_t h
  refine s_cvv (pc := 59) [.int (17 : Int32)] (fun ad => [.ref (ad 0), .int (17 : Int32)]) F w (m_M_note _ _ _ hc) rfl rfl hl.1 ds_0 vc_X12 rfl ok_X12_note rfl kc_X12_note kl_X12_296 ki_X12_note kv_X12_note kn_X12 ⟨Nat.le_trans (by decide) hR1, Nat.le_trans (by decide) hR2⟩ ⟨Nat.zero_le _, Nat.zero_le _⟩ (Nat.le_of_ble_eq_true rfl) dX12_suits_59 (fun H locs w => ?_)
  refine lv_aload_n (pc := 62) hx hb dX12_suits_62 rfl (lv_at hl 0 rfl) ?_
  refine s_getR (pc := 63) F w 18 ds_0 (j := 30) vc_X12 vi_X12 rfl (by decide) kf_X12_69 dX12_suits_63 ?_
  refine lv_iload_n (pc := 66) hx hb dX12_suits_66 rfl (lv_at hl 2 rfl) ?_
  refine s_iald (pc := 67) F w ds_18 h dX12_suits_67 (fun h => ?_)
  refine lv_iconst (pc := 68) (v := 5) hx hb dX12_suits_68 (by decide) ?_
  refine lv_icmp_ge (pc := 69) (tgt := 96) hx hb dX12_suits_69 (by decide) (fun q => ?_) (fun q => ?_)
  · have h := ite_t q h
    refine lv_iconst (pc := 96) (v := 1) hx hb dX12_suits_96 (by decide) ?_
    refine lv_goto (pc := 97) (tgt := 101) hx hb dX12_suits_97 (by decide) ?_
    exact s_zretc F w rfl h dX12_suits_101
  · have h := ite_f q h
    refine lv_aload_n (pc := 72) hx hb dX12_suits_72 rfl (lv_at hl 0 rfl) ?_
    refine s_getR (pc := 73) F w 16 ds_0 (j := 24) vc_X12 vi_X12 rfl (by decide) kf_X12_63 dX12_suits_73 ?_
    refine lv_bipush (pc := 76) (v := 10) hx hb dX12_suits_76 (by decide) ?_
    refine lv_aload_n (pc := 78) hx hb dX12_suits_78 rfl (lv_at hl 0 rfl) ?_
    refine s_getR (pc := 79) F w 27 ds_0 (j := 39) vc_X12 vi_X12 rfl (by decide) kf_X12_96 dX12_suits_79 ?_
    refine lv_iload_n (pc := 82) hx hb dX12_suits_82 rfl (lv_at hl 1 rfl) ?_
    refine s_iald (pc := 83) F w ds_27 h dX12_suits_83 (fun h => ?_)
    refine lv_imul (pc := 84) hx hb dX12_suits_84 ?_
    refine lv_aload_n (pc := 85) hx hb dX12_suits_85 rfl (lv_at hl 0 rfl) ?_
    refine s_getR (pc := 86) F w 27 ds_0 (j := 39) vc_X12 vi_X12 rfl (by decide) kf_X12_96 dX12_suits_86 ?_
    refine lv_iload_n (pc := 89) hx hb dX12_suits_89 rfl (lv_at hl 2 rfl) ?_
    refine s_iald (pc := 90) F w ds_27 h dX12_suits_90 (fun h => ?_)
    refine lv_iadd (pc := 91) hx hb dX12_suits_91 ?_
    refine s_zald (pc := 92) F w ds_16 h dX12_suits_92 (fun h => ?_)
    refine lv_if_ne (pc := 93) (tgt := 100) hx hb dX12_suits_93 (by decide) (fun q => ?_) (fun q => ?_)
    · have h := ite_f q h
      refine lv_iconst (pc := 100) (v := 0) hx hb dX12_suits_100 (by decide) ?_
      exact s_zretc F w rfl h dX12_suits_101
    · have h := ite_t q h
      refine lv_iconst (pc := 96) (v := 1) hx hb dX12_suits_96 (by decide) ?_
      refine lv_goto (pc := 97) (tgt := 101) hx hb dX12_suits_97 (by decide) ?_
      exact s_zretc F w rfl h dX12_suits_101
set_option maxRecDepth 100000 in
set_option maxHeartbeats 4000000 in
theorem m_M_suits (a1 : Int32) (a2 : Int32) (S S' : SS) (r : Int32) (h : f_M_suits a1 a2 S = some (r, S')) : MT yX12_suits cX12_suits 3 (some .boolean) 1 21 (fun ad => [.ref (ad 0), .int a1, .int a2]) S (some (.int r)) S' := by
  refine MT.of RX12 (fun ad => [(0, .ref (ad 0)), (1, .int a1), (2, .int a2)]) (by decide) rfl (fun _ => Nat.le_of_ble_eq_true rfl) (fun _ => rfl) ?_
  intro p l e R s m args below meth c dC dI cs ad A hR1 hR2 F H locs ls w hl
  have hx := F.1.1
  have hb := F.1.2.1
  rw [f_M_suits] at h
  refine lv_aload_n (pc := 0) hx hb dX12_suits_0 rfl (lv_at hl 0 rfl) ?_
  refine s_getR (pc := 1) F w 18 ds_0 (j := 30) vc_X12 vi_X12 rfl (by decide) kf_X12_69 dX12_suits_1 ?_
  refine lv_iload_n (pc := 4) hx hb dX12_suits_4 rfl (lv_at hl 1 rfl) ?_
  refine s_iald (pc := 5) F w ds_18 h dX12_suits_5 (fun h => ?_)
  refine lv_iconst (pc := 6) (v := 5) hx hb dX12_suits_6 (by decide) ?_
  refine lv_icmp_lt (pc := 7) (tgt := 18) hx hb dX12_suits_7 (by decide) (fun q => ?_) (fun q => ?_)
  · have h := ite_t q h
    refine lv_aload_n (pc := 18) hx hb dX12_suits_18 rfl (lv_at hl 0 rfl) ?_
    refine s_getR (pc := 19) F w 18 ds_0 (j := 30) vc_X12 vi_X12 rfl (by decide) kf_X12_69 dX12_suits_19 ?_
    refine lv_iload_n (pc := 22) hx hb dX12_suits_22 rfl (lv_at hl 1 rfl) ?_
    refine s_iald (pc := 23) F w ds_18 h dX12_suits_23 (fun h => ?_)
    refine lv_iconst (pc := 24) (v := 4) hx hb dX12_suits_24 (by decide) ?_
    refine lv_icmp_ne (pc := 25) (tgt := 56) hx hb dX12_suits_25 (by decide) (fun q => ?_) (fun q => ?_)
    · have h := ite_f q h
      exact w_M_suits_j56 F (Nat.le_trans (by decide) hR1) (Nat.le_trans (by decide) hR2) _ _ _ h _ _ _ w (lv_sub hl [0, 1, 2] rfl)
    · have h := ite_t q h
      refine lv_aload_n (pc := 28) hx hb dX12_suits_28 rfl (lv_at hl 0 rfl) ?_
      refine lv_bipush (pc := 29) (v := 19) hx hb dX12_suits_29 (by decide) ?_
      obtain ⟨S2, hc, h⟩ := bndv_t h
      refine s_cvv (pc := 31) [.int (19 : Int32)] (fun ad => [.ref (ad 0), .int (19 : Int32)]) F w (m_M_note _ _ _ hc) rfl rfl hl.1 ds_0 vc_X12 rfl ok_X12_note rfl kc_X12_note kl_X12_296 ki_X12_note kv_X12_note kn_X12 ⟨Nat.le_trans (by decide) hR1, Nat.le_trans (by decide) hR2⟩ ⟨Nat.zero_le _, Nat.zero_le _⟩ (Nat.le_of_ble_eq_true rfl) dX12_suits_31 (fun H locs w => ?_)
      refine lv_aload_n (pc := 34) hx hb dX12_suits_34 rfl (lv_at hl 0 rfl) ?_
      refine s_getR (pc := 35) F w 18 ds_0 (j := 30) vc_X12 vi_X12 rfl (by decide) kf_X12_69 dX12_suits_35 ?_
      refine lv_iload_n (pc := 38) hx hb dX12_suits_38 rfl (lv_at hl 2 rfl) ?_
      refine s_iald (pc := 39) F w ds_18 h dX12_suits_39 (fun h => ?_)
      refine lv_iconst (pc := 40) (v := 1) hx hb dX12_suits_40 (by decide) ?_
      refine lv_icmp_eq (pc := 41) (tgt := 54) hx hb dX12_suits_41 (by decide) (fun q => ?_) (fun q => ?_)
      · have h := ite_t q h
        refine lv_iconst (pc := 54) (v := 0) hx hb dX12_suits_54 (by decide) ?_
        exact s_zretc F w rfl h dX12_suits_55
      · have h := ite_f q h
        refine lv_aload_n (pc := 44) hx hb dX12_suits_44 rfl (lv_at hl 0 rfl) ?_
        refine s_getR (pc := 45) F w 18 ds_0 (j := 30) vc_X12 vi_X12 rfl (by decide) kf_X12_69 dX12_suits_45 ?_
        refine lv_iload_n (pc := 48) hx hb dX12_suits_48 rfl (lv_at hl 2 rfl) ?_
        refine s_iald (pc := 49) F w ds_18 h dX12_suits_49 (fun h => ?_)
        refine lv_iconst (pc := 50) (v := 2) hx hb dX12_suits_50 (by decide) ?_
        refine lv_icmp_ne (pc := 51) (tgt := 56) hx hb dX12_suits_51 (by decide) (fun q => ?_) (fun q => ?_)
        · have h := ite_f q h
          exact w_M_suits_j56 F (Nat.le_trans (by decide) hR1) (Nat.le_trans (by decide) hR2) _ _ _ h _ _ _ w (lv_sub hl [0, 1, 2] rfl)
        · have h := ite_t q h
          refine lv_iconst (pc := 54) (v := 0) hx hb dX12_suits_54 (by decide) ?_
          exact s_zretc F w rfl h dX12_suits_55
  · have h := ite_f q h
    refine lv_aload_n (pc := 10) hx hb dX12_suits_10 rfl (lv_at hl 0 rfl) ?_
    refine lv_bipush (pc := 11) (v := 18) hx hb dX12_suits_11 (by decide) ?_
    obtain ⟨S3, hc, h⟩ := bndv_t h
    refine s_cvv (pc := 13) [.int (18 : Int32)] (fun ad => [.ref (ad 0), .int (18 : Int32)]) F w (m_M_note _ _ _ hc) rfl rfl hl.1 ds_0 vc_X12 rfl ok_X12_note rfl kc_X12_note kl_X12_296 ki_X12_note kv_X12_note kn_X12 ⟨Nat.le_trans (by decide) hR1, Nat.le_trans (by decide) hR2⟩ ⟨Nat.zero_le _, Nat.zero_le _⟩ (Nat.le_of_ble_eq_true rfl) dX12_suits_13 (fun H locs w => ?_)
    refine lv_iconst (pc := 16) (v := 1) hx hb dX12_suits_16 (by decide) ?_
    exact s_zretc F w rfl h dX12_suits_17
def f_M_missCouple_j136  (x1 : Int32) (x4 : Int32) (y0 : Int32) (S : SS) : Option (Int32 × SS) :=
    wr S 0 67 y0 (fun S10 =>
    grd (inb (((2 : Int32) * x4) + (S10.1 0 67)) 144) (
    if (S10.1 23 (((2 : Int32) * x4) + (S10.1 0 67)).toNatClampNeg) = (-4 : Int32) then
      bnd (f_M_areTogether x1 x4 S10) (fun r12 S11 =>
      if r12 = 0 then
        bnd (f_M_suits x1 x4 S11) (fun r14 S13 =>
        if r14 = 0 then
          some ((13 : Int32), S13)
        else
          bnd (f_M_suits x4 x1 S13) (fun r16 S15 =>
          if r16 = 0 then
            some ((13 : Int32), S15)
          else
            some ((0 : Int32), S15)))
      else
        some ((14 : Int32), S11))
    else
      some ((14 : Int32), S10)))
def f_M_missCouple (a1 : Int32) (a2 : Int32) (S : SS) : Option (Int32 × SS) :=
  bnd (f_M_missSide a1 (0 : Int32) a2 S) (fun r2 S1 =>
  if r2 = 0 then
    grd (inb (((2 : Int32) * a1) + a2) 144) (
    if (S1.1 23 (((2 : Int32) * a1) + a2).toNatClampNeg) = (-4 : Int32) then
      grd (inb a1 72) (
      if (S1.1 31 a1.toNatClampNeg) = 0 then
        grd (inb a1 72) (
        grd (inb a1 72) (
        bnd (f_M_wayOf a1 a2 S1) (fun r4 S3 =>
        bnd (f_M_isOpen (S1.1 20 a1.toNatClampNeg) (S1.1 21 a1.toNatClampNeg) r4 S3) (fun r6 S5 =>
        if r6 = 0 then
          some ((10 : Int32), S5)
        else
          bnd (f_M_standing (S5.1 0 26) (S5.1 0 27) S5) (fun r8 S7 =>
          if r8 = (-4 : Int32) then
            some ((1 : Int32), S7)
          else
            grd (inb r8 72) (
            if (S7.1 31 r8.toNatClampNeg) = 0 then
              wr S7 0 66 r8 (fun S9 =>
              grd (inb r8 72) (
              if (S9.1 22 r8.toNatClampNeg) = ((1 : Int32) - (S9.1 0 28)) then
                f_M_missCouple_j136 a1 r8 (0 : Int32) S9
              else
                f_M_missCouple_j136 a1 r8 (1 : Int32) S9))
            else
              some ((16 : Int32), S7)))))))
      else
        some ((16 : Int32), S1))
    else
      some ((14 : Int32), S1))
  else
    some (r2, S1))
theorem dX12_missCouple_0 : decode cX12_missCouple 0 = .ok (.aload_n 0, 1) := dc_42 (by decide +kernel)
theorem dX12_missCouple_1 : decode cX12_missCouple 1 = .ok (.iload_n 1, 1) := dc_27 (by decide +kernel)
theorem dX12_missCouple_2 : decode cX12_missCouple 2 = .ok (.iconst 0, 1) := dc_3 (by decide +kernel)
theorem dX12_missCouple_3 : decode cX12_missCouple 3 = .ok (.iload_n 2, 1) := dc_28 (by decide +kernel)
theorem dX12_missCouple_4 : decode cX12_missCouple 4 = .ok (.invokevirtual 364, 3) := dc_182 (a := 1) (b := 108) (by decide +kernel)
theorem dX12_missCouple_7 : decode cX12_missCouple 7 = .ok (.istore_n 3, 1) := dc_62 (by decide +kernel)
theorem dX12_missCouple_8 : decode cX12_missCouple 8 = .ok (.iload_n 3, 1) := dc_29 (by decide +kernel)
theorem dX12_missCouple_9 : decode cX12_missCouple 9 = .ok (.ifCond .eq 5, 3) := dc_153 (a := 0) (b := 5) (by decide +kernel) (by decide)
theorem dX12_missCouple_12 : decode cX12_missCouple 12 = .ok (.iload_n 3, 1) := dc_29 (by decide +kernel)
theorem dX12_missCouple_13 : decode cX12_missCouple 13 = .ok (.ireturn, 1) := dc_172 (by decide +kernel)
theorem dX12_missCouple_14 : decode cX12_missCouple 14 = .ok (.aload_n 0, 1) := dc_42 (by decide +kernel)
theorem dX12_missCouple_15 : decode cX12_missCouple 15 = .ok (.getfield 84, 3) := dc_180 (a := 0) (b := 84) (by decide +kernel)
theorem dX12_missCouple_18 : decode cX12_missCouple 18 = .ok (.iconst 2, 1) := dc_5 (by decide +kernel)
theorem dX12_missCouple_19 : decode cX12_missCouple 19 = .ok (.iload_n 1, 1) := dc_27 (by decide +kernel)
theorem dX12_missCouple_20 : decode cX12_missCouple 20 = .ok (.imul, 1) := dc_104 (by decide +kernel)
theorem dX12_missCouple_21 : decode cX12_missCouple 21 = .ok (.iload_n 2, 1) := dc_28 (by decide +kernel)
theorem dX12_missCouple_22 : decode cX12_missCouple 22 = .ok (.iadd, 1) := dc_96 (by decide +kernel)
theorem dX12_missCouple_23 : decode cX12_missCouple 23 = .ok (.iaload, 1) := dc_46 (by decide +kernel)
theorem dX12_missCouple_24 : decode cX12_missCouple 24 = .ok (.bipush (-4), 2) := dc_16 (a := 252) (by decide +kernel) (by decide)
theorem dX12_missCouple_26 : decode cX12_missCouple 26 = .ok (.if_icmp .eq 6, 3) := dc_159 (a := 0) (b := 6) (by decide +kernel) (by decide)
theorem dX12_missCouple_29 : decode cX12_missCouple 29 = .ok (.bipush 14, 2) := dc_16 (a := 14) (by decide +kernel) (by decide)
theorem dX12_missCouple_31 : decode cX12_missCouple 31 = .ok (.ireturn, 1) := dc_172 (by decide +kernel)
theorem dX12_missCouple_32 : decode cX12_missCouple 32 = .ok (.aload_n 0, 1) := dc_42 (by decide +kernel)
theorem dX12_missCouple_33 : decode cX12_missCouple 33 = .ok (.getfield 108, 3) := dc_180 (a := 0) (b := 108) (by decide +kernel)
theorem dX12_missCouple_36 : decode cX12_missCouple 36 = .ok (.iload_n 1, 1) := dc_27 (by decide +kernel)
theorem dX12_missCouple_37 : decode cX12_missCouple 37 = .ok (.baload, 1) := dc_51 (by decide +kernel)
theorem dX12_missCouple_38 : decode cX12_missCouple 38 = .ok (.ifCond .eq 6, 3) := dc_153 (a := 0) (b := 6) (by decide +kernel) (by decide)
theorem dX12_missCouple_41 : decode cX12_missCouple 41 = .ok (.bipush 16, 2) := dc_16 (a := 16) (by decide +kernel) (by decide)
theorem dX12_missCouple_43 : decode cX12_missCouple 43 = .ok (.ireturn, 1) := dc_172 (by decide +kernel)
theorem dX12_missCouple_44 : decode cX12_missCouple 44 = .ok (.aload_n 0, 1) := dc_42 (by decide +kernel)
theorem dX12_missCouple_45 : decode cX12_missCouple 45 = .ok (.aload_n 0, 1) := dc_42 (by decide +kernel)
theorem dX12_missCouple_46 : decode cX12_missCouple 46 = .ok (.getfield 75, 3) := dc_180 (a := 0) (b := 75) (by decide +kernel)
theorem dX12_missCouple_49 : decode cX12_missCouple 49 = .ok (.iload_n 1, 1) := dc_27 (by decide +kernel)
theorem dX12_missCouple_50 : decode cX12_missCouple 50 = .ok (.iaload, 1) := dc_46 (by decide +kernel)
theorem dX12_missCouple_51 : decode cX12_missCouple 51 = .ok (.aload_n 0, 1) := dc_42 (by decide +kernel)
theorem dX12_missCouple_52 : decode cX12_missCouple 52 = .ok (.getfield 78, 3) := dc_180 (a := 0) (b := 78) (by decide +kernel)
theorem dX12_missCouple_55 : decode cX12_missCouple 55 = .ok (.iload_n 1, 1) := dc_27 (by decide +kernel)
theorem dX12_missCouple_56 : decode cX12_missCouple 56 = .ok (.iaload, 1) := dc_46 (by decide +kernel)
theorem dX12_missCouple_57 : decode cX12_missCouple 57 = .ok (.aload_n 0, 1) := dc_42 (by decide +kernel)
theorem dX12_missCouple_58 : decode cX12_missCouple 58 = .ok (.iload_n 1, 1) := dc_27 (by decide +kernel)
theorem dX12_missCouple_59 : decode cX12_missCouple 59 = .ok (.iload_n 2, 1) := dc_28 (by decide +kernel)
theorem dX12_missCouple_60 : decode cX12_missCouple 60 = .ok (.invokevirtual 368, 3) := dc_182 (a := 1) (b := 112) (by decide +kernel)
theorem dX12_missCouple_63 : decode cX12_missCouple 63 = .ok (.invokevirtual 371, 3) := dc_182 (a := 1) (b := 115) (by decide +kernel)
theorem dX12_missCouple_66 : decode cX12_missCouple 66 = .ok (.ifCond .ne 6, 3) := dc_154 (a := 0) (b := 6) (by decide +kernel) (by decide)
theorem dX12_missCouple_69 : decode cX12_missCouple 69 = .ok (.bipush 10, 2) := dc_16 (a := 10) (by decide +kernel) (by decide)
theorem dX12_missCouple_71 : decode cX12_missCouple 71 = .ok (.ireturn, 1) := dc_172 (by decide +kernel)
theorem dX12_missCouple_72 : decode cX12_missCouple 72 = .ok (.aload_n 0, 1) := dc_42 (by decide +kernel)
theorem dX12_missCouple_73 : decode cX12_missCouple 73 = .ok (.aload_n 0, 1) := dc_42 (by decide +kernel)
theorem dX12_missCouple_74 : decode cX12_missCouple 74 = .ok (.getfield 245, 3) := dc_180 (a := 0) (b := 245) (by decide +kernel)
theorem dX12_missCouple_77 : decode cX12_missCouple 77 = .ok (.aload_n 0, 1) := dc_42 (by decide +kernel)
theorem dX12_missCouple_78 : decode cX12_missCouple 78 = .ok (.getfield 248, 3) := dc_180 (a := 0) (b := 248) (by decide +kernel)
theorem dX12_missCouple_81 : decode cX12_missCouple 81 = .ok (.invokevirtual 279, 3) := dc_182 (a := 1) (b := 23) (by decide +kernel)
theorem dX12_missCouple_84 : decode cX12_missCouple 84 = .ok (.istore 4, 2) := dc_54 (a := 4) (by decide +kernel)
theorem dX12_missCouple_86 : decode cX12_missCouple 86 = .ok (.iload 4, 2) := dc_21 (a := 4) (by decide +kernel)
theorem dX12_missCouple_88 : decode cX12_missCouple 88 = .ok (.bipush (-4), 2) := dc_16 (a := 252) (by decide +kernel) (by decide)
theorem dX12_missCouple_90 : decode cX12_missCouple 90 = .ok (.if_icmp .ne 5, 3) := dc_160 (a := 0) (b := 5) (by decide +kernel) (by decide)
theorem dX12_missCouple_93 : decode cX12_missCouple 93 = .ok (.iconst 1, 1) := dc_4 (by decide +kernel)
theorem dX12_missCouple_94 : decode cX12_missCouple 94 = .ok (.ireturn, 1) := dc_172 (by decide +kernel)
theorem dX12_missCouple_95 : decode cX12_missCouple 95 = .ok (.aload_n 0, 1) := dc_42 (by decide +kernel)
theorem dX12_missCouple_96 : decode cX12_missCouple 96 = .ok (.getfield 108, 3) := dc_180 (a := 0) (b := 108) (by decide +kernel)
theorem dX12_missCouple_99 : decode cX12_missCouple 99 = .ok (.iload 4, 2) := dc_21 (a := 4) (by decide +kernel)
theorem dX12_missCouple_101 : decode cX12_missCouple 101 = .ok (.baload, 1) := dc_51 (by decide +kernel)
theorem dX12_missCouple_102 : decode cX12_missCouple 102 = .ok (.ifCond .eq 6, 3) := dc_153 (a := 0) (b := 6) (by decide +kernel) (by decide)
theorem dX12_missCouple_105 : decode cX12_missCouple 105 = .ok (.bipush 16, 2) := dc_16 (a := 16) (by decide +kernel) (by decide)
theorem dX12_missCouple_107 : decode cX12_missCouple 107 = .ok (.ireturn, 1) := dc_172 (by decide +kernel)
theorem dX12_missCouple_108 : decode cX12_missCouple 108 = .ok (.aload_n 0, 1) := dc_42 (by decide +kernel)
theorem dX12_missCouple_109 : decode cX12_missCouple 109 = .ok (.iload 4, 2) := dc_21 (a := 4) (by decide +kernel)
theorem dX12_missCouple_111 : decode cX12_missCouple 111 = .ok (.putfield 375, 3) := dc_181 (a := 1) (b := 119) (by decide +kernel)
theorem dX12_missCouple_114 : decode cX12_missCouple 114 = .ok (.aload_n 0, 1) := dc_42 (by decide +kernel)
theorem dX12_missCouple_115 : decode cX12_missCouple 115 = .ok (.aload_n 0, 1) := dc_42 (by decide +kernel)
theorem dX12_missCouple_116 : decode cX12_missCouple 116 = .ok (.getfield 81, 3) := dc_180 (a := 0) (b := 81) (by decide +kernel)
theorem dX12_missCouple_119 : decode cX12_missCouple 119 = .ok (.iload 4, 2) := dc_21 (a := 4) (by decide +kernel)
theorem dX12_missCouple_121 : decode cX12_missCouple 121 = .ok (.iaload, 1) := dc_46 (by decide +kernel)
theorem dX12_missCouple_122 : decode cX12_missCouple 122 = .ok (.iconst 1, 1) := dc_4 (by decide +kernel)
theorem dX12_missCouple_123 : decode cX12_missCouple 123 = .ok (.aload_n 0, 1) := dc_42 (by decide +kernel)
theorem dX12_missCouple_124 : decode cX12_missCouple 124 = .ok (.getfield 251, 3) := dc_180 (a := 0) (b := 251) (by decide +kernel)
theorem dX12_missCouple_127 : decode cX12_missCouple 127 = .ok (.isub, 1) := dc_100 (by decide +kernel)
theorem dX12_missCouple_128 : decode cX12_missCouple 128 = .ok (.if_icmp .ne 7, 3) := dc_160 (a := 0) (b := 7) (by decide +kernel) (by decide)
theorem dX12_missCouple_131 : decode cX12_missCouple 131 = .ok (.iconst 0, 1) := dc_3 (by decide +kernel)
theorem dX12_missCouple_132 : decode cX12_missCouple 132 = .ok (.goto 4, 3) := dc_167 (a := 0) (b := 4) (by decide +kernel) (by decide)
theorem dX12_missCouple_135 : decode cX12_missCouple 135 = .ok (.iconst 1, 1) := dc_4 (by decide +kernel)
theorem dX12_missCouple_136 : decode cX12_missCouple 136 = .ok (.putfield 378, 3) := dc_181 (a := 1) (b := 122) (by decide +kernel)
theorem dX12_missCouple_139 : decode cX12_missCouple 139 = .ok (.aload_n 0, 1) := dc_42 (by decide +kernel)
theorem dX12_missCouple_140 : decode cX12_missCouple 140 = .ok (.getfield 84, 3) := dc_180 (a := 0) (b := 84) (by decide +kernel)
theorem dX12_missCouple_143 : decode cX12_missCouple 143 = .ok (.iconst 2, 1) := dc_5 (by decide +kernel)
theorem dX12_missCouple_144 : decode cX12_missCouple 144 = .ok (.iload 4, 2) := dc_21 (a := 4) (by decide +kernel)
theorem dX12_missCouple_146 : decode cX12_missCouple 146 = .ok (.imul, 1) := dc_104 (by decide +kernel)
theorem dX12_missCouple_147 : decode cX12_missCouple 147 = .ok (.aload_n 0, 1) := dc_42 (by decide +kernel)
theorem dX12_missCouple_148 : decode cX12_missCouple 148 = .ok (.getfield 378, 3) := dc_180 (a := 1) (b := 122) (by decide +kernel)
theorem dX12_missCouple_151 : decode cX12_missCouple 151 = .ok (.iadd, 1) := dc_96 (by decide +kernel)
theorem dX12_missCouple_152 : decode cX12_missCouple 152 = .ok (.iaload, 1) := dc_46 (by decide +kernel)
theorem dX12_missCouple_153 : decode cX12_missCouple 153 = .ok (.bipush (-4), 2) := dc_16 (a := 252) (by decide +kernel) (by decide)
theorem dX12_missCouple_155 : decode cX12_missCouple 155 = .ok (.if_icmp .ne 13, 3) := dc_160 (a := 0) (b := 13) (by decide +kernel) (by decide)
theorem dX12_missCouple_158 : decode cX12_missCouple 158 = .ok (.aload_n 0, 1) := dc_42 (by decide +kernel)
theorem dX12_missCouple_159 : decode cX12_missCouple 159 = .ok (.iload_n 1, 1) := dc_27 (by decide +kernel)
theorem dX12_missCouple_160 : decode cX12_missCouple 160 = .ok (.iload 4, 2) := dc_21 (a := 4) (by decide +kernel)
theorem dX12_missCouple_162 : decode cX12_missCouple 162 = .ok (.invokevirtual 381, 3) := dc_182 (a := 1) (b := 125) (by decide +kernel)
theorem dX12_missCouple_165 : decode cX12_missCouple 165 = .ok (.ifCond .eq 6, 3) := dc_153 (a := 0) (b := 6) (by decide +kernel) (by decide)
theorem dX12_missCouple_168 : decode cX12_missCouple 168 = .ok (.bipush 14, 2) := dc_16 (a := 14) (by decide +kernel) (by decide)
theorem dX12_missCouple_170 : decode cX12_missCouple 170 = .ok (.ireturn, 1) := dc_172 (by decide +kernel)
theorem dX12_missCouple_171 : decode cX12_missCouple 171 = .ok (.aload_n 0, 1) := dc_42 (by decide +kernel)
theorem dX12_missCouple_172 : decode cX12_missCouple 172 = .ok (.iload_n 1, 1) := dc_27 (by decide +kernel)
theorem dX12_missCouple_173 : decode cX12_missCouple 173 = .ok (.iload 4, 2) := dc_21 (a := 4) (by decide +kernel)
theorem dX12_missCouple_175 : decode cX12_missCouple 175 = .ok (.invokevirtual 384, 3) := dc_182 (a := 1) (b := 128) (by decide +kernel)
theorem dX12_missCouple_178 : decode cX12_missCouple 178 = .ok (.ifCond .eq 17, 3) := dc_153 (a := 0) (b := 17) (by decide +kernel) (by decide)
theorem dX12_missCouple_181 : decode cX12_missCouple 181 = .ok (.aload_n 0, 1) := dc_42 (by decide +kernel)
theorem dX12_missCouple_182 : decode cX12_missCouple 182 = .ok (.iload 4, 2) := dc_21 (a := 4) (by decide +kernel)
theorem dX12_missCouple_184 : decode cX12_missCouple 184 = .ok (.iload_n 1, 1) := dc_27 (by decide +kernel)
theorem dX12_missCouple_185 : decode cX12_missCouple 185 = .ok (.invokevirtual 384, 3) := dc_182 (a := 1) (b := 128) (by decide +kernel)
theorem dX12_missCouple_188 : decode cX12_missCouple 188 = .ok (.ifCond .eq 7, 3) := dc_153 (a := 0) (b := 7) (by decide +kernel) (by decide)
theorem dX12_missCouple_191 : decode cX12_missCouple 191 = .ok (.iconst 0, 1) := dc_3 (by decide +kernel)
theorem dX12_missCouple_192 : decode cX12_missCouple 192 = .ok (.goto 5, 3) := dc_167 (a := 0) (b := 5) (by decide +kernel) (by decide)
theorem dX12_missCouple_195 : decode cX12_missCouple 195 = .ok (.bipush 13, 2) := dc_16 (a := 13) (by decide +kernel) (by decide)
theorem dX12_missCouple_197 : decode cX12_missCouple 197 = .ok (.ireturn, 1) := dc_172 (by decide +kernel)
set_option maxRecDepth 100000 in
set_option maxHeartbeats 4000000 in
theorem w_M_missCouple_j136 {p : Program} {l : Launch} {e : Env} {R : Room} {s : State} {m : MethodId} {args : Array Value} {below : List Frame} {meth : Method} {c : Code} {dC : Nat → ClassId} {dI : Nat → Nat → Nat} {cs : Nat → ClassId} {ad : Nat → Nat} {A : Nat → Prop} {D0 : Nat → Nat} {S' : SS} {r : Int32} (F : Fx p s m args meth c cX12_missCouple 5 RX12 (some .int) dC dI cs A) (hR1 : 3 ≤ R.frames) (hR2 : 70 ≤ R.locals) (x1 : Int32) (x4 : Int32) (y0 : Int32) (S : SS) (h : f_M_missCouple_j136 x1 x4 y0 S = some (r, S')) : AW p l e R s m args below meth c dC dI cs ad A D0 (some (.int r)) S' 5 136 [(0, .ref (ad 0)), (1, .int x1), (4, .int x4)] [.int y0, .ref (ad 0)] S := by
  have hx := F.1.1
  have hb := F.1.2.1
  intro H locs ls w hl
  rw [f_M_missCouple_j136] at h
  refine s_putI (pc := 136) F w ds_0 vc_X12 vi_X12 tyX12_ok nmX12 (j := 67) rfl (by decide) kf_X12_378 rfl pd_I h dX12_missCouple_136 (fun S10 H locs h w => ?_)
  refine lv_aload_n (pc := 139) hx hb dX12_missCouple_139 rfl (lv_at hl 0 rfl) ?_
  refine s_getR (pc := 140) F w 23 ds_0 (j := 35) vc_X12 vi_X12 rfl (by decide) kf_X12_84 dX12_missCouple_140 ?_
  refine lv_iconst (pc := 143) (v := 2) hx hb dX12_missCouple_143 (by decide) ?_
  refine lv_iload (pc := 144) hx hb dX12_missCouple_144 (lv_at hl 2 rfl) ?_
  refine lv_imul (pc := 146) hx hb dX12_missCouple_146 ?_
  refine lv_aload_n (pc := 147) hx hb dX12_missCouple_147 rfl (lv_at hl 0 rfl) ?_
  refine s_getI (pc := 148) F w ds_0 (j := 67) vc_X12 vi_X12 rfl (by decide) kf_X12_378 dX12_missCouple_148 ?_
  refine lv_iadd (pc := 151) hx hb dX12_missCouple_151 ?_
  refine s_iald (pc := 152) F w ds_23 h dX12_missCouple_152 (fun h => ?_)
  refine lv_bipush (pc := 153) (v := -4) hx hb dX12_missCouple_153 (by decide) ?_
  refine lv_icmp_ne (pc := 155) (tgt := 168) hx hb dX12_missCouple_155 (by decide) (fun q => ?_) (fun q => ?_)
  · have h := ite_f q h
    refine lv_bipush (pc := 168) (v := 14) hx hb dX12_missCouple_168 (by decide) ?_
    exact s_iret F w h dX12_missCouple_170
  · have h := ite_t q h
    refine lv_aload_n (pc := 158) hx hb dX12_missCouple_158 rfl (lv_at hl 0 rfl) ?_
    refine lv_iload_n (pc := 159) hx hb dX12_missCouple_159 rfl (lv_at hl 1 rfl) ?_
    refine lv_iload (pc := 160) hx hb dX12_missCouple_160 (lv_at hl 2 rfl) ?_
    obtain ⟨r12, S11, hc, h⟩ := bnd_t h
    refine s_cvi (pc := 162) [.int x1, .int x4] (fun ad => [.ref (ad 0), .int x1, .int x4]) F w (m_M_areTogether _ _ _ _ _ hc) rfl rfl hl.1 ds_0 vc_X12 rfl ok_X12_areTogether rfl kc_X12_areTogether kl_X12_381 ki_X12_areTogether kv_X12_areTogether kn_X12 ⟨Nat.le_trans (by decide) hR1, Nat.le_trans (by decide) hR2⟩ ⟨Nat.zero_le _, Nat.zero_le _⟩ (Nat.le_of_ble_eq_true rfl) dX12_missCouple_162 (fun H locs w => ?_)
    refine lv_if_eq (pc := 165) (tgt := 171) hx hb dX12_missCouple_165 (by decide) (fun q => ?_) (fun q => ?_)
    · have h := ite_t q h
      refine lv_aload_n (pc := 171) hx hb dX12_missCouple_171 rfl (lv_at hl 0 rfl) ?_
      refine lv_iload_n (pc := 172) hx hb dX12_missCouple_172 rfl (lv_at hl 1 rfl) ?_
      refine lv_iload (pc := 173) hx hb dX12_missCouple_173 (lv_at hl 2 rfl) ?_
      obtain ⟨r14, S13, hc, h⟩ := bnd_t h
      refine s_cvi (pc := 175) [.int x1, .int x4] (fun ad => [.ref (ad 0), .int x1, .int x4]) F w (m_M_suits _ _ _ _ _ hc) rfl rfl hl.1 ds_0 vc_X12 rfl ok_X12_suits rfl kc_X12_suits kl_X12_384 ki_X12_suits kv_X12_suits kn_X12 ⟨Nat.le_trans (by decide) hR1, Nat.le_trans (by decide) hR2⟩ ⟨Nat.zero_le _, Nat.zero_le _⟩ (Nat.le_of_ble_eq_true rfl) dX12_missCouple_175 (fun H locs w => ?_)
      refine lv_if_eq (pc := 178) (tgt := 195) hx hb dX12_missCouple_178 (by decide) (fun q => ?_) (fun q => ?_)
      · have h := ite_t q h
        refine lv_bipush (pc := 195) (v := 13) hx hb dX12_missCouple_195 (by decide) ?_
        exact s_iret F w h dX12_missCouple_197
      · have h := ite_f q h
        refine lv_aload_n (pc := 181) hx hb dX12_missCouple_181 rfl (lv_at hl 0 rfl) ?_
        refine lv_iload (pc := 182) hx hb dX12_missCouple_182 (lv_at hl 2 rfl) ?_
        refine lv_iload_n (pc := 184) hx hb dX12_missCouple_184 rfl (lv_at hl 1 rfl) ?_
        obtain ⟨r16, S15, hc, h⟩ := bnd_t h
        refine s_cvi (pc := 185) [.int x4, .int x1] (fun ad => [.ref (ad 0), .int x4, .int x1]) F w (m_M_suits _ _ _ _ _ hc) rfl rfl hl.1 ds_0 vc_X12 rfl ok_X12_suits rfl kc_X12_suits kl_X12_384 ki_X12_suits kv_X12_suits kn_X12 ⟨Nat.le_trans (by decide) hR1, Nat.le_trans (by decide) hR2⟩ ⟨Nat.zero_le _, Nat.zero_le _⟩ (Nat.le_of_ble_eq_true rfl) dX12_missCouple_185 (fun H locs w => ?_)
        refine lv_if_eq (pc := 188) (tgt := 195) hx hb dX12_missCouple_188 (by decide) (fun q => ?_) (fun q => ?_)
        · have h := ite_t q h
          refine lv_bipush (pc := 195) (v := 13) hx hb dX12_missCouple_195 (by decide) ?_
          exact s_iret F w h dX12_missCouple_197
        · have h := ite_f q h
          refine lv_iconst (pc := 191) (v := 0) hx hb dX12_missCouple_191 (by decide) ?_
          refine lv_goto (pc := 192) (tgt := 197) hx hb dX12_missCouple_192 (by decide) ?_
          exact s_iret F w h dX12_missCouple_197
    · have h := ite_f q h
      refine lv_bipush (pc := 168) (v := 14) hx hb dX12_missCouple_168 (by decide) ?_
      exact s_iret F w h dX12_missCouple_170
set_option maxRecDepth 100000 in
set_option maxHeartbeats 4000000 in
theorem m_M_missCouple (a1 : Int32) (a2 : Int32) (S S' : SS) (r : Int32) (h : f_M_missCouple a1 a2 S = some (r, S')) : MT yX12_missCouple cX12_missCouple 5 (some .int) 3 70 (fun ad => [.ref (ad 0), .int a1, .int a2]) S (some (.int r)) S' := by
  refine MT.of RX12 (fun ad => [(0, .ref (ad 0)), (1, .int a1), (2, .int a2)]) (by decide) rfl (fun _ => Nat.le_of_ble_eq_true rfl) (fun _ => rfl) ?_
  intro p l e R s m args below meth c dC dI cs ad A hR1 hR2 F H locs ls w hl
  have hx := F.1.1
  have hb := F.1.2.1
  rw [f_M_missCouple] at h
  refine lv_aload_n (pc := 0) hx hb dX12_missCouple_0 rfl (lv_at hl 0 rfl) ?_
  refine lv_iload_n (pc := 1) hx hb dX12_missCouple_1 rfl (lv_at hl 1 rfl) ?_
  refine lv_iconst (pc := 2) (v := 0) hx hb dX12_missCouple_2 (by decide) ?_
  refine lv_iload_n (pc := 3) hx hb dX12_missCouple_3 rfl (lv_at hl 2 rfl) ?_
  obtain ⟨r2, S1, hc, h⟩ := bnd_t h
  refine s_cvi (pc := 4) [.int a1, .int (0 : Int32), .int a2] (fun ad => [.ref (ad 0), .int a1, .int (0 : Int32), .int a2]) F w (m_M_missSide _ _ _ _ _ _ hc) rfl rfl hl.1 ds_0 vc_X12 rfl ok_X12_missSide rfl kc_X12_missSide kl_X12_364 ki_X12_missSide kv_X12_missSide kn_X12 ⟨Nat.le_trans (by decide) hR1, Nat.le_trans (by decide) hR2⟩ ⟨Nat.zero_le _, Nat.zero_le _⟩ (Nat.le_of_ble_eq_true rfl) dX12_missCouple_4 (fun H locs w => ?_)
  refine lv_istore_n (pc := 7) (lv' := [(3, .int r2), (0, .ref (ad 0)), (1, .int a1), (2, .int a2)]) hx hb dX12_missCouple_7 rfl hl (by decide) rfl (fun ls hl => ?_)
  refine lv_iload_n (pc := 8) hx hb dX12_missCouple_8 rfl (lv_at hl 0 rfl) ?_
  refine lv_if_eq (pc := 9) (tgt := 14) hx hb dX12_missCouple_9 (by decide) (fun q => ?_) (fun q => ?_)
  · have h := ite_t q h
    refine lv_aload_n (pc := 14) hx hb dX12_missCouple_14 rfl (lv_at hl 1 rfl) ?_
    refine s_getR (pc := 15) F w 23 ds_0 (j := 35) vc_X12 vi_X12 rfl (by decide) kf_X12_84 dX12_missCouple_15 ?_
    refine lv_iconst (pc := 18) (v := 2) hx hb dX12_missCouple_18 (by decide) ?_
    refine lv_iload_n (pc := 19) hx hb dX12_missCouple_19 rfl (lv_at hl 2 rfl) ?_
    refine lv_imul (pc := 20) hx hb dX12_missCouple_20 ?_
    refine lv_iload_n (pc := 21) hx hb dX12_missCouple_21 rfl (lv_at hl 3 rfl) ?_
    refine lv_iadd (pc := 22) hx hb dX12_missCouple_22 ?_
    refine s_iald (pc := 23) F w ds_23 h dX12_missCouple_23 (fun h => ?_)
    refine lv_bipush (pc := 24) (v := -4) hx hb dX12_missCouple_24 (by decide) ?_
    refine lv_icmp_eq (pc := 26) (tgt := 32) hx hb dX12_missCouple_26 (by decide) (fun q => ?_) (fun q => ?_)
    · have h := ite_t q h
      refine lv_aload_n (pc := 32) hx hb dX12_missCouple_32 rfl (lv_at hl 1 rfl) ?_
      refine s_getR (pc := 33) F w 31 ds_0 (j := 43) vc_X12 vi_X12 rfl (by decide) kf_X12_108 dX12_missCouple_33 ?_
      refine lv_iload_n (pc := 36) hx hb dX12_missCouple_36 rfl (lv_at hl 2 rfl) ?_
      refine s_zald (pc := 37) F w ds_31 h dX12_missCouple_37 (fun h => ?_)
      refine lv_if_eq (pc := 38) (tgt := 44) hx hb dX12_missCouple_38 (by decide) (fun q => ?_) (fun q => ?_)
      · have h := ite_t q h
        refine lv_aload_n (pc := 44) hx hb dX12_missCouple_44 rfl (lv_at hl 1 rfl) ?_
        refine lv_aload_n (pc := 45) hx hb dX12_missCouple_45 rfl (lv_at hl 1 rfl) ?_
        refine s_getR (pc := 46) F w 20 ds_0 (j := 32) vc_X12 vi_X12 rfl (by decide) kf_X12_75 dX12_missCouple_46 ?_
        refine lv_iload_n (pc := 49) hx hb dX12_missCouple_49 rfl (lv_at hl 2 rfl) ?_
        refine s_iald (pc := 50) F w ds_20 h dX12_missCouple_50 (fun h => ?_)
        refine lv_aload_n (pc := 51) hx hb dX12_missCouple_51 rfl (lv_at hl 1 rfl) ?_
        refine s_getR (pc := 52) F w 21 ds_0 (j := 33) vc_X12 vi_X12 rfl (by decide) kf_X12_78 dX12_missCouple_52 ?_
        refine lv_iload_n (pc := 55) hx hb dX12_missCouple_55 rfl (lv_at hl 2 rfl) ?_
        refine s_iald (pc := 56) F w ds_21 h dX12_missCouple_56 (fun h => ?_)
        refine lv_aload_n (pc := 57) hx hb dX12_missCouple_57 rfl (lv_at hl 1 rfl) ?_
        refine lv_iload_n (pc := 58) hx hb dX12_missCouple_58 rfl (lv_at hl 2 rfl) ?_
        refine lv_iload_n (pc := 59) hx hb dX12_missCouple_59 rfl (lv_at hl 3 rfl) ?_
        obtain ⟨r4, S3, hc, h⟩ := bnd_t h
        refine s_cvi (pc := 60) [.int a1, .int a2] (fun ad => [.ref (ad 0), .int a1, .int a2]) F w (m_M_wayOf _ _ _ _ _ hc) rfl rfl hl.1 ds_0 vc_X12 rfl ok_X12_wayOf rfl kc_X12_wayOf kl_X12_368 ki_X12_wayOf kv_X12_wayOf kn_X12 ⟨Nat.le_trans (by decide) hR1, Nat.le_trans (by decide) hR2⟩ ⟨Nat.zero_le _, Nat.zero_le _⟩ (Nat.le_of_ble_eq_true rfl) dX12_missCouple_60 (fun H locs w => ?_)
        obtain ⟨r6, S5, hc, h⟩ := bnd_t h
        refine s_cvi (pc := 63) [.int (S1.1 20 a1.toNatClampNeg), .int (S1.1 21 a1.toNatClampNeg), .int r4] (fun ad => [.ref (ad 0), .int (S1.1 20 a1.toNatClampNeg), .int (S1.1 21 a1.toNatClampNeg), .int r4]) F w (m_M_isOpen _ _ _ _ _ _ hc) rfl rfl hl.1 ds_0 vc_X12 rfl ok_X12_isOpen rfl kc_X12_isOpen kl_X12_371 ki_X12_isOpen kv_X12_isOpen kn_X12 ⟨Nat.le_trans (by decide) hR1, Nat.le_trans (by decide) hR2⟩ ⟨Nat.zero_le _, Nat.zero_le _⟩ (Nat.le_of_ble_eq_true rfl) dX12_missCouple_63 (fun H locs w => ?_)
        refine lv_if_ne (pc := 66) (tgt := 72) hx hb dX12_missCouple_66 (by decide) (fun q => ?_) (fun q => ?_)
        · have h := ite_f q h
          refine lv_aload_n (pc := 72) hx hb dX12_missCouple_72 rfl (lv_at hl 1 rfl) ?_
          refine lv_aload_n (pc := 73) hx hb dX12_missCouple_73 rfl (lv_at hl 1 rfl) ?_
          refine s_getI (pc := 74) F w ds_0 (j := 26) vc_X12 vi_X12 rfl (by decide) kf_X12_245 dX12_missCouple_74 ?_
          refine lv_aload_n (pc := 77) hx hb dX12_missCouple_77 rfl (lv_at hl 1 rfl) ?_
          refine s_getI (pc := 78) F w ds_0 (j := 27) vc_X12 vi_X12 rfl (by decide) kf_X12_248 dX12_missCouple_78 ?_
          obtain ⟨r8, S7, hc, h⟩ := bnd_t h
          refine s_cvi (pc := 81) [.int (S5.1 0 26), .int (S5.1 0 27)] (fun ad => [.ref (ad 0), .int (S5.1 0 26), .int (S5.1 0 27)]) F w (m_M_standing _ _ _ _ _ hc) rfl rfl hl.1 ds_0 vc_X12 rfl ok_X12_standing rfl kc_X12_standing kl_X12_279 ki_X12_standing kv_X12_standing kn_X12 ⟨Nat.le_trans (by decide) hR1, Nat.le_trans (by decide) hR2⟩ ⟨Nat.zero_le _, Nat.zero_le _⟩ (Nat.le_of_ble_eq_true rfl) dX12_missCouple_81 (fun H locs w => ?_)
          refine lv_istore (pc := 84) (lv' := [(4, .int r8), (3, .int r2), (0, .ref (ad 0)), (1, .int a1), (2, .int a2)]) hx hb dX12_missCouple_84 hl (by decide) rfl (fun ls hl => ?_)
          refine lv_iload (pc := 86) hx hb dX12_missCouple_86 (lv_at hl 0 rfl) ?_
          refine lv_bipush (pc := 88) (v := -4) hx hb dX12_missCouple_88 (by decide) ?_
          refine lv_icmp_ne (pc := 90) (tgt := 95) hx hb dX12_missCouple_90 (by decide) (fun q => ?_) (fun q => ?_)
          · have h := ite_f q h
            refine lv_aload_n (pc := 95) hx hb dX12_missCouple_95 rfl (lv_at hl 2 rfl) ?_
            refine s_getR (pc := 96) F w 31 ds_0 (j := 43) vc_X12 vi_X12 rfl (by decide) kf_X12_108 dX12_missCouple_96 ?_
            refine lv_iload (pc := 99) hx hb dX12_missCouple_99 (lv_at hl 0 rfl) ?_
            refine s_zald (pc := 101) F w ds_31 h dX12_missCouple_101 (fun h => ?_)
            refine lv_if_eq (pc := 102) (tgt := 108) hx hb dX12_missCouple_102 (by decide) (fun q => ?_) (fun q => ?_)
            · have h := ite_t q h
              refine lv_aload_n (pc := 108) hx hb dX12_missCouple_108 rfl (lv_at hl 2 rfl) ?_
              refine lv_iload (pc := 109) hx hb dX12_missCouple_109 (lv_at hl 0 rfl) ?_
              refine s_putI (pc := 111) F w ds_0 vc_X12 vi_X12 tyX12_ok nmX12 (j := 66) rfl (by decide) kf_X12_375 rfl pd_I h dX12_missCouple_111 (fun S9 H locs h w => ?_)
              refine lv_aload_n (pc := 114) hx hb dX12_missCouple_114 rfl (lv_at hl 2 rfl) ?_
              refine lv_aload_n (pc := 115) hx hb dX12_missCouple_115 rfl (lv_at hl 2 rfl) ?_
              refine s_getR (pc := 116) F w 22 ds_0 (j := 34) vc_X12 vi_X12 rfl (by decide) kf_X12_81 dX12_missCouple_116 ?_
              refine lv_iload (pc := 119) hx hb dX12_missCouple_119 (lv_at hl 0 rfl) ?_
              refine s_iald (pc := 121) F w ds_22 h dX12_missCouple_121 (fun h => ?_)
              refine lv_iconst (pc := 122) (v := 1) hx hb dX12_missCouple_122 (by decide) ?_
              refine lv_aload_n (pc := 123) hx hb dX12_missCouple_123 rfl (lv_at hl 2 rfl) ?_
              refine s_getI (pc := 124) F w ds_0 (j := 28) vc_X12 vi_X12 rfl (by decide) kf_X12_251 dX12_missCouple_124 ?_
              refine lv_isub (pc := 127) hx hb dX12_missCouple_127 ?_
              refine lv_icmp_ne (pc := 128) (tgt := 135) hx hb dX12_missCouple_128 (by decide) (fun q => ?_) (fun q => ?_)
              · have h := ite_f q h
                refine lv_iconst (pc := 135) (v := 1) hx hb dX12_missCouple_135 (by decide) ?_
                exact w_M_missCouple_j136 F (Nat.le_trans (by decide) hR1) (Nat.le_trans (by decide) hR2) _ _ _ _ h _ _ _ w (lv_sub hl [2, 3, 0] rfl)
              · have h := ite_t q h
                refine lv_iconst (pc := 131) (v := 0) hx hb dX12_missCouple_131 (by decide) ?_
                refine lv_goto (pc := 132) (tgt := 136) hx hb dX12_missCouple_132 (by decide) ?_
                exact w_M_missCouple_j136 F (Nat.le_trans (by decide) hR1) (Nat.le_trans (by decide) hR2) _ _ _ _ h _ _ _ w (lv_sub hl [2, 3, 0] rfl)
            · have h := ite_f q h
              refine lv_bipush (pc := 105) (v := 16) hx hb dX12_missCouple_105 (by decide) ?_
              exact s_iret F w h dX12_missCouple_107
          · have h := ite_t q h
            refine lv_iconst (pc := 93) (v := 1) hx hb dX12_missCouple_93 (by decide) ?_
            exact s_iret F w h dX12_missCouple_94
        · have h := ite_t q h
          refine lv_bipush (pc := 69) (v := 10) hx hb dX12_missCouple_69 (by decide) ?_
          exact s_iret F w h dX12_missCouple_71
      · have h := ite_f q h
        refine lv_bipush (pc := 41) (v := 16) hx hb dX12_missCouple_41 (by decide) ?_
        exact s_iret F w h dX12_missCouple_43
    · have h := ite_f q h
      refine lv_bipush (pc := 29) (v := 14) hx hb dX12_missCouple_29 (by decide) ?_
      exact s_iret F w h dX12_missCouple_31
  · have h := ite_f q h
    refine lv_iload_n (pc := 12) hx hb dX12_missCouple_12 rfl (lv_at hl 0 rfl) ?_
    exact s_iret F w h dX12_missCouple_13
def f_M_renumber_L17  : Nat → Int32 → SS → Option (SS)
  | 0, _, _ => none
  | n + 1, x2, S =>
    if (S.1 0 56) ≤ x2 then
      some S
    else
      grd (inb x2 72) (
      grd (inb (S.1 39 x2.toNatClampNeg) 72) (wr S 24 (S.1 39 x2.toNatClampNeg).toNatClampNeg (S.1 0 49) (fun S3 =>
      grd (inb x2 72) (
      grd (inb (S3.1 39 x2.toNatClampNeg) 72) (wr S3 34 (S3.1 39 x2.toNatClampNeg).toNatClampNeg (vp_nar .boolean (0 : Int32)) (fun S4 =>
      nm (x2 + (1 : Int32)) (fun z5 =>
      f_M_renumber_L17 n z5 S4)))))))
def f_M_renumber (a1 : Int32) (S : SS) : Option (SS) :=
  wr S 0 49 ((S.1 0 49) + (1 : Int32)) (fun S1 =>
  bndv (f_M_lineUp a1 S1) (fun S2 =>
  f_M_renumber_L17 NF (0 : Int32) S2))
theorem dX12_renumber_0 : decode cX12_renumber 0 = .ok (.aload_n 0, 1) := dc_42 (by decide +kernel)
theorem dX12_renumber_1 : decode cX12_renumber 1 = .ok (.dup, 1) := dc_89 (by decide +kernel)
theorem dX12_renumber_2 : decode cX12_renumber 2 = .ok (.getfield 272, 3) := dc_180 (a := 1) (b := 16) (by decide +kernel)
theorem dX12_renumber_5 : decode cX12_renumber 5 = .ok (.iconst 1, 1) := dc_4 (by decide +kernel)
theorem dX12_renumber_6 : decode cX12_renumber 6 = .ok (.iadd, 1) := dc_96 (by decide +kernel)
theorem dX12_renumber_7 : decode cX12_renumber 7 = .ok (.putfield 272, 3) := dc_181 (a := 1) (b := 16) (by decide +kernel)
theorem dX12_renumber_10 : decode cX12_renumber 10 = .ok (.aload_n 0, 1) := dc_42 (by decide +kernel)
theorem dX12_renumber_11 : decode cX12_renumber 11 = .ok (.iload_n 1, 1) := dc_27 (by decide +kernel)
theorem dX12_renumber_12 : decode cX12_renumber 12 = .ok (.invokevirtual 325, 3) := dc_182 (a := 1) (b := 69) (by decide +kernel)
theorem dX12_renumber_15 : decode cX12_renumber 15 = .ok (.iconst 0, 1) := dc_3 (by decide +kernel)
theorem dX12_renumber_16 : decode cX12_renumber 16 = .ok (.istore_n 2, 1) := dc_61 (by decide +kernel)
theorem dX12_renumber_17 : decode cX12_renumber 17 = .ok (.iload_n 2, 1) := dc_28 (by decide +kernel)
theorem dX12_renumber_18 : decode cX12_renumber 18 = .ok (.aload_n 0, 1) := dc_42 (by decide +kernel)
theorem dX12_renumber_19 : decode cX12_renumber 19 = .ok (.getfield 319, 3) := dc_180 (a := 1) (b := 63) (by decide +kernel)
theorem dX12_renumber_22 : decode cX12_renumber 22 = .ok (.if_icmp .ge 36, 3) := dc_162 (a := 0) (b := 36) (by decide +kernel) (by decide)
theorem dX12_renumber_25 : decode cX12_renumber 25 = .ok (.aload_n 0, 1) := dc_42 (by decide +kernel)
theorem dX12_renumber_26 : decode cX12_renumber 26 = .ok (.getfield 87, 3) := dc_180 (a := 0) (b := 87) (by decide +kernel)
theorem dX12_renumber_29 : decode cX12_renumber 29 = .ok (.aload_n 0, 1) := dc_42 (by decide +kernel)
theorem dX12_renumber_30 : decode cX12_renumber 30 = .ok (.getfield 132, 3) := dc_180 (a := 0) (b := 132) (by decide +kernel)
theorem dX12_renumber_33 : decode cX12_renumber 33 = .ok (.iload_n 2, 1) := dc_28 (by decide +kernel)
theorem dX12_renumber_34 : decode cX12_renumber 34 = .ok (.iaload, 1) := dc_46 (by decide +kernel)
theorem dX12_renumber_35 : decode cX12_renumber 35 = .ok (.aload_n 0, 1) := dc_42 (by decide +kernel)
theorem dX12_renumber_36 : decode cX12_renumber 36 = .ok (.getfield 272, 3) := dc_180 (a := 1) (b := 16) (by decide +kernel)
theorem dX12_renumber_39 : decode cX12_renumber 39 = .ok (.iastore, 1) := dc_79 (by decide +kernel)
theorem dX12_renumber_40 : decode cX12_renumber 40 = .ok (.aload_n 0, 1) := dc_42 (by decide +kernel)
theorem dX12_renumber_41 : decode cX12_renumber 41 = .ok (.getfield 117, 3) := dc_180 (a := 0) (b := 117) (by decide +kernel)
theorem dX12_renumber_44 : decode cX12_renumber 44 = .ok (.aload_n 0, 1) := dc_42 (by decide +kernel)
theorem dX12_renumber_45 : decode cX12_renumber 45 = .ok (.getfield 132, 3) := dc_180 (a := 0) (b := 132) (by decide +kernel)
theorem dX12_renumber_48 : decode cX12_renumber 48 = .ok (.iload_n 2, 1) := dc_28 (by decide +kernel)
theorem dX12_renumber_49 : decode cX12_renumber 49 = .ok (.iaload, 1) := dc_46 (by decide +kernel)
theorem dX12_renumber_50 : decode cX12_renumber 50 = .ok (.iconst 0, 1) := dc_3 (by decide +kernel)
theorem dX12_renumber_51 : decode cX12_renumber 51 = .ok (.bastore, 1) := dc_84 (by decide +kernel)
theorem dX12_renumber_52 : decode cX12_renumber 52 = .ok (.iinc 2 1, 3) := dc_132 (a := 2) (b := 1) (by decide +kernel) (by decide)
theorem dX12_renumber_55 : decode cX12_renumber 55 = .ok (.goto (-38), 3) := dc_167 (a := 255) (b := 218) (by decide +kernel) (by decide)
theorem dX12_renumber_58 : decode cX12_renumber 58 = .ok (.return_, 1) := dc_177 (by decide +kernel)
set_option maxRecDepth 100000 in
set_option maxHeartbeats 4000000 in
theorem w_M_renumber_L17 {p : Program} {l : Launch} {e : Env} {R : Room} {s : State} {m : MethodId} {args : Array Value} {below : List Frame} {meth : Method} {c : Code} {dC : Nat → ClassId} {dI : Nat → Nat → Nat} {cs : Nat → ClassId} {ad : Nat → Nat} {A : Nat → Prop} {D0 : Nat → Nat} {S' : SS} (F : Fx p s m args meth c cX12_renumber 3 RX12 none dC dI cs A) (hR1 : 0 ≤ R.frames) (hR2 : 0 ≤ R.locals) : ∀ (n : Nat) (x2 : Int32) (S : SS), f_M_renumber_L17 n x2 S = some S' → AW p l e R s m args below meth c dC dI cs ad A D0 none S' 3 17 [(0, .ref (ad 0)), (2, .int x2)] [] S := by
  have hx := F.1.1
  have hb := F.1.2.1
  intro n
  induction n with
  | zero => intro x2 S h; cases h
  | succ n ih =>
    intro x2 S h H locs ls w hl
    rw [f_M_renumber_L17] at h
    refine lv_iload_n (pc := 17) hx hb dX12_renumber_17 rfl (lv_at hl 1 rfl) ?_
    refine lv_aload_n (pc := 18) hx hb dX12_renumber_18 rfl (lv_at hl 0 rfl) ?_
    refine s_getI (pc := 19) F w ds_0 (j := 56) vc_X12 vi_X12 rfl (by decide) kf_X12_319 dX12_renumber_19 ?_
    refine lv_icmp_ge (pc := 22) (tgt := 58) hx hb dX12_renumber_22 (by decide) (fun q => ?_) (fun q => ?_)
    · have h := ite_t q h
      exact s_vret F w h dX12_renumber_58
    · have h := ite_f q h
      refine lv_aload_n (pc := 25) hx hb dX12_renumber_25 rfl (lv_at hl 0 rfl) ?_
      refine s_getR (pc := 26) F w 24 ds_0 (j := 36) vc_X12 vi_X12 rfl (by decide) kf_X12_87 dX12_renumber_26 ?_
      refine lv_aload_n (pc := 29) hx hb dX12_renumber_29 rfl (lv_at hl 0 rfl) ?_
      refine s_getR (pc := 30) F w 39 ds_0 (j := 55) vc_X12 vi_X12 rfl (by decide) kf_X12_132 dX12_renumber_30 ?_
      refine lv_iload_n (pc := 33) hx hb dX12_renumber_33 rfl (lv_at hl 1 rfl) ?_
      refine s_iald (pc := 34) F w ds_39 h dX12_renumber_34 (fun h => ?_)
      refine lv_aload_n (pc := 35) hx hb dX12_renumber_35 rfl (lv_at hl 0 rfl) ?_
      refine s_getI (pc := 36) F w ds_0 (j := 49) vc_X12 vi_X12 rfl (by decide) kf_X12_272 dX12_renumber_36 ?_
      refine s_iast (pc := 39) F w ds_24 h dX12_renumber_39 (fun S3 H locs h w => ?_)
      refine lv_aload_n (pc := 40) hx hb dX12_renumber_40 rfl (lv_at hl 0 rfl) ?_
      refine s_getR (pc := 41) F w 34 ds_0 (j := 46) vc_X12 vi_X12 rfl (by decide) kf_X12_117 dX12_renumber_41 ?_
      refine lv_aload_n (pc := 44) hx hb dX12_renumber_44 rfl (lv_at hl 0 rfl) ?_
      refine s_getR (pc := 45) F w 39 ds_0 (j := 55) vc_X12 vi_X12 rfl (by decide) kf_X12_132 dX12_renumber_45 ?_
      refine lv_iload_n (pc := 48) hx hb dX12_renumber_48 rfl (lv_at hl 1 rfl) ?_
      refine s_iald (pc := 49) F w ds_39 h dX12_renumber_49 (fun h => ?_)
      refine lv_iconst (pc := 50) (v := 0) hx hb dX12_renumber_50 (by decide) ?_
      refine s_zast (pc := 51) F w ds_34 h dX12_renumber_51 (fun S4 H locs h w => ?_)
      refine s_nm h (fun z5 ez5 h => ?_)
      refine lv_iinc (pc := 52) (v := z5) (lv' := [(2, .int z5), (0, .ref (ad 0))]) hx hb dX12_renumber_52 hl (k := 1) rfl (by rw [ez5]; rfl) (by decide) rfl (fun ls hl => ?_)
      refine lv_goto (pc := 55) (tgt := 17) hx hb dX12_renumber_55 (by decide) ?_
      exact ih _ _ h _ _ _ w (lv_sub hl [1, 0] rfl)
set_option maxRecDepth 100000 in
set_option maxHeartbeats 4000000 in
theorem m_M_renumber (a1 : Int32) (S S' : SS) (h : f_M_renumber a1 S = some S') : MT yX12_renumber cX12_renumber 3 none 2 46 (fun ad => [.ref (ad 0), .int a1]) S none S' := by
  refine MT.of RX12 (fun ad => [(0, .ref (ad 0)), (1, .int a1)]) (by decide) rfl (fun _ => Nat.le_of_ble_eq_true rfl) (fun _ => rfl) ?_
  intro p l e R s m args below meth c dC dI cs ad A hR1 hR2 F H locs ls w hl
  have hx := F.1.1
  have hb := F.1.2.1
  rw [f_M_renumber] at h
  refine lv_aload_n (pc := 0) hx hb dX12_renumber_0 rfl (lv_at hl 0 rfl) ?_
  refine lv_dup (pc := 1) hx hb dX12_renumber_1 rfl ?_
  refine s_getI (pc := 2) F w ds_0 (j := 49) vc_X12 vi_X12 rfl (by decide) kf_X12_272 dX12_renumber_2 ?_
  refine lv_iconst (pc := 5) (v := 1) hx hb dX12_renumber_5 (by decide) ?_
  refine lv_iadd (pc := 6) hx hb dX12_renumber_6 ?_
  refine s_putI (pc := 7) F w ds_0 vc_X12 vi_X12 tyX12_ok nmX12 (j := 49) rfl (by decide) kf_X12_272 rfl pd_I h dX12_renumber_7 (fun S1 H locs h w => ?_)
  refine lv_aload_n (pc := 10) hx hb dX12_renumber_10 rfl (lv_at hl 0 rfl) ?_
  refine lv_iload_n (pc := 11) hx hb dX12_renumber_11 rfl (lv_at hl 1 rfl) ?_
  obtain ⟨S2, hc, h⟩ := bndv_t h
  refine s_cvv (pc := 12) [.int a1] (fun ad => [.ref (ad 0), .int a1]) F w (m_M_lineUp _ _ _ hc) rfl rfl hl.1 ds_0 vc_X12 rfl ok_X12_lineUp rfl kc_X12_lineUp kl_X12_325 ki_X12_lineUp kv_X12_lineUp kn_X12 ⟨Nat.le_trans (by decide) hR1, Nat.le_trans (by decide) hR2⟩ ⟨Nat.zero_le _, Nat.zero_le _⟩ (Nat.le_of_ble_eq_true rfl) dX12_renumber_12 (fun H locs w => ?_)
  refine lv_iconst (pc := 15) (v := 0) hx hb dX12_renumber_15 (by decide) ?_
  refine lv_istore_n (pc := 16) (lv' := [(2, .int (0 : Int32)), (0, .ref (ad 0)), (1, .int a1)]) hx hb dX12_renumber_16 rfl hl (by decide) rfl (fun ls hl => ?_)
  exact w_M_renumber_L17 F (Nat.le_trans (by decide) hR1) (Nat.le_trans (by decide) hR2) _ _ _ h _ _ _ w (lv_sub hl [1, 0] rfl)
def f_M_couple (a1 : Int32) (a2 : Int32) (S : SS) : Option (Int32 × SS) :=
  bndv (f_M_begin  S) (fun S1 =>
  bndv (f_M_keep  S1) (fun S2 =>
  bnd (f_M_missCouple a1 a2 S2) (fun r4 S3 =>
  bnd (f_M_ends r4 S3) (fun r6 S5 =>
  if r6 = 0 then
    grd (inb (((2 : Int32) * a1) + a2) 144) (wr S5 23 (((2 : Int32) * a1) + a2).toNatClampNeg (S5.1 0 66) (fun S7 =>
    grd (inb (((2 : Int32) * (S7.1 0 66)) + (S7.1 0 67)) 144) (wr S7 23 (((2 : Int32) * (S7.1 0 66)) + (S7.1 0 67)).toNatClampNeg a1 (fun S8 =>
    bndv (f_M_renumber a1 S8) (fun S9 =>
    bnd (f_M_entered (6 : Int32) (S9.1 0 66) S9) (fun r11 S10 =>
    some (r11, S10)))))))
  else
    bnd (f_M_entered (6 : Int32) (-2 : Int32) S5) (fun r13 S12 =>
    some (r13, S12))))))
theorem dX12_couple_0 : decode cX12_couple 0 = .ok (.aload_n 0, 1) := dc_42 (by decide +kernel)
theorem dX12_couple_1 : decode cX12_couple 1 = .ok (.invokevirtual 226, 3) := dc_182 (a := 0) (b := 226) (by decide +kernel)
theorem dX12_couple_4 : decode cX12_couple 4 = .ok (.aload_n 0, 1) := dc_42 (by decide +kernel)
theorem dX12_couple_5 : decode cX12_couple 5 = .ok (.invokevirtual 346, 3) := dc_182 (a := 1) (b := 90) (by decide +kernel)
theorem dX12_couple_8 : decode cX12_couple 8 = .ok (.aload_n 0, 1) := dc_42 (by decide +kernel)
theorem dX12_couple_9 : decode cX12_couple 9 = .ok (.aload_n 0, 1) := dc_42 (by decide +kernel)
theorem dX12_couple_10 : decode cX12_couple 10 = .ok (.iload_n 1, 1) := dc_27 (by decide +kernel)
theorem dX12_couple_11 : decode cX12_couple 11 = .ok (.iload_n 2, 1) := dc_28 (by decide +kernel)
theorem dX12_couple_12 : decode cX12_couple 12 = .ok (.invokevirtual 387, 3) := dc_182 (a := 1) (b := 131) (by decide +kernel)
theorem dX12_couple_15 : decode cX12_couple 15 = .ok (.invokevirtual 236, 3) := dc_182 (a := 0) (b := 236) (by decide +kernel)
theorem dX12_couple_18 : decode cX12_couple 18 = .ok (.ifCond .eq 12, 3) := dc_153 (a := 0) (b := 12) (by decide +kernel) (by decide)
theorem dX12_couple_21 : decode cX12_couple 21 = .ok (.aload_n 0, 1) := dc_42 (by decide +kernel)
theorem dX12_couple_22 : decode cX12_couple 22 = .ok (.bipush 6, 2) := dc_16 (a := 6) (by decide +kernel) (by decide)
theorem dX12_couple_24 : decode cX12_couple 24 = .ok (.bipush (-2), 2) := dc_16 (a := 254) (by decide +kernel) (by decide)
theorem dX12_couple_26 : decode cX12_couple 26 = .ok (.invokevirtual 349, 3) := dc_182 (a := 1) (b := 93) (by decide +kernel)
theorem dX12_couple_29 : decode cX12_couple 29 = .ok (.ireturn, 1) := dc_172 (by decide +kernel)
theorem dX12_couple_30 : decode cX12_couple 30 = .ok (.aload_n 0, 1) := dc_42 (by decide +kernel)
theorem dX12_couple_31 : decode cX12_couple 31 = .ok (.getfield 84, 3) := dc_180 (a := 0) (b := 84) (by decide +kernel)
theorem dX12_couple_34 : decode cX12_couple 34 = .ok (.iconst 2, 1) := dc_5 (by decide +kernel)
theorem dX12_couple_35 : decode cX12_couple 35 = .ok (.iload_n 1, 1) := dc_27 (by decide +kernel)
theorem dX12_couple_36 : decode cX12_couple 36 = .ok (.imul, 1) := dc_104 (by decide +kernel)
theorem dX12_couple_37 : decode cX12_couple 37 = .ok (.iload_n 2, 1) := dc_28 (by decide +kernel)
theorem dX12_couple_38 : decode cX12_couple 38 = .ok (.iadd, 1) := dc_96 (by decide +kernel)
theorem dX12_couple_39 : decode cX12_couple 39 = .ok (.aload_n 0, 1) := dc_42 (by decide +kernel)
theorem dX12_couple_40 : decode cX12_couple 40 = .ok (.getfield 375, 3) := dc_180 (a := 1) (b := 119) (by decide +kernel)
theorem dX12_couple_43 : decode cX12_couple 43 = .ok (.iastore, 1) := dc_79 (by decide +kernel)
theorem dX12_couple_44 : decode cX12_couple 44 = .ok (.aload_n 0, 1) := dc_42 (by decide +kernel)
theorem dX12_couple_45 : decode cX12_couple 45 = .ok (.getfield 84, 3) := dc_180 (a := 0) (b := 84) (by decide +kernel)
theorem dX12_couple_48 : decode cX12_couple 48 = .ok (.iconst 2, 1) := dc_5 (by decide +kernel)
theorem dX12_couple_49 : decode cX12_couple 49 = .ok (.aload_n 0, 1) := dc_42 (by decide +kernel)
theorem dX12_couple_50 : decode cX12_couple 50 = .ok (.getfield 375, 3) := dc_180 (a := 1) (b := 119) (by decide +kernel)
theorem dX12_couple_53 : decode cX12_couple 53 = .ok (.imul, 1) := dc_104 (by decide +kernel)
theorem dX12_couple_54 : decode cX12_couple 54 = .ok (.aload_n 0, 1) := dc_42 (by decide +kernel)
theorem dX12_couple_55 : decode cX12_couple 55 = .ok (.getfield 378, 3) := dc_180 (a := 1) (b := 122) (by decide +kernel)
theorem dX12_couple_58 : decode cX12_couple 58 = .ok (.iadd, 1) := dc_96 (by decide +kernel)
theorem dX12_couple_59 : decode cX12_couple 59 = .ok (.iload_n 1, 1) := dc_27 (by decide +kernel)
theorem dX12_couple_60 : decode cX12_couple 60 = .ok (.iastore, 1) := dc_79 (by decide +kernel)
theorem dX12_couple_61 : decode cX12_couple 61 = .ok (.aload_n 0, 1) := dc_42 (by decide +kernel)
theorem dX12_couple_62 : decode cX12_couple 62 = .ok (.iload_n 1, 1) := dc_27 (by decide +kernel)
theorem dX12_couple_63 : decode cX12_couple 63 = .ok (.invokevirtual 390, 3) := dc_182 (a := 1) (b := 134) (by decide +kernel)
theorem dX12_couple_66 : decode cX12_couple 66 = .ok (.aload_n 0, 1) := dc_42 (by decide +kernel)
theorem dX12_couple_67 : decode cX12_couple 67 = .ok (.bipush 6, 2) := dc_16 (a := 6) (by decide +kernel) (by decide)
theorem dX12_couple_69 : decode cX12_couple 69 = .ok (.aload_n 0, 1) := dc_42 (by decide +kernel)
theorem dX12_couple_70 : decode cX12_couple 70 = .ok (.getfield 375, 3) := dc_180 (a := 1) (b := 119) (by decide +kernel)
theorem dX12_couple_73 : decode cX12_couple 73 = .ok (.invokevirtual 349, 3) := dc_182 (a := 1) (b := 93) (by decide +kernel)
theorem dX12_couple_76 : decode cX12_couple 76 = .ok (.ireturn, 1) := dc_172 (by decide +kernel)
set_option maxRecDepth 100000 in
set_option maxHeartbeats 4000000 in
theorem m_M_couple (a1 : Int32) (a2 : Int32) (S S' : SS) (r : Int32) (h : f_M_couple a1 a2 S = some (r, S')) : MT yX12_couple cX12_couple 3 (some .int) 4 94 (fun ad => [.ref (ad 0), .int a1, .int a2]) S (some (.int r)) S' := by
  refine MT.of RX12 (fun ad => [(0, .ref (ad 0)), (1, .int a1), (2, .int a2)]) (by decide) rfl (fun _ => Nat.le_of_ble_eq_true rfl) (fun _ => rfl) ?_
  intro p l e R s m args below meth c dC dI cs ad A hR1 hR2 F H locs ls w hl
  have hx := F.1.1
  have hb := F.1.2.1
  rw [f_M_couple] at h
  refine lv_aload_n (pc := 0) hx hb dX12_couple_0 rfl (lv_at hl 0 rfl) ?_
  obtain ⟨S1, hc, h⟩ := bndv_t h
  refine s_cvv (pc := 1) [] (fun ad => [.ref (ad 0)]) F w (m_M_begin  _ _ hc) rfl rfl hl.1 ds_0 vc_X12 rfl ok_X12_begin rfl kc_X12_begin kl_X12_226 ki_X12_begin kv_X12_begin kn_X12 ⟨Nat.le_trans (by decide) hR1, Nat.le_trans (by decide) hR2⟩ ⟨Nat.zero_le _, Nat.zero_le _⟩ (Nat.le_of_ble_eq_true rfl) dX12_couple_1 (fun H locs w => ?_)
  refine lv_aload_n (pc := 4) hx hb dX12_couple_4 rfl (lv_at hl 0 rfl) ?_
  obtain ⟨S2, hc, h⟩ := bndv_t h
  refine s_cvv (pc := 5) [] (fun ad => [.ref (ad 0)]) F w (m_M_keep  _ _ hc) rfl rfl hl.1 ds_0 vc_X12 rfl ok_X12_keep rfl kc_X12_keep kl_X12_346 ki_X12_keep kv_X12_keep kn_X12 ⟨Nat.le_trans (by decide) hR1, Nat.le_trans (by decide) hR2⟩ ⟨Nat.zero_le _, Nat.zero_le _⟩ (Nat.le_of_ble_eq_true rfl) dX12_couple_5 (fun H locs w => ?_)
  refine lv_aload_n (pc := 8) hx hb dX12_couple_8 rfl (lv_at hl 0 rfl) ?_
  refine lv_aload_n (pc := 9) hx hb dX12_couple_9 rfl (lv_at hl 0 rfl) ?_
  refine lv_iload_n (pc := 10) hx hb dX12_couple_10 rfl (lv_at hl 1 rfl) ?_
  refine lv_iload_n (pc := 11) hx hb dX12_couple_11 rfl (lv_at hl 2 rfl) ?_
  obtain ⟨r4, S3, hc, h⟩ := bnd_t h
  refine s_cvi (pc := 12) [.int a1, .int a2] (fun ad => [.ref (ad 0), .int a1, .int a2]) F w (m_M_missCouple _ _ _ _ _ hc) rfl rfl hl.1 ds_0 vc_X12 rfl ok_X12_missCouple rfl kc_X12_missCouple kl_X12_387 ki_X12_missCouple kv_X12_missCouple kn_X12 ⟨Nat.le_trans (by decide) hR1, Nat.le_trans (by decide) hR2⟩ ⟨Nat.zero_le _, Nat.zero_le _⟩ (Nat.le_of_ble_eq_true rfl) dX12_couple_12 (fun H locs w => ?_)
  obtain ⟨r6, S5, hc, h⟩ := bnd_t h
  refine s_cvi (pc := 15) [.int r4] (fun ad => [.ref (ad 0), .int r4]) F w (m_M_ends _ _ _ _ hc) rfl rfl hl.1 ds_0 vc_X12 rfl ok_X12_ends rfl kc_X12_ends kl_X12_236 ki_X12_ends kv_X12_ends kn_X12 ⟨Nat.le_trans (by decide) hR1, Nat.le_trans (by decide) hR2⟩ ⟨Nat.zero_le _, Nat.zero_le _⟩ (Nat.le_of_ble_eq_true rfl) dX12_couple_15 (fun H locs w => ?_)
  refine lv_if_eq (pc := 18) (tgt := 30) hx hb dX12_couple_18 (by decide) (fun q => ?_) (fun q => ?_)
  · have h := ite_t q h
    refine lv_aload_n (pc := 30) hx hb dX12_couple_30 rfl (lv_at hl 0 rfl) ?_
    refine s_getR (pc := 31) F w 23 ds_0 (j := 35) vc_X12 vi_X12 rfl (by decide) kf_X12_84 dX12_couple_31 ?_
    refine lv_iconst (pc := 34) (v := 2) hx hb dX12_couple_34 (by decide) ?_
    refine lv_iload_n (pc := 35) hx hb dX12_couple_35 rfl (lv_at hl 1 rfl) ?_
    refine lv_imul (pc := 36) hx hb dX12_couple_36 ?_
    refine lv_iload_n (pc := 37) hx hb dX12_couple_37 rfl (lv_at hl 2 rfl) ?_
    refine lv_iadd (pc := 38) hx hb dX12_couple_38 ?_
    refine lv_aload_n (pc := 39) hx hb dX12_couple_39 rfl (lv_at hl 0 rfl) ?_
    refine s_getI (pc := 40) F w ds_0 (j := 66) vc_X12 vi_X12 rfl (by decide) kf_X12_375 dX12_couple_40 ?_
    refine s_iast (pc := 43) F w ds_23 h dX12_couple_43 (fun S7 H locs h w => ?_)
    refine lv_aload_n (pc := 44) hx hb dX12_couple_44 rfl (lv_at hl 0 rfl) ?_
    refine s_getR (pc := 45) F w 23 ds_0 (j := 35) vc_X12 vi_X12 rfl (by decide) kf_X12_84 dX12_couple_45 ?_
    refine lv_iconst (pc := 48) (v := 2) hx hb dX12_couple_48 (by decide) ?_
    refine lv_aload_n (pc := 49) hx hb dX12_couple_49 rfl (lv_at hl 0 rfl) ?_
    refine s_getI (pc := 50) F w ds_0 (j := 66) vc_X12 vi_X12 rfl (by decide) kf_X12_375 dX12_couple_50 ?_
    refine lv_imul (pc := 53) hx hb dX12_couple_53 ?_
    refine lv_aload_n (pc := 54) hx hb dX12_couple_54 rfl (lv_at hl 0 rfl) ?_
    refine s_getI (pc := 55) F w ds_0 (j := 67) vc_X12 vi_X12 rfl (by decide) kf_X12_378 dX12_couple_55 ?_
    refine lv_iadd (pc := 58) hx hb dX12_couple_58 ?_
    refine lv_iload_n (pc := 59) hx hb dX12_couple_59 rfl (lv_at hl 1 rfl) ?_
    refine s_iast (pc := 60) F w ds_23 h dX12_couple_60 (fun S8 H locs h w => ?_)
    refine lv_aload_n (pc := 61) hx hb dX12_couple_61 rfl (lv_at hl 0 rfl) ?_
    refine lv_iload_n (pc := 62) hx hb dX12_couple_62 rfl (lv_at hl 1 rfl) ?_
    obtain ⟨S9, hc, h⟩ := bndv_t h
    refine s_cvv (pc := 63) [.int a1] (fun ad => [.ref (ad 0), .int a1]) F w (m_M_renumber _ _ _ hc) rfl rfl hl.1 ds_0 vc_X12 rfl ok_X12_renumber rfl kc_X12_renumber kl_X12_390 ki_X12_renumber kv_X12_renumber kn_X12 ⟨Nat.le_trans (by decide) hR1, Nat.le_trans (by decide) hR2⟩ ⟨Nat.zero_le _, Nat.zero_le _⟩ (Nat.le_of_ble_eq_true rfl) dX12_couple_63 (fun H locs w => ?_)
    refine lv_aload_n (pc := 66) hx hb dX12_couple_66 rfl (lv_at hl 0 rfl) ?_
    refine lv_bipush (pc := 67) (v := 6) hx hb dX12_couple_67 (by decide) ?_
    refine lv_aload_n (pc := 69) hx hb dX12_couple_69 rfl (lv_at hl 0 rfl) ?_
    refine s_getI (pc := 70) F w ds_0 (j := 66) vc_X12 vi_X12 rfl (by decide) kf_X12_375 dX12_couple_70 ?_
    obtain ⟨r11, S10, hc, h⟩ := bnd_t h
    refine s_cvi (pc := 73) [.int (6 : Int32), .int (S9.1 0 66)] (fun ad => [.ref (ad 0), .int (6 : Int32), .int (S9.1 0 66)]) F w (m_M_entered _ _ _ _ _ hc) rfl rfl hl.1 ds_0 vc_X12 rfl ok_X12_entered rfl kc_X12_entered kl_X12_349 ki_X12_entered kv_X12_entered kn_X12 ⟨Nat.le_trans (by decide) hR1, Nat.le_trans (by decide) hR2⟩ ⟨Nat.zero_le _, Nat.zero_le _⟩ (Nat.le_of_ble_eq_true rfl) dX12_couple_73 (fun H locs w => ?_)
    exact s_iret F w h dX12_couple_76
  · have h := ite_f q h
    refine lv_aload_n (pc := 21) hx hb dX12_couple_21 rfl (lv_at hl 0 rfl) ?_
    refine lv_bipush (pc := 22) (v := 6) hx hb dX12_couple_22 (by decide) ?_
    refine lv_bipush (pc := 24) (v := -2) hx hb dX12_couple_24 (by decide) ?_
    obtain ⟨r13, S12, hc, h⟩ := bnd_t h
    refine s_cvi (pc := 26) [.int (6 : Int32), .int (-2 : Int32)] (fun ad => [.ref (ad 0), .int (6 : Int32), .int (-2 : Int32)]) F w (m_M_entered _ _ _ _ _ hc) rfl rfl hl.1 ds_0 vc_X12 rfl ok_X12_entered rfl kc_X12_entered kl_X12_349 ki_X12_entered kv_X12_entered kn_X12 ⟨Nat.le_trans (by decide) hR1, Nat.le_trans (by decide) hR2⟩ ⟨Nat.zero_le _, Nat.zero_le _⟩ (Nat.le_of_ble_eq_true rfl) dX12_couple_26 (fun H locs w => ?_)
    exact s_iret F w h dX12_couple_29
