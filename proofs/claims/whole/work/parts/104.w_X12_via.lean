/-! ===== printed by wip/gen: X12_via X9_get X9_isAs X8_isThere X11_named X9_putPiece X9_newLoad X11_load X12_isSuch X12_missThing X12_load X9_setPiece ===== -/
def f_X12_via_j134   (S : SS) : Option (Int32 × SS) :=
    bnd (f_X12_found (9 : Int32) S) (fun r9 S8 =>
    some (r9, S8))
def f_X12_via_j278  (x1 : Int32) (x2 : Int32) (x3 : Int32) (x4 : Int32) (x7 : Int32) (S : SS) : Option (Int32 × SS) :=
    grd (inb x7 96) (wr S 80 x7.toNatClampNeg x2 (fun S13 =>
    grd (inb x7 96) (wr S13 81 x7.toNatClampNeg x3 (fun S14 =>
    grd (inb x7 96) (wr S14 82 x7.toNatClampNeg x4 (fun S15 =>
    grd (inb x1 12) (
    grd (inb x1 12) (wr S15 79 x1.toNatClampNeg ((S15.1 79 x1.toNatClampNeg) + (1 : Int32)) (fun S16 =>
    bndv (f_X12_forget  S16) (fun S17 =>
    grd (inb x1 12) (
    some (S17.1 79 x1.toNatClampNeg, S17))))))))))))
def f_X12_via_j224 (K174 : Int32 → Int32 → Int32 → Int32 → Int32 → SS → Option (Int32 × SS)) (x1 : Int32) (x2 : Int32) (x3 : Int32) (x4 : Int32) (x7 : Int32) (S : SS) : Option (Int32 × SS) :=
    grd (inb (x7 - (1 : Int32)) 96) (
    grd (inb x7 96) (wr S 80 x7.toNatClampNeg (S.1 80 (x7 - (1 : Int32)).toNatClampNeg) (fun S18 =>
    grd (inb (x7 - (1 : Int32)) 96) (
    grd (inb x7 96) (wr S18 81 x7.toNatClampNeg (S18.1 81 (x7 - (1 : Int32)).toNatClampNeg) (fun S19 =>
    grd (inb (x7 - (1 : Int32)) 96) (
    grd (inb x7 96) (wr S19 82 x7.toNatClampNeg (S19.1 82 (x7 - (1 : Int32)).toNatClampNeg) (fun S20 =>
    nm (x7 + (-1 : Int32)) (fun z21 =>
    K174 x1 x2 x3 x4 z21 S20))))))))))
def f_X12_via_L174  : Nat → Int32 → Int32 → Int32 → Int32 → Int32 → SS → Option (Int32 × SS)
  | 0, _, _, _, _, _, _ => none
  | n + 1, x1, x2, x3, x4, x7, S =>
    if x7 ≤ ((8 : Int32) * x1) then
      f_X12_via_j278 x1 x2 x3 x4 x7 S
    else
      grd (inb (x7 - (1 : Int32)) 96) (
      if x4 < (S.1 82 (x7 - (1 : Int32)).toNatClampNeg) then
        f_X12_via_j224 (fun v0 v1 v2 v3 v4 S => f_X12_via_L174 n v0 v1 v2 v3 v4 S) x1 x2 x3 x4 x7 S
      else
        grd (inb (x7 - (1 : Int32)) 96) (
        if (S.1 82 (x7 - (1 : Int32)).toNatClampNeg) = x4 then
          grd (inb (x7 - (1 : Int32)) 96) (
          if (S.1 80 (x7 - (1 : Int32)).toNatClampNeg) ≤ x2 then
            f_X12_via_j278 x1 x2 x3 x4 x7 S
          else
            f_X12_via_j224 (fun v0 v1 v2 v3 v4 S => f_X12_via_L174 n v0 v1 v2 v3 v4 S) x1 x2 x3 x4 x7 S)
        else
          f_X12_via_j278 x1 x2 x3 x4 x7 S))
def f_X12_via_j102  (x1 : Int32) (x2 : Int32) (x3 : Int32) (x4 : Int32) (x5 : Int32) (x6 : Int32) (S : SS) : Option (Int32 × SS) :=
    bndv (f_X12_begin  S) (fun S5 =>
    bnd (f_X12_ends x5 S5) (fun r7 S6 =>
    if r7 = 0 then
      if x6 = 0 then
        grd (inb x1 12) (
        if (S6.1 79 x1.toNatClampNeg) = (8 : Int32) then
          f_X12_via_j134  S6
        else
          bnd (f_X12_isLocking x1 S6) (fun r11 S10 =>
          if r11 = 0 then
            grd (inb x1 12) (
            nm (((8 : Int32) * x1) + (S10.1 79 x1.toNatClampNeg)) (fun z12 =>
            f_X12_via_L174 NF x1 x2 x3 x4 z12 S10))
          else
            wr S10 14 3 x1 (fun S22 =>
            bnd (f_X12_found (11 : Int32) S22) (fun r24 S23 =>
            some (r24, S23)))))
      else
        f_X12_via_j134  S6
    else
      some ((-2 : Int32), S6)))
def f_X12_via_j94 (K52 : Int32 → Int32 → Int32 → Int32 → Int32 → Int32 → Int32 → SS → Option (Int32 × SS)) (x1 : Int32) (x2 : Int32) (x3 : Int32) (x4 : Int32) (x5 : Int32) (x7 : Int32) (y0 : Int32) (S : SS) : Option (Int32 × SS) :=
    nm (x7 + (1 : Int32)) (fun z25 =>
    K52 x1 x2 x3 x4 x5 y0 z25 S)
def f_X12_via_j89 (K52 : Int32 → Int32 → Int32 → Int32 → Int32 → Int32 → Int32 → SS → Option (Int32 × SS)) (x1 : Int32) (x2 : Int32) (x3 : Int32) (x4 : Int32) (x5 : Int32) (x7 : Int32) (S : SS) : Option (Int32 × SS) :=
    f_X12_via_j94 K52 x1 x2 x3 x4 x5 x7 (1 : Int32) S
def f_X12_via_L52  : Nat → Int32 → Int32 → Int32 → Int32 → Int32 → Int32 → Int32 → SS → Option (Int32 × SS)
  | 0, _, _, _, _, _, _, _, _ => none
  | n + 1, x1, x2, x3, x4, x5, x6, x7, S =>
    if x5 = 0 then
      grd (inb x1 12) (
      if (S.1 79 x1.toNatClampNeg) ≤ x7 then
        f_X12_via_j102 x1 x2 x3 x4 x5 x6 S
      else
        if x6 = 0 then
          grd (inb (((8 : Int32) * x1) + x7) 96) (
          if (S.1 80 (((8 : Int32) * x1) + x7).toNatClampNeg) = x2 then
            f_X12_via_j89 (fun v0 v1 v2 v3 v4 v5 v6 S => f_X12_via_L52 n v0 v1 v2 v3 v4 v5 v6 S) x1 x2 x3 x4 x5 x7 S
          else
            f_X12_via_j94 (fun v0 v1 v2 v3 v4 v5 v6 S => f_X12_via_L52 n v0 v1 v2 v3 v4 v5 v6 S) x1 x2 x3 x4 x5 x7 (0 : Int32) S)
        else
          f_X12_via_j89 (fun v0 v1 v2 v3 v4 v5 v6 S => f_X12_via_L52 n v0 v1 v2 v3 v4 v5 v6 S) x1 x2 x3 x4 x5 x7 S)
    else
      f_X12_via_j102 x1 x2 x3 x4 x5 x6 S
def f_X12_via_j44  (x1 : Int32) (x2 : Int32) (x3 : Int32) (x4 : Int32) (y0 : Int32) (S : SS) : Option (Int32 × SS) :=
    f_X12_via_L52 NF x1 x2 x3 x4 y0 (0 : Int32) (0 : Int32) S
def f_X12_via (a1 : Int32) (a2 : Int32) (a3 : Int32) (a4 : Int32) (S : SS) : Option (Int32 × SS) :=
  if a3 < 0 then
    some ((-1 : Int32), S)
  else
    if (2 : Int32) < a3 then
      some ((-1 : Int32), S)
    else
      if a4 < 0 then
        some ((-1 : Int32), S)
      else
        if a4 ≤ (99 : Int32) then
          bnd (f_X12_missRoute a1 S) (fun r2 S1 =>
          if r2 = 0 then
            bnd (f_X12_missPoint a2 S1) (fun r4 S3 =>
            f_X12_via_j44 a1 a2 a3 a4 r4 S3)
          else
            bnd (f_X12_missRoute a1 S1) (fun r27 S26 =>
            f_X12_via_j44 a1 a2 a3 a4 r27 S26))
        else
          some ((-1 : Int32), S)
theorem dX12_via_0 : decode cX12_via 0 = .ok (.iload_n 3, 1) := by decide +kernel
theorem dX12_via_1 : decode cX12_via 1 = .ok (.ifCond .lt 20, 3) := by decide +kernel
theorem dX12_via_4 : decode cX12_via 4 = .ok (.iload_n 3, 1) := by decide +kernel
theorem dX12_via_5 : decode cX12_via 5 = .ok (.iconst 2, 1) := by decide +kernel
theorem dX12_via_6 : decode cX12_via 6 = .ok (.if_icmp .gt 15, 3) := by decide +kernel
theorem dX12_via_9 : decode cX12_via 9 = .ok (.iload 4, 2) := by decide +kernel
theorem dX12_via_11 : decode cX12_via 11 = .ok (.ifCond .lt 10, 3) := by decide +kernel
theorem dX12_via_14 : decode cX12_via 14 = .ok (.iload 4, 2) := by decide +kernel
theorem dX12_via_16 : decode cX12_via 16 = .ok (.bipush 99, 2) := by decide +kernel
theorem dX12_via_18 : decode cX12_via 18 = .ok (.if_icmp .le 5, 3) := by decide +kernel
theorem dX12_via_21 : decode cX12_via 21 = .ok (.iconst (-1), 1) := by decide +kernel
theorem dX12_via_22 : decode cX12_via 22 = .ok (.ireturn, 1) := by decide +kernel
theorem dX12_via_23 : decode cX12_via 23 = .ok (.aload_n 0, 1) := by decide +kernel
theorem dX12_via_24 : decode cX12_via 24 = .ok (.iload_n 1, 1) := by decide +kernel
theorem dX12_via_25 : decode cX12_via 25 = .ok (.invokevirtual 260, 3) := by decide +kernel
theorem dX12_via_28 : decode cX12_via 28 = .ok (.ifCond .eq 11, 3) := by decide +kernel
theorem dX12_via_31 : decode cX12_via 31 = .ok (.aload_n 0, 1) := by decide +kernel
theorem dX12_via_32 : decode cX12_via 32 = .ok (.iload_n 1, 1) := by decide +kernel
theorem dX12_via_33 : decode cX12_via 33 = .ok (.invokevirtual 260, 3) := by decide +kernel
theorem dX12_via_36 : decode cX12_via 36 = .ok (.goto 8, 3) := by decide +kernel
theorem dX12_via_39 : decode cX12_via 39 = .ok (.aload_n 0, 1) := by decide +kernel
theorem dX12_via_40 : decode cX12_via 40 = .ok (.iload_n 2, 1) := by decide +kernel
theorem dX12_via_41 : decode cX12_via 41 = .ok (.invokevirtual 263, 3) := by decide +kernel
theorem dX12_via_44 : decode cX12_via 44 = .ok (.istore 5, 2) := by decide +kernel
theorem dX12_via_46 : decode cX12_via 46 = .ok (.iconst 0, 1) := by decide +kernel
theorem dX12_via_47 : decode cX12_via 47 = .ok (.istore 6, 2) := by decide +kernel
theorem dX12_via_49 : decode cX12_via 49 = .ok (.iconst 0, 1) := by decide +kernel
theorem dX12_via_50 : decode cX12_via 50 = .ok (.istore 7, 2) := by decide +kernel
theorem dX12_via_52 : decode cX12_via 52 = .ok (.iload 5, 2) := by decide +kernel
theorem dX12_via_54 : decode cX12_via 54 = .ok (.ifCond .ne 48, 3) := by decide +kernel
theorem dX12_via_57 : decode cX12_via 57 = .ok (.iload 7, 2) := by decide +kernel
theorem dX12_via_59 : decode cX12_via 59 = .ok (.aload_n 0, 1) := by decide +kernel
theorem dX12_via_60 : decode cX12_via 60 = .ok (.getfield 51, 3) := by decide +kernel
theorem dX12_via_63 : decode cX12_via 63 = .ok (.iload_n 1, 1) := by decide +kernel
theorem dX12_via_64 : decode cX12_via 64 = .ok (.iaload, 1) := by decide +kernel
theorem dX12_via_65 : decode cX12_via 65 = .ok (.if_icmp .ge 37, 3) := by decide +kernel
theorem dX12_via_68 : decode cX12_via 68 = .ok (.iload 6, 2) := by decide +kernel
theorem dX12_via_70 : decode cX12_via 70 = .ok (.ifCond .ne 19, 3) := by decide +kernel
theorem dX12_via_73 : decode cX12_via 73 = .ok (.aload_n 0, 1) := by decide +kernel
theorem dX12_via_74 : decode cX12_via 74 = .ok (.getfield 54, 3) := by decide +kernel
theorem dX12_via_77 : decode cX12_via 77 = .ok (.bipush 8, 2) := by decide +kernel
theorem dX12_via_79 : decode cX12_via 79 = .ok (.iload_n 1, 1) := by decide +kernel
theorem dX12_via_80 : decode cX12_via 80 = .ok (.imul, 1) := by decide +kernel
theorem dX12_via_81 : decode cX12_via 81 = .ok (.iload 7, 2) := by decide +kernel
theorem dX12_via_83 : decode cX12_via 83 = .ok (.iadd, 1) := by decide +kernel
theorem dX12_via_84 : decode cX12_via 84 = .ok (.iaload, 1) := by decide +kernel
theorem dX12_via_85 : decode cX12_via 85 = .ok (.iload_n 2, 1) := by decide +kernel
theorem dX12_via_86 : decode cX12_via 86 = .ok (.if_icmp .ne 7, 3) := by decide +kernel
theorem dX12_via_89 : decode cX12_via 89 = .ok (.iconst 1, 1) := by decide +kernel
theorem dX12_via_90 : decode cX12_via 90 = .ok (.goto 4, 3) := by decide +kernel
theorem dX12_via_93 : decode cX12_via 93 = .ok (.iconst 0, 1) := by decide +kernel
theorem dX12_via_94 : decode cX12_via 94 = .ok (.istore 6, 2) := by decide +kernel
theorem dX12_via_96 : decode cX12_via 96 = .ok (.iinc 7 1, 3) := by decide +kernel
theorem dX12_via_99 : decode cX12_via 99 = .ok (.goto (-47), 3) := by decide +kernel
theorem dX12_via_102 : decode cX12_via 102 = .ok (.aload_n 0, 1) := by decide +kernel
theorem dX12_via_103 : decode cX12_via 103 = .ok (.invokevirtual 226, 3) := by decide +kernel
theorem dX12_via_106 : decode cX12_via 106 = .ok (.aload_n 0, 1) := by decide +kernel
theorem dX12_via_107 : decode cX12_via 107 = .ok (.iload 5, 2) := by decide +kernel
theorem dX12_via_109 : decode cX12_via 109 = .ok (.invokevirtual 236, 3) := by decide +kernel
theorem dX12_via_112 : decode cX12_via 112 = .ok (.ifCond .eq 6, 3) := by decide +kernel
theorem dX12_via_115 : decode cX12_via 115 = .ok (.bipush (-2), 2) := by decide +kernel
theorem dX12_via_117 : decode cX12_via 117 = .ok (.ireturn, 1) := by decide +kernel
theorem dX12_via_118 : decode cX12_via 118 = .ok (.iload 6, 2) := by decide +kernel
theorem dX12_via_120 : decode cX12_via 120 = .ok (.ifCond .ne 14, 3) := by decide +kernel
theorem dX12_via_123 : decode cX12_via 123 = .ok (.aload_n 0, 1) := by decide +kernel
theorem dX12_via_124 : decode cX12_via 124 = .ok (.getfield 51, 3) := by decide +kernel
theorem dX12_via_127 : decode cX12_via 127 = .ok (.iload_n 1, 1) := by decide +kernel
theorem dX12_via_128 : decode cX12_via 128 = .ok (.iaload, 1) := by decide +kernel
theorem dX12_via_129 : decode cX12_via 129 = .ok (.bipush 8, 2) := by decide +kernel
theorem dX12_via_131 : decode cX12_via 131 = .ok (.if_icmp .ne 10, 3) := by decide +kernel
theorem dX12_via_134 : decode cX12_via 134 = .ok (.aload_n 0, 1) := by decide +kernel
theorem dX12_via_135 : decode cX12_via 135 = .ok (.bipush 9, 2) := by decide +kernel
theorem dX12_via_137 : decode cX12_via 137 = .ok (.invokevirtual 210, 3) := by decide +kernel
theorem dX12_via_140 : decode cX12_via 140 = .ok (.ireturn, 1) := by decide +kernel
theorem dX12_via_141 : decode cX12_via 141 = .ok (.aload_n 0, 1) := by decide +kernel
theorem dX12_via_142 : decode cX12_via 142 = .ok (.iload_n 1, 1) := by decide +kernel
theorem dX12_via_143 : decode cX12_via 143 = .ok (.invokevirtual 266, 3) := by decide +kernel
theorem dX12_via_146 : decode cX12_via 146 = .ok (.ifCond .eq 15, 3) := by decide +kernel
theorem dX12_via_149 : decode cX12_via 149 = .ok (.aload_n 0, 1) := by decide +kernel
theorem dX12_via_150 : decode cX12_via 150 = .ok (.iload_n 1, 1) := by decide +kernel
theorem dX12_via_151 : decode cX12_via 151 = .ok (.putfield 13, 3) := by decide +kernel
theorem dX12_via_154 : decode cX12_via 154 = .ok (.aload_n 0, 1) := by decide +kernel
theorem dX12_via_155 : decode cX12_via 155 = .ok (.bipush 11, 2) := by decide +kernel
theorem dX12_via_157 : decode cX12_via 157 = .ok (.invokevirtual 210, 3) := by decide +kernel
theorem dX12_via_160 : decode cX12_via 160 = .ok (.ireturn, 1) := by decide +kernel
theorem dX12_via_161 : decode cX12_via 161 = .ok (.bipush 8, 2) := by decide +kernel
theorem dX12_via_163 : decode cX12_via 163 = .ok (.iload_n 1, 1) := by decide +kernel
theorem dX12_via_164 : decode cX12_via 164 = .ok (.imul, 1) := by decide +kernel
theorem dX12_via_165 : decode cX12_via 165 = .ok (.aload_n 0, 1) := by decide +kernel
theorem dX12_via_166 : decode cX12_via 166 = .ok (.getfield 51, 3) := by decide +kernel
theorem dX12_via_169 : decode cX12_via 169 = .ok (.iload_n 1, 1) := by decide +kernel
theorem dX12_via_170 : decode cX12_via 170 = .ok (.iaload, 1) := by decide +kernel
theorem dX12_via_171 : decode cX12_via 171 = .ok (.iadd, 1) := by decide +kernel
theorem dX12_via_172 : decode cX12_via 172 = .ok (.istore 7, 2) := by decide +kernel
theorem dX12_via_174 : decode cX12_via 174 = .ok (.iload 7, 2) := by decide +kernel
theorem dX12_via_176 : decode cX12_via 176 = .ok (.bipush 8, 2) := by decide +kernel
theorem dX12_via_178 : decode cX12_via 178 = .ok (.iload_n 1, 1) := by decide +kernel
theorem dX12_via_179 : decode cX12_via 179 = .ok (.imul, 1) := by decide +kernel
theorem dX12_via_180 : decode cX12_via 180 = .ok (.if_icmp .le 98, 3) := by decide +kernel
theorem dX12_via_183 : decode cX12_via 183 = .ok (.aload_n 0, 1) := by decide +kernel
theorem dX12_via_184 : decode cX12_via 184 = .ok (.getfield 60, 3) := by decide +kernel
theorem dX12_via_187 : decode cX12_via 187 = .ok (.iload 7, 2) := by decide +kernel
theorem dX12_via_189 : decode cX12_via 189 = .ok (.iconst 1, 1) := by decide +kernel
theorem dX12_via_190 : decode cX12_via 190 = .ok (.isub, 1) := by decide +kernel
theorem dX12_via_191 : decode cX12_via 191 = .ok (.iaload, 1) := by decide +kernel
theorem dX12_via_192 : decode cX12_via 192 = .ok (.iload 4, 2) := by decide +kernel
theorem dX12_via_194 : decode cX12_via 194 = .ok (.if_icmp .gt 30, 3) := by decide +kernel
theorem dX12_via_197 : decode cX12_via 197 = .ok (.aload_n 0, 1) := by decide +kernel
theorem dX12_via_198 : decode cX12_via 198 = .ok (.getfield 60, 3) := by decide +kernel
theorem dX12_via_201 : decode cX12_via 201 = .ok (.iload 7, 2) := by decide +kernel
theorem dX12_via_203 : decode cX12_via 203 = .ok (.iconst 1, 1) := by decide +kernel
theorem dX12_via_204 : decode cX12_via 204 = .ok (.isub, 1) := by decide +kernel
theorem dX12_via_205 : decode cX12_via 205 = .ok (.iaload, 1) := by decide +kernel
theorem dX12_via_206 : decode cX12_via 206 = .ok (.iload 4, 2) := by decide +kernel
theorem dX12_via_208 : decode cX12_via 208 = .ok (.if_icmp .ne 70, 3) := by decide +kernel
theorem dX12_via_211 : decode cX12_via 211 = .ok (.aload_n 0, 1) := by decide +kernel
theorem dX12_via_212 : decode cX12_via 212 = .ok (.getfield 54, 3) := by decide +kernel
theorem dX12_via_215 : decode cX12_via 215 = .ok (.iload 7, 2) := by decide +kernel
theorem dX12_via_217 : decode cX12_via 217 = .ok (.iconst 1, 1) := by decide +kernel
theorem dX12_via_218 : decode cX12_via 218 = .ok (.isub, 1) := by decide +kernel
theorem dX12_via_219 : decode cX12_via 219 = .ok (.iaload, 1) := by decide +kernel
theorem dX12_via_220 : decode cX12_via 220 = .ok (.iload_n 2, 1) := by decide +kernel
theorem dX12_via_221 : decode cX12_via 221 = .ok (.if_icmp .le 57, 3) := by decide +kernel
theorem dX12_via_224 : decode cX12_via 224 = .ok (.aload_n 0, 1) := by decide +kernel
theorem dX12_via_225 : decode cX12_via 225 = .ok (.getfield 54, 3) := by decide +kernel
theorem dX12_via_228 : decode cX12_via 228 = .ok (.iload 7, 2) := by decide +kernel
theorem dX12_via_230 : decode cX12_via 230 = .ok (.aload_n 0, 1) := by decide +kernel
theorem dX12_via_231 : decode cX12_via 231 = .ok (.getfield 54, 3) := by decide +kernel
theorem dX12_via_234 : decode cX12_via 234 = .ok (.iload 7, 2) := by decide +kernel
theorem dX12_via_236 : decode cX12_via 236 = .ok (.iconst 1, 1) := by decide +kernel
theorem dX12_via_237 : decode cX12_via 237 = .ok (.isub, 1) := by decide +kernel
theorem dX12_via_238 : decode cX12_via 238 = .ok (.iaload, 1) := by decide +kernel
theorem dX12_via_239 : decode cX12_via 239 = .ok (.iastore, 1) := by decide +kernel
theorem dX12_via_240 : decode cX12_via 240 = .ok (.aload_n 0, 1) := by decide +kernel
theorem dX12_via_241 : decode cX12_via 241 = .ok (.getfield 57, 3) := by decide +kernel
theorem dX12_via_244 : decode cX12_via 244 = .ok (.iload 7, 2) := by decide +kernel
theorem dX12_via_246 : decode cX12_via 246 = .ok (.aload_n 0, 1) := by decide +kernel
theorem dX12_via_247 : decode cX12_via 247 = .ok (.getfield 57, 3) := by decide +kernel
theorem dX12_via_250 : decode cX12_via 250 = .ok (.iload 7, 2) := by decide +kernel
theorem dX12_via_252 : decode cX12_via 252 = .ok (.iconst 1, 1) := by decide +kernel
theorem dX12_via_253 : decode cX12_via 253 = .ok (.isub, 1) := by decide +kernel
theorem dX12_via_254 : decode cX12_via 254 = .ok (.iaload, 1) := by decide +kernel
theorem dX12_via_255 : decode cX12_via 255 = .ok (.iastore, 1) := by decide +kernel
theorem dX12_via_256 : decode cX12_via 256 = .ok (.aload_n 0, 1) := by decide +kernel
theorem dX12_via_257 : decode cX12_via 257 = .ok (.getfield 60, 3) := by decide +kernel
theorem dX12_via_260 : decode cX12_via 260 = .ok (.iload 7, 2) := by decide +kernel
theorem dX12_via_262 : decode cX12_via 262 = .ok (.aload_n 0, 1) := by decide +kernel
theorem dX12_via_263 : decode cX12_via 263 = .ok (.getfield 60, 3) := by decide +kernel
theorem dX12_via_266 : decode cX12_via 266 = .ok (.iload 7, 2) := by decide +kernel
theorem dX12_via_268 : decode cX12_via 268 = .ok (.iconst 1, 1) := by decide +kernel
theorem dX12_via_269 : decode cX12_via 269 = .ok (.isub, 1) := by decide +kernel
theorem dX12_via_270 : decode cX12_via 270 = .ok (.iaload, 1) := by decide +kernel
theorem dX12_via_271 : decode cX12_via 271 = .ok (.iastore, 1) := by decide +kernel
theorem dX12_via_272 : decode cX12_via 272 = .ok (.iinc 7 (-1), 3) := by decide +kernel
theorem dX12_via_275 : decode cX12_via 275 = .ok (.goto (-101), 3) := by decide +kernel
theorem dX12_via_278 : decode cX12_via 278 = .ok (.aload_n 0, 1) := by decide +kernel
theorem dX12_via_279 : decode cX12_via 279 = .ok (.getfield 54, 3) := by decide +kernel
theorem dX12_via_282 : decode cX12_via 282 = .ok (.iload 7, 2) := by decide +kernel
theorem dX12_via_284 : decode cX12_via 284 = .ok (.iload_n 2, 1) := by decide +kernel
theorem dX12_via_285 : decode cX12_via 285 = .ok (.iastore, 1) := by decide +kernel
theorem dX12_via_286 : decode cX12_via 286 = .ok (.aload_n 0, 1) := by decide +kernel
theorem dX12_via_287 : decode cX12_via 287 = .ok (.getfield 57, 3) := by decide +kernel
theorem dX12_via_290 : decode cX12_via 290 = .ok (.iload 7, 2) := by decide +kernel
theorem dX12_via_292 : decode cX12_via 292 = .ok (.iload_n 3, 1) := by decide +kernel
theorem dX12_via_293 : decode cX12_via 293 = .ok (.iastore, 1) := by decide +kernel
theorem dX12_via_294 : decode cX12_via 294 = .ok (.aload_n 0, 1) := by decide +kernel
theorem dX12_via_295 : decode cX12_via 295 = .ok (.getfield 60, 3) := by decide +kernel
theorem dX12_via_298 : decode cX12_via 298 = .ok (.iload 7, 2) := by decide +kernel
theorem dX12_via_300 : decode cX12_via 300 = .ok (.iload 4, 2) := by decide +kernel
theorem dX12_via_302 : decode cX12_via 302 = .ok (.iastore, 1) := by decide +kernel
theorem dX12_via_303 : decode cX12_via 303 = .ok (.aload_n 0, 1) := by decide +kernel
theorem dX12_via_304 : decode cX12_via 304 = .ok (.getfield 51, 3) := by decide +kernel
theorem dX12_via_307 : decode cX12_via 307 = .ok (.iload_n 1, 1) := by decide +kernel
theorem dX12_via_308 : decode cX12_via 308 = .ok (.dup2, 1) := by decide +kernel
theorem dX12_via_309 : decode cX12_via 309 = .ok (.iaload, 1) := by decide +kernel
theorem dX12_via_310 : decode cX12_via 310 = .ok (.iconst 1, 1) := by decide +kernel
theorem dX12_via_311 : decode cX12_via 311 = .ok (.iadd, 1) := by decide +kernel
theorem dX12_via_312 : decode cX12_via 312 = .ok (.iastore, 1) := by decide +kernel
theorem dX12_via_313 : decode cX12_via 313 = .ok (.aload_n 0, 1) := by decide +kernel
theorem dX12_via_314 : decode cX12_via 314 = .ok (.invokevirtual 229, 3) := by decide +kernel
theorem dX12_via_317 : decode cX12_via 317 = .ok (.aload_n 0, 1) := by decide +kernel
theorem dX12_via_318 : decode cX12_via 318 = .ok (.getfield 51, 3) := by decide +kernel
theorem dX12_via_321 : decode cX12_via 321 = .ok (.iload_n 1, 1) := by decide +kernel
theorem dX12_via_322 : decode cX12_via 322 = .ok (.iaload, 1) := by decide +kernel
theorem dX12_via_323 : decode cX12_via 323 = .ok (.ireturn, 1) := by decide +kernel
set_option maxRecDepth 100000 in
set_option maxHeartbeats 4000000 in
theorem w_X12_via_j134 {p : Program} {l : Launch} {e : Env} {R : Room} {s : State} {m : MethodId} {args : Array Value} {below : List Frame} {meth : Method} {c : Code} {dC : Nat → ClassId} {dI : Nat → Nat → Nat} {cs : Nat → ClassId} {ad : Nat → Nat} {A : Nat → Prop} {D0 : Nat → Nat} {S' : SS} {r : Int32} (F : Fx p s m args meth c cX12_via 8 RX12 (some .int) dC dI cs A) (hR1 : 1 ≤ R.frames) (hR2 : 21 ≤ R.locals)  (S : SS) (h : f_X12_via_j134  S = some (r, S')) : AW p l e R s m args below meth c dC dI cs ad A D0 (some (.int r)) S' 8 134 [(0, .ref (ad 14))] [] S := by
  have hx := F.1.1
  have hb := F.1.2.1
  intro H locs ls w hl
  rw [f_X12_via_j134] at h
  refine lv_aload_n (pc := 134) hx hb dX12_via_134 rfl (lv_at hl 0 rfl) ?_
  refine lv_bipush (pc := 135) (v := 9) hx hb dX12_via_135 (by decide) ?_
  obtain ⟨r9, S8, hc, h⟩ := bnd_t h
  refine s_cvi (pc := 137) [.int (9 : Int32)] (fun ad => [.ref (ad 14), .int (9 : Int32)]) F w (m_X12_found _ _ _ _ hc) rfl rfl hl.1 ds_14 vc_X12 rfl ok_X12_found rfl kc_X12_found kl_X12_210 ki_X12_found kv_X12_found kn_X12 ⟨Nat.le_trans (by decide) hR1, Nat.le_trans (by decide) hR2⟩ ⟨Nat.zero_le _, Nat.zero_le _⟩ (Nat.le_of_ble_eq_true rfl) dX12_via_137 (fun H locs w => ?_)
  exact s_iret F w h dX12_via_140
set_option maxRecDepth 100000 in
set_option maxHeartbeats 4000000 in
theorem w_X12_via_j278 {p : Program} {l : Launch} {e : Env} {R : Room} {s : State} {m : MethodId} {args : Array Value} {below : List Frame} {meth : Method} {c : Code} {dC : Nat → ClassId} {dI : Nat → Nat → Nat} {cs : Nat → ClassId} {ad : Nat → Nat} {A : Nat → Prop} {D0 : Nat → Nat} {S' : SS} {r : Int32} (F : Fx p s m args meth c cX12_via 8 RX12 (some .int) dC dI cs A) (hR1 : 1 ≤ R.frames) (hR2 : 20 ≤ R.locals) (x1 : Int32) (x2 : Int32) (x3 : Int32) (x4 : Int32) (x7 : Int32) (S : SS) (h : f_X12_via_j278 x1 x2 x3 x4 x7 S = some (r, S')) : AW p l e R s m args below meth c dC dI cs ad A D0 (some (.int r)) S' 8 278 [(0, .ref (ad 14)), (1, .int x1), (2, .int x2), (3, .int x3), (4, .int x4), (7, .int x7)] [] S := by
  have hx := F.1.1
  have hb := F.1.2.1
  intro H locs ls w hl
  rw [f_X12_via_j278] at h
  refine lv_aload_n (pc := 278) hx hb dX12_via_278 rfl (lv_at hl 0 rfl) ?_
  refine s_getR (pc := 279) F w 80 ds_14 (j := 21) vc_X12 vi_X12 rfl (by decide) kf_X12_54 dX12_via_279 ?_
  refine lv_iload (pc := 282) hx hb dX12_via_282 (lv_at hl 5 rfl) ?_
  refine lv_iload_n (pc := 284) hx hb dX12_via_284 rfl (lv_at hl 2 rfl) ?_
  refine s_iast (pc := 285) F w ds_80 h dX12_via_285 (fun S13 H locs h w => ?_)
  refine lv_aload_n (pc := 286) hx hb dX12_via_286 rfl (lv_at hl 0 rfl) ?_
  refine s_getR (pc := 287) F w 81 ds_14 (j := 22) vc_X12 vi_X12 rfl (by decide) kf_X12_57 dX12_via_287 ?_
  refine lv_iload (pc := 290) hx hb dX12_via_290 (lv_at hl 5 rfl) ?_
  refine lv_iload_n (pc := 292) hx hb dX12_via_292 rfl (lv_at hl 3 rfl) ?_
  refine s_iast (pc := 293) F w ds_81 h dX12_via_293 (fun S14 H locs h w => ?_)
  refine lv_aload_n (pc := 294) hx hb dX12_via_294 rfl (lv_at hl 0 rfl) ?_
  refine s_getR (pc := 295) F w 82 ds_14 (j := 23) vc_X12 vi_X12 rfl (by decide) kf_X12_60 dX12_via_295 ?_
  refine lv_iload (pc := 298) hx hb dX12_via_298 (lv_at hl 5 rfl) ?_
  refine lv_iload (pc := 300) hx hb dX12_via_300 (lv_at hl 4 rfl) ?_
  refine s_iast (pc := 302) F w ds_82 h dX12_via_302 (fun S15 H locs h w => ?_)
  refine lv_aload_n (pc := 303) hx hb dX12_via_303 rfl (lv_at hl 0 rfl) ?_
  refine s_getR (pc := 304) F w 79 ds_14 (j := 20) vc_X12 vi_X12 rfl (by decide) kf_X12_51 dX12_via_304 ?_
  refine lv_iload_n (pc := 307) hx hb dX12_via_307 rfl (lv_at hl 1 rfl) ?_
  refine lv_dup2_11 (pc := 308) hx hb dX12_via_308 rfl rfl ?_
  refine s_iald (pc := 309) F w ds_79 h dX12_via_309 (fun h => ?_)
  refine lv_iconst (pc := 310) (v := 1) hx hb dX12_via_310 (by decide) ?_
  refine lv_iadd (pc := 311) hx hb dX12_via_311 ?_
  refine s_iast (pc := 312) F w ds_79 h dX12_via_312 (fun S16 H locs h w => ?_)
  refine lv_aload_n (pc := 313) hx hb dX12_via_313 rfl (lv_at hl 0 rfl) ?_
  obtain ⟨S17, hc, h⟩ := bndv_t h
  refine s_cvv (pc := 314) [] (fun ad => [.ref (ad 14)]) F w (m_X12_forget  _ _ hc) rfl rfl hl.1 ds_14 vc_X12 rfl ok_X12_forget rfl kc_X12_forget kl_X12_229 ki_X12_forget kv_X12_forget kn_X12 ⟨Nat.le_trans (by decide) hR1, Nat.le_trans (by decide) hR2⟩ ⟨Nat.zero_le _, Nat.zero_le _⟩ (Nat.le_of_ble_eq_true rfl) dX12_via_314 (fun H locs w => ?_)
  refine lv_aload_n (pc := 317) hx hb dX12_via_317 rfl (lv_at hl 0 rfl) ?_
  refine s_getR (pc := 318) F w 79 ds_14 (j := 20) vc_X12 vi_X12 rfl (by decide) kf_X12_51 dX12_via_318 ?_
  refine lv_iload_n (pc := 321) hx hb dX12_via_321 rfl (lv_at hl 1 rfl) ?_
  refine s_iald (pc := 322) F w ds_79 h dX12_via_322 (fun h => ?_)
  exact s_iret F w h dX12_via_323
set_option maxRecDepth 100000 in
set_option maxHeartbeats 4000000 in
theorem w_X12_via_j224 {p : Program} {l : Launch} {e : Env} {R : Room} {s : State} {m : MethodId} {args : Array Value} {below : List Frame} {meth : Method} {c : Code} {dC : Nat → ClassId} {dI : Nat → Nat → Nat} {cs : Nat → ClassId} {ad : Nat → Nat} {A : Nat → Prop} {D0 : Nat → Nat} {S' : SS} {r : Int32} (F : Fx p s m args meth c cX12_via 8 RX12 (some .int) dC dI cs A) (hR1 : 0 ≤ R.frames) (hR2 : 0 ≤ R.locals) (K174 : Int32 → Int32 → Int32 → Int32 → Int32 → SS → Option (Int32 × SS)) (hK174 : ∀ (v0 : Int32) (v1 : Int32) (v2 : Int32) (v3 : Int32) (v4 : Int32) (S : SS), K174 v0 v1 v2 v3 v4 S = some (r, S') → AW p l e R s m args below meth c dC dI cs ad A D0 (some (.int r)) S' 8 174 [(0, .ref (ad 14)), (1, .int v0), (2, .int v1), (3, .int v2), (4, .int v3), (7, .int v4)] [] S) (x1 : Int32) (x2 : Int32) (x3 : Int32) (x4 : Int32) (x7 : Int32) (S : SS) (h : f_X12_via_j224 K174 x1 x2 x3 x4 x7 S = some (r, S')) : AW p l e R s m args below meth c dC dI cs ad A D0 (some (.int r)) S' 8 224 [(0, .ref (ad 14)), (1, .int x1), (2, .int x2), (3, .int x3), (4, .int x4), (7, .int x7)] [] S := by
  have hx := F.1.1
  have hb := F.1.2.1
  intro H locs ls w hl
  rw [f_X12_via_j224] at h
  refine lv_aload_n (pc := 224) hx hb dX12_via_224 rfl (lv_at hl 0 rfl) ?_
  refine s_getR (pc := 225) F w 80 ds_14 (j := 21) vc_X12 vi_X12 rfl (by decide) kf_X12_54 dX12_via_225 ?_
  refine lv_iload (pc := 228) hx hb dX12_via_228 (lv_at hl 5 rfl) ?_
  refine lv_aload_n (pc := 230) hx hb dX12_via_230 rfl (lv_at hl 0 rfl) ?_
  refine s_getR (pc := 231) F w 80 ds_14 (j := 21) vc_X12 vi_X12 rfl (by decide) kf_X12_54 dX12_via_231 ?_
  refine lv_iload (pc := 234) hx hb dX12_via_234 (lv_at hl 5 rfl) ?_
  refine lv_iconst (pc := 236) (v := 1) hx hb dX12_via_236 (by decide) ?_
  refine lv_isub (pc := 237) hx hb dX12_via_237 ?_
  refine s_iald (pc := 238) F w ds_80 h dX12_via_238 (fun h => ?_)
  refine s_iast (pc := 239) F w ds_80 h dX12_via_239 (fun S18 H locs h w => ?_)
  refine lv_aload_n (pc := 240) hx hb dX12_via_240 rfl (lv_at hl 0 rfl) ?_
  refine s_getR (pc := 241) F w 81 ds_14 (j := 22) vc_X12 vi_X12 rfl (by decide) kf_X12_57 dX12_via_241 ?_
  refine lv_iload (pc := 244) hx hb dX12_via_244 (lv_at hl 5 rfl) ?_
  refine lv_aload_n (pc := 246) hx hb dX12_via_246 rfl (lv_at hl 0 rfl) ?_
  refine s_getR (pc := 247) F w 81 ds_14 (j := 22) vc_X12 vi_X12 rfl (by decide) kf_X12_57 dX12_via_247 ?_
  refine lv_iload (pc := 250) hx hb dX12_via_250 (lv_at hl 5 rfl) ?_
  refine lv_iconst (pc := 252) (v := 1) hx hb dX12_via_252 (by decide) ?_
  refine lv_isub (pc := 253) hx hb dX12_via_253 ?_
  refine s_iald (pc := 254) F w ds_81 h dX12_via_254 (fun h => ?_)
  refine s_iast (pc := 255) F w ds_81 h dX12_via_255 (fun S19 H locs h w => ?_)
  refine lv_aload_n (pc := 256) hx hb dX12_via_256 rfl (lv_at hl 0 rfl) ?_
  refine s_getR (pc := 257) F w 82 ds_14 (j := 23) vc_X12 vi_X12 rfl (by decide) kf_X12_60 dX12_via_257 ?_
  refine lv_iload (pc := 260) hx hb dX12_via_260 (lv_at hl 5 rfl) ?_
  refine lv_aload_n (pc := 262) hx hb dX12_via_262 rfl (lv_at hl 0 rfl) ?_
  refine s_getR (pc := 263) F w 82 ds_14 (j := 23) vc_X12 vi_X12 rfl (by decide) kf_X12_60 dX12_via_263 ?_
  refine lv_iload (pc := 266) hx hb dX12_via_266 (lv_at hl 5 rfl) ?_
  refine lv_iconst (pc := 268) (v := 1) hx hb dX12_via_268 (by decide) ?_
  refine lv_isub (pc := 269) hx hb dX12_via_269 ?_
  refine s_iald (pc := 270) F w ds_82 h dX12_via_270 (fun h => ?_)
  refine s_iast (pc := 271) F w ds_82 h dX12_via_271 (fun S20 H locs h w => ?_)
  refine s_nm h (fun z21 ez21 h => ?_)
  refine lv_iinc (pc := 272) (v := z21) (lv' := [(7, .int z21), (0, .ref (ad 14)), (1, .int x1), (2, .int x2), (3, .int x3), (4, .int x4)]) hx hb dX12_via_272 hl (k := 5) rfl (by rw [ez21]; rfl) (by decide) rfl (fun ls hl => ?_)
  refine lv_goto (pc := 275) (tgt := 174) hx hb dX12_via_275 (by decide) ?_
  exact hK174 _ _ _ _ _ _ h _ _ _ w (lv_sub hl [1, 2, 3, 4, 5, 0] rfl)
set_option maxRecDepth 100000 in
set_option maxHeartbeats 4000000 in
theorem w_X12_via_L174 {p : Program} {l : Launch} {e : Env} {R : Room} {s : State} {m : MethodId} {args : Array Value} {below : List Frame} {meth : Method} {c : Code} {dC : Nat → ClassId} {dI : Nat → Nat → Nat} {cs : Nat → ClassId} {ad : Nat → Nat} {A : Nat → Prop} {D0 : Nat → Nat} {S' : SS} {r : Int32} (F : Fx p s m args meth c cX12_via 8 RX12 (some .int) dC dI cs A) (hR1 : 1 ≤ R.frames) (hR2 : 20 ≤ R.locals) : ∀ (n : Nat) (x1 : Int32) (x2 : Int32) (x3 : Int32) (x4 : Int32) (x7 : Int32) (S : SS), f_X12_via_L174 n x1 x2 x3 x4 x7 S = some (r, S') → AW p l e R s m args below meth c dC dI cs ad A D0 (some (.int r)) S' 8 174 [(0, .ref (ad 14)), (1, .int x1), (2, .int x2), (3, .int x3), (4, .int x4), (7, .int x7)] [] S := by
  have hx := F.1.1
  have hb := F.1.2.1
  intro n
  induction n with
  | zero => intro x1 x2 x3 x4 x7 S h; cases h
  | succ n ih =>
    intro x1 x2 x3 x4 x7 S h H locs ls w hl
    rw [f_X12_via_L174] at h
    refine lv_iload (pc := 174) hx hb dX12_via_174 (lv_at hl 5 rfl) ?_
    refine lv_bipush (pc := 176) (v := 8) hx hb dX12_via_176 (by decide) ?_
    refine lv_iload_n (pc := 178) hx hb dX12_via_178 rfl (lv_at hl 1 rfl) ?_
    refine lv_imul (pc := 179) hx hb dX12_via_179 ?_
    refine lv_icmp_le (pc := 180) (tgt := 278) hx hb dX12_via_180 (by decide) (fun q => ?_) (fun q => ?_)
    · have h := ite_t q h
      exact w_X12_via_j278 F (Nat.le_trans (by decide) hR1) (Nat.le_trans (by decide) hR2) _ _ _ _ _ _ h _ _ _ w (lv_sub hl [0, 1, 2, 3, 4, 5] rfl)
    · have h := ite_f q h
      refine lv_aload_n (pc := 183) hx hb dX12_via_183 rfl (lv_at hl 0 rfl) ?_
      refine s_getR (pc := 184) F w 82 ds_14 (j := 23) vc_X12 vi_X12 rfl (by decide) kf_X12_60 dX12_via_184 ?_
      refine lv_iload (pc := 187) hx hb dX12_via_187 (lv_at hl 5 rfl) ?_
      refine lv_iconst (pc := 189) (v := 1) hx hb dX12_via_189 (by decide) ?_
      refine lv_isub (pc := 190) hx hb dX12_via_190 ?_
      refine s_iald (pc := 191) F w ds_82 h dX12_via_191 (fun h => ?_)
      refine lv_iload (pc := 192) hx hb dX12_via_192 (lv_at hl 4 rfl) ?_
      refine lv_icmp_gt (pc := 194) (tgt := 224) hx hb dX12_via_194 (by decide) (fun q => ?_) (fun q => ?_)
      · have h := ite_t q h
        exact w_X12_via_j224 F (Nat.le_trans (by decide) hR1) (Nat.le_trans (by decide) hR2) _ (fun v0 v1 v2 v3 v4 S h => ih v0 v1 v2 v3 v4 S h) _ _ _ _ _ _ h _ _ _ w (lv_sub hl [0, 1, 2, 3, 4, 5] rfl)
      · have h := ite_f q h
        refine lv_aload_n (pc := 197) hx hb dX12_via_197 rfl (lv_at hl 0 rfl) ?_
        refine s_getR (pc := 198) F w 82 ds_14 (j := 23) vc_X12 vi_X12 rfl (by decide) kf_X12_60 dX12_via_198 ?_
        refine lv_iload (pc := 201) hx hb dX12_via_201 (lv_at hl 5 rfl) ?_
        refine lv_iconst (pc := 203) (v := 1) hx hb dX12_via_203 (by decide) ?_
        refine lv_isub (pc := 204) hx hb dX12_via_204 ?_
        refine s_iald (pc := 205) F w ds_82 h dX12_via_205 (fun h => ?_)
        refine lv_iload (pc := 206) hx hb dX12_via_206 (lv_at hl 4 rfl) ?_
        refine lv_icmp_ne (pc := 208) (tgt := 278) hx hb dX12_via_208 (by decide) (fun q => ?_) (fun q => ?_)
        · have h := ite_f q h
          exact w_X12_via_j278 F (Nat.le_trans (by decide) hR1) (Nat.le_trans (by decide) hR2) _ _ _ _ _ _ h _ _ _ w (lv_sub hl [0, 1, 2, 3, 4, 5] rfl)
        · have h := ite_t q h
          refine lv_aload_n (pc := 211) hx hb dX12_via_211 rfl (lv_at hl 0 rfl) ?_
          refine s_getR (pc := 212) F w 80 ds_14 (j := 21) vc_X12 vi_X12 rfl (by decide) kf_X12_54 dX12_via_212 ?_
          refine lv_iload (pc := 215) hx hb dX12_via_215 (lv_at hl 5 rfl) ?_
          refine lv_iconst (pc := 217) (v := 1) hx hb dX12_via_217 (by decide) ?_
          refine lv_isub (pc := 218) hx hb dX12_via_218 ?_
          refine s_iald (pc := 219) F w ds_80 h dX12_via_219 (fun h => ?_)
          refine lv_iload_n (pc := 220) hx hb dX12_via_220 rfl (lv_at hl 2 rfl) ?_
          refine lv_icmp_le (pc := 221) (tgt := 278) hx hb dX12_via_221 (by decide) (fun q => ?_) (fun q => ?_)
          · have h := ite_t q h
            exact w_X12_via_j278 F (Nat.le_trans (by decide) hR1) (Nat.le_trans (by decide) hR2) _ _ _ _ _ _ h _ _ _ w (lv_sub hl [0, 1, 2, 3, 4, 5] rfl)
          · have h := ite_f q h
            exact w_X12_via_j224 F (Nat.le_trans (by decide) hR1) (Nat.le_trans (by decide) hR2) _ (fun v0 v1 v2 v3 v4 S h => ih v0 v1 v2 v3 v4 S h) _ _ _ _ _ _ h _ _ _ w (lv_sub hl [0, 1, 2, 3, 4, 5] rfl)
set_option maxRecDepth 100000 in
set_option maxHeartbeats 4000000 in
theorem w_X12_via_j102 {p : Program} {l : Launch} {e : Env} {R : Room} {s : State} {m : MethodId} {args : Array Value} {below : List Frame} {meth : Method} {c : Code} {dC : Nat → ClassId} {dI : Nat → Nat → Nat} {cs : Nat → ClassId} {ad : Nat → Nat} {A : Nat → Prop} {D0 : Nat → Nat} {S' : SS} {r : Int32} (F : Fx p s m args meth c cX12_via 8 RX12 (some .int) dC dI cs A) (hR1 : 2 ≤ R.frames) (hR2 : 42 ≤ R.locals) (x1 : Int32) (x2 : Int32) (x3 : Int32) (x4 : Int32) (x5 : Int32) (x6 : Int32) (S : SS) (h : f_X12_via_j102 x1 x2 x3 x4 x5 x6 S = some (r, S')) : AW p l e R s m args below meth c dC dI cs ad A D0 (some (.int r)) S' 8 102 [(0, .ref (ad 14)), (1, .int x1), (2, .int x2), (3, .int x3), (4, .int x4), (5, .int x5), (6, .int x6)] [] S := by
  have hx := F.1.1
  have hb := F.1.2.1
  intro H locs ls w hl
  rw [f_X12_via_j102] at h
  refine lv_aload_n (pc := 102) hx hb dX12_via_102 rfl (lv_at hl 0 rfl) ?_
  obtain ⟨S5, hc, h⟩ := bndv_t h
  refine s_cvv (pc := 103) [] (fun ad => [.ref (ad 14)]) F w (m_X12_begin  _ _ hc) rfl rfl hl.1 ds_14 vc_X12 rfl ok_X12_begin rfl kc_X12_begin kl_X12_226 ki_X12_begin kv_X12_begin kn_X12 ⟨Nat.le_trans (by decide) hR1, Nat.le_trans (by decide) hR2⟩ ⟨Nat.zero_le _, Nat.zero_le _⟩ (Nat.le_of_ble_eq_true rfl) dX12_via_103 (fun H locs w => ?_)
  refine lv_aload_n (pc := 106) hx hb dX12_via_106 rfl (lv_at hl 0 rfl) ?_
  refine lv_iload (pc := 107) hx hb dX12_via_107 (lv_at hl 5 rfl) ?_
  obtain ⟨r7, S6, hc, h⟩ := bnd_t h
  refine s_cvi (pc := 109) [.int x5] (fun ad => [.ref (ad 14), .int x5]) F w (m_X12_ends _ _ _ _ hc) rfl rfl hl.1 ds_14 vc_X12 rfl ok_X12_ends rfl kc_X12_ends kl_X12_236 ki_X12_ends kv_X12_ends kn_X12 ⟨Nat.le_trans (by decide) hR1, Nat.le_trans (by decide) hR2⟩ ⟨Nat.zero_le _, Nat.zero_le _⟩ (Nat.le_of_ble_eq_true rfl) dX12_via_109 (fun H locs w => ?_)
  refine lv_if_eq (pc := 112) (tgt := 118) hx hb dX12_via_112 (by decide) (fun q => ?_) (fun q => ?_)
  · have h := ite_t q h
    refine lv_iload (pc := 118) hx hb dX12_via_118 (lv_at hl 6 rfl) ?_
    refine lv_if_ne (pc := 120) (tgt := 134) hx hb dX12_via_120 (by decide) (fun q => ?_) (fun q => ?_)
    · have h := ite_f q h
      exact w_X12_via_j134 F (Nat.le_trans (by decide) hR1) (Nat.le_trans (by decide) hR2)  _ h _ _ _ w (lv_sub hl [0] rfl)
    · have h := ite_t q h
      refine lv_aload_n (pc := 123) hx hb dX12_via_123 rfl (lv_at hl 0 rfl) ?_
      refine s_getR (pc := 124) F w 79 ds_14 (j := 20) vc_X12 vi_X12 rfl (by decide) kf_X12_51 dX12_via_124 ?_
      refine lv_iload_n (pc := 127) hx hb dX12_via_127 rfl (lv_at hl 1 rfl) ?_
      refine s_iald (pc := 128) F w ds_79 h dX12_via_128 (fun h => ?_)
      refine lv_bipush (pc := 129) (v := 8) hx hb dX12_via_129 (by decide) ?_
      refine lv_icmp_ne (pc := 131) (tgt := 141) hx hb dX12_via_131 (by decide) (fun q => ?_) (fun q => ?_)
      · have h := ite_f q h
        refine lv_aload_n (pc := 141) hx hb dX12_via_141 rfl (lv_at hl 0 rfl) ?_
        refine lv_iload_n (pc := 142) hx hb dX12_via_142 rfl (lv_at hl 1 rfl) ?_
        obtain ⟨r11, S10, hc, h⟩ := bnd_t h
        refine s_cvi (pc := 143) [.int x1] (fun ad => [.ref (ad 14), .int x1]) F w (m_X12_isLocking _ _ _ _ hc) rfl rfl hl.1 ds_14 vc_X12 rfl ok_X12_isLocking rfl kc_X12_isLocking kl_X12_266 ki_X12_isLocking kv_X12_isLocking kn_X12 ⟨Nat.le_trans (by decide) hR1, Nat.le_trans (by decide) hR2⟩ ⟨Nat.zero_le _, Nat.zero_le _⟩ (Nat.le_of_ble_eq_true rfl) dX12_via_143 (fun H locs w => ?_)
        refine lv_if_eq (pc := 146) (tgt := 161) hx hb dX12_via_146 (by decide) (fun q => ?_) (fun q => ?_)
        · have h := ite_t q h
          refine lv_bipush (pc := 161) (v := 8) hx hb dX12_via_161 (by decide) ?_
          refine lv_iload_n (pc := 163) hx hb dX12_via_163 rfl (lv_at hl 1 rfl) ?_
          refine lv_imul (pc := 164) hx hb dX12_via_164 ?_
          refine lv_aload_n (pc := 165) hx hb dX12_via_165 rfl (lv_at hl 0 rfl) ?_
          refine s_getR (pc := 166) F w 79 ds_14 (j := 20) vc_X12 vi_X12 rfl (by decide) kf_X12_51 dX12_via_166 ?_
          refine lv_iload_n (pc := 169) hx hb dX12_via_169 rfl (lv_at hl 1 rfl) ?_
          refine s_iald (pc := 170) F w ds_79 h dX12_via_170 (fun h => ?_)
          refine lv_iadd (pc := 171) hx hb dX12_via_171 ?_
          refine s_nm h (fun z12 ez12 h => ?_)
          rw [← ez12]
          refine lv_istore (pc := 172) (lv' := [(7, .int z12), (0, .ref (ad 14)), (1, .int x1), (2, .int x2), (3, .int x3), (4, .int x4), (5, .int x5), (6, .int x6)]) hx hb dX12_via_172 hl (by decide) rfl (fun ls hl => ?_)
          exact w_X12_via_L174 F (Nat.le_trans (by decide) hR1) (Nat.le_trans (by decide) hR2) _ _ _ _ _ _ _ h _ _ _ w (lv_sub hl [1, 2, 3, 4, 5, 0] rfl)
        · have h := ite_f q h
          refine lv_aload_n (pc := 149) hx hb dX12_via_149 rfl (lv_at hl 0 rfl) ?_
          refine lv_iload_n (pc := 150) hx hb dX12_via_150 rfl (lv_at hl 1 rfl) ?_
          refine s_putI (pc := 151) F w ds_14 vc_X12 vi_X12 tyX12_ok nmX12 (j := 3) rfl (by decide) kf_X12_13 rfl pd_I h dX12_via_151 (fun S22 H locs h w => ?_)
          refine lv_aload_n (pc := 154) hx hb dX12_via_154 rfl (lv_at hl 0 rfl) ?_
          refine lv_bipush (pc := 155) (v := 11) hx hb dX12_via_155 (by decide) ?_
          obtain ⟨r24, S23, hc, h⟩ := bnd_t h
          refine s_cvi (pc := 157) [.int (11 : Int32)] (fun ad => [.ref (ad 14), .int (11 : Int32)]) F w (m_X12_found _ _ _ _ hc) rfl rfl hl.1 ds_14 vc_X12 rfl ok_X12_found rfl kc_X12_found kl_X12_210 ki_X12_found kv_X12_found kn_X12 ⟨Nat.le_trans (by decide) hR1, Nat.le_trans (by decide) hR2⟩ ⟨Nat.zero_le _, Nat.zero_le _⟩ (Nat.le_of_ble_eq_true rfl) dX12_via_157 (fun H locs w => ?_)
          exact s_iret F w h dX12_via_160
      · have h := ite_t q h
        exact w_X12_via_j134 F (Nat.le_trans (by decide) hR1) (Nat.le_trans (by decide) hR2)  _ h _ _ _ w (lv_sub hl [0] rfl)
  · have h := ite_f q h
    refine lv_bipush (pc := 115) (v := -2) hx hb dX12_via_115 (by decide) ?_
    exact s_iret F w h dX12_via_117
set_option maxRecDepth 100000 in
set_option maxHeartbeats 4000000 in
theorem w_X12_via_j94 {p : Program} {l : Launch} {e : Env} {R : Room} {s : State} {m : MethodId} {args : Array Value} {below : List Frame} {meth : Method} {c : Code} {dC : Nat → ClassId} {dI : Nat → Nat → Nat} {cs : Nat → ClassId} {ad : Nat → Nat} {A : Nat → Prop} {D0 : Nat → Nat} {S' : SS} {r : Int32} (F : Fx p s m args meth c cX12_via 8 RX12 (some .int) dC dI cs A) (hR1 : 0 ≤ R.frames) (hR2 : 0 ≤ R.locals) (K52 : Int32 → Int32 → Int32 → Int32 → Int32 → Int32 → Int32 → SS → Option (Int32 × SS)) (hK52 : ∀ (v0 : Int32) (v1 : Int32) (v2 : Int32) (v3 : Int32) (v4 : Int32) (v5 : Int32) (v6 : Int32) (S : SS), K52 v0 v1 v2 v3 v4 v5 v6 S = some (r, S') → AW p l e R s m args below meth c dC dI cs ad A D0 (some (.int r)) S' 8 52 [(0, .ref (ad 14)), (1, .int v0), (2, .int v1), (3, .int v2), (4, .int v3), (5, .int v4), (6, .int v5), (7, .int v6)] [] S) (x1 : Int32) (x2 : Int32) (x3 : Int32) (x4 : Int32) (x5 : Int32) (x7 : Int32) (y0 : Int32) (S : SS) (h : f_X12_via_j94 K52 x1 x2 x3 x4 x5 x7 y0 S = some (r, S')) : AW p l e R s m args below meth c dC dI cs ad A D0 (some (.int r)) S' 8 94 [(0, .ref (ad 14)), (1, .int x1), (2, .int x2), (3, .int x3), (4, .int x4), (5, .int x5), (7, .int x7)] [.int y0] S := by
  have hx := F.1.1
  have hb := F.1.2.1
  intro H locs ls w hl
  rw [f_X12_via_j94] at h
  refine lv_istore (pc := 94) (lv' := [(6, .int y0), (0, .ref (ad 14)), (1, .int x1), (2, .int x2), (3, .int x3), (4, .int x4), (5, .int x5), (7, .int x7)]) hx hb dX12_via_94 hl (by decide) rfl (fun ls hl => ?_)
  refine s_nm h (fun z25 ez25 h => ?_)
  refine lv_iinc (pc := 96) (v := z25) (lv' := [(7, .int z25), (6, .int y0), (0, .ref (ad 14)), (1, .int x1), (2, .int x2), (3, .int x3), (4, .int x4), (5, .int x5)]) hx hb dX12_via_96 hl (k := 7) rfl (by rw [ez25]; rfl) (by decide) rfl (fun ls hl => ?_)
  refine lv_goto (pc := 99) (tgt := 52) hx hb dX12_via_99 (by decide) ?_
  exact hK52 _ _ _ _ _ _ _ _ h _ _ _ w (lv_sub hl [2, 3, 4, 5, 6, 7, 1, 0] rfl)
set_option maxRecDepth 100000 in
set_option maxHeartbeats 4000000 in
theorem w_X12_via_j89 {p : Program} {l : Launch} {e : Env} {R : Room} {s : State} {m : MethodId} {args : Array Value} {below : List Frame} {meth : Method} {c : Code} {dC : Nat → ClassId} {dI : Nat → Nat → Nat} {cs : Nat → ClassId} {ad : Nat → Nat} {A : Nat → Prop} {D0 : Nat → Nat} {S' : SS} {r : Int32} (F : Fx p s m args meth c cX12_via 8 RX12 (some .int) dC dI cs A) (hR1 : 0 ≤ R.frames) (hR2 : 0 ≤ R.locals) (K52 : Int32 → Int32 → Int32 → Int32 → Int32 → Int32 → Int32 → SS → Option (Int32 × SS)) (hK52 : ∀ (v0 : Int32) (v1 : Int32) (v2 : Int32) (v3 : Int32) (v4 : Int32) (v5 : Int32) (v6 : Int32) (S : SS), K52 v0 v1 v2 v3 v4 v5 v6 S = some (r, S') → AW p l e R s m args below meth c dC dI cs ad A D0 (some (.int r)) S' 8 52 [(0, .ref (ad 14)), (1, .int v0), (2, .int v1), (3, .int v2), (4, .int v3), (5, .int v4), (6, .int v5), (7, .int v6)] [] S) (x1 : Int32) (x2 : Int32) (x3 : Int32) (x4 : Int32) (x5 : Int32) (x7 : Int32) (S : SS) (h : f_X12_via_j89 K52 x1 x2 x3 x4 x5 x7 S = some (r, S')) : AW p l e R s m args below meth c dC dI cs ad A D0 (some (.int r)) S' 8 89 [(0, .ref (ad 14)), (1, .int x1), (2, .int x2), (3, .int x3), (4, .int x4), (5, .int x5), (7, .int x7)] [] S := by
  have hx := F.1.1
  have hb := F.1.2.1
  intro H locs ls w hl
  rw [f_X12_via_j89] at h
  refine lv_iconst (pc := 89) (v := 1) hx hb dX12_via_89 (by decide) ?_
  refine lv_goto (pc := 90) (tgt := 94) hx hb dX12_via_90 (by decide) ?_
  exact w_X12_via_j94 F (Nat.le_trans (by decide) hR1) (Nat.le_trans (by decide) hR2) _ hK52 _ _ _ _ _ _ _ _ h _ _ _ w (lv_sub hl [0, 1, 2, 3, 4, 5, 6] rfl)
set_option maxRecDepth 100000 in
set_option maxHeartbeats 4000000 in
theorem w_X12_via_L52 {p : Program} {l : Launch} {e : Env} {R : Room} {s : State} {m : MethodId} {args : Array Value} {below : List Frame} {meth : Method} {c : Code} {dC : Nat → ClassId} {dI : Nat → Nat → Nat} {cs : Nat → ClassId} {ad : Nat → Nat} {A : Nat → Prop} {D0 : Nat → Nat} {S' : SS} {r : Int32} (F : Fx p s m args meth c cX12_via 8 RX12 (some .int) dC dI cs A) (hR1 : 2 ≤ R.frames) (hR2 : 42 ≤ R.locals) : ∀ (n : Nat) (x1 : Int32) (x2 : Int32) (x3 : Int32) (x4 : Int32) (x5 : Int32) (x6 : Int32) (x7 : Int32) (S : SS), f_X12_via_L52 n x1 x2 x3 x4 x5 x6 x7 S = some (r, S') → AW p l e R s m args below meth c dC dI cs ad A D0 (some (.int r)) S' 8 52 [(0, .ref (ad 14)), (1, .int x1), (2, .int x2), (3, .int x3), (4, .int x4), (5, .int x5), (6, .int x6), (7, .int x7)] [] S := by
  have hx := F.1.1
  have hb := F.1.2.1
  intro n
  induction n with
  | zero => intro x1 x2 x3 x4 x5 x6 x7 S h; cases h
  | succ n ih =>
    intro x1 x2 x3 x4 x5 x6 x7 S h H locs ls w hl
    rw [f_X12_via_L52] at h
    refine lv_iload (pc := 52) hx hb dX12_via_52 (lv_at hl 5 rfl) ?_
    refine lv_if_ne (pc := 54) (tgt := 102) hx hb dX12_via_54 (by decide) (fun q => ?_) (fun q => ?_)
    · have h := ite_f q h
      exact w_X12_via_j102 F (Nat.le_trans (by decide) hR1) (Nat.le_trans (by decide) hR2) _ _ _ _ _ _ _ h _ _ _ w (lv_sub hl [0, 1, 2, 3, 4, 5, 6] rfl)
    · have h := ite_t q h
      refine lv_iload (pc := 57) hx hb dX12_via_57 (lv_at hl 7 rfl) ?_
      refine lv_aload_n (pc := 59) hx hb dX12_via_59 rfl (lv_at hl 0 rfl) ?_
      refine s_getR (pc := 60) F w 79 ds_14 (j := 20) vc_X12 vi_X12 rfl (by decide) kf_X12_51 dX12_via_60 ?_
      refine lv_iload_n (pc := 63) hx hb dX12_via_63 rfl (lv_at hl 1 rfl) ?_
      refine s_iald (pc := 64) F w ds_79 h dX12_via_64 (fun h => ?_)
      refine lv_icmp_ge (pc := 65) (tgt := 102) hx hb dX12_via_65 (by decide) (fun q => ?_) (fun q => ?_)
      · have h := ite_t q h
        exact w_X12_via_j102 F (Nat.le_trans (by decide) hR1) (Nat.le_trans (by decide) hR2) _ _ _ _ _ _ _ h _ _ _ w (lv_sub hl [0, 1, 2, 3, 4, 5, 6] rfl)
      · have h := ite_f q h
        refine lv_iload (pc := 68) hx hb dX12_via_68 (lv_at hl 6 rfl) ?_
        refine lv_if_ne (pc := 70) (tgt := 89) hx hb dX12_via_70 (by decide) (fun q => ?_) (fun q => ?_)
        · have h := ite_f q h
          exact w_X12_via_j89 F (Nat.le_trans (by decide) hR1) (Nat.le_trans (by decide) hR2) _ (fun v0 v1 v2 v3 v4 v5 v6 S h => ih v0 v1 v2 v3 v4 v5 v6 S h) _ _ _ _ _ _ _ h _ _ _ w (lv_sub hl [0, 1, 2, 3, 4, 5, 7] rfl)
        · have h := ite_t q h
          refine lv_aload_n (pc := 73) hx hb dX12_via_73 rfl (lv_at hl 0 rfl) ?_
          refine s_getR (pc := 74) F w 80 ds_14 (j := 21) vc_X12 vi_X12 rfl (by decide) kf_X12_54 dX12_via_74 ?_
          refine lv_bipush (pc := 77) (v := 8) hx hb dX12_via_77 (by decide) ?_
          refine lv_iload_n (pc := 79) hx hb dX12_via_79 rfl (lv_at hl 1 rfl) ?_
          refine lv_imul (pc := 80) hx hb dX12_via_80 ?_
          refine lv_iload (pc := 81) hx hb dX12_via_81 (lv_at hl 7 rfl) ?_
          refine lv_iadd (pc := 83) hx hb dX12_via_83 ?_
          refine s_iald (pc := 84) F w ds_80 h dX12_via_84 (fun h => ?_)
          refine lv_iload_n (pc := 85) hx hb dX12_via_85 rfl (lv_at hl 2 rfl) ?_
          refine lv_icmp_ne (pc := 86) (tgt := 93) hx hb dX12_via_86 (by decide) (fun q => ?_) (fun q => ?_)
          · have h := ite_f q h
            refine lv_iconst (pc := 93) (v := 0) hx hb dX12_via_93 (by decide) ?_
            exact w_X12_via_j94 F (Nat.le_trans (by decide) hR1) (Nat.le_trans (by decide) hR2) _ (fun v0 v1 v2 v3 v4 v5 v6 S h => ih v0 v1 v2 v3 v4 v5 v6 S h) _ _ _ _ _ _ _ _ h _ _ _ w (lv_sub hl [0, 1, 2, 3, 4, 5, 7] rfl)
          · have h := ite_t q h
            exact w_X12_via_j89 F (Nat.le_trans (by decide) hR1) (Nat.le_trans (by decide) hR2) _ (fun v0 v1 v2 v3 v4 v5 v6 S h => ih v0 v1 v2 v3 v4 v5 v6 S h) _ _ _ _ _ _ _ h _ _ _ w (lv_sub hl [0, 1, 2, 3, 4, 5, 7] rfl)
set_option maxRecDepth 100000 in
set_option maxHeartbeats 4000000 in
theorem w_X12_via_j44 {p : Program} {l : Launch} {e : Env} {R : Room} {s : State} {m : MethodId} {args : Array Value} {below : List Frame} {meth : Method} {c : Code} {dC : Nat → ClassId} {dI : Nat → Nat → Nat} {cs : Nat → ClassId} {ad : Nat → Nat} {A : Nat → Prop} {D0 : Nat → Nat} {S' : SS} {r : Int32} (F : Fx p s m args meth c cX12_via 8 RX12 (some .int) dC dI cs A) (hR1 : 2 ≤ R.frames) (hR2 : 42 ≤ R.locals) (x1 : Int32) (x2 : Int32) (x3 : Int32) (x4 : Int32) (y0 : Int32) (S : SS) (h : f_X12_via_j44 x1 x2 x3 x4 y0 S = some (r, S')) : AW p l e R s m args below meth c dC dI cs ad A D0 (some (.int r)) S' 8 44 [(0, .ref (ad 14)), (1, .int x1), (2, .int x2), (3, .int x3), (4, .int x4)] [.int y0] S := by
  have hx := F.1.1
  have hb := F.1.2.1
  intro H locs ls w hl
  rw [f_X12_via_j44] at h
  refine lv_istore (pc := 44) (lv' := [(5, .int y0), (0, .ref (ad 14)), (1, .int x1), (2, .int x2), (3, .int x3), (4, .int x4)]) hx hb dX12_via_44 hl (by decide) rfl (fun ls hl => ?_)
  refine lv_iconst (pc := 46) (v := 0) hx hb dX12_via_46 (by decide) ?_
  refine lv_istore (pc := 47) (lv' := [(6, .int (0 : Int32)), (5, .int y0), (0, .ref (ad 14)), (1, .int x1), (2, .int x2), (3, .int x3), (4, .int x4)]) hx hb dX12_via_47 hl (by decide) rfl (fun ls hl => ?_)
  refine lv_iconst (pc := 49) (v := 0) hx hb dX12_via_49 (by decide) ?_
  refine lv_istore (pc := 50) (lv' := [(7, .int (0 : Int32)), (6, .int (0 : Int32)), (5, .int y0), (0, .ref (ad 14)), (1, .int x1), (2, .int x2), (3, .int x3), (4, .int x4)]) hx hb dX12_via_50 hl (by decide) rfl (fun ls hl => ?_)
  exact w_X12_via_L52 F (Nat.le_trans (by decide) hR1) (Nat.le_trans (by decide) hR2) _ _ _ _ _ _ _ _ _ h _ _ _ w (lv_sub hl [3, 4, 5, 6, 7, 2, 1, 0] rfl)
set_option maxRecDepth 100000 in
set_option maxHeartbeats 4000000 in
theorem m_X12_via (a1 : Int32) (a2 : Int32) (a3 : Int32) (a4 : Int32) (S S' : SS) (r : Int32) (h : f_X12_via a1 a2 a3 a4 S = some (r, S')) : MT yX12_via cX12_via 8 (some .int) 2 42 (fun ad => [.ref (ad 14), .int a1, .int a2, .int a3, .int a4]) S (some (.int r)) S' := by
  refine MT.of RX12 (fun ad => [(0, .ref (ad 14)), (1, .int a1), (2, .int a2), (3, .int a3), (4, .int a4)]) (by decide) rfl (fun _ => Nat.le_of_ble_eq_true rfl) (fun _ => rfl) ?_
  intro p l e R s m args below meth c dC dI cs ad A hR1 hR2 F H locs ls w hl
  have hx := F.1.1
  have hb := F.1.2.1
  rw [f_X12_via] at h
  refine lv_iload_n (pc := 0) hx hb dX12_via_0 rfl (lv_at hl 3 rfl) ?_
  refine lv_if_lt (pc := 1) (tgt := 21) hx hb dX12_via_1 (by decide) (fun q => ?_) (fun q => ?_)
  · have h := ite_t q h
    refine lv_iconst (pc := 21) (v := -1) hx hb dX12_via_21 (by decide) ?_
    exact s_iret F w h dX12_via_22
  · have h := ite_f q h
    refine lv_iload_n (pc := 4) hx hb dX12_via_4 rfl (lv_at hl 3 rfl) ?_
    refine lv_iconst (pc := 5) (v := 2) hx hb dX12_via_5 (by decide) ?_
    refine lv_icmp_gt (pc := 6) (tgt := 21) hx hb dX12_via_6 (by decide) (fun q => ?_) (fun q => ?_)
    · have h := ite_t q h
      refine lv_iconst (pc := 21) (v := -1) hx hb dX12_via_21 (by decide) ?_
      exact s_iret F w h dX12_via_22
    · have h := ite_f q h
      refine lv_iload (pc := 9) hx hb dX12_via_9 (lv_at hl 4 rfl) ?_
      refine lv_if_lt (pc := 11) (tgt := 21) hx hb dX12_via_11 (by decide) (fun q => ?_) (fun q => ?_)
      · have h := ite_t q h
        refine lv_iconst (pc := 21) (v := -1) hx hb dX12_via_21 (by decide) ?_
        exact s_iret F w h dX12_via_22
      · have h := ite_f q h
        refine lv_iload (pc := 14) hx hb dX12_via_14 (lv_at hl 4 rfl) ?_
        refine lv_bipush (pc := 16) (v := 99) hx hb dX12_via_16 (by decide) ?_
        refine lv_icmp_le (pc := 18) (tgt := 23) hx hb dX12_via_18 (by decide) (fun q => ?_) (fun q => ?_)
        · have h := ite_t q h
          refine lv_aload_n (pc := 23) hx hb dX12_via_23 rfl (lv_at hl 0 rfl) ?_
          refine lv_iload_n (pc := 24) hx hb dX12_via_24 rfl (lv_at hl 1 rfl) ?_
          obtain ⟨r2, S1, hc, h⟩ := bnd_t h
          refine s_cvi (pc := 25) [.int a1] (fun ad => [.ref (ad 14), .int a1]) F w (m_X12_missRoute _ _ _ _ hc) rfl rfl hl.1 ds_14 vc_X12 rfl ok_X12_missRoute rfl kc_X12_missRoute kl_X12_260 ki_X12_missRoute kv_X12_missRoute kn_X12 ⟨Nat.le_trans (by decide) hR1, Nat.le_trans (by decide) hR2⟩ ⟨Nat.zero_le _, Nat.zero_le _⟩ (Nat.le_of_ble_eq_true rfl) dX12_via_25 (fun H locs w => ?_)
          refine lv_if_eq (pc := 28) (tgt := 39) hx hb dX12_via_28 (by decide) (fun q => ?_) (fun q => ?_)
          · have h := ite_t q h
            refine lv_aload_n (pc := 39) hx hb dX12_via_39 rfl (lv_at hl 0 rfl) ?_
            refine lv_iload_n (pc := 40) hx hb dX12_via_40 rfl (lv_at hl 2 rfl) ?_
            obtain ⟨r4, S3, hc, h⟩ := bnd_t h
            refine s_cvi (pc := 41) [.int a2] (fun ad => [.ref (ad 14), .int a2]) F w (m_X12_missPoint _ _ _ _ hc) rfl rfl hl.1 ds_14 vc_X12 rfl ok_X12_missPoint rfl kc_X12_missPoint kl_X12_263 ki_X12_missPoint kv_X12_missPoint kn_X12 ⟨Nat.le_trans (by decide) hR1, Nat.le_trans (by decide) hR2⟩ ⟨Nat.zero_le _, Nat.zero_le _⟩ (Nat.le_of_ble_eq_true rfl) dX12_via_41 (fun H locs w => ?_)
            exact w_X12_via_j44 F (Nat.le_trans (by decide) hR1) (Nat.le_trans (by decide) hR2) _ _ _ _ _ _ h _ _ _ w (lv_sub hl [0, 1, 2, 3, 4] rfl)
          · have h := ite_f q h
            refine lv_aload_n (pc := 31) hx hb dX12_via_31 rfl (lv_at hl 0 rfl) ?_
            refine lv_iload_n (pc := 32) hx hb dX12_via_32 rfl (lv_at hl 1 rfl) ?_
            obtain ⟨r27, S26, hc, h⟩ := bnd_t h
            refine s_cvi (pc := 33) [.int a1] (fun ad => [.ref (ad 14), .int a1]) F w (m_X12_missRoute _ _ _ _ hc) rfl rfl hl.1 ds_14 vc_X12 rfl ok_X12_missRoute rfl kc_X12_missRoute kl_X12_260 ki_X12_missRoute kv_X12_missRoute kn_X12 ⟨Nat.le_trans (by decide) hR1, Nat.le_trans (by decide) hR2⟩ ⟨Nat.zero_le _, Nat.zero_le _⟩ (Nat.le_of_ble_eq_true rfl) dX12_via_33 (fun H locs w => ?_)
            refine lv_goto (pc := 36) (tgt := 44) hx hb dX12_via_36 (by decide) ?_
            exact w_X12_via_j44 F (Nat.le_trans (by decide) hR1) (Nat.le_trans (by decide) hR2) _ _ _ _ _ _ h _ _ _ w (lv_sub hl [0, 1, 2, 3, 4] rfl)
        · have h := ite_f q h
          refine lv_iconst (pc := 21) (v := -1) hx hb dX12_via_21 (by decide) ?_
          exact s_iret F w h dX12_via_22
def f_X9_get (a1 : Int32) (a2 : Int32) (S : SS) : Option (Int32 × SS) :=
  if a1 < 0 then
    some ((-4 : Int32), S)
  else
    if (72 : Int32) ≤ a1 then
      some ((-4 : Int32), S)
    else
      grd (inb (((6 : Int32) * a1) + a2) 432) (
      some (S.1 31 (((6 : Int32) * a1) + a2).toNatClampNeg, S))
theorem dX9_get_0 : decode cX9_get 0 = .ok (.iload_n 1, 1) := by decide +kernel
theorem dX9_get_1 : decode cX9_get 1 = .ok (.ifCond .lt 23, 3) := by decide +kernel
theorem dX9_get_4 : decode cX9_get 4 = .ok (.iload_n 1, 1) := by decide +kernel
theorem dX9_get_5 : decode cX9_get 5 = .ok (.bipush 72, 2) := by decide +kernel
theorem dX9_get_7 : decode cX9_get 7 = .ok (.if_icmp .ge 17, 3) := by decide +kernel
theorem dX9_get_10 : decode cX9_get 10 = .ok (.aload_n 0, 1) := by decide +kernel
theorem dX9_get_11 : decode cX9_get 11 = .ok (.getfield 13, 3) := by decide +kernel
theorem dX9_get_14 : decode cX9_get 14 = .ok (.bipush 6, 2) := by decide +kernel
theorem dX9_get_16 : decode cX9_get 16 = .ok (.iload_n 1, 1) := by decide +kernel
theorem dX9_get_17 : decode cX9_get 17 = .ok (.imul, 1) := by decide +kernel
theorem dX9_get_18 : decode cX9_get 18 = .ok (.iload_n 2, 1) := by decide +kernel
theorem dX9_get_19 : decode cX9_get 19 = .ok (.iadd, 1) := by decide +kernel
theorem dX9_get_20 : decode cX9_get 20 = .ok (.iaload, 1) := by decide +kernel
theorem dX9_get_21 : decode cX9_get 21 = .ok (.goto 5, 3) := by decide +kernel
theorem dX9_get_24 : decode cX9_get 24 = .ok (.bipush (-4), 2) := by decide +kernel
theorem dX9_get_26 : decode cX9_get 26 = .ok (.ireturn, 1) := by decide +kernel
set_option maxRecDepth 100000 in
set_option maxHeartbeats 4000000 in
theorem m_X9_get (a1 : Int32) (a2 : Int32) (S S' : SS) (r : Int32) (h : f_X9_get a1 a2 S = some (r, S')) : MT yX9_get cX9_get 3 (some .int) 0 0 (fun ad => [.ref (ad 4), .int a1, .int a2]) S (some (.int r)) S' := by
  refine MT.of RX9 (fun ad => [(0, .ref (ad 4)), (1, .int a1), (2, .int a2)]) (by decide) rfl (fun _ => Nat.le_of_ble_eq_true rfl) (fun _ => rfl) ?_
  intro p l e R s m args below meth c dC dI cs ad A hR1 hR2 F H locs ls w hl
  have hx := F.1.1
  have hb := F.1.2.1
  rw [f_X9_get] at h
  refine lv_iload_n (pc := 0) hx hb dX9_get_0 rfl (lv_at hl 1 rfl) ?_
  refine lv_if_lt (pc := 1) (tgt := 24) hx hb dX9_get_1 (by decide) (fun q => ?_) (fun q => ?_)
  · have h := ite_t q h
    refine lv_bipush (pc := 24) (v := -4) hx hb dX9_get_24 (by decide) ?_
    exact s_iret F w h dX9_get_26
  · have h := ite_f q h
    refine lv_iload_n (pc := 4) hx hb dX9_get_4 rfl (lv_at hl 1 rfl) ?_
    refine lv_bipush (pc := 5) (v := 72) hx hb dX9_get_5 (by decide) ?_
    refine lv_icmp_ge (pc := 7) (tgt := 24) hx hb dX9_get_7 (by decide) (fun q => ?_) (fun q => ?_)
    · have h := ite_t q h
      refine lv_bipush (pc := 24) (v := -4) hx hb dX9_get_24 (by decide) ?_
      exact s_iret F w h dX9_get_26
    · have h := ite_f q h
      refine lv_aload_n (pc := 10) hx hb dX9_get_10 rfl (lv_at hl 0 rfl) ?_
      refine s_getR (pc := 11) F w 31 ds_4 (j := 0) vc_X9 vi_X9 rfl (by decide) kf_X9_13 dX9_get_11 ?_
      refine lv_bipush (pc := 14) (v := 6) hx hb dX9_get_14 (by decide) ?_
      refine lv_iload_n (pc := 16) hx hb dX9_get_16 rfl (lv_at hl 1 rfl) ?_
      refine lv_imul (pc := 17) hx hb dX9_get_17 ?_
      refine lv_iload_n (pc := 18) hx hb dX9_get_18 rfl (lv_at hl 2 rfl) ?_
      refine lv_iadd (pc := 19) hx hb dX9_get_19 ?_
      refine s_iald (pc := 20) F w ds_31 h dX9_get_20 (fun h => ?_)
      refine lv_goto (pc := 21) (tgt := 26) hx hb dX9_get_21 (by decide) ?_
      exact s_iret F w h dX9_get_26
def f_X9_isAs (a1 : Int32) (a2 : Int32) (S : SS) : Option (Int32 × SS) :=
  bnd (f_X9_get a1 (0 : Int32) S) (fun r2 S1 =>
  if r2 < 0 then
    some ((0 : Int32), S1)
  else
    if ((a2 >>> (r2 &&& 31)) &&& (1 : Int32)) = (1 : Int32) then
      some ((1 : Int32), S1)
    else
      some ((0 : Int32), S1))
theorem dX9_isAs_0 : decode cX9_isAs 0 = .ok (.aload_n 0, 1) := by decide +kernel
theorem dX9_isAs_1 : decode cX9_isAs 1 = .ok (.iload_n 1, 1) := by decide +kernel
theorem dX9_isAs_2 : decode cX9_isAs 2 = .ok (.iconst 0, 1) := by decide +kernel
theorem dX9_isAs_3 : decode cX9_isAs 3 = .ok (.invokevirtual 24, 3) := by decide +kernel
theorem dX9_isAs_6 : decode cX9_isAs 6 = .ok (.istore_n 3, 1) := by decide +kernel
theorem dX9_isAs_7 : decode cX9_isAs 7 = .ok (.iload_n 3, 1) := by decide +kernel
theorem dX9_isAs_8 : decode cX9_isAs 8 = .ok (.ifCond .lt 16, 3) := by decide +kernel
theorem dX9_isAs_11 : decode cX9_isAs 11 = .ok (.iload_n 2, 1) := by decide +kernel
theorem dX9_isAs_12 : decode cX9_isAs 12 = .ok (.iload_n 3, 1) := by decide +kernel
theorem dX9_isAs_13 : decode cX9_isAs 13 = .ok (.ishr, 1) := by decide +kernel
theorem dX9_isAs_14 : decode cX9_isAs 14 = .ok (.iconst 1, 1) := by decide +kernel
theorem dX9_isAs_15 : decode cX9_isAs 15 = .ok (.iand, 1) := by decide +kernel
theorem dX9_isAs_16 : decode cX9_isAs 16 = .ok (.iconst 1, 1) := by decide +kernel
theorem dX9_isAs_17 : decode cX9_isAs 17 = .ok (.if_icmp .ne 7, 3) := by decide +kernel
theorem dX9_isAs_20 : decode cX9_isAs 20 = .ok (.iconst 1, 1) := by decide +kernel
theorem dX9_isAs_21 : decode cX9_isAs 21 = .ok (.goto 4, 3) := by decide +kernel
theorem dX9_isAs_24 : decode cX9_isAs 24 = .ok (.iconst 0, 1) := by decide +kernel
theorem dX9_isAs_25 : decode cX9_isAs 25 = .ok (.ireturn, 1) := by decide +kernel
set_option maxRecDepth 100000 in
set_option maxHeartbeats 4000000 in
theorem m_X9_isAs (a1 : Int32) (a2 : Int32) (S S' : SS) (r : Int32) (h : f_X9_isAs a1 a2 S = some (r, S')) : MT yX9_isAs cX9_isAs 4 (some .boolean) 1 22 (fun ad => [.ref (ad 4), .int a1, .int a2]) S (some (.int r)) S' := by
  refine MT.of RX9 (fun ad => [(0, .ref (ad 4)), (1, .int a1), (2, .int a2)]) (by decide) rfl (fun _ => Nat.le_of_ble_eq_true rfl) (fun _ => rfl) ?_
  intro p l e R s m args below meth c dC dI cs ad A hR1 hR2 F H locs ls w hl
  have hx := F.1.1
  have hb := F.1.2.1
  rw [f_X9_isAs] at h
  refine lv_aload_n (pc := 0) hx hb dX9_isAs_0 rfl (lv_at hl 0 rfl) ?_
  refine lv_iload_n (pc := 1) hx hb dX9_isAs_1 rfl (lv_at hl 1 rfl) ?_
  refine lv_iconst (pc := 2) (v := 0) hx hb dX9_isAs_2 (by decide) ?_
  obtain ⟨r2, S1, hc, h⟩ := bnd_t h
  refine s_cvi (pc := 3) [.int a1, .int (0 : Int32)] (fun ad => [.ref (ad 4), .int a1, .int (0 : Int32)]) F w (m_X9_get _ _ _ _ _ hc) rfl rfl hl.1 ds_4 vc_X9 rfl ok_X9_get rfl kc_X9_get kl_X9_24 ki_X9_get kv_X9_get kn_X9 ⟨Nat.le_trans (by decide) hR1, Nat.le_trans (by decide) hR2⟩ ⟨Nat.zero_le _, Nat.zero_le _⟩ (Nat.le_of_ble_eq_true rfl) dX9_isAs_3 (fun H locs w => ?_)
  refine lv_istore_n (pc := 6) (lv' := [(3, .int r2), (0, .ref (ad 4)), (1, .int a1), (2, .int a2)]) hx hb dX9_isAs_6 rfl hl (by decide) rfl (fun ls hl => ?_)
  refine lv_iload_n (pc := 7) hx hb dX9_isAs_7 rfl (lv_at hl 0 rfl) ?_
  refine lv_if_lt (pc := 8) (tgt := 24) hx hb dX9_isAs_8 (by decide) (fun q => ?_) (fun q => ?_)
  · have h := ite_t q h
    refine lv_iconst (pc := 24) (v := 0) hx hb dX9_isAs_24 (by decide) ?_
    exact s_zretc F w rfl h dX9_isAs_25
  · have h := ite_f q h
    refine lv_iload_n (pc := 11) hx hb dX9_isAs_11 rfl (lv_at hl 3 rfl) ?_
    refine lv_iload_n (pc := 12) hx hb dX9_isAs_12 rfl (lv_at hl 0 rfl) ?_
    refine lv_ishr (pc := 13) hx hb dX9_isAs_13 ?_
    refine lv_iconst (pc := 14) (v := 1) hx hb dX9_isAs_14 (by decide) ?_
    refine lv_iand (pc := 15) hx hb dX9_isAs_15 ?_
    refine lv_iconst (pc := 16) (v := 1) hx hb dX9_isAs_16 (by decide) ?_
    refine lv_icmp_ne (pc := 17) (tgt := 24) hx hb dX9_isAs_17 (by decide) (fun q => ?_) (fun q => ?_)
    · have h := ite_f q h
      refine lv_iconst (pc := 24) (v := 0) hx hb dX9_isAs_24 (by decide) ?_
      exact s_zretc F w rfl h dX9_isAs_25
    · have h := ite_t q h
      refine lv_iconst (pc := 20) (v := 1) hx hb dX9_isAs_20 (by decide) ?_
      refine lv_goto (pc := 21) (tgt := 25) hx hb dX9_isAs_21 (by decide) ?_
      exact s_zretc F w rfl h dX9_isAs_25
def f_X8_isThere (a1 : Int32) (S : SS) : Option (Int32 × SS) :=
  bnd (f_X8_get a1 (0 : Int32) S) (fun r2 S1 =>
  if r2 < 0 then
    some ((0 : Int32), S1)
  else
    some ((1 : Int32), S1))
theorem dX8_isThere_0 : decode cX8_isThere 0 = .ok (.aload_n 0, 1) := by decide +kernel
theorem dX8_isThere_1 : decode cX8_isThere 1 = .ok (.iload_n 1, 1) := by decide +kernel
theorem dX8_isThere_2 : decode cX8_isThere 2 = .ok (.iconst 0, 1) := by decide +kernel
theorem dX8_isThere_3 : decode cX8_isThere 3 = .ok (.invokevirtual 31, 3) := by decide +kernel
theorem dX8_isThere_6 : decode cX8_isThere 6 = .ok (.ifCond .lt 7, 3) := by decide +kernel
theorem dX8_isThere_9 : decode cX8_isThere 9 = .ok (.iconst 1, 1) := by decide +kernel
theorem dX8_isThere_10 : decode cX8_isThere 10 = .ok (.goto 4, 3) := by decide +kernel
theorem dX8_isThere_13 : decode cX8_isThere 13 = .ok (.iconst 0, 1) := by decide +kernel
theorem dX8_isThere_14 : decode cX8_isThere 14 = .ok (.ireturn, 1) := by decide +kernel
set_option maxRecDepth 100000 in
set_option maxHeartbeats 4000000 in
theorem m_X8_isThere (a1 : Int32) (S S' : SS) (r : Int32) (h : f_X8_isThere a1 S = some (r, S')) : MT yX8_isThere cX8_isThere 2 (some .boolean) 1 22 (fun ad => [.ref (ad 2), .int a1]) S (some (.int r)) S' := by
  refine MT.of RX8 (fun ad => [(0, .ref (ad 2)), (1, .int a1)]) (by decide) rfl (fun _ => Nat.le_of_ble_eq_true rfl) (fun _ => rfl) ?_
  intro p l e R s m args below meth c dC dI cs ad A hR1 hR2 F H locs ls w hl
  have hx := F.1.1
  have hb := F.1.2.1
  rw [f_X8_isThere] at h
  refine lv_aload_n (pc := 0) hx hb dX8_isThere_0 rfl (lv_at hl 0 rfl) ?_
  refine lv_iload_n (pc := 1) hx hb dX8_isThere_1 rfl (lv_at hl 1 rfl) ?_
  refine lv_iconst (pc := 2) (v := 0) hx hb dX8_isThere_2 (by decide) ?_
  obtain ⟨r2, S1, hc, h⟩ := bnd_t h
  refine s_cvi (pc := 3) [.int a1, .int (0 : Int32)] (fun ad => [.ref (ad 2), .int a1, .int (0 : Int32)]) F w (m_X8_get _ _ _ _ _ hc) rfl rfl hl.1 ds_2 vc_X8 rfl ok_X8_get rfl kc_X8_get kl_X8_31 ki_X8_get kv_X8_get kn_X8 ⟨Nat.le_trans (by decide) hR1, Nat.le_trans (by decide) hR2⟩ ⟨Nat.zero_le _, Nat.zero_le _⟩ (Nat.le_of_ble_eq_true rfl) dX8_isThere_3 (fun H locs w => ?_)
  refine lv_if_lt (pc := 6) (tgt := 13) hx hb dX8_isThere_6 (by decide) (fun q => ?_) (fun q => ?_)
  · have h := ite_t q h
    refine lv_iconst (pc := 13) (v := 0) hx hb dX8_isThere_13 (by decide) ?_
    exact s_zretc F w rfl h dX8_isThere_14
  · have h := ite_f q h
    refine lv_iconst (pc := 9) (v := 1) hx hb dX8_isThere_9 (by decide) ?_
    refine lv_goto (pc := 10) (tgt := 14) hx hb dX8_isThere_10 (by decide) ?_
    exact s_zretc F w rfl h dX8_isThere_14
def f_X11_named (a1 : Int32) (a2 : Int32) (S : SS) : Option (Int32 × SS) :=
  bnd (f_X11_isNot a1 (0 : Int32) (71 : Int32) S) (fun r2 S1 =>
  if r2 = 0 then
    if a1 < (S1.1 2 1) then
      bnd (f_X9_isAs a1 a2 S1) (fun r4 S3 =>
      if r4 = 0 then
        some ((2 : Int32), S3)
      else
        bnd (f_X8_isThere a1 S3) (fun r6 S5 =>
        if r6 = 0 then
          some ((1 : Int32), S5)
        else
          some ((0 : Int32), S5)))
    else
      some ((1 : Int32), S1)
  else
    some ((3 : Int32), S1))
theorem dX11_named_0 : decode cX11_named 0 = .ok (.iload_n 1, 1) := by decide +kernel
theorem dX11_named_1 : decode cX11_named 1 = .ok (.iconst 0, 1) := by decide +kernel
theorem dX11_named_2 : decode cX11_named 2 = .ok (.bipush 71, 2) := by decide +kernel
theorem dX11_named_4 : decode cX11_named 4 = .ok (.invokestatic 108, 3) := by decide +kernel
theorem dX11_named_7 : decode cX11_named 7 = .ok (.ifCond .eq 5, 3) := by decide +kernel
theorem dX11_named_10 : decode cX11_named 10 = .ok (.iconst 3, 1) := by decide +kernel
theorem dX11_named_11 : decode cX11_named 11 = .ok (.ireturn, 1) := by decide +kernel
theorem dX11_named_12 : decode cX11_named 12 = .ok (.iload_n 1, 1) := by decide +kernel
theorem dX11_named_13 : decode cX11_named 13 = .ok (.aload_n 0, 1) := by decide +kernel
theorem dX11_named_14 : decode cX11_named 14 = .ok (.getfield 19, 3) := by decide +kernel
theorem dX11_named_17 : decode cX11_named 17 = .ok (.getfield 140, 3) := by decide +kernel
theorem dX11_named_20 : decode cX11_named 20 = .ok (.if_icmp .lt 5, 3) := by decide +kernel
theorem dX11_named_23 : decode cX11_named 23 = .ok (.iconst 1, 1) := by decide +kernel
theorem dX11_named_24 : decode cX11_named 24 = .ok (.ireturn, 1) := by decide +kernel
theorem dX11_named_25 : decode cX11_named 25 = .ok (.aload_n 0, 1) := by decide +kernel
theorem dX11_named_26 : decode cX11_named 26 = .ok (.getfield 33, 3) := by decide +kernel
theorem dX11_named_29 : decode cX11_named 29 = .ok (.iload_n 1, 1) := by decide +kernel
theorem dX11_named_30 : decode cX11_named 30 = .ok (.iload_n 2, 1) := by decide +kernel
theorem dX11_named_31 : decode cX11_named 31 = .ok (.invokevirtual 247, 3) := by decide +kernel
theorem dX11_named_34 : decode cX11_named 34 = .ok (.ifCond .ne 5, 3) := by decide +kernel
theorem dX11_named_37 : decode cX11_named 37 = .ok (.iconst 2, 1) := by decide +kernel
theorem dX11_named_38 : decode cX11_named 38 = .ok (.ireturn, 1) := by decide +kernel
theorem dX11_named_39 : decode cX11_named 39 = .ok (.aload_n 0, 1) := by decide +kernel
theorem dX11_named_40 : decode cX11_named 40 = .ok (.getfield 19, 3) := by decide +kernel
theorem dX11_named_43 : decode cX11_named 43 = .ok (.iload_n 1, 1) := by decide +kernel
theorem dX11_named_44 : decode cX11_named 44 = .ok (.invokevirtual 410, 3) := by decide +kernel
theorem dX11_named_47 : decode cX11_named 47 = .ok (.ifCond .eq 7, 3) := by decide +kernel
theorem dX11_named_50 : decode cX11_named 50 = .ok (.iconst 0, 1) := by decide +kernel
theorem dX11_named_51 : decode cX11_named 51 = .ok (.goto 4, 3) := by decide +kernel
theorem dX11_named_54 : decode cX11_named 54 = .ok (.iconst 1, 1) := by decide +kernel
theorem dX11_named_55 : decode cX11_named 55 = .ok (.ireturn, 1) := by decide +kernel
set_option maxRecDepth 100000 in
set_option maxHeartbeats 4000000 in
theorem m_X11_named (a1 : Int32) (a2 : Int32) (S S' : SS) (r : Int32) (h : f_X11_named a1 a2 S = some (r, S')) : MT yX11_named cX11_named 3 (some .int) 2 45 (fun ad => [.ref (ad 0), .int a1, .int a2]) S (some (.int r)) S' := by
  refine MT.of RX11 (fun ad => [(0, .ref (ad 0)), (1, .int a1), (2, .int a2)]) (by decide) rfl (fun _ => Nat.le_of_ble_eq_true rfl) (fun _ => rfl) ?_
  intro p l e R s m args below meth c dC dI cs ad A hR1 hR2 F H locs ls w hl
  have hx := F.1.1
  have hb := F.1.2.1
  rw [f_X11_named] at h
  refine lv_iload_n (pc := 0) hx hb dX11_named_0 rfl (lv_at hl 1 rfl) ?_
  refine lv_iconst (pc := 1) (v := 0) hx hb dX11_named_1 (by decide) ?_
  refine lv_bipush (pc := 2) (v := 71) hx hb dX11_named_2 (by decide) ?_
  obtain ⟨r2, S1, hc, h⟩ := bnd_t h
  refine s_csi (pc := 4) [.int a1, .int (0 : Int32), .int (71 : Int32)] (fun ad => [.int a1, .int (0 : Int32), .int (71 : Int32)]) F w (m_X11_isNot _ _ _ _ _ _ hc) rfl rfl hl.1 ok_X11_isNot rfl kc_X11_isNot kl_X11_108 ks_X11_isNot kn_X11 ⟨Nat.le_trans (by decide) hR1, Nat.le_trans (by decide) hR2⟩ ⟨Nat.zero_le _, Nat.zero_le _⟩ (Nat.le_of_ble_eq_true rfl) dX11_named_4 (fun H locs w => ?_)
  refine lv_if_eq (pc := 7) (tgt := 12) hx hb dX11_named_7 (by decide) (fun q => ?_) (fun q => ?_)
  · have h := ite_t q h
    refine lv_iload_n (pc := 12) hx hb dX11_named_12 rfl (lv_at hl 1 rfl) ?_
    refine lv_aload_n (pc := 13) hx hb dX11_named_13 rfl (lv_at hl 0 rfl) ?_
    refine s_getR (pc := 14) F w 2 ds_0 (j := 1) vc_X11 vi_X11 rfl (by decide) kf_X11_19 dX11_named_14 ?_
    refine s_getI (pc := 17) F w ds_2 (j := 1) vc_X8 vi_X8 rfl (by decide) kf_X11_140 dX11_named_17 ?_
    refine lv_icmp_lt (pc := 20) (tgt := 25) hx hb dX11_named_20 (by decide) (fun q => ?_) (fun q => ?_)
    · have h := ite_t q h
      refine lv_aload_n (pc := 25) hx hb dX11_named_25 rfl (lv_at hl 0 rfl) ?_
      refine s_getR (pc := 26) F w 4 ds_0 (j := 3) vc_X11 vi_X11 rfl (by decide) kf_X11_33 dX11_named_26 ?_
      refine lv_iload_n (pc := 29) hx hb dX11_named_29 rfl (lv_at hl 1 rfl) ?_
      refine lv_iload_n (pc := 30) hx hb dX11_named_30 rfl (lv_at hl 2 rfl) ?_
      obtain ⟨r4, S3, hc, h⟩ := bnd_t h
      refine s_cvi (pc := 31) [.int a1, .int a2] (fun ad => [.ref (ad 4), .int a1, .int a2]) F w (m_X9_isAs _ _ _ _ _ hc) rfl rfl hl.1 ds_4 vc_X9 rfl ok_X9_isAs rfl kc_X9_isAs kl_X11_247 ki_X9_isAs kv_X9_isAs kn_X9 ⟨Nat.le_trans (by decide) hR1, Nat.le_trans (by decide) hR2⟩ ⟨Nat.zero_le _, Nat.zero_le _⟩ (Nat.le_of_ble_eq_true rfl) dX11_named_31 (fun H locs w => ?_)
      refine lv_if_ne (pc := 34) (tgt := 39) hx hb dX11_named_34 (by decide) (fun q => ?_) (fun q => ?_)
      · have h := ite_f q h
        refine lv_aload_n (pc := 39) hx hb dX11_named_39 rfl (lv_at hl 0 rfl) ?_
        refine s_getR (pc := 40) F w 2 ds_0 (j := 1) vc_X11 vi_X11 rfl (by decide) kf_X11_19 dX11_named_40 ?_
        refine lv_iload_n (pc := 43) hx hb dX11_named_43 rfl (lv_at hl 1 rfl) ?_
        obtain ⟨r6, S5, hc, h⟩ := bnd_t h
        refine s_cvi (pc := 44) [.int a1] (fun ad => [.ref (ad 2), .int a1]) F w (m_X8_isThere _ _ _ _ hc) rfl rfl hl.1 ds_2 vc_X8 rfl ok_X8_isThere rfl kc_X8_isThere kl_X11_410 ki_X8_isThere kv_X8_isThere kn_X8 ⟨Nat.le_trans (by decide) hR1, Nat.le_trans (by decide) hR2⟩ ⟨Nat.zero_le _, Nat.zero_le _⟩ (Nat.le_of_ble_eq_true rfl) dX11_named_44 (fun H locs w => ?_)
        refine lv_if_eq (pc := 47) (tgt := 54) hx hb dX11_named_47 (by decide) (fun q => ?_) (fun q => ?_)
        · have h := ite_t q h
          refine lv_iconst (pc := 54) (v := 1) hx hb dX11_named_54 (by decide) ?_
          exact s_iret F w h dX11_named_55
        · have h := ite_f q h
          refine lv_iconst (pc := 50) (v := 0) hx hb dX11_named_50 (by decide) ?_
          refine lv_goto (pc := 51) (tgt := 55) hx hb dX11_named_51 (by decide) ?_
          exact s_iret F w h dX11_named_55
      · have h := ite_t q h
        refine lv_iconst (pc := 37) (v := 2) hx hb dX11_named_37 (by decide) ?_
        exact s_iret F w h dX11_named_38
    · have h := ite_f q h
      refine lv_iconst (pc := 23) (v := 1) hx hb dX11_named_23 (by decide) ?_
      exact s_iret F w h dX11_named_24
  · have h := ite_f q h
    refine lv_iconst (pc := 10) (v := 3) hx hb dX11_named_10 (by decide) ?_
    exact s_iret F w h dX11_named_11
def f_X9_putPiece (a1 : Int32) (a2 : Int32) (a3 : Int32) (S : SS) : Option (Int32 × SS) :=
  if a1 < 0 then
    some (a3, S)
  else
    if (72 : Int32) ≤ a1 then
      some (a3, S)
    else
      if a2 < 0 then
        some (a3, S)
      else
        if a2 < (20 : Int32) then
          grd (inb (((20 : Int32) * a1) + a2) 1440) (
          nm (S.1 32 (((20 : Int32) * a1) + a2).toNatClampNeg) (fun z1 =>
          grd (inb (((20 : Int32) * a1) + a2) 1440) (wr S 32 (((20 : Int32) * a1) + a2).toNatClampNeg a3 (fun S2 =>
          some (z1, S2)))))
        else
          some (a3, S)
theorem dX9_putPiece_0 : decode cX9_putPiece 0 = .ok (.iload_n 1, 1) := by decide +kernel
theorem dX9_putPiece_1 : decode cX9_putPiece 1 = .ok (.ifCond .lt 19, 3) := by decide +kernel
theorem dX9_putPiece_4 : decode cX9_putPiece 4 = .ok (.iload_n 1, 1) := by decide +kernel
theorem dX9_putPiece_5 : decode cX9_putPiece 5 = .ok (.bipush 72, 2) := by decide +kernel
theorem dX9_putPiece_7 : decode cX9_putPiece 7 = .ok (.if_icmp .ge 13, 3) := by decide +kernel
theorem dX9_putPiece_10 : decode cX9_putPiece 10 = .ok (.iload_n 2, 1) := by decide +kernel
theorem dX9_putPiece_11 : decode cX9_putPiece 11 = .ok (.ifCond .lt 9, 3) := by decide +kernel
theorem dX9_putPiece_14 : decode cX9_putPiece 14 = .ok (.iload_n 2, 1) := by decide +kernel
theorem dX9_putPiece_15 : decode cX9_putPiece 15 = .ok (.bipush 20, 2) := by decide +kernel
theorem dX9_putPiece_17 : decode cX9_putPiece 17 = .ok (.if_icmp .lt 5, 3) := by decide +kernel
theorem dX9_putPiece_20 : decode cX9_putPiece 20 = .ok (.iload_n 3, 1) := by decide +kernel
theorem dX9_putPiece_21 : decode cX9_putPiece 21 = .ok (.ireturn, 1) := by decide +kernel
theorem dX9_putPiece_22 : decode cX9_putPiece 22 = .ok (.aload_n 0, 1) := by decide +kernel
theorem dX9_putPiece_23 : decode cX9_putPiece 23 = .ok (.getfield 17, 3) := by decide +kernel
theorem dX9_putPiece_26 : decode cX9_putPiece 26 = .ok (.bipush 20, 2) := by decide +kernel
theorem dX9_putPiece_28 : decode cX9_putPiece 28 = .ok (.iload_n 1, 1) := by decide +kernel
theorem dX9_putPiece_29 : decode cX9_putPiece 29 = .ok (.imul, 1) := by decide +kernel
theorem dX9_putPiece_30 : decode cX9_putPiece 30 = .ok (.iload_n 2, 1) := by decide +kernel
theorem dX9_putPiece_31 : decode cX9_putPiece 31 = .ok (.iadd, 1) := by decide +kernel
theorem dX9_putPiece_32 : decode cX9_putPiece 32 = .ok (.iaload, 1) := by decide +kernel
theorem dX9_putPiece_33 : decode cX9_putPiece 33 = .ok (.istore 4, 2) := by decide +kernel
theorem dX9_putPiece_35 : decode cX9_putPiece 35 = .ok (.aload_n 0, 1) := by decide +kernel
theorem dX9_putPiece_36 : decode cX9_putPiece 36 = .ok (.getfield 17, 3) := by decide +kernel
theorem dX9_putPiece_39 : decode cX9_putPiece 39 = .ok (.bipush 20, 2) := by decide +kernel
theorem dX9_putPiece_41 : decode cX9_putPiece 41 = .ok (.iload_n 1, 1) := by decide +kernel
theorem dX9_putPiece_42 : decode cX9_putPiece 42 = .ok (.imul, 1) := by decide +kernel
theorem dX9_putPiece_43 : decode cX9_putPiece 43 = .ok (.iload_n 2, 1) := by decide +kernel
theorem dX9_putPiece_44 : decode cX9_putPiece 44 = .ok (.iadd, 1) := by decide +kernel
theorem dX9_putPiece_45 : decode cX9_putPiece 45 = .ok (.iload_n 3, 1) := by decide +kernel
theorem dX9_putPiece_46 : decode cX9_putPiece 46 = .ok (.iastore, 1) := by decide +kernel
theorem dX9_putPiece_47 : decode cX9_putPiece 47 = .ok (.iload 4, 2) := by decide +kernel
theorem dX9_putPiece_49 : decode cX9_putPiece 49 = .ok (.ireturn, 1) := by decide +kernel
set_option maxRecDepth 100000 in
set_option maxHeartbeats 4000000 in
theorem m_X9_putPiece (a1 : Int32) (a2 : Int32) (a3 : Int32) (S S' : SS) (r : Int32) (h : f_X9_putPiece a1 a2 a3 S = some (r, S')) : MT yX9_putPiece cX9_putPiece 5 (some .int) 0 0 (fun ad => [.ref (ad 4), .int a1, .int a2, .int a3]) S (some (.int r)) S' := by
  refine MT.of RX9 (fun ad => [(0, .ref (ad 4)), (1, .int a1), (2, .int a2), (3, .int a3)]) (by decide) rfl (fun _ => Nat.le_of_ble_eq_true rfl) (fun _ => rfl) ?_
  intro p l e R s m args below meth c dC dI cs ad A hR1 hR2 F H locs ls w hl
  have hx := F.1.1
  have hb := F.1.2.1
  rw [f_X9_putPiece] at h
  refine lv_iload_n (pc := 0) hx hb dX9_putPiece_0 rfl (lv_at hl 1 rfl) ?_
  refine lv_if_lt (pc := 1) (tgt := 20) hx hb dX9_putPiece_1 (by decide) (fun q => ?_) (fun q => ?_)
  · have h := ite_t q h
    refine lv_iload_n (pc := 20) hx hb dX9_putPiece_20 rfl (lv_at hl 3 rfl) ?_
    exact s_iret F w h dX9_putPiece_21
  · have h := ite_f q h
    refine lv_iload_n (pc := 4) hx hb dX9_putPiece_4 rfl (lv_at hl 1 rfl) ?_
    refine lv_bipush (pc := 5) (v := 72) hx hb dX9_putPiece_5 (by decide) ?_
    refine lv_icmp_ge (pc := 7) (tgt := 20) hx hb dX9_putPiece_7 (by decide) (fun q => ?_) (fun q => ?_)
    · have h := ite_t q h
      refine lv_iload_n (pc := 20) hx hb dX9_putPiece_20 rfl (lv_at hl 3 rfl) ?_
      exact s_iret F w h dX9_putPiece_21
    · have h := ite_f q h
      refine lv_iload_n (pc := 10) hx hb dX9_putPiece_10 rfl (lv_at hl 2 rfl) ?_
      refine lv_if_lt (pc := 11) (tgt := 20) hx hb dX9_putPiece_11 (by decide) (fun q => ?_) (fun q => ?_)
      · have h := ite_t q h
        refine lv_iload_n (pc := 20) hx hb dX9_putPiece_20 rfl (lv_at hl 3 rfl) ?_
        exact s_iret F w h dX9_putPiece_21
      · have h := ite_f q h
        refine lv_iload_n (pc := 14) hx hb dX9_putPiece_14 rfl (lv_at hl 2 rfl) ?_
        refine lv_bipush (pc := 15) (v := 20) hx hb dX9_putPiece_15 (by decide) ?_
        refine lv_icmp_lt (pc := 17) (tgt := 22) hx hb dX9_putPiece_17 (by decide) (fun q => ?_) (fun q => ?_)
        · have h := ite_t q h
          refine lv_aload_n (pc := 22) hx hb dX9_putPiece_22 rfl (lv_at hl 0 rfl) ?_
          refine s_getR (pc := 23) F w 32 ds_4 (j := 1) vc_X9 vi_X9 rfl (by decide) kf_X9_17 dX9_putPiece_23 ?_
          refine lv_bipush (pc := 26) (v := 20) hx hb dX9_putPiece_26 (by decide) ?_
          refine lv_iload_n (pc := 28) hx hb dX9_putPiece_28 rfl (lv_at hl 1 rfl) ?_
          refine lv_imul (pc := 29) hx hb dX9_putPiece_29 ?_
          refine lv_iload_n (pc := 30) hx hb dX9_putPiece_30 rfl (lv_at hl 2 rfl) ?_
          refine lv_iadd (pc := 31) hx hb dX9_putPiece_31 ?_
          refine s_iald (pc := 32) F w ds_32 h dX9_putPiece_32 (fun h => ?_)
          refine s_nm h (fun z1 ez1 h => ?_)
          rw [← ez1]
          refine lv_istore (pc := 33) (lv' := [(4, .int z1), (0, .ref (ad 4)), (1, .int a1), (2, .int a2), (3, .int a3)]) hx hb dX9_putPiece_33 hl (by decide) rfl (fun ls hl => ?_)
          refine lv_aload_n (pc := 35) hx hb dX9_putPiece_35 rfl (lv_at hl 1 rfl) ?_
          refine s_getR (pc := 36) F w 32 ds_4 (j := 1) vc_X9 vi_X9 rfl (by decide) kf_X9_17 dX9_putPiece_36 ?_
          refine lv_bipush (pc := 39) (v := 20) hx hb dX9_putPiece_39 (by decide) ?_
          refine lv_iload_n (pc := 41) hx hb dX9_putPiece_41 rfl (lv_at hl 2 rfl) ?_
          refine lv_imul (pc := 42) hx hb dX9_putPiece_42 ?_
          refine lv_iload_n (pc := 43) hx hb dX9_putPiece_43 rfl (lv_at hl 3 rfl) ?_
          refine lv_iadd (pc := 44) hx hb dX9_putPiece_44 ?_
          refine lv_iload_n (pc := 45) hx hb dX9_putPiece_45 rfl (lv_at hl 4 rfl) ?_
          refine s_iast (pc := 46) F w ds_32 h dX9_putPiece_46 (fun S2 H locs h w => ?_)
          refine lv_iload (pc := 47) hx hb dX9_putPiece_47 (lv_at hl 0 rfl) ?_
          exact s_iret F w h dX9_putPiece_49
        · have h := ite_f q h
          refine lv_iload_n (pc := 20) hx hb dX9_putPiece_20 rfl (lv_at hl 3 rfl) ?_
          exact s_iret F w h dX9_putPiece_21
def f_X9_newLoad_L24  : Nat → Int32 → Int32 → Int32 → SS → Option (SS)
  | 0, _, _, _, _ => none
  | n + 1, x1, x3, x4, S =>
    if x3 ≤ x4 then
      some S
    else
      bnd (f_X9_putPiece x1 x4 (0 : Int32) S) (fun r5 S4 =>
      nm (x4 + (1 : Int32)) (fun z6 =>
      f_X9_newLoad_L24 n x1 x3 z6 S4))
def f_X9_newLoad (a1 : Int32) (a2 : Int32) (a3 : Int32) (S : SS) : Option (SS) :=
  bndv (f_X9_set a1 (3 : Int32) a2 S) (fun S1 =>
  bndv (f_X9_set a1 (4 : Int32) a3 S1) (fun S2 =>
  bndv (f_X9_set a1 (5 : Int32) (0 : Int32) S2) (fun S3 =>
  f_X9_newLoad_L24 NF a1 a3 (0 : Int32) S3)))
theorem dX9_newLoad_0 : decode cX9_newLoad 0 = .ok (.aload_n 0, 1) := by decide +kernel
theorem dX9_newLoad_1 : decode cX9_newLoad 1 = .ok (.iload_n 1, 1) := by decide +kernel
theorem dX9_newLoad_2 : decode cX9_newLoad 2 = .ok (.iconst 3, 1) := by decide +kernel
theorem dX9_newLoad_3 : decode cX9_newLoad 3 = .ok (.iload_n 2, 1) := by decide +kernel
theorem dX9_newLoad_4 : decode cX9_newLoad 4 = .ok (.invokevirtual 20, 3) := by decide +kernel
theorem dX9_newLoad_7 : decode cX9_newLoad 7 = .ok (.aload_n 0, 1) := by decide +kernel
theorem dX9_newLoad_8 : decode cX9_newLoad 8 = .ok (.iload_n 1, 1) := by decide +kernel
theorem dX9_newLoad_9 : decode cX9_newLoad 9 = .ok (.iconst 4, 1) := by decide +kernel
theorem dX9_newLoad_10 : decode cX9_newLoad 10 = .ok (.iload_n 3, 1) := by decide +kernel
theorem dX9_newLoad_11 : decode cX9_newLoad 11 = .ok (.invokevirtual 20, 3) := by decide +kernel
theorem dX9_newLoad_14 : decode cX9_newLoad 14 = .ok (.aload_n 0, 1) := by decide +kernel
theorem dX9_newLoad_15 : decode cX9_newLoad 15 = .ok (.iload_n 1, 1) := by decide +kernel
theorem dX9_newLoad_16 : decode cX9_newLoad 16 = .ok (.iconst 5, 1) := by decide +kernel
theorem dX9_newLoad_17 : decode cX9_newLoad 17 = .ok (.iconst 0, 1) := by decide +kernel
theorem dX9_newLoad_18 : decode cX9_newLoad 18 = .ok (.invokevirtual 20, 3) := by decide +kernel
theorem dX9_newLoad_21 : decode cX9_newLoad 21 = .ok (.iconst 0, 1) := by decide +kernel
theorem dX9_newLoad_22 : decode cX9_newLoad 22 = .ok (.istore 4, 2) := by decide +kernel
theorem dX9_newLoad_24 : decode cX9_newLoad 24 = .ok (.iload 4, 2) := by decide +kernel
theorem dX9_newLoad_26 : decode cX9_newLoad 26 = .ok (.iload_n 3, 1) := by decide +kernel
theorem dX9_newLoad_27 : decode cX9_newLoad 27 = .ok (.if_icmp .ge 18, 3) := by decide +kernel
theorem dX9_newLoad_30 : decode cX9_newLoad 30 = .ok (.aload_n 0, 1) := by decide +kernel
theorem dX9_newLoad_31 : decode cX9_newLoad 31 = .ok (.iload_n 1, 1) := by decide +kernel
theorem dX9_newLoad_32 : decode cX9_newLoad 32 = .ok (.iload 4, 2) := by decide +kernel
theorem dX9_newLoad_34 : decode cX9_newLoad 34 = .ok (.iconst 0, 1) := by decide +kernel
theorem dX9_newLoad_35 : decode cX9_newLoad 35 = .ok (.invokevirtual 28, 3) := by decide +kernel
theorem dX9_newLoad_38 : decode cX9_newLoad 38 = .ok (.pop, 1) := by decide +kernel
theorem dX9_newLoad_39 : decode cX9_newLoad 39 = .ok (.iinc 4 1, 3) := by decide +kernel
theorem dX9_newLoad_42 : decode cX9_newLoad 42 = .ok (.goto (-18), 3) := by decide +kernel
theorem dX9_newLoad_45 : decode cX9_newLoad 45 = .ok (.return_, 1) := by decide +kernel
set_option maxRecDepth 100000 in
set_option maxHeartbeats 4000000 in
theorem w_X9_newLoad_L24 {p : Program} {l : Launch} {e : Env} {R : Room} {s : State} {m : MethodId} {args : Array Value} {below : List Frame} {meth : Method} {c : Code} {dC : Nat → ClassId} {dI : Nat → Nat → Nat} {cs : Nat → ClassId} {ad : Nat → Nat} {A : Nat → Prop} {D0 : Nat → Nat} {S' : SS} (F : Fx p s m args meth c cX9_newLoad 5 RX9 none dC dI cs A) (hR1 : 1 ≤ R.frames) (hR2 : 24 ≤ R.locals) : ∀ (n : Nat) (x1 : Int32) (x3 : Int32) (x4 : Int32) (S : SS), f_X9_newLoad_L24 n x1 x3 x4 S = some S' → AW p l e R s m args below meth c dC dI cs ad A D0 none S' 5 24 [(0, .ref (ad 4)), (1, .int x1), (3, .int x3), (4, .int x4)] [] S := by
  have hx := F.1.1
  have hb := F.1.2.1
  intro n
  induction n with
  | zero => intro x1 x3 x4 S h; cases h
  | succ n ih =>
    intro x1 x3 x4 S h H locs ls w hl
    rw [f_X9_newLoad_L24] at h
    refine lv_iload (pc := 24) hx hb dX9_newLoad_24 (lv_at hl 3 rfl) ?_
    refine lv_iload_n (pc := 26) hx hb dX9_newLoad_26 rfl (lv_at hl 2 rfl) ?_
    refine lv_icmp_ge (pc := 27) (tgt := 45) hx hb dX9_newLoad_27 (by decide) (fun q => ?_) (fun q => ?_)
    · have h := ite_t q h
      exact s_vret F w h dX9_newLoad_45
    · have h := ite_f q h
      refine lv_aload_n (pc := 30) hx hb dX9_newLoad_30 rfl (lv_at hl 0 rfl) ?_
      refine lv_iload_n (pc := 31) hx hb dX9_newLoad_31 rfl (lv_at hl 1 rfl) ?_
      refine lv_iload (pc := 32) hx hb dX9_newLoad_32 (lv_at hl 3 rfl) ?_
      refine lv_iconst (pc := 34) (v := 0) hx hb dX9_newLoad_34 (by decide) ?_
      obtain ⟨r5, S4, hc, h⟩ := bnd_t h
      refine s_cvi (pc := 35) [.int x1, .int x4, .int (0 : Int32)] (fun ad => [.ref (ad 4), .int x1, .int x4, .int (0 : Int32)]) F w (m_X9_putPiece _ _ _ _ _ _ hc) rfl rfl hl.1 ds_4 vc_X9 rfl ok_X9_putPiece rfl kc_X9_putPiece kl_X9_28 ki_X9_putPiece kv_X9_putPiece kn_X9 ⟨Nat.le_trans (by decide) hR1, Nat.le_trans (by decide) hR2⟩ ⟨Nat.zero_le _, Nat.zero_le _⟩ (Nat.le_of_ble_eq_true rfl) dX9_newLoad_35 (fun H locs w => ?_)
      refine lv_pop (pc := 38) hx hb dX9_newLoad_38 rfl ?_
      refine s_nm h (fun z6 ez6 h => ?_)
      refine lv_iinc (pc := 39) (v := z6) (lv' := [(4, .int z6), (0, .ref (ad 4)), (1, .int x1), (3, .int x3)]) hx hb dX9_newLoad_39 hl (k := 3) rfl (by rw [ez6]; rfl) (by decide) rfl (fun ls hl => ?_)
      refine lv_goto (pc := 42) (tgt := 24) hx hb dX9_newLoad_42 (by decide) ?_
      exact ih _ _ _ _ h _ _ _ w (lv_sub hl [1, 2, 3, 0] rfl)
set_option maxRecDepth 100000 in
set_option maxHeartbeats 4000000 in
theorem m_X9_newLoad (a1 : Int32) (a2 : Int32) (a3 : Int32) (S S' : SS) (h : f_X9_newLoad a1 a2 a3 S = some S') : MT yX9_newLoad cX9_newLoad 5 none 1 24 (fun ad => [.ref (ad 4), .int a1, .int a2, .int a3]) S none S' := by
  refine MT.of RX9 (fun ad => [(0, .ref (ad 4)), (1, .int a1), (2, .int a2), (3, .int a3)]) (by decide) rfl (fun _ => Nat.le_of_ble_eq_true rfl) (fun _ => rfl) ?_
  intro p l e R s m args below meth c dC dI cs ad A hR1 hR2 F H locs ls w hl
  have hx := F.1.1
  have hb := F.1.2.1
  rw [f_X9_newLoad] at h
  refine lv_aload_n (pc := 0) hx hb dX9_newLoad_0 rfl (lv_at hl 0 rfl) ?_
  refine lv_iload_n (pc := 1) hx hb dX9_newLoad_1 rfl (lv_at hl 1 rfl) ?_
  refine lv_iconst (pc := 2) (v := 3) hx hb dX9_newLoad_2 (by decide) ?_
  refine lv_iload_n (pc := 3) hx hb dX9_newLoad_3 rfl (lv_at hl 2 rfl) ?_
  obtain ⟨S1, hc, h⟩ := bndv_t h
  refine s_cvv (pc := 4) [.int a1, .int (3 : Int32), .int a2] (fun ad => [.ref (ad 4), .int a1, .int (3 : Int32), .int a2]) F w (m_X9_set _ _ _ _ _ hc) rfl rfl hl.1 ds_4 vc_X9 rfl ok_X9_set rfl kc_X9_set kl_X9_20 ki_X9_set kv_X9_set kn_X9 ⟨Nat.le_trans (by decide) hR1, Nat.le_trans (by decide) hR2⟩ ⟨Nat.zero_le _, Nat.zero_le _⟩ (Nat.le_of_ble_eq_true rfl) dX9_newLoad_4 (fun H locs w => ?_)
  refine lv_aload_n (pc := 7) hx hb dX9_newLoad_7 rfl (lv_at hl 0 rfl) ?_
  refine lv_iload_n (pc := 8) hx hb dX9_newLoad_8 rfl (lv_at hl 1 rfl) ?_
  refine lv_iconst (pc := 9) (v := 4) hx hb dX9_newLoad_9 (by decide) ?_
  refine lv_iload_n (pc := 10) hx hb dX9_newLoad_10 rfl (lv_at hl 3 rfl) ?_
  obtain ⟨S2, hc, h⟩ := bndv_t h
  refine s_cvv (pc := 11) [.int a1, .int (4 : Int32), .int a3] (fun ad => [.ref (ad 4), .int a1, .int (4 : Int32), .int a3]) F w (m_X9_set _ _ _ _ _ hc) rfl rfl hl.1 ds_4 vc_X9 rfl ok_X9_set rfl kc_X9_set kl_X9_20 ki_X9_set kv_X9_set kn_X9 ⟨Nat.le_trans (by decide) hR1, Nat.le_trans (by decide) hR2⟩ ⟨Nat.zero_le _, Nat.zero_le _⟩ (Nat.le_of_ble_eq_true rfl) dX9_newLoad_11 (fun H locs w => ?_)
  refine lv_aload_n (pc := 14) hx hb dX9_newLoad_14 rfl (lv_at hl 0 rfl) ?_
  refine lv_iload_n (pc := 15) hx hb dX9_newLoad_15 rfl (lv_at hl 1 rfl) ?_
  refine lv_iconst (pc := 16) (v := 5) hx hb dX9_newLoad_16 (by decide) ?_
  refine lv_iconst (pc := 17) (v := 0) hx hb dX9_newLoad_17 (by decide) ?_
  obtain ⟨S3, hc, h⟩ := bndv_t h
  refine s_cvv (pc := 18) [.int a1, .int (5 : Int32), .int (0 : Int32)] (fun ad => [.ref (ad 4), .int a1, .int (5 : Int32), .int (0 : Int32)]) F w (m_X9_set _ _ _ _ _ hc) rfl rfl hl.1 ds_4 vc_X9 rfl ok_X9_set rfl kc_X9_set kl_X9_20 ki_X9_set kv_X9_set kn_X9 ⟨Nat.le_trans (by decide) hR1, Nat.le_trans (by decide) hR2⟩ ⟨Nat.zero_le _, Nat.zero_le _⟩ (Nat.le_of_ble_eq_true rfl) dX9_newLoad_18 (fun H locs w => ?_)
  refine lv_iconst (pc := 21) (v := 0) hx hb dX9_newLoad_21 (by decide) ?_
  refine lv_istore (pc := 22) (lv' := [(4, .int (0 : Int32)), (0, .ref (ad 4)), (1, .int a1), (2, .int a2), (3, .int a3)]) hx hb dX9_newLoad_22 hl (by decide) rfl (fun ls hl => ?_)
  exact w_X9_newLoad_L24 F (Nat.le_trans (by decide) hR1) (Nat.le_trans (by decide) hR2) _ _ _ _ _ h _ _ _ w (lv_sub hl [1, 2, 4, 0] rfl)
def f_X11_load_j45  (x1 : Int32) (x2 : Int32) (x3 : Int32) (x4 : Int32) (S : SS) : Option (Int32 × SS) :=
    if x4 = 0 then
      bndv (f_X9_newLoad x1 x2 x3 S) (fun S6 =>
      some (x3, S6))
    else
      bnd (f_X5_found x4 S) (fun r8 S7 =>
      some (r8, S7))
def f_X11_load (a1 : Int32) (a2 : Int32) (a3 : Int32) (S : SS) : Option (Int32 × SS) :=
  bnd (f_X11_isNot a2 (0 : Int32) (1 : Int32) S) (fun r2 S1 =>
  if r2 = 0 then
    if a3 ≤ (20 : Int32) then
      bndv (f_X5_begin  S1) (fun S3 =>
      bnd (f_X11_named a1 (31 : Int32) S3) (fun r5 S4 =>
      if r5 = 0 then
        if 0 ≤ a3 then
          f_X11_load_j45 a1 a2 a3 r5 S4
        else
          f_X11_load_j45 a1 a2 a3 (5 : Int32) S4
      else
        f_X11_load_j45 a1 a2 a3 r5 S4))
    else
      some ((-1 : Int32), S1)
  else
    some ((-1 : Int32), S1))
theorem dX11_load_0 : decode cX11_load 0 = .ok (.iload_n 2, 1) := by decide +kernel
theorem dX11_load_1 : decode cX11_load 1 = .ok (.iconst 0, 1) := by decide +kernel
theorem dX11_load_2 : decode cX11_load 2 = .ok (.iconst 1, 1) := by decide +kernel
theorem dX11_load_3 : decode cX11_load 3 = .ok (.invokestatic 108, 3) := by decide +kernel
theorem dX11_load_6 : decode cX11_load 6 = .ok (.ifCond .ne 9, 3) := by decide +kernel
theorem dX11_load_9 : decode cX11_load 9 = .ok (.iload_n 3, 1) := by decide +kernel
theorem dX11_load_10 : decode cX11_load 10 = .ok (.bipush 20, 2) := by decide +kernel
theorem dX11_load_12 : decode cX11_load 12 = .ok (.if_icmp .le 5, 3) := by decide +kernel
theorem dX11_load_15 : decode cX11_load 15 = .ok (.iconst (-1), 1) := by decide +kernel
theorem dX11_load_16 : decode cX11_load 16 = .ok (.ireturn, 1) := by decide +kernel
theorem dX11_load_17 : decode cX11_load 17 = .ok (.aload_n 0, 1) := by decide +kernel
theorem dX11_load_18 : decode cX11_load 18 = .ok (.getfield 10, 3) := by decide +kernel
theorem dX11_load_21 : decode cX11_load 21 = .ok (.invokevirtual 95, 3) := by decide +kernel
theorem dX11_load_24 : decode cX11_load 24 = .ok (.aload_n 0, 1) := by decide +kernel
theorem dX11_load_25 : decode cX11_load 25 = .ok (.iload_n 1, 1) := by decide +kernel
theorem dX11_load_26 : decode cX11_load 26 = .ok (.bipush 31, 2) := by decide +kernel
theorem dX11_load_28 : decode cX11_load 28 = .ok (.invokevirtual 185, 3) := by decide +kernel
theorem dX11_load_31 : decode cX11_load 31 = .ok (.istore 4, 2) := by decide +kernel
theorem dX11_load_33 : decode cX11_load 33 = .ok (.iload 4, 2) := by decide +kernel
theorem dX11_load_35 : decode cX11_load 35 = .ok (.ifCond .ne 10, 3) := by decide +kernel
theorem dX11_load_38 : decode cX11_load 38 = .ok (.iload_n 3, 1) := by decide +kernel
theorem dX11_load_39 : decode cX11_load 39 = .ok (.ifCond .ge 6, 3) := by decide +kernel
theorem dX11_load_42 : decode cX11_load 42 = .ok (.iconst 5, 1) := by decide +kernel
theorem dX11_load_43 : decode cX11_load 43 = .ok (.istore 4, 2) := by decide +kernel
theorem dX11_load_45 : decode cX11_load 45 = .ok (.iload 4, 2) := by decide +kernel
theorem dX11_load_47 : decode cX11_load 47 = .ok (.ifCond .eq 13, 3) := by decide +kernel
theorem dX11_load_50 : decode cX11_load 50 = .ok (.aload_n 0, 1) := by decide +kernel
theorem dX11_load_51 : decode cX11_load 51 = .ok (.getfield 10, 3) := by decide +kernel
theorem dX11_load_54 : decode cX11_load 54 = .ok (.iload 4, 2) := by decide +kernel
theorem dX11_load_56 : decode cX11_load 56 = .ok (.invokevirtual 98, 3) := by decide +kernel
theorem dX11_load_59 : decode cX11_load 59 = .ok (.ireturn, 1) := by decide +kernel
theorem dX11_load_60 : decode cX11_load 60 = .ok (.aload_n 0, 1) := by decide +kernel
theorem dX11_load_61 : decode cX11_load 61 = .ok (.getfield 33, 3) := by decide +kernel
theorem dX11_load_64 : decode cX11_load 64 = .ok (.iload_n 1, 1) := by decide +kernel
theorem dX11_load_65 : decode cX11_load 65 = .ok (.iload_n 2, 1) := by decide +kernel
theorem dX11_load_66 : decode cX11_load 66 = .ok (.iload_n 3, 1) := by decide +kernel
theorem dX11_load_67 : decode cX11_load 67 = .ok (.invokevirtual 188, 3) := by decide +kernel
theorem dX11_load_70 : decode cX11_load 70 = .ok (.iload_n 3, 1) := by decide +kernel
theorem dX11_load_71 : decode cX11_load 71 = .ok (.ireturn, 1) := by decide +kernel
set_option maxRecDepth 100000 in
set_option maxHeartbeats 4000000 in
theorem w_X11_load_j45 {p : Program} {l : Launch} {e : Env} {R : Room} {s : State} {m : MethodId} {args : Array Value} {below : List Frame} {meth : Method} {c : Code} {dC : Nat → ClassId} {dI : Nat → Nat → Nat} {cs : Nat → ClassId} {ad : Nat → Nat} {A : Nat → Prop} {D0 : Nat → Nat} {S' : SS} {r : Int32} (F : Fx p s m args meth c cX11_load 5 RX11 (some .int) dC dI cs A) (hR1 : 2 ≤ R.frames) (hR2 : 48 ≤ R.locals) (x1 : Int32) (x2 : Int32) (x3 : Int32) (x4 : Int32) (S : SS) (h : f_X11_load_j45 x1 x2 x3 x4 S = some (r, S')) : AW p l e R s m args below meth c dC dI cs ad A D0 (some (.int r)) S' 5 45 [(0, .ref (ad 0)), (1, .int x1), (2, .int x2), (3, .int x3), (4, .int x4)] [] S := by
  have hx := F.1.1
  have hb := F.1.2.1
  intro H locs ls w hl
  rw [f_X11_load_j45] at h
  refine lv_iload (pc := 45) hx hb dX11_load_45 (lv_at hl 4 rfl) ?_
  refine lv_if_eq (pc := 47) (tgt := 60) hx hb dX11_load_47 (by decide) (fun q => ?_) (fun q => ?_)
  · have h := ite_t q h
    refine lv_aload_n (pc := 60) hx hb dX11_load_60 rfl (lv_at hl 0 rfl) ?_
    refine s_getR (pc := 61) F w 4 ds_0 (j := 3) vc_X11 vi_X11 rfl (by decide) kf_X11_33 dX11_load_61 ?_
    refine lv_iload_n (pc := 64) hx hb dX11_load_64 rfl (lv_at hl 1 rfl) ?_
    refine lv_iload_n (pc := 65) hx hb dX11_load_65 rfl (lv_at hl 2 rfl) ?_
    refine lv_iload_n (pc := 66) hx hb dX11_load_66 rfl (lv_at hl 3 rfl) ?_
    obtain ⟨S6, hc, h⟩ := bndv_t h
    refine s_cvv (pc := 67) [.int x1, .int x2, .int x3] (fun ad => [.ref (ad 4), .int x1, .int x2, .int x3]) F w (m_X9_newLoad _ _ _ _ _ hc) rfl rfl hl.1 ds_4 vc_X9 rfl ok_X9_newLoad rfl kc_X9_newLoad kl_X11_188 ki_X9_newLoad kv_X9_newLoad kn_X9 ⟨Nat.le_trans (by decide) hR1, Nat.le_trans (by decide) hR2⟩ ⟨Nat.zero_le _, Nat.zero_le _⟩ (Nat.le_of_ble_eq_true rfl) dX11_load_67 (fun H locs w => ?_)
    refine lv_iload_n (pc := 70) hx hb dX11_load_70 rfl (lv_at hl 3 rfl) ?_
    exact s_iret F w h dX11_load_71
  · have h := ite_f q h
    refine lv_aload_n (pc := 50) hx hb dX11_load_50 rfl (lv_at hl 0 rfl) ?_
    refine s_getR (pc := 51) F w 1 ds_0 (j := 0) vc_X11 vi_X11 rfl (by decide) kf_X11_10 dX11_load_51 ?_
    refine lv_iload (pc := 54) hx hb dX11_load_54 (lv_at hl 4 rfl) ?_
    obtain ⟨r8, S7, hc, h⟩ := bnd_t h
    refine s_cvi (pc := 56) [.int x4] (fun ad => [.ref (ad 1), .int x4]) F w (m_X5_found _ _ _ _ hc) rfl rfl hl.1 ds_1 vc_X5 rfl ok_X5_found rfl kc_X5_found kl_X11_98 ki_X5_found kv_X5_found kn_X5 ⟨Nat.le_trans (by decide) hR1, Nat.le_trans (by decide) hR2⟩ ⟨Nat.zero_le _, Nat.zero_le _⟩ (Nat.le_of_ble_eq_true rfl) dX11_load_56 (fun H locs w => ?_)
    exact s_iret F w h dX11_load_59
set_option maxRecDepth 100000 in
set_option maxHeartbeats 4000000 in
theorem m_X11_load (a1 : Int32) (a2 : Int32) (a3 : Int32) (S S' : SS) (r : Int32) (h : f_X11_load a1 a2 a3 S = some (r, S')) : MT yX11_load cX11_load 5 (some .int) 3 67 (fun ad => [.ref (ad 0), .int a1, .int a2, .int a3]) S (some (.int r)) S' := by
  refine MT.of RX11 (fun ad => [(0, .ref (ad 0)), (1, .int a1), (2, .int a2), (3, .int a3)]) (by decide) rfl (fun _ => Nat.le_of_ble_eq_true rfl) (fun _ => rfl) ?_
  intro p l e R s m args below meth c dC dI cs ad A hR1 hR2 F H locs ls w hl
  have hx := F.1.1
  have hb := F.1.2.1
  rw [f_X11_load] at h
  refine lv_iload_n (pc := 0) hx hb dX11_load_0 rfl (lv_at hl 2 rfl) ?_
  refine lv_iconst (pc := 1) (v := 0) hx hb dX11_load_1 (by decide) ?_
  refine lv_iconst (pc := 2) (v := 1) hx hb dX11_load_2 (by decide) ?_
  obtain ⟨r2, S1, hc, h⟩ := bnd_t h
  refine s_csi (pc := 3) [.int a2, .int (0 : Int32), .int (1 : Int32)] (fun ad => [.int a2, .int (0 : Int32), .int (1 : Int32)]) F w (m_X11_isNot _ _ _ _ _ _ hc) rfl rfl hl.1 ok_X11_isNot rfl kc_X11_isNot kl_X11_108 ks_X11_isNot kn_X11 ⟨Nat.le_trans (by decide) hR1, Nat.le_trans (by decide) hR2⟩ ⟨Nat.zero_le _, Nat.zero_le _⟩ (Nat.le_of_ble_eq_true rfl) dX11_load_3 (fun H locs w => ?_)
  refine lv_if_ne (pc := 6) (tgt := 15) hx hb dX11_load_6 (by decide) (fun q => ?_) (fun q => ?_)
  · have h := ite_f q h
    refine lv_iconst (pc := 15) (v := -1) hx hb dX11_load_15 (by decide) ?_
    exact s_iret F w h dX11_load_16
  · have h := ite_t q h
    refine lv_iload_n (pc := 9) hx hb dX11_load_9 rfl (lv_at hl 3 rfl) ?_
    refine lv_bipush (pc := 10) (v := 20) hx hb dX11_load_10 (by decide) ?_
    refine lv_icmp_le (pc := 12) (tgt := 17) hx hb dX11_load_12 (by decide) (fun q => ?_) (fun q => ?_)
    · have h := ite_t q h
      refine lv_aload_n (pc := 17) hx hb dX11_load_17 rfl (lv_at hl 0 rfl) ?_
      refine s_getR (pc := 18) F w 1 ds_0 (j := 0) vc_X11 vi_X11 rfl (by decide) kf_X11_10 dX11_load_18 ?_
      obtain ⟨S3, hc, h⟩ := bndv_t h
      refine s_cvv (pc := 21) [] (fun ad => [.ref (ad 1)]) F w (m_X5_begin  _ _ hc) rfl rfl hl.1 ds_1 vc_X5 rfl ok_X5_begin rfl kc_X5_begin kl_X11_95 ki_X5_begin kv_X5_begin kn_X5 ⟨Nat.le_trans (by decide) hR1, Nat.le_trans (by decide) hR2⟩ ⟨Nat.zero_le _, Nat.zero_le _⟩ (Nat.le_of_ble_eq_true rfl) dX11_load_21 (fun H locs w => ?_)
      refine lv_aload_n (pc := 24) hx hb dX11_load_24 rfl (lv_at hl 0 rfl) ?_
      refine lv_iload_n (pc := 25) hx hb dX11_load_25 rfl (lv_at hl 1 rfl) ?_
      refine lv_bipush (pc := 26) (v := 31) hx hb dX11_load_26 (by decide) ?_
      obtain ⟨r5, S4, hc, h⟩ := bnd_t h
      refine s_cvi (pc := 28) [.int a1, .int (31 : Int32)] (fun ad => [.ref (ad 0), .int a1, .int (31 : Int32)]) F w (m_X11_named _ _ _ _ _ hc) rfl rfl hl.1 ds_0 vc_X11 rfl ok_X11_named rfl kc_X11_named kl_X11_185 ki_X11_named kv_X11_named kn_X11 ⟨Nat.le_trans (by decide) hR1, Nat.le_trans (by decide) hR2⟩ ⟨Nat.zero_le _, Nat.zero_le _⟩ (Nat.le_of_ble_eq_true rfl) dX11_load_28 (fun H locs w => ?_)
      refine lv_istore (pc := 31) (lv' := [(4, .int r5), (0, .ref (ad 0)), (1, .int a1), (2, .int a2), (3, .int a3)]) hx hb dX11_load_31 hl (by decide) rfl (fun ls hl => ?_)
      refine lv_iload (pc := 33) hx hb dX11_load_33 (lv_at hl 0 rfl) ?_
      refine lv_if_ne (pc := 35) (tgt := 45) hx hb dX11_load_35 (by decide) (fun q => ?_) (fun q => ?_)
      · have h := ite_f q h
        exact w_X11_load_j45 F (Nat.le_trans (by decide) hR1) (Nat.le_trans (by decide) hR2) _ _ _ _ _ h _ _ _ w (lv_sub hl [1, 2, 3, 4, 0] rfl)
      · have h := ite_t q h
        refine lv_iload_n (pc := 38) hx hb dX11_load_38 rfl (lv_at hl 4 rfl) ?_
        refine lv_if_ge (pc := 39) (tgt := 45) hx hb dX11_load_39 (by decide) (fun q => ?_) (fun q => ?_)
        · have h := ite_t q h
          exact w_X11_load_j45 F (Nat.le_trans (by decide) hR1) (Nat.le_trans (by decide) hR2) _ _ _ _ _ h _ _ _ w (lv_sub hl [1, 2, 3, 4, 0] rfl)
        · have h := ite_f q h
          refine lv_iconst (pc := 42) (v := 5) hx hb dX11_load_42 (by decide) ?_
          refine lv_istore (pc := 43) (lv' := [(4, .int (5 : Int32)), (0, .ref (ad 0)), (1, .int a1), (2, .int a2), (3, .int a3)]) hx hb dX11_load_43 hl (by decide) rfl (fun ls hl => ?_)
          exact w_X11_load_j45 F (Nat.le_trans (by decide) hR1) (Nat.le_trans (by decide) hR2) _ _ _ _ _ h _ _ _ w (lv_sub hl [1, 2, 3, 4, 0] rfl)
    · have h := ite_f q h
      refine lv_iconst (pc := 15) (v := -1) hx hb dX11_load_15 (by decide) ?_
      exact s_iret F w h dX11_load_16
def f_X12_isSuch (a1 : Int32) (a2 : Int32) (S : SS) : Option (Int32 × SS) :=
  grd (inb a1 72) (
  nm (S.1 85 a1.toNatClampNeg) (fun z1 =>
  if a2 = (1 : Int32) then
    if (4 : Int32) < z1 then
      some ((0 : Int32), S)
    else
      some ((1 : Int32), S)
  else
  if a2 = (2 : Int32) then
    if z1 < (5 : Int32) then
      some ((0 : Int32), S)
    else
      some ((1 : Int32), S)
  else
  if a2 = (3 : Int32) then
    if (3 : Int32) < z1 then
      some ((0 : Int32), S)
    else
      some ((1 : Int32), S)
  else
  if a2 = (4 : Int32) then
    if z1 = (2 : Int32) then
      some ((1 : Int32), S)
    else
      some ((0 : Int32), S)
  else
  some ((1 : Int32), S)))
theorem dX12_isSuch_0 : decode cX12_isSuch 0 = .ok (.aload_n 0, 1) := by decide +kernel
theorem dX12_isSuch_1 : decode cX12_isSuch 1 = .ok (.getfield 69, 3) := by decide +kernel
theorem dX12_isSuch_4 : decode cX12_isSuch 4 = .ok (.iload_n 1, 1) := by decide +kernel
theorem dX12_isSuch_5 : decode cX12_isSuch 5 = .ok (.iaload, 1) := by decide +kernel
theorem dX12_isSuch_6 : decode cX12_isSuch 6 = .ok (.istore_n 3, 1) := by decide +kernel
theorem dX12_isSuch_7 : decode cX12_isSuch 7 = .ok (.iload_n 2, 1) := by decide +kernel
theorem dX12_isSuch_8 : decode cX12_isSuch 8 = .ok (.tableswitch 76 1 4 #[32, 43, 54, 65], 32) := by decide +kernel
theorem dX12_isSuch_40 : decode cX12_isSuch 40 = .ok (.iload_n 3, 1) := by decide +kernel
theorem dX12_isSuch_41 : decode cX12_isSuch 41 = .ok (.iconst 4, 1) := by decide +kernel
theorem dX12_isSuch_42 : decode cX12_isSuch 42 = .ok (.if_icmp .gt 7, 3) := by decide +kernel
theorem dX12_isSuch_45 : decode cX12_isSuch 45 = .ok (.iconst 1, 1) := by decide +kernel
theorem dX12_isSuch_46 : decode cX12_isSuch 46 = .ok (.goto 4, 3) := by decide +kernel
theorem dX12_isSuch_49 : decode cX12_isSuch 49 = .ok (.iconst 0, 1) := by decide +kernel
theorem dX12_isSuch_50 : decode cX12_isSuch 50 = .ok (.ireturn, 1) := by decide +kernel
theorem dX12_isSuch_51 : decode cX12_isSuch 51 = .ok (.iload_n 3, 1) := by decide +kernel
theorem dX12_isSuch_52 : decode cX12_isSuch 52 = .ok (.iconst 5, 1) := by decide +kernel
theorem dX12_isSuch_53 : decode cX12_isSuch 53 = .ok (.if_icmp .lt 7, 3) := by decide +kernel
theorem dX12_isSuch_56 : decode cX12_isSuch 56 = .ok (.iconst 1, 1) := by decide +kernel
theorem dX12_isSuch_57 : decode cX12_isSuch 57 = .ok (.goto 4, 3) := by decide +kernel
theorem dX12_isSuch_60 : decode cX12_isSuch 60 = .ok (.iconst 0, 1) := by decide +kernel
theorem dX12_isSuch_61 : decode cX12_isSuch 61 = .ok (.ireturn, 1) := by decide +kernel
theorem dX12_isSuch_62 : decode cX12_isSuch 62 = .ok (.iload_n 3, 1) := by decide +kernel
theorem dX12_isSuch_63 : decode cX12_isSuch 63 = .ok (.iconst 3, 1) := by decide +kernel
theorem dX12_isSuch_64 : decode cX12_isSuch 64 = .ok (.if_icmp .gt 7, 3) := by decide +kernel
theorem dX12_isSuch_67 : decode cX12_isSuch 67 = .ok (.iconst 1, 1) := by decide +kernel
theorem dX12_isSuch_68 : decode cX12_isSuch 68 = .ok (.goto 4, 3) := by decide +kernel
theorem dX12_isSuch_71 : decode cX12_isSuch 71 = .ok (.iconst 0, 1) := by decide +kernel
theorem dX12_isSuch_72 : decode cX12_isSuch 72 = .ok (.ireturn, 1) := by decide +kernel
theorem dX12_isSuch_73 : decode cX12_isSuch 73 = .ok (.iload_n 3, 1) := by decide +kernel
theorem dX12_isSuch_74 : decode cX12_isSuch 74 = .ok (.iconst 2, 1) := by decide +kernel
theorem dX12_isSuch_75 : decode cX12_isSuch 75 = .ok (.if_icmp .ne 7, 3) := by decide +kernel
theorem dX12_isSuch_78 : decode cX12_isSuch 78 = .ok (.iconst 1, 1) := by decide +kernel
theorem dX12_isSuch_79 : decode cX12_isSuch 79 = .ok (.goto 4, 3) := by decide +kernel
theorem dX12_isSuch_82 : decode cX12_isSuch 82 = .ok (.iconst 0, 1) := by decide +kernel
theorem dX12_isSuch_83 : decode cX12_isSuch 83 = .ok (.ireturn, 1) := by decide +kernel
theorem dX12_isSuch_84 : decode cX12_isSuch 84 = .ok (.iconst 1, 1) := by decide +kernel
theorem dX12_isSuch_85 : decode cX12_isSuch 85 = .ok (.ireturn, 1) := by decide +kernel
set_option maxRecDepth 100000 in
set_option maxHeartbeats 4000000 in
theorem m_X12_isSuch (a1 : Int32) (a2 : Int32) (S S' : SS) (r : Int32) (h : f_X12_isSuch a1 a2 S = some (r, S')) : MT yX12_isSuch cX12_isSuch 4 (some .boolean) 0 0 (fun ad => [.ref (ad 14), .int a1, .int a2]) S (some (.int r)) S' := by
  refine MT.of RX12 (fun ad => [(0, .ref (ad 14)), (1, .int a1), (2, .int a2)]) (by decide) rfl (fun _ => Nat.le_of_ble_eq_true rfl) (fun _ => rfl) ?_
  intro p l e R s m args below meth c dC dI cs ad A hR1 hR2 F H locs ls w hl
  have hx := F.1.1
  have hb := F.1.2.1
  rw [f_X12_isSuch] at h
  refine lv_aload_n (pc := 0) hx hb dX12_isSuch_0 rfl (lv_at hl 0 rfl) ?_
  refine s_getR (pc := 1) F w 85 ds_14 (j := 30) vc_X12 vi_X12 rfl (by decide) kf_X12_69 dX12_isSuch_1 ?_
  refine lv_iload_n (pc := 4) hx hb dX12_isSuch_4 rfl (lv_at hl 1 rfl) ?_
  refine s_iald (pc := 5) F w ds_85 h dX12_isSuch_5 (fun h => ?_)
  refine s_nm h (fun z1 ez1 h => ?_)
  rw [← ez1]
  refine lv_istore_n (pc := 6) (lv' := [(3, .int z1), (0, .ref (ad 14)), (1, .int a1), (2, .int a2)]) hx hb dX12_isSuch_6 rfl hl (by decide) rfl (fun ls hl => ?_)
  refine lv_iload_n (pc := 7) hx hb dX12_isSuch_7 rfl (lv_at hl 3 rfl) ?_
  rcases Decidable.em (a2 = (1 : Int32)) with q1 | q1
  · refine lv_tableIn (pc := 8) (tgt := 40) (off := 32) hx hb dX12_isSuch_8 (by rw [q1]; decide) (by rw [q1]; decide) (by rw [q1]; rfl) (by decide) ?_
    have h := ite_t q1 h
    refine lv_iload_n (pc := 40) hx hb dX12_isSuch_40 rfl (lv_at hl 0 rfl) ?_
    refine lv_iconst (pc := 41) (v := 4) hx hb dX12_isSuch_41 (by decide) ?_
    refine lv_icmp_gt (pc := 42) (tgt := 49) hx hb dX12_isSuch_42 (by decide) (fun q => ?_) (fun q => ?_)
    · have h := ite_t q h
      refine lv_iconst (pc := 49) (v := 0) hx hb dX12_isSuch_49 (by decide) ?_
      exact s_zretc F w rfl h dX12_isSuch_50
    · have h := ite_f q h
      refine lv_iconst (pc := 45) (v := 1) hx hb dX12_isSuch_45 (by decide) ?_
      refine lv_goto (pc := 46) (tgt := 50) hx hb dX12_isSuch_46 (by decide) ?_
      exact s_zretc F w rfl h dX12_isSuch_50
  have h := ite_f q1 h
  rcases Decidable.em (a2 = (2 : Int32)) with q2 | q2
  · refine lv_tableIn (pc := 8) (tgt := 51) (off := 43) hx hb dX12_isSuch_8 (by rw [q2]; decide) (by rw [q2]; decide) (by rw [q2]; rfl) (by decide) ?_
    have h := ite_t q2 h
    refine lv_iload_n (pc := 51) hx hb dX12_isSuch_51 rfl (lv_at hl 0 rfl) ?_
    refine lv_iconst (pc := 52) (v := 5) hx hb dX12_isSuch_52 (by decide) ?_
    refine lv_icmp_lt (pc := 53) (tgt := 60) hx hb dX12_isSuch_53 (by decide) (fun q => ?_) (fun q => ?_)
    · have h := ite_t q h
      refine lv_iconst (pc := 60) (v := 0) hx hb dX12_isSuch_60 (by decide) ?_
      exact s_zretc F w rfl h dX12_isSuch_61
    · have h := ite_f q h
      refine lv_iconst (pc := 56) (v := 1) hx hb dX12_isSuch_56 (by decide) ?_
      refine lv_goto (pc := 57) (tgt := 61) hx hb dX12_isSuch_57 (by decide) ?_
      exact s_zretc F w rfl h dX12_isSuch_61
  have h := ite_f q2 h
  rcases Decidable.em (a2 = (3 : Int32)) with q3 | q3
  · refine lv_tableIn (pc := 8) (tgt := 62) (off := 54) hx hb dX12_isSuch_8 (by rw [q3]; decide) (by rw [q3]; decide) (by rw [q3]; rfl) (by decide) ?_
    have h := ite_t q3 h
    refine lv_iload_n (pc := 62) hx hb dX12_isSuch_62 rfl (lv_at hl 0 rfl) ?_
    refine lv_iconst (pc := 63) (v := 3) hx hb dX12_isSuch_63 (by decide) ?_
    refine lv_icmp_gt (pc := 64) (tgt := 71) hx hb dX12_isSuch_64 (by decide) (fun q => ?_) (fun q => ?_)
    · have h := ite_t q h
      refine lv_iconst (pc := 71) (v := 0) hx hb dX12_isSuch_71 (by decide) ?_
      exact s_zretc F w rfl h dX12_isSuch_72
    · have h := ite_f q h
      refine lv_iconst (pc := 67) (v := 1) hx hb dX12_isSuch_67 (by decide) ?_
      refine lv_goto (pc := 68) (tgt := 72) hx hb dX12_isSuch_68 (by decide) ?_
      exact s_zretc F w rfl h dX12_isSuch_72
  have h := ite_f q3 h
  rcases Decidable.em (a2 = (4 : Int32)) with q4 | q4
  · refine lv_tableIn (pc := 8) (tgt := 73) (off := 65) hx hb dX12_isSuch_8 (by rw [q4]; decide) (by rw [q4]; decide) (by rw [q4]; rfl) (by decide) ?_
    have h := ite_t q4 h
    refine lv_iload_n (pc := 73) hx hb dX12_isSuch_73 rfl (lv_at hl 0 rfl) ?_
    refine lv_iconst (pc := 74) (v := 2) hx hb dX12_isSuch_74 (by decide) ?_
    refine lv_icmp_ne (pc := 75) (tgt := 82) hx hb dX12_isSuch_75 (by decide) (fun q => ?_) (fun q => ?_)
    · have h := ite_f q h
      refine lv_iconst (pc := 82) (v := 0) hx hb dX12_isSuch_82 (by decide) ?_
      exact s_zretc F w rfl h dX12_isSuch_83
    · have h := ite_t q h
      refine lv_iconst (pc := 78) (v := 1) hx hb dX12_isSuch_78 (by decide) ?_
      refine lv_goto (pc := 79) (tgt := 83) hx hb dX12_isSuch_79 (by decide) ?_
      exact s_zretc F w rfl h dX12_isSuch_83
  have h := ite_f q4 h
  refine lv_tableOut (pc := 8) (tgt := 84) hx hb dX12_isSuch_8 (by have zq1 := i32ne q1 (show ((1 : Int32)).toInt = 1 by decide); have zq2 := i32ne q2 (show ((2 : Int32)).toInt = 2 by decide); have zq3 := i32ne q3 (show ((3 : Int32)).toInt = 3 by decide); have zq4 := i32ne q4 (show ((4 : Int32)).toInt = 4 by decide); omega) (by decide) ?_
  refine lv_iconst (pc := 84) (v := 1) hx hb dX12_isSuch_84 (by decide) ?_
  exact s_zretc F w rfl h dX12_isSuch_85
def f_X12_missThing (a1 : Int32) (a2 : Int32) (S : SS) : Option (Int32 × SS) :=
  if a1 < 0 then
    some ((3 : Int32), S)
  else
    if a1 < (72 : Int32) then
      if (S.1 14 29) ≤ a1 then
        some ((1 : Int32), S)
      else
        grd (inb a1 72) (
        if (S.1 86 a1.toNatClampNeg) = 0 then
          some ((1 : Int32), S)
        else
          bnd (f_X12_isSuch a1 a2 S) (fun r2 S1 =>
          if r2 = 0 then
            some ((2 : Int32), S1)
          else
            some ((0 : Int32), S1)))
    else
      some ((3 : Int32), S)
theorem dX12_missThing_0 : decode cX12_missThing 0 = .ok (.iload_n 1, 1) := by decide +kernel
theorem dX12_missThing_1 : decode cX12_missThing 1 = .ok (.ifCond .lt 9, 3) := by decide +kernel
theorem dX12_missThing_4 : decode cX12_missThing 4 = .ok (.iload_n 1, 1) := by decide +kernel
theorem dX12_missThing_5 : decode cX12_missThing 5 = .ok (.bipush 72, 2) := by decide +kernel
theorem dX12_missThing_7 : decode cX12_missThing 7 = .ok (.if_icmp .lt 5, 3) := by decide +kernel
theorem dX12_missThing_10 : decode cX12_missThing 10 = .ok (.iconst 3, 1) := by decide +kernel
theorem dX12_missThing_11 : decode cX12_missThing 11 = .ok (.ireturn, 1) := by decide +kernel
theorem dX12_missThing_12 : decode cX12_missThing 12 = .ok (.iload_n 1, 1) := by decide +kernel
theorem dX12_missThing_13 : decode cX12_missThing 13 = .ok (.aload_n 0, 1) := by decide +kernel
theorem dX12_missThing_14 : decode cX12_missThing 14 = .ok (.getfield 269, 3) := by decide +kernel
theorem dX12_missThing_17 : decode cX12_missThing 17 = .ok (.if_icmp .ge 12, 3) := by decide +kernel
theorem dX12_missThing_20 : decode cX12_missThing 20 = .ok (.aload_n 0, 1) := by decide +kernel
theorem dX12_missThing_21 : decode cX12_missThing 21 = .ok (.getfield 72, 3) := by decide +kernel
theorem dX12_missThing_24 : decode cX12_missThing 24 = .ok (.iload_n 1, 1) := by decide +kernel
theorem dX12_missThing_25 : decode cX12_missThing 25 = .ok (.baload, 1) := by decide +kernel
theorem dX12_missThing_26 : decode cX12_missThing 26 = .ok (.ifCond .ne 5, 3) := by decide +kernel
theorem dX12_missThing_29 : decode cX12_missThing 29 = .ok (.iconst 1, 1) := by decide +kernel
theorem dX12_missThing_30 : decode cX12_missThing 30 = .ok (.ireturn, 1) := by decide +kernel
theorem dX12_missThing_31 : decode cX12_missThing 31 = .ok (.aload_n 0, 1) := by decide +kernel
theorem dX12_missThing_32 : decode cX12_missThing 32 = .ok (.iload_n 1, 1) := by decide +kernel
theorem dX12_missThing_33 : decode cX12_missThing 33 = .ok (.iload_n 2, 1) := by decide +kernel
theorem dX12_missThing_34 : decode cX12_missThing 34 = .ok (.invokevirtual 289, 3) := by decide +kernel
theorem dX12_missThing_37 : decode cX12_missThing 37 = .ok (.ifCond .eq 7, 3) := by decide +kernel
theorem dX12_missThing_40 : decode cX12_missThing 40 = .ok (.iconst 0, 1) := by decide +kernel
theorem dX12_missThing_41 : decode cX12_missThing 41 = .ok (.goto 4, 3) := by decide +kernel
theorem dX12_missThing_44 : decode cX12_missThing 44 = .ok (.iconst 2, 1) := by decide +kernel
theorem dX12_missThing_45 : decode cX12_missThing 45 = .ok (.ireturn, 1) := by decide +kernel
set_option maxRecDepth 100000 in
set_option maxHeartbeats 4000000 in
theorem m_X12_missThing (a1 : Int32) (a2 : Int32) (S S' : SS) (r : Int32) (h : f_X12_missThing a1 a2 S = some (r, S')) : MT yX12_missThing cX12_missThing 3 (some .int) 1 23 (fun ad => [.ref (ad 14), .int a1, .int a2]) S (some (.int r)) S' := by
  refine MT.of RX12 (fun ad => [(0, .ref (ad 14)), (1, .int a1), (2, .int a2)]) (by decide) rfl (fun _ => Nat.le_of_ble_eq_true rfl) (fun _ => rfl) ?_
  intro p l e R s m args below meth c dC dI cs ad A hR1 hR2 F H locs ls w hl
  have hx := F.1.1
  have hb := F.1.2.1
  rw [f_X12_missThing] at h
  refine lv_iload_n (pc := 0) hx hb dX12_missThing_0 rfl (lv_at hl 1 rfl) ?_
  refine lv_if_lt (pc := 1) (tgt := 10) hx hb dX12_missThing_1 (by decide) (fun q => ?_) (fun q => ?_)
  · have h := ite_t q h
    refine lv_iconst (pc := 10) (v := 3) hx hb dX12_missThing_10 (by decide) ?_
    exact s_iret F w h dX12_missThing_11
  · have h := ite_f q h
    refine lv_iload_n (pc := 4) hx hb dX12_missThing_4 rfl (lv_at hl 1 rfl) ?_
    refine lv_bipush (pc := 5) (v := 72) hx hb dX12_missThing_5 (by decide) ?_
    refine lv_icmp_lt (pc := 7) (tgt := 12) hx hb dX12_missThing_7 (by decide) (fun q => ?_) (fun q => ?_)
    · have h := ite_t q h
      refine lv_iload_n (pc := 12) hx hb dX12_missThing_12 rfl (lv_at hl 1 rfl) ?_
      refine lv_aload_n (pc := 13) hx hb dX12_missThing_13 rfl (lv_at hl 0 rfl) ?_
      refine s_getI (pc := 14) F w ds_14 (j := 29) vc_X12 vi_X12 rfl (by decide) kf_X12_269 dX12_missThing_14 ?_
      refine lv_icmp_ge (pc := 17) (tgt := 29) hx hb dX12_missThing_17 (by decide) (fun q => ?_) (fun q => ?_)
      · have h := ite_t q h
        refine lv_iconst (pc := 29) (v := 1) hx hb dX12_missThing_29 (by decide) ?_
        exact s_iret F w h dX12_missThing_30
      · have h := ite_f q h
        refine lv_aload_n (pc := 20) hx hb dX12_missThing_20 rfl (lv_at hl 0 rfl) ?_
        refine s_getR (pc := 21) F w 86 ds_14 (j := 31) vc_X12 vi_X12 rfl (by decide) kf_X12_72 dX12_missThing_21 ?_
        refine lv_iload_n (pc := 24) hx hb dX12_missThing_24 rfl (lv_at hl 1 rfl) ?_
        refine s_zald (pc := 25) F w ds_86 h dX12_missThing_25 (fun h => ?_)
        refine lv_if_ne (pc := 26) (tgt := 31) hx hb dX12_missThing_26 (by decide) (fun q => ?_) (fun q => ?_)
        · have h := ite_f q h
          refine lv_aload_n (pc := 31) hx hb dX12_missThing_31 rfl (lv_at hl 0 rfl) ?_
          refine lv_iload_n (pc := 32) hx hb dX12_missThing_32 rfl (lv_at hl 1 rfl) ?_
          refine lv_iload_n (pc := 33) hx hb dX12_missThing_33 rfl (lv_at hl 2 rfl) ?_
          obtain ⟨r2, S1, hc, h⟩ := bnd_t h
          refine s_cvi (pc := 34) [.int a1, .int a2] (fun ad => [.ref (ad 14), .int a1, .int a2]) F w (m_X12_isSuch _ _ _ _ _ hc) rfl rfl hl.1 ds_14 vc_X12 rfl ok_X12_isSuch rfl kc_X12_isSuch kl_X12_289 ki_X12_isSuch kv_X12_isSuch kn_X12 ⟨Nat.le_trans (by decide) hR1, Nat.le_trans (by decide) hR2⟩ ⟨Nat.zero_le _, Nat.zero_le _⟩ (Nat.le_of_ble_eq_true rfl) dX12_missThing_34 (fun H locs w => ?_)
          refine lv_if_eq (pc := 37) (tgt := 44) hx hb dX12_missThing_37 (by decide) (fun q => ?_) (fun q => ?_)
          · have h := ite_t q h
            refine lv_iconst (pc := 44) (v := 2) hx hb dX12_missThing_44 (by decide) ?_
            exact s_iret F w h dX12_missThing_45
          · have h := ite_f q h
            refine lv_iconst (pc := 40) (v := 0) hx hb dX12_missThing_40 (by decide) ?_
            refine lv_goto (pc := 41) (tgt := 45) hx hb dX12_missThing_41 (by decide) ?_
            exact s_iret F w h dX12_missThing_45
        · have h := ite_t q h
          refine lv_iconst (pc := 29) (v := 1) hx hb dX12_missThing_29 (by decide) ?_
          exact s_iret F w h dX12_missThing_30
    · have h := ite_f q h
      refine lv_iconst (pc := 10) (v := 3) hx hb dX12_missThing_10 (by decide) ?_
      exact s_iret F w h dX12_missThing_11
def f_X12_load_L64  : Nat → Int32 → Int32 → Int32 → SS → Option (Int32 × SS)
  | 0, _, _, _, _ => none
  | n + 1, x1, x3, x4, S =>
    if (20 : Int32) ≤ x4 then
      some (x3, S)
    else
      grd (inb (((20 : Int32) * x1) + x4) 1440) (wr S 104 (((20 : Int32) * x1) + x4).toNatClampNeg (0 : Int32) (fun S8 =>
      nm (x4 + (1 : Int32)) (fun z9 =>
      f_X12_load_L64 n x1 x3 z9 S8)))
def f_X12_load (a1 : Int32) (a2 : Int32) (a3 : Int32) (S : SS) : Option (Int32 × SS) :=
  if a2 < 0 then
    some ((-1 : Int32), S)
  else
    if (1 : Int32) < a2 then
      some ((-1 : Int32), S)
    else
      if a3 ≤ (20 : Int32) then
        bndv (f_X12_begin  S) (fun S1 =>
        bnd (f_X12_missThing a1 (1 : Int32) S1) (fun r3 S2 =>
        bnd (f_X12_ends r3 S2) (fun r5 S4 =>
        if r5 = 0 then
          if 0 ≤ a3 then
            grd (inb a1 72) (wr S4 102 a1.toNatClampNeg a3 (fun S6 =>
            grd (inb a1 72) (wr S6 103 a1.toNatClampNeg a2 (fun S7 =>
            f_X12_load_L64 NF a1 a3 (0 : Int32) S7))))
          else
            bnd (f_X12_found (5 : Int32) S4) (fun r11 S10 =>
            some (r11, S10))
        else
          some ((-2 : Int32), S4))))
      else
        some ((-1 : Int32), S)
theorem dX12_load_0 : decode cX12_load 0 = .ok (.iload_n 2, 1) := by decide +kernel
theorem dX12_load_1 : decode cX12_load 1 = .ok (.ifCond .lt 14, 3) := by decide +kernel
theorem dX12_load_4 : decode cX12_load 4 = .ok (.iload_n 2, 1) := by decide +kernel
theorem dX12_load_5 : decode cX12_load 5 = .ok (.iconst 1, 1) := by decide +kernel
theorem dX12_load_6 : decode cX12_load 6 = .ok (.if_icmp .gt 9, 3) := by decide +kernel
theorem dX12_load_9 : decode cX12_load 9 = .ok (.iload_n 3, 1) := by decide +kernel
theorem dX12_load_10 : decode cX12_load 10 = .ok (.bipush 20, 2) := by decide +kernel
theorem dX12_load_12 : decode cX12_load 12 = .ok (.if_icmp .le 5, 3) := by decide +kernel
theorem dX12_load_15 : decode cX12_load 15 = .ok (.iconst (-1), 1) := by decide +kernel
theorem dX12_load_16 : decode cX12_load 16 = .ok (.ireturn, 1) := by decide +kernel
theorem dX12_load_17 : decode cX12_load 17 = .ok (.aload_n 0, 1) := by decide +kernel
theorem dX12_load_18 : decode cX12_load 18 = .ok (.invokevirtual 226, 3) := by decide +kernel
theorem dX12_load_21 : decode cX12_load 21 = .ok (.aload_n 0, 1) := by decide +kernel
theorem dX12_load_22 : decode cX12_load 22 = .ok (.aload_n 0, 1) := by decide +kernel
theorem dX12_load_23 : decode cX12_load 23 = .ok (.iload_n 1, 1) := by decide +kernel
theorem dX12_load_24 : decode cX12_load 24 = .ok (.iconst 1, 1) := by decide +kernel
theorem dX12_load_25 : decode cX12_load 25 = .ok (.invokevirtual 293, 3) := by decide +kernel
theorem dX12_load_28 : decode cX12_load 28 = .ok (.invokevirtual 236, 3) := by decide +kernel
theorem dX12_load_31 : decode cX12_load 31 = .ok (.ifCond .eq 6, 3) := by decide +kernel
theorem dX12_load_34 : decode cX12_load 34 = .ok (.bipush (-2), 2) := by decide +kernel
theorem dX12_load_36 : decode cX12_load 36 = .ok (.ireturn, 1) := by decide +kernel
theorem dX12_load_37 : decode cX12_load 37 = .ok (.iload_n 3, 1) := by decide +kernel
theorem dX12_load_38 : decode cX12_load 38 = .ok (.ifCond .ge 9, 3) := by decide +kernel
theorem dX12_load_41 : decode cX12_load 41 = .ok (.aload_n 0, 1) := by decide +kernel
theorem dX12_load_42 : decode cX12_load 42 = .ok (.iconst 5, 1) := by decide +kernel
theorem dX12_load_43 : decode cX12_load 43 = .ok (.invokevirtual 210, 3) := by decide +kernel
theorem dX12_load_46 : decode cX12_load 46 = .ok (.ireturn, 1) := by decide +kernel
theorem dX12_load_47 : decode cX12_load 47 = .ok (.aload_n 0, 1) := by decide +kernel
theorem dX12_load_48 : decode cX12_load 48 = .ok (.getfield 120, 3) := by decide +kernel
theorem dX12_load_51 : decode cX12_load 51 = .ok (.iload_n 1, 1) := by decide +kernel
theorem dX12_load_52 : decode cX12_load 52 = .ok (.iload_n 3, 1) := by decide +kernel
theorem dX12_load_53 : decode cX12_load 53 = .ok (.iastore, 1) := by decide +kernel
theorem dX12_load_54 : decode cX12_load 54 = .ok (.aload_n 0, 1) := by decide +kernel
theorem dX12_load_55 : decode cX12_load 55 = .ok (.getfield 123, 3) := by decide +kernel
theorem dX12_load_58 : decode cX12_load 58 = .ok (.iload_n 1, 1) := by decide +kernel
theorem dX12_load_59 : decode cX12_load 59 = .ok (.iload_n 2, 1) := by decide +kernel
theorem dX12_load_60 : decode cX12_load 60 = .ok (.iastore, 1) := by decide +kernel
theorem dX12_load_61 : decode cX12_load 61 = .ok (.iconst 0, 1) := by decide +kernel
theorem dX12_load_62 : decode cX12_load 62 = .ok (.istore 4, 2) := by decide +kernel
theorem dX12_load_64 : decode cX12_load 64 = .ok (.iload 4, 2) := by decide +kernel
theorem dX12_load_66 : decode cX12_load 66 = .ok (.bipush 20, 2) := by decide +kernel
theorem dX12_load_68 : decode cX12_load 68 = .ok (.if_icmp .ge 22, 3) := by decide +kernel
theorem dX12_load_71 : decode cX12_load 71 = .ok (.aload_n 0, 1) := by decide +kernel
theorem dX12_load_72 : decode cX12_load 72 = .ok (.getfield 126, 3) := by decide +kernel
theorem dX12_load_75 : decode cX12_load 75 = .ok (.bipush 20, 2) := by decide +kernel
theorem dX12_load_77 : decode cX12_load 77 = .ok (.iload_n 1, 1) := by decide +kernel
theorem dX12_load_78 : decode cX12_load 78 = .ok (.imul, 1) := by decide +kernel
theorem dX12_load_79 : decode cX12_load 79 = .ok (.iload 4, 2) := by decide +kernel
theorem dX12_load_81 : decode cX12_load 81 = .ok (.iadd, 1) := by decide +kernel
theorem dX12_load_82 : decode cX12_load 82 = .ok (.iconst 0, 1) := by decide +kernel
theorem dX12_load_83 : decode cX12_load 83 = .ok (.iastore, 1) := by decide +kernel
theorem dX12_load_84 : decode cX12_load 84 = .ok (.iinc 4 1, 3) := by decide +kernel
theorem dX12_load_87 : decode cX12_load 87 = .ok (.goto (-23), 3) := by decide +kernel
theorem dX12_load_90 : decode cX12_load 90 = .ok (.iload_n 3, 1) := by decide +kernel
theorem dX12_load_91 : decode cX12_load 91 = .ok (.ireturn, 1) := by decide +kernel
set_option maxRecDepth 100000 in
set_option maxHeartbeats 4000000 in
theorem w_X12_load_L64 {p : Program} {l : Launch} {e : Env} {R : Room} {s : State} {m : MethodId} {args : Array Value} {below : List Frame} {meth : Method} {c : Code} {dC : Nat → ClassId} {dI : Nat → Nat → Nat} {cs : Nat → ClassId} {ad : Nat → Nat} {A : Nat → Prop} {D0 : Nat → Nat} {S' : SS} {r : Int32} (F : Fx p s m args meth c cX12_load 5 RX12 (some .int) dC dI cs A) (hR1 : 0 ≤ R.frames) (hR2 : 0 ≤ R.locals) : ∀ (n : Nat) (x1 : Int32) (x3 : Int32) (x4 : Int32) (S : SS), f_X12_load_L64 n x1 x3 x4 S = some (r, S') → AW p l e R s m args below meth c dC dI cs ad A D0 (some (.int r)) S' 5 64 [(0, .ref (ad 14)), (1, .int x1), (3, .int x3), (4, .int x4)] [] S := by
  have hx := F.1.1
  have hb := F.1.2.1
  intro n
  induction n with
  | zero => intro x1 x3 x4 S h; cases h
  | succ n ih =>
    intro x1 x3 x4 S h H locs ls w hl
    rw [f_X12_load_L64] at h
    refine lv_iload (pc := 64) hx hb dX12_load_64 (lv_at hl 3 rfl) ?_
    refine lv_bipush (pc := 66) (v := 20) hx hb dX12_load_66 (by decide) ?_
    refine lv_icmp_ge (pc := 68) (tgt := 90) hx hb dX12_load_68 (by decide) (fun q => ?_) (fun q => ?_)
    · have h := ite_t q h
      refine lv_iload_n (pc := 90) hx hb dX12_load_90 rfl (lv_at hl 2 rfl) ?_
      exact s_iret F w h dX12_load_91
    · have h := ite_f q h
      refine lv_aload_n (pc := 71) hx hb dX12_load_71 rfl (lv_at hl 0 rfl) ?_
      refine s_getR (pc := 72) F w 104 ds_14 (j := 52) vc_X12 vi_X12 rfl (by decide) kf_X12_126 dX12_load_72 ?_
      refine lv_bipush (pc := 75) (v := 20) hx hb dX12_load_75 (by decide) ?_
      refine lv_iload_n (pc := 77) hx hb dX12_load_77 rfl (lv_at hl 1 rfl) ?_
      refine lv_imul (pc := 78) hx hb dX12_load_78 ?_
      refine lv_iload (pc := 79) hx hb dX12_load_79 (lv_at hl 3 rfl) ?_
      refine lv_iadd (pc := 81) hx hb dX12_load_81 ?_
      refine lv_iconst (pc := 82) (v := 0) hx hb dX12_load_82 (by decide) ?_
      refine s_iast (pc := 83) F w ds_104 h dX12_load_83 (fun S8 H locs h w => ?_)
      refine s_nm h (fun z9 ez9 h => ?_)
      refine lv_iinc (pc := 84) (v := z9) (lv' := [(4, .int z9), (0, .ref (ad 14)), (1, .int x1), (3, .int x3)]) hx hb dX12_load_84 hl (k := 3) rfl (by rw [ez9]; rfl) (by decide) rfl (fun ls hl => ?_)
      refine lv_goto (pc := 87) (tgt := 64) hx hb dX12_load_87 (by decide) ?_
      exact ih _ _ _ _ h _ _ _ w (lv_sub hl [1, 2, 3, 0] rfl)
set_option maxRecDepth 100000 in
set_option maxHeartbeats 4000000 in
theorem m_X12_load (a1 : Int32) (a2 : Int32) (a3 : Int32) (S S' : SS) (r : Int32) (h : f_X12_load a1 a2 a3 S = some (r, S')) : MT yX12_load cX12_load 5 (some .int) 2 45 (fun ad => [.ref (ad 14), .int a1, .int a2, .int a3]) S (some (.int r)) S' := by
  refine MT.of RX12 (fun ad => [(0, .ref (ad 14)), (1, .int a1), (2, .int a2), (3, .int a3)]) (by decide) rfl (fun _ => Nat.le_of_ble_eq_true rfl) (fun _ => rfl) ?_
  intro p l e R s m args below meth c dC dI cs ad A hR1 hR2 F H locs ls w hl
  have hx := F.1.1
  have hb := F.1.2.1
  rw [f_X12_load] at h
  refine lv_iload_n (pc := 0) hx hb dX12_load_0 rfl (lv_at hl 2 rfl) ?_
  refine lv_if_lt (pc := 1) (tgt := 15) hx hb dX12_load_1 (by decide) (fun q => ?_) (fun q => ?_)
  · have h := ite_t q h
    refine lv_iconst (pc := 15) (v := -1) hx hb dX12_load_15 (by decide) ?_
    exact s_iret F w h dX12_load_16
  · have h := ite_f q h
    refine lv_iload_n (pc := 4) hx hb dX12_load_4 rfl (lv_at hl 2 rfl) ?_
    refine lv_iconst (pc := 5) (v := 1) hx hb dX12_load_5 (by decide) ?_
    refine lv_icmp_gt (pc := 6) (tgt := 15) hx hb dX12_load_6 (by decide) (fun q => ?_) (fun q => ?_)
    · have h := ite_t q h
      refine lv_iconst (pc := 15) (v := -1) hx hb dX12_load_15 (by decide) ?_
      exact s_iret F w h dX12_load_16
    · have h := ite_f q h
      refine lv_iload_n (pc := 9) hx hb dX12_load_9 rfl (lv_at hl 3 rfl) ?_
      refine lv_bipush (pc := 10) (v := 20) hx hb dX12_load_10 (by decide) ?_
      refine lv_icmp_le (pc := 12) (tgt := 17) hx hb dX12_load_12 (by decide) (fun q => ?_) (fun q => ?_)
      · have h := ite_t q h
        refine lv_aload_n (pc := 17) hx hb dX12_load_17 rfl (lv_at hl 0 rfl) ?_
        obtain ⟨S1, hc, h⟩ := bndv_t h
        refine s_cvv (pc := 18) [] (fun ad => [.ref (ad 14)]) F w (m_X12_begin  _ _ hc) rfl rfl hl.1 ds_14 vc_X12 rfl ok_X12_begin rfl kc_X12_begin kl_X12_226 ki_X12_begin kv_X12_begin kn_X12 ⟨Nat.le_trans (by decide) hR1, Nat.le_trans (by decide) hR2⟩ ⟨Nat.zero_le _, Nat.zero_le _⟩ (Nat.le_of_ble_eq_true rfl) dX12_load_18 (fun H locs w => ?_)
        refine lv_aload_n (pc := 21) hx hb dX12_load_21 rfl (lv_at hl 0 rfl) ?_
        refine lv_aload_n (pc := 22) hx hb dX12_load_22 rfl (lv_at hl 0 rfl) ?_
        refine lv_iload_n (pc := 23) hx hb dX12_load_23 rfl (lv_at hl 1 rfl) ?_
        refine lv_iconst (pc := 24) (v := 1) hx hb dX12_load_24 (by decide) ?_
        obtain ⟨r3, S2, hc, h⟩ := bnd_t h
        refine s_cvi (pc := 25) [.int a1, .int (1 : Int32)] (fun ad => [.ref (ad 14), .int a1, .int (1 : Int32)]) F w (m_X12_missThing _ _ _ _ _ hc) rfl rfl hl.1 ds_14 vc_X12 rfl ok_X12_missThing rfl kc_X12_missThing kl_X12_293 ki_X12_missThing kv_X12_missThing kn_X12 ⟨Nat.le_trans (by decide) hR1, Nat.le_trans (by decide) hR2⟩ ⟨Nat.zero_le _, Nat.zero_le _⟩ (Nat.le_of_ble_eq_true rfl) dX12_load_25 (fun H locs w => ?_)
        obtain ⟨r5, S4, hc, h⟩ := bnd_t h
        refine s_cvi (pc := 28) [.int r3] (fun ad => [.ref (ad 14), .int r3]) F w (m_X12_ends _ _ _ _ hc) rfl rfl hl.1 ds_14 vc_X12 rfl ok_X12_ends rfl kc_X12_ends kl_X12_236 ki_X12_ends kv_X12_ends kn_X12 ⟨Nat.le_trans (by decide) hR1, Nat.le_trans (by decide) hR2⟩ ⟨Nat.zero_le _, Nat.zero_le _⟩ (Nat.le_of_ble_eq_true rfl) dX12_load_28 (fun H locs w => ?_)
        refine lv_if_eq (pc := 31) (tgt := 37) hx hb dX12_load_31 (by decide) (fun q => ?_) (fun q => ?_)
        · have h := ite_t q h
          refine lv_iload_n (pc := 37) hx hb dX12_load_37 rfl (lv_at hl 3 rfl) ?_
          refine lv_if_ge (pc := 38) (tgt := 47) hx hb dX12_load_38 (by decide) (fun q => ?_) (fun q => ?_)
          · have h := ite_t q h
            refine lv_aload_n (pc := 47) hx hb dX12_load_47 rfl (lv_at hl 0 rfl) ?_
            refine s_getR (pc := 48) F w 102 ds_14 (j := 50) vc_X12 vi_X12 rfl (by decide) kf_X12_120 dX12_load_48 ?_
            refine lv_iload_n (pc := 51) hx hb dX12_load_51 rfl (lv_at hl 1 rfl) ?_
            refine lv_iload_n (pc := 52) hx hb dX12_load_52 rfl (lv_at hl 3 rfl) ?_
            refine s_iast (pc := 53) F w ds_102 h dX12_load_53 (fun S6 H locs h w => ?_)
            refine lv_aload_n (pc := 54) hx hb dX12_load_54 rfl (lv_at hl 0 rfl) ?_
            refine s_getR (pc := 55) F w 103 ds_14 (j := 51) vc_X12 vi_X12 rfl (by decide) kf_X12_123 dX12_load_55 ?_
            refine lv_iload_n (pc := 58) hx hb dX12_load_58 rfl (lv_at hl 1 rfl) ?_
            refine lv_iload_n (pc := 59) hx hb dX12_load_59 rfl (lv_at hl 2 rfl) ?_
            refine s_iast (pc := 60) F w ds_103 h dX12_load_60 (fun S7 H locs h w => ?_)
            refine lv_iconst (pc := 61) (v := 0) hx hb dX12_load_61 (by decide) ?_
            refine lv_istore (pc := 62) (lv' := [(4, .int (0 : Int32)), (0, .ref (ad 14)), (1, .int a1), (2, .int a2), (3, .int a3)]) hx hb dX12_load_62 hl (by decide) rfl (fun ls hl => ?_)
            exact w_X12_load_L64 F (Nat.le_trans (by decide) hR1) (Nat.le_trans (by decide) hR2) _ _ _ _ _ h _ _ _ w (lv_sub hl [1, 2, 4, 0] rfl)
          · have h := ite_f q h
            refine lv_aload_n (pc := 41) hx hb dX12_load_41 rfl (lv_at hl 0 rfl) ?_
            refine lv_iconst (pc := 42) (v := 5) hx hb dX12_load_42 (by decide) ?_
            obtain ⟨r11, S10, hc, h⟩ := bnd_t h
            refine s_cvi (pc := 43) [.int (5 : Int32)] (fun ad => [.ref (ad 14), .int (5 : Int32)]) F w (m_X12_found _ _ _ _ hc) rfl rfl hl.1 ds_14 vc_X12 rfl ok_X12_found rfl kc_X12_found kl_X12_210 ki_X12_found kv_X12_found kn_X12 ⟨Nat.le_trans (by decide) hR1, Nat.le_trans (by decide) hR2⟩ ⟨Nat.zero_le _, Nat.zero_le _⟩ (Nat.le_of_ble_eq_true rfl) dX12_load_43 (fun H locs w => ?_)
            exact s_iret F w h dX12_load_46
        · have h := ite_f q h
          refine lv_bipush (pc := 34) (v := -2) hx hb dX12_load_34 (by decide) ?_
          exact s_iret F w h dX12_load_36
      · have h := ite_f q h
        refine lv_iconst (pc := 15) (v := -1) hx hb dX12_load_15 (by decide) ?_
        exact s_iret F w h dX12_load_16
def f_X9_setPiece (a1 : Int32) (a2 : Int32) (a3 : Int32) (S : SS) : Option (SS) :=
  bnd (f_X9_putPiece a1 a2 a3 S) (fun r2 S1 =>
  bnd (f_X9_get a1 (5 : Int32) S1) (fun r4 S3 =>
  bndv (f_X9_set a1 (5 : Int32) ((r4 - r2) + a3) S3) (fun S5 =>
  some S5)))
theorem dX9_setPiece_0 : decode cX9_setPiece 0 = .ok (.aload_n 0, 1) := by decide +kernel
theorem dX9_setPiece_1 : decode cX9_setPiece 1 = .ok (.iload_n 1, 1) := by decide +kernel
theorem dX9_setPiece_2 : decode cX9_setPiece 2 = .ok (.iload_n 2, 1) := by decide +kernel
theorem dX9_setPiece_3 : decode cX9_setPiece 3 = .ok (.iload_n 3, 1) := by decide +kernel
theorem dX9_setPiece_4 : decode cX9_setPiece 4 = .ok (.invokevirtual 28, 3) := by decide +kernel
theorem dX9_setPiece_7 : decode cX9_setPiece 7 = .ok (.istore 4, 2) := by decide +kernel
theorem dX9_setPiece_9 : decode cX9_setPiece 9 = .ok (.aload_n 0, 1) := by decide +kernel
theorem dX9_setPiece_10 : decode cX9_setPiece 10 = .ok (.iload_n 1, 1) := by decide +kernel
theorem dX9_setPiece_11 : decode cX9_setPiece 11 = .ok (.iconst 5, 1) := by decide +kernel
theorem dX9_setPiece_12 : decode cX9_setPiece 12 = .ok (.aload_n 0, 1) := by decide +kernel
theorem dX9_setPiece_13 : decode cX9_setPiece 13 = .ok (.iload_n 1, 1) := by decide +kernel
theorem dX9_setPiece_14 : decode cX9_setPiece 14 = .ok (.iconst 5, 1) := by decide +kernel
theorem dX9_setPiece_15 : decode cX9_setPiece 15 = .ok (.invokevirtual 24, 3) := by decide +kernel
theorem dX9_setPiece_18 : decode cX9_setPiece 18 = .ok (.iload 4, 2) := by decide +kernel
theorem dX9_setPiece_20 : decode cX9_setPiece 20 = .ok (.isub, 1) := by decide +kernel
theorem dX9_setPiece_21 : decode cX9_setPiece 21 = .ok (.iload_n 3, 1) := by decide +kernel
theorem dX9_setPiece_22 : decode cX9_setPiece 22 = .ok (.iadd, 1) := by decide +kernel
theorem dX9_setPiece_23 : decode cX9_setPiece 23 = .ok (.invokevirtual 20, 3) := by decide +kernel
theorem dX9_setPiece_26 : decode cX9_setPiece 26 = .ok (.return_, 1) := by decide +kernel
set_option maxRecDepth 100000 in
set_option maxHeartbeats 4000000 in
theorem m_X9_setPiece (a1 : Int32) (a2 : Int32) (a3 : Int32) (S S' : SS) (h : f_X9_setPiece a1 a2 a3 S = some S') : MT yX9_setPiece cX9_setPiece 5 none 1 24 (fun ad => [.ref (ad 4), .int a1, .int a2, .int a3]) S none S' := by
  refine MT.of RX9 (fun ad => [(0, .ref (ad 4)), (1, .int a1), (2, .int a2), (3, .int a3)]) (by decide) rfl (fun _ => Nat.le_of_ble_eq_true rfl) (fun _ => rfl) ?_
  intro p l e R s m args below meth c dC dI cs ad A hR1 hR2 F H locs ls w hl
  have hx := F.1.1
  have hb := F.1.2.1
  rw [f_X9_setPiece] at h
  refine lv_aload_n (pc := 0) hx hb dX9_setPiece_0 rfl (lv_at hl 0 rfl) ?_
  refine lv_iload_n (pc := 1) hx hb dX9_setPiece_1 rfl (lv_at hl 1 rfl) ?_
  refine lv_iload_n (pc := 2) hx hb dX9_setPiece_2 rfl (lv_at hl 2 rfl) ?_
  refine lv_iload_n (pc := 3) hx hb dX9_setPiece_3 rfl (lv_at hl 3 rfl) ?_
  obtain ⟨r2, S1, hc, h⟩ := bnd_t h
  refine s_cvi (pc := 4) [.int a1, .int a2, .int a3] (fun ad => [.ref (ad 4), .int a1, .int a2, .int a3]) F w (m_X9_putPiece _ _ _ _ _ _ hc) rfl rfl hl.1 ds_4 vc_X9 rfl ok_X9_putPiece rfl kc_X9_putPiece kl_X9_28 ki_X9_putPiece kv_X9_putPiece kn_X9 ⟨Nat.le_trans (by decide) hR1, Nat.le_trans (by decide) hR2⟩ ⟨Nat.zero_le _, Nat.zero_le _⟩ (Nat.le_of_ble_eq_true rfl) dX9_setPiece_4 (fun H locs w => ?_)
  refine lv_istore (pc := 7) (lv' := [(4, .int r2), (0, .ref (ad 4)), (1, .int a1), (2, .int a2), (3, .int a3)]) hx hb dX9_setPiece_7 hl (by decide) rfl (fun ls hl => ?_)
  refine lv_aload_n (pc := 9) hx hb dX9_setPiece_9 rfl (lv_at hl 1 rfl) ?_
  refine lv_iload_n (pc := 10) hx hb dX9_setPiece_10 rfl (lv_at hl 2 rfl) ?_
  refine lv_iconst (pc := 11) (v := 5) hx hb dX9_setPiece_11 (by decide) ?_
  refine lv_aload_n (pc := 12) hx hb dX9_setPiece_12 rfl (lv_at hl 1 rfl) ?_
  refine lv_iload_n (pc := 13) hx hb dX9_setPiece_13 rfl (lv_at hl 2 rfl) ?_
  refine lv_iconst (pc := 14) (v := 5) hx hb dX9_setPiece_14 (by decide) ?_
  obtain ⟨r4, S3, hc, h⟩ := bnd_t h
  refine s_cvi (pc := 15) [.int a1, .int (5 : Int32)] (fun ad => [.ref (ad 4), .int a1, .int (5 : Int32)]) F w (m_X9_get _ _ _ _ _ hc) rfl rfl hl.1 ds_4 vc_X9 rfl ok_X9_get rfl kc_X9_get kl_X9_24 ki_X9_get kv_X9_get kn_X9 ⟨Nat.le_trans (by decide) hR1, Nat.le_trans (by decide) hR2⟩ ⟨Nat.zero_le _, Nat.zero_le _⟩ (Nat.le_of_ble_eq_true rfl) dX9_setPiece_15 (fun H locs w => ?_)
  refine lv_iload (pc := 18) hx hb dX9_setPiece_18 (lv_at hl 0 rfl) ?_
  refine lv_isub (pc := 20) hx hb dX9_setPiece_20 ?_
  refine lv_iload_n (pc := 21) hx hb dX9_setPiece_21 rfl (lv_at hl 4 rfl) ?_
  refine lv_iadd (pc := 22) hx hb dX9_setPiece_22 ?_
  obtain ⟨S5, hc, h⟩ := bndv_t h
  refine s_cvv (pc := 23) [.int a1, .int (5 : Int32), .int ((r4 - r2) + a3)] (fun ad => [.ref (ad 4), .int a1, .int (5 : Int32), .int ((r4 - r2) + a3)]) F w (m_X9_set _ _ _ _ _ hc) rfl rfl hl.1 ds_4 vc_X9 rfl ok_X9_set rfl kc_X9_set kl_X9_20 ki_X9_set kv_X9_set kn_X9 ⟨Nat.le_trans (by decide) hR1, Nat.le_trans (by decide) hR2⟩ ⟨Nat.zero_le _, Nat.zero_le _⟩ (Nat.le_of_ble_eq_true rfl) dX9_setPiece_23 (fun H locs w => ?_)
  exact s_vret F w h dX9_setPiece_26
