/-! ===== printed by wip/gen: M_decode M_mayMove M_shift M_measure M_hasFallen M_wander ===== -/
def f_M_decode_j188 (K154 : Int32 → Int32 → Int32 → Int32 → Int32 → Int32 → SS → Option (SS)) (x4 : Int32) (x5 : Int32) (x6 : Int32) (x7 : Int32) (x9 : Int32) (y0 : Int32) (y1 : Int32) (S : SS) : Option (SS) :=
    nm (y1 - y0) (fun z9 =>
    nm (x9 + (1 : Int32)) (fun z10 =>
    K154 x4 x5 x6 x7 z9 z10 S))
def f_M_decode_j170 (K154 : Int32 → Int32 → Int32 → Int32 → Int32 → Int32 → SS → Option (SS)) (x4 : Int32) (x5 : Int32) (x6 : Int32) (x7 : Int32) (x8 : Int32) (x9 : Int32) (S : SS) : Option (SS) :=
    if ((x4 >>> (x9 &&& 31)) &&& (1 : Int32)) = (1 : Int32) then
      f_M_decode_j188 K154 x4 x5 x6 x7 x9 (0 : Int32) x8 S
    else
      f_M_decode_j188 K154 x4 x5 x6 x7 x9 (1 : Int32) x8 S
def f_M_decode_L206 (K133 : Int32 → Int32 → Int32 → Int32 → SS → Option (SS)) : Nat → Int32 → Int32 → Int32 → Int32 → Int32 → SS → Option (SS)
  | 0, _, _, _, _, _, _ => none
  | n + 1, x4, x5, x6, x7, x9, S =>
    grd (inb x5 4) (
    if x6 = (S.1 58 x5.toNatClampNeg) then
      nm (x5 + (1 : Int32)) (fun z15 =>
      f_M_decode_L206 K133 n x4 z15 (0 : Int32) x7 x9 S)
    else
      grd (inb x9 10) (
      grd (inb (((10 : Int32) * x5) + x6) 40) (wr S 57 (((10 : Int32) * x5) + x6).toNatClampNeg (S.1 54 x9.toNatClampNeg) (fun S12 =>
      nm (x6 + (1 : Int32)) (fun z13 =>
      nm (x7 + (1 : Int32)) (fun z14 =>
      K133 x4 x5 z13 z14 S12))))))
def f_M_decode_L154 (K133 : Int32 → Int32 → Int32 → Int32 → SS → Option (SS)) : Nat → Int32 → Int32 → Int32 → Int32 → Int32 → Int32 → SS → Option (SS)
  | 0, _, _, _, _, _, _, _ => none
  | n + 1, x4, x5, x6, x7, x8, x9, S =>
    if ((x4 >>> (x9 &&& 31)) &&& (1 : Int32)) = (1 : Int32) then
      f_M_decode_j170 (fun v0 v1 v2 v3 v4 v5 S => f_M_decode_L154 K133 n v0 v1 v2 v3 v4 v5 S) x4 x5 x6 x7 x8 x9 S
    else
      if x8 ≤ 0 then
        nm (x4 ||| ((1 : Int32) <<< (x9 &&& 31))) (fun z11 =>
        f_M_decode_L206 K133 NF z11 x5 x6 x7 x9 S)
      else
        f_M_decode_j170 (fun v0 v1 v2 v3 v4 v5 S => f_M_decode_L154 K133 n v0 v1 v2 v3 v4 v5 S) x4 x5 x6 x7 x8 x9 S
def f_M_decode_L133  : Nat → Int32 → Int32 → Int32 → Int32 → SS → Option (SS)
  | 0, _, _, _, _, _ => none
  | n + 1, x4, x5, x6, x7, S =>
    if (S.1 0 81) ≤ x7 then
      some S
    else
      grd (inb x7 5) (
      nm (S.1 59 x7.toNatClampNeg) (fun z8 =>
      f_M_decode_L154 (fun v0 v1 v2 v3 S => f_M_decode_L133 n v0 v1 v2 v3 S) NF x4 x5 x6 x7 z8 (0 : Int32) S))
def f_M_decode_L84  : Nat → Int32 → Int32 → SS → Option (SS)
  | 0, _, _, _ => none
  | n + 1, x3, x4, S =>
    if x4 < 0 then
      f_M_decode_L133 NF (0 : Int32) (0 : Int32) (0 : Int32) (0 : Int32) S
    else
      grd (!(decide ((S.1 0 81) - x4 = 0))) (
      grd (inb x4 5) (wr S 59 x4.toNatClampNeg (x3 - x3 / ((S.1 0 81) - x4) * ((S.1 0 81) - x4)) (fun S16 =>
      grd (!(decide ((S16.1 0 81) - x4 = 0))) (
      nm (x3 / ((S16.1 0 81) - x4)) (fun z17 =>
      nm (x4 + (-1 : Int32)) (fun z18 =>
      f_M_decode_L84 n z17 z18 S16))))))
def f_M_decode (a1 : Int32) (S : SS) : Option (SS) :=
  nm (a1 - a1 / (216 : Int32) * (216 : Int32)) (fun z1 =>
  grd (inb (0 : Int32) 4) (wr S 58 (0 : Int32).toNatClampNeg (z1 / (36 : Int32)) (fun S2 =>
  grd (inb (1 : Int32) 4) (wr S2 58 (1 : Int32).toNatClampNeg ((z1 / (6 : Int32)) - (z1 / (6 : Int32)) / (6 : Int32) * (6 : Int32)) (fun S3 =>
  grd (inb (2 : Int32) 4) (wr S3 58 (2 : Int32).toNatClampNeg (z1 - z1 / (6 : Int32) * (6 : Int32)) (fun S4 =>
  grd (inb (0 : Int32) 4) (
  grd (inb (1 : Int32) 4) (
  grd (inb (2 : Int32) 4) (
  grd (inb (3 : Int32) 4) (wr S4 58 (3 : Int32).toNatClampNeg ((((S4.1 0 81) - (S4.1 58 (0 : Int32).toNatClampNeg)) - (S4.1 58 (1 : Int32).toNatClampNeg)) - (S4.1 58 (2 : Int32).toNatClampNeg)) (fun S5 =>
  nm (a1 / (216 : Int32)) (fun z6 =>
  nm ((S5.1 0 81) - (1 : Int32)) (fun z7 =>
  f_M_decode_L84 NF z6 z7 S5))))))))))))))
theorem dX12_decode_0 : decode cX12_decode 0 = .ok (.iload_n 1, 1) := dc_27 (by decide +kernel)
theorem dX12_decode_1 : decode cX12_decode 1 = .ok (.sipush 216, 3) := dc_17 (a := 0) (b := 216) (by decide +kernel) (by decide)
theorem dX12_decode_4 : decode cX12_decode 4 = .ok (.irem, 1) := dc_112 (by decide +kernel)
theorem dX12_decode_5 : decode cX12_decode 5 = .ok (.istore_n 2, 1) := dc_61 (by decide +kernel)
theorem dX12_decode_6 : decode cX12_decode 6 = .ok (.aload_n 0, 1) := dc_42 (by decide +kernel)
theorem dX12_decode_7 : decode cX12_decode 7 = .ok (.getfield 192, 3) := dc_180 (a := 0) (b := 192) (by decide +kernel)
theorem dX12_decode_10 : decode cX12_decode 10 = .ok (.iconst 0, 1) := dc_3 (by decide +kernel)
theorem dX12_decode_11 : decode cX12_decode 11 = .ok (.iload_n 2, 1) := dc_28 (by decide +kernel)
theorem dX12_decode_12 : decode cX12_decode 12 = .ok (.bipush 36, 2) := dc_16 (a := 36) (by decide +kernel) (by decide)
theorem dX12_decode_14 : decode cX12_decode 14 = .ok (.idiv, 1) := dc_108 (by decide +kernel)
theorem dX12_decode_15 : decode cX12_decode 15 = .ok (.iastore, 1) := dc_79 (by decide +kernel)
theorem dX12_decode_16 : decode cX12_decode 16 = .ok (.aload_n 0, 1) := dc_42 (by decide +kernel)
theorem dX12_decode_17 : decode cX12_decode 17 = .ok (.getfield 192, 3) := dc_180 (a := 0) (b := 192) (by decide +kernel)
theorem dX12_decode_20 : decode cX12_decode 20 = .ok (.iconst 1, 1) := dc_4 (by decide +kernel)
theorem dX12_decode_21 : decode cX12_decode 21 = .ok (.iload_n 2, 1) := dc_28 (by decide +kernel)
theorem dX12_decode_22 : decode cX12_decode 22 = .ok (.bipush 6, 2) := dc_16 (a := 6) (by decide +kernel) (by decide)
theorem dX12_decode_24 : decode cX12_decode 24 = .ok (.idiv, 1) := dc_108 (by decide +kernel)
theorem dX12_decode_25 : decode cX12_decode 25 = .ok (.bipush 6, 2) := dc_16 (a := 6) (by decide +kernel) (by decide)
theorem dX12_decode_27 : decode cX12_decode 27 = .ok (.irem, 1) := dc_112 (by decide +kernel)
theorem dX12_decode_28 : decode cX12_decode 28 = .ok (.iastore, 1) := dc_79 (by decide +kernel)
theorem dX12_decode_29 : decode cX12_decode 29 = .ok (.aload_n 0, 1) := dc_42 (by decide +kernel)
theorem dX12_decode_30 : decode cX12_decode 30 = .ok (.getfield 192, 3) := dc_180 (a := 0) (b := 192) (by decide +kernel)
theorem dX12_decode_33 : decode cX12_decode 33 = .ok (.iconst 2, 1) := dc_5 (by decide +kernel)
theorem dX12_decode_34 : decode cX12_decode 34 = .ok (.iload_n 2, 1) := dc_28 (by decide +kernel)
theorem dX12_decode_35 : decode cX12_decode 35 = .ok (.bipush 6, 2) := dc_16 (a := 6) (by decide +kernel) (by decide)
theorem dX12_decode_37 : decode cX12_decode 37 = .ok (.irem, 1) := dc_112 (by decide +kernel)
theorem dX12_decode_38 : decode cX12_decode 38 = .ok (.iastore, 1) := dc_79 (by decide +kernel)
theorem dX12_decode_39 : decode cX12_decode 39 = .ok (.aload_n 0, 1) := dc_42 (by decide +kernel)
theorem dX12_decode_40 : decode cX12_decode 40 = .ok (.getfield 192, 3) := dc_180 (a := 0) (b := 192) (by decide +kernel)
theorem dX12_decode_43 : decode cX12_decode 43 = .ok (.iconst 3, 1) := dc_6 (by decide +kernel)
theorem dX12_decode_44 : decode cX12_decode 44 = .ok (.aload_n 0, 1) := dc_42 (by decide +kernel)
theorem dX12_decode_45 : decode cX12_decode 45 = .ok (.getfield 466, 3) := dc_180 (a := 1) (b := 210) (by decide +kernel)
theorem dX12_decode_48 : decode cX12_decode 48 = .ok (.aload_n 0, 1) := dc_42 (by decide +kernel)
theorem dX12_decode_49 : decode cX12_decode 49 = .ok (.getfield 192, 3) := dc_180 (a := 0) (b := 192) (by decide +kernel)
theorem dX12_decode_52 : decode cX12_decode 52 = .ok (.iconst 0, 1) := dc_3 (by decide +kernel)
theorem dX12_decode_53 : decode cX12_decode 53 = .ok (.iaload, 1) := dc_46 (by decide +kernel)
theorem dX12_decode_54 : decode cX12_decode 54 = .ok (.isub, 1) := dc_100 (by decide +kernel)
theorem dX12_decode_55 : decode cX12_decode 55 = .ok (.aload_n 0, 1) := dc_42 (by decide +kernel)
theorem dX12_decode_56 : decode cX12_decode 56 = .ok (.getfield 192, 3) := dc_180 (a := 0) (b := 192) (by decide +kernel)
theorem dX12_decode_59 : decode cX12_decode 59 = .ok (.iconst 1, 1) := dc_4 (by decide +kernel)
theorem dX12_decode_60 : decode cX12_decode 60 = .ok (.iaload, 1) := dc_46 (by decide +kernel)
theorem dX12_decode_61 : decode cX12_decode 61 = .ok (.isub, 1) := dc_100 (by decide +kernel)
theorem dX12_decode_62 : decode cX12_decode 62 = .ok (.aload_n 0, 1) := dc_42 (by decide +kernel)
theorem dX12_decode_63 : decode cX12_decode 63 = .ok (.getfield 192, 3) := dc_180 (a := 0) (b := 192) (by decide +kernel)
theorem dX12_decode_66 : decode cX12_decode 66 = .ok (.iconst 2, 1) := dc_5 (by decide +kernel)
theorem dX12_decode_67 : decode cX12_decode 67 = .ok (.iaload, 1) := dc_46 (by decide +kernel)
theorem dX12_decode_68 : decode cX12_decode 68 = .ok (.isub, 1) := dc_100 (by decide +kernel)
theorem dX12_decode_69 : decode cX12_decode 69 = .ok (.iastore, 1) := dc_79 (by decide +kernel)
theorem dX12_decode_70 : decode cX12_decode 70 = .ok (.iload_n 1, 1) := dc_27 (by decide +kernel)
theorem dX12_decode_71 : decode cX12_decode 71 = .ok (.sipush 216, 3) := dc_17 (a := 0) (b := 216) (by decide +kernel) (by decide)
theorem dX12_decode_74 : decode cX12_decode 74 = .ok (.idiv, 1) := dc_108 (by decide +kernel)
theorem dX12_decode_75 : decode cX12_decode 75 = .ok (.istore_n 3, 1) := dc_62 (by decide +kernel)
theorem dX12_decode_76 : decode cX12_decode 76 = .ok (.aload_n 0, 1) := dc_42 (by decide +kernel)
theorem dX12_decode_77 : decode cX12_decode 77 = .ok (.getfield 466, 3) := dc_180 (a := 1) (b := 210) (by decide +kernel)
theorem dX12_decode_80 : decode cX12_decode 80 = .ok (.iconst 1, 1) := dc_4 (by decide +kernel)
theorem dX12_decode_81 : decode cX12_decode 81 = .ok (.isub, 1) := dc_100 (by decide +kernel)
theorem dX12_decode_82 : decode cX12_decode 82 = .ok (.istore 4, 2) := dc_54 (a := 4) (by decide +kernel)
theorem dX12_decode_84 : decode cX12_decode 84 = .ok (.iload 4, 2) := dc_21 (a := 4) (by decide +kernel)
theorem dX12_decode_86 : decode cX12_decode 86 = .ok (.ifCond .lt 35, 3) := dc_155 (a := 0) (b := 35) (by decide +kernel) (by decide)
theorem dX12_decode_89 : decode cX12_decode 89 = .ok (.aload_n 0, 1) := dc_42 (by decide +kernel)
theorem dX12_decode_90 : decode cX12_decode 90 = .ok (.getfield 195, 3) := dc_180 (a := 0) (b := 195) (by decide +kernel)
theorem dX12_decode_93 : decode cX12_decode 93 = .ok (.iload 4, 2) := dc_21 (a := 4) (by decide +kernel)
theorem dX12_decode_95 : decode cX12_decode 95 = .ok (.iload_n 3, 1) := dc_29 (by decide +kernel)
theorem dX12_decode_96 : decode cX12_decode 96 = .ok (.aload_n 0, 1) := dc_42 (by decide +kernel)
theorem dX12_decode_97 : decode cX12_decode 97 = .ok (.getfield 466, 3) := dc_180 (a := 1) (b := 210) (by decide +kernel)
theorem dX12_decode_100 : decode cX12_decode 100 = .ok (.iload 4, 2) := dc_21 (a := 4) (by decide +kernel)
theorem dX12_decode_102 : decode cX12_decode 102 = .ok (.isub, 1) := dc_100 (by decide +kernel)
theorem dX12_decode_103 : decode cX12_decode 103 = .ok (.irem, 1) := dc_112 (by decide +kernel)
theorem dX12_decode_104 : decode cX12_decode 104 = .ok (.iastore, 1) := dc_79 (by decide +kernel)
theorem dX12_decode_105 : decode cX12_decode 105 = .ok (.iload_n 3, 1) := dc_29 (by decide +kernel)
theorem dX12_decode_106 : decode cX12_decode 106 = .ok (.aload_n 0, 1) := dc_42 (by decide +kernel)
theorem dX12_decode_107 : decode cX12_decode 107 = .ok (.getfield 466, 3) := dc_180 (a := 1) (b := 210) (by decide +kernel)
theorem dX12_decode_110 : decode cX12_decode 110 = .ok (.iload 4, 2) := dc_21 (a := 4) (by decide +kernel)
theorem dX12_decode_112 : decode cX12_decode 112 = .ok (.isub, 1) := dc_100 (by decide +kernel)
theorem dX12_decode_113 : decode cX12_decode 113 = .ok (.idiv, 1) := dc_108 (by decide +kernel)
theorem dX12_decode_114 : decode cX12_decode 114 = .ok (.istore_n 3, 1) := dc_62 (by decide +kernel)
theorem dX12_decode_115 : decode cX12_decode 115 = .ok (.iinc 4 (-1), 3) := dc_132 (a := 4) (b := 255) (by decide +kernel) (by decide)
theorem dX12_decode_118 : decode cX12_decode 118 = .ok (.goto (-34), 3) := dc_167 (a := 255) (b := 222) (by decide +kernel) (by decide)
theorem dX12_decode_121 : decode cX12_decode 121 = .ok (.iconst 0, 1) := dc_3 (by decide +kernel)
theorem dX12_decode_122 : decode cX12_decode 122 = .ok (.istore 4, 2) := dc_54 (a := 4) (by decide +kernel)
theorem dX12_decode_124 : decode cX12_decode 124 = .ok (.iconst 0, 1) := dc_3 (by decide +kernel)
theorem dX12_decode_125 : decode cX12_decode 125 = .ok (.istore 5, 2) := dc_54 (a := 5) (by decide +kernel)
theorem dX12_decode_127 : decode cX12_decode 127 = .ok (.iconst 0, 1) := dc_3 (by decide +kernel)
theorem dX12_decode_128 : decode cX12_decode 128 = .ok (.istore 6, 2) := dc_54 (a := 6) (by decide +kernel)
theorem dX12_decode_130 : decode cX12_decode 130 = .ok (.iconst 0, 1) := dc_3 (by decide +kernel)
theorem dX12_decode_131 : decode cX12_decode 131 = .ok (.istore 7, 2) := dc_54 (a := 7) (by decide +kernel)
theorem dX12_decode_133 : decode cX12_decode 133 = .ok (.iload 7, 2) := dc_21 (a := 7) (by decide +kernel)
theorem dX12_decode_135 : decode cX12_decode 135 = .ok (.aload_n 0, 1) := dc_42 (by decide +kernel)
theorem dX12_decode_136 : decode cX12_decode 136 = .ok (.getfield 466, 3) := dc_180 (a := 1) (b := 210) (by decide +kernel)
theorem dX12_decode_139 : decode cX12_decode 139 = .ok (.if_icmp .ge 117, 3) := dc_162 (a := 0) (b := 117) (by decide +kernel) (by decide)
theorem dX12_decode_142 : decode cX12_decode 142 = .ok (.aload_n 0, 1) := dc_42 (by decide +kernel)
theorem dX12_decode_143 : decode cX12_decode 143 = .ok (.getfield 195, 3) := dc_180 (a := 0) (b := 195) (by decide +kernel)
theorem dX12_decode_146 : decode cX12_decode 146 = .ok (.iload 7, 2) := dc_21 (a := 7) (by decide +kernel)
theorem dX12_decode_148 : decode cX12_decode 148 = .ok (.iaload, 1) := dc_46 (by decide +kernel)
theorem dX12_decode_149 : decode cX12_decode 149 = .ok (.istore 8, 2) := dc_54 (a := 8) (by decide +kernel)
theorem dX12_decode_151 : decode cX12_decode 151 = .ok (.iconst 0, 1) := dc_3 (by decide +kernel)
theorem dX12_decode_152 : decode cX12_decode 152 = .ok (.istore 9, 2) := dc_54 (a := 9) (by decide +kernel)
theorem dX12_decode_154 : decode cX12_decode 154 = .ok (.iload 4, 2) := dc_21 (a := 4) (by decide +kernel)
theorem dX12_decode_156 : decode cX12_decode 156 = .ok (.iload 9, 2) := dc_21 (a := 9) (by decide +kernel)
theorem dX12_decode_158 : decode cX12_decode 158 = .ok (.ishr, 1) := dc_122 (by decide +kernel)
theorem dX12_decode_159 : decode cX12_decode 159 = .ok (.iconst 1, 1) := dc_4 (by decide +kernel)
theorem dX12_decode_160 : decode cX12_decode 160 = .ok (.iand, 1) := dc_126 (by decide +kernel)
theorem dX12_decode_161 : decode cX12_decode 161 = .ok (.iconst 1, 1) := dc_4 (by decide +kernel)
theorem dX12_decode_162 : decode cX12_decode 162 = .ok (.if_icmp .eq 8, 3) := dc_159 (a := 0) (b := 8) (by decide +kernel) (by decide)
theorem dX12_decode_165 : decode cX12_decode 165 = .ok (.iload 8, 2) := dc_21 (a := 8) (by decide +kernel)
theorem dX12_decode_167 : decode cX12_decode 167 = .ok (.ifCond .le 30, 3) := dc_158 (a := 0) (b := 30) (by decide +kernel) (by decide)
theorem dX12_decode_170 : decode cX12_decode 170 = .ok (.iload 8, 2) := dc_21 (a := 8) (by decide +kernel)
theorem dX12_decode_172 : decode cX12_decode 172 = .ok (.iload 4, 2) := dc_21 (a := 4) (by decide +kernel)
theorem dX12_decode_174 : decode cX12_decode 174 = .ok (.iload 9, 2) := dc_21 (a := 9) (by decide +kernel)
theorem dX12_decode_176 : decode cX12_decode 176 = .ok (.ishr, 1) := dc_122 (by decide +kernel)
theorem dX12_decode_177 : decode cX12_decode 177 = .ok (.iconst 1, 1) := dc_4 (by decide +kernel)
theorem dX12_decode_178 : decode cX12_decode 178 = .ok (.iand, 1) := dc_126 (by decide +kernel)
theorem dX12_decode_179 : decode cX12_decode 179 = .ok (.iconst 1, 1) := dc_4 (by decide +kernel)
theorem dX12_decode_180 : decode cX12_decode 180 = .ok (.if_icmp .ne 7, 3) := dc_160 (a := 0) (b := 7) (by decide +kernel) (by decide)
theorem dX12_decode_183 : decode cX12_decode 183 = .ok (.iconst 0, 1) := dc_3 (by decide +kernel)
theorem dX12_decode_184 : decode cX12_decode 184 = .ok (.goto 4, 3) := dc_167 (a := 0) (b := 4) (by decide +kernel) (by decide)
theorem dX12_decode_187 : decode cX12_decode 187 = .ok (.iconst 1, 1) := dc_4 (by decide +kernel)
theorem dX12_decode_188 : decode cX12_decode 188 = .ok (.isub, 1) := dc_100 (by decide +kernel)
theorem dX12_decode_189 : decode cX12_decode 189 = .ok (.istore 8, 2) := dc_54 (a := 8) (by decide +kernel)
theorem dX12_decode_191 : decode cX12_decode 191 = .ok (.iinc 9 1, 3) := dc_132 (a := 9) (b := 1) (by decide +kernel) (by decide)
theorem dX12_decode_194 : decode cX12_decode 194 = .ok (.goto (-40), 3) := dc_167 (a := 255) (b := 216) (by decide +kernel) (by decide)
theorem dX12_decode_197 : decode cX12_decode 197 = .ok (.iload 4, 2) := dc_21 (a := 4) (by decide +kernel)
theorem dX12_decode_199 : decode cX12_decode 199 = .ok (.iconst 1, 1) := dc_4 (by decide +kernel)
theorem dX12_decode_200 : decode cX12_decode 200 = .ok (.iload 9, 2) := dc_21 (a := 9) (by decide +kernel)
theorem dX12_decode_202 : decode cX12_decode 202 = .ok (.ishl, 1) := dc_120 (by decide +kernel)
theorem dX12_decode_203 : decode cX12_decode 203 = .ok (.ior, 1) := dc_128 (by decide +kernel)
theorem dX12_decode_204 : decode cX12_decode 204 = .ok (.istore 4, 2) := dc_54 (a := 4) (by decide +kernel)
theorem dX12_decode_206 : decode cX12_decode 206 = .ok (.iload 6, 2) := dc_21 (a := 6) (by decide +kernel)
theorem dX12_decode_208 : decode cX12_decode 208 = .ok (.aload_n 0, 1) := dc_42 (by decide +kernel)
theorem dX12_decode_209 : decode cX12_decode 209 = .ok (.getfield 192, 3) := dc_180 (a := 0) (b := 192) (by decide +kernel)
theorem dX12_decode_212 : decode cX12_decode 212 = .ok (.iload 5, 2) := dc_21 (a := 5) (by decide +kernel)
theorem dX12_decode_214 : decode cX12_decode 214 = .ok (.iaload, 1) := dc_46 (by decide +kernel)
theorem dX12_decode_215 : decode cX12_decode 215 = .ok (.if_icmp .ne 12, 3) := dc_160 (a := 0) (b := 12) (by decide +kernel) (by decide)
theorem dX12_decode_218 : decode cX12_decode 218 = .ok (.iinc 5 1, 3) := dc_132 (a := 5) (b := 1) (by decide +kernel) (by decide)
theorem dX12_decode_221 : decode cX12_decode 221 = .ok (.iconst 0, 1) := dc_3 (by decide +kernel)
theorem dX12_decode_222 : decode cX12_decode 222 = .ok (.istore 6, 2) := dc_54 (a := 6) (by decide +kernel)
theorem dX12_decode_224 : decode cX12_decode 224 = .ok (.goto (-18), 3) := dc_167 (a := 255) (b := 238) (by decide +kernel) (by decide)
theorem dX12_decode_227 : decode cX12_decode 227 = .ok (.aload_n 0, 1) := dc_42 (by decide +kernel)
theorem dX12_decode_228 : decode cX12_decode 228 = .ok (.getfield 189, 3) := dc_180 (a := 0) (b := 189) (by decide +kernel)
theorem dX12_decode_231 : decode cX12_decode 231 = .ok (.bipush 10, 2) := dc_16 (a := 10) (by decide +kernel) (by decide)
theorem dX12_decode_233 : decode cX12_decode 233 = .ok (.iload 5, 2) := dc_21 (a := 5) (by decide +kernel)
theorem dX12_decode_235 : decode cX12_decode 235 = .ok (.imul, 1) := dc_104 (by decide +kernel)
theorem dX12_decode_236 : decode cX12_decode 236 = .ok (.iload 6, 2) := dc_21 (a := 6) (by decide +kernel)
theorem dX12_decode_238 : decode cX12_decode 238 = .ok (.iadd, 1) := dc_96 (by decide +kernel)
theorem dX12_decode_239 : decode cX12_decode 239 = .ok (.aload_n 0, 1) := dc_42 (by decide +kernel)
theorem dX12_decode_240 : decode cX12_decode 240 = .ok (.getfield 180, 3) := dc_180 (a := 0) (b := 180) (by decide +kernel)
theorem dX12_decode_243 : decode cX12_decode 243 = .ok (.iload 9, 2) := dc_21 (a := 9) (by decide +kernel)
theorem dX12_decode_245 : decode cX12_decode 245 = .ok (.iaload, 1) := dc_46 (by decide +kernel)
theorem dX12_decode_246 : decode cX12_decode 246 = .ok (.iastore, 1) := dc_79 (by decide +kernel)
theorem dX12_decode_247 : decode cX12_decode 247 = .ok (.iinc 6 1, 3) := dc_132 (a := 6) (b := 1) (by decide +kernel) (by decide)
theorem dX12_decode_250 : decode cX12_decode 250 = .ok (.iinc 7 1, 3) := dc_132 (a := 7) (b := 1) (by decide +kernel) (by decide)
theorem dX12_decode_253 : decode cX12_decode 253 = .ok (.goto (-120), 3) := dc_167 (a := 255) (b := 136) (by decide +kernel) (by decide)
theorem dX12_decode_256 : decode cX12_decode 256 = .ok (.return_, 1) := dc_177 (by decide +kernel)
set_option maxRecDepth 100000 in
set_option maxHeartbeats 4000000 in
theorem w_M_decode_j188 {p : Program} {l : Launch} {e : Env} {R : Room} {s : State} {m : MethodId} {args : Array Value} {below : List Frame} {meth : Method} {c : Code} {dC : Nat → ClassId} {dI : Nat → Nat → Nat} {cs : Nat → ClassId} {ad : Nat → Nat} {A : Nat → Prop} {D0 : Nat → Nat} {S' : SS} (F : Fx p s m args meth c cX12_decode 10 RX12 none dC dI cs A) (hR1 : 0 ≤ R.frames) (hR2 : 0 ≤ R.locals) (K154 : Int32 → Int32 → Int32 → Int32 → Int32 → Int32 → SS → Option (SS)) (hK154 : ∀ (v0 : Int32) (v1 : Int32) (v2 : Int32) (v3 : Int32) (v4 : Int32) (v5 : Int32) (S : SS), K154 v0 v1 v2 v3 v4 v5 S = some S' → AW p l e R s m args below meth c dC dI cs ad A D0 none S' 10 154 [(0, .ref (ad 0)), (4, .int v0), (5, .int v1), (6, .int v2), (7, .int v3), (8, .int v4), (9, .int v5)] [] S) (x4 : Int32) (x5 : Int32) (x6 : Int32) (x7 : Int32) (x9 : Int32) (y0 : Int32) (y1 : Int32) (S : SS) (h : f_M_decode_j188 K154 x4 x5 x6 x7 x9 y0 y1 S = some S') : AW p l e R s m args below meth c dC dI cs ad A D0 none S' 10 188 [(0, .ref (ad 0)), (4, .int x4), (5, .int x5), (6, .int x6), (7, .int x7), (9, .int x9)] [.int y0, .int y1] S := by
  have hx := F.1.1
  have hb := F.1.2.1
  intro H locs ls w hl
  rw [f_M_decode_j188] at h
  refine lv_isub (pc := 188) hx hb dX12_decode_188 ?_
  refine s_nm h (fun z9 ez9 h => ?_)
  rw [← ez9]
  refine lv_istore (pc := 189) (lv' := [(8, .int z9), (0, .ref (ad 0)), (4, .int x4), (5, .int x5), (6, .int x6), (7, .int x7), (9, .int x9)]) hx hb dX12_decode_189 hl (by decide) rfl (fun ls hl => ?_)
  refine s_nm h (fun z10 ez10 h => ?_)
  refine lv_iinc (pc := 191) (v := z10) (lv' := [(9, .int z10), (8, .int z9), (0, .ref (ad 0)), (4, .int x4), (5, .int x5), (6, .int x6), (7, .int x7)]) hx hb dX12_decode_191 hl (k := 6) rfl (by rw [ez10]; rfl) (by decide) rfl (fun ls hl => ?_)
  refine lv_goto (pc := 194) (tgt := 154) hx hb dX12_decode_194 (by decide) ?_
  exact hK154 _ _ _ _ _ _ _ h _ _ _ w (lv_sub hl [2, 3, 4, 5, 6, 1, 0] rfl)
set_option maxRecDepth 100000 in
set_option maxHeartbeats 4000000 in
theorem w_M_decode_j170 {p : Program} {l : Launch} {e : Env} {R : Room} {s : State} {m : MethodId} {args : Array Value} {below : List Frame} {meth : Method} {c : Code} {dC : Nat → ClassId} {dI : Nat → Nat → Nat} {cs : Nat → ClassId} {ad : Nat → Nat} {A : Nat → Prop} {D0 : Nat → Nat} {S' : SS} (F : Fx p s m args meth c cX12_decode 10 RX12 none dC dI cs A) (hR1 : 0 ≤ R.frames) (hR2 : 0 ≤ R.locals) (K154 : Int32 → Int32 → Int32 → Int32 → Int32 → Int32 → SS → Option (SS)) (hK154 : ∀ (v0 : Int32) (v1 : Int32) (v2 : Int32) (v3 : Int32) (v4 : Int32) (v5 : Int32) (S : SS), K154 v0 v1 v2 v3 v4 v5 S = some S' → AW p l e R s m args below meth c dC dI cs ad A D0 none S' 10 154 [(0, .ref (ad 0)), (4, .int v0), (5, .int v1), (6, .int v2), (7, .int v3), (8, .int v4), (9, .int v5)] [] S) (x4 : Int32) (x5 : Int32) (x6 : Int32) (x7 : Int32) (x8 : Int32) (x9 : Int32) (S : SS) (h : f_M_decode_j170 K154 x4 x5 x6 x7 x8 x9 S = some S') : AW p l e R s m args below meth c dC dI cs ad A D0 none S' 10 170 [(0, .ref (ad 0)), (4, .int x4), (5, .int x5), (6, .int x6), (7, .int x7), (8, .int x8), (9, .int x9)] [] S := by
  have hx := F.1.1
  have hb := F.1.2.1
  intro H locs ls w hl
  rw [f_M_decode_j170] at h
  refine lv_iload (pc := 170) hx hb dX12_decode_170 (lv_at hl 5 rfl) ?_
  refine lv_iload (pc := 172) hx hb dX12_decode_172 (lv_at hl 1 rfl) ?_
  refine lv_iload (pc := 174) hx hb dX12_decode_174 (lv_at hl 6 rfl) ?_
  refine lv_ishr (pc := 176) hx hb dX12_decode_176 ?_
  refine lv_iconst (pc := 177) (v := 1) hx hb dX12_decode_177 (by decide) ?_
  refine lv_iand (pc := 178) hx hb dX12_decode_178 ?_
  refine lv_iconst (pc := 179) (v := 1) hx hb dX12_decode_179 (by decide) ?_
  refine lv_icmp_ne (pc := 180) (tgt := 187) hx hb dX12_decode_180 (by decide) (fun q => ?_) (fun q => ?_)
  · have h := ite_f q h
    refine lv_iconst (pc := 187) (v := 1) hx hb dX12_decode_187 (by decide) ?_
    exact w_M_decode_j188 F (Nat.le_trans (by decide) hR1) (Nat.le_trans (by decide) hR2) _ hK154 _ _ _ _ _ _ _ _ h _ _ _ w (lv_sub hl [0, 1, 2, 3, 4, 6] rfl)
  · have h := ite_t q h
    refine lv_iconst (pc := 183) (v := 0) hx hb dX12_decode_183 (by decide) ?_
    refine lv_goto (pc := 184) (tgt := 188) hx hb dX12_decode_184 (by decide) ?_
    exact w_M_decode_j188 F (Nat.le_trans (by decide) hR1) (Nat.le_trans (by decide) hR2) _ hK154 _ _ _ _ _ _ _ _ h _ _ _ w (lv_sub hl [0, 1, 2, 3, 4, 6] rfl)
set_option maxRecDepth 100000 in
set_option maxHeartbeats 4000000 in
theorem w_M_decode_L206 {p : Program} {l : Launch} {e : Env} {R : Room} {s : State} {m : MethodId} {args : Array Value} {below : List Frame} {meth : Method} {c : Code} {dC : Nat → ClassId} {dI : Nat → Nat → Nat} {cs : Nat → ClassId} {ad : Nat → Nat} {A : Nat → Prop} {D0 : Nat → Nat} {S' : SS} (F : Fx p s m args meth c cX12_decode 10 RX12 none dC dI cs A) (hR1 : 0 ≤ R.frames) (hR2 : 0 ≤ R.locals) (K133 : Int32 → Int32 → Int32 → Int32 → SS → Option (SS)) (hK133 : ∀ (v0 : Int32) (v1 : Int32) (v2 : Int32) (v3 : Int32) (S : SS), K133 v0 v1 v2 v3 S = some S' → AW p l e R s m args below meth c dC dI cs ad A D0 none S' 10 133 [(0, .ref (ad 0)), (4, .int v0), (5, .int v1), (6, .int v2), (7, .int v3)] [] S) : ∀ (n : Nat) (x4 : Int32) (x5 : Int32) (x6 : Int32) (x7 : Int32) (x9 : Int32) (S : SS), f_M_decode_L206 K133 n x4 x5 x6 x7 x9 S = some S' → AW p l e R s m args below meth c dC dI cs ad A D0 none S' 10 206 [(0, .ref (ad 0)), (4, .int x4), (5, .int x5), (6, .int x6), (7, .int x7), (9, .int x9)] [] S := by
  have hx := F.1.1
  have hb := F.1.2.1
  intro n
  induction n with
  | zero => intro x4 x5 x6 x7 x9 S h; cases h
  | succ n ih =>
    intro x4 x5 x6 x7 x9 S h H locs ls w hl
    rw [f_M_decode_L206] at h
    refine lv_iload (pc := 206) hx hb dX12_decode_206 (lv_at hl 3 rfl) ?_
    refine lv_aload_n (pc := 208) hx hb dX12_decode_208 rfl (lv_at hl 0 rfl) ?_
    refine s_getR (pc := 209) F w 58 ds_0 (j := 86) vc_X12 vi_X12 rfl (by decide) kf_X12_192 dX12_decode_209 ?_
    refine lv_iload (pc := 212) hx hb dX12_decode_212 (lv_at hl 2 rfl) ?_
    refine s_iald (pc := 214) F w ds_58 h dX12_decode_214 (fun h => ?_)
    refine lv_icmp_ne (pc := 215) (tgt := 227) hx hb dX12_decode_215 (by decide) (fun q => ?_) (fun q => ?_)
    · have h := ite_f q h
      refine lv_aload_n (pc := 227) hx hb dX12_decode_227 rfl (lv_at hl 0 rfl) ?_
      refine s_getR (pc := 228) F w 57 ds_0 (j := 85) vc_X12 vi_X12 rfl (by decide) kf_X12_189 dX12_decode_228 ?_
      refine lv_bipush (pc := 231) (v := 10) hx hb dX12_decode_231 (by decide) ?_
      refine lv_iload (pc := 233) hx hb dX12_decode_233 (lv_at hl 2 rfl) ?_
      refine lv_imul (pc := 235) hx hb dX12_decode_235 ?_
      refine lv_iload (pc := 236) hx hb dX12_decode_236 (lv_at hl 3 rfl) ?_
      refine lv_iadd (pc := 238) hx hb dX12_decode_238 ?_
      refine lv_aload_n (pc := 239) hx hb dX12_decode_239 rfl (lv_at hl 0 rfl) ?_
      refine s_getR (pc := 240) F w 54 ds_0 (j := 82) vc_X12 vi_X12 rfl (by decide) kf_X12_180 dX12_decode_240 ?_
      refine lv_iload (pc := 243) hx hb dX12_decode_243 (lv_at hl 5 rfl) ?_
      refine s_iald (pc := 245) F w ds_54 h dX12_decode_245 (fun h => ?_)
      refine s_iast (pc := 246) F w ds_57 h dX12_decode_246 (fun S12 H locs h w => ?_)
      refine s_nm h (fun z13 ez13 h => ?_)
      refine lv_iinc (pc := 247) (v := z13) (lv' := [(6, .int z13), (0, .ref (ad 0)), (4, .int x4), (5, .int x5), (7, .int x7), (9, .int x9)]) hx hb dX12_decode_247 hl (k := 3) rfl (by rw [ez13]; rfl) (by decide) rfl (fun ls hl => ?_)
      refine s_nm h (fun z14 ez14 h => ?_)
      refine lv_iinc (pc := 250) (v := z14) (lv' := [(7, .int z14), (6, .int z13), (0, .ref (ad 0)), (4, .int x4), (5, .int x5), (9, .int x9)]) hx hb dX12_decode_250 hl (k := 4) rfl (by rw [ez14]; rfl) (by decide) rfl (fun ls hl => ?_)
      refine lv_goto (pc := 253) (tgt := 133) hx hb dX12_decode_253 (by decide) ?_
      exact hK133 _ _ _ _ _ h _ _ _ w (lv_sub hl [2, 3, 4, 1, 0] rfl)
    · have h := ite_t q h
      refine s_nm h (fun z15 ez15 h => ?_)
      refine lv_iinc (pc := 218) (v := z15) (lv' := [(5, .int z15), (0, .ref (ad 0)), (4, .int x4), (6, .int x6), (7, .int x7), (9, .int x9)]) hx hb dX12_decode_218 hl (k := 2) rfl (by rw [ez15]; rfl) (by decide) rfl (fun ls hl => ?_)
      refine lv_iconst (pc := 221) (v := 0) hx hb dX12_decode_221 (by decide) ?_
      refine lv_istore (pc := 222) (lv' := [(6, .int (0 : Int32)), (5, .int z15), (0, .ref (ad 0)), (4, .int x4), (7, .int x7), (9, .int x9)]) hx hb dX12_decode_222 hl (by decide) rfl (fun ls hl => ?_)
      refine lv_goto (pc := 224) (tgt := 206) hx hb dX12_decode_224 (by decide) ?_
      exact ih _ _ _ _ _ _ h _ _ _ w (lv_sub hl [2, 3, 1, 0, 4, 5] rfl)
set_option maxRecDepth 100000 in
set_option maxHeartbeats 4000000 in
theorem w_M_decode_L154 {p : Program} {l : Launch} {e : Env} {R : Room} {s : State} {m : MethodId} {args : Array Value} {below : List Frame} {meth : Method} {c : Code} {dC : Nat → ClassId} {dI : Nat → Nat → Nat} {cs : Nat → ClassId} {ad : Nat → Nat} {A : Nat → Prop} {D0 : Nat → Nat} {S' : SS} (F : Fx p s m args meth c cX12_decode 10 RX12 none dC dI cs A) (hR1 : 0 ≤ R.frames) (hR2 : 0 ≤ R.locals) (K133 : Int32 → Int32 → Int32 → Int32 → SS → Option (SS)) (hK133 : ∀ (v0 : Int32) (v1 : Int32) (v2 : Int32) (v3 : Int32) (S : SS), K133 v0 v1 v2 v3 S = some S' → AW p l e R s m args below meth c dC dI cs ad A D0 none S' 10 133 [(0, .ref (ad 0)), (4, .int v0), (5, .int v1), (6, .int v2), (7, .int v3)] [] S) : ∀ (n : Nat) (x4 : Int32) (x5 : Int32) (x6 : Int32) (x7 : Int32) (x8 : Int32) (x9 : Int32) (S : SS), f_M_decode_L154 K133 n x4 x5 x6 x7 x8 x9 S = some S' → AW p l e R s m args below meth c dC dI cs ad A D0 none S' 10 154 [(0, .ref (ad 0)), (4, .int x4), (5, .int x5), (6, .int x6), (7, .int x7), (8, .int x8), (9, .int x9)] [] S := by
  have hx := F.1.1
  have hb := F.1.2.1
  intro n
  induction n with
  | zero => intro x4 x5 x6 x7 x8 x9 S h; cases h
  | succ n ih =>
    intro x4 x5 x6 x7 x8 x9 S h H locs ls w hl
    rw [f_M_decode_L154] at h
    refine lv_iload (pc := 154) hx hb dX12_decode_154 (lv_at hl 1 rfl) ?_
    refine lv_iload (pc := 156) hx hb dX12_decode_156 (lv_at hl 6 rfl) ?_
    refine lv_ishr (pc := 158) hx hb dX12_decode_158 ?_
    refine lv_iconst (pc := 159) (v := 1) hx hb dX12_decode_159 (by decide) ?_
    refine lv_iand (pc := 160) hx hb dX12_decode_160 ?_
    refine lv_iconst (pc := 161) (v := 1) hx hb dX12_decode_161 (by decide) ?_
    refine lv_icmp_eq (pc := 162) (tgt := 170) hx hb dX12_decode_162 (by decide) (fun q => ?_) (fun q => ?_)
    · have h := ite_t q h
      exact w_M_decode_j170 F (Nat.le_trans (by decide) hR1) (Nat.le_trans (by decide) hR2) _ (fun v0 v1 v2 v3 v4 v5 S h => ih v0 v1 v2 v3 v4 v5 S h) _ _ _ _ _ _ _ h _ _ _ w (lv_sub hl [0, 1, 2, 3, 4, 5, 6] rfl)
    · have h := ite_f q h
      refine lv_iload (pc := 165) hx hb dX12_decode_165 (lv_at hl 5 rfl) ?_
      refine lv_if_le (pc := 167) (tgt := 197) hx hb dX12_decode_167 (by decide) (fun q => ?_) (fun q => ?_)
      · have h := ite_t q h
        refine lv_iload (pc := 197) hx hb dX12_decode_197 (lv_at hl 1 rfl) ?_
        refine lv_iconst (pc := 199) (v := 1) hx hb dX12_decode_199 (by decide) ?_
        refine lv_iload (pc := 200) hx hb dX12_decode_200 (lv_at hl 6 rfl) ?_
        refine lv_ishl (pc := 202) hx hb dX12_decode_202 ?_
        refine lv_ior (pc := 203) hx hb dX12_decode_203 ?_
        refine s_nm h (fun z11 ez11 h => ?_)
        rw [← ez11]
        refine lv_istore (pc := 204) (lv' := [(4, .int z11), (0, .ref (ad 0)), (5, .int x5), (6, .int x6), (7, .int x7), (8, .int x8), (9, .int x9)]) hx hb dX12_decode_204 hl (by decide) rfl (fun ls hl => ?_)
        exact w_M_decode_L206 F (Nat.le_trans (by decide) hR1) (Nat.le_trans (by decide) hR2) _ hK133 _ _ _ _ _ _ _ h _ _ _ w (lv_sub hl [1, 0, 2, 3, 4, 6] rfl)
      · have h := ite_f q h
        exact w_M_decode_j170 F (Nat.le_trans (by decide) hR1) (Nat.le_trans (by decide) hR2) _ (fun v0 v1 v2 v3 v4 v5 S h => ih v0 v1 v2 v3 v4 v5 S h) _ _ _ _ _ _ _ h _ _ _ w (lv_sub hl [0, 1, 2, 3, 4, 5, 6] rfl)
set_option maxRecDepth 100000 in
set_option maxHeartbeats 4000000 in
theorem w_M_decode_L133 {p : Program} {l : Launch} {e : Env} {R : Room} {s : State} {m : MethodId} {args : Array Value} {below : List Frame} {meth : Method} {c : Code} {dC : Nat → ClassId} {dI : Nat → Nat → Nat} {cs : Nat → ClassId} {ad : Nat → Nat} {A : Nat → Prop} {D0 : Nat → Nat} {S' : SS} (F : Fx p s m args meth c cX12_decode 10 RX12 none dC dI cs A) (hR1 : 0 ≤ R.frames) (hR2 : 0 ≤ R.locals) : ∀ (n : Nat) (x4 : Int32) (x5 : Int32) (x6 : Int32) (x7 : Int32) (S : SS), f_M_decode_L133 n x4 x5 x6 x7 S = some S' → AW p l e R s m args below meth c dC dI cs ad A D0 none S' 10 133 [(0, .ref (ad 0)), (4, .int x4), (5, .int x5), (6, .int x6), (7, .int x7)] [] S := by
  have hx := F.1.1
  have hb := F.1.2.1
  intro n
  induction n with
  | zero => intro x4 x5 x6 x7 S h; cases h
  | succ n ih =>
    intro x4 x5 x6 x7 S h H locs ls w hl
    rw [f_M_decode_L133] at h
    refine lv_iload (pc := 133) hx hb dX12_decode_133 (lv_at hl 4 rfl) ?_
    refine lv_aload_n (pc := 135) hx hb dX12_decode_135 rfl (lv_at hl 0 rfl) ?_
    refine s_getI (pc := 136) F w ds_0 (j := 81) vc_X12 vi_X12 rfl (by decide) kf_X12_466 dX12_decode_136 ?_
    refine lv_icmp_ge (pc := 139) (tgt := 256) hx hb dX12_decode_139 (by decide) (fun q => ?_) (fun q => ?_)
    · have h := ite_t q h
      exact s_vret F w h dX12_decode_256
    · have h := ite_f q h
      refine lv_aload_n (pc := 142) hx hb dX12_decode_142 rfl (lv_at hl 0 rfl) ?_
      refine s_getR (pc := 143) F w 59 ds_0 (j := 87) vc_X12 vi_X12 rfl (by decide) kf_X12_195 dX12_decode_143 ?_
      refine lv_iload (pc := 146) hx hb dX12_decode_146 (lv_at hl 4 rfl) ?_
      refine s_iald (pc := 148) F w ds_59 h dX12_decode_148 (fun h => ?_)
      refine s_nm h (fun z8 ez8 h => ?_)
      rw [← ez8]
      refine lv_istore (pc := 149) (lv' := [(8, .int z8), (0, .ref (ad 0)), (4, .int x4), (5, .int x5), (6, .int x6), (7, .int x7)]) hx hb dX12_decode_149 hl (by decide) rfl (fun ls hl => ?_)
      refine lv_iconst (pc := 151) (v := 0) hx hb dX12_decode_151 (by decide) ?_
      refine lv_istore (pc := 152) (lv' := [(9, .int (0 : Int32)), (8, .int z8), (0, .ref (ad 0)), (4, .int x4), (5, .int x5), (6, .int x6), (7, .int x7)]) hx hb dX12_decode_152 hl (by decide) rfl (fun ls hl => ?_)
      exact w_M_decode_L154 F (Nat.le_trans (by decide) hR1) (Nat.le_trans (by decide) hR2) _ (fun v0 v1 v2 v3 S h => ih v0 v1 v2 v3 S h) _ _ _ _ _ _ _ _ h _ _ _ w (lv_sub hl [2, 3, 4, 5, 6, 1, 0] rfl)
set_option maxRecDepth 100000 in
set_option maxHeartbeats 4000000 in
theorem w_M_decode_L84 {p : Program} {l : Launch} {e : Env} {R : Room} {s : State} {m : MethodId} {args : Array Value} {below : List Frame} {meth : Method} {c : Code} {dC : Nat → ClassId} {dI : Nat → Nat → Nat} {cs : Nat → ClassId} {ad : Nat → Nat} {A : Nat → Prop} {D0 : Nat → Nat} {S' : SS} (F : Fx p s m args meth c cX12_decode 10 RX12 none dC dI cs A) (hR1 : 0 ≤ R.frames) (hR2 : 0 ≤ R.locals) : ∀ (n : Nat) (x3 : Int32) (x4 : Int32) (S : SS), f_M_decode_L84 n x3 x4 S = some S' → AW p l e R s m args below meth c dC dI cs ad A D0 none S' 10 84 [(0, .ref (ad 0)), (3, .int x3), (4, .int x4)] [] S := by
  have hx := F.1.1
  have hb := F.1.2.1
  intro n
  induction n with
  | zero => intro x3 x4 S h; cases h
  | succ n ih =>
    intro x3 x4 S h H locs ls w hl
    rw [f_M_decode_L84] at h
    refine lv_iload (pc := 84) hx hb dX12_decode_84 (lv_at hl 2 rfl) ?_
    refine lv_if_lt (pc := 86) (tgt := 121) hx hb dX12_decode_86 (by decide) (fun q => ?_) (fun q => ?_)
    · have h := ite_t q h
      refine lv_iconst (pc := 121) (v := 0) hx hb dX12_decode_121 (by decide) ?_
      refine lv_istore (pc := 122) (lv' := [(4, .int (0 : Int32)), (0, .ref (ad 0)), (3, .int x3)]) hx hb dX12_decode_122 hl (by decide) rfl (fun ls hl => ?_)
      refine lv_iconst (pc := 124) (v := 0) hx hb dX12_decode_124 (by decide) ?_
      refine lv_istore (pc := 125) (lv' := [(5, .int (0 : Int32)), (4, .int (0 : Int32)), (0, .ref (ad 0)), (3, .int x3)]) hx hb dX12_decode_125 hl (by decide) rfl (fun ls hl => ?_)
      refine lv_iconst (pc := 127) (v := 0) hx hb dX12_decode_127 (by decide) ?_
      refine lv_istore (pc := 128) (lv' := [(6, .int (0 : Int32)), (5, .int (0 : Int32)), (4, .int (0 : Int32)), (0, .ref (ad 0)), (3, .int x3)]) hx hb dX12_decode_128 hl (by decide) rfl (fun ls hl => ?_)
      refine lv_iconst (pc := 130) (v := 0) hx hb dX12_decode_130 (by decide) ?_
      refine lv_istore (pc := 131) (lv' := [(7, .int (0 : Int32)), (6, .int (0 : Int32)), (5, .int (0 : Int32)), (4, .int (0 : Int32)), (0, .ref (ad 0)), (3, .int x3)]) hx hb dX12_decode_131 hl (by decide) rfl (fun ls hl => ?_)
      exact w_M_decode_L133 F (Nat.le_trans (by decide) hR1) (Nat.le_trans (by decide) hR2) _ _ _ _ _ _ h _ _ _ w (lv_sub hl [4, 3, 2, 1, 0] rfl)
    · have h := ite_f q h
      refine lv_aload_n (pc := 89) hx hb dX12_decode_89 rfl (lv_at hl 0 rfl) ?_
      refine s_getR (pc := 90) F w 59 ds_0 (j := 87) vc_X12 vi_X12 rfl (by decide) kf_X12_195 dX12_decode_90 ?_
      refine lv_iload (pc := 93) hx hb dX12_decode_93 (lv_at hl 2 rfl) ?_
      refine lv_iload_n (pc := 95) hx hb dX12_decode_95 rfl (lv_at hl 1 rfl) ?_
      refine lv_aload_n (pc := 96) hx hb dX12_decode_96 rfl (lv_at hl 0 rfl) ?_
      refine s_getI (pc := 97) F w ds_0 (j := 81) vc_X12 vi_X12 rfl (by decide) kf_X12_466 dX12_decode_97 ?_
      refine lv_iload (pc := 100) hx hb dX12_decode_100 (lv_at hl 2 rfl) ?_
      refine lv_isub (pc := 102) hx hb dX12_decode_102 ?_
      obtain ⟨hd, h⟩ := grd_t h
      refine lv_irem (pc := 103) hx hb dX12_decode_103 (by simpa using hd) ?_
      refine s_iast (pc := 104) F w ds_59 h dX12_decode_104 (fun S16 H locs h w => ?_)
      refine lv_iload_n (pc := 105) hx hb dX12_decode_105 rfl (lv_at hl 1 rfl) ?_
      refine lv_aload_n (pc := 106) hx hb dX12_decode_106 rfl (lv_at hl 0 rfl) ?_
      refine s_getI (pc := 107) F w ds_0 (j := 81) vc_X12 vi_X12 rfl (by decide) kf_X12_466 dX12_decode_107 ?_
      refine lv_iload (pc := 110) hx hb dX12_decode_110 (lv_at hl 2 rfl) ?_
      refine lv_isub (pc := 112) hx hb dX12_decode_112 ?_
      obtain ⟨hd, h⟩ := grd_t h
      refine lv_idiv (pc := 113) hx hb dX12_decode_113 (by simpa using hd) ?_
      refine s_nm h (fun z17 ez17 h => ?_)
      rw [← ez17]
      refine lv_istore_n (pc := 114) (lv' := [(3, .int z17), (0, .ref (ad 0)), (4, .int x4)]) hx hb dX12_decode_114 rfl hl (by decide) rfl (fun ls hl => ?_)
      refine s_nm h (fun z18 ez18 h => ?_)
      refine lv_iinc (pc := 115) (v := z18) (lv' := [(4, .int z18), (3, .int z17), (0, .ref (ad 0))]) hx hb dX12_decode_115 hl (k := 2) rfl (by rw [ez18]; rfl) (by decide) rfl (fun ls hl => ?_)
      refine lv_goto (pc := 118) (tgt := 84) hx hb dX12_decode_118 (by decide) ?_
      exact ih _ _ _ h _ _ _ w (lv_sub hl [2, 1, 0] rfl)
set_option maxRecDepth 100000 in
set_option maxHeartbeats 4000000 in
theorem m_M_decode (a1 : Int32) (S S' : SS) (h : f_M_decode a1 S = some S') : MT yX12_decode cX12_decode 10 none 0 0 (fun ad => [.ref (ad 0), .int a1]) S none S' := by
  refine MT.of RX12 (fun ad => [(0, .ref (ad 0)), (1, .int a1)]) (by decide) rfl (fun _ => Nat.le_of_ble_eq_true rfl) (fun _ => rfl) ?_
  intro p l e R s m args below meth c dC dI cs ad A hR1 hR2 F H locs ls w hl
  have hx := F.1.1
  have hb := F.1.2.1
  rw [f_M_decode] at h
  refine lv_iload_n (pc := 0) hx hb dX12_decode_0 rfl (lv_at hl 1 rfl) ?_
  refine lv_sipush (pc := 1) (v := 216) hx hb dX12_decode_1 (by decide) ?_
  refine lv_irem (pc := 4) hx hb dX12_decode_4 (by decide) ?_
  refine s_nm h (fun z1 ez1 h => ?_)
  rw [← ez1]
  refine lv_istore_n (pc := 5) (lv' := [(2, .int z1), (0, .ref (ad 0)), (1, .int a1)]) hx hb dX12_decode_5 rfl hl (by decide) rfl (fun ls hl => ?_)
  refine lv_aload_n (pc := 6) hx hb dX12_decode_6 rfl (lv_at hl 1 rfl) ?_
  refine s_getR (pc := 7) F w 58 ds_0 (j := 86) vc_X12 vi_X12 rfl (by decide) kf_X12_192 dX12_decode_7 ?_
  refine lv_iconst (pc := 10) (v := 0) hx hb dX12_decode_10 (by decide) ?_
  refine lv_iload_n (pc := 11) hx hb dX12_decode_11 rfl (lv_at hl 0 rfl) ?_
  refine lv_bipush (pc := 12) (v := 36) hx hb dX12_decode_12 (by decide) ?_
  refine lv_idiv (pc := 14) hx hb dX12_decode_14 (by decide) ?_
  refine s_iast (pc := 15) F w ds_58 h dX12_decode_15 (fun S2 H locs h w => ?_)
  refine lv_aload_n (pc := 16) hx hb dX12_decode_16 rfl (lv_at hl 1 rfl) ?_
  refine s_getR (pc := 17) F w 58 ds_0 (j := 86) vc_X12 vi_X12 rfl (by decide) kf_X12_192 dX12_decode_17 ?_
  refine lv_iconst (pc := 20) (v := 1) hx hb dX12_decode_20 (by decide) ?_
  refine lv_iload_n (pc := 21) hx hb dX12_decode_21 rfl (lv_at hl 0 rfl) ?_
  refine lv_bipush (pc := 22) (v := 6) hx hb dX12_decode_22 (by decide) ?_
  refine lv_idiv (pc := 24) hx hb dX12_decode_24 (by decide) ?_
  refine lv_bipush (pc := 25) (v := 6) hx hb dX12_decode_25 (by decide) ?_
  refine lv_irem (pc := 27) hx hb dX12_decode_27 (by decide) ?_
  refine s_iast (pc := 28) F w ds_58 h dX12_decode_28 (fun S3 H locs h w => ?_)
  refine lv_aload_n (pc := 29) hx hb dX12_decode_29 rfl (lv_at hl 1 rfl) ?_
  refine s_getR (pc := 30) F w 58 ds_0 (j := 86) vc_X12 vi_X12 rfl (by decide) kf_X12_192 dX12_decode_30 ?_
  refine lv_iconst (pc := 33) (v := 2) hx hb dX12_decode_33 (by decide) ?_
  refine lv_iload_n (pc := 34) hx hb dX12_decode_34 rfl (lv_at hl 0 rfl) ?_
  refine lv_bipush (pc := 35) (v := 6) hx hb dX12_decode_35 (by decide) ?_
  refine lv_irem (pc := 37) hx hb dX12_decode_37 (by decide) ?_
  refine s_iast (pc := 38) F w ds_58 h dX12_decode_38 (fun S4 H locs h w => ?_)
  refine lv_aload_n (pc := 39) hx hb dX12_decode_39 rfl (lv_at hl 1 rfl) ?_
  refine s_getR (pc := 40) F w 58 ds_0 (j := 86) vc_X12 vi_X12 rfl (by decide) kf_X12_192 dX12_decode_40 ?_
  refine lv_iconst (pc := 43) (v := 3) hx hb dX12_decode_43 (by decide) ?_
  refine lv_aload_n (pc := 44) hx hb dX12_decode_44 rfl (lv_at hl 1 rfl) ?_
  refine s_getI (pc := 45) F w ds_0 (j := 81) vc_X12 vi_X12 rfl (by decide) kf_X12_466 dX12_decode_45 ?_
  refine lv_aload_n (pc := 48) hx hb dX12_decode_48 rfl (lv_at hl 1 rfl) ?_
  refine s_getR (pc := 49) F w 58 ds_0 (j := 86) vc_X12 vi_X12 rfl (by decide) kf_X12_192 dX12_decode_49 ?_
  refine lv_iconst (pc := 52) (v := 0) hx hb dX12_decode_52 (by decide) ?_
  refine s_iald (pc := 53) F w ds_58 h dX12_decode_53 (fun h => ?_)
  refine lv_isub (pc := 54) hx hb dX12_decode_54 ?_
  refine lv_aload_n (pc := 55) hx hb dX12_decode_55 rfl (lv_at hl 1 rfl) ?_
  refine s_getR (pc := 56) F w 58 ds_0 (j := 86) vc_X12 vi_X12 rfl (by decide) kf_X12_192 dX12_decode_56 ?_
  refine lv_iconst (pc := 59) (v := 1) hx hb dX12_decode_59 (by decide) ?_
  refine s_iald (pc := 60) F w ds_58 h dX12_decode_60 (fun h => ?_)
  refine lv_isub (pc := 61) hx hb dX12_decode_61 ?_
  refine lv_aload_n (pc := 62) hx hb dX12_decode_62 rfl (lv_at hl 1 rfl) ?_
  refine s_getR (pc := 63) F w 58 ds_0 (j := 86) vc_X12 vi_X12 rfl (by decide) kf_X12_192 dX12_decode_63 ?_
  refine lv_iconst (pc := 66) (v := 2) hx hb dX12_decode_66 (by decide) ?_
  refine s_iald (pc := 67) F w ds_58 h dX12_decode_67 (fun h => ?_)
  refine lv_isub (pc := 68) hx hb dX12_decode_68 ?_
  refine s_iast (pc := 69) F w ds_58 h dX12_decode_69 (fun S5 H locs h w => ?_)
  refine lv_iload_n (pc := 70) hx hb dX12_decode_70 rfl (lv_at hl 2 rfl) ?_
  refine lv_sipush (pc := 71) (v := 216) hx hb dX12_decode_71 (by decide) ?_
  refine lv_idiv (pc := 74) hx hb dX12_decode_74 (by decide) ?_
  refine s_nm h (fun z6 ez6 h => ?_)
  rw [← ez6]
  refine lv_istore_n (pc := 75) (lv' := [(3, .int z6), (2, .int z1), (0, .ref (ad 0)), (1, .int a1)]) hx hb dX12_decode_75 rfl hl (by decide) rfl (fun ls hl => ?_)
  refine lv_aload_n (pc := 76) hx hb dX12_decode_76 rfl (lv_at hl 2 rfl) ?_
  refine s_getI (pc := 77) F w ds_0 (j := 81) vc_X12 vi_X12 rfl (by decide) kf_X12_466 dX12_decode_77 ?_
  refine lv_iconst (pc := 80) (v := 1) hx hb dX12_decode_80 (by decide) ?_
  refine lv_isub (pc := 81) hx hb dX12_decode_81 ?_
  refine s_nm h (fun z7 ez7 h => ?_)
  rw [← ez7]
  refine lv_istore (pc := 82) (lv' := [(4, .int z7), (3, .int z6), (2, .int z1), (0, .ref (ad 0)), (1, .int a1)]) hx hb dX12_decode_82 hl (by decide) rfl (fun ls hl => ?_)
  exact w_M_decode_L84 F (Nat.le_trans (by decide) hR1) (Nat.le_trans (by decide) hR2) _ _ _ _ h _ _ _ w (lv_sub hl [3, 1, 0] rfl)
def f_M_mayMove (a1 : Int32) (a2 : Int32) (a3 : Int32) (S : SS) : Option (Int32 × SS) :=
  if a1 = a2 then
    some ((0 : Int32), S)
  else
    if a3 < (1 : Int32) then
      some ((0 : Int32), S)
    else
      grd (inb a1 4) (
      if (S.1 58 a1.toNatClampNeg) < a3 then
        some ((0 : Int32), S)
      else
        grd (inb a2 4) (
        grd (inb a2 4) (
        if (S.1 46 a2.toNatClampNeg) < ((S.1 58 a2.toNatClampNeg) + a3) then
          some ((0 : Int32), S)
        else
          some ((1 : Int32), S))))
theorem dX12_mayMove_0 : decode cX12_mayMove 0 = .ok (.iload_n 1, 1) := dc_27 (by decide +kernel)
theorem dX12_mayMove_1 : decode cX12_mayMove 1 = .ok (.iload_n 2, 1) := dc_28 (by decide +kernel)
theorem dX12_mayMove_2 : decode cX12_mayMove 2 = .ok (.if_icmp .eq 39, 3) := dc_159 (a := 0) (b := 39) (by decide +kernel) (by decide)
theorem dX12_mayMove_5 : decode cX12_mayMove 5 = .ok (.iload_n 3, 1) := dc_29 (by decide +kernel)
theorem dX12_mayMove_6 : decode cX12_mayMove 6 = .ok (.iconst 1, 1) := dc_4 (by decide +kernel)
theorem dX12_mayMove_7 : decode cX12_mayMove 7 = .ok (.if_icmp .lt 34, 3) := dc_161 (a := 0) (b := 34) (by decide +kernel) (by decide)
theorem dX12_mayMove_10 : decode cX12_mayMove 10 = .ok (.iload_n 3, 1) := dc_29 (by decide +kernel)
theorem dX12_mayMove_11 : decode cX12_mayMove 11 = .ok (.aload_n 0, 1) := dc_42 (by decide +kernel)
theorem dX12_mayMove_12 : decode cX12_mayMove 12 = .ok (.getfield 192, 3) := dc_180 (a := 0) (b := 192) (by decide +kernel)
theorem dX12_mayMove_15 : decode cX12_mayMove 15 = .ok (.iload_n 1, 1) := dc_27 (by decide +kernel)
theorem dX12_mayMove_16 : decode cX12_mayMove 16 = .ok (.iaload, 1) := dc_46 (by decide +kernel)
theorem dX12_mayMove_17 : decode cX12_mayMove 17 = .ok (.if_icmp .gt 24, 3) := dc_163 (a := 0) (b := 24) (by decide +kernel) (by decide)
theorem dX12_mayMove_20 : decode cX12_mayMove 20 = .ok (.aload_n 0, 1) := dc_42 (by decide +kernel)
theorem dX12_mayMove_21 : decode cX12_mayMove 21 = .ok (.getfield 192, 3) := dc_180 (a := 0) (b := 192) (by decide +kernel)
theorem dX12_mayMove_24 : decode cX12_mayMove 24 = .ok (.iload_n 2, 1) := dc_28 (by decide +kernel)
theorem dX12_mayMove_25 : decode cX12_mayMove 25 = .ok (.iaload, 1) := dc_46 (by decide +kernel)
theorem dX12_mayMove_26 : decode cX12_mayMove 26 = .ok (.iload_n 3, 1) := dc_29 (by decide +kernel)
theorem dX12_mayMove_27 : decode cX12_mayMove 27 = .ok (.iadd, 1) := dc_96 (by decide +kernel)
theorem dX12_mayMove_28 : decode cX12_mayMove 28 = .ok (.aload_n 0, 1) := dc_42 (by decide +kernel)
theorem dX12_mayMove_29 : decode cX12_mayMove 29 = .ok (.getfield 153, 3) := dc_180 (a := 0) (b := 153) (by decide +kernel)
theorem dX12_mayMove_32 : decode cX12_mayMove 32 = .ok (.iload_n 2, 1) := dc_28 (by decide +kernel)
theorem dX12_mayMove_33 : decode cX12_mayMove 33 = .ok (.iaload, 1) := dc_46 (by decide +kernel)
theorem dX12_mayMove_34 : decode cX12_mayMove 34 = .ok (.if_icmp .gt 7, 3) := dc_163 (a := 0) (b := 7) (by decide +kernel) (by decide)
theorem dX12_mayMove_37 : decode cX12_mayMove 37 = .ok (.iconst 1, 1) := dc_4 (by decide +kernel)
theorem dX12_mayMove_38 : decode cX12_mayMove 38 = .ok (.goto 4, 3) := dc_167 (a := 0) (b := 4) (by decide +kernel) (by decide)
theorem dX12_mayMove_41 : decode cX12_mayMove 41 = .ok (.iconst 0, 1) := dc_3 (by decide +kernel)
theorem dX12_mayMove_42 : decode cX12_mayMove 42 = .ok (.ireturn, 1) := dc_172 (by decide +kernel)
set_option maxRecDepth 100000 in
set_option maxHeartbeats 4000000 in
theorem m_M_mayMove (a1 : Int32) (a2 : Int32) (a3 : Int32) (S S' : SS) (r : Int32) (h : f_M_mayMove a1 a2 a3 S = some (r, S')) : MT yX12_mayMove cX12_mayMove 4 (some .boolean) 0 0 (fun ad => [.ref (ad 0), .int a1, .int a2, .int a3]) S (some (.int r)) S' := by
  refine MT.of RX12 (fun ad => [(0, .ref (ad 0)), (1, .int a1), (2, .int a2), (3, .int a3)]) (by decide) rfl (fun _ => Nat.le_of_ble_eq_true rfl) (fun _ => rfl) ?_
  intro p l e R s m args below meth c dC dI cs ad A hR1 hR2 F H locs ls w hl
  have hx := F.1.1
  have hb := F.1.2.1
  rw [f_M_mayMove] at h
  refine lv_iload_n (pc := 0) hx hb dX12_mayMove_0 rfl (lv_at hl 1 rfl) ?_
  refine lv_iload_n (pc := 1) hx hb dX12_mayMove_1 rfl (lv_at hl 2 rfl) ?_
  refine lv_icmp_eq (pc := 2) (tgt := 41) hx hb dX12_mayMove_2 (by decide) (fun q => ?_) (fun q => ?_)
  · have h := ite_t q h
    refine lv_iconst (pc := 41) (v := 0) hx hb dX12_mayMove_41 (by decide) ?_
    exact s_zretc F w rfl h dX12_mayMove_42
  · have h := ite_f q h
    refine lv_iload_n (pc := 5) hx hb dX12_mayMove_5 rfl (lv_at hl 3 rfl) ?_
    refine lv_iconst (pc := 6) (v := 1) hx hb dX12_mayMove_6 (by decide) ?_
    refine lv_icmp_lt (pc := 7) (tgt := 41) hx hb dX12_mayMove_7 (by decide) (fun q => ?_) (fun q => ?_)
    · have h := ite_t q h
      refine lv_iconst (pc := 41) (v := 0) hx hb dX12_mayMove_41 (by decide) ?_
      exact s_zretc F w rfl h dX12_mayMove_42
    · have h := ite_f q h
      refine lv_iload_n (pc := 10) hx hb dX12_mayMove_10 rfl (lv_at hl 3 rfl) ?_
      refine lv_aload_n (pc := 11) hx hb dX12_mayMove_11 rfl (lv_at hl 0 rfl) ?_
      refine s_getR (pc := 12) F w 58 ds_0 (j := 86) vc_X12 vi_X12 rfl (by decide) kf_X12_192 dX12_mayMove_12 ?_
      refine lv_iload_n (pc := 15) hx hb dX12_mayMove_15 rfl (lv_at hl 1 rfl) ?_
      refine s_iald (pc := 16) F w ds_58 h dX12_mayMove_16 (fun h => ?_)
      refine lv_icmp_gt (pc := 17) (tgt := 41) hx hb dX12_mayMove_17 (by decide) (fun q => ?_) (fun q => ?_)
      · have h := ite_t q h
        refine lv_iconst (pc := 41) (v := 0) hx hb dX12_mayMove_41 (by decide) ?_
        exact s_zretc F w rfl h dX12_mayMove_42
      · have h := ite_f q h
        refine lv_aload_n (pc := 20) hx hb dX12_mayMove_20 rfl (lv_at hl 0 rfl) ?_
        refine s_getR (pc := 21) F w 58 ds_0 (j := 86) vc_X12 vi_X12 rfl (by decide) kf_X12_192 dX12_mayMove_21 ?_
        refine lv_iload_n (pc := 24) hx hb dX12_mayMove_24 rfl (lv_at hl 2 rfl) ?_
        refine s_iald (pc := 25) F w ds_58 h dX12_mayMove_25 (fun h => ?_)
        refine lv_iload_n (pc := 26) hx hb dX12_mayMove_26 rfl (lv_at hl 3 rfl) ?_
        refine lv_iadd (pc := 27) hx hb dX12_mayMove_27 ?_
        refine lv_aload_n (pc := 28) hx hb dX12_mayMove_28 rfl (lv_at hl 0 rfl) ?_
        refine s_getR (pc := 29) F w 46 ds_0 (j := 71) vc_X12 vi_X12 rfl (by decide) kf_X12_153 dX12_mayMove_29 ?_
        refine lv_iload_n (pc := 32) hx hb dX12_mayMove_32 rfl (lv_at hl 2 rfl) ?_
        refine s_iald (pc := 33) F w ds_46 h dX12_mayMove_33 (fun h => ?_)
        refine lv_icmp_gt (pc := 34) (tgt := 41) hx hb dX12_mayMove_34 (by decide) (fun q => ?_) (fun q => ?_)
        · have h := ite_t q h
          refine lv_iconst (pc := 41) (v := 0) hx hb dX12_mayMove_41 (by decide) ?_
          exact s_zretc F w rfl h dX12_mayMove_42
        · have h := ite_f q h
          refine lv_iconst (pc := 37) (v := 1) hx hb dX12_mayMove_37 (by decide) ?_
          refine lv_goto (pc := 38) (tgt := 42) hx hb dX12_mayMove_38 (by decide) ?_
          exact s_zretc F w rfl h dX12_mayMove_42
def f_M_shift_L3  : Nat → Int32 → Int32 → Int32 → Int32 → SS → Option (SS)
  | 0, _, _, _, _, _ => none
  | n + 1, x1, x2, x3, x4, S =>
    if x3 ≤ x4 then
      grd (inb x1 4) (
      grd (inb x1 4) (wr S 58 x1.toNatClampNeg ((S.1 58 x1.toNatClampNeg) - x3) (fun S1 =>
      grd (inb x2 4) (
      grd (inb x2 4) (wr S1 58 x2.toNatClampNeg ((S1.1 58 x2.toNatClampNeg) + x3) (fun S2 =>
      some S2))))))
    else
      grd (inb x2 4) (
      grd (inb x1 4) (
      grd (inb (((((10 : Int32) * x1) + (S.1 58 x1.toNatClampNeg)) - x3) + x4) 40) (
      grd (inb ((((10 : Int32) * x2) + (S.1 58 x2.toNatClampNeg)) + x4) 40) (wr S 57 ((((10 : Int32) * x2) + (S.1 58 x2.toNatClampNeg)) + x4).toNatClampNeg (S.1 57 (((((10 : Int32) * x1) + (S.1 58 x1.toNatClampNeg)) - x3) + x4).toNatClampNeg) (fun S3 =>
      nm (x4 + (1 : Int32)) (fun z4 =>
      f_M_shift_L3 n x1 x2 x3 z4 S3))))))
def f_M_shift (a1 : Int32) (a2 : Int32) (a3 : Int32) (S : SS) : Option (SS) :=
  f_M_shift_L3 NF a1 a2 a3 (0 : Int32) S
theorem dX12_shift_0 : decode cX12_shift 0 = .ok (.iconst 0, 1) := dc_3 (by decide +kernel)
theorem dX12_shift_1 : decode cX12_shift 1 = .ok (.istore 4, 2) := dc_54 (a := 4) (by decide +kernel)
theorem dX12_shift_3 : decode cX12_shift 3 = .ok (.iload 4, 2) := dc_21 (a := 4) (by decide +kernel)
theorem dX12_shift_5 : decode cX12_shift 5 = .ok (.iload_n 3, 1) := dc_29 (by decide +kernel)
theorem dX12_shift_6 : decode cX12_shift 6 = .ok (.if_icmp .ge 49, 3) := dc_162 (a := 0) (b := 49) (by decide +kernel) (by decide)
theorem dX12_shift_9 : decode cX12_shift 9 = .ok (.aload_n 0, 1) := dc_42 (by decide +kernel)
theorem dX12_shift_10 : decode cX12_shift 10 = .ok (.getfield 189, 3) := dc_180 (a := 0) (b := 189) (by decide +kernel)
theorem dX12_shift_13 : decode cX12_shift 13 = .ok (.bipush 10, 2) := dc_16 (a := 10) (by decide +kernel) (by decide)
theorem dX12_shift_15 : decode cX12_shift 15 = .ok (.iload_n 2, 1) := dc_28 (by decide +kernel)
theorem dX12_shift_16 : decode cX12_shift 16 = .ok (.imul, 1) := dc_104 (by decide +kernel)
theorem dX12_shift_17 : decode cX12_shift 17 = .ok (.aload_n 0, 1) := dc_42 (by decide +kernel)
theorem dX12_shift_18 : decode cX12_shift 18 = .ok (.getfield 192, 3) := dc_180 (a := 0) (b := 192) (by decide +kernel)
theorem dX12_shift_21 : decode cX12_shift 21 = .ok (.iload_n 2, 1) := dc_28 (by decide +kernel)
theorem dX12_shift_22 : decode cX12_shift 22 = .ok (.iaload, 1) := dc_46 (by decide +kernel)
theorem dX12_shift_23 : decode cX12_shift 23 = .ok (.iadd, 1) := dc_96 (by decide +kernel)
theorem dX12_shift_24 : decode cX12_shift 24 = .ok (.iload 4, 2) := dc_21 (a := 4) (by decide +kernel)
theorem dX12_shift_26 : decode cX12_shift 26 = .ok (.iadd, 1) := dc_96 (by decide +kernel)
theorem dX12_shift_27 : decode cX12_shift 27 = .ok (.aload_n 0, 1) := dc_42 (by decide +kernel)
theorem dX12_shift_28 : decode cX12_shift 28 = .ok (.getfield 189, 3) := dc_180 (a := 0) (b := 189) (by decide +kernel)
theorem dX12_shift_31 : decode cX12_shift 31 = .ok (.bipush 10, 2) := dc_16 (a := 10) (by decide +kernel) (by decide)
theorem dX12_shift_33 : decode cX12_shift 33 = .ok (.iload_n 1, 1) := dc_27 (by decide +kernel)
theorem dX12_shift_34 : decode cX12_shift 34 = .ok (.imul, 1) := dc_104 (by decide +kernel)
theorem dX12_shift_35 : decode cX12_shift 35 = .ok (.aload_n 0, 1) := dc_42 (by decide +kernel)
theorem dX12_shift_36 : decode cX12_shift 36 = .ok (.getfield 192, 3) := dc_180 (a := 0) (b := 192) (by decide +kernel)
theorem dX12_shift_39 : decode cX12_shift 39 = .ok (.iload_n 1, 1) := dc_27 (by decide +kernel)
theorem dX12_shift_40 : decode cX12_shift 40 = .ok (.iaload, 1) := dc_46 (by decide +kernel)
theorem dX12_shift_41 : decode cX12_shift 41 = .ok (.iadd, 1) := dc_96 (by decide +kernel)
theorem dX12_shift_42 : decode cX12_shift 42 = .ok (.iload_n 3, 1) := dc_29 (by decide +kernel)
theorem dX12_shift_43 : decode cX12_shift 43 = .ok (.isub, 1) := dc_100 (by decide +kernel)
theorem dX12_shift_44 : decode cX12_shift 44 = .ok (.iload 4, 2) := dc_21 (a := 4) (by decide +kernel)
theorem dX12_shift_46 : decode cX12_shift 46 = .ok (.iadd, 1) := dc_96 (by decide +kernel)
theorem dX12_shift_47 : decode cX12_shift 47 = .ok (.iaload, 1) := dc_46 (by decide +kernel)
theorem dX12_shift_48 : decode cX12_shift 48 = .ok (.iastore, 1) := dc_79 (by decide +kernel)
theorem dX12_shift_49 : decode cX12_shift 49 = .ok (.iinc 4 1, 3) := dc_132 (a := 4) (b := 1) (by decide +kernel) (by decide)
theorem dX12_shift_52 : decode cX12_shift 52 = .ok (.goto (-49), 3) := dc_167 (a := 255) (b := 207) (by decide +kernel) (by decide)
theorem dX12_shift_55 : decode cX12_shift 55 = .ok (.aload_n 0, 1) := dc_42 (by decide +kernel)
theorem dX12_shift_56 : decode cX12_shift 56 = .ok (.getfield 192, 3) := dc_180 (a := 0) (b := 192) (by decide +kernel)
theorem dX12_shift_59 : decode cX12_shift 59 = .ok (.iload_n 1, 1) := dc_27 (by decide +kernel)
theorem dX12_shift_60 : decode cX12_shift 60 = .ok (.dup2, 1) := dc_92 (by decide +kernel)
theorem dX12_shift_61 : decode cX12_shift 61 = .ok (.iaload, 1) := dc_46 (by decide +kernel)
theorem dX12_shift_62 : decode cX12_shift 62 = .ok (.iload_n 3, 1) := dc_29 (by decide +kernel)
theorem dX12_shift_63 : decode cX12_shift 63 = .ok (.isub, 1) := dc_100 (by decide +kernel)
theorem dX12_shift_64 : decode cX12_shift 64 = .ok (.iastore, 1) := dc_79 (by decide +kernel)
theorem dX12_shift_65 : decode cX12_shift 65 = .ok (.aload_n 0, 1) := dc_42 (by decide +kernel)
theorem dX12_shift_66 : decode cX12_shift 66 = .ok (.getfield 192, 3) := dc_180 (a := 0) (b := 192) (by decide +kernel)
theorem dX12_shift_69 : decode cX12_shift 69 = .ok (.iload_n 2, 1) := dc_28 (by decide +kernel)
theorem dX12_shift_70 : decode cX12_shift 70 = .ok (.dup2, 1) := dc_92 (by decide +kernel)
theorem dX12_shift_71 : decode cX12_shift 71 = .ok (.iaload, 1) := dc_46 (by decide +kernel)
theorem dX12_shift_72 : decode cX12_shift 72 = .ok (.iload_n 3, 1) := dc_29 (by decide +kernel)
theorem dX12_shift_73 : decode cX12_shift 73 = .ok (.iadd, 1) := dc_96 (by decide +kernel)
theorem dX12_shift_74 : decode cX12_shift 74 = .ok (.iastore, 1) := dc_79 (by decide +kernel)
theorem dX12_shift_75 : decode cX12_shift 75 = .ok (.return_, 1) := dc_177 (by decide +kernel)
set_option maxRecDepth 100000 in
set_option maxHeartbeats 4000000 in
theorem w_M_shift_L3 {p : Program} {l : Launch} {e : Env} {R : Room} {s : State} {m : MethodId} {args : Array Value} {below : List Frame} {meth : Method} {c : Code} {dC : Nat → ClassId} {dI : Nat → Nat → Nat} {cs : Nat → ClassId} {ad : Nat → Nat} {A : Nat → Prop} {D0 : Nat → Nat} {S' : SS} (F : Fx p s m args meth c cX12_shift 5 RX12 none dC dI cs A) (hR1 : 0 ≤ R.frames) (hR2 : 0 ≤ R.locals) : ∀ (n : Nat) (x1 : Int32) (x2 : Int32) (x3 : Int32) (x4 : Int32) (S : SS), f_M_shift_L3 n x1 x2 x3 x4 S = some S' → AW p l e R s m args below meth c dC dI cs ad A D0 none S' 5 3 [(0, .ref (ad 0)), (1, .int x1), (2, .int x2), (3, .int x3), (4, .int x4)] [] S := by
  have hx := F.1.1
  have hb := F.1.2.1
  intro n
  induction n with
  | zero => intro x1 x2 x3 x4 S h; cases h
  | succ n ih =>
    intro x1 x2 x3 x4 S h H locs ls w hl
    rw [f_M_shift_L3] at h
    refine lv_iload (pc := 3) hx hb dX12_shift_3 (lv_at hl 4 rfl) ?_
    refine lv_iload_n (pc := 5) hx hb dX12_shift_5 rfl (lv_at hl 3 rfl) ?_
    refine lv_icmp_ge (pc := 6) (tgt := 55) hx hb dX12_shift_6 (by decide) (fun q => ?_) (fun q => ?_)
    · have h := ite_t q h
      refine lv_aload_n (pc := 55) hx hb dX12_shift_55 rfl (lv_at hl 0 rfl) ?_
      refine s_getR (pc := 56) F w 58 ds_0 (j := 86) vc_X12 vi_X12 rfl (by decide) kf_X12_192 dX12_shift_56 ?_
      refine lv_iload_n (pc := 59) hx hb dX12_shift_59 rfl (lv_at hl 1 rfl) ?_
      refine lv_dup2_11 (pc := 60) hx hb dX12_shift_60 rfl rfl ?_
      refine s_iald (pc := 61) F w ds_58 h dX12_shift_61 (fun h => ?_)
      refine lv_iload_n (pc := 62) hx hb dX12_shift_62 rfl (lv_at hl 3 rfl) ?_
      refine lv_isub (pc := 63) hx hb dX12_shift_63 ?_
      refine s_iast (pc := 64) F w ds_58 h dX12_shift_64 (fun S1 H locs h w => ?_)
      refine lv_aload_n (pc := 65) hx hb dX12_shift_65 rfl (lv_at hl 0 rfl) ?_
      refine s_getR (pc := 66) F w 58 ds_0 (j := 86) vc_X12 vi_X12 rfl (by decide) kf_X12_192 dX12_shift_66 ?_
      refine lv_iload_n (pc := 69) hx hb dX12_shift_69 rfl (lv_at hl 2 rfl) ?_
      refine lv_dup2_11 (pc := 70) hx hb dX12_shift_70 rfl rfl ?_
      refine s_iald (pc := 71) F w ds_58 h dX12_shift_71 (fun h => ?_)
      refine lv_iload_n (pc := 72) hx hb dX12_shift_72 rfl (lv_at hl 3 rfl) ?_
      refine lv_iadd (pc := 73) hx hb dX12_shift_73 ?_
      refine s_iast (pc := 74) F w ds_58 h dX12_shift_74 (fun S2 H locs h w => ?_)
      exact s_vret F w h dX12_shift_75
    · have h := ite_f q h
      refine lv_aload_n (pc := 9) hx hb dX12_shift_9 rfl (lv_at hl 0 rfl) ?_
      refine s_getR (pc := 10) F w 57 ds_0 (j := 85) vc_X12 vi_X12 rfl (by decide) kf_X12_189 dX12_shift_10 ?_
      refine lv_bipush (pc := 13) (v := 10) hx hb dX12_shift_13 (by decide) ?_
      refine lv_iload_n (pc := 15) hx hb dX12_shift_15 rfl (lv_at hl 2 rfl) ?_
      refine lv_imul (pc := 16) hx hb dX12_shift_16 ?_
      refine lv_aload_n (pc := 17) hx hb dX12_shift_17 rfl (lv_at hl 0 rfl) ?_
      refine s_getR (pc := 18) F w 58 ds_0 (j := 86) vc_X12 vi_X12 rfl (by decide) kf_X12_192 dX12_shift_18 ?_
      refine lv_iload_n (pc := 21) hx hb dX12_shift_21 rfl (lv_at hl 2 rfl) ?_
      refine s_iald (pc := 22) F w ds_58 h dX12_shift_22 (fun h => ?_)
      refine lv_iadd (pc := 23) hx hb dX12_shift_23 ?_
      refine lv_iload (pc := 24) hx hb dX12_shift_24 (lv_at hl 4 rfl) ?_
      refine lv_iadd (pc := 26) hx hb dX12_shift_26 ?_
      refine lv_aload_n (pc := 27) hx hb dX12_shift_27 rfl (lv_at hl 0 rfl) ?_
      refine s_getR (pc := 28) F w 57 ds_0 (j := 85) vc_X12 vi_X12 rfl (by decide) kf_X12_189 dX12_shift_28 ?_
      refine lv_bipush (pc := 31) (v := 10) hx hb dX12_shift_31 (by decide) ?_
      refine lv_iload_n (pc := 33) hx hb dX12_shift_33 rfl (lv_at hl 1 rfl) ?_
      refine lv_imul (pc := 34) hx hb dX12_shift_34 ?_
      refine lv_aload_n (pc := 35) hx hb dX12_shift_35 rfl (lv_at hl 0 rfl) ?_
      refine s_getR (pc := 36) F w 58 ds_0 (j := 86) vc_X12 vi_X12 rfl (by decide) kf_X12_192 dX12_shift_36 ?_
      refine lv_iload_n (pc := 39) hx hb dX12_shift_39 rfl (lv_at hl 1 rfl) ?_
      refine s_iald (pc := 40) F w ds_58 h dX12_shift_40 (fun h => ?_)
      refine lv_iadd (pc := 41) hx hb dX12_shift_41 ?_
      refine lv_iload_n (pc := 42) hx hb dX12_shift_42 rfl (lv_at hl 3 rfl) ?_
      refine lv_isub (pc := 43) hx hb dX12_shift_43 ?_
      refine lv_iload (pc := 44) hx hb dX12_shift_44 (lv_at hl 4 rfl) ?_
      refine lv_iadd (pc := 46) hx hb dX12_shift_46 ?_
      refine s_iald (pc := 47) F w ds_57 h dX12_shift_47 (fun h => ?_)
      refine s_iast (pc := 48) F w ds_57 h dX12_shift_48 (fun S3 H locs h w => ?_)
      refine s_nm h (fun z4 ez4 h => ?_)
      refine lv_iinc (pc := 49) (v := z4) (lv' := [(4, .int z4), (0, .ref (ad 0)), (1, .int x1), (2, .int x2), (3, .int x3)]) hx hb dX12_shift_49 hl (k := 4) rfl (by rw [ez4]; rfl) (by decide) rfl (fun ls hl => ?_)
      refine lv_goto (pc := 52) (tgt := 3) hx hb dX12_shift_52 (by decide) ?_
      exact ih _ _ _ _ _ h _ _ _ w (lv_sub hl [1, 2, 3, 4, 0] rfl)
set_option maxRecDepth 100000 in
set_option maxHeartbeats 4000000 in
theorem m_M_shift (a1 : Int32) (a2 : Int32) (a3 : Int32) (S S' : SS) (h : f_M_shift a1 a2 a3 S = some S') : MT yX12_shift cX12_shift 5 none 0 0 (fun ad => [.ref (ad 0), .int a1, .int a2, .int a3]) S none S' := by
  refine MT.of RX12 (fun ad => [(0, .ref (ad 0)), (1, .int a1), (2, .int a2), (3, .int a3)]) (by decide) rfl (fun _ => Nat.le_of_ble_eq_true rfl) (fun _ => rfl) ?_
  intro p l e R s m args below meth c dC dI cs ad A hR1 hR2 F H locs ls w hl
  have hx := F.1.1
  have hb := F.1.2.1
  rw [f_M_shift] at h
  refine lv_iconst (pc := 0) (v := 0) hx hb dX12_shift_0 (by decide) ?_
  refine lv_istore (pc := 1) (lv' := [(4, .int (0 : Int32)), (0, .ref (ad 0)), (1, .int a1), (2, .int a2), (3, .int a3)]) hx hb dX12_shift_1 hl (by decide) rfl (fun ls hl => ?_)
  exact w_M_shift_L3 F (Nat.le_trans (by decide) hR1) (Nat.le_trans (by decide) hR2) _ _ _ _ _ _ h _ _ _ w (lv_sub hl [1, 2, 3, 4, 0] rfl)
def f_M_measure_j236 (K124 : Int32 → Int32 → Int32 → SS → Option (SS)) (x1 : Int32) (x2 : Int32) (x3 : Int32) (S : SS) : Option (SS) :=
    nm (x3 + (1 : Int32)) (fun z21 =>
    K124 x1 x2 z21 S)
def f_M_measure_L124 (K107 : Int32 → Int32 → SS → Option (SS)) : Nat → Int32 → Int32 → Int32 → SS → Option (SS)
  | 0, _, _, _, _ => none
  | n + 1, x1, x2, x3, S =>
    if (80 : Int32) ≤ x3 then
      nm (x2 + (1 : Int32)) (fun z8 =>
      K107 x1 z8 S)
    else
      nm (x3 / (20 : Int32)) (fun z9 =>
      nm ((x3 / (5 : Int32)) - (x3 / (5 : Int32)) / (4 : Int32) * (4 : Int32)) (fun z10 =>
      nm ((x3 - x3 / (5 : Int32) * (5 : Int32)) + (1 : Int32)) (fun z11 =>
      bnd (f_M_mayMove z9 z10 z11 S) (fun r13 S12 =>
      if r13 = 0 then
        f_M_measure_j236 (fun v0 v1 v2 S => f_M_measure_L124 K107 n v0 v1 v2 S) x1 x2 x3 S12
      else
        bndv (f_M_shift z9 z10 z11 S12) (fun S14 =>
        bnd (f_M_code  S14) (fun r16 S15 =>
        bndv (f_M_shift z10 z9 z11 S15) (fun S17 =>
        grd (inb r16 25920) (
        if (S17.1 55 r16.toNatClampNeg) < 0 then
          grd (inb x2 6720) (
          grd (inb (S17.1 60 x2.toNatClampNeg) 25920) (
          grd (inb r16 25920) (wr S17 55 r16.toNatClampNeg ((S17.1 55 (S17.1 60 x2.toNatClampNeg).toNatClampNeg) + (1 : Int32)) (fun S18 =>
          grd (inb x1 6720) (wr S18 60 x1.toNatClampNeg r16 (fun S19 =>
          nm (x1 + (1 : Int32)) (fun z20 =>
          f_M_measure_j236 (fun v0 v1 v2 S => f_M_measure_L124 K107 n v0 v1 v2 S) z20 x2 x3 S19)))))))
        else
          f_M_measure_j236 (fun v0 v1 v2 S => f_M_measure_L124 K107 n v0 v1 v2 S) x1 x2 x3 S17))))))))
def f_M_measure_L107  : Nat → Int32 → Int32 → SS → Option (SS)
  | 0, _, _, _ => none
  | n + 1, x1, x2, S =>
    if x1 ≤ x2 then
      some S
    else
      grd (inb x2 6720) (
      bndv (f_M_decode (S.1 60 x2.toNatClampNeg) S) (fun S7 =>
      f_M_measure_L124 (fun v0 v1 S => f_M_measure_L107 n v0 v1 S) NF x1 x2 (0 : Int32) S7))
def f_M_measure_L56  : Nat → Int32 → SS → Option (SS)
  | 0, _, _ => none
  | n + 1, x1, S =>
    if (25920 : Int32) ≤ x1 then
      bndv (f_M_take (1 : Int32) S) (fun S2 =>
      bnd (f_M_code  S2) (fun r4 S3 =>
      grd (inb (0 : Int32) 6720) (wr S3 60 (0 : Int32).toNatClampNeg r4 (fun S5 =>
      grd (inb (0 : Int32) 6720) (
      grd (inb (S5.1 60 (0 : Int32).toNatClampNeg) 25920) (wr S5 55 (S5.1 60 (0 : Int32).toNatClampNeg).toNatClampNeg (0 : Int32) (fun S6 =>
      f_M_measure_L107 NF (1 : Int32) (0 : Int32) S6)))))))
    else
      grd (inb x1 25920) (wr S 55 x1.toNatClampNeg (-1 : Int32) (fun S22 =>
      nm (x1 + (1 : Int32)) (fun z23 =>
      f_M_measure_L56 n z23 S22)))
def f_M_measure_j48 (K7 : Int32 → SS → Option (SS)) (x1 : Int32) (S : SS) : Option (SS) :=
    nm (x1 + (1 : Int32)) (fun z26 =>
    K7 z26 S)
def f_M_measure_L7  : Nat → Int32 → SS → Option (SS)
  | 0, _, _ => none
  | n + 1, x1, S =>
    if (10 : Int32) ≤ x1 then
      f_M_measure_L56 NF (0 : Int32) S
    else
      bnd (f_M_has_M_goalMany_M_goalOn x1 S) (fun r25 S24 =>
      if r25 = 0 then
        f_M_measure_j48 (fun v0 S => f_M_measure_L7 n v0 S) x1 S24
      else
        grd (inb (S24.1 0 81) 10) (wr S24 54 (S24.1 0 81).toNatClampNeg x1 (fun S27 =>
        wr S27 0 81 ((S27.1 0 81) + (1 : Int32)) (fun S28 =>
        f_M_measure_j48 (fun v0 S => f_M_measure_L7 n v0 S) x1 S28))))
def f_M_measure  (S : SS) : Option (SS) :=
  wr S 0 81 (0 : Int32) (fun S1 =>
  f_M_measure_L7 NF (0 : Int32) S1)
theorem dX12_measure_0 : decode cX12_measure 0 = .ok (.aload_n 0, 1) := dc_42 (by decide +kernel)
theorem dX12_measure_1 : decode cX12_measure 1 = .ok (.iconst 0, 1) := dc_3 (by decide +kernel)
theorem dX12_measure_2 : decode cX12_measure 2 = .ok (.putfield 466, 3) := dc_181 (a := 1) (b := 210) (by decide +kernel)
theorem dX12_measure_5 : decode cX12_measure 5 = .ok (.iconst 0, 1) := dc_3 (by decide +kernel)
theorem dX12_measure_6 : decode cX12_measure 6 = .ok (.istore_n 1, 1) := dc_60 (by decide +kernel)
theorem dX12_measure_7 : decode cX12_measure 7 = .ok (.iload_n 1, 1) := dc_27 (by decide +kernel)
theorem dX12_measure_8 : decode cX12_measure 8 = .ok (.bipush 10, 2) := dc_16 (a := 10) (by decide +kernel) (by decide)
theorem dX12_measure_10 : decode cX12_measure 10 = .ok (.if_icmp .ge 44, 3) := dc_162 (a := 0) (b := 44) (by decide +kernel) (by decide)
theorem dX12_measure_13 : decode cX12_measure 13 = .ok (.aload_n 0, 1) := dc_42 (by decide +kernel)
theorem dX12_measure_14 : decode cX12_measure 14 = .ok (.getfield 162, 3) := dc_180 (a := 0) (b := 162) (by decide +kernel)
theorem dX12_measure_17 : decode cX12_measure 17 = .ok (.aload_n 0, 1) := dc_42 (by decide +kernel)
theorem dX12_measure_18 : decode cX12_measure 18 = .ok (.getfield 165, 3) := dc_180 (a := 0) (b := 165) (by decide +kernel)
theorem dX12_measure_21 : decode cX12_measure 21 = .ok (.iload_n 1, 1) := dc_27 (by decide +kernel)
theorem dX12_measure_22 : decode cX12_measure 22 = .ok (.invokestatic 451, 3) := dc_184 (a := 1) (b := 195) (by decide +kernel)
theorem dX12_measure_25 : decode cX12_measure 25 = .ok (.ifCond .eq 23, 3) := dc_153 (a := 0) (b := 23) (by decide +kernel) (by decide)
theorem dX12_measure_28 : decode cX12_measure 28 = .ok (.aload_n 0, 1) := dc_42 (by decide +kernel)
theorem dX12_measure_29 : decode cX12_measure 29 = .ok (.getfield 180, 3) := dc_180 (a := 0) (b := 180) (by decide +kernel)
theorem dX12_measure_32 : decode cX12_measure 32 = .ok (.aload_n 0, 1) := dc_42 (by decide +kernel)
theorem dX12_measure_33 : decode cX12_measure 33 = .ok (.getfield 466, 3) := dc_180 (a := 1) (b := 210) (by decide +kernel)
theorem dX12_measure_36 : decode cX12_measure 36 = .ok (.iload_n 1, 1) := dc_27 (by decide +kernel)
theorem dX12_measure_37 : decode cX12_measure 37 = .ok (.iastore, 1) := dc_79 (by decide +kernel)
theorem dX12_measure_38 : decode cX12_measure 38 = .ok (.aload_n 0, 1) := dc_42 (by decide +kernel)
theorem dX12_measure_39 : decode cX12_measure 39 = .ok (.dup, 1) := dc_89 (by decide +kernel)
theorem dX12_measure_40 : decode cX12_measure 40 = .ok (.getfield 466, 3) := dc_180 (a := 1) (b := 210) (by decide +kernel)
theorem dX12_measure_43 : decode cX12_measure 43 = .ok (.iconst 1, 1) := dc_4 (by decide +kernel)
theorem dX12_measure_44 : decode cX12_measure 44 = .ok (.iadd, 1) := dc_96 (by decide +kernel)
theorem dX12_measure_45 : decode cX12_measure 45 = .ok (.putfield 466, 3) := dc_181 (a := 1) (b := 210) (by decide +kernel)
theorem dX12_measure_48 : decode cX12_measure 48 = .ok (.iinc 1 1, 3) := dc_132 (a := 1) (b := 1) (by decide +kernel) (by decide)
theorem dX12_measure_51 : decode cX12_measure 51 = .ok (.goto (-44), 3) := dc_167 (a := 255) (b := 212) (by decide +kernel) (by decide)
theorem dX12_measure_54 : decode cX12_measure 54 = .ok (.iconst 0, 1) := dc_3 (by decide +kernel)
theorem dX12_measure_55 : decode cX12_measure 55 = .ok (.istore_n 1, 1) := dc_60 (by decide +kernel)
theorem dX12_measure_56 : decode cX12_measure 56 = .ok (.iload_n 1, 1) := dc_27 (by decide +kernel)
theorem dX12_measure_57 : decode cX12_measure 57 = .ok (.sipush 25920, 3) := dc_17 (a := 101) (b := 64) (by decide +kernel) (by decide)
theorem dX12_measure_60 : decode cX12_measure 60 = .ok (.if_icmp .ge 16, 3) := dc_162 (a := 0) (b := 16) (by decide +kernel) (by decide)
theorem dX12_measure_63 : decode cX12_measure 63 = .ok (.aload_n 0, 1) := dc_42 (by decide +kernel)
theorem dX12_measure_64 : decode cX12_measure 64 = .ok (.getfield 183, 3) := dc_180 (a := 0) (b := 183) (by decide +kernel)
theorem dX12_measure_67 : decode cX12_measure 67 = .ok (.iload_n 1, 1) := dc_27 (by decide +kernel)
theorem dX12_measure_68 : decode cX12_measure 68 = .ok (.iconst (-1), 1) := dc_2 (by decide +kernel)
theorem dX12_measure_69 : decode cX12_measure 69 = .ok (.iastore, 1) := dc_79 (by decide +kernel)
theorem dX12_measure_70 : decode cX12_measure 70 = .ok (.iinc 1 1, 3) := dc_132 (a := 1) (b := 1) (by decide +kernel) (by decide)
theorem dX12_measure_73 : decode cX12_measure 73 = .ok (.goto (-17), 3) := dc_167 (a := 255) (b := 239) (by decide +kernel) (by decide)
theorem dX12_measure_76 : decode cX12_measure 76 = .ok (.aload_n 0, 1) := dc_42 (by decide +kernel)
theorem dX12_measure_77 : decode cX12_measure 77 = .ok (.iconst 1, 1) := dc_4 (by decide +kernel)
theorem dX12_measure_78 : decode cX12_measure 78 = .ok (.invokevirtual 472, 3) := dc_182 (a := 1) (b := 216) (by decide +kernel)
theorem dX12_measure_81 : decode cX12_measure 81 = .ok (.aload_n 0, 1) := dc_42 (by decide +kernel)
theorem dX12_measure_82 : decode cX12_measure 82 = .ok (.getfield 198, 3) := dc_180 (a := 0) (b := 198) (by decide +kernel)
theorem dX12_measure_85 : decode cX12_measure 85 = .ok (.iconst 0, 1) := dc_3 (by decide +kernel)
theorem dX12_measure_86 : decode cX12_measure 86 = .ok (.aload_n 0, 1) := dc_42 (by decide +kernel)
theorem dX12_measure_87 : decode cX12_measure 87 = .ok (.invokevirtual 476, 3) := dc_182 (a := 1) (b := 220) (by decide +kernel)
theorem dX12_measure_90 : decode cX12_measure 90 = .ok (.iastore, 1) := dc_79 (by decide +kernel)
theorem dX12_measure_91 : decode cX12_measure 91 = .ok (.aload_n 0, 1) := dc_42 (by decide +kernel)
theorem dX12_measure_92 : decode cX12_measure 92 = .ok (.getfield 183, 3) := dc_180 (a := 0) (b := 183) (by decide +kernel)
theorem dX12_measure_95 : decode cX12_measure 95 = .ok (.aload_n 0, 1) := dc_42 (by decide +kernel)
theorem dX12_measure_96 : decode cX12_measure 96 = .ok (.getfield 198, 3) := dc_180 (a := 0) (b := 198) (by decide +kernel)
theorem dX12_measure_99 : decode cX12_measure 99 = .ok (.iconst 0, 1) := dc_3 (by decide +kernel)
theorem dX12_measure_100 : decode cX12_measure 100 = .ok (.iaload, 1) := dc_46 (by decide +kernel)
theorem dX12_measure_101 : decode cX12_measure 101 = .ok (.iconst 0, 1) := dc_3 (by decide +kernel)
theorem dX12_measure_102 : decode cX12_measure 102 = .ok (.iastore, 1) := dc_79 (by decide +kernel)
theorem dX12_measure_103 : decode cX12_measure 103 = .ok (.iconst 1, 1) := dc_4 (by decide +kernel)
theorem dX12_measure_104 : decode cX12_measure 104 = .ok (.istore_n 1, 1) := dc_60 (by decide +kernel)
theorem dX12_measure_105 : decode cX12_measure 105 = .ok (.iconst 0, 1) := dc_3 (by decide +kernel)
theorem dX12_measure_106 : decode cX12_measure 106 = .ok (.istore_n 2, 1) := dc_61 (by decide +kernel)
theorem dX12_measure_107 : decode cX12_measure 107 = .ok (.iload_n 2, 1) := dc_28 (by decide +kernel)
theorem dX12_measure_108 : decode cX12_measure 108 = .ok (.iload_n 1, 1) := dc_27 (by decide +kernel)
theorem dX12_measure_109 : decode cX12_measure 109 = .ok (.if_icmp .ge 139, 3) := dc_162 (a := 0) (b := 139) (by decide +kernel) (by decide)
theorem dX12_measure_112 : decode cX12_measure 112 = .ok (.aload_n 0, 1) := dc_42 (by decide +kernel)
theorem dX12_measure_113 : decode cX12_measure 113 = .ok (.aload_n 0, 1) := dc_42 (by decide +kernel)
theorem dX12_measure_114 : decode cX12_measure 114 = .ok (.getfield 198, 3) := dc_180 (a := 0) (b := 198) (by decide +kernel)
theorem dX12_measure_117 : decode cX12_measure 117 = .ok (.iload_n 2, 1) := dc_28 (by decide +kernel)
theorem dX12_measure_118 : decode cX12_measure 118 = .ok (.iaload, 1) := dc_46 (by decide +kernel)
theorem dX12_measure_119 : decode cX12_measure 119 = .ok (.invokevirtual 479, 3) := dc_182 (a := 1) (b := 223) (by decide +kernel)
theorem dX12_measure_122 : decode cX12_measure 122 = .ok (.iconst 0, 1) := dc_3 (by decide +kernel)
theorem dX12_measure_123 : decode cX12_measure 123 = .ok (.istore_n 3, 1) := dc_62 (by decide +kernel)
theorem dX12_measure_124 : decode cX12_measure 124 = .ok (.iload_n 3, 1) := dc_29 (by decide +kernel)
theorem dX12_measure_125 : decode cX12_measure 125 = .ok (.bipush 80, 2) := dc_16 (a := 80) (by decide +kernel) (by decide)
theorem dX12_measure_127 : decode cX12_measure 127 = .ok (.if_icmp .ge 115, 3) := dc_162 (a := 0) (b := 115) (by decide +kernel) (by decide)
theorem dX12_measure_130 : decode cX12_measure 130 = .ok (.iload_n 3, 1) := dc_29 (by decide +kernel)
theorem dX12_measure_131 : decode cX12_measure 131 = .ok (.bipush 20, 2) := dc_16 (a := 20) (by decide +kernel) (by decide)
theorem dX12_measure_133 : decode cX12_measure 133 = .ok (.idiv, 1) := dc_108 (by decide +kernel)
theorem dX12_measure_134 : decode cX12_measure 134 = .ok (.istore 4, 2) := dc_54 (a := 4) (by decide +kernel)
theorem dX12_measure_136 : decode cX12_measure 136 = .ok (.iload_n 3, 1) := dc_29 (by decide +kernel)
theorem dX12_measure_137 : decode cX12_measure 137 = .ok (.iconst 5, 1) := dc_8 (by decide +kernel)
theorem dX12_measure_138 : decode cX12_measure 138 = .ok (.idiv, 1) := dc_108 (by decide +kernel)
theorem dX12_measure_139 : decode cX12_measure 139 = .ok (.iconst 4, 1) := dc_7 (by decide +kernel)
theorem dX12_measure_140 : decode cX12_measure 140 = .ok (.irem, 1) := dc_112 (by decide +kernel)
theorem dX12_measure_141 : decode cX12_measure 141 = .ok (.istore 5, 2) := dc_54 (a := 5) (by decide +kernel)
theorem dX12_measure_143 : decode cX12_measure 143 = .ok (.iload_n 3, 1) := dc_29 (by decide +kernel)
theorem dX12_measure_144 : decode cX12_measure 144 = .ok (.iconst 5, 1) := dc_8 (by decide +kernel)
theorem dX12_measure_145 : decode cX12_measure 145 = .ok (.irem, 1) := dc_112 (by decide +kernel)
theorem dX12_measure_146 : decode cX12_measure 146 = .ok (.iconst 1, 1) := dc_4 (by decide +kernel)
theorem dX12_measure_147 : decode cX12_measure 147 = .ok (.iadd, 1) := dc_96 (by decide +kernel)
theorem dX12_measure_148 : decode cX12_measure 148 = .ok (.istore 6, 2) := dc_54 (a := 6) (by decide +kernel)
theorem dX12_measure_150 : decode cX12_measure 150 = .ok (.aload_n 0, 1) := dc_42 (by decide +kernel)
theorem dX12_measure_151 : decode cX12_measure 151 = .ok (.iload 4, 2) := dc_21 (a := 4) (by decide +kernel)
theorem dX12_measure_153 : decode cX12_measure 153 = .ok (.iload 5, 2) := dc_21 (a := 5) (by decide +kernel)
theorem dX12_measure_155 : decode cX12_measure 155 = .ok (.iload 6, 2) := dc_21 (a := 6) (by decide +kernel)
theorem dX12_measure_157 : decode cX12_measure 157 = .ok (.invokevirtual 482, 3) := dc_182 (a := 1) (b := 226) (by decide +kernel)
theorem dX12_measure_160 : decode cX12_measure 160 = .ok (.ifCond .ne 6, 3) := dc_154 (a := 0) (b := 6) (by decide +kernel) (by decide)
theorem dX12_measure_163 : decode cX12_measure 163 = .ok (.goto 73, 3) := dc_167 (a := 0) (b := 73) (by decide +kernel) (by decide)
theorem dX12_measure_166 : decode cX12_measure 166 = .ok (.aload_n 0, 1) := dc_42 (by decide +kernel)
theorem dX12_measure_167 : decode cX12_measure 167 = .ok (.iload 4, 2) := dc_21 (a := 4) (by decide +kernel)
theorem dX12_measure_169 : decode cX12_measure 169 = .ok (.iload 5, 2) := dc_21 (a := 5) (by decide +kernel)
theorem dX12_measure_171 : decode cX12_measure 171 = .ok (.iload 6, 2) := dc_21 (a := 6) (by decide +kernel)
theorem dX12_measure_173 : decode cX12_measure 173 = .ok (.invokevirtual 485, 3) := dc_182 (a := 1) (b := 229) (by decide +kernel)
theorem dX12_measure_176 : decode cX12_measure 176 = .ok (.aload_n 0, 1) := dc_42 (by decide +kernel)
theorem dX12_measure_177 : decode cX12_measure 177 = .ok (.invokevirtual 476, 3) := dc_182 (a := 1) (b := 220) (by decide +kernel)
theorem dX12_measure_180 : decode cX12_measure 180 = .ok (.istore 7, 2) := dc_54 (a := 7) (by decide +kernel)
theorem dX12_measure_182 : decode cX12_measure 182 = .ok (.aload_n 0, 1) := dc_42 (by decide +kernel)
theorem dX12_measure_183 : decode cX12_measure 183 = .ok (.iload 5, 2) := dc_21 (a := 5) (by decide +kernel)
theorem dX12_measure_185 : decode cX12_measure 185 = .ok (.iload 4, 2) := dc_21 (a := 4) (by decide +kernel)
theorem dX12_measure_187 : decode cX12_measure 187 = .ok (.iload 6, 2) := dc_21 (a := 6) (by decide +kernel)
theorem dX12_measure_189 : decode cX12_measure 189 = .ok (.invokevirtual 485, 3) := dc_182 (a := 1) (b := 229) (by decide +kernel)
theorem dX12_measure_192 : decode cX12_measure 192 = .ok (.aload_n 0, 1) := dc_42 (by decide +kernel)
theorem dX12_measure_193 : decode cX12_measure 193 = .ok (.getfield 183, 3) := dc_180 (a := 0) (b := 183) (by decide +kernel)
theorem dX12_measure_196 : decode cX12_measure 196 = .ok (.iload 7, 2) := dc_21 (a := 7) (by decide +kernel)
theorem dX12_measure_198 : decode cX12_measure 198 = .ok (.iaload, 1) := dc_46 (by decide +kernel)
theorem dX12_measure_199 : decode cX12_measure 199 = .ok (.ifCond .lt 6, 3) := dc_155 (a := 0) (b := 6) (by decide +kernel) (by decide)
theorem dX12_measure_202 : decode cX12_measure 202 = .ok (.goto 34, 3) := dc_167 (a := 0) (b := 34) (by decide +kernel) (by decide)
theorem dX12_measure_205 : decode cX12_measure 205 = .ok (.aload_n 0, 1) := dc_42 (by decide +kernel)
theorem dX12_measure_206 : decode cX12_measure 206 = .ok (.getfield 183, 3) := dc_180 (a := 0) (b := 183) (by decide +kernel)
theorem dX12_measure_209 : decode cX12_measure 209 = .ok (.iload 7, 2) := dc_21 (a := 7) (by decide +kernel)
theorem dX12_measure_211 : decode cX12_measure 211 = .ok (.aload_n 0, 1) := dc_42 (by decide +kernel)
theorem dX12_measure_212 : decode cX12_measure 212 = .ok (.getfield 183, 3) := dc_180 (a := 0) (b := 183) (by decide +kernel)
theorem dX12_measure_215 : decode cX12_measure 215 = .ok (.aload_n 0, 1) := dc_42 (by decide +kernel)
theorem dX12_measure_216 : decode cX12_measure 216 = .ok (.getfield 198, 3) := dc_180 (a := 0) (b := 198) (by decide +kernel)
theorem dX12_measure_219 : decode cX12_measure 219 = .ok (.iload_n 2, 1) := dc_28 (by decide +kernel)
theorem dX12_measure_220 : decode cX12_measure 220 = .ok (.iaload, 1) := dc_46 (by decide +kernel)
theorem dX12_measure_221 : decode cX12_measure 221 = .ok (.iaload, 1) := dc_46 (by decide +kernel)
theorem dX12_measure_222 : decode cX12_measure 222 = .ok (.iconst 1, 1) := dc_4 (by decide +kernel)
theorem dX12_measure_223 : decode cX12_measure 223 = .ok (.iadd, 1) := dc_96 (by decide +kernel)
theorem dX12_measure_224 : decode cX12_measure 224 = .ok (.iastore, 1) := dc_79 (by decide +kernel)
theorem dX12_measure_225 : decode cX12_measure 225 = .ok (.aload_n 0, 1) := dc_42 (by decide +kernel)
theorem dX12_measure_226 : decode cX12_measure 226 = .ok (.getfield 198, 3) := dc_180 (a := 0) (b := 198) (by decide +kernel)
theorem dX12_measure_229 : decode cX12_measure 229 = .ok (.iload_n 1, 1) := dc_27 (by decide +kernel)
theorem dX12_measure_230 : decode cX12_measure 230 = .ok (.iload 7, 2) := dc_21 (a := 7) (by decide +kernel)
theorem dX12_measure_232 : decode cX12_measure 232 = .ok (.iastore, 1) := dc_79 (by decide +kernel)
theorem dX12_measure_233 : decode cX12_measure 233 = .ok (.iinc 1 1, 3) := dc_132 (a := 1) (b := 1) (by decide +kernel) (by decide)
theorem dX12_measure_236 : decode cX12_measure 236 = .ok (.iinc 3 1, 3) := dc_132 (a := 3) (b := 1) (by decide +kernel) (by decide)
theorem dX12_measure_239 : decode cX12_measure 239 = .ok (.goto (-115), 3) := dc_167 (a := 255) (b := 141) (by decide +kernel) (by decide)
theorem dX12_measure_242 : decode cX12_measure 242 = .ok (.iinc 2 1, 3) := dc_132 (a := 2) (b := 1) (by decide +kernel) (by decide)
theorem dX12_measure_245 : decode cX12_measure 245 = .ok (.goto (-138), 3) := dc_167 (a := 255) (b := 118) (by decide +kernel) (by decide)
theorem dX12_measure_248 : decode cX12_measure 248 = .ok (.return_, 1) := dc_177 (by decide +kernel)
set_option maxRecDepth 100000 in
set_option maxHeartbeats 4000000 in
theorem w_M_measure_j236 {p : Program} {l : Launch} {e : Env} {R : Room} {s : State} {m : MethodId} {args : Array Value} {below : List Frame} {meth : Method} {c : Code} {dC : Nat → ClassId} {dI : Nat → Nat → Nat} {cs : Nat → ClassId} {ad : Nat → Nat} {A : Nat → Prop} {D0 : Nat → Nat} {S' : SS} (F : Fx p s m args meth c cX12_measure 8 RX12 none dC dI cs A) (hR1 : 0 ≤ R.frames) (hR2 : 0 ≤ R.locals) (K124 : Int32 → Int32 → Int32 → SS → Option (SS)) (hK124 : ∀ (v0 : Int32) (v1 : Int32) (v2 : Int32) (S : SS), K124 v0 v1 v2 S = some S' → AW p l e R s m args below meth c dC dI cs ad A D0 none S' 8 124 [(0, .ref (ad 0)), (1, .int v0), (2, .int v1), (3, .int v2)] [] S) (x1 : Int32) (x2 : Int32) (x3 : Int32) (S : SS) (h : f_M_measure_j236 K124 x1 x2 x3 S = some S') : AW p l e R s m args below meth c dC dI cs ad A D0 none S' 8 236 [(0, .ref (ad 0)), (1, .int x1), (2, .int x2), (3, .int x3)] [] S := by
  have hx := F.1.1
  have hb := F.1.2.1
  intro H locs ls w hl
  rw [f_M_measure_j236] at h
  refine s_nm h (fun z21 ez21 h => ?_)
  refine lv_iinc (pc := 236) (v := z21) (lv' := [(3, .int z21), (0, .ref (ad 0)), (1, .int x1), (2, .int x2)]) hx hb dX12_measure_236 hl (k := 3) rfl (by rw [ez21]; rfl) (by decide) rfl (fun ls hl => ?_)
  refine lv_goto (pc := 239) (tgt := 124) hx hb dX12_measure_239 (by decide) ?_
  exact hK124 _ _ _ _ h _ _ _ w (lv_sub hl [1, 2, 3, 0] rfl)
set_option maxRecDepth 100000 in
set_option maxHeartbeats 4000000 in
theorem w_M_measure_L124 {p : Program} {l : Launch} {e : Env} {R : Room} {s : State} {m : MethodId} {args : Array Value} {below : List Frame} {meth : Method} {c : Code} {dC : Nat → ClassId} {dI : Nat → Nat → Nat} {cs : Nat → ClassId} {ad : Nat → Nat} {A : Nat → Prop} {D0 : Nat → Nat} {S' : SS} (F : Fx p s m args meth c cX12_measure 8 RX12 none dC dI cs A) (hR1 : 2 ≤ R.frames) (hR2 : 47 ≤ R.locals) (K107 : Int32 → Int32 → SS → Option (SS)) (hK107 : ∀ (v0 : Int32) (v1 : Int32) (S : SS), K107 v0 v1 S = some S' → AW p l e R s m args below meth c dC dI cs ad A D0 none S' 8 107 [(0, .ref (ad 0)), (1, .int v0), (2, .int v1)] [] S) : ∀ (n : Nat) (x1 : Int32) (x2 : Int32) (x3 : Int32) (S : SS), f_M_measure_L124 K107 n x1 x2 x3 S = some S' → AW p l e R s m args below meth c dC dI cs ad A D0 none S' 8 124 [(0, .ref (ad 0)), (1, .int x1), (2, .int x2), (3, .int x3)] [] S := by
  have hx := F.1.1
  have hb := F.1.2.1
  intro n
  induction n with
  | zero => intro x1 x2 x3 S h; cases h
  | succ n ih =>
    intro x1 x2 x3 S h H locs ls w hl
    rw [f_M_measure_L124] at h
    refine lv_iload_n (pc := 124) hx hb dX12_measure_124 rfl (lv_at hl 3 rfl) ?_
    refine lv_bipush (pc := 125) (v := 80) hx hb dX12_measure_125 (by decide) ?_
    refine lv_icmp_ge (pc := 127) (tgt := 242) hx hb dX12_measure_127 (by decide) (fun q => ?_) (fun q => ?_)
    · have h := ite_t q h
      refine s_nm h (fun z8 ez8 h => ?_)
      refine lv_iinc (pc := 242) (v := z8) (lv' := [(2, .int z8), (0, .ref (ad 0)), (1, .int x1), (3, .int x3)]) hx hb dX12_measure_242 hl (k := 2) rfl (by rw [ez8]; rfl) (by decide) rfl (fun ls hl => ?_)
      refine lv_goto (pc := 245) (tgt := 107) hx hb dX12_measure_245 (by decide) ?_
      exact hK107 _ _ _ h _ _ _ w (lv_sub hl [1, 2, 0] rfl)
    · have h := ite_f q h
      refine lv_iload_n (pc := 130) hx hb dX12_measure_130 rfl (lv_at hl 3 rfl) ?_
      refine lv_bipush (pc := 131) (v := 20) hx hb dX12_measure_131 (by decide) ?_
      refine lv_idiv (pc := 133) hx hb dX12_measure_133 (by decide) ?_
      refine s_nm h (fun z9 ez9 h => ?_)
      rw [← ez9]
      refine lv_istore (pc := 134) (lv' := [(4, .int z9), (0, .ref (ad 0)), (1, .int x1), (2, .int x2), (3, .int x3)]) hx hb dX12_measure_134 hl (by decide) rfl (fun ls hl => ?_)
      refine lv_iload_n (pc := 136) hx hb dX12_measure_136 rfl (lv_at hl 4 rfl) ?_
      refine lv_iconst (pc := 137) (v := 5) hx hb dX12_measure_137 (by decide) ?_
      refine lv_idiv (pc := 138) hx hb dX12_measure_138 (by decide) ?_
      refine lv_iconst (pc := 139) (v := 4) hx hb dX12_measure_139 (by decide) ?_
      refine lv_irem (pc := 140) hx hb dX12_measure_140 (by decide) ?_
      refine s_nm h (fun z10 ez10 h => ?_)
      rw [← ez10]
      refine lv_istore (pc := 141) (lv' := [(5, .int z10), (4, .int z9), (0, .ref (ad 0)), (1, .int x1), (2, .int x2), (3, .int x3)]) hx hb dX12_measure_141 hl (by decide) rfl (fun ls hl => ?_)
      refine lv_iload_n (pc := 143) hx hb dX12_measure_143 rfl (lv_at hl 5 rfl) ?_
      refine lv_iconst (pc := 144) (v := 5) hx hb dX12_measure_144 (by decide) ?_
      refine lv_irem (pc := 145) hx hb dX12_measure_145 (by decide) ?_
      refine lv_iconst (pc := 146) (v := 1) hx hb dX12_measure_146 (by decide) ?_
      refine lv_iadd (pc := 147) hx hb dX12_measure_147 ?_
      refine s_nm h (fun z11 ez11 h => ?_)
      rw [← ez11]
      refine lv_istore (pc := 148) (lv' := [(6, .int z11), (5, .int z10), (4, .int z9), (0, .ref (ad 0)), (1, .int x1), (2, .int x2), (3, .int x3)]) hx hb dX12_measure_148 hl (by decide) rfl (fun ls hl => ?_)
      refine lv_aload_n (pc := 150) hx hb dX12_measure_150 rfl (lv_at hl 3 rfl) ?_
      refine lv_iload (pc := 151) hx hb dX12_measure_151 (lv_at hl 2 rfl) ?_
      refine lv_iload (pc := 153) hx hb dX12_measure_153 (lv_at hl 1 rfl) ?_
      refine lv_iload (pc := 155) hx hb dX12_measure_155 (lv_at hl 0 rfl) ?_
      obtain ⟨r13, S12, hc, h⟩ := bnd_t h
      refine s_cvi (pc := 157) [.int z9, .int z10, .int z11] (fun ad => [.ref (ad 0), .int z9, .int z10, .int z11]) F w (m_M_mayMove _ _ _ _ _ _ hc) rfl rfl hl.1 ds_0 vc_X12 rfl ok_X12_mayMove rfl kc_X12_mayMove kl_X12_482 ki_X12_mayMove kv_X12_mayMove kn_X12 ⟨Nat.le_trans (by decide) hR1, Nat.le_trans (by decide) hR2⟩ ⟨Nat.zero_le _, Nat.zero_le _⟩ (Nat.le_of_ble_eq_true rfl) dX12_measure_157 (fun H locs w => ?_)
      refine lv_if_ne (pc := 160) (tgt := 166) hx hb dX12_measure_160 (by decide) (fun q => ?_) (fun q => ?_)
      · have h := ite_f q h
        refine lv_aload_n (pc := 166) hx hb dX12_measure_166 rfl (lv_at hl 3 rfl) ?_
        refine lv_iload (pc := 167) hx hb dX12_measure_167 (lv_at hl 2 rfl) ?_
        refine lv_iload (pc := 169) hx hb dX12_measure_169 (lv_at hl 1 rfl) ?_
        refine lv_iload (pc := 171) hx hb dX12_measure_171 (lv_at hl 0 rfl) ?_
        obtain ⟨S14, hc, h⟩ := bndv_t h
        refine s_cvv (pc := 173) [.int z9, .int z10, .int z11] (fun ad => [.ref (ad 0), .int z9, .int z10, .int z11]) F w (m_M_shift _ _ _ _ _ hc) rfl rfl hl.1 ds_0 vc_X12 rfl ok_X12_shift rfl kc_X12_shift kl_X12_485 ki_X12_shift kv_X12_shift kn_X12 ⟨Nat.le_trans (by decide) hR1, Nat.le_trans (by decide) hR2⟩ ⟨Nat.zero_le _, Nat.zero_le _⟩ (Nat.le_of_ble_eq_true rfl) dX12_measure_173 (fun H locs w => ?_)
        refine lv_aload_n (pc := 176) hx hb dX12_measure_176 rfl (lv_at hl 3 rfl) ?_
        obtain ⟨r16, S15, hc, h⟩ := bnd_t h
        refine s_cvi (pc := 177) [] (fun ad => [.ref (ad 0)]) F w (m_M_code  _ _ _ hc) rfl rfl hl.1 ds_0 vc_X12 rfl ok_X12_code rfl kc_X12_code kl_X12_476 ki_X12_code kv_X12_code kn_X12 ⟨Nat.le_trans (by decide) hR1, Nat.le_trans (by decide) hR2⟩ ⟨Nat.zero_le _, Nat.zero_le _⟩ (Nat.le_of_ble_eq_true rfl) dX12_measure_177 (fun H locs w => ?_)
        refine lv_istore (pc := 180) (lv' := [(7, .int r16), (6, .int z11), (5, .int z10), (4, .int z9), (0, .ref (ad 0)), (1, .int x1), (2, .int x2), (3, .int x3)]) hx hb dX12_measure_180 hl (by decide) rfl (fun ls hl => ?_)
        refine lv_aload_n (pc := 182) hx hb dX12_measure_182 rfl (lv_at hl 4 rfl) ?_
        refine lv_iload (pc := 183) hx hb dX12_measure_183 (lv_at hl 2 rfl) ?_
        refine lv_iload (pc := 185) hx hb dX12_measure_185 (lv_at hl 3 rfl) ?_
        refine lv_iload (pc := 187) hx hb dX12_measure_187 (lv_at hl 1 rfl) ?_
        obtain ⟨S17, hc, h⟩ := bndv_t h
        refine s_cvv (pc := 189) [.int z10, .int z9, .int z11] (fun ad => [.ref (ad 0), .int z10, .int z9, .int z11]) F w (m_M_shift _ _ _ _ _ hc) rfl rfl hl.1 ds_0 vc_X12 rfl ok_X12_shift rfl kc_X12_shift kl_X12_485 ki_X12_shift kv_X12_shift kn_X12 ⟨Nat.le_trans (by decide) hR1, Nat.le_trans (by decide) hR2⟩ ⟨Nat.zero_le _, Nat.zero_le _⟩ (Nat.le_of_ble_eq_true rfl) dX12_measure_189 (fun H locs w => ?_)
        refine lv_aload_n (pc := 192) hx hb dX12_measure_192 rfl (lv_at hl 4 rfl) ?_
        refine s_getR (pc := 193) F w 55 ds_0 (j := 83) vc_X12 vi_X12 rfl (by decide) kf_X12_183 dX12_measure_193 ?_
        refine lv_iload (pc := 196) hx hb dX12_measure_196 (lv_at hl 0 rfl) ?_
        refine s_iald (pc := 198) F w ds_55 h dX12_measure_198 (fun h => ?_)
        refine lv_if_lt (pc := 199) (tgt := 205) hx hb dX12_measure_199 (by decide) (fun q => ?_) (fun q => ?_)
        · have h := ite_t q h
          refine lv_aload_n (pc := 205) hx hb dX12_measure_205 rfl (lv_at hl 4 rfl) ?_
          refine s_getR (pc := 206) F w 55 ds_0 (j := 83) vc_X12 vi_X12 rfl (by decide) kf_X12_183 dX12_measure_206 ?_
          refine lv_iload (pc := 209) hx hb dX12_measure_209 (lv_at hl 0 rfl) ?_
          refine lv_aload_n (pc := 211) hx hb dX12_measure_211 rfl (lv_at hl 4 rfl) ?_
          refine s_getR (pc := 212) F w 55 ds_0 (j := 83) vc_X12 vi_X12 rfl (by decide) kf_X12_183 dX12_measure_212 ?_
          refine lv_aload_n (pc := 215) hx hb dX12_measure_215 rfl (lv_at hl 4 rfl) ?_
          refine s_getR (pc := 216) F w 60 ds_0 (j := 88) vc_X12 vi_X12 rfl (by decide) kf_X12_198 dX12_measure_216 ?_
          refine lv_iload_n (pc := 219) hx hb dX12_measure_219 rfl (lv_at hl 6 rfl) ?_
          refine s_iald (pc := 220) F w ds_60 h dX12_measure_220 (fun h => ?_)
          refine s_iald (pc := 221) F w ds_55 h dX12_measure_221 (fun h => ?_)
          refine lv_iconst (pc := 222) (v := 1) hx hb dX12_measure_222 (by decide) ?_
          refine lv_iadd (pc := 223) hx hb dX12_measure_223 ?_
          refine s_iast (pc := 224) F w ds_55 h dX12_measure_224 (fun S18 H locs h w => ?_)
          refine lv_aload_n (pc := 225) hx hb dX12_measure_225 rfl (lv_at hl 4 rfl) ?_
          refine s_getR (pc := 226) F w 60 ds_0 (j := 88) vc_X12 vi_X12 rfl (by decide) kf_X12_198 dX12_measure_226 ?_
          refine lv_iload_n (pc := 229) hx hb dX12_measure_229 rfl (lv_at hl 5 rfl) ?_
          refine lv_iload (pc := 230) hx hb dX12_measure_230 (lv_at hl 0 rfl) ?_
          refine s_iast (pc := 232) F w ds_60 h dX12_measure_232 (fun S19 H locs h w => ?_)
          refine s_nm h (fun z20 ez20 h => ?_)
          refine lv_iinc (pc := 233) (v := z20) (lv' := [(1, .int z20), (7, .int r16), (6, .int z11), (5, .int z10), (4, .int z9), (0, .ref (ad 0)), (2, .int x2), (3, .int x3)]) hx hb dX12_measure_233 hl (k := 5) rfl (by rw [ez20]; rfl) (by decide) rfl (fun ls hl => ?_)
          exact w_M_measure_j236 F (Nat.le_trans (by decide) hR1) (Nat.le_trans (by decide) hR2) _ (fun v0 v1 v2 S h => ih v0 v1 v2 S h) _ _ _ _ h _ _ _ w (lv_sub hl [5, 0, 6, 7] rfl)
        · have h := ite_f q h
          refine lv_goto (pc := 202) (tgt := 236) hx hb dX12_measure_202 (by decide) ?_
          exact w_M_measure_j236 F (Nat.le_trans (by decide) hR1) (Nat.le_trans (by decide) hR2) _ (fun v0 v1 v2 S h => ih v0 v1 v2 S h) _ _ _ _ h _ _ _ w (lv_sub hl [4, 5, 6, 7] rfl)
      · have h := ite_t q h
        refine lv_goto (pc := 163) (tgt := 236) hx hb dX12_measure_163 (by decide) ?_
        exact w_M_measure_j236 F (Nat.le_trans (by decide) hR1) (Nat.le_trans (by decide) hR2) _ (fun v0 v1 v2 S h => ih v0 v1 v2 S h) _ _ _ _ h _ _ _ w (lv_sub hl [3, 4, 5, 6] rfl)
set_option maxRecDepth 100000 in
set_option maxHeartbeats 4000000 in
theorem w_M_measure_L107 {p : Program} {l : Launch} {e : Env} {R : Room} {s : State} {m : MethodId} {args : Array Value} {below : List Frame} {meth : Method} {c : Code} {dC : Nat → ClassId} {dI : Nat → Nat → Nat} {cs : Nat → ClassId} {ad : Nat → Nat} {A : Nat → Prop} {D0 : Nat → Nat} {S' : SS} (F : Fx p s m args meth c cX12_measure 8 RX12 none dC dI cs A) (hR1 : 2 ≤ R.frames) (hR2 : 47 ≤ R.locals) : ∀ (n : Nat) (x1 : Int32) (x2 : Int32) (S : SS), f_M_measure_L107 n x1 x2 S = some S' → AW p l e R s m args below meth c dC dI cs ad A D0 none S' 8 107 [(0, .ref (ad 0)), (1, .int x1), (2, .int x2)] [] S := by
  have hx := F.1.1
  have hb := F.1.2.1
  intro n
  induction n with
  | zero => intro x1 x2 S h; cases h
  | succ n ih =>
    intro x1 x2 S h H locs ls w hl
    rw [f_M_measure_L107] at h
    refine lv_iload_n (pc := 107) hx hb dX12_measure_107 rfl (lv_at hl 2 rfl) ?_
    refine lv_iload_n (pc := 108) hx hb dX12_measure_108 rfl (lv_at hl 1 rfl) ?_
    refine lv_icmp_ge (pc := 109) (tgt := 248) hx hb dX12_measure_109 (by decide) (fun q => ?_) (fun q => ?_)
    · have h := ite_t q h
      exact s_vret F w h dX12_measure_248
    · have h := ite_f q h
      refine lv_aload_n (pc := 112) hx hb dX12_measure_112 rfl (lv_at hl 0 rfl) ?_
      refine lv_aload_n (pc := 113) hx hb dX12_measure_113 rfl (lv_at hl 0 rfl) ?_
      refine s_getR (pc := 114) F w 60 ds_0 (j := 88) vc_X12 vi_X12 rfl (by decide) kf_X12_198 dX12_measure_114 ?_
      refine lv_iload_n (pc := 117) hx hb dX12_measure_117 rfl (lv_at hl 2 rfl) ?_
      refine s_iald (pc := 118) F w ds_60 h dX12_measure_118 (fun h => ?_)
      obtain ⟨S7, hc, h⟩ := bndv_t h
      refine s_cvv (pc := 119) [.int (S.1 60 x2.toNatClampNeg)] (fun ad => [.ref (ad 0), .int (S.1 60 x2.toNatClampNeg)]) F w (m_M_decode _ _ _ hc) rfl rfl hl.1 ds_0 vc_X12 rfl ok_X12_decode rfl kc_X12_decode kl_X12_479 ki_X12_decode kv_X12_decode kn_X12 ⟨Nat.le_trans (by decide) hR1, Nat.le_trans (by decide) hR2⟩ ⟨Nat.zero_le _, Nat.zero_le _⟩ (Nat.le_of_ble_eq_true rfl) dX12_measure_119 (fun H locs w => ?_)
      refine lv_iconst (pc := 122) (v := 0) hx hb dX12_measure_122 (by decide) ?_
      refine lv_istore_n (pc := 123) (lv' := [(3, .int (0 : Int32)), (0, .ref (ad 0)), (1, .int x1), (2, .int x2)]) hx hb dX12_measure_123 rfl hl (by decide) rfl (fun ls hl => ?_)
      exact w_M_measure_L124 F (Nat.le_trans (by decide) hR1) (Nat.le_trans (by decide) hR2) _ (fun v0 v1 S h => ih v0 v1 S h) _ _ _ _ _ h _ _ _ w (lv_sub hl [1, 2, 3, 0] rfl)
set_option maxRecDepth 100000 in
set_option maxHeartbeats 4000000 in
theorem w_M_measure_L56 {p : Program} {l : Launch} {e : Env} {R : Room} {s : State} {m : MethodId} {args : Array Value} {below : List Frame} {meth : Method} {c : Code} {dC : Nat → ClassId} {dI : Nat → Nat → Nat} {cs : Nat → ClassId} {ad : Nat → Nat} {A : Nat → Prop} {D0 : Nat → Nat} {S' : SS} (F : Fx p s m args meth c cX12_measure 8 RX12 none dC dI cs A) (hR1 : 2 ≤ R.frames) (hR2 : 47 ≤ R.locals) : ∀ (n : Nat) (x1 : Int32) (S : SS), f_M_measure_L56 n x1 S = some S' → AW p l e R s m args below meth c dC dI cs ad A D0 none S' 8 56 [(0, .ref (ad 0)), (1, .int x1)] [] S := by
  have hx := F.1.1
  have hb := F.1.2.1
  intro n
  induction n with
  | zero => intro x1 S h; cases h
  | succ n ih =>
    intro x1 S h H locs ls w hl
    rw [f_M_measure_L56] at h
    refine lv_iload_n (pc := 56) hx hb dX12_measure_56 rfl (lv_at hl 1 rfl) ?_
    refine lv_sipush (pc := 57) (v := 25920) hx hb dX12_measure_57 (by decide) ?_
    refine lv_icmp_ge (pc := 60) (tgt := 76) hx hb dX12_measure_60 (by decide) (fun q => ?_) (fun q => ?_)
    · have h := ite_t q h
      refine lv_aload_n (pc := 76) hx hb dX12_measure_76 rfl (lv_at hl 0 rfl) ?_
      refine lv_iconst (pc := 77) (v := 1) hx hb dX12_measure_77 (by decide) ?_
      obtain ⟨S2, hc, h⟩ := bndv_t h
      refine s_cvv (pc := 78) [.int (1 : Int32)] (fun ad => [.ref (ad 0), .int (1 : Int32)]) F w (m_M_take _ _ _ hc) rfl rfl hl.1 ds_0 vc_X12 rfl ok_X12_take rfl kc_X12_take kl_X12_472 ki_X12_take kv_X12_take kn_X12 ⟨Nat.le_trans (by decide) hR1, Nat.le_trans (by decide) hR2⟩ ⟨Nat.zero_le _, Nat.zero_le _⟩ (Nat.le_of_ble_eq_true rfl) dX12_measure_78 (fun H locs w => ?_)
      refine lv_aload_n (pc := 81) hx hb dX12_measure_81 rfl (lv_at hl 0 rfl) ?_
      refine s_getR (pc := 82) F w 60 ds_0 (j := 88) vc_X12 vi_X12 rfl (by decide) kf_X12_198 dX12_measure_82 ?_
      refine lv_iconst (pc := 85) (v := 0) hx hb dX12_measure_85 (by decide) ?_
      refine lv_aload_n (pc := 86) hx hb dX12_measure_86 rfl (lv_at hl 0 rfl) ?_
      obtain ⟨r4, S3, hc, h⟩ := bnd_t h
      refine s_cvi (pc := 87) [] (fun ad => [.ref (ad 0)]) F w (m_M_code  _ _ _ hc) rfl rfl hl.1 ds_0 vc_X12 rfl ok_X12_code rfl kc_X12_code kl_X12_476 ki_X12_code kv_X12_code kn_X12 ⟨Nat.le_trans (by decide) hR1, Nat.le_trans (by decide) hR2⟩ ⟨Nat.zero_le _, Nat.zero_le _⟩ (Nat.le_of_ble_eq_true rfl) dX12_measure_87 (fun H locs w => ?_)
      refine s_iast (pc := 90) F w ds_60 h dX12_measure_90 (fun S5 H locs h w => ?_)
      refine lv_aload_n (pc := 91) hx hb dX12_measure_91 rfl (lv_at hl 0 rfl) ?_
      refine s_getR (pc := 92) F w 55 ds_0 (j := 83) vc_X12 vi_X12 rfl (by decide) kf_X12_183 dX12_measure_92 ?_
      refine lv_aload_n (pc := 95) hx hb dX12_measure_95 rfl (lv_at hl 0 rfl) ?_
      refine s_getR (pc := 96) F w 60 ds_0 (j := 88) vc_X12 vi_X12 rfl (by decide) kf_X12_198 dX12_measure_96 ?_
      refine lv_iconst (pc := 99) (v := 0) hx hb dX12_measure_99 (by decide) ?_
      refine s_iald (pc := 100) F w ds_60 h dX12_measure_100 (fun h => ?_)
      refine lv_iconst (pc := 101) (v := 0) hx hb dX12_measure_101 (by decide) ?_
      refine s_iast (pc := 102) F w ds_55 h dX12_measure_102 (fun S6 H locs h w => ?_)
      refine lv_iconst (pc := 103) (v := 1) hx hb dX12_measure_103 (by decide) ?_
      refine lv_istore_n (pc := 104) (lv' := [(1, .int (1 : Int32)), (0, .ref (ad 0))]) hx hb dX12_measure_104 rfl hl (by decide) rfl (fun ls hl => ?_)
      refine lv_iconst (pc := 105) (v := 0) hx hb dX12_measure_105 (by decide) ?_
      refine lv_istore_n (pc := 106) (lv' := [(2, .int (0 : Int32)), (1, .int (1 : Int32)), (0, .ref (ad 0))]) hx hb dX12_measure_106 rfl hl (by decide) rfl (fun ls hl => ?_)
      exact w_M_measure_L107 F (Nat.le_trans (by decide) hR1) (Nat.le_trans (by decide) hR2) _ _ _ _ h _ _ _ w (lv_sub hl [2, 1, 0] rfl)
    · have h := ite_f q h
      refine lv_aload_n (pc := 63) hx hb dX12_measure_63 rfl (lv_at hl 0 rfl) ?_
      refine s_getR (pc := 64) F w 55 ds_0 (j := 83) vc_X12 vi_X12 rfl (by decide) kf_X12_183 dX12_measure_64 ?_
      refine lv_iload_n (pc := 67) hx hb dX12_measure_67 rfl (lv_at hl 1 rfl) ?_
      refine lv_iconst (pc := 68) (v := -1) hx hb dX12_measure_68 (by decide) ?_
      refine s_iast (pc := 69) F w ds_55 h dX12_measure_69 (fun S22 H locs h w => ?_)
      refine s_nm h (fun z23 ez23 h => ?_)
      refine lv_iinc (pc := 70) (v := z23) (lv' := [(1, .int z23), (0, .ref (ad 0))]) hx hb dX12_measure_70 hl (k := 1) rfl (by rw [ez23]; rfl) (by decide) rfl (fun ls hl => ?_)
      refine lv_goto (pc := 73) (tgt := 56) hx hb dX12_measure_73 (by decide) ?_
      exact ih _ _ h _ _ _ w (lv_sub hl [1, 0] rfl)
set_option maxRecDepth 100000 in
set_option maxHeartbeats 4000000 in
theorem w_M_measure_j48 {p : Program} {l : Launch} {e : Env} {R : Room} {s : State} {m : MethodId} {args : Array Value} {below : List Frame} {meth : Method} {c : Code} {dC : Nat → ClassId} {dI : Nat → Nat → Nat} {cs : Nat → ClassId} {ad : Nat → Nat} {A : Nat → Prop} {D0 : Nat → Nat} {S' : SS} (F : Fx p s m args meth c cX12_measure 8 RX12 none dC dI cs A) (hR1 : 0 ≤ R.frames) (hR2 : 0 ≤ R.locals) (K7 : Int32 → SS → Option (SS)) (hK7 : ∀ (v0 : Int32) (S : SS), K7 v0 S = some S' → AW p l e R s m args below meth c dC dI cs ad A D0 none S' 8 7 [(0, .ref (ad 0)), (1, .int v0)] [] S) (x1 : Int32) (S : SS) (h : f_M_measure_j48 K7 x1 S = some S') : AW p l e R s m args below meth c dC dI cs ad A D0 none S' 8 48 [(0, .ref (ad 0)), (1, .int x1)] [] S := by
  have hx := F.1.1
  have hb := F.1.2.1
  intro H locs ls w hl
  rw [f_M_measure_j48] at h
  refine s_nm h (fun z26 ez26 h => ?_)
  refine lv_iinc (pc := 48) (v := z26) (lv' := [(1, .int z26), (0, .ref (ad 0))]) hx hb dX12_measure_48 hl (k := 1) rfl (by rw [ez26]; rfl) (by decide) rfl (fun ls hl => ?_)
  refine lv_goto (pc := 51) (tgt := 7) hx hb dX12_measure_51 (by decide) ?_
  exact hK7 _ _ h _ _ _ w (lv_sub hl [1, 0] rfl)
set_option maxRecDepth 100000 in
set_option maxHeartbeats 4000000 in
theorem w_M_measure_L7 {p : Program} {l : Launch} {e : Env} {R : Room} {s : State} {m : MethodId} {args : Array Value} {below : List Frame} {meth : Method} {c : Code} {dC : Nat → ClassId} {dI : Nat → Nat → Nat} {cs : Nat → ClassId} {ad : Nat → Nat} {A : Nat → Prop} {D0 : Nat → Nat} {S' : SS} (F : Fx p s m args meth c cX12_measure 8 RX12 none dC dI cs A) (hR1 : 2 ≤ R.frames) (hR2 : 47 ≤ R.locals) : ∀ (n : Nat) (x1 : Int32) (S : SS), f_M_measure_L7 n x1 S = some S' → AW p l e R s m args below meth c dC dI cs ad A D0 none S' 8 7 [(0, .ref (ad 0)), (1, .int x1)] [] S := by
  have hx := F.1.1
  have hb := F.1.2.1
  intro n
  induction n with
  | zero => intro x1 S h; cases h
  | succ n ih =>
    intro x1 S h H locs ls w hl
    rw [f_M_measure_L7] at h
    refine lv_iload_n (pc := 7) hx hb dX12_measure_7 rfl (lv_at hl 1 rfl) ?_
    refine lv_bipush (pc := 8) (v := 10) hx hb dX12_measure_8 (by decide) ?_
    refine lv_icmp_ge (pc := 10) (tgt := 54) hx hb dX12_measure_10 (by decide) (fun q => ?_) (fun q => ?_)
    · have h := ite_t q h
      refine lv_iconst (pc := 54) (v := 0) hx hb dX12_measure_54 (by decide) ?_
      refine lv_istore_n (pc := 55) (lv' := [(1, .int (0 : Int32)), (0, .ref (ad 0))]) hx hb dX12_measure_55 rfl hl (by decide) rfl (fun ls hl => ?_)
      exact w_M_measure_L56 F (Nat.le_trans (by decide) hR1) (Nat.le_trans (by decide) hR2) _ _ _ h _ _ _ w (lv_sub hl [1, 0] rfl)
    · have h := ite_f q h
      refine lv_aload_n (pc := 13) hx hb dX12_measure_13 rfl (lv_at hl 0 rfl) ?_
      refine s_getR (pc := 14) F w 49 ds_0 (j := 74) vc_X12 vi_X12 rfl (by decide) kf_X12_162 dX12_measure_14 ?_
      refine lv_aload_n (pc := 17) hx hb dX12_measure_17 rfl (lv_at hl 0 rfl) ?_
      refine s_getR (pc := 18) F w 50 ds_0 (j := 75) vc_X12 vi_X12 rfl (by decide) kf_X12_165 dX12_measure_18 ?_
      refine lv_iload_n (pc := 21) hx hb dX12_measure_21 rfl (lv_at hl 1 rfl) ?_
      obtain ⟨r25, S24, hc, h⟩ := bnd_t h
      refine s_csi (pc := 22) [.ref (ad 49), .ref (ad 50), .int x1] (fun ad => [.ref (ad 49), .ref (ad 50), .int x1]) F w (m_M_has_M_goalMany_M_goalOn _ _ _ _ hc) rfl rfl hl.1 ok_X12_has rfl kc_X12_has kl_X12_451 ks_X12_has kn_X12 ⟨Nat.le_trans (by decide) hR1, Nat.le_trans (by decide) hR2⟩ ⟨Nat.zero_le _, Nat.zero_le _⟩ (Nat.le_of_ble_eq_true rfl) dX12_measure_22 (fun H locs w => ?_)
      refine lv_if_eq (pc := 25) (tgt := 48) hx hb dX12_measure_25 (by decide) (fun q => ?_) (fun q => ?_)
      · have h := ite_t q h
        exact w_M_measure_j48 F (Nat.le_trans (by decide) hR1) (Nat.le_trans (by decide) hR2) _ (fun v0 S h => ih v0 S h) _ _ h _ _ _ w (lv_sub hl [0, 1] rfl)
      · have h := ite_f q h
        refine lv_aload_n (pc := 28) hx hb dX12_measure_28 rfl (lv_at hl 0 rfl) ?_
        refine s_getR (pc := 29) F w 54 ds_0 (j := 82) vc_X12 vi_X12 rfl (by decide) kf_X12_180 dX12_measure_29 ?_
        refine lv_aload_n (pc := 32) hx hb dX12_measure_32 rfl (lv_at hl 0 rfl) ?_
        refine s_getI (pc := 33) F w ds_0 (j := 81) vc_X12 vi_X12 rfl (by decide) kf_X12_466 dX12_measure_33 ?_
        refine lv_iload_n (pc := 36) hx hb dX12_measure_36 rfl (lv_at hl 1 rfl) ?_
        refine s_iast (pc := 37) F w ds_54 h dX12_measure_37 (fun S27 H locs h w => ?_)
        refine lv_aload_n (pc := 38) hx hb dX12_measure_38 rfl (lv_at hl 0 rfl) ?_
        refine lv_dup (pc := 39) hx hb dX12_measure_39 rfl ?_
        refine s_getI (pc := 40) F w ds_0 (j := 81) vc_X12 vi_X12 rfl (by decide) kf_X12_466 dX12_measure_40 ?_
        refine lv_iconst (pc := 43) (v := 1) hx hb dX12_measure_43 (by decide) ?_
        refine lv_iadd (pc := 44) hx hb dX12_measure_44 ?_
        refine s_putI (pc := 45) F w ds_0 vc_X12 vi_X12 tyX12_ok nmX12 (j := 81) rfl (by decide) kf_X12_466 rfl pd_I h dX12_measure_45 (fun S28 H locs h w => ?_)
        exact w_M_measure_j48 F (Nat.le_trans (by decide) hR1) (Nat.le_trans (by decide) hR2) _ (fun v0 S h => ih v0 S h) _ _ h _ _ _ w (lv_sub hl [0, 1] rfl)
set_option maxRecDepth 100000 in
set_option maxHeartbeats 4000000 in
theorem m_M_measure  (S S' : SS) (h : f_M_measure  S = some S') : MT yX12_measure cX12_measure 8 none 2 47 (fun ad => [.ref (ad 0)]) S none S' := by
  refine MT.of RX12 (fun ad => [(0, .ref (ad 0))]) (by decide) rfl (fun _ => Nat.le_of_ble_eq_true rfl) (fun _ => rfl) ?_
  intro p l e R s m args below meth c dC dI cs ad A hR1 hR2 F H locs ls w hl
  have hx := F.1.1
  have hb := F.1.2.1
  rw [f_M_measure] at h
  refine lv_aload_n (pc := 0) hx hb dX12_measure_0 rfl (lv_at hl 0 rfl) ?_
  refine lv_iconst (pc := 1) (v := 0) hx hb dX12_measure_1 (by decide) ?_
  refine s_putI (pc := 2) F w ds_0 vc_X12 vi_X12 tyX12_ok nmX12 (j := 81) rfl (by decide) kf_X12_466 rfl pd_I h dX12_measure_2 (fun S1 H locs h w => ?_)
  refine lv_iconst (pc := 5) (v := 0) hx hb dX12_measure_5 (by decide) ?_
  refine lv_istore_n (pc := 6) (lv' := [(1, .int (0 : Int32)), (0, .ref (ad 0))]) hx hb dX12_measure_6 rfl hl (by decide) rfl (fun ls hl => ?_)
  exact w_M_measure_L7 F (Nat.le_trans (by decide) hR1) (Nat.le_trans (by decide) hR2) _ _ _ h _ _ _ w (lv_sub hl [1, 0] rfl)
def f_M_hasFallen (a1 : Int32) (a2 : Int32) (a3 : Int32) (a4 : Int32) (S : SS) : Option (Int32 × SS) :=
  bndv (f_M_decode a1 S) (fun S1 =>
  bnd (f_M_mayMove a2 a3 a4 S1) (fun r3 S2 =>
  if r3 = 0 then
    some ((0 : Int32), S2)
  else
    bndv (f_M_shift a2 a3 a4 S2) (fun S4 =>
    bnd (f_M_code  S4) (fun r6 S5 =>
    grd (inb r6 25920) (
    grd (inb a1 25920) (
    if (S5.1 55 r6.toNatClampNeg) = ((S5.1 55 a1.toNatClampNeg) - (1 : Int32)) then
      some ((1 : Int32), S5)
    else
      some ((0 : Int32), S5)))))))
theorem dX12_hasFallen_0 : decode cX12_hasFallen 0 = .ok (.aload_n 0, 1) := dc_42 (by decide +kernel)
theorem dX12_hasFallen_1 : decode cX12_hasFallen 1 = .ok (.iload_n 1, 1) := dc_27 (by decide +kernel)
theorem dX12_hasFallen_2 : decode cX12_hasFallen 2 = .ok (.invokevirtual 479, 3) := dc_182 (a := 1) (b := 223) (by decide +kernel)
theorem dX12_hasFallen_5 : decode cX12_hasFallen 5 = .ok (.aload_n 0, 1) := dc_42 (by decide +kernel)
theorem dX12_hasFallen_6 : decode cX12_hasFallen 6 = .ok (.iload_n 2, 1) := dc_28 (by decide +kernel)
theorem dX12_hasFallen_7 : decode cX12_hasFallen 7 = .ok (.iload_n 3, 1) := dc_29 (by decide +kernel)
theorem dX12_hasFallen_8 : decode cX12_hasFallen 8 = .ok (.iload 4, 2) := dc_21 (a := 4) (by decide +kernel)
theorem dX12_hasFallen_10 : decode cX12_hasFallen 10 = .ok (.invokevirtual 482, 3) := dc_182 (a := 1) (b := 226) (by decide +kernel)
theorem dX12_hasFallen_13 : decode cX12_hasFallen 13 = .ok (.ifCond .ne 5, 3) := dc_154 (a := 0) (b := 5) (by decide +kernel) (by decide)
theorem dX12_hasFallen_16 : decode cX12_hasFallen 16 = .ok (.iconst 0, 1) := dc_3 (by decide +kernel)
theorem dX12_hasFallen_17 : decode cX12_hasFallen 17 = .ok (.ireturn, 1) := dc_172 (by decide +kernel)
theorem dX12_hasFallen_18 : decode cX12_hasFallen 18 = .ok (.aload_n 0, 1) := dc_42 (by decide +kernel)
theorem dX12_hasFallen_19 : decode cX12_hasFallen 19 = .ok (.iload_n 2, 1) := dc_28 (by decide +kernel)
theorem dX12_hasFallen_20 : decode cX12_hasFallen 20 = .ok (.iload_n 3, 1) := dc_29 (by decide +kernel)
theorem dX12_hasFallen_21 : decode cX12_hasFallen 21 = .ok (.iload 4, 2) := dc_21 (a := 4) (by decide +kernel)
theorem dX12_hasFallen_23 : decode cX12_hasFallen 23 = .ok (.invokevirtual 485, 3) := dc_182 (a := 1) (b := 229) (by decide +kernel)
theorem dX12_hasFallen_26 : decode cX12_hasFallen 26 = .ok (.aload_n 0, 1) := dc_42 (by decide +kernel)
theorem dX12_hasFallen_27 : decode cX12_hasFallen 27 = .ok (.getfield 183, 3) := dc_180 (a := 0) (b := 183) (by decide +kernel)
theorem dX12_hasFallen_30 : decode cX12_hasFallen 30 = .ok (.aload_n 0, 1) := dc_42 (by decide +kernel)
theorem dX12_hasFallen_31 : decode cX12_hasFallen 31 = .ok (.invokevirtual 476, 3) := dc_182 (a := 1) (b := 220) (by decide +kernel)
theorem dX12_hasFallen_34 : decode cX12_hasFallen 34 = .ok (.iaload, 1) := dc_46 (by decide +kernel)
theorem dX12_hasFallen_35 : decode cX12_hasFallen 35 = .ok (.aload_n 0, 1) := dc_42 (by decide +kernel)
theorem dX12_hasFallen_36 : decode cX12_hasFallen 36 = .ok (.getfield 183, 3) := dc_180 (a := 0) (b := 183) (by decide +kernel)
theorem dX12_hasFallen_39 : decode cX12_hasFallen 39 = .ok (.iload_n 1, 1) := dc_27 (by decide +kernel)
theorem dX12_hasFallen_40 : decode cX12_hasFallen 40 = .ok (.iaload, 1) := dc_46 (by decide +kernel)
theorem dX12_hasFallen_41 : decode cX12_hasFallen 41 = .ok (.iconst 1, 1) := dc_4 (by decide +kernel)
theorem dX12_hasFallen_42 : decode cX12_hasFallen 42 = .ok (.isub, 1) := dc_100 (by decide +kernel)
theorem dX12_hasFallen_43 : decode cX12_hasFallen 43 = .ok (.if_icmp .ne 7, 3) := dc_160 (a := 0) (b := 7) (by decide +kernel) (by decide)
theorem dX12_hasFallen_46 : decode cX12_hasFallen 46 = .ok (.iconst 1, 1) := dc_4 (by decide +kernel)
theorem dX12_hasFallen_47 : decode cX12_hasFallen 47 = .ok (.goto 4, 3) := dc_167 (a := 0) (b := 4) (by decide +kernel) (by decide)
theorem dX12_hasFallen_50 : decode cX12_hasFallen 50 = .ok (.iconst 0, 1) := dc_3 (by decide +kernel)
theorem dX12_hasFallen_51 : decode cX12_hasFallen 51 = .ok (.ireturn, 1) := dc_172 (by decide +kernel)
set_option maxRecDepth 100000 in
set_option maxHeartbeats 4000000 in
theorem m_M_hasFallen (a1 : Int32) (a2 : Int32) (a3 : Int32) (a4 : Int32) (S S' : SS) (r : Int32) (h : f_M_hasFallen a1 a2 a3 a4 S = some (r, S')) : MT yX12_hasFallen cX12_hasFallen 5 (some .boolean) 2 47 (fun ad => [.ref (ad 0), .int a1, .int a2, .int a3, .int a4]) S (some (.int r)) S' := by
  refine MT.of RX12 (fun ad => [(0, .ref (ad 0)), (1, .int a1), (2, .int a2), (3, .int a3), (4, .int a4)]) (by decide) rfl (fun _ => Nat.le_of_ble_eq_true rfl) (fun _ => rfl) ?_
  intro p l e R s m args below meth c dC dI cs ad A hR1 hR2 F H locs ls w hl
  have hx := F.1.1
  have hb := F.1.2.1
  rw [f_M_hasFallen] at h
  refine lv_aload_n (pc := 0) hx hb dX12_hasFallen_0 rfl (lv_at hl 0 rfl) ?_
  refine lv_iload_n (pc := 1) hx hb dX12_hasFallen_1 rfl (lv_at hl 1 rfl) ?_
  obtain ⟨S1, hc, h⟩ := bndv_t h
  refine s_cvv (pc := 2) [.int a1] (fun ad => [.ref (ad 0), .int a1]) F w (m_M_decode _ _ _ hc) rfl rfl hl.1 ds_0 vc_X12 rfl ok_X12_decode rfl kc_X12_decode kl_X12_479 ki_X12_decode kv_X12_decode kn_X12 ⟨Nat.le_trans (by decide) hR1, Nat.le_trans (by decide) hR2⟩ ⟨Nat.zero_le _, Nat.zero_le _⟩ (Nat.le_of_ble_eq_true rfl) dX12_hasFallen_2 (fun H locs w => ?_)
  refine lv_aload_n (pc := 5) hx hb dX12_hasFallen_5 rfl (lv_at hl 0 rfl) ?_
  refine lv_iload_n (pc := 6) hx hb dX12_hasFallen_6 rfl (lv_at hl 2 rfl) ?_
  refine lv_iload_n (pc := 7) hx hb dX12_hasFallen_7 rfl (lv_at hl 3 rfl) ?_
  refine lv_iload (pc := 8) hx hb dX12_hasFallen_8 (lv_at hl 4 rfl) ?_
  obtain ⟨r3, S2, hc, h⟩ := bnd_t h
  refine s_cvi (pc := 10) [.int a2, .int a3, .int a4] (fun ad => [.ref (ad 0), .int a2, .int a3, .int a4]) F w (m_M_mayMove _ _ _ _ _ _ hc) rfl rfl hl.1 ds_0 vc_X12 rfl ok_X12_mayMove rfl kc_X12_mayMove kl_X12_482 ki_X12_mayMove kv_X12_mayMove kn_X12 ⟨Nat.le_trans (by decide) hR1, Nat.le_trans (by decide) hR2⟩ ⟨Nat.zero_le _, Nat.zero_le _⟩ (Nat.le_of_ble_eq_true rfl) dX12_hasFallen_10 (fun H locs w => ?_)
  refine lv_if_ne (pc := 13) (tgt := 18) hx hb dX12_hasFallen_13 (by decide) (fun q => ?_) (fun q => ?_)
  · have h := ite_f q h
    refine lv_aload_n (pc := 18) hx hb dX12_hasFallen_18 rfl (lv_at hl 0 rfl) ?_
    refine lv_iload_n (pc := 19) hx hb dX12_hasFallen_19 rfl (lv_at hl 2 rfl) ?_
    refine lv_iload_n (pc := 20) hx hb dX12_hasFallen_20 rfl (lv_at hl 3 rfl) ?_
    refine lv_iload (pc := 21) hx hb dX12_hasFallen_21 (lv_at hl 4 rfl) ?_
    obtain ⟨S4, hc, h⟩ := bndv_t h
    refine s_cvv (pc := 23) [.int a2, .int a3, .int a4] (fun ad => [.ref (ad 0), .int a2, .int a3, .int a4]) F w (m_M_shift _ _ _ _ _ hc) rfl rfl hl.1 ds_0 vc_X12 rfl ok_X12_shift rfl kc_X12_shift kl_X12_485 ki_X12_shift kv_X12_shift kn_X12 ⟨Nat.le_trans (by decide) hR1, Nat.le_trans (by decide) hR2⟩ ⟨Nat.zero_le _, Nat.zero_le _⟩ (Nat.le_of_ble_eq_true rfl) dX12_hasFallen_23 (fun H locs w => ?_)
    refine lv_aload_n (pc := 26) hx hb dX12_hasFallen_26 rfl (lv_at hl 0 rfl) ?_
    refine s_getR (pc := 27) F w 55 ds_0 (j := 83) vc_X12 vi_X12 rfl (by decide) kf_X12_183 dX12_hasFallen_27 ?_
    refine lv_aload_n (pc := 30) hx hb dX12_hasFallen_30 rfl (lv_at hl 0 rfl) ?_
    obtain ⟨r6, S5, hc, h⟩ := bnd_t h
    refine s_cvi (pc := 31) [] (fun ad => [.ref (ad 0)]) F w (m_M_code  _ _ _ hc) rfl rfl hl.1 ds_0 vc_X12 rfl ok_X12_code rfl kc_X12_code kl_X12_476 ki_X12_code kv_X12_code kn_X12 ⟨Nat.le_trans (by decide) hR1, Nat.le_trans (by decide) hR2⟩ ⟨Nat.zero_le _, Nat.zero_le _⟩ (Nat.le_of_ble_eq_true rfl) dX12_hasFallen_31 (fun H locs w => ?_)
    refine s_iald (pc := 34) F w ds_55 h dX12_hasFallen_34 (fun h => ?_)
    refine lv_aload_n (pc := 35) hx hb dX12_hasFallen_35 rfl (lv_at hl 0 rfl) ?_
    refine s_getR (pc := 36) F w 55 ds_0 (j := 83) vc_X12 vi_X12 rfl (by decide) kf_X12_183 dX12_hasFallen_36 ?_
    refine lv_iload_n (pc := 39) hx hb dX12_hasFallen_39 rfl (lv_at hl 1 rfl) ?_
    refine s_iald (pc := 40) F w ds_55 h dX12_hasFallen_40 (fun h => ?_)
    refine lv_iconst (pc := 41) (v := 1) hx hb dX12_hasFallen_41 (by decide) ?_
    refine lv_isub (pc := 42) hx hb dX12_hasFallen_42 ?_
    refine lv_icmp_ne (pc := 43) (tgt := 50) hx hb dX12_hasFallen_43 (by decide) (fun q => ?_) (fun q => ?_)
    · have h := ite_f q h
      refine lv_iconst (pc := 50) (v := 0) hx hb dX12_hasFallen_50 (by decide) ?_
      exact s_zretc F w rfl h dX12_hasFallen_51
    · have h := ite_t q h
      refine lv_iconst (pc := 46) (v := 1) hx hb dX12_hasFallen_46 (by decide) ?_
      refine lv_goto (pc := 47) (tgt := 51) hx hb dX12_hasFallen_47 (by decide) ?_
      exact s_zretc F w rfl h dX12_hasFallen_51
  · have h := ite_t q h
    refine lv_iconst (pc := 16) (v := 0) hx hb dX12_hasFallen_16 (by decide) ?_
    exact s_zretc F w rfl h dX12_hasFallen_17
def f_M_wander_L25 (K14 : Int32 → SS → Option (SS)) : Nat → Int32 → Int32 → SS → Option (SS)
  | 0, _, _, _ => none
  | n + 1, x2, x3, S =>
    bnd (f_M_hasFallen x2 (x3 / (20 : Int32)) ((x3 / (5 : Int32)) - (x3 / (5 : Int32)) / (4 : Int32) * (4 : Int32)) ((x3 - x3 / (5 : Int32) * (5 : Int32)) + (1 : Int32)) S) (fun r4 S3 =>
    if r4 = 0 then
      nm (x3 + (1 : Int32)) (fun z12 =>
      f_M_wander_L25 K14 n x2 z12 S3)
    else
      grd (inb (S3.1 0 77) 400) (wr S3 51 (S3.1 0 77).toNatClampNeg (x3 / (20 : Int32)) (fun S5 =>
      grd (inb (S5.1 0 77) 400) (wr S5 52 (S5.1 0 77).toNatClampNeg ((x3 / (5 : Int32)) - (x3 / (5 : Int32)) / (4 : Int32) * (4 : Int32)) (fun S6 =>
      grd (inb (S6.1 0 77) 400) (wr S6 53 (S6.1 0 77).toNatClampNeg ((x3 - x3 / (5 : Int32) * (5 : Int32)) + (1 : Int32)) (fun S7 =>
      bnd (f_M_code  S7) (fun r9 S8 =>
      wr S8 0 77 ((S8.1 0 77) + (1 : Int32)) (fun S10 =>
      grd (inb (S10.1 0 77) 400) (wr S10 56 (S10.1 0 77).toNatClampNeg r9 (fun S11 =>
      K14 r9 S11)))))))))))
def f_M_wander_L14  : Nat → Int32 → SS → Option (SS)
  | 0, _, _ => none
  | n + 1, x2, S =>
    grd (inb x2 25920) (
    if (S.1 55 x2.toNatClampNeg) ≤ 0 then
      some S
    else
      f_M_wander_L25 (fun v0 S => f_M_wander_L14 n v0 S) NF x2 (0 : Int32) S)
def f_M_wander (a1 : Int32) (S : SS) : Option (SS) :=
  wr S 0 77 (0 : Int32) (fun S1 =>
  grd (inb (0 : Int32) 400) (wr S1 56 (0 : Int32).toNatClampNeg a1 (fun S2 =>
  f_M_wander_L14 NF a1 S2)))
theorem dX12_wander_0 : decode cX12_wander 0 = .ok (.iload_n 1, 1) := dc_27 (by decide +kernel)
theorem dX12_wander_1 : decode cX12_wander 1 = .ok (.istore_n 2, 1) := dc_61 (by decide +kernel)
theorem dX12_wander_2 : decode cX12_wander 2 = .ok (.aload_n 0, 1) := dc_42 (by decide +kernel)
theorem dX12_wander_3 : decode cX12_wander 3 = .ok (.iconst 0, 1) := dc_3 (by decide +kernel)
theorem dX12_wander_4 : decode cX12_wander 4 = .ok (.putfield 463, 3) := dc_181 (a := 1) (b := 207) (by decide +kernel)
theorem dX12_wander_7 : decode cX12_wander 7 = .ok (.aload_n 0, 1) := dc_42 (by decide +kernel)
theorem dX12_wander_8 : decode cX12_wander 8 = .ok (.getfield 186, 3) := dc_180 (a := 0) (b := 186) (by decide +kernel)
theorem dX12_wander_11 : decode cX12_wander 11 = .ok (.iconst 0, 1) := dc_3 (by decide +kernel)
theorem dX12_wander_12 : decode cX12_wander 12 = .ok (.iload_n 2, 1) := dc_28 (by decide +kernel)
theorem dX12_wander_13 : decode cX12_wander 13 = .ok (.iastore, 1) := dc_79 (by decide +kernel)
theorem dX12_wander_14 : decode cX12_wander 14 = .ok (.aload_n 0, 1) := dc_42 (by decide +kernel)
theorem dX12_wander_15 : decode cX12_wander 15 = .ok (.getfield 183, 3) := dc_180 (a := 0) (b := 183) (by decide +kernel)
theorem dX12_wander_18 : decode cX12_wander 18 = .ok (.iload_n 2, 1) := dc_28 (by decide +kernel)
theorem dX12_wander_19 : decode cX12_wander 19 = .ok (.iaload, 1) := dc_46 (by decide +kernel)
theorem dX12_wander_20 : decode cX12_wander 20 = .ok (.ifCond .le 102, 3) := dc_158 (a := 0) (b := 102) (by decide +kernel) (by decide)
theorem dX12_wander_23 : decode cX12_wander 23 = .ok (.iconst 0, 1) := dc_3 (by decide +kernel)
theorem dX12_wander_24 : decode cX12_wander 24 = .ok (.istore_n 3, 1) := dc_62 (by decide +kernel)
theorem dX12_wander_25 : decode cX12_wander 25 = .ok (.aload_n 0, 1) := dc_42 (by decide +kernel)
theorem dX12_wander_26 : decode cX12_wander 26 = .ok (.iload_n 2, 1) := dc_28 (by decide +kernel)
theorem dX12_wander_27 : decode cX12_wander 27 = .ok (.iload_n 3, 1) := dc_29 (by decide +kernel)
theorem dX12_wander_28 : decode cX12_wander 28 = .ok (.bipush 20, 2) := dc_16 (a := 20) (by decide +kernel) (by decide)
theorem dX12_wander_30 : decode cX12_wander 30 = .ok (.idiv, 1) := dc_108 (by decide +kernel)
theorem dX12_wander_31 : decode cX12_wander 31 = .ok (.iload_n 3, 1) := dc_29 (by decide +kernel)
theorem dX12_wander_32 : decode cX12_wander 32 = .ok (.iconst 5, 1) := dc_8 (by decide +kernel)
theorem dX12_wander_33 : decode cX12_wander 33 = .ok (.idiv, 1) := dc_108 (by decide +kernel)
theorem dX12_wander_34 : decode cX12_wander 34 = .ok (.iconst 4, 1) := dc_7 (by decide +kernel)
theorem dX12_wander_35 : decode cX12_wander 35 = .ok (.irem, 1) := dc_112 (by decide +kernel)
theorem dX12_wander_36 : decode cX12_wander 36 = .ok (.iload_n 3, 1) := dc_29 (by decide +kernel)
theorem dX12_wander_37 : decode cX12_wander 37 = .ok (.iconst 5, 1) := dc_8 (by decide +kernel)
theorem dX12_wander_38 : decode cX12_wander 38 = .ok (.irem, 1) := dc_112 (by decide +kernel)
theorem dX12_wander_39 : decode cX12_wander 39 = .ok (.iconst 1, 1) := dc_4 (by decide +kernel)
theorem dX12_wander_40 : decode cX12_wander 40 = .ok (.iadd, 1) := dc_96 (by decide +kernel)
theorem dX12_wander_41 : decode cX12_wander 41 = .ok (.invokevirtual 489, 3) := dc_182 (a := 1) (b := 233) (by decide +kernel)
theorem dX12_wander_44 : decode cX12_wander 44 = .ok (.ifCond .ne 9, 3) := dc_154 (a := 0) (b := 9) (by decide +kernel) (by decide)
theorem dX12_wander_47 : decode cX12_wander 47 = .ok (.iinc 3 1, 3) := dc_132 (a := 3) (b := 1) (by decide +kernel) (by decide)
theorem dX12_wander_50 : decode cX12_wander 50 = .ok (.goto (-25), 3) := dc_167 (a := 255) (b := 231) (by decide +kernel) (by decide)
theorem dX12_wander_53 : decode cX12_wander 53 = .ok (.aload_n 0, 1) := dc_42 (by decide +kernel)
theorem dX12_wander_54 : decode cX12_wander 54 = .ok (.getfield 171, 3) := dc_180 (a := 0) (b := 171) (by decide +kernel)
theorem dX12_wander_57 : decode cX12_wander 57 = .ok (.aload_n 0, 1) := dc_42 (by decide +kernel)
theorem dX12_wander_58 : decode cX12_wander 58 = .ok (.getfield 463, 3) := dc_180 (a := 1) (b := 207) (by decide +kernel)
theorem dX12_wander_61 : decode cX12_wander 61 = .ok (.iload_n 3, 1) := dc_29 (by decide +kernel)
theorem dX12_wander_62 : decode cX12_wander 62 = .ok (.bipush 20, 2) := dc_16 (a := 20) (by decide +kernel) (by decide)
theorem dX12_wander_64 : decode cX12_wander 64 = .ok (.idiv, 1) := dc_108 (by decide +kernel)
theorem dX12_wander_65 : decode cX12_wander 65 = .ok (.iastore, 1) := dc_79 (by decide +kernel)
theorem dX12_wander_66 : decode cX12_wander 66 = .ok (.aload_n 0, 1) := dc_42 (by decide +kernel)
theorem dX12_wander_67 : decode cX12_wander 67 = .ok (.getfield 174, 3) := dc_180 (a := 0) (b := 174) (by decide +kernel)
theorem dX12_wander_70 : decode cX12_wander 70 = .ok (.aload_n 0, 1) := dc_42 (by decide +kernel)
theorem dX12_wander_71 : decode cX12_wander 71 = .ok (.getfield 463, 3) := dc_180 (a := 1) (b := 207) (by decide +kernel)
theorem dX12_wander_74 : decode cX12_wander 74 = .ok (.iload_n 3, 1) := dc_29 (by decide +kernel)
theorem dX12_wander_75 : decode cX12_wander 75 = .ok (.iconst 5, 1) := dc_8 (by decide +kernel)
theorem dX12_wander_76 : decode cX12_wander 76 = .ok (.idiv, 1) := dc_108 (by decide +kernel)
theorem dX12_wander_77 : decode cX12_wander 77 = .ok (.iconst 4, 1) := dc_7 (by decide +kernel)
theorem dX12_wander_78 : decode cX12_wander 78 = .ok (.irem, 1) := dc_112 (by decide +kernel)
theorem dX12_wander_79 : decode cX12_wander 79 = .ok (.iastore, 1) := dc_79 (by decide +kernel)
theorem dX12_wander_80 : decode cX12_wander 80 = .ok (.aload_n 0, 1) := dc_42 (by decide +kernel)
theorem dX12_wander_81 : decode cX12_wander 81 = .ok (.getfield 177, 3) := dc_180 (a := 0) (b := 177) (by decide +kernel)
theorem dX12_wander_84 : decode cX12_wander 84 = .ok (.aload_n 0, 1) := dc_42 (by decide +kernel)
theorem dX12_wander_85 : decode cX12_wander 85 = .ok (.getfield 463, 3) := dc_180 (a := 1) (b := 207) (by decide +kernel)
theorem dX12_wander_88 : decode cX12_wander 88 = .ok (.iload_n 3, 1) := dc_29 (by decide +kernel)
theorem dX12_wander_89 : decode cX12_wander 89 = .ok (.iconst 5, 1) := dc_8 (by decide +kernel)
theorem dX12_wander_90 : decode cX12_wander 90 = .ok (.irem, 1) := dc_112 (by decide +kernel)
theorem dX12_wander_91 : decode cX12_wander 91 = .ok (.iconst 1, 1) := dc_4 (by decide +kernel)
theorem dX12_wander_92 : decode cX12_wander 92 = .ok (.iadd, 1) := dc_96 (by decide +kernel)
theorem dX12_wander_93 : decode cX12_wander 93 = .ok (.iastore, 1) := dc_79 (by decide +kernel)
theorem dX12_wander_94 : decode cX12_wander 94 = .ok (.aload_n 0, 1) := dc_42 (by decide +kernel)
theorem dX12_wander_95 : decode cX12_wander 95 = .ok (.invokevirtual 476, 3) := dc_182 (a := 1) (b := 220) (by decide +kernel)
theorem dX12_wander_98 : decode cX12_wander 98 = .ok (.istore_n 2, 1) := dc_61 (by decide +kernel)
theorem dX12_wander_99 : decode cX12_wander 99 = .ok (.aload_n 0, 1) := dc_42 (by decide +kernel)
theorem dX12_wander_100 : decode cX12_wander 100 = .ok (.dup, 1) := dc_89 (by decide +kernel)
theorem dX12_wander_101 : decode cX12_wander 101 = .ok (.getfield 463, 3) := dc_180 (a := 1) (b := 207) (by decide +kernel)
theorem dX12_wander_104 : decode cX12_wander 104 = .ok (.iconst 1, 1) := dc_4 (by decide +kernel)
theorem dX12_wander_105 : decode cX12_wander 105 = .ok (.iadd, 1) := dc_96 (by decide +kernel)
theorem dX12_wander_106 : decode cX12_wander 106 = .ok (.putfield 463, 3) := dc_181 (a := 1) (b := 207) (by decide +kernel)
theorem dX12_wander_109 : decode cX12_wander 109 = .ok (.aload_n 0, 1) := dc_42 (by decide +kernel)
theorem dX12_wander_110 : decode cX12_wander 110 = .ok (.getfield 186, 3) := dc_180 (a := 0) (b := 186) (by decide +kernel)
theorem dX12_wander_113 : decode cX12_wander 113 = .ok (.aload_n 0, 1) := dc_42 (by decide +kernel)
theorem dX12_wander_114 : decode cX12_wander 114 = .ok (.getfield 463, 3) := dc_180 (a := 1) (b := 207) (by decide +kernel)
theorem dX12_wander_117 : decode cX12_wander 117 = .ok (.iload_n 2, 1) := dc_28 (by decide +kernel)
theorem dX12_wander_118 : decode cX12_wander 118 = .ok (.iastore, 1) := dc_79 (by decide +kernel)
theorem dX12_wander_119 : decode cX12_wander 119 = .ok (.goto (-105), 3) := dc_167 (a := 255) (b := 151) (by decide +kernel) (by decide)
theorem dX12_wander_122 : decode cX12_wander 122 = .ok (.return_, 1) := dc_177 (by decide +kernel)
set_option maxRecDepth 100000 in
set_option maxHeartbeats 4000000 in
theorem w_M_wander_L25 {p : Program} {l : Launch} {e : Env} {R : Room} {s : State} {m : MethodId} {args : Array Value} {below : List Frame} {meth : Method} {c : Code} {dC : Nat → ClassId} {dI : Nat → Nat → Nat} {cs : Nat → ClassId} {ad : Nat → Nat} {A : Nat → Prop} {D0 : Nat → Nat} {S' : SS} (F : Fx p s m args meth c cX12_wander 4 RX12 none dC dI cs A) (hR1 : 3 ≤ R.frames) (hR2 : 71 ≤ R.locals) (K14 : Int32 → SS → Option (SS)) (hK14 : ∀ (v0 : Int32) (S : SS), K14 v0 S = some S' → AW p l e R s m args below meth c dC dI cs ad A D0 none S' 4 14 [(0, .ref (ad 0)), (2, .int v0)] [] S) : ∀ (n : Nat) (x2 : Int32) (x3 : Int32) (S : SS), f_M_wander_L25 K14 n x2 x3 S = some S' → AW p l e R s m args below meth c dC dI cs ad A D0 none S' 4 25 [(0, .ref (ad 0)), (2, .int x2), (3, .int x3)] [] S := by
  have hx := F.1.1
  have hb := F.1.2.1
  intro n
  induction n with
  | zero => intro x2 x3 S h; cases h
  | succ n ih =>
    intro x2 x3 S h H locs ls w hl
    rw [f_M_wander_L25] at h
    refine lv_aload_n (pc := 25) hx hb dX12_wander_25 rfl (lv_at hl 0 rfl) ?_
    refine lv_iload_n (pc := 26) hx hb dX12_wander_26 rfl (lv_at hl 1 rfl) ?_
    refine lv_iload_n (pc := 27) hx hb dX12_wander_27 rfl (lv_at hl 2 rfl) ?_
    refine lv_bipush (pc := 28) (v := 20) hx hb dX12_wander_28 (by decide) ?_
    refine lv_idiv (pc := 30) hx hb dX12_wander_30 (by decide) ?_
    refine lv_iload_n (pc := 31) hx hb dX12_wander_31 rfl (lv_at hl 2 rfl) ?_
    refine lv_iconst (pc := 32) (v := 5) hx hb dX12_wander_32 (by decide) ?_
    refine lv_idiv (pc := 33) hx hb dX12_wander_33 (by decide) ?_
    refine lv_iconst (pc := 34) (v := 4) hx hb dX12_wander_34 (by decide) ?_
    refine lv_irem (pc := 35) hx hb dX12_wander_35 (by decide) ?_
    refine lv_iload_n (pc := 36) hx hb dX12_wander_36 rfl (lv_at hl 2 rfl) ?_
    refine lv_iconst (pc := 37) (v := 5) hx hb dX12_wander_37 (by decide) ?_
    refine lv_irem (pc := 38) hx hb dX12_wander_38 (by decide) ?_
    refine lv_iconst (pc := 39) (v := 1) hx hb dX12_wander_39 (by decide) ?_
    refine lv_iadd (pc := 40) hx hb dX12_wander_40 ?_
    obtain ⟨r4, S3, hc, h⟩ := bnd_t h
    refine s_cvi (pc := 41) [.int x2, .int (x3 / (20 : Int32)), .int ((x3 / (5 : Int32)) - (x3 / (5 : Int32)) / (4 : Int32) * (4 : Int32)), .int ((x3 - x3 / (5 : Int32) * (5 : Int32)) + (1 : Int32))] (fun ad => [.ref (ad 0), .int x2, .int (x3 / (20 : Int32)), .int ((x3 / (5 : Int32)) - (x3 / (5 : Int32)) / (4 : Int32) * (4 : Int32)), .int ((x3 - x3 / (5 : Int32) * (5 : Int32)) + (1 : Int32))]) F w (m_M_hasFallen _ _ _ _ _ _ _ hc) rfl rfl hl.1 ds_0 vc_X12 rfl ok_X12_hasFallen rfl kc_X12_hasFallen kl_X12_489 ki_X12_hasFallen kv_X12_hasFallen kn_X12 ⟨Nat.le_trans (by decide) hR1, Nat.le_trans (by decide) hR2⟩ ⟨Nat.zero_le _, Nat.zero_le _⟩ (Nat.le_of_ble_eq_true rfl) dX12_wander_41 (fun H locs w => ?_)
    refine lv_if_ne (pc := 44) (tgt := 53) hx hb dX12_wander_44 (by decide) (fun q => ?_) (fun q => ?_)
    · have h := ite_f q h
      refine lv_aload_n (pc := 53) hx hb dX12_wander_53 rfl (lv_at hl 0 rfl) ?_
      refine s_getR (pc := 54) F w 51 ds_0 (j := 78) vc_X12 vi_X12 rfl (by decide) kf_X12_171 dX12_wander_54 ?_
      refine lv_aload_n (pc := 57) hx hb dX12_wander_57 rfl (lv_at hl 0 rfl) ?_
      refine s_getI (pc := 58) F w ds_0 (j := 77) vc_X12 vi_X12 rfl (by decide) kf_X12_463 dX12_wander_58 ?_
      refine lv_iload_n (pc := 61) hx hb dX12_wander_61 rfl (lv_at hl 2 rfl) ?_
      refine lv_bipush (pc := 62) (v := 20) hx hb dX12_wander_62 (by decide) ?_
      refine lv_idiv (pc := 64) hx hb dX12_wander_64 (by decide) ?_
      refine s_iast (pc := 65) F w ds_51 h dX12_wander_65 (fun S5 H locs h w => ?_)
      refine lv_aload_n (pc := 66) hx hb dX12_wander_66 rfl (lv_at hl 0 rfl) ?_
      refine s_getR (pc := 67) F w 52 ds_0 (j := 79) vc_X12 vi_X12 rfl (by decide) kf_X12_174 dX12_wander_67 ?_
      refine lv_aload_n (pc := 70) hx hb dX12_wander_70 rfl (lv_at hl 0 rfl) ?_
      refine s_getI (pc := 71) F w ds_0 (j := 77) vc_X12 vi_X12 rfl (by decide) kf_X12_463 dX12_wander_71 ?_
      refine lv_iload_n (pc := 74) hx hb dX12_wander_74 rfl (lv_at hl 2 rfl) ?_
      refine lv_iconst (pc := 75) (v := 5) hx hb dX12_wander_75 (by decide) ?_
      refine lv_idiv (pc := 76) hx hb dX12_wander_76 (by decide) ?_
      refine lv_iconst (pc := 77) (v := 4) hx hb dX12_wander_77 (by decide) ?_
      refine lv_irem (pc := 78) hx hb dX12_wander_78 (by decide) ?_
      refine s_iast (pc := 79) F w ds_52 h dX12_wander_79 (fun S6 H locs h w => ?_)
      refine lv_aload_n (pc := 80) hx hb dX12_wander_80 rfl (lv_at hl 0 rfl) ?_
      refine s_getR (pc := 81) F w 53 ds_0 (j := 80) vc_X12 vi_X12 rfl (by decide) kf_X12_177 dX12_wander_81 ?_
      refine lv_aload_n (pc := 84) hx hb dX12_wander_84 rfl (lv_at hl 0 rfl) ?_
      refine s_getI (pc := 85) F w ds_0 (j := 77) vc_X12 vi_X12 rfl (by decide) kf_X12_463 dX12_wander_85 ?_
      refine lv_iload_n (pc := 88) hx hb dX12_wander_88 rfl (lv_at hl 2 rfl) ?_
      refine lv_iconst (pc := 89) (v := 5) hx hb dX12_wander_89 (by decide) ?_
      refine lv_irem (pc := 90) hx hb dX12_wander_90 (by decide) ?_
      refine lv_iconst (pc := 91) (v := 1) hx hb dX12_wander_91 (by decide) ?_
      refine lv_iadd (pc := 92) hx hb dX12_wander_92 ?_
      refine s_iast (pc := 93) F w ds_53 h dX12_wander_93 (fun S7 H locs h w => ?_)
      refine lv_aload_n (pc := 94) hx hb dX12_wander_94 rfl (lv_at hl 0 rfl) ?_
      obtain ⟨r9, S8, hc, h⟩ := bnd_t h
      refine s_cvi (pc := 95) [] (fun ad => [.ref (ad 0)]) F w (m_M_code  _ _ _ hc) rfl rfl hl.1 ds_0 vc_X12 rfl ok_X12_code rfl kc_X12_code kl_X12_476 ki_X12_code kv_X12_code kn_X12 ⟨Nat.le_trans (by decide) hR1, Nat.le_trans (by decide) hR2⟩ ⟨Nat.zero_le _, Nat.zero_le _⟩ (Nat.le_of_ble_eq_true rfl) dX12_wander_95 (fun H locs w => ?_)
      refine lv_istore_n (pc := 98) (lv' := [(2, .int r9), (0, .ref (ad 0)), (3, .int x3)]) hx hb dX12_wander_98 rfl hl (by decide) rfl (fun ls hl => ?_)
      refine lv_aload_n (pc := 99) hx hb dX12_wander_99 rfl (lv_at hl 1 rfl) ?_
      refine lv_dup (pc := 100) hx hb dX12_wander_100 rfl ?_
      refine s_getI (pc := 101) F w ds_0 (j := 77) vc_X12 vi_X12 rfl (by decide) kf_X12_463 dX12_wander_101 ?_
      refine lv_iconst (pc := 104) (v := 1) hx hb dX12_wander_104 (by decide) ?_
      refine lv_iadd (pc := 105) hx hb dX12_wander_105 ?_
      refine s_putI (pc := 106) F w ds_0 vc_X12 vi_X12 tyX12_ok nmX12 (j := 77) rfl (by decide) kf_X12_463 rfl pd_I h dX12_wander_106 (fun S10 H locs h w => ?_)
      refine lv_aload_n (pc := 109) hx hb dX12_wander_109 rfl (lv_at hl 1 rfl) ?_
      refine s_getR (pc := 110) F w 56 ds_0 (j := 84) vc_X12 vi_X12 rfl (by decide) kf_X12_186 dX12_wander_110 ?_
      refine lv_aload_n (pc := 113) hx hb dX12_wander_113 rfl (lv_at hl 1 rfl) ?_
      refine s_getI (pc := 114) F w ds_0 (j := 77) vc_X12 vi_X12 rfl (by decide) kf_X12_463 dX12_wander_114 ?_
      refine lv_iload_n (pc := 117) hx hb dX12_wander_117 rfl (lv_at hl 0 rfl) ?_
      refine s_iast (pc := 118) F w ds_56 h dX12_wander_118 (fun S11 H locs h w => ?_)
      refine lv_goto (pc := 119) (tgt := 14) hx hb dX12_wander_119 (by decide) ?_
      exact hK14 _ _ h _ _ _ w (lv_sub hl [1, 0] rfl)
    · have h := ite_t q h
      refine s_nm h (fun z12 ez12 h => ?_)
      refine lv_iinc (pc := 47) (v := z12) (lv' := [(3, .int z12), (0, .ref (ad 0)), (2, .int x2)]) hx hb dX12_wander_47 hl (k := 2) rfl (by rw [ez12]; rfl) (by decide) rfl (fun ls hl => ?_)
      refine lv_goto (pc := 50) (tgt := 25) hx hb dX12_wander_50 (by decide) ?_
      exact ih _ _ _ h _ _ _ w (lv_sub hl [1, 2, 0] rfl)
set_option maxRecDepth 100000 in
set_option maxHeartbeats 4000000 in
theorem w_M_wander_L14 {p : Program} {l : Launch} {e : Env} {R : Room} {s : State} {m : MethodId} {args : Array Value} {below : List Frame} {meth : Method} {c : Code} {dC : Nat → ClassId} {dI : Nat → Nat → Nat} {cs : Nat → ClassId} {ad : Nat → Nat} {A : Nat → Prop} {D0 : Nat → Nat} {S' : SS} (F : Fx p s m args meth c cX12_wander 4 RX12 none dC dI cs A) (hR1 : 3 ≤ R.frames) (hR2 : 71 ≤ R.locals) : ∀ (n : Nat) (x2 : Int32) (S : SS), f_M_wander_L14 n x2 S = some S' → AW p l e R s m args below meth c dC dI cs ad A D0 none S' 4 14 [(0, .ref (ad 0)), (2, .int x2)] [] S := by
  have hx := F.1.1
  have hb := F.1.2.1
  intro n
  induction n with
  | zero => intro x2 S h; cases h
  | succ n ih =>
    intro x2 S h H locs ls w hl
    rw [f_M_wander_L14] at h
    refine lv_aload_n (pc := 14) hx hb dX12_wander_14 rfl (lv_at hl 0 rfl) ?_
    refine s_getR (pc := 15) F w 55 ds_0 (j := 83) vc_X12 vi_X12 rfl (by decide) kf_X12_183 dX12_wander_15 ?_
    refine lv_iload_n (pc := 18) hx hb dX12_wander_18 rfl (lv_at hl 1 rfl) ?_
    refine s_iald (pc := 19) F w ds_55 h dX12_wander_19 (fun h => ?_)
    refine lv_if_le (pc := 20) (tgt := 122) hx hb dX12_wander_20 (by decide) (fun q => ?_) (fun q => ?_)
    · have h := ite_t q h
      exact s_vret F w h dX12_wander_122
    · have h := ite_f q h
      refine lv_iconst (pc := 23) (v := 0) hx hb dX12_wander_23 (by decide) ?_
      refine lv_istore_n (pc := 24) (lv' := [(3, .int (0 : Int32)), (0, .ref (ad 0)), (2, .int x2)]) hx hb dX12_wander_24 rfl hl (by decide) rfl (fun ls hl => ?_)
      exact w_M_wander_L25 F (Nat.le_trans (by decide) hR1) (Nat.le_trans (by decide) hR2) _ (fun v0 S h => ih v0 S h) _ _ _ _ h _ _ _ w (lv_sub hl [1, 2, 0] rfl)
set_option maxRecDepth 100000 in
set_option maxHeartbeats 4000000 in
theorem m_M_wander (a1 : Int32) (S S' : SS) (h : f_M_wander a1 S = some S') : MT yX12_wander cX12_wander 4 none 3 71 (fun ad => [.ref (ad 0), .int a1]) S none S' := by
  refine MT.of RX12 (fun ad => [(0, .ref (ad 0)), (1, .int a1)]) (by decide) rfl (fun _ => Nat.le_of_ble_eq_true rfl) (fun _ => rfl) ?_
  intro p l e R s m args below meth c dC dI cs ad A hR1 hR2 F H locs ls w hl
  have hx := F.1.1
  have hb := F.1.2.1
  rw [f_M_wander] at h
  refine lv_iload_n (pc := 0) hx hb dX12_wander_0 rfl (lv_at hl 1 rfl) ?_
  refine lv_istore_n (pc := 1) (lv' := [(2, .int a1), (0, .ref (ad 0)), (1, .int a1)]) hx hb dX12_wander_1 rfl hl (by decide) rfl (fun ls hl => ?_)
  refine lv_aload_n (pc := 2) hx hb dX12_wander_2 rfl (lv_at hl 1 rfl) ?_
  refine lv_iconst (pc := 3) (v := 0) hx hb dX12_wander_3 (by decide) ?_
  refine s_putI (pc := 4) F w ds_0 vc_X12 vi_X12 tyX12_ok nmX12 (j := 77) rfl (by decide) kf_X12_463 rfl pd_I h dX12_wander_4 (fun S1 H locs h w => ?_)
  refine lv_aload_n (pc := 7) hx hb dX12_wander_7 rfl (lv_at hl 1 rfl) ?_
  refine s_getR (pc := 8) F w 56 ds_0 (j := 84) vc_X12 vi_X12 rfl (by decide) kf_X12_186 dX12_wander_8 ?_
  refine lv_iconst (pc := 11) (v := 0) hx hb dX12_wander_11 (by decide) ?_
  refine lv_iload_n (pc := 12) hx hb dX12_wander_12 rfl (lv_at hl 0 rfl) ?_
  refine s_iast (pc := 13) F w ds_56 h dX12_wander_13 (fun S2 H locs h w => ?_)
  exact w_M_wander_L14 F (Nat.le_trans (by decide) hR1) (Nat.le_trans (by decide) hR2) _ _ _ h _ _ _ w (lv_sub hl [1, 0] rfl)
