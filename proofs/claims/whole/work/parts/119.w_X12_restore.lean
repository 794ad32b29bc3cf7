/-! ===== printed by wip/gen: X12_restore X12_undo X12_back X11_digestThing X11_digest ===== -/
def f_X12_restore_L275  : Nat → Int32 → Int32 → SS → Option (SS)
  | 0, _, _, _ => none
  | n + 1, x2, x3, S =>
    if (40 : Int32) ≤ x3 then
      grd (inb x2 18576) (
      wr S 14 48 (S.1 107 x2.toNatClampNeg) (fun S2 =>
      some S2))
    else
      grd (inb x2 18576) (
      grd (inb x3 40) (wr S 77 x3.toNatClampNeg (S.1 107 x2.toNatClampNeg) (fun S3 =>
      grd (inb (x2 + (1 : Int32)) 18576) (
      grd (inb x3 40) (wr S3 78 x3.toNatClampNeg (S3.1 107 (x2 + (1 : Int32)).toNatClampNeg) (fun S4 =>
      nm (x2 + (2 : Int32)) (fun z5 =>
      nm (x3 + (1 : Int32)) (fun z6 =>
      f_X12_restore_L275 n z5 z6 S4))))))))
def f_X12_restore_j263 (K8 : Int32 → Int32 → SS → Option (SS)) (x2 : Int32) (x3 : Int32) (y0 : Int32) (y1 : Int32) (S : SS) : Option (SS) :=
    grd (inb y1 72) (wr S 101 y1.toNatClampNeg (vp_nar .boolean y0) (fun S21 =>
    nm (x2 + (15 : Int32)) (fun z22 =>
    nm (x3 + (1 : Int32)) (fun z23 =>
    K8 z22 z23 S21))))
def f_X12_restore_j209 (K8 : Int32 → Int32 → SS → Option (SS)) (x2 : Int32) (x3 : Int32) (y0 : Int32) (y1 : Int32) (S : SS) : Option (SS) :=
    grd (inb y1 72) (wr S 98 y1.toNatClampNeg (vp_nar .boolean y0) (fun S18 =>
    grd (inb (x2 + (12 : Int32)) 18576) (
    grd (inb x3 72) (wr S18 99 x3.toNatClampNeg (S18.1 107 (x2 + (12 : Int32)).toNatClampNeg) (fun S19 =>
    grd (inb (x2 + (13 : Int32)) 18576) (
    grd (inb x3 72) (wr S19 100 x3.toNatClampNeg (S19.1 107 (x2 + (13 : Int32)).toNatClampNeg) (fun S20 =>
    grd (inb (x2 + (14 : Int32)) 18576) (
    if (S20.1 107 (x2 + (14 : Int32)).toNatClampNeg) = (1 : Int32) then
      f_X12_restore_j263 K8 x2 x3 (1 : Int32) x3 S20
    else
      f_X12_restore_j263 K8 x2 x3 (0 : Int32) x3 S20)))))))))
def f_X12_restore_j34 (K8 : Int32 → Int32 → SS → Option (SS)) (x2 : Int32) (x3 : Int32) (y0 : Int32) (y1 : Int32) (S : SS) : Option (SS) :=
    grd (inb y1 72) (wr S 86 y1.toNatClampNeg (vp_nar .boolean y0) (fun S7 =>
    grd (inb (x2 + (1 : Int32)) 18576) (
    grd (inb x3 72) (wr S7 87 x3.toNatClampNeg (S7.1 107 (x2 + (1 : Int32)).toNatClampNeg) (fun S8 =>
    grd (inb (x2 + (2 : Int32)) 18576) (
    grd (inb x3 72) (wr S8 88 x3.toNatClampNeg (S8.1 107 (x2 + (2 : Int32)).toNatClampNeg) (fun S9 =>
    grd (inb (x2 + (3 : Int32)) 18576) (
    grd (inb x3 72) (wr S9 89 x3.toNatClampNeg (S9.1 107 (x2 + (3 : Int32)).toNatClampNeg) (fun S10 =>
    grd (inb (x2 + (4 : Int32)) 18576) (
    grd (inb ((2 : Int32) * x3) 144) (wr S10 90 ((2 : Int32) * x3).toNatClampNeg (S10.1 107 (x2 + (4 : Int32)).toNatClampNeg) (fun S11 =>
    grd (inb (x2 + (5 : Int32)) 18576) (
    grd (inb (((2 : Int32) * x3) + (1 : Int32)) 144) (wr S11 90 (((2 : Int32) * x3) + (1 : Int32)).toNatClampNeg (S11.1 107 (x2 + (5 : Int32)).toNatClampNeg) (fun S12 =>
    grd (inb (x2 + (6 : Int32)) 18576) (
    grd (inb x3 72) (wr S12 91 x3.toNatClampNeg (S12.1 107 (x2 + (6 : Int32)).toNatClampNeg) (fun S13 =>
    grd (inb (x2 + (7 : Int32)) 18576) (
    grd (inb x3 72) (wr S13 92 x3.toNatClampNeg (S13.1 107 (x2 + (7 : Int32)).toNatClampNeg) (fun S14 =>
    grd (inb (x2 + (8 : Int32)) 18576) (
    grd (inb x3 72) (wr S14 93 x3.toNatClampNeg (S14.1 107 (x2 + (8 : Int32)).toNatClampNeg) (fun S15 =>
    grd (inb (x2 + (9 : Int32)) 18576) (
    grd (inb x3 72) (wr S15 94 x3.toNatClampNeg (S15.1 107 (x2 + (9 : Int32)).toNatClampNeg) (fun S16 =>
    grd (inb (x2 + (10 : Int32)) 18576) (
    grd (inb x3 72) (wr S16 97 x3.toNatClampNeg (S16.1 107 (x2 + (10 : Int32)).toNatClampNeg) (fun S17 =>
    grd (inb (x2 + (11 : Int32)) 18576) (
    if (S17.1 107 (x2 + (11 : Int32)).toNatClampNeg) = (1 : Int32) then
      f_X12_restore_j209 K8 x2 x3 (1 : Int32) x3 S17
    else
      f_X12_restore_j209 K8 x2 x3 (0 : Int32) x3 S17)))))))))))))))))))))))))))))))))
def f_X12_restore_L8  : Nat → Int32 → Int32 → SS → Option (SS)
  | 0, _, _, _ => none
  | n + 1, x2, x3, S =>
    if (72 : Int32) ≤ x3 then
      f_X12_restore_L275 NF x2 (0 : Int32) S
    else
      grd (inb x2 18576) (
      if (S.1 107 x2.toNatClampNeg) = (1 : Int32) then
        f_X12_restore_j34 (fun v0 v1 S => f_X12_restore_L8 n v0 v1 S) x2 x3 (1 : Int32) x3 S
      else
        f_X12_restore_j34 (fun v0 v1 S => f_X12_restore_L8 n v0 v1 S) x2 x3 (0 : Int32) x3 S)
def f_X12_restore (a1 : Int32) (S : SS) : Option (SS) :=
  nm ((1161 : Int32) * a1) (fun z1 =>
  f_X12_restore_L8 NF z1 (0 : Int32) S)
theorem dX12_restore_0 : decode cX12_restore 0 = .ok (.sipush 1161, 3) := by decide +kernel
theorem dX12_restore_3 : decode cX12_restore 3 = .ok (.iload_n 1, 1) := by decide +kernel
theorem dX12_restore_4 : decode cX12_restore 4 = .ok (.imul, 1) := by decide +kernel
theorem dX12_restore_5 : decode cX12_restore 5 = .ok (.istore_n 2, 1) := by decide +kernel
theorem dX12_restore_6 : decode cX12_restore 6 = .ok (.iconst 0, 1) := by decide +kernel
theorem dX12_restore_7 : decode cX12_restore 7 = .ok (.istore_n 3, 1) := by decide +kernel
theorem dX12_restore_8 : decode cX12_restore 8 = .ok (.iload_n 3, 1) := by decide +kernel
theorem dX12_restore_9 : decode cX12_restore 9 = .ok (.bipush 72, 2) := by decide +kernel
theorem dX12_restore_11 : decode cX12_restore 11 = .ok (.if_icmp .ge 262, 3) := by decide +kernel
theorem dX12_restore_14 : decode cX12_restore 14 = .ok (.aload_n 0, 1) := by decide +kernel
theorem dX12_restore_15 : decode cX12_restore 15 = .ok (.getfield 72, 3) := by decide +kernel
theorem dX12_restore_18 : decode cX12_restore 18 = .ok (.iload_n 3, 1) := by decide +kernel
theorem dX12_restore_19 : decode cX12_restore 19 = .ok (.aload_n 0, 1) := by decide +kernel
theorem dX12_restore_20 : decode cX12_restore 20 = .ok (.getfield 135, 3) := by decide +kernel
theorem dX12_restore_23 : decode cX12_restore 23 = .ok (.iload_n 2, 1) := by decide +kernel
theorem dX12_restore_24 : decode cX12_restore 24 = .ok (.iaload, 1) := by decide +kernel
theorem dX12_restore_25 : decode cX12_restore 25 = .ok (.iconst 1, 1) := by decide +kernel
theorem dX12_restore_26 : decode cX12_restore 26 = .ok (.if_icmp .ne 7, 3) := by decide +kernel
theorem dX12_restore_29 : decode cX12_restore 29 = .ok (.iconst 1, 1) := by decide +kernel
theorem dX12_restore_30 : decode cX12_restore 30 = .ok (.goto 4, 3) := by decide +kernel
theorem dX12_restore_33 : decode cX12_restore 33 = .ok (.iconst 0, 1) := by decide +kernel
theorem dX12_restore_34 : decode cX12_restore 34 = .ok (.bastore, 1) := by decide +kernel
theorem dX12_restore_35 : decode cX12_restore 35 = .ok (.aload_n 0, 1) := by decide +kernel
theorem dX12_restore_36 : decode cX12_restore 36 = .ok (.getfield 75, 3) := by decide +kernel
theorem dX12_restore_39 : decode cX12_restore 39 = .ok (.iload_n 3, 1) := by decide +kernel
theorem dX12_restore_40 : decode cX12_restore 40 = .ok (.aload_n 0, 1) := by decide +kernel
theorem dX12_restore_41 : decode cX12_restore 41 = .ok (.getfield 135, 3) := by decide +kernel
theorem dX12_restore_44 : decode cX12_restore 44 = .ok (.iload_n 2, 1) := by decide +kernel
theorem dX12_restore_45 : decode cX12_restore 45 = .ok (.iconst 1, 1) := by decide +kernel
theorem dX12_restore_46 : decode cX12_restore 46 = .ok (.iadd, 1) := by decide +kernel
theorem dX12_restore_47 : decode cX12_restore 47 = .ok (.iaload, 1) := by decide +kernel
theorem dX12_restore_48 : decode cX12_restore 48 = .ok (.iastore, 1) := by decide +kernel
theorem dX12_restore_49 : decode cX12_restore 49 = .ok (.aload_n 0, 1) := by decide +kernel
theorem dX12_restore_50 : decode cX12_restore 50 = .ok (.getfield 78, 3) := by decide +kernel
theorem dX12_restore_53 : decode cX12_restore 53 = .ok (.iload_n 3, 1) := by decide +kernel
theorem dX12_restore_54 : decode cX12_restore 54 = .ok (.aload_n 0, 1) := by decide +kernel
theorem dX12_restore_55 : decode cX12_restore 55 = .ok (.getfield 135, 3) := by decide +kernel
theorem dX12_restore_58 : decode cX12_restore 58 = .ok (.iload_n 2, 1) := by decide +kernel
theorem dX12_restore_59 : decode cX12_restore 59 = .ok (.iconst 2, 1) := by decide +kernel
theorem dX12_restore_60 : decode cX12_restore 60 = .ok (.iadd, 1) := by decide +kernel
theorem dX12_restore_61 : decode cX12_restore 61 = .ok (.iaload, 1) := by decide +kernel
theorem dX12_restore_62 : decode cX12_restore 62 = .ok (.iastore, 1) := by decide +kernel
theorem dX12_restore_63 : decode cX12_restore 63 = .ok (.aload_n 0, 1) := by decide +kernel
theorem dX12_restore_64 : decode cX12_restore 64 = .ok (.getfield 81, 3) := by decide +kernel
theorem dX12_restore_67 : decode cX12_restore 67 = .ok (.iload_n 3, 1) := by decide +kernel
theorem dX12_restore_68 : decode cX12_restore 68 = .ok (.aload_n 0, 1) := by decide +kernel
theorem dX12_restore_69 : decode cX12_restore 69 = .ok (.getfield 135, 3) := by decide +kernel
theorem dX12_restore_72 : decode cX12_restore 72 = .ok (.iload_n 2, 1) := by decide +kernel
theorem dX12_restore_73 : decode cX12_restore 73 = .ok (.iconst 3, 1) := by decide +kernel
theorem dX12_restore_74 : decode cX12_restore 74 = .ok (.iadd, 1) := by decide +kernel
theorem dX12_restore_75 : decode cX12_restore 75 = .ok (.iaload, 1) := by decide +kernel
theorem dX12_restore_76 : decode cX12_restore 76 = .ok (.iastore, 1) := by decide +kernel
theorem dX12_restore_77 : decode cX12_restore 77 = .ok (.aload_n 0, 1) := by decide +kernel
theorem dX12_restore_78 : decode cX12_restore 78 = .ok (.getfield 84, 3) := by decide +kernel
theorem dX12_restore_81 : decode cX12_restore 81 = .ok (.iconst 2, 1) := by decide +kernel
theorem dX12_restore_82 : decode cX12_restore 82 = .ok (.iload_n 3, 1) := by decide +kernel
theorem dX12_restore_83 : decode cX12_restore 83 = .ok (.imul, 1) := by decide +kernel
theorem dX12_restore_84 : decode cX12_restore 84 = .ok (.aload_n 0, 1) := by decide +kernel
theorem dX12_restore_85 : decode cX12_restore 85 = .ok (.getfield 135, 3) := by decide +kernel
theorem dX12_restore_88 : decode cX12_restore 88 = .ok (.iload_n 2, 1) := by decide +kernel
theorem dX12_restore_89 : decode cX12_restore 89 = .ok (.iconst 4, 1) := by decide +kernel
theorem dX12_restore_90 : decode cX12_restore 90 = .ok (.iadd, 1) := by decide +kernel
theorem dX12_restore_91 : decode cX12_restore 91 = .ok (.iaload, 1) := by decide +kernel
theorem dX12_restore_92 : decode cX12_restore 92 = .ok (.iastore, 1) := by decide +kernel
theorem dX12_restore_93 : decode cX12_restore 93 = .ok (.aload_n 0, 1) := by decide +kernel
theorem dX12_restore_94 : decode cX12_restore 94 = .ok (.getfield 84, 3) := by decide +kernel
theorem dX12_restore_97 : decode cX12_restore 97 = .ok (.iconst 2, 1) := by decide +kernel
theorem dX12_restore_98 : decode cX12_restore 98 = .ok (.iload_n 3, 1) := by decide +kernel
theorem dX12_restore_99 : decode cX12_restore 99 = .ok (.imul, 1) := by decide +kernel
theorem dX12_restore_100 : decode cX12_restore 100 = .ok (.iconst 1, 1) := by decide +kernel
theorem dX12_restore_101 : decode cX12_restore 101 = .ok (.iadd, 1) := by decide +kernel
theorem dX12_restore_102 : decode cX12_restore 102 = .ok (.aload_n 0, 1) := by decide +kernel
theorem dX12_restore_103 : decode cX12_restore 103 = .ok (.getfield 135, 3) := by decide +kernel
theorem dX12_restore_106 : decode cX12_restore 106 = .ok (.iload_n 2, 1) := by decide +kernel
theorem dX12_restore_107 : decode cX12_restore 107 = .ok (.iconst 5, 1) := by decide +kernel
theorem dX12_restore_108 : decode cX12_restore 108 = .ok (.iadd, 1) := by decide +kernel
theorem dX12_restore_109 : decode cX12_restore 109 = .ok (.iaload, 1) := by decide +kernel
theorem dX12_restore_110 : decode cX12_restore 110 = .ok (.iastore, 1) := by decide +kernel
theorem dX12_restore_111 : decode cX12_restore 111 = .ok (.aload_n 0, 1) := by decide +kernel
theorem dX12_restore_112 : decode cX12_restore 112 = .ok (.getfield 87, 3) := by decide +kernel
theorem dX12_restore_115 : decode cX12_restore 115 = .ok (.iload_n 3, 1) := by decide +kernel
theorem dX12_restore_116 : decode cX12_restore 116 = .ok (.aload_n 0, 1) := by decide +kernel
theorem dX12_restore_117 : decode cX12_restore 117 = .ok (.getfield 135, 3) := by decide +kernel
theorem dX12_restore_120 : decode cX12_restore 120 = .ok (.iload_n 2, 1) := by decide +kernel
theorem dX12_restore_121 : decode cX12_restore 121 = .ok (.bipush 6, 2) := by decide +kernel
theorem dX12_restore_123 : decode cX12_restore 123 = .ok (.iadd, 1) := by decide +kernel
theorem dX12_restore_124 : decode cX12_restore 124 = .ok (.iaload, 1) := by decide +kernel
theorem dX12_restore_125 : decode cX12_restore 125 = .ok (.iastore, 1) := by decide +kernel
theorem dX12_restore_126 : decode cX12_restore 126 = .ok (.aload_n 0, 1) := by decide +kernel
theorem dX12_restore_127 : decode cX12_restore 127 = .ok (.getfield 90, 3) := by decide +kernel
theorem dX12_restore_130 : decode cX12_restore 130 = .ok (.iload_n 3, 1) := by decide +kernel
theorem dX12_restore_131 : decode cX12_restore 131 = .ok (.aload_n 0, 1) := by decide +kernel
theorem dX12_restore_132 : decode cX12_restore 132 = .ok (.getfield 135, 3) := by decide +kernel
theorem dX12_restore_135 : decode cX12_restore 135 = .ok (.iload_n 2, 1) := by decide +kernel
theorem dX12_restore_136 : decode cX12_restore 136 = .ok (.bipush 7, 2) := by decide +kernel
theorem dX12_restore_138 : decode cX12_restore 138 = .ok (.iadd, 1) := by decide +kernel
theorem dX12_restore_139 : decode cX12_restore 139 = .ok (.iaload, 1) := by decide +kernel
theorem dX12_restore_140 : decode cX12_restore 140 = .ok (.iastore, 1) := by decide +kernel
theorem dX12_restore_141 : decode cX12_restore 141 = .ok (.aload_n 0, 1) := by decide +kernel
theorem dX12_restore_142 : decode cX12_restore 142 = .ok (.getfield 93, 3) := by decide +kernel
theorem dX12_restore_145 : decode cX12_restore 145 = .ok (.iload_n 3, 1) := by decide +kernel
theorem dX12_restore_146 : decode cX12_restore 146 = .ok (.aload_n 0, 1) := by decide +kernel
theorem dX12_restore_147 : decode cX12_restore 147 = .ok (.getfield 135, 3) := by decide +kernel
theorem dX12_restore_150 : decode cX12_restore 150 = .ok (.iload_n 2, 1) := by decide +kernel
theorem dX12_restore_151 : decode cX12_restore 151 = .ok (.bipush 8, 2) := by decide +kernel
theorem dX12_restore_153 : decode cX12_restore 153 = .ok (.iadd, 1) := by decide +kernel
theorem dX12_restore_154 : decode cX12_restore 154 = .ok (.iaload, 1) := by decide +kernel
theorem dX12_restore_155 : decode cX12_restore 155 = .ok (.iastore, 1) := by decide +kernel
theorem dX12_restore_156 : decode cX12_restore 156 = .ok (.aload_n 0, 1) := by decide +kernel
theorem dX12_restore_157 : decode cX12_restore 157 = .ok (.getfield 96, 3) := by decide +kernel
theorem dX12_restore_160 : decode cX12_restore 160 = .ok (.iload_n 3, 1) := by decide +kernel
theorem dX12_restore_161 : decode cX12_restore 161 = .ok (.aload_n 0, 1) := by decide +kernel
theorem dX12_restore_162 : decode cX12_restore 162 = .ok (.getfield 135, 3) := by decide +kernel
theorem dX12_restore_165 : decode cX12_restore 165 = .ok (.iload_n 2, 1) := by decide +kernel
theorem dX12_restore_166 : decode cX12_restore 166 = .ok (.bipush 9, 2) := by decide +kernel
theorem dX12_restore_168 : decode cX12_restore 168 = .ok (.iadd, 1) := by decide +kernel
theorem dX12_restore_169 : decode cX12_restore 169 = .ok (.iaload, 1) := by decide +kernel
theorem dX12_restore_170 : decode cX12_restore 170 = .ok (.iastore, 1) := by decide +kernel
theorem dX12_restore_171 : decode cX12_restore 171 = .ok (.aload_n 0, 1) := by decide +kernel
theorem dX12_restore_172 : decode cX12_restore 172 = .ok (.getfield 105, 3) := by decide +kernel
theorem dX12_restore_175 : decode cX12_restore 175 = .ok (.iload_n 3, 1) := by decide +kernel
theorem dX12_restore_176 : decode cX12_restore 176 = .ok (.aload_n 0, 1) := by decide +kernel
theorem dX12_restore_177 : decode cX12_restore 177 = .ok (.getfield 135, 3) := by decide +kernel
theorem dX12_restore_180 : decode cX12_restore 180 = .ok (.iload_n 2, 1) := by decide +kernel
theorem dX12_restore_181 : decode cX12_restore 181 = .ok (.bipush 10, 2) := by decide +kernel
theorem dX12_restore_183 : decode cX12_restore 183 = .ok (.iadd, 1) := by decide +kernel
theorem dX12_restore_184 : decode cX12_restore 184 = .ok (.iaload, 1) := by decide +kernel
theorem dX12_restore_185 : decode cX12_restore 185 = .ok (.iastore, 1) := by decide +kernel
theorem dX12_restore_186 : decode cX12_restore 186 = .ok (.aload_n 0, 1) := by decide +kernel
theorem dX12_restore_187 : decode cX12_restore 187 = .ok (.getfield 108, 3) := by decide +kernel
theorem dX12_restore_190 : decode cX12_restore 190 = .ok (.iload_n 3, 1) := by decide +kernel
theorem dX12_restore_191 : decode cX12_restore 191 = .ok (.aload_n 0, 1) := by decide +kernel
theorem dX12_restore_192 : decode cX12_restore 192 = .ok (.getfield 135, 3) := by decide +kernel
theorem dX12_restore_195 : decode cX12_restore 195 = .ok (.iload_n 2, 1) := by decide +kernel
theorem dX12_restore_196 : decode cX12_restore 196 = .ok (.bipush 11, 2) := by decide +kernel
theorem dX12_restore_198 : decode cX12_restore 198 = .ok (.iadd, 1) := by decide +kernel
theorem dX12_restore_199 : decode cX12_restore 199 = .ok (.iaload, 1) := by decide +kernel
theorem dX12_restore_200 : decode cX12_restore 200 = .ok (.iconst 1, 1) := by decide +kernel
theorem dX12_restore_201 : decode cX12_restore 201 = .ok (.if_icmp .ne 7, 3) := by decide +kernel
theorem dX12_restore_204 : decode cX12_restore 204 = .ok (.iconst 1, 1) := by decide +kernel
theorem dX12_restore_205 : decode cX12_restore 205 = .ok (.goto 4, 3) := by decide +kernel
theorem dX12_restore_208 : decode cX12_restore 208 = .ok (.iconst 0, 1) := by decide +kernel
theorem dX12_restore_209 : decode cX12_restore 209 = .ok (.bastore, 1) := by decide +kernel
theorem dX12_restore_210 : decode cX12_restore 210 = .ok (.aload_n 0, 1) := by decide +kernel
theorem dX12_restore_211 : decode cX12_restore 211 = .ok (.getfield 111, 3) := by decide +kernel
theorem dX12_restore_214 : decode cX12_restore 214 = .ok (.iload_n 3, 1) := by decide +kernel
theorem dX12_restore_215 : decode cX12_restore 215 = .ok (.aload_n 0, 1) := by decide +kernel
theorem dX12_restore_216 : decode cX12_restore 216 = .ok (.getfield 135, 3) := by decide +kernel
theorem dX12_restore_219 : decode cX12_restore 219 = .ok (.iload_n 2, 1) := by decide +kernel
theorem dX12_restore_220 : decode cX12_restore 220 = .ok (.bipush 12, 2) := by decide +kernel
theorem dX12_restore_222 : decode cX12_restore 222 = .ok (.iadd, 1) := by decide +kernel
theorem dX12_restore_223 : decode cX12_restore 223 = .ok (.iaload, 1) := by decide +kernel
theorem dX12_restore_224 : decode cX12_restore 224 = .ok (.iastore, 1) := by decide +kernel
theorem dX12_restore_225 : decode cX12_restore 225 = .ok (.aload_n 0, 1) := by decide +kernel
theorem dX12_restore_226 : decode cX12_restore 226 = .ok (.getfield 114, 3) := by decide +kernel
theorem dX12_restore_229 : decode cX12_restore 229 = .ok (.iload_n 3, 1) := by decide +kernel
theorem dX12_restore_230 : decode cX12_restore 230 = .ok (.aload_n 0, 1) := by decide +kernel
theorem dX12_restore_231 : decode cX12_restore 231 = .ok (.getfield 135, 3) := by decide +kernel
theorem dX12_restore_234 : decode cX12_restore 234 = .ok (.iload_n 2, 1) := by decide +kernel
theorem dX12_restore_235 : decode cX12_restore 235 = .ok (.bipush 13, 2) := by decide +kernel
theorem dX12_restore_237 : decode cX12_restore 237 = .ok (.iadd, 1) := by decide +kernel
theorem dX12_restore_238 : decode cX12_restore 238 = .ok (.iaload, 1) := by decide +kernel
theorem dX12_restore_239 : decode cX12_restore 239 = .ok (.iastore, 1) := by decide +kernel
theorem dX12_restore_240 : decode cX12_restore 240 = .ok (.aload_n 0, 1) := by decide +kernel
theorem dX12_restore_241 : decode cX12_restore 241 = .ok (.getfield 117, 3) := by decide +kernel
theorem dX12_restore_244 : decode cX12_restore 244 = .ok (.iload_n 3, 1) := by decide +kernel
theorem dX12_restore_245 : decode cX12_restore 245 = .ok (.aload_n 0, 1) := by decide +kernel
theorem dX12_restore_246 : decode cX12_restore 246 = .ok (.getfield 135, 3) := by decide +kernel
theorem dX12_restore_249 : decode cX12_restore 249 = .ok (.iload_n 2, 1) := by decide +kernel
theorem dX12_restore_250 : decode cX12_restore 250 = .ok (.bipush 14, 2) := by decide +kernel
theorem dX12_restore_252 : decode cX12_restore 252 = .ok (.iadd, 1) := by decide +kernel
theorem dX12_restore_253 : decode cX12_restore 253 = .ok (.iaload, 1) := by decide +kernel
theorem dX12_restore_254 : decode cX12_restore 254 = .ok (.iconst 1, 1) := by decide +kernel
theorem dX12_restore_255 : decode cX12_restore 255 = .ok (.if_icmp .ne 7, 3) := by decide +kernel
theorem dX12_restore_258 : decode cX12_restore 258 = .ok (.iconst 1, 1) := by decide +kernel
theorem dX12_restore_259 : decode cX12_restore 259 = .ok (.goto 4, 3) := by decide +kernel
theorem dX12_restore_262 : decode cX12_restore 262 = .ok (.iconst 0, 1) := by decide +kernel
theorem dX12_restore_263 : decode cX12_restore 263 = .ok (.bastore, 1) := by decide +kernel
theorem dX12_restore_264 : decode cX12_restore 264 = .ok (.iinc 2 15, 3) := by decide +kernel
theorem dX12_restore_267 : decode cX12_restore 267 = .ok (.iinc 3 1, 3) := by decide +kernel
theorem dX12_restore_270 : decode cX12_restore 270 = .ok (.goto (-262), 3) := by decide +kernel
theorem dX12_restore_273 : decode cX12_restore 273 = .ok (.iconst 0, 1) := by decide +kernel
theorem dX12_restore_274 : decode cX12_restore 274 = .ok (.istore_n 3, 1) := by decide +kernel
theorem dX12_restore_275 : decode cX12_restore 275 = .ok (.iload_n 3, 1) := by decide +kernel
theorem dX12_restore_276 : decode cX12_restore 276 = .ok (.bipush 40, 2) := by decide +kernel
theorem dX12_restore_278 : decode cX12_restore 278 = .ok (.if_icmp .ge 38, 3) := by decide +kernel
theorem dX12_restore_281 : decode cX12_restore 281 = .ok (.aload_n 0, 1) := by decide +kernel
theorem dX12_restore_282 : decode cX12_restore 282 = .ok (.getfield 45, 3) := by decide +kernel
theorem dX12_restore_285 : decode cX12_restore 285 = .ok (.iload_n 3, 1) := by decide +kernel
theorem dX12_restore_286 : decode cX12_restore 286 = .ok (.aload_n 0, 1) := by decide +kernel
theorem dX12_restore_287 : decode cX12_restore 287 = .ok (.getfield 135, 3) := by decide +kernel
theorem dX12_restore_290 : decode cX12_restore 290 = .ok (.iload_n 2, 1) := by decide +kernel
theorem dX12_restore_291 : decode cX12_restore 291 = .ok (.iaload, 1) := by decide +kernel
theorem dX12_restore_292 : decode cX12_restore 292 = .ok (.iastore, 1) := by decide +kernel
theorem dX12_restore_293 : decode cX12_restore 293 = .ok (.aload_n 0, 1) := by decide +kernel
theorem dX12_restore_294 : decode cX12_restore 294 = .ok (.getfield 48, 3) := by decide +kernel
theorem dX12_restore_297 : decode cX12_restore 297 = .ok (.iload_n 3, 1) := by decide +kernel
theorem dX12_restore_298 : decode cX12_restore 298 = .ok (.aload_n 0, 1) := by decide +kernel
theorem dX12_restore_299 : decode cX12_restore 299 = .ok (.getfield 135, 3) := by decide +kernel
theorem dX12_restore_302 : decode cX12_restore 302 = .ok (.iload_n 2, 1) := by decide +kernel
theorem dX12_restore_303 : decode cX12_restore 303 = .ok (.iconst 1, 1) := by decide +kernel
theorem dX12_restore_304 : decode cX12_restore 304 = .ok (.iadd, 1) := by decide +kernel
theorem dX12_restore_305 : decode cX12_restore 305 = .ok (.iaload, 1) := by decide +kernel
theorem dX12_restore_306 : decode cX12_restore 306 = .ok (.iastore, 1) := by decide +kernel
theorem dX12_restore_307 : decode cX12_restore 307 = .ok (.iinc 2 2, 3) := by decide +kernel
theorem dX12_restore_310 : decode cX12_restore 310 = .ok (.iinc 3 1, 3) := by decide +kernel
theorem dX12_restore_313 : decode cX12_restore 313 = .ok (.goto (-38), 3) := by decide +kernel
theorem dX12_restore_316 : decode cX12_restore 316 = .ok (.aload_n 0, 1) := by decide +kernel
theorem dX12_restore_317 : decode cX12_restore 317 = .ok (.aload_n 0, 1) := by decide +kernel
theorem dX12_restore_318 : decode cX12_restore 318 = .ok (.getfield 135, 3) := by decide +kernel
theorem dX12_restore_321 : decode cX12_restore 321 = .ok (.iload_n 2, 1) := by decide +kernel
theorem dX12_restore_322 : decode cX12_restore 322 = .ok (.iaload, 1) := by decide +kernel
theorem dX12_restore_323 : decode cX12_restore 323 = .ok (.putfield 334, 3) := by decide +kernel
theorem dX12_restore_326 : decode cX12_restore 326 = .ok (.return_, 1) := by decide +kernel
set_option maxRecDepth 100000 in
set_option maxHeartbeats 4000000 in
theorem w_X12_restore_L275 {p : Program} {l : Launch} {e : Env} {R : Room} {s : State} {m : MethodId} {args : Array Value} {below : List Frame} {meth : Method} {c : Code} {dC : Nat → ClassId} {dI : Nat → Nat → Nat} {cs : Nat → ClassId} {ad : Nat → Nat} {A : Nat → Prop} {D0 : Nat → Nat} {S' : SS} (F : Fx p s m args meth c cX12_restore 4 RX12 none dC dI cs A) (hR1 : 0 ≤ R.frames) (hR2 : 0 ≤ R.locals) : ∀ (n : Nat) (x2 : Int32) (x3 : Int32) (S : SS), f_X12_restore_L275 n x2 x3 S = some S' → AW p l e R s m args below meth c dC dI cs ad A D0 none S' 4 275 [(0, .ref (ad 14)), (2, .int x2), (3, .int x3)] [] S := by
  have hx := F.1.1
  have hb := F.1.2.1
  intro n
  induction n with
  | zero => intro x2 x3 S h; cases h
  | succ n ih =>
    intro x2 x3 S h H locs ls w hl
    rw [f_X12_restore_L275] at h
    refine lv_iload_n (pc := 275) hx hb dX12_restore_275 rfl (lv_at hl 2 rfl) ?_
    refine lv_bipush (pc := 276) (v := 40) hx hb dX12_restore_276 (by decide) ?_
    refine lv_icmp_ge (pc := 278) (tgt := 316) hx hb dX12_restore_278 (by decide) (fun q => ?_) (fun q => ?_)
    · have h := ite_t q h
      refine lv_aload_n (pc := 316) hx hb dX12_restore_316 rfl (lv_at hl 0 rfl) ?_
      refine lv_aload_n (pc := 317) hx hb dX12_restore_317 rfl (lv_at hl 0 rfl) ?_
      refine s_getR (pc := 318) F w 107 ds_14 (j := 59) vc_X12 vi_X12 rfl (by decide) kf_X12_135 dX12_restore_318 ?_
      refine lv_iload_n (pc := 321) hx hb dX12_restore_321 rfl (lv_at hl 1 rfl) ?_
      refine s_iald (pc := 322) F w ds_107 h dX12_restore_322 (fun h => ?_)
      refine s_putI (pc := 323) F w ds_14 vc_X12 vi_X12 tyX12_ok nmX12 (j := 48) rfl (by decide) kf_X12_334 rfl pd_I h dX12_restore_323 (fun S2 H locs h w => ?_)
      exact s_vret F w h dX12_restore_326
    · have h := ite_f q h
      refine lv_aload_n (pc := 281) hx hb dX12_restore_281 rfl (lv_at hl 0 rfl) ?_
      refine s_getR (pc := 282) F w 77 ds_14 (j := 17) vc_X12 vi_X12 rfl (by decide) kf_X12_45 dX12_restore_282 ?_
      refine lv_iload_n (pc := 285) hx hb dX12_restore_285 rfl (lv_at hl 2 rfl) ?_
      refine lv_aload_n (pc := 286) hx hb dX12_restore_286 rfl (lv_at hl 0 rfl) ?_
      refine s_getR (pc := 287) F w 107 ds_14 (j := 59) vc_X12 vi_X12 rfl (by decide) kf_X12_135 dX12_restore_287 ?_
      refine lv_iload_n (pc := 290) hx hb dX12_restore_290 rfl (lv_at hl 1 rfl) ?_
      refine s_iald (pc := 291) F w ds_107 h dX12_restore_291 (fun h => ?_)
      refine s_iast (pc := 292) F w ds_77 h dX12_restore_292 (fun S3 H locs h w => ?_)
      refine lv_aload_n (pc := 293) hx hb dX12_restore_293 rfl (lv_at hl 0 rfl) ?_
      refine s_getR (pc := 294) F w 78 ds_14 (j := 18) vc_X12 vi_X12 rfl (by decide) kf_X12_48 dX12_restore_294 ?_
      refine lv_iload_n (pc := 297) hx hb dX12_restore_297 rfl (lv_at hl 2 rfl) ?_
      refine lv_aload_n (pc := 298) hx hb dX12_restore_298 rfl (lv_at hl 0 rfl) ?_
      refine s_getR (pc := 299) F w 107 ds_14 (j := 59) vc_X12 vi_X12 rfl (by decide) kf_X12_135 dX12_restore_299 ?_
      refine lv_iload_n (pc := 302) hx hb dX12_restore_302 rfl (lv_at hl 1 rfl) ?_
      refine lv_iconst (pc := 303) (v := 1) hx hb dX12_restore_303 (by decide) ?_
      refine lv_iadd (pc := 304) hx hb dX12_restore_304 ?_
      refine s_iald (pc := 305) F w ds_107 h dX12_restore_305 (fun h => ?_)
      refine s_iast (pc := 306) F w ds_78 h dX12_restore_306 (fun S4 H locs h w => ?_)
      refine s_nm h (fun z5 ez5 h => ?_)
      refine lv_iinc (pc := 307) (v := z5) (lv' := [(2, .int z5), (0, .ref (ad 14)), (3, .int x3)]) hx hb dX12_restore_307 hl (k := 1) rfl (by rw [ez5]; rfl) (by decide) rfl (fun ls hl => ?_)
      refine s_nm h (fun z6 ez6 h => ?_)
      refine lv_iinc (pc := 310) (v := z6) (lv' := [(3, .int z6), (2, .int z5), (0, .ref (ad 14))]) hx hb dX12_restore_310 hl (k := 2) rfl (by rw [ez6]; rfl) (by decide) rfl (fun ls hl => ?_)
      refine lv_goto (pc := 313) (tgt := 275) hx hb dX12_restore_313 (by decide) ?_
      exact ih _ _ _ h _ _ _ w (lv_sub hl [2, 1, 0] rfl)
set_option maxRecDepth 100000 in
set_option maxHeartbeats 4000000 in
theorem w_X12_restore_j263 {p : Program} {l : Launch} {e : Env} {R : Room} {s : State} {m : MethodId} {args : Array Value} {below : List Frame} {meth : Method} {c : Code} {dC : Nat → ClassId} {dI : Nat → Nat → Nat} {cs : Nat → ClassId} {ad : Nat → Nat} {A : Nat → Prop} {D0 : Nat → Nat} {S' : SS} (F : Fx p s m args meth c cX12_restore 4 RX12 none dC dI cs A) (hR1 : 0 ≤ R.frames) (hR2 : 0 ≤ R.locals) (K8 : Int32 → Int32 → SS → Option (SS)) (hK8 : ∀ (v0 : Int32) (v1 : Int32) (S : SS), K8 v0 v1 S = some S' → AW p l e R s m args below meth c dC dI cs ad A D0 none S' 4 8 [(0, .ref (ad 14)), (2, .int v0), (3, .int v1)] [] S) (x2 : Int32) (x3 : Int32) (y0 : Int32) (y1 : Int32) (S : SS) (h : f_X12_restore_j263 K8 x2 x3 y0 y1 S = some S') : AW p l e R s m args below meth c dC dI cs ad A D0 none S' 4 263 [(0, .ref (ad 14)), (2, .int x2), (3, .int x3)] [.int y0, .int y1, .ref (ad 101)] S := by
  have hx := F.1.1
  have hb := F.1.2.1
  intro H locs ls w hl
  rw [f_X12_restore_j263] at h
  refine s_zast (pc := 263) F w ds_101 h dX12_restore_263 (fun S21 H locs h w => ?_)
  refine s_nm h (fun z22 ez22 h => ?_)
  refine lv_iinc (pc := 264) (v := z22) (lv' := [(2, .int z22), (0, .ref (ad 14)), (3, .int x3)]) hx hb dX12_restore_264 hl (k := 1) rfl (by rw [ez22]; rfl) (by decide) rfl (fun ls hl => ?_)
  refine s_nm h (fun z23 ez23 h => ?_)
  refine lv_iinc (pc := 267) (v := z23) (lv' := [(3, .int z23), (2, .int z22), (0, .ref (ad 14))]) hx hb dX12_restore_267 hl (k := 2) rfl (by rw [ez23]; rfl) (by decide) rfl (fun ls hl => ?_)
  refine lv_goto (pc := 270) (tgt := 8) hx hb dX12_restore_270 (by decide) ?_
  exact hK8 _ _ _ h _ _ _ w (lv_sub hl [2, 1, 0] rfl)
set_option maxRecDepth 100000 in
set_option maxHeartbeats 4000000 in
theorem w_X12_restore_j209 {p : Program} {l : Launch} {e : Env} {R : Room} {s : State} {m : MethodId} {args : Array Value} {below : List Frame} {meth : Method} {c : Code} {dC : Nat → ClassId} {dI : Nat → Nat → Nat} {cs : Nat → ClassId} {ad : Nat → Nat} {A : Nat → Prop} {D0 : Nat → Nat} {S' : SS} (F : Fx p s m args meth c cX12_restore 4 RX12 none dC dI cs A) (hR1 : 0 ≤ R.frames) (hR2 : 0 ≤ R.locals) (K8 : Int32 → Int32 → SS → Option (SS)) (hK8 : ∀ (v0 : Int32) (v1 : Int32) (S : SS), K8 v0 v1 S = some S' → AW p l e R s m args below meth c dC dI cs ad A D0 none S' 4 8 [(0, .ref (ad 14)), (2, .int v0), (3, .int v1)] [] S) (x2 : Int32) (x3 : Int32) (y0 : Int32) (y1 : Int32) (S : SS) (h : f_X12_restore_j209 K8 x2 x3 y0 y1 S = some S') : AW p l e R s m args below meth c dC dI cs ad A D0 none S' 4 209 [(0, .ref (ad 14)), (2, .int x2), (3, .int x3)] [.int y0, .int y1, .ref (ad 98)] S := by
  have hx := F.1.1
  have hb := F.1.2.1
  intro H locs ls w hl
  rw [f_X12_restore_j209] at h
  refine s_zast (pc := 209) F w ds_98 h dX12_restore_209 (fun S18 H locs h w => ?_)
  refine lv_aload_n (pc := 210) hx hb dX12_restore_210 rfl (lv_at hl 0 rfl) ?_
  refine s_getR (pc := 211) F w 99 ds_14 (j := 44) vc_X12 vi_X12 rfl (by decide) kf_X12_111 dX12_restore_211 ?_
  refine lv_iload_n (pc := 214) hx hb dX12_restore_214 rfl (lv_at hl 2 rfl) ?_
  refine lv_aload_n (pc := 215) hx hb dX12_restore_215 rfl (lv_at hl 0 rfl) ?_
  refine s_getR (pc := 216) F w 107 ds_14 (j := 59) vc_X12 vi_X12 rfl (by decide) kf_X12_135 dX12_restore_216 ?_
  refine lv_iload_n (pc := 219) hx hb dX12_restore_219 rfl (lv_at hl 1 rfl) ?_
  refine lv_bipush (pc := 220) (v := 12) hx hb dX12_restore_220 (by decide) ?_
  refine lv_iadd (pc := 222) hx hb dX12_restore_222 ?_
  refine s_iald (pc := 223) F w ds_107 h dX12_restore_223 (fun h => ?_)
  refine s_iast (pc := 224) F w ds_99 h dX12_restore_224 (fun S19 H locs h w => ?_)
  refine lv_aload_n (pc := 225) hx hb dX12_restore_225 rfl (lv_at hl 0 rfl) ?_
  refine s_getR (pc := 226) F w 100 ds_14 (j := 45) vc_X12 vi_X12 rfl (by decide) kf_X12_114 dX12_restore_226 ?_
  refine lv_iload_n (pc := 229) hx hb dX12_restore_229 rfl (lv_at hl 2 rfl) ?_
  refine lv_aload_n (pc := 230) hx hb dX12_restore_230 rfl (lv_at hl 0 rfl) ?_
  refine s_getR (pc := 231) F w 107 ds_14 (j := 59) vc_X12 vi_X12 rfl (by decide) kf_X12_135 dX12_restore_231 ?_
  refine lv_iload_n (pc := 234) hx hb dX12_restore_234 rfl (lv_at hl 1 rfl) ?_
  refine lv_bipush (pc := 235) (v := 13) hx hb dX12_restore_235 (by decide) ?_
  refine lv_iadd (pc := 237) hx hb dX12_restore_237 ?_
  refine s_iald (pc := 238) F w ds_107 h dX12_restore_238 (fun h => ?_)
  refine s_iast (pc := 239) F w ds_100 h dX12_restore_239 (fun S20 H locs h w => ?_)
  refine lv_aload_n (pc := 240) hx hb dX12_restore_240 rfl (lv_at hl 0 rfl) ?_
  refine s_getR (pc := 241) F w 101 ds_14 (j := 46) vc_X12 vi_X12 rfl (by decide) kf_X12_117 dX12_restore_241 ?_
  refine lv_iload_n (pc := 244) hx hb dX12_restore_244 rfl (lv_at hl 2 rfl) ?_
  refine lv_aload_n (pc := 245) hx hb dX12_restore_245 rfl (lv_at hl 0 rfl) ?_
  refine s_getR (pc := 246) F w 107 ds_14 (j := 59) vc_X12 vi_X12 rfl (by decide) kf_X12_135 dX12_restore_246 ?_
  refine lv_iload_n (pc := 249) hx hb dX12_restore_249 rfl (lv_at hl 1 rfl) ?_
  refine lv_bipush (pc := 250) (v := 14) hx hb dX12_restore_250 (by decide) ?_
  refine lv_iadd (pc := 252) hx hb dX12_restore_252 ?_
  refine s_iald (pc := 253) F w ds_107 h dX12_restore_253 (fun h => ?_)
  refine lv_iconst (pc := 254) (v := 1) hx hb dX12_restore_254 (by decide) ?_
  refine lv_icmp_ne (pc := 255) (tgt := 262) hx hb dX12_restore_255 (by decide) (fun q => ?_) (fun q => ?_)
  · have h := ite_f q h
    refine lv_iconst (pc := 262) (v := 0) hx hb dX12_restore_262 (by decide) ?_
    exact w_X12_restore_j263 F (Nat.le_trans (by decide) hR1) (Nat.le_trans (by decide) hR2) _ hK8 _ _ _ _ _ h _ _ _ w (lv_sub hl [0, 1, 2] rfl)
  · have h := ite_t q h
    refine lv_iconst (pc := 258) (v := 1) hx hb dX12_restore_258 (by decide) ?_
    refine lv_goto (pc := 259) (tgt := 263) hx hb dX12_restore_259 (by decide) ?_
    exact w_X12_restore_j263 F (Nat.le_trans (by decide) hR1) (Nat.le_trans (by decide) hR2) _ hK8 _ _ _ _ _ h _ _ _ w (lv_sub hl [0, 1, 2] rfl)
set_option maxRecDepth 100000 in
set_option maxHeartbeats 4000000 in
theorem w_X12_restore_j34 {p : Program} {l : Launch} {e : Env} {R : Room} {s : State} {m : MethodId} {args : Array Value} {below : List Frame} {meth : Method} {c : Code} {dC : Nat → ClassId} {dI : Nat → Nat → Nat} {cs : Nat → ClassId} {ad : Nat → Nat} {A : Nat → Prop} {D0 : Nat → Nat} {S' : SS} (F : Fx p s m args meth c cX12_restore 4 RX12 none dC dI cs A) (hR1 : 0 ≤ R.frames) (hR2 : 0 ≤ R.locals) (K8 : Int32 → Int32 → SS → Option (SS)) (hK8 : ∀ (v0 : Int32) (v1 : Int32) (S : SS), K8 v0 v1 S = some S' → AW p l e R s m args below meth c dC dI cs ad A D0 none S' 4 8 [(0, .ref (ad 14)), (2, .int v0), (3, .int v1)] [] S) (x2 : Int32) (x3 : Int32) (y0 : Int32) (y1 : Int32) (S : SS) (h : f_X12_restore_j34 K8 x2 x3 y0 y1 S = some S') : AW p l e R s m args below meth c dC dI cs ad A D0 none S' 4 34 [(0, .ref (ad 14)), (2, .int x2), (3, .int x3)] [.int y0, .int y1, .ref (ad 86)] S := by
  have hx := F.1.1
  have hb := F.1.2.1
  intro H locs ls w hl
  rw [f_X12_restore_j34] at h
  refine s_zast (pc := 34) F w ds_86 h dX12_restore_34 (fun S7 H locs h w => ?_)
  refine lv_aload_n (pc := 35) hx hb dX12_restore_35 rfl (lv_at hl 0 rfl) ?_
  refine s_getR (pc := 36) F w 87 ds_14 (j := 32) vc_X12 vi_X12 rfl (by decide) kf_X12_75 dX12_restore_36 ?_
  refine lv_iload_n (pc := 39) hx hb dX12_restore_39 rfl (lv_at hl 2 rfl) ?_
  refine lv_aload_n (pc := 40) hx hb dX12_restore_40 rfl (lv_at hl 0 rfl) ?_
  refine s_getR (pc := 41) F w 107 ds_14 (j := 59) vc_X12 vi_X12 rfl (by decide) kf_X12_135 dX12_restore_41 ?_
  refine lv_iload_n (pc := 44) hx hb dX12_restore_44 rfl (lv_at hl 1 rfl) ?_
  refine lv_iconst (pc := 45) (v := 1) hx hb dX12_restore_45 (by decide) ?_
  refine lv_iadd (pc := 46) hx hb dX12_restore_46 ?_
  refine s_iald (pc := 47) F w ds_107 h dX12_restore_47 (fun h => ?_)
  refine s_iast (pc := 48) F w ds_87 h dX12_restore_48 (fun S8 H locs h w => ?_)
  refine lv_aload_n (pc := 49) hx hb dX12_restore_49 rfl (lv_at hl 0 rfl) ?_
  refine s_getR (pc := 50) F w 88 ds_14 (j := 33) vc_X12 vi_X12 rfl (by decide) kf_X12_78 dX12_restore_50 ?_
  refine lv_iload_n (pc := 53) hx hb dX12_restore_53 rfl (lv_at hl 2 rfl) ?_
  refine lv_aload_n (pc := 54) hx hb dX12_restore_54 rfl (lv_at hl 0 rfl) ?_
  refine s_getR (pc := 55) F w 107 ds_14 (j := 59) vc_X12 vi_X12 rfl (by decide) kf_X12_135 dX12_restore_55 ?_
  refine lv_iload_n (pc := 58) hx hb dX12_restore_58 rfl (lv_at hl 1 rfl) ?_
  refine lv_iconst (pc := 59) (v := 2) hx hb dX12_restore_59 (by decide) ?_
  refine lv_iadd (pc := 60) hx hb dX12_restore_60 ?_
  refine s_iald (pc := 61) F w ds_107 h dX12_restore_61 (fun h => ?_)
  refine s_iast (pc := 62) F w ds_88 h dX12_restore_62 (fun S9 H locs h w => ?_)
  refine lv_aload_n (pc := 63) hx hb dX12_restore_63 rfl (lv_at hl 0 rfl) ?_
  refine s_getR (pc := 64) F w 89 ds_14 (j := 34) vc_X12 vi_X12 rfl (by decide) kf_X12_81 dX12_restore_64 ?_
  refine lv_iload_n (pc := 67) hx hb dX12_restore_67 rfl (lv_at hl 2 rfl) ?_
  refine lv_aload_n (pc := 68) hx hb dX12_restore_68 rfl (lv_at hl 0 rfl) ?_
  refine s_getR (pc := 69) F w 107 ds_14 (j := 59) vc_X12 vi_X12 rfl (by decide) kf_X12_135 dX12_restore_69 ?_
  refine lv_iload_n (pc := 72) hx hb dX12_restore_72 rfl (lv_at hl 1 rfl) ?_
  refine lv_iconst (pc := 73) (v := 3) hx hb dX12_restore_73 (by decide) ?_
  refine lv_iadd (pc := 74) hx hb dX12_restore_74 ?_
  refine s_iald (pc := 75) F w ds_107 h dX12_restore_75 (fun h => ?_)
  refine s_iast (pc := 76) F w ds_89 h dX12_restore_76 (fun S10 H locs h w => ?_)
  refine lv_aload_n (pc := 77) hx hb dX12_restore_77 rfl (lv_at hl 0 rfl) ?_
  refine s_getR (pc := 78) F w 90 ds_14 (j := 35) vc_X12 vi_X12 rfl (by decide) kf_X12_84 dX12_restore_78 ?_
  refine lv_iconst (pc := 81) (v := 2) hx hb dX12_restore_81 (by decide) ?_
  refine lv_iload_n (pc := 82) hx hb dX12_restore_82 rfl (lv_at hl 2 rfl) ?_
  refine lv_imul (pc := 83) hx hb dX12_restore_83 ?_
  refine lv_aload_n (pc := 84) hx hb dX12_restore_84 rfl (lv_at hl 0 rfl) ?_
  refine s_getR (pc := 85) F w 107 ds_14 (j := 59) vc_X12 vi_X12 rfl (by decide) kf_X12_135 dX12_restore_85 ?_
  refine lv_iload_n (pc := 88) hx hb dX12_restore_88 rfl (lv_at hl 1 rfl) ?_
  refine lv_iconst (pc := 89) (v := 4) hx hb dX12_restore_89 (by decide) ?_
  refine lv_iadd (pc := 90) hx hb dX12_restore_90 ?_
  refine s_iald (pc := 91) F w ds_107 h dX12_restore_91 (fun h => ?_)
  refine s_iast (pc := 92) F w ds_90 h dX12_restore_92 (fun S11 H locs h w => ?_)
  refine lv_aload_n (pc := 93) hx hb dX12_restore_93 rfl (lv_at hl 0 rfl) ?_
  refine s_getR (pc := 94) F w 90 ds_14 (j := 35) vc_X12 vi_X12 rfl (by decide) kf_X12_84 dX12_restore_94 ?_
  refine lv_iconst (pc := 97) (v := 2) hx hb dX12_restore_97 (by decide) ?_
  refine lv_iload_n (pc := 98) hx hb dX12_restore_98 rfl (lv_at hl 2 rfl) ?_
  refine lv_imul (pc := 99) hx hb dX12_restore_99 ?_
  refine lv_iconst (pc := 100) (v := 1) hx hb dX12_restore_100 (by decide) ?_
  refine lv_iadd (pc := 101) hx hb dX12_restore_101 ?_
  refine lv_aload_n (pc := 102) hx hb dX12_restore_102 rfl (lv_at hl 0 rfl) ?_
  refine s_getR (pc := 103) F w 107 ds_14 (j := 59) vc_X12 vi_X12 rfl (by decide) kf_X12_135 dX12_restore_103 ?_
  refine lv_iload_n (pc := 106) hx hb dX12_restore_106 rfl (lv_at hl 1 rfl) ?_
  refine lv_iconst (pc := 107) (v := 5) hx hb dX12_restore_107 (by decide) ?_
  refine lv_iadd (pc := 108) hx hb dX12_restore_108 ?_
  refine s_iald (pc := 109) F w ds_107 h dX12_restore_109 (fun h => ?_)
  refine s_iast (pc := 110) F w ds_90 h dX12_restore_110 (fun S12 H locs h w => ?_)
  refine lv_aload_n (pc := 111) hx hb dX12_restore_111 rfl (lv_at hl 0 rfl) ?_
  refine s_getR (pc := 112) F w 91 ds_14 (j := 36) vc_X12 vi_X12 rfl (by decide) kf_X12_87 dX12_restore_112 ?_
  refine lv_iload_n (pc := 115) hx hb dX12_restore_115 rfl (lv_at hl 2 rfl) ?_
  refine lv_aload_n (pc := 116) hx hb dX12_restore_116 rfl (lv_at hl 0 rfl) ?_
  refine s_getR (pc := 117) F w 107 ds_14 (j := 59) vc_X12 vi_X12 rfl (by decide) kf_X12_135 dX12_restore_117 ?_
  refine lv_iload_n (pc := 120) hx hb dX12_restore_120 rfl (lv_at hl 1 rfl) ?_
  refine lv_bipush (pc := 121) (v := 6) hx hb dX12_restore_121 (by decide) ?_
  refine lv_iadd (pc := 123) hx hb dX12_restore_123 ?_
  refine s_iald (pc := 124) F w ds_107 h dX12_restore_124 (fun h => ?_)
  refine s_iast (pc := 125) F w ds_91 h dX12_restore_125 (fun S13 H locs h w => ?_)
  refine lv_aload_n (pc := 126) hx hb dX12_restore_126 rfl (lv_at hl 0 rfl) ?_
  refine s_getR (pc := 127) F w 92 ds_14 (j := 37) vc_X12 vi_X12 rfl (by decide) kf_X12_90 dX12_restore_127 ?_
  refine lv_iload_n (pc := 130) hx hb dX12_restore_130 rfl (lv_at hl 2 rfl) ?_
  refine lv_aload_n (pc := 131) hx hb dX12_restore_131 rfl (lv_at hl 0 rfl) ?_
  refine s_getR (pc := 132) F w 107 ds_14 (j := 59) vc_X12 vi_X12 rfl (by decide) kf_X12_135 dX12_restore_132 ?_
  refine lv_iload_n (pc := 135) hx hb dX12_restore_135 rfl (lv_at hl 1 rfl) ?_
  refine lv_bipush (pc := 136) (v := 7) hx hb dX12_restore_136 (by decide) ?_
  refine lv_iadd (pc := 138) hx hb dX12_restore_138 ?_
  refine s_iald (pc := 139) F w ds_107 h dX12_restore_139 (fun h => ?_)
  refine s_iast (pc := 140) F w ds_92 h dX12_restore_140 (fun S14 H locs h w => ?_)
  refine lv_aload_n (pc := 141) hx hb dX12_restore_141 rfl (lv_at hl 0 rfl) ?_
  refine s_getR (pc := 142) F w 93 ds_14 (j := 38) vc_X12 vi_X12 rfl (by decide) kf_X12_93 dX12_restore_142 ?_
  refine lv_iload_n (pc := 145) hx hb dX12_restore_145 rfl (lv_at hl 2 rfl) ?_
  refine lv_aload_n (pc := 146) hx hb dX12_restore_146 rfl (lv_at hl 0 rfl) ?_
  refine s_getR (pc := 147) F w 107 ds_14 (j := 59) vc_X12 vi_X12 rfl (by decide) kf_X12_135 dX12_restore_147 ?_
  refine lv_iload_n (pc := 150) hx hb dX12_restore_150 rfl (lv_at hl 1 rfl) ?_
  refine lv_bipush (pc := 151) (v := 8) hx hb dX12_restore_151 (by decide) ?_
  refine lv_iadd (pc := 153) hx hb dX12_restore_153 ?_
  refine s_iald (pc := 154) F w ds_107 h dX12_restore_154 (fun h => ?_)
  refine s_iast (pc := 155) F w ds_93 h dX12_restore_155 (fun S15 H locs h w => ?_)
  refine lv_aload_n (pc := 156) hx hb dX12_restore_156 rfl (lv_at hl 0 rfl) ?_
  refine s_getR (pc := 157) F w 94 ds_14 (j := 39) vc_X12 vi_X12 rfl (by decide) kf_X12_96 dX12_restore_157 ?_
  refine lv_iload_n (pc := 160) hx hb dX12_restore_160 rfl (lv_at hl 2 rfl) ?_
  refine lv_aload_n (pc := 161) hx hb dX12_restore_161 rfl (lv_at hl 0 rfl) ?_
  refine s_getR (pc := 162) F w 107 ds_14 (j := 59) vc_X12 vi_X12 rfl (by decide) kf_X12_135 dX12_restore_162 ?_
  refine lv_iload_n (pc := 165) hx hb dX12_restore_165 rfl (lv_at hl 1 rfl) ?_
  refine lv_bipush (pc := 166) (v := 9) hx hb dX12_restore_166 (by decide) ?_
  refine lv_iadd (pc := 168) hx hb dX12_restore_168 ?_
  refine s_iald (pc := 169) F w ds_107 h dX12_restore_169 (fun h => ?_)
  refine s_iast (pc := 170) F w ds_94 h dX12_restore_170 (fun S16 H locs h w => ?_)
  refine lv_aload_n (pc := 171) hx hb dX12_restore_171 rfl (lv_at hl 0 rfl) ?_
  refine s_getR (pc := 172) F w 97 ds_14 (j := 42) vc_X12 vi_X12 rfl (by decide) kf_X12_105 dX12_restore_172 ?_
  refine lv_iload_n (pc := 175) hx hb dX12_restore_175 rfl (lv_at hl 2 rfl) ?_
  refine lv_aload_n (pc := 176) hx hb dX12_restore_176 rfl (lv_at hl 0 rfl) ?_
  refine s_getR (pc := 177) F w 107 ds_14 (j := 59) vc_X12 vi_X12 rfl (by decide) kf_X12_135 dX12_restore_177 ?_
  refine lv_iload_n (pc := 180) hx hb dX12_restore_180 rfl (lv_at hl 1 rfl) ?_
  refine lv_bipush (pc := 181) (v := 10) hx hb dX12_restore_181 (by decide) ?_
  refine lv_iadd (pc := 183) hx hb dX12_restore_183 ?_
  refine s_iald (pc := 184) F w ds_107 h dX12_restore_184 (fun h => ?_)
  refine s_iast (pc := 185) F w ds_97 h dX12_restore_185 (fun S17 H locs h w => ?_)
  refine lv_aload_n (pc := 186) hx hb dX12_restore_186 rfl (lv_at hl 0 rfl) ?_
  refine s_getR (pc := 187) F w 98 ds_14 (j := 43) vc_X12 vi_X12 rfl (by decide) kf_X12_108 dX12_restore_187 ?_
  refine lv_iload_n (pc := 190) hx hb dX12_restore_190 rfl (lv_at hl 2 rfl) ?_
  refine lv_aload_n (pc := 191) hx hb dX12_restore_191 rfl (lv_at hl 0 rfl) ?_
  refine s_getR (pc := 192) F w 107 ds_14 (j := 59) vc_X12 vi_X12 rfl (by decide) kf_X12_135 dX12_restore_192 ?_
  refine lv_iload_n (pc := 195) hx hb dX12_restore_195 rfl (lv_at hl 1 rfl) ?_
  refine lv_bipush (pc := 196) (v := 11) hx hb dX12_restore_196 (by decide) ?_
  refine lv_iadd (pc := 198) hx hb dX12_restore_198 ?_
  refine s_iald (pc := 199) F w ds_107 h dX12_restore_199 (fun h => ?_)
  refine lv_iconst (pc := 200) (v := 1) hx hb dX12_restore_200 (by decide) ?_
  refine lv_icmp_ne (pc := 201) (tgt := 208) hx hb dX12_restore_201 (by decide) (fun q => ?_) (fun q => ?_)
  · have h := ite_f q h
    refine lv_iconst (pc := 208) (v := 0) hx hb dX12_restore_208 (by decide) ?_
    exact w_X12_restore_j209 F (Nat.le_trans (by decide) hR1) (Nat.le_trans (by decide) hR2) _ hK8 _ _ _ _ _ h _ _ _ w (lv_sub hl [0, 1, 2] rfl)
  · have h := ite_t q h
    refine lv_iconst (pc := 204) (v := 1) hx hb dX12_restore_204 (by decide) ?_
    refine lv_goto (pc := 205) (tgt := 209) hx hb dX12_restore_205 (by decide) ?_
    exact w_X12_restore_j209 F (Nat.le_trans (by decide) hR1) (Nat.le_trans (by decide) hR2) _ hK8 _ _ _ _ _ h _ _ _ w (lv_sub hl [0, 1, 2] rfl)
set_option maxRecDepth 100000 in
set_option maxHeartbeats 4000000 in
theorem w_X12_restore_L8 {p : Program} {l : Launch} {e : Env} {R : Room} {s : State} {m : MethodId} {args : Array Value} {below : List Frame} {meth : Method} {c : Code} {dC : Nat → ClassId} {dI : Nat → Nat → Nat} {cs : Nat → ClassId} {ad : Nat → Nat} {A : Nat → Prop} {D0 : Nat → Nat} {S' : SS} (F : Fx p s m args meth c cX12_restore 4 RX12 none dC dI cs A) (hR1 : 0 ≤ R.frames) (hR2 : 0 ≤ R.locals) : ∀ (n : Nat) (x2 : Int32) (x3 : Int32) (S : SS), f_X12_restore_L8 n x2 x3 S = some S' → AW p l e R s m args below meth c dC dI cs ad A D0 none S' 4 8 [(0, .ref (ad 14)), (2, .int x2), (3, .int x3)] [] S := by
  have hx := F.1.1
  have hb := F.1.2.1
  intro n
  induction n with
  | zero => intro x2 x3 S h; cases h
  | succ n ih =>
    intro x2 x3 S h H locs ls w hl
    rw [f_X12_restore_L8] at h
    refine lv_iload_n (pc := 8) hx hb dX12_restore_8 rfl (lv_at hl 2 rfl) ?_
    refine lv_bipush (pc := 9) (v := 72) hx hb dX12_restore_9 (by decide) ?_
    refine lv_icmp_ge (pc := 11) (tgt := 273) hx hb dX12_restore_11 (by decide) (fun q => ?_) (fun q => ?_)
    · have h := ite_t q h
      refine lv_iconst (pc := 273) (v := 0) hx hb dX12_restore_273 (by decide) ?_
      refine lv_istore_n (pc := 274) (lv' := [(3, .int (0 : Int32)), (0, .ref (ad 14)), (2, .int x2)]) hx hb dX12_restore_274 rfl hl (by decide) rfl (fun ls hl => ?_)
      exact w_X12_restore_L275 F (Nat.le_trans (by decide) hR1) (Nat.le_trans (by decide) hR2) _ _ _ _ h _ _ _ w (lv_sub hl [1, 2, 0] rfl)
    · have h := ite_f q h
      refine lv_aload_n (pc := 14) hx hb dX12_restore_14 rfl (lv_at hl 0 rfl) ?_
      refine s_getR (pc := 15) F w 86 ds_14 (j := 31) vc_X12 vi_X12 rfl (by decide) kf_X12_72 dX12_restore_15 ?_
      refine lv_iload_n (pc := 18) hx hb dX12_restore_18 rfl (lv_at hl 2 rfl) ?_
      refine lv_aload_n (pc := 19) hx hb dX12_restore_19 rfl (lv_at hl 0 rfl) ?_
      refine s_getR (pc := 20) F w 107 ds_14 (j := 59) vc_X12 vi_X12 rfl (by decide) kf_X12_135 dX12_restore_20 ?_
      refine lv_iload_n (pc := 23) hx hb dX12_restore_23 rfl (lv_at hl 1 rfl) ?_
      refine s_iald (pc := 24) F w ds_107 h dX12_restore_24 (fun h => ?_)
      refine lv_iconst (pc := 25) (v := 1) hx hb dX12_restore_25 (by decide) ?_
      refine lv_icmp_ne (pc := 26) (tgt := 33) hx hb dX12_restore_26 (by decide) (fun q => ?_) (fun q => ?_)
      · have h := ite_f q h
        refine lv_iconst (pc := 33) (v := 0) hx hb dX12_restore_33 (by decide) ?_
        exact w_X12_restore_j34 F (Nat.le_trans (by decide) hR1) (Nat.le_trans (by decide) hR2) _ (fun v0 v1 S h => ih v0 v1 S h) _ _ _ _ _ h _ _ _ w (lv_sub hl [0, 1, 2] rfl)
      · have h := ite_t q h
        refine lv_iconst (pc := 29) (v := 1) hx hb dX12_restore_29 (by decide) ?_
        refine lv_goto (pc := 30) (tgt := 34) hx hb dX12_restore_30 (by decide) ?_
        exact w_X12_restore_j34 F (Nat.le_trans (by decide) hR1) (Nat.le_trans (by decide) hR2) _ (fun v0 v1 S h => ih v0 v1 S h) _ _ _ _ _ h _ _ _ w (lv_sub hl [0, 1, 2] rfl)
set_option maxRecDepth 100000 in
set_option maxHeartbeats 4000000 in
theorem m_X12_restore (a1 : Int32) (S S' : SS) (h : f_X12_restore a1 S = some S') : MT yX12_restore cX12_restore 4 none 0 0 (fun ad => [.ref (ad 14), .int a1]) S none S' := by
  refine MT.of RX12 (fun ad => [(0, .ref (ad 14)), (1, .int a1)]) (by decide) rfl (fun _ => Nat.le_of_ble_eq_true rfl) (fun _ => rfl) ?_
  intro p l e R s m args below meth c dC dI cs ad A hR1 hR2 F H locs ls w hl
  have hx := F.1.1
  have hb := F.1.2.1
  rw [f_X12_restore] at h
  refine lv_sipush (pc := 0) (v := 1161) hx hb dX12_restore_0 (by decide) ?_
  refine lv_iload_n (pc := 3) hx hb dX12_restore_3 rfl (lv_at hl 1 rfl) ?_
  refine lv_imul (pc := 4) hx hb dX12_restore_4 ?_
  refine s_nm h (fun z1 ez1 h => ?_)
  rw [← ez1]
  refine lv_istore_n (pc := 5) (lv' := [(2, .int z1), (0, .ref (ad 14)), (1, .int a1)]) hx hb dX12_restore_5 rfl hl (by decide) rfl (fun ls hl => ?_)
  refine lv_iconst (pc := 6) (v := 0) hx hb dX12_restore_6 (by decide) ?_
  refine lv_istore_n (pc := 7) (lv' := [(3, .int (0 : Int32)), (2, .int z1), (0, .ref (ad 14)), (1, .int a1)]) hx hb dX12_restore_7 rfl hl (by decide) rfl (fun ls hl => ?_)
  exact w_X12_restore_L8 F (Nat.le_trans (by decide) hR1) (Nat.le_trans (by decide) hR2) _ _ _ _ h _ _ _ w (lv_sub hl [2, 1, 0] rfl)
def f_X12_undo  (S : SS) : Option (Int32 × SS) :=
  if (S.1 14 60) = 0 then
    some ((0 : Int32), S)
  else
    bndv (f_X12_save ((8 : Int32) + (S.1 14 61)) S) (fun S1 =>
    wr S1 14 61 ((S1.1 14 61) + (1 : Int32)) (fun S2 =>
    wr S2 14 60 ((S2.1 14 60) - (1 : Int32)) (fun S3 =>
    bndv (f_X12_restore (S3.1 14 60) S3) (fun S4 =>
    some ((1 : Int32), S4)))))
theorem dX12_undo_0 : decode cX12_undo 0 = .ok (.aload_n 0, 1) := by decide +kernel
theorem dX12_undo_1 : decode cX12_undo 1 = .ok (.getfield 328, 3) := by decide +kernel
theorem dX12_undo_4 : decode cX12_undo 4 = .ok (.ifCond .ne 5, 3) := by decide +kernel
theorem dX12_undo_7 : decode cX12_undo 7 = .ok (.iconst 0, 1) := by decide +kernel
theorem dX12_undo_8 : decode cX12_undo 8 = .ok (.ireturn, 1) := by decide +kernel
theorem dX12_undo_9 : decode cX12_undo 9 = .ok (.aload_n 0, 1) := by decide +kernel
theorem dX12_undo_10 : decode cX12_undo 10 = .ok (.bipush 8, 2) := by decide +kernel
theorem dX12_undo_12 : decode cX12_undo 12 = .ok (.aload_n 0, 1) := by decide +kernel
theorem dX12_undo_13 : decode cX12_undo 13 = .ok (.getfield 331, 3) := by decide +kernel
theorem dX12_undo_16 : decode cX12_undo 16 = .ok (.iadd, 1) := by decide +kernel
theorem dX12_undo_17 : decode cX12_undo 17 = .ok (.invokevirtual 337, 3) := by decide +kernel
theorem dX12_undo_20 : decode cX12_undo 20 = .ok (.aload_n 0, 1) := by decide +kernel
theorem dX12_undo_21 : decode cX12_undo 21 = .ok (.dup, 1) := by decide +kernel
theorem dX12_undo_22 : decode cX12_undo 22 = .ok (.getfield 331, 3) := by decide +kernel
theorem dX12_undo_25 : decode cX12_undo 25 = .ok (.iconst 1, 1) := by decide +kernel
theorem dX12_undo_26 : decode cX12_undo 26 = .ok (.iadd, 1) := by decide +kernel
theorem dX12_undo_27 : decode cX12_undo 27 = .ok (.putfield 331, 3) := by decide +kernel
theorem dX12_undo_30 : decode cX12_undo 30 = .ok (.aload_n 0, 1) := by decide +kernel
theorem dX12_undo_31 : decode cX12_undo 31 = .ok (.dup, 1) := by decide +kernel
theorem dX12_undo_32 : decode cX12_undo 32 = .ok (.getfield 328, 3) := by decide +kernel
theorem dX12_undo_35 : decode cX12_undo 35 = .ok (.iconst 1, 1) := by decide +kernel
theorem dX12_undo_36 : decode cX12_undo 36 = .ok (.isub, 1) := by decide +kernel
theorem dX12_undo_37 : decode cX12_undo 37 = .ok (.putfield 328, 3) := by decide +kernel
theorem dX12_undo_40 : decode cX12_undo 40 = .ok (.aload_n 0, 1) := by decide +kernel
theorem dX12_undo_41 : decode cX12_undo 41 = .ok (.aload_n 0, 1) := by decide +kernel
theorem dX12_undo_42 : decode cX12_undo 42 = .ok (.getfield 328, 3) := by decide +kernel
theorem dX12_undo_45 : decode cX12_undo 45 = .ok (.invokevirtual 343, 3) := by decide +kernel
theorem dX12_undo_48 : decode cX12_undo 48 = .ok (.iconst 1, 1) := by decide +kernel
theorem dX12_undo_49 : decode cX12_undo 49 = .ok (.ireturn, 1) := by decide +kernel
set_option maxRecDepth 100000 in
set_option maxHeartbeats 4000000 in
theorem m_X12_undo  (S S' : SS) (r : Int32) (h : f_X12_undo  S = some (r, S')) : MT yX12_undo cX12_undo 1 (some .int) 1 23 (fun ad => [.ref (ad 14)]) S (some (.int r)) S' := by
  refine MT.of RX12 (fun ad => [(0, .ref (ad 14))]) (by decide) rfl (fun _ => Nat.le_of_ble_eq_true rfl) (fun _ => rfl) ?_
  intro p l e R s m args below meth c dC dI cs ad A hR1 hR2 F H locs ls w hl
  have hx := F.1.1
  have hb := F.1.2.1
  rw [f_X12_undo] at h
  refine lv_aload_n (pc := 0) hx hb dX12_undo_0 rfl (lv_at hl 0 rfl) ?_
  refine s_getI (pc := 1) F w ds_14 (j := 60) vc_X12 vi_X12 rfl (by decide) kf_X12_328 dX12_undo_1 ?_
  refine lv_if_ne (pc := 4) (tgt := 9) hx hb dX12_undo_4 (by decide) (fun q => ?_) (fun q => ?_)
  · have h := ite_f q h
    refine lv_aload_n (pc := 9) hx hb dX12_undo_9 rfl (lv_at hl 0 rfl) ?_
    refine lv_bipush (pc := 10) (v := 8) hx hb dX12_undo_10 (by decide) ?_
    refine lv_aload_n (pc := 12) hx hb dX12_undo_12 rfl (lv_at hl 0 rfl) ?_
    refine s_getI (pc := 13) F w ds_14 (j := 61) vc_X12 vi_X12 rfl (by decide) kf_X12_331 dX12_undo_13 ?_
    refine lv_iadd (pc := 16) hx hb dX12_undo_16 ?_
    obtain ⟨S1, hc, h⟩ := bndv_t h
    refine s_cvv (pc := 17) [.int ((8 : Int32) + (S.1 14 61))] (fun ad => [.ref (ad 14), .int ((8 : Int32) + (S.1 14 61))]) F w (m_X12_save _ _ _ hc) rfl rfl hl.1 ds_14 vc_X12 rfl ok_X12_save rfl kc_X12_save kl_X12_337 ki_X12_save kv_X12_save kn_X12 ⟨Nat.le_trans (by decide) hR1, Nat.le_trans (by decide) hR2⟩ ⟨Nat.zero_le _, Nat.zero_le _⟩ (Nat.le_of_ble_eq_true rfl) dX12_undo_17 (fun H locs w => ?_)
    refine lv_aload_n (pc := 20) hx hb dX12_undo_20 rfl (lv_at hl 0 rfl) ?_
    refine lv_dup (pc := 21) hx hb dX12_undo_21 rfl ?_
    refine s_getI (pc := 22) F w ds_14 (j := 61) vc_X12 vi_X12 rfl (by decide) kf_X12_331 dX12_undo_22 ?_
    refine lv_iconst (pc := 25) (v := 1) hx hb dX12_undo_25 (by decide) ?_
    refine lv_iadd (pc := 26) hx hb dX12_undo_26 ?_
    refine s_putI (pc := 27) F w ds_14 vc_X12 vi_X12 tyX12_ok nmX12 (j := 61) rfl (by decide) kf_X12_331 rfl pd_I h dX12_undo_27 (fun S2 H locs h w => ?_)
    refine lv_aload_n (pc := 30) hx hb dX12_undo_30 rfl (lv_at hl 0 rfl) ?_
    refine lv_dup (pc := 31) hx hb dX12_undo_31 rfl ?_
    refine s_getI (pc := 32) F w ds_14 (j := 60) vc_X12 vi_X12 rfl (by decide) kf_X12_328 dX12_undo_32 ?_
    refine lv_iconst (pc := 35) (v := 1) hx hb dX12_undo_35 (by decide) ?_
    refine lv_isub (pc := 36) hx hb dX12_undo_36 ?_
    refine s_putI (pc := 37) F w ds_14 vc_X12 vi_X12 tyX12_ok nmX12 (j := 60) rfl (by decide) kf_X12_328 rfl pd_I h dX12_undo_37 (fun S3 H locs h w => ?_)
    refine lv_aload_n (pc := 40) hx hb dX12_undo_40 rfl (lv_at hl 0 rfl) ?_
    refine lv_aload_n (pc := 41) hx hb dX12_undo_41 rfl (lv_at hl 0 rfl) ?_
    refine s_getI (pc := 42) F w ds_14 (j := 60) vc_X12 vi_X12 rfl (by decide) kf_X12_328 dX12_undo_42 ?_
    obtain ⟨S4, hc, h⟩ := bndv_t h
    refine s_cvv (pc := 45) [.int (S3.1 14 60)] (fun ad => [.ref (ad 14), .int (S3.1 14 60)]) F w (m_X12_restore _ _ _ hc) rfl rfl hl.1 ds_14 vc_X12 rfl ok_X12_restore rfl kc_X12_restore kl_X12_343 ki_X12_restore kv_X12_restore kn_X12 ⟨Nat.le_trans (by decide) hR1, Nat.le_trans (by decide) hR2⟩ ⟨Nat.zero_le _, Nat.zero_le _⟩ (Nat.le_of_ble_eq_true rfl) dX12_undo_45 (fun H locs w => ?_)
    refine lv_iconst (pc := 48) (v := 1) hx hb dX12_undo_48 (by decide) ?_
    exact s_iret F w h dX12_undo_49
  · have h := ite_t q h
    refine lv_iconst (pc := 7) (v := 0) hx hb dX12_undo_7 (by decide) ?_
    exact s_iret F w h dX12_undo_8
def f_X12_back  (S : SS) : Option (Int32 × SS) :=
  if (S.1 14 61) = 0 then
    some ((0 : Int32), S)
  else
    bndv (f_X12_save (S.1 14 60) S) (fun S1 =>
    wr S1 14 60 ((S1.1 14 60) + (1 : Int32)) (fun S2 =>
    wr S2 14 61 ((S2.1 14 61) - (1 : Int32)) (fun S3 =>
    bndv (f_X12_restore ((8 : Int32) + (S3.1 14 61)) S3) (fun S4 =>
    some ((1 : Int32), S4)))))
theorem dX12_back_0 : decode cX12_back 0 = .ok (.aload_n 0, 1) := by decide +kernel
theorem dX12_back_1 : decode cX12_back 1 = .ok (.getfield 331, 3) := by decide +kernel
theorem dX12_back_4 : decode cX12_back 4 = .ok (.ifCond .ne 5, 3) := by decide +kernel
theorem dX12_back_7 : decode cX12_back 7 = .ok (.iconst 0, 1) := by decide +kernel
theorem dX12_back_8 : decode cX12_back 8 = .ok (.ireturn, 1) := by decide +kernel
theorem dX12_back_9 : decode cX12_back 9 = .ok (.aload_n 0, 1) := by decide +kernel
theorem dX12_back_10 : decode cX12_back 10 = .ok (.aload_n 0, 1) := by decide +kernel
theorem dX12_back_11 : decode cX12_back 11 = .ok (.getfield 328, 3) := by decide +kernel
theorem dX12_back_14 : decode cX12_back 14 = .ok (.invokevirtual 337, 3) := by decide +kernel
theorem dX12_back_17 : decode cX12_back 17 = .ok (.aload_n 0, 1) := by decide +kernel
theorem dX12_back_18 : decode cX12_back 18 = .ok (.dup, 1) := by decide +kernel
theorem dX12_back_19 : decode cX12_back 19 = .ok (.getfield 328, 3) := by decide +kernel
theorem dX12_back_22 : decode cX12_back 22 = .ok (.iconst 1, 1) := by decide +kernel
theorem dX12_back_23 : decode cX12_back 23 = .ok (.iadd, 1) := by decide +kernel
theorem dX12_back_24 : decode cX12_back 24 = .ok (.putfield 328, 3) := by decide +kernel
theorem dX12_back_27 : decode cX12_back 27 = .ok (.aload_n 0, 1) := by decide +kernel
theorem dX12_back_28 : decode cX12_back 28 = .ok (.dup, 1) := by decide +kernel
theorem dX12_back_29 : decode cX12_back 29 = .ok (.getfield 331, 3) := by decide +kernel
theorem dX12_back_32 : decode cX12_back 32 = .ok (.iconst 1, 1) := by decide +kernel
theorem dX12_back_33 : decode cX12_back 33 = .ok (.isub, 1) := by decide +kernel
theorem dX12_back_34 : decode cX12_back 34 = .ok (.putfield 331, 3) := by decide +kernel
theorem dX12_back_37 : decode cX12_back 37 = .ok (.aload_n 0, 1) := by decide +kernel
theorem dX12_back_38 : decode cX12_back 38 = .ok (.bipush 8, 2) := by decide +kernel
theorem dX12_back_40 : decode cX12_back 40 = .ok (.aload_n 0, 1) := by decide +kernel
theorem dX12_back_41 : decode cX12_back 41 = .ok (.getfield 331, 3) := by decide +kernel
theorem dX12_back_44 : decode cX12_back 44 = .ok (.iadd, 1) := by decide +kernel
theorem dX12_back_45 : decode cX12_back 45 = .ok (.invokevirtual 343, 3) := by decide +kernel
theorem dX12_back_48 : decode cX12_back 48 = .ok (.iconst 1, 1) := by decide +kernel
theorem dX12_back_49 : decode cX12_back 49 = .ok (.ireturn, 1) := by decide +kernel
set_option maxRecDepth 100000 in
set_option maxHeartbeats 4000000 in
theorem m_X12_back  (S S' : SS) (r : Int32) (h : f_X12_back  S = some (r, S')) : MT yX12_back cX12_back 1 (some .int) 1 23 (fun ad => [.ref (ad 14)]) S (some (.int r)) S' := by
  refine MT.of RX12 (fun ad => [(0, .ref (ad 14))]) (by decide) rfl (fun _ => Nat.le_of_ble_eq_true rfl) (fun _ => rfl) ?_
  intro p l e R s m args below meth c dC dI cs ad A hR1 hR2 F H locs ls w hl
  have hx := F.1.1
  have hb := F.1.2.1
  rw [f_X12_back] at h
  refine lv_aload_n (pc := 0) hx hb dX12_back_0 rfl (lv_at hl 0 rfl) ?_
  refine s_getI (pc := 1) F w ds_14 (j := 61) vc_X12 vi_X12 rfl (by decide) kf_X12_331 dX12_back_1 ?_
  refine lv_if_ne (pc := 4) (tgt := 9) hx hb dX12_back_4 (by decide) (fun q => ?_) (fun q => ?_)
  · have h := ite_f q h
    refine lv_aload_n (pc := 9) hx hb dX12_back_9 rfl (lv_at hl 0 rfl) ?_
    refine lv_aload_n (pc := 10) hx hb dX12_back_10 rfl (lv_at hl 0 rfl) ?_
    refine s_getI (pc := 11) F w ds_14 (j := 60) vc_X12 vi_X12 rfl (by decide) kf_X12_328 dX12_back_11 ?_
    obtain ⟨S1, hc, h⟩ := bndv_t h
    refine s_cvv (pc := 14) [.int (S.1 14 60)] (fun ad => [.ref (ad 14), .int (S.1 14 60)]) F w (m_X12_save _ _ _ hc) rfl rfl hl.1 ds_14 vc_X12 rfl ok_X12_save rfl kc_X12_save kl_X12_337 ki_X12_save kv_X12_save kn_X12 ⟨Nat.le_trans (by decide) hR1, Nat.le_trans (by decide) hR2⟩ ⟨Nat.zero_le _, Nat.zero_le _⟩ (Nat.le_of_ble_eq_true rfl) dX12_back_14 (fun H locs w => ?_)
    refine lv_aload_n (pc := 17) hx hb dX12_back_17 rfl (lv_at hl 0 rfl) ?_
    refine lv_dup (pc := 18) hx hb dX12_back_18 rfl ?_
    refine s_getI (pc := 19) F w ds_14 (j := 60) vc_X12 vi_X12 rfl (by decide) kf_X12_328 dX12_back_19 ?_
    refine lv_iconst (pc := 22) (v := 1) hx hb dX12_back_22 (by decide) ?_
    refine lv_iadd (pc := 23) hx hb dX12_back_23 ?_
    refine s_putI (pc := 24) F w ds_14 vc_X12 vi_X12 tyX12_ok nmX12 (j := 60) rfl (by decide) kf_X12_328 rfl pd_I h dX12_back_24 (fun S2 H locs h w => ?_)
    refine lv_aload_n (pc := 27) hx hb dX12_back_27 rfl (lv_at hl 0 rfl) ?_
    refine lv_dup (pc := 28) hx hb dX12_back_28 rfl ?_
    refine s_getI (pc := 29) F w ds_14 (j := 61) vc_X12 vi_X12 rfl (by decide) kf_X12_331 dX12_back_29 ?_
    refine lv_iconst (pc := 32) (v := 1) hx hb dX12_back_32 (by decide) ?_
    refine lv_isub (pc := 33) hx hb dX12_back_33 ?_
    refine s_putI (pc := 34) F w ds_14 vc_X12 vi_X12 tyX12_ok nmX12 (j := 61) rfl (by decide) kf_X12_331 rfl pd_I h dX12_back_34 (fun S3 H locs h w => ?_)
    refine lv_aload_n (pc := 37) hx hb dX12_back_37 rfl (lv_at hl 0 rfl) ?_
    refine lv_bipush (pc := 38) (v := 8) hx hb dX12_back_38 (by decide) ?_
    refine lv_aload_n (pc := 40) hx hb dX12_back_40 rfl (lv_at hl 0 rfl) ?_
    refine s_getI (pc := 41) F w ds_14 (j := 61) vc_X12 vi_X12 rfl (by decide) kf_X12_331 dX12_back_41 ?_
    refine lv_iadd (pc := 44) hx hb dX12_back_44 ?_
    obtain ⟨S4, hc, h⟩ := bndv_t h
    refine s_cvv (pc := 45) [.int ((8 : Int32) + (S3.1 14 61))] (fun ad => [.ref (ad 14), .int ((8 : Int32) + (S3.1 14 61))]) F w (m_X12_restore _ _ _ hc) rfl rfl hl.1 ds_14 vc_X12 rfl ok_X12_restore rfl kc_X12_restore kl_X12_343 ki_X12_restore kv_X12_restore kn_X12 ⟨Nat.le_trans (by decide) hR1, Nat.le_trans (by decide) hR2⟩ ⟨Nat.zero_le _, Nat.zero_le _⟩ (Nat.le_of_ble_eq_true rfl) dX12_back_45 (fun H locs w => ?_)
    refine lv_iconst (pc := 48) (v := 1) hx hb dX12_back_48 (by decide) ?_
    exact s_iret F w h dX12_back_49
  · have h := ite_t q h
    refine lv_iconst (pc := 7) (v := 0) hx hb dX12_back_7 (by decide) ?_
    exact s_iret F w h dX12_back_8
def f_X11_digestThing (a1 : Int64) (a3 : Int32) (S : SS) : Option (Int64 × SS) :=
  bnd (f_X8_isThere a3 S) (fun r2 S1 =>
  if r2 = 0 then
    some (((31 : Int64) * a1) - (1 : Int64), S1)
  else
    bnd (f_X8_get a3 (0 : Int32) S1) (fun r4 S3 =>
    nm (((31 : Int64) * a1) + (r4.toInt64)) (fun z5 =>
    bnd (f_X8_get a3 (1 : Int32) S3) (fun r7 S6 =>
    nm (((31 : Int64) * z5) + (r7.toInt64)) (fun z8 =>
    bnd (f_X8_get a3 (2 : Int32) S6) (fun r10 S9 =>
    nm (((31 : Int64) * z8) + (r10.toInt64)) (fun z11 =>
    bnd (f_X8_get a3 (3 : Int32) S9) (fun r13 S12 =>
    nm (((31 : Int64) * z11) + (r13.toInt64)) (fun z14 =>
    bnd (f_X8_get a3 (5 : Int32) S12) (fun r16 S15 =>
    nm (((31 : Int64) * z14) + (r16.toInt64)) (fun z17 =>
    bnd (f_X8_get a3 (6 : Int32) S15) (fun r19 S18 =>
    nm (((31 : Int64) * z17) + (r19.toInt64)) (fun z20 =>
    bnd (f_X8_get a3 (8 : Int32) S18) (fun r22 S21 =>
    nm (((31 : Int64) * z20) + (r22.toInt64)) (fun z23 =>
    bnd (f_X8_get a3 (7 : Int32) S21) (fun r25 S24 =>
    nm (((31 : Int64) * z23) + (r25.toInt64)) (fun z26 =>
    bnd (f_X8_get a3 (10 : Int32) S24) (fun r28 S27 =>
    some (((31 : Int64) * z26) + (r28.toInt64), S27)))))))))))))))))))
theorem dX11_digestThing_0 : decode cX11_digestThing 0 = .ok (.aload_n 0, 1) := by decide +kernel
theorem dX11_digestThing_1 : decode cX11_digestThing 1 = .ok (.getfield 19, 3) := by decide +kernel
theorem dX11_digestThing_4 : decode cX11_digestThing 4 = .ok (.iload_n 3, 1) := by decide +kernel
theorem dX11_digestThing_5 : decode cX11_digestThing 5 = .ok (.invokevirtual 410, 3) := by decide +kernel
theorem dX11_digestThing_8 : decode cX11_digestThing 8 = .ok (.ifCond .ne 11, 3) := by decide +kernel
theorem dX11_digestThing_11 : decode cX11_digestThing 11 = .ok (.ldc2_w 408, 3) := by decide +kernel
theorem dX11_digestThing_14 : decode cX11_digestThing 14 = .ok (.lload_n 1, 1) := by decide +kernel
theorem dX11_digestThing_15 : decode cX11_digestThing 15 = .ok (.lmul, 1) := by decide +kernel
theorem dX11_digestThing_16 : decode cX11_digestThing 16 = .ok (.lconst 1, 1) := by decide +kernel
theorem dX11_digestThing_17 : decode cX11_digestThing 17 = .ok (.lsub, 1) := by decide +kernel
theorem dX11_digestThing_18 : decode cX11_digestThing 18 = .ok (.lreturn, 1) := by decide +kernel
theorem dX11_digestThing_19 : decode cX11_digestThing 19 = .ok (.ldc2_w 408, 3) := by decide +kernel
theorem dX11_digestThing_22 : decode cX11_digestThing 22 = .ok (.lload_n 1, 1) := by decide +kernel
theorem dX11_digestThing_23 : decode cX11_digestThing 23 = .ok (.lmul, 1) := by decide +kernel
theorem dX11_digestThing_24 : decode cX11_digestThing 24 = .ok (.aload_n 0, 1) := by decide +kernel
theorem dX11_digestThing_25 : decode cX11_digestThing 25 = .ok (.getfield 19, 3) := by decide +kernel
theorem dX11_digestThing_28 : decode cX11_digestThing 28 = .ok (.iload_n 3, 1) := by decide +kernel
theorem dX11_digestThing_29 : decode cX11_digestThing 29 = .ok (.iconst 0, 1) := by decide +kernel
theorem dX11_digestThing_30 : decode cX11_digestThing 30 = .ok (.invokevirtual 253, 3) := by decide +kernel
theorem dX11_digestThing_33 : decode cX11_digestThing 33 = .ok (.i2l, 1) := by decide +kernel
theorem dX11_digestThing_34 : decode cX11_digestThing 34 = .ok (.ladd, 1) := by decide +kernel
theorem dX11_digestThing_35 : decode cX11_digestThing 35 = .ok (.lstore 4, 2) := by decide +kernel
theorem dX11_digestThing_37 : decode cX11_digestThing 37 = .ok (.ldc2_w 408, 3) := by decide +kernel
theorem dX11_digestThing_40 : decode cX11_digestThing 40 = .ok (.lload 4, 2) := by decide +kernel
theorem dX11_digestThing_42 : decode cX11_digestThing 42 = .ok (.lmul, 1) := by decide +kernel
theorem dX11_digestThing_43 : decode cX11_digestThing 43 = .ok (.aload_n 0, 1) := by decide +kernel
theorem dX11_digestThing_44 : decode cX11_digestThing 44 = .ok (.getfield 19, 3) := by decide +kernel
theorem dX11_digestThing_47 : decode cX11_digestThing 47 = .ok (.iload_n 3, 1) := by decide +kernel
theorem dX11_digestThing_48 : decode cX11_digestThing 48 = .ok (.iconst 1, 1) := by decide +kernel
theorem dX11_digestThing_49 : decode cX11_digestThing 49 = .ok (.invokevirtual 253, 3) := by decide +kernel
theorem dX11_digestThing_52 : decode cX11_digestThing 52 = .ok (.i2l, 1) := by decide +kernel
theorem dX11_digestThing_53 : decode cX11_digestThing 53 = .ok (.ladd, 1) := by decide +kernel
theorem dX11_digestThing_54 : decode cX11_digestThing 54 = .ok (.lstore 4, 2) := by decide +kernel
theorem dX11_digestThing_56 : decode cX11_digestThing 56 = .ok (.ldc2_w 408, 3) := by decide +kernel
theorem dX11_digestThing_59 : decode cX11_digestThing 59 = .ok (.lload 4, 2) := by decide +kernel
theorem dX11_digestThing_61 : decode cX11_digestThing 61 = .ok (.lmul, 1) := by decide +kernel
theorem dX11_digestThing_62 : decode cX11_digestThing 62 = .ok (.aload_n 0, 1) := by decide +kernel
theorem dX11_digestThing_63 : decode cX11_digestThing 63 = .ok (.getfield 19, 3) := by decide +kernel
theorem dX11_digestThing_66 : decode cX11_digestThing 66 = .ok (.iload_n 3, 1) := by decide +kernel
theorem dX11_digestThing_67 : decode cX11_digestThing 67 = .ok (.iconst 2, 1) := by decide +kernel
theorem dX11_digestThing_68 : decode cX11_digestThing 68 = .ok (.invokevirtual 253, 3) := by decide +kernel
theorem dX11_digestThing_71 : decode cX11_digestThing 71 = .ok (.i2l, 1) := by decide +kernel
theorem dX11_digestThing_72 : decode cX11_digestThing 72 = .ok (.ladd, 1) := by decide +kernel
theorem dX11_digestThing_73 : decode cX11_digestThing 73 = .ok (.lstore 4, 2) := by decide +kernel
theorem dX11_digestThing_75 : decode cX11_digestThing 75 = .ok (.ldc2_w 408, 3) := by decide +kernel
theorem dX11_digestThing_78 : decode cX11_digestThing 78 = .ok (.lload 4, 2) := by decide +kernel
theorem dX11_digestThing_80 : decode cX11_digestThing 80 = .ok (.lmul, 1) := by decide +kernel
theorem dX11_digestThing_81 : decode cX11_digestThing 81 = .ok (.aload_n 0, 1) := by decide +kernel
theorem dX11_digestThing_82 : decode cX11_digestThing 82 = .ok (.getfield 19, 3) := by decide +kernel
theorem dX11_digestThing_85 : decode cX11_digestThing 85 = .ok (.iload_n 3, 1) := by decide +kernel
theorem dX11_digestThing_86 : decode cX11_digestThing 86 = .ok (.iconst 3, 1) := by decide +kernel
theorem dX11_digestThing_87 : decode cX11_digestThing 87 = .ok (.invokevirtual 253, 3) := by decide +kernel
theorem dX11_digestThing_90 : decode cX11_digestThing 90 = .ok (.i2l, 1) := by decide +kernel
theorem dX11_digestThing_91 : decode cX11_digestThing 91 = .ok (.ladd, 1) := by decide +kernel
theorem dX11_digestThing_92 : decode cX11_digestThing 92 = .ok (.lstore 4, 2) := by decide +kernel
theorem dX11_digestThing_94 : decode cX11_digestThing 94 = .ok (.ldc2_w 408, 3) := by decide +kernel
theorem dX11_digestThing_97 : decode cX11_digestThing 97 = .ok (.lload 4, 2) := by decide +kernel
theorem dX11_digestThing_99 : decode cX11_digestThing 99 = .ok (.lmul, 1) := by decide +kernel
theorem dX11_digestThing_100 : decode cX11_digestThing 100 = .ok (.aload_n 0, 1) := by decide +kernel
theorem dX11_digestThing_101 : decode cX11_digestThing 101 = .ok (.getfield 19, 3) := by decide +kernel
theorem dX11_digestThing_104 : decode cX11_digestThing 104 = .ok (.iload_n 3, 1) := by decide +kernel
theorem dX11_digestThing_105 : decode cX11_digestThing 105 = .ok (.iconst 5, 1) := by decide +kernel
theorem dX11_digestThing_106 : decode cX11_digestThing 106 = .ok (.invokevirtual 253, 3) := by decide +kernel
theorem dX11_digestThing_109 : decode cX11_digestThing 109 = .ok (.i2l, 1) := by decide +kernel
theorem dX11_digestThing_110 : decode cX11_digestThing 110 = .ok (.ladd, 1) := by decide +kernel
theorem dX11_digestThing_111 : decode cX11_digestThing 111 = .ok (.lstore 4, 2) := by decide +kernel
theorem dX11_digestThing_113 : decode cX11_digestThing 113 = .ok (.ldc2_w 408, 3) := by decide +kernel
theorem dX11_digestThing_116 : decode cX11_digestThing 116 = .ok (.lload 4, 2) := by decide +kernel
theorem dX11_digestThing_118 : decode cX11_digestThing 118 = .ok (.lmul, 1) := by decide +kernel
theorem dX11_digestThing_119 : decode cX11_digestThing 119 = .ok (.aload_n 0, 1) := by decide +kernel
theorem dX11_digestThing_120 : decode cX11_digestThing 120 = .ok (.getfield 19, 3) := by decide +kernel
theorem dX11_digestThing_123 : decode cX11_digestThing 123 = .ok (.iload_n 3, 1) := by decide +kernel
theorem dX11_digestThing_124 : decode cX11_digestThing 124 = .ok (.bipush 6, 2) := by decide +kernel
theorem dX11_digestThing_126 : decode cX11_digestThing 126 = .ok (.invokevirtual 253, 3) := by decide +kernel
theorem dX11_digestThing_129 : decode cX11_digestThing 129 = .ok (.i2l, 1) := by decide +kernel
theorem dX11_digestThing_130 : decode cX11_digestThing 130 = .ok (.ladd, 1) := by decide +kernel
theorem dX11_digestThing_131 : decode cX11_digestThing 131 = .ok (.lstore 4, 2) := by decide +kernel
theorem dX11_digestThing_133 : decode cX11_digestThing 133 = .ok (.ldc2_w 408, 3) := by decide +kernel
theorem dX11_digestThing_136 : decode cX11_digestThing 136 = .ok (.lload 4, 2) := by decide +kernel
theorem dX11_digestThing_138 : decode cX11_digestThing 138 = .ok (.lmul, 1) := by decide +kernel
theorem dX11_digestThing_139 : decode cX11_digestThing 139 = .ok (.aload_n 0, 1) := by decide +kernel
theorem dX11_digestThing_140 : decode cX11_digestThing 140 = .ok (.getfield 19, 3) := by decide +kernel
theorem dX11_digestThing_143 : decode cX11_digestThing 143 = .ok (.iload_n 3, 1) := by decide +kernel
theorem dX11_digestThing_144 : decode cX11_digestThing 144 = .ok (.bipush 8, 2) := by decide +kernel
theorem dX11_digestThing_146 : decode cX11_digestThing 146 = .ok (.invokevirtual 253, 3) := by decide +kernel
theorem dX11_digestThing_149 : decode cX11_digestThing 149 = .ok (.i2l, 1) := by decide +kernel
theorem dX11_digestThing_150 : decode cX11_digestThing 150 = .ok (.ladd, 1) := by decide +kernel
theorem dX11_digestThing_151 : decode cX11_digestThing 151 = .ok (.lstore 4, 2) := by decide +kernel
theorem dX11_digestThing_153 : decode cX11_digestThing 153 = .ok (.ldc2_w 408, 3) := by decide +kernel
theorem dX11_digestThing_156 : decode cX11_digestThing 156 = .ok (.lload 4, 2) := by decide +kernel
theorem dX11_digestThing_158 : decode cX11_digestThing 158 = .ok (.lmul, 1) := by decide +kernel
theorem dX11_digestThing_159 : decode cX11_digestThing 159 = .ok (.aload_n 0, 1) := by decide +kernel
theorem dX11_digestThing_160 : decode cX11_digestThing 160 = .ok (.getfield 19, 3) := by decide +kernel
theorem dX11_digestThing_163 : decode cX11_digestThing 163 = .ok (.iload_n 3, 1) := by decide +kernel
theorem dX11_digestThing_164 : decode cX11_digestThing 164 = .ok (.bipush 7, 2) := by decide +kernel
theorem dX11_digestThing_166 : decode cX11_digestThing 166 = .ok (.invokevirtual 253, 3) := by decide +kernel
theorem dX11_digestThing_169 : decode cX11_digestThing 169 = .ok (.i2l, 1) := by decide +kernel
theorem dX11_digestThing_170 : decode cX11_digestThing 170 = .ok (.ladd, 1) := by decide +kernel
theorem dX11_digestThing_171 : decode cX11_digestThing 171 = .ok (.lstore 4, 2) := by decide +kernel
theorem dX11_digestThing_173 : decode cX11_digestThing 173 = .ok (.ldc2_w 408, 3) := by decide +kernel
theorem dX11_digestThing_176 : decode cX11_digestThing 176 = .ok (.lload 4, 2) := by decide +kernel
theorem dX11_digestThing_178 : decode cX11_digestThing 178 = .ok (.lmul, 1) := by decide +kernel
theorem dX11_digestThing_179 : decode cX11_digestThing 179 = .ok (.aload_n 0, 1) := by decide +kernel
theorem dX11_digestThing_180 : decode cX11_digestThing 180 = .ok (.getfield 19, 3) := by decide +kernel
theorem dX11_digestThing_183 : decode cX11_digestThing 183 = .ok (.iload_n 3, 1) := by decide +kernel
theorem dX11_digestThing_184 : decode cX11_digestThing 184 = .ok (.bipush 10, 2) := by decide +kernel
theorem dX11_digestThing_186 : decode cX11_digestThing 186 = .ok (.invokevirtual 253, 3) := by decide +kernel
theorem dX11_digestThing_189 : decode cX11_digestThing 189 = .ok (.i2l, 1) := by decide +kernel
theorem dX11_digestThing_190 : decode cX11_digestThing 190 = .ok (.ladd, 1) := by decide +kernel
theorem dX11_digestThing_191 : decode cX11_digestThing 191 = .ok (.lreturn, 1) := by decide +kernel
set_option maxRecDepth 100000 in
set_option maxHeartbeats 4000000 in
theorem m_X11_digestThing (a1 : Int64) (a3 : Int32) (S S' : SS) (r : Int64) (h : f_X11_digestThing a1 a3 S = some (r, S')) : MT yX11_digestThing cX11_digestThing 6 (some .long) 2 43 (fun ad => [.ref (ad 0), .long a1, .int a3]) S (some (.long r)) S' := by
  refine MT.of RX11 (fun ad => [(0, .ref (ad 0)), (1, .long a1), (3, .int a3)]) (by decide) rfl (fun _ => Nat.le_of_ble_eq_true rfl) (fun _ => rfl) ?_
  intro p l e R s m args below meth c dC dI cs ad A hR1 hR2 F H locs ls w hl
  have hx := F.1.1
  have hb := F.1.2.1
  rw [f_X11_digestThing] at h
  refine lv_aload_n (pc := 0) hx hb dX11_digestThing_0 rfl (lv_at hl 0 rfl) ?_
  refine s_getR (pc := 1) F w 2 ds_0 (j := 1) vc_X11 vi_X11 rfl (by decide) kf_X11_19 dX11_digestThing_1 ?_
  refine lv_iload_n (pc := 4) hx hb dX11_digestThing_4 rfl (lv_at hl 2 rfl) ?_
  obtain ⟨r2, S1, hc, h⟩ := bnd_t h
  refine s_cvi (pc := 5) [.int a3] (fun ad => [.ref (ad 2), .int a3]) F w (m_X8_isThere _ _ _ _ hc) rfl rfl hl.1 ds_2 vc_X8 rfl ok_X8_isThere rfl kc_X8_isThere kl_X11_410 ki_X8_isThere kv_X8_isThere kn_X8 ⟨Nat.le_trans (by decide) hR1, Nat.le_trans (by decide) hR2⟩ ⟨Nat.zero_le _, Nat.zero_le _⟩ (Nat.le_of_ble_eq_true rfl) dX11_digestThing_5 (fun H locs w => ?_)
  refine lv_if_ne (pc := 8) (tgt := 19) hx hb dX11_digestThing_8 (by decide) (fun q => ?_) (fun q => ?_)
  · have h := ite_f q h
    refine lv_ldc2 (pc := 19) (v := 31) hx hb F.1.2.2.2.1 (F.1.2.2.2.2 _ kk_X11_408) dX11_digestThing_19 ?_
    refine lv_lload_n (pc := 22) hx hb dX11_digestThing_22 rfl (lv_at hl 1 rfl) ?_
    refine lv_lmul (pc := 23) hx hb dX11_digestThing_23 ?_
    refine lv_aload_n (pc := 24) hx hb dX11_digestThing_24 rfl (lv_at hl 0 rfl) ?_
    refine s_getR (pc := 25) F w 2 ds_0 (j := 1) vc_X11 vi_X11 rfl (by decide) kf_X11_19 dX11_digestThing_25 ?_
    refine lv_iload_n (pc := 28) hx hb dX11_digestThing_28 rfl (lv_at hl 2 rfl) ?_
    refine lv_iconst (pc := 29) (v := 0) hx hb dX11_digestThing_29 (by decide) ?_
    obtain ⟨r4, S3, hc, h⟩ := bnd_t h
    refine s_cvi (pc := 30) [.int a3, .int (0 : Int32)] (fun ad => [.ref (ad 2), .int a3, .int (0 : Int32)]) F w (m_X8_get _ _ _ _ _ hc) rfl rfl hl.1 ds_2 vc_X8 rfl ok_X8_get rfl kc_X8_get kl_X11_253 ki_X8_get kv_X8_get kn_X8 ⟨Nat.le_trans (by decide) hR1, Nat.le_trans (by decide) hR2⟩ ⟨Nat.zero_le _, Nat.zero_le _⟩ (Nat.le_of_ble_eq_true rfl) dX11_digestThing_30 (fun H locs w => ?_)
    refine lv_i2l (pc := 33) hx hb dX11_digestThing_33 rfl ?_
    refine lv_ladd (pc := 34) hx hb dX11_digestThing_34 ?_
    refine s_nm h (fun z5 ez5 h => ?_)
    rw [← ez5]
    refine lv_lstore (pc := 35) (lv' := [(4, .long z5), (0, .ref (ad 0)), (1, .long a1), (3, .int a3)]) hx hb dX11_digestThing_35 hl (by decide) rfl (fun ls hl => ?_)
    refine lv_ldc2 (pc := 37) (v := 31) hx hb F.1.2.2.2.1 (F.1.2.2.2.2 _ kk_X11_408) dX11_digestThing_37 ?_
    refine lv_lload (pc := 40) hx hb dX11_digestThing_40 (lv_at hl 0 rfl) ?_
    refine lv_lmul (pc := 42) hx hb dX11_digestThing_42 ?_
    refine lv_aload_n (pc := 43) hx hb dX11_digestThing_43 rfl (lv_at hl 1 rfl) ?_
    refine s_getR (pc := 44) F w 2 ds_0 (j := 1) vc_X11 vi_X11 rfl (by decide) kf_X11_19 dX11_digestThing_44 ?_
    refine lv_iload_n (pc := 47) hx hb dX11_digestThing_47 rfl (lv_at hl 3 rfl) ?_
    refine lv_iconst (pc := 48) (v := 1) hx hb dX11_digestThing_48 (by decide) ?_
    obtain ⟨r7, S6, hc, h⟩ := bnd_t h
    refine s_cvi (pc := 49) [.int a3, .int (1 : Int32)] (fun ad => [.ref (ad 2), .int a3, .int (1 : Int32)]) F w (m_X8_get _ _ _ _ _ hc) rfl rfl hl.1 ds_2 vc_X8 rfl ok_X8_get rfl kc_X8_get kl_X11_253 ki_X8_get kv_X8_get kn_X8 ⟨Nat.le_trans (by decide) hR1, Nat.le_trans (by decide) hR2⟩ ⟨Nat.zero_le _, Nat.zero_le _⟩ (Nat.le_of_ble_eq_true rfl) dX11_digestThing_49 (fun H locs w => ?_)
    refine lv_i2l (pc := 52) hx hb dX11_digestThing_52 rfl ?_
    refine lv_ladd (pc := 53) hx hb dX11_digestThing_53 ?_
    refine s_nm h (fun z8 ez8 h => ?_)
    rw [← ez8]
    refine lv_lstore (pc := 54) (lv' := [(4, .long z8), (0, .ref (ad 0)), (1, .long a1), (3, .int a3)]) hx hb dX11_digestThing_54 hl (by decide) rfl (fun ls hl => ?_)
    refine lv_ldc2 (pc := 56) (v := 31) hx hb F.1.2.2.2.1 (F.1.2.2.2.2 _ kk_X11_408) dX11_digestThing_56 ?_
    refine lv_lload (pc := 59) hx hb dX11_digestThing_59 (lv_at hl 0 rfl) ?_
    refine lv_lmul (pc := 61) hx hb dX11_digestThing_61 ?_
    refine lv_aload_n (pc := 62) hx hb dX11_digestThing_62 rfl (lv_at hl 1 rfl) ?_
    refine s_getR (pc := 63) F w 2 ds_0 (j := 1) vc_X11 vi_X11 rfl (by decide) kf_X11_19 dX11_digestThing_63 ?_
    refine lv_iload_n (pc := 66) hx hb dX11_digestThing_66 rfl (lv_at hl 3 rfl) ?_
    refine lv_iconst (pc := 67) (v := 2) hx hb dX11_digestThing_67 (by decide) ?_
    obtain ⟨r10, S9, hc, h⟩ := bnd_t h
    refine s_cvi (pc := 68) [.int a3, .int (2 : Int32)] (fun ad => [.ref (ad 2), .int a3, .int (2 : Int32)]) F w (m_X8_get _ _ _ _ _ hc) rfl rfl hl.1 ds_2 vc_X8 rfl ok_X8_get rfl kc_X8_get kl_X11_253 ki_X8_get kv_X8_get kn_X8 ⟨Nat.le_trans (by decide) hR1, Nat.le_trans (by decide) hR2⟩ ⟨Nat.zero_le _, Nat.zero_le _⟩ (Nat.le_of_ble_eq_true rfl) dX11_digestThing_68 (fun H locs w => ?_)
    refine lv_i2l (pc := 71) hx hb dX11_digestThing_71 rfl ?_
    refine lv_ladd (pc := 72) hx hb dX11_digestThing_72 ?_
    refine s_nm h (fun z11 ez11 h => ?_)
    rw [← ez11]
    refine lv_lstore (pc := 73) (lv' := [(4, .long z11), (0, .ref (ad 0)), (1, .long a1), (3, .int a3)]) hx hb dX11_digestThing_73 hl (by decide) rfl (fun ls hl => ?_)
    refine lv_ldc2 (pc := 75) (v := 31) hx hb F.1.2.2.2.1 (F.1.2.2.2.2 _ kk_X11_408) dX11_digestThing_75 ?_
    refine lv_lload (pc := 78) hx hb dX11_digestThing_78 (lv_at hl 0 rfl) ?_
    refine lv_lmul (pc := 80) hx hb dX11_digestThing_80 ?_
    refine lv_aload_n (pc := 81) hx hb dX11_digestThing_81 rfl (lv_at hl 1 rfl) ?_
    refine s_getR (pc := 82) F w 2 ds_0 (j := 1) vc_X11 vi_X11 rfl (by decide) kf_X11_19 dX11_digestThing_82 ?_
    refine lv_iload_n (pc := 85) hx hb dX11_digestThing_85 rfl (lv_at hl 3 rfl) ?_
    refine lv_iconst (pc := 86) (v := 3) hx hb dX11_digestThing_86 (by decide) ?_
    obtain ⟨r13, S12, hc, h⟩ := bnd_t h
    refine s_cvi (pc := 87) [.int a3, .int (3 : Int32)] (fun ad => [.ref (ad 2), .int a3, .int (3 : Int32)]) F w (m_X8_get _ _ _ _ _ hc) rfl rfl hl.1 ds_2 vc_X8 rfl ok_X8_get rfl kc_X8_get kl_X11_253 ki_X8_get kv_X8_get kn_X8 ⟨Nat.le_trans (by decide) hR1, Nat.le_trans (by decide) hR2⟩ ⟨Nat.zero_le _, Nat.zero_le _⟩ (Nat.le_of_ble_eq_true rfl) dX11_digestThing_87 (fun H locs w => ?_)
    refine lv_i2l (pc := 90) hx hb dX11_digestThing_90 rfl ?_
    refine lv_ladd (pc := 91) hx hb dX11_digestThing_91 ?_
    refine s_nm h (fun z14 ez14 h => ?_)
    rw [← ez14]
    refine lv_lstore (pc := 92) (lv' := [(4, .long z14), (0, .ref (ad 0)), (1, .long a1), (3, .int a3)]) hx hb dX11_digestThing_92 hl (by decide) rfl (fun ls hl => ?_)
    refine lv_ldc2 (pc := 94) (v := 31) hx hb F.1.2.2.2.1 (F.1.2.2.2.2 _ kk_X11_408) dX11_digestThing_94 ?_
    refine lv_lload (pc := 97) hx hb dX11_digestThing_97 (lv_at hl 0 rfl) ?_
    refine lv_lmul (pc := 99) hx hb dX11_digestThing_99 ?_
    refine lv_aload_n (pc := 100) hx hb dX11_digestThing_100 rfl (lv_at hl 1 rfl) ?_
    refine s_getR (pc := 101) F w 2 ds_0 (j := 1) vc_X11 vi_X11 rfl (by decide) kf_X11_19 dX11_digestThing_101 ?_
    refine lv_iload_n (pc := 104) hx hb dX11_digestThing_104 rfl (lv_at hl 3 rfl) ?_
    refine lv_iconst (pc := 105) (v := 5) hx hb dX11_digestThing_105 (by decide) ?_
    obtain ⟨r16, S15, hc, h⟩ := bnd_t h
    refine s_cvi (pc := 106) [.int a3, .int (5 : Int32)] (fun ad => [.ref (ad 2), .int a3, .int (5 : Int32)]) F w (m_X8_get _ _ _ _ _ hc) rfl rfl hl.1 ds_2 vc_X8 rfl ok_X8_get rfl kc_X8_get kl_X11_253 ki_X8_get kv_X8_get kn_X8 ⟨Nat.le_trans (by decide) hR1, Nat.le_trans (by decide) hR2⟩ ⟨Nat.zero_le _, Nat.zero_le _⟩ (Nat.le_of_ble_eq_true rfl) dX11_digestThing_106 (fun H locs w => ?_)
    refine lv_i2l (pc := 109) hx hb dX11_digestThing_109 rfl ?_
    refine lv_ladd (pc := 110) hx hb dX11_digestThing_110 ?_
    refine s_nm h (fun z17 ez17 h => ?_)
    rw [← ez17]
    refine lv_lstore (pc := 111) (lv' := [(4, .long z17), (0, .ref (ad 0)), (1, .long a1), (3, .int a3)]) hx hb dX11_digestThing_111 hl (by decide) rfl (fun ls hl => ?_)
    refine lv_ldc2 (pc := 113) (v := 31) hx hb F.1.2.2.2.1 (F.1.2.2.2.2 _ kk_X11_408) dX11_digestThing_113 ?_
    refine lv_lload (pc := 116) hx hb dX11_digestThing_116 (lv_at hl 0 rfl) ?_
    refine lv_lmul (pc := 118) hx hb dX11_digestThing_118 ?_
    refine lv_aload_n (pc := 119) hx hb dX11_digestThing_119 rfl (lv_at hl 1 rfl) ?_
    refine s_getR (pc := 120) F w 2 ds_0 (j := 1) vc_X11 vi_X11 rfl (by decide) kf_X11_19 dX11_digestThing_120 ?_
    refine lv_iload_n (pc := 123) hx hb dX11_digestThing_123 rfl (lv_at hl 3 rfl) ?_
    refine lv_bipush (pc := 124) (v := 6) hx hb dX11_digestThing_124 (by decide) ?_
    obtain ⟨r19, S18, hc, h⟩ := bnd_t h
    refine s_cvi (pc := 126) [.int a3, .int (6 : Int32)] (fun ad => [.ref (ad 2), .int a3, .int (6 : Int32)]) F w (m_X8_get _ _ _ _ _ hc) rfl rfl hl.1 ds_2 vc_X8 rfl ok_X8_get rfl kc_X8_get kl_X11_253 ki_X8_get kv_X8_get kn_X8 ⟨Nat.le_trans (by decide) hR1, Nat.le_trans (by decide) hR2⟩ ⟨Nat.zero_le _, Nat.zero_le _⟩ (Nat.le_of_ble_eq_true rfl) dX11_digestThing_126 (fun H locs w => ?_)
    refine lv_i2l (pc := 129) hx hb dX11_digestThing_129 rfl ?_
    refine lv_ladd (pc := 130) hx hb dX11_digestThing_130 ?_
    refine s_nm h (fun z20 ez20 h => ?_)
    rw [← ez20]
    refine lv_lstore (pc := 131) (lv' := [(4, .long z20), (0, .ref (ad 0)), (1, .long a1), (3, .int a3)]) hx hb dX11_digestThing_131 hl (by decide) rfl (fun ls hl => ?_)
    refine lv_ldc2 (pc := 133) (v := 31) hx hb F.1.2.2.2.1 (F.1.2.2.2.2 _ kk_X11_408) dX11_digestThing_133 ?_
    refine lv_lload (pc := 136) hx hb dX11_digestThing_136 (lv_at hl 0 rfl) ?_
    refine lv_lmul (pc := 138) hx hb dX11_digestThing_138 ?_
    refine lv_aload_n (pc := 139) hx hb dX11_digestThing_139 rfl (lv_at hl 1 rfl) ?_
    refine s_getR (pc := 140) F w 2 ds_0 (j := 1) vc_X11 vi_X11 rfl (by decide) kf_X11_19 dX11_digestThing_140 ?_
    refine lv_iload_n (pc := 143) hx hb dX11_digestThing_143 rfl (lv_at hl 3 rfl) ?_
    refine lv_bipush (pc := 144) (v := 8) hx hb dX11_digestThing_144 (by decide) ?_
    obtain ⟨r22, S21, hc, h⟩ := bnd_t h
    refine s_cvi (pc := 146) [.int a3, .int (8 : Int32)] (fun ad => [.ref (ad 2), .int a3, .int (8 : Int32)]) F w (m_X8_get _ _ _ _ _ hc) rfl rfl hl.1 ds_2 vc_X8 rfl ok_X8_get rfl kc_X8_get kl_X11_253 ki_X8_get kv_X8_get kn_X8 ⟨Nat.le_trans (by decide) hR1, Nat.le_trans (by decide) hR2⟩ ⟨Nat.zero_le _, Nat.zero_le _⟩ (Nat.le_of_ble_eq_true rfl) dX11_digestThing_146 (fun H locs w => ?_)
    refine lv_i2l (pc := 149) hx hb dX11_digestThing_149 rfl ?_
    refine lv_ladd (pc := 150) hx hb dX11_digestThing_150 ?_
    refine s_nm h (fun z23 ez23 h => ?_)
    rw [← ez23]
    refine lv_lstore (pc := 151) (lv' := [(4, .long z23), (0, .ref (ad 0)), (1, .long a1), (3, .int a3)]) hx hb dX11_digestThing_151 hl (by decide) rfl (fun ls hl => ?_)
    refine lv_ldc2 (pc := 153) (v := 31) hx hb F.1.2.2.2.1 (F.1.2.2.2.2 _ kk_X11_408) dX11_digestThing_153 ?_
    refine lv_lload (pc := 156) hx hb dX11_digestThing_156 (lv_at hl 0 rfl) ?_
    refine lv_lmul (pc := 158) hx hb dX11_digestThing_158 ?_
    refine lv_aload_n (pc := 159) hx hb dX11_digestThing_159 rfl (lv_at hl 1 rfl) ?_
    refine s_getR (pc := 160) F w 2 ds_0 (j := 1) vc_X11 vi_X11 rfl (by decide) kf_X11_19 dX11_digestThing_160 ?_
    refine lv_iload_n (pc := 163) hx hb dX11_digestThing_163 rfl (lv_at hl 3 rfl) ?_
    refine lv_bipush (pc := 164) (v := 7) hx hb dX11_digestThing_164 (by decide) ?_
    obtain ⟨r25, S24, hc, h⟩ := bnd_t h
    refine s_cvi (pc := 166) [.int a3, .int (7 : Int32)] (fun ad => [.ref (ad 2), .int a3, .int (7 : Int32)]) F w (m_X8_get _ _ _ _ _ hc) rfl rfl hl.1 ds_2 vc_X8 rfl ok_X8_get rfl kc_X8_get kl_X11_253 ki_X8_get kv_X8_get kn_X8 ⟨Nat.le_trans (by decide) hR1, Nat.le_trans (by decide) hR2⟩ ⟨Nat.zero_le _, Nat.zero_le _⟩ (Nat.le_of_ble_eq_true rfl) dX11_digestThing_166 (fun H locs w => ?_)
    refine lv_i2l (pc := 169) hx hb dX11_digestThing_169 rfl ?_
    refine lv_ladd (pc := 170) hx hb dX11_digestThing_170 ?_
    refine s_nm h (fun z26 ez26 h => ?_)
    rw [← ez26]
    refine lv_lstore (pc := 171) (lv' := [(4, .long z26), (0, .ref (ad 0)), (1, .long a1), (3, .int a3)]) hx hb dX11_digestThing_171 hl (by decide) rfl (fun ls hl => ?_)
    refine lv_ldc2 (pc := 173) (v := 31) hx hb F.1.2.2.2.1 (F.1.2.2.2.2 _ kk_X11_408) dX11_digestThing_173 ?_
    refine lv_lload (pc := 176) hx hb dX11_digestThing_176 (lv_at hl 0 rfl) ?_
    refine lv_lmul (pc := 178) hx hb dX11_digestThing_178 ?_
    refine lv_aload_n (pc := 179) hx hb dX11_digestThing_179 rfl (lv_at hl 1 rfl) ?_
    refine s_getR (pc := 180) F w 2 ds_0 (j := 1) vc_X11 vi_X11 rfl (by decide) kf_X11_19 dX11_digestThing_180 ?_
    refine lv_iload_n (pc := 183) hx hb dX11_digestThing_183 rfl (lv_at hl 3 rfl) ?_
    refine lv_bipush (pc := 184) (v := 10) hx hb dX11_digestThing_184 (by decide) ?_
    obtain ⟨r28, S27, hc, h⟩ := bnd_t h
    refine s_cvi (pc := 186) [.int a3, .int (10 : Int32)] (fun ad => [.ref (ad 2), .int a3, .int (10 : Int32)]) F w (m_X8_get _ _ _ _ _ hc) rfl rfl hl.1 ds_2 vc_X8 rfl ok_X8_get rfl kc_X8_get kl_X11_253 ki_X8_get kv_X8_get kn_X8 ⟨Nat.le_trans (by decide) hR1, Nat.le_trans (by decide) hR2⟩ ⟨Nat.zero_le _, Nat.zero_le _⟩ (Nat.le_of_ble_eq_true rfl) dX11_digestThing_186 (fun H locs w => ?_)
    refine lv_i2l (pc := 189) hx hb dX11_digestThing_189 rfl ?_
    refine lv_ladd (pc := 190) hx hb dX11_digestThing_190 ?_
    exact s_lret F w h dX11_digestThing_191
  · have h := ite_t q h
    refine lv_ldc2 (pc := 11) (v := 31) hx hb F.1.2.2.2.1 (F.1.2.2.2.2 _ kk_X11_408) dX11_digestThing_11 ?_
    refine lv_lload_n (pc := 14) hx hb dX11_digestThing_14 rfl (lv_at hl 1 rfl) ?_
    refine lv_lmul (pc := 15) hx hb dX11_digestThing_15 ?_
    refine lv_lconst (pc := 16) (v := 1) hx hb dX11_digestThing_16 (by decide) ?_
    refine lv_lsub (pc := 17) hx hb dX11_digestThing_17 ?_
    exact s_lret F w h dX11_digestThing_18
def f_X11_digest_L32  : Nat → Int64 → Int32 → SS → Option (Int64 × SS)
  | 0, _, _, _ => none
  | n + 1, x1, x3, S =>
    if (S.1 5 8) ≤ x3 then
      some (x1, S)
    else
      bnd (f_X8_setting x3 S) (fun r2 S1 =>
      nm (((31 : Int64) * x1) + (r2.toInt64)) (fun z3 =>
      bnd (f_X8_locker x3 S1) (fun r5 S4 =>
      nm (((31 : Int64) * z3) + (r5.toInt64)) (fun z6 =>
      nm (x3 + (1 : Int32)) (fun z7 =>
      f_X11_digest_L32 n z6 z7 S4)))))
def f_X11_digest_L6  : Nat → Int64 → Int32 → SS → Option (Int64 × SS)
  | 0, _, _, _ => none
  | n + 1, x1, x3, S =>
    if (S.1 2 1) ≤ x3 then
      f_X11_digest_L32 NF x1 (0 : Int32) S
    else
      bndl (f_X11_digestThing x1 x3 S) (fun r9 S8 =>
      nm (x3 + (1 : Int32)) (fun z10 =>
      f_X11_digest_L6 n r9 z10 S8))
def f_X11_digest  (S : SS) : Option (Int64 × SS) :=
  f_X11_digest_L6 NF (7 : Int64) (0 : Int32) S
theorem dX11_digest_0 : decode cX11_digest 0 = .ok (.ldc2_w 402, 3) := by decide +kernel
theorem dX11_digest_3 : decode cX11_digest 3 = .ok (.lstore_n 1, 1) := by decide +kernel
theorem dX11_digest_4 : decode cX11_digest 4 = .ok (.iconst 0, 1) := by decide +kernel
theorem dX11_digest_5 : decode cX11_digest 5 = .ok (.istore_n 3, 1) := by decide +kernel
theorem dX11_digest_6 : decode cX11_digest 6 = .ok (.iload_n 3, 1) := by decide +kernel
theorem dX11_digest_7 : decode cX11_digest 7 = .ok (.aload_n 0, 1) := by decide +kernel
theorem dX11_digest_8 : decode cX11_digest 8 = .ok (.getfield 19, 3) := by decide +kernel
theorem dX11_digest_11 : decode cX11_digest 11 = .ok (.getfield 140, 3) := by decide +kernel
theorem dX11_digest_14 : decode cX11_digest 14 = .ok (.if_icmp .ge 16, 3) := by decide +kernel
theorem dX11_digest_17 : decode cX11_digest 17 = .ok (.aload_n 0, 1) := by decide +kernel
theorem dX11_digest_18 : decode cX11_digest 18 = .ok (.lload_n 1, 1) := by decide +kernel
theorem dX11_digest_19 : decode cX11_digest 19 = .ok (.iload_n 3, 1) := by decide +kernel
theorem dX11_digest_20 : decode cX11_digest 20 = .ok (.invokevirtual 404, 3) := by decide +kernel
theorem dX11_digest_23 : decode cX11_digest 23 = .ok (.lstore_n 1, 1) := by decide +kernel
theorem dX11_digest_24 : decode cX11_digest 24 = .ok (.iinc 3 1, 3) := by decide +kernel
theorem dX11_digest_27 : decode cX11_digest 27 = .ok (.goto (-21), 3) := by decide +kernel
theorem dX11_digest_30 : decode cX11_digest 30 = .ok (.iconst 0, 1) := by decide +kernel
theorem dX11_digest_31 : decode cX11_digest 31 = .ok (.istore_n 3, 1) := by decide +kernel
theorem dX11_digest_32 : decode cX11_digest 32 = .ok (.iload_n 3, 1) := by decide +kernel
theorem dX11_digest_33 : decode cX11_digest 33 = .ok (.aload_n 0, 1) := by decide +kernel
theorem dX11_digest_34 : decode cX11_digest 34 = .ok (.getfield 42, 3) := by decide +kernel
theorem dX11_digest_37 : decode cX11_digest 37 = .ok (.getfield 112, 3) := by decide +kernel
theorem dX11_digest_40 : decode cX11_digest 40 = .ok (.if_icmp .ge 41, 3) := by decide +kernel
theorem dX11_digest_43 : decode cX11_digest 43 = .ok (.ldc2_w 408, 3) := by decide +kernel
theorem dX11_digest_46 : decode cX11_digest 46 = .ok (.lload_n 1, 1) := by decide +kernel
theorem dX11_digest_47 : decode cX11_digest 47 = .ok (.lmul, 1) := by decide +kernel
theorem dX11_digest_48 : decode cX11_digest 48 = .ok (.aload_n 0, 1) := by decide +kernel
theorem dX11_digest_49 : decode cX11_digest 49 = .ok (.getfield 19, 3) := by decide +kernel
theorem dX11_digest_52 : decode cX11_digest 52 = .ok (.iload_n 3, 1) := by decide +kernel
theorem dX11_digest_53 : decode cX11_digest 53 = .ok (.invokevirtual 348, 3) := by decide +kernel
theorem dX11_digest_56 : decode cX11_digest 56 = .ok (.i2l, 1) := by decide +kernel
theorem dX11_digest_57 : decode cX11_digest 57 = .ok (.ladd, 1) := by decide +kernel
theorem dX11_digest_58 : decode cX11_digest 58 = .ok (.lstore_n 1, 1) := by decide +kernel
theorem dX11_digest_59 : decode cX11_digest 59 = .ok (.ldc2_w 408, 3) := by decide +kernel
theorem dX11_digest_62 : decode cX11_digest 62 = .ok (.lload_n 1, 1) := by decide +kernel
theorem dX11_digest_63 : decode cX11_digest 63 = .ok (.lmul, 1) := by decide +kernel
theorem dX11_digest_64 : decode cX11_digest 64 = .ok (.aload_n 0, 1) := by decide +kernel
theorem dX11_digest_65 : decode cX11_digest 65 = .ok (.getfield 19, 3) := by decide +kernel
theorem dX11_digest_68 : decode cX11_digest 68 = .ok (.iload_n 3, 1) := by decide +kernel
theorem dX11_digest_69 : decode cX11_digest 69 = .ok (.invokevirtual 351, 3) := by decide +kernel
theorem dX11_digest_72 : decode cX11_digest 72 = .ok (.i2l, 1) := by decide +kernel
theorem dX11_digest_73 : decode cX11_digest 73 = .ok (.ladd, 1) := by decide +kernel
theorem dX11_digest_74 : decode cX11_digest 74 = .ok (.lstore_n 1, 1) := by decide +kernel
theorem dX11_digest_75 : decode cX11_digest 75 = .ok (.iinc 3 1, 3) := by decide +kernel
theorem dX11_digest_78 : decode cX11_digest 78 = .ok (.goto (-46), 3) := by decide +kernel
theorem dX11_digest_81 : decode cX11_digest 81 = .ok (.lload_n 1, 1) := by decide +kernel
theorem dX11_digest_82 : decode cX11_digest 82 = .ok (.lreturn, 1) := by decide +kernel
set_option maxRecDepth 100000 in
set_option maxHeartbeats 4000000 in
theorem w_X11_digest_L32 {p : Program} {l : Launch} {e : Env} {R : Room} {s : State} {m : MethodId} {args : Array Value} {below : List Frame} {meth : Method} {c : Code} {dC : Nat → ClassId} {dI : Nat → Nat → Nat} {cs : Nat → ClassId} {ad : Nat → Nat} {A : Nat → Prop} {D0 : Nat → Nat} {S' : SS} {r : Int64} (F : Fx p s m args meth c cX11_digest 4 RX11 (some .long) dC dI cs A) (hR1 : 1 ≤ R.frames) (hR2 : 21 ≤ R.locals) : ∀ (n : Nat) (x1 : Int64) (x3 : Int32) (S : SS), f_X11_digest_L32 n x1 x3 S = some (r, S') → AW p l e R s m args below meth c dC dI cs ad A D0 (some (.long r)) S' 4 32 [(0, .ref (ad 0)), (1, .long x1), (3, .int x3)] [] S := by
  have hx := F.1.1
  have hb := F.1.2.1
  intro n
  induction n with
  | zero => intro x1 x3 S h; cases h
  | succ n ih =>
    intro x1 x3 S h H locs ls w hl
    rw [f_X11_digest_L32] at h
    refine lv_iload_n (pc := 32) hx hb dX11_digest_32 rfl (lv_at hl 2 rfl) ?_
    refine lv_aload_n (pc := 33) hx hb dX11_digest_33 rfl (lv_at hl 0 rfl) ?_
    refine s_getR (pc := 34) F w 5 ds_0 (j := 4) vc_X11 vi_X11 rfl (by decide) kf_X11_42 dX11_digest_34 ?_
    refine s_getI (pc := 37) F w ds_5 (j := 8) vc_X2 vi_X2 rfl (by decide) kf_X11_112 dX11_digest_37 ?_
    refine lv_icmp_ge (pc := 40) (tgt := 81) hx hb dX11_digest_40 (by decide) (fun q => ?_) (fun q => ?_)
    · have h := ite_t q h
      refine lv_lload_n (pc := 81) hx hb dX11_digest_81 rfl (lv_at hl 1 rfl) ?_
      exact s_lret F w h dX11_digest_82
    · have h := ite_f q h
      refine lv_ldc2 (pc := 43) (v := 31) hx hb F.1.2.2.2.1 (F.1.2.2.2.2 _ kk_X11_408) dX11_digest_43 ?_
      refine lv_lload_n (pc := 46) hx hb dX11_digest_46 rfl (lv_at hl 1 rfl) ?_
      refine lv_lmul (pc := 47) hx hb dX11_digest_47 ?_
      refine lv_aload_n (pc := 48) hx hb dX11_digest_48 rfl (lv_at hl 0 rfl) ?_
      refine s_getR (pc := 49) F w 2 ds_0 (j := 1) vc_X11 vi_X11 rfl (by decide) kf_X11_19 dX11_digest_49 ?_
      refine lv_iload_n (pc := 52) hx hb dX11_digest_52 rfl (lv_at hl 2 rfl) ?_
      obtain ⟨r2, S1, hc, h⟩ := bnd_t h
      refine s_cvi (pc := 53) [.int x3] (fun ad => [.ref (ad 2), .int x3]) F w (m_X8_setting _ _ _ _ hc) rfl rfl hl.1 ds_2 vc_X8 rfl ok_X8_setting rfl kc_X8_setting kl_X11_348 ki_X8_setting kv_X8_setting kn_X8 ⟨Nat.le_trans (by decide) hR1, Nat.le_trans (by decide) hR2⟩ ⟨Nat.zero_le _, Nat.zero_le _⟩ (Nat.le_of_ble_eq_true rfl) dX11_digest_53 (fun H locs w => ?_)
      refine lv_i2l (pc := 56) hx hb dX11_digest_56 rfl ?_
      refine lv_ladd (pc := 57) hx hb dX11_digest_57 ?_
      refine s_nm h (fun z3 ez3 h => ?_)
      rw [← ez3]
      refine lv_lstore_n (pc := 58) (lv' := [(1, .long z3), (0, .ref (ad 0)), (3, .int x3)]) hx hb dX11_digest_58 rfl hl (by decide) rfl (fun ls hl => ?_)
      refine lv_ldc2 (pc := 59) (v := 31) hx hb F.1.2.2.2.1 (F.1.2.2.2.2 _ kk_X11_408) dX11_digest_59 ?_
      refine lv_lload_n (pc := 62) hx hb dX11_digest_62 rfl (lv_at hl 0 rfl) ?_
      refine lv_lmul (pc := 63) hx hb dX11_digest_63 ?_
      refine lv_aload_n (pc := 64) hx hb dX11_digest_64 rfl (lv_at hl 1 rfl) ?_
      refine s_getR (pc := 65) F w 2 ds_0 (j := 1) vc_X11 vi_X11 rfl (by decide) kf_X11_19 dX11_digest_65 ?_
      refine lv_iload_n (pc := 68) hx hb dX11_digest_68 rfl (lv_at hl 2 rfl) ?_
      obtain ⟨r5, S4, hc, h⟩ := bnd_t h
      refine s_cvi (pc := 69) [.int x3] (fun ad => [.ref (ad 2), .int x3]) F w (m_X8_locker _ _ _ _ hc) rfl rfl hl.1 ds_2 vc_X8 rfl ok_X8_locker rfl kc_X8_locker kl_X11_351 ki_X8_locker kv_X8_locker kn_X8 ⟨Nat.le_trans (by decide) hR1, Nat.le_trans (by decide) hR2⟩ ⟨Nat.zero_le _, Nat.zero_le _⟩ (Nat.le_of_ble_eq_true rfl) dX11_digest_69 (fun H locs w => ?_)
      refine lv_i2l (pc := 72) hx hb dX11_digest_72 rfl ?_
      refine lv_ladd (pc := 73) hx hb dX11_digest_73 ?_
      refine s_nm h (fun z6 ez6 h => ?_)
      rw [← ez6]
      refine lv_lstore_n (pc := 74) (lv' := [(1, .long z6), (0, .ref (ad 0)), (3, .int x3)]) hx hb dX11_digest_74 rfl hl (by decide) rfl (fun ls hl => ?_)
      refine s_nm h (fun z7 ez7 h => ?_)
      refine lv_iinc (pc := 75) (v := z7) (lv' := [(3, .int z7), (1, .long z6), (0, .ref (ad 0))]) hx hb dX11_digest_75 hl (k := 2) rfl (by rw [ez7]; rfl) (by decide) rfl (fun ls hl => ?_)
      refine lv_goto (pc := 78) (tgt := 32) hx hb dX11_digest_78 (by decide) ?_
      exact ih _ _ _ h _ _ _ w (lv_sub hl [2, 1, 0] rfl)
set_option maxRecDepth 100000 in
set_option maxHeartbeats 4000000 in
theorem w_X11_digest_L6 {p : Program} {l : Launch} {e : Env} {R : Room} {s : State} {m : MethodId} {args : Array Value} {below : List Frame} {meth : Method} {c : Code} {dC : Nat → ClassId} {dI : Nat → Nat → Nat} {cs : Nat → ClassId} {ad : Nat → Nat} {A : Nat → Prop} {D0 : Nat → Nat} {S' : SS} {r : Int64} (F : Fx p s m args meth c cX11_digest 4 RX11 (some .long) dC dI cs A) (hR1 : 3 ≤ R.frames) (hR2 : 68 ≤ R.locals) : ∀ (n : Nat) (x1 : Int64) (x3 : Int32) (S : SS), f_X11_digest_L6 n x1 x3 S = some (r, S') → AW p l e R s m args below meth c dC dI cs ad A D0 (some (.long r)) S' 4 6 [(0, .ref (ad 0)), (1, .long x1), (3, .int x3)] [] S := by
  have hx := F.1.1
  have hb := F.1.2.1
  intro n
  induction n with
  | zero => intro x1 x3 S h; cases h
  | succ n ih =>
    intro x1 x3 S h H locs ls w hl
    rw [f_X11_digest_L6] at h
    refine lv_iload_n (pc := 6) hx hb dX11_digest_6 rfl (lv_at hl 2 rfl) ?_
    refine lv_aload_n (pc := 7) hx hb dX11_digest_7 rfl (lv_at hl 0 rfl) ?_
    refine s_getR (pc := 8) F w 2 ds_0 (j := 1) vc_X11 vi_X11 rfl (by decide) kf_X11_19 dX11_digest_8 ?_
    refine s_getI (pc := 11) F w ds_2 (j := 1) vc_X8 vi_X8 rfl (by decide) kf_X11_140 dX11_digest_11 ?_
    refine lv_icmp_ge (pc := 14) (tgt := 30) hx hb dX11_digest_14 (by decide) (fun q => ?_) (fun q => ?_)
    · have h := ite_t q h
      refine lv_iconst (pc := 30) (v := 0) hx hb dX11_digest_30 (by decide) ?_
      refine lv_istore_n (pc := 31) (lv' := [(3, .int (0 : Int32)), (0, .ref (ad 0)), (1, .long x1)]) hx hb dX11_digest_31 rfl hl (by decide) rfl (fun ls hl => ?_)
      exact w_X11_digest_L32 F (Nat.le_trans (by decide) hR1) (Nat.le_trans (by decide) hR2) _ _ _ _ h _ _ _ w (lv_sub hl [1, 2, 0] rfl)
    · have h := ite_f q h
      refine lv_aload_n (pc := 17) hx hb dX11_digest_17 rfl (lv_at hl 0 rfl) ?_
      refine lv_lload_n (pc := 18) hx hb dX11_digest_18 rfl (lv_at hl 1 rfl) ?_
      refine lv_iload_n (pc := 19) hx hb dX11_digest_19 rfl (lv_at hl 2 rfl) ?_
      obtain ⟨r9, S8, hc, h⟩ := bndl_t h
      refine s_cvl (pc := 20) [.long x1, .int x3] (fun ad => [.ref (ad 0), .long x1, .int x3]) F w (m_X11_digestThing _ _ _ _ _ hc) rfl rfl hl.1 ds_0 vc_X11 rfl ok_X11_digestThing rfl kc_X11_digestThing kl_X11_404 ki_X11_digestThing kv_X11_digestThing kn_X11 ⟨Nat.le_trans (by decide) hR1, Nat.le_trans (by decide) hR2⟩ ⟨Nat.zero_le _, Nat.zero_le _⟩ (Nat.le_of_ble_eq_true rfl) dX11_digest_20 (fun H locs w => ?_)
      refine lv_lstore_n (pc := 23) (lv' := [(1, .long r9), (0, .ref (ad 0)), (3, .int x3)]) hx hb dX11_digest_23 rfl hl (by decide) rfl (fun ls hl => ?_)
      refine s_nm h (fun z10 ez10 h => ?_)
      refine lv_iinc (pc := 24) (v := z10) (lv' := [(3, .int z10), (1, .long r9), (0, .ref (ad 0))]) hx hb dX11_digest_24 hl (k := 2) rfl (by rw [ez10]; rfl) (by decide) rfl (fun ls hl => ?_)
      refine lv_goto (pc := 27) (tgt := 6) hx hb dX11_digest_27 (by decide) ?_
      exact ih _ _ _ h _ _ _ w (lv_sub hl [2, 1, 0] rfl)
set_option maxRecDepth 100000 in
set_option maxHeartbeats 4000000 in
theorem m_X11_digest  (S S' : SS) (r : Int64) (h : f_X11_digest  S = some (r, S')) : MT yX11_digest cX11_digest 4 (some .long) 3 68 (fun ad => [.ref (ad 0)]) S (some (.long r)) S' := by
  refine MT.of RX11 (fun ad => [(0, .ref (ad 0))]) (by decide) rfl (fun _ => Nat.le_of_ble_eq_true rfl) (fun _ => rfl) ?_
  intro p l e R s m args below meth c dC dI cs ad A hR1 hR2 F H locs ls w hl
  have hx := F.1.1
  have hb := F.1.2.1
  rw [f_X11_digest] at h
  refine lv_ldc2 (pc := 0) (v := 7) hx hb F.1.2.2.2.1 (F.1.2.2.2.2 _ kk_X11_402) dX11_digest_0 ?_
  refine lv_lstore_n (pc := 3) (lv' := [(1, .long (7 : Int64)), (0, .ref (ad 0))]) hx hb dX11_digest_3 rfl hl (by decide) rfl (fun ls hl => ?_)
  refine lv_iconst (pc := 4) (v := 0) hx hb dX11_digest_4 (by decide) ?_
  refine lv_istore_n (pc := 5) (lv' := [(3, .int (0 : Int32)), (1, .long (7 : Int64)), (0, .ref (ad 0))]) hx hb dX11_digest_5 rfl hl (by decide) rfl (fun ls hl => ?_)
  exact w_X11_digest_L6 F (Nat.le_trans (by decide) hR1) (Nat.le_trans (by decide) hR2) _ _ _ _ h _ _ _ w (lv_sub hl [2, 1, 0] rfl)
