/-! ===== printed by wip/gen: X12_digest X1_written X11_log X12_log X7_height_start X7_height_goal X3_setRoom X11_room X12_room X7_wagonAt_start X7_placeOn_start X7_stackOf_start X7_put_start X7_wagonAt_goal X7_placeOn_goal X7_stackOf_goal X7_put_goal ===== -/
def f_X12_digest_L192  : Nat → Int64 → Int32 → SS → Option (Int64 × SS)
  | 0, _, _, _ => none
  | n + 1, x1, x3, S =>
    if (S.1 14 15) ≤ x3 then
      some (x1, S)
    else
      grd (inb x3 40) (
      nm (((31 : Int64) * x1) + ((S.1 77 x3.toNatClampNeg).toInt64)) (fun z1 =>
      grd (inb x3 40) (
      nm (((31 : Int64) * z1) + ((S.1 78 x3.toNatClampNeg).toInt64)) (fun z2 =>
      nm (x3 + (1 : Int32)) (fun z3 =>
      f_X12_digest_L192 n z2 z3 S)))))
def f_X12_digest_j184 (K6 : Int64 → Int32 → SS → Option (Int64 × SS)) (x1 : Int64) (x3 : Int32) (S : SS) : Option (Int64 × SS) :=
    nm (x3 + (1 : Int32)) (fun z13 =>
    K6 x1 z13 S)
def f_X12_digest_j181 (K6 : Int64 → Int32 → SS → Option (Int64 × SS)) (x3 : Int32) (y0 : Int32) (y1 : Int64) (S : SS) : Option (Int64 × SS) :=
    nm (y1 + (y0.toInt64)) (fun z12 =>
    f_X12_digest_j184 K6 z12 x3 S)
def f_X12_digest_L6  : Nat → Int64 → Int32 → SS → Option (Int64 × SS)
  | 0, _, _, _ => none
  | n + 1, x1, x3, S =>
    if (S.1 14 29) ≤ x3 then
      f_X12_digest_L192 NF x1 (0 : Int32) S
    else
      grd (inb x3 72) (
      if (S.1 86 x3.toNatClampNeg) = 0 then
        nm (((31 : Int64) * x1) - (1 : Int64)) (fun z14 =>
        f_X12_digest_j184 (fun v0 v1 S => f_X12_digest_L6 n v0 v1 S) z14 x3 S)
      else
        grd (inb x3 72) (
        grd (inb x3 72) (
        nm (((31 : Int64) * x1) + ((((24 : Int32) * (S.1 87 x3.toNatClampNeg)) + (S.1 88 x3.toNatClampNeg)).toInt64)) (fun z4 =>
        grd (inb x3 72) (
        nm (((31 : Int64) * z4) + ((S.1 89 x3.toNatClampNeg).toInt64)) (fun z5 =>
        grd (inb ((2 : Int32) * x3) 144) (
        nm (((31 : Int64) * z5) + ((S.1 90 ((2 : Int32) * x3).toNatClampNeg).toInt64)) (fun z6 =>
        grd (inb (((2 : Int32) * x3) + (1 : Int32)) 144) (
        nm (((31 : Int64) * z6) + ((S.1 90 (((2 : Int32) * x3) + (1 : Int32)).toNatClampNeg).toInt64)) (fun z7 =>
        grd (inb x3 72) (
        nm (((31 : Int64) * z7) + ((S.1 92 x3.toNatClampNeg).toInt64)) (fun z8 =>
        grd (inb x3 72) (
        nm (((31 : Int64) * z8) + ((S.1 93 x3.toNatClampNeg).toInt64)) (fun z9 =>
        grd (inb x3 72) (
        nm (((31 : Int64) * z9) + ((S.1 97 x3.toNatClampNeg).toInt64)) (fun z10 =>
        grd (inb x3 72) (
        nm (((31 : Int64) * z10) + ((S.1 94 x3.toNatClampNeg).toInt64)) (fun z11 =>
        grd (inb x3 72) (
        if (S.1 101 x3.toNatClampNeg) = 0 then
          f_X12_digest_j181 (fun v0 v1 S => f_X12_digest_L6 n v0 v1 S) x3 (0 : Int32) ((31 : Int64) * z11) S
        else
          f_X12_digest_j181 (fun v0 v1 S => f_X12_digest_L6 n v0 v1 S) x3 (1 : Int32) ((31 : Int64) * z11) S)))))))))))))))))))
def f_X12_digest  (S : SS) : Option (Int64 × SS) :=
  f_X12_digest_L6 NF (7 : Int64) (0 : Int32) S
theorem dX12_digest_0 : decode cX12_digest 0 = .ok (.ldc2_w 447, 3) := by decide +kernel
theorem dX12_digest_3 : decode cX12_digest 3 = .ok (.lstore_n 1, 1) := by decide +kernel
theorem dX12_digest_4 : decode cX12_digest 4 = .ok (.iconst 0, 1) := by decide +kernel
theorem dX12_digest_5 : decode cX12_digest 5 = .ok (.istore_n 3, 1) := by decide +kernel
theorem dX12_digest_6 : decode cX12_digest 6 = .ok (.iload_n 3, 1) := by decide +kernel
theorem dX12_digest_7 : decode cX12_digest 7 = .ok (.aload_n 0, 1) := by decide +kernel
theorem dX12_digest_8 : decode cX12_digest 8 = .ok (.getfield 269, 3) := by decide +kernel
theorem dX12_digest_11 : decode cX12_digest 11 = .ok (.if_icmp .ge 179, 3) := by decide +kernel
theorem dX12_digest_14 : decode cX12_digest 14 = .ok (.aload_n 0, 1) := by decide +kernel
theorem dX12_digest_15 : decode cX12_digest 15 = .ok (.getfield 72, 3) := by decide +kernel
theorem dX12_digest_18 : decode cX12_digest 18 = .ok (.iload_n 3, 1) := by decide +kernel
theorem dX12_digest_19 : decode cX12_digest 19 = .ok (.baload, 1) := by decide +kernel
theorem dX12_digest_20 : decode cX12_digest 20 = .ok (.ifCond .ne 14, 3) := by decide +kernel
theorem dX12_digest_23 : decode cX12_digest 23 = .ok (.ldc2_w 449, 3) := by decide +kernel
theorem dX12_digest_26 : decode cX12_digest 26 = .ok (.lload_n 1, 1) := by decide +kernel
theorem dX12_digest_27 : decode cX12_digest 27 = .ok (.lmul, 1) := by decide +kernel
theorem dX12_digest_28 : decode cX12_digest 28 = .ok (.lconst 1, 1) := by decide +kernel
theorem dX12_digest_29 : decode cX12_digest 29 = .ok (.lsub, 1) := by decide +kernel
theorem dX12_digest_30 : decode cX12_digest 30 = .ok (.lstore_n 1, 1) := by decide +kernel
theorem dX12_digest_31 : decode cX12_digest 31 = .ok (.goto 153, 3) := by decide +kernel
theorem dX12_digest_34 : decode cX12_digest 34 = .ok (.ldc2_w 449, 3) := by decide +kernel
theorem dX12_digest_37 : decode cX12_digest 37 = .ok (.lload_n 1, 1) := by decide +kernel
theorem dX12_digest_38 : decode cX12_digest 38 = .ok (.lmul, 1) := by decide +kernel
theorem dX12_digest_39 : decode cX12_digest 39 = .ok (.bipush 24, 2) := by decide +kernel
theorem dX12_digest_41 : decode cX12_digest 41 = .ok (.aload_n 0, 1) := by decide +kernel
theorem dX12_digest_42 : decode cX12_digest 42 = .ok (.getfield 75, 3) := by decide +kernel
theorem dX12_digest_45 : decode cX12_digest 45 = .ok (.iload_n 3, 1) := by decide +kernel
theorem dX12_digest_46 : decode cX12_digest 46 = .ok (.iaload, 1) := by decide +kernel
theorem dX12_digest_47 : decode cX12_digest 47 = .ok (.imul, 1) := by decide +kernel
theorem dX12_digest_48 : decode cX12_digest 48 = .ok (.aload_n 0, 1) := by decide +kernel
theorem dX12_digest_49 : decode cX12_digest 49 = .ok (.getfield 78, 3) := by decide +kernel
theorem dX12_digest_52 : decode cX12_digest 52 = .ok (.iload_n 3, 1) := by decide +kernel
theorem dX12_digest_53 : decode cX12_digest 53 = .ok (.iaload, 1) := by decide +kernel
theorem dX12_digest_54 : decode cX12_digest 54 = .ok (.iadd, 1) := by decide +kernel
theorem dX12_digest_55 : decode cX12_digest 55 = .ok (.i2l, 1) := by decide +kernel
theorem dX12_digest_56 : decode cX12_digest 56 = .ok (.ladd, 1) := by decide +kernel
theorem dX12_digest_57 : decode cX12_digest 57 = .ok (.lstore_n 1, 1) := by decide +kernel
theorem dX12_digest_58 : decode cX12_digest 58 = .ok (.ldc2_w 449, 3) := by decide +kernel
theorem dX12_digest_61 : decode cX12_digest 61 = .ok (.lload_n 1, 1) := by decide +kernel
theorem dX12_digest_62 : decode cX12_digest 62 = .ok (.lmul, 1) := by decide +kernel
theorem dX12_digest_63 : decode cX12_digest 63 = .ok (.aload_n 0, 1) := by decide +kernel
theorem dX12_digest_64 : decode cX12_digest 64 = .ok (.getfield 81, 3) := by decide +kernel
theorem dX12_digest_67 : decode cX12_digest 67 = .ok (.iload_n 3, 1) := by decide +kernel
theorem dX12_digest_68 : decode cX12_digest 68 = .ok (.iaload, 1) := by decide +kernel
theorem dX12_digest_69 : decode cX12_digest 69 = .ok (.i2l, 1) := by decide +kernel
theorem dX12_digest_70 : decode cX12_digest 70 = .ok (.ladd, 1) := by decide +kernel
theorem dX12_digest_71 : decode cX12_digest 71 = .ok (.lstore_n 1, 1) := by decide +kernel
theorem dX12_digest_72 : decode cX12_digest 72 = .ok (.ldc2_w 449, 3) := by decide +kernel
theorem dX12_digest_75 : decode cX12_digest 75 = .ok (.lload_n 1, 1) := by decide +kernel
theorem dX12_digest_76 : decode cX12_digest 76 = .ok (.lmul, 1) := by decide +kernel
theorem dX12_digest_77 : decode cX12_digest 77 = .ok (.aload_n 0, 1) := by decide +kernel
theorem dX12_digest_78 : decode cX12_digest 78 = .ok (.getfield 84, 3) := by decide +kernel
theorem dX12_digest_81 : decode cX12_digest 81 = .ok (.iconst 2, 1) := by decide +kernel
theorem dX12_digest_82 : decode cX12_digest 82 = .ok (.iload_n 3, 1) := by decide +kernel
theorem dX12_digest_83 : decode cX12_digest 83 = .ok (.imul, 1) := by decide +kernel
theorem dX12_digest_84 : decode cX12_digest 84 = .ok (.iaload, 1) := by decide +kernel
theorem dX12_digest_85 : decode cX12_digest 85 = .ok (.i2l, 1) := by decide +kernel
theorem dX12_digest_86 : decode cX12_digest 86 = .ok (.ladd, 1) := by decide +kernel
theorem dX12_digest_87 : decode cX12_digest 87 = .ok (.lstore_n 1, 1) := by decide +kernel
theorem dX12_digest_88 : decode cX12_digest 88 = .ok (.ldc2_w 449, 3) := by decide +kernel
theorem dX12_digest_91 : decode cX12_digest 91 = .ok (.lload_n 1, 1) := by decide +kernel
theorem dX12_digest_92 : decode cX12_digest 92 = .ok (.lmul, 1) := by decide +kernel
theorem dX12_digest_93 : decode cX12_digest 93 = .ok (.aload_n 0, 1) := by decide +kernel
theorem dX12_digest_94 : decode cX12_digest 94 = .ok (.getfield 84, 3) := by decide +kernel
theorem dX12_digest_97 : decode cX12_digest 97 = .ok (.iconst 2, 1) := by decide +kernel
theorem dX12_digest_98 : decode cX12_digest 98 = .ok (.iload_n 3, 1) := by decide +kernel
theorem dX12_digest_99 : decode cX12_digest 99 = .ok (.imul, 1) := by decide +kernel
theorem dX12_digest_100 : decode cX12_digest 100 = .ok (.iconst 1, 1) := by decide +kernel
theorem dX12_digest_101 : decode cX12_digest 101 = .ok (.iadd, 1) := by decide +kernel
theorem dX12_digest_102 : decode cX12_digest 102 = .ok (.iaload, 1) := by decide +kernel
theorem dX12_digest_103 : decode cX12_digest 103 = .ok (.i2l, 1) := by decide +kernel
theorem dX12_digest_104 : decode cX12_digest 104 = .ok (.ladd, 1) := by decide +kernel
theorem dX12_digest_105 : decode cX12_digest 105 = .ok (.lstore_n 1, 1) := by decide +kernel
theorem dX12_digest_106 : decode cX12_digest 106 = .ok (.ldc2_w 449, 3) := by decide +kernel
theorem dX12_digest_109 : decode cX12_digest 109 = .ok (.lload_n 1, 1) := by decide +kernel
theorem dX12_digest_110 : decode cX12_digest 110 = .ok (.lmul, 1) := by decide +kernel
theorem dX12_digest_111 : decode cX12_digest 111 = .ok (.aload_n 0, 1) := by decide +kernel
theorem dX12_digest_112 : decode cX12_digest 112 = .ok (.getfield 90, 3) := by decide +kernel
theorem dX12_digest_115 : decode cX12_digest 115 = .ok (.iload_n 3, 1) := by decide +kernel
theorem dX12_digest_116 : decode cX12_digest 116 = .ok (.iaload, 1) := by decide +kernel
theorem dX12_digest_117 : decode cX12_digest 117 = .ok (.i2l, 1) := by decide +kernel
theorem dX12_digest_118 : decode cX12_digest 118 = .ok (.ladd, 1) := by decide +kernel
theorem dX12_digest_119 : decode cX12_digest 119 = .ok (.lstore_n 1, 1) := by decide +kernel
theorem dX12_digest_120 : decode cX12_digest 120 = .ok (.ldc2_w 449, 3) := by decide +kernel
theorem dX12_digest_123 : decode cX12_digest 123 = .ok (.lload_n 1, 1) := by decide +kernel
theorem dX12_digest_124 : decode cX12_digest 124 = .ok (.lmul, 1) := by decide +kernel
theorem dX12_digest_125 : decode cX12_digest 125 = .ok (.aload_n 0, 1) := by decide +kernel
theorem dX12_digest_126 : decode cX12_digest 126 = .ok (.getfield 93, 3) := by decide +kernel
theorem dX12_digest_129 : decode cX12_digest 129 = .ok (.iload_n 3, 1) := by decide +kernel
theorem dX12_digest_130 : decode cX12_digest 130 = .ok (.iaload, 1) := by decide +kernel
theorem dX12_digest_131 : decode cX12_digest 131 = .ok (.i2l, 1) := by decide +kernel
theorem dX12_digest_132 : decode cX12_digest 132 = .ok (.ladd, 1) := by decide +kernel
theorem dX12_digest_133 : decode cX12_digest 133 = .ok (.lstore_n 1, 1) := by decide +kernel
theorem dX12_digest_134 : decode cX12_digest 134 = .ok (.ldc2_w 449, 3) := by decide +kernel
theorem dX12_digest_137 : decode cX12_digest 137 = .ok (.lload_n 1, 1) := by decide +kernel
theorem dX12_digest_138 : decode cX12_digest 138 = .ok (.lmul, 1) := by decide +kernel
theorem dX12_digest_139 : decode cX12_digest 139 = .ok (.aload_n 0, 1) := by decide +kernel
theorem dX12_digest_140 : decode cX12_digest 140 = .ok (.getfield 105, 3) := by decide +kernel
theorem dX12_digest_143 : decode cX12_digest 143 = .ok (.iload_n 3, 1) := by decide +kernel
theorem dX12_digest_144 : decode cX12_digest 144 = .ok (.iaload, 1) := by decide +kernel
theorem dX12_digest_145 : decode cX12_digest 145 = .ok (.i2l, 1) := by decide +kernel
theorem dX12_digest_146 : decode cX12_digest 146 = .ok (.ladd, 1) := by decide +kernel
theorem dX12_digest_147 : decode cX12_digest 147 = .ok (.lstore_n 1, 1) := by decide +kernel
theorem dX12_digest_148 : decode cX12_digest 148 = .ok (.ldc2_w 449, 3) := by decide +kernel
theorem dX12_digest_151 : decode cX12_digest 151 = .ok (.lload_n 1, 1) := by decide +kernel
theorem dX12_digest_152 : decode cX12_digest 152 = .ok (.lmul, 1) := by decide +kernel
theorem dX12_digest_153 : decode cX12_digest 153 = .ok (.aload_n 0, 1) := by decide +kernel
theorem dX12_digest_154 : decode cX12_digest 154 = .ok (.getfield 96, 3) := by decide +kernel
theorem dX12_digest_157 : decode cX12_digest 157 = .ok (.iload_n 3, 1) := by decide +kernel
theorem dX12_digest_158 : decode cX12_digest 158 = .ok (.iaload, 1) := by decide +kernel
theorem dX12_digest_159 : decode cX12_digest 159 = .ok (.i2l, 1) := by decide +kernel
theorem dX12_digest_160 : decode cX12_digest 160 = .ok (.ladd, 1) := by decide +kernel
theorem dX12_digest_161 : decode cX12_digest 161 = .ok (.lstore_n 1, 1) := by decide +kernel
theorem dX12_digest_162 : decode cX12_digest 162 = .ok (.ldc2_w 449, 3) := by decide +kernel
theorem dX12_digest_165 : decode cX12_digest 165 = .ok (.lload_n 1, 1) := by decide +kernel
theorem dX12_digest_166 : decode cX12_digest 166 = .ok (.lmul, 1) := by decide +kernel
theorem dX12_digest_167 : decode cX12_digest 167 = .ok (.aload_n 0, 1) := by decide +kernel
theorem dX12_digest_168 : decode cX12_digest 168 = .ok (.getfield 117, 3) := by decide +kernel
theorem dX12_digest_171 : decode cX12_digest 171 = .ok (.iload_n 3, 1) := by decide +kernel
theorem dX12_digest_172 : decode cX12_digest 172 = .ok (.baload, 1) := by decide +kernel
theorem dX12_digest_173 : decode cX12_digest 173 = .ok (.ifCond .eq 7, 3) := by decide +kernel
theorem dX12_digest_176 : decode cX12_digest 176 = .ok (.iconst 1, 1) := by decide +kernel
theorem dX12_digest_177 : decode cX12_digest 177 = .ok (.goto 4, 3) := by decide +kernel
theorem dX12_digest_180 : decode cX12_digest 180 = .ok (.iconst 0, 1) := by decide +kernel
theorem dX12_digest_181 : decode cX12_digest 181 = .ok (.i2l, 1) := by decide +kernel
theorem dX12_digest_182 : decode cX12_digest 182 = .ok (.ladd, 1) := by decide +kernel
theorem dX12_digest_183 : decode cX12_digest 183 = .ok (.lstore_n 1, 1) := by decide +kernel
theorem dX12_digest_184 : decode cX12_digest 184 = .ok (.iinc 3 1, 3) := by decide +kernel
theorem dX12_digest_187 : decode cX12_digest 187 = .ok (.goto (-181), 3) := by decide +kernel
theorem dX12_digest_190 : decode cX12_digest 190 = .ok (.iconst 0, 1) := by decide +kernel
theorem dX12_digest_191 : decode cX12_digest 191 = .ok (.istore_n 3, 1) := by decide +kernel
theorem dX12_digest_192 : decode cX12_digest 192 = .ok (.iload_n 3, 1) := by decide +kernel
theorem dX12_digest_193 : decode cX12_digest 193 = .ok (.aload_n 0, 1) := by decide +kernel
theorem dX12_digest_194 : decode cX12_digest 194 = .ok (.getfield 217, 3) := by decide +kernel
theorem dX12_digest_197 : decode cX12_digest 197 = .ok (.if_icmp .ge 37, 3) := by decide +kernel
theorem dX12_digest_200 : decode cX12_digest 200 = .ok (.ldc2_w 449, 3) := by decide +kernel
theorem dX12_digest_203 : decode cX12_digest 203 = .ok (.lload_n 1, 1) := by decide +kernel
theorem dX12_digest_204 : decode cX12_digest 204 = .ok (.lmul, 1) := by decide +kernel
theorem dX12_digest_205 : decode cX12_digest 205 = .ok (.aload_n 0, 1) := by decide +kernel
theorem dX12_digest_206 : decode cX12_digest 206 = .ok (.getfield 45, 3) := by decide +kernel
theorem dX12_digest_209 : decode cX12_digest 209 = .ok (.iload_n 3, 1) := by decide +kernel
theorem dX12_digest_210 : decode cX12_digest 210 = .ok (.iaload, 1) := by decide +kernel
theorem dX12_digest_211 : decode cX12_digest 211 = .ok (.i2l, 1) := by decide +kernel
theorem dX12_digest_212 : decode cX12_digest 212 = .ok (.ladd, 1) := by decide +kernel
theorem dX12_digest_213 : decode cX12_digest 213 = .ok (.lstore_n 1, 1) := by decide +kernel
theorem dX12_digest_214 : decode cX12_digest 214 = .ok (.ldc2_w 449, 3) := by decide +kernel
theorem dX12_digest_217 : decode cX12_digest 217 = .ok (.lload_n 1, 1) := by decide +kernel
theorem dX12_digest_218 : decode cX12_digest 218 = .ok (.lmul, 1) := by decide +kernel
theorem dX12_digest_219 : decode cX12_digest 219 = .ok (.aload_n 0, 1) := by decide +kernel
theorem dX12_digest_220 : decode cX12_digest 220 = .ok (.getfield 48, 3) := by decide +kernel
theorem dX12_digest_223 : decode cX12_digest 223 = .ok (.iload_n 3, 1) := by decide +kernel
theorem dX12_digest_224 : decode cX12_digest 224 = .ok (.iaload, 1) := by decide +kernel
theorem dX12_digest_225 : decode cX12_digest 225 = .ok (.i2l, 1) := by decide +kernel
theorem dX12_digest_226 : decode cX12_digest 226 = .ok (.ladd, 1) := by decide +kernel
theorem dX12_digest_227 : decode cX12_digest 227 = .ok (.lstore_n 1, 1) := by decide +kernel
theorem dX12_digest_228 : decode cX12_digest 228 = .ok (.iinc 3 1, 3) := by decide +kernel
theorem dX12_digest_231 : decode cX12_digest 231 = .ok (.goto (-39), 3) := by decide +kernel
theorem dX12_digest_234 : decode cX12_digest 234 = .ok (.lload_n 1, 1) := by decide +kernel
theorem dX12_digest_235 : decode cX12_digest 235 = .ok (.lreturn, 1) := by decide +kernel
set_option maxRecDepth 100000 in
set_option maxHeartbeats 4000000 in
theorem w_X12_digest_L192 {p : Program} {l : Launch} {e : Env} {R : Room} {s : State} {m : MethodId} {args : Array Value} {below : List Frame} {meth : Method} {c : Code} {dC : Nat → ClassId} {dI : Nat → Nat → Nat} {cs : Nat → ClassId} {ad : Nat → Nat} {A : Nat → Prop} {D0 : Nat → Nat} {S' : SS} {r : Int64} (F : Fx p s m args meth c cX12_digest 4 RX12 (some .long) dC dI cs A) (hR1 : 0 ≤ R.frames) (hR2 : 0 ≤ R.locals) : ∀ (n : Nat) (x1 : Int64) (x3 : Int32) (S : SS), f_X12_digest_L192 n x1 x3 S = some (r, S') → AW p l e R s m args below meth c dC dI cs ad A D0 (some (.long r)) S' 4 192 [(0, .ref (ad 14)), (1, .long x1), (3, .int x3)] [] S := by
  have hx := F.1.1
  have hb := F.1.2.1
  intro n
  induction n with
  | zero => intro x1 x3 S h; cases h
  | succ n ih =>
    intro x1 x3 S h H locs ls w hl
    rw [f_X12_digest_L192] at h
    refine lv_iload_n (pc := 192) hx hb dX12_digest_192 rfl (lv_at hl 2 rfl) ?_
    refine lv_aload_n (pc := 193) hx hb dX12_digest_193 rfl (lv_at hl 0 rfl) ?_
    refine s_getI (pc := 194) F w ds_14 (j := 15) vc_X12 vi_X12 rfl (by decide) kf_X12_217 dX12_digest_194 ?_
    refine lv_icmp_ge (pc := 197) (tgt := 234) hx hb dX12_digest_197 (by decide) (fun q => ?_) (fun q => ?_)
    · have h := ite_t q h
      refine lv_lload_n (pc := 234) hx hb dX12_digest_234 rfl (lv_at hl 1 rfl) ?_
      exact s_lret F w h dX12_digest_235
    · have h := ite_f q h
      refine lv_ldc2 (pc := 200) (v := 31) hx hb F.1.2.2.2.1 (F.1.2.2.2.2 _ kk_X12_449) dX12_digest_200 ?_
      refine lv_lload_n (pc := 203) hx hb dX12_digest_203 rfl (lv_at hl 1 rfl) ?_
      refine lv_lmul (pc := 204) hx hb dX12_digest_204 ?_
      refine lv_aload_n (pc := 205) hx hb dX12_digest_205 rfl (lv_at hl 0 rfl) ?_
      refine s_getR (pc := 206) F w 77 ds_14 (j := 17) vc_X12 vi_X12 rfl (by decide) kf_X12_45 dX12_digest_206 ?_
      refine lv_iload_n (pc := 209) hx hb dX12_digest_209 rfl (lv_at hl 2 rfl) ?_
      refine s_iald (pc := 210) F w ds_77 h dX12_digest_210 (fun h => ?_)
      refine lv_i2l (pc := 211) hx hb dX12_digest_211 rfl ?_
      refine lv_ladd (pc := 212) hx hb dX12_digest_212 ?_
      refine s_nm h (fun z1 ez1 h => ?_)
      rw [← ez1]
      refine lv_lstore_n (pc := 213) (lv' := [(1, .long z1), (0, .ref (ad 14)), (3, .int x3)]) hx hb dX12_digest_213 rfl hl (by decide) rfl (fun ls hl => ?_)
      refine lv_ldc2 (pc := 214) (v := 31) hx hb F.1.2.2.2.1 (F.1.2.2.2.2 _ kk_X12_449) dX12_digest_214 ?_
      refine lv_lload_n (pc := 217) hx hb dX12_digest_217 rfl (lv_at hl 0 rfl) ?_
      refine lv_lmul (pc := 218) hx hb dX12_digest_218 ?_
      refine lv_aload_n (pc := 219) hx hb dX12_digest_219 rfl (lv_at hl 1 rfl) ?_
      refine s_getR (pc := 220) F w 78 ds_14 (j := 18) vc_X12 vi_X12 rfl (by decide) kf_X12_48 dX12_digest_220 ?_
      refine lv_iload_n (pc := 223) hx hb dX12_digest_223 rfl (lv_at hl 2 rfl) ?_
      refine s_iald (pc := 224) F w ds_78 h dX12_digest_224 (fun h => ?_)
      refine lv_i2l (pc := 225) hx hb dX12_digest_225 rfl ?_
      refine lv_ladd (pc := 226) hx hb dX12_digest_226 ?_
      refine s_nm h (fun z2 ez2 h => ?_)
      rw [← ez2]
      refine lv_lstore_n (pc := 227) (lv' := [(1, .long z2), (0, .ref (ad 14)), (3, .int x3)]) hx hb dX12_digest_227 rfl hl (by decide) rfl (fun ls hl => ?_)
      refine s_nm h (fun z3 ez3 h => ?_)
      refine lv_iinc (pc := 228) (v := z3) (lv' := [(3, .int z3), (1, .long z2), (0, .ref (ad 14))]) hx hb dX12_digest_228 hl (k := 2) rfl (by rw [ez3]; rfl) (by decide) rfl (fun ls hl => ?_)
      refine lv_goto (pc := 231) (tgt := 192) hx hb dX12_digest_231 (by decide) ?_
      exact ih _ _ _ h _ _ _ w (lv_sub hl [2, 1, 0] rfl)
set_option maxRecDepth 100000 in
set_option maxHeartbeats 4000000 in
theorem w_X12_digest_j184 {p : Program} {l : Launch} {e : Env} {R : Room} {s : State} {m : MethodId} {args : Array Value} {below : List Frame} {meth : Method} {c : Code} {dC : Nat → ClassId} {dI : Nat → Nat → Nat} {cs : Nat → ClassId} {ad : Nat → Nat} {A : Nat → Prop} {D0 : Nat → Nat} {S' : SS} {r : Int64} (F : Fx p s m args meth c cX12_digest 4 RX12 (some .long) dC dI cs A) (hR1 : 0 ≤ R.frames) (hR2 : 0 ≤ R.locals) (K6 : Int64 → Int32 → SS → Option (Int64 × SS)) (hK6 : ∀ (v0 : Int64) (v1 : Int32) (S : SS), K6 v0 v1 S = some (r, S') → AW p l e R s m args below meth c dC dI cs ad A D0 (some (.long r)) S' 4 6 [(0, .ref (ad 14)), (1, .long v0), (3, .int v1)] [] S) (x1 : Int64) (x3 : Int32) (S : SS) (h : f_X12_digest_j184 K6 x1 x3 S = some (r, S')) : AW p l e R s m args below meth c dC dI cs ad A D0 (some (.long r)) S' 4 184 [(0, .ref (ad 14)), (1, .long x1), (3, .int x3)] [] S := by
  have hx := F.1.1
  have hb := F.1.2.1
  intro H locs ls w hl
  rw [f_X12_digest_j184] at h
  refine s_nm h (fun z13 ez13 h => ?_)
  refine lv_iinc (pc := 184) (v := z13) (lv' := [(3, .int z13), (0, .ref (ad 14)), (1, .long x1)]) hx hb dX12_digest_184 hl (k := 2) rfl (by rw [ez13]; rfl) (by decide) rfl (fun ls hl => ?_)
  refine lv_goto (pc := 187) (tgt := 6) hx hb dX12_digest_187 (by decide) ?_
  exact hK6 _ _ _ h _ _ _ w (lv_sub hl [1, 2, 0] rfl)
set_option maxRecDepth 100000 in
set_option maxHeartbeats 4000000 in
theorem w_X12_digest_j181 {p : Program} {l : Launch} {e : Env} {R : Room} {s : State} {m : MethodId} {args : Array Value} {below : List Frame} {meth : Method} {c : Code} {dC : Nat → ClassId} {dI : Nat → Nat → Nat} {cs : Nat → ClassId} {ad : Nat → Nat} {A : Nat → Prop} {D0 : Nat → Nat} {S' : SS} {r : Int64} (F : Fx p s m args meth c cX12_digest 4 RX12 (some .long) dC dI cs A) (hR1 : 0 ≤ R.frames) (hR2 : 0 ≤ R.locals) (K6 : Int64 → Int32 → SS → Option (Int64 × SS)) (hK6 : ∀ (v0 : Int64) (v1 : Int32) (S : SS), K6 v0 v1 S = some (r, S') → AW p l e R s m args below meth c dC dI cs ad A D0 (some (.long r)) S' 4 6 [(0, .ref (ad 14)), (1, .long v0), (3, .int v1)] [] S) (x3 : Int32) (y0 : Int32) (y1 : Int64) (S : SS) (h : f_X12_digest_j181 K6 x3 y0 y1 S = some (r, S')) : AW p l e R s m args below meth c dC dI cs ad A D0 (some (.long r)) S' 4 181 [(0, .ref (ad 14)), (3, .int x3)] [.int y0, .long y1] S := by
  have hx := F.1.1
  have hb := F.1.2.1
  intro H locs ls w hl
  rw [f_X12_digest_j181] at h
  refine lv_i2l (pc := 181) hx hb dX12_digest_181 rfl ?_
  refine lv_ladd (pc := 182) hx hb dX12_digest_182 ?_
  refine s_nm h (fun z12 ez12 h => ?_)
  rw [← ez12]
  refine lv_lstore_n (pc := 183) (lv' := [(1, .long z12), (0, .ref (ad 14)), (3, .int x3)]) hx hb dX12_digest_183 rfl hl (by decide) rfl (fun ls hl => ?_)
  exact w_X12_digest_j184 F (Nat.le_trans (by decide) hR1) (Nat.le_trans (by decide) hR2) _ hK6 _ _ _ h _ _ _ w (lv_sub hl [1, 0, 2] rfl)
set_option maxRecDepth 100000 in
set_option maxHeartbeats 4000000 in
theorem w_X12_digest_L6 {p : Program} {l : Launch} {e : Env} {R : Room} {s : State} {m : MethodId} {args : Array Value} {below : List Frame} {meth : Method} {c : Code} {dC : Nat → ClassId} {dI : Nat → Nat → Nat} {cs : Nat → ClassId} {ad : Nat → Nat} {A : Nat → Prop} {D0 : Nat → Nat} {S' : SS} {r : Int64} (F : Fx p s m args meth c cX12_digest 4 RX12 (some .long) dC dI cs A) (hR1 : 0 ≤ R.frames) (hR2 : 0 ≤ R.locals) : ∀ (n : Nat) (x1 : Int64) (x3 : Int32) (S : SS), f_X12_digest_L6 n x1 x3 S = some (r, S') → AW p l e R s m args below meth c dC dI cs ad A D0 (some (.long r)) S' 4 6 [(0, .ref (ad 14)), (1, .long x1), (3, .int x3)] [] S := by
  have hx := F.1.1
  have hb := F.1.2.1
  intro n
  induction n with
  | zero => intro x1 x3 S h; cases h
  | succ n ih =>
    intro x1 x3 S h H locs ls w hl
    rw [f_X12_digest_L6] at h
    refine lv_iload_n (pc := 6) hx hb dX12_digest_6 rfl (lv_at hl 2 rfl) ?_
    refine lv_aload_n (pc := 7) hx hb dX12_digest_7 rfl (lv_at hl 0 rfl) ?_
    refine s_getI (pc := 8) F w ds_14 (j := 29) vc_X12 vi_X12 rfl (by decide) kf_X12_269 dX12_digest_8 ?_
    refine lv_icmp_ge (pc := 11) (tgt := 190) hx hb dX12_digest_11 (by decide) (fun q => ?_) (fun q => ?_)
    · have h := ite_t q h
      refine lv_iconst (pc := 190) (v := 0) hx hb dX12_digest_190 (by decide) ?_
      refine lv_istore_n (pc := 191) (lv' := [(3, .int (0 : Int32)), (0, .ref (ad 14)), (1, .long x1)]) hx hb dX12_digest_191 rfl hl (by decide) rfl (fun ls hl => ?_)
      exact w_X12_digest_L192 F (Nat.le_trans (by decide) hR1) (Nat.le_trans (by decide) hR2) _ _ _ _ h _ _ _ w (lv_sub hl [1, 2, 0] rfl)
    · have h := ite_f q h
      refine lv_aload_n (pc := 14) hx hb dX12_digest_14 rfl (lv_at hl 0 rfl) ?_
      refine s_getR (pc := 15) F w 86 ds_14 (j := 31) vc_X12 vi_X12 rfl (by decide) kf_X12_72 dX12_digest_15 ?_
      refine lv_iload_n (pc := 18) hx hb dX12_digest_18 rfl (lv_at hl 2 rfl) ?_
      refine s_zald (pc := 19) F w ds_86 h dX12_digest_19 (fun h => ?_)
      refine lv_if_ne (pc := 20) (tgt := 34) hx hb dX12_digest_20 (by decide) (fun q => ?_) (fun q => ?_)
      · have h := ite_f q h
        refine lv_ldc2 (pc := 34) (v := 31) hx hb F.1.2.2.2.1 (F.1.2.2.2.2 _ kk_X12_449) dX12_digest_34 ?_
        refine lv_lload_n (pc := 37) hx hb dX12_digest_37 rfl (lv_at hl 1 rfl) ?_
        refine lv_lmul (pc := 38) hx hb dX12_digest_38 ?_
        refine lv_bipush (pc := 39) (v := 24) hx hb dX12_digest_39 (by decide) ?_
        refine lv_aload_n (pc := 41) hx hb dX12_digest_41 rfl (lv_at hl 0 rfl) ?_
        refine s_getR (pc := 42) F w 87 ds_14 (j := 32) vc_X12 vi_X12 rfl (by decide) kf_X12_75 dX12_digest_42 ?_
        refine lv_iload_n (pc := 45) hx hb dX12_digest_45 rfl (lv_at hl 2 rfl) ?_
        refine s_iald (pc := 46) F w ds_87 h dX12_digest_46 (fun h => ?_)
        refine lv_imul (pc := 47) hx hb dX12_digest_47 ?_
        refine lv_aload_n (pc := 48) hx hb dX12_digest_48 rfl (lv_at hl 0 rfl) ?_
        refine s_getR (pc := 49) F w 88 ds_14 (j := 33) vc_X12 vi_X12 rfl (by decide) kf_X12_78 dX12_digest_49 ?_
        refine lv_iload_n (pc := 52) hx hb dX12_digest_52 rfl (lv_at hl 2 rfl) ?_
        refine s_iald (pc := 53) F w ds_88 h dX12_digest_53 (fun h => ?_)
        refine lv_iadd (pc := 54) hx hb dX12_digest_54 ?_
        refine lv_i2l (pc := 55) hx hb dX12_digest_55 rfl ?_
        refine lv_ladd (pc := 56) hx hb dX12_digest_56 ?_
        refine s_nm h (fun z4 ez4 h => ?_)
        rw [← ez4]
        refine lv_lstore_n (pc := 57) (lv' := [(1, .long z4), (0, .ref (ad 14)), (3, .int x3)]) hx hb dX12_digest_57 rfl hl (by decide) rfl (fun ls hl => ?_)
        refine lv_ldc2 (pc := 58) (v := 31) hx hb F.1.2.2.2.1 (F.1.2.2.2.2 _ kk_X12_449) dX12_digest_58 ?_
        refine lv_lload_n (pc := 61) hx hb dX12_digest_61 rfl (lv_at hl 0 rfl) ?_
        refine lv_lmul (pc := 62) hx hb dX12_digest_62 ?_
        refine lv_aload_n (pc := 63) hx hb dX12_digest_63 rfl (lv_at hl 1 rfl) ?_
        refine s_getR (pc := 64) F w 89 ds_14 (j := 34) vc_X12 vi_X12 rfl (by decide) kf_X12_81 dX12_digest_64 ?_
        refine lv_iload_n (pc := 67) hx hb dX12_digest_67 rfl (lv_at hl 2 rfl) ?_
        refine s_iald (pc := 68) F w ds_89 h dX12_digest_68 (fun h => ?_)
        refine lv_i2l (pc := 69) hx hb dX12_digest_69 rfl ?_
        refine lv_ladd (pc := 70) hx hb dX12_digest_70 ?_
        refine s_nm h (fun z5 ez5 h => ?_)
        rw [← ez5]
        refine lv_lstore_n (pc := 71) (lv' := [(1, .long z5), (0, .ref (ad 14)), (3, .int x3)]) hx hb dX12_digest_71 rfl hl (by decide) rfl (fun ls hl => ?_)
        refine lv_ldc2 (pc := 72) (v := 31) hx hb F.1.2.2.2.1 (F.1.2.2.2.2 _ kk_X12_449) dX12_digest_72 ?_
        refine lv_lload_n (pc := 75) hx hb dX12_digest_75 rfl (lv_at hl 0 rfl) ?_
        refine lv_lmul (pc := 76) hx hb dX12_digest_76 ?_
        refine lv_aload_n (pc := 77) hx hb dX12_digest_77 rfl (lv_at hl 1 rfl) ?_
        refine s_getR (pc := 78) F w 90 ds_14 (j := 35) vc_X12 vi_X12 rfl (by decide) kf_X12_84 dX12_digest_78 ?_
        refine lv_iconst (pc := 81) (v := 2) hx hb dX12_digest_81 (by decide) ?_
        refine lv_iload_n (pc := 82) hx hb dX12_digest_82 rfl (lv_at hl 2 rfl) ?_
        refine lv_imul (pc := 83) hx hb dX12_digest_83 ?_
        refine s_iald (pc := 84) F w ds_90 h dX12_digest_84 (fun h => ?_)
        refine lv_i2l (pc := 85) hx hb dX12_digest_85 rfl ?_
        refine lv_ladd (pc := 86) hx hb dX12_digest_86 ?_
        refine s_nm h (fun z6 ez6 h => ?_)
        rw [← ez6]
        refine lv_lstore_n (pc := 87) (lv' := [(1, .long z6), (0, .ref (ad 14)), (3, .int x3)]) hx hb dX12_digest_87 rfl hl (by decide) rfl (fun ls hl => ?_)
        refine lv_ldc2 (pc := 88) (v := 31) hx hb F.1.2.2.2.1 (F.1.2.2.2.2 _ kk_X12_449) dX12_digest_88 ?_
        refine lv_lload_n (pc := 91) hx hb dX12_digest_91 rfl (lv_at hl 0 rfl) ?_
        refine lv_lmul (pc := 92) hx hb dX12_digest_92 ?_
        refine lv_aload_n (pc := 93) hx hb dX12_digest_93 rfl (lv_at hl 1 rfl) ?_
        refine s_getR (pc := 94) F w 90 ds_14 (j := 35) vc_X12 vi_X12 rfl (by decide) kf_X12_84 dX12_digest_94 ?_
        refine lv_iconst (pc := 97) (v := 2) hx hb dX12_digest_97 (by decide) ?_
        refine lv_iload_n (pc := 98) hx hb dX12_digest_98 rfl (lv_at hl 2 rfl) ?_
        refine lv_imul (pc := 99) hx hb dX12_digest_99 ?_
        refine lv_iconst (pc := 100) (v := 1) hx hb dX12_digest_100 (by decide) ?_
        refine lv_iadd (pc := 101) hx hb dX12_digest_101 ?_
        refine s_iald (pc := 102) F w ds_90 h dX12_digest_102 (fun h => ?_)
        refine lv_i2l (pc := 103) hx hb dX12_digest_103 rfl ?_
        refine lv_ladd (pc := 104) hx hb dX12_digest_104 ?_
        refine s_nm h (fun z7 ez7 h => ?_)
        rw [← ez7]
        refine lv_lstore_n (pc := 105) (lv' := [(1, .long z7), (0, .ref (ad 14)), (3, .int x3)]) hx hb dX12_digest_105 rfl hl (by decide) rfl (fun ls hl => ?_)
        refine lv_ldc2 (pc := 106) (v := 31) hx hb F.1.2.2.2.1 (F.1.2.2.2.2 _ kk_X12_449) dX12_digest_106 ?_
        refine lv_lload_n (pc := 109) hx hb dX12_digest_109 rfl (lv_at hl 0 rfl) ?_
        refine lv_lmul (pc := 110) hx hb dX12_digest_110 ?_
        refine lv_aload_n (pc := 111) hx hb dX12_digest_111 rfl (lv_at hl 1 rfl) ?_
        refine s_getR (pc := 112) F w 92 ds_14 (j := 37) vc_X12 vi_X12 rfl (by decide) kf_X12_90 dX12_digest_112 ?_
        refine lv_iload_n (pc := 115) hx hb dX12_digest_115 rfl (lv_at hl 2 rfl) ?_
        refine s_iald (pc := 116) F w ds_92 h dX12_digest_116 (fun h => ?_)
        refine lv_i2l (pc := 117) hx hb dX12_digest_117 rfl ?_
        refine lv_ladd (pc := 118) hx hb dX12_digest_118 ?_
        refine s_nm h (fun z8 ez8 h => ?_)
        rw [← ez8]
        refine lv_lstore_n (pc := 119) (lv' := [(1, .long z8), (0, .ref (ad 14)), (3, .int x3)]) hx hb dX12_digest_119 rfl hl (by decide) rfl (fun ls hl => ?_)
        refine lv_ldc2 (pc := 120) (v := 31) hx hb F.1.2.2.2.1 (F.1.2.2.2.2 _ kk_X12_449) dX12_digest_120 ?_
        refine lv_lload_n (pc := 123) hx hb dX12_digest_123 rfl (lv_at hl 0 rfl) ?_
        refine lv_lmul (pc := 124) hx hb dX12_digest_124 ?_
        refine lv_aload_n (pc := 125) hx hb dX12_digest_125 rfl (lv_at hl 1 rfl) ?_
        refine s_getR (pc := 126) F w 93 ds_14 (j := 38) vc_X12 vi_X12 rfl (by decide) kf_X12_93 dX12_digest_126 ?_
        refine lv_iload_n (pc := 129) hx hb dX12_digest_129 rfl (lv_at hl 2 rfl) ?_
        refine s_iald (pc := 130) F w ds_93 h dX12_digest_130 (fun h => ?_)
        refine lv_i2l (pc := 131) hx hb dX12_digest_131 rfl ?_
        refine lv_ladd (pc := 132) hx hb dX12_digest_132 ?_
        refine s_nm h (fun z9 ez9 h => ?_)
        rw [← ez9]
        refine lv_lstore_n (pc := 133) (lv' := [(1, .long z9), (0, .ref (ad 14)), (3, .int x3)]) hx hb dX12_digest_133 rfl hl (by decide) rfl (fun ls hl => ?_)
        refine lv_ldc2 (pc := 134) (v := 31) hx hb F.1.2.2.2.1 (F.1.2.2.2.2 _ kk_X12_449) dX12_digest_134 ?_
        refine lv_lload_n (pc := 137) hx hb dX12_digest_137 rfl (lv_at hl 0 rfl) ?_
        refine lv_lmul (pc := 138) hx hb dX12_digest_138 ?_
        refine lv_aload_n (pc := 139) hx hb dX12_digest_139 rfl (lv_at hl 1 rfl) ?_
        refine s_getR (pc := 140) F w 97 ds_14 (j := 42) vc_X12 vi_X12 rfl (by decide) kf_X12_105 dX12_digest_140 ?_
        refine lv_iload_n (pc := 143) hx hb dX12_digest_143 rfl (lv_at hl 2 rfl) ?_
        refine s_iald (pc := 144) F w ds_97 h dX12_digest_144 (fun h => ?_)
        refine lv_i2l (pc := 145) hx hb dX12_digest_145 rfl ?_
        refine lv_ladd (pc := 146) hx hb dX12_digest_146 ?_
        refine s_nm h (fun z10 ez10 h => ?_)
        rw [← ez10]
        refine lv_lstore_n (pc := 147) (lv' := [(1, .long z10), (0, .ref (ad 14)), (3, .int x3)]) hx hb dX12_digest_147 rfl hl (by decide) rfl (fun ls hl => ?_)
        refine lv_ldc2 (pc := 148) (v := 31) hx hb F.1.2.2.2.1 (F.1.2.2.2.2 _ kk_X12_449) dX12_digest_148 ?_
        refine lv_lload_n (pc := 151) hx hb dX12_digest_151 rfl (lv_at hl 0 rfl) ?_
        refine lv_lmul (pc := 152) hx hb dX12_digest_152 ?_
        refine lv_aload_n (pc := 153) hx hb dX12_digest_153 rfl (lv_at hl 1 rfl) ?_
        refine s_getR (pc := 154) F w 94 ds_14 (j := 39) vc_X12 vi_X12 rfl (by decide) kf_X12_96 dX12_digest_154 ?_
        refine lv_iload_n (pc := 157) hx hb dX12_digest_157 rfl (lv_at hl 2 rfl) ?_
        refine s_iald (pc := 158) F w ds_94 h dX12_digest_158 (fun h => ?_)
        refine lv_i2l (pc := 159) hx hb dX12_digest_159 rfl ?_
        refine lv_ladd (pc := 160) hx hb dX12_digest_160 ?_
        refine s_nm h (fun z11 ez11 h => ?_)
        rw [← ez11]
        refine lv_lstore_n (pc := 161) (lv' := [(1, .long z11), (0, .ref (ad 14)), (3, .int x3)]) hx hb dX12_digest_161 rfl hl (by decide) rfl (fun ls hl => ?_)
        refine lv_ldc2 (pc := 162) (v := 31) hx hb F.1.2.2.2.1 (F.1.2.2.2.2 _ kk_X12_449) dX12_digest_162 ?_
        refine lv_lload_n (pc := 165) hx hb dX12_digest_165 rfl (lv_at hl 0 rfl) ?_
        refine lv_lmul (pc := 166) hx hb dX12_digest_166 ?_
        refine lv_aload_n (pc := 167) hx hb dX12_digest_167 rfl (lv_at hl 1 rfl) ?_
        refine s_getR (pc := 168) F w 101 ds_14 (j := 46) vc_X12 vi_X12 rfl (by decide) kf_X12_117 dX12_digest_168 ?_
        refine lv_iload_n (pc := 171) hx hb dX12_digest_171 rfl (lv_at hl 2 rfl) ?_
        refine s_zald (pc := 172) F w ds_101 h dX12_digest_172 (fun h => ?_)
        refine lv_if_eq (pc := 173) (tgt := 180) hx hb dX12_digest_173 (by decide) (fun q => ?_) (fun q => ?_)
        · have h := ite_t q h
          refine lv_iconst (pc := 180) (v := 0) hx hb dX12_digest_180 (by decide) ?_
          exact w_X12_digest_j181 F (Nat.le_trans (by decide) hR1) (Nat.le_trans (by decide) hR2) _ (fun v0 v1 S h => ih v0 v1 S h) _ _ _ _ h _ _ _ w (lv_sub hl [1, 2] rfl)
        · have h := ite_f q h
          refine lv_iconst (pc := 176) (v := 1) hx hb dX12_digest_176 (by decide) ?_
          refine lv_goto (pc := 177) (tgt := 181) hx hb dX12_digest_177 (by decide) ?_
          exact w_X12_digest_j181 F (Nat.le_trans (by decide) hR1) (Nat.le_trans (by decide) hR2) _ (fun v0 v1 S h => ih v0 v1 S h) _ _ _ _ h _ _ _ w (lv_sub hl [1, 2] rfl)
      · have h := ite_t q h
        refine lv_ldc2 (pc := 23) (v := 31) hx hb F.1.2.2.2.1 (F.1.2.2.2.2 _ kk_X12_449) dX12_digest_23 ?_
        refine lv_lload_n (pc := 26) hx hb dX12_digest_26 rfl (lv_at hl 1 rfl) ?_
        refine lv_lmul (pc := 27) hx hb dX12_digest_27 ?_
        refine lv_lconst (pc := 28) (v := 1) hx hb dX12_digest_28 (by decide) ?_
        refine lv_lsub (pc := 29) hx hb dX12_digest_29 ?_
        refine s_nm h (fun z14 ez14 h => ?_)
        rw [← ez14]
        refine lv_lstore_n (pc := 30) (lv' := [(1, .long z14), (0, .ref (ad 14)), (3, .int x3)]) hx hb dX12_digest_30 rfl hl (by decide) rfl (fun ls hl => ?_)
        refine lv_goto (pc := 31) (tgt := 184) hx hb dX12_digest_31 (by decide) ?_
        exact w_X12_digest_j184 F (Nat.le_trans (by decide) hR1) (Nat.le_trans (by decide) hR2) _ (fun v0 v1 S h => ih v0 v1 S h) _ _ _ h _ _ _ w (lv_sub hl [1, 0, 2] rfl)
set_option maxRecDepth 100000 in
set_option maxHeartbeats 4000000 in
theorem m_X12_digest  (S S' : SS) (r : Int64) (h : f_X12_digest  S = some (r, S')) : MT yX12_digest cX12_digest 4 (some .long) 0 0 (fun ad => [.ref (ad 14)]) S (some (.long r)) S' := by
  refine MT.of RX12 (fun ad => [(0, .ref (ad 14))]) (by decide) rfl (fun _ => Nat.le_of_ble_eq_true rfl) (fun _ => rfl) ?_
  intro p l e R s m args below meth c dC dI cs ad A hR1 hR2 F H locs ls w hl
  have hx := F.1.1
  have hb := F.1.2.1
  rw [f_X12_digest] at h
  refine lv_ldc2 (pc := 0) (v := 7) hx hb F.1.2.2.2.1 (F.1.2.2.2.2 _ kk_X12_447) dX12_digest_0 ?_
  refine lv_lstore_n (pc := 3) (lv' := [(1, .long (7 : Int64)), (0, .ref (ad 14))]) hx hb dX12_digest_3 rfl hl (by decide) rfl (fun ls hl => ?_)
  refine lv_iconst (pc := 4) (v := 0) hx hb dX12_digest_4 (by decide) ?_
  refine lv_istore_n (pc := 5) (lv' := [(3, .int (0 : Int32)), (1, .long (7 : Int64)), (0, .ref (ad 14))]) hx hb dX12_digest_5 rfl hl (by decide) rfl (fun ls hl => ?_)
  exact w_X12_digest_L6 F (Nat.le_trans (by decide) hR1) (Nat.le_trans (by decide) hR2) _ _ _ _ h _ _ _ w (lv_sub hl [2, 1, 0] rfl)
def f_X1_written (a1 : Int32) (a2 : Int32) (S : SS) : Option (Int32 × SS) :=
  if a1 < 0 then
    some ((-4 : Int32), S)
  else
    if a1 < (S.1 3 5) then
      nm ((((S.1 3 4) + (40 : Int32)) - a1) - (((S.1 3 4) + (40 : Int32)) - a1) / (40 : Int32) * (40 : Int32)) (fun z1 =>
      if a2 = 0 then
        grd (inb z1 40) (
        some (S.1 29 z1.toNatClampNeg, S))
      else
        grd (inb z1 40) (
        some (S.1 30 z1.toNatClampNeg, S)))
    else
      some ((-4 : Int32), S)
theorem dX1_written_0 : decode cX1_written 0 = .ok (.iload_n 1, 1) := by decide +kernel
theorem dX1_written_1 : decode cX1_written 1 = .ok (.ifCond .lt 11, 3) := by decide +kernel
theorem dX1_written_4 : decode cX1_written 4 = .ok (.iload_n 1, 1) := by decide +kernel
theorem dX1_written_5 : decode cX1_written 5 = .ok (.aload_n 0, 1) := by decide +kernel
theorem dX1_written_6 : decode cX1_written 6 = .ok (.getfield 32, 3) := by decide +kernel
theorem dX1_written_9 : decode cX1_written 9 = .ok (.if_icmp .lt 6, 3) := by decide +kernel
theorem dX1_written_12 : decode cX1_written 12 = .ok (.bipush (-4), 2) := by decide +kernel
theorem dX1_written_14 : decode cX1_written 14 = .ok (.ireturn, 1) := by decide +kernel
theorem dX1_written_15 : decode cX1_written 15 = .ok (.aload_n 0, 1) := by decide +kernel
theorem dX1_written_16 : decode cX1_written 16 = .ok (.getfield 29, 3) := by decide +kernel
theorem dX1_written_19 : decode cX1_written 19 = .ok (.bipush 40, 2) := by decide +kernel
theorem dX1_written_21 : decode cX1_written 21 = .ok (.iadd, 1) := by decide +kernel
theorem dX1_written_22 : decode cX1_written 22 = .ok (.iload_n 1, 1) := by decide +kernel
theorem dX1_written_23 : decode cX1_written 23 = .ok (.isub, 1) := by decide +kernel
theorem dX1_written_24 : decode cX1_written 24 = .ok (.bipush 40, 2) := by decide +kernel
theorem dX1_written_26 : decode cX1_written 26 = .ok (.irem, 1) := by decide +kernel
theorem dX1_written_27 : decode cX1_written 27 = .ok (.istore_n 3, 1) := by decide +kernel
theorem dX1_written_28 : decode cX1_written 28 = .ok (.iload_n 2, 1) := by decide +kernel
theorem dX1_written_29 : decode cX1_written 29 = .ok (.ifCond .ne 12, 3) := by decide +kernel
theorem dX1_written_32 : decode cX1_written 32 = .ok (.aload_n 0, 1) := by decide +kernel
theorem dX1_written_33 : decode cX1_written 33 = .ok (.getfield 18, 3) := by decide +kernel
theorem dX1_written_36 : decode cX1_written 36 = .ok (.iload_n 3, 1) := by decide +kernel
theorem dX1_written_37 : decode cX1_written 37 = .ok (.iaload, 1) := by decide +kernel
theorem dX1_written_38 : decode cX1_written 38 = .ok (.goto 9, 3) := by decide +kernel
theorem dX1_written_41 : decode cX1_written 41 = .ok (.aload_n 0, 1) := by decide +kernel
theorem dX1_written_42 : decode cX1_written 42 = .ok (.getfield 22, 3) := by decide +kernel
theorem dX1_written_45 : decode cX1_written 45 = .ok (.iload_n 3, 1) := by decide +kernel
theorem dX1_written_46 : decode cX1_written 46 = .ok (.iaload, 1) := by decide +kernel
theorem dX1_written_47 : decode cX1_written 47 = .ok (.ireturn, 1) := by decide +kernel
set_option maxRecDepth 100000 in
set_option maxHeartbeats 4000000 in
theorem m_X1_written (a1 : Int32) (a2 : Int32) (S S' : SS) (r : Int32) (h : f_X1_written a1 a2 S = some (r, S')) : MT yX1_written cX1_written 4 (some .int) 0 0 (fun ad => [.ref (ad 3), .int a1, .int a2]) S (some (.int r)) S' := by
  refine MT.of RX1 (fun ad => [(0, .ref (ad 3)), (1, .int a1), (2, .int a2)]) (by decide) rfl (fun _ => Nat.le_of_ble_eq_true rfl) (fun _ => rfl) ?_
  intro p l e R s m args below meth c dC dI cs ad A hR1 hR2 F H locs ls w hl
  have hx := F.1.1
  have hb := F.1.2.1
  rw [f_X1_written] at h
  refine lv_iload_n (pc := 0) hx hb dX1_written_0 rfl (lv_at hl 1 rfl) ?_
  refine lv_if_lt (pc := 1) (tgt := 12) hx hb dX1_written_1 (by decide) (fun q => ?_) (fun q => ?_)
  · have h := ite_t q h
    refine lv_bipush (pc := 12) (v := -4) hx hb dX1_written_12 (by decide) ?_
    exact s_iret F w h dX1_written_14
  · have h := ite_f q h
    refine lv_iload_n (pc := 4) hx hb dX1_written_4 rfl (lv_at hl 1 rfl) ?_
    refine lv_aload_n (pc := 5) hx hb dX1_written_5 rfl (lv_at hl 0 rfl) ?_
    refine s_getI (pc := 6) F w ds_3 (j := 5) vc_X1 vi_X1 rfl (by decide) kf_X1_32 dX1_written_6 ?_
    refine lv_icmp_lt (pc := 9) (tgt := 15) hx hb dX1_written_9 (by decide) (fun q => ?_) (fun q => ?_)
    · have h := ite_t q h
      refine lv_aload_n (pc := 15) hx hb dX1_written_15 rfl (lv_at hl 0 rfl) ?_
      refine s_getI (pc := 16) F w ds_3 (j := 4) vc_X1 vi_X1 rfl (by decide) kf_X1_29 dX1_written_16 ?_
      refine lv_bipush (pc := 19) (v := 40) hx hb dX1_written_19 (by decide) ?_
      refine lv_iadd (pc := 21) hx hb dX1_written_21 ?_
      refine lv_iload_n (pc := 22) hx hb dX1_written_22 rfl (lv_at hl 1 rfl) ?_
      refine lv_isub (pc := 23) hx hb dX1_written_23 ?_
      refine lv_bipush (pc := 24) (v := 40) hx hb dX1_written_24 (by decide) ?_
      refine lv_irem (pc := 26) hx hb dX1_written_26 (by decide) ?_
      refine s_nm h (fun z1 ez1 h => ?_)
      rw [← ez1]
      refine lv_istore_n (pc := 27) (lv' := [(3, .int z1), (0, .ref (ad 3)), (1, .int a1), (2, .int a2)]) hx hb dX1_written_27 rfl hl (by decide) rfl (fun ls hl => ?_)
      refine lv_iload_n (pc := 28) hx hb dX1_written_28 rfl (lv_at hl 3 rfl) ?_
      refine lv_if_ne (pc := 29) (tgt := 41) hx hb dX1_written_29 (by decide) (fun q => ?_) (fun q => ?_)
      · have h := ite_f q h
        refine lv_aload_n (pc := 41) hx hb dX1_written_41 rfl (lv_at hl 1 rfl) ?_
        refine s_getR (pc := 42) F w 30 ds_3 (j := 2) vc_X1 vi_X1 rfl (by decide) kf_X1_22 dX1_written_42 ?_
        refine lv_iload_n (pc := 45) hx hb dX1_written_45 rfl (lv_at hl 0 rfl) ?_
        refine s_iald (pc := 46) F w ds_30 h dX1_written_46 (fun h => ?_)
        exact s_iret F w h dX1_written_47
      · have h := ite_t q h
        refine lv_aload_n (pc := 32) hx hb dX1_written_32 rfl (lv_at hl 1 rfl) ?_
        refine s_getR (pc := 33) F w 29 ds_3 (j := 1) vc_X1 vi_X1 rfl (by decide) kf_X1_18 dX1_written_33 ?_
        refine lv_iload_n (pc := 36) hx hb dX1_written_36 rfl (lv_at hl 0 rfl) ?_
        refine s_iald (pc := 37) F w ds_29 h dX1_written_37 (fun h => ?_)
        refine lv_goto (pc := 38) (tgt := 47) hx hb dX1_written_38 (by decide) ?_
        exact s_iret F w h dX1_written_47
    · have h := ite_f q h
      refine lv_bipush (pc := 12) (v := -4) hx hb dX1_written_12 (by decide) ?_
      exact s_iret F w h dX1_written_14
def f_X11_log (a1 : Int32) (a2 : Int32) (S : SS) : Option (Int32 × SS) :=
  if a1 < 0 then
    some ((-1 : Int32), S)
  else
    bnd (f_X11_isNot a2 (0 : Int32) (1 : Int32) S) (fun r2 S1 =>
    if r2 = 0 then
      bnd (f_X1_written a1 a2 S1) (fun r4 S3 =>
      some (r4, S3))
    else
      some ((-1 : Int32), S1))
theorem dX11_log_0 : decode cX11_log 0 = .ok (.iload_n 1, 1) := by decide +kernel
theorem dX11_log_1 : decode cX11_log 1 = .ok (.ifCond .lt 12, 3) := by decide +kernel
theorem dX11_log_4 : decode cX11_log 4 = .ok (.iload_n 2, 1) := by decide +kernel
theorem dX11_log_5 : decode cX11_log 5 = .ok (.iconst 0, 1) := by decide +kernel
theorem dX11_log_6 : decode cX11_log 6 = .ok (.iconst 1, 1) := by decide +kernel
theorem dX11_log_7 : decode cX11_log 7 = .ok (.invokestatic 108, 3) := by decide +kernel
theorem dX11_log_10 : decode cX11_log 10 = .ok (.ifCond .eq 5, 3) := by decide +kernel
theorem dX11_log_13 : decode cX11_log 13 = .ok (.iconst (-1), 1) := by decide +kernel
theorem dX11_log_14 : decode cX11_log 14 = .ok (.ireturn, 1) := by decide +kernel
theorem dX11_log_15 : decode cX11_log 15 = .ok (.aload_n 0, 1) := by decide +kernel
theorem dX11_log_16 : decode cX11_log 16 = .ok (.getfield 26, 3) := by decide +kernel
theorem dX11_log_19 : decode cX11_log 19 = .ok (.iload_n 1, 1) := by decide +kernel
theorem dX11_log_20 : decode cX11_log 20 = .ok (.iload_n 2, 1) := by decide +kernel
theorem dX11_log_21 : decode cX11_log 21 = .ok (.invokevirtual 413, 3) := by decide +kernel
theorem dX11_log_24 : decode cX11_log 24 = .ok (.ireturn, 1) := by decide +kernel
set_option maxRecDepth 100000 in
set_option maxHeartbeats 4000000 in
theorem m_X11_log (a1 : Int32) (a2 : Int32) (S S' : SS) (r : Int32) (h : f_X11_log a1 a2 S = some (r, S')) : MT yX11_log cX11_log 3 (some .int) 1 23 (fun ad => [.ref (ad 0), .int a1, .int a2]) S (some (.int r)) S' := by
  refine MT.of RX11 (fun ad => [(0, .ref (ad 0)), (1, .int a1), (2, .int a2)]) (by decide) rfl (fun _ => Nat.le_of_ble_eq_true rfl) (fun _ => rfl) ?_
  intro p l e R s m args below meth c dC dI cs ad A hR1 hR2 F H locs ls w hl
  have hx := F.1.1
  have hb := F.1.2.1
  rw [f_X11_log] at h
  refine lv_iload_n (pc := 0) hx hb dX11_log_0 rfl (lv_at hl 1 rfl) ?_
  refine lv_if_lt (pc := 1) (tgt := 13) hx hb dX11_log_1 (by decide) (fun q => ?_) (fun q => ?_)
  · have h := ite_t q h
    refine lv_iconst (pc := 13) (v := -1) hx hb dX11_log_13 (by decide) ?_
    exact s_iret F w h dX11_log_14
  · have h := ite_f q h
    refine lv_iload_n (pc := 4) hx hb dX11_log_4 rfl (lv_at hl 2 rfl) ?_
    refine lv_iconst (pc := 5) (v := 0) hx hb dX11_log_5 (by decide) ?_
    refine lv_iconst (pc := 6) (v := 1) hx hb dX11_log_6 (by decide) ?_
    obtain ⟨r2, S1, hc, h⟩ := bnd_t h
    refine s_csi (pc := 7) [.int a2, .int (0 : Int32), .int (1 : Int32)] (fun ad => [.int a2, .int (0 : Int32), .int (1 : Int32)]) F w (m_X11_isNot _ _ _ _ _ _ hc) rfl rfl hl.1 ok_X11_isNot rfl kc_X11_isNot kl_X11_108 ks_X11_isNot kn_X11 ⟨Nat.le_trans (by decide) hR1, Nat.le_trans (by decide) hR2⟩ ⟨Nat.zero_le _, Nat.zero_le _⟩ (Nat.le_of_ble_eq_true rfl) dX11_log_7 (fun H locs w => ?_)
    refine lv_if_eq (pc := 10) (tgt := 15) hx hb dX11_log_10 (by decide) (fun q => ?_) (fun q => ?_)
    · have h := ite_t q h
      refine lv_aload_n (pc := 15) hx hb dX11_log_15 rfl (lv_at hl 0 rfl) ?_
      refine s_getR (pc := 16) F w 3 ds_0 (j := 2) vc_X11 vi_X11 rfl (by decide) kf_X11_26 dX11_log_16 ?_
      refine lv_iload_n (pc := 19) hx hb dX11_log_19 rfl (lv_at hl 1 rfl) ?_
      refine lv_iload_n (pc := 20) hx hb dX11_log_20 rfl (lv_at hl 2 rfl) ?_
      obtain ⟨r4, S3, hc, h⟩ := bnd_t h
      refine s_cvi (pc := 21) [.int a1, .int a2] (fun ad => [.ref (ad 3), .int a1, .int a2]) F w (m_X1_written _ _ _ _ _ hc) rfl rfl hl.1 ds_3 vc_X1 rfl ok_X1_written rfl kc_X1_written kl_X11_413 ki_X1_written kv_X1_written kn_X1 ⟨Nat.le_trans (by decide) hR1, Nat.le_trans (by decide) hR2⟩ ⟨Nat.zero_le _, Nat.zero_le _⟩ (Nat.le_of_ble_eq_true rfl) dX11_log_21 (fun H locs w => ?_)
      exact s_iret F w h dX11_log_24
    · have h := ite_f q h
      refine lv_iconst (pc := 13) (v := -1) hx hb dX11_log_13 (by decide) ?_
      exact s_iret F w h dX11_log_14
def f_X12_log (a1 : Int32) (a2 : Int32) (S : SS) : Option (Int32 × SS) :=
  if a1 < 0 then
    some ((-1 : Int32), S)
  else
    if a2 < 0 then
      some ((-1 : Int32), S)
    else
      if a2 ≤ (1 : Int32) then
        if (40 : Int32) ≤ a1 then
          some ((-4 : Int32), S)
        else
          if a1 < (S.1 14 62) then
            nm ((((S.1 14 62) - (1 : Int32)) - a1) - (((S.1 14 62) - (1 : Int32)) - a1) / (40 : Int32) * (40 : Int32)) (fun z1 =>
            if a2 = 0 then
              grd (inb z1 40) (
              some (S.1 108 z1.toNatClampNeg, S))
            else
              grd (inb z1 40) (
              some (S.1 109 z1.toNatClampNeg, S)))
          else
            some ((-4 : Int32), S)
      else
        some ((-1 : Int32), S)
theorem dX12_log_0 : decode cX12_log 0 = .ok (.iload_n 1, 1) := by decide +kernel
theorem dX12_log_1 : decode cX12_log 1 = .ok (.ifCond .lt 12, 3) := by decide +kernel
theorem dX12_log_4 : decode cX12_log 4 = .ok (.iload_n 2, 1) := by decide +kernel
theorem dX12_log_5 : decode cX12_log 5 = .ok (.ifCond .lt 8, 3) := by decide +kernel
theorem dX12_log_8 : decode cX12_log 8 = .ok (.iload_n 2, 1) := by decide +kernel
theorem dX12_log_9 : decode cX12_log 9 = .ok (.iconst 1, 1) := by decide +kernel
theorem dX12_log_10 : decode cX12_log 10 = .ok (.if_icmp .le 5, 3) := by decide +kernel
theorem dX12_log_13 : decode cX12_log 13 = .ok (.iconst (-1), 1) := by decide +kernel
theorem dX12_log_14 : decode cX12_log 14 = .ok (.ireturn, 1) := by decide +kernel
theorem dX12_log_15 : decode cX12_log 15 = .ok (.iload_n 1, 1) := by decide +kernel
theorem dX12_log_16 : decode cX12_log 16 = .ok (.bipush 40, 2) := by decide +kernel
theorem dX12_log_18 : decode cX12_log 18 = .ok (.if_icmp .ge 11, 3) := by decide +kernel
theorem dX12_log_21 : decode cX12_log 21 = .ok (.iload_n 1, 1) := by decide +kernel
theorem dX12_log_22 : decode cX12_log 22 = .ok (.aload_n 0, 1) := by decide +kernel
theorem dX12_log_23 : decode cX12_log 23 = .ok (.getfield 340, 3) := by decide +kernel
theorem dX12_log_26 : decode cX12_log 26 = .ok (.if_icmp .lt 6, 3) := by decide +kernel
theorem dX12_log_29 : decode cX12_log 29 = .ok (.bipush (-4), 2) := by decide +kernel
theorem dX12_log_31 : decode cX12_log 31 = .ok (.ireturn, 1) := by decide +kernel
theorem dX12_log_32 : decode cX12_log 32 = .ok (.aload_n 0, 1) := by decide +kernel
theorem dX12_log_33 : decode cX12_log 33 = .ok (.getfield 340, 3) := by decide +kernel
theorem dX12_log_36 : decode cX12_log 36 = .ok (.iconst 1, 1) := by decide +kernel
theorem dX12_log_37 : decode cX12_log 37 = .ok (.isub, 1) := by decide +kernel
theorem dX12_log_38 : decode cX12_log 38 = .ok (.iload_n 1, 1) := by decide +kernel
theorem dX12_log_39 : decode cX12_log 39 = .ok (.isub, 1) := by decide +kernel
theorem dX12_log_40 : decode cX12_log 40 = .ok (.bipush 40, 2) := by decide +kernel
theorem dX12_log_42 : decode cX12_log 42 = .ok (.irem, 1) := by decide +kernel
theorem dX12_log_43 : decode cX12_log 43 = .ok (.istore_n 3, 1) := by decide +kernel
theorem dX12_log_44 : decode cX12_log 44 = .ok (.iload_n 2, 1) := by decide +kernel
theorem dX12_log_45 : decode cX12_log 45 = .ok (.ifCond .ne 12, 3) := by decide +kernel
theorem dX12_log_48 : decode cX12_log 48 = .ok (.aload_n 0, 1) := by decide +kernel
theorem dX12_log_49 : decode cX12_log 49 = .ok (.getfield 138, 3) := by decide +kernel
theorem dX12_log_52 : decode cX12_log 52 = .ok (.iload_n 3, 1) := by decide +kernel
theorem dX12_log_53 : decode cX12_log 53 = .ok (.iaload, 1) := by decide +kernel
theorem dX12_log_54 : decode cX12_log 54 = .ok (.goto 9, 3) := by decide +kernel
theorem dX12_log_57 : decode cX12_log 57 = .ok (.aload_n 0, 1) := by decide +kernel
theorem dX12_log_58 : decode cX12_log 58 = .ok (.getfield 141, 3) := by decide +kernel
theorem dX12_log_61 : decode cX12_log 61 = .ok (.iload_n 3, 1) := by decide +kernel
theorem dX12_log_62 : decode cX12_log 62 = .ok (.iaload, 1) := by decide +kernel
theorem dX12_log_63 : decode cX12_log 63 = .ok (.ireturn, 1) := by decide +kernel
set_option maxRecDepth 100000 in
set_option maxHeartbeats 4000000 in
theorem m_X12_log (a1 : Int32) (a2 : Int32) (S S' : SS) (r : Int32) (h : f_X12_log a1 a2 S = some (r, S')) : MT yX12_log cX12_log 4 (some .int) 0 0 (fun ad => [.ref (ad 14), .int a1, .int a2]) S (some (.int r)) S' := by
  refine MT.of RX12 (fun ad => [(0, .ref (ad 14)), (1, .int a1), (2, .int a2)]) (by decide) rfl (fun _ => Nat.le_of_ble_eq_true rfl) (fun _ => rfl) ?_
  intro p l e R s m args below meth c dC dI cs ad A hR1 hR2 F H locs ls w hl
  have hx := F.1.1
  have hb := F.1.2.1
  rw [f_X12_log] at h
  refine lv_iload_n (pc := 0) hx hb dX12_log_0 rfl (lv_at hl 1 rfl) ?_
  refine lv_if_lt (pc := 1) (tgt := 13) hx hb dX12_log_1 (by decide) (fun q => ?_) (fun q => ?_)
  · have h := ite_t q h
    refine lv_iconst (pc := 13) (v := -1) hx hb dX12_log_13 (by decide) ?_
    exact s_iret F w h dX12_log_14
  · have h := ite_f q h
    refine lv_iload_n (pc := 4) hx hb dX12_log_4 rfl (lv_at hl 2 rfl) ?_
    refine lv_if_lt (pc := 5) (tgt := 13) hx hb dX12_log_5 (by decide) (fun q => ?_) (fun q => ?_)
    · have h := ite_t q h
      refine lv_iconst (pc := 13) (v := -1) hx hb dX12_log_13 (by decide) ?_
      exact s_iret F w h dX12_log_14
    · have h := ite_f q h
      refine lv_iload_n (pc := 8) hx hb dX12_log_8 rfl (lv_at hl 2 rfl) ?_
      refine lv_iconst (pc := 9) (v := 1) hx hb dX12_log_9 (by decide) ?_
      refine lv_icmp_le (pc := 10) (tgt := 15) hx hb dX12_log_10 (by decide) (fun q => ?_) (fun q => ?_)
      · have h := ite_t q h
        refine lv_iload_n (pc := 15) hx hb dX12_log_15 rfl (lv_at hl 1 rfl) ?_
        refine lv_bipush (pc := 16) (v := 40) hx hb dX12_log_16 (by decide) ?_
        refine lv_icmp_ge (pc := 18) (tgt := 29) hx hb dX12_log_18 (by decide) (fun q => ?_) (fun q => ?_)
        · have h := ite_t q h
          refine lv_bipush (pc := 29) (v := -4) hx hb dX12_log_29 (by decide) ?_
          exact s_iret F w h dX12_log_31
        · have h := ite_f q h
          refine lv_iload_n (pc := 21) hx hb dX12_log_21 rfl (lv_at hl 1 rfl) ?_
          refine lv_aload_n (pc := 22) hx hb dX12_log_22 rfl (lv_at hl 0 rfl) ?_
          refine s_getI (pc := 23) F w ds_14 (j := 62) vc_X12 vi_X12 rfl (by decide) kf_X12_340 dX12_log_23 ?_
          refine lv_icmp_lt (pc := 26) (tgt := 32) hx hb dX12_log_26 (by decide) (fun q => ?_) (fun q => ?_)
          · have h := ite_t q h
            refine lv_aload_n (pc := 32) hx hb dX12_log_32 rfl (lv_at hl 0 rfl) ?_
            refine s_getI (pc := 33) F w ds_14 (j := 62) vc_X12 vi_X12 rfl (by decide) kf_X12_340 dX12_log_33 ?_
            refine lv_iconst (pc := 36) (v := 1) hx hb dX12_log_36 (by decide) ?_
            refine lv_isub (pc := 37) hx hb dX12_log_37 ?_
            refine lv_iload_n (pc := 38) hx hb dX12_log_38 rfl (lv_at hl 1 rfl) ?_
            refine lv_isub (pc := 39) hx hb dX12_log_39 ?_
            refine lv_bipush (pc := 40) (v := 40) hx hb dX12_log_40 (by decide) ?_
            refine lv_irem (pc := 42) hx hb dX12_log_42 (by decide) ?_
            refine s_nm h (fun z1 ez1 h => ?_)
            rw [← ez1]
            refine lv_istore_n (pc := 43) (lv' := [(3, .int z1), (0, .ref (ad 14)), (1, .int a1), (2, .int a2)]) hx hb dX12_log_43 rfl hl (by decide) rfl (fun ls hl => ?_)
            refine lv_iload_n (pc := 44) hx hb dX12_log_44 rfl (lv_at hl 3 rfl) ?_
            refine lv_if_ne (pc := 45) (tgt := 57) hx hb dX12_log_45 (by decide) (fun q => ?_) (fun q => ?_)
            · have h := ite_f q h
              refine lv_aload_n (pc := 57) hx hb dX12_log_57 rfl (lv_at hl 1 rfl) ?_
              refine s_getR (pc := 58) F w 109 ds_14 (j := 64) vc_X12 vi_X12 rfl (by decide) kf_X12_141 dX12_log_58 ?_
              refine lv_iload_n (pc := 61) hx hb dX12_log_61 rfl (lv_at hl 0 rfl) ?_
              refine s_iald (pc := 62) F w ds_109 h dX12_log_62 (fun h => ?_)
              exact s_iret F w h dX12_log_63
            · have h := ite_t q h
              refine lv_aload_n (pc := 48) hx hb dX12_log_48 rfl (lv_at hl 1 rfl) ?_
              refine s_getR (pc := 49) F w 108 ds_14 (j := 63) vc_X12 vi_X12 rfl (by decide) kf_X12_138 dX12_log_49 ?_
              refine lv_iload_n (pc := 52) hx hb dX12_log_52 rfl (lv_at hl 0 rfl) ?_
              refine s_iald (pc := 53) F w ds_108 h dX12_log_53 (fun h => ?_)
              refine lv_goto (pc := 54) (tgt := 63) hx hb dX12_log_54 (by decide) ?_
              exact s_iret F w h dX12_log_63
          · have h := ite_f q h
            refine lv_bipush (pc := 29) (v := -4) hx hb dX12_log_29 (by decide) ?_
            exact s_iret F w h dX12_log_31
      · have h := ite_f q h
        refine lv_iconst (pc := 13) (v := -1) hx hb dX12_log_13 (by decide) ?_
        exact s_iret F w h dX12_log_14
def f_X7_height_start (a1 : Int32) (S : SS) : Option (Int32 × SS) :=
  if a1 < 0 then
    some ((0 : Int32), S)
  else
    if (4 : Int32) ≤ a1 then
      some ((0 : Int32), S)
    else
      grd (inb a1 4) (
      some (S.1 63 a1.toNatClampNeg, S))
theorem dX7_height_0 : decode cX7_height 0 = .ok (.iload_n 1, 1) := by decide +kernel
theorem dX7_height_1 : decode cX7_height 1 = .ok (.ifCond .lt 17, 3) := by decide +kernel
theorem dX7_height_4 : decode cX7_height 4 = .ok (.iload_n 1, 1) := by decide +kernel
theorem dX7_height_5 : decode cX7_height 5 = .ok (.iconst 4, 1) := by decide +kernel
theorem dX7_height_6 : decode cX7_height 6 = .ok (.if_icmp .ge 12, 3) := by decide +kernel
theorem dX7_height_9 : decode cX7_height 9 = .ok (.aload_n 0, 1) := by decide +kernel
theorem dX7_height_10 : decode cX7_height 10 = .ok (.getfield 15, 3) := by decide +kernel
theorem dX7_height_13 : decode cX7_height 13 = .ok (.iload_n 1, 1) := by decide +kernel
theorem dX7_height_14 : decode cX7_height 14 = .ok (.iaload, 1) := by decide +kernel
theorem dX7_height_15 : decode cX7_height 15 = .ok (.goto 4, 3) := by decide +kernel
theorem dX7_height_18 : decode cX7_height 18 = .ok (.iconst 0, 1) := by decide +kernel
theorem dX7_height_19 : decode cX7_height 19 = .ok (.ireturn, 1) := by decide +kernel
set_option maxRecDepth 100000 in
set_option maxHeartbeats 4000000 in
theorem m_X7_height_start (a1 : Int32) (S S' : SS) (r : Int32) (h : f_X7_height_start a1 S = some (r, S')) : MT yX7_height cX7_height 2 (some .int) 0 0 (fun ad => [.ref (ad 11), .int a1]) S (some (.int r)) S' := by
  refine MT.of RX7 (fun ad => [(0, .ref (ad 11)), (1, .int a1)]) (by decide) rfl (fun _ => Nat.le_of_ble_eq_true rfl) (fun _ => rfl) ?_
  intro p l e R s m args below meth c dC dI cs ad A hR1 hR2 F H locs ls w hl
  have hx := F.1.1
  have hb := F.1.2.1
  rw [f_X7_height_start] at h
  refine lv_iload_n (pc := 0) hx hb dX7_height_0 rfl (lv_at hl 1 rfl) ?_
  refine lv_if_lt (pc := 1) (tgt := 18) hx hb dX7_height_1 (by decide) (fun q => ?_) (fun q => ?_)
  · have h := ite_t q h
    refine lv_iconst (pc := 18) (v := 0) hx hb dX7_height_18 (by decide) ?_
    exact s_iret F w h dX7_height_19
  · have h := ite_f q h
    refine lv_iload_n (pc := 4) hx hb dX7_height_4 rfl (lv_at hl 1 rfl) ?_
    refine lv_iconst (pc := 5) (v := 4) hx hb dX7_height_5 (by decide) ?_
    refine lv_icmp_ge (pc := 6) (tgt := 18) hx hb dX7_height_6 (by decide) (fun q => ?_) (fun q => ?_)
    · have h := ite_t q h
      refine lv_iconst (pc := 18) (v := 0) hx hb dX7_height_18 (by decide) ?_
      exact s_iret F w h dX7_height_19
    · have h := ite_f q h
      refine lv_aload_n (pc := 9) hx hb dX7_height_9 rfl (lv_at hl 0 rfl) ?_
      refine s_getR (pc := 10) F w 63 ds_11 (j := 1) vc_X7 vi_X7 rfl (by decide) kf_X7_15 dX7_height_10 ?_
      refine lv_iload_n (pc := 13) hx hb dX7_height_13 rfl (lv_at hl 1 rfl) ?_
      refine s_iald (pc := 14) F w ds_63 h dX7_height_14 (fun h => ?_)
      refine lv_goto (pc := 15) (tgt := 19) hx hb dX7_height_15 (by decide) ?_
      exact s_iret F w h dX7_height_19
def f_X7_height_goal (a1 : Int32) (S : SS) : Option (Int32 × SS) :=
  if a1 < 0 then
    some ((0 : Int32), S)
  else
    if (4 : Int32) ≤ a1 then
      some ((0 : Int32), S)
    else
      grd (inb a1 4) (
      some (S.1 65 a1.toNatClampNeg, S))
set_option maxRecDepth 100000 in
set_option maxHeartbeats 4000000 in
theorem m_X7_height_goal (a1 : Int32) (S S' : SS) (r : Int32) (h : f_X7_height_goal a1 S = some (r, S')) : MT yX7_height cX7_height 2 (some .int) 0 0 (fun ad => [.ref (ad 12), .int a1]) S (some (.int r)) S' := by
  refine MT.of RX7 (fun ad => [(0, .ref (ad 12)), (1, .int a1)]) (by decide) rfl (fun _ => Nat.le_of_ble_eq_true rfl) (fun _ => rfl) ?_
  intro p l e R s m args below meth c dC dI cs ad A hR1 hR2 F H locs ls w hl
  have hx := F.1.1
  have hb := F.1.2.1
  rw [f_X7_height_goal] at h
  refine lv_iload_n (pc := 0) hx hb dX7_height_0 rfl (lv_at hl 1 rfl) ?_
  refine lv_if_lt (pc := 1) (tgt := 18) hx hb dX7_height_1 (by decide) (fun q => ?_) (fun q => ?_)
  · have h := ite_t q h
    refine lv_iconst (pc := 18) (v := 0) hx hb dX7_height_18 (by decide) ?_
    exact s_iret F w h dX7_height_19
  · have h := ite_f q h
    refine lv_iload_n (pc := 4) hx hb dX7_height_4 rfl (lv_at hl 1 rfl) ?_
    refine lv_iconst (pc := 5) (v := 4) hx hb dX7_height_5 (by decide) ?_
    refine lv_icmp_ge (pc := 6) (tgt := 18) hx hb dX7_height_6 (by decide) (fun q => ?_) (fun q => ?_)
    · have h := ite_t q h
      refine lv_iconst (pc := 18) (v := 0) hx hb dX7_height_18 (by decide) ?_
      exact s_iret F w h dX7_height_19
    · have h := ite_f q h
      refine lv_aload_n (pc := 9) hx hb dX7_height_9 rfl (lv_at hl 0 rfl) ?_
      refine s_getR (pc := 10) F w 65 ds_12 (j := 1) vc_X7 vi_X7 rfl (by decide) kf_X7_15 dX7_height_10 ?_
      refine lv_iload_n (pc := 13) hx hb dX7_height_13 rfl (lv_at hl 1 rfl) ?_
      refine s_iald (pc := 14) F w ds_65 h dX7_height_14 (fun h => ?_)
      refine lv_goto (pc := 15) (tgt := 19) hx hb dX7_height_15 (by decide) ?_
      exact s_iret F w h dX7_height_19
def f_X3_setRoom (a1 : Int32) (a2 : Int32) (S : SS) : Option (Int32 × SS) :=
  if a1 < 0 then
    some ((-1 : Int32), S)
  else
    if (4 : Int32) ≤ a1 then
      some ((-1 : Int32), S)
    else
      bnd (f_X7_height_start a1 S) (fun r2 S1 =>
      if a2 < r2 then
        some ((-1 : Int32), S1)
      else
        bnd (f_X7_height_goal a1 S1) (fun r4 S3 =>
        if r4 ≤ a2 then
          grd (inb a1 4) (
          nm (S3.1 46 a1.toNatClampNeg) (fun z5 =>
          grd (inb a1 4) (wr S3 46 a1.toNatClampNeg a2 (fun S6 =>
          some (z5, S6)))))
        else
          some ((-1 : Int32), S3)))
theorem dX3_setRoom_0 : decode cX3_setRoom 0 = .ok (.iload_n 1, 1) := by decide +kernel
theorem dX3_setRoom_1 : decode cX3_setRoom 1 = .ok (.ifCond .lt 32, 3) := by decide +kernel
theorem dX3_setRoom_4 : decode cX3_setRoom 4 = .ok (.iload_n 1, 1) := by decide +kernel
theorem dX3_setRoom_5 : decode cX3_setRoom 5 = .ok (.iconst 4, 1) := by decide +kernel
theorem dX3_setRoom_6 : decode cX3_setRoom 6 = .ok (.if_icmp .ge 27, 3) := by decide +kernel
theorem dX3_setRoom_9 : decode cX3_setRoom 9 = .ok (.aload_n 0, 1) := by decide +kernel
theorem dX3_setRoom_10 : decode cX3_setRoom 10 = .ok (.getfield 12, 3) := by decide +kernel
theorem dX3_setRoom_13 : decode cX3_setRoom 13 = .ok (.iload_n 1, 1) := by decide +kernel
theorem dX3_setRoom_14 : decode cX3_setRoom 14 = .ok (.invokevirtual 54, 3) := by decide +kernel
theorem dX3_setRoom_17 : decode cX3_setRoom 17 = .ok (.iload_n 2, 1) := by decide +kernel
theorem dX3_setRoom_18 : decode cX3_setRoom 18 = .ok (.if_icmp .gt 15, 3) := by decide +kernel
theorem dX3_setRoom_21 : decode cX3_setRoom 21 = .ok (.aload_n 0, 1) := by decide +kernel
theorem dX3_setRoom_22 : decode cX3_setRoom 22 = .ok (.getfield 18, 3) := by decide +kernel
theorem dX3_setRoom_25 : decode cX3_setRoom 25 = .ok (.iload_n 1, 1) := by decide +kernel
theorem dX3_setRoom_26 : decode cX3_setRoom 26 = .ok (.invokevirtual 54, 3) := by decide +kernel
theorem dX3_setRoom_29 : decode cX3_setRoom 29 = .ok (.iload_n 2, 1) := by decide +kernel
theorem dX3_setRoom_30 : decode cX3_setRoom 30 = .ok (.if_icmp .le 5, 3) := by decide +kernel
theorem dX3_setRoom_33 : decode cX3_setRoom 33 = .ok (.iconst (-1), 1) := by decide +kernel
theorem dX3_setRoom_34 : decode cX3_setRoom 34 = .ok (.ireturn, 1) := by decide +kernel
theorem dX3_setRoom_35 : decode cX3_setRoom 35 = .ok (.aload_n 0, 1) := by decide +kernel
theorem dX3_setRoom_36 : decode cX3_setRoom 36 = .ok (.getfield 24, 3) := by decide +kernel
theorem dX3_setRoom_39 : decode cX3_setRoom 39 = .ok (.iload_n 1, 1) := by decide +kernel
theorem dX3_setRoom_40 : decode cX3_setRoom 40 = .ok (.iaload, 1) := by decide +kernel
theorem dX3_setRoom_41 : decode cX3_setRoom 41 = .ok (.istore_n 3, 1) := by decide +kernel
theorem dX3_setRoom_42 : decode cX3_setRoom 42 = .ok (.aload_n 0, 1) := by decide +kernel
theorem dX3_setRoom_43 : decode cX3_setRoom 43 = .ok (.getfield 24, 3) := by decide +kernel
theorem dX3_setRoom_46 : decode cX3_setRoom 46 = .ok (.iload_n 1, 1) := by decide +kernel
theorem dX3_setRoom_47 : decode cX3_setRoom 47 = .ok (.iload_n 2, 1) := by decide +kernel
theorem dX3_setRoom_48 : decode cX3_setRoom 48 = .ok (.iastore, 1) := by decide +kernel
theorem dX3_setRoom_49 : decode cX3_setRoom 49 = .ok (.iload_n 3, 1) := by decide +kernel
theorem dX3_setRoom_50 : decode cX3_setRoom 50 = .ok (.ireturn, 1) := by decide +kernel
set_option maxRecDepth 100000 in
set_option maxHeartbeats 4000000 in
theorem m_X3_setRoom (a1 : Int32) (a2 : Int32) (S S' : SS) (r : Int32) (h : f_X3_setRoom a1 a2 S = some (r, S')) : MT yX3_setRoom cX3_setRoom 4 (some .int) 1 21 (fun ad => [.ref (ad 9), .int a1, .int a2]) S (some (.int r)) S' := by
  refine MT.of RX3 (fun ad => [(0, .ref (ad 9)), (1, .int a1), (2, .int a2)]) (by decide) rfl (fun _ => Nat.le_of_ble_eq_true rfl) (fun _ => rfl) ?_
  intro p l e R s m args below meth c dC dI cs ad A hR1 hR2 F H locs ls w hl
  have hx := F.1.1
  have hb := F.1.2.1
  rw [f_X3_setRoom] at h
  refine lv_iload_n (pc := 0) hx hb dX3_setRoom_0 rfl (lv_at hl 1 rfl) ?_
  refine lv_if_lt (pc := 1) (tgt := 33) hx hb dX3_setRoom_1 (by decide) (fun q => ?_) (fun q => ?_)
  · have h := ite_t q h
    refine lv_iconst (pc := 33) (v := -1) hx hb dX3_setRoom_33 (by decide) ?_
    exact s_iret F w h dX3_setRoom_34
  · have h := ite_f q h
    refine lv_iload_n (pc := 4) hx hb dX3_setRoom_4 rfl (lv_at hl 1 rfl) ?_
    refine lv_iconst (pc := 5) (v := 4) hx hb dX3_setRoom_5 (by decide) ?_
    refine lv_icmp_ge (pc := 6) (tgt := 33) hx hb dX3_setRoom_6 (by decide) (fun q => ?_) (fun q => ?_)
    · have h := ite_t q h
      refine lv_iconst (pc := 33) (v := -1) hx hb dX3_setRoom_33 (by decide) ?_
      exact s_iret F w h dX3_setRoom_34
    · have h := ite_f q h
      refine lv_aload_n (pc := 9) hx hb dX3_setRoom_9 rfl (lv_at hl 0 rfl) ?_
      refine s_getR (pc := 10) F w 11 ds_9 (j := 0) vc_X3 vi_X3 rfl (by decide) kf_X3_12 dX3_setRoom_10 ?_
      refine lv_iload_n (pc := 13) hx hb dX3_setRoom_13 rfl (lv_at hl 1 rfl) ?_
      obtain ⟨r2, S1, hc, h⟩ := bnd_t h
      refine s_cvi (pc := 14) [.int a1] (fun ad => [.ref (ad 11), .int a1]) F w (m_X7_height_start _ _ _ _ hc) rfl rfl hl.1 ds_11 vc_X7 rfl ok_X7_height rfl kc_X7_height kl_X3_54 ki_X7_height kv_X7_height kn_X7 ⟨Nat.le_trans (by decide) hR1, Nat.le_trans (by decide) hR2⟩ ⟨Nat.zero_le _, Nat.zero_le _⟩ (Nat.le_of_ble_eq_true rfl) dX3_setRoom_14 (fun H locs w => ?_)
      refine lv_iload_n (pc := 17) hx hb dX3_setRoom_17 rfl (lv_at hl 2 rfl) ?_
      refine lv_icmp_gt (pc := 18) (tgt := 33) hx hb dX3_setRoom_18 (by decide) (fun q => ?_) (fun q => ?_)
      · have h := ite_t q h
        refine lv_iconst (pc := 33) (v := -1) hx hb dX3_setRoom_33 (by decide) ?_
        exact s_iret F w h dX3_setRoom_34
      · have h := ite_f q h
        refine lv_aload_n (pc := 21) hx hb dX3_setRoom_21 rfl (lv_at hl 0 rfl) ?_
        refine s_getR (pc := 22) F w 12 ds_9 (j := 1) vc_X3 vi_X3 rfl (by decide) kf_X3_18 dX3_setRoom_22 ?_
        refine lv_iload_n (pc := 25) hx hb dX3_setRoom_25 rfl (lv_at hl 1 rfl) ?_
        obtain ⟨r4, S3, hc, h⟩ := bnd_t h
        refine s_cvi (pc := 26) [.int a1] (fun ad => [.ref (ad 12), .int a1]) F w (m_X7_height_goal _ _ _ _ hc) rfl rfl hl.1 ds_12 vc_X7 rfl ok_X7_height rfl kc_X7_height kl_X3_54 ki_X7_height kv_X7_height kn_X7 ⟨Nat.le_trans (by decide) hR1, Nat.le_trans (by decide) hR2⟩ ⟨Nat.zero_le _, Nat.zero_le _⟩ (Nat.le_of_ble_eq_true rfl) dX3_setRoom_26 (fun H locs w => ?_)
        refine lv_iload_n (pc := 29) hx hb dX3_setRoom_29 rfl (lv_at hl 2 rfl) ?_
        refine lv_icmp_le (pc := 30) (tgt := 35) hx hb dX3_setRoom_30 (by decide) (fun q => ?_) (fun q => ?_)
        · have h := ite_t q h
          refine lv_aload_n (pc := 35) hx hb dX3_setRoom_35 rfl (lv_at hl 0 rfl) ?_
          refine s_getR (pc := 36) F w 46 ds_9 (j := 3) vc_X3 vi_X3 rfl (by decide) kf_X3_24 dX3_setRoom_36 ?_
          refine lv_iload_n (pc := 39) hx hb dX3_setRoom_39 rfl (lv_at hl 1 rfl) ?_
          refine s_iald (pc := 40) F w ds_46 h dX3_setRoom_40 (fun h => ?_)
          refine s_nm h (fun z5 ez5 h => ?_)
          rw [← ez5]
          refine lv_istore_n (pc := 41) (lv' := [(3, .int z5), (0, .ref (ad 9)), (1, .int a1), (2, .int a2)]) hx hb dX3_setRoom_41 rfl hl (by decide) rfl (fun ls hl => ?_)
          refine lv_aload_n (pc := 42) hx hb dX3_setRoom_42 rfl (lv_at hl 1 rfl) ?_
          refine s_getR (pc := 43) F w 46 ds_9 (j := 3) vc_X3 vi_X3 rfl (by decide) kf_X3_24 dX3_setRoom_43 ?_
          refine lv_iload_n (pc := 46) hx hb dX3_setRoom_46 rfl (lv_at hl 2 rfl) ?_
          refine lv_iload_n (pc := 47) hx hb dX3_setRoom_47 rfl (lv_at hl 3 rfl) ?_
          refine s_iast (pc := 48) F w ds_46 h dX3_setRoom_48 (fun S6 H locs h w => ?_)
          refine lv_iload_n (pc := 49) hx hb dX3_setRoom_49 rfl (lv_at hl 0 rfl) ?_
          exact s_iret F w h dX3_setRoom_50
        · have h := ite_f q h
          refine lv_iconst (pc := 33) (v := -1) hx hb dX3_setRoom_33 (by decide) ?_
          exact s_iret F w h dX3_setRoom_34
def f_X11_room (a1 : Int32) (a2 : Int32) (S : SS) : Option (Int32 × SS) :=
  bnd (f_X11_isNot a1 (0 : Int32) (3 : Int32) S) (fun r2 S1 =>
  if r2 = 0 then
    bnd (f_X11_isNot a2 (1 : Int32) (10 : Int32) S1) (fun r4 S3 =>
    if r4 = 0 then
      bnd (f_X3_setRoom a1 a2 S3) (fun r6 S5 =>
      some (r6, S5))
    else
      some ((-1 : Int32), S3))
  else
    some ((-1 : Int32), S1))
theorem dX11_room_0 : decode cX11_room 0 = .ok (.iload_n 1, 1) := by decide +kernel
theorem dX11_room_1 : decode cX11_room 1 = .ok (.iconst 0, 1) := by decide +kernel
theorem dX11_room_2 : decode cX11_room 2 = .ok (.iconst 3, 1) := by decide +kernel
theorem dX11_room_3 : decode cX11_room 3 = .ok (.invokestatic 108, 3) := by decide +kernel
theorem dX11_room_6 : decode cX11_room 6 = .ok (.ifCond .ne 13, 3) := by decide +kernel
theorem dX11_room_9 : decode cX11_room 9 = .ok (.iload_n 2, 1) := by decide +kernel
theorem dX11_room_10 : decode cX11_room 10 = .ok (.iconst 1, 1) := by decide +kernel
theorem dX11_room_11 : decode cX11_room 11 = .ok (.bipush 10, 2) := by decide +kernel
theorem dX11_room_13 : decode cX11_room 13 = .ok (.invokestatic 108, 3) := by decide +kernel
theorem dX11_room_16 : decode cX11_room 16 = .ok (.ifCond .eq 5, 3) := by decide +kernel
theorem dX11_room_19 : decode cX11_room 19 = .ok (.iconst (-1), 1) := by decide +kernel
theorem dX11_room_20 : decode cX11_room 20 = .ok (.ireturn, 1) := by decide +kernel
theorem dX11_room_21 : decode cX11_room 21 = .ok (.aload_n 0, 1) := by decide +kernel
theorem dX11_room_22 : decode cX11_room 22 = .ok (.getfield 74, 3) := by decide +kernel
theorem dX11_room_25 : decode cX11_room 25 = .ok (.iload_n 1, 1) := by decide +kernel
theorem dX11_room_26 : decode cX11_room 26 = .ok (.iload_n 2, 1) := by decide +kernel
theorem dX11_room_27 : decode cX11_room 27 = .ok (.invokevirtual 418, 3) := by decide +kernel
theorem dX11_room_30 : decode cX11_room 30 = .ok (.ireturn, 1) := by decide +kernel
set_option maxRecDepth 100000 in
set_option maxHeartbeats 4000000 in
theorem m_X11_room (a1 : Int32) (a2 : Int32) (S S' : SS) (r : Int32) (h : f_X11_room a1 a2 S = some (r, S')) : MT yX11_room cX11_room 3 (some .int) 2 44 (fun ad => [.ref (ad 0), .int a1, .int a2]) S (some (.int r)) S' := by
  refine MT.of RX11 (fun ad => [(0, .ref (ad 0)), (1, .int a1), (2, .int a2)]) (by decide) rfl (fun _ => Nat.le_of_ble_eq_true rfl) (fun _ => rfl) ?_
  intro p l e R s m args below meth c dC dI cs ad A hR1 hR2 F H locs ls w hl
  have hx := F.1.1
  have hb := F.1.2.1
  rw [f_X11_room] at h
  refine lv_iload_n (pc := 0) hx hb dX11_room_0 rfl (lv_at hl 1 rfl) ?_
  refine lv_iconst (pc := 1) (v := 0) hx hb dX11_room_1 (by decide) ?_
  refine lv_iconst (pc := 2) (v := 3) hx hb dX11_room_2 (by decide) ?_
  obtain ⟨r2, S1, hc, h⟩ := bnd_t h
  refine s_csi (pc := 3) [.int a1, .int (0 : Int32), .int (3 : Int32)] (fun ad => [.int a1, .int (0 : Int32), .int (3 : Int32)]) F w (m_X11_isNot _ _ _ _ _ _ hc) rfl rfl hl.1 ok_X11_isNot rfl kc_X11_isNot kl_X11_108 ks_X11_isNot kn_X11 ⟨Nat.le_trans (by decide) hR1, Nat.le_trans (by decide) hR2⟩ ⟨Nat.zero_le _, Nat.zero_le _⟩ (Nat.le_of_ble_eq_true rfl) dX11_room_3 (fun H locs w => ?_)
  refine lv_if_ne (pc := 6) (tgt := 19) hx hb dX11_room_6 (by decide) (fun q => ?_) (fun q => ?_)
  · have h := ite_f q h
    refine lv_iconst (pc := 19) (v := -1) hx hb dX11_room_19 (by decide) ?_
    exact s_iret F w h dX11_room_20
  · have h := ite_t q h
    refine lv_iload_n (pc := 9) hx hb dX11_room_9 rfl (lv_at hl 2 rfl) ?_
    refine lv_iconst (pc := 10) (v := 1) hx hb dX11_room_10 (by decide) ?_
    refine lv_bipush (pc := 11) (v := 10) hx hb dX11_room_11 (by decide) ?_
    obtain ⟨r4, S3, hc, h⟩ := bnd_t h
    refine s_csi (pc := 13) [.int a2, .int (1 : Int32), .int (10 : Int32)] (fun ad => [.int a2, .int (1 : Int32), .int (10 : Int32)]) F w (m_X11_isNot _ _ _ _ _ _ hc) rfl rfl hl.1 ok_X11_isNot rfl kc_X11_isNot kl_X11_108 ks_X11_isNot kn_X11 ⟨Nat.le_trans (by decide) hR1, Nat.le_trans (by decide) hR2⟩ ⟨Nat.zero_le _, Nat.zero_le _⟩ (Nat.le_of_ble_eq_true rfl) dX11_room_13 (fun H locs w => ?_)
    refine lv_if_eq (pc := 16) (tgt := 21) hx hb dX11_room_16 (by decide) (fun q => ?_) (fun q => ?_)
    · have h := ite_t q h
      refine lv_aload_n (pc := 21) hx hb dX11_room_21 rfl (lv_at hl 0 rfl) ?_
      refine s_getR (pc := 22) F w 9 ds_0 (j := 8) vc_X11 vi_X11 rfl (by decide) kf_X11_74 dX11_room_22 ?_
      refine lv_iload_n (pc := 25) hx hb dX11_room_25 rfl (lv_at hl 1 rfl) ?_
      refine lv_iload_n (pc := 26) hx hb dX11_room_26 rfl (lv_at hl 2 rfl) ?_
      obtain ⟨r6, S5, hc, h⟩ := bnd_t h
      refine s_cvi (pc := 27) [.int a1, .int a2] (fun ad => [.ref (ad 9), .int a1, .int a2]) F w (m_X3_setRoom _ _ _ _ _ hc) rfl rfl hl.1 ds_9 vc_X3 rfl ok_X3_setRoom rfl kc_X3_setRoom kl_X11_418 ki_X3_setRoom kv_X3_setRoom kn_X3 ⟨Nat.le_trans (by decide) hR1, Nat.le_trans (by decide) hR2⟩ ⟨Nat.zero_le _, Nat.zero_le _⟩ (Nat.le_of_ble_eq_true rfl) dX11_room_27 (fun H locs w => ?_)
      exact s_iret F w h dX11_room_30
    · have h := ite_f q h
      refine lv_iconst (pc := 19) (v := -1) hx hb dX11_room_19 (by decide) ?_
      exact s_iret F w h dX11_room_20
def f_X12_room (a1 : Int32) (a2 : Int32) (S : SS) : Option (Int32 × SS) :=
  if a1 < 0 then
    some ((-1 : Int32), S)
  else
    if (4 : Int32) ≤ a1 then
      some ((-1 : Int32), S)
    else
      if a2 < (1 : Int32) then
        some ((-1 : Int32), S)
      else
        if (10 : Int32) < a2 then
          some ((-1 : Int32), S)
        else
          grd (inb a1 4) (
          if a2 < (S.1 114 a1.toNatClampNeg) then
            some ((-1 : Int32), S)
          else
            grd (inb a1 4) (
            if (S.1 116 a1.toNatClampNeg) ≤ a2 then
              grd (inb a1 4) (
              nm (S.1 113 a1.toNatClampNeg) (fun z1 =>
              grd (inb a1 4) (wr S 113 a1.toNatClampNeg a2 (fun S2 =>
              some (z1, S2)))))
            else
              some ((-1 : Int32), S)))
theorem dX12_room_0 : decode cX12_room 0 = .ok (.iload_n 1, 1) := by decide +kernel
theorem dX12_room_1 : decode cX12_room 1 = .ok (.ifCond .lt 39, 3) := by decide +kernel
theorem dX12_room_4 : decode cX12_room 4 = .ok (.iload_n 1, 1) := by decide +kernel
theorem dX12_room_5 : decode cX12_room 5 = .ok (.iconst 4, 1) := by decide +kernel
theorem dX12_room_6 : decode cX12_room 6 = .ok (.if_icmp .ge 34, 3) := by decide +kernel
theorem dX12_room_9 : decode cX12_room 9 = .ok (.iload_n 2, 1) := by decide +kernel
theorem dX12_room_10 : decode cX12_room 10 = .ok (.iconst 1, 1) := by decide +kernel
theorem dX12_room_11 : decode cX12_room 11 = .ok (.if_icmp .lt 29, 3) := by decide +kernel
theorem dX12_room_14 : decode cX12_room 14 = .ok (.iload_n 2, 1) := by decide +kernel
theorem dX12_room_15 : decode cX12_room 15 = .ok (.bipush 10, 2) := by decide +kernel
theorem dX12_room_17 : decode cX12_room 17 = .ok (.if_icmp .gt 23, 3) := by decide +kernel
theorem dX12_room_20 : decode cX12_room 20 = .ok (.aload_n 0, 1) := by decide +kernel
theorem dX12_room_21 : decode cX12_room 21 = .ok (.getfield 156, 3) := by decide +kernel
theorem dX12_room_24 : decode cX12_room 24 = .ok (.iload_n 1, 1) := by decide +kernel
theorem dX12_room_25 : decode cX12_room 25 = .ok (.iaload, 1) := by decide +kernel
theorem dX12_room_26 : decode cX12_room 26 = .ok (.iload_n 2, 1) := by decide +kernel
theorem dX12_room_27 : decode cX12_room 27 = .ok (.if_icmp .gt 13, 3) := by decide +kernel
theorem dX12_room_30 : decode cX12_room 30 = .ok (.aload_n 0, 1) := by decide +kernel
theorem dX12_room_31 : decode cX12_room 31 = .ok (.getfield 162, 3) := by decide +kernel
theorem dX12_room_34 : decode cX12_room 34 = .ok (.iload_n 1, 1) := by decide +kernel
theorem dX12_room_35 : decode cX12_room 35 = .ok (.iaload, 1) := by decide +kernel
theorem dX12_room_36 : decode cX12_room 36 = .ok (.iload_n 2, 1) := by decide +kernel
theorem dX12_room_37 : decode cX12_room 37 = .ok (.if_icmp .le 5, 3) := by decide +kernel
theorem dX12_room_40 : decode cX12_room 40 = .ok (.iconst (-1), 1) := by decide +kernel
theorem dX12_room_41 : decode cX12_room 41 = .ok (.ireturn, 1) := by decide +kernel
theorem dX12_room_42 : decode cX12_room 42 = .ok (.aload_n 0, 1) := by decide +kernel
theorem dX12_room_43 : decode cX12_room 43 = .ok (.getfield 153, 3) := by decide +kernel
theorem dX12_room_46 : decode cX12_room 46 = .ok (.iload_n 1, 1) := by decide +kernel
theorem dX12_room_47 : decode cX12_room 47 = .ok (.iaload, 1) := by decide +kernel
theorem dX12_room_48 : decode cX12_room 48 = .ok (.istore_n 3, 1) := by decide +kernel
theorem dX12_room_49 : decode cX12_room 49 = .ok (.aload_n 0, 1) := by decide +kernel
theorem dX12_room_50 : decode cX12_room 50 = .ok (.getfield 153, 3) := by decide +kernel
theorem dX12_room_53 : decode cX12_room 53 = .ok (.iload_n 1, 1) := by decide +kernel
theorem dX12_room_54 : decode cX12_room 54 = .ok (.iload_n 2, 1) := by decide +kernel
theorem dX12_room_55 : decode cX12_room 55 = .ok (.iastore, 1) := by decide +kernel
theorem dX12_room_56 : decode cX12_room 56 = .ok (.iload_n 3, 1) := by decide +kernel
theorem dX12_room_57 : decode cX12_room 57 = .ok (.ireturn, 1) := by decide +kernel
set_option maxRecDepth 100000 in
set_option maxHeartbeats 4000000 in
theorem m_X12_room (a1 : Int32) (a2 : Int32) (S S' : SS) (r : Int32) (h : f_X12_room a1 a2 S = some (r, S')) : MT yX12_room cX12_room 4 (some .int) 0 0 (fun ad => [.ref (ad 14), .int a1, .int a2]) S (some (.int r)) S' := by
  refine MT.of RX12 (fun ad => [(0, .ref (ad 14)), (1, .int a1), (2, .int a2)]) (by decide) rfl (fun _ => Nat.le_of_ble_eq_true rfl) (fun _ => rfl) ?_
  intro p l e R s m args below meth c dC dI cs ad A hR1 hR2 F H locs ls w hl
  have hx := F.1.1
  have hb := F.1.2.1
  rw [f_X12_room] at h
  refine lv_iload_n (pc := 0) hx hb dX12_room_0 rfl (lv_at hl 1 rfl) ?_
  refine lv_if_lt (pc := 1) (tgt := 40) hx hb dX12_room_1 (by decide) (fun q => ?_) (fun q => ?_)
  · have h := ite_t q h
    refine lv_iconst (pc := 40) (v := -1) hx hb dX12_room_40 (by decide) ?_
    exact s_iret F w h dX12_room_41
  · have h := ite_f q h
    refine lv_iload_n (pc := 4) hx hb dX12_room_4 rfl (lv_at hl 1 rfl) ?_
    refine lv_iconst (pc := 5) (v := 4) hx hb dX12_room_5 (by decide) ?_
    refine lv_icmp_ge (pc := 6) (tgt := 40) hx hb dX12_room_6 (by decide) (fun q => ?_) (fun q => ?_)
    · have h := ite_t q h
      refine lv_iconst (pc := 40) (v := -1) hx hb dX12_room_40 (by decide) ?_
      exact s_iret F w h dX12_room_41
    · have h := ite_f q h
      refine lv_iload_n (pc := 9) hx hb dX12_room_9 rfl (lv_at hl 2 rfl) ?_
      refine lv_iconst (pc := 10) (v := 1) hx hb dX12_room_10 (by decide) ?_
      refine lv_icmp_lt (pc := 11) (tgt := 40) hx hb dX12_room_11 (by decide) (fun q => ?_) (fun q => ?_)
      · have h := ite_t q h
        refine lv_iconst (pc := 40) (v := -1) hx hb dX12_room_40 (by decide) ?_
        exact s_iret F w h dX12_room_41
      · have h := ite_f q h
        refine lv_iload_n (pc := 14) hx hb dX12_room_14 rfl (lv_at hl 2 rfl) ?_
        refine lv_bipush (pc := 15) (v := 10) hx hb dX12_room_15 (by decide) ?_
        refine lv_icmp_gt (pc := 17) (tgt := 40) hx hb dX12_room_17 (by decide) (fun q => ?_) (fun q => ?_)
        · have h := ite_t q h
          refine lv_iconst (pc := 40) (v := -1) hx hb dX12_room_40 (by decide) ?_
          exact s_iret F w h dX12_room_41
        · have h := ite_f q h
          refine lv_aload_n (pc := 20) hx hb dX12_room_20 rfl (lv_at hl 0 rfl) ?_
          refine s_getR (pc := 21) F w 114 ds_14 (j := 72) vc_X12 vi_X12 rfl (by decide) kf_X12_156 dX12_room_21 ?_
          refine lv_iload_n (pc := 24) hx hb dX12_room_24 rfl (lv_at hl 1 rfl) ?_
          refine s_iald (pc := 25) F w ds_114 h dX12_room_25 (fun h => ?_)
          refine lv_iload_n (pc := 26) hx hb dX12_room_26 rfl (lv_at hl 2 rfl) ?_
          refine lv_icmp_gt (pc := 27) (tgt := 40) hx hb dX12_room_27 (by decide) (fun q => ?_) (fun q => ?_)
          · have h := ite_t q h
            refine lv_iconst (pc := 40) (v := -1) hx hb dX12_room_40 (by decide) ?_
            exact s_iret F w h dX12_room_41
          · have h := ite_f q h
            refine lv_aload_n (pc := 30) hx hb dX12_room_30 rfl (lv_at hl 0 rfl) ?_
            refine s_getR (pc := 31) F w 116 ds_14 (j := 74) vc_X12 vi_X12 rfl (by decide) kf_X12_162 dX12_room_31 ?_
            refine lv_iload_n (pc := 34) hx hb dX12_room_34 rfl (lv_at hl 1 rfl) ?_
            refine s_iald (pc := 35) F w ds_116 h dX12_room_35 (fun h => ?_)
            refine lv_iload_n (pc := 36) hx hb dX12_room_36 rfl (lv_at hl 2 rfl) ?_
            refine lv_icmp_le (pc := 37) (tgt := 42) hx hb dX12_room_37 (by decide) (fun q => ?_) (fun q => ?_)
            · have h := ite_t q h
              refine lv_aload_n (pc := 42) hx hb dX12_room_42 rfl (lv_at hl 0 rfl) ?_
              refine s_getR (pc := 43) F w 113 ds_14 (j := 71) vc_X12 vi_X12 rfl (by decide) kf_X12_153 dX12_room_43 ?_
              refine lv_iload_n (pc := 46) hx hb dX12_room_46 rfl (lv_at hl 1 rfl) ?_
              refine s_iald (pc := 47) F w ds_113 h dX12_room_47 (fun h => ?_)
              refine s_nm h (fun z1 ez1 h => ?_)
              rw [← ez1]
              refine lv_istore_n (pc := 48) (lv' := [(3, .int z1), (0, .ref (ad 14)), (1, .int a1), (2, .int a2)]) hx hb dX12_room_48 rfl hl (by decide) rfl (fun ls hl => ?_)
              refine lv_aload_n (pc := 49) hx hb dX12_room_49 rfl (lv_at hl 1 rfl) ?_
              refine s_getR (pc := 50) F w 113 ds_14 (j := 71) vc_X12 vi_X12 rfl (by decide) kf_X12_153 dX12_room_50 ?_
              refine lv_iload_n (pc := 53) hx hb dX12_room_53 rfl (lv_at hl 2 rfl) ?_
              refine lv_iload_n (pc := 54) hx hb dX12_room_54 rfl (lv_at hl 3 rfl) ?_
              refine s_iast (pc := 55) F w ds_113 h dX12_room_55 (fun S2 H locs h w => ?_)
              refine lv_iload_n (pc := 56) hx hb dX12_room_56 rfl (lv_at hl 0 rfl) ?_
              exact s_iret F w h dX12_room_57
            · have h := ite_f q h
              refine lv_iconst (pc := 40) (v := -1) hx hb dX12_room_40 (by decide) ?_
              exact s_iret F w h dX12_room_41
def f_X7_wagonAt_start_j28  (x1 : Int32) (x2 : Int32) (y0 : Int32) (S : SS) : Option (Int32 × SS) :=
    if y0 = 0 then
      some ((-4 : Int32), S)
    else
      grd (inb (((10 : Int32) * x1) + x2) 40) (
      some (S.1 62 (((10 : Int32) * x1) + x2).toNatClampNeg, S))
def f_X7_wagonAt_start_j27  (x1 : Int32) (x2 : Int32) (S : SS) : Option (Int32 × SS) :=
    f_X7_wagonAt_start_j28 x1 x2 (0 : Int32) S
def f_X7_wagonAt_start (a1 : Int32) (a2 : Int32) (S : SS) : Option (Int32 × SS) :=
  if a1 < 0 then
    f_X7_wagonAt_start_j27 a1 a2 S
  else
    if (4 : Int32) ≤ a1 then
      f_X7_wagonAt_start_j27 a1 a2 S
    else
      if a2 < 0 then
        f_X7_wagonAt_start_j27 a1 a2 S
      else
        grd (inb a1 4) (
        if (S.1 63 a1.toNatClampNeg) ≤ a2 then
          f_X7_wagonAt_start_j27 a1 a2 S
        else
          f_X7_wagonAt_start_j28 a1 a2 (1 : Int32) S)
theorem dX7_wagonAt_0 : decode cX7_wagonAt 0 = .ok (.iload_n 1, 1) := by decide +kernel
theorem dX7_wagonAt_1 : decode cX7_wagonAt 1 = .ok (.ifCond .lt 26, 3) := by decide +kernel
theorem dX7_wagonAt_4 : decode cX7_wagonAt 4 = .ok (.iload_n 1, 1) := by decide +kernel
theorem dX7_wagonAt_5 : decode cX7_wagonAt 5 = .ok (.iconst 4, 1) := by decide +kernel
theorem dX7_wagonAt_6 : decode cX7_wagonAt 6 = .ok (.if_icmp .ge 21, 3) := by decide +kernel
theorem dX7_wagonAt_9 : decode cX7_wagonAt 9 = .ok (.iload_n 2, 1) := by decide +kernel
theorem dX7_wagonAt_10 : decode cX7_wagonAt 10 = .ok (.ifCond .lt 17, 3) := by decide +kernel
theorem dX7_wagonAt_13 : decode cX7_wagonAt 13 = .ok (.iload_n 2, 1) := by decide +kernel
theorem dX7_wagonAt_14 : decode cX7_wagonAt 14 = .ok (.aload_n 0, 1) := by decide +kernel
theorem dX7_wagonAt_15 : decode cX7_wagonAt 15 = .ok (.getfield 15, 3) := by decide +kernel
theorem dX7_wagonAt_18 : decode cX7_wagonAt 18 = .ok (.iload_n 1, 1) := by decide +kernel
theorem dX7_wagonAt_19 : decode cX7_wagonAt 19 = .ok (.iaload, 1) := by decide +kernel
theorem dX7_wagonAt_20 : decode cX7_wagonAt 20 = .ok (.if_icmp .ge 7, 3) := by decide +kernel
theorem dX7_wagonAt_23 : decode cX7_wagonAt 23 = .ok (.iconst 1, 1) := by decide +kernel
theorem dX7_wagonAt_24 : decode cX7_wagonAt 24 = .ok (.goto 4, 3) := by decide +kernel
theorem dX7_wagonAt_27 : decode cX7_wagonAt 27 = .ok (.iconst 0, 1) := by decide +kernel
theorem dX7_wagonAt_28 : decode cX7_wagonAt 28 = .ok (.istore_n 3, 1) := by decide +kernel
theorem dX7_wagonAt_29 : decode cX7_wagonAt 29 = .ok (.iload_n 3, 1) := by decide +kernel
theorem dX7_wagonAt_30 : decode cX7_wagonAt 30 = .ok (.ifCond .eq 17, 3) := by decide +kernel
theorem dX7_wagonAt_33 : decode cX7_wagonAt 33 = .ok (.aload_n 0, 1) := by decide +kernel
theorem dX7_wagonAt_34 : decode cX7_wagonAt 34 = .ok (.getfield 11, 3) := by decide +kernel
theorem dX7_wagonAt_37 : decode cX7_wagonAt 37 = .ok (.bipush 10, 2) := by decide +kernel
theorem dX7_wagonAt_39 : decode cX7_wagonAt 39 = .ok (.iload_n 1, 1) := by decide +kernel
theorem dX7_wagonAt_40 : decode cX7_wagonAt 40 = .ok (.imul, 1) := by decide +kernel
theorem dX7_wagonAt_41 : decode cX7_wagonAt 41 = .ok (.iload_n 2, 1) := by decide +kernel
theorem dX7_wagonAt_42 : decode cX7_wagonAt 42 = .ok (.iadd, 1) := by decide +kernel
theorem dX7_wagonAt_43 : decode cX7_wagonAt 43 = .ok (.iaload, 1) := by decide +kernel
theorem dX7_wagonAt_44 : decode cX7_wagonAt 44 = .ok (.goto 5, 3) := by decide +kernel
theorem dX7_wagonAt_47 : decode cX7_wagonAt 47 = .ok (.bipush (-4), 2) := by decide +kernel
theorem dX7_wagonAt_49 : decode cX7_wagonAt 49 = .ok (.ireturn, 1) := by decide +kernel
set_option maxRecDepth 100000 in
set_option maxHeartbeats 4000000 in
theorem w_X7_wagonAt_start_j28 {p : Program} {l : Launch} {e : Env} {R : Room} {s : State} {m : MethodId} {args : Array Value} {below : List Frame} {meth : Method} {c : Code} {dC : Nat → ClassId} {dI : Nat → Nat → Nat} {cs : Nat → ClassId} {ad : Nat → Nat} {A : Nat → Prop} {D0 : Nat → Nat} {S' : SS} {r : Int32} (F : Fx p s m args meth c cX7_wagonAt 4 RX7 (some .int) dC dI cs A) (hR1 : 0 ≤ R.frames) (hR2 : 0 ≤ R.locals) (x1 : Int32) (x2 : Int32) (y0 : Int32) (S : SS) (h : f_X7_wagonAt_start_j28 x1 x2 y0 S = some (r, S')) : AW p l e R s m args below meth c dC dI cs ad A D0 (some (.int r)) S' 4 28 [(0, .ref (ad 11)), (1, .int x1), (2, .int x2)] [.int y0] S := by
  have hx := F.1.1
  have hb := F.1.2.1
  intro H locs ls w hl
  rw [f_X7_wagonAt_start_j28] at h
  refine lv_istore_n (pc := 28) (lv' := [(3, .int y0), (0, .ref (ad 11)), (1, .int x1), (2, .int x2)]) hx hb dX7_wagonAt_28 rfl hl (by decide) rfl (fun ls hl => ?_)
  refine lv_iload_n (pc := 29) hx hb dX7_wagonAt_29 rfl (lv_at hl 0 rfl) ?_
  refine lv_if_eq (pc := 30) (tgt := 47) hx hb dX7_wagonAt_30 (by decide) (fun q => ?_) (fun q => ?_)
  · have h := ite_t q h
    refine lv_bipush (pc := 47) (v := -4) hx hb dX7_wagonAt_47 (by decide) ?_
    exact s_iret F w h dX7_wagonAt_49
  · have h := ite_f q h
    refine lv_aload_n (pc := 33) hx hb dX7_wagonAt_33 rfl (lv_at hl 1 rfl) ?_
    refine s_getR (pc := 34) F w 62 ds_11 (j := 0) vc_X7 vi_X7 rfl (by decide) kf_X7_11 dX7_wagonAt_34 ?_
    refine lv_bipush (pc := 37) (v := 10) hx hb dX7_wagonAt_37 (by decide) ?_
    refine lv_iload_n (pc := 39) hx hb dX7_wagonAt_39 rfl (lv_at hl 2 rfl) ?_
    refine lv_imul (pc := 40) hx hb dX7_wagonAt_40 ?_
    refine lv_iload_n (pc := 41) hx hb dX7_wagonAt_41 rfl (lv_at hl 3 rfl) ?_
    refine lv_iadd (pc := 42) hx hb dX7_wagonAt_42 ?_
    refine s_iald (pc := 43) F w ds_62 h dX7_wagonAt_43 (fun h => ?_)
    refine lv_goto (pc := 44) (tgt := 49) hx hb dX7_wagonAt_44 (by decide) ?_
    exact s_iret F w h dX7_wagonAt_49
set_option maxRecDepth 100000 in
set_option maxHeartbeats 4000000 in
theorem w_X7_wagonAt_start_j27 {p : Program} {l : Launch} {e : Env} {R : Room} {s : State} {m : MethodId} {args : Array Value} {below : List Frame} {meth : Method} {c : Code} {dC : Nat → ClassId} {dI : Nat → Nat → Nat} {cs : Nat → ClassId} {ad : Nat → Nat} {A : Nat → Prop} {D0 : Nat → Nat} {S' : SS} {r : Int32} (F : Fx p s m args meth c cX7_wagonAt 4 RX7 (some .int) dC dI cs A) (hR1 : 0 ≤ R.frames) (hR2 : 0 ≤ R.locals) (x1 : Int32) (x2 : Int32) (S : SS) (h : f_X7_wagonAt_start_j27 x1 x2 S = some (r, S')) : AW p l e R s m args below meth c dC dI cs ad A D0 (some (.int r)) S' 4 27 [(0, .ref (ad 11)), (1, .int x1), (2, .int x2)] [] S := by
  have hx := F.1.1
  have hb := F.1.2.1
  intro H locs ls w hl
  rw [f_X7_wagonAt_start_j27] at h
  refine lv_iconst (pc := 27) (v := 0) hx hb dX7_wagonAt_27 (by decide) ?_
  exact w_X7_wagonAt_start_j28 F (Nat.le_trans (by decide) hR1) (Nat.le_trans (by decide) hR2) _ _ _ _ h _ _ _ w (lv_sub hl [0, 1, 2] rfl)
set_option maxRecDepth 100000 in
set_option maxHeartbeats 4000000 in
theorem m_X7_wagonAt_start (a1 : Int32) (a2 : Int32) (S S' : SS) (r : Int32) (h : f_X7_wagonAt_start a1 a2 S = some (r, S')) : MT yX7_wagonAt cX7_wagonAt 4 (some .int) 0 0 (fun ad => [.ref (ad 11), .int a1, .int a2]) S (some (.int r)) S' := by
  refine MT.of RX7 (fun ad => [(0, .ref (ad 11)), (1, .int a1), (2, .int a2)]) (by decide) rfl (fun _ => Nat.le_of_ble_eq_true rfl) (fun _ => rfl) ?_
  intro p l e R s m args below meth c dC dI cs ad A hR1 hR2 F H locs ls w hl
  have hx := F.1.1
  have hb := F.1.2.1
  rw [f_X7_wagonAt_start] at h
  refine lv_iload_n (pc := 0) hx hb dX7_wagonAt_0 rfl (lv_at hl 1 rfl) ?_
  refine lv_if_lt (pc := 1) (tgt := 27) hx hb dX7_wagonAt_1 (by decide) (fun q => ?_) (fun q => ?_)
  · have h := ite_t q h
    exact w_X7_wagonAt_start_j27 F (Nat.le_trans (by decide) hR1) (Nat.le_trans (by decide) hR2) _ _ _ h _ _ _ w (lv_sub hl [0, 1, 2] rfl)
  · have h := ite_f q h
    refine lv_iload_n (pc := 4) hx hb dX7_wagonAt_4 rfl (lv_at hl 1 rfl) ?_
    refine lv_iconst (pc := 5) (v := 4) hx hb dX7_wagonAt_5 (by decide) ?_
    refine lv_icmp_ge (pc := 6) (tgt := 27) hx hb dX7_wagonAt_6 (by decide) (fun q => ?_) (fun q => ?_)
    · have h := ite_t q h
      exact w_X7_wagonAt_start_j27 F (Nat.le_trans (by decide) hR1) (Nat.le_trans (by decide) hR2) _ _ _ h _ _ _ w (lv_sub hl [0, 1, 2] rfl)
    · have h := ite_f q h
      refine lv_iload_n (pc := 9) hx hb dX7_wagonAt_9 rfl (lv_at hl 2 rfl) ?_
      refine lv_if_lt (pc := 10) (tgt := 27) hx hb dX7_wagonAt_10 (by decide) (fun q => ?_) (fun q => ?_)
      · have h := ite_t q h
        exact w_X7_wagonAt_start_j27 F (Nat.le_trans (by decide) hR1) (Nat.le_trans (by decide) hR2) _ _ _ h _ _ _ w (lv_sub hl [0, 1, 2] rfl)
      · have h := ite_f q h
        refine lv_iload_n (pc := 13) hx hb dX7_wagonAt_13 rfl (lv_at hl 2 rfl) ?_
        refine lv_aload_n (pc := 14) hx hb dX7_wagonAt_14 rfl (lv_at hl 0 rfl) ?_
        refine s_getR (pc := 15) F w 63 ds_11 (j := 1) vc_X7 vi_X7 rfl (by decide) kf_X7_15 dX7_wagonAt_15 ?_
        refine lv_iload_n (pc := 18) hx hb dX7_wagonAt_18 rfl (lv_at hl 1 rfl) ?_
        refine s_iald (pc := 19) F w ds_63 h dX7_wagonAt_19 (fun h => ?_)
        refine lv_icmp_ge (pc := 20) (tgt := 27) hx hb dX7_wagonAt_20 (by decide) (fun q => ?_) (fun q => ?_)
        · have h := ite_t q h
          exact w_X7_wagonAt_start_j27 F (Nat.le_trans (by decide) hR1) (Nat.le_trans (by decide) hR2) _ _ _ h _ _ _ w (lv_sub hl [0, 1, 2] rfl)
        · have h := ite_f q h
          refine lv_iconst (pc := 23) (v := 1) hx hb dX7_wagonAt_23 (by decide) ?_
          refine lv_goto (pc := 24) (tgt := 28) hx hb dX7_wagonAt_24 (by decide) ?_
          exact w_X7_wagonAt_start_j28 F (Nat.le_trans (by decide) hR1) (Nat.le_trans (by decide) hR2) _ _ _ _ h _ _ _ w (lv_sub hl [0, 1, 2] rfl)
def f_X7_placeOn_start_L2  : Nat → Int32 → Int32 → Int32 → SS → Option (Int32 × SS)
  | 0, _, _, _, _ => none
  | n + 1, x1, x2, x3, S =>
    bnd (f_X7_height_start x1 S) (fun r2 S1 =>
    if r2 ≤ x3 then
      some ((-4 : Int32), S1)
    else
      bnd (f_X7_wagonAt_start x1 x3 S1) (fun r4 S3 =>
      if r4 = x2 then
        some (x3, S3)
      else
        nm (x3 + (1 : Int32)) (fun z5 =>
        f_X7_placeOn_start_L2 n x1 x2 z5 S3)))
def f_X7_placeOn_start (a1 : Int32) (a2 : Int32) (S : SS) : Option (Int32 × SS) :=
  f_X7_placeOn_start_L2 NF a1 a2 (0 : Int32) S
theorem dX7_placeOn_0 : decode cX7_placeOn 0 = .ok (.iconst 0, 1) := by decide +kernel
theorem dX7_placeOn_1 : decode cX7_placeOn 1 = .ok (.istore_n 3, 1) := by decide +kernel
theorem dX7_placeOn_2 : decode cX7_placeOn 2 = .ok (.iload_n 3, 1) := by decide +kernel
theorem dX7_placeOn_3 : decode cX7_placeOn 3 = .ok (.aload_n 0, 1) := by decide +kernel
theorem dX7_placeOn_4 : decode cX7_placeOn 4 = .ok (.iload_n 1, 1) := by decide +kernel
theorem dX7_placeOn_5 : decode cX7_placeOn 5 = .ok (.invokevirtual 30, 3) := by decide +kernel
theorem dX7_placeOn_8 : decode cX7_placeOn 8 = .ok (.if_icmp .ge 21, 3) := by decide +kernel
theorem dX7_placeOn_11 : decode cX7_placeOn 11 = .ok (.aload_n 0, 1) := by decide +kernel
theorem dX7_placeOn_12 : decode cX7_placeOn 12 = .ok (.iload_n 1, 1) := by decide +kernel
theorem dX7_placeOn_13 : decode cX7_placeOn 13 = .ok (.iload_n 3, 1) := by decide +kernel
theorem dX7_placeOn_14 : decode cX7_placeOn 14 = .ok (.invokevirtual 34, 3) := by decide +kernel
theorem dX7_placeOn_17 : decode cX7_placeOn 17 = .ok (.iload_n 2, 1) := by decide +kernel
theorem dX7_placeOn_18 : decode cX7_placeOn 18 = .ok (.if_icmp .ne 5, 3) := by decide +kernel
theorem dX7_placeOn_21 : decode cX7_placeOn 21 = .ok (.iload_n 3, 1) := by decide +kernel
theorem dX7_placeOn_22 : decode cX7_placeOn 22 = .ok (.ireturn, 1) := by decide +kernel
theorem dX7_placeOn_23 : decode cX7_placeOn 23 = .ok (.iinc 3 1, 3) := by decide +kernel
theorem dX7_placeOn_26 : decode cX7_placeOn 26 = .ok (.goto (-24), 3) := by decide +kernel
theorem dX7_placeOn_29 : decode cX7_placeOn 29 = .ok (.bipush (-4), 2) := by decide +kernel
theorem dX7_placeOn_31 : decode cX7_placeOn 31 = .ok (.ireturn, 1) := by decide +kernel
set_option maxRecDepth 100000 in
set_option maxHeartbeats 4000000 in
theorem w_X7_placeOn_start_L2 {p : Program} {l : Launch} {e : Env} {R : Room} {s : State} {m : MethodId} {args : Array Value} {below : List Frame} {meth : Method} {c : Code} {dC : Nat → ClassId} {dI : Nat → Nat → Nat} {cs : Nat → ClassId} {ad : Nat → Nat} {A : Nat → Prop} {D0 : Nat → Nat} {S' : SS} {r : Int32} (F : Fx p s m args meth c cX7_placeOn 4 RX7 (some .int) dC dI cs A) (hR1 : 1 ≤ R.frames) (hR2 : 23 ≤ R.locals) : ∀ (n : Nat) (x1 : Int32) (x2 : Int32) (x3 : Int32) (S : SS), f_X7_placeOn_start_L2 n x1 x2 x3 S = some (r, S') → AW p l e R s m args below meth c dC dI cs ad A D0 (some (.int r)) S' 4 2 [(0, .ref (ad 11)), (1, .int x1), (2, .int x2), (3, .int x3)] [] S := by
  have hx := F.1.1
  have hb := F.1.2.1
  intro n
  induction n with
  | zero => intro x1 x2 x3 S h; cases h
  | succ n ih =>
    intro x1 x2 x3 S h H locs ls w hl
    rw [f_X7_placeOn_start_L2] at h
    refine lv_iload_n (pc := 2) hx hb dX7_placeOn_2 rfl (lv_at hl 3 rfl) ?_
    refine lv_aload_n (pc := 3) hx hb dX7_placeOn_3 rfl (lv_at hl 0 rfl) ?_
    refine lv_iload_n (pc := 4) hx hb dX7_placeOn_4 rfl (lv_at hl 1 rfl) ?_
    obtain ⟨r2, S1, hc, h⟩ := bnd_t h
    refine s_cvi (pc := 5) [.int x1] (fun ad => [.ref (ad 11), .int x1]) F w (m_X7_height_start _ _ _ _ hc) rfl rfl hl.1 ds_11 vc_X7 rfl ok_X7_height rfl kc_X7_height kl_X7_30 ki_X7_height kv_X7_height kn_X7 ⟨Nat.le_trans (by decide) hR1, Nat.le_trans (by decide) hR2⟩ ⟨Nat.zero_le _, Nat.zero_le _⟩ (Nat.le_of_ble_eq_true rfl) dX7_placeOn_5 (fun H locs w => ?_)
    refine lv_icmp_ge (pc := 8) (tgt := 29) hx hb dX7_placeOn_8 (by decide) (fun q => ?_) (fun q => ?_)
    · have h := ite_t q h
      refine lv_bipush (pc := 29) (v := -4) hx hb dX7_placeOn_29 (by decide) ?_
      exact s_iret F w h dX7_placeOn_31
    · have h := ite_f q h
      refine lv_aload_n (pc := 11) hx hb dX7_placeOn_11 rfl (lv_at hl 0 rfl) ?_
      refine lv_iload_n (pc := 12) hx hb dX7_placeOn_12 rfl (lv_at hl 1 rfl) ?_
      refine lv_iload_n (pc := 13) hx hb dX7_placeOn_13 rfl (lv_at hl 3 rfl) ?_
      obtain ⟨r4, S3, hc, h⟩ := bnd_t h
      refine s_cvi (pc := 14) [.int x1, .int x3] (fun ad => [.ref (ad 11), .int x1, .int x3]) F w (m_X7_wagonAt_start _ _ _ _ _ hc) rfl rfl hl.1 ds_11 vc_X7 rfl ok_X7_wagonAt rfl kc_X7_wagonAt kl_X7_34 ki_X7_wagonAt kv_X7_wagonAt kn_X7 ⟨Nat.le_trans (by decide) hR1, Nat.le_trans (by decide) hR2⟩ ⟨Nat.zero_le _, Nat.zero_le _⟩ (Nat.le_of_ble_eq_true rfl) dX7_placeOn_14 (fun H locs w => ?_)
      refine lv_iload_n (pc := 17) hx hb dX7_placeOn_17 rfl (lv_at hl 2 rfl) ?_
      refine lv_icmp_ne (pc := 18) (tgt := 23) hx hb dX7_placeOn_18 (by decide) (fun q => ?_) (fun q => ?_)
      · have h := ite_f q h
        refine s_nm h (fun z5 ez5 h => ?_)
        refine lv_iinc (pc := 23) (v := z5) (lv' := [(3, .int z5), (0, .ref (ad 11)), (1, .int x1), (2, .int x2)]) hx hb dX7_placeOn_23 hl (k := 3) rfl (by rw [ez5]; rfl) (by decide) rfl (fun ls hl => ?_)
        refine lv_goto (pc := 26) (tgt := 2) hx hb dX7_placeOn_26 (by decide) ?_
        exact ih _ _ _ _ h _ _ _ w (lv_sub hl [1, 2, 3, 0] rfl)
      · have h := ite_t q h
        refine lv_iload_n (pc := 21) hx hb dX7_placeOn_21 rfl (lv_at hl 3 rfl) ?_
        exact s_iret F w h dX7_placeOn_22
set_option maxRecDepth 100000 in
set_option maxHeartbeats 4000000 in
theorem m_X7_placeOn_start (a1 : Int32) (a2 : Int32) (S S' : SS) (r : Int32) (h : f_X7_placeOn_start a1 a2 S = some (r, S')) : MT yX7_placeOn cX7_placeOn 4 (some .int) 1 23 (fun ad => [.ref (ad 11), .int a1, .int a2]) S (some (.int r)) S' := by
  refine MT.of RX7 (fun ad => [(0, .ref (ad 11)), (1, .int a1), (2, .int a2)]) (by decide) rfl (fun _ => Nat.le_of_ble_eq_true rfl) (fun _ => rfl) ?_
  intro p l e R s m args below meth c dC dI cs ad A hR1 hR2 F H locs ls w hl
  have hx := F.1.1
  have hb := F.1.2.1
  rw [f_X7_placeOn_start] at h
  refine lv_iconst (pc := 0) (v := 0) hx hb dX7_placeOn_0 (by decide) ?_
  refine lv_istore_n (pc := 1) (lv' := [(3, .int (0 : Int32)), (0, .ref (ad 11)), (1, .int a1), (2, .int a2)]) hx hb dX7_placeOn_1 rfl hl (by decide) rfl (fun ls hl => ?_)
  exact w_X7_placeOn_start_L2 F (Nat.le_trans (by decide) hR1) (Nat.le_trans (by decide) hR2) _ _ _ _ _ h _ _ _ w (lv_sub hl [1, 2, 3, 0] rfl)
def f_X7_stackOf_start_L2  : Nat → Int32 → Int32 → SS → Option (Int32 × SS)
  | 0, _, _, _ => none
  | n + 1, x1, x2, S =>
    if (4 : Int32) ≤ x2 then
      some ((-4 : Int32), S)
    else
      bnd (f_X7_placeOn_start x2 x1 S) (fun r2 S1 =>
      if r2 = (-4 : Int32) then
        nm (x2 + (1 : Int32)) (fun z3 =>
        f_X7_stackOf_start_L2 n x1 z3 S1)
      else
        some (x2, S1))
def f_X7_stackOf_start (a1 : Int32) (S : SS) : Option (Int32 × SS) :=
  f_X7_stackOf_start_L2 NF a1 (0 : Int32) S
theorem dX7_stackOf_0 : decode cX7_stackOf 0 = .ok (.iconst 0, 1) := by decide +kernel
theorem dX7_stackOf_1 : decode cX7_stackOf 1 = .ok (.istore_n 2, 1) := by decide +kernel
theorem dX7_stackOf_2 : decode cX7_stackOf 2 = .ok (.iload_n 2, 1) := by decide +kernel
theorem dX7_stackOf_3 : decode cX7_stackOf 3 = .ok (.iconst 4, 1) := by decide +kernel
theorem dX7_stackOf_4 : decode cX7_stackOf 4 = .ok (.if_icmp .ge 22, 3) := by decide +kernel
theorem dX7_stackOf_7 : decode cX7_stackOf 7 = .ok (.aload_n 0, 1) := by decide +kernel
theorem dX7_stackOf_8 : decode cX7_stackOf 8 = .ok (.iload_n 2, 1) := by decide +kernel
theorem dX7_stackOf_9 : decode cX7_stackOf 9 = .ok (.iload_n 1, 1) := by decide +kernel
theorem dX7_stackOf_10 : decode cX7_stackOf 10 = .ok (.invokevirtual 38, 3) := by decide +kernel
theorem dX7_stackOf_13 : decode cX7_stackOf 13 = .ok (.bipush (-4), 2) := by decide +kernel
theorem dX7_stackOf_15 : decode cX7_stackOf 15 = .ok (.if_icmp .eq 5, 3) := by decide +kernel
theorem dX7_stackOf_18 : decode cX7_stackOf 18 = .ok (.iload_n 2, 1) := by decide +kernel
theorem dX7_stackOf_19 : decode cX7_stackOf 19 = .ok (.ireturn, 1) := by decide +kernel
theorem dX7_stackOf_20 : decode cX7_stackOf 20 = .ok (.iinc 2 1, 3) := by decide +kernel
theorem dX7_stackOf_23 : decode cX7_stackOf 23 = .ok (.goto (-21), 3) := by decide +kernel
theorem dX7_stackOf_26 : decode cX7_stackOf 26 = .ok (.bipush (-4), 2) := by decide +kernel
theorem dX7_stackOf_28 : decode cX7_stackOf 28 = .ok (.ireturn, 1) := by decide +kernel
set_option maxRecDepth 100000 in
set_option maxHeartbeats 4000000 in
theorem w_X7_stackOf_start_L2 {p : Program} {l : Launch} {e : Env} {R : Room} {s : State} {m : MethodId} {args : Array Value} {below : List Frame} {meth : Method} {c : Code} {dC : Nat → ClassId} {dI : Nat → Nat → Nat} {cs : Nat → ClassId} {ad : Nat → Nat} {A : Nat → Prop} {D0 : Nat → Nat} {S' : SS} {r : Int32} (F : Fx p s m args meth c cX7_stackOf 3 RX7 (some .int) dC dI cs A) (hR1 : 2 ≤ R.frames) (hR2 : 46 ≤ R.locals) : ∀ (n : Nat) (x1 : Int32) (x2 : Int32) (S : SS), f_X7_stackOf_start_L2 n x1 x2 S = some (r, S') → AW p l e R s m args below meth c dC dI cs ad A D0 (some (.int r)) S' 3 2 [(0, .ref (ad 11)), (1, .int x1), (2, .int x2)] [] S := by
  have hx := F.1.1
  have hb := F.1.2.1
  intro n
  induction n with
  | zero => intro x1 x2 S h; cases h
  | succ n ih =>
    intro x1 x2 S h H locs ls w hl
    rw [f_X7_stackOf_start_L2] at h
    refine lv_iload_n (pc := 2) hx hb dX7_stackOf_2 rfl (lv_at hl 2 rfl) ?_
    refine lv_iconst (pc := 3) (v := 4) hx hb dX7_stackOf_3 (by decide) ?_
    refine lv_icmp_ge (pc := 4) (tgt := 26) hx hb dX7_stackOf_4 (by decide) (fun q => ?_) (fun q => ?_)
    · have h := ite_t q h
      refine lv_bipush (pc := 26) (v := -4) hx hb dX7_stackOf_26 (by decide) ?_
      exact s_iret F w h dX7_stackOf_28
    · have h := ite_f q h
      refine lv_aload_n (pc := 7) hx hb dX7_stackOf_7 rfl (lv_at hl 0 rfl) ?_
      refine lv_iload_n (pc := 8) hx hb dX7_stackOf_8 rfl (lv_at hl 2 rfl) ?_
      refine lv_iload_n (pc := 9) hx hb dX7_stackOf_9 rfl (lv_at hl 1 rfl) ?_
      obtain ⟨r2, S1, hc, h⟩ := bnd_t h
      refine s_cvi (pc := 10) [.int x2, .int x1] (fun ad => [.ref (ad 11), .int x2, .int x1]) F w (m_X7_placeOn_start _ _ _ _ _ hc) rfl rfl hl.1 ds_11 vc_X7 rfl ok_X7_placeOn rfl kc_X7_placeOn kl_X7_38 ki_X7_placeOn kv_X7_placeOn kn_X7 ⟨Nat.le_trans (by decide) hR1, Nat.le_trans (by decide) hR2⟩ ⟨Nat.zero_le _, Nat.zero_le _⟩ (Nat.le_of_ble_eq_true rfl) dX7_stackOf_10 (fun H locs w => ?_)
      refine lv_bipush (pc := 13) (v := -4) hx hb dX7_stackOf_13 (by decide) ?_
      refine lv_icmp_eq (pc := 15) (tgt := 20) hx hb dX7_stackOf_15 (by decide) (fun q => ?_) (fun q => ?_)
      · have h := ite_t q h
        refine s_nm h (fun z3 ez3 h => ?_)
        refine lv_iinc (pc := 20) (v := z3) (lv' := [(2, .int z3), (0, .ref (ad 11)), (1, .int x1)]) hx hb dX7_stackOf_20 hl (k := 2) rfl (by rw [ez3]; rfl) (by decide) rfl (fun ls hl => ?_)
        refine lv_goto (pc := 23) (tgt := 2) hx hb dX7_stackOf_23 (by decide) ?_
        exact ih _ _ _ h _ _ _ w (lv_sub hl [1, 2, 0] rfl)
      · have h := ite_f q h
        refine lv_iload_n (pc := 18) hx hb dX7_stackOf_18 rfl (lv_at hl 2 rfl) ?_
        exact s_iret F w h dX7_stackOf_19
set_option maxRecDepth 100000 in
set_option maxHeartbeats 4000000 in
theorem m_X7_stackOf_start (a1 : Int32) (S S' : SS) (r : Int32) (h : f_X7_stackOf_start a1 S = some (r, S')) : MT yX7_stackOf cX7_stackOf 3 (some .int) 2 46 (fun ad => [.ref (ad 11), .int a1]) S (some (.int r)) S' := by
  refine MT.of RX7 (fun ad => [(0, .ref (ad 11)), (1, .int a1)]) (by decide) rfl (fun _ => Nat.le_of_ble_eq_true rfl) (fun _ => rfl) ?_
  intro p l e R s m args below meth c dC dI cs ad A hR1 hR2 F H locs ls w hl
  have hx := F.1.1
  have hb := F.1.2.1
  rw [f_X7_stackOf_start] at h
  refine lv_iconst (pc := 0) (v := 0) hx hb dX7_stackOf_0 (by decide) ?_
  refine lv_istore_n (pc := 1) (lv' := [(2, .int (0 : Int32)), (0, .ref (ad 11)), (1, .int a1)]) hx hb dX7_stackOf_1 rfl hl (by decide) rfl (fun ls hl => ?_)
  exact w_X7_stackOf_start_L2 F (Nat.le_trans (by decide) hR1) (Nat.le_trans (by decide) hR2) _ _ _ _ h _ _ _ w (lv_sub hl [1, 2, 0] rfl)
def f_X7_put_start (a1 : Int32) (a2 : Int32) (S : SS) : Option (SS) :=
  if a1 < 0 then
    some S
  else
    if (4 : Int32) ≤ a1 then
      some S
    else
      grd (inb a1 4) (
      if (10 : Int32) ≤ (S.1 63 a1.toNatClampNeg) then
        some S
      else
        grd (inb a1 4) (
        grd (inb (((10 : Int32) * a1) + (S.1 63 a1.toNatClampNeg)) 40) (wr S 62 (((10 : Int32) * a1) + (S.1 63 a1.toNatClampNeg)).toNatClampNeg a2 (fun S1 =>
        grd (inb a1 4) (
        grd (inb a1 4) (wr S1 63 a1.toNatClampNeg ((S1.1 63 a1.toNatClampNeg) + (1 : Int32)) (fun S2 =>
        some S2)))))))
theorem dX7_put_0 : decode cX7_put 0 = .ok (.iload_n 1, 1) := by decide +kernel
theorem dX7_put_1 : decode cX7_put 1 = .ok (.ifCond .lt 46, 3) := by decide +kernel
theorem dX7_put_4 : decode cX7_put 4 = .ok (.iload_n 1, 1) := by decide +kernel
theorem dX7_put_5 : decode cX7_put 5 = .ok (.iconst 4, 1) := by decide +kernel
theorem dX7_put_6 : decode cX7_put 6 = .ok (.if_icmp .ge 41, 3) := by decide +kernel
theorem dX7_put_9 : decode cX7_put 9 = .ok (.aload_n 0, 1) := by decide +kernel
theorem dX7_put_10 : decode cX7_put 10 = .ok (.getfield 15, 3) := by decide +kernel
theorem dX7_put_13 : decode cX7_put 13 = .ok (.iload_n 1, 1) := by decide +kernel
theorem dX7_put_14 : decode cX7_put 14 = .ok (.iaload, 1) := by decide +kernel
theorem dX7_put_15 : decode cX7_put 15 = .ok (.bipush 10, 2) := by decide +kernel
theorem dX7_put_17 : decode cX7_put 17 = .ok (.if_icmp .ge 30, 3) := by decide +kernel
theorem dX7_put_20 : decode cX7_put 20 = .ok (.aload_n 0, 1) := by decide +kernel
theorem dX7_put_21 : decode cX7_put 21 = .ok (.getfield 11, 3) := by decide +kernel
theorem dX7_put_24 : decode cX7_put 24 = .ok (.bipush 10, 2) := by decide +kernel
theorem dX7_put_26 : decode cX7_put 26 = .ok (.iload_n 1, 1) := by decide +kernel
theorem dX7_put_27 : decode cX7_put 27 = .ok (.imul, 1) := by decide +kernel
theorem dX7_put_28 : decode cX7_put 28 = .ok (.aload_n 0, 1) := by decide +kernel
theorem dX7_put_29 : decode cX7_put 29 = .ok (.getfield 15, 3) := by decide +kernel
theorem dX7_put_32 : decode cX7_put 32 = .ok (.iload_n 1, 1) := by decide +kernel
theorem dX7_put_33 : decode cX7_put 33 = .ok (.iaload, 1) := by decide +kernel
theorem dX7_put_34 : decode cX7_put 34 = .ok (.iadd, 1) := by decide +kernel
theorem dX7_put_35 : decode cX7_put 35 = .ok (.iload_n 2, 1) := by decide +kernel
theorem dX7_put_36 : decode cX7_put 36 = .ok (.iastore, 1) := by decide +kernel
theorem dX7_put_37 : decode cX7_put 37 = .ok (.aload_n 0, 1) := by decide +kernel
theorem dX7_put_38 : decode cX7_put 38 = .ok (.getfield 15, 3) := by decide +kernel
theorem dX7_put_41 : decode cX7_put 41 = .ok (.iload_n 1, 1) := by decide +kernel
theorem dX7_put_42 : decode cX7_put 42 = .ok (.dup2, 1) := by decide +kernel
theorem dX7_put_43 : decode cX7_put 43 = .ok (.iaload, 1) := by decide +kernel
theorem dX7_put_44 : decode cX7_put 44 = .ok (.iconst 1, 1) := by decide +kernel
theorem dX7_put_45 : decode cX7_put 45 = .ok (.iadd, 1) := by decide +kernel
theorem dX7_put_46 : decode cX7_put 46 = .ok (.iastore, 1) := by decide +kernel
theorem dX7_put_47 : decode cX7_put 47 = .ok (.return_, 1) := by decide +kernel
set_option maxRecDepth 100000 in
set_option maxHeartbeats 4000000 in
theorem m_X7_put_start (a1 : Int32) (a2 : Int32) (S S' : SS) (h : f_X7_put_start a1 a2 S = some S') : MT yX7_put cX7_put 3 none 0 0 (fun ad => [.ref (ad 11), .int a1, .int a2]) S none S' := by
  refine MT.of RX7 (fun ad => [(0, .ref (ad 11)), (1, .int a1), (2, .int a2)]) (by decide) rfl (fun _ => Nat.le_of_ble_eq_true rfl) (fun _ => rfl) ?_
  intro p l e R s m args below meth c dC dI cs ad A hR1 hR2 F H locs ls w hl
  have hx := F.1.1
  have hb := F.1.2.1
  rw [f_X7_put_start] at h
  refine lv_iload_n (pc := 0) hx hb dX7_put_0 rfl (lv_at hl 1 rfl) ?_
  refine lv_if_lt (pc := 1) (tgt := 47) hx hb dX7_put_1 (by decide) (fun q => ?_) (fun q => ?_)
  · have h := ite_t q h
    exact s_vret F w h dX7_put_47
  · have h := ite_f q h
    refine lv_iload_n (pc := 4) hx hb dX7_put_4 rfl (lv_at hl 1 rfl) ?_
    refine lv_iconst (pc := 5) (v := 4) hx hb dX7_put_5 (by decide) ?_
    refine lv_icmp_ge (pc := 6) (tgt := 47) hx hb dX7_put_6 (by decide) (fun q => ?_) (fun q => ?_)
    · have h := ite_t q h
      exact s_vret F w h dX7_put_47
    · have h := ite_f q h
      refine lv_aload_n (pc := 9) hx hb dX7_put_9 rfl (lv_at hl 0 rfl) ?_
      refine s_getR (pc := 10) F w 63 ds_11 (j := 1) vc_X7 vi_X7 rfl (by decide) kf_X7_15 dX7_put_10 ?_
      refine lv_iload_n (pc := 13) hx hb dX7_put_13 rfl (lv_at hl 1 rfl) ?_
      refine s_iald (pc := 14) F w ds_63 h dX7_put_14 (fun h => ?_)
      refine lv_bipush (pc := 15) (v := 10) hx hb dX7_put_15 (by decide) ?_
      refine lv_icmp_ge (pc := 17) (tgt := 47) hx hb dX7_put_17 (by decide) (fun q => ?_) (fun q => ?_)
      · have h := ite_t q h
        exact s_vret F w h dX7_put_47
      · have h := ite_f q h
        refine lv_aload_n (pc := 20) hx hb dX7_put_20 rfl (lv_at hl 0 rfl) ?_
        refine s_getR (pc := 21) F w 62 ds_11 (j := 0) vc_X7 vi_X7 rfl (by decide) kf_X7_11 dX7_put_21 ?_
        refine lv_bipush (pc := 24) (v := 10) hx hb dX7_put_24 (by decide) ?_
        refine lv_iload_n (pc := 26) hx hb dX7_put_26 rfl (lv_at hl 1 rfl) ?_
        refine lv_imul (pc := 27) hx hb dX7_put_27 ?_
        refine lv_aload_n (pc := 28) hx hb dX7_put_28 rfl (lv_at hl 0 rfl) ?_
        refine s_getR (pc := 29) F w 63 ds_11 (j := 1) vc_X7 vi_X7 rfl (by decide) kf_X7_15 dX7_put_29 ?_
        refine lv_iload_n (pc := 32) hx hb dX7_put_32 rfl (lv_at hl 1 rfl) ?_
        refine s_iald (pc := 33) F w ds_63 h dX7_put_33 (fun h => ?_)
        refine lv_iadd (pc := 34) hx hb dX7_put_34 ?_
        refine lv_iload_n (pc := 35) hx hb dX7_put_35 rfl (lv_at hl 2 rfl) ?_
        refine s_iast (pc := 36) F w ds_62 h dX7_put_36 (fun S1 H locs h w => ?_)
        refine lv_aload_n (pc := 37) hx hb dX7_put_37 rfl (lv_at hl 0 rfl) ?_
        refine s_getR (pc := 38) F w 63 ds_11 (j := 1) vc_X7 vi_X7 rfl (by decide) kf_X7_15 dX7_put_38 ?_
        refine lv_iload_n (pc := 41) hx hb dX7_put_41 rfl (lv_at hl 1 rfl) ?_
        refine lv_dup2_11 (pc := 42) hx hb dX7_put_42 rfl rfl ?_
        refine s_iald (pc := 43) F w ds_63 h dX7_put_43 (fun h => ?_)
        refine lv_iconst (pc := 44) (v := 1) hx hb dX7_put_44 (by decide) ?_
        refine lv_iadd (pc := 45) hx hb dX7_put_45 ?_
        refine s_iast (pc := 46) F w ds_63 h dX7_put_46 (fun S2 H locs h w => ?_)
        exact s_vret F w h dX7_put_47
def f_X7_wagonAt_goal_j28  (x1 : Int32) (x2 : Int32) (y0 : Int32) (S : SS) : Option (Int32 × SS) :=
    if y0 = 0 then
      some ((-4 : Int32), S)
    else
      grd (inb (((10 : Int32) * x1) + x2) 40) (
      some (S.1 64 (((10 : Int32) * x1) + x2).toNatClampNeg, S))
def f_X7_wagonAt_goal_j27  (x1 : Int32) (x2 : Int32) (S : SS) : Option (Int32 × SS) :=
    f_X7_wagonAt_goal_j28 x1 x2 (0 : Int32) S
def f_X7_wagonAt_goal (a1 : Int32) (a2 : Int32) (S : SS) : Option (Int32 × SS) :=
  if a1 < 0 then
    f_X7_wagonAt_goal_j27 a1 a2 S
  else
    if (4 : Int32) ≤ a1 then
      f_X7_wagonAt_goal_j27 a1 a2 S
    else
      if a2 < 0 then
        f_X7_wagonAt_goal_j27 a1 a2 S
      else
        grd (inb a1 4) (
        if (S.1 65 a1.toNatClampNeg) ≤ a2 then
          f_X7_wagonAt_goal_j27 a1 a2 S
        else
          f_X7_wagonAt_goal_j28 a1 a2 (1 : Int32) S)
set_option maxRecDepth 100000 in
set_option maxHeartbeats 4000000 in
theorem w_X7_wagonAt_goal_j28 {p : Program} {l : Launch} {e : Env} {R : Room} {s : State} {m : MethodId} {args : Array Value} {below : List Frame} {meth : Method} {c : Code} {dC : Nat → ClassId} {dI : Nat → Nat → Nat} {cs : Nat → ClassId} {ad : Nat → Nat} {A : Nat → Prop} {D0 : Nat → Nat} {S' : SS} {r : Int32} (F : Fx p s m args meth c cX7_wagonAt 4 RX7 (some .int) dC dI cs A) (hR1 : 0 ≤ R.frames) (hR2 : 0 ≤ R.locals) (x1 : Int32) (x2 : Int32) (y0 : Int32) (S : SS) (h : f_X7_wagonAt_goal_j28 x1 x2 y0 S = some (r, S')) : AW p l e R s m args below meth c dC dI cs ad A D0 (some (.int r)) S' 4 28 [(0, .ref (ad 12)), (1, .int x1), (2, .int x2)] [.int y0] S := by
  have hx := F.1.1
  have hb := F.1.2.1
  intro H locs ls w hl
  rw [f_X7_wagonAt_goal_j28] at h
  refine lv_istore_n (pc := 28) (lv' := [(3, .int y0), (0, .ref (ad 12)), (1, .int x1), (2, .int x2)]) hx hb dX7_wagonAt_28 rfl hl (by decide) rfl (fun ls hl => ?_)
  refine lv_iload_n (pc := 29) hx hb dX7_wagonAt_29 rfl (lv_at hl 0 rfl) ?_
  refine lv_if_eq (pc := 30) (tgt := 47) hx hb dX7_wagonAt_30 (by decide) (fun q => ?_) (fun q => ?_)
  · have h := ite_t q h
    refine lv_bipush (pc := 47) (v := -4) hx hb dX7_wagonAt_47 (by decide) ?_
    exact s_iret F w h dX7_wagonAt_49
  · have h := ite_f q h
    refine lv_aload_n (pc := 33) hx hb dX7_wagonAt_33 rfl (lv_at hl 1 rfl) ?_
    refine s_getR (pc := 34) F w 64 ds_12 (j := 0) vc_X7 vi_X7 rfl (by decide) kf_X7_11 dX7_wagonAt_34 ?_
    refine lv_bipush (pc := 37) (v := 10) hx hb dX7_wagonAt_37 (by decide) ?_
    refine lv_iload_n (pc := 39) hx hb dX7_wagonAt_39 rfl (lv_at hl 2 rfl) ?_
    refine lv_imul (pc := 40) hx hb dX7_wagonAt_40 ?_
    refine lv_iload_n (pc := 41) hx hb dX7_wagonAt_41 rfl (lv_at hl 3 rfl) ?_
    refine lv_iadd (pc := 42) hx hb dX7_wagonAt_42 ?_
    refine s_iald (pc := 43) F w ds_64 h dX7_wagonAt_43 (fun h => ?_)
    refine lv_goto (pc := 44) (tgt := 49) hx hb dX7_wagonAt_44 (by decide) ?_
    exact s_iret F w h dX7_wagonAt_49
set_option maxRecDepth 100000 in
set_option maxHeartbeats 4000000 in
theorem w_X7_wagonAt_goal_j27 {p : Program} {l : Launch} {e : Env} {R : Room} {s : State} {m : MethodId} {args : Array Value} {below : List Frame} {meth : Method} {c : Code} {dC : Nat → ClassId} {dI : Nat → Nat → Nat} {cs : Nat → ClassId} {ad : Nat → Nat} {A : Nat → Prop} {D0 : Nat → Nat} {S' : SS} {r : Int32} (F : Fx p s m args meth c cX7_wagonAt 4 RX7 (some .int) dC dI cs A) (hR1 : 0 ≤ R.frames) (hR2 : 0 ≤ R.locals) (x1 : Int32) (x2 : Int32) (S : SS) (h : f_X7_wagonAt_goal_j27 x1 x2 S = some (r, S')) : AW p l e R s m args below meth c dC dI cs ad A D0 (some (.int r)) S' 4 27 [(0, .ref (ad 12)), (1, .int x1), (2, .int x2)] [] S := by
  have hx := F.1.1
  have hb := F.1.2.1
  intro H locs ls w hl
  rw [f_X7_wagonAt_goal_j27] at h
  refine lv_iconst (pc := 27) (v := 0) hx hb dX7_wagonAt_27 (by decide) ?_
  exact w_X7_wagonAt_goal_j28 F (Nat.le_trans (by decide) hR1) (Nat.le_trans (by decide) hR2) _ _ _ _ h _ _ _ w (lv_sub hl [0, 1, 2] rfl)
set_option maxRecDepth 100000 in
set_option maxHeartbeats 4000000 in
theorem m_X7_wagonAt_goal (a1 : Int32) (a2 : Int32) (S S' : SS) (r : Int32) (h : f_X7_wagonAt_goal a1 a2 S = some (r, S')) : MT yX7_wagonAt cX7_wagonAt 4 (some .int) 0 0 (fun ad => [.ref (ad 12), .int a1, .int a2]) S (some (.int r)) S' := by
  refine MT.of RX7 (fun ad => [(0, .ref (ad 12)), (1, .int a1), (2, .int a2)]) (by decide) rfl (fun _ => Nat.le_of_ble_eq_true rfl) (fun _ => rfl) ?_
  intro p l e R s m args below meth c dC dI cs ad A hR1 hR2 F H locs ls w hl
  have hx := F.1.1
  have hb := F.1.2.1
  rw [f_X7_wagonAt_goal] at h
  refine lv_iload_n (pc := 0) hx hb dX7_wagonAt_0 rfl (lv_at hl 1 rfl) ?_
  refine lv_if_lt (pc := 1) (tgt := 27) hx hb dX7_wagonAt_1 (by decide) (fun q => ?_) (fun q => ?_)
  · have h := ite_t q h
    exact w_X7_wagonAt_goal_j27 F (Nat.le_trans (by decide) hR1) (Nat.le_trans (by decide) hR2) _ _ _ h _ _ _ w (lv_sub hl [0, 1, 2] rfl)
  · have h := ite_f q h
    refine lv_iload_n (pc := 4) hx hb dX7_wagonAt_4 rfl (lv_at hl 1 rfl) ?_
    refine lv_iconst (pc := 5) (v := 4) hx hb dX7_wagonAt_5 (by decide) ?_
    refine lv_icmp_ge (pc := 6) (tgt := 27) hx hb dX7_wagonAt_6 (by decide) (fun q => ?_) (fun q => ?_)
    · have h := ite_t q h
      exact w_X7_wagonAt_goal_j27 F (Nat.le_trans (by decide) hR1) (Nat.le_trans (by decide) hR2) _ _ _ h _ _ _ w (lv_sub hl [0, 1, 2] rfl)
    · have h := ite_f q h
      refine lv_iload_n (pc := 9) hx hb dX7_wagonAt_9 rfl (lv_at hl 2 rfl) ?_
      refine lv_if_lt (pc := 10) (tgt := 27) hx hb dX7_wagonAt_10 (by decide) (fun q => ?_) (fun q => ?_)
      · have h := ite_t q h
        exact w_X7_wagonAt_goal_j27 F (Nat.le_trans (by decide) hR1) (Nat.le_trans (by decide) hR2) _ _ _ h _ _ _ w (lv_sub hl [0, 1, 2] rfl)
      · have h := ite_f q h
        refine lv_iload_n (pc := 13) hx hb dX7_wagonAt_13 rfl (lv_at hl 2 rfl) ?_
        refine lv_aload_n (pc := 14) hx hb dX7_wagonAt_14 rfl (lv_at hl 0 rfl) ?_
        refine s_getR (pc := 15) F w 65 ds_12 (j := 1) vc_X7 vi_X7 rfl (by decide) kf_X7_15 dX7_wagonAt_15 ?_
        refine lv_iload_n (pc := 18) hx hb dX7_wagonAt_18 rfl (lv_at hl 1 rfl) ?_
        refine s_iald (pc := 19) F w ds_65 h dX7_wagonAt_19 (fun h => ?_)
        refine lv_icmp_ge (pc := 20) (tgt := 27) hx hb dX7_wagonAt_20 (by decide) (fun q => ?_) (fun q => ?_)
        · have h := ite_t q h
          exact w_X7_wagonAt_goal_j27 F (Nat.le_trans (by decide) hR1) (Nat.le_trans (by decide) hR2) _ _ _ h _ _ _ w (lv_sub hl [0, 1, 2] rfl)
        · have h := ite_f q h
          refine lv_iconst (pc := 23) (v := 1) hx hb dX7_wagonAt_23 (by decide) ?_
          refine lv_goto (pc := 24) (tgt := 28) hx hb dX7_wagonAt_24 (by decide) ?_
          exact w_X7_wagonAt_goal_j28 F (Nat.le_trans (by decide) hR1) (Nat.le_trans (by decide) hR2) _ _ _ _ h _ _ _ w (lv_sub hl [0, 1, 2] rfl)
def f_X7_placeOn_goal_L2  : Nat → Int32 → Int32 → Int32 → SS → Option (Int32 × SS)
  | 0, _, _, _, _ => none
  | n + 1, x1, x2, x3, S =>
    bnd (f_X7_height_goal x1 S) (fun r2 S1 =>
    if r2 ≤ x3 then
      some ((-4 : Int32), S1)
    else
      bnd (f_X7_wagonAt_goal x1 x3 S1) (fun r4 S3 =>
      if r4 = x2 then
        some (x3, S3)
      else
        nm (x3 + (1 : Int32)) (fun z5 =>
        f_X7_placeOn_goal_L2 n x1 x2 z5 S3)))
def f_X7_placeOn_goal (a1 : Int32) (a2 : Int32) (S : SS) : Option (Int32 × SS) :=
  f_X7_placeOn_goal_L2 NF a1 a2 (0 : Int32) S
set_option maxRecDepth 100000 in
set_option maxHeartbeats 4000000 in
theorem w_X7_placeOn_goal_L2 {p : Program} {l : Launch} {e : Env} {R : Room} {s : State} {m : MethodId} {args : Array Value} {below : List Frame} {meth : Method} {c : Code} {dC : Nat → ClassId} {dI : Nat → Nat → Nat} {cs : Nat → ClassId} {ad : Nat → Nat} {A : Nat → Prop} {D0 : Nat → Nat} {S' : SS} {r : Int32} (F : Fx p s m args meth c cX7_placeOn 4 RX7 (some .int) dC dI cs A) (hR1 : 1 ≤ R.frames) (hR2 : 23 ≤ R.locals) : ∀ (n : Nat) (x1 : Int32) (x2 : Int32) (x3 : Int32) (S : SS), f_X7_placeOn_goal_L2 n x1 x2 x3 S = some (r, S') → AW p l e R s m args below meth c dC dI cs ad A D0 (some (.int r)) S' 4 2 [(0, .ref (ad 12)), (1, .int x1), (2, .int x2), (3, .int x3)] [] S := by
  have hx := F.1.1
  have hb := F.1.2.1
  intro n
  induction n with
  | zero => intro x1 x2 x3 S h; cases h
  | succ n ih =>
    intro x1 x2 x3 S h H locs ls w hl
    rw [f_X7_placeOn_goal_L2] at h
    refine lv_iload_n (pc := 2) hx hb dX7_placeOn_2 rfl (lv_at hl 3 rfl) ?_
    refine lv_aload_n (pc := 3) hx hb dX7_placeOn_3 rfl (lv_at hl 0 rfl) ?_
    refine lv_iload_n (pc := 4) hx hb dX7_placeOn_4 rfl (lv_at hl 1 rfl) ?_
    obtain ⟨r2, S1, hc, h⟩ := bnd_t h
    refine s_cvi (pc := 5) [.int x1] (fun ad => [.ref (ad 12), .int x1]) F w (m_X7_height_goal _ _ _ _ hc) rfl rfl hl.1 ds_12 vc_X7 rfl ok_X7_height rfl kc_X7_height kl_X7_30 ki_X7_height kv_X7_height kn_X7 ⟨Nat.le_trans (by decide) hR1, Nat.le_trans (by decide) hR2⟩ ⟨Nat.zero_le _, Nat.zero_le _⟩ (Nat.le_of_ble_eq_true rfl) dX7_placeOn_5 (fun H locs w => ?_)
    refine lv_icmp_ge (pc := 8) (tgt := 29) hx hb dX7_placeOn_8 (by decide) (fun q => ?_) (fun q => ?_)
    · have h := ite_t q h
      refine lv_bipush (pc := 29) (v := -4) hx hb dX7_placeOn_29 (by decide) ?_
      exact s_iret F w h dX7_placeOn_31
    · have h := ite_f q h
      refine lv_aload_n (pc := 11) hx hb dX7_placeOn_11 rfl (lv_at hl 0 rfl) ?_
      refine lv_iload_n (pc := 12) hx hb dX7_placeOn_12 rfl (lv_at hl 1 rfl) ?_
      refine lv_iload_n (pc := 13) hx hb dX7_placeOn_13 rfl (lv_at hl 3 rfl) ?_
      obtain ⟨r4, S3, hc, h⟩ := bnd_t h
      refine s_cvi (pc := 14) [.int x1, .int x3] (fun ad => [.ref (ad 12), .int x1, .int x3]) F w (m_X7_wagonAt_goal _ _ _ _ _ hc) rfl rfl hl.1 ds_12 vc_X7 rfl ok_X7_wagonAt rfl kc_X7_wagonAt kl_X7_34 ki_X7_wagonAt kv_X7_wagonAt kn_X7 ⟨Nat.le_trans (by decide) hR1, Nat.le_trans (by decide) hR2⟩ ⟨Nat.zero_le _, Nat.zero_le _⟩ (Nat.le_of_ble_eq_true rfl) dX7_placeOn_14 (fun H locs w => ?_)
      refine lv_iload_n (pc := 17) hx hb dX7_placeOn_17 rfl (lv_at hl 2 rfl) ?_
      refine lv_icmp_ne (pc := 18) (tgt := 23) hx hb dX7_placeOn_18 (by decide) (fun q => ?_) (fun q => ?_)
      · have h := ite_f q h
        refine s_nm h (fun z5 ez5 h => ?_)
        refine lv_iinc (pc := 23) (v := z5) (lv' := [(3, .int z5), (0, .ref (ad 12)), (1, .int x1), (2, .int x2)]) hx hb dX7_placeOn_23 hl (k := 3) rfl (by rw [ez5]; rfl) (by decide) rfl (fun ls hl => ?_)
        refine lv_goto (pc := 26) (tgt := 2) hx hb dX7_placeOn_26 (by decide) ?_
        exact ih _ _ _ _ h _ _ _ w (lv_sub hl [1, 2, 3, 0] rfl)
      · have h := ite_t q h
        refine lv_iload_n (pc := 21) hx hb dX7_placeOn_21 rfl (lv_at hl 3 rfl) ?_
        exact s_iret F w h dX7_placeOn_22
set_option maxRecDepth 100000 in
set_option maxHeartbeats 4000000 in
theorem m_X7_placeOn_goal (a1 : Int32) (a2 : Int32) (S S' : SS) (r : Int32) (h : f_X7_placeOn_goal a1 a2 S = some (r, S')) : MT yX7_placeOn cX7_placeOn 4 (some .int) 1 23 (fun ad => [.ref (ad 12), .int a1, .int a2]) S (some (.int r)) S' := by
  refine MT.of RX7 (fun ad => [(0, .ref (ad 12)), (1, .int a1), (2, .int a2)]) (by decide) rfl (fun _ => Nat.le_of_ble_eq_true rfl) (fun _ => rfl) ?_
  intro p l e R s m args below meth c dC dI cs ad A hR1 hR2 F H locs ls w hl
  have hx := F.1.1
  have hb := F.1.2.1
  rw [f_X7_placeOn_goal] at h
  refine lv_iconst (pc := 0) (v := 0) hx hb dX7_placeOn_0 (by decide) ?_
  refine lv_istore_n (pc := 1) (lv' := [(3, .int (0 : Int32)), (0, .ref (ad 12)), (1, .int a1), (2, .int a2)]) hx hb dX7_placeOn_1 rfl hl (by decide) rfl (fun ls hl => ?_)
  exact w_X7_placeOn_goal_L2 F (Nat.le_trans (by decide) hR1) (Nat.le_trans (by decide) hR2) _ _ _ _ _ h _ _ _ w (lv_sub hl [1, 2, 3, 0] rfl)
def f_X7_stackOf_goal_L2  : Nat → Int32 → Int32 → SS → Option (Int32 × SS)
  | 0, _, _, _ => none
  | n + 1, x1, x2, S =>
    if (4 : Int32) ≤ x2 then
      some ((-4 : Int32), S)
    else
      bnd (f_X7_placeOn_goal x2 x1 S) (fun r2 S1 =>
      if r2 = (-4 : Int32) then
        nm (x2 + (1 : Int32)) (fun z3 =>
        f_X7_stackOf_goal_L2 n x1 z3 S1)
      else
        some (x2, S1))
def f_X7_stackOf_goal (a1 : Int32) (S : SS) : Option (Int32 × SS) :=
  f_X7_stackOf_goal_L2 NF a1 (0 : Int32) S
set_option maxRecDepth 100000 in
set_option maxHeartbeats 4000000 in
theorem w_X7_stackOf_goal_L2 {p : Program} {l : Launch} {e : Env} {R : Room} {s : State} {m : MethodId} {args : Array Value} {below : List Frame} {meth : Method} {c : Code} {dC : Nat → ClassId} {dI : Nat → Nat → Nat} {cs : Nat → ClassId} {ad : Nat → Nat} {A : Nat → Prop} {D0 : Nat → Nat} {S' : SS} {r : Int32} (F : Fx p s m args meth c cX7_stackOf 3 RX7 (some .int) dC dI cs A) (hR1 : 2 ≤ R.frames) (hR2 : 46 ≤ R.locals) : ∀ (n : Nat) (x1 : Int32) (x2 : Int32) (S : SS), f_X7_stackOf_goal_L2 n x1 x2 S = some (r, S') → AW p l e R s m args below meth c dC dI cs ad A D0 (some (.int r)) S' 3 2 [(0, .ref (ad 12)), (1, .int x1), (2, .int x2)] [] S := by
  have hx := F.1.1
  have hb := F.1.2.1
  intro n
  induction n with
  | zero => intro x1 x2 S h; cases h
  | succ n ih =>
    intro x1 x2 S h H locs ls w hl
    rw [f_X7_stackOf_goal_L2] at h
    refine lv_iload_n (pc := 2) hx hb dX7_stackOf_2 rfl (lv_at hl 2 rfl) ?_
    refine lv_iconst (pc := 3) (v := 4) hx hb dX7_stackOf_3 (by decide) ?_
    refine lv_icmp_ge (pc := 4) (tgt := 26) hx hb dX7_stackOf_4 (by decide) (fun q => ?_) (fun q => ?_)
    · have h := ite_t q h
      refine lv_bipush (pc := 26) (v := -4) hx hb dX7_stackOf_26 (by decide) ?_
      exact s_iret F w h dX7_stackOf_28
    · have h := ite_f q h
      refine lv_aload_n (pc := 7) hx hb dX7_stackOf_7 rfl (lv_at hl 0 rfl) ?_
      refine lv_iload_n (pc := 8) hx hb dX7_stackOf_8 rfl (lv_at hl 2 rfl) ?_
      refine lv_iload_n (pc := 9) hx hb dX7_stackOf_9 rfl (lv_at hl 1 rfl) ?_
      obtain ⟨r2, S1, hc, h⟩ := bnd_t h
      refine s_cvi (pc := 10) [.int x2, .int x1] (fun ad => [.ref (ad 12), .int x2, .int x1]) F w (m_X7_placeOn_goal _ _ _ _ _ hc) rfl rfl hl.1 ds_12 vc_X7 rfl ok_X7_placeOn rfl kc_X7_placeOn kl_X7_38 ki_X7_placeOn kv_X7_placeOn kn_X7 ⟨Nat.le_trans (by decide) hR1, Nat.le_trans (by decide) hR2⟩ ⟨Nat.zero_le _, Nat.zero_le _⟩ (Nat.le_of_ble_eq_true rfl) dX7_stackOf_10 (fun H locs w => ?_)
      refine lv_bipush (pc := 13) (v := -4) hx hb dX7_stackOf_13 (by decide) ?_
      refine lv_icmp_eq (pc := 15) (tgt := 20) hx hb dX7_stackOf_15 (by decide) (fun q => ?_) (fun q => ?_)
      · have h := ite_t q h
        refine s_nm h (fun z3 ez3 h => ?_)
        refine lv_iinc (pc := 20) (v := z3) (lv' := [(2, .int z3), (0, .ref (ad 12)), (1, .int x1)]) hx hb dX7_stackOf_20 hl (k := 2) rfl (by rw [ez3]; rfl) (by decide) rfl (fun ls hl => ?_)
        refine lv_goto (pc := 23) (tgt := 2) hx hb dX7_stackOf_23 (by decide) ?_
        exact ih _ _ _ h _ _ _ w (lv_sub hl [1, 2, 0] rfl)
      · have h := ite_f q h
        refine lv_iload_n (pc := 18) hx hb dX7_stackOf_18 rfl (lv_at hl 2 rfl) ?_
        exact s_iret F w h dX7_stackOf_19
set_option maxRecDepth 100000 in
set_option maxHeartbeats 4000000 in
theorem m_X7_stackOf_goal (a1 : Int32) (S S' : SS) (r : Int32) (h : f_X7_stackOf_goal a1 S = some (r, S')) : MT yX7_stackOf cX7_stackOf 3 (some .int) 2 46 (fun ad => [.ref (ad 12), .int a1]) S (some (.int r)) S' := by
  refine MT.of RX7 (fun ad => [(0, .ref (ad 12)), (1, .int a1)]) (by decide) rfl (fun _ => Nat.le_of_ble_eq_true rfl) (fun _ => rfl) ?_
  intro p l e R s m args below meth c dC dI cs ad A hR1 hR2 F H locs ls w hl
  have hx := F.1.1
  have hb := F.1.2.1
  rw [f_X7_stackOf_goal] at h
  refine lv_iconst (pc := 0) (v := 0) hx hb dX7_stackOf_0 (by decide) ?_
  refine lv_istore_n (pc := 1) (lv' := [(2, .int (0 : Int32)), (0, .ref (ad 12)), (1, .int a1)]) hx hb dX7_stackOf_1 rfl hl (by decide) rfl (fun ls hl => ?_)
  exact w_X7_stackOf_goal_L2 F (Nat.le_trans (by decide) hR1) (Nat.le_trans (by decide) hR2) _ _ _ _ h _ _ _ w (lv_sub hl [1, 2, 0] rfl)
def f_X7_put_goal (a1 : Int32) (a2 : Int32) (S : SS) : Option (SS) :=
  if a1 < 0 then
    some S
  else
    if (4 : Int32) ≤ a1 then
      some S
    else
      grd (inb a1 4) (
      if (10 : Int32) ≤ (S.1 65 a1.toNatClampNeg) then
        some S
      else
        grd (inb a1 4) (
        grd (inb (((10 : Int32) * a1) + (S.1 65 a1.toNatClampNeg)) 40) (wr S 64 (((10 : Int32) * a1) + (S.1 65 a1.toNatClampNeg)).toNatClampNeg a2 (fun S1 =>
        grd (inb a1 4) (
        grd (inb a1 4) (wr S1 65 a1.toNatClampNeg ((S1.1 65 a1.toNatClampNeg) + (1 : Int32)) (fun S2 =>
        some S2)))))))
set_option maxRecDepth 100000 in
set_option maxHeartbeats 4000000 in
theorem m_X7_put_goal (a1 : Int32) (a2 : Int32) (S S' : SS) (h : f_X7_put_goal a1 a2 S = some S') : MT yX7_put cX7_put 3 none 0 0 (fun ad => [.ref (ad 12), .int a1, .int a2]) S none S' := by
  refine MT.of RX7 (fun ad => [(0, .ref (ad 12)), (1, .int a1), (2, .int a2)]) (by decide) rfl (fun _ => Nat.le_of_ble_eq_true rfl) (fun _ => rfl) ?_
  intro p l e R s m args below meth c dC dI cs ad A hR1 hR2 F H locs ls w hl
  have hx := F.1.1
  have hb := F.1.2.1
  rw [f_X7_put_goal] at h
  refine lv_iload_n (pc := 0) hx hb dX7_put_0 rfl (lv_at hl 1 rfl) ?_
  refine lv_if_lt (pc := 1) (tgt := 47) hx hb dX7_put_1 (by decide) (fun q => ?_) (fun q => ?_)
  · have h := ite_t q h
    exact s_vret F w h dX7_put_47
  · have h := ite_f q h
    refine lv_iload_n (pc := 4) hx hb dX7_put_4 rfl (lv_at hl 1 rfl) ?_
    refine lv_iconst (pc := 5) (v := 4) hx hb dX7_put_5 (by decide) ?_
    refine lv_icmp_ge (pc := 6) (tgt := 47) hx hb dX7_put_6 (by decide) (fun q => ?_) (fun q => ?_)
    · have h := ite_t q h
      exact s_vret F w h dX7_put_47
    · have h := ite_f q h
      refine lv_aload_n (pc := 9) hx hb dX7_put_9 rfl (lv_at hl 0 rfl) ?_
      refine s_getR (pc := 10) F w 65 ds_12 (j := 1) vc_X7 vi_X7 rfl (by decide) kf_X7_15 dX7_put_10 ?_
      refine lv_iload_n (pc := 13) hx hb dX7_put_13 rfl (lv_at hl 1 rfl) ?_
      refine s_iald (pc := 14) F w ds_65 h dX7_put_14 (fun h => ?_)
      refine lv_bipush (pc := 15) (v := 10) hx hb dX7_put_15 (by decide) ?_
      refine lv_icmp_ge (pc := 17) (tgt := 47) hx hb dX7_put_17 (by decide) (fun q => ?_) (fun q => ?_)
      · have h := ite_t q h
        exact s_vret F w h dX7_put_47
      · have h := ite_f q h
        refine lv_aload_n (pc := 20) hx hb dX7_put_20 rfl (lv_at hl 0 rfl) ?_
        refine s_getR (pc := 21) F w 64 ds_12 (j := 0) vc_X7 vi_X7 rfl (by decide) kf_X7_11 dX7_put_21 ?_
        refine lv_bipush (pc := 24) (v := 10) hx hb dX7_put_24 (by decide) ?_
        refine lv_iload_n (pc := 26) hx hb dX7_put_26 rfl (lv_at hl 1 rfl) ?_
        refine lv_imul (pc := 27) hx hb dX7_put_27 ?_
        refine lv_aload_n (pc := 28) hx hb dX7_put_28 rfl (lv_at hl 0 rfl) ?_
        refine s_getR (pc := 29) F w 65 ds_12 (j := 1) vc_X7 vi_X7 rfl (by decide) kf_X7_15 dX7_put_29 ?_
        refine lv_iload_n (pc := 32) hx hb dX7_put_32 rfl (lv_at hl 1 rfl) ?_
        refine s_iald (pc := 33) F w ds_65 h dX7_put_33 (fun h => ?_)
        refine lv_iadd (pc := 34) hx hb dX7_put_34 ?_
        refine lv_iload_n (pc := 35) hx hb dX7_put_35 rfl (lv_at hl 2 rfl) ?_
        refine s_iast (pc := 36) F w ds_64 h dX7_put_36 (fun S1 H locs h w => ?_)
        refine lv_aload_n (pc := 37) hx hb dX7_put_37 rfl (lv_at hl 0 rfl) ?_
        refine s_getR (pc := 38) F w 65 ds_12 (j := 1) vc_X7 vi_X7 rfl (by decide) kf_X7_15 dX7_put_38 ?_
        refine lv_iload_n (pc := 41) hx hb dX7_put_41 rfl (lv_at hl 1 rfl) ?_
        refine lv_dup2_11 (pc := 42) hx hb dX7_put_42 rfl rfl ?_
        refine s_iald (pc := 43) F w ds_65 h dX7_put_43 (fun h => ?_)
        refine lv_iconst (pc := 44) (v := 1) hx hb dX7_put_44 (by decide) ?_
        refine lv_iadd (pc := 45) hx hb dX7_put_45 ?_
        refine s_iast (pc := 46) F w ds_65 h dX7_put_46 (fun S2 H locs h w => ?_)
        exact s_vret F w h dX7_put_47
