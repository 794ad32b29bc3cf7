/-! ===== printed by wip/gen: X12_measure X12_hasFallen X12_wander X12_stackOf X12_carries X12_widest ===== -/
def f_X12_measure_j236 (K124 : Int32 → Int32 → Int32 → SS → Option (SS)) (x1 : Int32) (x2 : Int32) (x3 : Int32) (S : SS) : Option (SS) :=
    nm (x3 + (1 : Int32)) (fun z21 =>
    K124 x1 x2 z21 S)
def f_X12_measure_L124 (K107 : Int32 → Int32 → SS → Option (SS)) : Nat → Int32 → Int32 → Int32 → SS → Option (SS)
  | 0, _, _, _, _ => none
  | n + 1, x1, x2, x3, S =>
    if (80 : Int32) ≤ x3 then
      nm (x2 + (1 : Int32)) (fun z8 =>
      K107 x1 z8 S)
    else
      nm (x3 / (20 : Int32)) (fun z9 =>
      nm ((x3 / (5 : Int32)) - (x3 / (5 : Int32)) / (4 : Int32) * (4 : Int32)) (fun z10 =>
      nm ((x3 - x3 / (5 : Int32) * (5 : Int32)) + (1 : Int32)) (fun z11 =>
      bnd (f_X12_mayMove z9 z10 z11 S) (fun r13 S12 =>
      if r13 = 0 then
        f_X12_measure_j236 (fun v0 v1 v2 S => f_X12_measure_L124 K107 n v0 v1 v2 S) x1 x2 x3 S12
      else
        bndv (f_X12_shift z9 z10 z11 S12) (fun S14 =>
        bnd (f_X12_code  S14) (fun r16 S15 =>
        bndv (f_X12_shift z10 z9 z11 S15) (fun S17 =>
        grd (inb r16 25920) (
        if (S17.1 122 r16.toNatClampNeg) < 0 then
          grd (inb x2 6720) (
          grd (inb (S17.1 127 x2.toNatClampNeg) 25920) (
          grd (inb r16 25920) (wr S17 122 r16.toNatClampNeg ((S17.1 122 (S17.1 127 x2.toNatClampNeg).toNatClampNeg) + (1 : Int32)) (fun S18 =>
          grd (inb x1 6720) (wr S18 127 x1.toNatClampNeg r16 (fun S19 =>
          nm (x1 + (1 : Int32)) (fun z20 =>
          f_X12_measure_j236 (fun v0 v1 v2 S => f_X12_measure_L124 K107 n v0 v1 v2 S) z20 x2 x3 S19)))))))
        else
          f_X12_measure_j236 (fun v0 v1 v2 S => f_X12_measure_L124 K107 n v0 v1 v2 S) x1 x2 x3 S17))))))))
def f_X12_measure_L107  : Nat → Int32 → Int32 → SS → Option (SS)
  | 0, _, _, _ => none
  | n + 1, x1, x2, S =>
    if x1 ≤ x2 then
      some S
    else
      grd (inb x2 6720) (
      bndv (f_X12_decode (S.1 127 x2.toNatClampNeg) S) (fun S7 =>
      f_X12_measure_L124 (fun v0 v1 S => f_X12_measure_L107 n v0 v1 S) NF x1 x2 (0 : Int32) S7))
def f_X12_measure_L56  : Nat → Int32 → SS → Option (SS)
  | 0, _, _ => none
  | n + 1, x1, S =>
    if (25920 : Int32) ≤ x1 then
      bndv (f_X12_take (1 : Int32) S) (fun S2 =>
      bnd (f_X12_code  S2) (fun r4 S3 =>
      grd (inb (0 : Int32) 6720) (wr S3 127 (0 : Int32).toNatClampNeg r4 (fun S5 =>
      grd (inb (0 : Int32) 6720) (
      grd (inb (S5.1 127 (0 : Int32).toNatClampNeg) 25920) (wr S5 122 (S5.1 127 (0 : Int32).toNatClampNeg).toNatClampNeg (0 : Int32) (fun S6 =>
      f_X12_measure_L107 NF (1 : Int32) (0 : Int32) S6)))))))
    else
      grd (inb x1 25920) (wr S 122 x1.toNatClampNeg (-1 : Int32) (fun S22 =>
      nm (x1 + (1 : Int32)) (fun z23 =>
      f_X12_measure_L56 n z23 S22)))
def f_X12_measure_j48 (K7 : Int32 → SS → Option (SS)) (x1 : Int32) (S : SS) : Option (SS) :=
    nm (x1 + (1 : Int32)) (fun z26 =>
    K7 z26 S)
def f_X12_measure_L7  : Nat → Int32 → SS → Option (SS)
  | 0, _, _ => none
  | n + 1, x1, S =>
    if (10 : Int32) ≤ x1 then
      f_X12_measure_L56 NF (0 : Int32) S
    else
      bnd (f_X12_has_Model_goalMany_Model_goalOn x1 S) (fun r25 S24 =>
      if r25 = 0 then
        f_X12_measure_j48 (fun v0 S => f_X12_measure_L7 n v0 S) x1 S24
      else
        grd (inb (S24.1 14 81) 10) (wr S24 121 (S24.1 14 81).toNatClampNeg x1 (fun S27 =>
        wr S27 14 81 ((S27.1 14 81) + (1 : Int32)) (fun S28 =>
        f_X12_measure_j48 (fun v0 S => f_X12_measure_L7 n v0 S) x1 S28))))
def f_X12_measure  (S : SS) : Option (SS) :=
  wr S 14 81 (0 : Int32) (fun S1 =>
  f_X12_measure_L7 NF (0 : Int32) S1)
theorem dX12_measure_0 : decode cX12_measure 0 = .ok (.aload_n 0, 1) := by decide +kernel
theorem dX12_measure_1 : decode cX12_measure 1 = .ok (.iconst 0, 1) := by decide +kernel
theorem dX12_measure_2 : decode cX12_measure 2 = .ok (.putfield 466, 3) := by decide +kernel
theorem dX12_measure_5 : decode cX12_measure 5 = .ok (.iconst 0, 1) := by decide +kernel
theorem dX12_measure_6 : decode cX12_measure 6 = .ok (.istore_n 1, 1) := by decide +kernel
theorem dX12_measure_7 : decode cX12_measure 7 = .ok (.iload_n 1, 1) := by decide +kernel
theorem dX12_measure_8 : decode cX12_measure 8 = .ok (.bipush 10, 2) := by decide +kernel
theorem dX12_measure_10 : decode cX12_measure 10 = .ok (.if_icmp .ge 44, 3) := by decide +kernel
theorem dX12_measure_13 : decode cX12_measure 13 = .ok (.aload_n 0, 1) := by decide +kernel
theorem dX12_measure_14 : decode cX12_measure 14 = .ok (.getfield 162, 3) := by decide +kernel
theorem dX12_measure_17 : decode cX12_measure 17 = .ok (.aload_n 0, 1) := by decide +kernel
theorem dX12_measure_18 : decode cX12_measure 18 = .ok (.getfield 165, 3) := by decide +kernel
theorem dX12_measure_21 : decode cX12_measure 21 = .ok (.iload_n 1, 1) := by decide +kernel
theorem dX12_measure_22 : decode cX12_measure 22 = .ok (.invokestatic 451, 3) := by decide +kernel
theorem dX12_measure_25 : decode cX12_measure 25 = .ok (.ifCond .eq 23, 3) := by decide +kernel
theorem dX12_measure_28 : decode cX12_measure 28 = .ok (.aload_n 0, 1) := by decide +kernel
theorem dX12_measure_29 : decode cX12_measure 29 = .ok (.getfield 180, 3) := by decide +kernel
theorem dX12_measure_32 : decode cX12_measure 32 = .ok (.aload_n 0, 1) := by decide +kernel
theorem dX12_measure_33 : decode cX12_measure 33 = .ok (.getfield 466, 3) := by decide +kernel
theorem dX12_measure_36 : decode cX12_measure 36 = .ok (.iload_n 1, 1) := by decide +kernel
theorem dX12_measure_37 : decode cX12_measure 37 = .ok (.iastore, 1) := by decide +kernel
theorem dX12_measure_38 : decode cX12_measure 38 = .ok (.aload_n 0, 1) := by decide +kernel
theorem dX12_measure_39 : decode cX12_measure 39 = .ok (.dup, 1) := by decide +kernel
theorem dX12_measure_40 : decode cX12_measure 40 = .ok (.getfield 466, 3) := by decide +kernel
theorem dX12_measure_43 : decode cX12_measure 43 = .ok (.iconst 1, 1) := by decide +kernel
theorem dX12_measure_44 : decode cX12_measure 44 = .ok (.iadd, 1) := by decide +kernel
theorem dX12_measure_45 : decode cX12_measure 45 = .ok (.putfield 466, 3) := by decide +kernel
theorem dX12_measure_48 : decode cX12_measure 48 = .ok (.iinc 1 1, 3) := by decide +kernel
theorem dX12_measure_51 : decode cX12_measure 51 = .ok (.goto (-44), 3) := by decide +kernel
theorem dX12_measure_54 : decode cX12_measure 54 = .ok (.iconst 0, 1) := by decide +kernel
theorem dX12_measure_55 : decode cX12_measure 55 = .ok (.istore_n 1, 1) := by decide +kernel
theorem dX12_measure_56 : decode cX12_measure 56 = .ok (.iload_n 1, 1) := by decide +kernel
theorem dX12_measure_57 : decode cX12_measure 57 = .ok (.sipush 25920, 3) := by decide +kernel
theorem dX12_measure_60 : decode cX12_measure 60 = .ok (.if_icmp .ge 16, 3) := by decide +kernel
theorem dX12_measure_63 : decode cX12_measure 63 = .ok (.aload_n 0, 1) := by decide +kernel
theorem dX12_measure_64 : decode cX12_measure 64 = .ok (.getfield 183, 3) := by decide +kernel
theorem dX12_measure_67 : decode cX12_measure 67 = .ok (.iload_n 1, 1) := by decide +kernel
theorem dX12_measure_68 : decode cX12_measure 68 = .ok (.iconst (-1), 1) := by decide +kernel
theorem dX12_measure_69 : decode cX12_measure 69 = .ok (.iastore, 1) := by decide +kernel
theorem dX12_measure_70 : decode cX12_measure 70 = .ok (.iinc 1 1, 3) := by decide +kernel
theorem dX12_measure_73 : decode cX12_measure 73 = .ok (.goto (-17), 3) := by decide +kernel
theorem dX12_measure_76 : decode cX12_measure 76 = .ok (.aload_n 0, 1) := by decide +kernel
theorem dX12_measure_77 : decode cX12_measure 77 = .ok (.iconst 1, 1) := by decide +kernel
theorem dX12_measure_78 : decode cX12_measure 78 = .ok (.invokevirtual 472, 3) := by decide +kernel
theorem dX12_measure_81 : decode cX12_measure 81 = .ok (.aload_n 0, 1) := by decide +kernel
theorem dX12_measure_82 : decode cX12_measure 82 = .ok (.getfield 198, 3) := by decide +kernel
theorem dX12_measure_85 : decode cX12_measure 85 = .ok (.iconst 0, 1) := by decide +kernel
theorem dX12_measure_86 : decode cX12_measure 86 = .ok (.aload_n 0, 1) := by decide +kernel
theorem dX12_measure_87 : decode cX12_measure 87 = .ok (.invokevirtual 476, 3) := by decide +kernel
theorem dX12_measure_90 : decode cX12_measure 90 = .ok (.iastore, 1) := by decide +kernel
theorem dX12_measure_91 : decode cX12_measure 91 = .ok (.aload_n 0, 1) := by decide +kernel
theorem dX12_measure_92 : decode cX12_measure 92 = .ok (.getfield 183, 3) := by decide +kernel
theorem dX12_measure_95 : decode cX12_measure 95 = .ok (.aload_n 0, 1) := by decide +kernel
theorem dX12_measure_96 : decode cX12_measure 96 = .ok (.getfield 198, 3) := by decide +kernel
theorem dX12_measure_99 : decode cX12_measure 99 = .ok (.iconst 0, 1) := by decide +kernel
theorem dX12_measure_100 : decode cX12_measure 100 = .ok (.iaload, 1) := by decide +kernel
theorem dX12_measure_101 : decode cX12_measure 101 = .ok (.iconst 0, 1) := by decide +kernel
theorem dX12_measure_102 : decode cX12_measure 102 = .ok (.iastore, 1) := by decide +kernel
theorem dX12_measure_103 : decode cX12_measure 103 = .ok (.iconst 1, 1) := by decide +kernel
theorem dX12_measure_104 : decode cX12_measure 104 = .ok (.istore_n 1, 1) := by decide +kernel
theorem dX12_measure_105 : decode cX12_measure 105 = .ok (.iconst 0, 1) := by decide +kernel
theorem dX12_measure_106 : decode cX12_measure 106 = .ok (.istore_n 2, 1) := by decide +kernel
theorem dX12_measure_107 : decode cX12_measure 107 = .ok (.iload_n 2, 1) := by decide +kernel
theorem dX12_measure_108 : decode cX12_measure 108 = .ok (.iload_n 1, 1) := by decide +kernel
theorem dX12_measure_109 : decode cX12_measure 109 = .ok (.if_icmp .ge 139, 3) := by decide +kernel
theorem dX12_measure_112 : decode cX12_measure 112 = .ok (.aload_n 0, 1) := by decide +kernel
theorem dX12_measure_113 : decode cX12_measure 113 = .ok (.aload_n 0, 1) := by decide +kernel
theorem dX12_measure_114 : decode cX12_measure 114 = .ok (.getfield 198, 3) := by decide +kernel
theorem dX12_measure_117 : decode cX12_measure 117 = .ok (.iload_n 2, 1) := by decide +kernel
theorem dX12_measure_118 : decode cX12_measure 118 = .ok (.iaload, 1) := by decide +kernel
theorem dX12_measure_119 : decode cX12_measure 119 = .ok (.invokevirtual 479, 3) := by decide +kernel
theorem dX12_measure_122 : decode cX12_measure 122 = .ok (.iconst 0, 1) := by decide +kernel
theorem dX12_measure_123 : decode cX12_measure 123 = .ok (.istore_n 3, 1) := by decide +kernel
theorem dX12_measure_124 : decode cX12_measure 124 = .ok (.iload_n 3, 1) := by decide +kernel
theorem dX12_measure_125 : decode cX12_measure 125 = .ok (.bipush 80, 2) := by decide +kernel
theorem dX12_measure_127 : decode cX12_measure 127 = .ok (.if_icmp .ge 115, 3) := by decide +kernel
theorem dX12_measure_130 : decode cX12_measure 130 = .ok (.iload_n 3, 1) := by decide +kernel
theorem dX12_measure_131 : decode cX12_measure 131 = .ok (.bipush 20, 2) := by decide +kernel
theorem dX12_measure_133 : decode cX12_measure 133 = .ok (.idiv, 1) := by decide +kernel
theorem dX12_measure_134 : decode cX12_measure 134 = .ok (.istore 4, 2) := by decide +kernel
theorem dX12_measure_136 : decode cX12_measure 136 = .ok (.iload_n 3, 1) := by decide +kernel
theorem dX12_measure_137 : decode cX12_measure 137 = .ok (.iconst 5, 1) := by decide +kernel
theorem dX12_measure_138 : decode cX12_measure 138 = .ok (.idiv, 1) := by decide +kernel
theorem dX12_measure_139 : decode cX12_measure 139 = .ok (.iconst 4, 1) := by decide +kernel
theorem dX12_measure_140 : decode cX12_measure 140 = .ok (.irem, 1) := by decide +kernel
theorem dX12_measure_141 : decode cX12_measure 141 = .ok (.istore 5, 2) := by decide +kernel
theorem dX12_measure_143 : decode cX12_measure 143 = .ok (.iload_n 3, 1) := by decide +kernel
theorem dX12_measure_144 : decode cX12_measure 144 = .ok (.iconst 5, 1) := by decide +kernel
theorem dX12_measure_145 : decode cX12_measure 145 = .ok (.irem, 1) := by decide +kernel
theorem dX12_measure_146 : decode cX12_measure 146 = .ok (.iconst 1, 1) := by decide +kernel
theorem dX12_measure_147 : decode cX12_measure 147 = .ok (.iadd, 1) := by decide +kernel
theorem dX12_measure_148 : decode cX12_measure 148 = .ok (.istore 6, 2) := by decide +kernel
theorem dX12_measure_150 : decode cX12_measure 150 = .ok (.aload_n 0, 1) := by decide +kernel
theorem dX12_measure_151 : decode cX12_measure 151 = .ok (.iload 4, 2) := by decide +kernel
theorem dX12_measure_153 : decode cX12_measure 153 = .ok (.iload 5, 2) := by decide +kernel
theorem dX12_measure_155 : decode cX12_measure 155 = .ok (.iload 6, 2) := by decide +kernel
theorem dX12_measure_157 : decode cX12_measure 157 = .ok (.invokevirtual 482, 3) := by decide +kernel
theorem dX12_measure_160 : decode cX12_measure 160 = .ok (.ifCond .ne 6, 3) := by decide +kernel
theorem dX12_measure_163 : decode cX12_measure 163 = .ok (.goto 73, 3) := by decide +kernel
theorem dX12_measure_166 : decode cX12_measure 166 = .ok (.aload_n 0, 1) := by decide +kernel
theorem dX12_measure_167 : decode cX12_measure 167 = .ok (.iload 4, 2) := by decide +kernel
theorem dX12_measure_169 : decode cX12_measure 169 = .ok (.iload 5, 2) := by decide +kernel
theorem dX12_measure_171 : decode cX12_measure 171 = .ok (.iload 6, 2) := by decide +kernel
theorem dX12_measure_173 : decode cX12_measure 173 = .ok (.invokevirtual 485, 3) := by decide +kernel
theorem dX12_measure_176 : decode cX12_measure 176 = .ok (.aload_n 0, 1) := by decide +kernel
theorem dX12_measure_177 : decode cX12_measure 177 = .ok (.invokevirtual 476, 3) := by decide +kernel
theorem dX12_measure_180 : decode cX12_measure 180 = .ok (.istore 7, 2) := by decide +kernel
theorem dX12_measure_182 : decode cX12_measure 182 = .ok (.aload_n 0, 1) := by decide +kernel
theorem dX12_measure_183 : decode cX12_measure 183 = .ok (.iload 5, 2) := by decide +kernel
theorem dX12_measure_185 : decode cX12_measure 185 = .ok (.iload 4, 2) := by decide +kernel
theorem dX12_measure_187 : decode cX12_measure 187 = .ok (.iload 6, 2) := by decide +kernel
theorem dX12_measure_189 : decode cX12_measure 189 = .ok (.invokevirtual 485, 3) := by decide +kernel
theorem dX12_measure_192 : decode cX12_measure 192 = .ok (.aload_n 0, 1) := by decide +kernel
theorem dX12_measure_193 : decode cX12_measure 193 = .ok (.getfield 183, 3) := by decide +kernel
theorem dX12_measure_196 : decode cX12_measure 196 = .ok (.iload 7, 2) := by decide +kernel
theorem dX12_measure_198 : decode cX12_measure 198 = .ok (.iaload, 1) := by decide +kernel
theorem dX12_measure_199 : decode cX12_measure 199 = .ok (.ifCond .lt 6, 3) := by decide +kernel
theorem dX12_measure_202 : decode cX12_measure 202 = .ok (.goto 34, 3) := by decide +kernel
theorem dX12_measure_205 : decode cX12_measure 205 = .ok (.aload_n 0, 1) := by decide +kernel
theorem dX12_measure_206 : decode cX12_measure 206 = .ok (.getfield 183, 3) := by decide +kernel
theorem dX12_measure_209 : decode cX12_measure 209 = .ok (.iload 7, 2) := by decide +kernel
theorem dX12_measure_211 : decode cX12_measure 211 = .ok (.aload_n 0, 1) := by decide +kernel
theorem dX12_measure_212 : decode cX12_measure 212 = .ok (.getfield 183, 3) := by decide +kernel
theorem dX12_measure_215 : decode cX12_measure 215 = .ok (.aload_n 0, 1) := by decide +kernel
theorem dX12_measure_216 : decode cX12_measure 216 = .ok (.getfield 198, 3) := by decide +kernel
theorem dX12_measure_219 : decode cX12_measure 219 = .ok (.iload_n 2, 1) := by decide +kernel
theorem dX12_measure_220 : decode cX12_measure 220 = .ok (.iaload, 1) := by decide +kernel
theorem dX12_measure_221 : decode cX12_measure 221 = .ok (.iaload, 1) := by decide +kernel
theorem dX12_measure_222 : decode cX12_measure 222 = .ok (.iconst 1, 1) := by decide +kernel
theorem dX12_measure_223 : decode cX12_measure 223 = .ok (.iadd, 1) := by decide +kernel
theorem dX12_measure_224 : decode cX12_measure 224 = .ok (.iastore, 1) := by decide +kernel
theorem dX12_measure_225 : decode cX12_measure 225 = .ok (.aload_n 0, 1) := by decide +kernel
theorem dX12_measure_226 : decode cX12_measure 226 = .ok (.getfield 198, 3) := by decide +kernel
theorem dX12_measure_229 : decode cX12_measure 229 = .ok (.iload_n 1, 1) := by decide +kernel
theorem dX12_measure_230 : decode cX12_measure 230 = .ok (.iload 7, 2) := by decide +kernel
theorem dX12_measure_232 : decode cX12_measure 232 = .ok (.iastore, 1) := by decide +kernel
theorem dX12_measure_233 : decode cX12_measure 233 = .ok (.iinc 1 1, 3) := by decide +kernel
theorem dX12_measure_236 : decode cX12_measure 236 = .ok (.iinc 3 1, 3) := by decide +kernel
theorem dX12_measure_239 : decode cX12_measure 239 = .ok (.goto (-115), 3) := by decide +kernel
theorem dX12_measure_242 : decode cX12_measure 242 = .ok (.iinc 2 1, 3) := by decide +kernel
theorem dX12_measure_245 : decode cX12_measure 245 = .ok (.goto (-138), 3) := by decide +kernel
theorem dX12_measure_248 : decode cX12_measure 248 = .ok (.return_, 1) := by decide +kernel
set_option maxRecDepth 100000 in
set_option maxHeartbeats 4000000 in
theorem w_X12_measure_j236 {p : Program} {l : Launch} {e : Env} {R : Room} {s : State} {m : MethodId} {args : Array Value} {below : List Frame} {meth : Method} {c : Code} {dC : Nat → ClassId} {dI : Nat → Nat → Nat} {cs : Nat → ClassId} {ad : Nat → Nat} {A : Nat → Prop} {D0 : Nat → Nat} {S' : SS} (F : Fx p s m args meth c cX12_measure 8 RX12 none dC dI cs A) (hR1 : 0 ≤ R.frames) (hR2 : 0 ≤ R.locals) (K124 : Int32 → Int32 → Int32 → SS → Option (SS)) (hK124 : ∀ (v0 : Int32) (v1 : Int32) (v2 : Int32) (S : SS), K124 v0 v1 v2 S = some S' → AW p l e R s m args below meth c dC dI cs ad A D0 none S' 8 124 [(0, .ref (ad 14)), (1, .int v0), (2, .int v1), (3, .int v2)] [] S) (x1 : Int32) (x2 : Int32) (x3 : Int32) (S : SS) (h : f_X12_measure_j236 K124 x1 x2 x3 S = some S') : AW p l e R s m args below meth c dC dI cs ad A D0 none S' 8 236 [(0, .ref (ad 14)), (1, .int x1), (2, .int x2), (3, .int x3)] [] S := by
  have hx := F.1.1
  have hb := F.1.2.1
  intro H locs ls w hl
  rw [f_X12_measure_j236] at h
  refine s_nm h (fun z21 ez21 h => ?_)
  refine lv_iinc (pc := 236) (v := z21) (lv' := [(3, .int z21), (0, .ref (ad 14)), (1, .int x1), (2, .int x2)]) hx hb dX12_measure_236 hl (k := 3) rfl (by rw [ez21]; rfl) (by decide) rfl (fun ls hl => ?_)
  refine lv_goto (pc := 239) (tgt := 124) hx hb dX12_measure_239 (by decide) ?_
  exact hK124 _ _ _ _ h _ _ _ w (lv_sub hl [1, 2, 3, 0] rfl)
set_option maxRecDepth 100000 in
set_option maxHeartbeats 4000000 in
theorem w_X12_measure_L124 {p : Program} {l : Launch} {e : Env} {R : Room} {s : State} {m : MethodId} {args : Array Value} {below : List Frame} {meth : Method} {c : Code} {dC : Nat → ClassId} {dI : Nat → Nat → Nat} {cs : Nat → ClassId} {ad : Nat → Nat} {A : Nat → Prop} {D0 : Nat → Nat} {S' : SS} (F : Fx p s m args meth c cX12_measure 8 RX12 none dC dI cs A) (hR1 : 2 ≤ R.frames) (hR2 : 47 ≤ R.locals) (K107 : Int32 → Int32 → SS → Option (SS)) (hK107 : ∀ (v0 : Int32) (v1 : Int32) (S : SS), K107 v0 v1 S = some S' → AW p l e R s m args below meth c dC dI cs ad A D0 none S' 8 107 [(0, .ref (ad 14)), (1, .int v0), (2, .int v1)] [] S) : ∀ (n : Nat) (x1 : Int32) (x2 : Int32) (x3 : Int32) (S : SS), f_X12_measure_L124 K107 n x1 x2 x3 S = some S' → AW p l e R s m args below meth c dC dI cs ad A D0 none S' 8 124 [(0, .ref (ad 14)), (1, .int x1), (2, .int x2), (3, .int x3)] [] S := by
  have hx := F.1.1
  have hb := F.1.2.1
  intro n
  induction n with
  | zero => intro x1 x2 x3 S h; cases h
  | succ n ih =>
    intro x1 x2 x3 S h H locs ls w hl
    rw [f_X12_measure_L124] at h
    refine lv_iload_n (pc := 124) hx hb dX12_measure_124 rfl (lv_at hl 3 rfl) ?_
    refine lv_bipush (pc := 125) (v := 80) hx hb dX12_measure_125 (by decide) ?_
    refine lv_icmp_ge (pc := 127) (tgt := 242) hx hb dX12_measure_127 (by decide) (fun q => ?_) (fun q => ?_)
    · have h := ite_t q h
      refine s_nm h (fun z8 ez8 h => ?_)
      refine lv_iinc (pc := 242) (v := z8) (lv' := [(2, .int z8), (0, .ref (ad 14)), (1, .int x1), (3, .int x3)]) hx hb dX12_measure_242 hl (k := 2) rfl (by rw [ez8]; rfl) (by decide) rfl (fun ls hl => ?_)
      refine lv_goto (pc := 245) (tgt := 107) hx hb dX12_measure_245 (by decide) ?_
      exact hK107 _ _ _ h _ _ _ w (lv_sub hl [1, 2, 0] rfl)
    · have h := ite_f q h
      refine lv_iload_n (pc := 130) hx hb dX12_measure_130 rfl (lv_at hl 3 rfl) ?_
      refine lv_bipush (pc := 131) (v := 20) hx hb dX12_measure_131 (by decide) ?_
      refine lv_idiv (pc := 133) hx hb dX12_measure_133 (by decide) ?_
      refine s_nm h (fun z9 ez9 h => ?_)
      rw [← ez9]
      refine lv_istore (pc := 134) (lv' := [(4, .int z9), (0, .ref (ad 14)), (1, .int x1), (2, .int x2), (3, .int x3)]) hx hb dX12_measure_134 hl (by decide) rfl (fun ls hl => ?_)
      refine lv_iload_n (pc := 136) hx hb dX12_measure_136 rfl (lv_at hl 4 rfl) ?_
      refine lv_iconst (pc := 137) (v := 5) hx hb dX12_measure_137 (by decide) ?_
      refine lv_idiv (pc := 138) hx hb dX12_measure_138 (by decide) ?_
      refine lv_iconst (pc := 139) (v := 4) hx hb dX12_measure_139 (by decide) ?_
      refine lv_irem (pc := 140) hx hb dX12_measure_140 (by decide) ?_
      refine s_nm h (fun z10 ez10 h => ?_)
      rw [← ez10]
      refine lv_istore (pc := 141) (lv' := [(5, .int z10), (4, .int z9), (0, .ref (ad 14)), (1, .int x1), (2, .int x2), (3, .int x3)]) hx hb dX12_measure_141 hl (by decide) rfl (fun ls hl => ?_)
      refine lv_iload_n (pc := 143) hx hb dX12_measure_143 rfl (lv_at hl 5 rfl) ?_
      refine lv_iconst (pc := 144) (v := 5) hx hb dX12_measure_144 (by decide) ?_
      refine lv_irem (pc := 145) hx hb dX12_measure_145 (by decide) ?_
      refine lv_iconst (pc := 146) (v := 1) hx hb dX12_measure_146 (by decide) ?_
      refine lv_iadd (pc := 147) hx hb dX12_measure_147 ?_
      refine s_nm h (fun z11 ez11 h => ?_)
      rw [← ez11]
      refine lv_istore (pc := 148) (lv' := [(6, .int z11), (5, .int z10), (4, .int z9), (0, .ref (ad 14)), (1, .int x1), (2, .int x2), (3, .int x3)]) hx hb dX12_measure_148 hl (by decide) rfl (fun ls hl => ?_)
      refine lv_aload_n (pc := 150) hx hb dX12_measure_150 rfl (lv_at hl 3 rfl) ?_
      refine lv_iload (pc := 151) hx hb dX12_measure_151 (lv_at hl 2 rfl) ?_
      refine lv_iload (pc := 153) hx hb dX12_measure_153 (lv_at hl 1 rfl) ?_
      refine lv_iload (pc := 155) hx hb dX12_measure_155 (lv_at hl 0 rfl) ?_
      obtain ⟨r13, S12, hc, h⟩ := bnd_t h
      refine s_cvi (pc := 157) [.int z9, .int z10, .int z11] (fun ad => [.ref (ad 14), .int z9, .int z10, .int z11]) F w (m_X12_mayMove _ _ _ _ _ _ hc) rfl rfl hl.1 ds_14 vc_X12 rfl ok_X12_mayMove rfl kc_X12_mayMove kl_X12_482 ki_X12_mayMove kv_X12_mayMove kn_X12 ⟨Nat.le_trans (by decide) hR1, Nat.le_trans (by decide) hR2⟩ ⟨Nat.zero_le _, Nat.zero_le _⟩ (Nat.le_of_ble_eq_true rfl) dX12_measure_157 (fun H locs w => ?_)
      refine lv_if_ne (pc := 160) (tgt := 166) hx hb dX12_measure_160 (by decide) (fun q => ?_) (fun q => ?_)
      · have h := ite_f q h
        refine lv_aload_n (pc := 166) hx hb dX12_measure_166 rfl (lv_at hl 3 rfl) ?_
        refine lv_iload (pc := 167) hx hb dX12_measure_167 (lv_at hl 2 rfl) ?_
        refine lv_iload (pc := 169) hx hb dX12_measure_169 (lv_at hl 1 rfl) ?_
        refine lv_iload (pc := 171) hx hb dX12_measure_171 (lv_at hl 0 rfl) ?_
        obtain ⟨S14, hc, h⟩ := bndv_t h
        refine s_cvv (pc := 173) [.int z9, .int z10, .int z11] (fun ad => [.ref (ad 14), .int z9, .int z10, .int z11]) F w (m_X12_shift _ _ _ _ _ hc) rfl rfl hl.1 ds_14 vc_X12 rfl ok_X12_shift rfl kc_X12_shift kl_X12_485 ki_X12_shift kv_X12_shift kn_X12 ⟨Nat.le_trans (by decide) hR1, Nat.le_trans (by decide) hR2⟩ ⟨Nat.zero_le _, Nat.zero_le _⟩ (Nat.le_of_ble_eq_true rfl) dX12_measure_173 (fun H locs w => ?_)
        refine lv_aload_n (pc := 176) hx hb dX12_measure_176 rfl (lv_at hl 3 rfl) ?_
        obtain ⟨r16, S15, hc, h⟩ := bnd_t h
        refine s_cvi (pc := 177) [] (fun ad => [.ref (ad 14)]) F w (m_X12_code  _ _ _ hc) rfl rfl hl.1 ds_14 vc_X12 rfl ok_X12_code rfl kc_X12_code kl_X12_476 ki_X12_code kv_X12_code kn_X12 ⟨Nat.le_trans (by decide) hR1, Nat.le_trans (by decide) hR2⟩ ⟨Nat.zero_le _, Nat.zero_le _⟩ (Nat.le_of_ble_eq_true rfl) dX12_measure_177 (fun H locs w => ?_)
        refine lv_istore (pc := 180) (lv' := [(7, .int r16), (6, .int z11), (5, .int z10), (4, .int z9), (0, .ref (ad 14)), (1, .int x1), (2, .int x2), (3, .int x3)]) hx hb dX12_measure_180 hl (by decide) rfl (fun ls hl => ?_)
        refine lv_aload_n (pc := 182) hx hb dX12_measure_182 rfl (lv_at hl 4 rfl) ?_
        refine lv_iload (pc := 183) hx hb dX12_measure_183 (lv_at hl 2 rfl) ?_
        refine lv_iload (pc := 185) hx hb dX12_measure_185 (lv_at hl 3 rfl) ?_
        refine lv_iload (pc := 187) hx hb dX12_measure_187 (lv_at hl 1 rfl) ?_
        obtain ⟨S17, hc, h⟩ := bndv_t h
        refine s_cvv (pc := 189) [.int z10, .int z9, .int z11] (fun ad => [.ref (ad 14), .int z10, .int z9, .int z11]) F w (m_X12_shift _ _ _ _ _ hc) rfl rfl hl.1 ds_14 vc_X12 rfl ok_X12_shift rfl kc_X12_shift kl_X12_485 ki_X12_shift kv_X12_shift kn_X12 ⟨Nat.le_trans (by decide) hR1, Nat.le_trans (by decide) hR2⟩ ⟨Nat.zero_le _, Nat.zero_le _⟩ (Nat.le_of_ble_eq_true rfl) dX12_measure_189 (fun H locs w => ?_)
        refine lv_aload_n (pc := 192) hx hb dX12_measure_192 rfl (lv_at hl 4 rfl) ?_
        refine s_getR (pc := 193) F w 122 ds_14 (j := 83) vc_X12 vi_X12 rfl (by decide) kf_X12_183 dX12_measure_193 ?_
        refine lv_iload (pc := 196) hx hb dX12_measure_196 (lv_at hl 0 rfl) ?_
        refine s_iald (pc := 198) F w ds_122 h dX12_measure_198 (fun h => ?_)
        refine lv_if_lt (pc := 199) (tgt := 205) hx hb dX12_measure_199 (by decide) (fun q => ?_) (fun q => ?_)
        · have h := ite_t q h
          refine lv_aload_n (pc := 205) hx hb dX12_measure_205 rfl (lv_at hl 4 rfl) ?_
          refine s_getR (pc := 206) F w 122 ds_14 (j := 83) vc_X12 vi_X12 rfl (by decide) kf_X12_183 dX12_measure_206 ?_
          refine lv_iload (pc := 209) hx hb dX12_measure_209 (lv_at hl 0 rfl) ?_
          refine lv_aload_n (pc := 211) hx hb dX12_measure_211 rfl (lv_at hl 4 rfl) ?_
          refine s_getR (pc := 212) F w 122 ds_14 (j := 83) vc_X12 vi_X12 rfl (by decide) kf_X12_183 dX12_measure_212 ?_
          refine lv_aload_n (pc := 215) hx hb dX12_measure_215 rfl (lv_at hl 4 rfl) ?_
          refine s_getR (pc := 216) F w 127 ds_14 (j := 88) vc_X12 vi_X12 rfl (by decide) kf_X12_198 dX12_measure_216 ?_
          refine lv_iload_n (pc := 219) hx hb dX12_measure_219 rfl (lv_at hl 6 rfl) ?_
          refine s_iald (pc := 220) F w ds_127 h dX12_measure_220 (fun h => ?_)
          refine s_iald (pc := 221) F w ds_122 h dX12_measure_221 (fun h => ?_)
          refine lv_iconst (pc := 222) (v := 1) hx hb dX12_measure_222 (by decide) ?_
          refine lv_iadd (pc := 223) hx hb dX12_measure_223 ?_
          refine s_iast (pc := 224) F w ds_122 h dX12_measure_224 (fun S18 H locs h w => ?_)
          refine lv_aload_n (pc := 225) hx hb dX12_measure_225 rfl (lv_at hl 4 rfl) ?_
          refine s_getR (pc := 226) F w 127 ds_14 (j := 88) vc_X12 vi_X12 rfl (by decide) kf_X12_198 dX12_measure_226 ?_
          refine lv_iload_n (pc := 229) hx hb dX12_measure_229 rfl (lv_at hl 5 rfl) ?_
          refine lv_iload (pc := 230) hx hb dX12_measure_230 (lv_at hl 0 rfl) ?_
          refine s_iast (pc := 232) F w ds_127 h dX12_measure_232 (fun S19 H locs h w => ?_)
          refine s_nm h (fun z20 ez20 h => ?_)
          refine lv_iinc (pc := 233) (v := z20) (lv' := [(1, .int z20), (7, .int r16), (6, .int z11), (5, .int z10), (4, .int z9), (0, .ref (ad 14)), (2, .int x2), (3, .int x3)]) hx hb dX12_measure_233 hl (k := 5) rfl (by rw [ez20]; rfl) (by decide) rfl (fun ls hl => ?_)
          exact w_X12_measure_j236 F (Nat.le_trans (by decide) hR1) (Nat.le_trans (by decide) hR2) _ (fun v0 v1 v2 S h => ih v0 v1 v2 S h) _ _ _ _ h _ _ _ w (lv_sub hl [5, 0, 6, 7] rfl)
        · have h := ite_f q h
          refine lv_goto (pc := 202) (tgt := 236) hx hb dX12_measure_202 (by decide) ?_
          exact w_X12_measure_j236 F (Nat.le_trans (by decide) hR1) (Nat.le_trans (by decide) hR2) _ (fun v0 v1 v2 S h => ih v0 v1 v2 S h) _ _ _ _ h _ _ _ w (lv_sub hl [4, 5, 6, 7] rfl)
      · have h := ite_t q h
        refine lv_goto (pc := 163) (tgt := 236) hx hb dX12_measure_163 (by decide) ?_
        exact w_X12_measure_j236 F (Nat.le_trans (by decide) hR1) (Nat.le_trans (by decide) hR2) _ (fun v0 v1 v2 S h => ih v0 v1 v2 S h) _ _ _ _ h _ _ _ w (lv_sub hl [3, 4, 5, 6] rfl)
set_option maxRecDepth 100000 in
set_option maxHeartbeats 4000000 in
theorem w_X12_measure_L107 {p : Program} {l : Launch} {e : Env} {R : Room} {s : State} {m : MethodId} {args : Array Value} {below : List Frame} {meth : Method} {c : Code} {dC : Nat → ClassId} {dI : Nat → Nat → Nat} {cs : Nat → ClassId} {ad : Nat → Nat} {A : Nat → Prop} {D0 : Nat → Nat} {S' : SS} (F : Fx p s m args meth c cX12_measure 8 RX12 none dC dI cs A) (hR1 : 2 ≤ R.frames) (hR2 : 47 ≤ R.locals) : ∀ (n : Nat) (x1 : Int32) (x2 : Int32) (S : SS), f_X12_measure_L107 n x1 x2 S = some S' → AW p l e R s m args below meth c dC dI cs ad A D0 none S' 8 107 [(0, .ref (ad 14)), (1, .int x1), (2, .int x2)] [] S := by
  have hx := F.1.1
  have hb := F.1.2.1
  intro n
  induction n with
  | zero => intro x1 x2 S h; cases h
  | succ n ih =>
    intro x1 x2 S h H locs ls w hl
    rw [f_X12_measure_L107] at h
    refine lv_iload_n (pc := 107) hx hb dX12_measure_107 rfl (lv_at hl 2 rfl) ?_
    refine lv_iload_n (pc := 108) hx hb dX12_measure_108 rfl (lv_at hl 1 rfl) ?_
    refine lv_icmp_ge (pc := 109) (tgt := 248) hx hb dX12_measure_109 (by decide) (fun q => ?_) (fun q => ?_)
    · have h := ite_t q h
      exact s_vret F w h dX12_measure_248
    · have h := ite_f q h
      refine lv_aload_n (pc := 112) hx hb dX12_measure_112 rfl (lv_at hl 0 rfl) ?_
      refine lv_aload_n (pc := 113) hx hb dX12_measure_113 rfl (lv_at hl 0 rfl) ?_
      refine s_getR (pc := 114) F w 127 ds_14 (j := 88) vc_X12 vi_X12 rfl (by decide) kf_X12_198 dX12_measure_114 ?_
      refine lv_iload_n (pc := 117) hx hb dX12_measure_117 rfl (lv_at hl 2 rfl) ?_
      refine s_iald (pc := 118) F w ds_127 h dX12_measure_118 (fun h => ?_)
      obtain ⟨S7, hc, h⟩ := bndv_t h
      refine s_cvv (pc := 119) [.int (S.1 127 x2.toNatClampNeg)] (fun ad => [.ref (ad 14), .int (S.1 127 x2.toNatClampNeg)]) F w (m_X12_decode _ _ _ hc) rfl rfl hl.1 ds_14 vc_X12 rfl ok_X12_decode rfl kc_X12_decode kl_X12_479 ki_X12_decode kv_X12_decode kn_X12 ⟨Nat.le_trans (by decide) hR1, Nat.le_trans (by decide) hR2⟩ ⟨Nat.zero_le _, Nat.zero_le _⟩ (Nat.le_of_ble_eq_true rfl) dX12_measure_119 (fun H locs w => ?_)
      refine lv_iconst (pc := 122) (v := 0) hx hb dX12_measure_122 (by decide) ?_
      refine lv_istore_n (pc := 123) (lv' := [(3, .int (0 : Int32)), (0, .ref (ad 14)), (1, .int x1), (2, .int x2)]) hx hb dX12_measure_123 rfl hl (by decide) rfl (fun ls hl => ?_)
      exact w_X12_measure_L124 F (Nat.le_trans (by decide) hR1) (Nat.le_trans (by decide) hR2) _ (fun v0 v1 S h => ih v0 v1 S h) _ _ _ _ _ h _ _ _ w (lv_sub hl [1, 2, 3, 0] rfl)
set_option maxRecDepth 100000 in
set_option maxHeartbeats 4000000 in
theorem w_X12_measure_L56 {p : Program} {l : Launch} {e : Env} {R : Room} {s : State} {m : MethodId} {args : Array Value} {below : List Frame} {meth : Method} {c : Code} {dC : Nat → ClassId} {dI : Nat → Nat → Nat} {cs : Nat → ClassId} {ad : Nat → Nat} {A : Nat → Prop} {D0 : Nat → Nat} {S' : SS} (F : Fx p s m args meth c cX12_measure 8 RX12 none dC dI cs A) (hR1 : 2 ≤ R.frames) (hR2 : 47 ≤ R.locals) : ∀ (n : Nat) (x1 : Int32) (S : SS), f_X12_measure_L56 n x1 S = some S' → AW p l e R s m args below meth c dC dI cs ad A D0 none S' 8 56 [(0, .ref (ad 14)), (1, .int x1)] [] S := by
  have hx := F.1.1
  have hb := F.1.2.1
  intro n
  induction n with
  | zero => intro x1 S h; cases h
  | succ n ih =>
    intro x1 S h H locs ls w hl
    rw [f_X12_measure_L56] at h
    refine lv_iload_n (pc := 56) hx hb dX12_measure_56 rfl (lv_at hl 1 rfl) ?_
    refine lv_sipush (pc := 57) (v := 25920) hx hb dX12_measure_57 (by decide) ?_
    refine lv_icmp_ge (pc := 60) (tgt := 76) hx hb dX12_measure_60 (by decide) (fun q => ?_) (fun q => ?_)
    · have h := ite_t q h
      refine lv_aload_n (pc := 76) hx hb dX12_measure_76 rfl (lv_at hl 0 rfl) ?_
      refine lv_iconst (pc := 77) (v := 1) hx hb dX12_measure_77 (by decide) ?_
      obtain ⟨S2, hc, h⟩ := bndv_t h
      refine s_cvv (pc := 78) [.int (1 : Int32)] (fun ad => [.ref (ad 14), .int (1 : Int32)]) F w (m_X12_take _ _ _ hc) rfl rfl hl.1 ds_14 vc_X12 rfl ok_X12_take rfl kc_X12_take kl_X12_472 ki_X12_take kv_X12_take kn_X12 ⟨Nat.le_trans (by decide) hR1, Nat.le_trans (by decide) hR2⟩ ⟨Nat.zero_le _, Nat.zero_le _⟩ (Nat.le_of_ble_eq_true rfl) dX12_measure_78 (fun H locs w => ?_)
      refine lv_aload_n (pc := 81) hx hb dX12_measure_81 rfl (lv_at hl 0 rfl) ?_
      refine s_getR (pc := 82) F w 127 ds_14 (j := 88) vc_X12 vi_X12 rfl (by decide) kf_X12_198 dX12_measure_82 ?_
      refine lv_iconst (pc := 85) (v := 0) hx hb dX12_measure_85 (by decide) ?_
      refine lv_aload_n (pc := 86) hx hb dX12_measure_86 rfl (lv_at hl 0 rfl) ?_
      obtain ⟨r4, S3, hc, h⟩ := bnd_t h
      refine s_cvi (pc := 87) [] (fun ad => [.ref (ad 14)]) F w (m_X12_code  _ _ _ hc) rfl rfl hl.1 ds_14 vc_X12 rfl ok_X12_code rfl kc_X12_code kl_X12_476 ki_X12_code kv_X12_code kn_X12 ⟨Nat.le_trans (by decide) hR1, Nat.le_trans (by decide) hR2⟩ ⟨Nat.zero_le _, Nat.zero_le _⟩ (Nat.le_of_ble_eq_true rfl) dX12_measure_87 (fun H locs w => ?_)
      refine s_iast (pc := 90) F w ds_127 h dX12_measure_90 (fun S5 H locs h w => ?_)
      refine lv_aload_n (pc := 91) hx hb dX12_measure_91 rfl (lv_at hl 0 rfl) ?_
      refine s_getR (pc := 92) F w 122 ds_14 (j := 83) vc_X12 vi_X12 rfl (by decide) kf_X12_183 dX12_measure_92 ?_
      refine lv_aload_n (pc := 95) hx hb dX12_measure_95 rfl (lv_at hl 0 rfl) ?_
      refine s_getR (pc := 96) F w 127 ds_14 (j := 88) vc_X12 vi_X12 rfl (by decide) kf_X12_198 dX12_measure_96 ?_
      refine lv_iconst (pc := 99) (v := 0) hx hb dX12_measure_99 (by decide) ?_
      refine s_iald (pc := 100) F w ds_127 h dX12_measure_100 (fun h => ?_)
      refine lv_iconst (pc := 101) (v := 0) hx hb dX12_measure_101 (by decide) ?_
      refine s_iast (pc := 102) F w ds_122 h dX12_measure_102 (fun S6 H locs h w => ?_)
      refine lv_iconst (pc := 103) (v := 1) hx hb dX12_measure_103 (by decide) ?_
      refine lv_istore_n (pc := 104) (lv' := [(1, .int (1 : Int32)), (0, .ref (ad 14))]) hx hb dX12_measure_104 rfl hl (by decide) rfl (fun ls hl => ?_)
      refine lv_iconst (pc := 105) (v := 0) hx hb dX12_measure_105 (by decide) ?_
      refine lv_istore_n (pc := 106) (lv' := [(2, .int (0 : Int32)), (1, .int (1 : Int32)), (0, .ref (ad 14))]) hx hb dX12_measure_106 rfl hl (by decide) rfl (fun ls hl => ?_)
      exact w_X12_measure_L107 F (Nat.le_trans (by decide) hR1) (Nat.le_trans (by decide) hR2) _ _ _ _ h _ _ _ w (lv_sub hl [2, 1, 0] rfl)
    · have h := ite_f q h
      refine lv_aload_n (pc := 63) hx hb dX12_measure_63 rfl (lv_at hl 0 rfl) ?_
      refine s_getR (pc := 64) F w 122 ds_14 (j := 83) vc_X12 vi_X12 rfl (by decide) kf_X12_183 dX12_measure_64 ?_
      refine lv_iload_n (pc := 67) hx hb dX12_measure_67 rfl (lv_at hl 1 rfl) ?_
      refine lv_iconst (pc := 68) (v := -1) hx hb dX12_measure_68 (by decide) ?_
      refine s_iast (pc := 69) F w ds_122 h dX12_measure_69 (fun S22 H locs h w => ?_)
      refine s_nm h (fun z23 ez23 h => ?_)
      refine lv_iinc (pc := 70) (v := z23) (lv' := [(1, .int z23), (0, .ref (ad 14))]) hx hb dX12_measure_70 hl (k := 1) rfl (by rw [ez23]; rfl) (by decide) rfl (fun ls hl => ?_)
      refine lv_goto (pc := 73) (tgt := 56) hx hb dX12_measure_73 (by decide) ?_
      exact ih _ _ h _ _ _ w (lv_sub hl [1, 0] rfl)
set_option maxRecDepth 100000 in
set_option maxHeartbeats 4000000 in
theorem w_X12_measure_j48 {p : Program} {l : Launch} {e : Env} {R : Room} {s : State} {m : MethodId} {args : Array Value} {below : List Frame} {meth : Method} {c : Code} {dC : Nat → ClassId} {dI : Nat → Nat → Nat} {cs : Nat → ClassId} {ad : Nat → Nat} {A : Nat → Prop} {D0 : Nat → Nat} {S' : SS} (F : Fx p s m args meth c cX12_measure 8 RX12 none dC dI cs A) (hR1 : 0 ≤ R.frames) (hR2 : 0 ≤ R.locals) (K7 : Int32 → SS → Option (SS)) (hK7 : ∀ (v0 : Int32) (S : SS), K7 v0 S = some S' → AW p l e R s m args below meth c dC dI cs ad A D0 none S' 8 7 [(0, .ref (ad 14)), (1, .int v0)] [] S) (x1 : Int32) (S : SS) (h : f_X12_measure_j48 K7 x1 S = some S') : AW p l e R s m args below meth c dC dI cs ad A D0 none S' 8 48 [(0, .ref (ad 14)), (1, .int x1)] [] S := by
  have hx := F.1.1
  have hb := F.1.2.1
  intro H locs ls w hl
  rw [f_X12_measure_j48] at h
  refine s_nm h (fun z26 ez26 h => ?_)
  refine lv_iinc (pc := 48) (v := z26) (lv' := [(1, .int z26), (0, .ref (ad 14))]) hx hb dX12_measure_48 hl (k := 1) rfl (by rw [ez26]; rfl) (by decide) rfl (fun ls hl => ?_)
  refine lv_goto (pc := 51) (tgt := 7) hx hb dX12_measure_51 (by decide) ?_
  exact hK7 _ _ h _ _ _ w (lv_sub hl [1, 0] rfl)
set_option maxRecDepth 100000 in
set_option maxHeartbeats 4000000 in
theorem w_X12_measure_L7 {p : Program} {l : Launch} {e : Env} {R : Room} {s : State} {m : MethodId} {args : Array Value} {below : List Frame} {meth : Method} {c : Code} {dC : Nat → ClassId} {dI : Nat → Nat → Nat} {cs : Nat → ClassId} {ad : Nat → Nat} {A : Nat → Prop} {D0 : Nat → Nat} {S' : SS} (F : Fx p s m args meth c cX12_measure 8 RX12 none dC dI cs A) (hR1 : 2 ≤ R.frames) (hR2 : 47 ≤ R.locals) : ∀ (n : Nat) (x1 : Int32) (S : SS), f_X12_measure_L7 n x1 S = some S' → AW p l e R s m args below meth c dC dI cs ad A D0 none S' 8 7 [(0, .ref (ad 14)), (1, .int x1)] [] S := by
  have hx := F.1.1
  have hb := F.1.2.1
  intro n
  induction n with
  | zero => intro x1 S h; cases h
  | succ n ih =>
    intro x1 S h H locs ls w hl
    rw [f_X12_measure_L7] at h
    refine lv_iload_n (pc := 7) hx hb dX12_measure_7 rfl (lv_at hl 1 rfl) ?_
    refine lv_bipush (pc := 8) (v := 10) hx hb dX12_measure_8 (by decide) ?_
    refine lv_icmp_ge (pc := 10) (tgt := 54) hx hb dX12_measure_10 (by decide) (fun q => ?_) (fun q => ?_)
    · have h := ite_t q h
      refine lv_iconst (pc := 54) (v := 0) hx hb dX12_measure_54 (by decide) ?_
      refine lv_istore_n (pc := 55) (lv' := [(1, .int (0 : Int32)), (0, .ref (ad 14))]) hx hb dX12_measure_55 rfl hl (by decide) rfl (fun ls hl => ?_)
      exact w_X12_measure_L56 F (Nat.le_trans (by decide) hR1) (Nat.le_trans (by decide) hR2) _ _ _ h _ _ _ w (lv_sub hl [1, 0] rfl)
    · have h := ite_f q h
      refine lv_aload_n (pc := 13) hx hb dX12_measure_13 rfl (lv_at hl 0 rfl) ?_
      refine s_getR (pc := 14) F w 116 ds_14 (j := 74) vc_X12 vi_X12 rfl (by decide) kf_X12_162 dX12_measure_14 ?_
      refine lv_aload_n (pc := 17) hx hb dX12_measure_17 rfl (lv_at hl 0 rfl) ?_
      refine s_getR (pc := 18) F w 117 ds_14 (j := 75) vc_X12 vi_X12 rfl (by decide) kf_X12_165 dX12_measure_18 ?_
      refine lv_iload_n (pc := 21) hx hb dX12_measure_21 rfl (lv_at hl 1 rfl) ?_
      obtain ⟨r25, S24, hc, h⟩ := bnd_t h
      refine s_csi (pc := 22) [.ref (ad 116), .ref (ad 117), .int x1] (fun ad => [.ref (ad 116), .ref (ad 117), .int x1]) F w (m_X12_has_Model_goalMany_Model_goalOn _ _ _ _ hc) rfl rfl hl.1 ok_X12_has rfl kc_X12_has kl_X12_451 ks_X12_has kn_X12 ⟨Nat.le_trans (by decide) hR1, Nat.le_trans (by decide) hR2⟩ ⟨Nat.zero_le _, Nat.zero_le _⟩ (Nat.le_of_ble_eq_true rfl) dX12_measure_22 (fun H locs w => ?_)
      refine lv_if_eq (pc := 25) (tgt := 48) hx hb dX12_measure_25 (by decide) (fun q => ?_) (fun q => ?_)
      · have h := ite_t q h
        exact w_X12_measure_j48 F (Nat.le_trans (by decide) hR1) (Nat.le_trans (by decide) hR2) _ (fun v0 S h => ih v0 S h) _ _ h _ _ _ w (lv_sub hl [0, 1] rfl)
      · have h := ite_f q h
        refine lv_aload_n (pc := 28) hx hb dX12_measure_28 rfl (lv_at hl 0 rfl) ?_
        refine s_getR (pc := 29) F w 121 ds_14 (j := 82) vc_X12 vi_X12 rfl (by decide) kf_X12_180 dX12_measure_29 ?_
        refine lv_aload_n (pc := 32) hx hb dX12_measure_32 rfl (lv_at hl 0 rfl) ?_
        refine s_getI (pc := 33) F w ds_14 (j := 81) vc_X12 vi_X12 rfl (by decide) kf_X12_466 dX12_measure_33 ?_
        refine lv_iload_n (pc := 36) hx hb dX12_measure_36 rfl (lv_at hl 1 rfl) ?_
        refine s_iast (pc := 37) F w ds_121 h dX12_measure_37 (fun S27 H locs h w => ?_)
        refine lv_aload_n (pc := 38) hx hb dX12_measure_38 rfl (lv_at hl 0 rfl) ?_
        refine lv_dup (pc := 39) hx hb dX12_measure_39 rfl ?_
        refine s_getI (pc := 40) F w ds_14 (j := 81) vc_X12 vi_X12 rfl (by decide) kf_X12_466 dX12_measure_40 ?_
        refine lv_iconst (pc := 43) (v := 1) hx hb dX12_measure_43 (by decide) ?_
        refine lv_iadd (pc := 44) hx hb dX12_measure_44 ?_
        refine s_putI (pc := 45) F w ds_14 vc_X12 vi_X12 tyX12_ok nmX12 (j := 81) rfl (by decide) kf_X12_466 rfl pd_I h dX12_measure_45 (fun S28 H locs h w => ?_)
        exact w_X12_measure_j48 F (Nat.le_trans (by decide) hR1) (Nat.le_trans (by decide) hR2) _ (fun v0 S h => ih v0 S h) _ _ h _ _ _ w (lv_sub hl [0, 1] rfl)
set_option maxRecDepth 100000 in
set_option maxHeartbeats 4000000 in
theorem m_X12_measure  (S S' : SS) (h : f_X12_measure  S = some S') : MT yX12_measure cX12_measure 8 none 2 47 (fun ad => [.ref (ad 14)]) S none S' := by
  refine MT.of RX12 (fun ad => [(0, .ref (ad 14))]) (by decide) rfl (fun _ => Nat.le_of_ble_eq_true rfl) (fun _ => rfl) ?_
  intro p l e R s m args below meth c dC dI cs ad A hR1 hR2 F H locs ls w hl
  have hx := F.1.1
  have hb := F.1.2.1
  rw [f_X12_measure] at h
  refine lv_aload_n (pc := 0) hx hb dX12_measure_0 rfl (lv_at hl 0 rfl) ?_
  refine lv_iconst (pc := 1) (v := 0) hx hb dX12_measure_1 (by decide) ?_
  refine s_putI (pc := 2) F w ds_14 vc_X12 vi_X12 tyX12_ok nmX12 (j := 81) rfl (by decide) kf_X12_466 rfl pd_I h dX12_measure_2 (fun S1 H locs h w => ?_)
  refine lv_iconst (pc := 5) (v := 0) hx hb dX12_measure_5 (by decide) ?_
  refine lv_istore_n (pc := 6) (lv' := [(1, .int (0 : Int32)), (0, .ref (ad 14))]) hx hb dX12_measure_6 rfl hl (by decide) rfl (fun ls hl => ?_)
  exact w_X12_measure_L7 F (Nat.le_trans (by decide) hR1) (Nat.le_trans (by decide) hR2) _ _ _ h _ _ _ w (lv_sub hl [1, 0] rfl)
def f_X12_hasFallen (a1 : Int32) (a2 : Int32) (a3 : Int32) (a4 : Int32) (S : SS) : Option (Int32 × SS) :=
  bndv (f_X12_decode a1 S) (fun S1 =>
  bnd (f_X12_mayMove a2 a3 a4 S1) (fun r3 S2 =>
  if r3 = 0 then
    some ((0 : Int32), S2)
  else
    bndv (f_X12_shift a2 a3 a4 S2) (fun S4 =>
    bnd (f_X12_code  S4) (fun r6 S5 =>
    grd (inb r6 25920) (
    grd (inb a1 25920) (
    if (S5.1 122 r6.toNatClampNeg) = ((S5.1 122 a1.toNatClampNeg) - (1 : Int32)) then
      some ((1 : Int32), S5)
    else
      some ((0 : Int32), S5)))))))
theorem dX12_hasFallen_0 : decode cX12_hasFallen 0 = .ok (.aload_n 0, 1) := by decide +kernel
theorem dX12_hasFallen_1 : decode cX12_hasFallen 1 = .ok (.iload_n 1, 1) := by decide +kernel
theorem dX12_hasFallen_2 : decode cX12_hasFallen 2 = .ok (.invokevirtual 479, 3) := by decide +kernel
theorem dX12_hasFallen_5 : decode cX12_hasFallen 5 = .ok (.aload_n 0, 1) := by decide +kernel
theorem dX12_hasFallen_6 : decode cX12_hasFallen 6 = .ok (.iload_n 2, 1) := by decide +kernel
theorem dX12_hasFallen_7 : decode cX12_hasFallen 7 = .ok (.iload_n 3, 1) := by decide +kernel
theorem dX12_hasFallen_8 : decode cX12_hasFallen 8 = .ok (.iload 4, 2) := by decide +kernel
theorem dX12_hasFallen_10 : decode cX12_hasFallen 10 = .ok (.invokevirtual 482, 3) := by decide +kernel
theorem dX12_hasFallen_13 : decode cX12_hasFallen 13 = .ok (.ifCond .ne 5, 3) := by decide +kernel
theorem dX12_hasFallen_16 : decode cX12_hasFallen 16 = .ok (.iconst 0, 1) := by decide +kernel
theorem dX12_hasFallen_17 : decode cX12_hasFallen 17 = .ok (.ireturn, 1) := by decide +kernel
theorem dX12_hasFallen_18 : decode cX12_hasFallen 18 = .ok (.aload_n 0, 1) := by decide +kernel
theorem dX12_hasFallen_19 : decode cX12_hasFallen 19 = .ok (.iload_n 2, 1) := by decide +kernel
theorem dX12_hasFallen_20 : decode cX12_hasFallen 20 = .ok (.iload_n 3, 1) := by decide +kernel
theorem dX12_hasFallen_21 : decode cX12_hasFallen 21 = .ok (.iload 4, 2) := by decide +kernel
theorem dX12_hasFallen_23 : decode cX12_hasFallen 23 = .ok (.invokevirtual 485, 3) := by decide +kernel
theorem dX12_hasFallen_26 : decode cX12_hasFallen 26 = .ok (.aload_n 0, 1) := by decide +kernel
theorem dX12_hasFallen_27 : decode cX12_hasFallen 27 = .ok (.getfield 183, 3) := by decide +kernel
theorem dX12_hasFallen_30 : decode cX12_hasFallen 30 = .ok (.aload_n 0, 1) := by decide +kernel
theorem dX12_hasFallen_31 : decode cX12_hasFallen 31 = .ok (.invokevirtual 476, 3) := by decide +kernel
theorem dX12_hasFallen_34 : decode cX12_hasFallen 34 = .ok (.iaload, 1) := by decide +kernel
theorem dX12_hasFallen_35 : decode cX12_hasFallen 35 = .ok (.aload_n 0, 1) := by decide +kernel
theorem dX12_hasFallen_36 : decode cX12_hasFallen 36 = .ok (.getfield 183, 3) := by decide +kernel
theorem dX12_hasFallen_39 : decode cX12_hasFallen 39 = .ok (.iload_n 1, 1) := by decide +kernel
theorem dX12_hasFallen_40 : decode cX12_hasFallen 40 = .ok (.iaload, 1) := by decide +kernel
theorem dX12_hasFallen_41 : decode cX12_hasFallen 41 = .ok (.iconst 1, 1) := by decide +kernel
theorem dX12_hasFallen_42 : decode cX12_hasFallen 42 = .ok (.isub, 1) := by decide +kernel
theorem dX12_hasFallen_43 : decode cX12_hasFallen 43 = .ok (.if_icmp .ne 7, 3) := by decide +kernel
theorem dX12_hasFallen_46 : decode cX12_hasFallen 46 = .ok (.iconst 1, 1) := by decide +kernel
theorem dX12_hasFallen_47 : decode cX12_hasFallen 47 = .ok (.goto 4, 3) := by decide +kernel
theorem dX12_hasFallen_50 : decode cX12_hasFallen 50 = .ok (.iconst 0, 1) := by decide +kernel
theorem dX12_hasFallen_51 : decode cX12_hasFallen 51 = .ok (.ireturn, 1) := by decide +kernel
set_option maxRecDepth 100000 in
set_option maxHeartbeats 4000000 in
theorem m_X12_hasFallen (a1 : Int32) (a2 : Int32) (a3 : Int32) (a4 : Int32) (S S' : SS) (r : Int32) (h : f_X12_hasFallen a1 a2 a3 a4 S = some (r, S')) : MT yX12_hasFallen cX12_hasFallen 5 (some .boolean) 2 47 (fun ad => [.ref (ad 14), .int a1, .int a2, .int a3, .int a4]) S (some (.int r)) S' := by
  refine MT.of RX12 (fun ad => [(0, .ref (ad 14)), (1, .int a1), (2, .int a2), (3, .int a3), (4, .int a4)]) (by decide) rfl (fun _ => Nat.le_of_ble_eq_true rfl) (fun _ => rfl) ?_
  intro p l e R s m args below meth c dC dI cs ad A hR1 hR2 F H locs ls w hl
  have hx := F.1.1
  have hb := F.1.2.1
  rw [f_X12_hasFallen] at h
  refine lv_aload_n (pc := 0) hx hb dX12_hasFallen_0 rfl (lv_at hl 0 rfl) ?_
  refine lv_iload_n (pc := 1) hx hb dX12_hasFallen_1 rfl (lv_at hl 1 rfl) ?_
  obtain ⟨S1, hc, h⟩ := bndv_t h
  refine s_cvv (pc := 2) [.int a1] (fun ad => [.ref (ad 14), .int a1]) F w (m_X12_decode _ _ _ hc) rfl rfl hl.1 ds_14 vc_X12 rfl ok_X12_decode rfl kc_X12_decode kl_X12_479 ki_X12_decode kv_X12_decode kn_X12 ⟨Nat.le_trans (by decide) hR1, Nat.le_trans (by decide) hR2⟩ ⟨Nat.zero_le _, Nat.zero_le _⟩ (Nat.le_of_ble_eq_true rfl) dX12_hasFallen_2 (fun H locs w => ?_)
  refine lv_aload_n (pc := 5) hx hb dX12_hasFallen_5 rfl (lv_at hl 0 rfl) ?_
  refine lv_iload_n (pc := 6) hx hb dX12_hasFallen_6 rfl (lv_at hl 2 rfl) ?_
  refine lv_iload_n (pc := 7) hx hb dX12_hasFallen_7 rfl (lv_at hl 3 rfl) ?_
  refine lv_iload (pc := 8) hx hb dX12_hasFallen_8 (lv_at hl 4 rfl) ?_
  obtain ⟨r3, S2, hc, h⟩ := bnd_t h
  refine s_cvi (pc := 10) [.int a2, .int a3, .int a4] (fun ad => [.ref (ad 14), .int a2, .int a3, .int a4]) F w (m_X12_mayMove _ _ _ _ _ _ hc) rfl rfl hl.1 ds_14 vc_X12 rfl ok_X12_mayMove rfl kc_X12_mayMove kl_X12_482 ki_X12_mayMove kv_X12_mayMove kn_X12 ⟨Nat.le_trans (by decide) hR1, Nat.le_trans (by decide) hR2⟩ ⟨Nat.zero_le _, Nat.zero_le _⟩ (Nat.le_of_ble_eq_true rfl) dX12_hasFallen_10 (fun H locs w => ?_)
  refine lv_if_ne (pc := 13) (tgt := 18) hx hb dX12_hasFallen_13 (by decide) (fun q => ?_) (fun q => ?_)
  · have h := ite_f q h
    refine lv_aload_n (pc := 18) hx hb dX12_hasFallen_18 rfl (lv_at hl 0 rfl) ?_
    refine lv_iload_n (pc := 19) hx hb dX12_hasFallen_19 rfl (lv_at hl 2 rfl) ?_
    refine lv_iload_n (pc := 20) hx hb dX12_hasFallen_20 rfl (lv_at hl 3 rfl) ?_
    refine lv_iload (pc := 21) hx hb dX12_hasFallen_21 (lv_at hl 4 rfl) ?_
    obtain ⟨S4, hc, h⟩ := bndv_t h
    refine s_cvv (pc := 23) [.int a2, .int a3, .int a4] (fun ad => [.ref (ad 14), .int a2, .int a3, .int a4]) F w (m_X12_shift _ _ _ _ _ hc) rfl rfl hl.1 ds_14 vc_X12 rfl ok_X12_shift rfl kc_X12_shift kl_X12_485 ki_X12_shift kv_X12_shift kn_X12 ⟨Nat.le_trans (by decide) hR1, Nat.le_trans (by decide) hR2⟩ ⟨Nat.zero_le _, Nat.zero_le _⟩ (Nat.le_of_ble_eq_true rfl) dX12_hasFallen_23 (fun H locs w => ?_)
    refine lv_aload_n (pc := 26) hx hb dX12_hasFallen_26 rfl (lv_at hl 0 rfl) ?_
    refine s_getR (pc := 27) F w 122 ds_14 (j := 83) vc_X12 vi_X12 rfl (by decide) kf_X12_183 dX12_hasFallen_27 ?_
    refine lv_aload_n (pc := 30) hx hb dX12_hasFallen_30 rfl (lv_at hl 0 rfl) ?_
    obtain ⟨r6, S5, hc, h⟩ := bnd_t h
    refine s_cvi (pc := 31) [] (fun ad => [.ref (ad 14)]) F w (m_X12_code  _ _ _ hc) rfl rfl hl.1 ds_14 vc_X12 rfl ok_X12_code rfl kc_X12_code kl_X12_476 ki_X12_code kv_X12_code kn_X12 ⟨Nat.le_trans (by decide) hR1, Nat.le_trans (by decide) hR2⟩ ⟨Nat.zero_le _, Nat.zero_le _⟩ (Nat.le_of_ble_eq_true rfl) dX12_hasFallen_31 (fun H locs w => ?_)
    refine s_iald (pc := 34) F w ds_122 h dX12_hasFallen_34 (fun h => ?_)
    refine lv_aload_n (pc := 35) hx hb dX12_hasFallen_35 rfl (lv_at hl 0 rfl) ?_
    refine s_getR (pc := 36) F w 122 ds_14 (j := 83) vc_X12 vi_X12 rfl (by decide) kf_X12_183 dX12_hasFallen_36 ?_
    refine lv_iload_n (pc := 39) hx hb dX12_hasFallen_39 rfl (lv_at hl 1 rfl) ?_
    refine s_iald (pc := 40) F w ds_122 h dX12_hasFallen_40 (fun h => ?_)
    refine lv_iconst (pc := 41) (v := 1) hx hb dX12_hasFallen_41 (by decide) ?_
    refine lv_isub (pc := 42) hx hb dX12_hasFallen_42 ?_
    refine lv_icmp_ne (pc := 43) (tgt := 50) hx hb dX12_hasFallen_43 (by decide) (fun q => ?_) (fun q => ?_)
    · have h := ite_f q h
      refine lv_iconst (pc := 50) (v := 0) hx hb dX12_hasFallen_50 (by decide) ?_
      exact s_zretc F w rfl h dX12_hasFallen_51
    · have h := ite_t q h
      refine lv_iconst (pc := 46) (v := 1) hx hb dX12_hasFallen_46 (by decide) ?_
      refine lv_goto (pc := 47) (tgt := 51) hx hb dX12_hasFallen_47 (by decide) ?_
      exact s_zretc F w rfl h dX12_hasFallen_51
  · have h := ite_t q h
    refine lv_iconst (pc := 16) (v := 0) hx hb dX12_hasFallen_16 (by decide) ?_
    exact s_zretc F w rfl h dX12_hasFallen_17
def f_X12_wander_L25 (K14 : Int32 → SS → Option (SS)) : Nat → Int32 → Int32 → SS → Option (SS)
  | 0, _, _, _ => none
  | n + 1, x2, x3, S =>
    bnd (f_X12_hasFallen x2 (x3 / (20 : Int32)) ((x3 / (5 : Int32)) - (x3 / (5 : Int32)) / (4 : Int32) * (4 : Int32)) ((x3 - x3 / (5 : Int32) * (5 : Int32)) + (1 : Int32)) S) (fun r4 S3 =>
    if r4 = 0 then
      nm (x3 + (1 : Int32)) (fun z12 =>
      f_X12_wander_L25 K14 n x2 z12 S3)
    else
      grd (inb (S3.1 14 77) 400) (wr S3 118 (S3.1 14 77).toNatClampNeg (x3 / (20 : Int32)) (fun S5 =>
      grd (inb (S5.1 14 77) 400) (wr S5 119 (S5.1 14 77).toNatClampNeg ((x3 / (5 : Int32)) - (x3 / (5 : Int32)) / (4 : Int32) * (4 : Int32)) (fun S6 =>
      grd (inb (S6.1 14 77) 400) (wr S6 120 (S6.1 14 77).toNatClampNeg ((x3 - x3 / (5 : Int32) * (5 : Int32)) + (1 : Int32)) (fun S7 =>
      bnd (f_X12_code  S7) (fun r9 S8 =>
      wr S8 14 77 ((S8.1 14 77) + (1 : Int32)) (fun S10 =>
      grd (inb (S10.1 14 77) 400) (wr S10 123 (S10.1 14 77).toNatClampNeg r9 (fun S11 =>
      K14 r9 S11)))))))))))
def f_X12_wander_L14  : Nat → Int32 → SS → Option (SS)
  | 0, _, _ => none
  | n + 1, x2, S =>
    grd (inb x2 25920) (
    if (S.1 122 x2.toNatClampNeg) ≤ 0 then
      some S
    else
      f_X12_wander_L25 (fun v0 S => f_X12_wander_L14 n v0 S) NF x2 (0 : Int32) S)
def f_X12_wander (a1 : Int32) (S : SS) : Option (SS) :=
  wr S 14 77 (0 : Int32) (fun S1 =>
  grd (inb (0 : Int32) 400) (wr S1 123 (0 : Int32).toNatClampNeg a1 (fun S2 =>
  f_X12_wander_L14 NF a1 S2)))
theorem dX12_wander_0 : decode cX12_wander 0 = .ok (.iload_n 1, 1) := by decide +kernel
theorem dX12_wander_1 : decode cX12_wander 1 = .ok (.istore_n 2, 1) := by decide +kernel
theorem dX12_wander_2 : decode cX12_wander 2 = .ok (.aload_n 0, 1) := by decide +kernel
theorem dX12_wander_3 : decode cX12_wander 3 = .ok (.iconst 0, 1) := by decide +kernel
theorem dX12_wander_4 : decode cX12_wander 4 = .ok (.putfield 463, 3) := by decide +kernel
theorem dX12_wander_7 : decode cX12_wander 7 = .ok (.aload_n 0, 1) := by decide +kernel
theorem dX12_wander_8 : decode cX12_wander 8 = .ok (.getfield 186, 3) := by decide +kernel
theorem dX12_wander_11 : decode cX12_wander 11 = .ok (.iconst 0, 1) := by decide +kernel
theorem dX12_wander_12 : decode cX12_wander 12 = .ok (.iload_n 2, 1) := by decide +kernel
theorem dX12_wander_13 : decode cX12_wander 13 = .ok (.iastore, 1) := by decide +kernel
theorem dX12_wander_14 : decode cX12_wander 14 = .ok (.aload_n 0, 1) := by decide +kernel
theorem dX12_wander_15 : decode cX12_wander 15 = .ok (.getfield 183, 3) := by decide +kernel
theorem dX12_wander_18 : decode cX12_wander 18 = .ok (.iload_n 2, 1) := by decide +kernel
theorem dX12_wander_19 : decode cX12_wander 19 = .ok (.iaload, 1) := by decide +kernel
theorem dX12_wander_20 : decode cX12_wander 20 = .ok (.ifCond .le 102, 3) := by decide +kernel
theorem dX12_wander_23 : decode cX12_wander 23 = .ok (.iconst 0, 1) := by decide +kernel
theorem dX12_wander_24 : decode cX12_wander 24 = .ok (.istore_n 3, 1) := by decide +kernel
theorem dX12_wander_25 : decode cX12_wander 25 = .ok (.aload_n 0, 1) := by decide +kernel
theorem dX12_wander_26 : decode cX12_wander 26 = .ok (.iload_n 2, 1) := by decide +kernel
theorem dX12_wander_27 : decode cX12_wander 27 = .ok (.iload_n 3, 1) := by decide +kernel
theorem dX12_wander_28 : decode cX12_wander 28 = .ok (.bipush 20, 2) := by decide +kernel
theorem dX12_wander_30 : decode cX12_wander 30 = .ok (.idiv, 1) := by decide +kernel
theorem dX12_wander_31 : decode cX12_wander 31 = .ok (.iload_n 3, 1) := by decide +kernel
theorem dX12_wander_32 : decode cX12_wander 32 = .ok (.iconst 5, 1) := by decide +kernel
theorem dX12_wander_33 : decode cX12_wander 33 = .ok (.idiv, 1) := by decide +kernel
theorem dX12_wander_34 : decode cX12_wander 34 = .ok (.iconst 4, 1) := by decide +kernel
theorem dX12_wander_35 : decode cX12_wander 35 = .ok (.irem, 1) := by decide +kernel
theorem dX12_wander_36 : decode cX12_wander 36 = .ok (.iload_n 3, 1) := by decide +kernel
theorem dX12_wander_37 : decode cX12_wander 37 = .ok (.iconst 5, 1) := by decide +kernel
theorem dX12_wander_38 : decode cX12_wander 38 = .ok (.irem, 1) := by decide +kernel
theorem dX12_wander_39 : decode cX12_wander 39 = .ok (.iconst 1, 1) := by decide +kernel
theorem dX12_wander_40 : decode cX12_wander 40 = .ok (.iadd, 1) := by decide +kernel
theorem dX12_wander_41 : decode cX12_wander 41 = .ok (.invokevirtual 489, 3) := by decide +kernel
theorem dX12_wander_44 : decode cX12_wander 44 = .ok (.ifCond .ne 9, 3) := by decide +kernel
theorem dX12_wander_47 : decode cX12_wander 47 = .ok (.iinc 3 1, 3) := by decide +kernel
theorem dX12_wander_50 : decode cX12_wander 50 = .ok (.goto (-25), 3) := by decide +kernel
theorem dX12_wander_53 : decode cX12_wander 53 = .ok (.aload_n 0, 1) := by decide +kernel
theorem dX12_wander_54 : decode cX12_wander 54 = .ok (.getfield 171, 3) := by decide +kernel
theorem dX12_wander_57 : decode cX12_wander 57 = .ok (.aload_n 0, 1) := by decide +kernel
theorem dX12_wander_58 : decode cX12_wander 58 = .ok (.getfield 463, 3) := by decide +kernel
theorem dX12_wander_61 : decode cX12_wander 61 = .ok (.iload_n 3, 1) := by decide +kernel
theorem dX12_wander_62 : decode cX12_wander 62 = .ok (.bipush 20, 2) := by decide +kernel
theorem dX12_wander_64 : decode cX12_wander 64 = .ok (.idiv, 1) := by decide +kernel
theorem dX12_wander_65 : decode cX12_wander 65 = .ok (.iastore, 1) := by decide +kernel
theorem dX12_wander_66 : decode cX12_wander 66 = .ok (.aload_n 0, 1) := by decide +kernel
theorem dX12_wander_67 : decode cX12_wander 67 = .ok (.getfield 174, 3) := by decide +kernel
theorem dX12_wander_70 : decode cX12_wander 70 = .ok (.aload_n 0, 1) := by decide +kernel
theorem dX12_wander_71 : decode cX12_wander 71 = .ok (.getfield 463, 3) := by decide +kernel
theorem dX12_wander_74 : decode cX12_wander 74 = .ok (.iload_n 3, 1) := by decide +kernel
theorem dX12_wander_75 : decode cX12_wander 75 = .ok (.iconst 5, 1) := by decide +kernel
theorem dX12_wander_76 : decode cX12_wander 76 = .ok (.idiv, 1) := by decide +kernel
theorem dX12_wander_77 : decode cX12_wander 77 = .ok (.iconst 4, 1) := by decide +kernel
theorem dX12_wander_78 : decode cX12_wander 78 = .ok (.irem, 1) := by decide +kernel
theorem dX12_wander_79 : decode cX12_wander 79 = .ok (.iastore, 1) := by decide +kernel
theorem dX12_wander_80 : decode cX12_wander 80 = .ok (.aload_n 0, 1) := by decide +kernel
theorem dX12_wander_81 : decode cX12_wander 81 = .ok (.getfield 177, 3) := by decide +kernel
theorem dX12_wander_84 : decode cX12_wander 84 = .ok (.aload_n 0, 1) := by decide +kernel
theorem dX12_wander_85 : decode cX12_wander 85 = .ok (.getfield 463, 3) := by decide +kernel
theorem dX12_wander_88 : decode cX12_wander 88 = .ok (.iload_n 3, 1) := by decide +kernel
theorem dX12_wander_89 : decode cX12_wander 89 = .ok (.iconst 5, 1) := by decide +kernel
theorem dX12_wander_90 : decode cX12_wander 90 = .ok (.irem, 1) := by decide +kernel
theorem dX12_wander_91 : decode cX12_wander 91 = .ok (.iconst 1, 1) := by decide +kernel
theorem dX12_wander_92 : decode cX12_wander 92 = .ok (.iadd, 1) := by decide +kernel
theorem dX12_wander_93 : decode cX12_wander 93 = .ok (.iastore, 1) := by decide +kernel
theorem dX12_wander_94 : decode cX12_wander 94 = .ok (.aload_n 0, 1) := by decide +kernel
theorem dX12_wander_95 : decode cX12_wander 95 = .ok (.invokevirtual 476, 3) := by decide +kernel
theorem dX12_wander_98 : decode cX12_wander 98 = .ok (.istore_n 2, 1) := by decide +kernel
theorem dX12_wander_99 : decode cX12_wander 99 = .ok (.aload_n 0, 1) := by decide +kernel
theorem dX12_wander_100 : decode cX12_wander 100 = .ok (.dup, 1) := by decide +kernel
theorem dX12_wander_101 : decode cX12_wander 101 = .ok (.getfield 463, 3) := by decide +kernel
theorem dX12_wander_104 : decode cX12_wander 104 = .ok (.iconst 1, 1) := by decide +kernel
theorem dX12_wander_105 : decode cX12_wander 105 = .ok (.iadd, 1) := by decide +kernel
theorem dX12_wander_106 : decode cX12_wander 106 = .ok (.putfield 463, 3) := by decide +kernel
theorem dX12_wander_109 : decode cX12_wander 109 = .ok (.aload_n 0, 1) := by decide +kernel
theorem dX12_wander_110 : decode cX12_wander 110 = .ok (.getfield 186, 3) := by decide +kernel
theorem dX12_wander_113 : decode cX12_wander 113 = .ok (.aload_n 0, 1) := by decide +kernel
theorem dX12_wander_114 : decode cX12_wander 114 = .ok (.getfield 463, 3) := by decide +kernel
theorem dX12_wander_117 : decode cX12_wander 117 = .ok (.iload_n 2, 1) := by decide +kernel
theorem dX12_wander_118 : decode cX12_wander 118 = .ok (.iastore, 1) := by decide +kernel
theorem dX12_wander_119 : decode cX12_wander 119 = .ok (.goto (-105), 3) := by decide +kernel
theorem dX12_wander_122 : decode cX12_wander 122 = .ok (.return_, 1) := by decide +kernel
set_option maxRecDepth 100000 in
set_option maxHeartbeats 4000000 in
theorem w_X12_wander_L25 {p : Program} {l : Launch} {e : Env} {R : Room} {s : State} {m : MethodId} {args : Array Value} {below : List Frame} {meth : Method} {c : Code} {dC : Nat → ClassId} {dI : Nat → Nat → Nat} {cs : Nat → ClassId} {ad : Nat → Nat} {A : Nat → Prop} {D0 : Nat → Nat} {S' : SS} (F : Fx p s m args meth c cX12_wander 4 RX12 none dC dI cs A) (hR1 : 3 ≤ R.frames) (hR2 : 71 ≤ R.locals) (K14 : Int32 → SS → Option (SS)) (hK14 : ∀ (v0 : Int32) (S : SS), K14 v0 S = some S' → AW p l e R s m args below meth c dC dI cs ad A D0 none S' 4 14 [(0, .ref (ad 14)), (2, .int v0)] [] S) : ∀ (n : Nat) (x2 : Int32) (x3 : Int32) (S : SS), f_X12_wander_L25 K14 n x2 x3 S = some S' → AW p l e R s m args below meth c dC dI cs ad A D0 none S' 4 25 [(0, .ref (ad 14)), (2, .int x2), (3, .int x3)] [] S := by
  have hx := F.1.1
  have hb := F.1.2.1
  intro n
  induction n with
  | zero => intro x2 x3 S h; cases h
  | succ n ih =>
    intro x2 x3 S h H locs ls w hl
    rw [f_X12_wander_L25] at h
    refine lv_aload_n (pc := 25) hx hb dX12_wander_25 rfl (lv_at hl 0 rfl) ?_
    refine lv_iload_n (pc := 26) hx hb dX12_wander_26 rfl (lv_at hl 1 rfl) ?_
    refine lv_iload_n (pc := 27) hx hb dX12_wander_27 rfl (lv_at hl 2 rfl) ?_
    refine lv_bipush (pc := 28) (v := 20) hx hb dX12_wander_28 (by decide) ?_
    refine lv_idiv (pc := 30) hx hb dX12_wander_30 (by decide) ?_
    refine lv_iload_n (pc := 31) hx hb dX12_wander_31 rfl (lv_at hl 2 rfl) ?_
    refine lv_iconst (pc := 32) (v := 5) hx hb dX12_wander_32 (by decide) ?_
    refine lv_idiv (pc := 33) hx hb dX12_wander_33 (by decide) ?_
    refine lv_iconst (pc := 34) (v := 4) hx hb dX12_wander_34 (by decide) ?_
    refine lv_irem (pc := 35) hx hb dX12_wander_35 (by decide) ?_
    refine lv_iload_n (pc := 36) hx hb dX12_wander_36 rfl (lv_at hl 2 rfl) ?_
    refine lv_iconst (pc := 37) (v := 5) hx hb dX12_wander_37 (by decide) ?_
    refine lv_irem (pc := 38) hx hb dX12_wander_38 (by decide) ?_
    refine lv_iconst (pc := 39) (v := 1) hx hb dX12_wander_39 (by decide) ?_
    refine lv_iadd (pc := 40) hx hb dX12_wander_40 ?_
    obtain ⟨r4, S3, hc, h⟩ := bnd_t h
    refine s_cvi (pc := 41) [.int x2, .int (x3 / (20 : Int32)), .int ((x3 / (5 : Int32)) - (x3 / (5 : Int32)) / (4 : Int32) * (4 : Int32)), .int ((x3 - x3 / (5 : Int32) * (5 : Int32)) + (1 : Int32))] (fun ad => [.ref (ad 14), .int x2, .int (x3 / (20 : Int32)), .int ((x3 / (5 : Int32)) - (x3 / (5 : Int32)) / (4 : Int32) * (4 : Int32)), .int ((x3 - x3 / (5 : Int32) * (5 : Int32)) + (1 : Int32))]) F w (m_X12_hasFallen _ _ _ _ _ _ _ hc) rfl rfl hl.1 ds_14 vc_X12 rfl ok_X12_hasFallen rfl kc_X12_hasFallen kl_X12_489 ki_X12_hasFallen kv_X12_hasFallen kn_X12 ⟨Nat.le_trans (by decide) hR1, Nat.le_trans (by decide) hR2⟩ ⟨Nat.zero_le _, Nat.zero_le _⟩ (Nat.le_of_ble_eq_true rfl) dX12_wander_41 (fun H locs w => ?_)
    refine lv_if_ne (pc := 44) (tgt := 53) hx hb dX12_wander_44 (by decide) (fun q => ?_) (fun q => ?_)
    · have h := ite_f q h
      refine lv_aload_n (pc := 53) hx hb dX12_wander_53 rfl (lv_at hl 0 rfl) ?_
      refine s_getR (pc := 54) F w 118 ds_14 (j := 78) vc_X12 vi_X12 rfl (by decide) kf_X12_171 dX12_wander_54 ?_
      refine lv_aload_n (pc := 57) hx hb dX12_wander_57 rfl (lv_at hl 0 rfl) ?_
      refine s_getI (pc := 58) F w ds_14 (j := 77) vc_X12 vi_X12 rfl (by decide) kf_X12_463 dX12_wander_58 ?_
      refine lv_iload_n (pc := 61) hx hb dX12_wander_61 rfl (lv_at hl 2 rfl) ?_
      refine lv_bipush (pc := 62) (v := 20) hx hb dX12_wander_62 (by decide) ?_
      refine lv_idiv (pc := 64) hx hb dX12_wander_64 (by decide) ?_
      refine s_iast (pc := 65) F w ds_118 h dX12_wander_65 (fun S5 H locs h w => ?_)
      refine lv_aload_n (pc := 66) hx hb dX12_wander_66 rfl (lv_at hl 0 rfl) ?_
      refine s_getR (pc := 67) F w 119 ds_14 (j := 79) vc_X12 vi_X12 rfl (by decide) kf_X12_174 dX12_wander_67 ?_
      refine lv_aload_n (pc := 70) hx hb dX12_wander_70 rfl (lv_at hl 0 rfl) ?_
      refine s_getI (pc := 71) F w ds_14 (j := 77) vc_X12 vi_X12 rfl (by decide) kf_X12_463 dX12_wander_71 ?_
      refine lv_iload_n (pc := 74) hx hb dX12_wander_74 rfl (lv_at hl 2 rfl) ?_
      refine lv_iconst (pc := 75) (v := 5) hx hb dX12_wander_75 (by decide) ?_
      refine lv_idiv (pc := 76) hx hb dX12_wander_76 (by decide) ?_
      refine lv_iconst (pc := 77) (v := 4) hx hb dX12_wander_77 (by decide) ?_
      refine lv_irem (pc := 78) hx hb dX12_wander_78 (by decide) ?_
      refine s_iast (pc := 79) F w ds_119 h dX12_wander_79 (fun S6 H locs h w => ?_)
      refine lv_aload_n (pc := 80) hx hb dX12_wander_80 rfl (lv_at hl 0 rfl) ?_
      refine s_getR (pc := 81) F w 120 ds_14 (j := 80) vc_X12 vi_X12 rfl (by decide) kf_X12_177 dX12_wander_81 ?_
      refine lv_aload_n (pc := 84) hx hb dX12_wander_84 rfl (lv_at hl 0 rfl) ?_
      refine s_getI (pc := 85) F w ds_14 (j := 77) vc_X12 vi_X12 rfl (by decide) kf_X12_463 dX12_wander_85 ?_
      refine lv_iload_n (pc := 88) hx hb dX12_wander_88 rfl (lv_at hl 2 rfl) ?_
      refine lv_iconst (pc := 89) (v := 5) hx hb dX12_wander_89 (by decide) ?_
      refine lv_irem (pc := 90) hx hb dX12_wander_90 (by decide) ?_
      refine lv_iconst (pc := 91) (v := 1) hx hb dX12_wander_91 (by decide) ?_
      refine lv_iadd (pc := 92) hx hb dX12_wander_92 ?_
      refine s_iast (pc := 93) F w ds_120 h dX12_wander_93 (fun S7 H locs h w => ?_)
      refine lv_aload_n (pc := 94) hx hb dX12_wander_94 rfl (lv_at hl 0 rfl) ?_
      obtain ⟨r9, S8, hc, h⟩ := bnd_t h
      refine s_cvi (pc := 95) [] (fun ad => [.ref (ad 14)]) F w (m_X12_code  _ _ _ hc) rfl rfl hl.1 ds_14 vc_X12 rfl ok_X12_code rfl kc_X12_code kl_X12_476 ki_X12_code kv_X12_code kn_X12 ⟨Nat.le_trans (by decide) hR1, Nat.le_trans (by decide) hR2⟩ ⟨Nat.zero_le _, Nat.zero_le _⟩ (Nat.le_of_ble_eq_true rfl) dX12_wander_95 (fun H locs w => ?_)
      refine lv_istore_n (pc := 98) (lv' := [(2, .int r9), (0, .ref (ad 14)), (3, .int x3)]) hx hb dX12_wander_98 rfl hl (by decide) rfl (fun ls hl => ?_)
      refine lv_aload_n (pc := 99) hx hb dX12_wander_99 rfl (lv_at hl 1 rfl) ?_
      refine lv_dup (pc := 100) hx hb dX12_wander_100 rfl ?_
      refine s_getI (pc := 101) F w ds_14 (j := 77) vc_X12 vi_X12 rfl (by decide) kf_X12_463 dX12_wander_101 ?_
      refine lv_iconst (pc := 104) (v := 1) hx hb dX12_wander_104 (by decide) ?_
      refine lv_iadd (pc := 105) hx hb dX12_wander_105 ?_
      refine s_putI (pc := 106) F w ds_14 vc_X12 vi_X12 tyX12_ok nmX12 (j := 77) rfl (by decide) kf_X12_463 rfl pd_I h dX12_wander_106 (fun S10 H locs h w => ?_)
      refine lv_aload_n (pc := 109) hx hb dX12_wander_109 rfl (lv_at hl 1 rfl) ?_
      refine s_getR (pc := 110) F w 123 ds_14 (j := 84) vc_X12 vi_X12 rfl (by decide) kf_X12_186 dX12_wander_110 ?_
      refine lv_aload_n (pc := 113) hx hb dX12_wander_113 rfl (lv_at hl 1 rfl) ?_
      refine s_getI (pc := 114) F w ds_14 (j := 77) vc_X12 vi_X12 rfl (by decide) kf_X12_463 dX12_wander_114 ?_
      refine lv_iload_n (pc := 117) hx hb dX12_wander_117 rfl (lv_at hl 0 rfl) ?_
      refine s_iast (pc := 118) F w ds_123 h dX12_wander_118 (fun S11 H locs h w => ?_)
      refine lv_goto (pc := 119) (tgt := 14) hx hb dX12_wander_119 (by decide) ?_
      exact hK14 _ _ h _ _ _ w (lv_sub hl [1, 0] rfl)
    · have h := ite_t q h
      refine s_nm h (fun z12 ez12 h => ?_)
      refine lv_iinc (pc := 47) (v := z12) (lv' := [(3, .int z12), (0, .ref (ad 14)), (2, .int x2)]) hx hb dX12_wander_47 hl (k := 2) rfl (by rw [ez12]; rfl) (by decide) rfl (fun ls hl => ?_)
      refine lv_goto (pc := 50) (tgt := 25) hx hb dX12_wander_50 (by decide) ?_
      exact ih _ _ _ h _ _ _ w (lv_sub hl [1, 2, 0] rfl)
set_option maxRecDepth 100000 in
set_option maxHeartbeats 4000000 in
theorem w_X12_wander_L14 {p : Program} {l : Launch} {e : Env} {R : Room} {s : State} {m : MethodId} {args : Array Value} {below : List Frame} {meth : Method} {c : Code} {dC : Nat → ClassId} {dI : Nat → Nat → Nat} {cs : Nat → ClassId} {ad : Nat → Nat} {A : Nat → Prop} {D0 : Nat → Nat} {S' : SS} (F : Fx p s m args meth c cX12_wander 4 RX12 none dC dI cs A) (hR1 : 3 ≤ R.frames) (hR2 : 71 ≤ R.locals) : ∀ (n : Nat) (x2 : Int32) (S : SS), f_X12_wander_L14 n x2 S = some S' → AW p l e R s m args below meth c dC dI cs ad A D0 none S' 4 14 [(0, .ref (ad 14)), (2, .int x2)] [] S := by
  have hx := F.1.1
  have hb := F.1.2.1
  intro n
  induction n with
  | zero => intro x2 S h; cases h
  | succ n ih =>
    intro x2 S h H locs ls w hl
    rw [f_X12_wander_L14] at h
    refine lv_aload_n (pc := 14) hx hb dX12_wander_14 rfl (lv_at hl 0 rfl) ?_
    refine s_getR (pc := 15) F w 122 ds_14 (j := 83) vc_X12 vi_X12 rfl (by decide) kf_X12_183 dX12_wander_15 ?_
    refine lv_iload_n (pc := 18) hx hb dX12_wander_18 rfl (lv_at hl 1 rfl) ?_
    refine s_iald (pc := 19) F w ds_122 h dX12_wander_19 (fun h => ?_)
    refine lv_if_le (pc := 20) (tgt := 122) hx hb dX12_wander_20 (by decide) (fun q => ?_) (fun q => ?_)
    · have h := ite_t q h
      exact s_vret F w h dX12_wander_122
    · have h := ite_f q h
      refine lv_iconst (pc := 23) (v := 0) hx hb dX12_wander_23 (by decide) ?_
      refine lv_istore_n (pc := 24) (lv' := [(3, .int (0 : Int32)), (0, .ref (ad 14)), (2, .int x2)]) hx hb dX12_wander_24 rfl hl (by decide) rfl (fun ls hl => ?_)
      exact w_X12_wander_L25 F (Nat.le_trans (by decide) hR1) (Nat.le_trans (by decide) hR2) _ (fun v0 S h => ih v0 S h) _ _ _ _ h _ _ _ w (lv_sub hl [1, 2, 0] rfl)
set_option maxRecDepth 100000 in
set_option maxHeartbeats 4000000 in
theorem m_X12_wander (a1 : Int32) (S S' : SS) (h : f_X12_wander a1 S = some S') : MT yX12_wander cX12_wander 4 none 3 71 (fun ad => [.ref (ad 14), .int a1]) S none S' := by
  refine MT.of RX12 (fun ad => [(0, .ref (ad 14)), (1, .int a1)]) (by decide) rfl (fun _ => Nat.le_of_ble_eq_true rfl) (fun _ => rfl) ?_
  intro p l e R s m args below meth c dC dI cs ad A hR1 hR2 F H locs ls w hl
  have hx := F.1.1
  have hb := F.1.2.1
  rw [f_X12_wander] at h
  refine lv_iload_n (pc := 0) hx hb dX12_wander_0 rfl (lv_at hl 1 rfl) ?_
  refine lv_istore_n (pc := 1) (lv' := [(2, .int a1), (0, .ref (ad 14)), (1, .int a1)]) hx hb dX12_wander_1 rfl hl (by decide) rfl (fun ls hl => ?_)
  refine lv_aload_n (pc := 2) hx hb dX12_wander_2 rfl (lv_at hl 1 rfl) ?_
  refine lv_iconst (pc := 3) (v := 0) hx hb dX12_wander_3 (by decide) ?_
  refine s_putI (pc := 4) F w ds_14 vc_X12 vi_X12 tyX12_ok nmX12 (j := 77) rfl (by decide) kf_X12_463 rfl pd_I h dX12_wander_4 (fun S1 H locs h w => ?_)
  refine lv_aload_n (pc := 7) hx hb dX12_wander_7 rfl (lv_at hl 1 rfl) ?_
  refine s_getR (pc := 8) F w 123 ds_14 (j := 84) vc_X12 vi_X12 rfl (by decide) kf_X12_186 dX12_wander_8 ?_
  refine lv_iconst (pc := 11) (v := 0) hx hb dX12_wander_11 (by decide) ?_
  refine lv_iload_n (pc := 12) hx hb dX12_wander_12 rfl (lv_at hl 0 rfl) ?_
  refine s_iast (pc := 13) F w ds_123 h dX12_wander_13 (fun S2 H locs h w => ?_)
  exact w_X12_wander_L14 F (Nat.le_trans (by decide) hR1) (Nat.le_trans (by decide) hR2) _ _ _ h _ _ _ w (lv_sub hl [1, 0] rfl)
def f_X12_stackOf_j45 (K13 : Int32 → Int32 → Int32 → Int32 → SS → Option (Int32 × SS)) (x1 : Int32) (x3 : Int32) (x4 : Int32) (y0 : Int32) (S : SS) : Option (Int32 × SS) :=
    nm (x4 + (1 : Int32)) (fun z2 =>
    K13 x1 y0 x3 z2 S)
def f_X12_stackOf_L13 (K5 : Int32 → Int32 → Int32 → SS → Option (Int32 × SS)) : Nat → Int32 → Int32 → Int32 → Int32 → SS → Option (Int32 × SS)
  | 0, _, _, _, _, _ => none
  | n + 1, x1, x2, x3, x4, S =>
    grd (inb x3 4) (
    if (S.1 125 x3.toNatClampNeg) ≤ x4 then
      nm (x3 + (1 : Int32)) (fun z1 =>
      K5 x1 x2 z1 S)
    else
      grd (inb (((10 : Int32) * x3) + x4) 40) (
      if (S.1 124 (((10 : Int32) * x3) + x4).toNatClampNeg) = x1 then
        f_X12_stackOf_j45 (fun v0 v1 v2 v3 S => f_X12_stackOf_L13 K5 n v0 v1 v2 v3 S) x1 x3 x4 x3 S
      else
        f_X12_stackOf_j45 (fun v0 v1 v2 v3 S => f_X12_stackOf_L13 K5 n v0 v1 v2 v3 S) x1 x3 x4 x2 S))
def f_X12_stackOf_L5  : Nat → Int32 → Int32 → Int32 → SS → Option (Int32 × SS)
  | 0, _, _, _, _ => none
  | n + 1, x1, x2, x3, S =>
    if (4 : Int32) ≤ x3 then
      some (x2, S)
    else
      f_X12_stackOf_L13 (fun v0 v1 v2 S => f_X12_stackOf_L5 n v0 v1 v2 S) NF x1 x2 x3 (0 : Int32) S
def f_X12_stackOf (a1 : Int32) (S : SS) : Option (Int32 × SS) :=
  f_X12_stackOf_L5 NF a1 (-4 : Int32) (0 : Int32) S
theorem dX12_stackOf_0 : decode cX12_stackOf 0 = .ok (.bipush (-4), 2) := by decide +kernel
theorem dX12_stackOf_2 : decode cX12_stackOf 2 = .ok (.istore_n 2, 1) := by decide +kernel
theorem dX12_stackOf_3 : decode cX12_stackOf 3 = .ok (.iconst 0, 1) := by decide +kernel
theorem dX12_stackOf_4 : decode cX12_stackOf 4 = .ok (.istore_n 3, 1) := by decide +kernel
theorem dX12_stackOf_5 : decode cX12_stackOf 5 = .ok (.iload_n 3, 1) := by decide +kernel
theorem dX12_stackOf_6 : decode cX12_stackOf 6 = .ok (.iconst 4, 1) := by decide +kernel
theorem dX12_stackOf_7 : decode cX12_stackOf 7 = .ok (.if_icmp .ge 51, 3) := by decide +kernel
theorem dX12_stackOf_10 : decode cX12_stackOf 10 = .ok (.iconst 0, 1) := by decide +kernel
theorem dX12_stackOf_11 : decode cX12_stackOf 11 = .ok (.istore 4, 2) := by decide +kernel
theorem dX12_stackOf_13 : decode cX12_stackOf 13 = .ok (.iload 4, 2) := by decide +kernel
theorem dX12_stackOf_15 : decode cX12_stackOf 15 = .ok (.aload_n 0, 1) := by decide +kernel
theorem dX12_stackOf_16 : decode cX12_stackOf 16 = .ok (.getfield 192, 3) := by decide +kernel
theorem dX12_stackOf_19 : decode cX12_stackOf 19 = .ok (.iload_n 3, 1) := by decide +kernel
theorem dX12_stackOf_20 : decode cX12_stackOf 20 = .ok (.iaload, 1) := by decide +kernel
theorem dX12_stackOf_21 : decode cX12_stackOf 21 = .ok (.if_icmp .ge 31, 3) := by decide +kernel
theorem dX12_stackOf_24 : decode cX12_stackOf 24 = .ok (.aload_n 0, 1) := by decide +kernel
theorem dX12_stackOf_25 : decode cX12_stackOf 25 = .ok (.getfield 189, 3) := by decide +kernel
theorem dX12_stackOf_28 : decode cX12_stackOf 28 = .ok (.bipush 10, 2) := by decide +kernel
theorem dX12_stackOf_30 : decode cX12_stackOf 30 = .ok (.iload_n 3, 1) := by decide +kernel
theorem dX12_stackOf_31 : decode cX12_stackOf 31 = .ok (.imul, 1) := by decide +kernel
theorem dX12_stackOf_32 : decode cX12_stackOf 32 = .ok (.iload 4, 2) := by decide +kernel
theorem dX12_stackOf_34 : decode cX12_stackOf 34 = .ok (.iadd, 1) := by decide +kernel
theorem dX12_stackOf_35 : decode cX12_stackOf 35 = .ok (.iaload, 1) := by decide +kernel
theorem dX12_stackOf_36 : decode cX12_stackOf 36 = .ok (.iload_n 1, 1) := by decide +kernel
theorem dX12_stackOf_37 : decode cX12_stackOf 37 = .ok (.if_icmp .ne 7, 3) := by decide +kernel
theorem dX12_stackOf_40 : decode cX12_stackOf 40 = .ok (.iload_n 3, 1) := by decide +kernel
theorem dX12_stackOf_41 : decode cX12_stackOf 41 = .ok (.goto 4, 3) := by decide +kernel
theorem dX12_stackOf_44 : decode cX12_stackOf 44 = .ok (.iload_n 2, 1) := by decide +kernel
theorem dX12_stackOf_45 : decode cX12_stackOf 45 = .ok (.istore_n 2, 1) := by decide +kernel
theorem dX12_stackOf_46 : decode cX12_stackOf 46 = .ok (.iinc 4 1, 3) := by decide +kernel
theorem dX12_stackOf_49 : decode cX12_stackOf 49 = .ok (.goto (-36), 3) := by decide +kernel
theorem dX12_stackOf_52 : decode cX12_stackOf 52 = .ok (.iinc 3 1, 3) := by decide +kernel
theorem dX12_stackOf_55 : decode cX12_stackOf 55 = .ok (.goto (-50), 3) := by decide +kernel
theorem dX12_stackOf_58 : decode cX12_stackOf 58 = .ok (.iload_n 2, 1) := by decide +kernel
theorem dX12_stackOf_59 : decode cX12_stackOf 59 = .ok (.ireturn, 1) := by decide +kernel
set_option maxRecDepth 100000 in
set_option maxHeartbeats 4000000 in
theorem w_X12_stackOf_j45 {p : Program} {l : Launch} {e : Env} {R : Room} {s : State} {m : MethodId} {args : Array Value} {below : List Frame} {meth : Method} {c : Code} {dC : Nat → ClassId} {dI : Nat → Nat → Nat} {cs : Nat → ClassId} {ad : Nat → Nat} {A : Nat → Prop} {D0 : Nat → Nat} {S' : SS} {r : Int32} (F : Fx p s m args meth c cX12_stackOf 5 RX12 (some .int) dC dI cs A) (hR1 : 0 ≤ R.frames) (hR2 : 0 ≤ R.locals) (K13 : Int32 → Int32 → Int32 → Int32 → SS → Option (Int32 × SS)) (hK13 : ∀ (v0 : Int32) (v1 : Int32) (v2 : Int32) (v3 : Int32) (S : SS), K13 v0 v1 v2 v3 S = some (r, S') → AW p l e R s m args below meth c dC dI cs ad A D0 (some (.int r)) S' 5 13 [(0, .ref (ad 14)), (1, .int v0), (2, .int v1), (3, .int v2), (4, .int v3)] [] S) (x1 : Int32) (x3 : Int32) (x4 : Int32) (y0 : Int32) (S : SS) (h : f_X12_stackOf_j45 K13 x1 x3 x4 y0 S = some (r, S')) : AW p l e R s m args below meth c dC dI cs ad A D0 (some (.int r)) S' 5 45 [(0, .ref (ad 14)), (1, .int x1), (3, .int x3), (4, .int x4)] [.int y0] S := by
  have hx := F.1.1
  have hb := F.1.2.1
  intro H locs ls w hl
  rw [f_X12_stackOf_j45] at h
  refine lv_istore_n (pc := 45) (lv' := [(2, .int y0), (0, .ref (ad 14)), (1, .int x1), (3, .int x3), (4, .int x4)]) hx hb dX12_stackOf_45 rfl hl (by decide) rfl (fun ls hl => ?_)
  refine s_nm h (fun z2 ez2 h => ?_)
  refine lv_iinc (pc := 46) (v := z2) (lv' := [(4, .int z2), (2, .int y0), (0, .ref (ad 14)), (1, .int x1), (3, .int x3)]) hx hb dX12_stackOf_46 hl (k := 4) rfl (by rw [ez2]; rfl) (by decide) rfl (fun ls hl => ?_)
  refine lv_goto (pc := 49) (tgt := 13) hx hb dX12_stackOf_49 (by decide) ?_
  exact hK13 _ _ _ _ _ h _ _ _ w (lv_sub hl [2, 3, 1, 4, 0] rfl)
set_option maxRecDepth 100000 in
set_option maxHeartbeats 4000000 in
theorem w_X12_stackOf_L13 {p : Program} {l : Launch} {e : Env} {R : Room} {s : State} {m : MethodId} {args : Array Value} {below : List Frame} {meth : Method} {c : Code} {dC : Nat → ClassId} {dI : Nat → Nat → Nat} {cs : Nat → ClassId} {ad : Nat → Nat} {A : Nat → Prop} {D0 : Nat → Nat} {S' : SS} {r : Int32} (F : Fx p s m args meth c cX12_stackOf 5 RX12 (some .int) dC dI cs A) (hR1 : 0 ≤ R.frames) (hR2 : 0 ≤ R.locals) (K5 : Int32 → Int32 → Int32 → SS → Option (Int32 × SS)) (hK5 : ∀ (v0 : Int32) (v1 : Int32) (v2 : Int32) (S : SS), K5 v0 v1 v2 S = some (r, S') → AW p l e R s m args below meth c dC dI cs ad A D0 (some (.int r)) S' 5 5 [(0, .ref (ad 14)), (1, .int v0), (2, .int v1), (3, .int v2)] [] S) : ∀ (n : Nat) (x1 : Int32) (x2 : Int32) (x3 : Int32) (x4 : Int32) (S : SS), f_X12_stackOf_L13 K5 n x1 x2 x3 x4 S = some (r, S') → AW p l e R s m args below meth c dC dI cs ad A D0 (some (.int r)) S' 5 13 [(0, .ref (ad 14)), (1, .int x1), (2, .int x2), (3, .int x3), (4, .int x4)] [] S := by
  have hx := F.1.1
  have hb := F.1.2.1
  intro n
  induction n with
  | zero => intro x1 x2 x3 x4 S h; cases h
  | succ n ih =>
    intro x1 x2 x3 x4 S h H locs ls w hl
    rw [f_X12_stackOf_L13] at h
    refine lv_iload (pc := 13) hx hb dX12_stackOf_13 (lv_at hl 4 rfl) ?_
    refine lv_aload_n (pc := 15) hx hb dX12_stackOf_15 rfl (lv_at hl 0 rfl) ?_
    refine s_getR (pc := 16) F w 125 ds_14 (j := 86) vc_X12 vi_X12 rfl (by decide) kf_X12_192 dX12_stackOf_16 ?_
    refine lv_iload_n (pc := 19) hx hb dX12_stackOf_19 rfl (lv_at hl 3 rfl) ?_
    refine s_iald (pc := 20) F w ds_125 h dX12_stackOf_20 (fun h => ?_)
    refine lv_icmp_ge (pc := 21) (tgt := 52) hx hb dX12_stackOf_21 (by decide) (fun q => ?_) (fun q => ?_)
    · have h := ite_t q h
      refine s_nm h (fun z1 ez1 h => ?_)
      refine lv_iinc (pc := 52) (v := z1) (lv' := [(3, .int z1), (0, .ref (ad 14)), (1, .int x1), (2, .int x2), (4, .int x4)]) hx hb dX12_stackOf_52 hl (k := 3) rfl (by rw [ez1]; rfl) (by decide) rfl (fun ls hl => ?_)
      refine lv_goto (pc := 55) (tgt := 5) hx hb dX12_stackOf_55 (by decide) ?_
      exact hK5 _ _ _ _ h _ _ _ w (lv_sub hl [1, 2, 3, 0] rfl)
    · have h := ite_f q h
      refine lv_aload_n (pc := 24) hx hb dX12_stackOf_24 rfl (lv_at hl 0 rfl) ?_
      refine s_getR (pc := 25) F w 124 ds_14 (j := 85) vc_X12 vi_X12 rfl (by decide) kf_X12_189 dX12_stackOf_25 ?_
      refine lv_bipush (pc := 28) (v := 10) hx hb dX12_stackOf_28 (by decide) ?_
      refine lv_iload_n (pc := 30) hx hb dX12_stackOf_30 rfl (lv_at hl 3 rfl) ?_
      refine lv_imul (pc := 31) hx hb dX12_stackOf_31 ?_
      refine lv_iload (pc := 32) hx hb dX12_stackOf_32 (lv_at hl 4 rfl) ?_
      refine lv_iadd (pc := 34) hx hb dX12_stackOf_34 ?_
      refine s_iald (pc := 35) F w ds_124 h dX12_stackOf_35 (fun h => ?_)
      refine lv_iload_n (pc := 36) hx hb dX12_stackOf_36 rfl (lv_at hl 1 rfl) ?_
      refine lv_icmp_ne (pc := 37) (tgt := 44) hx hb dX12_stackOf_37 (by decide) (fun q => ?_) (fun q => ?_)
      · have h := ite_f q h
        refine lv_iload_n (pc := 44) hx hb dX12_stackOf_44 rfl (lv_at hl 2 rfl) ?_
        exact w_X12_stackOf_j45 F (Nat.le_trans (by decide) hR1) (Nat.le_trans (by decide) hR2) _ (fun v0 v1 v2 v3 S h => ih v0 v1 v2 v3 S h) _ _ _ _ _ h _ _ _ w (lv_sub hl [0, 1, 3, 4] rfl)
      · have h := ite_t q h
        refine lv_iload_n (pc := 40) hx hb dX12_stackOf_40 rfl (lv_at hl 3 rfl) ?_
        refine lv_goto (pc := 41) (tgt := 45) hx hb dX12_stackOf_41 (by decide) ?_
        exact w_X12_stackOf_j45 F (Nat.le_trans (by decide) hR1) (Nat.le_trans (by decide) hR2) _ (fun v0 v1 v2 v3 S h => ih v0 v1 v2 v3 S h) _ _ _ _ _ h _ _ _ w (lv_sub hl [0, 1, 3, 4] rfl)
set_option maxRecDepth 100000 in
set_option maxHeartbeats 4000000 in
theorem w_X12_stackOf_L5 {p : Program} {l : Launch} {e : Env} {R : Room} {s : State} {m : MethodId} {args : Array Value} {below : List Frame} {meth : Method} {c : Code} {dC : Nat → ClassId} {dI : Nat → Nat → Nat} {cs : Nat → ClassId} {ad : Nat → Nat} {A : Nat → Prop} {D0 : Nat → Nat} {S' : SS} {r : Int32} (F : Fx p s m args meth c cX12_stackOf 5 RX12 (some .int) dC dI cs A) (hR1 : 0 ≤ R.frames) (hR2 : 0 ≤ R.locals) : ∀ (n : Nat) (x1 : Int32) (x2 : Int32) (x3 : Int32) (S : SS), f_X12_stackOf_L5 n x1 x2 x3 S = some (r, S') → AW p l e R s m args below meth c dC dI cs ad A D0 (some (.int r)) S' 5 5 [(0, .ref (ad 14)), (1, .int x1), (2, .int x2), (3, .int x3)] [] S := by
  have hx := F.1.1
  have hb := F.1.2.1
  intro n
  induction n with
  | zero => intro x1 x2 x3 S h; cases h
  | succ n ih =>
    intro x1 x2 x3 S h H locs ls w hl
    rw [f_X12_stackOf_L5] at h
    refine lv_iload_n (pc := 5) hx hb dX12_stackOf_5 rfl (lv_at hl 3 rfl) ?_
    refine lv_iconst (pc := 6) (v := 4) hx hb dX12_stackOf_6 (by decide) ?_
    refine lv_icmp_ge (pc := 7) (tgt := 58) hx hb dX12_stackOf_7 (by decide) (fun q => ?_) (fun q => ?_)
    · have h := ite_t q h
      refine lv_iload_n (pc := 58) hx hb dX12_stackOf_58 rfl (lv_at hl 2 rfl) ?_
      exact s_iret F w h dX12_stackOf_59
    · have h := ite_f q h
      refine lv_iconst (pc := 10) (v := 0) hx hb dX12_stackOf_10 (by decide) ?_
      refine lv_istore (pc := 11) (lv' := [(4, .int (0 : Int32)), (0, .ref (ad 14)), (1, .int x1), (2, .int x2), (3, .int x3)]) hx hb dX12_stackOf_11 hl (by decide) rfl (fun ls hl => ?_)
      exact w_X12_stackOf_L13 F (Nat.le_trans (by decide) hR1) (Nat.le_trans (by decide) hR2) _ (fun v0 v1 v2 S h => ih v0 v1 v2 S h) _ _ _ _ _ _ h _ _ _ w (lv_sub hl [1, 2, 3, 4, 0] rfl)
set_option maxRecDepth 100000 in
set_option maxHeartbeats 4000000 in
theorem m_X12_stackOf (a1 : Int32) (S S' : SS) (r : Int32) (h : f_X12_stackOf a1 S = some (r, S')) : MT yX12_stackOf cX12_stackOf 5 (some .int) 0 0 (fun ad => [.ref (ad 14), .int a1]) S (some (.int r)) S' := by
  refine MT.of RX12 (fun ad => [(0, .ref (ad 14)), (1, .int a1)]) (by decide) rfl (fun _ => Nat.le_of_ble_eq_true rfl) (fun _ => rfl) ?_
  intro p l e R s m args below meth c dC dI cs ad A hR1 hR2 F H locs ls w hl
  have hx := F.1.1
  have hb := F.1.2.1
  rw [f_X12_stackOf] at h
  refine lv_bipush (pc := 0) (v := -4) hx hb dX12_stackOf_0 (by decide) ?_
  refine lv_istore_n (pc := 2) (lv' := [(2, .int (-4 : Int32)), (0, .ref (ad 14)), (1, .int a1)]) hx hb dX12_stackOf_2 rfl hl (by decide) rfl (fun ls hl => ?_)
  refine lv_iconst (pc := 3) (v := 0) hx hb dX12_stackOf_3 (by decide) ?_
  refine lv_istore_n (pc := 4) (lv' := [(3, .int (0 : Int32)), (2, .int (-4 : Int32)), (0, .ref (ad 14)), (1, .int a1)]) hx hb dX12_stackOf_4 rfl hl (by decide) rfl (fun ls hl => ?_)
  exact w_X12_stackOf_L5 F (Nat.le_trans (by decide) hR1) (Nat.le_trans (by decide) hR2) _ _ _ _ _ h _ _ _ w (lv_sub hl [2, 3, 1, 0] rfl)
def f_X12_carries (a1 : Int32) (a2 : Int32) (S : SS) : Option (Int32 × SS) :=
  if a2 = (-4 : Int32) then
    some ((0 : Int32), S)
  else
    bnd (f_X12_mayMove a1 a2 (1 : Int32) S) (fun r2 S1 =>
    if r2 = 0 then
      some ((0 : Int32), S1)
    else
      grd (inb (S1.1 14 77) 400) (wr S1 118 (S1.1 14 77).toNatClampNeg a1 (fun S3 =>
      grd (inb (S3.1 14 77) 400) (wr S3 119 (S3.1 14 77).toNatClampNeg a2 (fun S4 =>
      grd (inb (S4.1 14 77) 400) (wr S4 120 (S4.1 14 77).toNatClampNeg (1 : Int32) (fun S5 =>
      wr S5 14 77 ((S5.1 14 77) + (1 : Int32)) (fun S6 =>
      bndv (f_X12_shift a1 a2 (1 : Int32) S6) (fun S7 =>
      some ((1 : Int32), S7))))))))))
theorem dX12_carries_0 : decode cX12_carries 0 = .ok (.iload_n 2, 1) := by decide +kernel
theorem dX12_carries_1 : decode cX12_carries 1 = .ok (.bipush (-4), 2) := by decide +kernel
theorem dX12_carries_3 : decode cX12_carries 3 = .ok (.if_icmp .eq 13, 3) := by decide +kernel
theorem dX12_carries_6 : decode cX12_carries 6 = .ok (.aload_n 0, 1) := by decide +kernel
theorem dX12_carries_7 : decode cX12_carries 7 = .ok (.iload_n 1, 1) := by decide +kernel
theorem dX12_carries_8 : decode cX12_carries 8 = .ok (.iload_n 2, 1) := by decide +kernel
theorem dX12_carries_9 : decode cX12_carries 9 = .ok (.iconst 1, 1) := by decide +kernel
theorem dX12_carries_10 : decode cX12_carries 10 = .ok (.invokevirtual 482, 3) := by decide +kernel
theorem dX12_carries_13 : decode cX12_carries 13 = .ok (.ifCond .ne 5, 3) := by decide +kernel
theorem dX12_carries_16 : decode cX12_carries 16 = .ok (.iconst 0, 1) := by decide +kernel
theorem dX12_carries_17 : decode cX12_carries 17 = .ok (.ireturn, 1) := by decide +kernel
theorem dX12_carries_18 : decode cX12_carries 18 = .ok (.aload_n 0, 1) := by decide +kernel
theorem dX12_carries_19 : decode cX12_carries 19 = .ok (.getfield 171, 3) := by decide +kernel
theorem dX12_carries_22 : decode cX12_carries 22 = .ok (.aload_n 0, 1) := by decide +kernel
theorem dX12_carries_23 : decode cX12_carries 23 = .ok (.getfield 463, 3) := by decide +kernel
theorem dX12_carries_26 : decode cX12_carries 26 = .ok (.iload_n 1, 1) := by decide +kernel
theorem dX12_carries_27 : decode cX12_carries 27 = .ok (.iastore, 1) := by decide +kernel
theorem dX12_carries_28 : decode cX12_carries 28 = .ok (.aload_n 0, 1) := by decide +kernel
theorem dX12_carries_29 : decode cX12_carries 29 = .ok (.getfield 174, 3) := by decide +kernel
theorem dX12_carries_32 : decode cX12_carries 32 = .ok (.aload_n 0, 1) := by decide +kernel
theorem dX12_carries_33 : decode cX12_carries 33 = .ok (.getfield 463, 3) := by decide +kernel
theorem dX12_carries_36 : decode cX12_carries 36 = .ok (.iload_n 2, 1) := by decide +kernel
theorem dX12_carries_37 : decode cX12_carries 37 = .ok (.iastore, 1) := by decide +kernel
theorem dX12_carries_38 : decode cX12_carries 38 = .ok (.aload_n 0, 1) := by decide +kernel
theorem dX12_carries_39 : decode cX12_carries 39 = .ok (.getfield 177, 3) := by decide +kernel
theorem dX12_carries_42 : decode cX12_carries 42 = .ok (.aload_n 0, 1) := by decide +kernel
theorem dX12_carries_43 : decode cX12_carries 43 = .ok (.getfield 463, 3) := by decide +kernel
theorem dX12_carries_46 : decode cX12_carries 46 = .ok (.iconst 1, 1) := by decide +kernel
theorem dX12_carries_47 : decode cX12_carries 47 = .ok (.iastore, 1) := by decide +kernel
theorem dX12_carries_48 : decode cX12_carries 48 = .ok (.aload_n 0, 1) := by decide +kernel
theorem dX12_carries_49 : decode cX12_carries 49 = .ok (.dup, 1) := by decide +kernel
theorem dX12_carries_50 : decode cX12_carries 50 = .ok (.getfield 463, 3) := by decide +kernel
theorem dX12_carries_53 : decode cX12_carries 53 = .ok (.iconst 1, 1) := by decide +kernel
theorem dX12_carries_54 : decode cX12_carries 54 = .ok (.iadd, 1) := by decide +kernel
theorem dX12_carries_55 : decode cX12_carries 55 = .ok (.putfield 463, 3) := by decide +kernel
theorem dX12_carries_58 : decode cX12_carries 58 = .ok (.aload_n 0, 1) := by decide +kernel
theorem dX12_carries_59 : decode cX12_carries 59 = .ok (.iload_n 1, 1) := by decide +kernel
theorem dX12_carries_60 : decode cX12_carries 60 = .ok (.iload_n 2, 1) := by decide +kernel
theorem dX12_carries_61 : decode cX12_carries 61 = .ok (.iconst 1, 1) := by decide +kernel
theorem dX12_carries_62 : decode cX12_carries 62 = .ok (.invokevirtual 485, 3) := by decide +kernel
theorem dX12_carries_65 : decode cX12_carries 65 = .ok (.iconst 1, 1) := by decide +kernel
theorem dX12_carries_66 : decode cX12_carries 66 = .ok (.ireturn, 1) := by decide +kernel
set_option maxRecDepth 100000 in
set_option maxHeartbeats 4000000 in
theorem m_X12_carries (a1 : Int32) (a2 : Int32) (S S' : SS) (r : Int32) (h : f_X12_carries a1 a2 S = some (r, S')) : MT yX12_carries cX12_carries 3 (some .boolean) 1 24 (fun ad => [.ref (ad 14), .int a1, .int a2]) S (some (.int r)) S' := by
  refine MT.of RX12 (fun ad => [(0, .ref (ad 14)), (1, .int a1), (2, .int a2)]) (by decide) rfl (fun _ => Nat.le_of_ble_eq_true rfl) (fun _ => rfl) ?_
  intro p l e R s m args below meth c dC dI cs ad A hR1 hR2 F H locs ls w hl
  have hx := F.1.1
  have hb := F.1.2.1
  rw [f_X12_carries] at h
  refine lv_iload_n (pc := 0) hx hb dX12_carries_0 rfl (lv_at hl 2 rfl) ?_
  refine lv_bipush (pc := 1) (v := -4) hx hb dX12_carries_1 (by decide) ?_
  refine lv_icmp_eq (pc := 3) (tgt := 16) hx hb dX12_carries_3 (by decide) (fun q => ?_) (fun q => ?_)
  · have h := ite_t q h
    refine lv_iconst (pc := 16) (v := 0) hx hb dX12_carries_16 (by decide) ?_
    exact s_zretc F w rfl h dX12_carries_17
  · have h := ite_f q h
    refine lv_aload_n (pc := 6) hx hb dX12_carries_6 rfl (lv_at hl 0 rfl) ?_
    refine lv_iload_n (pc := 7) hx hb dX12_carries_7 rfl (lv_at hl 1 rfl) ?_
    refine lv_iload_n (pc := 8) hx hb dX12_carries_8 rfl (lv_at hl 2 rfl) ?_
    refine lv_iconst (pc := 9) (v := 1) hx hb dX12_carries_9 (by decide) ?_
    obtain ⟨r2, S1, hc, h⟩ := bnd_t h
    refine s_cvi (pc := 10) [.int a1, .int a2, .int (1 : Int32)] (fun ad => [.ref (ad 14), .int a1, .int a2, .int (1 : Int32)]) F w (m_X12_mayMove _ _ _ _ _ _ hc) rfl rfl hl.1 ds_14 vc_X12 rfl ok_X12_mayMove rfl kc_X12_mayMove kl_X12_482 ki_X12_mayMove kv_X12_mayMove kn_X12 ⟨Nat.le_trans (by decide) hR1, Nat.le_trans (by decide) hR2⟩ ⟨Nat.zero_le _, Nat.zero_le _⟩ (Nat.le_of_ble_eq_true rfl) dX12_carries_10 (fun H locs w => ?_)
    refine lv_if_ne (pc := 13) (tgt := 18) hx hb dX12_carries_13 (by decide) (fun q => ?_) (fun q => ?_)
    · have h := ite_f q h
      refine lv_aload_n (pc := 18) hx hb dX12_carries_18 rfl (lv_at hl 0 rfl) ?_
      refine s_getR (pc := 19) F w 118 ds_14 (j := 78) vc_X12 vi_X12 rfl (by decide) kf_X12_171 dX12_carries_19 ?_
      refine lv_aload_n (pc := 22) hx hb dX12_carries_22 rfl (lv_at hl 0 rfl) ?_
      refine s_getI (pc := 23) F w ds_14 (j := 77) vc_X12 vi_X12 rfl (by decide) kf_X12_463 dX12_carries_23 ?_
      refine lv_iload_n (pc := 26) hx hb dX12_carries_26 rfl (lv_at hl 1 rfl) ?_
      refine s_iast (pc := 27) F w ds_118 h dX12_carries_27 (fun S3 H locs h w => ?_)
      refine lv_aload_n (pc := 28) hx hb dX12_carries_28 rfl (lv_at hl 0 rfl) ?_
      refine s_getR (pc := 29) F w 119 ds_14 (j := 79) vc_X12 vi_X12 rfl (by decide) kf_X12_174 dX12_carries_29 ?_
      refine lv_aload_n (pc := 32) hx hb dX12_carries_32 rfl (lv_at hl 0 rfl) ?_
      refine s_getI (pc := 33) F w ds_14 (j := 77) vc_X12 vi_X12 rfl (by decide) kf_X12_463 dX12_carries_33 ?_
      refine lv_iload_n (pc := 36) hx hb dX12_carries_36 rfl (lv_at hl 2 rfl) ?_
      refine s_iast (pc := 37) F w ds_119 h dX12_carries_37 (fun S4 H locs h w => ?_)
      refine lv_aload_n (pc := 38) hx hb dX12_carries_38 rfl (lv_at hl 0 rfl) ?_
      refine s_getR (pc := 39) F w 120 ds_14 (j := 80) vc_X12 vi_X12 rfl (by decide) kf_X12_177 dX12_carries_39 ?_
      refine lv_aload_n (pc := 42) hx hb dX12_carries_42 rfl (lv_at hl 0 rfl) ?_
      refine s_getI (pc := 43) F w ds_14 (j := 77) vc_X12 vi_X12 rfl (by decide) kf_X12_463 dX12_carries_43 ?_
      refine lv_iconst (pc := 46) (v := 1) hx hb dX12_carries_46 (by decide) ?_
      refine s_iast (pc := 47) F w ds_120 h dX12_carries_47 (fun S5 H locs h w => ?_)
      refine lv_aload_n (pc := 48) hx hb dX12_carries_48 rfl (lv_at hl 0 rfl) ?_
      refine lv_dup (pc := 49) hx hb dX12_carries_49 rfl ?_
      refine s_getI (pc := 50) F w ds_14 (j := 77) vc_X12 vi_X12 rfl (by decide) kf_X12_463 dX12_carries_50 ?_
      refine lv_iconst (pc := 53) (v := 1) hx hb dX12_carries_53 (by decide) ?_
      refine lv_iadd (pc := 54) hx hb dX12_carries_54 ?_
      refine s_putI (pc := 55) F w ds_14 vc_X12 vi_X12 tyX12_ok nmX12 (j := 77) rfl (by decide) kf_X12_463 rfl pd_I h dX12_carries_55 (fun S6 H locs h w => ?_)
      refine lv_aload_n (pc := 58) hx hb dX12_carries_58 rfl (lv_at hl 0 rfl) ?_
      refine lv_iload_n (pc := 59) hx hb dX12_carries_59 rfl (lv_at hl 1 rfl) ?_
      refine lv_iload_n (pc := 60) hx hb dX12_carries_60 rfl (lv_at hl 2 rfl) ?_
      refine lv_iconst (pc := 61) (v := 1) hx hb dX12_carries_61 (by decide) ?_
      obtain ⟨S7, hc, h⟩ := bndv_t h
      refine s_cvv (pc := 62) [.int a1, .int a2, .int (1 : Int32)] (fun ad => [.ref (ad 14), .int a1, .int a2, .int (1 : Int32)]) F w (m_X12_shift _ _ _ _ _ hc) rfl rfl hl.1 ds_14 vc_X12 rfl ok_X12_shift rfl kc_X12_shift kl_X12_485 ki_X12_shift kv_X12_shift kn_X12 ⟨Nat.le_trans (by decide) hR1, Nat.le_trans (by decide) hR2⟩ ⟨Nat.zero_le _, Nat.zero_le _⟩ (Nat.le_of_ble_eq_true rfl) dX12_carries_62 (fun H locs w => ?_)
      refine lv_iconst (pc := 65) (v := 1) hx hb dX12_carries_65 (by decide) ?_
      exact s_zretc F w rfl h dX12_carries_66
    · have h := ite_t q h
      refine lv_iconst (pc := 16) (v := 0) hx hb dX12_carries_16 (by decide) ?_
      exact s_zretc F w rfl h dX12_carries_17
def f_X12_widest_j84 (K6 : Int32 → Int32 → Int32 → Int32 → SS → Option (Int32 × SS)) (x1 : Int32) (x2 : Int32) (x3 : Int32) (x4 : Int32) (S : SS) : Option (Int32 × SS) :=
    nm (x4 + (1 : Int32)) (fun z1 =>
    K6 x1 x2 x3 z1 S)
def f_X12_widest_j81 (K6 : Int32 → Int32 → Int32 → Int32 → SS → Option (Int32 × SS)) (x1 : Int32) (x2 : Int32) (x4 : Int32) (S : SS) : Option (Int32 × SS) :=
    f_X12_widest_j84 K6 x1 x2 x4 x4 S
def f_X12_widest_L6  : Nat → Int32 → Int32 → Int32 → Int32 → SS → Option (Int32 × SS)
  | 0, _, _, _, _, _ => none
  | n + 1, x1, x2, x3, x4, S =>
    if (4 : Int32) ≤ x4 then
      some (x3, S)
    else
      if x4 = x1 then
        f_X12_widest_j84 (fun v0 v1 v2 v3 S => f_X12_widest_L6 n v0 v1 v2 v3 S) x1 x2 x3 x4 S
      else
        if x4 = x2 then
          f_X12_widest_j84 (fun v0 v1 v2 v3 S => f_X12_widest_L6 n v0 v1 v2 v3 S) x1 x2 x3 x4 S
        else
          grd (inb x4 4) (
          grd (inb x4 4) (
          if (S.1 125 x4.toNatClampNeg) < (S.1 113 x4.toNatClampNeg) then
            if x3 = (-4 : Int32) then
              f_X12_widest_j81 (fun v0 v1 v2 v3 S => f_X12_widest_L6 n v0 v1 v2 v3 S) x1 x2 x4 S
            else
              grd (inb x4 4) (
              grd (inb x4 4) (
              grd (inb x3 4) (
              grd (inb x3 4) (
              if ((S.1 113 x4.toNatClampNeg) - (S.1 125 x4.toNatClampNeg)) ≤ ((S.1 113 x3.toNatClampNeg) - (S.1 125 x3.toNatClampNeg)) then
                f_X12_widest_j84 (fun v0 v1 v2 v3 S => f_X12_widest_L6 n v0 v1 v2 v3 S) x1 x2 x3 x4 S
              else
                f_X12_widest_j81 (fun v0 v1 v2 v3 S => f_X12_widest_L6 n v0 v1 v2 v3 S) x1 x2 x4 S))))
          else
            f_X12_widest_j84 (fun v0 v1 v2 v3 S => f_X12_widest_L6 n v0 v1 v2 v3 S) x1 x2 x3 x4 S))
def f_X12_widest (a1 : Int32) (a2 : Int32) (S : SS) : Option (Int32 × SS) :=
  f_X12_widest_L6 NF a1 a2 (-4 : Int32) (0 : Int32) S
theorem dX12_widest_0 : decode cX12_widest 0 = .ok (.bipush (-4), 2) := by decide +kernel
theorem dX12_widest_2 : decode cX12_widest 2 = .ok (.istore_n 3, 1) := by decide +kernel
theorem dX12_widest_3 : decode cX12_widest 3 = .ok (.iconst 0, 1) := by decide +kernel
theorem dX12_widest_4 : decode cX12_widest 4 = .ok (.istore 4, 2) := by decide +kernel
theorem dX12_widest_6 : decode cX12_widest 6 = .ok (.iload 4, 2) := by decide +kernel
theorem dX12_widest_8 : decode cX12_widest 8 = .ok (.iconst 4, 1) := by decide +kernel
theorem dX12_widest_9 : decode cX12_widest 9 = .ok (.if_icmp .ge 81, 3) := by decide +kernel
theorem dX12_widest_12 : decode cX12_widest 12 = .ok (.iload 4, 2) := by decide +kernel
theorem dX12_widest_14 : decode cX12_widest 14 = .ok (.iload_n 1, 1) := by decide +kernel
theorem dX12_widest_15 : decode cX12_widest 15 = .ok (.if_icmp .eq 69, 3) := by decide +kernel
theorem dX12_widest_18 : decode cX12_widest 18 = .ok (.iload 4, 2) := by decide +kernel
theorem dX12_widest_20 : decode cX12_widest 20 = .ok (.iload_n 2, 1) := by decide +kernel
theorem dX12_widest_21 : decode cX12_widest 21 = .ok (.if_icmp .eq 63, 3) := by decide +kernel
theorem dX12_widest_24 : decode cX12_widest 24 = .ok (.aload_n 0, 1) := by decide +kernel
theorem dX12_widest_25 : decode cX12_widest 25 = .ok (.getfield 192, 3) := by decide +kernel
theorem dX12_widest_28 : decode cX12_widest 28 = .ok (.iload 4, 2) := by decide +kernel
theorem dX12_widest_30 : decode cX12_widest 30 = .ok (.iaload, 1) := by decide +kernel
theorem dX12_widest_31 : decode cX12_widest 31 = .ok (.aload_n 0, 1) := by decide +kernel
theorem dX12_widest_32 : decode cX12_widest 32 = .ok (.getfield 153, 3) := by decide +kernel
theorem dX12_widest_35 : decode cX12_widest 35 = .ok (.iload 4, 2) := by decide +kernel
theorem dX12_widest_37 : decode cX12_widest 37 = .ok (.iaload, 1) := by decide +kernel
theorem dX12_widest_38 : decode cX12_widest 38 = .ok (.if_icmp .lt 6, 3) := by decide +kernel
theorem dX12_widest_41 : decode cX12_widest 41 = .ok (.goto 43, 3) := by decide +kernel
theorem dX12_widest_44 : decode cX12_widest 44 = .ok (.iload_n 3, 1) := by decide +kernel
theorem dX12_widest_45 : decode cX12_widest 45 = .ok (.bipush (-4), 2) := by decide +kernel
theorem dX12_widest_47 : decode cX12_widest 47 = .ok (.if_icmp .eq 34, 3) := by decide +kernel
theorem dX12_widest_50 : decode cX12_widest 50 = .ok (.aload_n 0, 1) := by decide +kernel
theorem dX12_widest_51 : decode cX12_widest 51 = .ok (.getfield 153, 3) := by decide +kernel
theorem dX12_widest_54 : decode cX12_widest 54 = .ok (.iload 4, 2) := by decide +kernel
theorem dX12_widest_56 : decode cX12_widest 56 = .ok (.iaload, 1) := by decide +kernel
theorem dX12_widest_57 : decode cX12_widest 57 = .ok (.aload_n 0, 1) := by decide +kernel
theorem dX12_widest_58 : decode cX12_widest 58 = .ok (.getfield 192, 3) := by decide +kernel
theorem dX12_widest_61 : decode cX12_widest 61 = .ok (.iload 4, 2) := by decide +kernel
theorem dX12_widest_63 : decode cX12_widest 63 = .ok (.iaload, 1) := by decide +kernel
theorem dX12_widest_64 : decode cX12_widest 64 = .ok (.isub, 1) := by decide +kernel
theorem dX12_widest_65 : decode cX12_widest 65 = .ok (.aload_n 0, 1) := by decide +kernel
theorem dX12_widest_66 : decode cX12_widest 66 = .ok (.getfield 153, 3) := by decide +kernel
theorem dX12_widest_69 : decode cX12_widest 69 = .ok (.iload_n 3, 1) := by decide +kernel
theorem dX12_widest_70 : decode cX12_widest 70 = .ok (.iaload, 1) := by decide +kernel
theorem dX12_widest_71 : decode cX12_widest 71 = .ok (.aload_n 0, 1) := by decide +kernel
theorem dX12_widest_72 : decode cX12_widest 72 = .ok (.getfield 192, 3) := by decide +kernel
theorem dX12_widest_75 : decode cX12_widest 75 = .ok (.iload_n 3, 1) := by decide +kernel
theorem dX12_widest_76 : decode cX12_widest 76 = .ok (.iaload, 1) := by decide +kernel
theorem dX12_widest_77 : decode cX12_widest 77 = .ok (.isub, 1) := by decide +kernel
theorem dX12_widest_78 : decode cX12_widest 78 = .ok (.if_icmp .le 6, 3) := by decide +kernel
theorem dX12_widest_81 : decode cX12_widest 81 = .ok (.iload 4, 2) := by decide +kernel
theorem dX12_widest_83 : decode cX12_widest 83 = .ok (.istore_n 3, 1) := by decide +kernel
theorem dX12_widest_84 : decode cX12_widest 84 = .ok (.iinc 4 1, 3) := by decide +kernel
theorem dX12_widest_87 : decode cX12_widest 87 = .ok (.goto (-81), 3) := by decide +kernel
theorem dX12_widest_90 : decode cX12_widest 90 = .ok (.iload_n 3, 1) := by decide +kernel
theorem dX12_widest_91 : decode cX12_widest 91 = .ok (.ireturn, 1) := by decide +kernel
set_option maxRecDepth 100000 in
set_option maxHeartbeats 4000000 in
theorem w_X12_widest_j84 {p : Program} {l : Launch} {e : Env} {R : Room} {s : State} {m : MethodId} {args : Array Value} {below : List Frame} {meth : Method} {c : Code} {dC : Nat → ClassId} {dI : Nat → Nat → Nat} {cs : Nat → ClassId} {ad : Nat → Nat} {A : Nat → Prop} {D0 : Nat → Nat} {S' : SS} {r : Int32} (F : Fx p s m args meth c cX12_widest 5 RX12 (some .int) dC dI cs A) (hR1 : 0 ≤ R.frames) (hR2 : 0 ≤ R.locals) (K6 : Int32 → Int32 → Int32 → Int32 → SS → Option (Int32 × SS)) (hK6 : ∀ (v0 : Int32) (v1 : Int32) (v2 : Int32) (v3 : Int32) (S : SS), K6 v0 v1 v2 v3 S = some (r, S') → AW p l e R s m args below meth c dC dI cs ad A D0 (some (.int r)) S' 5 6 [(0, .ref (ad 14)), (1, .int v0), (2, .int v1), (3, .int v2), (4, .int v3)] [] S) (x1 : Int32) (x2 : Int32) (x3 : Int32) (x4 : Int32) (S : SS) (h : f_X12_widest_j84 K6 x1 x2 x3 x4 S = some (r, S')) : AW p l e R s m args below meth c dC dI cs ad A D0 (some (.int r)) S' 5 84 [(0, .ref (ad 14)), (1, .int x1), (2, .int x2), (3, .int x3), (4, .int x4)] [] S := by
  have hx := F.1.1
  have hb := F.1.2.1
  intro H locs ls w hl
  rw [f_X12_widest_j84] at h
  refine s_nm h (fun z1 ez1 h => ?_)
  refine lv_iinc (pc := 84) (v := z1) (lv' := [(4, .int z1), (0, .ref (ad 14)), (1, .int x1), (2, .int x2), (3, .int x3)]) hx hb dX12_widest_84 hl (k := 4) rfl (by rw [ez1]; rfl) (by decide) rfl (fun ls hl => ?_)
  refine lv_goto (pc := 87) (tgt := 6) hx hb dX12_widest_87 (by decide) ?_
  exact hK6 _ _ _ _ _ h _ _ _ w (lv_sub hl [1, 2, 3, 4, 0] rfl)
set_option maxRecDepth 100000 in
set_option maxHeartbeats 4000000 in
theorem w_X12_widest_j81 {p : Program} {l : Launch} {e : Env} {R : Room} {s : State} {m : MethodId} {args : Array Value} {below : List Frame} {meth : Method} {c : Code} {dC : Nat → ClassId} {dI : Nat → Nat → Nat} {cs : Nat → ClassId} {ad : Nat → Nat} {A : Nat → Prop} {D0 : Nat → Nat} {S' : SS} {r : Int32} (F : Fx p s m args meth c cX12_widest 5 RX12 (some .int) dC dI cs A) (hR1 : 0 ≤ R.frames) (hR2 : 0 ≤ R.locals) (K6 : Int32 → Int32 → Int32 → Int32 → SS → Option (Int32 × SS)) (hK6 : ∀ (v0 : Int32) (v1 : Int32) (v2 : Int32) (v3 : Int32) (S : SS), K6 v0 v1 v2 v3 S = some (r, S') → AW p l e R s m args below meth c dC dI cs ad A D0 (some (.int r)) S' 5 6 [(0, .ref (ad 14)), (1, .int v0), (2, .int v1), (3, .int v2), (4, .int v3)] [] S) (x1 : Int32) (x2 : Int32) (x4 : Int32) (S : SS) (h : f_X12_widest_j81 K6 x1 x2 x4 S = some (r, S')) : AW p l e R s m args below meth c dC dI cs ad A D0 (some (.int r)) S' 5 81 [(0, .ref (ad 14)), (1, .int x1), (2, .int x2), (4, .int x4)] [] S := by
  have hx := F.1.1
  have hb := F.1.2.1
  intro H locs ls w hl
  rw [f_X12_widest_j81] at h
  refine lv_iload (pc := 81) hx hb dX12_widest_81 (lv_at hl 3 rfl) ?_
  refine lv_istore_n (pc := 83) (lv' := [(3, .int x4), (0, .ref (ad 14)), (1, .int x1), (2, .int x2), (4, .int x4)]) hx hb dX12_widest_83 rfl hl (by decide) rfl (fun ls hl => ?_)
  exact w_X12_widest_j84 F (Nat.le_trans (by decide) hR1) (Nat.le_trans (by decide) hR2) _ hK6 _ _ _ _ _ h _ _ _ w (lv_sub hl [1, 2, 3, 0, 4] rfl)
set_option maxRecDepth 100000 in
set_option maxHeartbeats 4000000 in
theorem w_X12_widest_L6 {p : Program} {l : Launch} {e : Env} {R : Room} {s : State} {m : MethodId} {args : Array Value} {below : List Frame} {meth : Method} {c : Code} {dC : Nat → ClassId} {dI : Nat → Nat → Nat} {cs : Nat → ClassId} {ad : Nat → Nat} {A : Nat → Prop} {D0 : Nat → Nat} {S' : SS} {r : Int32} (F : Fx p s m args meth c cX12_widest 5 RX12 (some .int) dC dI cs A) (hR1 : 0 ≤ R.frames) (hR2 : 0 ≤ R.locals) : ∀ (n : Nat) (x1 : Int32) (x2 : Int32) (x3 : Int32) (x4 : Int32) (S : SS), f_X12_widest_L6 n x1 x2 x3 x4 S = some (r, S') → AW p l e R s m args below meth c dC dI cs ad A D0 (some (.int r)) S' 5 6 [(0, .ref (ad 14)), (1, .int x1), (2, .int x2), (3, .int x3), (4, .int x4)] [] S := by
  have hx := F.1.1
  have hb := F.1.2.1
  intro n
  induction n with
  | zero => intro x1 x2 x3 x4 S h; cases h
  | succ n ih =>
    intro x1 x2 x3 x4 S h H locs ls w hl
    rw [f_X12_widest_L6] at h
    refine lv_iload (pc := 6) hx hb dX12_widest_6 (lv_at hl 4 rfl) ?_
    refine lv_iconst (pc := 8) (v := 4) hx hb dX12_widest_8 (by decide) ?_
    refine lv_icmp_ge (pc := 9) (tgt := 90) hx hb dX12_widest_9 (by decide) (fun q => ?_) (fun q => ?_)
    · have h := ite_t q h
      refine lv_iload_n (pc := 90) hx hb dX12_widest_90 rfl (lv_at hl 3 rfl) ?_
      exact s_iret F w h dX12_widest_91
    · have h := ite_f q h
      refine lv_iload (pc := 12) hx hb dX12_widest_12 (lv_at hl 4 rfl) ?_
      refine lv_iload_n (pc := 14) hx hb dX12_widest_14 rfl (lv_at hl 1 rfl) ?_
      refine lv_icmp_eq (pc := 15) (tgt := 84) hx hb dX12_widest_15 (by decide) (fun q => ?_) (fun q => ?_)
      · have h := ite_t q h
        exact w_X12_widest_j84 F (Nat.le_trans (by decide) hR1) (Nat.le_trans (by decide) hR2) _ (fun v0 v1 v2 v3 S h => ih v0 v1 v2 v3 S h) _ _ _ _ _ h _ _ _ w (lv_sub hl [0, 1, 2, 3, 4] rfl)
      · have h := ite_f q h
        refine lv_iload (pc := 18) hx hb dX12_widest_18 (lv_at hl 4 rfl) ?_
        refine lv_iload_n (pc := 20) hx hb dX12_widest_20 rfl (lv_at hl 2 rfl) ?_
        refine lv_icmp_eq (pc := 21) (tgt := 84) hx hb dX12_widest_21 (by decide) (fun q => ?_) (fun q => ?_)
        · have h := ite_t q h
          exact w_X12_widest_j84 F (Nat.le_trans (by decide) hR1) (Nat.le_trans (by decide) hR2) _ (fun v0 v1 v2 v3 S h => ih v0 v1 v2 v3 S h) _ _ _ _ _ h _ _ _ w (lv_sub hl [0, 1, 2, 3, 4] rfl)
        · have h := ite_f q h
          refine lv_aload_n (pc := 24) hx hb dX12_widest_24 rfl (lv_at hl 0 rfl) ?_
          refine s_getR (pc := 25) F w 125 ds_14 (j := 86) vc_X12 vi_X12 rfl (by decide) kf_X12_192 dX12_widest_25 ?_
          refine lv_iload (pc := 28) hx hb dX12_widest_28 (lv_at hl 4 rfl) ?_
          refine s_iald (pc := 30) F w ds_125 h dX12_widest_30 (fun h => ?_)
          refine lv_aload_n (pc := 31) hx hb dX12_widest_31 rfl (lv_at hl 0 rfl) ?_
          refine s_getR (pc := 32) F w 113 ds_14 (j := 71) vc_X12 vi_X12 rfl (by decide) kf_X12_153 dX12_widest_32 ?_
          refine lv_iload (pc := 35) hx hb dX12_widest_35 (lv_at hl 4 rfl) ?_
          refine s_iald (pc := 37) F w ds_113 h dX12_widest_37 (fun h => ?_)
          refine lv_icmp_lt (pc := 38) (tgt := 44) hx hb dX12_widest_38 (by decide) (fun q => ?_) (fun q => ?_)
          · have h := ite_t q h
            refine lv_iload_n (pc := 44) hx hb dX12_widest_44 rfl (lv_at hl 3 rfl) ?_
            refine lv_bipush (pc := 45) (v := -4) hx hb dX12_widest_45 (by decide) ?_
            refine lv_icmp_eq (pc := 47) (tgt := 81) hx hb dX12_widest_47 (by decide) (fun q => ?_) (fun q => ?_)
            · have h := ite_t q h
              exact w_X12_widest_j81 F (Nat.le_trans (by decide) hR1) (Nat.le_trans (by decide) hR2) _ (fun v0 v1 v2 v3 S h => ih v0 v1 v2 v3 S h) _ _ _ _ h _ _ _ w (lv_sub hl [0, 1, 2, 4] rfl)
            · have h := ite_f q h
              refine lv_aload_n (pc := 50) hx hb dX12_widest_50 rfl (lv_at hl 0 rfl) ?_
              refine s_getR (pc := 51) F w 113 ds_14 (j := 71) vc_X12 vi_X12 rfl (by decide) kf_X12_153 dX12_widest_51 ?_
              refine lv_iload (pc := 54) hx hb dX12_widest_54 (lv_at hl 4 rfl) ?_
              refine s_iald (pc := 56) F w ds_113 h dX12_widest_56 (fun h => ?_)
              refine lv_aload_n (pc := 57) hx hb dX12_widest_57 rfl (lv_at hl 0 rfl) ?_
              refine s_getR (pc := 58) F w 125 ds_14 (j := 86) vc_X12 vi_X12 rfl (by decide) kf_X12_192 dX12_widest_58 ?_
              refine lv_iload (pc := 61) hx hb dX12_widest_61 (lv_at hl 4 rfl) ?_
              refine s_iald (pc := 63) F w ds_125 h dX12_widest_63 (fun h => ?_)
              refine lv_isub (pc := 64) hx hb dX12_widest_64 ?_
              refine lv_aload_n (pc := 65) hx hb dX12_widest_65 rfl (lv_at hl 0 rfl) ?_
              refine s_getR (pc := 66) F w 113 ds_14 (j := 71) vc_X12 vi_X12 rfl (by decide) kf_X12_153 dX12_widest_66 ?_
              refine lv_iload_n (pc := 69) hx hb dX12_widest_69 rfl (lv_at hl 3 rfl) ?_
              refine s_iald (pc := 70) F w ds_113 h dX12_widest_70 (fun h => ?_)
              refine lv_aload_n (pc := 71) hx hb dX12_widest_71 rfl (lv_at hl 0 rfl) ?_
              refine s_getR (pc := 72) F w 125 ds_14 (j := 86) vc_X12 vi_X12 rfl (by decide) kf_X12_192 dX12_widest_72 ?_
              refine lv_iload_n (pc := 75) hx hb dX12_widest_75 rfl (lv_at hl 3 rfl) ?_
              refine s_iald (pc := 76) F w ds_125 h dX12_widest_76 (fun h => ?_)
              refine lv_isub (pc := 77) hx hb dX12_widest_77 ?_
              refine lv_icmp_le (pc := 78) (tgt := 84) hx hb dX12_widest_78 (by decide) (fun q => ?_) (fun q => ?_)
              · have h := ite_t q h
                exact w_X12_widest_j84 F (Nat.le_trans (by decide) hR1) (Nat.le_trans (by decide) hR2) _ (fun v0 v1 v2 v3 S h => ih v0 v1 v2 v3 S h) _ _ _ _ _ h _ _ _ w (lv_sub hl [0, 1, 2, 3, 4] rfl)
              · have h := ite_f q h
                exact w_X12_widest_j81 F (Nat.le_trans (by decide) hR1) (Nat.le_trans (by decide) hR2) _ (fun v0 v1 v2 v3 S h => ih v0 v1 v2 v3 S h) _ _ _ _ h _ _ _ w (lv_sub hl [0, 1, 2, 4] rfl)
          · have h := ite_f q h
            refine lv_goto (pc := 41) (tgt := 84) hx hb dX12_widest_41 (by decide) ?_
            exact w_X12_widest_j84 F (Nat.le_trans (by decide) hR1) (Nat.le_trans (by decide) hR2) _ (fun v0 v1 v2 v3 S h => ih v0 v1 v2 v3 S h) _ _ _ _ _ h _ _ _ w (lv_sub hl [0, 1, 2, 3, 4] rfl)
set_option maxRecDepth 100000 in
set_option maxHeartbeats 4000000 in
theorem m_X12_widest (a1 : Int32) (a2 : Int32) (S S' : SS) (r : Int32) (h : f_X12_widest a1 a2 S = some (r, S')) : MT yX12_widest cX12_widest 5 (some .int) 0 0 (fun ad => [.ref (ad 14), .int a1, .int a2]) S (some (.int r)) S' := by
  refine MT.of RX12 (fun ad => [(0, .ref (ad 14)), (1, .int a1), (2, .int a2)]) (by decide) rfl (fun _ => Nat.le_of_ble_eq_true rfl) (fun _ => rfl) ?_
  intro p l e R s m args below meth c dC dI cs ad A hR1 hR2 F H locs ls w hl
  have hx := F.1.1
  have hb := F.1.2.1
  rw [f_X12_widest] at h
  refine lv_bipush (pc := 0) (v := -4) hx hb dX12_widest_0 (by decide) ?_
  refine lv_istore_n (pc := 2) (lv' := [(3, .int (-4 : Int32)), (0, .ref (ad 14)), (1, .int a1), (2, .int a2)]) hx hb dX12_widest_2 rfl hl (by decide) rfl (fun ls hl => ?_)
  refine lv_iconst (pc := 3) (v := 0) hx hb dX12_widest_3 (by decide) ?_
  refine lv_istore (pc := 4) (lv' := [(4, .int (0 : Int32)), (3, .int (-4 : Int32)), (0, .ref (ad 14)), (1, .int a1), (2, .int a2)]) hx hb dX12_widest_4 hl (by decide) rfl (fun ls hl => ?_)
  exact w_X12_widest_L6 F (Nat.le_trans (by decide) hR1) (Nat.le_trans (by decide) hR2) _ _ _ _ _ _ h _ _ _ w (lv_sub hl [2, 3, 4, 1, 0] rfl)
