/-! ===== printed by wip/gen: M_put M_wagon M_engine M_bar M_table M_route M_missRoute M_missPoint M_isLocking M_via ===== -/
def f_M_put (a1 : Int32) (a2 : Int32) (a3 : Int32) (a4 : Int32) (a5 : Int32) (S : SS) : Option (Int32 × SS) :=
  nm (S.1 0 29) (fun z1 =>
  grd (inb z1 72) (wr S 18 z1.toNatClampNeg a1 (fun S2 =>
  grd (inb z1 72) (wr S2 19 z1.toNatClampNeg (vp_nar .boolean (1 : Int32)) (fun S3 =>
  grd (inb z1 72) (wr S3 20 z1.toNatClampNeg a2 (fun S4 =>
  grd (inb z1 72) (wr S4 21 z1.toNatClampNeg a3 (fun S5 =>
  grd (inb z1 72) (wr S5 22 z1.toNatClampNeg (1 : Int32) (fun S6 =>
  grd (inb ((2 : Int32) * z1) 144) (wr S6 23 ((2 : Int32) * z1).toNatClampNeg (-4 : Int32) (fun S7 =>
  grd (inb (((2 : Int32) * z1) + (1 : Int32)) 144) (wr S7 23 (((2 : Int32) * z1) + (1 : Int32)).toNatClampNeg (-4 : Int32) (fun S8 =>
  grd (inb z1 72) (wr S8 25 z1.toNatClampNeg (-4 : Int32) (fun S9 =>
  grd (inb z1 72) (wr S9 28 z1.toNatClampNeg a4 (fun S10 =>
  grd (inb z1 72) (wr S10 29 z1.toNatClampNeg a5 (fun S11 =>
  grd (inb z1 72) (wr S11 35 z1.toNatClampNeg (-4 : Int32) (fun S12 =>
  wr S12 0 49 ((S12.1 0 49) + (1 : Int32)) (fun S13 =>
  grd (inb z1 72) (wr S13 24 z1.toNatClampNeg (S13.1 0 49) (fun S14 =>
  wr S14 0 29 ((S14.1 0 29) + (1 : Int32)) (fun S15 =>
  bndv (f_M_forget  S15) (fun S16 =>
  some (z1, S16)))))))))))))))))))))))))))))
theorem dX12_put_0 : decode cX12_put 0 = .ok (.aload_n 0, 1) := dc_42 (by decide +kernel)
theorem dX12_put_1 : decode cX12_put 1 = .ok (.getfield 269, 3) := dc_180 (a := 1) (b := 13) (by decide +kernel)
theorem dX12_put_4 : decode cX12_put 4 = .ok (.istore 6, 2) := dc_54 (a := 6) (by decide +kernel)
theorem dX12_put_6 : decode cX12_put 6 = .ok (.aload_n 0, 1) := dc_42 (by decide +kernel)
theorem dX12_put_7 : decode cX12_put 7 = .ok (.getfield 69, 3) := dc_180 (a := 0) (b := 69) (by decide +kernel)
theorem dX12_put_10 : decode cX12_put 10 = .ok (.iload 6, 2) := dc_21 (a := 6) (by decide +kernel)
theorem dX12_put_12 : decode cX12_put 12 = .ok (.iload_n 1, 1) := dc_27 (by decide +kernel)
theorem dX12_put_13 : decode cX12_put 13 = .ok (.iastore, 1) := dc_79 (by decide +kernel)
theorem dX12_put_14 : decode cX12_put 14 = .ok (.aload_n 0, 1) := dc_42 (by decide +kernel)
theorem dX12_put_15 : decode cX12_put 15 = .ok (.getfield 72, 3) := dc_180 (a := 0) (b := 72) (by decide +kernel)
theorem dX12_put_18 : decode cX12_put 18 = .ok (.iload 6, 2) := dc_21 (a := 6) (by decide +kernel)
theorem dX12_put_20 : decode cX12_put 20 = .ok (.iconst 1, 1) := dc_4 (by decide +kernel)
theorem dX12_put_21 : decode cX12_put 21 = .ok (.bastore, 1) := dc_84 (by decide +kernel)
theorem dX12_put_22 : decode cX12_put 22 = .ok (.aload_n 0, 1) := dc_42 (by decide +kernel)
theorem dX12_put_23 : decode cX12_put 23 = .ok (.getfield 75, 3) := dc_180 (a := 0) (b := 75) (by decide +kernel)
theorem dX12_put_26 : decode cX12_put 26 = .ok (.iload 6, 2) := dc_21 (a := 6) (by decide +kernel)
theorem dX12_put_28 : decode cX12_put 28 = .ok (.iload_n 2, 1) := dc_28 (by decide +kernel)
theorem dX12_put_29 : decode cX12_put 29 = .ok (.iastore, 1) := dc_79 (by decide +kernel)
theorem dX12_put_30 : decode cX12_put 30 = .ok (.aload_n 0, 1) := dc_42 (by decide +kernel)
theorem dX12_put_31 : decode cX12_put 31 = .ok (.getfield 78, 3) := dc_180 (a := 0) (b := 78) (by decide +kernel)
theorem dX12_put_34 : decode cX12_put 34 = .ok (.iload 6, 2) := dc_21 (a := 6) (by decide +kernel)
theorem dX12_put_36 : decode cX12_put 36 = .ok (.iload_n 3, 1) := dc_29 (by decide +kernel)
theorem dX12_put_37 : decode cX12_put 37 = .ok (.iastore, 1) := dc_79 (by decide +kernel)
theorem dX12_put_38 : decode cX12_put 38 = .ok (.aload_n 0, 1) := dc_42 (by decide +kernel)
theorem dX12_put_39 : decode cX12_put 39 = .ok (.getfield 81, 3) := dc_180 (a := 0) (b := 81) (by decide +kernel)
theorem dX12_put_42 : decode cX12_put 42 = .ok (.iload 6, 2) := dc_21 (a := 6) (by decide +kernel)
theorem dX12_put_44 : decode cX12_put 44 = .ok (.iconst 1, 1) := dc_4 (by decide +kernel)
theorem dX12_put_45 : decode cX12_put 45 = .ok (.iastore, 1) := dc_79 (by decide +kernel)
theorem dX12_put_46 : decode cX12_put 46 = .ok (.aload_n 0, 1) := dc_42 (by decide +kernel)
theorem dX12_put_47 : decode cX12_put 47 = .ok (.getfield 84, 3) := dc_180 (a := 0) (b := 84) (by decide +kernel)
theorem dX12_put_50 : decode cX12_put 50 = .ok (.iconst 2, 1) := dc_5 (by decide +kernel)
theorem dX12_put_51 : decode cX12_put 51 = .ok (.iload 6, 2) := dc_21 (a := 6) (by decide +kernel)
theorem dX12_put_53 : decode cX12_put 53 = .ok (.imul, 1) := dc_104 (by decide +kernel)
theorem dX12_put_54 : decode cX12_put 54 = .ok (.bipush (-4), 2) := dc_16 (a := 252) (by decide +kernel) (by decide)
theorem dX12_put_56 : decode cX12_put 56 = .ok (.iastore, 1) := dc_79 (by decide +kernel)
theorem dX12_put_57 : decode cX12_put 57 = .ok (.aload_n 0, 1) := dc_42 (by decide +kernel)
theorem dX12_put_58 : decode cX12_put 58 = .ok (.getfield 84, 3) := dc_180 (a := 0) (b := 84) (by decide +kernel)
theorem dX12_put_61 : decode cX12_put 61 = .ok (.iconst 2, 1) := dc_5 (by decide +kernel)
theorem dX12_put_62 : decode cX12_put 62 = .ok (.iload 6, 2) := dc_21 (a := 6) (by decide +kernel)
theorem dX12_put_64 : decode cX12_put 64 = .ok (.imul, 1) := dc_104 (by decide +kernel)
theorem dX12_put_65 : decode cX12_put 65 = .ok (.iconst 1, 1) := dc_4 (by decide +kernel)
theorem dX12_put_66 : decode cX12_put 66 = .ok (.iadd, 1) := dc_96 (by decide +kernel)
theorem dX12_put_67 : decode cX12_put 67 = .ok (.bipush (-4), 2) := dc_16 (a := 252) (by decide +kernel) (by decide)
theorem dX12_put_69 : decode cX12_put 69 = .ok (.iastore, 1) := dc_79 (by decide +kernel)
theorem dX12_put_70 : decode cX12_put 70 = .ok (.aload_n 0, 1) := dc_42 (by decide +kernel)
theorem dX12_put_71 : decode cX12_put 71 = .ok (.getfield 90, 3) := dc_180 (a := 0) (b := 90) (by decide +kernel)
theorem dX12_put_74 : decode cX12_put 74 = .ok (.iload 6, 2) := dc_21 (a := 6) (by decide +kernel)
theorem dX12_put_76 : decode cX12_put 76 = .ok (.bipush (-4), 2) := dc_16 (a := 252) (by decide +kernel) (by decide)
theorem dX12_put_78 : decode cX12_put 78 = .ok (.iastore, 1) := dc_79 (by decide +kernel)
theorem dX12_put_79 : decode cX12_put 79 = .ok (.aload_n 0, 1) := dc_42 (by decide +kernel)
theorem dX12_put_80 : decode cX12_put 80 = .ok (.getfield 99, 3) := dc_180 (a := 0) (b := 99) (by decide +kernel)
theorem dX12_put_83 : decode cX12_put 83 = .ok (.iload 6, 2) := dc_21 (a := 6) (by decide +kernel)
theorem dX12_put_85 : decode cX12_put 85 = .ok (.iload 4, 2) := dc_21 (a := 4) (by decide +kernel)
theorem dX12_put_87 : decode cX12_put 87 = .ok (.iastore, 1) := dc_79 (by decide +kernel)
theorem dX12_put_88 : decode cX12_put 88 = .ok (.aload_n 0, 1) := dc_42 (by decide +kernel)
theorem dX12_put_89 : decode cX12_put 89 = .ok (.getfield 102, 3) := dc_180 (a := 0) (b := 102) (by decide +kernel)
theorem dX12_put_92 : decode cX12_put 92 = .ok (.iload 6, 2) := dc_21 (a := 6) (by decide +kernel)
theorem dX12_put_94 : decode cX12_put 94 = .ok (.iload 5, 2) := dc_21 (a := 5) (by decide +kernel)
theorem dX12_put_96 : decode cX12_put 96 = .ok (.iastore, 1) := dc_79 (by decide +kernel)
theorem dX12_put_97 : decode cX12_put 97 = .ok (.aload_n 0, 1) := dc_42 (by decide +kernel)
theorem dX12_put_98 : decode cX12_put 98 = .ok (.getfield 120, 3) := dc_180 (a := 0) (b := 120) (by decide +kernel)
theorem dX12_put_101 : decode cX12_put 101 = .ok (.iload 6, 2) := dc_21 (a := 6) (by decide +kernel)
theorem dX12_put_103 : decode cX12_put 103 = .ok (.bipush (-4), 2) := dc_16 (a := 252) (by decide +kernel) (by decide)
theorem dX12_put_105 : decode cX12_put 105 = .ok (.iastore, 1) := dc_79 (by decide +kernel)
theorem dX12_put_106 : decode cX12_put 106 = .ok (.aload_n 0, 1) := dc_42 (by decide +kernel)
theorem dX12_put_107 : decode cX12_put 107 = .ok (.dup, 1) := dc_89 (by decide +kernel)
theorem dX12_put_108 : decode cX12_put 108 = .ok (.getfield 272, 3) := dc_180 (a := 1) (b := 16) (by decide +kernel)
theorem dX12_put_111 : decode cX12_put 111 = .ok (.iconst 1, 1) := dc_4 (by decide +kernel)
theorem dX12_put_112 : decode cX12_put 112 = .ok (.iadd, 1) := dc_96 (by decide +kernel)
theorem dX12_put_113 : decode cX12_put 113 = .ok (.putfield 272, 3) := dc_181 (a := 1) (b := 16) (by decide +kernel)
theorem dX12_put_116 : decode cX12_put 116 = .ok (.aload_n 0, 1) := dc_42 (by decide +kernel)
theorem dX12_put_117 : decode cX12_put 117 = .ok (.getfield 87, 3) := dc_180 (a := 0) (b := 87) (by decide +kernel)
theorem dX12_put_120 : decode cX12_put 120 = .ok (.iload 6, 2) := dc_21 (a := 6) (by decide +kernel)
theorem dX12_put_122 : decode cX12_put 122 = .ok (.aload_n 0, 1) := dc_42 (by decide +kernel)
theorem dX12_put_123 : decode cX12_put 123 = .ok (.getfield 272, 3) := dc_180 (a := 1) (b := 16) (by decide +kernel)
theorem dX12_put_126 : decode cX12_put 126 = .ok (.iastore, 1) := dc_79 (by decide +kernel)
theorem dX12_put_127 : decode cX12_put 127 = .ok (.aload_n 0, 1) := dc_42 (by decide +kernel)
theorem dX12_put_128 : decode cX12_put 128 = .ok (.dup, 1) := dc_89 (by decide +kernel)
theorem dX12_put_129 : decode cX12_put 129 = .ok (.getfield 269, 3) := dc_180 (a := 1) (b := 13) (by decide +kernel)
theorem dX12_put_132 : decode cX12_put 132 = .ok (.iconst 1, 1) := dc_4 (by decide +kernel)
theorem dX12_put_133 : decode cX12_put 133 = .ok (.iadd, 1) := dc_96 (by decide +kernel)
theorem dX12_put_134 : decode cX12_put 134 = .ok (.putfield 269, 3) := dc_181 (a := 1) (b := 13) (by decide +kernel)
theorem dX12_put_137 : decode cX12_put 137 = .ok (.aload_n 0, 1) := dc_42 (by decide +kernel)
theorem dX12_put_138 : decode cX12_put 138 = .ok (.invokevirtual 229, 3) := dc_182 (a := 0) (b := 229) (by decide +kernel)
theorem dX12_put_141 : decode cX12_put 141 = .ok (.iload 6, 2) := dc_21 (a := 6) (by decide +kernel)
theorem dX12_put_143 : decode cX12_put 143 = .ok (.ireturn, 1) := dc_172 (by decide +kernel)
set_option maxRecDepth 100000 in
set_option maxHeartbeats 4000000 in
theorem m_M_put (a1 : Int32) (a2 : Int32) (a3 : Int32) (a4 : Int32) (a5 : Int32) (S S' : SS) (r : Int32) (h : f_M_put a1 a2 a3 a4 a5 S = some (r, S')) : MT yX12_put cX12_put 7 (some .int) 1 20 (fun ad => [.ref (ad 0), .int a1, .int a2, .int a3, .int a4, .int a5]) S (some (.int r)) S' := by
  refine MT.of RX12 (fun ad => [(0, .ref (ad 0)), (1, .int a1), (2, .int a2), (3, .int a3), (4, .int a4), (5, .int a5)]) (by decide) rfl (fun _ => Nat.le_of_ble_eq_true rfl) (fun _ => rfl) ?_
  intro p l e R s m args below meth c dC dI cs ad A hR1 hR2 F H locs ls w hl
  have hx := F.1.1
  have hb := F.1.2.1
  rw [f_M_put] at h
  refine lv_aload_n (pc := 0) hx hb dX12_put_0 rfl (lv_at hl 0 rfl) ?_
  refine s_getI (pc := 1) F w ds_0 (j := 29) vc_X12 vi_X12 rfl (by decide) kf_X12_269 dX12_put_1 ?_
  refine s_nm h (fun z1 ez1 h => ?_)
  rw [← ez1]
  refine lv_istore (pc := 4) (lv' := [(6, .int z1), (0, .ref (ad 0)), (1, .int a1), (2, .int a2), (3, .int a3), (4, .int a4), (5, .int a5)]) hx hb dX12_put_4 hl (by decide) rfl (fun ls hl => ?_)
  refine lv_aload_n (pc := 6) hx hb dX12_put_6 rfl (lv_at hl 1 rfl) ?_
  refine s_getR (pc := 7) F w 18 ds_0 (j := 30) vc_X12 vi_X12 rfl (by decide) kf_X12_69 dX12_put_7 ?_
  refine lv_iload (pc := 10) hx hb dX12_put_10 (lv_at hl 0 rfl) ?_
  refine lv_iload_n (pc := 12) hx hb dX12_put_12 rfl (lv_at hl 2 rfl) ?_
  refine s_iast (pc := 13) F w ds_18 h dX12_put_13 (fun S2 H locs h w => ?_)
  refine lv_aload_n (pc := 14) hx hb dX12_put_14 rfl (lv_at hl 1 rfl) ?_
  refine s_getR (pc := 15) F w 19 ds_0 (j := 31) vc_X12 vi_X12 rfl (by decide) kf_X12_72 dX12_put_15 ?_
  refine lv_iload (pc := 18) hx hb dX12_put_18 (lv_at hl 0 rfl) ?_
  refine lv_iconst (pc := 20) (v := 1) hx hb dX12_put_20 (by decide) ?_
  refine s_zast (pc := 21) F w ds_19 h dX12_put_21 (fun S3 H locs h w => ?_)
  refine lv_aload_n (pc := 22) hx hb dX12_put_22 rfl (lv_at hl 1 rfl) ?_
  refine s_getR (pc := 23) F w 20 ds_0 (j := 32) vc_X12 vi_X12 rfl (by decide) kf_X12_75 dX12_put_23 ?_
  refine lv_iload (pc := 26) hx hb dX12_put_26 (lv_at hl 0 rfl) ?_
  refine lv_iload_n (pc := 28) hx hb dX12_put_28 rfl (lv_at hl 3 rfl) ?_
  refine s_iast (pc := 29) F w ds_20 h dX12_put_29 (fun S4 H locs h w => ?_)
  refine lv_aload_n (pc := 30) hx hb dX12_put_30 rfl (lv_at hl 1 rfl) ?_
  refine s_getR (pc := 31) F w 21 ds_0 (j := 33) vc_X12 vi_X12 rfl (by decide) kf_X12_78 dX12_put_31 ?_
  refine lv_iload (pc := 34) hx hb dX12_put_34 (lv_at hl 0 rfl) ?_
  refine lv_iload_n (pc := 36) hx hb dX12_put_36 rfl (lv_at hl 4 rfl) ?_
  refine s_iast (pc := 37) F w ds_21 h dX12_put_37 (fun S5 H locs h w => ?_)
  refine lv_aload_n (pc := 38) hx hb dX12_put_38 rfl (lv_at hl 1 rfl) ?_
  refine s_getR (pc := 39) F w 22 ds_0 (j := 34) vc_X12 vi_X12 rfl (by decide) kf_X12_81 dX12_put_39 ?_
  refine lv_iload (pc := 42) hx hb dX12_put_42 (lv_at hl 0 rfl) ?_
  refine lv_iconst (pc := 44) (v := 1) hx hb dX12_put_44 (by decide) ?_
  refine s_iast (pc := 45) F w ds_22 h dX12_put_45 (fun S6 H locs h w => ?_)
  refine lv_aload_n (pc := 46) hx hb dX12_put_46 rfl (lv_at hl 1 rfl) ?_
  refine s_getR (pc := 47) F w 23 ds_0 (j := 35) vc_X12 vi_X12 rfl (by decide) kf_X12_84 dX12_put_47 ?_
  refine lv_iconst (pc := 50) (v := 2) hx hb dX12_put_50 (by decide) ?_
  refine lv_iload (pc := 51) hx hb dX12_put_51 (lv_at hl 0 rfl) ?_
  refine lv_imul (pc := 53) hx hb dX12_put_53 ?_
  refine lv_bipush (pc := 54) (v := -4) hx hb dX12_put_54 (by decide) ?_
  refine s_iast (pc := 56) F w ds_23 h dX12_put_56 (fun S7 H locs h w => ?_)
  refine lv_aload_n (pc := 57) hx hb dX12_put_57 rfl (lv_at hl 1 rfl) ?_
  refine s_getR (pc := 58) F w 23 ds_0 (j := 35) vc_X12 vi_X12 rfl (by decide) kf_X12_84 dX12_put_58 ?_
  refine lv_iconst (pc := 61) (v := 2) hx hb dX12_put_61 (by decide) ?_
  refine lv_iload (pc := 62) hx hb dX12_put_62 (lv_at hl 0 rfl) ?_
  refine lv_imul (pc := 64) hx hb dX12_put_64 ?_
  refine lv_iconst (pc := 65) (v := 1) hx hb dX12_put_65 (by decide) ?_
  refine lv_iadd (pc := 66) hx hb dX12_put_66 ?_
  refine lv_bipush (pc := 67) (v := -4) hx hb dX12_put_67 (by decide) ?_
  refine s_iast (pc := 69) F w ds_23 h dX12_put_69 (fun S8 H locs h w => ?_)
  refine lv_aload_n (pc := 70) hx hb dX12_put_70 rfl (lv_at hl 1 rfl) ?_
  refine s_getR (pc := 71) F w 25 ds_0 (j := 37) vc_X12 vi_X12 rfl (by decide) kf_X12_90 dX12_put_71 ?_
  refine lv_iload (pc := 74) hx hb dX12_put_74 (lv_at hl 0 rfl) ?_
  refine lv_bipush (pc := 76) (v := -4) hx hb dX12_put_76 (by decide) ?_
  refine s_iast (pc := 78) F w ds_25 h dX12_put_78 (fun S9 H locs h w => ?_)
  refine lv_aload_n (pc := 79) hx hb dX12_put_79 rfl (lv_at hl 1 rfl) ?_
  refine s_getR (pc := 80) F w 28 ds_0 (j := 40) vc_X12 vi_X12 rfl (by decide) kf_X12_99 dX12_put_80 ?_
  refine lv_iload (pc := 83) hx hb dX12_put_83 (lv_at hl 0 rfl) ?_
  refine lv_iload (pc := 85) hx hb dX12_put_85 (lv_at hl 5 rfl) ?_
  refine s_iast (pc := 87) F w ds_28 h dX12_put_87 (fun S10 H locs h w => ?_)
  refine lv_aload_n (pc := 88) hx hb dX12_put_88 rfl (lv_at hl 1 rfl) ?_
  refine s_getR (pc := 89) F w 29 ds_0 (j := 41) vc_X12 vi_X12 rfl (by decide) kf_X12_102 dX12_put_89 ?_
  refine lv_iload (pc := 92) hx hb dX12_put_92 (lv_at hl 0 rfl) ?_
  refine lv_iload (pc := 94) hx hb dX12_put_94 (lv_at hl 6 rfl) ?_
  refine s_iast (pc := 96) F w ds_29 h dX12_put_96 (fun S11 H locs h w => ?_)
  refine lv_aload_n (pc := 97) hx hb dX12_put_97 rfl (lv_at hl 1 rfl) ?_
  refine s_getR (pc := 98) F w 35 ds_0 (j := 50) vc_X12 vi_X12 rfl (by decide) kf_X12_120 dX12_put_98 ?_
  refine lv_iload (pc := 101) hx hb dX12_put_101 (lv_at hl 0 rfl) ?_
  refine lv_bipush (pc := 103) (v := -4) hx hb dX12_put_103 (by decide) ?_
  refine s_iast (pc := 105) F w ds_35 h dX12_put_105 (fun S12 H locs h w => ?_)
  refine lv_aload_n (pc := 106) hx hb dX12_put_106 rfl (lv_at hl 1 rfl) ?_
  refine lv_dup (pc := 107) hx hb dX12_put_107 rfl ?_
  refine s_getI (pc := 108) F w ds_0 (j := 49) vc_X12 vi_X12 rfl (by decide) kf_X12_272 dX12_put_108 ?_
  refine lv_iconst (pc := 111) (v := 1) hx hb dX12_put_111 (by decide) ?_
  refine lv_iadd (pc := 112) hx hb dX12_put_112 ?_
  refine s_putI (pc := 113) F w ds_0 vc_X12 vi_X12 tyX12_ok nmX12 (j := 49) rfl (by decide) kf_X12_272 rfl pd_I h dX12_put_113 (fun S13 H locs h w => ?_)
  refine lv_aload_n (pc := 116) hx hb dX12_put_116 rfl (lv_at hl 1 rfl) ?_
  refine s_getR (pc := 117) F w 24 ds_0 (j := 36) vc_X12 vi_X12 rfl (by decide) kf_X12_87 dX12_put_117 ?_
  refine lv_iload (pc := 120) hx hb dX12_put_120 (lv_at hl 0 rfl) ?_
  refine lv_aload_n (pc := 122) hx hb dX12_put_122 rfl (lv_at hl 1 rfl) ?_
  refine s_getI (pc := 123) F w ds_0 (j := 49) vc_X12 vi_X12 rfl (by decide) kf_X12_272 dX12_put_123 ?_
  refine s_iast (pc := 126) F w ds_24 h dX12_put_126 (fun S14 H locs h w => ?_)
  refine lv_aload_n (pc := 127) hx hb dX12_put_127 rfl (lv_at hl 1 rfl) ?_
  refine lv_dup (pc := 128) hx hb dX12_put_128 rfl ?_
  refine s_getI (pc := 129) F w ds_0 (j := 29) vc_X12 vi_X12 rfl (by decide) kf_X12_269 dX12_put_129 ?_
  refine lv_iconst (pc := 132) (v := 1) hx hb dX12_put_132 (by decide) ?_
  refine lv_iadd (pc := 133) hx hb dX12_put_133 ?_
  refine s_putI (pc := 134) F w ds_0 vc_X12 vi_X12 tyX12_ok nmX12 (j := 29) rfl (by decide) kf_X12_269 rfl pd_I h dX12_put_134 (fun S15 H locs h w => ?_)
  refine lv_aload_n (pc := 137) hx hb dX12_put_137 rfl (lv_at hl 1 rfl) ?_
  obtain ⟨S16, hc, h⟩ := bndv_t h
  refine s_cvv (pc := 138) [] (fun ad => [.ref (ad 0)]) F w (m_M_forget  _ _ hc) rfl rfl hl.1 ds_0 vc_X12 rfl ok_X12_forget rfl kc_X12_forget kl_X12_229 ki_X12_forget kv_X12_forget kn_X12 ⟨Nat.le_trans (by decide) hR1, Nat.le_trans (by decide) hR2⟩ ⟨Nat.zero_le _, Nat.zero_le _⟩ (Nat.le_of_ble_eq_true rfl) dX12_put_138 (fun H locs w => ?_)
  refine lv_iload (pc := 141) hx hb dX12_put_141 (lv_at hl 0 rfl) ?_
  exact s_iret F w h dX12_put_143
def f_M_wagon (a1 : Int32) (a2 : Int32) (a3 : Int32) (a4 : Int32) (a5 : Int32) (S : SS) : Option (Int32 × SS) :=
  if a1 < 0 then
    some ((-1 : Int32), S)
  else
    if (4 : Int32) < a1 then
      some ((-1 : Int32), S)
    else
      if a4 < 0 then
        some ((-1 : Int32), S)
      else
        if (8 : Int32) < a4 then
          some ((-1 : Int32), S)
        else
          if a5 < (1 : Int32) then
            some ((-1 : Int32), S)
          else
            if a5 ≤ (100 : Int32) then
              if (S.1 0 29) = (72 : Int32) then
                some ((-3 : Int32), S)
              else
                bndv (f_M_begin  S) (fun S1 =>
                bnd (f_M_missFree a2 a3 S1) (fun r3 S2 =>
                bnd (f_M_ends r3 S2) (fun r5 S4 =>
                if r5 = 0 then
                  bnd (f_M_put a1 a2 a3 a4 a5 S4) (fun r7 S6 =>
                  some (r7, S6))
                else
                  some ((-2 : Int32), S4))))
            else
              some ((-1 : Int32), S)
theorem dX12_wagon_0 : decode cX12_wagon 0 = .ok (.iload_n 1, 1) := dc_27 (by decide +kernel)
theorem dX12_wagon_1 : decode cX12_wagon 1 = .ok (.ifCond .lt 33, 3) := dc_155 (a := 0) (b := 33) (by decide +kernel) (by decide)
theorem dX12_wagon_4 : decode cX12_wagon 4 = .ok (.iload_n 1, 1) := dc_27 (by decide +kernel)
theorem dX12_wagon_5 : decode cX12_wagon 5 = .ok (.iconst 4, 1) := dc_7 (by decide +kernel)
theorem dX12_wagon_6 : decode cX12_wagon 6 = .ok (.if_icmp .gt 28, 3) := dc_163 (a := 0) (b := 28) (by decide +kernel) (by decide)
theorem dX12_wagon_9 : decode cX12_wagon 9 = .ok (.iload 4, 2) := dc_21 (a := 4) (by decide +kernel)
theorem dX12_wagon_11 : decode cX12_wagon 11 = .ok (.ifCond .lt 23, 3) := dc_155 (a := 0) (b := 23) (by decide +kernel) (by decide)
theorem dX12_wagon_14 : decode cX12_wagon 14 = .ok (.iload 4, 2) := dc_21 (a := 4) (by decide +kernel)
theorem dX12_wagon_16 : decode cX12_wagon 16 = .ok (.bipush 8, 2) := dc_16 (a := 8) (by decide +kernel) (by decide)
theorem dX12_wagon_18 : decode cX12_wagon 18 = .ok (.if_icmp .gt 16, 3) := dc_163 (a := 0) (b := 16) (by decide +kernel) (by decide)
theorem dX12_wagon_21 : decode cX12_wagon 21 = .ok (.iload 5, 2) := dc_21 (a := 5) (by decide +kernel)
theorem dX12_wagon_23 : decode cX12_wagon 23 = .ok (.iconst 1, 1) := dc_4 (by decide +kernel)
theorem dX12_wagon_24 : decode cX12_wagon 24 = .ok (.if_icmp .lt 10, 3) := dc_161 (a := 0) (b := 10) (by decide +kernel) (by decide)
theorem dX12_wagon_27 : decode cX12_wagon 27 = .ok (.iload 5, 2) := dc_21 (a := 5) (by decide +kernel)
theorem dX12_wagon_29 : decode cX12_wagon 29 = .ok (.bipush 100, 2) := dc_16 (a := 100) (by decide +kernel) (by decide)
theorem dX12_wagon_31 : decode cX12_wagon 31 = .ok (.if_icmp .le 5, 3) := dc_164 (a := 0) (b := 5) (by decide +kernel) (by decide)
theorem dX12_wagon_34 : decode cX12_wagon 34 = .ok (.iconst (-1), 1) := dc_2 (by decide +kernel)
theorem dX12_wagon_35 : decode cX12_wagon 35 = .ok (.ireturn, 1) := dc_172 (by decide +kernel)
theorem dX12_wagon_36 : decode cX12_wagon 36 = .ok (.aload_n 0, 1) := dc_42 (by decide +kernel)
theorem dX12_wagon_37 : decode cX12_wagon 37 = .ok (.getfield 269, 3) := dc_180 (a := 1) (b := 13) (by decide +kernel)
theorem dX12_wagon_40 : decode cX12_wagon 40 = .ok (.bipush 72, 2) := dc_16 (a := 72) (by decide +kernel) (by decide)
theorem dX12_wagon_42 : decode cX12_wagon 42 = .ok (.if_icmp .ne 6, 3) := dc_160 (a := 0) (b := 6) (by decide +kernel) (by decide)
theorem dX12_wagon_45 : decode cX12_wagon 45 = .ok (.bipush (-3), 2) := dc_16 (a := 253) (by decide +kernel) (by decide)
theorem dX12_wagon_47 : decode cX12_wagon 47 = .ok (.ireturn, 1) := dc_172 (by decide +kernel)
theorem dX12_wagon_48 : decode cX12_wagon 48 = .ok (.aload_n 0, 1) := dc_42 (by decide +kernel)
theorem dX12_wagon_49 : decode cX12_wagon 49 = .ok (.invokevirtual 226, 3) := dc_182 (a := 0) (b := 226) (by decide +kernel)
theorem dX12_wagon_52 : decode cX12_wagon 52 = .ok (.aload_n 0, 1) := dc_42 (by decide +kernel)
theorem dX12_wagon_53 : decode cX12_wagon 53 = .ok (.aload_n 0, 1) := dc_42 (by decide +kernel)
theorem dX12_wagon_54 : decode cX12_wagon 54 = .ok (.iload_n 2, 1) := dc_28 (by decide +kernel)
theorem dX12_wagon_55 : decode cX12_wagon 55 = .ok (.iload_n 3, 1) := dc_29 (by decide +kernel)
theorem dX12_wagon_56 : decode cX12_wagon 56 = .ok (.invokevirtual 282, 3) := dc_182 (a := 1) (b := 26) (by decide +kernel)
theorem dX12_wagon_59 : decode cX12_wagon 59 = .ok (.invokevirtual 236, 3) := dc_182 (a := 0) (b := 236) (by decide +kernel)
theorem dX12_wagon_62 : decode cX12_wagon 62 = .ok (.ifCond .eq 8, 3) := dc_153 (a := 0) (b := 8) (by decide +kernel) (by decide)
theorem dX12_wagon_65 : decode cX12_wagon 65 = .ok (.bipush (-2), 2) := dc_16 (a := 254) (by decide +kernel) (by decide)
theorem dX12_wagon_67 : decode cX12_wagon 67 = .ok (.goto 14, 3) := dc_167 (a := 0) (b := 14) (by decide +kernel) (by decide)
theorem dX12_wagon_70 : decode cX12_wagon 70 = .ok (.aload_n 0, 1) := dc_42 (by decide +kernel)
theorem dX12_wagon_71 : decode cX12_wagon 71 = .ok (.iload_n 1, 1) := dc_27 (by decide +kernel)
theorem dX12_wagon_72 : decode cX12_wagon 72 = .ok (.iload_n 2, 1) := dc_28 (by decide +kernel)
theorem dX12_wagon_73 : decode cX12_wagon 73 = .ok (.iload_n 3, 1) := dc_29 (by decide +kernel)
theorem dX12_wagon_74 : decode cX12_wagon 74 = .ok (.iload 4, 2) := dc_21 (a := 4) (by decide +kernel)
theorem dX12_wagon_76 : decode cX12_wagon 76 = .ok (.iload 5, 2) := dc_21 (a := 5) (by decide +kernel)
theorem dX12_wagon_78 : decode cX12_wagon 78 = .ok (.invokevirtual 285, 3) := dc_182 (a := 1) (b := 29) (by decide +kernel)
theorem dX12_wagon_81 : decode cX12_wagon 81 = .ok (.ireturn, 1) := dc_172 (by decide +kernel)
set_option maxRecDepth 100000 in
set_option maxHeartbeats 4000000 in
theorem m_M_wagon (a1 : Int32) (a2 : Int32) (a3 : Int32) (a4 : Int32) (a5 : Int32) (S S' : SS) (r : Int32) (h : f_M_wagon a1 a2 a3 a4 a5 S = some (r, S')) : MT yX12_wagon cX12_wagon 6 (some .int) 3 67 (fun ad => [.ref (ad 0), .int a1, .int a2, .int a3, .int a4, .int a5]) S (some (.int r)) S' := by
  refine MT.of RX12 (fun ad => [(0, .ref (ad 0)), (1, .int a1), (2, .int a2), (3, .int a3), (4, .int a4), (5, .int a5)]) (by decide) rfl (fun _ => Nat.le_of_ble_eq_true rfl) (fun _ => rfl) ?_
  intro p l e R s m args below meth c dC dI cs ad A hR1 hR2 F H locs ls w hl
  have hx := F.1.1
  have hb := F.1.2.1
  rw [f_M_wagon] at h
  refine lv_iload_n (pc := 0) hx hb dX12_wagon_0 rfl (lv_at hl 1 rfl) ?_
  refine lv_if_lt (pc := 1) (tgt := 34) hx hb dX12_wagon_1 (by decide) (fun q => ?_) (fun q => ?_)
  · have h := ite_t q h
    refine lv_iconst (pc := 34) (v := -1) hx hb dX12_wagon_34 (by decide) ?_
    exact s_iret F w h dX12_wagon_35
  · have h := ite_f q h
    refine lv_iload_n (pc := 4) hx hb dX12_wagon_4 rfl (lv_at hl 1 rfl) ?_
    refine lv_iconst (pc := 5) (v := 4) hx hb dX12_wagon_5 (by decide) ?_
    refine lv_icmp_gt (pc := 6) (tgt := 34) hx hb dX12_wagon_6 (by decide) (fun q => ?_) (fun q => ?_)
    · have h := ite_t q h
      refine lv_iconst (pc := 34) (v := -1) hx hb dX12_wagon_34 (by decide) ?_
      exact s_iret F w h dX12_wagon_35
    · have h := ite_f q h
      refine lv_iload (pc := 9) hx hb dX12_wagon_9 (lv_at hl 4 rfl) ?_
      refine lv_if_lt (pc := 11) (tgt := 34) hx hb dX12_wagon_11 (by decide) (fun q => ?_) (fun q => ?_)
      · have h := ite_t q h
        refine lv_iconst (pc := 34) (v := -1) hx hb dX12_wagon_34 (by decide) ?_
        exact s_iret F w h dX12_wagon_35
      · have h := ite_f q h
        refine lv_iload (pc := 14) hx hb dX12_wagon_14 (lv_at hl 4 rfl) ?_
        refine lv_bipush (pc := 16) (v := 8) hx hb dX12_wagon_16 (by decide) ?_
        refine lv_icmp_gt (pc := 18) (tgt := 34) hx hb dX12_wagon_18 (by decide) (fun q => ?_) (fun q => ?_)
        · have h := ite_t q h
          refine lv_iconst (pc := 34) (v := -1) hx hb dX12_wagon_34 (by decide) ?_
          exact s_iret F w h dX12_wagon_35
        · have h := ite_f q h
          refine lv_iload (pc := 21) hx hb dX12_wagon_21 (lv_at hl 5 rfl) ?_
          refine lv_iconst (pc := 23) (v := 1) hx hb dX12_wagon_23 (by decide) ?_
          refine lv_icmp_lt (pc := 24) (tgt := 34) hx hb dX12_wagon_24 (by decide) (fun q => ?_) (fun q => ?_)
          · have h := ite_t q h
            refine lv_iconst (pc := 34) (v := -1) hx hb dX12_wagon_34 (by decide) ?_
            exact s_iret F w h dX12_wagon_35
          · have h := ite_f q h
            refine lv_iload (pc := 27) hx hb dX12_wagon_27 (lv_at hl 5 rfl) ?_
            refine lv_bipush (pc := 29) (v := 100) hx hb dX12_wagon_29 (by decide) ?_
            refine lv_icmp_le (pc := 31) (tgt := 36) hx hb dX12_wagon_31 (by decide) (fun q => ?_) (fun q => ?_)
            · have h := ite_t q h
              refine lv_aload_n (pc := 36) hx hb dX12_wagon_36 rfl (lv_at hl 0 rfl) ?_
              refine s_getI (pc := 37) F w ds_0 (j := 29) vc_X12 vi_X12 rfl (by decide) kf_X12_269 dX12_wagon_37 ?_
              refine lv_bipush (pc := 40) (v := 72) hx hb dX12_wagon_40 (by decide) ?_
              refine lv_icmp_ne (pc := 42) (tgt := 48) hx hb dX12_wagon_42 (by decide) (fun q => ?_) (fun q => ?_)
              · have h := ite_f q h
                refine lv_aload_n (pc := 48) hx hb dX12_wagon_48 rfl (lv_at hl 0 rfl) ?_
                obtain ⟨S1, hc, h⟩ := bndv_t h
                refine s_cvv (pc := 49) [] (fun ad => [.ref (ad 0)]) F w (m_M_begin  _ _ hc) rfl rfl hl.1 ds_0 vc_X12 rfl ok_X12_begin rfl kc_X12_begin kl_X12_226 ki_X12_begin kv_X12_begin kn_X12 ⟨Nat.le_trans (by decide) hR1, Nat.le_trans (by decide) hR2⟩ ⟨Nat.zero_le _, Nat.zero_le _⟩ (Nat.le_of_ble_eq_true rfl) dX12_wagon_49 (fun H locs w => ?_)
                refine lv_aload_n (pc := 52) hx hb dX12_wagon_52 rfl (lv_at hl 0 rfl) ?_
                refine lv_aload_n (pc := 53) hx hb dX12_wagon_53 rfl (lv_at hl 0 rfl) ?_
                refine lv_iload_n (pc := 54) hx hb dX12_wagon_54 rfl (lv_at hl 2 rfl) ?_
                refine lv_iload_n (pc := 55) hx hb dX12_wagon_55 rfl (lv_at hl 3 rfl) ?_
                obtain ⟨r3, S2, hc, h⟩ := bnd_t h
                refine s_cvi (pc := 56) [.int a2, .int a3] (fun ad => [.ref (ad 0), .int a2, .int a3]) F w (m_M_missFree _ _ _ _ _ hc) rfl rfl hl.1 ds_0 vc_X12 rfl ok_X12_missFree rfl kc_X12_missFree kl_X12_282 ki_X12_missFree kv_X12_missFree kn_X12 ⟨Nat.le_trans (by decide) hR1, Nat.le_trans (by decide) hR2⟩ ⟨Nat.zero_le _, Nat.zero_le _⟩ (Nat.le_of_ble_eq_true rfl) dX12_wagon_56 (fun H locs w => ?_)
                obtain ⟨r5, S4, hc, h⟩ := bnd_t h
                refine s_cvi (pc := 59) [.int r3] (fun ad => [.ref (ad 0), .int r3]) F w (m_M_ends _ _ _ _ hc) rfl rfl hl.1 ds_0 vc_X12 rfl ok_X12_ends rfl kc_X12_ends kl_X12_236 ki_X12_ends kv_X12_ends kn_X12 ⟨Nat.le_trans (by decide) hR1, Nat.le_trans (by decide) hR2⟩ ⟨Nat.zero_le _, Nat.zero_le _⟩ (Nat.le_of_ble_eq_true rfl) dX12_wagon_59 (fun H locs w => ?_)
                refine lv_if_eq (pc := 62) (tgt := 70) hx hb dX12_wagon_62 (by decide) (fun q => ?_) (fun q => ?_)
                · have h := ite_t q h
                  refine lv_aload_n (pc := 70) hx hb dX12_wagon_70 rfl (lv_at hl 0 rfl) ?_
                  refine lv_iload_n (pc := 71) hx hb dX12_wagon_71 rfl (lv_at hl 1 rfl) ?_
                  refine lv_iload_n (pc := 72) hx hb dX12_wagon_72 rfl (lv_at hl 2 rfl) ?_
                  refine lv_iload_n (pc := 73) hx hb dX12_wagon_73 rfl (lv_at hl 3 rfl) ?_
                  refine lv_iload (pc := 74) hx hb dX12_wagon_74 (lv_at hl 4 rfl) ?_
                  refine lv_iload (pc := 76) hx hb dX12_wagon_76 (lv_at hl 5 rfl) ?_
                  obtain ⟨r7, S6, hc, h⟩ := bnd_t h
                  refine s_cvi (pc := 78) [.int a1, .int a2, .int a3, .int a4, .int a5] (fun ad => [.ref (ad 0), .int a1, .int a2, .int a3, .int a4, .int a5]) F w (m_M_put _ _ _ _ _ _ _ _ hc) rfl rfl hl.1 ds_0 vc_X12 rfl ok_X12_put rfl kc_X12_put kl_X12_285 ki_X12_put kv_X12_put kn_X12 ⟨Nat.le_trans (by decide) hR1, Nat.le_trans (by decide) hR2⟩ ⟨Nat.zero_le _, Nat.zero_le _⟩ (Nat.le_of_ble_eq_true rfl) dX12_wagon_78 (fun H locs w => ?_)
                  exact s_iret F w h dX12_wagon_81
                · have h := ite_f q h
                  refine lv_bipush (pc := 65) (v := -2) hx hb dX12_wagon_65 (by decide) ?_
                  refine lv_goto (pc := 67) (tgt := 81) hx hb dX12_wagon_67 (by decide) ?_
                  exact s_iret F w h dX12_wagon_81
              · have h := ite_t q h
                refine lv_bipush (pc := 45) (v := -3) hx hb dX12_wagon_45 (by decide) ?_
                exact s_iret F w h dX12_wagon_47
            · have h := ite_f q h
              refine lv_iconst (pc := 34) (v := -1) hx hb dX12_wagon_34 (by decide) ?_
              exact s_iret F w h dX12_wagon_35
def f_M_engine_j59  (x1 : Int32) (x2 : Int32) (x3 : Int32) (x4 : Int32) (y0 : Int32) (S : SS) : Option (Int32 × SS) :=
    if x1 = 0 then
      bnd (f_M_put y0 x2 x3 (6 : Int32) x4 S) (fun r7 S6 =>
      some (r7, S6))
    else
      bnd (f_M_put y0 x2 x3 (4 : Int32) x4 S) (fun r9 S8 =>
      some (r9, S8))
def f_M_engine (a1 : Int32) (a2 : Int32) (a3 : Int32) (a4 : Int32) (S : SS) : Option (Int32 × SS) :=
  if a4 < 0 then
    some ((-1 : Int32), S)
  else
    if a4 ≤ (100 : Int32) then
      if (S.1 0 29) = (72 : Int32) then
        some ((-3 : Int32), S)
      else
        bndv (f_M_begin  S) (fun S1 =>
        bnd (f_M_missFree a2 a3 S1) (fun r3 S2 =>
        bnd (f_M_ends r3 S2) (fun r5 S4 =>
        if r5 = 0 then
          if a1 = 0 then
            f_M_engine_j59 a1 a2 a3 a4 (5 : Int32) S4
          else
            f_M_engine_j59 a1 a2 a3 a4 (6 : Int32) S4
        else
          some ((-2 : Int32), S4))))
    else
      some ((-1 : Int32), S)
theorem dX12_engine_0 : decode cX12_engine 0 = .ok (.iload 4, 2) := dc_21 (a := 4) (by decide +kernel)
theorem dX12_engine_2 : decode cX12_engine 2 = .ok (.ifCond .lt 10, 3) := dc_155 (a := 0) (b := 10) (by decide +kernel) (by decide)
theorem dX12_engine_5 : decode cX12_engine 5 = .ok (.iload 4, 2) := dc_21 (a := 4) (by decide +kernel)
theorem dX12_engine_7 : decode cX12_engine 7 = .ok (.bipush 100, 2) := dc_16 (a := 100) (by decide +kernel) (by decide)
theorem dX12_engine_9 : decode cX12_engine 9 = .ok (.if_icmp .le 5, 3) := dc_164 (a := 0) (b := 5) (by decide +kernel) (by decide)
theorem dX12_engine_12 : decode cX12_engine 12 = .ok (.iconst (-1), 1) := dc_2 (by decide +kernel)
theorem dX12_engine_13 : decode cX12_engine 13 = .ok (.ireturn, 1) := dc_172 (by decide +kernel)
theorem dX12_engine_14 : decode cX12_engine 14 = .ok (.aload_n 0, 1) := dc_42 (by decide +kernel)
theorem dX12_engine_15 : decode cX12_engine 15 = .ok (.getfield 269, 3) := dc_180 (a := 1) (b := 13) (by decide +kernel)
theorem dX12_engine_18 : decode cX12_engine 18 = .ok (.bipush 72, 2) := dc_16 (a := 72) (by decide +kernel) (by decide)
theorem dX12_engine_20 : decode cX12_engine 20 = .ok (.if_icmp .ne 6, 3) := dc_160 (a := 0) (b := 6) (by decide +kernel) (by decide)
theorem dX12_engine_23 : decode cX12_engine 23 = .ok (.bipush (-3), 2) := dc_16 (a := 253) (by decide +kernel) (by decide)
theorem dX12_engine_25 : decode cX12_engine 25 = .ok (.ireturn, 1) := dc_172 (by decide +kernel)
theorem dX12_engine_26 : decode cX12_engine 26 = .ok (.aload_n 0, 1) := dc_42 (by decide +kernel)
theorem dX12_engine_27 : decode cX12_engine 27 = .ok (.invokevirtual 226, 3) := dc_182 (a := 0) (b := 226) (by decide +kernel)
theorem dX12_engine_30 : decode cX12_engine 30 = .ok (.aload_n 0, 1) := dc_42 (by decide +kernel)
theorem dX12_engine_31 : decode cX12_engine 31 = .ok (.aload_n 0, 1) := dc_42 (by decide +kernel)
theorem dX12_engine_32 : decode cX12_engine 32 = .ok (.iload_n 2, 1) := dc_28 (by decide +kernel)
theorem dX12_engine_33 : decode cX12_engine 33 = .ok (.iload_n 3, 1) := dc_29 (by decide +kernel)
theorem dX12_engine_34 : decode cX12_engine 34 = .ok (.invokevirtual 282, 3) := dc_182 (a := 1) (b := 26) (by decide +kernel)
theorem dX12_engine_37 : decode cX12_engine 37 = .ok (.invokevirtual 236, 3) := dc_182 (a := 0) (b := 236) (by decide +kernel)
theorem dX12_engine_40 : decode cX12_engine 40 = .ok (.ifCond .eq 8, 3) := dc_153 (a := 0) (b := 8) (by decide +kernel) (by decide)
theorem dX12_engine_43 : decode cX12_engine 43 = .ok (.bipush (-2), 2) := dc_16 (a := 254) (by decide +kernel) (by decide)
theorem dX12_engine_45 : decode cX12_engine 45 = .ok (.goto 31, 3) := dc_167 (a := 0) (b := 31) (by decide +kernel) (by decide)
theorem dX12_engine_48 : decode cX12_engine 48 = .ok (.aload_n 0, 1) := dc_42 (by decide +kernel)
theorem dX12_engine_49 : decode cX12_engine 49 = .ok (.iload_n 1, 1) := dc_27 (by decide +kernel)
theorem dX12_engine_50 : decode cX12_engine 50 = .ok (.ifCond .eq 8, 3) := dc_153 (a := 0) (b := 8) (by decide +kernel) (by decide)
theorem dX12_engine_53 : decode cX12_engine 53 = .ok (.bipush 6, 2) := dc_16 (a := 6) (by decide +kernel) (by decide)
theorem dX12_engine_55 : decode cX12_engine 55 = .ok (.goto 4, 3) := dc_167 (a := 0) (b := 4) (by decide +kernel) (by decide)
theorem dX12_engine_58 : decode cX12_engine 58 = .ok (.iconst 5, 1) := dc_8 (by decide +kernel)
theorem dX12_engine_59 : decode cX12_engine 59 = .ok (.iload_n 2, 1) := dc_28 (by decide +kernel)
theorem dX12_engine_60 : decode cX12_engine 60 = .ok (.iload_n 3, 1) := dc_29 (by decide +kernel)
theorem dX12_engine_61 : decode cX12_engine 61 = .ok (.iload_n 1, 1) := dc_27 (by decide +kernel)
theorem dX12_engine_62 : decode cX12_engine 62 = .ok (.ifCond .eq 7, 3) := dc_153 (a := 0) (b := 7) (by decide +kernel) (by decide)
theorem dX12_engine_65 : decode cX12_engine 65 = .ok (.iconst 4, 1) := dc_7 (by decide +kernel)
theorem dX12_engine_66 : decode cX12_engine 66 = .ok (.goto 5, 3) := dc_167 (a := 0) (b := 5) (by decide +kernel) (by decide)
theorem dX12_engine_69 : decode cX12_engine 69 = .ok (.bipush 6, 2) := dc_16 (a := 6) (by decide +kernel) (by decide)
theorem dX12_engine_71 : decode cX12_engine 71 = .ok (.iload 4, 2) := dc_21 (a := 4) (by decide +kernel)
theorem dX12_engine_73 : decode cX12_engine 73 = .ok (.invokevirtual 285, 3) := dc_182 (a := 1) (b := 29) (by decide +kernel)
theorem dX12_engine_76 : decode cX12_engine 76 = .ok (.ireturn, 1) := dc_172 (by decide +kernel)
set_option maxRecDepth 100000 in
set_option maxHeartbeats 4000000 in
theorem w_M_engine_j59 {p : Program} {l : Launch} {e : Env} {R : Room} {s : State} {m : MethodId} {args : Array Value} {below : List Frame} {meth : Method} {c : Code} {dC : Nat → ClassId} {dI : Nat → Nat → Nat} {cs : Nat → ClassId} {ad : Nat → Nat} {A : Nat → Prop} {D0 : Nat → Nat} {S' : SS} {r : Int32} (F : Fx p s m args meth c cX12_engine 5 RX12 (some .int) dC dI cs A) (hR1 : 2 ≤ R.frames) (hR2 : 46 ≤ R.locals) (x1 : Int32) (x2 : Int32) (x3 : Int32) (x4 : Int32) (y0 : Int32) (S : SS) (h : f_M_engine_j59 x1 x2 x3 x4 y0 S = some (r, S')) : AW p l e R s m args below meth c dC dI cs ad A D0 (some (.int r)) S' 5 59 [(1, .int x1), (2, .int x2), (3, .int x3), (4, .int x4)] [.int y0, .ref (ad 0)] S := by
  have hx := F.1.1
  have hb := F.1.2.1
  intro H locs ls w hl
  rw [f_M_engine_j59] at h
  refine lv_iload_n (pc := 59) hx hb dX12_engine_59 rfl (lv_at hl 1 rfl) ?_
  refine lv_iload_n (pc := 60) hx hb dX12_engine_60 rfl (lv_at hl 2 rfl) ?_
  refine lv_iload_n (pc := 61) hx hb dX12_engine_61 rfl (lv_at hl 0 rfl) ?_
  refine lv_if_eq (pc := 62) (tgt := 69) hx hb dX12_engine_62 (by decide) (fun q => ?_) (fun q => ?_)
  · have h := ite_t q h
    refine lv_bipush (pc := 69) (v := 6) hx hb dX12_engine_69 (by decide) ?_
    refine lv_iload (pc := 71) hx hb dX12_engine_71 (lv_at hl 3 rfl) ?_
    obtain ⟨r7, S6, hc, h⟩ := bnd_t h
    refine s_cvi (pc := 73) [.int y0, .int x2, .int x3, .int (6 : Int32), .int x4] (fun ad => [.ref (ad 0), .int y0, .int x2, .int x3, .int (6 : Int32), .int x4]) F w (m_M_put _ _ _ _ _ _ _ _ hc) rfl rfl hl.1 ds_0 vc_X12 rfl ok_X12_put rfl kc_X12_put kl_X12_285 ki_X12_put kv_X12_put kn_X12 ⟨Nat.le_trans (by decide) hR1, Nat.le_trans (by decide) hR2⟩ ⟨Nat.zero_le _, Nat.zero_le _⟩ (Nat.le_of_ble_eq_true rfl) dX12_engine_73 (fun H locs w => ?_)
    exact s_iret F w h dX12_engine_76
  · have h := ite_f q h
    refine lv_iconst (pc := 65) (v := 4) hx hb dX12_engine_65 (by decide) ?_
    refine lv_goto (pc := 66) (tgt := 71) hx hb dX12_engine_66 (by decide) ?_
    refine lv_iload (pc := 71) hx hb dX12_engine_71 (lv_at hl 3 rfl) ?_
    obtain ⟨r9, S8, hc, h⟩ := bnd_t h
    refine s_cvi (pc := 73) [.int y0, .int x2, .int x3, .int (4 : Int32), .int x4] (fun ad => [.ref (ad 0), .int y0, .int x2, .int x3, .int (4 : Int32), .int x4]) F w (m_M_put _ _ _ _ _ _ _ _ hc) rfl rfl hl.1 ds_0 vc_X12 rfl ok_X12_put rfl kc_X12_put kl_X12_285 ki_X12_put kv_X12_put kn_X12 ⟨Nat.le_trans (by decide) hR1, Nat.le_trans (by decide) hR2⟩ ⟨Nat.zero_le _, Nat.zero_le _⟩ (Nat.le_of_ble_eq_true rfl) dX12_engine_73 (fun H locs w => ?_)
    exact s_iret F w h dX12_engine_76
set_option maxRecDepth 100000 in
set_option maxHeartbeats 4000000 in
theorem m_M_engine (a1 : Int32) (a2 : Int32) (a3 : Int32) (a4 : Int32) (S S' : SS) (r : Int32) (h : f_M_engine a1 a2 a3 a4 S = some (r, S')) : MT yX12_engine cX12_engine 5 (some .int) 3 67 (fun ad => [.ref (ad 0), .int a1, .int a2, .int a3, .int a4]) S (some (.int r)) S' := by
  refine MT.of RX12 (fun ad => [(0, .ref (ad 0)), (1, .int a1), (2, .int a2), (3, .int a3), (4, .int a4)]) (by decide) rfl (fun _ => Nat.le_of_ble_eq_true rfl) (fun _ => rfl) ?_
  intro p l e R s m args below meth c dC dI cs ad A hR1 hR2 F H locs ls w hl
  have hx := F.1.1
  have hb := F.1.2.1
  rw [f_M_engine] at h
  refine lv_iload (pc := 0) hx hb dX12_engine_0 (lv_at hl 4 rfl) ?_
  refine lv_if_lt (pc := 2) (tgt := 12) hx hb dX12_engine_2 (by decide) (fun q => ?_) (fun q => ?_)
  · have h := ite_t q h
    refine lv_iconst (pc := 12) (v := -1) hx hb dX12_engine_12 (by decide) ?_
    exact s_iret F w h dX12_engine_13
  · have h := ite_f q h
    refine lv_iload (pc := 5) hx hb dX12_engine_5 (lv_at hl 4 rfl) ?_
    refine lv_bipush (pc := 7) (v := 100) hx hb dX12_engine_7 (by decide) ?_
    refine lv_icmp_le (pc := 9) (tgt := 14) hx hb dX12_engine_9 (by decide) (fun q => ?_) (fun q => ?_)
    · have h := ite_t q h
      refine lv_aload_n (pc := 14) hx hb dX12_engine_14 rfl (lv_at hl 0 rfl) ?_
      refine s_getI (pc := 15) F w ds_0 (j := 29) vc_X12 vi_X12 rfl (by decide) kf_X12_269 dX12_engine_15 ?_
      refine lv_bipush (pc := 18) (v := 72) hx hb dX12_engine_18 (by decide) ?_
      refine lv_icmp_ne (pc := 20) (tgt := 26) hx hb dX12_engine_20 (by decide) (fun q => ?_) (fun q => ?_)
      · have h := ite_f q h
        refine lv_aload_n (pc := 26) hx hb dX12_engine_26 rfl (lv_at hl 0 rfl) ?_
        obtain ⟨S1, hc, h⟩ := bndv_t h
        refine s_cvv (pc := 27) [] (fun ad => [.ref (ad 0)]) F w (m_M_begin  _ _ hc) rfl rfl hl.1 ds_0 vc_X12 rfl ok_X12_begin rfl kc_X12_begin kl_X12_226 ki_X12_begin kv_X12_begin kn_X12 ⟨Nat.le_trans (by decide) hR1, Nat.le_trans (by decide) hR2⟩ ⟨Nat.zero_le _, Nat.zero_le _⟩ (Nat.le_of_ble_eq_true rfl) dX12_engine_27 (fun H locs w => ?_)
        refine lv_aload_n (pc := 30) hx hb dX12_engine_30 rfl (lv_at hl 0 rfl) ?_
        refine lv_aload_n (pc := 31) hx hb dX12_engine_31 rfl (lv_at hl 0 rfl) ?_
        refine lv_iload_n (pc := 32) hx hb dX12_engine_32 rfl (lv_at hl 2 rfl) ?_
        refine lv_iload_n (pc := 33) hx hb dX12_engine_33 rfl (lv_at hl 3 rfl) ?_
        obtain ⟨r3, S2, hc, h⟩ := bnd_t h
        refine s_cvi (pc := 34) [.int a2, .int a3] (fun ad => [.ref (ad 0), .int a2, .int a3]) F w (m_M_missFree _ _ _ _ _ hc) rfl rfl hl.1 ds_0 vc_X12 rfl ok_X12_missFree rfl kc_X12_missFree kl_X12_282 ki_X12_missFree kv_X12_missFree kn_X12 ⟨Nat.le_trans (by decide) hR1, Nat.le_trans (by decide) hR2⟩ ⟨Nat.zero_le _, Nat.zero_le _⟩ (Nat.le_of_ble_eq_true rfl) dX12_engine_34 (fun H locs w => ?_)
        obtain ⟨r5, S4, hc, h⟩ := bnd_t h
        refine s_cvi (pc := 37) [.int r3] (fun ad => [.ref (ad 0), .int r3]) F w (m_M_ends _ _ _ _ hc) rfl rfl hl.1 ds_0 vc_X12 rfl ok_X12_ends rfl kc_X12_ends kl_X12_236 ki_X12_ends kv_X12_ends kn_X12 ⟨Nat.le_trans (by decide) hR1, Nat.le_trans (by decide) hR2⟩ ⟨Nat.zero_le _, Nat.zero_le _⟩ (Nat.le_of_ble_eq_true rfl) dX12_engine_37 (fun H locs w => ?_)
        refine lv_if_eq (pc := 40) (tgt := 48) hx hb dX12_engine_40 (by decide) (fun q => ?_) (fun q => ?_)
        · have h := ite_t q h
          refine lv_aload_n (pc := 48) hx hb dX12_engine_48 rfl (lv_at hl 0 rfl) ?_
          refine lv_iload_n (pc := 49) hx hb dX12_engine_49 rfl (lv_at hl 1 rfl) ?_
          refine lv_if_eq (pc := 50) (tgt := 58) hx hb dX12_engine_50 (by decide) (fun q => ?_) (fun q => ?_)
          · have h := ite_t q h
            refine lv_iconst (pc := 58) (v := 5) hx hb dX12_engine_58 (by decide) ?_
            exact w_M_engine_j59 F (Nat.le_trans (by decide) hR1) (Nat.le_trans (by decide) hR2) _ _ _ _ _ _ h _ _ _ w (lv_sub hl [1, 2, 3, 4] rfl)
          · have h := ite_f q h
            refine lv_bipush (pc := 53) (v := 6) hx hb dX12_engine_53 (by decide) ?_
            refine lv_goto (pc := 55) (tgt := 59) hx hb dX12_engine_55 (by decide) ?_
            exact w_M_engine_j59 F (Nat.le_trans (by decide) hR1) (Nat.le_trans (by decide) hR2) _ _ _ _ _ _ h _ _ _ w (lv_sub hl [1, 2, 3, 4] rfl)
        · have h := ite_f q h
          refine lv_bipush (pc := 43) (v := -2) hx hb dX12_engine_43 (by decide) ?_
          refine lv_goto (pc := 45) (tgt := 76) hx hb dX12_engine_45 (by decide) ?_
          exact s_iret F w h dX12_engine_76
      · have h := ite_t q h
        refine lv_bipush (pc := 23) (v := -3) hx hb dX12_engine_23 (by decide) ?_
        exact s_iret F w h dX12_engine_25
    · have h := ite_f q h
      refine lv_iconst (pc := 12) (v := -1) hx hb dX12_engine_12 (by decide) ?_
      exact s_iret F w h dX12_engine_13
def f_M_bar_j41  (x1 : Int32) (x2 : Int32) (x3 : Int32) (y0 : Int32) (S : SS) : Option (Int32 × SS) :=
    grd (inb (((10 : Int32) * x1) + x2) 100) (wr S 16 (((10 : Int32) * x1) + x2).toNatClampNeg (vp_nar .boolean x3) (fun S1 =>
    grd (inb (((10 : Int32) * x2) + x1) 100) (wr S1 16 (((10 : Int32) * x2) + x1).toNatClampNeg (vp_nar .boolean x3) (fun S2 =>
    bndv (f_M_forget  S2) (fun S3 =>
    some (y0, S3))))))
def f_M_bar (a1 : Int32) (a2 : Int32) (a3 : Int32) (S : SS) : Option (Int32 × SS) :=
  if a1 < 0 then
    some ((-1 : Int32), S)
  else
    if (9 : Int32) < a1 then
      some ((-1 : Int32), S)
    else
      if a2 < 0 then
        some ((-1 : Int32), S)
      else
        if a2 ≤ (9 : Int32) then
          grd (inb (((10 : Int32) * a1) + a2) 100) (
          if (S.1 16 (((10 : Int32) * a1) + a2).toNatClampNeg) = 0 then
            f_M_bar_j41 a1 a2 a3 (0 : Int32) S
          else
            f_M_bar_j41 a1 a2 a3 (1 : Int32) S)
        else
          some ((-1 : Int32), S)
theorem dX12_bar_0 : decode cX12_bar 0 = .ok (.iload_n 1, 1) := dc_27 (by decide +kernel)
theorem dX12_bar_1 : decode cX12_bar 1 = .ok (.ifCond .lt 19, 3) := dc_155 (a := 0) (b := 19) (by decide +kernel) (by decide)
theorem dX12_bar_4 : decode cX12_bar 4 = .ok (.iload_n 1, 1) := dc_27 (by decide +kernel)
theorem dX12_bar_5 : decode cX12_bar 5 = .ok (.bipush 9, 2) := dc_16 (a := 9) (by decide +kernel) (by decide)
theorem dX12_bar_7 : decode cX12_bar 7 = .ok (.if_icmp .gt 13, 3) := dc_163 (a := 0) (b := 13) (by decide +kernel) (by decide)
theorem dX12_bar_10 : decode cX12_bar 10 = .ok (.iload_n 2, 1) := dc_28 (by decide +kernel)
theorem dX12_bar_11 : decode cX12_bar 11 = .ok (.ifCond .lt 9, 3) := dc_155 (a := 0) (b := 9) (by decide +kernel) (by decide)
theorem dX12_bar_14 : decode cX12_bar 14 = .ok (.iload_n 2, 1) := dc_28 (by decide +kernel)
theorem dX12_bar_15 : decode cX12_bar 15 = .ok (.bipush 9, 2) := dc_16 (a := 9) (by decide +kernel) (by decide)
theorem dX12_bar_17 : decode cX12_bar 17 = .ok (.if_icmp .le 5, 3) := dc_164 (a := 0) (b := 5) (by decide +kernel) (by decide)
theorem dX12_bar_20 : decode cX12_bar 20 = .ok (.iconst (-1), 1) := dc_2 (by decide +kernel)
theorem dX12_bar_21 : decode cX12_bar 21 = .ok (.ireturn, 1) := dc_172 (by decide +kernel)
theorem dX12_bar_22 : decode cX12_bar 22 = .ok (.aload_n 0, 1) := dc_42 (by decide +kernel)
theorem dX12_bar_23 : decode cX12_bar 23 = .ok (.getfield 63, 3) := dc_180 (a := 0) (b := 63) (by decide +kernel)
theorem dX12_bar_26 : decode cX12_bar 26 = .ok (.bipush 10, 2) := dc_16 (a := 10) (by decide +kernel) (by decide)
theorem dX12_bar_28 : decode cX12_bar 28 = .ok (.iload_n 1, 1) := dc_27 (by decide +kernel)
theorem dX12_bar_29 : decode cX12_bar 29 = .ok (.imul, 1) := dc_104 (by decide +kernel)
theorem dX12_bar_30 : decode cX12_bar 30 = .ok (.iload_n 2, 1) := dc_28 (by decide +kernel)
theorem dX12_bar_31 : decode cX12_bar 31 = .ok (.iadd, 1) := dc_96 (by decide +kernel)
theorem dX12_bar_32 : decode cX12_bar 32 = .ok (.baload, 1) := dc_51 (by decide +kernel)
theorem dX12_bar_33 : decode cX12_bar 33 = .ok (.ifCond .eq 7, 3) := dc_153 (a := 0) (b := 7) (by decide +kernel) (by decide)
theorem dX12_bar_36 : decode cX12_bar 36 = .ok (.iconst 1, 1) := dc_4 (by decide +kernel)
theorem dX12_bar_37 : decode cX12_bar 37 = .ok (.goto 4, 3) := dc_167 (a := 0) (b := 4) (by decide +kernel) (by decide)
theorem dX12_bar_40 : decode cX12_bar 40 = .ok (.iconst 0, 1) := dc_3 (by decide +kernel)
theorem dX12_bar_41 : decode cX12_bar 41 = .ok (.istore 4, 2) := dc_54 (a := 4) (by decide +kernel)
theorem dX12_bar_43 : decode cX12_bar 43 = .ok (.aload_n 0, 1) := dc_42 (by decide +kernel)
theorem dX12_bar_44 : decode cX12_bar 44 = .ok (.getfield 63, 3) := dc_180 (a := 0) (b := 63) (by decide +kernel)
theorem dX12_bar_47 : decode cX12_bar 47 = .ok (.bipush 10, 2) := dc_16 (a := 10) (by decide +kernel) (by decide)
theorem dX12_bar_49 : decode cX12_bar 49 = .ok (.iload_n 1, 1) := dc_27 (by decide +kernel)
theorem dX12_bar_50 : decode cX12_bar 50 = .ok (.imul, 1) := dc_104 (by decide +kernel)
theorem dX12_bar_51 : decode cX12_bar 51 = .ok (.iload_n 2, 1) := dc_28 (by decide +kernel)
theorem dX12_bar_52 : decode cX12_bar 52 = .ok (.iadd, 1) := dc_96 (by decide +kernel)
theorem dX12_bar_53 : decode cX12_bar 53 = .ok (.iload_n 3, 1) := dc_29 (by decide +kernel)
theorem dX12_bar_54 : decode cX12_bar 54 = .ok (.bastore, 1) := dc_84 (by decide +kernel)
theorem dX12_bar_55 : decode cX12_bar 55 = .ok (.aload_n 0, 1) := dc_42 (by decide +kernel)
theorem dX12_bar_56 : decode cX12_bar 56 = .ok (.getfield 63, 3) := dc_180 (a := 0) (b := 63) (by decide +kernel)
theorem dX12_bar_59 : decode cX12_bar 59 = .ok (.bipush 10, 2) := dc_16 (a := 10) (by decide +kernel) (by decide)
theorem dX12_bar_61 : decode cX12_bar 61 = .ok (.iload_n 2, 1) := dc_28 (by decide +kernel)
theorem dX12_bar_62 : decode cX12_bar 62 = .ok (.imul, 1) := dc_104 (by decide +kernel)
theorem dX12_bar_63 : decode cX12_bar 63 = .ok (.iload_n 1, 1) := dc_27 (by decide +kernel)
theorem dX12_bar_64 : decode cX12_bar 64 = .ok (.iadd, 1) := dc_96 (by decide +kernel)
theorem dX12_bar_65 : decode cX12_bar 65 = .ok (.iload_n 3, 1) := dc_29 (by decide +kernel)
theorem dX12_bar_66 : decode cX12_bar 66 = .ok (.bastore, 1) := dc_84 (by decide +kernel)
theorem dX12_bar_67 : decode cX12_bar 67 = .ok (.aload_n 0, 1) := dc_42 (by decide +kernel)
theorem dX12_bar_68 : decode cX12_bar 68 = .ok (.invokevirtual 229, 3) := dc_182 (a := 0) (b := 229) (by decide +kernel)
theorem dX12_bar_71 : decode cX12_bar 71 = .ok (.iload 4, 2) := dc_21 (a := 4) (by decide +kernel)
theorem dX12_bar_73 : decode cX12_bar 73 = .ok (.ireturn, 1) := dc_172 (by decide +kernel)
set_option maxRecDepth 100000 in
set_option maxHeartbeats 4000000 in
theorem w_M_bar_j41 {p : Program} {l : Launch} {e : Env} {R : Room} {s : State} {m : MethodId} {args : Array Value} {below : List Frame} {meth : Method} {c : Code} {dC : Nat → ClassId} {dI : Nat → Nat → Nat} {cs : Nat → ClassId} {ad : Nat → Nat} {A : Nat → Prop} {D0 : Nat → Nat} {S' : SS} {r : Int32} (F : Fx p s m args meth c cX12_bar 5 RX12 (some .int) dC dI cs A) (hR1 : 1 ≤ R.frames) (hR2 : 20 ≤ R.locals) (x1 : Int32) (x2 : Int32) (x3 : Int32) (y0 : Int32) (S : SS) (h : f_M_bar_j41 x1 x2 x3 y0 S = some (r, S')) : AW p l e R s m args below meth c dC dI cs ad A D0 (some (.int r)) S' 5 41 [(0, .ref (ad 0)), (1, .int x1), (2, .int x2), (3, .int x3)] [.int y0] S := by
  have hx := F.1.1
  have hb := F.1.2.1
  intro H locs ls w hl
  rw [f_M_bar_j41] at h
  refine lv_istore (pc := 41) (lv' := [(4, .int y0), (0, .ref (ad 0)), (1, .int x1), (2, .int x2), (3, .int x3)]) hx hb dX12_bar_41 hl (by decide) rfl (fun ls hl => ?_)
  refine lv_aload_n (pc := 43) hx hb dX12_bar_43 rfl (lv_at hl 1 rfl) ?_
  refine s_getR (pc := 44) F w 16 ds_0 (j := 24) vc_X12 vi_X12 rfl (by decide) kf_X12_63 dX12_bar_44 ?_
  refine lv_bipush (pc := 47) (v := 10) hx hb dX12_bar_47 (by decide) ?_
  refine lv_iload_n (pc := 49) hx hb dX12_bar_49 rfl (lv_at hl 2 rfl) ?_
  refine lv_imul (pc := 50) hx hb dX12_bar_50 ?_
  refine lv_iload_n (pc := 51) hx hb dX12_bar_51 rfl (lv_at hl 3 rfl) ?_
  refine lv_iadd (pc := 52) hx hb dX12_bar_52 ?_
  refine lv_iload_n (pc := 53) hx hb dX12_bar_53 rfl (lv_at hl 4 rfl) ?_
  refine s_zast (pc := 54) F w ds_16 h dX12_bar_54 (fun S1 H locs h w => ?_)
  refine lv_aload_n (pc := 55) hx hb dX12_bar_55 rfl (lv_at hl 1 rfl) ?_
  refine s_getR (pc := 56) F w 16 ds_0 (j := 24) vc_X12 vi_X12 rfl (by decide) kf_X12_63 dX12_bar_56 ?_
  refine lv_bipush (pc := 59) (v := 10) hx hb dX12_bar_59 (by decide) ?_
  refine lv_iload_n (pc := 61) hx hb dX12_bar_61 rfl (lv_at hl 3 rfl) ?_
  refine lv_imul (pc := 62) hx hb dX12_bar_62 ?_
  refine lv_iload_n (pc := 63) hx hb dX12_bar_63 rfl (lv_at hl 2 rfl) ?_
  refine lv_iadd (pc := 64) hx hb dX12_bar_64 ?_
  refine lv_iload_n (pc := 65) hx hb dX12_bar_65 rfl (lv_at hl 4 rfl) ?_
  refine s_zast (pc := 66) F w ds_16 h dX12_bar_66 (fun S2 H locs h w => ?_)
  refine lv_aload_n (pc := 67) hx hb dX12_bar_67 rfl (lv_at hl 1 rfl) ?_
  obtain ⟨S3, hc, h⟩ := bndv_t h
  refine s_cvv (pc := 68) [] (fun ad => [.ref (ad 0)]) F w (m_M_forget  _ _ hc) rfl rfl hl.1 ds_0 vc_X12 rfl ok_X12_forget rfl kc_X12_forget kl_X12_229 ki_X12_forget kv_X12_forget kn_X12 ⟨Nat.le_trans (by decide) hR1, Nat.le_trans (by decide) hR2⟩ ⟨Nat.zero_le _, Nat.zero_le _⟩ (Nat.le_of_ble_eq_true rfl) dX12_bar_68 (fun H locs w => ?_)
  refine lv_iload (pc := 71) hx hb dX12_bar_71 (lv_at hl 0 rfl) ?_
  exact s_iret F w h dX12_bar_73
set_option maxRecDepth 100000 in
set_option maxHeartbeats 4000000 in
theorem m_M_bar (a1 : Int32) (a2 : Int32) (a3 : Int32) (S S' : SS) (r : Int32) (h : f_M_bar a1 a2 a3 S = some (r, S')) : MT yX12_bar cX12_bar 5 (some .int) 1 20 (fun ad => [.ref (ad 0), .int a1, .int a2, .int a3]) S (some (.int r)) S' := by
  refine MT.of RX12 (fun ad => [(0, .ref (ad 0)), (1, .int a1), (2, .int a2), (3, .int a3)]) (by decide) rfl (fun _ => Nat.le_of_ble_eq_true rfl) (fun _ => rfl) ?_
  intro p l e R s m args below meth c dC dI cs ad A hR1 hR2 F H locs ls w hl
  have hx := F.1.1
  have hb := F.1.2.1
  rw [f_M_bar] at h
  refine lv_iload_n (pc := 0) hx hb dX12_bar_0 rfl (lv_at hl 1 rfl) ?_
  refine lv_if_lt (pc := 1) (tgt := 20) hx hb dX12_bar_1 (by decide) (fun q => ?_) (fun q => ?_)
  · have h := ite_t q h
    refine lv_iconst (pc := 20) (v := -1) hx hb dX12_bar_20 (by decide) ?_
    exact s_iret F w h dX12_bar_21
  · have h := ite_f q h
    refine lv_iload_n (pc := 4) hx hb dX12_bar_4 rfl (lv_at hl 1 rfl) ?_
    refine lv_bipush (pc := 5) (v := 9) hx hb dX12_bar_5 (by decide) ?_
    refine lv_icmp_gt (pc := 7) (tgt := 20) hx hb dX12_bar_7 (by decide) (fun q => ?_) (fun q => ?_)
    · have h := ite_t q h
      refine lv_iconst (pc := 20) (v := -1) hx hb dX12_bar_20 (by decide) ?_
      exact s_iret F w h dX12_bar_21
    · have h := ite_f q h
      refine lv_iload_n (pc := 10) hx hb dX12_bar_10 rfl (lv_at hl 2 rfl) ?_
      refine lv_if_lt (pc := 11) (tgt := 20) hx hb dX12_bar_11 (by decide) (fun q => ?_) (fun q => ?_)
      · have h := ite_t q h
        refine lv_iconst (pc := 20) (v := -1) hx hb dX12_bar_20 (by decide) ?_
        exact s_iret F w h dX12_bar_21
      · have h := ite_f q h
        refine lv_iload_n (pc := 14) hx hb dX12_bar_14 rfl (lv_at hl 2 rfl) ?_
        refine lv_bipush (pc := 15) (v := 9) hx hb dX12_bar_15 (by decide) ?_
        refine lv_icmp_le (pc := 17) (tgt := 22) hx hb dX12_bar_17 (by decide) (fun q => ?_) (fun q => ?_)
        · have h := ite_t q h
          refine lv_aload_n (pc := 22) hx hb dX12_bar_22 rfl (lv_at hl 0 rfl) ?_
          refine s_getR (pc := 23) F w 16 ds_0 (j := 24) vc_X12 vi_X12 rfl (by decide) kf_X12_63 dX12_bar_23 ?_
          refine lv_bipush (pc := 26) (v := 10) hx hb dX12_bar_26 (by decide) ?_
          refine lv_iload_n (pc := 28) hx hb dX12_bar_28 rfl (lv_at hl 1 rfl) ?_
          refine lv_imul (pc := 29) hx hb dX12_bar_29 ?_
          refine lv_iload_n (pc := 30) hx hb dX12_bar_30 rfl (lv_at hl 2 rfl) ?_
          refine lv_iadd (pc := 31) hx hb dX12_bar_31 ?_
          refine s_zald (pc := 32) F w ds_16 h dX12_bar_32 (fun h => ?_)
          refine lv_if_eq (pc := 33) (tgt := 40) hx hb dX12_bar_33 (by decide) (fun q => ?_) (fun q => ?_)
          · have h := ite_t q h
            refine lv_iconst (pc := 40) (v := 0) hx hb dX12_bar_40 (by decide) ?_
            exact w_M_bar_j41 F (Nat.le_trans (by decide) hR1) (Nat.le_trans (by decide) hR2) _ _ _ _ _ h _ _ _ w (lv_sub hl [0, 1, 2, 3] rfl)
          · have h := ite_f q h
            refine lv_iconst (pc := 36) (v := 1) hx hb dX12_bar_36 (by decide) ?_
            refine lv_goto (pc := 37) (tgt := 41) hx hb dX12_bar_37 (by decide) ?_
            exact w_M_bar_j41 F (Nat.le_trans (by decide) hR1) (Nat.le_trans (by decide) hR2) _ _ _ _ _ h _ _ _ w (lv_sub hl [0, 1, 2, 3] rfl)
        · have h := ite_f q h
          refine lv_iconst (pc := 20) (v := -1) hx hb dX12_bar_20 (by decide) ?_
          exact s_iret F w h dX12_bar_21
def f_M_table (a1 : Int32) (a2 : Int32) (S : SS) : Option (Int32 × SS) :=
  if a1 < 0 then
    some ((-1 : Int32), S)
  else
    if (7 : Int32) < a1 then
      some ((-1 : Int32), S)
    else
      if a2 < 0 then
        some ((-1 : Int32), S)
      else
        if a2 ≤ (99 : Int32) then
          grd (inb a1 8) (
          nm (S.1 17 a1.toNatClampNeg) (fun z1 =>
          grd (inb a1 8) (wr S 17 a1.toNatClampNeg a2 (fun S2 =>
          bndv (f_M_forget  S2) (fun S3 =>
          some (z1, S3))))))
        else
          some ((-1 : Int32), S)
theorem dX12_table_0 : decode cX12_table 0 = .ok (.iload_n 1, 1) := dc_27 (by decide +kernel)
theorem dX12_table_1 : decode cX12_table 1 = .ok (.ifCond .lt 19, 3) := dc_155 (a := 0) (b := 19) (by decide +kernel) (by decide)
theorem dX12_table_4 : decode cX12_table 4 = .ok (.iload_n 1, 1) := dc_27 (by decide +kernel)
theorem dX12_table_5 : decode cX12_table 5 = .ok (.bipush 7, 2) := dc_16 (a := 7) (by decide +kernel) (by decide)
theorem dX12_table_7 : decode cX12_table 7 = .ok (.if_icmp .gt 13, 3) := dc_163 (a := 0) (b := 13) (by decide +kernel) (by decide)
theorem dX12_table_10 : decode cX12_table 10 = .ok (.iload_n 2, 1) := dc_28 (by decide +kernel)
theorem dX12_table_11 : decode cX12_table 11 = .ok (.ifCond .lt 9, 3) := dc_155 (a := 0) (b := 9) (by decide +kernel) (by decide)
theorem dX12_table_14 : decode cX12_table 14 = .ok (.iload_n 2, 1) := dc_28 (by decide +kernel)
theorem dX12_table_15 : decode cX12_table 15 = .ok (.bipush 99, 2) := dc_16 (a := 99) (by decide +kernel) (by decide)
theorem dX12_table_17 : decode cX12_table 17 = .ok (.if_icmp .le 5, 3) := dc_164 (a := 0) (b := 5) (by decide +kernel) (by decide)
theorem dX12_table_20 : decode cX12_table 20 = .ok (.iconst (-1), 1) := dc_2 (by decide +kernel)
theorem dX12_table_21 : decode cX12_table 21 = .ok (.ireturn, 1) := dc_172 (by decide +kernel)
theorem dX12_table_22 : decode cX12_table 22 = .ok (.aload_n 0, 1) := dc_42 (by decide +kernel)
theorem dX12_table_23 : decode cX12_table 23 = .ok (.getfield 66, 3) := dc_180 (a := 0) (b := 66) (by decide +kernel)
theorem dX12_table_26 : decode cX12_table 26 = .ok (.iload_n 1, 1) := dc_27 (by decide +kernel)
theorem dX12_table_27 : decode cX12_table 27 = .ok (.iaload, 1) := dc_46 (by decide +kernel)
theorem dX12_table_28 : decode cX12_table 28 = .ok (.istore_n 3, 1) := dc_62 (by decide +kernel)
theorem dX12_table_29 : decode cX12_table 29 = .ok (.aload_n 0, 1) := dc_42 (by decide +kernel)
theorem dX12_table_30 : decode cX12_table 30 = .ok (.getfield 66, 3) := dc_180 (a := 0) (b := 66) (by decide +kernel)
theorem dX12_table_33 : decode cX12_table 33 = .ok (.iload_n 1, 1) := dc_27 (by decide +kernel)
theorem dX12_table_34 : decode cX12_table 34 = .ok (.iload_n 2, 1) := dc_28 (by decide +kernel)
theorem dX12_table_35 : decode cX12_table 35 = .ok (.iastore, 1) := dc_79 (by decide +kernel)
theorem dX12_table_36 : decode cX12_table 36 = .ok (.aload_n 0, 1) := dc_42 (by decide +kernel)
theorem dX12_table_37 : decode cX12_table 37 = .ok (.invokevirtual 229, 3) := dc_182 (a := 0) (b := 229) (by decide +kernel)
theorem dX12_table_40 : decode cX12_table 40 = .ok (.iload_n 3, 1) := dc_29 (by decide +kernel)
theorem dX12_table_41 : decode cX12_table 41 = .ok (.ireturn, 1) := dc_172 (by decide +kernel)
set_option maxRecDepth 100000 in
set_option maxHeartbeats 4000000 in
theorem m_M_table (a1 : Int32) (a2 : Int32) (S S' : SS) (r : Int32) (h : f_M_table a1 a2 S = some (r, S')) : MT yX12_table cX12_table 4 (some .int) 1 20 (fun ad => [.ref (ad 0), .int a1, .int a2]) S (some (.int r)) S' := by
  refine MT.of RX12 (fun ad => [(0, .ref (ad 0)), (1, .int a1), (2, .int a2)]) (by decide) rfl (fun _ => Nat.le_of_ble_eq_true rfl) (fun _ => rfl) ?_
  intro p l e R s m args below meth c dC dI cs ad A hR1 hR2 F H locs ls w hl
  have hx := F.1.1
  have hb := F.1.2.1
  rw [f_M_table] at h
  refine lv_iload_n (pc := 0) hx hb dX12_table_0 rfl (lv_at hl 1 rfl) ?_
  refine lv_if_lt (pc := 1) (tgt := 20) hx hb dX12_table_1 (by decide) (fun q => ?_) (fun q => ?_)
  · have h := ite_t q h
    refine lv_iconst (pc := 20) (v := -1) hx hb dX12_table_20 (by decide) ?_
    exact s_iret F w h dX12_table_21
  · have h := ite_f q h
    refine lv_iload_n (pc := 4) hx hb dX12_table_4 rfl (lv_at hl 1 rfl) ?_
    refine lv_bipush (pc := 5) (v := 7) hx hb dX12_table_5 (by decide) ?_
    refine lv_icmp_gt (pc := 7) (tgt := 20) hx hb dX12_table_7 (by decide) (fun q => ?_) (fun q => ?_)
    · have h := ite_t q h
      refine lv_iconst (pc := 20) (v := -1) hx hb dX12_table_20 (by decide) ?_
      exact s_iret F w h dX12_table_21
    · have h := ite_f q h
      refine lv_iload_n (pc := 10) hx hb dX12_table_10 rfl (lv_at hl 2 rfl) ?_
      refine lv_if_lt (pc := 11) (tgt := 20) hx hb dX12_table_11 (by decide) (fun q => ?_) (fun q => ?_)
      · have h := ite_t q h
        refine lv_iconst (pc := 20) (v := -1) hx hb dX12_table_20 (by decide) ?_
        exact s_iret F w h dX12_table_21
      · have h := ite_f q h
        refine lv_iload_n (pc := 14) hx hb dX12_table_14 rfl (lv_at hl 2 rfl) ?_
        refine lv_bipush (pc := 15) (v := 99) hx hb dX12_table_15 (by decide) ?_
        refine lv_icmp_le (pc := 17) (tgt := 22) hx hb dX12_table_17 (by decide) (fun q => ?_) (fun q => ?_)
        · have h := ite_t q h
          refine lv_aload_n (pc := 22) hx hb dX12_table_22 rfl (lv_at hl 0 rfl) ?_
          refine s_getR (pc := 23) F w 17 ds_0 (j := 25) vc_X12 vi_X12 rfl (by decide) kf_X12_66 dX12_table_23 ?_
          refine lv_iload_n (pc := 26) hx hb dX12_table_26 rfl (lv_at hl 1 rfl) ?_
          refine s_iald (pc := 27) F w ds_17 h dX12_table_27 (fun h => ?_)
          refine s_nm h (fun z1 ez1 h => ?_)
          rw [← ez1]
          refine lv_istore_n (pc := 28) (lv' := [(3, .int z1), (0, .ref (ad 0)), (1, .int a1), (2, .int a2)]) hx hb dX12_table_28 rfl hl (by decide) rfl (fun ls hl => ?_)
          refine lv_aload_n (pc := 29) hx hb dX12_table_29 rfl (lv_at hl 1 rfl) ?_
          refine s_getR (pc := 30) F w 17 ds_0 (j := 25) vc_X12 vi_X12 rfl (by decide) kf_X12_66 dX12_table_30 ?_
          refine lv_iload_n (pc := 33) hx hb dX12_table_33 rfl (lv_at hl 2 rfl) ?_
          refine lv_iload_n (pc := 34) hx hb dX12_table_34 rfl (lv_at hl 3 rfl) ?_
          refine s_iast (pc := 35) F w ds_17 h dX12_table_35 (fun S2 H locs h w => ?_)
          refine lv_aload_n (pc := 36) hx hb dX12_table_36 rfl (lv_at hl 1 rfl) ?_
          obtain ⟨S3, hc, h⟩ := bndv_t h
          refine s_cvv (pc := 37) [] (fun ad => [.ref (ad 0)]) F w (m_M_forget  _ _ hc) rfl rfl hl.1 ds_0 vc_X12 rfl ok_X12_forget rfl kc_X12_forget kl_X12_229 ki_X12_forget kv_X12_forget kn_X12 ⟨Nat.le_trans (by decide) hR1, Nat.le_trans (by decide) hR2⟩ ⟨Nat.zero_le _, Nat.zero_le _⟩ (Nat.le_of_ble_eq_true rfl) dX12_table_37 (fun H locs w => ?_)
          refine lv_iload_n (pc := 40) hx hb dX12_table_40 rfl (lv_at hl 0 rfl) ?_
          exact s_iret F w h dX12_table_41
        · have h := ite_f q h
          refine lv_iconst (pc := 20) (v := -1) hx hb dX12_table_20 (by decide) ?_
          exact s_iret F w h dX12_table_21
def f_M_route  (S : SS) : Option (Int32 × SS) :=
  if (S.1 0 19) = (12 : Int32) then
    some ((-3 : Int32), S)
  else
    grd (inb (S.1 0 19) 12) (wr S 12 (S.1 0 19).toNatClampNeg (0 : Int32) (fun S1 =>
    wr S1 0 19 ((S1.1 0 19) + (1 : Int32)) (fun S2 =>
    bndv (f_M_forget  S2) (fun S3 =>
    some ((S3.1 0 19) - (1 : Int32), S3)))))
theorem dX12_route_0 : decode cX12_route 0 = .ok (.aload_n 0, 1) := dc_42 (by decide +kernel)
theorem dX12_route_1 : decode cX12_route 1 = .ok (.getfield 220, 3) := dc_180 (a := 0) (b := 220) (by decide +kernel)
theorem dX12_route_4 : decode cX12_route 4 = .ok (.bipush 12, 2) := dc_16 (a := 12) (by decide +kernel) (by decide)
theorem dX12_route_6 : decode cX12_route 6 = .ok (.if_icmp .ne 6, 3) := dc_160 (a := 0) (b := 6) (by decide +kernel) (by decide)
theorem dX12_route_9 : decode cX12_route 9 = .ok (.bipush (-3), 2) := dc_16 (a := 253) (by decide +kernel) (by decide)
theorem dX12_route_11 : decode cX12_route 11 = .ok (.ireturn, 1) := dc_172 (by decide +kernel)
theorem dX12_route_12 : decode cX12_route 12 = .ok (.aload_n 0, 1) := dc_42 (by decide +kernel)
theorem dX12_route_13 : decode cX12_route 13 = .ok (.getfield 51, 3) := dc_180 (a := 0) (b := 51) (by decide +kernel)
theorem dX12_route_16 : decode cX12_route 16 = .ok (.aload_n 0, 1) := dc_42 (by decide +kernel)
theorem dX12_route_17 : decode cX12_route 17 = .ok (.getfield 220, 3) := dc_180 (a := 0) (b := 220) (by decide +kernel)
theorem dX12_route_20 : decode cX12_route 20 = .ok (.iconst 0, 1) := dc_3 (by decide +kernel)
theorem dX12_route_21 : decode cX12_route 21 = .ok (.iastore, 1) := dc_79 (by decide +kernel)
theorem dX12_route_22 : decode cX12_route 22 = .ok (.aload_n 0, 1) := dc_42 (by decide +kernel)
theorem dX12_route_23 : decode cX12_route 23 = .ok (.dup, 1) := dc_89 (by decide +kernel)
theorem dX12_route_24 : decode cX12_route 24 = .ok (.getfield 220, 3) := dc_180 (a := 0) (b := 220) (by decide +kernel)
theorem dX12_route_27 : decode cX12_route 27 = .ok (.iconst 1, 1) := dc_4 (by decide +kernel)
theorem dX12_route_28 : decode cX12_route 28 = .ok (.iadd, 1) := dc_96 (by decide +kernel)
theorem dX12_route_29 : decode cX12_route 29 = .ok (.putfield 220, 3) := dc_181 (a := 0) (b := 220) (by decide +kernel)
theorem dX12_route_32 : decode cX12_route 32 = .ok (.aload_n 0, 1) := dc_42 (by decide +kernel)
theorem dX12_route_33 : decode cX12_route 33 = .ok (.invokevirtual 229, 3) := dc_182 (a := 0) (b := 229) (by decide +kernel)
theorem dX12_route_36 : decode cX12_route 36 = .ok (.aload_n 0, 1) := dc_42 (by decide +kernel)
theorem dX12_route_37 : decode cX12_route 37 = .ok (.getfield 220, 3) := dc_180 (a := 0) (b := 220) (by decide +kernel)
theorem dX12_route_40 : decode cX12_route 40 = .ok (.iconst 1, 1) := dc_4 (by decide +kernel)
theorem dX12_route_41 : decode cX12_route 41 = .ok (.isub, 1) := dc_100 (by decide +kernel)
theorem dX12_route_42 : decode cX12_route 42 = .ok (.ireturn, 1) := dc_172 (by decide +kernel)
set_option maxRecDepth 100000 in
set_option maxHeartbeats 4000000 in
theorem m_M_route  (S S' : SS) (r : Int32) (h : f_M_route  S = some (r, S')) : MT yX12_route cX12_route 1 (some .int) 1 20 (fun ad => [.ref (ad 0)]) S (some (.int r)) S' := by
  refine MT.of RX12 (fun ad => [(0, .ref (ad 0))]) (by decide) rfl (fun _ => Nat.le_of_ble_eq_true rfl) (fun _ => rfl) ?_
  intro p l e R s m args below meth c dC dI cs ad A hR1 hR2 F H locs ls w hl
  have hx := F.1.1
  have hb := F.1.2.1
  rw [f_M_route] at h
  refine lv_aload_n (pc := 0) hx hb dX12_route_0 rfl (lv_at hl 0 rfl) ?_
  refine s_getI (pc := 1) F w ds_0 (j := 19) vc_X12 vi_X12 rfl (by decide) kf_X12_220 dX12_route_1 ?_
  refine lv_bipush (pc := 4) (v := 12) hx hb dX12_route_4 (by decide) ?_
  refine lv_icmp_ne (pc := 6) (tgt := 12) hx hb dX12_route_6 (by decide) (fun q => ?_) (fun q => ?_)
  · have h := ite_f q h
    refine lv_aload_n (pc := 12) hx hb dX12_route_12 rfl (lv_at hl 0 rfl) ?_
    refine s_getR (pc := 13) F w 12 ds_0 (j := 20) vc_X12 vi_X12 rfl (by decide) kf_X12_51 dX12_route_13 ?_
    refine lv_aload_n (pc := 16) hx hb dX12_route_16 rfl (lv_at hl 0 rfl) ?_
    refine s_getI (pc := 17) F w ds_0 (j := 19) vc_X12 vi_X12 rfl (by decide) kf_X12_220 dX12_route_17 ?_
    refine lv_iconst (pc := 20) (v := 0) hx hb dX12_route_20 (by decide) ?_
    refine s_iast (pc := 21) F w ds_12 h dX12_route_21 (fun S1 H locs h w => ?_)
    refine lv_aload_n (pc := 22) hx hb dX12_route_22 rfl (lv_at hl 0 rfl) ?_
    refine lv_dup (pc := 23) hx hb dX12_route_23 rfl ?_
    refine s_getI (pc := 24) F w ds_0 (j := 19) vc_X12 vi_X12 rfl (by decide) kf_X12_220 dX12_route_24 ?_
    refine lv_iconst (pc := 27) (v := 1) hx hb dX12_route_27 (by decide) ?_
    refine lv_iadd (pc := 28) hx hb dX12_route_28 ?_
    refine s_putI (pc := 29) F w ds_0 vc_X12 vi_X12 tyX12_ok nmX12 (j := 19) rfl (by decide) kf_X12_220 rfl pd_I h dX12_route_29 (fun S2 H locs h w => ?_)
    refine lv_aload_n (pc := 32) hx hb dX12_route_32 rfl (lv_at hl 0 rfl) ?_
    obtain ⟨S3, hc, h⟩ := bndv_t h
    refine s_cvv (pc := 33) [] (fun ad => [.ref (ad 0)]) F w (m_M_forget  _ _ hc) rfl rfl hl.1 ds_0 vc_X12 rfl ok_X12_forget rfl kc_X12_forget kl_X12_229 ki_X12_forget kv_X12_forget kn_X12 ⟨Nat.le_trans (by decide) hR1, Nat.le_trans (by decide) hR2⟩ ⟨Nat.zero_le _, Nat.zero_le _⟩ (Nat.le_of_ble_eq_true rfl) dX12_route_33 (fun H locs w => ?_)
    refine lv_aload_n (pc := 36) hx hb dX12_route_36 rfl (lv_at hl 0 rfl) ?_
    refine s_getI (pc := 37) F w ds_0 (j := 19) vc_X12 vi_X12 rfl (by decide) kf_X12_220 dX12_route_37 ?_
    refine lv_iconst (pc := 40) (v := 1) hx hb dX12_route_40 (by decide) ?_
    refine lv_isub (pc := 41) hx hb dX12_route_41 ?_
    exact s_iret F w h dX12_route_42
  · have h := ite_t q h
    refine lv_bipush (pc := 9) (v := -3) hx hb dX12_route_9 (by decide) ?_
    exact s_iret F w h dX12_route_11
def f_M_missRoute (a1 : Int32) (S : SS) : Option (Int32 × SS) :=
  if a1 < 0 then
    some ((3 : Int32), S)
  else
    if a1 < (12 : Int32) then
      if a1 < (S.1 0 19) then
        some ((0 : Int32), S)
      else
        some ((1 : Int32), S)
    else
      some ((3 : Int32), S)
theorem dX12_missRoute_0 : decode cX12_missRoute 0 = .ok (.iload_n 1, 1) := dc_27 (by decide +kernel)
theorem dX12_missRoute_1 : decode cX12_missRoute 1 = .ok (.ifCond .lt 9, 3) := dc_155 (a := 0) (b := 9) (by decide +kernel) (by decide)
theorem dX12_missRoute_4 : decode cX12_missRoute 4 = .ok (.iload_n 1, 1) := dc_27 (by decide +kernel)
theorem dX12_missRoute_5 : decode cX12_missRoute 5 = .ok (.bipush 12, 2) := dc_16 (a := 12) (by decide +kernel) (by decide)
theorem dX12_missRoute_7 : decode cX12_missRoute 7 = .ok (.if_icmp .lt 7, 3) := dc_161 (a := 0) (b := 7) (by decide +kernel) (by decide)
theorem dX12_missRoute_10 : decode cX12_missRoute 10 = .ok (.iconst 3, 1) := dc_6 (by decide +kernel)
theorem dX12_missRoute_11 : decode cX12_missRoute 11 = .ok (.goto 16, 3) := dc_167 (a := 0) (b := 16) (by decide +kernel) (by decide)
theorem dX12_missRoute_14 : decode cX12_missRoute 14 = .ok (.iload_n 1, 1) := dc_27 (by decide +kernel)
theorem dX12_missRoute_15 : decode cX12_missRoute 15 = .ok (.aload_n 0, 1) := dc_42 (by decide +kernel)
theorem dX12_missRoute_16 : decode cX12_missRoute 16 = .ok (.getfield 220, 3) := dc_180 (a := 0) (b := 220) (by decide +kernel)
theorem dX12_missRoute_19 : decode cX12_missRoute 19 = .ok (.if_icmp .lt 7, 3) := dc_161 (a := 0) (b := 7) (by decide +kernel) (by decide)
theorem dX12_missRoute_22 : decode cX12_missRoute 22 = .ok (.iconst 1, 1) := dc_4 (by decide +kernel)
theorem dX12_missRoute_23 : decode cX12_missRoute 23 = .ok (.goto 4, 3) := dc_167 (a := 0) (b := 4) (by decide +kernel) (by decide)
theorem dX12_missRoute_26 : decode cX12_missRoute 26 = .ok (.iconst 0, 1) := dc_3 (by decide +kernel)
theorem dX12_missRoute_27 : decode cX12_missRoute 27 = .ok (.ireturn, 1) := dc_172 (by decide +kernel)
set_option maxRecDepth 100000 in
set_option maxHeartbeats 4000000 in
theorem m_M_missRoute (a1 : Int32) (S S' : SS) (r : Int32) (h : f_M_missRoute a1 S = some (r, S')) : MT yX12_missRoute cX12_missRoute 2 (some .int) 0 0 (fun ad => [.ref (ad 0), .int a1]) S (some (.int r)) S' := by
  refine MT.of RX12 (fun ad => [(0, .ref (ad 0)), (1, .int a1)]) (by decide) rfl (fun _ => Nat.le_of_ble_eq_true rfl) (fun _ => rfl) ?_
  intro p l e R s m args below meth c dC dI cs ad A hR1 hR2 F H locs ls w hl
  have hx := F.1.1
  have hb := F.1.2.1
  rw [f_M_missRoute] at h
  refine lv_iload_n (pc := 0) hx hb dX12_missRoute_0 rfl (lv_at hl 1 rfl) ?_
  refine lv_if_lt (pc := 1) (tgt := 10) hx hb dX12_missRoute_1 (by decide) (fun q => ?_) (fun q => ?_)
  · have h := ite_t q h
    refine lv_iconst (pc := 10) (v := 3) hx hb dX12_missRoute_10 (by decide) ?_
    refine lv_goto (pc := 11) (tgt := 27) hx hb dX12_missRoute_11 (by decide) ?_
    exact s_iret F w h dX12_missRoute_27
  · have h := ite_f q h
    refine lv_iload_n (pc := 4) hx hb dX12_missRoute_4 rfl (lv_at hl 1 rfl) ?_
    refine lv_bipush (pc := 5) (v := 12) hx hb dX12_missRoute_5 (by decide) ?_
    refine lv_icmp_lt (pc := 7) (tgt := 14) hx hb dX12_missRoute_7 (by decide) (fun q => ?_) (fun q => ?_)
    · have h := ite_t q h
      refine lv_iload_n (pc := 14) hx hb dX12_missRoute_14 rfl (lv_at hl 1 rfl) ?_
      refine lv_aload_n (pc := 15) hx hb dX12_missRoute_15 rfl (lv_at hl 0 rfl) ?_
      refine s_getI (pc := 16) F w ds_0 (j := 19) vc_X12 vi_X12 rfl (by decide) kf_X12_220 dX12_missRoute_16 ?_
      refine lv_icmp_lt (pc := 19) (tgt := 26) hx hb dX12_missRoute_19 (by decide) (fun q => ?_) (fun q => ?_)
      · have h := ite_t q h
        refine lv_iconst (pc := 26) (v := 0) hx hb dX12_missRoute_26 (by decide) ?_
        exact s_iret F w h dX12_missRoute_27
      · have h := ite_f q h
        refine lv_iconst (pc := 22) (v := 1) hx hb dX12_missRoute_22 (by decide) ?_
        refine lv_goto (pc := 23) (tgt := 27) hx hb dX12_missRoute_23 (by decide) ?_
        exact s_iret F w h dX12_missRoute_27
    · have h := ite_f q h
      refine lv_iconst (pc := 10) (v := 3) hx hb dX12_missRoute_10 (by decide) ?_
      refine lv_goto (pc := 11) (tgt := 27) hx hb dX12_missRoute_11 (by decide) ?_
      exact s_iret F w h dX12_missRoute_27
def f_M_missPoint (a1 : Int32) (S : SS) : Option (Int32 × SS) :=
  if a1 < 0 then
    some ((3 : Int32), S)
  else
    if a1 < (40 : Int32) then
      if a1 < (S.1 0 15) then
        some ((0 : Int32), S)
      else
        some ((1 : Int32), S)
    else
      some ((3 : Int32), S)
theorem dX12_missPoint_0 : decode cX12_missPoint 0 = .ok (.iload_n 1, 1) := dc_27 (by decide +kernel)
theorem dX12_missPoint_1 : decode cX12_missPoint 1 = .ok (.ifCond .lt 9, 3) := dc_155 (a := 0) (b := 9) (by decide +kernel) (by decide)
theorem dX12_missPoint_4 : decode cX12_missPoint 4 = .ok (.iload_n 1, 1) := dc_27 (by decide +kernel)
theorem dX12_missPoint_5 : decode cX12_missPoint 5 = .ok (.bipush 40, 2) := dc_16 (a := 40) (by decide +kernel) (by decide)
theorem dX12_missPoint_7 : decode cX12_missPoint 7 = .ok (.if_icmp .lt 7, 3) := dc_161 (a := 0) (b := 7) (by decide +kernel) (by decide)
theorem dX12_missPoint_10 : decode cX12_missPoint 10 = .ok (.iconst 3, 1) := dc_6 (by decide +kernel)
theorem dX12_missPoint_11 : decode cX12_missPoint 11 = .ok (.goto 16, 3) := dc_167 (a := 0) (b := 16) (by decide +kernel) (by decide)
theorem dX12_missPoint_14 : decode cX12_missPoint 14 = .ok (.iload_n 1, 1) := dc_27 (by decide +kernel)
theorem dX12_missPoint_15 : decode cX12_missPoint 15 = .ok (.aload_n 0, 1) := dc_42 (by decide +kernel)
theorem dX12_missPoint_16 : decode cX12_missPoint 16 = .ok (.getfield 217, 3) := dc_180 (a := 0) (b := 217) (by decide +kernel)
theorem dX12_missPoint_19 : decode cX12_missPoint 19 = .ok (.if_icmp .lt 7, 3) := dc_161 (a := 0) (b := 7) (by decide +kernel) (by decide)
theorem dX12_missPoint_22 : decode cX12_missPoint 22 = .ok (.iconst 1, 1) := dc_4 (by decide +kernel)
theorem dX12_missPoint_23 : decode cX12_missPoint 23 = .ok (.goto 4, 3) := dc_167 (a := 0) (b := 4) (by decide +kernel) (by decide)
theorem dX12_missPoint_26 : decode cX12_missPoint 26 = .ok (.iconst 0, 1) := dc_3 (by decide +kernel)
theorem dX12_missPoint_27 : decode cX12_missPoint 27 = .ok (.ireturn, 1) := dc_172 (by decide +kernel)
set_option maxRecDepth 100000 in
set_option maxHeartbeats 4000000 in
theorem m_M_missPoint (a1 : Int32) (S S' : SS) (r : Int32) (h : f_M_missPoint a1 S = some (r, S')) : MT yX12_missPoint cX12_missPoint 2 (some .int) 0 0 (fun ad => [.ref (ad 0), .int a1]) S (some (.int r)) S' := by
  refine MT.of RX12 (fun ad => [(0, .ref (ad 0)), (1, .int a1)]) (by decide) rfl (fun _ => Nat.le_of_ble_eq_true rfl) (fun _ => rfl) ?_
  intro p l e R s m args below meth c dC dI cs ad A hR1 hR2 F H locs ls w hl
  have hx := F.1.1
  have hb := F.1.2.1
  rw [f_M_missPoint] at h
  refine lv_iload_n (pc := 0) hx hb dX12_missPoint_0 rfl (lv_at hl 1 rfl) ?_
  refine lv_if_lt (pc := 1) (tgt := 10) hx hb dX12_missPoint_1 (by decide) (fun q => ?_) (fun q => ?_)
  · have h := ite_t q h
    refine lv_iconst (pc := 10) (v := 3) hx hb dX12_missPoint_10 (by decide) ?_
    refine lv_goto (pc := 11) (tgt := 27) hx hb dX12_missPoint_11 (by decide) ?_
    exact s_iret F w h dX12_missPoint_27
  · have h := ite_f q h
    refine lv_iload_n (pc := 4) hx hb dX12_missPoint_4 rfl (lv_at hl 1 rfl) ?_
    refine lv_bipush (pc := 5) (v := 40) hx hb dX12_missPoint_5 (by decide) ?_
    refine lv_icmp_lt (pc := 7) (tgt := 14) hx hb dX12_missPoint_7 (by decide) (fun q => ?_) (fun q => ?_)
    · have h := ite_t q h
      refine lv_iload_n (pc := 14) hx hb dX12_missPoint_14 rfl (lv_at hl 1 rfl) ?_
      refine lv_aload_n (pc := 15) hx hb dX12_missPoint_15 rfl (lv_at hl 0 rfl) ?_
      refine s_getI (pc := 16) F w ds_0 (j := 15) vc_X12 vi_X12 rfl (by decide) kf_X12_217 dX12_missPoint_16 ?_
      refine lv_icmp_lt (pc := 19) (tgt := 26) hx hb dX12_missPoint_19 (by decide) (fun q => ?_) (fun q => ?_)
      · have h := ite_t q h
        refine lv_iconst (pc := 26) (v := 0) hx hb dX12_missPoint_26 (by decide) ?_
        exact s_iret F w h dX12_missPoint_27
      · have h := ite_f q h
        refine lv_iconst (pc := 22) (v := 1) hx hb dX12_missPoint_22 (by decide) ?_
        refine lv_goto (pc := 23) (tgt := 27) hx hb dX12_missPoint_23 (by decide) ?_
        exact s_iret F w h dX12_missPoint_27
    · have h := ite_f q h
      refine lv_iconst (pc := 10) (v := 3) hx hb dX12_missPoint_10 (by decide) ?_
      refine lv_goto (pc := 11) (tgt := 27) hx hb dX12_missPoint_11 (by decide) ?_
      exact s_iret F w h dX12_missPoint_27
def f_M_isLocking_j31 (K4 : Int32 → Int32 → Int32 → SS → Option (Int32 × SS)) (x1 : Int32) (x3 : Int32) (y0 : Int32) (S : SS) : Option (Int32 × SS) :=
    nm (x3 + (1 : Int32)) (fun z1 =>
    K4 x1 y0 z1 S)
def f_M_isLocking_j26 (K4 : Int32 → Int32 → Int32 → SS → Option (Int32 × SS)) (x1 : Int32) (x3 : Int32) (S : SS) : Option (Int32 × SS) :=
    f_M_isLocking_j31 K4 x1 x3 (1 : Int32) S
def f_M_isLocking_L4  : Nat → Int32 → Int32 → Int32 → SS → Option (Int32 × SS)
  | 0, _, _, _, _ => none
  | n + 1, x1, x2, x3, S =>
    if (S.1 0 15) ≤ x3 then
      grd (isB x2) (some (x2, S))
    else
      if x2 = 0 then
        grd (inb x3 40) (
        if (S.1 11 x3.toNatClampNeg) = x1 then
          f_M_isLocking_j26 (fun v0 v1 v2 S => f_M_isLocking_L4 n v0 v1 v2 S) x1 x3 S
        else
          f_M_isLocking_j31 (fun v0 v1 v2 S => f_M_isLocking_L4 n v0 v1 v2 S) x1 x3 (0 : Int32) S)
      else
        f_M_isLocking_j26 (fun v0 v1 v2 S => f_M_isLocking_L4 n v0 v1 v2 S) x1 x3 S
def f_M_isLocking (a1 : Int32) (S : SS) : Option (Int32 × SS) :=
  f_M_isLocking_L4 NF a1 (0 : Int32) (0 : Int32) S
theorem dX12_isLocking_0 : decode cX12_isLocking 0 = .ok (.iconst 0, 1) := dc_3 (by decide +kernel)
theorem dX12_isLocking_1 : decode cX12_isLocking 1 = .ok (.istore_n 2, 1) := dc_61 (by decide +kernel)
theorem dX12_isLocking_2 : decode cX12_isLocking 2 = .ok (.iconst 0, 1) := dc_3 (by decide +kernel)
theorem dX12_isLocking_3 : decode cX12_isLocking 3 = .ok (.istore_n 3, 1) := dc_62 (by decide +kernel)
theorem dX12_isLocking_4 : decode cX12_isLocking 4 = .ok (.iload_n 3, 1) := dc_29 (by decide +kernel)
theorem dX12_isLocking_5 : decode cX12_isLocking 5 = .ok (.aload_n 0, 1) := dc_42 (by decide +kernel)
theorem dX12_isLocking_6 : decode cX12_isLocking 6 = .ok (.getfield 217, 3) := dc_180 (a := 0) (b := 217) (by decide +kernel)
theorem dX12_isLocking_9 : decode cX12_isLocking 9 = .ok (.if_icmp .ge 29, 3) := dc_162 (a := 0) (b := 29) (by decide +kernel) (by decide)
theorem dX12_isLocking_12 : decode cX12_isLocking 12 = .ok (.iload_n 2, 1) := dc_28 (by decide +kernel)
theorem dX12_isLocking_13 : decode cX12_isLocking 13 = .ok (.ifCond .ne 13, 3) := dc_154 (a := 0) (b := 13) (by decide +kernel) (by decide)
theorem dX12_isLocking_16 : decode cX12_isLocking 16 = .ok (.aload_n 0, 1) := dc_42 (by decide +kernel)
theorem dX12_isLocking_17 : decode cX12_isLocking 17 = .ok (.getfield 48, 3) := dc_180 (a := 0) (b := 48) (by decide +kernel)
theorem dX12_isLocking_20 : decode cX12_isLocking 20 = .ok (.iload_n 3, 1) := dc_29 (by decide +kernel)
theorem dX12_isLocking_21 : decode cX12_isLocking 21 = .ok (.iaload, 1) := dc_46 (by decide +kernel)
theorem dX12_isLocking_22 : decode cX12_isLocking 22 = .ok (.iload_n 1, 1) := dc_27 (by decide +kernel)
theorem dX12_isLocking_23 : decode cX12_isLocking 23 = .ok (.if_icmp .ne 7, 3) := dc_160 (a := 0) (b := 7) (by decide +kernel) (by decide)
theorem dX12_isLocking_26 : decode cX12_isLocking 26 = .ok (.iconst 1, 1) := dc_4 (by decide +kernel)
theorem dX12_isLocking_27 : decode cX12_isLocking 27 = .ok (.goto 4, 3) := dc_167 (a := 0) (b := 4) (by decide +kernel) (by decide)
theorem dX12_isLocking_30 : decode cX12_isLocking 30 = .ok (.iconst 0, 1) := dc_3 (by decide +kernel)
theorem dX12_isLocking_31 : decode cX12_isLocking 31 = .ok (.istore_n 2, 1) := dc_61 (by decide +kernel)
theorem dX12_isLocking_32 : decode cX12_isLocking 32 = .ok (.iinc 3 1, 3) := dc_132 (a := 3) (b := 1) (by decide +kernel) (by decide)
theorem dX12_isLocking_35 : decode cX12_isLocking 35 = .ok (.goto (-31), 3) := dc_167 (a := 255) (b := 225) (by decide +kernel) (by decide)
theorem dX12_isLocking_38 : decode cX12_isLocking 38 = .ok (.iload_n 2, 1) := dc_28 (by decide +kernel)
theorem dX12_isLocking_39 : decode cX12_isLocking 39 = .ok (.ireturn, 1) := dc_172 (by decide +kernel)
set_option maxRecDepth 100000 in
set_option maxHeartbeats 4000000 in
theorem w_M_isLocking_j31 {p : Program} {l : Launch} {e : Env} {R : Room} {s : State} {m : MethodId} {args : Array Value} {below : List Frame} {meth : Method} {c : Code} {dC : Nat → ClassId} {dI : Nat → Nat → Nat} {cs : Nat → ClassId} {ad : Nat → Nat} {A : Nat → Prop} {D0 : Nat → Nat} {S' : SS} {r : Int32} (F : Fx p s m args meth c cX12_isLocking 4 RX12 (some .boolean) dC dI cs A) (hR1 : 0 ≤ R.frames) (hR2 : 0 ≤ R.locals) (K4 : Int32 → Int32 → Int32 → SS → Option (Int32 × SS)) (hK4 : ∀ (v0 : Int32) (v1 : Int32) (v2 : Int32) (S : SS), K4 v0 v1 v2 S = some (r, S') → AW p l e R s m args below meth c dC dI cs ad A D0 (some (.int r)) S' 4 4 [(0, .ref (ad 0)), (1, .int v0), (2, .int v1), (3, .int v2)] [] S) (x1 : Int32) (x3 : Int32) (y0 : Int32) (S : SS) (h : f_M_isLocking_j31 K4 x1 x3 y0 S = some (r, S')) : AW p l e R s m args below meth c dC dI cs ad A D0 (some (.int r)) S' 4 31 [(0, .ref (ad 0)), (1, .int x1), (3, .int x3)] [.int y0] S := by
  have hx := F.1.1
  have hb := F.1.2.1
  intro H locs ls w hl
  rw [f_M_isLocking_j31] at h
  refine lv_istore_n (pc := 31) (lv' := [(2, .int y0), (0, .ref (ad 0)), (1, .int x1), (3, .int x3)]) hx hb dX12_isLocking_31 rfl hl (by decide) rfl (fun ls hl => ?_)
  refine s_nm h (fun z1 ez1 h => ?_)
  refine lv_iinc (pc := 32) (v := z1) (lv' := [(3, .int z1), (2, .int y0), (0, .ref (ad 0)), (1, .int x1)]) hx hb dX12_isLocking_32 hl (k := 3) rfl (by rw [ez1]; rfl) (by decide) rfl (fun ls hl => ?_)
  refine lv_goto (pc := 35) (tgt := 4) hx hb dX12_isLocking_35 (by decide) ?_
  exact hK4 _ _ _ _ h _ _ _ w (lv_sub hl [2, 3, 1, 0] rfl)
set_option maxRecDepth 100000 in
set_option maxHeartbeats 4000000 in
theorem w_M_isLocking_j26 {p : Program} {l : Launch} {e : Env} {R : Room} {s : State} {m : MethodId} {args : Array Value} {below : List Frame} {meth : Method} {c : Code} {dC : Nat → ClassId} {dI : Nat → Nat → Nat} {cs : Nat → ClassId} {ad : Nat → Nat} {A : Nat → Prop} {D0 : Nat → Nat} {S' : SS} {r : Int32} (F : Fx p s m args meth c cX12_isLocking 4 RX12 (some .boolean) dC dI cs A) (hR1 : 0 ≤ R.frames) (hR2 : 0 ≤ R.locals) (K4 : Int32 → Int32 → Int32 → SS → Option (Int32 × SS)) (hK4 : ∀ (v0 : Int32) (v1 : Int32) (v2 : Int32) (S : SS), K4 v0 v1 v2 S = some (r, S') → AW p l e R s m args below meth c dC dI cs ad A D0 (some (.int r)) S' 4 4 [(0, .ref (ad 0)), (1, .int v0), (2, .int v1), (3, .int v2)] [] S) (x1 : Int32) (x3 : Int32) (S : SS) (h : f_M_isLocking_j26 K4 x1 x3 S = some (r, S')) : AW p l e R s m args below meth c dC dI cs ad A D0 (some (.int r)) S' 4 26 [(0, .ref (ad 0)), (1, .int x1), (3, .int x3)] [] S := by
  have hx := F.1.1
  have hb := F.1.2.1
  intro H locs ls w hl
  rw [f_M_isLocking_j26] at h
  refine lv_iconst (pc := 26) (v := 1) hx hb dX12_isLocking_26 (by decide) ?_
  refine lv_goto (pc := 27) (tgt := 31) hx hb dX12_isLocking_27 (by decide) ?_
  exact w_M_isLocking_j31 F (Nat.le_trans (by decide) hR1) (Nat.le_trans (by decide) hR2) _ hK4 _ _ _ _ h _ _ _ w (lv_sub hl [0, 1, 2] rfl)
set_option maxRecDepth 100000 in
set_option maxHeartbeats 4000000 in
theorem w_M_isLocking_L4 {p : Program} {l : Launch} {e : Env} {R : Room} {s : State} {m : MethodId} {args : Array Value} {below : List Frame} {meth : Method} {c : Code} {dC : Nat → ClassId} {dI : Nat → Nat → Nat} {cs : Nat → ClassId} {ad : Nat → Nat} {A : Nat → Prop} {D0 : Nat → Nat} {S' : SS} {r : Int32} (F : Fx p s m args meth c cX12_isLocking 4 RX12 (some .boolean) dC dI cs A) (hR1 : 0 ≤ R.frames) (hR2 : 0 ≤ R.locals) : ∀ (n : Nat) (x1 : Int32) (x2 : Int32) (x3 : Int32) (S : SS), f_M_isLocking_L4 n x1 x2 x3 S = some (r, S') → AW p l e R s m args below meth c dC dI cs ad A D0 (some (.int r)) S' 4 4 [(0, .ref (ad 0)), (1, .int x1), (2, .int x2), (3, .int x3)] [] S := by
  have hx := F.1.1
  have hb := F.1.2.1
  intro n
  induction n with
  | zero => intro x1 x2 x3 S h; cases h
  | succ n ih =>
    intro x1 x2 x3 S h H locs ls w hl
    rw [f_M_isLocking_L4] at h
    refine lv_iload_n (pc := 4) hx hb dX12_isLocking_4 rfl (lv_at hl 3 rfl) ?_
    refine lv_aload_n (pc := 5) hx hb dX12_isLocking_5 rfl (lv_at hl 0 rfl) ?_
    refine s_getI (pc := 6) F w ds_0 (j := 15) vc_X12 vi_X12 rfl (by decide) kf_X12_217 dX12_isLocking_6 ?_
    refine lv_icmp_ge (pc := 9) (tgt := 38) hx hb dX12_isLocking_9 (by decide) (fun q => ?_) (fun q => ?_)
    · have h := ite_t q h
      refine lv_iload_n (pc := 38) hx hb dX12_isLocking_38 rfl (lv_at hl 2 rfl) ?_
      exact s_zret F w h dX12_isLocking_39
    · have h := ite_f q h
      refine lv_iload_n (pc := 12) hx hb dX12_isLocking_12 rfl (lv_at hl 2 rfl) ?_
      refine lv_if_ne (pc := 13) (tgt := 26) hx hb dX12_isLocking_13 (by decide) (fun q => ?_) (fun q => ?_)
      · have h := ite_f q h
        exact w_M_isLocking_j26 F (Nat.le_trans (by decide) hR1) (Nat.le_trans (by decide) hR2) _ (fun v0 v1 v2 S h => ih v0 v1 v2 S h) _ _ _ h _ _ _ w (lv_sub hl [0, 1, 3] rfl)
      · have h := ite_t q h
        refine lv_aload_n (pc := 16) hx hb dX12_isLocking_16 rfl (lv_at hl 0 rfl) ?_
        refine s_getR (pc := 17) F w 11 ds_0 (j := 18) vc_X12 vi_X12 rfl (by decide) kf_X12_48 dX12_isLocking_17 ?_
        refine lv_iload_n (pc := 20) hx hb dX12_isLocking_20 rfl (lv_at hl 3 rfl) ?_
        refine s_iald (pc := 21) F w ds_11 h dX12_isLocking_21 (fun h => ?_)
        refine lv_iload_n (pc := 22) hx hb dX12_isLocking_22 rfl (lv_at hl 1 rfl) ?_
        refine lv_icmp_ne (pc := 23) (tgt := 30) hx hb dX12_isLocking_23 (by decide) (fun q => ?_) (fun q => ?_)
        · have h := ite_f q h
          refine lv_iconst (pc := 30) (v := 0) hx hb dX12_isLocking_30 (by decide) ?_
          exact w_M_isLocking_j31 F (Nat.le_trans (by decide) hR1) (Nat.le_trans (by decide) hR2) _ (fun v0 v1 v2 S h => ih v0 v1 v2 S h) _ _ _ _ h _ _ _ w (lv_sub hl [0, 1, 3] rfl)
        · have h := ite_t q h
          exact w_M_isLocking_j26 F (Nat.le_trans (by decide) hR1) (Nat.le_trans (by decide) hR2) _ (fun v0 v1 v2 S h => ih v0 v1 v2 S h) _ _ _ h _ _ _ w (lv_sub hl [0, 1, 3] rfl)
set_option maxRecDepth 100000 in
set_option maxHeartbeats 4000000 in
theorem m_M_isLocking (a1 : Int32) (S S' : SS) (r : Int32) (h : f_M_isLocking a1 S = some (r, S')) : MT yX12_isLocking cX12_isLocking 4 (some .boolean) 0 0 (fun ad => [.ref (ad 0), .int a1]) S (some (.int r)) S' := by
  refine MT.of RX12 (fun ad => [(0, .ref (ad 0)), (1, .int a1)]) (by decide) rfl (fun _ => Nat.le_of_ble_eq_true rfl) (fun _ => rfl) ?_
  intro p l e R s m args below meth c dC dI cs ad A hR1 hR2 F H locs ls w hl
  have hx := F.1.1
  have hb := F.1.2.1
  rw [f_M_isLocking] at h
  refine lv_iconst (pc := 0) (v := 0) hx hb dX12_isLocking_0 (by decide) ?_
  refine lv_istore_n (pc := 1) (lv' := [(2, .int (0 : Int32)), (0, .ref (ad 0)), (1, .int a1)]) hx hb dX12_isLocking_1 rfl hl (by decide) rfl (fun ls hl => ?_)
  refine lv_iconst (pc := 2) (v := 0) hx hb dX12_isLocking_2 (by decide) ?_
  refine lv_istore_n (pc := 3) (lv' := [(3, .int (0 : Int32)), (2, .int (0 : Int32)), (0, .ref (ad 0)), (1, .int a1)]) hx hb dX12_isLocking_3 rfl hl (by decide) rfl (fun ls hl => ?_)
  exact w_M_isLocking_L4 F (Nat.le_trans (by decide) hR1) (Nat.le_trans (by decide) hR2) _ _ _ _ _ h _ _ _ w (lv_sub hl [2, 3, 1, 0] rfl)
def f_M_via_j134   (S : SS) : Option (Int32 × SS) :=
    bnd (f_M_found (9 : Int32) S) (fun r9 S8 =>
    some (r9, S8))
def f_M_via_j278  (x1 : Int32) (x2 : Int32) (x3 : Int32) (x4 : Int32) (x7 : Int32) (S : SS) : Option (Int32 × SS) :=
    grd (inb x7 96) (wr S 13 x7.toNatClampNeg x2 (fun S13 =>
    grd (inb x7 96) (wr S13 14 x7.toNatClampNeg x3 (fun S14 =>
    grd (inb x7 96) (wr S14 15 x7.toNatClampNeg x4 (fun S15 =>
    grd (inb x1 12) (
    grd (inb x1 12) (wr S15 12 x1.toNatClampNeg ((S15.1 12 x1.toNatClampNeg) + (1 : Int32)) (fun S16 =>
    bndv (f_M_forget  S16) (fun S17 =>
    grd (inb x1 12) (
    some (S17.1 12 x1.toNatClampNeg, S17))))))))))))
def f_M_via_j224 (K174 : Int32 → Int32 → Int32 → Int32 → Int32 → SS → Option (Int32 × SS)) (x1 : Int32) (x2 : Int32) (x3 : Int32) (x4 : Int32) (x7 : Int32) (S : SS) : Option (Int32 × SS) :=
    grd (inb (x7 - (1 : Int32)) 96) (
    grd (inb x7 96) (wr S 13 x7.toNatClampNeg (S.1 13 (x7 - (1 : Int32)).toNatClampNeg) (fun S18 =>
    grd (inb (x7 - (1 : Int32)) 96) (
    grd (inb x7 96) (wr S18 14 x7.toNatClampNeg (S18.1 14 (x7 - (1 : Int32)).toNatClampNeg) (fun S19 =>
    grd (inb (x7 - (1 : Int32)) 96) (
    grd (inb x7 96) (wr S19 15 x7.toNatClampNeg (S19.1 15 (x7 - (1 : Int32)).toNatClampNeg) (fun S20 =>
    nm (x7 + (-1 : Int32)) (fun z21 =>
    K174 x1 x2 x3 x4 z21 S20))))))))))
def f_M_via_L174  : Nat → Int32 → Int32 → Int32 → Int32 → Int32 → SS → Option (Int32 × SS)
  | 0, _, _, _, _, _, _ => none
  | n + 1, x1, x2, x3, x4, x7, S =>
    if x7 ≤ ((8 : Int32) * x1) then
      f_M_via_j278 x1 x2 x3 x4 x7 S
    else
      grd (inb (x7 - (1 : Int32)) 96) (
      if x4 < (S.1 15 (x7 - (1 : Int32)).toNatClampNeg) then
        f_M_via_j224 (fun v0 v1 v2 v3 v4 S => f_M_via_L174 n v0 v1 v2 v3 v4 S) x1 x2 x3 x4 x7 S
      else
        grd (inb (x7 - (1 : Int32)) 96) (
        if (S.1 15 (x7 - (1 : Int32)).toNatClampNeg) = x4 then
          grd (inb (x7 - (1 : Int32)) 96) (
          if (S.1 13 (x7 - (1 : Int32)).toNatClampNeg) ≤ x2 then
            f_M_via_j278 x1 x2 x3 x4 x7 S
          else
            f_M_via_j224 (fun v0 v1 v2 v3 v4 S => f_M_via_L174 n v0 v1 v2 v3 v4 S) x1 x2 x3 x4 x7 S)
        else
          f_M_via_j278 x1 x2 x3 x4 x7 S))
def f_M_via_j102  (x1 : Int32) (x2 : Int32) (x3 : Int32) (x4 : Int32) (x5 : Int32) (x6 : Int32) (S : SS) : Option (Int32 × SS) :=
    bndv (f_M_begin  S) (fun S5 =>
    bnd (f_M_ends x5 S5) (fun r7 S6 =>
    if r7 = 0 then
      if x6 = 0 then
        grd (inb x1 12) (
        if (S6.1 12 x1.toNatClampNeg) = (8 : Int32) then
          f_M_via_j134  S6
        else
          bnd (f_M_isLocking x1 S6) (fun r11 S10 =>
          if r11 = 0 then
            grd (inb x1 12) (
            nm (((8 : Int32) * x1) + (S10.1 12 x1.toNatClampNeg)) (fun z12 =>
            f_M_via_L174 NF x1 x2 x3 x4 z12 S10))
          else
            wr S10 0 3 x1 (fun S22 =>
            bnd (f_M_found (11 : Int32) S22) (fun r24 S23 =>
            some (r24, S23)))))
      else
        f_M_via_j134  S6
    else
      some ((-2 : Int32), S6)))
def f_M_via_j94 (K52 : Int32 → Int32 → Int32 → Int32 → Int32 → Int32 → Int32 → SS → Option (Int32 × SS)) (x1 : Int32) (x2 : Int32) (x3 : Int32) (x4 : Int32) (x5 : Int32) (x7 : Int32) (y0 : Int32) (S : SS) : Option (Int32 × SS) :=
    nm (x7 + (1 : Int32)) (fun z25 =>
    K52 x1 x2 x3 x4 x5 y0 z25 S)
def f_M_via_j89 (K52 : Int32 → Int32 → Int32 → Int32 → Int32 → Int32 → Int32 → SS → Option (Int32 × SS)) (x1 : Int32) (x2 : Int32) (x3 : Int32) (x4 : Int32) (x5 : Int32) (x7 : Int32) (S : SS) : Option (Int32 × SS) :=
    f_M_via_j94 K52 x1 x2 x3 x4 x5 x7 (1 : Int32) S
def f_M_via_L52  : Nat → Int32 → Int32 → Int32 → Int32 → Int32 → Int32 → Int32 → SS → Option (Int32 × SS)
  | 0, _, _, _, _, _, _, _, _ => none
  | n + 1, x1, x2, x3, x4, x5, x6, x7, S =>
    if x5 = 0 then
      grd (inb x1 12) (
      if (S.1 12 x1.toNatClampNeg) ≤ x7 then
        f_M_via_j102 x1 x2 x3 x4 x5 x6 S
      else
        if x6 = 0 then
          grd (inb (((8 : Int32) * x1) + x7) 96) (
          if (S.1 13 (((8 : Int32) * x1) + x7).toNatClampNeg) = x2 then
            f_M_via_j89 (fun v0 v1 v2 v3 v4 v5 v6 S => f_M_via_L52 n v0 v1 v2 v3 v4 v5 v6 S) x1 x2 x3 x4 x5 x7 S
          else
            f_M_via_j94 (fun v0 v1 v2 v3 v4 v5 v6 S => f_M_via_L52 n v0 v1 v2 v3 v4 v5 v6 S) x1 x2 x3 x4 x5 x7 (0 : Int32) S)
        else
          f_M_via_j89 (fun v0 v1 v2 v3 v4 v5 v6 S => f_M_via_L52 n v0 v1 v2 v3 v4 v5 v6 S) x1 x2 x3 x4 x5 x7 S)
    else
      f_M_via_j102 x1 x2 x3 x4 x5 x6 S
def f_M_via_j44  (x1 : Int32) (x2 : Int32) (x3 : Int32) (x4 : Int32) (y0 : Int32) (S : SS) : Option (Int32 × SS) :=
    f_M_via_L52 NF x1 x2 x3 x4 y0 (0 : Int32) (0 : Int32) S
def f_M_via (a1 : Int32) (a2 : Int32) (a3 : Int32) (a4 : Int32) (S : SS) : Option (Int32 × SS) :=
  if a3 < 0 then
    some ((-1 : Int32), S)
  else
    if (2 : Int32) < a3 then
      some ((-1 : Int32), S)
    else
      if a4 < 0 then
        some ((-1 : Int32), S)
      else
        if a4 ≤ (99 : Int32) then
          bnd (f_M_missRoute a1 S) (fun r2 S1 =>
          if r2 = 0 then
            bnd (f_M_missPoint a2 S1) (fun r4 S3 =>
            f_M_via_j44 a1 a2 a3 a4 r4 S3)
          else
            bnd (f_M_missRoute a1 S1) (fun r27 S26 =>
            f_M_via_j44 a1 a2 a3 a4 r27 S26))
        else
          some ((-1 : Int32), S)
theorem dX12_via_0 : decode cX12_via 0 = .ok (.iload_n 3, 1) := dc_29 (by decide +kernel)
theorem dX12_via_1 : decode cX12_via 1 = .ok (.ifCond .lt 20, 3) := dc_155 (a := 0) (b := 20) (by decide +kernel) (by decide)
theorem dX12_via_4 : decode cX12_via 4 = .ok (.iload_n 3, 1) := dc_29 (by decide +kernel)
theorem dX12_via_5 : decode cX12_via 5 = .ok (.iconst 2, 1) := dc_5 (by decide +kernel)
theorem dX12_via_6 : decode cX12_via 6 = .ok (.if_icmp .gt 15, 3) := dc_163 (a := 0) (b := 15) (by decide +kernel) (by decide)
theorem dX12_via_9 : decode cX12_via 9 = .ok (.iload 4, 2) := dc_21 (a := 4) (by decide +kernel)
theorem dX12_via_11 : decode cX12_via 11 = .ok (.ifCond .lt 10, 3) := dc_155 (a := 0) (b := 10) (by decide +kernel) (by decide)
theorem dX12_via_14 : decode cX12_via 14 = .ok (.iload 4, 2) := dc_21 (a := 4) (by decide +kernel)
theorem dX12_via_16 : decode cX12_via 16 = .ok (.bipush 99, 2) := dc_16 (a := 99) (by decide +kernel) (by decide)
theorem dX12_via_18 : decode cX12_via 18 = .ok (.if_icmp .le 5, 3) := dc_164 (a := 0) (b := 5) (by decide +kernel) (by decide)
theorem dX12_via_21 : decode cX12_via 21 = .ok (.iconst (-1), 1) := dc_2 (by decide +kernel)
theorem dX12_via_22 : decode cX12_via 22 = .ok (.ireturn, 1) := dc_172 (by decide +kernel)
theorem dX12_via_23 : decode cX12_via 23 = .ok (.aload_n 0, 1) := dc_42 (by decide +kernel)
theorem dX12_via_24 : decode cX12_via 24 = .ok (.iload_n 1, 1) := dc_27 (by decide +kernel)
theorem dX12_via_25 : decode cX12_via 25 = .ok (.invokevirtual 260, 3) := dc_182 (a := 1) (b := 4) (by decide +kernel)
theorem dX12_via_28 : decode cX12_via 28 = .ok (.ifCond .eq 11, 3) := dc_153 (a := 0) (b := 11) (by decide +kernel) (by decide)
theorem dX12_via_31 : decode cX12_via 31 = .ok (.aload_n 0, 1) := dc_42 (by decide +kernel)
theorem dX12_via_32 : decode cX12_via 32 = .ok (.iload_n 1, 1) := dc_27 (by decide +kernel)
theorem dX12_via_33 : decode cX12_via 33 = .ok (.invokevirtual 260, 3) := dc_182 (a := 1) (b := 4) (by decide +kernel)
theorem dX12_via_36 : decode cX12_via 36 = .ok (.goto 8, 3) := dc_167 (a := 0) (b := 8) (by decide +kernel) (by decide)
theorem dX12_via_39 : decode cX12_via 39 = .ok (.aload_n 0, 1) := dc_42 (by decide +kernel)
theorem dX12_via_40 : decode cX12_via 40 = .ok (.iload_n 2, 1) := dc_28 (by decide +kernel)
theorem dX12_via_41 : decode cX12_via 41 = .ok (.invokevirtual 263, 3) := dc_182 (a := 1) (b := 7) (by decide +kernel)
theorem dX12_via_44 : decode cX12_via 44 = .ok (.istore 5, 2) := dc_54 (a := 5) (by decide +kernel)
theorem dX12_via_46 : decode cX12_via 46 = .ok (.iconst 0, 1) := dc_3 (by decide +kernel)
theorem dX12_via_47 : decode cX12_via 47 = .ok (.istore 6, 2) := dc_54 (a := 6) (by decide +kernel)
theorem dX12_via_49 : decode cX12_via 49 = .ok (.iconst 0, 1) := dc_3 (by decide +kernel)
theorem dX12_via_50 : decode cX12_via 50 = .ok (.istore 7, 2) := dc_54 (a := 7) (by decide +kernel)
theorem dX12_via_52 : decode cX12_via 52 = .ok (.iload 5, 2) := dc_21 (a := 5) (by decide +kernel)
theorem dX12_via_54 : decode cX12_via 54 = .ok (.ifCond .ne 48, 3) := dc_154 (a := 0) (b := 48) (by decide +kernel) (by decide)
theorem dX12_via_57 : decode cX12_via 57 = .ok (.iload 7, 2) := dc_21 (a := 7) (by decide +kernel)
theorem dX12_via_59 : decode cX12_via 59 = .ok (.aload_n 0, 1) := dc_42 (by decide +kernel)
theorem dX12_via_60 : decode cX12_via 60 = .ok (.getfield 51, 3) := dc_180 (a := 0) (b := 51) (by decide +kernel)
theorem dX12_via_63 : decode cX12_via 63 = .ok (.iload_n 1, 1) := dc_27 (by decide +kernel)
theorem dX12_via_64 : decode cX12_via 64 = .ok (.iaload, 1) := dc_46 (by decide +kernel)
theorem dX12_via_65 : decode cX12_via 65 = .ok (.if_icmp .ge 37, 3) := dc_162 (a := 0) (b := 37) (by decide +kernel) (by decide)
theorem dX12_via_68 : decode cX12_via 68 = .ok (.iload 6, 2) := dc_21 (a := 6) (by decide +kernel)
theorem dX12_via_70 : decode cX12_via 70 = .ok (.ifCond .ne 19, 3) := dc_154 (a := 0) (b := 19) (by decide +kernel) (by decide)
theorem dX12_via_73 : decode cX12_via 73 = .ok (.aload_n 0, 1) := dc_42 (by decide +kernel)
theorem dX12_via_74 : decode cX12_via 74 = .ok (.getfield 54, 3) := dc_180 (a := 0) (b := 54) (by decide +kernel)
theorem dX12_via_77 : decode cX12_via 77 = .ok (.bipush 8, 2) := dc_16 (a := 8) (by decide +kernel) (by decide)
theorem dX12_via_79 : decode cX12_via 79 = .ok (.iload_n 1, 1) := dc_27 (by decide +kernel)
theorem dX12_via_80 : decode cX12_via 80 = .ok (.imul, 1) := dc_104 (by decide +kernel)
theorem dX12_via_81 : decode cX12_via 81 = .ok (.iload 7, 2) := dc_21 (a := 7) (by decide +kernel)
theorem dX12_via_83 : decode cX12_via 83 = .ok (.iadd, 1) := dc_96 (by decide +kernel)
theorem dX12_via_84 : decode cX12_via 84 = .ok (.iaload, 1) := dc_46 (by decide +kernel)
theorem dX12_via_85 : decode cX12_via 85 = .ok (.iload_n 2, 1) := dc_28 (by decide +kernel)
theorem dX12_via_86 : decode cX12_via 86 = .ok (.if_icmp .ne 7, 3) := dc_160 (a := 0) (b := 7) (by decide +kernel) (by decide)
theorem dX12_via_89 : decode cX12_via 89 = .ok (.iconst 1, 1) := dc_4 (by decide +kernel)
theorem dX12_via_90 : decode cX12_via 90 = .ok (.goto 4, 3) := dc_167 (a := 0) (b := 4) (by decide +kernel) (by decide)
theorem dX12_via_93 : decode cX12_via 93 = .ok (.iconst 0, 1) := dc_3 (by decide +kernel)
theorem dX12_via_94 : decode cX12_via 94 = .ok (.istore 6, 2) := dc_54 (a := 6) (by decide +kernel)
theorem dX12_via_96 : decode cX12_via 96 = .ok (.iinc 7 1, 3) := dc_132 (a := 7) (b := 1) (by decide +kernel) (by decide)
theorem dX12_via_99 : decode cX12_via 99 = .ok (.goto (-47), 3) := dc_167 (a := 255) (b := 209) (by decide +kernel) (by decide)
theorem dX12_via_102 : decode cX12_via 102 = .ok (.aload_n 0, 1) := dc_42 (by decide +kernel)
theorem dX12_via_103 : decode cX12_via 103 = .ok (.invokevirtual 226, 3) := dc_182 (a := 0) (b := 226) (by decide +kernel)
theorem dX12_via_106 : decode cX12_via 106 = .ok (.aload_n 0, 1) := dc_42 (by decide +kernel)
theorem dX12_via_107 : decode cX12_via 107 = .ok (.iload 5, 2) := dc_21 (a := 5) (by decide +kernel)
theorem dX12_via_109 : decode cX12_via 109 = .ok (.invokevirtual 236, 3) := dc_182 (a := 0) (b := 236) (by decide +kernel)
theorem dX12_via_112 : decode cX12_via 112 = .ok (.ifCond .eq 6, 3) := dc_153 (a := 0) (b := 6) (by decide +kernel) (by decide)
theorem dX12_via_115 : decode cX12_via 115 = .ok (.bipush (-2), 2) := dc_16 (a := 254) (by decide +kernel) (by decide)
theorem dX12_via_117 : decode cX12_via 117 = .ok (.ireturn, 1) := dc_172 (by decide +kernel)
theorem dX12_via_118 : decode cX12_via 118 = .ok (.iload 6, 2) := dc_21 (a := 6) (by decide +kernel)
theorem dX12_via_120 : decode cX12_via 120 = .ok (.ifCond .ne 14, 3) := dc_154 (a := 0) (b := 14) (by decide +kernel) (by decide)
theorem dX12_via_123 : decode cX12_via 123 = .ok (.aload_n 0, 1) := dc_42 (by decide +kernel)
theorem dX12_via_124 : decode cX12_via 124 = .ok (.getfield 51, 3) := dc_180 (a := 0) (b := 51) (by decide +kernel)
theorem dX12_via_127 : decode cX12_via 127 = .ok (.iload_n 1, 1) := dc_27 (by decide +kernel)
theorem dX12_via_128 : decode cX12_via 128 = .ok (.iaload, 1) := dc_46 (by decide +kernel)
theorem dX12_via_129 : decode cX12_via 129 = .ok (.bipush 8, 2) := dc_16 (a := 8) (by decide +kernel) (by decide)
theorem dX12_via_131 : decode cX12_via 131 = .ok (.if_icmp .ne 10, 3) := dc_160 (a := 0) (b := 10) (by decide +kernel) (by decide)
theorem dX12_via_134 : decode cX12_via 134 = .ok (.aload_n 0, 1) := dc_42 (by decide +kernel)
theorem dX12_via_135 : decode cX12_via 135 = .ok (.bipush 9, 2) := dc_16 (a := 9) (by decide +kernel) (by decide)
theorem dX12_via_137 : decode cX12_via 137 = .ok (.invokevirtual 210, 3) := dc_182 (a := 0) (b := 210) (by decide +kernel)
theorem dX12_via_140 : decode cX12_via 140 = .ok (.ireturn, 1) := dc_172 (by decide +kernel)
theorem dX12_via_141 : decode cX12_via 141 = .ok (.aload_n 0, 1) := dc_42 (by decide +kernel)
theorem dX12_via_142 : decode cX12_via 142 = .ok (.iload_n 1, 1) := dc_27 (by decide +kernel)
theorem dX12_via_143 : decode cX12_via 143 = .ok (.invokevirtual 266, 3) := dc_182 (a := 1) (b := 10) (by decide +kernel)
theorem dX12_via_146 : decode cX12_via 146 = .ok (.ifCond .eq 15, 3) := dc_153 (a := 0) (b := 15) (by decide +kernel) (by decide)
theorem dX12_via_149 : decode cX12_via 149 = .ok (.aload_n 0, 1) := dc_42 (by decide +kernel)
theorem dX12_via_150 : decode cX12_via 150 = .ok (.iload_n 1, 1) := dc_27 (by decide +kernel)
theorem dX12_via_151 : decode cX12_via 151 = .ok (.putfield 13, 3) := dc_181 (a := 0) (b := 13) (by decide +kernel)
theorem dX12_via_154 : decode cX12_via 154 = .ok (.aload_n 0, 1) := dc_42 (by decide +kernel)
theorem dX12_via_155 : decode cX12_via 155 = .ok (.bipush 11, 2) := dc_16 (a := 11) (by decide +kernel) (by decide)
theorem dX12_via_157 : decode cX12_via 157 = .ok (.invokevirtual 210, 3) := dc_182 (a := 0) (b := 210) (by decide +kernel)
theorem dX12_via_160 : decode cX12_via 160 = .ok (.ireturn, 1) := dc_172 (by decide +kernel)
theorem dX12_via_161 : decode cX12_via 161 = .ok (.bipush 8, 2) := dc_16 (a := 8) (by decide +kernel) (by decide)
theorem dX12_via_163 : decode cX12_via 163 = .ok (.iload_n 1, 1) := dc_27 (by decide +kernel)
theorem dX12_via_164 : decode cX12_via 164 = .ok (.imul, 1) := dc_104 (by decide +kernel)
theorem dX12_via_165 : decode cX12_via 165 = .ok (.aload_n 0, 1) := dc_42 (by decide +kernel)
theorem dX12_via_166 : decode cX12_via 166 = .ok (.getfield 51, 3) := dc_180 (a := 0) (b := 51) (by decide +kernel)
theorem dX12_via_169 : decode cX12_via 169 = .ok (.iload_n 1, 1) := dc_27 (by decide +kernel)
theorem dX12_via_170 : decode cX12_via 170 = .ok (.iaload, 1) := dc_46 (by decide +kernel)
theorem dX12_via_171 : decode cX12_via 171 = .ok (.iadd, 1) := dc_96 (by decide +kernel)
theorem dX12_via_172 : decode cX12_via 172 = .ok (.istore 7, 2) := dc_54 (a := 7) (by decide +kernel)
theorem dX12_via_174 : decode cX12_via 174 = .ok (.iload 7, 2) := dc_21 (a := 7) (by decide +kernel)
theorem dX12_via_176 : decode cX12_via 176 = .ok (.bipush 8, 2) := dc_16 (a := 8) (by decide +kernel) (by decide)
theorem dX12_via_178 : decode cX12_via 178 = .ok (.iload_n 1, 1) := dc_27 (by decide +kernel)
theorem dX12_via_179 : decode cX12_via 179 = .ok (.imul, 1) := dc_104 (by decide +kernel)
theorem dX12_via_180 : decode cX12_via 180 = .ok (.if_icmp .le 98, 3) := dc_164 (a := 0) (b := 98) (by decide +kernel) (by decide)
theorem dX12_via_183 : decode cX12_via 183 = .ok (.aload_n 0, 1) := dc_42 (by decide +kernel)
theorem dX12_via_184 : decode cX12_via 184 = .ok (.getfield 60, 3) := dc_180 (a := 0) (b := 60) (by decide +kernel)
theorem dX12_via_187 : decode cX12_via 187 = .ok (.iload 7, 2) := dc_21 (a := 7) (by decide +kernel)
theorem dX12_via_189 : decode cX12_via 189 = .ok (.iconst 1, 1) := dc_4 (by decide +kernel)
theorem dX12_via_190 : decode cX12_via 190 = .ok (.isub, 1) := dc_100 (by decide +kernel)
theorem dX12_via_191 : decode cX12_via 191 = .ok (.iaload, 1) := dc_46 (by decide +kernel)
theorem dX12_via_192 : decode cX12_via 192 = .ok (.iload 4, 2) := dc_21 (a := 4) (by decide +kernel)
theorem dX12_via_194 : decode cX12_via 194 = .ok (.if_icmp .gt 30, 3) := dc_163 (a := 0) (b := 30) (by decide +kernel) (by decide)
theorem dX12_via_197 : decode cX12_via 197 = .ok (.aload_n 0, 1) := dc_42 (by decide +kernel)
theorem dX12_via_198 : decode cX12_via 198 = .ok (.getfield 60, 3) := dc_180 (a := 0) (b := 60) (by decide +kernel)
theorem dX12_via_201 : decode cX12_via 201 = .ok (.iload 7, 2) := dc_21 (a := 7) (by decide +kernel)
theorem dX12_via_203 : decode cX12_via 203 = .ok (.iconst 1, 1) := dc_4 (by decide +kernel)
theorem dX12_via_204 : decode cX12_via 204 = .ok (.isub, 1) := dc_100 (by decide +kernel)
theorem dX12_via_205 : decode cX12_via 205 = .ok (.iaload, 1) := dc_46 (by decide +kernel)
theorem dX12_via_206 : decode cX12_via 206 = .ok (.iload 4, 2) := dc_21 (a := 4) (by decide +kernel)
theorem dX12_via_208 : decode cX12_via 208 = .ok (.if_icmp .ne 70, 3) := dc_160 (a := 0) (b := 70) (by decide +kernel) (by decide)
theorem dX12_via_211 : decode cX12_via 211 = .ok (.aload_n 0, 1) := dc_42 (by decide +kernel)
theorem dX12_via_212 : decode cX12_via 212 = .ok (.getfield 54, 3) := dc_180 (a := 0) (b := 54) (by decide +kernel)
theorem dX12_via_215 : decode cX12_via 215 = .ok (.iload 7, 2) := dc_21 (a := 7) (by decide +kernel)
theorem dX12_via_217 : decode cX12_via 217 = .ok (.iconst 1, 1) := dc_4 (by decide +kernel)
theorem dX12_via_218 : decode cX12_via 218 = .ok (.isub, 1) := dc_100 (by decide +kernel)
theorem dX12_via_219 : decode cX12_via 219 = .ok (.iaload, 1) := dc_46 (by decide +kernel)
theorem dX12_via_220 : decode cX12_via 220 = .ok (.iload_n 2, 1) := dc_28 (by decide +kernel)
theorem dX12_via_221 : decode cX12_via 221 = .ok (.if_icmp .le 57, 3) := dc_164 (a := 0) (b := 57) (by decide +kernel) (by decide)
theorem dX12_via_224 : decode cX12_via 224 = .ok (.aload_n 0, 1) := dc_42 (by decide +kernel)
theorem dX12_via_225 : decode cX12_via 225 = .ok (.getfield 54, 3) := dc_180 (a := 0) (b := 54) (by decide +kernel)
theorem dX12_via_228 : decode cX12_via 228 = .ok (.iload 7, 2) := dc_21 (a := 7) (by decide +kernel)
theorem dX12_via_230 : decode cX12_via 230 = .ok (.aload_n 0, 1) := dc_42 (by decide +kernel)
theorem dX12_via_231 : decode cX12_via 231 = .ok (.getfield 54, 3) := dc_180 (a := 0) (b := 54) (by decide +kernel)
theorem dX12_via_234 : decode cX12_via 234 = .ok (.iload 7, 2) := dc_21 (a := 7) (by decide +kernel)
theorem dX12_via_236 : decode cX12_via 236 = .ok (.iconst 1, 1) := dc_4 (by decide +kernel)
theorem dX12_via_237 : decode cX12_via 237 = .ok (.isub, 1) := dc_100 (by decide +kernel)
theorem dX12_via_238 : decode cX12_via 238 = .ok (.iaload, 1) := dc_46 (by decide +kernel)
theorem dX12_via_239 : decode cX12_via 239 = .ok (.iastore, 1) := dc_79 (by decide +kernel)
theorem dX12_via_240 : decode cX12_via 240 = .ok (.aload_n 0, 1) := dc_42 (by decide +kernel)
theorem dX12_via_241 : decode cX12_via 241 = .ok (.getfield 57, 3) := dc_180 (a := 0) (b := 57) (by decide +kernel)
theorem dX12_via_244 : decode cX12_via 244 = .ok (.iload 7, 2) := dc_21 (a := 7) (by decide +kernel)
theorem dX12_via_246 : decode cX12_via 246 = .ok (.aload_n 0, 1) := dc_42 (by decide +kernel)
theorem dX12_via_247 : decode cX12_via 247 = .ok (.getfield 57, 3) := dc_180 (a := 0) (b := 57) (by decide +kernel)
theorem dX12_via_250 : decode cX12_via 250 = .ok (.iload 7, 2) := dc_21 (a := 7) (by decide +kernel)
theorem dX12_via_252 : decode cX12_via 252 = .ok (.iconst 1, 1) := dc_4 (by decide +kernel)
theorem dX12_via_253 : decode cX12_via 253 = .ok (.isub, 1) := dc_100 (by decide +kernel)
theorem dX12_via_254 : decode cX12_via 254 = .ok (.iaload, 1) := dc_46 (by decide +kernel)
theorem dX12_via_255 : decode cX12_via 255 = .ok (.iastore, 1) := dc_79 (by decide +kernel)
theorem dX12_via_256 : decode cX12_via 256 = .ok (.aload_n 0, 1) := dc_42 (by decide +kernel)
theorem dX12_via_257 : decode cX12_via 257 = .ok (.getfield 60, 3) := dc_180 (a := 0) (b := 60) (by decide +kernel)
theorem dX12_via_260 : decode cX12_via 260 = .ok (.iload 7, 2) := dc_21 (a := 7) (by decide +kernel)
theorem dX12_via_262 : decode cX12_via 262 = .ok (.aload_n 0, 1) := dc_42 (by decide +kernel)
theorem dX12_via_263 : decode cX12_via 263 = .ok (.getfield 60, 3) := dc_180 (a := 0) (b := 60) (by decide +kernel)
theorem dX12_via_266 : decode cX12_via 266 = .ok (.iload 7, 2) := dc_21 (a := 7) (by decide +kernel)
theorem dX12_via_268 : decode cX12_via 268 = .ok (.iconst 1, 1) := dc_4 (by decide +kernel)
theorem dX12_via_269 : decode cX12_via 269 = .ok (.isub, 1) := dc_100 (by decide +kernel)
theorem dX12_via_270 : decode cX12_via 270 = .ok (.iaload, 1) := dc_46 (by decide +kernel)
theorem dX12_via_271 : decode cX12_via 271 = .ok (.iastore, 1) := dc_79 (by decide +kernel)
theorem dX12_via_272 : decode cX12_via 272 = .ok (.iinc 7 (-1), 3) := dc_132 (a := 7) (b := 255) (by decide +kernel) (by decide)
theorem dX12_via_275 : decode cX12_via 275 = .ok (.goto (-101), 3) := dc_167 (a := 255) (b := 155) (by decide +kernel) (by decide)
theorem dX12_via_278 : decode cX12_via 278 = .ok (.aload_n 0, 1) := dc_42 (by decide +kernel)
theorem dX12_via_279 : decode cX12_via 279 = .ok (.getfield 54, 3) := dc_180 (a := 0) (b := 54) (by decide +kernel)
theorem dX12_via_282 : decode cX12_via 282 = .ok (.iload 7, 2) := dc_21 (a := 7) (by decide +kernel)
theorem dX12_via_284 : decode cX12_via 284 = .ok (.iload_n 2, 1) := dc_28 (by decide +kernel)
theorem dX12_via_285 : decode cX12_via 285 = .ok (.iastore, 1) := dc_79 (by decide +kernel)
theorem dX12_via_286 : decode cX12_via 286 = .ok (.aload_n 0, 1) := dc_42 (by decide +kernel)
theorem dX12_via_287 : decode cX12_via 287 = .ok (.getfield 57, 3) := dc_180 (a := 0) (b := 57) (by decide +kernel)
theorem dX12_via_290 : decode cX12_via 290 = .ok (.iload 7, 2) := dc_21 (a := 7) (by decide +kernel)
theorem dX12_via_292 : decode cX12_via 292 = .ok (.iload_n 3, 1) := dc_29 (by decide +kernel)
theorem dX12_via_293 : decode cX12_via 293 = .ok (.iastore, 1) := dc_79 (by decide +kernel)
theorem dX12_via_294 : decode cX12_via 294 = .ok (.aload_n 0, 1) := dc_42 (by decide +kernel)
theorem dX12_via_295 : decode cX12_via 295 = .ok (.getfield 60, 3) := dc_180 (a := 0) (b := 60) (by decide +kernel)
theorem dX12_via_298 : decode cX12_via 298 = .ok (.iload 7, 2) := dc_21 (a := 7) (by decide +kernel)
theorem dX12_via_300 : decode cX12_via 300 = .ok (.iload 4, 2) := dc_21 (a := 4) (by decide +kernel)
theorem dX12_via_302 : decode cX12_via 302 = .ok (.iastore, 1) := dc_79 (by decide +kernel)
theorem dX12_via_303 : decode cX12_via 303 = .ok (.aload_n 0, 1) := dc_42 (by decide +kernel)
theorem dX12_via_304 : decode cX12_via 304 = .ok (.getfield 51, 3) := dc_180 (a := 0) (b := 51) (by decide +kernel)
theorem dX12_via_307 : decode cX12_via 307 = .ok (.iload_n 1, 1) := dc_27 (by decide +kernel)
theorem dX12_via_308 : decode cX12_via 308 = .ok (.dup2, 1) := dc_92 (by decide +kernel)
theorem dX12_via_309 : decode cX12_via 309 = .ok (.iaload, 1) := dc_46 (by decide +kernel)
theorem dX12_via_310 : decode cX12_via 310 = .ok (.iconst 1, 1) := dc_4 (by decide +kernel)
theorem dX12_via_311 : decode cX12_via 311 = .ok (.iadd, 1) := dc_96 (by decide +kernel)
theorem dX12_via_312 : decode cX12_via 312 = .ok (.iastore, 1) := dc_79 (by decide +kernel)
theorem dX12_via_313 : decode cX12_via 313 = .ok (.aload_n 0, 1) := dc_42 (by decide +kernel)
theorem dX12_via_314 : decode cX12_via 314 = .ok (.invokevirtual 229, 3) := dc_182 (a := 0) (b := 229) (by decide +kernel)
theorem dX12_via_317 : decode cX12_via 317 = .ok (.aload_n 0, 1) := dc_42 (by decide +kernel)
theorem dX12_via_318 : decode cX12_via 318 = .ok (.getfield 51, 3) := dc_180 (a := 0) (b := 51) (by decide +kernel)
theorem dX12_via_321 : decode cX12_via 321 = .ok (.iload_n 1, 1) := dc_27 (by decide +kernel)
theorem dX12_via_322 : decode cX12_via 322 = .ok (.iaload, 1) := dc_46 (by decide +kernel)
theorem dX12_via_323 : decode cX12_via 323 = .ok (.ireturn, 1) := dc_172 (by decide +kernel)
set_option maxRecDepth 100000 in
set_option maxHeartbeats 4000000 in
theorem w_M_via_j134 {p : Program} {l : Launch} {e : Env} {R : Room} {s : State} {m : MethodId} {args : Array Value} {below : List Frame} {meth : Method} {c : Code} {dC : Nat → ClassId} {dI : Nat → Nat → Nat} {cs : Nat → ClassId} {ad : Nat → Nat} {A : Nat → Prop} {D0 : Nat → Nat} {S' : SS} {r : Int32} (F : Fx p s m args meth c cX12_via 8 RX12 (some .int) dC dI cs A) (hR1 : 1 ≤ R.frames) (hR2 : 21 ≤ R.locals)  (S : SS) (h : f_M_via_j134  S = some (r, S')) : AW p l e R s m args below meth c dC dI cs ad A D0 (some (.int r)) S' 8 134 [(0, .ref (ad 0))] [] S := by
  have hx := F.1.1
  have hb := F.1.2.1
  intro H locs ls w hl
  rw [f_M_via_j134] at h
  refine lv_aload_n (pc := 134) hx hb dX12_via_134 rfl (lv_at hl 0 rfl) ?_
  refine lv_bipush (pc := 135) (v := 9) hx hb dX12_via_135 (by decide) ?_
  obtain ⟨r9, S8, hc, h⟩ := bnd_t h
  refine s_cvi (pc := 137) [.int (9 : Int32)] (fun ad => [.ref (ad 0), .int (9 : Int32)]) F w (m_M_found _ _ _ _ hc) rfl rfl hl.1 ds_0 vc_X12 rfl ok_X12_found rfl kc_X12_found kl_X12_210 ki_X12_found kv_X12_found kn_X12 ⟨Nat.le_trans (by decide) hR1, Nat.le_trans (by decide) hR2⟩ ⟨Nat.zero_le _, Nat.zero_le _⟩ (Nat.le_of_ble_eq_true rfl) dX12_via_137 (fun H locs w => ?_)
  exact s_iret F w h dX12_via_140
set_option maxRecDepth 100000 in
set_option maxHeartbeats 4000000 in
theorem w_M_via_j278 {p : Program} {l : Launch} {e : Env} {R : Room} {s : State} {m : MethodId} {args : Array Value} {below : List Frame} {meth : Method} {c : Code} {dC : Nat → ClassId} {dI : Nat → Nat → Nat} {cs : Nat → ClassId} {ad : Nat → Nat} {A : Nat → Prop} {D0 : Nat → Nat} {S' : SS} {r : Int32} (F : Fx p s m args meth c cX12_via 8 RX12 (some .int) dC dI cs A) (hR1 : 1 ≤ R.frames) (hR2 : 20 ≤ R.locals) (x1 : Int32) (x2 : Int32) (x3 : Int32) (x4 : Int32) (x7 : Int32) (S : SS) (h : f_M_via_j278 x1 x2 x3 x4 x7 S = some (r, S')) : AW p l e R s m args below meth c dC dI cs ad A D0 (some (.int r)) S' 8 278 [(0, .ref (ad 0)), (1, .int x1), (2, .int x2), (3, .int x3), (4, .int x4), (7, .int x7)] [] S := by
  have hx := F.1.1
  have hb := F.1.2.1
  intro H locs ls w hl
  rw [f_M_via_j278] at h
  refine lv_aload_n (pc := 278) hx hb dX12_via_278 rfl (lv_at hl 0 rfl) ?_
  refine s_getR (pc := 279) F w 13 ds_0 (j := 21) vc_X12 vi_X12 rfl (by decide) kf_X12_54 dX12_via_279 ?_
  refine lv_iload (pc := 282) hx hb dX12_via_282 (lv_at hl 5 rfl) ?_
  refine lv_iload_n (pc := 284) hx hb dX12_via_284 rfl (lv_at hl 2 rfl) ?_
  refine s_iast (pc := 285) F w ds_13 h dX12_via_285 (fun S13 H locs h w => ?_)
  refine lv_aload_n (pc := 286) hx hb dX12_via_286 rfl (lv_at hl 0 rfl) ?_
  refine s_getR (pc := 287) F w 14 ds_0 (j := 22) vc_X12 vi_X12 rfl (by decide) kf_X12_57 dX12_via_287 ?_
  refine lv_iload (pc := 290) hx hb dX12_via_290 (lv_at hl 5 rfl) ?_
  refine lv_iload_n (pc := 292) hx hb dX12_via_292 rfl (lv_at hl 3 rfl) ?_
  refine s_iast (pc := 293) F w ds_14 h dX12_via_293 (fun S14 H locs h w => ?_)
  refine lv_aload_n (pc := 294) hx hb dX12_via_294 rfl (lv_at hl 0 rfl) ?_
  refine s_getR (pc := 295) F w 15 ds_0 (j := 23) vc_X12 vi_X12 rfl (by decide) kf_X12_60 dX12_via_295 ?_
  refine lv_iload (pc := 298) hx hb dX12_via_298 (lv_at hl 5 rfl) ?_
  refine lv_iload (pc := 300) hx hb dX12_via_300 (lv_at hl 4 rfl) ?_
  refine s_iast (pc := 302) F w ds_15 h dX12_via_302 (fun S15 H locs h w => ?_)
  refine lv_aload_n (pc := 303) hx hb dX12_via_303 rfl (lv_at hl 0 rfl) ?_
  refine s_getR (pc := 304) F w 12 ds_0 (j := 20) vc_X12 vi_X12 rfl (by decide) kf_X12_51 dX12_via_304 ?_
  refine lv_iload_n (pc := 307) hx hb dX12_via_307 rfl (lv_at hl 1 rfl) ?_
  refine lv_dup2_11 (pc := 308) hx hb dX12_via_308 rfl rfl ?_
  refine s_iald (pc := 309) F w ds_12 h dX12_via_309 (fun h => ?_)
  refine lv_iconst (pc := 310) (v := 1) hx hb dX12_via_310 (by decide) ?_
  refine lv_iadd (pc := 311) hx hb dX12_via_311 ?_
  refine s_iast (pc := 312) F w ds_12 h dX12_via_312 (fun S16 H locs h w => ?_)
  refine lv_aload_n (pc := 313) hx hb dX12_via_313 rfl (lv_at hl 0 rfl) ?_
  obtain ⟨S17, hc, h⟩ := bndv_t h
  refine s_cvv (pc := 314) [] (fun ad => [.ref (ad 0)]) F w (m_M_forget  _ _ hc) rfl rfl hl.1 ds_0 vc_X12 rfl ok_X12_forget rfl kc_X12_forget kl_X12_229 ki_X12_forget kv_X12_forget kn_X12 ⟨Nat.le_trans (by decide) hR1, Nat.le_trans (by decide) hR2⟩ ⟨Nat.zero_le _, Nat.zero_le _⟩ (Nat.le_of_ble_eq_true rfl) dX12_via_314 (fun H locs w => ?_)
  refine lv_aload_n (pc := 317) hx hb dX12_via_317 rfl (lv_at hl 0 rfl) ?_
  refine s_getR (pc := 318) F w 12 ds_0 (j := 20) vc_X12 vi_X12 rfl (by decide) kf_X12_51 dX12_via_318 ?_
  refine lv_iload_n (pc := 321) hx hb dX12_via_321 rfl (lv_at hl 1 rfl) ?_
  refine s_iald (pc := 322) F w ds_12 h dX12_via_322 (fun h => ?_)
  exact s_iret F w h dX12_via_323
set_option maxRecDepth 100000 in
set_option maxHeartbeats 4000000 in
theorem w_M_via_j224 {p : Program} {l : Launch} {e : Env} {R : Room} {s : State} {m : MethodId} {args : Array Value} {below : List Frame} {meth : Method} {c : Code} {dC : Nat → ClassId} {dI : Nat → Nat → Nat} {cs : Nat → ClassId} {ad : Nat → Nat} {A : Nat → Prop} {D0 : Nat → Nat} {S' : SS} {r : Int32} (F : Fx p s m args meth c cX12_via 8 RX12 (some .int) dC dI cs A) (hR1 : 0 ≤ R.frames) (hR2 : 0 ≤ R.locals) (K174 : Int32 → Int32 → Int32 → Int32 → Int32 → SS → Option (Int32 × SS)) (hK174 : ∀ (v0 : Int32) (v1 : Int32) (v2 : Int32) (v3 : Int32) (v4 : Int32) (S : SS), K174 v0 v1 v2 v3 v4 S = some (r, S') → AW p l e R s m args below meth c dC dI cs ad A D0 (some (.int r)) S' 8 174 [(0, .ref (ad 0)), (1, .int v0), (2, .int v1), (3, .int v2), (4, .int v3), (7, .int v4)] [] S) (x1 : Int32) (x2 : Int32) (x3 : Int32) (x4 : Int32) (x7 : Int32) (S : SS) (h : f_M_via_j224 K174 x1 x2 x3 x4 x7 S = some (r, S')) : AW p l e R s m args below meth c dC dI cs ad A D0 (some (.int r)) S' 8 224 [(0, .ref (ad 0)), (1, .int x1), (2, .int x2), (3, .int x3), (4, .int x4), (7, .int x7)] [] S := by
  have hx := F.1.1
  have hb := F.1.2.1
  intro H locs ls w hl
  rw [f_M_via_j224] at h
  refine lv_aload_n (pc := 224) hx hb dX12_via_224 rfl (lv_at hl 0 rfl) ?_
  refine s_getR (pc := 225) F w 13 ds_0 (j := 21) vc_X12 vi_X12 rfl (by decide) kf_X12_54 dX12_via_225 ?_
  refine lv_iload (pc := 228) hx hb dX12_via_228 (lv_at hl 5 rfl) ?_
  refine lv_aload_n (pc := 230) hx hb dX12_via_230 rfl (lv_at hl 0 rfl) ?_
  refine s_getR (pc := 231) F w 13 ds_0 (j := 21) vc_X12 vi_X12 rfl (by decide) kf_X12_54 dX12_via_231 ?_
  refine lv_iload (pc := 234) hx hb dX12_via_234 (lv_at hl 5 rfl) ?_
  refine lv_iconst (pc := 236) (v := 1) hx hb dX12_via_236 (by decide) ?_
  refine lv_isub (pc := 237) hx hb dX12_via_237 ?_
  refine s_iald (pc := 238) F w ds_13 h dX12_via_238 (fun h => ?_)
  refine s_iast (pc := 239) F w ds_13 h dX12_via_239 (fun S18 H locs h w => ?_)
  refine lv_aload_n (pc := 240) hx hb dX12_via_240 rfl (lv_at hl 0 rfl) ?_
  refine s_getR (pc := 241) F w 14 ds_0 (j := 22) vc_X12 vi_X12 rfl (by decide) kf_X12_57 dX12_via_241 ?_
  refine lv_iload (pc := 244) hx hb dX12_via_244 (lv_at hl 5 rfl) ?_
  refine lv_aload_n (pc := 246) hx hb dX12_via_246 rfl (lv_at hl 0 rfl) ?_
  refine s_getR (pc := 247) F w 14 ds_0 (j := 22) vc_X12 vi_X12 rfl (by decide) kf_X12_57 dX12_via_247 ?_
  refine lv_iload (pc := 250) hx hb dX12_via_250 (lv_at hl 5 rfl) ?_
  refine lv_iconst (pc := 252) (v := 1) hx hb dX12_via_252 (by decide) ?_
  refine lv_isub (pc := 253) hx hb dX12_via_253 ?_
  refine s_iald (pc := 254) F w ds_14 h dX12_via_254 (fun h => ?_)
  refine s_iast (pc := 255) F w ds_14 h dX12_via_255 (fun S19 H locs h w => ?_)
  refine lv_aload_n (pc := 256) hx hb dX12_via_256 rfl (lv_at hl 0 rfl) ?_
  refine s_getR (pc := 257) F w 15 ds_0 (j := 23) vc_X12 vi_X12 rfl (by decide) kf_X12_60 dX12_via_257 ?_
  refine lv_iload (pc := 260) hx hb dX12_via_260 (lv_at hl 5 rfl) ?_
  refine lv_aload_n (pc := 262) hx hb dX12_via_262 rfl (lv_at hl 0 rfl) ?_
  refine s_getR (pc := 263) F w 15 ds_0 (j := 23) vc_X12 vi_X12 rfl (by decide) kf_X12_60 dX12_via_263 ?_
  refine lv_iload (pc := 266) hx hb dX12_via_266 (lv_at hl 5 rfl) ?_
  refine lv_iconst (pc := 268) (v := 1) hx hb dX12_via_268 (by decide) ?_
  refine lv_isub (pc := 269) hx hb dX12_via_269 ?_
  refine s_iald (pc := 270) F w ds_15 h dX12_via_270 (fun h => ?_)
  refine s_iast (pc := 271) F w ds_15 h dX12_via_271 (fun S20 H locs h w => ?_)
  refine s_nm h (fun z21 ez21 h => ?_)
  refine lv_iinc (pc := 272) (v := z21) (lv' := [(7, .int z21), (0, .ref (ad 0)), (1, .int x1), (2, .int x2), (3, .int x3), (4, .int x4)]) hx hb dX12_via_272 hl (k := 5) rfl (by rw [ez21]; rfl) (by decide) rfl (fun ls hl => ?_)
  refine lv_goto (pc := 275) (tgt := 174) hx hb dX12_via_275 (by decide) ?_
  exact hK174 _ _ _ _ _ _ h _ _ _ w (lv_sub hl [1, 2, 3, 4, 5, 0] rfl)
set_option maxRecDepth 100000 in
set_option maxHeartbeats 4000000 in
theorem w_M_via_L174 {p : Program} {l : Launch} {e : Env} {R : Room} {s : State} {m : MethodId} {args : Array Value} {below : List Frame} {meth : Method} {c : Code} {dC : Nat → ClassId} {dI : Nat → Nat → Nat} {cs : Nat → ClassId} {ad : Nat → Nat} {A : Nat → Prop} {D0 : Nat → Nat} {S' : SS} {r : Int32} (F : Fx p s m args meth c cX12_via 8 RX12 (some .int) dC dI cs A) (hR1 : 1 ≤ R.frames) (hR2 : 20 ≤ R.locals) : ∀ (n : Nat) (x1 : Int32) (x2 : Int32) (x3 : Int32) (x4 : Int32) (x7 : Int32) (S : SS), f_M_via_L174 n x1 x2 x3 x4 x7 S = some (r, S') → AW p l e R s m args below meth c dC dI cs ad A D0 (some (.int r)) S' 8 174 [(0, .ref (ad 0)), (1, .int x1), (2, .int x2), (3, .int x3), (4, .int x4), (7, .int x7)] [] S := by
  have hx := F.1.1
  have hb := F.1.2.1
  intro n
  induction n with
  | zero => intro x1 x2 x3 x4 x7 S h; cases h
  | succ n ih =>
    intro x1 x2 x3 x4 x7 S h H locs ls w hl
    rw [f_M_via_L174] at h
    refine lv_iload (pc := 174) hx hb dX12_via_174 (lv_at hl 5 rfl) ?_
    refine lv_bipush (pc := 176) (v := 8) hx hb dX12_via_176 (by decide) ?_
    refine lv_iload_n (pc := 178) hx hb dX12_via_178 rfl (lv_at hl 1 rfl) ?_
    refine lv_imul (pc := 179) hx hb dX12_via_179 ?_
    refine lv_icmp_le (pc := 180) (tgt := 278) hx hb dX12_via_180 (by decide) (fun q => ?_) (fun q => ?_)
    · have h := ite_t q h
      exact w_M_via_j278 F (Nat.le_trans (by decide) hR1) (Nat.le_trans (by decide) hR2) _ _ _ _ _ _ h _ _ _ w (lv_sub hl [0, 1, 2, 3, 4, 5] rfl)
    · have h := ite_f q h
      refine lv_aload_n (pc := 183) hx hb dX12_via_183 rfl (lv_at hl 0 rfl) ?_
      refine s_getR (pc := 184) F w 15 ds_0 (j := 23) vc_X12 vi_X12 rfl (by decide) kf_X12_60 dX12_via_184 ?_
      refine lv_iload (pc := 187) hx hb dX12_via_187 (lv_at hl 5 rfl) ?_
      refine lv_iconst (pc := 189) (v := 1) hx hb dX12_via_189 (by decide) ?_
      refine lv_isub (pc := 190) hx hb dX12_via_190 ?_
      refine s_iald (pc := 191) F w ds_15 h dX12_via_191 (fun h => ?_)
      refine lv_iload (pc := 192) hx hb dX12_via_192 (lv_at hl 4 rfl) ?_
      refine lv_icmp_gt (pc := 194) (tgt := 224) hx hb dX12_via_194 (by decide) (fun q => ?_) (fun q => ?_)
      · have h := ite_t q h
        exact w_M_via_j224 F (Nat.le_trans (by decide) hR1) (Nat.le_trans (by decide) hR2) _ (fun v0 v1 v2 v3 v4 S h => ih v0 v1 v2 v3 v4 S h) _ _ _ _ _ _ h _ _ _ w (lv_sub hl [0, 1, 2, 3, 4, 5] rfl)
      · have h := ite_f q h
        refine lv_aload_n (pc := 197) hx hb dX12_via_197 rfl (lv_at hl 0 rfl) ?_
        refine s_getR (pc := 198) F w 15 ds_0 (j := 23) vc_X12 vi_X12 rfl (by decide) kf_X12_60 dX12_via_198 ?_
        refine lv_iload (pc := 201) hx hb dX12_via_201 (lv_at hl 5 rfl) ?_
        refine lv_iconst (pc := 203) (v := 1) hx hb dX12_via_203 (by decide) ?_
        refine lv_isub (pc := 204) hx hb dX12_via_204 ?_
        refine s_iald (pc := 205) F w ds_15 h dX12_via_205 (fun h => ?_)
        refine lv_iload (pc := 206) hx hb dX12_via_206 (lv_at hl 4 rfl) ?_
        refine lv_icmp_ne (pc := 208) (tgt := 278) hx hb dX12_via_208 (by decide) (fun q => ?_) (fun q => ?_)
        · have h := ite_f q h
          exact w_M_via_j278 F (Nat.le_trans (by decide) hR1) (Nat.le_trans (by decide) hR2) _ _ _ _ _ _ h _ _ _ w (lv_sub hl [0, 1, 2, 3, 4, 5] rfl)
        · have h := ite_t q h
          refine lv_aload_n (pc := 211) hx hb dX12_via_211 rfl (lv_at hl 0 rfl) ?_
          refine s_getR (pc := 212) F w 13 ds_0 (j := 21) vc_X12 vi_X12 rfl (by decide) kf_X12_54 dX12_via_212 ?_
          refine lv_iload (pc := 215) hx hb dX12_via_215 (lv_at hl 5 rfl) ?_
          refine lv_iconst (pc := 217) (v := 1) hx hb dX12_via_217 (by decide) ?_
          refine lv_isub (pc := 218) hx hb dX12_via_218 ?_
          refine s_iald (pc := 219) F w ds_13 h dX12_via_219 (fun h => ?_)
          refine lv_iload_n (pc := 220) hx hb dX12_via_220 rfl (lv_at hl 2 rfl) ?_
          refine lv_icmp_le (pc := 221) (tgt := 278) hx hb dX12_via_221 (by decide) (fun q => ?_) (fun q => ?_)
          · have h := ite_t q h
            exact w_M_via_j278 F (Nat.le_trans (by decide) hR1) (Nat.le_trans (by decide) hR2) _ _ _ _ _ _ h _ _ _ w (lv_sub hl [0, 1, 2, 3, 4, 5] rfl)
          · have h := ite_f q h
            exact w_M_via_j224 F (Nat.le_trans (by decide) hR1) (Nat.le_trans (by decide) hR2) _ (fun v0 v1 v2 v3 v4 S h => ih v0 v1 v2 v3 v4 S h) _ _ _ _ _ _ h _ _ _ w (lv_sub hl [0, 1, 2, 3, 4, 5] rfl)
set_option maxRecDepth 100000 in
set_option maxHeartbeats 4000000 in
theorem w_M_via_j102 {p : Program} {l : Launch} {e : Env} {R : Room} {s : State} {m : MethodId} {args : Array Value} {below : List Frame} {meth : Method} {c : Code} {dC : Nat → ClassId} {dI : Nat → Nat → Nat} {cs : Nat → ClassId} {ad : Nat → Nat} {A : Nat → Prop} {D0 : Nat → Nat} {S' : SS} {r : Int32} (F : Fx p s m args meth c cX12_via 8 RX12 (some .int) dC dI cs A) (hR1 : 2 ≤ R.frames) (hR2 : 42 ≤ R.locals) (x1 : Int32) (x2 : Int32) (x3 : Int32) (x4 : Int32) (x5 : Int32) (x6 : Int32) (S : SS) (h : f_M_via_j102 x1 x2 x3 x4 x5 x6 S = some (r, S')) : AW p l e R s m args below meth c dC dI cs ad A D0 (some (.int r)) S' 8 102 [(0, .ref (ad 0)), (1, .int x1), (2, .int x2), (3, .int x3), (4, .int x4), (5, .int x5), (6, .int x6)] [] S := by
  have hx := F.1.1
  have hb := F.1.2.1
  intro H locs ls w hl
  rw [f_M_via_j102] at h
  refine lv_aload_n (pc := 102) hx hb dX12_via_102 rfl (lv_at hl 0 rfl) ?_
  obtain ⟨S5, hc, h⟩ := bndv_t h
  refine s_cvv (pc := 103) [] (fun ad => [.ref (ad 0)]) F w (m_M_begin  _ _ hc) rfl rfl hl.1 ds_0 vc_X12 rfl ok_X12_begin rfl kc_X12_begin kl_X12_226 ki_X12_begin kv_X12_begin kn_X12 ⟨Nat.le_trans (by decide) hR1, Nat.le_trans (by decide) hR2⟩ ⟨Nat.zero_le _, Nat.zero_le _⟩ (Nat.le_of_ble_eq_true rfl) dX12_via_103 (fun H locs w => ?_)
  refine lv_aload_n (pc := 106) hx hb dX12_via_106 rfl (lv_at hl 0 rfl) ?_
  refine lv_iload (pc := 107) hx hb dX12_via_107 (lv_at hl 5 rfl) ?_
  obtain ⟨r7, S6, hc, h⟩ := bnd_t h
  refine s_cvi (pc := 109) [.int x5] (fun ad => [.ref (ad 0), .int x5]) F w (m_M_ends _ _ _ _ hc) rfl rfl hl.1 ds_0 vc_X12 rfl ok_X12_ends rfl kc_X12_ends kl_X12_236 ki_X12_ends kv_X12_ends kn_X12 ⟨Nat.le_trans (by decide) hR1, Nat.le_trans (by decide) hR2⟩ ⟨Nat.zero_le _, Nat.zero_le _⟩ (Nat.le_of_ble_eq_true rfl) dX12_via_109 (fun H locs w => ?_)
  refine lv_if_eq (pc := 112) (tgt := 118) hx hb dX12_via_112 (by decide) (fun q => ?_) (fun q => ?_)
  · have h := ite_t q h
    refine lv_iload (pc := 118) hx hb dX12_via_118 (lv_at hl 6 rfl) ?_
    refine lv_if_ne (pc := 120) (tgt := 134) hx hb dX12_via_120 (by decide) (fun q => ?_) (fun q => ?_)
    · have h := ite_f q h
      exact w_M_via_j134 F (Nat.le_trans (by decide) hR1) (Nat.le_trans (by decide) hR2)  _ h _ _ _ w (lv_sub hl [0] rfl)
    · have h := ite_t q h
      refine lv_aload_n (pc := 123) hx hb dX12_via_123 rfl (lv_at hl 0 rfl) ?_
      refine s_getR (pc := 124) F w 12 ds_0 (j := 20) vc_X12 vi_X12 rfl (by decide) kf_X12_51 dX12_via_124 ?_
      refine lv_iload_n (pc := 127) hx hb dX12_via_127 rfl (lv_at hl 1 rfl) ?_
      refine s_iald (pc := 128) F w ds_12 h dX12_via_128 (fun h => ?_)
      refine lv_bipush (pc := 129) (v := 8) hx hb dX12_via_129 (by decide) ?_
      refine lv_icmp_ne (pc := 131) (tgt := 141) hx hb dX12_via_131 (by decide) (fun q => ?_) (fun q => ?_)
      · have h := ite_f q h
        refine lv_aload_n (pc := 141) hx hb dX12_via_141 rfl (lv_at hl 0 rfl) ?_
        refine lv_iload_n (pc := 142) hx hb dX12_via_142 rfl (lv_at hl 1 rfl) ?_
        obtain ⟨r11, S10, hc, h⟩ := bnd_t h
        refine s_cvi (pc := 143) [.int x1] (fun ad => [.ref (ad 0), .int x1]) F w (m_M_isLocking _ _ _ _ hc) rfl rfl hl.1 ds_0 vc_X12 rfl ok_X12_isLocking rfl kc_X12_isLocking kl_X12_266 ki_X12_isLocking kv_X12_isLocking kn_X12 ⟨Nat.le_trans (by decide) hR1, Nat.le_trans (by decide) hR2⟩ ⟨Nat.zero_le _, Nat.zero_le _⟩ (Nat.le_of_ble_eq_true rfl) dX12_via_143 (fun H locs w => ?_)
        refine lv_if_eq (pc := 146) (tgt := 161) hx hb dX12_via_146 (by decide) (fun q => ?_) (fun q => ?_)
        · have h := ite_t q h
          refine lv_bipush (pc := 161) (v := 8) hx hb dX12_via_161 (by decide) ?_
          refine lv_iload_n (pc := 163) hx hb dX12_via_163 rfl (lv_at hl 1 rfl) ?_
          refine lv_imul (pc := 164) hx hb dX12_via_164 ?_
          refine lv_aload_n (pc := 165) hx hb dX12_via_165 rfl (lv_at hl 0 rfl) ?_
          refine s_getR (pc := 166) F w 12 ds_0 (j := 20) vc_X12 vi_X12 rfl (by decide) kf_X12_51 dX12_via_166 ?_
          refine lv_iload_n (pc := 169) hx hb dX12_via_169 rfl (lv_at hl 1 rfl) ?_
          refine s_iald (pc := 170) F w ds_12 h dX12_via_170 (fun h => ?_)
          refine lv_iadd (pc := 171) hx hb dX12_via_171 ?_
          refine s_nm h (fun z12 ez12 h => ?_)
          rw [← ez12]
          refine lv_istore (pc := 172) (lv' := [(7, .int z12), (0, .ref (ad 0)), (1, .int x1), (2, .int x2), (3, .int x3), (4, .int x4), (5, .int x5), (6, .int x6)]) hx hb dX12_via_172 hl (by decide) rfl (fun ls hl => ?_)
          exact w_M_via_L174 F (Nat.le_trans (by decide) hR1) (Nat.le_trans (by decide) hR2) _ _ _ _ _ _ _ h _ _ _ w (lv_sub hl [1, 2, 3, 4, 5, 0] rfl)
        · have h := ite_f q h
          refine lv_aload_n (pc := 149) hx hb dX12_via_149 rfl (lv_at hl 0 rfl) ?_
          refine lv_iload_n (pc := 150) hx hb dX12_via_150 rfl (lv_at hl 1 rfl) ?_
          refine s_putI (pc := 151) F w ds_0 vc_X12 vi_X12 tyX12_ok nmX12 (j := 3) rfl (by decide) kf_X12_13 rfl pd_I h dX12_via_151 (fun S22 H locs h w => ?_)
          refine lv_aload_n (pc := 154) hx hb dX12_via_154 rfl (lv_at hl 0 rfl) ?_
          refine lv_bipush (pc := 155) (v := 11) hx hb dX12_via_155 (by decide) ?_
          obtain ⟨r24, S23, hc, h⟩ := bnd_t h
          refine s_cvi (pc := 157) [.int (11 : Int32)] (fun ad => [.ref (ad 0), .int (11 : Int32)]) F w (m_M_found _ _ _ _ hc) rfl rfl hl.1 ds_0 vc_X12 rfl ok_X12_found rfl kc_X12_found kl_X12_210 ki_X12_found kv_X12_found kn_X12 ⟨Nat.le_trans (by decide) hR1, Nat.le_trans (by decide) hR2⟩ ⟨Nat.zero_le _, Nat.zero_le _⟩ (Nat.le_of_ble_eq_true rfl) dX12_via_157 (fun H locs w => ?_)
          exact s_iret F w h dX12_via_160
      · have h := ite_t q h
        exact w_M_via_j134 F (Nat.le_trans (by decide) hR1) (Nat.le_trans (by decide) hR2)  _ h _ _ _ w (lv_sub hl [0] rfl)
  · have h := ite_f q h
    refine lv_bipush (pc := 115) (v := -2) hx hb dX12_via_115 (by decide) ?_
    exact s_iret F w h dX12_via_117
set_option maxRecDepth 100000 in
set_option maxHeartbeats 4000000 in
theorem w_M_via_j94 {p : Program} {l : Launch} {e : Env} {R : Room} {s : State} {m : MethodId} {args : Array Value} {below : List Frame} {meth : Method} {c : Code} {dC : Nat → ClassId} {dI : Nat → Nat → Nat} {cs : Nat → ClassId} {ad : Nat → Nat} {A : Nat → Prop} {D0 : Nat → Nat} {S' : SS} {r : Int32} (F : Fx p s m args meth c cX12_via 8 RX12 (some .int) dC dI cs A) (hR1 : 0 ≤ R.frames) (hR2 : 0 ≤ R.locals) (K52 : Int32 → Int32 → Int32 → Int32 → Int32 → Int32 → Int32 → SS → Option (Int32 × SS)) (hK52 : ∀ (v0 : Int32) (v1 : Int32) (v2 : Int32) (v3 : Int32) (v4 : Int32) (v5 : Int32) (v6 : Int32) (S : SS), K52 v0 v1 v2 v3 v4 v5 v6 S = some (r, S') → AW p l e R s m args below meth c dC dI cs ad A D0 (some (.int r)) S' 8 52 [(0, .ref (ad 0)), (1, .int v0), (2, .int v1), (3, .int v2), (4, .int v3), (5, .int v4), (6, .int v5), (7, .int v6)] [] S) (x1 : Int32) (x2 : Int32) (x3 : Int32) (x4 : Int32) (x5 : Int32) (x7 : Int32) (y0 : Int32) (S : SS) (h : f_M_via_j94 K52 x1 x2 x3 x4 x5 x7 y0 S = some (r, S')) : AW p l e R s m args below meth c dC dI cs ad A D0 (some (.int r)) S' 8 94 [(0, .ref (ad 0)), (1, .int x1), (2, .int x2), (3, .int x3), (4, .int x4), (5, .int x5), (7, .int x7)] [.int y0] S := by
  have hx := F.1.1
  have hb := F.1.2.1
  intro H locs ls w hl
  rw [f_M_via_j94] at h
  refine lv_istore (pc := 94) (lv' := [(6, .int y0), (0, .ref (ad 0)), (1, .int x1), (2, .int x2), (3, .int x3), (4, .int x4), (5, .int x5), (7, .int x7)]) hx hb dX12_via_94 hl (by decide) rfl (fun ls hl => ?_)
  refine s_nm h (fun z25 ez25 h => ?_)
  refine lv_iinc (pc := 96) (v := z25) (lv' := [(7, .int z25), (6, .int y0), (0, .ref (ad 0)), (1, .int x1), (2, .int x2), (3, .int x3), (4, .int x4), (5, .int x5)]) hx hb dX12_via_96 hl (k := 7) rfl (by rw [ez25]; rfl) (by decide) rfl (fun ls hl => ?_)
  refine lv_goto (pc := 99) (tgt := 52) hx hb dX12_via_99 (by decide) ?_
  exact hK52 _ _ _ _ _ _ _ _ h _ _ _ w (lv_sub hl [2, 3, 4, 5, 6, 7, 1, 0] rfl)
set_option maxRecDepth 100000 in
set_option maxHeartbeats 4000000 in
theorem w_M_via_j89 {p : Program} {l : Launch} {e : Env} {R : Room} {s : State} {m : MethodId} {args : Array Value} {below : List Frame} {meth : Method} {c : Code} {dC : Nat → ClassId} {dI : Nat → Nat → Nat} {cs : Nat → ClassId} {ad : Nat → Nat} {A : Nat → Prop} {D0 : Nat → Nat} {S' : SS} {r : Int32} (F : Fx p s m args meth c cX12_via 8 RX12 (some .int) dC dI cs A) (hR1 : 0 ≤ R.frames) (hR2 : 0 ≤ R.locals) (K52 : Int32 → Int32 → Int32 → Int32 → Int32 → Int32 → Int32 → SS → Option (Int32 × SS)) (hK52 : ∀ (v0 : Int32) (v1 : Int32) (v2 : Int32) (v3 : Int32) (v4 : Int32) (v5 : Int32) (v6 : Int32) (S : SS), K52 v0 v1 v2 v3 v4 v5 v6 S = some (r, S') → AW p l e R s m args below meth c dC dI cs ad A D0 (some (.int r)) S' 8 52 [(0, .ref (ad 0)), (1, .int v0), (2, .int v1), (3, .int v2), (4, .int v3), (5, .int v4), (6, .int v5), (7, .int v6)] [] S) (x1 : Int32) (x2 : Int32) (x3 : Int32) (x4 : Int32) (x5 : Int32) (x7 : Int32) (S : SS) (h : f_M_via_j89 K52 x1 x2 x3 x4 x5 x7 S = some (r, S')) : AW p l e R s m args below meth c dC dI cs ad A D0 (some (.int r)) S' 8 89 [(0, .ref (ad 0)), (1, .int x1), (2, .int x2), (3, .int x3), (4, .int x4), (5, .int x5), (7, .int x7)] [] S := by
  have hx := F.1.1
  have hb := F.1.2.1
  intro H locs ls w hl
  rw [f_M_via_j89] at h
  refine lv_iconst (pc := 89) (v := 1) hx hb dX12_via_89 (by decide) ?_
  refine lv_goto (pc := 90) (tgt := 94) hx hb dX12_via_90 (by decide) ?_
  exact w_M_via_j94 F (Nat.le_trans (by decide) hR1) (Nat.le_trans (by decide) hR2) _ hK52 _ _ _ _ _ _ _ _ h _ _ _ w (lv_sub hl [0, 1, 2, 3, 4, 5, 6] rfl)
set_option maxRecDepth 100000 in
set_option maxHeartbeats 4000000 in
theorem w_M_via_L52 {p : Program} {l : Launch} {e : Env} {R : Room} {s : State} {m : MethodId} {args : Array Value} {below : List Frame} {meth : Method} {c : Code} {dC : Nat → ClassId} {dI : Nat → Nat → Nat} {cs : Nat → ClassId} {ad : Nat → Nat} {A : Nat → Prop} {D0 : Nat → Nat} {S' : SS} {r : Int32} (F : Fx p s m args meth c cX12_via 8 RX12 (some .int) dC dI cs A) (hR1 : 2 ≤ R.frames) (hR2 : 42 ≤ R.locals) : ∀ (n : Nat) (x1 : Int32) (x2 : Int32) (x3 : Int32) (x4 : Int32) (x5 : Int32) (x6 : Int32) (x7 : Int32) (S : SS), f_M_via_L52 n x1 x2 x3 x4 x5 x6 x7 S = some (r, S') → AW p l e R s m args below meth c dC dI cs ad A D0 (some (.int r)) S' 8 52 [(0, .ref (ad 0)), (1, .int x1), (2, .int x2), (3, .int x3), (4, .int x4), (5, .int x5), (6, .int x6), (7, .int x7)] [] S := by
  have hx := F.1.1
  have hb := F.1.2.1
  intro n
  induction n with
  | zero => intro x1 x2 x3 x4 x5 x6 x7 S h; cases h
  | succ n ih =>
    intro x1 x2 x3 x4 x5 x6 x7 S h H locs ls w hl
    rw [f_M_via_L52] at h
    refine lv_iload (pc := 52) hx hb dX12_via_52 (lv_at hl 5 rfl) ?_
    refine lv_if_ne (pc := 54) (tgt := 102) hx hb dX12_via_54 (by decide) (fun q => ?_) (fun q => ?_)
    · have h := ite_f q h
      exact w_M_via_j102 F (Nat.le_trans (by decide) hR1) (Nat.le_trans (by decide) hR2) _ _ _ _ _ _ _ h _ _ _ w (lv_sub hl [0, 1, 2, 3, 4, 5, 6] rfl)
    · have h := ite_t q h
      refine lv_iload (pc := 57) hx hb dX12_via_57 (lv_at hl 7 rfl) ?_
      refine lv_aload_n (pc := 59) hx hb dX12_via_59 rfl (lv_at hl 0 rfl) ?_
      refine s_getR (pc := 60) F w 12 ds_0 (j := 20) vc_X12 vi_X12 rfl (by decide) kf_X12_51 dX12_via_60 ?_
      refine lv_iload_n (pc := 63) hx hb dX12_via_63 rfl (lv_at hl 1 rfl) ?_
      refine s_iald (pc := 64) F w ds_12 h dX12_via_64 (fun h => ?_)
      refine lv_icmp_ge (pc := 65) (tgt := 102) hx hb dX12_via_65 (by decide) (fun q => ?_) (fun q => ?_)
      · have h := ite_t q h
        exact w_M_via_j102 F (Nat.le_trans (by decide) hR1) (Nat.le_trans (by decide) hR2) _ _ _ _ _ _ _ h _ _ _ w (lv_sub hl [0, 1, 2, 3, 4, 5, 6] rfl)
      · have h := ite_f q h
        refine lv_iload (pc := 68) hx hb dX12_via_68 (lv_at hl 6 rfl) ?_
        refine lv_if_ne (pc := 70) (tgt := 89) hx hb dX12_via_70 (by decide) (fun q => ?_) (fun q => ?_)
        · have h := ite_f q h
          exact w_M_via_j89 F (Nat.le_trans (by decide) hR1) (Nat.le_trans (by decide) hR2) _ (fun v0 v1 v2 v3 v4 v5 v6 S h => ih v0 v1 v2 v3 v4 v5 v6 S h) _ _ _ _ _ _ _ h _ _ _ w (lv_sub hl [0, 1, 2, 3, 4, 5, 7] rfl)
        · have h := ite_t q h
          refine lv_aload_n (pc := 73) hx hb dX12_via_73 rfl (lv_at hl 0 rfl) ?_
          refine s_getR (pc := 74) F w 13 ds_0 (j := 21) vc_X12 vi_X12 rfl (by decide) kf_X12_54 dX12_via_74 ?_
          refine lv_bipush (pc := 77) (v := 8) hx hb dX12_via_77 (by decide) ?_
          refine lv_iload_n (pc := 79) hx hb dX12_via_79 rfl (lv_at hl 1 rfl) ?_
          refine lv_imul (pc := 80) hx hb dX12_via_80 ?_
          refine lv_iload (pc := 81) hx hb dX12_via_81 (lv_at hl 7 rfl) ?_
          refine lv_iadd (pc := 83) hx hb dX12_via_83 ?_
          refine s_iald (pc := 84) F w ds_13 h dX12_via_84 (fun h => ?_)
          refine lv_iload_n (pc := 85) hx hb dX12_via_85 rfl (lv_at hl 2 rfl) ?_
          refine lv_icmp_ne (pc := 86) (tgt := 93) hx hb dX12_via_86 (by decide) (fun q => ?_) (fun q => ?_)
          · have h := ite_f q h
            refine lv_iconst (pc := 93) (v := 0) hx hb dX12_via_93 (by decide) ?_
            exact w_M_via_j94 F (Nat.le_trans (by decide) hR1) (Nat.le_trans (by decide) hR2) _ (fun v0 v1 v2 v3 v4 v5 v6 S h => ih v0 v1 v2 v3 v4 v5 v6 S h) _ _ _ _ _ _ _ _ h _ _ _ w (lv_sub hl [0, 1, 2, 3, 4, 5, 7] rfl)
          · have h := ite_t q h
            exact w_M_via_j89 F (Nat.le_trans (by decide) hR1) (Nat.le_trans (by decide) hR2) _ (fun v0 v1 v2 v3 v4 v5 v6 S h => ih v0 v1 v2 v3 v4 v5 v6 S h) _ _ _ _ _ _ _ h _ _ _ w (lv_sub hl [0, 1, 2, 3, 4, 5, 7] rfl)
set_option maxRecDepth 100000 in
set_option maxHeartbeats 4000000 in
theorem w_M_via_j44 {p : Program} {l : Launch} {e : Env} {R : Room} {s : State} {m : MethodId} {args : Array Value} {below : List Frame} {meth : Method} {c : Code} {dC : Nat → ClassId} {dI : Nat → Nat → Nat} {cs : Nat → ClassId} {ad : Nat → Nat} {A : Nat → Prop} {D0 : Nat → Nat} {S' : SS} {r : Int32} (F : Fx p s m args meth c cX12_via 8 RX12 (some .int) dC dI cs A) (hR1 : 2 ≤ R.frames) (hR2 : 42 ≤ R.locals) (x1 : Int32) (x2 : Int32) (x3 : Int32) (x4 : Int32) (y0 : Int32) (S : SS) (h : f_M_via_j44 x1 x2 x3 x4 y0 S = some (r, S')) : AW p l e R s m args below meth c dC dI cs ad A D0 (some (.int r)) S' 8 44 [(0, .ref (ad 0)), (1, .int x1), (2, .int x2), (3, .int x3), (4, .int x4)] [.int y0] S := by
  have hx := F.1.1
  have hb := F.1.2.1
  intro H locs ls w hl
  rw [f_M_via_j44] at h
  refine lv_istore (pc := 44) (lv' := [(5, .int y0), (0, .ref (ad 0)), (1, .int x1), (2, .int x2), (3, .int x3), (4, .int x4)]) hx hb dX12_via_44 hl (by decide) rfl (fun ls hl => ?_)
  refine lv_iconst (pc := 46) (v := 0) hx hb dX12_via_46 (by decide) ?_
  refine lv_istore (pc := 47) (lv' := [(6, .int (0 : Int32)), (5, .int y0), (0, .ref (ad 0)), (1, .int x1), (2, .int x2), (3, .int x3), (4, .int x4)]) hx hb dX12_via_47 hl (by decide) rfl (fun ls hl => ?_)
  refine lv_iconst (pc := 49) (v := 0) hx hb dX12_via_49 (by decide) ?_
  refine lv_istore (pc := 50) (lv' := [(7, .int (0 : Int32)), (6, .int (0 : Int32)), (5, .int y0), (0, .ref (ad 0)), (1, .int x1), (2, .int x2), (3, .int x3), (4, .int x4)]) hx hb dX12_via_50 hl (by decide) rfl (fun ls hl => ?_)
  exact w_M_via_L52 F (Nat.le_trans (by decide) hR1) (Nat.le_trans (by decide) hR2) _ _ _ _ _ _ _ _ _ h _ _ _ w (lv_sub hl [3, 4, 5, 6, 7, 2, 1, 0] rfl)
set_option maxRecDepth 100000 in
set_option maxHeartbeats 4000000 in
theorem m_M_via (a1 : Int32) (a2 : Int32) (a3 : Int32) (a4 : Int32) (S S' : SS) (r : Int32) (h : f_M_via a1 a2 a3 a4 S = some (r, S')) : MT yX12_via cX12_via 8 (some .int) 2 42 (fun ad => [.ref (ad 0), .int a1, .int a2, .int a3, .int a4]) S (some (.int r)) S' := by
  refine MT.of RX12 (fun ad => [(0, .ref (ad 0)), (1, .int a1), (2, .int a2), (3, .int a3), (4, .int a4)]) (by decide) rfl (fun _ => Nat.le_of_ble_eq_true rfl) (fun _ => rfl) ?_
  intro p l e R s m args below meth c dC dI cs ad A hR1 hR2 F H locs ls w hl
  have hx := F.1.1
  have hb := F.1.2.1
  rw [f_M_via] at h
  refine lv_iload_n (pc := 0) hx hb dX12_via_0 rfl (lv_at hl 3 rfl) ?_
  refine lv_if_lt (pc := 1) (tgt := 21) hx hb dX12_via_1 (by decide) (fun q => ?_) (fun q => ?_)
  · have h := ite_t q h
    refine lv_iconst (pc := 21) (v := -1) hx hb dX12_via_21 (by decide) ?_
    exact s_iret F w h dX12_via_22
  · have h := ite_f q h
    refine lv_iload_n (pc := 4) hx hb dX12_via_4 rfl (lv_at hl 3 rfl) ?_
    refine lv_iconst (pc := 5) (v := 2) hx hb dX12_via_5 (by decide) ?_
    refine lv_icmp_gt (pc := 6) (tgt := 21) hx hb dX12_via_6 (by decide) (fun q => ?_) (fun q => ?_)
    · have h := ite_t q h
      refine lv_iconst (pc := 21) (v := -1) hx hb dX12_via_21 (by decide) ?_
      exact s_iret F w h dX12_via_22
    · have h := ite_f q h
      refine lv_iload (pc := 9) hx hb dX12_via_9 (lv_at hl 4 rfl) ?_
      refine lv_if_lt (pc := 11) (tgt := 21) hx hb dX12_via_11 (by decide) (fun q => ?_) (fun q => ?_)
      · have h := ite_t q h
        refine lv_iconst (pc := 21) (v := -1) hx hb dX12_via_21 (by decide) ?_
        exact s_iret F w h dX12_via_22
      · have h := ite_f q h
        refine lv_iload (pc := 14) hx hb dX12_via_14 (lv_at hl 4 rfl) ?_
        refine lv_bipush (pc := 16) (v := 99) hx hb dX12_via_16 (by decide) ?_
        refine lv_icmp_le (pc := 18) (tgt := 23) hx hb dX12_via_18 (by decide) (fun q => ?_) (fun q => ?_)
        · have h := ite_t q h
          refine lv_aload_n (pc := 23) hx hb dX12_via_23 rfl (lv_at hl 0 rfl) ?_
          refine lv_iload_n (pc := 24) hx hb dX12_via_24 rfl (lv_at hl 1 rfl) ?_
          obtain ⟨r2, S1, hc, h⟩ := bnd_t h
          refine s_cvi (pc := 25) [.int a1] (fun ad => [.ref (ad 0), .int a1]) F w (m_M_missRoute _ _ _ _ hc) rfl rfl hl.1 ds_0 vc_X12 rfl ok_X12_missRoute rfl kc_X12_missRoute kl_X12_260 ki_X12_missRoute kv_X12_missRoute kn_X12 ⟨Nat.le_trans (by decide) hR1, Nat.le_trans (by decide) hR2⟩ ⟨Nat.zero_le _, Nat.zero_le _⟩ (Nat.le_of_ble_eq_true rfl) dX12_via_25 (fun H locs w => ?_)
          refine lv_if_eq (pc := 28) (tgt := 39) hx hb dX12_via_28 (by decide) (fun q => ?_) (fun q => ?_)
          · have h := ite_t q h
            refine lv_aload_n (pc := 39) hx hb dX12_via_39 rfl (lv_at hl 0 rfl) ?_
            refine lv_iload_n (pc := 40) hx hb dX12_via_40 rfl (lv_at hl 2 rfl) ?_
            obtain ⟨r4, S3, hc, h⟩ := bnd_t h
            refine s_cvi (pc := 41) [.int a2] (fun ad => [.ref (ad 0), .int a2]) F w (m_M_missPoint _ _ _ _ hc) rfl rfl hl.1 ds_0 vc_X12 rfl ok_X12_missPoint rfl kc_X12_missPoint kl_X12_263 ki_X12_missPoint kv_X12_missPoint kn_X12 ⟨Nat.le_trans (by decide) hR1, Nat.le_trans (by decide) hR2⟩ ⟨Nat.zero_le _, Nat.zero_le _⟩ (Nat.le_of_ble_eq_true rfl) dX12_via_41 (fun H locs w => ?_)
            exact w_M_via_j44 F (Nat.le_trans (by decide) hR1) (Nat.le_trans (by decide) hR2) _ _ _ _ _ _ h _ _ _ w (lv_sub hl [0, 1, 2, 3, 4] rfl)
          · have h := ite_f q h
            refine lv_aload_n (pc := 31) hx hb dX12_via_31 rfl (lv_at hl 0 rfl) ?_
            refine lv_iload_n (pc := 32) hx hb dX12_via_32 rfl (lv_at hl 1 rfl) ?_
            obtain ⟨r27, S26, hc, h⟩ := bnd_t h
            refine s_cvi (pc := 33) [.int a1] (fun ad => [.ref (ad 0), .int a1]) F w (m_M_missRoute _ _ _ _ hc) rfl rfl hl.1 ds_0 vc_X12 rfl ok_X12_missRoute rfl kc_X12_missRoute kl_X12_260 ki_X12_missRoute kv_X12_missRoute kn_X12 ⟨Nat.le_trans (by decide) hR1, Nat.le_trans (by decide) hR2⟩ ⟨Nat.zero_le _, Nat.zero_le _⟩ (Nat.le_of_ble_eq_true rfl) dX12_via_33 (fun H locs w => ?_)
            refine lv_goto (pc := 36) (tgt := 44) hx hb dX12_via_36 (by decide) ?_
            exact w_M_via_j44 F (Nat.le_trans (by decide) hR1) (Nat.le_trans (by decide) hR2) _ _ _ _ _ _ h _ _ _ w (lv_sub hl [0, 1, 2, 3, 4] rfl)
        · have h := ite_f q h
          refine lv_iconst (pc := 21) (v := -1) hx hb dX12_via_21 (by decide) ?_
          exact s_iret F w h dX12_via_22
