/-! ===== printed by wip/gen: M_trace M_restore M_undo M_back M_digest M_log M_room M_has_M_startMany_M_startOn ===== -/
def f_M_trace (a1 : Int32) (S : SS) : Option (Int32 × SS) :=
  if 0 ≤ a1 then
    if (S.1 0 5) ≤ a1 then
      some ((-4 : Int32), S)
    else
      grd (inb a1 200) (
      some (S.1 2 a1.toNatClampNeg, S))
  else
    some ((-1 : Int32), S)
theorem dX12_trace_0 : decode cX12_trace 0 = .ok (.iload_n 1, 1) := dc_27 (by decide +kernel)
theorem dX12_trace_1 : decode cX12_trace 1 = .ok (.ifCond .ge 7, 3) := dc_156 (a := 0) (b := 7) (by decide +kernel) (by decide)
theorem dX12_trace_4 : decode cX12_trace 4 = .ok (.iconst (-1), 1) := dc_2 (by decide +kernel)
theorem dX12_trace_5 : decode cX12_trace 5 = .ok (.goto 22, 3) := dc_167 (a := 0) (b := 22) (by decide +kernel) (by decide)
theorem dX12_trace_8 : decode cX12_trace 8 = .ok (.iload_n 1, 1) := dc_27 (by decide +kernel)
theorem dX12_trace_9 : decode cX12_trace 9 = .ok (.aload_n 0, 1) := dc_42 (by decide +kernel)
theorem dX12_trace_10 : decode cX12_trace 10 = .ok (.getfield 207, 3) := dc_180 (a := 0) (b := 207) (by decide +kernel)
theorem dX12_trace_13 : decode cX12_trace 13 = .ok (.if_icmp .ge 12, 3) := dc_162 (a := 0) (b := 12) (by decide +kernel) (by decide)
theorem dX12_trace_16 : decode cX12_trace 16 = .ok (.aload_n 0, 1) := dc_42 (by decide +kernel)
theorem dX12_trace_17 : decode cX12_trace 17 = .ok (.getfield 20, 3) := dc_180 (a := 0) (b := 20) (by decide +kernel)
theorem dX12_trace_20 : decode cX12_trace 20 = .ok (.iload_n 1, 1) := dc_27 (by decide +kernel)
theorem dX12_trace_21 : decode cX12_trace 21 = .ok (.iaload, 1) := dc_46 (by decide +kernel)
theorem dX12_trace_22 : decode cX12_trace 22 = .ok (.goto 5, 3) := dc_167 (a := 0) (b := 5) (by decide +kernel) (by decide)
theorem dX12_trace_25 : decode cX12_trace 25 = .ok (.bipush (-4), 2) := dc_16 (a := 252) (by decide +kernel) (by decide)
theorem dX12_trace_27 : decode cX12_trace 27 = .ok (.ireturn, 1) := dc_172 (by decide +kernel)
set_option maxRecDepth 100000 in
set_option maxHeartbeats 4000000 in
theorem m_M_trace (a1 : Int32) (S S' : SS) (r : Int32) (h : f_M_trace a1 S = some (r, S')) : MT yX12_trace cX12_trace 2 (some .int) 0 0 (fun ad => [.ref (ad 0), .int a1]) S (some (.int r)) S' := by
  refine MT.of RX12 (fun ad => [(0, .ref (ad 0)), (1, .int a1)]) (by decide) rfl (fun _ => Nat.le_of_ble_eq_true rfl) (fun _ => rfl) ?_
  intro p l e R s m args below meth c dC dI cs ad A hR1 hR2 F H locs ls w hl
  have hx := F.1.1
  have hb := F.1.2.1
  rw [f_M_trace] at h
  refine lv_iload_n (pc := 0) hx hb dX12_trace_0 rfl (lv_at hl 1 rfl) ?_
  refine lv_if_ge (pc := 1) (tgt := 8) hx hb dX12_trace_1 (by decide) (fun q => ?_) (fun q => ?_)
  · have h := ite_t q h
    refine lv_iload_n (pc := 8) hx hb dX12_trace_8 rfl (lv_at hl 1 rfl) ?_
    refine lv_aload_n (pc := 9) hx hb dX12_trace_9 rfl (lv_at hl 0 rfl) ?_
    refine s_getI (pc := 10) F w ds_0 (j := 5) vc_X12 vi_X12 rfl (by decide) kf_X12_207 dX12_trace_10 ?_
    refine lv_icmp_ge (pc := 13) (tgt := 25) hx hb dX12_trace_13 (by decide) (fun q => ?_) (fun q => ?_)
    · have h := ite_t q h
      refine lv_bipush (pc := 25) (v := -4) hx hb dX12_trace_25 (by decide) ?_
      exact s_iret F w h dX12_trace_27
    · have h := ite_f q h
      refine lv_aload_n (pc := 16) hx hb dX12_trace_16 rfl (lv_at hl 0 rfl) ?_
      refine s_getR (pc := 17) F w 2 ds_0 (j := 6) vc_X12 vi_X12 rfl (by decide) kf_X12_20 dX12_trace_17 ?_
      refine lv_iload_n (pc := 20) hx hb dX12_trace_20 rfl (lv_at hl 1 rfl) ?_
      refine s_iald (pc := 21) F w ds_2 h dX12_trace_21 (fun h => ?_)
      refine lv_goto (pc := 22) (tgt := 27) hx hb dX12_trace_22 (by decide) ?_
      exact s_iret F w h dX12_trace_27
  · have h := ite_f q h
    refine lv_iconst (pc := 4) (v := -1) hx hb dX12_trace_4 (by decide) ?_
    refine lv_goto (pc := 5) (tgt := 27) hx hb dX12_trace_5 (by decide) ?_
    exact s_iret F w h dX12_trace_27
def f_M_restore_L275  : Nat → Int32 → Int32 → SS → Option (SS)
  | 0, _, _, _ => none
  | n + 1, x2, x3, S =>
    if (40 : Int32) ≤ x3 then
      grd (inb x2 18576) (
      wr S 0 48 (S.1 40 x2.toNatClampNeg) (fun S2 =>
      some S2))
    else
      grd (inb x2 18576) (
      grd (inb x3 40) (wr S 10 x3.toNatClampNeg (S.1 40 x2.toNatClampNeg) (fun S3 =>
      grd (inb (x2 + (1 : Int32)) 18576) (
      grd (inb x3 40) (wr S3 11 x3.toNatClampNeg (S3.1 40 (x2 + (1 : Int32)).toNatClampNeg) (fun S4 =>
      nm (x2 + (2 : Int32)) (fun z5 =>
      nm (x3 + (1 : Int32)) (fun z6 =>
      f_M_restore_L275 n z5 z6 S4))))))))
def f_M_restore_j263 (K8 : Int32 → Int32 → SS → Option (SS)) (x2 : Int32) (x3 : Int32) (y0 : Int32) (y1 : Int32) (S : SS) : Option (SS) :=
    grd (inb y1 72) (wr S 34 y1.toNatClampNeg (vp_nar .boolean y0) (fun S21 =>
    nm (x2 + (15 : Int32)) (fun z22 =>
    nm (x3 + (1 : Int32)) (fun z23 =>
    K8 z22 z23 S21))))
def f_M_restore_j209 (K8 : Int32 → Int32 → SS → Option (SS)) (x2 : Int32) (x3 : Int32) (y0 : Int32) (y1 : Int32) (S : SS) : Option (SS) :=
    grd (inb y1 72) (wr S 31 y1.toNatClampNeg (vp_nar .boolean y0) (fun S18 =>
    grd (inb (x2 + (12 : Int32)) 18576) (
    grd (inb x3 72) (wr S18 32 x3.toNatClampNeg (S18.1 40 (x2 + (12 : Int32)).toNatClampNeg) (fun S19 =>
    grd (inb (x2 + (13 : Int32)) 18576) (
    grd (inb x3 72) (wr S19 33 x3.toNatClampNeg (S19.1 40 (x2 + (13 : Int32)).toNatClampNeg) (fun S20 =>
    grd (inb (x2 + (14 : Int32)) 18576) (
    if (S20.1 40 (x2 + (14 : Int32)).toNatClampNeg) = (1 : Int32) then
      f_M_restore_j263 K8 x2 x3 (1 : Int32) x3 S20
    else
      f_M_restore_j263 K8 x2 x3 (0 : Int32) x3 S20)))))))))
def f_M_restore_j34 (K8 : Int32 → Int32 → SS → Option (SS)) (x2 : Int32) (x3 : Int32) (y0 : Int32) (y1 : Int32) (S : SS) : Option (SS) :=
    grd (inb y1 72) (wr S 19 y1.toNatClampNeg (vp_nar .boolean y0) (fun S7 =>
    grd (inb (x2 + (1 : Int32)) 18576) (
    grd (inb x3 72) (wr S7 20 x3.toNatClampNeg (S7.1 40 (x2 + (1 : Int32)).toNatClampNeg) (fun S8 =>
    grd (inb (x2 + (2 : Int32)) 18576) (
    grd (inb x3 72) (wr S8 21 x3.toNatClampNeg (S8.1 40 (x2 + (2 : Int32)).toNatClampNeg) (fun S9 =>
    grd (inb (x2 + (3 : Int32)) 18576) (
    grd (inb x3 72) (wr S9 22 x3.toNatClampNeg (S9.1 40 (x2 + (3 : Int32)).toNatClampNeg) (fun S10 =>
    grd (inb (x2 + (4 : Int32)) 18576) (
    grd (inb ((2 : Int32) * x3) 144) (wr S10 23 ((2 : Int32) * x3).toNatClampNeg (S10.1 40 (x2 + (4 : Int32)).toNatClampNeg) (fun S11 =>
    grd (inb (x2 + (5 : Int32)) 18576) (
    grd (inb (((2 : Int32) * x3) + (1 : Int32)) 144) (wr S11 23 (((2 : Int32) * x3) + (1 : Int32)).toNatClampNeg (S11.1 40 (x2 + (5 : Int32)).toNatClampNeg) (fun S12 =>
    grd (inb (x2 + (6 : Int32)) 18576) (
    grd (inb x3 72) (wr S12 24 x3.toNatClampNeg (S12.1 40 (x2 + (6 : Int32)).toNatClampNeg) (fun S13 =>
    grd (inb (x2 + (7 : Int32)) 18576) (
    grd (inb x3 72) (wr S13 25 x3.toNatClampNeg (S13.1 40 (x2 + (7 : Int32)).toNatClampNeg) (fun S14 =>
    grd (inb (x2 + (8 : Int32)) 18576) (
    grd (inb x3 72) (wr S14 26 x3.toNatClampNeg (S14.1 40 (x2 + (8 : Int32)).toNatClampNeg) (fun S15 =>
    grd (inb (x2 + (9 : Int32)) 18576) (
    grd (inb x3 72) (wr S15 27 x3.toNatClampNeg (S15.1 40 (x2 + (9 : Int32)).toNatClampNeg) (fun S16 =>
    grd (inb (x2 + (10 : Int32)) 18576) (
    grd (inb x3 72) (wr S16 30 x3.toNatClampNeg (S16.1 40 (x2 + (10 : Int32)).toNatClampNeg) (fun S17 =>
    grd (inb (x2 + (11 : Int32)) 18576) (
    if (S17.1 40 (x2 + (11 : Int32)).toNatClampNeg) = (1 : Int32) then
      f_M_restore_j209 K8 x2 x3 (1 : Int32) x3 S17
    else
      f_M_restore_j209 K8 x2 x3 (0 : Int32) x3 S17)))))))))))))))))))))))))))))))))
def f_M_restore_L8  : Nat → Int32 → Int32 → SS → Option (SS)
  | 0, _, _, _ => none
  | n + 1, x2, x3, S =>
    if (72 : Int32) ≤ x3 then
      f_M_restore_L275 NF x2 (0 : Int32) S
    else
      grd (inb x2 18576) (
      if (S.1 40 x2.toNatClampNeg) = (1 : Int32) then
        f_M_restore_j34 (fun v0 v1 S => f_M_restore_L8 n v0 v1 S) x2 x3 (1 : Int32) x3 S
      else
        f_M_restore_j34 (fun v0 v1 S => f_M_restore_L8 n v0 v1 S) x2 x3 (0 : Int32) x3 S)
def f_M_restore (a1 : Int32) (S : SS) : Option (SS) :=
  nm ((1161 : Int32) * a1) (fun z1 =>
  f_M_restore_L8 NF z1 (0 : Int32) S)
theorem dX12_restore_0 : decode cX12_restore 0 = .ok (.sipush 1161, 3) := dc_17 (a := 4) (b := 137) (by decide +kernel) (by decide)
theorem dX12_restore_3 : decode cX12_restore 3 = .ok (.iload_n 1, 1) := dc_27 (by decide +kernel)
theorem dX12_restore_4 : decode cX12_restore 4 = .ok (.imul, 1) := dc_104 (by decide +kernel)
theorem dX12_restore_5 : decode cX12_restore 5 = .ok (.istore_n 2, 1) := dc_61 (by decide +kernel)
theorem dX12_restore_6 : decode cX12_restore 6 = .ok (.iconst 0, 1) := dc_3 (by decide +kernel)
theorem dX12_restore_7 : decode cX12_restore 7 = .ok (.istore_n 3, 1) := dc_62 (by decide +kernel)
theorem dX12_restore_8 : decode cX12_restore 8 = .ok (.iload_n 3, 1) := dc_29 (by decide +kernel)
theorem dX12_restore_9 : decode cX12_restore 9 = .ok (.bipush 72, 2) := dc_16 (a := 72) (by decide +kernel) (by decide)
theorem dX12_restore_11 : decode cX12_restore 11 = .ok (.if_icmp .ge 262, 3) := dc_162 (a := 1) (b := 6) (by decide +kernel) (by decide)
theorem dX12_restore_14 : decode cX12_restore 14 = .ok (.aload_n 0, 1) := dc_42 (by decide +kernel)
theorem dX12_restore_15 : decode cX12_restore 15 = .ok (.getfield 72, 3) := dc_180 (a := 0) (b := 72) (by decide +kernel)
theorem dX12_restore_18 : decode cX12_restore 18 = .ok (.iload_n 3, 1) := dc_29 (by decide +kernel)
theorem dX12_restore_19 : decode cX12_restore 19 = .ok (.aload_n 0, 1) := dc_42 (by decide +kernel)
theorem dX12_restore_20 : decode cX12_restore 20 = .ok (.getfield 135, 3) := dc_180 (a := 0) (b := 135) (by decide +kernel)
theorem dX12_restore_23 : decode cX12_restore 23 = .ok (.iload_n 2, 1) := dc_28 (by decide +kernel)
theorem dX12_restore_24 : decode cX12_restore 24 = .ok (.iaload, 1) := dc_46 (by decide +kernel)
theorem dX12_restore_25 : decode cX12_restore 25 = .ok (.iconst 1, 1) := dc_4 (by decide +kernel)
theorem dX12_restore_26 : decode cX12_restore 26 = .ok (.if_icmp .ne 7, 3) := dc_160 (a := 0) (b := 7) (by decide +kernel) (by decide)
theorem dX12_restore_29 : decode cX12_restore 29 = .ok (.iconst 1, 1) := dc_4 (by decide +kernel)
theorem dX12_restore_30 : decode cX12_restore 30 = .ok (.goto 4, 3) := dc_167 (a := 0) (b := 4) (by decide +kernel) (by decide)
theorem dX12_restore_33 : decode cX12_restore 33 = .ok (.iconst 0, 1) := dc_3 (by decide +kernel)
theorem dX12_restore_34 : decode cX12_restore 34 = .ok (.bastore, 1) := dc_84 (by decide +kernel)
theorem dX12_restore_35 : decode cX12_restore 35 = .ok (.aload_n 0, 1) := dc_42 (by decide +kernel)
theorem dX12_restore_36 : decode cX12_restore 36 = .ok (.getfield 75, 3) := dc_180 (a := 0) (b := 75) (by decide +kernel)
theorem dX12_restore_39 : decode cX12_restore 39 = .ok (.iload_n 3, 1) := dc_29 (by decide +kernel)
theorem dX12_restore_40 : decode cX12_restore 40 = .ok (.aload_n 0, 1) := dc_42 (by decide +kernel)
theorem dX12_restore_41 : decode cX12_restore 41 = .ok (.getfield 135, 3) := dc_180 (a := 0) (b := 135) (by decide +kernel)
theorem dX12_restore_44 : decode cX12_restore 44 = .ok (.iload_n 2, 1) := dc_28 (by decide +kernel)
theorem dX12_restore_45 : decode cX12_restore 45 = .ok (.iconst 1, 1) := dc_4 (by decide +kernel)
theorem dX12_restore_46 : decode cX12_restore 46 = .ok (.iadd, 1) := dc_96 (by decide +kernel)
theorem dX12_restore_47 : decode cX12_restore 47 = .ok (.iaload, 1) := dc_46 (by decide +kernel)
theorem dX12_restore_48 : decode cX12_restore 48 = .ok (.iastore, 1) := dc_79 (by decide +kernel)
theorem dX12_restore_49 : decode cX12_restore 49 = .ok (.aload_n 0, 1) := dc_42 (by decide +kernel)
theorem dX12_restore_50 : decode cX12_restore 50 = .ok (.getfield 78, 3) := dc_180 (a := 0) (b := 78) (by decide +kernel)
theorem dX12_restore_53 : decode cX12_restore 53 = .ok (.iload_n 3, 1) := dc_29 (by decide +kernel)
theorem dX12_restore_54 : decode cX12_restore 54 = .ok (.aload_n 0, 1) := dc_42 (by decide +kernel)
theorem dX12_restore_55 : decode cX12_restore 55 = .ok (.getfield 135, 3) := dc_180 (a := 0) (b := 135) (by decide +kernel)
theorem dX12_restore_58 : decode cX12_restore 58 = .ok (.iload_n 2, 1) := dc_28 (by decide +kernel)
theorem dX12_restore_59 : decode cX12_restore 59 = .ok (.iconst 2, 1) := dc_5 (by decide +kernel)
theorem dX12_restore_60 : decode cX12_restore 60 = .ok (.iadd, 1) := dc_96 (by decide +kernel)
theorem dX12_restore_61 : decode cX12_restore 61 = .ok (.iaload, 1) := dc_46 (by decide +kernel)
theorem dX12_restore_62 : decode cX12_restore 62 = .ok (.iastore, 1) := dc_79 (by decide +kernel)
theorem dX12_restore_63 : decode cX12_restore 63 = .ok (.aload_n 0, 1) := dc_42 (by decide +kernel)
theorem dX12_restore_64 : decode cX12_restore 64 = .ok (.getfield 81, 3) := dc_180 (a := 0) (b := 81) (by decide +kernel)
theorem dX12_restore_67 : decode cX12_restore 67 = .ok (.iload_n 3, 1) := dc_29 (by decide +kernel)
theorem dX12_restore_68 : decode cX12_restore 68 = .ok (.aload_n 0, 1) := dc_42 (by decide +kernel)
theorem dX12_restore_69 : decode cX12_restore 69 = .ok (.getfield 135, 3) := dc_180 (a := 0) (b := 135) (by decide +kernel)
theorem dX12_restore_72 : decode cX12_restore 72 = .ok (.iload_n 2, 1) := dc_28 (by decide +kernel)
theorem dX12_restore_73 : decode cX12_restore 73 = .ok (.iconst 3, 1) := dc_6 (by decide +kernel)
theorem dX12_restore_74 : decode cX12_restore 74 = .ok (.iadd, 1) := dc_96 (by decide +kernel)
theorem dX12_restore_75 : decode cX12_restore 75 = .ok (.iaload, 1) := dc_46 (by decide +kernel)
theorem dX12_restore_76 : decode cX12_restore 76 = .ok (.iastore, 1) := dc_79 (by decide +kernel)
theorem dX12_restore_77 : decode cX12_restore 77 = .ok (.aload_n 0, 1) := dc_42 (by decide +kernel)
theorem dX12_restore_78 : decode cX12_restore 78 = .ok (.getfield 84, 3) := dc_180 (a := 0) (b := 84) (by decide +kernel)
theorem dX12_restore_81 : decode cX12_restore 81 = .ok (.iconst 2, 1) := dc_5 (by decide +kernel)
theorem dX12_restore_82 : decode cX12_restore 82 = .ok (.iload_n 3, 1) := dc_29 (by decide +kernel)
theorem dX12_restore_83 : decode cX12_restore 83 = .ok (.imul, 1) := dc_104 (by decide +kernel)
theorem dX12_restore_84 : decode cX12_restore 84 = .ok (.aload_n 0, 1) := dc_42 (by decide +kernel)
theorem dX12_restore_85 : decode cX12_restore 85 = .ok (.getfield 135, 3) := dc_180 (a := 0) (b := 135) (by decide +kernel)
theorem dX12_restore_88 : decode cX12_restore 88 = .ok (.iload_n 2, 1) := dc_28 (by decide +kernel)
theorem dX12_restore_89 : decode cX12_restore 89 = .ok (.iconst 4, 1) := dc_7 (by decide +kernel)
theorem dX12_restore_90 : decode cX12_restore 90 = .ok (.iadd, 1) := dc_96 (by decide +kernel)
theorem dX12_restore_91 : decode cX12_restore 91 = .ok (.iaload, 1) := dc_46 (by decide +kernel)
theorem dX12_restore_92 : decode cX12_restore 92 = .ok (.iastore, 1) := dc_79 (by decide +kernel)
theorem dX12_restore_93 : decode cX12_restore 93 = .ok (.aload_n 0, 1) := dc_42 (by decide +kernel)
theorem dX12_restore_94 : decode cX12_restore 94 = .ok (.getfield 84, 3) := dc_180 (a := 0) (b := 84) (by decide +kernel)
theorem dX12_restore_97 : decode cX12_restore 97 = .ok (.iconst 2, 1) := dc_5 (by decide +kernel)
theorem dX12_restore_98 : decode cX12_restore 98 = .ok (.iload_n 3, 1) := dc_29 (by decide +kernel)
theorem dX12_restore_99 : decode cX12_restore 99 = .ok (.imul, 1) := dc_104 (by decide +kernel)
theorem dX12_restore_100 : decode cX12_restore 100 = .ok (.iconst 1, 1) := dc_4 (by decide +kernel)
theorem dX12_restore_101 : decode cX12_restore 101 = .ok (.iadd, 1) := dc_96 (by decide +kernel)
theorem dX12_restore_102 : decode cX12_restore 102 = .ok (.aload_n 0, 1) := dc_42 (by decide +kernel)
theorem dX12_restore_103 : decode cX12_restore 103 = .ok (.getfield 135, 3) := dc_180 (a := 0) (b := 135) (by decide +kernel)
theorem dX12_restore_106 : decode cX12_restore 106 = .ok (.iload_n 2, 1) := dc_28 (by decide +kernel)
theorem dX12_restore_107 : decode cX12_restore 107 = .ok (.iconst 5, 1) := dc_8 (by decide +kernel)
theorem dX12_restore_108 : decode cX12_restore 108 = .ok (.iadd, 1) := dc_96 (by decide +kernel)
theorem dX12_restore_109 : decode cX12_restore 109 = .ok (.iaload, 1) := dc_46 (by decide +kernel)
theorem dX12_restore_110 : decode cX12_restore 110 = .ok (.iastore, 1) := dc_79 (by decide +kernel)
theorem dX12_restore_111 : decode cX12_restore 111 = .ok (.aload_n 0, 1) := dc_42 (by decide +kernel)
theorem dX12_restore_112 : decode cX12_restore 112 = .ok (.getfield 87, 3) := dc_180 (a := 0) (b := 87) (by decide +kernel)
theorem dX12_restore_115 : decode cX12_restore 115 = .ok (.iload_n 3, 1) := dc_29 (by decide +kernel)
theorem dX12_restore_116 : decode cX12_restore 116 = .ok (.aload_n 0, 1) := dc_42 (by decide +kernel)
theorem dX12_restore_117 : decode cX12_restore 117 = .ok (.getfield 135, 3) := dc_180 (a := 0) (b := 135) (by decide +kernel)
theorem dX12_restore_120 : decode cX12_restore 120 = .ok (.iload_n 2, 1) := dc_28 (by decide +kernel)
theorem dX12_restore_121 : decode cX12_restore 121 = .ok (.bipush 6, 2) := dc_16 (a := 6) (by decide +kernel) (by decide)
theorem dX12_restore_123 : decode cX12_restore 123 = .ok (.iadd, 1) := dc_96 (by decide +kernel)
theorem dX12_restore_124 : decode cX12_restore 124 = .ok (.iaload, 1) := dc_46 (by decide +kernel)
theorem dX12_restore_125 : decode cX12_restore 125 = .ok (.iastore, 1) := dc_79 (by decide +kernel)
theorem dX12_restore_126 : decode cX12_restore 126 = .ok (.aload_n 0, 1) := dc_42 (by decide +kernel)
theorem dX12_restore_127 : decode cX12_restore 127 = .ok (.getfield 90, 3) := dc_180 (a := 0) (b := 90) (by decide +kernel)
theorem dX12_restore_130 : decode cX12_restore 130 = .ok (.iload_n 3, 1) := dc_29 (by decide +kernel)
theorem dX12_restore_131 : decode cX12_restore 131 = .ok (.aload_n 0, 1) := dc_42 (by decide +kernel)
theorem dX12_restore_132 : decode cX12_restore 132 = .ok (.getfield 135, 3) := dc_180 (a := 0) (b := 135) (by decide +kernel)
theorem dX12_restore_135 : decode cX12_restore 135 = .ok (.iload_n 2, 1) := dc_28 (by decide +kernel)
theorem dX12_restore_136 : decode cX12_restore 136 = .ok (.bipush 7, 2) := dc_16 (a := 7) (by decide +kernel) (by decide)
theorem dX12_restore_138 : decode cX12_restore 138 = .ok (.iadd, 1) := dc_96 (by decide +kernel)
theorem dX12_restore_139 : decode cX12_restore 139 = .ok (.iaload, 1) := dc_46 (by decide +kernel)
theorem dX12_restore_140 : decode cX12_restore 140 = .ok (.iastore, 1) := dc_79 (by decide +kernel)
theorem dX12_restore_141 : decode cX12_restore 141 = .ok (.aload_n 0, 1) := dc_42 (by decide +kernel)
theorem dX12_restore_142 : decode cX12_restore 142 = .ok (.getfield 93, 3) := dc_180 (a := 0) (b := 93) (by decide +kernel)
theorem dX12_restore_145 : decode cX12_restore 145 = .ok (.iload_n 3, 1) := dc_29 (by decide +kernel)
theorem dX12_restore_146 : decode cX12_restore 146 = .ok (.aload_n 0, 1) := dc_42 (by decide +kernel)
theorem dX12_restore_147 : decode cX12_restore 147 = .ok (.getfield 135, 3) := dc_180 (a := 0) (b := 135) (by decide +kernel)
theorem dX12_restore_150 : decode cX12_restore 150 = .ok (.iload_n 2, 1) := dc_28 (by decide +kernel)
theorem dX12_restore_151 : decode cX12_restore 151 = .ok (.bipush 8, 2) := dc_16 (a := 8) (by decide +kernel) (by decide)
theorem dX12_restore_153 : decode cX12_restore 153 = .ok (.iadd, 1) := dc_96 (by decide +kernel)
theorem dX12_restore_154 : decode cX12_restore 154 = .ok (.iaload, 1) := dc_46 (by decide +kernel)
theorem dX12_restore_155 : decode cX12_restore 155 = .ok (.iastore, 1) := dc_79 (by decide +kernel)
theorem dX12_restore_156 : decode cX12_restore 156 = .ok (.aload_n 0, 1) := dc_42 (by decide +kernel)
theorem dX12_restore_157 : decode cX12_restore 157 = .ok (.getfield 96, 3) := dc_180 (a := 0) (b := 96) (by decide +kernel)
theorem dX12_restore_160 : decode cX12_restore 160 = .ok (.iload_n 3, 1) := dc_29 (by decide +kernel)
theorem dX12_restore_161 : decode cX12_restore 161 = .ok (.aload_n 0, 1) := dc_42 (by decide +kernel)
theorem dX12_restore_162 : decode cX12_restore 162 = .ok (.getfield 135, 3) := dc_180 (a := 0) (b := 135) (by decide +kernel)
theorem dX12_restore_165 : decode cX12_restore 165 = .ok (.iload_n 2, 1) := dc_28 (by decide +kernel)
theorem dX12_restore_166 : decode cX12_restore 166 = .ok (.bipush 9, 2) := dc_16 (a := 9) (by decide +kernel) (by decide)
theorem dX12_restore_168 : decode cX12_restore 168 = .ok (.iadd, 1) := dc_96 (by decide +kernel)
theorem dX12_restore_169 : decode cX12_restore 169 = .ok (.iaload, 1) := dc_46 (by decide +kernel)
theorem dX12_restore_170 : decode cX12_restore 170 = .ok (.iastore, 1) := dc_79 (by decide +kernel)
theorem dX12_restore_171 : decode cX12_restore 171 = .ok (.aload_n 0, 1) := dc_42 (by decide +kernel)
theorem dX12_restore_172 : decode cX12_restore 172 = .ok (.getfield 105, 3) := dc_180 (a := 0) (b := 105) (by decide +kernel)
theorem dX12_restore_175 : decode cX12_restore 175 = .ok (.iload_n 3, 1) := dc_29 (by decide +kernel)
theorem dX12_restore_176 : decode cX12_restore 176 = .ok (.aload_n 0, 1) := dc_42 (by decide +kernel)
theorem dX12_restore_177 : decode cX12_restore 177 = .ok (.getfield 135, 3) := dc_180 (a := 0) (b := 135) (by decide +kernel)
theorem dX12_restore_180 : decode cX12_restore 180 = .ok (.iload_n 2, 1) := dc_28 (by decide +kernel)
theorem dX12_restore_181 : decode cX12_restore 181 = .ok (.bipush 10, 2) := dc_16 (a := 10) (by decide +kernel) (by decide)
theorem dX12_restore_183 : decode cX12_restore 183 = .ok (.iadd, 1) := dc_96 (by decide +kernel)
theorem dX12_restore_184 : decode cX12_restore 184 = .ok (.iaload, 1) := dc_46 (by decide +kernel)
theorem dX12_restore_185 : decode cX12_restore 185 = .ok (.iastore, 1) := dc_79 (by decide +kernel)
theorem dX12_restore_186 : decode cX12_restore 186 = .ok (.aload_n 0, 1) := dc_42 (by decide +kernel)
theorem dX12_restore_187 : decode cX12_restore 187 = .ok (.getfield 108, 3) := dc_180 (a := 0) (b := 108) (by decide +kernel)
theorem dX12_restore_190 : decode cX12_restore 190 = .ok (.iload_n 3, 1) := dc_29 (by decide +kernel)
theorem dX12_restore_191 : decode cX12_restore 191 = .ok (.aload_n 0, 1) := dc_42 (by decide +kernel)
theorem dX12_restore_192 : decode cX12_restore 192 = .ok (.getfield 135, 3) := dc_180 (a := 0) (b := 135) (by decide +kernel)
theorem dX12_restore_195 : decode cX12_restore 195 = .ok (.iload_n 2, 1) := dc_28 (by decide +kernel)
theorem dX12_restore_196 : decode cX12_restore 196 = .ok (.bipush 11, 2) := dc_16 (a := 11) (by decide +kernel) (by decide)
theorem dX12_restore_198 : decode cX12_restore 198 = .ok (.iadd, 1) := dc_96 (by decide +kernel)
theorem dX12_restore_199 : decode cX12_restore 199 = .ok (.iaload, 1) := dc_46 (by decide +kernel)
theorem dX12_restore_200 : decode cX12_restore 200 = .ok (.iconst 1, 1) := dc_4 (by decide +kernel)
theorem dX12_restore_201 : decode cX12_restore 201 = .ok (.if_icmp .ne 7, 3) := dc_160 (a := 0) (b := 7) (by decide +kernel) (by decide)
theorem dX12_restore_204 : decode cX12_restore 204 = .ok (.iconst 1, 1) := dc_4 (by decide +kernel)
theorem dX12_restore_205 : decode cX12_restore 205 = .ok (.goto 4, 3) := dc_167 (a := 0) (b := 4) (by decide +kernel) (by decide)
theorem dX12_restore_208 : decode cX12_restore 208 = .ok (.iconst 0, 1) := dc_3 (by decide +kernel)
theorem dX12_restore_209 : decode cX12_restore 209 = .ok (.bastore, 1) := dc_84 (by decide +kernel)
theorem dX12_restore_210 : decode cX12_restore 210 = .ok (.aload_n 0, 1) := dc_42 (by decide +kernel)
theorem dX12_restore_211 : decode cX12_restore 211 = .ok (.getfield 111, 3) := dc_180 (a := 0) (b := 111) (by decide +kernel)
theorem dX12_restore_214 : decode cX12_restore 214 = .ok (.iload_n 3, 1) := dc_29 (by decide +kernel)
theorem dX12_restore_215 : decode cX12_restore 215 = .ok (.aload_n 0, 1) := dc_42 (by decide +kernel)
theorem dX12_restore_216 : decode cX12_restore 216 = .ok (.getfield 135, 3) := dc_180 (a := 0) (b := 135) (by decide +kernel)
theorem dX12_restore_219 : decode cX12_restore 219 = .ok (.iload_n 2, 1) := dc_28 (by decide +kernel)
theorem dX12_restore_220 : decode cX12_restore 220 = .ok (.bipush 12, 2) := dc_16 (a := 12) (by decide +kernel) (by decide)
theorem dX12_restore_222 : decode cX12_restore 222 = .ok (.iadd, 1) := dc_96 (by decide +kernel)
theorem dX12_restore_223 : decode cX12_restore 223 = .ok (.iaload, 1) := dc_46 (by decide +kernel)
theorem dX12_restore_224 : decode cX12_restore 224 = .ok (.iastore, 1) := dc_79 (by decide +kernel)
theorem dX12_restore_225 : decode cX12_restore 225 = .ok (.aload_n 0, 1) := dc_42 (by decide +kernel)
theorem dX12_restore_226 : decode cX12_restore 226 = .ok (.getfield 114, 3) := dc_180 (a := 0) (b := 114) (by decide +kernel)
theorem dX12_restore_229 : decode cX12_restore 229 = .ok (.iload_n 3, 1) := dc_29 (by decide +kernel)
theorem dX12_restore_230 : decode cX12_restore 230 = .ok (.aload_n 0, 1) := dc_42 (by decide +kernel)
theorem dX12_restore_231 : decode cX12_restore 231 = .ok (.getfield 135, 3) := dc_180 (a := 0) (b := 135) (by decide +kernel)
theorem dX12_restore_234 : decode cX12_restore 234 = .ok (.iload_n 2, 1) := dc_28 (by decide +kernel)
theorem dX12_restore_235 : decode cX12_restore 235 = .ok (.bipush 13, 2) := dc_16 (a := 13) (by decide +kernel) (by decide)
theorem dX12_restore_237 : decode cX12_restore 237 = .ok (.iadd, 1) := dc_96 (by decide +kernel)
theorem dX12_restore_238 : decode cX12_restore 238 = .ok (.iaload, 1) := dc_46 (by decide +kernel)
theorem dX12_restore_239 : decode cX12_restore 239 = .ok (.iastore, 1) := dc_79 (by decide +kernel)
theorem dX12_restore_240 : decode cX12_restore 240 = .ok (.aload_n 0, 1) := dc_42 (by decide +kernel)
theorem dX12_restore_241 : decode cX12_restore 241 = .ok (.getfield 117, 3) := dc_180 (a := 0) (b := 117) (by decide +kernel)
theorem dX12_restore_244 : decode cX12_restore 244 = .ok (.iload_n 3, 1) := dc_29 (by decide +kernel)
theorem dX12_restore_245 : decode cX12_restore 245 = .ok (.aload_n 0, 1) := dc_42 (by decide +kernel)
theorem dX12_restore_246 : decode cX12_restore 246 = .ok (.getfield 135, 3) := dc_180 (a := 0) (b := 135) (by decide +kernel)
theorem dX12_restore_249 : decode cX12_restore 249 = .ok (.iload_n 2, 1) := dc_28 (by decide +kernel)
theorem dX12_restore_250 : decode cX12_restore 250 = .ok (.bipush 14, 2) := dc_16 (a := 14) (by decide +kernel) (by decide)
theorem dX12_restore_252 : decode cX12_restore 252 = .ok (.iadd, 1) := dc_96 (by decide +kernel)
theorem dX12_restore_253 : decode cX12_restore 253 = .ok (.iaload, 1) := dc_46 (by decide +kernel)
theorem dX12_restore_254 : decode cX12_restore 254 = .ok (.iconst 1, 1) := dc_4 (by decide +kernel)
theorem dX12_restore_255 : decode cX12_restore 255 = .ok (.if_icmp .ne 7, 3) := dc_160 (a := 0) (b := 7) (by decide +kernel) (by decide)
theorem dX12_restore_258 : decode cX12_restore 258 = .ok (.iconst 1, 1) := dc_4 (by decide +kernel)
theorem dX12_restore_259 : decode cX12_restore 259 = .ok (.goto 4, 3) := dc_167 (a := 0) (b := 4) (by decide +kernel) (by decide)
theorem dX12_restore_262 : decode cX12_restore 262 = .ok (.iconst 0, 1) := dc_3 (by decide +kernel)
theorem dX12_restore_263 : decode cX12_restore 263 = .ok (.bastore, 1) := dc_84 (by decide +kernel)
theorem dX12_restore_264 : decode cX12_restore 264 = .ok (.iinc 2 15, 3) := dc_132 (a := 2) (b := 15) (by decide +kernel) (by decide)
theorem dX12_restore_267 : decode cX12_restore 267 = .ok (.iinc 3 1, 3) := dc_132 (a := 3) (b := 1) (by decide +kernel) (by decide)
theorem dX12_restore_270 : decode cX12_restore 270 = .ok (.goto (-262), 3) := dc_167 (a := 254) (b := 250) (by decide +kernel) (by decide)
theorem dX12_restore_273 : decode cX12_restore 273 = .ok (.iconst 0, 1) := dc_3 (by decide +kernel)
theorem dX12_restore_274 : decode cX12_restore 274 = .ok (.istore_n 3, 1) := dc_62 (by decide +kernel)
theorem dX12_restore_275 : decode cX12_restore 275 = .ok (.iload_n 3, 1) := dc_29 (by decide +kernel)
theorem dX12_restore_276 : decode cX12_restore 276 = .ok (.bipush 40, 2) := dc_16 (a := 40) (by decide +kernel) (by decide)
theorem dX12_restore_278 : decode cX12_restore 278 = .ok (.if_icmp .ge 38, 3) := dc_162 (a := 0) (b := 38) (by decide +kernel) (by decide)
theorem dX12_restore_281 : decode cX12_restore 281 = .ok (.aload_n 0, 1) := dc_42 (by decide +kernel)
theorem dX12_restore_282 : decode cX12_restore 282 = .ok (.getfield 45, 3) := dc_180 (a := 0) (b := 45) (by decide +kernel)
theorem dX12_restore_285 : decode cX12_restore 285 = .ok (.iload_n 3, 1) := dc_29 (by decide +kernel)
theorem dX12_restore_286 : decode cX12_restore 286 = .ok (.aload_n 0, 1) := dc_42 (by decide +kernel)
theorem dX12_restore_287 : decode cX12_restore 287 = .ok (.getfield 135, 3) := dc_180 (a := 0) (b := 135) (by decide +kernel)
theorem dX12_restore_290 : decode cX12_restore 290 = .ok (.iload_n 2, 1) := dc_28 (by decide +kernel)
theorem dX12_restore_291 : decode cX12_restore 291 = .ok (.iaload, 1) := dc_46 (by decide +kernel)
theorem dX12_restore_292 : decode cX12_restore 292 = .ok (.iastore, 1) := dc_79 (by decide +kernel)
theorem dX12_restore_293 : decode cX12_restore 293 = .ok (.aload_n 0, 1) := dc_42 (by decide +kernel)
theorem dX12_restore_294 : decode cX12_restore 294 = .ok (.getfield 48, 3) := dc_180 (a := 0) (b := 48) (by decide +kernel)
theorem dX12_restore_297 : decode cX12_restore 297 = .ok (.iload_n 3, 1) := dc_29 (by decide +kernel)
theorem dX12_restore_298 : decode cX12_restore 298 = .ok (.aload_n 0, 1) := dc_42 (by decide +kernel)
theorem dX12_restore_299 : decode cX12_restore 299 = .ok (.getfield 135, 3) := dc_180 (a := 0) (b := 135) (by decide +kernel)
theorem dX12_restore_302 : decode cX12_restore 302 = .ok (.iload_n 2, 1) := dc_28 (by decide +kernel)
theorem dX12_restore_303 : decode cX12_restore 303 = .ok (.iconst 1, 1) := dc_4 (by decide +kernel)
theorem dX12_restore_304 : decode cX12_restore 304 = .ok (.iadd, 1) := dc_96 (by decide +kernel)
theorem dX12_restore_305 : decode cX12_restore 305 = .ok (.iaload, 1) := dc_46 (by decide +kernel)
theorem dX12_restore_306 : decode cX12_restore 306 = .ok (.iastore, 1) := dc_79 (by decide +kernel)
theorem dX12_restore_307 : decode cX12_restore 307 = .ok (.iinc 2 2, 3) := dc_132 (a := 2) (b := 2) (by decide +kernel) (by decide)
theorem dX12_restore_310 : decode cX12_restore 310 = .ok (.iinc 3 1, 3) := dc_132 (a := 3) (b := 1) (by decide +kernel) (by decide)
theorem dX12_restore_313 : decode cX12_restore 313 = .ok (.goto (-38), 3) := dc_167 (a := 255) (b := 218) (by decide +kernel) (by decide)
theorem dX12_restore_316 : decode cX12_restore 316 = .ok (.aload_n 0, 1) := dc_42 (by decide +kernel)
theorem dX12_restore_317 : decode cX12_restore 317 = .ok (.aload_n 0, 1) := dc_42 (by decide +kernel)
theorem dX12_restore_318 : decode cX12_restore 318 = .ok (.getfield 135, 3) := dc_180 (a := 0) (b := 135) (by decide +kernel)
theorem dX12_restore_321 : decode cX12_restore 321 = .ok (.iload_n 2, 1) := dc_28 (by decide +kernel)
theorem dX12_restore_322 : decode cX12_restore 322 = .ok (.iaload, 1) := dc_46 (by decide +kernel)
theorem dX12_restore_323 : decode cX12_restore 323 = .ok (.putfield 334, 3) := dc_181 (a := 1) (b := 78) (by decide +kernel)
theorem dX12_restore_326 : decode cX12_restore 326 = .ok (.return_, 1) := dc_177 (by decide +kernel)
set_option maxRecDepth 100000 in
set_option maxHeartbeats 4000000 in
theorem w_M_restore_L275 {p : Program} {l : Launch} {e : Env} {R : Room} {s : State} {m : MethodId} {args : Array Value} {below : List Frame} {meth : Method} {c : Code} {dC : Nat → ClassId} {dI : Nat → Nat → Nat} {cs : Nat → ClassId} {ad : Nat → Nat} {A : Nat → Prop} {D0 : Nat → Nat} {S' : SS} (F : Fx p s m args meth c cX12_restore 4 RX12 none dC dI cs A) (hR1 : 0 ≤ R.frames) (hR2 : 0 ≤ R.locals) : ∀ (n : Nat) (x2 : Int32) (x3 : Int32) (S : SS), f_M_restore_L275 n x2 x3 S = some S' → AW p l e R s m args below meth c dC dI cs ad A D0 none S' 4 275 [(0, .ref (ad 0)), (2, .int x2), (3, .int x3)] [] S := by
  have hx := F.1.1
  have hb := F.1.2.1
  intro n
  induction n with
  | zero => intro x2 x3 S h; cases h
  | succ n ih =>
    intro x2 x3 S h H locs ls w hl
    rw [f_M_restore_L275] at h
    refine lv_iload_n (pc := 275) hx hb dX12_restore_275 rfl (lv_at hl 2 rfl) ?_
    refine lv_bipush (pc := 276) (v := 40) hx hb dX12_restore_276 (by decide) ?_
    refine lv_icmp_ge (pc := 278) (tgt := 316) hx hb dX12_restore_278 (by decide) (fun q => ?_) (fun q => ?_)
    · have h := ite_t q h
      refine lv_aload_n (pc := 316) hx hb dX12_restore_316 rfl (lv_at hl 0 rfl) ?_
      refine lv_aload_n (pc := 317) hx hb dX12_restore_317 rfl (lv_at hl 0 rfl) ?_
      refine s_getR (pc := 318) F w 40 ds_0 (j := 59) vc_X12 vi_X12 rfl (by decide) kf_X12_135 dX12_restore_318 ?_
      refine lv_iload_n (pc := 321) hx hb dX12_restore_321 rfl (lv_at hl 1 rfl) ?_
      refine s_iald (pc := 322) F w ds_40 h dX12_restore_322 (fun h => ?_)
      refine s_putI (pc := 323) F w ds_0 vc_X12 vi_X12 tyX12_ok nmX12 (j := 48) rfl (by decide) kf_X12_334 rfl pd_I h dX12_restore_323 (fun S2 H locs h w => ?_)
      exact s_vret F w h dX12_restore_326
    · have h := ite_f q h
      refine lv_aload_n (pc := 281) hx hb dX12_restore_281 rfl (lv_at hl 0 rfl) ?_
      refine s_getR (pc := 282) F w 10 ds_0 (j := 17) vc_X12 vi_X12 rfl (by decide) kf_X12_45 dX12_restore_282 ?_
      refine lv_iload_n (pc := 285) hx hb dX12_restore_285 rfl (lv_at hl 2 rfl) ?_
      refine lv_aload_n (pc := 286) hx hb dX12_restore_286 rfl (lv_at hl 0 rfl) ?_
      refine s_getR (pc := 287) F w 40 ds_0 (j := 59) vc_X12 vi_X12 rfl (by decide) kf_X12_135 dX12_restore_287 ?_
      refine lv_iload_n (pc := 290) hx hb dX12_restore_290 rfl (lv_at hl 1 rfl) ?_
      refine s_iald (pc := 291) F w ds_40 h dX12_restore_291 (fun h => ?_)
      refine s_iast (pc := 292) F w ds_10 h dX12_restore_292 (fun S3 H locs h w => ?_)
      refine lv_aload_n (pc := 293) hx hb dX12_restore_293 rfl (lv_at hl 0 rfl) ?_
      refine s_getR (pc := 294) F w 11 ds_0 (j := 18) vc_X12 vi_X12 rfl (by decide) kf_X12_48 dX12_restore_294 ?_
      refine lv_iload_n (pc := 297) hx hb dX12_restore_297 rfl (lv_at hl 2 rfl) ?_
      refine lv_aload_n (pc := 298) hx hb dX12_restore_298 rfl (lv_at hl 0 rfl) ?_
      refine s_getR (pc := 299) F w 40 ds_0 (j := 59) vc_X12 vi_X12 rfl (by decide) kf_X12_135 dX12_restore_299 ?_
      refine lv_iload_n (pc := 302) hx hb dX12_restore_302 rfl (lv_at hl 1 rfl) ?_
      refine lv_iconst (pc := 303) (v := 1) hx hb dX12_restore_303 (by decide) ?_
      refine lv_iadd (pc := 304) hx hb dX12_restore_304 ?_
      refine s_iald (pc := 305) F w ds_40 h dX12_restore_305 (fun h => ?_)
      refine s_iast (pc := 306) F w ds_11 h dX12_restore_306 (fun S4 H locs h w => ?_)
      refine s_nm h (fun z5 ez5 h => ?_)
      refine lv_iinc (pc := 307) (v := z5) (lv' := [(2, .int z5), (0, .ref (ad 0)), (3, .int x3)]) hx hb dX12_restore_307 hl (k := 1) rfl (by rw [ez5]; rfl) (by decide) rfl (fun ls hl => ?_)
      refine s_nm h (fun z6 ez6 h => ?_)
      refine lv_iinc (pc := 310) (v := z6) (lv' := [(3, .int z6), (2, .int z5), (0, .ref (ad 0))]) hx hb dX12_restore_310 hl (k := 2) rfl (by rw [ez6]; rfl) (by decide) rfl (fun ls hl => ?_)
      refine lv_goto (pc := 313) (tgt := 275) hx hb dX12_restore_313 (by decide) ?_
      exact ih _ _ _ h _ _ _ w (lv_sub hl [2, 1, 0] rfl)
set_option maxRecDepth 100000 in
set_option maxHeartbeats 4000000 in
theorem w_M_restore_j263 {p : Program} {l : Launch} {e : Env} {R : Room} {s : State} {m : MethodId} {args : Array Value} {below : List Frame} {meth : Method} {c : Code} {dC : Nat → ClassId} {dI : Nat → Nat → Nat} {cs : Nat → ClassId} {ad : Nat → Nat} {A : Nat → Prop} {D0 : Nat → Nat} {S' : SS} (F : Fx p s m args meth c cX12_restore 4 RX12 none dC dI cs A) (hR1 : 0 ≤ R.frames) (hR2 : 0 ≤ R.locals) (K8 : Int32 → Int32 → SS → Option (SS)) (hK8 : ∀ (v0 : Int32) (v1 : Int32) (S : SS), K8 v0 v1 S = some S' → AW p l e R s m args below meth c dC dI cs ad A D0 none S' 4 8 [(0, .ref (ad 0)), (2, .int v0), (3, .int v1)] [] S) (x2 : Int32) (x3 : Int32) (y0 : Int32) (y1 : Int32) (S : SS) (h : f_M_restore_j263 K8 x2 x3 y0 y1 S = some S') : AW p l e R s m args below meth c dC dI cs ad A D0 none S' 4 263 [(0, .ref (ad 0)), (2, .int x2), (3, .int x3)] [.int y0, .int y1, .ref (ad 34)] S := by
  have hx := F.1.1
  have hb := F.1.2.1
  intro H locs ls w hl
  rw [f_M_restore_j263] at h
  refine s_zast (pc := 263) F w ds_34 h dX12_restore_263 (fun S21 H locs h w => ?_)
  refine s_nm h (fun z22 ez22 h => ?_)
  refine lv_iinc (pc := 264) (v := z22) (lv' := [(2, .int z22), (0, .ref (ad 0)), (3, .int x3)]) hx hb dX12_restore_264 hl (k := 1) rfl (by rw [ez22]; rfl) (by decide) rfl (fun ls hl => ?_)
  refine s_nm h (fun z23 ez23 h => ?_)
  refine lv_iinc (pc := 267) (v := z23) (lv' := [(3, .int z23), (2, .int z22), (0, .ref (ad 0))]) hx hb dX12_restore_267 hl (k := 2) rfl (by rw [ez23]; rfl) (by decide) rfl (fun ls hl => ?_)
  refine lv_goto (pc := 270) (tgt := 8) hx hb dX12_restore_270 (by decide) ?_
  exact hK8 _ _ _ h _ _ _ w (lv_sub hl [2, 1, 0] rfl)
set_option maxRecDepth 100000 in
set_option maxHeartbeats 4000000 in
theorem w_M_restore_j209 {p : Program} {l : Launch} {e : Env} {R : Room} {s : State} {m : MethodId} {args : Array Value} {below : List Frame} {meth : Method} {c : Code} {dC : Nat → ClassId} {dI : Nat → Nat → Nat} {cs : Nat → ClassId} {ad : Nat → Nat} {A : Nat → Prop} {D0 : Nat → Nat} {S' : SS} (F : Fx p s m args meth c cX12_restore 4 RX12 none dC dI cs A) (hR1 : 0 ≤ R.frames) (hR2 : 0 ≤ R.locals) (K8 : Int32 → Int32 → SS → Option (SS)) (hK8 : ∀ (v0 : Int32) (v1 : Int32) (S : SS), K8 v0 v1 S = some S' → AW p l e R s m args below meth c dC dI cs ad A D0 none S' 4 8 [(0, .ref (ad 0)), (2, .int v0), (3, .int v1)] [] S) (x2 : Int32) (x3 : Int32) (y0 : Int32) (y1 : Int32) (S : SS) (h : f_M_restore_j209 K8 x2 x3 y0 y1 S = some S') : AW p l e R s m args below meth c dC dI cs ad A D0 none S' 4 209 [(0, .ref (ad 0)), (2, .int x2), (3, .int x3)] [.int y0, .int y1, .ref (ad 31)] S := by
  have hx := F.1.1
  have hb := F.1.2.1
  intro H locs ls w hl
  rw [f_M_restore_j209] at h
  refine s_zast (pc := 209) F w ds_31 h dX12_restore_209 (fun S18 H locs h w => ?_)
  refine lv_aload_n (pc := 210) hx hb dX12_restore_210 rfl (lv_at hl 0 rfl) ?_
  refine s_getR (pc := 211) F w 32 ds_0 (j := 44) vc_X12 vi_X12 rfl (by decide) kf_X12_111 dX12_restore_211 ?_
  refine lv_iload_n (pc := 214) hx hb dX12_restore_214 rfl (lv_at hl 2 rfl) ?_
  refine lv_aload_n (pc := 215) hx hb dX12_restore_215 rfl (lv_at hl 0 rfl) ?_
  refine s_getR (pc := 216) F w 40 ds_0 (j := 59) vc_X12 vi_X12 rfl (by decide) kf_X12_135 dX12_restore_216 ?_
  refine lv_iload_n (pc := 219) hx hb dX12_restore_219 rfl (lv_at hl 1 rfl) ?_
  refine lv_bipush (pc := 220) (v := 12) hx hb dX12_restore_220 (by decide) ?_
  refine lv_iadd (pc := 222) hx hb dX12_restore_222 ?_
  refine s_iald (pc := 223) F w ds_40 h dX12_restore_223 (fun h => ?_)
  refine s_iast (pc := 224) F w ds_32 h dX12_restore_224 (fun S19 H locs h w => ?_)
  refine lv_aload_n (pc := 225) hx hb dX12_restore_225 rfl (lv_at hl 0 rfl) ?_
  refine s_getR (pc := 226) F w 33 ds_0 (j := 45) vc_X12 vi_X12 rfl (by decide) kf_X12_114 dX12_restore_226 ?_
  refine lv_iload_n (pc := 229) hx hb dX12_restore_229 rfl (lv_at hl 2 rfl) ?_
  refine lv_aload_n (pc := 230) hx hb dX12_restore_230 rfl (lv_at hl 0 rfl) ?_
  refine s_getR (pc := 231) F w 40 ds_0 (j := 59) vc_X12 vi_X12 rfl (by decide) kf_X12_135 dX12_restore_231 ?_
  refine lv_iload_n (pc := 234) hx hb dX12_restore_234 rfl (lv_at hl 1 rfl) ?_
  refine lv_bipush (pc := 235) (v := 13) hx hb dX12_restore_235 (by decide) ?_
  refine lv_iadd (pc := 237) hx hb dX12_restore_237 ?_
  refine s_iald (pc := 238) F w ds_40 h dX12_restore_238 (fun h => ?_)
  refine s_iast (pc := 239) F w ds_33 h dX12_restore_239 (fun S20 H locs h w => ?_)
  refine lv_aload_n (pc := 240) hx hb dX12_restore_240 rfl (lv_at hl 0 rfl) ?_
  refine s_getR (pc := 241) F w 34 ds_0 (j := 46) vc_X12 vi_X12 rfl (by decide) kf_X12_117 dX12_restore_241 ?_
  refine lv_iload_n (pc := 244) hx hb dX12_restore_244 rfl (lv_at hl 2 rfl) ?_
  refine lv_aload_n (pc := 245) hx hb dX12_restore_245 rfl (lv_at hl 0 rfl) ?_
  refine s_getR (pc := 246) F w 40 ds_0 (j := 59) vc_X12 vi_X12 rfl (by decide) kf_X12_135 dX12_restore_246 ?_
  refine lv_iload_n (pc := 249) hx hb dX12_restore_249 rfl (lv_at hl 1 rfl) ?_
  refine lv_bipush (pc := 250) (v := 14) hx hb dX12_restore_250 (by decide) ?_
  refine lv_iadd (pc := 252) hx hb dX12_restore_252 ?_
  refine s_iald (pc := 253) F w ds_40 h dX12_restore_253 (fun h => ?_)
  refine lv_iconst (pc := 254) (v := 1) hx hb dX12_restore_254 (by decide) ?_
  refine lv_icmp_ne (pc := 255) (tgt := 262) hx hb dX12_restore_255 (by decide) (fun q => ?_) (fun q => ?_)
  · have h := ite_f q h
    refine lv_iconst (pc := 262) (v := 0) hx hb dX12_restore_262 (by decide) ?_
    exact w_M_restore_j263 F (Nat.le_trans (by decide) hR1) (Nat.le_trans (by decide) hR2) _ hK8 _ _ _ _ _ h _ _ _ w (lv_sub hl [0, 1, 2] rfl)
  · have h := ite_t q h
    refine lv_iconst (pc := 258) (v := 1) hx hb dX12_restore_258 (by decide) ?_
    refine lv_goto (pc := 259) (tgt := 263) hx hb dX12_restore_259 (by decide) ?_
    exact w_M_restore_j263 F (Nat.le_trans (by decide) hR1) (Nat.le_trans (by decide) hR2) _ hK8 _ _ _ _ _ h _ _ _ w (lv_sub hl [0, 1, 2] rfl)
set_option maxRecDepth 100000 in
set_option maxHeartbeats 4000000 in
theorem w_M_restore_j34 {p : Program} {l : Launch} {e : Env} {R : Room} {s : State} {m : MethodId} {args : Array Value} {below : List Frame} {meth : Method} {c : Code} {dC : Nat → ClassId} {dI : Nat → Nat → Nat} {cs : Nat → ClassId} {ad : Nat → Nat} {A : Nat → Prop} {D0 : Nat → Nat} {S' : SS} (F : Fx p s m args meth c cX12_restore 4 RX12 none dC dI cs A) (hR1 : 0 ≤ R.frames) (hR2 : 0 ≤ R.locals) (K8 : Int32 → Int32 → SS → Option (SS)) (hK8 : ∀ (v0 : Int32) (v1 : Int32) (S : SS), K8 v0 v1 S = some S' → AW p l e R s m args below meth c dC dI cs ad A D0 none S' 4 8 [(0, .ref (ad 0)), (2, .int v0), (3, .int v1)] [] S) (x2 : Int32) (x3 : Int32) (y0 : Int32) (y1 : Int32) (S : SS) (h : f_M_restore_j34 K8 x2 x3 y0 y1 S = some S') : AW p l e R s m args below meth c dC dI cs ad A D0 none S' 4 34 [(0, .ref (ad 0)), (2, .int x2), (3, .int x3)] [.int y0, .int y1, .ref (ad 19)] S := by
  have hx := F.1.1
  have hb := F.1.2.1
  intro H locs ls w hl
  rw [f_M_restore_j34] at h
  refine s_zast (pc := 34) F w ds_19 h dX12_restore_34 (fun S7 H locs h w => ?_)
  refine lv_aload_n (pc := 35) hx hb dX12_restore_35 rfl (lv_at hl 0 rfl) ?_
  refine s_getR (pc := 36) F w 20 ds_0 (j := 32) vc_X12 vi_X12 rfl (by decide) kf_X12_75 dX12_restore_36 ?_
  refine lv_iload_n (pc := 39) hx hb dX12_restore_39 rfl (lv_at hl 2 rfl) ?_
  refine lv_aload_n (pc := 40) hx hb dX12_restore_40 rfl (lv_at hl 0 rfl) ?_
  refine s_getR (pc := 41) F w 40 ds_0 (j := 59) vc_X12 vi_X12 rfl (by decide) kf_X12_135 dX12_restore_41 ?_
  refine lv_iload_n (pc := 44) hx hb dX12_restore_44 rfl (lv_at hl 1 rfl) ?_
  refine lv_iconst (pc := 45) (v := 1) hx hb dX12_restore_45 (by decide) ?_
  refine lv_iadd (pc := 46) hx hb dX12_restore_46 ?_
  refine s_iald (pc := 47) F w ds_40 h dX12_restore_47 (fun h => ?_)
  refine s_iast (pc := 48) F w ds_20 h dX12_restore_48 (fun S8 H locs h w => ?_)
  refine lv_aload_n (pc := 49) hx hb dX12_restore_49 rfl (lv_at hl 0 rfl) ?_
  refine s_getR (pc := 50) F w 21 ds_0 (j := 33) vc_X12 vi_X12 rfl (by decide) kf_X12_78 dX12_restore_50 ?_
  refine lv_iload_n (pc := 53) hx hb dX12_restore_53 rfl (lv_at hl 2 rfl) ?_
  refine lv_aload_n (pc := 54) hx hb dX12_restore_54 rfl (lv_at hl 0 rfl) ?_
  refine s_getR (pc := 55) F w 40 ds_0 (j := 59) vc_X12 vi_X12 rfl (by decide) kf_X12_135 dX12_restore_55 ?_
  refine lv_iload_n (pc := 58) hx hb dX12_restore_58 rfl (lv_at hl 1 rfl) ?_
  refine lv_iconst (pc := 59) (v := 2) hx hb dX12_restore_59 (by decide) ?_
  refine lv_iadd (pc := 60) hx hb dX12_restore_60 ?_
  refine s_iald (pc := 61) F w ds_40 h dX12_restore_61 (fun h => ?_)
  refine s_iast (pc := 62) F w ds_21 h dX12_restore_62 (fun S9 H locs h w => ?_)
  refine lv_aload_n (pc := 63) hx hb dX12_restore_63 rfl (lv_at hl 0 rfl) ?_
  refine s_getR (pc := 64) F w 22 ds_0 (j := 34) vc_X12 vi_X12 rfl (by decide) kf_X12_81 dX12_restore_64 ?_
  refine lv_iload_n (pc := 67) hx hb dX12_restore_67 rfl (lv_at hl 2 rfl) ?_
  refine lv_aload_n (pc := 68) hx hb dX12_restore_68 rfl (lv_at hl 0 rfl) ?_
  refine s_getR (pc := 69) F w 40 ds_0 (j := 59) vc_X12 vi_X12 rfl (by decide) kf_X12_135 dX12_restore_69 ?_
  refine lv_iload_n (pc := 72) hx hb dX12_restore_72 rfl (lv_at hl 1 rfl) ?_
  refine lv_iconst (pc := 73) (v := 3) hx hb dX12_restore_73 (by decide) ?_
  refine lv_iadd (pc := 74) hx hb dX12_restore_74 ?_
  refine s_iald (pc := 75) F w ds_40 h dX12_restore_75 (fun h => ?_)
  refine s_iast (pc := 76) F w ds_22 h dX12_restore_76 (fun S10 H locs h w => ?_)
  refine lv_aload_n (pc := 77) hx hb dX12_restore_77 rfl (lv_at hl 0 rfl) ?_
  refine s_getR (pc := 78) F w 23 ds_0 (j := 35) vc_X12 vi_X12 rfl (by decide) kf_X12_84 dX12_restore_78 ?_
  refine lv_iconst (pc := 81) (v := 2) hx hb dX12_restore_81 (by decide) ?_
  refine lv_iload_n (pc := 82) hx hb dX12_restore_82 rfl (lv_at hl 2 rfl) ?_
  refine lv_imul (pc := 83) hx hb dX12_restore_83 ?_
  refine lv_aload_n (pc := 84) hx hb dX12_restore_84 rfl (lv_at hl 0 rfl) ?_
  refine s_getR (pc := 85) F w 40 ds_0 (j := 59) vc_X12 vi_X12 rfl (by decide) kf_X12_135 dX12_restore_85 ?_
  refine lv_iload_n (pc := 88) hx hb dX12_restore_88 rfl (lv_at hl 1 rfl) ?_
  refine lv_iconst (pc := 89) (v := 4) hx hb dX12_restore_89 (by decide) ?_
  refine lv_iadd (pc := 90) hx hb dX12_restore_90 ?_
  refine s_iald (pc := 91) F w ds_40 h dX12_restore_91 (fun h => ?_)
  refine s_iast (pc := 92) F w ds_23 h dX12_restore_92 (fun S11 H locs h w => ?_)
  refine lv_aload_n (pc := 93) hx hb dX12_restore_93 rfl (lv_at hl 0 rfl) ?_
  refine s_getR (pc := 94) F w 23 ds_0 (j := 35) vc_X12 vi_X12 rfl (by decide) kf_X12_84 dX12_restore_94 ?_
  refine lv_iconst (pc := 97) (v := 2) hx hb dX12_restore_97 (by decide) ?_
  refine lv_iload_n (pc := 98) hx hb dX12_restore_98 rfl (lv_at hl 2 rfl) ?_
  refine lv_imul (pc := 99) hx hb dX12_restore_99 ?_
  refine lv_iconst (pc := 100) (v := 1) hx hb dX12_restore_100 (by decide) ?_
  refine lv_iadd (pc := 101) hx hb dX12_restore_101 ?_
  refine lv_aload_n (pc := 102) hx hb dX12_restore_102 rfl (lv_at hl 0 rfl) ?_
  refine s_getR (pc := 103) F w 40 ds_0 (j := 59) vc_X12 vi_X12 rfl (by decide) kf_X12_135 dX12_restore_103 ?_
  refine lv_iload_n (pc := 106) hx hb dX12_restore_106 rfl (lv_at hl 1 rfl) ?_
  refine lv_iconst (pc := 107) (v := 5) hx hb dX12_restore_107 (by decide) ?_
  refine lv_iadd (pc := 108) hx hb dX12_restore_108 ?_
  refine s_iald (pc := 109) F w ds_40 h dX12_restore_109 (fun h => ?_)
  refine s_iast (pc := 110) F w ds_23 h dX12_restore_110 (fun S12 H locs h w => ?_)
  refine lv_aload_n (pc := 111) hx hb dX12_restore_111 rfl (lv_at hl 0 rfl) ?_
  refine s_getR (pc := 112) F w 24 ds_0 (j := 36) vc_X12 vi_X12 rfl (by decide) kf_X12_87 dX12_restore_112 ?_
  refine lv_iload_n (pc := 115) hx hb dX12_restore_115 rfl (lv_at hl 2 rfl) ?_
  refine lv_aload_n (pc := 116) hx hb dX12_restore_116 rfl (lv_at hl 0 rfl) ?_
  refine s_getR (pc := 117) F w 40 ds_0 (j := 59) vc_X12 vi_X12 rfl (by decide) kf_X12_135 dX12_restore_117 ?_
  refine lv_iload_n (pc := 120) hx hb dX12_restore_120 rfl (lv_at hl 1 rfl) ?_
  refine lv_bipush (pc := 121) (v := 6) hx hb dX12_restore_121 (by decide) ?_
  refine lv_iadd (pc := 123) hx hb dX12_restore_123 ?_
  refine s_iald (pc := 124) F w ds_40 h dX12_restore_124 (fun h => ?_)
  refine s_iast (pc := 125) F w ds_24 h dX12_restore_125 (fun S13 H locs h w => ?_)
  refine lv_aload_n (pc := 126) hx hb dX12_restore_126 rfl (lv_at hl 0 rfl) ?_
  refine s_getR (pc := 127) F w 25 ds_0 (j := 37) vc_X12 vi_X12 rfl (by decide) kf_X12_90 dX12_restore_127 ?_
  refine lv_iload_n (pc := 130) hx hb dX12_restore_130 rfl (lv_at hl 2 rfl) ?_
  refine lv_aload_n (pc := 131) hx hb dX12_restore_131 rfl (lv_at hl 0 rfl) ?_
  refine s_getR (pc := 132) F w 40 ds_0 (j := 59) vc_X12 vi_X12 rfl (by decide) kf_X12_135 dX12_restore_132 ?_
  refine lv_iload_n (pc := 135) hx hb dX12_restore_135 rfl (lv_at hl 1 rfl) ?_
  refine lv_bipush (pc := 136) (v := 7) hx hb dX12_restore_136 (by decide) ?_
  refine lv_iadd (pc := 138) hx hb dX12_restore_138 ?_
  refine s_iald (pc := 139) F w ds_40 h dX12_restore_139 (fun h => ?_)
  refine s_iast (pc := 140) F w ds_25 h dX12_restore_140 (fun S14 H locs h w => ?_)
  refine lv_aload_n (pc := 141) hx hb dX12_restore_141 rfl (lv_at hl 0 rfl) ?_
  refine s_getR (pc := 142) F w 26 ds_0 (j := 38) vc_X12 vi_X12 rfl (by decide) kf_X12_93 dX12_restore_142 ?_
  refine lv_iload_n (pc := 145) hx hb dX12_restore_145 rfl (lv_at hl 2 rfl) ?_
  refine lv_aload_n (pc := 146) hx hb dX12_restore_146 rfl (lv_at hl 0 rfl) ?_
  refine s_getR (pc := 147) F w 40 ds_0 (j := 59) vc_X12 vi_X12 rfl (by decide) kf_X12_135 dX12_restore_147 ?_
  refine lv_iload_n (pc := 150) hx hb dX12_restore_150 rfl (lv_at hl 1 rfl) ?_
  refine lv_bipush (pc := 151) (v := 8) hx hb dX12_restore_151 (by decide) ?_
  refine lv_iadd (pc := 153) hx hb dX12_restore_153 ?_
  refine s_iald (pc := 154) F w ds_40 h dX12_restore_154 (fun h => ?_)
  refine s_iast (pc := 155) F w ds_26 h dX12_restore_155 (fun S15 H locs h w => ?_)
  refine lv_aload_n (pc := 156) hx hb dX12_restore_156 rfl (lv_at hl 0 rfl) ?_
  refine s_getR (pc := 157) F w 27 ds_0 (j := 39) vc_X12 vi_X12 rfl (by decide) kf_X12_96 dX12_restore_157 ?_
  refine lv_iload_n (pc := 160) hx hb dX12_restore_160 rfl (lv_at hl 2 rfl) ?_
  refine lv_aload_n (pc := 161) hx hb dX12_restore_161 rfl (lv_at hl 0 rfl) ?_
  refine s_getR (pc := 162) F w 40 ds_0 (j := 59) vc_X12 vi_X12 rfl (by decide) kf_X12_135 dX12_restore_162 ?_
  refine lv_iload_n (pc := 165) hx hb dX12_restore_165 rfl (lv_at hl 1 rfl) ?_
  refine lv_bipush (pc := 166) (v := 9) hx hb dX12_restore_166 (by decide) ?_
  refine lv_iadd (pc := 168) hx hb dX12_restore_168 ?_
  refine s_iald (pc := 169) F w ds_40 h dX12_restore_169 (fun h => ?_)
  refine s_iast (pc := 170) F w ds_27 h dX12_restore_170 (fun S16 H locs h w => ?_)
  refine lv_aload_n (pc := 171) hx hb dX12_restore_171 rfl (lv_at hl 0 rfl) ?_
  refine s_getR (pc := 172) F w 30 ds_0 (j := 42) vc_X12 vi_X12 rfl (by decide) kf_X12_105 dX12_restore_172 ?_
  refine lv_iload_n (pc := 175) hx hb dX12_restore_175 rfl (lv_at hl 2 rfl) ?_
  refine lv_aload_n (pc := 176) hx hb dX12_restore_176 rfl (lv_at hl 0 rfl) ?_
  refine s_getR (pc := 177) F w 40 ds_0 (j := 59) vc_X12 vi_X12 rfl (by decide) kf_X12_135 dX12_restore_177 ?_
  refine lv_iload_n (pc := 180) hx hb dX12_restore_180 rfl (lv_at hl 1 rfl) ?_
  refine lv_bipush (pc := 181) (v := 10) hx hb dX12_restore_181 (by decide) ?_
  refine lv_iadd (pc := 183) hx hb dX12_restore_183 ?_
  refine s_iald (pc := 184) F w ds_40 h dX12_restore_184 (fun h => ?_)
  refine s_iast (pc := 185) F w ds_30 h dX12_restore_185 (fun S17 H locs h w => ?_)
  refine lv_aload_n (pc := 186) hx hb dX12_restore_186 rfl (lv_at hl 0 rfl) ?_
  refine s_getR (pc := 187) F w 31 ds_0 (j := 43) vc_X12 vi_X12 rfl (by decide) kf_X12_108 dX12_restore_187 ?_
  refine lv_iload_n (pc := 190) hx hb dX12_restore_190 rfl (lv_at hl 2 rfl) ?_
  refine lv_aload_n (pc := 191) hx hb dX12_restore_191 rfl (lv_at hl 0 rfl) ?_
  refine s_getR (pc := 192) F w 40 ds_0 (j := 59) vc_X12 vi_X12 rfl (by decide) kf_X12_135 dX12_restore_192 ?_
  refine lv_iload_n (pc := 195) hx hb dX12_restore_195 rfl (lv_at hl 1 rfl) ?_
  refine lv_bipush (pc := 196) (v := 11) hx hb dX12_restore_196 (by decide) ?_
  refine lv_iadd (pc := 198) hx hb dX12_restore_198 ?_
  refine s_iald (pc := 199) F w ds_40 h dX12_restore_199 (fun h => ?_)
  refine lv_iconst (pc := 200) (v := 1) hx hb dX12_restore_200 (by decide) ?_
  refine lv_icmp_ne (pc := 201) (tgt := 208) hx hb dX12_restore_201 (by decide) (fun q => ?_) (fun q => ?_)
  · have h := ite_f q h
    refine lv_iconst (pc := 208) (v := 0) hx hb dX12_restore_208 (by decide) ?_
    exact w_M_restore_j209 F (Nat.le_trans (by decide) hR1) (Nat.le_trans (by decide) hR2) _ hK8 _ _ _ _ _ h _ _ _ w (lv_sub hl [0, 1, 2] rfl)
  · have h := ite_t q h
    refine lv_iconst (pc := 204) (v := 1) hx hb dX12_restore_204 (by decide) ?_
    refine lv_goto (pc := 205) (tgt := 209) hx hb dX12_restore_205 (by decide) ?_
    exact w_M_restore_j209 F (Nat.le_trans (by decide) hR1) (Nat.le_trans (by decide) hR2) _ hK8 _ _ _ _ _ h _ _ _ w (lv_sub hl [0, 1, 2] rfl)
set_option maxRecDepth 100000 in
set_option maxHeartbeats 4000000 in
theorem w_M_restore_L8 {p : Program} {l : Launch} {e : Env} {R : Room} {s : State} {m : MethodId} {args : Array Value} {below : List Frame} {meth : Method} {c : Code} {dC : Nat → ClassId} {dI : Nat → Nat → Nat} {cs : Nat → ClassId} {ad : Nat → Nat} {A : Nat → Prop} {D0 : Nat → Nat} {S' : SS} (F : Fx p s m args meth c cX12_restore 4 RX12 none dC dI cs A) (hR1 : 0 ≤ R.frames) (hR2 : 0 ≤ R.locals) : ∀ (n : Nat) (x2 : Int32) (x3 : Int32) (S : SS), f_M_restore_L8 n x2 x3 S = some S' → AW p l e R s m args below meth c dC dI cs ad A D0 none S' 4 8 [(0, .ref (ad 0)), (2, .int x2), (3, .int x3)] [] S := by
  have hx := F.1.1
  have hb := F.1.2.1
  intro n
  induction n with
  | zero => intro x2 x3 S h; cases h
  | succ n ih =>
    intro x2 x3 S h H locs ls w hl
    rw [f_M_restore_L8] at h
    refine lv_iload_n (pc := 8) hx hb dX12_restore_8 rfl (lv_at hl 2 rfl) ?_
    refine lv_bipush (pc := 9) (v := 72) hx hb dX12_restore_9 (by decide) ?_
    refine lv_icmp_ge (pc := 11) (tgt := 273) hx hb dX12_restore_11 (by decide) (fun q => ?_) (fun q => ?_)
    · have h := ite_t q h
      refine lv_iconst (pc := 273) (v := 0) hx hb dX12_restore_273 (by decide) ?_
      refine lv_istore_n (pc := 274) (lv' := [(3, .int (0 : Int32)), (0, .ref (ad 0)), (2, .int x2)]) hx hb dX12_restore_274 rfl hl (by decide) rfl (fun ls hl => ?_)
      exact w_M_restore_L275 F (Nat.le_trans (by decide) hR1) (Nat.le_trans (by decide) hR2) _ _ _ _ h _ _ _ w (lv_sub hl [1, 2, 0] rfl)
    · have h := ite_f q h
      refine lv_aload_n (pc := 14) hx hb dX12_restore_14 rfl (lv_at hl 0 rfl) ?_
      refine s_getR (pc := 15) F w 19 ds_0 (j := 31) vc_X12 vi_X12 rfl (by decide) kf_X12_72 dX12_restore_15 ?_
      refine lv_iload_n (pc := 18) hx hb dX12_restore_18 rfl (lv_at hl 2 rfl) ?_
      refine lv_aload_n (pc := 19) hx hb dX12_restore_19 rfl (lv_at hl 0 rfl) ?_
      refine s_getR (pc := 20) F w 40 ds_0 (j := 59) vc_X12 vi_X12 rfl (by decide) kf_X12_135 dX12_restore_20 ?_
      refine lv_iload_n (pc := 23) hx hb dX12_restore_23 rfl (lv_at hl 1 rfl) ?_
      refine s_iald (pc := 24) F w ds_40 h dX12_restore_24 (fun h => ?_)
      refine lv_iconst (pc := 25) (v := 1) hx hb dX12_restore_25 (by decide) ?_
      refine lv_icmp_ne (pc := 26) (tgt := 33) hx hb dX12_restore_26 (by decide) (fun q => ?_) (fun q => ?_)
      · have h := ite_f q h
        refine lv_iconst (pc := 33) (v := 0) hx hb dX12_restore_33 (by decide) ?_
        exact w_M_restore_j34 F (Nat.le_trans (by decide) hR1) (Nat.le_trans (by decide) hR2) _ (fun v0 v1 S h => ih v0 v1 S h) _ _ _ _ _ h _ _ _ w (lv_sub hl [0, 1, 2] rfl)
      · have h := ite_t q h
        refine lv_iconst (pc := 29) (v := 1) hx hb dX12_restore_29 (by decide) ?_
        refine lv_goto (pc := 30) (tgt := 34) hx hb dX12_restore_30 (by decide) ?_
        exact w_M_restore_j34 F (Nat.le_trans (by decide) hR1) (Nat.le_trans (by decide) hR2) _ (fun v0 v1 S h => ih v0 v1 S h) _ _ _ _ _ h _ _ _ w (lv_sub hl [0, 1, 2] rfl)
set_option maxRecDepth 100000 in
set_option maxHeartbeats 4000000 in
theorem m_M_restore (a1 : Int32) (S S' : SS) (h : f_M_restore a1 S = some S') : MT yX12_restore cX12_restore 4 none 0 0 (fun ad => [.ref (ad 0), .int a1]) S none S' := by
  refine MT.of RX12 (fun ad => [(0, .ref (ad 0)), (1, .int a1)]) (by decide) rfl (fun _ => Nat.le_of_ble_eq_true rfl) (fun _ => rfl) ?_
  intro p l e R s m args below meth c dC dI cs ad A hR1 hR2 F H locs ls w hl
  have hx := F.1.1
  have hb := F.1.2.1
  rw [f_M_restore] at h
  refine lv_sipush (pc := 0) (v := 1161) hx hb dX12_restore_0 (by decide) ?_
  refine lv_iload_n (pc := 3) hx hb dX12_restore_3 rfl (lv_at hl 1 rfl) ?_
  refine lv_imul (pc := 4) hx hb dX12_restore_4 ?_
  refine s_nm h (fun z1 ez1 h => ?_)
  rw [← ez1]
  refine lv_istore_n (pc := 5) (lv' := [(2, .int z1), (0, .ref (ad 0)), (1, .int a1)]) hx hb dX12_restore_5 rfl hl (by decide) rfl (fun ls hl => ?_)
  refine lv_iconst (pc := 6) (v := 0) hx hb dX12_restore_6 (by decide) ?_
  refine lv_istore_n (pc := 7) (lv' := [(3, .int (0 : Int32)), (2, .int z1), (0, .ref (ad 0)), (1, .int a1)]) hx hb dX12_restore_7 rfl hl (by decide) rfl (fun ls hl => ?_)
  exact w_M_restore_L8 F (Nat.le_trans (by decide) hR1) (Nat.le_trans (by decide) hR2) _ _ _ _ h _ _ _ w (lv_sub hl [2, 1, 0] rfl)
def f_M_undo  (S : SS) : Option (Int32 × SS) :=
  if (S.1 0 60) = 0 then
    some ((0 : Int32), S)
  else
    bndv (f_M_save ((8 : Int32) + (S.1 0 61)) S) (fun S1 =>
    wr S1 0 61 ((S1.1 0 61) + (1 : Int32)) (fun S2 =>
    wr S2 0 60 ((S2.1 0 60) - (1 : Int32)) (fun S3 =>
    bndv (f_M_restore (S3.1 0 60) S3) (fun S4 =>
    some ((1 : Int32), S4)))))
theorem dX12_undo_0 : decode cX12_undo 0 = .ok (.aload_n 0, 1) := dc_42 (by decide +kernel)
theorem dX12_undo_1 : decode cX12_undo 1 = .ok (.getfield 328, 3) := dc_180 (a := 1) (b := 72) (by decide +kernel)
theorem dX12_undo_4 : decode cX12_undo 4 = .ok (.ifCond .ne 5, 3) := dc_154 (a := 0) (b := 5) (by decide +kernel) (by decide)
theorem dX12_undo_7 : decode cX12_undo 7 = .ok (.iconst 0, 1) := dc_3 (by decide +kernel)
theorem dX12_undo_8 : decode cX12_undo 8 = .ok (.ireturn, 1) := dc_172 (by decide +kernel)
theorem dX12_undo_9 : decode cX12_undo 9 = .ok (.aload_n 0, 1) := dc_42 (by decide +kernel)
theorem dX12_undo_10 : decode cX12_undo 10 = .ok (.bipush 8, 2) := dc_16 (a := 8) (by decide +kernel) (by decide)
theorem dX12_undo_12 : decode cX12_undo 12 = .ok (.aload_n 0, 1) := dc_42 (by decide +kernel)
theorem dX12_undo_13 : decode cX12_undo 13 = .ok (.getfield 331, 3) := dc_180 (a := 1) (b := 75) (by decide +kernel)
theorem dX12_undo_16 : decode cX12_undo 16 = .ok (.iadd, 1) := dc_96 (by decide +kernel)
theorem dX12_undo_17 : decode cX12_undo 17 = .ok (.invokevirtual 337, 3) := dc_182 (a := 1) (b := 81) (by decide +kernel)
theorem dX12_undo_20 : decode cX12_undo 20 = .ok (.aload_n 0, 1) := dc_42 (by decide +kernel)
theorem dX12_undo_21 : decode cX12_undo 21 = .ok (.dup, 1) := dc_89 (by decide +kernel)
theorem dX12_undo_22 : decode cX12_undo 22 = .ok (.getfield 331, 3) := dc_180 (a := 1) (b := 75) (by decide +kernel)
theorem dX12_undo_25 : decode cX12_undo 25 = .ok (.iconst 1, 1) := dc_4 (by decide +kernel)
theorem dX12_undo_26 : decode cX12_undo 26 = .ok (.iadd, 1) := dc_96 (by decide +kernel)
theorem dX12_undo_27 : decode cX12_undo 27 = .ok (.putfield 331, 3) := dc_181 (a := 1) (b := 75) (by decide +kernel)
theorem dX12_undo_30 : decode cX12_undo 30 = .ok (.aload_n 0, 1) := dc_42 (by decide +kernel)
theorem dX12_undo_31 : decode cX12_undo 31 = .ok (.dup, 1) := dc_89 (by decide +kernel)
theorem dX12_undo_32 : decode cX12_undo 32 = .ok (.getfield 328, 3) := dc_180 (a := 1) (b := 72) (by decide +kernel)
theorem dX12_undo_35 : decode cX12_undo 35 = .ok (.iconst 1, 1) := dc_4 (by decide +kernel)
theorem dX12_undo_36 : decode cX12_undo 36 = .ok (.isub, 1) := dc_100 (by decide +kernel)
theorem dX12_undo_37 : decode cX12_undo 37 = .ok (.putfield 328, 3) := dc_181 (a := 1) (b := 72) (by decide +kernel)
theorem dX12_undo_40 : decode cX12_undo 40 = .ok (.aload_n 0, 1) := dc_42 (by decide +kernel)
theorem dX12_undo_41 : decode cX12_undo 41 = .ok (.aload_n 0, 1) := dc_42 (by decide +kernel)
theorem dX12_undo_42 : decode cX12_undo 42 = .ok (.getfield 328, 3) := dc_180 (a := 1) (b := 72) (by decide +kernel)
theorem dX12_undo_45 : decode cX12_undo 45 = .ok (.invokevirtual 343, 3) := dc_182 (a := 1) (b := 87) (by decide +kernel)
theorem dX12_undo_48 : decode cX12_undo 48 = .ok (.iconst 1, 1) := dc_4 (by decide +kernel)
theorem dX12_undo_49 : decode cX12_undo 49 = .ok (.ireturn, 1) := dc_172 (by decide +kernel)
set_option maxRecDepth 100000 in
set_option maxHeartbeats 4000000 in
theorem m_M_undo  (S S' : SS) (r : Int32) (h : f_M_undo  S = some (r, S')) : MT yX12_undo cX12_undo 1 (some .int) 1 23 (fun ad => [.ref (ad 0)]) S (some (.int r)) S' := by
  refine MT.of RX12 (fun ad => [(0, .ref (ad 0))]) (by decide) rfl (fun _ => Nat.le_of_ble_eq_true rfl) (fun _ => rfl) ?_
  intro p l e R s m args below meth c dC dI cs ad A hR1 hR2 F H locs ls w hl
  have hx := F.1.1
  have hb := F.1.2.1
  rw [f_M_undo] at h
  refine lv_aload_n (pc := 0) hx hb dX12_undo_0 rfl (lv_at hl 0 rfl) ?_
  refine s_getI (pc := 1) F w ds_0 (j := 60) vc_X12 vi_X12 rfl (by decide) kf_X12_328 dX12_undo_1 ?_
  refine lv_if_ne (pc := 4) (tgt := 9) hx hb dX12_undo_4 (by decide) (fun q => ?_) (fun q => ?_)
  · have h := ite_f q h
    refine lv_aload_n (pc := 9) hx hb dX12_undo_9 rfl (lv_at hl 0 rfl) ?_
    refine lv_bipush (pc := 10) (v := 8) hx hb dX12_undo_10 (by decide) ?_
    refine lv_aload_n (pc := 12) hx hb dX12_undo_12 rfl (lv_at hl 0 rfl) ?_
    refine s_getI (pc := 13) F w ds_0 (j := 61) vc_X12 vi_X12 rfl (by decide) kf_X12_331 dX12_undo_13 ?_
    refine lv_iadd (pc := 16) hx hb dX12_undo_16 ?_
    obtain ⟨S1, hc, h⟩ := bndv_t h
    refine s_cvv (pc := 17) [.int ((8 : Int32) + (S.1 0 61))] (fun ad => [.ref (ad 0), .int ((8 : Int32) + (S.1 0 61))]) F w (m_M_save _ _ _ hc) rfl rfl hl.1 ds_0 vc_X12 rfl ok_X12_save rfl kc_X12_save kl_X12_337 ki_X12_save kv_X12_save kn_X12 ⟨Nat.le_trans (by decide) hR1, Nat.le_trans (by decide) hR2⟩ ⟨Nat.zero_le _, Nat.zero_le _⟩ (Nat.le_of_ble_eq_true rfl) dX12_undo_17 (fun H locs w => ?_)
    refine lv_aload_n (pc := 20) hx hb dX12_undo_20 rfl (lv_at hl 0 rfl) ?_
    refine lv_dup (pc := 21) hx hb dX12_undo_21 rfl ?_
    refine s_getI (pc := 22) F w ds_0 (j := 61) vc_X12 vi_X12 rfl (by decide) kf_X12_331 dX12_undo_22 ?_
    refine lv_iconst (pc := 25) (v := 1) hx hb dX12_undo_25 (by decide) ?_
    refine lv_iadd (pc := 26) hx hb dX12_undo_26 ?_
    refine s_putI (pc := 27) F w ds_0 vc_X12 vi_X12 tyX12_ok nmX12 (j := 61) rfl (by decide) kf_X12_331 rfl pd_I h dX12_undo_27 (fun S2 H locs h w => ?_)
    refine lv_aload_n (pc := 30) hx hb dX12_undo_30 rfl (lv_at hl 0 rfl) ?_
    refine lv_dup (pc := 31) hx hb dX12_undo_31 rfl ?_
    refine s_getI (pc := 32) F w ds_0 (j := 60) vc_X12 vi_X12 rfl (by decide) kf_X12_328 dX12_undo_32 ?_
    refine lv_iconst (pc := 35) (v := 1) hx hb dX12_undo_35 (by decide) ?_
    refine lv_isub (pc := 36) hx hb dX12_undo_36 ?_
    refine s_putI (pc := 37) F w ds_0 vc_X12 vi_X12 tyX12_ok nmX12 (j := 60) rfl (by decide) kf_X12_328 rfl pd_I h dX12_undo_37 (fun S3 H locs h w => ?_)
    refine lv_aload_n (pc := 40) hx hb dX12_undo_40 rfl (lv_at hl 0 rfl) ?_
    refine lv_aload_n (pc := 41) hx hb dX12_undo_41 rfl (lv_at hl 0 rfl) ?_
    refine s_getI (pc := 42) F w ds_0 (j := 60) vc_X12 vi_X12 rfl (by decide) kf_X12_328 dX12_undo_42 ?_
    obtain ⟨S4, hc, h⟩ := bndv_t h
    refine s_cvv (pc := 45) [.int (S3.1 0 60)] (fun ad => [.ref (ad 0), .int (S3.1 0 60)]) F w (m_M_restore _ _ _ hc) rfl rfl hl.1 ds_0 vc_X12 rfl ok_X12_restore rfl kc_X12_restore kl_X12_343 ki_X12_restore kv_X12_restore kn_X12 ⟨Nat.le_trans (by decide) hR1, Nat.le_trans (by decide) hR2⟩ ⟨Nat.zero_le _, Nat.zero_le _⟩ (Nat.le_of_ble_eq_true rfl) dX12_undo_45 (fun H locs w => ?_)
    refine lv_iconst (pc := 48) (v := 1) hx hb dX12_undo_48 (by decide) ?_
    exact s_iret F w h dX12_undo_49
  · have h := ite_t q h
    refine lv_iconst (pc := 7) (v := 0) hx hb dX12_undo_7 (by decide) ?_
    exact s_iret F w h dX12_undo_8
def f_M_back  (S : SS) : Option (Int32 × SS) :=
  if (S.1 0 61) = 0 then
    some ((0 : Int32), S)
  else
    bndv (f_M_save (S.1 0 60) S) (fun S1 =>
    wr S1 0 60 ((S1.1 0 60) + (1 : Int32)) (fun S2 =>
    wr S2 0 61 ((S2.1 0 61) - (1 : Int32)) (fun S3 =>
    bndv (f_M_restore ((8 : Int32) + (S3.1 0 61)) S3) (fun S4 =>
    some ((1 : Int32), S4)))))
theorem dX12_back_0 : decode cX12_back 0 = .ok (.aload_n 0, 1) := dc_42 (by decide +kernel)
theorem dX12_back_1 : decode cX12_back 1 = .ok (.getfield 331, 3) := dc_180 (a := 1) (b := 75) (by decide +kernel)
theorem dX12_back_4 : decode cX12_back 4 = .ok (.ifCond .ne 5, 3) := dc_154 (a := 0) (b := 5) (by decide +kernel) (by decide)
theorem dX12_back_7 : decode cX12_back 7 = .ok (.iconst 0, 1) := dc_3 (by decide +kernel)
theorem dX12_back_8 : decode cX12_back 8 = .ok (.ireturn, 1) := dc_172 (by decide +kernel)
theorem dX12_back_9 : decode cX12_back 9 = .ok (.aload_n 0, 1) := dc_42 (by decide +kernel)
theorem dX12_back_10 : decode cX12_back 10 = .ok (.aload_n 0, 1) := dc_42 (by decide +kernel)
theorem dX12_back_11 : decode cX12_back 11 = .ok (.getfield 328, 3) := dc_180 (a := 1) (b := 72) (by decide +kernel)
theorem dX12_back_14 : decode cX12_back 14 = .ok (.invokevirtual 337, 3) := dc_182 (a := 1) (b := 81) (by decide +kernel)
theorem dX12_back_17 : decode cX12_back 17 = .ok (.aload_n 0, 1) := dc_42 (by decide +kernel)
theorem dX12_back_18 : decode cX12_back 18 = .ok (.dup, 1) := dc_89 (by decide +kernel)
theorem dX12_back_19 : decode cX12_back 19 = .ok (.getfield 328, 3) := dc_180 (a := 1) (b := 72) (by decide +kernel)
theorem dX12_back_22 : decode cX12_back 22 = .ok (.iconst 1, 1) := dc_4 (by decide +kernel)
theorem dX12_back_23 : decode cX12_back 23 = .ok (.iadd, 1) := dc_96 (by decide +kernel)
theorem dX12_back_24 : decode cX12_back 24 = .ok (.putfield 328, 3) := dc_181 (a := 1) (b := 72) (by decide +kernel)
theorem dX12_back_27 : decode cX12_back 27 = .ok (.aload_n 0, 1) := dc_42 (by decide +kernel)
theorem dX12_back_28 : decode cX12_back 28 = .ok (.dup, 1) := dc_89 (by decide +kernel)
theorem dX12_back_29 : decode cX12_back 29 = .ok (.getfield 331, 3) := dc_180 (a := 1) (b := 75) (by decide +kernel)
theorem dX12_back_32 : decode cX12_back 32 = .ok (.iconst 1, 1) := dc_4 (by decide +kernel)
theorem dX12_back_33 : decode cX12_back 33 = .ok (.isub, 1) := dc_100 (by decide +kernel)
theorem dX12_back_34 : decode cX12_back 34 = .ok (.putfield 331, 3) := dc_181 (a := 1) (b := 75) (by decide +kernel)
theorem dX12_back_37 : decode cX12_back 37 = .ok (.aload_n 0, 1) := dc_42 (by decide +kernel)
theorem dX12_back_38 : decode cX12_back 38 = .ok (.bipush 8, 2) := dc_16 (a := 8) (by decide +kernel) (by decide)
theorem dX12_back_40 : decode cX12_back 40 = .ok (.aload_n 0, 1) := dc_42 (by decide +kernel)
theorem dX12_back_41 : decode cX12_back 41 = .ok (.getfield 331, 3) := dc_180 (a := 1) (b := 75) (by decide +kernel)
theorem dX12_back_44 : decode cX12_back 44 = .ok (.iadd, 1) := dc_96 (by decide +kernel)
theorem dX12_back_45 : decode cX12_back 45 = .ok (.invokevirtual 343, 3) := dc_182 (a := 1) (b := 87) (by decide +kernel)
theorem dX12_back_48 : decode cX12_back 48 = .ok (.iconst 1, 1) := dc_4 (by decide +kernel)
theorem dX12_back_49 : decode cX12_back 49 = .ok (.ireturn, 1) := dc_172 (by decide +kernel)
set_option maxRecDepth 100000 in
set_option maxHeartbeats 4000000 in
theorem m_M_back  (S S' : SS) (r : Int32) (h : f_M_back  S = some (r, S')) : MT yX12_back cX12_back 1 (some .int) 1 23 (fun ad => [.ref (ad 0)]) S (some (.int r)) S' := by
  refine MT.of RX12 (fun ad => [(0, .ref (ad 0))]) (by decide) rfl (fun _ => Nat.le_of_ble_eq_true rfl) (fun _ => rfl) ?_
  intro p l e R s m args below meth c dC dI cs ad A hR1 hR2 F H locs ls w hl
  have hx := F.1.1
  have hb := F.1.2.1
  rw [f_M_back] at h
  refine lv_aload_n (pc := 0) hx hb dX12_back_0 rfl (lv_at hl 0 rfl) ?_
  refine s_getI (pc := 1) F w ds_0 (j := 61) vc_X12 vi_X12 rfl (by decide) kf_X12_331 dX12_back_1 ?_
  refine lv_if_ne (pc := 4) (tgt := 9) hx hb dX12_back_4 (by decide) (fun q => ?_) (fun q => ?_)
  · have h := ite_f q h
    refine lv_aload_n (pc := 9) hx hb dX12_back_9 rfl (lv_at hl 0 rfl) ?_
    refine lv_aload_n (pc := 10) hx hb dX12_back_10 rfl (lv_at hl 0 rfl) ?_
    refine s_getI (pc := 11) F w ds_0 (j := 60) vc_X12 vi_X12 rfl (by decide) kf_X12_328 dX12_back_11 ?_
    obtain ⟨S1, hc, h⟩ := bndv_t h
    refine s_cvv (pc := 14) [.int (S.1 0 60)] (fun ad => [.ref (ad 0), .int (S.1 0 60)]) F w (m_M_save _ _ _ hc) rfl rfl hl.1 ds_0 vc_X12 rfl ok_X12_save rfl kc_X12_save kl_X12_337 ki_X12_save kv_X12_save kn_X12 ⟨Nat.le_trans (by decide) hR1, Nat.le_trans (by decide) hR2⟩ ⟨Nat.zero_le _, Nat.zero_le _⟩ (Nat.le_of_ble_eq_true rfl) dX12_back_14 (fun H locs w => ?_)
    refine lv_aload_n (pc := 17) hx hb dX12_back_17 rfl (lv_at hl 0 rfl) ?_
    refine lv_dup (pc := 18) hx hb dX12_back_18 rfl ?_
    refine s_getI (pc := 19) F w ds_0 (j := 60) vc_X12 vi_X12 rfl (by decide) kf_X12_328 dX12_back_19 ?_
    refine lv_iconst (pc := 22) (v := 1) hx hb dX12_back_22 (by decide) ?_
    refine lv_iadd (pc := 23) hx hb dX12_back_23 ?_
    refine s_putI (pc := 24) F w ds_0 vc_X12 vi_X12 tyX12_ok nmX12 (j := 60) rfl (by decide) kf_X12_328 rfl pd_I h dX12_back_24 (fun S2 H locs h w => ?_)
    refine lv_aload_n (pc := 27) hx hb dX12_back_27 rfl (lv_at hl 0 rfl) ?_
    refine lv_dup (pc := 28) hx hb dX12_back_28 rfl ?_
    refine s_getI (pc := 29) F w ds_0 (j := 61) vc_X12 vi_X12 rfl (by decide) kf_X12_331 dX12_back_29 ?_
    refine lv_iconst (pc := 32) (v := 1) hx hb dX12_back_32 (by decide) ?_
    refine lv_isub (pc := 33) hx hb dX12_back_33 ?_
    refine s_putI (pc := 34) F w ds_0 vc_X12 vi_X12 tyX12_ok nmX12 (j := 61) rfl (by decide) kf_X12_331 rfl pd_I h dX12_back_34 (fun S3 H locs h w => ?_)
    refine lv_aload_n (pc := 37) hx hb dX12_back_37 rfl (lv_at hl 0 rfl) ?_
    refine lv_bipush (pc := 38) (v := 8) hx hb dX12_back_38 (by decide) ?_
    refine lv_aload_n (pc := 40) hx hb dX12_back_40 rfl (lv_at hl 0 rfl) ?_
    refine s_getI (pc := 41) F w ds_0 (j := 61) vc_X12 vi_X12 rfl (by decide) kf_X12_331 dX12_back_41 ?_
    refine lv_iadd (pc := 44) hx hb dX12_back_44 ?_
    obtain ⟨S4, hc, h⟩ := bndv_t h
    refine s_cvv (pc := 45) [.int ((8 : Int32) + (S3.1 0 61))] (fun ad => [.ref (ad 0), .int ((8 : Int32) + (S3.1 0 61))]) F w (m_M_restore _ _ _ hc) rfl rfl hl.1 ds_0 vc_X12 rfl ok_X12_restore rfl kc_X12_restore kl_X12_343 ki_X12_restore kv_X12_restore kn_X12 ⟨Nat.le_trans (by decide) hR1, Nat.le_trans (by decide) hR2⟩ ⟨Nat.zero_le _, Nat.zero_le _⟩ (Nat.le_of_ble_eq_true rfl) dX12_back_45 (fun H locs w => ?_)
    refine lv_iconst (pc := 48) (v := 1) hx hb dX12_back_48 (by decide) ?_
    exact s_iret F w h dX12_back_49
  · have h := ite_t q h
    refine lv_iconst (pc := 7) (v := 0) hx hb dX12_back_7 (by decide) ?_
    exact s_iret F w h dX12_back_8
def f_M_digest_L192  : Nat → Int64 → Int32 → SS → Option (Int64 × SS)
  | 0, _, _, _ => none
  | n + 1, x1, x3, S =>
    if (S.1 0 15) ≤ x3 then
      some (x1, S)
    else
      grd (inb x3 40) (
      nm (((31 : Int64) * x1) + ((S.1 10 x3.toNatClampNeg).toInt64)) (fun z1 =>
      grd (inb x3 40) (
      nm (((31 : Int64) * z1) + ((S.1 11 x3.toNatClampNeg).toInt64)) (fun z2 =>
      nm (x3 + (1 : Int32)) (fun z3 =>
      f_M_digest_L192 n z2 z3 S)))))
def f_M_digest_j184 (K6 : Int64 → Int32 → SS → Option (Int64 × SS)) (x1 : Int64) (x3 : Int32) (S : SS) : Option (Int64 × SS) :=
    nm (x3 + (1 : Int32)) (fun z13 =>
    K6 x1 z13 S)
def f_M_digest_j181 (K6 : Int64 → Int32 → SS → Option (Int64 × SS)) (x3 : Int32) (y0 : Int32) (y1 : Int64) (S : SS) : Option (Int64 × SS) :=
    nm (y1 + (y0.toInt64)) (fun z12 =>
    f_M_digest_j184 K6 z12 x3 S)
def f_M_digest_L6  : Nat → Int64 → Int32 → SS → Option (Int64 × SS)
  | 0, _, _, _ => none
  | n + 1, x1, x3, S =>
    if (S.1 0 29) ≤ x3 then
      f_M_digest_L192 NF x1 (0 : Int32) S
    else
      grd (inb x3 72) (
      if (S.1 19 x3.toNatClampNeg) = 0 then
        nm (((31 : Int64) * x1) - (1 : Int64)) (fun z14 =>
        f_M_digest_j184 (fun v0 v1 S => f_M_digest_L6 n v0 v1 S) z14 x3 S)
      else
        grd (inb x3 72) (
        grd (inb x3 72) (
        nm (((31 : Int64) * x1) + ((((24 : Int32) * (S.1 20 x3.toNatClampNeg)) + (S.1 21 x3.toNatClampNeg)).toInt64)) (fun z4 =>
        grd (inb x3 72) (
        nm (((31 : Int64) * z4) + ((S.1 22 x3.toNatClampNeg).toInt64)) (fun z5 =>
        grd (inb ((2 : Int32) * x3) 144) (
        nm (((31 : Int64) * z5) + ((S.1 23 ((2 : Int32) * x3).toNatClampNeg).toInt64)) (fun z6 =>
        grd (inb (((2 : Int32) * x3) + (1 : Int32)) 144) (
        nm (((31 : Int64) * z6) + ((S.1 23 (((2 : Int32) * x3) + (1 : Int32)).toNatClampNeg).toInt64)) (fun z7 =>
        grd (inb x3 72) (
        nm (((31 : Int64) * z7) + ((S.1 25 x3.toNatClampNeg).toInt64)) (fun z8 =>
        grd (inb x3 72) (
        nm (((31 : Int64) * z8) + ((S.1 26 x3.toNatClampNeg).toInt64)) (fun z9 =>
        grd (inb x3 72) (
        nm (((31 : Int64) * z9) + ((S.1 30 x3.toNatClampNeg).toInt64)) (fun z10 =>
        grd (inb x3 72) (
        nm (((31 : Int64) * z10) + ((S.1 27 x3.toNatClampNeg).toInt64)) (fun z11 =>
        grd (inb x3 72) (
        if (S.1 34 x3.toNatClampNeg) = 0 then
          f_M_digest_j181 (fun v0 v1 S => f_M_digest_L6 n v0 v1 S) x3 (0 : Int32) ((31 : Int64) * z11) S
        else
          f_M_digest_j181 (fun v0 v1 S => f_M_digest_L6 n v0 v1 S) x3 (1 : Int32) ((31 : Int64) * z11) S)))))))))))))))))))
def f_M_digest  (S : SS) : Option (Int64 × SS) :=
  f_M_digest_L6 NF (7 : Int64) (0 : Int32) S
theorem dX12_digest_0 : decode cX12_digest 0 = .ok (.ldc2_w 447, 3) := dc_20 (a := 1) (b := 191) (by decide +kernel)
theorem dX12_digest_3 : decode cX12_digest 3 = .ok (.lstore_n 1, 1) := dc_64 (by decide +kernel)
theorem dX12_digest_4 : decode cX12_digest 4 = .ok (.iconst 0, 1) := dc_3 (by decide +kernel)
theorem dX12_digest_5 : decode cX12_digest 5 = .ok (.istore_n 3, 1) := dc_62 (by decide +kernel)
theorem dX12_digest_6 : decode cX12_digest 6 = .ok (.iload_n 3, 1) := dc_29 (by decide +kernel)
theorem dX12_digest_7 : decode cX12_digest 7 = .ok (.aload_n 0, 1) := dc_42 (by decide +kernel)
theorem dX12_digest_8 : decode cX12_digest 8 = .ok (.getfield 269, 3) := dc_180 (a := 1) (b := 13) (by decide +kernel)
theorem dX12_digest_11 : decode cX12_digest 11 = .ok (.if_icmp .ge 179, 3) := dc_162 (a := 0) (b := 179) (by decide +kernel) (by decide)
theorem dX12_digest_14 : decode cX12_digest 14 = .ok (.aload_n 0, 1) := dc_42 (by decide +kernel)
theorem dX12_digest_15 : decode cX12_digest 15 = .ok (.getfield 72, 3) := dc_180 (a := 0) (b := 72) (by decide +kernel)
theorem dX12_digest_18 : decode cX12_digest 18 = .ok (.iload_n 3, 1) := dc_29 (by decide +kernel)
theorem dX12_digest_19 : decode cX12_digest 19 = .ok (.baload, 1) := dc_51 (by decide +kernel)
theorem dX12_digest_20 : decode cX12_digest 20 = .ok (.ifCond .ne 14, 3) := dc_154 (a := 0) (b := 14) (by decide +kernel) (by decide)
theorem dX12_digest_23 : decode cX12_digest 23 = .ok (.ldc2_w 449, 3) := dc_20 (a := 1) (b := 193) (by decide +kernel)
theorem dX12_digest_26 : decode cX12_digest 26 = .ok (.lload_n 1, 1) := dc_31 (by decide +kernel)
theorem dX12_digest_27 : decode cX12_digest 27 = .ok (.lmul, 1) := dc_105 (by decide +kernel)
theorem dX12_digest_28 : decode cX12_digest 28 = .ok (.lconst 1, 1) := dc_10 (by decide +kernel)
theorem dX12_digest_29 : decode cX12_digest 29 = .ok (.lsub, 1) := dc_101 (by decide +kernel)
theorem dX12_digest_30 : decode cX12_digest 30 = .ok (.lstore_n 1, 1) := dc_64 (by decide +kernel)
theorem dX12_digest_31 : decode cX12_digest 31 = .ok (.goto 153, 3) := dc_167 (a := 0) (b := 153) (by decide +kernel) (by decide)
theorem dX12_digest_34 : decode cX12_digest 34 = .ok (.ldc2_w 449, 3) := dc_20 (a := 1) (b := 193) (by decide +kernel)
theorem dX12_digest_37 : decode cX12_digest 37 = .ok (.lload_n 1, 1) := dc_31 (by decide +kernel)
theorem dX12_digest_38 : decode cX12_digest 38 = .ok (.lmul, 1) := dc_105 (by decide +kernel)
theorem dX12_digest_39 : decode cX12_digest 39 = .ok (.bipush 24, 2) := dc_16 (a := 24) (by decide +kernel) (by decide)
theorem dX12_digest_41 : decode cX12_digest 41 = .ok (.aload_n 0, 1) := dc_42 (by decide +kernel)
theorem dX12_digest_42 : decode cX12_digest 42 = .ok (.getfield 75, 3) := dc_180 (a := 0) (b := 75) (by decide +kernel)
theorem dX12_digest_45 : decode cX12_digest 45 = .ok (.iload_n 3, 1) := dc_29 (by decide +kernel)
theorem dX12_digest_46 : decode cX12_digest 46 = .ok (.iaload, 1) := dc_46 (by decide +kernel)
theorem dX12_digest_47 : decode cX12_digest 47 = .ok (.imul, 1) := dc_104 (by decide +kernel)
theorem dX12_digest_48 : decode cX12_digest 48 = .ok (.aload_n 0, 1) := dc_42 (by decide +kernel)
theorem dX12_digest_49 : decode cX12_digest 49 = .ok (.getfield 78, 3) := dc_180 (a := 0) (b := 78) (by decide +kernel)
theorem dX12_digest_52 : decode cX12_digest 52 = .ok (.iload_n 3, 1) := dc_29 (by decide +kernel)
theorem dX12_digest_53 : decode cX12_digest 53 = .ok (.iaload, 1) := dc_46 (by decide +kernel)
theorem dX12_digest_54 : decode cX12_digest 54 = .ok (.iadd, 1) := dc_96 (by decide +kernel)
theorem dX12_digest_55 : decode cX12_digest 55 = .ok (.i2l, 1) := dc_133 (by decide +kernel)
theorem dX12_digest_56 : decode cX12_digest 56 = .ok (.ladd, 1) := dc_97 (by decide +kernel)
theorem dX12_digest_57 : decode cX12_digest 57 = .ok (.lstore_n 1, 1) := dc_64 (by decide +kernel)
theorem dX12_digest_58 : decode cX12_digest 58 = .ok (.ldc2_w 449, 3) := dc_20 (a := 1) (b := 193) (by decide +kernel)
theorem dX12_digest_61 : decode cX12_digest 61 = .ok (.lload_n 1, 1) := dc_31 (by decide +kernel)
theorem dX12_digest_62 : decode cX12_digest 62 = .ok (.lmul, 1) := dc_105 (by decide +kernel)
theorem dX12_digest_63 : decode cX12_digest 63 = .ok (.aload_n 0, 1) := dc_42 (by decide +kernel)
theorem dX12_digest_64 : decode cX12_digest 64 = .ok (.getfield 81, 3) := dc_180 (a := 0) (b := 81) (by decide +kernel)
theorem dX12_digest_67 : decode cX12_digest 67 = .ok (.iload_n 3, 1) := dc_29 (by decide +kernel)
theorem dX12_digest_68 : decode cX12_digest 68 = .ok (.iaload, 1) := dc_46 (by decide +kernel)
theorem dX12_digest_69 : decode cX12_digest 69 = .ok (.i2l, 1) := dc_133 (by decide +kernel)
theorem dX12_digest_70 : decode cX12_digest 70 = .ok (.ladd, 1) := dc_97 (by decide +kernel)
theorem dX12_digest_71 : decode cX12_digest 71 = .ok (.lstore_n 1, 1) := dc_64 (by decide +kernel)
theorem dX12_digest_72 : decode cX12_digest 72 = .ok (.ldc2_w 449, 3) := dc_20 (a := 1) (b := 193) (by decide +kernel)
theorem dX12_digest_75 : decode cX12_digest 75 = .ok (.lload_n 1, 1) := dc_31 (by decide +kernel)
theorem dX12_digest_76 : decode cX12_digest 76 = .ok (.lmul, 1) := dc_105 (by decide +kernel)
theorem dX12_digest_77 : decode cX12_digest 77 = .ok (.aload_n 0, 1) := dc_42 (by decide +kernel)
theorem dX12_digest_78 : decode cX12_digest 78 = .ok (.getfield 84, 3) := dc_180 (a := 0) (b := 84) (by decide +kernel)
theorem dX12_digest_81 : decode cX12_digest 81 = .ok (.iconst 2, 1) := dc_5 (by decide +kernel)
theorem dX12_digest_82 : decode cX12_digest 82 = .ok (.iload_n 3, 1) := dc_29 (by decide +kernel)
theorem dX12_digest_83 : decode cX12_digest 83 = .ok (.imul, 1) := dc_104 (by decide +kernel)
theorem dX12_digest_84 : decode cX12_digest 84 = .ok (.iaload, 1) := dc_46 (by decide +kernel)
theorem dX12_digest_85 : decode cX12_digest 85 = .ok (.i2l, 1) := dc_133 (by decide +kernel)
theorem dX12_digest_86 : decode cX12_digest 86 = .ok (.ladd, 1) := dc_97 (by decide +kernel)
theorem dX12_digest_87 : decode cX12_digest 87 = .ok (.lstore_n 1, 1) := dc_64 (by decide +kernel)
theorem dX12_digest_88 : decode cX12_digest 88 = .ok (.ldc2_w 449, 3) := dc_20 (a := 1) (b := 193) (by decide +kernel)
theorem dX12_digest_91 : decode cX12_digest 91 = .ok (.lload_n 1, 1) := dc_31 (by decide +kernel)
theorem dX12_digest_92 : decode cX12_digest 92 = .ok (.lmul, 1) := dc_105 (by decide +kernel)
theorem dX12_digest_93 : decode cX12_digest 93 = .ok (.aload_n 0, 1) := dc_42 (by decide +kernel)
theorem dX12_digest_94 : decode cX12_digest 94 = .ok (.getfield 84, 3) := dc_180 (a := 0) (b := 84) (by decide +kernel)
theorem dX12_digest_97 : decode cX12_digest 97 = .ok (.iconst 2, 1) := dc_5 (by decide +kernel)
theorem dX12_digest_98 : decode cX12_digest 98 = .ok (.iload_n 3, 1) := dc_29 (by decide +kernel)
theorem dX12_digest_99 : decode cX12_digest 99 = .ok (.imul, 1) := dc_104 (by decide +kernel)
theorem dX12_digest_100 : decode cX12_digest 100 = .ok (.iconst 1, 1) := dc_4 (by decide +kernel)
theorem dX12_digest_101 : decode cX12_digest 101 = .ok (.iadd, 1) := dc_96 (by decide +kernel)
theorem dX12_digest_102 : decode cX12_digest 102 = .ok (.iaload, 1) := dc_46 (by decide +kernel)
theorem dX12_digest_103 : decode cX12_digest 103 = .ok (.i2l, 1) := dc_133 (by decide +kernel)
theorem dX12_digest_104 : decode cX12_digest 104 = .ok (.ladd, 1) := dc_97 (by decide +kernel)
theorem dX12_digest_105 : decode cX12_digest 105 = .ok (.lstore_n 1, 1) := dc_64 (by decide +kernel)
theorem dX12_digest_106 : decode cX12_digest 106 = .ok (.ldc2_w 449, 3) := dc_20 (a := 1) (b := 193) (by decide +kernel)
theorem dX12_digest_109 : decode cX12_digest 109 = .ok (.lload_n 1, 1) := dc_31 (by decide +kernel)
theorem dX12_digest_110 : decode cX12_digest 110 = .ok (.lmul, 1) := dc_105 (by decide +kernel)
theorem dX12_digest_111 : decode cX12_digest 111 = .ok (.aload_n 0, 1) := dc_42 (by decide +kernel)
theorem dX12_digest_112 : decode cX12_digest 112 = .ok (.getfield 90, 3) := dc_180 (a := 0) (b := 90) (by decide +kernel)
theorem dX12_digest_115 : decode cX12_digest 115 = .ok (.iload_n 3, 1) := dc_29 (by decide +kernel)
theorem dX12_digest_116 : decode cX12_digest 116 = .ok (.iaload, 1) := dc_46 (by decide +kernel)
theorem dX12_digest_117 : decode cX12_digest 117 = .ok (.i2l, 1) := dc_133 (by decide +kernel)
theorem dX12_digest_118 : decode cX12_digest 118 = .ok (.ladd, 1) := dc_97 (by decide +kernel)
theorem dX12_digest_119 : decode cX12_digest 119 = .ok (.lstore_n 1, 1) := dc_64 (by decide +kernel)
theorem dX12_digest_120 : decode cX12_digest 120 = .ok (.ldc2_w 449, 3) := dc_20 (a := 1) (b := 193) (by decide +kernel)
theorem dX12_digest_123 : decode cX12_digest 123 = .ok (.lload_n 1, 1) := dc_31 (by decide +kernel)
theorem dX12_digest_124 : decode cX12_digest 124 = .ok (.lmul, 1) := dc_105 (by decide +kernel)
theorem dX12_digest_125 : decode cX12_digest 125 = .ok (.aload_n 0, 1) := dc_42 (by decide +kernel)
theorem dX12_digest_126 : decode cX12_digest 126 = .ok (.getfield 93, 3) := dc_180 (a := 0) (b := 93) (by decide +kernel)
theorem dX12_digest_129 : decode cX12_digest 129 = .ok (.iload_n 3, 1) := dc_29 (by decide +kernel)
theorem dX12_digest_130 : decode cX12_digest 130 = .ok (.iaload, 1) := dc_46 (by decide +kernel)
theorem dX12_digest_131 : decode cX12_digest 131 = .ok (.i2l, 1) := dc_133 (by decide +kernel)
theorem dX12_digest_132 : decode cX12_digest 132 = .ok (.ladd, 1) := dc_97 (by decide +kernel)
theorem dX12_digest_133 : decode cX12_digest 133 = .ok (.lstore_n 1, 1) := dc_64 (by decide +kernel)
theorem dX12_digest_134 : decode cX12_digest 134 = .ok (.ldc2_w 449, 3) := dc_20 (a := 1) (b := 193) (by decide +kernel)
theorem dX12_digest_137 : decode cX12_digest 137 = .ok (.lload_n 1, 1) := dc_31 (by decide +kernel)
theorem dX12_digest_138 : decode cX12_digest 138 = .ok (.lmul, 1) := dc_105 (by decide +kernel)
theorem dX12_digest_139 : decode cX12_digest 139 = .ok (.aload_n 0, 1) := dc_42 (by decide +kernel)
theorem dX12_digest_140 : decode cX12_digest 140 = .ok (.getfield 105, 3) := dc_180 (a := 0) (b := 105) (by decide +kernel)
theorem dX12_digest_143 : decode cX12_digest 143 = .ok (.iload_n 3, 1) := dc_29 (by decide +kernel)
theorem dX12_digest_144 : decode cX12_digest 144 = .ok (.iaload, 1) := dc_46 (by decide +kernel)
theorem dX12_digest_145 : decode cX12_digest 145 = .ok (.i2l, 1) := dc_133 (by decide +kernel)
theorem dX12_digest_146 : decode cX12_digest 146 = .ok (.ladd, 1) := dc_97 (by decide +kernel)
theorem dX12_digest_147 : decode cX12_digest 147 = .ok (.lstore_n 1, 1) := dc_64 (by decide +kernel)
theorem dX12_digest_148 : decode cX12_digest 148 = .ok (.ldc2_w 449, 3) := dc_20 (a := 1) (b := 193) (by decide +kernel)
theorem dX12_digest_151 : decode cX12_digest 151 = .ok (.lload_n 1, 1) := dc_31 (by decide +kernel)
theorem dX12_digest_152 : decode cX12_digest 152 = .ok (.lmul, 1) := dc_105 (by decide +kernel)
theorem dX12_digest_153 : decode cX12_digest 153 = .ok (.aload_n 0, 1) := dc_42 (by decide +kernel)
theorem dX12_digest_154 : decode cX12_digest 154 = .ok (.getfield 96, 3) := dc_180 (a := 0) (b := 96) (by decide +kernel)
theorem dX12_digest_157 : decode cX12_digest 157 = .ok (.iload_n 3, 1) := dc_29 (by decide +kernel)
theorem dX12_digest_158 : decode cX12_digest 158 = .ok (.iaload, 1) := dc_46 (by decide +kernel)
theorem dX12_digest_159 : decode cX12_digest 159 = .ok (.i2l, 1) := dc_133 (by decide +kernel)
theorem dX12_digest_160 : decode cX12_digest 160 = .ok (.ladd, 1) := dc_97 (by decide +kernel)
theorem dX12_digest_161 : decode cX12_digest 161 = .ok (.lstore_n 1, 1) := dc_64 (by decide +kernel)
theorem dX12_digest_162 : decode cX12_digest 162 = .ok (.ldc2_w 449, 3) := dc_20 (a := 1) (b := 193) (by decide +kernel)
theorem dX12_digest_165 : decode cX12_digest 165 = .ok (.lload_n 1, 1) := dc_31 (by decide +kernel)
theorem dX12_digest_166 : decode cX12_digest 166 = .ok (.lmul, 1) := dc_105 (by decide +kernel)
theorem dX12_digest_167 : decode cX12_digest 167 = .ok (.aload_n 0, 1) := dc_42 (by decide +kernel)
theorem dX12_digest_168 : decode cX12_digest 168 = .ok (.getfield 117, 3) := dc_180 (a := 0) (b := 117) (by decide +kernel)
theorem dX12_digest_171 : decode cX12_digest 171 = .ok (.iload_n 3, 1) := dc_29 (by decide +kernel)
theorem dX12_digest_172 : decode cX12_digest 172 = .ok (.baload, 1) := dc_51 (by decide +kernel)
theorem dX12_digest_173 : decode cX12_digest 173 = .ok (.ifCond .eq 7, 3) := dc_153 (a := 0) (b := 7) (by decide +kernel) (by decide)
theorem dX12_digest_176 : decode cX12_digest 176 = .ok (.iconst 1, 1) := dc_4 (by decide +kernel)
theorem dX12_digest_177 : decode cX12_digest 177 = .ok (.goto 4, 3) := dc_167 (a := 0) (b := 4) (by decide +kernel) (by decide)
theorem dX12_digest_180 : decode cX12_digest 180 = .ok (.iconst 0, 1) := dc_3 (by decide +kernel)
theorem dX12_digest_181 : decode cX12_digest 181 = .ok (.i2l, 1) := dc_133 (by decide +kernel)
theorem dX12_digest_182 : decode cX12_digest 182 = .ok (.ladd, 1) := dc_97 (by decide +kernel)
theorem dX12_digest_183 : decode cX12_digest 183 = .ok (.lstore_n 1, 1) := dc_64 (by decide +kernel)
theorem dX12_digest_184 : decode cX12_digest 184 = .ok (.iinc 3 1, 3) := dc_132 (a := 3) (b := 1) (by decide +kernel) (by decide)
theorem dX12_digest_187 : decode cX12_digest 187 = .ok (.goto (-181), 3) := dc_167 (a := 255) (b := 75) (by decide +kernel) (by decide)
theorem dX12_digest_190 : decode cX12_digest 190 = .ok (.iconst 0, 1) := dc_3 (by decide +kernel)
theorem dX12_digest_191 : decode cX12_digest 191 = .ok (.istore_n 3, 1) := dc_62 (by decide +kernel)
theorem dX12_digest_192 : decode cX12_digest 192 = .ok (.iload_n 3, 1) := dc_29 (by decide +kernel)
theorem dX12_digest_193 : decode cX12_digest 193 = .ok (.aload_n 0, 1) := dc_42 (by decide +kernel)
theorem dX12_digest_194 : decode cX12_digest 194 = .ok (.getfield 217, 3) := dc_180 (a := 0) (b := 217) (by decide +kernel)
theorem dX12_digest_197 : decode cX12_digest 197 = .ok (.if_icmp .ge 37, 3) := dc_162 (a := 0) (b := 37) (by decide +kernel) (by decide)
theorem dX12_digest_200 : decode cX12_digest 200 = .ok (.ldc2_w 449, 3) := dc_20 (a := 1) (b := 193) (by decide +kernel)
theorem dX12_digest_203 : decode cX12_digest 203 = .ok (.lload_n 1, 1) := dc_31 (by decide +kernel)
theorem dX12_digest_204 : decode cX12_digest 204 = .ok (.lmul, 1) := dc_105 (by decide +kernel)
theorem dX12_digest_205 : decode cX12_digest 205 = .ok (.aload_n 0, 1) := dc_42 (by decide +kernel)
theorem dX12_digest_206 : decode cX12_digest 206 = .ok (.getfield 45, 3) := dc_180 (a := 0) (b := 45) (by decide +kernel)
theorem dX12_digest_209 : decode cX12_digest 209 = .ok (.iload_n 3, 1) := dc_29 (by decide +kernel)
theorem dX12_digest_210 : decode cX12_digest 210 = .ok (.iaload, 1) := dc_46 (by decide +kernel)
theorem dX12_digest_211 : decode cX12_digest 211 = .ok (.i2l, 1) := dc_133 (by decide +kernel)
theorem dX12_digest_212 : decode cX12_digest 212 = .ok (.ladd, 1) := dc_97 (by decide +kernel)
theorem dX12_digest_213 : decode cX12_digest 213 = .ok (.lstore_n 1, 1) := dc_64 (by decide +kernel)
theorem dX12_digest_214 : decode cX12_digest 214 = .ok (.ldc2_w 449, 3) := dc_20 (a := 1) (b := 193) (by decide +kernel)
theorem dX12_digest_217 : decode cX12_digest 217 = .ok (.lload_n 1, 1) := dc_31 (by decide +kernel)
theorem dX12_digest_218 : decode cX12_digest 218 = .ok (.lmul, 1) := dc_105 (by decide +kernel)
theorem dX12_digest_219 : decode cX12_digest 219 = .ok (.aload_n 0, 1) := dc_42 (by decide +kernel)
theorem dX12_digest_220 : decode cX12_digest 220 = .ok (.getfield 48, 3) := dc_180 (a := 0) (b := 48) (by decide +kernel)
theorem dX12_digest_223 : decode cX12_digest 223 = .ok (.iload_n 3, 1) := dc_29 (by decide +kernel)
theorem dX12_digest_224 : decode cX12_digest 224 = .ok (.iaload, 1) := dc_46 (by decide +kernel)
theorem dX12_digest_225 : decode cX12_digest 225 = .ok (.i2l, 1) := dc_133 (by decide +kernel)
theorem dX12_digest_226 : decode cX12_digest 226 = .ok (.ladd, 1) := dc_97 (by decide +kernel)
theorem dX12_digest_227 : decode cX12_digest 227 = .ok (.lstore_n 1, 1) := dc_64 (by decide +kernel)
theorem dX12_digest_228 : decode cX12_digest 228 = .ok (.iinc 3 1, 3) := dc_132 (a := 3) (b := 1) (by decide +kernel) (by decide)
theorem dX12_digest_231 : decode cX12_digest 231 = .ok (.goto (-39), 3) := dc_167 (a := 255) (b := 217) (by decide +kernel) (by decide)
theorem dX12_digest_234 : decode cX12_digest 234 = .ok (.lload_n 1, 1) := dc_31 (by decide +kernel)
theorem dX12_digest_235 : decode cX12_digest 235 = .ok (.lreturn, 1) := dc_173 (by decide +kernel)
set_option maxRecDepth 100000 in
set_option maxHeartbeats 4000000 in
theorem w_M_digest_L192 {p : Program} {l : Launch} {e : Env} {R : Room} {s : State} {m : MethodId} {args : Array Value} {below : List Frame} {meth : Method} {c : Code} {dC : Nat → ClassId} {dI : Nat → Nat → Nat} {cs : Nat → ClassId} {ad : Nat → Nat} {A : Nat → Prop} {D0 : Nat → Nat} {S' : SS} {r : Int64} (F : Fx p s m args meth c cX12_digest 4 RX12 (some .long) dC dI cs A) (hR1 : 0 ≤ R.frames) (hR2 : 0 ≤ R.locals) : ∀ (n : Nat) (x1 : Int64) (x3 : Int32) (S : SS), f_M_digest_L192 n x1 x3 S = some (r, S') → AW p l e R s m args below meth c dC dI cs ad A D0 (some (.long r)) S' 4 192 [(0, .ref (ad 0)), (1, .long x1), (3, .int x3)] [] S := by
  have hx := F.1.1
  have hb := F.1.2.1
  intro n
  induction n with
  | zero => intro x1 x3 S h; cases h
  | succ n ih =>
    intro x1 x3 S h H locs ls w hl
    rw [f_M_digest_L192] at h
    refine lv_iload_n (pc := 192) hx hb dX12_digest_192 rfl (lv_at hl 2 rfl) ?_
    refine lv_aload_n (pc := 193) hx hb dX12_digest_193 rfl (lv_at hl 0 rfl) ?_
    refine s_getI (pc := 194) F w ds_0 (j := 15) vc_X12 vi_X12 rfl (by decide) kf_X12_217 dX12_digest_194 ?_
    refine lv_icmp_ge (pc := 197) (tgt := 234) hx hb dX12_digest_197 (by decide) (fun q => ?_) (fun q => ?_)
    · have h := ite_t q h
      refine lv_lload_n (pc := 234) hx hb dX12_digest_234 rfl (lv_at hl 1 rfl) ?_
      exact s_lret F w h dX12_digest_235
    · have h := ite_f q h
      refine lv_ldc2 (pc := 200) (v := 31) hx hb F.1.2.2.2.1 (F.1.2.2.2.2 _ kk_X12_449) dX12_digest_200 ?_
      refine lv_lload_n (pc := 203) hx hb dX12_digest_203 rfl (lv_at hl 1 rfl) ?_
      refine lv_lmul (pc := 204) hx hb dX12_digest_204 ?_
      refine lv_aload_n (pc := 205) hx hb dX12_digest_205 rfl (lv_at hl 0 rfl) ?_
      refine s_getR (pc := 206) F w 10 ds_0 (j := 17) vc_X12 vi_X12 rfl (by decide) kf_X12_45 dX12_digest_206 ?_
      refine lv_iload_n (pc := 209) hx hb dX12_digest_209 rfl (lv_at hl 2 rfl) ?_
      refine s_iald (pc := 210) F w ds_10 h dX12_digest_210 (fun h => ?_)
      refine lv_i2l (pc := 211) hx hb dX12_digest_211 rfl ?_
      refine lv_ladd (pc := 212) hx hb dX12_digest_212 ?_
      refine s_nm h (fun z1 ez1 h => ?_)
      rw [← ez1]
      refine lv_lstore_n (pc := 213) (lv' := [(1, .long z1), (0, .ref (ad 0)), (3, .int x3)]) hx hb dX12_digest_213 rfl hl (by decide) rfl (fun ls hl => ?_)
      refine lv_ldc2 (pc := 214) (v := 31) hx hb F.1.2.2.2.1 (F.1.2.2.2.2 _ kk_X12_449) dX12_digest_214 ?_
      refine lv_lload_n (pc := 217) hx hb dX12_digest_217 rfl (lv_at hl 0 rfl) ?_
      refine lv_lmul (pc := 218) hx hb dX12_digest_218 ?_
      refine lv_aload_n (pc := 219) hx hb dX12_digest_219 rfl (lv_at hl 1 rfl) ?_
      refine s_getR (pc := 220) F w 11 ds_0 (j := 18) vc_X12 vi_X12 rfl (by decide) kf_X12_48 dX12_digest_220 ?_
      refine lv_iload_n (pc := 223) hx hb dX12_digest_223 rfl (lv_at hl 2 rfl) ?_
      refine s_iald (pc := 224) F w ds_11 h dX12_digest_224 (fun h => ?_)
      refine lv_i2l (pc := 225) hx hb dX12_digest_225 rfl ?_
      refine lv_ladd (pc := 226) hx hb dX12_digest_226 ?_
      refine s_nm h (fun z2 ez2 h => ?_)
      rw [← ez2]
      refine lv_lstore_n (pc := 227) (lv' := [(1, .long z2), (0, .ref (ad 0)), (3, .int x3)]) hx hb dX12_digest_227 rfl hl (by decide) rfl (fun ls hl => ?_)
      refine s_nm h (fun z3 ez3 h => ?_)
      refine lv_iinc (pc := 228) (v := z3) (lv' := [(3, .int z3), (1, .long z2), (0, .ref (ad 0))]) hx hb dX12_digest_228 hl (k := 2) rfl (by rw [ez3]; rfl) (by decide) rfl (fun ls hl => ?_)
      refine lv_goto (pc := 231) (tgt := 192) hx hb dX12_digest_231 (by decide) ?_
      exact ih _ _ _ h _ _ _ w (lv_sub hl [2, 1, 0] rfl)
set_option maxRecDepth 100000 in
set_option maxHeartbeats 4000000 in
theorem w_M_digest_j184 {p : Program} {l : Launch} {e : Env} {R : Room} {s : State} {m : MethodId} {args : Array Value} {below : List Frame} {meth : Method} {c : Code} {dC : Nat → ClassId} {dI : Nat → Nat → Nat} {cs : Nat → ClassId} {ad : Nat → Nat} {A : Nat → Prop} {D0 : Nat → Nat} {S' : SS} {r : Int64} (F : Fx p s m args meth c cX12_digest 4 RX12 (some .long) dC dI cs A) (hR1 : 0 ≤ R.frames) (hR2 : 0 ≤ R.locals) (K6 : Int64 → Int32 → SS → Option (Int64 × SS)) (hK6 : ∀ (v0 : Int64) (v1 : Int32) (S : SS), K6 v0 v1 S = some (r, S') → AW p l e R s m args below meth c dC dI cs ad A D0 (some (.long r)) S' 4 6 [(0, .ref (ad 0)), (1, .long v0), (3, .int v1)] [] S) (x1 : Int64) (x3 : Int32) (S : SS) (h : f_M_digest_j184 K6 x1 x3 S = some (r, S')) : AW p l e R s m args below meth c dC dI cs ad A D0 (some (.long r)) S' 4 184 [(0, .ref (ad 0)), (1, .long x1), (3, .int x3)] [] S := by
  have hx := F.1.1
  have hb := F.1.2.1
  intro H locs ls w hl
  rw [f_M_digest_j184] at h
  refine s_nm h (fun z13 ez13 h => ?_)
  refine lv_iinc (pc := 184) (v := z13) (lv' := [(3, .int z13), (0, .ref (ad 0)), (1, .long x1)]) hx hb dX12_digest_184 hl (k := 2) rfl (by rw [ez13]; rfl) (by decide) rfl (fun ls hl => ?_)
  refine lv_goto (pc := 187) (tgt := 6) hx hb dX12_digest_187 (by decide) ?_
  exact hK6 _ _ _ h _ _ _ w (lv_sub hl [1, 2, 0] rfl)
set_option maxRecDepth 100000 in
set_option maxHeartbeats 4000000 in
theorem w_M_digest_j181 {p : Program} {l : Launch} {e : Env} {R : Room} {s : State} {m : MethodId} {args : Array Value} {below : List Frame} {meth : Method} {c : Code} {dC : Nat → ClassId} {dI : Nat → Nat → Nat} {cs : Nat → ClassId} {ad : Nat → Nat} {A : Nat → Prop} {D0 : Nat → Nat} {S' : SS} {r : Int64} (F : Fx p s m args meth c cX12_digest 4 RX12 (some .long) dC dI cs A) (hR1 : 0 ≤ R.frames) (hR2 : 0 ≤ R.locals) (K6 : Int64 → Int32 → SS → Option (Int64 × SS)) (hK6 : ∀ (v0 : Int64) (v1 : Int32) (S : SS), K6 v0 v1 S = some (r, S') → AW p l e R s m args below meth c dC dI cs ad A D0 (some (.long r)) S' 4 6 [(0, .ref (ad 0)), (1, .long v0), (3, .int v1)] [] S) (x3 : Int32) (y0 : Int32) (y1 : Int64) (S : SS) (h : f_M_digest_j181 K6 x3 y0 y1 S = some (r, S')) : AW p l e R s m args below meth c dC dI cs ad A D0 (some (.long r)) S' 4 181 [(0, .ref (ad 0)), (3, .int x3)] [.int y0, .long y1] S := by
  have hx := F.1.1
  have hb := F.1.2.1
  intro H locs ls w hl
  rw [f_M_digest_j181] at h
  refine lv_i2l (pc := 181) hx hb dX12_digest_181 rfl ?_
  refine lv_ladd (pc := 182) hx hb dX12_digest_182 ?_
  refine s_nm h (fun z12 ez12 h => ?_)
  rw [← ez12]
  refine lv_lstore_n (pc := 183) (lv' := [(1, .long z12), (0, .ref (ad 0)), (3, .int x3)]) hx hb dX12_digest_183 rfl hl (by decide) rfl (fun ls hl => ?_)
  exact w_M_digest_j184 F (Nat.le_trans (by decide) hR1) (Nat.le_trans (by decide) hR2) _ hK6 _ _ _ h _ _ _ w (lv_sub hl [1, 0, 2] rfl)
set_option maxRecDepth 100000 in
set_option maxHeartbeats 4000000 in
theorem w_M_digest_L6 {p : Program} {l : Launch} {e : Env} {R : Room} {s : State} {m : MethodId} {args : Array Value} {below : List Frame} {meth : Method} {c : Code} {dC : Nat → ClassId} {dI : Nat → Nat → Nat} {cs : Nat → ClassId} {ad : Nat → Nat} {A : Nat → Prop} {D0 : Nat → Nat} {S' : SS} {r : Int64} (F : Fx p s m args meth c cX12_digest 4 RX12 (some .long) dC dI cs A) (hR1 : 0 ≤ R.frames) (hR2 : 0 ≤ R.locals) : ∀ (n : Nat) (x1 : Int64) (x3 : Int32) (S : SS), f_M_digest_L6 n x1 x3 S = some (r, S') → AW p l e R s m args below meth c dC dI cs ad A D0 (some (.long r)) S' 4 6 [(0, .ref (ad 0)), (1, .long x1), (3, .int x3)] [] S := by
  have hx := F.1.1
  have hb := F.1.2.1
  intro n
  induction n with
  | zero => intro x1 x3 S h; cases h
  | succ n ih =>
    intro x1 x3 S h H locs ls w hl
    rw [f_M_digest_L6] at h
    refine lv_iload_n (pc := 6) hx hb dX12_digest_6 rfl (lv_at hl 2 rfl) ?_
    refine lv_aload_n (pc := 7) hx hb dX12_digest_7 rfl (lv_at hl 0 rfl) ?_
    refine s_getI (pc := 8) F w ds_0 (j := 29) vc_X12 vi_X12 rfl (by decide) kf_X12_269 dX12_digest_8 ?_
    refine lv_icmp_ge (pc := 11) (tgt := 190) hx hb dX12_digest_11 (by decide) (fun q => ?_) (fun q => ?_)
    · have h := ite_t q h
      refine lv_iconst (pc := 190) (v := 0) hx hb dX12_digest_190 (by decide) ?_
      refine lv_istore_n (pc := 191) (lv' := [(3, .int (0 : Int32)), (0, .ref (ad 0)), (1, .long x1)]) hx hb dX12_digest_191 rfl hl (by decide) rfl (fun ls hl => ?_)
      exact w_M_digest_L192 F (Nat.le_trans (by decide) hR1) (Nat.le_trans (by decide) hR2) _ _ _ _ h _ _ _ w (lv_sub hl [1, 2, 0] rfl)
    · have h := ite_f q h
      refine lv_aload_n (pc := 14) hx hb dX12_digest_14 rfl (lv_at hl 0 rfl) ?_
      refine s_getR (pc := 15) F w 19 ds_0 (j := 31) vc_X12 vi_X12 rfl (by decide) kf_X12_72 dX12_digest_15 ?_
      refine lv_iload_n (pc := 18) hx hb dX12_digest_18 rfl (lv_at hl 2 rfl) ?_
      refine s_zald (pc := 19) F w ds_19 h dX12_digest_19 (fun h => ?_)
      refine lv_if_ne (pc := 20) (tgt := 34) hx hb dX12_digest_20 (by decide) (fun q => ?_) (fun q => ?_)
      · have h := ite_f q h
        refine lv_ldc2 (pc := 34) (v := 31) hx hb F.1.2.2.2.1 (F.1.2.2.2.2 _ kk_X12_449) dX12_digest_34 ?_
        refine lv_lload_n (pc := 37) hx hb dX12_digest_37 rfl (lv_at hl 1 rfl) ?_
        refine lv_lmul (pc := 38) hx hb dX12_digest_38 ?_
        refine lv_bipush (pc := 39) (v := 24) hx hb dX12_digest_39 (by decide) ?_
        refine lv_aload_n (pc := 41) hx hb dX12_digest_41 rfl (lv_at hl 0 rfl) ?_
        refine s_getR (pc := 42) F w 20 ds_0 (j := 32) vc_X12 vi_X12 rfl (by decide) kf_X12_75 dX12_digest_42 ?_
        refine lv_iload_n (pc := 45) hx hb dX12_digest_45 rfl (lv_at hl 2 rfl) ?_
        refine s_iald (pc := 46) F w ds_20 h dX12_digest_46 (fun h => ?_)
        refine lv_imul (pc := 47) hx hb dX12_digest_47 ?_
        refine lv_aload_n (pc := 48) hx hb dX12_digest_48 rfl (lv_at hl 0 rfl) ?_
        refine s_getR (pc := 49) F w 21 ds_0 (j := 33) vc_X12 vi_X12 rfl (by decide) kf_X12_78 dX12_digest_49 ?_
        refine lv_iload_n (pc := 52) hx hb dX12_digest_52 rfl (lv_at hl 2 rfl) ?_
        refine s_iald (pc := 53) F w ds_21 h dX12_digest_53 (fun h => ?_)
        refine lv_iadd (pc := 54) hx hb dX12_digest_54 ?_
        refine lv_i2l (pc := 55) hx hb dX12_digest_55 rfl ?_
        refine lv_ladd (pc := 56) hx hb dX12_digest_56 ?_
        refine s_nm h (fun z4 ez4 h => ?_)
        rw [← ez4]
        refine lv_lstore_n (pc := 57) (lv' := [(1, .long z4), (0, .ref (ad 0)), (3, .int x3)]) hx hb dX12_digest_57 rfl hl (by decide) rfl (fun ls hl => ?_)
        refine lv_ldc2 (pc := 58) (v := 31) hx hb F.1.2.2.2.1 (F.1.2.2.2.2 _ kk_X12_449) dX12_digest_58 ?_
        refine lv_lload_n (pc := 61) hx hb dX12_digest_61 rfl (lv_at hl 0 rfl) ?_
        refine lv_lmul (pc := 62) hx hb dX12_digest_62 ?_
        refine lv_aload_n (pc := 63) hx hb dX12_digest_63 rfl (lv_at hl 1 rfl) ?_
        refine s_getR (pc := 64) F w 22 ds_0 (j := 34) vc_X12 vi_X12 rfl (by decide) kf_X12_81 dX12_digest_64 ?_
        refine lv_iload_n (pc := 67) hx hb dX12_digest_67 rfl (lv_at hl 2 rfl) ?_
        refine s_iald (pc := 68) F w ds_22 h dX12_digest_68 (fun h => ?_)
        refine lv_i2l (pc := 69) hx hb dX12_digest_69 rfl ?_
        refine lv_ladd (pc := 70) hx hb dX12_digest_70 ?_
        refine s_nm h (fun z5 ez5 h => ?_)
        rw [← ez5]
        refine lv_lstore_n (pc := 71) (lv' := [(1, .long z5), (0, .ref (ad 0)), (3, .int x3)]) hx hb dX12_digest_71 rfl hl (by decide) rfl (fun ls hl => ?_)
        refine lv_ldc2 (pc := 72) (v := 31) hx hb F.1.2.2.2.1 (F.1.2.2.2.2 _ kk_X12_449) dX12_digest_72 ?_
        refine lv_lload_n (pc := 75) hx hb dX12_digest_75 rfl (lv_at hl 0 rfl) ?_
        refine lv_lmul (pc := 76) hx hb dX12_digest_76 ?_
        refine lv_aload_n (pc := 77) hx hb dX12_digest_77 rfl (lv_at hl 1 rfl) ?_
        refine s_getR (pc := 78) F w 23 ds_0 (j := 35) vc_X12 vi_X12 rfl (by decide) kf_X12_84 dX12_digest_78 ?_
        refine lv_iconst (pc := 81) (v := 2) hx hb dX12_digest_81 (by decide) ?_
        refine lv_iload_n (pc := 82) hx hb dX12_digest_82 rfl (lv_at hl 2 rfl) ?_
        refine lv_imul (pc := 83) hx hb dX12_digest_83 ?_
        refine s_iald (pc := 84) F w ds_23 h dX12_digest_84 (fun h => ?_)
        refine lv_i2l (pc := 85) hx hb dX12_digest_85 rfl ?_
        refine lv_ladd (pc := 86) hx hb dX12_digest_86 ?_
        refine s_nm h (fun z6 ez6 h => ?_)
        rw [← ez6]
        refine lv_lstore_n (pc := 87) (lv' := [(1, .long z6), (0, .ref (ad 0)), (3, .int x3)]) hx hb dX12_digest_87 rfl hl (by decide) rfl (fun ls hl => ?_)
        refine lv_ldc2 (pc := 88) (v := 31) hx hb F.1.2.2.2.1 (F.1.2.2.2.2 _ kk_X12_449) dX12_digest_88 ?_
        refine lv_lload_n (pc := 91) hx hb dX12_digest_91 rfl (lv_at hl 0 rfl) ?_
        refine lv_lmul (pc := 92) hx hb dX12_digest_92 ?_
        refine lv_aload_n (pc := 93) hx hb dX12_digest_93 rfl (lv_at hl 1 rfl) ?_
        refine s_getR (pc := 94) F w 23 ds_0 (j := 35) vc_X12 vi_X12 rfl (by decide) kf_X12_84 dX12_digest_94 ?_
        refine lv_iconst (pc := 97) (v := 2) hx hb dX12_digest_97 (by decide) ?_
        refine lv_iload_n (pc := 98) hx hb dX12_digest_98 rfl (lv_at hl 2 rfl) ?_
        refine lv_imul (pc := 99) hx hb dX12_digest_99 ?_
        refine lv_iconst (pc := 100) (v := 1) hx hb dX12_digest_100 (by decide) ?_
        refine lv_iadd (pc := 101) hx hb dX12_digest_101 ?_
        refine s_iald (pc := 102) F w ds_23 h dX12_digest_102 (fun h => ?_)
        refine lv_i2l (pc := 103) hx hb dX12_digest_103 rfl ?_
        refine lv_ladd (pc := 104) hx hb dX12_digest_104 ?_
        refine s_nm h (fun z7 ez7 h => ?_)
        rw [← ez7]
        refine lv_lstore_n (pc := 105) (lv' := [(1, .long z7), (0, .ref (ad 0)), (3, .int x3)]) hx hb dX12_digest_105 rfl hl (by decide) rfl (fun ls hl => ?_)
        refine lv_ldc2 (pc := 106) (v := 31) hx hb F.1.2.2.2.1 (F.1.2.2.2.2 _ kk_X12_449) dX12_digest_106 ?_
        refine lv_lload_n (pc := 109) hx hb dX12_digest_109 rfl (lv_at hl 0 rfl) ?_
        refine lv_lmul (pc := 110) hx hb dX12_digest_110 ?_
        refine lv_aload_n (pc := 111) hx hb dX12_digest_111 rfl (lv_at hl 1 rfl) ?_
        refine s_getR (pc := 112) F w 25 ds_0 (j := 37) vc_X12 vi_X12 rfl (by decide) kf_X12_90 dX12_digest_112 ?_
        refine lv_iload_n (pc := 115) hx hb dX12_digest_115 rfl (lv_at hl 2 rfl) ?_
        refine s_iald (pc := 116) F w ds_25 h dX12_digest_116 (fun h => ?_)
        refine lv_i2l (pc := 117) hx hb dX12_digest_117 rfl ?_
        refine lv_ladd (pc := 118) hx hb dX12_digest_118 ?_
        refine s_nm h (fun z8 ez8 h => ?_)
        rw [← ez8]
        refine lv_lstore_n (pc := 119) (lv' := [(1, .long z8), (0, .ref (ad 0)), (3, .int x3)]) hx hb dX12_digest_119 rfl hl (by decide) rfl (fun ls hl => ?_)
        refine lv_ldc2 (pc := 120) (v := 31) hx hb F.1.2.2.2.1 (F.1.2.2.2.2 _ kk_X12_449) dX12_digest_120 ?_
        refine lv_lload_n (pc := 123) hx hb dX12_digest_123 rfl (lv_at hl 0 rfl) ?_
        refine lv_lmul (pc := 124) hx hb dX12_digest_124 ?_
        refine lv_aload_n (pc := 125) hx hb dX12_digest_125 rfl (lv_at hl 1 rfl) ?_
        refine s_getR (pc := 126) F w 26 ds_0 (j := 38) vc_X12 vi_X12 rfl (by decide) kf_X12_93 dX12_digest_126 ?_
        refine lv_iload_n (pc := 129) hx hb dX12_digest_129 rfl (lv_at hl 2 rfl) ?_
        refine s_iald (pc := 130) F w ds_26 h dX12_digest_130 (fun h => ?_)
        refine lv_i2l (pc := 131) hx hb dX12_digest_131 rfl ?_
        refine lv_ladd (pc := 132) hx hb dX12_digest_132 ?_
        refine s_nm h (fun z9 ez9 h => ?_)
        rw [← ez9]
        refine lv_lstore_n (pc := 133) (lv' := [(1, .long z9), (0, .ref (ad 0)), (3, .int x3)]) hx hb dX12_digest_133 rfl hl (by decide) rfl (fun ls hl => ?_)
        refine lv_ldc2 (pc := 134) (v := 31) hx hb F.1.2.2.2.1 (F.1.2.2.2.2 _ kk_X12_449) dX12_digest_134 ?_
        refine lv_lload_n (pc := 137) hx hb dX12_digest_137 rfl (lv_at hl 0 rfl) ?_
        refine lv_lmul (pc := 138) hx hb dX12_digest_138 ?_
        refine lv_aload_n (pc := 139) hx hb dX12_digest_139 rfl (lv_at hl 1 rfl) ?_
        refine s_getR (pc := 140) F w 30 ds_0 (j := 42) vc_X12 vi_X12 rfl (by decide) kf_X12_105 dX12_digest_140 ?_
        refine lv_iload_n (pc := 143) hx hb dX12_digest_143 rfl (lv_at hl 2 rfl) ?_
        refine s_iald (pc := 144) F w ds_30 h dX12_digest_144 (fun h => ?_)
        refine lv_i2l (pc := 145) hx hb dX12_digest_145 rfl ?_
        refine lv_ladd (pc := 146) hx hb dX12_digest_146 ?_
        refine s_nm h (fun z10 ez10 h => ?_)
        rw [← ez10]
        refine lv_lstore_n (pc := 147) (lv' := [(1, .long z10), (0, .ref (ad 0)), (3, .int x3)]) hx hb dX12_digest_147 rfl hl (by decide) rfl (fun ls hl => ?_)
        refine lv_ldc2 (pc := 148) (v := 31) hx hb F.1.2.2.2.1 (F.1.2.2.2.2 _ kk_X12_449) dX12_digest_148 ?_
        refine lv_lload_n (pc := 151) hx hb dX12_digest_151 rfl (lv_at hl 0 rfl) ?_
        refine lv_lmul (pc := 152) hx hb dX12_digest_152 ?_
        refine lv_aload_n (pc := 153) hx hb dX12_digest_153 rfl (lv_at hl 1 rfl) ?_
        refine s_getR (pc := 154) F w 27 ds_0 (j := 39) vc_X12 vi_X12 rfl (by decide) kf_X12_96 dX12_digest_154 ?_
        refine lv_iload_n (pc := 157) hx hb dX12_digest_157 rfl (lv_at hl 2 rfl) ?_
        refine s_iald (pc := 158) F w ds_27 h dX12_digest_158 (fun h => ?_)
        refine lv_i2l (pc := 159) hx hb dX12_digest_159 rfl ?_
        refine lv_ladd (pc := 160) hx hb dX12_digest_160 ?_
        refine s_nm h (fun z11 ez11 h => ?_)
        rw [← ez11]
        refine lv_lstore_n (pc := 161) (lv' := [(1, .long z11), (0, .ref (ad 0)), (3, .int x3)]) hx hb dX12_digest_161 rfl hl (by decide) rfl (fun ls hl => ?_)
        refine lv_ldc2 (pc := 162) (v := 31) hx hb F.1.2.2.2.1 (F.1.2.2.2.2 _ kk_X12_449) dX12_digest_162 ?_
        refine lv_lload_n (pc := 165) hx hb dX12_digest_165 rfl (lv_at hl 0 rfl) ?_
        refine lv_lmul (pc := 166) hx hb dX12_digest_166 ?_
        refine lv_aload_n (pc := 167) hx hb dX12_digest_167 rfl (lv_at hl 1 rfl) ?_
        refine s_getR (pc := 168) F w 34 ds_0 (j := 46) vc_X12 vi_X12 rfl (by decide) kf_X12_117 dX12_digest_168 ?_
        refine lv_iload_n (pc := 171) hx hb dX12_digest_171 rfl (lv_at hl 2 rfl) ?_
        refine s_zald (pc := 172) F w ds_34 h dX12_digest_172 (fun h => ?_)
        refine lv_if_eq (pc := 173) (tgt := 180) hx hb dX12_digest_173 (by decide) (fun q => ?_) (fun q => ?_)
        · have h := ite_t q h
          refine lv_iconst (pc := 180) (v := 0) hx hb dX12_digest_180 (by decide) ?_
          exact w_M_digest_j181 F (Nat.le_trans (by decide) hR1) (Nat.le_trans (by decide) hR2) _ (fun v0 v1 S h => ih v0 v1 S h) _ _ _ _ h _ _ _ w (lv_sub hl [1, 2] rfl)
        · have h := ite_f q h
          refine lv_iconst (pc := 176) (v := 1) hx hb dX12_digest_176 (by decide) ?_
          refine lv_goto (pc := 177) (tgt := 181) hx hb dX12_digest_177 (by decide) ?_
          exact w_M_digest_j181 F (Nat.le_trans (by decide) hR1) (Nat.le_trans (by decide) hR2) _ (fun v0 v1 S h => ih v0 v1 S h) _ _ _ _ h _ _ _ w (lv_sub hl [1, 2] rfl)
      · have h := ite_t q h
        refine lv_ldc2 (pc := 23) (v := 31) hx hb F.1.2.2.2.1 (F.1.2.2.2.2 _ kk_X12_449) dX12_digest_23 ?_
        refine lv_lload_n (pc := 26) hx hb dX12_digest_26 rfl (lv_at hl 1 rfl) ?_
        refine lv_lmul (pc := 27) hx hb dX12_digest_27 ?_
        refine lv_lconst (pc := 28) (v := 1) hx hb dX12_digest_28 (by decide) ?_
        refine lv_lsub (pc := 29) hx hb dX12_digest_29 ?_
        refine s_nm h (fun z14 ez14 h => ?_)
        rw [← ez14]
        refine lv_lstore_n (pc := 30) (lv' := [(1, .long z14), (0, .ref (ad 0)), (3, .int x3)]) hx hb dX12_digest_30 rfl hl (by decide) rfl (fun ls hl => ?_)
        refine lv_goto (pc := 31) (tgt := 184) hx hb dX12_digest_31 (by decide) ?_
        exact w_M_digest_j184 F (Nat.le_trans (by decide) hR1) (Nat.le_trans (by decide) hR2) _ (fun v0 v1 S h => ih v0 v1 S h) _ _ _ h _ _ _ w (lv_sub hl [1, 0, 2] rfl)
set_option maxRecDepth 100000 in
set_option maxHeartbeats 4000000 in
theorem m_M_digest  (S S' : SS) (r : Int64) (h : f_M_digest  S = some (r, S')) : MT yX12_digest cX12_digest 4 (some .long) 0 0 (fun ad => [.ref (ad 0)]) S (some (.long r)) S' := by
  refine MT.of RX12 (fun ad => [(0, .ref (ad 0))]) (by decide) rfl (fun _ => Nat.le_of_ble_eq_true rfl) (fun _ => rfl) ?_
  intro p l e R s m args below meth c dC dI cs ad A hR1 hR2 F H locs ls w hl
  have hx := F.1.1
  have hb := F.1.2.1
  rw [f_M_digest] at h
  refine lv_ldc2 (pc := 0) (v := 7) hx hb F.1.2.2.2.1 (F.1.2.2.2.2 _ kk_X12_447) dX12_digest_0 ?_
  refine lv_lstore_n (pc := 3) (lv' := [(1, .long (7 : Int64)), (0, .ref (ad 0))]) hx hb dX12_digest_3 rfl hl (by decide) rfl (fun ls hl => ?_)
  refine lv_iconst (pc := 4) (v := 0) hx hb dX12_digest_4 (by decide) ?_
  refine lv_istore_n (pc := 5) (lv' := [(3, .int (0 : Int32)), (1, .long (7 : Int64)), (0, .ref (ad 0))]) hx hb dX12_digest_5 rfl hl (by decide) rfl (fun ls hl => ?_)
  exact w_M_digest_L6 F (Nat.le_trans (by decide) hR1) (Nat.le_trans (by decide) hR2) _ _ _ _ h _ _ _ w (lv_sub hl [2, 1, 0] rfl)
def f_M_log (a1 : Int32) (a2 : Int32) (S : SS) : Option (Int32 × SS) :=
  if a1 < 0 then
    some ((-1 : Int32), S)
  else
    if a2 < 0 then
      some ((-1 : Int32), S)
    else
      if a2 ≤ (1 : Int32) then
        if (40 : Int32) ≤ a1 then
          some ((-4 : Int32), S)
        else
          if a1 < (S.1 0 62) then
            nm ((((S.1 0 62) - (1 : Int32)) - a1) - (((S.1 0 62) - (1 : Int32)) - a1) / (40 : Int32) * (40 : Int32)) (fun z1 =>
            if a2 = 0 then
              grd (inb z1 40) (
              some (S.1 41 z1.toNatClampNeg, S))
            else
              grd (inb z1 40) (
              some (S.1 42 z1.toNatClampNeg, S)))
          else
            some ((-4 : Int32), S)
      else
        some ((-1 : Int32), S)
theorem dX12_log_0 : decode cX12_log 0 = .ok (.iload_n 1, 1) := dc_27 (by decide +kernel)
theorem dX12_log_1 : decode cX12_log 1 = .ok (.ifCond .lt 12, 3) := dc_155 (a := 0) (b := 12) (by decide +kernel) (by decide)
theorem dX12_log_4 : decode cX12_log 4 = .ok (.iload_n 2, 1) := dc_28 (by decide +kernel)
theorem dX12_log_5 : decode cX12_log 5 = .ok (.ifCond .lt 8, 3) := dc_155 (a := 0) (b := 8) (by decide +kernel) (by decide)
theorem dX12_log_8 : decode cX12_log 8 = .ok (.iload_n 2, 1) := dc_28 (by decide +kernel)
theorem dX12_log_9 : decode cX12_log 9 = .ok (.iconst 1, 1) := dc_4 (by decide +kernel)
theorem dX12_log_10 : decode cX12_log 10 = .ok (.if_icmp .le 5, 3) := dc_164 (a := 0) (b := 5) (by decide +kernel) (by decide)
theorem dX12_log_13 : decode cX12_log 13 = .ok (.iconst (-1), 1) := dc_2 (by decide +kernel)
theorem dX12_log_14 : decode cX12_log 14 = .ok (.ireturn, 1) := dc_172 (by decide +kernel)
theorem dX12_log_15 : decode cX12_log 15 = .ok (.iload_n 1, 1) := dc_27 (by decide +kernel)
theorem dX12_log_16 : decode cX12_log 16 = .ok (.bipush 40, 2) := dc_16 (a := 40) (by decide +kernel) (by decide)
theorem dX12_log_18 : decode cX12_log 18 = .ok (.if_icmp .ge 11, 3) := dc_162 (a := 0) (b := 11) (by decide +kernel) (by decide)
theorem dX12_log_21 : decode cX12_log 21 = .ok (.iload_n 1, 1) := dc_27 (by decide +kernel)
theorem dX12_log_22 : decode cX12_log 22 = .ok (.aload_n 0, 1) := dc_42 (by decide +kernel)
theorem dX12_log_23 : decode cX12_log 23 = .ok (.getfield 340, 3) := dc_180 (a := 1) (b := 84) (by decide +kernel)
theorem dX12_log_26 : decode cX12_log 26 = .ok (.if_icmp .lt 6, 3) := dc_161 (a := 0) (b := 6) (by decide +kernel) (by decide)
theorem dX12_log_29 : decode cX12_log 29 = .ok (.bipush (-4), 2) := dc_16 (a := 252) (by decide +kernel) (by decide)
theorem dX12_log_31 : decode cX12_log 31 = .ok (.ireturn, 1) := dc_172 (by decide +kernel)
theorem dX12_log_32 : decode cX12_log 32 = .ok (.aload_n 0, 1) := dc_42 (by decide +kernel)
theorem dX12_log_33 : decode cX12_log 33 = .ok (.getfield 340, 3) := dc_180 (a := 1) (b := 84) (by decide +kernel)
theorem dX12_log_36 : decode cX12_log 36 = .ok (.iconst 1, 1) := dc_4 (by decide +kernel)
theorem dX12_log_37 : decode cX12_log 37 = .ok (.isub, 1) := dc_100 (by decide +kernel)
theorem dX12_log_38 : decode cX12_log 38 = .ok (.iload_n 1, 1) := dc_27 (by decide +kernel)
theorem dX12_log_39 : decode cX12_log 39 = .ok (.isub, 1) := dc_100 (by decide +kernel)
theorem dX12_log_40 : decode cX12_log 40 = .ok (.bipush 40, 2) := dc_16 (a := 40) (by decide +kernel) (by decide)
theorem dX12_log_42 : decode cX12_log 42 = .ok (.irem, 1) := dc_112 (by decide +kernel)
theorem dX12_log_43 : decode cX12_log 43 = .ok (.istore_n 3, 1) := dc_62 (by decide +kernel)
theorem dX12_log_44 : decode cX12_log 44 = .ok (.iload_n 2, 1) := dc_28 (by decide +kernel)
theorem dX12_log_45 : decode cX12_log 45 = .ok (.ifCond .ne 12, 3) := dc_154 (a := 0) (b := 12) (by decide +kernel) (by decide)
theorem dX12_log_48 : decode cX12_log 48 = .ok (.aload_n 0, 1) := dc_42 (by decide +kernel)
theorem dX12_log_49 : decode cX12_log 49 = .ok (.getfield 138, 3) := dc_180 (a := 0) (b := 138) (by decide +kernel)
theorem dX12_log_52 : decode cX12_log 52 = .ok (.iload_n 3, 1) := dc_29 (by decide +kernel)
theorem dX12_log_53 : decode cX12_log 53 = .ok (.iaload, 1) := dc_46 (by decide +kernel)
theorem dX12_log_54 : decode cX12_log 54 = .ok (.goto 9, 3) := dc_167 (a := 0) (b := 9) (by decide +kernel) (by decide)
theorem dX12_log_57 : decode cX12_log 57 = .ok (.aload_n 0, 1) := dc_42 (by decide +kernel)
theorem dX12_log_58 : decode cX12_log 58 = .ok (.getfield 141, 3) := dc_180 (a := 0) (b := 141) (by decide +kernel)
theorem dX12_log_61 : decode cX12_log 61 = .ok (.iload_n 3, 1) := dc_29 (by decide +kernel)
theorem dX12_log_62 : decode cX12_log 62 = .ok (.iaload, 1) := dc_46 (by decide +kernel)
theorem dX12_log_63 : decode cX12_log 63 = .ok (.ireturn, 1) := dc_172 (by decide +kernel)
set_option maxRecDepth 100000 in
set_option maxHeartbeats 4000000 in
theorem m_M_log (a1 : Int32) (a2 : Int32) (S S' : SS) (r : Int32) (h : f_M_log a1 a2 S = some (r, S')) : MT yX12_log cX12_log 4 (some .int) 0 0 (fun ad => [.ref (ad 0), .int a1, .int a2]) S (some (.int r)) S' := by
  refine MT.of RX12 (fun ad => [(0, .ref (ad 0)), (1, .int a1), (2, .int a2)]) (by decide) rfl (fun _ => Nat.le_of_ble_eq_true rfl) (fun _ => rfl) ?_
  intro p l e R s m args below meth c dC dI cs ad A hR1 hR2 F H locs ls w hl
  have hx := F.1.1
  have hb := F.1.2.1
  rw [f_M_log] at h
  refine lv_iload_n (pc := 0) hx hb dX12_log_0 rfl (lv_at hl 1 rfl) ?_
  refine lv_if_lt (pc := 1) (tgt := 13) hx hb dX12_log_1 (by decide) (fun q => ?_) (fun q => ?_)
  · have h := ite_t q h
    refine lv_iconst (pc := 13) (v := -1) hx hb dX12_log_13 (by decide) ?_
    exact s_iret F w h dX12_log_14
  · have h := ite_f q h
    refine lv_iload_n (pc := 4) hx hb dX12_log_4 rfl (lv_at hl 2 rfl) ?_
    refine lv_if_lt (pc := 5) (tgt := 13) hx hb dX12_log_5 (by decide) (fun q => ?_) (fun q => ?_)
    · have h := ite_t q h
      refine lv_iconst (pc := 13) (v := -1) hx hb dX12_log_13 (by decide) ?_
      exact s_iret F w h dX12_log_14
    · have h := ite_f q h
      refine lv_iload_n (pc := 8) hx hb dX12_log_8 rfl (lv_at hl 2 rfl) ?_
      refine lv_iconst (pc := 9) (v := 1) hx hb dX12_log_9 (by decide) ?_
      refine lv_icmp_le (pc := 10) (tgt := 15) hx hb dX12_log_10 (by decide) (fun q => ?_) (fun q => ?_)
      · have h := ite_t q h
        refine lv_iload_n (pc := 15) hx hb dX12_log_15 rfl (lv_at hl 1 rfl) ?_
        refine lv_bipush (pc := 16) (v := 40) hx hb dX12_log_16 (by decide) ?_
        refine lv_icmp_ge (pc := 18) (tgt := 29) hx hb dX12_log_18 (by decide) (fun q => ?_) (fun q => ?_)
        · have h := ite_t q h
          refine lv_bipush (pc := 29) (v := -4) hx hb dX12_log_29 (by decide) ?_
          exact s_iret F w h dX12_log_31
        · have h := ite_f q h
          refine lv_iload_n (pc := 21) hx hb dX12_log_21 rfl (lv_at hl 1 rfl) ?_
          refine lv_aload_n (pc := 22) hx hb dX12_log_22 rfl (lv_at hl 0 rfl) ?_
          refine s_getI (pc := 23) F w ds_0 (j := 62) vc_X12 vi_X12 rfl (by decide) kf_X12_340 dX12_log_23 ?_
          refine lv_icmp_lt (pc := 26) (tgt := 32) hx hb dX12_log_26 (by decide) (fun q => ?_) (fun q => ?_)
          · have h := ite_t q h
            refine lv_aload_n (pc := 32) hx hb dX12_log_32 rfl (lv_at hl 0 rfl) ?_
            refine s_getI (pc := 33) F w ds_0 (j := 62) vc_X12 vi_X12 rfl (by decide) kf_X12_340 dX12_log_33 ?_
            refine lv_iconst (pc := 36) (v := 1) hx hb dX12_log_36 (by decide) ?_
            refine lv_isub (pc := 37) hx hb dX12_log_37 ?_
            refine lv_iload_n (pc := 38) hx hb dX12_log_38 rfl (lv_at hl 1 rfl) ?_
            refine lv_isub (pc := 39) hx hb dX12_log_39 ?_
            refine lv_bipush (pc := 40) (v := 40) hx hb dX12_log_40 (by decide) ?_
            refine lv_irem (pc := 42) hx hb dX12_log_42 (by decide) ?_
            refine s_nm h (fun z1 ez1 h => ?_)
            rw [← ez1]
            refine lv_istore_n (pc := 43) (lv' := [(3, .int z1), (0, .ref (ad 0)), (1, .int a1), (2, .int a2)]) hx hb dX12_log_43 rfl hl (by decide) rfl (fun ls hl => ?_)
            refine lv_iload_n (pc := 44) hx hb dX12_log_44 rfl (lv_at hl 3 rfl) ?_
            refine lv_if_ne (pc := 45) (tgt := 57) hx hb dX12_log_45 (by decide) (fun q => ?_) (fun q => ?_)
            · have h := ite_f q h
              refine lv_aload_n (pc := 57) hx hb dX12_log_57 rfl (lv_at hl 1 rfl) ?_
              refine s_getR (pc := 58) F w 42 ds_0 (j := 64) vc_X12 vi_X12 rfl (by decide) kf_X12_141 dX12_log_58 ?_
              refine lv_iload_n (pc := 61) hx hb dX12_log_61 rfl (lv_at hl 0 rfl) ?_
              refine s_iald (pc := 62) F w ds_42 h dX12_log_62 (fun h => ?_)
              exact s_iret F w h dX12_log_63
            · have h := ite_t q h
              refine lv_aload_n (pc := 48) hx hb dX12_log_48 rfl (lv_at hl 1 rfl) ?_
              refine s_getR (pc := 49) F w 41 ds_0 (j := 63) vc_X12 vi_X12 rfl (by decide) kf_X12_138 dX12_log_49 ?_
              refine lv_iload_n (pc := 52) hx hb dX12_log_52 rfl (lv_at hl 0 rfl) ?_
              refine s_iald (pc := 53) F w ds_41 h dX12_log_53 (fun h => ?_)
              refine lv_goto (pc := 54) (tgt := 63) hx hb dX12_log_54 (by decide) ?_
              exact s_iret F w h dX12_log_63
          · have h := ite_f q h
            refine lv_bipush (pc := 29) (v := -4) hx hb dX12_log_29 (by decide) ?_
            exact s_iret F w h dX12_log_31
      · have h := ite_f q h
        refine lv_iconst (pc := 13) (v := -1) hx hb dX12_log_13 (by decide) ?_
        exact s_iret F w h dX12_log_14
def f_M_room (a1 : Int32) (a2 : Int32) (S : SS) : Option (Int32 × SS) :=
  if a1 < 0 then
    some ((-1 : Int32), S)
  else
    if (4 : Int32) ≤ a1 then
      some ((-1 : Int32), S)
    else
      if a2 < (1 : Int32) then
        some ((-1 : Int32), S)
      else
        if (10 : Int32) < a2 then
          some ((-1 : Int32), S)
        else
          grd (inb a1 4) (
          if a2 < (S.1 47 a1.toNatClampNeg) then
            some ((-1 : Int32), S)
          else
            grd (inb a1 4) (
            if (S.1 49 a1.toNatClampNeg) ≤ a2 then
              grd (inb a1 4) (
              nm (S.1 46 a1.toNatClampNeg) (fun z1 =>
              grd (inb a1 4) (wr S 46 a1.toNatClampNeg a2 (fun S2 =>
              some (z1, S2)))))
            else
              some ((-1 : Int32), S)))
theorem dX12_room_0 : decode cX12_room 0 = .ok (.iload_n 1, 1) := dc_27 (by decide +kernel)
theorem dX12_room_1 : decode cX12_room 1 = .ok (.ifCond .lt 39, 3) := dc_155 (a := 0) (b := 39) (by decide +kernel) (by decide)
theorem dX12_room_4 : decode cX12_room 4 = .ok (.iload_n 1, 1) := dc_27 (by decide +kernel)
theorem dX12_room_5 : decode cX12_room 5 = .ok (.iconst 4, 1) := dc_7 (by decide +kernel)
theorem dX12_room_6 : decode cX12_room 6 = .ok (.if_icmp .ge 34, 3) := dc_162 (a := 0) (b := 34) (by decide +kernel) (by decide)
theorem dX12_room_9 : decode cX12_room 9 = .ok (.iload_n 2, 1) := dc_28 (by decide +kernel)
theorem dX12_room_10 : decode cX12_room 10 = .ok (.iconst 1, 1) := dc_4 (by decide +kernel)
theorem dX12_room_11 : decode cX12_room 11 = .ok (.if_icmp .lt 29, 3) := dc_161 (a := 0) (b := 29) (by decide +kernel) (by decide)
theorem dX12_room_14 : decode cX12_room 14 = .ok (.iload_n 2, 1) := dc_28 (by decide +kernel)
theorem dX12_room_15 : decode cX12_room 15 = .ok (.bipush 10, 2) := dc_16 (a := 10) (by decide +kernel) (by decide)
theorem dX12_room_17 : decode cX12_room 17 = .ok (.if_icmp .gt 23, 3) := dc_163 (a := 0) (b := 23) (by decide +kernel) (by decide)
theorem dX12_room_20 : decode cX12_room 20 = .ok (.aload_n 0, 1) := dc_42 (by decide +kernel)
theorem dX12_room_21 : decode cX12_room 21 = .ok (.getfield 156, 3) := dc_180 (a := 0) (b := 156) (by decide +kernel)
theorem dX12_room_24 : decode cX12_room 24 = .ok (.iload_n 1, 1) := dc_27 (by decide +kernel)
theorem dX12_room_25 : decode cX12_room 25 = .ok (.iaload, 1) := dc_46 (by decide +kernel)
theorem dX12_room_26 : decode cX12_room 26 = .ok (.iload_n 2, 1) := dc_28 (by decide +kernel)
theorem dX12_room_27 : decode cX12_room 27 = .ok (.if_icmp .gt 13, 3) := dc_163 (a := 0) (b := 13) (by decide +kernel) (by decide)
theorem dX12_room_30 : decode cX12_room 30 = .ok (.aload_n 0, 1) := dc_42 (by decide +kernel)
theorem dX12_room_31 : decode cX12_room 31 = .ok (.getfield 162, 3) := dc_180 (a := 0) (b := 162) (by decide +kernel)
theorem dX12_room_34 : decode cX12_room 34 = .ok (.iload_n 1, 1) := dc_27 (by decide +kernel)
theorem dX12_room_35 : decode cX12_room 35 = .ok (.iaload, 1) := dc_46 (by decide +kernel)
theorem dX12_room_36 : decode cX12_room 36 = .ok (.iload_n 2, 1) := dc_28 (by decide +kernel)
theorem dX12_room_37 : decode cX12_room 37 = .ok (.if_icmp .le 5, 3) := dc_164 (a := 0) (b := 5) (by decide +kernel) (by decide)
theorem dX12_room_40 : decode cX12_room 40 = .ok (.iconst (-1), 1) := dc_2 (by decide +kernel)
theorem dX12_room_41 : decode cX12_room 41 = .ok (.ireturn, 1) := dc_172 (by decide +kernel)
theorem dX12_room_42 : decode cX12_room 42 = .ok (.aload_n 0, 1) := dc_42 (by decide +kernel)
theorem dX12_room_43 : decode cX12_room 43 = .ok (.getfield 153, 3) := dc_180 (a := 0) (b := 153) (by decide +kernel)
theorem dX12_room_46 : decode cX12_room 46 = .ok (.iload_n 1, 1) := dc_27 (by decide +kernel)
theorem dX12_room_47 : decode cX12_room 47 = .ok (.iaload, 1) := dc_46 (by decide +kernel)
theorem dX12_room_48 : decode cX12_room 48 = .ok (.istore_n 3, 1) := dc_62 (by decide +kernel)
theorem dX12_room_49 : decode cX12_room 49 = .ok (.aload_n 0, 1) := dc_42 (by decide +kernel)
theorem dX12_room_50 : decode cX12_room 50 = .ok (.getfield 153, 3) := dc_180 (a := 0) (b := 153) (by decide +kernel)
theorem dX12_room_53 : decode cX12_room 53 = .ok (.iload_n 1, 1) := dc_27 (by decide +kernel)
theorem dX12_room_54 : decode cX12_room 54 = .ok (.iload_n 2, 1) := dc_28 (by decide +kernel)
theorem dX12_room_55 : decode cX12_room 55 = .ok (.iastore, 1) := dc_79 (by decide +kernel)
theorem dX12_room_56 : decode cX12_room 56 = .ok (.iload_n 3, 1) := dc_29 (by decide +kernel)
theorem dX12_room_57 : decode cX12_room 57 = .ok (.ireturn, 1) := dc_172 (by decide +kernel)
set_option maxRecDepth 100000 in
set_option maxHeartbeats 4000000 in
theorem m_M_room (a1 : Int32) (a2 : Int32) (S S' : SS) (r : Int32) (h : f_M_room a1 a2 S = some (r, S')) : MT yX12_room cX12_room 4 (some .int) 0 0 (fun ad => [.ref (ad 0), .int a1, .int a2]) S (some (.int r)) S' := by
  refine MT.of RX12 (fun ad => [(0, .ref (ad 0)), (1, .int a1), (2, .int a2)]) (by decide) rfl (fun _ => Nat.le_of_ble_eq_true rfl) (fun _ => rfl) ?_
  intro p l e R s m args below meth c dC dI cs ad A hR1 hR2 F H locs ls w hl
  have hx := F.1.1
  have hb := F.1.2.1
  rw [f_M_room] at h
  refine lv_iload_n (pc := 0) hx hb dX12_room_0 rfl (lv_at hl 1 rfl) ?_
  refine lv_if_lt (pc := 1) (tgt := 40) hx hb dX12_room_1 (by decide) (fun q => ?_) (fun q => ?_)
  · have h := ite_t q h
    refine lv_iconst (pc := 40) (v := -1) hx hb dX12_room_40 (by decide) ?_
    exact s_iret F w h dX12_room_41
  · have h := ite_f q h
    refine lv_iload_n (pc := 4) hx hb dX12_room_4 rfl (lv_at hl 1 rfl) ?_
    refine lv_iconst (pc := 5) (v := 4) hx hb dX12_room_5 (by decide) ?_
    refine lv_icmp_ge (pc := 6) (tgt := 40) hx hb dX12_room_6 (by decide) (fun q => ?_) (fun q => ?_)
    · have h := ite_t q h
      refine lv_iconst (pc := 40) (v := -1) hx hb dX12_room_40 (by decide) ?_
      exact s_iret F w h dX12_room_41
    · have h := ite_f q h
      refine lv_iload_n (pc := 9) hx hb dX12_room_9 rfl (lv_at hl 2 rfl) ?_
      refine lv_iconst (pc := 10) (v := 1) hx hb dX12_room_10 (by decide) ?_
      refine lv_icmp_lt (pc := 11) (tgt := 40) hx hb dX12_room_11 (by decide) (fun q => ?_) (fun q => ?_)
      · have h := ite_t q h
        refine lv_iconst (pc := 40) (v := -1) hx hb dX12_room_40 (by decide) ?_
        exact s_iret F w h dX12_room_41
      · have h := ite_f q h
        refine lv_iload_n (pc := 14) hx hb dX12_room_14 rfl (lv_at hl 2 rfl) ?_
        refine lv_bipush (pc := 15) (v := 10) hx hb dX12_room_15 (by decide) ?_
        refine lv_icmp_gt (pc := 17) (tgt := 40) hx hb dX12_room_17 (by decide) (fun q => ?_) (fun q => ?_)
        · have h := ite_t q h
          refine lv_iconst (pc := 40) (v := -1) hx hb dX12_room_40 (by decide) ?_
          exact s_iret F w h dX12_room_41
        · have h := ite_f q h
          refine lv_aload_n (pc := 20) hx hb dX12_room_20 rfl (lv_at hl 0 rfl) ?_
          refine s_getR (pc := 21) F w 47 ds_0 (j := 72) vc_X12 vi_X12 rfl (by decide) kf_X12_156 dX12_room_21 ?_
          refine lv_iload_n (pc := 24) hx hb dX12_room_24 rfl (lv_at hl 1 rfl) ?_
          refine s_iald (pc := 25) F w ds_47 h dX12_room_25 (fun h => ?_)
          refine lv_iload_n (pc := 26) hx hb dX12_room_26 rfl (lv_at hl 2 rfl) ?_
          refine lv_icmp_gt (pc := 27) (tgt := 40) hx hb dX12_room_27 (by decide) (fun q => ?_) (fun q => ?_)
          · have h := ite_t q h
            refine lv_iconst (pc := 40) (v := -1) hx hb dX12_room_40 (by decide) ?_
            exact s_iret F w h dX12_room_41
          · have h := ite_f q h
            refine lv_aload_n (pc := 30) hx hb dX12_room_30 rfl (lv_at hl 0 rfl) ?_
            refine s_getR (pc := 31) F w 49 ds_0 (j := 74) vc_X12 vi_X12 rfl (by decide) kf_X12_162 dX12_room_31 ?_
            refine lv_iload_n (pc := 34) hx hb dX12_room_34 rfl (lv_at hl 1 rfl) ?_
            refine s_iald (pc := 35) F w ds_49 h dX12_room_35 (fun h => ?_)
            refine lv_iload_n (pc := 36) hx hb dX12_room_36 rfl (lv_at hl 2 rfl) ?_
            refine lv_icmp_le (pc := 37) (tgt := 42) hx hb dX12_room_37 (by decide) (fun q => ?_) (fun q => ?_)
            · have h := ite_t q h
              refine lv_aload_n (pc := 42) hx hb dX12_room_42 rfl (lv_at hl 0 rfl) ?_
              refine s_getR (pc := 43) F w 46 ds_0 (j := 71) vc_X12 vi_X12 rfl (by decide) kf_X12_153 dX12_room_43 ?_
              refine lv_iload_n (pc := 46) hx hb dX12_room_46 rfl (lv_at hl 1 rfl) ?_
              refine s_iald (pc := 47) F w ds_46 h dX12_room_47 (fun h => ?_)
              refine s_nm h (fun z1 ez1 h => ?_)
              rw [← ez1]
              refine lv_istore_n (pc := 48) (lv' := [(3, .int z1), (0, .ref (ad 0)), (1, .int a1), (2, .int a2)]) hx hb dX12_room_48 rfl hl (by decide) rfl (fun ls hl => ?_)
              refine lv_aload_n (pc := 49) hx hb dX12_room_49 rfl (lv_at hl 1 rfl) ?_
              refine s_getR (pc := 50) F w 46 ds_0 (j := 71) vc_X12 vi_X12 rfl (by decide) kf_X12_153 dX12_room_50 ?_
              refine lv_iload_n (pc := 53) hx hb dX12_room_53 rfl (lv_at hl 2 rfl) ?_
              refine lv_iload_n (pc := 54) hx hb dX12_room_54 rfl (lv_at hl 3 rfl) ?_
              refine s_iast (pc := 55) F w ds_46 h dX12_room_55 (fun S2 H locs h w => ?_)
              refine lv_iload_n (pc := 56) hx hb dX12_room_56 rfl (lv_at hl 0 rfl) ?_
              exact s_iret F w h dX12_room_57
            · have h := ite_f q h
              refine lv_iconst (pc := 40) (v := -1) hx hb dX12_room_40 (by decide) ?_
              exact s_iret F w h dX12_room_41
def f_M_has_M_startMany_M_startOn_j46 (K14 : Int32 → Int32 → Int32 → Int32 → SS → Option (Int32 × SS)) (x2 : Int32) (x4 : Int32) (x5 : Int32) (y0 : Int32) (S : SS) : Option (Int32 × SS) :=
    nm (x5 + (1 : Int32)) (fun z2 =>
    K14 x2 y0 x4 z2 S)
def f_M_has_M_startMany_M_startOn_j41 (K14 : Int32 → Int32 → Int32 → Int32 → SS → Option (Int32 × SS)) (x2 : Int32) (x4 : Int32) (x5 : Int32) (S : SS) : Option (Int32 × SS) :=
    f_M_has_M_startMany_M_startOn_j46 K14 x2 x4 x5 (1 : Int32) S
def f_M_has_M_startMany_M_startOn_L14 (K5 : Int32 → Int32 → Int32 → SS → Option (Int32 × SS)) : Nat → Int32 → Int32 → Int32 → Int32 → SS → Option (Int32 × SS)
  | 0, _, _, _, _, _ => none
  | n + 1, x2, x3, x4, x5, S =>
    grd (inb x4 4) (
    if (S.1 47 x4.toNatClampNeg) ≤ x5 then
      nm (x4 + (1 : Int32)) (fun z1 =>
      K5 x2 x3 z1 S)
    else
      if x3 = 0 then
        grd (inb (((10 : Int32) * x4) + x5) 40) (
        if (S.1 48 (((10 : Int32) * x4) + x5).toNatClampNeg) = x2 then
          f_M_has_M_startMany_M_startOn_j41 (fun v0 v1 v2 v3 S => f_M_has_M_startMany_M_startOn_L14 K5 n v0 v1 v2 v3 S) x2 x4 x5 S
        else
          f_M_has_M_startMany_M_startOn_j46 (fun v0 v1 v2 v3 S => f_M_has_M_startMany_M_startOn_L14 K5 n v0 v1 v2 v3 S) x2 x4 x5 (0 : Int32) S)
      else
        f_M_has_M_startMany_M_startOn_j41 (fun v0 v1 v2 v3 S => f_M_has_M_startMany_M_startOn_L14 K5 n v0 v1 v2 v3 S) x2 x4 x5 S)
def f_M_has_M_startMany_M_startOn_L5  : Nat → Int32 → Int32 → Int32 → SS → Option (Int32 × SS)
  | 0, _, _, _, _ => none
  | n + 1, x2, x3, x4, S =>
    if (4 : Int32) ≤ x4 then
      grd (isB x3) (some (x3, S))
    else
      f_M_has_M_startMany_M_startOn_L14 (fun v0 v1 v2 S => f_M_has_M_startMany_M_startOn_L5 n v0 v1 v2 S) NF x2 x3 x4 (0 : Int32) S
def f_M_has_M_startMany_M_startOn (a2 : Int32) (S : SS) : Option (Int32 × SS) :=
  f_M_has_M_startMany_M_startOn_L5 NF a2 (0 : Int32) (0 : Int32) S
theorem dX12_has_0 : decode cX12_has 0 = .ok (.iconst 0, 1) := dc_3 (by decide +kernel)
theorem dX12_has_1 : decode cX12_has 1 = .ok (.istore_n 3, 1) := dc_62 (by decide +kernel)
theorem dX12_has_2 : decode cX12_has 2 = .ok (.iconst 0, 1) := dc_3 (by decide +kernel)
theorem dX12_has_3 : decode cX12_has 3 = .ok (.istore 4, 2) := dc_54 (a := 4) (by decide +kernel)
theorem dX12_has_5 : decode cX12_has 5 = .ok (.iload 4, 2) := dc_21 (a := 4) (by decide +kernel)
theorem dX12_has_7 : decode cX12_has 7 = .ok (.iconst 4, 1) := dc_7 (by decide +kernel)
theorem dX12_has_8 : decode cX12_has 8 = .ok (.if_icmp .ge 51, 3) := dc_162 (a := 0) (b := 51) (by decide +kernel) (by decide)
theorem dX12_has_11 : decode cX12_has 11 = .ok (.iconst 0, 1) := dc_3 (by decide +kernel)
theorem dX12_has_12 : decode cX12_has 12 = .ok (.istore 5, 2) := dc_54 (a := 5) (by decide +kernel)
theorem dX12_has_14 : decode cX12_has 14 = .ok (.iload 5, 2) := dc_21 (a := 5) (by decide +kernel)
theorem dX12_has_16 : decode cX12_has 16 = .ok (.aload_n 0, 1) := dc_42 (by decide +kernel)
theorem dX12_has_17 : decode cX12_has 17 = .ok (.iload 4, 2) := dc_21 (a := 4) (by decide +kernel)
theorem dX12_has_19 : decode cX12_has 19 = .ok (.iaload, 1) := dc_46 (by decide +kernel)
theorem dX12_has_20 : decode cX12_has 20 = .ok (.if_icmp .ge 33, 3) := dc_162 (a := 0) (b := 33) (by decide +kernel) (by decide)
theorem dX12_has_23 : decode cX12_has 23 = .ok (.iload_n 3, 1) := dc_29 (by decide +kernel)
theorem dX12_has_24 : decode cX12_has 24 = .ok (.ifCond .ne 17, 3) := dc_154 (a := 0) (b := 17) (by decide +kernel) (by decide)
theorem dX12_has_27 : decode cX12_has 27 = .ok (.aload_n 1, 1) := dc_43 (by decide +kernel)
theorem dX12_has_28 : decode cX12_has 28 = .ok (.bipush 10, 2) := dc_16 (a := 10) (by decide +kernel) (by decide)
theorem dX12_has_30 : decode cX12_has 30 = .ok (.iload 4, 2) := dc_21 (a := 4) (by decide +kernel)
theorem dX12_has_32 : decode cX12_has 32 = .ok (.imul, 1) := dc_104 (by decide +kernel)
theorem dX12_has_33 : decode cX12_has 33 = .ok (.iload 5, 2) := dc_21 (a := 5) (by decide +kernel)
theorem dX12_has_35 : decode cX12_has 35 = .ok (.iadd, 1) := dc_96 (by decide +kernel)
theorem dX12_has_36 : decode cX12_has 36 = .ok (.iaload, 1) := dc_46 (by decide +kernel)
theorem dX12_has_37 : decode cX12_has 37 = .ok (.iload_n 2, 1) := dc_28 (by decide +kernel)
theorem dX12_has_38 : decode cX12_has 38 = .ok (.if_icmp .ne 7, 3) := dc_160 (a := 0) (b := 7) (by decide +kernel) (by decide)
theorem dX12_has_41 : decode cX12_has 41 = .ok (.iconst 1, 1) := dc_4 (by decide +kernel)
theorem dX12_has_42 : decode cX12_has 42 = .ok (.goto 4, 3) := dc_167 (a := 0) (b := 4) (by decide +kernel) (by decide)
theorem dX12_has_45 : decode cX12_has 45 = .ok (.iconst 0, 1) := dc_3 (by decide +kernel)
theorem dX12_has_46 : decode cX12_has 46 = .ok (.istore_n 3, 1) := dc_62 (by decide +kernel)
theorem dX12_has_47 : decode cX12_has 47 = .ok (.iinc 5 1, 3) := dc_132 (a := 5) (b := 1) (by decide +kernel) (by decide)
theorem dX12_has_50 : decode cX12_has 50 = .ok (.goto (-36), 3) := dc_167 (a := 255) (b := 220) (by decide +kernel) (by decide)
theorem dX12_has_53 : decode cX12_has 53 = .ok (.iinc 4 1, 3) := dc_132 (a := 4) (b := 1) (by decide +kernel) (by decide)
theorem dX12_has_56 : decode cX12_has 56 = .ok (.goto (-51), 3) := dc_167 (a := 255) (b := 205) (by decide +kernel) (by decide)
theorem dX12_has_59 : decode cX12_has 59 = .ok (.iload_n 3, 1) := dc_29 (by decide +kernel)
theorem dX12_has_60 : decode cX12_has 60 = .ok (.ireturn, 1) := dc_172 (by decide +kernel)
set_option maxRecDepth 100000 in
set_option maxHeartbeats 4000000 in
theorem w_M_has_M_startMany_M_startOn_j46 {p : Program} {l : Launch} {e : Env} {R : Room} {s : State} {m : MethodId} {args : Array Value} {below : List Frame} {meth : Method} {c : Code} {dC : Nat → ClassId} {dI : Nat → Nat → Nat} {cs : Nat → ClassId} {ad : Nat → Nat} {A : Nat → Prop} {D0 : Nat → Nat} {S' : SS} {r : Int32} (F : Fx p s m args meth c cX12_has 6 RX12 (some .boolean) dC dI cs A) (hR1 : 0 ≤ R.frames) (hR2 : 0 ≤ R.locals) (K14 : Int32 → Int32 → Int32 → Int32 → SS → Option (Int32 × SS)) (hK14 : ∀ (v0 : Int32) (v1 : Int32) (v2 : Int32) (v3 : Int32) (S : SS), K14 v0 v1 v2 v3 S = some (r, S') → AW p l e R s m args below meth c dC dI cs ad A D0 (some (.int r)) S' 6 14 [(0, .ref (ad 47)), (1, .ref (ad 48)), (2, .int v0), (3, .int v1), (4, .int v2), (5, .int v3)] [] S) (x2 : Int32) (x4 : Int32) (x5 : Int32) (y0 : Int32) (S : SS) (h : f_M_has_M_startMany_M_startOn_j46 K14 x2 x4 x5 y0 S = some (r, S')) : AW p l e R s m args below meth c dC dI cs ad A D0 (some (.int r)) S' 6 46 [(0, .ref (ad 47)), (1, .ref (ad 48)), (2, .int x2), (4, .int x4), (5, .int x5)] [.int y0] S := by
  have hx := F.1.1
  have hb := F.1.2.1
  intro H locs ls w hl
  rw [f_M_has_M_startMany_M_startOn_j46] at h
  refine lv_istore_n (pc := 46) (lv' := [(3, .int y0), (0, .ref (ad 47)), (1, .ref (ad 48)), (2, .int x2), (4, .int x4), (5, .int x5)]) hx hb dX12_has_46 rfl hl (by decide) rfl (fun ls hl => ?_)
  refine s_nm h (fun z2 ez2 h => ?_)
  refine lv_iinc (pc := 47) (v := z2) (lv' := [(5, .int z2), (3, .int y0), (0, .ref (ad 47)), (1, .ref (ad 48)), (2, .int x2), (4, .int x4)]) hx hb dX12_has_47 hl (k := 5) rfl (by rw [ez2]; rfl) (by decide) rfl (fun ls hl => ?_)
  refine lv_goto (pc := 50) (tgt := 14) hx hb dX12_has_50 (by decide) ?_
  exact hK14 _ _ _ _ _ h _ _ _ w (lv_sub hl [2, 3, 4, 1, 5, 0] rfl)
set_option maxRecDepth 100000 in
set_option maxHeartbeats 4000000 in
theorem w_M_has_M_startMany_M_startOn_j41 {p : Program} {l : Launch} {e : Env} {R : Room} {s : State} {m : MethodId} {args : Array Value} {below : List Frame} {meth : Method} {c : Code} {dC : Nat → ClassId} {dI : Nat → Nat → Nat} {cs : Nat → ClassId} {ad : Nat → Nat} {A : Nat → Prop} {D0 : Nat → Nat} {S' : SS} {r : Int32} (F : Fx p s m args meth c cX12_has 6 RX12 (some .boolean) dC dI cs A) (hR1 : 0 ≤ R.frames) (hR2 : 0 ≤ R.locals) (K14 : Int32 → Int32 → Int32 → Int32 → SS → Option (Int32 × SS)) (hK14 : ∀ (v0 : Int32) (v1 : Int32) (v2 : Int32) (v3 : Int32) (S : SS), K14 v0 v1 v2 v3 S = some (r, S') → AW p l e R s m args below meth c dC dI cs ad A D0 (some (.int r)) S' 6 14 [(0, .ref (ad 47)), (1, .ref (ad 48)), (2, .int v0), (3, .int v1), (4, .int v2), (5, .int v3)] [] S) (x2 : Int32) (x4 : Int32) (x5 : Int32) (S : SS) (h : f_M_has_M_startMany_M_startOn_j41 K14 x2 x4 x5 S = some (r, S')) : AW p l e R s m args below meth c dC dI cs ad A D0 (some (.int r)) S' 6 41 [(0, .ref (ad 47)), (1, .ref (ad 48)), (2, .int x2), (4, .int x4), (5, .int x5)] [] S := by
  have hx := F.1.1
  have hb := F.1.2.1
  intro H locs ls w hl
  rw [f_M_has_M_startMany_M_startOn_j41] at h
  refine lv_iconst (pc := 41) (v := 1) hx hb dX12_has_41 (by decide) ?_
  refine lv_goto (pc := 42) (tgt := 46) hx hb dX12_has_42 (by decide) ?_
  exact w_M_has_M_startMany_M_startOn_j46 F (Nat.le_trans (by decide) hR1) (Nat.le_trans (by decide) hR2) _ hK14 _ _ _ _ _ h _ _ _ w (lv_sub hl [0, 1, 2, 3, 4] rfl)
set_option maxRecDepth 100000 in
set_option maxHeartbeats 4000000 in
theorem w_M_has_M_startMany_M_startOn_L14 {p : Program} {l : Launch} {e : Env} {R : Room} {s : State} {m : MethodId} {args : Array Value} {below : List Frame} {meth : Method} {c : Code} {dC : Nat → ClassId} {dI : Nat → Nat → Nat} {cs : Nat → ClassId} {ad : Nat → Nat} {A : Nat → Prop} {D0 : Nat → Nat} {S' : SS} {r : Int32} (F : Fx p s m args meth c cX12_has 6 RX12 (some .boolean) dC dI cs A) (hR1 : 0 ≤ R.frames) (hR2 : 0 ≤ R.locals) (K5 : Int32 → Int32 → Int32 → SS → Option (Int32 × SS)) (hK5 : ∀ (v0 : Int32) (v1 : Int32) (v2 : Int32) (S : SS), K5 v0 v1 v2 S = some (r, S') → AW p l e R s m args below meth c dC dI cs ad A D0 (some (.int r)) S' 6 5 [(0, .ref (ad 47)), (1, .ref (ad 48)), (2, .int v0), (3, .int v1), (4, .int v2)] [] S) : ∀ (n : Nat) (x2 : Int32) (x3 : Int32) (x4 : Int32) (x5 : Int32) (S : SS), f_M_has_M_startMany_M_startOn_L14 K5 n x2 x3 x4 x5 S = some (r, S') → AW p l e R s m args below meth c dC dI cs ad A D0 (some (.int r)) S' 6 14 [(0, .ref (ad 47)), (1, .ref (ad 48)), (2, .int x2), (3, .int x3), (4, .int x4), (5, .int x5)] [] S := by
  have hx := F.1.1
  have hb := F.1.2.1
  intro n
  induction n with
  | zero => intro x2 x3 x4 x5 S h; cases h
  | succ n ih =>
    intro x2 x3 x4 x5 S h H locs ls w hl
    rw [f_M_has_M_startMany_M_startOn_L14] at h
    refine lv_iload (pc := 14) hx hb dX12_has_14 (lv_at hl 5 rfl) ?_
    refine lv_aload_n (pc := 16) hx hb dX12_has_16 rfl (lv_at hl 0 rfl) ?_
    refine lv_iload (pc := 17) hx hb dX12_has_17 (lv_at hl 4 rfl) ?_
    refine s_iald (pc := 19) F w ds_47 h dX12_has_19 (fun h => ?_)
    refine lv_icmp_ge (pc := 20) (tgt := 53) hx hb dX12_has_20 (by decide) (fun q => ?_) (fun q => ?_)
    · have h := ite_t q h
      refine s_nm h (fun z1 ez1 h => ?_)
      refine lv_iinc (pc := 53) (v := z1) (lv' := [(4, .int z1), (0, .ref (ad 47)), (1, .ref (ad 48)), (2, .int x2), (3, .int x3), (5, .int x5)]) hx hb dX12_has_53 hl (k := 4) rfl (by rw [ez1]; rfl) (by decide) rfl (fun ls hl => ?_)
      refine lv_goto (pc := 56) (tgt := 5) hx hb dX12_has_56 (by decide) ?_
      exact hK5 _ _ _ _ h _ _ _ w (lv_sub hl [1, 2, 3, 4, 0] rfl)
    · have h := ite_f q h
      refine lv_iload_n (pc := 23) hx hb dX12_has_23 rfl (lv_at hl 3 rfl) ?_
      refine lv_if_ne (pc := 24) (tgt := 41) hx hb dX12_has_24 (by decide) (fun q => ?_) (fun q => ?_)
      · have h := ite_f q h
        exact w_M_has_M_startMany_M_startOn_j41 F (Nat.le_trans (by decide) hR1) (Nat.le_trans (by decide) hR2) _ (fun v0 v1 v2 v3 S h => ih v0 v1 v2 v3 S h) _ _ _ _ h _ _ _ w (lv_sub hl [0, 1, 2, 4, 5] rfl)
      · have h := ite_t q h
        refine lv_aload_n (pc := 27) hx hb dX12_has_27 rfl (lv_at hl 1 rfl) ?_
        refine lv_bipush (pc := 28) (v := 10) hx hb dX12_has_28 (by decide) ?_
        refine lv_iload (pc := 30) hx hb dX12_has_30 (lv_at hl 4 rfl) ?_
        refine lv_imul (pc := 32) hx hb dX12_has_32 ?_
        refine lv_iload (pc := 33) hx hb dX12_has_33 (lv_at hl 5 rfl) ?_
        refine lv_iadd (pc := 35) hx hb dX12_has_35 ?_
        refine s_iald (pc := 36) F w ds_48 h dX12_has_36 (fun h => ?_)
        refine lv_iload_n (pc := 37) hx hb dX12_has_37 rfl (lv_at hl 2 rfl) ?_
        refine lv_icmp_ne (pc := 38) (tgt := 45) hx hb dX12_has_38 (by decide) (fun q => ?_) (fun q => ?_)
        · have h := ite_f q h
          refine lv_iconst (pc := 45) (v := 0) hx hb dX12_has_45 (by decide) ?_
          exact w_M_has_M_startMany_M_startOn_j46 F (Nat.le_trans (by decide) hR1) (Nat.le_trans (by decide) hR2) _ (fun v0 v1 v2 v3 S h => ih v0 v1 v2 v3 S h) _ _ _ _ _ h _ _ _ w (lv_sub hl [0, 1, 2, 4, 5] rfl)
        · have h := ite_t q h
          exact w_M_has_M_startMany_M_startOn_j41 F (Nat.le_trans (by decide) hR1) (Nat.le_trans (by decide) hR2) _ (fun v0 v1 v2 v3 S h => ih v0 v1 v2 v3 S h) _ _ _ _ h _ _ _ w (lv_sub hl [0, 1, 2, 4, 5] rfl)
set_option maxRecDepth 100000 in
set_option maxHeartbeats 4000000 in
theorem w_M_has_M_startMany_M_startOn_L5 {p : Program} {l : Launch} {e : Env} {R : Room} {s : State} {m : MethodId} {args : Array Value} {below : List Frame} {meth : Method} {c : Code} {dC : Nat → ClassId} {dI : Nat → Nat → Nat} {cs : Nat → ClassId} {ad : Nat → Nat} {A : Nat → Prop} {D0 : Nat → Nat} {S' : SS} {r : Int32} (F : Fx p s m args meth c cX12_has 6 RX12 (some .boolean) dC dI cs A) (hR1 : 0 ≤ R.frames) (hR2 : 0 ≤ R.locals) : ∀ (n : Nat) (x2 : Int32) (x3 : Int32) (x4 : Int32) (S : SS), f_M_has_M_startMany_M_startOn_L5 n x2 x3 x4 S = some (r, S') → AW p l e R s m args below meth c dC dI cs ad A D0 (some (.int r)) S' 6 5 [(0, .ref (ad 47)), (1, .ref (ad 48)), (2, .int x2), (3, .int x3), (4, .int x4)] [] S := by
  have hx := F.1.1
  have hb := F.1.2.1
  intro n
  induction n with
  | zero => intro x2 x3 x4 S h; cases h
  | succ n ih =>
    intro x2 x3 x4 S h H locs ls w hl
    rw [f_M_has_M_startMany_M_startOn_L5] at h
    refine lv_iload (pc := 5) hx hb dX12_has_5 (lv_at hl 4 rfl) ?_
    refine lv_iconst (pc := 7) (v := 4) hx hb dX12_has_7 (by decide) ?_
    refine lv_icmp_ge (pc := 8) (tgt := 59) hx hb dX12_has_8 (by decide) (fun q => ?_) (fun q => ?_)
    · have h := ite_t q h
      refine lv_iload_n (pc := 59) hx hb dX12_has_59 rfl (lv_at hl 3 rfl) ?_
      exact s_zret F w h dX12_has_60
    · have h := ite_f q h
      refine lv_iconst (pc := 11) (v := 0) hx hb dX12_has_11 (by decide) ?_
      refine lv_istore (pc := 12) (lv' := [(5, .int (0 : Int32)), (0, .ref (ad 47)), (1, .ref (ad 48)), (2, .int x2), (3, .int x3), (4, .int x4)]) hx hb dX12_has_12 hl (by decide) rfl (fun ls hl => ?_)
      exact w_M_has_M_startMany_M_startOn_L14 F (Nat.le_trans (by decide) hR1) (Nat.le_trans (by decide) hR2) _ (fun v0 v1 v2 S h => ih v0 v1 v2 S h) _ _ _ _ _ _ h _ _ _ w (lv_sub hl [1, 2, 3, 4, 5, 0] rfl)
set_option maxRecDepth 100000 in
set_option maxHeartbeats 4000000 in
theorem m_M_has_M_startMany_M_startOn (a2 : Int32) (S S' : SS) (r : Int32) (h : f_M_has_M_startMany_M_startOn a2 S = some (r, S')) : MT yX12_has cX12_has 6 (some .boolean) 0 0 (fun ad => [.ref (ad 47), .ref (ad 48), .int a2]) S (some (.int r)) S' := by
  refine MT.of RX12 (fun ad => [(0, .ref (ad 47)), (1, .ref (ad 48)), (2, .int a2)]) (by decide) rfl (fun _ => Nat.le_of_ble_eq_true rfl) (fun _ => rfl) ?_
  intro p l e R s m args below meth c dC dI cs ad A hR1 hR2 F H locs ls w hl
  have hx := F.1.1
  have hb := F.1.2.1
  rw [f_M_has_M_startMany_M_startOn] at h
  refine lv_iconst (pc := 0) (v := 0) hx hb dX12_has_0 (by decide) ?_
  refine lv_istore_n (pc := 1) (lv' := [(3, .int (0 : Int32)), (0, .ref (ad 47)), (1, .ref (ad 48)), (2, .int a2)]) hx hb dX12_has_1 rfl hl (by decide) rfl (fun ls hl => ?_)
  refine lv_iconst (pc := 2) (v := 0) hx hb dX12_has_2 (by decide) ?_
  refine lv_istore (pc := 3) (lv' := [(4, .int (0 : Int32)), (3, .int (0 : Int32)), (0, .ref (ad 47)), (1, .ref (ad 48)), (2, .int a2)]) hx hb dX12_has_3 hl (by decide) rfl (fun ls hl => ?_)
  exact w_M_has_M_startMany_M_startOn_L5 F (Nat.le_trans (by decide) hR1) (Nat.le_trans (by decide) hR2) _ _ _ _ _ h _ _ _ w (lv_sub hl [2, 3, 4, 1, 0] rfl)
