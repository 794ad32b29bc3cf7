/-! ===== printed by wip/gen: M_part M_hasEngine M_pulls M_loaded M_weight M_missPull M_follow M_missStep M_place ===== -/
def f_M_part_j45  (x1 : Int32) (x2 : Int32) (y0 : Int32) (S : SS) : Option (Int32 × SS) :=
    bnd (f_M_ends y0 S) (fun r6 S5 =>
    if r6 = 0 then
      grd (inb (((2 : Int32) * x1) + x2) 144) (
      nm (S5.1 23 (((2 : Int32) * x1) + x2).toNatClampNeg) (fun z7 =>
      bnd (f_M_sideTo z7 x1 S5) (fun r9 S8 =>
      grd (inb (((2 : Int32) * z7) + r9) 144) (wr S8 23 (((2 : Int32) * z7) + r9).toNatClampNeg (-4 : Int32) (fun S10 =>
      grd (inb (((2 : Int32) * x1) + x2) 144) (wr S10 23 (((2 : Int32) * x1) + x2).toNatClampNeg (-4 : Int32) (fun S11 =>
      bndv (f_M_renumber x1 S11) (fun S12 =>
      bndv (f_M_renumber z7 S12) (fun S13 =>
      bnd (f_M_entered (7 : Int32) z7 S13) (fun r15 S14 =>
      some (r15, S14)))))))))))
    else
      bnd (f_M_entered (7 : Int32) (-2 : Int32) S5) (fun r17 S16 =>
      some (r17, S16)))
def f_M_part (a1 : Int32) (a2 : Int32) (S : SS) : Option (Int32 × SS) :=
  bndv (f_M_begin  S) (fun S1 =>
  bndv (f_M_keep  S1) (fun S2 =>
  bnd (f_M_missSide a1 (0 : Int32) a2 S2) (fun r4 S3 =>
  if r4 = 0 then
    grd (inb (((2 : Int32) * a1) + a2) 144) (
    if (S3.1 23 (((2 : Int32) * a1) + a2).toNatClampNeg) = (-4 : Int32) then
      f_M_part_j45 a1 a2 (1 : Int32) S3
    else
      f_M_part_j45 a1 a2 (0 : Int32) S3)
  else
    f_M_part_j45 a1 a2 r4 S3)))
theorem dX12_part_0 : decode cX12_part 0 = .ok (.aload_n 0, 1) := dc_42 (by decide +kernel)
theorem dX12_part_1 : decode cX12_part 1 = .ok (.invokevirtual 226, 3) := dc_182 (a := 0) (b := 226) (by decide +kernel)
theorem dX12_part_4 : decode cX12_part 4 = .ok (.aload_n 0, 1) := dc_42 (by decide +kernel)
theorem dX12_part_5 : decode cX12_part 5 = .ok (.invokevirtual 346, 3) := dc_182 (a := 1) (b := 90) (by decide +kernel)
theorem dX12_part_8 : decode cX12_part 8 = .ok (.aload_n 0, 1) := dc_42 (by decide +kernel)
theorem dX12_part_9 : decode cX12_part 9 = .ok (.iload_n 1, 1) := dc_27 (by decide +kernel)
theorem dX12_part_10 : decode cX12_part 10 = .ok (.iconst 0, 1) := dc_3 (by decide +kernel)
theorem dX12_part_11 : decode cX12_part 11 = .ok (.iload_n 2, 1) := dc_28 (by decide +kernel)
theorem dX12_part_12 : decode cX12_part 12 = .ok (.invokevirtual 364, 3) := dc_182 (a := 1) (b := 108) (by decide +kernel)
theorem dX12_part_15 : decode cX12_part 15 = .ok (.istore_n 3, 1) := dc_62 (by decide +kernel)
theorem dX12_part_16 : decode cX12_part 16 = .ok (.aload_n 0, 1) := dc_42 (by decide +kernel)
theorem dX12_part_17 : decode cX12_part 17 = .ok (.iload_n 3, 1) := dc_29 (by decide +kernel)
theorem dX12_part_18 : decode cX12_part 18 = .ok (.ifCond .eq 7, 3) := dc_153 (a := 0) (b := 7) (by decide +kernel) (by decide)
theorem dX12_part_21 : decode cX12_part 21 = .ok (.iload_n 3, 1) := dc_29 (by decide +kernel)
theorem dX12_part_22 : decode cX12_part 22 = .ok (.goto 23, 3) := dc_167 (a := 0) (b := 23) (by decide +kernel) (by decide)
theorem dX12_part_25 : decode cX12_part 25 = .ok (.aload_n 0, 1) := dc_42 (by decide +kernel)
theorem dX12_part_26 : decode cX12_part 26 = .ok (.getfield 84, 3) := dc_180 (a := 0) (b := 84) (by decide +kernel)
theorem dX12_part_29 : decode cX12_part 29 = .ok (.iconst 2, 1) := dc_5 (by decide +kernel)
theorem dX12_part_30 : decode cX12_part 30 = .ok (.iload_n 1, 1) := dc_27 (by decide +kernel)
theorem dX12_part_31 : decode cX12_part 31 = .ok (.imul, 1) := dc_104 (by decide +kernel)
theorem dX12_part_32 : decode cX12_part 32 = .ok (.iload_n 2, 1) := dc_28 (by decide +kernel)
theorem dX12_part_33 : decode cX12_part 33 = .ok (.iadd, 1) := dc_96 (by decide +kernel)
theorem dX12_part_34 : decode cX12_part 34 = .ok (.iaload, 1) := dc_46 (by decide +kernel)
theorem dX12_part_35 : decode cX12_part 35 = .ok (.bipush (-4), 2) := dc_16 (a := 252) (by decide +kernel) (by decide)
theorem dX12_part_37 : decode cX12_part 37 = .ok (.if_icmp .ne 7, 3) := dc_160 (a := 0) (b := 7) (by decide +kernel) (by decide)
theorem dX12_part_40 : decode cX12_part 40 = .ok (.iconst 1, 1) := dc_4 (by decide +kernel)
theorem dX12_part_41 : decode cX12_part 41 = .ok (.goto 4, 3) := dc_167 (a := 0) (b := 4) (by decide +kernel) (by decide)
theorem dX12_part_44 : decode cX12_part 44 = .ok (.iconst 0, 1) := dc_3 (by decide +kernel)
theorem dX12_part_45 : decode cX12_part 45 = .ok (.invokevirtual 236, 3) := dc_182 (a := 0) (b := 236) (by decide +kernel)
theorem dX12_part_48 : decode cX12_part 48 = .ok (.ifCond .eq 12, 3) := dc_153 (a := 0) (b := 12) (by decide +kernel) (by decide)
theorem dX12_part_51 : decode cX12_part 51 = .ok (.aload_n 0, 1) := dc_42 (by decide +kernel)
theorem dX12_part_52 : decode cX12_part 52 = .ok (.bipush 7, 2) := dc_16 (a := 7) (by decide +kernel) (by decide)
theorem dX12_part_54 : decode cX12_part 54 = .ok (.bipush (-2), 2) := dc_16 (a := 254) (by decide +kernel) (by decide)
theorem dX12_part_56 : decode cX12_part 56 = .ok (.invokevirtual 349, 3) := dc_182 (a := 1) (b := 93) (by decide +kernel)
theorem dX12_part_59 : decode cX12_part 59 = .ok (.ireturn, 1) := dc_172 (by decide +kernel)
theorem dX12_part_60 : decode cX12_part 60 = .ok (.aload_n 0, 1) := dc_42 (by decide +kernel)
theorem dX12_part_61 : decode cX12_part 61 = .ok (.getfield 84, 3) := dc_180 (a := 0) (b := 84) (by decide +kernel)
theorem dX12_part_64 : decode cX12_part 64 = .ok (.iconst 2, 1) := dc_5 (by decide +kernel)
theorem dX12_part_65 : decode cX12_part 65 = .ok (.iload_n 1, 1) := dc_27 (by decide +kernel)
theorem dX12_part_66 : decode cX12_part 66 = .ok (.imul, 1) := dc_104 (by decide +kernel)
theorem dX12_part_67 : decode cX12_part 67 = .ok (.iload_n 2, 1) := dc_28 (by decide +kernel)
theorem dX12_part_68 : decode cX12_part 68 = .ok (.iadd, 1) := dc_96 (by decide +kernel)
theorem dX12_part_69 : decode cX12_part 69 = .ok (.iaload, 1) := dc_46 (by decide +kernel)
theorem dX12_part_70 : decode cX12_part 70 = .ok (.istore 4, 2) := dc_54 (a := 4) (by decide +kernel)
theorem dX12_part_72 : decode cX12_part 72 = .ok (.aload_n 0, 1) := dc_42 (by decide +kernel)
theorem dX12_part_73 : decode cX12_part 73 = .ok (.getfield 84, 3) := dc_180 (a := 0) (b := 84) (by decide +kernel)
theorem dX12_part_76 : decode cX12_part 76 = .ok (.iconst 2, 1) := dc_5 (by decide +kernel)
theorem dX12_part_77 : decode cX12_part 77 = .ok (.iload 4, 2) := dc_21 (a := 4) (by decide +kernel)
theorem dX12_part_79 : decode cX12_part 79 = .ok (.imul, 1) := dc_104 (by decide +kernel)
theorem dX12_part_80 : decode cX12_part 80 = .ok (.aload_n 0, 1) := dc_42 (by decide +kernel)
theorem dX12_part_81 : decode cX12_part 81 = .ok (.iload 4, 2) := dc_21 (a := 4) (by decide +kernel)
theorem dX12_part_83 : decode cX12_part 83 = .ok (.iload_n 1, 1) := dc_27 (by decide +kernel)
theorem dX12_part_84 : decode cX12_part 84 = .ok (.invokevirtual 313, 3) := dc_182 (a := 1) (b := 57) (by decide +kernel)
theorem dX12_part_87 : decode cX12_part 87 = .ok (.iadd, 1) := dc_96 (by decide +kernel)
theorem dX12_part_88 : decode cX12_part 88 = .ok (.bipush (-4), 2) := dc_16 (a := 252) (by decide +kernel) (by decide)
theorem dX12_part_90 : decode cX12_part 90 = .ok (.iastore, 1) := dc_79 (by decide +kernel)
theorem dX12_part_91 : decode cX12_part 91 = .ok (.aload_n 0, 1) := dc_42 (by decide +kernel)
theorem dX12_part_92 : decode cX12_part 92 = .ok (.getfield 84, 3) := dc_180 (a := 0) (b := 84) (by decide +kernel)
theorem dX12_part_95 : decode cX12_part 95 = .ok (.iconst 2, 1) := dc_5 (by decide +kernel)
theorem dX12_part_96 : decode cX12_part 96 = .ok (.iload_n 1, 1) := dc_27 (by decide +kernel)
theorem dX12_part_97 : decode cX12_part 97 = .ok (.imul, 1) := dc_104 (by decide +kernel)
theorem dX12_part_98 : decode cX12_part 98 = .ok (.iload_n 2, 1) := dc_28 (by decide +kernel)
theorem dX12_part_99 : decode cX12_part 99 = .ok (.iadd, 1) := dc_96 (by decide +kernel)
theorem dX12_part_100 : decode cX12_part 100 = .ok (.bipush (-4), 2) := dc_16 (a := 252) (by decide +kernel) (by decide)
theorem dX12_part_102 : decode cX12_part 102 = .ok (.iastore, 1) := dc_79 (by decide +kernel)
theorem dX12_part_103 : decode cX12_part 103 = .ok (.aload_n 0, 1) := dc_42 (by decide +kernel)
theorem dX12_part_104 : decode cX12_part 104 = .ok (.iload_n 1, 1) := dc_27 (by decide +kernel)
theorem dX12_part_105 : decode cX12_part 105 = .ok (.invokevirtual 390, 3) := dc_182 (a := 1) (b := 134) (by decide +kernel)
theorem dX12_part_108 : decode cX12_part 108 = .ok (.aload_n 0, 1) := dc_42 (by decide +kernel)
theorem dX12_part_109 : decode cX12_part 109 = .ok (.iload 4, 2) := dc_21 (a := 4) (by decide +kernel)
theorem dX12_part_111 : decode cX12_part 111 = .ok (.invokevirtual 390, 3) := dc_182 (a := 1) (b := 134) (by decide +kernel)
theorem dX12_part_114 : decode cX12_part 114 = .ok (.aload_n 0, 1) := dc_42 (by decide +kernel)
theorem dX12_part_115 : decode cX12_part 115 = .ok (.bipush 7, 2) := dc_16 (a := 7) (by decide +kernel) (by decide)
theorem dX12_part_117 : decode cX12_part 117 = .ok (.iload 4, 2) := dc_21 (a := 4) (by decide +kernel)
theorem dX12_part_119 : decode cX12_part 119 = .ok (.invokevirtual 349, 3) := dc_182 (a := 1) (b := 93) (by decide +kernel)
theorem dX12_part_122 : decode cX12_part 122 = .ok (.ireturn, 1) := dc_172 (by decide +kernel)
set_option maxRecDepth 100000 in
set_option maxHeartbeats 4000000 in
theorem w_M_part_j45 {p : Program} {l : Launch} {e : Env} {R : Room} {s : State} {m : MethodId} {args : Array Value} {below : List Frame} {meth : Method} {c : Code} {dC : Nat → ClassId} {dI : Nat → Nat → Nat} {cs : Nat → ClassId} {ad : Nat → Nat} {A : Nat → Prop} {D0 : Nat → Nat} {S' : SS} {r : Int32} (F : Fx p s m args meth c cX12_part 5 RX12 (some .int) dC dI cs A) (hR1 : 3 ≤ R.frames) (hR2 : 68 ≤ R.locals) (x1 : Int32) (x2 : Int32) (y0 : Int32) (S : SS) (h : f_M_part_j45 x1 x2 y0 S = some (r, S')) : AW p l e R s m args below meth c dC dI cs ad A D0 (some (.int r)) S' 5 45 [(0, .ref (ad 0)), (1, .int x1), (2, .int x2)] [.int y0, .ref (ad 0)] S := by
  have hx := F.1.1
  have hb := F.1.2.1
  intro H locs ls w hl
  rw [f_M_part_j45] at h
  obtain ⟨r6, S5, hc, h⟩ := bnd_t h
  refine s_cvi (pc := 45) [.int y0] (fun ad => [.ref (ad 0), .int y0]) F w (m_M_ends _ _ _ _ hc) rfl rfl hl.1 ds_0 vc_X12 rfl ok_X12_ends rfl kc_X12_ends kl_X12_236 ki_X12_ends kv_X12_ends kn_X12 ⟨Nat.le_trans (by decide) hR1, Nat.le_trans (by decide) hR2⟩ ⟨Nat.zero_le _, Nat.zero_le _⟩ (Nat.le_of_ble_eq_true rfl) dX12_part_45 (fun H locs w => ?_)
  refine lv_if_eq (pc := 48) (tgt := 60) hx hb dX12_part_48 (by decide) (fun q => ?_) (fun q => ?_)
  · have h := ite_t q h
    refine lv_aload_n (pc := 60) hx hb dX12_part_60 rfl (lv_at hl 0 rfl) ?_
    refine s_getR (pc := 61) F w 23 ds_0 (j := 35) vc_X12 vi_X12 rfl (by decide) kf_X12_84 dX12_part_61 ?_
    refine lv_iconst (pc := 64) (v := 2) hx hb dX12_part_64 (by decide) ?_
    refine lv_iload_n (pc := 65) hx hb dX12_part_65 rfl (lv_at hl 1 rfl) ?_
    refine lv_imul (pc := 66) hx hb dX12_part_66 ?_
    refine lv_iload_n (pc := 67) hx hb dX12_part_67 rfl (lv_at hl 2 rfl) ?_
    refine lv_iadd (pc := 68) hx hb dX12_part_68 ?_
    refine s_iald (pc := 69) F w ds_23 h dX12_part_69 (fun h => ?_)
    refine s_nm h (fun z7 ez7 h => ?_)
    rw [← ez7]
    refine lv_istore (pc := 70) (lv' := [(4, .int z7), (0, .ref (ad 0)), (1, .int x1), (2, .int x2)]) hx hb dX12_part_70 hl (by decide) rfl (fun ls hl => ?_)
    refine lv_aload_n (pc := 72) hx hb dX12_part_72 rfl (lv_at hl 1 rfl) ?_
    refine s_getR (pc := 73) F w 23 ds_0 (j := 35) vc_X12 vi_X12 rfl (by decide) kf_X12_84 dX12_part_73 ?_
    refine lv_iconst (pc := 76) (v := 2) hx hb dX12_part_76 (by decide) ?_
    refine lv_iload (pc := 77) hx hb dX12_part_77 (lv_at hl 0 rfl) ?_
    refine lv_imul (pc := 79) hx hb dX12_part_79 ?_
    refine lv_aload_n (pc := 80) hx hb dX12_part_80 rfl (lv_at hl 1 rfl) ?_
    refine lv_iload (pc := 81) hx hb dX12_part_81 (lv_at hl 0 rfl) ?_
    refine lv_iload_n (pc := 83) hx hb dX12_part_83 rfl (lv_at hl 2 rfl) ?_
    obtain ⟨r9, S8, hc, h⟩ := bnd_t h
    refine s_cvi (pc := 84) [.int z7, .int x1] (fun ad => [.ref (ad 0), .int z7, .int x1]) F w (m_M_sideTo _ _ _ _ _ hc) rfl rfl hl.1 ds_0 vc_X12 rfl ok_X12_sideTo rfl kc_X12_sideTo kl_X12_313 ki_X12_sideTo kv_X12_sideTo kn_X12 ⟨Nat.le_trans (by decide) hR1, Nat.le_trans (by decide) hR2⟩ ⟨Nat.zero_le _, Nat.zero_le _⟩ (Nat.le_of_ble_eq_true rfl) dX12_part_84 (fun H locs w => ?_)
    refine lv_iadd (pc := 87) hx hb dX12_part_87 ?_
    refine lv_bipush (pc := 88) (v := -4) hx hb dX12_part_88 (by decide) ?_
    refine s_iast (pc := 90) F w ds_23 h dX12_part_90 (fun S10 H locs h w => ?_)
    refine lv_aload_n (pc := 91) hx hb dX12_part_91 rfl (lv_at hl 1 rfl) ?_
    refine s_getR (pc := 92) F w 23 ds_0 (j := 35) vc_X12 vi_X12 rfl (by decide) kf_X12_84 dX12_part_92 ?_
    refine lv_iconst (pc := 95) (v := 2) hx hb dX12_part_95 (by decide) ?_
    refine lv_iload_n (pc := 96) hx hb dX12_part_96 rfl (lv_at hl 2 rfl) ?_
    refine lv_imul (pc := 97) hx hb dX12_part_97 ?_
    refine lv_iload_n (pc := 98) hx hb dX12_part_98 rfl (lv_at hl 3 rfl) ?_
    refine lv_iadd (pc := 99) hx hb dX12_part_99 ?_
    refine lv_bipush (pc := 100) (v := -4) hx hb dX12_part_100 (by decide) ?_
    refine s_iast (pc := 102) F w ds_23 h dX12_part_102 (fun S11 H locs h w => ?_)
    refine lv_aload_n (pc := 103) hx hb dX12_part_103 rfl (lv_at hl 1 rfl) ?_
    refine lv_iload_n (pc := 104) hx hb dX12_part_104 rfl (lv_at hl 2 rfl) ?_
    obtain ⟨S12, hc, h⟩ := bndv_t h
    refine s_cvv (pc := 105) [.int x1] (fun ad => [.ref (ad 0), .int x1]) F w (m_M_renumber _ _ _ hc) rfl rfl hl.1 ds_0 vc_X12 rfl ok_X12_renumber rfl kc_X12_renumber kl_X12_390 ki_X12_renumber kv_X12_renumber kn_X12 ⟨Nat.le_trans (by decide) hR1, Nat.le_trans (by decide) hR2⟩ ⟨Nat.zero_le _, Nat.zero_le _⟩ (Nat.le_of_ble_eq_true rfl) dX12_part_105 (fun H locs w => ?_)
    refine lv_aload_n (pc := 108) hx hb dX12_part_108 rfl (lv_at hl 1 rfl) ?_
    refine lv_iload (pc := 109) hx hb dX12_part_109 (lv_at hl 0 rfl) ?_
    obtain ⟨S13, hc, h⟩ := bndv_t h
    refine s_cvv (pc := 111) [.int z7] (fun ad => [.ref (ad 0), .int z7]) F w (m_M_renumber _ _ _ hc) rfl rfl hl.1 ds_0 vc_X12 rfl ok_X12_renumber rfl kc_X12_renumber kl_X12_390 ki_X12_renumber kv_X12_renumber kn_X12 ⟨Nat.le_trans (by decide) hR1, Nat.le_trans (by decide) hR2⟩ ⟨Nat.zero_le _, Nat.zero_le _⟩ (Nat.le_of_ble_eq_true rfl) dX12_part_111 (fun H locs w => ?_)
    refine lv_aload_n (pc := 114) hx hb dX12_part_114 rfl (lv_at hl 1 rfl) ?_
    refine lv_bipush (pc := 115) (v := 7) hx hb dX12_part_115 (by decide) ?_
    refine lv_iload (pc := 117) hx hb dX12_part_117 (lv_at hl 0 rfl) ?_
    obtain ⟨r15, S14, hc, h⟩ := bnd_t h
    refine s_cvi (pc := 119) [.int (7 : Int32), .int z7] (fun ad => [.ref (ad 0), .int (7 : Int32), .int z7]) F w (m_M_entered _ _ _ _ _ hc) rfl rfl hl.1 ds_0 vc_X12 rfl ok_X12_entered rfl kc_X12_entered kl_X12_349 ki_X12_entered kv_X12_entered kn_X12 ⟨Nat.le_trans (by decide) hR1, Nat.le_trans (by decide) hR2⟩ ⟨Nat.zero_le _, Nat.zero_le _⟩ (Nat.le_of_ble_eq_true rfl) dX12_part_119 (fun H locs w => ?_)
    exact s_iret F w h dX12_part_122
  · have h := ite_f q h
    refine lv_aload_n (pc := 51) hx hb dX12_part_51 rfl (lv_at hl 0 rfl) ?_
    refine lv_bipush (pc := 52) (v := 7) hx hb dX12_part_52 (by decide) ?_
    refine lv_bipush (pc := 54) (v := -2) hx hb dX12_part_54 (by decide) ?_
    obtain ⟨r17, S16, hc, h⟩ := bnd_t h
    refine s_cvi (pc := 56) [.int (7 : Int32), .int (-2 : Int32)] (fun ad => [.ref (ad 0), .int (7 : Int32), .int (-2 : Int32)]) F w (m_M_entered _ _ _ _ _ hc) rfl rfl hl.1 ds_0 vc_X12 rfl ok_X12_entered rfl kc_X12_entered kl_X12_349 ki_X12_entered kv_X12_entered kn_X12 ⟨Nat.le_trans (by decide) hR1, Nat.le_trans (by decide) hR2⟩ ⟨Nat.zero_le _, Nat.zero_le _⟩ (Nat.le_of_ble_eq_true rfl) dX12_part_56 (fun H locs w => ?_)
    exact s_iret F w h dX12_part_59
set_option maxRecDepth 100000 in
set_option maxHeartbeats 4000000 in
theorem m_M_part (a1 : Int32) (a2 : Int32) (S S' : SS) (r : Int32) (h : f_M_part a1 a2 S = some (r, S')) : MT yX12_part cX12_part 5 (some .int) 3 69 (fun ad => [.ref (ad 0), .int a1, .int a2]) S (some (.int r)) S' := by
  refine MT.of RX12 (fun ad => [(0, .ref (ad 0)), (1, .int a1), (2, .int a2)]) (by decide) rfl (fun _ => Nat.le_of_ble_eq_true rfl) (fun _ => rfl) ?_
  intro p l e R s m args below meth c dC dI cs ad A hR1 hR2 F H locs ls w hl
  have hx := F.1.1
  have hb := F.1.2.1
  rw [f_M_part] at h
  refine lv_aload_n (pc := 0) hx hb dX12_part_0 rfl (lv_at hl 0 rfl) ?_
  obtain ⟨S1, hc, h⟩ := bndv_t h
  refine s_cvv (pc := 1) [] (fun ad => [.ref (ad 0)]) F w (m_M_begin  _ _ hc) rfl rfl hl.1 ds_0 vc_X12 rfl ok_X12_begin rfl kc_X12_begin kl_X12_226 ki_X12_begin kv_X12_begin kn_X12 ⟨Nat.le_trans (by decide) hR1, Nat.le_trans (by decide) hR2⟩ ⟨Nat.zero_le _, Nat.zero_le _⟩ (Nat.le_of_ble_eq_true rfl) dX12_part_1 (fun H locs w => ?_)
  refine lv_aload_n (pc := 4) hx hb dX12_part_4 rfl (lv_at hl 0 rfl) ?_
  obtain ⟨S2, hc, h⟩ := bndv_t h
  refine s_cvv (pc := 5) [] (fun ad => [.ref (ad 0)]) F w (m_M_keep  _ _ hc) rfl rfl hl.1 ds_0 vc_X12 rfl ok_X12_keep rfl kc_X12_keep kl_X12_346 ki_X12_keep kv_X12_keep kn_X12 ⟨Nat.le_trans (by decide) hR1, Nat.le_trans (by decide) hR2⟩ ⟨Nat.zero_le _, Nat.zero_le _⟩ (Nat.le_of_ble_eq_true rfl) dX12_part_5 (fun H locs w => ?_)
  refine lv_aload_n (pc := 8) hx hb dX12_part_8 rfl (lv_at hl 0 rfl) ?_
  refine lv_iload_n (pc := 9) hx hb dX12_part_9 rfl (lv_at hl 1 rfl) ?_
  refine lv_iconst (pc := 10) (v := 0) hx hb dX12_part_10 (by decide) ?_
  refine lv_iload_n (pc := 11) hx hb dX12_part_11 rfl (lv_at hl 2 rfl) ?_
  obtain ⟨r4, S3, hc, h⟩ := bnd_t h
  refine s_cvi (pc := 12) [.int a1, .int (0 : Int32), .int a2] (fun ad => [.ref (ad 0), .int a1, .int (0 : Int32), .int a2]) F w (m_M_missSide _ _ _ _ _ _ hc) rfl rfl hl.1 ds_0 vc_X12 rfl ok_X12_missSide rfl kc_X12_missSide kl_X12_364 ki_X12_missSide kv_X12_missSide kn_X12 ⟨Nat.le_trans (by decide) hR1, Nat.le_trans (by decide) hR2⟩ ⟨Nat.zero_le _, Nat.zero_le _⟩ (Nat.le_of_ble_eq_true rfl) dX12_part_12 (fun H locs w => ?_)
  refine lv_istore_n (pc := 15) (lv' := [(3, .int r4), (0, .ref (ad 0)), (1, .int a1), (2, .int a2)]) hx hb dX12_part_15 rfl hl (by decide) rfl (fun ls hl => ?_)
  refine lv_aload_n (pc := 16) hx hb dX12_part_16 rfl (lv_at hl 1 rfl) ?_
  refine lv_iload_n (pc := 17) hx hb dX12_part_17 rfl (lv_at hl 0 rfl) ?_
  refine lv_if_eq (pc := 18) (tgt := 25) hx hb dX12_part_18 (by decide) (fun q => ?_) (fun q => ?_)
  · have h := ite_t q h
    refine lv_aload_n (pc := 25) hx hb dX12_part_25 rfl (lv_at hl 1 rfl) ?_
    refine s_getR (pc := 26) F w 23 ds_0 (j := 35) vc_X12 vi_X12 rfl (by decide) kf_X12_84 dX12_part_26 ?_
    refine lv_iconst (pc := 29) (v := 2) hx hb dX12_part_29 (by decide) ?_
    refine lv_iload_n (pc := 30) hx hb dX12_part_30 rfl (lv_at hl 2 rfl) ?_
    refine lv_imul (pc := 31) hx hb dX12_part_31 ?_
    refine lv_iload_n (pc := 32) hx hb dX12_part_32 rfl (lv_at hl 3 rfl) ?_
    refine lv_iadd (pc := 33) hx hb dX12_part_33 ?_
    refine s_iald (pc := 34) F w ds_23 h dX12_part_34 (fun h => ?_)
    refine lv_bipush (pc := 35) (v := -4) hx hb dX12_part_35 (by decide) ?_
    refine lv_icmp_ne (pc := 37) (tgt := 44) hx hb dX12_part_37 (by decide) (fun q => ?_) (fun q => ?_)
    · have h := ite_f q h
      refine lv_iconst (pc := 44) (v := 0) hx hb dX12_part_44 (by decide) ?_
      exact w_M_part_j45 F (Nat.le_trans (by decide) hR1) (Nat.le_trans (by decide) hR2) _ _ _ _ h _ _ _ w (lv_sub hl [1, 2, 3] rfl)
    · have h := ite_t q h
      refine lv_iconst (pc := 40) (v := 1) hx hb dX12_part_40 (by decide) ?_
      refine lv_goto (pc := 41) (tgt := 45) hx hb dX12_part_41 (by decide) ?_
      exact w_M_part_j45 F (Nat.le_trans (by decide) hR1) (Nat.le_trans (by decide) hR2) _ _ _ _ h _ _ _ w (lv_sub hl [1, 2, 3] rfl)
  · have h := ite_f q h
    refine lv_iload_n (pc := 21) hx hb dX12_part_21 rfl (lv_at hl 0 rfl) ?_
    refine lv_goto (pc := 22) (tgt := 45) hx hb dX12_part_22 (by decide) ?_
    exact w_M_part_j45 F (Nat.le_trans (by decide) hR1) (Nat.le_trans (by decide) hR2) _ _ _ _ h _ _ _ w (lv_sub hl [1, 2, 3] rfl)
def f_M_hasEngine_j48 (K4 : Int32 → Int32 → Int32 → SS → Option (Int32 × SS)) (x1 : Int32) (x3 : Int32) (y0 : Int32) (S : SS) : Option (Int32 × SS) :=
    nm (x3 + (1 : Int32)) (fun z2 =>
    K4 x1 y0 z2 S)
def f_M_hasEngine_j43 (K4 : Int32 → Int32 → Int32 → SS → Option (Int32 × SS)) (x1 : Int32) (x3 : Int32) (S : SS) : Option (Int32 × SS) :=
    f_M_hasEngine_j48 K4 x1 x3 (1 : Int32) S
def f_M_hasEngine_j47 (K4 : Int32 → Int32 → Int32 → SS → Option (Int32 × SS)) (x1 : Int32) (x3 : Int32) (S : SS) : Option (Int32 × SS) :=
    f_M_hasEngine_j48 K4 x1 x3 (0 : Int32) S
def f_M_hasEngine_L4  : Nat → Int32 → Int32 → Int32 → SS → Option (Int32 × SS)
  | 0, _, _, _, _ => none
  | n + 1, x1, x2, x3, S =>
    if (2 : Int32) ≤ x3 then
      grd (isB x2) (some (x2, S))
    else
      grd (inb (((2 : Int32) * x1) + x3) 144) (
      nm (S.1 23 (((2 : Int32) * x1) + x3).toNatClampNeg) (fun z1 =>
      if x2 = 0 then
        if z1 = (-4 : Int32) then
          f_M_hasEngine_j47 (fun v0 v1 v2 S => f_M_hasEngine_L4 n v0 v1 v2 S) x1 x3 S
        else
          grd (inb z1 72) (
          if (S.1 18 z1.toNatClampNeg) = (5 : Int32) then
            f_M_hasEngine_j43 (fun v0 v1 v2 S => f_M_hasEngine_L4 n v0 v1 v2 S) x1 x3 S
          else
            f_M_hasEngine_j47 (fun v0 v1 v2 S => f_M_hasEngine_L4 n v0 v1 v2 S) x1 x3 S)
      else
        f_M_hasEngine_j43 (fun v0 v1 v2 S => f_M_hasEngine_L4 n v0 v1 v2 S) x1 x3 S))
def f_M_hasEngine (a1 : Int32) (S : SS) : Option (Int32 × SS) :=
  f_M_hasEngine_L4 NF a1 (0 : Int32) (0 : Int32) S
theorem dX12_hasEngine_0 : decode cX12_hasEngine 0 = .ok (.iconst 0, 1) := dc_3 (by decide +kernel)
theorem dX12_hasEngine_1 : decode cX12_hasEngine 1 = .ok (.istore_n 2, 1) := dc_61 (by decide +kernel)
theorem dX12_hasEngine_2 : decode cX12_hasEngine 2 = .ok (.iconst 0, 1) := dc_3 (by decide +kernel)
theorem dX12_hasEngine_3 : decode cX12_hasEngine 3 = .ok (.istore_n 3, 1) := dc_62 (by decide +kernel)
theorem dX12_hasEngine_4 : decode cX12_hasEngine 4 = .ok (.iload_n 3, 1) := dc_29 (by decide +kernel)
theorem dX12_hasEngine_5 : decode cX12_hasEngine 5 = .ok (.iconst 2, 1) := dc_5 (by decide +kernel)
theorem dX12_hasEngine_6 : decode cX12_hasEngine 6 = .ok (.if_icmp .ge 49, 3) := dc_162 (a := 0) (b := 49) (by decide +kernel) (by decide)
theorem dX12_hasEngine_9 : decode cX12_hasEngine 9 = .ok (.aload_n 0, 1) := dc_42 (by decide +kernel)
theorem dX12_hasEngine_10 : decode cX12_hasEngine 10 = .ok (.getfield 84, 3) := dc_180 (a := 0) (b := 84) (by decide +kernel)
theorem dX12_hasEngine_13 : decode cX12_hasEngine 13 = .ok (.iconst 2, 1) := dc_5 (by decide +kernel)
theorem dX12_hasEngine_14 : decode cX12_hasEngine 14 = .ok (.iload_n 1, 1) := dc_27 (by decide +kernel)
theorem dX12_hasEngine_15 : decode cX12_hasEngine 15 = .ok (.imul, 1) := dc_104 (by decide +kernel)
theorem dX12_hasEngine_16 : decode cX12_hasEngine 16 = .ok (.iload_n 3, 1) := dc_29 (by decide +kernel)
theorem dX12_hasEngine_17 : decode cX12_hasEngine 17 = .ok (.iadd, 1) := dc_96 (by decide +kernel)
theorem dX12_hasEngine_18 : decode cX12_hasEngine 18 = .ok (.iaload, 1) := dc_46 (by decide +kernel)
theorem dX12_hasEngine_19 : decode cX12_hasEngine 19 = .ok (.istore 4, 2) := dc_54 (a := 4) (by decide +kernel)
theorem dX12_hasEngine_21 : decode cX12_hasEngine 21 = .ok (.iload_n 2, 1) := dc_28 (by decide +kernel)
theorem dX12_hasEngine_22 : decode cX12_hasEngine 22 = .ok (.ifCond .ne 21, 3) := dc_154 (a := 0) (b := 21) (by decide +kernel) (by decide)
theorem dX12_hasEngine_25 : decode cX12_hasEngine 25 = .ok (.iload 4, 2) := dc_21 (a := 4) (by decide +kernel)
theorem dX12_hasEngine_27 : decode cX12_hasEngine 27 = .ok (.bipush (-4), 2) := dc_16 (a := 252) (by decide +kernel) (by decide)
theorem dX12_hasEngine_29 : decode cX12_hasEngine 29 = .ok (.if_icmp .eq 18, 3) := dc_159 (a := 0) (b := 18) (by decide +kernel) (by decide)
theorem dX12_hasEngine_32 : decode cX12_hasEngine 32 = .ok (.aload_n 0, 1) := dc_42 (by decide +kernel)
theorem dX12_hasEngine_33 : decode cX12_hasEngine 33 = .ok (.getfield 69, 3) := dc_180 (a := 0) (b := 69) (by decide +kernel)
theorem dX12_hasEngine_36 : decode cX12_hasEngine 36 = .ok (.iload 4, 2) := dc_21 (a := 4) (by decide +kernel)
theorem dX12_hasEngine_38 : decode cX12_hasEngine 38 = .ok (.iaload, 1) := dc_46 (by decide +kernel)
theorem dX12_hasEngine_39 : decode cX12_hasEngine 39 = .ok (.iconst 5, 1) := dc_8 (by decide +kernel)
theorem dX12_hasEngine_40 : decode cX12_hasEngine 40 = .ok (.if_icmp .ne 7, 3) := dc_160 (a := 0) (b := 7) (by decide +kernel) (by decide)
theorem dX12_hasEngine_43 : decode cX12_hasEngine 43 = .ok (.iconst 1, 1) := dc_4 (by decide +kernel)
theorem dX12_hasEngine_44 : decode cX12_hasEngine 44 = .ok (.goto 4, 3) := dc_167 (a := 0) (b := 4) (by decide +kernel) (by decide)
theorem dX12_hasEngine_47 : decode cX12_hasEngine 47 = .ok (.iconst 0, 1) := dc_3 (by decide +kernel)
theorem dX12_hasEngine_48 : decode cX12_hasEngine 48 = .ok (.istore_n 2, 1) := dc_61 (by decide +kernel)
theorem dX12_hasEngine_49 : decode cX12_hasEngine 49 = .ok (.iinc 3 1, 3) := dc_132 (a := 3) (b := 1) (by decide +kernel) (by decide)
theorem dX12_hasEngine_52 : decode cX12_hasEngine 52 = .ok (.goto (-48), 3) := dc_167 (a := 255) (b := 208) (by decide +kernel) (by decide)
theorem dX12_hasEngine_55 : decode cX12_hasEngine 55 = .ok (.iload_n 2, 1) := dc_28 (by decide +kernel)
theorem dX12_hasEngine_56 : decode cX12_hasEngine 56 = .ok (.ireturn, 1) := dc_172 (by decide +kernel)
set_option maxRecDepth 100000 in
set_option maxHeartbeats 4000000 in
theorem w_M_hasEngine_j48 {p : Program} {l : Launch} {e : Env} {R : Room} {s : State} {m : MethodId} {args : Array Value} {below : List Frame} {meth : Method} {c : Code} {dC : Nat → ClassId} {dI : Nat → Nat → Nat} {cs : Nat → ClassId} {ad : Nat → Nat} {A : Nat → Prop} {D0 : Nat → Nat} {S' : SS} {r : Int32} (F : Fx p s m args meth c cX12_hasEngine 5 RX12 (some .boolean) dC dI cs A) (hR1 : 0 ≤ R.frames) (hR2 : 0 ≤ R.locals) (K4 : Int32 → Int32 → Int32 → SS → Option (Int32 × SS)) (hK4 : ∀ (v0 : Int32) (v1 : Int32) (v2 : Int32) (S : SS), K4 v0 v1 v2 S = some (r, S') → AW p l e R s m args below meth c dC dI cs ad A D0 (some (.int r)) S' 5 4 [(0, .ref (ad 0)), (1, .int v0), (2, .int v1), (3, .int v2)] [] S) (x1 : Int32) (x3 : Int32) (y0 : Int32) (S : SS) (h : f_M_hasEngine_j48 K4 x1 x3 y0 S = some (r, S')) : AW p l e R s m args below meth c dC dI cs ad A D0 (some (.int r)) S' 5 48 [(0, .ref (ad 0)), (1, .int x1), (3, .int x3)] [.int y0] S := by
  have hx := F.1.1
  have hb := F.1.2.1
  intro H locs ls w hl
  rw [f_M_hasEngine_j48] at h
  refine lv_istore_n (pc := 48) (lv' := [(2, .int y0), (0, .ref (ad 0)), (1, .int x1), (3, .int x3)]) hx hb dX12_hasEngine_48 rfl hl (by decide) rfl (fun ls hl => ?_)
  refine s_nm h (fun z2 ez2 h => ?_)
  refine lv_iinc (pc := 49) (v := z2) (lv' := [(3, .int z2), (2, .int y0), (0, .ref (ad 0)), (1, .int x1)]) hx hb dX12_hasEngine_49 hl (k := 3) rfl (by rw [ez2]; rfl) (by decide) rfl (fun ls hl => ?_)
  refine lv_goto (pc := 52) (tgt := 4) hx hb dX12_hasEngine_52 (by decide) ?_
  exact hK4 _ _ _ _ h _ _ _ w (lv_sub hl [2, 3, 1, 0] rfl)
set_option maxRecDepth 100000 in
set_option maxHeartbeats 4000000 in
theorem w_M_hasEngine_j43 {p : Program} {l : Launch} {e : Env} {R : Room} {s : State} {m : MethodId} {args : Array Value} {below : List Frame} {meth : Method} {c : Code} {dC : Nat → ClassId} {dI : Nat → Nat → Nat} {cs : Nat → ClassId} {ad : Nat → Nat} {A : Nat → Prop} {D0 : Nat → Nat} {S' : SS} {r : Int32} (F : Fx p s m args meth c cX12_hasEngine 5 RX12 (some .boolean) dC dI cs A) (hR1 : 0 ≤ R.frames) (hR2 : 0 ≤ R.locals) (K4 : Int32 → Int32 → Int32 → SS → Option (Int32 × SS)) (hK4 : ∀ (v0 : Int32) (v1 : Int32) (v2 : Int32) (S : SS), K4 v0 v1 v2 S = some (r, S') → AW p l e R s m args below meth c dC dI cs ad A D0 (some (.int r)) S' 5 4 [(0, .ref (ad 0)), (1, .int v0), (2, .int v1), (3, .int v2)] [] S) (x1 : Int32) (x3 : Int32) (S : SS) (h : f_M_hasEngine_j43 K4 x1 x3 S = some (r, S')) : AW p l e R s m args below meth c dC dI cs ad A D0 (some (.int r)) S' 5 43 [(0, .ref (ad 0)), (1, .int x1), (3, .int x3)] [] S := by
  have hx := F.1.1
  have hb := F.1.2.1
  intro H locs ls w hl
  rw [f_M_hasEngine_j43] at h
  refine lv_iconst (pc := 43) (v := 1) hx hb dX12_hasEngine_43 (by decide) ?_
  refine lv_goto (pc := 44) (tgt := 48) hx hb dX12_hasEngine_44 (by decide) ?_
  exact w_M_hasEngine_j48 F (Nat.le_trans (by decide) hR1) (Nat.le_trans (by decide) hR2) _ hK4 _ _ _ _ h _ _ _ w (lv_sub hl [0, 1, 2] rfl)
set_option maxRecDepth 100000 in
set_option maxHeartbeats 4000000 in
theorem w_M_hasEngine_j47 {p : Program} {l : Launch} {e : Env} {R : Room} {s : State} {m : MethodId} {args : Array Value} {below : List Frame} {meth : Method} {c : Code} {dC : Nat → ClassId} {dI : Nat → Nat → Nat} {cs : Nat → ClassId} {ad : Nat → Nat} {A : Nat → Prop} {D0 : Nat → Nat} {S' : SS} {r : Int32} (F : Fx p s m args meth c cX12_hasEngine 5 RX12 (some .boolean) dC dI cs A) (hR1 : 0 ≤ R.frames) (hR2 : 0 ≤ R.locals) (K4 : Int32 → Int32 → Int32 → SS → Option (Int32 × SS)) (hK4 : ∀ (v0 : Int32) (v1 : Int32) (v2 : Int32) (S : SS), K4 v0 v1 v2 S = some (r, S') → AW p l e R s m args below meth c dC dI cs ad A D0 (some (.int r)) S' 5 4 [(0, .ref (ad 0)), (1, .int v0), (2, .int v1), (3, .int v2)] [] S) (x1 : Int32) (x3 : Int32) (S : SS) (h : f_M_hasEngine_j47 K4 x1 x3 S = some (r, S')) : AW p l e R s m args below meth c dC dI cs ad A D0 (some (.int r)) S' 5 47 [(0, .ref (ad 0)), (1, .int x1), (3, .int x3)] [] S := by
  have hx := F.1.1
  have hb := F.1.2.1
  intro H locs ls w hl
  rw [f_M_hasEngine_j47] at h
  refine lv_iconst (pc := 47) (v := 0) hx hb dX12_hasEngine_47 (by decide) ?_
  exact w_M_hasEngine_j48 F (Nat.le_trans (by decide) hR1) (Nat.le_trans (by decide) hR2) _ hK4 _ _ _ _ h _ _ _ w (lv_sub hl [0, 1, 2] rfl)
set_option maxRecDepth 100000 in
set_option maxHeartbeats 4000000 in
theorem w_M_hasEngine_L4 {p : Program} {l : Launch} {e : Env} {R : Room} {s : State} {m : MethodId} {args : Array Value} {below : List Frame} {meth : Method} {c : Code} {dC : Nat → ClassId} {dI : Nat → Nat → Nat} {cs : Nat → ClassId} {ad : Nat → Nat} {A : Nat → Prop} {D0 : Nat → Nat} {S' : SS} {r : Int32} (F : Fx p s m args meth c cX12_hasEngine 5 RX12 (some .boolean) dC dI cs A) (hR1 : 0 ≤ R.frames) (hR2 : 0 ≤ R.locals) : ∀ (n : Nat) (x1 : Int32) (x2 : Int32) (x3 : Int32) (S : SS), f_M_hasEngine_L4 n x1 x2 x3 S = some (r, S') → AW p l e R s m args below meth c dC dI cs ad A D0 (some (.int r)) S' 5 4 [(0, .ref (ad 0)), (1, .int x1), (2, .int x2), (3, .int x3)] [] S := by
  have hx := F.1.1
  have hb := F.1.2.1
  intro n
  induction n with
  | zero => intro x1 x2 x3 S h; cases h
  | succ n ih =>
    intro x1 x2 x3 S h H locs ls w hl
    rw [f_M_hasEngine_L4] at h
    refine lv_iload_n (pc := 4) hx hb dX12_hasEngine_4 rfl (lv_at hl 3 rfl) ?_
    refine lv_iconst (pc := 5) (v := 2) hx hb dX12_hasEngine_5 (by decide) ?_
    refine lv_icmp_ge (pc := 6) (tgt := 55) hx hb dX12_hasEngine_6 (by decide) (fun q => ?_) (fun q => ?_)
    · have h := ite_t q h
      refine lv_iload_n (pc := 55) hx hb dX12_hasEngine_55 rfl (lv_at hl 2 rfl) ?_
      exact s_zret F w h dX12_hasEngine_56
    · have h := ite_f q h
      refine lv_aload_n (pc := 9) hx hb dX12_hasEngine_9 rfl (lv_at hl 0 rfl) ?_
      refine s_getR (pc := 10) F w 23 ds_0 (j := 35) vc_X12 vi_X12 rfl (by decide) kf_X12_84 dX12_hasEngine_10 ?_
      refine lv_iconst (pc := 13) (v := 2) hx hb dX12_hasEngine_13 (by decide) ?_
      refine lv_iload_n (pc := 14) hx hb dX12_hasEngine_14 rfl (lv_at hl 1 rfl) ?_
      refine lv_imul (pc := 15) hx hb dX12_hasEngine_15 ?_
      refine lv_iload_n (pc := 16) hx hb dX12_hasEngine_16 rfl (lv_at hl 3 rfl) ?_
      refine lv_iadd (pc := 17) hx hb dX12_hasEngine_17 ?_
      refine s_iald (pc := 18) F w ds_23 h dX12_hasEngine_18 (fun h => ?_)
      refine s_nm h (fun z1 ez1 h => ?_)
      rw [← ez1]
      refine lv_istore (pc := 19) (lv' := [(4, .int z1), (0, .ref (ad 0)), (1, .int x1), (2, .int x2), (3, .int x3)]) hx hb dX12_hasEngine_19 hl (by decide) rfl (fun ls hl => ?_)
      refine lv_iload_n (pc := 21) hx hb dX12_hasEngine_21 rfl (lv_at hl 3 rfl) ?_
      refine lv_if_ne (pc := 22) (tgt := 43) hx hb dX12_hasEngine_22 (by decide) (fun q => ?_) (fun q => ?_)
      · have h := ite_f q h
        exact w_M_hasEngine_j43 F (Nat.le_trans (by decide) hR1) (Nat.le_trans (by decide) hR2) _ (fun v0 v1 v2 S h => ih v0 v1 v2 S h) _ _ _ h _ _ _ w (lv_sub hl [1, 2, 4] rfl)
      · have h := ite_t q h
        refine lv_iload (pc := 25) hx hb dX12_hasEngine_25 (lv_at hl 0 rfl) ?_
        refine lv_bipush (pc := 27) (v := -4) hx hb dX12_hasEngine_27 (by decide) ?_
        refine lv_icmp_eq (pc := 29) (tgt := 47) hx hb dX12_hasEngine_29 (by decide) (fun q => ?_) (fun q => ?_)
        · have h := ite_t q h
          exact w_M_hasEngine_j47 F (Nat.le_trans (by decide) hR1) (Nat.le_trans (by decide) hR2) _ (fun v0 v1 v2 S h => ih v0 v1 v2 S h) _ _ _ h _ _ _ w (lv_sub hl [1, 2, 4] rfl)
        · have h := ite_f q h
          refine lv_aload_n (pc := 32) hx hb dX12_hasEngine_32 rfl (lv_at hl 1 rfl) ?_
          refine s_getR (pc := 33) F w 18 ds_0 (j := 30) vc_X12 vi_X12 rfl (by decide) kf_X12_69 dX12_hasEngine_33 ?_
          refine lv_iload (pc := 36) hx hb dX12_hasEngine_36 (lv_at hl 0 rfl) ?_
          refine s_iald (pc := 38) F w ds_18 h dX12_hasEngine_38 (fun h => ?_)
          refine lv_iconst (pc := 39) (v := 5) hx hb dX12_hasEngine_39 (by decide) ?_
          refine lv_icmp_ne (pc := 40) (tgt := 47) hx hb dX12_hasEngine_40 (by decide) (fun q => ?_) (fun q => ?_)
          · have h := ite_f q h
            exact w_M_hasEngine_j47 F (Nat.le_trans (by decide) hR1) (Nat.le_trans (by decide) hR2) _ (fun v0 v1 v2 S h => ih v0 v1 v2 S h) _ _ _ h _ _ _ w (lv_sub hl [1, 2, 4] rfl)
          · have h := ite_t q h
            exact w_M_hasEngine_j43 F (Nat.le_trans (by decide) hR1) (Nat.le_trans (by decide) hR2) _ (fun v0 v1 v2 S h => ih v0 v1 v2 S h) _ _ _ h _ _ _ w (lv_sub hl [1, 2, 4] rfl)
set_option maxRecDepth 100000 in
set_option maxHeartbeats 4000000 in
theorem m_M_hasEngine (a1 : Int32) (S S' : SS) (r : Int32) (h : f_M_hasEngine a1 S = some (r, S')) : MT yX12_hasEngine cX12_hasEngine 5 (some .boolean) 0 0 (fun ad => [.ref (ad 0), .int a1]) S (some (.int r)) S' := by
  refine MT.of RX12 (fun ad => [(0, .ref (ad 0)), (1, .int a1)]) (by decide) rfl (fun _ => Nat.le_of_ble_eq_true rfl) (fun _ => rfl) ?_
  intro p l e R s m args below meth c dC dI cs ad A hR1 hR2 F H locs ls w hl
  have hx := F.1.1
  have hb := F.1.2.1
  rw [f_M_hasEngine] at h
  refine lv_iconst (pc := 0) (v := 0) hx hb dX12_hasEngine_0 (by decide) ?_
  refine lv_istore_n (pc := 1) (lv' := [(2, .int (0 : Int32)), (0, .ref (ad 0)), (1, .int a1)]) hx hb dX12_hasEngine_1 rfl hl (by decide) rfl (fun ls hl => ?_)
  refine lv_iconst (pc := 2) (v := 0) hx hb dX12_hasEngine_2 (by decide) ?_
  refine lv_istore_n (pc := 3) (lv' := [(3, .int (0 : Int32)), (2, .int (0 : Int32)), (0, .ref (ad 0)), (1, .int a1)]) hx hb dX12_hasEngine_3 rfl hl (by decide) rfl (fun ls hl => ?_)
  exact w_M_hasEngine_L4 F (Nat.le_trans (by decide) hR1) (Nat.le_trans (by decide) hR2) _ _ _ _ _ h _ _ _ w (lv_sub hl [2, 3, 1, 0] rfl)
def f_M_pulls_j27  (x1 : Int32) (S : SS) : Option (Int32 × SS) :=
    bndv (f_M_note (15 : Int32) S) (fun S1 =>
    grd (inb x1 72) (
    some (S1.1 29 x1.toNatClampNeg, S1)))
def f_M_pulls (a1 : Int32) (S : SS) : Option (Int32 × SS) :=
  grd (inb a1 72) (
  if (S.1 18 a1.toNatClampNeg) = (6 : Int32) then
    bndv (f_M_note (16 : Int32) S) (fun S2 =>
    bnd (f_M_hasEngine a1 S2) (fun r4 S3 =>
    if r4 = 0 then
      some ((0 : Int32), S3)
    else
      f_M_pulls_j27 a1 S3))
  else
    f_M_pulls_j27 a1 S)
theorem dX12_pulls_0 : decode cX12_pulls 0 = .ok (.aload_n 0, 1) := dc_42 (by decide +kernel)
theorem dX12_pulls_1 : decode cX12_pulls 1 = .ok (.getfield 69, 3) := dc_180 (a := 0) (b := 69) (by decide +kernel)
theorem dX12_pulls_4 : decode cX12_pulls 4 = .ok (.iload_n 1, 1) := dc_27 (by decide +kernel)
theorem dX12_pulls_5 : decode cX12_pulls 5 = .ok (.iaload, 1) := dc_46 (by decide +kernel)
theorem dX12_pulls_6 : decode cX12_pulls 6 = .ok (.bipush 6, 2) := dc_16 (a := 6) (by decide +kernel) (by decide)
theorem dX12_pulls_8 : decode cX12_pulls 8 = .ok (.if_icmp .ne 19, 3) := dc_160 (a := 0) (b := 19) (by decide +kernel) (by decide)
theorem dX12_pulls_11 : decode cX12_pulls 11 = .ok (.aload_n 0, 1) := dc_42 (by decide +kernel)
theorem dX12_pulls_12 : decode cX12_pulls 12 = .ok (.bipush 16, 2) := dc_16 (a := 16) (by decide +kernel) (by decide)
theorem dX12_pulls_14 : decode cX12_pulls 14 = .ok (.invokevirtual 296, 3) := dc_182 (a := 1) (b := 40) (by decide +kernel)
theorem dX12_pulls_17 : decode cX12_pulls 17 = .ok (.aload_n 0, 1) := dc_42 (by decide +kernel)
theorem dX12_pulls_18 : decode cX12_pulls 18 = .ok (.iload_n 1, 1) := dc_27 (by decide +kernel)
theorem dX12_pulls_19 : decode cX12_pulls 19 = .ok (.invokevirtual 310, 3) := dc_182 (a := 1) (b := 54) (by decide +kernel)
theorem dX12_pulls_22 : decode cX12_pulls 22 = .ok (.ifCond .ne 5, 3) := dc_154 (a := 0) (b := 5) (by decide +kernel) (by decide)
theorem dX12_pulls_25 : decode cX12_pulls 25 = .ok (.iconst 0, 1) := dc_3 (by decide +kernel)
theorem dX12_pulls_26 : decode cX12_pulls 26 = .ok (.ireturn, 1) := dc_172 (by decide +kernel)
theorem dX12_pulls_27 : decode cX12_pulls 27 = .ok (.aload_n 0, 1) := dc_42 (by decide +kernel)
theorem dX12_pulls_28 : decode cX12_pulls 28 = .ok (.bipush 15, 2) := dc_16 (a := 15) (by decide +kernel) (by decide)
theorem dX12_pulls_30 : decode cX12_pulls 30 = .ok (.invokevirtual 296, 3) := dc_182 (a := 1) (b := 40) (by decide +kernel)
theorem dX12_pulls_33 : decode cX12_pulls 33 = .ok (.aload_n 0, 1) := dc_42 (by decide +kernel)
theorem dX12_pulls_34 : decode cX12_pulls 34 = .ok (.getfield 102, 3) := dc_180 (a := 0) (b := 102) (by decide +kernel)
theorem dX12_pulls_37 : decode cX12_pulls 37 = .ok (.iload_n 1, 1) := dc_27 (by decide +kernel)
theorem dX12_pulls_38 : decode cX12_pulls 38 = .ok (.iaload, 1) := dc_46 (by decide +kernel)
theorem dX12_pulls_39 : decode cX12_pulls 39 = .ok (.ireturn, 1) := dc_172 (by decide +kernel)
set_option maxRecDepth 100000 in
set_option maxHeartbeats 4000000 in
theorem w_M_pulls_j27 {p : Program} {l : Launch} {e : Env} {R : Room} {s : State} {m : MethodId} {args : Array Value} {below : List Frame} {meth : Method} {c : Code} {dC : Nat → ClassId} {dI : Nat → Nat → Nat} {cs : Nat → ClassId} {ad : Nat → Nat} {A : Nat → Prop} {D0 : Nat → Nat} {S' : SS} {r : Int32} (F : Fx p s m args meth c cX12_pulls 2 RX12 (some .int) dC dI cs A) (hR1 : 1 ≤ R.frames) (hR2 : 21 ≤ R.locals) (x1 : Int32) (S : SS) (h : f_M_pulls_j27 x1 S = some (r, S')) : AW p l e R s m args below meth c dC dI cs ad A D0 (some (.int r)) S' 2 27 [(0, .ref (ad 0)), (1, .int x1)] [] S := by
  have hx := F.1.1
  have hb := F.1.2.1
  intro H locs ls w hl
  rw [f_M_pulls_j27] at h
  refine lv_aload_n (pc := 27) hx hb dX12_pulls_27 rfl (lv_at hl 0 rfl) ?_
  refine lv_bipush (pc := 28) (v := 15) hx hb dX12_pulls_28 (by decide) ?_
  obtain ⟨S1, hc, h⟩ := bndv_t h
  refine s_cvv (pc := 30) [.int (15 : Int32)] (fun ad => [.ref (ad 0), .int (15 : Int32)]) F w (m_M_note _ _ _ hc) rfl rfl hl.1 ds_0 vc_X12 rfl ok_X12_note rfl kc_X12_note kl_X12_296 ki_X12_note kv_X12_note kn_X12 ⟨Nat.le_trans (by decide) hR1, Nat.le_trans (by decide) hR2⟩ ⟨Nat.zero_le _, Nat.zero_le _⟩ (Nat.le_of_ble_eq_true rfl) dX12_pulls_30 (fun H locs w => ?_)
  refine lv_aload_n (pc := 33) hx hb dX12_pulls_33 rfl (lv_at hl 0 rfl) ?_
  refine s_getR (pc := 34) F w 29 ds_0 (j := 41) vc_X12 vi_X12 rfl (by decide) kf_X12_102 dX12_pulls_34 ?_
  refine lv_iload_n (pc := 37) hx hb dX12_pulls_37 rfl (lv_at hl 1 rfl) ?_
  refine s_iald (pc := 38) F w ds_29 h dX12_pulls_38 (fun h => ?_)
  exact s_iret F w h dX12_pulls_39
set_option maxRecDepth 100000 in
set_option maxHeartbeats 4000000 in
theorem m_M_pulls (a1 : Int32) (S S' : SS) (r : Int32) (h : f_M_pulls a1 S = some (r, S')) : MT yX12_pulls cX12_pulls 2 (some .int) 1 24 (fun ad => [.ref (ad 0), .int a1]) S (some (.int r)) S' := by
  refine MT.of RX12 (fun ad => [(0, .ref (ad 0)), (1, .int a1)]) (by decide) rfl (fun _ => Nat.le_of_ble_eq_true rfl) (fun _ => rfl) ?_
  intro p l e R s m args below meth c dC dI cs ad A hR1 hR2 F H locs ls w hl
  have hx := F.1.1
  have hb := F.1.2.1
  rw [f_M_pulls] at h
  refine lv_aload_n (pc := 0) hx hb dX12_pulls_0 rfl (lv_at hl 0 rfl) ?_
  refine s_getR (pc := 1) F w 18 ds_0 (j := 30) vc_X12 vi_X12 rfl (by decide) kf_X12_69 dX12_pulls_1 ?_
  refine lv_iload_n (pc := 4) hx hb dX12_pulls_4 rfl (lv_at hl 1 rfl) ?_
  refine s_iald (pc := 5) F w ds_18 h dX12_pulls_5 (fun h => ?_)
  refine lv_bipush (pc := 6) (v := 6) hx hb dX12_pulls_6 (by decide) ?_
  refine lv_icmp_ne (pc := 8) (tgt := 27) hx hb dX12_pulls_8 (by decide) (fun q => ?_) (fun q => ?_)
  · have h := ite_f q h
    exact w_M_pulls_j27 F (Nat.le_trans (by decide) hR1) (Nat.le_trans (by decide) hR2) _ _ h _ _ _ w (lv_sub hl [0, 1] rfl)
  · have h := ite_t q h
    refine lv_aload_n (pc := 11) hx hb dX12_pulls_11 rfl (lv_at hl 0 rfl) ?_
    refine lv_bipush (pc := 12) (v := 16) hx hb dX12_pulls_12 (by decide) ?_
    obtain ⟨S2, hc, h⟩ := bndv_t h
    refine s_cvv (pc := 14) [.int (16 : Int32)] (fun ad => [.ref (ad 0), .int (16 : Int32)]) F w (m_M_note _ _ _ hc) rfl rfl hl.1 ds_0 vc_X12 rfl ok_X12_note rfl kc_X12_note kl_X12_296 ki_X12_note kv_X12_note kn_X12 ⟨Nat.le_trans (by decide) hR1, Nat.le_trans (by decide) hR2⟩ ⟨Nat.zero_le _, Nat.zero_le _⟩ (Nat.le_of_ble_eq_true rfl) dX12_pulls_14 (fun H locs w => ?_)
    refine lv_aload_n (pc := 17) hx hb dX12_pulls_17 rfl (lv_at hl 0 rfl) ?_
    refine lv_iload_n (pc := 18) hx hb dX12_pulls_18 rfl (lv_at hl 1 rfl) ?_
    obtain ⟨r4, S3, hc, h⟩ := bnd_t h
    refine s_cvi (pc := 19) [.int a1] (fun ad => [.ref (ad 0), .int a1]) F w (m_M_hasEngine _ _ _ _ hc) rfl rfl hl.1 ds_0 vc_X12 rfl ok_X12_hasEngine rfl kc_X12_hasEngine kl_X12_310 ki_X12_hasEngine kv_X12_hasEngine kn_X12 ⟨Nat.le_trans (by decide) hR1, Nat.le_trans (by decide) hR2⟩ ⟨Nat.zero_le _, Nat.zero_le _⟩ (Nat.le_of_ble_eq_true rfl) dX12_pulls_19 (fun H locs w => ?_)
    refine lv_if_ne (pc := 22) (tgt := 27) hx hb dX12_pulls_22 (by decide) (fun q => ?_) (fun q => ?_)
    · have h := ite_f q h
      exact w_M_pulls_j27 F (Nat.le_trans (by decide) hR1) (Nat.le_trans (by decide) hR2) _ _ h _ _ _ w (lv_sub hl [0, 1] rfl)
    · have h := ite_t q h
      refine lv_iconst (pc := 25) (v := 0) hx hb dX12_pulls_25 (by decide) ?_
      exact s_iret F w h dX12_pulls_26
def f_M_loaded_L9  : Nat → Int32 → Int32 → Int32 → SS → Option (Int32 × SS)
  | 0, _, _, _, _ => none
  | n + 1, x1, x2, x3, S =>
    grd (inb x1 72) (
    if (S.1 35 x1.toNatClampNeg) ≤ x3 then
      some (x2, S)
    else
      grd (inb (((20 : Int32) * x1) + x3) 1440) (
      nm (x2 + (S.1 37 (((20 : Int32) * x1) + x3).toNatClampNeg)) (fun z2 =>
      nm (x3 + (1 : Int32)) (fun z3 =>
      f_M_loaded_L9 n x1 z2 z3 S))))
def f_M_loaded (a1 : Int32) (S : SS) : Option (Int32 × SS) :=
  grd (inb a1 72) (
  nm (S.1 29 a1.toNatClampNeg) (fun z1 =>
  f_M_loaded_L9 NF a1 z1 (0 : Int32) S))
theorem dX12_loaded_0 : decode cX12_loaded 0 = .ok (.aload_n 0, 1) := dc_42 (by decide +kernel)
theorem dX12_loaded_1 : decode cX12_loaded 1 = .ok (.getfield 102, 3) := dc_180 (a := 0) (b := 102) (by decide +kernel)
theorem dX12_loaded_4 : decode cX12_loaded 4 = .ok (.iload_n 1, 1) := dc_27 (by decide +kernel)
theorem dX12_loaded_5 : decode cX12_loaded 5 = .ok (.iaload, 1) := dc_46 (by decide +kernel)
theorem dX12_loaded_6 : decode cX12_loaded 6 = .ok (.istore_n 2, 1) := dc_61 (by decide +kernel)
theorem dX12_loaded_7 : decode cX12_loaded 7 = .ok (.iconst 0, 1) := dc_3 (by decide +kernel)
theorem dX12_loaded_8 : decode cX12_loaded 8 = .ok (.istore_n 3, 1) := dc_62 (by decide +kernel)
theorem dX12_loaded_9 : decode cX12_loaded 9 = .ok (.iload_n 3, 1) := dc_29 (by decide +kernel)
theorem dX12_loaded_10 : decode cX12_loaded 10 = .ok (.aload_n 0, 1) := dc_42 (by decide +kernel)
theorem dX12_loaded_11 : decode cX12_loaded 11 = .ok (.getfield 120, 3) := dc_180 (a := 0) (b := 120) (by decide +kernel)
theorem dX12_loaded_14 : decode cX12_loaded 14 = .ok (.iload_n 1, 1) := dc_27 (by decide +kernel)
theorem dX12_loaded_15 : decode cX12_loaded 15 = .ok (.iaload, 1) := dc_46 (by decide +kernel)
theorem dX12_loaded_16 : decode cX12_loaded 16 = .ok (.if_icmp .ge 23, 3) := dc_162 (a := 0) (b := 23) (by decide +kernel) (by decide)
theorem dX12_loaded_19 : decode cX12_loaded 19 = .ok (.iload_n 2, 1) := dc_28 (by decide +kernel)
theorem dX12_loaded_20 : decode cX12_loaded 20 = .ok (.aload_n 0, 1) := dc_42 (by decide +kernel)
theorem dX12_loaded_21 : decode cX12_loaded 21 = .ok (.getfield 126, 3) := dc_180 (a := 0) (b := 126) (by decide +kernel)
theorem dX12_loaded_24 : decode cX12_loaded 24 = .ok (.bipush 20, 2) := dc_16 (a := 20) (by decide +kernel) (by decide)
theorem dX12_loaded_26 : decode cX12_loaded 26 = .ok (.iload_n 1, 1) := dc_27 (by decide +kernel)
theorem dX12_loaded_27 : decode cX12_loaded 27 = .ok (.imul, 1) := dc_104 (by decide +kernel)
theorem dX12_loaded_28 : decode cX12_loaded 28 = .ok (.iload_n 3, 1) := dc_29 (by decide +kernel)
theorem dX12_loaded_29 : decode cX12_loaded 29 = .ok (.iadd, 1) := dc_96 (by decide +kernel)
theorem dX12_loaded_30 : decode cX12_loaded 30 = .ok (.iaload, 1) := dc_46 (by decide +kernel)
theorem dX12_loaded_31 : decode cX12_loaded 31 = .ok (.iadd, 1) := dc_96 (by decide +kernel)
theorem dX12_loaded_32 : decode cX12_loaded 32 = .ok (.istore_n 2, 1) := dc_61 (by decide +kernel)
theorem dX12_loaded_33 : decode cX12_loaded 33 = .ok (.iinc 3 1, 3) := dc_132 (a := 3) (b := 1) (by decide +kernel) (by decide)
theorem dX12_loaded_36 : decode cX12_loaded 36 = .ok (.goto (-27), 3) := dc_167 (a := 255) (b := 229) (by decide +kernel) (by decide)
theorem dX12_loaded_39 : decode cX12_loaded 39 = .ok (.iload_n 2, 1) := dc_28 (by decide +kernel)
theorem dX12_loaded_40 : decode cX12_loaded 40 = .ok (.ireturn, 1) := dc_172 (by decide +kernel)
set_option maxRecDepth 100000 in
set_option maxHeartbeats 4000000 in
theorem w_M_loaded_L9 {p : Program} {l : Launch} {e : Env} {R : Room} {s : State} {m : MethodId} {args : Array Value} {below : List Frame} {meth : Method} {c : Code} {dC : Nat → ClassId} {dI : Nat → Nat → Nat} {cs : Nat → ClassId} {ad : Nat → Nat} {A : Nat → Prop} {D0 : Nat → Nat} {S' : SS} {r : Int32} (F : Fx p s m args meth c cX12_loaded 4 RX12 (some .int) dC dI cs A) (hR1 : 0 ≤ R.frames) (hR2 : 0 ≤ R.locals) : ∀ (n : Nat) (x1 : Int32) (x2 : Int32) (x3 : Int32) (S : SS), f_M_loaded_L9 n x1 x2 x3 S = some (r, S') → AW p l e R s m args below meth c dC dI cs ad A D0 (some (.int r)) S' 4 9 [(0, .ref (ad 0)), (1, .int x1), (2, .int x2), (3, .int x3)] [] S := by
  have hx := F.1.1
  have hb := F.1.2.1
  intro n
  induction n with
  | zero => intro x1 x2 x3 S h; cases h
  | succ n ih =>
    intro x1 x2 x3 S h H locs ls w hl
    rw [f_M_loaded_L9] at h
    refine lv_iload_n (pc := 9) hx hb dX12_loaded_9 rfl (lv_at hl 3 rfl) ?_
    refine lv_aload_n (pc := 10) hx hb dX12_loaded_10 rfl (lv_at hl 0 rfl) ?_
    refine s_getR (pc := 11) F w 35 ds_0 (j := 50) vc_X12 vi_X12 rfl (by decide) kf_X12_120 dX12_loaded_11 ?_
    refine lv_iload_n (pc := 14) hx hb dX12_loaded_14 rfl (lv_at hl 1 rfl) ?_
    refine s_iald (pc := 15) F w ds_35 h dX12_loaded_15 (fun h => ?_)
    refine lv_icmp_ge (pc := 16) (tgt := 39) hx hb dX12_loaded_16 (by decide) (fun q => ?_) (fun q => ?_)
    · have h := ite_t q h
      refine lv_iload_n (pc := 39) hx hb dX12_loaded_39 rfl (lv_at hl 2 rfl) ?_
      exact s_iret F w h dX12_loaded_40
    · have h := ite_f q h
      refine lv_iload_n (pc := 19) hx hb dX12_loaded_19 rfl (lv_at hl 2 rfl) ?_
      refine lv_aload_n (pc := 20) hx hb dX12_loaded_20 rfl (lv_at hl 0 rfl) ?_
      refine s_getR (pc := 21) F w 37 ds_0 (j := 52) vc_X12 vi_X12 rfl (by decide) kf_X12_126 dX12_loaded_21 ?_
      refine lv_bipush (pc := 24) (v := 20) hx hb dX12_loaded_24 (by decide) ?_
      refine lv_iload_n (pc := 26) hx hb dX12_loaded_26 rfl (lv_at hl 1 rfl) ?_
      refine lv_imul (pc := 27) hx hb dX12_loaded_27 ?_
      refine lv_iload_n (pc := 28) hx hb dX12_loaded_28 rfl (lv_at hl 3 rfl) ?_
      refine lv_iadd (pc := 29) hx hb dX12_loaded_29 ?_
      refine s_iald (pc := 30) F w ds_37 h dX12_loaded_30 (fun h => ?_)
      refine lv_iadd (pc := 31) hx hb dX12_loaded_31 ?_
      refine s_nm h (fun z2 ez2 h => ?_)
      rw [← ez2]
      refine lv_istore_n (pc := 32) (lv' := [(2, .int z2), (0, .ref (ad 0)), (1, .int x1), (3, .int x3)]) hx hb dX12_loaded_32 rfl hl (by decide) rfl (fun ls hl => ?_)
      refine s_nm h (fun z3 ez3 h => ?_)
      refine lv_iinc (pc := 33) (v := z3) (lv' := [(3, .int z3), (2, .int z2), (0, .ref (ad 0)), (1, .int x1)]) hx hb dX12_loaded_33 hl (k := 3) rfl (by rw [ez3]; rfl) (by decide) rfl (fun ls hl => ?_)
      refine lv_goto (pc := 36) (tgt := 9) hx hb dX12_loaded_36 (by decide) ?_
      exact ih _ _ _ _ h _ _ _ w (lv_sub hl [2, 3, 1, 0] rfl)
set_option maxRecDepth 100000 in
set_option maxHeartbeats 4000000 in
theorem m_M_loaded (a1 : Int32) (S S' : SS) (r : Int32) (h : f_M_loaded a1 S = some (r, S')) : MT yX12_loaded cX12_loaded 4 (some .int) 0 0 (fun ad => [.ref (ad 0), .int a1]) S (some (.int r)) S' := by
  refine MT.of RX12 (fun ad => [(0, .ref (ad 0)), (1, .int a1)]) (by decide) rfl (fun _ => Nat.le_of_ble_eq_true rfl) (fun _ => rfl) ?_
  intro p l e R s m args below meth c dC dI cs ad A hR1 hR2 F H locs ls w hl
  have hx := F.1.1
  have hb := F.1.2.1
  rw [f_M_loaded] at h
  refine lv_aload_n (pc := 0) hx hb dX12_loaded_0 rfl (lv_at hl 0 rfl) ?_
  refine s_getR (pc := 1) F w 29 ds_0 (j := 41) vc_X12 vi_X12 rfl (by decide) kf_X12_102 dX12_loaded_1 ?_
  refine lv_iload_n (pc := 4) hx hb dX12_loaded_4 rfl (lv_at hl 1 rfl) ?_
  refine s_iald (pc := 5) F w ds_29 h dX12_loaded_5 (fun h => ?_)
  refine s_nm h (fun z1 ez1 h => ?_)
  rw [← ez1]
  refine lv_istore_n (pc := 6) (lv' := [(2, .int z1), (0, .ref (ad 0)), (1, .int a1)]) hx hb dX12_loaded_6 rfl hl (by decide) rfl (fun ls hl => ?_)
  refine lv_iconst (pc := 7) (v := 0) hx hb dX12_loaded_7 (by decide) ?_
  refine lv_istore_n (pc := 8) (lv' := [(3, .int (0 : Int32)), (2, .int z1), (0, .ref (ad 0)), (1, .int a1)]) hx hb dX12_loaded_8 rfl hl (by decide) rfl (fun ls hl => ?_)
  exact w_M_loaded_L9 F (Nat.le_trans (by decide) hR1) (Nat.le_trans (by decide) hR2) _ _ _ _ _ h _ _ _ w (lv_sub hl [2, 3, 1, 0] rfl)
def f_M_weight_j21  (x1 : Int32) (y0 : Int32) (S : SS) : Option (Int32 × SS) :=
    grd (inb x1 72) (
    if (S.1 18 x1.toNatClampNeg) = (0 : Int32) then
      bndv (f_M_note (1 : Int32) S) (fun S1 =>
      bnd (f_M_loaded x1 S1) (fun r3 S2 =>
      some (r3, S2)))
    else
    if (S.1 18 x1.toNatClampNeg) = (1 : Int32) then
      bndv (f_M_note (2 : Int32) S) (fun S4 =>
      bndv (f_M_note (1 : Int32) S4) (fun S5 =>
      bnd (f_M_loaded x1 S5) (fun r7 S6 =>
      some (r7 + y0, S6))))
    else
    if (S.1 18 x1.toNatClampNeg) = (2 : Int32) then
      bndv (f_M_note (3 : Int32) S) (fun S8 =>
      bndv (f_M_note (2 : Int32) S8) (fun S9 =>
      bndv (f_M_note (1 : Int32) S9) (fun S10 =>
      bnd (f_M_loaded x1 S10) (fun r12 S11 =>
      some ((r12 + y0) + (5 : Int32), S11)))))
    else
    if (S.1 18 x1.toNatClampNeg) = (3 : Int32) then
      bndv (f_M_note (1 : Int32) S) (fun S13 =>
      bnd (f_M_loaded x1 S13) (fun r15 S14 =>
      some (r15, S14)))
    else
    if (S.1 18 x1.toNatClampNeg) = (4 : Int32) then
      bndv (f_M_note (4 : Int32) S) (fun S16 =>
      grd (inb x1 72) (
      some (S16.1 29 x1.toNatClampNeg, S16)))
    else
    bndv (f_M_note (5 : Int32) S) (fun S17 =>
    grd (inb x1 72) (
    some ((80 : Int32) + (S17.1 29 x1.toNatClampNeg), S17))))
def f_M_weight (a1 : Int32) (S : SS) : Option (Int32 × SS) :=
  grd (inb a1 72) (
  if (S.1 35 a1.toNatClampNeg) = (-4 : Int32) then
    f_M_weight_j21 a1 (0 : Int32) S
  else
    grd (inb a1 72) (
    f_M_weight_j21 a1 (S.1 35 a1.toNatClampNeg) S))
theorem dX12_weight_0 : decode cX12_weight 0 = .ok (.aload_n 0, 1) := dc_42 (by decide +kernel)
theorem dX12_weight_1 : decode cX12_weight 1 = .ok (.getfield 120, 3) := dc_180 (a := 0) (b := 120) (by decide +kernel)
theorem dX12_weight_4 : decode cX12_weight 4 = .ok (.iload_n 1, 1) := dc_27 (by decide +kernel)
theorem dX12_weight_5 : decode cX12_weight 5 = .ok (.iaload, 1) := dc_46 (by decide +kernel)
theorem dX12_weight_6 : decode cX12_weight 6 = .ok (.bipush (-4), 2) := dc_16 (a := 252) (by decide +kernel) (by decide)
theorem dX12_weight_8 : decode cX12_weight 8 = .ok (.if_icmp .ne 7, 3) := dc_160 (a := 0) (b := 7) (by decide +kernel) (by decide)
theorem dX12_weight_11 : decode cX12_weight 11 = .ok (.iconst 0, 1) := dc_3 (by decide +kernel)
theorem dX12_weight_12 : decode cX12_weight 12 = .ok (.goto 9, 3) := dc_167 (a := 0) (b := 9) (by decide +kernel) (by decide)
theorem dX12_weight_15 : decode cX12_weight 15 = .ok (.aload_n 0, 1) := dc_42 (by decide +kernel)
theorem dX12_weight_16 : decode cX12_weight 16 = .ok (.getfield 120, 3) := dc_180 (a := 0) (b := 120) (by decide +kernel)
theorem dX12_weight_19 : decode cX12_weight 19 = .ok (.iload_n 1, 1) := dc_27 (by decide +kernel)
theorem dX12_weight_20 : decode cX12_weight 20 = .ok (.iaload, 1) := dc_46 (by decide +kernel)
theorem dX12_weight_21 : decode cX12_weight 21 = .ok (.istore_n 2, 1) := dc_61 (by decide +kernel)
theorem dX12_weight_22 : decode cX12_weight 22 = .ok (.aload_n 0, 1) := dc_42 (by decide +kernel)
theorem dX12_weight_23 : decode cX12_weight 23 = .ok (.getfield 69, 3) := dc_180 (a := 0) (b := 69) (by decide +kernel)
theorem dX12_weight_26 : decode cX12_weight 26 = .ok (.iload_n 1, 1) := dc_27 (by decide +kernel)
theorem dX12_weight_27 : decode cX12_weight 27 = .ok (.iaload, 1) := dc_46 (by decide +kernel)
theorem dX12_weight_28 : decode cX12_weight 28 = .ok (.tableswitch 102 0 4 #[36, 47, 65, 36, 90], 36) := by decide +kernel
theorem dX12_weight_64 : decode cX12_weight 64 = .ok (.aload_n 0, 1) := dc_42 (by decide +kernel)
theorem dX12_weight_65 : decode cX12_weight 65 = .ok (.iconst 1, 1) := dc_4 (by decide +kernel)
theorem dX12_weight_66 : decode cX12_weight 66 = .ok (.invokevirtual 296, 3) := dc_182 (a := 1) (b := 40) (by decide +kernel)
theorem dX12_weight_69 : decode cX12_weight 69 = .ok (.aload_n 0, 1) := dc_42 (by decide +kernel)
theorem dX12_weight_70 : decode cX12_weight 70 = .ok (.iload_n 1, 1) := dc_27 (by decide +kernel)
theorem dX12_weight_71 : decode cX12_weight 71 = .ok (.invokevirtual 300, 3) := dc_182 (a := 1) (b := 44) (by decide +kernel)
theorem dX12_weight_74 : decode cX12_weight 74 = .ok (.ireturn, 1) := dc_172 (by decide +kernel)
theorem dX12_weight_75 : decode cX12_weight 75 = .ok (.aload_n 0, 1) := dc_42 (by decide +kernel)
theorem dX12_weight_76 : decode cX12_weight 76 = .ok (.iconst 2, 1) := dc_5 (by decide +kernel)
theorem dX12_weight_77 : decode cX12_weight 77 = .ok (.invokevirtual 296, 3) := dc_182 (a := 1) (b := 40) (by decide +kernel)
theorem dX12_weight_80 : decode cX12_weight 80 = .ok (.aload_n 0, 1) := dc_42 (by decide +kernel)
theorem dX12_weight_81 : decode cX12_weight 81 = .ok (.iconst 1, 1) := dc_4 (by decide +kernel)
theorem dX12_weight_82 : decode cX12_weight 82 = .ok (.invokevirtual 296, 3) := dc_182 (a := 1) (b := 40) (by decide +kernel)
theorem dX12_weight_85 : decode cX12_weight 85 = .ok (.aload_n 0, 1) := dc_42 (by decide +kernel)
theorem dX12_weight_86 : decode cX12_weight 86 = .ok (.iload_n 1, 1) := dc_27 (by decide +kernel)
theorem dX12_weight_87 : decode cX12_weight 87 = .ok (.invokevirtual 300, 3) := dc_182 (a := 1) (b := 44) (by decide +kernel)
theorem dX12_weight_90 : decode cX12_weight 90 = .ok (.iload_n 2, 1) := dc_28 (by decide +kernel)
theorem dX12_weight_91 : decode cX12_weight 91 = .ok (.iadd, 1) := dc_96 (by decide +kernel)
theorem dX12_weight_92 : decode cX12_weight 92 = .ok (.ireturn, 1) := dc_172 (by decide +kernel)
theorem dX12_weight_93 : decode cX12_weight 93 = .ok (.aload_n 0, 1) := dc_42 (by decide +kernel)
theorem dX12_weight_94 : decode cX12_weight 94 = .ok (.iconst 3, 1) := dc_6 (by decide +kernel)
theorem dX12_weight_95 : decode cX12_weight 95 = .ok (.invokevirtual 296, 3) := dc_182 (a := 1) (b := 40) (by decide +kernel)
theorem dX12_weight_98 : decode cX12_weight 98 = .ok (.aload_n 0, 1) := dc_42 (by decide +kernel)
theorem dX12_weight_99 : decode cX12_weight 99 = .ok (.iconst 2, 1) := dc_5 (by decide +kernel)
theorem dX12_weight_100 : decode cX12_weight 100 = .ok (.invokevirtual 296, 3) := dc_182 (a := 1) (b := 40) (by decide +kernel)
theorem dX12_weight_103 : decode cX12_weight 103 = .ok (.aload_n 0, 1) := dc_42 (by decide +kernel)
theorem dX12_weight_104 : decode cX12_weight 104 = .ok (.iconst 1, 1) := dc_4 (by decide +kernel)
theorem dX12_weight_105 : decode cX12_weight 105 = .ok (.invokevirtual 296, 3) := dc_182 (a := 1) (b := 40) (by decide +kernel)
theorem dX12_weight_108 : decode cX12_weight 108 = .ok (.aload_n 0, 1) := dc_42 (by decide +kernel)
theorem dX12_weight_109 : decode cX12_weight 109 = .ok (.iload_n 1, 1) := dc_27 (by decide +kernel)
theorem dX12_weight_110 : decode cX12_weight 110 = .ok (.invokevirtual 300, 3) := dc_182 (a := 1) (b := 44) (by decide +kernel)
theorem dX12_weight_113 : decode cX12_weight 113 = .ok (.iload_n 2, 1) := dc_28 (by decide +kernel)
theorem dX12_weight_114 : decode cX12_weight 114 = .ok (.iadd, 1) := dc_96 (by decide +kernel)
theorem dX12_weight_115 : decode cX12_weight 115 = .ok (.iconst 5, 1) := dc_8 (by decide +kernel)
theorem dX12_weight_116 : decode cX12_weight 116 = .ok (.iadd, 1) := dc_96 (by decide +kernel)
theorem dX12_weight_117 : decode cX12_weight 117 = .ok (.ireturn, 1) := dc_172 (by decide +kernel)
theorem dX12_weight_118 : decode cX12_weight 118 = .ok (.aload_n 0, 1) := dc_42 (by decide +kernel)
theorem dX12_weight_119 : decode cX12_weight 119 = .ok (.iconst 4, 1) := dc_7 (by decide +kernel)
theorem dX12_weight_120 : decode cX12_weight 120 = .ok (.invokevirtual 296, 3) := dc_182 (a := 1) (b := 40) (by decide +kernel)
theorem dX12_weight_123 : decode cX12_weight 123 = .ok (.aload_n 0, 1) := dc_42 (by decide +kernel)
theorem dX12_weight_124 : decode cX12_weight 124 = .ok (.getfield 102, 3) := dc_180 (a := 0) (b := 102) (by decide +kernel)
theorem dX12_weight_127 : decode cX12_weight 127 = .ok (.iload_n 1, 1) := dc_27 (by decide +kernel)
theorem dX12_weight_128 : decode cX12_weight 128 = .ok (.iaload, 1) := dc_46 (by decide +kernel)
theorem dX12_weight_129 : decode cX12_weight 129 = .ok (.ireturn, 1) := dc_172 (by decide +kernel)
theorem dX12_weight_130 : decode cX12_weight 130 = .ok (.aload_n 0, 1) := dc_42 (by decide +kernel)
theorem dX12_weight_131 : decode cX12_weight 131 = .ok (.iconst 5, 1) := dc_8 (by decide +kernel)
theorem dX12_weight_132 : decode cX12_weight 132 = .ok (.invokevirtual 296, 3) := dc_182 (a := 1) (b := 40) (by decide +kernel)
theorem dX12_weight_135 : decode cX12_weight 135 = .ok (.bipush 80, 2) := dc_16 (a := 80) (by decide +kernel) (by decide)
theorem dX12_weight_137 : decode cX12_weight 137 = .ok (.aload_n 0, 1) := dc_42 (by decide +kernel)
theorem dX12_weight_138 : decode cX12_weight 138 = .ok (.getfield 102, 3) := dc_180 (a := 0) (b := 102) (by decide +kernel)
theorem dX12_weight_141 : decode cX12_weight 141 = .ok (.iload_n 1, 1) := dc_27 (by decide +kernel)
theorem dX12_weight_142 : decode cX12_weight 142 = .ok (.iaload, 1) := dc_46 (by decide +kernel)
theorem dX12_weight_143 : decode cX12_weight 143 = .ok (.iadd, 1) := dc_96 (by decide +kernel)
theorem dX12_weight_144 : decode cX12_weight 144 = .ok (.ireturn, 1) := dc_172 (by decide +kernel)
set_option maxRecDepth 100000 in
set_option maxHeartbeats 4000000 in
theorem w_M_weight_j21 {p : Program} {l : Launch} {e : Env} {R : Room} {s : State} {m : MethodId} {args : Array Value} {below : List Frame} {meth : Method} {c : Code} {dC : Nat → ClassId} {dI : Nat → Nat → Nat} {cs : Nat → ClassId} {ad : Nat → Nat} {A : Nat → Prop} {D0 : Nat → Nat} {S' : SS} {r : Int32} (F : Fx p s m args meth c cX12_weight 3 RX12 (some .int) dC dI cs A) (hR1 : 1 ≤ R.frames) (hR2 : 23 ≤ R.locals) (x1 : Int32) (y0 : Int32) (S : SS) (h : f_M_weight_j21 x1 y0 S = some (r, S')) : AW p l e R s m args below meth c dC dI cs ad A D0 (some (.int r)) S' 3 21 [(0, .ref (ad 0)), (1, .int x1)] [.int y0] S := by
  have hx := F.1.1
  have hb := F.1.2.1
  intro H locs ls w hl
  rw [f_M_weight_j21] at h
  refine lv_istore_n (pc := 21) (lv' := [(2, .int y0), (0, .ref (ad 0)), (1, .int x1)]) hx hb dX12_weight_21 rfl hl (by decide) rfl (fun ls hl => ?_)
  refine lv_aload_n (pc := 22) hx hb dX12_weight_22 rfl (lv_at hl 1 rfl) ?_
  refine s_getR (pc := 23) F w 18 ds_0 (j := 30) vc_X12 vi_X12 rfl (by decide) kf_X12_69 dX12_weight_23 ?_
  refine lv_iload_n (pc := 26) hx hb dX12_weight_26 rfl (lv_at hl 2 rfl) ?_
  refine s_iald (pc := 27) F w ds_18 h dX12_weight_27 (fun h => ?_)
  rcases Decidable.em (S.1 18 x1.toNatClampNeg = (0 : Int32)) with q0 | q0
  · refine lv_tableIn (pc := 28) (tgt := 64) (off := 36) hx hb dX12_weight_28 (by rw [q0]; decide) (by rw [q0]; decide) (by rw [q0]; rfl) (by decide) ?_
    have h := ite_t q0 h
    refine lv_aload_n (pc := 64) hx hb dX12_weight_64 rfl (lv_at hl 1 rfl) ?_
    refine lv_iconst (pc := 65) (v := 1) hx hb dX12_weight_65 (by decide) ?_
    obtain ⟨S1, hc, h⟩ := bndv_t h
    refine s_cvv (pc := 66) [.int (1 : Int32)] (fun ad => [.ref (ad 0), .int (1 : Int32)]) F w (m_M_note _ _ _ hc) rfl rfl hl.1 ds_0 vc_X12 rfl ok_X12_note rfl kc_X12_note kl_X12_296 ki_X12_note kv_X12_note kn_X12 ⟨Nat.le_trans (by decide) hR1, Nat.le_trans (by decide) hR2⟩ ⟨Nat.zero_le _, Nat.zero_le _⟩ (Nat.le_of_ble_eq_true rfl) dX12_weight_66 (fun H locs w => ?_)
    refine lv_aload_n (pc := 69) hx hb dX12_weight_69 rfl (lv_at hl 1 rfl) ?_
    refine lv_iload_n (pc := 70) hx hb dX12_weight_70 rfl (lv_at hl 2 rfl) ?_
    obtain ⟨r3, S2, hc, h⟩ := bnd_t h
    refine s_cvi (pc := 71) [.int x1] (fun ad => [.ref (ad 0), .int x1]) F w (m_M_loaded _ _ _ _ hc) rfl rfl hl.1 ds_0 vc_X12 rfl ok_X12_loaded rfl kc_X12_loaded kl_X12_300 ki_X12_loaded kv_X12_loaded kn_X12 ⟨Nat.le_trans (by decide) hR1, Nat.le_trans (by decide) hR2⟩ ⟨Nat.zero_le _, Nat.zero_le _⟩ (Nat.le_of_ble_eq_true rfl) dX12_weight_71 (fun H locs w => ?_)
    exact s_iret F w h dX12_weight_74
  have h := ite_f q0 h
  rcases Decidable.em (S.1 18 x1.toNatClampNeg = (1 : Int32)) with q1 | q1
  · refine lv_tableIn (pc := 28) (tgt := 75) (off := 47) hx hb dX12_weight_28 (by rw [q1]; decide) (by rw [q1]; decide) (by rw [q1]; rfl) (by decide) ?_
    have h := ite_t q1 h
    refine lv_aload_n (pc := 75) hx hb dX12_weight_75 rfl (lv_at hl 1 rfl) ?_
    refine lv_iconst (pc := 76) (v := 2) hx hb dX12_weight_76 (by decide) ?_
    obtain ⟨S4, hc, h⟩ := bndv_t h
    refine s_cvv (pc := 77) [.int (2 : Int32)] (fun ad => [.ref (ad 0), .int (2 : Int32)]) F w (m_M_note _ _ _ hc) rfl rfl hl.1 ds_0 vc_X12 rfl ok_X12_note rfl kc_X12_note kl_X12_296 ki_X12_note kv_X12_note kn_X12 ⟨Nat.le_trans (by decide) hR1, Nat.le_trans (by decide) hR2⟩ ⟨Nat.zero_le _, Nat.zero_le _⟩ (Nat.le_of_ble_eq_true rfl) dX12_weight_77 (fun H locs w => ?_)
    refine lv_aload_n (pc := 80) hx hb dX12_weight_80 rfl (lv_at hl 1 rfl) ?_
    refine lv_iconst (pc := 81) (v := 1) hx hb dX12_weight_81 (by decide) ?_
    obtain ⟨S5, hc, h⟩ := bndv_t h
    refine s_cvv (pc := 82) [.int (1 : Int32)] (fun ad => [.ref (ad 0), .int (1 : Int32)]) F w (m_M_note _ _ _ hc) rfl rfl hl.1 ds_0 vc_X12 rfl ok_X12_note rfl kc_X12_note kl_X12_296 ki_X12_note kv_X12_note kn_X12 ⟨Nat.le_trans (by decide) hR1, Nat.le_trans (by decide) hR2⟩ ⟨Nat.zero_le _, Nat.zero_le _⟩ (Nat.le_of_ble_eq_true rfl) dX12_weight_82 (fun H locs w => ?_)
    refine lv_aload_n (pc := 85) hx hb dX12_weight_85 rfl (lv_at hl 1 rfl) ?_
    refine lv_iload_n (pc := 86) hx hb dX12_weight_86 rfl (lv_at hl 2 rfl) ?_
    obtain ⟨r7, S6, hc, h⟩ := bnd_t h
    refine s_cvi (pc := 87) [.int x1] (fun ad => [.ref (ad 0), .int x1]) F w (m_M_loaded _ _ _ _ hc) rfl rfl hl.1 ds_0 vc_X12 rfl ok_X12_loaded rfl kc_X12_loaded kl_X12_300 ki_X12_loaded kv_X12_loaded kn_X12 ⟨Nat.le_trans (by decide) hR1, Nat.le_trans (by decide) hR2⟩ ⟨Nat.zero_le _, Nat.zero_le _⟩ (Nat.le_of_ble_eq_true rfl) dX12_weight_87 (fun H locs w => ?_)
    refine lv_iload_n (pc := 90) hx hb dX12_weight_90 rfl (lv_at hl 0 rfl) ?_
    refine lv_iadd (pc := 91) hx hb dX12_weight_91 ?_
    exact s_iret F w h dX12_weight_92
  have h := ite_f q1 h
  rcases Decidable.em (S.1 18 x1.toNatClampNeg = (2 : Int32)) with q2 | q2
  · refine lv_tableIn (pc := 28) (tgt := 93) (off := 65) hx hb dX12_weight_28 (by rw [q2]; decide) (by rw [q2]; decide) (by rw [q2]; rfl) (by decide) ?_
    have h := ite_t q2 h
    refine lv_aload_n (pc := 93) hx hb dX12_weight_93 rfl (lv_at hl 1 rfl) ?_
    refine lv_iconst (pc := 94) (v := 3) hx hb dX12_weight_94 (by decide) ?_
    obtain ⟨S8, hc, h⟩ := bndv_t h
    refine s_cvv (pc := 95) [.int (3 : Int32)] (fun ad => [.ref (ad 0), .int (3 : Int32)]) F w (m_M_note _ _ _ hc) rfl rfl hl.1 ds_0 vc_X12 rfl ok_X12_note rfl kc_X12_note kl_X12_296 ki_X12_note kv_X12_note kn_X12 ⟨Nat.le_trans (by decide) hR1, Nat.le_trans (by decide) hR2⟩ ⟨Nat.zero_le _, Nat.zero_le _⟩ (Nat.le_of_ble_eq_true rfl) dX12_weight_95 (fun H locs w => ?_)
    refine lv_aload_n (pc := 98) hx hb dX12_weight_98 rfl (lv_at hl 1 rfl) ?_
    refine lv_iconst (pc := 99) (v := 2) hx hb dX12_weight_99 (by decide) ?_
    obtain ⟨S9, hc, h⟩ := bndv_t h
    refine s_cvv (pc := 100) [.int (2 : Int32)] (fun ad => [.ref (ad 0), .int (2 : Int32)]) F w (m_M_note _ _ _ hc) rfl rfl hl.1 ds_0 vc_X12 rfl ok_X12_note rfl kc_X12_note kl_X12_296 ki_X12_note kv_X12_note kn_X12 ⟨Nat.le_trans (by decide) hR1, Nat.le_trans (by decide) hR2⟩ ⟨Nat.zero_le _, Nat.zero_le _⟩ (Nat.le_of_ble_eq_true rfl) dX12_weight_100 (fun H locs w => ?_)
    refine lv_aload_n (pc := 103) hx hb dX12_weight_103 rfl (lv_at hl 1 rfl) ?_
    refine lv_iconst (pc := 104) (v := 1) hx hb dX12_weight_104 (by decide) ?_
    obtain ⟨S10, hc, h⟩ := bndv_t h
    refine s_cvv (pc := 105) [.int (1 : Int32)] (fun ad => [.ref (ad 0), .int (1 : Int32)]) F w (m_M_note _ _ _ hc) rfl rfl hl.1 ds_0 vc_X12 rfl ok_X12_note rfl kc_X12_note kl_X12_296 ki_X12_note kv_X12_note kn_X12 ⟨Nat.le_trans (by decide) hR1, Nat.le_trans (by decide) hR2⟩ ⟨Nat.zero_le _, Nat.zero_le _⟩ (Nat.le_of_ble_eq_true rfl) dX12_weight_105 (fun H locs w => ?_)
    refine lv_aload_n (pc := 108) hx hb dX12_weight_108 rfl (lv_at hl 1 rfl) ?_
    refine lv_iload_n (pc := 109) hx hb dX12_weight_109 rfl (lv_at hl 2 rfl) ?_
    obtain ⟨r12, S11, hc, h⟩ := bnd_t h
    refine s_cvi (pc := 110) [.int x1] (fun ad => [.ref (ad 0), .int x1]) F w (m_M_loaded _ _ _ _ hc) rfl rfl hl.1 ds_0 vc_X12 rfl ok_X12_loaded rfl kc_X12_loaded kl_X12_300 ki_X12_loaded kv_X12_loaded kn_X12 ⟨Nat.le_trans (by decide) hR1, Nat.le_trans (by decide) hR2⟩ ⟨Nat.zero_le _, Nat.zero_le _⟩ (Nat.le_of_ble_eq_true rfl) dX12_weight_110 (fun H locs w => ?_)
    refine lv_iload_n (pc := 113) hx hb dX12_weight_113 rfl (lv_at hl 0 rfl) ?_
    refine lv_iadd (pc := 114) hx hb dX12_weight_114 ?_
    refine lv_iconst (pc := 115) (v := 5) hx hb dX12_weight_115 (by decide) ?_
    refine lv_iadd (pc := 116) hx hb dX12_weight_116 ?_
    exact s_iret F w h dX12_weight_117
  have h := ite_f q2 h
  rcases Decidable.em (S.1 18 x1.toNatClampNeg = (3 : Int32)) with q3 | q3
  · refine lv_tableIn (pc := 28) (tgt := 64) (off := 36) hx hb dX12_weight_28 (by rw [q3]; decide) (by rw [q3]; decide) (by rw [q3]; rfl) (by decide) ?_
    have h := ite_t q3 h
    refine lv_aload_n (pc := 64) hx hb dX12_weight_64 rfl (lv_at hl 1 rfl) ?_
    refine lv_iconst (pc := 65) (v := 1) hx hb dX12_weight_65 (by decide) ?_
    obtain ⟨S13, hc, h⟩ := bndv_t h
    refine s_cvv (pc := 66) [.int (1 : Int32)] (fun ad => [.ref (ad 0), .int (1 : Int32)]) F w (m_M_note _ _ _ hc) rfl rfl hl.1 ds_0 vc_X12 rfl ok_X12_note rfl kc_X12_note kl_X12_296 ki_X12_note kv_X12_note kn_X12 ⟨Nat.le_trans (by decide) hR1, Nat.le_trans (by decide) hR2⟩ ⟨Nat.zero_le _, Nat.zero_le _⟩ (Nat.le_of_ble_eq_true rfl) dX12_weight_66 (fun H locs w => ?_)
    refine lv_aload_n (pc := 69) hx hb dX12_weight_69 rfl (lv_at hl 1 rfl) ?_
    refine lv_iload_n (pc := 70) hx hb dX12_weight_70 rfl (lv_at hl 2 rfl) ?_
    obtain ⟨r15, S14, hc, h⟩ := bnd_t h
    refine s_cvi (pc := 71) [.int x1] (fun ad => [.ref (ad 0), .int x1]) F w (m_M_loaded _ _ _ _ hc) rfl rfl hl.1 ds_0 vc_X12 rfl ok_X12_loaded rfl kc_X12_loaded kl_X12_300 ki_X12_loaded kv_X12_loaded kn_X12 ⟨Nat.le_trans (by decide) hR1, Nat.le_trans (by decide) hR2⟩ ⟨Nat.zero_le _, Nat.zero_le _⟩ (Nat.le_of_ble_eq_true rfl) dX12_weight_71 (fun H locs w => ?_)
    exact s_iret F w h dX12_weight_74
  have h := ite_f q3 h
  rcases Decidable.em (S.1 18 x1.toNatClampNeg = (4 : Int32)) with q4 | q4
  · refine lv_tableIn (pc := 28) (tgt := 118) (off := 90) hx hb dX12_weight_28 (by rw [q4]; decide) (by rw [q4]; decide) (by rw [q4]; rfl) (by decide) ?_
    have h := ite_t q4 h
    refine lv_aload_n (pc := 118) hx hb dX12_weight_118 rfl (lv_at hl 1 rfl) ?_
    refine lv_iconst (pc := 119) (v := 4) hx hb dX12_weight_119 (by decide) ?_
    obtain ⟨S16, hc, h⟩ := bndv_t h
    refine s_cvv (pc := 120) [.int (4 : Int32)] (fun ad => [.ref (ad 0), .int (4 : Int32)]) F w (m_M_note _ _ _ hc) rfl rfl hl.1 ds_0 vc_X12 rfl ok_X12_note rfl kc_X12_note kl_X12_296 ki_X12_note kv_X12_note kn_X12 ⟨Nat.le_trans (by decide) hR1, Nat.le_trans (by decide) hR2⟩ ⟨Nat.zero_le _, Nat.zero_le _⟩ (Nat.le_of_ble_eq_true rfl) dX12_weight_120 (fun H locs w => ?_)
    refine lv_aload_n (pc := 123) hx hb dX12_weight_123 rfl (lv_at hl 1 rfl) ?_
    refine s_getR (pc := 124) F w 29 ds_0 (j := 41) vc_X12 vi_X12 rfl (by decide) kf_X12_102 dX12_weight_124 ?_
    refine lv_iload_n (pc := 127) hx hb dX12_weight_127 rfl (lv_at hl 2 rfl) ?_
    refine s_iald (pc := 128) F w ds_29 h dX12_weight_128 (fun h => ?_)
    exact s_iret F w h dX12_weight_129
  have h := ite_f q4 h
  refine lv_tableOut (pc := 28) (tgt := 130) hx hb dX12_weight_28 (by have zq0 := i32ne q0 (show ((0 : Int32)).toInt = 0 by decide); have zq1 := i32ne q1 (show ((1 : Int32)).toInt = 1 by decide); have zq2 := i32ne q2 (show ((2 : Int32)).toInt = 2 by decide); have zq3 := i32ne q3 (show ((3 : Int32)).toInt = 3 by decide); have zq4 := i32ne q4 (show ((4 : Int32)).toInt = 4 by decide); omega) (by decide) ?_
  refine lv_aload_n (pc := 130) hx hb dX12_weight_130 rfl (lv_at hl 1 rfl) ?_
  refine lv_iconst (pc := 131) (v := 5) hx hb dX12_weight_131 (by decide) ?_
  obtain ⟨S17, hc, h⟩ := bndv_t h
  refine s_cvv (pc := 132) [.int (5 : Int32)] (fun ad => [.ref (ad 0), .int (5 : Int32)]) F w (m_M_note _ _ _ hc) rfl rfl hl.1 ds_0 vc_X12 rfl ok_X12_note rfl kc_X12_note kl_X12_296 ki_X12_note kv_X12_note kn_X12 ⟨Nat.le_trans (by decide) hR1, Nat.le_trans (by decide) hR2⟩ ⟨Nat.zero_le _, Nat.zero_le _⟩ (Nat.le_of_ble_eq_true rfl) dX12_weight_132 (fun H locs w => ?_)
  refine lv_bipush (pc := 135) (v := 80) hx hb dX12_weight_135 (by decide) ?_
  refine lv_aload_n (pc := 137) hx hb dX12_weight_137 rfl (lv_at hl 1 rfl) ?_
  refine s_getR (pc := 138) F w 29 ds_0 (j := 41) vc_X12 vi_X12 rfl (by decide) kf_X12_102 dX12_weight_138 ?_
  refine lv_iload_n (pc := 141) hx hb dX12_weight_141 rfl (lv_at hl 2 rfl) ?_
  refine s_iald (pc := 142) F w ds_29 h dX12_weight_142 (fun h => ?_)
  refine lv_iadd (pc := 143) hx hb dX12_weight_143 ?_
  exact s_iret F w h dX12_weight_144
set_option maxRecDepth 100000 in
set_option maxHeartbeats 4000000 in
theorem m_M_weight (a1 : Int32) (S S' : SS) (r : Int32) (h : f_M_weight a1 S = some (r, S')) : MT yX12_weight cX12_weight 3 (some .int) 1 23 (fun ad => [.ref (ad 0), .int a1]) S (some (.int r)) S' := by
  refine MT.of RX12 (fun ad => [(0, .ref (ad 0)), (1, .int a1)]) (by decide) rfl (fun _ => Nat.le_of_ble_eq_true rfl) (fun _ => rfl) ?_
  intro p l e R s m args below meth c dC dI cs ad A hR1 hR2 F H locs ls w hl
  have hx := F.1.1
  have hb := F.1.2.1
  rw [f_M_weight] at h
  refine lv_aload_n (pc := 0) hx hb dX12_weight_0 rfl (lv_at hl 0 rfl) ?_
  refine s_getR (pc := 1) F w 35 ds_0 (j := 50) vc_X12 vi_X12 rfl (by decide) kf_X12_120 dX12_weight_1 ?_
  refine lv_iload_n (pc := 4) hx hb dX12_weight_4 rfl (lv_at hl 1 rfl) ?_
  refine s_iald (pc := 5) F w ds_35 h dX12_weight_5 (fun h => ?_)
  refine lv_bipush (pc := 6) (v := -4) hx hb dX12_weight_6 (by decide) ?_
  refine lv_icmp_ne (pc := 8) (tgt := 15) hx hb dX12_weight_8 (by decide) (fun q => ?_) (fun q => ?_)
  · have h := ite_f q h
    refine lv_aload_n (pc := 15) hx hb dX12_weight_15 rfl (lv_at hl 0 rfl) ?_
    refine s_getR (pc := 16) F w 35 ds_0 (j := 50) vc_X12 vi_X12 rfl (by decide) kf_X12_120 dX12_weight_16 ?_
    refine lv_iload_n (pc := 19) hx hb dX12_weight_19 rfl (lv_at hl 1 rfl) ?_
    refine s_iald (pc := 20) F w ds_35 h dX12_weight_20 (fun h => ?_)
    exact w_M_weight_j21 F (Nat.le_trans (by decide) hR1) (Nat.le_trans (by decide) hR2) _ _ _ h _ _ _ w (lv_sub hl [0, 1] rfl)
  · have h := ite_t q h
    refine lv_iconst (pc := 11) (v := 0) hx hb dX12_weight_11 (by decide) ?_
    refine lv_goto (pc := 12) (tgt := 21) hx hb dX12_weight_12 (by decide) ?_
    exact w_M_weight_j21 F (Nat.le_trans (by decide) hR1) (Nat.le_trans (by decide) hR2) _ _ _ h _ _ _ w (lv_sub hl [0, 1] rfl)
def f_M_missPull_j103 (K62 : Int32 → Int32 → Int32 → SS → Option (Int32 × SS)) (x4 : Int32) (x5 : Int32) (x6 : Int32) (S : SS) : Option (Int32 × SS) :=
    nm (x6 + (1 : Int32)) (fun z4 =>
    K62 x4 x5 z4 S)
def f_M_missPull_L62  : Nat → Int32 → Int32 → Int32 → SS → Option (Int32 × SS)
  | 0, _, _, _, _ => none
  | n + 1, x4, x5, x6, S =>
    if (S.1 0 56) ≤ x6 then
      if x4 ≤ ((20 : Int32) * x5) then
        some ((0 : Int32), S)
      else
        some ((15 : Int32), S)
    else
      grd (inb x6 72) (
      grd (inb (S.1 39 x6.toNatClampNeg) 72) (
      if (S.1 18 (S.1 39 x6.toNatClampNeg).toNatClampNeg) < (5 : Int32) then
        f_M_missPull_j103 (fun v0 v1 v2 S => f_M_missPull_L62 n v0 v1 v2 S) x4 x5 x6 S
      else
        grd (inb x6 72) (
        bnd (f_M_pulls (S.1 39 x6.toNatClampNeg) S) (fun r6 S5 =>
        nm (x5 + r6) (fun z7 =>
        f_M_missPull_j103 (fun v0 v1 v2 S => f_M_missPull_L62 n v0 v1 v2 S) x4 z7 x6 S5)))))
def f_M_missPull_L28  : Nat → Int32 → Int32 → Int32 → SS → Option (Int32 × SS)
  | 0, _, _, _, _ => none
  | n + 1, x4, x5, x6, S =>
    if (S.1 0 56) ≤ x6 then
      f_M_missPull_L62 NF x4 x5 (0 : Int32) S
    else
      grd (inb x6 72) (
      bnd (f_M_weight (S.1 39 x6.toNatClampNeg) S) (fun r9 S8 =>
      nm (x4 + r9) (fun z10 =>
      nm (x6 + (1 : Int32)) (fun z11 =>
      f_M_missPull_L28 n z10 x5 z11 S8))))
def f_M_missPull (a1 : Int32) (a2 : Int32) (S : SS) : Option (Int32 × SS) :=
  bnd (f_M_missSide a1 (2 : Int32) a2 S) (fun r2 S1 =>
  if r2 = 0 then
    bndv (f_M_lineUp a1 S1) (fun S3 =>
    f_M_missPull_L28 NF (0 : Int32) (0 : Int32) (0 : Int32) S3)
  else
    some (r2, S1))
theorem dX12_missPull_0 : decode cX12_missPull 0 = .ok (.aload_n 0, 1) := dc_42 (by decide +kernel)
theorem dX12_missPull_1 : decode cX12_missPull 1 = .ok (.iload_n 1, 1) := dc_27 (by decide +kernel)
theorem dX12_missPull_2 : decode cX12_missPull 2 = .ok (.iconst 2, 1) := dc_5 (by decide +kernel)
theorem dX12_missPull_3 : decode cX12_missPull 3 = .ok (.iload_n 2, 1) := dc_28 (by decide +kernel)
theorem dX12_missPull_4 : decode cX12_missPull 4 = .ok (.invokevirtual 364, 3) := dc_182 (a := 1) (b := 108) (by decide +kernel)
theorem dX12_missPull_7 : decode cX12_missPull 7 = .ok (.istore_n 3, 1) := dc_62 (by decide +kernel)
theorem dX12_missPull_8 : decode cX12_missPull 8 = .ok (.iload_n 3, 1) := dc_29 (by decide +kernel)
theorem dX12_missPull_9 : decode cX12_missPull 9 = .ok (.ifCond .eq 5, 3) := dc_153 (a := 0) (b := 5) (by decide +kernel) (by decide)
theorem dX12_missPull_12 : decode cX12_missPull 12 = .ok (.iload_n 3, 1) := dc_29 (by decide +kernel)
theorem dX12_missPull_13 : decode cX12_missPull 13 = .ok (.ireturn, 1) := dc_172 (by decide +kernel)
theorem dX12_missPull_14 : decode cX12_missPull 14 = .ok (.aload_n 0, 1) := dc_42 (by decide +kernel)
theorem dX12_missPull_15 : decode cX12_missPull 15 = .ok (.iload_n 1, 1) := dc_27 (by decide +kernel)
theorem dX12_missPull_16 : decode cX12_missPull 16 = .ok (.invokevirtual 325, 3) := dc_182 (a := 1) (b := 69) (by decide +kernel)
theorem dX12_missPull_19 : decode cX12_missPull 19 = .ok (.iconst 0, 1) := dc_3 (by decide +kernel)
theorem dX12_missPull_20 : decode cX12_missPull 20 = .ok (.istore 4, 2) := dc_54 (a := 4) (by decide +kernel)
theorem dX12_missPull_22 : decode cX12_missPull 22 = .ok (.iconst 0, 1) := dc_3 (by decide +kernel)
theorem dX12_missPull_23 : decode cX12_missPull 23 = .ok (.istore 5, 2) := dc_54 (a := 5) (by decide +kernel)
theorem dX12_missPull_25 : decode cX12_missPull 25 = .ok (.iconst 0, 1) := dc_3 (by decide +kernel)
theorem dX12_missPull_26 : decode cX12_missPull 26 = .ok (.istore 6, 2) := dc_54 (a := 6) (by decide +kernel)
theorem dX12_missPull_28 : decode cX12_missPull 28 = .ok (.iload 6, 2) := dc_21 (a := 6) (by decide +kernel)
theorem dX12_missPull_30 : decode cX12_missPull 30 = .ok (.aload_n 0, 1) := dc_42 (by decide +kernel)
theorem dX12_missPull_31 : decode cX12_missPull 31 = .ok (.getfield 319, 3) := dc_180 (a := 1) (b := 63) (by decide +kernel)
theorem dX12_missPull_34 : decode cX12_missPull 34 = .ok (.if_icmp .ge 25, 3) := dc_162 (a := 0) (b := 25) (by decide +kernel) (by decide)
theorem dX12_missPull_37 : decode cX12_missPull 37 = .ok (.iload 4, 2) := dc_21 (a := 4) (by decide +kernel)
theorem dX12_missPull_39 : decode cX12_missPull 39 = .ok (.aload_n 0, 1) := dc_42 (by decide +kernel)
theorem dX12_missPull_40 : decode cX12_missPull 40 = .ok (.aload_n 0, 1) := dc_42 (by decide +kernel)
theorem dX12_missPull_41 : decode cX12_missPull 41 = .ok (.getfield 132, 3) := dc_180 (a := 0) (b := 132) (by decide +kernel)
theorem dX12_missPull_44 : decode cX12_missPull 44 = .ok (.iload 6, 2) := dc_21 (a := 6) (by decide +kernel)
theorem dX12_missPull_46 : decode cX12_missPull 46 = .ok (.iaload, 1) := dc_46 (by decide +kernel)
theorem dX12_missPull_47 : decode cX12_missPull 47 = .ok (.invokevirtual 303, 3) := dc_182 (a := 1) (b := 47) (by decide +kernel)
theorem dX12_missPull_50 : decode cX12_missPull 50 = .ok (.iadd, 1) := dc_96 (by decide +kernel)
theorem dX12_missPull_51 : decode cX12_missPull 51 = .ok (.istore 4, 2) := dc_54 (a := 4) (by decide +kernel)
theorem dX12_missPull_53 : decode cX12_missPull 53 = .ok (.iinc 6 1, 3) := dc_132 (a := 6) (b := 1) (by decide +kernel) (by decide)
theorem dX12_missPull_56 : decode cX12_missPull 56 = .ok (.goto (-28), 3) := dc_167 (a := 255) (b := 228) (by decide +kernel) (by decide)
theorem dX12_missPull_59 : decode cX12_missPull 59 = .ok (.iconst 0, 1) := dc_3 (by decide +kernel)
theorem dX12_missPull_60 : decode cX12_missPull 60 = .ok (.istore 6, 2) := dc_54 (a := 6) (by decide +kernel)
theorem dX12_missPull_62 : decode cX12_missPull 62 = .ok (.iload 6, 2) := dc_21 (a := 6) (by decide +kernel)
theorem dX12_missPull_64 : decode cX12_missPull 64 = .ok (.aload_n 0, 1) := dc_42 (by decide +kernel)
theorem dX12_missPull_65 : decode cX12_missPull 65 = .ok (.getfield 319, 3) := dc_180 (a := 1) (b := 63) (by decide +kernel)
theorem dX12_missPull_68 : decode cX12_missPull 68 = .ok (.if_icmp .ge 41, 3) := dc_162 (a := 0) (b := 41) (by decide +kernel) (by decide)
theorem dX12_missPull_71 : decode cX12_missPull 71 = .ok (.aload_n 0, 1) := dc_42 (by decide +kernel)
theorem dX12_missPull_72 : decode cX12_missPull 72 = .ok (.getfield 69, 3) := dc_180 (a := 0) (b := 69) (by decide +kernel)
theorem dX12_missPull_75 : decode cX12_missPull 75 = .ok (.aload_n 0, 1) := dc_42 (by decide +kernel)
theorem dX12_missPull_76 : decode cX12_missPull 76 = .ok (.getfield 132, 3) := dc_180 (a := 0) (b := 132) (by decide +kernel)
theorem dX12_missPull_79 : decode cX12_missPull 79 = .ok (.iload 6, 2) := dc_21 (a := 6) (by decide +kernel)
theorem dX12_missPull_81 : decode cX12_missPull 81 = .ok (.iaload, 1) := dc_46 (by decide +kernel)
theorem dX12_missPull_82 : decode cX12_missPull 82 = .ok (.iaload, 1) := dc_46 (by decide +kernel)
theorem dX12_missPull_83 : decode cX12_missPull 83 = .ok (.iconst 5, 1) := dc_8 (by decide +kernel)
theorem dX12_missPull_84 : decode cX12_missPull 84 = .ok (.if_icmp .lt 19, 3) := dc_161 (a := 0) (b := 19) (by decide +kernel) (by decide)
theorem dX12_missPull_87 : decode cX12_missPull 87 = .ok (.iload 5, 2) := dc_21 (a := 5) (by decide +kernel)
theorem dX12_missPull_89 : decode cX12_missPull 89 = .ok (.aload_n 0, 1) := dc_42 (by decide +kernel)
theorem dX12_missPull_90 : decode cX12_missPull 90 = .ok (.aload_n 0, 1) := dc_42 (by decide +kernel)
theorem dX12_missPull_91 : decode cX12_missPull 91 = .ok (.getfield 132, 3) := dc_180 (a := 0) (b := 132) (by decide +kernel)
theorem dX12_missPull_94 : decode cX12_missPull 94 = .ok (.iload 6, 2) := dc_21 (a := 6) (by decide +kernel)
theorem dX12_missPull_96 : decode cX12_missPull 96 = .ok (.iaload, 1) := dc_46 (by decide +kernel)
theorem dX12_missPull_97 : decode cX12_missPull 97 = .ok (.invokevirtual 400, 3) := dc_182 (a := 1) (b := 144) (by decide +kernel)
theorem dX12_missPull_100 : decode cX12_missPull 100 = .ok (.iadd, 1) := dc_96 (by decide +kernel)
theorem dX12_missPull_101 : decode cX12_missPull 101 = .ok (.istore 5, 2) := dc_54 (a := 5) (by decide +kernel)
theorem dX12_missPull_103 : decode cX12_missPull 103 = .ok (.iinc 6 1, 3) := dc_132 (a := 6) (b := 1) (by decide +kernel) (by decide)
theorem dX12_missPull_106 : decode cX12_missPull 106 = .ok (.goto (-44), 3) := dc_167 (a := 255) (b := 212) (by decide +kernel) (by decide)
theorem dX12_missPull_109 : decode cX12_missPull 109 = .ok (.iload 4, 2) := dc_21 (a := 4) (by decide +kernel)
theorem dX12_missPull_111 : decode cX12_missPull 111 = .ok (.bipush 20, 2) := dc_16 (a := 20) (by decide +kernel) (by decide)
theorem dX12_missPull_113 : decode cX12_missPull 113 = .ok (.iload 5, 2) := dc_21 (a := 5) (by decide +kernel)
theorem dX12_missPull_115 : decode cX12_missPull 115 = .ok (.imul, 1) := dc_104 (by decide +kernel)
theorem dX12_missPull_116 : decode cX12_missPull 116 = .ok (.if_icmp .le 8, 3) := dc_164 (a := 0) (b := 8) (by decide +kernel) (by decide)
theorem dX12_missPull_119 : decode cX12_missPull 119 = .ok (.bipush 15, 2) := dc_16 (a := 15) (by decide +kernel) (by decide)
theorem dX12_missPull_121 : decode cX12_missPull 121 = .ok (.goto 4, 3) := dc_167 (a := 0) (b := 4) (by decide +kernel) (by decide)
theorem dX12_missPull_124 : decode cX12_missPull 124 = .ok (.iconst 0, 1) := dc_3 (by decide +kernel)
theorem dX12_missPull_125 : decode cX12_missPull 125 = .ok (.ireturn, 1) := dc_172 (by decide +kernel)
set_option maxRecDepth 100000 in
set_option maxHeartbeats 4000000 in
theorem w_M_missPull_j103 {p : Program} {l : Launch} {e : Env} {R : Room} {s : State} {m : MethodId} {args : Array Value} {below : List Frame} {meth : Method} {c : Code} {dC : Nat → ClassId} {dI : Nat → Nat → Nat} {cs : Nat → ClassId} {ad : Nat → Nat} {A : Nat → Prop} {D0 : Nat → Nat} {S' : SS} {r : Int32} (F : Fx p s m args meth c cX12_missPull 7 RX12 (some .int) dC dI cs A) (hR1 : 0 ≤ R.frames) (hR2 : 0 ≤ R.locals) (K62 : Int32 → Int32 → Int32 → SS → Option (Int32 × SS)) (hK62 : ∀ (v0 : Int32) (v1 : Int32) (v2 : Int32) (S : SS), K62 v0 v1 v2 S = some (r, S') → AW p l e R s m args below meth c dC dI cs ad A D0 (some (.int r)) S' 7 62 [(0, .ref (ad 0)), (4, .int v0), (5, .int v1), (6, .int v2)] [] S) (x4 : Int32) (x5 : Int32) (x6 : Int32) (S : SS) (h : f_M_missPull_j103 K62 x4 x5 x6 S = some (r, S')) : AW p l e R s m args below meth c dC dI cs ad A D0 (some (.int r)) S' 7 103 [(0, .ref (ad 0)), (4, .int x4), (5, .int x5), (6, .int x6)] [] S := by
  have hx := F.1.1
  have hb := F.1.2.1
  intro H locs ls w hl
  rw [f_M_missPull_j103] at h
  refine s_nm h (fun z4 ez4 h => ?_)
  refine lv_iinc (pc := 103) (v := z4) (lv' := [(6, .int z4), (0, .ref (ad 0)), (4, .int x4), (5, .int x5)]) hx hb dX12_missPull_103 hl (k := 3) rfl (by rw [ez4]; rfl) (by decide) rfl (fun ls hl => ?_)
  refine lv_goto (pc := 106) (tgt := 62) hx hb dX12_missPull_106 (by decide) ?_
  exact hK62 _ _ _ _ h _ _ _ w (lv_sub hl [1, 2, 3, 0] rfl)
set_option maxRecDepth 100000 in
set_option maxHeartbeats 4000000 in
theorem w_M_missPull_L62 {p : Program} {l : Launch} {e : Env} {R : Room} {s : State} {m : MethodId} {args : Array Value} {below : List Frame} {meth : Method} {c : Code} {dC : Nat → ClassId} {dI : Nat → Nat → Nat} {cs : Nat → ClassId} {ad : Nat → Nat} {A : Nat → Prop} {D0 : Nat → Nat} {S' : SS} {r : Int32} (F : Fx p s m args meth c cX12_missPull 7 RX12 (some .int) dC dI cs A) (hR1 : 2 ≤ R.frames) (hR2 : 45 ≤ R.locals) : ∀ (n : Nat) (x4 : Int32) (x5 : Int32) (x6 : Int32) (S : SS), f_M_missPull_L62 n x4 x5 x6 S = some (r, S') → AW p l e R s m args below meth c dC dI cs ad A D0 (some (.int r)) S' 7 62 [(0, .ref (ad 0)), (4, .int x4), (5, .int x5), (6, .int x6)] [] S := by
  have hx := F.1.1
  have hb := F.1.2.1
  intro n
  induction n with
  | zero => intro x4 x5 x6 S h; cases h
  | succ n ih =>
    intro x4 x5 x6 S h H locs ls w hl
    rw [f_M_missPull_L62] at h
    refine lv_iload (pc := 62) hx hb dX12_missPull_62 (lv_at hl 3 rfl) ?_
    refine lv_aload_n (pc := 64) hx hb dX12_missPull_64 rfl (lv_at hl 0 rfl) ?_
    refine s_getI (pc := 65) F w ds_0 (j := 56) vc_X12 vi_X12 rfl (by decide) kf_X12_319 dX12_missPull_65 ?_
    refine lv_icmp_ge (pc := 68) (tgt := 109) hx hb dX12_missPull_68 (by decide) (fun q => ?_) (fun q => ?_)
    · have h := ite_t q h
      refine lv_iload (pc := 109) hx hb dX12_missPull_109 (lv_at hl 1 rfl) ?_
      refine lv_bipush (pc := 111) (v := 20) hx hb dX12_missPull_111 (by decide) ?_
      refine lv_iload (pc := 113) hx hb dX12_missPull_113 (lv_at hl 2 rfl) ?_
      refine lv_imul (pc := 115) hx hb dX12_missPull_115 ?_
      refine lv_icmp_le (pc := 116) (tgt := 124) hx hb dX12_missPull_116 (by decide) (fun q => ?_) (fun q => ?_)
      · have h := ite_t q h
        refine lv_iconst (pc := 124) (v := 0) hx hb dX12_missPull_124 (by decide) ?_
        exact s_iret F w h dX12_missPull_125
      · have h := ite_f q h
        refine lv_bipush (pc := 119) (v := 15) hx hb dX12_missPull_119 (by decide) ?_
        refine lv_goto (pc := 121) (tgt := 125) hx hb dX12_missPull_121 (by decide) ?_
        exact s_iret F w h dX12_missPull_125
    · have h := ite_f q h
      refine lv_aload_n (pc := 71) hx hb dX12_missPull_71 rfl (lv_at hl 0 rfl) ?_
      refine s_getR (pc := 72) F w 18 ds_0 (j := 30) vc_X12 vi_X12 rfl (by decide) kf_X12_69 dX12_missPull_72 ?_
      refine lv_aload_n (pc := 75) hx hb dX12_missPull_75 rfl (lv_at hl 0 rfl) ?_
      refine s_getR (pc := 76) F w 39 ds_0 (j := 55) vc_X12 vi_X12 rfl (by decide) kf_X12_132 dX12_missPull_76 ?_
      refine lv_iload (pc := 79) hx hb dX12_missPull_79 (lv_at hl 3 rfl) ?_
      refine s_iald (pc := 81) F w ds_39 h dX12_missPull_81 (fun h => ?_)
      refine s_iald (pc := 82) F w ds_18 h dX12_missPull_82 (fun h => ?_)
      refine lv_iconst (pc := 83) (v := 5) hx hb dX12_missPull_83 (by decide) ?_
      refine lv_icmp_lt (pc := 84) (tgt := 103) hx hb dX12_missPull_84 (by decide) (fun q => ?_) (fun q => ?_)
      · have h := ite_t q h
        exact w_M_missPull_j103 F (Nat.le_trans (by decide) hR1) (Nat.le_trans (by decide) hR2) _ (fun v0 v1 v2 S h => ih v0 v1 v2 S h) _ _ _ _ h _ _ _ w (lv_sub hl [0, 1, 2, 3] rfl)
      · have h := ite_f q h
        refine lv_iload (pc := 87) hx hb dX12_missPull_87 (lv_at hl 2 rfl) ?_
        refine lv_aload_n (pc := 89) hx hb dX12_missPull_89 rfl (lv_at hl 0 rfl) ?_
        refine lv_aload_n (pc := 90) hx hb dX12_missPull_90 rfl (lv_at hl 0 rfl) ?_
        refine s_getR (pc := 91) F w 39 ds_0 (j := 55) vc_X12 vi_X12 rfl (by decide) kf_X12_132 dX12_missPull_91 ?_
        refine lv_iload (pc := 94) hx hb dX12_missPull_94 (lv_at hl 3 rfl) ?_
        refine s_iald (pc := 96) F w ds_39 h dX12_missPull_96 (fun h => ?_)
        obtain ⟨r6, S5, hc, h⟩ := bnd_t h
        refine s_cvi (pc := 97) [.int (S.1 39 x6.toNatClampNeg)] (fun ad => [.ref (ad 0), .int (S.1 39 x6.toNatClampNeg)]) F w (m_M_pulls _ _ _ _ hc) rfl rfl hl.1 ds_0 vc_X12 rfl ok_X12_pulls rfl kc_X12_pulls kl_X12_400 ki_X12_pulls kv_X12_pulls kn_X12 ⟨Nat.le_trans (by decide) hR1, Nat.le_trans (by decide) hR2⟩ ⟨Nat.zero_le _, Nat.zero_le _⟩ (Nat.le_of_ble_eq_true rfl) dX12_missPull_97 (fun H locs w => ?_)
        refine lv_iadd (pc := 100) hx hb dX12_missPull_100 ?_
        refine s_nm h (fun z7 ez7 h => ?_)
        rw [← ez7]
        refine lv_istore (pc := 101) (lv' := [(5, .int z7), (0, .ref (ad 0)), (4, .int x4), (6, .int x6)]) hx hb dX12_missPull_101 hl (by decide) rfl (fun ls hl => ?_)
        exact w_M_missPull_j103 F (Nat.le_trans (by decide) hR1) (Nat.le_trans (by decide) hR2) _ (fun v0 v1 v2 S h => ih v0 v1 v2 S h) _ _ _ _ h _ _ _ w (lv_sub hl [1, 2, 0, 3] rfl)
set_option maxRecDepth 100000 in
set_option maxHeartbeats 4000000 in
theorem w_M_missPull_L28 {p : Program} {l : Launch} {e : Env} {R : Room} {s : State} {m : MethodId} {args : Array Value} {below : List Frame} {meth : Method} {c : Code} {dC : Nat → ClassId} {dI : Nat → Nat → Nat} {cs : Nat → ClassId} {ad : Nat → Nat} {A : Nat → Prop} {D0 : Nat → Nat} {S' : SS} {r : Int32} (F : Fx p s m args meth c cX12_missPull 7 RX12 (some .int) dC dI cs A) (hR1 : 2 ≤ R.frames) (hR2 : 45 ≤ R.locals) : ∀ (n : Nat) (x4 : Int32) (x5 : Int32) (x6 : Int32) (S : SS), f_M_missPull_L28 n x4 x5 x6 S = some (r, S') → AW p l e R s m args below meth c dC dI cs ad A D0 (some (.int r)) S' 7 28 [(0, .ref (ad 0)), (4, .int x4), (5, .int x5), (6, .int x6)] [] S := by
  have hx := F.1.1
  have hb := F.1.2.1
  intro n
  induction n with
  | zero => intro x4 x5 x6 S h; cases h
  | succ n ih =>
    intro x4 x5 x6 S h H locs ls w hl
    rw [f_M_missPull_L28] at h
    refine lv_iload (pc := 28) hx hb dX12_missPull_28 (lv_at hl 3 rfl) ?_
    refine lv_aload_n (pc := 30) hx hb dX12_missPull_30 rfl (lv_at hl 0 rfl) ?_
    refine s_getI (pc := 31) F w ds_0 (j := 56) vc_X12 vi_X12 rfl (by decide) kf_X12_319 dX12_missPull_31 ?_
    refine lv_icmp_ge (pc := 34) (tgt := 59) hx hb dX12_missPull_34 (by decide) (fun q => ?_) (fun q => ?_)
    · have h := ite_t q h
      refine lv_iconst (pc := 59) (v := 0) hx hb dX12_missPull_59 (by decide) ?_
      refine lv_istore (pc := 60) (lv' := [(6, .int (0 : Int32)), (0, .ref (ad 0)), (4, .int x4), (5, .int x5)]) hx hb dX12_missPull_60 hl (by decide) rfl (fun ls hl => ?_)
      exact w_M_missPull_L62 F (Nat.le_trans (by decide) hR1) (Nat.le_trans (by decide) hR2) _ _ _ _ _ h _ _ _ w (lv_sub hl [1, 2, 3, 0] rfl)
    · have h := ite_f q h
      refine lv_iload (pc := 37) hx hb dX12_missPull_37 (lv_at hl 1 rfl) ?_
      refine lv_aload_n (pc := 39) hx hb dX12_missPull_39 rfl (lv_at hl 0 rfl) ?_
      refine lv_aload_n (pc := 40) hx hb dX12_missPull_40 rfl (lv_at hl 0 rfl) ?_
      refine s_getR (pc := 41) F w 39 ds_0 (j := 55) vc_X12 vi_X12 rfl (by decide) kf_X12_132 dX12_missPull_41 ?_
      refine lv_iload (pc := 44) hx hb dX12_missPull_44 (lv_at hl 3 rfl) ?_
      refine s_iald (pc := 46) F w ds_39 h dX12_missPull_46 (fun h => ?_)
      obtain ⟨r9, S8, hc, h⟩ := bnd_t h
      refine s_cvi (pc := 47) [.int (S.1 39 x6.toNatClampNeg)] (fun ad => [.ref (ad 0), .int (S.1 39 x6.toNatClampNeg)]) F w (m_M_weight _ _ _ _ hc) rfl rfl hl.1 ds_0 vc_X12 rfl ok_X12_weight rfl kc_X12_weight kl_X12_303 ki_X12_weight kv_X12_weight kn_X12 ⟨Nat.le_trans (by decide) hR1, Nat.le_trans (by decide) hR2⟩ ⟨Nat.zero_le _, Nat.zero_le _⟩ (Nat.le_of_ble_eq_true rfl) dX12_missPull_47 (fun H locs w => ?_)
      refine lv_iadd (pc := 50) hx hb dX12_missPull_50 ?_
      refine s_nm h (fun z10 ez10 h => ?_)
      rw [← ez10]
      refine lv_istore (pc := 51) (lv' := [(4, .int z10), (0, .ref (ad 0)), (5, .int x5), (6, .int x6)]) hx hb dX12_missPull_51 hl (by decide) rfl (fun ls hl => ?_)
      refine s_nm h (fun z11 ez11 h => ?_)
      refine lv_iinc (pc := 53) (v := z11) (lv' := [(6, .int z11), (4, .int z10), (0, .ref (ad 0)), (5, .int x5)]) hx hb dX12_missPull_53 hl (k := 3) rfl (by rw [ez11]; rfl) (by decide) rfl (fun ls hl => ?_)
      refine lv_goto (pc := 56) (tgt := 28) hx hb dX12_missPull_56 (by decide) ?_
      exact ih _ _ _ _ h _ _ _ w (lv_sub hl [2, 1, 3, 0] rfl)
set_option maxRecDepth 100000 in
set_option maxHeartbeats 4000000 in
theorem m_M_missPull (a1 : Int32) (a2 : Int32) (S S' : SS) (r : Int32) (h : f_M_missPull a1 a2 S = some (r, S')) : MT yX12_missPull cX12_missPull 7 (some .int) 3 69 (fun ad => [.ref (ad 0), .int a1, .int a2]) S (some (.int r)) S' := by
  refine MT.of RX12 (fun ad => [(0, .ref (ad 0)), (1, .int a1), (2, .int a2)]) (by decide) rfl (fun _ => Nat.le_of_ble_eq_true rfl) (fun _ => rfl) ?_
  intro p l e R s m args below meth c dC dI cs ad A hR1 hR2 F H locs ls w hl
  have hx := F.1.1
  have hb := F.1.2.1
  rw [f_M_missPull] at h
  refine lv_aload_n (pc := 0) hx hb dX12_missPull_0 rfl (lv_at hl 0 rfl) ?_
  refine lv_iload_n (pc := 1) hx hb dX12_missPull_1 rfl (lv_at hl 1 rfl) ?_
  refine lv_iconst (pc := 2) (v := 2) hx hb dX12_missPull_2 (by decide) ?_
  refine lv_iload_n (pc := 3) hx hb dX12_missPull_3 rfl (lv_at hl 2 rfl) ?_
  obtain ⟨r2, S1, hc, h⟩ := bnd_t h
  refine s_cvi (pc := 4) [.int a1, .int (2 : Int32), .int a2] (fun ad => [.ref (ad 0), .int a1, .int (2 : Int32), .int a2]) F w (m_M_missSide _ _ _ _ _ _ hc) rfl rfl hl.1 ds_0 vc_X12 rfl ok_X12_missSide rfl kc_X12_missSide kl_X12_364 ki_X12_missSide kv_X12_missSide kn_X12 ⟨Nat.le_trans (by decide) hR1, Nat.le_trans (by decide) hR2⟩ ⟨Nat.zero_le _, Nat.zero_le _⟩ (Nat.le_of_ble_eq_true rfl) dX12_missPull_4 (fun H locs w => ?_)
  refine lv_istore_n (pc := 7) (lv' := [(3, .int r2), (0, .ref (ad 0)), (1, .int a1), (2, .int a2)]) hx hb dX12_missPull_7 rfl hl (by decide) rfl (fun ls hl => ?_)
  refine lv_iload_n (pc := 8) hx hb dX12_missPull_8 rfl (lv_at hl 0 rfl) ?_
  refine lv_if_eq (pc := 9) (tgt := 14) hx hb dX12_missPull_9 (by decide) (fun q => ?_) (fun q => ?_)
  · have h := ite_t q h
    refine lv_aload_n (pc := 14) hx hb dX12_missPull_14 rfl (lv_at hl 1 rfl) ?_
    refine lv_iload_n (pc := 15) hx hb dX12_missPull_15 rfl (lv_at hl 2 rfl) ?_
    obtain ⟨S3, hc, h⟩ := bndv_t h
    refine s_cvv (pc := 16) [.int a1] (fun ad => [.ref (ad 0), .int a1]) F w (m_M_lineUp _ _ _ hc) rfl rfl hl.1 ds_0 vc_X12 rfl ok_X12_lineUp rfl kc_X12_lineUp kl_X12_325 ki_X12_lineUp kv_X12_lineUp kn_X12 ⟨Nat.le_trans (by decide) hR1, Nat.le_trans (by decide) hR2⟩ ⟨Nat.zero_le _, Nat.zero_le _⟩ (Nat.le_of_ble_eq_true rfl) dX12_missPull_16 (fun H locs w => ?_)
    refine lv_iconst (pc := 19) (v := 0) hx hb dX12_missPull_19 (by decide) ?_
    refine lv_istore (pc := 20) (lv' := [(4, .int (0 : Int32)), (3, .int r2), (0, .ref (ad 0)), (1, .int a1), (2, .int a2)]) hx hb dX12_missPull_20 hl (by decide) rfl (fun ls hl => ?_)
    refine lv_iconst (pc := 22) (v := 0) hx hb dX12_missPull_22 (by decide) ?_
    refine lv_istore (pc := 23) (lv' := [(5, .int (0 : Int32)), (4, .int (0 : Int32)), (3, .int r2), (0, .ref (ad 0)), (1, .int a1), (2, .int a2)]) hx hb dX12_missPull_23 hl (by decide) rfl (fun ls hl => ?_)
    refine lv_iconst (pc := 25) (v := 0) hx hb dX12_missPull_25 (by decide) ?_
    refine lv_istore (pc := 26) (lv' := [(6, .int (0 : Int32)), (5, .int (0 : Int32)), (4, .int (0 : Int32)), (3, .int r2), (0, .ref (ad 0)), (1, .int a1), (2, .int a2)]) hx hb dX12_missPull_26 hl (by decide) rfl (fun ls hl => ?_)
    exact w_M_missPull_L28 F (Nat.le_trans (by decide) hR1) (Nat.le_trans (by decide) hR2) _ _ _ _ _ h _ _ _ w (lv_sub hl [4, 2, 1, 0] rfl)
  · have h := ite_f q h
    refine lv_iload_n (pc := 12) hx hb dX12_missPull_12 rfl (lv_at hl 0 rfl) ?_
    exact s_iret F w h dX12_missPull_13
def f_M_follow_L71  : Nat → Int32 → Int32 → SS → Option (SS)
  | 0, _, _, _ => none
  | n + 1, x3, x4, S =>
    grd (inb ((((2 : Int32) * x3) + (1 : Int32)) - x4) 144) (
    if (S.1 23 ((((2 : Int32) * x3) + (1 : Int32)) - x4).toNatClampNeg) = (-4 : Int32) then
      some S
    else
      grd (inb ((((2 : Int32) * x3) + (1 : Int32)) - x4) 144) (
      nm (S.1 23 ((((2 : Int32) * x3) + (1 : Int32)) - x4).toNatClampNeg) (fun z4 =>
      bnd (f_M_sideTo z4 x3 S) (fun r6 S5 =>
      grd (inb (S5.1 0 70) 72) (wr S5 44 (S5.1 0 70).toNatClampNeg z4 (fun S7 =>
      grd (inb (S7.1 0 70) 72) (wr S7 45 (S7.1 0 70).toNatClampNeg r6 (fun S8 =>
      wr S8 0 70 ((S8.1 0 70) + (1 : Int32)) (fun S9 =>
      f_M_follow_L71 n z4 r6 S9)))))))))
def f_M_follow_L5  : Nat → Int32 → Int32 → SS → Option (SS)
  | 0, _, _, _ => none
  | n + 1, x3, x4, S =>
    grd (inb (((2 : Int32) * x3) + x4) 144) (
    if (S.1 23 (((2 : Int32) * x3) + x4).toNatClampNeg) = (-4 : Int32) then
      grd (inb (0 : Int32) 72) (wr S 44 (0 : Int32).toNatClampNeg x3 (fun S1 =>
      grd (inb (0 : Int32) 72) (wr S1 45 (0 : Int32).toNatClampNeg x4 (fun S2 =>
      wr S2 0 70 (1 : Int32) (fun S3 =>
      f_M_follow_L71 NF x3 x4 S3)))))
    else
      grd (inb (((2 : Int32) * x3) + x4) 144) (
      nm (S.1 23 (((2 : Int32) * x3) + x4).toNatClampNeg) (fun z10 =>
      bnd (f_M_sideTo z10 x3 S) (fun r12 S11 =>
      nm ((1 : Int32) - r12) (fun z13 =>
      f_M_follow_L5 n z10 z13 S11)))))
def f_M_follow (a1 : Int32) (a2 : Int32) (S : SS) : Option (SS) :=
  f_M_follow_L5 NF a1 a2 S
theorem dX12_follow_0 : decode cX12_follow 0 = .ok (.iload_n 1, 1) := dc_27 (by decide +kernel)
theorem dX12_follow_1 : decode cX12_follow 1 = .ok (.istore_n 3, 1) := dc_62 (by decide +kernel)
theorem dX12_follow_2 : decode cX12_follow 2 = .ok (.iload_n 2, 1) := dc_28 (by decide +kernel)
theorem dX12_follow_3 : decode cX12_follow 3 = .ok (.istore 4, 2) := dc_54 (a := 4) (by decide +kernel)
theorem dX12_follow_5 : decode cX12_follow 5 = .ok (.aload_n 0, 1) := dc_42 (by decide +kernel)
theorem dX12_follow_6 : decode cX12_follow 6 = .ok (.getfield 84, 3) := dc_180 (a := 0) (b := 84) (by decide +kernel)
theorem dX12_follow_9 : decode cX12_follow 9 = .ok (.iconst 2, 1) := dc_5 (by decide +kernel)
theorem dX12_follow_10 : decode cX12_follow 10 = .ok (.iload_n 3, 1) := dc_29 (by decide +kernel)
theorem dX12_follow_11 : decode cX12_follow 11 = .ok (.imul, 1) := dc_104 (by decide +kernel)
theorem dX12_follow_12 : decode cX12_follow 12 = .ok (.iload 4, 2) := dc_21 (a := 4) (by decide +kernel)
theorem dX12_follow_14 : decode cX12_follow 14 = .ok (.iadd, 1) := dc_96 (by decide +kernel)
theorem dX12_follow_15 : decode cX12_follow 15 = .ok (.iaload, 1) := dc_46 (by decide +kernel)
theorem dX12_follow_16 : decode cX12_follow 16 = .ok (.bipush (-4), 2) := dc_16 (a := 252) (by decide +kernel) (by decide)
theorem dX12_follow_18 : decode cX12_follow 18 = .ok (.if_icmp .eq 33, 3) := dc_159 (a := 0) (b := 33) (by decide +kernel) (by decide)
theorem dX12_follow_21 : decode cX12_follow 21 = .ok (.aload_n 0, 1) := dc_42 (by decide +kernel)
theorem dX12_follow_22 : decode cX12_follow 22 = .ok (.getfield 84, 3) := dc_180 (a := 0) (b := 84) (by decide +kernel)
theorem dX12_follow_25 : decode cX12_follow 25 = .ok (.iconst 2, 1) := dc_5 (by decide +kernel)
theorem dX12_follow_26 : decode cX12_follow 26 = .ok (.iload_n 3, 1) := dc_29 (by decide +kernel)
theorem dX12_follow_27 : decode cX12_follow 27 = .ok (.imul, 1) := dc_104 (by decide +kernel)
theorem dX12_follow_28 : decode cX12_follow 28 = .ok (.iload 4, 2) := dc_21 (a := 4) (by decide +kernel)
theorem dX12_follow_30 : decode cX12_follow 30 = .ok (.iadd, 1) := dc_96 (by decide +kernel)
theorem dX12_follow_31 : decode cX12_follow 31 = .ok (.iaload, 1) := dc_46 (by decide +kernel)
theorem dX12_follow_32 : decode cX12_follow 32 = .ok (.istore 5, 2) := dc_54 (a := 5) (by decide +kernel)
theorem dX12_follow_34 : decode cX12_follow 34 = .ok (.iconst 1, 1) := dc_4 (by decide +kernel)
theorem dX12_follow_35 : decode cX12_follow 35 = .ok (.aload_n 0, 1) := dc_42 (by decide +kernel)
theorem dX12_follow_36 : decode cX12_follow 36 = .ok (.iload 5, 2) := dc_21 (a := 5) (by decide +kernel)
theorem dX12_follow_38 : decode cX12_follow 38 = .ok (.iload_n 3, 1) := dc_29 (by decide +kernel)
theorem dX12_follow_39 : decode cX12_follow 39 = .ok (.invokevirtual 313, 3) := dc_182 (a := 1) (b := 57) (by decide +kernel)
theorem dX12_follow_42 : decode cX12_follow 42 = .ok (.isub, 1) := dc_100 (by decide +kernel)
theorem dX12_follow_43 : decode cX12_follow 43 = .ok (.istore 4, 2) := dc_54 (a := 4) (by decide +kernel)
theorem dX12_follow_45 : decode cX12_follow 45 = .ok (.iload 5, 2) := dc_21 (a := 5) (by decide +kernel)
theorem dX12_follow_47 : decode cX12_follow 47 = .ok (.istore_n 3, 1) := dc_62 (by decide +kernel)
theorem dX12_follow_48 : decode cX12_follow 48 = .ok (.goto (-43), 3) := dc_167 (a := 255) (b := 213) (by decide +kernel) (by decide)
theorem dX12_follow_51 : decode cX12_follow 51 = .ok (.aload_n 0, 1) := dc_42 (by decide +kernel)
theorem dX12_follow_52 : decode cX12_follow 52 = .ok (.getfield 147, 3) := dc_180 (a := 0) (b := 147) (by decide +kernel)
theorem dX12_follow_55 : decode cX12_follow 55 = .ok (.iconst 0, 1) := dc_3 (by decide +kernel)
theorem dX12_follow_56 : decode cX12_follow 56 = .ok (.iload_n 3, 1) := dc_29 (by decide +kernel)
theorem dX12_follow_57 : decode cX12_follow 57 = .ok (.iastore, 1) := dc_79 (by decide +kernel)
theorem dX12_follow_58 : decode cX12_follow 58 = .ok (.aload_n 0, 1) := dc_42 (by decide +kernel)
theorem dX12_follow_59 : decode cX12_follow 59 = .ok (.getfield 150, 3) := dc_180 (a := 0) (b := 150) (by decide +kernel)
theorem dX12_follow_62 : decode cX12_follow 62 = .ok (.iconst 0, 1) := dc_3 (by decide +kernel)
theorem dX12_follow_63 : decode cX12_follow 63 = .ok (.iload 4, 2) := dc_21 (a := 4) (by decide +kernel)
theorem dX12_follow_65 : decode cX12_follow 65 = .ok (.iastore, 1) := dc_79 (by decide +kernel)
theorem dX12_follow_66 : decode cX12_follow 66 = .ok (.aload_n 0, 1) := dc_42 (by decide +kernel)
theorem dX12_follow_67 : decode cX12_follow 67 = .ok (.iconst 1, 1) := dc_4 (by decide +kernel)
theorem dX12_follow_68 : decode cX12_follow 68 = .ok (.putfield 393, 3) := dc_181 (a := 1) (b := 137) (by decide +kernel)
theorem dX12_follow_71 : decode cX12_follow 71 = .ok (.aload_n 0, 1) := dc_42 (by decide +kernel)
theorem dX12_follow_72 : decode cX12_follow 72 = .ok (.getfield 84, 3) := dc_180 (a := 0) (b := 84) (by decide +kernel)
theorem dX12_follow_75 : decode cX12_follow 75 = .ok (.iconst 2, 1) := dc_5 (by decide +kernel)
theorem dX12_follow_76 : decode cX12_follow 76 = .ok (.iload_n 3, 1) := dc_29 (by decide +kernel)
theorem dX12_follow_77 : decode cX12_follow 77 = .ok (.imul, 1) := dc_104 (by decide +kernel)
theorem dX12_follow_78 : decode cX12_follow 78 = .ok (.iconst 1, 1) := dc_4 (by decide +kernel)
theorem dX12_follow_79 : decode cX12_follow 79 = .ok (.iadd, 1) := dc_96 (by decide +kernel)
theorem dX12_follow_80 : decode cX12_follow 80 = .ok (.iload 4, 2) := dc_21 (a := 4) (by decide +kernel)
theorem dX12_follow_82 : decode cX12_follow 82 = .ok (.isub, 1) := dc_100 (by decide +kernel)
theorem dX12_follow_83 : decode cX12_follow 83 = .ok (.iaload, 1) := dc_46 (by decide +kernel)
theorem dX12_follow_84 : decode cX12_follow 84 = .ok (.bipush (-4), 2) := dc_16 (a := 252) (by decide +kernel) (by decide)
theorem dX12_follow_86 : decode cX12_follow 86 = .ok (.if_icmp .eq 64, 3) := dc_159 (a := 0) (b := 64) (by decide +kernel) (by decide)
theorem dX12_follow_89 : decode cX12_follow 89 = .ok (.aload_n 0, 1) := dc_42 (by decide +kernel)
theorem dX12_follow_90 : decode cX12_follow 90 = .ok (.getfield 84, 3) := dc_180 (a := 0) (b := 84) (by decide +kernel)
theorem dX12_follow_93 : decode cX12_follow 93 = .ok (.iconst 2, 1) := dc_5 (by decide +kernel)
theorem dX12_follow_94 : decode cX12_follow 94 = .ok (.iload_n 3, 1) := dc_29 (by decide +kernel)
theorem dX12_follow_95 : decode cX12_follow 95 = .ok (.imul, 1) := dc_104 (by decide +kernel)
theorem dX12_follow_96 : decode cX12_follow 96 = .ok (.iconst 1, 1) := dc_4 (by decide +kernel)
theorem dX12_follow_97 : decode cX12_follow 97 = .ok (.iadd, 1) := dc_96 (by decide +kernel)
theorem dX12_follow_98 : decode cX12_follow 98 = .ok (.iload 4, 2) := dc_21 (a := 4) (by decide +kernel)
theorem dX12_follow_100 : decode cX12_follow 100 = .ok (.isub, 1) := dc_100 (by decide +kernel)
theorem dX12_follow_101 : decode cX12_follow 101 = .ok (.iaload, 1) := dc_46 (by decide +kernel)
theorem dX12_follow_102 : decode cX12_follow 102 = .ok (.istore 5, 2) := dc_54 (a := 5) (by decide +kernel)
theorem dX12_follow_104 : decode cX12_follow 104 = .ok (.aload_n 0, 1) := dc_42 (by decide +kernel)
theorem dX12_follow_105 : decode cX12_follow 105 = .ok (.iload 5, 2) := dc_21 (a := 5) (by decide +kernel)
theorem dX12_follow_107 : decode cX12_follow 107 = .ok (.iload_n 3, 1) := dc_29 (by decide +kernel)
theorem dX12_follow_108 : decode cX12_follow 108 = .ok (.invokevirtual 313, 3) := dc_182 (a := 1) (b := 57) (by decide +kernel)
theorem dX12_follow_111 : decode cX12_follow 111 = .ok (.istore 4, 2) := dc_54 (a := 4) (by decide +kernel)
theorem dX12_follow_113 : decode cX12_follow 113 = .ok (.iload 5, 2) := dc_21 (a := 5) (by decide +kernel)
theorem dX12_follow_115 : decode cX12_follow 115 = .ok (.istore_n 3, 1) := dc_62 (by decide +kernel)
theorem dX12_follow_116 : decode cX12_follow 116 = .ok (.aload_n 0, 1) := dc_42 (by decide +kernel)
theorem dX12_follow_117 : decode cX12_follow 117 = .ok (.getfield 147, 3) := dc_180 (a := 0) (b := 147) (by decide +kernel)
theorem dX12_follow_120 : decode cX12_follow 120 = .ok (.aload_n 0, 1) := dc_42 (by decide +kernel)
theorem dX12_follow_121 : decode cX12_follow 121 = .ok (.getfield 393, 3) := dc_180 (a := 1) (b := 137) (by decide +kernel)
theorem dX12_follow_124 : decode cX12_follow 124 = .ok (.iload_n 3, 1) := dc_29 (by decide +kernel)
theorem dX12_follow_125 : decode cX12_follow 125 = .ok (.iastore, 1) := dc_79 (by decide +kernel)
theorem dX12_follow_126 : decode cX12_follow 126 = .ok (.aload_n 0, 1) := dc_42 (by decide +kernel)
theorem dX12_follow_127 : decode cX12_follow 127 = .ok (.getfield 150, 3) := dc_180 (a := 0) (b := 150) (by decide +kernel)
theorem dX12_follow_130 : decode cX12_follow 130 = .ok (.aload_n 0, 1) := dc_42 (by decide +kernel)
theorem dX12_follow_131 : decode cX12_follow 131 = .ok (.getfield 393, 3) := dc_180 (a := 1) (b := 137) (by decide +kernel)
theorem dX12_follow_134 : decode cX12_follow 134 = .ok (.iload 4, 2) := dc_21 (a := 4) (by decide +kernel)
theorem dX12_follow_136 : decode cX12_follow 136 = .ok (.iastore, 1) := dc_79 (by decide +kernel)
theorem dX12_follow_137 : decode cX12_follow 137 = .ok (.aload_n 0, 1) := dc_42 (by decide +kernel)
theorem dX12_follow_138 : decode cX12_follow 138 = .ok (.dup, 1) := dc_89 (by decide +kernel)
theorem dX12_follow_139 : decode cX12_follow 139 = .ok (.getfield 393, 3) := dc_180 (a := 1) (b := 137) (by decide +kernel)
theorem dX12_follow_142 : decode cX12_follow 142 = .ok (.iconst 1, 1) := dc_4 (by decide +kernel)
theorem dX12_follow_143 : decode cX12_follow 143 = .ok (.iadd, 1) := dc_96 (by decide +kernel)
theorem dX12_follow_144 : decode cX12_follow 144 = .ok (.putfield 393, 3) := dc_181 (a := 1) (b := 137) (by decide +kernel)
theorem dX12_follow_147 : decode cX12_follow 147 = .ok (.goto (-76), 3) := dc_167 (a := 255) (b := 180) (by decide +kernel) (by decide)
theorem dX12_follow_150 : decode cX12_follow 150 = .ok (.return_, 1) := dc_177 (by decide +kernel)
set_option maxRecDepth 100000 in
set_option maxHeartbeats 4000000 in
theorem w_M_follow_L71 {p : Program} {l : Launch} {e : Env} {R : Room} {s : State} {m : MethodId} {args : Array Value} {below : List Frame} {meth : Method} {c : Code} {dC : Nat → ClassId} {dI : Nat → Nat → Nat} {cs : Nat → ClassId} {ad : Nat → Nat} {A : Nat → Prop} {D0 : Nat → Nat} {S' : SS} (F : Fx p s m args meth c cX12_follow 6 RX12 none dC dI cs A) (hR1 : 1 ≤ R.frames) (hR2 : 22 ≤ R.locals) : ∀ (n : Nat) (x3 : Int32) (x4 : Int32) (S : SS), f_M_follow_L71 n x3 x4 S = some S' → AW p l e R s m args below meth c dC dI cs ad A D0 none S' 6 71 [(0, .ref (ad 0)), (3, .int x3), (4, .int x4)] [] S := by
  have hx := F.1.1
  have hb := F.1.2.1
  intro n
  induction n with
  | zero => intro x3 x4 S h; cases h
  | succ n ih =>
    intro x3 x4 S h H locs ls w hl
    rw [f_M_follow_L71] at h
    refine lv_aload_n (pc := 71) hx hb dX12_follow_71 rfl (lv_at hl 0 rfl) ?_
    refine s_getR (pc := 72) F w 23 ds_0 (j := 35) vc_X12 vi_X12 rfl (by decide) kf_X12_84 dX12_follow_72 ?_
    refine lv_iconst (pc := 75) (v := 2) hx hb dX12_follow_75 (by decide) ?_
    refine lv_iload_n (pc := 76) hx hb dX12_follow_76 rfl (lv_at hl 1 rfl) ?_
    refine lv_imul (pc := 77) hx hb dX12_follow_77 ?_
    refine lv_iconst (pc := 78) (v := 1) hx hb dX12_follow_78 (by decide) ?_
    refine lv_iadd (pc := 79) hx hb dX12_follow_79 ?_
    refine lv_iload (pc := 80) hx hb dX12_follow_80 (lv_at hl 2 rfl) ?_
    refine lv_isub (pc := 82) hx hb dX12_follow_82 ?_
    refine s_iald (pc := 83) F w ds_23 h dX12_follow_83 (fun h => ?_)
    refine lv_bipush (pc := 84) (v := -4) hx hb dX12_follow_84 (by decide) ?_
    refine lv_icmp_eq (pc := 86) (tgt := 150) hx hb dX12_follow_86 (by decide) (fun q => ?_) (fun q => ?_)
    · have h := ite_t q h
      exact s_vret F w h dX12_follow_150
    · have h := ite_f q h
      refine lv_aload_n (pc := 89) hx hb dX12_follow_89 rfl (lv_at hl 0 rfl) ?_
      refine s_getR (pc := 90) F w 23 ds_0 (j := 35) vc_X12 vi_X12 rfl (by decide) kf_X12_84 dX12_follow_90 ?_
      refine lv_iconst (pc := 93) (v := 2) hx hb dX12_follow_93 (by decide) ?_
      refine lv_iload_n (pc := 94) hx hb dX12_follow_94 rfl (lv_at hl 1 rfl) ?_
      refine lv_imul (pc := 95) hx hb dX12_follow_95 ?_
      refine lv_iconst (pc := 96) (v := 1) hx hb dX12_follow_96 (by decide) ?_
      refine lv_iadd (pc := 97) hx hb dX12_follow_97 ?_
      refine lv_iload (pc := 98) hx hb dX12_follow_98 (lv_at hl 2 rfl) ?_
      refine lv_isub (pc := 100) hx hb dX12_follow_100 ?_
      refine s_iald (pc := 101) F w ds_23 h dX12_follow_101 (fun h => ?_)
      refine s_nm h (fun z4 ez4 h => ?_)
      rw [← ez4]
      refine lv_istore (pc := 102) (lv' := [(5, .int z4), (0, .ref (ad 0)), (3, .int x3), (4, .int x4)]) hx hb dX12_follow_102 hl (by decide) rfl (fun ls hl => ?_)
      refine lv_aload_n (pc := 104) hx hb dX12_follow_104 rfl (lv_at hl 1 rfl) ?_
      refine lv_iload (pc := 105) hx hb dX12_follow_105 (lv_at hl 0 rfl) ?_
      refine lv_iload_n (pc := 107) hx hb dX12_follow_107 rfl (lv_at hl 2 rfl) ?_
      obtain ⟨r6, S5, hc, h⟩ := bnd_t h
      refine s_cvi (pc := 108) [.int z4, .int x3] (fun ad => [.ref (ad 0), .int z4, .int x3]) F w (m_M_sideTo _ _ _ _ _ hc) rfl rfl hl.1 ds_0 vc_X12 rfl ok_X12_sideTo rfl kc_X12_sideTo kl_X12_313 ki_X12_sideTo kv_X12_sideTo kn_X12 ⟨Nat.le_trans (by decide) hR1, Nat.le_trans (by decide) hR2⟩ ⟨Nat.zero_le _, Nat.zero_le _⟩ (Nat.le_of_ble_eq_true rfl) dX12_follow_108 (fun H locs w => ?_)
      refine lv_istore (pc := 111) (lv' := [(4, .int r6), (5, .int z4), (0, .ref (ad 0)), (3, .int x3)]) hx hb dX12_follow_111 hl (by decide) rfl (fun ls hl => ?_)
      refine lv_iload (pc := 113) hx hb dX12_follow_113 (lv_at hl 1 rfl) ?_
      refine lv_istore_n (pc := 115) (lv' := [(3, .int z4), (4, .int r6), (5, .int z4), (0, .ref (ad 0))]) hx hb dX12_follow_115 rfl hl (by decide) rfl (fun ls hl => ?_)
      refine lv_aload_n (pc := 116) hx hb dX12_follow_116 rfl (lv_at hl 3 rfl) ?_
      refine s_getR (pc := 117) F w 44 ds_0 (j := 68) vc_X12 vi_X12 rfl (by decide) kf_X12_147 dX12_follow_117 ?_
      refine lv_aload_n (pc := 120) hx hb dX12_follow_120 rfl (lv_at hl 3 rfl) ?_
      refine s_getI (pc := 121) F w ds_0 (j := 70) vc_X12 vi_X12 rfl (by decide) kf_X12_393 dX12_follow_121 ?_
      refine lv_iload_n (pc := 124) hx hb dX12_follow_124 rfl (lv_at hl 0 rfl) ?_
      refine s_iast (pc := 125) F w ds_44 h dX12_follow_125 (fun S7 H locs h w => ?_)
      refine lv_aload_n (pc := 126) hx hb dX12_follow_126 rfl (lv_at hl 3 rfl) ?_
      refine s_getR (pc := 127) F w 45 ds_0 (j := 69) vc_X12 vi_X12 rfl (by decide) kf_X12_150 dX12_follow_127 ?_
      refine lv_aload_n (pc := 130) hx hb dX12_follow_130 rfl (lv_at hl 3 rfl) ?_
      refine s_getI (pc := 131) F w ds_0 (j := 70) vc_X12 vi_X12 rfl (by decide) kf_X12_393 dX12_follow_131 ?_
      refine lv_iload (pc := 134) hx hb dX12_follow_134 (lv_at hl 1 rfl) ?_
      refine s_iast (pc := 136) F w ds_45 h dX12_follow_136 (fun S8 H locs h w => ?_)
      refine lv_aload_n (pc := 137) hx hb dX12_follow_137 rfl (lv_at hl 3 rfl) ?_
      refine lv_dup (pc := 138) hx hb dX12_follow_138 rfl ?_
      refine s_getI (pc := 139) F w ds_0 (j := 70) vc_X12 vi_X12 rfl (by decide) kf_X12_393 dX12_follow_139 ?_
      refine lv_iconst (pc := 142) (v := 1) hx hb dX12_follow_142 (by decide) ?_
      refine lv_iadd (pc := 143) hx hb dX12_follow_143 ?_
      refine s_putI (pc := 144) F w ds_0 vc_X12 vi_X12 tyX12_ok nmX12 (j := 70) rfl (by decide) kf_X12_393 rfl pd_I h dX12_follow_144 (fun S9 H locs h w => ?_)
      refine lv_goto (pc := 147) (tgt := 71) hx hb dX12_follow_147 (by decide) ?_
      exact ih _ _ _ h _ _ _ w (lv_sub hl [3, 0, 1] rfl)
set_option maxRecDepth 100000 in
set_option maxHeartbeats 4000000 in
theorem w_M_follow_L5 {p : Program} {l : Launch} {e : Env} {R : Room} {s : State} {m : MethodId} {args : Array Value} {below : List Frame} {meth : Method} {c : Code} {dC : Nat → ClassId} {dI : Nat → Nat → Nat} {cs : Nat → ClassId} {ad : Nat → Nat} {A : Nat → Prop} {D0 : Nat → Nat} {S' : SS} (F : Fx p s m args meth c cX12_follow 6 RX12 none dC dI cs A) (hR1 : 1 ≤ R.frames) (hR2 : 22 ≤ R.locals) : ∀ (n : Nat) (x3 : Int32) (x4 : Int32) (S : SS), f_M_follow_L5 n x3 x4 S = some S' → AW p l e R s m args below meth c dC dI cs ad A D0 none S' 6 5 [(0, .ref (ad 0)), (3, .int x3), (4, .int x4)] [] S := by
  have hx := F.1.1
  have hb := F.1.2.1
  intro n
  induction n with
  | zero => intro x3 x4 S h; cases h
  | succ n ih =>
    intro x3 x4 S h H locs ls w hl
    rw [f_M_follow_L5] at h
    refine lv_aload_n (pc := 5) hx hb dX12_follow_5 rfl (lv_at hl 0 rfl) ?_
    refine s_getR (pc := 6) F w 23 ds_0 (j := 35) vc_X12 vi_X12 rfl (by decide) kf_X12_84 dX12_follow_6 ?_
    refine lv_iconst (pc := 9) (v := 2) hx hb dX12_follow_9 (by decide) ?_
    refine lv_iload_n (pc := 10) hx hb dX12_follow_10 rfl (lv_at hl 1 rfl) ?_
    refine lv_imul (pc := 11) hx hb dX12_follow_11 ?_
    refine lv_iload (pc := 12) hx hb dX12_follow_12 (lv_at hl 2 rfl) ?_
    refine lv_iadd (pc := 14) hx hb dX12_follow_14 ?_
    refine s_iald (pc := 15) F w ds_23 h dX12_follow_15 (fun h => ?_)
    refine lv_bipush (pc := 16) (v := -4) hx hb dX12_follow_16 (by decide) ?_
    refine lv_icmp_eq (pc := 18) (tgt := 51) hx hb dX12_follow_18 (by decide) (fun q => ?_) (fun q => ?_)
    · have h := ite_t q h
      refine lv_aload_n (pc := 51) hx hb dX12_follow_51 rfl (lv_at hl 0 rfl) ?_
      refine s_getR (pc := 52) F w 44 ds_0 (j := 68) vc_X12 vi_X12 rfl (by decide) kf_X12_147 dX12_follow_52 ?_
      refine lv_iconst (pc := 55) (v := 0) hx hb dX12_follow_55 (by decide) ?_
      refine lv_iload_n (pc := 56) hx hb dX12_follow_56 rfl (lv_at hl 1 rfl) ?_
      refine s_iast (pc := 57) F w ds_44 h dX12_follow_57 (fun S1 H locs h w => ?_)
      refine lv_aload_n (pc := 58) hx hb dX12_follow_58 rfl (lv_at hl 0 rfl) ?_
      refine s_getR (pc := 59) F w 45 ds_0 (j := 69) vc_X12 vi_X12 rfl (by decide) kf_X12_150 dX12_follow_59 ?_
      refine lv_iconst (pc := 62) (v := 0) hx hb dX12_follow_62 (by decide) ?_
      refine lv_iload (pc := 63) hx hb dX12_follow_63 (lv_at hl 2 rfl) ?_
      refine s_iast (pc := 65) F w ds_45 h dX12_follow_65 (fun S2 H locs h w => ?_)
      refine lv_aload_n (pc := 66) hx hb dX12_follow_66 rfl (lv_at hl 0 rfl) ?_
      refine lv_iconst (pc := 67) (v := 1) hx hb dX12_follow_67 (by decide) ?_
      refine s_putI (pc := 68) F w ds_0 vc_X12 vi_X12 tyX12_ok nmX12 (j := 70) rfl (by decide) kf_X12_393 rfl pd_I h dX12_follow_68 (fun S3 H locs h w => ?_)
      exact w_M_follow_L71 F (Nat.le_trans (by decide) hR1) (Nat.le_trans (by decide) hR2) _ _ _ _ h _ _ _ w (lv_sub hl [0, 1, 2] rfl)
    · have h := ite_f q h
      refine lv_aload_n (pc := 21) hx hb dX12_follow_21 rfl (lv_at hl 0 rfl) ?_
      refine s_getR (pc := 22) F w 23 ds_0 (j := 35) vc_X12 vi_X12 rfl (by decide) kf_X12_84 dX12_follow_22 ?_
      refine lv_iconst (pc := 25) (v := 2) hx hb dX12_follow_25 (by decide) ?_
      refine lv_iload_n (pc := 26) hx hb dX12_follow_26 rfl (lv_at hl 1 rfl) ?_
      refine lv_imul (pc := 27) hx hb dX12_follow_27 ?_
      refine lv_iload (pc := 28) hx hb dX12_follow_28 (lv_at hl 2 rfl) ?_
      refine lv_iadd (pc := 30) hx hb dX12_follow_30 ?_
      refine s_iald (pc := 31) F w ds_23 h dX12_follow_31 (fun h => ?_)
      refine s_nm h (fun z10 ez10 h => ?_)
      rw [← ez10]
      refine lv_istore (pc := 32) (lv' := [(5, .int z10), (0, .ref (ad 0)), (3, .int x3), (4, .int x4)]) hx hb dX12_follow_32 hl (by decide) rfl (fun ls hl => ?_)
      refine lv_iconst (pc := 34) (v := 1) hx hb dX12_follow_34 (by decide) ?_
      refine lv_aload_n (pc := 35) hx hb dX12_follow_35 rfl (lv_at hl 1 rfl) ?_
      refine lv_iload (pc := 36) hx hb dX12_follow_36 (lv_at hl 0 rfl) ?_
      refine lv_iload_n (pc := 38) hx hb dX12_follow_38 rfl (lv_at hl 2 rfl) ?_
      obtain ⟨r12, S11, hc, h⟩ := bnd_t h
      refine s_cvi (pc := 39) [.int z10, .int x3] (fun ad => [.ref (ad 0), .int z10, .int x3]) F w (m_M_sideTo _ _ _ _ _ hc) rfl rfl hl.1 ds_0 vc_X12 rfl ok_X12_sideTo rfl kc_X12_sideTo kl_X12_313 ki_X12_sideTo kv_X12_sideTo kn_X12 ⟨Nat.le_trans (by decide) hR1, Nat.le_trans (by decide) hR2⟩ ⟨Nat.zero_le _, Nat.zero_le _⟩ (Nat.le_of_ble_eq_true rfl) dX12_follow_39 (fun H locs w => ?_)
      refine lv_isub (pc := 42) hx hb dX12_follow_42 ?_
      refine s_nm h (fun z13 ez13 h => ?_)
      rw [← ez13]
      refine lv_istore (pc := 43) (lv' := [(4, .int z13), (5, .int z10), (0, .ref (ad 0)), (3, .int x3)]) hx hb dX12_follow_43 hl (by decide) rfl (fun ls hl => ?_)
      refine lv_iload (pc := 45) hx hb dX12_follow_45 (lv_at hl 1 rfl) ?_
      refine lv_istore_n (pc := 47) (lv' := [(3, .int z10), (4, .int z13), (5, .int z10), (0, .ref (ad 0))]) hx hb dX12_follow_47 rfl hl (by decide) rfl (fun ls hl => ?_)
      refine lv_goto (pc := 48) (tgt := 5) hx hb dX12_follow_48 (by decide) ?_
      exact ih _ _ _ h _ _ _ w (lv_sub hl [3, 0, 1] rfl)
set_option maxRecDepth 100000 in
set_option maxHeartbeats 4000000 in
theorem m_M_follow (a1 : Int32) (a2 : Int32) (S S' : SS) (h : f_M_follow a1 a2 S = some S') : MT yX12_follow cX12_follow 6 none 1 22 (fun ad => [.ref (ad 0), .int a1, .int a2]) S none S' := by
  refine MT.of RX12 (fun ad => [(0, .ref (ad 0)), (1, .int a1), (2, .int a2)]) (by decide) rfl (fun _ => Nat.le_of_ble_eq_true rfl) (fun _ => rfl) ?_
  intro p l e R s m args below meth c dC dI cs ad A hR1 hR2 F H locs ls w hl
  have hx := F.1.1
  have hb := F.1.2.1
  rw [f_M_follow] at h
  refine lv_iload_n (pc := 0) hx hb dX12_follow_0 rfl (lv_at hl 1 rfl) ?_
  refine lv_istore_n (pc := 1) (lv' := [(3, .int a1), (0, .ref (ad 0)), (1, .int a1), (2, .int a2)]) hx hb dX12_follow_1 rfl hl (by decide) rfl (fun ls hl => ?_)
  refine lv_iload_n (pc := 2) hx hb dX12_follow_2 rfl (lv_at hl 3 rfl) ?_
  refine lv_istore (pc := 3) (lv' := [(4, .int a2), (3, .int a1), (0, .ref (ad 0)), (1, .int a1), (2, .int a2)]) hx hb dX12_follow_3 hl (by decide) rfl (fun ls hl => ?_)
  exact w_M_follow_L5 F (Nat.le_trans (by decide) hR1) (Nat.le_trans (by decide) hR2) _ _ _ _ h _ _ _ w (lv_sub hl [2, 1, 0] rfl)
def f_M_missStep_L62  : Nat → Int32 → SS → Option (Int32 × SS)
  | 0, _, _ => none
  | n + 1, x2, S =>
    if (S.1 0 70) ≤ x2 then
      some ((0 : Int32), S)
    else
      grd (inb x2 72) (
      grd (inb (S.1 44 x2.toNatClampNeg) 72) (
      if (S.1 26 (S.1 44 x2.toNatClampNeg).toNatClampNeg) = (1 : Int32) then
        grd (inb x2 72) (
        bnd (f_M_raised (S.1 44 x2.toNatClampNeg) S) (fun r10 S9 =>
        some (r10, S9)))
      else
        nm (x2 + (1 : Int32)) (fun z8 =>
        f_M_missStep_L62 n z8 S)))
def f_M_missStep  (S : SS) : Option (Int32 × SS) :=
  grd (inb (0 : Int32) 72) (
  nm (S.1 44 (0 : Int32).toNatClampNeg) (fun z1 =>
  grd (inb z1 72) (
  grd (inb z1 72) (
  grd (inb (0 : Int32) 72) (
  bnd (f_M_wayOf z1 (S.1 45 (0 : Int32).toNatClampNeg) S) (fun r3 S2 =>
  bnd (f_M_isOpen (S.1 20 z1.toNatClampNeg) (S.1 21 z1.toNatClampNeg) r3 S2) (fun r5 S4 =>
  if r5 = 0 then
    some ((10 : Int32), S4)
  else
    bnd (f_M_standing (S4.1 0 26) (S4.1 0 27) S4) (fun r7 S6 =>
    if r7 = (-4 : Int32) then
      f_M_missStep_L62 NF (0 : Int32) S6
    else
      some ((9 : Int32), S6)))))))))
theorem dX12_missStep_0 : decode cX12_missStep 0 = .ok (.aload_n 0, 1) := dc_42 (by decide +kernel)
theorem dX12_missStep_1 : decode cX12_missStep 1 = .ok (.getfield 147, 3) := dc_180 (a := 0) (b := 147) (by decide +kernel)
theorem dX12_missStep_4 : decode cX12_missStep 4 = .ok (.iconst 0, 1) := dc_3 (by decide +kernel)
theorem dX12_missStep_5 : decode cX12_missStep 5 = .ok (.iaload, 1) := dc_46 (by decide +kernel)
theorem dX12_missStep_6 : decode cX12_missStep 6 = .ok (.istore_n 1, 1) := dc_60 (by decide +kernel)
theorem dX12_missStep_7 : decode cX12_missStep 7 = .ok (.aload_n 0, 1) := dc_42 (by decide +kernel)
theorem dX12_missStep_8 : decode cX12_missStep 8 = .ok (.aload_n 0, 1) := dc_42 (by decide +kernel)
theorem dX12_missStep_9 : decode cX12_missStep 9 = .ok (.getfield 75, 3) := dc_180 (a := 0) (b := 75) (by decide +kernel)
theorem dX12_missStep_12 : decode cX12_missStep 12 = .ok (.iload_n 1, 1) := dc_27 (by decide +kernel)
theorem dX12_missStep_13 : decode cX12_missStep 13 = .ok (.iaload, 1) := dc_46 (by decide +kernel)
theorem dX12_missStep_14 : decode cX12_missStep 14 = .ok (.aload_n 0, 1) := dc_42 (by decide +kernel)
theorem dX12_missStep_15 : decode cX12_missStep 15 = .ok (.getfield 78, 3) := dc_180 (a := 0) (b := 78) (by decide +kernel)
theorem dX12_missStep_18 : decode cX12_missStep 18 = .ok (.iload_n 1, 1) := dc_27 (by decide +kernel)
theorem dX12_missStep_19 : decode cX12_missStep 19 = .ok (.iaload, 1) := dc_46 (by decide +kernel)
theorem dX12_missStep_20 : decode cX12_missStep 20 = .ok (.aload_n 0, 1) := dc_42 (by decide +kernel)
theorem dX12_missStep_21 : decode cX12_missStep 21 = .ok (.iload_n 1, 1) := dc_27 (by decide +kernel)
theorem dX12_missStep_22 : decode cX12_missStep 22 = .ok (.aload_n 0, 1) := dc_42 (by decide +kernel)
theorem dX12_missStep_23 : decode cX12_missStep 23 = .ok (.getfield 150, 3) := dc_180 (a := 0) (b := 150) (by decide +kernel)
theorem dX12_missStep_26 : decode cX12_missStep 26 = .ok (.iconst 0, 1) := dc_3 (by decide +kernel)
theorem dX12_missStep_27 : decode cX12_missStep 27 = .ok (.iaload, 1) := dc_46 (by decide +kernel)
theorem dX12_missStep_28 : decode cX12_missStep 28 = .ok (.invokevirtual 368, 3) := dc_182 (a := 1) (b := 112) (by decide +kernel)
theorem dX12_missStep_31 : decode cX12_missStep 31 = .ok (.invokevirtual 371, 3) := dc_182 (a := 1) (b := 115) (by decide +kernel)
theorem dX12_missStep_34 : decode cX12_missStep 34 = .ok (.ifCond .ne 6, 3) := dc_154 (a := 0) (b := 6) (by decide +kernel) (by decide)
theorem dX12_missStep_37 : decode cX12_missStep 37 = .ok (.bipush 10, 2) := dc_16 (a := 10) (by decide +kernel) (by decide)
theorem dX12_missStep_39 : decode cX12_missStep 39 = .ok (.ireturn, 1) := dc_172 (by decide +kernel)
theorem dX12_missStep_40 : decode cX12_missStep 40 = .ok (.aload_n 0, 1) := dc_42 (by decide +kernel)
theorem dX12_missStep_41 : decode cX12_missStep 41 = .ok (.aload_n 0, 1) := dc_42 (by decide +kernel)
theorem dX12_missStep_42 : decode cX12_missStep 42 = .ok (.getfield 245, 3) := dc_180 (a := 0) (b := 245) (by decide +kernel)
theorem dX12_missStep_45 : decode cX12_missStep 45 = .ok (.aload_n 0, 1) := dc_42 (by decide +kernel)
theorem dX12_missStep_46 : decode cX12_missStep 46 = .ok (.getfield 248, 3) := dc_180 (a := 0) (b := 248) (by decide +kernel)
theorem dX12_missStep_49 : decode cX12_missStep 49 = .ok (.invokevirtual 279, 3) := dc_182 (a := 1) (b := 23) (by decide +kernel)
theorem dX12_missStep_52 : decode cX12_missStep 52 = .ok (.bipush (-4), 2) := dc_16 (a := 252) (by decide +kernel) (by decide)
theorem dX12_missStep_54 : decode cX12_missStep 54 = .ok (.if_icmp .eq 6, 3) := dc_159 (a := 0) (b := 6) (by decide +kernel) (by decide)
theorem dX12_missStep_57 : decode cX12_missStep 57 = .ok (.bipush 9, 2) := dc_16 (a := 9) (by decide +kernel) (by decide)
theorem dX12_missStep_59 : decode cX12_missStep 59 = .ok (.ireturn, 1) := dc_172 (by decide +kernel)
theorem dX12_missStep_60 : decode cX12_missStep 60 = .ok (.iconst 0, 1) := dc_3 (by decide +kernel)
theorem dX12_missStep_61 : decode cX12_missStep 61 = .ok (.istore_n 2, 1) := dc_61 (by decide +kernel)
theorem dX12_missStep_62 : decode cX12_missStep 62 = .ok (.iload_n 2, 1) := dc_28 (by decide +kernel)
theorem dX12_missStep_63 : decode cX12_missStep 63 = .ok (.aload_n 0, 1) := dc_42 (by decide +kernel)
theorem dX12_missStep_64 : decode cX12_missStep 64 = .ok (.getfield 393, 3) := dc_180 (a := 1) (b := 137) (by decide +kernel)
theorem dX12_missStep_67 : decode cX12_missStep 67 = .ok (.if_icmp .ge 35, 3) := dc_162 (a := 0) (b := 35) (by decide +kernel) (by decide)
theorem dX12_missStep_70 : decode cX12_missStep 70 = .ok (.aload_n 0, 1) := dc_42 (by decide +kernel)
theorem dX12_missStep_71 : decode cX12_missStep 71 = .ok (.getfield 93, 3) := dc_180 (a := 0) (b := 93) (by decide +kernel)
theorem dX12_missStep_74 : decode cX12_missStep 74 = .ok (.aload_n 0, 1) := dc_42 (by decide +kernel)
theorem dX12_missStep_75 : decode cX12_missStep 75 = .ok (.getfield 147, 3) := dc_180 (a := 0) (b := 147) (by decide +kernel)
theorem dX12_missStep_78 : decode cX12_missStep 78 = .ok (.iload_n 2, 1) := dc_28 (by decide +kernel)
theorem dX12_missStep_79 : decode cX12_missStep 79 = .ok (.iaload, 1) := dc_46 (by decide +kernel)
theorem dX12_missStep_80 : decode cX12_missStep 80 = .ok (.iaload, 1) := dc_46 (by decide +kernel)
theorem dX12_missStep_81 : decode cX12_missStep 81 = .ok (.iconst 1, 1) := dc_4 (by decide +kernel)
theorem dX12_missStep_82 : decode cX12_missStep 82 = .ok (.if_icmp .ne 14, 3) := dc_160 (a := 0) (b := 14) (by decide +kernel) (by decide)
theorem dX12_missStep_85 : decode cX12_missStep 85 = .ok (.aload_n 0, 1) := dc_42 (by decide +kernel)
theorem dX12_missStep_86 : decode cX12_missStep 86 = .ok (.aload_n 0, 1) := dc_42 (by decide +kernel)
theorem dX12_missStep_87 : decode cX12_missStep 87 = .ok (.getfield 147, 3) := dc_180 (a := 0) (b := 147) (by decide +kernel)
theorem dX12_missStep_90 : decode cX12_missStep 90 = .ok (.iload_n 2, 1) := dc_28 (by decide +kernel)
theorem dX12_missStep_91 : decode cX12_missStep 91 = .ok (.iaload, 1) := dc_46 (by decide +kernel)
theorem dX12_missStep_92 : decode cX12_missStep 92 = .ok (.invokevirtual 352, 3) := dc_182 (a := 1) (b := 96) (by decide +kernel)
theorem dX12_missStep_95 : decode cX12_missStep 95 = .ok (.ireturn, 1) := dc_172 (by decide +kernel)
theorem dX12_missStep_96 : decode cX12_missStep 96 = .ok (.iinc 2 1, 3) := dc_132 (a := 2) (b := 1) (by decide +kernel) (by decide)
theorem dX12_missStep_99 : decode cX12_missStep 99 = .ok (.goto (-37), 3) := dc_167 (a := 255) (b := 219) (by decide +kernel) (by decide)
theorem dX12_missStep_102 : decode cX12_missStep 102 = .ok (.iconst 0, 1) := dc_3 (by decide +kernel)
theorem dX12_missStep_103 : decode cX12_missStep 103 = .ok (.ireturn, 1) := dc_172 (by decide +kernel)
set_option maxRecDepth 100000 in
set_option maxHeartbeats 4000000 in
theorem w_M_missStep_L62 {p : Program} {l : Launch} {e : Env} {R : Room} {s : State} {m : MethodId} {args : Array Value} {below : List Frame} {meth : Method} {c : Code} {dC : Nat → ClassId} {dI : Nat → Nat → Nat} {cs : Nat → ClassId} {ad : Nat → Nat} {A : Nat → Prop} {D0 : Nat → Nat} {S' : SS} {r : Int32} (F : Fx p s m args meth c cX12_missStep 3 RX12 (some .int) dC dI cs A) (hR1 : 1 ≤ R.frames) (hR2 : 21 ≤ R.locals) : ∀ (n : Nat) (x2 : Int32) (S : SS), f_M_missStep_L62 n x2 S = some (r, S') → AW p l e R s m args below meth c dC dI cs ad A D0 (some (.int r)) S' 3 62 [(0, .ref (ad 0)), (2, .int x2)] [] S := by
  have hx := F.1.1
  have hb := F.1.2.1
  intro n
  induction n with
  | zero => intro x2 S h; cases h
  | succ n ih =>
    intro x2 S h H locs ls w hl
    rw [f_M_missStep_L62] at h
    refine lv_iload_n (pc := 62) hx hb dX12_missStep_62 rfl (lv_at hl 1 rfl) ?_
    refine lv_aload_n (pc := 63) hx hb dX12_missStep_63 rfl (lv_at hl 0 rfl) ?_
    refine s_getI (pc := 64) F w ds_0 (j := 70) vc_X12 vi_X12 rfl (by decide) kf_X12_393 dX12_missStep_64 ?_
    refine lv_icmp_ge (pc := 67) (tgt := 102) hx hb dX12_missStep_67 (by decide) (fun q => ?_) (fun q => ?_)
    · have h := ite_t q h
      refine lv_iconst (pc := 102) (v := 0) hx hb dX12_missStep_102 (by decide) ?_
      exact s_iret F w h dX12_missStep_103
    · have h := ite_f q h
      refine lv_aload_n (pc := 70) hx hb dX12_missStep_70 rfl (lv_at hl 0 rfl) ?_
      refine s_getR (pc := 71) F w 26 ds_0 (j := 38) vc_X12 vi_X12 rfl (by decide) kf_X12_93 dX12_missStep_71 ?_
      refine lv_aload_n (pc := 74) hx hb dX12_missStep_74 rfl (lv_at hl 0 rfl) ?_
      refine s_getR (pc := 75) F w 44 ds_0 (j := 68) vc_X12 vi_X12 rfl (by decide) kf_X12_147 dX12_missStep_75 ?_
      refine lv_iload_n (pc := 78) hx hb dX12_missStep_78 rfl (lv_at hl 1 rfl) ?_
      refine s_iald (pc := 79) F w ds_44 h dX12_missStep_79 (fun h => ?_)
      refine s_iald (pc := 80) F w ds_26 h dX12_missStep_80 (fun h => ?_)
      refine lv_iconst (pc := 81) (v := 1) hx hb dX12_missStep_81 (by decide) ?_
      refine lv_icmp_ne (pc := 82) (tgt := 96) hx hb dX12_missStep_82 (by decide) (fun q => ?_) (fun q => ?_)
      · have h := ite_f q h
        refine s_nm h (fun z8 ez8 h => ?_)
        refine lv_iinc (pc := 96) (v := z8) (lv' := [(2, .int z8), (0, .ref (ad 0))]) hx hb dX12_missStep_96 hl (k := 1) rfl (by rw [ez8]; rfl) (by decide) rfl (fun ls hl => ?_)
        refine lv_goto (pc := 99) (tgt := 62) hx hb dX12_missStep_99 (by decide) ?_
        exact ih _ _ h _ _ _ w (lv_sub hl [1, 0] rfl)
      · have h := ite_t q h
        refine lv_aload_n (pc := 85) hx hb dX12_missStep_85 rfl (lv_at hl 0 rfl) ?_
        refine lv_aload_n (pc := 86) hx hb dX12_missStep_86 rfl (lv_at hl 0 rfl) ?_
        refine s_getR (pc := 87) F w 44 ds_0 (j := 68) vc_X12 vi_X12 rfl (by decide) kf_X12_147 dX12_missStep_87 ?_
        refine lv_iload_n (pc := 90) hx hb dX12_missStep_90 rfl (lv_at hl 1 rfl) ?_
        refine s_iald (pc := 91) F w ds_44 h dX12_missStep_91 (fun h => ?_)
        obtain ⟨r10, S9, hc, h⟩ := bnd_t h
        refine s_cvi (pc := 92) [.int (S.1 44 x2.toNatClampNeg)] (fun ad => [.ref (ad 0), .int (S.1 44 x2.toNatClampNeg)]) F w (m_M_raised _ _ _ _ hc) rfl rfl hl.1 ds_0 vc_X12 rfl ok_X12_raised rfl kc_X12_raised kl_X12_352 ki_X12_raised kv_X12_raised kn_X12 ⟨Nat.le_trans (by decide) hR1, Nat.le_trans (by decide) hR2⟩ ⟨Nat.zero_le _, Nat.zero_le _⟩ (Nat.le_of_ble_eq_true rfl) dX12_missStep_92 (fun H locs w => ?_)
        exact s_iret F w h dX12_missStep_95
set_option maxRecDepth 100000 in
set_option maxHeartbeats 4000000 in
theorem m_M_missStep  (S S' : SS) (r : Int32) (h : f_M_missStep  S = some (r, S')) : MT yX12_missStep cX12_missStep 3 (some .int) 2 50 (fun ad => [.ref (ad 0)]) S (some (.int r)) S' := by
  refine MT.of RX12 (fun ad => [(0, .ref (ad 0))]) (by decide) rfl (fun _ => Nat.le_of_ble_eq_true rfl) (fun _ => rfl) ?_
  intro p l e R s m args below meth c dC dI cs ad A hR1 hR2 F H locs ls w hl
  have hx := F.1.1
  have hb := F.1.2.1
  rw [f_M_missStep] at h
  refine lv_aload_n (pc := 0) hx hb dX12_missStep_0 rfl (lv_at hl 0 rfl) ?_
  refine s_getR (pc := 1) F w 44 ds_0 (j := 68) vc_X12 vi_X12 rfl (by decide) kf_X12_147 dX12_missStep_1 ?_
  refine lv_iconst (pc := 4) (v := 0) hx hb dX12_missStep_4 (by decide) ?_
  refine s_iald (pc := 5) F w ds_44 h dX12_missStep_5 (fun h => ?_)
  refine s_nm h (fun z1 ez1 h => ?_)
  rw [← ez1]
  refine lv_istore_n (pc := 6) (lv' := [(1, .int z1), (0, .ref (ad 0))]) hx hb dX12_missStep_6 rfl hl (by decide) rfl (fun ls hl => ?_)
  refine lv_aload_n (pc := 7) hx hb dX12_missStep_7 rfl (lv_at hl 1 rfl) ?_
  refine lv_aload_n (pc := 8) hx hb dX12_missStep_8 rfl (lv_at hl 1 rfl) ?_
  refine s_getR (pc := 9) F w 20 ds_0 (j := 32) vc_X12 vi_X12 rfl (by decide) kf_X12_75 dX12_missStep_9 ?_
  refine lv_iload_n (pc := 12) hx hb dX12_missStep_12 rfl (lv_at hl 0 rfl) ?_
  refine s_iald (pc := 13) F w ds_20 h dX12_missStep_13 (fun h => ?_)
  refine lv_aload_n (pc := 14) hx hb dX12_missStep_14 rfl (lv_at hl 1 rfl) ?_
  refine s_getR (pc := 15) F w 21 ds_0 (j := 33) vc_X12 vi_X12 rfl (by decide) kf_X12_78 dX12_missStep_15 ?_
  refine lv_iload_n (pc := 18) hx hb dX12_missStep_18 rfl (lv_at hl 0 rfl) ?_
  refine s_iald (pc := 19) F w ds_21 h dX12_missStep_19 (fun h => ?_)
  refine lv_aload_n (pc := 20) hx hb dX12_missStep_20 rfl (lv_at hl 1 rfl) ?_
  refine lv_iload_n (pc := 21) hx hb dX12_missStep_21 rfl (lv_at hl 0 rfl) ?_
  refine lv_aload_n (pc := 22) hx hb dX12_missStep_22 rfl (lv_at hl 1 rfl) ?_
  refine s_getR (pc := 23) F w 45 ds_0 (j := 69) vc_X12 vi_X12 rfl (by decide) kf_X12_150 dX12_missStep_23 ?_
  refine lv_iconst (pc := 26) (v := 0) hx hb dX12_missStep_26 (by decide) ?_
  refine s_iald (pc := 27) F w ds_45 h dX12_missStep_27 (fun h => ?_)
  obtain ⟨r3, S2, hc, h⟩ := bnd_t h
  refine s_cvi (pc := 28) [.int z1, .int (S.1 45 (0 : Int32).toNatClampNeg)] (fun ad => [.ref (ad 0), .int z1, .int (S.1 45 (0 : Int32).toNatClampNeg)]) F w (m_M_wayOf _ _ _ _ _ hc) rfl rfl hl.1 ds_0 vc_X12 rfl ok_X12_wayOf rfl kc_X12_wayOf kl_X12_368 ki_X12_wayOf kv_X12_wayOf kn_X12 ⟨Nat.le_trans (by decide) hR1, Nat.le_trans (by decide) hR2⟩ ⟨Nat.zero_le _, Nat.zero_le _⟩ (Nat.le_of_ble_eq_true rfl) dX12_missStep_28 (fun H locs w => ?_)
  obtain ⟨r5, S4, hc, h⟩ := bnd_t h
  refine s_cvi (pc := 31) [.int (S.1 20 z1.toNatClampNeg), .int (S.1 21 z1.toNatClampNeg), .int r3] (fun ad => [.ref (ad 0), .int (S.1 20 z1.toNatClampNeg), .int (S.1 21 z1.toNatClampNeg), .int r3]) F w (m_M_isOpen _ _ _ _ _ _ hc) rfl rfl hl.1 ds_0 vc_X12 rfl ok_X12_isOpen rfl kc_X12_isOpen kl_X12_371 ki_X12_isOpen kv_X12_isOpen kn_X12 ⟨Nat.le_trans (by decide) hR1, Nat.le_trans (by decide) hR2⟩ ⟨Nat.zero_le _, Nat.zero_le _⟩ (Nat.le_of_ble_eq_true rfl) dX12_missStep_31 (fun H locs w => ?_)
  refine lv_if_ne (pc := 34) (tgt := 40) hx hb dX12_missStep_34 (by decide) (fun q => ?_) (fun q => ?_)
  · have h := ite_f q h
    refine lv_aload_n (pc := 40) hx hb dX12_missStep_40 rfl (lv_at hl 1 rfl) ?_
    refine lv_aload_n (pc := 41) hx hb dX12_missStep_41 rfl (lv_at hl 1 rfl) ?_
    refine s_getI (pc := 42) F w ds_0 (j := 26) vc_X12 vi_X12 rfl (by decide) kf_X12_245 dX12_missStep_42 ?_
    refine lv_aload_n (pc := 45) hx hb dX12_missStep_45 rfl (lv_at hl 1 rfl) ?_
    refine s_getI (pc := 46) F w ds_0 (j := 27) vc_X12 vi_X12 rfl (by decide) kf_X12_248 dX12_missStep_46 ?_
    obtain ⟨r7, S6, hc, h⟩ := bnd_t h
    refine s_cvi (pc := 49) [.int (S4.1 0 26), .int (S4.1 0 27)] (fun ad => [.ref (ad 0), .int (S4.1 0 26), .int (S4.1 0 27)]) F w (m_M_standing _ _ _ _ _ hc) rfl rfl hl.1 ds_0 vc_X12 rfl ok_X12_standing rfl kc_X12_standing kl_X12_279 ki_X12_standing kv_X12_standing kn_X12 ⟨Nat.le_trans (by decide) hR1, Nat.le_trans (by decide) hR2⟩ ⟨Nat.zero_le _, Nat.zero_le _⟩ (Nat.le_of_ble_eq_true rfl) dX12_missStep_49 (fun H locs w => ?_)
    refine lv_bipush (pc := 52) (v := -4) hx hb dX12_missStep_52 (by decide) ?_
    refine lv_icmp_eq (pc := 54) (tgt := 60) hx hb dX12_missStep_54 (by decide) (fun q => ?_) (fun q => ?_)
    · have h := ite_t q h
      refine lv_iconst (pc := 60) (v := 0) hx hb dX12_missStep_60 (by decide) ?_
      refine lv_istore_n (pc := 61) (lv' := [(2, .int (0 : Int32)), (1, .int z1), (0, .ref (ad 0))]) hx hb dX12_missStep_61 rfl hl (by decide) rfl (fun ls hl => ?_)
      exact w_M_missStep_L62 F (Nat.le_trans (by decide) hR1) (Nat.le_trans (by decide) hR2) _ _ _ h _ _ _ w (lv_sub hl [2, 0] rfl)
    · have h := ite_f q h
      refine lv_bipush (pc := 57) (v := 9) hx hb dX12_missStep_57 (by decide) ?_
      exact s_iret F w h dX12_missStep_59
  · have h := ite_t q h
    refine lv_bipush (pc := 37) (v := 10) hx hb dX12_missStep_37 (by decide) ?_
    exact s_iret F w h dX12_missStep_39
def f_M_place (a1 : Int32) (a2 : Int32) (a3 : Int32) (a4 : Int32) (a5 : Int32) (S : SS) : Option (SS) :=
  grd (inb a1 72) (wr S 20 a1.toNatClampNeg a2 (fun S1 =>
  grd (inb a1 72) (wr S1 21 a1.toNatClampNeg a3 (fun S2 =>
  if a4 = 0 then
    grd (inb a1 72) (wr S2 22 a1.toNatClampNeg a5 (fun S4 =>
    some S4))
  else
    grd (inb a1 72) (wr S2 22 a1.toNatClampNeg ((1 : Int32) - a5) (fun S3 =>
    some S3))))))
theorem dX12_place_0 : decode cX12_place 0 = .ok (.aload_n 0, 1) := dc_42 (by decide +kernel)
theorem dX12_place_1 : decode cX12_place 1 = .ok (.getfield 75, 3) := dc_180 (a := 0) (b := 75) (by decide +kernel)
theorem dX12_place_4 : decode cX12_place 4 = .ok (.iload_n 1, 1) := dc_27 (by decide +kernel)
theorem dX12_place_5 : decode cX12_place 5 = .ok (.iload_n 2, 1) := dc_28 (by decide +kernel)
theorem dX12_place_6 : decode cX12_place 6 = .ok (.iastore, 1) := dc_79 (by decide +kernel)
theorem dX12_place_7 : decode cX12_place 7 = .ok (.aload_n 0, 1) := dc_42 (by decide +kernel)
theorem dX12_place_8 : decode cX12_place 8 = .ok (.getfield 78, 3) := dc_180 (a := 0) (b := 78) (by decide +kernel)
theorem dX12_place_11 : decode cX12_place 11 = .ok (.iload_n 1, 1) := dc_27 (by decide +kernel)
theorem dX12_place_12 : decode cX12_place 12 = .ok (.iload_n 3, 1) := dc_29 (by decide +kernel)
theorem dX12_place_13 : decode cX12_place 13 = .ok (.iastore, 1) := dc_79 (by decide +kernel)
theorem dX12_place_14 : decode cX12_place 14 = .ok (.aload_n 0, 1) := dc_42 (by decide +kernel)
theorem dX12_place_15 : decode cX12_place 15 = .ok (.getfield 81, 3) := dc_180 (a := 0) (b := 81) (by decide +kernel)
theorem dX12_place_18 : decode cX12_place 18 = .ok (.iload_n 1, 1) := dc_27 (by decide +kernel)
theorem dX12_place_19 : decode cX12_place 19 = .ok (.iload 4, 2) := dc_21 (a := 4) (by decide +kernel)
theorem dX12_place_21 : decode cX12_place 21 = .ok (.ifCond .ne 8, 3) := dc_154 (a := 0) (b := 8) (by decide +kernel) (by decide)
theorem dX12_place_24 : decode cX12_place 24 = .ok (.iload 5, 2) := dc_21 (a := 5) (by decide +kernel)
theorem dX12_place_26 : decode cX12_place 26 = .ok (.goto 7, 3) := dc_167 (a := 0) (b := 7) (by decide +kernel) (by decide)
theorem dX12_place_29 : decode cX12_place 29 = .ok (.iconst 1, 1) := dc_4 (by decide +kernel)
theorem dX12_place_30 : decode cX12_place 30 = .ok (.iload 5, 2) := dc_21 (a := 5) (by decide +kernel)
theorem dX12_place_32 : decode cX12_place 32 = .ok (.isub, 1) := dc_100 (by decide +kernel)
theorem dX12_place_33 : decode cX12_place 33 = .ok (.iastore, 1) := dc_79 (by decide +kernel)
theorem dX12_place_34 : decode cX12_place 34 = .ok (.return_, 1) := dc_177 (by decide +kernel)
set_option maxRecDepth 100000 in
set_option maxHeartbeats 4000000 in
theorem m_M_place (a1 : Int32) (a2 : Int32) (a3 : Int32) (a4 : Int32) (a5 : Int32) (S S' : SS) (h : f_M_place a1 a2 a3 a4 a5 S = some S') : MT yX12_place cX12_place 6 none 0 0 (fun ad => [.ref (ad 0), .int a1, .int a2, .int a3, .int a4, .int a5]) S none S' := by
  refine MT.of RX12 (fun ad => [(0, .ref (ad 0)), (1, .int a1), (2, .int a2), (3, .int a3), (4, .int a4), (5, .int a5)]) (by decide) rfl (fun _ => Nat.le_of_ble_eq_true rfl) (fun _ => rfl) ?_
  intro p l e R s m args below meth c dC dI cs ad A hR1 hR2 F H locs ls w hl
  have hx := F.1.1
  have hb := F.1.2.1
  rw [f_M_place] at h
  refine lv_aload_n (pc := 0) hx hb dX12_place_0 rfl (lv_at hl 0 rfl) ?_
  refine s_getR (pc := 1) F w 20 ds_0 (j := 32) vc_X12 vi_X12 rfl (by decide) kf_X12_75 dX12_place_1 ?_
  refine lv_iload_n (pc := 4) hx hb dX12_place_4 rfl (lv_at hl 1 rfl) ?_
  refine lv_iload_n (pc := 5) hx hb dX12_place_5 rfl (lv_at hl 2 rfl) ?_
  refine s_iast (pc := 6) F w ds_20 h dX12_place_6 (fun S1 H locs h w => ?_)
  refine lv_aload_n (pc := 7) hx hb dX12_place_7 rfl (lv_at hl 0 rfl) ?_
  refine s_getR (pc := 8) F w 21 ds_0 (j := 33) vc_X12 vi_X12 rfl (by decide) kf_X12_78 dX12_place_8 ?_
  refine lv_iload_n (pc := 11) hx hb dX12_place_11 rfl (lv_at hl 1 rfl) ?_
  refine lv_iload_n (pc := 12) hx hb dX12_place_12 rfl (lv_at hl 3 rfl) ?_
  refine s_iast (pc := 13) F w ds_21 h dX12_place_13 (fun S2 H locs h w => ?_)
  refine lv_aload_n (pc := 14) hx hb dX12_place_14 rfl (lv_at hl 0 rfl) ?_
  refine s_getR (pc := 15) F w 22 ds_0 (j := 34) vc_X12 vi_X12 rfl (by decide) kf_X12_81 dX12_place_15 ?_
  refine lv_iload_n (pc := 18) hx hb dX12_place_18 rfl (lv_at hl 1 rfl) ?_
  refine lv_iload (pc := 19) hx hb dX12_place_19 (lv_at hl 4 rfl) ?_
  refine lv_if_ne (pc := 21) (tgt := 29) hx hb dX12_place_21 (by decide) (fun q => ?_) (fun q => ?_)
  · have h := ite_f q h
    refine lv_iconst (pc := 29) (v := 1) hx hb dX12_place_29 (by decide) ?_
    refine lv_iload (pc := 30) hx hb dX12_place_30 (lv_at hl 5 rfl) ?_
    refine lv_isub (pc := 32) hx hb dX12_place_32 ?_
    refine s_iast (pc := 33) F w ds_22 h dX12_place_33 (fun S3 H locs h w => ?_)
    exact s_vret F w h dX12_place_34
  · have h := ite_t q h
    refine lv_iload (pc := 24) hx hb dX12_place_24 (lv_at hl 5 rfl) ?_
    refine lv_goto (pc := 26) (tgt := 33) hx hb dX12_place_26 (by decide) ?_
    refine s_iast (pc := 33) F w ds_22 h dX12_place_33 (fun S4 H locs h w => ?_)
    exact s_vret F w h dX12_place_34
