/-! ===== printed by wip/gen: X2_mayJoin X11_link X12_mostLinks X12_link X2_setExit X11_exit X12_exit X2_placesOf X2_placeFinding X2_spot X10_nextSerial J7_rangeCheck_23922 J7_fill_fda19_State_cells X8_set X8_addThing ===== -/
def f_X2_mayJoin (a1 : Int32) (a2 : Int32) (S : SS) : Option (Int32 × SS) :=
  if a1 = a2 then
    some ((0 : Int32), S)
  else
    bnd (f_X2_areJoined a1 a2 S) (fun r2 S1 =>
    if r2 = 0 then
      bnd (f_X2_mayGetLink a1 S1) (fun r4 S3 =>
      if r4 = 0 then
        some ((0 : Int32), S3)
      else
        bnd (f_X2_mayGetLink a2 S3) (fun r6 S5 =>
        if r6 = 0 then
          some ((0 : Int32), S5)
        else
          some ((1 : Int32), S5)))
    else
      some ((0 : Int32), S1))
theorem dX2_mayJoin_0 : decode cX2_mayJoin 0 = .ok (.iload_n 1, 1) := by decide +kernel
theorem dX2_mayJoin_1 : decode cX2_mayJoin 1 = .ok (.iload_n 2, 1) := by decide +kernel
theorem dX2_mayJoin_2 : decode cX2_mayJoin 2 = .ok (.if_icmp .eq 32, 3) := by decide +kernel
theorem dX2_mayJoin_5 : decode cX2_mayJoin 5 = .ok (.aload_n 0, 1) := by decide +kernel
theorem dX2_mayJoin_6 : decode cX2_mayJoin 6 = .ok (.iload_n 1, 1) := by decide +kernel
theorem dX2_mayJoin_7 : decode cX2_mayJoin 7 = .ok (.iload_n 2, 1) := by decide +kernel
theorem dX2_mayJoin_8 : decode cX2_mayJoin 8 = .ok (.invokevirtual 65, 3) := by decide +kernel
theorem dX2_mayJoin_11 : decode cX2_mayJoin 11 = .ok (.ifCond .ne 23, 3) := by decide +kernel
theorem dX2_mayJoin_14 : decode cX2_mayJoin 14 = .ok (.aload_n 0, 1) := by decide +kernel
theorem dX2_mayJoin_15 : decode cX2_mayJoin 15 = .ok (.iload_n 1, 1) := by decide +kernel
theorem dX2_mayJoin_16 : decode cX2_mayJoin 16 = .ok (.invokevirtual 69, 3) := by decide +kernel
theorem dX2_mayJoin_19 : decode cX2_mayJoin 19 = .ok (.ifCond .eq 15, 3) := by decide +kernel
theorem dX2_mayJoin_22 : decode cX2_mayJoin 22 = .ok (.aload_n 0, 1) := by decide +kernel
theorem dX2_mayJoin_23 : decode cX2_mayJoin 23 = .ok (.iload_n 2, 1) := by decide +kernel
theorem dX2_mayJoin_24 : decode cX2_mayJoin 24 = .ok (.invokevirtual 69, 3) := by decide +kernel
theorem dX2_mayJoin_27 : decode cX2_mayJoin 27 = .ok (.ifCond .eq 7, 3) := by decide +kernel
theorem dX2_mayJoin_30 : decode cX2_mayJoin 30 = .ok (.iconst 1, 1) := by decide +kernel
theorem dX2_mayJoin_31 : decode cX2_mayJoin 31 = .ok (.goto 4, 3) := by decide +kernel
theorem dX2_mayJoin_34 : decode cX2_mayJoin 34 = .ok (.iconst 0, 1) := by decide +kernel
theorem dX2_mayJoin_35 : decode cX2_mayJoin 35 = .ok (.ireturn, 1) := by decide +kernel
set_option maxRecDepth 100000 in
set_option maxHeartbeats 4000000 in
theorem m_X2_mayJoin (a1 : Int32) (a2 : Int32) (S S' : SS) (r : Int32) (h : f_X2_mayJoin a1 a2 S = some (r, S')) : MT yX2_mayJoin cX2_mayJoin 3 (some .boolean) 2 44 (fun ad => [.ref (ad 5), .int a1, .int a2]) S (some (.int r)) S' := by
  refine MT.of RX2 (fun ad => [(0, .ref (ad 5)), (1, .int a1), (2, .int a2)]) (by decide) rfl (fun _ => Nat.le_of_ble_eq_true rfl) (fun _ => rfl) ?_
  intro p l e R s m args below meth c dC dI cs ad A hR1 hR2 F H locs ls w hl
  have hx := F.1.1
  have hb := F.1.2.1
  rw [f_X2_mayJoin] at h
  refine lv_iload_n (pc := 0) hx hb dX2_mayJoin_0 rfl (lv_at hl 1 rfl) ?_
  refine lv_iload_n (pc := 1) hx hb dX2_mayJoin_1 rfl (lv_at hl 2 rfl) ?_
  refine lv_icmp_eq (pc := 2) (tgt := 34) hx hb dX2_mayJoin_2 (by decide) (fun q => ?_) (fun q => ?_)
  · have h := ite_t q h
    refine lv_iconst (pc := 34) (v := 0) hx hb dX2_mayJoin_34 (by decide) ?_
    exact s_zretc F w rfl h dX2_mayJoin_35
  · have h := ite_f q h
    refine lv_aload_n (pc := 5) hx hb dX2_mayJoin_5 rfl (lv_at hl 0 rfl) ?_
    refine lv_iload_n (pc := 6) hx hb dX2_mayJoin_6 rfl (lv_at hl 1 rfl) ?_
    refine lv_iload_n (pc := 7) hx hb dX2_mayJoin_7 rfl (lv_at hl 2 rfl) ?_
    obtain ⟨r2, S1, hc, h⟩ := bnd_t h
    refine s_cvi (pc := 8) [.int a1, .int a2] (fun ad => [.ref (ad 5), .int a1, .int a2]) F w (m_X2_areJoined _ _ _ _ _ hc) rfl rfl hl.1 ds_5 vc_X2 rfl ok_X2_areJoined rfl kc_X2_areJoined kl_X2_65 ki_X2_areJoined kv_X2_areJoined kn_X2 ⟨Nat.le_trans (by decide) hR1, Nat.le_trans (by decide) hR2⟩ ⟨Nat.zero_le _, Nat.zero_le _⟩ (Nat.le_of_ble_eq_true rfl) dX2_mayJoin_8 (fun H locs w => ?_)
    refine lv_if_ne (pc := 11) (tgt := 34) hx hb dX2_mayJoin_11 (by decide) (fun q => ?_) (fun q => ?_)
    · have h := ite_f q h
      refine lv_iconst (pc := 34) (v := 0) hx hb dX2_mayJoin_34 (by decide) ?_
      exact s_zretc F w rfl h dX2_mayJoin_35
    · have h := ite_t q h
      refine lv_aload_n (pc := 14) hx hb dX2_mayJoin_14 rfl (lv_at hl 0 rfl) ?_
      refine lv_iload_n (pc := 15) hx hb dX2_mayJoin_15 rfl (lv_at hl 1 rfl) ?_
      obtain ⟨r4, S3, hc, h⟩ := bnd_t h
      refine s_cvi (pc := 16) [.int a1] (fun ad => [.ref (ad 5), .int a1]) F w (m_X2_mayGetLink _ _ _ _ hc) rfl rfl hl.1 ds_5 vc_X2 rfl ok_X2_mayGetLink rfl kc_X2_mayGetLink kl_X2_69 ki_X2_mayGetLink kv_X2_mayGetLink kn_X2 ⟨Nat.le_trans (by decide) hR1, Nat.le_trans (by decide) hR2⟩ ⟨Nat.zero_le _, Nat.zero_le _⟩ (Nat.le_of_ble_eq_true rfl) dX2_mayJoin_16 (fun H locs w => ?_)
      refine lv_if_eq (pc := 19) (tgt := 34) hx hb dX2_mayJoin_19 (by decide) (fun q => ?_) (fun q => ?_)
      · have h := ite_t q h
        refine lv_iconst (pc := 34) (v := 0) hx hb dX2_mayJoin_34 (by decide) ?_
        exact s_zretc F w rfl h dX2_mayJoin_35
      · have h := ite_f q h
        refine lv_aload_n (pc := 22) hx hb dX2_mayJoin_22 rfl (lv_at hl 0 rfl) ?_
        refine lv_iload_n (pc := 23) hx hb dX2_mayJoin_23 rfl (lv_at hl 2 rfl) ?_
        obtain ⟨r6, S5, hc, h⟩ := bnd_t h
        refine s_cvi (pc := 24) [.int a2] (fun ad => [.ref (ad 5), .int a2]) F w (m_X2_mayGetLink _ _ _ _ hc) rfl rfl hl.1 ds_5 vc_X2 rfl ok_X2_mayGetLink rfl kc_X2_mayGetLink kl_X2_69 ki_X2_mayGetLink kv_X2_mayGetLink kn_X2 ⟨Nat.le_trans (by decide) hR1, Nat.le_trans (by decide) hR2⟩ ⟨Nat.zero_le _, Nat.zero_le _⟩ (Nat.le_of_ble_eq_true rfl) dX2_mayJoin_24 (fun H locs w => ?_)
        refine lv_if_eq (pc := 27) (tgt := 34) hx hb dX2_mayJoin_27 (by decide) (fun q => ?_) (fun q => ?_)
        · have h := ite_t q h
          refine lv_iconst (pc := 34) (v := 0) hx hb dX2_mayJoin_34 (by decide) ?_
          exact s_zretc F w rfl h dX2_mayJoin_35
        · have h := ite_f q h
          refine lv_iconst (pc := 30) (v := 1) hx hb dX2_mayJoin_30 (by decide) ?_
          refine lv_goto (pc := 31) (tgt := 35) hx hb dX2_mayJoin_31 (by decide) ?_
          exact s_zretc F w rfl h dX2_mayJoin_35
def f_X11_link_j83  (x1 : Int32) (x2 : Int32) (x3 : Int32) (x4 : Int32) (x5 : Int32) (S : SS) : Option (Int32 × SS) :=
    if x5 = 0 then
      bndv (f_X1_forget  S) (fun S8 =>
      bndv (f_X2_join (((2 : Int32) * x1) + x2) (((2 : Int32) * x3) + x4) S8) (fun S9 =>
      some ((1 : Int32), S9)))
    else
      bnd (f_X5_found x5 S) (fun r11 S10 =>
      some (r11, S10))
def f_X11_link_j53  (x1 : Int32) (x2 : Int32) (x3 : Int32) (x4 : Int32) (x5 : Int32) (S : SS) : Option (Int32 × SS) :=
    if x5 = 0 then
      bnd (f_X2_mayJoin (((2 : Int32) * x1) + x2) (((2 : Int32) * x3) + x4) S) (fun r13 S12 =>
      if r13 = 0 then
        f_X11_link_j83 x1 x2 x3 x4 (9 : Int32) S12
      else
        f_X11_link_j83 x1 x2 x3 x4 x5 S12)
    else
      f_X11_link_j83 x1 x2 x3 x4 x5 S
def f_X11_link (a1 : Int32) (a2 : Int32) (a3 : Int32) (a4 : Int32) (S : SS) : Option (Int32 × SS) :=
  bnd (f_X11_isNot a2 (0 : Int32) (1 : Int32) S) (fun r2 S1 =>
  if r2 = 0 then
    bnd (f_X11_isNot a4 (0 : Int32) (1 : Int32) S1) (fun r4 S3 =>
    if r4 = 0 then
      bndv (f_X5_begin  S3) (fun S5 =>
      bnd (f_X2_trackFinding a1 S5) (fun r7 S6 =>
      if r7 = 0 then
        bnd (f_X2_trackFinding a3 S6) (fun r15 S14 =>
        f_X11_link_j53 a1 a2 a3 a4 r15 S14)
      else
        f_X11_link_j53 a1 a2 a3 a4 r7 S6))
    else
      some ((-1 : Int32), S3))
  else
    some ((-1 : Int32), S1))
theorem dX11_link_0 : decode cX11_link 0 = .ok (.iload_n 2, 1) := by decide +kernel
theorem dX11_link_1 : decode cX11_link 1 = .ok (.iconst 0, 1) := by decide +kernel
theorem dX11_link_2 : decode cX11_link 2 = .ok (.iconst 1, 1) := by decide +kernel
theorem dX11_link_3 : decode cX11_link 3 = .ok (.invokestatic 108, 3) := by decide +kernel
theorem dX11_link_6 : decode cX11_link 6 = .ok (.ifCond .ne 13, 3) := by decide +kernel
theorem dX11_link_9 : decode cX11_link 9 = .ok (.iload 4, 2) := by decide +kernel
theorem dX11_link_11 : decode cX11_link 11 = .ok (.iconst 0, 1) := by decide +kernel
theorem dX11_link_12 : decode cX11_link 12 = .ok (.iconst 1, 1) := by decide +kernel
theorem dX11_link_13 : decode cX11_link 13 = .ok (.invokestatic 108, 3) := by decide +kernel
theorem dX11_link_16 : decode cX11_link 16 = .ok (.ifCond .eq 5, 3) := by decide +kernel
theorem dX11_link_19 : decode cX11_link 19 = .ok (.iconst (-1), 1) := by decide +kernel
theorem dX11_link_20 : decode cX11_link 20 = .ok (.ireturn, 1) := by decide +kernel
theorem dX11_link_21 : decode cX11_link 21 = .ok (.aload_n 0, 1) := by decide +kernel
theorem dX11_link_22 : decode cX11_link 22 = .ok (.getfield 10, 3) := by decide +kernel
theorem dX11_link_25 : decode cX11_link 25 = .ok (.invokevirtual 95, 3) := by decide +kernel
theorem dX11_link_28 : decode cX11_link 28 = .ok (.aload_n 0, 1) := by decide +kernel
theorem dX11_link_29 : decode cX11_link 29 = .ok (.getfield 42, 3) := by decide +kernel
theorem dX11_link_32 : decode cX11_link 32 = .ok (.iload_n 1, 1) := by decide +kernel
theorem dX11_link_33 : decode cX11_link 33 = .ok (.invokevirtual 115, 3) := by decide +kernel
theorem dX11_link_36 : decode cX11_link 36 = .ok (.istore 5, 2) := by decide +kernel
theorem dX11_link_38 : decode cX11_link 38 = .ok (.iload 5, 2) := by decide +kernel
theorem dX11_link_40 : decode cX11_link 40 = .ok (.ifCond .ne 13, 3) := by decide +kernel
theorem dX11_link_43 : decode cX11_link 43 = .ok (.aload_n 0, 1) := by decide +kernel
theorem dX11_link_44 : decode cX11_link 44 = .ok (.getfield 42, 3) := by decide +kernel
theorem dX11_link_47 : decode cX11_link 47 = .ok (.iload_n 3, 1) := by decide +kernel
theorem dX11_link_48 : decode cX11_link 48 = .ok (.invokevirtual 115, 3) := by decide +kernel
theorem dX11_link_51 : decode cX11_link 51 = .ok (.istore 5, 2) := by decide +kernel
theorem dX11_link_53 : decode cX11_link 53 = .ok (.iload 5, 2) := by decide +kernel
theorem dX11_link_55 : decode cX11_link 55 = .ok (.ifCond .ne 28, 3) := by decide +kernel
theorem dX11_link_58 : decode cX11_link 58 = .ok (.aload_n 0, 1) := by decide +kernel
theorem dX11_link_59 : decode cX11_link 59 = .ok (.getfield 42, 3) := by decide +kernel
theorem dX11_link_62 : decode cX11_link 62 = .ok (.iconst 2, 1) := by decide +kernel
theorem dX11_link_63 : decode cX11_link 63 = .ok (.iload_n 1, 1) := by decide +kernel
theorem dX11_link_64 : decode cX11_link 64 = .ok (.imul, 1) := by decide +kernel
theorem dX11_link_65 : decode cX11_link 65 = .ok (.iload_n 2, 1) := by decide +kernel
theorem dX11_link_66 : decode cX11_link 66 = .ok (.iadd, 1) := by decide +kernel
theorem dX11_link_67 : decode cX11_link 67 = .ok (.iconst 2, 1) := by decide +kernel
theorem dX11_link_68 : decode cX11_link 68 = .ok (.iload_n 3, 1) := by decide +kernel
theorem dX11_link_69 : decode cX11_link 69 = .ok (.imul, 1) := by decide +kernel
theorem dX11_link_70 : decode cX11_link 70 = .ok (.iload 4, 2) := by decide +kernel
theorem dX11_link_72 : decode cX11_link 72 = .ok (.iadd, 1) := by decide +kernel
theorem dX11_link_73 : decode cX11_link 73 = .ok (.invokevirtual 124, 3) := by decide +kernel
theorem dX11_link_76 : decode cX11_link 76 = .ok (.ifCond .ne 7, 3) := by decide +kernel
theorem dX11_link_79 : decode cX11_link 79 = .ok (.bipush 9, 2) := by decide +kernel
theorem dX11_link_81 : decode cX11_link 81 = .ok (.istore 5, 2) := by decide +kernel
theorem dX11_link_83 : decode cX11_link 83 = .ok (.iload 5, 2) := by decide +kernel
theorem dX11_link_85 : decode cX11_link 85 = .ok (.ifCond .eq 13, 3) := by decide +kernel
theorem dX11_link_88 : decode cX11_link 88 = .ok (.aload_n 0, 1) := by decide +kernel
theorem dX11_link_89 : decode cX11_link 89 = .ok (.getfield 10, 3) := by decide +kernel
theorem dX11_link_92 : decode cX11_link 92 = .ok (.iload 5, 2) := by decide +kernel
theorem dX11_link_94 : decode cX11_link 94 = .ok (.invokevirtual 98, 3) := by decide +kernel
theorem dX11_link_97 : decode cX11_link 97 = .ok (.ireturn, 1) := by decide +kernel
theorem dX11_link_98 : decode cX11_link 98 = .ok (.aload_n 0, 1) := by decide +kernel
theorem dX11_link_99 : decode cX11_link 99 = .ok (.getfield 26, 3) := by decide +kernel
theorem dX11_link_102 : decode cX11_link 102 = .ok (.invokevirtual 102, 3) := by decide +kernel
theorem dX11_link_105 : decode cX11_link 105 = .ok (.aload_n 0, 1) := by decide +kernel
theorem dX11_link_106 : decode cX11_link 106 = .ok (.getfield 42, 3) := by decide +kernel
theorem dX11_link_109 : decode cX11_link 109 = .ok (.iconst 2, 1) := by decide +kernel
theorem dX11_link_110 : decode cX11_link 110 = .ok (.iload_n 1, 1) := by decide +kernel
theorem dX11_link_111 : decode cX11_link 111 = .ok (.imul, 1) := by decide +kernel
theorem dX11_link_112 : decode cX11_link 112 = .ok (.iload_n 2, 1) := by decide +kernel
theorem dX11_link_113 : decode cX11_link 113 = .ok (.iadd, 1) := by decide +kernel
theorem dX11_link_114 : decode cX11_link 114 = .ok (.iconst 2, 1) := by decide +kernel
theorem dX11_link_115 : decode cX11_link 115 = .ok (.iload_n 3, 1) := by decide +kernel
theorem dX11_link_116 : decode cX11_link 116 = .ok (.imul, 1) := by decide +kernel
theorem dX11_link_117 : decode cX11_link 117 = .ok (.iload 4, 2) := by decide +kernel
theorem dX11_link_119 : decode cX11_link 119 = .ok (.iadd, 1) := by decide +kernel
theorem dX11_link_120 : decode cX11_link 120 = .ok (.invokevirtual 128, 3) := by decide +kernel
theorem dX11_link_123 : decode cX11_link 123 = .ok (.iconst 1, 1) := by decide +kernel
theorem dX11_link_124 : decode cX11_link 124 = .ok (.ireturn, 1) := by decide +kernel
set_option maxRecDepth 100000 in
set_option maxHeartbeats 4000000 in
theorem w_X11_link_j83 {p : Program} {l : Launch} {e : Env} {R : Room} {s : State} {m : MethodId} {args : Array Value} {below : List Frame} {meth : Method} {c : Code} {dC : Nat → ClassId} {dI : Nat → Nat → Nat} {cs : Nat → ClassId} {ad : Nat → Nat} {A : Nat → Prop} {D0 : Nat → Nat} {S' : SS} {r : Int32} (F : Fx p s m args meth c cX11_link 6 RX11 (some .int) dC dI cs A) (hR1 : 3 ≤ R.frames) (hR2 : 64 ≤ R.locals) (x1 : Int32) (x2 : Int32) (x3 : Int32) (x4 : Int32) (x5 : Int32) (S : SS) (h : f_X11_link_j83 x1 x2 x3 x4 x5 S = some (r, S')) : AW p l e R s m args below meth c dC dI cs ad A D0 (some (.int r)) S' 6 83 [(0, .ref (ad 0)), (1, .int x1), (2, .int x2), (3, .int x3), (4, .int x4), (5, .int x5)] [] S := by
  have hx := F.1.1
  have hb := F.1.2.1
  intro H locs ls w hl
  rw [f_X11_link_j83] at h
  refine lv_iload (pc := 83) hx hb dX11_link_83 (lv_at hl 5 rfl) ?_
  refine lv_if_eq (pc := 85) (tgt := 98) hx hb dX11_link_85 (by decide) (fun q => ?_) (fun q => ?_)
  · have h := ite_t q h
    refine lv_aload_n (pc := 98) hx hb dX11_link_98 rfl (lv_at hl 0 rfl) ?_
    refine s_getR (pc := 99) F w 3 ds_0 (j := 2) vc_X11 vi_X11 rfl (by decide) kf_X11_26 dX11_link_99 ?_
    obtain ⟨S8, hc, h⟩ := bndv_t h
    refine s_cvv (pc := 102) [] (fun ad => [.ref (ad 3)]) F w (m_X1_forget  _ _ hc) rfl rfl hl.1 ds_3 vc_X1 rfl ok_X1_forget rfl kc_X1_forget kl_X11_102 ki_X1_forget kv_X1_forget kn_X1 ⟨Nat.le_trans (by decide) hR1, Nat.le_trans (by decide) hR2⟩ ⟨Nat.zero_le _, Nat.zero_le _⟩ (Nat.le_of_ble_eq_true rfl) dX11_link_102 (fun H locs w => ?_)
    refine lv_aload_n (pc := 105) hx hb dX11_link_105 rfl (lv_at hl 0 rfl) ?_
    refine s_getR (pc := 106) F w 5 ds_0 (j := 4) vc_X11 vi_X11 rfl (by decide) kf_X11_42 dX11_link_106 ?_
    refine lv_iconst (pc := 109) (v := 2) hx hb dX11_link_109 (by decide) ?_
    refine lv_iload_n (pc := 110) hx hb dX11_link_110 rfl (lv_at hl 1 rfl) ?_
    refine lv_imul (pc := 111) hx hb dX11_link_111 ?_
    refine lv_iload_n (pc := 112) hx hb dX11_link_112 rfl (lv_at hl 2 rfl) ?_
    refine lv_iadd (pc := 113) hx hb dX11_link_113 ?_
    refine lv_iconst (pc := 114) (v := 2) hx hb dX11_link_114 (by decide) ?_
    refine lv_iload_n (pc := 115) hx hb dX11_link_115 rfl (lv_at hl 3 rfl) ?_
    refine lv_imul (pc := 116) hx hb dX11_link_116 ?_
    refine lv_iload (pc := 117) hx hb dX11_link_117 (lv_at hl 4 rfl) ?_
    refine lv_iadd (pc := 119) hx hb dX11_link_119 ?_
    obtain ⟨S9, hc, h⟩ := bndv_t h
    refine s_cvv (pc := 120) [.int (((2 : Int32) * x1) + x2), .int (((2 : Int32) * x3) + x4)] (fun ad => [.ref (ad 5), .int (((2 : Int32) * x1) + x2), .int (((2 : Int32) * x3) + x4)]) F w (m_X2_join _ _ _ _ hc) rfl rfl hl.1 ds_5 vc_X2 rfl ok_X2_join rfl kc_X2_join kl_X11_128 ki_X2_join kv_X2_join kn_X2 ⟨Nat.le_trans (by decide) hR1, Nat.le_trans (by decide) hR2⟩ ⟨Nat.zero_le _, Nat.zero_le _⟩ (Nat.le_of_ble_eq_true rfl) dX11_link_120 (fun H locs w => ?_)
    refine lv_iconst (pc := 123) (v := 1) hx hb dX11_link_123 (by decide) ?_
    exact s_iret F w h dX11_link_124
  · have h := ite_f q h
    refine lv_aload_n (pc := 88) hx hb dX11_link_88 rfl (lv_at hl 0 rfl) ?_
    refine s_getR (pc := 89) F w 1 ds_0 (j := 0) vc_X11 vi_X11 rfl (by decide) kf_X11_10 dX11_link_89 ?_
    refine lv_iload (pc := 92) hx hb dX11_link_92 (lv_at hl 5 rfl) ?_
    obtain ⟨r11, S10, hc, h⟩ := bnd_t h
    refine s_cvi (pc := 94) [.int x5] (fun ad => [.ref (ad 1), .int x5]) F w (m_X5_found _ _ _ _ hc) rfl rfl hl.1 ds_1 vc_X5 rfl ok_X5_found rfl kc_X5_found kl_X11_98 ki_X5_found kv_X5_found kn_X5 ⟨Nat.le_trans (by decide) hR1, Nat.le_trans (by decide) hR2⟩ ⟨Nat.zero_le _, Nat.zero_le _⟩ (Nat.le_of_ble_eq_true rfl) dX11_link_94 (fun H locs w => ?_)
    exact s_iret F w h dX11_link_97
set_option maxRecDepth 100000 in
set_option maxHeartbeats 4000000 in
theorem w_X11_link_j53 {p : Program} {l : Launch} {e : Env} {R : Room} {s : State} {m : MethodId} {args : Array Value} {below : List Frame} {meth : Method} {c : Code} {dC : Nat → ClassId} {dI : Nat → Nat → Nat} {cs : Nat → ClassId} {ad : Nat → Nat} {A : Nat → Prop} {D0 : Nat → Nat} {S' : SS} {r : Int32} (F : Fx p s m args meth c cX11_link 6 RX11 (some .int) dC dI cs A) (hR1 : 3 ≤ R.frames) (hR2 : 66 ≤ R.locals) (x1 : Int32) (x2 : Int32) (x3 : Int32) (x4 : Int32) (x5 : Int32) (S : SS) (h : f_X11_link_j53 x1 x2 x3 x4 x5 S = some (r, S')) : AW p l e R s m args below meth c dC dI cs ad A D0 (some (.int r)) S' 6 53 [(0, .ref (ad 0)), (1, .int x1), (2, .int x2), (3, .int x3), (4, .int x4), (5, .int x5)] [] S := by
  have hx := F.1.1
  have hb := F.1.2.1
  intro H locs ls w hl
  rw [f_X11_link_j53] at h
  refine lv_iload (pc := 53) hx hb dX11_link_53 (lv_at hl 5 rfl) ?_
  refine lv_if_ne (pc := 55) (tgt := 83) hx hb dX11_link_55 (by decide) (fun q => ?_) (fun q => ?_)
  · have h := ite_f q h
    exact w_X11_link_j83 F (Nat.le_trans (by decide) hR1) (Nat.le_trans (by decide) hR2) _ _ _ _ _ _ h _ _ _ w (lv_sub hl [0, 1, 2, 3, 4, 5] rfl)
  · have h := ite_t q h
    refine lv_aload_n (pc := 58) hx hb dX11_link_58 rfl (lv_at hl 0 rfl) ?_
    refine s_getR (pc := 59) F w 5 ds_0 (j := 4) vc_X11 vi_X11 rfl (by decide) kf_X11_42 dX11_link_59 ?_
    refine lv_iconst (pc := 62) (v := 2) hx hb dX11_link_62 (by decide) ?_
    refine lv_iload_n (pc := 63) hx hb dX11_link_63 rfl (lv_at hl 1 rfl) ?_
    refine lv_imul (pc := 64) hx hb dX11_link_64 ?_
    refine lv_iload_n (pc := 65) hx hb dX11_link_65 rfl (lv_at hl 2 rfl) ?_
    refine lv_iadd (pc := 66) hx hb dX11_link_66 ?_
    refine lv_iconst (pc := 67) (v := 2) hx hb dX11_link_67 (by decide) ?_
    refine lv_iload_n (pc := 68) hx hb dX11_link_68 rfl (lv_at hl 3 rfl) ?_
    refine lv_imul (pc := 69) hx hb dX11_link_69 ?_
    refine lv_iload (pc := 70) hx hb dX11_link_70 (lv_at hl 4 rfl) ?_
    refine lv_iadd (pc := 72) hx hb dX11_link_72 ?_
    obtain ⟨r13, S12, hc, h⟩ := bnd_t h
    refine s_cvi (pc := 73) [.int (((2 : Int32) * x1) + x2), .int (((2 : Int32) * x3) + x4)] (fun ad => [.ref (ad 5), .int (((2 : Int32) * x1) + x2), .int (((2 : Int32) * x3) + x4)]) F w (m_X2_mayJoin _ _ _ _ _ hc) rfl rfl hl.1 ds_5 vc_X2 rfl ok_X2_mayJoin rfl kc_X2_mayJoin kl_X11_124 ki_X2_mayJoin kv_X2_mayJoin kn_X2 ⟨Nat.le_trans (by decide) hR1, Nat.le_trans (by decide) hR2⟩ ⟨Nat.zero_le _, Nat.zero_le _⟩ (Nat.le_of_ble_eq_true rfl) dX11_link_73 (fun H locs w => ?_)
    refine lv_if_ne (pc := 76) (tgt := 83) hx hb dX11_link_76 (by decide) (fun q => ?_) (fun q => ?_)
    · have h := ite_f q h
      exact w_X11_link_j83 F (Nat.le_trans (by decide) hR1) (Nat.le_trans (by decide) hR2) _ _ _ _ _ _ h _ _ _ w (lv_sub hl [0, 1, 2, 3, 4, 5] rfl)
    · have h := ite_t q h
      refine lv_bipush (pc := 79) (v := 9) hx hb dX11_link_79 (by decide) ?_
      refine lv_istore (pc := 81) (lv' := [(5, .int (9 : Int32)), (0, .ref (ad 0)), (1, .int x1), (2, .int x2), (3, .int x3), (4, .int x4)]) hx hb dX11_link_81 hl (by decide) rfl (fun ls hl => ?_)
      exact w_X11_link_j83 F (Nat.le_trans (by decide) hR1) (Nat.le_trans (by decide) hR2) _ _ _ _ _ _ h _ _ _ w (lv_sub hl [1, 2, 3, 4, 5, 0] rfl)
set_option maxRecDepth 100000 in
set_option maxHeartbeats 4000000 in
theorem m_X11_link (a1 : Int32) (a2 : Int32) (a3 : Int32) (a4 : Int32) (S S' : SS) (r : Int32) (h : f_X11_link a1 a2 a3 a4 S = some (r, S')) : MT yX11_link cX11_link 6 (some .int) 3 66 (fun ad => [.ref (ad 0), .int a1, .int a2, .int a3, .int a4]) S (some (.int r)) S' := by
  refine MT.of RX11 (fun ad => [(0, .ref (ad 0)), (1, .int a1), (2, .int a2), (3, .int a3), (4, .int a4)]) (by decide) rfl (fun _ => Nat.le_of_ble_eq_true rfl) (fun _ => rfl) ?_
  intro p l e R s m args below meth c dC dI cs ad A hR1 hR2 F H locs ls w hl
  have hx := F.1.1
  have hb := F.1.2.1
  rw [f_X11_link] at h
  refine lv_iload_n (pc := 0) hx hb dX11_link_0 rfl (lv_at hl 2 rfl) ?_
  refine lv_iconst (pc := 1) (v := 0) hx hb dX11_link_1 (by decide) ?_
  refine lv_iconst (pc := 2) (v := 1) hx hb dX11_link_2 (by decide) ?_
  obtain ⟨r2, S1, hc, h⟩ := bnd_t h
  refine s_csi (pc := 3) [.int a2, .int (0 : Int32), .int (1 : Int32)] (fun ad => [.int a2, .int (0 : Int32), .int (1 : Int32)]) F w (m_X11_isNot _ _ _ _ _ _ hc) rfl rfl hl.1 ok_X11_isNot rfl kc_X11_isNot kl_X11_108 ks_X11_isNot kn_X11 ⟨Nat.le_trans (by decide) hR1, Nat.le_trans (by decide) hR2⟩ ⟨Nat.zero_le _, Nat.zero_le _⟩ (Nat.le_of_ble_eq_true rfl) dX11_link_3 (fun H locs w => ?_)
  refine lv_if_ne (pc := 6) (tgt := 19) hx hb dX11_link_6 (by decide) (fun q => ?_) (fun q => ?_)
  · have h := ite_f q h
    refine lv_iconst (pc := 19) (v := -1) hx hb dX11_link_19 (by decide) ?_
    exact s_iret F w h dX11_link_20
  · have h := ite_t q h
    refine lv_iload (pc := 9) hx hb dX11_link_9 (lv_at hl 4 rfl) ?_
    refine lv_iconst (pc := 11) (v := 0) hx hb dX11_link_11 (by decide) ?_
    refine lv_iconst (pc := 12) (v := 1) hx hb dX11_link_12 (by decide) ?_
    obtain ⟨r4, S3, hc, h⟩ := bnd_t h
    refine s_csi (pc := 13) [.int a4, .int (0 : Int32), .int (1 : Int32)] (fun ad => [.int a4, .int (0 : Int32), .int (1 : Int32)]) F w (m_X11_isNot _ _ _ _ _ _ hc) rfl rfl hl.1 ok_X11_isNot rfl kc_X11_isNot kl_X11_108 ks_X11_isNot kn_X11 ⟨Nat.le_trans (by decide) hR1, Nat.le_trans (by decide) hR2⟩ ⟨Nat.zero_le _, Nat.zero_le _⟩ (Nat.le_of_ble_eq_true rfl) dX11_link_13 (fun H locs w => ?_)
    refine lv_if_eq (pc := 16) (tgt := 21) hx hb dX11_link_16 (by decide) (fun q => ?_) (fun q => ?_)
    · have h := ite_t q h
      refine lv_aload_n (pc := 21) hx hb dX11_link_21 rfl (lv_at hl 0 rfl) ?_
      refine s_getR (pc := 22) F w 1 ds_0 (j := 0) vc_X11 vi_X11 rfl (by decide) kf_X11_10 dX11_link_22 ?_
      obtain ⟨S5, hc, h⟩ := bndv_t h
      refine s_cvv (pc := 25) [] (fun ad => [.ref (ad 1)]) F w (m_X5_begin  _ _ hc) rfl rfl hl.1 ds_1 vc_X5 rfl ok_X5_begin rfl kc_X5_begin kl_X11_95 ki_X5_begin kv_X5_begin kn_X5 ⟨Nat.le_trans (by decide) hR1, Nat.le_trans (by decide) hR2⟩ ⟨Nat.zero_le _, Nat.zero_le _⟩ (Nat.le_of_ble_eq_true rfl) dX11_link_25 (fun H locs w => ?_)
      refine lv_aload_n (pc := 28) hx hb dX11_link_28 rfl (lv_at hl 0 rfl) ?_
      refine s_getR (pc := 29) F w 5 ds_0 (j := 4) vc_X11 vi_X11 rfl (by decide) kf_X11_42 dX11_link_29 ?_
      refine lv_iload_n (pc := 32) hx hb dX11_link_32 rfl (lv_at hl 1 rfl) ?_
      obtain ⟨r7, S6, hc, h⟩ := bnd_t h
      refine s_cvi (pc := 33) [.int a1] (fun ad => [.ref (ad 5), .int a1]) F w (m_X2_trackFinding _ _ _ _ hc) rfl rfl hl.1 ds_5 vc_X2 rfl ok_X2_trackFinding rfl kc_X2_trackFinding kl_X11_115 ki_X2_trackFinding kv_X2_trackFinding kn_X2 ⟨Nat.le_trans (by decide) hR1, Nat.le_trans (by decide) hR2⟩ ⟨Nat.zero_le _, Nat.zero_le _⟩ (Nat.le_of_ble_eq_true rfl) dX11_link_33 (fun H locs w => ?_)
      refine lv_istore (pc := 36) (lv' := [(5, .int r7), (0, .ref (ad 0)), (1, .int a1), (2, .int a2), (3, .int a3), (4, .int a4)]) hx hb dX11_link_36 hl (by decide) rfl (fun ls hl => ?_)
      refine lv_iload (pc := 38) hx hb dX11_link_38 (lv_at hl 0 rfl) ?_
      refine lv_if_ne (pc := 40) (tgt := 53) hx hb dX11_link_40 (by decide) (fun q => ?_) (fun q => ?_)
      · have h := ite_f q h
        exact w_X11_link_j53 F (Nat.le_trans (by decide) hR1) (Nat.le_trans (by decide) hR2) _ _ _ _ _ _ h _ _ _ w (lv_sub hl [1, 2, 3, 4, 5, 0] rfl)
      · have h := ite_t q h
        refine lv_aload_n (pc := 43) hx hb dX11_link_43 rfl (lv_at hl 1 rfl) ?_
        refine s_getR (pc := 44) F w 5 ds_0 (j := 4) vc_X11 vi_X11 rfl (by decide) kf_X11_42 dX11_link_44 ?_
        refine lv_iload_n (pc := 47) hx hb dX11_link_47 rfl (lv_at hl 4 rfl) ?_
        obtain ⟨r15, S14, hc, h⟩ := bnd_t h
        refine s_cvi (pc := 48) [.int a3] (fun ad => [.ref (ad 5), .int a3]) F w (m_X2_trackFinding _ _ _ _ hc) rfl rfl hl.1 ds_5 vc_X2 rfl ok_X2_trackFinding rfl kc_X2_trackFinding kl_X11_115 ki_X2_trackFinding kv_X2_trackFinding kn_X2 ⟨Nat.le_trans (by decide) hR1, Nat.le_trans (by decide) hR2⟩ ⟨Nat.zero_le _, Nat.zero_le _⟩ (Nat.le_of_ble_eq_true rfl) dX11_link_48 (fun H locs w => ?_)
        refine lv_istore (pc := 51) (lv' := [(5, .int r15), (0, .ref (ad 0)), (1, .int a1), (2, .int a2), (3, .int a3), (4, .int a4)]) hx hb dX11_link_51 hl (by decide) rfl (fun ls hl => ?_)
        exact w_X11_link_j53 F (Nat.le_trans (by decide) hR1) (Nat.le_trans (by decide) hR2) _ _ _ _ _ _ h _ _ _ w (lv_sub hl [1, 2, 3, 4, 5, 0] rfl)
    · have h := ite_f q h
      refine lv_iconst (pc := 19) (v := -1) hx hb dX11_link_19 (by decide) ?_
      exact s_iret F w h dX11_link_20
def f_X12_mostLinks (a1 : Int32) (S : SS) : Option (Int32 × SS) :=
  grd (inb a1 48) (
  if (S.1 72 a1.toNatClampNeg) = (-4 : Int32) then
    some ((1 : Int32), S)
  else
    some ((3 : Int32), S))
theorem dX12_mostLinks_0 : decode cX12_mostLinks 0 = .ok (.aload_n 0, 1) := by decide +kernel
theorem dX12_mostLinks_1 : decode cX12_mostLinks 1 = .ok (.getfield 30, 3) := by decide +kernel
theorem dX12_mostLinks_4 : decode cX12_mostLinks 4 = .ok (.iload_n 1, 1) := by decide +kernel
theorem dX12_mostLinks_5 : decode cX12_mostLinks 5 = .ok (.iaload, 1) := by decide +kernel
theorem dX12_mostLinks_6 : decode cX12_mostLinks 6 = .ok (.bipush (-4), 2) := by decide +kernel
theorem dX12_mostLinks_8 : decode cX12_mostLinks 8 = .ok (.if_icmp .ne 7, 3) := by decide +kernel
theorem dX12_mostLinks_11 : decode cX12_mostLinks 11 = .ok (.iconst 1, 1) := by decide +kernel
theorem dX12_mostLinks_12 : decode cX12_mostLinks 12 = .ok (.goto 4, 3) := by decide +kernel
theorem dX12_mostLinks_15 : decode cX12_mostLinks 15 = .ok (.iconst 3, 1) := by decide +kernel
theorem dX12_mostLinks_16 : decode cX12_mostLinks 16 = .ok (.ireturn, 1) := by decide +kernel
set_option maxRecDepth 100000 in
set_option maxHeartbeats 4000000 in
theorem m_X12_mostLinks (a1 : Int32) (S S' : SS) (r : Int32) (h : f_X12_mostLinks a1 S = some (r, S')) : MT yX12_mostLinks cX12_mostLinks 2 (some .int) 0 0 (fun ad => [.ref (ad 14), .int a1]) S (some (.int r)) S' := by
  refine MT.of RX12 (fun ad => [(0, .ref (ad 14)), (1, .int a1)]) (by decide) rfl (fun _ => Nat.le_of_ble_eq_true rfl) (fun _ => rfl) ?_
  intro p l e R s m args below meth c dC dI cs ad A hR1 hR2 F H locs ls w hl
  have hx := F.1.1
  have hb := F.1.2.1
  rw [f_X12_mostLinks] at h
  refine lv_aload_n (pc := 0) hx hb dX12_mostLinks_0 rfl (lv_at hl 0 rfl) ?_
  refine s_getR (pc := 1) F w 72 ds_14 (j := 10) vc_X12 vi_X12 rfl (by decide) kf_X12_30 dX12_mostLinks_1 ?_
  refine lv_iload_n (pc := 4) hx hb dX12_mostLinks_4 rfl (lv_at hl 1 rfl) ?_
  refine s_iald (pc := 5) F w ds_72 h dX12_mostLinks_5 (fun h => ?_)
  refine lv_bipush (pc := 6) (v := -4) hx hb dX12_mostLinks_6 (by decide) ?_
  refine lv_icmp_ne (pc := 8) (tgt := 15) hx hb dX12_mostLinks_8 (by decide) (fun q => ?_) (fun q => ?_)
  · have h := ite_f q h
    refine lv_iconst (pc := 15) (v := 3) hx hb dX12_mostLinks_15 (by decide) ?_
    exact s_iret F w h dX12_mostLinks_16
  · have h := ite_t q h
    refine lv_iconst (pc := 11) (v := 1) hx hb dX12_mostLinks_11 (by decide) ?_
    refine lv_goto (pc := 12) (tgt := 16) hx hb dX12_mostLinks_12 (by decide) ?_
    exact s_iret F w h dX12_mostLinks_16
def f_X12_link_j164   (S : SS) : Option (Int32 × SS) :=
    bnd (f_X12_found (9 : Int32) S) (fun r17 S16 =>
    some (r17, S16))
def f_X12_link_j119 (K80 : Int32 → Int32 → Int32 → Int32 → SS → Option (Int32 × SS)) (x5 : Int32) (x6 : Int32) (x8 : Int32) (y0 : Int32) (S : SS) : Option (Int32 × SS) :=
    nm (x8 + (1 : Int32)) (fun z30 =>
    K80 x5 x6 y0 z30 S)
def f_X12_link_j114 (K80 : Int32 → Int32 → Int32 → Int32 → SS → Option (Int32 × SS)) (x5 : Int32) (x6 : Int32) (x8 : Int32) (S : SS) : Option (Int32 × SS) :=
    f_X12_link_j119 K80 x5 x6 x8 (1 : Int32) S
def f_X12_link_L80  : Nat → Int32 → Int32 → Int32 → Int32 → SS → Option (Int32 × SS)
  | 0, _, _, _, _, _ => none
  | n + 1, x5, x6, x7, x8, S =>
    grd (inb x5 48) (
    if (S.1 73 x5.toNatClampNeg) ≤ x8 then
      if x7 = 0 then
        grd (inb x5 48) (
        bnd (f_X12_mostLinks x5 S) (fun r19 S18 =>
        if r19 ≤ (S.1 73 x5.toNatClampNeg) then
          f_X12_link_j164  S18
        else
          grd (inb x6 48) (
          bnd (f_X12_mostLinks x6 S18) (fun r21 S20 =>
          if (S18.1 73 x6.toNatClampNeg) < r21 then
            grd (inb x5 48) (
            grd (inb (((3 : Int32) * x5) + (S20.1 73 x5.toNatClampNeg)) 144) (wr S20 74 (((3 : Int32) * x5) + (S20.1 73 x5.toNatClampNeg)).toNatClampNeg x6 (fun S22 =>
            grd (inb x5 48) (
            grd (inb (((3 : Int32) * x5) + (S22.1 73 x5.toNatClampNeg)) 144) (wr S22 75 (((3 : Int32) * x5) + (S22.1 73 x5.toNatClampNeg)).toNatClampNeg (S22.1 14 14) (fun S23 =>
            grd (inb x5 48) (
            grd (inb x5 48) (wr S23 73 x5.toNatClampNeg ((S23.1 73 x5.toNatClampNeg) + (1 : Int32)) (fun S24 =>
            grd (inb x6 48) (
            grd (inb (((3 : Int32) * x6) + (S24.1 73 x6.toNatClampNeg)) 144) (wr S24 74 (((3 : Int32) * x6) + (S24.1 73 x6.toNatClampNeg)).toNatClampNeg x5 (fun S25 =>
            grd (inb x6 48) (
            grd (inb (((3 : Int32) * x6) + (S25.1 73 x6.toNatClampNeg)) 144) (wr S25 75 (((3 : Int32) * x6) + (S25.1 73 x6.toNatClampNeg)).toNatClampNeg (S25.1 14 14) (fun S26 =>
            grd (inb x6 48) (
            grd (inb x6 48) (wr S26 73 x6.toNatClampNeg ((S26.1 73 x6.toNatClampNeg) + (1 : Int32)) (fun S27 =>
            wr S27 14 14 ((S27.1 14 14) + (1 : Int32)) (fun S28 =>
            bndv (f_X12_forget  S28) (fun S29 =>
            some ((1 : Int32), S29)))))))))))))))))))))
          else
            f_X12_link_j164  S20))))
      else
        f_X12_link_j164  S
    else
      if x7 = 0 then
        grd (inb (((3 : Int32) * x5) + x8) 144) (
        if (S.1 74 (((3 : Int32) * x5) + x8).toNatClampNeg) = x6 then
          f_X12_link_j114 (fun v0 v1 v2 v3 S => f_X12_link_L80 n v0 v1 v2 v3 S) x5 x6 x8 S
        else
          f_X12_link_j119 (fun v0 v1 v2 v3 S => f_X12_link_L80 n v0 v1 v2 v3 S) x5 x6 x8 (0 : Int32) S)
      else
        f_X12_link_j114 (fun v0 v1 v2 v3 S => f_X12_link_L80 n v0 v1 v2 v3 S) x5 x6 x8 S)
def f_X12_link_j75  (x5 : Int32) (x6 : Int32) (y0 : Int32) (S : SS) : Option (Int32 × SS) :=
    f_X12_link_L80 NF x5 x6 y0 (0 : Int32) S
def f_X12_link (a1 : Int32) (a2 : Int32) (a3 : Int32) (a4 : Int32) (S : SS) : Option (Int32 × SS) :=
  bnd (f_X12_isSide a2 S) (fun r2 S1 =>
  if r2 = 0 then
    some ((-1 : Int32), S1)
  else
    bnd (f_X12_isSide a4 S1) (fun r4 S3 =>
    if r4 = 0 then
      some ((-1 : Int32), S3)
    else
      bndv (f_X12_begin  S3) (fun S5 =>
      bnd (f_X12_missTrack a1 S5) (fun r7 S6 =>
      bnd (f_X12_ends r7 S6) (fun r9 S8 =>
      if r9 = 0 then
        bnd (f_X12_missTrack a3 S8) (fun r11 S10 =>
        bnd (f_X12_ends r11 S10) (fun r13 S12 =>
        if r13 = 0 then
          nm (((2 : Int32) * a1) + a2) (fun z14 =>
          nm (((2 : Int32) * a3) + a4) (fun z15 =>
          if z14 = z15 then
            f_X12_link_j75 z14 z15 (1 : Int32) S12
          else
            f_X12_link_j75 z14 z15 (0 : Int32) S12))
        else
          some ((-2 : Int32), S12)))
      else
        some ((-2 : Int32), S8))))))
theorem dX12_link_0 : decode cX12_link 0 = .ok (.iload_n 2, 1) := by decide +kernel
theorem dX12_link_1 : decode cX12_link 1 = .ok (.invokestatic 232, 3) := by decide +kernel
theorem dX12_link_4 : decode cX12_link 4 = .ok (.ifCond .eq 11, 3) := by decide +kernel
theorem dX12_link_7 : decode cX12_link 7 = .ok (.iload 4, 2) := by decide +kernel
theorem dX12_link_9 : decode cX12_link 9 = .ok (.invokestatic 232, 3) := by decide +kernel
theorem dX12_link_12 : decode cX12_link 12 = .ok (.ifCond .ne 5, 3) := by decide +kernel
theorem dX12_link_15 : decode cX12_link 15 = .ok (.iconst (-1), 1) := by decide +kernel
theorem dX12_link_16 : decode cX12_link 16 = .ok (.ireturn, 1) := by decide +kernel
theorem dX12_link_17 : decode cX12_link 17 = .ok (.aload_n 0, 1) := by decide +kernel
theorem dX12_link_18 : decode cX12_link 18 = .ok (.invokevirtual 226, 3) := by decide +kernel
theorem dX12_link_21 : decode cX12_link 21 = .ok (.aload_n 0, 1) := by decide +kernel
theorem dX12_link_22 : decode cX12_link 22 = .ok (.aload_n 0, 1) := by decide +kernel
theorem dX12_link_23 : decode cX12_link 23 = .ok (.iload_n 1, 1) := by decide +kernel
theorem dX12_link_24 : decode cX12_link 24 = .ok (.invokevirtual 223, 3) := by decide +kernel
theorem dX12_link_27 : decode cX12_link 27 = .ok (.invokevirtual 236, 3) := by decide +kernel
theorem dX12_link_30 : decode cX12_link 30 = .ok (.ifCond .ne 15, 3) := by decide +kernel
theorem dX12_link_33 : decode cX12_link 33 = .ok (.aload_n 0, 1) := by decide +kernel
theorem dX12_link_34 : decode cX12_link 34 = .ok (.aload_n 0, 1) := by decide +kernel
theorem dX12_link_35 : decode cX12_link 35 = .ok (.iload_n 3, 1) := by decide +kernel
theorem dX12_link_36 : decode cX12_link 36 = .ok (.invokevirtual 223, 3) := by decide +kernel
theorem dX12_link_39 : decode cX12_link 39 = .ok (.invokevirtual 236, 3) := by decide +kernel
theorem dX12_link_42 : decode cX12_link 42 = .ok (.ifCond .eq 6, 3) := by decide +kernel
theorem dX12_link_45 : decode cX12_link 45 = .ok (.bipush (-2), 2) := by decide +kernel
theorem dX12_link_47 : decode cX12_link 47 = .ok (.ireturn, 1) := by decide +kernel
theorem dX12_link_48 : decode cX12_link 48 = .ok (.iconst 2, 1) := by decide +kernel
theorem dX12_link_49 : decode cX12_link 49 = .ok (.iload_n 1, 1) := by decide +kernel
theorem dX12_link_50 : decode cX12_link 50 = .ok (.imul, 1) := by decide +kernel
theorem dX12_link_51 : decode cX12_link 51 = .ok (.iload_n 2, 1) := by decide +kernel
theorem dX12_link_52 : decode cX12_link 52 = .ok (.iadd, 1) := by decide +kernel
theorem dX12_link_53 : decode cX12_link 53 = .ok (.istore 5, 2) := by decide +kernel
theorem dX12_link_55 : decode cX12_link 55 = .ok (.iconst 2, 1) := by decide +kernel
theorem dX12_link_56 : decode cX12_link 56 = .ok (.iload_n 3, 1) := by decide +kernel
theorem dX12_link_57 : decode cX12_link 57 = .ok (.imul, 1) := by decide +kernel
theorem dX12_link_58 : decode cX12_link 58 = .ok (.iload 4, 2) := by decide +kernel
theorem dX12_link_60 : decode cX12_link 60 = .ok (.iadd, 1) := by decide +kernel
theorem dX12_link_61 : decode cX12_link 61 = .ok (.istore 6, 2) := by decide +kernel
theorem dX12_link_63 : decode cX12_link 63 = .ok (.iload 5, 2) := by decide +kernel
theorem dX12_link_65 : decode cX12_link 65 = .ok (.iload 6, 2) := by decide +kernel
theorem dX12_link_67 : decode cX12_link 67 = .ok (.if_icmp .ne 7, 3) := by decide +kernel
theorem dX12_link_70 : decode cX12_link 70 = .ok (.iconst 1, 1) := by decide +kernel
theorem dX12_link_71 : decode cX12_link 71 = .ok (.goto 4, 3) := by decide +kernel
theorem dX12_link_74 : decode cX12_link 74 = .ok (.iconst 0, 1) := by decide +kernel
theorem dX12_link_75 : decode cX12_link 75 = .ok (.istore 7, 2) := by decide +kernel
theorem dX12_link_77 : decode cX12_link 77 = .ok (.iconst 0, 1) := by decide +kernel
theorem dX12_link_78 : decode cX12_link 78 = .ok (.istore 8, 2) := by decide +kernel
theorem dX12_link_80 : decode cX12_link 80 = .ok (.iload 8, 2) := by decide +kernel
theorem dX12_link_82 : decode cX12_link 82 = .ok (.aload_n 0, 1) := by decide +kernel
theorem dX12_link_83 : decode cX12_link 83 = .ok (.getfield 33, 3) := by decide +kernel
theorem dX12_link_86 : decode cX12_link 86 = .ok (.iload 5, 2) := by decide +kernel
theorem dX12_link_88 : decode cX12_link 88 = .ok (.iaload, 1) := by decide +kernel
theorem dX12_link_89 : decode cX12_link 89 = .ok (.if_icmp .ge 38, 3) := by decide +kernel
theorem dX12_link_92 : decode cX12_link 92 = .ok (.iload 7, 2) := by decide +kernel
theorem dX12_link_94 : decode cX12_link 94 = .ok (.ifCond .ne 20, 3) := by decide +kernel
theorem dX12_link_97 : decode cX12_link 97 = .ok (.aload_n 0, 1) := by decide +kernel
theorem dX12_link_98 : decode cX12_link 98 = .ok (.getfield 36, 3) := by decide +kernel
theorem dX12_link_101 : decode cX12_link 101 = .ok (.iconst 3, 1) := by decide +kernel
theorem dX12_link_102 : decode cX12_link 102 = .ok (.iload 5, 2) := by decide +kernel
theorem dX12_link_104 : decode cX12_link 104 = .ok (.imul, 1) := by decide +kernel
theorem dX12_link_105 : decode cX12_link 105 = .ok (.iload 8, 2) := by decide +kernel
theorem dX12_link_107 : decode cX12_link 107 = .ok (.iadd, 1) := by decide +kernel
theorem dX12_link_108 : decode cX12_link 108 = .ok (.iaload, 1) := by decide +kernel
theorem dX12_link_109 : decode cX12_link 109 = .ok (.iload 6, 2) := by decide +kernel
theorem dX12_link_111 : decode cX12_link 111 = .ok (.if_icmp .ne 7, 3) := by decide +kernel
theorem dX12_link_114 : decode cX12_link 114 = .ok (.iconst 1, 1) := by decide +kernel
theorem dX12_link_115 : decode cX12_link 115 = .ok (.goto 4, 3) := by decide +kernel
theorem dX12_link_118 : decode cX12_link 118 = .ok (.iconst 0, 1) := by decide +kernel
theorem dX12_link_119 : decode cX12_link 119 = .ok (.istore 7, 2) := by decide +kernel
theorem dX12_link_121 : decode cX12_link 121 = .ok (.iinc 8 1, 3) := by decide +kernel
theorem dX12_link_124 : decode cX12_link 124 = .ok (.goto (-44), 3) := by decide +kernel
theorem dX12_link_127 : decode cX12_link 127 = .ok (.iload 7, 2) := by decide +kernel
theorem dX12_link_129 : decode cX12_link 129 = .ok (.ifCond .ne 35, 3) := by decide +kernel
theorem dX12_link_132 : decode cX12_link 132 = .ok (.aload_n 0, 1) := by decide +kernel
theorem dX12_link_133 : decode cX12_link 133 = .ok (.getfield 33, 3) := by decide +kernel
theorem dX12_link_136 : decode cX12_link 136 = .ok (.iload 5, 2) := by decide +kernel
theorem dX12_link_138 : decode cX12_link 138 = .ok (.iaload, 1) := by decide +kernel
theorem dX12_link_139 : decode cX12_link 139 = .ok (.aload_n 0, 1) := by decide +kernel
theorem dX12_link_140 : decode cX12_link 140 = .ok (.iload 5, 2) := by decide +kernel
theorem dX12_link_142 : decode cX12_link 142 = .ok (.invokevirtual 239, 3) := by decide +kernel
theorem dX12_link_145 : decode cX12_link 145 = .ok (.if_icmp .ge 19, 3) := by decide +kernel
theorem dX12_link_148 : decode cX12_link 148 = .ok (.aload_n 0, 1) := by decide +kernel
theorem dX12_link_149 : decode cX12_link 149 = .ok (.getfield 33, 3) := by decide +kernel
theorem dX12_link_152 : decode cX12_link 152 = .ok (.iload 6, 2) := by decide +kernel
theorem dX12_link_154 : decode cX12_link 154 = .ok (.iaload, 1) := by decide +kernel
theorem dX12_link_155 : decode cX12_link 155 = .ok (.aload_n 0, 1) := by decide +kernel
theorem dX12_link_156 : decode cX12_link 156 = .ok (.iload 6, 2) := by decide +kernel
theorem dX12_link_158 : decode cX12_link 158 = .ok (.invokevirtual 239, 3) := by decide +kernel
theorem dX12_link_161 : decode cX12_link 161 = .ok (.if_icmp .lt 10, 3) := by decide +kernel
theorem dX12_link_164 : decode cX12_link 164 = .ok (.aload_n 0, 1) := by decide +kernel
theorem dX12_link_165 : decode cX12_link 165 = .ok (.bipush 9, 2) := by decide +kernel
theorem dX12_link_167 : decode cX12_link 167 = .ok (.invokevirtual 210, 3) := by decide +kernel
theorem dX12_link_170 : decode cX12_link 170 = .ok (.ireturn, 1) := by decide +kernel
theorem dX12_link_171 : decode cX12_link 171 = .ok (.aload_n 0, 1) := by decide +kernel
theorem dX12_link_172 : decode cX12_link 172 = .ok (.getfield 36, 3) := by decide +kernel
theorem dX12_link_175 : decode cX12_link 175 = .ok (.iconst 3, 1) := by decide +kernel
theorem dX12_link_176 : decode cX12_link 176 = .ok (.iload 5, 2) := by decide +kernel
theorem dX12_link_178 : decode cX12_link 178 = .ok (.imul, 1) := by decide +kernel
theorem dX12_link_179 : decode cX12_link 179 = .ok (.aload_n 0, 1) := by decide +kernel
theorem dX12_link_180 : decode cX12_link 180 = .ok (.getfield 33, 3) := by decide +kernel
theorem dX12_link_183 : decode cX12_link 183 = .ok (.iload 5, 2) := by decide +kernel
theorem dX12_link_185 : decode cX12_link 185 = .ok (.iaload, 1) := by decide +kernel
theorem dX12_link_186 : decode cX12_link 186 = .ok (.iadd, 1) := by decide +kernel
theorem dX12_link_187 : decode cX12_link 187 = .ok (.iload 6, 2) := by decide +kernel
theorem dX12_link_189 : decode cX12_link 189 = .ok (.iastore, 1) := by decide +kernel
theorem dX12_link_190 : decode cX12_link 190 = .ok (.aload_n 0, 1) := by decide +kernel
theorem dX12_link_191 : decode cX12_link 191 = .ok (.getfield 39, 3) := by decide +kernel
theorem dX12_link_194 : decode cX12_link 194 = .ok (.iconst 3, 1) := by decide +kernel
theorem dX12_link_195 : decode cX12_link 195 = .ok (.iload 5, 2) := by decide +kernel
theorem dX12_link_197 : decode cX12_link 197 = .ok (.imul, 1) := by decide +kernel
theorem dX12_link_198 : decode cX12_link 198 = .ok (.aload_n 0, 1) := by decide +kernel
theorem dX12_link_199 : decode cX12_link 199 = .ok (.getfield 33, 3) := by decide +kernel
theorem dX12_link_202 : decode cX12_link 202 = .ok (.iload 5, 2) := by decide +kernel
theorem dX12_link_204 : decode cX12_link 204 = .ok (.iaload, 1) := by decide +kernel
theorem dX12_link_205 : decode cX12_link 205 = .ok (.iadd, 1) := by decide +kernel
theorem dX12_link_206 : decode cX12_link 206 = .ok (.aload_n 0, 1) := by decide +kernel
theorem dX12_link_207 : decode cX12_link 207 = .ok (.getfield 242, 3) := by decide +kernel
theorem dX12_link_210 : decode cX12_link 210 = .ok (.iastore, 1) := by decide +kernel
theorem dX12_link_211 : decode cX12_link 211 = .ok (.aload_n 0, 1) := by decide +kernel
theorem dX12_link_212 : decode cX12_link 212 = .ok (.getfield 33, 3) := by decide +kernel
theorem dX12_link_215 : decode cX12_link 215 = .ok (.iload 5, 2) := by decide +kernel
theorem dX12_link_217 : decode cX12_link 217 = .ok (.dup2, 1) := by decide +kernel
theorem dX12_link_218 : decode cX12_link 218 = .ok (.iaload, 1) := by decide +kernel
theorem dX12_link_219 : decode cX12_link 219 = .ok (.iconst 1, 1) := by decide +kernel
theorem dX12_link_220 : decode cX12_link 220 = .ok (.iadd, 1) := by decide +kernel
theorem dX12_link_221 : decode cX12_link 221 = .ok (.iastore, 1) := by decide +kernel
theorem dX12_link_222 : decode cX12_link 222 = .ok (.aload_n 0, 1) := by decide +kernel
theorem dX12_link_223 : decode cX12_link 223 = .ok (.getfield 36, 3) := by decide +kernel
theorem dX12_link_226 : decode cX12_link 226 = .ok (.iconst 3, 1) := by decide +kernel
theorem dX12_link_227 : decode cX12_link 227 = .ok (.iload 6, 2) := by decide +kernel
theorem dX12_link_229 : decode cX12_link 229 = .ok (.imul, 1) := by decide +kernel
theorem dX12_link_230 : decode cX12_link 230 = .ok (.aload_n 0, 1) := by decide +kernel
theorem dX12_link_231 : decode cX12_link 231 = .ok (.getfield 33, 3) := by decide +kernel
theorem dX12_link_234 : decode cX12_link 234 = .ok (.iload 6, 2) := by decide +kernel
theorem dX12_link_236 : decode cX12_link 236 = .ok (.iaload, 1) := by decide +kernel
theorem dX12_link_237 : decode cX12_link 237 = .ok (.iadd, 1) := by decide +kernel
theorem dX12_link_238 : decode cX12_link 238 = .ok (.iload 5, 2) := by decide +kernel
theorem dX12_link_240 : decode cX12_link 240 = .ok (.iastore, 1) := by decide +kernel
theorem dX12_link_241 : decode cX12_link 241 = .ok (.aload_n 0, 1) := by decide +kernel
theorem dX12_link_242 : decode cX12_link 242 = .ok (.getfield 39, 3) := by decide +kernel
theorem dX12_link_245 : decode cX12_link 245 = .ok (.iconst 3, 1) := by decide +kernel
theorem dX12_link_246 : decode cX12_link 246 = .ok (.iload 6, 2) := by decide +kernel
theorem dX12_link_248 : decode cX12_link 248 = .ok (.imul, 1) := by decide +kernel
theorem dX12_link_249 : decode cX12_link 249 = .ok (.aload_n 0, 1) := by decide +kernel
theorem dX12_link_250 : decode cX12_link 250 = .ok (.getfield 33, 3) := by decide +kernel
theorem dX12_link_253 : decode cX12_link 253 = .ok (.iload 6, 2) := by decide +kernel
theorem dX12_link_255 : decode cX12_link 255 = .ok (.iaload, 1) := by decide +kernel
theorem dX12_link_256 : decode cX12_link 256 = .ok (.iadd, 1) := by decide +kernel
theorem dX12_link_257 : decode cX12_link 257 = .ok (.aload_n 0, 1) := by decide +kernel
theorem dX12_link_258 : decode cX12_link 258 = .ok (.getfield 242, 3) := by decide +kernel
theorem dX12_link_261 : decode cX12_link 261 = .ok (.iastore, 1) := by decide +kernel
theorem dX12_link_262 : decode cX12_link 262 = .ok (.aload_n 0, 1) := by decide +kernel
theorem dX12_link_263 : decode cX12_link 263 = .ok (.getfield 33, 3) := by decide +kernel
theorem dX12_link_266 : decode cX12_link 266 = .ok (.iload 6, 2) := by decide +kernel
theorem dX12_link_268 : decode cX12_link 268 = .ok (.dup2, 1) := by decide +kernel
theorem dX12_link_269 : decode cX12_link 269 = .ok (.iaload, 1) := by decide +kernel
theorem dX12_link_270 : decode cX12_link 270 = .ok (.iconst 1, 1) := by decide +kernel
theorem dX12_link_271 : decode cX12_link 271 = .ok (.iadd, 1) := by decide +kernel
theorem dX12_link_272 : decode cX12_link 272 = .ok (.iastore, 1) := by decide +kernel
theorem dX12_link_273 : decode cX12_link 273 = .ok (.aload_n 0, 1) := by decide +kernel
theorem dX12_link_274 : decode cX12_link 274 = .ok (.dup, 1) := by decide +kernel
theorem dX12_link_275 : decode cX12_link 275 = .ok (.getfield 242, 3) := by decide +kernel
theorem dX12_link_278 : decode cX12_link 278 = .ok (.iconst 1, 1) := by decide +kernel
theorem dX12_link_279 : decode cX12_link 279 = .ok (.iadd, 1) := by decide +kernel
theorem dX12_link_280 : decode cX12_link 280 = .ok (.putfield 242, 3) := by decide +kernel
theorem dX12_link_283 : decode cX12_link 283 = .ok (.aload_n 0, 1) := by decide +kernel
theorem dX12_link_284 : decode cX12_link 284 = .ok (.invokevirtual 229, 3) := by decide +kernel
theorem dX12_link_287 : decode cX12_link 287 = .ok (.iconst 1, 1) := by decide +kernel
theorem dX12_link_288 : decode cX12_link 288 = .ok (.ireturn, 1) := by decide +kernel
set_option maxRecDepth 100000 in
set_option maxHeartbeats 4000000 in
theorem w_X12_link_j164 {p : Program} {l : Launch} {e : Env} {R : Room} {s : State} {m : MethodId} {args : Array Value} {below : List Frame} {meth : Method} {c : Code} {dC : Nat → ClassId} {dI : Nat → Nat → Nat} {cs : Nat → ClassId} {ad : Nat → Nat} {A : Nat → Prop} {D0 : Nat → Nat} {S' : SS} {r : Int32} (F : Fx p s m args meth c cX12_link 9 RX12 (some .int) dC dI cs A) (hR1 : 1 ≤ R.frames) (hR2 : 21 ≤ R.locals)  (S : SS) (h : f_X12_link_j164  S = some (r, S')) : AW p l e R s m args below meth c dC dI cs ad A D0 (some (.int r)) S' 9 164 [(0, .ref (ad 14))] [] S := by
  have hx := F.1.1
  have hb := F.1.2.1
  intro H locs ls w hl
  rw [f_X12_link_j164] at h
  refine lv_aload_n (pc := 164) hx hb dX12_link_164 rfl (lv_at hl 0 rfl) ?_
  refine lv_bipush (pc := 165) (v := 9) hx hb dX12_link_165 (by decide) ?_
  obtain ⟨r17, S16, hc, h⟩ := bnd_t h
  refine s_cvi (pc := 167) [.int (9 : Int32)] (fun ad => [.ref (ad 14), .int (9 : Int32)]) F w (m_X12_found _ _ _ _ hc) rfl rfl hl.1 ds_14 vc_X12 rfl ok_X12_found rfl kc_X12_found kl_X12_210 ki_X12_found kv_X12_found kn_X12 ⟨Nat.le_trans (by decide) hR1, Nat.le_trans (by decide) hR2⟩ ⟨Nat.zero_le _, Nat.zero_le _⟩ (Nat.le_of_ble_eq_true rfl) dX12_link_167 (fun H locs w => ?_)
  exact s_iret F w h dX12_link_170
set_option maxRecDepth 100000 in
set_option maxHeartbeats 4000000 in
theorem w_X12_link_j119 {p : Program} {l : Launch} {e : Env} {R : Room} {s : State} {m : MethodId} {args : Array Value} {below : List Frame} {meth : Method} {c : Code} {dC : Nat → ClassId} {dI : Nat → Nat → Nat} {cs : Nat → ClassId} {ad : Nat → Nat} {A : Nat → Prop} {D0 : Nat → Nat} {S' : SS} {r : Int32} (F : Fx p s m args meth c cX12_link 9 RX12 (some .int) dC dI cs A) (hR1 : 0 ≤ R.frames) (hR2 : 0 ≤ R.locals) (K80 : Int32 → Int32 → Int32 → Int32 → SS → Option (Int32 × SS)) (hK80 : ∀ (v0 : Int32) (v1 : Int32) (v2 : Int32) (v3 : Int32) (S : SS), K80 v0 v1 v2 v3 S = some (r, S') → AW p l e R s m args below meth c dC dI cs ad A D0 (some (.int r)) S' 9 80 [(0, .ref (ad 14)), (5, .int v0), (6, .int v1), (7, .int v2), (8, .int v3)] [] S) (x5 : Int32) (x6 : Int32) (x8 : Int32) (y0 : Int32) (S : SS) (h : f_X12_link_j119 K80 x5 x6 x8 y0 S = some (r, S')) : AW p l e R s m args below meth c dC dI cs ad A D0 (some (.int r)) S' 9 119 [(0, .ref (ad 14)), (5, .int x5), (6, .int x6), (8, .int x8)] [.int y0] S := by
  have hx := F.1.1
  have hb := F.1.2.1
  intro H locs ls w hl
  rw [f_X12_link_j119] at h
  refine lv_istore (pc := 119) (lv' := [(7, .int y0), (0, .ref (ad 14)), (5, .int x5), (6, .int x6), (8, .int x8)]) hx hb dX12_link_119 hl (by decide) rfl (fun ls hl => ?_)
  refine s_nm h (fun z30 ez30 h => ?_)
  refine lv_iinc (pc := 121) (v := z30) (lv' := [(8, .int z30), (7, .int y0), (0, .ref (ad 14)), (5, .int x5), (6, .int x6)]) hx hb dX12_link_121 hl (k := 4) rfl (by rw [ez30]; rfl) (by decide) rfl (fun ls hl => ?_)
  refine lv_goto (pc := 124) (tgt := 80) hx hb dX12_link_124 (by decide) ?_
  exact hK80 _ _ _ _ _ h _ _ _ w (lv_sub hl [2, 3, 4, 1, 0] rfl)
set_option maxRecDepth 100000 in
set_option maxHeartbeats 4000000 in
theorem w_X12_link_j114 {p : Program} {l : Launch} {e : Env} {R : Room} {s : State} {m : MethodId} {args : Array Value} {below : List Frame} {meth : Method} {c : Code} {dC : Nat → ClassId} {dI : Nat → Nat → Nat} {cs : Nat → ClassId} {ad : Nat → Nat} {A : Nat → Prop} {D0 : Nat → Nat} {S' : SS} {r : Int32} (F : Fx p s m args meth c cX12_link 9 RX12 (some .int) dC dI cs A) (hR1 : 0 ≤ R.frames) (hR2 : 0 ≤ R.locals) (K80 : Int32 → Int32 → Int32 → Int32 → SS → Option (Int32 × SS)) (hK80 : ∀ (v0 : Int32) (v1 : Int32) (v2 : Int32) (v3 : Int32) (S : SS), K80 v0 v1 v2 v3 S = some (r, S') → AW p l e R s m args below meth c dC dI cs ad A D0 (some (.int r)) S' 9 80 [(0, .ref (ad 14)), (5, .int v0), (6, .int v1), (7, .int v2), (8, .int v3)] [] S) (x5 : Int32) (x6 : Int32) (x8 : Int32) (S : SS) (h : f_X12_link_j114 K80 x5 x6 x8 S = some (r, S')) : AW p l e R s m args below meth c dC dI cs ad A D0 (some (.int r)) S' 9 114 [(0, .ref (ad 14)), (5, .int x5), (6, .int x6), (8, .int x8)] [] S := by
  have hx := F.1.1
  have hb := F.1.2.1
  intro H locs ls w hl
  rw [f_X12_link_j114] at h
  refine lv_iconst (pc := 114) (v := 1) hx hb dX12_link_114 (by decide) ?_
  refine lv_goto (pc := 115) (tgt := 119) hx hb dX12_link_115 (by decide) ?_
  exact w_X12_link_j119 F (Nat.le_trans (by decide) hR1) (Nat.le_trans (by decide) hR2) _ hK80 _ _ _ _ _ h _ _ _ w (lv_sub hl [0, 1, 2, 3] rfl)
set_option maxRecDepth 100000 in
set_option maxHeartbeats 4000000 in
theorem w_X12_link_L80 {p : Program} {l : Launch} {e : Env} {R : Room} {s : State} {m : MethodId} {args : Array Value} {below : List Frame} {meth : Method} {c : Code} {dC : Nat → ClassId} {dI : Nat → Nat → Nat} {cs : Nat → ClassId} {ad : Nat → Nat} {A : Nat → Prop} {D0 : Nat → Nat} {S' : SS} {r : Int32} (F : Fx p s m args meth c cX12_link 9 RX12 (some .int) dC dI cs A) (hR1 : 1 ≤ R.frames) (hR2 : 21 ≤ R.locals) : ∀ (n : Nat) (x5 : Int32) (x6 : Int32) (x7 : Int32) (x8 : Int32) (S : SS), f_X12_link_L80 n x5 x6 x7 x8 S = some (r, S') → AW p l e R s m args below meth c dC dI cs ad A D0 (some (.int r)) S' 9 80 [(0, .ref (ad 14)), (5, .int x5), (6, .int x6), (7, .int x7), (8, .int x8)] [] S := by
  have hx := F.1.1
  have hb := F.1.2.1
  intro n
  induction n with
  | zero => intro x5 x6 x7 x8 S h; cases h
  | succ n ih =>
    intro x5 x6 x7 x8 S h H locs ls w hl
    rw [f_X12_link_L80] at h
    refine lv_iload (pc := 80) hx hb dX12_link_80 (lv_at hl 4 rfl) ?_
    refine lv_aload_n (pc := 82) hx hb dX12_link_82 rfl (lv_at hl 0 rfl) ?_
    refine s_getR (pc := 83) F w 73 ds_14 (j := 11) vc_X12 vi_X12 rfl (by decide) kf_X12_33 dX12_link_83 ?_
    refine lv_iload (pc := 86) hx hb dX12_link_86 (lv_at hl 1 rfl) ?_
    refine s_iald (pc := 88) F w ds_73 h dX12_link_88 (fun h => ?_)
    refine lv_icmp_ge (pc := 89) (tgt := 127) hx hb dX12_link_89 (by decide) (fun q => ?_) (fun q => ?_)
    · have h := ite_t q h
      refine lv_iload (pc := 127) hx hb dX12_link_127 (lv_at hl 3 rfl) ?_
      refine lv_if_ne (pc := 129) (tgt := 164) hx hb dX12_link_129 (by decide) (fun q => ?_) (fun q => ?_)
      · have h := ite_f q h
        exact w_X12_link_j164 F (Nat.le_trans (by decide) hR1) (Nat.le_trans (by decide) hR2)  _ h _ _ _ w (lv_sub hl [0] rfl)
      · have h := ite_t q h
        refine lv_aload_n (pc := 132) hx hb dX12_link_132 rfl (lv_at hl 0 rfl) ?_
        refine s_getR (pc := 133) F w 73 ds_14 (j := 11) vc_X12 vi_X12 rfl (by decide) kf_X12_33 dX12_link_133 ?_
        refine lv_iload (pc := 136) hx hb dX12_link_136 (lv_at hl 1 rfl) ?_
        refine s_iald (pc := 138) F w ds_73 h dX12_link_138 (fun h => ?_)
        refine lv_aload_n (pc := 139) hx hb dX12_link_139 rfl (lv_at hl 0 rfl) ?_
        refine lv_iload (pc := 140) hx hb dX12_link_140 (lv_at hl 1 rfl) ?_
        obtain ⟨r19, S18, hc, h⟩ := bnd_t h
        refine s_cvi (pc := 142) [.int x5] (fun ad => [.ref (ad 14), .int x5]) F w (m_X12_mostLinks _ _ _ _ hc) rfl rfl hl.1 ds_14 vc_X12 rfl ok_X12_mostLinks rfl kc_X12_mostLinks kl_X12_239 ki_X12_mostLinks kv_X12_mostLinks kn_X12 ⟨Nat.le_trans (by decide) hR1, Nat.le_trans (by decide) hR2⟩ ⟨Nat.zero_le _, Nat.zero_le _⟩ (Nat.le_of_ble_eq_true rfl) dX12_link_142 (fun H locs w => ?_)
        refine lv_icmp_ge (pc := 145) (tgt := 164) hx hb dX12_link_145 (by decide) (fun q => ?_) (fun q => ?_)
        · have h := ite_t q h
          exact w_X12_link_j164 F (Nat.le_trans (by decide) hR1) (Nat.le_trans (by decide) hR2)  _ h _ _ _ w (lv_sub hl [0] rfl)
        · have h := ite_f q h
          refine lv_aload_n (pc := 148) hx hb dX12_link_148 rfl (lv_at hl 0 rfl) ?_
          refine s_getR (pc := 149) F w 73 ds_14 (j := 11) vc_X12 vi_X12 rfl (by decide) kf_X12_33 dX12_link_149 ?_
          refine lv_iload (pc := 152) hx hb dX12_link_152 (lv_at hl 2 rfl) ?_
          refine s_iald (pc := 154) F w ds_73 h dX12_link_154 (fun h => ?_)
          refine lv_aload_n (pc := 155) hx hb dX12_link_155 rfl (lv_at hl 0 rfl) ?_
          refine lv_iload (pc := 156) hx hb dX12_link_156 (lv_at hl 2 rfl) ?_
          obtain ⟨r21, S20, hc, h⟩ := bnd_t h
          refine s_cvi (pc := 158) [.int x6] (fun ad => [.ref (ad 14), .int x6]) F w (m_X12_mostLinks _ _ _ _ hc) rfl rfl hl.1 ds_14 vc_X12 rfl ok_X12_mostLinks rfl kc_X12_mostLinks kl_X12_239 ki_X12_mostLinks kv_X12_mostLinks kn_X12 ⟨Nat.le_trans (by decide) hR1, Nat.le_trans (by decide) hR2⟩ ⟨Nat.zero_le _, Nat.zero_le _⟩ (Nat.le_of_ble_eq_true rfl) dX12_link_158 (fun H locs w => ?_)
          refine lv_icmp_lt (pc := 161) (tgt := 171) hx hb dX12_link_161 (by decide) (fun q => ?_) (fun q => ?_)
          · have h := ite_t q h
            refine lv_aload_n (pc := 171) hx hb dX12_link_171 rfl (lv_at hl 0 rfl) ?_
            refine s_getR (pc := 172) F w 74 ds_14 (j := 12) vc_X12 vi_X12 rfl (by decide) kf_X12_36 dX12_link_172 ?_
            refine lv_iconst (pc := 175) (v := 3) hx hb dX12_link_175 (by decide) ?_
            refine lv_iload (pc := 176) hx hb dX12_link_176 (lv_at hl 1 rfl) ?_
            refine lv_imul (pc := 178) hx hb dX12_link_178 ?_
            refine lv_aload_n (pc := 179) hx hb dX12_link_179 rfl (lv_at hl 0 rfl) ?_
            refine s_getR (pc := 180) F w 73 ds_14 (j := 11) vc_X12 vi_X12 rfl (by decide) kf_X12_33 dX12_link_180 ?_
            refine lv_iload (pc := 183) hx hb dX12_link_183 (lv_at hl 1 rfl) ?_
            refine s_iald (pc := 185) F w ds_73 h dX12_link_185 (fun h => ?_)
            refine lv_iadd (pc := 186) hx hb dX12_link_186 ?_
            refine lv_iload (pc := 187) hx hb dX12_link_187 (lv_at hl 2 rfl) ?_
            refine s_iast (pc := 189) F w ds_74 h dX12_link_189 (fun S22 H locs h w => ?_)
            refine lv_aload_n (pc := 190) hx hb dX12_link_190 rfl (lv_at hl 0 rfl) ?_
            refine s_getR (pc := 191) F w 75 ds_14 (j := 13) vc_X12 vi_X12 rfl (by decide) kf_X12_39 dX12_link_191 ?_
            refine lv_iconst (pc := 194) (v := 3) hx hb dX12_link_194 (by decide) ?_
            refine lv_iload (pc := 195) hx hb dX12_link_195 (lv_at hl 1 rfl) ?_
            refine lv_imul (pc := 197) hx hb dX12_link_197 ?_
            refine lv_aload_n (pc := 198) hx hb dX12_link_198 rfl (lv_at hl 0 rfl) ?_
            refine s_getR (pc := 199) F w 73 ds_14 (j := 11) vc_X12 vi_X12 rfl (by decide) kf_X12_33 dX12_link_199 ?_
            refine lv_iload (pc := 202) hx hb dX12_link_202 (lv_at hl 1 rfl) ?_
            refine s_iald (pc := 204) F w ds_73 h dX12_link_204 (fun h => ?_)
            refine lv_iadd (pc := 205) hx hb dX12_link_205 ?_
            refine lv_aload_n (pc := 206) hx hb dX12_link_206 rfl (lv_at hl 0 rfl) ?_
            refine s_getI (pc := 207) F w ds_14 (j := 14) vc_X12 vi_X12 rfl (by decide) kf_X12_242 dX12_link_207 ?_
            refine s_iast (pc := 210) F w ds_75 h dX12_link_210 (fun S23 H locs h w => ?_)
            refine lv_aload_n (pc := 211) hx hb dX12_link_211 rfl (lv_at hl 0 rfl) ?_
            refine s_getR (pc := 212) F w 73 ds_14 (j := 11) vc_X12 vi_X12 rfl (by decide) kf_X12_33 dX12_link_212 ?_
            refine lv_iload (pc := 215) hx hb dX12_link_215 (lv_at hl 1 rfl) ?_
            refine lv_dup2_11 (pc := 217) hx hb dX12_link_217 rfl rfl ?_
            refine s_iald (pc := 218) F w ds_73 h dX12_link_218 (fun h => ?_)
            refine lv_iconst (pc := 219) (v := 1) hx hb dX12_link_219 (by decide) ?_
            refine lv_iadd (pc := 220) hx hb dX12_link_220 ?_
            refine s_iast (pc := 221) F w ds_73 h dX12_link_221 (fun S24 H locs h w => ?_)
            refine lv_aload_n (pc := 222) hx hb dX12_link_222 rfl (lv_at hl 0 rfl) ?_
            refine s_getR (pc := 223) F w 74 ds_14 (j := 12) vc_X12 vi_X12 rfl (by decide) kf_X12_36 dX12_link_223 ?_
            refine lv_iconst (pc := 226) (v := 3) hx hb dX12_link_226 (by decide) ?_
            refine lv_iload (pc := 227) hx hb dX12_link_227 (lv_at hl 2 rfl) ?_
            refine lv_imul (pc := 229) hx hb dX12_link_229 ?_
            refine lv_aload_n (pc := 230) hx hb dX12_link_230 rfl (lv_at hl 0 rfl) ?_
            refine s_getR (pc := 231) F w 73 ds_14 (j := 11) vc_X12 vi_X12 rfl (by decide) kf_X12_33 dX12_link_231 ?_
            refine lv_iload (pc := 234) hx hb dX12_link_234 (lv_at hl 2 rfl) ?_
            refine s_iald (pc := 236) F w ds_73 h dX12_link_236 (fun h => ?_)
            refine lv_iadd (pc := 237) hx hb dX12_link_237 ?_
            refine lv_iload (pc := 238) hx hb dX12_link_238 (lv_at hl 1 rfl) ?_
            refine s_iast (pc := 240) F w ds_74 h dX12_link_240 (fun S25 H locs h w => ?_)
            refine lv_aload_n (pc := 241) hx hb dX12_link_241 rfl (lv_at hl 0 rfl) ?_
            refine s_getR (pc := 242) F w 75 ds_14 (j := 13) vc_X12 vi_X12 rfl (by decide) kf_X12_39 dX12_link_242 ?_
            refine lv_iconst (pc := 245) (v := 3) hx hb dX12_link_245 (by decide) ?_
            refine lv_iload (pc := 246) hx hb dX12_link_246 (lv_at hl 2 rfl) ?_
            refine lv_imul (pc := 248) hx hb dX12_link_248 ?_
            refine lv_aload_n (pc := 249) hx hb dX12_link_249 rfl (lv_at hl 0 rfl) ?_
            refine s_getR (pc := 250) F w 73 ds_14 (j := 11) vc_X12 vi_X12 rfl (by decide) kf_X12_33 dX12_link_250 ?_
            refine lv_iload (pc := 253) hx hb dX12_link_253 (lv_at hl 2 rfl) ?_
            refine s_iald (pc := 255) F w ds_73 h dX12_link_255 (fun h => ?_)
            refine lv_iadd (pc := 256) hx hb dX12_link_256 ?_
            refine lv_aload_n (pc := 257) hx hb dX12_link_257 rfl (lv_at hl 0 rfl) ?_
            refine s_getI (pc := 258) F w ds_14 (j := 14) vc_X12 vi_X12 rfl (by decide) kf_X12_242 dX12_link_258 ?_
            refine s_iast (pc := 261) F w ds_75 h dX12_link_261 (fun S26 H locs h w => ?_)
            refine lv_aload_n (pc := 262) hx hb dX12_link_262 rfl (lv_at hl 0 rfl) ?_
            refine s_getR (pc := 263) F w 73 ds_14 (j := 11) vc_X12 vi_X12 rfl (by decide) kf_X12_33 dX12_link_263 ?_
            refine lv_iload (pc := 266) hx hb dX12_link_266 (lv_at hl 2 rfl) ?_
            refine lv_dup2_11 (pc := 268) hx hb dX12_link_268 rfl rfl ?_
            refine s_iald (pc := 269) F w ds_73 h dX12_link_269 (fun h => ?_)
            refine lv_iconst (pc := 270) (v := 1) hx hb dX12_link_270 (by decide) ?_
            refine lv_iadd (pc := 271) hx hb dX12_link_271 ?_
            refine s_iast (pc := 272) F w ds_73 h dX12_link_272 (fun S27 H locs h w => ?_)
            refine lv_aload_n (pc := 273) hx hb dX12_link_273 rfl (lv_at hl 0 rfl) ?_
            refine lv_dup (pc := 274) hx hb dX12_link_274 rfl ?_
            refine s_getI (pc := 275) F w ds_14 (j := 14) vc_X12 vi_X12 rfl (by decide) kf_X12_242 dX12_link_275 ?_
            refine lv_iconst (pc := 278) (v := 1) hx hb dX12_link_278 (by decide) ?_
            refine lv_iadd (pc := 279) hx hb dX12_link_279 ?_
            refine s_putI (pc := 280) F w ds_14 vc_X12 vi_X12 tyX12_ok nmX12 (j := 14) rfl (by decide) kf_X12_242 rfl pd_I h dX12_link_280 (fun S28 H locs h w => ?_)
            refine lv_aload_n (pc := 283) hx hb dX12_link_283 rfl (lv_at hl 0 rfl) ?_
            obtain ⟨S29, hc, h⟩ := bndv_t h
            refine s_cvv (pc := 284) [] (fun ad => [.ref (ad 14)]) F w (m_X12_forget  _ _ hc) rfl rfl hl.1 ds_14 vc_X12 rfl ok_X12_forget rfl kc_X12_forget kl_X12_229 ki_X12_forget kv_X12_forget kn_X12 ⟨Nat.le_trans (by decide) hR1, Nat.le_trans (by decide) hR2⟩ ⟨Nat.zero_le _, Nat.zero_le _⟩ (Nat.le_of_ble_eq_true rfl) dX12_link_284 (fun H locs w => ?_)
            refine lv_iconst (pc := 287) (v := 1) hx hb dX12_link_287 (by decide) ?_
            exact s_iret F w h dX12_link_288
          · have h := ite_f q h
            exact w_X12_link_j164 F (Nat.le_trans (by decide) hR1) (Nat.le_trans (by decide) hR2)  _ h _ _ _ w (lv_sub hl [0] rfl)
    · have h := ite_f q h
      refine lv_iload (pc := 92) hx hb dX12_link_92 (lv_at hl 3 rfl) ?_
      refine lv_if_ne (pc := 94) (tgt := 114) hx hb dX12_link_94 (by decide) (fun q => ?_) (fun q => ?_)
      · have h := ite_f q h
        exact w_X12_link_j114 F (Nat.le_trans (by decide) hR1) (Nat.le_trans (by decide) hR2) _ (fun v0 v1 v2 v3 S h => ih v0 v1 v2 v3 S h) _ _ _ _ h _ _ _ w (lv_sub hl [0, 1, 2, 4] rfl)
      · have h := ite_t q h
        refine lv_aload_n (pc := 97) hx hb dX12_link_97 rfl (lv_at hl 0 rfl) ?_
        refine s_getR (pc := 98) F w 74 ds_14 (j := 12) vc_X12 vi_X12 rfl (by decide) kf_X12_36 dX12_link_98 ?_
        refine lv_iconst (pc := 101) (v := 3) hx hb dX12_link_101 (by decide) ?_
        refine lv_iload (pc := 102) hx hb dX12_link_102 (lv_at hl 1 rfl) ?_
        refine lv_imul (pc := 104) hx hb dX12_link_104 ?_
        refine lv_iload (pc := 105) hx hb dX12_link_105 (lv_at hl 4 rfl) ?_
        refine lv_iadd (pc := 107) hx hb dX12_link_107 ?_
        refine s_iald (pc := 108) F w ds_74 h dX12_link_108 (fun h => ?_)
        refine lv_iload (pc := 109) hx hb dX12_link_109 (lv_at hl 2 rfl) ?_
        refine lv_icmp_ne (pc := 111) (tgt := 118) hx hb dX12_link_111 (by decide) (fun q => ?_) (fun q => ?_)
        · have h := ite_f q h
          refine lv_iconst (pc := 118) (v := 0) hx hb dX12_link_118 (by decide) ?_
          exact w_X12_link_j119 F (Nat.le_trans (by decide) hR1) (Nat.le_trans (by decide) hR2) _ (fun v0 v1 v2 v3 S h => ih v0 v1 v2 v3 S h) _ _ _ _ _ h _ _ _ w (lv_sub hl [0, 1, 2, 4] rfl)
        · have h := ite_t q h
          exact w_X12_link_j114 F (Nat.le_trans (by decide) hR1) (Nat.le_trans (by decide) hR2) _ (fun v0 v1 v2 v3 S h => ih v0 v1 v2 v3 S h) _ _ _ _ h _ _ _ w (lv_sub hl [0, 1, 2, 4] rfl)
set_option maxRecDepth 100000 in
set_option maxHeartbeats 4000000 in
theorem w_X12_link_j75 {p : Program} {l : Launch} {e : Env} {R : Room} {s : State} {m : MethodId} {args : Array Value} {below : List Frame} {meth : Method} {c : Code} {dC : Nat → ClassId} {dI : Nat → Nat → Nat} {cs : Nat → ClassId} {ad : Nat → Nat} {A : Nat → Prop} {D0 : Nat → Nat} {S' : SS} {r : Int32} (F : Fx p s m args meth c cX12_link 9 RX12 (some .int) dC dI cs A) (hR1 : 1 ≤ R.frames) (hR2 : 21 ≤ R.locals) (x5 : Int32) (x6 : Int32) (y0 : Int32) (S : SS) (h : f_X12_link_j75 x5 x6 y0 S = some (r, S')) : AW p l e R s m args below meth c dC dI cs ad A D0 (some (.int r)) S' 9 75 [(0, .ref (ad 14)), (5, .int x5), (6, .int x6)] [.int y0] S := by
  have hx := F.1.1
  have hb := F.1.2.1
  intro H locs ls w hl
  rw [f_X12_link_j75] at h
  refine lv_istore (pc := 75) (lv' := [(7, .int y0), (0, .ref (ad 14)), (5, .int x5), (6, .int x6)]) hx hb dX12_link_75 hl (by decide) rfl (fun ls hl => ?_)
  refine lv_iconst (pc := 77) (v := 0) hx hb dX12_link_77 (by decide) ?_
  refine lv_istore (pc := 78) (lv' := [(8, .int (0 : Int32)), (7, .int y0), (0, .ref (ad 14)), (5, .int x5), (6, .int x6)]) hx hb dX12_link_78 hl (by decide) rfl (fun ls hl => ?_)
  exact w_X12_link_L80 F (Nat.le_trans (by decide) hR1) (Nat.le_trans (by decide) hR2) _ _ _ _ _ _ h _ _ _ w (lv_sub hl [2, 3, 4, 1, 0] rfl)
set_option maxRecDepth 100000 in
set_option maxHeartbeats 4000000 in
theorem m_X12_link (a1 : Int32) (a2 : Int32) (a3 : Int32) (a4 : Int32) (S S' : SS) (r : Int32) (h : f_X12_link a1 a2 a3 a4 S = some (r, S')) : MT yX12_link cX12_link 9 (some .int) 2 42 (fun ad => [.ref (ad 14), .int a1, .int a2, .int a3, .int a4]) S (some (.int r)) S' := by
  refine MT.of RX12 (fun ad => [(0, .ref (ad 14)), (1, .int a1), (2, .int a2), (3, .int a3), (4, .int a4)]) (by decide) rfl (fun _ => Nat.le_of_ble_eq_true rfl) (fun _ => rfl) ?_
  intro p l e R s m args below meth c dC dI cs ad A hR1 hR2 F H locs ls w hl
  have hx := F.1.1
  have hb := F.1.2.1
  rw [f_X12_link] at h
  refine lv_iload_n (pc := 0) hx hb dX12_link_0 rfl (lv_at hl 2 rfl) ?_
  obtain ⟨r2, S1, hc, h⟩ := bnd_t h
  refine s_csi (pc := 1) [.int a2] (fun ad => [.int a2]) F w (m_X12_isSide _ _ _ _ hc) rfl rfl hl.1 ok_X12_isSide rfl kc_X12_isSide kl_X12_232 ks_X12_isSide kn_X12 ⟨Nat.le_trans (by decide) hR1, Nat.le_trans (by decide) hR2⟩ ⟨Nat.zero_le _, Nat.zero_le _⟩ (Nat.le_of_ble_eq_true rfl) dX12_link_1 (fun H locs w => ?_)
  refine lv_if_eq (pc := 4) (tgt := 15) hx hb dX12_link_4 (by decide) (fun q => ?_) (fun q => ?_)
  · have h := ite_t q h
    refine lv_iconst (pc := 15) (v := -1) hx hb dX12_link_15 (by decide) ?_
    exact s_iret F w h dX12_link_16
  · have h := ite_f q h
    refine lv_iload (pc := 7) hx hb dX12_link_7 (lv_at hl 4 rfl) ?_
    obtain ⟨r4, S3, hc, h⟩ := bnd_t h
    refine s_csi (pc := 9) [.int a4] (fun ad => [.int a4]) F w (m_X12_isSide _ _ _ _ hc) rfl rfl hl.1 ok_X12_isSide rfl kc_X12_isSide kl_X12_232 ks_X12_isSide kn_X12 ⟨Nat.le_trans (by decide) hR1, Nat.le_trans (by decide) hR2⟩ ⟨Nat.zero_le _, Nat.zero_le _⟩ (Nat.le_of_ble_eq_true rfl) dX12_link_9 (fun H locs w => ?_)
    refine lv_if_ne (pc := 12) (tgt := 17) hx hb dX12_link_12 (by decide) (fun q => ?_) (fun q => ?_)
    · have h := ite_f q h
      refine lv_aload_n (pc := 17) hx hb dX12_link_17 rfl (lv_at hl 0 rfl) ?_
      obtain ⟨S5, hc, h⟩ := bndv_t h
      refine s_cvv (pc := 18) [] (fun ad => [.ref (ad 14)]) F w (m_X12_begin  _ _ hc) rfl rfl hl.1 ds_14 vc_X12 rfl ok_X12_begin rfl kc_X12_begin kl_X12_226 ki_X12_begin kv_X12_begin kn_X12 ⟨Nat.le_trans (by decide) hR1, Nat.le_trans (by decide) hR2⟩ ⟨Nat.zero_le _, Nat.zero_le _⟩ (Nat.le_of_ble_eq_true rfl) dX12_link_18 (fun H locs w => ?_)
      refine lv_aload_n (pc := 21) hx hb dX12_link_21 rfl (lv_at hl 0 rfl) ?_
      refine lv_aload_n (pc := 22) hx hb dX12_link_22 rfl (lv_at hl 0 rfl) ?_
      refine lv_iload_n (pc := 23) hx hb dX12_link_23 rfl (lv_at hl 1 rfl) ?_
      obtain ⟨r7, S6, hc, h⟩ := bnd_t h
      refine s_cvi (pc := 24) [.int a1] (fun ad => [.ref (ad 14), .int a1]) F w (m_X12_missTrack _ _ _ _ hc) rfl rfl hl.1 ds_14 vc_X12 rfl ok_X12_missTrack rfl kc_X12_missTrack kl_X12_223 ki_X12_missTrack kv_X12_missTrack kn_X12 ⟨Nat.le_trans (by decide) hR1, Nat.le_trans (by decide) hR2⟩ ⟨Nat.zero_le _, Nat.zero_le _⟩ (Nat.le_of_ble_eq_true rfl) dX12_link_24 (fun H locs w => ?_)
      obtain ⟨r9, S8, hc, h⟩ := bnd_t h
      refine s_cvi (pc := 27) [.int r7] (fun ad => [.ref (ad 14), .int r7]) F w (m_X12_ends _ _ _ _ hc) rfl rfl hl.1 ds_14 vc_X12 rfl ok_X12_ends rfl kc_X12_ends kl_X12_236 ki_X12_ends kv_X12_ends kn_X12 ⟨Nat.le_trans (by decide) hR1, Nat.le_trans (by decide) hR2⟩ ⟨Nat.zero_le _, Nat.zero_le _⟩ (Nat.le_of_ble_eq_true rfl) dX12_link_27 (fun H locs w => ?_)
      refine lv_if_ne (pc := 30) (tgt := 45) hx hb dX12_link_30 (by decide) (fun q => ?_) (fun q => ?_)
      · have h := ite_f q h
        refine lv_bipush (pc := 45) (v := -2) hx hb dX12_link_45 (by decide) ?_
        exact s_iret F w h dX12_link_47
      · have h := ite_t q h
        refine lv_aload_n (pc := 33) hx hb dX12_link_33 rfl (lv_at hl 0 rfl) ?_
        refine lv_aload_n (pc := 34) hx hb dX12_link_34 rfl (lv_at hl 0 rfl) ?_
        refine lv_iload_n (pc := 35) hx hb dX12_link_35 rfl (lv_at hl 3 rfl) ?_
        obtain ⟨r11, S10, hc, h⟩ := bnd_t h
        refine s_cvi (pc := 36) [.int a3] (fun ad => [.ref (ad 14), .int a3]) F w (m_X12_missTrack _ _ _ _ hc) rfl rfl hl.1 ds_14 vc_X12 rfl ok_X12_missTrack rfl kc_X12_missTrack kl_X12_223 ki_X12_missTrack kv_X12_missTrack kn_X12 ⟨Nat.le_trans (by decide) hR1, Nat.le_trans (by decide) hR2⟩ ⟨Nat.zero_le _, Nat.zero_le _⟩ (Nat.le_of_ble_eq_true rfl) dX12_link_36 (fun H locs w => ?_)
        obtain ⟨r13, S12, hc, h⟩ := bnd_t h
        refine s_cvi (pc := 39) [.int r11] (fun ad => [.ref (ad 14), .int r11]) F w (m_X12_ends _ _ _ _ hc) rfl rfl hl.1 ds_14 vc_X12 rfl ok_X12_ends rfl kc_X12_ends kl_X12_236 ki_X12_ends kv_X12_ends kn_X12 ⟨Nat.le_trans (by decide) hR1, Nat.le_trans (by decide) hR2⟩ ⟨Nat.zero_le _, Nat.zero_le _⟩ (Nat.le_of_ble_eq_true rfl) dX12_link_39 (fun H locs w => ?_)
        refine lv_if_eq (pc := 42) (tgt := 48) hx hb dX12_link_42 (by decide) (fun q => ?_) (fun q => ?_)
        · have h := ite_t q h
          refine lv_iconst (pc := 48) (v := 2) hx hb dX12_link_48 (by decide) ?_
          refine lv_iload_n (pc := 49) hx hb dX12_link_49 rfl (lv_at hl 1 rfl) ?_
          refine lv_imul (pc := 50) hx hb dX12_link_50 ?_
          refine lv_iload_n (pc := 51) hx hb dX12_link_51 rfl (lv_at hl 2 rfl) ?_
          refine lv_iadd (pc := 52) hx hb dX12_link_52 ?_
          refine s_nm h (fun z14 ez14 h => ?_)
          rw [← ez14]
          refine lv_istore (pc := 53) (lv' := [(5, .int z14), (0, .ref (ad 14)), (1, .int a1), (2, .int a2), (3, .int a3), (4, .int a4)]) hx hb dX12_link_53 hl (by decide) rfl (fun ls hl => ?_)
          refine lv_iconst (pc := 55) (v := 2) hx hb dX12_link_55 (by decide) ?_
          refine lv_iload_n (pc := 56) hx hb dX12_link_56 rfl (lv_at hl 4 rfl) ?_
          refine lv_imul (pc := 57) hx hb dX12_link_57 ?_
          refine lv_iload (pc := 58) hx hb dX12_link_58 (lv_at hl 5 rfl) ?_
          refine lv_iadd (pc := 60) hx hb dX12_link_60 ?_
          refine s_nm h (fun z15 ez15 h => ?_)
          rw [← ez15]
          refine lv_istore (pc := 61) (lv' := [(6, .int z15), (5, .int z14), (0, .ref (ad 14)), (1, .int a1), (2, .int a2), (3, .int a3), (4, .int a4)]) hx hb dX12_link_61 hl (by decide) rfl (fun ls hl => ?_)
          refine lv_iload (pc := 63) hx hb dX12_link_63 (lv_at hl 1 rfl) ?_
          refine lv_iload (pc := 65) hx hb dX12_link_65 (lv_at hl 0 rfl) ?_
          refine lv_icmp_ne (pc := 67) (tgt := 74) hx hb dX12_link_67 (by decide) (fun q => ?_) (fun q => ?_)
          · have h := ite_f q h
            refine lv_iconst (pc := 74) (v := 0) hx hb dX12_link_74 (by decide) ?_
            exact w_X12_link_j75 F (Nat.le_trans (by decide) hR1) (Nat.le_trans (by decide) hR2) _ _ _ _ h _ _ _ w (lv_sub hl [2, 1, 0] rfl)
          · have h := ite_t q h
            refine lv_iconst (pc := 70) (v := 1) hx hb dX12_link_70 (by decide) ?_
            refine lv_goto (pc := 71) (tgt := 75) hx hb dX12_link_71 (by decide) ?_
            exact w_X12_link_j75 F (Nat.le_trans (by decide) hR1) (Nat.le_trans (by decide) hR2) _ _ _ _ h _ _ _ w (lv_sub hl [2, 1, 0] rfl)
        · have h := ite_f q h
          refine lv_bipush (pc := 45) (v := -2) hx hb dX12_link_45 (by decide) ?_
          exact s_iret F w h dX12_link_47
    · have h := ite_t q h
      refine lv_iconst (pc := 15) (v := -1) hx hb dX12_link_15 (by decide) ?_
      exact s_iret F w h dX12_link_16
def f_X2_setExit (a1 : Int32) (a2 : Int32) (S : SS) : Option (Int32 × SS) :=
  bnd (f_X2_isEnd a1 S) (fun r2 S1 =>
  if r2 = 0 then
    some ((0 : Int32), S1)
  else
    grd (inb a1 48) (
    nm (S1.1 38 a1.toNatClampNeg) (fun z3 =>
    grd (inb a1 48) (wr S1 38 a1.toNatClampNeg (vp_nar .boolean a2) (fun S4 =>
    grd (isB z3) (some (z3, S4)))))))
theorem dX2_setExit_0 : decode cX2_setExit 0 = .ok (.iload_n 1, 1) := by decide +kernel
theorem dX2_setExit_1 : decode cX2_setExit 1 = .ok (.invokestatic 48, 3) := by decide +kernel
theorem dX2_setExit_4 : decode cX2_setExit 4 = .ok (.ifCond .ne 5, 3) := by decide +kernel
theorem dX2_setExit_7 : decode cX2_setExit 7 = .ok (.iconst 0, 1) := by decide +kernel
theorem dX2_setExit_8 : decode cX2_setExit 8 = .ok (.ireturn, 1) := by decide +kernel
theorem dX2_setExit_9 : decode cX2_setExit 9 = .ok (.aload_n 0, 1) := by decide +kernel
theorem dX2_setExit_10 : decode cX2_setExit 10 = .ok (.getfield 27, 3) := by decide +kernel
theorem dX2_setExit_13 : decode cX2_setExit 13 = .ok (.iload_n 1, 1) := by decide +kernel
theorem dX2_setExit_14 : decode cX2_setExit 14 = .ok (.baload, 1) := by decide +kernel
theorem dX2_setExit_15 : decode cX2_setExit 15 = .ok (.istore_n 3, 1) := by decide +kernel
theorem dX2_setExit_16 : decode cX2_setExit 16 = .ok (.aload_n 0, 1) := by decide +kernel
theorem dX2_setExit_17 : decode cX2_setExit 17 = .ok (.getfield 27, 3) := by decide +kernel
theorem dX2_setExit_20 : decode cX2_setExit 20 = .ok (.iload_n 1, 1) := by decide +kernel
theorem dX2_setExit_21 : decode cX2_setExit 21 = .ok (.iload_n 2, 1) := by decide +kernel
theorem dX2_setExit_22 : decode cX2_setExit 22 = .ok (.bastore, 1) := by decide +kernel
theorem dX2_setExit_23 : decode cX2_setExit 23 = .ok (.iload_n 3, 1) := by decide +kernel
theorem dX2_setExit_24 : decode cX2_setExit 24 = .ok (.ireturn, 1) := by decide +kernel
set_option maxRecDepth 100000 in
set_option maxHeartbeats 4000000 in
theorem m_X2_setExit (a1 : Int32) (a2 : Int32) (S S' : SS) (r : Int32) (h : f_X2_setExit a1 a2 S = some (r, S')) : MT yX2_setExit cX2_setExit 4 (some .boolean) 1 20 (fun ad => [.ref (ad 5), .int a1, .int a2]) S (some (.int r)) S' := by
  refine MT.of RX2 (fun ad => [(0, .ref (ad 5)), (1, .int a1), (2, .int a2)]) (by decide) rfl (fun _ => Nat.le_of_ble_eq_true rfl) (fun _ => rfl) ?_
  intro p l e R s m args below meth c dC dI cs ad A hR1 hR2 F H locs ls w hl
  have hx := F.1.1
  have hb := F.1.2.1
  rw [f_X2_setExit] at h
  refine lv_iload_n (pc := 0) hx hb dX2_setExit_0 rfl (lv_at hl 1 rfl) ?_
  obtain ⟨r2, S1, hc, h⟩ := bnd_t h
  refine s_csi (pc := 1) [.int a1] (fun ad => [.int a1]) F w (m_X2_isEnd _ _ _ _ hc) rfl rfl hl.1 ok_X2_isEnd rfl kc_X2_isEnd kl_X2_48 ks_X2_isEnd kn_X2 ⟨Nat.le_trans (by decide) hR1, Nat.le_trans (by decide) hR2⟩ ⟨Nat.zero_le _, Nat.zero_le _⟩ (Nat.le_of_ble_eq_true rfl) dX2_setExit_1 (fun H locs w => ?_)
  refine lv_if_ne (pc := 4) (tgt := 9) hx hb dX2_setExit_4 (by decide) (fun q => ?_) (fun q => ?_)
  · have h := ite_f q h
    refine lv_aload_n (pc := 9) hx hb dX2_setExit_9 rfl (lv_at hl 0 rfl) ?_
    refine s_getR (pc := 10) F w 38 ds_5 (j := 6) vc_X2 vi_X2 rfl (by decide) kf_X2_27 dX2_setExit_10 ?_
    refine lv_iload_n (pc := 13) hx hb dX2_setExit_13 rfl (lv_at hl 1 rfl) ?_
    refine s_zald (pc := 14) F w ds_38 h dX2_setExit_14 (fun h => ?_)
    refine s_nm h (fun z3 ez3 h => ?_)
    rw [← ez3]
    refine lv_istore_n (pc := 15) (lv' := [(3, .int z3), (0, .ref (ad 5)), (1, .int a1), (2, .int a2)]) hx hb dX2_setExit_15 rfl hl (by decide) rfl (fun ls hl => ?_)
    refine lv_aload_n (pc := 16) hx hb dX2_setExit_16 rfl (lv_at hl 1 rfl) ?_
    refine s_getR (pc := 17) F w 38 ds_5 (j := 6) vc_X2 vi_X2 rfl (by decide) kf_X2_27 dX2_setExit_17 ?_
    refine lv_iload_n (pc := 20) hx hb dX2_setExit_20 rfl (lv_at hl 2 rfl) ?_
    refine lv_iload_n (pc := 21) hx hb dX2_setExit_21 rfl (lv_at hl 3 rfl) ?_
    refine s_zast (pc := 22) F w ds_38 h dX2_setExit_22 (fun S4 H locs h w => ?_)
    refine lv_iload_n (pc := 23) hx hb dX2_setExit_23 rfl (lv_at hl 0 rfl) ?_
    exact s_zret F w h dX2_setExit_24
  · have h := ite_t q h
    refine lv_iconst (pc := 7) (v := 0) hx hb dX2_setExit_7 (by decide) ?_
    exact s_zretc F w rfl h dX2_setExit_8
def f_X11_exit (a1 : Int32) (a2 : Int32) (a3 : Int32) (S : SS) : Option (Int32 × SS) :=
  bnd (f_X11_isNot a2 (0 : Int32) (1 : Int32) S) (fun r2 S1 =>
  if r2 = 0 then
    bndv (f_X5_begin  S1) (fun S3 =>
    bnd (f_X2_trackFinding a1 S3) (fun r5 S4 =>
    if r5 = 0 then
      bndv (f_X1_forget  S4) (fun S6 =>
      bnd (f_X2_setExit (((2 : Int32) * a1) + a2) a3 S6) (fun r8 S7 =>
      if r8 = 0 then
        some ((0 : Int32), S7)
      else
        some ((1 : Int32), S7)))
    else
      bnd (f_X5_found r5 S4) (fun r10 S9 =>
      some (r10, S9))))
  else
    some ((-1 : Int32), S1))
theorem dX11_exit_0 : decode cX11_exit 0 = .ok (.iload_n 2, 1) := by decide +kernel
theorem dX11_exit_1 : decode cX11_exit 1 = .ok (.iconst 0, 1) := by decide +kernel
theorem dX11_exit_2 : decode cX11_exit 2 = .ok (.iconst 1, 1) := by decide +kernel
theorem dX11_exit_3 : decode cX11_exit 3 = .ok (.invokestatic 108, 3) := by decide +kernel
theorem dX11_exit_6 : decode cX11_exit 6 = .ok (.ifCond .eq 5, 3) := by decide +kernel
theorem dX11_exit_9 : decode cX11_exit 9 = .ok (.iconst (-1), 1) := by decide +kernel
theorem dX11_exit_10 : decode cX11_exit 10 = .ok (.ireturn, 1) := by decide +kernel
theorem dX11_exit_11 : decode cX11_exit 11 = .ok (.aload_n 0, 1) := by decide +kernel
theorem dX11_exit_12 : decode cX11_exit 12 = .ok (.getfield 10, 3) := by decide +kernel
theorem dX11_exit_15 : decode cX11_exit 15 = .ok (.invokevirtual 95, 3) := by decide +kernel
theorem dX11_exit_18 : decode cX11_exit 18 = .ok (.aload_n 0, 1) := by decide +kernel
theorem dX11_exit_19 : decode cX11_exit 19 = .ok (.getfield 42, 3) := by decide +kernel
theorem dX11_exit_22 : decode cX11_exit 22 = .ok (.iload_n 1, 1) := by decide +kernel
theorem dX11_exit_23 : decode cX11_exit 23 = .ok (.invokevirtual 115, 3) := by decide +kernel
theorem dX11_exit_26 : decode cX11_exit 26 = .ok (.istore 4, 2) := by decide +kernel
theorem dX11_exit_28 : decode cX11_exit 28 = .ok (.iload 4, 2) := by decide +kernel
theorem dX11_exit_30 : decode cX11_exit 30 = .ok (.ifCond .eq 13, 3) := by decide +kernel
theorem dX11_exit_33 : decode cX11_exit 33 = .ok (.aload_n 0, 1) := by decide +kernel
theorem dX11_exit_34 : decode cX11_exit 34 = .ok (.getfield 10, 3) := by decide +kernel
theorem dX11_exit_37 : decode cX11_exit 37 = .ok (.iload 4, 2) := by decide +kernel
theorem dX11_exit_39 : decode cX11_exit 39 = .ok (.invokevirtual 98, 3) := by decide +kernel
theorem dX11_exit_42 : decode cX11_exit 42 = .ok (.ireturn, 1) := by decide +kernel
theorem dX11_exit_43 : decode cX11_exit 43 = .ok (.aload_n 0, 1) := by decide +kernel
theorem dX11_exit_44 : decode cX11_exit 44 = .ok (.getfield 26, 3) := by decide +kernel
theorem dX11_exit_47 : decode cX11_exit 47 = .ok (.invokevirtual 102, 3) := by decide +kernel
theorem dX11_exit_50 : decode cX11_exit 50 = .ok (.aload_n 0, 1) := by decide +kernel
theorem dX11_exit_51 : decode cX11_exit 51 = .ok (.getfield 42, 3) := by decide +kernel
theorem dX11_exit_54 : decode cX11_exit 54 = .ok (.iconst 2, 1) := by decide +kernel
theorem dX11_exit_55 : decode cX11_exit 55 = .ok (.iload_n 1, 1) := by decide +kernel
theorem dX11_exit_56 : decode cX11_exit 56 = .ok (.imul, 1) := by decide +kernel
theorem dX11_exit_57 : decode cX11_exit 57 = .ok (.iload_n 2, 1) := by decide +kernel
theorem dX11_exit_58 : decode cX11_exit 58 = .ok (.iadd, 1) := by decide +kernel
theorem dX11_exit_59 : decode cX11_exit 59 = .ok (.iload_n 3, 1) := by decide +kernel
theorem dX11_exit_60 : decode cX11_exit 60 = .ok (.invokevirtual 132, 3) := by decide +kernel
theorem dX11_exit_63 : decode cX11_exit 63 = .ok (.ifCond .eq 7, 3) := by decide +kernel
theorem dX11_exit_66 : decode cX11_exit 66 = .ok (.iconst 1, 1) := by decide +kernel
theorem dX11_exit_67 : decode cX11_exit 67 = .ok (.goto 4, 3) := by decide +kernel
theorem dX11_exit_70 : decode cX11_exit 70 = .ok (.iconst 0, 1) := by decide +kernel
theorem dX11_exit_71 : decode cX11_exit 71 = .ok (.ireturn, 1) := by decide +kernel
set_option maxRecDepth 100000 in
set_option maxHeartbeats 4000000 in
theorem m_X11_exit (a1 : Int32) (a2 : Int32) (a3 : Int32) (S S' : SS) (r : Int32) (h : f_X11_exit a1 a2 a3 S = some (r, S')) : MT yX11_exit cX11_exit 5 (some .int) 2 43 (fun ad => [.ref (ad 0), .int a1, .int a2, .int a3]) S (some (.int r)) S' := by
  refine MT.of RX11 (fun ad => [(0, .ref (ad 0)), (1, .int a1), (2, .int a2), (3, .int a3)]) (by decide) rfl (fun _ => Nat.le_of_ble_eq_true rfl) (fun _ => rfl) ?_
  intro p l e R s m args below meth c dC dI cs ad A hR1 hR2 F H locs ls w hl
  have hx := F.1.1
  have hb := F.1.2.1
  rw [f_X11_exit] at h
  refine lv_iload_n (pc := 0) hx hb dX11_exit_0 rfl (lv_at hl 2 rfl) ?_
  refine lv_iconst (pc := 1) (v := 0) hx hb dX11_exit_1 (by decide) ?_
  refine lv_iconst (pc := 2) (v := 1) hx hb dX11_exit_2 (by decide) ?_
  obtain ⟨r2, S1, hc, h⟩ := bnd_t h
  refine s_csi (pc := 3) [.int a2, .int (0 : Int32), .int (1 : Int32)] (fun ad => [.int a2, .int (0 : Int32), .int (1 : Int32)]) F w (m_X11_isNot _ _ _ _ _ _ hc) rfl rfl hl.1 ok_X11_isNot rfl kc_X11_isNot kl_X11_108 ks_X11_isNot kn_X11 ⟨Nat.le_trans (by decide) hR1, Nat.le_trans (by decide) hR2⟩ ⟨Nat.zero_le _, Nat.zero_le _⟩ (Nat.le_of_ble_eq_true rfl) dX11_exit_3 (fun H locs w => ?_)
  refine lv_if_eq (pc := 6) (tgt := 11) hx hb dX11_exit_6 (by decide) (fun q => ?_) (fun q => ?_)
  · have h := ite_t q h
    refine lv_aload_n (pc := 11) hx hb dX11_exit_11 rfl (lv_at hl 0 rfl) ?_
    refine s_getR (pc := 12) F w 1 ds_0 (j := 0) vc_X11 vi_X11 rfl (by decide) kf_X11_10 dX11_exit_12 ?_
    obtain ⟨S3, hc, h⟩ := bndv_t h
    refine s_cvv (pc := 15) [] (fun ad => [.ref (ad 1)]) F w (m_X5_begin  _ _ hc) rfl rfl hl.1 ds_1 vc_X5 rfl ok_X5_begin rfl kc_X5_begin kl_X11_95 ki_X5_begin kv_X5_begin kn_X5 ⟨Nat.le_trans (by decide) hR1, Nat.le_trans (by decide) hR2⟩ ⟨Nat.zero_le _, Nat.zero_le _⟩ (Nat.le_of_ble_eq_true rfl) dX11_exit_15 (fun H locs w => ?_)
    refine lv_aload_n (pc := 18) hx hb dX11_exit_18 rfl (lv_at hl 0 rfl) ?_
    refine s_getR (pc := 19) F w 5 ds_0 (j := 4) vc_X11 vi_X11 rfl (by decide) kf_X11_42 dX11_exit_19 ?_
    refine lv_iload_n (pc := 22) hx hb dX11_exit_22 rfl (lv_at hl 1 rfl) ?_
    obtain ⟨r5, S4, hc, h⟩ := bnd_t h
    refine s_cvi (pc := 23) [.int a1] (fun ad => [.ref (ad 5), .int a1]) F w (m_X2_trackFinding _ _ _ _ hc) rfl rfl hl.1 ds_5 vc_X2 rfl ok_X2_trackFinding rfl kc_X2_trackFinding kl_X11_115 ki_X2_trackFinding kv_X2_trackFinding kn_X2 ⟨Nat.le_trans (by decide) hR1, Nat.le_trans (by decide) hR2⟩ ⟨Nat.zero_le _, Nat.zero_le _⟩ (Nat.le_of_ble_eq_true rfl) dX11_exit_23 (fun H locs w => ?_)
    refine lv_istore (pc := 26) (lv' := [(4, .int r5), (0, .ref (ad 0)), (1, .int a1), (2, .int a2), (3, .int a3)]) hx hb dX11_exit_26 hl (by decide) rfl (fun ls hl => ?_)
    refine lv_iload (pc := 28) hx hb dX11_exit_28 (lv_at hl 0 rfl) ?_
    refine lv_if_eq (pc := 30) (tgt := 43) hx hb dX11_exit_30 (by decide) (fun q => ?_) (fun q => ?_)
    · have h := ite_t q h
      refine lv_aload_n (pc := 43) hx hb dX11_exit_43 rfl (lv_at hl 1 rfl) ?_
      refine s_getR (pc := 44) F w 3 ds_0 (j := 2) vc_X11 vi_X11 rfl (by decide) kf_X11_26 dX11_exit_44 ?_
      obtain ⟨S6, hc, h⟩ := bndv_t h
      refine s_cvv (pc := 47) [] (fun ad => [.ref (ad 3)]) F w (m_X1_forget  _ _ hc) rfl rfl hl.1 ds_3 vc_X1 rfl ok_X1_forget rfl kc_X1_forget kl_X11_102 ki_X1_forget kv_X1_forget kn_X1 ⟨Nat.le_trans (by decide) hR1, Nat.le_trans (by decide) hR2⟩ ⟨Nat.zero_le _, Nat.zero_le _⟩ (Nat.le_of_ble_eq_true rfl) dX11_exit_47 (fun H locs w => ?_)
      refine lv_aload_n (pc := 50) hx hb dX11_exit_50 rfl (lv_at hl 1 rfl) ?_
      refine s_getR (pc := 51) F w 5 ds_0 (j := 4) vc_X11 vi_X11 rfl (by decide) kf_X11_42 dX11_exit_51 ?_
      refine lv_iconst (pc := 54) (v := 2) hx hb dX11_exit_54 (by decide) ?_
      refine lv_iload_n (pc := 55) hx hb dX11_exit_55 rfl (lv_at hl 2 rfl) ?_
      refine lv_imul (pc := 56) hx hb dX11_exit_56 ?_
      refine lv_iload_n (pc := 57) hx hb dX11_exit_57 rfl (lv_at hl 3 rfl) ?_
      refine lv_iadd (pc := 58) hx hb dX11_exit_58 ?_
      refine lv_iload_n (pc := 59) hx hb dX11_exit_59 rfl (lv_at hl 4 rfl) ?_
      obtain ⟨r8, S7, hc, h⟩ := bnd_t h
      refine s_cvi (pc := 60) [.int (((2 : Int32) * a1) + a2), .int a3] (fun ad => [.ref (ad 5), .int (((2 : Int32) * a1) + a2), .int a3]) F w (m_X2_setExit _ _ _ _ _ hc) rfl rfl hl.1 ds_5 vc_X2 rfl ok_X2_setExit rfl kc_X2_setExit kl_X11_132 ki_X2_setExit kv_X2_setExit kn_X2 ⟨Nat.le_trans (by decide) hR1, Nat.le_trans (by decide) hR2⟩ ⟨Nat.zero_le _, Nat.zero_le _⟩ (Nat.le_of_ble_eq_true rfl) dX11_exit_60 (fun H locs w => ?_)
      refine lv_if_eq (pc := 63) (tgt := 70) hx hb dX11_exit_63 (by decide) (fun q => ?_) (fun q => ?_)
      · have h := ite_t q h
        refine lv_iconst (pc := 70) (v := 0) hx hb dX11_exit_70 (by decide) ?_
        exact s_iret F w h dX11_exit_71
      · have h := ite_f q h
        refine lv_iconst (pc := 66) (v := 1) hx hb dX11_exit_66 (by decide) ?_
        refine lv_goto (pc := 67) (tgt := 71) hx hb dX11_exit_67 (by decide) ?_
        exact s_iret F w h dX11_exit_71
    · have h := ite_f q h
      refine lv_aload_n (pc := 33) hx hb dX11_exit_33 rfl (lv_at hl 1 rfl) ?_
      refine s_getR (pc := 34) F w 1 ds_0 (j := 0) vc_X11 vi_X11 rfl (by decide) kf_X11_10 dX11_exit_34 ?_
      refine lv_iload (pc := 37) hx hb dX11_exit_37 (lv_at hl 0 rfl) ?_
      obtain ⟨r10, S9, hc, h⟩ := bnd_t h
      refine s_cvi (pc := 39) [.int r5] (fun ad => [.ref (ad 1), .int r5]) F w (m_X5_found _ _ _ _ hc) rfl rfl hl.1 ds_1 vc_X5 rfl ok_X5_found rfl kc_X5_found kl_X11_98 ki_X5_found kv_X5_found kn_X5 ⟨Nat.le_trans (by decide) hR1, Nat.le_trans (by decide) hR2⟩ ⟨Nat.zero_le _, Nat.zero_le _⟩ (Nat.le_of_ble_eq_true rfl) dX11_exit_39 (fun H locs w => ?_)
      exact s_iret F w h dX11_exit_42
  · have h := ite_f q h
    refine lv_iconst (pc := 9) (v := -1) hx hb dX11_exit_9 (by decide) ?_
    exact s_iret F w h dX11_exit_10
def f_X12_exit_j46  (x1 : Int32) (x2 : Int32) (x3 : Int32) (y0 : Int32) (S : SS) : Option (Int32 × SS) :=
    grd (inb (((2 : Int32) * x1) + x2) 48) (wr S 71 (((2 : Int32) * x1) + x2).toNatClampNeg (vp_nar .boolean x3) (fun S8 =>
    bndv (f_X12_forget  S8) (fun S9 =>
    some (y0, S9))))
def f_X12_exit (a1 : Int32) (a2 : Int32) (a3 : Int32) (S : SS) : Option (Int32 × SS) :=
  bnd (f_X12_isSide a2 S) (fun r2 S1 =>
  if r2 = 0 then
    some ((-1 : Int32), S1)
  else
    bndv (f_X12_begin  S1) (fun S3 =>
    bnd (f_X12_missTrack a1 S3) (fun r5 S4 =>
    bnd (f_X12_ends r5 S4) (fun r7 S6 =>
    if r7 = 0 then
      grd (inb (((2 : Int32) * a1) + a2) 48) (
      if (S6.1 71 (((2 : Int32) * a1) + a2).toNatClampNeg) = 0 then
        f_X12_exit_j46 a1 a2 a3 (0 : Int32) S6
      else
        f_X12_exit_j46 a1 a2 a3 (1 : Int32) S6)
    else
      some ((-2 : Int32), S6)))))
theorem dX12_exit_0 : decode cX12_exit 0 = .ok (.iload_n 2, 1) := by decide +kernel
theorem dX12_exit_1 : decode cX12_exit 1 = .ok (.invokestatic 232, 3) := by decide +kernel
theorem dX12_exit_4 : decode cX12_exit 4 = .ok (.ifCond .ne 5, 3) := by decide +kernel
theorem dX12_exit_7 : decode cX12_exit 7 = .ok (.iconst (-1), 1) := by decide +kernel
theorem dX12_exit_8 : decode cX12_exit 8 = .ok (.ireturn, 1) := by decide +kernel
theorem dX12_exit_9 : decode cX12_exit 9 = .ok (.aload_n 0, 1) := by decide +kernel
theorem dX12_exit_10 : decode cX12_exit 10 = .ok (.invokevirtual 226, 3) := by decide +kernel
theorem dX12_exit_13 : decode cX12_exit 13 = .ok (.aload_n 0, 1) := by decide +kernel
theorem dX12_exit_14 : decode cX12_exit 14 = .ok (.aload_n 0, 1) := by decide +kernel
theorem dX12_exit_15 : decode cX12_exit 15 = .ok (.iload_n 1, 1) := by decide +kernel
theorem dX12_exit_16 : decode cX12_exit 16 = .ok (.invokevirtual 223, 3) := by decide +kernel
theorem dX12_exit_19 : decode cX12_exit 19 = .ok (.invokevirtual 236, 3) := by decide +kernel
theorem dX12_exit_22 : decode cX12_exit 22 = .ok (.ifCond .eq 6, 3) := by decide +kernel
theorem dX12_exit_25 : decode cX12_exit 25 = .ok (.bipush (-2), 2) := by decide +kernel
theorem dX12_exit_27 : decode cX12_exit 27 = .ok (.ireturn, 1) := by decide +kernel
theorem dX12_exit_28 : decode cX12_exit 28 = .ok (.aload_n 0, 1) := by decide +kernel
theorem dX12_exit_29 : decode cX12_exit 29 = .ok (.getfield 26, 3) := by decide +kernel
theorem dX12_exit_32 : decode cX12_exit 32 = .ok (.iconst 2, 1) := by decide +kernel
theorem dX12_exit_33 : decode cX12_exit 33 = .ok (.iload_n 1, 1) := by decide +kernel
theorem dX12_exit_34 : decode cX12_exit 34 = .ok (.imul, 1) := by decide +kernel
theorem dX12_exit_35 : decode cX12_exit 35 = .ok (.iload_n 2, 1) := by decide +kernel
theorem dX12_exit_36 : decode cX12_exit 36 = .ok (.iadd, 1) := by decide +kernel
theorem dX12_exit_37 : decode cX12_exit 37 = .ok (.baload, 1) := by decide +kernel
theorem dX12_exit_38 : decode cX12_exit 38 = .ok (.ifCond .eq 7, 3) := by decide +kernel
theorem dX12_exit_41 : decode cX12_exit 41 = .ok (.iconst 1, 1) := by decide +kernel
theorem dX12_exit_42 : decode cX12_exit 42 = .ok (.goto 4, 3) := by decide +kernel
theorem dX12_exit_45 : decode cX12_exit 45 = .ok (.iconst 0, 1) := by decide +kernel
theorem dX12_exit_46 : decode cX12_exit 46 = .ok (.istore 4, 2) := by decide +kernel
theorem dX12_exit_48 : decode cX12_exit 48 = .ok (.aload_n 0, 1) := by decide +kernel
theorem dX12_exit_49 : decode cX12_exit 49 = .ok (.getfield 26, 3) := by decide +kernel
theorem dX12_exit_52 : decode cX12_exit 52 = .ok (.iconst 2, 1) := by decide +kernel
theorem dX12_exit_53 : decode cX12_exit 53 = .ok (.iload_n 1, 1) := by decide +kernel
theorem dX12_exit_54 : decode cX12_exit 54 = .ok (.imul, 1) := by decide +kernel
theorem dX12_exit_55 : decode cX12_exit 55 = .ok (.iload_n 2, 1) := by decide +kernel
theorem dX12_exit_56 : decode cX12_exit 56 = .ok (.iadd, 1) := by decide +kernel
theorem dX12_exit_57 : decode cX12_exit 57 = .ok (.iload_n 3, 1) := by decide +kernel
theorem dX12_exit_58 : decode cX12_exit 58 = .ok (.bastore, 1) := by decide +kernel
theorem dX12_exit_59 : decode cX12_exit 59 = .ok (.aload_n 0, 1) := by decide +kernel
theorem dX12_exit_60 : decode cX12_exit 60 = .ok (.invokevirtual 229, 3) := by decide +kernel
theorem dX12_exit_63 : decode cX12_exit 63 = .ok (.iload 4, 2) := by decide +kernel
theorem dX12_exit_65 : decode cX12_exit 65 = .ok (.ireturn, 1) := by decide +kernel
set_option maxRecDepth 100000 in
set_option maxHeartbeats 4000000 in
theorem w_X12_exit_j46 {p : Program} {l : Launch} {e : Env} {R : Room} {s : State} {m : MethodId} {args : Array Value} {below : List Frame} {meth : Method} {c : Code} {dC : Nat → ClassId} {dI : Nat → Nat → Nat} {cs : Nat → ClassId} {ad : Nat → Nat} {A : Nat → Prop} {D0 : Nat → Nat} {S' : SS} {r : Int32} (F : Fx p s m args meth c cX12_exit 5 RX12 (some .int) dC dI cs A) (hR1 : 1 ≤ R.frames) (hR2 : 20 ≤ R.locals) (x1 : Int32) (x2 : Int32) (x3 : Int32) (y0 : Int32) (S : SS) (h : f_X12_exit_j46 x1 x2 x3 y0 S = some (r, S')) : AW p l e R s m args below meth c dC dI cs ad A D0 (some (.int r)) S' 5 46 [(0, .ref (ad 14)), (1, .int x1), (2, .int x2), (3, .int x3)] [.int y0] S := by
  have hx := F.1.1
  have hb := F.1.2.1
  intro H locs ls w hl
  rw [f_X12_exit_j46] at h
  refine lv_istore (pc := 46) (lv' := [(4, .int y0), (0, .ref (ad 14)), (1, .int x1), (2, .int x2), (3, .int x3)]) hx hb dX12_exit_46 hl (by decide) rfl (fun ls hl => ?_)
  refine lv_aload_n (pc := 48) hx hb dX12_exit_48 rfl (lv_at hl 1 rfl) ?_
  refine s_getR (pc := 49) F w 71 ds_14 (j := 9) vc_X12 vi_X12 rfl (by decide) kf_X12_26 dX12_exit_49 ?_
  refine lv_iconst (pc := 52) (v := 2) hx hb dX12_exit_52 (by decide) ?_
  refine lv_iload_n (pc := 53) hx hb dX12_exit_53 rfl (lv_at hl 2 rfl) ?_
  refine lv_imul (pc := 54) hx hb dX12_exit_54 ?_
  refine lv_iload_n (pc := 55) hx hb dX12_exit_55 rfl (lv_at hl 3 rfl) ?_
  refine lv_iadd (pc := 56) hx hb dX12_exit_56 ?_
  refine lv_iload_n (pc := 57) hx hb dX12_exit_57 rfl (lv_at hl 4 rfl) ?_
  refine s_zast (pc := 58) F w ds_71 h dX12_exit_58 (fun S8 H locs h w => ?_)
  refine lv_aload_n (pc := 59) hx hb dX12_exit_59 rfl (lv_at hl 1 rfl) ?_
  obtain ⟨S9, hc, h⟩ := bndv_t h
  refine s_cvv (pc := 60) [] (fun ad => [.ref (ad 14)]) F w (m_X12_forget  _ _ hc) rfl rfl hl.1 ds_14 vc_X12 rfl ok_X12_forget rfl kc_X12_forget kl_X12_229 ki_X12_forget kv_X12_forget kn_X12 ⟨Nat.le_trans (by decide) hR1, Nat.le_trans (by decide) hR2⟩ ⟨Nat.zero_le _, Nat.zero_le _⟩ (Nat.le_of_ble_eq_true rfl) dX12_exit_60 (fun H locs w => ?_)
  refine lv_iload (pc := 63) hx hb dX12_exit_63 (lv_at hl 0 rfl) ?_
  exact s_iret F w h dX12_exit_65
set_option maxRecDepth 100000 in
set_option maxHeartbeats 4000000 in
theorem m_X12_exit (a1 : Int32) (a2 : Int32) (a3 : Int32) (S S' : SS) (r : Int32) (h : f_X12_exit a1 a2 a3 S = some (r, S')) : MT yX12_exit cX12_exit 5 (some .int) 2 42 (fun ad => [.ref (ad 14), .int a1, .int a2, .int a3]) S (some (.int r)) S' := by
  refine MT.of RX12 (fun ad => [(0, .ref (ad 14)), (1, .int a1), (2, .int a2), (3, .int a3)]) (by decide) rfl (fun _ => Nat.le_of_ble_eq_true rfl) (fun _ => rfl) ?_
  intro p l e R s m args below meth c dC dI cs ad A hR1 hR2 F H locs ls w hl
  have hx := F.1.1
  have hb := F.1.2.1
  rw [f_X12_exit] at h
  refine lv_iload_n (pc := 0) hx hb dX12_exit_0 rfl (lv_at hl 2 rfl) ?_
  obtain ⟨r2, S1, hc, h⟩ := bnd_t h
  refine s_csi (pc := 1) [.int a2] (fun ad => [.int a2]) F w (m_X12_isSide _ _ _ _ hc) rfl rfl hl.1 ok_X12_isSide rfl kc_X12_isSide kl_X12_232 ks_X12_isSide kn_X12 ⟨Nat.le_trans (by decide) hR1, Nat.le_trans (by decide) hR2⟩ ⟨Nat.zero_le _, Nat.zero_le _⟩ (Nat.le_of_ble_eq_true rfl) dX12_exit_1 (fun H locs w => ?_)
  refine lv_if_ne (pc := 4) (tgt := 9) hx hb dX12_exit_4 (by decide) (fun q => ?_) (fun q => ?_)
  · have h := ite_f q h
    refine lv_aload_n (pc := 9) hx hb dX12_exit_9 rfl (lv_at hl 0 rfl) ?_
    obtain ⟨S3, hc, h⟩ := bndv_t h
    refine s_cvv (pc := 10) [] (fun ad => [.ref (ad 14)]) F w (m_X12_begin  _ _ hc) rfl rfl hl.1 ds_14 vc_X12 rfl ok_X12_begin rfl kc_X12_begin kl_X12_226 ki_X12_begin kv_X12_begin kn_X12 ⟨Nat.le_trans (by decide) hR1, Nat.le_trans (by decide) hR2⟩ ⟨Nat.zero_le _, Nat.zero_le _⟩ (Nat.le_of_ble_eq_true rfl) dX12_exit_10 (fun H locs w => ?_)
    refine lv_aload_n (pc := 13) hx hb dX12_exit_13 rfl (lv_at hl 0 rfl) ?_
    refine lv_aload_n (pc := 14) hx hb dX12_exit_14 rfl (lv_at hl 0 rfl) ?_
    refine lv_iload_n (pc := 15) hx hb dX12_exit_15 rfl (lv_at hl 1 rfl) ?_
    obtain ⟨r5, S4, hc, h⟩ := bnd_t h
    refine s_cvi (pc := 16) [.int a1] (fun ad => [.ref (ad 14), .int a1]) F w (m_X12_missTrack _ _ _ _ hc) rfl rfl hl.1 ds_14 vc_X12 rfl ok_X12_missTrack rfl kc_X12_missTrack kl_X12_223 ki_X12_missTrack kv_X12_missTrack kn_X12 ⟨Nat.le_trans (by decide) hR1, Nat.le_trans (by decide) hR2⟩ ⟨Nat.zero_le _, Nat.zero_le _⟩ (Nat.le_of_ble_eq_true rfl) dX12_exit_16 (fun H locs w => ?_)
    obtain ⟨r7, S6, hc, h⟩ := bnd_t h
    refine s_cvi (pc := 19) [.int r5] (fun ad => [.ref (ad 14), .int r5]) F w (m_X12_ends _ _ _ _ hc) rfl rfl hl.1 ds_14 vc_X12 rfl ok_X12_ends rfl kc_X12_ends kl_X12_236 ki_X12_ends kv_X12_ends kn_X12 ⟨Nat.le_trans (by decide) hR1, Nat.le_trans (by decide) hR2⟩ ⟨Nat.zero_le _, Nat.zero_le _⟩ (Nat.le_of_ble_eq_true rfl) dX12_exit_19 (fun H locs w => ?_)
    refine lv_if_eq (pc := 22) (tgt := 28) hx hb dX12_exit_22 (by decide) (fun q => ?_) (fun q => ?_)
    · have h := ite_t q h
      refine lv_aload_n (pc := 28) hx hb dX12_exit_28 rfl (lv_at hl 0 rfl) ?_
      refine s_getR (pc := 29) F w 71 ds_14 (j := 9) vc_X12 vi_X12 rfl (by decide) kf_X12_26 dX12_exit_29 ?_
      refine lv_iconst (pc := 32) (v := 2) hx hb dX12_exit_32 (by decide) ?_
      refine lv_iload_n (pc := 33) hx hb dX12_exit_33 rfl (lv_at hl 1 rfl) ?_
      refine lv_imul (pc := 34) hx hb dX12_exit_34 ?_
      refine lv_iload_n (pc := 35) hx hb dX12_exit_35 rfl (lv_at hl 2 rfl) ?_
      refine lv_iadd (pc := 36) hx hb dX12_exit_36 ?_
      refine s_zald (pc := 37) F w ds_71 h dX12_exit_37 (fun h => ?_)
      refine lv_if_eq (pc := 38) (tgt := 45) hx hb dX12_exit_38 (by decide) (fun q => ?_) (fun q => ?_)
      · have h := ite_t q h
        refine lv_iconst (pc := 45) (v := 0) hx hb dX12_exit_45 (by decide) ?_
        exact w_X12_exit_j46 F (Nat.le_trans (by decide) hR1) (Nat.le_trans (by decide) hR2) _ _ _ _ _ h _ _ _ w (lv_sub hl [0, 1, 2, 3] rfl)
      · have h := ite_f q h
        refine lv_iconst (pc := 41) (v := 1) hx hb dX12_exit_41 (by decide) ?_
        refine lv_goto (pc := 42) (tgt := 46) hx hb dX12_exit_42 (by decide) ?_
        exact w_X12_exit_j46 F (Nat.le_trans (by decide) hR1) (Nat.le_trans (by decide) hR2) _ _ _ _ _ h _ _ _ w (lv_sub hl [0, 1, 2, 3] rfl)
    · have h := ite_f q h
      refine lv_bipush (pc := 25) (v := -2) hx hb dX12_exit_25 (by decide) ?_
      exact s_iret F w h dX12_exit_27
  · have h := ite_t q h
    refine lv_iconst (pc := 7) (v := -1) hx hb dX12_exit_7 (by decide) ?_
    exact s_iret F w h dX12_exit_8
def f_X2_placesOf (a1 : Int32) (S : SS) : Option (Int32 × SS) :=
  if a1 < 0 then
    some ((0 : Int32), S)
  else
    if (S.1 5 7) ≤ a1 then
      some ((0 : Int32), S)
    else
      grd (inb a1 24) (
      some (S.1 33 a1.toNatClampNeg, S))
theorem dX2_placesOf_0 : decode cX2_placesOf 0 = .ok (.iload_n 1, 1) := by decide +kernel
theorem dX2_placesOf_1 : decode cX2_placesOf 1 = .ok (.ifCond .lt 20, 3) := by decide +kernel
theorem dX2_placesOf_4 : decode cX2_placesOf 4 = .ok (.iload_n 1, 1) := by decide +kernel
theorem dX2_placesOf_5 : decode cX2_placesOf 5 = .ok (.aload_n 0, 1) := by decide +kernel
theorem dX2_placesOf_6 : decode cX2_placesOf 6 = .ok (.getfield 31, 3) := by decide +kernel
theorem dX2_placesOf_9 : decode cX2_placesOf 9 = .ok (.if_icmp .ge 12, 3) := by decide +kernel
theorem dX2_placesOf_12 : decode cX2_placesOf 12 = .ok (.aload_n 0, 1) := by decide +kernel
theorem dX2_placesOf_13 : decode cX2_placesOf 13 = .ok (.getfield 11, 3) := by decide +kernel
theorem dX2_placesOf_16 : decode cX2_placesOf 16 = .ok (.iload_n 1, 1) := by decide +kernel
theorem dX2_placesOf_17 : decode cX2_placesOf 17 = .ok (.iaload, 1) := by decide +kernel
theorem dX2_placesOf_18 : decode cX2_placesOf 18 = .ok (.goto 4, 3) := by decide +kernel
theorem dX2_placesOf_21 : decode cX2_placesOf 21 = .ok (.iconst 0, 1) := by decide +kernel
theorem dX2_placesOf_22 : decode cX2_placesOf 22 = .ok (.ireturn, 1) := by decide +kernel
set_option maxRecDepth 100000 in
set_option maxHeartbeats 4000000 in
theorem m_X2_placesOf (a1 : Int32) (S S' : SS) (r : Int32) (h : f_X2_placesOf a1 S = some (r, S')) : MT yX2_placesOf cX2_placesOf 2 (some .int) 0 0 (fun ad => [.ref (ad 5), .int a1]) S (some (.int r)) S' := by
  refine MT.of RX2 (fun ad => [(0, .ref (ad 5)), (1, .int a1)]) (by decide) rfl (fun _ => Nat.le_of_ble_eq_true rfl) (fun _ => rfl) ?_
  intro p l e R s m args below meth c dC dI cs ad A hR1 hR2 F H locs ls w hl
  have hx := F.1.1
  have hb := F.1.2.1
  rw [f_X2_placesOf] at h
  refine lv_iload_n (pc := 0) hx hb dX2_placesOf_0 rfl (lv_at hl 1 rfl) ?_
  refine lv_if_lt (pc := 1) (tgt := 21) hx hb dX2_placesOf_1 (by decide) (fun q => ?_) (fun q => ?_)
  · have h := ite_t q h
    refine lv_iconst (pc := 21) (v := 0) hx hb dX2_placesOf_21 (by decide) ?_
    exact s_iret F w h dX2_placesOf_22
  · have h := ite_f q h
    refine lv_iload_n (pc := 4) hx hb dX2_placesOf_4 rfl (lv_at hl 1 rfl) ?_
    refine lv_aload_n (pc := 5) hx hb dX2_placesOf_5 rfl (lv_at hl 0 rfl) ?_
    refine s_getI (pc := 6) F w ds_5 (j := 7) vc_X2 vi_X2 rfl (by decide) kf_X2_31 dX2_placesOf_6 ?_
    refine lv_icmp_ge (pc := 9) (tgt := 21) hx hb dX2_placesOf_9 (by decide) (fun q => ?_) (fun q => ?_)
    · have h := ite_t q h
      refine lv_iconst (pc := 21) (v := 0) hx hb dX2_placesOf_21 (by decide) ?_
      exact s_iret F w h dX2_placesOf_22
    · have h := ite_f q h
      refine lv_aload_n (pc := 12) hx hb dX2_placesOf_12 rfl (lv_at hl 0 rfl) ?_
      refine s_getR (pc := 13) F w 33 ds_5 (j := 1) vc_X2 vi_X2 rfl (by decide) kf_X2_11 dX2_placesOf_13 ?_
      refine lv_iload_n (pc := 16) hx hb dX2_placesOf_16 rfl (lv_at hl 1 rfl) ?_
      refine s_iald (pc := 17) F w ds_33 h dX2_placesOf_17 (fun h => ?_)
      refine lv_goto (pc := 18) (tgt := 22) hx hb dX2_placesOf_18 (by decide) ?_
      exact s_iret F w h dX2_placesOf_22
def f_X2_placeFinding (a1 : Int32) (a2 : Int32) (S : SS) : Option (Int32 × SS) :=
  bnd (f_X2_trackFinding a1 S) (fun r2 S1 =>
  if r2 = 0 then
    if a2 < 0 then
      some ((3 : Int32), S1)
    else
      bnd (f_X2_placesOf a1 S1) (fun r4 S3 =>
      if a2 < r4 then
        some (r2, S3)
      else
        some ((3 : Int32), S3))
  else
    some (r2, S1))
theorem dX2_placeFinding_0 : decode cX2_placeFinding 0 = .ok (.aload_n 0, 1) := by decide +kernel
theorem dX2_placeFinding_1 : decode cX2_placeFinding 1 = .ok (.iload_n 1, 1) := by decide +kernel
theorem dX2_placeFinding_2 : decode cX2_placeFinding 2 = .ok (.invokevirtual 58, 3) := by decide +kernel
theorem dX2_placeFinding_5 : decode cX2_placeFinding 5 = .ok (.istore_n 3, 1) := by decide +kernel
theorem dX2_placeFinding_6 : decode cX2_placeFinding 6 = .ok (.iload_n 3, 1) := by decide +kernel
theorem dX2_placeFinding_7 : decode cX2_placeFinding 7 = .ok (.ifCond .ne 18, 3) := by decide +kernel
theorem dX2_placeFinding_10 : decode cX2_placeFinding 10 = .ok (.iload_n 2, 1) := by decide +kernel
theorem dX2_placeFinding_11 : decode cX2_placeFinding 11 = .ok (.ifCond .lt 12, 3) := by decide +kernel
theorem dX2_placeFinding_14 : decode cX2_placeFinding 14 = .ok (.iload_n 2, 1) := by decide +kernel
theorem dX2_placeFinding_15 : decode cX2_placeFinding 15 = .ok (.aload_n 0, 1) := by decide +kernel
theorem dX2_placeFinding_16 : decode cX2_placeFinding 16 = .ok (.iload_n 1, 1) := by decide +kernel
theorem dX2_placeFinding_17 : decode cX2_placeFinding 17 = .ok (.invokevirtual 62, 3) := by decide +kernel
theorem dX2_placeFinding_20 : decode cX2_placeFinding 20 = .ok (.if_icmp .lt 5, 3) := by decide +kernel
theorem dX2_placeFinding_23 : decode cX2_placeFinding 23 = .ok (.iconst 3, 1) := by decide +kernel
theorem dX2_placeFinding_24 : decode cX2_placeFinding 24 = .ok (.ireturn, 1) := by decide +kernel
theorem dX2_placeFinding_25 : decode cX2_placeFinding 25 = .ok (.iload_n 3, 1) := by decide +kernel
theorem dX2_placeFinding_26 : decode cX2_placeFinding 26 = .ok (.ireturn, 1) := by decide +kernel
set_option maxRecDepth 100000 in
set_option maxHeartbeats 4000000 in
theorem m_X2_placeFinding (a1 : Int32) (a2 : Int32) (S S' : SS) (r : Int32) (h : f_X2_placeFinding a1 a2 S = some (r, S')) : MT yX2_placeFinding cX2_placeFinding 4 (some .int) 1 21 (fun ad => [.ref (ad 5), .int a1, .int a2]) S (some (.int r)) S' := by
  refine MT.of RX2 (fun ad => [(0, .ref (ad 5)), (1, .int a1), (2, .int a2)]) (by decide) rfl (fun _ => Nat.le_of_ble_eq_true rfl) (fun _ => rfl) ?_
  intro p l e R s m args below meth c dC dI cs ad A hR1 hR2 F H locs ls w hl
  have hx := F.1.1
  have hb := F.1.2.1
  rw [f_X2_placeFinding] at h
  refine lv_aload_n (pc := 0) hx hb dX2_placeFinding_0 rfl (lv_at hl 0 rfl) ?_
  refine lv_iload_n (pc := 1) hx hb dX2_placeFinding_1 rfl (lv_at hl 1 rfl) ?_
  obtain ⟨r2, S1, hc, h⟩ := bnd_t h
  refine s_cvi (pc := 2) [.int a1] (fun ad => [.ref (ad 5), .int a1]) F w (m_X2_trackFinding _ _ _ _ hc) rfl rfl hl.1 ds_5 vc_X2 rfl ok_X2_trackFinding rfl kc_X2_trackFinding kl_X2_58 ki_X2_trackFinding kv_X2_trackFinding kn_X2 ⟨Nat.le_trans (by decide) hR1, Nat.le_trans (by decide) hR2⟩ ⟨Nat.zero_le _, Nat.zero_le _⟩ (Nat.le_of_ble_eq_true rfl) dX2_placeFinding_2 (fun H locs w => ?_)
  refine lv_istore_n (pc := 5) (lv' := [(3, .int r2), (0, .ref (ad 5)), (1, .int a1), (2, .int a2)]) hx hb dX2_placeFinding_5 rfl hl (by decide) rfl (fun ls hl => ?_)
  refine lv_iload_n (pc := 6) hx hb dX2_placeFinding_6 rfl (lv_at hl 0 rfl) ?_
  refine lv_if_ne (pc := 7) (tgt := 25) hx hb dX2_placeFinding_7 (by decide) (fun q => ?_) (fun q => ?_)
  · have h := ite_f q h
    refine lv_iload_n (pc := 25) hx hb dX2_placeFinding_25 rfl (lv_at hl 0 rfl) ?_
    exact s_iret F w h dX2_placeFinding_26
  · have h := ite_t q h
    refine lv_iload_n (pc := 10) hx hb dX2_placeFinding_10 rfl (lv_at hl 3 rfl) ?_
    refine lv_if_lt (pc := 11) (tgt := 23) hx hb dX2_placeFinding_11 (by decide) (fun q => ?_) (fun q => ?_)
    · have h := ite_t q h
      refine lv_iconst (pc := 23) (v := 3) hx hb dX2_placeFinding_23 (by decide) ?_
      exact s_iret F w h dX2_placeFinding_24
    · have h := ite_f q h
      refine lv_iload_n (pc := 14) hx hb dX2_placeFinding_14 rfl (lv_at hl 3 rfl) ?_
      refine lv_aload_n (pc := 15) hx hb dX2_placeFinding_15 rfl (lv_at hl 1 rfl) ?_
      refine lv_iload_n (pc := 16) hx hb dX2_placeFinding_16 rfl (lv_at hl 2 rfl) ?_
      obtain ⟨r4, S3, hc, h⟩ := bnd_t h
      refine s_cvi (pc := 17) [.int a1] (fun ad => [.ref (ad 5), .int a1]) F w (m_X2_placesOf _ _ _ _ hc) rfl rfl hl.1 ds_5 vc_X2 rfl ok_X2_placesOf rfl kc_X2_placesOf kl_X2_62 ki_X2_placesOf kv_X2_placesOf kn_X2 ⟨Nat.le_trans (by decide) hR1, Nat.le_trans (by decide) hR2⟩ ⟨Nat.zero_le _, Nat.zero_le _⟩ (Nat.le_of_ble_eq_true rfl) dX2_placeFinding_17 (fun H locs w => ?_)
      refine lv_icmp_lt (pc := 20) (tgt := 25) hx hb dX2_placeFinding_20 (by decide) (fun q => ?_) (fun q => ?_)
      · have h := ite_t q h
        refine lv_iload_n (pc := 25) hx hb dX2_placeFinding_25 rfl (lv_at hl 0 rfl) ?_
        exact s_iret F w h dX2_placeFinding_26
      · have h := ite_f q h
        refine lv_iconst (pc := 23) (v := 3) hx hb dX2_placeFinding_23 (by decide) ?_
        exact s_iret F w h dX2_placeFinding_24
def f_X2_spot (a0 : Int32) (a1 : Int32) (S : SS) : Option (Int32 × SS) :=
  some (((24 : Int32) * a0) + a1, S)
theorem dX2_spot_0 : decode cX2_spot 0 = .ok (.bipush 24, 2) := by decide +kernel
theorem dX2_spot_2 : decode cX2_spot 2 = .ok (.iload_n 0, 1) := by decide +kernel
theorem dX2_spot_3 : decode cX2_spot 3 = .ok (.imul, 1) := by decide +kernel
theorem dX2_spot_4 : decode cX2_spot 4 = .ok (.iload_n 1, 1) := by decide +kernel
theorem dX2_spot_5 : decode cX2_spot 5 = .ok (.iadd, 1) := by decide +kernel
theorem dX2_spot_6 : decode cX2_spot 6 = .ok (.ireturn, 1) := by decide +kernel
set_option maxRecDepth 100000 in
set_option maxHeartbeats 4000000 in
theorem m_X2_spot (a0 : Int32) (a1 : Int32) (S S' : SS) (r : Int32) (h : f_X2_spot a0 a1 S = some (r, S')) : MT yX2_spot cX2_spot 2 (some .int) 0 0 (fun ad => [.int a0, .int a1]) S (some (.int r)) S' := by
  refine MT.of RX2 (fun ad => [(0, .int a0), (1, .int a1)]) (by decide) rfl (fun _ => Nat.le_of_ble_eq_true rfl) (fun _ => rfl) ?_
  intro p l e R s m args below meth c dC dI cs ad A hR1 hR2 F H locs ls w hl
  have hx := F.1.1
  have hb := F.1.2.1
  rw [f_X2_spot] at h
  refine lv_bipush (pc := 0) (v := 24) hx hb dX2_spot_0 (by decide) ?_
  refine lv_iload_n (pc := 2) hx hb dX2_spot_2 rfl (lv_at hl 0 rfl) ?_
  refine lv_imul (pc := 3) hx hb dX2_spot_3 ?_
  refine lv_iload_n (pc := 4) hx hb dX2_spot_4 rfl (lv_at hl 1 rfl) ?_
  refine lv_iadd (pc := 5) hx hb dX2_spot_5 ?_
  exact s_iret F w h dX2_spot_6
def f_X10_nextSerial  (S : SS) : Option (Int32 × SS) :=
  wr S 7 5 ((S.1 7 5) + (1 : Int32)) (fun S1 =>
  some (S1.1 7 5, S1))
theorem dX10_nextSerial_0 : decode cX10_nextSerial 0 = .ok (.aload_n 0, 1) := by decide +kernel
theorem dX10_nextSerial_1 : decode cX10_nextSerial 1 = .ok (.dup, 1) := by decide +kernel
theorem dX10_nextSerial_2 : decode cX10_nextSerial 2 = .ok (.getfield 21, 3) := by decide +kernel
theorem dX10_nextSerial_5 : decode cX10_nextSerial 5 = .ok (.iconst 1, 1) := by decide +kernel
theorem dX10_nextSerial_6 : decode cX10_nextSerial 6 = .ok (.iadd, 1) := by decide +kernel
theorem dX10_nextSerial_7 : decode cX10_nextSerial 7 = .ok (.putfield 21, 3) := by decide +kernel
theorem dX10_nextSerial_10 : decode cX10_nextSerial 10 = .ok (.aload_n 0, 1) := by decide +kernel
theorem dX10_nextSerial_11 : decode cX10_nextSerial 11 = .ok (.getfield 21, 3) := by decide +kernel
theorem dX10_nextSerial_14 : decode cX10_nextSerial 14 = .ok (.ireturn, 1) := by decide +kernel
set_option maxRecDepth 100000 in
set_option maxHeartbeats 4000000 in
theorem m_X10_nextSerial  (S S' : SS) (r : Int32) (h : f_X10_nextSerial  S = some (r, S')) : MT yX10_nextSerial cX10_nextSerial 1 (some .int) 0 0 (fun ad => [.ref (ad 7)]) S (some (.int r)) S' := by
  refine MT.of RX10 (fun ad => [(0, .ref (ad 7))]) (by decide) rfl (fun _ => Nat.le_of_ble_eq_true rfl) (fun _ => rfl) ?_
  intro p l e R s m args below meth c dC dI cs ad A hR1 hR2 F H locs ls w hl
  have hx := F.1.1
  have hb := F.1.2.1
  rw [f_X10_nextSerial] at h
  refine lv_aload_n (pc := 0) hx hb dX10_nextSerial_0 rfl (lv_at hl 0 rfl) ?_
  refine lv_dup (pc := 1) hx hb dX10_nextSerial_1 rfl ?_
  refine s_getI (pc := 2) F w ds_7 (j := 5) vc_X10 vi_X10 rfl (by decide) kf_X10_21 dX10_nextSerial_2 ?_
  refine lv_iconst (pc := 5) (v := 1) hx hb dX10_nextSerial_5 (by decide) ?_
  refine lv_iadd (pc := 6) hx hb dX10_nextSerial_6 ?_
  refine s_putI (pc := 7) F w ds_7 vc_X10 vi_X10 tyX10_ok nmX10 (j := 5) rfl (by decide) kf_X10_21 rfl pd_I h dX10_nextSerial_7 (fun S1 H locs h w => ?_)
  refine lv_aload_n (pc := 10) hx hb dX10_nextSerial_10 rfl (lv_at hl 0 rfl) ?_
  refine s_getI (pc := 11) F w ds_7 (j := 5) vc_X10 vi_X10 rfl (by decide) kf_X10_21 dX10_nextSerial_11 ?_
  exact s_iret F w h dX10_nextSerial_14
def f_J7_rangeCheck_23922 (a0 : Int32) (a1 : Int32) (a2 : Int32) (S : SS) : Option (SS) :=
  if a1 ≤ a2 then
    if 0 ≤ a1 then
      if a2 ≤ a0 then
        some S
      else
        none
    else
      none
  else
    none
theorem dJ7_rangeCheck_23922_0 : decode cJ7_rangeCheck_23922 0 = .ok (.iload_n 1, 1) := by decide +kernel
theorem dJ7_rangeCheck_23922_1 : decode cJ7_rangeCheck_23922 1 = .ok (.iload_n 2, 1) := by decide +kernel
theorem dJ7_rangeCheck_23922_2 : decode cJ7_rangeCheck_23922 2 = .ok (.if_icmp .le 44, 3) := by decide +kernel
theorem dJ7_rangeCheck_23922_46 : decode cJ7_rangeCheck_23922 46 = .ok (.iload_n 1, 1) := by decide +kernel
theorem dJ7_rangeCheck_23922_47 : decode cJ7_rangeCheck_23922 47 = .ok (.ifCond .ge 12, 3) := by decide +kernel
theorem dJ7_rangeCheck_23922_59 : decode cJ7_rangeCheck_23922 59 = .ok (.iload_n 2, 1) := by decide +kernel
theorem dJ7_rangeCheck_23922_60 : decode cJ7_rangeCheck_23922 60 = .ok (.iload_n 0, 1) := by decide +kernel
theorem dJ7_rangeCheck_23922_61 : decode cJ7_rangeCheck_23922 61 = .ok (.if_icmp .le 12, 3) := by decide +kernel
theorem dJ7_rangeCheck_23922_73 : decode cJ7_rangeCheck_23922 73 = .ok (.return_, 1) := by decide +kernel
set_option maxRecDepth 100000 in
set_option maxHeartbeats 4000000 in
theorem m_J7_rangeCheck_23922 (a0 : Int32) (a1 : Int32) (a2 : Int32) (S S' : SS) (h : f_J7_rangeCheck_23922 a0 a1 a2 S = some S') : MT yJ7_rangeCheck_23922 cJ7_rangeCheck_23922 3 none 0 0 (fun ad => [.int a0, .int a1, .int a2]) S none S' := by
  refine MT.ofF RJ7 (fun ad => [(0, .int a0), (1, .int a1), (2, .int a2)]) (by decide +kernel) rfl (fun _ => Nat.le_of_ble_eq_true rfl) (fun _ => rfl) ?_
  intro p l e R s m args below meth c dC dI cs ad A hR1 hR2 F H locs ls w hl
  have hx := F.1.1
  have hb := F.1.2.1
  rw [f_J7_rangeCheck_23922] at h
  refine lv_iload_n (pc := 0) hx hb dJ7_rangeCheck_23922_0 rfl (lv_at hl 1 rfl) ?_
  refine lv_iload_n (pc := 1) hx hb dJ7_rangeCheck_23922_1 rfl (lv_at hl 2 rfl) ?_
  refine lv_icmp_le (pc := 2) (tgt := 46) hx hb dJ7_rangeCheck_23922_2 (by decide) (fun q => ?_) (fun q => ?_)
  · have h := ite_t q h
    refine lv_iload_n (pc := 46) hx hb dJ7_rangeCheck_23922_46 rfl (lv_at hl 1 rfl) ?_
    refine lv_if_ge (pc := 47) (tgt := 59) hx hb dJ7_rangeCheck_23922_47 (by decide) (fun q => ?_) (fun q => ?_)
    · have h := ite_t q h
      refine lv_iload_n (pc := 59) hx hb dJ7_rangeCheck_23922_59 rfl (lv_at hl 2 rfl) ?_
      refine lv_iload_n (pc := 60) hx hb dJ7_rangeCheck_23922_60 rfl (lv_at hl 0 rfl) ?_
      refine lv_icmp_le (pc := 61) (tgt := 73) hx hb dJ7_rangeCheck_23922_61 (by decide) (fun q => ?_) (fun q => ?_)
      · have h := ite_t q h
        exact s_vret F w h dJ7_rangeCheck_23922_73
      · have h := ite_f q h
        cases h
    · have h := ite_f q h
      cases h
  · have h := ite_f q h
    cases h
def f_J7_fill_fda19_State_cells_L10  : Nat → Int32 → Int32 → Int32 → SS → Option (SS)
  | 0, _, _, _, _ => none
  | n + 1, x2, x3, x4, S =>
    if x2 ≤ x4 then
      some S
    else
      grd (inb x4 946) (wr S 19 x4.toNatClampNeg x3 (fun S2 =>
      nm (x4 + (1 : Int32)) (fun z3 =>
      f_J7_fill_fda19_State_cells_L10 n x2 x3 z3 S2)))
def f_J7_fill_fda19_State_cells (a1 : Int32) (a2 : Int32) (a3 : Int32) (S : SS) : Option (SS) :=
  bndv (f_J7_rangeCheck_23922 (Int32.ofNat 946) a1 a2 S) (fun S1 =>
  f_J7_fill_fda19_State_cells_L10 NF a2 a3 a1 S1)
theorem dJ7_fill_fda19_0 : decode cJ7_fill_fda19 0 = .ok (.aload_n 0, 1) := by decide +kernel
theorem dJ7_fill_fda19_1 : decode cJ7_fill_fda19 1 = .ok (.arraylength, 1) := by decide +kernel
theorem dJ7_fill_fda19_2 : decode cJ7_fill_fda19 2 = .ok (.iload_n 1, 1) := by decide +kernel
theorem dJ7_fill_fda19_3 : decode cJ7_fill_fda19 3 = .ok (.iload_n 2, 1) := by decide +kernel
theorem dJ7_fill_fda19_4 : decode cJ7_fill_fda19 4 = .ok (.invokestatic 13, 3) := by decide +kernel
theorem dJ7_fill_fda19_7 : decode cJ7_fill_fda19 7 = .ok (.iload_n 1, 1) := by decide +kernel
theorem dJ7_fill_fda19_8 : decode cJ7_fill_fda19 8 = .ok (.istore 4, 2) := by decide +kernel
theorem dJ7_fill_fda19_10 : decode cJ7_fill_fda19 10 = .ok (.iload 4, 2) := by decide +kernel
theorem dJ7_fill_fda19_12 : decode cJ7_fill_fda19 12 = .ok (.iload_n 2, 1) := by decide +kernel
theorem dJ7_fill_fda19_13 : decode cJ7_fill_fda19 13 = .ok (.if_icmp .ge 14, 3) := by decide +kernel
theorem dJ7_fill_fda19_16 : decode cJ7_fill_fda19 16 = .ok (.aload_n 0, 1) := by decide +kernel
theorem dJ7_fill_fda19_17 : decode cJ7_fill_fda19 17 = .ok (.iload 4, 2) := by decide +kernel
theorem dJ7_fill_fda19_19 : decode cJ7_fill_fda19 19 = .ok (.iload_n 3, 1) := by decide +kernel
theorem dJ7_fill_fda19_20 : decode cJ7_fill_fda19 20 = .ok (.iastore, 1) := by decide +kernel
theorem dJ7_fill_fda19_21 : decode cJ7_fill_fda19 21 = .ok (.iinc 4 1, 3) := by decide +kernel
theorem dJ7_fill_fda19_24 : decode cJ7_fill_fda19 24 = .ok (.goto (-14), 3) := by decide +kernel
theorem dJ7_fill_fda19_27 : decode cJ7_fill_fda19 27 = .ok (.return_, 1) := by decide +kernel
set_option maxRecDepth 100000 in
set_option maxHeartbeats 4000000 in
theorem w_J7_fill_fda19_State_cells_L10 {p : Program} {l : Launch} {e : Env} {R : Room} {s : State} {m : MethodId} {args : Array Value} {below : List Frame} {meth : Method} {c : Code} {dC : Nat → ClassId} {dI : Nat → Nat → Nat} {cs : Nat → ClassId} {ad : Nat → Nat} {A : Nat → Prop} {D0 : Nat → Nat} {S' : SS} (F : Fx p s m args meth c cJ7_fill_fda19 5 RJ7 none dC dI cs A) (hR1 : 0 ≤ R.frames) (hR2 : 0 ≤ R.locals) : ∀ (n : Nat) (x2 : Int32) (x3 : Int32) (x4 : Int32) (S : SS), f_J7_fill_fda19_State_cells_L10 n x2 x3 x4 S = some S' → AW p l e R s m args below meth c dC dI cs ad A D0 none S' 5 10 [(0, .ref (ad 19)), (2, .int x2), (3, .int x3), (4, .int x4)] [] S := by
  have hx := F.1.1
  have hb := F.1.2.1
  intro n
  induction n with
  | zero => intro x2 x3 x4 S h; cases h
  | succ n ih =>
    intro x2 x3 x4 S h H locs ls w hl
    rw [f_J7_fill_fda19_State_cells_L10] at h
    refine lv_iload (pc := 10) hx hb dJ7_fill_fda19_10 (lv_at hl 3 rfl) ?_
    refine lv_iload_n (pc := 12) hx hb dJ7_fill_fda19_12 rfl (lv_at hl 1 rfl) ?_
    refine lv_icmp_ge (pc := 13) (tgt := 27) hx hb dJ7_fill_fda19_13 (by decide) (fun q => ?_) (fun q => ?_)
    · have h := ite_t q h
      exact s_vret F w h dJ7_fill_fda19_27
    · have h := ite_f q h
      refine lv_aload_n (pc := 16) hx hb dJ7_fill_fda19_16 rfl (lv_at hl 0 rfl) ?_
      refine lv_iload (pc := 17) hx hb dJ7_fill_fda19_17 (lv_at hl 3 rfl) ?_
      refine lv_iload_n (pc := 19) hx hb dJ7_fill_fda19_19 rfl (lv_at hl 2 rfl) ?_
      refine s_iast (pc := 20) F w ds_19 h dJ7_fill_fda19_20 (fun S2 H locs h w => ?_)
      refine s_nm h (fun z3 ez3 h => ?_)
      refine lv_iinc (pc := 21) (v := z3) (lv' := [(4, .int z3), (0, .ref (ad 19)), (2, .int x2), (3, .int x3)]) hx hb dJ7_fill_fda19_21 hl (k := 3) rfl (by rw [ez3]; rfl) (by decide) rfl (fun ls hl => ?_)
      refine lv_goto (pc := 24) (tgt := 10) hx hb dJ7_fill_fda19_24 (by decide) ?_
      exact ih _ _ _ _ h _ _ _ w (lv_sub hl [1, 2, 3, 0] rfl)
set_option maxRecDepth 100000 in
set_option maxHeartbeats 4000000 in
theorem m_J7_fill_fda19_State_cells (a1 : Int32) (a2 : Int32) (a3 : Int32) (S S' : SS) (h : f_J7_fill_fda19_State_cells a1 a2 a3 S = some S') : MT yJ7_fill_fda19 cJ7_fill_fda19 5 none 1 22 (fun ad => [.ref (ad 19), .int a1, .int a2, .int a3]) S none S' := by
  refine MT.ofF RJ7 (fun ad => [(0, .ref (ad 19)), (1, .int a1), (2, .int a2), (3, .int a3)]) (by decide +kernel) rfl (fun _ => Nat.le_of_ble_eq_true rfl) (fun _ => rfl) ?_
  intro p l e R s m args below meth c dC dI cs ad A hR1 hR2 F H locs ls w hl
  have hx := F.1.1
  have hb := F.1.2.1
  rw [f_J7_fill_fda19_State_cells] at h
  refine lv_aload_n (pc := 0) hx hb dJ7_fill_fda19_0 rfl (lv_at hl 0 rfl) ?_
  refine s_alen (pc := 1) F w ds_19 dJ7_fill_fda19_1 ?_
  show W _ _ _ _ _ _ _ _ _ _ _ _ _ _ _ (F0 _ _ _ (.int (Int32.ofNat 946) :: _))
  refine lv_iload_n (pc := 2) hx hb dJ7_fill_fda19_2 rfl (lv_at hl 1 rfl) ?_
  refine lv_iload_n (pc := 3) hx hb dJ7_fill_fda19_3 rfl (lv_at hl 2 rfl) ?_
  obtain ⟨S1, hc, h⟩ := bndv_t h
  refine s_csv (pc := 4) [.int (Int32.ofNat 946), .int a1, .int a2] (fun ad => [.int (Int32.ofNat 946), .int a1, .int a2]) F w (m_J7_rangeCheck_23922 _ _ _ _ _ hc) rfl rfl hl.1 ok_J7_rangeCheck_23922 rfl kc_J7_rangeCheck_23922 kl_J7_13 ks_J7_rangeCheck_23922 kn_J7 ⟨Nat.le_trans (by decide) hR1, Nat.le_trans (by decide) hR2⟩ ⟨Nat.zero_le _, Nat.zero_le _⟩ (Nat.le_of_ble_eq_true rfl) dJ7_fill_fda19_4 (fun H locs w => ?_)
  refine lv_iload_n (pc := 7) hx hb dJ7_fill_fda19_7 rfl (lv_at hl 1 rfl) ?_
  refine lv_istore (pc := 8) (lv' := [(4, .int a1), (0, .ref (ad 19)), (1, .int a1), (2, .int a2), (3, .int a3)]) hx hb dJ7_fill_fda19_8 hl (by decide) rfl (fun ls hl => ?_)
  exact w_J7_fill_fda19_State_cells_L10 F (Nat.le_trans (by decide) hR1) (Nat.le_trans (by decide) hR2) _ _ _ _ _ h _ _ _ w (lv_sub hl [1, 3, 4, 0] rfl)
def f_X8_set (a1 : Int32) (a2 : Int32) (a3 : Int32) (S : SS) : Option (SS) :=
  if a1 < 0 then
    some S
  else
    if (S.1 2 1) ≤ a1 then
      some S
    else
      grd (inb (((154 : Int32) + ((11 : Int32) * a1)) + a2) 946) (wr S 19 (((154 : Int32) + ((11 : Int32) * a1)) + a2).toNatClampNeg a3 (fun S1 =>
      some S1))
theorem dX8_set_0 : decode cX8_set 0 = .ok (.iload_n 1, 1) := by decide +kernel
theorem dX8_set_1 : decode cX8_set 1 = .ok (.ifCond .lt 27, 3) := by decide +kernel
theorem dX8_set_4 : decode cX8_set 4 = .ok (.iload_n 1, 1) := by decide +kernel
theorem dX8_set_5 : decode cX8_set 5 = .ok (.aload_n 0, 1) := by decide +kernel
theorem dX8_set_6 : decode cX8_set 6 = .ok (.getfield 17, 3) := by decide +kernel
theorem dX8_set_9 : decode cX8_set 9 = .ok (.if_icmp .ge 19, 3) := by decide +kernel
theorem dX8_set_12 : decode cX8_set 12 = .ok (.aload_n 0, 1) := by decide +kernel
theorem dX8_set_13 : decode cX8_set 13 = .ok (.getfield 13, 3) := by decide +kernel
theorem dX8_set_16 : decode cX8_set 16 = .ok (.sipush 154, 3) := by decide +kernel
theorem dX8_set_19 : decode cX8_set 19 = .ok (.bipush 11, 2) := by decide +kernel
theorem dX8_set_21 : decode cX8_set 21 = .ok (.iload_n 1, 1) := by decide +kernel
theorem dX8_set_22 : decode cX8_set 22 = .ok (.imul, 1) := by decide +kernel
theorem dX8_set_23 : decode cX8_set 23 = .ok (.iadd, 1) := by decide +kernel
theorem dX8_set_24 : decode cX8_set 24 = .ok (.iload_n 2, 1) := by decide +kernel
theorem dX8_set_25 : decode cX8_set 25 = .ok (.iadd, 1) := by decide +kernel
theorem dX8_set_26 : decode cX8_set 26 = .ok (.iload_n 3, 1) := by decide +kernel
theorem dX8_set_27 : decode cX8_set 27 = .ok (.iastore, 1) := by decide +kernel
theorem dX8_set_28 : decode cX8_set 28 = .ok (.return_, 1) := by decide +kernel
set_option maxRecDepth 100000 in
set_option maxHeartbeats 4000000 in
theorem m_X8_set (a1 : Int32) (a2 : Int32) (a3 : Int32) (S S' : SS) (h : f_X8_set a1 a2 a3 S = some S') : MT yX8_set cX8_set 4 none 0 0 (fun ad => [.ref (ad 2), .int a1, .int a2, .int a3]) S none S' := by
  refine MT.of RX8 (fun ad => [(0, .ref (ad 2)), (1, .int a1), (2, .int a2), (3, .int a3)]) (by decide) rfl (fun _ => Nat.le_of_ble_eq_true rfl) (fun _ => rfl) ?_
  intro p l e R s m args below meth c dC dI cs ad A hR1 hR2 F H locs ls w hl
  have hx := F.1.1
  have hb := F.1.2.1
  rw [f_X8_set] at h
  refine lv_iload_n (pc := 0) hx hb dX8_set_0 rfl (lv_at hl 1 rfl) ?_
  refine lv_if_lt (pc := 1) (tgt := 28) hx hb dX8_set_1 (by decide) (fun q => ?_) (fun q => ?_)
  · have h := ite_t q h
    exact s_vret F w h dX8_set_28
  · have h := ite_f q h
    refine lv_iload_n (pc := 4) hx hb dX8_set_4 rfl (lv_at hl 1 rfl) ?_
    refine lv_aload_n (pc := 5) hx hb dX8_set_5 rfl (lv_at hl 0 rfl) ?_
    refine s_getI (pc := 6) F w ds_2 (j := 1) vc_X8 vi_X8 rfl (by decide) kf_X8_17 dX8_set_6 ?_
    refine lv_icmp_ge (pc := 9) (tgt := 28) hx hb dX8_set_9 (by decide) (fun q => ?_) (fun q => ?_)
    · have h := ite_t q h
      exact s_vret F w h dX8_set_28
    · have h := ite_f q h
      refine lv_aload_n (pc := 12) hx hb dX8_set_12 rfl (lv_at hl 0 rfl) ?_
      refine s_getR (pc := 13) F w 19 ds_2 (j := 0) vc_X8 vi_X8 rfl (by decide) kf_X8_13 dX8_set_13 ?_
      refine lv_sipush (pc := 16) (v := 154) hx hb dX8_set_16 (by decide) ?_
      refine lv_bipush (pc := 19) (v := 11) hx hb dX8_set_19 (by decide) ?_
      refine lv_iload_n (pc := 21) hx hb dX8_set_21 rfl (lv_at hl 1 rfl) ?_
      refine lv_imul (pc := 22) hx hb dX8_set_22 ?_
      refine lv_iadd (pc := 23) hx hb dX8_set_23 ?_
      refine lv_iload_n (pc := 24) hx hb dX8_set_24 rfl (lv_at hl 2 rfl) ?_
      refine lv_iadd (pc := 25) hx hb dX8_set_25 ?_
      refine lv_iload_n (pc := 26) hx hb dX8_set_26 rfl (lv_at hl 3 rfl) ?_
      refine s_iast (pc := 27) F w ds_19 h dX8_set_27 (fun S1 H locs h w => ?_)
      exact s_vret F w h dX8_set_28
def f_X8_addThing (a1 : Int32) (a2 : Int32) (S : SS) : Option (Int32 × SS) :=
  if (S.1 2 1) < (72 : Int32) then
    nm (S.1 2 1) (fun z1 =>
    wr S 2 1 ((S.1 2 1) + (1 : Int32)) (fun S2 =>
    bndv (f_J7_fill_fda19_State_cells ((154 : Int32) + ((11 : Int32) * z1)) ((154 : Int32) + ((11 : Int32) * (S2.1 2 1))) (0 : Int32) S2) (fun S3 =>
    bndv (f_X8_set z1 (0 : Int32) a1 S3) (fun S4 =>
    bndv (f_X8_set z1 (1 : Int32) (1 : Int32) S4) (fun S5 =>
    bndv (f_X8_set z1 (2 : Int32) (-4 : Int32) S5) (fun S6 =>
    bndv (f_X8_set z1 (3 : Int32) (-4 : Int32) S6) (fun S7 =>
    bndv (f_X8_set z1 (4 : Int32) a2 S7) (fun S8 =>
    bndv (f_X8_set z1 (5 : Int32) (-4 : Int32) S8) (fun S9 =>
    some (z1, S9))))))))))
  else
    some ((-4 : Int32), S)
theorem dX8_addThing_0 : decode cX8_addThing 0 = .ok (.aload_n 0, 1) := by decide +kernel
theorem dX8_addThing_1 : decode cX8_addThing 1 = .ok (.getfield 17, 3) := by decide +kernel
theorem dX8_addThing_4 : decode cX8_addThing 4 = .ok (.bipush 72, 2) := by decide +kernel
theorem dX8_addThing_6 : decode cX8_addThing 6 = .ok (.if_icmp .lt 6, 3) := by decide +kernel
theorem dX8_addThing_9 : decode cX8_addThing 9 = .ok (.bipush (-4), 2) := by decide +kernel
theorem dX8_addThing_11 : decode cX8_addThing 11 = .ok (.ireturn, 1) := by decide +kernel
theorem dX8_addThing_12 : decode cX8_addThing 12 = .ok (.aload_n 0, 1) := by decide +kernel
theorem dX8_addThing_13 : decode cX8_addThing 13 = .ok (.getfield 17, 3) := by decide +kernel
theorem dX8_addThing_16 : decode cX8_addThing 16 = .ok (.istore_n 3, 1) := by decide +kernel
theorem dX8_addThing_17 : decode cX8_addThing 17 = .ok (.aload_n 0, 1) := by decide +kernel
theorem dX8_addThing_18 : decode cX8_addThing 18 = .ok (.dup, 1) := by decide +kernel
theorem dX8_addThing_19 : decode cX8_addThing 19 = .ok (.getfield 17, 3) := by decide +kernel
theorem dX8_addThing_22 : decode cX8_addThing 22 = .ok (.iconst 1, 1) := by decide +kernel
theorem dX8_addThing_23 : decode cX8_addThing 23 = .ok (.iadd, 1) := by decide +kernel
theorem dX8_addThing_24 : decode cX8_addThing 24 = .ok (.putfield 17, 3) := by decide +kernel
theorem dX8_addThing_27 : decode cX8_addThing 27 = .ok (.aload_n 0, 1) := by decide +kernel
theorem dX8_addThing_28 : decode cX8_addThing 28 = .ok (.getfield 13, 3) := by decide +kernel
theorem dX8_addThing_31 : decode cX8_addThing 31 = .ok (.sipush 154, 3) := by decide +kernel
theorem dX8_addThing_34 : decode cX8_addThing 34 = .ok (.bipush 11, 2) := by decide +kernel
theorem dX8_addThing_36 : decode cX8_addThing 36 = .ok (.iload_n 3, 1) := by decide +kernel
theorem dX8_addThing_37 : decode cX8_addThing 37 = .ok (.imul, 1) := by decide +kernel
theorem dX8_addThing_38 : decode cX8_addThing 38 = .ok (.iadd, 1) := by decide +kernel
theorem dX8_addThing_39 : decode cX8_addThing 39 = .ok (.sipush 154, 3) := by decide +kernel
theorem dX8_addThing_42 : decode cX8_addThing 42 = .ok (.bipush 11, 2) := by decide +kernel
theorem dX8_addThing_44 : decode cX8_addThing 44 = .ok (.aload_n 0, 1) := by decide +kernel
theorem dX8_addThing_45 : decode cX8_addThing 45 = .ok (.getfield 17, 3) := by decide +kernel
theorem dX8_addThing_48 : decode cX8_addThing 48 = .ok (.imul, 1) := by decide +kernel
theorem dX8_addThing_49 : decode cX8_addThing 49 = .ok (.iadd, 1) := by decide +kernel
theorem dX8_addThing_50 : decode cX8_addThing 50 = .ok (.iconst 0, 1) := by decide +kernel
theorem dX8_addThing_51 : decode cX8_addThing 51 = .ok (.invokestatic 21, 3) := by decide +kernel
theorem dX8_addThing_54 : decode cX8_addThing 54 = .ok (.aload_n 0, 1) := by decide +kernel
theorem dX8_addThing_55 : decode cX8_addThing 55 = .ok (.iload_n 3, 1) := by decide +kernel
theorem dX8_addThing_56 : decode cX8_addThing 56 = .ok (.iconst 0, 1) := by decide +kernel
theorem dX8_addThing_57 : decode cX8_addThing 57 = .ok (.iload_n 1, 1) := by decide +kernel
theorem dX8_addThing_58 : decode cX8_addThing 58 = .ok (.invokevirtual 27, 3) := by decide +kernel
theorem dX8_addThing_61 : decode cX8_addThing 61 = .ok (.aload_n 0, 1) := by decide +kernel
theorem dX8_addThing_62 : decode cX8_addThing 62 = .ok (.iload_n 3, 1) := by decide +kernel
theorem dX8_addThing_63 : decode cX8_addThing 63 = .ok (.iconst 1, 1) := by decide +kernel
theorem dX8_addThing_64 : decode cX8_addThing 64 = .ok (.iconst 1, 1) := by decide +kernel
theorem dX8_addThing_65 : decode cX8_addThing 65 = .ok (.invokevirtual 27, 3) := by decide +kernel
theorem dX8_addThing_68 : decode cX8_addThing 68 = .ok (.aload_n 0, 1) := by decide +kernel
theorem dX8_addThing_69 : decode cX8_addThing 69 = .ok (.iload_n 3, 1) := by decide +kernel
theorem dX8_addThing_70 : decode cX8_addThing 70 = .ok (.iconst 2, 1) := by decide +kernel
theorem dX8_addThing_71 : decode cX8_addThing 71 = .ok (.bipush (-4), 2) := by decide +kernel
theorem dX8_addThing_73 : decode cX8_addThing 73 = .ok (.invokevirtual 27, 3) := by decide +kernel
theorem dX8_addThing_76 : decode cX8_addThing 76 = .ok (.aload_n 0, 1) := by decide +kernel
theorem dX8_addThing_77 : decode cX8_addThing 77 = .ok (.iload_n 3, 1) := by decide +kernel
theorem dX8_addThing_78 : decode cX8_addThing 78 = .ok (.iconst 3, 1) := by decide +kernel
theorem dX8_addThing_79 : decode cX8_addThing 79 = .ok (.bipush (-4), 2) := by decide +kernel
theorem dX8_addThing_81 : decode cX8_addThing 81 = .ok (.invokevirtual 27, 3) := by decide +kernel
theorem dX8_addThing_84 : decode cX8_addThing 84 = .ok (.aload_n 0, 1) := by decide +kernel
theorem dX8_addThing_85 : decode cX8_addThing 85 = .ok (.iload_n 3, 1) := by decide +kernel
theorem dX8_addThing_86 : decode cX8_addThing 86 = .ok (.iconst 4, 1) := by decide +kernel
theorem dX8_addThing_87 : decode cX8_addThing 87 = .ok (.iload_n 2, 1) := by decide +kernel
theorem dX8_addThing_88 : decode cX8_addThing 88 = .ok (.invokevirtual 27, 3) := by decide +kernel
theorem dX8_addThing_91 : decode cX8_addThing 91 = .ok (.aload_n 0, 1) := by decide +kernel
theorem dX8_addThing_92 : decode cX8_addThing 92 = .ok (.iload_n 3, 1) := by decide +kernel
theorem dX8_addThing_93 : decode cX8_addThing 93 = .ok (.iconst 5, 1) := by decide +kernel
theorem dX8_addThing_94 : decode cX8_addThing 94 = .ok (.bipush (-4), 2) := by decide +kernel
theorem dX8_addThing_96 : decode cX8_addThing 96 = .ok (.invokevirtual 27, 3) := by decide +kernel
theorem dX8_addThing_99 : decode cX8_addThing 99 = .ok (.iload_n 3, 1) := by decide +kernel
theorem dX8_addThing_100 : decode cX8_addThing 100 = .ok (.ireturn, 1) := by decide +kernel
set_option maxRecDepth 100000 in
set_option maxHeartbeats 4000000 in
theorem m_X8_addThing (a1 : Int32) (a2 : Int32) (S S' : SS) (r : Int32) (h : f_X8_addThing a1 a2 S = some (r, S')) : MT yX8_addThing cX8_addThing 4 (some .int) 2 46 (fun ad => [.ref (ad 2), .int a1, .int a2]) S (some (.int r)) S' := by
  refine MT.of RX8 (fun ad => [(0, .ref (ad 2)), (1, .int a1), (2, .int a2)]) (by decide) rfl (fun _ => Nat.le_of_ble_eq_true rfl) (fun _ => rfl) ?_
  intro p l e R s m args below meth c dC dI cs ad A hR1 hR2 F H locs ls w hl
  have hx := F.1.1
  have hb := F.1.2.1
  rw [f_X8_addThing] at h
  refine lv_aload_n (pc := 0) hx hb dX8_addThing_0 rfl (lv_at hl 0 rfl) ?_
  refine s_getI (pc := 1) F w ds_2 (j := 1) vc_X8 vi_X8 rfl (by decide) kf_X8_17 dX8_addThing_1 ?_
  refine lv_bipush (pc := 4) (v := 72) hx hb dX8_addThing_4 (by decide) ?_
  refine lv_icmp_lt (pc := 6) (tgt := 12) hx hb dX8_addThing_6 (by decide) (fun q => ?_) (fun q => ?_)
  · have h := ite_t q h
    refine lv_aload_n (pc := 12) hx hb dX8_addThing_12 rfl (lv_at hl 0 rfl) ?_
    refine s_getI (pc := 13) F w ds_2 (j := 1) vc_X8 vi_X8 rfl (by decide) kf_X8_17 dX8_addThing_13 ?_
    refine s_nm h (fun z1 ez1 h => ?_)
    rw [← ez1]
    refine lv_istore_n (pc := 16) (lv' := [(3, .int z1), (0, .ref (ad 2)), (1, .int a1), (2, .int a2)]) hx hb dX8_addThing_16 rfl hl (by decide) rfl (fun ls hl => ?_)
    refine lv_aload_n (pc := 17) hx hb dX8_addThing_17 rfl (lv_at hl 1 rfl) ?_
    refine lv_dup (pc := 18) hx hb dX8_addThing_18 rfl ?_
    refine s_getI (pc := 19) F w ds_2 (j := 1) vc_X8 vi_X8 rfl (by decide) kf_X8_17 dX8_addThing_19 ?_
    refine lv_iconst (pc := 22) (v := 1) hx hb dX8_addThing_22 (by decide) ?_
    refine lv_iadd (pc := 23) hx hb dX8_addThing_23 ?_
    refine s_putI (pc := 24) F w ds_2 vc_X8 vi_X8 tyX8_ok nmX8 (j := 1) rfl (by decide) kf_X8_17 rfl pd_I h dX8_addThing_24 (fun S2 H locs h w => ?_)
    refine lv_aload_n (pc := 27) hx hb dX8_addThing_27 rfl (lv_at hl 1 rfl) ?_
    refine s_getR (pc := 28) F w 19 ds_2 (j := 0) vc_X8 vi_X8 rfl (by decide) kf_X8_13 dX8_addThing_28 ?_
    refine lv_sipush (pc := 31) (v := 154) hx hb dX8_addThing_31 (by decide) ?_
    refine lv_bipush (pc := 34) (v := 11) hx hb dX8_addThing_34 (by decide) ?_
    refine lv_iload_n (pc := 36) hx hb dX8_addThing_36 rfl (lv_at hl 0 rfl) ?_
    refine lv_imul (pc := 37) hx hb dX8_addThing_37 ?_
    refine lv_iadd (pc := 38) hx hb dX8_addThing_38 ?_
    refine lv_sipush (pc := 39) (v := 154) hx hb dX8_addThing_39 (by decide) ?_
    refine lv_bipush (pc := 42) (v := 11) hx hb dX8_addThing_42 (by decide) ?_
    refine lv_aload_n (pc := 44) hx hb dX8_addThing_44 rfl (lv_at hl 1 rfl) ?_
    refine s_getI (pc := 45) F w ds_2 (j := 1) vc_X8 vi_X8 rfl (by decide) kf_X8_17 dX8_addThing_45 ?_
    refine lv_imul (pc := 48) hx hb dX8_addThing_48 ?_
    refine lv_iadd (pc := 49) hx hb dX8_addThing_49 ?_
    refine lv_iconst (pc := 50) (v := 0) hx hb dX8_addThing_50 (by decide) ?_
    obtain ⟨S3, hc, h⟩ := bndv_t h
    refine s_csv (pc := 51) [.ref (ad 19), .int ((154 : Int32) + ((11 : Int32) * z1)), .int ((154 : Int32) + ((11 : Int32) * (S2.1 2 1))), .int (0 : Int32)] (fun ad => [.ref (ad 19), .int ((154 : Int32) + ((11 : Int32) * z1)), .int ((154 : Int32) + ((11 : Int32) * (S2.1 2 1))), .int (0 : Int32)]) F w (m_J7_fill_fda19_State_cells _ _ _ _ _ hc) rfl rfl hl.1 ok_J7_fill_fda19 rfl kc_J7_fill_fda19 kl_X8_21 ks_J7_fill_fda19 kn_J7 ⟨Nat.le_trans (by decide) hR1, Nat.le_trans (by decide) hR2⟩ ⟨Nat.zero_le _, Nat.zero_le _⟩ (Nat.le_of_ble_eq_true rfl) dX8_addThing_51 (fun H locs w => ?_)
    refine lv_aload_n (pc := 54) hx hb dX8_addThing_54 rfl (lv_at hl 1 rfl) ?_
    refine lv_iload_n (pc := 55) hx hb dX8_addThing_55 rfl (lv_at hl 0 rfl) ?_
    refine lv_iconst (pc := 56) (v := 0) hx hb dX8_addThing_56 (by decide) ?_
    refine lv_iload_n (pc := 57) hx hb dX8_addThing_57 rfl (lv_at hl 2 rfl) ?_
    obtain ⟨S4, hc, h⟩ := bndv_t h
    refine s_cvv (pc := 58) [.int z1, .int (0 : Int32), .int a1] (fun ad => [.ref (ad 2), .int z1, .int (0 : Int32), .int a1]) F w (m_X8_set _ _ _ _ _ hc) rfl rfl hl.1 ds_2 vc_X8 rfl ok_X8_set rfl kc_X8_set kl_X8_27 ki_X8_set kv_X8_set kn_X8 ⟨Nat.le_trans (by decide) hR1, Nat.le_trans (by decide) hR2⟩ ⟨Nat.zero_le _, Nat.zero_le _⟩ (Nat.le_of_ble_eq_true rfl) dX8_addThing_58 (fun H locs w => ?_)
    refine lv_aload_n (pc := 61) hx hb dX8_addThing_61 rfl (lv_at hl 1 rfl) ?_
    refine lv_iload_n (pc := 62) hx hb dX8_addThing_62 rfl (lv_at hl 0 rfl) ?_
    refine lv_iconst (pc := 63) (v := 1) hx hb dX8_addThing_63 (by decide) ?_
    refine lv_iconst (pc := 64) (v := 1) hx hb dX8_addThing_64 (by decide) ?_
    obtain ⟨S5, hc, h⟩ := bndv_t h
    refine s_cvv (pc := 65) [.int z1, .int (1 : Int32), .int (1 : Int32)] (fun ad => [.ref (ad 2), .int z1, .int (1 : Int32), .int (1 : Int32)]) F w (m_X8_set _ _ _ _ _ hc) rfl rfl hl.1 ds_2 vc_X8 rfl ok_X8_set rfl kc_X8_set kl_X8_27 ki_X8_set kv_X8_set kn_X8 ⟨Nat.le_trans (by decide) hR1, Nat.le_trans (by decide) hR2⟩ ⟨Nat.zero_le _, Nat.zero_le _⟩ (Nat.le_of_ble_eq_true rfl) dX8_addThing_65 (fun H locs w => ?_)
    refine lv_aload_n (pc := 68) hx hb dX8_addThing_68 rfl (lv_at hl 1 rfl) ?_
    refine lv_iload_n (pc := 69) hx hb dX8_addThing_69 rfl (lv_at hl 0 rfl) ?_
    refine lv_iconst (pc := 70) (v := 2) hx hb dX8_addThing_70 (by decide) ?_
    refine lv_bipush (pc := 71) (v := -4) hx hb dX8_addThing_71 (by decide) ?_
    obtain ⟨S6, hc, h⟩ := bndv_t h
    refine s_cvv (pc := 73) [.int z1, .int (2 : Int32), .int (-4 : Int32)] (fun ad => [.ref (ad 2), .int z1, .int (2 : Int32), .int (-4 : Int32)]) F w (m_X8_set _ _ _ _ _ hc) rfl rfl hl.1 ds_2 vc_X8 rfl ok_X8_set rfl kc_X8_set kl_X8_27 ki_X8_set kv_X8_set kn_X8 ⟨Nat.le_trans (by decide) hR1, Nat.le_trans (by decide) hR2⟩ ⟨Nat.zero_le _, Nat.zero_le _⟩ (Nat.le_of_ble_eq_true rfl) dX8_addThing_73 (fun H locs w => ?_)
    refine lv_aload_n (pc := 76) hx hb dX8_addThing_76 rfl (lv_at hl 1 rfl) ?_
    refine lv_iload_n (pc := 77) hx hb dX8_addThing_77 rfl (lv_at hl 0 rfl) ?_
    refine lv_iconst (pc := 78) (v := 3) hx hb dX8_addThing_78 (by decide) ?_
    refine lv_bipush (pc := 79) (v := -4) hx hb dX8_addThing_79 (by decide) ?_
    obtain ⟨S7, hc, h⟩ := bndv_t h
    refine s_cvv (pc := 81) [.int z1, .int (3 : Int32), .int (-4 : Int32)] (fun ad => [.ref (ad 2), .int z1, .int (3 : Int32), .int (-4 : Int32)]) F w (m_X8_set _ _ _ _ _ hc) rfl rfl hl.1 ds_2 vc_X8 rfl ok_X8_set rfl kc_X8_set kl_X8_27 ki_X8_set kv_X8_set kn_X8 ⟨Nat.le_trans (by decide) hR1, Nat.le_trans (by decide) hR2⟩ ⟨Nat.zero_le _, Nat.zero_le _⟩ (Nat.le_of_ble_eq_true rfl) dX8_addThing_81 (fun H locs w => ?_)
    refine lv_aload_n (pc := 84) hx hb dX8_addThing_84 rfl (lv_at hl 1 rfl) ?_
    refine lv_iload_n (pc := 85) hx hb dX8_addThing_85 rfl (lv_at hl 0 rfl) ?_
    refine lv_iconst (pc := 86) (v := 4) hx hb dX8_addThing_86 (by decide) ?_
    refine lv_iload_n (pc := 87) hx hb dX8_addThing_87 rfl (lv_at hl 3 rfl) ?_
    obtain ⟨S8, hc, h⟩ := bndv_t h
    refine s_cvv (pc := 88) [.int z1, .int (4 : Int32), .int a2] (fun ad => [.ref (ad 2), .int z1, .int (4 : Int32), .int a2]) F w (m_X8_set _ _ _ _ _ hc) rfl rfl hl.1 ds_2 vc_X8 rfl ok_X8_set rfl kc_X8_set kl_X8_27 ki_X8_set kv_X8_set kn_X8 ⟨Nat.le_trans (by decide) hR1, Nat.le_trans (by decide) hR2⟩ ⟨Nat.zero_le _, Nat.zero_le _⟩ (Nat.le_of_ble_eq_true rfl) dX8_addThing_88 (fun H locs w => ?_)
    refine lv_aload_n (pc := 91) hx hb dX8_addThing_91 rfl (lv_at hl 1 rfl) ?_
    refine lv_iload_n (pc := 92) hx hb dX8_addThing_92 rfl (lv_at hl 0 rfl) ?_
    refine lv_iconst (pc := 93) (v := 5) hx hb dX8_addThing_93 (by decide) ?_
    refine lv_bipush (pc := 94) (v := -4) hx hb dX8_addThing_94 (by decide) ?_
    obtain ⟨S9, hc, h⟩ := bndv_t h
    refine s_cvv (pc := 96) [.int z1, .int (5 : Int32), .int (-4 : Int32)] (fun ad => [.ref (ad 2), .int z1, .int (5 : Int32), .int (-4 : Int32)]) F w (m_X8_set _ _ _ _ _ hc) rfl rfl hl.1 ds_2 vc_X8 rfl ok_X8_set rfl kc_X8_set kl_X8_27 ki_X8_set kv_X8_set kn_X8 ⟨Nat.le_trans (by decide) hR1, Nat.le_trans (by decide) hR2⟩ ⟨Nat.zero_le _, Nat.zero_le _⟩ (Nat.le_of_ble_eq_true rfl) dX8_addThing_96 (fun H locs w => ?_)
    refine lv_iload_n (pc := 99) hx hb dX8_addThing_99 rfl (lv_at hl 0 rfl) ?_
    exact s_iret F w h dX8_addThing_100
  · have h := ite_f q h
    refine lv_bipush (pc := 9) (v := -4) hx hb dX8_addThing_9 (by decide) ?_
    exact s_iret F w h dX8_addThing_11
