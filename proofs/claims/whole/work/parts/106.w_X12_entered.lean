/-! ===== printed by wip/gen: X12_entered X12_danger X11_hold X12_hold X11_jam X12_jam X10_raiseFinding X11_raise X12_raised X12_raise X8_setting X2_endOf X2_spotAt X6_isUnder X6_turnFinding X6_hasLink X6_turnPoint X11_turn X12_placeAtEnd X12_isUnder X12_missTurn ===== -/
def f_X12_entered (a1 : Int32) (a2 : Int32) (S : SS) : Option (Int32 × SS) :=
  grd (inb ((S.1 14 62) - (S.1 14 62) / (40 : Int32) * (40 : Int32)) 40) (wr S 108 ((S.1 14 62) - (S.1 14 62) / (40 : Int32) * (40 : Int32)).toNatClampNeg a1 (fun S1 =>
  grd (inb ((S1.1 14 62) - (S1.1 14 62) / (40 : Int32) * (40 : Int32)) 40) (wr S1 109 ((S1.1 14 62) - (S1.1 14 62) / (40 : Int32) * (40 : Int32)).toNatClampNeg a2 (fun S2 =>
  wr S2 14 62 ((S2.1 14 62) + (1 : Int32)) (fun S3 =>
  some (a2, S3))))))
theorem dX12_entered_0 : decode cX12_entered 0 = .ok (.aload_n 0, 1) := by decide +kernel
theorem dX12_entered_1 : decode cX12_entered 1 = .ok (.getfield 138, 3) := by decide +kernel
theorem dX12_entered_4 : decode cX12_entered 4 = .ok (.aload_n 0, 1) := by decide +kernel
theorem dX12_entered_5 : decode cX12_entered 5 = .ok (.getfield 340, 3) := by decide +kernel
theorem dX12_entered_8 : decode cX12_entered 8 = .ok (.bipush 40, 2) := by decide +kernel
theorem dX12_entered_10 : decode cX12_entered 10 = .ok (.irem, 1) := by decide +kernel
theorem dX12_entered_11 : decode cX12_entered 11 = .ok (.iload_n 1, 1) := by decide +kernel
theorem dX12_entered_12 : decode cX12_entered 12 = .ok (.iastore, 1) := by decide +kernel
theorem dX12_entered_13 : decode cX12_entered 13 = .ok (.aload_n 0, 1) := by decide +kernel
theorem dX12_entered_14 : decode cX12_entered 14 = .ok (.getfield 141, 3) := by decide +kernel
theorem dX12_entered_17 : decode cX12_entered 17 = .ok (.aload_n 0, 1) := by decide +kernel
theorem dX12_entered_18 : decode cX12_entered 18 = .ok (.getfield 340, 3) := by decide +kernel
theorem dX12_entered_21 : decode cX12_entered 21 = .ok (.bipush 40, 2) := by decide +kernel
theorem dX12_entered_23 : decode cX12_entered 23 = .ok (.irem, 1) := by decide +kernel
theorem dX12_entered_24 : decode cX12_entered 24 = .ok (.iload_n 2, 1) := by decide +kernel
theorem dX12_entered_25 : decode cX12_entered 25 = .ok (.iastore, 1) := by decide +kernel
theorem dX12_entered_26 : decode cX12_entered 26 = .ok (.aload_n 0, 1) := by decide +kernel
theorem dX12_entered_27 : decode cX12_entered 27 = .ok (.dup, 1) := by decide +kernel
theorem dX12_entered_28 : decode cX12_entered 28 = .ok (.getfield 340, 3) := by decide +kernel
theorem dX12_entered_31 : decode cX12_entered 31 = .ok (.iconst 1, 1) := by decide +kernel
theorem dX12_entered_32 : decode cX12_entered 32 = .ok (.iadd, 1) := by decide +kernel
theorem dX12_entered_33 : decode cX12_entered 33 = .ok (.putfield 340, 3) := by decide +kernel
theorem dX12_entered_36 : decode cX12_entered 36 = .ok (.iload_n 2, 1) := by decide +kernel
theorem dX12_entered_37 : decode cX12_entered 37 = .ok (.ireturn, 1) := by decide +kernel
set_option maxRecDepth 100000 in
set_option maxHeartbeats 4000000 in
theorem m_X12_entered (a1 : Int32) (a2 : Int32) (S S' : SS) (r : Int32) (h : f_X12_entered a1 a2 S = some (r, S')) : MT yX12_entered cX12_entered 3 (some .int) 0 0 (fun ad => [.ref (ad 14), .int a1, .int a2]) S (some (.int r)) S' := by
  refine MT.of RX12 (fun ad => [(0, .ref (ad 14)), (1, .int a1), (2, .int a2)]) (by decide) rfl (fun _ => Nat.le_of_ble_eq_true rfl) (fun _ => rfl) ?_
  intro p l e R s m args below meth c dC dI cs ad A hR1 hR2 F H locs ls w hl
  have hx := F.1.1
  have hb := F.1.2.1
  rw [f_X12_entered] at h
  refine lv_aload_n (pc := 0) hx hb dX12_entered_0 rfl (lv_at hl 0 rfl) ?_
  refine s_getR (pc := 1) F w 108 ds_14 (j := 63) vc_X12 vi_X12 rfl (by decide) kf_X12_138 dX12_entered_1 ?_
  refine lv_aload_n (pc := 4) hx hb dX12_entered_4 rfl (lv_at hl 0 rfl) ?_
  refine s_getI (pc := 5) F w ds_14 (j := 62) vc_X12 vi_X12 rfl (by decide) kf_X12_340 dX12_entered_5 ?_
  refine lv_bipush (pc := 8) (v := 40) hx hb dX12_entered_8 (by decide) ?_
  refine lv_irem (pc := 10) hx hb dX12_entered_10 (by decide) ?_
  refine lv_iload_n (pc := 11) hx hb dX12_entered_11 rfl (lv_at hl 1 rfl) ?_
  refine s_iast (pc := 12) F w ds_108 h dX12_entered_12 (fun S1 H locs h w => ?_)
  refine lv_aload_n (pc := 13) hx hb dX12_entered_13 rfl (lv_at hl 0 rfl) ?_
  refine s_getR (pc := 14) F w 109 ds_14 (j := 64) vc_X12 vi_X12 rfl (by decide) kf_X12_141 dX12_entered_14 ?_
  refine lv_aload_n (pc := 17) hx hb dX12_entered_17 rfl (lv_at hl 0 rfl) ?_
  refine s_getI (pc := 18) F w ds_14 (j := 62) vc_X12 vi_X12 rfl (by decide) kf_X12_340 dX12_entered_18 ?_
  refine lv_bipush (pc := 21) (v := 40) hx hb dX12_entered_21 (by decide) ?_
  refine lv_irem (pc := 23) hx hb dX12_entered_23 (by decide) ?_
  refine lv_iload_n (pc := 24) hx hb dX12_entered_24 rfl (lv_at hl 2 rfl) ?_
  refine s_iast (pc := 25) F w ds_109 h dX12_entered_25 (fun S2 H locs h w => ?_)
  refine lv_aload_n (pc := 26) hx hb dX12_entered_26 rfl (lv_at hl 0 rfl) ?_
  refine lv_dup (pc := 27) hx hb dX12_entered_27 rfl ?_
  refine s_getI (pc := 28) F w ds_14 (j := 62) vc_X12 vi_X12 rfl (by decide) kf_X12_340 dX12_entered_28 ?_
  refine lv_iconst (pc := 31) (v := 1) hx hb dX12_entered_31 (by decide) ?_
  refine lv_iadd (pc := 32) hx hb dX12_entered_32 ?_
  refine s_putI (pc := 33) F w ds_14 vc_X12 vi_X12 tyX12_ok nmX12 (j := 62) rfl (by decide) kf_X12_340 rfl pd_I h dX12_entered_33 (fun S3 H locs h w => ?_)
  refine lv_iload_n (pc := 36) hx hb dX12_entered_36 rfl (lv_at hl 2 rfl) ?_
  exact s_iret F w h dX12_entered_37
def f_X12_danger (a1 : Int32) (a2 : Int32) (S : SS) : Option (Int32 × SS) :=
  if a2 < 0 then
    some ((-1 : Int32), S)
  else
    if a2 ≤ (9 : Int32) then
      bndv (f_X12_begin  S) (fun S1 =>
      bndv (f_X12_keep  S1) (fun S2 =>
      bnd (f_X12_missThing a1 (1 : Int32) S2) (fun r4 S3 =>
      bnd (f_X12_ends r4 S3) (fun r6 S5 =>
      if r6 = 0 then
        grd (inb a1 72) (
        nm (S5.1 94 a1.toNatClampNeg) (fun z7 =>
        grd (inb a1 72) (wr S5 94 a1.toNatClampNeg a2 (fun S8 =>
        bnd (f_X12_entered (0 : Int32) z7 S8) (fun r10 S9 =>
        some (r10, S9))))))
      else
        bnd (f_X12_entered (0 : Int32) (-2 : Int32) S5) (fun r12 S11 =>
        some (r12, S11))))))
    else
      some ((-1 : Int32), S)
theorem dX12_danger_0 : decode cX12_danger 0 = .ok (.iload_n 2, 1) := by decide +kernel
theorem dX12_danger_1 : decode cX12_danger 1 = .ok (.ifCond .lt 9, 3) := by decide +kernel
theorem dX12_danger_4 : decode cX12_danger 4 = .ok (.iload_n 2, 1) := by decide +kernel
theorem dX12_danger_5 : decode cX12_danger 5 = .ok (.bipush 9, 2) := by decide +kernel
theorem dX12_danger_7 : decode cX12_danger 7 = .ok (.if_icmp .le 5, 3) := by decide +kernel
theorem dX12_danger_10 : decode cX12_danger 10 = .ok (.iconst (-1), 1) := by decide +kernel
theorem dX12_danger_11 : decode cX12_danger 11 = .ok (.ireturn, 1) := by decide +kernel
theorem dX12_danger_12 : decode cX12_danger 12 = .ok (.aload_n 0, 1) := by decide +kernel
theorem dX12_danger_13 : decode cX12_danger 13 = .ok (.invokevirtual 226, 3) := by decide +kernel
theorem dX12_danger_16 : decode cX12_danger 16 = .ok (.aload_n 0, 1) := by decide +kernel
theorem dX12_danger_17 : decode cX12_danger 17 = .ok (.invokevirtual 346, 3) := by decide +kernel
theorem dX12_danger_20 : decode cX12_danger 20 = .ok (.aload_n 0, 1) := by decide +kernel
theorem dX12_danger_21 : decode cX12_danger 21 = .ok (.aload_n 0, 1) := by decide +kernel
theorem dX12_danger_22 : decode cX12_danger 22 = .ok (.iload_n 1, 1) := by decide +kernel
theorem dX12_danger_23 : decode cX12_danger 23 = .ok (.iconst 1, 1) := by decide +kernel
theorem dX12_danger_24 : decode cX12_danger 24 = .ok (.invokevirtual 293, 3) := by decide +kernel
theorem dX12_danger_27 : decode cX12_danger 27 = .ok (.invokevirtual 236, 3) := by decide +kernel
theorem dX12_danger_30 : decode cX12_danger 30 = .ok (.ifCond .eq 11, 3) := by decide +kernel
theorem dX12_danger_33 : decode cX12_danger 33 = .ok (.aload_n 0, 1) := by decide +kernel
theorem dX12_danger_34 : decode cX12_danger 34 = .ok (.iconst 0, 1) := by decide +kernel
theorem dX12_danger_35 : decode cX12_danger 35 = .ok (.bipush (-2), 2) := by decide +kernel
theorem dX12_danger_37 : decode cX12_danger 37 = .ok (.invokevirtual 349, 3) := by decide +kernel
theorem dX12_danger_40 : decode cX12_danger 40 = .ok (.ireturn, 1) := by decide +kernel
theorem dX12_danger_41 : decode cX12_danger 41 = .ok (.aload_n 0, 1) := by decide +kernel
theorem dX12_danger_42 : decode cX12_danger 42 = .ok (.getfield 96, 3) := by decide +kernel
theorem dX12_danger_45 : decode cX12_danger 45 = .ok (.iload_n 1, 1) := by decide +kernel
theorem dX12_danger_46 : decode cX12_danger 46 = .ok (.iaload, 1) := by decide +kernel
theorem dX12_danger_47 : decode cX12_danger 47 = .ok (.istore_n 3, 1) := by decide +kernel
theorem dX12_danger_48 : decode cX12_danger 48 = .ok (.aload_n 0, 1) := by decide +kernel
theorem dX12_danger_49 : decode cX12_danger 49 = .ok (.getfield 96, 3) := by decide +kernel
theorem dX12_danger_52 : decode cX12_danger 52 = .ok (.iload_n 1, 1) := by decide +kernel
theorem dX12_danger_53 : decode cX12_danger 53 = .ok (.iload_n 2, 1) := by decide +kernel
theorem dX12_danger_54 : decode cX12_danger 54 = .ok (.iastore, 1) := by decide +kernel
theorem dX12_danger_55 : decode cX12_danger 55 = .ok (.aload_n 0, 1) := by decide +kernel
theorem dX12_danger_56 : decode cX12_danger 56 = .ok (.iconst 0, 1) := by decide +kernel
theorem dX12_danger_57 : decode cX12_danger 57 = .ok (.iload_n 3, 1) := by decide +kernel
theorem dX12_danger_58 : decode cX12_danger 58 = .ok (.invokevirtual 349, 3) := by decide +kernel
theorem dX12_danger_61 : decode cX12_danger 61 = .ok (.ireturn, 1) := by decide +kernel
set_option maxRecDepth 100000 in
set_option maxHeartbeats 4000000 in
theorem m_X12_danger (a1 : Int32) (a2 : Int32) (S S' : SS) (r : Int32) (h : f_X12_danger a1 a2 S = some (r, S')) : MT yX12_danger cX12_danger 4 (some .int) 2 45 (fun ad => [.ref (ad 14), .int a1, .int a2]) S (some (.int r)) S' := by
  refine MT.of RX12 (fun ad => [(0, .ref (ad 14)), (1, .int a1), (2, .int a2)]) (by decide) rfl (fun _ => Nat.le_of_ble_eq_true rfl) (fun _ => rfl) ?_
  intro p l e R s m args below meth c dC dI cs ad A hR1 hR2 F H locs ls w hl
  have hx := F.1.1
  have hb := F.1.2.1
  rw [f_X12_danger] at h
  refine lv_iload_n (pc := 0) hx hb dX12_danger_0 rfl (lv_at hl 2 rfl) ?_
  refine lv_if_lt (pc := 1) (tgt := 10) hx hb dX12_danger_1 (by decide) (fun q => ?_) (fun q => ?_)
  · have h := ite_t q h
    refine lv_iconst (pc := 10) (v := -1) hx hb dX12_danger_10 (by decide) ?_
    exact s_iret F w h dX12_danger_11
  · have h := ite_f q h
    refine lv_iload_n (pc := 4) hx hb dX12_danger_4 rfl (lv_at hl 2 rfl) ?_
    refine lv_bipush (pc := 5) (v := 9) hx hb dX12_danger_5 (by decide) ?_
    refine lv_icmp_le (pc := 7) (tgt := 12) hx hb dX12_danger_7 (by decide) (fun q => ?_) (fun q => ?_)
    · have h := ite_t q h
      refine lv_aload_n (pc := 12) hx hb dX12_danger_12 rfl (lv_at hl 0 rfl) ?_
      obtain ⟨S1, hc, h⟩ := bndv_t h
      refine s_cvv (pc := 13) [] (fun ad => [.ref (ad 14)]) F w (m_X12_begin  _ _ hc) rfl rfl hl.1 ds_14 vc_X12 rfl ok_X12_begin rfl kc_X12_begin kl_X12_226 ki_X12_begin kv_X12_begin kn_X12 ⟨Nat.le_trans (by decide) hR1, Nat.le_trans (by decide) hR2⟩ ⟨Nat.zero_le _, Nat.zero_le _⟩ (Nat.le_of_ble_eq_true rfl) dX12_danger_13 (fun H locs w => ?_)
      refine lv_aload_n (pc := 16) hx hb dX12_danger_16 rfl (lv_at hl 0 rfl) ?_
      obtain ⟨S2, hc, h⟩ := bndv_t h
      refine s_cvv (pc := 17) [] (fun ad => [.ref (ad 14)]) F w (m_X12_keep  _ _ hc) rfl rfl hl.1 ds_14 vc_X12 rfl ok_X12_keep rfl kc_X12_keep kl_X12_346 ki_X12_keep kv_X12_keep kn_X12 ⟨Nat.le_trans (by decide) hR1, Nat.le_trans (by decide) hR2⟩ ⟨Nat.zero_le _, Nat.zero_le _⟩ (Nat.le_of_ble_eq_true rfl) dX12_danger_17 (fun H locs w => ?_)
      refine lv_aload_n (pc := 20) hx hb dX12_danger_20 rfl (lv_at hl 0 rfl) ?_
      refine lv_aload_n (pc := 21) hx hb dX12_danger_21 rfl (lv_at hl 0 rfl) ?_
      refine lv_iload_n (pc := 22) hx hb dX12_danger_22 rfl (lv_at hl 1 rfl) ?_
      refine lv_iconst (pc := 23) (v := 1) hx hb dX12_danger_23 (by decide) ?_
      obtain ⟨r4, S3, hc, h⟩ := bnd_t h
      refine s_cvi (pc := 24) [.int a1, .int (1 : Int32)] (fun ad => [.ref (ad 14), .int a1, .int (1 : Int32)]) F w (m_X12_missThing _ _ _ _ _ hc) rfl rfl hl.1 ds_14 vc_X12 rfl ok_X12_missThing rfl kc_X12_missThing kl_X12_293 ki_X12_missThing kv_X12_missThing kn_X12 ⟨Nat.le_trans (by decide) hR1, Nat.le_trans (by decide) hR2⟩ ⟨Nat.zero_le _, Nat.zero_le _⟩ (Nat.le_of_ble_eq_true rfl) dX12_danger_24 (fun H locs w => ?_)
      obtain ⟨r6, S5, hc, h⟩ := bnd_t h
      refine s_cvi (pc := 27) [.int r4] (fun ad => [.ref (ad 14), .int r4]) F w (m_X12_ends _ _ _ _ hc) rfl rfl hl.1 ds_14 vc_X12 rfl ok_X12_ends rfl kc_X12_ends kl_X12_236 ki_X12_ends kv_X12_ends kn_X12 ⟨Nat.le_trans (by decide) hR1, Nat.le_trans (by decide) hR2⟩ ⟨Nat.zero_le _, Nat.zero_le _⟩ (Nat.le_of_ble_eq_true rfl) dX12_danger_27 (fun H locs w => ?_)
      refine lv_if_eq (pc := 30) (tgt := 41) hx hb dX12_danger_30 (by decide) (fun q => ?_) (fun q => ?_)
      · have h := ite_t q h
        refine lv_aload_n (pc := 41) hx hb dX12_danger_41 rfl (lv_at hl 0 rfl) ?_
        refine s_getR (pc := 42) F w 94 ds_14 (j := 39) vc_X12 vi_X12 rfl (by decide) kf_X12_96 dX12_danger_42 ?_
        refine lv_iload_n (pc := 45) hx hb dX12_danger_45 rfl (lv_at hl 1 rfl) ?_
        refine s_iald (pc := 46) F w ds_94 h dX12_danger_46 (fun h => ?_)
        refine s_nm h (fun z7 ez7 h => ?_)
        rw [← ez7]
        refine lv_istore_n (pc := 47) (lv' := [(3, .int z7), (0, .ref (ad 14)), (1, .int a1), (2, .int a2)]) hx hb dX12_danger_47 rfl hl (by decide) rfl (fun ls hl => ?_)
        refine lv_aload_n (pc := 48) hx hb dX12_danger_48 rfl (lv_at hl 1 rfl) ?_
        refine s_getR (pc := 49) F w 94 ds_14 (j := 39) vc_X12 vi_X12 rfl (by decide) kf_X12_96 dX12_danger_49 ?_
        refine lv_iload_n (pc := 52) hx hb dX12_danger_52 rfl (lv_at hl 2 rfl) ?_
        refine lv_iload_n (pc := 53) hx hb dX12_danger_53 rfl (lv_at hl 3 rfl) ?_
        refine s_iast (pc := 54) F w ds_94 h dX12_danger_54 (fun S8 H locs h w => ?_)
        refine lv_aload_n (pc := 55) hx hb dX12_danger_55 rfl (lv_at hl 1 rfl) ?_
        refine lv_iconst (pc := 56) (v := 0) hx hb dX12_danger_56 (by decide) ?_
        refine lv_iload_n (pc := 57) hx hb dX12_danger_57 rfl (lv_at hl 0 rfl) ?_
        obtain ⟨r10, S9, hc, h⟩ := bnd_t h
        refine s_cvi (pc := 58) [.int (0 : Int32), .int z7] (fun ad => [.ref (ad 14), .int (0 : Int32), .int z7]) F w (m_X12_entered _ _ _ _ _ hc) rfl rfl hl.1 ds_14 vc_X12 rfl ok_X12_entered rfl kc_X12_entered kl_X12_349 ki_X12_entered kv_X12_entered kn_X12 ⟨Nat.le_trans (by decide) hR1, Nat.le_trans (by decide) hR2⟩ ⟨Nat.zero_le _, Nat.zero_le _⟩ (Nat.le_of_ble_eq_true rfl) dX12_danger_58 (fun H locs w => ?_)
        exact s_iret F w h dX12_danger_61
      · have h := ite_f q h
        refine lv_aload_n (pc := 33) hx hb dX12_danger_33 rfl (lv_at hl 0 rfl) ?_
        refine lv_iconst (pc := 34) (v := 0) hx hb dX12_danger_34 (by decide) ?_
        refine lv_bipush (pc := 35) (v := -2) hx hb dX12_danger_35 (by decide) ?_
        obtain ⟨r12, S11, hc, h⟩ := bnd_t h
        refine s_cvi (pc := 37) [.int (0 : Int32), .int (-2 : Int32)] (fun ad => [.ref (ad 14), .int (0 : Int32), .int (-2 : Int32)]) F w (m_X12_entered _ _ _ _ _ hc) rfl rfl hl.1 ds_14 vc_X12 rfl ok_X12_entered rfl kc_X12_entered kl_X12_349 ki_X12_entered kv_X12_entered kn_X12 ⟨Nat.le_trans (by decide) hR1, Nat.le_trans (by decide) hR2⟩ ⟨Nat.zero_le _, Nat.zero_le _⟩ (Nat.le_of_ble_eq_true rfl) dX12_danger_37 (fun H locs w => ?_)
        exact s_iret F w h dX12_danger_40
    · have h := ite_f q h
      refine lv_iconst (pc := 10) (v := -1) hx hb dX12_danger_10 (by decide) ?_
      exact s_iret F w h dX12_danger_11
def f_X11_hold_j19  (x1 : Int32) (x2 : Int32) (S : SS) : Option (Int32 × SS) :=
    bndv (f_X11_beginAct  S) (fun S1 =>
    bnd (f_X11_change x1 (127 : Int32) (5 : Int32) x2 S1) (fun r3 S2 =>
    bnd (f_X11_endAct (1 : Int32) r3 S2) (fun r5 S4 =>
    some (r5, S4))))
def f_X11_hold (a1 : Int32) (a2 : Int32) (S : SS) : Option (Int32 × SS) :=
  if a2 = (-4 : Int32) then
    f_X11_hold_j19 a1 a2 S
  else
    bnd (f_X11_isNot a2 (0 : Int32) (999 : Int32) S) (fun r7 S6 =>
    if r7 = 0 then
      f_X11_hold_j19 a1 a2 S6
    else
      some ((-1 : Int32), S6))
theorem dX11_hold_0 : decode cX11_hold 0 = .ok (.iload_n 2, 1) := by decide +kernel
theorem dX11_hold_1 : decode cX11_hold 1 = .ok (.bipush (-4), 2) := by decide +kernel
theorem dX11_hold_3 : decode cX11_hold 3 = .ok (.if_icmp .eq 16, 3) := by decide +kernel
theorem dX11_hold_6 : decode cX11_hold 6 = .ok (.iload_n 2, 1) := by decide +kernel
theorem dX11_hold_7 : decode cX11_hold 7 = .ok (.iconst 0, 1) := by decide +kernel
theorem dX11_hold_8 : decode cX11_hold 8 = .ok (.sipush 999, 3) := by decide +kernel
theorem dX11_hold_11 : decode cX11_hold 11 = .ok (.invokestatic 108, 3) := by decide +kernel
theorem dX11_hold_14 : decode cX11_hold 14 = .ok (.ifCond .eq 5, 3) := by decide +kernel
theorem dX11_hold_17 : decode cX11_hold 17 = .ok (.iconst (-1), 1) := by decide +kernel
theorem dX11_hold_18 : decode cX11_hold 18 = .ok (.ireturn, 1) := by decide +kernel
theorem dX11_hold_19 : decode cX11_hold 19 = .ok (.aload_n 0, 1) := by decide +kernel
theorem dX11_hold_20 : decode cX11_hold 20 = .ok (.invokevirtual 199, 3) := by decide +kernel
theorem dX11_hold_23 : decode cX11_hold 23 = .ok (.aload_n 0, 1) := by decide +kernel
theorem dX11_hold_24 : decode cX11_hold 24 = .ok (.iconst 1, 1) := by decide +kernel
theorem dX11_hold_25 : decode cX11_hold 25 = .ok (.aload_n 0, 1) := by decide +kernel
theorem dX11_hold_26 : decode cX11_hold 26 = .ok (.iload_n 1, 1) := by decide +kernel
theorem dX11_hold_27 : decode cX11_hold 27 = .ok (.bipush 127, 2) := by decide +kernel
theorem dX11_hold_29 : decode cX11_hold 29 = .ok (.iconst 5, 1) := by decide +kernel
theorem dX11_hold_30 : decode cX11_hold 30 = .ok (.iload_n 2, 1) := by decide +kernel
theorem dX11_hold_31 : decode cX11_hold 31 = .ok (.invokevirtual 202, 3) := by decide +kernel
theorem dX11_hold_34 : decode cX11_hold 34 = .ok (.invokevirtual 205, 3) := by decide +kernel
theorem dX11_hold_37 : decode cX11_hold 37 = .ok (.ireturn, 1) := by decide +kernel
set_option maxRecDepth 100000 in
set_option maxHeartbeats 4000000 in
theorem w_X11_hold_j19 {p : Program} {l : Launch} {e : Env} {R : Room} {s : State} {m : MethodId} {args : Array Value} {below : List Frame} {meth : Method} {c : Code} {dC : Nat → ClassId} {dI : Nat → Nat → Nat} {cs : Nat → ClassId} {ad : Nat → Nat} {A : Nat → Prop} {D0 : Nat → Nat} {S' : SS} {r : Int32} (F : Fx p s m args meth c cX11_hold 3 RX11 (some .int) dC dI cs A) (hR1 : 4 ≤ R.frames) (hR2 : 93 ≤ R.locals) (x1 : Int32) (x2 : Int32) (S : SS) (h : f_X11_hold_j19 x1 x2 S = some (r, S')) : AW p l e R s m args below meth c dC dI cs ad A D0 (some (.int r)) S' 3 19 [(0, .ref (ad 0)), (1, .int x1), (2, .int x2)] [] S := by
  have hx := F.1.1
  have hb := F.1.2.1
  intro H locs ls w hl
  rw [f_X11_hold_j19] at h
  refine lv_aload_n (pc := 19) hx hb dX11_hold_19 rfl (lv_at hl 0 rfl) ?_
  obtain ⟨S1, hc, h⟩ := bndv_t h
  refine s_cvv (pc := 20) [] (fun ad => [.ref (ad 0)]) F w (m_X11_beginAct  _ _ hc) rfl rfl hl.1 ds_0 vc_X11 rfl ok_X11_beginAct rfl kc_X11_beginAct kl_X11_199 ki_X11_beginAct kv_X11_beginAct kn_X11 ⟨Nat.le_trans (by decide) hR1, Nat.le_trans (by decide) hR2⟩ ⟨Nat.zero_le _, Nat.zero_le _⟩ (Nat.le_of_ble_eq_true rfl) dX11_hold_20 (fun H locs w => ?_)
  refine lv_aload_n (pc := 23) hx hb dX11_hold_23 rfl (lv_at hl 0 rfl) ?_
  refine lv_iconst (pc := 24) (v := 1) hx hb dX11_hold_24 (by decide) ?_
  refine lv_aload_n (pc := 25) hx hb dX11_hold_25 rfl (lv_at hl 0 rfl) ?_
  refine lv_iload_n (pc := 26) hx hb dX11_hold_26 rfl (lv_at hl 1 rfl) ?_
  refine lv_bipush (pc := 27) (v := 127) hx hb dX11_hold_27 (by decide) ?_
  refine lv_iconst (pc := 29) (v := 5) hx hb dX11_hold_29 (by decide) ?_
  refine lv_iload_n (pc := 30) hx hb dX11_hold_30 rfl (lv_at hl 2 rfl) ?_
  obtain ⟨r3, S2, hc, h⟩ := bnd_t h
  refine s_cvi (pc := 31) [.int x1, .int (127 : Int32), .int (5 : Int32), .int x2] (fun ad => [.ref (ad 0), .int x1, .int (127 : Int32), .int (5 : Int32), .int x2]) F w (m_X11_change _ _ _ _ _ _ _ hc) rfl rfl hl.1 ds_0 vc_X11 rfl ok_X11_change rfl kc_X11_change kl_X11_202 ki_X11_change kv_X11_change kn_X11 ⟨Nat.le_trans (by decide) hR1, Nat.le_trans (by decide) hR2⟩ ⟨Nat.zero_le _, Nat.zero_le _⟩ (Nat.le_of_ble_eq_true rfl) dX11_hold_31 (fun H locs w => ?_)
  obtain ⟨r5, S4, hc, h⟩ := bnd_t h
  refine s_cvi (pc := 34) [.int (1 : Int32), .int r3] (fun ad => [.ref (ad 0), .int (1 : Int32), .int r3]) F w (m_X11_endAct _ _ _ _ _ hc) rfl rfl hl.1 ds_0 vc_X11 rfl ok_X11_endAct rfl kc_X11_endAct kl_X11_205 ki_X11_endAct kv_X11_endAct kn_X11 ⟨Nat.le_trans (by decide) hR1, Nat.le_trans (by decide) hR2⟩ ⟨Nat.zero_le _, Nat.zero_le _⟩ (Nat.le_of_ble_eq_true rfl) dX11_hold_34 (fun H locs w => ?_)
  exact s_iret F w h dX11_hold_37
set_option maxRecDepth 100000 in
set_option maxHeartbeats 4000000 in
theorem m_X11_hold (a1 : Int32) (a2 : Int32) (S S' : SS) (r : Int32) (h : f_X11_hold a1 a2 S = some (r, S')) : MT yX11_hold cX11_hold 3 (some .int) 4 93 (fun ad => [.ref (ad 0), .int a1, .int a2]) S (some (.int r)) S' := by
  refine MT.of RX11 (fun ad => [(0, .ref (ad 0)), (1, .int a1), (2, .int a2)]) (by decide) rfl (fun _ => Nat.le_of_ble_eq_true rfl) (fun _ => rfl) ?_
  intro p l e R s m args below meth c dC dI cs ad A hR1 hR2 F H locs ls w hl
  have hx := F.1.1
  have hb := F.1.2.1
  rw [f_X11_hold] at h
  refine lv_iload_n (pc := 0) hx hb dX11_hold_0 rfl (lv_at hl 2 rfl) ?_
  refine lv_bipush (pc := 1) (v := -4) hx hb dX11_hold_1 (by decide) ?_
  refine lv_icmp_eq (pc := 3) (tgt := 19) hx hb dX11_hold_3 (by decide) (fun q => ?_) (fun q => ?_)
  · have h := ite_t q h
    exact w_X11_hold_j19 F (Nat.le_trans (by decide) hR1) (Nat.le_trans (by decide) hR2) _ _ _ h _ _ _ w (lv_sub hl [0, 1, 2] rfl)
  · have h := ite_f q h
    refine lv_iload_n (pc := 6) hx hb dX11_hold_6 rfl (lv_at hl 2 rfl) ?_
    refine lv_iconst (pc := 7) (v := 0) hx hb dX11_hold_7 (by decide) ?_
    refine lv_sipush (pc := 8) (v := 999) hx hb dX11_hold_8 (by decide) ?_
    obtain ⟨r7, S6, hc, h⟩ := bnd_t h
    refine s_csi (pc := 11) [.int a2, .int (0 : Int32), .int (999 : Int32)] (fun ad => [.int a2, .int (0 : Int32), .int (999 : Int32)]) F w (m_X11_isNot _ _ _ _ _ _ hc) rfl rfl hl.1 ok_X11_isNot rfl kc_X11_isNot kl_X11_108 ks_X11_isNot kn_X11 ⟨Nat.le_trans (by decide) hR1, Nat.le_trans (by decide) hR2⟩ ⟨Nat.zero_le _, Nat.zero_le _⟩ (Nat.le_of_ble_eq_true rfl) dX11_hold_11 (fun H locs w => ?_)
    refine lv_if_eq (pc := 14) (tgt := 19) hx hb dX11_hold_14 (by decide) (fun q => ?_) (fun q => ?_)
    · have h := ite_t q h
      exact w_X11_hold_j19 F (Nat.le_trans (by decide) hR1) (Nat.le_trans (by decide) hR2) _ _ _ h _ _ _ w (lv_sub hl [0, 1, 2] rfl)
    · have h := ite_f q h
      refine lv_iconst (pc := 17) (v := -1) hx hb dX11_hold_17 (by decide) ?_
      exact s_iret F w h dX11_hold_18
def f_X12_hold_j19  (x1 : Int32) (x2 : Int32) (S : SS) : Option (Int32 × SS) :=
    bndv (f_X12_begin  S) (fun S1 =>
    bndv (f_X12_keep  S1) (fun S2 =>
    bnd (f_X12_missThing x1 (0 : Int32) S2) (fun r4 S3 =>
    bnd (f_X12_ends r4 S3) (fun r6 S5 =>
    if r6 = 0 then
      grd (inb x1 72) (
      nm (S5.1 92 x1.toNatClampNeg) (fun z7 =>
      grd (inb x1 72) (wr S5 92 x1.toNatClampNeg x2 (fun S8 =>
      bnd (f_X12_entered (1 : Int32) z7 S8) (fun r10 S9 =>
      some (r10, S9))))))
    else
      bnd (f_X12_entered (1 : Int32) (-2 : Int32) S5) (fun r12 S11 =>
      some (r12, S11))))))
def f_X12_hold (a1 : Int32) (a2 : Int32) (S : SS) : Option (Int32 × SS) :=
  if a2 = (-4 : Int32) then
    f_X12_hold_j19 a1 a2 S
  else
    if a2 < 0 then
      some ((-1 : Int32), S)
    else
      if a2 ≤ (999 : Int32) then
        f_X12_hold_j19 a1 a2 S
      else
        some ((-1 : Int32), S)
theorem dX12_hold_0 : decode cX12_hold 0 = .ok (.iload_n 2, 1) := by decide +kernel
theorem dX12_hold_1 : decode cX12_hold 1 = .ok (.bipush (-4), 2) := by decide +kernel
theorem dX12_hold_3 : decode cX12_hold 3 = .ok (.if_icmp .eq 16, 3) := by decide +kernel
theorem dX12_hold_6 : decode cX12_hold 6 = .ok (.iload_n 2, 1) := by decide +kernel
theorem dX12_hold_7 : decode cX12_hold 7 = .ok (.ifCond .lt 10, 3) := by decide +kernel
theorem dX12_hold_10 : decode cX12_hold 10 = .ok (.iload_n 2, 1) := by decide +kernel
theorem dX12_hold_11 : decode cX12_hold 11 = .ok (.sipush 999, 3) := by decide +kernel
theorem dX12_hold_14 : decode cX12_hold 14 = .ok (.if_icmp .le 5, 3) := by decide +kernel
theorem dX12_hold_17 : decode cX12_hold 17 = .ok (.iconst (-1), 1) := by decide +kernel
theorem dX12_hold_18 : decode cX12_hold 18 = .ok (.ireturn, 1) := by decide +kernel
theorem dX12_hold_19 : decode cX12_hold 19 = .ok (.aload_n 0, 1) := by decide +kernel
theorem dX12_hold_20 : decode cX12_hold 20 = .ok (.invokevirtual 226, 3) := by decide +kernel
theorem dX12_hold_23 : decode cX12_hold 23 = .ok (.aload_n 0, 1) := by decide +kernel
theorem dX12_hold_24 : decode cX12_hold 24 = .ok (.invokevirtual 346, 3) := by decide +kernel
theorem dX12_hold_27 : decode cX12_hold 27 = .ok (.aload_n 0, 1) := by decide +kernel
theorem dX12_hold_28 : decode cX12_hold 28 = .ok (.aload_n 0, 1) := by decide +kernel
theorem dX12_hold_29 : decode cX12_hold 29 = .ok (.iload_n 1, 1) := by decide +kernel
theorem dX12_hold_30 : decode cX12_hold 30 = .ok (.iconst 0, 1) := by decide +kernel
theorem dX12_hold_31 : decode cX12_hold 31 = .ok (.invokevirtual 293, 3) := by decide +kernel
theorem dX12_hold_34 : decode cX12_hold 34 = .ok (.invokevirtual 236, 3) := by decide +kernel
theorem dX12_hold_37 : decode cX12_hold 37 = .ok (.ifCond .eq 11, 3) := by decide +kernel
theorem dX12_hold_40 : decode cX12_hold 40 = .ok (.aload_n 0, 1) := by decide +kernel
theorem dX12_hold_41 : decode cX12_hold 41 = .ok (.iconst 1, 1) := by decide +kernel
theorem dX12_hold_42 : decode cX12_hold 42 = .ok (.bipush (-2), 2) := by decide +kernel
theorem dX12_hold_44 : decode cX12_hold 44 = .ok (.invokevirtual 349, 3) := by decide +kernel
theorem dX12_hold_47 : decode cX12_hold 47 = .ok (.ireturn, 1) := by decide +kernel
theorem dX12_hold_48 : decode cX12_hold 48 = .ok (.aload_n 0, 1) := by decide +kernel
theorem dX12_hold_49 : decode cX12_hold 49 = .ok (.getfield 90, 3) := by decide +kernel
theorem dX12_hold_52 : decode cX12_hold 52 = .ok (.iload_n 1, 1) := by decide +kernel
theorem dX12_hold_53 : decode cX12_hold 53 = .ok (.iaload, 1) := by decide +kernel
theorem dX12_hold_54 : decode cX12_hold 54 = .ok (.istore_n 3, 1) := by decide +kernel
theorem dX12_hold_55 : decode cX12_hold 55 = .ok (.aload_n 0, 1) := by decide +kernel
theorem dX12_hold_56 : decode cX12_hold 56 = .ok (.getfield 90, 3) := by decide +kernel
theorem dX12_hold_59 : decode cX12_hold 59 = .ok (.iload_n 1, 1) := by decide +kernel
theorem dX12_hold_60 : decode cX12_hold 60 = .ok (.iload_n 2, 1) := by decide +kernel
theorem dX12_hold_61 : decode cX12_hold 61 = .ok (.iastore, 1) := by decide +kernel
theorem dX12_hold_62 : decode cX12_hold 62 = .ok (.aload_n 0, 1) := by decide +kernel
theorem dX12_hold_63 : decode cX12_hold 63 = .ok (.iconst 1, 1) := by decide +kernel
theorem dX12_hold_64 : decode cX12_hold 64 = .ok (.iload_n 3, 1) := by decide +kernel
theorem dX12_hold_65 : decode cX12_hold 65 = .ok (.invokevirtual 349, 3) := by decide +kernel
theorem dX12_hold_68 : decode cX12_hold 68 = .ok (.ireturn, 1) := by decide +kernel
set_option maxRecDepth 100000 in
set_option maxHeartbeats 4000000 in
theorem w_X12_hold_j19 {p : Program} {l : Launch} {e : Env} {R : Room} {s : State} {m : MethodId} {args : Array Value} {below : List Frame} {meth : Method} {c : Code} {dC : Nat → ClassId} {dI : Nat → Nat → Nat} {cs : Nat → ClassId} {ad : Nat → Nat} {A : Nat → Prop} {D0 : Nat → Nat} {S' : SS} {r : Int32} (F : Fx p s m args meth c cX12_hold 4 RX12 (some .int) dC dI cs A) (hR1 : 2 ≤ R.frames) (hR2 : 45 ≤ R.locals) (x1 : Int32) (x2 : Int32) (S : SS) (h : f_X12_hold_j19 x1 x2 S = some (r, S')) : AW p l e R s m args below meth c dC dI cs ad A D0 (some (.int r)) S' 4 19 [(0, .ref (ad 14)), (1, .int x1), (2, .int x2)] [] S := by
  have hx := F.1.1
  have hb := F.1.2.1
  intro H locs ls w hl
  rw [f_X12_hold_j19] at h
  refine lv_aload_n (pc := 19) hx hb dX12_hold_19 rfl (lv_at hl 0 rfl) ?_
  obtain ⟨S1, hc, h⟩ := bndv_t h
  refine s_cvv (pc := 20) [] (fun ad => [.ref (ad 14)]) F w (m_X12_begin  _ _ hc) rfl rfl hl.1 ds_14 vc_X12 rfl ok_X12_begin rfl kc_X12_begin kl_X12_226 ki_X12_begin kv_X12_begin kn_X12 ⟨Nat.le_trans (by decide) hR1, Nat.le_trans (by decide) hR2⟩ ⟨Nat.zero_le _, Nat.zero_le _⟩ (Nat.le_of_ble_eq_true rfl) dX12_hold_20 (fun H locs w => ?_)
  refine lv_aload_n (pc := 23) hx hb dX12_hold_23 rfl (lv_at hl 0 rfl) ?_
  obtain ⟨S2, hc, h⟩ := bndv_t h
  refine s_cvv (pc := 24) [] (fun ad => [.ref (ad 14)]) F w (m_X12_keep  _ _ hc) rfl rfl hl.1 ds_14 vc_X12 rfl ok_X12_keep rfl kc_X12_keep kl_X12_346 ki_X12_keep kv_X12_keep kn_X12 ⟨Nat.le_trans (by decide) hR1, Nat.le_trans (by decide) hR2⟩ ⟨Nat.zero_le _, Nat.zero_le _⟩ (Nat.le_of_ble_eq_true rfl) dX12_hold_24 (fun H locs w => ?_)
  refine lv_aload_n (pc := 27) hx hb dX12_hold_27 rfl (lv_at hl 0 rfl) ?_
  refine lv_aload_n (pc := 28) hx hb dX12_hold_28 rfl (lv_at hl 0 rfl) ?_
  refine lv_iload_n (pc := 29) hx hb dX12_hold_29 rfl (lv_at hl 1 rfl) ?_
  refine lv_iconst (pc := 30) (v := 0) hx hb dX12_hold_30 (by decide) ?_
  obtain ⟨r4, S3, hc, h⟩ := bnd_t h
  refine s_cvi (pc := 31) [.int x1, .int (0 : Int32)] (fun ad => [.ref (ad 14), .int x1, .int (0 : Int32)]) F w (m_X12_missThing _ _ _ _ _ hc) rfl rfl hl.1 ds_14 vc_X12 rfl ok_X12_missThing rfl kc_X12_missThing kl_X12_293 ki_X12_missThing kv_X12_missThing kn_X12 ⟨Nat.le_trans (by decide) hR1, Nat.le_trans (by decide) hR2⟩ ⟨Nat.zero_le _, Nat.zero_le _⟩ (Nat.le_of_ble_eq_true rfl) dX12_hold_31 (fun H locs w => ?_)
  obtain ⟨r6, S5, hc, h⟩ := bnd_t h
  refine s_cvi (pc := 34) [.int r4] (fun ad => [.ref (ad 14), .int r4]) F w (m_X12_ends _ _ _ _ hc) rfl rfl hl.1 ds_14 vc_X12 rfl ok_X12_ends rfl kc_X12_ends kl_X12_236 ki_X12_ends kv_X12_ends kn_X12 ⟨Nat.le_trans (by decide) hR1, Nat.le_trans (by decide) hR2⟩ ⟨Nat.zero_le _, Nat.zero_le _⟩ (Nat.le_of_ble_eq_true rfl) dX12_hold_34 (fun H locs w => ?_)
  refine lv_if_eq (pc := 37) (tgt := 48) hx hb dX12_hold_37 (by decide) (fun q => ?_) (fun q => ?_)
  · have h := ite_t q h
    refine lv_aload_n (pc := 48) hx hb dX12_hold_48 rfl (lv_at hl 0 rfl) ?_
    refine s_getR (pc := 49) F w 92 ds_14 (j := 37) vc_X12 vi_X12 rfl (by decide) kf_X12_90 dX12_hold_49 ?_
    refine lv_iload_n (pc := 52) hx hb dX12_hold_52 rfl (lv_at hl 1 rfl) ?_
    refine s_iald (pc := 53) F w ds_92 h dX12_hold_53 (fun h => ?_)
    refine s_nm h (fun z7 ez7 h => ?_)
    rw [← ez7]
    refine lv_istore_n (pc := 54) (lv' := [(3, .int z7), (0, .ref (ad 14)), (1, .int x1), (2, .int x2)]) hx hb dX12_hold_54 rfl hl (by decide) rfl (fun ls hl => ?_)
    refine lv_aload_n (pc := 55) hx hb dX12_hold_55 rfl (lv_at hl 1 rfl) ?_
    refine s_getR (pc := 56) F w 92 ds_14 (j := 37) vc_X12 vi_X12 rfl (by decide) kf_X12_90 dX12_hold_56 ?_
    refine lv_iload_n (pc := 59) hx hb dX12_hold_59 rfl (lv_at hl 2 rfl) ?_
    refine lv_iload_n (pc := 60) hx hb dX12_hold_60 rfl (lv_at hl 3 rfl) ?_
    refine s_iast (pc := 61) F w ds_92 h dX12_hold_61 (fun S8 H locs h w => ?_)
    refine lv_aload_n (pc := 62) hx hb dX12_hold_62 rfl (lv_at hl 1 rfl) ?_
    refine lv_iconst (pc := 63) (v := 1) hx hb dX12_hold_63 (by decide) ?_
    refine lv_iload_n (pc := 64) hx hb dX12_hold_64 rfl (lv_at hl 0 rfl) ?_
    obtain ⟨r10, S9, hc, h⟩ := bnd_t h
    refine s_cvi (pc := 65) [.int (1 : Int32), .int z7] (fun ad => [.ref (ad 14), .int (1 : Int32), .int z7]) F w (m_X12_entered _ _ _ _ _ hc) rfl rfl hl.1 ds_14 vc_X12 rfl ok_X12_entered rfl kc_X12_entered kl_X12_349 ki_X12_entered kv_X12_entered kn_X12 ⟨Nat.le_trans (by decide) hR1, Nat.le_trans (by decide) hR2⟩ ⟨Nat.zero_le _, Nat.zero_le _⟩ (Nat.le_of_ble_eq_true rfl) dX12_hold_65 (fun H locs w => ?_)
    exact s_iret F w h dX12_hold_68
  · have h := ite_f q h
    refine lv_aload_n (pc := 40) hx hb dX12_hold_40 rfl (lv_at hl 0 rfl) ?_
    refine lv_iconst (pc := 41) (v := 1) hx hb dX12_hold_41 (by decide) ?_
    refine lv_bipush (pc := 42) (v := -2) hx hb dX12_hold_42 (by decide) ?_
    obtain ⟨r12, S11, hc, h⟩ := bnd_t h
    refine s_cvi (pc := 44) [.int (1 : Int32), .int (-2 : Int32)] (fun ad => [.ref (ad 14), .int (1 : Int32), .int (-2 : Int32)]) F w (m_X12_entered _ _ _ _ _ hc) rfl rfl hl.1 ds_14 vc_X12 rfl ok_X12_entered rfl kc_X12_entered kl_X12_349 ki_X12_entered kv_X12_entered kn_X12 ⟨Nat.le_trans (by decide) hR1, Nat.le_trans (by decide) hR2⟩ ⟨Nat.zero_le _, Nat.zero_le _⟩ (Nat.le_of_ble_eq_true rfl) dX12_hold_44 (fun H locs w => ?_)
    exact s_iret F w h dX12_hold_47
set_option maxRecDepth 100000 in
set_option maxHeartbeats 4000000 in
theorem m_X12_hold (a1 : Int32) (a2 : Int32) (S S' : SS) (r : Int32) (h : f_X12_hold a1 a2 S = some (r, S')) : MT yX12_hold cX12_hold 4 (some .int) 2 45 (fun ad => [.ref (ad 14), .int a1, .int a2]) S (some (.int r)) S' := by
  refine MT.of RX12 (fun ad => [(0, .ref (ad 14)), (1, .int a1), (2, .int a2)]) (by decide) rfl (fun _ => Nat.le_of_ble_eq_true rfl) (fun _ => rfl) ?_
  intro p l e R s m args below meth c dC dI cs ad A hR1 hR2 F H locs ls w hl
  have hx := F.1.1
  have hb := F.1.2.1
  rw [f_X12_hold] at h
  refine lv_iload_n (pc := 0) hx hb dX12_hold_0 rfl (lv_at hl 2 rfl) ?_
  refine lv_bipush (pc := 1) (v := -4) hx hb dX12_hold_1 (by decide) ?_
  refine lv_icmp_eq (pc := 3) (tgt := 19) hx hb dX12_hold_3 (by decide) (fun q => ?_) (fun q => ?_)
  · have h := ite_t q h
    exact w_X12_hold_j19 F (Nat.le_trans (by decide) hR1) (Nat.le_trans (by decide) hR2) _ _ _ h _ _ _ w (lv_sub hl [0, 1, 2] rfl)
  · have h := ite_f q h
    refine lv_iload_n (pc := 6) hx hb dX12_hold_6 rfl (lv_at hl 2 rfl) ?_
    refine lv_if_lt (pc := 7) (tgt := 17) hx hb dX12_hold_7 (by decide) (fun q => ?_) (fun q => ?_)
    · have h := ite_t q h
      refine lv_iconst (pc := 17) (v := -1) hx hb dX12_hold_17 (by decide) ?_
      exact s_iret F w h dX12_hold_18
    · have h := ite_f q h
      refine lv_iload_n (pc := 10) hx hb dX12_hold_10 rfl (lv_at hl 2 rfl) ?_
      refine lv_sipush (pc := 11) (v := 999) hx hb dX12_hold_11 (by decide) ?_
      refine lv_icmp_le (pc := 14) (tgt := 19) hx hb dX12_hold_14 (by decide) (fun q => ?_) (fun q => ?_)
      · have h := ite_t q h
        exact w_X12_hold_j19 F (Nat.le_trans (by decide) hR1) (Nat.le_trans (by decide) hR2) _ _ _ h _ _ _ w (lv_sub hl [0, 1, 2] rfl)
      · have h := ite_f q h
        refine lv_iconst (pc := 17) (v := -1) hx hb dX12_hold_17 (by decide) ?_
        exact s_iret F w h dX12_hold_18
def f_X11_jam (a1 : Int32) (a2 : Int32) (S : SS) : Option (Int32 × SS) :=
  bnd (f_X11_isNot a2 (0 : Int32) (50 : Int32) S) (fun r2 S1 =>
  if r2 = 0 then
    bndv (f_X11_beginAct  S1) (fun S3 =>
    bnd (f_X11_change a1 (127 : Int32) (6 : Int32) a2 S3) (fun r5 S4 =>
    bnd (f_X11_endAct (2 : Int32) r5 S4) (fun r7 S6 =>
    some (r7, S6))))
  else
    some ((-1 : Int32), S1))
theorem dX11_jam_0 : decode cX11_jam 0 = .ok (.iload_n 2, 1) := by decide +kernel
theorem dX11_jam_1 : decode cX11_jam 1 = .ok (.iconst 0, 1) := by decide +kernel
theorem dX11_jam_2 : decode cX11_jam 2 = .ok (.bipush 50, 2) := by decide +kernel
theorem dX11_jam_4 : decode cX11_jam 4 = .ok (.invokestatic 108, 3) := by decide +kernel
theorem dX11_jam_7 : decode cX11_jam 7 = .ok (.ifCond .eq 5, 3) := by decide +kernel
theorem dX11_jam_10 : decode cX11_jam 10 = .ok (.iconst (-1), 1) := by decide +kernel
theorem dX11_jam_11 : decode cX11_jam 11 = .ok (.ireturn, 1) := by decide +kernel
theorem dX11_jam_12 : decode cX11_jam 12 = .ok (.aload_n 0, 1) := by decide +kernel
theorem dX11_jam_13 : decode cX11_jam 13 = .ok (.invokevirtual 199, 3) := by decide +kernel
theorem dX11_jam_16 : decode cX11_jam 16 = .ok (.aload_n 0, 1) := by decide +kernel
theorem dX11_jam_17 : decode cX11_jam 17 = .ok (.iconst 2, 1) := by decide +kernel
theorem dX11_jam_18 : decode cX11_jam 18 = .ok (.aload_n 0, 1) := by decide +kernel
theorem dX11_jam_19 : decode cX11_jam 19 = .ok (.iload_n 1, 1) := by decide +kernel
theorem dX11_jam_20 : decode cX11_jam 20 = .ok (.bipush 127, 2) := by decide +kernel
theorem dX11_jam_22 : decode cX11_jam 22 = .ok (.bipush 6, 2) := by decide +kernel
theorem dX11_jam_24 : decode cX11_jam 24 = .ok (.iload_n 2, 1) := by decide +kernel
theorem dX11_jam_25 : decode cX11_jam 25 = .ok (.invokevirtual 202, 3) := by decide +kernel
theorem dX11_jam_28 : decode cX11_jam 28 = .ok (.invokevirtual 205, 3) := by decide +kernel
theorem dX11_jam_31 : decode cX11_jam 31 = .ok (.ireturn, 1) := by decide +kernel
set_option maxRecDepth 100000 in
set_option maxHeartbeats 4000000 in
theorem m_X11_jam (a1 : Int32) (a2 : Int32) (S S' : SS) (r : Int32) (h : f_X11_jam a1 a2 S = some (r, S')) : MT yX11_jam cX11_jam 3 (some .int) 4 93 (fun ad => [.ref (ad 0), .int a1, .int a2]) S (some (.int r)) S' := by
  refine MT.of RX11 (fun ad => [(0, .ref (ad 0)), (1, .int a1), (2, .int a2)]) (by decide) rfl (fun _ => Nat.le_of_ble_eq_true rfl) (fun _ => rfl) ?_
  intro p l e R s m args below meth c dC dI cs ad A hR1 hR2 F H locs ls w hl
  have hx := F.1.1
  have hb := F.1.2.1
  rw [f_X11_jam] at h
  refine lv_iload_n (pc := 0) hx hb dX11_jam_0 rfl (lv_at hl 2 rfl) ?_
  refine lv_iconst (pc := 1) (v := 0) hx hb dX11_jam_1 (by decide) ?_
  refine lv_bipush (pc := 2) (v := 50) hx hb dX11_jam_2 (by decide) ?_
  obtain ⟨r2, S1, hc, h⟩ := bnd_t h
  refine s_csi (pc := 4) [.int a2, .int (0 : Int32), .int (50 : Int32)] (fun ad => [.int a2, .int (0 : Int32), .int (50 : Int32)]) F w (m_X11_isNot _ _ _ _ _ _ hc) rfl rfl hl.1 ok_X11_isNot rfl kc_X11_isNot kl_X11_108 ks_X11_isNot kn_X11 ⟨Nat.le_trans (by decide) hR1, Nat.le_trans (by decide) hR2⟩ ⟨Nat.zero_le _, Nat.zero_le _⟩ (Nat.le_of_ble_eq_true rfl) dX11_jam_4 (fun H locs w => ?_)
  refine lv_if_eq (pc := 7) (tgt := 12) hx hb dX11_jam_7 (by decide) (fun q => ?_) (fun q => ?_)
  · have h := ite_t q h
    refine lv_aload_n (pc := 12) hx hb dX11_jam_12 rfl (lv_at hl 0 rfl) ?_
    obtain ⟨S3, hc, h⟩ := bndv_t h
    refine s_cvv (pc := 13) [] (fun ad => [.ref (ad 0)]) F w (m_X11_beginAct  _ _ hc) rfl rfl hl.1 ds_0 vc_X11 rfl ok_X11_beginAct rfl kc_X11_beginAct kl_X11_199 ki_X11_beginAct kv_X11_beginAct kn_X11 ⟨Nat.le_trans (by decide) hR1, Nat.le_trans (by decide) hR2⟩ ⟨Nat.zero_le _, Nat.zero_le _⟩ (Nat.le_of_ble_eq_true rfl) dX11_jam_13 (fun H locs w => ?_)
    refine lv_aload_n (pc := 16) hx hb dX11_jam_16 rfl (lv_at hl 0 rfl) ?_
    refine lv_iconst (pc := 17) (v := 2) hx hb dX11_jam_17 (by decide) ?_
    refine lv_aload_n (pc := 18) hx hb dX11_jam_18 rfl (lv_at hl 0 rfl) ?_
    refine lv_iload_n (pc := 19) hx hb dX11_jam_19 rfl (lv_at hl 1 rfl) ?_
    refine lv_bipush (pc := 20) (v := 127) hx hb dX11_jam_20 (by decide) ?_
    refine lv_bipush (pc := 22) (v := 6) hx hb dX11_jam_22 (by decide) ?_
    refine lv_iload_n (pc := 24) hx hb dX11_jam_24 rfl (lv_at hl 2 rfl) ?_
    obtain ⟨r5, S4, hc, h⟩ := bnd_t h
    refine s_cvi (pc := 25) [.int a1, .int (127 : Int32), .int (6 : Int32), .int a2] (fun ad => [.ref (ad 0), .int a1, .int (127 : Int32), .int (6 : Int32), .int a2]) F w (m_X11_change _ _ _ _ _ _ _ hc) rfl rfl hl.1 ds_0 vc_X11 rfl ok_X11_change rfl kc_X11_change kl_X11_202 ki_X11_change kv_X11_change kn_X11 ⟨Nat.le_trans (by decide) hR1, Nat.le_trans (by decide) hR2⟩ ⟨Nat.zero_le _, Nat.zero_le _⟩ (Nat.le_of_ble_eq_true rfl) dX11_jam_25 (fun H locs w => ?_)
    obtain ⟨r7, S6, hc, h⟩ := bnd_t h
    refine s_cvi (pc := 28) [.int (2 : Int32), .int r5] (fun ad => [.ref (ad 0), .int (2 : Int32), .int r5]) F w (m_X11_endAct _ _ _ _ _ hc) rfl rfl hl.1 ds_0 vc_X11 rfl ok_X11_endAct rfl kc_X11_endAct kl_X11_205 ki_X11_endAct kv_X11_endAct kn_X11 ⟨Nat.le_trans (by decide) hR1, Nat.le_trans (by decide) hR2⟩ ⟨Nat.zero_le _, Nat.zero_le _⟩ (Nat.le_of_ble_eq_true rfl) dX11_jam_28 (fun H locs w => ?_)
    exact s_iret F w h dX11_jam_31
  · have h := ite_f q h
    refine lv_iconst (pc := 10) (v := -1) hx hb dX11_jam_10 (by decide) ?_
    exact s_iret F w h dX11_jam_11
def f_X12_jam (a1 : Int32) (a2 : Int32) (S : SS) : Option (Int32 × SS) :=
  if a2 < 0 then
    some ((-1 : Int32), S)
  else
    if a2 ≤ (50 : Int32) then
      bndv (f_X12_begin  S) (fun S1 =>
      bndv (f_X12_keep  S1) (fun S2 =>
      bnd (f_X12_missThing a1 (0 : Int32) S2) (fun r4 S3 =>
      bnd (f_X12_ends r4 S3) (fun r6 S5 =>
      if r6 = 0 then
        grd (inb a1 72) (
        nm (S5.1 93 a1.toNatClampNeg) (fun z7 =>
        grd (inb a1 72) (wr S5 93 a1.toNatClampNeg a2 (fun S8 =>
        bnd (f_X12_entered (2 : Int32) z7 S8) (fun r10 S9 =>
        some (r10, S9))))))
      else
        bnd (f_X12_entered (2 : Int32) (-2 : Int32) S5) (fun r12 S11 =>
        some (r12, S11))))))
    else
      some ((-1 : Int32), S)
theorem dX12_jam_0 : decode cX12_jam 0 = .ok (.iload_n 2, 1) := by decide +kernel
theorem dX12_jam_1 : decode cX12_jam 1 = .ok (.ifCond .lt 9, 3) := by decide +kernel
theorem dX12_jam_4 : decode cX12_jam 4 = .ok (.iload_n 2, 1) := by decide +kernel
theorem dX12_jam_5 : decode cX12_jam 5 = .ok (.bipush 50, 2) := by decide +kernel
theorem dX12_jam_7 : decode cX12_jam 7 = .ok (.if_icmp .le 5, 3) := by decide +kernel
theorem dX12_jam_10 : decode cX12_jam 10 = .ok (.iconst (-1), 1) := by decide +kernel
theorem dX12_jam_11 : decode cX12_jam 11 = .ok (.ireturn, 1) := by decide +kernel
theorem dX12_jam_12 : decode cX12_jam 12 = .ok (.aload_n 0, 1) := by decide +kernel
theorem dX12_jam_13 : decode cX12_jam 13 = .ok (.invokevirtual 226, 3) := by decide +kernel
theorem dX12_jam_16 : decode cX12_jam 16 = .ok (.aload_n 0, 1) := by decide +kernel
theorem dX12_jam_17 : decode cX12_jam 17 = .ok (.invokevirtual 346, 3) := by decide +kernel
theorem dX12_jam_20 : decode cX12_jam 20 = .ok (.aload_n 0, 1) := by decide +kernel
theorem dX12_jam_21 : decode cX12_jam 21 = .ok (.aload_n 0, 1) := by decide +kernel
theorem dX12_jam_22 : decode cX12_jam 22 = .ok (.iload_n 1, 1) := by decide +kernel
theorem dX12_jam_23 : decode cX12_jam 23 = .ok (.iconst 0, 1) := by decide +kernel
theorem dX12_jam_24 : decode cX12_jam 24 = .ok (.invokevirtual 293, 3) := by decide +kernel
theorem dX12_jam_27 : decode cX12_jam 27 = .ok (.invokevirtual 236, 3) := by decide +kernel
theorem dX12_jam_30 : decode cX12_jam 30 = .ok (.ifCond .eq 11, 3) := by decide +kernel
theorem dX12_jam_33 : decode cX12_jam 33 = .ok (.aload_n 0, 1) := by decide +kernel
theorem dX12_jam_34 : decode cX12_jam 34 = .ok (.iconst 2, 1) := by decide +kernel
theorem dX12_jam_35 : decode cX12_jam 35 = .ok (.bipush (-2), 2) := by decide +kernel
theorem dX12_jam_37 : decode cX12_jam 37 = .ok (.invokevirtual 349, 3) := by decide +kernel
theorem dX12_jam_40 : decode cX12_jam 40 = .ok (.ireturn, 1) := by decide +kernel
theorem dX12_jam_41 : decode cX12_jam 41 = .ok (.aload_n 0, 1) := by decide +kernel
theorem dX12_jam_42 : decode cX12_jam 42 = .ok (.getfield 93, 3) := by decide +kernel
theorem dX12_jam_45 : decode cX12_jam 45 = .ok (.iload_n 1, 1) := by decide +kernel
theorem dX12_jam_46 : decode cX12_jam 46 = .ok (.iaload, 1) := by decide +kernel
theorem dX12_jam_47 : decode cX12_jam 47 = .ok (.istore_n 3, 1) := by decide +kernel
theorem dX12_jam_48 : decode cX12_jam 48 = .ok (.aload_n 0, 1) := by decide +kernel
theorem dX12_jam_49 : decode cX12_jam 49 = .ok (.getfield 93, 3) := by decide +kernel
theorem dX12_jam_52 : decode cX12_jam 52 = .ok (.iload_n 1, 1) := by decide +kernel
theorem dX12_jam_53 : decode cX12_jam 53 = .ok (.iload_n 2, 1) := by decide +kernel
theorem dX12_jam_54 : decode cX12_jam 54 = .ok (.iastore, 1) := by decide +kernel
theorem dX12_jam_55 : decode cX12_jam 55 = .ok (.aload_n 0, 1) := by decide +kernel
theorem dX12_jam_56 : decode cX12_jam 56 = .ok (.iconst 2, 1) := by decide +kernel
theorem dX12_jam_57 : decode cX12_jam 57 = .ok (.iload_n 3, 1) := by decide +kernel
theorem dX12_jam_58 : decode cX12_jam 58 = .ok (.invokevirtual 349, 3) := by decide +kernel
theorem dX12_jam_61 : decode cX12_jam 61 = .ok (.ireturn, 1) := by decide +kernel
set_option maxRecDepth 100000 in
set_option maxHeartbeats 4000000 in
theorem m_X12_jam (a1 : Int32) (a2 : Int32) (S S' : SS) (r : Int32) (h : f_X12_jam a1 a2 S = some (r, S')) : MT yX12_jam cX12_jam 4 (some .int) 2 45 (fun ad => [.ref (ad 14), .int a1, .int a2]) S (some (.int r)) S' := by
  refine MT.of RX12 (fun ad => [(0, .ref (ad 14)), (1, .int a1), (2, .int a2)]) (by decide) rfl (fun _ => Nat.le_of_ble_eq_true rfl) (fun _ => rfl) ?_
  intro p l e R s m args below meth c dC dI cs ad A hR1 hR2 F H locs ls w hl
  have hx := F.1.1
  have hb := F.1.2.1
  rw [f_X12_jam] at h
  refine lv_iload_n (pc := 0) hx hb dX12_jam_0 rfl (lv_at hl 2 rfl) ?_
  refine lv_if_lt (pc := 1) (tgt := 10) hx hb dX12_jam_1 (by decide) (fun q => ?_) (fun q => ?_)
  · have h := ite_t q h
    refine lv_iconst (pc := 10) (v := -1) hx hb dX12_jam_10 (by decide) ?_
    exact s_iret F w h dX12_jam_11
  · have h := ite_f q h
    refine lv_iload_n (pc := 4) hx hb dX12_jam_4 rfl (lv_at hl 2 rfl) ?_
    refine lv_bipush (pc := 5) (v := 50) hx hb dX12_jam_5 (by decide) ?_
    refine lv_icmp_le (pc := 7) (tgt := 12) hx hb dX12_jam_7 (by decide) (fun q => ?_) (fun q => ?_)
    · have h := ite_t q h
      refine lv_aload_n (pc := 12) hx hb dX12_jam_12 rfl (lv_at hl 0 rfl) ?_
      obtain ⟨S1, hc, h⟩ := bndv_t h
      refine s_cvv (pc := 13) [] (fun ad => [.ref (ad 14)]) F w (m_X12_begin  _ _ hc) rfl rfl hl.1 ds_14 vc_X12 rfl ok_X12_begin rfl kc_X12_begin kl_X12_226 ki_X12_begin kv_X12_begin kn_X12 ⟨Nat.le_trans (by decide) hR1, Nat.le_trans (by decide) hR2⟩ ⟨Nat.zero_le _, Nat.zero_le _⟩ (Nat.le_of_ble_eq_true rfl) dX12_jam_13 (fun H locs w => ?_)
      refine lv_aload_n (pc := 16) hx hb dX12_jam_16 rfl (lv_at hl 0 rfl) ?_
      obtain ⟨S2, hc, h⟩ := bndv_t h
      refine s_cvv (pc := 17) [] (fun ad => [.ref (ad 14)]) F w (m_X12_keep  _ _ hc) rfl rfl hl.1 ds_14 vc_X12 rfl ok_X12_keep rfl kc_X12_keep kl_X12_346 ki_X12_keep kv_X12_keep kn_X12 ⟨Nat.le_trans (by decide) hR1, Nat.le_trans (by decide) hR2⟩ ⟨Nat.zero_le _, Nat.zero_le _⟩ (Nat.le_of_ble_eq_true rfl) dX12_jam_17 (fun H locs w => ?_)
      refine lv_aload_n (pc := 20) hx hb dX12_jam_20 rfl (lv_at hl 0 rfl) ?_
      refine lv_aload_n (pc := 21) hx hb dX12_jam_21 rfl (lv_at hl 0 rfl) ?_
      refine lv_iload_n (pc := 22) hx hb dX12_jam_22 rfl (lv_at hl 1 rfl) ?_
      refine lv_iconst (pc := 23) (v := 0) hx hb dX12_jam_23 (by decide) ?_
      obtain ⟨r4, S3, hc, h⟩ := bnd_t h
      refine s_cvi (pc := 24) [.int a1, .int (0 : Int32)] (fun ad => [.ref (ad 14), .int a1, .int (0 : Int32)]) F w (m_X12_missThing _ _ _ _ _ hc) rfl rfl hl.1 ds_14 vc_X12 rfl ok_X12_missThing rfl kc_X12_missThing kl_X12_293 ki_X12_missThing kv_X12_missThing kn_X12 ⟨Nat.le_trans (by decide) hR1, Nat.le_trans (by decide) hR2⟩ ⟨Nat.zero_le _, Nat.zero_le _⟩ (Nat.le_of_ble_eq_true rfl) dX12_jam_24 (fun H locs w => ?_)
      obtain ⟨r6, S5, hc, h⟩ := bnd_t h
      refine s_cvi (pc := 27) [.int r4] (fun ad => [.ref (ad 14), .int r4]) F w (m_X12_ends _ _ _ _ hc) rfl rfl hl.1 ds_14 vc_X12 rfl ok_X12_ends rfl kc_X12_ends kl_X12_236 ki_X12_ends kv_X12_ends kn_X12 ⟨Nat.le_trans (by decide) hR1, Nat.le_trans (by decide) hR2⟩ ⟨Nat.zero_le _, Nat.zero_le _⟩ (Nat.le_of_ble_eq_true rfl) dX12_jam_27 (fun H locs w => ?_)
      refine lv_if_eq (pc := 30) (tgt := 41) hx hb dX12_jam_30 (by decide) (fun q => ?_) (fun q => ?_)
      · have h := ite_t q h
        refine lv_aload_n (pc := 41) hx hb dX12_jam_41 rfl (lv_at hl 0 rfl) ?_
        refine s_getR (pc := 42) F w 93 ds_14 (j := 38) vc_X12 vi_X12 rfl (by decide) kf_X12_93 dX12_jam_42 ?_
        refine lv_iload_n (pc := 45) hx hb dX12_jam_45 rfl (lv_at hl 1 rfl) ?_
        refine s_iald (pc := 46) F w ds_93 h dX12_jam_46 (fun h => ?_)
        refine s_nm h (fun z7 ez7 h => ?_)
        rw [← ez7]
        refine lv_istore_n (pc := 47) (lv' := [(3, .int z7), (0, .ref (ad 14)), (1, .int a1), (2, .int a2)]) hx hb dX12_jam_47 rfl hl (by decide) rfl (fun ls hl => ?_)
        refine lv_aload_n (pc := 48) hx hb dX12_jam_48 rfl (lv_at hl 1 rfl) ?_
        refine s_getR (pc := 49) F w 93 ds_14 (j := 38) vc_X12 vi_X12 rfl (by decide) kf_X12_93 dX12_jam_49 ?_
        refine lv_iload_n (pc := 52) hx hb dX12_jam_52 rfl (lv_at hl 2 rfl) ?_
        refine lv_iload_n (pc := 53) hx hb dX12_jam_53 rfl (lv_at hl 3 rfl) ?_
        refine s_iast (pc := 54) F w ds_93 h dX12_jam_54 (fun S8 H locs h w => ?_)
        refine lv_aload_n (pc := 55) hx hb dX12_jam_55 rfl (lv_at hl 1 rfl) ?_
        refine lv_iconst (pc := 56) (v := 2) hx hb dX12_jam_56 (by decide) ?_
        refine lv_iload_n (pc := 57) hx hb dX12_jam_57 rfl (lv_at hl 0 rfl) ?_
        obtain ⟨r10, S9, hc, h⟩ := bnd_t h
        refine s_cvi (pc := 58) [.int (2 : Int32), .int z7] (fun ad => [.ref (ad 14), .int (2 : Int32), .int z7]) F w (m_X12_entered _ _ _ _ _ hc) rfl rfl hl.1 ds_14 vc_X12 rfl ok_X12_entered rfl kc_X12_entered kl_X12_349 ki_X12_entered kv_X12_entered kn_X12 ⟨Nat.le_trans (by decide) hR1, Nat.le_trans (by decide) hR2⟩ ⟨Nat.zero_le _, Nat.zero_le _⟩ (Nat.le_of_ble_eq_true rfl) dX12_jam_58 (fun H locs w => ?_)
        exact s_iret F w h dX12_jam_61
      · have h := ite_f q h
        refine lv_aload_n (pc := 33) hx hb dX12_jam_33 rfl (lv_at hl 0 rfl) ?_
        refine lv_iconst (pc := 34) (v := 2) hx hb dX12_jam_34 (by decide) ?_
        refine lv_bipush (pc := 35) (v := -2) hx hb dX12_jam_35 (by decide) ?_
        obtain ⟨r12, S11, hc, h⟩ := bnd_t h
        refine s_cvi (pc := 37) [.int (2 : Int32), .int (-2 : Int32)] (fun ad => [.ref (ad 14), .int (2 : Int32), .int (-2 : Int32)]) F w (m_X12_entered _ _ _ _ _ hc) rfl rfl hl.1 ds_14 vc_X12 rfl ok_X12_entered rfl kc_X12_entered kl_X12_349 ki_X12_entered kv_X12_entered kn_X12 ⟨Nat.le_trans (by decide) hR1, Nat.le_trans (by decide) hR2⟩ ⟨Nat.zero_le _, Nat.zero_le _⟩ (Nat.le_of_ble_eq_true rfl) dX12_jam_37 (fun H locs w => ?_)
        exact s_iret F w h dX12_jam_40
    · have h := ite_f q h
      refine lv_iconst (pc := 10) (v := -1) hx hb dX12_jam_10 (by decide) ?_
      exact s_iret F w h dX12_jam_11
def f_X10_raiseFinding (a1 : Int32) (S : SS) : Option (Int32 × SS) :=
  bnd (f_X8_get a1 (5 : Int32) S) (fun r2 S1 =>
  wr S1 1 4 r2 (fun S3 =>
  if (S3.1 1 4) = (-4 : Int32) then
    some ((7 : Int32), S3)
  else
    some ((8 : Int32), S3)))
theorem dX10_raiseFinding_0 : decode cX10_raiseFinding 0 = .ok (.aload_n 0, 1) := by decide +kernel
theorem dX10_raiseFinding_1 : decode cX10_raiseFinding 1 = .ok (.getfield 32, 3) := by decide +kernel
theorem dX10_raiseFinding_4 : decode cX10_raiseFinding 4 = .ok (.aload_n 0, 1) := by decide +kernel
theorem dX10_raiseFinding_5 : decode cX10_raiseFinding 5 = .ok (.getfield 24, 3) := by decide +kernel
theorem dX10_raiseFinding_8 : decode cX10_raiseFinding 8 = .ok (.iload_n 1, 1) := by decide +kernel
theorem dX10_raiseFinding_9 : decode cX10_raiseFinding 9 = .ok (.iconst 5, 1) := by decide +kernel
theorem dX10_raiseFinding_10 : decode cX10_raiseFinding 10 = .ok (.invokevirtual 36, 3) := by decide +kernel
theorem dX10_raiseFinding_13 : decode cX10_raiseFinding 13 = .ok (.putfield 94, 3) := by decide +kernel
theorem dX10_raiseFinding_16 : decode cX10_raiseFinding 16 = .ok (.aload_n 0, 1) := by decide +kernel
theorem dX10_raiseFinding_17 : decode cX10_raiseFinding 17 = .ok (.getfield 32, 3) := by decide +kernel
theorem dX10_raiseFinding_20 : decode cX10_raiseFinding 20 = .ok (.getfield 94, 3) := by decide +kernel
theorem dX10_raiseFinding_23 : decode cX10_raiseFinding 23 = .ok (.bipush (-4), 2) := by decide +kernel
theorem dX10_raiseFinding_25 : decode cX10_raiseFinding 25 = .ok (.if_icmp .ne 8, 3) := by decide +kernel
theorem dX10_raiseFinding_28 : decode cX10_raiseFinding 28 = .ok (.bipush 7, 2) := by decide +kernel
theorem dX10_raiseFinding_30 : decode cX10_raiseFinding 30 = .ok (.goto 5, 3) := by decide +kernel
theorem dX10_raiseFinding_33 : decode cX10_raiseFinding 33 = .ok (.bipush 8, 2) := by decide +kernel
theorem dX10_raiseFinding_35 : decode cX10_raiseFinding 35 = .ok (.ireturn, 1) := by decide +kernel
set_option maxRecDepth 100000 in
set_option maxHeartbeats 4000000 in
theorem m_X10_raiseFinding (a1 : Int32) (S S' : SS) (r : Int32) (h : f_X10_raiseFinding a1 S = some (r, S')) : MT yX10_raiseFinding cX10_raiseFinding 2 (some .int) 1 22 (fun ad => [.ref (ad 7), .int a1]) S (some (.int r)) S' := by
  refine MT.of RX10 (fun ad => [(0, .ref (ad 7)), (1, .int a1)]) (by decide) rfl (fun _ => Nat.le_of_ble_eq_true rfl) (fun _ => rfl) ?_
  intro p l e R s m args below meth c dC dI cs ad A hR1 hR2 F H locs ls w hl
  have hx := F.1.1
  have hb := F.1.2.1
  rw [f_X10_raiseFinding] at h
  refine lv_aload_n (pc := 0) hx hb dX10_raiseFinding_0 rfl (lv_at hl 0 rfl) ?_
  refine s_getR (pc := 1) F w 1 ds_7 (j := 2) vc_X10 vi_X10 rfl (by decide) kf_X10_32 dX10_raiseFinding_1 ?_
  refine lv_aload_n (pc := 4) hx hb dX10_raiseFinding_4 rfl (lv_at hl 0 rfl) ?_
  refine s_getR (pc := 5) F w 2 ds_7 (j := 0) vc_X10 vi_X10 rfl (by decide) kf_X10_24 dX10_raiseFinding_5 ?_
  refine lv_iload_n (pc := 8) hx hb dX10_raiseFinding_8 rfl (lv_at hl 1 rfl) ?_
  refine lv_iconst (pc := 9) (v := 5) hx hb dX10_raiseFinding_9 (by decide) ?_
  obtain ⟨r2, S1, hc, h⟩ := bnd_t h
  refine s_cvi (pc := 10) [.int a1, .int (5 : Int32)] (fun ad => [.ref (ad 2), .int a1, .int (5 : Int32)]) F w (m_X8_get _ _ _ _ _ hc) rfl rfl hl.1 ds_2 vc_X8 rfl ok_X8_get rfl kc_X8_get kl_X10_36 ki_X8_get kv_X8_get kn_X8 ⟨Nat.le_trans (by decide) hR1, Nat.le_trans (by decide) hR2⟩ ⟨Nat.zero_le _, Nat.zero_le _⟩ (Nat.le_of_ble_eq_true rfl) dX10_raiseFinding_10 (fun H locs w => ?_)
  refine s_putI (pc := 13) F w ds_1 vc_X5 vi_X5 tyX5_ok nmX5 (j := 4) rfl (by decide) kf_X10_94 rfl pd_I h dX10_raiseFinding_13 (fun S3 H locs h w => ?_)
  refine lv_aload_n (pc := 16) hx hb dX10_raiseFinding_16 rfl (lv_at hl 0 rfl) ?_
  refine s_getR (pc := 17) F w 1 ds_7 (j := 2) vc_X10 vi_X10 rfl (by decide) kf_X10_32 dX10_raiseFinding_17 ?_
  refine s_getI (pc := 20) F w ds_1 (j := 4) vc_X5 vi_X5 rfl (by decide) kf_X10_94 dX10_raiseFinding_20 ?_
  refine lv_bipush (pc := 23) (v := -4) hx hb dX10_raiseFinding_23 (by decide) ?_
  refine lv_icmp_ne (pc := 25) (tgt := 33) hx hb dX10_raiseFinding_25 (by decide) (fun q => ?_) (fun q => ?_)
  · have h := ite_f q h
    refine lv_bipush (pc := 33) (v := 8) hx hb dX10_raiseFinding_33 (by decide) ?_
    exact s_iret F w h dX10_raiseFinding_35
  · have h := ite_t q h
    refine lv_bipush (pc := 28) (v := 7) hx hb dX10_raiseFinding_28 (by decide) ?_
    refine lv_goto (pc := 30) (tgt := 35) hx hb dX10_raiseFinding_30 (by decide) ?_
    exact s_iret F w h dX10_raiseFinding_35
def f_X11_raise (a1 : Int32) (S : SS) : Option (Int32 × SS) :=
  bndv (f_X5_begin  S) (fun S1 =>
  bnd (f_X11_named a1 (127 : Int32) S1) (fun r3 S2 =>
  if r3 = 0 then
    bnd (f_X10_raiseFinding a1 S2) (fun r5 S4 =>
    bnd (f_X5_found r5 S4) (fun r7 S6 =>
    some (r7, S6)))
  else
    bnd (f_X5_found r3 S2) (fun r9 S8 =>
    some (r9, S8))))
theorem dX11_raise_0 : decode cX11_raise 0 = .ok (.aload_n 0, 1) := by decide +kernel
theorem dX11_raise_1 : decode cX11_raise 1 = .ok (.getfield 10, 3) := by decide +kernel
theorem dX11_raise_4 : decode cX11_raise 4 = .ok (.invokevirtual 95, 3) := by decide +kernel
theorem dX11_raise_7 : decode cX11_raise 7 = .ok (.aload_n 0, 1) := by decide +kernel
theorem dX11_raise_8 : decode cX11_raise 8 = .ok (.iload_n 1, 1) := by decide +kernel
theorem dX11_raise_9 : decode cX11_raise 9 = .ok (.bipush 127, 2) := by decide +kernel
theorem dX11_raise_11 : decode cX11_raise 11 = .ok (.invokevirtual 185, 3) := by decide +kernel
theorem dX11_raise_14 : decode cX11_raise 14 = .ok (.istore_n 2, 1) := by decide +kernel
theorem dX11_raise_15 : decode cX11_raise 15 = .ok (.aload_n 0, 1) := by decide +kernel
theorem dX11_raise_16 : decode cX11_raise 16 = .ok (.getfield 10, 3) := by decide +kernel
theorem dX11_raise_19 : decode cX11_raise 19 = .ok (.iload_n 2, 1) := by decide +kernel
theorem dX11_raise_20 : decode cX11_raise 20 = .ok (.ifCond .eq 7, 3) := by decide +kernel
theorem dX11_raise_23 : decode cX11_raise 23 = .ok (.iload_n 2, 1) := by decide +kernel
theorem dX11_raise_24 : decode cX11_raise 24 = .ok (.goto 11, 3) := by decide +kernel
theorem dX11_raise_27 : decode cX11_raise 27 = .ok (.aload_n 0, 1) := by decide +kernel
theorem dX11_raise_28 : decode cX11_raise 28 = .ok (.getfield 58, 3) := by decide +kernel
theorem dX11_raise_31 : decode cX11_raise 31 = .ok (.iload_n 1, 1) := by decide +kernel
theorem dX11_raise_32 : decode cX11_raise 32 = .ok (.invokevirtual 208, 3) := by decide +kernel
theorem dX11_raise_35 : decode cX11_raise 35 = .ok (.invokevirtual 98, 3) := by decide +kernel
theorem dX11_raise_38 : decode cX11_raise 38 = .ok (.ireturn, 1) := by decide +kernel
set_option maxRecDepth 100000 in
set_option maxHeartbeats 4000000 in
theorem m_X11_raise (a1 : Int32) (S S' : SS) (r : Int32) (h : f_X11_raise a1 S = some (r, S')) : MT yX11_raise cX11_raise 3 (some .int) 3 67 (fun ad => [.ref (ad 0), .int a1]) S (some (.int r)) S' := by
  refine MT.of RX11 (fun ad => [(0, .ref (ad 0)), (1, .int a1)]) (by decide) rfl (fun _ => Nat.le_of_ble_eq_true rfl) (fun _ => rfl) ?_
  intro p l e R s m args below meth c dC dI cs ad A hR1 hR2 F H locs ls w hl
  have hx := F.1.1
  have hb := F.1.2.1
  rw [f_X11_raise] at h
  refine lv_aload_n (pc := 0) hx hb dX11_raise_0 rfl (lv_at hl 0 rfl) ?_
  refine s_getR (pc := 1) F w 1 ds_0 (j := 0) vc_X11 vi_X11 rfl (by decide) kf_X11_10 dX11_raise_1 ?_
  obtain ⟨S1, hc, h⟩ := bndv_t h
  refine s_cvv (pc := 4) [] (fun ad => [.ref (ad 1)]) F w (m_X5_begin  _ _ hc) rfl rfl hl.1 ds_1 vc_X5 rfl ok_X5_begin rfl kc_X5_begin kl_X11_95 ki_X5_begin kv_X5_begin kn_X5 ⟨Nat.le_trans (by decide) hR1, Nat.le_trans (by decide) hR2⟩ ⟨Nat.zero_le _, Nat.zero_le _⟩ (Nat.le_of_ble_eq_true rfl) dX11_raise_4 (fun H locs w => ?_)
  refine lv_aload_n (pc := 7) hx hb dX11_raise_7 rfl (lv_at hl 0 rfl) ?_
  refine lv_iload_n (pc := 8) hx hb dX11_raise_8 rfl (lv_at hl 1 rfl) ?_
  refine lv_bipush (pc := 9) (v := 127) hx hb dX11_raise_9 (by decide) ?_
  obtain ⟨r3, S2, hc, h⟩ := bnd_t h
  refine s_cvi (pc := 11) [.int a1, .int (127 : Int32)] (fun ad => [.ref (ad 0), .int a1, .int (127 : Int32)]) F w (m_X11_named _ _ _ _ _ hc) rfl rfl hl.1 ds_0 vc_X11 rfl ok_X11_named rfl kc_X11_named kl_X11_185 ki_X11_named kv_X11_named kn_X11 ⟨Nat.le_trans (by decide) hR1, Nat.le_trans (by decide) hR2⟩ ⟨Nat.zero_le _, Nat.zero_le _⟩ (Nat.le_of_ble_eq_true rfl) dX11_raise_11 (fun H locs w => ?_)
  refine lv_istore_n (pc := 14) (lv' := [(2, .int r3), (0, .ref (ad 0)), (1, .int a1)]) hx hb dX11_raise_14 rfl hl (by decide) rfl (fun ls hl => ?_)
  refine lv_aload_n (pc := 15) hx hb dX11_raise_15 rfl (lv_at hl 1 rfl) ?_
  refine s_getR (pc := 16) F w 1 ds_0 (j := 0) vc_X11 vi_X11 rfl (by decide) kf_X11_10 dX11_raise_16 ?_
  refine lv_iload_n (pc := 19) hx hb dX11_raise_19 rfl (lv_at hl 0 rfl) ?_
  refine lv_if_eq (pc := 20) (tgt := 27) hx hb dX11_raise_20 (by decide) (fun q => ?_) (fun q => ?_)
  · have h := ite_t q h
    refine lv_aload_n (pc := 27) hx hb dX11_raise_27 rfl (lv_at hl 1 rfl) ?_
    refine s_getR (pc := 28) F w 7 ds_0 (j := 6) vc_X11 vi_X11 rfl (by decide) kf_X11_58 dX11_raise_28 ?_
    refine lv_iload_n (pc := 31) hx hb dX11_raise_31 rfl (lv_at hl 2 rfl) ?_
    obtain ⟨r5, S4, hc, h⟩ := bnd_t h
    refine s_cvi (pc := 32) [.int a1] (fun ad => [.ref (ad 7), .int a1]) F w (m_X10_raiseFinding _ _ _ _ hc) rfl rfl hl.1 ds_7 vc_X10 rfl ok_X10_raiseFinding rfl kc_X10_raiseFinding kl_X11_208 ki_X10_raiseFinding kv_X10_raiseFinding kn_X10 ⟨Nat.le_trans (by decide) hR1, Nat.le_trans (by decide) hR2⟩ ⟨Nat.zero_le _, Nat.zero_le _⟩ (Nat.le_of_ble_eq_true rfl) dX11_raise_32 (fun H locs w => ?_)
    obtain ⟨r7, S6, hc, h⟩ := bnd_t h
    refine s_cvi (pc := 35) [.int r5] (fun ad => [.ref (ad 1), .int r5]) F w (m_X5_found _ _ _ _ hc) rfl rfl hl.1 ds_1 vc_X5 rfl ok_X5_found rfl kc_X5_found kl_X11_98 ki_X5_found kv_X5_found kn_X5 ⟨Nat.le_trans (by decide) hR1, Nat.le_trans (by decide) hR2⟩ ⟨Nat.zero_le _, Nat.zero_le _⟩ (Nat.le_of_ble_eq_true rfl) dX11_raise_35 (fun H locs w => ?_)
    exact s_iret F w h dX11_raise_38
  · have h := ite_f q h
    refine lv_iload_n (pc := 23) hx hb dX11_raise_23 rfl (lv_at hl 0 rfl) ?_
    refine lv_goto (pc := 24) (tgt := 35) hx hb dX11_raise_24 (by decide) ?_
    obtain ⟨r9, S8, hc, h⟩ := bnd_t h
    refine s_cvi (pc := 35) [.int r3] (fun ad => [.ref (ad 1), .int r3]) F w (m_X5_found _ _ _ _ hc) rfl rfl hl.1 ds_1 vc_X5 rfl ok_X5_found rfl kc_X5_found kl_X11_98 ki_X5_found kv_X5_found kn_X5 ⟨Nat.le_trans (by decide) hR1, Nat.le_trans (by decide) hR2⟩ ⟨Nat.zero_le _, Nat.zero_le _⟩ (Nat.le_of_ble_eq_true rfl) dX11_raise_35 (fun H locs w => ?_)
    exact s_iret F w h dX11_raise_38
def f_X12_raised (a1 : Int32) (S : SS) : Option (Int32 × SS) :=
  grd (inb a1 72) (
  wr S 14 1 (S.1 92 a1.toNatClampNeg) (fun S1 =>
  grd (inb a1 72) (
  if (S1.1 92 a1.toNatClampNeg) = (-4 : Int32) then
    some ((7 : Int32), S1)
  else
    some ((8 : Int32), S1))))
theorem dX12_raised_0 : decode cX12_raised 0 = .ok (.aload_n 0, 1) := by decide +kernel
theorem dX12_raised_1 : decode cX12_raised 1 = .ok (.aload_n 0, 1) := by decide +kernel
theorem dX12_raised_2 : decode cX12_raised 2 = .ok (.getfield 90, 3) := by decide +kernel
theorem dX12_raised_5 : decode cX12_raised 5 = .ok (.iload_n 1, 1) := by decide +kernel
theorem dX12_raised_6 : decode cX12_raised 6 = .ok (.iaload, 1) := by decide +kernel
theorem dX12_raised_7 : decode cX12_raised 7 = .ok (.putfield 9, 3) := by decide +kernel
theorem dX12_raised_10 : decode cX12_raised 10 = .ok (.aload_n 0, 1) := by decide +kernel
theorem dX12_raised_11 : decode cX12_raised 11 = .ok (.getfield 90, 3) := by decide +kernel
theorem dX12_raised_14 : decode cX12_raised 14 = .ok (.iload_n 1, 1) := by decide +kernel
theorem dX12_raised_15 : decode cX12_raised 15 = .ok (.iaload, 1) := by decide +kernel
theorem dX12_raised_16 : decode cX12_raised 16 = .ok (.bipush (-4), 2) := by decide +kernel
theorem dX12_raised_18 : decode cX12_raised 18 = .ok (.if_icmp .ne 8, 3) := by decide +kernel
theorem dX12_raised_21 : decode cX12_raised 21 = .ok (.bipush 7, 2) := by decide +kernel
theorem dX12_raised_23 : decode cX12_raised 23 = .ok (.goto 5, 3) := by decide +kernel
theorem dX12_raised_26 : decode cX12_raised 26 = .ok (.bipush 8, 2) := by decide +kernel
theorem dX12_raised_28 : decode cX12_raised 28 = .ok (.ireturn, 1) := by decide +kernel
set_option maxRecDepth 100000 in
set_option maxHeartbeats 4000000 in
theorem m_X12_raised (a1 : Int32) (S S' : SS) (r : Int32) (h : f_X12_raised a1 S = some (r, S')) : MT yX12_raised cX12_raised 2 (some .int) 0 0 (fun ad => [.ref (ad 14), .int a1]) S (some (.int r)) S' := by
  refine MT.of RX12 (fun ad => [(0, .ref (ad 14)), (1, .int a1)]) (by decide) rfl (fun _ => Nat.le_of_ble_eq_true rfl) (fun _ => rfl) ?_
  intro p l e R s m args below meth c dC dI cs ad A hR1 hR2 F H locs ls w hl
  have hx := F.1.1
  have hb := F.1.2.1
  rw [f_X12_raised] at h
  refine lv_aload_n (pc := 0) hx hb dX12_raised_0 rfl (lv_at hl 0 rfl) ?_
  refine lv_aload_n (pc := 1) hx hb dX12_raised_1 rfl (lv_at hl 0 rfl) ?_
  refine s_getR (pc := 2) F w 92 ds_14 (j := 37) vc_X12 vi_X12 rfl (by decide) kf_X12_90 dX12_raised_2 ?_
  refine lv_iload_n (pc := 5) hx hb dX12_raised_5 rfl (lv_at hl 1 rfl) ?_
  refine s_iald (pc := 6) F w ds_92 h dX12_raised_6 (fun h => ?_)
  refine s_putI (pc := 7) F w ds_14 vc_X12 vi_X12 tyX12_ok nmX12 (j := 1) rfl (by decide) kf_X12_9 rfl pd_I h dX12_raised_7 (fun S1 H locs h w => ?_)
  refine lv_aload_n (pc := 10) hx hb dX12_raised_10 rfl (lv_at hl 0 rfl) ?_
  refine s_getR (pc := 11) F w 92 ds_14 (j := 37) vc_X12 vi_X12 rfl (by decide) kf_X12_90 dX12_raised_11 ?_
  refine lv_iload_n (pc := 14) hx hb dX12_raised_14 rfl (lv_at hl 1 rfl) ?_
  refine s_iald (pc := 15) F w ds_92 h dX12_raised_15 (fun h => ?_)
  refine lv_bipush (pc := 16) (v := -4) hx hb dX12_raised_16 (by decide) ?_
  refine lv_icmp_ne (pc := 18) (tgt := 26) hx hb dX12_raised_18 (by decide) (fun q => ?_) (fun q => ?_)
  · have h := ite_f q h
    refine lv_bipush (pc := 26) (v := 8) hx hb dX12_raised_26 (by decide) ?_
    exact s_iret F w h dX12_raised_28
  · have h := ite_t q h
    refine lv_bipush (pc := 21) (v := 7) hx hb dX12_raised_21 (by decide) ?_
    refine lv_goto (pc := 23) (tgt := 28) hx hb dX12_raised_23 (by decide) ?_
    exact s_iret F w h dX12_raised_28
def f_X12_raise (a1 : Int32) (S : SS) : Option (Int32 × SS) :=
  bndv (f_X12_begin  S) (fun S1 =>
  bnd (f_X12_missThing a1 (0 : Int32) S1) (fun r3 S2 =>
  if r3 = 0 then
    bnd (f_X12_raised a1 S2) (fun r5 S4 =>
    bnd (f_X12_found r5 S4) (fun r7 S6 =>
    some (r7, S6)))
  else
    bnd (f_X12_found r3 S2) (fun r9 S8 =>
    some (r9, S8))))
theorem dX12_raise_0 : decode cX12_raise 0 = .ok (.aload_n 0, 1) := by decide +kernel
theorem dX12_raise_1 : decode cX12_raise 1 = .ok (.invokevirtual 226, 3) := by decide +kernel
theorem dX12_raise_4 : decode cX12_raise 4 = .ok (.aload_n 0, 1) := by decide +kernel
theorem dX12_raise_5 : decode cX12_raise 5 = .ok (.iload_n 1, 1) := by decide +kernel
theorem dX12_raise_6 : decode cX12_raise 6 = .ok (.iconst 0, 1) := by decide +kernel
theorem dX12_raise_7 : decode cX12_raise 7 = .ok (.invokevirtual 293, 3) := by decide +kernel
theorem dX12_raise_10 : decode cX12_raise 10 = .ok (.istore_n 2, 1) := by decide +kernel
theorem dX12_raise_11 : decode cX12_raise 11 = .ok (.aload_n 0, 1) := by decide +kernel
theorem dX12_raise_12 : decode cX12_raise 12 = .ok (.iload_n 2, 1) := by decide +kernel
theorem dX12_raise_13 : decode cX12_raise 13 = .ok (.ifCond .eq 7, 3) := by decide +kernel
theorem dX12_raise_16 : decode cX12_raise 16 = .ok (.iload_n 2, 1) := by decide +kernel
theorem dX12_raise_17 : decode cX12_raise 17 = .ok (.goto 8, 3) := by decide +kernel
theorem dX12_raise_20 : decode cX12_raise 20 = .ok (.aload_n 0, 1) := by decide +kernel
theorem dX12_raise_21 : decode cX12_raise 21 = .ok (.iload_n 1, 1) := by decide +kernel
theorem dX12_raise_22 : decode cX12_raise 22 = .ok (.invokevirtual 352, 3) := by decide +kernel
theorem dX12_raise_25 : decode cX12_raise 25 = .ok (.invokevirtual 210, 3) := by decide +kernel
theorem dX12_raise_28 : decode cX12_raise 28 = .ok (.ireturn, 1) := by decide +kernel
set_option maxRecDepth 100000 in
set_option maxHeartbeats 4000000 in
theorem m_X12_raise (a1 : Int32) (S S' : SS) (r : Int32) (h : f_X12_raise a1 S = some (r, S')) : MT yX12_raise cX12_raise 3 (some .int) 2 45 (fun ad => [.ref (ad 14), .int a1]) S (some (.int r)) S' := by
  refine MT.of RX12 (fun ad => [(0, .ref (ad 14)), (1, .int a1)]) (by decide) rfl (fun _ => Nat.le_of_ble_eq_true rfl) (fun _ => rfl) ?_
  intro p l e R s m args below meth c dC dI cs ad A hR1 hR2 F H locs ls w hl
  have hx := F.1.1
  have hb := F.1.2.1
  rw [f_X12_raise] at h
  refine lv_aload_n (pc := 0) hx hb dX12_raise_0 rfl (lv_at hl 0 rfl) ?_
  obtain ⟨S1, hc, h⟩ := bndv_t h
  refine s_cvv (pc := 1) [] (fun ad => [.ref (ad 14)]) F w (m_X12_begin  _ _ hc) rfl rfl hl.1 ds_14 vc_X12 rfl ok_X12_begin rfl kc_X12_begin kl_X12_226 ki_X12_begin kv_X12_begin kn_X12 ⟨Nat.le_trans (by decide) hR1, Nat.le_trans (by decide) hR2⟩ ⟨Nat.zero_le _, Nat.zero_le _⟩ (Nat.le_of_ble_eq_true rfl) dX12_raise_1 (fun H locs w => ?_)
  refine lv_aload_n (pc := 4) hx hb dX12_raise_4 rfl (lv_at hl 0 rfl) ?_
  refine lv_iload_n (pc := 5) hx hb dX12_raise_5 rfl (lv_at hl 1 rfl) ?_
  refine lv_iconst (pc := 6) (v := 0) hx hb dX12_raise_6 (by decide) ?_
  obtain ⟨r3, S2, hc, h⟩ := bnd_t h
  refine s_cvi (pc := 7) [.int a1, .int (0 : Int32)] (fun ad => [.ref (ad 14), .int a1, .int (0 : Int32)]) F w (m_X12_missThing _ _ _ _ _ hc) rfl rfl hl.1 ds_14 vc_X12 rfl ok_X12_missThing rfl kc_X12_missThing kl_X12_293 ki_X12_missThing kv_X12_missThing kn_X12 ⟨Nat.le_trans (by decide) hR1, Nat.le_trans (by decide) hR2⟩ ⟨Nat.zero_le _, Nat.zero_le _⟩ (Nat.le_of_ble_eq_true rfl) dX12_raise_7 (fun H locs w => ?_)
  refine lv_istore_n (pc := 10) (lv' := [(2, .int r3), (0, .ref (ad 14)), (1, .int a1)]) hx hb dX12_raise_10 rfl hl (by decide) rfl (fun ls hl => ?_)
  refine lv_aload_n (pc := 11) hx hb dX12_raise_11 rfl (lv_at hl 1 rfl) ?_
  refine lv_iload_n (pc := 12) hx hb dX12_raise_12 rfl (lv_at hl 0 rfl) ?_
  refine lv_if_eq (pc := 13) (tgt := 20) hx hb dX12_raise_13 (by decide) (fun q => ?_) (fun q => ?_)
  · have h := ite_t q h
    refine lv_aload_n (pc := 20) hx hb dX12_raise_20 rfl (lv_at hl 1 rfl) ?_
    refine lv_iload_n (pc := 21) hx hb dX12_raise_21 rfl (lv_at hl 2 rfl) ?_
    obtain ⟨r5, S4, hc, h⟩ := bnd_t h
    refine s_cvi (pc := 22) [.int a1] (fun ad => [.ref (ad 14), .int a1]) F w (m_X12_raised _ _ _ _ hc) rfl rfl hl.1 ds_14 vc_X12 rfl ok_X12_raised rfl kc_X12_raised kl_X12_352 ki_X12_raised kv_X12_raised kn_X12 ⟨Nat.le_trans (by decide) hR1, Nat.le_trans (by decide) hR2⟩ ⟨Nat.zero_le _, Nat.zero_le _⟩ (Nat.le_of_ble_eq_true rfl) dX12_raise_22 (fun H locs w => ?_)
    obtain ⟨r7, S6, hc, h⟩ := bnd_t h
    refine s_cvi (pc := 25) [.int r5] (fun ad => [.ref (ad 14), .int r5]) F w (m_X12_found _ _ _ _ hc) rfl rfl hl.1 ds_14 vc_X12 rfl ok_X12_found rfl kc_X12_found kl_X12_210 ki_X12_found kv_X12_found kn_X12 ⟨Nat.le_trans (by decide) hR1, Nat.le_trans (by decide) hR2⟩ ⟨Nat.zero_le _, Nat.zero_le _⟩ (Nat.le_of_ble_eq_true rfl) dX12_raise_25 (fun H locs w => ?_)
    exact s_iret F w h dX12_raise_28
  · have h := ite_f q h
    refine lv_iload_n (pc := 16) hx hb dX12_raise_16 rfl (lv_at hl 0 rfl) ?_
    refine lv_goto (pc := 17) (tgt := 25) hx hb dX12_raise_17 (by decide) ?_
    obtain ⟨r9, S8, hc, h⟩ := bnd_t h
    refine s_cvi (pc := 25) [.int r3] (fun ad => [.ref (ad 14), .int r3]) F w (m_X12_found _ _ _ _ hc) rfl rfl hl.1 ds_14 vc_X12 rfl ok_X12_found rfl kc_X12_found kl_X12_210 ki_X12_found kv_X12_found kn_X12 ⟨Nat.le_trans (by decide) hR1, Nat.le_trans (by decide) hR2⟩ ⟨Nat.zero_le _, Nat.zero_le _⟩ (Nat.le_of_ble_eq_true rfl) dX12_raise_25 (fun H locs w => ?_)
    exact s_iret F w h dX12_raise_28
def f_X8_setting (a1 : Int32) (S : SS) : Option (Int32 × SS) :=
  if a1 < 0 then
    some ((-4 : Int32), S)
  else
    if (40 : Int32) ≤ a1 then
      some ((-4 : Int32), S)
    else
      grd (inb ((74 : Int32) + a1) 946) (
      some (S.1 19 ((74 : Int32) + a1).toNatClampNeg, S))
theorem dX8_setting_0 : decode cX8_setting 0 = .ok (.iload_n 1, 1) := by decide +kernel
theorem dX8_setting_1 : decode cX8_setting 1 = .ok (.ifCond .lt 21, 3) := by decide +kernel
theorem dX8_setting_4 : decode cX8_setting 4 = .ok (.iload_n 1, 1) := by decide +kernel
theorem dX8_setting_5 : decode cX8_setting 5 = .ok (.bipush 40, 2) := by decide +kernel
theorem dX8_setting_7 : decode cX8_setting 7 = .ok (.if_icmp .ge 15, 3) := by decide +kernel
theorem dX8_setting_10 : decode cX8_setting 10 = .ok (.aload_n 0, 1) := by decide +kernel
theorem dX8_setting_11 : decode cX8_setting 11 = .ok (.getfield 13, 3) := by decide +kernel
theorem dX8_setting_14 : decode cX8_setting 14 = .ok (.bipush 74, 2) := by decide +kernel
theorem dX8_setting_16 : decode cX8_setting 16 = .ok (.iload_n 1, 1) := by decide +kernel
theorem dX8_setting_17 : decode cX8_setting 17 = .ok (.iadd, 1) := by decide +kernel
theorem dX8_setting_18 : decode cX8_setting 18 = .ok (.iaload, 1) := by decide +kernel
theorem dX8_setting_19 : decode cX8_setting 19 = .ok (.goto 5, 3) := by decide +kernel
theorem dX8_setting_22 : decode cX8_setting 22 = .ok (.bipush (-4), 2) := by decide +kernel
theorem dX8_setting_24 : decode cX8_setting 24 = .ok (.ireturn, 1) := by decide +kernel
set_option maxRecDepth 100000 in
set_option maxHeartbeats 4000000 in
theorem m_X8_setting (a1 : Int32) (S S' : SS) (r : Int32) (h : f_X8_setting a1 S = some (r, S')) : MT yX8_setting cX8_setting 2 (some .int) 0 0 (fun ad => [.ref (ad 2), .int a1]) S (some (.int r)) S' := by
  refine MT.of RX8 (fun ad => [(0, .ref (ad 2)), (1, .int a1)]) (by decide) rfl (fun _ => Nat.le_of_ble_eq_true rfl) (fun _ => rfl) ?_
  intro p l e R s m args below meth c dC dI cs ad A hR1 hR2 F H locs ls w hl
  have hx := F.1.1
  have hb := F.1.2.1
  rw [f_X8_setting] at h
  refine lv_iload_n (pc := 0) hx hb dX8_setting_0 rfl (lv_at hl 1 rfl) ?_
  refine lv_if_lt (pc := 1) (tgt := 22) hx hb dX8_setting_1 (by decide) (fun q => ?_) (fun q => ?_)
  · have h := ite_t q h
    refine lv_bipush (pc := 22) (v := -4) hx hb dX8_setting_22 (by decide) ?_
    exact s_iret F w h dX8_setting_24
  · have h := ite_f q h
    refine lv_iload_n (pc := 4) hx hb dX8_setting_4 rfl (lv_at hl 1 rfl) ?_
    refine lv_bipush (pc := 5) (v := 40) hx hb dX8_setting_5 (by decide) ?_
    refine lv_icmp_ge (pc := 7) (tgt := 22) hx hb dX8_setting_7 (by decide) (fun q => ?_) (fun q => ?_)
    · have h := ite_t q h
      refine lv_bipush (pc := 22) (v := -4) hx hb dX8_setting_22 (by decide) ?_
      exact s_iret F w h dX8_setting_24
    · have h := ite_f q h
      refine lv_aload_n (pc := 10) hx hb dX8_setting_10 rfl (lv_at hl 0 rfl) ?_
      refine s_getR (pc := 11) F w 19 ds_2 (j := 0) vc_X8 vi_X8 rfl (by decide) kf_X8_13 dX8_setting_11 ?_
      refine lv_bipush (pc := 14) (v := 74) hx hb dX8_setting_14 (by decide) ?_
      refine lv_iload_n (pc := 16) hx hb dX8_setting_16 rfl (lv_at hl 1 rfl) ?_
      refine lv_iadd (pc := 17) hx hb dX8_setting_17 ?_
      refine s_iald (pc := 18) F w ds_19 h dX8_setting_18 (fun h => ?_)
      refine lv_goto (pc := 19) (tgt := 24) hx hb dX8_setting_19 (by decide) ?_
      exact s_iret F w h dX8_setting_24
def f_X2_endOf (a1 : Int32) (S : SS) : Option (Int32 × SS) :=
  if a1 < 0 then
    some ((-4 : Int32), S)
  else
    if (S.1 5 8) ≤ a1 then
      some ((-4 : Int32), S)
    else
      grd (inb a1 40) (
      some (S.1 35 a1.toNatClampNeg, S))
theorem dX2_endOf_0 : decode cX2_endOf 0 = .ok (.iload_n 1, 1) := by decide +kernel
theorem dX2_endOf_1 : decode cX2_endOf 1 = .ok (.ifCond .lt 20, 3) := by decide +kernel
theorem dX2_endOf_4 : decode cX2_endOf 4 = .ok (.iload_n 1, 1) := by decide +kernel
theorem dX2_endOf_5 : decode cX2_endOf 5 = .ok (.aload_n 0, 1) := by decide +kernel
theorem dX2_endOf_6 : decode cX2_endOf 6 = .ok (.getfield 35, 3) := by decide +kernel
theorem dX2_endOf_9 : decode cX2_endOf 9 = .ok (.if_icmp .ge 12, 3) := by decide +kernel
theorem dX2_endOf_12 : decode cX2_endOf 12 = .ok (.aload_n 0, 1) := by decide +kernel
theorem dX2_endOf_13 : decode cX2_endOf 13 = .ok (.getfield 18, 3) := by decide +kernel
theorem dX2_endOf_16 : decode cX2_endOf 16 = .ok (.iload_n 1, 1) := by decide +kernel
theorem dX2_endOf_17 : decode cX2_endOf 17 = .ok (.iaload, 1) := by decide +kernel
theorem dX2_endOf_18 : decode cX2_endOf 18 = .ok (.goto 5, 3) := by decide +kernel
theorem dX2_endOf_21 : decode cX2_endOf 21 = .ok (.bipush (-4), 2) := by decide +kernel
theorem dX2_endOf_23 : decode cX2_endOf 23 = .ok (.ireturn, 1) := by decide +kernel
set_option maxRecDepth 100000 in
set_option maxHeartbeats 4000000 in
theorem m_X2_endOf (a1 : Int32) (S S' : SS) (r : Int32) (h : f_X2_endOf a1 S = some (r, S')) : MT yX2_endOf cX2_endOf 2 (some .int) 0 0 (fun ad => [.ref (ad 5), .int a1]) S (some (.int r)) S' := by
  refine MT.of RX2 (fun ad => [(0, .ref (ad 5)), (1, .int a1)]) (by decide) rfl (fun _ => Nat.le_of_ble_eq_true rfl) (fun _ => rfl) ?_
  intro p l e R s m args below meth c dC dI cs ad A hR1 hR2 F H locs ls w hl
  have hx := F.1.1
  have hb := F.1.2.1
  rw [f_X2_endOf] at h
  refine lv_iload_n (pc := 0) hx hb dX2_endOf_0 rfl (lv_at hl 1 rfl) ?_
  refine lv_if_lt (pc := 1) (tgt := 21) hx hb dX2_endOf_1 (by decide) (fun q => ?_) (fun q => ?_)
  · have h := ite_t q h
    refine lv_bipush (pc := 21) (v := -4) hx hb dX2_endOf_21 (by decide) ?_
    exact s_iret F w h dX2_endOf_23
  · have h := ite_f q h
    refine lv_iload_n (pc := 4) hx hb dX2_endOf_4 rfl (lv_at hl 1 rfl) ?_
    refine lv_aload_n (pc := 5) hx hb dX2_endOf_5 rfl (lv_at hl 0 rfl) ?_
    refine s_getI (pc := 6) F w ds_5 (j := 8) vc_X2 vi_X2 rfl (by decide) kf_X2_35 dX2_endOf_6 ?_
    refine lv_icmp_ge (pc := 9) (tgt := 21) hx hb dX2_endOf_9 (by decide) (fun q => ?_) (fun q => ?_)
    · have h := ite_t q h
      refine lv_bipush (pc := 21) (v := -4) hx hb dX2_endOf_21 (by decide) ?_
      exact s_iret F w h dX2_endOf_23
    · have h := ite_f q h
      refine lv_aload_n (pc := 12) hx hb dX2_endOf_12 rfl (lv_at hl 0 rfl) ?_
      refine s_getR (pc := 13) F w 35 ds_5 (j := 3) vc_X2 vi_X2 rfl (by decide) kf_X2_18 dX2_endOf_13 ?_
      refine lv_iload_n (pc := 16) hx hb dX2_endOf_16 rfl (lv_at hl 1 rfl) ?_
      refine s_iald (pc := 17) F w ds_35 h dX2_endOf_17 (fun h => ?_)
      refine lv_goto (pc := 18) (tgt := 23) hx hb dX2_endOf_18 (by decide) ?_
      exact s_iret F w h dX2_endOf_23
def f_X2_spotAt (a1 : Int32) (S : SS) : Option (Int32 × SS) :=
  nm (a1 >>> ((1 : Int32) &&& 31)) (fun z1 =>
  if (a1 &&& (1 : Int32)) = 0 then
    bnd (f_X2_spot z1 (0 : Int32) S) (fun r7 S6 =>
    some (r7, S6))
  else
    bnd (f_X2_placesOf z1 S) (fun r3 S2 =>
    bnd (f_X2_spot z1 (r3 - (1 : Int32)) S2) (fun r5 S4 =>
    some (r5, S4))))
theorem dX2_spotAt_0 : decode cX2_spotAt 0 = .ok (.iload_n 1, 1) := by decide +kernel
theorem dX2_spotAt_1 : decode cX2_spotAt 1 = .ok (.iconst 1, 1) := by decide +kernel
theorem dX2_spotAt_2 : decode cX2_spotAt 2 = .ok (.ishr, 1) := by decide +kernel
theorem dX2_spotAt_3 : decode cX2_spotAt 3 = .ok (.istore_n 2, 1) := by decide +kernel
theorem dX2_spotAt_4 : decode cX2_spotAt 4 = .ok (.iload_n 2, 1) := by decide +kernel
theorem dX2_spotAt_5 : decode cX2_spotAt 5 = .ok (.iload_n 1, 1) := by decide +kernel
theorem dX2_spotAt_6 : decode cX2_spotAt 6 = .ok (.iconst 1, 1) := by decide +kernel
theorem dX2_spotAt_7 : decode cX2_spotAt 7 = .ok (.iand, 1) := by decide +kernel
theorem dX2_spotAt_8 : decode cX2_spotAt 8 = .ok (.ifCond .ne 7, 3) := by decide +kernel
theorem dX2_spotAt_11 : decode cX2_spotAt 11 = .ok (.iconst 0, 1) := by decide +kernel
theorem dX2_spotAt_12 : decode cX2_spotAt 12 = .ok (.goto 10, 3) := by decide +kernel
theorem dX2_spotAt_15 : decode cX2_spotAt 15 = .ok (.aload_n 0, 1) := by decide +kernel
theorem dX2_spotAt_16 : decode cX2_spotAt 16 = .ok (.iload_n 2, 1) := by decide +kernel
theorem dX2_spotAt_17 : decode cX2_spotAt 17 = .ok (.invokevirtual 62, 3) := by decide +kernel
theorem dX2_spotAt_20 : decode cX2_spotAt 20 = .ok (.iconst 1, 1) := by decide +kernel
theorem dX2_spotAt_21 : decode cX2_spotAt 21 = .ok (.isub, 1) := by decide +kernel
theorem dX2_spotAt_22 : decode cX2_spotAt 22 = .ok (.invokestatic 95, 3) := by decide +kernel
theorem dX2_spotAt_25 : decode cX2_spotAt 25 = .ok (.ireturn, 1) := by decide +kernel
set_option maxRecDepth 100000 in
set_option maxHeartbeats 4000000 in
theorem m_X2_spotAt (a1 : Int32) (S S' : SS) (r : Int32) (h : f_X2_spotAt a1 S = some (r, S')) : MT yX2_spotAt cX2_spotAt 3 (some .int) 1 21 (fun ad => [.ref (ad 5), .int a1]) S (some (.int r)) S' := by
  refine MT.of RX2 (fun ad => [(0, .ref (ad 5)), (1, .int a1)]) (by decide) rfl (fun _ => Nat.le_of_ble_eq_true rfl) (fun _ => rfl) ?_
  intro p l e R s m args below meth c dC dI cs ad A hR1 hR2 F H locs ls w hl
  have hx := F.1.1
  have hb := F.1.2.1
  rw [f_X2_spotAt] at h
  refine lv_iload_n (pc := 0) hx hb dX2_spotAt_0 rfl (lv_at hl 1 rfl) ?_
  refine lv_iconst (pc := 1) (v := 1) hx hb dX2_spotAt_1 (by decide) ?_
  refine lv_ishr (pc := 2) hx hb dX2_spotAt_2 ?_
  refine s_nm h (fun z1 ez1 h => ?_)
  rw [← ez1]
  refine lv_istore_n (pc := 3) (lv' := [(2, .int z1), (0, .ref (ad 5)), (1, .int a1)]) hx hb dX2_spotAt_3 rfl hl (by decide) rfl (fun ls hl => ?_)
  refine lv_iload_n (pc := 4) hx hb dX2_spotAt_4 rfl (lv_at hl 0 rfl) ?_
  refine lv_iload_n (pc := 5) hx hb dX2_spotAt_5 rfl (lv_at hl 2 rfl) ?_
  refine lv_iconst (pc := 6) (v := 1) hx hb dX2_spotAt_6 (by decide) ?_
  refine lv_iand (pc := 7) hx hb dX2_spotAt_7 ?_
  refine lv_if_ne (pc := 8) (tgt := 15) hx hb dX2_spotAt_8 (by decide) (fun q => ?_) (fun q => ?_)
  · have h := ite_f q h
    refine lv_aload_n (pc := 15) hx hb dX2_spotAt_15 rfl (lv_at hl 1 rfl) ?_
    refine lv_iload_n (pc := 16) hx hb dX2_spotAt_16 rfl (lv_at hl 0 rfl) ?_
    obtain ⟨r3, S2, hc, h⟩ := bnd_t h
    refine s_cvi (pc := 17) [.int z1] (fun ad => [.ref (ad 5), .int z1]) F w (m_X2_placesOf _ _ _ _ hc) rfl rfl hl.1 ds_5 vc_X2 rfl ok_X2_placesOf rfl kc_X2_placesOf kl_X2_62 ki_X2_placesOf kv_X2_placesOf kn_X2 ⟨Nat.le_trans (by decide) hR1, Nat.le_trans (by decide) hR2⟩ ⟨Nat.zero_le _, Nat.zero_le _⟩ (Nat.le_of_ble_eq_true rfl) dX2_spotAt_17 (fun H locs w => ?_)
    refine lv_iconst (pc := 20) (v := 1) hx hb dX2_spotAt_20 (by decide) ?_
    refine lv_isub (pc := 21) hx hb dX2_spotAt_21 ?_
    obtain ⟨r5, S4, hc, h⟩ := bnd_t h
    refine s_csi (pc := 22) [.int z1, .int (r3 - (1 : Int32))] (fun ad => [.int z1, .int (r3 - (1 : Int32))]) F w (m_X2_spot _ _ _ _ _ hc) rfl rfl hl.1 ok_X2_spot rfl kc_X2_spot kl_X2_95 ks_X2_spot kn_X2 ⟨Nat.le_trans (by decide) hR1, Nat.le_trans (by decide) hR2⟩ ⟨Nat.zero_le _, Nat.zero_le _⟩ (Nat.le_of_ble_eq_true rfl) dX2_spotAt_22 (fun H locs w => ?_)
    exact s_iret F w h dX2_spotAt_25
  · have h := ite_t q h
    refine lv_iconst (pc := 11) (v := 0) hx hb dX2_spotAt_11 (by decide) ?_
    refine lv_goto (pc := 12) (tgt := 22) hx hb dX2_spotAt_12 (by decide) ?_
    obtain ⟨r7, S6, hc, h⟩ := bnd_t h
    refine s_csi (pc := 22) [.int z1, .int (0 : Int32)] (fun ad => [.int z1, .int (0 : Int32)]) F w (m_X2_spot _ _ _ _ _ hc) rfl rfl hl.1 ok_X2_spot rfl kc_X2_spot kl_X2_95 ks_X2_spot kn_X2 ⟨Nat.le_trans (by decide) hR1, Nat.le_trans (by decide) hR2⟩ ⟨Nat.zero_le _, Nat.zero_le _⟩ (Nat.le_of_ble_eq_true rfl) dX2_spotAt_22 (fun H locs w => ?_)
    exact s_iret F w h dX2_spotAt_25
def f_X6_isUnder (a1 : Int32) (S : SS) : Option (Int32 × SS) :=
  bnd (f_X2_endOf a1 S) (fun r2 S1 =>
  bnd (f_X2_spotAt r2 S1) (fun r4 S3 =>
  bnd (f_X8_standsAt r4 S3) (fun r6 S5 =>
  if r6 = (-4 : Int32) then
    some ((0 : Int32), S5)
  else
    some ((1 : Int32), S5))))
theorem dX6_isUnder_0 : decode cX6_isUnder 0 = .ok (.aload_n 0, 1) := by decide +kernel
theorem dX6_isUnder_1 : decode cX6_isUnder 1 = .ok (.getfield 31, 3) := by decide +kernel
theorem dX6_isUnder_4 : decode cX6_isUnder 4 = .ok (.aload_n 0, 1) := by decide +kernel
theorem dX6_isUnder_5 : decode cX6_isUnder 5 = .ok (.getfield 35, 3) := by decide +kernel
theorem dX6_isUnder_8 : decode cX6_isUnder 8 = .ok (.aload_n 0, 1) := by decide +kernel
theorem dX6_isUnder_9 : decode cX6_isUnder 9 = .ok (.getfield 35, 3) := by decide +kernel
theorem dX6_isUnder_12 : decode cX6_isUnder 12 = .ok (.iload_n 1, 1) := by decide +kernel
theorem dX6_isUnder_13 : decode cX6_isUnder 13 = .ok (.invokevirtual 99, 3) := by decide +kernel
theorem dX6_isUnder_16 : decode cX6_isUnder 16 = .ok (.invokevirtual 105, 3) := by decide +kernel
theorem dX6_isUnder_19 : decode cX6_isUnder 19 = .ok (.invokevirtual 108, 3) := by decide +kernel
theorem dX6_isUnder_22 : decode cX6_isUnder 22 = .ok (.bipush (-4), 2) := by decide +kernel
theorem dX6_isUnder_24 : decode cX6_isUnder 24 = .ok (.if_icmp .eq 7, 3) := by decide +kernel
theorem dX6_isUnder_27 : decode cX6_isUnder 27 = .ok (.iconst 1, 1) := by decide +kernel
theorem dX6_isUnder_28 : decode cX6_isUnder 28 = .ok (.goto 4, 3) := by decide +kernel
theorem dX6_isUnder_31 : decode cX6_isUnder 31 = .ok (.iconst 0, 1) := by decide +kernel
theorem dX6_isUnder_32 : decode cX6_isUnder 32 = .ok (.ireturn, 1) := by decide +kernel
set_option maxRecDepth 100000 in
set_option maxHeartbeats 4000000 in
theorem m_X6_isUnder (a1 : Int32) (S S' : SS) (r : Int32) (h : f_X6_isUnder a1 S = some (r, S')) : MT yX6_isUnder cX6_isUnder 2 (some .boolean) 2 44 (fun ad => [.ref (ad 6), .int a1]) S (some (.int r)) S' := by
  refine MT.of RX6 (fun ad => [(0, .ref (ad 6)), (1, .int a1)]) (by decide) rfl (fun _ => Nat.le_of_ble_eq_true rfl) (fun _ => rfl) ?_
  intro p l e R s m args below meth c dC dI cs ad A hR1 hR2 F H locs ls w hl
  have hx := F.1.1
  have hb := F.1.2.1
  rw [f_X6_isUnder] at h
  refine lv_aload_n (pc := 0) hx hb dX6_isUnder_0 rfl (lv_at hl 0 rfl) ?_
  refine s_getR (pc := 1) F w 2 ds_6 (j := 0) vc_X6 vi_X6 rfl (by decide) kf_X6_31 dX6_isUnder_1 ?_
  refine lv_aload_n (pc := 4) hx hb dX6_isUnder_4 rfl (lv_at hl 0 rfl) ?_
  refine s_getR (pc := 5) F w 5 ds_6 (j := 1) vc_X6 vi_X6 rfl (by decide) kf_X6_35 dX6_isUnder_5 ?_
  refine lv_aload_n (pc := 8) hx hb dX6_isUnder_8 rfl (lv_at hl 0 rfl) ?_
  refine s_getR (pc := 9) F w 5 ds_6 (j := 1) vc_X6 vi_X6 rfl (by decide) kf_X6_35 dX6_isUnder_9 ?_
  refine lv_iload_n (pc := 12) hx hb dX6_isUnder_12 rfl (lv_at hl 1 rfl) ?_
  obtain ⟨r2, S1, hc, h⟩ := bnd_t h
  refine s_cvi (pc := 13) [.int a1] (fun ad => [.ref (ad 5), .int a1]) F w (m_X2_endOf _ _ _ _ hc) rfl rfl hl.1 ds_5 vc_X2 rfl ok_X2_endOf rfl kc_X2_endOf kl_X6_99 ki_X2_endOf kv_X2_endOf kn_X2 ⟨Nat.le_trans (by decide) hR1, Nat.le_trans (by decide) hR2⟩ ⟨Nat.zero_le _, Nat.zero_le _⟩ (Nat.le_of_ble_eq_true rfl) dX6_isUnder_13 (fun H locs w => ?_)
  obtain ⟨r4, S3, hc, h⟩ := bnd_t h
  refine s_cvi (pc := 16) [.int r2] (fun ad => [.ref (ad 5), .int r2]) F w (m_X2_spotAt _ _ _ _ hc) rfl rfl hl.1 ds_5 vc_X2 rfl ok_X2_spotAt rfl kc_X2_spotAt kl_X6_105 ki_X2_spotAt kv_X2_spotAt kn_X2 ⟨Nat.le_trans (by decide) hR1, Nat.le_trans (by decide) hR2⟩ ⟨Nat.zero_le _, Nat.zero_le _⟩ (Nat.le_of_ble_eq_true rfl) dX6_isUnder_16 (fun H locs w => ?_)
  obtain ⟨r6, S5, hc, h⟩ := bnd_t h
  refine s_cvi (pc := 19) [.int r4] (fun ad => [.ref (ad 2), .int r4]) F w (m_X8_standsAt _ _ _ _ hc) rfl rfl hl.1 ds_2 vc_X8 rfl ok_X8_standsAt rfl kc_X8_standsAt kl_X6_108 ki_X8_standsAt kv_X8_standsAt kn_X8 ⟨Nat.le_trans (by decide) hR1, Nat.le_trans (by decide) hR2⟩ ⟨Nat.zero_le _, Nat.zero_le _⟩ (Nat.le_of_ble_eq_true rfl) dX6_isUnder_19 (fun H locs w => ?_)
  refine lv_bipush (pc := 22) (v := -4) hx hb dX6_isUnder_22 (by decide) ?_
  refine lv_icmp_eq (pc := 24) (tgt := 31) hx hb dX6_isUnder_24 (by decide) (fun q => ?_) (fun q => ?_)
  · have h := ite_t q h
    refine lv_iconst (pc := 31) (v := 0) hx hb dX6_isUnder_31 (by decide) ?_
    exact s_zretc F w rfl h dX6_isUnder_32
  · have h := ite_f q h
    refine lv_iconst (pc := 27) (v := 1) hx hb dX6_isUnder_27 (by decide) ?_
    refine lv_goto (pc := 28) (tgt := 32) hx hb dX6_isUnder_28 (by decide) ?_
    exact s_zretc F w rfl h dX6_isUnder_32
def f_X6_turnFinding (a1 : Int32) (S : SS) : Option (Int32 × SS) :=
  bnd (f_X8_locker a1 S) (fun r2 S1 =>
  if r2 = (-4 : Int32) then
    bnd (f_X6_isUnder a1 S1) (fun r4 S3 =>
    if r4 = 0 then
      some ((0 : Int32), S3)
    else
      some ((12 : Int32), S3))
  else
    bnd (f_X8_locker a1 S1) (fun r6 S5 =>
    bnd (f_X6_lockedFinding r6 S5) (fun r8 S7 =>
    some (r8, S7))))
theorem dX6_turnFinding_0 : decode cX6_turnFinding 0 = .ok (.aload_n 0, 1) := by decide +kernel
theorem dX6_turnFinding_1 : decode cX6_turnFinding 1 = .ok (.getfield 31, 3) := by decide +kernel
theorem dX6_turnFinding_4 : decode cX6_turnFinding 4 = .ok (.iload_n 1, 1) := by decide +kernel
theorem dX6_turnFinding_5 : decode cX6_turnFinding 5 = .ok (.invokevirtual 58, 3) := by decide +kernel
theorem dX6_turnFinding_8 : decode cX6_turnFinding 8 = .ok (.bipush (-4), 2) := by decide +kernel
theorem dX6_turnFinding_10 : decode cX6_turnFinding 10 = .ok (.if_icmp .eq 16, 3) := by decide +kernel
theorem dX6_turnFinding_13 : decode cX6_turnFinding 13 = .ok (.aload_n 0, 1) := by decide +kernel
theorem dX6_turnFinding_14 : decode cX6_turnFinding 14 = .ok (.aload_n 0, 1) := by decide +kernel
theorem dX6_turnFinding_15 : decode cX6_turnFinding 15 = .ok (.getfield 31, 3) := by decide +kernel
theorem dX6_turnFinding_18 : decode cX6_turnFinding 18 = .ok (.iload_n 1, 1) := by decide +kernel
theorem dX6_turnFinding_19 : decode cX6_turnFinding 19 = .ok (.invokevirtual 58, 3) := by decide +kernel
theorem dX6_turnFinding_22 : decode cX6_turnFinding 22 = .ok (.invokevirtual 50, 3) := by decide +kernel
theorem dX6_turnFinding_25 : decode cX6_turnFinding 25 = .ok (.ireturn, 1) := by decide +kernel
theorem dX6_turnFinding_26 : decode cX6_turnFinding 26 = .ok (.aload_n 0, 1) := by decide +kernel
theorem dX6_turnFinding_27 : decode cX6_turnFinding 27 = .ok (.iload_n 1, 1) := by decide +kernel
theorem dX6_turnFinding_28 : decode cX6_turnFinding 28 = .ok (.invokevirtual 95, 3) := by decide +kernel
theorem dX6_turnFinding_31 : decode cX6_turnFinding 31 = .ok (.ifCond .eq 8, 3) := by decide +kernel
theorem dX6_turnFinding_34 : decode cX6_turnFinding 34 = .ok (.bipush 12, 2) := by decide +kernel
theorem dX6_turnFinding_36 : decode cX6_turnFinding 36 = .ok (.goto 4, 3) := by decide +kernel
theorem dX6_turnFinding_39 : decode cX6_turnFinding 39 = .ok (.iconst 0, 1) := by decide +kernel
theorem dX6_turnFinding_40 : decode cX6_turnFinding 40 = .ok (.ireturn, 1) := by decide +kernel
set_option maxRecDepth 100000 in
set_option maxHeartbeats 4000000 in
theorem m_X6_turnFinding (a1 : Int32) (S S' : SS) (r : Int32) (h : f_X6_turnFinding a1 S = some (r, S')) : MT yX6_turnFinding cX6_turnFinding 2 (some .int) 3 65 (fun ad => [.ref (ad 6), .int a1]) S (some (.int r)) S' := by
  refine MT.of RX6 (fun ad => [(0, .ref (ad 6)), (1, .int a1)]) (by decide) rfl (fun _ => Nat.le_of_ble_eq_true rfl) (fun _ => rfl) ?_
  intro p l e R s m args below meth c dC dI cs ad A hR1 hR2 F H locs ls w hl
  have hx := F.1.1
  have hb := F.1.2.1
  rw [f_X6_turnFinding] at h
  refine lv_aload_n (pc := 0) hx hb dX6_turnFinding_0 rfl (lv_at hl 0 rfl) ?_
  refine s_getR (pc := 1) F w 2 ds_6 (j := 0) vc_X6 vi_X6 rfl (by decide) kf_X6_31 dX6_turnFinding_1 ?_
  refine lv_iload_n (pc := 4) hx hb dX6_turnFinding_4 rfl (lv_at hl 1 rfl) ?_
  obtain ⟨r2, S1, hc, h⟩ := bnd_t h
  refine s_cvi (pc := 5) [.int a1] (fun ad => [.ref (ad 2), .int a1]) F w (m_X8_locker _ _ _ _ hc) rfl rfl hl.1 ds_2 vc_X8 rfl ok_X8_locker rfl kc_X8_locker kl_X6_58 ki_X8_locker kv_X8_locker kn_X8 ⟨Nat.le_trans (by decide) hR1, Nat.le_trans (by decide) hR2⟩ ⟨Nat.zero_le _, Nat.zero_le _⟩ (Nat.le_of_ble_eq_true rfl) dX6_turnFinding_5 (fun H locs w => ?_)
  refine lv_bipush (pc := 8) (v := -4) hx hb dX6_turnFinding_8 (by decide) ?_
  refine lv_icmp_eq (pc := 10) (tgt := 26) hx hb dX6_turnFinding_10 (by decide) (fun q => ?_) (fun q => ?_)
  · have h := ite_t q h
    refine lv_aload_n (pc := 26) hx hb dX6_turnFinding_26 rfl (lv_at hl 0 rfl) ?_
    refine lv_iload_n (pc := 27) hx hb dX6_turnFinding_27 rfl (lv_at hl 1 rfl) ?_
    obtain ⟨r4, S3, hc, h⟩ := bnd_t h
    refine s_cvi (pc := 28) [.int a1] (fun ad => [.ref (ad 6), .int a1]) F w (m_X6_isUnder _ _ _ _ hc) rfl rfl hl.1 ds_6 vc_X6 rfl ok_X6_isUnder rfl kc_X6_isUnder kl_X6_95 ki_X6_isUnder kv_X6_isUnder kn_X6 ⟨Nat.le_trans (by decide) hR1, Nat.le_trans (by decide) hR2⟩ ⟨Nat.zero_le _, Nat.zero_le _⟩ (Nat.le_of_ble_eq_true rfl) dX6_turnFinding_28 (fun H locs w => ?_)
    refine lv_if_eq (pc := 31) (tgt := 39) hx hb dX6_turnFinding_31 (by decide) (fun q => ?_) (fun q => ?_)
    · have h := ite_t q h
      refine lv_iconst (pc := 39) (v := 0) hx hb dX6_turnFinding_39 (by decide) ?_
      exact s_iret F w h dX6_turnFinding_40
    · have h := ite_f q h
      refine lv_bipush (pc := 34) (v := 12) hx hb dX6_turnFinding_34 (by decide) ?_
      refine lv_goto (pc := 36) (tgt := 40) hx hb dX6_turnFinding_36 (by decide) ?_
      exact s_iret F w h dX6_turnFinding_40
  · have h := ite_f q h
    refine lv_aload_n (pc := 13) hx hb dX6_turnFinding_13 rfl (lv_at hl 0 rfl) ?_
    refine lv_aload_n (pc := 14) hx hb dX6_turnFinding_14 rfl (lv_at hl 0 rfl) ?_
    refine s_getR (pc := 15) F w 2 ds_6 (j := 0) vc_X6 vi_X6 rfl (by decide) kf_X6_31 dX6_turnFinding_15 ?_
    refine lv_iload_n (pc := 18) hx hb dX6_turnFinding_18 rfl (lv_at hl 1 rfl) ?_
    obtain ⟨r6, S5, hc, h⟩ := bnd_t h
    refine s_cvi (pc := 19) [.int a1] (fun ad => [.ref (ad 2), .int a1]) F w (m_X8_locker _ _ _ _ hc) rfl rfl hl.1 ds_2 vc_X8 rfl ok_X8_locker rfl kc_X8_locker kl_X6_58 ki_X8_locker kv_X8_locker kn_X8 ⟨Nat.le_trans (by decide) hR1, Nat.le_trans (by decide) hR2⟩ ⟨Nat.zero_le _, Nat.zero_le _⟩ (Nat.le_of_ble_eq_true rfl) dX6_turnFinding_19 (fun H locs w => ?_)
    obtain ⟨r8, S7, hc, h⟩ := bnd_t h
    refine s_cvi (pc := 22) [.int r6] (fun ad => [.ref (ad 6), .int r6]) F w (m_X6_lockedFinding _ _ _ _ hc) rfl rfl hl.1 ds_6 vc_X6 rfl ok_X6_lockedFinding rfl kc_X6_lockedFinding kl_X6_50 ki_X6_lockedFinding kv_X6_lockedFinding kn_X6 ⟨Nat.le_trans (by decide) hR1, Nat.le_trans (by decide) hR2⟩ ⟨Nat.zero_le _, Nat.zero_le _⟩ (Nat.le_of_ble_eq_true rfl) dX6_turnFinding_22 (fun H locs w => ?_)
    exact s_iret F w h dX6_turnFinding_25
def f_X6_hasLink (a1 : Int32) (a2 : Int32) (S : SS) : Option (Int32 × SS) :=
  if a2 < 0 then
    some ((0 : Int32), S)
  else
    bnd (f_X2_endOf a1 S) (fun r2 S1 =>
    bnd (f_X2_linksAt r2 S1) (fun r4 S3 =>
    if r4 ≤ a2 then
      some ((0 : Int32), S3)
    else
      some ((1 : Int32), S3)))
theorem dX6_hasLink_0 : decode cX6_hasLink 0 = .ok (.iload_n 2, 1) := by decide +kernel
theorem dX6_hasLink_1 : decode cX6_hasLink 1 = .ok (.ifCond .lt 26, 3) := by decide +kernel
theorem dX6_hasLink_4 : decode cX6_hasLink 4 = .ok (.iload_n 2, 1) := by decide +kernel
theorem dX6_hasLink_5 : decode cX6_hasLink 5 = .ok (.aload_n 0, 1) := by decide +kernel
theorem dX6_hasLink_6 : decode cX6_hasLink 6 = .ok (.getfield 35, 3) := by decide +kernel
theorem dX6_hasLink_9 : decode cX6_hasLink 9 = .ok (.aload_n 0, 1) := by decide +kernel
theorem dX6_hasLink_10 : decode cX6_hasLink 10 = .ok (.getfield 35, 3) := by decide +kernel
theorem dX6_hasLink_13 : decode cX6_hasLink 13 = .ok (.iload_n 1, 1) := by decide +kernel
theorem dX6_hasLink_14 : decode cX6_hasLink 14 = .ok (.invokevirtual 99, 3) := by decide +kernel
theorem dX6_hasLink_17 : decode cX6_hasLink 17 = .ok (.invokevirtual 102, 3) := by decide +kernel
theorem dX6_hasLink_20 : decode cX6_hasLink 20 = .ok (.if_icmp .ge 7, 3) := by decide +kernel
theorem dX6_hasLink_23 : decode cX6_hasLink 23 = .ok (.iconst 1, 1) := by decide +kernel
theorem dX6_hasLink_24 : decode cX6_hasLink 24 = .ok (.goto 4, 3) := by decide +kernel
theorem dX6_hasLink_27 : decode cX6_hasLink 27 = .ok (.iconst 0, 1) := by decide +kernel
theorem dX6_hasLink_28 : decode cX6_hasLink 28 = .ok (.ireturn, 1) := by decide +kernel
set_option maxRecDepth 100000 in
set_option maxHeartbeats 4000000 in
theorem m_X6_hasLink (a1 : Int32) (a2 : Int32) (S S' : SS) (r : Int32) (h : f_X6_hasLink a1 a2 S = some (r, S')) : MT yX6_hasLink cX6_hasLink 3 (some .boolean) 1 21 (fun ad => [.ref (ad 6), .int a1, .int a2]) S (some (.int r)) S' := by
  refine MT.of RX6 (fun ad => [(0, .ref (ad 6)), (1, .int a1), (2, .int a2)]) (by decide) rfl (fun _ => Nat.le_of_ble_eq_true rfl) (fun _ => rfl) ?_
  intro p l e R s m args below meth c dC dI cs ad A hR1 hR2 F H locs ls w hl
  have hx := F.1.1
  have hb := F.1.2.1
  rw [f_X6_hasLink] at h
  refine lv_iload_n (pc := 0) hx hb dX6_hasLink_0 rfl (lv_at hl 2 rfl) ?_
  refine lv_if_lt (pc := 1) (tgt := 27) hx hb dX6_hasLink_1 (by decide) (fun q => ?_) (fun q => ?_)
  · have h := ite_t q h
    refine lv_iconst (pc := 27) (v := 0) hx hb dX6_hasLink_27 (by decide) ?_
    exact s_zretc F w rfl h dX6_hasLink_28
  · have h := ite_f q h
    refine lv_iload_n (pc := 4) hx hb dX6_hasLink_4 rfl (lv_at hl 2 rfl) ?_
    refine lv_aload_n (pc := 5) hx hb dX6_hasLink_5 rfl (lv_at hl 0 rfl) ?_
    refine s_getR (pc := 6) F w 5 ds_6 (j := 1) vc_X6 vi_X6 rfl (by decide) kf_X6_35 dX6_hasLink_6 ?_
    refine lv_aload_n (pc := 9) hx hb dX6_hasLink_9 rfl (lv_at hl 0 rfl) ?_
    refine s_getR (pc := 10) F w 5 ds_6 (j := 1) vc_X6 vi_X6 rfl (by decide) kf_X6_35 dX6_hasLink_10 ?_
    refine lv_iload_n (pc := 13) hx hb dX6_hasLink_13 rfl (lv_at hl 1 rfl) ?_
    obtain ⟨r2, S1, hc, h⟩ := bnd_t h
    refine s_cvi (pc := 14) [.int a1] (fun ad => [.ref (ad 5), .int a1]) F w (m_X2_endOf _ _ _ _ hc) rfl rfl hl.1 ds_5 vc_X2 rfl ok_X2_endOf rfl kc_X2_endOf kl_X6_99 ki_X2_endOf kv_X2_endOf kn_X2 ⟨Nat.le_trans (by decide) hR1, Nat.le_trans (by decide) hR2⟩ ⟨Nat.zero_le _, Nat.zero_le _⟩ (Nat.le_of_ble_eq_true rfl) dX6_hasLink_14 (fun H locs w => ?_)
    obtain ⟨r4, S3, hc, h⟩ := bnd_t h
    refine s_cvi (pc := 17) [.int r2] (fun ad => [.ref (ad 5), .int r2]) F w (m_X2_linksAt _ _ _ _ hc) rfl rfl hl.1 ds_5 vc_X2 rfl ok_X2_linksAt rfl kc_X2_linksAt kl_X6_102 ki_X2_linksAt kv_X2_linksAt kn_X2 ⟨Nat.le_trans (by decide) hR1, Nat.le_trans (by decide) hR2⟩ ⟨Nat.zero_le _, Nat.zero_le _⟩ (Nat.le_of_ble_eq_true rfl) dX6_hasLink_17 (fun H locs w => ?_)
    refine lv_icmp_ge (pc := 20) (tgt := 27) hx hb dX6_hasLink_20 (by decide) (fun q => ?_) (fun q => ?_)
    · have h := ite_t q h
      refine lv_iconst (pc := 27) (v := 0) hx hb dX6_hasLink_27 (by decide) ?_
      exact s_zretc F w rfl h dX6_hasLink_28
    · have h := ite_f q h
      refine lv_iconst (pc := 23) (v := 1) hx hb dX6_hasLink_23 (by decide) ?_
      refine lv_goto (pc := 24) (tgt := 28) hx hb dX6_hasLink_24 (by decide) ?_
      exact s_zretc F w rfl h dX6_hasLink_28
def f_X6_turnPoint_j50  (x1 : Int32) (x2 : Int32) (x3 : Int32) (x4 : Int32) (S : SS) : Option (Int32 × SS) :=
    if x3 = 0 then
      bnd (f_X8_locker x1 S) (fun r6 S5 =>
      bndv (f_X8_setPoint x1 x2 r6 S5) (fun S7 =>
      some (x4, S7)))
    else
      bnd (f_X5_found x3 S) (fun r9 S8 =>
      some (r9, S8))
def f_X6_turnPoint_j24  (x1 : Int32) (x2 : Int32) (x3 : Int32) (S : SS) : Option (Int32 × SS) :=
    bnd (f_X8_setting x1 S) (fun r4 S3 =>
    if x3 = 0 then
      if r4 = x2 then
        f_X6_turnPoint_j50 x1 x2 x3 r4 S3
      else
        bnd (f_X6_turnFinding x1 S3) (fun r11 S10 =>
        f_X6_turnPoint_j50 x1 x2 r11 r4 S10)
    else
      f_X6_turnPoint_j50 x1 x2 x3 r4 S3)
def f_X6_turnPoint (a1 : Int32) (a2 : Int32) (S : SS) : Option (Int32 × SS) :=
  bnd (f_X2_pointFinding a1 S) (fun r2 S1 =>
  if r2 = 0 then
    bnd (f_X6_hasLink a1 a2 S1) (fun r13 S12 =>
    if r13 = 0 then
      f_X6_turnPoint_j24 a1 a2 (3 : Int32) S12
    else
      f_X6_turnPoint_j24 a1 a2 r2 S12)
  else
    f_X6_turnPoint_j24 a1 a2 r2 S1)
theorem dX6_turnPoint_0 : decode cX6_turnPoint 0 = .ok (.aload_n 0, 1) := by decide +kernel
theorem dX6_turnPoint_1 : decode cX6_turnPoint 1 = .ok (.getfield 35, 3) := by decide +kernel
theorem dX6_turnPoint_4 : decode cX6_turnPoint 4 = .ok (.iload_n 1, 1) := by decide +kernel
theorem dX6_turnPoint_5 : decode cX6_turnPoint 5 = .ok (.invokevirtual 75, 3) := by decide +kernel
theorem dX6_turnPoint_8 : decode cX6_turnPoint 8 = .ok (.istore_n 3, 1) := by decide +kernel
theorem dX6_turnPoint_9 : decode cX6_turnPoint 9 = .ok (.iload_n 3, 1) := by decide +kernel
theorem dX6_turnPoint_10 : decode cX6_turnPoint 10 = .ok (.ifCond .ne 14, 3) := by decide +kernel
theorem dX6_turnPoint_13 : decode cX6_turnPoint 13 = .ok (.aload_n 0, 1) := by decide +kernel
theorem dX6_turnPoint_14 : decode cX6_turnPoint 14 = .ok (.iload_n 1, 1) := by decide +kernel
theorem dX6_turnPoint_15 : decode cX6_turnPoint 15 = .ok (.iload_n 2, 1) := by decide +kernel
theorem dX6_turnPoint_16 : decode cX6_turnPoint 16 = .ok (.invokevirtual 78, 3) := by decide +kernel
theorem dX6_turnPoint_19 : decode cX6_turnPoint 19 = .ok (.ifCond .ne 5, 3) := by decide +kernel
theorem dX6_turnPoint_22 : decode cX6_turnPoint 22 = .ok (.iconst 3, 1) := by decide +kernel
theorem dX6_turnPoint_23 : decode cX6_turnPoint 23 = .ok (.istore_n 3, 1) := by decide +kernel
theorem dX6_turnPoint_24 : decode cX6_turnPoint 24 = .ok (.aload_n 0, 1) := by decide +kernel
theorem dX6_turnPoint_25 : decode cX6_turnPoint 25 = .ok (.getfield 31, 3) := by decide +kernel
theorem dX6_turnPoint_28 : decode cX6_turnPoint 28 = .ok (.iload_n 1, 1) := by decide +kernel
theorem dX6_turnPoint_29 : decode cX6_turnPoint 29 = .ok (.invokevirtual 82, 3) := by decide +kernel
theorem dX6_turnPoint_32 : decode cX6_turnPoint 32 = .ok (.istore 4, 2) := by decide +kernel
theorem dX6_turnPoint_34 : decode cX6_turnPoint 34 = .ok (.iload_n 3, 1) := by decide +kernel
theorem dX6_turnPoint_35 : decode cX6_turnPoint 35 = .ok (.ifCond .ne 15, 3) := by decide +kernel
theorem dX6_turnPoint_38 : decode cX6_turnPoint 38 = .ok (.iload 4, 2) := by decide +kernel
theorem dX6_turnPoint_40 : decode cX6_turnPoint 40 = .ok (.iload_n 2, 1) := by decide +kernel
theorem dX6_turnPoint_41 : decode cX6_turnPoint 41 = .ok (.if_icmp .eq 9, 3) := by decide +kernel
theorem dX6_turnPoint_44 : decode cX6_turnPoint 44 = .ok (.aload_n 0, 1) := by decide +kernel
theorem dX6_turnPoint_45 : decode cX6_turnPoint 45 = .ok (.iload_n 1, 1) := by decide +kernel
theorem dX6_turnPoint_46 : decode cX6_turnPoint 46 = .ok (.invokevirtual 85, 3) := by decide +kernel
theorem dX6_turnPoint_49 : decode cX6_turnPoint 49 = .ok (.istore_n 3, 1) := by decide +kernel
theorem dX6_turnPoint_50 : decode cX6_turnPoint 50 = .ok (.iload_n 3, 1) := by decide +kernel
theorem dX6_turnPoint_51 : decode cX6_turnPoint 51 = .ok (.ifCond .eq 12, 3) := by decide +kernel
theorem dX6_turnPoint_54 : decode cX6_turnPoint 54 = .ok (.aload_n 0, 1) := by decide +kernel
theorem dX6_turnPoint_55 : decode cX6_turnPoint 55 = .ok (.getfield 39, 3) := by decide +kernel
theorem dX6_turnPoint_58 : decode cX6_turnPoint 58 = .ok (.iload_n 3, 1) := by decide +kernel
theorem dX6_turnPoint_59 : decode cX6_turnPoint 59 = .ok (.invokevirtual 88, 3) := by decide +kernel
theorem dX6_turnPoint_62 : decode cX6_turnPoint 62 = .ok (.ireturn, 1) := by decide +kernel
theorem dX6_turnPoint_63 : decode cX6_turnPoint 63 = .ok (.aload_n 0, 1) := by decide +kernel
theorem dX6_turnPoint_64 : decode cX6_turnPoint 64 = .ok (.getfield 31, 3) := by decide +kernel
theorem dX6_turnPoint_67 : decode cX6_turnPoint 67 = .ok (.iload_n 1, 1) := by decide +kernel
theorem dX6_turnPoint_68 : decode cX6_turnPoint 68 = .ok (.iload_n 2, 1) := by decide +kernel
theorem dX6_turnPoint_69 : decode cX6_turnPoint 69 = .ok (.aload_n 0, 1) := by decide +kernel
theorem dX6_turnPoint_70 : decode cX6_turnPoint 70 = .ok (.getfield 31, 3) := by decide +kernel
theorem dX6_turnPoint_73 : decode cX6_turnPoint 73 = .ok (.iload_n 1, 1) := by decide +kernel
theorem dX6_turnPoint_74 : decode cX6_turnPoint 74 = .ok (.invokevirtual 58, 3) := by decide +kernel
theorem dX6_turnPoint_77 : decode cX6_turnPoint 77 = .ok (.invokevirtual 91, 3) := by decide +kernel
theorem dX6_turnPoint_80 : decode cX6_turnPoint 80 = .ok (.iload 4, 2) := by decide +kernel
theorem dX6_turnPoint_82 : decode cX6_turnPoint 82 = .ok (.ireturn, 1) := by decide +kernel
set_option maxRecDepth 100000 in
set_option maxHeartbeats 4000000 in
theorem w_X6_turnPoint_j50 {p : Program} {l : Launch} {e : Env} {R : Room} {s : State} {m : MethodId} {args : Array Value} {below : List Frame} {meth : Method} {c : Code} {dC : Nat → ClassId} {dI : Nat → Nat → Nat} {cs : Nat → ClassId} {ad : Nat → Nat} {A : Nat → Prop} {D0 : Nat → Nat} {S' : SS} {r : Int32} (F : Fx p s m args meth c cX6_turnPoint 5 RX6 (some .int) dC dI cs A) (hR1 : 1 ≤ R.frames) (hR2 : 23 ≤ R.locals) (x1 : Int32) (x2 : Int32) (x3 : Int32) (x4 : Int32) (S : SS) (h : f_X6_turnPoint_j50 x1 x2 x3 x4 S = some (r, S')) : AW p l e R s m args below meth c dC dI cs ad A D0 (some (.int r)) S' 5 50 [(0, .ref (ad 6)), (1, .int x1), (2, .int x2), (3, .int x3), (4, .int x4)] [] S := by
  have hx := F.1.1
  have hb := F.1.2.1
  intro H locs ls w hl
  rw [f_X6_turnPoint_j50] at h
  refine lv_iload_n (pc := 50) hx hb dX6_turnPoint_50 rfl (lv_at hl 3 rfl) ?_
  refine lv_if_eq (pc := 51) (tgt := 63) hx hb dX6_turnPoint_51 (by decide) (fun q => ?_) (fun q => ?_)
  · have h := ite_t q h
    refine lv_aload_n (pc := 63) hx hb dX6_turnPoint_63 rfl (lv_at hl 0 rfl) ?_
    refine s_getR (pc := 64) F w 2 ds_6 (j := 0) vc_X6 vi_X6 rfl (by decide) kf_X6_31 dX6_turnPoint_64 ?_
    refine lv_iload_n (pc := 67) hx hb dX6_turnPoint_67 rfl (lv_at hl 1 rfl) ?_
    refine lv_iload_n (pc := 68) hx hb dX6_turnPoint_68 rfl (lv_at hl 2 rfl) ?_
    refine lv_aload_n (pc := 69) hx hb dX6_turnPoint_69 rfl (lv_at hl 0 rfl) ?_
    refine s_getR (pc := 70) F w 2 ds_6 (j := 0) vc_X6 vi_X6 rfl (by decide) kf_X6_31 dX6_turnPoint_70 ?_
    refine lv_iload_n (pc := 73) hx hb dX6_turnPoint_73 rfl (lv_at hl 1 rfl) ?_
    obtain ⟨r6, S5, hc, h⟩ := bnd_t h
    refine s_cvi (pc := 74) [.int x1] (fun ad => [.ref (ad 2), .int x1]) F w (m_X8_locker _ _ _ _ hc) rfl rfl hl.1 ds_2 vc_X8 rfl ok_X8_locker rfl kc_X8_locker kl_X6_58 ki_X8_locker kv_X8_locker kn_X8 ⟨Nat.le_trans (by decide) hR1, Nat.le_trans (by decide) hR2⟩ ⟨Nat.zero_le _, Nat.zero_le _⟩ (Nat.le_of_ble_eq_true rfl) dX6_turnPoint_74 (fun H locs w => ?_)
    obtain ⟨S7, hc, h⟩ := bndv_t h
    refine s_cvv (pc := 77) [.int x1, .int x2, .int r6] (fun ad => [.ref (ad 2), .int x1, .int x2, .int r6]) F w (m_X8_setPoint _ _ _ _ _ hc) rfl rfl hl.1 ds_2 vc_X8 rfl ok_X8_setPoint rfl kc_X8_setPoint kl_X6_91 ki_X8_setPoint kv_X8_setPoint kn_X8 ⟨Nat.le_trans (by decide) hR1, Nat.le_trans (by decide) hR2⟩ ⟨Nat.zero_le _, Nat.zero_le _⟩ (Nat.le_of_ble_eq_true rfl) dX6_turnPoint_77 (fun H locs w => ?_)
    refine lv_iload (pc := 80) hx hb dX6_turnPoint_80 (lv_at hl 4 rfl) ?_
    exact s_iret F w h dX6_turnPoint_82
  · have h := ite_f q h
    refine lv_aload_n (pc := 54) hx hb dX6_turnPoint_54 rfl (lv_at hl 0 rfl) ?_
    refine s_getR (pc := 55) F w 1 ds_6 (j := 2) vc_X6 vi_X6 rfl (by decide) kf_X6_39 dX6_turnPoint_55 ?_
    refine lv_iload_n (pc := 58) hx hb dX6_turnPoint_58 rfl (lv_at hl 3 rfl) ?_
    obtain ⟨r9, S8, hc, h⟩ := bnd_t h
    refine s_cvi (pc := 59) [.int x3] (fun ad => [.ref (ad 1), .int x3]) F w (m_X5_found _ _ _ _ hc) rfl rfl hl.1 ds_1 vc_X5 rfl ok_X5_found rfl kc_X5_found kl_X6_88 ki_X5_found kv_X5_found kn_X5 ⟨Nat.le_trans (by decide) hR1, Nat.le_trans (by decide) hR2⟩ ⟨Nat.zero_le _, Nat.zero_le _⟩ (Nat.le_of_ble_eq_true rfl) dX6_turnPoint_59 (fun H locs w => ?_)
    exact s_iret F w h dX6_turnPoint_62
set_option maxRecDepth 100000 in
set_option maxHeartbeats 4000000 in
theorem w_X6_turnPoint_j24 {p : Program} {l : Launch} {e : Env} {R : Room} {s : State} {m : MethodId} {args : Array Value} {below : List Frame} {meth : Method} {c : Code} {dC : Nat → ClassId} {dI : Nat → Nat → Nat} {cs : Nat → ClassId} {ad : Nat → Nat} {A : Nat → Prop} {D0 : Nat → Nat} {S' : SS} {r : Int32} (F : Fx p s m args meth c cX6_turnPoint 5 RX6 (some .int) dC dI cs A) (hR1 : 4 ≤ R.frames) (hR2 : 86 ≤ R.locals) (x1 : Int32) (x2 : Int32) (x3 : Int32) (S : SS) (h : f_X6_turnPoint_j24 x1 x2 x3 S = some (r, S')) : AW p l e R s m args below meth c dC dI cs ad A D0 (some (.int r)) S' 5 24 [(0, .ref (ad 6)), (1, .int x1), (2, .int x2), (3, .int x3)] [] S := by
  have hx := F.1.1
  have hb := F.1.2.1
  intro H locs ls w hl
  rw [f_X6_turnPoint_j24] at h
  refine lv_aload_n (pc := 24) hx hb dX6_turnPoint_24 rfl (lv_at hl 0 rfl) ?_
  refine s_getR (pc := 25) F w 2 ds_6 (j := 0) vc_X6 vi_X6 rfl (by decide) kf_X6_31 dX6_turnPoint_25 ?_
  refine lv_iload_n (pc := 28) hx hb dX6_turnPoint_28 rfl (lv_at hl 1 rfl) ?_
  obtain ⟨r4, S3, hc, h⟩ := bnd_t h
  refine s_cvi (pc := 29) [.int x1] (fun ad => [.ref (ad 2), .int x1]) F w (m_X8_setting _ _ _ _ hc) rfl rfl hl.1 ds_2 vc_X8 rfl ok_X8_setting rfl kc_X8_setting kl_X6_82 ki_X8_setting kv_X8_setting kn_X8 ⟨Nat.le_trans (by decide) hR1, Nat.le_trans (by decide) hR2⟩ ⟨Nat.zero_le _, Nat.zero_le _⟩ (Nat.le_of_ble_eq_true rfl) dX6_turnPoint_29 (fun H locs w => ?_)
  refine lv_istore (pc := 32) (lv' := [(4, .int r4), (0, .ref (ad 6)), (1, .int x1), (2, .int x2), (3, .int x3)]) hx hb dX6_turnPoint_32 hl (by decide) rfl (fun ls hl => ?_)
  refine lv_iload_n (pc := 34) hx hb dX6_turnPoint_34 rfl (lv_at hl 4 rfl) ?_
  refine lv_if_ne (pc := 35) (tgt := 50) hx hb dX6_turnPoint_35 (by decide) (fun q => ?_) (fun q => ?_)
  · have h := ite_f q h
    exact w_X6_turnPoint_j50 F (Nat.le_trans (by decide) hR1) (Nat.le_trans (by decide) hR2) _ _ _ _ _ h _ _ _ w (lv_sub hl [1, 2, 3, 4, 0] rfl)
  · have h := ite_t q h
    refine lv_iload (pc := 38) hx hb dX6_turnPoint_38 (lv_at hl 0 rfl) ?_
    refine lv_iload_n (pc := 40) hx hb dX6_turnPoint_40 rfl (lv_at hl 3 rfl) ?_
    refine lv_icmp_eq (pc := 41) (tgt := 50) hx hb dX6_turnPoint_41 (by decide) (fun q => ?_) (fun q => ?_)
    · have h := ite_t q h
      exact w_X6_turnPoint_j50 F (Nat.le_trans (by decide) hR1) (Nat.le_trans (by decide) hR2) _ _ _ _ _ h _ _ _ w (lv_sub hl [1, 2, 3, 4, 0] rfl)
    · have h := ite_f q h
      refine lv_aload_n (pc := 44) hx hb dX6_turnPoint_44 rfl (lv_at hl 1 rfl) ?_
      refine lv_iload_n (pc := 45) hx hb dX6_turnPoint_45 rfl (lv_at hl 2 rfl) ?_
      obtain ⟨r11, S10, hc, h⟩ := bnd_t h
      refine s_cvi (pc := 46) [.int x1] (fun ad => [.ref (ad 6), .int x1]) F w (m_X6_turnFinding _ _ _ _ hc) rfl rfl hl.1 ds_6 vc_X6 rfl ok_X6_turnFinding rfl kc_X6_turnFinding kl_X6_85 ki_X6_turnFinding kv_X6_turnFinding kn_X6 ⟨Nat.le_trans (by decide) hR1, Nat.le_trans (by decide) hR2⟩ ⟨Nat.zero_le _, Nat.zero_le _⟩ (Nat.le_of_ble_eq_true rfl) dX6_turnPoint_46 (fun H locs w => ?_)
      refine lv_istore_n (pc := 49) (lv' := [(3, .int r11), (4, .int r4), (0, .ref (ad 6)), (1, .int x1), (2, .int x2)]) hx hb dX6_turnPoint_49 rfl hl (by decide) rfl (fun ls hl => ?_)
      exact w_X6_turnPoint_j50 F (Nat.le_trans (by decide) hR1) (Nat.le_trans (by decide) hR2) _ _ _ _ _ h _ _ _ w (lv_sub hl [2, 3, 4, 0, 1] rfl)
set_option maxRecDepth 100000 in
set_option maxHeartbeats 4000000 in
theorem m_X6_turnPoint (a1 : Int32) (a2 : Int32) (S S' : SS) (r : Int32) (h : f_X6_turnPoint a1 a2 S = some (r, S')) : MT yX6_turnPoint cX6_turnPoint 5 (some .int) 4 86 (fun ad => [.ref (ad 6), .int a1, .int a2]) S (some (.int r)) S' := by
  refine MT.of RX6 (fun ad => [(0, .ref (ad 6)), (1, .int a1), (2, .int a2)]) (by decide) rfl (fun _ => Nat.le_of_ble_eq_true rfl) (fun _ => rfl) ?_
  intro p l e R s m args below meth c dC dI cs ad A hR1 hR2 F H locs ls w hl
  have hx := F.1.1
  have hb := F.1.2.1
  rw [f_X6_turnPoint] at h
  refine lv_aload_n (pc := 0) hx hb dX6_turnPoint_0 rfl (lv_at hl 0 rfl) ?_
  refine s_getR (pc := 1) F w 5 ds_6 (j := 1) vc_X6 vi_X6 rfl (by decide) kf_X6_35 dX6_turnPoint_1 ?_
  refine lv_iload_n (pc := 4) hx hb dX6_turnPoint_4 rfl (lv_at hl 1 rfl) ?_
  obtain ⟨r2, S1, hc, h⟩ := bnd_t h
  refine s_cvi (pc := 5) [.int a1] (fun ad => [.ref (ad 5), .int a1]) F w (m_X2_pointFinding _ _ _ _ hc) rfl rfl hl.1 ds_5 vc_X2 rfl ok_X2_pointFinding rfl kc_X2_pointFinding kl_X6_75 ki_X2_pointFinding kv_X2_pointFinding kn_X2 ⟨Nat.le_trans (by decide) hR1, Nat.le_trans (by decide) hR2⟩ ⟨Nat.zero_le _, Nat.zero_le _⟩ (Nat.le_of_ble_eq_true rfl) dX6_turnPoint_5 (fun H locs w => ?_)
  refine lv_istore_n (pc := 8) (lv' := [(3, .int r2), (0, .ref (ad 6)), (1, .int a1), (2, .int a2)]) hx hb dX6_turnPoint_8 rfl hl (by decide) rfl (fun ls hl => ?_)
  refine lv_iload_n (pc := 9) hx hb dX6_turnPoint_9 rfl (lv_at hl 0 rfl) ?_
  refine lv_if_ne (pc := 10) (tgt := 24) hx hb dX6_turnPoint_10 (by decide) (fun q => ?_) (fun q => ?_)
  · have h := ite_f q h
    exact w_X6_turnPoint_j24 F (Nat.le_trans (by decide) hR1) (Nat.le_trans (by decide) hR2) _ _ _ _ h _ _ _ w (lv_sub hl [1, 2, 3, 0] rfl)
  · have h := ite_t q h
    refine lv_aload_n (pc := 13) hx hb dX6_turnPoint_13 rfl (lv_at hl 1 rfl) ?_
    refine lv_iload_n (pc := 14) hx hb dX6_turnPoint_14 rfl (lv_at hl 2 rfl) ?_
    refine lv_iload_n (pc := 15) hx hb dX6_turnPoint_15 rfl (lv_at hl 3 rfl) ?_
    obtain ⟨r13, S12, hc, h⟩ := bnd_t h
    refine s_cvi (pc := 16) [.int a1, .int a2] (fun ad => [.ref (ad 6), .int a1, .int a2]) F w (m_X6_hasLink _ _ _ _ _ hc) rfl rfl hl.1 ds_6 vc_X6 rfl ok_X6_hasLink rfl kc_X6_hasLink kl_X6_78 ki_X6_hasLink kv_X6_hasLink kn_X6 ⟨Nat.le_trans (by decide) hR1, Nat.le_trans (by decide) hR2⟩ ⟨Nat.zero_le _, Nat.zero_le _⟩ (Nat.le_of_ble_eq_true rfl) dX6_turnPoint_16 (fun H locs w => ?_)
    refine lv_if_ne (pc := 19) (tgt := 24) hx hb dX6_turnPoint_19 (by decide) (fun q => ?_) (fun q => ?_)
    · have h := ite_f q h
      exact w_X6_turnPoint_j24 F (Nat.le_trans (by decide) hR1) (Nat.le_trans (by decide) hR2) _ _ _ _ h _ _ _ w (lv_sub hl [1, 2, 3, 0] rfl)
    · have h := ite_t q h
      refine lv_iconst (pc := 22) (v := 3) hx hb dX6_turnPoint_22 (by decide) ?_
      refine lv_istore_n (pc := 23) (lv' := [(3, .int (3 : Int32)), (0, .ref (ad 6)), (1, .int a1), (2, .int a2)]) hx hb dX6_turnPoint_23 rfl hl (by decide) rfl (fun ls hl => ?_)
      exact w_X6_turnPoint_j24 F (Nat.le_trans (by decide) hR1) (Nat.le_trans (by decide) hR2) _ _ _ _ h _ _ _ w (lv_sub hl [1, 2, 3, 0] rfl)
def f_X11_turn (a1 : Int32) (a2 : Int32) (S : SS) : Option (Int32 × SS) :=
  bndv (f_X11_beginAct  S) (fun S1 =>
  bnd (f_X6_turnPoint a1 a2 S1) (fun r3 S2 =>
  bnd (f_X11_endAct (3 : Int32) r3 S2) (fun r5 S4 =>
  some (r5, S4))))
theorem dX11_turn_0 : decode cX11_turn 0 = .ok (.aload_n 0, 1) := by decide +kernel
theorem dX11_turn_1 : decode cX11_turn 1 = .ok (.invokevirtual 199, 3) := by decide +kernel
theorem dX11_turn_4 : decode cX11_turn 4 = .ok (.aload_n 0, 1) := by decide +kernel
theorem dX11_turn_5 : decode cX11_turn 5 = .ok (.iconst 3, 1) := by decide +kernel
theorem dX11_turn_6 : decode cX11_turn 6 = .ok (.aload_n 0, 1) := by decide +kernel
theorem dX11_turn_7 : decode cX11_turn 7 = .ok (.getfield 51, 3) := by decide +kernel
theorem dX11_turn_10 : decode cX11_turn 10 = .ok (.iload_n 1, 1) := by decide +kernel
theorem dX11_turn_11 : decode cX11_turn 11 = .ok (.iload_n 2, 1) := by decide +kernel
theorem dX11_turn_12 : decode cX11_turn 12 = .ok (.invokevirtual 211, 3) := by decide +kernel
theorem dX11_turn_15 : decode cX11_turn 15 = .ok (.invokevirtual 205, 3) := by decide +kernel
theorem dX11_turn_18 : decode cX11_turn 18 = .ok (.ireturn, 1) := by decide +kernel
set_option maxRecDepth 100000 in
set_option maxHeartbeats 4000000 in
theorem m_X11_turn (a1 : Int32) (a2 : Int32) (S S' : SS) (r : Int32) (h : f_X11_turn a1 a2 S = some (r, S')) : MT yX11_turn cX11_turn 3 (some .int) 5 110 (fun ad => [.ref (ad 0), .int a1, .int a2]) S (some (.int r)) S' := by
  refine MT.of RX11 (fun ad => [(0, .ref (ad 0)), (1, .int a1), (2, .int a2)]) (by decide) rfl (fun _ => Nat.le_of_ble_eq_true rfl) (fun _ => rfl) ?_
  intro p l e R s m args below meth c dC dI cs ad A hR1 hR2 F H locs ls w hl
  have hx := F.1.1
  have hb := F.1.2.1
  rw [f_X11_turn] at h
  refine lv_aload_n (pc := 0) hx hb dX11_turn_0 rfl (lv_at hl 0 rfl) ?_
  obtain ⟨S1, hc, h⟩ := bndv_t h
  refine s_cvv (pc := 1) [] (fun ad => [.ref (ad 0)]) F w (m_X11_beginAct  _ _ hc) rfl rfl hl.1 ds_0 vc_X11 rfl ok_X11_beginAct rfl kc_X11_beginAct kl_X11_199 ki_X11_beginAct kv_X11_beginAct kn_X11 ⟨Nat.le_trans (by decide) hR1, Nat.le_trans (by decide) hR2⟩ ⟨Nat.zero_le _, Nat.zero_le _⟩ (Nat.le_of_ble_eq_true rfl) dX11_turn_1 (fun H locs w => ?_)
  refine lv_aload_n (pc := 4) hx hb dX11_turn_4 rfl (lv_at hl 0 rfl) ?_
  refine lv_iconst (pc := 5) (v := 3) hx hb dX11_turn_5 (by decide) ?_
  refine lv_aload_n (pc := 6) hx hb dX11_turn_6 rfl (lv_at hl 0 rfl) ?_
  refine s_getR (pc := 7) F w 6 ds_0 (j := 5) vc_X11 vi_X11 rfl (by decide) kf_X11_51 dX11_turn_7 ?_
  refine lv_iload_n (pc := 10) hx hb dX11_turn_10 rfl (lv_at hl 1 rfl) ?_
  refine lv_iload_n (pc := 11) hx hb dX11_turn_11 rfl (lv_at hl 2 rfl) ?_
  obtain ⟨r3, S2, hc, h⟩ := bnd_t h
  refine s_cvi (pc := 12) [.int a1, .int a2] (fun ad => [.ref (ad 6), .int a1, .int a2]) F w (m_X6_turnPoint _ _ _ _ _ hc) rfl rfl hl.1 ds_6 vc_X6 rfl ok_X6_turnPoint rfl kc_X6_turnPoint kl_X11_211 ki_X6_turnPoint kv_X6_turnPoint kn_X6 ⟨Nat.le_trans (by decide) hR1, Nat.le_trans (by decide) hR2⟩ ⟨Nat.zero_le _, Nat.zero_le _⟩ (Nat.le_of_ble_eq_true rfl) dX11_turn_12 (fun H locs w => ?_)
  obtain ⟨r5, S4, hc, h⟩ := bnd_t h
  refine s_cvi (pc := 15) [.int (3 : Int32), .int r3] (fun ad => [.ref (ad 0), .int (3 : Int32), .int r3]) F w (m_X11_endAct _ _ _ _ _ hc) rfl rfl hl.1 ds_0 vc_X11 rfl ok_X11_endAct rfl kc_X11_endAct kl_X11_205 ki_X11_endAct kv_X11_endAct kn_X11 ⟨Nat.le_trans (by decide) hR1, Nat.le_trans (by decide) hR2⟩ ⟨Nat.zero_le _, Nat.zero_le _⟩ (Nat.le_of_ble_eq_true rfl) dX11_turn_15 (fun H locs w => ?_)
  exact s_iret F w h dX11_turn_18
def f_X12_placeAtEnd (a1 : Int32) (S : SS) : Option (Int32 × SS) :=
  if (a1 - a1 / (2 : Int32) * (2 : Int32)) = 0 then
    some ((0 : Int32), S)
  else
    grd (inb (a1 / (2 : Int32)) 24) (
    some ((S.1 70 (a1 / (2 : Int32)).toNatClampNeg) - (1 : Int32), S))
theorem dX12_placeAtEnd_0 : decode cX12_placeAtEnd 0 = .ok (.iload_n 1, 1) := by decide +kernel
theorem dX12_placeAtEnd_1 : decode cX12_placeAtEnd 1 = .ok (.iconst 2, 1) := by decide +kernel
theorem dX12_placeAtEnd_2 : decode cX12_placeAtEnd 2 = .ok (.irem, 1) := by decide +kernel
theorem dX12_placeAtEnd_3 : decode cX12_placeAtEnd 3 = .ok (.ifCond .ne 7, 3) := by decide +kernel
theorem dX12_placeAtEnd_6 : decode cX12_placeAtEnd 6 = .ok (.iconst 0, 1) := by decide +kernel
theorem dX12_placeAtEnd_7 : decode cX12_placeAtEnd 7 = .ok (.goto 13, 3) := by decide +kernel
theorem dX12_placeAtEnd_10 : decode cX12_placeAtEnd 10 = .ok (.aload_n 0, 1) := by decide +kernel
theorem dX12_placeAtEnd_11 : decode cX12_placeAtEnd 11 = .ok (.getfield 23, 3) := by decide +kernel
theorem dX12_placeAtEnd_14 : decode cX12_placeAtEnd 14 = .ok (.iload_n 1, 1) := by decide +kernel
theorem dX12_placeAtEnd_15 : decode cX12_placeAtEnd 15 = .ok (.iconst 2, 1) := by decide +kernel
theorem dX12_placeAtEnd_16 : decode cX12_placeAtEnd 16 = .ok (.idiv, 1) := by decide +kernel
theorem dX12_placeAtEnd_17 : decode cX12_placeAtEnd 17 = .ok (.iaload, 1) := by decide +kernel
theorem dX12_placeAtEnd_18 : decode cX12_placeAtEnd 18 = .ok (.iconst 1, 1) := by decide +kernel
theorem dX12_placeAtEnd_19 : decode cX12_placeAtEnd 19 = .ok (.isub, 1) := by decide +kernel
theorem dX12_placeAtEnd_20 : decode cX12_placeAtEnd 20 = .ok (.ireturn, 1) := by decide +kernel
set_option maxRecDepth 100000 in
set_option maxHeartbeats 4000000 in
theorem m_X12_placeAtEnd (a1 : Int32) (S S' : SS) (r : Int32) (h : f_X12_placeAtEnd a1 S = some (r, S')) : MT yX12_placeAtEnd cX12_placeAtEnd 2 (some .int) 0 0 (fun ad => [.ref (ad 14), .int a1]) S (some (.int r)) S' := by
  refine MT.of RX12 (fun ad => [(0, .ref (ad 14)), (1, .int a1)]) (by decide) rfl (fun _ => Nat.le_of_ble_eq_true rfl) (fun _ => rfl) ?_
  intro p l e R s m args below meth c dC dI cs ad A hR1 hR2 F H locs ls w hl
  have hx := F.1.1
  have hb := F.1.2.1
  rw [f_X12_placeAtEnd] at h
  refine lv_iload_n (pc := 0) hx hb dX12_placeAtEnd_0 rfl (lv_at hl 1 rfl) ?_
  refine lv_iconst (pc := 1) (v := 2) hx hb dX12_placeAtEnd_1 (by decide) ?_
  refine lv_irem (pc := 2) hx hb dX12_placeAtEnd_2 (by decide) ?_
  refine lv_if_ne (pc := 3) (tgt := 10) hx hb dX12_placeAtEnd_3 (by decide) (fun q => ?_) (fun q => ?_)
  · have h := ite_f q h
    refine lv_aload_n (pc := 10) hx hb dX12_placeAtEnd_10 rfl (lv_at hl 0 rfl) ?_
    refine s_getR (pc := 11) F w 70 ds_14 (j := 8) vc_X12 vi_X12 rfl (by decide) kf_X12_23 dX12_placeAtEnd_11 ?_
    refine lv_iload_n (pc := 14) hx hb dX12_placeAtEnd_14 rfl (lv_at hl 1 rfl) ?_
    refine lv_iconst (pc := 15) (v := 2) hx hb dX12_placeAtEnd_15 (by decide) ?_
    refine lv_idiv (pc := 16) hx hb dX12_placeAtEnd_16 (by decide) ?_
    refine s_iald (pc := 17) F w ds_70 h dX12_placeAtEnd_17 (fun h => ?_)
    refine lv_iconst (pc := 18) (v := 1) hx hb dX12_placeAtEnd_18 (by decide) ?_
    refine lv_isub (pc := 19) hx hb dX12_placeAtEnd_19 ?_
    exact s_iret F w h dX12_placeAtEnd_20
  · have h := ite_t q h
    refine lv_iconst (pc := 6) (v := 0) hx hb dX12_placeAtEnd_6 (by decide) ?_
    refine lv_goto (pc := 7) (tgt := 20) hx hb dX12_placeAtEnd_7 (by decide) ?_
    exact s_iret F w h dX12_placeAtEnd_20
def f_X12_isUnder (a1 : Int32) (S : SS) : Option (Int32 × SS) :=
  grd (inb a1 40) (
  grd (inb a1 40) (
  bnd (f_X12_placeAtEnd (S.1 76 a1.toNatClampNeg) S) (fun r2 S1 =>
  bnd (f_X12_standing ((S.1 76 a1.toNatClampNeg) / (2 : Int32)) r2 S1) (fun r4 S3 =>
  if r4 = (-4 : Int32) then
    some ((0 : Int32), S3)
  else
    some ((1 : Int32), S3)))))
theorem dX12_isUnder_0 : decode cX12_isUnder 0 = .ok (.aload_n 0, 1) := by decide +kernel
theorem dX12_isUnder_1 : decode cX12_isUnder 1 = .ok (.aload_n 0, 1) := by decide +kernel
theorem dX12_isUnder_2 : decode cX12_isUnder 2 = .ok (.getfield 42, 3) := by decide +kernel
theorem dX12_isUnder_5 : decode cX12_isUnder 5 = .ok (.iload_n 1, 1) := by decide +kernel
theorem dX12_isUnder_6 : decode cX12_isUnder 6 = .ok (.iaload, 1) := by decide +kernel
theorem dX12_isUnder_7 : decode cX12_isUnder 7 = .ok (.iconst 2, 1) := by decide +kernel
theorem dX12_isUnder_8 : decode cX12_isUnder 8 = .ok (.idiv, 1) := by decide +kernel
theorem dX12_isUnder_9 : decode cX12_isUnder 9 = .ok (.aload_n 0, 1) := by decide +kernel
theorem dX12_isUnder_10 : decode cX12_isUnder 10 = .ok (.aload_n 0, 1) := by decide +kernel
theorem dX12_isUnder_11 : decode cX12_isUnder 11 = .ok (.getfield 42, 3) := by decide +kernel
theorem dX12_isUnder_14 : decode cX12_isUnder 14 = .ok (.iload_n 1, 1) := by decide +kernel
theorem dX12_isUnder_15 : decode cX12_isUnder 15 = .ok (.iaload, 1) := by decide +kernel
theorem dX12_isUnder_16 : decode cX12_isUnder 16 = .ok (.invokevirtual 257, 3) := by decide +kernel
theorem dX12_isUnder_19 : decode cX12_isUnder 19 = .ok (.invokevirtual 279, 3) := by decide +kernel
theorem dX12_isUnder_22 : decode cX12_isUnder 22 = .ok (.bipush (-4), 2) := by decide +kernel
theorem dX12_isUnder_24 : decode cX12_isUnder 24 = .ok (.if_icmp .eq 7, 3) := by decide +kernel
theorem dX12_isUnder_27 : decode cX12_isUnder 27 = .ok (.iconst 1, 1) := by decide +kernel
theorem dX12_isUnder_28 : decode cX12_isUnder 28 = .ok (.goto 4, 3) := by decide +kernel
theorem dX12_isUnder_31 : decode cX12_isUnder 31 = .ok (.iconst 0, 1) := by decide +kernel
theorem dX12_isUnder_32 : decode cX12_isUnder 32 = .ok (.ireturn, 1) := by decide +kernel
set_option maxRecDepth 100000 in
set_option maxHeartbeats 4000000 in
theorem m_X12_isUnder (a1 : Int32) (S S' : SS) (r : Int32) (h : f_X12_isUnder a1 S = some (r, S')) : MT yX12_isUnder cX12_isUnder 2 (some .boolean) 1 23 (fun ad => [.ref (ad 14), .int a1]) S (some (.int r)) S' := by
  refine MT.of RX12 (fun ad => [(0, .ref (ad 14)), (1, .int a1)]) (by decide) rfl (fun _ => Nat.le_of_ble_eq_true rfl) (fun _ => rfl) ?_
  intro p l e R s m args below meth c dC dI cs ad A hR1 hR2 F H locs ls w hl
  have hx := F.1.1
  have hb := F.1.2.1
  rw [f_X12_isUnder] at h
  refine lv_aload_n (pc := 0) hx hb dX12_isUnder_0 rfl (lv_at hl 0 rfl) ?_
  refine lv_aload_n (pc := 1) hx hb dX12_isUnder_1 rfl (lv_at hl 0 rfl) ?_
  refine s_getR (pc := 2) F w 76 ds_14 (j := 16) vc_X12 vi_X12 rfl (by decide) kf_X12_42 dX12_isUnder_2 ?_
  refine lv_iload_n (pc := 5) hx hb dX12_isUnder_5 rfl (lv_at hl 1 rfl) ?_
  refine s_iald (pc := 6) F w ds_76 h dX12_isUnder_6 (fun h => ?_)
  refine lv_iconst (pc := 7) (v := 2) hx hb dX12_isUnder_7 (by decide) ?_
  refine lv_idiv (pc := 8) hx hb dX12_isUnder_8 (by decide) ?_
  refine lv_aload_n (pc := 9) hx hb dX12_isUnder_9 rfl (lv_at hl 0 rfl) ?_
  refine lv_aload_n (pc := 10) hx hb dX12_isUnder_10 rfl (lv_at hl 0 rfl) ?_
  refine s_getR (pc := 11) F w 76 ds_14 (j := 16) vc_X12 vi_X12 rfl (by decide) kf_X12_42 dX12_isUnder_11 ?_
  refine lv_iload_n (pc := 14) hx hb dX12_isUnder_14 rfl (lv_at hl 1 rfl) ?_
  refine s_iald (pc := 15) F w ds_76 h dX12_isUnder_15 (fun h => ?_)
  obtain ⟨r2, S1, hc, h⟩ := bnd_t h
  refine s_cvi (pc := 16) [.int (S.1 76 a1.toNatClampNeg)] (fun ad => [.ref (ad 14), .int (S.1 76 a1.toNatClampNeg)]) F w (m_X12_placeAtEnd _ _ _ _ hc) rfl rfl hl.1 ds_14 vc_X12 rfl ok_X12_placeAtEnd rfl kc_X12_placeAtEnd kl_X12_257 ki_X12_placeAtEnd kv_X12_placeAtEnd kn_X12 ⟨Nat.le_trans (by decide) hR1, Nat.le_trans (by decide) hR2⟩ ⟨Nat.zero_le _, Nat.zero_le _⟩ (Nat.le_of_ble_eq_true rfl) dX12_isUnder_16 (fun H locs w => ?_)
  obtain ⟨r4, S3, hc, h⟩ := bnd_t h
  refine s_cvi (pc := 19) [.int ((S.1 76 a1.toNatClampNeg) / (2 : Int32)), .int r2] (fun ad => [.ref (ad 14), .int ((S.1 76 a1.toNatClampNeg) / (2 : Int32)), .int r2]) F w (m_X12_standing _ _ _ _ _ hc) rfl rfl hl.1 ds_14 vc_X12 rfl ok_X12_standing rfl kc_X12_standing kl_X12_279 ki_X12_standing kv_X12_standing kn_X12 ⟨Nat.le_trans (by decide) hR1, Nat.le_trans (by decide) hR2⟩ ⟨Nat.zero_le _, Nat.zero_le _⟩ (Nat.le_of_ble_eq_true rfl) dX12_isUnder_19 (fun H locs w => ?_)
  refine lv_bipush (pc := 22) (v := -4) hx hb dX12_isUnder_22 (by decide) ?_
  refine lv_icmp_eq (pc := 24) (tgt := 31) hx hb dX12_isUnder_24 (by decide) (fun q => ?_) (fun q => ?_)
  · have h := ite_t q h
    refine lv_iconst (pc := 31) (v := 0) hx hb dX12_isUnder_31 (by decide) ?_
    exact s_zretc F w rfl h dX12_isUnder_32
  · have h := ite_f q h
    refine lv_iconst (pc := 27) (v := 1) hx hb dX12_isUnder_27 (by decide) ?_
    refine lv_goto (pc := 28) (tgt := 32) hx hb dX12_isUnder_28 (by decide) ?_
    exact s_zretc F w rfl h dX12_isUnder_32
def f_X12_missTurn (a1 : Int32) (a2 : Int32) (S : SS) : Option (Int32 × SS) :=
  bnd (f_X12_missPoint a1 S) (fun r2 S1 =>
  if r2 = 0 then
    if a2 < 0 then
      some ((3 : Int32), S1)
    else
      grd (inb a1 40) (
      grd (inb (S1.1 76 a1.toNatClampNeg) 48) (
      if a2 < (S1.1 73 (S1.1 76 a1.toNatClampNeg).toNatClampNeg) then
        grd (inb a1 40) (
        if (S1.1 77 a1.toNatClampNeg) = a2 then
          some ((0 : Int32), S1)
        else
          grd (inb a1 40) (
          wr S1 14 3 (S1.1 78 a1.toNatClampNeg) (fun S3 =>
          grd (inb a1 40) (
          if (S3.1 78 a1.toNatClampNeg) = (-4 : Int32) then
            bnd (f_X12_isUnder a1 S3) (fun r5 S4 =>
            if r5 = 0 then
              some ((0 : Int32), S4)
            else
              some ((12 : Int32), S4))
          else
            some ((11 : Int32), S3)))))
      else
        some ((3 : Int32), S1)))
  else
    some (r2, S1))
theorem dX12_missTurn_0 : decode cX12_missTurn 0 = .ok (.aload_n 0, 1) := by decide +kernel
theorem dX12_missTurn_1 : decode cX12_missTurn 1 = .ok (.iload_n 1, 1) := by decide +kernel
theorem dX12_missTurn_2 : decode cX12_missTurn 2 = .ok (.invokevirtual 263, 3) := by decide +kernel
theorem dX12_missTurn_5 : decode cX12_missTurn 5 = .ok (.istore_n 3, 1) := by decide +kernel
theorem dX12_missTurn_6 : decode cX12_missTurn 6 = .ok (.iload_n 3, 1) := by decide +kernel
theorem dX12_missTurn_7 : decode cX12_missTurn 7 = .ok (.ifCond .eq 5, 3) := by decide +kernel
theorem dX12_missTurn_10 : decode cX12_missTurn 10 = .ok (.iload_n 3, 1) := by decide +kernel
theorem dX12_missTurn_11 : decode cX12_missTurn 11 = .ok (.ireturn, 1) := by decide +kernel
theorem dX12_missTurn_12 : decode cX12_missTurn 12 = .ok (.iload_n 2, 1) := by decide +kernel
theorem dX12_missTurn_13 : decode cX12_missTurn 13 = .ok (.ifCond .lt 18, 3) := by decide +kernel
theorem dX12_missTurn_16 : decode cX12_missTurn 16 = .ok (.iload_n 2, 1) := by decide +kernel
theorem dX12_missTurn_17 : decode cX12_missTurn 17 = .ok (.aload_n 0, 1) := by decide +kernel
theorem dX12_missTurn_18 : decode cX12_missTurn 18 = .ok (.getfield 33, 3) := by decide +kernel
theorem dX12_missTurn_21 : decode cX12_missTurn 21 = .ok (.aload_n 0, 1) := by decide +kernel
theorem dX12_missTurn_22 : decode cX12_missTurn 22 = .ok (.getfield 42, 3) := by decide +kernel
theorem dX12_missTurn_25 : decode cX12_missTurn 25 = .ok (.iload_n 1, 1) := by decide +kernel
theorem dX12_missTurn_26 : decode cX12_missTurn 26 = .ok (.iaload, 1) := by decide +kernel
theorem dX12_missTurn_27 : decode cX12_missTurn 27 = .ok (.iaload, 1) := by decide +kernel
theorem dX12_missTurn_28 : decode cX12_missTurn 28 = .ok (.if_icmp .lt 5, 3) := by decide +kernel
theorem dX12_missTurn_31 : decode cX12_missTurn 31 = .ok (.iconst 3, 1) := by decide +kernel
theorem dX12_missTurn_32 : decode cX12_missTurn 32 = .ok (.ireturn, 1) := by decide +kernel
theorem dX12_missTurn_33 : decode cX12_missTurn 33 = .ok (.aload_n 0, 1) := by decide +kernel
theorem dX12_missTurn_34 : decode cX12_missTurn 34 = .ok (.getfield 45, 3) := by decide +kernel
theorem dX12_missTurn_37 : decode cX12_missTurn 37 = .ok (.iload_n 1, 1) := by decide +kernel
theorem dX12_missTurn_38 : decode cX12_missTurn 38 = .ok (.iaload, 1) := by decide +kernel
theorem dX12_missTurn_39 : decode cX12_missTurn 39 = .ok (.iload_n 2, 1) := by decide +kernel
theorem dX12_missTurn_40 : decode cX12_missTurn 40 = .ok (.if_icmp .ne 5, 3) := by decide +kernel
theorem dX12_missTurn_43 : decode cX12_missTurn 43 = .ok (.iconst 0, 1) := by decide +kernel
theorem dX12_missTurn_44 : decode cX12_missTurn 44 = .ok (.ireturn, 1) := by decide +kernel
theorem dX12_missTurn_45 : decode cX12_missTurn 45 = .ok (.aload_n 0, 1) := by decide +kernel
theorem dX12_missTurn_46 : decode cX12_missTurn 46 = .ok (.aload_n 0, 1) := by decide +kernel
theorem dX12_missTurn_47 : decode cX12_missTurn 47 = .ok (.getfield 48, 3) := by decide +kernel
theorem dX12_missTurn_50 : decode cX12_missTurn 50 = .ok (.iload_n 1, 1) := by decide +kernel
theorem dX12_missTurn_51 : decode cX12_missTurn 51 = .ok (.iaload, 1) := by decide +kernel
theorem dX12_missTurn_52 : decode cX12_missTurn 52 = .ok (.putfield 13, 3) := by decide +kernel
theorem dX12_missTurn_55 : decode cX12_missTurn 55 = .ok (.aload_n 0, 1) := by decide +kernel
theorem dX12_missTurn_56 : decode cX12_missTurn 56 = .ok (.getfield 48, 3) := by decide +kernel
theorem dX12_missTurn_59 : decode cX12_missTurn 59 = .ok (.iload_n 1, 1) := by decide +kernel
theorem dX12_missTurn_60 : decode cX12_missTurn 60 = .ok (.iaload, 1) := by decide +kernel
theorem dX12_missTurn_61 : decode cX12_missTurn 61 = .ok (.bipush (-4), 2) := by decide +kernel
theorem dX12_missTurn_63 : decode cX12_missTurn 63 = .ok (.if_icmp .eq 8, 3) := by decide +kernel
theorem dX12_missTurn_66 : decode cX12_missTurn 66 = .ok (.bipush 11, 2) := by decide +kernel
theorem dX12_missTurn_68 : decode cX12_missTurn 68 = .ok (.goto 17, 3) := by decide +kernel
theorem dX12_missTurn_71 : decode cX12_missTurn 71 = .ok (.aload_n 0, 1) := by decide +kernel
theorem dX12_missTurn_72 : decode cX12_missTurn 72 = .ok (.iload_n 1, 1) := by decide +kernel
theorem dX12_missTurn_73 : decode cX12_missTurn 73 = .ok (.invokevirtual 355, 3) := by decide +kernel
theorem dX12_missTurn_76 : decode cX12_missTurn 76 = .ok (.ifCond .eq 8, 3) := by decide +kernel
theorem dX12_missTurn_79 : decode cX12_missTurn 79 = .ok (.bipush 12, 2) := by decide +kernel
theorem dX12_missTurn_81 : decode cX12_missTurn 81 = .ok (.goto 4, 3) := by decide +kernel
theorem dX12_missTurn_84 : decode cX12_missTurn 84 = .ok (.iconst 0, 1) := by decide +kernel
theorem dX12_missTurn_85 : decode cX12_missTurn 85 = .ok (.ireturn, 1) := by decide +kernel
set_option maxRecDepth 100000 in
set_option maxHeartbeats 4000000 in
theorem m_X12_missTurn (a1 : Int32) (a2 : Int32) (S S' : SS) (r : Int32) (h : f_X12_missTurn a1 a2 S = some (r, S')) : MT yX12_missTurn cX12_missTurn 4 (some .int) 2 44 (fun ad => [.ref (ad 14), .int a1, .int a2]) S (some (.int r)) S' := by
  refine MT.of RX12 (fun ad => [(0, .ref (ad 14)), (1, .int a1), (2, .int a2)]) (by decide) rfl (fun _ => Nat.le_of_ble_eq_true rfl) (fun _ => rfl) ?_
  intro p l e R s m args below meth c dC dI cs ad A hR1 hR2 F H locs ls w hl
  have hx := F.1.1
  have hb := F.1.2.1
  rw [f_X12_missTurn] at h
  refine lv_aload_n (pc := 0) hx hb dX12_missTurn_0 rfl (lv_at hl 0 rfl) ?_
  refine lv_iload_n (pc := 1) hx hb dX12_missTurn_1 rfl (lv_at hl 1 rfl) ?_
  obtain ⟨r2, S1, hc, h⟩ := bnd_t h
  refine s_cvi (pc := 2) [.int a1] (fun ad => [.ref (ad 14), .int a1]) F w (m_X12_missPoint _ _ _ _ hc) rfl rfl hl.1 ds_14 vc_X12 rfl ok_X12_missPoint rfl kc_X12_missPoint kl_X12_263 ki_X12_missPoint kv_X12_missPoint kn_X12 ⟨Nat.le_trans (by decide) hR1, Nat.le_trans (by decide) hR2⟩ ⟨Nat.zero_le _, Nat.zero_le _⟩ (Nat.le_of_ble_eq_true rfl) dX12_missTurn_2 (fun H locs w => ?_)
  refine lv_istore_n (pc := 5) (lv' := [(3, .int r2), (0, .ref (ad 14)), (1, .int a1), (2, .int a2)]) hx hb dX12_missTurn_5 rfl hl (by decide) rfl (fun ls hl => ?_)
  refine lv_iload_n (pc := 6) hx hb dX12_missTurn_6 rfl (lv_at hl 0 rfl) ?_
  refine lv_if_eq (pc := 7) (tgt := 12) hx hb dX12_missTurn_7 (by decide) (fun q => ?_) (fun q => ?_)
  · have h := ite_t q h
    refine lv_iload_n (pc := 12) hx hb dX12_missTurn_12 rfl (lv_at hl 3 rfl) ?_
    refine lv_if_lt (pc := 13) (tgt := 31) hx hb dX12_missTurn_13 (by decide) (fun q => ?_) (fun q => ?_)
    · have h := ite_t q h
      refine lv_iconst (pc := 31) (v := 3) hx hb dX12_missTurn_31 (by decide) ?_
      exact s_iret F w h dX12_missTurn_32
    · have h := ite_f q h
      refine lv_iload_n (pc := 16) hx hb dX12_missTurn_16 rfl (lv_at hl 3 rfl) ?_
      refine lv_aload_n (pc := 17) hx hb dX12_missTurn_17 rfl (lv_at hl 1 rfl) ?_
      refine s_getR (pc := 18) F w 73 ds_14 (j := 11) vc_X12 vi_X12 rfl (by decide) kf_X12_33 dX12_missTurn_18 ?_
      refine lv_aload_n (pc := 21) hx hb dX12_missTurn_21 rfl (lv_at hl 1 rfl) ?_
      refine s_getR (pc := 22) F w 76 ds_14 (j := 16) vc_X12 vi_X12 rfl (by decide) kf_X12_42 dX12_missTurn_22 ?_
      refine lv_iload_n (pc := 25) hx hb dX12_missTurn_25 rfl (lv_at hl 2 rfl) ?_
      refine s_iald (pc := 26) F w ds_76 h dX12_missTurn_26 (fun h => ?_)
      refine s_iald (pc := 27) F w ds_73 h dX12_missTurn_27 (fun h => ?_)
      refine lv_icmp_lt (pc := 28) (tgt := 33) hx hb dX12_missTurn_28 (by decide) (fun q => ?_) (fun q => ?_)
      · have h := ite_t q h
        refine lv_aload_n (pc := 33) hx hb dX12_missTurn_33 rfl (lv_at hl 1 rfl) ?_
        refine s_getR (pc := 34) F w 77 ds_14 (j := 17) vc_X12 vi_X12 rfl (by decide) kf_X12_45 dX12_missTurn_34 ?_
        refine lv_iload_n (pc := 37) hx hb dX12_missTurn_37 rfl (lv_at hl 2 rfl) ?_
        refine s_iald (pc := 38) F w ds_77 h dX12_missTurn_38 (fun h => ?_)
        refine lv_iload_n (pc := 39) hx hb dX12_missTurn_39 rfl (lv_at hl 3 rfl) ?_
        refine lv_icmp_ne (pc := 40) (tgt := 45) hx hb dX12_missTurn_40 (by decide) (fun q => ?_) (fun q => ?_)
        · have h := ite_f q h
          refine lv_aload_n (pc := 45) hx hb dX12_missTurn_45 rfl (lv_at hl 1 rfl) ?_
          refine lv_aload_n (pc := 46) hx hb dX12_missTurn_46 rfl (lv_at hl 1 rfl) ?_
          refine s_getR (pc := 47) F w 78 ds_14 (j := 18) vc_X12 vi_X12 rfl (by decide) kf_X12_48 dX12_missTurn_47 ?_
          refine lv_iload_n (pc := 50) hx hb dX12_missTurn_50 rfl (lv_at hl 2 rfl) ?_
          refine s_iald (pc := 51) F w ds_78 h dX12_missTurn_51 (fun h => ?_)
          refine s_putI (pc := 52) F w ds_14 vc_X12 vi_X12 tyX12_ok nmX12 (j := 3) rfl (by decide) kf_X12_13 rfl pd_I h dX12_missTurn_52 (fun S3 H locs h w => ?_)
          refine lv_aload_n (pc := 55) hx hb dX12_missTurn_55 rfl (lv_at hl 1 rfl) ?_
          refine s_getR (pc := 56) F w 78 ds_14 (j := 18) vc_X12 vi_X12 rfl (by decide) kf_X12_48 dX12_missTurn_56 ?_
          refine lv_iload_n (pc := 59) hx hb dX12_missTurn_59 rfl (lv_at hl 2 rfl) ?_
          refine s_iald (pc := 60) F w ds_78 h dX12_missTurn_60 (fun h => ?_)
          refine lv_bipush (pc := 61) (v := -4) hx hb dX12_missTurn_61 (by decide) ?_
          refine lv_icmp_eq (pc := 63) (tgt := 71) hx hb dX12_missTurn_63 (by decide) (fun q => ?_) (fun q => ?_)
          · have h := ite_t q h
            refine lv_aload_n (pc := 71) hx hb dX12_missTurn_71 rfl (lv_at hl 1 rfl) ?_
            refine lv_iload_n (pc := 72) hx hb dX12_missTurn_72 rfl (lv_at hl 2 rfl) ?_
            obtain ⟨r5, S4, hc, h⟩ := bnd_t h
            refine s_cvi (pc := 73) [.int a1] (fun ad => [.ref (ad 14), .int a1]) F w (m_X12_isUnder _ _ _ _ hc) rfl rfl hl.1 ds_14 vc_X12 rfl ok_X12_isUnder rfl kc_X12_isUnder kl_X12_355 ki_X12_isUnder kv_X12_isUnder kn_X12 ⟨Nat.le_trans (by decide) hR1, Nat.le_trans (by decide) hR2⟩ ⟨Nat.zero_le _, Nat.zero_le _⟩ (Nat.le_of_ble_eq_true rfl) dX12_missTurn_73 (fun H locs w => ?_)
            refine lv_if_eq (pc := 76) (tgt := 84) hx hb dX12_missTurn_76 (by decide) (fun q => ?_) (fun q => ?_)
            · have h := ite_t q h
              refine lv_iconst (pc := 84) (v := 0) hx hb dX12_missTurn_84 (by decide) ?_
              exact s_iret F w h dX12_missTurn_85
            · have h := ite_f q h
              refine lv_bipush (pc := 79) (v := 12) hx hb dX12_missTurn_79 (by decide) ?_
              refine lv_goto (pc := 81) (tgt := 85) hx hb dX12_missTurn_81 (by decide) ?_
              exact s_iret F w h dX12_missTurn_85
          · have h := ite_f q h
            refine lv_bipush (pc := 66) (v := 11) hx hb dX12_missTurn_66 (by decide) ?_
            refine lv_goto (pc := 68) (tgt := 85) hx hb dX12_missTurn_68 (by decide) ?_
            exact s_iret F w h dX12_missTurn_85
        · have h := ite_t q h
          refine lv_iconst (pc := 43) (v := 0) hx hb dX12_missTurn_43 (by decide) ?_
          exact s_iret F w h dX12_missTurn_44
      · have h := ite_f q h
        refine lv_iconst (pc := 31) (v := 3) hx hb dX12_missTurn_31 (by decide) ?_
        exact s_iret F w h dX12_missTurn_32
  · have h := ite_f q h
    refine lv_iload_n (pc := 10) hx hb dX12_missTurn_10 rfl (lv_at hl 0 rfl) ?_
    exact s_iret F w h dX12_missTurn_11
