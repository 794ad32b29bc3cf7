/-! ===== printed by wip/gen: X12_pointed X11_wantedFor X11_orZero X11_ask X12_ask X11_meet X12_meet X11_weigh X12_weigh X11_share ===== -/
def f_X12_pointed (a1 : Int32) (a2 : Int32) (S : SS) : Option (Int32 × SS) :=
  if a2 < 0 then
    some ((-1 : Int32), S)
  else
    if a2 ≤ (4 : Int32) then
      bndv (f_X12_begin  S) (fun S1 =>
      bnd (f_X12_missPoint a1 S1) (fun r3 S2 =>
      bnd (f_X12_ends r3 S2) (fun r5 S4 =>
      if r5 = 0 then
        if a2 = 0 then
          grd (inb a1 40) (
          some ((S4.1 76 a1.toNatClampNeg) / (2 : Int32), S4))
        else
          if a2 = (1 : Int32) then
            grd (inb a1 40) (
            some ((S4.1 76 a1.toNatClampNeg) - (S4.1 76 a1.toNatClampNeg) / (2 : Int32) * (2 : Int32), S4))
          else
            if a2 = (2 : Int32) then
              grd (inb a1 40) (
              grd (inb (S4.1 76 a1.toNatClampNeg) 48) (
              some (S4.1 73 (S4.1 76 a1.toNatClampNeg).toNatClampNeg, S4)))
            else
              if a2 = (3 : Int32) then
                grd (inb a1 40) (
                some (S4.1 77 a1.toNatClampNeg, S4))
              else
                grd (inb a1 40) (
                some (S4.1 78 a1.toNatClampNeg, S4))
      else
        some ((-2 : Int32), S4))))
    else
      some ((-1 : Int32), S)
theorem dX12_pointed_0 : decode cX12_pointed 0 = .ok (.iload_n 2, 1) := by decide +kernel
theorem dX12_pointed_1 : decode cX12_pointed 1 = .ok (.ifCond .lt 8, 3) := by decide +kernel
theorem dX12_pointed_4 : decode cX12_pointed 4 = .ok (.iload_n 2, 1) := by decide +kernel
theorem dX12_pointed_5 : decode cX12_pointed 5 = .ok (.iconst 4, 1) := by decide +kernel
theorem dX12_pointed_6 : decode cX12_pointed 6 = .ok (.if_icmp .le 5, 3) := by decide +kernel
theorem dX12_pointed_9 : decode cX12_pointed 9 = .ok (.iconst (-1), 1) := by decide +kernel
theorem dX12_pointed_10 : decode cX12_pointed 10 = .ok (.ireturn, 1) := by decide +kernel
theorem dX12_pointed_11 : decode cX12_pointed 11 = .ok (.aload_n 0, 1) := by decide +kernel
theorem dX12_pointed_12 : decode cX12_pointed 12 = .ok (.invokevirtual 226, 3) := by decide +kernel
theorem dX12_pointed_15 : decode cX12_pointed 15 = .ok (.aload_n 0, 1) := by decide +kernel
theorem dX12_pointed_16 : decode cX12_pointed 16 = .ok (.aload_n 0, 1) := by decide +kernel
theorem dX12_pointed_17 : decode cX12_pointed 17 = .ok (.iload_n 1, 1) := by decide +kernel
theorem dX12_pointed_18 : decode cX12_pointed 18 = .ok (.invokevirtual 263, 3) := by decide +kernel
theorem dX12_pointed_21 : decode cX12_pointed 21 = .ok (.invokevirtual 236, 3) := by decide +kernel
theorem dX12_pointed_24 : decode cX12_pointed 24 = .ok (.ifCond .eq 6, 3) := by decide +kernel
theorem dX12_pointed_27 : decode cX12_pointed 27 = .ok (.bipush (-2), 2) := by decide +kernel
theorem dX12_pointed_29 : decode cX12_pointed 29 = .ok (.ireturn, 1) := by decide +kernel
theorem dX12_pointed_30 : decode cX12_pointed 30 = .ok (.iload_n 2, 1) := by decide +kernel
theorem dX12_pointed_31 : decode cX12_pointed 31 = .ok (.ifCond .ne 14, 3) := by decide +kernel
theorem dX12_pointed_34 : decode cX12_pointed 34 = .ok (.aload_n 0, 1) := by decide +kernel
theorem dX12_pointed_35 : decode cX12_pointed 35 = .ok (.getfield 42, 3) := by decide +kernel
theorem dX12_pointed_38 : decode cX12_pointed 38 = .ok (.iload_n 1, 1) := by decide +kernel
theorem dX12_pointed_39 : decode cX12_pointed 39 = .ok (.iaload, 1) := by decide +kernel
theorem dX12_pointed_40 : decode cX12_pointed 40 = .ok (.iconst 2, 1) := by decide +kernel
theorem dX12_pointed_41 : decode cX12_pointed 41 = .ok (.idiv, 1) := by decide +kernel
theorem dX12_pointed_42 : decode cX12_pointed 42 = .ok (.goto 58, 3) := by decide +kernel
theorem dX12_pointed_45 : decode cX12_pointed 45 = .ok (.iload_n 2, 1) := by decide +kernel
theorem dX12_pointed_46 : decode cX12_pointed 46 = .ok (.iconst 1, 1) := by decide +kernel
theorem dX12_pointed_47 : decode cX12_pointed 47 = .ok (.if_icmp .ne 14, 3) := by decide +kernel
theorem dX12_pointed_50 : decode cX12_pointed 50 = .ok (.aload_n 0, 1) := by decide +kernel
theorem dX12_pointed_51 : decode cX12_pointed 51 = .ok (.getfield 42, 3) := by decide +kernel
theorem dX12_pointed_54 : decode cX12_pointed 54 = .ok (.iload_n 1, 1) := by decide +kernel
theorem dX12_pointed_55 : decode cX12_pointed 55 = .ok (.iaload, 1) := by decide +kernel
theorem dX12_pointed_56 : decode cX12_pointed 56 = .ok (.iconst 2, 1) := by decide +kernel
theorem dX12_pointed_57 : decode cX12_pointed 57 = .ok (.irem, 1) := by decide +kernel
theorem dX12_pointed_58 : decode cX12_pointed 58 = .ok (.goto 42, 3) := by decide +kernel
theorem dX12_pointed_61 : decode cX12_pointed 61 = .ok (.iload_n 2, 1) := by decide +kernel
theorem dX12_pointed_62 : decode cX12_pointed 62 = .ok (.iconst 2, 1) := by decide +kernel
theorem dX12_pointed_63 : decode cX12_pointed 63 = .ok (.if_icmp .ne 17, 3) := by decide +kernel
theorem dX12_pointed_66 : decode cX12_pointed 66 = .ok (.aload_n 0, 1) := by decide +kernel
theorem dX12_pointed_67 : decode cX12_pointed 67 = .ok (.getfield 33, 3) := by decide +kernel
theorem dX12_pointed_70 : decode cX12_pointed 70 = .ok (.aload_n 0, 1) := by decide +kernel
theorem dX12_pointed_71 : decode cX12_pointed 71 = .ok (.getfield 42, 3) := by decide +kernel
theorem dX12_pointed_74 : decode cX12_pointed 74 = .ok (.iload_n 1, 1) := by decide +kernel
theorem dX12_pointed_75 : decode cX12_pointed 75 = .ok (.iaload, 1) := by decide +kernel
theorem dX12_pointed_76 : decode cX12_pointed 76 = .ok (.iaload, 1) := by decide +kernel
theorem dX12_pointed_77 : decode cX12_pointed 77 = .ok (.goto 23, 3) := by decide +kernel
theorem dX12_pointed_80 : decode cX12_pointed 80 = .ok (.iload_n 2, 1) := by decide +kernel
theorem dX12_pointed_81 : decode cX12_pointed 81 = .ok (.iconst 3, 1) := by decide +kernel
theorem dX12_pointed_82 : decode cX12_pointed 82 = .ok (.if_icmp .ne 12, 3) := by decide +kernel
theorem dX12_pointed_85 : decode cX12_pointed 85 = .ok (.aload_n 0, 1) := by decide +kernel
theorem dX12_pointed_86 : decode cX12_pointed 86 = .ok (.getfield 45, 3) := by decide +kernel
theorem dX12_pointed_89 : decode cX12_pointed 89 = .ok (.iload_n 1, 1) := by decide +kernel
theorem dX12_pointed_90 : decode cX12_pointed 90 = .ok (.iaload, 1) := by decide +kernel
theorem dX12_pointed_91 : decode cX12_pointed 91 = .ok (.goto 9, 3) := by decide +kernel
theorem dX12_pointed_94 : decode cX12_pointed 94 = .ok (.aload_n 0, 1) := by decide +kernel
theorem dX12_pointed_95 : decode cX12_pointed 95 = .ok (.getfield 48, 3) := by decide +kernel
theorem dX12_pointed_98 : decode cX12_pointed 98 = .ok (.iload_n 1, 1) := by decide +kernel
theorem dX12_pointed_99 : decode cX12_pointed 99 = .ok (.iaload, 1) := by decide +kernel
theorem dX12_pointed_100 : decode cX12_pointed 100 = .ok (.ireturn, 1) := by decide +kernel
set_option maxRecDepth 100000 in
set_option maxHeartbeats 4000000 in
theorem m_X12_pointed (a1 : Int32) (a2 : Int32) (S S' : SS) (r : Int32) (h : f_X12_pointed a1 a2 S = some (r, S')) : MT yX12_pointed cX12_pointed 3 (some .int) 2 42 (fun ad => [.ref (ad 14), .int a1, .int a2]) S (some (.int r)) S' := by
  refine MT.of RX12 (fun ad => [(0, .ref (ad 14)), (1, .int a1), (2, .int a2)]) (by decide) rfl (fun _ => Nat.le_of_ble_eq_true rfl) (fun _ => rfl) ?_
  intro p l e R s m args below meth c dC dI cs ad A hR1 hR2 F H locs ls w hl
  have hx := F.1.1
  have hb := F.1.2.1
  rw [f_X12_pointed] at h
  refine lv_iload_n (pc := 0) hx hb dX12_pointed_0 rfl (lv_at hl 2 rfl) ?_
  refine lv_if_lt (pc := 1) (tgt := 9) hx hb dX12_pointed_1 (by decide) (fun q => ?_) (fun q => ?_)
  · have h := ite_t q h
    refine lv_iconst (pc := 9) (v := -1) hx hb dX12_pointed_9 (by decide) ?_
    exact s_iret F w h dX12_pointed_10
  · have h := ite_f q h
    refine lv_iload_n (pc := 4) hx hb dX12_pointed_4 rfl (lv_at hl 2 rfl) ?_
    refine lv_iconst (pc := 5) (v := 4) hx hb dX12_pointed_5 (by decide) ?_
    refine lv_icmp_le (pc := 6) (tgt := 11) hx hb dX12_pointed_6 (by decide) (fun q => ?_) (fun q => ?_)
    · have h := ite_t q h
      refine lv_aload_n (pc := 11) hx hb dX12_pointed_11 rfl (lv_at hl 0 rfl) ?_
      obtain ⟨S1, hc, h⟩ := bndv_t h
      refine s_cvv (pc := 12) [] (fun ad => [.ref (ad 14)]) F w (m_X12_begin  _ _ hc) rfl rfl hl.1 ds_14 vc_X12 rfl ok_X12_begin rfl kc_X12_begin kl_X12_226 ki_X12_begin kv_X12_begin kn_X12 ⟨Nat.le_trans (by decide) hR1, Nat.le_trans (by decide) hR2⟩ ⟨Nat.zero_le _, Nat.zero_le _⟩ (Nat.le_of_ble_eq_true rfl) dX12_pointed_12 (fun H locs w => ?_)
      refine lv_aload_n (pc := 15) hx hb dX12_pointed_15 rfl (lv_at hl 0 rfl) ?_
      refine lv_aload_n (pc := 16) hx hb dX12_pointed_16 rfl (lv_at hl 0 rfl) ?_
      refine lv_iload_n (pc := 17) hx hb dX12_pointed_17 rfl (lv_at hl 1 rfl) ?_
      obtain ⟨r3, S2, hc, h⟩ := bnd_t h
      refine s_cvi (pc := 18) [.int a1] (fun ad => [.ref (ad 14), .int a1]) F w (m_X12_missPoint _ _ _ _ hc) rfl rfl hl.1 ds_14 vc_X12 rfl ok_X12_missPoint rfl kc_X12_missPoint kl_X12_263 ki_X12_missPoint kv_X12_missPoint kn_X12 ⟨Nat.le_trans (by decide) hR1, Nat.le_trans (by decide) hR2⟩ ⟨Nat.zero_le _, Nat.zero_le _⟩ (Nat.le_of_ble_eq_true rfl) dX12_pointed_18 (fun H locs w => ?_)
      obtain ⟨r5, S4, hc, h⟩ := bnd_t h
      refine s_cvi (pc := 21) [.int r3] (fun ad => [.ref (ad 14), .int r3]) F w (m_X12_ends _ _ _ _ hc) rfl rfl hl.1 ds_14 vc_X12 rfl ok_X12_ends rfl kc_X12_ends kl_X12_236 ki_X12_ends kv_X12_ends kn_X12 ⟨Nat.le_trans (by decide) hR1, Nat.le_trans (by decide) hR2⟩ ⟨Nat.zero_le _, Nat.zero_le _⟩ (Nat.le_of_ble_eq_true rfl) dX12_pointed_21 (fun H locs w => ?_)
      refine lv_if_eq (pc := 24) (tgt := 30) hx hb dX12_pointed_24 (by decide) (fun q => ?_) (fun q => ?_)
      · have h := ite_t q h
        refine lv_iload_n (pc := 30) hx hb dX12_pointed_30 rfl (lv_at hl 2 rfl) ?_
        refine lv_if_ne (pc := 31) (tgt := 45) hx hb dX12_pointed_31 (by decide) (fun q => ?_) (fun q => ?_)
        · have h := ite_f q h
          refine lv_iload_n (pc := 45) hx hb dX12_pointed_45 rfl (lv_at hl 2 rfl) ?_
          refine lv_iconst (pc := 46) (v := 1) hx hb dX12_pointed_46 (by decide) ?_
          refine lv_icmp_ne (pc := 47) (tgt := 61) hx hb dX12_pointed_47 (by decide) (fun q => ?_) (fun q => ?_)
          · have h := ite_f q h
            refine lv_iload_n (pc := 61) hx hb dX12_pointed_61 rfl (lv_at hl 2 rfl) ?_
            refine lv_iconst (pc := 62) (v := 2) hx hb dX12_pointed_62 (by decide) ?_
            refine lv_icmp_ne (pc := 63) (tgt := 80) hx hb dX12_pointed_63 (by decide) (fun q => ?_) (fun q => ?_)
            · have h := ite_f q h
              refine lv_iload_n (pc := 80) hx hb dX12_pointed_80 rfl (lv_at hl 2 rfl) ?_
              refine lv_iconst (pc := 81) (v := 3) hx hb dX12_pointed_81 (by decide) ?_
              refine lv_icmp_ne (pc := 82) (tgt := 94) hx hb dX12_pointed_82 (by decide) (fun q => ?_) (fun q => ?_)
              · have h := ite_f q h
                refine lv_aload_n (pc := 94) hx hb dX12_pointed_94 rfl (lv_at hl 0 rfl) ?_
                refine s_getR (pc := 95) F w 78 ds_14 (j := 18) vc_X12 vi_X12 rfl (by decide) kf_X12_48 dX12_pointed_95 ?_
                refine lv_iload_n (pc := 98) hx hb dX12_pointed_98 rfl (lv_at hl 1 rfl) ?_
                refine s_iald (pc := 99) F w ds_78 h dX12_pointed_99 (fun h => ?_)
                exact s_iret F w h dX12_pointed_100
              · have h := ite_t q h
                refine lv_aload_n (pc := 85) hx hb dX12_pointed_85 rfl (lv_at hl 0 rfl) ?_
                refine s_getR (pc := 86) F w 77 ds_14 (j := 17) vc_X12 vi_X12 rfl (by decide) kf_X12_45 dX12_pointed_86 ?_
                refine lv_iload_n (pc := 89) hx hb dX12_pointed_89 rfl (lv_at hl 1 rfl) ?_
                refine s_iald (pc := 90) F w ds_77 h dX12_pointed_90 (fun h => ?_)
                refine lv_goto (pc := 91) (tgt := 100) hx hb dX12_pointed_91 (by decide) ?_
                exact s_iret F w h dX12_pointed_100
            · have h := ite_t q h
              refine lv_aload_n (pc := 66) hx hb dX12_pointed_66 rfl (lv_at hl 0 rfl) ?_
              refine s_getR (pc := 67) F w 73 ds_14 (j := 11) vc_X12 vi_X12 rfl (by decide) kf_X12_33 dX12_pointed_67 ?_
              refine lv_aload_n (pc := 70) hx hb dX12_pointed_70 rfl (lv_at hl 0 rfl) ?_
              refine s_getR (pc := 71) F w 76 ds_14 (j := 16) vc_X12 vi_X12 rfl (by decide) kf_X12_42 dX12_pointed_71 ?_
              refine lv_iload_n (pc := 74) hx hb dX12_pointed_74 rfl (lv_at hl 1 rfl) ?_
              refine s_iald (pc := 75) F w ds_76 h dX12_pointed_75 (fun h => ?_)
              refine s_iald (pc := 76) F w ds_73 h dX12_pointed_76 (fun h => ?_)
              refine lv_goto (pc := 77) (tgt := 100) hx hb dX12_pointed_77 (by decide) ?_
              exact s_iret F w h dX12_pointed_100
          · have h := ite_t q h
            refine lv_aload_n (pc := 50) hx hb dX12_pointed_50 rfl (lv_at hl 0 rfl) ?_
            refine s_getR (pc := 51) F w 76 ds_14 (j := 16) vc_X12 vi_X12 rfl (by decide) kf_X12_42 dX12_pointed_51 ?_
            refine lv_iload_n (pc := 54) hx hb dX12_pointed_54 rfl (lv_at hl 1 rfl) ?_
            refine s_iald (pc := 55) F w ds_76 h dX12_pointed_55 (fun h => ?_)
            refine lv_iconst (pc := 56) (v := 2) hx hb dX12_pointed_56 (by decide) ?_
            refine lv_irem (pc := 57) hx hb dX12_pointed_57 (by decide) ?_
            refine lv_goto (pc := 58) (tgt := 100) hx hb dX12_pointed_58 (by decide) ?_
            exact s_iret F w h dX12_pointed_100
        · have h := ite_t q h
          refine lv_aload_n (pc := 34) hx hb dX12_pointed_34 rfl (lv_at hl 0 rfl) ?_
          refine s_getR (pc := 35) F w 76 ds_14 (j := 16) vc_X12 vi_X12 rfl (by decide) kf_X12_42 dX12_pointed_35 ?_
          refine lv_iload_n (pc := 38) hx hb dX12_pointed_38 rfl (lv_at hl 1 rfl) ?_
          refine s_iald (pc := 39) F w ds_76 h dX12_pointed_39 (fun h => ?_)
          refine lv_iconst (pc := 40) (v := 2) hx hb dX12_pointed_40 (by decide) ?_
          refine lv_idiv (pc := 41) hx hb dX12_pointed_41 (by decide) ?_
          refine lv_goto (pc := 42) (tgt := 100) hx hb dX12_pointed_42 (by decide) ?_
          exact s_iret F w h dX12_pointed_100
      · have h := ite_f q h
        refine lv_bipush (pc := 27) (v := -2) hx hb dX12_pointed_27 (by decide) ?_
        exact s_iret F w h dX12_pointed_29
    · have h := ite_f q h
      refine lv_iconst (pc := 9) (v := -1) hx hb dX12_pointed_9 (by decide) ?_
      exact s_iret F w h dX12_pointed_10
def f_X11_wantedFor (a0 : Int32) (S : SS) : Option (Int32 × SS) :=
  if a0 = (4 : Int32) then
    some ((96 : Int32), S)
  else
  if a0 = (5 : Int32) then
    some ((31 : Int32), S)
  else
  if a0 = (6 : Int32) then
    some ((15 : Int32), S)
  else
  if a0 = (7 : Int32) then
    some ((4 : Int32), S)
  else
  some ((127 : Int32), S)
theorem dX11_wantedFor_0 : decode cX11_wantedFor 0 = .ok (.iload_n 0, 1) := by decide +kernel
theorem dX11_wantedFor_1 : decode cX11_wantedFor 1 = .ok (.tableswitch 42 4 7 #[31, 34, 37, 40], 31) := by decide +kernel
theorem dX11_wantedFor_32 : decode cX11_wantedFor 32 = .ok (.bipush 96, 2) := by decide +kernel
theorem dX11_wantedFor_34 : decode cX11_wantedFor 34 = .ok (.ireturn, 1) := by decide +kernel
theorem dX11_wantedFor_35 : decode cX11_wantedFor 35 = .ok (.bipush 31, 2) := by decide +kernel
theorem dX11_wantedFor_37 : decode cX11_wantedFor 37 = .ok (.ireturn, 1) := by decide +kernel
theorem dX11_wantedFor_38 : decode cX11_wantedFor 38 = .ok (.bipush 15, 2) := by decide +kernel
theorem dX11_wantedFor_40 : decode cX11_wantedFor 40 = .ok (.ireturn, 1) := by decide +kernel
theorem dX11_wantedFor_41 : decode cX11_wantedFor 41 = .ok (.iconst 4, 1) := by decide +kernel
theorem dX11_wantedFor_42 : decode cX11_wantedFor 42 = .ok (.ireturn, 1) := by decide +kernel
theorem dX11_wantedFor_43 : decode cX11_wantedFor 43 = .ok (.bipush 127, 2) := by decide +kernel
theorem dX11_wantedFor_45 : decode cX11_wantedFor 45 = .ok (.ireturn, 1) := by decide +kernel
set_option maxRecDepth 100000 in
set_option maxHeartbeats 4000000 in
theorem m_X11_wantedFor (a0 : Int32) (S S' : SS) (r : Int32) (h : f_X11_wantedFor a0 S = some (r, S')) : MT yX11_wantedFor cX11_wantedFor 1 (some .int) 0 0 (fun ad => [.int a0]) S (some (.int r)) S' := by
  refine MT.of RX11 (fun ad => [(0, .int a0)]) (by decide) rfl (fun _ => Nat.le_of_ble_eq_true rfl) (fun _ => rfl) ?_
  intro p l e R s m args below meth c dC dI cs ad A hR1 hR2 F H locs ls w hl
  have hx := F.1.1
  have hb := F.1.2.1
  rw [f_X11_wantedFor] at h
  refine lv_iload_n (pc := 0) hx hb dX11_wantedFor_0 rfl (lv_at hl 0 rfl) ?_
  rcases Decidable.em (a0 = (4 : Int32)) with q4 | q4
  · refine lv_tableIn (pc := 1) (tgt := 32) (off := 31) hx hb dX11_wantedFor_1 (by rw [q4]; decide) (by rw [q4]; decide) (by rw [q4]; rfl) (by decide) ?_
    have h := ite_t q4 h
    refine lv_bipush (pc := 32) (v := 96) hx hb dX11_wantedFor_32 (by decide) ?_
    exact s_iret F w h dX11_wantedFor_34
  have h := ite_f q4 h
  rcases Decidable.em (a0 = (5 : Int32)) with q5 | q5
  · refine lv_tableIn (pc := 1) (tgt := 35) (off := 34) hx hb dX11_wantedFor_1 (by rw [q5]; decide) (by rw [q5]; decide) (by rw [q5]; rfl) (by decide) ?_
    have h := ite_t q5 h
    refine lv_bipush (pc := 35) (v := 31) hx hb dX11_wantedFor_35 (by decide) ?_
    exact s_iret F w h dX11_wantedFor_37
  have h := ite_f q5 h
  rcases Decidable.em (a0 = (6 : Int32)) with q6 | q6
  · refine lv_tableIn (pc := 1) (tgt := 38) (off := 37) hx hb dX11_wantedFor_1 (by rw [q6]; decide) (by rw [q6]; decide) (by rw [q6]; rfl) (by decide) ?_
    have h := ite_t q6 h
    refine lv_bipush (pc := 38) (v := 15) hx hb dX11_wantedFor_38 (by decide) ?_
    exact s_iret F w h dX11_wantedFor_40
  have h := ite_f q6 h
  rcases Decidable.em (a0 = (7 : Int32)) with q7 | q7
  · refine lv_tableIn (pc := 1) (tgt := 41) (off := 40) hx hb dX11_wantedFor_1 (by rw [q7]; decide) (by rw [q7]; decide) (by rw [q7]; rfl) (by decide) ?_
    have h := ite_t q7 h
    refine lv_iconst (pc := 41) (v := 4) hx hb dX11_wantedFor_41 (by decide) ?_
    exact s_iret F w h dX11_wantedFor_42
  have h := ite_f q7 h
  refine lv_tableOut (pc := 1) (tgt := 43) hx hb dX11_wantedFor_1 (by have zq4 := i32ne q4 (show ((4 : Int32)).toInt = 4 by decide); have zq5 := i32ne q5 (show ((5 : Int32)).toInt = 5 by decide); have zq6 := i32ne q6 (show ((6 : Int32)).toInt = 6 by decide); have zq7 := i32ne q7 (show ((7 : Int32)).toInt = 7 by decide); omega) (by decide) ?_
  refine lv_bipush (pc := 43) (v := 127) hx hb dX11_wantedFor_43 (by decide) ?_
  exact s_iret F w h dX11_wantedFor_45
def f_X11_orZero (a1 : Int32) (S : SS) : Option (Int32 × SS) :=
  if a1 = (-4 : Int32) then
    bnd (f_X5_found (6 : Int32) S) (fun r2 S1 =>
    some (r2, S1))
  else
    some (a1, S)
theorem dX11_orZero_0 : decode cX11_orZero 0 = .ok (.iload_n 1, 1) := by decide +kernel
theorem dX11_orZero_1 : decode cX11_orZero 1 = .ok (.bipush (-4), 2) := by decide +kernel
theorem dX11_orZero_3 : decode cX11_orZero 3 = .ok (.if_icmp .ne 15, 3) := by decide +kernel
theorem dX11_orZero_6 : decode cX11_orZero 6 = .ok (.aload_n 0, 1) := by decide +kernel
theorem dX11_orZero_7 : decode cX11_orZero 7 = .ok (.getfield 10, 3) := by decide +kernel
theorem dX11_orZero_10 : decode cX11_orZero 10 = .ok (.bipush 6, 2) := by decide +kernel
theorem dX11_orZero_12 : decode cX11_orZero 12 = .ok (.invokevirtual 98, 3) := by decide +kernel
theorem dX11_orZero_15 : decode cX11_orZero 15 = .ok (.goto 4, 3) := by decide +kernel
theorem dX11_orZero_18 : decode cX11_orZero 18 = .ok (.iload_n 1, 1) := by decide +kernel
theorem dX11_orZero_19 : decode cX11_orZero 19 = .ok (.ireturn, 1) := by decide +kernel
set_option maxRecDepth 100000 in
set_option maxHeartbeats 4000000 in
theorem m_X11_orZero (a1 : Int32) (S S' : SS) (r : Int32) (h : f_X11_orZero a1 S = some (r, S')) : MT yX11_orZero cX11_orZero 2 (some .int) 1 21 (fun ad => [.ref (ad 0), .int a1]) S (some (.int r)) S' := by
  refine MT.of RX11 (fun ad => [(0, .ref (ad 0)), (1, .int a1)]) (by decide) rfl (fun _ => Nat.le_of_ble_eq_true rfl) (fun _ => rfl) ?_
  intro p l e R s m args below meth c dC dI cs ad A hR1 hR2 F H locs ls w hl
  have hx := F.1.1
  have hb := F.1.2.1
  rw [f_X11_orZero] at h
  refine lv_iload_n (pc := 0) hx hb dX11_orZero_0 rfl (lv_at hl 1 rfl) ?_
  refine lv_bipush (pc := 1) (v := -4) hx hb dX11_orZero_1 (by decide) ?_
  refine lv_icmp_ne (pc := 3) (tgt := 18) hx hb dX11_orZero_3 (by decide) (fun q => ?_) (fun q => ?_)
  · have h := ite_f q h
    refine lv_iload_n (pc := 18) hx hb dX11_orZero_18 rfl (lv_at hl 1 rfl) ?_
    exact s_iret F w h dX11_orZero_19
  · have h := ite_t q h
    refine lv_aload_n (pc := 6) hx hb dX11_orZero_6 rfl (lv_at hl 0 rfl) ?_
    refine s_getR (pc := 7) F w 1 ds_0 (j := 0) vc_X11 vi_X11 rfl (by decide) kf_X11_10 dX11_orZero_7 ?_
    refine lv_bipush (pc := 10) (v := 6) hx hb dX11_orZero_10 (by decide) ?_
    obtain ⟨r2, S1, hc, h⟩ := bnd_t h
    refine s_cvi (pc := 12) [.int (6 : Int32)] (fun ad => [.ref (ad 1), .int (6 : Int32)]) F w (m_X5_found _ _ _ _ hc) rfl rfl hl.1 ds_1 vc_X5 rfl ok_X5_found rfl kc_X5_found kl_X11_98 ki_X5_found kv_X5_found kn_X5 ⟨Nat.le_trans (by decide) hR1, Nat.le_trans (by decide) hR2⟩ ⟨Nat.zero_le _, Nat.zero_le _⟩ (Nat.le_of_ble_eq_true rfl) dX11_orZero_12 (fun H locs w => ?_)
    refine lv_goto (pc := 15) (tgt := 19) hx hb dX11_orZero_15 (by decide) ?_
    exact s_iret F w h dX11_orZero_19
def f_X11_ask_j55  (x1 : Int32) (x2 : Int32) (x3 : Int32) (S : SS) : Option (Int32 × SS) :=
    if x3 = 0 then
      if x2 = (0 : Int32) then
        bnd (f_X0_weight x1 S) (fun r9 S8 =>
        some (r9, S8))
      else
      if x2 = (1 : Int32) then
        bnd (f_X0_brake x1 S) (fun r11 S10 =>
        some (r11, S10))
      else
      if x2 = (2 : Int32) then
        bnd (f_X0_heavy x1 S) (fun r13 S12 =>
        some (r13, S12))
      else
      if x2 = (3 : Int32) then
        bnd (f_X0_perAxle x1 S) (fun r15 S14 =>
        bnd (f_X11_orZero r15 S14) (fun r17 S16 =>
        some (r17, S16)))
      else
      if x2 = (4 : Int32) then
        bnd (f_X0_pulls x1 S) (fun r19 S18 =>
        some (r19, S18))
      else
      if x2 = (5 : Int32) then
        bnd (f_X8_get x1 (7 : Int32) S) (fun r21 S20 =>
        some (r21, S20))
      else
      if x2 = (6 : Int32) then
        bnd (f_X9_get x1 (4 : Int32) S) (fun r23 S22 =>
        some (r23, S22))
      else
      bnd (f_X9_get x1 (1 : Int32) S) (fun r25 S24 =>
      some (r25, S24))
    else
      bnd (f_X5_found x3 S) (fun r27 S26 =>
      some (r27, S26))
def f_X11_ask (a1 : Int32) (a2 : Int32) (S : SS) : Option (Int32 × SS) :=
  bnd (f_X11_isNot a2 (0 : Int32) (7 : Int32) S) (fun r2 S1 =>
  if r2 = 0 then
    bndv (f_X5_begin  S1) (fun S3 =>
    bnd (f_X11_wantedFor a2 S3) (fun r5 S4 =>
    bnd (f_X11_named a1 r5 S4) (fun r7 S6 =>
    if r7 = 0 then
      if a2 = (6 : Int32) then
        bnd (f_X9_get a1 (3 : Int32) S6) (fun r29 S28 =>
        if r29 = (-4 : Int32) then
          f_X11_ask_j55 a1 a2 (1 : Int32) S28
        else
          f_X11_ask_j55 a1 a2 r7 S28)
      else
        f_X11_ask_j55 a1 a2 r7 S6
    else
      f_X11_ask_j55 a1 a2 r7 S6)))
  else
    some ((-1 : Int32), S1))
theorem dX11_ask_0 : decode cX11_ask 0 = .ok (.iload_n 2, 1) := by decide +kernel
theorem dX11_ask_1 : decode cX11_ask 1 = .ok (.iconst 0, 1) := by decide +kernel
theorem dX11_ask_2 : decode cX11_ask 2 = .ok (.bipush 7, 2) := by decide +kernel
theorem dX11_ask_4 : decode cX11_ask 4 = .ok (.invokestatic 108, 3) := by decide +kernel
theorem dX11_ask_7 : decode cX11_ask 7 = .ok (.ifCond .eq 5, 3) := by decide +kernel
theorem dX11_ask_10 : decode cX11_ask 10 = .ok (.iconst (-1), 1) := by decide +kernel
theorem dX11_ask_11 : decode cX11_ask 11 = .ok (.ireturn, 1) := by decide +kernel
theorem dX11_ask_12 : decode cX11_ask 12 = .ok (.aload_n 0, 1) := by decide +kernel
theorem dX11_ask_13 : decode cX11_ask 13 = .ok (.getfield 10, 3) := by decide +kernel
theorem dX11_ask_16 : decode cX11_ask 16 = .ok (.invokevirtual 95, 3) := by decide +kernel
theorem dX11_ask_19 : decode cX11_ask 19 = .ok (.aload_n 0, 1) := by decide +kernel
theorem dX11_ask_20 : decode cX11_ask 20 = .ok (.iload_n 1, 1) := by decide +kernel
theorem dX11_ask_21 : decode cX11_ask 21 = .ok (.iload_n 2, 1) := by decide +kernel
theorem dX11_ask_22 : decode cX11_ask 22 = .ok (.invokestatic 354, 3) := by decide +kernel
theorem dX11_ask_25 : decode cX11_ask 25 = .ok (.invokevirtual 185, 3) := by decide +kernel
theorem dX11_ask_28 : decode cX11_ask 28 = .ok (.istore_n 3, 1) := by decide +kernel
theorem dX11_ask_29 : decode cX11_ask 29 = .ok (.iload_n 3, 1) := by decide +kernel
theorem dX11_ask_30 : decode cX11_ask 30 = .ok (.ifCond .ne 25, 3) := by decide +kernel
theorem dX11_ask_33 : decode cX11_ask 33 = .ok (.iload_n 2, 1) := by decide +kernel
theorem dX11_ask_34 : decode cX11_ask 34 = .ok (.bipush 6, 2) := by decide +kernel
theorem dX11_ask_36 : decode cX11_ask 36 = .ok (.if_icmp .ne 19, 3) := by decide +kernel
theorem dX11_ask_39 : decode cX11_ask 39 = .ok (.aload_n 0, 1) := by decide +kernel
theorem dX11_ask_40 : decode cX11_ask 40 = .ok (.getfield 33, 3) := by decide +kernel
theorem dX11_ask_43 : decode cX11_ask 43 = .ok (.iload_n 1, 1) := by decide +kernel
theorem dX11_ask_44 : decode cX11_ask 44 = .ok (.iconst 3, 1) := by decide +kernel
theorem dX11_ask_45 : decode cX11_ask 45 = .ok (.invokevirtual 335, 3) := by decide +kernel
theorem dX11_ask_48 : decode cX11_ask 48 = .ok (.bipush (-4), 2) := by decide +kernel
theorem dX11_ask_50 : decode cX11_ask 50 = .ok (.if_icmp .ne 5, 3) := by decide +kernel
theorem dX11_ask_53 : decode cX11_ask 53 = .ok (.iconst 1, 1) := by decide +kernel
theorem dX11_ask_54 : decode cX11_ask 54 = .ok (.istore_n 3, 1) := by decide +kernel
theorem dX11_ask_55 : decode cX11_ask 55 = .ok (.iload_n 3, 1) := by decide +kernel
theorem dX11_ask_56 : decode cX11_ask 56 = .ok (.ifCond .eq 12, 3) := by decide +kernel
theorem dX11_ask_59 : decode cX11_ask 59 = .ok (.aload_n 0, 1) := by decide +kernel
theorem dX11_ask_60 : decode cX11_ask 60 = .ok (.getfield 10, 3) := by decide +kernel
theorem dX11_ask_63 : decode cX11_ask 63 = .ok (.iload_n 3, 1) := by decide +kernel
theorem dX11_ask_64 : decode cX11_ask 64 = .ok (.invokevirtual 98, 3) := by decide +kernel
theorem dX11_ask_67 : decode cX11_ask 67 = .ok (.ireturn, 1) := by decide +kernel
theorem dX11_ask_68 : decode cX11_ask 68 = .ok (.iload_n 2, 1) := by decide +kernel
theorem dX11_ask_69 : decode cX11_ask 69 = .ok (.tableswitch 113 0 6 #[43, 52, 61, 70, 83, 92, 103], 43) := by decide +kernel
theorem dX11_ask_112 : decode cX11_ask 112 = .ok (.aload_n 0, 1) := by decide +kernel
theorem dX11_ask_113 : decode cX11_ask 113 = .ok (.getfield 67, 3) := by decide +kernel
theorem dX11_ask_116 : decode cX11_ask 116 = .ok (.iload_n 1, 1) := by decide +kernel
theorem dX11_ask_117 : decode cX11_ask 117 = .ok (.invokevirtual 302, 3) := by decide +kernel
theorem dX11_ask_120 : decode cX11_ask 120 = .ok (.ireturn, 1) := by decide +kernel
theorem dX11_ask_121 : decode cX11_ask 121 = .ok (.aload_n 0, 1) := by decide +kernel
theorem dX11_ask_122 : decode cX11_ask 122 = .ok (.getfield 67, 3) := by decide +kernel
theorem dX11_ask_125 : decode cX11_ask 125 = .ok (.iload_n 1, 1) := by decide +kernel
theorem dX11_ask_126 : decode cX11_ask 126 = .ok (.invokevirtual 323, 3) := by decide +kernel
theorem dX11_ask_129 : decode cX11_ask 129 = .ok (.ireturn, 1) := by decide +kernel
theorem dX11_ask_130 : decode cX11_ask 130 = .ok (.aload_n 0, 1) := by decide +kernel
theorem dX11_ask_131 : decode cX11_ask 131 = .ok (.getfield 67, 3) := by decide +kernel
theorem dX11_ask_134 : decode cX11_ask 134 = .ok (.iload_n 1, 1) := by decide +kernel
theorem dX11_ask_135 : decode cX11_ask 135 = .ok (.invokevirtual 312, 3) := by decide +kernel
theorem dX11_ask_138 : decode cX11_ask 138 = .ok (.ireturn, 1) := by decide +kernel
theorem dX11_ask_139 : decode cX11_ask 139 = .ok (.aload_n 0, 1) := by decide +kernel
theorem dX11_ask_140 : decode cX11_ask 140 = .ok (.aload_n 0, 1) := by decide +kernel
theorem dX11_ask_141 : decode cX11_ask 141 = .ok (.getfield 67, 3) := by decide +kernel
theorem dX11_ask_144 : decode cX11_ask 144 = .ok (.iload_n 1, 1) := by decide +kernel
theorem dX11_ask_145 : decode cX11_ask 145 = .ok (.invokevirtual 326, 3) := by decide +kernel
theorem dX11_ask_148 : decode cX11_ask 148 = .ok (.invokevirtual 357, 3) := by decide +kernel
theorem dX11_ask_151 : decode cX11_ask 151 = .ok (.ireturn, 1) := by decide +kernel
theorem dX11_ask_152 : decode cX11_ask 152 = .ok (.aload_n 0, 1) := by decide +kernel
theorem dX11_ask_153 : decode cX11_ask 153 = .ok (.getfield 67, 3) := by decide +kernel
theorem dX11_ask_156 : decode cX11_ask 156 = .ok (.iload_n 1, 1) := by decide +kernel
theorem dX11_ask_157 : decode cX11_ask 157 = .ok (.invokevirtual 305, 3) := by decide +kernel
theorem dX11_ask_160 : decode cX11_ask 160 = .ok (.ireturn, 1) := by decide +kernel
theorem dX11_ask_161 : decode cX11_ask 161 = .ok (.aload_n 0, 1) := by decide +kernel
theorem dX11_ask_162 : decode cX11_ask 162 = .ok (.getfield 19, 3) := by decide +kernel
theorem dX11_ask_165 : decode cX11_ask 165 = .ok (.iload_n 1, 1) := by decide +kernel
theorem dX11_ask_166 : decode cX11_ask 166 = .ok (.bipush 7, 2) := by decide +kernel
theorem dX11_ask_168 : decode cX11_ask 168 = .ok (.invokevirtual 253, 3) := by decide +kernel
theorem dX11_ask_171 : decode cX11_ask 171 = .ok (.ireturn, 1) := by decide +kernel
theorem dX11_ask_172 : decode cX11_ask 172 = .ok (.aload_n 0, 1) := by decide +kernel
theorem dX11_ask_173 : decode cX11_ask 173 = .ok (.getfield 33, 3) := by decide +kernel
theorem dX11_ask_176 : decode cX11_ask 176 = .ok (.iload_n 1, 1) := by decide +kernel
theorem dX11_ask_177 : decode cX11_ask 177 = .ok (.iconst 4, 1) := by decide +kernel
theorem dX11_ask_178 : decode cX11_ask 178 = .ok (.invokevirtual 335, 3) := by decide +kernel
theorem dX11_ask_181 : decode cX11_ask 181 = .ok (.ireturn, 1) := by decide +kernel
theorem dX11_ask_182 : decode cX11_ask 182 = .ok (.aload_n 0, 1) := by decide +kernel
theorem dX11_ask_183 : decode cX11_ask 183 = .ok (.getfield 33, 3) := by decide +kernel
theorem dX11_ask_186 : decode cX11_ask 186 = .ok (.iload_n 1, 1) := by decide +kernel
theorem dX11_ask_187 : decode cX11_ask 187 = .ok (.iconst 1, 1) := by decide +kernel
theorem dX11_ask_188 : decode cX11_ask 188 = .ok (.invokevirtual 335, 3) := by decide +kernel
theorem dX11_ask_191 : decode cX11_ask 191 = .ok (.ireturn, 1) := by decide +kernel
set_option maxRecDepth 100000 in
set_option maxHeartbeats 4000000 in
theorem w_X11_ask_j55 {p : Program} {l : Launch} {e : Env} {R : Room} {s : State} {m : MethodId} {args : Array Value} {below : List Frame} {meth : Method} {c : Code} {dC : Nat → ClassId} {dI : Nat → Nat → Nat} {cs : Nat → ClassId} {ad : Nat → Nat} {A : Nat → Prop} {D0 : Nat → Nat} {S' : SS} {r : Int32} (F : Fx p s m args meth c cX11_ask 4 RX11 (some .int) dC dI cs A) (hR1 : 5 ≤ R.frames) (hR2 : 108 ≤ R.locals) (x1 : Int32) (x2 : Int32) (x3 : Int32) (S : SS) (h : f_X11_ask_j55 x1 x2 x3 S = some (r, S')) : AW p l e R s m args below meth c dC dI cs ad A D0 (some (.int r)) S' 4 55 [(0, .ref (ad 0)), (1, .int x1), (2, .int x2), (3, .int x3)] [] S := by
  have hx := F.1.1
  have hb := F.1.2.1
  intro H locs ls w hl
  rw [f_X11_ask_j55] at h
  refine lv_iload_n (pc := 55) hx hb dX11_ask_55 rfl (lv_at hl 3 rfl) ?_
  refine lv_if_eq (pc := 56) (tgt := 68) hx hb dX11_ask_56 (by decide) (fun q => ?_) (fun q => ?_)
  · have h := ite_t q h
    refine lv_iload_n (pc := 68) hx hb dX11_ask_68 rfl (lv_at hl 2 rfl) ?_
    rcases Decidable.em (x2 = (0 : Int32)) with q0 | q0
    · refine lv_tableIn (pc := 69) (tgt := 112) (off := 43) hx hb dX11_ask_69 (by rw [q0]; decide) (by rw [q0]; decide) (by rw [q0]; rfl) (by decide) ?_
      have h := ite_t q0 h
      refine lv_aload_n (pc := 112) hx hb dX11_ask_112 rfl (lv_at hl 0 rfl) ?_
      refine s_getR (pc := 113) F w 8 ds_0 (j := 7) vc_X11 vi_X11 rfl (by decide) kf_X11_67 dX11_ask_113 ?_
      refine lv_iload_n (pc := 116) hx hb dX11_ask_116 rfl (lv_at hl 1 rfl) ?_
      obtain ⟨r9, S8, hc, h⟩ := bnd_t h
      refine s_cvi (pc := 117) [.int x1] (fun ad => [.ref (ad 8), .int x1]) F w (m_X0_weight _ _ _ _ hc) rfl rfl hl.1 ds_8 vc_X0 rfl ok_X0_weight rfl kc_X0_weight kl_X11_302 ki_X0_weight kv_X0_weight kn_X0 ⟨Nat.le_trans (by decide) hR1, Nat.le_trans (by decide) hR2⟩ ⟨Nat.zero_le _, Nat.zero_le _⟩ (Nat.le_of_ble_eq_true rfl) dX11_ask_117 (fun H locs w => ?_)
      exact s_iret F w h dX11_ask_120
    have h := ite_f q0 h
    rcases Decidable.em (x2 = (1 : Int32)) with q1 | q1
    · refine lv_tableIn (pc := 69) (tgt := 121) (off := 52) hx hb dX11_ask_69 (by rw [q1]; decide) (by rw [q1]; decide) (by rw [q1]; rfl) (by decide) ?_
      have h := ite_t q1 h
      refine lv_aload_n (pc := 121) hx hb dX11_ask_121 rfl (lv_at hl 0 rfl) ?_
      refine s_getR (pc := 122) F w 8 ds_0 (j := 7) vc_X11 vi_X11 rfl (by decide) kf_X11_67 dX11_ask_122 ?_
      refine lv_iload_n (pc := 125) hx hb dX11_ask_125 rfl (lv_at hl 1 rfl) ?_
      obtain ⟨r11, S10, hc, h⟩ := bnd_t h
      refine s_cvi (pc := 126) [.int x1] (fun ad => [.ref (ad 8), .int x1]) F w (m_X0_brake _ _ _ _ hc) rfl rfl hl.1 ds_8 vc_X0 rfl ok_X0_brake rfl kc_X0_brake kl_X11_323 ki_X0_brake kv_X0_brake kn_X0 ⟨Nat.le_trans (by decide) hR1, Nat.le_trans (by decide) hR2⟩ ⟨Nat.zero_le _, Nat.zero_le _⟩ (Nat.le_of_ble_eq_true rfl) dX11_ask_126 (fun H locs w => ?_)
      exact s_iret F w h dX11_ask_129
    have h := ite_f q1 h
    rcases Decidable.em (x2 = (2 : Int32)) with q2 | q2
    · refine lv_tableIn (pc := 69) (tgt := 130) (off := 61) hx hb dX11_ask_69 (by rw [q2]; decide) (by rw [q2]; decide) (by rw [q2]; rfl) (by decide) ?_
      have h := ite_t q2 h
      refine lv_aload_n (pc := 130) hx hb dX11_ask_130 rfl (lv_at hl 0 rfl) ?_
      refine s_getR (pc := 131) F w 8 ds_0 (j := 7) vc_X11 vi_X11 rfl (by decide) kf_X11_67 dX11_ask_131 ?_
      refine lv_iload_n (pc := 134) hx hb dX11_ask_134 rfl (lv_at hl 1 rfl) ?_
      obtain ⟨r13, S12, hc, h⟩ := bnd_t h
      refine s_cvi (pc := 135) [.int x1] (fun ad => [.ref (ad 8), .int x1]) F w (m_X0_heavy _ _ _ _ hc) rfl rfl hl.1 ds_8 vc_X0 rfl ok_X0_heavy rfl kc_X0_heavy kl_X11_312 ki_X0_heavy kv_X0_heavy kn_X0 ⟨Nat.le_trans (by decide) hR1, Nat.le_trans (by decide) hR2⟩ ⟨Nat.zero_le _, Nat.zero_le _⟩ (Nat.le_of_ble_eq_true rfl) dX11_ask_135 (fun H locs w => ?_)
      exact s_iret F w h dX11_ask_138
    have h := ite_f q2 h
    rcases Decidable.em (x2 = (3 : Int32)) with q3 | q3
    · refine lv_tableIn (pc := 69) (tgt := 139) (off := 70) hx hb dX11_ask_69 (by rw [q3]; decide) (by rw [q3]; decide) (by rw [q3]; rfl) (by decide) ?_
      have h := ite_t q3 h
      refine lv_aload_n (pc := 139) hx hb dX11_ask_139 rfl (lv_at hl 0 rfl) ?_
      refine lv_aload_n (pc := 140) hx hb dX11_ask_140 rfl (lv_at hl 0 rfl) ?_
      refine s_getR (pc := 141) F w 8 ds_0 (j := 7) vc_X11 vi_X11 rfl (by decide) kf_X11_67 dX11_ask_141 ?_
      refine lv_iload_n (pc := 144) hx hb dX11_ask_144 rfl (lv_at hl 1 rfl) ?_
      obtain ⟨r15, S14, hc, h⟩ := bnd_t h
      refine s_cvi (pc := 145) [.int x1] (fun ad => [.ref (ad 8), .int x1]) F w (m_X0_perAxle _ _ _ _ hc) rfl rfl hl.1 ds_8 vc_X0 rfl ok_X0_perAxle rfl kc_X0_perAxle kl_X11_326 ki_X0_perAxle kv_X0_perAxle kn_X0 ⟨Nat.le_trans (by decide) hR1, Nat.le_trans (by decide) hR2⟩ ⟨Nat.zero_le _, Nat.zero_le _⟩ (Nat.le_of_ble_eq_true rfl) dX11_ask_145 (fun H locs w => ?_)
      obtain ⟨r17, S16, hc, h⟩ := bnd_t h
      refine s_cvi (pc := 148) [.int r15] (fun ad => [.ref (ad 0), .int r15]) F w (m_X11_orZero _ _ _ _ hc) rfl rfl hl.1 ds_0 vc_X11 rfl ok_X11_orZero rfl kc_X11_orZero kl_X11_357 ki_X11_orZero kv_X11_orZero kn_X11 ⟨Nat.le_trans (by decide) hR1, Nat.le_trans (by decide) hR2⟩ ⟨Nat.zero_le _, Nat.zero_le _⟩ (Nat.le_of_ble_eq_true rfl) dX11_ask_148 (fun H locs w => ?_)
      exact s_iret F w h dX11_ask_151
    have h := ite_f q3 h
    rcases Decidable.em (x2 = (4 : Int32)) with q4 | q4
    · refine lv_tableIn (pc := 69) (tgt := 152) (off := 83) hx hb dX11_ask_69 (by rw [q4]; decide) (by rw [q4]; decide) (by rw [q4]; rfl) (by decide) ?_
      have h := ite_t q4 h
      refine lv_aload_n (pc := 152) hx hb dX11_ask_152 rfl (lv_at hl 0 rfl) ?_
      refine s_getR (pc := 153) F w 8 ds_0 (j := 7) vc_X11 vi_X11 rfl (by decide) kf_X11_67 dX11_ask_153 ?_
      refine lv_iload_n (pc := 156) hx hb dX11_ask_156 rfl (lv_at hl 1 rfl) ?_
      obtain ⟨r19, S18, hc, h⟩ := bnd_t h
      refine s_cvi (pc := 157) [.int x1] (fun ad => [.ref (ad 8), .int x1]) F w (m_X0_pulls _ _ _ _ hc) rfl rfl hl.1 ds_8 vc_X0 rfl ok_X0_pulls rfl kc_X0_pulls kl_X11_305 ki_X0_pulls kv_X0_pulls kn_X0 ⟨Nat.le_trans (by decide) hR1, Nat.le_trans (by decide) hR2⟩ ⟨Nat.zero_le _, Nat.zero_le _⟩ (Nat.le_of_ble_eq_true rfl) dX11_ask_157 (fun H locs w => ?_)
      exact s_iret F w h dX11_ask_160
    have h := ite_f q4 h
    rcases Decidable.em (x2 = (5 : Int32)) with q5 | q5
    · refine lv_tableIn (pc := 69) (tgt := 161) (off := 92) hx hb dX11_ask_69 (by rw [q5]; decide) (by rw [q5]; decide) (by rw [q5]; rfl) (by decide) ?_
      have h := ite_t q5 h
      refine lv_aload_n (pc := 161) hx hb dX11_ask_161 rfl (lv_at hl 0 rfl) ?_
      refine s_getR (pc := 162) F w 2 ds_0 (j := 1) vc_X11 vi_X11 rfl (by decide) kf_X11_19 dX11_ask_162 ?_
      refine lv_iload_n (pc := 165) hx hb dX11_ask_165 rfl (lv_at hl 1 rfl) ?_
      refine lv_bipush (pc := 166) (v := 7) hx hb dX11_ask_166 (by decide) ?_
      obtain ⟨r21, S20, hc, h⟩ := bnd_t h
      refine s_cvi (pc := 168) [.int x1, .int (7 : Int32)] (fun ad => [.ref (ad 2), .int x1, .int (7 : Int32)]) F w (m_X8_get _ _ _ _ _ hc) rfl rfl hl.1 ds_2 vc_X8 rfl ok_X8_get rfl kc_X8_get kl_X11_253 ki_X8_get kv_X8_get kn_X8 ⟨Nat.le_trans (by decide) hR1, Nat.le_trans (by decide) hR2⟩ ⟨Nat.zero_le _, Nat.zero_le _⟩ (Nat.le_of_ble_eq_true rfl) dX11_ask_168 (fun H locs w => ?_)
      exact s_iret F w h dX11_ask_171
    have h := ite_f q5 h
    rcases Decidable.em (x2 = (6 : Int32)) with q6 | q6
    · refine lv_tableIn (pc := 69) (tgt := 172) (off := 103) hx hb dX11_ask_69 (by rw [q6]; decide) (by rw [q6]; decide) (by rw [q6]; rfl) (by decide) ?_
      have h := ite_t q6 h
      refine lv_aload_n (pc := 172) hx hb dX11_ask_172 rfl (lv_at hl 0 rfl) ?_
      refine s_getR (pc := 173) F w 4 ds_0 (j := 3) vc_X11 vi_X11 rfl (by decide) kf_X11_33 dX11_ask_173 ?_
      refine lv_iload_n (pc := 176) hx hb dX11_ask_176 rfl (lv_at hl 1 rfl) ?_
      refine lv_iconst (pc := 177) (v := 4) hx hb dX11_ask_177 (by decide) ?_
      obtain ⟨r23, S22, hc, h⟩ := bnd_t h
      refine s_cvi (pc := 178) [.int x1, .int (4 : Int32)] (fun ad => [.ref (ad 4), .int x1, .int (4 : Int32)]) F w (m_X9_get _ _ _ _ _ hc) rfl rfl hl.1 ds_4 vc_X9 rfl ok_X9_get rfl kc_X9_get kl_X11_335 ki_X9_get kv_X9_get kn_X9 ⟨Nat.le_trans (by decide) hR1, Nat.le_trans (by decide) hR2⟩ ⟨Nat.zero_le _, Nat.zero_le _⟩ (Nat.le_of_ble_eq_true rfl) dX11_ask_178 (fun H locs w => ?_)
      exact s_iret F w h dX11_ask_181
    have h := ite_f q6 h
    refine lv_tableOut (pc := 69) (tgt := 182) hx hb dX11_ask_69 (by have zq0 := i32ne q0 (show ((0 : Int32)).toInt = 0 by decide); have zq1 := i32ne q1 (show ((1 : Int32)).toInt = 1 by decide); have zq2 := i32ne q2 (show ((2 : Int32)).toInt = 2 by decide); have zq3 := i32ne q3 (show ((3 : Int32)).toInt = 3 by decide); have zq4 := i32ne q4 (show ((4 : Int32)).toInt = 4 by decide); have zq5 := i32ne q5 (show ((5 : Int32)).toInt = 5 by decide); have zq6 := i32ne q6 (show ((6 : Int32)).toInt = 6 by decide); omega) (by decide) ?_
    refine lv_aload_n (pc := 182) hx hb dX11_ask_182 rfl (lv_at hl 0 rfl) ?_
    refine s_getR (pc := 183) F w 4 ds_0 (j := 3) vc_X11 vi_X11 rfl (by decide) kf_X11_33 dX11_ask_183 ?_
    refine lv_iload_n (pc := 186) hx hb dX11_ask_186 rfl (lv_at hl 1 rfl) ?_
    refine lv_iconst (pc := 187) (v := 1) hx hb dX11_ask_187 (by decide) ?_
    obtain ⟨r25, S24, hc, h⟩ := bnd_t h
    refine s_cvi (pc := 188) [.int x1, .int (1 : Int32)] (fun ad => [.ref (ad 4), .int x1, .int (1 : Int32)]) F w (m_X9_get _ _ _ _ _ hc) rfl rfl hl.1 ds_4 vc_X9 rfl ok_X9_get rfl kc_X9_get kl_X11_335 ki_X9_get kv_X9_get kn_X9 ⟨Nat.le_trans (by decide) hR1, Nat.le_trans (by decide) hR2⟩ ⟨Nat.zero_le _, Nat.zero_le _⟩ (Nat.le_of_ble_eq_true rfl) dX11_ask_188 (fun H locs w => ?_)
    exact s_iret F w h dX11_ask_191
  · have h := ite_f q h
    refine lv_aload_n (pc := 59) hx hb dX11_ask_59 rfl (lv_at hl 0 rfl) ?_
    refine s_getR (pc := 60) F w 1 ds_0 (j := 0) vc_X11 vi_X11 rfl (by decide) kf_X11_10 dX11_ask_60 ?_
    refine lv_iload_n (pc := 63) hx hb dX11_ask_63 rfl (lv_at hl 3 rfl) ?_
    obtain ⟨r27, S26, hc, h⟩ := bnd_t h
    refine s_cvi (pc := 64) [.int x3] (fun ad => [.ref (ad 1), .int x3]) F w (m_X5_found _ _ _ _ hc) rfl rfl hl.1 ds_1 vc_X5 rfl ok_X5_found rfl kc_X5_found kl_X11_98 ki_X5_found kv_X5_found kn_X5 ⟨Nat.le_trans (by decide) hR1, Nat.le_trans (by decide) hR2⟩ ⟨Nat.zero_le _, Nat.zero_le _⟩ (Nat.le_of_ble_eq_true rfl) dX11_ask_64 (fun H locs w => ?_)
    exact s_iret F w h dX11_ask_67
set_option maxRecDepth 100000 in
set_option maxHeartbeats 4000000 in
theorem m_X11_ask (a1 : Int32) (a2 : Int32) (S S' : SS) (r : Int32) (h : f_X11_ask a1 a2 S = some (r, S')) : MT yX11_ask cX11_ask 4 (some .int) 5 108 (fun ad => [.ref (ad 0), .int a1, .int a2]) S (some (.int r)) S' := by
  refine MT.of RX11 (fun ad => [(0, .ref (ad 0)), (1, .int a1), (2, .int a2)]) (by decide) rfl (fun _ => Nat.le_of_ble_eq_true rfl) (fun _ => rfl) ?_
  intro p l e R s m args below meth c dC dI cs ad A hR1 hR2 F H locs ls w hl
  have hx := F.1.1
  have hb := F.1.2.1
  rw [f_X11_ask] at h
  refine lv_iload_n (pc := 0) hx hb dX11_ask_0 rfl (lv_at hl 2 rfl) ?_
  refine lv_iconst (pc := 1) (v := 0) hx hb dX11_ask_1 (by decide) ?_
  refine lv_bipush (pc := 2) (v := 7) hx hb dX11_ask_2 (by decide) ?_
  obtain ⟨r2, S1, hc, h⟩ := bnd_t h
  refine s_csi (pc := 4) [.int a2, .int (0 : Int32), .int (7 : Int32)] (fun ad => [.int a2, .int (0 : Int32), .int (7 : Int32)]) F w (m_X11_isNot _ _ _ _ _ _ hc) rfl rfl hl.1 ok_X11_isNot rfl kc_X11_isNot kl_X11_108 ks_X11_isNot kn_X11 ⟨Nat.le_trans (by decide) hR1, Nat.le_trans (by decide) hR2⟩ ⟨Nat.zero_le _, Nat.zero_le _⟩ (Nat.le_of_ble_eq_true rfl) dX11_ask_4 (fun H locs w => ?_)
  refine lv_if_eq (pc := 7) (tgt := 12) hx hb dX11_ask_7 (by decide) (fun q => ?_) (fun q => ?_)
  · have h := ite_t q h
    refine lv_aload_n (pc := 12) hx hb dX11_ask_12 rfl (lv_at hl 0 rfl) ?_
    refine s_getR (pc := 13) F w 1 ds_0 (j := 0) vc_X11 vi_X11 rfl (by decide) kf_X11_10 dX11_ask_13 ?_
    obtain ⟨S3, hc, h⟩ := bndv_t h
    refine s_cvv (pc := 16) [] (fun ad => [.ref (ad 1)]) F w (m_X5_begin  _ _ hc) rfl rfl hl.1 ds_1 vc_X5 rfl ok_X5_begin rfl kc_X5_begin kl_X11_95 ki_X5_begin kv_X5_begin kn_X5 ⟨Nat.le_trans (by decide) hR1, Nat.le_trans (by decide) hR2⟩ ⟨Nat.zero_le _, Nat.zero_le _⟩ (Nat.le_of_ble_eq_true rfl) dX11_ask_16 (fun H locs w => ?_)
    refine lv_aload_n (pc := 19) hx hb dX11_ask_19 rfl (lv_at hl 0 rfl) ?_
    refine lv_iload_n (pc := 20) hx hb dX11_ask_20 rfl (lv_at hl 1 rfl) ?_
    refine lv_iload_n (pc := 21) hx hb dX11_ask_21 rfl (lv_at hl 2 rfl) ?_
    obtain ⟨r5, S4, hc, h⟩ := bnd_t h
    refine s_csi (pc := 22) [.int a2] (fun ad => [.int a2]) F w (m_X11_wantedFor _ _ _ _ hc) rfl rfl hl.1 ok_X11_wantedFor rfl kc_X11_wantedFor kl_X11_354 ks_X11_wantedFor kn_X11 ⟨Nat.le_trans (by decide) hR1, Nat.le_trans (by decide) hR2⟩ ⟨Nat.zero_le _, Nat.zero_le _⟩ (Nat.le_of_ble_eq_true rfl) dX11_ask_22 (fun H locs w => ?_)
    obtain ⟨r7, S6, hc, h⟩ := bnd_t h
    refine s_cvi (pc := 25) [.int a1, .int r5] (fun ad => [.ref (ad 0), .int a1, .int r5]) F w (m_X11_named _ _ _ _ _ hc) rfl rfl hl.1 ds_0 vc_X11 rfl ok_X11_named rfl kc_X11_named kl_X11_185 ki_X11_named kv_X11_named kn_X11 ⟨Nat.le_trans (by decide) hR1, Nat.le_trans (by decide) hR2⟩ ⟨Nat.zero_le _, Nat.zero_le _⟩ (Nat.le_of_ble_eq_true rfl) dX11_ask_25 (fun H locs w => ?_)
    refine lv_istore_n (pc := 28) (lv' := [(3, .int r7), (0, .ref (ad 0)), (1, .int a1), (2, .int a2)]) hx hb dX11_ask_28 rfl hl (by decide) rfl (fun ls hl => ?_)
    refine lv_iload_n (pc := 29) hx hb dX11_ask_29 rfl (lv_at hl 0 rfl) ?_
    refine lv_if_ne (pc := 30) (tgt := 55) hx hb dX11_ask_30 (by decide) (fun q => ?_) (fun q => ?_)
    · have h := ite_f q h
      exact w_X11_ask_j55 F (Nat.le_trans (by decide) hR1) (Nat.le_trans (by decide) hR2) _ _ _ _ h _ _ _ w (lv_sub hl [1, 2, 3, 0] rfl)
    · have h := ite_t q h
      refine lv_iload_n (pc := 33) hx hb dX11_ask_33 rfl (lv_at hl 3 rfl) ?_
      refine lv_bipush (pc := 34) (v := 6) hx hb dX11_ask_34 (by decide) ?_
      refine lv_icmp_ne (pc := 36) (tgt := 55) hx hb dX11_ask_36 (by decide) (fun q => ?_) (fun q => ?_)
      · have h := ite_f q h
        exact w_X11_ask_j55 F (Nat.le_trans (by decide) hR1) (Nat.le_trans (by decide) hR2) _ _ _ _ h _ _ _ w (lv_sub hl [1, 2, 3, 0] rfl)
      · have h := ite_t q h
        refine lv_aload_n (pc := 39) hx hb dX11_ask_39 rfl (lv_at hl 1 rfl) ?_
        refine s_getR (pc := 40) F w 4 ds_0 (j := 3) vc_X11 vi_X11 rfl (by decide) kf_X11_33 dX11_ask_40 ?_
        refine lv_iload_n (pc := 43) hx hb dX11_ask_43 rfl (lv_at hl 2 rfl) ?_
        refine lv_iconst (pc := 44) (v := 3) hx hb dX11_ask_44 (by decide) ?_
        obtain ⟨r29, S28, hc, h⟩ := bnd_t h
        refine s_cvi (pc := 45) [.int a1, .int (3 : Int32)] (fun ad => [.ref (ad 4), .int a1, .int (3 : Int32)]) F w (m_X9_get _ _ _ _ _ hc) rfl rfl hl.1 ds_4 vc_X9 rfl ok_X9_get rfl kc_X9_get kl_X11_335 ki_X9_get kv_X9_get kn_X9 ⟨Nat.le_trans (by decide) hR1, Nat.le_trans (by decide) hR2⟩ ⟨Nat.zero_le _, Nat.zero_le _⟩ (Nat.le_of_ble_eq_true rfl) dX11_ask_45 (fun H locs w => ?_)
        refine lv_bipush (pc := 48) (v := -4) hx hb dX11_ask_48 (by decide) ?_
        refine lv_icmp_ne (pc := 50) (tgt := 55) hx hb dX11_ask_50 (by decide) (fun q => ?_) (fun q => ?_)
        · have h := ite_f q h
          exact w_X11_ask_j55 F (Nat.le_trans (by decide) hR1) (Nat.le_trans (by decide) hR2) _ _ _ _ h _ _ _ w (lv_sub hl [1, 2, 3, 0] rfl)
        · have h := ite_t q h
          refine lv_iconst (pc := 53) (v := 1) hx hb dX11_ask_53 (by decide) ?_
          refine lv_istore_n (pc := 54) (lv' := [(3, .int (1 : Int32)), (0, .ref (ad 0)), (1, .int a1), (2, .int a2)]) hx hb dX11_ask_54 rfl hl (by decide) rfl (fun ls hl => ?_)
          exact w_X11_ask_j55 F (Nat.le_trans (by decide) hR1) (Nat.le_trans (by decide) hR2) _ _ _ _ h _ _ _ w (lv_sub hl [1, 2, 3, 0] rfl)
  · have h := ite_f q h
    refine lv_iconst (pc := 10) (v := -1) hx hb dX11_ask_10 (by decide) ?_
    exact s_iret F w h dX11_ask_11
def f_X12_ask_j55  (x1 : Int32) (x2 : Int32) (y0 : Int32) (S : SS) : Option (Int32 × SS) :=
    bnd (f_X12_missThing x1 y0 S) (fun r3 S2 =>
    bnd (f_X12_ends r3 S2) (fun r5 S4 =>
    if r5 = 0 then
      if x2 = (0 : Int32) then
        bnd (f_X12_weight x1 S4) (fun r7 S6 =>
        some (r7, S6))
      else
      if x2 = (1 : Int32) then
        bnd (f_X12_brake x1 S4) (fun r9 S8 =>
        some (r9, S8))
      else
      if x2 = (2 : Int32) then
        bnd (f_X12_heavy x1 S4) (fun r11 S10 =>
        some (r11, S10))
      else
      if x2 = (3 : Int32) then
        bnd (f_X12_perAxle x1 S4) (fun r13 S12 =>
        if (S12.1 14 54) = 0 then
          some (r13, S12)
        else
          bnd (f_X12_found (6 : Int32) S12) (fun r15 S14 =>
          some (r15, S14)))
      else
      if x2 = (4 : Int32) then
        bnd (f_X12_pulls x1 S4) (fun r17 S16 =>
        some (r17, S16))
      else
      if x2 = (5 : Int32) then
        grd (inb x1 72) (
        some (S4.1 94 x1.toNatClampNeg, S4))
      else
      if x2 = (6 : Int32) then
        grd (inb x1 72) (
        if (S4.1 102 x1.toNatClampNeg) = (-4 : Int32) then
          bnd (f_X12_found (1 : Int32) S4) (fun r19 S18 =>
          some (r19, S18))
        else
          grd (inb x1 72) (
          some (S4.1 102 x1.toNatClampNeg, S4)))
      else
      grd (inb x1 72) (
      some (S4.1 95 x1.toNatClampNeg, S4))
    else
      some ((-2 : Int32), S4)))
def f_X12_ask (a1 : Int32) (a2 : Int32) (S : SS) : Option (Int32 × SS) :=
  if a2 < 0 then
    some ((-1 : Int32), S)
  else
    if a2 ≤ (7 : Int32) then
      bndv (f_X12_begin  S) (fun S1 =>
      if a2 = (4 : Int32) then
        f_X12_ask_j55 a1 a2 (2 : Int32) S1
      else
        if a2 = (5 : Int32) then
          f_X12_ask_j55 a1 a2 (1 : Int32) S1
        else
          if a2 = (6 : Int32) then
            f_X12_ask_j55 a1 a2 (3 : Int32) S1
          else
            if a2 = (7 : Int32) then
              f_X12_ask_j55 a1 a2 (4 : Int32) S1
            else
              f_X12_ask_j55 a1 a2 (0 : Int32) S1)
    else
      some ((-1 : Int32), S)
theorem dX12_ask_0 : decode cX12_ask 0 = .ok (.iload_n 2, 1) := by decide +kernel
theorem dX12_ask_1 : decode cX12_ask 1 = .ok (.ifCond .lt 9, 3) := by decide +kernel
theorem dX12_ask_4 : decode cX12_ask 4 = .ok (.iload_n 2, 1) := by decide +kernel
theorem dX12_ask_5 : decode cX12_ask 5 = .ok (.bipush 7, 2) := by decide +kernel
theorem dX12_ask_7 : decode cX12_ask 7 = .ok (.if_icmp .le 5, 3) := by decide +kernel
theorem dX12_ask_10 : decode cX12_ask 10 = .ok (.iconst (-1), 1) := by decide +kernel
theorem dX12_ask_11 : decode cX12_ask 11 = .ok (.ireturn, 1) := by decide +kernel
theorem dX12_ask_12 : decode cX12_ask 12 = .ok (.aload_n 0, 1) := by decide +kernel
theorem dX12_ask_13 : decode cX12_ask 13 = .ok (.invokevirtual 226, 3) := by decide +kernel
theorem dX12_ask_16 : decode cX12_ask 16 = .ok (.iload_n 2, 1) := by decide +kernel
theorem dX12_ask_17 : decode cX12_ask 17 = .ok (.iconst 4, 1) := by decide +kernel
theorem dX12_ask_18 : decode cX12_ask 18 = .ok (.if_icmp .ne 7, 3) := by decide +kernel
theorem dX12_ask_21 : decode cX12_ask 21 = .ok (.iconst 2, 1) := by decide +kernel
theorem dX12_ask_22 : decode cX12_ask 22 = .ok (.goto 33, 3) := by decide +kernel
theorem dX12_ask_25 : decode cX12_ask 25 = .ok (.iload_n 2, 1) := by decide +kernel
theorem dX12_ask_26 : decode cX12_ask 26 = .ok (.iconst 5, 1) := by decide +kernel
theorem dX12_ask_27 : decode cX12_ask 27 = .ok (.if_icmp .ne 7, 3) := by decide +kernel
theorem dX12_ask_30 : decode cX12_ask 30 = .ok (.iconst 1, 1) := by decide +kernel
theorem dX12_ask_31 : decode cX12_ask 31 = .ok (.goto 24, 3) := by decide +kernel
theorem dX12_ask_34 : decode cX12_ask 34 = .ok (.iload_n 2, 1) := by decide +kernel
theorem dX12_ask_35 : decode cX12_ask 35 = .ok (.bipush 6, 2) := by decide +kernel
theorem dX12_ask_37 : decode cX12_ask 37 = .ok (.if_icmp .ne 7, 3) := by decide +kernel
theorem dX12_ask_40 : decode cX12_ask 40 = .ok (.iconst 3, 1) := by decide +kernel
theorem dX12_ask_41 : decode cX12_ask 41 = .ok (.goto 14, 3) := by decide +kernel
theorem dX12_ask_44 : decode cX12_ask 44 = .ok (.iload_n 2, 1) := by decide +kernel
theorem dX12_ask_45 : decode cX12_ask 45 = .ok (.bipush 7, 2) := by decide +kernel
theorem dX12_ask_47 : decode cX12_ask 47 = .ok (.if_icmp .ne 7, 3) := by decide +kernel
theorem dX12_ask_50 : decode cX12_ask 50 = .ok (.iconst 4, 1) := by decide +kernel
theorem dX12_ask_51 : decode cX12_ask 51 = .ok (.goto 4, 3) := by decide +kernel
theorem dX12_ask_54 : decode cX12_ask 54 = .ok (.iconst 0, 1) := by decide +kernel
theorem dX12_ask_55 : decode cX12_ask 55 = .ok (.istore_n 3, 1) := by decide +kernel
theorem dX12_ask_56 : decode cX12_ask 56 = .ok (.aload_n 0, 1) := by decide +kernel
theorem dX12_ask_57 : decode cX12_ask 57 = .ok (.aload_n 0, 1) := by decide +kernel
theorem dX12_ask_58 : decode cX12_ask 58 = .ok (.iload_n 1, 1) := by decide +kernel
theorem dX12_ask_59 : decode cX12_ask 59 = .ok (.iload_n 3, 1) := by decide +kernel
theorem dX12_ask_60 : decode cX12_ask 60 = .ok (.invokevirtual 293, 3) := by decide +kernel
theorem dX12_ask_63 : decode cX12_ask 63 = .ok (.invokevirtual 236, 3) := by decide +kernel
theorem dX12_ask_66 : decode cX12_ask 66 = .ok (.ifCond .eq 6, 3) := by decide +kernel
theorem dX12_ask_69 : decode cX12_ask 69 = .ok (.bipush (-2), 2) := by decide +kernel
theorem dX12_ask_71 : decode cX12_ask 71 = .ok (.ireturn, 1) := by decide +kernel
theorem dX12_ask_72 : decode cX12_ask 72 = .ok (.iload_n 2, 1) := by decide +kernel
theorem dX12_ask_73 : decode cX12_ask 73 = .ok (.tableswitch 126 0 6 #[43, 49, 55, 61, 87, 93, 100], 43) := by decide +kernel
theorem dX12_ask_116 : decode cX12_ask 116 = .ok (.aload_n 0, 1) := by decide +kernel
theorem dX12_ask_117 : decode cX12_ask 117 = .ok (.iload_n 1, 1) := by decide +kernel
theorem dX12_ask_118 : decode cX12_ask 118 = .ok (.invokevirtual 303, 3) := by decide +kernel
theorem dX12_ask_121 : decode cX12_ask 121 = .ok (.ireturn, 1) := by decide +kernel
theorem dX12_ask_122 : decode cX12_ask 122 = .ok (.aload_n 0, 1) := by decide +kernel
theorem dX12_ask_123 : decode cX12_ask 123 = .ok (.iload_n 1, 1) := by decide +kernel
theorem dX12_ask_124 : decode cX12_ask 124 = .ok (.invokevirtual 435, 3) := by decide +kernel
theorem dX12_ask_127 : decode cX12_ask 127 = .ok (.ireturn, 1) := by decide +kernel
theorem dX12_ask_128 : decode cX12_ask 128 = .ok (.aload_n 0, 1) := by decide +kernel
theorem dX12_ask_129 : decode cX12_ask 129 = .ok (.iload_n 1, 1) := by decide +kernel
theorem dX12_ask_130 : decode cX12_ask 130 = .ok (.invokevirtual 417, 3) := by decide +kernel
theorem dX12_ask_133 : decode cX12_ask 133 = .ok (.ireturn, 1) := by decide +kernel
theorem dX12_ask_134 : decode cX12_ask 134 = .ok (.aload_n 0, 1) := by decide +kernel
theorem dX12_ask_135 : decode cX12_ask 135 = .ok (.iload_n 1, 1) := by decide +kernel
theorem dX12_ask_136 : decode cX12_ask 136 = .ok (.invokevirtual 438, 3) := by decide +kernel
theorem dX12_ask_139 : decode cX12_ask 139 = .ok (.istore 4, 2) := by decide +kernel
theorem dX12_ask_141 : decode cX12_ask 141 = .ok (.aload_n 0, 1) := by decide +kernel
theorem dX12_ask_142 : decode cX12_ask 142 = .ok (.getfield 306, 3) := by decide +kernel
theorem dX12_ask_145 : decode cX12_ask 145 = .ok (.ifCond .eq 12, 3) := by decide +kernel
theorem dX12_ask_148 : decode cX12_ask 148 = .ok (.aload_n 0, 1) := by decide +kernel
theorem dX12_ask_149 : decode cX12_ask 149 = .ok (.bipush 6, 2) := by decide +kernel
theorem dX12_ask_151 : decode cX12_ask 151 = .ok (.invokevirtual 210, 3) := by decide +kernel
theorem dX12_ask_154 : decode cX12_ask 154 = .ok (.goto 5, 3) := by decide +kernel
theorem dX12_ask_157 : decode cX12_ask 157 = .ok (.iload 4, 2) := by decide +kernel
theorem dX12_ask_159 : decode cX12_ask 159 = .ok (.ireturn, 1) := by decide +kernel
theorem dX12_ask_160 : decode cX12_ask 160 = .ok (.aload_n 0, 1) := by decide +kernel
theorem dX12_ask_161 : decode cX12_ask 161 = .ok (.iload_n 1, 1) := by decide +kernel
theorem dX12_ask_162 : decode cX12_ask 162 = .ok (.invokevirtual 400, 3) := by decide +kernel
theorem dX12_ask_165 : decode cX12_ask 165 = .ok (.ireturn, 1) := by decide +kernel
theorem dX12_ask_166 : decode cX12_ask 166 = .ok (.aload_n 0, 1) := by decide +kernel
theorem dX12_ask_167 : decode cX12_ask 167 = .ok (.getfield 96, 3) := by decide +kernel
theorem dX12_ask_170 : decode cX12_ask 170 = .ok (.iload_n 1, 1) := by decide +kernel
theorem dX12_ask_171 : decode cX12_ask 171 = .ok (.iaload, 1) := by decide +kernel
theorem dX12_ask_172 : decode cX12_ask 172 = .ok (.ireturn, 1) := by decide +kernel
theorem dX12_ask_173 : decode cX12_ask 173 = .ok (.aload_n 0, 1) := by decide +kernel
theorem dX12_ask_174 : decode cX12_ask 174 = .ok (.getfield 120, 3) := by decide +kernel
theorem dX12_ask_177 : decode cX12_ask 177 = .ok (.iload_n 1, 1) := by decide +kernel
theorem dX12_ask_178 : decode cX12_ask 178 = .ok (.iaload, 1) := by decide +kernel
theorem dX12_ask_179 : decode cX12_ask 179 = .ok (.bipush (-4), 2) := by decide +kernel
theorem dX12_ask_181 : decode cX12_ask 181 = .ok (.if_icmp .ne 11, 3) := by decide +kernel
theorem dX12_ask_184 : decode cX12_ask 184 = .ok (.aload_n 0, 1) := by decide +kernel
theorem dX12_ask_185 : decode cX12_ask 185 = .ok (.iconst 1, 1) := by decide +kernel
theorem dX12_ask_186 : decode cX12_ask 186 = .ok (.invokevirtual 210, 3) := by decide +kernel
theorem dX12_ask_189 : decode cX12_ask 189 = .ok (.goto 9, 3) := by decide +kernel
theorem dX12_ask_192 : decode cX12_ask 192 = .ok (.aload_n 0, 1) := by decide +kernel
theorem dX12_ask_193 : decode cX12_ask 193 = .ok (.getfield 120, 3) := by decide +kernel
theorem dX12_ask_196 : decode cX12_ask 196 = .ok (.iload_n 1, 1) := by decide +kernel
theorem dX12_ask_197 : decode cX12_ask 197 = .ok (.iaload, 1) := by decide +kernel
theorem dX12_ask_198 : decode cX12_ask 198 = .ok (.ireturn, 1) := by decide +kernel
theorem dX12_ask_199 : decode cX12_ask 199 = .ok (.aload_n 0, 1) := by decide +kernel
theorem dX12_ask_200 : decode cX12_ask 200 = .ok (.getfield 99, 3) := by decide +kernel
theorem dX12_ask_203 : decode cX12_ask 203 = .ok (.iload_n 1, 1) := by decide +kernel
theorem dX12_ask_204 : decode cX12_ask 204 = .ok (.iaload, 1) := by decide +kernel
theorem dX12_ask_205 : decode cX12_ask 205 = .ok (.ireturn, 1) := by decide +kernel
set_option maxRecDepth 100000 in
set_option maxHeartbeats 4000000 in
theorem w_X12_ask_j55 {p : Program} {l : Launch} {e : Env} {R : Room} {s : State} {m : MethodId} {args : Array Value} {below : List Frame} {meth : Method} {c : Code} {dC : Nat → ClassId} {dI : Nat → Nat → Nat} {cs : Nat → ClassId} {ad : Nat → Nat} {A : Nat → Prop} {D0 : Nat → Nat} {S' : SS} {r : Int32} (F : Fx p s m args meth c cX12_ask 5 RX12 (some .int) dC dI cs A) (hR1 : 3 ≤ R.frames) (hR2 : 67 ≤ R.locals) (x1 : Int32) (x2 : Int32) (y0 : Int32) (S : SS) (h : f_X12_ask_j55 x1 x2 y0 S = some (r, S')) : AW p l e R s m args below meth c dC dI cs ad A D0 (some (.int r)) S' 5 55 [(0, .ref (ad 14)), (1, .int x1), (2, .int x2)] [.int y0] S := by
  have hx := F.1.1
  have hb := F.1.2.1
  intro H locs ls w hl
  rw [f_X12_ask_j55] at h
  refine lv_istore_n (pc := 55) (lv' := [(3, .int y0), (0, .ref (ad 14)), (1, .int x1), (2, .int x2)]) hx hb dX12_ask_55 rfl hl (by decide) rfl (fun ls hl => ?_)
  refine lv_aload_n (pc := 56) hx hb dX12_ask_56 rfl (lv_at hl 1 rfl) ?_
  refine lv_aload_n (pc := 57) hx hb dX12_ask_57 rfl (lv_at hl 1 rfl) ?_
  refine lv_iload_n (pc := 58) hx hb dX12_ask_58 rfl (lv_at hl 2 rfl) ?_
  refine lv_iload_n (pc := 59) hx hb dX12_ask_59 rfl (lv_at hl 0 rfl) ?_
  obtain ⟨r3, S2, hc, h⟩ := bnd_t h
  refine s_cvi (pc := 60) [.int x1, .int y0] (fun ad => [.ref (ad 14), .int x1, .int y0]) F w (m_X12_missThing _ _ _ _ _ hc) rfl rfl hl.1 ds_14 vc_X12 rfl ok_X12_missThing rfl kc_X12_missThing kl_X12_293 ki_X12_missThing kv_X12_missThing kn_X12 ⟨Nat.le_trans (by decide) hR1, Nat.le_trans (by decide) hR2⟩ ⟨Nat.zero_le _, Nat.zero_le _⟩ (Nat.le_of_ble_eq_true rfl) dX12_ask_60 (fun H locs w => ?_)
  obtain ⟨r5, S4, hc, h⟩ := bnd_t h
  refine s_cvi (pc := 63) [.int r3] (fun ad => [.ref (ad 14), .int r3]) F w (m_X12_ends _ _ _ _ hc) rfl rfl hl.1 ds_14 vc_X12 rfl ok_X12_ends rfl kc_X12_ends kl_X12_236 ki_X12_ends kv_X12_ends kn_X12 ⟨Nat.le_trans (by decide) hR1, Nat.le_trans (by decide) hR2⟩ ⟨Nat.zero_le _, Nat.zero_le _⟩ (Nat.le_of_ble_eq_true rfl) dX12_ask_63 (fun H locs w => ?_)
  refine lv_if_eq (pc := 66) (tgt := 72) hx hb dX12_ask_66 (by decide) (fun q => ?_) (fun q => ?_)
  · have h := ite_t q h
    refine lv_iload_n (pc := 72) hx hb dX12_ask_72 rfl (lv_at hl 3 rfl) ?_
    rcases Decidable.em (x2 = (0 : Int32)) with q0 | q0
    · refine lv_tableIn (pc := 73) (tgt := 116) (off := 43) hx hb dX12_ask_73 (by rw [q0]; decide) (by rw [q0]; decide) (by rw [q0]; rfl) (by decide) ?_
      have h := ite_t q0 h
      refine lv_aload_n (pc := 116) hx hb dX12_ask_116 rfl (lv_at hl 1 rfl) ?_
      refine lv_iload_n (pc := 117) hx hb dX12_ask_117 rfl (lv_at hl 2 rfl) ?_
      obtain ⟨r7, S6, hc, h⟩ := bnd_t h
      refine s_cvi (pc := 118) [.int x1] (fun ad => [.ref (ad 14), .int x1]) F w (m_X12_weight _ _ _ _ hc) rfl rfl hl.1 ds_14 vc_X12 rfl ok_X12_weight rfl kc_X12_weight kl_X12_303 ki_X12_weight kv_X12_weight kn_X12 ⟨Nat.le_trans (by decide) hR1, Nat.le_trans (by decide) hR2⟩ ⟨Nat.zero_le _, Nat.zero_le _⟩ (Nat.le_of_ble_eq_true rfl) dX12_ask_118 (fun H locs w => ?_)
      exact s_iret F w h dX12_ask_121
    have h := ite_f q0 h
    rcases Decidable.em (x2 = (1 : Int32)) with q1 | q1
    · refine lv_tableIn (pc := 73) (tgt := 122) (off := 49) hx hb dX12_ask_73 (by rw [q1]; decide) (by rw [q1]; decide) (by rw [q1]; rfl) (by decide) ?_
      have h := ite_t q1 h
      refine lv_aload_n (pc := 122) hx hb dX12_ask_122 rfl (lv_at hl 1 rfl) ?_
      refine lv_iload_n (pc := 123) hx hb dX12_ask_123 rfl (lv_at hl 2 rfl) ?_
      obtain ⟨r9, S8, hc, h⟩ := bnd_t h
      refine s_cvi (pc := 124) [.int x1] (fun ad => [.ref (ad 14), .int x1]) F w (m_X12_brake _ _ _ _ hc) rfl rfl hl.1 ds_14 vc_X12 rfl ok_X12_brake rfl kc_X12_brake kl_X12_435 ki_X12_brake kv_X12_brake kn_X12 ⟨Nat.le_trans (by decide) hR1, Nat.le_trans (by decide) hR2⟩ ⟨Nat.zero_le _, Nat.zero_le _⟩ (Nat.le_of_ble_eq_true rfl) dX12_ask_124 (fun H locs w => ?_)
      exact s_iret F w h dX12_ask_127
    have h := ite_f q1 h
    rcases Decidable.em (x2 = (2 : Int32)) with q2 | q2
    · refine lv_tableIn (pc := 73) (tgt := 128) (off := 55) hx hb dX12_ask_73 (by rw [q2]; decide) (by rw [q2]; decide) (by rw [q2]; rfl) (by decide) ?_
      have h := ite_t q2 h
      refine lv_aload_n (pc := 128) hx hb dX12_ask_128 rfl (lv_at hl 1 rfl) ?_
      refine lv_iload_n (pc := 129) hx hb dX12_ask_129 rfl (lv_at hl 2 rfl) ?_
      obtain ⟨r11, S10, hc, h⟩ := bnd_t h
      refine s_cvi (pc := 130) [.int x1] (fun ad => [.ref (ad 14), .int x1]) F w (m_X12_heavy _ _ _ _ hc) rfl rfl hl.1 ds_14 vc_X12 rfl ok_X12_heavy rfl kc_X12_heavy kl_X12_417 ki_X12_heavy kv_X12_heavy kn_X12 ⟨Nat.le_trans (by decide) hR1, Nat.le_trans (by decide) hR2⟩ ⟨Nat.zero_le _, Nat.zero_le _⟩ (Nat.le_of_ble_eq_true rfl) dX12_ask_130 (fun H locs w => ?_)
      exact s_iret F w h dX12_ask_133
    have h := ite_f q2 h
    rcases Decidable.em (x2 = (3 : Int32)) with q3 | q3
    · refine lv_tableIn (pc := 73) (tgt := 134) (off := 61) hx hb dX12_ask_73 (by rw [q3]; decide) (by rw [q3]; decide) (by rw [q3]; rfl) (by decide) ?_
      have h := ite_t q3 h
      refine lv_aload_n (pc := 134) hx hb dX12_ask_134 rfl (lv_at hl 1 rfl) ?_
      refine lv_iload_n (pc := 135) hx hb dX12_ask_135 rfl (lv_at hl 2 rfl) ?_
      obtain ⟨r13, S12, hc, h⟩ := bnd_t h
      refine s_cvi (pc := 136) [.int x1] (fun ad => [.ref (ad 14), .int x1]) F w (m_X12_perAxle _ _ _ _ hc) rfl rfl hl.1 ds_14 vc_X12 rfl ok_X12_perAxle rfl kc_X12_perAxle kl_X12_438 ki_X12_perAxle kv_X12_perAxle kn_X12 ⟨Nat.le_trans (by decide) hR1, Nat.le_trans (by decide) hR2⟩ ⟨Nat.zero_le _, Nat.zero_le _⟩ (Nat.le_of_ble_eq_true rfl) dX12_ask_136 (fun H locs w => ?_)
      refine lv_istore (pc := 139) (lv' := [(4, .int r13), (3, .int y0), (0, .ref (ad 14)), (1, .int x1), (2, .int x2)]) hx hb dX12_ask_139 hl (by decide) rfl (fun ls hl => ?_)
      refine lv_aload_n (pc := 141) hx hb dX12_ask_141 rfl (lv_at hl 2 rfl) ?_
      refine s_getI (pc := 142) F w ds_14 (j := 54) vc_X12 vi_X12 rfl (by decide) kf_X12_306 dX12_ask_142 ?_
      refine lv_if_eq (pc := 145) (tgt := 157) hx hb dX12_ask_145 (by decide) (fun q => ?_) (fun q => ?_)
      · have h := ite_t q h
        refine lv_iload (pc := 157) hx hb dX12_ask_157 (lv_at hl 0 rfl) ?_
        exact s_iret F w h dX12_ask_159
      · have h := ite_f q h
        refine lv_aload_n (pc := 148) hx hb dX12_ask_148 rfl (lv_at hl 2 rfl) ?_
        refine lv_bipush (pc := 149) (v := 6) hx hb dX12_ask_149 (by decide) ?_
        obtain ⟨r15, S14, hc, h⟩ := bnd_t h
        refine s_cvi (pc := 151) [.int (6 : Int32)] (fun ad => [.ref (ad 14), .int (6 : Int32)]) F w (m_X12_found _ _ _ _ hc) rfl rfl hl.1 ds_14 vc_X12 rfl ok_X12_found rfl kc_X12_found kl_X12_210 ki_X12_found kv_X12_found kn_X12 ⟨Nat.le_trans (by decide) hR1, Nat.le_trans (by decide) hR2⟩ ⟨Nat.zero_le _, Nat.zero_le _⟩ (Nat.le_of_ble_eq_true rfl) dX12_ask_151 (fun H locs w => ?_)
        refine lv_goto (pc := 154) (tgt := 159) hx hb dX12_ask_154 (by decide) ?_
        exact s_iret F w h dX12_ask_159
    have h := ite_f q3 h
    rcases Decidable.em (x2 = (4 : Int32)) with q4 | q4
    · refine lv_tableIn (pc := 73) (tgt := 160) (off := 87) hx hb dX12_ask_73 (by rw [q4]; decide) (by rw [q4]; decide) (by rw [q4]; rfl) (by decide) ?_
      have h := ite_t q4 h
      refine lv_aload_n (pc := 160) hx hb dX12_ask_160 rfl (lv_at hl 1 rfl) ?_
      refine lv_iload_n (pc := 161) hx hb dX12_ask_161 rfl (lv_at hl 2 rfl) ?_
      obtain ⟨r17, S16, hc, h⟩ := bnd_t h
      refine s_cvi (pc := 162) [.int x1] (fun ad => [.ref (ad 14), .int x1]) F w (m_X12_pulls _ _ _ _ hc) rfl rfl hl.1 ds_14 vc_X12 rfl ok_X12_pulls rfl kc_X12_pulls kl_X12_400 ki_X12_pulls kv_X12_pulls kn_X12 ⟨Nat.le_trans (by decide) hR1, Nat.le_trans (by decide) hR2⟩ ⟨Nat.zero_le _, Nat.zero_le _⟩ (Nat.le_of_ble_eq_true rfl) dX12_ask_162 (fun H locs w => ?_)
      exact s_iret F w h dX12_ask_165
    have h := ite_f q4 h
    rcases Decidable.em (x2 = (5 : Int32)) with q5 | q5
    · refine lv_tableIn (pc := 73) (tgt := 166) (off := 93) hx hb dX12_ask_73 (by rw [q5]; decide) (by rw [q5]; decide) (by rw [q5]; rfl) (by decide) ?_
      have h := ite_t q5 h
      refine lv_aload_n (pc := 166) hx hb dX12_ask_166 rfl (lv_at hl 1 rfl) ?_
      refine s_getR (pc := 167) F w 94 ds_14 (j := 39) vc_X12 vi_X12 rfl (by decide) kf_X12_96 dX12_ask_167 ?_
      refine lv_iload_n (pc := 170) hx hb dX12_ask_170 rfl (lv_at hl 2 rfl) ?_
      refine s_iald (pc := 171) F w ds_94 h dX12_ask_171 (fun h => ?_)
      exact s_iret F w h dX12_ask_172
    have h := ite_f q5 h
    rcases Decidable.em (x2 = (6 : Int32)) with q6 | q6
    · refine lv_tableIn (pc := 73) (tgt := 173) (off := 100) hx hb dX12_ask_73 (by rw [q6]; decide) (by rw [q6]; decide) (by rw [q6]; rfl) (by decide) ?_
      have h := ite_t q6 h
      refine lv_aload_n (pc := 173) hx hb dX12_ask_173 rfl (lv_at hl 1 rfl) ?_
      refine s_getR (pc := 174) F w 102 ds_14 (j := 50) vc_X12 vi_X12 rfl (by decide) kf_X12_120 dX12_ask_174 ?_
      refine lv_iload_n (pc := 177) hx hb dX12_ask_177 rfl (lv_at hl 2 rfl) ?_
      refine s_iald (pc := 178) F w ds_102 h dX12_ask_178 (fun h => ?_)
      refine lv_bipush (pc := 179) (v := -4) hx hb dX12_ask_179 (by decide) ?_
      refine lv_icmp_ne (pc := 181) (tgt := 192) hx hb dX12_ask_181 (by decide) (fun q => ?_) (fun q => ?_)
      · have h := ite_f q h
        refine lv_aload_n (pc := 192) hx hb dX12_ask_192 rfl (lv_at hl 1 rfl) ?_
        refine s_getR (pc := 193) F w 102 ds_14 (j := 50) vc_X12 vi_X12 rfl (by decide) kf_X12_120 dX12_ask_193 ?_
        refine lv_iload_n (pc := 196) hx hb dX12_ask_196 rfl (lv_at hl 2 rfl) ?_
        refine s_iald (pc := 197) F w ds_102 h dX12_ask_197 (fun h => ?_)
        exact s_iret F w h dX12_ask_198
      · have h := ite_t q h
        refine lv_aload_n (pc := 184) hx hb dX12_ask_184 rfl (lv_at hl 1 rfl) ?_
        refine lv_iconst (pc := 185) (v := 1) hx hb dX12_ask_185 (by decide) ?_
        obtain ⟨r19, S18, hc, h⟩ := bnd_t h
        refine s_cvi (pc := 186) [.int (1 : Int32)] (fun ad => [.ref (ad 14), .int (1 : Int32)]) F w (m_X12_found _ _ _ _ hc) rfl rfl hl.1 ds_14 vc_X12 rfl ok_X12_found rfl kc_X12_found kl_X12_210 ki_X12_found kv_X12_found kn_X12 ⟨Nat.le_trans (by decide) hR1, Nat.le_trans (by decide) hR2⟩ ⟨Nat.zero_le _, Nat.zero_le _⟩ (Nat.le_of_ble_eq_true rfl) dX12_ask_186 (fun H locs w => ?_)
        refine lv_goto (pc := 189) (tgt := 198) hx hb dX12_ask_189 (by decide) ?_
        exact s_iret F w h dX12_ask_198
    have h := ite_f q6 h
    refine lv_tableOut (pc := 73) (tgt := 199) hx hb dX12_ask_73 (by have zq0 := i32ne q0 (show ((0 : Int32)).toInt = 0 by decide); have zq1 := i32ne q1 (show ((1 : Int32)).toInt = 1 by decide); have zq2 := i32ne q2 (show ((2 : Int32)).toInt = 2 by decide); have zq3 := i32ne q3 (show ((3 : Int32)).toInt = 3 by decide); have zq4 := i32ne q4 (show ((4 : Int32)).toInt = 4 by decide); have zq5 := i32ne q5 (show ((5 : Int32)).toInt = 5 by decide); have zq6 := i32ne q6 (show ((6 : Int32)).toInt = 6 by decide); omega) (by decide) ?_
    refine lv_aload_n (pc := 199) hx hb dX12_ask_199 rfl (lv_at hl 1 rfl) ?_
    refine s_getR (pc := 200) F w 95 ds_14 (j := 40) vc_X12 vi_X12 rfl (by decide) kf_X12_99 dX12_ask_200 ?_
    refine lv_iload_n (pc := 203) hx hb dX12_ask_203 rfl (lv_at hl 2 rfl) ?_
    refine s_iald (pc := 204) F w ds_95 h dX12_ask_204 (fun h => ?_)
    exact s_iret F w h dX12_ask_205
  · have h := ite_f q h
    refine lv_bipush (pc := 69) (v := -2) hx hb dX12_ask_69 (by decide) ?_
    exact s_iret F w h dX12_ask_71
set_option maxRecDepth 100000 in
set_option maxHeartbeats 4000000 in
theorem m_X12_ask (a1 : Int32) (a2 : Int32) (S S' : SS) (r : Int32) (h : f_X12_ask a1 a2 S = some (r, S')) : MT yX12_ask cX12_ask 5 (some .int) 3 67 (fun ad => [.ref (ad 14), .int a1, .int a2]) S (some (.int r)) S' := by
  refine MT.of RX12 (fun ad => [(0, .ref (ad 14)), (1, .int a1), (2, .int a2)]) (by decide) rfl (fun _ => Nat.le_of_ble_eq_true rfl) (fun _ => rfl) ?_
  intro p l e R s m args below meth c dC dI cs ad A hR1 hR2 F H locs ls w hl
  have hx := F.1.1
  have hb := F.1.2.1
  rw [f_X12_ask] at h
  refine lv_iload_n (pc := 0) hx hb dX12_ask_0 rfl (lv_at hl 2 rfl) ?_
  refine lv_if_lt (pc := 1) (tgt := 10) hx hb dX12_ask_1 (by decide) (fun q => ?_) (fun q => ?_)
  · have h := ite_t q h
    refine lv_iconst (pc := 10) (v := -1) hx hb dX12_ask_10 (by decide) ?_
    exact s_iret F w h dX12_ask_11
  · have h := ite_f q h
    refine lv_iload_n (pc := 4) hx hb dX12_ask_4 rfl (lv_at hl 2 rfl) ?_
    refine lv_bipush (pc := 5) (v := 7) hx hb dX12_ask_5 (by decide) ?_
    refine lv_icmp_le (pc := 7) (tgt := 12) hx hb dX12_ask_7 (by decide) (fun q => ?_) (fun q => ?_)
    · have h := ite_t q h
      refine lv_aload_n (pc := 12) hx hb dX12_ask_12 rfl (lv_at hl 0 rfl) ?_
      obtain ⟨S1, hc, h⟩ := bndv_t h
      refine s_cvv (pc := 13) [] (fun ad => [.ref (ad 14)]) F w (m_X12_begin  _ _ hc) rfl rfl hl.1 ds_14 vc_X12 rfl ok_X12_begin rfl kc_X12_begin kl_X12_226 ki_X12_begin kv_X12_begin kn_X12 ⟨Nat.le_trans (by decide) hR1, Nat.le_trans (by decide) hR2⟩ ⟨Nat.zero_le _, Nat.zero_le _⟩ (Nat.le_of_ble_eq_true rfl) dX12_ask_13 (fun H locs w => ?_)
      refine lv_iload_n (pc := 16) hx hb dX12_ask_16 rfl (lv_at hl 2 rfl) ?_
      refine lv_iconst (pc := 17) (v := 4) hx hb dX12_ask_17 (by decide) ?_
      refine lv_icmp_ne (pc := 18) (tgt := 25) hx hb dX12_ask_18 (by decide) (fun q => ?_) (fun q => ?_)
      · have h := ite_f q h
        refine lv_iload_n (pc := 25) hx hb dX12_ask_25 rfl (lv_at hl 2 rfl) ?_
        refine lv_iconst (pc := 26) (v := 5) hx hb dX12_ask_26 (by decide) ?_
        refine lv_icmp_ne (pc := 27) (tgt := 34) hx hb dX12_ask_27 (by decide) (fun q => ?_) (fun q => ?_)
        · have h := ite_f q h
          refine lv_iload_n (pc := 34) hx hb dX12_ask_34 rfl (lv_at hl 2 rfl) ?_
          refine lv_bipush (pc := 35) (v := 6) hx hb dX12_ask_35 (by decide) ?_
          refine lv_icmp_ne (pc := 37) (tgt := 44) hx hb dX12_ask_37 (by decide) (fun q => ?_) (fun q => ?_)
          · have h := ite_f q h
            refine lv_iload_n (pc := 44) hx hb dX12_ask_44 rfl (lv_at hl 2 rfl) ?_
            refine lv_bipush (pc := 45) (v := 7) hx hb dX12_ask_45 (by decide) ?_
            refine lv_icmp_ne (pc := 47) (tgt := 54) hx hb dX12_ask_47 (by decide) (fun q => ?_) (fun q => ?_)
            · have h := ite_f q h
              refine lv_iconst (pc := 54) (v := 0) hx hb dX12_ask_54 (by decide) ?_
              exact w_X12_ask_j55 F (Nat.le_trans (by decide) hR1) (Nat.le_trans (by decide) hR2) _ _ _ _ h _ _ _ w (lv_sub hl [0, 1, 2] rfl)
            · have h := ite_t q h
              refine lv_iconst (pc := 50) (v := 4) hx hb dX12_ask_50 (by decide) ?_
              refine lv_goto (pc := 51) (tgt := 55) hx hb dX12_ask_51 (by decide) ?_
              exact w_X12_ask_j55 F (Nat.le_trans (by decide) hR1) (Nat.le_trans (by decide) hR2) _ _ _ _ h _ _ _ w (lv_sub hl [0, 1, 2] rfl)
          · have h := ite_t q h
            refine lv_iconst (pc := 40) (v := 3) hx hb dX12_ask_40 (by decide) ?_
            refine lv_goto (pc := 41) (tgt := 55) hx hb dX12_ask_41 (by decide) ?_
            exact w_X12_ask_j55 F (Nat.le_trans (by decide) hR1) (Nat.le_trans (by decide) hR2) _ _ _ _ h _ _ _ w (lv_sub hl [0, 1, 2] rfl)
        · have h := ite_t q h
          refine lv_iconst (pc := 30) (v := 1) hx hb dX12_ask_30 (by decide) ?_
          refine lv_goto (pc := 31) (tgt := 55) hx hb dX12_ask_31 (by decide) ?_
          exact w_X12_ask_j55 F (Nat.le_trans (by decide) hR1) (Nat.le_trans (by decide) hR2) _ _ _ _ h _ _ _ w (lv_sub hl [0, 1, 2] rfl)
      · have h := ite_t q h
        refine lv_iconst (pc := 21) (v := 2) hx hb dX12_ask_21 (by decide) ?_
        refine lv_goto (pc := 22) (tgt := 55) hx hb dX12_ask_22 (by decide) ?_
        exact w_X12_ask_j55 F (Nat.le_trans (by decide) hR1) (Nat.le_trans (by decide) hR2) _ _ _ _ h _ _ _ w (lv_sub hl [0, 1, 2] rfl)
    · have h := ite_f q h
      refine lv_iconst (pc := 10) (v := -1) hx hb dX12_ask_10 (by decide) ?_
      exact s_iret F w h dX12_ask_11
def f_X11_meet_L54  : Nat → Int32 → Int32 → Int32 → SS → Option (Int32 × SS)
  | 0, _, _, _, _ => none
  | n + 1, x3, x5, x6, S =>
    if x3 ≤ x6 then
      some (x5 >>> ((1 : Int32) &&& 31), S)
    else
      bnd (f_X10_onward x5 S) (fun r8 S7 =>
      if r8 = (-4 : Int32) then
        bnd (f_X5_found (1 : Int32) S7) (fun r11 S10 =>
        some (r11, S10))
      else
        nm (x6 + (1 : Int32)) (fun z9 =>
        f_X11_meet_L54 n x3 r8 z9 S7))
def f_X11_meet (a1 : Int32) (a2 : Int32) (a3 : Int32) (S : SS) : Option (Int32 × SS) :=
  bnd (f_X11_isNot a3 (0 : Int32) (100 : Int32) S) (fun r2 S1 =>
  if r2 = 0 then
    bndv (f_X5_begin  S1) (fun S3 =>
    bnd (f_X11_namedSide a1 (127 : Int32) a2 S3) (fun r5 S4 =>
    if r5 = 0 then
      nm (((2 : Int32) * a1) + a2) (fun z6 =>
      f_X11_meet_L54 NF a3 z6 (0 : Int32) S4)
    else
      bnd (f_X5_found r5 S4) (fun r13 S12 =>
      some (r13, S12))))
  else
    some ((-1 : Int32), S1))
theorem dX11_meet_0 : decode cX11_meet 0 = .ok (.iload_n 3, 1) := by decide +kernel
theorem dX11_meet_1 : decode cX11_meet 1 = .ok (.iconst 0, 1) := by decide +kernel
theorem dX11_meet_2 : decode cX11_meet 2 = .ok (.bipush 100, 2) := by decide +kernel
theorem dX11_meet_4 : decode cX11_meet 4 = .ok (.invokestatic 108, 3) := by decide +kernel
theorem dX11_meet_7 : decode cX11_meet 7 = .ok (.ifCond .eq 5, 3) := by decide +kernel
theorem dX11_meet_10 : decode cX11_meet 10 = .ok (.iconst (-1), 1) := by decide +kernel
theorem dX11_meet_11 : decode cX11_meet 11 = .ok (.ireturn, 1) := by decide +kernel
theorem dX11_meet_12 : decode cX11_meet 12 = .ok (.aload_n 0, 1) := by decide +kernel
theorem dX11_meet_13 : decode cX11_meet 13 = .ok (.getfield 10, 3) := by decide +kernel
theorem dX11_meet_16 : decode cX11_meet 16 = .ok (.invokevirtual 95, 3) := by decide +kernel
theorem dX11_meet_19 : decode cX11_meet 19 = .ok (.aload_n 0, 1) := by decide +kernel
theorem dX11_meet_20 : decode cX11_meet 20 = .ok (.iload_n 1, 1) := by decide +kernel
theorem dX11_meet_21 : decode cX11_meet 21 = .ok (.bipush 127, 2) := by decide +kernel
theorem dX11_meet_23 : decode cX11_meet 23 = .ok (.iload_n 2, 1) := by decide +kernel
theorem dX11_meet_24 : decode cX11_meet 24 = .ok (.invokevirtual 259, 3) := by decide +kernel
theorem dX11_meet_27 : decode cX11_meet 27 = .ok (.istore 4, 2) := by decide +kernel
theorem dX11_meet_29 : decode cX11_meet 29 = .ok (.iload 4, 2) := by decide +kernel
theorem dX11_meet_31 : decode cX11_meet 31 = .ok (.ifCond .eq 13, 3) := by decide +kernel
theorem dX11_meet_34 : decode cX11_meet 34 = .ok (.aload_n 0, 1) := by decide +kernel
theorem dX11_meet_35 : decode cX11_meet 35 = .ok (.getfield 10, 3) := by decide +kernel
theorem dX11_meet_38 : decode cX11_meet 38 = .ok (.iload 4, 2) := by decide +kernel
theorem dX11_meet_40 : decode cX11_meet 40 = .ok (.invokevirtual 98, 3) := by decide +kernel
theorem dX11_meet_43 : decode cX11_meet 43 = .ok (.ireturn, 1) := by decide +kernel
theorem dX11_meet_44 : decode cX11_meet 44 = .ok (.iconst 2, 1) := by decide +kernel
theorem dX11_meet_45 : decode cX11_meet 45 = .ok (.iload_n 1, 1) := by decide +kernel
theorem dX11_meet_46 : decode cX11_meet 46 = .ok (.imul, 1) := by decide +kernel
theorem dX11_meet_47 : decode cX11_meet 47 = .ok (.iload_n 2, 1) := by decide +kernel
theorem dX11_meet_48 : decode cX11_meet 48 = .ok (.iadd, 1) := by decide +kernel
theorem dX11_meet_49 : decode cX11_meet 49 = .ok (.istore 5, 2) := by decide +kernel
theorem dX11_meet_51 : decode cX11_meet 51 = .ok (.iconst 0, 1) := by decide +kernel
theorem dX11_meet_52 : decode cX11_meet 52 = .ok (.istore 6, 2) := by decide +kernel
theorem dX11_meet_54 : decode cX11_meet 54 = .ok (.iload 6, 2) := by decide +kernel
theorem dX11_meet_56 : decode cX11_meet 56 = .ok (.iload_n 3, 1) := by decide +kernel
theorem dX11_meet_57 : decode cX11_meet 57 = .ok (.if_icmp .ge 36, 3) := by decide +kernel
theorem dX11_meet_60 : decode cX11_meet 60 = .ok (.aload_n 0, 1) := by decide +kernel
theorem dX11_meet_61 : decode cX11_meet 61 = .ok (.getfield 58, 3) := by decide +kernel
theorem dX11_meet_64 : decode cX11_meet 64 = .ok (.iload 5, 2) := by decide +kernel
theorem dX11_meet_66 : decode cX11_meet 66 = .ok (.invokevirtual 360, 3) := by decide +kernel
theorem dX11_meet_69 : decode cX11_meet 69 = .ok (.istore 5, 2) := by decide +kernel
theorem dX11_meet_71 : decode cX11_meet 71 = .ok (.iload 5, 2) := by decide +kernel
theorem dX11_meet_73 : decode cX11_meet 73 = .ok (.bipush (-4), 2) := by decide +kernel
theorem dX11_meet_75 : decode cX11_meet 75 = .ok (.if_icmp .ne 12, 3) := by decide +kernel
theorem dX11_meet_78 : decode cX11_meet 78 = .ok (.aload_n 0, 1) := by decide +kernel
theorem dX11_meet_79 : decode cX11_meet 79 = .ok (.getfield 10, 3) := by decide +kernel
theorem dX11_meet_82 : decode cX11_meet 82 = .ok (.iconst 1, 1) := by decide +kernel
theorem dX11_meet_83 : decode cX11_meet 83 = .ok (.invokevirtual 98, 3) := by decide +kernel
theorem dX11_meet_86 : decode cX11_meet 86 = .ok (.ireturn, 1) := by decide +kernel
theorem dX11_meet_87 : decode cX11_meet 87 = .ok (.iinc 6 1, 3) := by decide +kernel
theorem dX11_meet_90 : decode cX11_meet 90 = .ok (.goto (-36), 3) := by decide +kernel
theorem dX11_meet_93 : decode cX11_meet 93 = .ok (.iload 5, 2) := by decide +kernel
theorem dX11_meet_95 : decode cX11_meet 95 = .ok (.iconst 1, 1) := by decide +kernel
theorem dX11_meet_96 : decode cX11_meet 96 = .ok (.ishr, 1) := by decide +kernel
theorem dX11_meet_97 : decode cX11_meet 97 = .ok (.ireturn, 1) := by decide +kernel
set_option maxRecDepth 100000 in
set_option maxHeartbeats 4000000 in
theorem w_X11_meet_L54 {p : Program} {l : Launch} {e : Env} {R : Room} {s : State} {m : MethodId} {args : Array Value} {below : List Frame} {meth : Method} {c : Code} {dC : Nat → ClassId} {dI : Nat → Nat → Nat} {cs : Nat → ClassId} {ad : Nat → Nat} {A : Nat → Prop} {D0 : Nat → Nat} {S' : SS} {r : Int32} (F : Fx p s m args meth c cX11_meet 7 RX11 (some .int) dC dI cs A) (hR1 : 2 ≤ R.frames) (hR2 : 44 ≤ R.locals) : ∀ (n : Nat) (x3 : Int32) (x5 : Int32) (x6 : Int32) (S : SS), f_X11_meet_L54 n x3 x5 x6 S = some (r, S') → AW p l e R s m args below meth c dC dI cs ad A D0 (some (.int r)) S' 7 54 [(0, .ref (ad 0)), (3, .int x3), (5, .int x5), (6, .int x6)] [] S := by
  have hx := F.1.1
  have hb := F.1.2.1
  intro n
  induction n with
  | zero => intro x3 x5 x6 S h; cases h
  | succ n ih =>
    intro x3 x5 x6 S h H locs ls w hl
    rw [f_X11_meet_L54] at h
    refine lv_iload (pc := 54) hx hb dX11_meet_54 (lv_at hl 3 rfl) ?_
    refine lv_iload_n (pc := 56) hx hb dX11_meet_56 rfl (lv_at hl 1 rfl) ?_
    refine lv_icmp_ge (pc := 57) (tgt := 93) hx hb dX11_meet_57 (by decide) (fun q => ?_) (fun q => ?_)
    · have h := ite_t q h
      refine lv_iload (pc := 93) hx hb dX11_meet_93 (lv_at hl 2 rfl) ?_
      refine lv_iconst (pc := 95) (v := 1) hx hb dX11_meet_95 (by decide) ?_
      refine lv_ishr (pc := 96) hx hb dX11_meet_96 ?_
      exact s_iret F w h dX11_meet_97
    · have h := ite_f q h
      refine lv_aload_n (pc := 60) hx hb dX11_meet_60 rfl (lv_at hl 0 rfl) ?_
      refine s_getR (pc := 61) F w 7 ds_0 (j := 6) vc_X11 vi_X11 rfl (by decide) kf_X11_58 dX11_meet_61 ?_
      refine lv_iload (pc := 64) hx hb dX11_meet_64 (lv_at hl 2 rfl) ?_
      obtain ⟨r8, S7, hc, h⟩ := bnd_t h
      refine s_cvi (pc := 66) [.int x5] (fun ad => [.ref (ad 7), .int x5]) F w (m_X10_onward _ _ _ _ hc) rfl rfl hl.1 ds_7 vc_X10 rfl ok_X10_onward rfl kc_X10_onward kl_X11_360 ki_X10_onward kv_X10_onward kn_X10 ⟨Nat.le_trans (by decide) hR1, Nat.le_trans (by decide) hR2⟩ ⟨Nat.zero_le _, Nat.zero_le _⟩ (Nat.le_of_ble_eq_true rfl) dX11_meet_66 (fun H locs w => ?_)
      refine lv_istore (pc := 69) (lv' := [(5, .int r8), (0, .ref (ad 0)), (3, .int x3), (6, .int x6)]) hx hb dX11_meet_69 hl (by decide) rfl (fun ls hl => ?_)
      refine lv_iload (pc := 71) hx hb dX11_meet_71 (lv_at hl 0 rfl) ?_
      refine lv_bipush (pc := 73) (v := -4) hx hb dX11_meet_73 (by decide) ?_
      refine lv_icmp_ne (pc := 75) (tgt := 87) hx hb dX11_meet_75 (by decide) (fun q => ?_) (fun q => ?_)
      · have h := ite_f q h
        refine s_nm h (fun z9 ez9 h => ?_)
        refine lv_iinc (pc := 87) (v := z9) (lv' := [(6, .int z9), (5, .int r8), (0, .ref (ad 0)), (3, .int x3)]) hx hb dX11_meet_87 hl (k := 3) rfl (by rw [ez9]; rfl) (by decide) rfl (fun ls hl => ?_)
        refine lv_goto (pc := 90) (tgt := 54) hx hb dX11_meet_90 (by decide) ?_
        exact ih _ _ _ _ h _ _ _ w (lv_sub hl [2, 3, 1, 0] rfl)
      · have h := ite_t q h
        refine lv_aload_n (pc := 78) hx hb dX11_meet_78 rfl (lv_at hl 1 rfl) ?_
        refine s_getR (pc := 79) F w 1 ds_0 (j := 0) vc_X11 vi_X11 rfl (by decide) kf_X11_10 dX11_meet_79 ?_
        refine lv_iconst (pc := 82) (v := 1) hx hb dX11_meet_82 (by decide) ?_
        obtain ⟨r11, S10, hc, h⟩ := bnd_t h
        refine s_cvi (pc := 83) [.int (1 : Int32)] (fun ad => [.ref (ad 1), .int (1 : Int32)]) F w (m_X5_found _ _ _ _ hc) rfl rfl hl.1 ds_1 vc_X5 rfl ok_X5_found rfl kc_X5_found kl_X11_98 ki_X5_found kv_X5_found kn_X5 ⟨Nat.le_trans (by decide) hR1, Nat.le_trans (by decide) hR2⟩ ⟨Nat.zero_le _, Nat.zero_le _⟩ (Nat.le_of_ble_eq_true rfl) dX11_meet_83 (fun H locs w => ?_)
        exact s_iret F w h dX11_meet_86
set_option maxRecDepth 100000 in
set_option maxHeartbeats 4000000 in
theorem m_X11_meet (a1 : Int32) (a2 : Int32) (a3 : Int32) (S S' : SS) (r : Int32) (h : f_X11_meet a1 a2 a3 S = some (r, S')) : MT yX11_meet cX11_meet 7 (some .int) 4 91 (fun ad => [.ref (ad 0), .int a1, .int a2, .int a3]) S (some (.int r)) S' := by
  refine MT.of RX11 (fun ad => [(0, .ref (ad 0)), (1, .int a1), (2, .int a2), (3, .int a3)]) (by decide) rfl (fun _ => Nat.le_of_ble_eq_true rfl) (fun _ => rfl) ?_
  intro p l e R s m args below meth c dC dI cs ad A hR1 hR2 F H locs ls w hl
  have hx := F.1.1
  have hb := F.1.2.1
  rw [f_X11_meet] at h
  refine lv_iload_n (pc := 0) hx hb dX11_meet_0 rfl (lv_at hl 3 rfl) ?_
  refine lv_iconst (pc := 1) (v := 0) hx hb dX11_meet_1 (by decide) ?_
  refine lv_bipush (pc := 2) (v := 100) hx hb dX11_meet_2 (by decide) ?_
  obtain ⟨r2, S1, hc, h⟩ := bnd_t h
  refine s_csi (pc := 4) [.int a3, .int (0 : Int32), .int (100 : Int32)] (fun ad => [.int a3, .int (0 : Int32), .int (100 : Int32)]) F w (m_X11_isNot _ _ _ _ _ _ hc) rfl rfl hl.1 ok_X11_isNot rfl kc_X11_isNot kl_X11_108 ks_X11_isNot kn_X11 ⟨Nat.le_trans (by decide) hR1, Nat.le_trans (by decide) hR2⟩ ⟨Nat.zero_le _, Nat.zero_le _⟩ (Nat.le_of_ble_eq_true rfl) dX11_meet_4 (fun H locs w => ?_)
  refine lv_if_eq (pc := 7) (tgt := 12) hx hb dX11_meet_7 (by decide) (fun q => ?_) (fun q => ?_)
  · have h := ite_t q h
    refine lv_aload_n (pc := 12) hx hb dX11_meet_12 rfl (lv_at hl 0 rfl) ?_
    refine s_getR (pc := 13) F w 1 ds_0 (j := 0) vc_X11 vi_X11 rfl (by decide) kf_X11_10 dX11_meet_13 ?_
    obtain ⟨S3, hc, h⟩ := bndv_t h
    refine s_cvv (pc := 16) [] (fun ad => [.ref (ad 1)]) F w (m_X5_begin  _ _ hc) rfl rfl hl.1 ds_1 vc_X5 rfl ok_X5_begin rfl kc_X5_begin kl_X11_95 ki_X5_begin kv_X5_begin kn_X5 ⟨Nat.le_trans (by decide) hR1, Nat.le_trans (by decide) hR2⟩ ⟨Nat.zero_le _, Nat.zero_le _⟩ (Nat.le_of_ble_eq_true rfl) dX11_meet_16 (fun H locs w => ?_)
    refine lv_aload_n (pc := 19) hx hb dX11_meet_19 rfl (lv_at hl 0 rfl) ?_
    refine lv_iload_n (pc := 20) hx hb dX11_meet_20 rfl (lv_at hl 1 rfl) ?_
    refine lv_bipush (pc := 21) (v := 127) hx hb dX11_meet_21 (by decide) ?_
    refine lv_iload_n (pc := 23) hx hb dX11_meet_23 rfl (lv_at hl 2 rfl) ?_
    obtain ⟨r5, S4, hc, h⟩ := bnd_t h
    refine s_cvi (pc := 24) [.int a1, .int (127 : Int32), .int a2] (fun ad => [.ref (ad 0), .int a1, .int (127 : Int32), .int a2]) F w (m_X11_namedSide _ _ _ _ _ _ hc) rfl rfl hl.1 ds_0 vc_X11 rfl ok_X11_namedSide rfl kc_X11_namedSide kl_X11_259 ki_X11_namedSide kv_X11_namedSide kn_X11 ⟨Nat.le_trans (by decide) hR1, Nat.le_trans (by decide) hR2⟩ ⟨Nat.zero_le _, Nat.zero_le _⟩ (Nat.le_of_ble_eq_true rfl) dX11_meet_24 (fun H locs w => ?_)
    refine lv_istore (pc := 27) (lv' := [(4, .int r5), (0, .ref (ad 0)), (1, .int a1), (2, .int a2), (3, .int a3)]) hx hb dX11_meet_27 hl (by decide) rfl (fun ls hl => ?_)
    refine lv_iload (pc := 29) hx hb dX11_meet_29 (lv_at hl 0 rfl) ?_
    refine lv_if_eq (pc := 31) (tgt := 44) hx hb dX11_meet_31 (by decide) (fun q => ?_) (fun q => ?_)
    · have h := ite_t q h
      refine lv_iconst (pc := 44) (v := 2) hx hb dX11_meet_44 (by decide) ?_
      refine lv_iload_n (pc := 45) hx hb dX11_meet_45 rfl (lv_at hl 2 rfl) ?_
      refine lv_imul (pc := 46) hx hb dX11_meet_46 ?_
      refine lv_iload_n (pc := 47) hx hb dX11_meet_47 rfl (lv_at hl 3 rfl) ?_
      refine lv_iadd (pc := 48) hx hb dX11_meet_48 ?_
      refine s_nm h (fun z6 ez6 h => ?_)
      rw [← ez6]
      refine lv_istore (pc := 49) (lv' := [(5, .int z6), (4, .int r5), (0, .ref (ad 0)), (1, .int a1), (2, .int a2), (3, .int a3)]) hx hb dX11_meet_49 hl (by decide) rfl (fun ls hl => ?_)
      refine lv_iconst (pc := 51) (v := 0) hx hb dX11_meet_51 (by decide) ?_
      refine lv_istore (pc := 52) (lv' := [(6, .int (0 : Int32)), (5, .int z6), (4, .int r5), (0, .ref (ad 0)), (1, .int a1), (2, .int a2), (3, .int a3)]) hx hb dX11_meet_52 hl (by decide) rfl (fun ls hl => ?_)
      exact w_X11_meet_L54 F (Nat.le_trans (by decide) hR1) (Nat.le_trans (by decide) hR2) _ _ _ _ _ h _ _ _ w (lv_sub hl [3, 6, 1, 0] rfl)
    · have h := ite_f q h
      refine lv_aload_n (pc := 34) hx hb dX11_meet_34 rfl (lv_at hl 1 rfl) ?_
      refine s_getR (pc := 35) F w 1 ds_0 (j := 0) vc_X11 vi_X11 rfl (by decide) kf_X11_10 dX11_meet_35 ?_
      refine lv_iload (pc := 38) hx hb dX11_meet_38 (lv_at hl 0 rfl) ?_
      obtain ⟨r13, S12, hc, h⟩ := bnd_t h
      refine s_cvi (pc := 40) [.int r5] (fun ad => [.ref (ad 1), .int r5]) F w (m_X5_found _ _ _ _ hc) rfl rfl hl.1 ds_1 vc_X5 rfl ok_X5_found rfl kc_X5_found kl_X11_98 ki_X5_found kv_X5_found kn_X5 ⟨Nat.le_trans (by decide) hR1, Nat.le_trans (by decide) hR2⟩ ⟨Nat.zero_le _, Nat.zero_le _⟩ (Nat.le_of_ble_eq_true rfl) dX11_meet_40 (fun H locs w => ?_)
      exact s_iret F w h dX11_meet_43
  · have h := ite_f q h
    refine lv_iconst (pc := 10) (v := -1) hx hb dX11_meet_10 (by decide) ?_
    exact s_iret F w h dX11_meet_11
def f_X12_meet_L42  : Nat → Int32 → Int32 → Int32 → Int32 → SS → Option (Int32 × SS)
  | 0, _, _, _, _, _ => none
  | n + 1, x3, x4, x5, x6, S =>
    if x3 ≤ x6 then
      some (x4, S)
    else
      grd (inb (((2 : Int32) * x4) + x5) 144) (
      nm (S.1 90 (((2 : Int32) * x4) + x5).toNatClampNeg) (fun z6 =>
      if z6 = (-4 : Int32) then
        bnd (f_X12_found (1 : Int32) S) (fun r12 S11 =>
        some (r12, S11))
      else
        bnd (f_X12_sideTo z6 x4 S) (fun r8 S7 =>
        nm ((1 : Int32) - r8) (fun z9 =>
        nm (x6 + (1 : Int32)) (fun z10 =>
        f_X12_meet_L42 n x3 z6 z9 z10 S7)))))
def f_X12_meet (a1 : Int32) (a2 : Int32) (a3 : Int32) (S : SS) : Option (Int32 × SS) :=
  if a3 < 0 then
    some ((-1 : Int32), S)
  else
    if a3 ≤ (100 : Int32) then
      bndv (f_X12_begin  S) (fun S1 =>
      bnd (f_X12_missSide a1 (0 : Int32) a2 S1) (fun r3 S2 =>
      bnd (f_X12_ends r3 S2) (fun r5 S4 =>
      if r5 = 0 then
        f_X12_meet_L42 NF a3 a1 a2 (0 : Int32) S4
      else
        some ((-2 : Int32), S4))))
    else
      some ((-1 : Int32), S)
theorem dX12_meet_0 : decode cX12_meet 0 = .ok (.iload_n 3, 1) := by decide +kernel
theorem dX12_meet_1 : decode cX12_meet 1 = .ok (.ifCond .lt 9, 3) := by decide +kernel
theorem dX12_meet_4 : decode cX12_meet 4 = .ok (.iload_n 3, 1) := by decide +kernel
theorem dX12_meet_5 : decode cX12_meet 5 = .ok (.bipush 100, 2) := by decide +kernel
theorem dX12_meet_7 : decode cX12_meet 7 = .ok (.if_icmp .le 5, 3) := by decide +kernel
theorem dX12_meet_10 : decode cX12_meet 10 = .ok (.iconst (-1), 1) := by decide +kernel
theorem dX12_meet_11 : decode cX12_meet 11 = .ok (.ireturn, 1) := by decide +kernel
theorem dX12_meet_12 : decode cX12_meet 12 = .ok (.aload_n 0, 1) := by decide +kernel
theorem dX12_meet_13 : decode cX12_meet 13 = .ok (.invokevirtual 226, 3) := by decide +kernel
theorem dX12_meet_16 : decode cX12_meet 16 = .ok (.aload_n 0, 1) := by decide +kernel
theorem dX12_meet_17 : decode cX12_meet 17 = .ok (.aload_n 0, 1) := by decide +kernel
theorem dX12_meet_18 : decode cX12_meet 18 = .ok (.iload_n 1, 1) := by decide +kernel
theorem dX12_meet_19 : decode cX12_meet 19 = .ok (.iconst 0, 1) := by decide +kernel
theorem dX12_meet_20 : decode cX12_meet 20 = .ok (.iload_n 2, 1) := by decide +kernel
theorem dX12_meet_21 : decode cX12_meet 21 = .ok (.invokevirtual 364, 3) := by decide +kernel
theorem dX12_meet_24 : decode cX12_meet 24 = .ok (.invokevirtual 236, 3) := by decide +kernel
theorem dX12_meet_27 : decode cX12_meet 27 = .ok (.ifCond .eq 6, 3) := by decide +kernel
theorem dX12_meet_30 : decode cX12_meet 30 = .ok (.bipush (-2), 2) := by decide +kernel
theorem dX12_meet_32 : decode cX12_meet 32 = .ok (.ireturn, 1) := by decide +kernel
theorem dX12_meet_33 : decode cX12_meet 33 = .ok (.iload_n 1, 1) := by decide +kernel
theorem dX12_meet_34 : decode cX12_meet 34 = .ok (.istore 4, 2) := by decide +kernel
theorem dX12_meet_36 : decode cX12_meet 36 = .ok (.iload_n 2, 1) := by decide +kernel
theorem dX12_meet_37 : decode cX12_meet 37 = .ok (.istore 5, 2) := by decide +kernel
theorem dX12_meet_39 : decode cX12_meet 39 = .ok (.iconst 0, 1) := by decide +kernel
theorem dX12_meet_40 : decode cX12_meet 40 = .ok (.istore 6, 2) := by decide +kernel
theorem dX12_meet_42 : decode cX12_meet 42 = .ok (.iload 6, 2) := by decide +kernel
theorem dX12_meet_44 : decode cX12_meet 44 = .ok (.iload_n 3, 1) := by decide +kernel
theorem dX12_meet_45 : decode cX12_meet 45 = .ok (.if_icmp .ge 52, 3) := by decide +kernel
theorem dX12_meet_48 : decode cX12_meet 48 = .ok (.aload_n 0, 1) := by decide +kernel
theorem dX12_meet_49 : decode cX12_meet 49 = .ok (.getfield 84, 3) := by decide +kernel
theorem dX12_meet_52 : decode cX12_meet 52 = .ok (.iconst 2, 1) := by decide +kernel
theorem dX12_meet_53 : decode cX12_meet 53 = .ok (.iload 4, 2) := by decide +kernel
theorem dX12_meet_55 : decode cX12_meet 55 = .ok (.imul, 1) := by decide +kernel
theorem dX12_meet_56 : decode cX12_meet 56 = .ok (.iload 5, 2) := by decide +kernel
theorem dX12_meet_58 : decode cX12_meet 58 = .ok (.iadd, 1) := by decide +kernel
theorem dX12_meet_59 : decode cX12_meet 59 = .ok (.iaload, 1) := by decide +kernel
theorem dX12_meet_60 : decode cX12_meet 60 = .ok (.istore 7, 2) := by decide +kernel
theorem dX12_meet_62 : decode cX12_meet 62 = .ok (.iload 7, 2) := by decide +kernel
theorem dX12_meet_64 : decode cX12_meet 64 = .ok (.bipush (-4), 2) := by decide +kernel
theorem dX12_meet_66 : decode cX12_meet 66 = .ok (.if_icmp .ne 9, 3) := by decide +kernel
theorem dX12_meet_69 : decode cX12_meet 69 = .ok (.aload_n 0, 1) := by decide +kernel
theorem dX12_meet_70 : decode cX12_meet 70 = .ok (.iconst 1, 1) := by decide +kernel
theorem dX12_meet_71 : decode cX12_meet 71 = .ok (.invokevirtual 210, 3) := by decide +kernel
theorem dX12_meet_74 : decode cX12_meet 74 = .ok (.ireturn, 1) := by decide +kernel
theorem dX12_meet_75 : decode cX12_meet 75 = .ok (.iconst 1, 1) := by decide +kernel
theorem dX12_meet_76 : decode cX12_meet 76 = .ok (.aload_n 0, 1) := by decide +kernel
theorem dX12_meet_77 : decode cX12_meet 77 = .ok (.iload 7, 2) := by decide +kernel
theorem dX12_meet_79 : decode cX12_meet 79 = .ok (.iload 4, 2) := by decide +kernel
theorem dX12_meet_81 : decode cX12_meet 81 = .ok (.invokevirtual 313, 3) := by decide +kernel
theorem dX12_meet_84 : decode cX12_meet 84 = .ok (.isub, 1) := by decide +kernel
theorem dX12_meet_85 : decode cX12_meet 85 = .ok (.istore 5, 2) := by decide +kernel
theorem dX12_meet_87 : decode cX12_meet 87 = .ok (.iload 7, 2) := by decide +kernel
theorem dX12_meet_89 : decode cX12_meet 89 = .ok (.istore 4, 2) := by decide +kernel
theorem dX12_meet_91 : decode cX12_meet 91 = .ok (.iinc 6 1, 3) := by decide +kernel
theorem dX12_meet_94 : decode cX12_meet 94 = .ok (.goto (-52), 3) := by decide +kernel
theorem dX12_meet_97 : decode cX12_meet 97 = .ok (.iload 4, 2) := by decide +kernel
theorem dX12_meet_99 : decode cX12_meet 99 = .ok (.ireturn, 1) := by decide +kernel
set_option maxRecDepth 100000 in
set_option maxHeartbeats 4000000 in
theorem w_X12_meet_L42 {p : Program} {l : Launch} {e : Env} {R : Room} {s : State} {m : MethodId} {args : Array Value} {below : List Frame} {meth : Method} {c : Code} {dC : Nat → ClassId} {dI : Nat → Nat → Nat} {cs : Nat → ClassId} {ad : Nat → Nat} {A : Nat → Prop} {D0 : Nat → Nat} {S' : SS} {r : Int32} (F : Fx p s m args meth c cX12_meet 8 RX12 (some .int) dC dI cs A) (hR1 : 1 ≤ R.frames) (hR2 : 22 ≤ R.locals) : ∀ (n : Nat) (x3 : Int32) (x4 : Int32) (x5 : Int32) (x6 : Int32) (S : SS), f_X12_meet_L42 n x3 x4 x5 x6 S = some (r, S') → AW p l e R s m args below meth c dC dI cs ad A D0 (some (.int r)) S' 8 42 [(0, .ref (ad 14)), (3, .int x3), (4, .int x4), (5, .int x5), (6, .int x6)] [] S := by
  have hx := F.1.1
  have hb := F.1.2.1
  intro n
  induction n with
  | zero => intro x3 x4 x5 x6 S h; cases h
  | succ n ih =>
    intro x3 x4 x5 x6 S h H locs ls w hl
    rw [f_X12_meet_L42] at h
    refine lv_iload (pc := 42) hx hb dX12_meet_42 (lv_at hl 4 rfl) ?_
    refine lv_iload_n (pc := 44) hx hb dX12_meet_44 rfl (lv_at hl 1 rfl) ?_
    refine lv_icmp_ge (pc := 45) (tgt := 97) hx hb dX12_meet_45 (by decide) (fun q => ?_) (fun q => ?_)
    · have h := ite_t q h
      refine lv_iload (pc := 97) hx hb dX12_meet_97 (lv_at hl 2 rfl) ?_
      exact s_iret F w h dX12_meet_99
    · have h := ite_f q h
      refine lv_aload_n (pc := 48) hx hb dX12_meet_48 rfl (lv_at hl 0 rfl) ?_
      refine s_getR (pc := 49) F w 90 ds_14 (j := 35) vc_X12 vi_X12 rfl (by decide) kf_X12_84 dX12_meet_49 ?_
      refine lv_iconst (pc := 52) (v := 2) hx hb dX12_meet_52 (by decide) ?_
      refine lv_iload (pc := 53) hx hb dX12_meet_53 (lv_at hl 2 rfl) ?_
      refine lv_imul (pc := 55) hx hb dX12_meet_55 ?_
      refine lv_iload (pc := 56) hx hb dX12_meet_56 (lv_at hl 3 rfl) ?_
      refine lv_iadd (pc := 58) hx hb dX12_meet_58 ?_
      refine s_iald (pc := 59) F w ds_90 h dX12_meet_59 (fun h => ?_)
      refine s_nm h (fun z6 ez6 h => ?_)
      rw [← ez6]
      refine lv_istore (pc := 60) (lv' := [(7, .int z6), (0, .ref (ad 14)), (3, .int x3), (4, .int x4), (5, .int x5), (6, .int x6)]) hx hb dX12_meet_60 hl (by decide) rfl (fun ls hl => ?_)
      refine lv_iload (pc := 62) hx hb dX12_meet_62 (lv_at hl 0 rfl) ?_
      refine lv_bipush (pc := 64) (v := -4) hx hb dX12_meet_64 (by decide) ?_
      refine lv_icmp_ne (pc := 66) (tgt := 75) hx hb dX12_meet_66 (by decide) (fun q => ?_) (fun q => ?_)
      · have h := ite_f q h
        refine lv_iconst (pc := 75) (v := 1) hx hb dX12_meet_75 (by decide) ?_
        refine lv_aload_n (pc := 76) hx hb dX12_meet_76 rfl (lv_at hl 1 rfl) ?_
        refine lv_iload (pc := 77) hx hb dX12_meet_77 (lv_at hl 0 rfl) ?_
        refine lv_iload (pc := 79) hx hb dX12_meet_79 (lv_at hl 3 rfl) ?_
        obtain ⟨r8, S7, hc, h⟩ := bnd_t h
        refine s_cvi (pc := 81) [.int z6, .int x4] (fun ad => [.ref (ad 14), .int z6, .int x4]) F w (m_X12_sideTo _ _ _ _ _ hc) rfl rfl hl.1 ds_14 vc_X12 rfl ok_X12_sideTo rfl kc_X12_sideTo kl_X12_313 ki_X12_sideTo kv_X12_sideTo kn_X12 ⟨Nat.le_trans (by decide) hR1, Nat.le_trans (by decide) hR2⟩ ⟨Nat.zero_le _, Nat.zero_le _⟩ (Nat.le_of_ble_eq_true rfl) dX12_meet_81 (fun H locs w => ?_)
        refine lv_isub (pc := 84) hx hb dX12_meet_84 ?_
        refine s_nm h (fun z9 ez9 h => ?_)
        rw [← ez9]
        refine lv_istore (pc := 85) (lv' := [(5, .int z9), (7, .int z6), (0, .ref (ad 14)), (3, .int x3), (4, .int x4), (6, .int x6)]) hx hb dX12_meet_85 hl (by decide) rfl (fun ls hl => ?_)
        refine lv_iload (pc := 87) hx hb dX12_meet_87 (lv_at hl 1 rfl) ?_
        refine lv_istore (pc := 89) (lv' := [(4, .int z6), (5, .int z9), (7, .int z6), (0, .ref (ad 14)), (3, .int x3), (6, .int x6)]) hx hb dX12_meet_89 hl (by decide) rfl (fun ls hl => ?_)
        refine s_nm h (fun z10 ez10 h => ?_)
        refine lv_iinc (pc := 91) (v := z10) (lv' := [(6, .int z10), (4, .int z6), (5, .int z9), (7, .int z6), (0, .ref (ad 14)), (3, .int x3)]) hx hb dX12_meet_91 hl (k := 5) rfl (by rw [ez10]; rfl) (by decide) rfl (fun ls hl => ?_)
        refine lv_goto (pc := 94) (tgt := 42) hx hb dX12_meet_94 (by decide) ?_
        exact ih _ _ _ _ _ h _ _ _ w (lv_sub hl [4, 5, 1, 2, 0] rfl)
      · have h := ite_t q h
        refine lv_aload_n (pc := 69) hx hb dX12_meet_69 rfl (lv_at hl 1 rfl) ?_
        refine lv_iconst (pc := 70) (v := 1) hx hb dX12_meet_70 (by decide) ?_
        obtain ⟨r12, S11, hc, h⟩ := bnd_t h
        refine s_cvi (pc := 71) [.int (1 : Int32)] (fun ad => [.ref (ad 14), .int (1 : Int32)]) F w (m_X12_found _ _ _ _ hc) rfl rfl hl.1 ds_14 vc_X12 rfl ok_X12_found rfl kc_X12_found kl_X12_210 ki_X12_found kv_X12_found kn_X12 ⟨Nat.le_trans (by decide) hR1, Nat.le_trans (by decide) hR2⟩ ⟨Nat.zero_le _, Nat.zero_le _⟩ (Nat.le_of_ble_eq_true rfl) dX12_meet_71 (fun H locs w => ?_)
        exact s_iret F w h dX12_meet_74
set_option maxRecDepth 100000 in
set_option maxHeartbeats 4000000 in
theorem m_X12_meet (a1 : Int32) (a2 : Int32) (a3 : Int32) (S S' : SS) (r : Int32) (h : f_X12_meet a1 a2 a3 S = some (r, S')) : MT yX12_meet cX12_meet 8 (some .int) 3 69 (fun ad => [.ref (ad 14), .int a1, .int a2, .int a3]) S (some (.int r)) S' := by
  refine MT.of RX12 (fun ad => [(0, .ref (ad 14)), (1, .int a1), (2, .int a2), (3, .int a3)]) (by decide) rfl (fun _ => Nat.le_of_ble_eq_true rfl) (fun _ => rfl) ?_
  intro p l e R s m args below meth c dC dI cs ad A hR1 hR2 F H locs ls w hl
  have hx := F.1.1
  have hb := F.1.2.1
  rw [f_X12_meet] at h
  refine lv_iload_n (pc := 0) hx hb dX12_meet_0 rfl (lv_at hl 3 rfl) ?_
  refine lv_if_lt (pc := 1) (tgt := 10) hx hb dX12_meet_1 (by decide) (fun q => ?_) (fun q => ?_)
  · have h := ite_t q h
    refine lv_iconst (pc := 10) (v := -1) hx hb dX12_meet_10 (by decide) ?_
    exact s_iret F w h dX12_meet_11
  · have h := ite_f q h
    refine lv_iload_n (pc := 4) hx hb dX12_meet_4 rfl (lv_at hl 3 rfl) ?_
    refine lv_bipush (pc := 5) (v := 100) hx hb dX12_meet_5 (by decide) ?_
    refine lv_icmp_le (pc := 7) (tgt := 12) hx hb dX12_meet_7 (by decide) (fun q => ?_) (fun q => ?_)
    · have h := ite_t q h
      refine lv_aload_n (pc := 12) hx hb dX12_meet_12 rfl (lv_at hl 0 rfl) ?_
      obtain ⟨S1, hc, h⟩ := bndv_t h
      refine s_cvv (pc := 13) [] (fun ad => [.ref (ad 14)]) F w (m_X12_begin  _ _ hc) rfl rfl hl.1 ds_14 vc_X12 rfl ok_X12_begin rfl kc_X12_begin kl_X12_226 ki_X12_begin kv_X12_begin kn_X12 ⟨Nat.le_trans (by decide) hR1, Nat.le_trans (by decide) hR2⟩ ⟨Nat.zero_le _, Nat.zero_le _⟩ (Nat.le_of_ble_eq_true rfl) dX12_meet_13 (fun H locs w => ?_)
      refine lv_aload_n (pc := 16) hx hb dX12_meet_16 rfl (lv_at hl 0 rfl) ?_
      refine lv_aload_n (pc := 17) hx hb dX12_meet_17 rfl (lv_at hl 0 rfl) ?_
      refine lv_iload_n (pc := 18) hx hb dX12_meet_18 rfl (lv_at hl 1 rfl) ?_
      refine lv_iconst (pc := 19) (v := 0) hx hb dX12_meet_19 (by decide) ?_
      refine lv_iload_n (pc := 20) hx hb dX12_meet_20 rfl (lv_at hl 2 rfl) ?_
      obtain ⟨r3, S2, hc, h⟩ := bnd_t h
      refine s_cvi (pc := 21) [.int a1, .int (0 : Int32), .int a2] (fun ad => [.ref (ad 14), .int a1, .int (0 : Int32), .int a2]) F w (m_X12_missSide _ _ _ _ _ _ hc) rfl rfl hl.1 ds_14 vc_X12 rfl ok_X12_missSide rfl kc_X12_missSide kl_X12_364 ki_X12_missSide kv_X12_missSide kn_X12 ⟨Nat.le_trans (by decide) hR1, Nat.le_trans (by decide) hR2⟩ ⟨Nat.zero_le _, Nat.zero_le _⟩ (Nat.le_of_ble_eq_true rfl) dX12_meet_21 (fun H locs w => ?_)
      obtain ⟨r5, S4, hc, h⟩ := bnd_t h
      refine s_cvi (pc := 24) [.int r3] (fun ad => [.ref (ad 14), .int r3]) F w (m_X12_ends _ _ _ _ hc) rfl rfl hl.1 ds_14 vc_X12 rfl ok_X12_ends rfl kc_X12_ends kl_X12_236 ki_X12_ends kv_X12_ends kn_X12 ⟨Nat.le_trans (by decide) hR1, Nat.le_trans (by decide) hR2⟩ ⟨Nat.zero_le _, Nat.zero_le _⟩ (Nat.le_of_ble_eq_true rfl) dX12_meet_24 (fun H locs w => ?_)
      refine lv_if_eq (pc := 27) (tgt := 33) hx hb dX12_meet_27 (by decide) (fun q => ?_) (fun q => ?_)
      · have h := ite_t q h
        refine lv_iload_n (pc := 33) hx hb dX12_meet_33 rfl (lv_at hl 1 rfl) ?_
        refine lv_istore (pc := 34) (lv' := [(4, .int a1), (0, .ref (ad 14)), (1, .int a1), (2, .int a2), (3, .int a3)]) hx hb dX12_meet_34 hl (by decide) rfl (fun ls hl => ?_)
        refine lv_iload_n (pc := 36) hx hb dX12_meet_36 rfl (lv_at hl 3 rfl) ?_
        refine lv_istore (pc := 37) (lv' := [(5, .int a2), (4, .int a1), (0, .ref (ad 14)), (1, .int a1), (2, .int a2), (3, .int a3)]) hx hb dX12_meet_37 hl (by decide) rfl (fun ls hl => ?_)
        refine lv_iconst (pc := 39) (v := 0) hx hb dX12_meet_39 (by decide) ?_
        refine lv_istore (pc := 40) (lv' := [(6, .int (0 : Int32)), (5, .int a2), (4, .int a1), (0, .ref (ad 14)), (1, .int a1), (2, .int a2), (3, .int a3)]) hx hb dX12_meet_40 hl (by decide) rfl (fun ls hl => ?_)
        exact w_X12_meet_L42 F (Nat.le_trans (by decide) hR1) (Nat.le_trans (by decide) hR2) _ _ _ _ _ _ h _ _ _ w (lv_sub hl [3, 6, 2, 1, 0] rfl)
      · have h := ite_f q h
        refine lv_bipush (pc := 30) (v := -2) hx hb dX12_meet_30 (by decide) ?_
        exact s_iret F w h dX12_meet_32
    · have h := ite_f q h
      refine lv_iconst (pc := 10) (v := -1) hx hb dX12_meet_10 (by decide) ?_
      exact s_iret F w h dX12_meet_11
def f_X11_weigh (a1 : Int32) (S : SS) : Option (Int32 × SS) :=
  bndv (f_X5_begin  S) (fun S1 =>
  bnd (f_X11_named a1 (127 : Int32) S1) (fun r3 S2 =>
  if r3 = 0 then
    bndv (f_X10_lineUp ((2 : Int32) * a1) S2) (fun S4 =>
    bnd (f_X11_lineWeight  S4) (fun r6 S5 =>
    some (r6, S5)))
  else
    bnd (f_X5_found r3 S2) (fun r8 S7 =>
    some (r8, S7))))
theorem dX11_weigh_0 : decode cX11_weigh 0 = .ok (.aload_n 0, 1) := by decide +kernel
theorem dX11_weigh_1 : decode cX11_weigh 1 = .ok (.getfield 10, 3) := by decide +kernel
theorem dX11_weigh_4 : decode cX11_weigh 4 = .ok (.invokevirtual 95, 3) := by decide +kernel
theorem dX11_weigh_7 : decode cX11_weigh 7 = .ok (.aload_n 0, 1) := by decide +kernel
theorem dX11_weigh_8 : decode cX11_weigh 8 = .ok (.iload_n 1, 1) := by decide +kernel
theorem dX11_weigh_9 : decode cX11_weigh 9 = .ok (.bipush 127, 2) := by decide +kernel
theorem dX11_weigh_11 : decode cX11_weigh 11 = .ok (.invokevirtual 185, 3) := by decide +kernel
theorem dX11_weigh_14 : decode cX11_weigh 14 = .ok (.istore_n 2, 1) := by decide +kernel
theorem dX11_weigh_15 : decode cX11_weigh 15 = .ok (.iload_n 2, 1) := by decide +kernel
theorem dX11_weigh_16 : decode cX11_weigh 16 = .ok (.ifCond .eq 12, 3) := by decide +kernel
theorem dX11_weigh_19 : decode cX11_weigh 19 = .ok (.aload_n 0, 1) := by decide +kernel
theorem dX11_weigh_20 : decode cX11_weigh 20 = .ok (.getfield 10, 3) := by decide +kernel
theorem dX11_weigh_23 : decode cX11_weigh 23 = .ok (.iload_n 2, 1) := by decide +kernel
theorem dX11_weigh_24 : decode cX11_weigh 24 = .ok (.invokevirtual 98, 3) := by decide +kernel
theorem dX11_weigh_27 : decode cX11_weigh 27 = .ok (.ireturn, 1) := by decide +kernel
theorem dX11_weigh_28 : decode cX11_weigh 28 = .ok (.aload_n 0, 1) := by decide +kernel
theorem dX11_weigh_29 : decode cX11_weigh 29 = .ok (.getfield 58, 3) := by decide +kernel
theorem dX11_weigh_32 : decode cX11_weigh 32 = .ok (.iconst 2, 1) := by decide +kernel
theorem dX11_weigh_33 : decode cX11_weigh 33 = .ok (.iload_n 1, 1) := by decide +kernel
theorem dX11_weigh_34 : decode cX11_weigh 34 = .ok (.imul, 1) := by decide +kernel
theorem dX11_weigh_35 : decode cX11_weigh 35 = .ok (.invokevirtual 281, 3) := by decide +kernel
theorem dX11_weigh_38 : decode cX11_weigh 38 = .ok (.aload_n 0, 1) := by decide +kernel
theorem dX11_weigh_39 : decode cX11_weigh 39 = .ok (.invokevirtual 284, 3) := by decide +kernel
theorem dX11_weigh_42 : decode cX11_weigh 42 = .ok (.ireturn, 1) := by decide +kernel
set_option maxRecDepth 100000 in
set_option maxHeartbeats 4000000 in
theorem m_X11_weigh (a1 : Int32) (S S' : SS) (r : Int32) (h : f_X11_weigh a1 S = some (r, S')) : MT yX11_weigh cX11_weigh 3 (some .int) 5 107 (fun ad => [.ref (ad 0), .int a1]) S (some (.int r)) S' := by
  refine MT.of RX11 (fun ad => [(0, .ref (ad 0)), (1, .int a1)]) (by decide) rfl (fun _ => Nat.le_of_ble_eq_true rfl) (fun _ => rfl) ?_
  intro p l e R s m args below meth c dC dI cs ad A hR1 hR2 F H locs ls w hl
  have hx := F.1.1
  have hb := F.1.2.1
  rw [f_X11_weigh] at h
  refine lv_aload_n (pc := 0) hx hb dX11_weigh_0 rfl (lv_at hl 0 rfl) ?_
  refine s_getR (pc := 1) F w 1 ds_0 (j := 0) vc_X11 vi_X11 rfl (by decide) kf_X11_10 dX11_weigh_1 ?_
  obtain ⟨S1, hc, h⟩ := bndv_t h
  refine s_cvv (pc := 4) [] (fun ad => [.ref (ad 1)]) F w (m_X5_begin  _ _ hc) rfl rfl hl.1 ds_1 vc_X5 rfl ok_X5_begin rfl kc_X5_begin kl_X11_95 ki_X5_begin kv_X5_begin kn_X5 ⟨Nat.le_trans (by decide) hR1, Nat.le_trans (by decide) hR2⟩ ⟨Nat.zero_le _, Nat.zero_le _⟩ (Nat.le_of_ble_eq_true rfl) dX11_weigh_4 (fun H locs w => ?_)
  refine lv_aload_n (pc := 7) hx hb dX11_weigh_7 rfl (lv_at hl 0 rfl) ?_
  refine lv_iload_n (pc := 8) hx hb dX11_weigh_8 rfl (lv_at hl 1 rfl) ?_
  refine lv_bipush (pc := 9) (v := 127) hx hb dX11_weigh_9 (by decide) ?_
  obtain ⟨r3, S2, hc, h⟩ := bnd_t h
  refine s_cvi (pc := 11) [.int a1, .int (127 : Int32)] (fun ad => [.ref (ad 0), .int a1, .int (127 : Int32)]) F w (m_X11_named _ _ _ _ _ hc) rfl rfl hl.1 ds_0 vc_X11 rfl ok_X11_named rfl kc_X11_named kl_X11_185 ki_X11_named kv_X11_named kn_X11 ⟨Nat.le_trans (by decide) hR1, Nat.le_trans (by decide) hR2⟩ ⟨Nat.zero_le _, Nat.zero_le _⟩ (Nat.le_of_ble_eq_true rfl) dX11_weigh_11 (fun H locs w => ?_)
  refine lv_istore_n (pc := 14) (lv' := [(2, .int r3), (0, .ref (ad 0)), (1, .int a1)]) hx hb dX11_weigh_14 rfl hl (by decide) rfl (fun ls hl => ?_)
  refine lv_iload_n (pc := 15) hx hb dX11_weigh_15 rfl (lv_at hl 0 rfl) ?_
  refine lv_if_eq (pc := 16) (tgt := 28) hx hb dX11_weigh_16 (by decide) (fun q => ?_) (fun q => ?_)
  · have h := ite_t q h
    refine lv_aload_n (pc := 28) hx hb dX11_weigh_28 rfl (lv_at hl 1 rfl) ?_
    refine s_getR (pc := 29) F w 7 ds_0 (j := 6) vc_X11 vi_X11 rfl (by decide) kf_X11_58 dX11_weigh_29 ?_
    refine lv_iconst (pc := 32) (v := 2) hx hb dX11_weigh_32 (by decide) ?_
    refine lv_iload_n (pc := 33) hx hb dX11_weigh_33 rfl (lv_at hl 2 rfl) ?_
    refine lv_imul (pc := 34) hx hb dX11_weigh_34 ?_
    obtain ⟨S4, hc, h⟩ := bndv_t h
    refine s_cvv (pc := 35) [.int ((2 : Int32) * a1)] (fun ad => [.ref (ad 7), .int ((2 : Int32) * a1)]) F w (m_X10_lineUp _ _ _ hc) rfl rfl hl.1 ds_7 vc_X10 rfl ok_X10_lineUp rfl kc_X10_lineUp kl_X11_281 ki_X10_lineUp kv_X10_lineUp kn_X10 ⟨Nat.le_trans (by decide) hR1, Nat.le_trans (by decide) hR2⟩ ⟨Nat.zero_le _, Nat.zero_le _⟩ (Nat.le_of_ble_eq_true rfl) dX11_weigh_35 (fun H locs w => ?_)
    refine lv_aload_n (pc := 38) hx hb dX11_weigh_38 rfl (lv_at hl 1 rfl) ?_
    obtain ⟨r6, S5, hc, h⟩ := bnd_t h
    refine s_cvi (pc := 39) [] (fun ad => [.ref (ad 0)]) F w (m_X11_lineWeight  _ _ _ hc) rfl rfl hl.1 ds_0 vc_X11 rfl ok_X11_lineWeight rfl kc_X11_lineWeight kl_X11_284 ki_X11_lineWeight kv_X11_lineWeight kn_X11 ⟨Nat.le_trans (by decide) hR1, Nat.le_trans (by decide) hR2⟩ ⟨Nat.zero_le _, Nat.zero_le _⟩ (Nat.le_of_ble_eq_true rfl) dX11_weigh_39 (fun H locs w => ?_)
    exact s_iret F w h dX11_weigh_42
  · have h := ite_f q h
    refine lv_aload_n (pc := 19) hx hb dX11_weigh_19 rfl (lv_at hl 1 rfl) ?_
    refine s_getR (pc := 20) F w 1 ds_0 (j := 0) vc_X11 vi_X11 rfl (by decide) kf_X11_10 dX11_weigh_20 ?_
    refine lv_iload_n (pc := 23) hx hb dX11_weigh_23 rfl (lv_at hl 0 rfl) ?_
    obtain ⟨r8, S7, hc, h⟩ := bnd_t h
    refine s_cvi (pc := 24) [.int r3] (fun ad => [.ref (ad 1), .int r3]) F w (m_X5_found _ _ _ _ hc) rfl rfl hl.1 ds_1 vc_X5 rfl ok_X5_found rfl kc_X5_found kl_X11_98 ki_X5_found kv_X5_found kn_X5 ⟨Nat.le_trans (by decide) hR1, Nat.le_trans (by decide) hR2⟩ ⟨Nat.zero_le _, Nat.zero_le _⟩ (Nat.le_of_ble_eq_true rfl) dX11_weigh_24 (fun H locs w => ?_)
    exact s_iret F w h dX11_weigh_27
def f_X12_weigh_L29  : Nat → Int32 → Int32 → SS → Option (Int32 × SS)
  | 0, _, _, _ => none
  | n + 1, x2, x3, S =>
    if (S.1 14 56) ≤ x3 then
      some (x2, S)
    else
      grd (inb x3 72) (
      bnd (f_X12_weight (S.1 106 x3.toNatClampNeg) S) (fun r8 S7 =>
      nm (x2 + r8) (fun z9 =>
      nm (x3 + (1 : Int32)) (fun z10 =>
      f_X12_weigh_L29 n z9 z10 S7))))
def f_X12_weigh (a1 : Int32) (S : SS) : Option (Int32 × SS) :=
  bndv (f_X12_begin  S) (fun S1 =>
  bnd (f_X12_missThing a1 (0 : Int32) S1) (fun r3 S2 =>
  bnd (f_X12_ends r3 S2) (fun r5 S4 =>
  if r5 = 0 then
    bndv (f_X12_lineUp a1 S4) (fun S6 =>
    f_X12_weigh_L29 NF (0 : Int32) (0 : Int32) S6)
  else
    some ((-2 : Int32), S4))))
theorem dX12_weigh_0 : decode cX12_weigh 0 = .ok (.aload_n 0, 1) := by decide +kernel
theorem dX12_weigh_1 : decode cX12_weigh 1 = .ok (.invokevirtual 226, 3) := by decide +kernel
theorem dX12_weigh_4 : decode cX12_weigh 4 = .ok (.aload_n 0, 1) := by decide +kernel
theorem dX12_weigh_5 : decode cX12_weigh 5 = .ok (.aload_n 0, 1) := by decide +kernel
theorem dX12_weigh_6 : decode cX12_weigh 6 = .ok (.iload_n 1, 1) := by decide +kernel
theorem dX12_weigh_7 : decode cX12_weigh 7 = .ok (.iconst 0, 1) := by decide +kernel
theorem dX12_weigh_8 : decode cX12_weigh 8 = .ok (.invokevirtual 293, 3) := by decide +kernel
theorem dX12_weigh_11 : decode cX12_weigh 11 = .ok (.invokevirtual 236, 3) := by decide +kernel
theorem dX12_weigh_14 : decode cX12_weigh 14 = .ok (.ifCond .eq 6, 3) := by decide +kernel
theorem dX12_weigh_17 : decode cX12_weigh 17 = .ok (.bipush (-2), 2) := by decide +kernel
theorem dX12_weigh_19 : decode cX12_weigh 19 = .ok (.ireturn, 1) := by decide +kernel
theorem dX12_weigh_20 : decode cX12_weigh 20 = .ok (.aload_n 0, 1) := by decide +kernel
theorem dX12_weigh_21 : decode cX12_weigh 21 = .ok (.iload_n 1, 1) := by decide +kernel
theorem dX12_weigh_22 : decode cX12_weigh 22 = .ok (.invokevirtual 325, 3) := by decide +kernel
theorem dX12_weigh_25 : decode cX12_weigh 25 = .ok (.iconst 0, 1) := by decide +kernel
theorem dX12_weigh_26 : decode cX12_weigh 26 = .ok (.istore_n 2, 1) := by decide +kernel
theorem dX12_weigh_27 : decode cX12_weigh 27 = .ok (.iconst 0, 1) := by decide +kernel
theorem dX12_weigh_28 : decode cX12_weigh 28 = .ok (.istore_n 3, 1) := by decide +kernel
theorem dX12_weigh_29 : decode cX12_weigh 29 = .ok (.iload_n 3, 1) := by decide +kernel
theorem dX12_weigh_30 : decode cX12_weigh 30 = .ok (.aload_n 0, 1) := by decide +kernel
theorem dX12_weigh_31 : decode cX12_weigh 31 = .ok (.getfield 319, 3) := by decide +kernel
theorem dX12_weigh_34 : decode cX12_weigh 34 = .ok (.if_icmp .ge 22, 3) := by decide +kernel
theorem dX12_weigh_37 : decode cX12_weigh 37 = .ok (.iload_n 2, 1) := by decide +kernel
theorem dX12_weigh_38 : decode cX12_weigh 38 = .ok (.aload_n 0, 1) := by decide +kernel
theorem dX12_weigh_39 : decode cX12_weigh 39 = .ok (.aload_n 0, 1) := by decide +kernel
theorem dX12_weigh_40 : decode cX12_weigh 40 = .ok (.getfield 132, 3) := by decide +kernel
theorem dX12_weigh_43 : decode cX12_weigh 43 = .ok (.iload_n 3, 1) := by decide +kernel
theorem dX12_weigh_44 : decode cX12_weigh 44 = .ok (.iaload, 1) := by decide +kernel
theorem dX12_weigh_45 : decode cX12_weigh 45 = .ok (.invokevirtual 303, 3) := by decide +kernel
theorem dX12_weigh_48 : decode cX12_weigh 48 = .ok (.iadd, 1) := by decide +kernel
theorem dX12_weigh_49 : decode cX12_weigh 49 = .ok (.istore_n 2, 1) := by decide +kernel
theorem dX12_weigh_50 : decode cX12_weigh 50 = .ok (.iinc 3 1, 3) := by decide +kernel
theorem dX12_weigh_53 : decode cX12_weigh 53 = .ok (.goto (-24), 3) := by decide +kernel
theorem dX12_weigh_56 : decode cX12_weigh 56 = .ok (.iload_n 2, 1) := by decide +kernel
theorem dX12_weigh_57 : decode cX12_weigh 57 = .ok (.ireturn, 1) := by decide +kernel
set_option maxRecDepth 100000 in
set_option maxHeartbeats 4000000 in
theorem w_X12_weigh_L29 {p : Program} {l : Launch} {e : Env} {R : Room} {s : State} {m : MethodId} {args : Array Value} {below : List Frame} {meth : Method} {c : Code} {dC : Nat → ClassId} {dI : Nat → Nat → Nat} {cs : Nat → ClassId} {ad : Nat → Nat} {A : Nat → Prop} {D0 : Nat → Nat} {S' : SS} {r : Int32} (F : Fx p s m args meth c cX12_weigh 4 RX12 (some .int) dC dI cs A) (hR1 : 2 ≤ R.frames) (hR2 : 45 ≤ R.locals) : ∀ (n : Nat) (x2 : Int32) (x3 : Int32) (S : SS), f_X12_weigh_L29 n x2 x3 S = some (r, S') → AW p l e R s m args below meth c dC dI cs ad A D0 (some (.int r)) S' 4 29 [(0, .ref (ad 14)), (2, .int x2), (3, .int x3)] [] S := by
  have hx := F.1.1
  have hb := F.1.2.1
  intro n
  induction n with
  | zero => intro x2 x3 S h; cases h
  | succ n ih =>
    intro x2 x3 S h H locs ls w hl
    rw [f_X12_weigh_L29] at h
    refine lv_iload_n (pc := 29) hx hb dX12_weigh_29 rfl (lv_at hl 2 rfl) ?_
    refine lv_aload_n (pc := 30) hx hb dX12_weigh_30 rfl (lv_at hl 0 rfl) ?_
    refine s_getI (pc := 31) F w ds_14 (j := 56) vc_X12 vi_X12 rfl (by decide) kf_X12_319 dX12_weigh_31 ?_
    refine lv_icmp_ge (pc := 34) (tgt := 56) hx hb dX12_weigh_34 (by decide) (fun q => ?_) (fun q => ?_)
    · have h := ite_t q h
      refine lv_iload_n (pc := 56) hx hb dX12_weigh_56 rfl (lv_at hl 1 rfl) ?_
      exact s_iret F w h dX12_weigh_57
    · have h := ite_f q h
      refine lv_iload_n (pc := 37) hx hb dX12_weigh_37 rfl (lv_at hl 1 rfl) ?_
      refine lv_aload_n (pc := 38) hx hb dX12_weigh_38 rfl (lv_at hl 0 rfl) ?_
      refine lv_aload_n (pc := 39) hx hb dX12_weigh_39 rfl (lv_at hl 0 rfl) ?_
      refine s_getR (pc := 40) F w 106 ds_14 (j := 55) vc_X12 vi_X12 rfl (by decide) kf_X12_132 dX12_weigh_40 ?_
      refine lv_iload_n (pc := 43) hx hb dX12_weigh_43 rfl (lv_at hl 2 rfl) ?_
      refine s_iald (pc := 44) F w ds_106 h dX12_weigh_44 (fun h => ?_)
      obtain ⟨r8, S7, hc, h⟩ := bnd_t h
      refine s_cvi (pc := 45) [.int (S.1 106 x3.toNatClampNeg)] (fun ad => [.ref (ad 14), .int (S.1 106 x3.toNatClampNeg)]) F w (m_X12_weight _ _ _ _ hc) rfl rfl hl.1 ds_14 vc_X12 rfl ok_X12_weight rfl kc_X12_weight kl_X12_303 ki_X12_weight kv_X12_weight kn_X12 ⟨Nat.le_trans (by decide) hR1, Nat.le_trans (by decide) hR2⟩ ⟨Nat.zero_le _, Nat.zero_le _⟩ (Nat.le_of_ble_eq_true rfl) dX12_weigh_45 (fun H locs w => ?_)
      refine lv_iadd (pc := 48) hx hb dX12_weigh_48 ?_
      refine s_nm h (fun z9 ez9 h => ?_)
      rw [← ez9]
      refine lv_istore_n (pc := 49) (lv' := [(2, .int z9), (0, .ref (ad 14)), (3, .int x3)]) hx hb dX12_weigh_49 rfl hl (by decide) rfl (fun ls hl => ?_)
      refine s_nm h (fun z10 ez10 h => ?_)
      refine lv_iinc (pc := 50) (v := z10) (lv' := [(3, .int z10), (2, .int z9), (0, .ref (ad 14))]) hx hb dX12_weigh_50 hl (k := 2) rfl (by rw [ez10]; rfl) (by decide) rfl (fun ls hl => ?_)
      refine lv_goto (pc := 53) (tgt := 29) hx hb dX12_weigh_53 (by decide) ?_
      exact ih _ _ _ h _ _ _ w (lv_sub hl [2, 1, 0] rfl)
set_option maxRecDepth 100000 in
set_option maxHeartbeats 4000000 in
theorem m_X12_weigh (a1 : Int32) (S S' : SS) (r : Int32) (h : f_X12_weigh a1 S = some (r, S')) : MT yX12_weigh cX12_weigh 4 (some .int) 2 46 (fun ad => [.ref (ad 14), .int a1]) S (some (.int r)) S' := by
  refine MT.of RX12 (fun ad => [(0, .ref (ad 14)), (1, .int a1)]) (by decide) rfl (fun _ => Nat.le_of_ble_eq_true rfl) (fun _ => rfl) ?_
  intro p l e R s m args below meth c dC dI cs ad A hR1 hR2 F H locs ls w hl
  have hx := F.1.1
  have hb := F.1.2.1
  rw [f_X12_weigh] at h
  refine lv_aload_n (pc := 0) hx hb dX12_weigh_0 rfl (lv_at hl 0 rfl) ?_
  obtain ⟨S1, hc, h⟩ := bndv_t h
  refine s_cvv (pc := 1) [] (fun ad => [.ref (ad 14)]) F w (m_X12_begin  _ _ hc) rfl rfl hl.1 ds_14 vc_X12 rfl ok_X12_begin rfl kc_X12_begin kl_X12_226 ki_X12_begin kv_X12_begin kn_X12 ⟨Nat.le_trans (by decide) hR1, Nat.le_trans (by decide) hR2⟩ ⟨Nat.zero_le _, Nat.zero_le _⟩ (Nat.le_of_ble_eq_true rfl) dX12_weigh_1 (fun H locs w => ?_)
  refine lv_aload_n (pc := 4) hx hb dX12_weigh_4 rfl (lv_at hl 0 rfl) ?_
  refine lv_aload_n (pc := 5) hx hb dX12_weigh_5 rfl (lv_at hl 0 rfl) ?_
  refine lv_iload_n (pc := 6) hx hb dX12_weigh_6 rfl (lv_at hl 1 rfl) ?_
  refine lv_iconst (pc := 7) (v := 0) hx hb dX12_weigh_7 (by decide) ?_
  obtain ⟨r3, S2, hc, h⟩ := bnd_t h
  refine s_cvi (pc := 8) [.int a1, .int (0 : Int32)] (fun ad => [.ref (ad 14), .int a1, .int (0 : Int32)]) F w (m_X12_missThing _ _ _ _ _ hc) rfl rfl hl.1 ds_14 vc_X12 rfl ok_X12_missThing rfl kc_X12_missThing kl_X12_293 ki_X12_missThing kv_X12_missThing kn_X12 ⟨Nat.le_trans (by decide) hR1, Nat.le_trans (by decide) hR2⟩ ⟨Nat.zero_le _, Nat.zero_le _⟩ (Nat.le_of_ble_eq_true rfl) dX12_weigh_8 (fun H locs w => ?_)
  obtain ⟨r5, S4, hc, h⟩ := bnd_t h
  refine s_cvi (pc := 11) [.int r3] (fun ad => [.ref (ad 14), .int r3]) F w (m_X12_ends _ _ _ _ hc) rfl rfl hl.1 ds_14 vc_X12 rfl ok_X12_ends rfl kc_X12_ends kl_X12_236 ki_X12_ends kv_X12_ends kn_X12 ⟨Nat.le_trans (by decide) hR1, Nat.le_trans (by decide) hR2⟩ ⟨Nat.zero_le _, Nat.zero_le _⟩ (Nat.le_of_ble_eq_true rfl) dX12_weigh_11 (fun H locs w => ?_)
  refine lv_if_eq (pc := 14) (tgt := 20) hx hb dX12_weigh_14 (by decide) (fun q => ?_) (fun q => ?_)
  · have h := ite_t q h
    refine lv_aload_n (pc := 20) hx hb dX12_weigh_20 rfl (lv_at hl 0 rfl) ?_
    refine lv_iload_n (pc := 21) hx hb dX12_weigh_21 rfl (lv_at hl 1 rfl) ?_
    obtain ⟨S6, hc, h⟩ := bndv_t h
    refine s_cvv (pc := 22) [.int a1] (fun ad => [.ref (ad 14), .int a1]) F w (m_X12_lineUp _ _ _ hc) rfl rfl hl.1 ds_14 vc_X12 rfl ok_X12_lineUp rfl kc_X12_lineUp kl_X12_325 ki_X12_lineUp kv_X12_lineUp kn_X12 ⟨Nat.le_trans (by decide) hR1, Nat.le_trans (by decide) hR2⟩ ⟨Nat.zero_le _, Nat.zero_le _⟩ (Nat.le_of_ble_eq_true rfl) dX12_weigh_22 (fun H locs w => ?_)
    refine lv_iconst (pc := 25) (v := 0) hx hb dX12_weigh_25 (by decide) ?_
    refine lv_istore_n (pc := 26) (lv' := [(2, .int (0 : Int32)), (0, .ref (ad 14)), (1, .int a1)]) hx hb dX12_weigh_26 rfl hl (by decide) rfl (fun ls hl => ?_)
    refine lv_iconst (pc := 27) (v := 0) hx hb dX12_weigh_27 (by decide) ?_
    refine lv_istore_n (pc := 28) (lv' := [(3, .int (0 : Int32)), (2, .int (0 : Int32)), (0, .ref (ad 14)), (1, .int a1)]) hx hb dX12_weigh_28 rfl hl (by decide) rfl (fun ls hl => ?_)
    exact w_X12_weigh_L29 F (Nat.le_trans (by decide) hR1) (Nat.le_trans (by decide) hR2) _ _ _ _ h _ _ _ w (lv_sub hl [2, 1, 0] rfl)
  · have h := ite_f q h
    refine lv_bipush (pc := 17) (v := -2) hx hb dX12_weigh_17 (by decide) ?_
    exact s_iret F w h dX12_weigh_19
def f_X11_share_L46  : Nat → Int32 → Int32 → Int32 → SS → Option (Int32 × SS)
  | 0, _, _, _, _ => none
  | n + 1, x3, x4, x5, S =>
    if (S.1 7 4) ≤ x5 then
      if x4 = 0 then
        bnd (f_X11_orZero (-4 : Int32) S) (fun r8 S7 =>
        some (r8, S7))
      else
        grd (!(decide (x4 = 0))) (
        bnd (f_X11_orZero (((100 : Int32) * x3) / x4) S) (fun r6 S5 =>
        some (r6, S5)))
    else
      bnd (f_X10_inLine x5 S) (fun r10 S9 =>
      bnd (f_X0_brake r10 S9) (fun r12 S11 =>
      nm (x3 + r12) (fun z13 =>
      bnd (f_X10_inLine x5 S11) (fun r15 S14 =>
      bnd (f_X9_get r15 (1 : Int32) S14) (fun r17 S16 =>
      nm (x4 + r17) (fun z18 =>
      nm (x5 + (1 : Int32)) (fun z19 =>
      f_X11_share_L46 n z13 z18 z19 S16)))))))
def f_X11_share (a1 : Int32) (S : SS) : Option (Int32 × SS) :=
  bndv (f_X5_begin  S) (fun S1 =>
  bnd (f_X11_named a1 (127 : Int32) S1) (fun r3 S2 =>
  if r3 = 0 then
    bndv (f_X10_lineUp ((2 : Int32) * a1) S2) (fun S4 =>
    f_X11_share_L46 NF (0 : Int32) (0 : Int32) (0 : Int32) S4)
  else
    bnd (f_X5_found r3 S2) (fun r21 S20 =>
    some (r21, S20))))
theorem dX11_share_0 : decode cX11_share 0 = .ok (.aload_n 0, 1) := by decide +kernel
theorem dX11_share_1 : decode cX11_share 1 = .ok (.getfield 10, 3) := by decide +kernel
theorem dX11_share_4 : decode cX11_share 4 = .ok (.invokevirtual 95, 3) := by decide +kernel
theorem dX11_share_7 : decode cX11_share 7 = .ok (.aload_n 0, 1) := by decide +kernel
theorem dX11_share_8 : decode cX11_share 8 = .ok (.iload_n 1, 1) := by decide +kernel
theorem dX11_share_9 : decode cX11_share 9 = .ok (.bipush 127, 2) := by decide +kernel
theorem dX11_share_11 : decode cX11_share 11 = .ok (.invokevirtual 185, 3) := by decide +kernel
theorem dX11_share_14 : decode cX11_share 14 = .ok (.istore_n 2, 1) := by decide +kernel
theorem dX11_share_15 : decode cX11_share 15 = .ok (.iload_n 2, 1) := by decide +kernel
theorem dX11_share_16 : decode cX11_share 16 = .ok (.ifCond .eq 12, 3) := by decide +kernel
theorem dX11_share_19 : decode cX11_share 19 = .ok (.aload_n 0, 1) := by decide +kernel
theorem dX11_share_20 : decode cX11_share 20 = .ok (.getfield 10, 3) := by decide +kernel
theorem dX11_share_23 : decode cX11_share 23 = .ok (.iload_n 2, 1) := by decide +kernel
theorem dX11_share_24 : decode cX11_share 24 = .ok (.invokevirtual 98, 3) := by decide +kernel
theorem dX11_share_27 : decode cX11_share 27 = .ok (.ireturn, 1) := by decide +kernel
theorem dX11_share_28 : decode cX11_share 28 = .ok (.aload_n 0, 1) := by decide +kernel
theorem dX11_share_29 : decode cX11_share 29 = .ok (.getfield 58, 3) := by decide +kernel
theorem dX11_share_32 : decode cX11_share 32 = .ok (.iconst 2, 1) := by decide +kernel
theorem dX11_share_33 : decode cX11_share 33 = .ok (.iload_n 1, 1) := by decide +kernel
theorem dX11_share_34 : decode cX11_share 34 = .ok (.imul, 1) := by decide +kernel
theorem dX11_share_35 : decode cX11_share 35 = .ok (.invokevirtual 281, 3) := by decide +kernel
theorem dX11_share_38 : decode cX11_share 38 = .ok (.iconst 0, 1) := by decide +kernel
theorem dX11_share_39 : decode cX11_share 39 = .ok (.istore_n 3, 1) := by decide +kernel
theorem dX11_share_40 : decode cX11_share 40 = .ok (.iconst 0, 1) := by decide +kernel
theorem dX11_share_41 : decode cX11_share 41 = .ok (.istore 4, 2) := by decide +kernel
theorem dX11_share_43 : decode cX11_share 43 = .ok (.iconst 0, 1) := by decide +kernel
theorem dX11_share_44 : decode cX11_share 44 = .ok (.istore 5, 2) := by decide +kernel
theorem dX11_share_46 : decode cX11_share 46 = .ok (.iload 5, 2) := by decide +kernel
theorem dX11_share_48 : decode cX11_share 48 = .ok (.aload_n 0, 1) := by decide +kernel
theorem dX11_share_49 : decode cX11_share 49 = .ok (.getfield 58, 3) := by decide +kernel
theorem dX11_share_52 : decode cX11_share 52 = .ok (.getfield 296, 3) := by decide +kernel
theorem dX11_share_55 : decode cX11_share 55 = .ok (.if_icmp .ge 50, 3) := by decide +kernel
theorem dX11_share_58 : decode cX11_share 58 = .ok (.iload_n 3, 1) := by decide +kernel
theorem dX11_share_59 : decode cX11_share 59 = .ok (.aload_n 0, 1) := by decide +kernel
theorem dX11_share_60 : decode cX11_share 60 = .ok (.getfield 67, 3) := by decide +kernel
theorem dX11_share_63 : decode cX11_share 63 = .ok (.aload_n 0, 1) := by decide +kernel
theorem dX11_share_64 : decode cX11_share 64 = .ok (.getfield 58, 3) := by decide +kernel
theorem dX11_share_67 : decode cX11_share 67 = .ok (.iload 5, 2) := by decide +kernel
theorem dX11_share_69 : decode cX11_share 69 = .ok (.invokevirtual 299, 3) := by decide +kernel
theorem dX11_share_72 : decode cX11_share 72 = .ok (.invokevirtual 323, 3) := by decide +kernel
theorem dX11_share_75 : decode cX11_share 75 = .ok (.iadd, 1) := by decide +kernel
theorem dX11_share_76 : decode cX11_share 76 = .ok (.istore_n 3, 1) := by decide +kernel
theorem dX11_share_77 : decode cX11_share 77 = .ok (.iload 4, 2) := by decide +kernel
theorem dX11_share_79 : decode cX11_share 79 = .ok (.aload_n 0, 1) := by decide +kernel
theorem dX11_share_80 : decode cX11_share 80 = .ok (.getfield 33, 3) := by decide +kernel
theorem dX11_share_83 : decode cX11_share 83 = .ok (.aload_n 0, 1) := by decide +kernel
theorem dX11_share_84 : decode cX11_share 84 = .ok (.getfield 58, 3) := by decide +kernel
theorem dX11_share_87 : decode cX11_share 87 = .ok (.iload 5, 2) := by decide +kernel
theorem dX11_share_89 : decode cX11_share 89 = .ok (.invokevirtual 299, 3) := by decide +kernel
theorem dX11_share_92 : decode cX11_share 92 = .ok (.iconst 1, 1) := by decide +kernel
theorem dX11_share_93 : decode cX11_share 93 = .ok (.invokevirtual 335, 3) := by decide +kernel
theorem dX11_share_96 : decode cX11_share 96 = .ok (.iadd, 1) := by decide +kernel
theorem dX11_share_97 : decode cX11_share 97 = .ok (.istore 4, 2) := by decide +kernel
theorem dX11_share_99 : decode cX11_share 99 = .ok (.iinc 5 1, 3) := by decide +kernel
theorem dX11_share_102 : decode cX11_share 102 = .ok (.goto (-56), 3) := by decide +kernel
theorem dX11_share_105 : decode cX11_share 105 = .ok (.aload_n 0, 1) := by decide +kernel
theorem dX11_share_106 : decode cX11_share 106 = .ok (.iload 4, 2) := by decide +kernel
theorem dX11_share_108 : decode cX11_share 108 = .ok (.ifCond .ne 8, 3) := by decide +kernel
theorem dX11_share_111 : decode cX11_share 111 = .ok (.bipush (-4), 2) := by decide +kernel
theorem dX11_share_113 : decode cX11_share 113 = .ok (.goto 10, 3) := by decide +kernel
theorem dX11_share_116 : decode cX11_share 116 = .ok (.bipush 100, 2) := by decide +kernel
theorem dX11_share_118 : decode cX11_share 118 = .ok (.iload_n 3, 1) := by decide +kernel
theorem dX11_share_119 : decode cX11_share 119 = .ok (.imul, 1) := by decide +kernel
theorem dX11_share_120 : decode cX11_share 120 = .ok (.iload 4, 2) := by decide +kernel
theorem dX11_share_122 : decode cX11_share 122 = .ok (.idiv, 1) := by decide +kernel
theorem dX11_share_123 : decode cX11_share 123 = .ok (.invokevirtual 357, 3) := by decide +kernel
theorem dX11_share_126 : decode cX11_share 126 = .ok (.ireturn, 1) := by decide +kernel
set_option maxRecDepth 100000 in
set_option maxHeartbeats 4000000 in
theorem w_X11_share_L46 {p : Program} {l : Launch} {e : Env} {R : Room} {s : State} {m : MethodId} {args : Array Value} {below : List Frame} {meth : Method} {c : Code} {dC : Nat → ClassId} {dI : Nat → Nat → Nat} {cs : Nat → ClassId} {ad : Nat → Nat} {A : Nat → Prop} {D0 : Nat → Nat} {S' : SS} {r : Int32} (F : Fx p s m args meth c cX11_share 6 RX11 (some .int) dC dI cs A) (hR1 : 3 ≤ R.frames) (hR2 : 65 ≤ R.locals) : ∀ (n : Nat) (x3 : Int32) (x4 : Int32) (x5 : Int32) (S : SS), f_X11_share_L46 n x3 x4 x5 S = some (r, S') → AW p l e R s m args below meth c dC dI cs ad A D0 (some (.int r)) S' 6 46 [(0, .ref (ad 0)), (3, .int x3), (4, .int x4), (5, .int x5)] [] S := by
  have hx := F.1.1
  have hb := F.1.2.1
  intro n
  induction n with
  | zero => intro x3 x4 x5 S h; cases h
  | succ n ih =>
    intro x3 x4 x5 S h H locs ls w hl
    rw [f_X11_share_L46] at h
    refine lv_iload (pc := 46) hx hb dX11_share_46 (lv_at hl 3 rfl) ?_
    refine lv_aload_n (pc := 48) hx hb dX11_share_48 rfl (lv_at hl 0 rfl) ?_
    refine s_getR (pc := 49) F w 7 ds_0 (j := 6) vc_X11 vi_X11 rfl (by decide) kf_X11_58 dX11_share_49 ?_
    refine s_getI (pc := 52) F w ds_7 (j := 4) vc_X10 vi_X10 rfl (by decide) kf_X11_296 dX11_share_52 ?_
    refine lv_icmp_ge (pc := 55) (tgt := 105) hx hb dX11_share_55 (by decide) (fun q => ?_) (fun q => ?_)
    · have h := ite_t q h
      refine lv_aload_n (pc := 105) hx hb dX11_share_105 rfl (lv_at hl 0 rfl) ?_
      refine lv_iload (pc := 106) hx hb dX11_share_106 (lv_at hl 2 rfl) ?_
      refine lv_if_ne (pc := 108) (tgt := 116) hx hb dX11_share_108 (by decide) (fun q => ?_) (fun q => ?_)
      · have h := ite_f q h
        refine lv_bipush (pc := 116) (v := 100) hx hb dX11_share_116 (by decide) ?_
        refine lv_iload_n (pc := 118) hx hb dX11_share_118 rfl (lv_at hl 1 rfl) ?_
        refine lv_imul (pc := 119) hx hb dX11_share_119 ?_
        refine lv_iload (pc := 120) hx hb dX11_share_120 (lv_at hl 2 rfl) ?_
        obtain ⟨hd, h⟩ := grd_t h
        refine lv_idiv (pc := 122) hx hb dX11_share_122 (by simpa using hd) ?_
        obtain ⟨r6, S5, hc, h⟩ := bnd_t h
        refine s_cvi (pc := 123) [.int (((100 : Int32) * x3) / x4)] (fun ad => [.ref (ad 0), .int (((100 : Int32) * x3) / x4)]) F w (m_X11_orZero _ _ _ _ hc) rfl rfl hl.1 ds_0 vc_X11 rfl ok_X11_orZero rfl kc_X11_orZero kl_X11_357 ki_X11_orZero kv_X11_orZero kn_X11 ⟨Nat.le_trans (by decide) hR1, Nat.le_trans (by decide) hR2⟩ ⟨Nat.zero_le _, Nat.zero_le _⟩ (Nat.le_of_ble_eq_true rfl) dX11_share_123 (fun H locs w => ?_)
        exact s_iret F w h dX11_share_126
      · have h := ite_t q h
        refine lv_bipush (pc := 111) (v := -4) hx hb dX11_share_111 (by decide) ?_
        refine lv_goto (pc := 113) (tgt := 123) hx hb dX11_share_113 (by decide) ?_
        obtain ⟨r8, S7, hc, h⟩ := bnd_t h
        refine s_cvi (pc := 123) [.int (-4 : Int32)] (fun ad => [.ref (ad 0), .int (-4 : Int32)]) F w (m_X11_orZero _ _ _ _ hc) rfl rfl hl.1 ds_0 vc_X11 rfl ok_X11_orZero rfl kc_X11_orZero kl_X11_357 ki_X11_orZero kv_X11_orZero kn_X11 ⟨Nat.le_trans (by decide) hR1, Nat.le_trans (by decide) hR2⟩ ⟨Nat.zero_le _, Nat.zero_le _⟩ (Nat.le_of_ble_eq_true rfl) dX11_share_123 (fun H locs w => ?_)
        exact s_iret F w h dX11_share_126
    · have h := ite_f q h
      refine lv_iload_n (pc := 58) hx hb dX11_share_58 rfl (lv_at hl 1 rfl) ?_
      refine lv_aload_n (pc := 59) hx hb dX11_share_59 rfl (lv_at hl 0 rfl) ?_
      refine s_getR (pc := 60) F w 8 ds_0 (j := 7) vc_X11 vi_X11 rfl (by decide) kf_X11_67 dX11_share_60 ?_
      refine lv_aload_n (pc := 63) hx hb dX11_share_63 rfl (lv_at hl 0 rfl) ?_
      refine s_getR (pc := 64) F w 7 ds_0 (j := 6) vc_X11 vi_X11 rfl (by decide) kf_X11_58 dX11_share_64 ?_
      refine lv_iload (pc := 67) hx hb dX11_share_67 (lv_at hl 3 rfl) ?_
      obtain ⟨r10, S9, hc, h⟩ := bnd_t h
      refine s_cvi (pc := 69) [.int x5] (fun ad => [.ref (ad 7), .int x5]) F w (m_X10_inLine _ _ _ _ hc) rfl rfl hl.1 ds_7 vc_X10 rfl ok_X10_inLine rfl kc_X10_inLine kl_X11_299 ki_X10_inLine kv_X10_inLine kn_X10 ⟨Nat.le_trans (by decide) hR1, Nat.le_trans (by decide) hR2⟩ ⟨Nat.zero_le _, Nat.zero_le _⟩ (Nat.le_of_ble_eq_true rfl) dX11_share_69 (fun H locs w => ?_)
      obtain ⟨r12, S11, hc, h⟩ := bnd_t h
      refine s_cvi (pc := 72) [.int r10] (fun ad => [.ref (ad 8), .int r10]) F w (m_X0_brake _ _ _ _ hc) rfl rfl hl.1 ds_8 vc_X0 rfl ok_X0_brake rfl kc_X0_brake kl_X11_323 ki_X0_brake kv_X0_brake kn_X0 ⟨Nat.le_trans (by decide) hR1, Nat.le_trans (by decide) hR2⟩ ⟨Nat.zero_le _, Nat.zero_le _⟩ (Nat.le_of_ble_eq_true rfl) dX11_share_72 (fun H locs w => ?_)
      refine lv_iadd (pc := 75) hx hb dX11_share_75 ?_
      refine s_nm h (fun z13 ez13 h => ?_)
      rw [← ez13]
      refine lv_istore_n (pc := 76) (lv' := [(3, .int z13), (0, .ref (ad 0)), (4, .int x4), (5, .int x5)]) hx hb dX11_share_76 rfl hl (by decide) rfl (fun ls hl => ?_)
      refine lv_iload (pc := 77) hx hb dX11_share_77 (lv_at hl 2 rfl) ?_
      refine lv_aload_n (pc := 79) hx hb dX11_share_79 rfl (lv_at hl 1 rfl) ?_
      refine s_getR (pc := 80) F w 4 ds_0 (j := 3) vc_X11 vi_X11 rfl (by decide) kf_X11_33 dX11_share_80 ?_
      refine lv_aload_n (pc := 83) hx hb dX11_share_83 rfl (lv_at hl 1 rfl) ?_
      refine s_getR (pc := 84) F w 7 ds_0 (j := 6) vc_X11 vi_X11 rfl (by decide) kf_X11_58 dX11_share_84 ?_
      refine lv_iload (pc := 87) hx hb dX11_share_87 (lv_at hl 3 rfl) ?_
      obtain ⟨r15, S14, hc, h⟩ := bnd_t h
      refine s_cvi (pc := 89) [.int x5] (fun ad => [.ref (ad 7), .int x5]) F w (m_X10_inLine _ _ _ _ hc) rfl rfl hl.1 ds_7 vc_X10 rfl ok_X10_inLine rfl kc_X10_inLine kl_X11_299 ki_X10_inLine kv_X10_inLine kn_X10 ⟨Nat.le_trans (by decide) hR1, Nat.le_trans (by decide) hR2⟩ ⟨Nat.zero_le _, Nat.zero_le _⟩ (Nat.le_of_ble_eq_true rfl) dX11_share_89 (fun H locs w => ?_)
      refine lv_iconst (pc := 92) (v := 1) hx hb dX11_share_92 (by decide) ?_
      obtain ⟨r17, S16, hc, h⟩ := bnd_t h
      refine s_cvi (pc := 93) [.int r15, .int (1 : Int32)] (fun ad => [.ref (ad 4), .int r15, .int (1 : Int32)]) F w (m_X9_get _ _ _ _ _ hc) rfl rfl hl.1 ds_4 vc_X9 rfl ok_X9_get rfl kc_X9_get kl_X11_335 ki_X9_get kv_X9_get kn_X9 ⟨Nat.le_trans (by decide) hR1, Nat.le_trans (by decide) hR2⟩ ⟨Nat.zero_le _, Nat.zero_le _⟩ (Nat.le_of_ble_eq_true rfl) dX11_share_93 (fun H locs w => ?_)
      refine lv_iadd (pc := 96) hx hb dX11_share_96 ?_
      refine s_nm h (fun z18 ez18 h => ?_)
      rw [← ez18]
      refine lv_istore (pc := 97) (lv' := [(4, .int z18), (3, .int z13), (0, .ref (ad 0)), (5, .int x5)]) hx hb dX11_share_97 hl (by decide) rfl (fun ls hl => ?_)
      refine s_nm h (fun z19 ez19 h => ?_)
      refine lv_iinc (pc := 99) (v := z19) (lv' := [(5, .int z19), (4, .int z18), (3, .int z13), (0, .ref (ad 0))]) hx hb dX11_share_99 hl (k := 3) rfl (by rw [ez19]; rfl) (by decide) rfl (fun ls hl => ?_)
      refine lv_goto (pc := 102) (tgt := 46) hx hb dX11_share_102 (by decide) ?_
      exact ih _ _ _ _ h _ _ _ w (lv_sub hl [3, 2, 1, 0] rfl)
set_option maxRecDepth 100000 in
set_option maxHeartbeats 4000000 in
theorem m_X11_share (a1 : Int32) (S S' : SS) (r : Int32) (h : f_X11_share a1 S = some (r, S')) : MT yX11_share cX11_share 6 (some .int) 3 67 (fun ad => [.ref (ad 0), .int a1]) S (some (.int r)) S' := by
  refine MT.of RX11 (fun ad => [(0, .ref (ad 0)), (1, .int a1)]) (by decide) rfl (fun _ => Nat.le_of_ble_eq_true rfl) (fun _ => rfl) ?_
  intro p l e R s m args below meth c dC dI cs ad A hR1 hR2 F H locs ls w hl
  have hx := F.1.1
  have hb := F.1.2.1
  rw [f_X11_share] at h
  refine lv_aload_n (pc := 0) hx hb dX11_share_0 rfl (lv_at hl 0 rfl) ?_
  refine s_getR (pc := 1) F w 1 ds_0 (j := 0) vc_X11 vi_X11 rfl (by decide) kf_X11_10 dX11_share_1 ?_
  obtain ⟨S1, hc, h⟩ := bndv_t h
  refine s_cvv (pc := 4) [] (fun ad => [.ref (ad 1)]) F w (m_X5_begin  _ _ hc) rfl rfl hl.1 ds_1 vc_X5 rfl ok_X5_begin rfl kc_X5_begin kl_X11_95 ki_X5_begin kv_X5_begin kn_X5 ⟨Nat.le_trans (by decide) hR1, Nat.le_trans (by decide) hR2⟩ ⟨Nat.zero_le _, Nat.zero_le _⟩ (Nat.le_of_ble_eq_true rfl) dX11_share_4 (fun H locs w => ?_)
  refine lv_aload_n (pc := 7) hx hb dX11_share_7 rfl (lv_at hl 0 rfl) ?_
  refine lv_iload_n (pc := 8) hx hb dX11_share_8 rfl (lv_at hl 1 rfl) ?_
  refine lv_bipush (pc := 9) (v := 127) hx hb dX11_share_9 (by decide) ?_
  obtain ⟨r3, S2, hc, h⟩ := bnd_t h
  refine s_cvi (pc := 11) [.int a1, .int (127 : Int32)] (fun ad => [.ref (ad 0), .int a1, .int (127 : Int32)]) F w (m_X11_named _ _ _ _ _ hc) rfl rfl hl.1 ds_0 vc_X11 rfl ok_X11_named rfl kc_X11_named kl_X11_185 ki_X11_named kv_X11_named kn_X11 ⟨Nat.le_trans (by decide) hR1, Nat.le_trans (by decide) hR2⟩ ⟨Nat.zero_le _, Nat.zero_le _⟩ (Nat.le_of_ble_eq_true rfl) dX11_share_11 (fun H locs w => ?_)
  refine lv_istore_n (pc := 14) (lv' := [(2, .int r3), (0, .ref (ad 0)), (1, .int a1)]) hx hb dX11_share_14 rfl hl (by decide) rfl (fun ls hl => ?_)
  refine lv_iload_n (pc := 15) hx hb dX11_share_15 rfl (lv_at hl 0 rfl) ?_
  refine lv_if_eq (pc := 16) (tgt := 28) hx hb dX11_share_16 (by decide) (fun q => ?_) (fun q => ?_)
  · have h := ite_t q h
    refine lv_aload_n (pc := 28) hx hb dX11_share_28 rfl (lv_at hl 1 rfl) ?_
    refine s_getR (pc := 29) F w 7 ds_0 (j := 6) vc_X11 vi_X11 rfl (by decide) kf_X11_58 dX11_share_29 ?_
    refine lv_iconst (pc := 32) (v := 2) hx hb dX11_share_32 (by decide) ?_
    refine lv_iload_n (pc := 33) hx hb dX11_share_33 rfl (lv_at hl 2 rfl) ?_
    refine lv_imul (pc := 34) hx hb dX11_share_34 ?_
    obtain ⟨S4, hc, h⟩ := bndv_t h
    refine s_cvv (pc := 35) [.int ((2 : Int32) * a1)] (fun ad => [.ref (ad 7), .int ((2 : Int32) * a1)]) F w (m_X10_lineUp _ _ _ hc) rfl rfl hl.1 ds_7 vc_X10 rfl ok_X10_lineUp rfl kc_X10_lineUp kl_X11_281 ki_X10_lineUp kv_X10_lineUp kn_X10 ⟨Nat.le_trans (by decide) hR1, Nat.le_trans (by decide) hR2⟩ ⟨Nat.zero_le _, Nat.zero_le _⟩ (Nat.le_of_ble_eq_true rfl) dX11_share_35 (fun H locs w => ?_)
    refine lv_iconst (pc := 38) (v := 0) hx hb dX11_share_38 (by decide) ?_
    refine lv_istore_n (pc := 39) (lv' := [(3, .int (0 : Int32)), (2, .int r3), (0, .ref (ad 0)), (1, .int a1)]) hx hb dX11_share_39 rfl hl (by decide) rfl (fun ls hl => ?_)
    refine lv_iconst (pc := 40) (v := 0) hx hb dX11_share_40 (by decide) ?_
    refine lv_istore (pc := 41) (lv' := [(4, .int (0 : Int32)), (3, .int (0 : Int32)), (2, .int r3), (0, .ref (ad 0)), (1, .int a1)]) hx hb dX11_share_41 hl (by decide) rfl (fun ls hl => ?_)
    refine lv_iconst (pc := 43) (v := 0) hx hb dX11_share_43 (by decide) ?_
    refine lv_istore (pc := 44) (lv' := [(5, .int (0 : Int32)), (4, .int (0 : Int32)), (3, .int (0 : Int32)), (2, .int r3), (0, .ref (ad 0)), (1, .int a1)]) hx hb dX11_share_44 hl (by decide) rfl (fun ls hl => ?_)
    exact w_X11_share_L46 F (Nat.le_trans (by decide) hR1) (Nat.le_trans (by decide) hR2) _ _ _ _ _ h _ _ _ w (lv_sub hl [4, 2, 1, 0] rfl)
  · have h := ite_f q h
    refine lv_aload_n (pc := 19) hx hb dX11_share_19 rfl (lv_at hl 1 rfl) ?_
    refine s_getR (pc := 20) F w 1 ds_0 (j := 0) vc_X11 vi_X11 rfl (by decide) kf_X11_10 dX11_share_20 ?_
    refine lv_iload_n (pc := 23) hx hb dX11_share_23 rfl (lv_at hl 0 rfl) ?_
    obtain ⟨r21, S20, hc, h⟩ := bnd_t h
    refine s_cvi (pc := 24) [.int r3] (fun ad => [.ref (ad 1), .int r3]) F w (m_X5_found _ _ _ _ hc) rfl rfl hl.1 ds_1 vc_X5 rfl ok_X5_found rfl kc_X5_found kl_X11_98 ki_X5_found kv_X5_found kn_X5 ⟨Nat.le_trans (by decide) hR1, Nat.le_trans (by decide) hR2⟩ ⟨Nat.zero_le _, Nat.zero_le _⟩ (Nat.le_of_ble_eq_true rfl) dX11_share_24 (fun H locs w => ?_)
    exact s_iret F w h dX11_share_27
