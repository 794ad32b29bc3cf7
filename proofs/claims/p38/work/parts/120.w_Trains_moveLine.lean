/-! ===== printed by wip/gen: Trains_moveLine Trains_stepLine Yard_pullBy Yard_pull Bodies_heavy State_beginRun Yard_kickTo Yard_kick State_running State_runner State_addDamp Trains_runsOn State_endRun ===== -/
def f_Trains_moveLine_L11  : Nat → Int32 → Int32 → Int32 → SS → Option (SS)
  | 0, _, _, _, _ => none
  | n + 1, x2, x3, x4, S =>
    if (S.1 68 4) ≤ x4 then
      some S
    else
      bnd (f_Trains_hookInLine x4 S) (fun r4 S3 =>
      bnd (f_State_get (r4 >>> ((1 : Int32) &&& 31)) (0 : Int32) S3) (fun r6 S5 =>
      bnd (f_State_looks r4 S5) (fun r8 S7 =>
      bndv (f_State_goTo r4 x2 x3 S7) (fun S9 =>
      bnd (f_State_get (r4 >>> ((1 : Int32) &&& 31)) (6 : Int32) S9) (fun r11 S10 =>
      bnd (f_Math_max_7cf53 (r11 - (1 : Int32)) (0 : Int32) S10) (fun r13 S12 =>
      bndv (f_State_set (r4 >>> ((1 : Int32) &&& 31)) (6 : Int32) r13 S12) (fun S14 =>
      nm (x4 + (1 : Int32)) (fun z15 =>
      f_Trains_moveLine_L11 n r6 r8 z15 S14))))))))
def f_Trains_moveLine (a1 : Int32) (S : SS) : Option (SS) :=
  nm (a1 >>> ((1 : Int32) &&& 31)) (fun z1 =>
  nm (a1 &&& (1 : Int32)) (fun z2 =>
  f_Trains_moveLine_L11 NF z1 z2 (0 : Int32) S))
theorem dX10_moveLine_0 : decode cX10_moveLine 0 = .ok (.iload_n 1, 1) := dc_27 (by decide +kernel)
theorem dX10_moveLine_1 : decode cX10_moveLine 1 = .ok (.iconst 1, 1) := dc_4 (by decide +kernel)
theorem dX10_moveLine_2 : decode cX10_moveLine 2 = .ok (.ishr, 1) := dc_122 (by decide +kernel)
theorem dX10_moveLine_3 : decode cX10_moveLine 3 = .ok (.istore_n 2, 1) := dc_61 (by decide +kernel)
theorem dX10_moveLine_4 : decode cX10_moveLine 4 = .ok (.iload_n 1, 1) := dc_27 (by decide +kernel)
theorem dX10_moveLine_5 : decode cX10_moveLine 5 = .ok (.iconst 1, 1) := dc_4 (by decide +kernel)
theorem dX10_moveLine_6 : decode cX10_moveLine 6 = .ok (.iand, 1) := dc_126 (by decide +kernel)
theorem dX10_moveLine_7 : decode cX10_moveLine 7 = .ok (.istore_n 3, 1) := dc_62 (by decide +kernel)
theorem dX10_moveLine_8 : decode cX10_moveLine 8 = .ok (.iconst 0, 1) := dc_3 (by decide +kernel)
theorem dX10_moveLine_9 : decode cX10_moveLine 9 = .ok (.istore 4, 2) := dc_54 (a := 4) (by decide +kernel)
theorem dX10_moveLine_11 : decode cX10_moveLine 11 = .ok (.iload 4, 2) := dc_21 (a := 4) (by decide +kernel)
theorem dX10_moveLine_13 : decode cX10_moveLine 13 = .ok (.aload_n 0, 1) := dc_42 (by decide +kernel)
theorem dX10_moveLine_14 : decode cX10_moveLine 14 = .ok (.getfield 17, 3) := dc_180 (a := 0) (b := 17) (by decide +kernel)
theorem dX10_moveLine_17 : decode cX10_moveLine 17 = .ok (.if_icmp .ge 91, 3) := dc_162 (a := 0) (b := 91) (by decide +kernel) (by decide)
theorem dX10_moveLine_20 : decode cX10_moveLine 20 = .ok (.aload_n 0, 1) := dc_42 (by decide +kernel)
theorem dX10_moveLine_21 : decode cX10_moveLine 21 = .ok (.iload 4, 2) := dc_21 (a := 4) (by decide +kernel)
theorem dX10_moveLine_23 : decode cX10_moveLine 23 = .ok (.invokevirtual 44, 3) := dc_182 (a := 0) (b := 44) (by decide +kernel)
theorem dX10_moveLine_26 : decode cX10_moveLine 26 = .ok (.istore 5, 2) := dc_54 (a := 5) (by decide +kernel)
theorem dX10_moveLine_28 : decode cX10_moveLine 28 = .ok (.aload_n 0, 1) := dc_42 (by decide +kernel)
theorem dX10_moveLine_29 : decode cX10_moveLine 29 = .ok (.getfield 24, 3) := dc_180 (a := 0) (b := 24) (by decide +kernel)
theorem dX10_moveLine_32 : decode cX10_moveLine 32 = .ok (.iload 5, 2) := dc_21 (a := 5) (by decide +kernel)
theorem dX10_moveLine_34 : decode cX10_moveLine 34 = .ok (.iconst 1, 1) := dc_4 (by decide +kernel)
theorem dX10_moveLine_35 : decode cX10_moveLine 35 = .ok (.ishr, 1) := dc_122 (by decide +kernel)
theorem dX10_moveLine_36 : decode cX10_moveLine 36 = .ok (.iconst 0, 1) := dc_3 (by decide +kernel)
theorem dX10_moveLine_37 : decode cX10_moveLine 37 = .ok (.invokevirtual 36, 3) := dc_182 (a := 0) (b := 36) (by decide +kernel)
theorem dX10_moveLine_40 : decode cX10_moveLine 40 = .ok (.istore 6, 2) := dc_54 (a := 6) (by decide +kernel)
theorem dX10_moveLine_42 : decode cX10_moveLine 42 = .ok (.aload_n 0, 1) := dc_42 (by decide +kernel)
theorem dX10_moveLine_43 : decode cX10_moveLine 43 = .ok (.getfield 24, 3) := dc_180 (a := 0) (b := 24) (by decide +kernel)
theorem dX10_moveLine_46 : decode cX10_moveLine 46 = .ok (.iload 5, 2) := dc_21 (a := 5) (by decide +kernel)
theorem dX10_moveLine_48 : decode cX10_moveLine 48 = .ok (.invokevirtual 54, 3) := dc_182 (a := 0) (b := 54) (by decide +kernel)
theorem dX10_moveLine_51 : decode cX10_moveLine 51 = .ok (.istore 7, 2) := dc_54 (a := 7) (by decide +kernel)
theorem dX10_moveLine_53 : decode cX10_moveLine 53 = .ok (.aload_n 0, 1) := dc_42 (by decide +kernel)
theorem dX10_moveLine_54 : decode cX10_moveLine 54 = .ok (.getfield 24, 3) := dc_180 (a := 0) (b := 24) (by decide +kernel)
theorem dX10_moveLine_57 : decode cX10_moveLine 57 = .ok (.iload 5, 2) := dc_21 (a := 5) (by decide +kernel)
theorem dX10_moveLine_59 : decode cX10_moveLine 59 = .ok (.iload_n 2, 1) := dc_28 (by decide +kernel)
theorem dX10_moveLine_60 : decode cX10_moveLine 60 = .ok (.iload_n 3, 1) := dc_29 (by decide +kernel)
theorem dX10_moveLine_61 : decode cX10_moveLine 61 = .ok (.invokevirtual 108, 3) := dc_182 (a := 0) (b := 108) (by decide +kernel)
theorem dX10_moveLine_64 : decode cX10_moveLine 64 = .ok (.aload_n 0, 1) := dc_42 (by decide +kernel)
theorem dX10_moveLine_65 : decode cX10_moveLine 65 = .ok (.getfield 24, 3) := dc_180 (a := 0) (b := 24) (by decide +kernel)
theorem dX10_moveLine_68 : decode cX10_moveLine 68 = .ok (.iload 5, 2) := dc_21 (a := 5) (by decide +kernel)
theorem dX10_moveLine_70 : decode cX10_moveLine 70 = .ok (.iconst 1, 1) := dc_4 (by decide +kernel)
theorem dX10_moveLine_71 : decode cX10_moveLine 71 = .ok (.ishr, 1) := dc_122 (by decide +kernel)
theorem dX10_moveLine_72 : decode cX10_moveLine 72 = .ok (.bipush 6, 2) := dc_16 (a := 6) (by decide +kernel) (by decide)
theorem dX10_moveLine_74 : decode cX10_moveLine 74 = .ok (.aload_n 0, 1) := dc_42 (by decide +kernel)
theorem dX10_moveLine_75 : decode cX10_moveLine 75 = .ok (.getfield 24, 3) := dc_180 (a := 0) (b := 24) (by decide +kernel)
theorem dX10_moveLine_78 : decode cX10_moveLine 78 = .ok (.iload 5, 2) := dc_21 (a := 5) (by decide +kernel)
theorem dX10_moveLine_80 : decode cX10_moveLine 80 = .ok (.iconst 1, 1) := dc_4 (by decide +kernel)
theorem dX10_moveLine_81 : decode cX10_moveLine 81 = .ok (.ishr, 1) := dc_122 (by decide +kernel)
theorem dX10_moveLine_82 : decode cX10_moveLine 82 = .ok (.bipush 6, 2) := dc_16 (a := 6) (by decide +kernel) (by decide)
theorem dX10_moveLine_84 : decode cX10_moveLine 84 = .ok (.invokevirtual 36, 3) := dc_182 (a := 0) (b := 36) (by decide +kernel)
theorem dX10_moveLine_87 : decode cX10_moveLine 87 = .ok (.iconst 1, 1) := dc_4 (by decide +kernel)
theorem dX10_moveLine_88 : decode cX10_moveLine 88 = .ok (.isub, 1) := dc_100 (by decide +kernel)
theorem dX10_moveLine_89 : decode cX10_moveLine 89 = .ok (.iconst 0, 1) := dc_3 (by decide +kernel)
theorem dX10_moveLine_90 : decode cX10_moveLine 90 = .ok (.invokestatic 111, 3) := dc_184 (a := 0) (b := 111) (by decide +kernel)
theorem dX10_moveLine_93 : decode cX10_moveLine 93 = .ok (.invokevirtual 50, 3) := dc_182 (a := 0) (b := 50) (by decide +kernel)
theorem dX10_moveLine_96 : decode cX10_moveLine 96 = .ok (.iload 6, 2) := dc_21 (a := 6) (by decide +kernel)
theorem dX10_moveLine_98 : decode cX10_moveLine 98 = .ok (.istore_n 2, 1) := dc_61 (by decide +kernel)
theorem dX10_moveLine_99 : decode cX10_moveLine 99 = .ok (.iload 7, 2) := dc_21 (a := 7) (by decide +kernel)
theorem dX10_moveLine_101 : decode cX10_moveLine 101 = .ok (.istore_n 3, 1) := dc_62 (by decide +kernel)
theorem dX10_moveLine_102 : decode cX10_moveLine 102 = .ok (.iinc 4 1, 3) := dc_132 (a := 4) (b := 1) (by decide +kernel) (by decide)
theorem dX10_moveLine_105 : decode cX10_moveLine 105 = .ok (.goto (-94), 3) := dc_167 (a := 255) (b := 162) (by decide +kernel) (by decide)
theorem dX10_moveLine_108 : decode cX10_moveLine 108 = .ok (.return_, 1) := dc_177 (by decide +kernel)
set_option maxRecDepth 100000 in
set_option maxHeartbeats 4000000 in
theorem w_Trains_moveLine_L11 {p : Program} {l : Launch} {e : Env} {R : Room} {s : State} {m : MethodId} {args : Array Value} {below : List Frame} {meth : Method} {c : Code} {dC : Nat → ClassId} {dI : Nat → Nat → Nat} {cs : Nat → ClassId} {ad : Nat → Nat} {A : Nat → Prop} {D0 : Nat → Nat} {S' : SS} (F : Fx p s m args meth c cX10_moveLine 8 RX10 none dC dI cs A) (hR1 : 2 ≤ R.frames) (hR2 : 46 ≤ R.locals) : ∀ (n : Nat) (x2 : Int32) (x3 : Int32) (x4 : Int32) (S : SS), f_Trains_moveLine_L11 n x2 x3 x4 S = some S' → AW p l e R s m args below meth c dC dI cs ad A D0 none S' 8 11 [(0, .ref (ad 68)), (2, .int x2), (3, .int x3), (4, .int x4)] [] S := by
  have hx := F.1.1
  have hb := F.1.2.1
  intro n
  induction n with
  | zero => intro x2 x3 x4 S h; cases h
  | succ n ih =>
    intro x2 x3 x4 S h H locs ls w hl
    rw [f_Trains_moveLine_L11] at h
    refine lv_iload (pc := 11) hx hb dX10_moveLine_11 (lv_at hl 3 rfl) ?_
    refine lv_aload_n (pc := 13) hx hb dX10_moveLine_13 rfl (lv_at hl 0 rfl) ?_
    refine s_getI (pc := 14) F w ds_68 (j := 4) vc_X10 vi_X10 rfl (by decide) kf_X10_17 dX10_moveLine_14 ?_
    refine lv_icmp_ge (pc := 17) (tgt := 108) hx hb dX10_moveLine_17 (by decide) (fun q => ?_) (fun q => ?_)
    · have h := ite_t q h
      exact s_vret F w h dX10_moveLine_108
    · have h := ite_f q h
      refine lv_aload_n (pc := 20) hx hb dX10_moveLine_20 rfl (lv_at hl 0 rfl) ?_
      refine lv_iload (pc := 21) hx hb dX10_moveLine_21 (lv_at hl 3 rfl) ?_
      obtain ⟨r4, S3, hc, h⟩ := bnd_t h
      refine s_cvi (pc := 23) [.int x4] (fun ad => [.ref (ad 68), .int x4]) F w (m_Trains_hookInLine _ _ _ _ hc) rfl rfl hl.1 ds_68 vc_X10 rfl ok_X10_hookInLine rfl kc_X10_hookInLine kl_X10_44 ki_X10_hookInLine kv_X10_hookInLine kn_X10 ⟨Nat.le_trans (by decide) hR1, Nat.le_trans (by decide) hR2⟩ ⟨Nat.zero_le _, Nat.zero_le _⟩ (Nat.le_of_ble_eq_true rfl) dX10_moveLine_23 (fun H locs w => ?_)
      refine lv_istore (pc := 26) (lv' := [(5, .int r4), (0, .ref (ad 68)), (2, .int x2), (3, .int x3), (4, .int x4)]) hx hb dX10_moveLine_26 hl (by decide) rfl (fun ls hl => ?_)
      refine lv_aload_n (pc := 28) hx hb dX10_moveLine_28 rfl (lv_at hl 1 rfl) ?_
      refine s_getR (pc := 29) F w 63 ds_68 (j := 0) vc_X10 vi_X10 rfl (by decide) kf_X10_24 dX10_moveLine_29 ?_
      refine lv_iload (pc := 32) hx hb dX10_moveLine_32 (lv_at hl 0 rfl) ?_
      refine lv_iconst (pc := 34) (v := 1) hx hb dX10_moveLine_34 (by decide) ?_
      refine lv_ishr (pc := 35) hx hb dX10_moveLine_35 ?_
      refine lv_iconst (pc := 36) (v := 0) hx hb dX10_moveLine_36 (by decide) ?_
      obtain ⟨r6, S5, hc, h⟩ := bnd_t h
      refine s_cvi (pc := 37) [.int (r4 >>> ((1 : Int32) &&& 31)), .int (0 : Int32)] (fun ad => [.ref (ad 63), .int (r4 >>> ((1 : Int32) &&& 31)), .int (0 : Int32)]) F w (m_State_get _ _ _ _ _ hc) rfl rfl hl.1 ds_63 vc_X8 rfl ok_X8_get rfl kc_X8_get kl_X10_36 ki_X8_get kv_X8_get kn_X8 ⟨Nat.le_trans (by decide) hR1, Nat.le_trans (by decide) hR2⟩ ⟨Nat.zero_le _, Nat.zero_le _⟩ (Nat.le_of_ble_eq_true rfl) dX10_moveLine_37 (fun H locs w => ?_)
      refine lv_istore (pc := 40) (lv' := [(6, .int r6), (5, .int r4), (0, .ref (ad 68)), (2, .int x2), (3, .int x3), (4, .int x4)]) hx hb dX10_moveLine_40 hl (by decide) rfl (fun ls hl => ?_)
      refine lv_aload_n (pc := 42) hx hb dX10_moveLine_42 rfl (lv_at hl 2 rfl) ?_
      refine s_getR (pc := 43) F w 63 ds_68 (j := 0) vc_X10 vi_X10 rfl (by decide) kf_X10_24 dX10_moveLine_43 ?_
      refine lv_iload (pc := 46) hx hb dX10_moveLine_46 (lv_at hl 1 rfl) ?_
      obtain ⟨r8, S7, hc, h⟩ := bnd_t h
      refine s_cvi (pc := 48) [.int r4] (fun ad => [.ref (ad 63), .int r4]) F w (m_State_looks _ _ _ _ hc) rfl rfl hl.1 ds_63 vc_X8 rfl ok_X8_looks rfl kc_X8_looks kl_X10_54 ki_X8_looks kv_X8_looks kn_X8 ⟨Nat.le_trans (by decide) hR1, Nat.le_trans (by decide) hR2⟩ ⟨Nat.zero_le _, Nat.zero_le _⟩ (Nat.le_of_ble_eq_true rfl) dX10_moveLine_48 (fun H locs w => ?_)
      refine lv_istore (pc := 51) (lv' := [(7, .int r8), (6, .int r6), (5, .int r4), (0, .ref (ad 68)), (2, .int x2), (3, .int x3), (4, .int x4)]) hx hb dX10_moveLine_51 hl (by decide) rfl (fun ls hl => ?_)
      refine lv_aload_n (pc := 53) hx hb dX10_moveLine_53 rfl (lv_at hl 3 rfl) ?_
      refine s_getR (pc := 54) F w 63 ds_68 (j := 0) vc_X10 vi_X10 rfl (by decide) kf_X10_24 dX10_moveLine_54 ?_
      refine lv_iload (pc := 57) hx hb dX10_moveLine_57 (lv_at hl 2 rfl) ?_
      refine lv_iload_n (pc := 59) hx hb dX10_moveLine_59 rfl (lv_at hl 4 rfl) ?_
      refine lv_iload_n (pc := 60) hx hb dX10_moveLine_60 rfl (lv_at hl 5 rfl) ?_
      obtain ⟨S9, hc, h⟩ := bndv_t h
      refine s_cvv (pc := 61) [.int r4, .int x2, .int x3] (fun ad => [.ref (ad 63), .int r4, .int x2, .int x3]) F w (m_State_goTo _ _ _ _ _ hc) rfl rfl hl.1 ds_63 vc_X8 rfl ok_X8_goTo rfl kc_X8_goTo kl_X10_108 ki_X8_goTo kv_X8_goTo kn_X8 ⟨Nat.le_trans (by decide) hR1, Nat.le_trans (by decide) hR2⟩ ⟨Nat.zero_le _, Nat.zero_le _⟩ (Nat.le_of_ble_eq_true rfl) dX10_moveLine_61 (fun H locs w => ?_)
      refine lv_aload_n (pc := 64) hx hb dX10_moveLine_64 rfl (lv_at hl 3 rfl) ?_
      refine s_getR (pc := 65) F w 63 ds_68 (j := 0) vc_X10 vi_X10 rfl (by decide) kf_X10_24 dX10_moveLine_65 ?_
      refine lv_iload (pc := 68) hx hb dX10_moveLine_68 (lv_at hl 2 rfl) ?_
      refine lv_iconst (pc := 70) (v := 1) hx hb dX10_moveLine_70 (by decide) ?_
      refine lv_ishr (pc := 71) hx hb dX10_moveLine_71 ?_
      refine lv_bipush (pc := 72) (v := 6) hx hb dX10_moveLine_72 (by decide) ?_
      refine lv_aload_n (pc := 74) hx hb dX10_moveLine_74 rfl (lv_at hl 3 rfl) ?_
      refine s_getR (pc := 75) F w 63 ds_68 (j := 0) vc_X10 vi_X10 rfl (by decide) kf_X10_24 dX10_moveLine_75 ?_
      refine lv_iload (pc := 78) hx hb dX10_moveLine_78 (lv_at hl 2 rfl) ?_
      refine lv_iconst (pc := 80) (v := 1) hx hb dX10_moveLine_80 (by decide) ?_
      refine lv_ishr (pc := 81) hx hb dX10_moveLine_81 ?_
      refine lv_bipush (pc := 82) (v := 6) hx hb dX10_moveLine_82 (by decide) ?_
      obtain ⟨r11, S10, hc, h⟩ := bnd_t h
      refine s_cvi (pc := 84) [.int (r4 >>> ((1 : Int32) &&& 31)), .int (6 : Int32)] (fun ad => [.ref (ad 63), .int (r4 >>> ((1 : Int32) &&& 31)), .int (6 : Int32)]) F w (m_State_get _ _ _ _ _ hc) rfl rfl hl.1 ds_63 vc_X8 rfl ok_X8_get rfl kc_X8_get kl_X10_36 ki_X8_get kv_X8_get kn_X8 ⟨Nat.le_trans (by decide) hR1, Nat.le_trans (by decide) hR2⟩ ⟨Nat.zero_le _, Nat.zero_le _⟩ (Nat.le_of_ble_eq_true rfl) dX10_moveLine_84 (fun H locs w => ?_)
      refine lv_iconst (pc := 87) (v := 1) hx hb dX10_moveLine_87 (by decide) ?_
      refine lv_isub (pc := 88) hx hb dX10_moveLine_88 ?_
      refine lv_iconst (pc := 89) (v := 0) hx hb dX10_moveLine_89 (by decide) ?_
      obtain ⟨r13, S12, hc, h⟩ := bnd_t h
      refine s_csi (pc := 90) [.int (r11 - (1 : Int32)), .int (0 : Int32)] (fun ad => [.int (r11 - (1 : Int32)), .int (0 : Int32)]) F w (m_Math_max_7cf53 _ _ _ _ _ hc) rfl rfl hl.1 ok_J9_max_7cf53 rfl kc_J9_max_7cf53 kl_X10_111 ks_J9_max_7cf53 kn_J9 ⟨Nat.le_trans (by decide) hR1, Nat.le_trans (by decide) hR2⟩ ⟨Nat.zero_le _, Nat.zero_le _⟩ (Nat.le_of_ble_eq_true rfl) dX10_moveLine_90 (fun H locs w => ?_)
      obtain ⟨S14, hc, h⟩ := bndv_t h
      refine s_cvv (pc := 93) [.int (r4 >>> ((1 : Int32) &&& 31)), .int (6 : Int32), .int r13] (fun ad => [.ref (ad 63), .int (r4 >>> ((1 : Int32) &&& 31)), .int (6 : Int32), .int r13]) F w (m_State_set _ _ _ _ _ hc) rfl rfl hl.1 ds_63 vc_X8 rfl ok_X8_set rfl kc_X8_set kl_X10_50 ki_X8_set kv_X8_set kn_X8 ⟨Nat.le_trans (by decide) hR1, Nat.le_trans (by decide) hR2⟩ ⟨Nat.zero_le _, Nat.zero_le _⟩ (Nat.le_of_ble_eq_true rfl) dX10_moveLine_93 (fun H locs w => ?_)
      refine lv_iload (pc := 96) hx hb dX10_moveLine_96 (lv_at hl 1 rfl) ?_
      refine lv_istore_n (pc := 98) (lv' := [(2, .int r6), (7, .int r8), (6, .int r6), (5, .int r4), (0, .ref (ad 68)), (3, .int x3), (4, .int x4)]) hx hb dX10_moveLine_98 rfl hl (by decide) rfl (fun ls hl => ?_)
      refine lv_iload (pc := 99) hx hb dX10_moveLine_99 (lv_at hl 1 rfl) ?_
      refine lv_istore_n (pc := 101) (lv' := [(3, .int r8), (2, .int r6), (7, .int r8), (6, .int r6), (5, .int r4), (0, .ref (ad 68)), (4, .int x4)]) hx hb dX10_moveLine_101 rfl hl (by decide) rfl (fun ls hl => ?_)
      refine s_nm h (fun z15 ez15 h => ?_)
      refine lv_iinc (pc := 102) (v := z15) (lv' := [(4, .int z15), (3, .int r8), (2, .int r6), (7, .int r8), (6, .int r6), (5, .int r4), (0, .ref (ad 68))]) hx hb dX10_moveLine_102 hl (k := 6) rfl (by rw [ez15]; rfl) (by decide) rfl (fun ls hl => ?_)
      refine lv_goto (pc := 105) (tgt := 11) hx hb dX10_moveLine_105 (by decide) ?_
      exact ih _ _ _ _ h _ _ _ w (lv_sub hl [6, 2, 1, 0] rfl)
set_option maxRecDepth 100000 in
set_option maxHeartbeats 4000000 in
theorem m_Trains_moveLine (a1 : Int32) (S S' : SS) (h : f_Trains_moveLine a1 S = some S') : MT yX10_moveLine cX10_moveLine 8 none 2 46 (fun ad => [.ref (ad 68), .int a1]) S none S' := by
  refine MT.of RX10 (fun ad => [(0, .ref (ad 68)), (1, .int a1)]) (by decide) rfl (fun _ => Nat.le_of_ble_eq_true rfl) (fun _ => rfl) ?_
  intro p l e R s m args below meth c dC dI cs ad A hR1 hR2 F H locs ls w hl
  have hx := F.1.1
  have hb := F.1.2.1
  rw [f_Trains_moveLine] at h
  refine lv_iload_n (pc := 0) hx hb dX10_moveLine_0 rfl (lv_at hl 1 rfl) ?_
  refine lv_iconst (pc := 1) (v := 1) hx hb dX10_moveLine_1 (by decide) ?_
  refine lv_ishr (pc := 2) hx hb dX10_moveLine_2 ?_
  refine s_nm h (fun z1 ez1 h => ?_)
  rw [← ez1]
  refine lv_istore_n (pc := 3) (lv' := [(2, .int z1), (0, .ref (ad 68)), (1, .int a1)]) hx hb dX10_moveLine_3 rfl hl (by decide) rfl (fun ls hl => ?_)
  refine lv_iload_n (pc := 4) hx hb dX10_moveLine_4 rfl (lv_at hl 2 rfl) ?_
  refine lv_iconst (pc := 5) (v := 1) hx hb dX10_moveLine_5 (by decide) ?_
  refine lv_iand (pc := 6) hx hb dX10_moveLine_6 ?_
  refine s_nm h (fun z2 ez2 h => ?_)
  rw [← ez2]
  refine lv_istore_n (pc := 7) (lv' := [(3, .int z2), (2, .int z1), (0, .ref (ad 68)), (1, .int a1)]) hx hb dX10_moveLine_7 rfl hl (by decide) rfl (fun ls hl => ?_)
  refine lv_iconst (pc := 8) (v := 0) hx hb dX10_moveLine_8 (by decide) ?_
  refine lv_istore (pc := 9) (lv' := [(4, .int (0 : Int32)), (3, .int z2), (2, .int z1), (0, .ref (ad 68)), (1, .int a1)]) hx hb dX10_moveLine_9 hl (by decide) rfl (fun ls hl => ?_)
  exact w_Trains_moveLine_L11 F (Nat.le_trans (by decide) hR1) (Nat.le_trans (by decide) hR2) _ _ _ _ _ h _ _ _ w (lv_sub hl [3, 2, 1, 0] rfl)
def f_Trains_stepLine_L39  : Nat → Int32 → Int32 → SS → Option (Int32 × SS)
  | 0, _, _, _ => none
  | n + 1, x1, x2, S =>
    if (S.1 68 4) ≤ x2 then
      bndv (f_Trains_moveLine x1 S) (fun S7 =>
      some ((0 : Int32), S7))
    else
      bnd (f_Trains_inLine x2 S) (fun r9 S8 =>
      bnd (f_State_get r9 (6 : Int32) S8) (fun r11 S10 =>
      if r11 = (1 : Int32) then
        bnd (f_Trains_inLine x2 S10) (fun r14 S13 =>
        bnd (f_Trains_raiseFinding r14 S13) (fun r16 S15 =>
        some (r16, S15)))
      else
        nm (x2 + (1 : Int32)) (fun z12 =>
        f_Trains_stepLine_L39 n x1 z12 S10)))
def f_Trains_stepLine  (S : SS) : Option (Int32 × SS) :=
  bnd (f_Trains_hookInLine (0 : Int32) S) (fun r2 S1 =>
  bnd (f_Trains_nextFrom r2 S1) (fun r4 S3 =>
  if r4 = (-4 : Int32) then
    some ((10 : Int32), S3)
  else
    bnd (f_State_standsAt (r4 >>> ((1 : Int32) &&& 31)) S3) (fun r6 S5 =>
    if r6 = (-4 : Int32) then
      f_Trains_stepLine_L39 NF r4 (0 : Int32) S5
    else
      some ((9 : Int32), S5))))
theorem dX10_stepLine_0 : decode cX10_stepLine 0 = .ok (.aload_n 0, 1) := dc_42 (by decide +kernel)
theorem dX10_stepLine_1 : decode cX10_stepLine 1 = .ok (.aload_n 0, 1) := dc_42 (by decide +kernel)
theorem dX10_stepLine_2 : decode cX10_stepLine 2 = .ok (.iconst 0, 1) := dc_3 (by decide +kernel)
theorem dX10_stepLine_3 : decode cX10_stepLine 3 = .ok (.invokevirtual 44, 3) := dc_182 (a := 0) (b := 44) (by decide +kernel)
theorem dX10_stepLine_6 : decode cX10_stepLine 6 = .ok (.invokevirtual 99, 3) := dc_182 (a := 0) (b := 99) (by decide +kernel)
theorem dX10_stepLine_9 : decode cX10_stepLine 9 = .ok (.istore_n 1, 1) := dc_60 (by decide +kernel)
theorem dX10_stepLine_10 : decode cX10_stepLine 10 = .ok (.iload_n 1, 1) := dc_27 (by decide +kernel)
theorem dX10_stepLine_11 : decode cX10_stepLine 11 = .ok (.bipush (-4), 2) := dc_16 (a := 252) (by decide +kernel) (by decide)
theorem dX10_stepLine_13 : decode cX10_stepLine 13 = .ok (.if_icmp .ne 6, 3) := dc_160 (a := 0) (b := 6) (by decide +kernel) (by decide)
theorem dX10_stepLine_16 : decode cX10_stepLine 16 = .ok (.bipush 10, 2) := dc_16 (a := 10) (by decide +kernel) (by decide)
theorem dX10_stepLine_18 : decode cX10_stepLine 18 = .ok (.ireturn, 1) := dc_172 (by decide +kernel)
theorem dX10_stepLine_19 : decode cX10_stepLine 19 = .ok (.aload_n 0, 1) := dc_42 (by decide +kernel)
theorem dX10_stepLine_20 : decode cX10_stepLine 20 = .ok (.getfield 24, 3) := dc_180 (a := 0) (b := 24) (by decide +kernel)
theorem dX10_stepLine_23 : decode cX10_stepLine 23 = .ok (.iload_n 1, 1) := dc_27 (by decide +kernel)
theorem dX10_stepLine_24 : decode cX10_stepLine 24 = .ok (.iconst 1, 1) := dc_4 (by decide +kernel)
theorem dX10_stepLine_25 : decode cX10_stepLine 25 = .ok (.ishr, 1) := dc_122 (by decide +kernel)
theorem dX10_stepLine_26 : decode cX10_stepLine 26 = .ok (.invokevirtual 62, 3) := dc_182 (a := 0) (b := 62) (by decide +kernel)
theorem dX10_stepLine_29 : decode cX10_stepLine 29 = .ok (.bipush (-4), 2) := dc_16 (a := 252) (by decide +kernel) (by decide)
theorem dX10_stepLine_31 : decode cX10_stepLine 31 = .ok (.if_icmp .eq 6, 3) := dc_159 (a := 0) (b := 6) (by decide +kernel) (by decide)
theorem dX10_stepLine_34 : decode cX10_stepLine 34 = .ok (.bipush 9, 2) := dc_16 (a := 9) (by decide +kernel) (by decide)
theorem dX10_stepLine_36 : decode cX10_stepLine 36 = .ok (.ireturn, 1) := dc_172 (by decide +kernel)
theorem dX10_stepLine_37 : decode cX10_stepLine 37 = .ok (.iconst 0, 1) := dc_3 (by decide +kernel)
theorem dX10_stepLine_38 : decode cX10_stepLine 38 = .ok (.istore_n 2, 1) := dc_61 (by decide +kernel)
theorem dX10_stepLine_39 : decode cX10_stepLine 39 = .ok (.iload_n 2, 1) := dc_28 (by decide +kernel)
theorem dX10_stepLine_40 : decode cX10_stepLine 40 = .ok (.aload_n 0, 1) := dc_42 (by decide +kernel)
theorem dX10_stepLine_41 : decode cX10_stepLine 41 = .ok (.getfield 17, 3) := dc_180 (a := 0) (b := 17) (by decide +kernel)
theorem dX10_stepLine_44 : decode cX10_stepLine 44 = .ok (.if_icmp .ge 37, 3) := dc_162 (a := 0) (b := 37) (by decide +kernel) (by decide)
theorem dX10_stepLine_47 : decode cX10_stepLine 47 = .ok (.aload_n 0, 1) := dc_42 (by decide +kernel)
theorem dX10_stepLine_48 : decode cX10_stepLine 48 = .ok (.getfield 24, 3) := dc_180 (a := 0) (b := 24) (by decide +kernel)
theorem dX10_stepLine_51 : decode cX10_stepLine 51 = .ok (.aload_n 0, 1) := dc_42 (by decide +kernel)
theorem dX10_stepLine_52 : decode cX10_stepLine 52 = .ok (.iload_n 2, 1) := dc_28 (by decide +kernel)
theorem dX10_stepLine_53 : decode cX10_stepLine 53 = .ok (.invokevirtual 47, 3) := dc_182 (a := 0) (b := 47) (by decide +kernel)
theorem dX10_stepLine_56 : decode cX10_stepLine 56 = .ok (.bipush 6, 2) := dc_16 (a := 6) (by decide +kernel) (by decide)
theorem dX10_stepLine_58 : decode cX10_stepLine 58 = .ok (.invokevirtual 36, 3) := dc_182 (a := 0) (b := 36) (by decide +kernel)
theorem dX10_stepLine_61 : decode cX10_stepLine 61 = .ok (.iconst 1, 1) := dc_4 (by decide +kernel)
theorem dX10_stepLine_62 : decode cX10_stepLine 62 = .ok (.if_icmp .ne 13, 3) := dc_160 (a := 0) (b := 13) (by decide +kernel) (by decide)
theorem dX10_stepLine_65 : decode cX10_stepLine 65 = .ok (.aload_n 0, 1) := dc_42 (by decide +kernel)
theorem dX10_stepLine_66 : decode cX10_stepLine 66 = .ok (.aload_n 0, 1) := dc_42 (by decide +kernel)
theorem dX10_stepLine_67 : decode cX10_stepLine 67 = .ok (.iload_n 2, 1) := dc_28 (by decide +kernel)
theorem dX10_stepLine_68 : decode cX10_stepLine 68 = .ok (.invokevirtual 47, 3) := dc_182 (a := 0) (b := 47) (by decide +kernel)
theorem dX10_stepLine_71 : decode cX10_stepLine 71 = .ok (.invokevirtual 102, 3) := dc_182 (a := 0) (b := 102) (by decide +kernel)
theorem dX10_stepLine_74 : decode cX10_stepLine 74 = .ok (.ireturn, 1) := dc_172 (by decide +kernel)
theorem dX10_stepLine_75 : decode cX10_stepLine 75 = .ok (.iinc 2 1, 3) := dc_132 (a := 2) (b := 1) (by decide +kernel) (by decide)
theorem dX10_stepLine_78 : decode cX10_stepLine 78 = .ok (.goto (-39), 3) := dc_167 (a := 255) (b := 217) (by decide +kernel) (by decide)
theorem dX10_stepLine_81 : decode cX10_stepLine 81 = .ok (.aload_n 0, 1) := dc_42 (by decide +kernel)
theorem dX10_stepLine_82 : decode cX10_stepLine 82 = .ok (.iload_n 1, 1) := dc_27 (by decide +kernel)
theorem dX10_stepLine_83 : decode cX10_stepLine 83 = .ok (.invokevirtual 105, 3) := dc_182 (a := 0) (b := 105) (by decide +kernel)
theorem dX10_stepLine_86 : decode cX10_stepLine 86 = .ok (.iconst 0, 1) := dc_3 (by decide +kernel)
theorem dX10_stepLine_87 : decode cX10_stepLine 87 = .ok (.ireturn, 1) := dc_172 (by decide +kernel)
set_option maxRecDepth 100000 in
set_option maxHeartbeats 4000000 in
theorem w_Trains_stepLine_L39 {p : Program} {l : Launch} {e : Env} {R : Room} {s : State} {m : MethodId} {args : Array Value} {below : List Frame} {meth : Method} {c : Code} {dC : Nat → ClassId} {dI : Nat → Nat → Nat} {cs : Nat → ClassId} {ad : Nat → Nat} {A : Nat → Prop} {D0 : Nat → Nat} {S' : SS} {r : Int32} (F : Fx p s m args meth c cX10_stepLine 3 RX10 (some .int) dC dI cs A) (hR1 : 3 ≤ R.frames) (hR2 : 73 ≤ R.locals) : ∀ (n : Nat) (x1 : Int32) (x2 : Int32) (S : SS), f_Trains_stepLine_L39 n x1 x2 S = some (r, S') → AW p l e R s m args below meth c dC dI cs ad A D0 (some (.int r)) S' 3 39 [(0, .ref (ad 68)), (1, .int x1), (2, .int x2)] [] S := by
  have hx := F.1.1
  have hb := F.1.2.1
  intro n
  induction n with
  | zero => intro x1 x2 S h; cases h
  | succ n ih =>
    intro x1 x2 S h H locs ls w hl
    rw [f_Trains_stepLine_L39] at h
    refine lv_iload_n (pc := 39) hx hb dX10_stepLine_39 rfl (lv_at hl 2 rfl) ?_
    refine lv_aload_n (pc := 40) hx hb dX10_stepLine_40 rfl (lv_at hl 0 rfl) ?_
    refine s_getI (pc := 41) F w ds_68 (j := 4) vc_X10 vi_X10 rfl (by decide) kf_X10_17 dX10_stepLine_41 ?_
    refine lv_icmp_ge (pc := 44) (tgt := 81) hx hb dX10_stepLine_44 (by decide) (fun q => ?_) (fun q => ?_)
    · have h := ite_t q h
      refine lv_aload_n (pc := 81) hx hb dX10_stepLine_81 rfl (lv_at hl 0 rfl) ?_
      refine lv_iload_n (pc := 82) hx hb dX10_stepLine_82 rfl (lv_at hl 1 rfl) ?_
      obtain ⟨S7, hc, h⟩ := bndv_t h
      refine s_cvv (pc := 83) [.int x1] (fun ad => [.ref (ad 68), .int x1]) F w (m_Trains_moveLine _ _ _ hc) rfl rfl hl.1 ds_68 vc_X10 rfl ok_X10_moveLine rfl kc_X10_moveLine kl_X10_105 ki_X10_moveLine kv_X10_moveLine kn_X10 ⟨Nat.le_trans (by decide) hR1, Nat.le_trans (by decide) hR2⟩ ⟨Nat.zero_le _, Nat.zero_le _⟩ (Nat.le_of_ble_eq_true rfl) dX10_stepLine_83 (fun H locs w => ?_)
      refine lv_iconst (pc := 86) (v := 0) hx hb dX10_stepLine_86 (by decide) ?_
      exact s_iret F w h dX10_stepLine_87
    · have h := ite_f q h
      refine lv_aload_n (pc := 47) hx hb dX10_stepLine_47 rfl (lv_at hl 0 rfl) ?_
      refine s_getR (pc := 48) F w 63 ds_68 (j := 0) vc_X10 vi_X10 rfl (by decide) kf_X10_24 dX10_stepLine_48 ?_
      refine lv_aload_n (pc := 51) hx hb dX10_stepLine_51 rfl (lv_at hl 0 rfl) ?_
      refine lv_iload_n (pc := 52) hx hb dX10_stepLine_52 rfl (lv_at hl 2 rfl) ?_
      obtain ⟨r9, S8, hc, h⟩ := bnd_t h
      refine s_cvi (pc := 53) [.int x2] (fun ad => [.ref (ad 68), .int x2]) F w (m_Trains_inLine _ _ _ _ hc) rfl rfl hl.1 ds_68 vc_X10 rfl ok_X10_inLine rfl kc_X10_inLine kl_X10_47 ki_X10_inLine kv_X10_inLine kn_X10 ⟨Nat.le_trans (by decide) hR1, Nat.le_trans (by decide) hR2⟩ ⟨Nat.zero_le _, Nat.zero_le _⟩ (Nat.le_of_ble_eq_true rfl) dX10_stepLine_53 (fun H locs w => ?_)
      refine lv_bipush (pc := 56) (v := 6) hx hb dX10_stepLine_56 (by decide) ?_
      obtain ⟨r11, S10, hc, h⟩ := bnd_t h
      refine s_cvi (pc := 58) [.int r9, .int (6 : Int32)] (fun ad => [.ref (ad 63), .int r9, .int (6 : Int32)]) F w (m_State_get _ _ _ _ _ hc) rfl rfl hl.1 ds_63 vc_X8 rfl ok_X8_get rfl kc_X8_get kl_X10_36 ki_X8_get kv_X8_get kn_X8 ⟨Nat.le_trans (by decide) hR1, Nat.le_trans (by decide) hR2⟩ ⟨Nat.zero_le _, Nat.zero_le _⟩ (Nat.le_of_ble_eq_true rfl) dX10_stepLine_58 (fun H locs w => ?_)
      refine lv_iconst (pc := 61) (v := 1) hx hb dX10_stepLine_61 (by decide) ?_
      refine lv_icmp_ne (pc := 62) (tgt := 75) hx hb dX10_stepLine_62 (by decide) (fun q => ?_) (fun q => ?_)
      · have h := ite_f q h
        refine s_nm h (fun z12 ez12 h => ?_)
        refine lv_iinc (pc := 75) (v := z12) (lv' := [(2, .int z12), (0, .ref (ad 68)), (1, .int x1)]) hx hb dX10_stepLine_75 hl (k := 2) rfl (by rw [ez12]; rfl) (by decide) rfl (fun ls hl => ?_)
        refine lv_goto (pc := 78) (tgt := 39) hx hb dX10_stepLine_78 (by decide) ?_
        exact ih _ _ _ h _ _ _ w (lv_sub hl [1, 2, 0] rfl)
      · have h := ite_t q h
        refine lv_aload_n (pc := 65) hx hb dX10_stepLine_65 rfl (lv_at hl 0 rfl) ?_
        refine lv_aload_n (pc := 66) hx hb dX10_stepLine_66 rfl (lv_at hl 0 rfl) ?_
        refine lv_iload_n (pc := 67) hx hb dX10_stepLine_67 rfl (lv_at hl 2 rfl) ?_
        obtain ⟨r14, S13, hc, h⟩ := bnd_t h
        refine s_cvi (pc := 68) [.int x2] (fun ad => [.ref (ad 68), .int x2]) F w (m_Trains_inLine _ _ _ _ hc) rfl rfl hl.1 ds_68 vc_X10 rfl ok_X10_inLine rfl kc_X10_inLine kl_X10_47 ki_X10_inLine kv_X10_inLine kn_X10 ⟨Nat.le_trans (by decide) hR1, Nat.le_trans (by decide) hR2⟩ ⟨Nat.zero_le _, Nat.zero_le _⟩ (Nat.le_of_ble_eq_true rfl) dX10_stepLine_68 (fun H locs w => ?_)
        obtain ⟨r16, S15, hc, h⟩ := bnd_t h
        refine s_cvi (pc := 71) [.int r14] (fun ad => [.ref (ad 68), .int r14]) F w (m_Trains_raiseFinding _ _ _ _ hc) rfl rfl hl.1 ds_68 vc_X10 rfl ok_X10_raiseFinding rfl kc_X10_raiseFinding kl_X10_102 ki_X10_raiseFinding kv_X10_raiseFinding kn_X10 ⟨Nat.le_trans (by decide) hR1, Nat.le_trans (by decide) hR2⟩ ⟨Nat.zero_le _, Nat.zero_le _⟩ (Nat.le_of_ble_eq_true rfl) dX10_stepLine_71 (fun H locs w => ?_)
        exact s_iret F w h dX10_stepLine_74
set_option maxRecDepth 100000 in
set_option maxHeartbeats 4000000 in
theorem m_Trains_stepLine  (S S' : SS) (r : Int32) (h : f_Trains_stepLine  S = some (r, S')) : MT yX10_stepLine cX10_stepLine 3 (some .int) 4 90 (fun ad => [.ref (ad 68)]) S (some (.int r)) S' := by
  refine MT.of RX10 (fun ad => [(0, .ref (ad 68))]) (by decide) rfl (fun _ => Nat.le_of_ble_eq_true rfl) (fun _ => rfl) ?_
  intro p l e R s m args below meth c dC dI cs ad A hR1 hR2 F H locs ls w hl
  have hx := F.1.1
  have hb := F.1.2.1
  rw [f_Trains_stepLine] at h
  refine lv_aload_n (pc := 0) hx hb dX10_stepLine_0 rfl (lv_at hl 0 rfl) ?_
  refine lv_aload_n (pc := 1) hx hb dX10_stepLine_1 rfl (lv_at hl 0 rfl) ?_
  refine lv_iconst (pc := 2) (v := 0) hx hb dX10_stepLine_2 (by decide) ?_
  obtain ⟨r2, S1, hc, h⟩ := bnd_t h
  refine s_cvi (pc := 3) [.int (0 : Int32)] (fun ad => [.ref (ad 68), .int (0 : Int32)]) F w (m_Trains_hookInLine _ _ _ _ hc) rfl rfl hl.1 ds_68 vc_X10 rfl ok_X10_hookInLine rfl kc_X10_hookInLine kl_X10_44 ki_X10_hookInLine kv_X10_hookInLine kn_X10 ⟨Nat.le_trans (by decide) hR1, Nat.le_trans (by decide) hR2⟩ ⟨Nat.zero_le _, Nat.zero_le _⟩ (Nat.le_of_ble_eq_true rfl) dX10_stepLine_3 (fun H locs w => ?_)
  obtain ⟨r4, S3, hc, h⟩ := bnd_t h
  refine s_cvi (pc := 6) [.int r2] (fun ad => [.ref (ad 68), .int r2]) F w (m_Trains_nextFrom _ _ _ _ hc) rfl rfl hl.1 ds_68 vc_X10 rfl ok_X10_nextFrom rfl kc_X10_nextFrom kl_X10_99 ki_X10_nextFrom kv_X10_nextFrom kn_X10 ⟨Nat.le_trans (by decide) hR1, Nat.le_trans (by decide) hR2⟩ ⟨Nat.zero_le _, Nat.zero_le _⟩ (Nat.le_of_ble_eq_true rfl) dX10_stepLine_6 (fun H locs w => ?_)
  refine lv_istore_n (pc := 9) (lv' := [(1, .int r4), (0, .ref (ad 68))]) hx hb dX10_stepLine_9 rfl hl (by decide) rfl (fun ls hl => ?_)
  refine lv_iload_n (pc := 10) hx hb dX10_stepLine_10 rfl (lv_at hl 0 rfl) ?_
  refine lv_bipush (pc := 11) (v := -4) hx hb dX10_stepLine_11 (by decide) ?_
  refine lv_icmp_ne (pc := 13) (tgt := 19) hx hb dX10_stepLine_13 (by decide) (fun q => ?_) (fun q => ?_)
  · have h := ite_f q h
    refine lv_aload_n (pc := 19) hx hb dX10_stepLine_19 rfl (lv_at hl 1 rfl) ?_
    refine s_getR (pc := 20) F w 63 ds_68 (j := 0) vc_X10 vi_X10 rfl (by decide) kf_X10_24 dX10_stepLine_20 ?_
    refine lv_iload_n (pc := 23) hx hb dX10_stepLine_23 rfl (lv_at hl 0 rfl) ?_
    refine lv_iconst (pc := 24) (v := 1) hx hb dX10_stepLine_24 (by decide) ?_
    refine lv_ishr (pc := 25) hx hb dX10_stepLine_25 ?_
    obtain ⟨r6, S5, hc, h⟩ := bnd_t h
    refine s_cvi (pc := 26) [.int (r4 >>> ((1 : Int32) &&& 31))] (fun ad => [.ref (ad 63), .int (r4 >>> ((1 : Int32) &&& 31))]) F w (m_State_standsAt _ _ _ _ hc) rfl rfl hl.1 ds_63 vc_X8 rfl ok_X8_standsAt rfl kc_X8_standsAt kl_X10_62 ki_X8_standsAt kv_X8_standsAt kn_X8 ⟨Nat.le_trans (by decide) hR1, Nat.le_trans (by decide) hR2⟩ ⟨Nat.zero_le _, Nat.zero_le _⟩ (Nat.le_of_ble_eq_true rfl) dX10_stepLine_26 (fun H locs w => ?_)
    refine lv_bipush (pc := 29) (v := -4) hx hb dX10_stepLine_29 (by decide) ?_
    refine lv_icmp_eq (pc := 31) (tgt := 37) hx hb dX10_stepLine_31 (by decide) (fun q => ?_) (fun q => ?_)
    · have h := ite_t q h
      refine lv_iconst (pc := 37) (v := 0) hx hb dX10_stepLine_37 (by decide) ?_
      refine lv_istore_n (pc := 38) (lv' := [(2, .int (0 : Int32)), (1, .int r4), (0, .ref (ad 68))]) hx hb dX10_stepLine_38 rfl hl (by decide) rfl (fun ls hl => ?_)
      exact w_Trains_stepLine_L39 F (Nat.le_trans (by decide) hR1) (Nat.le_trans (by decide) hR2) _ _ _ _ h _ _ _ w (lv_sub hl [2, 1, 0] rfl)
    · have h := ite_f q h
      refine lv_bipush (pc := 34) (v := 9) hx hb dX10_stepLine_34 (by decide) ?_
      exact s_iret F w h dX10_stepLine_36
  · have h := ite_t q h
    refine lv_bipush (pc := 16) (v := 10) hx hb dX10_stepLine_16 (by decide) ?_
    exact s_iret F w h dX10_stepLine_18
def f_Yard_pullBy_L78  : Nat → Int32 → Int32 → SS → Option (Int32 × SS)
  | 0, _, _, _ => none
  | n + 1, x3, x6, S =>
    if x3 ≤ x6 then
      some (x3, S)
    else
      bnd (f_Trains_stepLine  S) (fun r10 S9 =>
      if r10 = 0 then
        wr S9 62 5 ((S9.1 62 5) + (1 : Int32)) (fun S11 =>
        nm (x6 + (1 : Int32)) (fun z12 =>
        f_Yard_pullBy_L78 n x3 z12 S11))
      else
        bnd (f_Report_found r10 S9) (fun r14 S13 =>
        some (r14, S13)))
def f_Yard_pullBy (a1 : Int32) (a2 : Int32) (a3 : Int32) (S : SS) : Option (Int32 × SS) :=
  bnd (f_Yard_namedSide a1 (96 : Int32) a2 S) (fun r2 S1 =>
  if r2 = 0 then
    bndv (f_Trains_lineUp ((2 : Int32) * a1) S1) (fun S3 =>
    bnd (f_Yard_lineWeight  S3) (fun r5 S4 =>
    bnd (f_Yard_linePulls  S4) (fun r7 S6 =>
    if r5 ≤ ((20 : Int32) * r7) then
      bndv (f_Trains_lineUp (((2 : Int32) * a1) + a2) S6) (fun S8 =>
      f_Yard_pullBy_L78 NF a3 (0 : Int32) S8)
    else
      bnd (f_Report_found (15 : Int32) S6) (fun r16 S15 =>
      some (r16, S15)))))
  else
    bnd (f_Report_found r2 S1) (fun r18 S17 =>
    some (r18, S17)))
theorem dX11_pullBy_0 : decode cX11_pullBy 0 = .ok (.aload_n 0, 1) := dc_42 (by decide +kernel)
theorem dX11_pullBy_1 : decode cX11_pullBy 1 = .ok (.iload_n 1, 1) := dc_27 (by decide +kernel)
theorem dX11_pullBy_2 : decode cX11_pullBy 2 = .ok (.bipush 96, 2) := dc_16 (a := 96) (by decide +kernel) (by decide)
theorem dX11_pullBy_4 : decode cX11_pullBy 4 = .ok (.iload_n 2, 1) := dc_28 (by decide +kernel)
theorem dX11_pullBy_5 : decode cX11_pullBy 5 = .ok (.invokevirtual 259, 3) := dc_182 (a := 1) (b := 3) (by decide +kernel)
theorem dX11_pullBy_8 : decode cX11_pullBy 8 = .ok (.istore 4, 2) := dc_54 (a := 4) (by decide +kernel)
theorem dX11_pullBy_10 : decode cX11_pullBy 10 = .ok (.iload 4, 2) := dc_21 (a := 4) (by decide +kernel)
theorem dX11_pullBy_12 : decode cX11_pullBy 12 = .ok (.ifCond .eq 13, 3) := dc_153 (a := 0) (b := 13) (by decide +kernel) (by decide)
theorem dX11_pullBy_15 : decode cX11_pullBy 15 = .ok (.aload_n 0, 1) := dc_42 (by decide +kernel)
theorem dX11_pullBy_16 : decode cX11_pullBy 16 = .ok (.getfield 10, 3) := dc_180 (a := 0) (b := 10) (by decide +kernel)
theorem dX11_pullBy_19 : decode cX11_pullBy 19 = .ok (.iload 4, 2) := dc_21 (a := 4) (by decide +kernel)
theorem dX11_pullBy_21 : decode cX11_pullBy 21 = .ok (.invokevirtual 98, 3) := dc_182 (a := 0) (b := 98) (by decide +kernel)
theorem dX11_pullBy_24 : decode cX11_pullBy 24 = .ok (.ireturn, 1) := dc_172 (by decide +kernel)
theorem dX11_pullBy_25 : decode cX11_pullBy 25 = .ok (.aload_n 0, 1) := dc_42 (by decide +kernel)
theorem dX11_pullBy_26 : decode cX11_pullBy 26 = .ok (.getfield 58, 3) := dc_180 (a := 0) (b := 58) (by decide +kernel)
theorem dX11_pullBy_29 : decode cX11_pullBy 29 = .ok (.iconst 2, 1) := dc_5 (by decide +kernel)
theorem dX11_pullBy_30 : decode cX11_pullBy 30 = .ok (.iload_n 1, 1) := dc_27 (by decide +kernel)
theorem dX11_pullBy_31 : decode cX11_pullBy 31 = .ok (.imul, 1) := dc_104 (by decide +kernel)
theorem dX11_pullBy_32 : decode cX11_pullBy 32 = .ok (.invokevirtual 281, 3) := dc_182 (a := 1) (b := 25) (by decide +kernel)
theorem dX11_pullBy_35 : decode cX11_pullBy 35 = .ok (.aload_n 0, 1) := dc_42 (by decide +kernel)
theorem dX11_pullBy_36 : decode cX11_pullBy 36 = .ok (.invokevirtual 284, 3) := dc_182 (a := 1) (b := 28) (by decide +kernel)
theorem dX11_pullBy_39 : decode cX11_pullBy 39 = .ok (.istore 5, 2) := dc_54 (a := 5) (by decide +kernel)
theorem dX11_pullBy_41 : decode cX11_pullBy 41 = .ok (.iload 5, 2) := dc_21 (a := 5) (by decide +kernel)
theorem dX11_pullBy_43 : decode cX11_pullBy 43 = .ok (.bipush 20, 2) := dc_16 (a := 20) (by decide +kernel) (by decide)
theorem dX11_pullBy_45 : decode cX11_pullBy 45 = .ok (.aload_n 0, 1) := dc_42 (by decide +kernel)
theorem dX11_pullBy_46 : decode cX11_pullBy 46 = .ok (.invokevirtual 287, 3) := dc_182 (a := 1) (b := 31) (by decide +kernel)
theorem dX11_pullBy_49 : decode cX11_pullBy 49 = .ok (.imul, 1) := dc_104 (by decide +kernel)
theorem dX11_pullBy_50 : decode cX11_pullBy 50 = .ok (.if_icmp .le 13, 3) := dc_164 (a := 0) (b := 13) (by decide +kernel) (by decide)
theorem dX11_pullBy_53 : decode cX11_pullBy 53 = .ok (.aload_n 0, 1) := dc_42 (by decide +kernel)
theorem dX11_pullBy_54 : decode cX11_pullBy 54 = .ok (.getfield 10, 3) := dc_180 (a := 0) (b := 10) (by decide +kernel)
theorem dX11_pullBy_57 : decode cX11_pullBy 57 = .ok (.bipush 15, 2) := dc_16 (a := 15) (by decide +kernel) (by decide)
theorem dX11_pullBy_59 : decode cX11_pullBy 59 = .ok (.invokevirtual 98, 3) := dc_182 (a := 0) (b := 98) (by decide +kernel)
theorem dX11_pullBy_62 : decode cX11_pullBy 62 = .ok (.ireturn, 1) := dc_172 (by decide +kernel)
theorem dX11_pullBy_63 : decode cX11_pullBy 63 = .ok (.aload_n 0, 1) := dc_42 (by decide +kernel)
theorem dX11_pullBy_64 : decode cX11_pullBy 64 = .ok (.getfield 58, 3) := dc_180 (a := 0) (b := 58) (by decide +kernel)
theorem dX11_pullBy_67 : decode cX11_pullBy 67 = .ok (.iconst 2, 1) := dc_5 (by decide +kernel)
theorem dX11_pullBy_68 : decode cX11_pullBy 68 = .ok (.iload_n 1, 1) := dc_27 (by decide +kernel)
theorem dX11_pullBy_69 : decode cX11_pullBy 69 = .ok (.imul, 1) := dc_104 (by decide +kernel)
theorem dX11_pullBy_70 : decode cX11_pullBy 70 = .ok (.iload_n 2, 1) := dc_28 (by decide +kernel)
theorem dX11_pullBy_71 : decode cX11_pullBy 71 = .ok (.iadd, 1) := dc_96 (by decide +kernel)
theorem dX11_pullBy_72 : decode cX11_pullBy 72 = .ok (.invokevirtual 281, 3) := dc_182 (a := 1) (b := 25) (by decide +kernel)
theorem dX11_pullBy_75 : decode cX11_pullBy 75 = .ok (.iconst 0, 1) := dc_3 (by decide +kernel)
theorem dX11_pullBy_76 : decode cX11_pullBy 76 = .ok (.istore 6, 2) := dc_54 (a := 6) (by decide +kernel)
theorem dX11_pullBy_78 : decode cX11_pullBy 78 = .ok (.iload 6, 2) := dc_21 (a := 6) (by decide +kernel)
theorem dX11_pullBy_80 : decode cX11_pullBy 80 = .ok (.iload_n 3, 1) := dc_29 (by decide +kernel)
theorem dX11_pullBy_81 : decode cX11_pullBy 81 = .ok (.if_icmp .ge 46, 3) := dc_162 (a := 0) (b := 46) (by decide +kernel) (by decide)
theorem dX11_pullBy_84 : decode cX11_pullBy 84 = .ok (.aload_n 0, 1) := dc_42 (by decide +kernel)
theorem dX11_pullBy_85 : decode cX11_pullBy 85 = .ok (.getfield 58, 3) := dc_180 (a := 0) (b := 58) (by decide +kernel)
theorem dX11_pullBy_88 : decode cX11_pullBy 88 = .ok (.invokevirtual 290, 3) := dc_182 (a := 1) (b := 34) (by decide +kernel)
theorem dX11_pullBy_91 : decode cX11_pullBy 91 = .ok (.istore 4, 2) := dc_54 (a := 4) (by decide +kernel)
theorem dX11_pullBy_93 : decode cX11_pullBy 93 = .ok (.iload 4, 2) := dc_21 (a := 4) (by decide +kernel)
theorem dX11_pullBy_95 : decode cX11_pullBy 95 = .ok (.ifCond .eq 13, 3) := dc_153 (a := 0) (b := 13) (by decide +kernel) (by decide)
theorem dX11_pullBy_98 : decode cX11_pullBy 98 = .ok (.aload_n 0, 1) := dc_42 (by decide +kernel)
theorem dX11_pullBy_99 : decode cX11_pullBy 99 = .ok (.getfield 10, 3) := dc_180 (a := 0) (b := 10) (by decide +kernel)
theorem dX11_pullBy_102 : decode cX11_pullBy 102 = .ok (.iload 4, 2) := dc_21 (a := 4) (by decide +kernel)
theorem dX11_pullBy_104 : decode cX11_pullBy 104 = .ok (.invokevirtual 98, 3) := dc_182 (a := 0) (b := 98) (by decide +kernel)
theorem dX11_pullBy_107 : decode cX11_pullBy 107 = .ok (.ireturn, 1) := dc_172 (by decide +kernel)
theorem dX11_pullBy_108 : decode cX11_pullBy 108 = .ok (.aload_n 0, 1) := dc_42 (by decide +kernel)
theorem dX11_pullBy_109 : decode cX11_pullBy 109 = .ok (.getfield 10, 3) := dc_180 (a := 0) (b := 10) (by decide +kernel)
theorem dX11_pullBy_112 : decode cX11_pullBy 112 = .ok (.dup, 1) := dc_89 (by decide +kernel)
theorem dX11_pullBy_113 : decode cX11_pullBy 113 = .ok (.getfield 293, 3) := dc_180 (a := 1) (b := 37) (by decide +kernel)
theorem dX11_pullBy_116 : decode cX11_pullBy 116 = .ok (.iconst 1, 1) := dc_4 (by decide +kernel)
theorem dX11_pullBy_117 : decode cX11_pullBy 117 = .ok (.iadd, 1) := dc_96 (by decide +kernel)
theorem dX11_pullBy_118 : decode cX11_pullBy 118 = .ok (.putfield 293, 3) := dc_181 (a := 1) (b := 37) (by decide +kernel)
theorem dX11_pullBy_121 : decode cX11_pullBy 121 = .ok (.iinc 6 1, 3) := dc_132 (a := 6) (b := 1) (by decide +kernel) (by decide)
theorem dX11_pullBy_124 : decode cX11_pullBy 124 = .ok (.goto (-46), 3) := dc_167 (a := 255) (b := 210) (by decide +kernel) (by decide)
theorem dX11_pullBy_127 : decode cX11_pullBy 127 = .ok (.iload_n 3, 1) := dc_29 (by decide +kernel)
theorem dX11_pullBy_128 : decode cX11_pullBy 128 = .ok (.ireturn, 1) := dc_172 (by decide +kernel)
set_option maxRecDepth 100000 in
set_option maxHeartbeats 4000000 in
theorem w_Yard_pullBy_L78 {p : Program} {l : Launch} {e : Env} {R : Room} {s : State} {m : MethodId} {args : Array Value} {below : List Frame} {meth : Method} {c : Code} {dC : Nat → ClassId} {dI : Nat → Nat → Nat} {cs : Nat → ClassId} {ad : Nat → Nat} {A : Nat → Prop} {D0 : Nat → Nat} {S' : SS} {r : Int32} (F : Fx p s m args meth c cX11_pullBy 7 RX11 (some .int) dC dI cs A) (hR1 : 5 ≤ R.frames) (hR2 : 112 ≤ R.locals) : ∀ (n : Nat) (x3 : Int32) (x6 : Int32) (S : SS), f_Yard_pullBy_L78 n x3 x6 S = some (r, S') → AW p l e R s m args below meth c dC dI cs ad A D0 (some (.int r)) S' 7 78 [(0, .ref (ad 61)), (3, .int x3), (6, .int x6)] [] S := by
  have hx := F.1.1
  have hb := F.1.2.1
  intro n
  induction n with
  | zero => intro x3 x6 S h; cases h
  | succ n ih =>
    intro x3 x6 S h H locs ls w hl
    rw [f_Yard_pullBy_L78] at h
    refine lv_iload (pc := 78) hx hb dX11_pullBy_78 (lv_at hl 2 rfl) ?_
    refine lv_iload_n (pc := 80) hx hb dX11_pullBy_80 rfl (lv_at hl 1 rfl) ?_
    refine lv_icmp_ge (pc := 81) (tgt := 127) hx hb dX11_pullBy_81 (by decide) (fun q => ?_) (fun q => ?_)
    · have h := ite_t q h
      refine lv_iload_n (pc := 127) hx hb dX11_pullBy_127 rfl (lv_at hl 1 rfl) ?_
      exact s_iret F w h dX11_pullBy_128
    · have h := ite_f q h
      refine lv_aload_n (pc := 84) hx hb dX11_pullBy_84 rfl (lv_at hl 0 rfl) ?_
      refine s_getR (pc := 85) F w 68 ds_61 (j := 6) vc_X11 vi_X11 rfl (by decide) kf_X11_58 dX11_pullBy_85 ?_
      obtain ⟨r10, S9, hc, h⟩ := bnd_t h
      refine s_cvi (pc := 88) [] (fun ad => [.ref (ad 68)]) F w (m_Trains_stepLine  _ _ _ hc) rfl rfl hl.1 ds_68 vc_X10 rfl ok_X10_stepLine rfl kc_X10_stepLine kl_X11_290 ki_X10_stepLine kv_X10_stepLine kn_X10 ⟨Nat.le_trans (by decide) hR1, Nat.le_trans (by decide) hR2⟩ ⟨Nat.zero_le _, Nat.zero_le _⟩ (Nat.le_of_ble_eq_true rfl) dX11_pullBy_88 (fun H locs w => ?_)
      refine lv_istore (pc := 91) (lv' := [(4, .int r10), (0, .ref (ad 61)), (3, .int x3), (6, .int x6)]) hx hb dX11_pullBy_91 hl (by decide) rfl (fun ls hl => ?_)
      refine lv_iload (pc := 93) hx hb dX11_pullBy_93 (lv_at hl 0 rfl) ?_
      refine lv_if_eq (pc := 95) (tgt := 108) hx hb dX11_pullBy_95 (by decide) (fun q => ?_) (fun q => ?_)
      · have h := ite_t q h
        refine lv_aload_n (pc := 108) hx hb dX11_pullBy_108 rfl (lv_at hl 1 rfl) ?_
        refine s_getR (pc := 109) F w 62 ds_61 (j := 0) vc_X11 vi_X11 rfl (by decide) kf_X11_10 dX11_pullBy_109 ?_
        refine lv_dup (pc := 112) hx hb dX11_pullBy_112 rfl ?_
        refine s_getI (pc := 113) F w ds_62 (j := 5) vc_X5 vi_X5 rfl (by decide) kf_X11_293 dX11_pullBy_113 ?_
        refine lv_iconst (pc := 116) (v := 1) hx hb dX11_pullBy_116 (by decide) ?_
        refine lv_iadd (pc := 117) hx hb dX11_pullBy_117 ?_
        refine s_putI (pc := 118) F w ds_62 vc_X5 vi_X5 tyX5_ok nmX5 (j := 5) rfl (by decide) kf_X11_293 rfl pd_I h dX11_pullBy_118 (fun S11 H locs h w => ?_)
        refine s_nm h (fun z12 ez12 h => ?_)
        refine lv_iinc (pc := 121) (v := z12) (lv' := [(6, .int z12), (4, .int r10), (0, .ref (ad 61)), (3, .int x3)]) hx hb dX11_pullBy_121 hl (k := 3) rfl (by rw [ez12]; rfl) (by decide) rfl (fun ls hl => ?_)
        refine lv_goto (pc := 124) (tgt := 78) hx hb dX11_pullBy_124 (by decide) ?_
        exact ih _ _ _ h _ _ _ w (lv_sub hl [2, 3, 0] rfl)
      · have h := ite_f q h
        refine lv_aload_n (pc := 98) hx hb dX11_pullBy_98 rfl (lv_at hl 1 rfl) ?_
        refine s_getR (pc := 99) F w 62 ds_61 (j := 0) vc_X11 vi_X11 rfl (by decide) kf_X11_10 dX11_pullBy_99 ?_
        refine lv_iload (pc := 102) hx hb dX11_pullBy_102 (lv_at hl 0 rfl) ?_
        obtain ⟨r14, S13, hc, h⟩ := bnd_t h
        refine s_cvi (pc := 104) [.int r10] (fun ad => [.ref (ad 62), .int r10]) F w (m_Report_found _ _ _ _ hc) rfl rfl hl.1 ds_62 vc_X5 rfl ok_X5_found rfl kc_X5_found kl_X11_98 ki_X5_found kv_X5_found kn_X5 ⟨Nat.le_trans (by decide) hR1, Nat.le_trans (by decide) hR2⟩ ⟨Nat.zero_le _, Nat.zero_le _⟩ (Nat.le_of_ble_eq_true rfl) dX11_pullBy_104 (fun H locs w => ?_)
        exact s_iret F w h dX11_pullBy_107
set_option maxRecDepth 100000 in
set_option maxHeartbeats 4000000 in
theorem m_Yard_pullBy (a1 : Int32) (a2 : Int32) (a3 : Int32) (S S' : SS) (r : Int32) (h : f_Yard_pullBy a1 a2 a3 S = some (r, S')) : MT yX11_pullBy cX11_pullBy 7 (some .int) 5 112 (fun ad => [.ref (ad 61), .int a1, .int a2, .int a3]) S (some (.int r)) S' := by
  refine MT.of RX11 (fun ad => [(0, .ref (ad 61)), (1, .int a1), (2, .int a2), (3, .int a3)]) (by decide) rfl (fun _ => Nat.le_of_ble_eq_true rfl) (fun _ => rfl) ?_
  intro p l e R s m args below meth c dC dI cs ad A hR1 hR2 F H locs ls w hl
  have hx := F.1.1
  have hb := F.1.2.1
  rw [f_Yard_pullBy] at h
  refine lv_aload_n (pc := 0) hx hb dX11_pullBy_0 rfl (lv_at hl 0 rfl) ?_
  refine lv_iload_n (pc := 1) hx hb dX11_pullBy_1 rfl (lv_at hl 1 rfl) ?_
  refine lv_bipush (pc := 2) (v := 96) hx hb dX11_pullBy_2 (by decide) ?_
  refine lv_iload_n (pc := 4) hx hb dX11_pullBy_4 rfl (lv_at hl 2 rfl) ?_
  obtain ⟨r2, S1, hc, h⟩ := bnd_t h
  refine s_cvi (pc := 5) [.int a1, .int (96 : Int32), .int a2] (fun ad => [.ref (ad 61), .int a1, .int (96 : Int32), .int a2]) F w (m_Yard_namedSide _ _ _ _ _ _ hc) rfl rfl hl.1 ds_61 vc_X11 rfl ok_X11_namedSide rfl kc_X11_namedSide kl_X11_259 ki_X11_namedSide kv_X11_namedSide kn_X11 ⟨Nat.le_trans (by decide) hR1, Nat.le_trans (by decide) hR2⟩ ⟨Nat.zero_le _, Nat.zero_le _⟩ (Nat.le_of_ble_eq_true rfl) dX11_pullBy_5 (fun H locs w => ?_)
  refine lv_istore (pc := 8) (lv' := [(4, .int r2), (0, .ref (ad 61)), (1, .int a1), (2, .int a2), (3, .int a3)]) hx hb dX11_pullBy_8 hl (by decide) rfl (fun ls hl => ?_)
  refine lv_iload (pc := 10) hx hb dX11_pullBy_10 (lv_at hl 0 rfl) ?_
  refine lv_if_eq (pc := 12) (tgt := 25) hx hb dX11_pullBy_12 (by decide) (fun q => ?_) (fun q => ?_)
  · have h := ite_t q h
    refine lv_aload_n (pc := 25) hx hb dX11_pullBy_25 rfl (lv_at hl 1 rfl) ?_
    refine s_getR (pc := 26) F w 68 ds_61 (j := 6) vc_X11 vi_X11 rfl (by decide) kf_X11_58 dX11_pullBy_26 ?_
    refine lv_iconst (pc := 29) (v := 2) hx hb dX11_pullBy_29 (by decide) ?_
    refine lv_iload_n (pc := 30) hx hb dX11_pullBy_30 rfl (lv_at hl 2 rfl) ?_
    refine lv_imul (pc := 31) hx hb dX11_pullBy_31 ?_
    obtain ⟨S3, hc, h⟩ := bndv_t h
    refine s_cvv (pc := 32) [.int ((2 : Int32) * a1)] (fun ad => [.ref (ad 68), .int ((2 : Int32) * a1)]) F w (m_Trains_lineUp _ _ _ hc) rfl rfl hl.1 ds_68 vc_X10 rfl ok_X10_lineUp rfl kc_X10_lineUp kl_X11_281 ki_X10_lineUp kv_X10_lineUp kn_X10 ⟨Nat.le_trans (by decide) hR1, Nat.le_trans (by decide) hR2⟩ ⟨Nat.zero_le _, Nat.zero_le _⟩ (Nat.le_of_ble_eq_true rfl) dX11_pullBy_32 (fun H locs w => ?_)
    refine lv_aload_n (pc := 35) hx hb dX11_pullBy_35 rfl (lv_at hl 1 rfl) ?_
    obtain ⟨r5, S4, hc, h⟩ := bnd_t h
    refine s_cvi (pc := 36) [] (fun ad => [.ref (ad 61)]) F w (m_Yard_lineWeight  _ _ _ hc) rfl rfl hl.1 ds_61 vc_X11 rfl ok_X11_lineWeight rfl kc_X11_lineWeight kl_X11_284 ki_X11_lineWeight kv_X11_lineWeight kn_X11 ⟨Nat.le_trans (by decide) hR1, Nat.le_trans (by decide) hR2⟩ ⟨Nat.zero_le _, Nat.zero_le _⟩ (Nat.le_of_ble_eq_true rfl) dX11_pullBy_36 (fun H locs w => ?_)
    refine lv_istore (pc := 39) (lv' := [(5, .int r5), (4, .int r2), (0, .ref (ad 61)), (1, .int a1), (2, .int a2), (3, .int a3)]) hx hb dX11_pullBy_39 hl (by decide) rfl (fun ls hl => ?_)
    refine lv_iload (pc := 41) hx hb dX11_pullBy_41 (lv_at hl 0 rfl) ?_
    refine lv_bipush (pc := 43) (v := 20) hx hb dX11_pullBy_43 (by decide) ?_
    refine lv_aload_n (pc := 45) hx hb dX11_pullBy_45 rfl (lv_at hl 2 rfl) ?_
    obtain ⟨r7, S6, hc, h⟩ := bnd_t h
    refine s_cvi (pc := 46) [] (fun ad => [.ref (ad 61)]) F w (m_Yard_linePulls  _ _ _ hc) rfl rfl hl.1 ds_61 vc_X11 rfl ok_X11_linePulls rfl kc_X11_linePulls kl_X11_287 ki_X11_linePulls kv_X11_linePulls kn_X11 ⟨Nat.le_trans (by decide) hR1, Nat.le_trans (by decide) hR2⟩ ⟨Nat.zero_le _, Nat.zero_le _⟩ (Nat.le_of_ble_eq_true rfl) dX11_pullBy_46 (fun H locs w => ?_)
    refine lv_imul (pc := 49) hx hb dX11_pullBy_49 ?_
    refine lv_icmp_le (pc := 50) (tgt := 63) hx hb dX11_pullBy_50 (by decide) (fun q => ?_) (fun q => ?_)
    · have h := ite_t q h
      refine lv_aload_n (pc := 63) hx hb dX11_pullBy_63 rfl (lv_at hl 2 rfl) ?_
      refine s_getR (pc := 64) F w 68 ds_61 (j := 6) vc_X11 vi_X11 rfl (by decide) kf_X11_58 dX11_pullBy_64 ?_
      refine lv_iconst (pc := 67) (v := 2) hx hb dX11_pullBy_67 (by decide) ?_
      refine lv_iload_n (pc := 68) hx hb dX11_pullBy_68 rfl (lv_at hl 3 rfl) ?_
      refine lv_imul (pc := 69) hx hb dX11_pullBy_69 ?_
      refine lv_iload_n (pc := 70) hx hb dX11_pullBy_70 rfl (lv_at hl 4 rfl) ?_
      refine lv_iadd (pc := 71) hx hb dX11_pullBy_71 ?_
      obtain ⟨S8, hc, h⟩ := bndv_t h
      refine s_cvv (pc := 72) [.int (((2 : Int32) * a1) + a2)] (fun ad => [.ref (ad 68), .int (((2 : Int32) * a1) + a2)]) F w (m_Trains_lineUp _ _ _ hc) rfl rfl hl.1 ds_68 vc_X10 rfl ok_X10_lineUp rfl kc_X10_lineUp kl_X11_281 ki_X10_lineUp kv_X10_lineUp kn_X10 ⟨Nat.le_trans (by decide) hR1, Nat.le_trans (by decide) hR2⟩ ⟨Nat.zero_le _, Nat.zero_le _⟩ (Nat.le_of_ble_eq_true rfl) dX11_pullBy_72 (fun H locs w => ?_)
      refine lv_iconst (pc := 75) (v := 0) hx hb dX11_pullBy_75 (by decide) ?_
      refine lv_istore (pc := 76) (lv' := [(6, .int (0 : Int32)), (5, .int r5), (4, .int r2), (0, .ref (ad 61)), (1, .int a1), (2, .int a2), (3, .int a3)]) hx hb dX11_pullBy_76 hl (by decide) rfl (fun ls hl => ?_)
      exact w_Yard_pullBy_L78 F (Nat.le_trans (by decide) hR1) (Nat.le_trans (by decide) hR2) _ _ _ _ h _ _ _ w (lv_sub hl [3, 6, 0] rfl)
    · have h := ite_f q h
      refine lv_aload_n (pc := 53) hx hb dX11_pullBy_53 rfl (lv_at hl 2 rfl) ?_
      refine s_getR (pc := 54) F w 62 ds_61 (j := 0) vc_X11 vi_X11 rfl (by decide) kf_X11_10 dX11_pullBy_54 ?_
      refine lv_bipush (pc := 57) (v := 15) hx hb dX11_pullBy_57 (by decide) ?_
      obtain ⟨r16, S15, hc, h⟩ := bnd_t h
      refine s_cvi (pc := 59) [.int (15 : Int32)] (fun ad => [.ref (ad 62), .int (15 : Int32)]) F w (m_Report_found _ _ _ _ hc) rfl rfl hl.1 ds_62 vc_X5 rfl ok_X5_found rfl kc_X5_found kl_X11_98 ki_X5_found kv_X5_found kn_X5 ⟨Nat.le_trans (by decide) hR1, Nat.le_trans (by decide) hR2⟩ ⟨Nat.zero_le _, Nat.zero_le _⟩ (Nat.le_of_ble_eq_true rfl) dX11_pullBy_59 (fun H locs w => ?_)
      exact s_iret F w h dX11_pullBy_62
  · have h := ite_f q h
    refine lv_aload_n (pc := 15) hx hb dX11_pullBy_15 rfl (lv_at hl 1 rfl) ?_
    refine s_getR (pc := 16) F w 62 ds_61 (j := 0) vc_X11 vi_X11 rfl (by decide) kf_X11_10 dX11_pullBy_16 ?_
    refine lv_iload (pc := 19) hx hb dX11_pullBy_19 (lv_at hl 0 rfl) ?_
    obtain ⟨r18, S17, hc, h⟩ := bnd_t h
    refine s_cvi (pc := 21) [.int r2] (fun ad => [.ref (ad 62), .int r2]) F w (m_Report_found _ _ _ _ hc) rfl rfl hl.1 ds_62 vc_X5 rfl ok_X5_found rfl kc_X5_found kl_X11_98 ki_X5_found kv_X5_found kn_X5 ⟨Nat.le_trans (by decide) hR1, Nat.le_trans (by decide) hR2⟩ ⟨Nat.zero_le _, Nat.zero_le _⟩ (Nat.le_of_ble_eq_true rfl) dX11_pullBy_21 (fun H locs w => ?_)
    exact s_iret F w h dX11_pullBy_24
def f_Yard_pull (a1 : Int32) (a2 : Int32) (a3 : Int32) (S : SS) : Option (Int32 × SS) :=
  bnd (f_Yard_isNot a3 (1 : Int32) (200 : Int32) S) (fun r2 S1 =>
  if r2 = 0 then
    bndv (f_Yard_beginAct  S1) (fun S3 =>
    bnd (f_Yard_pullBy a1 a2 a3 S3) (fun r5 S4 =>
    bnd (f_Yard_endAct (8 : Int32) r5 S4) (fun r7 S6 =>
    some (r7, S6))))
  else
    some ((-1 : Int32), S1))
theorem dX11_pull_0 : decode cX11_pull 0 = .ok (.iload_n 3, 1) := dc_29 (by decide +kernel)
theorem dX11_pull_1 : decode cX11_pull 1 = .ok (.iconst 1, 1) := dc_4 (by decide +kernel)
theorem dX11_pull_2 : decode cX11_pull 2 = .ok (.sipush 200, 3) := dc_17 (a := 0) (b := 200) (by decide +kernel) (by decide)
theorem dX11_pull_5 : decode cX11_pull 5 = .ok (.invokestatic 108, 3) := dc_184 (a := 0) (b := 108) (by decide +kernel)
theorem dX11_pull_8 : decode cX11_pull 8 = .ok (.ifCond .eq 5, 3) := dc_153 (a := 0) (b := 5) (by decide +kernel) (by decide)
theorem dX11_pull_11 : decode cX11_pull 11 = .ok (.iconst (-1), 1) := dc_2 (by decide +kernel)
theorem dX11_pull_12 : decode cX11_pull 12 = .ok (.ireturn, 1) := dc_172 (by decide +kernel)
theorem dX11_pull_13 : decode cX11_pull 13 = .ok (.aload_n 0, 1) := dc_42 (by decide +kernel)
theorem dX11_pull_14 : decode cX11_pull 14 = .ok (.invokevirtual 199, 3) := dc_182 (a := 0) (b := 199) (by decide +kernel)
theorem dX11_pull_17 : decode cX11_pull 17 = .ok (.aload_n 0, 1) := dc_42 (by decide +kernel)
theorem dX11_pull_18 : decode cX11_pull 18 = .ok (.bipush 8, 2) := dc_16 (a := 8) (by decide +kernel) (by decide)
theorem dX11_pull_20 : decode cX11_pull 20 = .ok (.aload_n 0, 1) := dc_42 (by decide +kernel)
theorem dX11_pull_21 : decode cX11_pull 21 = .ok (.iload_n 1, 1) := dc_27 (by decide +kernel)
theorem dX11_pull_22 : decode cX11_pull 22 = .ok (.iload_n 2, 1) := dc_28 (by decide +kernel)
theorem dX11_pull_23 : decode cX11_pull 23 = .ok (.iload_n 3, 1) := dc_29 (by decide +kernel)
theorem dX11_pull_24 : decode cX11_pull 24 = .ok (.invokevirtual 226, 3) := dc_182 (a := 0) (b := 226) (by decide +kernel)
theorem dX11_pull_27 : decode cX11_pull 27 = .ok (.invokevirtual 205, 3) := dc_182 (a := 0) (b := 205) (by decide +kernel)
theorem dX11_pull_30 : decode cX11_pull 30 = .ok (.ireturn, 1) := dc_172 (by decide +kernel)
set_option maxRecDepth 100000 in
set_option maxHeartbeats 4000000 in
theorem m_Yard_pull (a1 : Int32) (a2 : Int32) (a3 : Int32) (S S' : SS) (r : Int32) (h : f_Yard_pull a1 a2 a3 S = some (r, S')) : MT yX11_pull cX11_pull 4 (some .int) 6 138 (fun ad => [.ref (ad 61), .int a1, .int a2, .int a3]) S (some (.int r)) S' := by
  refine MT.of RX11 (fun ad => [(0, .ref (ad 61)), (1, .int a1), (2, .int a2), (3, .int a3)]) (by decide) rfl (fun _ => Nat.le_of_ble_eq_true rfl) (fun _ => rfl) ?_
  intro p l e R s m args below meth c dC dI cs ad A hR1 hR2 F H locs ls w hl
  have hx := F.1.1
  have hb := F.1.2.1
  rw [f_Yard_pull] at h
  refine lv_iload_n (pc := 0) hx hb dX11_pull_0 rfl (lv_at hl 3 rfl) ?_
  refine lv_iconst (pc := 1) (v := 1) hx hb dX11_pull_1 (by decide) ?_
  refine lv_sipush (pc := 2) (v := 200) hx hb dX11_pull_2 (by decide) ?_
  obtain ⟨r2, S1, hc, h⟩ := bnd_t h
  refine s_csi (pc := 5) [.int a3, .int (1 : Int32), .int (200 : Int32)] (fun ad => [.int a3, .int (1 : Int32), .int (200 : Int32)]) F w (m_Yard_isNot _ _ _ _ _ _ hc) rfl rfl hl.1 ok_X11_isNot rfl kc_X11_isNot kl_X11_108 ks_X11_isNot kn_X11 ⟨Nat.le_trans (by decide) hR1, Nat.le_trans (by decide) hR2⟩ ⟨Nat.zero_le _, Nat.zero_le _⟩ (Nat.le_of_ble_eq_true rfl) dX11_pull_5 (fun H locs w => ?_)
  refine lv_if_eq (pc := 8) (tgt := 13) hx hb dX11_pull_8 (by decide) (fun q => ?_) (fun q => ?_)
  · have h := ite_t q h
    refine lv_aload_n (pc := 13) hx hb dX11_pull_13 rfl (lv_at hl 0 rfl) ?_
    obtain ⟨S3, hc, h⟩ := bndv_t h
    refine s_cvv (pc := 14) [] (fun ad => [.ref (ad 61)]) F w (m_Yard_beginAct  _ _ hc) rfl rfl hl.1 ds_61 vc_X11 rfl ok_X11_beginAct rfl kc_X11_beginAct kl_X11_199 ki_X11_beginAct kv_X11_beginAct kn_X11 ⟨Nat.le_trans (by decide) hR1, Nat.le_trans (by decide) hR2⟩ ⟨Nat.zero_le _, Nat.zero_le _⟩ (Nat.le_of_ble_eq_true rfl) dX11_pull_14 (fun H locs w => ?_)
    refine lv_aload_n (pc := 17) hx hb dX11_pull_17 rfl (lv_at hl 0 rfl) ?_
    refine lv_bipush (pc := 18) (v := 8) hx hb dX11_pull_18 (by decide) ?_
    refine lv_aload_n (pc := 20) hx hb dX11_pull_20 rfl (lv_at hl 0 rfl) ?_
    refine lv_iload_n (pc := 21) hx hb dX11_pull_21 rfl (lv_at hl 1 rfl) ?_
    refine lv_iload_n (pc := 22) hx hb dX11_pull_22 rfl (lv_at hl 2 rfl) ?_
    refine lv_iload_n (pc := 23) hx hb dX11_pull_23 rfl (lv_at hl 3 rfl) ?_
    obtain ⟨r5, S4, hc, h⟩ := bnd_t h
    refine s_cvi (pc := 24) [.int a1, .int a2, .int a3] (fun ad => [.ref (ad 61), .int a1, .int a2, .int a3]) F w (m_Yard_pullBy _ _ _ _ _ _ hc) rfl rfl hl.1 ds_61 vc_X11 rfl ok_X11_pullBy rfl kc_X11_pullBy kl_X11_226 ki_X11_pullBy kv_X11_pullBy kn_X11 ⟨Nat.le_trans (by decide) hR1, Nat.le_trans (by decide) hR2⟩ ⟨Nat.zero_le _, Nat.zero_le _⟩ (Nat.le_of_ble_eq_true rfl) dX11_pull_24 (fun H locs w => ?_)
    obtain ⟨r7, S6, hc, h⟩ := bnd_t h
    refine s_cvi (pc := 27) [.int (8 : Int32), .int r5] (fun ad => [.ref (ad 61), .int (8 : Int32), .int r5]) F w (m_Yard_endAct _ _ _ _ _ hc) rfl rfl hl.1 ds_61 vc_X11 rfl ok_X11_endAct rfl kc_X11_endAct kl_X11_205 ki_X11_endAct kv_X11_endAct kn_X11 ⟨Nat.le_trans (by decide) hR1, Nat.le_trans (by decide) hR2⟩ ⟨Nat.zero_le _, Nat.zero_le _⟩ (Nat.le_of_ble_eq_true rfl) dX11_pull_27 (fun H locs w => ?_)
    exact s_iret F w h dX11_pull_30
  · have h := ite_f q h
    refine lv_iconst (pc := 11) (v := -1) hx hb dX11_pull_11 (by decide) ?_
    exact s_iret F w h dX11_pull_12
def f_Bodies_heavy_j28  (x1 : Int32) (x2 : Int32) (S : SS) : Option (Int32 × SS) :=
    bndv (f_Report_beginBody (12 : Int32) S) (fun S3 =>
    bnd (f_Bodies_weight x1 S3) (fun r5 S4 =>
    bnd (f_Stock_get x1 (1 : Int32) S4) (fun r7 S6 =>
    nm (((2 : Int32) * r5) + r7) (fun z8 =>
    if x2 = 0 then
      some (z8, S6)
    else
      some (z8 + (10 : Int32), S6)))))
def f_Bodies_heavy_j14  (x1 : Int32) (y0 : Int32) (S : SS) : Option (Int32 × SS) :=
    if y0 = 0 then
      f_Bodies_heavy_j28 x1 y0 S
    else
      bndv (f_Report_beginBody (13 : Int32) S) (fun S9 =>
      f_Bodies_heavy_j28 x1 y0 S9)
def f_Bodies_heavy (a1 : Int32) (S : SS) : Option (Int32 × SS) :=
  bnd (f_Bodies_kindOf a1 S) (fun r2 S1 =>
  if r2 = (3 : Int32) then
    f_Bodies_heavy_j14 a1 (1 : Int32) S1
  else
    f_Bodies_heavy_j14 a1 (0 : Int32) S1)
theorem dX0_heavy_0 : decode cX0_heavy 0 = .ok (.aload_n 0, 1) := dc_42 (by decide +kernel)
theorem dX0_heavy_1 : decode cX0_heavy 1 = .ok (.iload_n 1, 1) := dc_27 (by decide +kernel)
theorem dX0_heavy_2 : decode cX0_heavy 2 = .ok (.invokevirtual 33, 3) := dc_182 (a := 0) (b := 33) (by decide +kernel)
theorem dX0_heavy_5 : decode cX0_heavy 5 = .ok (.iconst 3, 1) := dc_6 (by decide +kernel)
theorem dX0_heavy_6 : decode cX0_heavy 6 = .ok (.if_icmp .ne 7, 3) := dc_160 (a := 0) (b := 7) (by decide +kernel) (by decide)
theorem dX0_heavy_9 : decode cX0_heavy 9 = .ok (.iconst 1, 1) := dc_4 (by decide +kernel)
theorem dX0_heavy_10 : decode cX0_heavy 10 = .ok (.goto 4, 3) := dc_167 (a := 0) (b := 4) (by decide +kernel) (by decide)
theorem dX0_heavy_13 : decode cX0_heavy 13 = .ok (.iconst 0, 1) := dc_3 (by decide +kernel)
theorem dX0_heavy_14 : decode cX0_heavy 14 = .ok (.istore_n 2, 1) := dc_61 (by decide +kernel)
theorem dX0_heavy_15 : decode cX0_heavy 15 = .ok (.iload_n 2, 1) := dc_28 (by decide +kernel)
theorem dX0_heavy_16 : decode cX0_heavy 16 = .ok (.ifCond .eq 12, 3) := dc_153 (a := 0) (b := 12) (by decide +kernel) (by decide)
theorem dX0_heavy_19 : decode cX0_heavy 19 = .ok (.aload_n 0, 1) := dc_42 (by decide +kernel)
theorem dX0_heavy_20 : decode cX0_heavy 20 = .ok (.getfield 23, 3) := dc_180 (a := 0) (b := 23) (by decide +kernel)
theorem dX0_heavy_23 : decode cX0_heavy 23 = .ok (.bipush 13, 2) := dc_16 (a := 13) (by decide +kernel) (by decide)
theorem dX0_heavy_25 : decode cX0_heavy 25 = .ok (.invokevirtual 40, 3) := dc_182 (a := 0) (b := 40) (by decide +kernel)
theorem dX0_heavy_28 : decode cX0_heavy 28 = .ok (.aload_n 0, 1) := dc_42 (by decide +kernel)
theorem dX0_heavy_29 : decode cX0_heavy 29 = .ok (.getfield 23, 3) := dc_180 (a := 0) (b := 23) (by decide +kernel)
theorem dX0_heavy_32 : decode cX0_heavy 32 = .ok (.bipush 12, 2) := dc_16 (a := 12) (by decide +kernel) (by decide)
theorem dX0_heavy_34 : decode cX0_heavy 34 = .ok (.invokevirtual 40, 3) := dc_182 (a := 0) (b := 40) (by decide +kernel)
theorem dX0_heavy_37 : decode cX0_heavy 37 = .ok (.iconst 2, 1) := dc_5 (by decide +kernel)
theorem dX0_heavy_38 : decode cX0_heavy 38 = .ok (.aload_n 0, 1) := dc_42 (by decide +kernel)
theorem dX0_heavy_39 : decode cX0_heavy 39 = .ok (.iload_n 1, 1) := dc_27 (by decide +kernel)
theorem dX0_heavy_40 : decode cX0_heavy 40 = .ok (.invokevirtual 56, 3) := dc_182 (a := 0) (b := 56) (by decide +kernel)
theorem dX0_heavy_43 : decode cX0_heavy 43 = .ok (.imul, 1) := dc_104 (by decide +kernel)
theorem dX0_heavy_44 : decode cX0_heavy 44 = .ok (.aload_n 0, 1) := dc_42 (by decide +kernel)
theorem dX0_heavy_45 : decode cX0_heavy 45 = .ok (.getfield 19, 3) := dc_180 (a := 0) (b := 19) (by decide +kernel)
theorem dX0_heavy_48 : decode cX0_heavy 48 = .ok (.iload_n 1, 1) := dc_27 (by decide +kernel)
theorem dX0_heavy_49 : decode cX0_heavy 49 = .ok (.iconst 1, 1) := dc_4 (by decide +kernel)
theorem dX0_heavy_50 : decode cX0_heavy 50 = .ok (.invokevirtual 29, 3) := dc_182 (a := 0) (b := 29) (by decide +kernel)
theorem dX0_heavy_53 : decode cX0_heavy 53 = .ok (.iadd, 1) := dc_96 (by decide +kernel)
theorem dX0_heavy_54 : decode cX0_heavy 54 = .ok (.istore_n 3, 1) := dc_62 (by decide +kernel)
theorem dX0_heavy_55 : decode cX0_heavy 55 = .ok (.iload_n 2, 1) := dc_28 (by decide +kernel)
theorem dX0_heavy_56 : decode cX0_heavy 56 = .ok (.ifCond .eq 10, 3) := dc_153 (a := 0) (b := 10) (by decide +kernel) (by decide)
theorem dX0_heavy_59 : decode cX0_heavy 59 = .ok (.iload_n 3, 1) := dc_29 (by decide +kernel)
theorem dX0_heavy_60 : decode cX0_heavy 60 = .ok (.bipush 10, 2) := dc_16 (a := 10) (by decide +kernel) (by decide)
theorem dX0_heavy_62 : decode cX0_heavy 62 = .ok (.iadd, 1) := dc_96 (by decide +kernel)
theorem dX0_heavy_63 : decode cX0_heavy 63 = .ok (.goto 4, 3) := dc_167 (a := 0) (b := 4) (by decide +kernel) (by decide)
theorem dX0_heavy_66 : decode cX0_heavy 66 = .ok (.iload_n 3, 1) := dc_29 (by decide +kernel)
theorem dX0_heavy_67 : decode cX0_heavy 67 = .ok (.ireturn, 1) := dc_172 (by decide +kernel)
set_option maxRecDepth 100000 in
set_option maxHeartbeats 4000000 in
theorem w_Bodies_heavy_j28 {p : Program} {l : Launch} {e : Env} {R : Room} {s : State} {m : MethodId} {args : Array Value} {below : List Frame} {meth : Method} {c : Code} {dC : Nat → ClassId} {dI : Nat → Nat → Nat} {cs : Nat → ClassId} {ad : Nat → Nat} {A : Nat → Prop} {D0 : Nat → Nat} {S' : SS} {r : Int32} (F : Fx p s m args meth c cX0_heavy 4 RX0 (some .int) dC dI cs A) (hR1 : 4 ≤ R.frames) (hR2 : 85 ≤ R.locals) (x1 : Int32) (x2 : Int32) (S : SS) (h : f_Bodies_heavy_j28 x1 x2 S = some (r, S')) : AW p l e R s m args below meth c dC dI cs ad A D0 (some (.int r)) S' 4 28 [(0, .ref (ad 69)), (1, .int x1), (2, .int x2)] [] S := by
  have hx := F.1.1
  have hb := F.1.2.1
  intro H locs ls w hl
  rw [f_Bodies_heavy_j28] at h
  refine lv_aload_n (pc := 28) hx hb dX0_heavy_28 rfl (lv_at hl 0 rfl) ?_
  refine s_getR (pc := 29) F w 62 ds_69 (j := 2) vc_X0 vi_X0 rfl (by decide) kf_X0_23 dX0_heavy_29 ?_
  refine lv_bipush (pc := 32) (v := 12) hx hb dX0_heavy_32 (by decide) ?_
  obtain ⟨S3, hc, h⟩ := bndv_t h
  refine s_cvv (pc := 34) [.int (12 : Int32)] (fun ad => [.ref (ad 62), .int (12 : Int32)]) F w (m_Report_beginBody _ _ _ hc) rfl rfl hl.1 ds_62 vc_X5 rfl ok_X5_beginBody rfl kc_X5_beginBody kl_X0_40 ki_X5_beginBody kv_X5_beginBody kn_X5 ⟨Nat.le_trans (by decide) hR1, Nat.le_trans (by decide) hR2⟩ ⟨Nat.zero_le _, Nat.zero_le _⟩ (Nat.le_of_ble_eq_true rfl) dX0_heavy_34 (fun H locs w => ?_)
  refine lv_iconst (pc := 37) (v := 2) hx hb dX0_heavy_37 (by decide) ?_
  refine lv_aload_n (pc := 38) hx hb dX0_heavy_38 rfl (lv_at hl 0 rfl) ?_
  refine lv_iload_n (pc := 39) hx hb dX0_heavy_39 rfl (lv_at hl 1 rfl) ?_
  obtain ⟨r5, S4, hc, h⟩ := bnd_t h
  refine s_cvi (pc := 40) [.int x1] (fun ad => [.ref (ad 69), .int x1]) F w (m_Bodies_weight _ _ _ _ hc) rfl rfl hl.1 ds_69 vc_X0 rfl ok_X0_weight rfl kc_X0_weight kl_X0_56 ki_X0_weight kv_X0_weight kn_X0 ⟨Nat.le_trans (by decide) hR1, Nat.le_trans (by decide) hR2⟩ ⟨Nat.zero_le _, Nat.zero_le _⟩ (Nat.le_of_ble_eq_true rfl) dX0_heavy_40 (fun H locs w => ?_)
  refine lv_imul (pc := 43) hx hb dX0_heavy_43 ?_
  refine lv_aload_n (pc := 44) hx hb dX0_heavy_44 rfl (lv_at hl 0 rfl) ?_
  refine s_getR (pc := 45) F w 65 ds_69 (j := 1) vc_X0 vi_X0 rfl (by decide) kf_X0_19 dX0_heavy_45 ?_
  refine lv_iload_n (pc := 48) hx hb dX0_heavy_48 rfl (lv_at hl 1 rfl) ?_
  refine lv_iconst (pc := 49) (v := 1) hx hb dX0_heavy_49 (by decide) ?_
  obtain ⟨r7, S6, hc, h⟩ := bnd_t h
  refine s_cvi (pc := 50) [.int x1, .int (1 : Int32)] (fun ad => [.ref (ad 65), .int x1, .int (1 : Int32)]) F w (m_Stock_get _ _ _ _ _ hc) rfl rfl hl.1 ds_65 vc_X9 rfl ok_X9_get rfl kc_X9_get kl_X0_29 ki_X9_get kv_X9_get kn_X9 ⟨Nat.le_trans (by decide) hR1, Nat.le_trans (by decide) hR2⟩ ⟨Nat.zero_le _, Nat.zero_le _⟩ (Nat.le_of_ble_eq_true rfl) dX0_heavy_50 (fun H locs w => ?_)
  refine lv_iadd (pc := 53) hx hb dX0_heavy_53 ?_
  refine s_nm h (fun z8 ez8 h => ?_)
  rw [← ez8]
  refine lv_istore_n (pc := 54) (lv' := [(3, .int z8), (0, .ref (ad 69)), (1, .int x1), (2, .int x2)]) hx hb dX0_heavy_54 rfl hl (by decide) rfl (fun ls hl => ?_)
  refine lv_iload_n (pc := 55) hx hb dX0_heavy_55 rfl (lv_at hl 3 rfl) ?_
  refine lv_if_eq (pc := 56) (tgt := 66) hx hb dX0_heavy_56 (by decide) (fun q => ?_) (fun q => ?_)
  · have h := ite_t q h
    refine lv_iload_n (pc := 66) hx hb dX0_heavy_66 rfl (lv_at hl 0 rfl) ?_
    exact s_iret F w h dX0_heavy_67
  · have h := ite_f q h
    refine lv_iload_n (pc := 59) hx hb dX0_heavy_59 rfl (lv_at hl 0 rfl) ?_
    refine lv_bipush (pc := 60) (v := 10) hx hb dX0_heavy_60 (by decide) ?_
    refine lv_iadd (pc := 62) hx hb dX0_heavy_62 ?_
    refine lv_goto (pc := 63) (tgt := 67) hx hb dX0_heavy_63 (by decide) ?_
    exact s_iret F w h dX0_heavy_67
set_option maxRecDepth 100000 in
set_option maxHeartbeats 4000000 in
theorem w_Bodies_heavy_j14 {p : Program} {l : Launch} {e : Env} {R : Room} {s : State} {m : MethodId} {args : Array Value} {below : List Frame} {meth : Method} {c : Code} {dC : Nat → ClassId} {dI : Nat → Nat → Nat} {cs : Nat → ClassId} {ad : Nat → Nat} {A : Nat → Prop} {D0 : Nat → Nat} {S' : SS} {r : Int32} (F : Fx p s m args meth c cX0_heavy 4 RX0 (some .int) dC dI cs A) (hR1 : 4 ≤ R.frames) (hR2 : 85 ≤ R.locals) (x1 : Int32) (y0 : Int32) (S : SS) (h : f_Bodies_heavy_j14 x1 y0 S = some (r, S')) : AW p l e R s m args below meth c dC dI cs ad A D0 (some (.int r)) S' 4 14 [(0, .ref (ad 69)), (1, .int x1)] [.int y0] S := by
  have hx := F.1.1
  have hb := F.1.2.1
  intro H locs ls w hl
  rw [f_Bodies_heavy_j14] at h
  refine lv_istore_n (pc := 14) (lv' := [(2, .int y0), (0, .ref (ad 69)), (1, .int x1)]) hx hb dX0_heavy_14 rfl hl (by decide) rfl (fun ls hl => ?_)
  refine lv_iload_n (pc := 15) hx hb dX0_heavy_15 rfl (lv_at hl 0 rfl) ?_
  refine lv_if_eq (pc := 16) (tgt := 28) hx hb dX0_heavy_16 (by decide) (fun q => ?_) (fun q => ?_)
  · have h := ite_t q h
    exact w_Bodies_heavy_j28 F (Nat.le_trans (by decide) hR1) (Nat.le_trans (by decide) hR2) _ _ _ h _ _ _ w (lv_sub hl [1, 2, 0] rfl)
  · have h := ite_f q h
    refine lv_aload_n (pc := 19) hx hb dX0_heavy_19 rfl (lv_at hl 1 rfl) ?_
    refine s_getR (pc := 20) F w 62 ds_69 (j := 2) vc_X0 vi_X0 rfl (by decide) kf_X0_23 dX0_heavy_20 ?_
    refine lv_bipush (pc := 23) (v := 13) hx hb dX0_heavy_23 (by decide) ?_
    obtain ⟨S9, hc, h⟩ := bndv_t h
    refine s_cvv (pc := 25) [.int (13 : Int32)] (fun ad => [.ref (ad 62), .int (13 : Int32)]) F w (m_Report_beginBody _ _ _ hc) rfl rfl hl.1 ds_62 vc_X5 rfl ok_X5_beginBody rfl kc_X5_beginBody kl_X0_40 ki_X5_beginBody kv_X5_beginBody kn_X5 ⟨Nat.le_trans (by decide) hR1, Nat.le_trans (by decide) hR2⟩ ⟨Nat.zero_le _, Nat.zero_le _⟩ (Nat.le_of_ble_eq_true rfl) dX0_heavy_25 (fun H locs w => ?_)
    exact w_Bodies_heavy_j28 F (Nat.le_trans (by decide) hR1) (Nat.le_trans (by decide) hR2) _ _ _ h _ _ _ w (lv_sub hl [1, 2, 0] rfl)
set_option maxRecDepth 100000 in
set_option maxHeartbeats 4000000 in
theorem m_Bodies_heavy (a1 : Int32) (S S' : SS) (r : Int32) (h : f_Bodies_heavy a1 S = some (r, S')) : MT yX0_heavy cX0_heavy 4 (some .int) 4 85 (fun ad => [.ref (ad 69), .int a1]) S (some (.int r)) S' := by
  refine MT.of RX0 (fun ad => [(0, .ref (ad 69)), (1, .int a1)]) (by decide) rfl (fun _ => Nat.le_of_ble_eq_true rfl) (fun _ => rfl) ?_
  intro p l e R s m args below meth c dC dI cs ad A hR1 hR2 F H locs ls w hl
  have hx := F.1.1
  have hb := F.1.2.1
  rw [f_Bodies_heavy] at h
  refine lv_aload_n (pc := 0) hx hb dX0_heavy_0 rfl (lv_at hl 0 rfl) ?_
  refine lv_iload_n (pc := 1) hx hb dX0_heavy_1 rfl (lv_at hl 1 rfl) ?_
  obtain ⟨r2, S1, hc, h⟩ := bnd_t h
  refine s_cvi (pc := 2) [.int a1] (fun ad => [.ref (ad 69), .int a1]) F w (m_Bodies_kindOf _ _ _ _ hc) rfl rfl hl.1 ds_69 vc_X0 rfl ok_X0_kindOf rfl kc_X0_kindOf kl_X0_33 ki_X0_kindOf kv_X0_kindOf kn_X0 ⟨Nat.le_trans (by decide) hR1, Nat.le_trans (by decide) hR2⟩ ⟨Nat.zero_le _, Nat.zero_le _⟩ (Nat.le_of_ble_eq_true rfl) dX0_heavy_2 (fun H locs w => ?_)
  refine lv_iconst (pc := 5) (v := 3) hx hb dX0_heavy_5 (by decide) ?_
  refine lv_icmp_ne (pc := 6) (tgt := 13) hx hb dX0_heavy_6 (by decide) (fun q => ?_) (fun q => ?_)
  · have h := ite_f q h
    refine lv_iconst (pc := 13) (v := 0) hx hb dX0_heavy_13 (by decide) ?_
    exact w_Bodies_heavy_j14 F (Nat.le_trans (by decide) hR1) (Nat.le_trans (by decide) hR2) _ _ _ h _ _ _ w (lv_sub hl [0, 1] rfl)
  · have h := ite_t q h
    refine lv_iconst (pc := 9) (v := 1) hx hb dX0_heavy_9 (by decide) ?_
    refine lv_goto (pc := 10) (tgt := 14) hx hb dX0_heavy_10 (by decide) ?_
    exact w_Bodies_heavy_j14 F (Nat.le_trans (by decide) hR1) (Nat.le_trans (by decide) hR2) _ _ _ h _ _ _ w (lv_sub hl [0, 1] rfl)
def f_State_beginRun (a1 : Int32) (a2 : Int32) (a3 : Int32) (S : SS) : Option (SS) :=
  if a3 ≤ 0 then
    some S
  else
    grd (inb (1 : Int32) 946) (
    if (S.1 79 (1 : Int32).toNatClampNeg) < (72 : Int32) then
      bndv (f_State_set a1 (8 : Int32) a3 S) (fun S1 =>
      bndv (f_State_set a1 (9 : Int32) a2 S1) (fun S2 =>
      grd (inb (1 : Int32) 946) (
      grd (inb ((2 : Int32) + (S2.1 79 (1 : Int32).toNatClampNeg)) 946) (wr S2 79 ((2 : Int32) + (S2.1 79 (1 : Int32).toNatClampNeg)).toNatClampNeg a1 (fun S3 =>
      grd (inb (1 : Int32) 946) (
      grd (inb (1 : Int32) 946) (wr S3 79 (1 : Int32).toNatClampNeg ((S3.1 79 (1 : Int32).toNatClampNeg) + (1 : Int32)) (fun S4 =>
      some S4))))))))
    else
      some S)
theorem dX8_beginRun_0 : decode cX8_beginRun 0 = .ok (.iload_n 3, 1) := dc_29 (by decide +kernel)
theorem dX8_beginRun_1 : decode cX8_beginRun 1 = .ok (.ifCond .le 14, 3) := dc_158 (a := 0) (b := 14) (by decide +kernel) (by decide)
theorem dX8_beginRun_4 : decode cX8_beginRun 4 = .ok (.aload_n 0, 1) := dc_42 (by decide +kernel)
theorem dX8_beginRun_5 : decode cX8_beginRun 5 = .ok (.getfield 13, 3) := dc_180 (a := 0) (b := 13) (by decide +kernel)
theorem dX8_beginRun_8 : decode cX8_beginRun 8 = .ok (.iconst 1, 1) := dc_4 (by decide +kernel)
theorem dX8_beginRun_9 : decode cX8_beginRun 9 = .ok (.iaload, 1) := dc_46 (by decide +kernel)
theorem dX8_beginRun_10 : decode cX8_beginRun 10 = .ok (.bipush 72, 2) := dc_16 (a := 72) (by decide +kernel) (by decide)
theorem dX8_beginRun_12 : decode cX8_beginRun 12 = .ok (.if_icmp .lt 4, 3) := dc_161 (a := 0) (b := 4) (by decide +kernel) (by decide)
theorem dX8_beginRun_15 : decode cX8_beginRun 15 = .ok (.return_, 1) := dc_177 (by decide +kernel)
theorem dX8_beginRun_16 : decode cX8_beginRun 16 = .ok (.aload_n 0, 1) := dc_42 (by decide +kernel)
theorem dX8_beginRun_17 : decode cX8_beginRun 17 = .ok (.iload_n 1, 1) := dc_27 (by decide +kernel)
theorem dX8_beginRun_18 : decode cX8_beginRun 18 = .ok (.bipush 8, 2) := dc_16 (a := 8) (by decide +kernel) (by decide)
theorem dX8_beginRun_20 : decode cX8_beginRun 20 = .ok (.iload_n 3, 1) := dc_29 (by decide +kernel)
theorem dX8_beginRun_21 : decode cX8_beginRun 21 = .ok (.invokevirtual 27, 3) := dc_182 (a := 0) (b := 27) (by decide +kernel)
theorem dX8_beginRun_24 : decode cX8_beginRun 24 = .ok (.aload_n 0, 1) := dc_42 (by decide +kernel)
theorem dX8_beginRun_25 : decode cX8_beginRun 25 = .ok (.iload_n 1, 1) := dc_27 (by decide +kernel)
theorem dX8_beginRun_26 : decode cX8_beginRun 26 = .ok (.bipush 9, 2) := dc_16 (a := 9) (by decide +kernel) (by decide)
theorem dX8_beginRun_28 : decode cX8_beginRun 28 = .ok (.iload_n 2, 1) := dc_28 (by decide +kernel)
theorem dX8_beginRun_29 : decode cX8_beginRun 29 = .ok (.invokevirtual 27, 3) := dc_182 (a := 0) (b := 27) (by decide +kernel)
theorem dX8_beginRun_32 : decode cX8_beginRun 32 = .ok (.aload_n 0, 1) := dc_42 (by decide +kernel)
theorem dX8_beginRun_33 : decode cX8_beginRun 33 = .ok (.getfield 13, 3) := dc_180 (a := 0) (b := 13) (by decide +kernel)
theorem dX8_beginRun_36 : decode cX8_beginRun 36 = .ok (.iconst 2, 1) := dc_5 (by decide +kernel)
theorem dX8_beginRun_37 : decode cX8_beginRun 37 = .ok (.aload_n 0, 1) := dc_42 (by decide +kernel)
theorem dX8_beginRun_38 : decode cX8_beginRun 38 = .ok (.getfield 13, 3) := dc_180 (a := 0) (b := 13) (by decide +kernel)
theorem dX8_beginRun_41 : decode cX8_beginRun 41 = .ok (.iconst 1, 1) := dc_4 (by decide +kernel)
theorem dX8_beginRun_42 : decode cX8_beginRun 42 = .ok (.iaload, 1) := dc_46 (by decide +kernel)
theorem dX8_beginRun_43 : decode cX8_beginRun 43 = .ok (.iadd, 1) := dc_96 (by decide +kernel)
theorem dX8_beginRun_44 : decode cX8_beginRun 44 = .ok (.iload_n 1, 1) := dc_27 (by decide +kernel)
theorem dX8_beginRun_45 : decode cX8_beginRun 45 = .ok (.iastore, 1) := dc_79 (by decide +kernel)
theorem dX8_beginRun_46 : decode cX8_beginRun 46 = .ok (.aload_n 0, 1) := dc_42 (by decide +kernel)
theorem dX8_beginRun_47 : decode cX8_beginRun 47 = .ok (.getfield 13, 3) := dc_180 (a := 0) (b := 13) (by decide +kernel)
theorem dX8_beginRun_50 : decode cX8_beginRun 50 = .ok (.iconst 1, 1) := dc_4 (by decide +kernel)
theorem dX8_beginRun_51 : decode cX8_beginRun 51 = .ok (.dup2, 1) := dc_92 (by decide +kernel)
theorem dX8_beginRun_52 : decode cX8_beginRun 52 = .ok (.iaload, 1) := dc_46 (by decide +kernel)
theorem dX8_beginRun_53 : decode cX8_beginRun 53 = .ok (.iconst 1, 1) := dc_4 (by decide +kernel)
theorem dX8_beginRun_54 : decode cX8_beginRun 54 = .ok (.iadd, 1) := dc_96 (by decide +kernel)
theorem dX8_beginRun_55 : decode cX8_beginRun 55 = .ok (.iastore, 1) := dc_79 (by decide +kernel)
theorem dX8_beginRun_56 : decode cX8_beginRun 56 = .ok (.return_, 1) := dc_177 (by decide +kernel)
set_option maxRecDepth 100000 in
set_option maxHeartbeats 4000000 in
theorem m_State_beginRun (a1 : Int32) (a2 : Int32) (a3 : Int32) (S S' : SS) (h : f_State_beginRun a1 a2 a3 S = some S') : MT yX8_beginRun cX8_beginRun 4 none 1 23 (fun ad => [.ref (ad 63), .int a1, .int a2, .int a3]) S none S' := by
  refine MT.of RX8 (fun ad => [(0, .ref (ad 63)), (1, .int a1), (2, .int a2), (3, .int a3)]) (by decide) rfl (fun _ => Nat.le_of_ble_eq_true rfl) (fun _ => rfl) ?_
  intro p l e R s m args below meth c dC dI cs ad A hR1 hR2 F H locs ls w hl
  have hx := F.1.1
  have hb := F.1.2.1
  rw [f_State_beginRun] at h
  refine lv_iload_n (pc := 0) hx hb dX8_beginRun_0 rfl (lv_at hl 3 rfl) ?_
  refine lv_if_le (pc := 1) (tgt := 15) hx hb dX8_beginRun_1 (by decide) (fun q => ?_) (fun q => ?_)
  · have h := ite_t q h
    exact s_vret F w h dX8_beginRun_15
  · have h := ite_f q h
    refine lv_aload_n (pc := 4) hx hb dX8_beginRun_4 rfl (lv_at hl 0 rfl) ?_
    refine s_getR (pc := 5) F w 79 ds_63 (j := 0) vc_X8 vi_X8 rfl (by decide) kf_X8_13 dX8_beginRun_5 ?_
    refine lv_iconst (pc := 8) (v := 1) hx hb dX8_beginRun_8 (by decide) ?_
    refine s_iald (pc := 9) F w ds_79 h dX8_beginRun_9 (fun h => ?_)
    refine lv_bipush (pc := 10) (v := 72) hx hb dX8_beginRun_10 (by decide) ?_
    refine lv_icmp_lt (pc := 12) (tgt := 16) hx hb dX8_beginRun_12 (by decide) (fun q => ?_) (fun q => ?_)
    · have h := ite_t q h
      refine lv_aload_n (pc := 16) hx hb dX8_beginRun_16 rfl (lv_at hl 0 rfl) ?_
      refine lv_iload_n (pc := 17) hx hb dX8_beginRun_17 rfl (lv_at hl 1 rfl) ?_
      refine lv_bipush (pc := 18) (v := 8) hx hb dX8_beginRun_18 (by decide) ?_
      refine lv_iload_n (pc := 20) hx hb dX8_beginRun_20 rfl (lv_at hl 3 rfl) ?_
      obtain ⟨S1, hc, h⟩ := bndv_t h
      refine s_cvv (pc := 21) [.int a1, .int (8 : Int32), .int a3] (fun ad => [.ref (ad 63), .int a1, .int (8 : Int32), .int a3]) F w (m_State_set _ _ _ _ _ hc) rfl rfl hl.1 ds_63 vc_X8 rfl ok_X8_set rfl kc_X8_set kl_X8_27 ki_X8_set kv_X8_set kn_X8 ⟨Nat.le_trans (by decide) hR1, Nat.le_trans (by decide) hR2⟩ ⟨Nat.zero_le _, Nat.zero_le _⟩ (Nat.le_of_ble_eq_true rfl) dX8_beginRun_21 (fun H locs w => ?_)
      refine lv_aload_n (pc := 24) hx hb dX8_beginRun_24 rfl (lv_at hl 0 rfl) ?_
      refine lv_iload_n (pc := 25) hx hb dX8_beginRun_25 rfl (lv_at hl 1 rfl) ?_
      refine lv_bipush (pc := 26) (v := 9) hx hb dX8_beginRun_26 (by decide) ?_
      refine lv_iload_n (pc := 28) hx hb dX8_beginRun_28 rfl (lv_at hl 2 rfl) ?_
      obtain ⟨S2, hc, h⟩ := bndv_t h
      refine s_cvv (pc := 29) [.int a1, .int (9 : Int32), .int a2] (fun ad => [.ref (ad 63), .int a1, .int (9 : Int32), .int a2]) F w (m_State_set _ _ _ _ _ hc) rfl rfl hl.1 ds_63 vc_X8 rfl ok_X8_set rfl kc_X8_set kl_X8_27 ki_X8_set kv_X8_set kn_X8 ⟨Nat.le_trans (by decide) hR1, Nat.le_trans (by decide) hR2⟩ ⟨Nat.zero_le _, Nat.zero_le _⟩ (Nat.le_of_ble_eq_true rfl) dX8_beginRun_29 (fun H locs w => ?_)
      refine lv_aload_n (pc := 32) hx hb dX8_beginRun_32 rfl (lv_at hl 0 rfl) ?_
      refine s_getR (pc := 33) F w 79 ds_63 (j := 0) vc_X8 vi_X8 rfl (by decide) kf_X8_13 dX8_beginRun_33 ?_
      refine lv_iconst (pc := 36) (v := 2) hx hb dX8_beginRun_36 (by decide) ?_
      refine lv_aload_n (pc := 37) hx hb dX8_beginRun_37 rfl (lv_at hl 0 rfl) ?_
      refine s_getR (pc := 38) F w 79 ds_63 (j := 0) vc_X8 vi_X8 rfl (by decide) kf_X8_13 dX8_beginRun_38 ?_
      refine lv_iconst (pc := 41) (v := 1) hx hb dX8_beginRun_41 (by decide) ?_
      refine s_iald (pc := 42) F w ds_79 h dX8_beginRun_42 (fun h => ?_)
      refine lv_iadd (pc := 43) hx hb dX8_beginRun_43 ?_
      refine lv_iload_n (pc := 44) hx hb dX8_beginRun_44 rfl (lv_at hl 1 rfl) ?_
      refine s_iast (pc := 45) F w ds_79 h dX8_beginRun_45 (fun S3 H locs h w => ?_)
      refine lv_aload_n (pc := 46) hx hb dX8_beginRun_46 rfl (lv_at hl 0 rfl) ?_
      refine s_getR (pc := 47) F w 79 ds_63 (j := 0) vc_X8 vi_X8 rfl (by decide) kf_X8_13 dX8_beginRun_47 ?_
      refine lv_iconst (pc := 50) (v := 1) hx hb dX8_beginRun_50 (by decide) ?_
      refine lv_dup2_11 (pc := 51) hx hb dX8_beginRun_51 rfl rfl ?_
      refine s_iald (pc := 52) F w ds_79 h dX8_beginRun_52 (fun h => ?_)
      refine lv_iconst (pc := 53) (v := 1) hx hb dX8_beginRun_53 (by decide) ?_
      refine lv_iadd (pc := 54) hx hb dX8_beginRun_54 ?_
      refine s_iast (pc := 55) F w ds_79 h dX8_beginRun_55 (fun S4 H locs h w => ?_)
      exact s_vret F w h dX8_beginRun_56
    · have h := ite_f q h
      exact s_vret F w h dX8_beginRun_15
def f_Yard_kickTo_j109  (x1 : Int32) (x2 : Int32) (y0 : Int32) (S : SS) : Option (Int32 × SS) :=
    bndv (f_State_beginRun x1 x2 y0 S) (fun S7 =>
    some (y0, S7))
def f_Yard_kickTo_j62  (x1 : Int32) (x2 : Int32) (x3 : Int32) (S : SS) : Option (Int32 × SS) :=
    if x3 = 0 then
      bnd (f_Bodies_heavy x1 S) (fun r4 S3 =>
      bnd (f_Math_min_7cf53 (r4 / (40 : Int32)) (7 : Int32) S3) (fun r6 S5 =>
      if 0 ≤ r6 then
        grd (inb r6 8) (
        f_Yard_kickTo_j109 x1 x2 (S5.1 75 r6.toNatClampNeg) S5)
      else
        f_Yard_kickTo_j109 x1 x2 (0 : Int32) S5))
    else
      bnd (f_Report_found x3 S) (fun r9 S8 =>
      some (r9, S8))
def f_Yard_kickTo_j44  (x1 : Int32) (x2 : Int32) (x3 : Int32) (S : SS) : Option (Int32 × SS) :=
    if x3 = 0 then
      bnd (f_State_isRunning x1 S) (fun r11 S10 =>
      if r11 = 0 then
        f_Yard_kickTo_j62 x1 x2 x3 S10
      else
        f_Yard_kickTo_j62 x1 x2 (16 : Int32) S10)
    else
      f_Yard_kickTo_j62 x1 x2 x3 S
def f_Yard_kickTo_j41  (x1 : Int32) (x2 : Int32) (S : SS) : Option (Int32 × SS) :=
    f_Yard_kickTo_j44 x1 x2 (14 : Int32) S
def f_Yard_kickTo (a1 : Int32) (a2 : Int32) (S : SS) : Option (Int32 × SS) :=
  bnd (f_Yard_namedSide a1 (31 : Int32) a2 S) (fun r2 S1 =>
  if r2 = 0 then
    bnd (f_State_get a1 (2 : Int32) S1) (fun r13 S12 =>
    if r13 = (-4 : Int32) then
      bnd (f_State_get a1 (3 : Int32) S12) (fun r15 S14 =>
      if r15 = (-4 : Int32) then
        f_Yard_kickTo_j44 a1 a2 r2 S14
      else
        f_Yard_kickTo_j41 a1 a2 S14)
    else
      f_Yard_kickTo_j41 a1 a2 S12)
  else
    f_Yard_kickTo_j44 a1 a2 r2 S1)
theorem dX11_kickTo_0 : decode cX11_kickTo 0 = .ok (.aload_n 0, 1) := dc_42 (by decide +kernel)
theorem dX11_kickTo_1 : decode cX11_kickTo 1 = .ok (.iload_n 1, 1) := dc_27 (by decide +kernel)
theorem dX11_kickTo_2 : decode cX11_kickTo 2 = .ok (.bipush 31, 2) := dc_16 (a := 31) (by decide +kernel) (by decide)
theorem dX11_kickTo_4 : decode cX11_kickTo 4 = .ok (.iload_n 2, 1) := dc_28 (by decide +kernel)
theorem dX11_kickTo_5 : decode cX11_kickTo 5 = .ok (.invokevirtual 259, 3) := dc_182 (a := 1) (b := 3) (by decide +kernel)
theorem dX11_kickTo_8 : decode cX11_kickTo 8 = .ok (.istore_n 3, 1) := dc_62 (by decide +kernel)
theorem dX11_kickTo_9 : decode cX11_kickTo 9 = .ok (.iload_n 3, 1) := dc_29 (by decide +kernel)
theorem dX11_kickTo_10 : decode cX11_kickTo 10 = .ok (.ifCond .ne 34, 3) := dc_154 (a := 0) (b := 34) (by decide +kernel) (by decide)
theorem dX11_kickTo_13 : decode cX11_kickTo 13 = .ok (.aload_n 0, 1) := dc_42 (by decide +kernel)
theorem dX11_kickTo_14 : decode cX11_kickTo 14 = .ok (.getfield 19, 3) := dc_180 (a := 0) (b := 19) (by decide +kernel)
theorem dX11_kickTo_17 : decode cX11_kickTo 17 = .ok (.iload_n 1, 1) := dc_27 (by decide +kernel)
theorem dX11_kickTo_18 : decode cX11_kickTo 18 = .ok (.iconst 2, 1) := dc_5 (by decide +kernel)
theorem dX11_kickTo_19 : decode cX11_kickTo 19 = .ok (.invokevirtual 253, 3) := dc_182 (a := 0) (b := 253) (by decide +kernel)
theorem dX11_kickTo_22 : decode cX11_kickTo 22 = .ok (.bipush (-4), 2) := dc_16 (a := 252) (by decide +kernel) (by decide)
theorem dX11_kickTo_24 : decode cX11_kickTo 24 = .ok (.if_icmp .ne 17, 3) := dc_160 (a := 0) (b := 17) (by decide +kernel) (by decide)
theorem dX11_kickTo_27 : decode cX11_kickTo 27 = .ok (.aload_n 0, 1) := dc_42 (by decide +kernel)
theorem dX11_kickTo_28 : decode cX11_kickTo 28 = .ok (.getfield 19, 3) := dc_180 (a := 0) (b := 19) (by decide +kernel)
theorem dX11_kickTo_31 : decode cX11_kickTo 31 = .ok (.iload_n 1, 1) := dc_27 (by decide +kernel)
theorem dX11_kickTo_32 : decode cX11_kickTo 32 = .ok (.iconst 3, 1) := dc_6 (by decide +kernel)
theorem dX11_kickTo_33 : decode cX11_kickTo 33 = .ok (.invokevirtual 253, 3) := dc_182 (a := 0) (b := 253) (by decide +kernel)
theorem dX11_kickTo_36 : decode cX11_kickTo 36 = .ok (.bipush (-4), 2) := dc_16 (a := 252) (by decide +kernel) (by decide)
theorem dX11_kickTo_38 : decode cX11_kickTo 38 = .ok (.if_icmp .eq 6, 3) := dc_159 (a := 0) (b := 6) (by decide +kernel) (by decide)
theorem dX11_kickTo_41 : decode cX11_kickTo 41 = .ok (.bipush 14, 2) := dc_16 (a := 14) (by decide +kernel) (by decide)
theorem dX11_kickTo_43 : decode cX11_kickTo 43 = .ok (.istore_n 3, 1) := dc_62 (by decide +kernel)
theorem dX11_kickTo_44 : decode cX11_kickTo 44 = .ok (.iload_n 3, 1) := dc_29 (by decide +kernel)
theorem dX11_kickTo_45 : decode cX11_kickTo 45 = .ok (.ifCond .ne 17, 3) := dc_154 (a := 0) (b := 17) (by decide +kernel) (by decide)
theorem dX11_kickTo_48 : decode cX11_kickTo 48 = .ok (.aload_n 0, 1) := dc_42 (by decide +kernel)
theorem dX11_kickTo_49 : decode cX11_kickTo 49 = .ok (.getfield 19, 3) := dc_180 (a := 0) (b := 19) (by decide +kernel)
theorem dX11_kickTo_52 : decode cX11_kickTo 52 = .ok (.iload_n 1, 1) := dc_27 (by decide +kernel)
theorem dX11_kickTo_53 : decode cX11_kickTo 53 = .ok (.invokevirtual 308, 3) := dc_182 (a := 1) (b := 52) (by decide +kernel)
theorem dX11_kickTo_56 : decode cX11_kickTo 56 = .ok (.ifCond .eq 6, 3) := dc_153 (a := 0) (b := 6) (by decide +kernel) (by decide)
theorem dX11_kickTo_59 : decode cX11_kickTo 59 = .ok (.bipush 16, 2) := dc_16 (a := 16) (by decide +kernel) (by decide)
theorem dX11_kickTo_61 : decode cX11_kickTo 61 = .ok (.istore_n 3, 1) := dc_62 (by decide +kernel)
theorem dX11_kickTo_62 : decode cX11_kickTo 62 = .ok (.iload_n 3, 1) := dc_29 (by decide +kernel)
theorem dX11_kickTo_63 : decode cX11_kickTo 63 = .ok (.ifCond .eq 12, 3) := dc_153 (a := 0) (b := 12) (by decide +kernel) (by decide)
theorem dX11_kickTo_66 : decode cX11_kickTo 66 = .ok (.aload_n 0, 1) := dc_42 (by decide +kernel)
theorem dX11_kickTo_67 : decode cX11_kickTo 67 = .ok (.getfield 10, 3) := dc_180 (a := 0) (b := 10) (by decide +kernel)
theorem dX11_kickTo_70 : decode cX11_kickTo 70 = .ok (.iload_n 3, 1) := dc_29 (by decide +kernel)
theorem dX11_kickTo_71 : decode cX11_kickTo 71 = .ok (.invokevirtual 98, 3) := dc_182 (a := 0) (b := 98) (by decide +kernel)
theorem dX11_kickTo_74 : decode cX11_kickTo 74 = .ok (.ireturn, 1) := dc_172 (by decide +kernel)
theorem dX11_kickTo_75 : decode cX11_kickTo 75 = .ok (.aload_n 0, 1) := dc_42 (by decide +kernel)
theorem dX11_kickTo_76 : decode cX11_kickTo 76 = .ok (.getfield 67, 3) := dc_180 (a := 0) (b := 67) (by decide +kernel)
theorem dX11_kickTo_79 : decode cX11_kickTo 79 = .ok (.iload_n 1, 1) := dc_27 (by decide +kernel)
theorem dX11_kickTo_80 : decode cX11_kickTo 80 = .ok (.invokevirtual 312, 3) := dc_182 (a := 1) (b := 56) (by decide +kernel)
theorem dX11_kickTo_83 : decode cX11_kickTo 83 = .ok (.bipush 40, 2) := dc_16 (a := 40) (by decide +kernel) (by decide)
theorem dX11_kickTo_85 : decode cX11_kickTo 85 = .ok (.idiv, 1) := dc_108 (by decide +kernel)
theorem dX11_kickTo_86 : decode cX11_kickTo 86 = .ok (.bipush 7, 2) := dc_16 (a := 7) (by decide +kernel) (by decide)
theorem dX11_kickTo_88 : decode cX11_kickTo 88 = .ok (.invokestatic 315, 3) := dc_184 (a := 1) (b := 59) (by decide +kernel)
theorem dX11_kickTo_91 : decode cX11_kickTo 91 = .ok (.istore 4, 2) := dc_54 (a := 4) (by decide +kernel)
theorem dX11_kickTo_93 : decode cX11_kickTo 93 = .ok (.iload 4, 2) := dc_21 (a := 4) (by decide +kernel)
theorem dX11_kickTo_95 : decode cX11_kickTo 95 = .ok (.ifCond .ge 7, 3) := dc_156 (a := 0) (b := 7) (by decide +kernel) (by decide)
theorem dX11_kickTo_98 : decode cX11_kickTo 98 = .ok (.iconst 0, 1) := dc_3 (by decide +kernel)
theorem dX11_kickTo_99 : decode cX11_kickTo 99 = .ok (.goto 10, 3) := dc_167 (a := 0) (b := 10) (by decide +kernel) (by decide)
theorem dX11_kickTo_102 : decode cX11_kickTo 102 = .ok (.aload_n 0, 1) := dc_42 (by decide +kernel)
theorem dX11_kickTo_103 : decode cX11_kickTo 103 = .ok (.getfield 78, 3) := dc_180 (a := 0) (b := 78) (by decide +kernel)
theorem dX11_kickTo_106 : decode cX11_kickTo 106 = .ok (.iload 4, 2) := dc_21 (a := 4) (by decide +kernel)
theorem dX11_kickTo_108 : decode cX11_kickTo 108 = .ok (.iaload, 1) := dc_46 (by decide +kernel)
theorem dX11_kickTo_109 : decode cX11_kickTo 109 = .ok (.istore 5, 2) := dc_54 (a := 5) (by decide +kernel)
theorem dX11_kickTo_111 : decode cX11_kickTo 111 = .ok (.aload_n 0, 1) := dc_42 (by decide +kernel)
theorem dX11_kickTo_112 : decode cX11_kickTo 112 = .ok (.getfield 19, 3) := dc_180 (a := 0) (b := 19) (by decide +kernel)
theorem dX11_kickTo_115 : decode cX11_kickTo 115 = .ok (.iload_n 1, 1) := dc_27 (by decide +kernel)
theorem dX11_kickTo_116 : decode cX11_kickTo 116 = .ok (.iload_n 2, 1) := dc_28 (by decide +kernel)
theorem dX11_kickTo_117 : decode cX11_kickTo 117 = .ok (.iload 5, 2) := dc_21 (a := 5) (by decide +kernel)
theorem dX11_kickTo_119 : decode cX11_kickTo 119 = .ok (.invokevirtual 320, 3) := dc_182 (a := 1) (b := 64) (by decide +kernel)
theorem dX11_kickTo_122 : decode cX11_kickTo 122 = .ok (.iload 5, 2) := dc_21 (a := 5) (by decide +kernel)
theorem dX11_kickTo_124 : decode cX11_kickTo 124 = .ok (.ireturn, 1) := dc_172 (by decide +kernel)
set_option maxRecDepth 100000 in
set_option maxHeartbeats 4000000 in
theorem w_Yard_kickTo_j109 {p : Program} {l : Launch} {e : Env} {R : Room} {s : State} {m : MethodId} {args : Array Value} {below : List Frame} {meth : Method} {c : Code} {dC : Nat → ClassId} {dI : Nat → Nat → Nat} {cs : Nat → ClassId} {ad : Nat → Nat} {A : Nat → Prop} {D0 : Nat → Nat} {S' : SS} {r : Int32} (F : Fx p s m args meth c cX11_kickTo 6 RX11 (some .int) dC dI cs A) (hR1 : 2 ≤ R.frames) (hR2 : 46 ≤ R.locals) (x1 : Int32) (x2 : Int32) (y0 : Int32) (S : SS) (h : f_Yard_kickTo_j109 x1 x2 y0 S = some (r, S')) : AW p l e R s m args below meth c dC dI cs ad A D0 (some (.int r)) S' 6 109 [(0, .ref (ad 61)), (1, .int x1), (2, .int x2)] [.int y0] S := by
  have hx := F.1.1
  have hb := F.1.2.1
  intro H locs ls w hl
  rw [f_Yard_kickTo_j109] at h
  refine lv_istore (pc := 109) (lv' := [(5, .int y0), (0, .ref (ad 61)), (1, .int x1), (2, .int x2)]) hx hb dX11_kickTo_109 hl (by decide) rfl (fun ls hl => ?_)
  refine lv_aload_n (pc := 111) hx hb dX11_kickTo_111 rfl (lv_at hl 1 rfl) ?_
  refine s_getR (pc := 112) F w 63 ds_61 (j := 1) vc_X11 vi_X11 rfl (by decide) kf_X11_19 dX11_kickTo_112 ?_
  refine lv_iload_n (pc := 115) hx hb dX11_kickTo_115 rfl (lv_at hl 2 rfl) ?_
  refine lv_iload_n (pc := 116) hx hb dX11_kickTo_116 rfl (lv_at hl 3 rfl) ?_
  refine lv_iload (pc := 117) hx hb dX11_kickTo_117 (lv_at hl 0 rfl) ?_
  obtain ⟨S7, hc, h⟩ := bndv_t h
  refine s_cvv (pc := 119) [.int x1, .int x2, .int y0] (fun ad => [.ref (ad 63), .int x1, .int x2, .int y0]) F w (m_State_beginRun _ _ _ _ _ hc) rfl rfl hl.1 ds_63 vc_X8 rfl ok_X8_beginRun rfl kc_X8_beginRun kl_X11_320 ki_X8_beginRun kv_X8_beginRun kn_X8 ⟨Nat.le_trans (by decide) hR1, Nat.le_trans (by decide) hR2⟩ ⟨Nat.zero_le _, Nat.zero_le _⟩ (Nat.le_of_ble_eq_true rfl) dX11_kickTo_119 (fun H locs w => ?_)
  refine lv_iload (pc := 122) hx hb dX11_kickTo_122 (lv_at hl 0 rfl) ?_
  exact s_iret F w h dX11_kickTo_124
set_option maxRecDepth 100000 in
set_option maxHeartbeats 4000000 in
theorem w_Yard_kickTo_j62 {p : Program} {l : Launch} {e : Env} {R : Room} {s : State} {m : MethodId} {args : Array Value} {below : List Frame} {meth : Method} {c : Code} {dC : Nat → ClassId} {dI : Nat → Nat → Nat} {cs : Nat → ClassId} {ad : Nat → Nat} {A : Nat → Prop} {D0 : Nat → Nat} {S' : SS} {r : Int32} (F : Fx p s m args meth c cX11_kickTo 6 RX11 (some .int) dC dI cs A) (hR1 : 5 ≤ R.frames) (hR2 : 108 ≤ R.locals) (x1 : Int32) (x2 : Int32) (x3 : Int32) (S : SS) (h : f_Yard_kickTo_j62 x1 x2 x3 S = some (r, S')) : AW p l e R s m args below meth c dC dI cs ad A D0 (some (.int r)) S' 6 62 [(0, .ref (ad 61)), (1, .int x1), (2, .int x2), (3, .int x3)] [] S := by
  have hx := F.1.1
  have hb := F.1.2.1
  intro H locs ls w hl
  rw [f_Yard_kickTo_j62] at h
  refine lv_iload_n (pc := 62) hx hb dX11_kickTo_62 rfl (lv_at hl 3 rfl) ?_
  refine lv_if_eq (pc := 63) (tgt := 75) hx hb dX11_kickTo_63 (by decide) (fun q => ?_) (fun q => ?_)
  · have h := ite_t q h
    refine lv_aload_n (pc := 75) hx hb dX11_kickTo_75 rfl (lv_at hl 0 rfl) ?_
    refine s_getR (pc := 76) F w 69 ds_61 (j := 7) vc_X11 vi_X11 rfl (by decide) kf_X11_67 dX11_kickTo_76 ?_
    refine lv_iload_n (pc := 79) hx hb dX11_kickTo_79 rfl (lv_at hl 1 rfl) ?_
    obtain ⟨r4, S3, hc, h⟩ := bnd_t h
    refine s_cvi (pc := 80) [.int x1] (fun ad => [.ref (ad 69), .int x1]) F w (m_Bodies_heavy _ _ _ _ hc) rfl rfl hl.1 ds_69 vc_X0 rfl ok_X0_heavy rfl kc_X0_heavy kl_X11_312 ki_X0_heavy kv_X0_heavy kn_X0 ⟨Nat.le_trans (by decide) hR1, Nat.le_trans (by decide) hR2⟩ ⟨Nat.zero_le _, Nat.zero_le _⟩ (Nat.le_of_ble_eq_true rfl) dX11_kickTo_80 (fun H locs w => ?_)
    refine lv_bipush (pc := 83) (v := 40) hx hb dX11_kickTo_83 (by decide) ?_
    refine lv_idiv (pc := 85) hx hb dX11_kickTo_85 (by decide) ?_
    refine lv_bipush (pc := 86) (v := 7) hx hb dX11_kickTo_86 (by decide) ?_
    obtain ⟨r6, S5, hc, h⟩ := bnd_t h
    refine s_csi (pc := 88) [.int (r4 / (40 : Int32)), .int (7 : Int32)] (fun ad => [.int (r4 / (40 : Int32)), .int (7 : Int32)]) F w (m_Math_min_7cf53 _ _ _ _ _ hc) rfl rfl hl.1 ok_J9_min_7cf53 rfl kc_J9_min_7cf53 kl_X11_315 ks_J9_min_7cf53 kn_J9 ⟨Nat.le_trans (by decide) hR1, Nat.le_trans (by decide) hR2⟩ ⟨Nat.zero_le _, Nat.zero_le _⟩ (Nat.le_of_ble_eq_true rfl) dX11_kickTo_88 (fun H locs w => ?_)
    refine lv_istore (pc := 91) (lv' := [(4, .int r6), (0, .ref (ad 61)), (1, .int x1), (2, .int x2), (3, .int x3)]) hx hb dX11_kickTo_91 hl (by decide) rfl (fun ls hl => ?_)
    refine lv_iload (pc := 93) hx hb dX11_kickTo_93 (lv_at hl 0 rfl) ?_
    refine lv_if_ge (pc := 95) (tgt := 102) hx hb dX11_kickTo_95 (by decide) (fun q => ?_) (fun q => ?_)
    · have h := ite_t q h
      refine lv_aload_n (pc := 102) hx hb dX11_kickTo_102 rfl (lv_at hl 1 rfl) ?_
      refine s_getR (pc := 103) F w 75 ds_61 (j := 9) vc_X11 vi_X11 rfl (by decide) kf_X11_78 dX11_kickTo_103 ?_
      refine lv_iload (pc := 106) hx hb dX11_kickTo_106 (lv_at hl 0 rfl) ?_
      refine s_iald (pc := 108) F w ds_75 h dX11_kickTo_108 (fun h => ?_)
      exact w_Yard_kickTo_j109 F (Nat.le_trans (by decide) hR1) (Nat.le_trans (by decide) hR2) _ _ _ _ h _ _ _ w (lv_sub hl [1, 2, 3] rfl)
    · have h := ite_f q h
      refine lv_iconst (pc := 98) (v := 0) hx hb dX11_kickTo_98 (by decide) ?_
      refine lv_goto (pc := 99) (tgt := 109) hx hb dX11_kickTo_99 (by decide) ?_
      exact w_Yard_kickTo_j109 F (Nat.le_trans (by decide) hR1) (Nat.le_trans (by decide) hR2) _ _ _ _ h _ _ _ w (lv_sub hl [1, 2, 3] rfl)
  · have h := ite_f q h
    refine lv_aload_n (pc := 66) hx hb dX11_kickTo_66 rfl (lv_at hl 0 rfl) ?_
    refine s_getR (pc := 67) F w 62 ds_61 (j := 0) vc_X11 vi_X11 rfl (by decide) kf_X11_10 dX11_kickTo_67 ?_
    refine lv_iload_n (pc := 70) hx hb dX11_kickTo_70 rfl (lv_at hl 3 rfl) ?_
    obtain ⟨r9, S8, hc, h⟩ := bnd_t h
    refine s_cvi (pc := 71) [.int x3] (fun ad => [.ref (ad 62), .int x3]) F w (m_Report_found _ _ _ _ hc) rfl rfl hl.1 ds_62 vc_X5 rfl ok_X5_found rfl kc_X5_found kl_X11_98 ki_X5_found kv_X5_found kn_X5 ⟨Nat.le_trans (by decide) hR1, Nat.le_trans (by decide) hR2⟩ ⟨Nat.zero_le _, Nat.zero_le _⟩ (Nat.le_of_ble_eq_true rfl) dX11_kickTo_71 (fun H locs w => ?_)
    exact s_iret F w h dX11_kickTo_74
set_option maxRecDepth 100000 in
set_option maxHeartbeats 4000000 in
theorem w_Yard_kickTo_j44 {p : Program} {l : Launch} {e : Env} {R : Room} {s : State} {m : MethodId} {args : Array Value} {below : List Frame} {meth : Method} {c : Code} {dC : Nat → ClassId} {dI : Nat → Nat → Nat} {cs : Nat → ClassId} {ad : Nat → Nat} {A : Nat → Prop} {D0 : Nat → Nat} {S' : SS} {r : Int32} (F : Fx p s m args meth c cX11_kickTo 6 RX11 (some .int) dC dI cs A) (hR1 : 5 ≤ R.frames) (hR2 : 108 ≤ R.locals) (x1 : Int32) (x2 : Int32) (x3 : Int32) (S : SS) (h : f_Yard_kickTo_j44 x1 x2 x3 S = some (r, S')) : AW p l e R s m args below meth c dC dI cs ad A D0 (some (.int r)) S' 6 44 [(0, .ref (ad 61)), (1, .int x1), (2, .int x2), (3, .int x3)] [] S := by
  have hx := F.1.1
  have hb := F.1.2.1
  intro H locs ls w hl
  rw [f_Yard_kickTo_j44] at h
  refine lv_iload_n (pc := 44) hx hb dX11_kickTo_44 rfl (lv_at hl 3 rfl) ?_
  refine lv_if_ne (pc := 45) (tgt := 62) hx hb dX11_kickTo_45 (by decide) (fun q => ?_) (fun q => ?_)
  · have h := ite_f q h
    exact w_Yard_kickTo_j62 F (Nat.le_trans (by decide) hR1) (Nat.le_trans (by decide) hR2) _ _ _ _ h _ _ _ w (lv_sub hl [0, 1, 2, 3] rfl)
  · have h := ite_t q h
    refine lv_aload_n (pc := 48) hx hb dX11_kickTo_48 rfl (lv_at hl 0 rfl) ?_
    refine s_getR (pc := 49) F w 63 ds_61 (j := 1) vc_X11 vi_X11 rfl (by decide) kf_X11_19 dX11_kickTo_49 ?_
    refine lv_iload_n (pc := 52) hx hb dX11_kickTo_52 rfl (lv_at hl 1 rfl) ?_
    obtain ⟨r11, S10, hc, h⟩ := bnd_t h
    refine s_cvi (pc := 53) [.int x1] (fun ad => [.ref (ad 63), .int x1]) F w (m_State_isRunning _ _ _ _ hc) rfl rfl hl.1 ds_63 vc_X8 rfl ok_X8_isRunning rfl kc_X8_isRunning kl_X11_308 ki_X8_isRunning kv_X8_isRunning kn_X8 ⟨Nat.le_trans (by decide) hR1, Nat.le_trans (by decide) hR2⟩ ⟨Nat.zero_le _, Nat.zero_le _⟩ (Nat.le_of_ble_eq_true rfl) dX11_kickTo_53 (fun H locs w => ?_)
    refine lv_if_eq (pc := 56) (tgt := 62) hx hb dX11_kickTo_56 (by decide) (fun q => ?_) (fun q => ?_)
    · have h := ite_t q h
      exact w_Yard_kickTo_j62 F (Nat.le_trans (by decide) hR1) (Nat.le_trans (by decide) hR2) _ _ _ _ h _ _ _ w (lv_sub hl [0, 1, 2, 3] rfl)
    · have h := ite_f q h
      refine lv_bipush (pc := 59) (v := 16) hx hb dX11_kickTo_59 (by decide) ?_
      refine lv_istore_n (pc := 61) (lv' := [(3, .int (16 : Int32)), (0, .ref (ad 61)), (1, .int x1), (2, .int x2)]) hx hb dX11_kickTo_61 rfl hl (by decide) rfl (fun ls hl => ?_)
      exact w_Yard_kickTo_j62 F (Nat.le_trans (by decide) hR1) (Nat.le_trans (by decide) hR2) _ _ _ _ h _ _ _ w (lv_sub hl [1, 2, 3, 0] rfl)
set_option maxRecDepth 100000 in
set_option maxHeartbeats 4000000 in
theorem w_Yard_kickTo_j41 {p : Program} {l : Launch} {e : Env} {R : Room} {s : State} {m : MethodId} {args : Array Value} {below : List Frame} {meth : Method} {c : Code} {dC : Nat → ClassId} {dI : Nat → Nat → Nat} {cs : Nat → ClassId} {ad : Nat → Nat} {A : Nat → Prop} {D0 : Nat → Nat} {S' : SS} {r : Int32} (F : Fx p s m args meth c cX11_kickTo 6 RX11 (some .int) dC dI cs A) (hR1 : 5 ≤ R.frames) (hR2 : 108 ≤ R.locals) (x1 : Int32) (x2 : Int32) (S : SS) (h : f_Yard_kickTo_j41 x1 x2 S = some (r, S')) : AW p l e R s m args below meth c dC dI cs ad A D0 (some (.int r)) S' 6 41 [(0, .ref (ad 61)), (1, .int x1), (2, .int x2)] [] S := by
  have hx := F.1.1
  have hb := F.1.2.1
  intro H locs ls w hl
  rw [f_Yard_kickTo_j41] at h
  refine lv_bipush (pc := 41) (v := 14) hx hb dX11_kickTo_41 (by decide) ?_
  refine lv_istore_n (pc := 43) (lv' := [(3, .int (14 : Int32)), (0, .ref (ad 61)), (1, .int x1), (2, .int x2)]) hx hb dX11_kickTo_43 rfl hl (by decide) rfl (fun ls hl => ?_)
  exact w_Yard_kickTo_j44 F (Nat.le_trans (by decide) hR1) (Nat.le_trans (by decide) hR2) _ _ _ _ h _ _ _ w (lv_sub hl [1, 2, 3, 0] rfl)
set_option maxRecDepth 100000 in
set_option maxHeartbeats 4000000 in
theorem m_Yard_kickTo (a1 : Int32) (a2 : Int32) (S S' : SS) (r : Int32) (h : f_Yard_kickTo a1 a2 S = some (r, S')) : MT yX11_kickTo cX11_kickTo 6 (some .int) 5 108 (fun ad => [.ref (ad 61), .int a1, .int a2]) S (some (.int r)) S' := by
  refine MT.of RX11 (fun ad => [(0, .ref (ad 61)), (1, .int a1), (2, .int a2)]) (by decide) rfl (fun _ => Nat.le_of_ble_eq_true rfl) (fun _ => rfl) ?_
  intro p l e R s m args below meth c dC dI cs ad A hR1 hR2 F H locs ls w hl
  have hx := F.1.1
  have hb := F.1.2.1
  rw [f_Yard_kickTo] at h
  refine lv_aload_n (pc := 0) hx hb dX11_kickTo_0 rfl (lv_at hl 0 rfl) ?_
  refine lv_iload_n (pc := 1) hx hb dX11_kickTo_1 rfl (lv_at hl 1 rfl) ?_
  refine lv_bipush (pc := 2) (v := 31) hx hb dX11_kickTo_2 (by decide) ?_
  refine lv_iload_n (pc := 4) hx hb dX11_kickTo_4 rfl (lv_at hl 2 rfl) ?_
  obtain ⟨r2, S1, hc, h⟩ := bnd_t h
  refine s_cvi (pc := 5) [.int a1, .int (31 : Int32), .int a2] (fun ad => [.ref (ad 61), .int a1, .int (31 : Int32), .int a2]) F w (m_Yard_namedSide _ _ _ _ _ _ hc) rfl rfl hl.1 ds_61 vc_X11 rfl ok_X11_namedSide rfl kc_X11_namedSide kl_X11_259 ki_X11_namedSide kv_X11_namedSide kn_X11 ⟨Nat.le_trans (by decide) hR1, Nat.le_trans (by decide) hR2⟩ ⟨Nat.zero_le _, Nat.zero_le _⟩ (Nat.le_of_ble_eq_true rfl) dX11_kickTo_5 (fun H locs w => ?_)
  refine lv_istore_n (pc := 8) (lv' := [(3, .int r2), (0, .ref (ad 61)), (1, .int a1), (2, .int a2)]) hx hb dX11_kickTo_8 rfl hl (by decide) rfl (fun ls hl => ?_)
  refine lv_iload_n (pc := 9) hx hb dX11_kickTo_9 rfl (lv_at hl 0 rfl) ?_
  refine lv_if_ne (pc := 10) (tgt := 44) hx hb dX11_kickTo_10 (by decide) (fun q => ?_) (fun q => ?_)
  · have h := ite_f q h
    exact w_Yard_kickTo_j44 F (Nat.le_trans (by decide) hR1) (Nat.le_trans (by decide) hR2) _ _ _ _ h _ _ _ w (lv_sub hl [1, 2, 3, 0] rfl)
  · have h := ite_t q h
    refine lv_aload_n (pc := 13) hx hb dX11_kickTo_13 rfl (lv_at hl 1 rfl) ?_
    refine s_getR (pc := 14) F w 63 ds_61 (j := 1) vc_X11 vi_X11 rfl (by decide) kf_X11_19 dX11_kickTo_14 ?_
    refine lv_iload_n (pc := 17) hx hb dX11_kickTo_17 rfl (lv_at hl 2 rfl) ?_
    refine lv_iconst (pc := 18) (v := 2) hx hb dX11_kickTo_18 (by decide) ?_
    obtain ⟨r13, S12, hc, h⟩ := bnd_t h
    refine s_cvi (pc := 19) [.int a1, .int (2 : Int32)] (fun ad => [.ref (ad 63), .int a1, .int (2 : Int32)]) F w (m_State_get _ _ _ _ _ hc) rfl rfl hl.1 ds_63 vc_X8 rfl ok_X8_get rfl kc_X8_get kl_X11_253 ki_X8_get kv_X8_get kn_X8 ⟨Nat.le_trans (by decide) hR1, Nat.le_trans (by decide) hR2⟩ ⟨Nat.zero_le _, Nat.zero_le _⟩ (Nat.le_of_ble_eq_true rfl) dX11_kickTo_19 (fun H locs w => ?_)
    refine lv_bipush (pc := 22) (v := -4) hx hb dX11_kickTo_22 (by decide) ?_
    refine lv_icmp_ne (pc := 24) (tgt := 41) hx hb dX11_kickTo_24 (by decide) (fun q => ?_) (fun q => ?_)
    · have h := ite_f q h
      exact w_Yard_kickTo_j41 F (Nat.le_trans (by decide) hR1) (Nat.le_trans (by decide) hR2) _ _ _ h _ _ _ w (lv_sub hl [1, 2, 3] rfl)
    · have h := ite_t q h
      refine lv_aload_n (pc := 27) hx hb dX11_kickTo_27 rfl (lv_at hl 1 rfl) ?_
      refine s_getR (pc := 28) F w 63 ds_61 (j := 1) vc_X11 vi_X11 rfl (by decide) kf_X11_19 dX11_kickTo_28 ?_
      refine lv_iload_n (pc := 31) hx hb dX11_kickTo_31 rfl (lv_at hl 2 rfl) ?_
      refine lv_iconst (pc := 32) (v := 3) hx hb dX11_kickTo_32 (by decide) ?_
      obtain ⟨r15, S14, hc, h⟩ := bnd_t h
      refine s_cvi (pc := 33) [.int a1, .int (3 : Int32)] (fun ad => [.ref (ad 63), .int a1, .int (3 : Int32)]) F w (m_State_get _ _ _ _ _ hc) rfl rfl hl.1 ds_63 vc_X8 rfl ok_X8_get rfl kc_X8_get kl_X11_253 ki_X8_get kv_X8_get kn_X8 ⟨Nat.le_trans (by decide) hR1, Nat.le_trans (by decide) hR2⟩ ⟨Nat.zero_le _, Nat.zero_le _⟩ (Nat.le_of_ble_eq_true rfl) dX11_kickTo_33 (fun H locs w => ?_)
      refine lv_bipush (pc := 36) (v := -4) hx hb dX11_kickTo_36 (by decide) ?_
      refine lv_icmp_eq (pc := 38) (tgt := 44) hx hb dX11_kickTo_38 (by decide) (fun q => ?_) (fun q => ?_)
      · have h := ite_t q h
        exact w_Yard_kickTo_j44 F (Nat.le_trans (by decide) hR1) (Nat.le_trans (by decide) hR2) _ _ _ _ h _ _ _ w (lv_sub hl [1, 2, 3, 0] rfl)
      · have h := ite_f q h
        exact w_Yard_kickTo_j41 F (Nat.le_trans (by decide) hR1) (Nat.le_trans (by decide) hR2) _ _ _ h _ _ _ w (lv_sub hl [1, 2, 3] rfl)
def f_Yard_kick (a1 : Int32) (a2 : Int32) (S : SS) : Option (Int32 × SS) :=
  bndv (f_Yard_beginAct  S) (fun S1 =>
  bnd (f_Yard_kickTo a1 a2 S1) (fun r3 S2 =>
  bnd (f_Yard_endAct (9 : Int32) r3 S2) (fun r5 S4 =>
  some (r5, S4))))
theorem dX11_kick_0 : decode cX11_kick 0 = .ok (.aload_n 0, 1) := dc_42 (by decide +kernel)
theorem dX11_kick_1 : decode cX11_kick 1 = .ok (.invokevirtual 199, 3) := dc_182 (a := 0) (b := 199) (by decide +kernel)
theorem dX11_kick_4 : decode cX11_kick 4 = .ok (.aload_n 0, 1) := dc_42 (by decide +kernel)
theorem dX11_kick_5 : decode cX11_kick 5 = .ok (.bipush 9, 2) := dc_16 (a := 9) (by decide +kernel) (by decide)
theorem dX11_kick_7 : decode cX11_kick 7 = .ok (.aload_n 0, 1) := dc_42 (by decide +kernel)
theorem dX11_kick_8 : decode cX11_kick 8 = .ok (.iload_n 1, 1) := dc_27 (by decide +kernel)
theorem dX11_kick_9 : decode cX11_kick 9 = .ok (.iload_n 2, 1) := dc_28 (by decide +kernel)
theorem dX11_kick_10 : decode cX11_kick 10 = .ok (.invokevirtual 229, 3) := dc_182 (a := 0) (b := 229) (by decide +kernel)
theorem dX11_kick_13 : decode cX11_kick 13 = .ok (.invokevirtual 205, 3) := dc_182 (a := 0) (b := 205) (by decide +kernel)
theorem dX11_kick_16 : decode cX11_kick 16 = .ok (.ireturn, 1) := dc_172 (by decide +kernel)
set_option maxRecDepth 100000 in
set_option maxHeartbeats 4000000 in
theorem m_Yard_kick (a1 : Int32) (a2 : Int32) (S S' : SS) (r : Int32) (h : f_Yard_kick a1 a2 S = some (r, S')) : MT yX11_kick cX11_kick 3 (some .int) 6 133 (fun ad => [.ref (ad 61), .int a1, .int a2]) S (some (.int r)) S' := by
  refine MT.of RX11 (fun ad => [(0, .ref (ad 61)), (1, .int a1), (2, .int a2)]) (by decide) rfl (fun _ => Nat.le_of_ble_eq_true rfl) (fun _ => rfl) ?_
  intro p l e R s m args below meth c dC dI cs ad A hR1 hR2 F H locs ls w hl
  have hx := F.1.1
  have hb := F.1.2.1
  rw [f_Yard_kick] at h
  refine lv_aload_n (pc := 0) hx hb dX11_kick_0 rfl (lv_at hl 0 rfl) ?_
  obtain ⟨S1, hc, h⟩ := bndv_t h
  refine s_cvv (pc := 1) [] (fun ad => [.ref (ad 61)]) F w (m_Yard_beginAct  _ _ hc) rfl rfl hl.1 ds_61 vc_X11 rfl ok_X11_beginAct rfl kc_X11_beginAct kl_X11_199 ki_X11_beginAct kv_X11_beginAct kn_X11 ⟨Nat.le_trans (by decide) hR1, Nat.le_trans (by decide) hR2⟩ ⟨Nat.zero_le _, Nat.zero_le _⟩ (Nat.le_of_ble_eq_true rfl) dX11_kick_1 (fun H locs w => ?_)
  refine lv_aload_n (pc := 4) hx hb dX11_kick_4 rfl (lv_at hl 0 rfl) ?_
  refine lv_bipush (pc := 5) (v := 9) hx hb dX11_kick_5 (by decide) ?_
  refine lv_aload_n (pc := 7) hx hb dX11_kick_7 rfl (lv_at hl 0 rfl) ?_
  refine lv_iload_n (pc := 8) hx hb dX11_kick_8 rfl (lv_at hl 1 rfl) ?_
  refine lv_iload_n (pc := 9) hx hb dX11_kick_9 rfl (lv_at hl 2 rfl) ?_
  obtain ⟨r3, S2, hc, h⟩ := bnd_t h
  refine s_cvi (pc := 10) [.int a1, .int a2] (fun ad => [.ref (ad 61), .int a1, .int a2]) F w (m_Yard_kickTo _ _ _ _ _ hc) rfl rfl hl.1 ds_61 vc_X11 rfl ok_X11_kickTo rfl kc_X11_kickTo kl_X11_229 ki_X11_kickTo kv_X11_kickTo kn_X11 ⟨Nat.le_trans (by decide) hR1, Nat.le_trans (by decide) hR2⟩ ⟨Nat.zero_le _, Nat.zero_le _⟩ (Nat.le_of_ble_eq_true rfl) dX11_kick_10 (fun H locs w => ?_)
  obtain ⟨r5, S4, hc, h⟩ := bnd_t h
  refine s_cvi (pc := 13) [.int (9 : Int32), .int r3] (fun ad => [.ref (ad 61), .int (9 : Int32), .int r3]) F w (m_Yard_endAct _ _ _ _ _ hc) rfl rfl hl.1 ds_61 vc_X11 rfl ok_X11_endAct rfl kc_X11_endAct kl_X11_205 ki_X11_endAct kv_X11_endAct kn_X11 ⟨Nat.le_trans (by decide) hR1, Nat.le_trans (by decide) hR2⟩ ⟨Nat.zero_le _, Nat.zero_le _⟩ (Nat.le_of_ble_eq_true rfl) dX11_kick_13 (fun H locs w => ?_)
  exact s_iret F w h dX11_kick_16
def f_State_running  (S : SS) : Option (Int32 × SS) :=
  grd (inb (1 : Int32) 946) (
  some (S.1 79 (1 : Int32).toNatClampNeg, S))
theorem dX8_running_0 : decode cX8_running 0 = .ok (.aload_n 0, 1) := dc_42 (by decide +kernel)
theorem dX8_running_1 : decode cX8_running 1 = .ok (.getfield 13, 3) := dc_180 (a := 0) (b := 13) (by decide +kernel)
theorem dX8_running_4 : decode cX8_running 4 = .ok (.iconst 1, 1) := dc_4 (by decide +kernel)
theorem dX8_running_5 : decode cX8_running 5 = .ok (.iaload, 1) := dc_46 (by decide +kernel)
theorem dX8_running_6 : decode cX8_running 6 = .ok (.ireturn, 1) := dc_172 (by decide +kernel)
set_option maxRecDepth 100000 in
set_option maxHeartbeats 4000000 in
theorem m_State_running  (S S' : SS) (r : Int32) (h : f_State_running  S = some (r, S')) : MT yX8_running cX8_running 1 (some .int) 0 0 (fun ad => [.ref (ad 63)]) S (some (.int r)) S' := by
  refine MT.of RX8 (fun ad => [(0, .ref (ad 63))]) (by decide) rfl (fun _ => Nat.le_of_ble_eq_true rfl) (fun _ => rfl) ?_
  intro p l e R s m args below meth c dC dI cs ad A hR1 hR2 F H locs ls w hl
  have hx := F.1.1
  have hb := F.1.2.1
  rw [f_State_running] at h
  refine lv_aload_n (pc := 0) hx hb dX8_running_0 rfl (lv_at hl 0 rfl) ?_
  refine s_getR (pc := 1) F w 79 ds_63 (j := 0) vc_X8 vi_X8 rfl (by decide) kf_X8_13 dX8_running_1 ?_
  refine lv_iconst (pc := 4) (v := 1) hx hb dX8_running_4 (by decide) ?_
  refine s_iald (pc := 5) F w ds_79 h dX8_running_5 (fun h => ?_)
  exact s_iret F w h dX8_running_6
def f_State_runner (a1 : Int32) (S : SS) : Option (Int32 × SS) :=
  if a1 < 0 then
    some ((-4 : Int32), S)
  else
    grd (inb (1 : Int32) 946) (
    if (S.1 79 (1 : Int32).toNatClampNeg) ≤ a1 then
      some ((-4 : Int32), S)
    else
      if a1 < (72 : Int32) then
        grd (inb ((2 : Int32) + a1) 946) (
        some (S.1 79 ((2 : Int32) + a1).toNatClampNeg, S))
      else
        some ((-4 : Int32), S))
theorem dX8_runner_0 : decode cX8_runner 0 = .ok (.iload_n 1, 1) := dc_27 (by decide +kernel)
theorem dX8_runner_1 : decode cX8_runner 1 = .ok (.ifCond .lt 19, 3) := dc_155 (a := 0) (b := 19) (by decide +kernel) (by decide)
theorem dX8_runner_4 : decode cX8_runner 4 = .ok (.iload_n 1, 1) := dc_27 (by decide +kernel)
theorem dX8_runner_5 : decode cX8_runner 5 = .ok (.aload_n 0, 1) := dc_42 (by decide +kernel)
theorem dX8_runner_6 : decode cX8_runner 6 = .ok (.getfield 13, 3) := dc_180 (a := 0) (b := 13) (by decide +kernel)
theorem dX8_runner_9 : decode cX8_runner 9 = .ok (.iconst 1, 1) := dc_4 (by decide +kernel)
theorem dX8_runner_10 : decode cX8_runner 10 = .ok (.iaload, 1) := dc_46 (by decide +kernel)
theorem dX8_runner_11 : decode cX8_runner 11 = .ok (.if_icmp .ge 9, 3) := dc_162 (a := 0) (b := 9) (by decide +kernel) (by decide)
theorem dX8_runner_14 : decode cX8_runner 14 = .ok (.iload_n 1, 1) := dc_27 (by decide +kernel)
theorem dX8_runner_15 : decode cX8_runner 15 = .ok (.bipush 72, 2) := dc_16 (a := 72) (by decide +kernel) (by decide)
theorem dX8_runner_17 : decode cX8_runner 17 = .ok (.if_icmp .lt 8, 3) := dc_161 (a := 0) (b := 8) (by decide +kernel) (by decide)
theorem dX8_runner_20 : decode cX8_runner 20 = .ok (.bipush (-4), 2) := dc_16 (a := 252) (by decide +kernel) (by decide)
theorem dX8_runner_22 : decode cX8_runner 22 = .ok (.goto 11, 3) := dc_167 (a := 0) (b := 11) (by decide +kernel) (by decide)
theorem dX8_runner_25 : decode cX8_runner 25 = .ok (.aload_n 0, 1) := dc_42 (by decide +kernel)
theorem dX8_runner_26 : decode cX8_runner 26 = .ok (.getfield 13, 3) := dc_180 (a := 0) (b := 13) (by decide +kernel)
theorem dX8_runner_29 : decode cX8_runner 29 = .ok (.iconst 2, 1) := dc_5 (by decide +kernel)
theorem dX8_runner_30 : decode cX8_runner 30 = .ok (.iload_n 1, 1) := dc_27 (by decide +kernel)
theorem dX8_runner_31 : decode cX8_runner 31 = .ok (.iadd, 1) := dc_96 (by decide +kernel)
theorem dX8_runner_32 : decode cX8_runner 32 = .ok (.iaload, 1) := dc_46 (by decide +kernel)
theorem dX8_runner_33 : decode cX8_runner 33 = .ok (.ireturn, 1) := dc_172 (by decide +kernel)
set_option maxRecDepth 100000 in
set_option maxHeartbeats 4000000 in
theorem m_State_runner (a1 : Int32) (S S' : SS) (r : Int32) (h : f_State_runner a1 S = some (r, S')) : MT yX8_runner cX8_runner 2 (some .int) 0 0 (fun ad => [.ref (ad 63), .int a1]) S (some (.int r)) S' := by
  refine MT.of RX8 (fun ad => [(0, .ref (ad 63)), (1, .int a1)]) (by decide) rfl (fun _ => Nat.le_of_ble_eq_true rfl) (fun _ => rfl) ?_
  intro p l e R s m args below meth c dC dI cs ad A hR1 hR2 F H locs ls w hl
  have hx := F.1.1
  have hb := F.1.2.1
  rw [f_State_runner] at h
  refine lv_iload_n (pc := 0) hx hb dX8_runner_0 rfl (lv_at hl 1 rfl) ?_
  refine lv_if_lt (pc := 1) (tgt := 20) hx hb dX8_runner_1 (by decide) (fun q => ?_) (fun q => ?_)
  · have h := ite_t q h
    refine lv_bipush (pc := 20) (v := -4) hx hb dX8_runner_20 (by decide) ?_
    refine lv_goto (pc := 22) (tgt := 33) hx hb dX8_runner_22 (by decide) ?_
    exact s_iret F w h dX8_runner_33
  · have h := ite_f q h
    refine lv_iload_n (pc := 4) hx hb dX8_runner_4 rfl (lv_at hl 1 rfl) ?_
    refine lv_aload_n (pc := 5) hx hb dX8_runner_5 rfl (lv_at hl 0 rfl) ?_
    refine s_getR (pc := 6) F w 79 ds_63 (j := 0) vc_X8 vi_X8 rfl (by decide) kf_X8_13 dX8_runner_6 ?_
    refine lv_iconst (pc := 9) (v := 1) hx hb dX8_runner_9 (by decide) ?_
    refine s_iald (pc := 10) F w ds_79 h dX8_runner_10 (fun h => ?_)
    refine lv_icmp_ge (pc := 11) (tgt := 20) hx hb dX8_runner_11 (by decide) (fun q => ?_) (fun q => ?_)
    · have h := ite_t q h
      refine lv_bipush (pc := 20) (v := -4) hx hb dX8_runner_20 (by decide) ?_
      refine lv_goto (pc := 22) (tgt := 33) hx hb dX8_runner_22 (by decide) ?_
      exact s_iret F w h dX8_runner_33
    · have h := ite_f q h
      refine lv_iload_n (pc := 14) hx hb dX8_runner_14 rfl (lv_at hl 1 rfl) ?_
      refine lv_bipush (pc := 15) (v := 72) hx hb dX8_runner_15 (by decide) ?_
      refine lv_icmp_lt (pc := 17) (tgt := 25) hx hb dX8_runner_17 (by decide) (fun q => ?_) (fun q => ?_)
      · have h := ite_t q h
        refine lv_aload_n (pc := 25) hx hb dX8_runner_25 rfl (lv_at hl 0 rfl) ?_
        refine s_getR (pc := 26) F w 79 ds_63 (j := 0) vc_X8 vi_X8 rfl (by decide) kf_X8_13 dX8_runner_26 ?_
        refine lv_iconst (pc := 29) (v := 2) hx hb dX8_runner_29 (by decide) ?_
        refine lv_iload_n (pc := 30) hx hb dX8_runner_30 rfl (lv_at hl 1 rfl) ?_
        refine lv_iadd (pc := 31) hx hb dX8_runner_31 ?_
        refine s_iald (pc := 32) F w ds_79 h dX8_runner_32 (fun h => ?_)
        exact s_iret F w h dX8_runner_33
      · have h := ite_f q h
        refine lv_bipush (pc := 20) (v := -4) hx hb dX8_runner_20 (by decide) ?_
        refine lv_goto (pc := 22) (tgt := 33) hx hb dX8_runner_22 (by decide) ?_
        exact s_iret F w h dX8_runner_33
def f_State_addDamp  (S : SS) : Option (SS) :=
  grd (inb (0 : Int32) 946) (
  grd (inb (0 : Int32) 946) (wr S 79 (0 : Int32).toNatClampNeg ((S.1 79 (0 : Int32).toNatClampNeg) + (1 : Int32)) (fun S1 =>
  some S1)))
theorem dX8_addDamp_0 : decode cX8_addDamp 0 = .ok (.aload_n 0, 1) := dc_42 (by decide +kernel)
theorem dX8_addDamp_1 : decode cX8_addDamp 1 = .ok (.getfield 13, 3) := dc_180 (a := 0) (b := 13) (by decide +kernel)
theorem dX8_addDamp_4 : decode cX8_addDamp 4 = .ok (.iconst 0, 1) := dc_3 (by decide +kernel)
theorem dX8_addDamp_5 : decode cX8_addDamp 5 = .ok (.dup2, 1) := dc_92 (by decide +kernel)
theorem dX8_addDamp_6 : decode cX8_addDamp 6 = .ok (.iaload, 1) := dc_46 (by decide +kernel)
theorem dX8_addDamp_7 : decode cX8_addDamp 7 = .ok (.iconst 1, 1) := dc_4 (by decide +kernel)
theorem dX8_addDamp_8 : decode cX8_addDamp 8 = .ok (.iadd, 1) := dc_96 (by decide +kernel)
theorem dX8_addDamp_9 : decode cX8_addDamp 9 = .ok (.iastore, 1) := dc_79 (by decide +kernel)
theorem dX8_addDamp_10 : decode cX8_addDamp 10 = .ok (.return_, 1) := dc_177 (by decide +kernel)
set_option maxRecDepth 100000 in
set_option maxHeartbeats 4000000 in
theorem m_State_addDamp  (S S' : SS) (h : f_State_addDamp  S = some S') : MT yX8_addDamp cX8_addDamp 1 none 0 0 (fun ad => [.ref (ad 63)]) S none S' := by
  refine MT.of RX8 (fun ad => [(0, .ref (ad 63))]) (by decide) rfl (fun _ => Nat.le_of_ble_eq_true rfl) (fun _ => rfl) ?_
  intro p l e R s m args below meth c dC dI cs ad A hR1 hR2 F H locs ls w hl
  have hx := F.1.1
  have hb := F.1.2.1
  rw [f_State_addDamp] at h
  refine lv_aload_n (pc := 0) hx hb dX8_addDamp_0 rfl (lv_at hl 0 rfl) ?_
  refine s_getR (pc := 1) F w 79 ds_63 (j := 0) vc_X8 vi_X8 rfl (by decide) kf_X8_13 dX8_addDamp_1 ?_
  refine lv_iconst (pc := 4) (v := 0) hx hb dX8_addDamp_4 (by decide) ?_
  refine lv_dup2_11 (pc := 5) hx hb dX8_addDamp_5 rfl rfl ?_
  refine s_iald (pc := 6) F w ds_79 h dX8_addDamp_6 (fun h => ?_)
  refine lv_iconst (pc := 7) (v := 1) hx hb dX8_addDamp_7 (by decide) ?_
  refine lv_iadd (pc := 8) hx hb dX8_addDamp_8 ?_
  refine s_iast (pc := 9) F w ds_79 h dX8_addDamp_9 (fun S1 H locs h w => ?_)
  exact s_vret F w h dX8_addDamp_10
def f_Trains_runsOn_j86  (x1 : Int32) (S : SS) : Option (Int32 × SS) :=
    bnd (f_State_get x1 (8 : Int32) S) (fun r11 S10 =>
    nm (r11 - (1 : Int32)) (fun z12 =>
    bndv (f_State_set x1 (8 : Int32) z12 S10) (fun S13 =>
    if z12 ≤ 0 then
      some ((0 : Int32), S13)
    else
      some ((1 : Int32), S13))))
def f_Trains_runsOn (a1 : Int32) (S : SS) : Option (Int32 × SS) :=
  bnd (f_State_get a1 (9 : Int32) S) (fun r2 S1 =>
  nm (((2 : Int32) * a1) + r2) (fun z3 =>
  bnd (f_Trains_nextFrom z3 S1) (fun r5 S4 =>
  if r5 = (-4 : Int32) then
    some ((0 : Int32), S4)
  else
    bnd (f_State_standsAt (r5 >>> ((1 : Int32) &&& 31)) S4) (fun r7 S6 =>
    if r7 = (-4 : Int32) then
      bndv (f_State_goTo z3 (r5 >>> ((1 : Int32) &&& 31)) (r5 &&& (1 : Int32)) S6) (fun S15 =>
      f_Trains_runsOn_j86 a1 S15)
    else
      bnd (f_State_isRunning r7 S6) (fun r9 S8 =>
      if r9 = 0 then
        bndv (f_State_addDamp  S8) (fun S14 =>
        some ((0 : Int32), S14))
      else
        f_Trains_runsOn_j86 a1 S8)))))
theorem dX10_runsOn_0 : decode cX10_runsOn 0 = .ok (.iconst 2, 1) := dc_5 (by decide +kernel)
theorem dX10_runsOn_1 : decode cX10_runsOn 1 = .ok (.iload_n 1, 1) := dc_27 (by decide +kernel)
theorem dX10_runsOn_2 : decode cX10_runsOn 2 = .ok (.imul, 1) := dc_104 (by decide +kernel)
theorem dX10_runsOn_3 : decode cX10_runsOn 3 = .ok (.aload_n 0, 1) := dc_42 (by decide +kernel)
theorem dX10_runsOn_4 : decode cX10_runsOn 4 = .ok (.getfield 24, 3) := dc_180 (a := 0) (b := 24) (by decide +kernel)
theorem dX10_runsOn_7 : decode cX10_runsOn 7 = .ok (.iload_n 1, 1) := dc_27 (by decide +kernel)
theorem dX10_runsOn_8 : decode cX10_runsOn 8 = .ok (.bipush 9, 2) := dc_16 (a := 9) (by decide +kernel) (by decide)
theorem dX10_runsOn_10 : decode cX10_runsOn 10 = .ok (.invokevirtual 36, 3) := dc_182 (a := 0) (b := 36) (by decide +kernel)
theorem dX10_runsOn_13 : decode cX10_runsOn 13 = .ok (.iadd, 1) := dc_96 (by decide +kernel)
theorem dX10_runsOn_14 : decode cX10_runsOn 14 = .ok (.istore_n 2, 1) := dc_61 (by decide +kernel)
theorem dX10_runsOn_15 : decode cX10_runsOn 15 = .ok (.aload_n 0, 1) := dc_42 (by decide +kernel)
theorem dX10_runsOn_16 : decode cX10_runsOn 16 = .ok (.iload_n 2, 1) := dc_28 (by decide +kernel)
theorem dX10_runsOn_17 : decode cX10_runsOn 17 = .ok (.invokevirtual 99, 3) := dc_182 (a := 0) (b := 99) (by decide +kernel)
theorem dX10_runsOn_20 : decode cX10_runsOn 20 = .ok (.istore_n 3, 1) := dc_62 (by decide +kernel)
theorem dX10_runsOn_21 : decode cX10_runsOn 21 = .ok (.iload_n 3, 1) := dc_29 (by decide +kernel)
theorem dX10_runsOn_22 : decode cX10_runsOn 22 = .ok (.bipush (-4), 2) := dc_16 (a := 252) (by decide +kernel) (by decide)
theorem dX10_runsOn_24 : decode cX10_runsOn 24 = .ok (.if_icmp .ne 5, 3) := dc_160 (a := 0) (b := 5) (by decide +kernel) (by decide)
theorem dX10_runsOn_27 : decode cX10_runsOn 27 = .ok (.iconst 0, 1) := dc_3 (by decide +kernel)
theorem dX10_runsOn_28 : decode cX10_runsOn 28 = .ok (.ireturn, 1) := dc_172 (by decide +kernel)
theorem dX10_runsOn_29 : decode cX10_runsOn 29 = .ok (.aload_n 0, 1) := dc_42 (by decide +kernel)
theorem dX10_runsOn_30 : decode cX10_runsOn 30 = .ok (.getfield 24, 3) := dc_180 (a := 0) (b := 24) (by decide +kernel)
theorem dX10_runsOn_33 : decode cX10_runsOn 33 = .ok (.iload_n 3, 1) := dc_29 (by decide +kernel)
theorem dX10_runsOn_34 : decode cX10_runsOn 34 = .ok (.iconst 1, 1) := dc_4 (by decide +kernel)
theorem dX10_runsOn_35 : decode cX10_runsOn 35 = .ok (.ishr, 1) := dc_122 (by decide +kernel)
theorem dX10_runsOn_36 : decode cX10_runsOn 36 = .ok (.invokevirtual 62, 3) := dc_182 (a := 0) (b := 62) (by decide +kernel)
theorem dX10_runsOn_39 : decode cX10_runsOn 39 = .ok (.istore 4, 2) := dc_54 (a := 4) (by decide +kernel)
theorem dX10_runsOn_41 : decode cX10_runsOn 41 = .ok (.iload 4, 2) := dc_21 (a := 4) (by decide +kernel)
theorem dX10_runsOn_43 : decode cX10_runsOn 43 = .ok (.bipush (-4), 2) := dc_16 (a := 252) (by decide +kernel) (by decide)
theorem dX10_runsOn_45 : decode cX10_runsOn 45 = .ok (.if_icmp .ne 20, 3) := dc_160 (a := 0) (b := 20) (by decide +kernel) (by decide)
theorem dX10_runsOn_48 : decode cX10_runsOn 48 = .ok (.aload_n 0, 1) := dc_42 (by decide +kernel)
theorem dX10_runsOn_49 : decode cX10_runsOn 49 = .ok (.getfield 24, 3) := dc_180 (a := 0) (b := 24) (by decide +kernel)
theorem dX10_runsOn_52 : decode cX10_runsOn 52 = .ok (.iload_n 2, 1) := dc_28 (by decide +kernel)
theorem dX10_runsOn_53 : decode cX10_runsOn 53 = .ok (.iload_n 3, 1) := dc_29 (by decide +kernel)
theorem dX10_runsOn_54 : decode cX10_runsOn 54 = .ok (.iconst 1, 1) := dc_4 (by decide +kernel)
theorem dX10_runsOn_55 : decode cX10_runsOn 55 = .ok (.ishr, 1) := dc_122 (by decide +kernel)
theorem dX10_runsOn_56 : decode cX10_runsOn 56 = .ok (.iload_n 3, 1) := dc_29 (by decide +kernel)
theorem dX10_runsOn_57 : decode cX10_runsOn 57 = .ok (.iconst 1, 1) := dc_4 (by decide +kernel)
theorem dX10_runsOn_58 : decode cX10_runsOn 58 = .ok (.iand, 1) := dc_126 (by decide +kernel)
theorem dX10_runsOn_59 : decode cX10_runsOn 59 = .ok (.invokevirtual 108, 3) := dc_182 (a := 0) (b := 108) (by decide +kernel)
theorem dX10_runsOn_62 : decode cX10_runsOn 62 = .ok (.goto 24, 3) := dc_167 (a := 0) (b := 24) (by decide +kernel) (by decide)
theorem dX10_runsOn_65 : decode cX10_runsOn 65 = .ok (.aload_n 0, 1) := dc_42 (by decide +kernel)
theorem dX10_runsOn_66 : decode cX10_runsOn 66 = .ok (.getfield 24, 3) := dc_180 (a := 0) (b := 24) (by decide +kernel)
theorem dX10_runsOn_69 : decode cX10_runsOn 69 = .ok (.iload 4, 2) := dc_21 (a := 4) (by decide +kernel)
theorem dX10_runsOn_71 : decode cX10_runsOn 71 = .ok (.invokevirtual 69, 3) := dc_182 (a := 0) (b := 69) (by decide +kernel)
theorem dX10_runsOn_74 : decode cX10_runsOn 74 = .ok (.ifCond .ne 12, 3) := dc_154 (a := 0) (b := 12) (by decide +kernel) (by decide)
theorem dX10_runsOn_77 : decode cX10_runsOn 77 = .ok (.aload_n 0, 1) := dc_42 (by decide +kernel)
theorem dX10_runsOn_78 : decode cX10_runsOn 78 = .ok (.getfield 24, 3) := dc_180 (a := 0) (b := 24) (by decide +kernel)
theorem dX10_runsOn_81 : decode cX10_runsOn 81 = .ok (.invokevirtual 134, 3) := dc_182 (a := 0) (b := 134) (by decide +kernel)
theorem dX10_runsOn_84 : decode cX10_runsOn 84 = .ok (.iconst 0, 1) := dc_3 (by decide +kernel)
theorem dX10_runsOn_85 : decode cX10_runsOn 85 = .ok (.ireturn, 1) := dc_172 (by decide +kernel)
theorem dX10_runsOn_86 : decode cX10_runsOn 86 = .ok (.aload_n 0, 1) := dc_42 (by decide +kernel)
theorem dX10_runsOn_87 : decode cX10_runsOn 87 = .ok (.getfield 24, 3) := dc_180 (a := 0) (b := 24) (by decide +kernel)
theorem dX10_runsOn_90 : decode cX10_runsOn 90 = .ok (.iload_n 1, 1) := dc_27 (by decide +kernel)
theorem dX10_runsOn_91 : decode cX10_runsOn 91 = .ok (.bipush 8, 2) := dc_16 (a := 8) (by decide +kernel) (by decide)
theorem dX10_runsOn_93 : decode cX10_runsOn 93 = .ok (.invokevirtual 36, 3) := dc_182 (a := 0) (b := 36) (by decide +kernel)
theorem dX10_runsOn_96 : decode cX10_runsOn 96 = .ok (.iconst 1, 1) := dc_4 (by decide +kernel)
theorem dX10_runsOn_97 : decode cX10_runsOn 97 = .ok (.isub, 1) := dc_100 (by decide +kernel)
theorem dX10_runsOn_98 : decode cX10_runsOn 98 = .ok (.istore 5, 2) := dc_54 (a := 5) (by decide +kernel)
theorem dX10_runsOn_100 : decode cX10_runsOn 100 = .ok (.aload_n 0, 1) := dc_42 (by decide +kernel)
theorem dX10_runsOn_101 : decode cX10_runsOn 101 = .ok (.getfield 24, 3) := dc_180 (a := 0) (b := 24) (by decide +kernel)
theorem dX10_runsOn_104 : decode cX10_runsOn 104 = .ok (.iload_n 1, 1) := dc_27 (by decide +kernel)
theorem dX10_runsOn_105 : decode cX10_runsOn 105 = .ok (.bipush 8, 2) := dc_16 (a := 8) (by decide +kernel) (by decide)
theorem dX10_runsOn_107 : decode cX10_runsOn 107 = .ok (.iload 5, 2) := dc_21 (a := 5) (by decide +kernel)
theorem dX10_runsOn_109 : decode cX10_runsOn 109 = .ok (.invokevirtual 50, 3) := dc_182 (a := 0) (b := 50) (by decide +kernel)
theorem dX10_runsOn_112 : decode cX10_runsOn 112 = .ok (.iload 5, 2) := dc_21 (a := 5) (by decide +kernel)
theorem dX10_runsOn_114 : decode cX10_runsOn 114 = .ok (.ifCond .le 7, 3) := dc_158 (a := 0) (b := 7) (by decide +kernel) (by decide)
theorem dX10_runsOn_117 : decode cX10_runsOn 117 = .ok (.iconst 1, 1) := dc_4 (by decide +kernel)
theorem dX10_runsOn_118 : decode cX10_runsOn 118 = .ok (.goto 4, 3) := dc_167 (a := 0) (b := 4) (by decide +kernel) (by decide)
theorem dX10_runsOn_121 : decode cX10_runsOn 121 = .ok (.iconst 0, 1) := dc_3 (by decide +kernel)
theorem dX10_runsOn_122 : decode cX10_runsOn 122 = .ok (.ireturn, 1) := dc_172 (by decide +kernel)
set_option maxRecDepth 100000 in
set_option maxHeartbeats 4000000 in
theorem w_Trains_runsOn_j86 {p : Program} {l : Launch} {e : Env} {R : Room} {s : State} {m : MethodId} {args : Array Value} {below : List Frame} {meth : Method} {c : Code} {dC : Nat → ClassId} {dI : Nat → Nat → Nat} {cs : Nat → ClassId} {ad : Nat → Nat} {A : Nat → Prop} {D0 : Nat → Nat} {S' : SS} {r : Int32} (F : Fx p s m args meth c cX10_runsOn 6 RX10 (some .boolean) dC dI cs A) (hR1 : 1 ≤ R.frames) (hR2 : 23 ≤ R.locals) (x1 : Int32) (S : SS) (h : f_Trains_runsOn_j86 x1 S = some (r, S')) : AW p l e R s m args below meth c dC dI cs ad A D0 (some (.int r)) S' 6 86 [(0, .ref (ad 68)), (1, .int x1)] [] S := by
  have hx := F.1.1
  have hb := F.1.2.1
  intro H locs ls w hl
  rw [f_Trains_runsOn_j86] at h
  refine lv_aload_n (pc := 86) hx hb dX10_runsOn_86 rfl (lv_at hl 0 rfl) ?_
  refine s_getR (pc := 87) F w 63 ds_68 (j := 0) vc_X10 vi_X10 rfl (by decide) kf_X10_24 dX10_runsOn_87 ?_
  refine lv_iload_n (pc := 90) hx hb dX10_runsOn_90 rfl (lv_at hl 1 rfl) ?_
  refine lv_bipush (pc := 91) (v := 8) hx hb dX10_runsOn_91 (by decide) ?_
  obtain ⟨r11, S10, hc, h⟩ := bnd_t h
  refine s_cvi (pc := 93) [.int x1, .int (8 : Int32)] (fun ad => [.ref (ad 63), .int x1, .int (8 : Int32)]) F w (m_State_get _ _ _ _ _ hc) rfl rfl hl.1 ds_63 vc_X8 rfl ok_X8_get rfl kc_X8_get kl_X10_36 ki_X8_get kv_X8_get kn_X8 ⟨Nat.le_trans (by decide) hR1, Nat.le_trans (by decide) hR2⟩ ⟨Nat.zero_le _, Nat.zero_le _⟩ (Nat.le_of_ble_eq_true rfl) dX10_runsOn_93 (fun H locs w => ?_)
  refine lv_iconst (pc := 96) (v := 1) hx hb dX10_runsOn_96 (by decide) ?_
  refine lv_isub (pc := 97) hx hb dX10_runsOn_97 ?_
  refine s_nm h (fun z12 ez12 h => ?_)
  rw [← ez12]
  refine lv_istore (pc := 98) (lv' := [(5, .int z12), (0, .ref (ad 68)), (1, .int x1)]) hx hb dX10_runsOn_98 hl (by decide) rfl (fun ls hl => ?_)
  refine lv_aload_n (pc := 100) hx hb dX10_runsOn_100 rfl (lv_at hl 1 rfl) ?_
  refine s_getR (pc := 101) F w 63 ds_68 (j := 0) vc_X10 vi_X10 rfl (by decide) kf_X10_24 dX10_runsOn_101 ?_
  refine lv_iload_n (pc := 104) hx hb dX10_runsOn_104 rfl (lv_at hl 2 rfl) ?_
  refine lv_bipush (pc := 105) (v := 8) hx hb dX10_runsOn_105 (by decide) ?_
  refine lv_iload (pc := 107) hx hb dX10_runsOn_107 (lv_at hl 0 rfl) ?_
  obtain ⟨S13, hc, h⟩ := bndv_t h
  refine s_cvv (pc := 109) [.int x1, .int (8 : Int32), .int z12] (fun ad => [.ref (ad 63), .int x1, .int (8 : Int32), .int z12]) F w (m_State_set _ _ _ _ _ hc) rfl rfl hl.1 ds_63 vc_X8 rfl ok_X8_set rfl kc_X8_set kl_X10_50 ki_X8_set kv_X8_set kn_X8 ⟨Nat.le_trans (by decide) hR1, Nat.le_trans (by decide) hR2⟩ ⟨Nat.zero_le _, Nat.zero_le _⟩ (Nat.le_of_ble_eq_true rfl) dX10_runsOn_109 (fun H locs w => ?_)
  refine lv_iload (pc := 112) hx hb dX10_runsOn_112 (lv_at hl 0 rfl) ?_
  refine lv_if_le (pc := 114) (tgt := 121) hx hb dX10_runsOn_114 (by decide) (fun q => ?_) (fun q => ?_)
  · have h := ite_t q h
    refine lv_iconst (pc := 121) (v := 0) hx hb dX10_runsOn_121 (by decide) ?_
    exact s_zretc F w rfl h dX10_runsOn_122
  · have h := ite_f q h
    refine lv_iconst (pc := 117) (v := 1) hx hb dX10_runsOn_117 (by decide) ?_
    refine lv_goto (pc := 118) (tgt := 122) hx hb dX10_runsOn_118 (by decide) ?_
    exact s_zretc F w rfl h dX10_runsOn_122
set_option maxRecDepth 100000 in
set_option maxHeartbeats 4000000 in
theorem m_Trains_runsOn (a1 : Int32) (S S' : SS) (r : Int32) (h : f_Trains_runsOn a1 S = some (r, S')) : MT yX10_runsOn cX10_runsOn 6 (some .boolean) 4 90 (fun ad => [.ref (ad 68), .int a1]) S (some (.int r)) S' := by
  refine MT.of RX10 (fun ad => [(0, .ref (ad 68)), (1, .int a1)]) (by decide) rfl (fun _ => Nat.le_of_ble_eq_true rfl) (fun _ => rfl) ?_
  intro p l e R s m args below meth c dC dI cs ad A hR1 hR2 F H locs ls w hl
  have hx := F.1.1
  have hb := F.1.2.1
  rw [f_Trains_runsOn] at h
  refine lv_iconst (pc := 0) (v := 2) hx hb dX10_runsOn_0 (by decide) ?_
  refine lv_iload_n (pc := 1) hx hb dX10_runsOn_1 rfl (lv_at hl 1 rfl) ?_
  refine lv_imul (pc := 2) hx hb dX10_runsOn_2 ?_
  refine lv_aload_n (pc := 3) hx hb dX10_runsOn_3 rfl (lv_at hl 0 rfl) ?_
  refine s_getR (pc := 4) F w 63 ds_68 (j := 0) vc_X10 vi_X10 rfl (by decide) kf_X10_24 dX10_runsOn_4 ?_
  refine lv_iload_n (pc := 7) hx hb dX10_runsOn_7 rfl (lv_at hl 1 rfl) ?_
  refine lv_bipush (pc := 8) (v := 9) hx hb dX10_runsOn_8 (by decide) ?_
  obtain ⟨r2, S1, hc, h⟩ := bnd_t h
  refine s_cvi (pc := 10) [.int a1, .int (9 : Int32)] (fun ad => [.ref (ad 63), .int a1, .int (9 : Int32)]) F w (m_State_get _ _ _ _ _ hc) rfl rfl hl.1 ds_63 vc_X8 rfl ok_X8_get rfl kc_X8_get kl_X10_36 ki_X8_get kv_X8_get kn_X8 ⟨Nat.le_trans (by decide) hR1, Nat.le_trans (by decide) hR2⟩ ⟨Nat.zero_le _, Nat.zero_le _⟩ (Nat.le_of_ble_eq_true rfl) dX10_runsOn_10 (fun H locs w => ?_)
  refine lv_iadd (pc := 13) hx hb dX10_runsOn_13 ?_
  refine s_nm h (fun z3 ez3 h => ?_)
  rw [← ez3]
  refine lv_istore_n (pc := 14) (lv' := [(2, .int z3), (0, .ref (ad 68)), (1, .int a1)]) hx hb dX10_runsOn_14 rfl hl (by decide) rfl (fun ls hl => ?_)
  refine lv_aload_n (pc := 15) hx hb dX10_runsOn_15 rfl (lv_at hl 1 rfl) ?_
  refine lv_iload_n (pc := 16) hx hb dX10_runsOn_16 rfl (lv_at hl 0 rfl) ?_
  obtain ⟨r5, S4, hc, h⟩ := bnd_t h
  refine s_cvi (pc := 17) [.int z3] (fun ad => [.ref (ad 68), .int z3]) F w (m_Trains_nextFrom _ _ _ _ hc) rfl rfl hl.1 ds_68 vc_X10 rfl ok_X10_nextFrom rfl kc_X10_nextFrom kl_X10_99 ki_X10_nextFrom kv_X10_nextFrom kn_X10 ⟨Nat.le_trans (by decide) hR1, Nat.le_trans (by decide) hR2⟩ ⟨Nat.zero_le _, Nat.zero_le _⟩ (Nat.le_of_ble_eq_true rfl) dX10_runsOn_17 (fun H locs w => ?_)
  refine lv_istore_n (pc := 20) (lv' := [(3, .int r5), (2, .int z3), (0, .ref (ad 68)), (1, .int a1)]) hx hb dX10_runsOn_20 rfl hl (by decide) rfl (fun ls hl => ?_)
  refine lv_iload_n (pc := 21) hx hb dX10_runsOn_21 rfl (lv_at hl 0 rfl) ?_
  refine lv_bipush (pc := 22) (v := -4) hx hb dX10_runsOn_22 (by decide) ?_
  refine lv_icmp_ne (pc := 24) (tgt := 29) hx hb dX10_runsOn_24 (by decide) (fun q => ?_) (fun q => ?_)
  · have h := ite_f q h
    refine lv_aload_n (pc := 29) hx hb dX10_runsOn_29 rfl (lv_at hl 2 rfl) ?_
    refine s_getR (pc := 30) F w 63 ds_68 (j := 0) vc_X10 vi_X10 rfl (by decide) kf_X10_24 dX10_runsOn_30 ?_
    refine lv_iload_n (pc := 33) hx hb dX10_runsOn_33 rfl (lv_at hl 0 rfl) ?_
    refine lv_iconst (pc := 34) (v := 1) hx hb dX10_runsOn_34 (by decide) ?_
    refine lv_ishr (pc := 35) hx hb dX10_runsOn_35 ?_
    obtain ⟨r7, S6, hc, h⟩ := bnd_t h
    refine s_cvi (pc := 36) [.int (r5 >>> ((1 : Int32) &&& 31))] (fun ad => [.ref (ad 63), .int (r5 >>> ((1 : Int32) &&& 31))]) F w (m_State_standsAt _ _ _ _ hc) rfl rfl hl.1 ds_63 vc_X8 rfl ok_X8_standsAt rfl kc_X8_standsAt kl_X10_62 ki_X8_standsAt kv_X8_standsAt kn_X8 ⟨Nat.le_trans (by decide) hR1, Nat.le_trans (by decide) hR2⟩ ⟨Nat.zero_le _, Nat.zero_le _⟩ (Nat.le_of_ble_eq_true rfl) dX10_runsOn_36 (fun H locs w => ?_)
    refine lv_istore (pc := 39) (lv' := [(4, .int r7), (3, .int r5), (2, .int z3), (0, .ref (ad 68)), (1, .int a1)]) hx hb dX10_runsOn_39 hl (by decide) rfl (fun ls hl => ?_)
    refine lv_iload (pc := 41) hx hb dX10_runsOn_41 (lv_at hl 0 rfl) ?_
    refine lv_bipush (pc := 43) (v := -4) hx hb dX10_runsOn_43 (by decide) ?_
    refine lv_icmp_ne (pc := 45) (tgt := 65) hx hb dX10_runsOn_45 (by decide) (fun q => ?_) (fun q => ?_)
    · have h := ite_f q h
      refine lv_aload_n (pc := 65) hx hb dX10_runsOn_65 rfl (lv_at hl 3 rfl) ?_
      refine s_getR (pc := 66) F w 63 ds_68 (j := 0) vc_X10 vi_X10 rfl (by decide) kf_X10_24 dX10_runsOn_66 ?_
      refine lv_iload (pc := 69) hx hb dX10_runsOn_69 (lv_at hl 0 rfl) ?_
      obtain ⟨r9, S8, hc, h⟩ := bnd_t h
      refine s_cvi (pc := 71) [.int r7] (fun ad => [.ref (ad 63), .int r7]) F w (m_State_isRunning _ _ _ _ hc) rfl rfl hl.1 ds_63 vc_X8 rfl ok_X8_isRunning rfl kc_X8_isRunning kl_X10_69 ki_X8_isRunning kv_X8_isRunning kn_X8 ⟨Nat.le_trans (by decide) hR1, Nat.le_trans (by decide) hR2⟩ ⟨Nat.zero_le _, Nat.zero_le _⟩ (Nat.le_of_ble_eq_true rfl) dX10_runsOn_71 (fun H locs w => ?_)
      refine lv_if_ne (pc := 74) (tgt := 86) hx hb dX10_runsOn_74 (by decide) (fun q => ?_) (fun q => ?_)
      · have h := ite_f q h
        exact w_Trains_runsOn_j86 F (Nat.le_trans (by decide) hR1) (Nat.le_trans (by decide) hR2) _ _ h _ _ _ w (lv_sub hl [3, 4] rfl)
      · have h := ite_t q h
        refine lv_aload_n (pc := 77) hx hb dX10_runsOn_77 rfl (lv_at hl 3 rfl) ?_
        refine s_getR (pc := 78) F w 63 ds_68 (j := 0) vc_X10 vi_X10 rfl (by decide) kf_X10_24 dX10_runsOn_78 ?_
        obtain ⟨S14, hc, h⟩ := bndv_t h
        refine s_cvv (pc := 81) [] (fun ad => [.ref (ad 63)]) F w (m_State_addDamp  _ _ hc) rfl rfl hl.1 ds_63 vc_X8 rfl ok_X8_addDamp rfl kc_X8_addDamp kl_X10_134 ki_X8_addDamp kv_X8_addDamp kn_X8 ⟨Nat.le_trans (by decide) hR1, Nat.le_trans (by decide) hR2⟩ ⟨Nat.zero_le _, Nat.zero_le _⟩ (Nat.le_of_ble_eq_true rfl) dX10_runsOn_81 (fun H locs w => ?_)
        refine lv_iconst (pc := 84) (v := 0) hx hb dX10_runsOn_84 (by decide) ?_
        exact s_zretc F w rfl h dX10_runsOn_85
    · have h := ite_t q h
      refine lv_aload_n (pc := 48) hx hb dX10_runsOn_48 rfl (lv_at hl 3 rfl) ?_
      refine s_getR (pc := 49) F w 63 ds_68 (j := 0) vc_X10 vi_X10 rfl (by decide) kf_X10_24 dX10_runsOn_49 ?_
      refine lv_iload_n (pc := 52) hx hb dX10_runsOn_52 rfl (lv_at hl 2 rfl) ?_
      refine lv_iload_n (pc := 53) hx hb dX10_runsOn_53 rfl (lv_at hl 1 rfl) ?_
      refine lv_iconst (pc := 54) (v := 1) hx hb dX10_runsOn_54 (by decide) ?_
      refine lv_ishr (pc := 55) hx hb dX10_runsOn_55 ?_
      refine lv_iload_n (pc := 56) hx hb dX10_runsOn_56 rfl (lv_at hl 1 rfl) ?_
      refine lv_iconst (pc := 57) (v := 1) hx hb dX10_runsOn_57 (by decide) ?_
      refine lv_iand (pc := 58) hx hb dX10_runsOn_58 ?_
      obtain ⟨S15, hc, h⟩ := bndv_t h
      refine s_cvv (pc := 59) [.int z3, .int (r5 >>> ((1 : Int32) &&& 31)), .int (r5 &&& (1 : Int32))] (fun ad => [.ref (ad 63), .int z3, .int (r5 >>> ((1 : Int32) &&& 31)), .int (r5 &&& (1 : Int32))]) F w (m_State_goTo _ _ _ _ _ hc) rfl rfl hl.1 ds_63 vc_X8 rfl ok_X8_goTo rfl kc_X8_goTo kl_X10_108 ki_X8_goTo kv_X8_goTo kn_X8 ⟨Nat.le_trans (by decide) hR1, Nat.le_trans (by decide) hR2⟩ ⟨Nat.zero_le _, Nat.zero_le _⟩ (Nat.le_of_ble_eq_true rfl) dX10_runsOn_59 (fun H locs w => ?_)
      refine lv_goto (pc := 62) (tgt := 86) hx hb dX10_runsOn_62 (by decide) ?_
      exact w_Trains_runsOn_j86 F (Nat.le_trans (by decide) hR1) (Nat.le_trans (by decide) hR2) _ _ h _ _ _ w (lv_sub hl [3, 4] rfl)
  · have h := ite_t q h
    refine lv_iconst (pc := 27) (v := 0) hx hb dX10_runsOn_27 (by decide) ?_
    exact s_zretc F w rfl h dX10_runsOn_28
def f_State_endRun_L39  : Nat → Int32 → SS → Option (SS)
  | 0, _, _ => none
  | n + 1, x2, S =>
    grd (inb (1 : Int32) 946) (
    if (S.1 79 (1 : Int32).toNatClampNeg) ≤ x2 then
      some S
    else
      grd (inb (((2 : Int32) + x2) + (1 : Int32)) 946) (
      grd (inb ((2 : Int32) + x2) 946) (wr S 79 ((2 : Int32) + x2).toNatClampNeg (S.1 79 (((2 : Int32) + x2) + (1 : Int32)).toNatClampNeg) (fun S5 =>
      nm (x2 + (1 : Int32)) (fun z6 =>
      f_State_endRun_L39 n z6 S5)))))
def f_State_endRun (a1 : Int32) (S : SS) : Option (SS) :=
  if a1 < 0 then
    some S
  else
    grd (inb (1 : Int32) 946) (
    if a1 < (S.1 79 (1 : Int32).toNatClampNeg) then
      bnd (f_State_runner a1 S) (fun r2 S1 =>
      bndv (f_State_set r2 (8 : Int32) (0 : Int32) S1) (fun S3 =>
      grd (inb (1 : Int32) 946) (
      grd (inb (1 : Int32) 946) (wr S3 79 (1 : Int32).toNatClampNeg ((S3.1 79 (1 : Int32).toNatClampNeg) - (1 : Int32)) (fun S4 =>
      f_State_endRun_L39 NF a1 S4)))))
    else
      some S)
theorem dX8_endRun_0 : decode cX8_endRun 0 = .ok (.iload_n 1, 1) := dc_27 (by decide +kernel)
theorem dX8_endRun_1 : decode cX8_endRun 1 = .ok (.ifCond .lt 13, 3) := dc_155 (a := 0) (b := 13) (by decide +kernel) (by decide)
theorem dX8_endRun_4 : decode cX8_endRun 4 = .ok (.iload_n 1, 1) := dc_27 (by decide +kernel)
theorem dX8_endRun_5 : decode cX8_endRun 5 = .ok (.aload_n 0, 1) := dc_42 (by decide +kernel)
theorem dX8_endRun_6 : decode cX8_endRun 6 = .ok (.getfield 13, 3) := dc_180 (a := 0) (b := 13) (by decide +kernel)
theorem dX8_endRun_9 : decode cX8_endRun 9 = .ok (.iconst 1, 1) := dc_4 (by decide +kernel)
theorem dX8_endRun_10 : decode cX8_endRun 10 = .ok (.iaload, 1) := dc_46 (by decide +kernel)
theorem dX8_endRun_11 : decode cX8_endRun 11 = .ok (.if_icmp .lt 4, 3) := dc_161 (a := 0) (b := 4) (by decide +kernel) (by decide)
theorem dX8_endRun_14 : decode cX8_endRun 14 = .ok (.return_, 1) := dc_177 (by decide +kernel)
theorem dX8_endRun_15 : decode cX8_endRun 15 = .ok (.aload_n 0, 1) := dc_42 (by decide +kernel)
theorem dX8_endRun_16 : decode cX8_endRun 16 = .ok (.aload_n 0, 1) := dc_42 (by decide +kernel)
theorem dX8_endRun_17 : decode cX8_endRun 17 = .ok (.iload_n 1, 1) := dc_27 (by decide +kernel)
theorem dX8_endRun_18 : decode cX8_endRun 18 = .ok (.invokevirtual 39, 3) := dc_182 (a := 0) (b := 39) (by decide +kernel)
theorem dX8_endRun_21 : decode cX8_endRun 21 = .ok (.bipush 8, 2) := dc_16 (a := 8) (by decide +kernel) (by decide)
theorem dX8_endRun_23 : decode cX8_endRun 23 = .ok (.iconst 0, 1) := dc_3 (by decide +kernel)
theorem dX8_endRun_24 : decode cX8_endRun 24 = .ok (.invokevirtual 27, 3) := dc_182 (a := 0) (b := 27) (by decide +kernel)
theorem dX8_endRun_27 : decode cX8_endRun 27 = .ok (.aload_n 0, 1) := dc_42 (by decide +kernel)
theorem dX8_endRun_28 : decode cX8_endRun 28 = .ok (.getfield 13, 3) := dc_180 (a := 0) (b := 13) (by decide +kernel)
theorem dX8_endRun_31 : decode cX8_endRun 31 = .ok (.iconst 1, 1) := dc_4 (by decide +kernel)
theorem dX8_endRun_32 : decode cX8_endRun 32 = .ok (.dup2, 1) := dc_92 (by decide +kernel)
theorem dX8_endRun_33 : decode cX8_endRun 33 = .ok (.iaload, 1) := dc_46 (by decide +kernel)
theorem dX8_endRun_34 : decode cX8_endRun 34 = .ok (.iconst 1, 1) := dc_4 (by decide +kernel)
theorem dX8_endRun_35 : decode cX8_endRun 35 = .ok (.isub, 1) := dc_100 (by decide +kernel)
theorem dX8_endRun_36 : decode cX8_endRun 36 = .ok (.iastore, 1) := dc_79 (by decide +kernel)
theorem dX8_endRun_37 : decode cX8_endRun 37 = .ok (.iload_n 1, 1) := dc_27 (by decide +kernel)
theorem dX8_endRun_38 : decode cX8_endRun 38 = .ok (.istore_n 2, 1) := dc_61 (by decide +kernel)
theorem dX8_endRun_39 : decode cX8_endRun 39 = .ok (.iload_n 2, 1) := dc_28 (by decide +kernel)
theorem dX8_endRun_40 : decode cX8_endRun 40 = .ok (.aload_n 0, 1) := dc_42 (by decide +kernel)
theorem dX8_endRun_41 : decode cX8_endRun 41 = .ok (.getfield 13, 3) := dc_180 (a := 0) (b := 13) (by decide +kernel)
theorem dX8_endRun_44 : decode cX8_endRun 44 = .ok (.iconst 1, 1) := dc_4 (by decide +kernel)
theorem dX8_endRun_45 : decode cX8_endRun 45 = .ok (.iaload, 1) := dc_46 (by decide +kernel)
theorem dX8_endRun_46 : decode cX8_endRun 46 = .ok (.if_icmp .ge 27, 3) := dc_162 (a := 0) (b := 27) (by decide +kernel) (by decide)
theorem dX8_endRun_49 : decode cX8_endRun 49 = .ok (.aload_n 0, 1) := dc_42 (by decide +kernel)
theorem dX8_endRun_50 : decode cX8_endRun 50 = .ok (.getfield 13, 3) := dc_180 (a := 0) (b := 13) (by decide +kernel)
theorem dX8_endRun_53 : decode cX8_endRun 53 = .ok (.iconst 2, 1) := dc_5 (by decide +kernel)
theorem dX8_endRun_54 : decode cX8_endRun 54 = .ok (.iload_n 2, 1) := dc_28 (by decide +kernel)
theorem dX8_endRun_55 : decode cX8_endRun 55 = .ok (.iadd, 1) := dc_96 (by decide +kernel)
theorem dX8_endRun_56 : decode cX8_endRun 56 = .ok (.aload_n 0, 1) := dc_42 (by decide +kernel)
theorem dX8_endRun_57 : decode cX8_endRun 57 = .ok (.getfield 13, 3) := dc_180 (a := 0) (b := 13) (by decide +kernel)
theorem dX8_endRun_60 : decode cX8_endRun 60 = .ok (.iconst 2, 1) := dc_5 (by decide +kernel)
theorem dX8_endRun_61 : decode cX8_endRun 61 = .ok (.iload_n 2, 1) := dc_28 (by decide +kernel)
theorem dX8_endRun_62 : decode cX8_endRun 62 = .ok (.iadd, 1) := dc_96 (by decide +kernel)
theorem dX8_endRun_63 : decode cX8_endRun 63 = .ok (.iconst 1, 1) := dc_4 (by decide +kernel)
theorem dX8_endRun_64 : decode cX8_endRun 64 = .ok (.iadd, 1) := dc_96 (by decide +kernel)
theorem dX8_endRun_65 : decode cX8_endRun 65 = .ok (.iaload, 1) := dc_46 (by decide +kernel)
theorem dX8_endRun_66 : decode cX8_endRun 66 = .ok (.iastore, 1) := dc_79 (by decide +kernel)
theorem dX8_endRun_67 : decode cX8_endRun 67 = .ok (.iinc 2 1, 3) := dc_132 (a := 2) (b := 1) (by decide +kernel) (by decide)
theorem dX8_endRun_70 : decode cX8_endRun 70 = .ok (.goto (-31), 3) := dc_167 (a := 255) (b := 225) (by decide +kernel) (by decide)
theorem dX8_endRun_73 : decode cX8_endRun 73 = .ok (.return_, 1) := dc_177 (by decide +kernel)
set_option maxRecDepth 100000 in
set_option maxHeartbeats 4000000 in
theorem w_State_endRun_L39 {p : Program} {l : Launch} {e : Env} {R : Room} {s : State} {m : MethodId} {args : Array Value} {below : List Frame} {meth : Method} {c : Code} {dC : Nat → ClassId} {dI : Nat → Nat → Nat} {cs : Nat → ClassId} {ad : Nat → Nat} {A : Nat → Prop} {D0 : Nat → Nat} {S' : SS} (F : Fx p s m args meth c cX8_endRun 3 RX8 none dC dI cs A) (hR1 : 0 ≤ R.frames) (hR2 : 0 ≤ R.locals) : ∀ (n : Nat) (x2 : Int32) (S : SS), f_State_endRun_L39 n x2 S = some S' → AW p l e R s m args below meth c dC dI cs ad A D0 none S' 3 39 [(0, .ref (ad 63)), (2, .int x2)] [] S := by
  have hx := F.1.1
  have hb := F.1.2.1
  intro n
  induction n with
  | zero => intro x2 S h; cases h
  | succ n ih =>
    intro x2 S h H locs ls w hl
    rw [f_State_endRun_L39] at h
    refine lv_iload_n (pc := 39) hx hb dX8_endRun_39 rfl (lv_at hl 1 rfl) ?_
    refine lv_aload_n (pc := 40) hx hb dX8_endRun_40 rfl (lv_at hl 0 rfl) ?_
    refine s_getR (pc := 41) F w 79 ds_63 (j := 0) vc_X8 vi_X8 rfl (by decide) kf_X8_13 dX8_endRun_41 ?_
    refine lv_iconst (pc := 44) (v := 1) hx hb dX8_endRun_44 (by decide) ?_
    refine s_iald (pc := 45) F w ds_79 h dX8_endRun_45 (fun h => ?_)
    refine lv_icmp_ge (pc := 46) (tgt := 73) hx hb dX8_endRun_46 (by decide) (fun q => ?_) (fun q => ?_)
    · have h := ite_t q h
      exact s_vret F w h dX8_endRun_73
    · have h := ite_f q h
      refine lv_aload_n (pc := 49) hx hb dX8_endRun_49 rfl (lv_at hl 0 rfl) ?_
      refine s_getR (pc := 50) F w 79 ds_63 (j := 0) vc_X8 vi_X8 rfl (by decide) kf_X8_13 dX8_endRun_50 ?_
      refine lv_iconst (pc := 53) (v := 2) hx hb dX8_endRun_53 (by decide) ?_
      refine lv_iload_n (pc := 54) hx hb dX8_endRun_54 rfl (lv_at hl 1 rfl) ?_
      refine lv_iadd (pc := 55) hx hb dX8_endRun_55 ?_
      refine lv_aload_n (pc := 56) hx hb dX8_endRun_56 rfl (lv_at hl 0 rfl) ?_
      refine s_getR (pc := 57) F w 79 ds_63 (j := 0) vc_X8 vi_X8 rfl (by decide) kf_X8_13 dX8_endRun_57 ?_
      refine lv_iconst (pc := 60) (v := 2) hx hb dX8_endRun_60 (by decide) ?_
      refine lv_iload_n (pc := 61) hx hb dX8_endRun_61 rfl (lv_at hl 1 rfl) ?_
      refine lv_iadd (pc := 62) hx hb dX8_endRun_62 ?_
      refine lv_iconst (pc := 63) (v := 1) hx hb dX8_endRun_63 (by decide) ?_
      refine lv_iadd (pc := 64) hx hb dX8_endRun_64 ?_
      refine s_iald (pc := 65) F w ds_79 h dX8_endRun_65 (fun h => ?_)
      refine s_iast (pc := 66) F w ds_79 h dX8_endRun_66 (fun S5 H locs h w => ?_)
      refine s_nm h (fun z6 ez6 h => ?_)
      refine lv_iinc (pc := 67) (v := z6) (lv' := [(2, .int z6), (0, .ref (ad 63))]) hx hb dX8_endRun_67 hl (k := 1) rfl (by rw [ez6]; rfl) (by decide) rfl (fun ls hl => ?_)
      refine lv_goto (pc := 70) (tgt := 39) hx hb dX8_endRun_70 (by decide) ?_
      exact ih _ _ h _ _ _ w (lv_sub hl [1, 0] rfl)
set_option maxRecDepth 100000 in
set_option maxHeartbeats 4000000 in
theorem m_State_endRun (a1 : Int32) (S S' : SS) (h : f_State_endRun a1 S = some S') : MT yX8_endRun cX8_endRun 3 none 1 23 (fun ad => [.ref (ad 63), .int a1]) S none S' := by
  refine MT.of RX8 (fun ad => [(0, .ref (ad 63)), (1, .int a1)]) (by decide) rfl (fun _ => Nat.le_of_ble_eq_true rfl) (fun _ => rfl) ?_
  intro p l e R s m args below meth c dC dI cs ad A hR1 hR2 F H locs ls w hl
  have hx := F.1.1
  have hb := F.1.2.1
  rw [f_State_endRun] at h
  refine lv_iload_n (pc := 0) hx hb dX8_endRun_0 rfl (lv_at hl 1 rfl) ?_
  refine lv_if_lt (pc := 1) (tgt := 14) hx hb dX8_endRun_1 (by decide) (fun q => ?_) (fun q => ?_)
  · have h := ite_t q h
    exact s_vret F w h dX8_endRun_14
  · have h := ite_f q h
    refine lv_iload_n (pc := 4) hx hb dX8_endRun_4 rfl (lv_at hl 1 rfl) ?_
    refine lv_aload_n (pc := 5) hx hb dX8_endRun_5 rfl (lv_at hl 0 rfl) ?_
    refine s_getR (pc := 6) F w 79 ds_63 (j := 0) vc_X8 vi_X8 rfl (by decide) kf_X8_13 dX8_endRun_6 ?_
    refine lv_iconst (pc := 9) (v := 1) hx hb dX8_endRun_9 (by decide) ?_
    refine s_iald (pc := 10) F w ds_79 h dX8_endRun_10 (fun h => ?_)
    refine lv_icmp_lt (pc := 11) (tgt := 15) hx hb dX8_endRun_11 (by decide) (fun q => ?_) (fun q => ?_)
    · have h := ite_t q h
      refine lv_aload_n (pc := 15) hx hb dX8_endRun_15 rfl (lv_at hl 0 rfl) ?_
      refine lv_aload_n (pc := 16) hx hb dX8_endRun_16 rfl (lv_at hl 0 rfl) ?_
      refine lv_iload_n (pc := 17) hx hb dX8_endRun_17 rfl (lv_at hl 1 rfl) ?_
      obtain ⟨r2, S1, hc, h⟩ := bnd_t h
      refine s_cvi (pc := 18) [.int a1] (fun ad => [.ref (ad 63), .int a1]) F w (m_State_runner _ _ _ _ hc) rfl rfl hl.1 ds_63 vc_X8 rfl ok_X8_runner rfl kc_X8_runner kl_X8_39 ki_X8_runner kv_X8_runner kn_X8 ⟨Nat.le_trans (by decide) hR1, Nat.le_trans (by decide) hR2⟩ ⟨Nat.zero_le _, Nat.zero_le _⟩ (Nat.le_of_ble_eq_true rfl) dX8_endRun_18 (fun H locs w => ?_)
      refine lv_bipush (pc := 21) (v := 8) hx hb dX8_endRun_21 (by decide) ?_
      refine lv_iconst (pc := 23) (v := 0) hx hb dX8_endRun_23 (by decide) ?_
      obtain ⟨S3, hc, h⟩ := bndv_t h
      refine s_cvv (pc := 24) [.int r2, .int (8 : Int32), .int (0 : Int32)] (fun ad => [.ref (ad 63), .int r2, .int (8 : Int32), .int (0 : Int32)]) F w (m_State_set _ _ _ _ _ hc) rfl rfl hl.1 ds_63 vc_X8 rfl ok_X8_set rfl kc_X8_set kl_X8_27 ki_X8_set kv_X8_set kn_X8 ⟨Nat.le_trans (by decide) hR1, Nat.le_trans (by decide) hR2⟩ ⟨Nat.zero_le _, Nat.zero_le _⟩ (Nat.le_of_ble_eq_true rfl) dX8_endRun_24 (fun H locs w => ?_)
      refine lv_aload_n (pc := 27) hx hb dX8_endRun_27 rfl (lv_at hl 0 rfl) ?_
      refine s_getR (pc := 28) F w 79 ds_63 (j := 0) vc_X8 vi_X8 rfl (by decide) kf_X8_13 dX8_endRun_28 ?_
      refine lv_iconst (pc := 31) (v := 1) hx hb dX8_endRun_31 (by decide) ?_
      refine lv_dup2_11 (pc := 32) hx hb dX8_endRun_32 rfl rfl ?_
      refine s_iald (pc := 33) F w ds_79 h dX8_endRun_33 (fun h => ?_)
      refine lv_iconst (pc := 34) (v := 1) hx hb dX8_endRun_34 (by decide) ?_
      refine lv_isub (pc := 35) hx hb dX8_endRun_35 ?_
      refine s_iast (pc := 36) F w ds_79 h dX8_endRun_36 (fun S4 H locs h w => ?_)
      refine lv_iload_n (pc := 37) hx hb dX8_endRun_37 rfl (lv_at hl 1 rfl) ?_
      refine lv_istore_n (pc := 38) (lv' := [(2, .int a1), (0, .ref (ad 63)), (1, .int a1)]) hx hb dX8_endRun_38 rfl hl (by decide) rfl (fun ls hl => ?_)
      exact w_State_endRun_L39 F (Nat.le_trans (by decide) hR1) (Nat.le_trans (by decide) hR2) _ _ _ h _ _ _ w (lv_sub hl [1, 0] rfl)
    · have h := ite_f q h
      exact s_vret F w h dX8_endRun_14
