/-! ===== printed by wip/gen: Stock_set Stock_describe State_get State_standsAt Yard_standNew Yard_wagon Yard_engine Bodies_isBarred Bodies_setBarred Yard_bar Yard_table Routes_addRoute Yard_route Routes_routeFinding Routes_entriesOf Routes_putEntry Routes_isBehind Routes_addEntry State_locker Routes_lockedBy ===== -/
def f_Stock_set (a1 : Int32) (a2 : Int32) (a3 : Int32) (S : SS) : Option (SS) :=
  if a1 < 0 then
    some S
  else
    if (72 : Int32) ≤ a1 then
      some S
    else
      grd (inb (((6 : Int32) * a1) + a2) 432) (wr S 91 (((6 : Int32) * a1) + a2).toNatClampNeg a3 (fun S1 =>
      some S1))
theorem dX9_set_0 : decode cX9_set 0 = .ok (.iload_n 1, 1) := dc_27 (by decide +kernel)
theorem dX9_set_1 : decode cX9_set 1 = .ok (.ifCond .lt 21, 3) := dc_155 (a := 0) (b := 21) (by decide +kernel) (by decide)
theorem dX9_set_4 : decode cX9_set 4 = .ok (.iload_n 1, 1) := dc_27 (by decide +kernel)
theorem dX9_set_5 : decode cX9_set 5 = .ok (.bipush 72, 2) := dc_16 (a := 72) (by decide +kernel) (by decide)
theorem dX9_set_7 : decode cX9_set 7 = .ok (.if_icmp .ge 15, 3) := dc_162 (a := 0) (b := 15) (by decide +kernel) (by decide)
theorem dX9_set_10 : decode cX9_set 10 = .ok (.aload_n 0, 1) := dc_42 (by decide +kernel)
theorem dX9_set_11 : decode cX9_set 11 = .ok (.getfield 13, 3) := dc_180 (a := 0) (b := 13) (by decide +kernel)
theorem dX9_set_14 : decode cX9_set 14 = .ok (.bipush 6, 2) := dc_16 (a := 6) (by decide +kernel) (by decide)
theorem dX9_set_16 : decode cX9_set 16 = .ok (.iload_n 1, 1) := dc_27 (by decide +kernel)
theorem dX9_set_17 : decode cX9_set 17 = .ok (.imul, 1) := dc_104 (by decide +kernel)
theorem dX9_set_18 : decode cX9_set 18 = .ok (.iload_n 2, 1) := dc_28 (by decide +kernel)
theorem dX9_set_19 : decode cX9_set 19 = .ok (.iadd, 1) := dc_96 (by decide +kernel)
theorem dX9_set_20 : decode cX9_set 20 = .ok (.iload_n 3, 1) := dc_29 (by decide +kernel)
theorem dX9_set_21 : decode cX9_set 21 = .ok (.iastore, 1) := dc_79 (by decide +kernel)
theorem dX9_set_22 : decode cX9_set 22 = .ok (.return_, 1) := dc_177 (by decide +kernel)
set_option maxRecDepth 100000 in
set_option maxHeartbeats 4000000 in
theorem m_Stock_set (a1 : Int32) (a2 : Int32) (a3 : Int32) (S S' : SS) (h : f_Stock_set a1 a2 a3 S = some S') : MT yX9_set cX9_set 4 none 0 0 (fun ad => [.ref (ad 65), .int a1, .int a2, .int a3]) S none S' := by
  refine MT.of RX9 (fun ad => [(0, .ref (ad 65)), (1, .int a1), (2, .int a2), (3, .int a3)]) (by decide) rfl (fun _ => Nat.le_of_ble_eq_true rfl) (fun _ => rfl) ?_
  intro p l e R s m args below meth c dC dI cs ad A hR1 hR2 F H locs ls w hl
  have hx := F.1.1
  have hb := F.1.2.1
  rw [f_Stock_set] at h
  refine lv_iload_n (pc := 0) hx hb dX9_set_0 rfl (lv_at hl 1 rfl) ?_
  refine lv_if_lt (pc := 1) (tgt := 22) hx hb dX9_set_1 (by decide) (fun q => ?_) (fun q => ?_)
  · have h := ite_t q h
    exact s_vret F w h dX9_set_22
  · have h := ite_f q h
    refine lv_iload_n (pc := 4) hx hb dX9_set_4 rfl (lv_at hl 1 rfl) ?_
    refine lv_bipush (pc := 5) (v := 72) hx hb dX9_set_5 (by decide) ?_
    refine lv_icmp_ge (pc := 7) (tgt := 22) hx hb dX9_set_7 (by decide) (fun q => ?_) (fun q => ?_)
    · have h := ite_t q h
      exact s_vret F w h dX9_set_22
    · have h := ite_f q h
      refine lv_aload_n (pc := 10) hx hb dX9_set_10 rfl (lv_at hl 0 rfl) ?_
      refine s_getR (pc := 11) F w 91 ds_65 (j := 0) vc_X9 vi_X9 rfl (by decide) kf_X9_13 dX9_set_11 ?_
      refine lv_bipush (pc := 14) (v := 6) hx hb dX9_set_14 (by decide) ?_
      refine lv_iload_n (pc := 16) hx hb dX9_set_16 rfl (lv_at hl 1 rfl) ?_
      refine lv_imul (pc := 17) hx hb dX9_set_17 ?_
      refine lv_iload_n (pc := 18) hx hb dX9_set_18 rfl (lv_at hl 2 rfl) ?_
      refine lv_iadd (pc := 19) hx hb dX9_set_19 ?_
      refine lv_iload_n (pc := 20) hx hb dX9_set_20 rfl (lv_at hl 3 rfl) ?_
      refine s_iast (pc := 21) F w ds_91 h dX9_set_21 (fun S1 H locs h w => ?_)
      exact s_vret F w h dX9_set_22
def f_Stock_describe (a1 : Int32) (a2 : Int32) (a3 : Int32) (a4 : Int32) (S : SS) : Option (SS) :=
  bndv (f_Stock_set a1 (0 : Int32) a2 S) (fun S1 =>
  bndv (f_Stock_set a1 (1 : Int32) a3 S1) (fun S2 =>
  bndv (f_Stock_set a1 (2 : Int32) a4 S2) (fun S3 =>
  bndv (f_Stock_set a1 (3 : Int32) (-4 : Int32) S3) (fun S4 =>
  some S4))))
theorem dX9_describe_0 : decode cX9_describe 0 = .ok (.aload_n 0, 1) := dc_42 (by decide +kernel)
theorem dX9_describe_1 : decode cX9_describe 1 = .ok (.iload_n 1, 1) := dc_27 (by decide +kernel)
theorem dX9_describe_2 : decode cX9_describe 2 = .ok (.iconst 0, 1) := dc_3 (by decide +kernel)
theorem dX9_describe_3 : decode cX9_describe 3 = .ok (.iload_n 2, 1) := dc_28 (by decide +kernel)
theorem dX9_describe_4 : decode cX9_describe 4 = .ok (.invokevirtual 20, 3) := dc_182 (a := 0) (b := 20) (by decide +kernel)
theorem dX9_describe_7 : decode cX9_describe 7 = .ok (.aload_n 0, 1) := dc_42 (by decide +kernel)
theorem dX9_describe_8 : decode cX9_describe 8 = .ok (.iload_n 1, 1) := dc_27 (by decide +kernel)
theorem dX9_describe_9 : decode cX9_describe 9 = .ok (.iconst 1, 1) := dc_4 (by decide +kernel)
theorem dX9_describe_10 : decode cX9_describe 10 = .ok (.iload_n 3, 1) := dc_29 (by decide +kernel)
theorem dX9_describe_11 : decode cX9_describe 11 = .ok (.invokevirtual 20, 3) := dc_182 (a := 0) (b := 20) (by decide +kernel)
theorem dX9_describe_14 : decode cX9_describe 14 = .ok (.aload_n 0, 1) := dc_42 (by decide +kernel)
theorem dX9_describe_15 : decode cX9_describe 15 = .ok (.iload_n 1, 1) := dc_27 (by decide +kernel)
theorem dX9_describe_16 : decode cX9_describe 16 = .ok (.iconst 2, 1) := dc_5 (by decide +kernel)
theorem dX9_describe_17 : decode cX9_describe 17 = .ok (.iload 4, 2) := dc_21 (a := 4) (by decide +kernel)
theorem dX9_describe_19 : decode cX9_describe 19 = .ok (.invokevirtual 20, 3) := dc_182 (a := 0) (b := 20) (by decide +kernel)
theorem dX9_describe_22 : decode cX9_describe 22 = .ok (.aload_n 0, 1) := dc_42 (by decide +kernel)
theorem dX9_describe_23 : decode cX9_describe 23 = .ok (.iload_n 1, 1) := dc_27 (by decide +kernel)
theorem dX9_describe_24 : decode cX9_describe 24 = .ok (.iconst 3, 1) := dc_6 (by decide +kernel)
theorem dX9_describe_25 : decode cX9_describe 25 = .ok (.bipush (-4), 2) := dc_16 (a := 252) (by decide +kernel) (by decide)
theorem dX9_describe_27 : decode cX9_describe 27 = .ok (.invokevirtual 20, 3) := dc_182 (a := 0) (b := 20) (by decide +kernel)
theorem dX9_describe_30 : decode cX9_describe 30 = .ok (.return_, 1) := dc_177 (by decide +kernel)
set_option maxRecDepth 100000 in
set_option maxHeartbeats 4000000 in
theorem m_Stock_describe (a1 : Int32) (a2 : Int32) (a3 : Int32) (a4 : Int32) (S S' : SS) (h : f_Stock_describe a1 a2 a3 a4 S = some S') : MT yX9_describe cX9_describe 5 none 1 23 (fun ad => [.ref (ad 65), .int a1, .int a2, .int a3, .int a4]) S none S' := by
  refine MT.of RX9 (fun ad => [(0, .ref (ad 65)), (1, .int a1), (2, .int a2), (3, .int a3), (4, .int a4)]) (by decide) rfl (fun _ => Nat.le_of_ble_eq_true rfl) (fun _ => rfl) ?_
  intro p l e R s m args below meth c dC dI cs ad A hR1 hR2 F H locs ls w hl
  have hx := F.1.1
  have hb := F.1.2.1
  rw [f_Stock_describe] at h
  refine lv_aload_n (pc := 0) hx hb dX9_describe_0 rfl (lv_at hl 0 rfl) ?_
  refine lv_iload_n (pc := 1) hx hb dX9_describe_1 rfl (lv_at hl 1 rfl) ?_
  refine lv_iconst (pc := 2) (v := 0) hx hb dX9_describe_2 (by decide) ?_
  refine lv_iload_n (pc := 3) hx hb dX9_describe_3 rfl (lv_at hl 2 rfl) ?_
  obtain ⟨S1, hc, h⟩ := bndv_t h
  refine s_cvv (pc := 4) [.int a1, .int (0 : Int32), .int a2] (fun ad => [.ref (ad 65), .int a1, .int (0 : Int32), .int a2]) F w (m_Stock_set _ _ _ _ _ hc) rfl rfl hl.1 ds_65 vc_X9 rfl ok_X9_set rfl kc_X9_set kl_X9_20 ki_X9_set kv_X9_set kn_X9 ⟨Nat.le_trans (by decide) hR1, Nat.le_trans (by decide) hR2⟩ ⟨Nat.zero_le _, Nat.zero_le _⟩ (Nat.le_of_ble_eq_true rfl) dX9_describe_4 (fun H locs w => ?_)
  refine lv_aload_n (pc := 7) hx hb dX9_describe_7 rfl (lv_at hl 0 rfl) ?_
  refine lv_iload_n (pc := 8) hx hb dX9_describe_8 rfl (lv_at hl 1 rfl) ?_
  refine lv_iconst (pc := 9) (v := 1) hx hb dX9_describe_9 (by decide) ?_
  refine lv_iload_n (pc := 10) hx hb dX9_describe_10 rfl (lv_at hl 3 rfl) ?_
  obtain ⟨S2, hc, h⟩ := bndv_t h
  refine s_cvv (pc := 11) [.int a1, .int (1 : Int32), .int a3] (fun ad => [.ref (ad 65), .int a1, .int (1 : Int32), .int a3]) F w (m_Stock_set _ _ _ _ _ hc) rfl rfl hl.1 ds_65 vc_X9 rfl ok_X9_set rfl kc_X9_set kl_X9_20 ki_X9_set kv_X9_set kn_X9 ⟨Nat.le_trans (by decide) hR1, Nat.le_trans (by decide) hR2⟩ ⟨Nat.zero_le _, Nat.zero_le _⟩ (Nat.le_of_ble_eq_true rfl) dX9_describe_11 (fun H locs w => ?_)
  refine lv_aload_n (pc := 14) hx hb dX9_describe_14 rfl (lv_at hl 0 rfl) ?_
  refine lv_iload_n (pc := 15) hx hb dX9_describe_15 rfl (lv_at hl 1 rfl) ?_
  refine lv_iconst (pc := 16) (v := 2) hx hb dX9_describe_16 (by decide) ?_
  refine lv_iload (pc := 17) hx hb dX9_describe_17 (lv_at hl 4 rfl) ?_
  obtain ⟨S3, hc, h⟩ := bndv_t h
  refine s_cvv (pc := 19) [.int a1, .int (2 : Int32), .int a4] (fun ad => [.ref (ad 65), .int a1, .int (2 : Int32), .int a4]) F w (m_Stock_set _ _ _ _ _ hc) rfl rfl hl.1 ds_65 vc_X9 rfl ok_X9_set rfl kc_X9_set kl_X9_20 ki_X9_set kv_X9_set kn_X9 ⟨Nat.le_trans (by decide) hR1, Nat.le_trans (by decide) hR2⟩ ⟨Nat.zero_le _, Nat.zero_le _⟩ (Nat.le_of_ble_eq_true rfl) dX9_describe_19 (fun H locs w => ?_)
  refine lv_aload_n (pc := 22) hx hb dX9_describe_22 rfl (lv_at hl 0 rfl) ?_
  refine lv_iload_n (pc := 23) hx hb dX9_describe_23 rfl (lv_at hl 1 rfl) ?_
  refine lv_iconst (pc := 24) (v := 3) hx hb dX9_describe_24 (by decide) ?_
  refine lv_bipush (pc := 25) (v := -4) hx hb dX9_describe_25 (by decide) ?_
  obtain ⟨S4, hc, h⟩ := bndv_t h
  refine s_cvv (pc := 27) [.int a1, .int (3 : Int32), .int (-4 : Int32)] (fun ad => [.ref (ad 65), .int a1, .int (3 : Int32), .int (-4 : Int32)]) F w (m_Stock_set _ _ _ _ _ hc) rfl rfl hl.1 ds_65 vc_X9 rfl ok_X9_set rfl kc_X9_set kl_X9_20 ki_X9_set kv_X9_set kn_X9 ⟨Nat.le_trans (by decide) hR1, Nat.le_trans (by decide) hR2⟩ ⟨Nat.zero_le _, Nat.zero_le _⟩ (Nat.le_of_ble_eq_true rfl) dX9_describe_27 (fun H locs w => ?_)
  exact s_vret F w h dX9_describe_30
def f_State_get (a1 : Int32) (a2 : Int32) (S : SS) : Option (Int32 × SS) :=
  if a1 < 0 then
    some ((-4 : Int32), S)
  else
    if (S.1 63 1) ≤ a1 then
      some ((-4 : Int32), S)
    else
      grd (inb (((154 : Int32) + ((11 : Int32) * a1)) + a2) 946) (
      some (S.1 79 (((154 : Int32) + ((11 : Int32) * a1)) + a2).toNatClampNeg, S))
theorem dX8_get_0 : decode cX8_get 0 = .ok (.iload_n 1, 1) := dc_27 (by decide +kernel)
theorem dX8_get_1 : decode cX8_get 1 = .ok (.ifCond .lt 29, 3) := dc_155 (a := 0) (b := 29) (by decide +kernel) (by decide)
theorem dX8_get_4 : decode cX8_get 4 = .ok (.iload_n 1, 1) := dc_27 (by decide +kernel)
theorem dX8_get_5 : decode cX8_get 5 = .ok (.aload_n 0, 1) := dc_42 (by decide +kernel)
theorem dX8_get_6 : decode cX8_get 6 = .ok (.getfield 17, 3) := dc_180 (a := 0) (b := 17) (by decide +kernel)
theorem dX8_get_9 : decode cX8_get 9 = .ok (.if_icmp .ge 21, 3) := dc_162 (a := 0) (b := 21) (by decide +kernel) (by decide)
theorem dX8_get_12 : decode cX8_get 12 = .ok (.aload_n 0, 1) := dc_42 (by decide +kernel)
theorem dX8_get_13 : decode cX8_get 13 = .ok (.getfield 13, 3) := dc_180 (a := 0) (b := 13) (by decide +kernel)
theorem dX8_get_16 : decode cX8_get 16 = .ok (.sipush 154, 3) := dc_17 (a := 0) (b := 154) (by decide +kernel) (by decide)
theorem dX8_get_19 : decode cX8_get 19 = .ok (.bipush 11, 2) := dc_16 (a := 11) (by decide +kernel) (by decide)
theorem dX8_get_21 : decode cX8_get 21 = .ok (.iload_n 1, 1) := dc_27 (by decide +kernel)
theorem dX8_get_22 : decode cX8_get 22 = .ok (.imul, 1) := dc_104 (by decide +kernel)
theorem dX8_get_23 : decode cX8_get 23 = .ok (.iadd, 1) := dc_96 (by decide +kernel)
theorem dX8_get_24 : decode cX8_get 24 = .ok (.iload_n 2, 1) := dc_28 (by decide +kernel)
theorem dX8_get_25 : decode cX8_get 25 = .ok (.iadd, 1) := dc_96 (by decide +kernel)
theorem dX8_get_26 : decode cX8_get 26 = .ok (.iaload, 1) := dc_46 (by decide +kernel)
theorem dX8_get_27 : decode cX8_get 27 = .ok (.goto 5, 3) := dc_167 (a := 0) (b := 5) (by decide +kernel) (by decide)
theorem dX8_get_30 : decode cX8_get 30 = .ok (.bipush (-4), 2) := dc_16 (a := 252) (by decide +kernel) (by decide)
theorem dX8_get_32 : decode cX8_get 32 = .ok (.ireturn, 1) := dc_172 (by decide +kernel)
set_option maxRecDepth 100000 in
set_option maxHeartbeats 4000000 in
theorem m_State_get (a1 : Int32) (a2 : Int32) (S S' : SS) (r : Int32) (h : f_State_get a1 a2 S = some (r, S')) : MT yX8_get cX8_get 3 (some .int) 0 0 (fun ad => [.ref (ad 63), .int a1, .int a2]) S (some (.int r)) S' := by
  refine MT.of RX8 (fun ad => [(0, .ref (ad 63)), (1, .int a1), (2, .int a2)]) (by decide) rfl (fun _ => Nat.le_of_ble_eq_true rfl) (fun _ => rfl) ?_
  intro p l e R s m args below meth c dC dI cs ad A hR1 hR2 F H locs ls w hl
  have hx := F.1.1
  have hb := F.1.2.1
  rw [f_State_get] at h
  refine lv_iload_n (pc := 0) hx hb dX8_get_0 rfl (lv_at hl 1 rfl) ?_
  refine lv_if_lt (pc := 1) (tgt := 30) hx hb dX8_get_1 (by decide) (fun q => ?_) (fun q => ?_)
  · have h := ite_t q h
    refine lv_bipush (pc := 30) (v := -4) hx hb dX8_get_30 (by decide) ?_
    exact s_iret F w h dX8_get_32
  · have h := ite_f q h
    refine lv_iload_n (pc := 4) hx hb dX8_get_4 rfl (lv_at hl 1 rfl) ?_
    refine lv_aload_n (pc := 5) hx hb dX8_get_5 rfl (lv_at hl 0 rfl) ?_
    refine s_getI (pc := 6) F w ds_63 (j := 1) vc_X8 vi_X8 rfl (by decide) kf_X8_17 dX8_get_6 ?_
    refine lv_icmp_ge (pc := 9) (tgt := 30) hx hb dX8_get_9 (by decide) (fun q => ?_) (fun q => ?_)
    · have h := ite_t q h
      refine lv_bipush (pc := 30) (v := -4) hx hb dX8_get_30 (by decide) ?_
      exact s_iret F w h dX8_get_32
    · have h := ite_f q h
      refine lv_aload_n (pc := 12) hx hb dX8_get_12 rfl (lv_at hl 0 rfl) ?_
      refine s_getR (pc := 13) F w 79 ds_63 (j := 0) vc_X8 vi_X8 rfl (by decide) kf_X8_13 dX8_get_13 ?_
      refine lv_sipush (pc := 16) (v := 154) hx hb dX8_get_16 (by decide) ?_
      refine lv_bipush (pc := 19) (v := 11) hx hb dX8_get_19 (by decide) ?_
      refine lv_iload_n (pc := 21) hx hb dX8_get_21 rfl (lv_at hl 1 rfl) ?_
      refine lv_imul (pc := 22) hx hb dX8_get_22 ?_
      refine lv_iadd (pc := 23) hx hb dX8_get_23 ?_
      refine lv_iload_n (pc := 24) hx hb dX8_get_24 rfl (lv_at hl 2 rfl) ?_
      refine lv_iadd (pc := 25) hx hb dX8_get_25 ?_
      refine s_iald (pc := 26) F w ds_79 h dX8_get_26 (fun h => ?_)
      refine lv_goto (pc := 27) (tgt := 32) hx hb dX8_get_27 (by decide) ?_
      exact s_iret F w h dX8_get_32
def f_State_standsAt_L2  : Nat → Int32 → Int32 → SS → Option (Int32 × SS)
  | 0, _, _, _ => none
  | n + 1, x1, x2, S =>
    if (S.1 63 1) ≤ x2 then
      some ((-4 : Int32), S)
    else
      bnd (f_State_get x2 (0 : Int32) S) (fun r2 S1 =>
      if r2 = x1 then
        some (x2, S1)
      else
        nm (x2 + (1 : Int32)) (fun z3 =>
        f_State_standsAt_L2 n x1 z3 S1))
def f_State_standsAt (a1 : Int32) (S : SS) : Option (Int32 × SS) :=
  f_State_standsAt_L2 NF a1 (0 : Int32) S
theorem dX8_standsAt_0 : decode cX8_standsAt 0 = .ok (.iconst 0, 1) := dc_3 (by decide +kernel)
theorem dX8_standsAt_1 : decode cX8_standsAt 1 = .ok (.istore_n 2, 1) := dc_61 (by decide +kernel)
theorem dX8_standsAt_2 : decode cX8_standsAt 2 = .ok (.iload_n 2, 1) := dc_28 (by decide +kernel)
theorem dX8_standsAt_3 : decode cX8_standsAt 3 = .ok (.aload_n 0, 1) := dc_42 (by decide +kernel)
theorem dX8_standsAt_4 : decode cX8_standsAt 4 = .ok (.getfield 17, 3) := dc_180 (a := 0) (b := 17) (by decide +kernel)
theorem dX8_standsAt_7 : decode cX8_standsAt 7 = .ok (.if_icmp .ge 21, 3) := dc_162 (a := 0) (b := 21) (by decide +kernel) (by decide)
theorem dX8_standsAt_10 : decode cX8_standsAt 10 = .ok (.aload_n 0, 1) := dc_42 (by decide +kernel)
theorem dX8_standsAt_11 : decode cX8_standsAt 11 = .ok (.iload_n 2, 1) := dc_28 (by decide +kernel)
theorem dX8_standsAt_12 : decode cX8_standsAt 12 = .ok (.iconst 0, 1) := dc_3 (by decide +kernel)
theorem dX8_standsAt_13 : decode cX8_standsAt 13 = .ok (.invokevirtual 31, 3) := dc_182 (a := 0) (b := 31) (by decide +kernel)
theorem dX8_standsAt_16 : decode cX8_standsAt 16 = .ok (.iload_n 1, 1) := dc_27 (by decide +kernel)
theorem dX8_standsAt_17 : decode cX8_standsAt 17 = .ok (.if_icmp .ne 5, 3) := dc_160 (a := 0) (b := 5) (by decide +kernel) (by decide)
theorem dX8_standsAt_20 : decode cX8_standsAt 20 = .ok (.iload_n 2, 1) := dc_28 (by decide +kernel)
theorem dX8_standsAt_21 : decode cX8_standsAt 21 = .ok (.ireturn, 1) := dc_172 (by decide +kernel)
theorem dX8_standsAt_22 : decode cX8_standsAt 22 = .ok (.iinc 2 1, 3) := dc_132 (a := 2) (b := 1) (by decide +kernel) (by decide)
theorem dX8_standsAt_25 : decode cX8_standsAt 25 = .ok (.goto (-23), 3) := dc_167 (a := 255) (b := 233) (by decide +kernel) (by decide)
theorem dX8_standsAt_28 : decode cX8_standsAt 28 = .ok (.bipush (-4), 2) := dc_16 (a := 252) (by decide +kernel) (by decide)
theorem dX8_standsAt_30 : decode cX8_standsAt 30 = .ok (.ireturn, 1) := dc_172 (by decide +kernel)
set_option maxRecDepth 100000 in
set_option maxHeartbeats 4000000 in
theorem w_State_standsAt_L2 {p : Program} {l : Launch} {e : Env} {R : Room} {s : State} {m : MethodId} {args : Array Value} {below : List Frame} {meth : Method} {c : Code} {dC : Nat → ClassId} {dI : Nat → Nat → Nat} {cs : Nat → ClassId} {ad : Nat → Nat} {A : Nat → Prop} {D0 : Nat → Nat} {S' : SS} {r : Int32} (F : Fx p s m args meth c cX8_standsAt 3 RX8 (some .int) dC dI cs A) (hR1 : 1 ≤ R.frames) (hR2 : 22 ≤ R.locals) : ∀ (n : Nat) (x1 : Int32) (x2 : Int32) (S : SS), f_State_standsAt_L2 n x1 x2 S = some (r, S') → AW p l e R s m args below meth c dC dI cs ad A D0 (some (.int r)) S' 3 2 [(0, .ref (ad 63)), (1, .int x1), (2, .int x2)] [] S := by
  have hx := F.1.1
  have hb := F.1.2.1
  intro n
  induction n with
  | zero => intro x1 x2 S h; cases h
  | succ n ih =>
    intro x1 x2 S h H locs ls w hl
    rw [f_State_standsAt_L2] at h
    refine lv_iload_n (pc := 2) hx hb dX8_standsAt_2 rfl (lv_at hl 2 rfl) ?_
    refine lv_aload_n (pc := 3) hx hb dX8_standsAt_3 rfl (lv_at hl 0 rfl) ?_
    refine s_getI (pc := 4) F w ds_63 (j := 1) vc_X8 vi_X8 rfl (by decide) kf_X8_17 dX8_standsAt_4 ?_
    refine lv_icmp_ge (pc := 7) (tgt := 28) hx hb dX8_standsAt_7 (by decide) (fun q => ?_) (fun q => ?_)
    · have h := ite_t q h
      refine lv_bipush (pc := 28) (v := -4) hx hb dX8_standsAt_28 (by decide) ?_
      exact s_iret F w h dX8_standsAt_30
    · have h := ite_f q h
      refine lv_aload_n (pc := 10) hx hb dX8_standsAt_10 rfl (lv_at hl 0 rfl) ?_
      refine lv_iload_n (pc := 11) hx hb dX8_standsAt_11 rfl (lv_at hl 2 rfl) ?_
      refine lv_iconst (pc := 12) (v := 0) hx hb dX8_standsAt_12 (by decide) ?_
      obtain ⟨r2, S1, hc, h⟩ := bnd_t h
      refine s_cvi (pc := 13) [.int x2, .int (0 : Int32)] (fun ad => [.ref (ad 63), .int x2, .int (0 : Int32)]) F w (m_State_get _ _ _ _ _ hc) rfl rfl hl.1 ds_63 vc_X8 rfl ok_X8_get rfl kc_X8_get kl_X8_31 ki_X8_get kv_X8_get kn_X8 ⟨Nat.le_trans (by decide) hR1, Nat.le_trans (by decide) hR2⟩ ⟨Nat.zero_le _, Nat.zero_le _⟩ (Nat.le_of_ble_eq_true rfl) dX8_standsAt_13 (fun H locs w => ?_)
      refine lv_iload_n (pc := 16) hx hb dX8_standsAt_16 rfl (lv_at hl 1 rfl) ?_
      refine lv_icmp_ne (pc := 17) (tgt := 22) hx hb dX8_standsAt_17 (by decide) (fun q => ?_) (fun q => ?_)
      · have h := ite_f q h
        refine s_nm h (fun z3 ez3 h => ?_)
        refine lv_iinc (pc := 22) (v := z3) (lv' := [(2, .int z3), (0, .ref (ad 63)), (1, .int x1)]) hx hb dX8_standsAt_22 hl (k := 2) rfl (by rw [ez3]; rfl) (by decide) rfl (fun ls hl => ?_)
        refine lv_goto (pc := 25) (tgt := 2) hx hb dX8_standsAt_25 (by decide) ?_
        exact ih _ _ _ h _ _ _ w (lv_sub hl [1, 2, 0] rfl)
      · have h := ite_t q h
        refine lv_iload_n (pc := 20) hx hb dX8_standsAt_20 rfl (lv_at hl 2 rfl) ?_
        exact s_iret F w h dX8_standsAt_21
set_option maxRecDepth 100000 in
set_option maxHeartbeats 4000000 in
theorem m_State_standsAt (a1 : Int32) (S S' : SS) (r : Int32) (h : f_State_standsAt a1 S = some (r, S')) : MT yX8_standsAt cX8_standsAt 3 (some .int) 1 22 (fun ad => [.ref (ad 63), .int a1]) S (some (.int r)) S' := by
  refine MT.of RX8 (fun ad => [(0, .ref (ad 63)), (1, .int a1)]) (by decide) rfl (fun _ => Nat.le_of_ble_eq_true rfl) (fun _ => rfl) ?_
  intro p l e R s m args below meth c dC dI cs ad A hR1 hR2 F H locs ls w hl
  have hx := F.1.1
  have hb := F.1.2.1
  rw [f_State_standsAt] at h
  refine lv_iconst (pc := 0) (v := 0) hx hb dX8_standsAt_0 (by decide) ?_
  refine lv_istore_n (pc := 1) (lv' := [(2, .int (0 : Int32)), (0, .ref (ad 63)), (1, .int a1)]) hx hb dX8_standsAt_1 rfl hl (by decide) rfl (fun ls hl => ?_)
  exact w_State_standsAt_L2 F (Nat.le_trans (by decide) hR1) (Nat.le_trans (by decide) hR2) _ _ _ _ h _ _ _ w (lv_sub hl [1, 2, 0] rfl)
def f_Yard_standNew_j59  (x1 : Int32) (x2 : Int32) (x3 : Int32) (x4 : Int32) (x5 : Int32) (x6 : Int32) (S : SS) : Option (Int32 × SS) :=
    if x6 = 0 then
      bndv (f_History_forget  S) (fun S4 =>
      bnd (f_Layout_spot x1 x2 S4) (fun r6 S5 =>
      bnd (f_Trains_nextSerial  S5) (fun r8 S7 =>
      bnd (f_State_addThing r6 r8 S7) (fun r10 S9 =>
      bndv (f_Stock_describe r10 x3 x4 x5 S9) (fun S11 =>
      some (r10, S11))))))
    else
      bnd (f_Report_found x6 S) (fun r13 S12 =>
      some (r13, S12))
def f_Yard_standNew (a1 : Int32) (a2 : Int32) (a3 : Int32) (a4 : Int32) (a5 : Int32) (S : SS) : Option (Int32 × SS) :=
  if (S.1 63 1) < (72 : Int32) then
    bndv (f_Report_begin  S) (fun S1 =>
    bnd (f_Layout_placeFinding a1 a2 S1) (fun r3 S2 =>
    if r3 = 0 then
      bnd (f_Layout_spot a1 a2 S2) (fun r15 S14 =>
      bnd (f_State_standsAt r15 S14) (fun r17 S16 =>
      if r17 = (-4 : Int32) then
        f_Yard_standNew_j59 a1 a2 a3 a4 a5 r3 S16
      else
        f_Yard_standNew_j59 a1 a2 a3 a4 a5 (9 : Int32) S16))
    else
      f_Yard_standNew_j59 a1 a2 a3 a4 a5 r3 S2))
  else
    some ((-3 : Int32), S)
theorem dX11_standNew_0 : decode cX11_standNew 0 = .ok (.aload_n 0, 1) := dc_42 (by decide +kernel)
theorem dX11_standNew_1 : decode cX11_standNew 1 = .ok (.getfield 19, 3) := dc_180 (a := 0) (b := 19) (by decide +kernel)
theorem dX11_standNew_4 : decode cX11_standNew 4 = .ok (.getfield 140, 3) := dc_180 (a := 0) (b := 140) (by decide +kernel)
theorem dX11_standNew_7 : decode cX11_standNew 7 = .ok (.bipush 72, 2) := dc_16 (a := 72) (by decide +kernel) (by decide)
theorem dX11_standNew_9 : decode cX11_standNew 9 = .ok (.if_icmp .lt 6, 3) := dc_161 (a := 0) (b := 6) (by decide +kernel) (by decide)
theorem dX11_standNew_12 : decode cX11_standNew 12 = .ok (.bipush (-3), 2) := dc_16 (a := 253) (by decide +kernel) (by decide)
theorem dX11_standNew_14 : decode cX11_standNew 14 = .ok (.ireturn, 1) := dc_172 (by decide +kernel)
theorem dX11_standNew_15 : decode cX11_standNew 15 = .ok (.aload_n 0, 1) := dc_42 (by decide +kernel)
theorem dX11_standNew_16 : decode cX11_standNew 16 = .ok (.getfield 10, 3) := dc_180 (a := 0) (b := 10) (by decide +kernel)
theorem dX11_standNew_19 : decode cX11_standNew 19 = .ok (.invokevirtual 95, 3) := dc_182 (a := 0) (b := 95) (by decide +kernel)
theorem dX11_standNew_22 : decode cX11_standNew 22 = .ok (.aload_n 0, 1) := dc_42 (by decide +kernel)
theorem dX11_standNew_23 : decode cX11_standNew 23 = .ok (.getfield 42, 3) := dc_180 (a := 0) (b := 42) (by decide +kernel)
theorem dX11_standNew_26 : decode cX11_standNew 26 = .ok (.iload_n 1, 1) := dc_27 (by decide +kernel)
theorem dX11_standNew_27 : decode cX11_standNew 27 = .ok (.iload_n 2, 1) := dc_28 (by decide +kernel)
theorem dX11_standNew_28 : decode cX11_standNew 28 = .ok (.invokevirtual 143, 3) := dc_182 (a := 0) (b := 143) (by decide +kernel)
theorem dX11_standNew_31 : decode cX11_standNew 31 = .ok (.istore 6, 2) := dc_54 (a := 6) (by decide +kernel)
theorem dX11_standNew_33 : decode cX11_standNew 33 = .ok (.iload 6, 2) := dc_21 (a := 6) (by decide +kernel)
theorem dX11_standNew_35 : decode cX11_standNew 35 = .ok (.ifCond .ne 24, 3) := dc_154 (a := 0) (b := 24) (by decide +kernel) (by decide)
theorem dX11_standNew_38 : decode cX11_standNew 38 = .ok (.aload_n 0, 1) := dc_42 (by decide +kernel)
theorem dX11_standNew_39 : decode cX11_standNew 39 = .ok (.getfield 19, 3) := dc_180 (a := 0) (b := 19) (by decide +kernel)
theorem dX11_standNew_42 : decode cX11_standNew 42 = .ok (.iload_n 1, 1) := dc_27 (by decide +kernel)
theorem dX11_standNew_43 : decode cX11_standNew 43 = .ok (.iload_n 2, 1) := dc_28 (by decide +kernel)
theorem dX11_standNew_44 : decode cX11_standNew 44 = .ok (.invokestatic 147, 3) := dc_184 (a := 0) (b := 147) (by decide +kernel)
theorem dX11_standNew_47 : decode cX11_standNew 47 = .ok (.invokevirtual 150, 3) := dc_182 (a := 0) (b := 150) (by decide +kernel)
theorem dX11_standNew_50 : decode cX11_standNew 50 = .ok (.bipush (-4), 2) := dc_16 (a := 252) (by decide +kernel) (by decide)
theorem dX11_standNew_52 : decode cX11_standNew 52 = .ok (.if_icmp .eq 7, 3) := dc_159 (a := 0) (b := 7) (by decide +kernel) (by decide)
theorem dX11_standNew_55 : decode cX11_standNew 55 = .ok (.bipush 9, 2) := dc_16 (a := 9) (by decide +kernel) (by decide)
theorem dX11_standNew_57 : decode cX11_standNew 57 = .ok (.istore 6, 2) := dc_54 (a := 6) (by decide +kernel)
theorem dX11_standNew_59 : decode cX11_standNew 59 = .ok (.iload 6, 2) := dc_21 (a := 6) (by decide +kernel)
theorem dX11_standNew_61 : decode cX11_standNew 61 = .ok (.ifCond .eq 13, 3) := dc_153 (a := 0) (b := 13) (by decide +kernel) (by decide)
theorem dX11_standNew_64 : decode cX11_standNew 64 = .ok (.aload_n 0, 1) := dc_42 (by decide +kernel)
theorem dX11_standNew_65 : decode cX11_standNew 65 = .ok (.getfield 10, 3) := dc_180 (a := 0) (b := 10) (by decide +kernel)
theorem dX11_standNew_68 : decode cX11_standNew 68 = .ok (.iload 6, 2) := dc_21 (a := 6) (by decide +kernel)
theorem dX11_standNew_70 : decode cX11_standNew 70 = .ok (.invokevirtual 98, 3) := dc_182 (a := 0) (b := 98) (by decide +kernel)
theorem dX11_standNew_73 : decode cX11_standNew 73 = .ok (.ireturn, 1) := dc_172 (by decide +kernel)
theorem dX11_standNew_74 : decode cX11_standNew 74 = .ok (.aload_n 0, 1) := dc_42 (by decide +kernel)
theorem dX11_standNew_75 : decode cX11_standNew 75 = .ok (.getfield 26, 3) := dc_180 (a := 0) (b := 26) (by decide +kernel)
theorem dX11_standNew_78 : decode cX11_standNew 78 = .ok (.invokevirtual 102, 3) := dc_182 (a := 0) (b := 102) (by decide +kernel)
theorem dX11_standNew_81 : decode cX11_standNew 81 = .ok (.aload_n 0, 1) := dc_42 (by decide +kernel)
theorem dX11_standNew_82 : decode cX11_standNew 82 = .ok (.getfield 19, 3) := dc_180 (a := 0) (b := 19) (by decide +kernel)
theorem dX11_standNew_85 : decode cX11_standNew 85 = .ok (.iload_n 1, 1) := dc_27 (by decide +kernel)
theorem dX11_standNew_86 : decode cX11_standNew 86 = .ok (.iload_n 2, 1) := dc_28 (by decide +kernel)
theorem dX11_standNew_87 : decode cX11_standNew 87 = .ok (.invokestatic 147, 3) := dc_184 (a := 0) (b := 147) (by decide +kernel)
theorem dX11_standNew_90 : decode cX11_standNew 90 = .ok (.aload_n 0, 1) := dc_42 (by decide +kernel)
theorem dX11_standNew_91 : decode cX11_standNew 91 = .ok (.getfield 58, 3) := dc_180 (a := 0) (b := 58) (by decide +kernel)
theorem dX11_standNew_94 : decode cX11_standNew 94 = .ok (.invokevirtual 153, 3) := dc_182 (a := 0) (b := 153) (by decide +kernel)
theorem dX11_standNew_97 : decode cX11_standNew 97 = .ok (.invokevirtual 157, 3) := dc_182 (a := 0) (b := 157) (by decide +kernel)
theorem dX11_standNew_100 : decode cX11_standNew 100 = .ok (.istore 7, 2) := dc_54 (a := 7) (by decide +kernel)
theorem dX11_standNew_102 : decode cX11_standNew 102 = .ok (.aload_n 0, 1) := dc_42 (by decide +kernel)
theorem dX11_standNew_103 : decode cX11_standNew 103 = .ok (.getfield 33, 3) := dc_180 (a := 0) (b := 33) (by decide +kernel)
theorem dX11_standNew_106 : decode cX11_standNew 106 = .ok (.iload 7, 2) := dc_21 (a := 7) (by decide +kernel)
theorem dX11_standNew_108 : decode cX11_standNew 108 = .ok (.iload_n 3, 1) := dc_29 (by decide +kernel)
theorem dX11_standNew_109 : decode cX11_standNew 109 = .ok (.iload 4, 2) := dc_21 (a := 4) (by decide +kernel)
theorem dX11_standNew_111 : decode cX11_standNew 111 = .ok (.iload 5, 2) := dc_21 (a := 5) (by decide +kernel)
theorem dX11_standNew_113 : decode cX11_standNew 113 = .ok (.invokevirtual 160, 3) := dc_182 (a := 0) (b := 160) (by decide +kernel)
theorem dX11_standNew_116 : decode cX11_standNew 116 = .ok (.iload 7, 2) := dc_21 (a := 7) (by decide +kernel)
theorem dX11_standNew_118 : decode cX11_standNew 118 = .ok (.ireturn, 1) := dc_172 (by decide +kernel)
set_option maxRecDepth 100000 in
set_option maxHeartbeats 4000000 in
theorem w_Yard_standNew_j59 {p : Program} {l : Launch} {e : Env} {R : Room} {s : State} {m : MethodId} {args : Array Value} {below : List Frame} {meth : Method} {c : Code} {dC : Nat → ClassId} {dI : Nat → Nat → Nat} {cs : Nat → ClassId} {ad : Nat → Nat} {A : Nat → Prop} {D0 : Nat → Nat} {S' : SS} {r : Int32} (F : Fx p s m args meth c cX11_standNew 8 RX11 (some .int) dC dI cs A) (hR1 : 3 ≤ R.frames) (hR2 : 69 ≤ R.locals) (x1 : Int32) (x2 : Int32) (x3 : Int32) (x4 : Int32) (x5 : Int32) (x6 : Int32) (S : SS) (h : f_Yard_standNew_j59 x1 x2 x3 x4 x5 x6 S = some (r, S')) : AW p l e R s m args below meth c dC dI cs ad A D0 (some (.int r)) S' 8 59 [(0, .ref (ad 61)), (1, .int x1), (2, .int x2), (3, .int x3), (4, .int x4), (5, .int x5), (6, .int x6)] [] S := by
  have hx := F.1.1
  have hb := F.1.2.1
  intro H locs ls w hl
  rw [f_Yard_standNew_j59] at h
  refine lv_iload (pc := 59) hx hb dX11_standNew_59 (lv_at hl 6 rfl) ?_
  refine lv_if_eq (pc := 61) (tgt := 74) hx hb dX11_standNew_61 (by decide) (fun q => ?_) (fun q => ?_)
  · have h := ite_t q h
    refine lv_aload_n (pc := 74) hx hb dX11_standNew_74 rfl (lv_at hl 0 rfl) ?_
    refine s_getR (pc := 75) F w 64 ds_61 (j := 2) vc_X11 vi_X11 rfl (by decide) kf_X11_26 dX11_standNew_75 ?_
    obtain ⟨S4, hc, h⟩ := bndv_t h
    refine s_cvv (pc := 78) [] (fun ad => [.ref (ad 64)]) F w (m_History_forget  _ _ hc) rfl rfl hl.1 ds_64 vc_X1 rfl ok_X1_forget rfl kc_X1_forget kl_X11_102 ki_X1_forget kv_X1_forget kn_X1 ⟨Nat.le_trans (by decide) hR1, Nat.le_trans (by decide) hR2⟩ ⟨Nat.zero_le _, Nat.zero_le _⟩ (Nat.le_of_ble_eq_true rfl) dX11_standNew_78 (fun H locs w => ?_)
    refine lv_aload_n (pc := 81) hx hb dX11_standNew_81 rfl (lv_at hl 0 rfl) ?_
    refine s_getR (pc := 82) F w 63 ds_61 (j := 1) vc_X11 vi_X11 rfl (by decide) kf_X11_19 dX11_standNew_82 ?_
    refine lv_iload_n (pc := 85) hx hb dX11_standNew_85 rfl (lv_at hl 1 rfl) ?_
    refine lv_iload_n (pc := 86) hx hb dX11_standNew_86 rfl (lv_at hl 2 rfl) ?_
    obtain ⟨r6, S5, hc, h⟩ := bnd_t h
    refine s_csi (pc := 87) [.int x1, .int x2] (fun ad => [.int x1, .int x2]) F w (m_Layout_spot _ _ _ _ _ hc) rfl rfl hl.1 ok_X2_spot rfl kc_X2_spot kl_X11_147 ks_X2_spot kn_X2 ⟨Nat.le_trans (by decide) hR1, Nat.le_trans (by decide) hR2⟩ ⟨Nat.zero_le _, Nat.zero_le _⟩ (Nat.le_of_ble_eq_true rfl) dX11_standNew_87 (fun H locs w => ?_)
    refine lv_aload_n (pc := 90) hx hb dX11_standNew_90 rfl (lv_at hl 0 rfl) ?_
    refine s_getR (pc := 91) F w 68 ds_61 (j := 6) vc_X11 vi_X11 rfl (by decide) kf_X11_58 dX11_standNew_91 ?_
    obtain ⟨r8, S7, hc, h⟩ := bnd_t h
    refine s_cvi (pc := 94) [] (fun ad => [.ref (ad 68)]) F w (m_Trains_nextSerial  _ _ _ hc) rfl rfl hl.1 ds_68 vc_X10 rfl ok_X10_nextSerial rfl kc_X10_nextSerial kl_X11_153 ki_X10_nextSerial kv_X10_nextSerial kn_X10 ⟨Nat.le_trans (by decide) hR1, Nat.le_trans (by decide) hR2⟩ ⟨Nat.zero_le _, Nat.zero_le _⟩ (Nat.le_of_ble_eq_true rfl) dX11_standNew_94 (fun H locs w => ?_)
    obtain ⟨r10, S9, hc, h⟩ := bnd_t h
    refine s_cvi (pc := 97) [.int r6, .int r8] (fun ad => [.ref (ad 63), .int r6, .int r8]) F w (m_State_addThing _ _ _ _ _ hc) rfl rfl hl.1 ds_63 vc_X8 rfl ok_X8_addThing rfl kc_X8_addThing kl_X11_157 ki_X8_addThing kv_X8_addThing kn_X8 ⟨Nat.le_trans (by decide) hR1, Nat.le_trans (by decide) hR2⟩ ⟨Nat.zero_le _, Nat.zero_le _⟩ (Nat.le_of_ble_eq_true rfl) dX11_standNew_97 (fun H locs w => ?_)
    refine lv_istore (pc := 100) (lv' := [(7, .int r10), (0, .ref (ad 61)), (1, .int x1), (2, .int x2), (3, .int x3), (4, .int x4), (5, .int x5), (6, .int x6)]) hx hb dX11_standNew_100 hl (by decide) rfl (fun ls hl => ?_)
    refine lv_aload_n (pc := 102) hx hb dX11_standNew_102 rfl (lv_at hl 1 rfl) ?_
    refine s_getR (pc := 103) F w 65 ds_61 (j := 3) vc_X11 vi_X11 rfl (by decide) kf_X11_33 dX11_standNew_103 ?_
    refine lv_iload (pc := 106) hx hb dX11_standNew_106 (lv_at hl 0 rfl) ?_
    refine lv_iload_n (pc := 108) hx hb dX11_standNew_108 rfl (lv_at hl 4 rfl) ?_
    refine lv_iload (pc := 109) hx hb dX11_standNew_109 (lv_at hl 5 rfl) ?_
    refine lv_iload (pc := 111) hx hb dX11_standNew_111 (lv_at hl 6 rfl) ?_
    obtain ⟨S11, hc, h⟩ := bndv_t h
    refine s_cvv (pc := 113) [.int r10, .int x3, .int x4, .int x5] (fun ad => [.ref (ad 65), .int r10, .int x3, .int x4, .int x5]) F w (m_Stock_describe _ _ _ _ _ _ hc) rfl rfl hl.1 ds_65 vc_X9 rfl ok_X9_describe rfl kc_X9_describe kl_X11_160 ki_X9_describe kv_X9_describe kn_X9 ⟨Nat.le_trans (by decide) hR1, Nat.le_trans (by decide) hR2⟩ ⟨Nat.zero_le _, Nat.zero_le _⟩ (Nat.le_of_ble_eq_true rfl) dX11_standNew_113 (fun H locs w => ?_)
    refine lv_iload (pc := 116) hx hb dX11_standNew_116 (lv_at hl 0 rfl) ?_
    exact s_iret F w h dX11_standNew_118
  · have h := ite_f q h
    refine lv_aload_n (pc := 64) hx hb dX11_standNew_64 rfl (lv_at hl 0 rfl) ?_
    refine s_getR (pc := 65) F w 62 ds_61 (j := 0) vc_X11 vi_X11 rfl (by decide) kf_X11_10 dX11_standNew_65 ?_
    refine lv_iload (pc := 68) hx hb dX11_standNew_68 (lv_at hl 6 rfl) ?_
    obtain ⟨r13, S12, hc, h⟩ := bnd_t h
    refine s_cvi (pc := 70) [.int x6] (fun ad => [.ref (ad 62), .int x6]) F w (m_Report_found _ _ _ _ hc) rfl rfl hl.1 ds_62 vc_X5 rfl ok_X5_found rfl kc_X5_found kl_X11_98 ki_X5_found kv_X5_found kn_X5 ⟨Nat.le_trans (by decide) hR1, Nat.le_trans (by decide) hR2⟩ ⟨Nat.zero_le _, Nat.zero_le _⟩ (Nat.le_of_ble_eq_true rfl) dX11_standNew_70 (fun H locs w => ?_)
    exact s_iret F w h dX11_standNew_73
set_option maxRecDepth 100000 in
set_option maxHeartbeats 4000000 in
theorem m_Yard_standNew (a1 : Int32) (a2 : Int32) (a3 : Int32) (a4 : Int32) (a5 : Int32) (S S' : SS) (r : Int32) (h : f_Yard_standNew a1 a2 a3 a4 a5 S = some (r, S')) : MT yX11_standNew cX11_standNew 8 (some .int) 3 69 (fun ad => [.ref (ad 61), .int a1, .int a2, .int a3, .int a4, .int a5]) S (some (.int r)) S' := by
  refine MT.of RX11 (fun ad => [(0, .ref (ad 61)), (1, .int a1), (2, .int a2), (3, .int a3), (4, .int a4), (5, .int a5)]) (by decide) rfl (fun _ => Nat.le_of_ble_eq_true rfl) (fun _ => rfl) ?_
  intro p l e R s m args below meth c dC dI cs ad A hR1 hR2 F H locs ls w hl
  have hx := F.1.1
  have hb := F.1.2.1
  rw [f_Yard_standNew] at h
  refine lv_aload_n (pc := 0) hx hb dX11_standNew_0 rfl (lv_at hl 0 rfl) ?_
  refine s_getR (pc := 1) F w 63 ds_61 (j := 1) vc_X11 vi_X11 rfl (by decide) kf_X11_19 dX11_standNew_1 ?_
  refine s_getI (pc := 4) F w ds_63 (j := 1) vc_X8 vi_X8 rfl (by decide) kf_X11_140 dX11_standNew_4 ?_
  refine lv_bipush (pc := 7) (v := 72) hx hb dX11_standNew_7 (by decide) ?_
  refine lv_icmp_lt (pc := 9) (tgt := 15) hx hb dX11_standNew_9 (by decide) (fun q => ?_) (fun q => ?_)
  · have h := ite_t q h
    refine lv_aload_n (pc := 15) hx hb dX11_standNew_15 rfl (lv_at hl 0 rfl) ?_
    refine s_getR (pc := 16) F w 62 ds_61 (j := 0) vc_X11 vi_X11 rfl (by decide) kf_X11_10 dX11_standNew_16 ?_
    obtain ⟨S1, hc, h⟩ := bndv_t h
    refine s_cvv (pc := 19) [] (fun ad => [.ref (ad 62)]) F w (m_Report_begin  _ _ hc) rfl rfl hl.1 ds_62 vc_X5 rfl ok_X5_begin rfl kc_X5_begin kl_X11_95 ki_X5_begin kv_X5_begin kn_X5 ⟨Nat.le_trans (by decide) hR1, Nat.le_trans (by decide) hR2⟩ ⟨Nat.zero_le _, Nat.zero_le _⟩ (Nat.le_of_ble_eq_true rfl) dX11_standNew_19 (fun H locs w => ?_)
    refine lv_aload_n (pc := 22) hx hb dX11_standNew_22 rfl (lv_at hl 0 rfl) ?_
    refine s_getR (pc := 23) F w 66 ds_61 (j := 4) vc_X11 vi_X11 rfl (by decide) kf_X11_42 dX11_standNew_23 ?_
    refine lv_iload_n (pc := 26) hx hb dX11_standNew_26 rfl (lv_at hl 1 rfl) ?_
    refine lv_iload_n (pc := 27) hx hb dX11_standNew_27 rfl (lv_at hl 2 rfl) ?_
    obtain ⟨r3, S2, hc, h⟩ := bnd_t h
    refine s_cvi (pc := 28) [.int a1, .int a2] (fun ad => [.ref (ad 66), .int a1, .int a2]) F w (m_Layout_placeFinding _ _ _ _ _ hc) rfl rfl hl.1 ds_66 vc_X2 rfl ok_X2_placeFinding rfl kc_X2_placeFinding kl_X11_143 ki_X2_placeFinding kv_X2_placeFinding kn_X2 ⟨Nat.le_trans (by decide) hR1, Nat.le_trans (by decide) hR2⟩ ⟨Nat.zero_le _, Nat.zero_le _⟩ (Nat.le_of_ble_eq_true rfl) dX11_standNew_28 (fun H locs w => ?_)
    refine lv_istore (pc := 31) (lv' := [(6, .int r3), (0, .ref (ad 61)), (1, .int a1), (2, .int a2), (3, .int a3), (4, .int a4), (5, .int a5)]) hx hb dX11_standNew_31 hl (by decide) rfl (fun ls hl => ?_)
    refine lv_iload (pc := 33) hx hb dX11_standNew_33 (lv_at hl 0 rfl) ?_
    refine lv_if_ne (pc := 35) (tgt := 59) hx hb dX11_standNew_35 (by decide) (fun q => ?_) (fun q => ?_)
    · have h := ite_f q h
      exact w_Yard_standNew_j59 F (Nat.le_trans (by decide) hR1) (Nat.le_trans (by decide) hR2) _ _ _ _ _ _ _ h _ _ _ w (lv_sub hl [1, 2, 3, 4, 5, 6, 0] rfl)
    · have h := ite_t q h
      refine lv_aload_n (pc := 38) hx hb dX11_standNew_38 rfl (lv_at hl 1 rfl) ?_
      refine s_getR (pc := 39) F w 63 ds_61 (j := 1) vc_X11 vi_X11 rfl (by decide) kf_X11_19 dX11_standNew_39 ?_
      refine lv_iload_n (pc := 42) hx hb dX11_standNew_42 rfl (lv_at hl 2 rfl) ?_
      refine lv_iload_n (pc := 43) hx hb dX11_standNew_43 rfl (lv_at hl 3 rfl) ?_
      obtain ⟨r15, S14, hc, h⟩ := bnd_t h
      refine s_csi (pc := 44) [.int a1, .int a2] (fun ad => [.int a1, .int a2]) F w (m_Layout_spot _ _ _ _ _ hc) rfl rfl hl.1 ok_X2_spot rfl kc_X2_spot kl_X11_147 ks_X2_spot kn_X2 ⟨Nat.le_trans (by decide) hR1, Nat.le_trans (by decide) hR2⟩ ⟨Nat.zero_le _, Nat.zero_le _⟩ (Nat.le_of_ble_eq_true rfl) dX11_standNew_44 (fun H locs w => ?_)
      obtain ⟨r17, S16, hc, h⟩ := bnd_t h
      refine s_cvi (pc := 47) [.int r15] (fun ad => [.ref (ad 63), .int r15]) F w (m_State_standsAt _ _ _ _ hc) rfl rfl hl.1 ds_63 vc_X8 rfl ok_X8_standsAt rfl kc_X8_standsAt kl_X11_150 ki_X8_standsAt kv_X8_standsAt kn_X8 ⟨Nat.le_trans (by decide) hR1, Nat.le_trans (by decide) hR2⟩ ⟨Nat.zero_le _, Nat.zero_le _⟩ (Nat.le_of_ble_eq_true rfl) dX11_standNew_47 (fun H locs w => ?_)
      refine lv_bipush (pc := 50) (v := -4) hx hb dX11_standNew_50 (by decide) ?_
      refine lv_icmp_eq (pc := 52) (tgt := 59) hx hb dX11_standNew_52 (by decide) (fun q => ?_) (fun q => ?_)
      · have h := ite_t q h
        exact w_Yard_standNew_j59 F (Nat.le_trans (by decide) hR1) (Nat.le_trans (by decide) hR2) _ _ _ _ _ _ _ h _ _ _ w (lv_sub hl [1, 2, 3, 4, 5, 6, 0] rfl)
      · have h := ite_f q h
        refine lv_bipush (pc := 55) (v := 9) hx hb dX11_standNew_55 (by decide) ?_
        refine lv_istore (pc := 57) (lv' := [(6, .int (9 : Int32)), (0, .ref (ad 61)), (1, .int a1), (2, .int a2), (3, .int a3), (4, .int a4), (5, .int a5)]) hx hb dX11_standNew_57 hl (by decide) rfl (fun ls hl => ?_)
        exact w_Yard_standNew_j59 F (Nat.le_trans (by decide) hR1) (Nat.le_trans (by decide) hR2) _ _ _ _ _ _ _ h _ _ _ w (lv_sub hl [1, 2, 3, 4, 5, 6, 0] rfl)
  · have h := ite_f q h
    refine lv_bipush (pc := 12) (v := -3) hx hb dX11_standNew_12 (by decide) ?_
    exact s_iret F w h dX11_standNew_14
def f_Yard_wagon (a1 : Int32) (a2 : Int32) (a3 : Int32) (a4 : Int32) (a5 : Int32) (S : SS) : Option (Int32 × SS) :=
  bnd (f_Yard_isNot a1 (0 : Int32) (4 : Int32) S) (fun r2 S1 =>
  if r2 = 0 then
    bnd (f_Yard_isNot a4 (0 : Int32) (8 : Int32) S1) (fun r4 S3 =>
    if r4 = 0 then
      bnd (f_Yard_isNot a5 (1 : Int32) (100 : Int32) S3) (fun r6 S5 =>
      if r6 = 0 then
        bnd (f_Yard_standNew a2 a3 a1 a4 a5 S5) (fun r8 S7 =>
        some (r8, S7))
      else
        some ((-1 : Int32), S5))
    else
      some ((-1 : Int32), S3))
  else
    some ((-1 : Int32), S1))
theorem dX11_wagon_0 : decode cX11_wagon 0 = .ok (.iload_n 1, 1) := dc_27 (by decide +kernel)
theorem dX11_wagon_1 : decode cX11_wagon 1 = .ok (.iconst 0, 1) := dc_3 (by decide +kernel)
theorem dX11_wagon_2 : decode cX11_wagon 2 = .ok (.iconst 4, 1) := dc_7 (by decide +kernel)
theorem dX11_wagon_3 : decode cX11_wagon 3 = .ok (.invokestatic 108, 3) := dc_184 (a := 0) (b := 108) (by decide +kernel)
theorem dX11_wagon_6 : decode cX11_wagon 6 = .ok (.ifCond .ne 25, 3) := dc_154 (a := 0) (b := 25) (by decide +kernel) (by decide)
theorem dX11_wagon_9 : decode cX11_wagon 9 = .ok (.iload 4, 2) := dc_21 (a := 4) (by decide +kernel)
theorem dX11_wagon_11 : decode cX11_wagon 11 = .ok (.iconst 0, 1) := dc_3 (by decide +kernel)
theorem dX11_wagon_12 : decode cX11_wagon 12 = .ok (.bipush 8, 2) := dc_16 (a := 8) (by decide +kernel) (by decide)
theorem dX11_wagon_14 : decode cX11_wagon 14 = .ok (.invokestatic 108, 3) := dc_184 (a := 0) (b := 108) (by decide +kernel)
theorem dX11_wagon_17 : decode cX11_wagon 17 = .ok (.ifCond .ne 14, 3) := dc_154 (a := 0) (b := 14) (by decide +kernel) (by decide)
theorem dX11_wagon_20 : decode cX11_wagon 20 = .ok (.iload 5, 2) := dc_21 (a := 5) (by decide +kernel)
theorem dX11_wagon_22 : decode cX11_wagon 22 = .ok (.iconst 1, 1) := dc_4 (by decide +kernel)
theorem dX11_wagon_23 : decode cX11_wagon 23 = .ok (.bipush 100, 2) := dc_16 (a := 100) (by decide +kernel) (by decide)
theorem dX11_wagon_25 : decode cX11_wagon 25 = .ok (.invokestatic 108, 3) := dc_184 (a := 0) (b := 108) (by decide +kernel)
theorem dX11_wagon_28 : decode cX11_wagon 28 = .ok (.ifCond .eq 5, 3) := dc_153 (a := 0) (b := 5) (by decide +kernel) (by decide)
theorem dX11_wagon_31 : decode cX11_wagon 31 = .ok (.iconst (-1), 1) := dc_2 (by decide +kernel)
theorem dX11_wagon_32 : decode cX11_wagon 32 = .ok (.ireturn, 1) := dc_172 (by decide +kernel)
theorem dX11_wagon_33 : decode cX11_wagon 33 = .ok (.aload_n 0, 1) := dc_42 (by decide +kernel)
theorem dX11_wagon_34 : decode cX11_wagon 34 = .ok (.iload_n 2, 1) := dc_28 (by decide +kernel)
theorem dX11_wagon_35 : decode cX11_wagon 35 = .ok (.iload_n 3, 1) := dc_29 (by decide +kernel)
theorem dX11_wagon_36 : decode cX11_wagon 36 = .ok (.iload_n 1, 1) := dc_27 (by decide +kernel)
theorem dX11_wagon_37 : decode cX11_wagon 37 = .ok (.iload 4, 2) := dc_21 (a := 4) (by decide +kernel)
theorem dX11_wagon_39 : decode cX11_wagon 39 = .ok (.iload 5, 2) := dc_21 (a := 5) (by decide +kernel)
theorem dX11_wagon_41 : decode cX11_wagon 41 = .ok (.invokevirtual 136, 3) := dc_182 (a := 0) (b := 136) (by decide +kernel)
theorem dX11_wagon_44 : decode cX11_wagon 44 = .ok (.ireturn, 1) := dc_172 (by decide +kernel)
set_option maxRecDepth 100000 in
set_option maxHeartbeats 4000000 in
theorem m_Yard_wagon (a1 : Int32) (a2 : Int32) (a3 : Int32) (a4 : Int32) (a5 : Int32) (S S' : SS) (r : Int32) (h : f_Yard_wagon a1 a2 a3 a4 a5 S = some (r, S')) : MT yX11_wagon cX11_wagon 6 (some .int) 4 96 (fun ad => [.ref (ad 61), .int a1, .int a2, .int a3, .int a4, .int a5]) S (some (.int r)) S' := by
  refine MT.of RX11 (fun ad => [(0, .ref (ad 61)), (1, .int a1), (2, .int a2), (3, .int a3), (4, .int a4), (5, .int a5)]) (by decide) rfl (fun _ => Nat.le_of_ble_eq_true rfl) (fun _ => rfl) ?_
  intro p l e R s m args below meth c dC dI cs ad A hR1 hR2 F H locs ls w hl
  have hx := F.1.1
  have hb := F.1.2.1
  rw [f_Yard_wagon] at h
  refine lv_iload_n (pc := 0) hx hb dX11_wagon_0 rfl (lv_at hl 1 rfl) ?_
  refine lv_iconst (pc := 1) (v := 0) hx hb dX11_wagon_1 (by decide) ?_
  refine lv_iconst (pc := 2) (v := 4) hx hb dX11_wagon_2 (by decide) ?_
  obtain ⟨r2, S1, hc, h⟩ := bnd_t h
  refine s_csi (pc := 3) [.int a1, .int (0 : Int32), .int (4 : Int32)] (fun ad => [.int a1, .int (0 : Int32), .int (4 : Int32)]) F w (m_Yard_isNot _ _ _ _ _ _ hc) rfl rfl hl.1 ok_X11_isNot rfl kc_X11_isNot kl_X11_108 ks_X11_isNot kn_X11 ⟨Nat.le_trans (by decide) hR1, Nat.le_trans (by decide) hR2⟩ ⟨Nat.zero_le _, Nat.zero_le _⟩ (Nat.le_of_ble_eq_true rfl) dX11_wagon_3 (fun H locs w => ?_)
  refine lv_if_ne (pc := 6) (tgt := 31) hx hb dX11_wagon_6 (by decide) (fun q => ?_) (fun q => ?_)
  · have h := ite_f q h
    refine lv_iconst (pc := 31) (v := -1) hx hb dX11_wagon_31 (by decide) ?_
    exact s_iret F w h dX11_wagon_32
  · have h := ite_t q h
    refine lv_iload (pc := 9) hx hb dX11_wagon_9 (lv_at hl 4 rfl) ?_
    refine lv_iconst (pc := 11) (v := 0) hx hb dX11_wagon_11 (by decide) ?_
    refine lv_bipush (pc := 12) (v := 8) hx hb dX11_wagon_12 (by decide) ?_
    obtain ⟨r4, S3, hc, h⟩ := bnd_t h
    refine s_csi (pc := 14) [.int a4, .int (0 : Int32), .int (8 : Int32)] (fun ad => [.int a4, .int (0 : Int32), .int (8 : Int32)]) F w (m_Yard_isNot _ _ _ _ _ _ hc) rfl rfl hl.1 ok_X11_isNot rfl kc_X11_isNot kl_X11_108 ks_X11_isNot kn_X11 ⟨Nat.le_trans (by decide) hR1, Nat.le_trans (by decide) hR2⟩ ⟨Nat.zero_le _, Nat.zero_le _⟩ (Nat.le_of_ble_eq_true rfl) dX11_wagon_14 (fun H locs w => ?_)
    refine lv_if_ne (pc := 17) (tgt := 31) hx hb dX11_wagon_17 (by decide) (fun q => ?_) (fun q => ?_)
    · have h := ite_f q h
      refine lv_iconst (pc := 31) (v := -1) hx hb dX11_wagon_31 (by decide) ?_
      exact s_iret F w h dX11_wagon_32
    · have h := ite_t q h
      refine lv_iload (pc := 20) hx hb dX11_wagon_20 (lv_at hl 5 rfl) ?_
      refine lv_iconst (pc := 22) (v := 1) hx hb dX11_wagon_22 (by decide) ?_
      refine lv_bipush (pc := 23) (v := 100) hx hb dX11_wagon_23 (by decide) ?_
      obtain ⟨r6, S5, hc, h⟩ := bnd_t h
      refine s_csi (pc := 25) [.int a5, .int (1 : Int32), .int (100 : Int32)] (fun ad => [.int a5, .int (1 : Int32), .int (100 : Int32)]) F w (m_Yard_isNot _ _ _ _ _ _ hc) rfl rfl hl.1 ok_X11_isNot rfl kc_X11_isNot kl_X11_108 ks_X11_isNot kn_X11 ⟨Nat.le_trans (by decide) hR1, Nat.le_trans (by decide) hR2⟩ ⟨Nat.zero_le _, Nat.zero_le _⟩ (Nat.le_of_ble_eq_true rfl) dX11_wagon_25 (fun H locs w => ?_)
      refine lv_if_eq (pc := 28) (tgt := 33) hx hb dX11_wagon_28 (by decide) (fun q => ?_) (fun q => ?_)
      · have h := ite_t q h
        refine lv_aload_n (pc := 33) hx hb dX11_wagon_33 rfl (lv_at hl 0 rfl) ?_
        refine lv_iload_n (pc := 34) hx hb dX11_wagon_34 rfl (lv_at hl 2 rfl) ?_
        refine lv_iload_n (pc := 35) hx hb dX11_wagon_35 rfl (lv_at hl 3 rfl) ?_
        refine lv_iload_n (pc := 36) hx hb dX11_wagon_36 rfl (lv_at hl 1 rfl) ?_
        refine lv_iload (pc := 37) hx hb dX11_wagon_37 (lv_at hl 4 rfl) ?_
        refine lv_iload (pc := 39) hx hb dX11_wagon_39 (lv_at hl 5 rfl) ?_
        obtain ⟨r8, S7, hc, h⟩ := bnd_t h
        refine s_cvi (pc := 41) [.int a2, .int a3, .int a1, .int a4, .int a5] (fun ad => [.ref (ad 61), .int a2, .int a3, .int a1, .int a4, .int a5]) F w (m_Yard_standNew _ _ _ _ _ _ _ _ hc) rfl rfl hl.1 ds_61 vc_X11 rfl ok_X11_standNew rfl kc_X11_standNew kl_X11_136 ki_X11_standNew kv_X11_standNew kn_X11 ⟨Nat.le_trans (by decide) hR1, Nat.le_trans (by decide) hR2⟩ ⟨Nat.zero_le _, Nat.zero_le _⟩ (Nat.le_of_ble_eq_true rfl) dX11_wagon_41 (fun H locs w => ?_)
        exact s_iret F w h dX11_wagon_44
      · have h := ite_f q h
        refine lv_iconst (pc := 31) (v := -1) hx hb dX11_wagon_31 (by decide) ?_
        exact s_iret F w h dX11_wagon_32
def f_Yard_engine_j26  (x1 : Int32) (x4 : Int32) (y0 : Int32) (y1 : Int32) (y2 : Int32) (S : SS) : Option (Int32 × SS) :=
    if x1 = 0 then
      bnd (f_Yard_standNew y2 y1 y0 (6 : Int32) x4 S) (fun r4 S3 =>
      some (r4, S3))
    else
      bnd (f_Yard_standNew y2 y1 y0 (4 : Int32) x4 S) (fun r6 S5 =>
      some (r6, S5))
def f_Yard_engine (a1 : Int32) (a2 : Int32) (a3 : Int32) (a4 : Int32) (S : SS) : Option (Int32 × SS) :=
  bnd (f_Yard_isNot a4 (0 : Int32) (100 : Int32) S) (fun r2 S1 =>
  if r2 = 0 then
    if a1 = 0 then
      f_Yard_engine_j26 a1 a4 (5 : Int32) a3 a2 S1
    else
      f_Yard_engine_j26 a1 a4 (6 : Int32) a3 a2 S1
  else
    some ((-1 : Int32), S1))
theorem dX11_engine_0 : decode cX11_engine 0 = .ok (.iload 4, 2) := dc_21 (a := 4) (by decide +kernel)
theorem dX11_engine_2 : decode cX11_engine 2 = .ok (.iconst 0, 1) := dc_3 (by decide +kernel)
theorem dX11_engine_3 : decode cX11_engine 3 = .ok (.bipush 100, 2) := dc_16 (a := 100) (by decide +kernel) (by decide)
theorem dX11_engine_5 : decode cX11_engine 5 = .ok (.invokestatic 108, 3) := dc_184 (a := 0) (b := 108) (by decide +kernel)
theorem dX11_engine_8 : decode cX11_engine 8 = .ok (.ifCond .eq 5, 3) := dc_153 (a := 0) (b := 5) (by decide +kernel) (by decide)
theorem dX11_engine_11 : decode cX11_engine 11 = .ok (.iconst (-1), 1) := dc_2 (by decide +kernel)
theorem dX11_engine_12 : decode cX11_engine 12 = .ok (.ireturn, 1) := dc_172 (by decide +kernel)
theorem dX11_engine_13 : decode cX11_engine 13 = .ok (.aload_n 0, 1) := dc_42 (by decide +kernel)
theorem dX11_engine_14 : decode cX11_engine 14 = .ok (.iload_n 2, 1) := dc_28 (by decide +kernel)
theorem dX11_engine_15 : decode cX11_engine 15 = .ok (.iload_n 3, 1) := dc_29 (by decide +kernel)
theorem dX11_engine_16 : decode cX11_engine 16 = .ok (.iload_n 1, 1) := dc_27 (by decide +kernel)
theorem dX11_engine_17 : decode cX11_engine 17 = .ok (.ifCond .eq 8, 3) := dc_153 (a := 0) (b := 8) (by decide +kernel) (by decide)
theorem dX11_engine_20 : decode cX11_engine 20 = .ok (.bipush 6, 2) := dc_16 (a := 6) (by decide +kernel) (by decide)
theorem dX11_engine_22 : decode cX11_engine 22 = .ok (.goto 4, 3) := dc_167 (a := 0) (b := 4) (by decide +kernel) (by decide)
theorem dX11_engine_25 : decode cX11_engine 25 = .ok (.iconst 5, 1) := dc_8 (by decide +kernel)
theorem dX11_engine_26 : decode cX11_engine 26 = .ok (.iload_n 1, 1) := dc_27 (by decide +kernel)
theorem dX11_engine_27 : decode cX11_engine 27 = .ok (.ifCond .eq 7, 3) := dc_153 (a := 0) (b := 7) (by decide +kernel) (by decide)
theorem dX11_engine_30 : decode cX11_engine 30 = .ok (.iconst 4, 1) := dc_7 (by decide +kernel)
theorem dX11_engine_31 : decode cX11_engine 31 = .ok (.goto 5, 3) := dc_167 (a := 0) (b := 5) (by decide +kernel) (by decide)
theorem dX11_engine_34 : decode cX11_engine 34 = .ok (.bipush 6, 2) := dc_16 (a := 6) (by decide +kernel) (by decide)
theorem dX11_engine_36 : decode cX11_engine 36 = .ok (.iload 4, 2) := dc_21 (a := 4) (by decide +kernel)
theorem dX11_engine_38 : decode cX11_engine 38 = .ok (.invokevirtual 136, 3) := dc_182 (a := 0) (b := 136) (by decide +kernel)
theorem dX11_engine_41 : decode cX11_engine 41 = .ok (.ireturn, 1) := dc_172 (by decide +kernel)
set_option maxRecDepth 100000 in
set_option maxHeartbeats 4000000 in
theorem w_Yard_engine_j26 {p : Program} {l : Launch} {e : Env} {R : Room} {s : State} {m : MethodId} {args : Array Value} {below : List Frame} {meth : Method} {c : Code} {dC : Nat → ClassId} {dI : Nat → Nat → Nat} {cs : Nat → ClassId} {ad : Nat → Nat} {A : Nat → Prop} {D0 : Nat → Nat} {S' : SS} {r : Int32} (F : Fx p s m args meth c cX11_engine 5 RX11 (some .int) dC dI cs A) (hR1 : 4 ≤ R.frames) (hR2 : 96 ≤ R.locals) (x1 : Int32) (x4 : Int32) (y0 : Int32) (y1 : Int32) (y2 : Int32) (S : SS) (h : f_Yard_engine_j26 x1 x4 y0 y1 y2 S = some (r, S')) : AW p l e R s m args below meth c dC dI cs ad A D0 (some (.int r)) S' 5 26 [(1, .int x1), (4, .int x4)] [.int y0, .int y1, .int y2, .ref (ad 61)] S := by
  have hx := F.1.1
  have hb := F.1.2.1
  intro H locs ls w hl
  rw [f_Yard_engine_j26] at h
  refine lv_iload_n (pc := 26) hx hb dX11_engine_26 rfl (lv_at hl 0 rfl) ?_
  refine lv_if_eq (pc := 27) (tgt := 34) hx hb dX11_engine_27 (by decide) (fun q => ?_) (fun q => ?_)
  · have h := ite_t q h
    refine lv_bipush (pc := 34) (v := 6) hx hb dX11_engine_34 (by decide) ?_
    refine lv_iload (pc := 36) hx hb dX11_engine_36 (lv_at hl 1 rfl) ?_
    obtain ⟨r4, S3, hc, h⟩ := bnd_t h
    refine s_cvi (pc := 38) [.int y2, .int y1, .int y0, .int (6 : Int32), .int x4] (fun ad => [.ref (ad 61), .int y2, .int y1, .int y0, .int (6 : Int32), .int x4]) F w (m_Yard_standNew _ _ _ _ _ _ _ _ hc) rfl rfl hl.1 ds_61 vc_X11 rfl ok_X11_standNew rfl kc_X11_standNew kl_X11_136 ki_X11_standNew kv_X11_standNew kn_X11 ⟨Nat.le_trans (by decide) hR1, Nat.le_trans (by decide) hR2⟩ ⟨Nat.zero_le _, Nat.zero_le _⟩ (Nat.le_of_ble_eq_true rfl) dX11_engine_38 (fun H locs w => ?_)
    exact s_iret F w h dX11_engine_41
  · have h := ite_f q h
    refine lv_iconst (pc := 30) (v := 4) hx hb dX11_engine_30 (by decide) ?_
    refine lv_goto (pc := 31) (tgt := 36) hx hb dX11_engine_31 (by decide) ?_
    refine lv_iload (pc := 36) hx hb dX11_engine_36 (lv_at hl 1 rfl) ?_
    obtain ⟨r6, S5, hc, h⟩ := bnd_t h
    refine s_cvi (pc := 38) [.int y2, .int y1, .int y0, .int (4 : Int32), .int x4] (fun ad => [.ref (ad 61), .int y2, .int y1, .int y0, .int (4 : Int32), .int x4]) F w (m_Yard_standNew _ _ _ _ _ _ _ _ hc) rfl rfl hl.1 ds_61 vc_X11 rfl ok_X11_standNew rfl kc_X11_standNew kl_X11_136 ki_X11_standNew kv_X11_standNew kn_X11 ⟨Nat.le_trans (by decide) hR1, Nat.le_trans (by decide) hR2⟩ ⟨Nat.zero_le _, Nat.zero_le _⟩ (Nat.le_of_ble_eq_true rfl) dX11_engine_38 (fun H locs w => ?_)
    exact s_iret F w h dX11_engine_41
set_option maxRecDepth 100000 in
set_option maxHeartbeats 4000000 in
theorem m_Yard_engine (a1 : Int32) (a2 : Int32) (a3 : Int32) (a4 : Int32) (S S' : SS) (r : Int32) (h : f_Yard_engine a1 a2 a3 a4 S = some (r, S')) : MT yX11_engine cX11_engine 5 (some .int) 4 96 (fun ad => [.ref (ad 61), .int a1, .int a2, .int a3, .int a4]) S (some (.int r)) S' := by
  refine MT.of RX11 (fun ad => [(0, .ref (ad 61)), (1, .int a1), (2, .int a2), (3, .int a3), (4, .int a4)]) (by decide) rfl (fun _ => Nat.le_of_ble_eq_true rfl) (fun _ => rfl) ?_
  intro p l e R s m args below meth c dC dI cs ad A hR1 hR2 F H locs ls w hl
  have hx := F.1.1
  have hb := F.1.2.1
  rw [f_Yard_engine] at h
  refine lv_iload (pc := 0) hx hb dX11_engine_0 (lv_at hl 4 rfl) ?_
  refine lv_iconst (pc := 2) (v := 0) hx hb dX11_engine_2 (by decide) ?_
  refine lv_bipush (pc := 3) (v := 100) hx hb dX11_engine_3 (by decide) ?_
  obtain ⟨r2, S1, hc, h⟩ := bnd_t h
  refine s_csi (pc := 5) [.int a4, .int (0 : Int32), .int (100 : Int32)] (fun ad => [.int a4, .int (0 : Int32), .int (100 : Int32)]) F w (m_Yard_isNot _ _ _ _ _ _ hc) rfl rfl hl.1 ok_X11_isNot rfl kc_X11_isNot kl_X11_108 ks_X11_isNot kn_X11 ⟨Nat.le_trans (by decide) hR1, Nat.le_trans (by decide) hR2⟩ ⟨Nat.zero_le _, Nat.zero_le _⟩ (Nat.le_of_ble_eq_true rfl) dX11_engine_5 (fun H locs w => ?_)
  refine lv_if_eq (pc := 8) (tgt := 13) hx hb dX11_engine_8 (by decide) (fun q => ?_) (fun q => ?_)
  · have h := ite_t q h
    refine lv_aload_n (pc := 13) hx hb dX11_engine_13 rfl (lv_at hl 0 rfl) ?_
    refine lv_iload_n (pc := 14) hx hb dX11_engine_14 rfl (lv_at hl 2 rfl) ?_
    refine lv_iload_n (pc := 15) hx hb dX11_engine_15 rfl (lv_at hl 3 rfl) ?_
    refine lv_iload_n (pc := 16) hx hb dX11_engine_16 rfl (lv_at hl 1 rfl) ?_
    refine lv_if_eq (pc := 17) (tgt := 25) hx hb dX11_engine_17 (by decide) (fun q => ?_) (fun q => ?_)
    · have h := ite_t q h
      refine lv_iconst (pc := 25) (v := 5) hx hb dX11_engine_25 (by decide) ?_
      exact w_Yard_engine_j26 F (Nat.le_trans (by decide) hR1) (Nat.le_trans (by decide) hR2) _ _ _ _ _ _ h _ _ _ w (lv_sub hl [1, 4] rfl)
    · have h := ite_f q h
      refine lv_bipush (pc := 20) (v := 6) hx hb dX11_engine_20 (by decide) ?_
      refine lv_goto (pc := 22) (tgt := 26) hx hb dX11_engine_22 (by decide) ?_
      exact w_Yard_engine_j26 F (Nat.le_trans (by decide) hR1) (Nat.le_trans (by decide) hR2) _ _ _ _ _ _ h _ _ _ w (lv_sub hl [1, 4] rfl)
  · have h := ite_f q h
    refine lv_iconst (pc := 11) (v := -1) hx hb dX11_engine_11 (by decide) ?_
    exact s_iret F w h dX11_engine_12
def f_Bodies_isBarred (a1 : Int32) (a2 : Int32) (S : SS) : Option (Int32 × SS) :=
  bnd (f_Yard_isNot a1 (0 : Int32) (9 : Int32) S) (fun r2 S1 =>
  if r2 = 0 then
    bnd (f_Yard_isNot a2 (0 : Int32) (9 : Int32) S1) (fun r4 S3 =>
    if r4 = 0 then
      grd (inb (((10 : Int32) * a1) + a2) 100) (
      if (S3.1 105 (((10 : Int32) * a1) + a2).toNatClampNeg) = 0 then
        some ((0 : Int32), S3)
      else
        some ((1 : Int32), S3))
    else
      some ((0 : Int32), S3))
  else
    some ((0 : Int32), S1))
theorem dX0_isBarred_0 : decode cX0_isBarred 0 = .ok (.iload_n 1, 1) := dc_27 (by decide +kernel)
theorem dX0_isBarred_1 : decode cX0_isBarred 1 = .ok (.iconst 0, 1) := dc_3 (by decide +kernel)
theorem dX0_isBarred_2 : decode cX0_isBarred 2 = .ok (.bipush 9, 2) := dc_16 (a := 9) (by decide +kernel) (by decide)
theorem dX0_isBarred_4 : decode cX0_isBarred 4 = .ok (.invokestatic 78, 3) := dc_184 (a := 0) (b := 78) (by decide +kernel)
theorem dX0_isBarred_7 : decode cX0_isBarred 7 = .ok (.ifCond .ne 31, 3) := dc_154 (a := 0) (b := 31) (by decide +kernel) (by decide)
theorem dX0_isBarred_10 : decode cX0_isBarred 10 = .ok (.iload_n 2, 1) := dc_28 (by decide +kernel)
theorem dX0_isBarred_11 : decode cX0_isBarred 11 = .ok (.iconst 0, 1) := dc_3 (by decide +kernel)
theorem dX0_isBarred_12 : decode cX0_isBarred 12 = .ok (.bipush 9, 2) := dc_16 (a := 9) (by decide +kernel) (by decide)
theorem dX0_isBarred_14 : decode cX0_isBarred 14 = .ok (.invokestatic 78, 3) := dc_184 (a := 0) (b := 78) (by decide +kernel)
theorem dX0_isBarred_17 : decode cX0_isBarred 17 = .ok (.ifCond .ne 21, 3) := dc_154 (a := 0) (b := 21) (by decide +kernel) (by decide)
theorem dX0_isBarred_20 : decode cX0_isBarred 20 = .ok (.aload_n 0, 1) := dc_42 (by decide +kernel)
theorem dX0_isBarred_21 : decode cX0_isBarred 21 = .ok (.getfield 9, 3) := dc_180 (a := 0) (b := 9) (by decide +kernel)
theorem dX0_isBarred_24 : decode cX0_isBarred 24 = .ok (.bipush 10, 2) := dc_16 (a := 10) (by decide +kernel) (by decide)
theorem dX0_isBarred_26 : decode cX0_isBarred 26 = .ok (.iload_n 1, 1) := dc_27 (by decide +kernel)
theorem dX0_isBarred_27 : decode cX0_isBarred 27 = .ok (.imul, 1) := dc_104 (by decide +kernel)
theorem dX0_isBarred_28 : decode cX0_isBarred 28 = .ok (.iload_n 2, 1) := dc_28 (by decide +kernel)
theorem dX0_isBarred_29 : decode cX0_isBarred 29 = .ok (.iadd, 1) := dc_96 (by decide +kernel)
theorem dX0_isBarred_30 : decode cX0_isBarred 30 = .ok (.baload, 1) := dc_51 (by decide +kernel)
theorem dX0_isBarred_31 : decode cX0_isBarred 31 = .ok (.ifCond .eq 7, 3) := dc_153 (a := 0) (b := 7) (by decide +kernel) (by decide)
theorem dX0_isBarred_34 : decode cX0_isBarred 34 = .ok (.iconst 1, 1) := dc_4 (by decide +kernel)
theorem dX0_isBarred_35 : decode cX0_isBarred 35 = .ok (.goto 4, 3) := dc_167 (a := 0) (b := 4) (by decide +kernel) (by decide)
theorem dX0_isBarred_38 : decode cX0_isBarred 38 = .ok (.iconst 0, 1) := dc_3 (by decide +kernel)
theorem dX0_isBarred_39 : decode cX0_isBarred 39 = .ok (.ireturn, 1) := dc_172 (by decide +kernel)
set_option maxRecDepth 100000 in
set_option maxHeartbeats 4000000 in
theorem m_Bodies_isBarred (a1 : Int32) (a2 : Int32) (S S' : SS) (r : Int32) (h : f_Bodies_isBarred a1 a2 S = some (r, S')) : MT yX0_isBarred cX0_isBarred 3 (some .boolean) 1 22 (fun ad => [.ref (ad 69), .int a1, .int a2]) S (some (.int r)) S' := by
  refine MT.of RX0 (fun ad => [(0, .ref (ad 69)), (1, .int a1), (2, .int a2)]) (by decide) rfl (fun _ => Nat.le_of_ble_eq_true rfl) (fun _ => rfl) ?_
  intro p l e R s m args below meth c dC dI cs ad A hR1 hR2 F H locs ls w hl
  have hx := F.1.1
  have hb := F.1.2.1
  rw [f_Bodies_isBarred] at h
  refine lv_iload_n (pc := 0) hx hb dX0_isBarred_0 rfl (lv_at hl 1 rfl) ?_
  refine lv_iconst (pc := 1) (v := 0) hx hb dX0_isBarred_1 (by decide) ?_
  refine lv_bipush (pc := 2) (v := 9) hx hb dX0_isBarred_2 (by decide) ?_
  obtain ⟨r2, S1, hc, h⟩ := bnd_t h
  refine s_csNi (pc := 4) [.int a1, .int (0 : Int32), .int (9 : Int32)] (fun ad => [.int a1, .int (0 : Int32), .int (9 : Int32)]) F w (m_Yard_isNot _ _ _ _ _ _ hc) rfl rfl hl.1 ok_X11_isNot rfl kc_X11_isNot kl_X0_78 ks_X11_isNot kn_X11 ⟨Nat.le_trans (by decide) hR1, Nat.le_trans (by decide) hR2⟩ ⟨Nat.zero_le _, Nat.zero_le _⟩ (Nat.le_of_ble_eq_true rfl) dX0_isBarred_4 (fun H locs w => ?_)
  refine lv_if_ne (pc := 7) (tgt := 38) hx hb dX0_isBarred_7 (by decide) (fun q => ?_) (fun q => ?_)
  · have h := ite_f q h
    refine lv_iconst (pc := 38) (v := 0) hx hb dX0_isBarred_38 (by decide) ?_
    exact s_zretc F w rfl h dX0_isBarred_39
  · have h := ite_t q h
    refine lv_iload_n (pc := 10) hx hb dX0_isBarred_10 rfl (lv_at hl 2 rfl) ?_
    refine lv_iconst (pc := 11) (v := 0) hx hb dX0_isBarred_11 (by decide) ?_
    refine lv_bipush (pc := 12) (v := 9) hx hb dX0_isBarred_12 (by decide) ?_
    obtain ⟨r4, S3, hc, h⟩ := bnd_t h
    refine s_csNi (pc := 14) [.int a2, .int (0 : Int32), .int (9 : Int32)] (fun ad => [.int a2, .int (0 : Int32), .int (9 : Int32)]) F w (m_Yard_isNot _ _ _ _ _ _ hc) rfl rfl hl.1 ok_X11_isNot rfl kc_X11_isNot kl_X0_78 ks_X11_isNot kn_X11 ⟨Nat.le_trans (by decide) hR1, Nat.le_trans (by decide) hR2⟩ ⟨Nat.zero_le _, Nat.zero_le _⟩ (Nat.le_of_ble_eq_true rfl) dX0_isBarred_14 (fun H locs w => ?_)
    refine lv_if_ne (pc := 17) (tgt := 38) hx hb dX0_isBarred_17 (by decide) (fun q => ?_) (fun q => ?_)
    · have h := ite_f q h
      refine lv_iconst (pc := 38) (v := 0) hx hb dX0_isBarred_38 (by decide) ?_
      exact s_zretc F w rfl h dX0_isBarred_39
    · have h := ite_t q h
      refine lv_aload_n (pc := 20) hx hb dX0_isBarred_20 rfl (lv_at hl 0 rfl) ?_
      refine s_getR (pc := 21) F w 105 ds_69 (j := 3) vc_X0 vi_X0 rfl (by decide) kf_X0_9 dX0_isBarred_21 ?_
      refine lv_bipush (pc := 24) (v := 10) hx hb dX0_isBarred_24 (by decide) ?_
      refine lv_iload_n (pc := 26) hx hb dX0_isBarred_26 rfl (lv_at hl 1 rfl) ?_
      refine lv_imul (pc := 27) hx hb dX0_isBarred_27 ?_
      refine lv_iload_n (pc := 28) hx hb dX0_isBarred_28 rfl (lv_at hl 2 rfl) ?_
      refine lv_iadd (pc := 29) hx hb dX0_isBarred_29 ?_
      refine s_zald (pc := 30) F w ds_105 h dX0_isBarred_30 (fun h => ?_)
      refine lv_if_eq (pc := 31) (tgt := 38) hx hb dX0_isBarred_31 (by decide) (fun q => ?_) (fun q => ?_)
      · have h := ite_t q h
        refine lv_iconst (pc := 38) (v := 0) hx hb dX0_isBarred_38 (by decide) ?_
        exact s_zretc F w rfl h dX0_isBarred_39
      · have h := ite_f q h
        refine lv_iconst (pc := 34) (v := 1) hx hb dX0_isBarred_34 (by decide) ?_
        refine lv_goto (pc := 35) (tgt := 39) hx hb dX0_isBarred_35 (by decide) ?_
        exact s_zretc F w rfl h dX0_isBarred_39
def f_Bodies_setBarred (a1 : Int32) (a2 : Int32) (a3 : Int32) (S : SS) : Option (Int32 × SS) :=
  bnd (f_Bodies_isBarred a1 a2 S) (fun r2 S1 =>
  bnd (f_Yard_isNot a1 (0 : Int32) (9 : Int32) S1) (fun r4 S3 =>
  if r4 = 0 then
    bnd (f_Yard_isNot a2 (0 : Int32) (9 : Int32) S3) (fun r6 S5 =>
    if r6 = 0 then
      grd (inb (((10 : Int32) * a1) + a2) 100) (wr S5 105 (((10 : Int32) * a1) + a2).toNatClampNeg (vp_nar .boolean a3) (fun S7 =>
      grd (inb (((10 : Int32) * a2) + a1) 100) (wr S7 105 (((10 : Int32) * a2) + a1).toNatClampNeg (vp_nar .boolean a3) (fun S8 =>
      grd (isB r2) (some (r2, S8))))))
    else
      grd (isB r2) (some (r2, S5)))
  else
    grd (isB r2) (some (r2, S3))))
theorem dX0_setBarred_0 : decode cX0_setBarred 0 = .ok (.aload_n 0, 1) := dc_42 (by decide +kernel)
theorem dX0_setBarred_1 : decode cX0_setBarred 1 = .ok (.iload_n 1, 1) := dc_27 (by decide +kernel)
theorem dX0_setBarred_2 : decode cX0_setBarred 2 = .ok (.iload_n 2, 1) := dc_28 (by decide +kernel)
theorem dX0_setBarred_3 : decode cX0_setBarred 3 = .ok (.invokevirtual 75, 3) := dc_182 (a := 0) (b := 75) (by decide +kernel)
theorem dX0_setBarred_6 : decode cX0_setBarred 6 = .ok (.istore 4, 2) := dc_54 (a := 4) (by decide +kernel)
theorem dX0_setBarred_8 : decode cX0_setBarred 8 = .ok (.iload_n 1, 1) := dc_27 (by decide +kernel)
theorem dX0_setBarred_9 : decode cX0_setBarred 9 = .ok (.iconst 0, 1) := dc_3 (by decide +kernel)
theorem dX0_setBarred_10 : decode cX0_setBarred 10 = .ok (.bipush 9, 2) := dc_16 (a := 9) (by decide +kernel) (by decide)
theorem dX0_setBarred_12 : decode cX0_setBarred 12 = .ok (.invokestatic 78, 3) := dc_184 (a := 0) (b := 78) (by decide +kernel)
theorem dX0_setBarred_15 : decode cX0_setBarred 15 = .ok (.ifCond .ne 37, 3) := dc_154 (a := 0) (b := 37) (by decide +kernel) (by decide)
theorem dX0_setBarred_18 : decode cX0_setBarred 18 = .ok (.iload_n 2, 1) := dc_28 (by decide +kernel)
theorem dX0_setBarred_19 : decode cX0_setBarred 19 = .ok (.iconst 0, 1) := dc_3 (by decide +kernel)
theorem dX0_setBarred_20 : decode cX0_setBarred 20 = .ok (.bipush 9, 2) := dc_16 (a := 9) (by decide +kernel) (by decide)
theorem dX0_setBarred_22 : decode cX0_setBarred 22 = .ok (.invokestatic 78, 3) := dc_184 (a := 0) (b := 78) (by decide +kernel)
theorem dX0_setBarred_25 : decode cX0_setBarred 25 = .ok (.ifCond .ne 27, 3) := dc_154 (a := 0) (b := 27) (by decide +kernel) (by decide)
theorem dX0_setBarred_28 : decode cX0_setBarred 28 = .ok (.aload_n 0, 1) := dc_42 (by decide +kernel)
theorem dX0_setBarred_29 : decode cX0_setBarred 29 = .ok (.getfield 9, 3) := dc_180 (a := 0) (b := 9) (by decide +kernel)
theorem dX0_setBarred_32 : decode cX0_setBarred 32 = .ok (.bipush 10, 2) := dc_16 (a := 10) (by decide +kernel) (by decide)
theorem dX0_setBarred_34 : decode cX0_setBarred 34 = .ok (.iload_n 1, 1) := dc_27 (by decide +kernel)
theorem dX0_setBarred_35 : decode cX0_setBarred 35 = .ok (.imul, 1) := dc_104 (by decide +kernel)
theorem dX0_setBarred_36 : decode cX0_setBarred 36 = .ok (.iload_n 2, 1) := dc_28 (by decide +kernel)
theorem dX0_setBarred_37 : decode cX0_setBarred 37 = .ok (.iadd, 1) := dc_96 (by decide +kernel)
theorem dX0_setBarred_38 : decode cX0_setBarred 38 = .ok (.iload_n 3, 1) := dc_29 (by decide +kernel)
theorem dX0_setBarred_39 : decode cX0_setBarred 39 = .ok (.bastore, 1) := dc_84 (by decide +kernel)
theorem dX0_setBarred_40 : decode cX0_setBarred 40 = .ok (.aload_n 0, 1) := dc_42 (by decide +kernel)
theorem dX0_setBarred_41 : decode cX0_setBarred 41 = .ok (.getfield 9, 3) := dc_180 (a := 0) (b := 9) (by decide +kernel)
theorem dX0_setBarred_44 : decode cX0_setBarred 44 = .ok (.bipush 10, 2) := dc_16 (a := 10) (by decide +kernel) (by decide)
theorem dX0_setBarred_46 : decode cX0_setBarred 46 = .ok (.iload_n 2, 1) := dc_28 (by decide +kernel)
theorem dX0_setBarred_47 : decode cX0_setBarred 47 = .ok (.imul, 1) := dc_104 (by decide +kernel)
theorem dX0_setBarred_48 : decode cX0_setBarred 48 = .ok (.iload_n 1, 1) := dc_27 (by decide +kernel)
theorem dX0_setBarred_49 : decode cX0_setBarred 49 = .ok (.iadd, 1) := dc_96 (by decide +kernel)
theorem dX0_setBarred_50 : decode cX0_setBarred 50 = .ok (.iload_n 3, 1) := dc_29 (by decide +kernel)
theorem dX0_setBarred_51 : decode cX0_setBarred 51 = .ok (.bastore, 1) := dc_84 (by decide +kernel)
theorem dX0_setBarred_52 : decode cX0_setBarred 52 = .ok (.iload 4, 2) := dc_21 (a := 4) (by decide +kernel)
theorem dX0_setBarred_54 : decode cX0_setBarred 54 = .ok (.ireturn, 1) := dc_172 (by decide +kernel)
set_option maxRecDepth 100000 in
set_option maxHeartbeats 4000000 in
theorem m_Bodies_setBarred (a1 : Int32) (a2 : Int32) (a3 : Int32) (S S' : SS) (r : Int32) (h : f_Bodies_setBarred a1 a2 a3 S = some (r, S')) : MT yX0_setBarred cX0_setBarred 5 (some .boolean) 2 44 (fun ad => [.ref (ad 69), .int a1, .int a2, .int a3]) S (some (.int r)) S' := by
  refine MT.of RX0 (fun ad => [(0, .ref (ad 69)), (1, .int a1), (2, .int a2), (3, .int a3)]) (by decide) rfl (fun _ => Nat.le_of_ble_eq_true rfl) (fun _ => rfl) ?_
  intro p l e R s m args below meth c dC dI cs ad A hR1 hR2 F H locs ls w hl
  have hx := F.1.1
  have hb := F.1.2.1
  rw [f_Bodies_setBarred] at h
  refine lv_aload_n (pc := 0) hx hb dX0_setBarred_0 rfl (lv_at hl 0 rfl) ?_
  refine lv_iload_n (pc := 1) hx hb dX0_setBarred_1 rfl (lv_at hl 1 rfl) ?_
  refine lv_iload_n (pc := 2) hx hb dX0_setBarred_2 rfl (lv_at hl 2 rfl) ?_
  obtain ⟨r2, S1, hc, h⟩ := bnd_t h
  refine s_cvi (pc := 3) [.int a1, .int a2] (fun ad => [.ref (ad 69), .int a1, .int a2]) F w (m_Bodies_isBarred _ _ _ _ _ hc) rfl rfl hl.1 ds_69 vc_X0 rfl ok_X0_isBarred rfl kc_X0_isBarred kl_X0_75 ki_X0_isBarred kv_X0_isBarred kn_X0 ⟨Nat.le_trans (by decide) hR1, Nat.le_trans (by decide) hR2⟩ ⟨Nat.zero_le _, Nat.zero_le _⟩ (Nat.le_of_ble_eq_true rfl) dX0_setBarred_3 (fun H locs w => ?_)
  refine lv_istore (pc := 6) (lv' := [(4, .int r2), (0, .ref (ad 69)), (1, .int a1), (2, .int a2), (3, .int a3)]) hx hb dX0_setBarred_6 hl (by decide) rfl (fun ls hl => ?_)
  refine lv_iload_n (pc := 8) hx hb dX0_setBarred_8 rfl (lv_at hl 2 rfl) ?_
  refine lv_iconst (pc := 9) (v := 0) hx hb dX0_setBarred_9 (by decide) ?_
  refine lv_bipush (pc := 10) (v := 9) hx hb dX0_setBarred_10 (by decide) ?_
  obtain ⟨r4, S3, hc, h⟩ := bnd_t h
  refine s_csNi (pc := 12) [.int a1, .int (0 : Int32), .int (9 : Int32)] (fun ad => [.int a1, .int (0 : Int32), .int (9 : Int32)]) F w (m_Yard_isNot _ _ _ _ _ _ hc) rfl rfl hl.1 ok_X11_isNot rfl kc_X11_isNot kl_X0_78 ks_X11_isNot kn_X11 ⟨Nat.le_trans (by decide) hR1, Nat.le_trans (by decide) hR2⟩ ⟨Nat.zero_le _, Nat.zero_le _⟩ (Nat.le_of_ble_eq_true rfl) dX0_setBarred_12 (fun H locs w => ?_)
  refine lv_if_ne (pc := 15) (tgt := 52) hx hb dX0_setBarred_15 (by decide) (fun q => ?_) (fun q => ?_)
  · have h := ite_f q h
    refine lv_iload (pc := 52) hx hb dX0_setBarred_52 (lv_at hl 0 rfl) ?_
    exact s_zret F w h dX0_setBarred_54
  · have h := ite_t q h
    refine lv_iload_n (pc := 18) hx hb dX0_setBarred_18 rfl (lv_at hl 3 rfl) ?_
    refine lv_iconst (pc := 19) (v := 0) hx hb dX0_setBarred_19 (by decide) ?_
    refine lv_bipush (pc := 20) (v := 9) hx hb dX0_setBarred_20 (by decide) ?_
    obtain ⟨r6, S5, hc, h⟩ := bnd_t h
    refine s_csNi (pc := 22) [.int a2, .int (0 : Int32), .int (9 : Int32)] (fun ad => [.int a2, .int (0 : Int32), .int (9 : Int32)]) F w (m_Yard_isNot _ _ _ _ _ _ hc) rfl rfl hl.1 ok_X11_isNot rfl kc_X11_isNot kl_X0_78 ks_X11_isNot kn_X11 ⟨Nat.le_trans (by decide) hR1, Nat.le_trans (by decide) hR2⟩ ⟨Nat.zero_le _, Nat.zero_le _⟩ (Nat.le_of_ble_eq_true rfl) dX0_setBarred_22 (fun H locs w => ?_)
    refine lv_if_ne (pc := 25) (tgt := 52) hx hb dX0_setBarred_25 (by decide) (fun q => ?_) (fun q => ?_)
    · have h := ite_f q h
      refine lv_iload (pc := 52) hx hb dX0_setBarred_52 (lv_at hl 0 rfl) ?_
      exact s_zret F w h dX0_setBarred_54
    · have h := ite_t q h
      refine lv_aload_n (pc := 28) hx hb dX0_setBarred_28 rfl (lv_at hl 1 rfl) ?_
      refine s_getR (pc := 29) F w 105 ds_69 (j := 3) vc_X0 vi_X0 rfl (by decide) kf_X0_9 dX0_setBarred_29 ?_
      refine lv_bipush (pc := 32) (v := 10) hx hb dX0_setBarred_32 (by decide) ?_
      refine lv_iload_n (pc := 34) hx hb dX0_setBarred_34 rfl (lv_at hl 2 rfl) ?_
      refine lv_imul (pc := 35) hx hb dX0_setBarred_35 ?_
      refine lv_iload_n (pc := 36) hx hb dX0_setBarred_36 rfl (lv_at hl 3 rfl) ?_
      refine lv_iadd (pc := 37) hx hb dX0_setBarred_37 ?_
      refine lv_iload_n (pc := 38) hx hb dX0_setBarred_38 rfl (lv_at hl 4 rfl) ?_
      refine s_zast (pc := 39) F w ds_105 h dX0_setBarred_39 (fun S7 H locs h w => ?_)
      refine lv_aload_n (pc := 40) hx hb dX0_setBarred_40 rfl (lv_at hl 1 rfl) ?_
      refine s_getR (pc := 41) F w 105 ds_69 (j := 3) vc_X0 vi_X0 rfl (by decide) kf_X0_9 dX0_setBarred_41 ?_
      refine lv_bipush (pc := 44) (v := 10) hx hb dX0_setBarred_44 (by decide) ?_
      refine lv_iload_n (pc := 46) hx hb dX0_setBarred_46 rfl (lv_at hl 3 rfl) ?_
      refine lv_imul (pc := 47) hx hb dX0_setBarred_47 ?_
      refine lv_iload_n (pc := 48) hx hb dX0_setBarred_48 rfl (lv_at hl 2 rfl) ?_
      refine lv_iadd (pc := 49) hx hb dX0_setBarred_49 ?_
      refine lv_iload_n (pc := 50) hx hb dX0_setBarred_50 rfl (lv_at hl 4 rfl) ?_
      refine s_zast (pc := 51) F w ds_105 h dX0_setBarred_51 (fun S8 H locs h w => ?_)
      refine lv_iload (pc := 52) hx hb dX0_setBarred_52 (lv_at hl 0 rfl) ?_
      exact s_zret F w h dX0_setBarred_54
def f_Yard_bar (a1 : Int32) (a2 : Int32) (a3 : Int32) (S : SS) : Option (Int32 × SS) :=
  bnd (f_Yard_isNot a1 (0 : Int32) (9 : Int32) S) (fun r2 S1 =>
  if r2 = 0 then
    bnd (f_Yard_isNot a2 (0 : Int32) (9 : Int32) S1) (fun r4 S3 =>
    if r4 = 0 then
      bndv (f_History_forget  S3) (fun S5 =>
      bnd (f_Bodies_setBarred a1 a2 a3 S5) (fun r7 S6 =>
      if r7 = 0 then
        some ((0 : Int32), S6)
      else
        some ((1 : Int32), S6)))
    else
      some ((-1 : Int32), S3))
  else
    some ((-1 : Int32), S1))
theorem dX11_bar_0 : decode cX11_bar 0 = .ok (.iload_n 1, 1) := dc_27 (by decide +kernel)
theorem dX11_bar_1 : decode cX11_bar 1 = .ok (.iconst 0, 1) := dc_3 (by decide +kernel)
theorem dX11_bar_2 : decode cX11_bar 2 = .ok (.bipush 9, 2) := dc_16 (a := 9) (by decide +kernel) (by decide)
theorem dX11_bar_4 : decode cX11_bar 4 = .ok (.invokestatic 108, 3) := dc_184 (a := 0) (b := 108) (by decide +kernel)
theorem dX11_bar_7 : decode cX11_bar 7 = .ok (.ifCond .ne 13, 3) := dc_154 (a := 0) (b := 13) (by decide +kernel) (by decide)
theorem dX11_bar_10 : decode cX11_bar 10 = .ok (.iload_n 2, 1) := dc_28 (by decide +kernel)
theorem dX11_bar_11 : decode cX11_bar 11 = .ok (.iconst 0, 1) := dc_3 (by decide +kernel)
theorem dX11_bar_12 : decode cX11_bar 12 = .ok (.bipush 9, 2) := dc_16 (a := 9) (by decide +kernel) (by decide)
theorem dX11_bar_14 : decode cX11_bar 14 = .ok (.invokestatic 108, 3) := dc_184 (a := 0) (b := 108) (by decide +kernel)
theorem dX11_bar_17 : decode cX11_bar 17 = .ok (.ifCond .eq 5, 3) := dc_153 (a := 0) (b := 5) (by decide +kernel) (by decide)
theorem dX11_bar_20 : decode cX11_bar 20 = .ok (.iconst (-1), 1) := dc_2 (by decide +kernel)
theorem dX11_bar_21 : decode cX11_bar 21 = .ok (.ireturn, 1) := dc_172 (by decide +kernel)
theorem dX11_bar_22 : decode cX11_bar 22 = .ok (.aload_n 0, 1) := dc_42 (by decide +kernel)
theorem dX11_bar_23 : decode cX11_bar 23 = .ok (.getfield 26, 3) := dc_180 (a := 0) (b := 26) (by decide +kernel)
theorem dX11_bar_26 : decode cX11_bar 26 = .ok (.invokevirtual 102, 3) := dc_182 (a := 0) (b := 102) (by decide +kernel)
theorem dX11_bar_29 : decode cX11_bar 29 = .ok (.aload_n 0, 1) := dc_42 (by decide +kernel)
theorem dX11_bar_30 : decode cX11_bar 30 = .ok (.getfield 67, 3) := dc_180 (a := 0) (b := 67) (by decide +kernel)
theorem dX11_bar_33 : decode cX11_bar 33 = .ok (.iload_n 1, 1) := dc_27 (by decide +kernel)
theorem dX11_bar_34 : decode cX11_bar 34 = .ok (.iload_n 2, 1) := dc_28 (by decide +kernel)
theorem dX11_bar_35 : decode cX11_bar 35 = .ok (.iload_n 3, 1) := dc_29 (by decide +kernel)
theorem dX11_bar_36 : decode cX11_bar 36 = .ok (.invokevirtual 164, 3) := dc_182 (a := 0) (b := 164) (by decide +kernel)
theorem dX11_bar_39 : decode cX11_bar 39 = .ok (.ifCond .eq 7, 3) := dc_153 (a := 0) (b := 7) (by decide +kernel) (by decide)
theorem dX11_bar_42 : decode cX11_bar 42 = .ok (.iconst 1, 1) := dc_4 (by decide +kernel)
theorem dX11_bar_43 : decode cX11_bar 43 = .ok (.goto 4, 3) := dc_167 (a := 0) (b := 4) (by decide +kernel) (by decide)
theorem dX11_bar_46 : decode cX11_bar 46 = .ok (.iconst 0, 1) := dc_3 (by decide +kernel)
theorem dX11_bar_47 : decode cX11_bar 47 = .ok (.ireturn, 1) := dc_172 (by decide +kernel)
set_option maxRecDepth 100000 in
set_option maxHeartbeats 4000000 in
theorem m_Yard_bar (a1 : Int32) (a2 : Int32) (a3 : Int32) (S S' : SS) (r : Int32) (h : f_Yard_bar a1 a2 a3 S = some (r, S')) : MT yX11_bar cX11_bar 4 (some .int) 3 68 (fun ad => [.ref (ad 61), .int a1, .int a2, .int a3]) S (some (.int r)) S' := by
  refine MT.of RX11 (fun ad => [(0, .ref (ad 61)), (1, .int a1), (2, .int a2), (3, .int a3)]) (by decide) rfl (fun _ => Nat.le_of_ble_eq_true rfl) (fun _ => rfl) ?_
  intro p l e R s m args below meth c dC dI cs ad A hR1 hR2 F H locs ls w hl
  have hx := F.1.1
  have hb := F.1.2.1
  rw [f_Yard_bar] at h
  refine lv_iload_n (pc := 0) hx hb dX11_bar_0 rfl (lv_at hl 1 rfl) ?_
  refine lv_iconst (pc := 1) (v := 0) hx hb dX11_bar_1 (by decide) ?_
  refine lv_bipush (pc := 2) (v := 9) hx hb dX11_bar_2 (by decide) ?_
  obtain ⟨r2, S1, hc, h⟩ := bnd_t h
  refine s_csi (pc := 4) [.int a1, .int (0 : Int32), .int (9 : Int32)] (fun ad => [.int a1, .int (0 : Int32), .int (9 : Int32)]) F w (m_Yard_isNot _ _ _ _ _ _ hc) rfl rfl hl.1 ok_X11_isNot rfl kc_X11_isNot kl_X11_108 ks_X11_isNot kn_X11 ⟨Nat.le_trans (by decide) hR1, Nat.le_trans (by decide) hR2⟩ ⟨Nat.zero_le _, Nat.zero_le _⟩ (Nat.le_of_ble_eq_true rfl) dX11_bar_4 (fun H locs w => ?_)
  refine lv_if_ne (pc := 7) (tgt := 20) hx hb dX11_bar_7 (by decide) (fun q => ?_) (fun q => ?_)
  · have h := ite_f q h
    refine lv_iconst (pc := 20) (v := -1) hx hb dX11_bar_20 (by decide) ?_
    exact s_iret F w h dX11_bar_21
  · have h := ite_t q h
    refine lv_iload_n (pc := 10) hx hb dX11_bar_10 rfl (lv_at hl 2 rfl) ?_
    refine lv_iconst (pc := 11) (v := 0) hx hb dX11_bar_11 (by decide) ?_
    refine lv_bipush (pc := 12) (v := 9) hx hb dX11_bar_12 (by decide) ?_
    obtain ⟨r4, S3, hc, h⟩ := bnd_t h
    refine s_csi (pc := 14) [.int a2, .int (0 : Int32), .int (9 : Int32)] (fun ad => [.int a2, .int (0 : Int32), .int (9 : Int32)]) F w (m_Yard_isNot _ _ _ _ _ _ hc) rfl rfl hl.1 ok_X11_isNot rfl kc_X11_isNot kl_X11_108 ks_X11_isNot kn_X11 ⟨Nat.le_trans (by decide) hR1, Nat.le_trans (by decide) hR2⟩ ⟨Nat.zero_le _, Nat.zero_le _⟩ (Nat.le_of_ble_eq_true rfl) dX11_bar_14 (fun H locs w => ?_)
    refine lv_if_eq (pc := 17) (tgt := 22) hx hb dX11_bar_17 (by decide) (fun q => ?_) (fun q => ?_)
    · have h := ite_t q h
      refine lv_aload_n (pc := 22) hx hb dX11_bar_22 rfl (lv_at hl 0 rfl) ?_
      refine s_getR (pc := 23) F w 64 ds_61 (j := 2) vc_X11 vi_X11 rfl (by decide) kf_X11_26 dX11_bar_23 ?_
      obtain ⟨S5, hc, h⟩ := bndv_t h
      refine s_cvv (pc := 26) [] (fun ad => [.ref (ad 64)]) F w (m_History_forget  _ _ hc) rfl rfl hl.1 ds_64 vc_X1 rfl ok_X1_forget rfl kc_X1_forget kl_X11_102 ki_X1_forget kv_X1_forget kn_X1 ⟨Nat.le_trans (by decide) hR1, Nat.le_trans (by decide) hR2⟩ ⟨Nat.zero_le _, Nat.zero_le _⟩ (Nat.le_of_ble_eq_true rfl) dX11_bar_26 (fun H locs w => ?_)
      refine lv_aload_n (pc := 29) hx hb dX11_bar_29 rfl (lv_at hl 0 rfl) ?_
      refine s_getR (pc := 30) F w 69 ds_61 (j := 7) vc_X11 vi_X11 rfl (by decide) kf_X11_67 dX11_bar_30 ?_
      refine lv_iload_n (pc := 33) hx hb dX11_bar_33 rfl (lv_at hl 1 rfl) ?_
      refine lv_iload_n (pc := 34) hx hb dX11_bar_34 rfl (lv_at hl 2 rfl) ?_
      refine lv_iload_n (pc := 35) hx hb dX11_bar_35 rfl (lv_at hl 3 rfl) ?_
      obtain ⟨r7, S6, hc, h⟩ := bnd_t h
      refine s_cvi (pc := 36) [.int a1, .int a2, .int a3] (fun ad => [.ref (ad 69), .int a1, .int a2, .int a3]) F w (m_Bodies_setBarred _ _ _ _ _ _ hc) rfl rfl hl.1 ds_69 vc_X0 rfl ok_X0_setBarred rfl kc_X0_setBarred kl_X11_164 ki_X0_setBarred kv_X0_setBarred kn_X0 ⟨Nat.le_trans (by decide) hR1, Nat.le_trans (by decide) hR2⟩ ⟨Nat.zero_le _, Nat.zero_le _⟩ (Nat.le_of_ble_eq_true rfl) dX11_bar_36 (fun H locs w => ?_)
      refine lv_if_eq (pc := 39) (tgt := 46) hx hb dX11_bar_39 (by decide) (fun q => ?_) (fun q => ?_)
      · have h := ite_t q h
        refine lv_iconst (pc := 46) (v := 0) hx hb dX11_bar_46 (by decide) ?_
        exact s_iret F w h dX11_bar_47
      · have h := ite_f q h
        refine lv_iconst (pc := 42) (v := 1) hx hb dX11_bar_42 (by decide) ?_
        refine lv_goto (pc := 43) (tgt := 47) hx hb dX11_bar_43 (by decide) ?_
        exact s_iret F w h dX11_bar_47
    · have h := ite_f q h
      refine lv_iconst (pc := 20) (v := -1) hx hb dX11_bar_20 (by decide) ?_
      exact s_iret F w h dX11_bar_21
def f_Yard_table (a1 : Int32) (a2 : Int32) (S : SS) : Option (Int32 × SS) :=
  bnd (f_Yard_isNot a1 (0 : Int32) (7 : Int32) S) (fun r2 S1 =>
  if r2 = 0 then
    bnd (f_Yard_isNot a2 (0 : Int32) (99 : Int32) S1) (fun r4 S3 =>
    if r4 = 0 then
      bndv (f_History_forget  S3) (fun S5 =>
      grd (inb a1 8) (
      nm (S5.1 75 a1.toNatClampNeg) (fun z6 =>
      grd (inb a1 8) (wr S5 75 a1.toNatClampNeg a2 (fun S7 =>
      some (z6, S7))))))
    else
      some ((-1 : Int32), S3))
  else
    some ((-1 : Int32), S1))
theorem dX11_table_0 : decode cX11_table 0 = .ok (.iload_n 1, 1) := dc_27 (by decide +kernel)
theorem dX11_table_1 : decode cX11_table 1 = .ok (.iconst 0, 1) := dc_3 (by decide +kernel)
theorem dX11_table_2 : decode cX11_table 2 = .ok (.bipush 7, 2) := dc_16 (a := 7) (by decide +kernel) (by decide)
theorem dX11_table_4 : decode cX11_table 4 = .ok (.invokestatic 108, 3) := dc_184 (a := 0) (b := 108) (by decide +kernel)
theorem dX11_table_7 : decode cX11_table 7 = .ok (.ifCond .ne 13, 3) := dc_154 (a := 0) (b := 13) (by decide +kernel) (by decide)
theorem dX11_table_10 : decode cX11_table 10 = .ok (.iload_n 2, 1) := dc_28 (by decide +kernel)
theorem dX11_table_11 : decode cX11_table 11 = .ok (.iconst 0, 1) := dc_3 (by decide +kernel)
theorem dX11_table_12 : decode cX11_table 12 = .ok (.bipush 99, 2) := dc_16 (a := 99) (by decide +kernel) (by decide)
theorem dX11_table_14 : decode cX11_table 14 = .ok (.invokestatic 108, 3) := dc_184 (a := 0) (b := 108) (by decide +kernel)
theorem dX11_table_17 : decode cX11_table 17 = .ok (.ifCond .eq 5, 3) := dc_153 (a := 0) (b := 5) (by decide +kernel) (by decide)
theorem dX11_table_20 : decode cX11_table 20 = .ok (.iconst (-1), 1) := dc_2 (by decide +kernel)
theorem dX11_table_21 : decode cX11_table 21 = .ok (.ireturn, 1) := dc_172 (by decide +kernel)
theorem dX11_table_22 : decode cX11_table 22 = .ok (.aload_n 0, 1) := dc_42 (by decide +kernel)
theorem dX11_table_23 : decode cX11_table 23 = .ok (.getfield 26, 3) := dc_180 (a := 0) (b := 26) (by decide +kernel)
theorem dX11_table_26 : decode cX11_table 26 = .ok (.invokevirtual 102, 3) := dc_182 (a := 0) (b := 102) (by decide +kernel)
theorem dX11_table_29 : decode cX11_table 29 = .ok (.aload_n 0, 1) := dc_42 (by decide +kernel)
theorem dX11_table_30 : decode cX11_table 30 = .ok (.getfield 78, 3) := dc_180 (a := 0) (b := 78) (by decide +kernel)
theorem dX11_table_33 : decode cX11_table 33 = .ok (.iload_n 1, 1) := dc_27 (by decide +kernel)
theorem dX11_table_34 : decode cX11_table 34 = .ok (.iaload, 1) := dc_46 (by decide +kernel)
theorem dX11_table_35 : decode cX11_table 35 = .ok (.istore_n 3, 1) := dc_62 (by decide +kernel)
theorem dX11_table_36 : decode cX11_table 36 = .ok (.aload_n 0, 1) := dc_42 (by decide +kernel)
theorem dX11_table_37 : decode cX11_table 37 = .ok (.getfield 78, 3) := dc_180 (a := 0) (b := 78) (by decide +kernel)
theorem dX11_table_40 : decode cX11_table 40 = .ok (.iload_n 1, 1) := dc_27 (by decide +kernel)
theorem dX11_table_41 : decode cX11_table 41 = .ok (.iload_n 2, 1) := dc_28 (by decide +kernel)
theorem dX11_table_42 : decode cX11_table 42 = .ok (.iastore, 1) := dc_79 (by decide +kernel)
theorem dX11_table_43 : decode cX11_table 43 = .ok (.iload_n 3, 1) := dc_29 (by decide +kernel)
theorem dX11_table_44 : decode cX11_table 44 = .ok (.ireturn, 1) := dc_172 (by decide +kernel)
set_option maxRecDepth 100000 in
set_option maxHeartbeats 4000000 in
theorem m_Yard_table (a1 : Int32) (a2 : Int32) (S S' : SS) (r : Int32) (h : f_Yard_table a1 a2 S = some (r, S')) : MT yX11_table cX11_table 4 (some .int) 1 22 (fun ad => [.ref (ad 61), .int a1, .int a2]) S (some (.int r)) S' := by
  refine MT.of RX11 (fun ad => [(0, .ref (ad 61)), (1, .int a1), (2, .int a2)]) (by decide) rfl (fun _ => Nat.le_of_ble_eq_true rfl) (fun _ => rfl) ?_
  intro p l e R s m args below meth c dC dI cs ad A hR1 hR2 F H locs ls w hl
  have hx := F.1.1
  have hb := F.1.2.1
  rw [f_Yard_table] at h
  refine lv_iload_n (pc := 0) hx hb dX11_table_0 rfl (lv_at hl 1 rfl) ?_
  refine lv_iconst (pc := 1) (v := 0) hx hb dX11_table_1 (by decide) ?_
  refine lv_bipush (pc := 2) (v := 7) hx hb dX11_table_2 (by decide) ?_
  obtain ⟨r2, S1, hc, h⟩ := bnd_t h
  refine s_csi (pc := 4) [.int a1, .int (0 : Int32), .int (7 : Int32)] (fun ad => [.int a1, .int (0 : Int32), .int (7 : Int32)]) F w (m_Yard_isNot _ _ _ _ _ _ hc) rfl rfl hl.1 ok_X11_isNot rfl kc_X11_isNot kl_X11_108 ks_X11_isNot kn_X11 ⟨Nat.le_trans (by decide) hR1, Nat.le_trans (by decide) hR2⟩ ⟨Nat.zero_le _, Nat.zero_le _⟩ (Nat.le_of_ble_eq_true rfl) dX11_table_4 (fun H locs w => ?_)
  refine lv_if_ne (pc := 7) (tgt := 20) hx hb dX11_table_7 (by decide) (fun q => ?_) (fun q => ?_)
  · have h := ite_f q h
    refine lv_iconst (pc := 20) (v := -1) hx hb dX11_table_20 (by decide) ?_
    exact s_iret F w h dX11_table_21
  · have h := ite_t q h
    refine lv_iload_n (pc := 10) hx hb dX11_table_10 rfl (lv_at hl 2 rfl) ?_
    refine lv_iconst (pc := 11) (v := 0) hx hb dX11_table_11 (by decide) ?_
    refine lv_bipush (pc := 12) (v := 99) hx hb dX11_table_12 (by decide) ?_
    obtain ⟨r4, S3, hc, h⟩ := bnd_t h
    refine s_csi (pc := 14) [.int a2, .int (0 : Int32), .int (99 : Int32)] (fun ad => [.int a2, .int (0 : Int32), .int (99 : Int32)]) F w (m_Yard_isNot _ _ _ _ _ _ hc) rfl rfl hl.1 ok_X11_isNot rfl kc_X11_isNot kl_X11_108 ks_X11_isNot kn_X11 ⟨Nat.le_trans (by decide) hR1, Nat.le_trans (by decide) hR2⟩ ⟨Nat.zero_le _, Nat.zero_le _⟩ (Nat.le_of_ble_eq_true rfl) dX11_table_14 (fun H locs w => ?_)
    refine lv_if_eq (pc := 17) (tgt := 22) hx hb dX11_table_17 (by decide) (fun q => ?_) (fun q => ?_)
    · have h := ite_t q h
      refine lv_aload_n (pc := 22) hx hb dX11_table_22 rfl (lv_at hl 0 rfl) ?_
      refine s_getR (pc := 23) F w 64 ds_61 (j := 2) vc_X11 vi_X11 rfl (by decide) kf_X11_26 dX11_table_23 ?_
      obtain ⟨S5, hc, h⟩ := bndv_t h
      refine s_cvv (pc := 26) [] (fun ad => [.ref (ad 64)]) F w (m_History_forget  _ _ hc) rfl rfl hl.1 ds_64 vc_X1 rfl ok_X1_forget rfl kc_X1_forget kl_X11_102 ki_X1_forget kv_X1_forget kn_X1 ⟨Nat.le_trans (by decide) hR1, Nat.le_trans (by decide) hR2⟩ ⟨Nat.zero_le _, Nat.zero_le _⟩ (Nat.le_of_ble_eq_true rfl) dX11_table_26 (fun H locs w => ?_)
      refine lv_aload_n (pc := 29) hx hb dX11_table_29 rfl (lv_at hl 0 rfl) ?_
      refine s_getR (pc := 30) F w 75 ds_61 (j := 9) vc_X11 vi_X11 rfl (by decide) kf_X11_78 dX11_table_30 ?_
      refine lv_iload_n (pc := 33) hx hb dX11_table_33 rfl (lv_at hl 1 rfl) ?_
      refine s_iald (pc := 34) F w ds_75 h dX11_table_34 (fun h => ?_)
      refine s_nm h (fun z6 ez6 h => ?_)
      rw [← ez6]
      refine lv_istore_n (pc := 35) (lv' := [(3, .int z6), (0, .ref (ad 61)), (1, .int a1), (2, .int a2)]) hx hb dX11_table_35 rfl hl (by decide) rfl (fun ls hl => ?_)
      refine lv_aload_n (pc := 36) hx hb dX11_table_36 rfl (lv_at hl 1 rfl) ?_
      refine s_getR (pc := 37) F w 75 ds_61 (j := 9) vc_X11 vi_X11 rfl (by decide) kf_X11_78 dX11_table_37 ?_
      refine lv_iload_n (pc := 40) hx hb dX11_table_40 rfl (lv_at hl 2 rfl) ?_
      refine lv_iload_n (pc := 41) hx hb dX11_table_41 rfl (lv_at hl 3 rfl) ?_
      refine s_iast (pc := 42) F w ds_75 h dX11_table_42 (fun S7 H locs h w => ?_)
      refine lv_iload_n (pc := 43) hx hb dX11_table_43 rfl (lv_at hl 0 rfl) ?_
      exact s_iret F w h dX11_table_44
    · have h := ite_f q h
      refine lv_iconst (pc := 20) (v := -1) hx hb dX11_table_20 (by decide) ?_
      exact s_iret F w h dX11_table_21
def f_Routes_addRoute  (S : SS) : Option (Int32 × SS) :=
  if (S.1 67 8) < (12 : Int32) then
    wr S 67 8 ((S.1 67 8) + (1 : Int32)) (fun S1 =>
    some ((S1.1 67 8) - (1 : Int32), S1))
  else
    some ((-3 : Int32), S)
theorem dX6_addRoute_0 : decode cX6_addRoute 0 = .ok (.aload_n 0, 1) := dc_42 (by decide +kernel)
theorem dX6_addRoute_1 : decode cX6_addRoute 1 = .ok (.getfield 27, 3) := dc_180 (a := 0) (b := 27) (by decide +kernel)
theorem dX6_addRoute_4 : decode cX6_addRoute 4 = .ok (.bipush 12, 2) := dc_16 (a := 12) (by decide +kernel) (by decide)
theorem dX6_addRoute_6 : decode cX6_addRoute 6 = .ok (.if_icmp .lt 6, 3) := dc_161 (a := 0) (b := 6) (by decide +kernel) (by decide)
theorem dX6_addRoute_9 : decode cX6_addRoute 9 = .ok (.bipush (-3), 2) := dc_16 (a := 253) (by decide +kernel) (by decide)
theorem dX6_addRoute_11 : decode cX6_addRoute 11 = .ok (.ireturn, 1) := dc_172 (by decide +kernel)
theorem dX6_addRoute_12 : decode cX6_addRoute 12 = .ok (.aload_n 0, 1) := dc_42 (by decide +kernel)
theorem dX6_addRoute_13 : decode cX6_addRoute 13 = .ok (.dup, 1) := dc_89 (by decide +kernel)
theorem dX6_addRoute_14 : decode cX6_addRoute 14 = .ok (.getfield 27, 3) := dc_180 (a := 0) (b := 27) (by decide +kernel)
theorem dX6_addRoute_17 : decode cX6_addRoute 17 = .ok (.iconst 1, 1) := dc_4 (by decide +kernel)
theorem dX6_addRoute_18 : decode cX6_addRoute 18 = .ok (.iadd, 1) := dc_96 (by decide +kernel)
theorem dX6_addRoute_19 : decode cX6_addRoute 19 = .ok (.putfield 27, 3) := dc_181 (a := 0) (b := 27) (by decide +kernel)
theorem dX6_addRoute_22 : decode cX6_addRoute 22 = .ok (.aload_n 0, 1) := dc_42 (by decide +kernel)
theorem dX6_addRoute_23 : decode cX6_addRoute 23 = .ok (.getfield 27, 3) := dc_180 (a := 0) (b := 27) (by decide +kernel)
theorem dX6_addRoute_26 : decode cX6_addRoute 26 = .ok (.iconst 1, 1) := dc_4 (by decide +kernel)
theorem dX6_addRoute_27 : decode cX6_addRoute 27 = .ok (.isub, 1) := dc_100 (by decide +kernel)
theorem dX6_addRoute_28 : decode cX6_addRoute 28 = .ok (.ireturn, 1) := dc_172 (by decide +kernel)
set_option maxRecDepth 100000 in
set_option maxHeartbeats 4000000 in
theorem m_Routes_addRoute  (S S' : SS) (r : Int32) (h : f_Routes_addRoute  S = some (r, S')) : MT yX6_addRoute cX6_addRoute 1 (some .int) 0 0 (fun ad => [.ref (ad 67)]) S (some (.int r)) S' := by
  refine MT.of RX6 (fun ad => [(0, .ref (ad 67))]) (by decide) rfl (fun _ => Nat.le_of_ble_eq_true rfl) (fun _ => rfl) ?_
  intro p l e R s m args below meth c dC dI cs ad A hR1 hR2 F H locs ls w hl
  have hx := F.1.1
  have hb := F.1.2.1
  rw [f_Routes_addRoute] at h
  refine lv_aload_n (pc := 0) hx hb dX6_addRoute_0 rfl (lv_at hl 0 rfl) ?_
  refine s_getI (pc := 1) F w ds_67 (j := 8) vc_X6 vi_X6 rfl (by decide) kf_X6_27 dX6_addRoute_1 ?_
  refine lv_bipush (pc := 4) (v := 12) hx hb dX6_addRoute_4 (by decide) ?_
  refine lv_icmp_lt (pc := 6) (tgt := 12) hx hb dX6_addRoute_6 (by decide) (fun q => ?_) (fun q => ?_)
  · have h := ite_t q h
    refine lv_aload_n (pc := 12) hx hb dX6_addRoute_12 rfl (lv_at hl 0 rfl) ?_
    refine lv_dup (pc := 13) hx hb dX6_addRoute_13 rfl ?_
    refine s_getI (pc := 14) F w ds_67 (j := 8) vc_X6 vi_X6 rfl (by decide) kf_X6_27 dX6_addRoute_14 ?_
    refine lv_iconst (pc := 17) (v := 1) hx hb dX6_addRoute_17 (by decide) ?_
    refine lv_iadd (pc := 18) hx hb dX6_addRoute_18 ?_
    refine s_putI (pc := 19) F w ds_67 vc_X6 vi_X6 tyX6_ok nmX6 (j := 8) rfl (by decide) kf_X6_27 rfl pd_I h dX6_addRoute_19 (fun S1 H locs h w => ?_)
    refine lv_aload_n (pc := 22) hx hb dX6_addRoute_22 rfl (lv_at hl 0 rfl) ?_
    refine s_getI (pc := 23) F w ds_67 (j := 8) vc_X6 vi_X6 rfl (by decide) kf_X6_27 dX6_addRoute_23 ?_
    refine lv_iconst (pc := 26) (v := 1) hx hb dX6_addRoute_26 (by decide) ?_
    refine lv_isub (pc := 27) hx hb dX6_addRoute_27 ?_
    exact s_iret F w h dX6_addRoute_28
  · have h := ite_f q h
    refine lv_bipush (pc := 9) (v := -3) hx hb dX6_addRoute_9 (by decide) ?_
    exact s_iret F w h dX6_addRoute_11
def f_Yard_route  (S : SS) : Option (Int32 × SS) :=
  if (S.1 67 8) < (12 : Int32) then
    bndv (f_History_forget  S) (fun S1 =>
    bnd (f_Routes_addRoute  S1) (fun r3 S2 =>
    some (r3, S2)))
  else
    some ((-3 : Int32), S)
theorem dX11_route_0 : decode cX11_route 0 = .ok (.aload_n 0, 1) := dc_42 (by decide +kernel)
theorem dX11_route_1 : decode cX11_route 1 = .ok (.getfield 51, 3) := dc_180 (a := 0) (b := 51) (by decide +kernel)
theorem dX11_route_4 : decode cX11_route 4 = .ok (.getfield 168, 3) := dc_180 (a := 0) (b := 168) (by decide +kernel)
theorem dX11_route_7 : decode cX11_route 7 = .ok (.bipush 12, 2) := dc_16 (a := 12) (by decide +kernel) (by decide)
theorem dX11_route_9 : decode cX11_route 9 = .ok (.if_icmp .lt 6, 3) := dc_161 (a := 0) (b := 6) (by decide +kernel) (by decide)
theorem dX11_route_12 : decode cX11_route 12 = .ok (.bipush (-3), 2) := dc_16 (a := 253) (by decide +kernel) (by decide)
theorem dX11_route_14 : decode cX11_route 14 = .ok (.ireturn, 1) := dc_172 (by decide +kernel)
theorem dX11_route_15 : decode cX11_route 15 = .ok (.aload_n 0, 1) := dc_42 (by decide +kernel)
theorem dX11_route_16 : decode cX11_route 16 = .ok (.getfield 26, 3) := dc_180 (a := 0) (b := 26) (by decide +kernel)
theorem dX11_route_19 : decode cX11_route 19 = .ok (.invokevirtual 102, 3) := dc_182 (a := 0) (b := 102) (by decide +kernel)
theorem dX11_route_22 : decode cX11_route 22 = .ok (.aload_n 0, 1) := dc_42 (by decide +kernel)
theorem dX11_route_23 : decode cX11_route 23 = .ok (.getfield 51, 3) := dc_180 (a := 0) (b := 51) (by decide +kernel)
theorem dX11_route_26 : decode cX11_route 26 = .ok (.invokevirtual 169, 3) := dc_182 (a := 0) (b := 169) (by decide +kernel)
theorem dX11_route_29 : decode cX11_route 29 = .ok (.ireturn, 1) := dc_172 (by decide +kernel)
set_option maxRecDepth 100000 in
set_option maxHeartbeats 4000000 in
theorem m_Yard_route  (S S' : SS) (r : Int32) (h : f_Yard_route  S = some (r, S')) : MT yX11_route cX11_route 1 (some .int) 1 20 (fun ad => [.ref (ad 61)]) S (some (.int r)) S' := by
  refine MT.of RX11 (fun ad => [(0, .ref (ad 61))]) (by decide) rfl (fun _ => Nat.le_of_ble_eq_true rfl) (fun _ => rfl) ?_
  intro p l e R s m args below meth c dC dI cs ad A hR1 hR2 F H locs ls w hl
  have hx := F.1.1
  have hb := F.1.2.1
  rw [f_Yard_route] at h
  refine lv_aload_n (pc := 0) hx hb dX11_route_0 rfl (lv_at hl 0 rfl) ?_
  refine s_getR (pc := 1) F w 67 ds_61 (j := 5) vc_X11 vi_X11 rfl (by decide) kf_X11_51 dX11_route_1 ?_
  refine s_getI (pc := 4) F w ds_67 (j := 8) vc_X6 vi_X6 rfl (by decide) kf_X11_168 dX11_route_4 ?_
  refine lv_bipush (pc := 7) (v := 12) hx hb dX11_route_7 (by decide) ?_
  refine lv_icmp_lt (pc := 9) (tgt := 15) hx hb dX11_route_9 (by decide) (fun q => ?_) (fun q => ?_)
  · have h := ite_t q h
    refine lv_aload_n (pc := 15) hx hb dX11_route_15 rfl (lv_at hl 0 rfl) ?_
    refine s_getR (pc := 16) F w 64 ds_61 (j := 2) vc_X11 vi_X11 rfl (by decide) kf_X11_26 dX11_route_16 ?_
    obtain ⟨S1, hc, h⟩ := bndv_t h
    refine s_cvv (pc := 19) [] (fun ad => [.ref (ad 64)]) F w (m_History_forget  _ _ hc) rfl rfl hl.1 ds_64 vc_X1 rfl ok_X1_forget rfl kc_X1_forget kl_X11_102 ki_X1_forget kv_X1_forget kn_X1 ⟨Nat.le_trans (by decide) hR1, Nat.le_trans (by decide) hR2⟩ ⟨Nat.zero_le _, Nat.zero_le _⟩ (Nat.le_of_ble_eq_true rfl) dX11_route_19 (fun H locs w => ?_)
    refine lv_aload_n (pc := 22) hx hb dX11_route_22 rfl (lv_at hl 0 rfl) ?_
    refine s_getR (pc := 23) F w 67 ds_61 (j := 5) vc_X11 vi_X11 rfl (by decide) kf_X11_51 dX11_route_23 ?_
    obtain ⟨r3, S2, hc, h⟩ := bnd_t h
    refine s_cvi (pc := 26) [] (fun ad => [.ref (ad 67)]) F w (m_Routes_addRoute  _ _ _ hc) rfl rfl hl.1 ds_67 vc_X6 rfl ok_X6_addRoute rfl kc_X6_addRoute kl_X11_169 ki_X6_addRoute kv_X6_addRoute kn_X6 ⟨Nat.le_trans (by decide) hR1, Nat.le_trans (by decide) hR2⟩ ⟨Nat.zero_le _, Nat.zero_le _⟩ (Nat.le_of_ble_eq_true rfl) dX11_route_26 (fun H locs w => ?_)
    exact s_iret F w h dX11_route_29
  · have h := ite_f q h
    refine lv_bipush (pc := 12) (v := -3) hx hb dX11_route_12 (by decide) ?_
    exact s_iret F w h dX11_route_14
def f_Routes_routeFinding (a1 : Int32) (S : SS) : Option (Int32 × SS) :=
  if a1 < 0 then
    some ((3 : Int32), S)
  else
    if a1 < (12 : Int32) then
      if (S.1 67 8) ≤ a1 then
        some ((1 : Int32), S)
      else
        some ((0 : Int32), S)
    else
      some ((3 : Int32), S)
theorem dX6_routeFinding_0 : decode cX6_routeFinding 0 = .ok (.iload_n 1, 1) := dc_27 (by decide +kernel)
theorem dX6_routeFinding_1 : decode cX6_routeFinding 1 = .ok (.ifCond .lt 9, 3) := dc_155 (a := 0) (b := 9) (by decide +kernel) (by decide)
theorem dX6_routeFinding_4 : decode cX6_routeFinding 4 = .ok (.iload_n 1, 1) := dc_27 (by decide +kernel)
theorem dX6_routeFinding_5 : decode cX6_routeFinding 5 = .ok (.bipush 12, 2) := dc_16 (a := 12) (by decide +kernel) (by decide)
theorem dX6_routeFinding_7 : decode cX6_routeFinding 7 = .ok (.if_icmp .lt 5, 3) := dc_161 (a := 0) (b := 5) (by decide +kernel) (by decide)
theorem dX6_routeFinding_10 : decode cX6_routeFinding 10 = .ok (.iconst 3, 1) := dc_6 (by decide +kernel)
theorem dX6_routeFinding_11 : decode cX6_routeFinding 11 = .ok (.ireturn, 1) := dc_172 (by decide +kernel)
theorem dX6_routeFinding_12 : decode cX6_routeFinding 12 = .ok (.iload_n 1, 1) := dc_27 (by decide +kernel)
theorem dX6_routeFinding_13 : decode cX6_routeFinding 13 = .ok (.aload_n 0, 1) := dc_42 (by decide +kernel)
theorem dX6_routeFinding_14 : decode cX6_routeFinding 14 = .ok (.getfield 27, 3) := dc_180 (a := 0) (b := 27) (by decide +kernel)
theorem dX6_routeFinding_17 : decode cX6_routeFinding 17 = .ok (.if_icmp .ge 7, 3) := dc_162 (a := 0) (b := 7) (by decide +kernel) (by decide)
theorem dX6_routeFinding_20 : decode cX6_routeFinding 20 = .ok (.iconst 0, 1) := dc_3 (by decide +kernel)
theorem dX6_routeFinding_21 : decode cX6_routeFinding 21 = .ok (.goto 4, 3) := dc_167 (a := 0) (b := 4) (by decide +kernel) (by decide)
theorem dX6_routeFinding_24 : decode cX6_routeFinding 24 = .ok (.iconst 1, 1) := dc_4 (by decide +kernel)
theorem dX6_routeFinding_25 : decode cX6_routeFinding 25 = .ok (.ireturn, 1) := dc_172 (by decide +kernel)
set_option maxRecDepth 100000 in
set_option maxHeartbeats 4000000 in
theorem m_Routes_routeFinding (a1 : Int32) (S S' : SS) (r : Int32) (h : f_Routes_routeFinding a1 S = some (r, S')) : MT yX6_routeFinding cX6_routeFinding 2 (some .int) 0 0 (fun ad => [.ref (ad 67), .int a1]) S (some (.int r)) S' := by
  refine MT.of RX6 (fun ad => [(0, .ref (ad 67)), (1, .int a1)]) (by decide) rfl (fun _ => Nat.le_of_ble_eq_true rfl) (fun _ => rfl) ?_
  intro p l e R s m args below meth c dC dI cs ad A hR1 hR2 F H locs ls w hl
  have hx := F.1.1
  have hb := F.1.2.1
  rw [f_Routes_routeFinding] at h
  refine lv_iload_n (pc := 0) hx hb dX6_routeFinding_0 rfl (lv_at hl 1 rfl) ?_
  refine lv_if_lt (pc := 1) (tgt := 10) hx hb dX6_routeFinding_1 (by decide) (fun q => ?_) (fun q => ?_)
  · have h := ite_t q h
    refine lv_iconst (pc := 10) (v := 3) hx hb dX6_routeFinding_10 (by decide) ?_
    exact s_iret F w h dX6_routeFinding_11
  · have h := ite_f q h
    refine lv_iload_n (pc := 4) hx hb dX6_routeFinding_4 rfl (lv_at hl 1 rfl) ?_
    refine lv_bipush (pc := 5) (v := 12) hx hb dX6_routeFinding_5 (by decide) ?_
    refine lv_icmp_lt (pc := 7) (tgt := 12) hx hb dX6_routeFinding_7 (by decide) (fun q => ?_) (fun q => ?_)
    · have h := ite_t q h
      refine lv_iload_n (pc := 12) hx hb dX6_routeFinding_12 rfl (lv_at hl 1 rfl) ?_
      refine lv_aload_n (pc := 13) hx hb dX6_routeFinding_13 rfl (lv_at hl 0 rfl) ?_
      refine s_getI (pc := 14) F w ds_67 (j := 8) vc_X6 vi_X6 rfl (by decide) kf_X6_27 dX6_routeFinding_14 ?_
      refine lv_icmp_ge (pc := 17) (tgt := 24) hx hb dX6_routeFinding_17 (by decide) (fun q => ?_) (fun q => ?_)
      · have h := ite_t q h
        refine lv_iconst (pc := 24) (v := 1) hx hb dX6_routeFinding_24 (by decide) ?_
        exact s_iret F w h dX6_routeFinding_25
      · have h := ite_f q h
        refine lv_iconst (pc := 20) (v := 0) hx hb dX6_routeFinding_20 (by decide) ?_
        refine lv_goto (pc := 21) (tgt := 25) hx hb dX6_routeFinding_21 (by decide) ?_
        exact s_iret F w h dX6_routeFinding_25
    · have h := ite_f q h
      refine lv_iconst (pc := 10) (v := 3) hx hb dX6_routeFinding_10 (by decide) ?_
      exact s_iret F w h dX6_routeFinding_11
def f_Routes_entriesOf (a1 : Int32) (S : SS) : Option (Int32 × SS) :=
  if a1 < 0 then
    some ((0 : Int32), S)
  else
    if (S.1 67 8) ≤ a1 then
      some ((0 : Int32), S)
    else
      grd (inb a1 12) (
      some (S.1 99 a1.toNatClampNeg, S))
theorem dX6_entriesOf_0 : decode cX6_entriesOf 0 = .ok (.iload_n 1, 1) := dc_27 (by decide +kernel)
theorem dX6_entriesOf_1 : decode cX6_entriesOf 1 = .ok (.ifCond .lt 20, 3) := dc_155 (a := 0) (b := 20) (by decide +kernel) (by decide)
theorem dX6_entriesOf_4 : decode cX6_entriesOf 4 = .ok (.iload_n 1, 1) := dc_27 (by decide +kernel)
theorem dX6_entriesOf_5 : decode cX6_entriesOf 5 = .ok (.aload_n 0, 1) := dc_42 (by decide +kernel)
theorem dX6_entriesOf_6 : decode cX6_entriesOf 6 = .ok (.getfield 27, 3) := dc_180 (a := 0) (b := 27) (by decide +kernel)
theorem dX6_entriesOf_9 : decode cX6_entriesOf 9 = .ok (.if_icmp .ge 12, 3) := dc_162 (a := 0) (b := 12) (by decide +kernel) (by decide)
theorem dX6_entriesOf_12 : decode cX6_entriesOf 12 = .ok (.aload_n 0, 1) := dc_42 (by decide +kernel)
theorem dX6_entriesOf_13 : decode cX6_entriesOf 13 = .ok (.getfield 11, 3) := dc_180 (a := 0) (b := 11) (by decide +kernel)
theorem dX6_entriesOf_16 : decode cX6_entriesOf 16 = .ok (.iload_n 1, 1) := dc_27 (by decide +kernel)
theorem dX6_entriesOf_17 : decode cX6_entriesOf 17 = .ok (.iaload, 1) := dc_46 (by decide +kernel)
theorem dX6_entriesOf_18 : decode cX6_entriesOf 18 = .ok (.goto 4, 3) := dc_167 (a := 0) (b := 4) (by decide +kernel) (by decide)
theorem dX6_entriesOf_21 : decode cX6_entriesOf 21 = .ok (.iconst 0, 1) := dc_3 (by decide +kernel)
theorem dX6_entriesOf_22 : decode cX6_entriesOf 22 = .ok (.ireturn, 1) := dc_172 (by decide +kernel)
set_option maxRecDepth 100000 in
set_option maxHeartbeats 4000000 in
theorem m_Routes_entriesOf (a1 : Int32) (S S' : SS) (r : Int32) (h : f_Routes_entriesOf a1 S = some (r, S')) : MT yX6_entriesOf cX6_entriesOf 2 (some .int) 0 0 (fun ad => [.ref (ad 67), .int a1]) S (some (.int r)) S' := by
  refine MT.of RX6 (fun ad => [(0, .ref (ad 67)), (1, .int a1)]) (by decide) rfl (fun _ => Nat.le_of_ble_eq_true rfl) (fun _ => rfl) ?_
  intro p l e R s m args below meth c dC dI cs ad A hR1 hR2 F H locs ls w hl
  have hx := F.1.1
  have hb := F.1.2.1
  rw [f_Routes_entriesOf] at h
  refine lv_iload_n (pc := 0) hx hb dX6_entriesOf_0 rfl (lv_at hl 1 rfl) ?_
  refine lv_if_lt (pc := 1) (tgt := 21) hx hb dX6_entriesOf_1 (by decide) (fun q => ?_) (fun q => ?_)
  · have h := ite_t q h
    refine lv_iconst (pc := 21) (v := 0) hx hb dX6_entriesOf_21 (by decide) ?_
    exact s_iret F w h dX6_entriesOf_22
  · have h := ite_f q h
    refine lv_iload_n (pc := 4) hx hb dX6_entriesOf_4 rfl (lv_at hl 1 rfl) ?_
    refine lv_aload_n (pc := 5) hx hb dX6_entriesOf_5 rfl (lv_at hl 0 rfl) ?_
    refine s_getI (pc := 6) F w ds_67 (j := 8) vc_X6 vi_X6 rfl (by decide) kf_X6_27 dX6_entriesOf_6 ?_
    refine lv_icmp_ge (pc := 9) (tgt := 21) hx hb dX6_entriesOf_9 (by decide) (fun q => ?_) (fun q => ?_)
    · have h := ite_t q h
      refine lv_iconst (pc := 21) (v := 0) hx hb dX6_entriesOf_21 (by decide) ?_
      exact s_iret F w h dX6_entriesOf_22
    · have h := ite_f q h
      refine lv_aload_n (pc := 12) hx hb dX6_entriesOf_12 rfl (lv_at hl 0 rfl) ?_
      refine s_getR (pc := 13) F w 99 ds_67 (j := 3) vc_X6 vi_X6 rfl (by decide) kf_X6_11 dX6_entriesOf_13 ?_
      refine lv_iload_n (pc := 16) hx hb dX6_entriesOf_16 rfl (lv_at hl 1 rfl) ?_
      refine s_iald (pc := 17) F w ds_99 h dX6_entriesOf_17 (fun h => ?_)
      refine lv_goto (pc := 18) (tgt := 22) hx hb dX6_entriesOf_18 (by decide) ?_
      exact s_iret F w h dX6_entriesOf_22
def f_Routes_putEntry (a1 : Int32) (a2 : Int32) (a3 : Int32) (a4 : Int32) (S : SS) : Option (SS) :=
  grd (inb a1 96) (wr S 100 a1.toNatClampNeg a2 (fun S1 =>
  grd (inb a1 96) (wr S1 101 a1.toNatClampNeg a3 (fun S2 =>
  grd (inb a1 96) (wr S2 102 a1.toNatClampNeg a4 (fun S3 =>
  some S3))))))
theorem dX6_putEntry_0 : decode cX6_putEntry 0 = .ok (.aload_n 0, 1) := dc_42 (by decide +kernel)
theorem dX6_putEntry_1 : decode cX6_putEntry 1 = .ok (.getfield 15, 3) := dc_180 (a := 0) (b := 15) (by decide +kernel)
theorem dX6_putEntry_4 : decode cX6_putEntry 4 = .ok (.iload_n 1, 1) := dc_27 (by decide +kernel)
theorem dX6_putEntry_5 : decode cX6_putEntry 5 = .ok (.iload_n 2, 1) := dc_28 (by decide +kernel)
theorem dX6_putEntry_6 : decode cX6_putEntry 6 = .ok (.iastore, 1) := dc_79 (by decide +kernel)
theorem dX6_putEntry_7 : decode cX6_putEntry 7 = .ok (.aload_n 0, 1) := dc_42 (by decide +kernel)
theorem dX6_putEntry_8 : decode cX6_putEntry 8 = .ok (.getfield 18, 3) := dc_180 (a := 0) (b := 18) (by decide +kernel)
theorem dX6_putEntry_11 : decode cX6_putEntry 11 = .ok (.iload_n 1, 1) := dc_27 (by decide +kernel)
theorem dX6_putEntry_12 : decode cX6_putEntry 12 = .ok (.iload_n 3, 1) := dc_29 (by decide +kernel)
theorem dX6_putEntry_13 : decode cX6_putEntry 13 = .ok (.iastore, 1) := dc_79 (by decide +kernel)
theorem dX6_putEntry_14 : decode cX6_putEntry 14 = .ok (.aload_n 0, 1) := dc_42 (by decide +kernel)
theorem dX6_putEntry_15 : decode cX6_putEntry 15 = .ok (.getfield 21, 3) := dc_180 (a := 0) (b := 21) (by decide +kernel)
theorem dX6_putEntry_18 : decode cX6_putEntry 18 = .ok (.iload_n 1, 1) := dc_27 (by decide +kernel)
theorem dX6_putEntry_19 : decode cX6_putEntry 19 = .ok (.iload 4, 2) := dc_21 (a := 4) (by decide +kernel)
theorem dX6_putEntry_21 : decode cX6_putEntry 21 = .ok (.iastore, 1) := dc_79 (by decide +kernel)
theorem dX6_putEntry_22 : decode cX6_putEntry 22 = .ok (.return_, 1) := dc_177 (by decide +kernel)
set_option maxRecDepth 100000 in
set_option maxHeartbeats 4000000 in
theorem m_Routes_putEntry (a1 : Int32) (a2 : Int32) (a3 : Int32) (a4 : Int32) (S S' : SS) (h : f_Routes_putEntry a1 a2 a3 a4 S = some S') : MT yX6_putEntry cX6_putEntry 5 none 0 0 (fun ad => [.ref (ad 67), .int a1, .int a2, .int a3, .int a4]) S none S' := by
  refine MT.of RX6 (fun ad => [(0, .ref (ad 67)), (1, .int a1), (2, .int a2), (3, .int a3), (4, .int a4)]) (by decide) rfl (fun _ => Nat.le_of_ble_eq_true rfl) (fun _ => rfl) ?_
  intro p l e R s m args below meth c dC dI cs ad A hR1 hR2 F H locs ls w hl
  have hx := F.1.1
  have hb := F.1.2.1
  rw [f_Routes_putEntry] at h
  refine lv_aload_n (pc := 0) hx hb dX6_putEntry_0 rfl (lv_at hl 0 rfl) ?_
  refine s_getR (pc := 1) F w 100 ds_67 (j := 4) vc_X6 vi_X6 rfl (by decide) kf_X6_15 dX6_putEntry_1 ?_
  refine lv_iload_n (pc := 4) hx hb dX6_putEntry_4 rfl (lv_at hl 1 rfl) ?_
  refine lv_iload_n (pc := 5) hx hb dX6_putEntry_5 rfl (lv_at hl 2 rfl) ?_
  refine s_iast (pc := 6) F w ds_100 h dX6_putEntry_6 (fun S1 H locs h w => ?_)
  refine lv_aload_n (pc := 7) hx hb dX6_putEntry_7 rfl (lv_at hl 0 rfl) ?_
  refine s_getR (pc := 8) F w 101 ds_67 (j := 5) vc_X6 vi_X6 rfl (by decide) kf_X6_18 dX6_putEntry_8 ?_
  refine lv_iload_n (pc := 11) hx hb dX6_putEntry_11 rfl (lv_at hl 1 rfl) ?_
  refine lv_iload_n (pc := 12) hx hb dX6_putEntry_12 rfl (lv_at hl 3 rfl) ?_
  refine s_iast (pc := 13) F w ds_101 h dX6_putEntry_13 (fun S2 H locs h w => ?_)
  refine lv_aload_n (pc := 14) hx hb dX6_putEntry_14 rfl (lv_at hl 0 rfl) ?_
  refine s_getR (pc := 15) F w 102 ds_67 (j := 6) vc_X6 vi_X6 rfl (by decide) kf_X6_21 dX6_putEntry_15 ?_
  refine lv_iload_n (pc := 18) hx hb dX6_putEntry_18 rfl (lv_at hl 1 rfl) ?_
  refine lv_iload (pc := 19) hx hb dX6_putEntry_19 (lv_at hl 4 rfl) ?_
  refine s_iast (pc := 21) F w ds_102 h dX6_putEntry_21 (fun S3 H locs h w => ?_)
  exact s_vret F w h dX6_putEntry_22
def f_Routes_isBehind (a1 : Int32) (a2 : Int32) (a3 : Int32) (S : SS) : Option (Int32 × SS) :=
  grd (inb a1 96) (
  if a3 < (S.1 102 a1.toNatClampNeg) then
    some ((1 : Int32), S)
  else
    grd (inb a1 96) (
    if (S.1 102 a1.toNatClampNeg) = a3 then
      grd (inb a1 96) (
      if (S.1 100 a1.toNatClampNeg) ≤ a2 then
        some ((0 : Int32), S)
      else
        some ((1 : Int32), S))
    else
      some ((0 : Int32), S)))
theorem dX6_isBehind_0 : decode cX6_isBehind 0 = .ok (.aload_n 0, 1) := dc_42 (by decide +kernel)
theorem dX6_isBehind_1 : decode cX6_isBehind 1 = .ok (.getfield 21, 3) := dc_180 (a := 0) (b := 21) (by decide +kernel)
theorem dX6_isBehind_4 : decode cX6_isBehind 4 = .ok (.iload_n 1, 1) := dc_27 (by decide +kernel)
theorem dX6_isBehind_5 : decode cX6_isBehind 5 = .ok (.iaload, 1) := dc_46 (by decide +kernel)
theorem dX6_isBehind_6 : decode cX6_isBehind 6 = .ok (.iload_n 3, 1) := dc_29 (by decide +kernel)
theorem dX6_isBehind_7 : decode cX6_isBehind 7 = .ok (.if_icmp .gt 23, 3) := dc_163 (a := 0) (b := 23) (by decide +kernel) (by decide)
theorem dX6_isBehind_10 : decode cX6_isBehind 10 = .ok (.aload_n 0, 1) := dc_42 (by decide +kernel)
theorem dX6_isBehind_11 : decode cX6_isBehind 11 = .ok (.getfield 21, 3) := dc_180 (a := 0) (b := 21) (by decide +kernel)
theorem dX6_isBehind_14 : decode cX6_isBehind 14 = .ok (.iload_n 1, 1) := dc_27 (by decide +kernel)
theorem dX6_isBehind_15 : decode cX6_isBehind 15 = .ok (.iaload, 1) := dc_46 (by decide +kernel)
theorem dX6_isBehind_16 : decode cX6_isBehind 16 = .ok (.iload_n 3, 1) := dc_29 (by decide +kernel)
theorem dX6_isBehind_17 : decode cX6_isBehind 17 = .ok (.if_icmp .ne 17, 3) := dc_160 (a := 0) (b := 17) (by decide +kernel) (by decide)
theorem dX6_isBehind_20 : decode cX6_isBehind 20 = .ok (.aload_n 0, 1) := dc_42 (by decide +kernel)
theorem dX6_isBehind_21 : decode cX6_isBehind 21 = .ok (.getfield 15, 3) := dc_180 (a := 0) (b := 15) (by decide +kernel)
theorem dX6_isBehind_24 : decode cX6_isBehind 24 = .ok (.iload_n 1, 1) := dc_27 (by decide +kernel)
theorem dX6_isBehind_25 : decode cX6_isBehind 25 = .ok (.iaload, 1) := dc_46 (by decide +kernel)
theorem dX6_isBehind_26 : decode cX6_isBehind 26 = .ok (.iload_n 2, 1) := dc_28 (by decide +kernel)
theorem dX6_isBehind_27 : decode cX6_isBehind 27 = .ok (.if_icmp .le 7, 3) := dc_164 (a := 0) (b := 7) (by decide +kernel) (by decide)
theorem dX6_isBehind_30 : decode cX6_isBehind 30 = .ok (.iconst 1, 1) := dc_4 (by decide +kernel)
theorem dX6_isBehind_31 : decode cX6_isBehind 31 = .ok (.goto 4, 3) := dc_167 (a := 0) (b := 4) (by decide +kernel) (by decide)
theorem dX6_isBehind_34 : decode cX6_isBehind 34 = .ok (.iconst 0, 1) := dc_3 (by decide +kernel)
theorem dX6_isBehind_35 : decode cX6_isBehind 35 = .ok (.ireturn, 1) := dc_172 (by decide +kernel)
set_option maxRecDepth 100000 in
set_option maxHeartbeats 4000000 in
theorem m_Routes_isBehind (a1 : Int32) (a2 : Int32) (a3 : Int32) (S S' : SS) (r : Int32) (h : f_Routes_isBehind a1 a2 a3 S = some (r, S')) : MT yX6_isBehind cX6_isBehind 4 (some .boolean) 0 0 (fun ad => [.ref (ad 67), .int a1, .int a2, .int a3]) S (some (.int r)) S' := by
  refine MT.of RX6 (fun ad => [(0, .ref (ad 67)), (1, .int a1), (2, .int a2), (3, .int a3)]) (by decide) rfl (fun _ => Nat.le_of_ble_eq_true rfl) (fun _ => rfl) ?_
  intro p l e R s m args below meth c dC dI cs ad A hR1 hR2 F H locs ls w hl
  have hx := F.1.1
  have hb := F.1.2.1
  rw [f_Routes_isBehind] at h
  refine lv_aload_n (pc := 0) hx hb dX6_isBehind_0 rfl (lv_at hl 0 rfl) ?_
  refine s_getR (pc := 1) F w 102 ds_67 (j := 6) vc_X6 vi_X6 rfl (by decide) kf_X6_21 dX6_isBehind_1 ?_
  refine lv_iload_n (pc := 4) hx hb dX6_isBehind_4 rfl (lv_at hl 1 rfl) ?_
  refine s_iald (pc := 5) F w ds_102 h dX6_isBehind_5 (fun h => ?_)
  refine lv_iload_n (pc := 6) hx hb dX6_isBehind_6 rfl (lv_at hl 3 rfl) ?_
  refine lv_icmp_gt (pc := 7) (tgt := 30) hx hb dX6_isBehind_7 (by decide) (fun q => ?_) (fun q => ?_)
  · have h := ite_t q h
    refine lv_iconst (pc := 30) (v := 1) hx hb dX6_isBehind_30 (by decide) ?_
    refine lv_goto (pc := 31) (tgt := 35) hx hb dX6_isBehind_31 (by decide) ?_
    exact s_zretc F w rfl h dX6_isBehind_35
  · have h := ite_f q h
    refine lv_aload_n (pc := 10) hx hb dX6_isBehind_10 rfl (lv_at hl 0 rfl) ?_
    refine s_getR (pc := 11) F w 102 ds_67 (j := 6) vc_X6 vi_X6 rfl (by decide) kf_X6_21 dX6_isBehind_11 ?_
    refine lv_iload_n (pc := 14) hx hb dX6_isBehind_14 rfl (lv_at hl 1 rfl) ?_
    refine s_iald (pc := 15) F w ds_102 h dX6_isBehind_15 (fun h => ?_)
    refine lv_iload_n (pc := 16) hx hb dX6_isBehind_16 rfl (lv_at hl 3 rfl) ?_
    refine lv_icmp_ne (pc := 17) (tgt := 34) hx hb dX6_isBehind_17 (by decide) (fun q => ?_) (fun q => ?_)
    · have h := ite_f q h
      refine lv_iconst (pc := 34) (v := 0) hx hb dX6_isBehind_34 (by decide) ?_
      exact s_zretc F w rfl h dX6_isBehind_35
    · have h := ite_t q h
      refine lv_aload_n (pc := 20) hx hb dX6_isBehind_20 rfl (lv_at hl 0 rfl) ?_
      refine s_getR (pc := 21) F w 100 ds_67 (j := 4) vc_X6 vi_X6 rfl (by decide) kf_X6_15 dX6_isBehind_21 ?_
      refine lv_iload_n (pc := 24) hx hb dX6_isBehind_24 rfl (lv_at hl 1 rfl) ?_
      refine s_iald (pc := 25) F w ds_100 h dX6_isBehind_25 (fun h => ?_)
      refine lv_iload_n (pc := 26) hx hb dX6_isBehind_26 rfl (lv_at hl 2 rfl) ?_
      refine lv_icmp_le (pc := 27) (tgt := 34) hx hb dX6_isBehind_27 (by decide) (fun q => ?_) (fun q => ?_)
      · have h := ite_t q h
        refine lv_iconst (pc := 34) (v := 0) hx hb dX6_isBehind_34 (by decide) ?_
        exact s_zretc F w rfl h dX6_isBehind_35
      · have h := ite_f q h
        refine lv_iconst (pc := 30) (v := 1) hx hb dX6_isBehind_30 (by decide) ?_
        refine lv_goto (pc := 31) (tgt := 35) hx hb dX6_isBehind_31 (by decide) ?_
        exact s_zretc F w rfl h dX6_isBehind_35
def f_Routes_addEntry_j102  (x1 : Int32) (x2 : Int32) (x3 : Int32) (x4 : Int32) (x7 : Int32) (S : SS) : Option (Int32 × SS) :=
    bndv (f_Routes_putEntry x7 x2 x3 x4 S) (fun S5 =>
    grd (inb x1 12) (
    grd (inb x1 12) (wr S5 99 x1.toNatClampNeg ((S5.1 99 x1.toNatClampNeg) + (1 : Int32)) (fun S6 =>
    grd (inb x1 12) (
    some (S6.1 99 x1.toNatClampNeg, S6))))))
def f_Routes_addEntry_L42  : Nat → Int32 → Int32 → Int32 → Int32 → Int32 → Int32 → SS → Option (Int32 × SS)
  | 0, _, _, _, _, _, _, _ => none
  | n + 1, x1, x2, x3, x4, x6, x7, S =>
    if x7 ≤ x6 then
      f_Routes_addEntry_j102 x1 x2 x3 x4 x7 S
    else
      bnd (f_Routes_isBehind (x7 - (1 : Int32)) x2 x4 S) (fun r8 S7 =>
      if r8 = 0 then
        f_Routes_addEntry_j102 x1 x2 x3 x4 x7 S7
      else
        grd (inb (x7 - (1 : Int32)) 96) (
        grd (inb (x7 - (1 : Int32)) 96) (
        grd (inb (x7 - (1 : Int32)) 96) (
        bndv (f_Routes_putEntry x7 (S7.1 100 (x7 - (1 : Int32)).toNatClampNeg) (S7.1 101 (x7 - (1 : Int32)).toNatClampNeg) (S7.1 102 (x7 - (1 : Int32)).toNatClampNeg) S7) (fun S9 =>
        nm (x7 + (-1 : Int32)) (fun z10 =>
        f_Routes_addEntry_L42 n x1 x2 x3 x4 x6 z10 S9))))))
def f_Routes_addEntry (a1 : Int32) (a2 : Int32) (a3 : Int32) (a4 : Int32) (S : SS) : Option (Int32 × SS) :=
  bnd (f_Routes_entriesOf a1 S) (fun r2 S1 =>
  if a1 < 0 then
    some ((-3 : Int32), S1)
  else
    if (S1.1 67 8) ≤ a1 then
      some ((-3 : Int32), S1)
    else
      if r2 < (8 : Int32) then
        nm ((8 : Int32) * a1) (fun z3 =>
        nm (z3 + r2) (fun z4 =>
        f_Routes_addEntry_L42 NF a1 a2 a3 a4 z3 z4 S1))
      else
        some ((-3 : Int32), S1))
theorem dX6_addEntry_0 : decode cX6_addEntry 0 = .ok (.aload_n 0, 1) := dc_42 (by decide +kernel)
theorem dX6_addEntry_1 : decode cX6_addEntry 1 = .ok (.iload_n 1, 1) := dc_27 (by decide +kernel)
theorem dX6_addEntry_2 : decode cX6_addEntry 2 = .ok (.invokevirtual 43, 3) := dc_182 (a := 0) (b := 43) (by decide +kernel)
theorem dX6_addEntry_5 : decode cX6_addEntry 5 = .ok (.istore 5, 2) := dc_54 (a := 5) (by decide +kernel)
theorem dX6_addEntry_7 : decode cX6_addEntry 7 = .ok (.iload_n 1, 1) := dc_27 (by decide +kernel)
theorem dX6_addEntry_8 : decode cX6_addEntry 8 = .ok (.ifCond .lt 18, 3) := dc_155 (a := 0) (b := 18) (by decide +kernel) (by decide)
theorem dX6_addEntry_11 : decode cX6_addEntry 11 = .ok (.iload_n 1, 1) := dc_27 (by decide +kernel)
theorem dX6_addEntry_12 : decode cX6_addEntry 12 = .ok (.aload_n 0, 1) := dc_42 (by decide +kernel)
theorem dX6_addEntry_13 : decode cX6_addEntry 13 = .ok (.getfield 27, 3) := dc_180 (a := 0) (b := 27) (by decide +kernel)
theorem dX6_addEntry_16 : decode cX6_addEntry 16 = .ok (.if_icmp .ge 10, 3) := dc_162 (a := 0) (b := 10) (by decide +kernel) (by decide)
theorem dX6_addEntry_19 : decode cX6_addEntry 19 = .ok (.iload 5, 2) := dc_21 (a := 5) (by decide +kernel)
theorem dX6_addEntry_21 : decode cX6_addEntry 21 = .ok (.bipush 8, 2) := dc_16 (a := 8) (by decide +kernel) (by decide)
theorem dX6_addEntry_23 : decode cX6_addEntry 23 = .ok (.if_icmp .lt 6, 3) := dc_161 (a := 0) (b := 6) (by decide +kernel) (by decide)
theorem dX6_addEntry_26 : decode cX6_addEntry 26 = .ok (.bipush (-3), 2) := dc_16 (a := 253) (by decide +kernel) (by decide)
theorem dX6_addEntry_28 : decode cX6_addEntry 28 = .ok (.ireturn, 1) := dc_172 (by decide +kernel)
theorem dX6_addEntry_29 : decode cX6_addEntry 29 = .ok (.bipush 8, 2) := dc_16 (a := 8) (by decide +kernel) (by decide)
theorem dX6_addEntry_31 : decode cX6_addEntry 31 = .ok (.iload_n 1, 1) := dc_27 (by decide +kernel)
theorem dX6_addEntry_32 : decode cX6_addEntry 32 = .ok (.imul, 1) := dc_104 (by decide +kernel)
theorem dX6_addEntry_33 : decode cX6_addEntry 33 = .ok (.istore 6, 2) := dc_54 (a := 6) (by decide +kernel)
theorem dX6_addEntry_35 : decode cX6_addEntry 35 = .ok (.iload 6, 2) := dc_21 (a := 6) (by decide +kernel)
theorem dX6_addEntry_37 : decode cX6_addEntry 37 = .ok (.iload 5, 2) := dc_21 (a := 5) (by decide +kernel)
theorem dX6_addEntry_39 : decode cX6_addEntry 39 = .ok (.iadd, 1) := dc_96 (by decide +kernel)
theorem dX6_addEntry_40 : decode cX6_addEntry 40 = .ok (.istore 7, 2) := dc_54 (a := 7) (by decide +kernel)
theorem dX6_addEntry_42 : decode cX6_addEntry 42 = .ok (.iload 7, 2) := dc_21 (a := 7) (by decide +kernel)
theorem dX6_addEntry_44 : decode cX6_addEntry 44 = .ok (.iload 6, 2) := dc_21 (a := 6) (by decide +kernel)
theorem dX6_addEntry_46 : decode cX6_addEntry 46 = .ok (.if_icmp .le 56, 3) := dc_164 (a := 0) (b := 56) (by decide +kernel) (by decide)
theorem dX6_addEntry_49 : decode cX6_addEntry 49 = .ok (.aload_n 0, 1) := dc_42 (by decide +kernel)
theorem dX6_addEntry_50 : decode cX6_addEntry 50 = .ok (.iload 7, 2) := dc_21 (a := 7) (by decide +kernel)
theorem dX6_addEntry_52 : decode cX6_addEntry 52 = .ok (.iconst 1, 1) := dc_4 (by decide +kernel)
theorem dX6_addEntry_53 : decode cX6_addEntry 53 = .ok (.isub, 1) := dc_100 (by decide +kernel)
theorem dX6_addEntry_54 : decode cX6_addEntry 54 = .ok (.iload_n 2, 1) := dc_28 (by decide +kernel)
theorem dX6_addEntry_55 : decode cX6_addEntry 55 = .ok (.iload 4, 2) := dc_21 (a := 4) (by decide +kernel)
theorem dX6_addEntry_57 : decode cX6_addEntry 57 = .ok (.invokevirtual 67, 3) := dc_182 (a := 0) (b := 67) (by decide +kernel)
theorem dX6_addEntry_60 : decode cX6_addEntry 60 = .ok (.ifCond .eq 42, 3) := dc_153 (a := 0) (b := 42) (by decide +kernel) (by decide)
theorem dX6_addEntry_63 : decode cX6_addEntry 63 = .ok (.aload_n 0, 1) := dc_42 (by decide +kernel)
theorem dX6_addEntry_64 : decode cX6_addEntry 64 = .ok (.iload 7, 2) := dc_21 (a := 7) (by decide +kernel)
theorem dX6_addEntry_66 : decode cX6_addEntry 66 = .ok (.aload_n 0, 1) := dc_42 (by decide +kernel)
theorem dX6_addEntry_67 : decode cX6_addEntry 67 = .ok (.getfield 15, 3) := dc_180 (a := 0) (b := 15) (by decide +kernel)
theorem dX6_addEntry_70 : decode cX6_addEntry 70 = .ok (.iload 7, 2) := dc_21 (a := 7) (by decide +kernel)
theorem dX6_addEntry_72 : decode cX6_addEntry 72 = .ok (.iconst 1, 1) := dc_4 (by decide +kernel)
theorem dX6_addEntry_73 : decode cX6_addEntry 73 = .ok (.isub, 1) := dc_100 (by decide +kernel)
theorem dX6_addEntry_74 : decode cX6_addEntry 74 = .ok (.iaload, 1) := dc_46 (by decide +kernel)
theorem dX6_addEntry_75 : decode cX6_addEntry 75 = .ok (.aload_n 0, 1) := dc_42 (by decide +kernel)
theorem dX6_addEntry_76 : decode cX6_addEntry 76 = .ok (.getfield 18, 3) := dc_180 (a := 0) (b := 18) (by decide +kernel)
theorem dX6_addEntry_79 : decode cX6_addEntry 79 = .ok (.iload 7, 2) := dc_21 (a := 7) (by decide +kernel)
theorem dX6_addEntry_81 : decode cX6_addEntry 81 = .ok (.iconst 1, 1) := dc_4 (by decide +kernel)
theorem dX6_addEntry_82 : decode cX6_addEntry 82 = .ok (.isub, 1) := dc_100 (by decide +kernel)
theorem dX6_addEntry_83 : decode cX6_addEntry 83 = .ok (.iaload, 1) := dc_46 (by decide +kernel)
theorem dX6_addEntry_84 : decode cX6_addEntry 84 = .ok (.aload_n 0, 1) := dc_42 (by decide +kernel)
theorem dX6_addEntry_85 : decode cX6_addEntry 85 = .ok (.getfield 21, 3) := dc_180 (a := 0) (b := 21) (by decide +kernel)
theorem dX6_addEntry_88 : decode cX6_addEntry 88 = .ok (.iload 7, 2) := dc_21 (a := 7) (by decide +kernel)
theorem dX6_addEntry_90 : decode cX6_addEntry 90 = .ok (.iconst 1, 1) := dc_4 (by decide +kernel)
theorem dX6_addEntry_91 : decode cX6_addEntry 91 = .ok (.isub, 1) := dc_100 (by decide +kernel)
theorem dX6_addEntry_92 : decode cX6_addEntry 92 = .ok (.iaload, 1) := dc_46 (by decide +kernel)
theorem dX6_addEntry_93 : decode cX6_addEntry 93 = .ok (.invokevirtual 71, 3) := dc_182 (a := 0) (b := 71) (by decide +kernel)
theorem dX6_addEntry_96 : decode cX6_addEntry 96 = .ok (.iinc 7 (-1), 3) := dc_132 (a := 7) (b := 255) (by decide +kernel) (by decide)
theorem dX6_addEntry_99 : decode cX6_addEntry 99 = .ok (.goto (-57), 3) := dc_167 (a := 255) (b := 199) (by decide +kernel) (by decide)
theorem dX6_addEntry_102 : decode cX6_addEntry 102 = .ok (.aload_n 0, 1) := dc_42 (by decide +kernel)
theorem dX6_addEntry_103 : decode cX6_addEntry 103 = .ok (.iload 7, 2) := dc_21 (a := 7) (by decide +kernel)
theorem dX6_addEntry_105 : decode cX6_addEntry 105 = .ok (.iload_n 2, 1) := dc_28 (by decide +kernel)
theorem dX6_addEntry_106 : decode cX6_addEntry 106 = .ok (.iload_n 3, 1) := dc_29 (by decide +kernel)
theorem dX6_addEntry_107 : decode cX6_addEntry 107 = .ok (.iload 4, 2) := dc_21 (a := 4) (by decide +kernel)
theorem dX6_addEntry_109 : decode cX6_addEntry 109 = .ok (.invokevirtual 71, 3) := dc_182 (a := 0) (b := 71) (by decide +kernel)
theorem dX6_addEntry_112 : decode cX6_addEntry 112 = .ok (.aload_n 0, 1) := dc_42 (by decide +kernel)
theorem dX6_addEntry_113 : decode cX6_addEntry 113 = .ok (.getfield 11, 3) := dc_180 (a := 0) (b := 11) (by decide +kernel)
theorem dX6_addEntry_116 : decode cX6_addEntry 116 = .ok (.iload_n 1, 1) := dc_27 (by decide +kernel)
theorem dX6_addEntry_117 : decode cX6_addEntry 117 = .ok (.dup2, 1) := dc_92 (by decide +kernel)
theorem dX6_addEntry_118 : decode cX6_addEntry 118 = .ok (.iaload, 1) := dc_46 (by decide +kernel)
theorem dX6_addEntry_119 : decode cX6_addEntry 119 = .ok (.iconst 1, 1) := dc_4 (by decide +kernel)
theorem dX6_addEntry_120 : decode cX6_addEntry 120 = .ok (.iadd, 1) := dc_96 (by decide +kernel)
theorem dX6_addEntry_121 : decode cX6_addEntry 121 = .ok (.iastore, 1) := dc_79 (by decide +kernel)
theorem dX6_addEntry_122 : decode cX6_addEntry 122 = .ok (.aload_n 0, 1) := dc_42 (by decide +kernel)
theorem dX6_addEntry_123 : decode cX6_addEntry 123 = .ok (.getfield 11, 3) := dc_180 (a := 0) (b := 11) (by decide +kernel)
theorem dX6_addEntry_126 : decode cX6_addEntry 126 = .ok (.iload_n 1, 1) := dc_27 (by decide +kernel)
theorem dX6_addEntry_127 : decode cX6_addEntry 127 = .ok (.iaload, 1) := dc_46 (by decide +kernel)
theorem dX6_addEntry_128 : decode cX6_addEntry 128 = .ok (.ireturn, 1) := dc_172 (by decide +kernel)
set_option maxRecDepth 100000 in
set_option maxHeartbeats 4000000 in
theorem w_Routes_addEntry_j102 {p : Program} {l : Launch} {e : Env} {R : Room} {s : State} {m : MethodId} {args : Array Value} {below : List Frame} {meth : Method} {c : Code} {dC : Nat → ClassId} {dI : Nat → Nat → Nat} {cs : Nat → ClassId} {ad : Nat → Nat} {A : Nat → Prop} {D0 : Nat → Nat} {S' : SS} {r : Int32} (F : Fx p s m args meth c cX6_addEntry 8 RX6 (some .int) dC dI cs A) (hR1 : 1 ≤ R.frames) (hR2 : 24 ≤ R.locals) (x1 : Int32) (x2 : Int32) (x3 : Int32) (x4 : Int32) (x7 : Int32) (S : SS) (h : f_Routes_addEntry_j102 x1 x2 x3 x4 x7 S = some (r, S')) : AW p l e R s m args below meth c dC dI cs ad A D0 (some (.int r)) S' 8 102 [(0, .ref (ad 67)), (1, .int x1), (2, .int x2), (3, .int x3), (4, .int x4), (7, .int x7)] [] S := by
  have hx := F.1.1
  have hb := F.1.2.1
  intro H locs ls w hl
  rw [f_Routes_addEntry_j102] at h
  refine lv_aload_n (pc := 102) hx hb dX6_addEntry_102 rfl (lv_at hl 0 rfl) ?_
  refine lv_iload (pc := 103) hx hb dX6_addEntry_103 (lv_at hl 5 rfl) ?_
  refine lv_iload_n (pc := 105) hx hb dX6_addEntry_105 rfl (lv_at hl 2 rfl) ?_
  refine lv_iload_n (pc := 106) hx hb dX6_addEntry_106 rfl (lv_at hl 3 rfl) ?_
  refine lv_iload (pc := 107) hx hb dX6_addEntry_107 (lv_at hl 4 rfl) ?_
  obtain ⟨S5, hc, h⟩ := bndv_t h
  refine s_cvv (pc := 109) [.int x7, .int x2, .int x3, .int x4] (fun ad => [.ref (ad 67), .int x7, .int x2, .int x3, .int x4]) F w (m_Routes_putEntry _ _ _ _ _ _ hc) rfl rfl hl.1 ds_67 vc_X6 rfl ok_X6_putEntry rfl kc_X6_putEntry kl_X6_71 ki_X6_putEntry kv_X6_putEntry kn_X6 ⟨Nat.le_trans (by decide) hR1, Nat.le_trans (by decide) hR2⟩ ⟨Nat.zero_le _, Nat.zero_le _⟩ (Nat.le_of_ble_eq_true rfl) dX6_addEntry_109 (fun H locs w => ?_)
  refine lv_aload_n (pc := 112) hx hb dX6_addEntry_112 rfl (lv_at hl 0 rfl) ?_
  refine s_getR (pc := 113) F w 99 ds_67 (j := 3) vc_X6 vi_X6 rfl (by decide) kf_X6_11 dX6_addEntry_113 ?_
  refine lv_iload_n (pc := 116) hx hb dX6_addEntry_116 rfl (lv_at hl 1 rfl) ?_
  refine lv_dup2_11 (pc := 117) hx hb dX6_addEntry_117 rfl rfl ?_
  refine s_iald (pc := 118) F w ds_99 h dX6_addEntry_118 (fun h => ?_)
  refine lv_iconst (pc := 119) (v := 1) hx hb dX6_addEntry_119 (by decide) ?_
  refine lv_iadd (pc := 120) hx hb dX6_addEntry_120 ?_
  refine s_iast (pc := 121) F w ds_99 h dX6_addEntry_121 (fun S6 H locs h w => ?_)
  refine lv_aload_n (pc := 122) hx hb dX6_addEntry_122 rfl (lv_at hl 0 rfl) ?_
  refine s_getR (pc := 123) F w 99 ds_67 (j := 3) vc_X6 vi_X6 rfl (by decide) kf_X6_11 dX6_addEntry_123 ?_
  refine lv_iload_n (pc := 126) hx hb dX6_addEntry_126 rfl (lv_at hl 1 rfl) ?_
  refine s_iald (pc := 127) F w ds_99 h dX6_addEntry_127 (fun h => ?_)
  exact s_iret F w h dX6_addEntry_128
set_option maxRecDepth 100000 in
set_option maxHeartbeats 4000000 in
theorem w_Routes_addEntry_L42 {p : Program} {l : Launch} {e : Env} {R : Room} {s : State} {m : MethodId} {args : Array Value} {below : List Frame} {meth : Method} {c : Code} {dC : Nat → ClassId} {dI : Nat → Nat → Nat} {cs : Nat → ClassId} {ad : Nat → Nat} {A : Nat → Prop} {D0 : Nat → Nat} {S' : SS} {r : Int32} (F : Fx p s m args meth c cX6_addEntry 8 RX6 (some .int) dC dI cs A) (hR1 : 1 ≤ R.frames) (hR2 : 24 ≤ R.locals) : ∀ (n : Nat) (x1 : Int32) (x2 : Int32) (x3 : Int32) (x4 : Int32) (x6 : Int32) (x7 : Int32) (S : SS), f_Routes_addEntry_L42 n x1 x2 x3 x4 x6 x7 S = some (r, S') → AW p l e R s m args below meth c dC dI cs ad A D0 (some (.int r)) S' 8 42 [(0, .ref (ad 67)), (1, .int x1), (2, .int x2), (3, .int x3), (4, .int x4), (6, .int x6), (7, .int x7)] [] S := by
  have hx := F.1.1
  have hb := F.1.2.1
  intro n
  induction n with
  | zero => intro x1 x2 x3 x4 x6 x7 S h; cases h
  | succ n ih =>
    intro x1 x2 x3 x4 x6 x7 S h H locs ls w hl
    rw [f_Routes_addEntry_L42] at h
    refine lv_iload (pc := 42) hx hb dX6_addEntry_42 (lv_at hl 6 rfl) ?_
    refine lv_iload (pc := 44) hx hb dX6_addEntry_44 (lv_at hl 5 rfl) ?_
    refine lv_icmp_le (pc := 46) (tgt := 102) hx hb dX6_addEntry_46 (by decide) (fun q => ?_) (fun q => ?_)
    · have h := ite_t q h
      exact w_Routes_addEntry_j102 F (Nat.le_trans (by decide) hR1) (Nat.le_trans (by decide) hR2) _ _ _ _ _ _ h _ _ _ w (lv_sub hl [0, 1, 2, 3, 4, 6] rfl)
    · have h := ite_f q h
      refine lv_aload_n (pc := 49) hx hb dX6_addEntry_49 rfl (lv_at hl 0 rfl) ?_
      refine lv_iload (pc := 50) hx hb dX6_addEntry_50 (lv_at hl 6 rfl) ?_
      refine lv_iconst (pc := 52) (v := 1) hx hb dX6_addEntry_52 (by decide) ?_
      refine lv_isub (pc := 53) hx hb dX6_addEntry_53 ?_
      refine lv_iload_n (pc := 54) hx hb dX6_addEntry_54 rfl (lv_at hl 2 rfl) ?_
      refine lv_iload (pc := 55) hx hb dX6_addEntry_55 (lv_at hl 4 rfl) ?_
      obtain ⟨r8, S7, hc, h⟩ := bnd_t h
      refine s_cvi (pc := 57) [.int (x7 - (1 : Int32)), .int x2, .int x4] (fun ad => [.ref (ad 67), .int (x7 - (1 : Int32)), .int x2, .int x4]) F w (m_Routes_isBehind _ _ _ _ _ _ hc) rfl rfl hl.1 ds_67 vc_X6 rfl ok_X6_isBehind rfl kc_X6_isBehind kl_X6_67 ki_X6_isBehind kv_X6_isBehind kn_X6 ⟨Nat.le_trans (by decide) hR1, Nat.le_trans (by decide) hR2⟩ ⟨Nat.zero_le _, Nat.zero_le _⟩ (Nat.le_of_ble_eq_true rfl) dX6_addEntry_57 (fun H locs w => ?_)
      refine lv_if_eq (pc := 60) (tgt := 102) hx hb dX6_addEntry_60 (by decide) (fun q => ?_) (fun q => ?_)
      · have h := ite_t q h
        exact w_Routes_addEntry_j102 F (Nat.le_trans (by decide) hR1) (Nat.le_trans (by decide) hR2) _ _ _ _ _ _ h _ _ _ w (lv_sub hl [0, 1, 2, 3, 4, 6] rfl)
      · have h := ite_f q h
        refine lv_aload_n (pc := 63) hx hb dX6_addEntry_63 rfl (lv_at hl 0 rfl) ?_
        refine lv_iload (pc := 64) hx hb dX6_addEntry_64 (lv_at hl 6 rfl) ?_
        refine lv_aload_n (pc := 66) hx hb dX6_addEntry_66 rfl (lv_at hl 0 rfl) ?_
        refine s_getR (pc := 67) F w 100 ds_67 (j := 4) vc_X6 vi_X6 rfl (by decide) kf_X6_15 dX6_addEntry_67 ?_
        refine lv_iload (pc := 70) hx hb dX6_addEntry_70 (lv_at hl 6 rfl) ?_
        refine lv_iconst (pc := 72) (v := 1) hx hb dX6_addEntry_72 (by decide) ?_
        refine lv_isub (pc := 73) hx hb dX6_addEntry_73 ?_
        refine s_iald (pc := 74) F w ds_100 h dX6_addEntry_74 (fun h => ?_)
        refine lv_aload_n (pc := 75) hx hb dX6_addEntry_75 rfl (lv_at hl 0 rfl) ?_
        refine s_getR (pc := 76) F w 101 ds_67 (j := 5) vc_X6 vi_X6 rfl (by decide) kf_X6_18 dX6_addEntry_76 ?_
        refine lv_iload (pc := 79) hx hb dX6_addEntry_79 (lv_at hl 6 rfl) ?_
        refine lv_iconst (pc := 81) (v := 1) hx hb dX6_addEntry_81 (by decide) ?_
        refine lv_isub (pc := 82) hx hb dX6_addEntry_82 ?_
        refine s_iald (pc := 83) F w ds_101 h dX6_addEntry_83 (fun h => ?_)
        refine lv_aload_n (pc := 84) hx hb dX6_addEntry_84 rfl (lv_at hl 0 rfl) ?_
        refine s_getR (pc := 85) F w 102 ds_67 (j := 6) vc_X6 vi_X6 rfl (by decide) kf_X6_21 dX6_addEntry_85 ?_
        refine lv_iload (pc := 88) hx hb dX6_addEntry_88 (lv_at hl 6 rfl) ?_
        refine lv_iconst (pc := 90) (v := 1) hx hb dX6_addEntry_90 (by decide) ?_
        refine lv_isub (pc := 91) hx hb dX6_addEntry_91 ?_
        refine s_iald (pc := 92) F w ds_102 h dX6_addEntry_92 (fun h => ?_)
        obtain ⟨S9, hc, h⟩ := bndv_t h
        refine s_cvv (pc := 93) [.int x7, .int (S7.1 100 (x7 - (1 : Int32)).toNatClampNeg), .int (S7.1 101 (x7 - (1 : Int32)).toNatClampNeg), .int (S7.1 102 (x7 - (1 : Int32)).toNatClampNeg)] (fun ad => [.ref (ad 67), .int x7, .int (S7.1 100 (x7 - (1 : Int32)).toNatClampNeg), .int (S7.1 101 (x7 - (1 : Int32)).toNatClampNeg), .int (S7.1 102 (x7 - (1 : Int32)).toNatClampNeg)]) F w (m_Routes_putEntry _ _ _ _ _ _ hc) rfl rfl hl.1 ds_67 vc_X6 rfl ok_X6_putEntry rfl kc_X6_putEntry kl_X6_71 ki_X6_putEntry kv_X6_putEntry kn_X6 ⟨Nat.le_trans (by decide) hR1, Nat.le_trans (by decide) hR2⟩ ⟨Nat.zero_le _, Nat.zero_le _⟩ (Nat.le_of_ble_eq_true rfl) dX6_addEntry_93 (fun H locs w => ?_)
        refine s_nm h (fun z10 ez10 h => ?_)
        refine lv_iinc (pc := 96) (v := z10) (lv' := [(7, .int z10), (0, .ref (ad 67)), (1, .int x1), (2, .int x2), (3, .int x3), (4, .int x4), (6, .int x6)]) hx hb dX6_addEntry_96 hl (k := 6) rfl (by rw [ez10]; rfl) (by decide) rfl (fun ls hl => ?_)
        refine lv_goto (pc := 99) (tgt := 42) hx hb dX6_addEntry_99 (by decide) ?_
        exact ih _ _ _ _ _ _ _ h _ _ _ w (lv_sub hl [1, 2, 3, 4, 5, 6, 0] rfl)
set_option maxRecDepth 100000 in
set_option maxHeartbeats 4000000 in
theorem m_Routes_addEntry (a1 : Int32) (a2 : Int32) (a3 : Int32) (a4 : Int32) (S S' : SS) (r : Int32) (h : f_Routes_addEntry a1 a2 a3 a4 S = some (r, S')) : MT yX6_addEntry cX6_addEntry 8 (some .int) 1 24 (fun ad => [.ref (ad 67), .int a1, .int a2, .int a3, .int a4]) S (some (.int r)) S' := by
  refine MT.of RX6 (fun ad => [(0, .ref (ad 67)), (1, .int a1), (2, .int a2), (3, .int a3), (4, .int a4)]) (by decide) rfl (fun _ => Nat.le_of_ble_eq_true rfl) (fun _ => rfl) ?_
  intro p l e R s m args below meth c dC dI cs ad A hR1 hR2 F H locs ls w hl
  have hx := F.1.1
  have hb := F.1.2.1
  rw [f_Routes_addEntry] at h
  refine lv_aload_n (pc := 0) hx hb dX6_addEntry_0 rfl (lv_at hl 0 rfl) ?_
  refine lv_iload_n (pc := 1) hx hb dX6_addEntry_1 rfl (lv_at hl 1 rfl) ?_
  obtain ⟨r2, S1, hc, h⟩ := bnd_t h
  refine s_cvi (pc := 2) [.int a1] (fun ad => [.ref (ad 67), .int a1]) F w (m_Routes_entriesOf _ _ _ _ hc) rfl rfl hl.1 ds_67 vc_X6 rfl ok_X6_entriesOf rfl kc_X6_entriesOf kl_X6_43 ki_X6_entriesOf kv_X6_entriesOf kn_X6 ⟨Nat.le_trans (by decide) hR1, Nat.le_trans (by decide) hR2⟩ ⟨Nat.zero_le _, Nat.zero_le _⟩ (Nat.le_of_ble_eq_true rfl) dX6_addEntry_2 (fun H locs w => ?_)
  refine lv_istore (pc := 5) (lv' := [(5, .int r2), (0, .ref (ad 67)), (1, .int a1), (2, .int a2), (3, .int a3), (4, .int a4)]) hx hb dX6_addEntry_5 hl (by decide) rfl (fun ls hl => ?_)
  refine lv_iload_n (pc := 7) hx hb dX6_addEntry_7 rfl (lv_at hl 2 rfl) ?_
  refine lv_if_lt (pc := 8) (tgt := 26) hx hb dX6_addEntry_8 (by decide) (fun q => ?_) (fun q => ?_)
  · have h := ite_t q h
    refine lv_bipush (pc := 26) (v := -3) hx hb dX6_addEntry_26 (by decide) ?_
    exact s_iret F w h dX6_addEntry_28
  · have h := ite_f q h
    refine lv_iload_n (pc := 11) hx hb dX6_addEntry_11 rfl (lv_at hl 2 rfl) ?_
    refine lv_aload_n (pc := 12) hx hb dX6_addEntry_12 rfl (lv_at hl 1 rfl) ?_
    refine s_getI (pc := 13) F w ds_67 (j := 8) vc_X6 vi_X6 rfl (by decide) kf_X6_27 dX6_addEntry_13 ?_
    refine lv_icmp_ge (pc := 16) (tgt := 26) hx hb dX6_addEntry_16 (by decide) (fun q => ?_) (fun q => ?_)
    · have h := ite_t q h
      refine lv_bipush (pc := 26) (v := -3) hx hb dX6_addEntry_26 (by decide) ?_
      exact s_iret F w h dX6_addEntry_28
    · have h := ite_f q h
      refine lv_iload (pc := 19) hx hb dX6_addEntry_19 (lv_at hl 0 rfl) ?_
      refine lv_bipush (pc := 21) (v := 8) hx hb dX6_addEntry_21 (by decide) ?_
      refine lv_icmp_lt (pc := 23) (tgt := 29) hx hb dX6_addEntry_23 (by decide) (fun q => ?_) (fun q => ?_)
      · have h := ite_t q h
        refine lv_bipush (pc := 29) (v := 8) hx hb dX6_addEntry_29 (by decide) ?_
        refine lv_iload_n (pc := 31) hx hb dX6_addEntry_31 rfl (lv_at hl 2 rfl) ?_
        refine lv_imul (pc := 32) hx hb dX6_addEntry_32 ?_
        refine s_nm h (fun z3 ez3 h => ?_)
        rw [← ez3]
        refine lv_istore (pc := 33) (lv' := [(6, .int z3), (5, .int r2), (0, .ref (ad 67)), (1, .int a1), (2, .int a2), (3, .int a3), (4, .int a4)]) hx hb dX6_addEntry_33 hl (by decide) rfl (fun ls hl => ?_)
        refine lv_iload (pc := 35) hx hb dX6_addEntry_35 (lv_at hl 0 rfl) ?_
        refine lv_iload (pc := 37) hx hb dX6_addEntry_37 (lv_at hl 1 rfl) ?_
        refine lv_iadd (pc := 39) hx hb dX6_addEntry_39 ?_
        refine s_nm h (fun z4 ez4 h => ?_)
        rw [← ez4]
        refine lv_istore (pc := 40) (lv' := [(7, .int z4), (6, .int z3), (5, .int r2), (0, .ref (ad 67)), (1, .int a1), (2, .int a2), (3, .int a3), (4, .int a4)]) hx hb dX6_addEntry_40 hl (by decide) rfl (fun ls hl => ?_)
        exact w_Routes_addEntry_L42 F (Nat.le_trans (by decide) hR1) (Nat.le_trans (by decide) hR2) _ _ _ _ _ _ _ _ h _ _ _ w (lv_sub hl [3, 4, 5, 6, 7, 1, 0] rfl)
      · have h := ite_f q h
        refine lv_bipush (pc := 26) (v := -3) hx hb dX6_addEntry_26 (by decide) ?_
        exact s_iret F w h dX6_addEntry_28
def f_State_locker (a1 : Int32) (S : SS) : Option (Int32 × SS) :=
  if a1 < 0 then
    some ((-4 : Int32), S)
  else
    if (40 : Int32) ≤ a1 then
      some ((-4 : Int32), S)
    else
      grd (inb ((114 : Int32) + a1) 946) (
      some (S.1 79 ((114 : Int32) + a1).toNatClampNeg, S))
theorem dX8_locker_0 : decode cX8_locker 0 = .ok (.iload_n 1, 1) := dc_27 (by decide +kernel)
theorem dX8_locker_1 : decode cX8_locker 1 = .ok (.ifCond .lt 21, 3) := dc_155 (a := 0) (b := 21) (by decide +kernel) (by decide)
theorem dX8_locker_4 : decode cX8_locker 4 = .ok (.iload_n 1, 1) := dc_27 (by decide +kernel)
theorem dX8_locker_5 : decode cX8_locker 5 = .ok (.bipush 40, 2) := dc_16 (a := 40) (by decide +kernel) (by decide)
theorem dX8_locker_7 : decode cX8_locker 7 = .ok (.if_icmp .ge 15, 3) := dc_162 (a := 0) (b := 15) (by decide +kernel) (by decide)
theorem dX8_locker_10 : decode cX8_locker 10 = .ok (.aload_n 0, 1) := dc_42 (by decide +kernel)
theorem dX8_locker_11 : decode cX8_locker 11 = .ok (.getfield 13, 3) := dc_180 (a := 0) (b := 13) (by decide +kernel)
theorem dX8_locker_14 : decode cX8_locker 14 = .ok (.bipush 114, 2) := dc_16 (a := 114) (by decide +kernel) (by decide)
theorem dX8_locker_16 : decode cX8_locker 16 = .ok (.iload_n 1, 1) := dc_27 (by decide +kernel)
theorem dX8_locker_17 : decode cX8_locker 17 = .ok (.iadd, 1) := dc_96 (by decide +kernel)
theorem dX8_locker_18 : decode cX8_locker 18 = .ok (.iaload, 1) := dc_46 (by decide +kernel)
theorem dX8_locker_19 : decode cX8_locker 19 = .ok (.goto 5, 3) := dc_167 (a := 0) (b := 5) (by decide +kernel) (by decide)
theorem dX8_locker_22 : decode cX8_locker 22 = .ok (.bipush (-4), 2) := dc_16 (a := 252) (by decide +kernel) (by decide)
theorem dX8_locker_24 : decode cX8_locker 24 = .ok (.ireturn, 1) := dc_172 (by decide +kernel)
set_option maxRecDepth 100000 in
set_option maxHeartbeats 4000000 in
theorem m_State_locker (a1 : Int32) (S S' : SS) (r : Int32) (h : f_State_locker a1 S = some (r, S')) : MT yX8_locker cX8_locker 2 (some .int) 0 0 (fun ad => [.ref (ad 63), .int a1]) S (some (.int r)) S' := by
  refine MT.of RX8 (fun ad => [(0, .ref (ad 63)), (1, .int a1)]) (by decide) rfl (fun _ => Nat.le_of_ble_eq_true rfl) (fun _ => rfl) ?_
  intro p l e R s m args below meth c dC dI cs ad A hR1 hR2 F H locs ls w hl
  have hx := F.1.1
  have hb := F.1.2.1
  rw [f_State_locker] at h
  refine lv_iload_n (pc := 0) hx hb dX8_locker_0 rfl (lv_at hl 1 rfl) ?_
  refine lv_if_lt (pc := 1) (tgt := 22) hx hb dX8_locker_1 (by decide) (fun q => ?_) (fun q => ?_)
  · have h := ite_t q h
    refine lv_bipush (pc := 22) (v := -4) hx hb dX8_locker_22 (by decide) ?_
    exact s_iret F w h dX8_locker_24
  · have h := ite_f q h
    refine lv_iload_n (pc := 4) hx hb dX8_locker_4 rfl (lv_at hl 1 rfl) ?_
    refine lv_bipush (pc := 5) (v := 40) hx hb dX8_locker_5 (by decide) ?_
    refine lv_icmp_ge (pc := 7) (tgt := 22) hx hb dX8_locker_7 (by decide) (fun q => ?_) (fun q => ?_)
    · have h := ite_t q h
      refine lv_bipush (pc := 22) (v := -4) hx hb dX8_locker_22 (by decide) ?_
      exact s_iret F w h dX8_locker_24
    · have h := ite_f q h
      refine lv_aload_n (pc := 10) hx hb dX8_locker_10 rfl (lv_at hl 0 rfl) ?_
      refine s_getR (pc := 11) F w 79 ds_63 (j := 0) vc_X8 vi_X8 rfl (by decide) kf_X8_13 dX8_locker_11 ?_
      refine lv_bipush (pc := 14) (v := 114) hx hb dX8_locker_14 (by decide) ?_
      refine lv_iload_n (pc := 16) hx hb dX8_locker_16 rfl (lv_at hl 1 rfl) ?_
      refine lv_iadd (pc := 17) hx hb dX8_locker_17 ?_
      refine s_iald (pc := 18) F w ds_79 h dX8_locker_18 (fun h => ?_)
      refine lv_goto (pc := 19) (tgt := 24) hx hb dX8_locker_19 (by decide) ?_
      exact s_iret F w h dX8_locker_24
def f_Routes_lockedBy_j30 (K4 : Int32 → Int32 → Int32 → SS → Option (Int32 × SS)) (x1 : Int32) (x2 : Int32) (x3 : Int32) (S : SS) : Option (Int32 × SS) :=
    nm (x3 + (1 : Int32)) (fun z3 =>
    K4 x1 x2 z3 S)
def f_Routes_lockedBy_L4  : Nat → Int32 → Int32 → Int32 → SS → Option (Int32 × SS)
  | 0, _, _, _, _ => none
  | n + 1, x1, x2, x3, S =>
    if (S.1 66 8) ≤ x3 then
      some (x2, S)
    else
      bnd (f_State_locker x3 S) (fun r2 S1 =>
      if r2 = x1 then
        nm (x2 + (1 : Int32)) (fun z4 =>
        f_Routes_lockedBy_j30 (fun v0 v1 v2 S => f_Routes_lockedBy_L4 n v0 v1 v2 S) x1 z4 x3 S1)
      else
        f_Routes_lockedBy_j30 (fun v0 v1 v2 S => f_Routes_lockedBy_L4 n v0 v1 v2 S) x1 x2 x3 S1)
def f_Routes_lockedBy (a1 : Int32) (S : SS) : Option (Int32 × SS) :=
  f_Routes_lockedBy_L4 NF a1 (0 : Int32) (0 : Int32) S
theorem dX6_lockedBy_0 : decode cX6_lockedBy 0 = .ok (.iconst 0, 1) := dc_3 (by decide +kernel)
theorem dX6_lockedBy_1 : decode cX6_lockedBy 1 = .ok (.istore_n 2, 1) := dc_61 (by decide +kernel)
theorem dX6_lockedBy_2 : decode cX6_lockedBy 2 = .ok (.iconst 0, 1) := dc_3 (by decide +kernel)
theorem dX6_lockedBy_3 : decode cX6_lockedBy 3 = .ok (.istore_n 3, 1) := dc_62 (by decide +kernel)
theorem dX6_lockedBy_4 : decode cX6_lockedBy 4 = .ok (.iload_n 3, 1) := dc_29 (by decide +kernel)
theorem dX6_lockedBy_5 : decode cX6_lockedBy 5 = .ok (.aload_n 0, 1) := dc_42 (by decide +kernel)
theorem dX6_lockedBy_6 : decode cX6_lockedBy 6 = .ok (.getfield 35, 3) := dc_180 (a := 0) (b := 35) (by decide +kernel)
theorem dX6_lockedBy_9 : decode cX6_lockedBy 9 = .ok (.getfield 53, 3) := dc_180 (a := 0) (b := 53) (by decide +kernel)
theorem dX6_lockedBy_12 : decode cX6_lockedBy 12 = .ok (.if_icmp .ge 24, 3) := dc_162 (a := 0) (b := 24) (by decide +kernel) (by decide)
theorem dX6_lockedBy_15 : decode cX6_lockedBy 15 = .ok (.aload_n 0, 1) := dc_42 (by decide +kernel)
theorem dX6_lockedBy_16 : decode cX6_lockedBy 16 = .ok (.getfield 31, 3) := dc_180 (a := 0) (b := 31) (by decide +kernel)
theorem dX6_lockedBy_19 : decode cX6_lockedBy 19 = .ok (.iload_n 3, 1) := dc_29 (by decide +kernel)
theorem dX6_lockedBy_20 : decode cX6_lockedBy 20 = .ok (.invokevirtual 58, 3) := dc_182 (a := 0) (b := 58) (by decide +kernel)
theorem dX6_lockedBy_23 : decode cX6_lockedBy 23 = .ok (.iload_n 1, 1) := dc_27 (by decide +kernel)
theorem dX6_lockedBy_24 : decode cX6_lockedBy 24 = .ok (.if_icmp .ne 6, 3) := dc_160 (a := 0) (b := 6) (by decide +kernel) (by decide)
theorem dX6_lockedBy_27 : decode cX6_lockedBy 27 = .ok (.iinc 2 1, 3) := dc_132 (a := 2) (b := 1) (by decide +kernel) (by decide)
theorem dX6_lockedBy_30 : decode cX6_lockedBy 30 = .ok (.iinc 3 1, 3) := dc_132 (a := 3) (b := 1) (by decide +kernel) (by decide)
theorem dX6_lockedBy_33 : decode cX6_lockedBy 33 = .ok (.goto (-29), 3) := dc_167 (a := 255) (b := 227) (by decide +kernel) (by decide)
theorem dX6_lockedBy_36 : decode cX6_lockedBy 36 = .ok (.iload_n 2, 1) := dc_28 (by decide +kernel)
theorem dX6_lockedBy_37 : decode cX6_lockedBy 37 = .ok (.ireturn, 1) := dc_172 (by decide +kernel)
set_option maxRecDepth 100000 in
set_option maxHeartbeats 4000000 in
theorem w_Routes_lockedBy_j30 {p : Program} {l : Launch} {e : Env} {R : Room} {s : State} {m : MethodId} {args : Array Value} {below : List Frame} {meth : Method} {c : Code} {dC : Nat → ClassId} {dI : Nat → Nat → Nat} {cs : Nat → ClassId} {ad : Nat → Nat} {A : Nat → Prop} {D0 : Nat → Nat} {S' : SS} {r : Int32} (F : Fx p s m args meth c cX6_lockedBy 4 RX6 (some .int) dC dI cs A) (hR1 : 0 ≤ R.frames) (hR2 : 0 ≤ R.locals) (K4 : Int32 → Int32 → Int32 → SS → Option (Int32 × SS)) (hK4 : ∀ (v0 : Int32) (v1 : Int32) (v2 : Int32) (S : SS), K4 v0 v1 v2 S = some (r, S') → AW p l e R s m args below meth c dC dI cs ad A D0 (some (.int r)) S' 4 4 [(0, .ref (ad 67)), (1, .int v0), (2, .int v1), (3, .int v2)] [] S) (x1 : Int32) (x2 : Int32) (x3 : Int32) (S : SS) (h : f_Routes_lockedBy_j30 K4 x1 x2 x3 S = some (r, S')) : AW p l e R s m args below meth c dC dI cs ad A D0 (some (.int r)) S' 4 30 [(0, .ref (ad 67)), (1, .int x1), (2, .int x2), (3, .int x3)] [] S := by
  have hx := F.1.1
  have hb := F.1.2.1
  intro H locs ls w hl
  rw [f_Routes_lockedBy_j30] at h
  refine s_nm h (fun z3 ez3 h => ?_)
  refine lv_iinc (pc := 30) (v := z3) (lv' := [(3, .int z3), (0, .ref (ad 67)), (1, .int x1), (2, .int x2)]) hx hb dX6_lockedBy_30 hl (k := 3) rfl (by rw [ez3]; rfl) (by decide) rfl (fun ls hl => ?_)
  refine lv_goto (pc := 33) (tgt := 4) hx hb dX6_lockedBy_33 (by decide) ?_
  exact hK4 _ _ _ _ h _ _ _ w (lv_sub hl [1, 2, 3, 0] rfl)
set_option maxRecDepth 100000 in
set_option maxHeartbeats 4000000 in
theorem w_Routes_lockedBy_L4 {p : Program} {l : Launch} {e : Env} {R : Room} {s : State} {m : MethodId} {args : Array Value} {below : List Frame} {meth : Method} {c : Code} {dC : Nat → ClassId} {dI : Nat → Nat → Nat} {cs : Nat → ClassId} {ad : Nat → Nat} {A : Nat → Prop} {D0 : Nat → Nat} {S' : SS} {r : Int32} (F : Fx p s m args meth c cX6_lockedBy 4 RX6 (some .int) dC dI cs A) (hR1 : 1 ≤ R.frames) (hR2 : 21 ≤ R.locals) : ∀ (n : Nat) (x1 : Int32) (x2 : Int32) (x3 : Int32) (S : SS), f_Routes_lockedBy_L4 n x1 x2 x3 S = some (r, S') → AW p l e R s m args below meth c dC dI cs ad A D0 (some (.int r)) S' 4 4 [(0, .ref (ad 67)), (1, .int x1), (2, .int x2), (3, .int x3)] [] S := by
  have hx := F.1.1
  have hb := F.1.2.1
  intro n
  induction n with
  | zero => intro x1 x2 x3 S h; cases h
  | succ n ih =>
    intro x1 x2 x3 S h H locs ls w hl
    rw [f_Routes_lockedBy_L4] at h
    refine lv_iload_n (pc := 4) hx hb dX6_lockedBy_4 rfl (lv_at hl 3 rfl) ?_
    refine lv_aload_n (pc := 5) hx hb dX6_lockedBy_5 rfl (lv_at hl 0 rfl) ?_
    refine s_getR (pc := 6) F w 66 ds_67 (j := 1) vc_X6 vi_X6 rfl (by decide) kf_X6_35 dX6_lockedBy_6 ?_
    refine s_getI (pc := 9) F w ds_66 (j := 8) vc_X2 vi_X2 rfl (by decide) kf_X6_53 dX6_lockedBy_9 ?_
    refine lv_icmp_ge (pc := 12) (tgt := 36) hx hb dX6_lockedBy_12 (by decide) (fun q => ?_) (fun q => ?_)
    · have h := ite_t q h
      refine lv_iload_n (pc := 36) hx hb dX6_lockedBy_36 rfl (lv_at hl 2 rfl) ?_
      exact s_iret F w h dX6_lockedBy_37
    · have h := ite_f q h
      refine lv_aload_n (pc := 15) hx hb dX6_lockedBy_15 rfl (lv_at hl 0 rfl) ?_
      refine s_getR (pc := 16) F w 63 ds_67 (j := 0) vc_X6 vi_X6 rfl (by decide) kf_X6_31 dX6_lockedBy_16 ?_
      refine lv_iload_n (pc := 19) hx hb dX6_lockedBy_19 rfl (lv_at hl 3 rfl) ?_
      obtain ⟨r2, S1, hc, h⟩ := bnd_t h
      refine s_cvi (pc := 20) [.int x3] (fun ad => [.ref (ad 63), .int x3]) F w (m_State_locker _ _ _ _ hc) rfl rfl hl.1 ds_63 vc_X8 rfl ok_X8_locker rfl kc_X8_locker kl_X6_58 ki_X8_locker kv_X8_locker kn_X8 ⟨Nat.le_trans (by decide) hR1, Nat.le_trans (by decide) hR2⟩ ⟨Nat.zero_le _, Nat.zero_le _⟩ (Nat.le_of_ble_eq_true rfl) dX6_lockedBy_20 (fun H locs w => ?_)
      refine lv_iload_n (pc := 23) hx hb dX6_lockedBy_23 rfl (lv_at hl 1 rfl) ?_
      refine lv_icmp_ne (pc := 24) (tgt := 30) hx hb dX6_lockedBy_24 (by decide) (fun q => ?_) (fun q => ?_)
      · have h := ite_f q h
        exact w_Routes_lockedBy_j30 F (Nat.le_trans (by decide) hR1) (Nat.le_trans (by decide) hR2) _ (fun v0 v1 v2 S h => ih v0 v1 v2 S h) _ _ _ _ h _ _ _ w (lv_sub hl [0, 1, 2, 3] rfl)
      · have h := ite_t q h
        refine s_nm h (fun z4 ez4 h => ?_)
        refine lv_iinc (pc := 27) (v := z4) (lv' := [(2, .int z4), (0, .ref (ad 67)), (1, .int x1), (3, .int x3)]) hx hb dX6_lockedBy_27 hl (k := 2) rfl (by rw [ez4]; rfl) (by decide) rfl (fun ls hl => ?_)
        exact w_Routes_lockedBy_j30 F (Nat.le_trans (by decide) hR1) (Nat.le_trans (by decide) hR2) _ (fun v0 v1 v2 S h => ih v0 v1 v2 S h) _ _ _ _ h _ _ _ w (lv_sub hl [1, 2, 0, 3] rfl)
set_option maxRecDepth 100000 in
set_option maxHeartbeats 4000000 in
theorem m_Routes_lockedBy (a1 : Int32) (S S' : SS) (r : Int32) (h : f_Routes_lockedBy a1 S = some (r, S')) : MT yX6_lockedBy cX6_lockedBy 4 (some .int) 1 21 (fun ad => [.ref (ad 67), .int a1]) S (some (.int r)) S' := by
  refine MT.of RX6 (fun ad => [(0, .ref (ad 67)), (1, .int a1)]) (by decide) rfl (fun _ => Nat.le_of_ble_eq_true rfl) (fun _ => rfl) ?_
  intro p l e R s m args below meth c dC dI cs ad A hR1 hR2 F H locs ls w hl
  have hx := F.1.1
  have hb := F.1.2.1
  rw [f_Routes_lockedBy] at h
  refine lv_iconst (pc := 0) (v := 0) hx hb dX6_lockedBy_0 (by decide) ?_
  refine lv_istore_n (pc := 1) (lv' := [(2, .int (0 : Int32)), (0, .ref (ad 67)), (1, .int a1)]) hx hb dX6_lockedBy_1 rfl hl (by decide) rfl (fun ls hl => ?_)
  refine lv_iconst (pc := 2) (v := 0) hx hb dX6_lockedBy_2 (by decide) ?_
  refine lv_istore_n (pc := 3) (lv' := [(3, .int (0 : Int32)), (2, .int (0 : Int32)), (0, .ref (ad 67)), (1, .int a1)]) hx hb dX6_lockedBy_3 rfl hl (by decide) rfl (fun ls hl => ?_)
  exact w_Routes_lockedBy_L4 F (Nat.le_trans (by decide) hR1) (Nat.le_trans (by decide) hR2) _ _ _ _ _ h _ _ _ w (lv_sub hl [2, 3, 1, 0] rfl)
