/-! ===== printed by wip/gen: X9_set X9_describe X8_get X8_standsAt X11_standNew X11_wagon X12_missPlace X12_standing X12_missFree X12_put X12_wagon X11_engine X12_engine X0_isBarred X0_setBarred X11_bar ===== -/
def f_X9_set (a1 : Int32) (a2 : Int32) (a3 : Int32) (S : SS) : Option (SS) :=
  if a1 < 0 then
    some S
  else
    if (72 : Int32) ≤ a1 then
      some S
    else
      grd (inb (((6 : Int32) * a1) + a2) 432) (wr S 31 (((6 : Int32) * a1) + a2).toNatClampNeg a3 (fun S1 =>
      some S1))
theorem dX9_set_0 : decode cX9_set 0 = .ok (.iload_n 1, 1) := by decide +kernel
theorem dX9_set_1 : decode cX9_set 1 = .ok (.ifCond .lt 21, 3) := by decide +kernel
theorem dX9_set_4 : decode cX9_set 4 = .ok (.iload_n 1, 1) := by decide +kernel
theorem dX9_set_5 : decode cX9_set 5 = .ok (.bipush 72, 2) := by decide +kernel
theorem dX9_set_7 : decode cX9_set 7 = .ok (.if_icmp .ge 15, 3) := by decide +kernel
theorem dX9_set_10 : decode cX9_set 10 = .ok (.aload_n 0, 1) := by decide +kernel
theorem dX9_set_11 : decode cX9_set 11 = .ok (.getfield 13, 3) := by decide +kernel
theorem dX9_set_14 : decode cX9_set 14 = .ok (.bipush 6, 2) := by decide +kernel
theorem dX9_set_16 : decode cX9_set 16 = .ok (.iload_n 1, 1) := by decide +kernel
theorem dX9_set_17 : decode cX9_set 17 = .ok (.imul, 1) := by decide +kernel
theorem dX9_set_18 : decode cX9_set 18 = .ok (.iload_n 2, 1) := by decide +kernel
theorem dX9_set_19 : decode cX9_set 19 = .ok (.iadd, 1) := by decide +kernel
theorem dX9_set_20 : decode cX9_set 20 = .ok (.iload_n 3, 1) := by decide +kernel
theorem dX9_set_21 : decode cX9_set 21 = .ok (.iastore, 1) := by decide +kernel
theorem dX9_set_22 : decode cX9_set 22 = .ok (.return_, 1) := by decide +kernel
set_option maxRecDepth 100000 in
set_option maxHeartbeats 4000000 in
theorem m_X9_set (a1 : Int32) (a2 : Int32) (a3 : Int32) (S S' : SS) (h : f_X9_set a1 a2 a3 S = some S') : MT yX9_set cX9_set 4 none 0 0 (fun ad => [.ref (ad 4), .int a1, .int a2, .int a3]) S none S' := by
  refine MT.of RX9 (fun ad => [(0, .ref (ad 4)), (1, .int a1), (2, .int a2), (3, .int a3)]) (by decide) rfl (fun _ => Nat.le_of_ble_eq_true rfl) (fun _ => rfl) ?_
  intro p l e R s m args below meth c dC dI cs ad A hR1 hR2 F H locs ls w hl
  have hx := F.1.1
  have hb := F.1.2.1
  rw [f_X9_set] at h
  refine lv_iload_n (pc := 0) hx hb dX9_set_0 rfl (lv_at hl 1 rfl) ?_
  refine lv_if_lt (pc := 1) (tgt := 22) hx hb dX9_set_1 (by decide) (fun q => ?_) (fun q => ?_)
  · have h := ite_t q h
    exact s_vret F w h dX9_set_22
  · have h := ite_f q h
    refine lv_iload_n (pc := 4) hx hb dX9_set_4 rfl (lv_at hl 1 rfl) ?_
    refine lv_bipush (pc := 5) (v := 72) hx hb dX9_set_5 (by decide) ?_
    refine lv_icmp_ge (pc := 7) (tgt := 22) hx hb dX9_set_7 (by decide) (fun q => ?_) (fun q => ?_)
    · have h := ite_t q h
      exact s_vret F w h dX9_set_22
    · have h := ite_f q h
      refine lv_aload_n (pc := 10) hx hb dX9_set_10 rfl (lv_at hl 0 rfl) ?_
      refine s_getR (pc := 11) F w 31 ds_4 (j := 0) vc_X9 vi_X9 rfl (by decide) kf_X9_13 dX9_set_11 ?_
      refine lv_bipush (pc := 14) (v := 6) hx hb dX9_set_14 (by decide) ?_
      refine lv_iload_n (pc := 16) hx hb dX9_set_16 rfl (lv_at hl 1 rfl) ?_
      refine lv_imul (pc := 17) hx hb dX9_set_17 ?_
      refine lv_iload_n (pc := 18) hx hb dX9_set_18 rfl (lv_at hl 2 rfl) ?_
      refine lv_iadd (pc := 19) hx hb dX9_set_19 ?_
      refine lv_iload_n (pc := 20) hx hb dX9_set_20 rfl (lv_at hl 3 rfl) ?_
      refine s_iast (pc := 21) F w ds_31 h dX9_set_21 (fun S1 H locs h w => ?_)
      exact s_vret F w h dX9_set_22
def f_X9_describe (a1 : Int32) (a2 : Int32) (a3 : Int32) (a4 : Int32) (S : SS) : Option (SS) :=
  bndv (f_X9_set a1 (0 : Int32) a2 S) (fun S1 =>
  bndv (f_X9_set a1 (1 : Int32) a3 S1) (fun S2 =>
  bndv (f_X9_set a1 (2 : Int32) a4 S2) (fun S3 =>
  bndv (f_X9_set a1 (3 : Int32) (-4 : Int32) S3) (fun S4 =>
  some S4))))
theorem dX9_describe_0 : decode cX9_describe 0 = .ok (.aload_n 0, 1) := by decide +kernel
theorem dX9_describe_1 : decode cX9_describe 1 = .ok (.iload_n 1, 1) := by decide +kernel
theorem dX9_describe_2 : decode cX9_describe 2 = .ok (.iconst 0, 1) := by decide +kernel
theorem dX9_describe_3 : decode cX9_describe 3 = .ok (.iload_n 2, 1) := by decide +kernel
theorem dX9_describe_4 : decode cX9_describe 4 = .ok (.invokevirtual 20, 3) := by decide +kernel
theorem dX9_describe_7 : decode cX9_describe 7 = .ok (.aload_n 0, 1) := by decide +kernel
theorem dX9_describe_8 : decode cX9_describe 8 = .ok (.iload_n 1, 1) := by decide +kernel
theorem dX9_describe_9 : decode cX9_describe 9 = .ok (.iconst 1, 1) := by decide +kernel
theorem dX9_describe_10 : decode cX9_describe 10 = .ok (.iload_n 3, 1) := by decide +kernel
theorem dX9_describe_11 : decode cX9_describe 11 = .ok (.invokevirtual 20, 3) := by decide +kernel
theorem dX9_describe_14 : decode cX9_describe 14 = .ok (.aload_n 0, 1) := by decide +kernel
theorem dX9_describe_15 : decode cX9_describe 15 = .ok (.iload_n 1, 1) := by decide +kernel
theorem dX9_describe_16 : decode cX9_describe 16 = .ok (.iconst 2, 1) := by decide +kernel
theorem dX9_describe_17 : decode cX9_describe 17 = .ok (.iload 4, 2) := by decide +kernel
theorem dX9_describe_19 : decode cX9_describe 19 = .ok (.invokevirtual 20, 3) := by decide +kernel
theorem dX9_describe_22 : decode cX9_describe 22 = .ok (.aload_n 0, 1) := by decide +kernel
theorem dX9_describe_23 : decode cX9_describe 23 = .ok (.iload_n 1, 1) := by decide +kernel
theorem dX9_describe_24 : decode cX9_describe 24 = .ok (.iconst 3, 1) := by decide +kernel
theorem dX9_describe_25 : decode cX9_describe 25 = .ok (.bipush (-4), 2) := by decide +kernel
theorem dX9_describe_27 : decode cX9_describe 27 = .ok (.invokevirtual 20, 3) := by decide +kernel
theorem dX9_describe_30 : decode cX9_describe 30 = .ok (.return_, 1) := by decide +kernel
set_option maxRecDepth 100000 in
set_option maxHeartbeats 4000000 in
theorem m_X9_describe (a1 : Int32) (a2 : Int32) (a3 : Int32) (a4 : Int32) (S S' : SS) (h : f_X9_describe a1 a2 a3 a4 S = some S') : MT yX9_describe cX9_describe 5 none 1 23 (fun ad => [.ref (ad 4), .int a1, .int a2, .int a3, .int a4]) S none S' := by
  refine MT.of RX9 (fun ad => [(0, .ref (ad 4)), (1, .int a1), (2, .int a2), (3, .int a3), (4, .int a4)]) (by decide) rfl (fun _ => Nat.le_of_ble_eq_true rfl) (fun _ => rfl) ?_
  intro p l e R s m args below meth c dC dI cs ad A hR1 hR2 F H locs ls w hl
  have hx := F.1.1
  have hb := F.1.2.1
  rw [f_X9_describe] at h
  refine lv_aload_n (pc := 0) hx hb dX9_describe_0 rfl (lv_at hl 0 rfl) ?_
  refine lv_iload_n (pc := 1) hx hb dX9_describe_1 rfl (lv_at hl 1 rfl) ?_
  refine lv_iconst (pc := 2) (v := 0) hx hb dX9_describe_2 (by decide) ?_
  refine lv_iload_n (pc := 3) hx hb dX9_describe_3 rfl (lv_at hl 2 rfl) ?_
  obtain ⟨S1, hc, h⟩ := bndv_t h
  refine s_cvv (pc := 4) [.int a1, .int (0 : Int32), .int a2] (fun ad => [.ref (ad 4), .int a1, .int (0 : Int32), .int a2]) F w (m_X9_set _ _ _ _ _ hc) rfl rfl hl.1 ds_4 vc_X9 rfl ok_X9_set rfl kc_X9_set kl_X9_20 ki_X9_set kv_X9_set kn_X9 ⟨Nat.le_trans (by decide) hR1, Nat.le_trans (by decide) hR2⟩ ⟨Nat.zero_le _, Nat.zero_le _⟩ (Nat.le_of_ble_eq_true rfl) dX9_describe_4 (fun H locs w => ?_)
  refine lv_aload_n (pc := 7) hx hb dX9_describe_7 rfl (lv_at hl 0 rfl) ?_
  refine lv_iload_n (pc := 8) hx hb dX9_describe_8 rfl (lv_at hl 1 rfl) ?_
  refine lv_iconst (pc := 9) (v := 1) hx hb dX9_describe_9 (by decide) ?_
  refine lv_iload_n (pc := 10) hx hb dX9_describe_10 rfl (lv_at hl 3 rfl) ?_
  obtain ⟨S2, hc, h⟩ := bndv_t h
  refine s_cvv (pc := 11) [.int a1, .int (1 : Int32), .int a3] (fun ad => [.ref (ad 4), .int a1, .int (1 : Int32), .int a3]) F w (m_X9_set _ _ _ _ _ hc) rfl rfl hl.1 ds_4 vc_X9 rfl ok_X9_set rfl kc_X9_set kl_X9_20 ki_X9_set kv_X9_set kn_X9 ⟨Nat.le_trans (by decide) hR1, Nat.le_trans (by decide) hR2⟩ ⟨Nat.zero_le _, Nat.zero_le _⟩ (Nat.le_of_ble_eq_true rfl) dX9_describe_11 (fun H locs w => ?_)
  refine lv_aload_n (pc := 14) hx hb dX9_describe_14 rfl (lv_at hl 0 rfl) ?_
  refine lv_iload_n (pc := 15) hx hb dX9_describe_15 rfl (lv_at hl 1 rfl) ?_
  refine lv_iconst (pc := 16) (v := 2) hx hb dX9_describe_16 (by decide) ?_
  refine lv_iload (pc := 17) hx hb dX9_describe_17 (lv_at hl 4 rfl) ?_
  obtain ⟨S3, hc, h⟩ := bndv_t h
  refine s_cvv (pc := 19) [.int a1, .int (2 : Int32), .int a4] (fun ad => [.ref (ad 4), .int a1, .int (2 : Int32), .int a4]) F w (m_X9_set _ _ _ _ _ hc) rfl rfl hl.1 ds_4 vc_X9 rfl ok_X9_set rfl kc_X9_set kl_X9_20 ki_X9_set kv_X9_set kn_X9 ⟨Nat.le_trans (by decide) hR1, Nat.le_trans (by decide) hR2⟩ ⟨Nat.zero_le _, Nat.zero_le _⟩ (Nat.le_of_ble_eq_true rfl) dX9_describe_19 (fun H locs w => ?_)
  refine lv_aload_n (pc := 22) hx hb dX9_describe_22 rfl (lv_at hl 0 rfl) ?_
  refine lv_iload_n (pc := 23) hx hb dX9_describe_23 rfl (lv_at hl 1 rfl) ?_
  refine lv_iconst (pc := 24) (v := 3) hx hb dX9_describe_24 (by decide) ?_
  refine lv_bipush (pc := 25) (v := -4) hx hb dX9_describe_25 (by decide) ?_
  obtain ⟨S4, hc, h⟩ := bndv_t h
  refine s_cvv (pc := 27) [.int a1, .int (3 : Int32), .int (-4 : Int32)] (fun ad => [.ref (ad 4), .int a1, .int (3 : Int32), .int (-4 : Int32)]) F w (m_X9_set _ _ _ _ _ hc) rfl rfl hl.1 ds_4 vc_X9 rfl ok_X9_set rfl kc_X9_set kl_X9_20 ki_X9_set kv_X9_set kn_X9 ⟨Nat.le_trans (by decide) hR1, Nat.le_trans (by decide) hR2⟩ ⟨Nat.zero_le _, Nat.zero_le _⟩ (Nat.le_of_ble_eq_true rfl) dX9_describe_27 (fun H locs w => ?_)
  exact s_vret F w h dX9_describe_30
def f_X8_get (a1 : Int32) (a2 : Int32) (S : SS) : Option (Int32 × SS) :=
  if a1 < 0 then
    some ((-4 : Int32), S)
  else
    if (S.1 2 1) ≤ a1 then
      some ((-4 : Int32), S)
    else
      grd (inb (((154 : Int32) + ((11 : Int32) * a1)) + a2) 946) (
      some (S.1 19 (((154 : Int32) + ((11 : Int32) * a1)) + a2).toNatClampNeg, S))
theorem dX8_get_0 : decode cX8_get 0 = .ok (.iload_n 1, 1) := by decide +kernel
theorem dX8_get_1 : decode cX8_get 1 = .ok (.ifCond .lt 29, 3) := by decide +kernel
theorem dX8_get_4 : decode cX8_get 4 = .ok (.iload_n 1, 1) := by decide +kernel
theorem dX8_get_5 : decode cX8_get 5 = .ok (.aload_n 0, 1) := by decide +kernel
theorem dX8_get_6 : decode cX8_get 6 = .ok (.getfield 17, 3) := by decide +kernel
theorem dX8_get_9 : decode cX8_get 9 = .ok (.if_icmp .ge 21, 3) := by decide +kernel
theorem dX8_get_12 : decode cX8_get 12 = .ok (.aload_n 0, 1) := by decide +kernel
theorem dX8_get_13 : decode cX8_get 13 = .ok (.getfield 13, 3) := by decide +kernel
theorem dX8_get_16 : decode cX8_get 16 = .ok (.sipush 154, 3) := by decide +kernel
theorem dX8_get_19 : decode cX8_get 19 = .ok (.bipush 11, 2) := by decide +kernel
theorem dX8_get_21 : decode cX8_get 21 = .ok (.iload_n 1, 1) := by decide +kernel
theorem dX8_get_22 : decode cX8_get 22 = .ok (.imul, 1) := by decide +kernel
theorem dX8_get_23 : decode cX8_get 23 = .ok (.iadd, 1) := by decide +kernel
theorem dX8_get_24 : decode cX8_get 24 = .ok (.iload_n 2, 1) := by decide +kernel
theorem dX8_get_25 : decode cX8_get 25 = .ok (.iadd, 1) := by decide +kernel
theorem dX8_get_26 : decode cX8_get 26 = .ok (.iaload, 1) := by decide +kernel
theorem dX8_get_27 : decode cX8_get 27 = .ok (.goto 5, 3) := by decide +kernel
theorem dX8_get_30 : decode cX8_get 30 = .ok (.bipush (-4), 2) := by decide +kernel
theorem dX8_get_32 : decode cX8_get 32 = .ok (.ireturn, 1) := by decide +kernel
set_option maxRecDepth 100000 in
set_option maxHeartbeats 4000000 in
theorem m_X8_get (a1 : Int32) (a2 : Int32) (S S' : SS) (r : Int32) (h : f_X8_get a1 a2 S = some (r, S')) : MT yX8_get cX8_get 3 (some .int) 0 0 (fun ad => [.ref (ad 2), .int a1, .int a2]) S (some (.int r)) S' := by
  refine MT.of RX8 (fun ad => [(0, .ref (ad 2)), (1, .int a1), (2, .int a2)]) (by decide) rfl (fun _ => Nat.le_of_ble_eq_true rfl) (fun _ => rfl) ?_
  intro p l e R s m args below meth c dC dI cs ad A hR1 hR2 F H locs ls w hl
  have hx := F.1.1
  have hb := F.1.2.1
  rw [f_X8_get] at h
  refine lv_iload_n (pc := 0) hx hb dX8_get_0 rfl (lv_at hl 1 rfl) ?_
  refine lv_if_lt (pc := 1) (tgt := 30) hx hb dX8_get_1 (by decide) (fun q => ?_) (fun q => ?_)
  · have h := ite_t q h
    refine lv_bipush (pc := 30) (v := -4) hx hb dX8_get_30 (by decide) ?_
    exact s_iret F w h dX8_get_32
  · have h := ite_f q h
    refine lv_iload_n (pc := 4) hx hb dX8_get_4 rfl (lv_at hl 1 rfl) ?_
    refine lv_aload_n (pc := 5) hx hb dX8_get_5 rfl (lv_at hl 0 rfl) ?_
    refine s_getI (pc := 6) F w ds_2 (j := 1) vc_X8 vi_X8 rfl (by decide) kf_X8_17 dX8_get_6 ?_
    refine lv_icmp_ge (pc := 9) (tgt := 30) hx hb dX8_get_9 (by decide) (fun q => ?_) (fun q => ?_)
    · have h := ite_t q h
      refine lv_bipush (pc := 30) (v := -4) hx hb dX8_get_30 (by decide) ?_
      exact s_iret F w h dX8_get_32
    · have h := ite_f q h
      refine lv_aload_n (pc := 12) hx hb dX8_get_12 rfl (lv_at hl 0 rfl) ?_
      refine s_getR (pc := 13) F w 19 ds_2 (j := 0) vc_X8 vi_X8 rfl (by decide) kf_X8_13 dX8_get_13 ?_
      refine lv_sipush (pc := 16) (v := 154) hx hb dX8_get_16 (by decide) ?_
      refine lv_bipush (pc := 19) (v := 11) hx hb dX8_get_19 (by decide) ?_
      refine lv_iload_n (pc := 21) hx hb dX8_get_21 rfl (lv_at hl 1 rfl) ?_
      refine lv_imul (pc := 22) hx hb dX8_get_22 ?_
      refine lv_iadd (pc := 23) hx hb dX8_get_23 ?_
      refine lv_iload_n (pc := 24) hx hb dX8_get_24 rfl (lv_at hl 2 rfl) ?_
      refine lv_iadd (pc := 25) hx hb dX8_get_25 ?_
      refine s_iald (pc := 26) F w ds_19 h dX8_get_26 (fun h => ?_)
      refine lv_goto (pc := 27) (tgt := 32) hx hb dX8_get_27 (by decide) ?_
      exact s_iret F w h dX8_get_32
def f_X8_standsAt_L2  : Nat → Int32 → Int32 → SS → Option (Int32 × SS)
  | 0, _, _, _ => none
  | n + 1, x1, x2, S =>
    if (S.1 2 1) ≤ x2 then
      some ((-4 : Int32), S)
    else
      bnd (f_X8_get x2 (0 : Int32) S) (fun r2 S1 =>
      if r2 = x1 then
        some (x2, S1)
      else
        nm (x2 + (1 : Int32)) (fun z3 =>
        f_X8_standsAt_L2 n x1 z3 S1))
def f_X8_standsAt (a1 : Int32) (S : SS) : Option (Int32 × SS) :=
  f_X8_standsAt_L2 NF a1 (0 : Int32) S
theorem dX8_standsAt_0 : decode cX8_standsAt 0 = .ok (.iconst 0, 1) := by decide +kernel
theorem dX8_standsAt_1 : decode cX8_standsAt 1 = .ok (.istore_n 2, 1) := by decide +kernel
theorem dX8_standsAt_2 : decode cX8_standsAt 2 = .ok (.iload_n 2, 1) := by decide +kernel
theorem dX8_standsAt_3 : decode cX8_standsAt 3 = .ok (.aload_n 0, 1) := by decide +kernel
theorem dX8_standsAt_4 : decode cX8_standsAt 4 = .ok (.getfield 17, 3) := by decide +kernel
theorem dX8_standsAt_7 : decode cX8_standsAt 7 = .ok (.if_icmp .ge 21, 3) := by decide +kernel
theorem dX8_standsAt_10 : decode cX8_standsAt 10 = .ok (.aload_n 0, 1) := by decide +kernel
theorem dX8_standsAt_11 : decode cX8_standsAt 11 = .ok (.iload_n 2, 1) := by decide +kernel
theorem dX8_standsAt_12 : decode cX8_standsAt 12 = .ok (.iconst 0, 1) := by decide +kernel
theorem dX8_standsAt_13 : decode cX8_standsAt 13 = .ok (.invokevirtual 31, 3) := by decide +kernel
theorem dX8_standsAt_16 : decode cX8_standsAt 16 = .ok (.iload_n 1, 1) := by decide +kernel
theorem dX8_standsAt_17 : decode cX8_standsAt 17 = .ok (.if_icmp .ne 5, 3) := by decide +kernel
theorem dX8_standsAt_20 : decode cX8_standsAt 20 = .ok (.iload_n 2, 1) := by decide +kernel
theorem dX8_standsAt_21 : decode cX8_standsAt 21 = .ok (.ireturn, 1) := by decide +kernel
theorem dX8_standsAt_22 : decode cX8_standsAt 22 = .ok (.iinc 2 1, 3) := by decide +kernel
theorem dX8_standsAt_25 : decode cX8_standsAt 25 = .ok (.goto (-23), 3) := by decide +kernel
theorem dX8_standsAt_28 : decode cX8_standsAt 28 = .ok (.bipush (-4), 2) := by decide +kernel
theorem dX8_standsAt_30 : decode cX8_standsAt 30 = .ok (.ireturn, 1) := by decide +kernel
set_option maxRecDepth 100000 in
set_option maxHeartbeats 4000000 in
theorem w_X8_standsAt_L2 {p : Program} {l : Launch} {e : Env} {R : Room} {s : State} {m : MethodId} {args : Array Value} {below : List Frame} {meth : Method} {c : Code} {dC : Nat → ClassId} {dI : Nat → Nat → Nat} {cs : Nat → ClassId} {ad : Nat → Nat} {A : Nat → Prop} {D0 : Nat → Nat} {S' : SS} {r : Int32} (F : Fx p s m args meth c cX8_standsAt 3 RX8 (some .int) dC dI cs A) (hR1 : 1 ≤ R.frames) (hR2 : 22 ≤ R.locals) : ∀ (n : Nat) (x1 : Int32) (x2 : Int32) (S : SS), f_X8_standsAt_L2 n x1 x2 S = some (r, S') → AW p l e R s m args below meth c dC dI cs ad A D0 (some (.int r)) S' 3 2 [(0, .ref (ad 2)), (1, .int x1), (2, .int x2)] [] S := by
  have hx := F.1.1
  have hb := F.1.2.1
  intro n
  induction n with
  | zero => intro x1 x2 S h; cases h
  | succ n ih =>
    intro x1 x2 S h H locs ls w hl
    rw [f_X8_standsAt_L2] at h
    refine lv_iload_n (pc := 2) hx hb dX8_standsAt_2 rfl (lv_at hl 2 rfl) ?_
    refine lv_aload_n (pc := 3) hx hb dX8_standsAt_3 rfl (lv_at hl 0 rfl) ?_
    refine s_getI (pc := 4) F w ds_2 (j := 1) vc_X8 vi_X8 rfl (by decide) kf_X8_17 dX8_standsAt_4 ?_
    refine lv_icmp_ge (pc := 7) (tgt := 28) hx hb dX8_standsAt_7 (by decide) (fun q => ?_) (fun q => ?_)
    · have h := ite_t q h
      refine lv_bipush (pc := 28) (v := -4) hx hb dX8_standsAt_28 (by decide) ?_
      exact s_iret F w h dX8_standsAt_30
    · have h := ite_f q h
      refine lv_aload_n (pc := 10) hx hb dX8_standsAt_10 rfl (lv_at hl 0 rfl) ?_
      refine lv_iload_n (pc := 11) hx hb dX8_standsAt_11 rfl (lv_at hl 2 rfl) ?_
      refine lv_iconst (pc := 12) (v := 0) hx hb dX8_standsAt_12 (by decide) ?_
      obtain ⟨r2, S1, hc, h⟩ := bnd_t h
      refine s_cvi (pc := 13) [.int x2, .int (0 : Int32)] (fun ad => [.ref (ad 2), .int x2, .int (0 : Int32)]) F w (m_X8_get _ _ _ _ _ hc) rfl rfl hl.1 ds_2 vc_X8 rfl ok_X8_get rfl kc_X8_get kl_X8_31 ki_X8_get kv_X8_get kn_X8 ⟨Nat.le_trans (by decide) hR1, Nat.le_trans (by decide) hR2⟩ ⟨Nat.zero_le _, Nat.zero_le _⟩ (Nat.le_of_ble_eq_true rfl) dX8_standsAt_13 (fun H locs w => ?_)
      refine lv_iload_n (pc := 16) hx hb dX8_standsAt_16 rfl (lv_at hl 1 rfl) ?_
      refine lv_icmp_ne (pc := 17) (tgt := 22) hx hb dX8_standsAt_17 (by decide) (fun q => ?_) (fun q => ?_)
      · have h := ite_f q h
        refine s_nm h (fun z3 ez3 h => ?_)
        refine lv_iinc (pc := 22) (v := z3) (lv' := [(2, .int z3), (0, .ref (ad 2)), (1, .int x1)]) hx hb dX8_standsAt_22 hl (k := 2) rfl (by rw [ez3]; rfl) (by decide) rfl (fun ls hl => ?_)
        refine lv_goto (pc := 25) (tgt := 2) hx hb dX8_standsAt_25 (by decide) ?_
        exact ih _ _ _ h _ _ _ w (lv_sub hl [1, 2, 0] rfl)
      · have h := ite_t q h
        refine lv_iload_n (pc := 20) hx hb dX8_standsAt_20 rfl (lv_at hl 2 rfl) ?_
        exact s_iret F w h dX8_standsAt_21
set_option maxRecDepth 100000 in
set_option maxHeartbeats 4000000 in
theorem m_X8_standsAt (a1 : Int32) (S S' : SS) (r : Int32) (h : f_X8_standsAt a1 S = some (r, S')) : MT yX8_standsAt cX8_standsAt 3 (some .int) 1 22 (fun ad => [.ref (ad 2), .int a1]) S (some (.int r)) S' := by
  refine MT.of RX8 (fun ad => [(0, .ref (ad 2)), (1, .int a1)]) (by decide) rfl (fun _ => Nat.le_of_ble_eq_true rfl) (fun _ => rfl) ?_
  intro p l e R s m args below meth c dC dI cs ad A hR1 hR2 F H locs ls w hl
  have hx := F.1.1
  have hb := F.1.2.1
  rw [f_X8_standsAt] at h
  refine lv_iconst (pc := 0) (v := 0) hx hb dX8_standsAt_0 (by decide) ?_
  refine lv_istore_n (pc := 1) (lv' := [(2, .int (0 : Int32)), (0, .ref (ad 2)), (1, .int a1)]) hx hb dX8_standsAt_1 rfl hl (by decide) rfl (fun ls hl => ?_)
  exact w_X8_standsAt_L2 F (Nat.le_trans (by decide) hR1) (Nat.le_trans (by decide) hR2) _ _ _ _ h _ _ _ w (lv_sub hl [1, 2, 0] rfl)
def f_X11_standNew_j59  (x1 : Int32) (x2 : Int32) (x3 : Int32) (x4 : Int32) (x5 : Int32) (x6 : Int32) (S : SS) : Option (Int32 × SS) :=
    if x6 = 0 then
      bndv (f_X1_forget  S) (fun S4 =>
      bnd (f_X2_spot x1 x2 S4) (fun r6 S5 =>
      bnd (f_X10_nextSerial  S5) (fun r8 S7 =>
      bnd (f_X8_addThing r6 r8 S7) (fun r10 S9 =>
      bndv (f_X9_describe r10 x3 x4 x5 S9) (fun S11 =>
      some (r10, S11))))))
    else
      bnd (f_X5_found x6 S) (fun r13 S12 =>
      some (r13, S12))
def f_X11_standNew (a1 : Int32) (a2 : Int32) (a3 : Int32) (a4 : Int32) (a5 : Int32) (S : SS) : Option (Int32 × SS) :=
  if (S.1 2 1) < (72 : Int32) then
    bndv (f_X5_begin  S) (fun S1 =>
    bnd (f_X2_placeFinding a1 a2 S1) (fun r3 S2 =>
    if r3 = 0 then
      bnd (f_X2_spot a1 a2 S2) (fun r15 S14 =>
      bnd (f_X8_standsAt r15 S14) (fun r17 S16 =>
      if r17 = (-4 : Int32) then
        f_X11_standNew_j59 a1 a2 a3 a4 a5 r3 S16
      else
        f_X11_standNew_j59 a1 a2 a3 a4 a5 (9 : Int32) S16))
    else
      f_X11_standNew_j59 a1 a2 a3 a4 a5 r3 S2))
  else
    some ((-3 : Int32), S)
theorem dX11_standNew_0 : decode cX11_standNew 0 = .ok (.aload_n 0, 1) := by decide +kernel
theorem dX11_standNew_1 : decode cX11_standNew 1 = .ok (.getfield 19, 3) := by decide +kernel
theorem dX11_standNew_4 : decode cX11_standNew 4 = .ok (.getfield 140, 3) := by decide +kernel
theorem dX11_standNew_7 : decode cX11_standNew 7 = .ok (.bipush 72, 2) := by decide +kernel
theorem dX11_standNew_9 : decode cX11_standNew 9 = .ok (.if_icmp .lt 6, 3) := by decide +kernel
theorem dX11_standNew_12 : decode cX11_standNew 12 = .ok (.bipush (-3), 2) := by decide +kernel
theorem dX11_standNew_14 : decode cX11_standNew 14 = .ok (.ireturn, 1) := by decide +kernel
theorem dX11_standNew_15 : decode cX11_standNew 15 = .ok (.aload_n 0, 1) := by decide +kernel
theorem dX11_standNew_16 : decode cX11_standNew 16 = .ok (.getfield 10, 3) := by decide +kernel
theorem dX11_standNew_19 : decode cX11_standNew 19 = .ok (.invokevirtual 95, 3) := by decide +kernel
theorem dX11_standNew_22 : decode cX11_standNew 22 = .ok (.aload_n 0, 1) := by decide +kernel
theorem dX11_standNew_23 : decode cX11_standNew 23 = .ok (.getfield 42, 3) := by decide +kernel
theorem dX11_standNew_26 : decode cX11_standNew 26 = .ok (.iload_n 1, 1) := by decide +kernel
theorem dX11_standNew_27 : decode cX11_standNew 27 = .ok (.iload_n 2, 1) := by decide +kernel
theorem dX11_standNew_28 : decode cX11_standNew 28 = .ok (.invokevirtual 143, 3) := by decide +kernel
theorem dX11_standNew_31 : decode cX11_standNew 31 = .ok (.istore 6, 2) := by decide +kernel
theorem dX11_standNew_33 : decode cX11_standNew 33 = .ok (.iload 6, 2) := by decide +kernel
theorem dX11_standNew_35 : decode cX11_standNew 35 = .ok (.ifCond .ne 24, 3) := by decide +kernel
theorem dX11_standNew_38 : decode cX11_standNew 38 = .ok (.aload_n 0, 1) := by decide +kernel
theorem dX11_standNew_39 : decode cX11_standNew 39 = .ok (.getfield 19, 3) := by decide +kernel
theorem dX11_standNew_42 : decode cX11_standNew 42 = .ok (.iload_n 1, 1) := by decide +kernel
theorem dX11_standNew_43 : decode cX11_standNew 43 = .ok (.iload_n 2, 1) := by decide +kernel
theorem dX11_standNew_44 : decode cX11_standNew 44 = .ok (.invokestatic 147, 3) := by decide +kernel
theorem dX11_standNew_47 : decode cX11_standNew 47 = .ok (.invokevirtual 150, 3) := by decide +kernel
theorem dX11_standNew_50 : decode cX11_standNew 50 = .ok (.bipush (-4), 2) := by decide +kernel
theorem dX11_standNew_52 : decode cX11_standNew 52 = .ok (.if_icmp .eq 7, 3) := by decide +kernel
theorem dX11_standNew_55 : decode cX11_standNew 55 = .ok (.bipush 9, 2) := by decide +kernel
theorem dX11_standNew_57 : decode cX11_standNew 57 = .ok (.istore 6, 2) := by decide +kernel
theorem dX11_standNew_59 : decode cX11_standNew 59 = .ok (.iload 6, 2) := by decide +kernel
theorem dX11_standNew_61 : decode cX11_standNew 61 = .ok (.ifCond .eq 13, 3) := by decide +kernel
theorem dX11_standNew_64 : decode cX11_standNew 64 = .ok (.aload_n 0, 1) := by decide +kernel
theorem dX11_standNew_65 : decode cX11_standNew 65 = .ok (.getfield 10, 3) := by decide +kernel
theorem dX11_standNew_68 : decode cX11_standNew 68 = .ok (.iload 6, 2) := by decide +kernel
theorem dX11_standNew_70 : decode cX11_standNew 70 = .ok (.invokevirtual 98, 3) := by decide +kernel
theorem dX11_standNew_73 : decode cX11_standNew 73 = .ok (.ireturn, 1) := by decide +kernel
theorem dX11_standNew_74 : decode cX11_standNew 74 = .ok (.aload_n 0, 1) := by decide +kernel
theorem dX11_standNew_75 : decode cX11_standNew 75 = .ok (.getfield 26, 3) := by decide +kernel
theorem dX11_standNew_78 : decode cX11_standNew 78 = .ok (.invokevirtual 102, 3) := by decide +kernel
theorem dX11_standNew_81 : decode cX11_standNew 81 = .ok (.aload_n 0, 1) := by decide +kernel
theorem dX11_standNew_82 : decode cX11_standNew 82 = .ok (.getfield 19, 3) := by decide +kernel
theorem dX11_standNew_85 : decode cX11_standNew 85 = .ok (.iload_n 1, 1) := by decide +kernel
theorem dX11_standNew_86 : decode cX11_standNew 86 = .ok (.iload_n 2, 1) := by decide +kernel
theorem dX11_standNew_87 : decode cX11_standNew 87 = .ok (.invokestatic 147, 3) := by decide +kernel
theorem dX11_standNew_90 : decode cX11_standNew 90 = .ok (.aload_n 0, 1) := by decide +kernel
theorem dX11_standNew_91 : decode cX11_standNew 91 = .ok (.getfield 58, 3) := by decide +kernel
theorem dX11_standNew_94 : decode cX11_standNew 94 = .ok (.invokevirtual 153, 3) := by decide +kernel
theorem dX11_standNew_97 : decode cX11_standNew 97 = .ok (.invokevirtual 157, 3) := by decide +kernel
theorem dX11_standNew_100 : decode cX11_standNew 100 = .ok (.istore 7, 2) := by decide +kernel
theorem dX11_standNew_102 : decode cX11_standNew 102 = .ok (.aload_n 0, 1) := by decide +kernel
theorem dX11_standNew_103 : decode cX11_standNew 103 = .ok (.getfield 33, 3) := by decide +kernel
theorem dX11_standNew_106 : decode cX11_standNew 106 = .ok (.iload 7, 2) := by decide +kernel
theorem dX11_standNew_108 : decode cX11_standNew 108 = .ok (.iload_n 3, 1) := by decide +kernel
theorem dX11_standNew_109 : decode cX11_standNew 109 = .ok (.iload 4, 2) := by decide +kernel
theorem dX11_standNew_111 : decode cX11_standNew 111 = .ok (.iload 5, 2) := by decide +kernel
theorem dX11_standNew_113 : decode cX11_standNew 113 = .ok (.invokevirtual 160, 3) := by decide +kernel
theorem dX11_standNew_116 : decode cX11_standNew 116 = .ok (.iload 7, 2) := by decide +kernel
theorem dX11_standNew_118 : decode cX11_standNew 118 = .ok (.ireturn, 1) := by decide +kernel
set_option maxRecDepth 100000 in
set_option maxHeartbeats 4000000 in
theorem w_X11_standNew_j59 {p : Program} {l : Launch} {e : Env} {R : Room} {s : State} {m : MethodId} {args : Array Value} {below : List Frame} {meth : Method} {c : Code} {dC : Nat → ClassId} {dI : Nat → Nat → Nat} {cs : Nat → ClassId} {ad : Nat → Nat} {A : Nat → Prop} {D0 : Nat → Nat} {S' : SS} {r : Int32} (F : Fx p s m args meth c cX11_standNew 8 RX11 (some .int) dC dI cs A) (hR1 : 3 ≤ R.frames) (hR2 : 69 ≤ R.locals) (x1 : Int32) (x2 : Int32) (x3 : Int32) (x4 : Int32) (x5 : Int32) (x6 : Int32) (S : SS) (h : f_X11_standNew_j59 x1 x2 x3 x4 x5 x6 S = some (r, S')) : AW p l e R s m args below meth c dC dI cs ad A D0 (some (.int r)) S' 8 59 [(0, .ref (ad 0)), (1, .int x1), (2, .int x2), (3, .int x3), (4, .int x4), (5, .int x5), (6, .int x6)] [] S := by
  have hx := F.1.1
  have hb := F.1.2.1
  intro H locs ls w hl
  rw [f_X11_standNew_j59] at h
  refine lv_iload (pc := 59) hx hb dX11_standNew_59 (lv_at hl 6 rfl) ?_
  refine lv_if_eq (pc := 61) (tgt := 74) hx hb dX11_standNew_61 (by decide) (fun q => ?_) (fun q => ?_)
  · have h := ite_t q h
    refine lv_aload_n (pc := 74) hx hb dX11_standNew_74 rfl (lv_at hl 0 rfl) ?_
    refine s_getR (pc := 75) F w 3 ds_0 (j := 2) vc_X11 vi_X11 rfl (by decide) kf_X11_26 dX11_standNew_75 ?_
    obtain ⟨S4, hc, h⟩ := bndv_t h
    refine s_cvv (pc := 78) [] (fun ad => [.ref (ad 3)]) F w (m_X1_forget  _ _ hc) rfl rfl hl.1 ds_3 vc_X1 rfl ok_X1_forget rfl kc_X1_forget kl_X11_102 ki_X1_forget kv_X1_forget kn_X1 ⟨Nat.le_trans (by decide) hR1, Nat.le_trans (by decide) hR2⟩ ⟨Nat.zero_le _, Nat.zero_le _⟩ (Nat.le_of_ble_eq_true rfl) dX11_standNew_78 (fun H locs w => ?_)
    refine lv_aload_n (pc := 81) hx hb dX11_standNew_81 rfl (lv_at hl 0 rfl) ?_
    refine s_getR (pc := 82) F w 2 ds_0 (j := 1) vc_X11 vi_X11 rfl (by decide) kf_X11_19 dX11_standNew_82 ?_
    refine lv_iload_n (pc := 85) hx hb dX11_standNew_85 rfl (lv_at hl 1 rfl) ?_
    refine lv_iload_n (pc := 86) hx hb dX11_standNew_86 rfl (lv_at hl 2 rfl) ?_
    obtain ⟨r6, S5, hc, h⟩ := bnd_t h
    refine s_csi (pc := 87) [.int x1, .int x2] (fun ad => [.int x1, .int x2]) F w (m_X2_spot _ _ _ _ _ hc) rfl rfl hl.1 ok_X2_spot rfl kc_X2_spot kl_X11_147 ks_X2_spot kn_X2 ⟨Nat.le_trans (by decide) hR1, Nat.le_trans (by decide) hR2⟩ ⟨Nat.zero_le _, Nat.zero_le _⟩ (Nat.le_of_ble_eq_true rfl) dX11_standNew_87 (fun H locs w => ?_)
    refine lv_aload_n (pc := 90) hx hb dX11_standNew_90 rfl (lv_at hl 0 rfl) ?_
    refine s_getR (pc := 91) F w 7 ds_0 (j := 6) vc_X11 vi_X11 rfl (by decide) kf_X11_58 dX11_standNew_91 ?_
    obtain ⟨r8, S7, hc, h⟩ := bnd_t h
    refine s_cvi (pc := 94) [] (fun ad => [.ref (ad 7)]) F w (m_X10_nextSerial  _ _ _ hc) rfl rfl hl.1 ds_7 vc_X10 rfl ok_X10_nextSerial rfl kc_X10_nextSerial kl_X11_153 ki_X10_nextSerial kv_X10_nextSerial kn_X10 ⟨Nat.le_trans (by decide) hR1, Nat.le_trans (by decide) hR2⟩ ⟨Nat.zero_le _, Nat.zero_le _⟩ (Nat.le_of_ble_eq_true rfl) dX11_standNew_94 (fun H locs w => ?_)
    obtain ⟨r10, S9, hc, h⟩ := bnd_t h
    refine s_cvi (pc := 97) [.int r6, .int r8] (fun ad => [.ref (ad 2), .int r6, .int r8]) F w (m_X8_addThing _ _ _ _ _ hc) rfl rfl hl.1 ds_2 vc_X8 rfl ok_X8_addThing rfl kc_X8_addThing kl_X11_157 ki_X8_addThing kv_X8_addThing kn_X8 ⟨Nat.le_trans (by decide) hR1, Nat.le_trans (by decide) hR2⟩ ⟨Nat.zero_le _, Nat.zero_le _⟩ (Nat.le_of_ble_eq_true rfl) dX11_standNew_97 (fun H locs w => ?_)
    refine lv_istore (pc := 100) (lv' := [(7, .int r10), (0, .ref (ad 0)), (1, .int x1), (2, .int x2), (3, .int x3), (4, .int x4), (5, .int x5), (6, .int x6)]) hx hb dX11_standNew_100 hl (by decide) rfl (fun ls hl => ?_)
    refine lv_aload_n (pc := 102) hx hb dX11_standNew_102 rfl (lv_at hl 1 rfl) ?_
    refine s_getR (pc := 103) F w 4 ds_0 (j := 3) vc_X11 vi_X11 rfl (by decide) kf_X11_33 dX11_standNew_103 ?_
    refine lv_iload (pc := 106) hx hb dX11_standNew_106 (lv_at hl 0 rfl) ?_
    refine lv_iload_n (pc := 108) hx hb dX11_standNew_108 rfl (lv_at hl 4 rfl) ?_
    refine lv_iload (pc := 109) hx hb dX11_standNew_109 (lv_at hl 5 rfl) ?_
    refine lv_iload (pc := 111) hx hb dX11_standNew_111 (lv_at hl 6 rfl) ?_
    obtain ⟨S11, hc, h⟩ := bndv_t h
    refine s_cvv (pc := 113) [.int r10, .int x3, .int x4, .int x5] (fun ad => [.ref (ad 4), .int r10, .int x3, .int x4, .int x5]) F w (m_X9_describe _ _ _ _ _ _ hc) rfl rfl hl.1 ds_4 vc_X9 rfl ok_X9_describe rfl kc_X9_describe kl_X11_160 ki_X9_describe kv_X9_describe kn_X9 ⟨Nat.le_trans (by decide) hR1, Nat.le_trans (by decide) hR2⟩ ⟨Nat.zero_le _, Nat.zero_le _⟩ (Nat.le_of_ble_eq_true rfl) dX11_standNew_113 (fun H locs w => ?_)
    refine lv_iload (pc := 116) hx hb dX11_standNew_116 (lv_at hl 0 rfl) ?_
    exact s_iret F w h dX11_standNew_118
  · have h := ite_f q h
    refine lv_aload_n (pc := 64) hx hb dX11_standNew_64 rfl (lv_at hl 0 rfl) ?_
    refine s_getR (pc := 65) F w 1 ds_0 (j := 0) vc_X11 vi_X11 rfl (by decide) kf_X11_10 dX11_standNew_65 ?_
    refine lv_iload (pc := 68) hx hb dX11_standNew_68 (lv_at hl 6 rfl) ?_
    obtain ⟨r13, S12, hc, h⟩ := bnd_t h
    refine s_cvi (pc := 70) [.int x6] (fun ad => [.ref (ad 1), .int x6]) F w (m_X5_found _ _ _ _ hc) rfl rfl hl.1 ds_1 vc_X5 rfl ok_X5_found rfl kc_X5_found kl_X11_98 ki_X5_found kv_X5_found kn_X5 ⟨Nat.le_trans (by decide) hR1, Nat.le_trans (by decide) hR2⟩ ⟨Nat.zero_le _, Nat.zero_le _⟩ (Nat.le_of_ble_eq_true rfl) dX11_standNew_70 (fun H locs w => ?_)
    exact s_iret F w h dX11_standNew_73
set_option maxRecDepth 100000 in
set_option maxHeartbeats 4000000 in
theorem m_X11_standNew (a1 : Int32) (a2 : Int32) (a3 : Int32) (a4 : Int32) (a5 : Int32) (S S' : SS) (r : Int32) (h : f_X11_standNew a1 a2 a3 a4 a5 S = some (r, S')) : MT yX11_standNew cX11_standNew 8 (some .int) 3 69 (fun ad => [.ref (ad 0), .int a1, .int a2, .int a3, .int a4, .int a5]) S (some (.int r)) S' := by
  refine MT.of RX11 (fun ad => [(0, .ref (ad 0)), (1, .int a1), (2, .int a2), (3, .int a3), (4, .int a4), (5, .int a5)]) (by decide) rfl (fun _ => Nat.le_of_ble_eq_true rfl) (fun _ => rfl) ?_
  intro p l e R s m args below meth c dC dI cs ad A hR1 hR2 F H locs ls w hl
  have hx := F.1.1
  have hb := F.1.2.1
  rw [f_X11_standNew] at h
  refine lv_aload_n (pc := 0) hx hb dX11_standNew_0 rfl (lv_at hl 0 rfl) ?_
  refine s_getR (pc := 1) F w 2 ds_0 (j := 1) vc_X11 vi_X11 rfl (by decide) kf_X11_19 dX11_standNew_1 ?_
  refine s_getI (pc := 4) F w ds_2 (j := 1) vc_X8 vi_X8 rfl (by decide) kf_X11_140 dX11_standNew_4 ?_
  refine lv_bipush (pc := 7) (v := 72) hx hb dX11_standNew_7 (by decide) ?_
  refine lv_icmp_lt (pc := 9) (tgt := 15) hx hb dX11_standNew_9 (by decide) (fun q => ?_) (fun q => ?_)
  · have h := ite_t q h
    refine lv_aload_n (pc := 15) hx hb dX11_standNew_15 rfl (lv_at hl 0 rfl) ?_
    refine s_getR (pc := 16) F w 1 ds_0 (j := 0) vc_X11 vi_X11 rfl (by decide) kf_X11_10 dX11_standNew_16 ?_
    obtain ⟨S1, hc, h⟩ := bndv_t h
    refine s_cvv (pc := 19) [] (fun ad => [.ref (ad 1)]) F w (m_X5_begin  _ _ hc) rfl rfl hl.1 ds_1 vc_X5 rfl ok_X5_begin rfl kc_X5_begin kl_X11_95 ki_X5_begin kv_X5_begin kn_X5 ⟨Nat.le_trans (by decide) hR1, Nat.le_trans (by decide) hR2⟩ ⟨Nat.zero_le _, Nat.zero_le _⟩ (Nat.le_of_ble_eq_true rfl) dX11_standNew_19 (fun H locs w => ?_)
    refine lv_aload_n (pc := 22) hx hb dX11_standNew_22 rfl (lv_at hl 0 rfl) ?_
    refine s_getR (pc := 23) F w 5 ds_0 (j := 4) vc_X11 vi_X11 rfl (by decide) kf_X11_42 dX11_standNew_23 ?_
    refine lv_iload_n (pc := 26) hx hb dX11_standNew_26 rfl (lv_at hl 1 rfl) ?_
    refine lv_iload_n (pc := 27) hx hb dX11_standNew_27 rfl (lv_at hl 2 rfl) ?_
    obtain ⟨r3, S2, hc, h⟩ := bnd_t h
    refine s_cvi (pc := 28) [.int a1, .int a2] (fun ad => [.ref (ad 5), .int a1, .int a2]) F w (m_X2_placeFinding _ _ _ _ _ hc) rfl rfl hl.1 ds_5 vc_X2 rfl ok_X2_placeFinding rfl kc_X2_placeFinding kl_X11_143 ki_X2_placeFinding kv_X2_placeFinding kn_X2 ⟨Nat.le_trans (by decide) hR1, Nat.le_trans (by decide) hR2⟩ ⟨Nat.zero_le _, Nat.zero_le _⟩ (Nat.le_of_ble_eq_true rfl) dX11_standNew_28 (fun H locs w => ?_)
    refine lv_istore (pc := 31) (lv' := [(6, .int r3), (0, .ref (ad 0)), (1, .int a1), (2, .int a2), (3, .int a3), (4, .int a4), (5, .int a5)]) hx hb dX11_standNew_31 hl (by decide) rfl (fun ls hl => ?_)
    refine lv_iload (pc := 33) hx hb dX11_standNew_33 (lv_at hl 0 rfl) ?_
    refine lv_if_ne (pc := 35) (tgt := 59) hx hb dX11_standNew_35 (by decide) (fun q => ?_) (fun q => ?_)
    · have h := ite_f q h
      exact w_X11_standNew_j59 F (Nat.le_trans (by decide) hR1) (Nat.le_trans (by decide) hR2) _ _ _ _ _ _ _ h _ _ _ w (lv_sub hl [1, 2, 3, 4, 5, 6, 0] rfl)
    · have h := ite_t q h
      refine lv_aload_n (pc := 38) hx hb dX11_standNew_38 rfl (lv_at hl 1 rfl) ?_
      refine s_getR (pc := 39) F w 2 ds_0 (j := 1) vc_X11 vi_X11 rfl (by decide) kf_X11_19 dX11_standNew_39 ?_
      refine lv_iload_n (pc := 42) hx hb dX11_standNew_42 rfl (lv_at hl 2 rfl) ?_
      refine lv_iload_n (pc := 43) hx hb dX11_standNew_43 rfl (lv_at hl 3 rfl) ?_
      obtain ⟨r15, S14, hc, h⟩ := bnd_t h
      refine s_csi (pc := 44) [.int a1, .int a2] (fun ad => [.int a1, .int a2]) F w (m_X2_spot _ _ _ _ _ hc) rfl rfl hl.1 ok_X2_spot rfl kc_X2_spot kl_X11_147 ks_X2_spot kn_X2 ⟨Nat.le_trans (by decide) hR1, Nat.le_trans (by decide) hR2⟩ ⟨Nat.zero_le _, Nat.zero_le _⟩ (Nat.le_of_ble_eq_true rfl) dX11_standNew_44 (fun H locs w => ?_)
      obtain ⟨r17, S16, hc, h⟩ := bnd_t h
      refine s_cvi (pc := 47) [.int r15] (fun ad => [.ref (ad 2), .int r15]) F w (m_X8_standsAt _ _ _ _ hc) rfl rfl hl.1 ds_2 vc_X8 rfl ok_X8_standsAt rfl kc_X8_standsAt kl_X11_150 ki_X8_standsAt kv_X8_standsAt kn_X8 ⟨Nat.le_trans (by decide) hR1, Nat.le_trans (by decide) hR2⟩ ⟨Nat.zero_le _, Nat.zero_le _⟩ (Nat.le_of_ble_eq_true rfl) dX11_standNew_47 (fun H locs w => ?_)
      refine lv_bipush (pc := 50) (v := -4) hx hb dX11_standNew_50 (by decide) ?_
      refine lv_icmp_eq (pc := 52) (tgt := 59) hx hb dX11_standNew_52 (by decide) (fun q => ?_) (fun q => ?_)
      · have h := ite_t q h
        exact w_X11_standNew_j59 F (Nat.le_trans (by decide) hR1) (Nat.le_trans (by decide) hR2) _ _ _ _ _ _ _ h _ _ _ w (lv_sub hl [1, 2, 3, 4, 5, 6, 0] rfl)
      · have h := ite_f q h
        refine lv_bipush (pc := 55) (v := 9) hx hb dX11_standNew_55 (by decide) ?_
        refine lv_istore (pc := 57) (lv' := [(6, .int (9 : Int32)), (0, .ref (ad 0)), (1, .int a1), (2, .int a2), (3, .int a3), (4, .int a4), (5, .int a5)]) hx hb dX11_standNew_57 hl (by decide) rfl (fun ls hl => ?_)
        exact w_X11_standNew_j59 F (Nat.le_trans (by decide) hR1) (Nat.le_trans (by decide) hR2) _ _ _ _ _ _ _ h _ _ _ w (lv_sub hl [1, 2, 3, 4, 5, 6, 0] rfl)
  · have h := ite_f q h
    refine lv_bipush (pc := 12) (v := -3) hx hb dX11_standNew_12 (by decide) ?_
    exact s_iret F w h dX11_standNew_14
def f_X11_wagon (a1 : Int32) (a2 : Int32) (a3 : Int32) (a4 : Int32) (a5 : Int32) (S : SS) : Option (Int32 × SS) :=
  bnd (f_X11_isNot a1 (0 : Int32) (4 : Int32) S) (fun r2 S1 =>
  if r2 = 0 then
    bnd (f_X11_isNot a4 (0 : Int32) (8 : Int32) S1) (fun r4 S3 =>
    if r4 = 0 then
      bnd (f_X11_isNot a5 (1 : Int32) (100 : Int32) S3) (fun r6 S5 =>
      if r6 = 0 then
        bnd (f_X11_standNew a2 a3 a1 a4 a5 S5) (fun r8 S7 =>
        some (r8, S7))
      else
        some ((-1 : Int32), S5))
    else
      some ((-1 : Int32), S3))
  else
    some ((-1 : Int32), S1))
theorem dX11_wagon_0 : decode cX11_wagon 0 = .ok (.iload_n 1, 1) := by decide +kernel
theorem dX11_wagon_1 : decode cX11_wagon 1 = .ok (.iconst 0, 1) := by decide +kernel
theorem dX11_wagon_2 : decode cX11_wagon 2 = .ok (.iconst 4, 1) := by decide +kernel
theorem dX11_wagon_3 : decode cX11_wagon 3 = .ok (.invokestatic 108, 3) := by decide +kernel
theorem dX11_wagon_6 : decode cX11_wagon 6 = .ok (.ifCond .ne 25, 3) := by decide +kernel
theorem dX11_wagon_9 : decode cX11_wagon 9 = .ok (.iload 4, 2) := by decide +kernel
theorem dX11_wagon_11 : decode cX11_wagon 11 = .ok (.iconst 0, 1) := by decide +kernel
theorem dX11_wagon_12 : decode cX11_wagon 12 = .ok (.bipush 8, 2) := by decide +kernel
theorem dX11_wagon_14 : decode cX11_wagon 14 = .ok (.invokestatic 108, 3) := by decide +kernel
theorem dX11_wagon_17 : decode cX11_wagon 17 = .ok (.ifCond .ne 14, 3) := by decide +kernel
theorem dX11_wagon_20 : decode cX11_wagon 20 = .ok (.iload 5, 2) := by decide +kernel
theorem dX11_wagon_22 : decode cX11_wagon 22 = .ok (.iconst 1, 1) := by decide +kernel
theorem dX11_wagon_23 : decode cX11_wagon 23 = .ok (.bipush 100, 2) := by decide +kernel
theorem dX11_wagon_25 : decode cX11_wagon 25 = .ok (.invokestatic 108, 3) := by decide +kernel
theorem dX11_wagon_28 : decode cX11_wagon 28 = .ok (.ifCond .eq 5, 3) := by decide +kernel
theorem dX11_wagon_31 : decode cX11_wagon 31 = .ok (.iconst (-1), 1) := by decide +kernel
theorem dX11_wagon_32 : decode cX11_wagon 32 = .ok (.ireturn, 1) := by decide +kernel
theorem dX11_wagon_33 : decode cX11_wagon 33 = .ok (.aload_n 0, 1) := by decide +kernel
theorem dX11_wagon_34 : decode cX11_wagon 34 = .ok (.iload_n 2, 1) := by decide +kernel
theorem dX11_wagon_35 : decode cX11_wagon 35 = .ok (.iload_n 3, 1) := by decide +kernel
theorem dX11_wagon_36 : decode cX11_wagon 36 = .ok (.iload_n 1, 1) := by decide +kernel
theorem dX11_wagon_37 : decode cX11_wagon 37 = .ok (.iload 4, 2) := by decide +kernel
theorem dX11_wagon_39 : decode cX11_wagon 39 = .ok (.iload 5, 2) := by decide +kernel
theorem dX11_wagon_41 : decode cX11_wagon 41 = .ok (.invokevirtual 136, 3) := by decide +kernel
theorem dX11_wagon_44 : decode cX11_wagon 44 = .ok (.ireturn, 1) := by decide +kernel
set_option maxRecDepth 100000 in
set_option maxHeartbeats 4000000 in
theorem m_X11_wagon (a1 : Int32) (a2 : Int32) (a3 : Int32) (a4 : Int32) (a5 : Int32) (S S' : SS) (r : Int32) (h : f_X11_wagon a1 a2 a3 a4 a5 S = some (r, S')) : MT yX11_wagon cX11_wagon 6 (some .int) 4 96 (fun ad => [.ref (ad 0), .int a1, .int a2, .int a3, .int a4, .int a5]) S (some (.int r)) S' := by
  refine MT.of RX11 (fun ad => [(0, .ref (ad 0)), (1, .int a1), (2, .int a2), (3, .int a3), (4, .int a4), (5, .int a5)]) (by decide) rfl (fun _ => Nat.le_of_ble_eq_true rfl) (fun _ => rfl) ?_
  intro p l e R s m args below meth c dC dI cs ad A hR1 hR2 F H locs ls w hl
  have hx := F.1.1
  have hb := F.1.2.1
  rw [f_X11_wagon] at h
  refine lv_iload_n (pc := 0) hx hb dX11_wagon_0 rfl (lv_at hl 1 rfl) ?_
  refine lv_iconst (pc := 1) (v := 0) hx hb dX11_wagon_1 (by decide) ?_
  refine lv_iconst (pc := 2) (v := 4) hx hb dX11_wagon_2 (by decide) ?_
  obtain ⟨r2, S1, hc, h⟩ := bnd_t h
  refine s_csi (pc := 3) [.int a1, .int (0 : Int32), .int (4 : Int32)] (fun ad => [.int a1, .int (0 : Int32), .int (4 : Int32)]) F w (m_X11_isNot _ _ _ _ _ _ hc) rfl rfl hl.1 ok_X11_isNot rfl kc_X11_isNot kl_X11_108 ks_X11_isNot kn_X11 ⟨Nat.le_trans (by decide) hR1, Nat.le_trans (by decide) hR2⟩ ⟨Nat.zero_le _, Nat.zero_le _⟩ (Nat.le_of_ble_eq_true rfl) dX11_wagon_3 (fun H locs w => ?_)
  refine lv_if_ne (pc := 6) (tgt := 31) hx hb dX11_wagon_6 (by decide) (fun q => ?_) (fun q => ?_)
  · have h := ite_f q h
    refine lv_iconst (pc := 31) (v := -1) hx hb dX11_wagon_31 (by decide) ?_
    exact s_iret F w h dX11_wagon_32
  · have h := ite_t q h
    refine lv_iload (pc := 9) hx hb dX11_wagon_9 (lv_at hl 4 rfl) ?_
    refine lv_iconst (pc := 11) (v := 0) hx hb dX11_wagon_11 (by decide) ?_
    refine lv_bipush (pc := 12) (v := 8) hx hb dX11_wagon_12 (by decide) ?_
    obtain ⟨r4, S3, hc, h⟩ := bnd_t h
    refine s_csi (pc := 14) [.int a4, .int (0 : Int32), .int (8 : Int32)] (fun ad => [.int a4, .int (0 : Int32), .int (8 : Int32)]) F w (m_X11_isNot _ _ _ _ _ _ hc) rfl rfl hl.1 ok_X11_isNot rfl kc_X11_isNot kl_X11_108 ks_X11_isNot kn_X11 ⟨Nat.le_trans (by decide) hR1, Nat.le_trans (by decide) hR2⟩ ⟨Nat.zero_le _, Nat.zero_le _⟩ (Nat.le_of_ble_eq_true rfl) dX11_wagon_14 (fun H locs w => ?_)
    refine lv_if_ne (pc := 17) (tgt := 31) hx hb dX11_wagon_17 (by decide) (fun q => ?_) (fun q => ?_)
    · have h := ite_f q h
      refine lv_iconst (pc := 31) (v := -1) hx hb dX11_wagon_31 (by decide) ?_
      exact s_iret F w h dX11_wagon_32
    · have h := ite_t q h
      refine lv_iload (pc := 20) hx hb dX11_wagon_20 (lv_at hl 5 rfl) ?_
      refine lv_iconst (pc := 22) (v := 1) hx hb dX11_wagon_22 (by decide) ?_
      refine lv_bipush (pc := 23) (v := 100) hx hb dX11_wagon_23 (by decide) ?_
      obtain ⟨r6, S5, hc, h⟩ := bnd_t h
      refine s_csi (pc := 25) [.int a5, .int (1 : Int32), .int (100 : Int32)] (fun ad => [.int a5, .int (1 : Int32), .int (100 : Int32)]) F w (m_X11_isNot _ _ _ _ _ _ hc) rfl rfl hl.1 ok_X11_isNot rfl kc_X11_isNot kl_X11_108 ks_X11_isNot kn_X11 ⟨Nat.le_trans (by decide) hR1, Nat.le_trans (by decide) hR2⟩ ⟨Nat.zero_le _, Nat.zero_le _⟩ (Nat.le_of_ble_eq_true rfl) dX11_wagon_25 (fun H locs w => ?_)
      refine lv_if_eq (pc := 28) (tgt := 33) hx hb dX11_wagon_28 (by decide) (fun q => ?_) (fun q => ?_)
      · have h := ite_t q h
        refine lv_aload_n (pc := 33) hx hb dX11_wagon_33 rfl (lv_at hl 0 rfl) ?_
        refine lv_iload_n (pc := 34) hx hb dX11_wagon_34 rfl (lv_at hl 2 rfl) ?_
        refine lv_iload_n (pc := 35) hx hb dX11_wagon_35 rfl (lv_at hl 3 rfl) ?_
        refine lv_iload_n (pc := 36) hx hb dX11_wagon_36 rfl (lv_at hl 1 rfl) ?_
        refine lv_iload (pc := 37) hx hb dX11_wagon_37 (lv_at hl 4 rfl) ?_
        refine lv_iload (pc := 39) hx hb dX11_wagon_39 (lv_at hl 5 rfl) ?_
        obtain ⟨r8, S7, hc, h⟩ := bnd_t h
        refine s_cvi (pc := 41) [.int a2, .int a3, .int a1, .int a4, .int a5] (fun ad => [.ref (ad 0), .int a2, .int a3, .int a1, .int a4, .int a5]) F w (m_X11_standNew _ _ _ _ _ _ _ _ hc) rfl rfl hl.1 ds_0 vc_X11 rfl ok_X11_standNew rfl kc_X11_standNew kl_X11_136 ki_X11_standNew kv_X11_standNew kn_X11 ⟨Nat.le_trans (by decide) hR1, Nat.le_trans (by decide) hR2⟩ ⟨Nat.zero_le _, Nat.zero_le _⟩ (Nat.le_of_ble_eq_true rfl) dX11_wagon_41 (fun H locs w => ?_)
        exact s_iret F w h dX11_wagon_44
      · have h := ite_f q h
        refine lv_iconst (pc := 31) (v := -1) hx hb dX11_wagon_31 (by decide) ?_
        exact s_iret F w h dX11_wagon_32
def f_X12_missPlace (a1 : Int32) (a2 : Int32) (S : SS) : Option (Int32 × SS) :=
  bnd (f_X12_missTrack a1 S) (fun r2 S1 =>
  if r2 = 0 then
    if a2 < 0 then
      some ((3 : Int32), S1)
    else
      grd (inb a1 24) (
      if a2 < (S1.1 70 a1.toNatClampNeg) then
        some ((0 : Int32), S1)
      else
        some ((3 : Int32), S1))
  else
    some (r2, S1))
theorem dX12_missPlace_0 : decode cX12_missPlace 0 = .ok (.aload_n 0, 1) := by decide +kernel
theorem dX12_missPlace_1 : decode cX12_missPlace 1 = .ok (.iload_n 1, 1) := by decide +kernel
theorem dX12_missPlace_2 : decode cX12_missPlace 2 = .ok (.invokevirtual 223, 3) := by decide +kernel
theorem dX12_missPlace_5 : decode cX12_missPlace 5 = .ok (.istore_n 3, 1) := by decide +kernel
theorem dX12_missPlace_6 : decode cX12_missPlace 6 = .ok (.iload_n 3, 1) := by decide +kernel
theorem dX12_missPlace_7 : decode cX12_missPlace 7 = .ok (.ifCond .eq 7, 3) := by decide +kernel
theorem dX12_missPlace_10 : decode cX12_missPlace 10 = .ok (.iload_n 3, 1) := by decide +kernel
theorem dX12_missPlace_11 : decode cX12_missPlace 11 = .ok (.goto 22, 3) := by decide +kernel
theorem dX12_missPlace_14 : decode cX12_missPlace 14 = .ok (.iload_n 2, 1) := by decide +kernel
theorem dX12_missPlace_15 : decode cX12_missPlace 15 = .ok (.ifCond .lt 13, 3) := by decide +kernel
theorem dX12_missPlace_18 : decode cX12_missPlace 18 = .ok (.iload_n 2, 1) := by decide +kernel
theorem dX12_missPlace_19 : decode cX12_missPlace 19 = .ok (.aload_n 0, 1) := by decide +kernel
theorem dX12_missPlace_20 : decode cX12_missPlace 20 = .ok (.getfield 23, 3) := by decide +kernel
theorem dX12_missPlace_23 : decode cX12_missPlace 23 = .ok (.iload_n 1, 1) := by decide +kernel
theorem dX12_missPlace_24 : decode cX12_missPlace 24 = .ok (.iaload, 1) := by decide +kernel
theorem dX12_missPlace_25 : decode cX12_missPlace 25 = .ok (.if_icmp .lt 7, 3) := by decide +kernel
theorem dX12_missPlace_28 : decode cX12_missPlace 28 = .ok (.iconst 3, 1) := by decide +kernel
theorem dX12_missPlace_29 : decode cX12_missPlace 29 = .ok (.goto 4, 3) := by decide +kernel
theorem dX12_missPlace_32 : decode cX12_missPlace 32 = .ok (.iconst 0, 1) := by decide +kernel
theorem dX12_missPlace_33 : decode cX12_missPlace 33 = .ok (.ireturn, 1) := by decide +kernel
set_option maxRecDepth 100000 in
set_option maxHeartbeats 4000000 in
theorem m_X12_missPlace (a1 : Int32) (a2 : Int32) (S S' : SS) (r : Int32) (h : f_X12_missPlace a1 a2 S = some (r, S')) : MT yX12_missPlace cX12_missPlace 4 (some .int) 1 21 (fun ad => [.ref (ad 14), .int a1, .int a2]) S (some (.int r)) S' := by
  refine MT.of RX12 (fun ad => [(0, .ref (ad 14)), (1, .int a1), (2, .int a2)]) (by decide) rfl (fun _ => Nat.le_of_ble_eq_true rfl) (fun _ => rfl) ?_
  intro p l e R s m args below meth c dC dI cs ad A hR1 hR2 F H locs ls w hl
  have hx := F.1.1
  have hb := F.1.2.1
  rw [f_X12_missPlace] at h
  refine lv_aload_n (pc := 0) hx hb dX12_missPlace_0 rfl (lv_at hl 0 rfl) ?_
  refine lv_iload_n (pc := 1) hx hb dX12_missPlace_1 rfl (lv_at hl 1 rfl) ?_
  obtain ⟨r2, S1, hc, h⟩ := bnd_t h
  refine s_cvi (pc := 2) [.int a1] (fun ad => [.ref (ad 14), .int a1]) F w (m_X12_missTrack _ _ _ _ hc) rfl rfl hl.1 ds_14 vc_X12 rfl ok_X12_missTrack rfl kc_X12_missTrack kl_X12_223 ki_X12_missTrack kv_X12_missTrack kn_X12 ⟨Nat.le_trans (by decide) hR1, Nat.le_trans (by decide) hR2⟩ ⟨Nat.zero_le _, Nat.zero_le _⟩ (Nat.le_of_ble_eq_true rfl) dX12_missPlace_2 (fun H locs w => ?_)
  refine lv_istore_n (pc := 5) (lv' := [(3, .int r2), (0, .ref (ad 14)), (1, .int a1), (2, .int a2)]) hx hb dX12_missPlace_5 rfl hl (by decide) rfl (fun ls hl => ?_)
  refine lv_iload_n (pc := 6) hx hb dX12_missPlace_6 rfl (lv_at hl 0 rfl) ?_
  refine lv_if_eq (pc := 7) (tgt := 14) hx hb dX12_missPlace_7 (by decide) (fun q => ?_) (fun q => ?_)
  · have h := ite_t q h
    refine lv_iload_n (pc := 14) hx hb dX12_missPlace_14 rfl (lv_at hl 3 rfl) ?_
    refine lv_if_lt (pc := 15) (tgt := 28) hx hb dX12_missPlace_15 (by decide) (fun q => ?_) (fun q => ?_)
    · have h := ite_t q h
      refine lv_iconst (pc := 28) (v := 3) hx hb dX12_missPlace_28 (by decide) ?_
      refine lv_goto (pc := 29) (tgt := 33) hx hb dX12_missPlace_29 (by decide) ?_
      exact s_iret F w h dX12_missPlace_33
    · have h := ite_f q h
      refine lv_iload_n (pc := 18) hx hb dX12_missPlace_18 rfl (lv_at hl 3 rfl) ?_
      refine lv_aload_n (pc := 19) hx hb dX12_missPlace_19 rfl (lv_at hl 1 rfl) ?_
      refine s_getR (pc := 20) F w 70 ds_14 (j := 8) vc_X12 vi_X12 rfl (by decide) kf_X12_23 dX12_missPlace_20 ?_
      refine lv_iload_n (pc := 23) hx hb dX12_missPlace_23 rfl (lv_at hl 2 rfl) ?_
      refine s_iald (pc := 24) F w ds_70 h dX12_missPlace_24 (fun h => ?_)
      refine lv_icmp_lt (pc := 25) (tgt := 32) hx hb dX12_missPlace_25 (by decide) (fun q => ?_) (fun q => ?_)
      · have h := ite_t q h
        refine lv_iconst (pc := 32) (v := 0) hx hb dX12_missPlace_32 (by decide) ?_
        exact s_iret F w h dX12_missPlace_33
      · have h := ite_f q h
        refine lv_iconst (pc := 28) (v := 3) hx hb dX12_missPlace_28 (by decide) ?_
        refine lv_goto (pc := 29) (tgt := 33) hx hb dX12_missPlace_29 (by decide) ?_
        exact s_iret F w h dX12_missPlace_33
  · have h := ite_f q h
    refine lv_iload_n (pc := 10) hx hb dX12_missPlace_10 rfl (lv_at hl 0 rfl) ?_
    refine lv_goto (pc := 11) (tgt := 33) hx hb dX12_missPlace_11 (by decide) ?_
    exact s_iret F w h dX12_missPlace_33
def f_X12_standing_j41 (K2 : Int32 → Int32 → Int32 → SS → Option (Int32 × SS)) (x1 : Int32) (x2 : Int32) (x3 : Int32) (S : SS) : Option (Int32 × SS) :=
    nm (x3 + (1 : Int32)) (fun z1 =>
    K2 x1 x2 z1 S)
def f_X12_standing_L2  : Nat → Int32 → Int32 → Int32 → SS → Option (Int32 × SS)
  | 0, _, _, _, _ => none
  | n + 1, x1, x2, x3, S =>
    if (S.1 14 29) ≤ x3 then
      some ((-4 : Int32), S)
    else
      grd (inb x3 72) (
      if (S.1 86 x3.toNatClampNeg) = 0 then
        f_X12_standing_j41 (fun v0 v1 v2 S => f_X12_standing_L2 n v0 v1 v2 S) x1 x2 x3 S
      else
        grd (inb x3 72) (
        if (S.1 87 x3.toNatClampNeg) = x1 then
          grd (inb x3 72) (
          if (S.1 88 x3.toNatClampNeg) = x2 then
            some (x3, S)
          else
            f_X12_standing_j41 (fun v0 v1 v2 S => f_X12_standing_L2 n v0 v1 v2 S) x1 x2 x3 S)
        else
          f_X12_standing_j41 (fun v0 v1 v2 S => f_X12_standing_L2 n v0 v1 v2 S) x1 x2 x3 S))
def f_X12_standing (a1 : Int32) (a2 : Int32) (S : SS) : Option (Int32 × SS) :=
  f_X12_standing_L2 NF a1 a2 (0 : Int32) S
theorem dX12_standing_0 : decode cX12_standing 0 = .ok (.iconst 0, 1) := by decide +kernel
theorem dX12_standing_1 : decode cX12_standing 1 = .ok (.istore_n 3, 1) := by decide +kernel
theorem dX12_standing_2 : decode cX12_standing 2 = .ok (.iload_n 3, 1) := by decide +kernel
theorem dX12_standing_3 : decode cX12_standing 3 = .ok (.aload_n 0, 1) := by decide +kernel
theorem dX12_standing_4 : decode cX12_standing 4 = .ok (.getfield 269, 3) := by decide +kernel
theorem dX12_standing_7 : decode cX12_standing 7 = .ok (.if_icmp .ge 40, 3) := by decide +kernel
theorem dX12_standing_10 : decode cX12_standing 10 = .ok (.aload_n 0, 1) := by decide +kernel
theorem dX12_standing_11 : decode cX12_standing 11 = .ok (.getfield 72, 3) := by decide +kernel
theorem dX12_standing_14 : decode cX12_standing 14 = .ok (.iload_n 3, 1) := by decide +kernel
theorem dX12_standing_15 : decode cX12_standing 15 = .ok (.baload, 1) := by decide +kernel
theorem dX12_standing_16 : decode cX12_standing 16 = .ok (.ifCond .eq 25, 3) := by decide +kernel
theorem dX12_standing_19 : decode cX12_standing 19 = .ok (.aload_n 0, 1) := by decide +kernel
theorem dX12_standing_20 : decode cX12_standing 20 = .ok (.getfield 75, 3) := by decide +kernel
theorem dX12_standing_23 : decode cX12_standing 23 = .ok (.iload_n 3, 1) := by decide +kernel
theorem dX12_standing_24 : decode cX12_standing 24 = .ok (.iaload, 1) := by decide +kernel
theorem dX12_standing_25 : decode cX12_standing 25 = .ok (.iload_n 1, 1) := by decide +kernel
theorem dX12_standing_26 : decode cX12_standing 26 = .ok (.if_icmp .ne 15, 3) := by decide +kernel
theorem dX12_standing_29 : decode cX12_standing 29 = .ok (.aload_n 0, 1) := by decide +kernel
theorem dX12_standing_30 : decode cX12_standing 30 = .ok (.getfield 78, 3) := by decide +kernel
theorem dX12_standing_33 : decode cX12_standing 33 = .ok (.iload_n 3, 1) := by decide +kernel
theorem dX12_standing_34 : decode cX12_standing 34 = .ok (.iaload, 1) := by decide +kernel
theorem dX12_standing_35 : decode cX12_standing 35 = .ok (.iload_n 2, 1) := by decide +kernel
theorem dX12_standing_36 : decode cX12_standing 36 = .ok (.if_icmp .ne 5, 3) := by decide +kernel
theorem dX12_standing_39 : decode cX12_standing 39 = .ok (.iload_n 3, 1) := by decide +kernel
theorem dX12_standing_40 : decode cX12_standing 40 = .ok (.ireturn, 1) := by decide +kernel
theorem dX12_standing_41 : decode cX12_standing 41 = .ok (.iinc 3 1, 3) := by decide +kernel
theorem dX12_standing_44 : decode cX12_standing 44 = .ok (.goto (-42), 3) := by decide +kernel
theorem dX12_standing_47 : decode cX12_standing 47 = .ok (.bipush (-4), 2) := by decide +kernel
theorem dX12_standing_49 : decode cX12_standing 49 = .ok (.ireturn, 1) := by decide +kernel
set_option maxRecDepth 100000 in
set_option maxHeartbeats 4000000 in
theorem w_X12_standing_j41 {p : Program} {l : Launch} {e : Env} {R : Room} {s : State} {m : MethodId} {args : Array Value} {below : List Frame} {meth : Method} {c : Code} {dC : Nat → ClassId} {dI : Nat → Nat → Nat} {cs : Nat → ClassId} {ad : Nat → Nat} {A : Nat → Prop} {D0 : Nat → Nat} {S' : SS} {r : Int32} (F : Fx p s m args meth c cX12_standing 4 RX12 (some .int) dC dI cs A) (hR1 : 0 ≤ R.frames) (hR2 : 0 ≤ R.locals) (K2 : Int32 → Int32 → Int32 → SS → Option (Int32 × SS)) (hK2 : ∀ (v0 : Int32) (v1 : Int32) (v2 : Int32) (S : SS), K2 v0 v1 v2 S = some (r, S') → AW p l e R s m args below meth c dC dI cs ad A D0 (some (.int r)) S' 4 2 [(0, .ref (ad 14)), (1, .int v0), (2, .int v1), (3, .int v2)] [] S) (x1 : Int32) (x2 : Int32) (x3 : Int32) (S : SS) (h : f_X12_standing_j41 K2 x1 x2 x3 S = some (r, S')) : AW p l e R s m args below meth c dC dI cs ad A D0 (some (.int r)) S' 4 41 [(0, .ref (ad 14)), (1, .int x1), (2, .int x2), (3, .int x3)] [] S := by
  have hx := F.1.1
  have hb := F.1.2.1
  intro H locs ls w hl
  rw [f_X12_standing_j41] at h
  refine s_nm h (fun z1 ez1 h => ?_)
  refine lv_iinc (pc := 41) (v := z1) (lv' := [(3, .int z1), (0, .ref (ad 14)), (1, .int x1), (2, .int x2)]) hx hb dX12_standing_41 hl (k := 3) rfl (by rw [ez1]; rfl) (by decide) rfl (fun ls hl => ?_)
  refine lv_goto (pc := 44) (tgt := 2) hx hb dX12_standing_44 (by decide) ?_
  exact hK2 _ _ _ _ h _ _ _ w (lv_sub hl [1, 2, 3, 0] rfl)
set_option maxRecDepth 100000 in
set_option maxHeartbeats 4000000 in
theorem w_X12_standing_L2 {p : Program} {l : Launch} {e : Env} {R : Room} {s : State} {m : MethodId} {args : Array Value} {below : List Frame} {meth : Method} {c : Code} {dC : Nat → ClassId} {dI : Nat → Nat → Nat} {cs : Nat → ClassId} {ad : Nat → Nat} {A : Nat → Prop} {D0 : Nat → Nat} {S' : SS} {r : Int32} (F : Fx p s m args meth c cX12_standing 4 RX12 (some .int) dC dI cs A) (hR1 : 0 ≤ R.frames) (hR2 : 0 ≤ R.locals) : ∀ (n : Nat) (x1 : Int32) (x2 : Int32) (x3 : Int32) (S : SS), f_X12_standing_L2 n x1 x2 x3 S = some (r, S') → AW p l e R s m args below meth c dC dI cs ad A D0 (some (.int r)) S' 4 2 [(0, .ref (ad 14)), (1, .int x1), (2, .int x2), (3, .int x3)] [] S := by
  have hx := F.1.1
  have hb := F.1.2.1
  intro n
  induction n with
  | zero => intro x1 x2 x3 S h; cases h
  | succ n ih =>
    intro x1 x2 x3 S h H locs ls w hl
    rw [f_X12_standing_L2] at h
    refine lv_iload_n (pc := 2) hx hb dX12_standing_2 rfl (lv_at hl 3 rfl) ?_
    refine lv_aload_n (pc := 3) hx hb dX12_standing_3 rfl (lv_at hl 0 rfl) ?_
    refine s_getI (pc := 4) F w ds_14 (j := 29) vc_X12 vi_X12 rfl (by decide) kf_X12_269 dX12_standing_4 ?_
    refine lv_icmp_ge (pc := 7) (tgt := 47) hx hb dX12_standing_7 (by decide) (fun q => ?_) (fun q => ?_)
    · have h := ite_t q h
      refine lv_bipush (pc := 47) (v := -4) hx hb dX12_standing_47 (by decide) ?_
      exact s_iret F w h dX12_standing_49
    · have h := ite_f q h
      refine lv_aload_n (pc := 10) hx hb dX12_standing_10 rfl (lv_at hl 0 rfl) ?_
      refine s_getR (pc := 11) F w 86 ds_14 (j := 31) vc_X12 vi_X12 rfl (by decide) kf_X12_72 dX12_standing_11 ?_
      refine lv_iload_n (pc := 14) hx hb dX12_standing_14 rfl (lv_at hl 3 rfl) ?_
      refine s_zald (pc := 15) F w ds_86 h dX12_standing_15 (fun h => ?_)
      refine lv_if_eq (pc := 16) (tgt := 41) hx hb dX12_standing_16 (by decide) (fun q => ?_) (fun q => ?_)
      · have h := ite_t q h
        exact w_X12_standing_j41 F (Nat.le_trans (by decide) hR1) (Nat.le_trans (by decide) hR2) _ (fun v0 v1 v2 S h => ih v0 v1 v2 S h) _ _ _ _ h _ _ _ w (lv_sub hl [0, 1, 2, 3] rfl)
      · have h := ite_f q h
        refine lv_aload_n (pc := 19) hx hb dX12_standing_19 rfl (lv_at hl 0 rfl) ?_
        refine s_getR (pc := 20) F w 87 ds_14 (j := 32) vc_X12 vi_X12 rfl (by decide) kf_X12_75 dX12_standing_20 ?_
        refine lv_iload_n (pc := 23) hx hb dX12_standing_23 rfl (lv_at hl 3 rfl) ?_
        refine s_iald (pc := 24) F w ds_87 h dX12_standing_24 (fun h => ?_)
        refine lv_iload_n (pc := 25) hx hb dX12_standing_25 rfl (lv_at hl 1 rfl) ?_
        refine lv_icmp_ne (pc := 26) (tgt := 41) hx hb dX12_standing_26 (by decide) (fun q => ?_) (fun q => ?_)
        · have h := ite_f q h
          exact w_X12_standing_j41 F (Nat.le_trans (by decide) hR1) (Nat.le_trans (by decide) hR2) _ (fun v0 v1 v2 S h => ih v0 v1 v2 S h) _ _ _ _ h _ _ _ w (lv_sub hl [0, 1, 2, 3] rfl)
        · have h := ite_t q h
          refine lv_aload_n (pc := 29) hx hb dX12_standing_29 rfl (lv_at hl 0 rfl) ?_
          refine s_getR (pc := 30) F w 88 ds_14 (j := 33) vc_X12 vi_X12 rfl (by decide) kf_X12_78 dX12_standing_30 ?_
          refine lv_iload_n (pc := 33) hx hb dX12_standing_33 rfl (lv_at hl 3 rfl) ?_
          refine s_iald (pc := 34) F w ds_88 h dX12_standing_34 (fun h => ?_)
          refine lv_iload_n (pc := 35) hx hb dX12_standing_35 rfl (lv_at hl 2 rfl) ?_
          refine lv_icmp_ne (pc := 36) (tgt := 41) hx hb dX12_standing_36 (by decide) (fun q => ?_) (fun q => ?_)
          · have h := ite_f q h
            exact w_X12_standing_j41 F (Nat.le_trans (by decide) hR1) (Nat.le_trans (by decide) hR2) _ (fun v0 v1 v2 S h => ih v0 v1 v2 S h) _ _ _ _ h _ _ _ w (lv_sub hl [0, 1, 2, 3] rfl)
          · have h := ite_t q h
            refine lv_iload_n (pc := 39) hx hb dX12_standing_39 rfl (lv_at hl 3 rfl) ?_
            exact s_iret F w h dX12_standing_40
set_option maxRecDepth 100000 in
set_option maxHeartbeats 4000000 in
theorem m_X12_standing (a1 : Int32) (a2 : Int32) (S S' : SS) (r : Int32) (h : f_X12_standing a1 a2 S = some (r, S')) : MT yX12_standing cX12_standing 4 (some .int) 0 0 (fun ad => [.ref (ad 14), .int a1, .int a2]) S (some (.int r)) S' := by
  refine MT.of RX12 (fun ad => [(0, .ref (ad 14)), (1, .int a1), (2, .int a2)]) (by decide) rfl (fun _ => Nat.le_of_ble_eq_true rfl) (fun _ => rfl) ?_
  intro p l e R s m args below meth c dC dI cs ad A hR1 hR2 F H locs ls w hl
  have hx := F.1.1
  have hb := F.1.2.1
  rw [f_X12_standing] at h
  refine lv_iconst (pc := 0) (v := 0) hx hb dX12_standing_0 (by decide) ?_
  refine lv_istore_n (pc := 1) (lv' := [(3, .int (0 : Int32)), (0, .ref (ad 14)), (1, .int a1), (2, .int a2)]) hx hb dX12_standing_1 rfl hl (by decide) rfl (fun ls hl => ?_)
  exact w_X12_standing_L2 F (Nat.le_trans (by decide) hR1) (Nat.le_trans (by decide) hR2) _ _ _ _ _ h _ _ _ w (lv_sub hl [1, 2, 3, 0] rfl)
def f_X12_missFree (a1 : Int32) (a2 : Int32) (S : SS) : Option (Int32 × SS) :=
  bnd (f_X12_missPlace a1 a2 S) (fun r2 S1 =>
  if r2 = 0 then
    bnd (f_X12_standing a1 a2 S1) (fun r4 S3 =>
    if r4 = (-4 : Int32) then
      some ((0 : Int32), S3)
    else
      some ((9 : Int32), S3))
  else
    some (r2, S1))
theorem dX12_missFree_0 : decode cX12_missFree 0 = .ok (.aload_n 0, 1) := by decide +kernel
theorem dX12_missFree_1 : decode cX12_missFree 1 = .ok (.iload_n 1, 1) := by decide +kernel
theorem dX12_missFree_2 : decode cX12_missFree 2 = .ok (.iload_n 2, 1) := by decide +kernel
theorem dX12_missFree_3 : decode cX12_missFree 3 = .ok (.invokevirtual 275, 3) := by decide +kernel
theorem dX12_missFree_6 : decode cX12_missFree 6 = .ok (.istore_n 3, 1) := by decide +kernel
theorem dX12_missFree_7 : decode cX12_missFree 7 = .ok (.iload_n 3, 1) := by decide +kernel
theorem dX12_missFree_8 : decode cX12_missFree 8 = .ok (.ifCond .eq 7, 3) := by decide +kernel
theorem dX12_missFree_11 : decode cX12_missFree 11 = .ok (.iload_n 3, 1) := by decide +kernel
theorem dX12_missFree_12 : decode cX12_missFree 12 = .ok (.goto 20, 3) := by decide +kernel
theorem dX12_missFree_15 : decode cX12_missFree 15 = .ok (.aload_n 0, 1) := by decide +kernel
theorem dX12_missFree_16 : decode cX12_missFree 16 = .ok (.iload_n 1, 1) := by decide +kernel
theorem dX12_missFree_17 : decode cX12_missFree 17 = .ok (.iload_n 2, 1) := by decide +kernel
theorem dX12_missFree_18 : decode cX12_missFree 18 = .ok (.invokevirtual 279, 3) := by decide +kernel
theorem dX12_missFree_21 : decode cX12_missFree 21 = .ok (.bipush (-4), 2) := by decide +kernel
theorem dX12_missFree_23 : decode cX12_missFree 23 = .ok (.if_icmp .eq 8, 3) := by decide +kernel
theorem dX12_missFree_26 : decode cX12_missFree 26 = .ok (.bipush 9, 2) := by decide +kernel
theorem dX12_missFree_28 : decode cX12_missFree 28 = .ok (.goto 4, 3) := by decide +kernel
theorem dX12_missFree_31 : decode cX12_missFree 31 = .ok (.iconst 0, 1) := by decide +kernel
theorem dX12_missFree_32 : decode cX12_missFree 32 = .ok (.ireturn, 1) := by decide +kernel
set_option maxRecDepth 100000 in
set_option maxHeartbeats 4000000 in
theorem m_X12_missFree (a1 : Int32) (a2 : Int32) (S S' : SS) (r : Int32) (h : f_X12_missFree a1 a2 S = some (r, S')) : MT yX12_missFree cX12_missFree 4 (some .int) 2 44 (fun ad => [.ref (ad 14), .int a1, .int a2]) S (some (.int r)) S' := by
  refine MT.of RX12 (fun ad => [(0, .ref (ad 14)), (1, .int a1), (2, .int a2)]) (by decide) rfl (fun _ => Nat.le_of_ble_eq_true rfl) (fun _ => rfl) ?_
  intro p l e R s m args below meth c dC dI cs ad A hR1 hR2 F H locs ls w hl
  have hx := F.1.1
  have hb := F.1.2.1
  rw [f_X12_missFree] at h
  refine lv_aload_n (pc := 0) hx hb dX12_missFree_0 rfl (lv_at hl 0 rfl) ?_
  refine lv_iload_n (pc := 1) hx hb dX12_missFree_1 rfl (lv_at hl 1 rfl) ?_
  refine lv_iload_n (pc := 2) hx hb dX12_missFree_2 rfl (lv_at hl 2 rfl) ?_
  obtain ⟨r2, S1, hc, h⟩ := bnd_t h
  refine s_cvi (pc := 3) [.int a1, .int a2] (fun ad => [.ref (ad 14), .int a1, .int a2]) F w (m_X12_missPlace _ _ _ _ _ hc) rfl rfl hl.1 ds_14 vc_X12 rfl ok_X12_missPlace rfl kc_X12_missPlace kl_X12_275 ki_X12_missPlace kv_X12_missPlace kn_X12 ⟨Nat.le_trans (by decide) hR1, Nat.le_trans (by decide) hR2⟩ ⟨Nat.zero_le _, Nat.zero_le _⟩ (Nat.le_of_ble_eq_true rfl) dX12_missFree_3 (fun H locs w => ?_)
  refine lv_istore_n (pc := 6) (lv' := [(3, .int r2), (0, .ref (ad 14)), (1, .int a1), (2, .int a2)]) hx hb dX12_missFree_6 rfl hl (by decide) rfl (fun ls hl => ?_)
  refine lv_iload_n (pc := 7) hx hb dX12_missFree_7 rfl (lv_at hl 0 rfl) ?_
  refine lv_if_eq (pc := 8) (tgt := 15) hx hb dX12_missFree_8 (by decide) (fun q => ?_) (fun q => ?_)
  · have h := ite_t q h
    refine lv_aload_n (pc := 15) hx hb dX12_missFree_15 rfl (lv_at hl 1 rfl) ?_
    refine lv_iload_n (pc := 16) hx hb dX12_missFree_16 rfl (lv_at hl 2 rfl) ?_
    refine lv_iload_n (pc := 17) hx hb dX12_missFree_17 rfl (lv_at hl 3 rfl) ?_
    obtain ⟨r4, S3, hc, h⟩ := bnd_t h
    refine s_cvi (pc := 18) [.int a1, .int a2] (fun ad => [.ref (ad 14), .int a1, .int a2]) F w (m_X12_standing _ _ _ _ _ hc) rfl rfl hl.1 ds_14 vc_X12 rfl ok_X12_standing rfl kc_X12_standing kl_X12_279 ki_X12_standing kv_X12_standing kn_X12 ⟨Nat.le_trans (by decide) hR1, Nat.le_trans (by decide) hR2⟩ ⟨Nat.zero_le _, Nat.zero_le _⟩ (Nat.le_of_ble_eq_true rfl) dX12_missFree_18 (fun H locs w => ?_)
    refine lv_bipush (pc := 21) (v := -4) hx hb dX12_missFree_21 (by decide) ?_
    refine lv_icmp_eq (pc := 23) (tgt := 31) hx hb dX12_missFree_23 (by decide) (fun q => ?_) (fun q => ?_)
    · have h := ite_t q h
      refine lv_iconst (pc := 31) (v := 0) hx hb dX12_missFree_31 (by decide) ?_
      exact s_iret F w h dX12_missFree_32
    · have h := ite_f q h
      refine lv_bipush (pc := 26) (v := 9) hx hb dX12_missFree_26 (by decide) ?_
      refine lv_goto (pc := 28) (tgt := 32) hx hb dX12_missFree_28 (by decide) ?_
      exact s_iret F w h dX12_missFree_32
  · have h := ite_f q h
    refine lv_iload_n (pc := 11) hx hb dX12_missFree_11 rfl (lv_at hl 0 rfl) ?_
    refine lv_goto (pc := 12) (tgt := 32) hx hb dX12_missFree_12 (by decide) ?_
    exact s_iret F w h dX12_missFree_32
def f_X12_put (a1 : Int32) (a2 : Int32) (a3 : Int32) (a4 : Int32) (a5 : Int32) (S : SS) : Option (Int32 × SS) :=
  nm (S.1 14 29) (fun z1 =>
  grd (inb z1 72) (wr S 85 z1.toNatClampNeg a1 (fun S2 =>
  grd (inb z1 72) (wr S2 86 z1.toNatClampNeg (vp_nar .boolean (1 : Int32)) (fun S3 =>
  grd (inb z1 72) (wr S3 87 z1.toNatClampNeg a2 (fun S4 =>
  grd (inb z1 72) (wr S4 88 z1.toNatClampNeg a3 (fun S5 =>
  grd (inb z1 72) (wr S5 89 z1.toNatClampNeg (1 : Int32) (fun S6 =>
  grd (inb ((2 : Int32) * z1) 144) (wr S6 90 ((2 : Int32) * z1).toNatClampNeg (-4 : Int32) (fun S7 =>
  grd (inb (((2 : Int32) * z1) + (1 : Int32)) 144) (wr S7 90 (((2 : Int32) * z1) + (1 : Int32)).toNatClampNeg (-4 : Int32) (fun S8 =>
  grd (inb z1 72) (wr S8 92 z1.toNatClampNeg (-4 : Int32) (fun S9 =>
  grd (inb z1 72) (wr S9 95 z1.toNatClampNeg a4 (fun S10 =>
  grd (inb z1 72) (wr S10 96 z1.toNatClampNeg a5 (fun S11 =>
  grd (inb z1 72) (wr S11 102 z1.toNatClampNeg (-4 : Int32) (fun S12 =>
  wr S12 14 49 ((S12.1 14 49) + (1 : Int32)) (fun S13 =>
  grd (inb z1 72) (wr S13 91 z1.toNatClampNeg (S13.1 14 49) (fun S14 =>
  wr S14 14 29 ((S14.1 14 29) + (1 : Int32)) (fun S15 =>
  bndv (f_X12_forget  S15) (fun S16 =>
  some (z1, S16)))))))))))))))))))))))))))))
theorem dX12_put_0 : decode cX12_put 0 = .ok (.aload_n 0, 1) := by decide +kernel
theorem dX12_put_1 : decode cX12_put 1 = .ok (.getfield 269, 3) := by decide +kernel
theorem dX12_put_4 : decode cX12_put 4 = .ok (.istore 6, 2) := by decide +kernel
theorem dX12_put_6 : decode cX12_put 6 = .ok (.aload_n 0, 1) := by decide +kernel
theorem dX12_put_7 : decode cX12_put 7 = .ok (.getfield 69, 3) := by decide +kernel
theorem dX12_put_10 : decode cX12_put 10 = .ok (.iload 6, 2) := by decide +kernel
theorem dX12_put_12 : decode cX12_put 12 = .ok (.iload_n 1, 1) := by decide +kernel
theorem dX12_put_13 : decode cX12_put 13 = .ok (.iastore, 1) := by decide +kernel
theorem dX12_put_14 : decode cX12_put 14 = .ok (.aload_n 0, 1) := by decide +kernel
theorem dX12_put_15 : decode cX12_put 15 = .ok (.getfield 72, 3) := by decide +kernel
theorem dX12_put_18 : decode cX12_put 18 = .ok (.iload 6, 2) := by decide +kernel
theorem dX12_put_20 : decode cX12_put 20 = .ok (.iconst 1, 1) := by decide +kernel
theorem dX12_put_21 : decode cX12_put 21 = .ok (.bastore, 1) := by decide +kernel
theorem dX12_put_22 : decode cX12_put 22 = .ok (.aload_n 0, 1) := by decide +kernel
theorem dX12_put_23 : decode cX12_put 23 = .ok (.getfield 75, 3) := by decide +kernel
theorem dX12_put_26 : decode cX12_put 26 = .ok (.iload 6, 2) := by decide +kernel
theorem dX12_put_28 : decode cX12_put 28 = .ok (.iload_n 2, 1) := by decide +kernel
theorem dX12_put_29 : decode cX12_put 29 = .ok (.iastore, 1) := by decide +kernel
theorem dX12_put_30 : decode cX12_put 30 = .ok (.aload_n 0, 1) := by decide +kernel
theorem dX12_put_31 : decode cX12_put 31 = .ok (.getfield 78, 3) := by decide +kernel
theorem dX12_put_34 : decode cX12_put 34 = .ok (.iload 6, 2) := by decide +kernel
theorem dX12_put_36 : decode cX12_put 36 = .ok (.iload_n 3, 1) := by decide +kernel
theorem dX12_put_37 : decode cX12_put 37 = .ok (.iastore, 1) := by decide +kernel
theorem dX12_put_38 : decode cX12_put 38 = .ok (.aload_n 0, 1) := by decide +kernel
theorem dX12_put_39 : decode cX12_put 39 = .ok (.getfield 81, 3) := by decide +kernel
theorem dX12_put_42 : decode cX12_put 42 = .ok (.iload 6, 2) := by decide +kernel
theorem dX12_put_44 : decode cX12_put 44 = .ok (.iconst 1, 1) := by decide +kernel
theorem dX12_put_45 : decode cX12_put 45 = .ok (.iastore, 1) := by decide +kernel
theorem dX12_put_46 : decode cX12_put 46 = .ok (.aload_n 0, 1) := by decide +kernel
theorem dX12_put_47 : decode cX12_put 47 = .ok (.getfield 84, 3) := by decide +kernel
theorem dX12_put_50 : decode cX12_put 50 = .ok (.iconst 2, 1) := by decide +kernel
theorem dX12_put_51 : decode cX12_put 51 = .ok (.iload 6, 2) := by decide +kernel
theorem dX12_put_53 : decode cX12_put 53 = .ok (.imul, 1) := by decide +kernel
theorem dX12_put_54 : decode cX12_put 54 = .ok (.bipush (-4), 2) := by decide +kernel
theorem dX12_put_56 : decode cX12_put 56 = .ok (.iastore, 1) := by decide +kernel
theorem dX12_put_57 : decode cX12_put 57 = .ok (.aload_n 0, 1) := by decide +kernel
theorem dX12_put_58 : decode cX12_put 58 = .ok (.getfield 84, 3) := by decide +kernel
theorem dX12_put_61 : decode cX12_put 61 = .ok (.iconst 2, 1) := by decide +kernel
theorem dX12_put_62 : decode cX12_put 62 = .ok (.iload 6, 2) := by decide +kernel
theorem dX12_put_64 : decode cX12_put 64 = .ok (.imul, 1) := by decide +kernel
theorem dX12_put_65 : decode cX12_put 65 = .ok (.iconst 1, 1) := by decide +kernel
theorem dX12_put_66 : decode cX12_put 66 = .ok (.iadd, 1) := by decide +kernel
theorem dX12_put_67 : decode cX12_put 67 = .ok (.bipush (-4), 2) := by decide +kernel
theorem dX12_put_69 : decode cX12_put 69 = .ok (.iastore, 1) := by decide +kernel
theorem dX12_put_70 : decode cX12_put 70 = .ok (.aload_n 0, 1) := by decide +kernel
theorem dX12_put_71 : decode cX12_put 71 = .ok (.getfield 90, 3) := by decide +kernel
theorem dX12_put_74 : decode cX12_put 74 = .ok (.iload 6, 2) := by decide +kernel
theorem dX12_put_76 : decode cX12_put 76 = .ok (.bipush (-4), 2) := by decide +kernel
theorem dX12_put_78 : decode cX12_put 78 = .ok (.iastore, 1) := by decide +kernel
theorem dX12_put_79 : decode cX12_put 79 = .ok (.aload_n 0, 1) := by decide +kernel
theorem dX12_put_80 : decode cX12_put 80 = .ok (.getfield 99, 3) := by decide +kernel
theorem dX12_put_83 : decode cX12_put 83 = .ok (.iload 6, 2) := by decide +kernel
theorem dX12_put_85 : decode cX12_put 85 = .ok (.iload 4, 2) := by decide +kernel
theorem dX12_put_87 : decode cX12_put 87 = .ok (.iastore, 1) := by decide +kernel
theorem dX12_put_88 : decode cX12_put 88 = .ok (.aload_n 0, 1) := by decide +kernel
theorem dX12_put_89 : decode cX12_put 89 = .ok (.getfield 102, 3) := by decide +kernel
theorem dX12_put_92 : decode cX12_put 92 = .ok (.iload 6, 2) := by decide +kernel
theorem dX12_put_94 : decode cX12_put 94 = .ok (.iload 5, 2) := by decide +kernel
theorem dX12_put_96 : decode cX12_put 96 = .ok (.iastore, 1) := by decide +kernel
theorem dX12_put_97 : decode cX12_put 97 = .ok (.aload_n 0, 1) := by decide +kernel
theorem dX12_put_98 : decode cX12_put 98 = .ok (.getfield 120, 3) := by decide +kernel
theorem dX12_put_101 : decode cX12_put 101 = .ok (.iload 6, 2) := by decide +kernel
theorem dX12_put_103 : decode cX12_put 103 = .ok (.bipush (-4), 2) := by decide +kernel
theorem dX12_put_105 : decode cX12_put 105 = .ok (.iastore, 1) := by decide +kernel
theorem dX12_put_106 : decode cX12_put 106 = .ok (.aload_n 0, 1) := by decide +kernel
theorem dX12_put_107 : decode cX12_put 107 = .ok (.dup, 1) := by decide +kernel
theorem dX12_put_108 : decode cX12_put 108 = .ok (.getfield 272, 3) := by decide +kernel
theorem dX12_put_111 : decode cX12_put 111 = .ok (.iconst 1, 1) := by decide +kernel
theorem dX12_put_112 : decode cX12_put 112 = .ok (.iadd, 1) := by decide +kernel
theorem dX12_put_113 : decode cX12_put 113 = .ok (.putfield 272, 3) := by decide +kernel
theorem dX12_put_116 : decode cX12_put 116 = .ok (.aload_n 0, 1) := by decide +kernel
theorem dX12_put_117 : decode cX12_put 117 = .ok (.getfield 87, 3) := by decide +kernel
theorem dX12_put_120 : decode cX12_put 120 = .ok (.iload 6, 2) := by decide +kernel
theorem dX12_put_122 : decode cX12_put 122 = .ok (.aload_n 0, 1) := by decide +kernel
theorem dX12_put_123 : decode cX12_put 123 = .ok (.getfield 272, 3) := by decide +kernel
theorem dX12_put_126 : decode cX12_put 126 = .ok (.iastore, 1) := by decide +kernel
theorem dX12_put_127 : decode cX12_put 127 = .ok (.aload_n 0, 1) := by decide +kernel
theorem dX12_put_128 : decode cX12_put 128 = .ok (.dup, 1) := by decide +kernel
theorem dX12_put_129 : decode cX12_put 129 = .ok (.getfield 269, 3) := by decide +kernel
theorem dX12_put_132 : decode cX12_put 132 = .ok (.iconst 1, 1) := by decide +kernel
theorem dX12_put_133 : decode cX12_put 133 = .ok (.iadd, 1) := by decide +kernel
theorem dX12_put_134 : decode cX12_put 134 = .ok (.putfield 269, 3) := by decide +kernel
theorem dX12_put_137 : decode cX12_put 137 = .ok (.aload_n 0, 1) := by decide +kernel
theorem dX12_put_138 : decode cX12_put 138 = .ok (.invokevirtual 229, 3) := by decide +kernel
theorem dX12_put_141 : decode cX12_put 141 = .ok (.iload 6, 2) := by decide +kernel
theorem dX12_put_143 : decode cX12_put 143 = .ok (.ireturn, 1) := by decide +kernel
set_option maxRecDepth 100000 in
set_option maxHeartbeats 4000000 in
theorem m_X12_put (a1 : Int32) (a2 : Int32) (a3 : Int32) (a4 : Int32) (a5 : Int32) (S S' : SS) (r : Int32) (h : f_X12_put a1 a2 a3 a4 a5 S = some (r, S')) : MT yX12_put cX12_put 7 (some .int) 1 20 (fun ad => [.ref (ad 14), .int a1, .int a2, .int a3, .int a4, .int a5]) S (some (.int r)) S' := by
  refine MT.of RX12 (fun ad => [(0, .ref (ad 14)), (1, .int a1), (2, .int a2), (3, .int a3), (4, .int a4), (5, .int a5)]) (by decide) rfl (fun _ => Nat.le_of_ble_eq_true rfl) (fun _ => rfl) ?_
  intro p l e R s m args below meth c dC dI cs ad A hR1 hR2 F H locs ls w hl
  have hx := F.1.1
  have hb := F.1.2.1
  rw [f_X12_put] at h
  refine lv_aload_n (pc := 0) hx hb dX12_put_0 rfl (lv_at hl 0 rfl) ?_
  refine s_getI (pc := 1) F w ds_14 (j := 29) vc_X12 vi_X12 rfl (by decide) kf_X12_269 dX12_put_1 ?_
  refine s_nm h (fun z1 ez1 h => ?_)
  rw [← ez1]
  refine lv_istore (pc := 4) (lv' := [(6, .int z1), (0, .ref (ad 14)), (1, .int a1), (2, .int a2), (3, .int a3), (4, .int a4), (5, .int a5)]) hx hb dX12_put_4 hl (by decide) rfl (fun ls hl => ?_)
  refine lv_aload_n (pc := 6) hx hb dX12_put_6 rfl (lv_at hl 1 rfl) ?_
  refine s_getR (pc := 7) F w 85 ds_14 (j := 30) vc_X12 vi_X12 rfl (by decide) kf_X12_69 dX12_put_7 ?_
  refine lv_iload (pc := 10) hx hb dX12_put_10 (lv_at hl 0 rfl) ?_
  refine lv_iload_n (pc := 12) hx hb dX12_put_12 rfl (lv_at hl 2 rfl) ?_
  refine s_iast (pc := 13) F w ds_85 h dX12_put_13 (fun S2 H locs h w => ?_)
  refine lv_aload_n (pc := 14) hx hb dX12_put_14 rfl (lv_at hl 1 rfl) ?_
  refine s_getR (pc := 15) F w 86 ds_14 (j := 31) vc_X12 vi_X12 rfl (by decide) kf_X12_72 dX12_put_15 ?_
  refine lv_iload (pc := 18) hx hb dX12_put_18 (lv_at hl 0 rfl) ?_
  refine lv_iconst (pc := 20) (v := 1) hx hb dX12_put_20 (by decide) ?_
  refine s_zast (pc := 21) F w ds_86 h dX12_put_21 (fun S3 H locs h w => ?_)
  refine lv_aload_n (pc := 22) hx hb dX12_put_22 rfl (lv_at hl 1 rfl) ?_
  refine s_getR (pc := 23) F w 87 ds_14 (j := 32) vc_X12 vi_X12 rfl (by decide) kf_X12_75 dX12_put_23 ?_
  refine lv_iload (pc := 26) hx hb dX12_put_26 (lv_at hl 0 rfl) ?_
  refine lv_iload_n (pc := 28) hx hb dX12_put_28 rfl (lv_at hl 3 rfl) ?_
  refine s_iast (pc := 29) F w ds_87 h dX12_put_29 (fun S4 H locs h w => ?_)
  refine lv_aload_n (pc := 30) hx hb dX12_put_30 rfl (lv_at hl 1 rfl) ?_
  refine s_getR (pc := 31) F w 88 ds_14 (j := 33) vc_X12 vi_X12 rfl (by decide) kf_X12_78 dX12_put_31 ?_
  refine lv_iload (pc := 34) hx hb dX12_put_34 (lv_at hl 0 rfl) ?_
  refine lv_iload_n (pc := 36) hx hb dX12_put_36 rfl (lv_at hl 4 rfl) ?_
  refine s_iast (pc := 37) F w ds_88 h dX12_put_37 (fun S5 H locs h w => ?_)
  refine lv_aload_n (pc := 38) hx hb dX12_put_38 rfl (lv_at hl 1 rfl) ?_
  refine s_getR (pc := 39) F w 89 ds_14 (j := 34) vc_X12 vi_X12 rfl (by decide) kf_X12_81 dX12_put_39 ?_
  refine lv_iload (pc := 42) hx hb dX12_put_42 (lv_at hl 0 rfl) ?_
  refine lv_iconst (pc := 44) (v := 1) hx hb dX12_put_44 (by decide) ?_
  refine s_iast (pc := 45) F w ds_89 h dX12_put_45 (fun S6 H locs h w => ?_)
  refine lv_aload_n (pc := 46) hx hb dX12_put_46 rfl (lv_at hl 1 rfl) ?_
  refine s_getR (pc := 47) F w 90 ds_14 (j := 35) vc_X12 vi_X12 rfl (by decide) kf_X12_84 dX12_put_47 ?_
  refine lv_iconst (pc := 50) (v := 2) hx hb dX12_put_50 (by decide) ?_
  refine lv_iload (pc := 51) hx hb dX12_put_51 (lv_at hl 0 rfl) ?_
  refine lv_imul (pc := 53) hx hb dX12_put_53 ?_
  refine lv_bipush (pc := 54) (v := -4) hx hb dX12_put_54 (by decide) ?_
  refine s_iast (pc := 56) F w ds_90 h dX12_put_56 (fun S7 H locs h w => ?_)
  refine lv_aload_n (pc := 57) hx hb dX12_put_57 rfl (lv_at hl 1 rfl) ?_
  refine s_getR (pc := 58) F w 90 ds_14 (j := 35) vc_X12 vi_X12 rfl (by decide) kf_X12_84 dX12_put_58 ?_
  refine lv_iconst (pc := 61) (v := 2) hx hb dX12_put_61 (by decide) ?_
  refine lv_iload (pc := 62) hx hb dX12_put_62 (lv_at hl 0 rfl) ?_
  refine lv_imul (pc := 64) hx hb dX12_put_64 ?_
  refine lv_iconst (pc := 65) (v := 1) hx hb dX12_put_65 (by decide) ?_
  refine lv_iadd (pc := 66) hx hb dX12_put_66 ?_
  refine lv_bipush (pc := 67) (v := -4) hx hb dX12_put_67 (by decide) ?_
  refine s_iast (pc := 69) F w ds_90 h dX12_put_69 (fun S8 H locs h w => ?_)
  refine lv_aload_n (pc := 70) hx hb dX12_put_70 rfl (lv_at hl 1 rfl) ?_
  refine s_getR (pc := 71) F w 92 ds_14 (j := 37) vc_X12 vi_X12 rfl (by decide) kf_X12_90 dX12_put_71 ?_
  refine lv_iload (pc := 74) hx hb dX12_put_74 (lv_at hl 0 rfl) ?_
  refine lv_bipush (pc := 76) (v := -4) hx hb dX12_put_76 (by decide) ?_
  refine s_iast (pc := 78) F w ds_92 h dX12_put_78 (fun S9 H locs h w => ?_)
  refine lv_aload_n (pc := 79) hx hb dX12_put_79 rfl (lv_at hl 1 rfl) ?_
  refine s_getR (pc := 80) F w 95 ds_14 (j := 40) vc_X12 vi_X12 rfl (by decide) kf_X12_99 dX12_put_80 ?_
  refine lv_iload (pc := 83) hx hb dX12_put_83 (lv_at hl 0 rfl) ?_
  refine lv_iload (pc := 85) hx hb dX12_put_85 (lv_at hl 5 rfl) ?_
  refine s_iast (pc := 87) F w ds_95 h dX12_put_87 (fun S10 H locs h w => ?_)
  refine lv_aload_n (pc := 88) hx hb dX12_put_88 rfl (lv_at hl 1 rfl) ?_
  refine s_getR (pc := 89) F w 96 ds_14 (j := 41) vc_X12 vi_X12 rfl (by decide) kf_X12_102 dX12_put_89 ?_
  refine lv_iload (pc := 92) hx hb dX12_put_92 (lv_at hl 0 rfl) ?_
  refine lv_iload (pc := 94) hx hb dX12_put_94 (lv_at hl 6 rfl) ?_
  refine s_iast (pc := 96) F w ds_96 h dX12_put_96 (fun S11 H locs h w => ?_)
  refine lv_aload_n (pc := 97) hx hb dX12_put_97 rfl (lv_at hl 1 rfl) ?_
  refine s_getR (pc := 98) F w 102 ds_14 (j := 50) vc_X12 vi_X12 rfl (by decide) kf_X12_120 dX12_put_98 ?_
  refine lv_iload (pc := 101) hx hb dX12_put_101 (lv_at hl 0 rfl) ?_
  refine lv_bipush (pc := 103) (v := -4) hx hb dX12_put_103 (by decide) ?_
  refine s_iast (pc := 105) F w ds_102 h dX12_put_105 (fun S12 H locs h w => ?_)
  refine lv_aload_n (pc := 106) hx hb dX12_put_106 rfl (lv_at hl 1 rfl) ?_
  refine lv_dup (pc := 107) hx hb dX12_put_107 rfl ?_
  refine s_getI (pc := 108) F w ds_14 (j := 49) vc_X12 vi_X12 rfl (by decide) kf_X12_272 dX12_put_108 ?_
  refine lv_iconst (pc := 111) (v := 1) hx hb dX12_put_111 (by decide) ?_
  refine lv_iadd (pc := 112) hx hb dX12_put_112 ?_
  refine s_putI (pc := 113) F w ds_14 vc_X12 vi_X12 tyX12_ok nmX12 (j := 49) rfl (by decide) kf_X12_272 rfl pd_I h dX12_put_113 (fun S13 H locs h w => ?_)
  refine lv_aload_n (pc := 116) hx hb dX12_put_116 rfl (lv_at hl 1 rfl) ?_
  refine s_getR (pc := 117) F w 91 ds_14 (j := 36) vc_X12 vi_X12 rfl (by decide) kf_X12_87 dX12_put_117 ?_
  refine lv_iload (pc := 120) hx hb dX12_put_120 (lv_at hl 0 rfl) ?_
  refine lv_aload_n (pc := 122) hx hb dX12_put_122 rfl (lv_at hl 1 rfl) ?_
  refine s_getI (pc := 123) F w ds_14 (j := 49) vc_X12 vi_X12 rfl (by decide) kf_X12_272 dX12_put_123 ?_
  refine s_iast (pc := 126) F w ds_91 h dX12_put_126 (fun S14 H locs h w => ?_)
  refine lv_aload_n (pc := 127) hx hb dX12_put_127 rfl (lv_at hl 1 rfl) ?_
  refine lv_dup (pc := 128) hx hb dX12_put_128 rfl ?_
  refine s_getI (pc := 129) F w ds_14 (j := 29) vc_X12 vi_X12 rfl (by decide) kf_X12_269 dX12_put_129 ?_
  refine lv_iconst (pc := 132) (v := 1) hx hb dX12_put_132 (by decide) ?_
  refine lv_iadd (pc := 133) hx hb dX12_put_133 ?_
  refine s_putI (pc := 134) F w ds_14 vc_X12 vi_X12 tyX12_ok nmX12 (j := 29) rfl (by decide) kf_X12_269 rfl pd_I h dX12_put_134 (fun S15 H locs h w => ?_)
  refine lv_aload_n (pc := 137) hx hb dX12_put_137 rfl (lv_at hl 1 rfl) ?_
  obtain ⟨S16, hc, h⟩ := bndv_t h
  refine s_cvv (pc := 138) [] (fun ad => [.ref (ad 14)]) F w (m_X12_forget  _ _ hc) rfl rfl hl.1 ds_14 vc_X12 rfl ok_X12_forget rfl kc_X12_forget kl_X12_229 ki_X12_forget kv_X12_forget kn_X12 ⟨Nat.le_trans (by decide) hR1, Nat.le_trans (by decide) hR2⟩ ⟨Nat.zero_le _, Nat.zero_le _⟩ (Nat.le_of_ble_eq_true rfl) dX12_put_138 (fun H locs w => ?_)
  refine lv_iload (pc := 141) hx hb dX12_put_141 (lv_at hl 0 rfl) ?_
  exact s_iret F w h dX12_put_143
def f_X12_wagon (a1 : Int32) (a2 : Int32) (a3 : Int32) (a4 : Int32) (a5 : Int32) (S : SS) : Option (Int32 × SS) :=
  if a1 < 0 then
    some ((-1 : Int32), S)
  else
    if (4 : Int32) < a1 then
      some ((-1 : Int32), S)
    else
      if a4 < 0 then
        some ((-1 : Int32), S)
      else
        if (8 : Int32) < a4 then
          some ((-1 : Int32), S)
        else
          if a5 < (1 : Int32) then
            some ((-1 : Int32), S)
          else
            if a5 ≤ (100 : Int32) then
              if (S.1 14 29) = (72 : Int32) then
                some ((-3 : Int32), S)
              else
                bndv (f_X12_begin  S) (fun S1 =>
                bnd (f_X12_missFree a2 a3 S1) (fun r3 S2 =>
                bnd (f_X12_ends r3 S2) (fun r5 S4 =>
                if r5 = 0 then
                  bnd (f_X12_put a1 a2 a3 a4 a5 S4) (fun r7 S6 =>
                  some (r7, S6))
                else
                  some ((-2 : Int32), S4))))
            else
              some ((-1 : Int32), S)
theorem dX12_wagon_0 : decode cX12_wagon 0 = .ok (.iload_n 1, 1) := by decide +kernel
theorem dX12_wagon_1 : decode cX12_wagon 1 = .ok (.ifCond .lt 33, 3) := by decide +kernel
theorem dX12_wagon_4 : decode cX12_wagon 4 = .ok (.iload_n 1, 1) := by decide +kernel
theorem dX12_wagon_5 : decode cX12_wagon 5 = .ok (.iconst 4, 1) := by decide +kernel
theorem dX12_wagon_6 : decode cX12_wagon 6 = .ok (.if_icmp .gt 28, 3) := by decide +kernel
theorem dX12_wagon_9 : decode cX12_wagon 9 = .ok (.iload 4, 2) := by decide +kernel
theorem dX12_wagon_11 : decode cX12_wagon 11 = .ok (.ifCond .lt 23, 3) := by decide +kernel
theorem dX12_wagon_14 : decode cX12_wagon 14 = .ok (.iload 4, 2) := by decide +kernel
theorem dX12_wagon_16 : decode cX12_wagon 16 = .ok (.bipush 8, 2) := by decide +kernel
theorem dX12_wagon_18 : decode cX12_wagon 18 = .ok (.if_icmp .gt 16, 3) := by decide +kernel
theorem dX12_wagon_21 : decode cX12_wagon 21 = .ok (.iload 5, 2) := by decide +kernel
theorem dX12_wagon_23 : decode cX12_wagon 23 = .ok (.iconst 1, 1) := by decide +kernel
theorem dX12_wagon_24 : decode cX12_wagon 24 = .ok (.if_icmp .lt 10, 3) := by decide +kernel
theorem dX12_wagon_27 : decode cX12_wagon 27 = .ok (.iload 5, 2) := by decide +kernel
theorem dX12_wagon_29 : decode cX12_wagon 29 = .ok (.bipush 100, 2) := by decide +kernel
theorem dX12_wagon_31 : decode cX12_wagon 31 = .ok (.if_icmp .le 5, 3) := by decide +kernel
theorem dX12_wagon_34 : decode cX12_wagon 34 = .ok (.iconst (-1), 1) := by decide +kernel
theorem dX12_wagon_35 : decode cX12_wagon 35 = .ok (.ireturn, 1) := by decide +kernel
theorem dX12_wagon_36 : decode cX12_wagon 36 = .ok (.aload_n 0, 1) := by decide +kernel
theorem dX12_wagon_37 : decode cX12_wagon 37 = .ok (.getfield 269, 3) := by decide +kernel
theorem dX12_wagon_40 : decode cX12_wagon 40 = .ok (.bipush 72, 2) := by decide +kernel
theorem dX12_wagon_42 : decode cX12_wagon 42 = .ok (.if_icmp .ne 6, 3) := by decide +kernel
theorem dX12_wagon_45 : decode cX12_wagon 45 = .ok (.bipush (-3), 2) := by decide +kernel
theorem dX12_wagon_47 : decode cX12_wagon 47 = .ok (.ireturn, 1) := by decide +kernel
theorem dX12_wagon_48 : decode cX12_wagon 48 = .ok (.aload_n 0, 1) := by decide +kernel
theorem dX12_wagon_49 : decode cX12_wagon 49 = .ok (.invokevirtual 226, 3) := by decide +kernel
theorem dX12_wagon_52 : decode cX12_wagon 52 = .ok (.aload_n 0, 1) := by decide +kernel
theorem dX12_wagon_53 : decode cX12_wagon 53 = .ok (.aload_n 0, 1) := by decide +kernel
theorem dX12_wagon_54 : decode cX12_wagon 54 = .ok (.iload_n 2, 1) := by decide +kernel
theorem dX12_wagon_55 : decode cX12_wagon 55 = .ok (.iload_n 3, 1) := by decide +kernel
theorem dX12_wagon_56 : decode cX12_wagon 56 = .ok (.invokevirtual 282, 3) := by decide +kernel
theorem dX12_wagon_59 : decode cX12_wagon 59 = .ok (.invokevirtual 236, 3) := by decide +kernel
theorem dX12_wagon_62 : decode cX12_wagon 62 = .ok (.ifCond .eq 8, 3) := by decide +kernel
theorem dX12_wagon_65 : decode cX12_wagon 65 = .ok (.bipush (-2), 2) := by decide +kernel
theorem dX12_wagon_67 : decode cX12_wagon 67 = .ok (.goto 14, 3) := by decide +kernel
theorem dX12_wagon_70 : decode cX12_wagon 70 = .ok (.aload_n 0, 1) := by decide +kernel
theorem dX12_wagon_71 : decode cX12_wagon 71 = .ok (.iload_n 1, 1) := by decide +kernel
theorem dX12_wagon_72 : decode cX12_wagon 72 = .ok (.iload_n 2, 1) := by decide +kernel
theorem dX12_wagon_73 : decode cX12_wagon 73 = .ok (.iload_n 3, 1) := by decide +kernel
theorem dX12_wagon_74 : decode cX12_wagon 74 = .ok (.iload 4, 2) := by decide +kernel
theorem dX12_wagon_76 : decode cX12_wagon 76 = .ok (.iload 5, 2) := by decide +kernel
theorem dX12_wagon_78 : decode cX12_wagon 78 = .ok (.invokevirtual 285, 3) := by decide +kernel
theorem dX12_wagon_81 : decode cX12_wagon 81 = .ok (.ireturn, 1) := by decide +kernel
set_option maxRecDepth 100000 in
set_option maxHeartbeats 4000000 in
theorem m_X12_wagon (a1 : Int32) (a2 : Int32) (a3 : Int32) (a4 : Int32) (a5 : Int32) (S S' : SS) (r : Int32) (h : f_X12_wagon a1 a2 a3 a4 a5 S = some (r, S')) : MT yX12_wagon cX12_wagon 6 (some .int) 3 67 (fun ad => [.ref (ad 14), .int a1, .int a2, .int a3, .int a4, .int a5]) S (some (.int r)) S' := by
  refine MT.of RX12 (fun ad => [(0, .ref (ad 14)), (1, .int a1), (2, .int a2), (3, .int a3), (4, .int a4), (5, .int a5)]) (by decide) rfl (fun _ => Nat.le_of_ble_eq_true rfl) (fun _ => rfl) ?_
  intro p l e R s m args below meth c dC dI cs ad A hR1 hR2 F H locs ls w hl
  have hx := F.1.1
  have hb := F.1.2.1
  rw [f_X12_wagon] at h
  refine lv_iload_n (pc := 0) hx hb dX12_wagon_0 rfl (lv_at hl 1 rfl) ?_
  refine lv_if_lt (pc := 1) (tgt := 34) hx hb dX12_wagon_1 (by decide) (fun q => ?_) (fun q => ?_)
  · have h := ite_t q h
    refine lv_iconst (pc := 34) (v := -1) hx hb dX12_wagon_34 (by decide) ?_
    exact s_iret F w h dX12_wagon_35
  · have h := ite_f q h
    refine lv_iload_n (pc := 4) hx hb dX12_wagon_4 rfl (lv_at hl 1 rfl) ?_
    refine lv_iconst (pc := 5) (v := 4) hx hb dX12_wagon_5 (by decide) ?_
    refine lv_icmp_gt (pc := 6) (tgt := 34) hx hb dX12_wagon_6 (by decide) (fun q => ?_) (fun q => ?_)
    · have h := ite_t q h
      refine lv_iconst (pc := 34) (v := -1) hx hb dX12_wagon_34 (by decide) ?_
      exact s_iret F w h dX12_wagon_35
    · have h := ite_f q h
      refine lv_iload (pc := 9) hx hb dX12_wagon_9 (lv_at hl 4 rfl) ?_
      refine lv_if_lt (pc := 11) (tgt := 34) hx hb dX12_wagon_11 (by decide) (fun q => ?_) (fun q => ?_)
      · have h := ite_t q h
        refine lv_iconst (pc := 34) (v := -1) hx hb dX12_wagon_34 (by decide) ?_
        exact s_iret F w h dX12_wagon_35
      · have h := ite_f q h
        refine lv_iload (pc := 14) hx hb dX12_wagon_14 (lv_at hl 4 rfl) ?_
        refine lv_bipush (pc := 16) (v := 8) hx hb dX12_wagon_16 (by decide) ?_
        refine lv_icmp_gt (pc := 18) (tgt := 34) hx hb dX12_wagon_18 (by decide) (fun q => ?_) (fun q => ?_)
        · have h := ite_t q h
          refine lv_iconst (pc := 34) (v := -1) hx hb dX12_wagon_34 (by decide) ?_
          exact s_iret F w h dX12_wagon_35
        · have h := ite_f q h
          refine lv_iload (pc := 21) hx hb dX12_wagon_21 (lv_at hl 5 rfl) ?_
          refine lv_iconst (pc := 23) (v := 1) hx hb dX12_wagon_23 (by decide) ?_
          refine lv_icmp_lt (pc := 24) (tgt := 34) hx hb dX12_wagon_24 (by decide) (fun q => ?_) (fun q => ?_)
          · have h := ite_t q h
            refine lv_iconst (pc := 34) (v := -1) hx hb dX12_wagon_34 (by decide) ?_
            exact s_iret F w h dX12_wagon_35
          · have h := ite_f q h
            refine lv_iload (pc := 27) hx hb dX12_wagon_27 (lv_at hl 5 rfl) ?_
            refine lv_bipush (pc := 29) (v := 100) hx hb dX12_wagon_29 (by decide) ?_
            refine lv_icmp_le (pc := 31) (tgt := 36) hx hb dX12_wagon_31 (by decide) (fun q => ?_) (fun q => ?_)
            · have h := ite_t q h
              refine lv_aload_n (pc := 36) hx hb dX12_wagon_36 rfl (lv_at hl 0 rfl) ?_
              refine s_getI (pc := 37) F w ds_14 (j := 29) vc_X12 vi_X12 rfl (by decide) kf_X12_269 dX12_wagon_37 ?_
              refine lv_bipush (pc := 40) (v := 72) hx hb dX12_wagon_40 (by decide) ?_
              refine lv_icmp_ne (pc := 42) (tgt := 48) hx hb dX12_wagon_42 (by decide) (fun q => ?_) (fun q => ?_)
              · have h := ite_f q h
                refine lv_aload_n (pc := 48) hx hb dX12_wagon_48 rfl (lv_at hl 0 rfl) ?_
                obtain ⟨S1, hc, h⟩ := bndv_t h
                refine s_cvv (pc := 49) [] (fun ad => [.ref (ad 14)]) F w (m_X12_begin  _ _ hc) rfl rfl hl.1 ds_14 vc_X12 rfl ok_X12_begin rfl kc_X12_begin kl_X12_226 ki_X12_begin kv_X12_begin kn_X12 ⟨Nat.le_trans (by decide) hR1, Nat.le_trans (by decide) hR2⟩ ⟨Nat.zero_le _, Nat.zero_le _⟩ (Nat.le_of_ble_eq_true rfl) dX12_wagon_49 (fun H locs w => ?_)
                refine lv_aload_n (pc := 52) hx hb dX12_wagon_52 rfl (lv_at hl 0 rfl) ?_
                refine lv_aload_n (pc := 53) hx hb dX12_wagon_53 rfl (lv_at hl 0 rfl) ?_
                refine lv_iload_n (pc := 54) hx hb dX12_wagon_54 rfl (lv_at hl 2 rfl) ?_
                refine lv_iload_n (pc := 55) hx hb dX12_wagon_55 rfl (lv_at hl 3 rfl) ?_
                obtain ⟨r3, S2, hc, h⟩ := bnd_t h
                refine s_cvi (pc := 56) [.int a2, .int a3] (fun ad => [.ref (ad 14), .int a2, .int a3]) F w (m_X12_missFree _ _ _ _ _ hc) rfl rfl hl.1 ds_14 vc_X12 rfl ok_X12_missFree rfl kc_X12_missFree kl_X12_282 ki_X12_missFree kv_X12_missFree kn_X12 ⟨Nat.le_trans (by decide) hR1, Nat.le_trans (by decide) hR2⟩ ⟨Nat.zero_le _, Nat.zero_le _⟩ (Nat.le_of_ble_eq_true rfl) dX12_wagon_56 (fun H locs w => ?_)
                obtain ⟨r5, S4, hc, h⟩ := bnd_t h
                refine s_cvi (pc := 59) [.int r3] (fun ad => [.ref (ad 14), .int r3]) F w (m_X12_ends _ _ _ _ hc) rfl rfl hl.1 ds_14 vc_X12 rfl ok_X12_ends rfl kc_X12_ends kl_X12_236 ki_X12_ends kv_X12_ends kn_X12 ⟨Nat.le_trans (by decide) hR1, Nat.le_trans (by decide) hR2⟩ ⟨Nat.zero_le _, Nat.zero_le _⟩ (Nat.le_of_ble_eq_true rfl) dX12_wagon_59 (fun H locs w => ?_)
                refine lv_if_eq (pc := 62) (tgt := 70) hx hb dX12_wagon_62 (by decide) (fun q => ?_) (fun q => ?_)
                · have h := ite_t q h
                  refine lv_aload_n (pc := 70) hx hb dX12_wagon_70 rfl (lv_at hl 0 rfl) ?_
                  refine lv_iload_n (pc := 71) hx hb dX12_wagon_71 rfl (lv_at hl 1 rfl) ?_
                  refine lv_iload_n (pc := 72) hx hb dX12_wagon_72 rfl (lv_at hl 2 rfl) ?_
                  refine lv_iload_n (pc := 73) hx hb dX12_wagon_73 rfl (lv_at hl 3 rfl) ?_
                  refine lv_iload (pc := 74) hx hb dX12_wagon_74 (lv_at hl 4 rfl) ?_
                  refine lv_iload (pc := 76) hx hb dX12_wagon_76 (lv_at hl 5 rfl) ?_
                  obtain ⟨r7, S6, hc, h⟩ := bnd_t h
                  refine s_cvi (pc := 78) [.int a1, .int a2, .int a3, .int a4, .int a5] (fun ad => [.ref (ad 14), .int a1, .int a2, .int a3, .int a4, .int a5]) F w (m_X12_put _ _ _ _ _ _ _ _ hc) rfl rfl hl.1 ds_14 vc_X12 rfl ok_X12_put rfl kc_X12_put kl_X12_285 ki_X12_put kv_X12_put kn_X12 ⟨Nat.le_trans (by decide) hR1, Nat.le_trans (by decide) hR2⟩ ⟨Nat.zero_le _, Nat.zero_le _⟩ (Nat.le_of_ble_eq_true rfl) dX12_wagon_78 (fun H locs w => ?_)
                  exact s_iret F w h dX12_wagon_81
                · have h := ite_f q h
                  refine lv_bipush (pc := 65) (v := -2) hx hb dX12_wagon_65 (by decide) ?_
                  refine lv_goto (pc := 67) (tgt := 81) hx hb dX12_wagon_67 (by decide) ?_
                  exact s_iret F w h dX12_wagon_81
              · have h := ite_t q h
                refine lv_bipush (pc := 45) (v := -3) hx hb dX12_wagon_45 (by decide) ?_
                exact s_iret F w h dX12_wagon_47
            · have h := ite_f q h
              refine lv_iconst (pc := 34) (v := -1) hx hb dX12_wagon_34 (by decide) ?_
              exact s_iret F w h dX12_wagon_35
def f_X11_engine_j26  (x1 : Int32) (x4 : Int32) (y0 : Int32) (y1 : Int32) (y2 : Int32) (S : SS) : Option (Int32 × SS) :=
    if x1 = 0 then
      bnd (f_X11_standNew y2 y1 y0 (6 : Int32) x4 S) (fun r4 S3 =>
      some (r4, S3))
    else
      bnd (f_X11_standNew y2 y1 y0 (4 : Int32) x4 S) (fun r6 S5 =>
      some (r6, S5))
def f_X11_engine (a1 : Int32) (a2 : Int32) (a3 : Int32) (a4 : Int32) (S : SS) : Option (Int32 × SS) :=
  bnd (f_X11_isNot a4 (0 : Int32) (100 : Int32) S) (fun r2 S1 =>
  if r2 = 0 then
    if a1 = 0 then
      f_X11_engine_j26 a1 a4 (5 : Int32) a3 a2 S1
    else
      f_X11_engine_j26 a1 a4 (6 : Int32) a3 a2 S1
  else
    some ((-1 : Int32), S1))
theorem dX11_engine_0 : decode cX11_engine 0 = .ok (.iload 4, 2) := by decide +kernel
theorem dX11_engine_2 : decode cX11_engine 2 = .ok (.iconst 0, 1) := by decide +kernel
theorem dX11_engine_3 : decode cX11_engine 3 = .ok (.bipush 100, 2) := by decide +kernel
theorem dX11_engine_5 : decode cX11_engine 5 = .ok (.invokestatic 108, 3) := by decide +kernel
theorem dX11_engine_8 : decode cX11_engine 8 = .ok (.ifCond .eq 5, 3) := by decide +kernel
theorem dX11_engine_11 : decode cX11_engine 11 = .ok (.iconst (-1), 1) := by decide +kernel
theorem dX11_engine_12 : decode cX11_engine 12 = .ok (.ireturn, 1) := by decide +kernel
theorem dX11_engine_13 : decode cX11_engine 13 = .ok (.aload_n 0, 1) := by decide +kernel
theorem dX11_engine_14 : decode cX11_engine 14 = .ok (.iload_n 2, 1) := by decide +kernel
theorem dX11_engine_15 : decode cX11_engine 15 = .ok (.iload_n 3, 1) := by decide +kernel
theorem dX11_engine_16 : decode cX11_engine 16 = .ok (.iload_n 1, 1) := by decide +kernel
theorem dX11_engine_17 : decode cX11_engine 17 = .ok (.ifCond .eq 8, 3) := by decide +kernel
theorem dX11_engine_20 : decode cX11_engine 20 = .ok (.bipush 6, 2) := by decide +kernel
theorem dX11_engine_22 : decode cX11_engine 22 = .ok (.goto 4, 3) := by decide +kernel
theorem dX11_engine_25 : decode cX11_engine 25 = .ok (.iconst 5, 1) := by decide +kernel
theorem dX11_engine_26 : decode cX11_engine 26 = .ok (.iload_n 1, 1) := by decide +kernel
theorem dX11_engine_27 : decode cX11_engine 27 = .ok (.ifCond .eq 7, 3) := by decide +kernel
theorem dX11_engine_30 : decode cX11_engine 30 = .ok (.iconst 4, 1) := by decide +kernel
theorem dX11_engine_31 : decode cX11_engine 31 = .ok (.goto 5, 3) := by decide +kernel
theorem dX11_engine_34 : decode cX11_engine 34 = .ok (.bipush 6, 2) := by decide +kernel
theorem dX11_engine_36 : decode cX11_engine 36 = .ok (.iload 4, 2) := by decide +kernel
theorem dX11_engine_38 : decode cX11_engine 38 = .ok (.invokevirtual 136, 3) := by decide +kernel
theorem dX11_engine_41 : decode cX11_engine 41 = .ok (.ireturn, 1) := by decide +kernel
set_option maxRecDepth 100000 in
set_option maxHeartbeats 4000000 in
theorem w_X11_engine_j26 {p : Program} {l : Launch} {e : Env} {R : Room} {s : State} {m : MethodId} {args : Array Value} {below : List Frame} {meth : Method} {c : Code} {dC : Nat → ClassId} {dI : Nat → Nat → Nat} {cs : Nat → ClassId} {ad : Nat → Nat} {A : Nat → Prop} {D0 : Nat → Nat} {S' : SS} {r : Int32} (F : Fx p s m args meth c cX11_engine 5 RX11 (some .int) dC dI cs A) (hR1 : 4 ≤ R.frames) (hR2 : 96 ≤ R.locals) (x1 : Int32) (x4 : Int32) (y0 : Int32) (y1 : Int32) (y2 : Int32) (S : SS) (h : f_X11_engine_j26 x1 x4 y0 y1 y2 S = some (r, S')) : AW p l e R s m args below meth c dC dI cs ad A D0 (some (.int r)) S' 5 26 [(1, .int x1), (4, .int x4)] [.int y0, .int y1, .int y2, .ref (ad 0)] S := by
  have hx := F.1.1
  have hb := F.1.2.1
  intro H locs ls w hl
  rw [f_X11_engine_j26] at h
  refine lv_iload_n (pc := 26) hx hb dX11_engine_26 rfl (lv_at hl 0 rfl) ?_
  refine lv_if_eq (pc := 27) (tgt := 34) hx hb dX11_engine_27 (by decide) (fun q => ?_) (fun q => ?_)
  · have h := ite_t q h
    refine lv_bipush (pc := 34) (v := 6) hx hb dX11_engine_34 (by decide) ?_
    refine lv_iload (pc := 36) hx hb dX11_engine_36 (lv_at hl 1 rfl) ?_
    obtain ⟨r4, S3, hc, h⟩ := bnd_t h
    refine s_cvi (pc := 38) [.int y2, .int y1, .int y0, .int (6 : Int32), .int x4] (fun ad => [.ref (ad 0), .int y2, .int y1, .int y0, .int (6 : Int32), .int x4]) F w (m_X11_standNew _ _ _ _ _ _ _ _ hc) rfl rfl hl.1 ds_0 vc_X11 rfl ok_X11_standNew rfl kc_X11_standNew kl_X11_136 ki_X11_standNew kv_X11_standNew kn_X11 ⟨Nat.le_trans (by decide) hR1, Nat.le_trans (by decide) hR2⟩ ⟨Nat.zero_le _, Nat.zero_le _⟩ (Nat.le_of_ble_eq_true rfl) dX11_engine_38 (fun H locs w => ?_)
    exact s_iret F w h dX11_engine_41
  · have h := ite_f q h
    refine lv_iconst (pc := 30) (v := 4) hx hb dX11_engine_30 (by decide) ?_
    refine lv_goto (pc := 31) (tgt := 36) hx hb dX11_engine_31 (by decide) ?_
    refine lv_iload (pc := 36) hx hb dX11_engine_36 (lv_at hl 1 rfl) ?_
    obtain ⟨r6, S5, hc, h⟩ := bnd_t h
    refine s_cvi (pc := 38) [.int y2, .int y1, .int y0, .int (4 : Int32), .int x4] (fun ad => [.ref (ad 0), .int y2, .int y1, .int y0, .int (4 : Int32), .int x4]) F w (m_X11_standNew _ _ _ _ _ _ _ _ hc) rfl rfl hl.1 ds_0 vc_X11 rfl ok_X11_standNew rfl kc_X11_standNew kl_X11_136 ki_X11_standNew kv_X11_standNew kn_X11 ⟨Nat.le_trans (by decide) hR1, Nat.le_trans (by decide) hR2⟩ ⟨Nat.zero_le _, Nat.zero_le _⟩ (Nat.le_of_ble_eq_true rfl) dX11_engine_38 (fun H locs w => ?_)
    exact s_iret F w h dX11_engine_41
set_option maxRecDepth 100000 in
set_option maxHeartbeats 4000000 in
theorem m_X11_engine (a1 : Int32) (a2 : Int32) (a3 : Int32) (a4 : Int32) (S S' : SS) (r : Int32) (h : f_X11_engine a1 a2 a3 a4 S = some (r, S')) : MT yX11_engine cX11_engine 5 (some .int) 4 96 (fun ad => [.ref (ad 0), .int a1, .int a2, .int a3, .int a4]) S (some (.int r)) S' := by
  refine MT.of RX11 (fun ad => [(0, .ref (ad 0)), (1, .int a1), (2, .int a2), (3, .int a3), (4, .int a4)]) (by decide) rfl (fun _ => Nat.le_of_ble_eq_true rfl) (fun _ => rfl) ?_
  intro p l e R s m args below meth c dC dI cs ad A hR1 hR2 F H locs ls w hl
  have hx := F.1.1
  have hb := F.1.2.1
  rw [f_X11_engine] at h
  refine lv_iload (pc := 0) hx hb dX11_engine_0 (lv_at hl 4 rfl) ?_
  refine lv_iconst (pc := 2) (v := 0) hx hb dX11_engine_2 (by decide) ?_
  refine lv_bipush (pc := 3) (v := 100) hx hb dX11_engine_3 (by decide) ?_
  obtain ⟨r2, S1, hc, h⟩ := bnd_t h
  refine s_csi (pc := 5) [.int a4, .int (0 : Int32), .int (100 : Int32)] (fun ad => [.int a4, .int (0 : Int32), .int (100 : Int32)]) F w (m_X11_isNot _ _ _ _ _ _ hc) rfl rfl hl.1 ok_X11_isNot rfl kc_X11_isNot kl_X11_108 ks_X11_isNot kn_X11 ⟨Nat.le_trans (by decide) hR1, Nat.le_trans (by decide) hR2⟩ ⟨Nat.zero_le _, Nat.zero_le _⟩ (Nat.le_of_ble_eq_true rfl) dX11_engine_5 (fun H locs w => ?_)
  refine lv_if_eq (pc := 8) (tgt := 13) hx hb dX11_engine_8 (by decide) (fun q => ?_) (fun q => ?_)
  · have h := ite_t q h
    refine lv_aload_n (pc := 13) hx hb dX11_engine_13 rfl (lv_at hl 0 rfl) ?_
    refine lv_iload_n (pc := 14) hx hb dX11_engine_14 rfl (lv_at hl 2 rfl) ?_
    refine lv_iload_n (pc := 15) hx hb dX11_engine_15 rfl (lv_at hl 3 rfl) ?_
    refine lv_iload_n (pc := 16) hx hb dX11_engine_16 rfl (lv_at hl 1 rfl) ?_
    refine lv_if_eq (pc := 17) (tgt := 25) hx hb dX11_engine_17 (by decide) (fun q => ?_) (fun q => ?_)
    · have h := ite_t q h
      refine lv_iconst (pc := 25) (v := 5) hx hb dX11_engine_25 (by decide) ?_
      exact w_X11_engine_j26 F (Nat.le_trans (by decide) hR1) (Nat.le_trans (by decide) hR2) _ _ _ _ _ _ h _ _ _ w (lv_sub hl [1, 4] rfl)
    · have h := ite_f q h
      refine lv_bipush (pc := 20) (v := 6) hx hb dX11_engine_20 (by decide) ?_
      refine lv_goto (pc := 22) (tgt := 26) hx hb dX11_engine_22 (by decide) ?_
      exact w_X11_engine_j26 F (Nat.le_trans (by decide) hR1) (Nat.le_trans (by decide) hR2) _ _ _ _ _ _ h _ _ _ w (lv_sub hl [1, 4] rfl)
  · have h := ite_f q h
    refine lv_iconst (pc := 11) (v := -1) hx hb dX11_engine_11 (by decide) ?_
    exact s_iret F w h dX11_engine_12
def f_X12_engine_j59  (x1 : Int32) (x2 : Int32) (x3 : Int32) (x4 : Int32) (y0 : Int32) (S : SS) : Option (Int32 × SS) :=
    if x1 = 0 then
      bnd (f_X12_put y0 x2 x3 (6 : Int32) x4 S) (fun r7 S6 =>
      some (r7, S6))
    else
      bnd (f_X12_put y0 x2 x3 (4 : Int32) x4 S) (fun r9 S8 =>
      some (r9, S8))
def f_X12_engine (a1 : Int32) (a2 : Int32) (a3 : Int32) (a4 : Int32) (S : SS) : Option (Int32 × SS) :=
  if a4 < 0 then
    some ((-1 : Int32), S)
  else
    if a4 ≤ (100 : Int32) then
      if (S.1 14 29) = (72 : Int32) then
        some ((-3 : Int32), S)
      else
        bndv (f_X12_begin  S) (fun S1 =>
        bnd (f_X12_missFree a2 a3 S1) (fun r3 S2 =>
        bnd (f_X12_ends r3 S2) (fun r5 S4 =>
        if r5 = 0 then
          if a1 = 0 then
            f_X12_engine_j59 a1 a2 a3 a4 (5 : Int32) S4
          else
            f_X12_engine_j59 a1 a2 a3 a4 (6 : Int32) S4
        else
          some ((-2 : Int32), S4))))
    else
      some ((-1 : Int32), S)
theorem dX12_engine_0 : decode cX12_engine 0 = .ok (.iload 4, 2) := by decide +kernel
theorem dX12_engine_2 : decode cX12_engine 2 = .ok (.ifCond .lt 10, 3) := by decide +kernel
theorem dX12_engine_5 : decode cX12_engine 5 = .ok (.iload 4, 2) := by decide +kernel
theorem dX12_engine_7 : decode cX12_engine 7 = .ok (.bipush 100, 2) := by decide +kernel
theorem dX12_engine_9 : decode cX12_engine 9 = .ok (.if_icmp .le 5, 3) := by decide +kernel
theorem dX12_engine_12 : decode cX12_engine 12 = .ok (.iconst (-1), 1) := by decide +kernel
theorem dX12_engine_13 : decode cX12_engine 13 = .ok (.ireturn, 1) := by decide +kernel
theorem dX12_engine_14 : decode cX12_engine 14 = .ok (.aload_n 0, 1) := by decide +kernel
theorem dX12_engine_15 : decode cX12_engine 15 = .ok (.getfield 269, 3) := by decide +kernel
theorem dX12_engine_18 : decode cX12_engine 18 = .ok (.bipush 72, 2) := by decide +kernel
theorem dX12_engine_20 : decode cX12_engine 20 = .ok (.if_icmp .ne 6, 3) := by decide +kernel
theorem dX12_engine_23 : decode cX12_engine 23 = .ok (.bipush (-3), 2) := by decide +kernel
theorem dX12_engine_25 : decode cX12_engine 25 = .ok (.ireturn, 1) := by decide +kernel
theorem dX12_engine_26 : decode cX12_engine 26 = .ok (.aload_n 0, 1) := by decide +kernel
theorem dX12_engine_27 : decode cX12_engine 27 = .ok (.invokevirtual 226, 3) := by decide +kernel
theorem dX12_engine_30 : decode cX12_engine 30 = .ok (.aload_n 0, 1) := by decide +kernel
theorem dX12_engine_31 : decode cX12_engine 31 = .ok (.aload_n 0, 1) := by decide +kernel
theorem dX12_engine_32 : decode cX12_engine 32 = .ok (.iload_n 2, 1) := by decide +kernel
theorem dX12_engine_33 : decode cX12_engine 33 = .ok (.iload_n 3, 1) := by decide +kernel
theorem dX12_engine_34 : decode cX12_engine 34 = .ok (.invokevirtual 282, 3) := by decide +kernel
theorem dX12_engine_37 : decode cX12_engine 37 = .ok (.invokevirtual 236, 3) := by decide +kernel
theorem dX12_engine_40 : decode cX12_engine 40 = .ok (.ifCond .eq 8, 3) := by decide +kernel
theorem dX12_engine_43 : decode cX12_engine 43 = .ok (.bipush (-2), 2) := by decide +kernel
theorem dX12_engine_45 : decode cX12_engine 45 = .ok (.goto 31, 3) := by decide +kernel
theorem dX12_engine_48 : decode cX12_engine 48 = .ok (.aload_n 0, 1) := by decide +kernel
theorem dX12_engine_49 : decode cX12_engine 49 = .ok (.iload_n 1, 1) := by decide +kernel
theorem dX12_engine_50 : decode cX12_engine 50 = .ok (.ifCond .eq 8, 3) := by decide +kernel
theorem dX12_engine_53 : decode cX12_engine 53 = .ok (.bipush 6, 2) := by decide +kernel
theorem dX12_engine_55 : decode cX12_engine 55 = .ok (.goto 4, 3) := by decide +kernel
theorem dX12_engine_58 : decode cX12_engine 58 = .ok (.iconst 5, 1) := by decide +kernel
theorem dX12_engine_59 : decode cX12_engine 59 = .ok (.iload_n 2, 1) := by decide +kernel
theorem dX12_engine_60 : decode cX12_engine 60 = .ok (.iload_n 3, 1) := by decide +kernel
theorem dX12_engine_61 : decode cX12_engine 61 = .ok (.iload_n 1, 1) := by decide +kernel
theorem dX12_engine_62 : decode cX12_engine 62 = .ok (.ifCond .eq 7, 3) := by decide +kernel
theorem dX12_engine_65 : decode cX12_engine 65 = .ok (.iconst 4, 1) := by decide +kernel
theorem dX12_engine_66 : decode cX12_engine 66 = .ok (.goto 5, 3) := by decide +kernel
theorem dX12_engine_69 : decode cX12_engine 69 = .ok (.bipush 6, 2) := by decide +kernel
theorem dX12_engine_71 : decode cX12_engine 71 = .ok (.iload 4, 2) := by decide +kernel
theorem dX12_engine_73 : decode cX12_engine 73 = .ok (.invokevirtual 285, 3) := by decide +kernel
theorem dX12_engine_76 : decode cX12_engine 76 = .ok (.ireturn, 1) := by decide +kernel
set_option maxRecDepth 100000 in
set_option maxHeartbeats 4000000 in
theorem w_X12_engine_j59 {p : Program} {l : Launch} {e : Env} {R : Room} {s : State} {m : MethodId} {args : Array Value} {below : List Frame} {meth : Method} {c : Code} {dC : Nat → ClassId} {dI : Nat → Nat → Nat} {cs : Nat → ClassId} {ad : Nat → Nat} {A : Nat → Prop} {D0 : Nat → Nat} {S' : SS} {r : Int32} (F : Fx p s m args meth c cX12_engine 5 RX12 (some .int) dC dI cs A) (hR1 : 2 ≤ R.frames) (hR2 : 46 ≤ R.locals) (x1 : Int32) (x2 : Int32) (x3 : Int32) (x4 : Int32) (y0 : Int32) (S : SS) (h : f_X12_engine_j59 x1 x2 x3 x4 y0 S = some (r, S')) : AW p l e R s m args below meth c dC dI cs ad A D0 (some (.int r)) S' 5 59 [(1, .int x1), (2, .int x2), (3, .int x3), (4, .int x4)] [.int y0, .ref (ad 14)] S := by
  have hx := F.1.1
  have hb := F.1.2.1
  intro H locs ls w hl
  rw [f_X12_engine_j59] at h
  refine lv_iload_n (pc := 59) hx hb dX12_engine_59 rfl (lv_at hl 1 rfl) ?_
  refine lv_iload_n (pc := 60) hx hb dX12_engine_60 rfl (lv_at hl 2 rfl) ?_
  refine lv_iload_n (pc := 61) hx hb dX12_engine_61 rfl (lv_at hl 0 rfl) ?_
  refine lv_if_eq (pc := 62) (tgt := 69) hx hb dX12_engine_62 (by decide) (fun q => ?_) (fun q => ?_)
  · have h := ite_t q h
    refine lv_bipush (pc := 69) (v := 6) hx hb dX12_engine_69 (by decide) ?_
    refine lv_iload (pc := 71) hx hb dX12_engine_71 (lv_at hl 3 rfl) ?_
    obtain ⟨r7, S6, hc, h⟩ := bnd_t h
    refine s_cvi (pc := 73) [.int y0, .int x2, .int x3, .int (6 : Int32), .int x4] (fun ad => [.ref (ad 14), .int y0, .int x2, .int x3, .int (6 : Int32), .int x4]) F w (m_X12_put _ _ _ _ _ _ _ _ hc) rfl rfl hl.1 ds_14 vc_X12 rfl ok_X12_put rfl kc_X12_put kl_X12_285 ki_X12_put kv_X12_put kn_X12 ⟨Nat.le_trans (by decide) hR1, Nat.le_trans (by decide) hR2⟩ ⟨Nat.zero_le _, Nat.zero_le _⟩ (Nat.le_of_ble_eq_true rfl) dX12_engine_73 (fun H locs w => ?_)
    exact s_iret F w h dX12_engine_76
  · have h := ite_f q h
    refine lv_iconst (pc := 65) (v := 4) hx hb dX12_engine_65 (by decide) ?_
    refine lv_goto (pc := 66) (tgt := 71) hx hb dX12_engine_66 (by decide) ?_
    refine lv_iload (pc := 71) hx hb dX12_engine_71 (lv_at hl 3 rfl) ?_
    obtain ⟨r9, S8, hc, h⟩ := bnd_t h
    refine s_cvi (pc := 73) [.int y0, .int x2, .int x3, .int (4 : Int32), .int x4] (fun ad => [.ref (ad 14), .int y0, .int x2, .int x3, .int (4 : Int32), .int x4]) F w (m_X12_put _ _ _ _ _ _ _ _ hc) rfl rfl hl.1 ds_14 vc_X12 rfl ok_X12_put rfl kc_X12_put kl_X12_285 ki_X12_put kv_X12_put kn_X12 ⟨Nat.le_trans (by decide) hR1, Nat.le_trans (by decide) hR2⟩ ⟨Nat.zero_le _, Nat.zero_le _⟩ (Nat.le_of_ble_eq_true rfl) dX12_engine_73 (fun H locs w => ?_)
    exact s_iret F w h dX12_engine_76
set_option maxRecDepth 100000 in
set_option maxHeartbeats 4000000 in
theorem m_X12_engine (a1 : Int32) (a2 : Int32) (a3 : Int32) (a4 : Int32) (S S' : SS) (r : Int32) (h : f_X12_engine a1 a2 a3 a4 S = some (r, S')) : MT yX12_engine cX12_engine 5 (some .int) 3 67 (fun ad => [.ref (ad 14), .int a1, .int a2, .int a3, .int a4]) S (some (.int r)) S' := by
  refine MT.of RX12 (fun ad => [(0, .ref (ad 14)), (1, .int a1), (2, .int a2), (3, .int a3), (4, .int a4)]) (by decide) rfl (fun _ => Nat.le_of_ble_eq_true rfl) (fun _ => rfl) ?_
  intro p l e R s m args below meth c dC dI cs ad A hR1 hR2 F H locs ls w hl
  have hx := F.1.1
  have hb := F.1.2.1
  rw [f_X12_engine] at h
  refine lv_iload (pc := 0) hx hb dX12_engine_0 (lv_at hl 4 rfl) ?_
  refine lv_if_lt (pc := 2) (tgt := 12) hx hb dX12_engine_2 (by decide) (fun q => ?_) (fun q => ?_)
  · have h := ite_t q h
    refine lv_iconst (pc := 12) (v := -1) hx hb dX12_engine_12 (by decide) ?_
    exact s_iret F w h dX12_engine_13
  · have h := ite_f q h
    refine lv_iload (pc := 5) hx hb dX12_engine_5 (lv_at hl 4 rfl) ?_
    refine lv_bipush (pc := 7) (v := 100) hx hb dX12_engine_7 (by decide) ?_
    refine lv_icmp_le (pc := 9) (tgt := 14) hx hb dX12_engine_9 (by decide) (fun q => ?_) (fun q => ?_)
    · have h := ite_t q h
      refine lv_aload_n (pc := 14) hx hb dX12_engine_14 rfl (lv_at hl 0 rfl) ?_
      refine s_getI (pc := 15) F w ds_14 (j := 29) vc_X12 vi_X12 rfl (by decide) kf_X12_269 dX12_engine_15 ?_
      refine lv_bipush (pc := 18) (v := 72) hx hb dX12_engine_18 (by decide) ?_
      refine lv_icmp_ne (pc := 20) (tgt := 26) hx hb dX12_engine_20 (by decide) (fun q => ?_) (fun q => ?_)
      · have h := ite_f q h
        refine lv_aload_n (pc := 26) hx hb dX12_engine_26 rfl (lv_at hl 0 rfl) ?_
        obtain ⟨S1, hc, h⟩ := bndv_t h
        refine s_cvv (pc := 27) [] (fun ad => [.ref (ad 14)]) F w (m_X12_begin  _ _ hc) rfl rfl hl.1 ds_14 vc_X12 rfl ok_X12_begin rfl kc_X12_begin kl_X12_226 ki_X12_begin kv_X12_begin kn_X12 ⟨Nat.le_trans (by decide) hR1, Nat.le_trans (by decide) hR2⟩ ⟨Nat.zero_le _, Nat.zero_le _⟩ (Nat.le_of_ble_eq_true rfl) dX12_engine_27 (fun H locs w => ?_)
        refine lv_aload_n (pc := 30) hx hb dX12_engine_30 rfl (lv_at hl 0 rfl) ?_
        refine lv_aload_n (pc := 31) hx hb dX12_engine_31 rfl (lv_at hl 0 rfl) ?_
        refine lv_iload_n (pc := 32) hx hb dX12_engine_32 rfl (lv_at hl 2 rfl) ?_
        refine lv_iload_n (pc := 33) hx hb dX12_engine_33 rfl (lv_at hl 3 rfl) ?_
        obtain ⟨r3, S2, hc, h⟩ := bnd_t h
        refine s_cvi (pc := 34) [.int a2, .int a3] (fun ad => [.ref (ad 14), .int a2, .int a3]) F w (m_X12_missFree _ _ _ _ _ hc) rfl rfl hl.1 ds_14 vc_X12 rfl ok_X12_missFree rfl kc_X12_missFree kl_X12_282 ki_X12_missFree kv_X12_missFree kn_X12 ⟨Nat.le_trans (by decide) hR1, Nat.le_trans (by decide) hR2⟩ ⟨Nat.zero_le _, Nat.zero_le _⟩ (Nat.le_of_ble_eq_true rfl) dX12_engine_34 (fun H locs w => ?_)
        obtain ⟨r5, S4, hc, h⟩ := bnd_t h
        refine s_cvi (pc := 37) [.int r3] (fun ad => [.ref (ad 14), .int r3]) F w (m_X12_ends _ _ _ _ hc) rfl rfl hl.1 ds_14 vc_X12 rfl ok_X12_ends rfl kc_X12_ends kl_X12_236 ki_X12_ends kv_X12_ends kn_X12 ⟨Nat.le_trans (by decide) hR1, Nat.le_trans (by decide) hR2⟩ ⟨Nat.zero_le _, Nat.zero_le _⟩ (Nat.le_of_ble_eq_true rfl) dX12_engine_37 (fun H locs w => ?_)
        refine lv_if_eq (pc := 40) (tgt := 48) hx hb dX12_engine_40 (by decide) (fun q => ?_) (fun q => ?_)
        · have h := ite_t q h
          refine lv_aload_n (pc := 48) hx hb dX12_engine_48 rfl (lv_at hl 0 rfl) ?_
          refine lv_iload_n (pc := 49) hx hb dX12_engine_49 rfl (lv_at hl 1 rfl) ?_
          refine lv_if_eq (pc := 50) (tgt := 58) hx hb dX12_engine_50 (by decide) (fun q => ?_) (fun q => ?_)
          · have h := ite_t q h
            refine lv_iconst (pc := 58) (v := 5) hx hb dX12_engine_58 (by decide) ?_
            exact w_X12_engine_j59 F (Nat.le_trans (by decide) hR1) (Nat.le_trans (by decide) hR2) _ _ _ _ _ _ h _ _ _ w (lv_sub hl [1, 2, 3, 4] rfl)
          · have h := ite_f q h
            refine lv_bipush (pc := 53) (v := 6) hx hb dX12_engine_53 (by decide) ?_
            refine lv_goto (pc := 55) (tgt := 59) hx hb dX12_engine_55 (by decide) ?_
            exact w_X12_engine_j59 F (Nat.le_trans (by decide) hR1) (Nat.le_trans (by decide) hR2) _ _ _ _ _ _ h _ _ _ w (lv_sub hl [1, 2, 3, 4] rfl)
        · have h := ite_f q h
          refine lv_bipush (pc := 43) (v := -2) hx hb dX12_engine_43 (by decide) ?_
          refine lv_goto (pc := 45) (tgt := 76) hx hb dX12_engine_45 (by decide) ?_
          exact s_iret F w h dX12_engine_76
      · have h := ite_t q h
        refine lv_bipush (pc := 23) (v := -3) hx hb dX12_engine_23 (by decide) ?_
        exact s_iret F w h dX12_engine_25
    · have h := ite_f q h
      refine lv_iconst (pc := 12) (v := -1) hx hb dX12_engine_12 (by decide) ?_
      exact s_iret F w h dX12_engine_13
def f_X0_isBarred (a1 : Int32) (a2 : Int32) (S : SS) : Option (Int32 × SS) :=
  bnd (f_X11_isNot a1 (0 : Int32) (9 : Int32) S) (fun r2 S1 =>
  if r2 = 0 then
    bnd (f_X11_isNot a2 (0 : Int32) (9 : Int32) S1) (fun r4 S3 =>
    if r4 = 0 then
      grd (inb (((10 : Int32) * a1) + a2) 100) (
      if (S3.1 45 (((10 : Int32) * a1) + a2).toNatClampNeg) = 0 then
        some ((0 : Int32), S3)
      else
        some ((1 : Int32), S3))
    else
      some ((0 : Int32), S3))
  else
    some ((0 : Int32), S1))
theorem dX0_isBarred_0 : decode cX0_isBarred 0 = .ok (.iload_n 1, 1) := by decide +kernel
theorem dX0_isBarred_1 : decode cX0_isBarred 1 = .ok (.iconst 0, 1) := by decide +kernel
theorem dX0_isBarred_2 : decode cX0_isBarred 2 = .ok (.bipush 9, 2) := by decide +kernel
theorem dX0_isBarred_4 : decode cX0_isBarred 4 = .ok (.invokestatic 78, 3) := by decide +kernel
theorem dX0_isBarred_7 : decode cX0_isBarred 7 = .ok (.ifCond .ne 31, 3) := by decide +kernel
theorem dX0_isBarred_10 : decode cX0_isBarred 10 = .ok (.iload_n 2, 1) := by decide +kernel
theorem dX0_isBarred_11 : decode cX0_isBarred 11 = .ok (.iconst 0, 1) := by decide +kernel
theorem dX0_isBarred_12 : decode cX0_isBarred 12 = .ok (.bipush 9, 2) := by decide +kernel
theorem dX0_isBarred_14 : decode cX0_isBarred 14 = .ok (.invokestatic 78, 3) := by decide +kernel
theorem dX0_isBarred_17 : decode cX0_isBarred 17 = .ok (.ifCond .ne 21, 3) := by decide +kernel
theorem dX0_isBarred_20 : decode cX0_isBarred 20 = .ok (.aload_n 0, 1) := by decide +kernel
theorem dX0_isBarred_21 : decode cX0_isBarred 21 = .ok (.getfield 9, 3) := by decide +kernel
theorem dX0_isBarred_24 : decode cX0_isBarred 24 = .ok (.bipush 10, 2) := by decide +kernel
theorem dX0_isBarred_26 : decode cX0_isBarred 26 = .ok (.iload_n 1, 1) := by decide +kernel
theorem dX0_isBarred_27 : decode cX0_isBarred 27 = .ok (.imul, 1) := by decide +kernel
theorem dX0_isBarred_28 : decode cX0_isBarred 28 = .ok (.iload_n 2, 1) := by decide +kernel
theorem dX0_isBarred_29 : decode cX0_isBarred 29 = .ok (.iadd, 1) := by decide +kernel
theorem dX0_isBarred_30 : decode cX0_isBarred 30 = .ok (.baload, 1) := by decide +kernel
theorem dX0_isBarred_31 : decode cX0_isBarred 31 = .ok (.ifCond .eq 7, 3) := by decide +kernel
theorem dX0_isBarred_34 : decode cX0_isBarred 34 = .ok (.iconst 1, 1) := by decide +kernel
theorem dX0_isBarred_35 : decode cX0_isBarred 35 = .ok (.goto 4, 3) := by decide +kernel
theorem dX0_isBarred_38 : decode cX0_isBarred 38 = .ok (.iconst 0, 1) := by decide +kernel
theorem dX0_isBarred_39 : decode cX0_isBarred 39 = .ok (.ireturn, 1) := by decide +kernel
set_option maxRecDepth 100000 in
set_option maxHeartbeats 4000000 in
theorem m_X0_isBarred (a1 : Int32) (a2 : Int32) (S S' : SS) (r : Int32) (h : f_X0_isBarred a1 a2 S = some (r, S')) : MT yX0_isBarred cX0_isBarred 3 (some .boolean) 1 22 (fun ad => [.ref (ad 8), .int a1, .int a2]) S (some (.int r)) S' := by
  refine MT.of RX0 (fun ad => [(0, .ref (ad 8)), (1, .int a1), (2, .int a2)]) (by decide) rfl (fun _ => Nat.le_of_ble_eq_true rfl) (fun _ => rfl) ?_
  intro p l e R s m args below meth c dC dI cs ad A hR1 hR2 F H locs ls w hl
  have hx := F.1.1
  have hb := F.1.2.1
  rw [f_X0_isBarred] at h
  refine lv_iload_n (pc := 0) hx hb dX0_isBarred_0 rfl (lv_at hl 1 rfl) ?_
  refine lv_iconst (pc := 1) (v := 0) hx hb dX0_isBarred_1 (by decide) ?_
  refine lv_bipush (pc := 2) (v := 9) hx hb dX0_isBarred_2 (by decide) ?_
  obtain ⟨r2, S1, hc, h⟩ := bnd_t h
  refine s_csNi (pc := 4) [.int a1, .int (0 : Int32), .int (9 : Int32)] (fun ad => [.int a1, .int (0 : Int32), .int (9 : Int32)]) F w (m_X11_isNot _ _ _ _ _ _ hc) rfl rfl hl.1 ok_X11_isNot rfl kc_X11_isNot kl_X0_78 ks_X11_isNot kn_X11 ⟨Nat.le_trans (by decide) hR1, Nat.le_trans (by decide) hR2⟩ ⟨Nat.zero_le _, Nat.zero_le _⟩ (Nat.le_of_ble_eq_true rfl) dX0_isBarred_4 (fun H locs w => ?_)
  refine lv_if_ne (pc := 7) (tgt := 38) hx hb dX0_isBarred_7 (by decide) (fun q => ?_) (fun q => ?_)
  · have h := ite_f q h
    refine lv_iconst (pc := 38) (v := 0) hx hb dX0_isBarred_38 (by decide) ?_
    exact s_zretc F w rfl h dX0_isBarred_39
  · have h := ite_t q h
    refine lv_iload_n (pc := 10) hx hb dX0_isBarred_10 rfl (lv_at hl 2 rfl) ?_
    refine lv_iconst (pc := 11) (v := 0) hx hb dX0_isBarred_11 (by decide) ?_
    refine lv_bipush (pc := 12) (v := 9) hx hb dX0_isBarred_12 (by decide) ?_
    obtain ⟨r4, S3, hc, h⟩ := bnd_t h
    refine s_csNi (pc := 14) [.int a2, .int (0 : Int32), .int (9 : Int32)] (fun ad => [.int a2, .int (0 : Int32), .int (9 : Int32)]) F w (m_X11_isNot _ _ _ _ _ _ hc) rfl rfl hl.1 ok_X11_isNot rfl kc_X11_isNot kl_X0_78 ks_X11_isNot kn_X11 ⟨Nat.le_trans (by decide) hR1, Nat.le_trans (by decide) hR2⟩ ⟨Nat.zero_le _, Nat.zero_le _⟩ (Nat.le_of_ble_eq_true rfl) dX0_isBarred_14 (fun H locs w => ?_)
    refine lv_if_ne (pc := 17) (tgt := 38) hx hb dX0_isBarred_17 (by decide) (fun q => ?_) (fun q => ?_)
    · have h := ite_f q h
      refine lv_iconst (pc := 38) (v := 0) hx hb dX0_isBarred_38 (by decide) ?_
      exact s_zretc F w rfl h dX0_isBarred_39
    · have h := ite_t q h
      refine lv_aload_n (pc := 20) hx hb dX0_isBarred_20 rfl (lv_at hl 0 rfl) ?_
      refine s_getR (pc := 21) F w 45 ds_8 (j := 3) vc_X0 vi_X0 rfl (by decide) kf_X0_9 dX0_isBarred_21 ?_
      refine lv_bipush (pc := 24) (v := 10) hx hb dX0_isBarred_24 (by decide) ?_
      refine lv_iload_n (pc := 26) hx hb dX0_isBarred_26 rfl (lv_at hl 1 rfl) ?_
      refine lv_imul (pc := 27) hx hb dX0_isBarred_27 ?_
      refine lv_iload_n (pc := 28) hx hb dX0_isBarred_28 rfl (lv_at hl 2 rfl) ?_
      refine lv_iadd (pc := 29) hx hb dX0_isBarred_29 ?_
      refine s_zald (pc := 30) F w ds_45 h dX0_isBarred_30 (fun h => ?_)
      refine lv_if_eq (pc := 31) (tgt := 38) hx hb dX0_isBarred_31 (by decide) (fun q => ?_) (fun q => ?_)
      · have h := ite_t q h
        refine lv_iconst (pc := 38) (v := 0) hx hb dX0_isBarred_38 (by decide) ?_
        exact s_zretc F w rfl h dX0_isBarred_39
      · have h := ite_f q h
        refine lv_iconst (pc := 34) (v := 1) hx hb dX0_isBarred_34 (by decide) ?_
        refine lv_goto (pc := 35) (tgt := 39) hx hb dX0_isBarred_35 (by decide) ?_
        exact s_zretc F w rfl h dX0_isBarred_39
def f_X0_setBarred (a1 : Int32) (a2 : Int32) (a3 : Int32) (S : SS) : Option (Int32 × SS) :=
  bnd (f_X0_isBarred a1 a2 S) (fun r2 S1 =>
  bnd (f_X11_isNot a1 (0 : Int32) (9 : Int32) S1) (fun r4 S3 =>
  if r4 = 0 then
    bnd (f_X11_isNot a2 (0 : Int32) (9 : Int32) S3) (fun r6 S5 =>
    if r6 = 0 then
      grd (inb (((10 : Int32) * a1) + a2) 100) (wr S5 45 (((10 : Int32) * a1) + a2).toNatClampNeg (vp_nar .boolean a3) (fun S7 =>
      grd (inb (((10 : Int32) * a2) + a1) 100) (wr S7 45 (((10 : Int32) * a2) + a1).toNatClampNeg (vp_nar .boolean a3) (fun S8 =>
      grd (isB r2) (some (r2, S8))))))
    else
      grd (isB r2) (some (r2, S5)))
  else
    grd (isB r2) (some (r2, S3))))
theorem dX0_setBarred_0 : decode cX0_setBarred 0 = .ok (.aload_n 0, 1) := by decide +kernel
theorem dX0_setBarred_1 : decode cX0_setBarred 1 = .ok (.iload_n 1, 1) := by decide +kernel
theorem dX0_setBarred_2 : decode cX0_setBarred 2 = .ok (.iload_n 2, 1) := by decide +kernel
theorem dX0_setBarred_3 : decode cX0_setBarred 3 = .ok (.invokevirtual 75, 3) := by decide +kernel
theorem dX0_setBarred_6 : decode cX0_setBarred 6 = .ok (.istore 4, 2) := by decide +kernel
theorem dX0_setBarred_8 : decode cX0_setBarred 8 = .ok (.iload_n 1, 1) := by decide +kernel
theorem dX0_setBarred_9 : decode cX0_setBarred 9 = .ok (.iconst 0, 1) := by decide +kernel
theorem dX0_setBarred_10 : decode cX0_setBarred 10 = .ok (.bipush 9, 2) := by decide +kernel
theorem dX0_setBarred_12 : decode cX0_setBarred 12 = .ok (.invokestatic 78, 3) := by decide +kernel
theorem dX0_setBarred_15 : decode cX0_setBarred 15 = .ok (.ifCond .ne 37, 3) := by decide +kernel
theorem dX0_setBarred_18 : decode cX0_setBarred 18 = .ok (.iload_n 2, 1) := by decide +kernel
theorem dX0_setBarred_19 : decode cX0_setBarred 19 = .ok (.iconst 0, 1) := by decide +kernel
theorem dX0_setBarred_20 : decode cX0_setBarred 20 = .ok (.bipush 9, 2) := by decide +kernel
theorem dX0_setBarred_22 : decode cX0_setBarred 22 = .ok (.invokestatic 78, 3) := by decide +kernel
theorem dX0_setBarred_25 : decode cX0_setBarred 25 = .ok (.ifCond .ne 27, 3) := by decide +kernel
theorem dX0_setBarred_28 : decode cX0_setBarred 28 = .ok (.aload_n 0, 1) := by decide +kernel
theorem dX0_setBarred_29 : decode cX0_setBarred 29 = .ok (.getfield 9, 3) := by decide +kernel
theorem dX0_setBarred_32 : decode cX0_setBarred 32 = .ok (.bipush 10, 2) := by decide +kernel
theorem dX0_setBarred_34 : decode cX0_setBarred 34 = .ok (.iload_n 1, 1) := by decide +kernel
theorem dX0_setBarred_35 : decode cX0_setBarred 35 = .ok (.imul, 1) := by decide +kernel
theorem dX0_setBarred_36 : decode cX0_setBarred 36 = .ok (.iload_n 2, 1) := by decide +kernel
theorem dX0_setBarred_37 : decode cX0_setBarred 37 = .ok (.iadd, 1) := by decide +kernel
theorem dX0_setBarred_38 : decode cX0_setBarred 38 = .ok (.iload_n 3, 1) := by decide +kernel
theorem dX0_setBarred_39 : decode cX0_setBarred 39 = .ok (.bastore, 1) := by decide +kernel
theorem dX0_setBarred_40 : decode cX0_setBarred 40 = .ok (.aload_n 0, 1) := by decide +kernel
theorem dX0_setBarred_41 : decode cX0_setBarred 41 = .ok (.getfield 9, 3) := by decide +kernel
theorem dX0_setBarred_44 : decode cX0_setBarred 44 = .ok (.bipush 10, 2) := by decide +kernel
theorem dX0_setBarred_46 : decode cX0_setBarred 46 = .ok (.iload_n 2, 1) := by decide +kernel
theorem dX0_setBarred_47 : decode cX0_setBarred 47 = .ok (.imul, 1) := by decide +kernel
theorem dX0_setBarred_48 : decode cX0_setBarred 48 = .ok (.iload_n 1, 1) := by decide +kernel
theorem dX0_setBarred_49 : decode cX0_setBarred 49 = .ok (.iadd, 1) := by decide +kernel
theorem dX0_setBarred_50 : decode cX0_setBarred 50 = .ok (.iload_n 3, 1) := by decide +kernel
theorem dX0_setBarred_51 : decode cX0_setBarred 51 = .ok (.bastore, 1) := by decide +kernel
theorem dX0_setBarred_52 : decode cX0_setBarred 52 = .ok (.iload 4, 2) := by decide +kernel
theorem dX0_setBarred_54 : decode cX0_setBarred 54 = .ok (.ireturn, 1) := by decide +kernel
set_option maxRecDepth 100000 in
set_option maxHeartbeats 4000000 in
theorem m_X0_setBarred (a1 : Int32) (a2 : Int32) (a3 : Int32) (S S' : SS) (r : Int32) (h : f_X0_setBarred a1 a2 a3 S = some (r, S')) : MT yX0_setBarred cX0_setBarred 5 (some .boolean) 2 44 (fun ad => [.ref (ad 8), .int a1, .int a2, .int a3]) S (some (.int r)) S' := by
  refine MT.of RX0 (fun ad => [(0, .ref (ad 8)), (1, .int a1), (2, .int a2), (3, .int a3)]) (by decide) rfl (fun _ => Nat.le_of_ble_eq_true rfl) (fun _ => rfl) ?_
  intro p l e R s m args below meth c dC dI cs ad A hR1 hR2 F H locs ls w hl
  have hx := F.1.1
  have hb := F.1.2.1
  rw [f_X0_setBarred] at h
  refine lv_aload_n (pc := 0) hx hb dX0_setBarred_0 rfl (lv_at hl 0 rfl) ?_
  refine lv_iload_n (pc := 1) hx hb dX0_setBarred_1 rfl (lv_at hl 1 rfl) ?_
  refine lv_iload_n (pc := 2) hx hb dX0_setBarred_2 rfl (lv_at hl 2 rfl) ?_
  obtain ⟨r2, S1, hc, h⟩ := bnd_t h
  refine s_cvi (pc := 3) [.int a1, .int a2] (fun ad => [.ref (ad 8), .int a1, .int a2]) F w (m_X0_isBarred _ _ _ _ _ hc) rfl rfl hl.1 ds_8 vc_X0 rfl ok_X0_isBarred rfl kc_X0_isBarred kl_X0_75 ki_X0_isBarred kv_X0_isBarred kn_X0 ⟨Nat.le_trans (by decide) hR1, Nat.le_trans (by decide) hR2⟩ ⟨Nat.zero_le _, Nat.zero_le _⟩ (Nat.le_of_ble_eq_true rfl) dX0_setBarred_3 (fun H locs w => ?_)
  refine lv_istore (pc := 6) (lv' := [(4, .int r2), (0, .ref (ad 8)), (1, .int a1), (2, .int a2), (3, .int a3)]) hx hb dX0_setBarred_6 hl (by decide) rfl (fun ls hl => ?_)
  refine lv_iload_n (pc := 8) hx hb dX0_setBarred_8 rfl (lv_at hl 2 rfl) ?_
  refine lv_iconst (pc := 9) (v := 0) hx hb dX0_setBarred_9 (by decide) ?_
  refine lv_bipush (pc := 10) (v := 9) hx hb dX0_setBarred_10 (by decide) ?_
  obtain ⟨r4, S3, hc, h⟩ := bnd_t h
  refine s_csNi (pc := 12) [.int a1, .int (0 : Int32), .int (9 : Int32)] (fun ad => [.int a1, .int (0 : Int32), .int (9 : Int32)]) F w (m_X11_isNot _ _ _ _ _ _ hc) rfl rfl hl.1 ok_X11_isNot rfl kc_X11_isNot kl_X0_78 ks_X11_isNot kn_X11 ⟨Nat.le_trans (by decide) hR1, Nat.le_trans (by decide) hR2⟩ ⟨Nat.zero_le _, Nat.zero_le _⟩ (Nat.le_of_ble_eq_true rfl) dX0_setBarred_12 (fun H locs w => ?_)
  refine lv_if_ne (pc := 15) (tgt := 52) hx hb dX0_setBarred_15 (by decide) (fun q => ?_) (fun q => ?_)
  · have h := ite_f q h
    refine lv_iload (pc := 52) hx hb dX0_setBarred_52 (lv_at hl 0 rfl) ?_
    exact s_zret F w h dX0_setBarred_54
  · have h := ite_t q h
    refine lv_iload_n (pc := 18) hx hb dX0_setBarred_18 rfl (lv_at hl 3 rfl) ?_
    refine lv_iconst (pc := 19) (v := 0) hx hb dX0_setBarred_19 (by decide) ?_
    refine lv_bipush (pc := 20) (v := 9) hx hb dX0_setBarred_20 (by decide) ?_
    obtain ⟨r6, S5, hc, h⟩ := bnd_t h
    refine s_csNi (pc := 22) [.int a2, .int (0 : Int32), .int (9 : Int32)] (fun ad => [.int a2, .int (0 : Int32), .int (9 : Int32)]) F w (m_X11_isNot _ _ _ _ _ _ hc) rfl rfl hl.1 ok_X11_isNot rfl kc_X11_isNot kl_X0_78 ks_X11_isNot kn_X11 ⟨Nat.le_trans (by decide) hR1, Nat.le_trans (by decide) hR2⟩ ⟨Nat.zero_le _, Nat.zero_le _⟩ (Nat.le_of_ble_eq_true rfl) dX0_setBarred_22 (fun H locs w => ?_)
    refine lv_if_ne (pc := 25) (tgt := 52) hx hb dX0_setBarred_25 (by decide) (fun q => ?_) (fun q => ?_)
    · have h := ite_f q h
      refine lv_iload (pc := 52) hx hb dX0_setBarred_52 (lv_at hl 0 rfl) ?_
      exact s_zret F w h dX0_setBarred_54
    · have h := ite_t q h
      refine lv_aload_n (pc := 28) hx hb dX0_setBarred_28 rfl (lv_at hl 1 rfl) ?_
      refine s_getR (pc := 29) F w 45 ds_8 (j := 3) vc_X0 vi_X0 rfl (by decide) kf_X0_9 dX0_setBarred_29 ?_
      refine lv_bipush (pc := 32) (v := 10) hx hb dX0_setBarred_32 (by decide) ?_
      refine lv_iload_n (pc := 34) hx hb dX0_setBarred_34 rfl (lv_at hl 2 rfl) ?_
      refine lv_imul (pc := 35) hx hb dX0_setBarred_35 ?_
      refine lv_iload_n (pc := 36) hx hb dX0_setBarred_36 rfl (lv_at hl 3 rfl) ?_
      refine lv_iadd (pc := 37) hx hb dX0_setBarred_37 ?_
      refine lv_iload_n (pc := 38) hx hb dX0_setBarred_38 rfl (lv_at hl 4 rfl) ?_
      refine s_zast (pc := 39) F w ds_45 h dX0_setBarred_39 (fun S7 H locs h w => ?_)
      refine lv_aload_n (pc := 40) hx hb dX0_setBarred_40 rfl (lv_at hl 1 rfl) ?_
      refine s_getR (pc := 41) F w 45 ds_8 (j := 3) vc_X0 vi_X0 rfl (by decide) kf_X0_9 dX0_setBarred_41 ?_
      refine lv_bipush (pc := 44) (v := 10) hx hb dX0_setBarred_44 (by decide) ?_
      refine lv_iload_n (pc := 46) hx hb dX0_setBarred_46 rfl (lv_at hl 3 rfl) ?_
      refine lv_imul (pc := 47) hx hb dX0_setBarred_47 ?_
      refine lv_iload_n (pc := 48) hx hb dX0_setBarred_48 rfl (lv_at hl 2 rfl) ?_
      refine lv_iadd (pc := 49) hx hb dX0_setBarred_49 ?_
      refine lv_iload_n (pc := 50) hx hb dX0_setBarred_50 rfl (lv_at hl 4 rfl) ?_
      refine s_zast (pc := 51) F w ds_45 h dX0_setBarred_51 (fun S8 H locs h w => ?_)
      refine lv_iload (pc := 52) hx hb dX0_setBarred_52 (lv_at hl 0 rfl) ?_
      exact s_zret F w h dX0_setBarred_54
def f_X11_bar (a1 : Int32) (a2 : Int32) (a3 : Int32) (S : SS) : Option (Int32 × SS) :=
  bnd (f_X11_isNot a1 (0 : Int32) (9 : Int32) S) (fun r2 S1 =>
  if r2 = 0 then
    bnd (f_X11_isNot a2 (0 : Int32) (9 : Int32) S1) (fun r4 S3 =>
    if r4 = 0 then
      bndv (f_X1_forget  S3) (fun S5 =>
      bnd (f_X0_setBarred a1 a2 a3 S5) (fun r7 S6 =>
      if r7 = 0 then
        some ((0 : Int32), S6)
      else
        some ((1 : Int32), S6)))
    else
      some ((-1 : Int32), S3))
  else
    some ((-1 : Int32), S1))
theorem dX11_bar_0 : decode cX11_bar 0 = .ok (.iload_n 1, 1) := by decide +kernel
theorem dX11_bar_1 : decode cX11_bar 1 = .ok (.iconst 0, 1) := by decide +kernel
theorem dX11_bar_2 : decode cX11_bar 2 = .ok (.bipush 9, 2) := by decide +kernel
theorem dX11_bar_4 : decode cX11_bar 4 = .ok (.invokestatic 108, 3) := by decide +kernel
theorem dX11_bar_7 : decode cX11_bar 7 = .ok (.ifCond .ne 13, 3) := by decide +kernel
theorem dX11_bar_10 : decode cX11_bar 10 = .ok (.iload_n 2, 1) := by decide +kernel
theorem dX11_bar_11 : decode cX11_bar 11 = .ok (.iconst 0, 1) := by decide +kernel
theorem dX11_bar_12 : decode cX11_bar 12 = .ok (.bipush 9, 2) := by decide +kernel
theorem dX11_bar_14 : decode cX11_bar 14 = .ok (.invokestatic 108, 3) := by decide +kernel
theorem dX11_bar_17 : decode cX11_bar 17 = .ok (.ifCond .eq 5, 3) := by decide +kernel
theorem dX11_bar_20 : decode cX11_bar 20 = .ok (.iconst (-1), 1) := by decide +kernel
theorem dX11_bar_21 : decode cX11_bar 21 = .ok (.ireturn, 1) := by decide +kernel
theorem dX11_bar_22 : decode cX11_bar 22 = .ok (.aload_n 0, 1) := by decide +kernel
theorem dX11_bar_23 : decode cX11_bar 23 = .ok (.getfield 26, 3) := by decide +kernel
theorem dX11_bar_26 : decode cX11_bar 26 = .ok (.invokevirtual 102, 3) := by decide +kernel
theorem dX11_bar_29 : decode cX11_bar 29 = .ok (.aload_n 0, 1) := by decide +kernel
theorem dX11_bar_30 : decode cX11_bar 30 = .ok (.getfield 67, 3) := by decide +kernel
theorem dX11_bar_33 : decode cX11_bar 33 = .ok (.iload_n 1, 1) := by decide +kernel
theorem dX11_bar_34 : decode cX11_bar 34 = .ok (.iload_n 2, 1) := by decide +kernel
theorem dX11_bar_35 : decode cX11_bar 35 = .ok (.iload_n 3, 1) := by decide +kernel
theorem dX11_bar_36 : decode cX11_bar 36 = .ok (.invokevirtual 164, 3) := by decide +kernel
theorem dX11_bar_39 : decode cX11_bar 39 = .ok (.ifCond .eq 7, 3) := by decide +kernel
theorem dX11_bar_42 : decode cX11_bar 42 = .ok (.iconst 1, 1) := by decide +kernel
theorem dX11_bar_43 : decode cX11_bar 43 = .ok (.goto 4, 3) := by decide +kernel
theorem dX11_bar_46 : decode cX11_bar 46 = .ok (.iconst 0, 1) := by decide +kernel
theorem dX11_bar_47 : decode cX11_bar 47 = .ok (.ireturn, 1) := by decide +kernel
set_option maxRecDepth 100000 in
set_option maxHeartbeats 4000000 in
theorem m_X11_bar (a1 : Int32) (a2 : Int32) (a3 : Int32) (S S' : SS) (r : Int32) (h : f_X11_bar a1 a2 a3 S = some (r, S')) : MT yX11_bar cX11_bar 4 (some .int) 3 68 (fun ad => [.ref (ad 0), .int a1, .int a2, .int a3]) S (some (.int r)) S' := by
  refine MT.of RX11 (fun ad => [(0, .ref (ad 0)), (1, .int a1), (2, .int a2), (3, .int a3)]) (by decide) rfl (fun _ => Nat.le_of_ble_eq_true rfl) (fun _ => rfl) ?_
  intro p l e R s m args below meth c dC dI cs ad A hR1 hR2 F H locs ls w hl
  have hx := F.1.1
  have hb := F.1.2.1
  rw [f_X11_bar] at h
  refine lv_iload_n (pc := 0) hx hb dX11_bar_0 rfl (lv_at hl 1 rfl) ?_
  refine lv_iconst (pc := 1) (v := 0) hx hb dX11_bar_1 (by decide) ?_
  refine lv_bipush (pc := 2) (v := 9) hx hb dX11_bar_2 (by decide) ?_
  obtain ⟨r2, S1, hc, h⟩ := bnd_t h
  refine s_csi (pc := 4) [.int a1, .int (0 : Int32), .int (9 : Int32)] (fun ad => [.int a1, .int (0 : Int32), .int (9 : Int32)]) F w (m_X11_isNot _ _ _ _ _ _ hc) rfl rfl hl.1 ok_X11_isNot rfl kc_X11_isNot kl_X11_108 ks_X11_isNot kn_X11 ⟨Nat.le_trans (by decide) hR1, Nat.le_trans (by decide) hR2⟩ ⟨Nat.zero_le _, Nat.zero_le _⟩ (Nat.le_of_ble_eq_true rfl) dX11_bar_4 (fun H locs w => ?_)
  refine lv_if_ne (pc := 7) (tgt := 20) hx hb dX11_bar_7 (by decide) (fun q => ?_) (fun q => ?_)
  · have h := ite_f q h
    refine lv_iconst (pc := 20) (v := -1) hx hb dX11_bar_20 (by decide) ?_
    exact s_iret F w h dX11_bar_21
  · have h := ite_t q h
    refine lv_iload_n (pc := 10) hx hb dX11_bar_10 rfl (lv_at hl 2 rfl) ?_
    refine lv_iconst (pc := 11) (v := 0) hx hb dX11_bar_11 (by decide) ?_
    refine lv_bipush (pc := 12) (v := 9) hx hb dX11_bar_12 (by decide) ?_
    obtain ⟨r4, S3, hc, h⟩ := bnd_t h
    refine s_csi (pc := 14) [.int a2, .int (0 : Int32), .int (9 : Int32)] (fun ad => [.int a2, .int (0 : Int32), .int (9 : Int32)]) F w (m_X11_isNot _ _ _ _ _ _ hc) rfl rfl hl.1 ok_X11_isNot rfl kc_X11_isNot kl_X11_108 ks_X11_isNot kn_X11 ⟨Nat.le_trans (by decide) hR1, Nat.le_trans (by decide) hR2⟩ ⟨Nat.zero_le _, Nat.zero_le _⟩ (Nat.le_of_ble_eq_true rfl) dX11_bar_14 (fun H locs w => ?_)
    refine lv_if_eq (pc := 17) (tgt := 22) hx hb dX11_bar_17 (by decide) (fun q => ?_) (fun q => ?_)
    · have h := ite_t q h
      refine lv_aload_n (pc := 22) hx hb dX11_bar_22 rfl (lv_at hl 0 rfl) ?_
      refine s_getR (pc := 23) F w 3 ds_0 (j := 2) vc_X11 vi_X11 rfl (by decide) kf_X11_26 dX11_bar_23 ?_
      obtain ⟨S5, hc, h⟩ := bndv_t h
      refine s_cvv (pc := 26) [] (fun ad => [.ref (ad 3)]) F w (m_X1_forget  _ _ hc) rfl rfl hl.1 ds_3 vc_X1 rfl ok_X1_forget rfl kc_X1_forget kl_X11_102 ki_X1_forget kv_X1_forget kn_X1 ⟨Nat.le_trans (by decide) hR1, Nat.le_trans (by decide) hR2⟩ ⟨Nat.zero_le _, Nat.zero_le _⟩ (Nat.le_of_ble_eq_true rfl) dX11_bar_26 (fun H locs w => ?_)
      refine lv_aload_n (pc := 29) hx hb dX11_bar_29 rfl (lv_at hl 0 rfl) ?_
      refine s_getR (pc := 30) F w 8 ds_0 (j := 7) vc_X11 vi_X11 rfl (by decide) kf_X11_67 dX11_bar_30 ?_
      refine lv_iload_n (pc := 33) hx hb dX11_bar_33 rfl (lv_at hl 1 rfl) ?_
      refine lv_iload_n (pc := 34) hx hb dX11_bar_34 rfl (lv_at hl 2 rfl) ?_
      refine lv_iload_n (pc := 35) hx hb dX11_bar_35 rfl (lv_at hl 3 rfl) ?_
      obtain ⟨r7, S6, hc, h⟩ := bnd_t h
      refine s_cvi (pc := 36) [.int a1, .int a2, .int a3] (fun ad => [.ref (ad 8), .int a1, .int a2, .int a3]) F w (m_X0_setBarred _ _ _ _ _ _ hc) rfl rfl hl.1 ds_8 vc_X0 rfl ok_X0_setBarred rfl kc_X0_setBarred kl_X11_164 ki_X0_setBarred kv_X0_setBarred kn_X0 ⟨Nat.le_trans (by decide) hR1, Nat.le_trans (by decide) hR2⟩ ⟨Nat.zero_le _, Nat.zero_le _⟩ (Nat.le_of_ble_eq_true rfl) dX11_bar_36 (fun H locs w => ?_)
      refine lv_if_eq (pc := 39) (tgt := 46) hx hb dX11_bar_39 (by decide) (fun q => ?_) (fun q => ?_)
      · have h := ite_t q h
        refine lv_iconst (pc := 46) (v := 0) hx hb dX11_bar_46 (by decide) ?_
        exact s_iret F w h dX11_bar_47
      · have h := ite_f q h
        refine lv_iconst (pc := 42) (v := 1) hx hb dX11_bar_42 (by decide) ?_
        refine lv_goto (pc := 43) (tgt := 47) hx hb dX11_bar_43 (by decide) ?_
        exact s_iret F w h dX11_bar_47
    · have h := ite_f q h
      refine lv_iconst (pc := 20) (v := -1) hx hb dX11_bar_20 (by decide) ?_
      exact s_iret F w h dX11_bar_21
