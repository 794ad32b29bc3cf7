/-! ===== printed by wip/gen: Trains_setLine Trains_renew Trains_joinHooks Yard_coupleAhead Yard_couple Trains_cutHook Yard_partFrom Yard_part Bodies_flatWeight Bodies_tankWeight Bodies_weight Yard_lineWeight Bodies_isFed Bodies_enginePulls Bodies_pulls Yard_linePulls State_goTo Math_max_7cf53 ===== -/
def f_Trains_setLine_L2  : Nat → Int32 → Int32 → Int32 → SS → Option (SS)
  | 0, _, _, _, _ => none
  | n + 1, x1, x2, x3, S =>
    if (S.1 68 4) ≤ x3 then
      some S
    else
      bnd (f_Trains_inLine x3 S) (fun r2 S1 =>
      bndv (f_State_set r2 x1 x2 S1) (fun S3 =>
      nm (x3 + (1 : Int32)) (fun z4 =>
      f_Trains_setLine_L2 n x1 x2 z4 S3)))
def f_Trains_setLine (a1 : Int32) (a2 : Int32) (S : SS) : Option (SS) :=
  f_Trains_setLine_L2 NF a1 a2 (0 : Int32) S
theorem dX10_setLine_0 : decode cX10_setLine 0 = .ok (.iconst 0, 1) := dc_3 (by decide +kernel)
theorem dX10_setLine_1 : decode cX10_setLine 1 = .ok (.istore_n 3, 1) := dc_62 (by decide +kernel)
theorem dX10_setLine_2 : decode cX10_setLine 2 = .ok (.iload_n 3, 1) := dc_29 (by decide +kernel)
theorem dX10_setLine_3 : decode cX10_setLine 3 = .ok (.aload_n 0, 1) := dc_42 (by decide +kernel)
theorem dX10_setLine_4 : decode cX10_setLine 4 = .ok (.getfield 17, 3) := dc_180 (a := 0) (b := 17) (by decide +kernel)
theorem dX10_setLine_7 : decode cX10_setLine 7 = .ok (.if_icmp .ge 23, 3) := dc_162 (a := 0) (b := 23) (by decide +kernel) (by decide)
theorem dX10_setLine_10 : decode cX10_setLine 10 = .ok (.aload_n 0, 1) := dc_42 (by decide +kernel)
theorem dX10_setLine_11 : decode cX10_setLine 11 = .ok (.getfield 24, 3) := dc_180 (a := 0) (b := 24) (by decide +kernel)
theorem dX10_setLine_14 : decode cX10_setLine 14 = .ok (.aload_n 0, 1) := dc_42 (by decide +kernel)
theorem dX10_setLine_15 : decode cX10_setLine 15 = .ok (.iload_n 3, 1) := dc_29 (by decide +kernel)
theorem dX10_setLine_16 : decode cX10_setLine 16 = .ok (.invokevirtual 47, 3) := dc_182 (a := 0) (b := 47) (by decide +kernel)
theorem dX10_setLine_19 : decode cX10_setLine 19 = .ok (.iload_n 1, 1) := dc_27 (by decide +kernel)
theorem dX10_setLine_20 : decode cX10_setLine 20 = .ok (.iload_n 2, 1) := dc_28 (by decide +kernel)
theorem dX10_setLine_21 : decode cX10_setLine 21 = .ok (.invokevirtual 50, 3) := dc_182 (a := 0) (b := 50) (by decide +kernel)
theorem dX10_setLine_24 : decode cX10_setLine 24 = .ok (.iinc 3 1, 3) := dc_132 (a := 3) (b := 1) (by decide +kernel) (by decide)
theorem dX10_setLine_27 : decode cX10_setLine 27 = .ok (.goto (-25), 3) := dc_167 (a := 255) (b := 231) (by decide +kernel) (by decide)
theorem dX10_setLine_30 : decode cX10_setLine 30 = .ok (.return_, 1) := dc_177 (by decide +kernel)
set_option maxRecDepth 100000 in
set_option maxHeartbeats 4000000 in
theorem w_Trains_setLine_L2 {p : Program} {l : Launch} {e : Env} {R : Room} {s : State} {m : MethodId} {args : Array Value} {below : List Frame} {meth : Method} {c : Code} {dC : Nat → ClassId} {dI : Nat → Nat → Nat} {cs : Nat → ClassId} {ad : Nat → Nat} {A : Nat → Prop} {D0 : Nat → Nat} {S' : SS} (F : Fx p s m args meth c cX10_setLine 4 RX10 none dC dI cs A) (hR1 : 2 ≤ R.frames) (hR2 : 43 ≤ R.locals) : ∀ (n : Nat) (x1 : Int32) (x2 : Int32) (x3 : Int32) (S : SS), f_Trains_setLine_L2 n x1 x2 x3 S = some S' → AW p l e R s m args below meth c dC dI cs ad A D0 none S' 4 2 [(0, .ref (ad 68)), (1, .int x1), (2, .int x2), (3, .int x3)] [] S := by
  have hx := F.1.1
  have hb := F.1.2.1
  intro n
  induction n with
  | zero => intro x1 x2 x3 S h; cases h
  | succ n ih =>
    intro x1 x2 x3 S h H locs ls w hl
    rw [f_Trains_setLine_L2] at h
    refine lv_iload_n (pc := 2) hx hb dX10_setLine_2 rfl (lv_at hl 3 rfl) ?_
    refine lv_aload_n (pc := 3) hx hb dX10_setLine_3 rfl (lv_at hl 0 rfl) ?_
    refine s_getI (pc := 4) F w ds_68 (j := 4) vc_X10 vi_X10 rfl (by decide) kf_X10_17 dX10_setLine_4 ?_
    refine lv_icmp_ge (pc := 7) (tgt := 30) hx hb dX10_setLine_7 (by decide) (fun q => ?_) (fun q => ?_)
    · have h := ite_t q h
      exact s_vret F w h dX10_setLine_30
    · have h := ite_f q h
      refine lv_aload_n (pc := 10) hx hb dX10_setLine_10 rfl (lv_at hl 0 rfl) ?_
      refine s_getR (pc := 11) F w 63 ds_68 (j := 0) vc_X10 vi_X10 rfl (by decide) kf_X10_24 dX10_setLine_11 ?_
      refine lv_aload_n (pc := 14) hx hb dX10_setLine_14 rfl (lv_at hl 0 rfl) ?_
      refine lv_iload_n (pc := 15) hx hb dX10_setLine_15 rfl (lv_at hl 3 rfl) ?_
      obtain ⟨r2, S1, hc, h⟩ := bnd_t h
      refine s_cvi (pc := 16) [.int x3] (fun ad => [.ref (ad 68), .int x3]) F w (m_Trains_inLine _ _ _ _ hc) rfl rfl hl.1 ds_68 vc_X10 rfl ok_X10_inLine rfl kc_X10_inLine kl_X10_47 ki_X10_inLine kv_X10_inLine kn_X10 ⟨Nat.le_trans (by decide) hR1, Nat.le_trans (by decide) hR2⟩ ⟨Nat.zero_le _, Nat.zero_le _⟩ (Nat.le_of_ble_eq_true rfl) dX10_setLine_16 (fun H locs w => ?_)
      refine lv_iload_n (pc := 19) hx hb dX10_setLine_19 rfl (lv_at hl 1 rfl) ?_
      refine lv_iload_n (pc := 20) hx hb dX10_setLine_20 rfl (lv_at hl 2 rfl) ?_
      obtain ⟨S3, hc, h⟩ := bndv_t h
      refine s_cvv (pc := 21) [.int r2, .int x1, .int x2] (fun ad => [.ref (ad 63), .int r2, .int x1, .int x2]) F w (m_State_set _ _ _ _ _ hc) rfl rfl hl.1 ds_63 vc_X8 rfl ok_X8_set rfl kc_X8_set kl_X10_50 ki_X8_set kv_X8_set kn_X8 ⟨Nat.le_trans (by decide) hR1, Nat.le_trans (by decide) hR2⟩ ⟨Nat.zero_le _, Nat.zero_le _⟩ (Nat.le_of_ble_eq_true rfl) dX10_setLine_21 (fun H locs w => ?_)
      refine s_nm h (fun z4 ez4 h => ?_)
      refine lv_iinc (pc := 24) (v := z4) (lv' := [(3, .int z4), (0, .ref (ad 68)), (1, .int x1), (2, .int x2)]) hx hb dX10_setLine_24 hl (k := 3) rfl (by rw [ez4]; rfl) (by decide) rfl (fun ls hl => ?_)
      refine lv_goto (pc := 27) (tgt := 2) hx hb dX10_setLine_27 (by decide) ?_
      exact ih _ _ _ _ h _ _ _ w (lv_sub hl [1, 2, 3, 0] rfl)
set_option maxRecDepth 100000 in
set_option maxHeartbeats 4000000 in
theorem m_Trains_setLine (a1 : Int32) (a2 : Int32) (S S' : SS) (h : f_Trains_setLine a1 a2 S = some S') : MT yX10_setLine cX10_setLine 4 none 2 43 (fun ad => [.ref (ad 68), .int a1, .int a2]) S none S' := by
  refine MT.of RX10 (fun ad => [(0, .ref (ad 68)), (1, .int a1), (2, .int a2)]) (by decide) rfl (fun _ => Nat.le_of_ble_eq_true rfl) (fun _ => rfl) ?_
  intro p l e R s m args below meth c dC dI cs ad A hR1 hR2 F H locs ls w hl
  have hx := F.1.1
  have hb := F.1.2.1
  rw [f_Trains_setLine] at h
  refine lv_iconst (pc := 0) (v := 0) hx hb dX10_setLine_0 (by decide) ?_
  refine lv_istore_n (pc := 1) (lv' := [(3, .int (0 : Int32)), (0, .ref (ad 68)), (1, .int a1), (2, .int a2)]) hx hb dX10_setLine_1 rfl hl (by decide) rfl (fun ls hl => ?_)
  exact w_Trains_setLine_L2 F (Nat.le_trans (by decide) hR1) (Nat.le_trans (by decide) hR2) _ _ _ _ _ h _ _ _ w (lv_sub hl [1, 2, 3, 0] rfl)
def f_Trains_renew (a1 : Int32) (S : SS) : Option (SS) :=
  bndv (f_Trains_lineUp ((2 : Int32) * a1) S) (fun S1 =>
  bnd (f_Trains_nextSerial  S1) (fun r3 S2 =>
  bndv (f_Trains_setLine (4 : Int32) r3 S2) (fun S4 =>
  bndv (f_Trains_setLine (10 : Int32) (0 : Int32) S4) (fun S5 =>
  some S5))))
theorem dX10_renew_0 : decode cX10_renew 0 = .ok (.aload_n 0, 1) := dc_42 (by decide +kernel)
theorem dX10_renew_1 : decode cX10_renew 1 = .ok (.iconst 2, 1) := dc_5 (by decide +kernel)
theorem dX10_renew_2 : decode cX10_renew 2 = .ok (.iload_n 1, 1) := dc_27 (by decide +kernel)
theorem dX10_renew_3 : decode cX10_renew 3 = .ok (.imul, 1) := dc_104 (by decide +kernel)
theorem dX10_renew_4 : decode cX10_renew 4 = .ok (.invokevirtual 79, 3) := dc_182 (a := 0) (b := 79) (by decide +kernel)
theorem dX10_renew_7 : decode cX10_renew 7 = .ok (.aload_n 0, 1) := dc_42 (by decide +kernel)
theorem dX10_renew_8 : decode cX10_renew 8 = .ok (.iconst 4, 1) := dc_7 (by decide +kernel)
theorem dX10_renew_9 : decode cX10_renew 9 = .ok (.aload_n 0, 1) := dc_42 (by decide +kernel)
theorem dX10_renew_10 : decode cX10_renew 10 = .ok (.invokevirtual 86, 3) := dc_182 (a := 0) (b := 86) (by decide +kernel)
theorem dX10_renew_13 : decode cX10_renew 13 = .ok (.invokevirtual 90, 3) := dc_182 (a := 0) (b := 90) (by decide +kernel)
theorem dX10_renew_16 : decode cX10_renew 16 = .ok (.aload_n 0, 1) := dc_42 (by decide +kernel)
theorem dX10_renew_17 : decode cX10_renew 17 = .ok (.bipush 10, 2) := dc_16 (a := 10) (by decide +kernel) (by decide)
theorem dX10_renew_19 : decode cX10_renew 19 = .ok (.iconst 0, 1) := dc_3 (by decide +kernel)
theorem dX10_renew_20 : decode cX10_renew 20 = .ok (.invokevirtual 90, 3) := dc_182 (a := 0) (b := 90) (by decide +kernel)
theorem dX10_renew_23 : decode cX10_renew 23 = .ok (.return_, 1) := dc_177 (by decide +kernel)
set_option maxRecDepth 100000 in
set_option maxHeartbeats 4000000 in
theorem m_Trains_renew (a1 : Int32) (S S' : SS) (h : f_Trains_renew a1 S = some S') : MT yX10_renew cX10_renew 2 none 3 67 (fun ad => [.ref (ad 68), .int a1]) S none S' := by
  refine MT.of RX10 (fun ad => [(0, .ref (ad 68)), (1, .int a1)]) (by decide) rfl (fun _ => Nat.le_of_ble_eq_true rfl) (fun _ => rfl) ?_
  intro p l e R s m args below meth c dC dI cs ad A hR1 hR2 F H locs ls w hl
  have hx := F.1.1
  have hb := F.1.2.1
  rw [f_Trains_renew] at h
  refine lv_aload_n (pc := 0) hx hb dX10_renew_0 rfl (lv_at hl 0 rfl) ?_
  refine lv_iconst (pc := 1) (v := 2) hx hb dX10_renew_1 (by decide) ?_
  refine lv_iload_n (pc := 2) hx hb dX10_renew_2 rfl (lv_at hl 1 rfl) ?_
  refine lv_imul (pc := 3) hx hb dX10_renew_3 ?_
  obtain ⟨S1, hc, h⟩ := bndv_t h
  refine s_cvv (pc := 4) [.int ((2 : Int32) * a1)] (fun ad => [.ref (ad 68), .int ((2 : Int32) * a1)]) F w (m_Trains_lineUp _ _ _ hc) rfl rfl hl.1 ds_68 vc_X10 rfl ok_X10_lineUp rfl kc_X10_lineUp kl_X10_79 ki_X10_lineUp kv_X10_lineUp kn_X10 ⟨Nat.le_trans (by decide) hR1, Nat.le_trans (by decide) hR2⟩ ⟨Nat.zero_le _, Nat.zero_le _⟩ (Nat.le_of_ble_eq_true rfl) dX10_renew_4 (fun H locs w => ?_)
  refine lv_aload_n (pc := 7) hx hb dX10_renew_7 rfl (lv_at hl 0 rfl) ?_
  refine lv_iconst (pc := 8) (v := 4) hx hb dX10_renew_8 (by decide) ?_
  refine lv_aload_n (pc := 9) hx hb dX10_renew_9 rfl (lv_at hl 0 rfl) ?_
  obtain ⟨r3, S2, hc, h⟩ := bnd_t h
  refine s_cvi (pc := 10) [] (fun ad => [.ref (ad 68)]) F w (m_Trains_nextSerial  _ _ _ hc) rfl rfl hl.1 ds_68 vc_X10 rfl ok_X10_nextSerial rfl kc_X10_nextSerial kl_X10_86 ki_X10_nextSerial kv_X10_nextSerial kn_X10 ⟨Nat.le_trans (by decide) hR1, Nat.le_trans (by decide) hR2⟩ ⟨Nat.zero_le _, Nat.zero_le _⟩ (Nat.le_of_ble_eq_true rfl) dX10_renew_10 (fun H locs w => ?_)
  obtain ⟨S4, hc, h⟩ := bndv_t h
  refine s_cvv (pc := 13) [.int (4 : Int32), .int r3] (fun ad => [.ref (ad 68), .int (4 : Int32), .int r3]) F w (m_Trains_setLine _ _ _ _ hc) rfl rfl hl.1 ds_68 vc_X10 rfl ok_X10_setLine rfl kc_X10_setLine kl_X10_90 ki_X10_setLine kv_X10_setLine kn_X10 ⟨Nat.le_trans (by decide) hR1, Nat.le_trans (by decide) hR2⟩ ⟨Nat.zero_le _, Nat.zero_le _⟩ (Nat.le_of_ble_eq_true rfl) dX10_renew_13 (fun H locs w => ?_)
  refine lv_aload_n (pc := 16) hx hb dX10_renew_16 rfl (lv_at hl 0 rfl) ?_
  refine lv_bipush (pc := 17) (v := 10) hx hb dX10_renew_17 (by decide) ?_
  refine lv_iconst (pc := 19) (v := 0) hx hb dX10_renew_19 (by decide) ?_
  obtain ⟨S5, hc, h⟩ := bndv_t h
  refine s_cvv (pc := 20) [.int (10 : Int32), .int (0 : Int32)] (fun ad => [.ref (ad 68), .int (10 : Int32), .int (0 : Int32)]) F w (m_Trains_setLine _ _ _ _ hc) rfl rfl hl.1 ds_68 vc_X10 rfl ok_X10_setLine rfl kc_X10_setLine kl_X10_90 ki_X10_setLine kv_X10_setLine kn_X10 ⟨Nat.le_trans (by decide) hR1, Nat.le_trans (by decide) hR2⟩ ⟨Nat.zero_le _, Nat.zero_le _⟩ (Nat.le_of_ble_eq_true rfl) dX10_renew_20 (fun H locs w => ?_)
  exact s_vret F w h dX10_renew_23
def f_Trains_joinHooks (a1 : Int32) (a2 : Int32) (S : SS) : Option (SS) :=
  bndv (f_State_set (a1 >>> ((1 : Int32) &&& 31)) ((2 : Int32) + (a1 &&& (1 : Int32))) (a2 >>> ((1 : Int32) &&& 31)) S) (fun S1 =>
  bndv (f_State_set (a2 >>> ((1 : Int32) &&& 31)) ((2 : Int32) + (a2 &&& (1 : Int32))) (a1 >>> ((1 : Int32) &&& 31)) S1) (fun S2 =>
  bndv (f_Trains_renew (a1 >>> ((1 : Int32) &&& 31)) S2) (fun S3 =>
  some S3)))
theorem dX10_joinHooks_0 : decode cX10_joinHooks 0 = .ok (.aload_n 0, 1) := dc_42 (by decide +kernel)
theorem dX10_joinHooks_1 : decode cX10_joinHooks 1 = .ok (.getfield 24, 3) := dc_180 (a := 0) (b := 24) (by decide +kernel)
theorem dX10_joinHooks_4 : decode cX10_joinHooks 4 = .ok (.iload_n 1, 1) := dc_27 (by decide +kernel)
theorem dX10_joinHooks_5 : decode cX10_joinHooks 5 = .ok (.iconst 1, 1) := dc_4 (by decide +kernel)
theorem dX10_joinHooks_6 : decode cX10_joinHooks 6 = .ok (.ishr, 1) := dc_122 (by decide +kernel)
theorem dX10_joinHooks_7 : decode cX10_joinHooks 7 = .ok (.iconst 2, 1) := dc_5 (by decide +kernel)
theorem dX10_joinHooks_8 : decode cX10_joinHooks 8 = .ok (.iload_n 1, 1) := dc_27 (by decide +kernel)
theorem dX10_joinHooks_9 : decode cX10_joinHooks 9 = .ok (.iconst 1, 1) := dc_4 (by decide +kernel)
theorem dX10_joinHooks_10 : decode cX10_joinHooks 10 = .ok (.iand, 1) := dc_126 (by decide +kernel)
theorem dX10_joinHooks_11 : decode cX10_joinHooks 11 = .ok (.iadd, 1) := dc_96 (by decide +kernel)
theorem dX10_joinHooks_12 : decode cX10_joinHooks 12 = .ok (.iload_n 2, 1) := dc_28 (by decide +kernel)
theorem dX10_joinHooks_13 : decode cX10_joinHooks 13 = .ok (.iconst 1, 1) := dc_4 (by decide +kernel)
theorem dX10_joinHooks_14 : decode cX10_joinHooks 14 = .ok (.ishr, 1) := dc_122 (by decide +kernel)
theorem dX10_joinHooks_15 : decode cX10_joinHooks 15 = .ok (.invokevirtual 50, 3) := dc_182 (a := 0) (b := 50) (by decide +kernel)
theorem dX10_joinHooks_18 : decode cX10_joinHooks 18 = .ok (.aload_n 0, 1) := dc_42 (by decide +kernel)
theorem dX10_joinHooks_19 : decode cX10_joinHooks 19 = .ok (.getfield 24, 3) := dc_180 (a := 0) (b := 24) (by decide +kernel)
theorem dX10_joinHooks_22 : decode cX10_joinHooks 22 = .ok (.iload_n 2, 1) := dc_28 (by decide +kernel)
theorem dX10_joinHooks_23 : decode cX10_joinHooks 23 = .ok (.iconst 1, 1) := dc_4 (by decide +kernel)
theorem dX10_joinHooks_24 : decode cX10_joinHooks 24 = .ok (.ishr, 1) := dc_122 (by decide +kernel)
theorem dX10_joinHooks_25 : decode cX10_joinHooks 25 = .ok (.iconst 2, 1) := dc_5 (by decide +kernel)
theorem dX10_joinHooks_26 : decode cX10_joinHooks 26 = .ok (.iload_n 2, 1) := dc_28 (by decide +kernel)
theorem dX10_joinHooks_27 : decode cX10_joinHooks 27 = .ok (.iconst 1, 1) := dc_4 (by decide +kernel)
theorem dX10_joinHooks_28 : decode cX10_joinHooks 28 = .ok (.iand, 1) := dc_126 (by decide +kernel)
theorem dX10_joinHooks_29 : decode cX10_joinHooks 29 = .ok (.iadd, 1) := dc_96 (by decide +kernel)
theorem dX10_joinHooks_30 : decode cX10_joinHooks 30 = .ok (.iload_n 1, 1) := dc_27 (by decide +kernel)
theorem dX10_joinHooks_31 : decode cX10_joinHooks 31 = .ok (.iconst 1, 1) := dc_4 (by decide +kernel)
theorem dX10_joinHooks_32 : decode cX10_joinHooks 32 = .ok (.ishr, 1) := dc_122 (by decide +kernel)
theorem dX10_joinHooks_33 : decode cX10_joinHooks 33 = .ok (.invokevirtual 50, 3) := dc_182 (a := 0) (b := 50) (by decide +kernel)
theorem dX10_joinHooks_36 : decode cX10_joinHooks 36 = .ok (.aload_n 0, 1) := dc_42 (by decide +kernel)
theorem dX10_joinHooks_37 : decode cX10_joinHooks 37 = .ok (.iload_n 1, 1) := dc_27 (by decide +kernel)
theorem dX10_joinHooks_38 : decode cX10_joinHooks 38 = .ok (.iconst 1, 1) := dc_4 (by decide +kernel)
theorem dX10_joinHooks_39 : decode cX10_joinHooks 39 = .ok (.ishr, 1) := dc_122 (by decide +kernel)
theorem dX10_joinHooks_40 : decode cX10_joinHooks 40 = .ok (.invokevirtual 83, 3) := dc_182 (a := 0) (b := 83) (by decide +kernel)
theorem dX10_joinHooks_43 : decode cX10_joinHooks 43 = .ok (.return_, 1) := dc_177 (by decide +kernel)
set_option maxRecDepth 100000 in
set_option maxHeartbeats 4000000 in
theorem m_Trains_joinHooks (a1 : Int32) (a2 : Int32) (S S' : SS) (h : f_Trains_joinHooks a1 a2 S = some S') : MT yX10_joinHooks cX10_joinHooks 3 none 4 88 (fun ad => [.ref (ad 68), .int a1, .int a2]) S none S' := by
  refine MT.of RX10 (fun ad => [(0, .ref (ad 68)), (1, .int a1), (2, .int a2)]) (by decide) rfl (fun _ => Nat.le_of_ble_eq_true rfl) (fun _ => rfl) ?_
  intro p l e R s m args below meth c dC dI cs ad A hR1 hR2 F H locs ls w hl
  have hx := F.1.1
  have hb := F.1.2.1
  rw [f_Trains_joinHooks] at h
  refine lv_aload_n (pc := 0) hx hb dX10_joinHooks_0 rfl (lv_at hl 0 rfl) ?_
  refine s_getR (pc := 1) F w 63 ds_68 (j := 0) vc_X10 vi_X10 rfl (by decide) kf_X10_24 dX10_joinHooks_1 ?_
  refine lv_iload_n (pc := 4) hx hb dX10_joinHooks_4 rfl (lv_at hl 1 rfl) ?_
  refine lv_iconst (pc := 5) (v := 1) hx hb dX10_joinHooks_5 (by decide) ?_
  refine lv_ishr (pc := 6) hx hb dX10_joinHooks_6 ?_
  refine lv_iconst (pc := 7) (v := 2) hx hb dX10_joinHooks_7 (by decide) ?_
  refine lv_iload_n (pc := 8) hx hb dX10_joinHooks_8 rfl (lv_at hl 1 rfl) ?_
  refine lv_iconst (pc := 9) (v := 1) hx hb dX10_joinHooks_9 (by decide) ?_
  refine lv_iand (pc := 10) hx hb dX10_joinHooks_10 ?_
  refine lv_iadd (pc := 11) hx hb dX10_joinHooks_11 ?_
  refine lv_iload_n (pc := 12) hx hb dX10_joinHooks_12 rfl (lv_at hl 2 rfl) ?_
  refine lv_iconst (pc := 13) (v := 1) hx hb dX10_joinHooks_13 (by decide) ?_
  refine lv_ishr (pc := 14) hx hb dX10_joinHooks_14 ?_
  obtain ⟨S1, hc, h⟩ := bndv_t h
  refine s_cvv (pc := 15) [.int (a1 >>> ((1 : Int32) &&& 31)), .int ((2 : Int32) + (a1 &&& (1 : Int32))), .int (a2 >>> ((1 : Int32) &&& 31))] (fun ad => [.ref (ad 63), .int (a1 >>> ((1 : Int32) &&& 31)), .int ((2 : Int32) + (a1 &&& (1 : Int32))), .int (a2 >>> ((1 : Int32) &&& 31))]) F w (m_State_set _ _ _ _ _ hc) rfl rfl hl.1 ds_63 vc_X8 rfl ok_X8_set rfl kc_X8_set kl_X10_50 ki_X8_set kv_X8_set kn_X8 ⟨Nat.le_trans (by decide) hR1, Nat.le_trans (by decide) hR2⟩ ⟨Nat.zero_le _, Nat.zero_le _⟩ (Nat.le_of_ble_eq_true rfl) dX10_joinHooks_15 (fun H locs w => ?_)
  refine lv_aload_n (pc := 18) hx hb dX10_joinHooks_18 rfl (lv_at hl 0 rfl) ?_
  refine s_getR (pc := 19) F w 63 ds_68 (j := 0) vc_X10 vi_X10 rfl (by decide) kf_X10_24 dX10_joinHooks_19 ?_
  refine lv_iload_n (pc := 22) hx hb dX10_joinHooks_22 rfl (lv_at hl 2 rfl) ?_
  refine lv_iconst (pc := 23) (v := 1) hx hb dX10_joinHooks_23 (by decide) ?_
  refine lv_ishr (pc := 24) hx hb dX10_joinHooks_24 ?_
  refine lv_iconst (pc := 25) (v := 2) hx hb dX10_joinHooks_25 (by decide) ?_
  refine lv_iload_n (pc := 26) hx hb dX10_joinHooks_26 rfl (lv_at hl 2 rfl) ?_
  refine lv_iconst (pc := 27) (v := 1) hx hb dX10_joinHooks_27 (by decide) ?_
  refine lv_iand (pc := 28) hx hb dX10_joinHooks_28 ?_
  refine lv_iadd (pc := 29) hx hb dX10_joinHooks_29 ?_
  refine lv_iload_n (pc := 30) hx hb dX10_joinHooks_30 rfl (lv_at hl 1 rfl) ?_
  refine lv_iconst (pc := 31) (v := 1) hx hb dX10_joinHooks_31 (by decide) ?_
  refine lv_ishr (pc := 32) hx hb dX10_joinHooks_32 ?_
  obtain ⟨S2, hc, h⟩ := bndv_t h
  refine s_cvv (pc := 33) [.int (a2 >>> ((1 : Int32) &&& 31)), .int ((2 : Int32) + (a2 &&& (1 : Int32))), .int (a1 >>> ((1 : Int32) &&& 31))] (fun ad => [.ref (ad 63), .int (a2 >>> ((1 : Int32) &&& 31)), .int ((2 : Int32) + (a2 &&& (1 : Int32))), .int (a1 >>> ((1 : Int32) &&& 31))]) F w (m_State_set _ _ _ _ _ hc) rfl rfl hl.1 ds_63 vc_X8 rfl ok_X8_set rfl kc_X8_set kl_X10_50 ki_X8_set kv_X8_set kn_X8 ⟨Nat.le_trans (by decide) hR1, Nat.le_trans (by decide) hR2⟩ ⟨Nat.zero_le _, Nat.zero_le _⟩ (Nat.le_of_ble_eq_true rfl) dX10_joinHooks_33 (fun H locs w => ?_)
  refine lv_aload_n (pc := 36) hx hb dX10_joinHooks_36 rfl (lv_at hl 0 rfl) ?_
  refine lv_iload_n (pc := 37) hx hb dX10_joinHooks_37 rfl (lv_at hl 1 rfl) ?_
  refine lv_iconst (pc := 38) (v := 1) hx hb dX10_joinHooks_38 (by decide) ?_
  refine lv_ishr (pc := 39) hx hb dX10_joinHooks_39 ?_
  obtain ⟨S3, hc, h⟩ := bndv_t h
  refine s_cvv (pc := 40) [.int (a1 >>> ((1 : Int32) &&& 31))] (fun ad => [.ref (ad 68), .int (a1 >>> ((1 : Int32) &&& 31))]) F w (m_Trains_renew _ _ _ hc) rfl rfl hl.1 ds_68 vc_X10 rfl ok_X10_renew rfl kc_X10_renew kl_X10_83 ki_X10_renew kv_X10_renew kn_X10 ⟨Nat.le_trans (by decide) hR1, Nat.le_trans (by decide) hR2⟩ ⟨Nat.zero_le _, Nat.zero_le _⟩ (Nat.le_of_ble_eq_true rfl) dX10_joinHooks_40 (fun H locs w => ?_)
  exact s_vret F w h dX10_joinHooks_43
def f_Yard_coupleAhead_j108   (S : SS) : Option (Int32 × SS) :=
    bnd (f_Report_found (13 : Int32) S) (fun r14 S13 =>
    some (r14, S13))
def f_Yard_coupleAhead (a1 : Int32) (a2 : Int32) (S : SS) : Option (Int32 × SS) :=
  bnd (f_Yard_namedSide a1 (127 : Int32) a2 S) (fun r2 S1 =>
  if r2 = 0 then
    nm (((2 : Int32) * a1) + a2) (fun z3 =>
    bnd (f_Trains_nextFrom z3 S1) (fun r5 S4 =>
    bnd (f_Trains_reachFinding z3 r5 S4) (fun r7 S6 =>
    if r7 = 0 then
      bnd (f_Trains_hookAt r5 S6) (fun r9 S8 =>
      nm (r9 >>> ((1 : Int32) &&& 31)) (fun z10 =>
      bnd (f_Bodies_suits a1 z10 S8) (fun r12 S11 =>
      if r12 = 0 then
        f_Yard_coupleAhead_j108  S11
      else
        bnd (f_Bodies_suits z10 a1 S11) (fun r16 S15 =>
        if r16 = 0 then
          f_Yard_coupleAhead_j108  S15
        else
          bndv (f_Trains_joinHooks z3 r9 S15) (fun S17 =>
          some (z10, S17))))))
    else
      bnd (f_Report_found r7 S6) (fun r19 S18 =>
      some (r19, S18)))))
  else
    bnd (f_Report_found r2 S1) (fun r21 S20 =>
    some (r21, S20)))
theorem dX11_coupleAhead_0 : decode cX11_coupleAhead 0 = .ok (.aload_n 0, 1) := dc_42 (by decide +kernel)
theorem dX11_coupleAhead_1 : decode cX11_coupleAhead 1 = .ok (.iload_n 1, 1) := dc_27 (by decide +kernel)
theorem dX11_coupleAhead_2 : decode cX11_coupleAhead 2 = .ok (.bipush 127, 2) := dc_16 (a := 127) (by decide +kernel) (by decide)
theorem dX11_coupleAhead_4 : decode cX11_coupleAhead 4 = .ok (.iload_n 2, 1) := dc_28 (by decide +kernel)
theorem dX11_coupleAhead_5 : decode cX11_coupleAhead 5 = .ok (.invokevirtual 259, 3) := dc_182 (a := 1) (b := 3) (by decide +kernel)
theorem dX11_coupleAhead_8 : decode cX11_coupleAhead 8 = .ok (.istore_n 3, 1) := dc_62 (by decide +kernel)
theorem dX11_coupleAhead_9 : decode cX11_coupleAhead 9 = .ok (.iload_n 3, 1) := dc_29 (by decide +kernel)
theorem dX11_coupleAhead_10 : decode cX11_coupleAhead 10 = .ok (.ifCond .eq 12, 3) := dc_153 (a := 0) (b := 12) (by decide +kernel) (by decide)
theorem dX11_coupleAhead_13 : decode cX11_coupleAhead 13 = .ok (.aload_n 0, 1) := dc_42 (by decide +kernel)
theorem dX11_coupleAhead_14 : decode cX11_coupleAhead 14 = .ok (.getfield 10, 3) := dc_180 (a := 0) (b := 10) (by decide +kernel)
theorem dX11_coupleAhead_17 : decode cX11_coupleAhead 17 = .ok (.iload_n 3, 1) := dc_29 (by decide +kernel)
theorem dX11_coupleAhead_18 : decode cX11_coupleAhead 18 = .ok (.invokevirtual 98, 3) := dc_182 (a := 0) (b := 98) (by decide +kernel)
theorem dX11_coupleAhead_21 : decode cX11_coupleAhead 21 = .ok (.ireturn, 1) := dc_172 (by decide +kernel)
theorem dX11_coupleAhead_22 : decode cX11_coupleAhead 22 = .ok (.iconst 2, 1) := dc_5 (by decide +kernel)
theorem dX11_coupleAhead_23 : decode cX11_coupleAhead 23 = .ok (.iload_n 1, 1) := dc_27 (by decide +kernel)
theorem dX11_coupleAhead_24 : decode cX11_coupleAhead 24 = .ok (.imul, 1) := dc_104 (by decide +kernel)
theorem dX11_coupleAhead_25 : decode cX11_coupleAhead 25 = .ok (.iload_n 2, 1) := dc_28 (by decide +kernel)
theorem dX11_coupleAhead_26 : decode cX11_coupleAhead 26 = .ok (.iadd, 1) := dc_96 (by decide +kernel)
theorem dX11_coupleAhead_27 : decode cX11_coupleAhead 27 = .ok (.istore 4, 2) := dc_54 (a := 4) (by decide +kernel)
theorem dX11_coupleAhead_29 : decode cX11_coupleAhead 29 = .ok (.aload_n 0, 1) := dc_42 (by decide +kernel)
theorem dX11_coupleAhead_30 : decode cX11_coupleAhead 30 = .ok (.getfield 58, 3) := dc_180 (a := 0) (b := 58) (by decide +kernel)
theorem dX11_coupleAhead_33 : decode cX11_coupleAhead 33 = .ok (.iload 4, 2) := dc_21 (a := 4) (by decide +kernel)
theorem dX11_coupleAhead_35 : decode cX11_coupleAhead 35 = .ok (.invokevirtual 262, 3) := dc_182 (a := 1) (b := 6) (by decide +kernel)
theorem dX11_coupleAhead_38 : decode cX11_coupleAhead 38 = .ok (.istore 5, 2) := dc_54 (a := 5) (by decide +kernel)
theorem dX11_coupleAhead_40 : decode cX11_coupleAhead 40 = .ok (.aload_n 0, 1) := dc_42 (by decide +kernel)
theorem dX11_coupleAhead_41 : decode cX11_coupleAhead 41 = .ok (.getfield 58, 3) := dc_180 (a := 0) (b := 58) (by decide +kernel)
theorem dX11_coupleAhead_44 : decode cX11_coupleAhead 44 = .ok (.iload 4, 2) := dc_21 (a := 4) (by decide +kernel)
theorem dX11_coupleAhead_46 : decode cX11_coupleAhead 46 = .ok (.iload 5, 2) := dc_21 (a := 5) (by decide +kernel)
theorem dX11_coupleAhead_48 : decode cX11_coupleAhead 48 = .ok (.invokevirtual 265, 3) := dc_182 (a := 1) (b := 9) (by decide +kernel)
theorem dX11_coupleAhead_51 : decode cX11_coupleAhead 51 = .ok (.istore_n 3, 1) := dc_62 (by decide +kernel)
theorem dX11_coupleAhead_52 : decode cX11_coupleAhead 52 = .ok (.iload_n 3, 1) := dc_29 (by decide +kernel)
theorem dX11_coupleAhead_53 : decode cX11_coupleAhead 53 = .ok (.ifCond .eq 12, 3) := dc_153 (a := 0) (b := 12) (by decide +kernel) (by decide)
theorem dX11_coupleAhead_56 : decode cX11_coupleAhead 56 = .ok (.aload_n 0, 1) := dc_42 (by decide +kernel)
theorem dX11_coupleAhead_57 : decode cX11_coupleAhead 57 = .ok (.getfield 10, 3) := dc_180 (a := 0) (b := 10) (by decide +kernel)
theorem dX11_coupleAhead_60 : decode cX11_coupleAhead 60 = .ok (.iload_n 3, 1) := dc_29 (by decide +kernel)
theorem dX11_coupleAhead_61 : decode cX11_coupleAhead 61 = .ok (.invokevirtual 98, 3) := dc_182 (a := 0) (b := 98) (by decide +kernel)
theorem dX11_coupleAhead_64 : decode cX11_coupleAhead 64 = .ok (.ireturn, 1) := dc_172 (by decide +kernel)
theorem dX11_coupleAhead_65 : decode cX11_coupleAhead 65 = .ok (.aload_n 0, 1) := dc_42 (by decide +kernel)
theorem dX11_coupleAhead_66 : decode cX11_coupleAhead 66 = .ok (.getfield 58, 3) := dc_180 (a := 0) (b := 58) (by decide +kernel)
theorem dX11_coupleAhead_69 : decode cX11_coupleAhead 69 = .ok (.iload 5, 2) := dc_21 (a := 5) (by decide +kernel)
theorem dX11_coupleAhead_71 : decode cX11_coupleAhead 71 = .ok (.invokevirtual 268, 3) := dc_182 (a := 1) (b := 12) (by decide +kernel)
theorem dX11_coupleAhead_74 : decode cX11_coupleAhead 74 = .ok (.istore 6, 2) := dc_54 (a := 6) (by decide +kernel)
theorem dX11_coupleAhead_76 : decode cX11_coupleAhead 76 = .ok (.iload 6, 2) := dc_21 (a := 6) (by decide +kernel)
theorem dX11_coupleAhead_78 : decode cX11_coupleAhead 78 = .ok (.iconst 1, 1) := dc_4 (by decide +kernel)
theorem dX11_coupleAhead_79 : decode cX11_coupleAhead 79 = .ok (.ishr, 1) := dc_122 (by decide +kernel)
theorem dX11_coupleAhead_80 : decode cX11_coupleAhead 80 = .ok (.istore 7, 2) := dc_54 (a := 7) (by decide +kernel)
theorem dX11_coupleAhead_82 : decode cX11_coupleAhead 82 = .ok (.aload_n 0, 1) := dc_42 (by decide +kernel)
theorem dX11_coupleAhead_83 : decode cX11_coupleAhead 83 = .ok (.getfield 67, 3) := dc_180 (a := 0) (b := 67) (by decide +kernel)
theorem dX11_coupleAhead_86 : decode cX11_coupleAhead 86 = .ok (.iload_n 1, 1) := dc_27 (by decide +kernel)
theorem dX11_coupleAhead_87 : decode cX11_coupleAhead 87 = .ok (.iload 7, 2) := dc_21 (a := 7) (by decide +kernel)
theorem dX11_coupleAhead_89 : decode cX11_coupleAhead 89 = .ok (.invokevirtual 271, 3) := dc_182 (a := 1) (b := 15) (by decide +kernel)
theorem dX11_coupleAhead_92 : decode cX11_coupleAhead 92 = .ok (.ifCond .eq 16, 3) := dc_153 (a := 0) (b := 16) (by decide +kernel) (by decide)
theorem dX11_coupleAhead_95 : decode cX11_coupleAhead 95 = .ok (.aload_n 0, 1) := dc_42 (by decide +kernel)
theorem dX11_coupleAhead_96 : decode cX11_coupleAhead 96 = .ok (.getfield 67, 3) := dc_180 (a := 0) (b := 67) (by decide +kernel)
theorem dX11_coupleAhead_99 : decode cX11_coupleAhead 99 = .ok (.iload 7, 2) := dc_21 (a := 7) (by decide +kernel)
theorem dX11_coupleAhead_101 : decode cX11_coupleAhead 101 = .ok (.iload_n 1, 1) := dc_27 (by decide +kernel)
theorem dX11_coupleAhead_102 : decode cX11_coupleAhead 102 = .ok (.invokevirtual 271, 3) := dc_182 (a := 1) (b := 15) (by decide +kernel)
theorem dX11_coupleAhead_105 : decode cX11_coupleAhead 105 = .ok (.ifCond .ne 13, 3) := dc_154 (a := 0) (b := 13) (by decide +kernel) (by decide)
theorem dX11_coupleAhead_108 : decode cX11_coupleAhead 108 = .ok (.aload_n 0, 1) := dc_42 (by decide +kernel)
theorem dX11_coupleAhead_109 : decode cX11_coupleAhead 109 = .ok (.getfield 10, 3) := dc_180 (a := 0) (b := 10) (by decide +kernel)
theorem dX11_coupleAhead_112 : decode cX11_coupleAhead 112 = .ok (.bipush 13, 2) := dc_16 (a := 13) (by decide +kernel) (by decide)
theorem dX11_coupleAhead_114 : decode cX11_coupleAhead 114 = .ok (.invokevirtual 98, 3) := dc_182 (a := 0) (b := 98) (by decide +kernel)
theorem dX11_coupleAhead_117 : decode cX11_coupleAhead 117 = .ok (.ireturn, 1) := dc_172 (by decide +kernel)
theorem dX11_coupleAhead_118 : decode cX11_coupleAhead 118 = .ok (.aload_n 0, 1) := dc_42 (by decide +kernel)
theorem dX11_coupleAhead_119 : decode cX11_coupleAhead 119 = .ok (.getfield 58, 3) := dc_180 (a := 0) (b := 58) (by decide +kernel)
theorem dX11_coupleAhead_122 : decode cX11_coupleAhead 122 = .ok (.iload 4, 2) := dc_21 (a := 4) (by decide +kernel)
theorem dX11_coupleAhead_124 : decode cX11_coupleAhead 124 = .ok (.iload 6, 2) := dc_21 (a := 6) (by decide +kernel)
theorem dX11_coupleAhead_126 : decode cX11_coupleAhead 126 = .ok (.invokevirtual 274, 3) := dc_182 (a := 1) (b := 18) (by decide +kernel)
theorem dX11_coupleAhead_129 : decode cX11_coupleAhead 129 = .ok (.iload 7, 2) := dc_21 (a := 7) (by decide +kernel)
theorem dX11_coupleAhead_131 : decode cX11_coupleAhead 131 = .ok (.ireturn, 1) := dc_172 (by decide +kernel)
set_option maxRecDepth 100000 in
set_option maxHeartbeats 4000000 in
theorem w_Yard_coupleAhead_j108 {p : Program} {l : Launch} {e : Env} {R : Room} {s : State} {m : MethodId} {args : Array Value} {below : List Frame} {meth : Method} {c : Code} {dC : Nat → ClassId} {dI : Nat → Nat → Nat} {cs : Nat → ClassId} {ad : Nat → Nat} {A : Nat → Prop} {D0 : Nat → Nat} {S' : SS} {r : Int32} (F : Fx p s m args meth c cX11_coupleAhead 8 RX11 (some .int) dC dI cs A) (hR1 : 1 ≤ R.frames) (hR2 : 21 ≤ R.locals)  (S : SS) (h : f_Yard_coupleAhead_j108  S = some (r, S')) : AW p l e R s m args below meth c dC dI cs ad A D0 (some (.int r)) S' 8 108 [(0, .ref (ad 61))] [] S := by
  have hx := F.1.1
  have hb := F.1.2.1
  intro H locs ls w hl
  rw [f_Yard_coupleAhead_j108] at h
  refine lv_aload_n (pc := 108) hx hb dX11_coupleAhead_108 rfl (lv_at hl 0 rfl) ?_
  refine s_getR (pc := 109) F w 62 ds_61 (j := 0) vc_X11 vi_X11 rfl (by decide) kf_X11_10 dX11_coupleAhead_109 ?_
  refine lv_bipush (pc := 112) (v := 13) hx hb dX11_coupleAhead_112 (by decide) ?_
  obtain ⟨r14, S13, hc, h⟩ := bnd_t h
  refine s_cvi (pc := 114) [.int (13 : Int32)] (fun ad => [.ref (ad 62), .int (13 : Int32)]) F w (m_Report_found _ _ _ _ hc) rfl rfl hl.1 ds_62 vc_X5 rfl ok_X5_found rfl kc_X5_found kl_X11_98 ki_X5_found kv_X5_found kn_X5 ⟨Nat.le_trans (by decide) hR1, Nat.le_trans (by decide) hR2⟩ ⟨Nat.zero_le _, Nat.zero_le _⟩ (Nat.le_of_ble_eq_true rfl) dX11_coupleAhead_114 (fun H locs w => ?_)
  exact s_iret F w h dX11_coupleAhead_117
set_option maxRecDepth 100000 in
set_option maxHeartbeats 4000000 in
theorem m_Yard_coupleAhead (a1 : Int32) (a2 : Int32) (S S' : SS) (r : Int32) (h : f_Yard_coupleAhead a1 a2 S = some (r, S')) : MT yX11_coupleAhead cX11_coupleAhead 8 (some .int) 5 113 (fun ad => [.ref (ad 61), .int a1, .int a2]) S (some (.int r)) S' := by
  refine MT.of RX11 (fun ad => [(0, .ref (ad 61)), (1, .int a1), (2, .int a2)]) (by decide) rfl (fun _ => Nat.le_of_ble_eq_true rfl) (fun _ => rfl) ?_
  intro p l e R s m args below meth c dC dI cs ad A hR1 hR2 F H locs ls w hl
  have hx := F.1.1
  have hb := F.1.2.1
  rw [f_Yard_coupleAhead] at h
  refine lv_aload_n (pc := 0) hx hb dX11_coupleAhead_0 rfl (lv_at hl 0 rfl) ?_
  refine lv_iload_n (pc := 1) hx hb dX11_coupleAhead_1 rfl (lv_at hl 1 rfl) ?_
  refine lv_bipush (pc := 2) (v := 127) hx hb dX11_coupleAhead_2 (by decide) ?_
  refine lv_iload_n (pc := 4) hx hb dX11_coupleAhead_4 rfl (lv_at hl 2 rfl) ?_
  obtain ⟨r2, S1, hc, h⟩ := bnd_t h
  refine s_cvi (pc := 5) [.int a1, .int (127 : Int32), .int a2] (fun ad => [.ref (ad 61), .int a1, .int (127 : Int32), .int a2]) F w (m_Yard_namedSide _ _ _ _ _ _ hc) rfl rfl hl.1 ds_61 vc_X11 rfl ok_X11_namedSide rfl kc_X11_namedSide kl_X11_259 ki_X11_namedSide kv_X11_namedSide kn_X11 ⟨Nat.le_trans (by decide) hR1, Nat.le_trans (by decide) hR2⟩ ⟨Nat.zero_le _, Nat.zero_le _⟩ (Nat.le_of_ble_eq_true rfl) dX11_coupleAhead_5 (fun H locs w => ?_)
  refine lv_istore_n (pc := 8) (lv' := [(3, .int r2), (0, .ref (ad 61)), (1, .int a1), (2, .int a2)]) hx hb dX11_coupleAhead_8 rfl hl (by decide) rfl (fun ls hl => ?_)
  refine lv_iload_n (pc := 9) hx hb dX11_coupleAhead_9 rfl (lv_at hl 0 rfl) ?_
  refine lv_if_eq (pc := 10) (tgt := 22) hx hb dX11_coupleAhead_10 (by decide) (fun q => ?_) (fun q => ?_)
  · have h := ite_t q h
    refine lv_iconst (pc := 22) (v := 2) hx hb dX11_coupleAhead_22 (by decide) ?_
    refine lv_iload_n (pc := 23) hx hb dX11_coupleAhead_23 rfl (lv_at hl 2 rfl) ?_
    refine lv_imul (pc := 24) hx hb dX11_coupleAhead_24 ?_
    refine lv_iload_n (pc := 25) hx hb dX11_coupleAhead_25 rfl (lv_at hl 3 rfl) ?_
    refine lv_iadd (pc := 26) hx hb dX11_coupleAhead_26 ?_
    refine s_nm h (fun z3 ez3 h => ?_)
    rw [← ez3]
    refine lv_istore (pc := 27) (lv' := [(4, .int z3), (3, .int r2), (0, .ref (ad 61)), (1, .int a1), (2, .int a2)]) hx hb dX11_coupleAhead_27 hl (by decide) rfl (fun ls hl => ?_)
    refine lv_aload_n (pc := 29) hx hb dX11_coupleAhead_29 rfl (lv_at hl 2 rfl) ?_
    refine s_getR (pc := 30) F w 68 ds_61 (j := 6) vc_X11 vi_X11 rfl (by decide) kf_X11_58 dX11_coupleAhead_30 ?_
    refine lv_iload (pc := 33) hx hb dX11_coupleAhead_33 (lv_at hl 0 rfl) ?_
    obtain ⟨r5, S4, hc, h⟩ := bnd_t h
    refine s_cvi (pc := 35) [.int z3] (fun ad => [.ref (ad 68), .int z3]) F w (m_Trains_nextFrom _ _ _ _ hc) rfl rfl hl.1 ds_68 vc_X10 rfl ok_X10_nextFrom rfl kc_X10_nextFrom kl_X11_262 ki_X10_nextFrom kv_X10_nextFrom kn_X10 ⟨Nat.le_trans (by decide) hR1, Nat.le_trans (by decide) hR2⟩ ⟨Nat.zero_le _, Nat.zero_le _⟩ (Nat.le_of_ble_eq_true rfl) dX11_coupleAhead_35 (fun H locs w => ?_)
    refine lv_istore (pc := 38) (lv' := [(5, .int r5), (4, .int z3), (3, .int r2), (0, .ref (ad 61)), (1, .int a1), (2, .int a2)]) hx hb dX11_coupleAhead_38 hl (by decide) rfl (fun ls hl => ?_)
    refine lv_aload_n (pc := 40) hx hb dX11_coupleAhead_40 rfl (lv_at hl 3 rfl) ?_
    refine s_getR (pc := 41) F w 68 ds_61 (j := 6) vc_X11 vi_X11 rfl (by decide) kf_X11_58 dX11_coupleAhead_41 ?_
    refine lv_iload (pc := 44) hx hb dX11_coupleAhead_44 (lv_at hl 1 rfl) ?_
    refine lv_iload (pc := 46) hx hb dX11_coupleAhead_46 (lv_at hl 0 rfl) ?_
    obtain ⟨r7, S6, hc, h⟩ := bnd_t h
    refine s_cvi (pc := 48) [.int z3, .int r5] (fun ad => [.ref (ad 68), .int z3, .int r5]) F w (m_Trains_reachFinding _ _ _ _ _ hc) rfl rfl hl.1 ds_68 vc_X10 rfl ok_X10_reachFinding rfl kc_X10_reachFinding kl_X11_265 ki_X10_reachFinding kv_X10_reachFinding kn_X10 ⟨Nat.le_trans (by decide) hR1, Nat.le_trans (by decide) hR2⟩ ⟨Nat.zero_le _, Nat.zero_le _⟩ (Nat.le_of_ble_eq_true rfl) dX11_coupleAhead_48 (fun H locs w => ?_)
    refine lv_istore_n (pc := 51) (lv' := [(3, .int r7), (5, .int r5), (4, .int z3), (0, .ref (ad 61)), (1, .int a1), (2, .int a2)]) hx hb dX11_coupleAhead_51 rfl hl (by decide) rfl (fun ls hl => ?_)
    refine lv_iload_n (pc := 52) hx hb dX11_coupleAhead_52 rfl (lv_at hl 0 rfl) ?_
    refine lv_if_eq (pc := 53) (tgt := 65) hx hb dX11_coupleAhead_53 (by decide) (fun q => ?_) (fun q => ?_)
    · have h := ite_t q h
      refine lv_aload_n (pc := 65) hx hb dX11_coupleAhead_65 rfl (lv_at hl 3 rfl) ?_
      refine s_getR (pc := 66) F w 68 ds_61 (j := 6) vc_X11 vi_X11 rfl (by decide) kf_X11_58 dX11_coupleAhead_66 ?_
      refine lv_iload (pc := 69) hx hb dX11_coupleAhead_69 (lv_at hl 1 rfl) ?_
      obtain ⟨r9, S8, hc, h⟩ := bnd_t h
      refine s_cvi (pc := 71) [.int r5] (fun ad => [.ref (ad 68), .int r5]) F w (m_Trains_hookAt _ _ _ _ hc) rfl rfl hl.1 ds_68 vc_X10 rfl ok_X10_hookAt rfl kc_X10_hookAt kl_X11_268 ki_X10_hookAt kv_X10_hookAt kn_X10 ⟨Nat.le_trans (by decide) hR1, Nat.le_trans (by decide) hR2⟩ ⟨Nat.zero_le _, Nat.zero_le _⟩ (Nat.le_of_ble_eq_true rfl) dX11_coupleAhead_71 (fun H locs w => ?_)
      refine lv_istore (pc := 74) (lv' := [(6, .int r9), (3, .int r7), (5, .int r5), (4, .int z3), (0, .ref (ad 61)), (1, .int a1), (2, .int a2)]) hx hb dX11_coupleAhead_74 hl (by decide) rfl (fun ls hl => ?_)
      refine lv_iload (pc := 76) hx hb dX11_coupleAhead_76 (lv_at hl 0 rfl) ?_
      refine lv_iconst (pc := 78) (v := 1) hx hb dX11_coupleAhead_78 (by decide) ?_
      refine lv_ishr (pc := 79) hx hb dX11_coupleAhead_79 ?_
      refine s_nm h (fun z10 ez10 h => ?_)
      rw [← ez10]
      refine lv_istore (pc := 80) (lv' := [(7, .int z10), (6, .int r9), (3, .int r7), (5, .int r5), (4, .int z3), (0, .ref (ad 61)), (1, .int a1), (2, .int a2)]) hx hb dX11_coupleAhead_80 hl (by decide) rfl (fun ls hl => ?_)
      refine lv_aload_n (pc := 82) hx hb dX11_coupleAhead_82 rfl (lv_at hl 5 rfl) ?_
      refine s_getR (pc := 83) F w 69 ds_61 (j := 7) vc_X11 vi_X11 rfl (by decide) kf_X11_67 dX11_coupleAhead_83 ?_
      refine lv_iload_n (pc := 86) hx hb dX11_coupleAhead_86 rfl (lv_at hl 6 rfl) ?_
      refine lv_iload (pc := 87) hx hb dX11_coupleAhead_87 (lv_at hl 0 rfl) ?_
      obtain ⟨r12, S11, hc, h⟩ := bnd_t h
      refine s_cvi (pc := 89) [.int a1, .int z10] (fun ad => [.ref (ad 69), .int a1, .int z10]) F w (m_Bodies_suits _ _ _ _ _ hc) rfl rfl hl.1 ds_69 vc_X0 rfl ok_X0_suits rfl kc_X0_suits kl_X11_271 ki_X0_suits kv_X0_suits kn_X0 ⟨Nat.le_trans (by decide) hR1, Nat.le_trans (by decide) hR2⟩ ⟨Nat.zero_le _, Nat.zero_le _⟩ (Nat.le_of_ble_eq_true rfl) dX11_coupleAhead_89 (fun H locs w => ?_)
      refine lv_if_eq (pc := 92) (tgt := 108) hx hb dX11_coupleAhead_92 (by decide) (fun q => ?_) (fun q => ?_)
      · have h := ite_t q h
        exact w_Yard_coupleAhead_j108 F (Nat.le_trans (by decide) hR1) (Nat.le_trans (by decide) hR2)  _ h _ _ _ w (lv_sub hl [5] rfl)
      · have h := ite_f q h
        refine lv_aload_n (pc := 95) hx hb dX11_coupleAhead_95 rfl (lv_at hl 5 rfl) ?_
        refine s_getR (pc := 96) F w 69 ds_61 (j := 7) vc_X11 vi_X11 rfl (by decide) kf_X11_67 dX11_coupleAhead_96 ?_
        refine lv_iload (pc := 99) hx hb dX11_coupleAhead_99 (lv_at hl 0 rfl) ?_
        refine lv_iload_n (pc := 101) hx hb dX11_coupleAhead_101 rfl (lv_at hl 6 rfl) ?_
        obtain ⟨r16, S15, hc, h⟩ := bnd_t h
        refine s_cvi (pc := 102) [.int z10, .int a1] (fun ad => [.ref (ad 69), .int z10, .int a1]) F w (m_Bodies_suits _ _ _ _ _ hc) rfl rfl hl.1 ds_69 vc_X0 rfl ok_X0_suits rfl kc_X0_suits kl_X11_271 ki_X0_suits kv_X0_suits kn_X0 ⟨Nat.le_trans (by decide) hR1, Nat.le_trans (by decide) hR2⟩ ⟨Nat.zero_le _, Nat.zero_le _⟩ (Nat.le_of_ble_eq_true rfl) dX11_coupleAhead_102 (fun H locs w => ?_)
        refine lv_if_ne (pc := 105) (tgt := 118) hx hb dX11_coupleAhead_105 (by decide) (fun q => ?_) (fun q => ?_)
        · have h := ite_f q h
          refine lv_aload_n (pc := 118) hx hb dX11_coupleAhead_118 rfl (lv_at hl 5 rfl) ?_
          refine s_getR (pc := 119) F w 68 ds_61 (j := 6) vc_X11 vi_X11 rfl (by decide) kf_X11_58 dX11_coupleAhead_119 ?_
          refine lv_iload (pc := 122) hx hb dX11_coupleAhead_122 (lv_at hl 4 rfl) ?_
          refine lv_iload (pc := 124) hx hb dX11_coupleAhead_124 (lv_at hl 1 rfl) ?_
          obtain ⟨S17, hc, h⟩ := bndv_t h
          refine s_cvv (pc := 126) [.int z3, .int r9] (fun ad => [.ref (ad 68), .int z3, .int r9]) F w (m_Trains_joinHooks _ _ _ _ hc) rfl rfl hl.1 ds_68 vc_X10 rfl ok_X10_joinHooks rfl kc_X10_joinHooks kl_X11_274 ki_X10_joinHooks kv_X10_joinHooks kn_X10 ⟨Nat.le_trans (by decide) hR1, Nat.le_trans (by decide) hR2⟩ ⟨Nat.zero_le _, Nat.zero_le _⟩ (Nat.le_of_ble_eq_true rfl) dX11_coupleAhead_126 (fun H locs w => ?_)
          refine lv_iload (pc := 129) hx hb dX11_coupleAhead_129 (lv_at hl 0 rfl) ?_
          exact s_iret F w h dX11_coupleAhead_131
        · have h := ite_t q h
          exact w_Yard_coupleAhead_j108 F (Nat.le_trans (by decide) hR1) (Nat.le_trans (by decide) hR2)  _ h _ _ _ w (lv_sub hl [5] rfl)
    · have h := ite_f q h
      refine lv_aload_n (pc := 56) hx hb dX11_coupleAhead_56 rfl (lv_at hl 3 rfl) ?_
      refine s_getR (pc := 57) F w 62 ds_61 (j := 0) vc_X11 vi_X11 rfl (by decide) kf_X11_10 dX11_coupleAhead_57 ?_
      refine lv_iload_n (pc := 60) hx hb dX11_coupleAhead_60 rfl (lv_at hl 0 rfl) ?_
      obtain ⟨r19, S18, hc, h⟩ := bnd_t h
      refine s_cvi (pc := 61) [.int r7] (fun ad => [.ref (ad 62), .int r7]) F w (m_Report_found _ _ _ _ hc) rfl rfl hl.1 ds_62 vc_X5 rfl ok_X5_found rfl kc_X5_found kl_X11_98 ki_X5_found kv_X5_found kn_X5 ⟨Nat.le_trans (by decide) hR1, Nat.le_trans (by decide) hR2⟩ ⟨Nat.zero_le _, Nat.zero_le _⟩ (Nat.le_of_ble_eq_true rfl) dX11_coupleAhead_61 (fun H locs w => ?_)
      exact s_iret F w h dX11_coupleAhead_64
  · have h := ite_f q h
    refine lv_aload_n (pc := 13) hx hb dX11_coupleAhead_13 rfl (lv_at hl 1 rfl) ?_
    refine s_getR (pc := 14) F w 62 ds_61 (j := 0) vc_X11 vi_X11 rfl (by decide) kf_X11_10 dX11_coupleAhead_14 ?_
    refine lv_iload_n (pc := 17) hx hb dX11_coupleAhead_17 rfl (lv_at hl 0 rfl) ?_
    obtain ⟨r21, S20, hc, h⟩ := bnd_t h
    refine s_cvi (pc := 18) [.int r2] (fun ad => [.ref (ad 62), .int r2]) F w (m_Report_found _ _ _ _ hc) rfl rfl hl.1 ds_62 vc_X5 rfl ok_X5_found rfl kc_X5_found kl_X11_98 ki_X5_found kv_X5_found kn_X5 ⟨Nat.le_trans (by decide) hR1, Nat.le_trans (by decide) hR2⟩ ⟨Nat.zero_le _, Nat.zero_le _⟩ (Nat.le_of_ble_eq_true rfl) dX11_coupleAhead_18 (fun H locs w => ?_)
    exact s_iret F w h dX11_coupleAhead_21
def f_Yard_couple (a1 : Int32) (a2 : Int32) (S : SS) : Option (Int32 × SS) :=
  bndv (f_Yard_beginAct  S) (fun S1 =>
  bnd (f_Yard_coupleAhead a1 a2 S1) (fun r3 S2 =>
  bnd (f_Yard_endAct (6 : Int32) r3 S2) (fun r5 S4 =>
  some (r5, S4))))
theorem dX11_couple_0 : decode cX11_couple 0 = .ok (.aload_n 0, 1) := dc_42 (by decide +kernel)
theorem dX11_couple_1 : decode cX11_couple 1 = .ok (.invokevirtual 199, 3) := dc_182 (a := 0) (b := 199) (by decide +kernel)
theorem dX11_couple_4 : decode cX11_couple 4 = .ok (.aload_n 0, 1) := dc_42 (by decide +kernel)
theorem dX11_couple_5 : decode cX11_couple 5 = .ok (.bipush 6, 2) := dc_16 (a := 6) (by decide +kernel) (by decide)
theorem dX11_couple_7 : decode cX11_couple 7 = .ok (.aload_n 0, 1) := dc_42 (by decide +kernel)
theorem dX11_couple_8 : decode cX11_couple 8 = .ok (.iload_n 1, 1) := dc_27 (by decide +kernel)
theorem dX11_couple_9 : decode cX11_couple 9 = .ok (.iload_n 2, 1) := dc_28 (by decide +kernel)
theorem dX11_couple_10 : decode cX11_couple 10 = .ok (.invokevirtual 220, 3) := dc_182 (a := 0) (b := 220) (by decide +kernel)
theorem dX11_couple_13 : decode cX11_couple 13 = .ok (.invokevirtual 205, 3) := dc_182 (a := 0) (b := 205) (by decide +kernel)
theorem dX11_couple_16 : decode cX11_couple 16 = .ok (.ireturn, 1) := dc_172 (by decide +kernel)
set_option maxRecDepth 100000 in
set_option maxHeartbeats 4000000 in
theorem m_Yard_couple (a1 : Int32) (a2 : Int32) (S S' : SS) (r : Int32) (h : f_Yard_couple a1 a2 S = some (r, S')) : MT yX11_couple cX11_couple 3 (some .int) 6 140 (fun ad => [.ref (ad 61), .int a1, .int a2]) S (some (.int r)) S' := by
  refine MT.of RX11 (fun ad => [(0, .ref (ad 61)), (1, .int a1), (2, .int a2)]) (by decide) rfl (fun _ => Nat.le_of_ble_eq_true rfl) (fun _ => rfl) ?_
  intro p l e R s m args below meth c dC dI cs ad A hR1 hR2 F H locs ls w hl
  have hx := F.1.1
  have hb := F.1.2.1
  rw [f_Yard_couple] at h
  refine lv_aload_n (pc := 0) hx hb dX11_couple_0 rfl (lv_at hl 0 rfl) ?_
  obtain ⟨S1, hc, h⟩ := bndv_t h
  refine s_cvv (pc := 1) [] (fun ad => [.ref (ad 61)]) F w (m_Yard_beginAct  _ _ hc) rfl rfl hl.1 ds_61 vc_X11 rfl ok_X11_beginAct rfl kc_X11_beginAct kl_X11_199 ki_X11_beginAct kv_X11_beginAct kn_X11 ⟨Nat.le_trans (by decide) hR1, Nat.le_trans (by decide) hR2⟩ ⟨Nat.zero_le _, Nat.zero_le _⟩ (Nat.le_of_ble_eq_true rfl) dX11_couple_1 (fun H locs w => ?_)
  refine lv_aload_n (pc := 4) hx hb dX11_couple_4 rfl (lv_at hl 0 rfl) ?_
  refine lv_bipush (pc := 5) (v := 6) hx hb dX11_couple_5 (by decide) ?_
  refine lv_aload_n (pc := 7) hx hb dX11_couple_7 rfl (lv_at hl 0 rfl) ?_
  refine lv_iload_n (pc := 8) hx hb dX11_couple_8 rfl (lv_at hl 1 rfl) ?_
  refine lv_iload_n (pc := 9) hx hb dX11_couple_9 rfl (lv_at hl 2 rfl) ?_
  obtain ⟨r3, S2, hc, h⟩ := bnd_t h
  refine s_cvi (pc := 10) [.int a1, .int a2] (fun ad => [.ref (ad 61), .int a1, .int a2]) F w (m_Yard_coupleAhead _ _ _ _ _ hc) rfl rfl hl.1 ds_61 vc_X11 rfl ok_X11_coupleAhead rfl kc_X11_coupleAhead kl_X11_220 ki_X11_coupleAhead kv_X11_coupleAhead kn_X11 ⟨Nat.le_trans (by decide) hR1, Nat.le_trans (by decide) hR2⟩ ⟨Nat.zero_le _, Nat.zero_le _⟩ (Nat.le_of_ble_eq_true rfl) dX11_couple_10 (fun H locs w => ?_)
  obtain ⟨r5, S4, hc, h⟩ := bnd_t h
  refine s_cvi (pc := 13) [.int (6 : Int32), .int r3] (fun ad => [.ref (ad 61), .int (6 : Int32), .int r3]) F w (m_Yard_endAct _ _ _ _ _ hc) rfl rfl hl.1 ds_61 vc_X11 rfl ok_X11_endAct rfl kc_X11_endAct kl_X11_205 ki_X11_endAct kv_X11_endAct kn_X11 ⟨Nat.le_trans (by decide) hR1, Nat.le_trans (by decide) hR2⟩ ⟨Nat.zero_le _, Nat.zero_le _⟩ (Nat.le_of_ble_eq_true rfl) dX11_couple_13 (fun H locs w => ?_)
  exact s_iret F w h dX11_couple_16
def f_Trains_cutHook (a1 : Int32) (S : SS) : Option (SS) :=
  bnd (f_Trains_onward a1 S) (fun r2 S1 =>
  nm (r2 ^^^ (1 : Int32)) (fun z3 =>
  bndv (f_State_set (a1 >>> ((1 : Int32) &&& 31)) ((2 : Int32) + (a1 &&& (1 : Int32))) (-4 : Int32) S1) (fun S4 =>
  bndv (f_State_set (z3 >>> ((1 : Int32) &&& 31)) ((2 : Int32) + (z3 &&& (1 : Int32))) (-4 : Int32) S4) (fun S5 =>
  bndv (f_Trains_renew (a1 >>> ((1 : Int32) &&& 31)) S5) (fun S6 =>
  bndv (f_Trains_renew (z3 >>> ((1 : Int32) &&& 31)) S6) (fun S7 =>
  some S7))))))
theorem dX10_cutHook_0 : decode cX10_cutHook 0 = .ok (.aload_n 0, 1) := dc_42 (by decide +kernel)
theorem dX10_cutHook_1 : decode cX10_cutHook 1 = .ok (.iload_n 1, 1) := dc_27 (by decide +kernel)
theorem dX10_cutHook_2 : decode cX10_cutHook 2 = .ok (.invokevirtual 40, 3) := dc_182 (a := 0) (b := 40) (by decide +kernel)
theorem dX10_cutHook_5 : decode cX10_cutHook 5 = .ok (.iconst 1, 1) := dc_4 (by decide +kernel)
theorem dX10_cutHook_6 : decode cX10_cutHook 6 = .ok (.ixor, 1) := dc_130 (by decide +kernel)
theorem dX10_cutHook_7 : decode cX10_cutHook 7 = .ok (.istore_n 2, 1) := dc_61 (by decide +kernel)
theorem dX10_cutHook_8 : decode cX10_cutHook 8 = .ok (.aload_n 0, 1) := dc_42 (by decide +kernel)
theorem dX10_cutHook_9 : decode cX10_cutHook 9 = .ok (.getfield 24, 3) := dc_180 (a := 0) (b := 24) (by decide +kernel)
theorem dX10_cutHook_12 : decode cX10_cutHook 12 = .ok (.iload_n 1, 1) := dc_27 (by decide +kernel)
theorem dX10_cutHook_13 : decode cX10_cutHook 13 = .ok (.iconst 1, 1) := dc_4 (by decide +kernel)
theorem dX10_cutHook_14 : decode cX10_cutHook 14 = .ok (.ishr, 1) := dc_122 (by decide +kernel)
theorem dX10_cutHook_15 : decode cX10_cutHook 15 = .ok (.iconst 2, 1) := dc_5 (by decide +kernel)
theorem dX10_cutHook_16 : decode cX10_cutHook 16 = .ok (.iload_n 1, 1) := dc_27 (by decide +kernel)
theorem dX10_cutHook_17 : decode cX10_cutHook 17 = .ok (.iconst 1, 1) := dc_4 (by decide +kernel)
theorem dX10_cutHook_18 : decode cX10_cutHook 18 = .ok (.iand, 1) := dc_126 (by decide +kernel)
theorem dX10_cutHook_19 : decode cX10_cutHook 19 = .ok (.iadd, 1) := dc_96 (by decide +kernel)
theorem dX10_cutHook_20 : decode cX10_cutHook 20 = .ok (.bipush (-4), 2) := dc_16 (a := 252) (by decide +kernel) (by decide)
theorem dX10_cutHook_22 : decode cX10_cutHook 22 = .ok (.invokevirtual 50, 3) := dc_182 (a := 0) (b := 50) (by decide +kernel)
theorem dX10_cutHook_25 : decode cX10_cutHook 25 = .ok (.aload_n 0, 1) := dc_42 (by decide +kernel)
theorem dX10_cutHook_26 : decode cX10_cutHook 26 = .ok (.getfield 24, 3) := dc_180 (a := 0) (b := 24) (by decide +kernel)
theorem dX10_cutHook_29 : decode cX10_cutHook 29 = .ok (.iload_n 2, 1) := dc_28 (by decide +kernel)
theorem dX10_cutHook_30 : decode cX10_cutHook 30 = .ok (.iconst 1, 1) := dc_4 (by decide +kernel)
theorem dX10_cutHook_31 : decode cX10_cutHook 31 = .ok (.ishr, 1) := dc_122 (by decide +kernel)
theorem dX10_cutHook_32 : decode cX10_cutHook 32 = .ok (.iconst 2, 1) := dc_5 (by decide +kernel)
theorem dX10_cutHook_33 : decode cX10_cutHook 33 = .ok (.iload_n 2, 1) := dc_28 (by decide +kernel)
theorem dX10_cutHook_34 : decode cX10_cutHook 34 = .ok (.iconst 1, 1) := dc_4 (by decide +kernel)
theorem dX10_cutHook_35 : decode cX10_cutHook 35 = .ok (.iand, 1) := dc_126 (by decide +kernel)
theorem dX10_cutHook_36 : decode cX10_cutHook 36 = .ok (.iadd, 1) := dc_96 (by decide +kernel)
theorem dX10_cutHook_37 : decode cX10_cutHook 37 = .ok (.bipush (-4), 2) := dc_16 (a := 252) (by decide +kernel) (by decide)
theorem dX10_cutHook_39 : decode cX10_cutHook 39 = .ok (.invokevirtual 50, 3) := dc_182 (a := 0) (b := 50) (by decide +kernel)
theorem dX10_cutHook_42 : decode cX10_cutHook 42 = .ok (.aload_n 0, 1) := dc_42 (by decide +kernel)
theorem dX10_cutHook_43 : decode cX10_cutHook 43 = .ok (.iload_n 1, 1) := dc_27 (by decide +kernel)
theorem dX10_cutHook_44 : decode cX10_cutHook 44 = .ok (.iconst 1, 1) := dc_4 (by decide +kernel)
theorem dX10_cutHook_45 : decode cX10_cutHook 45 = .ok (.ishr, 1) := dc_122 (by decide +kernel)
theorem dX10_cutHook_46 : decode cX10_cutHook 46 = .ok (.invokevirtual 83, 3) := dc_182 (a := 0) (b := 83) (by decide +kernel)
theorem dX10_cutHook_49 : decode cX10_cutHook 49 = .ok (.aload_n 0, 1) := dc_42 (by decide +kernel)
theorem dX10_cutHook_50 : decode cX10_cutHook 50 = .ok (.iload_n 2, 1) := dc_28 (by decide +kernel)
theorem dX10_cutHook_51 : decode cX10_cutHook 51 = .ok (.iconst 1, 1) := dc_4 (by decide +kernel)
theorem dX10_cutHook_52 : decode cX10_cutHook 52 = .ok (.ishr, 1) := dc_122 (by decide +kernel)
theorem dX10_cutHook_53 : decode cX10_cutHook 53 = .ok (.invokevirtual 83, 3) := dc_182 (a := 0) (b := 83) (by decide +kernel)
theorem dX10_cutHook_56 : decode cX10_cutHook 56 = .ok (.return_, 1) := dc_177 (by decide +kernel)
set_option maxRecDepth 100000 in
set_option maxHeartbeats 4000000 in
theorem m_Trains_cutHook (a1 : Int32) (S S' : SS) (h : f_Trains_cutHook a1 S = some S') : MT yX10_cutHook cX10_cutHook 3 none 4 88 (fun ad => [.ref (ad 68), .int a1]) S none S' := by
  refine MT.of RX10 (fun ad => [(0, .ref (ad 68)), (1, .int a1)]) (by decide) rfl (fun _ => Nat.le_of_ble_eq_true rfl) (fun _ => rfl) ?_
  intro p l e R s m args below meth c dC dI cs ad A hR1 hR2 F H locs ls w hl
  have hx := F.1.1
  have hb := F.1.2.1
  rw [f_Trains_cutHook] at h
  refine lv_aload_n (pc := 0) hx hb dX10_cutHook_0 rfl (lv_at hl 0 rfl) ?_
  refine lv_iload_n (pc := 1) hx hb dX10_cutHook_1 rfl (lv_at hl 1 rfl) ?_
  obtain ⟨r2, S1, hc, h⟩ := bnd_t h
  refine s_cvi (pc := 2) [.int a1] (fun ad => [.ref (ad 68), .int a1]) F w (m_Trains_onward _ _ _ _ hc) rfl rfl hl.1 ds_68 vc_X10 rfl ok_X10_onward rfl kc_X10_onward kl_X10_40 ki_X10_onward kv_X10_onward kn_X10 ⟨Nat.le_trans (by decide) hR1, Nat.le_trans (by decide) hR2⟩ ⟨Nat.zero_le _, Nat.zero_le _⟩ (Nat.le_of_ble_eq_true rfl) dX10_cutHook_2 (fun H locs w => ?_)
  refine lv_iconst (pc := 5) (v := 1) hx hb dX10_cutHook_5 (by decide) ?_
  refine lv_ixor (pc := 6) hx hb dX10_cutHook_6 ?_
  refine s_nm h (fun z3 ez3 h => ?_)
  rw [← ez3]
  refine lv_istore_n (pc := 7) (lv' := [(2, .int z3), (0, .ref (ad 68)), (1, .int a1)]) hx hb dX10_cutHook_7 rfl hl (by decide) rfl (fun ls hl => ?_)
  refine lv_aload_n (pc := 8) hx hb dX10_cutHook_8 rfl (lv_at hl 1 rfl) ?_
  refine s_getR (pc := 9) F w 63 ds_68 (j := 0) vc_X10 vi_X10 rfl (by decide) kf_X10_24 dX10_cutHook_9 ?_
  refine lv_iload_n (pc := 12) hx hb dX10_cutHook_12 rfl (lv_at hl 2 rfl) ?_
  refine lv_iconst (pc := 13) (v := 1) hx hb dX10_cutHook_13 (by decide) ?_
  refine lv_ishr (pc := 14) hx hb dX10_cutHook_14 ?_
  refine lv_iconst (pc := 15) (v := 2) hx hb dX10_cutHook_15 (by decide) ?_
  refine lv_iload_n (pc := 16) hx hb dX10_cutHook_16 rfl (lv_at hl 2 rfl) ?_
  refine lv_iconst (pc := 17) (v := 1) hx hb dX10_cutHook_17 (by decide) ?_
  refine lv_iand (pc := 18) hx hb dX10_cutHook_18 ?_
  refine lv_iadd (pc := 19) hx hb dX10_cutHook_19 ?_
  refine lv_bipush (pc := 20) (v := -4) hx hb dX10_cutHook_20 (by decide) ?_
  obtain ⟨S4, hc, h⟩ := bndv_t h
  refine s_cvv (pc := 22) [.int (a1 >>> ((1 : Int32) &&& 31)), .int ((2 : Int32) + (a1 &&& (1 : Int32))), .int (-4 : Int32)] (fun ad => [.ref (ad 63), .int (a1 >>> ((1 : Int32) &&& 31)), .int ((2 : Int32) + (a1 &&& (1 : Int32))), .int (-4 : Int32)]) F w (m_State_set _ _ _ _ _ hc) rfl rfl hl.1 ds_63 vc_X8 rfl ok_X8_set rfl kc_X8_set kl_X10_50 ki_X8_set kv_X8_set kn_X8 ⟨Nat.le_trans (by decide) hR1, Nat.le_trans (by decide) hR2⟩ ⟨Nat.zero_le _, Nat.zero_le _⟩ (Nat.le_of_ble_eq_true rfl) dX10_cutHook_22 (fun H locs w => ?_)
  refine lv_aload_n (pc := 25) hx hb dX10_cutHook_25 rfl (lv_at hl 1 rfl) ?_
  refine s_getR (pc := 26) F w 63 ds_68 (j := 0) vc_X10 vi_X10 rfl (by decide) kf_X10_24 dX10_cutHook_26 ?_
  refine lv_iload_n (pc := 29) hx hb dX10_cutHook_29 rfl (lv_at hl 0 rfl) ?_
  refine lv_iconst (pc := 30) (v := 1) hx hb dX10_cutHook_30 (by decide) ?_
  refine lv_ishr (pc := 31) hx hb dX10_cutHook_31 ?_
  refine lv_iconst (pc := 32) (v := 2) hx hb dX10_cutHook_32 (by decide) ?_
  refine lv_iload_n (pc := 33) hx hb dX10_cutHook_33 rfl (lv_at hl 0 rfl) ?_
  refine lv_iconst (pc := 34) (v := 1) hx hb dX10_cutHook_34 (by decide) ?_
  refine lv_iand (pc := 35) hx hb dX10_cutHook_35 ?_
  refine lv_iadd (pc := 36) hx hb dX10_cutHook_36 ?_
  refine lv_bipush (pc := 37) (v := -4) hx hb dX10_cutHook_37 (by decide) ?_
  obtain ⟨S5, hc, h⟩ := bndv_t h
  refine s_cvv (pc := 39) [.int (z3 >>> ((1 : Int32) &&& 31)), .int ((2 : Int32) + (z3 &&& (1 : Int32))), .int (-4 : Int32)] (fun ad => [.ref (ad 63), .int (z3 >>> ((1 : Int32) &&& 31)), .int ((2 : Int32) + (z3 &&& (1 : Int32))), .int (-4 : Int32)]) F w (m_State_set _ _ _ _ _ hc) rfl rfl hl.1 ds_63 vc_X8 rfl ok_X8_set rfl kc_X8_set kl_X10_50 ki_X8_set kv_X8_set kn_X8 ⟨Nat.le_trans (by decide) hR1, Nat.le_trans (by decide) hR2⟩ ⟨Nat.zero_le _, Nat.zero_le _⟩ (Nat.le_of_ble_eq_true rfl) dX10_cutHook_39 (fun H locs w => ?_)
  refine lv_aload_n (pc := 42) hx hb dX10_cutHook_42 rfl (lv_at hl 1 rfl) ?_
  refine lv_iload_n (pc := 43) hx hb dX10_cutHook_43 rfl (lv_at hl 2 rfl) ?_
  refine lv_iconst (pc := 44) (v := 1) hx hb dX10_cutHook_44 (by decide) ?_
  refine lv_ishr (pc := 45) hx hb dX10_cutHook_45 ?_
  obtain ⟨S6, hc, h⟩ := bndv_t h
  refine s_cvv (pc := 46) [.int (a1 >>> ((1 : Int32) &&& 31))] (fun ad => [.ref (ad 68), .int (a1 >>> ((1 : Int32) &&& 31))]) F w (m_Trains_renew _ _ _ hc) rfl rfl hl.1 ds_68 vc_X10 rfl ok_X10_renew rfl kc_X10_renew kl_X10_83 ki_X10_renew kv_X10_renew kn_X10 ⟨Nat.le_trans (by decide) hR1, Nat.le_trans (by decide) hR2⟩ ⟨Nat.zero_le _, Nat.zero_le _⟩ (Nat.le_of_ble_eq_true rfl) dX10_cutHook_46 (fun H locs w => ?_)
  refine lv_aload_n (pc := 49) hx hb dX10_cutHook_49 rfl (lv_at hl 1 rfl) ?_
  refine lv_iload_n (pc := 50) hx hb dX10_cutHook_50 rfl (lv_at hl 0 rfl) ?_
  refine lv_iconst (pc := 51) (v := 1) hx hb dX10_cutHook_51 (by decide) ?_
  refine lv_ishr (pc := 52) hx hb dX10_cutHook_52 ?_
  obtain ⟨S7, hc, h⟩ := bndv_t h
  refine s_cvv (pc := 53) [.int (z3 >>> ((1 : Int32) &&& 31))] (fun ad => [.ref (ad 68), .int (z3 >>> ((1 : Int32) &&& 31))]) F w (m_Trains_renew _ _ _ hc) rfl rfl hl.1 ds_68 vc_X10 rfl ok_X10_renew rfl kc_X10_renew kl_X10_83 ki_X10_renew kv_X10_renew kn_X10 ⟨Nat.le_trans (by decide) hR1, Nat.le_trans (by decide) hR2⟩ ⟨Nat.zero_le _, Nat.zero_le _⟩ (Nat.le_of_ble_eq_true rfl) dX10_cutHook_53 (fun H locs w => ?_)
  exact s_vret F w h dX10_cutHook_56
def f_Yard_partFrom (a1 : Int32) (a2 : Int32) (S : SS) : Option (Int32 × SS) :=
  bnd (f_Yard_namedSide a1 (127 : Int32) a2 S) (fun r2 S1 =>
  if r2 = 0 then
    bnd (f_State_get a1 ((2 : Int32) + a2) S1) (fun r4 S3 =>
    if r4 = (-4 : Int32) then
      bnd (f_Report_found (1 : Int32) S3) (fun r7 S6 =>
      some (r7, S6))
    else
      bndv (f_Trains_cutHook (((2 : Int32) * a1) + a2) S3) (fun S5 =>
      some (r4, S5)))
  else
    bnd (f_Report_found r2 S1) (fun r9 S8 =>
    some (r9, S8)))
theorem dX11_partFrom_0 : decode cX11_partFrom 0 = .ok (.aload_n 0, 1) := dc_42 (by decide +kernel)
theorem dX11_partFrom_1 : decode cX11_partFrom 1 = .ok (.iload_n 1, 1) := dc_27 (by decide +kernel)
theorem dX11_partFrom_2 : decode cX11_partFrom 2 = .ok (.bipush 127, 2) := dc_16 (a := 127) (by decide +kernel) (by decide)
theorem dX11_partFrom_4 : decode cX11_partFrom 4 = .ok (.iload_n 2, 1) := dc_28 (by decide +kernel)
theorem dX11_partFrom_5 : decode cX11_partFrom 5 = .ok (.invokevirtual 259, 3) := dc_182 (a := 1) (b := 3) (by decide +kernel)
theorem dX11_partFrom_8 : decode cX11_partFrom 8 = .ok (.istore_n 3, 1) := dc_62 (by decide +kernel)
theorem dX11_partFrom_9 : decode cX11_partFrom 9 = .ok (.iload_n 3, 1) := dc_29 (by decide +kernel)
theorem dX11_partFrom_10 : decode cX11_partFrom 10 = .ok (.ifCond .eq 12, 3) := dc_153 (a := 0) (b := 12) (by decide +kernel) (by decide)
theorem dX11_partFrom_13 : decode cX11_partFrom 13 = .ok (.aload_n 0, 1) := dc_42 (by decide +kernel)
theorem dX11_partFrom_14 : decode cX11_partFrom 14 = .ok (.getfield 10, 3) := dc_180 (a := 0) (b := 10) (by decide +kernel)
theorem dX11_partFrom_17 : decode cX11_partFrom 17 = .ok (.iload_n 3, 1) := dc_29 (by decide +kernel)
theorem dX11_partFrom_18 : decode cX11_partFrom 18 = .ok (.invokevirtual 98, 3) := dc_182 (a := 0) (b := 98) (by decide +kernel)
theorem dX11_partFrom_21 : decode cX11_partFrom 21 = .ok (.ireturn, 1) := dc_172 (by decide +kernel)
theorem dX11_partFrom_22 : decode cX11_partFrom 22 = .ok (.aload_n 0, 1) := dc_42 (by decide +kernel)
theorem dX11_partFrom_23 : decode cX11_partFrom 23 = .ok (.getfield 19, 3) := dc_180 (a := 0) (b := 19) (by decide +kernel)
theorem dX11_partFrom_26 : decode cX11_partFrom 26 = .ok (.iload_n 1, 1) := dc_27 (by decide +kernel)
theorem dX11_partFrom_27 : decode cX11_partFrom 27 = .ok (.iconst 2, 1) := dc_5 (by decide +kernel)
theorem dX11_partFrom_28 : decode cX11_partFrom 28 = .ok (.iload_n 2, 1) := dc_28 (by decide +kernel)
theorem dX11_partFrom_29 : decode cX11_partFrom 29 = .ok (.iadd, 1) := dc_96 (by decide +kernel)
theorem dX11_partFrom_30 : decode cX11_partFrom 30 = .ok (.invokevirtual 253, 3) := dc_182 (a := 0) (b := 253) (by decide +kernel)
theorem dX11_partFrom_33 : decode cX11_partFrom 33 = .ok (.istore 4, 2) := dc_54 (a := 4) (by decide +kernel)
theorem dX11_partFrom_35 : decode cX11_partFrom 35 = .ok (.iload 4, 2) := dc_21 (a := 4) (by decide +kernel)
theorem dX11_partFrom_37 : decode cX11_partFrom 37 = .ok (.bipush (-4), 2) := dc_16 (a := 252) (by decide +kernel) (by decide)
theorem dX11_partFrom_39 : decode cX11_partFrom 39 = .ok (.if_icmp .ne 12, 3) := dc_160 (a := 0) (b := 12) (by decide +kernel) (by decide)
theorem dX11_partFrom_42 : decode cX11_partFrom 42 = .ok (.aload_n 0, 1) := dc_42 (by decide +kernel)
theorem dX11_partFrom_43 : decode cX11_partFrom 43 = .ok (.getfield 10, 3) := dc_180 (a := 0) (b := 10) (by decide +kernel)
theorem dX11_partFrom_46 : decode cX11_partFrom 46 = .ok (.iconst 1, 1) := dc_4 (by decide +kernel)
theorem dX11_partFrom_47 : decode cX11_partFrom 47 = .ok (.invokevirtual 98, 3) := dc_182 (a := 0) (b := 98) (by decide +kernel)
theorem dX11_partFrom_50 : decode cX11_partFrom 50 = .ok (.ireturn, 1) := dc_172 (by decide +kernel)
theorem dX11_partFrom_51 : decode cX11_partFrom 51 = .ok (.aload_n 0, 1) := dc_42 (by decide +kernel)
theorem dX11_partFrom_52 : decode cX11_partFrom 52 = .ok (.getfield 58, 3) := dc_180 (a := 0) (b := 58) (by decide +kernel)
theorem dX11_partFrom_55 : decode cX11_partFrom 55 = .ok (.iconst 2, 1) := dc_5 (by decide +kernel)
theorem dX11_partFrom_56 : decode cX11_partFrom 56 = .ok (.iload_n 1, 1) := dc_27 (by decide +kernel)
theorem dX11_partFrom_57 : decode cX11_partFrom 57 = .ok (.imul, 1) := dc_104 (by decide +kernel)
theorem dX11_partFrom_58 : decode cX11_partFrom 58 = .ok (.iload_n 2, 1) := dc_28 (by decide +kernel)
theorem dX11_partFrom_59 : decode cX11_partFrom 59 = .ok (.iadd, 1) := dc_96 (by decide +kernel)
theorem dX11_partFrom_60 : decode cX11_partFrom 60 = .ok (.invokevirtual 277, 3) := dc_182 (a := 1) (b := 21) (by decide +kernel)
theorem dX11_partFrom_63 : decode cX11_partFrom 63 = .ok (.iload 4, 2) := dc_21 (a := 4) (by decide +kernel)
theorem dX11_partFrom_65 : decode cX11_partFrom 65 = .ok (.ireturn, 1) := dc_172 (by decide +kernel)
set_option maxRecDepth 100000 in
set_option maxHeartbeats 4000000 in
theorem m_Yard_partFrom (a1 : Int32) (a2 : Int32) (S S' : SS) (r : Int32) (h : f_Yard_partFrom a1 a2 S = some (r, S')) : MT yX11_partFrom cX11_partFrom 5 (some .int) 5 110 (fun ad => [.ref (ad 61), .int a1, .int a2]) S (some (.int r)) S' := by
  refine MT.of RX11 (fun ad => [(0, .ref (ad 61)), (1, .int a1), (2, .int a2)]) (by decide) rfl (fun _ => Nat.le_of_ble_eq_true rfl) (fun _ => rfl) ?_
  intro p l e R s m args below meth c dC dI cs ad A hR1 hR2 F H locs ls w hl
  have hx := F.1.1
  have hb := F.1.2.1
  rw [f_Yard_partFrom] at h
  refine lv_aload_n (pc := 0) hx hb dX11_partFrom_0 rfl (lv_at hl 0 rfl) ?_
  refine lv_iload_n (pc := 1) hx hb dX11_partFrom_1 rfl (lv_at hl 1 rfl) ?_
  refine lv_bipush (pc := 2) (v := 127) hx hb dX11_partFrom_2 (by decide) ?_
  refine lv_iload_n (pc := 4) hx hb dX11_partFrom_4 rfl (lv_at hl 2 rfl) ?_
  obtain ⟨r2, S1, hc, h⟩ := bnd_t h
  refine s_cvi (pc := 5) [.int a1, .int (127 : Int32), .int a2] (fun ad => [.ref (ad 61), .int a1, .int (127 : Int32), .int a2]) F w (m_Yard_namedSide _ _ _ _ _ _ hc) rfl rfl hl.1 ds_61 vc_X11 rfl ok_X11_namedSide rfl kc_X11_namedSide kl_X11_259 ki_X11_namedSide kv_X11_namedSide kn_X11 ⟨Nat.le_trans (by decide) hR1, Nat.le_trans (by decide) hR2⟩ ⟨Nat.zero_le _, Nat.zero_le _⟩ (Nat.le_of_ble_eq_true rfl) dX11_partFrom_5 (fun H locs w => ?_)
  refine lv_istore_n (pc := 8) (lv' := [(3, .int r2), (0, .ref (ad 61)), (1, .int a1), (2, .int a2)]) hx hb dX11_partFrom_8 rfl hl (by decide) rfl (fun ls hl => ?_)
  refine lv_iload_n (pc := 9) hx hb dX11_partFrom_9 rfl (lv_at hl 0 rfl) ?_
  refine lv_if_eq (pc := 10) (tgt := 22) hx hb dX11_partFrom_10 (by decide) (fun q => ?_) (fun q => ?_)
  · have h := ite_t q h
    refine lv_aload_n (pc := 22) hx hb dX11_partFrom_22 rfl (lv_at hl 1 rfl) ?_
    refine s_getR (pc := 23) F w 63 ds_61 (j := 1) vc_X11 vi_X11 rfl (by decide) kf_X11_19 dX11_partFrom_23 ?_
    refine lv_iload_n (pc := 26) hx hb dX11_partFrom_26 rfl (lv_at hl 2 rfl) ?_
    refine lv_iconst (pc := 27) (v := 2) hx hb dX11_partFrom_27 (by decide) ?_
    refine lv_iload_n (pc := 28) hx hb dX11_partFrom_28 rfl (lv_at hl 3 rfl) ?_
    refine lv_iadd (pc := 29) hx hb dX11_partFrom_29 ?_
    obtain ⟨r4, S3, hc, h⟩ := bnd_t h
    refine s_cvi (pc := 30) [.int a1, .int ((2 : Int32) + a2)] (fun ad => [.ref (ad 63), .int a1, .int ((2 : Int32) + a2)]) F w (m_State_get _ _ _ _ _ hc) rfl rfl hl.1 ds_63 vc_X8 rfl ok_X8_get rfl kc_X8_get kl_X11_253 ki_X8_get kv_X8_get kn_X8 ⟨Nat.le_trans (by decide) hR1, Nat.le_trans (by decide) hR2⟩ ⟨Nat.zero_le _, Nat.zero_le _⟩ (Nat.le_of_ble_eq_true rfl) dX11_partFrom_30 (fun H locs w => ?_)
    refine lv_istore (pc := 33) (lv' := [(4, .int r4), (3, .int r2), (0, .ref (ad 61)), (1, .int a1), (2, .int a2)]) hx hb dX11_partFrom_33 hl (by decide) rfl (fun ls hl => ?_)
    refine lv_iload (pc := 35) hx hb dX11_partFrom_35 (lv_at hl 0 rfl) ?_
    refine lv_bipush (pc := 37) (v := -4) hx hb dX11_partFrom_37 (by decide) ?_
    refine lv_icmp_ne (pc := 39) (tgt := 51) hx hb dX11_partFrom_39 (by decide) (fun q => ?_) (fun q => ?_)
    · have h := ite_f q h
      refine lv_aload_n (pc := 51) hx hb dX11_partFrom_51 rfl (lv_at hl 2 rfl) ?_
      refine s_getR (pc := 52) F w 68 ds_61 (j := 6) vc_X11 vi_X11 rfl (by decide) kf_X11_58 dX11_partFrom_52 ?_
      refine lv_iconst (pc := 55) (v := 2) hx hb dX11_partFrom_55 (by decide) ?_
      refine lv_iload_n (pc := 56) hx hb dX11_partFrom_56 rfl (lv_at hl 3 rfl) ?_
      refine lv_imul (pc := 57) hx hb dX11_partFrom_57 ?_
      refine lv_iload_n (pc := 58) hx hb dX11_partFrom_58 rfl (lv_at hl 4 rfl) ?_
      refine lv_iadd (pc := 59) hx hb dX11_partFrom_59 ?_
      obtain ⟨S5, hc, h⟩ := bndv_t h
      refine s_cvv (pc := 60) [.int (((2 : Int32) * a1) + a2)] (fun ad => [.ref (ad 68), .int (((2 : Int32) * a1) + a2)]) F w (m_Trains_cutHook _ _ _ hc) rfl rfl hl.1 ds_68 vc_X10 rfl ok_X10_cutHook rfl kc_X10_cutHook kl_X11_277 ki_X10_cutHook kv_X10_cutHook kn_X10 ⟨Nat.le_trans (by decide) hR1, Nat.le_trans (by decide) hR2⟩ ⟨Nat.zero_le _, Nat.zero_le _⟩ (Nat.le_of_ble_eq_true rfl) dX11_partFrom_60 (fun H locs w => ?_)
      refine lv_iload (pc := 63) hx hb dX11_partFrom_63 (lv_at hl 0 rfl) ?_
      exact s_iret F w h dX11_partFrom_65
    · have h := ite_t q h
      refine lv_aload_n (pc := 42) hx hb dX11_partFrom_42 rfl (lv_at hl 2 rfl) ?_
      refine s_getR (pc := 43) F w 62 ds_61 (j := 0) vc_X11 vi_X11 rfl (by decide) kf_X11_10 dX11_partFrom_43 ?_
      refine lv_iconst (pc := 46) (v := 1) hx hb dX11_partFrom_46 (by decide) ?_
      obtain ⟨r7, S6, hc, h⟩ := bnd_t h
      refine s_cvi (pc := 47) [.int (1 : Int32)] (fun ad => [.ref (ad 62), .int (1 : Int32)]) F w (m_Report_found _ _ _ _ hc) rfl rfl hl.1 ds_62 vc_X5 rfl ok_X5_found rfl kc_X5_found kl_X11_98 ki_X5_found kv_X5_found kn_X5 ⟨Nat.le_trans (by decide) hR1, Nat.le_trans (by decide) hR2⟩ ⟨Nat.zero_le _, Nat.zero_le _⟩ (Nat.le_of_ble_eq_true rfl) dX11_partFrom_47 (fun H locs w => ?_)
      exact s_iret F w h dX11_partFrom_50
  · have h := ite_f q h
    refine lv_aload_n (pc := 13) hx hb dX11_partFrom_13 rfl (lv_at hl 1 rfl) ?_
    refine s_getR (pc := 14) F w 62 ds_61 (j := 0) vc_X11 vi_X11 rfl (by decide) kf_X11_10 dX11_partFrom_14 ?_
    refine lv_iload_n (pc := 17) hx hb dX11_partFrom_17 rfl (lv_at hl 0 rfl) ?_
    obtain ⟨r9, S8, hc, h⟩ := bnd_t h
    refine s_cvi (pc := 18) [.int r2] (fun ad => [.ref (ad 62), .int r2]) F w (m_Report_found _ _ _ _ hc) rfl rfl hl.1 ds_62 vc_X5 rfl ok_X5_found rfl kc_X5_found kl_X11_98 ki_X5_found kv_X5_found kn_X5 ⟨Nat.le_trans (by decide) hR1, Nat.le_trans (by decide) hR2⟩ ⟨Nat.zero_le _, Nat.zero_le _⟩ (Nat.le_of_ble_eq_true rfl) dX11_partFrom_18 (fun H locs w => ?_)
    exact s_iret F w h dX11_partFrom_21
def f_Yard_part (a1 : Int32) (a2 : Int32) (S : SS) : Option (Int32 × SS) :=
  bndv (f_Yard_beginAct  S) (fun S1 =>
  bnd (f_Yard_partFrom a1 a2 S1) (fun r3 S2 =>
  bnd (f_Yard_endAct (7 : Int32) r3 S2) (fun r5 S4 =>
  some (r5, S4))))
theorem dX11_part_0 : decode cX11_part 0 = .ok (.aload_n 0, 1) := dc_42 (by decide +kernel)
theorem dX11_part_1 : decode cX11_part 1 = .ok (.invokevirtual 199, 3) := dc_182 (a := 0) (b := 199) (by decide +kernel)
theorem dX11_part_4 : decode cX11_part 4 = .ok (.aload_n 0, 1) := dc_42 (by decide +kernel)
theorem dX11_part_5 : decode cX11_part 5 = .ok (.bipush 7, 2) := dc_16 (a := 7) (by decide +kernel) (by decide)
theorem dX11_part_7 : decode cX11_part 7 = .ok (.aload_n 0, 1) := dc_42 (by decide +kernel)
theorem dX11_part_8 : decode cX11_part 8 = .ok (.iload_n 1, 1) := dc_27 (by decide +kernel)
theorem dX11_part_9 : decode cX11_part 9 = .ok (.iload_n 2, 1) := dc_28 (by decide +kernel)
theorem dX11_part_10 : decode cX11_part 10 = .ok (.invokevirtual 223, 3) := dc_182 (a := 0) (b := 223) (by decide +kernel)
theorem dX11_part_13 : decode cX11_part 13 = .ok (.invokevirtual 205, 3) := dc_182 (a := 0) (b := 205) (by decide +kernel)
theorem dX11_part_16 : decode cX11_part 16 = .ok (.ireturn, 1) := dc_172 (by decide +kernel)
set_option maxRecDepth 100000 in
set_option maxHeartbeats 4000000 in
theorem m_Yard_part (a1 : Int32) (a2 : Int32) (S S' : SS) (r : Int32) (h : f_Yard_part a1 a2 S = some (r, S')) : MT yX11_part cX11_part 3 (some .int) 6 134 (fun ad => [.ref (ad 61), .int a1, .int a2]) S (some (.int r)) S' := by
  refine MT.of RX11 (fun ad => [(0, .ref (ad 61)), (1, .int a1), (2, .int a2)]) (by decide) rfl (fun _ => Nat.le_of_ble_eq_true rfl) (fun _ => rfl) ?_
  intro p l e R s m args below meth c dC dI cs ad A hR1 hR2 F H locs ls w hl
  have hx := F.1.1
  have hb := F.1.2.1
  rw [f_Yard_part] at h
  refine lv_aload_n (pc := 0) hx hb dX11_part_0 rfl (lv_at hl 0 rfl) ?_
  obtain ⟨S1, hc, h⟩ := bndv_t h
  refine s_cvv (pc := 1) [] (fun ad => [.ref (ad 61)]) F w (m_Yard_beginAct  _ _ hc) rfl rfl hl.1 ds_61 vc_X11 rfl ok_X11_beginAct rfl kc_X11_beginAct kl_X11_199 ki_X11_beginAct kv_X11_beginAct kn_X11 ⟨Nat.le_trans (by decide) hR1, Nat.le_trans (by decide) hR2⟩ ⟨Nat.zero_le _, Nat.zero_le _⟩ (Nat.le_of_ble_eq_true rfl) dX11_part_1 (fun H locs w => ?_)
  refine lv_aload_n (pc := 4) hx hb dX11_part_4 rfl (lv_at hl 0 rfl) ?_
  refine lv_bipush (pc := 5) (v := 7) hx hb dX11_part_5 (by decide) ?_
  refine lv_aload_n (pc := 7) hx hb dX11_part_7 rfl (lv_at hl 0 rfl) ?_
  refine lv_iload_n (pc := 8) hx hb dX11_part_8 rfl (lv_at hl 1 rfl) ?_
  refine lv_iload_n (pc := 9) hx hb dX11_part_9 rfl (lv_at hl 2 rfl) ?_
  obtain ⟨r3, S2, hc, h⟩ := bnd_t h
  refine s_cvi (pc := 10) [.int a1, .int a2] (fun ad => [.ref (ad 61), .int a1, .int a2]) F w (m_Yard_partFrom _ _ _ _ _ hc) rfl rfl hl.1 ds_61 vc_X11 rfl ok_X11_partFrom rfl kc_X11_partFrom kl_X11_223 ki_X11_partFrom kv_X11_partFrom kn_X11 ⟨Nat.le_trans (by decide) hR1, Nat.le_trans (by decide) hR2⟩ ⟨Nat.zero_le _, Nat.zero_le _⟩ (Nat.le_of_ble_eq_true rfl) dX11_part_10 (fun H locs w => ?_)
  obtain ⟨r5, S4, hc, h⟩ := bnd_t h
  refine s_cvi (pc := 13) [.int (7 : Int32), .int r3] (fun ad => [.ref (ad 61), .int (7 : Int32), .int r3]) F w (m_Yard_endAct _ _ _ _ _ hc) rfl rfl hl.1 ds_61 vc_X11 rfl ok_X11_endAct rfl kc_X11_endAct kl_X11_205 ki_X11_endAct kv_X11_endAct kn_X11 ⟨Nat.le_trans (by decide) hR1, Nat.le_trans (by decide) hR2⟩ ⟨Nat.zero_le _, Nat.zero_le _⟩ (Nat.le_of_ble_eq_true rfl) dX11_part_13 (fun H locs w => ?_)
  exact s_iret F w h dX11_part_16
def f_Bodies_flatWeight (a1 : Int32) (S : SS) : Option (Int32 × SS) :=
  bndv (f_Report_beginBody (1 : Int32) S) (fun S1 =>
  bnd (f_Stock_get a1 (2 : Int32) S1) (fun r3 S2 =>
  bnd (f_Stock_get a1 (5 : Int32) S2) (fun r5 S4 =>
  some (r3 + r5, S4))))
theorem dX0_flatWeight_0 : decode cX0_flatWeight 0 = .ok (.aload_n 0, 1) := dc_42 (by decide +kernel)
theorem dX0_flatWeight_1 : decode cX0_flatWeight 1 = .ok (.getfield 23, 3) := dc_180 (a := 0) (b := 23) (by decide +kernel)
theorem dX0_flatWeight_4 : decode cX0_flatWeight 4 = .ok (.iconst 1, 1) := dc_4 (by decide +kernel)
theorem dX0_flatWeight_5 : decode cX0_flatWeight 5 = .ok (.invokevirtual 40, 3) := dc_182 (a := 0) (b := 40) (by decide +kernel)
theorem dX0_flatWeight_8 : decode cX0_flatWeight 8 = .ok (.aload_n 0, 1) := dc_42 (by decide +kernel)
theorem dX0_flatWeight_9 : decode cX0_flatWeight 9 = .ok (.getfield 19, 3) := dc_180 (a := 0) (b := 19) (by decide +kernel)
theorem dX0_flatWeight_12 : decode cX0_flatWeight 12 = .ok (.iload_n 1, 1) := dc_27 (by decide +kernel)
theorem dX0_flatWeight_13 : decode cX0_flatWeight 13 = .ok (.iconst 2, 1) := dc_5 (by decide +kernel)
theorem dX0_flatWeight_14 : decode cX0_flatWeight 14 = .ok (.invokevirtual 29, 3) := dc_182 (a := 0) (b := 29) (by decide +kernel)
theorem dX0_flatWeight_17 : decode cX0_flatWeight 17 = .ok (.aload_n 0, 1) := dc_42 (by decide +kernel)
theorem dX0_flatWeight_18 : decode cX0_flatWeight 18 = .ok (.getfield 19, 3) := dc_180 (a := 0) (b := 19) (by decide +kernel)
theorem dX0_flatWeight_21 : decode cX0_flatWeight 21 = .ok (.iload_n 1, 1) := dc_27 (by decide +kernel)
theorem dX0_flatWeight_22 : decode cX0_flatWeight 22 = .ok (.iconst 5, 1) := dc_8 (by decide +kernel)
theorem dX0_flatWeight_23 : decode cX0_flatWeight 23 = .ok (.invokevirtual 29, 3) := dc_182 (a := 0) (b := 29) (by decide +kernel)
theorem dX0_flatWeight_26 : decode cX0_flatWeight 26 = .ok (.iadd, 1) := dc_96 (by decide +kernel)
theorem dX0_flatWeight_27 : decode cX0_flatWeight 27 = .ok (.ireturn, 1) := dc_172 (by decide +kernel)
set_option maxRecDepth 100000 in
set_option maxHeartbeats 4000000 in
theorem m_Bodies_flatWeight (a1 : Int32) (S S' : SS) (r : Int32) (h : f_Bodies_flatWeight a1 S = some (r, S')) : MT yX0_flatWeight cX0_flatWeight 2 (some .int) 1 22 (fun ad => [.ref (ad 69), .int a1]) S (some (.int r)) S' := by
  refine MT.of RX0 (fun ad => [(0, .ref (ad 69)), (1, .int a1)]) (by decide) rfl (fun _ => Nat.le_of_ble_eq_true rfl) (fun _ => rfl) ?_
  intro p l e R s m args below meth c dC dI cs ad A hR1 hR2 F H locs ls w hl
  have hx := F.1.1
  have hb := F.1.2.1
  rw [f_Bodies_flatWeight] at h
  refine lv_aload_n (pc := 0) hx hb dX0_flatWeight_0 rfl (lv_at hl 0 rfl) ?_
  refine s_getR (pc := 1) F w 62 ds_69 (j := 2) vc_X0 vi_X0 rfl (by decide) kf_X0_23 dX0_flatWeight_1 ?_
  refine lv_iconst (pc := 4) (v := 1) hx hb dX0_flatWeight_4 (by decide) ?_
  obtain ⟨S1, hc, h⟩ := bndv_t h
  refine s_cvv (pc := 5) [.int (1 : Int32)] (fun ad => [.ref (ad 62), .int (1 : Int32)]) F w (m_Report_beginBody _ _ _ hc) rfl rfl hl.1 ds_62 vc_X5 rfl ok_X5_beginBody rfl kc_X5_beginBody kl_X0_40 ki_X5_beginBody kv_X5_beginBody kn_X5 ⟨Nat.le_trans (by decide) hR1, Nat.le_trans (by decide) hR2⟩ ⟨Nat.zero_le _, Nat.zero_le _⟩ (Nat.le_of_ble_eq_true rfl) dX0_flatWeight_5 (fun H locs w => ?_)
  refine lv_aload_n (pc := 8) hx hb dX0_flatWeight_8 rfl (lv_at hl 0 rfl) ?_
  refine s_getR (pc := 9) F w 65 ds_69 (j := 1) vc_X0 vi_X0 rfl (by decide) kf_X0_19 dX0_flatWeight_9 ?_
  refine lv_iload_n (pc := 12) hx hb dX0_flatWeight_12 rfl (lv_at hl 1 rfl) ?_
  refine lv_iconst (pc := 13) (v := 2) hx hb dX0_flatWeight_13 (by decide) ?_
  obtain ⟨r3, S2, hc, h⟩ := bnd_t h
  refine s_cvi (pc := 14) [.int a1, .int (2 : Int32)] (fun ad => [.ref (ad 65), .int a1, .int (2 : Int32)]) F w (m_Stock_get _ _ _ _ _ hc) rfl rfl hl.1 ds_65 vc_X9 rfl ok_X9_get rfl kc_X9_get kl_X0_29 ki_X9_get kv_X9_get kn_X9 ⟨Nat.le_trans (by decide) hR1, Nat.le_trans (by decide) hR2⟩ ⟨Nat.zero_le _, Nat.zero_le _⟩ (Nat.le_of_ble_eq_true rfl) dX0_flatWeight_14 (fun H locs w => ?_)
  refine lv_aload_n (pc := 17) hx hb dX0_flatWeight_17 rfl (lv_at hl 0 rfl) ?_
  refine s_getR (pc := 18) F w 65 ds_69 (j := 1) vc_X0 vi_X0 rfl (by decide) kf_X0_19 dX0_flatWeight_18 ?_
  refine lv_iload_n (pc := 21) hx hb dX0_flatWeight_21 rfl (lv_at hl 1 rfl) ?_
  refine lv_iconst (pc := 22) (v := 5) hx hb dX0_flatWeight_22 (by decide) ?_
  obtain ⟨r5, S4, hc, h⟩ := bnd_t h
  refine s_cvi (pc := 23) [.int a1, .int (5 : Int32)] (fun ad => [.ref (ad 65), .int a1, .int (5 : Int32)]) F w (m_Stock_get _ _ _ _ _ hc) rfl rfl hl.1 ds_65 vc_X9 rfl ok_X9_get rfl kc_X9_get kl_X0_29 ki_X9_get kv_X9_get kn_X9 ⟨Nat.le_trans (by decide) hR1, Nat.le_trans (by decide) hR2⟩ ⟨Nat.zero_le _, Nat.zero_le _⟩ (Nat.le_of_ble_eq_true rfl) dX0_flatWeight_23 (fun H locs w => ?_)
  refine lv_iadd (pc := 26) hx hb dX0_flatWeight_26 ?_
  exact s_iret F w h dX0_flatWeight_27
def f_Bodies_tankWeight (a1 : Int32) (S : SS) : Option (Int32 × SS) :=
  bndv (f_Report_beginBody (2 : Int32) S) (fun S1 =>
  bnd (f_Bodies_flatWeight a1 S1) (fun r3 S2 =>
  bnd (f_Stock_get a1 (4 : Int32) S2) (fun r5 S4 =>
  some (r3 + r5, S4))))
theorem dX0_tankWeight_0 : decode cX0_tankWeight 0 = .ok (.aload_n 0, 1) := dc_42 (by decide +kernel)
theorem dX0_tankWeight_1 : decode cX0_tankWeight 1 = .ok (.getfield 23, 3) := dc_180 (a := 0) (b := 23) (by decide +kernel)
theorem dX0_tankWeight_4 : decode cX0_tankWeight 4 = .ok (.iconst 2, 1) := dc_5 (by decide +kernel)
theorem dX0_tankWeight_5 : decode cX0_tankWeight 5 = .ok (.invokevirtual 40, 3) := dc_182 (a := 0) (b := 40) (by decide +kernel)
theorem dX0_tankWeight_8 : decode cX0_tankWeight 8 = .ok (.aload_n 0, 1) := dc_42 (by decide +kernel)
theorem dX0_tankWeight_9 : decode cX0_tankWeight 9 = .ok (.iload_n 1, 1) := dc_27 (by decide +kernel)
theorem dX0_tankWeight_10 : decode cX0_tankWeight 10 = .ok (.invokevirtual 46, 3) := dc_182 (a := 0) (b := 46) (by decide +kernel)
theorem dX0_tankWeight_13 : decode cX0_tankWeight 13 = .ok (.aload_n 0, 1) := dc_42 (by decide +kernel)
theorem dX0_tankWeight_14 : decode cX0_tankWeight 14 = .ok (.getfield 19, 3) := dc_180 (a := 0) (b := 19) (by decide +kernel)
theorem dX0_tankWeight_17 : decode cX0_tankWeight 17 = .ok (.iload_n 1, 1) := dc_27 (by decide +kernel)
theorem dX0_tankWeight_18 : decode cX0_tankWeight 18 = .ok (.iconst 4, 1) := dc_7 (by decide +kernel)
theorem dX0_tankWeight_19 : decode cX0_tankWeight 19 = .ok (.invokevirtual 29, 3) := dc_182 (a := 0) (b := 29) (by decide +kernel)
theorem dX0_tankWeight_22 : decode cX0_tankWeight 22 = .ok (.iadd, 1) := dc_96 (by decide +kernel)
theorem dX0_tankWeight_23 : decode cX0_tankWeight 23 = .ok (.ireturn, 1) := dc_172 (by decide +kernel)
set_option maxRecDepth 100000 in
set_option maxHeartbeats 4000000 in
theorem m_Bodies_tankWeight (a1 : Int32) (S S' : SS) (r : Int32) (h : f_Bodies_tankWeight a1 S = some (r, S')) : MT yX0_tankWeight cX0_tankWeight 2 (some .int) 2 43 (fun ad => [.ref (ad 69), .int a1]) S (some (.int r)) S' := by
  refine MT.of RX0 (fun ad => [(0, .ref (ad 69)), (1, .int a1)]) (by decide) rfl (fun _ => Nat.le_of_ble_eq_true rfl) (fun _ => rfl) ?_
  intro p l e R s m args below meth c dC dI cs ad A hR1 hR2 F H locs ls w hl
  have hx := F.1.1
  have hb := F.1.2.1
  rw [f_Bodies_tankWeight] at h
  refine lv_aload_n (pc := 0) hx hb dX0_tankWeight_0 rfl (lv_at hl 0 rfl) ?_
  refine s_getR (pc := 1) F w 62 ds_69 (j := 2) vc_X0 vi_X0 rfl (by decide) kf_X0_23 dX0_tankWeight_1 ?_
  refine lv_iconst (pc := 4) (v := 2) hx hb dX0_tankWeight_4 (by decide) ?_
  obtain ⟨S1, hc, h⟩ := bndv_t h
  refine s_cvv (pc := 5) [.int (2 : Int32)] (fun ad => [.ref (ad 62), .int (2 : Int32)]) F w (m_Report_beginBody _ _ _ hc) rfl rfl hl.1 ds_62 vc_X5 rfl ok_X5_beginBody rfl kc_X5_beginBody kl_X0_40 ki_X5_beginBody kv_X5_beginBody kn_X5 ⟨Nat.le_trans (by decide) hR1, Nat.le_trans (by decide) hR2⟩ ⟨Nat.zero_le _, Nat.zero_le _⟩ (Nat.le_of_ble_eq_true rfl) dX0_tankWeight_5 (fun H locs w => ?_)
  refine lv_aload_n (pc := 8) hx hb dX0_tankWeight_8 rfl (lv_at hl 0 rfl) ?_
  refine lv_iload_n (pc := 9) hx hb dX0_tankWeight_9 rfl (lv_at hl 1 rfl) ?_
  obtain ⟨r3, S2, hc, h⟩ := bnd_t h
  refine s_cvi (pc := 10) [.int a1] (fun ad => [.ref (ad 69), .int a1]) F w (m_Bodies_flatWeight _ _ _ _ hc) rfl rfl hl.1 ds_69 vc_X0 rfl ok_X0_flatWeight rfl kc_X0_flatWeight kl_X0_46 ki_X0_flatWeight kv_X0_flatWeight kn_X0 ⟨Nat.le_trans (by decide) hR1, Nat.le_trans (by decide) hR2⟩ ⟨Nat.zero_le _, Nat.zero_le _⟩ (Nat.le_of_ble_eq_true rfl) dX0_tankWeight_10 (fun H locs w => ?_)
  refine lv_aload_n (pc := 13) hx hb dX0_tankWeight_13 rfl (lv_at hl 0 rfl) ?_
  refine s_getR (pc := 14) F w 65 ds_69 (j := 1) vc_X0 vi_X0 rfl (by decide) kf_X0_19 dX0_tankWeight_14 ?_
  refine lv_iload_n (pc := 17) hx hb dX0_tankWeight_17 rfl (lv_at hl 1 rfl) ?_
  refine lv_iconst (pc := 18) (v := 4) hx hb dX0_tankWeight_18 (by decide) ?_
  obtain ⟨r5, S4, hc, h⟩ := bnd_t h
  refine s_cvi (pc := 19) [.int a1, .int (4 : Int32)] (fun ad => [.ref (ad 65), .int a1, .int (4 : Int32)]) F w (m_Stock_get _ _ _ _ _ hc) rfl rfl hl.1 ds_65 vc_X9 rfl ok_X9_get rfl kc_X9_get kl_X0_29 ki_X9_get kv_X9_get kn_X9 ⟨Nat.le_trans (by decide) hR1, Nat.le_trans (by decide) hR2⟩ ⟨Nat.zero_le _, Nat.zero_le _⟩ (Nat.le_of_ble_eq_true rfl) dX0_tankWeight_19 (fun H locs w => ?_)
  refine lv_iadd (pc := 22) hx hb dX0_tankWeight_22 ?_
  exact s_iret F w h dX0_tankWeight_23
def f_Bodies_weight (a1 : Int32) (S : SS) : Option (Int32 × SS) :=
  bnd (f_Bodies_kindOf a1 S) (fun r2 S1 =>
  if r2 = (1 : Int32) then
    bnd (f_Bodies_tankWeight a1 S1) (fun r4 S3 =>
    some (r4, S3))
  else
  if r2 = (2 : Int32) then
    bndv (f_Report_beginBody (3 : Int32) S1) (fun S5 =>
    bnd (f_Bodies_tankWeight a1 S5) (fun r7 S6 =>
    some (r7 + (5 : Int32), S6)))
  else
  if r2 = (3 : Int32) then
    bnd (f_Bodies_flatWeight a1 S1) (fun r9 S8 =>
    some (r9, S8))
  else
  if r2 = (4 : Int32) then
    bndv (f_Report_beginBody (4 : Int32) S1) (fun S10 =>
    bnd (f_Stock_get a1 (2 : Int32) S10) (fun r12 S11 =>
    some (r12, S11)))
  else
  if r2 = (5 : Int32) then
    bndv (f_Report_beginBody (5 : Int32) S1) (fun S13 =>
    bnd (f_Stock_get a1 (2 : Int32) S13) (fun r15 S14 =>
    some ((80 : Int32) + r15, S14)))
  else
  if r2 = (6 : Int32) then
    bndv (f_Report_beginBody (5 : Int32) S1) (fun S16 =>
    bnd (f_Stock_get a1 (2 : Int32) S16) (fun r18 S17 =>
    some ((80 : Int32) + r18, S17)))
  else
  bnd (f_Bodies_flatWeight a1 S1) (fun r20 S19 =>
  some (r20, S19)))
theorem dX0_weight_0 : decode cX0_weight 0 = .ok (.aload_n 0, 1) := dc_42 (by decide +kernel)
theorem dX0_weight_1 : decode cX0_weight 1 = .ok (.iload_n 1, 1) := dc_27 (by decide +kernel)
theorem dX0_weight_2 : decode cX0_weight 2 = .ok (.invokevirtual 33, 3) := dc_182 (a := 0) (b := 33) (by decide +kernel)
theorem dX0_weight_5 : decode cX0_weight 5 = .ok (.tableswitch 100 1 6 #[39, 45, 100, 61, 79, 79], 39) := by decide +kernel
theorem dX0_weight_44 : decode cX0_weight 44 = .ok (.aload_n 0, 1) := dc_42 (by decide +kernel)
theorem dX0_weight_45 : decode cX0_weight 45 = .ok (.iload_n 1, 1) := dc_27 (by decide +kernel)
theorem dX0_weight_46 : decode cX0_weight 46 = .ok (.invokevirtual 37, 3) := dc_182 (a := 0) (b := 37) (by decide +kernel)
theorem dX0_weight_49 : decode cX0_weight 49 = .ok (.ireturn, 1) := dc_172 (by decide +kernel)
theorem dX0_weight_50 : decode cX0_weight 50 = .ok (.aload_n 0, 1) := dc_42 (by decide +kernel)
theorem dX0_weight_51 : decode cX0_weight 51 = .ok (.getfield 23, 3) := dc_180 (a := 0) (b := 23) (by decide +kernel)
theorem dX0_weight_54 : decode cX0_weight 54 = .ok (.iconst 3, 1) := dc_6 (by decide +kernel)
theorem dX0_weight_55 : decode cX0_weight 55 = .ok (.invokevirtual 40, 3) := dc_182 (a := 0) (b := 40) (by decide +kernel)
theorem dX0_weight_58 : decode cX0_weight 58 = .ok (.aload_n 0, 1) := dc_42 (by decide +kernel)
theorem dX0_weight_59 : decode cX0_weight 59 = .ok (.iload_n 1, 1) := dc_27 (by decide +kernel)
theorem dX0_weight_60 : decode cX0_weight 60 = .ok (.invokevirtual 37, 3) := dc_182 (a := 0) (b := 37) (by decide +kernel)
theorem dX0_weight_63 : decode cX0_weight 63 = .ok (.iconst 5, 1) := dc_8 (by decide +kernel)
theorem dX0_weight_64 : decode cX0_weight 64 = .ok (.iadd, 1) := dc_96 (by decide +kernel)
theorem dX0_weight_65 : decode cX0_weight 65 = .ok (.ireturn, 1) := dc_172 (by decide +kernel)
theorem dX0_weight_66 : decode cX0_weight 66 = .ok (.aload_n 0, 1) := dc_42 (by decide +kernel)
theorem dX0_weight_67 : decode cX0_weight 67 = .ok (.getfield 23, 3) := dc_180 (a := 0) (b := 23) (by decide +kernel)
theorem dX0_weight_70 : decode cX0_weight 70 = .ok (.iconst 4, 1) := dc_7 (by decide +kernel)
theorem dX0_weight_71 : decode cX0_weight 71 = .ok (.invokevirtual 40, 3) := dc_182 (a := 0) (b := 40) (by decide +kernel)
theorem dX0_weight_74 : decode cX0_weight 74 = .ok (.aload_n 0, 1) := dc_42 (by decide +kernel)
theorem dX0_weight_75 : decode cX0_weight 75 = .ok (.getfield 19, 3) := dc_180 (a := 0) (b := 19) (by decide +kernel)
theorem dX0_weight_78 : decode cX0_weight 78 = .ok (.iload_n 1, 1) := dc_27 (by decide +kernel)
theorem dX0_weight_79 : decode cX0_weight 79 = .ok (.iconst 2, 1) := dc_5 (by decide +kernel)
theorem dX0_weight_80 : decode cX0_weight 80 = .ok (.invokevirtual 29, 3) := dc_182 (a := 0) (b := 29) (by decide +kernel)
theorem dX0_weight_83 : decode cX0_weight 83 = .ok (.ireturn, 1) := dc_172 (by decide +kernel)
theorem dX0_weight_84 : decode cX0_weight 84 = .ok (.aload_n 0, 1) := dc_42 (by decide +kernel)
theorem dX0_weight_85 : decode cX0_weight 85 = .ok (.getfield 23, 3) := dc_180 (a := 0) (b := 23) (by decide +kernel)
theorem dX0_weight_88 : decode cX0_weight 88 = .ok (.iconst 5, 1) := dc_8 (by decide +kernel)
theorem dX0_weight_89 : decode cX0_weight 89 = .ok (.invokevirtual 40, 3) := dc_182 (a := 0) (b := 40) (by decide +kernel)
theorem dX0_weight_92 : decode cX0_weight 92 = .ok (.bipush 80, 2) := dc_16 (a := 80) (by decide +kernel) (by decide)
theorem dX0_weight_94 : decode cX0_weight 94 = .ok (.aload_n 0, 1) := dc_42 (by decide +kernel)
theorem dX0_weight_95 : decode cX0_weight 95 = .ok (.getfield 19, 3) := dc_180 (a := 0) (b := 19) (by decide +kernel)
theorem dX0_weight_98 : decode cX0_weight 98 = .ok (.iload_n 1, 1) := dc_27 (by decide +kernel)
theorem dX0_weight_99 : decode cX0_weight 99 = .ok (.iconst 2, 1) := dc_5 (by decide +kernel)
theorem dX0_weight_100 : decode cX0_weight 100 = .ok (.invokevirtual 29, 3) := dc_182 (a := 0) (b := 29) (by decide +kernel)
theorem dX0_weight_103 : decode cX0_weight 103 = .ok (.iadd, 1) := dc_96 (by decide +kernel)
theorem dX0_weight_104 : decode cX0_weight 104 = .ok (.ireturn, 1) := dc_172 (by decide +kernel)
theorem dX0_weight_105 : decode cX0_weight 105 = .ok (.aload_n 0, 1) := dc_42 (by decide +kernel)
theorem dX0_weight_106 : decode cX0_weight 106 = .ok (.iload_n 1, 1) := dc_27 (by decide +kernel)
theorem dX0_weight_107 : decode cX0_weight 107 = .ok (.invokevirtual 46, 3) := dc_182 (a := 0) (b := 46) (by decide +kernel)
theorem dX0_weight_110 : decode cX0_weight 110 = .ok (.ireturn, 1) := dc_172 (by decide +kernel)
set_option maxRecDepth 100000 in
set_option maxHeartbeats 4000000 in
theorem m_Bodies_weight (a1 : Int32) (S S' : SS) (r : Int32) (h : f_Bodies_weight a1 S = some (r, S')) : MT yX0_weight cX0_weight 2 (some .int) 3 64 (fun ad => [.ref (ad 69), .int a1]) S (some (.int r)) S' := by
  refine MT.of RX0 (fun ad => [(0, .ref (ad 69)), (1, .int a1)]) (by decide) rfl (fun _ => Nat.le_of_ble_eq_true rfl) (fun _ => rfl) ?_
  intro p l e R s m args below meth c dC dI cs ad A hR1 hR2 F H locs ls w hl
  have hx := F.1.1
  have hb := F.1.2.1
  rw [f_Bodies_weight] at h
  refine lv_aload_n (pc := 0) hx hb dX0_weight_0 rfl (lv_at hl 0 rfl) ?_
  refine lv_iload_n (pc := 1) hx hb dX0_weight_1 rfl (lv_at hl 1 rfl) ?_
  obtain ⟨r2, S1, hc, h⟩ := bnd_t h
  refine s_cvi (pc := 2) [.int a1] (fun ad => [.ref (ad 69), .int a1]) F w (m_Bodies_kindOf _ _ _ _ hc) rfl rfl hl.1 ds_69 vc_X0 rfl ok_X0_kindOf rfl kc_X0_kindOf kl_X0_33 ki_X0_kindOf kv_X0_kindOf kn_X0 ⟨Nat.le_trans (by decide) hR1, Nat.le_trans (by decide) hR2⟩ ⟨Nat.zero_le _, Nat.zero_le _⟩ (Nat.le_of_ble_eq_true rfl) dX0_weight_2 (fun H locs w => ?_)
  rcases Decidable.em (r2 = (1 : Int32)) with q1 | q1
  · refine lv_tableIn (pc := 5) (tgt := 44) (off := 39) hx hb dX0_weight_5 (by rw [q1]; decide) (by rw [q1]; decide) (by rw [q1]; rfl) (by decide) ?_
    have h := ite_t q1 h
    refine lv_aload_n (pc := 44) hx hb dX0_weight_44 rfl (lv_at hl 0 rfl) ?_
    refine lv_iload_n (pc := 45) hx hb dX0_weight_45 rfl (lv_at hl 1 rfl) ?_
    obtain ⟨r4, S3, hc, h⟩ := bnd_t h
    refine s_cvi (pc := 46) [.int a1] (fun ad => [.ref (ad 69), .int a1]) F w (m_Bodies_tankWeight _ _ _ _ hc) rfl rfl hl.1 ds_69 vc_X0 rfl ok_X0_tankWeight rfl kc_X0_tankWeight kl_X0_37 ki_X0_tankWeight kv_X0_tankWeight kn_X0 ⟨Nat.le_trans (by decide) hR1, Nat.le_trans (by decide) hR2⟩ ⟨Nat.zero_le _, Nat.zero_le _⟩ (Nat.le_of_ble_eq_true rfl) dX0_weight_46 (fun H locs w => ?_)
    exact s_iret F w h dX0_weight_49
  have h := ite_f q1 h
  rcases Decidable.em (r2 = (2 : Int32)) with q2 | q2
  · refine lv_tableIn (pc := 5) (tgt := 50) (off := 45) hx hb dX0_weight_5 (by rw [q2]; decide) (by rw [q2]; decide) (by rw [q2]; rfl) (by decide) ?_
    have h := ite_t q2 h
    refine lv_aload_n (pc := 50) hx hb dX0_weight_50 rfl (lv_at hl 0 rfl) ?_
    refine s_getR (pc := 51) F w 62 ds_69 (j := 2) vc_X0 vi_X0 rfl (by decide) kf_X0_23 dX0_weight_51 ?_
    refine lv_iconst (pc := 54) (v := 3) hx hb dX0_weight_54 (by decide) ?_
    obtain ⟨S5, hc, h⟩ := bndv_t h
    refine s_cvv (pc := 55) [.int (3 : Int32)] (fun ad => [.ref (ad 62), .int (3 : Int32)]) F w (m_Report_beginBody _ _ _ hc) rfl rfl hl.1 ds_62 vc_X5 rfl ok_X5_beginBody rfl kc_X5_beginBody kl_X0_40 ki_X5_beginBody kv_X5_beginBody kn_X5 ⟨Nat.le_trans (by decide) hR1, Nat.le_trans (by decide) hR2⟩ ⟨Nat.zero_le _, Nat.zero_le _⟩ (Nat.le_of_ble_eq_true rfl) dX0_weight_55 (fun H locs w => ?_)
    refine lv_aload_n (pc := 58) hx hb dX0_weight_58 rfl (lv_at hl 0 rfl) ?_
    refine lv_iload_n (pc := 59) hx hb dX0_weight_59 rfl (lv_at hl 1 rfl) ?_
    obtain ⟨r7, S6, hc, h⟩ := bnd_t h
    refine s_cvi (pc := 60) [.int a1] (fun ad => [.ref (ad 69), .int a1]) F w (m_Bodies_tankWeight _ _ _ _ hc) rfl rfl hl.1 ds_69 vc_X0 rfl ok_X0_tankWeight rfl kc_X0_tankWeight kl_X0_37 ki_X0_tankWeight kv_X0_tankWeight kn_X0 ⟨Nat.le_trans (by decide) hR1, Nat.le_trans (by decide) hR2⟩ ⟨Nat.zero_le _, Nat.zero_le _⟩ (Nat.le_of_ble_eq_true rfl) dX0_weight_60 (fun H locs w => ?_)
    refine lv_iconst (pc := 63) (v := 5) hx hb dX0_weight_63 (by decide) ?_
    refine lv_iadd (pc := 64) hx hb dX0_weight_64 ?_
    exact s_iret F w h dX0_weight_65
  have h := ite_f q2 h
  rcases Decidable.em (r2 = (3 : Int32)) with q3 | q3
  · refine lv_tableIn (pc := 5) (tgt := 105) (off := 100) hx hb dX0_weight_5 (by rw [q3]; decide) (by rw [q3]; decide) (by rw [q3]; rfl) (by decide) ?_
    have h := ite_t q3 h
    refine lv_aload_n (pc := 105) hx hb dX0_weight_105 rfl (lv_at hl 0 rfl) ?_
    refine lv_iload_n (pc := 106) hx hb dX0_weight_106 rfl (lv_at hl 1 rfl) ?_
    obtain ⟨r9, S8, hc, h⟩ := bnd_t h
    refine s_cvi (pc := 107) [.int a1] (fun ad => [.ref (ad 69), .int a1]) F w (m_Bodies_flatWeight _ _ _ _ hc) rfl rfl hl.1 ds_69 vc_X0 rfl ok_X0_flatWeight rfl kc_X0_flatWeight kl_X0_46 ki_X0_flatWeight kv_X0_flatWeight kn_X0 ⟨Nat.le_trans (by decide) hR1, Nat.le_trans (by decide) hR2⟩ ⟨Nat.zero_le _, Nat.zero_le _⟩ (Nat.le_of_ble_eq_true rfl) dX0_weight_107 (fun H locs w => ?_)
    exact s_iret F w h dX0_weight_110
  have h := ite_f q3 h
  rcases Decidable.em (r2 = (4 : Int32)) with q4 | q4
  · refine lv_tableIn (pc := 5) (tgt := 66) (off := 61) hx hb dX0_weight_5 (by rw [q4]; decide) (by rw [q4]; decide) (by rw [q4]; rfl) (by decide) ?_
    have h := ite_t q4 h
    refine lv_aload_n (pc := 66) hx hb dX0_weight_66 rfl (lv_at hl 0 rfl) ?_
    refine s_getR (pc := 67) F w 62 ds_69 (j := 2) vc_X0 vi_X0 rfl (by decide) kf_X0_23 dX0_weight_67 ?_
    refine lv_iconst (pc := 70) (v := 4) hx hb dX0_weight_70 (by decide) ?_
    obtain ⟨S10, hc, h⟩ := bndv_t h
    refine s_cvv (pc := 71) [.int (4 : Int32)] (fun ad => [.ref (ad 62), .int (4 : Int32)]) F w (m_Report_beginBody _ _ _ hc) rfl rfl hl.1 ds_62 vc_X5 rfl ok_X5_beginBody rfl kc_X5_beginBody kl_X0_40 ki_X5_beginBody kv_X5_beginBody kn_X5 ⟨Nat.le_trans (by decide) hR1, Nat.le_trans (by decide) hR2⟩ ⟨Nat.zero_le _, Nat.zero_le _⟩ (Nat.le_of_ble_eq_true rfl) dX0_weight_71 (fun H locs w => ?_)
    refine lv_aload_n (pc := 74) hx hb dX0_weight_74 rfl (lv_at hl 0 rfl) ?_
    refine s_getR (pc := 75) F w 65 ds_69 (j := 1) vc_X0 vi_X0 rfl (by decide) kf_X0_19 dX0_weight_75 ?_
    refine lv_iload_n (pc := 78) hx hb dX0_weight_78 rfl (lv_at hl 1 rfl) ?_
    refine lv_iconst (pc := 79) (v := 2) hx hb dX0_weight_79 (by decide) ?_
    obtain ⟨r12, S11, hc, h⟩ := bnd_t h
    refine s_cvi (pc := 80) [.int a1, .int (2 : Int32)] (fun ad => [.ref (ad 65), .int a1, .int (2 : Int32)]) F w (m_Stock_get _ _ _ _ _ hc) rfl rfl hl.1 ds_65 vc_X9 rfl ok_X9_get rfl kc_X9_get kl_X0_29 ki_X9_get kv_X9_get kn_X9 ⟨Nat.le_trans (by decide) hR1, Nat.le_trans (by decide) hR2⟩ ⟨Nat.zero_le _, Nat.zero_le _⟩ (Nat.le_of_ble_eq_true rfl) dX0_weight_80 (fun H locs w => ?_)
    exact s_iret F w h dX0_weight_83
  have h := ite_f q4 h
  rcases Decidable.em (r2 = (5 : Int32)) with q5 | q5
  · refine lv_tableIn (pc := 5) (tgt := 84) (off := 79) hx hb dX0_weight_5 (by rw [q5]; decide) (by rw [q5]; decide) (by rw [q5]; rfl) (by decide) ?_
    have h := ite_t q5 h
    refine lv_aload_n (pc := 84) hx hb dX0_weight_84 rfl (lv_at hl 0 rfl) ?_
    refine s_getR (pc := 85) F w 62 ds_69 (j := 2) vc_X0 vi_X0 rfl (by decide) kf_X0_23 dX0_weight_85 ?_
    refine lv_iconst (pc := 88) (v := 5) hx hb dX0_weight_88 (by decide) ?_
    obtain ⟨S13, hc, h⟩ := bndv_t h
    refine s_cvv (pc := 89) [.int (5 : Int32)] (fun ad => [.ref (ad 62), .int (5 : Int32)]) F w (m_Report_beginBody _ _ _ hc) rfl rfl hl.1 ds_62 vc_X5 rfl ok_X5_beginBody rfl kc_X5_beginBody kl_X0_40 ki_X5_beginBody kv_X5_beginBody kn_X5 ⟨Nat.le_trans (by decide) hR1, Nat.le_trans (by decide) hR2⟩ ⟨Nat.zero_le _, Nat.zero_le _⟩ (Nat.le_of_ble_eq_true rfl) dX0_weight_89 (fun H locs w => ?_)
    refine lv_bipush (pc := 92) (v := 80) hx hb dX0_weight_92 (by decide) ?_
    refine lv_aload_n (pc := 94) hx hb dX0_weight_94 rfl (lv_at hl 0 rfl) ?_
    refine s_getR (pc := 95) F w 65 ds_69 (j := 1) vc_X0 vi_X0 rfl (by decide) kf_X0_19 dX0_weight_95 ?_
    refine lv_iload_n (pc := 98) hx hb dX0_weight_98 rfl (lv_at hl 1 rfl) ?_
    refine lv_iconst (pc := 99) (v := 2) hx hb dX0_weight_99 (by decide) ?_
    obtain ⟨r15, S14, hc, h⟩ := bnd_t h
    refine s_cvi (pc := 100) [.int a1, .int (2 : Int32)] (fun ad => [.ref (ad 65), .int a1, .int (2 : Int32)]) F w (m_Stock_get _ _ _ _ _ hc) rfl rfl hl.1 ds_65 vc_X9 rfl ok_X9_get rfl kc_X9_get kl_X0_29 ki_X9_get kv_X9_get kn_X9 ⟨Nat.le_trans (by decide) hR1, Nat.le_trans (by decide) hR2⟩ ⟨Nat.zero_le _, Nat.zero_le _⟩ (Nat.le_of_ble_eq_true rfl) dX0_weight_100 (fun H locs w => ?_)
    refine lv_iadd (pc := 103) hx hb dX0_weight_103 ?_
    exact s_iret F w h dX0_weight_104
  have h := ite_f q5 h
  rcases Decidable.em (r2 = (6 : Int32)) with q6 | q6
  · refine lv_tableIn (pc := 5) (tgt := 84) (off := 79) hx hb dX0_weight_5 (by rw [q6]; decide) (by rw [q6]; decide) (by rw [q6]; rfl) (by decide) ?_
    have h := ite_t q6 h
    refine lv_aload_n (pc := 84) hx hb dX0_weight_84 rfl (lv_at hl 0 rfl) ?_
    refine s_getR (pc := 85) F w 62 ds_69 (j := 2) vc_X0 vi_X0 rfl (by decide) kf_X0_23 dX0_weight_85 ?_
    refine lv_iconst (pc := 88) (v := 5) hx hb dX0_weight_88 (by decide) ?_
    obtain ⟨S16, hc, h⟩ := bndv_t h
    refine s_cvv (pc := 89) [.int (5 : Int32)] (fun ad => [.ref (ad 62), .int (5 : Int32)]) F w (m_Report_beginBody _ _ _ hc) rfl rfl hl.1 ds_62 vc_X5 rfl ok_X5_beginBody rfl kc_X5_beginBody kl_X0_40 ki_X5_beginBody kv_X5_beginBody kn_X5 ⟨Nat.le_trans (by decide) hR1, Nat.le_trans (by decide) hR2⟩ ⟨Nat.zero_le _, Nat.zero_le _⟩ (Nat.le_of_ble_eq_true rfl) dX0_weight_89 (fun H locs w => ?_)
    refine lv_bipush (pc := 92) (v := 80) hx hb dX0_weight_92 (by decide) ?_
    refine lv_aload_n (pc := 94) hx hb dX0_weight_94 rfl (lv_at hl 0 rfl) ?_
    refine s_getR (pc := 95) F w 65 ds_69 (j := 1) vc_X0 vi_X0 rfl (by decide) kf_X0_19 dX0_weight_95 ?_
    refine lv_iload_n (pc := 98) hx hb dX0_weight_98 rfl (lv_at hl 1 rfl) ?_
    refine lv_iconst (pc := 99) (v := 2) hx hb dX0_weight_99 (by decide) ?_
    obtain ⟨r18, S17, hc, h⟩ := bnd_t h
    refine s_cvi (pc := 100) [.int a1, .int (2 : Int32)] (fun ad => [.ref (ad 65), .int a1, .int (2 : Int32)]) F w (m_Stock_get _ _ _ _ _ hc) rfl rfl hl.1 ds_65 vc_X9 rfl ok_X9_get rfl kc_X9_get kl_X0_29 ki_X9_get kv_X9_get kn_X9 ⟨Nat.le_trans (by decide) hR1, Nat.le_trans (by decide) hR2⟩ ⟨Nat.zero_le _, Nat.zero_le _⟩ (Nat.le_of_ble_eq_true rfl) dX0_weight_100 (fun H locs w => ?_)
    refine lv_iadd (pc := 103) hx hb dX0_weight_103 ?_
    exact s_iret F w h dX0_weight_104
  have h := ite_f q6 h
  refine lv_tableOut (pc := 5) (tgt := 105) hx hb dX0_weight_5 (by have zq1 := i32ne q1 (show ((1 : Int32)).toInt = 1 by decide); have zq2 := i32ne q2 (show ((2 : Int32)).toInt = 2 by decide); have zq3 := i32ne q3 (show ((3 : Int32)).toInt = 3 by decide); have zq4 := i32ne q4 (show ((4 : Int32)).toInt = 4 by decide); have zq5 := i32ne q5 (show ((5 : Int32)).toInt = 5 by decide); have zq6 := i32ne q6 (show ((6 : Int32)).toInt = 6 by decide); omega) (by decide) ?_
  refine lv_aload_n (pc := 105) hx hb dX0_weight_105 rfl (lv_at hl 0 rfl) ?_
  refine lv_iload_n (pc := 106) hx hb dX0_weight_106 rfl (lv_at hl 1 rfl) ?_
  obtain ⟨r20, S19, hc, h⟩ := bnd_t h
  refine s_cvi (pc := 107) [.int a1] (fun ad => [.ref (ad 69), .int a1]) F w (m_Bodies_flatWeight _ _ _ _ hc) rfl rfl hl.1 ds_69 vc_X0 rfl ok_X0_flatWeight rfl kc_X0_flatWeight kl_X0_46 ki_X0_flatWeight kv_X0_flatWeight kn_X0 ⟨Nat.le_trans (by decide) hR1, Nat.le_trans (by decide) hR2⟩ ⟨Nat.zero_le _, Nat.zero_le _⟩ (Nat.le_of_ble_eq_true rfl) dX0_weight_107 (fun H locs w => ?_)
  exact s_iret F w h dX0_weight_110
def f_Yard_lineWeight_L4  : Nat → Int32 → Int32 → SS → Option (Int32 × SS)
  | 0, _, _, _ => none
  | n + 1, x1, x2, S =>
    if (S.1 68 4) ≤ x2 then
      some (x1, S)
    else
      bnd (f_Trains_inLine x2 S) (fun r2 S1 =>
      bnd (f_Bodies_weight r2 S1) (fun r4 S3 =>
      nm (x1 + r4) (fun z5 =>
      nm (x2 + (1 : Int32)) (fun z6 =>
      f_Yard_lineWeight_L4 n z5 z6 S3))))
def f_Yard_lineWeight  (S : SS) : Option (Int32 × SS) :=
  f_Yard_lineWeight_L4 NF (0 : Int32) (0 : Int32) S
theorem dX11_lineWeight_0 : decode cX11_lineWeight 0 = .ok (.iconst 0, 1) := dc_3 (by decide +kernel)
theorem dX11_lineWeight_1 : decode cX11_lineWeight 1 = .ok (.istore_n 1, 1) := dc_60 (by decide +kernel)
theorem dX11_lineWeight_2 : decode cX11_lineWeight 2 = .ok (.iconst 0, 1) := dc_3 (by decide +kernel)
theorem dX11_lineWeight_3 : decode cX11_lineWeight 3 = .ok (.istore_n 2, 1) := dc_61 (by decide +kernel)
theorem dX11_lineWeight_4 : decode cX11_lineWeight 4 = .ok (.iload_n 2, 1) := dc_28 (by decide +kernel)
theorem dX11_lineWeight_5 : decode cX11_lineWeight 5 = .ok (.aload_n 0, 1) := dc_42 (by decide +kernel)
theorem dX11_lineWeight_6 : decode cX11_lineWeight 6 = .ok (.getfield 58, 3) := dc_180 (a := 0) (b := 58) (by decide +kernel)
theorem dX11_lineWeight_9 : decode cX11_lineWeight 9 = .ok (.getfield 296, 3) := dc_180 (a := 1) (b := 40) (by decide +kernel)
theorem dX11_lineWeight_12 : decode cX11_lineWeight 12 = .ok (.if_icmp .ge 27, 3) := dc_162 (a := 0) (b := 27) (by decide +kernel) (by decide)
theorem dX11_lineWeight_15 : decode cX11_lineWeight 15 = .ok (.iload_n 1, 1) := dc_27 (by decide +kernel)
theorem dX11_lineWeight_16 : decode cX11_lineWeight 16 = .ok (.aload_n 0, 1) := dc_42 (by decide +kernel)
theorem dX11_lineWeight_17 : decode cX11_lineWeight 17 = .ok (.getfield 67, 3) := dc_180 (a := 0) (b := 67) (by decide +kernel)
theorem dX11_lineWeight_20 : decode cX11_lineWeight 20 = .ok (.aload_n 0, 1) := dc_42 (by decide +kernel)
theorem dX11_lineWeight_21 : decode cX11_lineWeight 21 = .ok (.getfield 58, 3) := dc_180 (a := 0) (b := 58) (by decide +kernel)
theorem dX11_lineWeight_24 : decode cX11_lineWeight 24 = .ok (.iload_n 2, 1) := dc_28 (by decide +kernel)
theorem dX11_lineWeight_25 : decode cX11_lineWeight 25 = .ok (.invokevirtual 299, 3) := dc_182 (a := 1) (b := 43) (by decide +kernel)
theorem dX11_lineWeight_28 : decode cX11_lineWeight 28 = .ok (.invokevirtual 302, 3) := dc_182 (a := 1) (b := 46) (by decide +kernel)
theorem dX11_lineWeight_31 : decode cX11_lineWeight 31 = .ok (.iadd, 1) := dc_96 (by decide +kernel)
theorem dX11_lineWeight_32 : decode cX11_lineWeight 32 = .ok (.istore_n 1, 1) := dc_60 (by decide +kernel)
theorem dX11_lineWeight_33 : decode cX11_lineWeight 33 = .ok (.iinc 2 1, 3) := dc_132 (a := 2) (b := 1) (by decide +kernel) (by decide)
theorem dX11_lineWeight_36 : decode cX11_lineWeight 36 = .ok (.goto (-32), 3) := dc_167 (a := 255) (b := 224) (by decide +kernel) (by decide)
theorem dX11_lineWeight_39 : decode cX11_lineWeight 39 = .ok (.iload_n 1, 1) := dc_27 (by decide +kernel)
theorem dX11_lineWeight_40 : decode cX11_lineWeight 40 = .ok (.ireturn, 1) := dc_172 (by decide +kernel)
set_option maxRecDepth 100000 in
set_option maxHeartbeats 4000000 in
theorem w_Yard_lineWeight_L4 {p : Program} {l : Launch} {e : Env} {R : Room} {s : State} {m : MethodId} {args : Array Value} {below : List Frame} {meth : Method} {c : Code} {dC : Nat → ClassId} {dI : Nat → Nat → Nat} {cs : Nat → ClassId} {ad : Nat → Nat} {A : Nat → Prop} {D0 : Nat → Nat} {S' : SS} {r : Int32} (F : Fx p s m args meth c cX11_lineWeight 3 RX11 (some .int) dC dI cs A) (hR1 : 4 ≤ R.frames) (hR2 : 85 ≤ R.locals) : ∀ (n : Nat) (x1 : Int32) (x2 : Int32) (S : SS), f_Yard_lineWeight_L4 n x1 x2 S = some (r, S') → AW p l e R s m args below meth c dC dI cs ad A D0 (some (.int r)) S' 3 4 [(0, .ref (ad 61)), (1, .int x1), (2, .int x2)] [] S := by
  have hx := F.1.1
  have hb := F.1.2.1
  intro n
  induction n with
  | zero => intro x1 x2 S h; cases h
  | succ n ih =>
    intro x1 x2 S h H locs ls w hl
    rw [f_Yard_lineWeight_L4] at h
    refine lv_iload_n (pc := 4) hx hb dX11_lineWeight_4 rfl (lv_at hl 2 rfl) ?_
    refine lv_aload_n (pc := 5) hx hb dX11_lineWeight_5 rfl (lv_at hl 0 rfl) ?_
    refine s_getR (pc := 6) F w 68 ds_61 (j := 6) vc_X11 vi_X11 rfl (by decide) kf_X11_58 dX11_lineWeight_6 ?_
    refine s_getI (pc := 9) F w ds_68 (j := 4) vc_X10 vi_X10 rfl (by decide) kf_X11_296 dX11_lineWeight_9 ?_
    refine lv_icmp_ge (pc := 12) (tgt := 39) hx hb dX11_lineWeight_12 (by decide) (fun q => ?_) (fun q => ?_)
    · have h := ite_t q h
      refine lv_iload_n (pc := 39) hx hb dX11_lineWeight_39 rfl (lv_at hl 1 rfl) ?_
      exact s_iret F w h dX11_lineWeight_40
    · have h := ite_f q h
      refine lv_iload_n (pc := 15) hx hb dX11_lineWeight_15 rfl (lv_at hl 1 rfl) ?_
      refine lv_aload_n (pc := 16) hx hb dX11_lineWeight_16 rfl (lv_at hl 0 rfl) ?_
      refine s_getR (pc := 17) F w 69 ds_61 (j := 7) vc_X11 vi_X11 rfl (by decide) kf_X11_67 dX11_lineWeight_17 ?_
      refine lv_aload_n (pc := 20) hx hb dX11_lineWeight_20 rfl (lv_at hl 0 rfl) ?_
      refine s_getR (pc := 21) F w 68 ds_61 (j := 6) vc_X11 vi_X11 rfl (by decide) kf_X11_58 dX11_lineWeight_21 ?_
      refine lv_iload_n (pc := 24) hx hb dX11_lineWeight_24 rfl (lv_at hl 2 rfl) ?_
      obtain ⟨r2, S1, hc, h⟩ := bnd_t h
      refine s_cvi (pc := 25) [.int x2] (fun ad => [.ref (ad 68), .int x2]) F w (m_Trains_inLine _ _ _ _ hc) rfl rfl hl.1 ds_68 vc_X10 rfl ok_X10_inLine rfl kc_X10_inLine kl_X11_299 ki_X10_inLine kv_X10_inLine kn_X10 ⟨Nat.le_trans (by decide) hR1, Nat.le_trans (by decide) hR2⟩ ⟨Nat.zero_le _, Nat.zero_le _⟩ (Nat.le_of_ble_eq_true rfl) dX11_lineWeight_25 (fun H locs w => ?_)
      obtain ⟨r4, S3, hc, h⟩ := bnd_t h
      refine s_cvi (pc := 28) [.int r2] (fun ad => [.ref (ad 69), .int r2]) F w (m_Bodies_weight _ _ _ _ hc) rfl rfl hl.1 ds_69 vc_X0 rfl ok_X0_weight rfl kc_X0_weight kl_X11_302 ki_X0_weight kv_X0_weight kn_X0 ⟨Nat.le_trans (by decide) hR1, Nat.le_trans (by decide) hR2⟩ ⟨Nat.zero_le _, Nat.zero_le _⟩ (Nat.le_of_ble_eq_true rfl) dX11_lineWeight_28 (fun H locs w => ?_)
      refine lv_iadd (pc := 31) hx hb dX11_lineWeight_31 ?_
      refine s_nm h (fun z5 ez5 h => ?_)
      rw [← ez5]
      refine lv_istore_n (pc := 32) (lv' := [(1, .int z5), (0, .ref (ad 61)), (2, .int x2)]) hx hb dX11_lineWeight_32 rfl hl (by decide) rfl (fun ls hl => ?_)
      refine s_nm h (fun z6 ez6 h => ?_)
      refine lv_iinc (pc := 33) (v := z6) (lv' := [(2, .int z6), (1, .int z5), (0, .ref (ad 61))]) hx hb dX11_lineWeight_33 hl (k := 2) rfl (by rw [ez6]; rfl) (by decide) rfl (fun ls hl => ?_)
      refine lv_goto (pc := 36) (tgt := 4) hx hb dX11_lineWeight_36 (by decide) ?_
      exact ih _ _ _ h _ _ _ w (lv_sub hl [2, 1, 0] rfl)
set_option maxRecDepth 100000 in
set_option maxHeartbeats 4000000 in
theorem m_Yard_lineWeight  (S S' : SS) (r : Int32) (h : f_Yard_lineWeight  S = some (r, S')) : MT yX11_lineWeight cX11_lineWeight 3 (some .int) 4 85 (fun ad => [.ref (ad 61)]) S (some (.int r)) S' := by
  refine MT.of RX11 (fun ad => [(0, .ref (ad 61))]) (by decide) rfl (fun _ => Nat.le_of_ble_eq_true rfl) (fun _ => rfl) ?_
  intro p l e R s m args below meth c dC dI cs ad A hR1 hR2 F H locs ls w hl
  have hx := F.1.1
  have hb := F.1.2.1
  rw [f_Yard_lineWeight] at h
  refine lv_iconst (pc := 0) (v := 0) hx hb dX11_lineWeight_0 (by decide) ?_
  refine lv_istore_n (pc := 1) (lv' := [(1, .int (0 : Int32)), (0, .ref (ad 61))]) hx hb dX11_lineWeight_1 rfl hl (by decide) rfl (fun ls hl => ?_)
  refine lv_iconst (pc := 2) (v := 0) hx hb dX11_lineWeight_2 (by decide) ?_
  refine lv_istore_n (pc := 3) (lv' := [(2, .int (0 : Int32)), (1, .int (0 : Int32)), (0, .ref (ad 61))]) hx hb dX11_lineWeight_3 rfl hl (by decide) rfl (fun ls hl => ?_)
  exact w_Yard_lineWeight_L4 F (Nat.le_trans (by decide) hR1) (Nat.le_trans (by decide) hR2) _ _ _ _ h _ _ _ w (lv_sub hl [2, 1, 0] rfl)
def f_Bodies_isFed (a1 : Int32) (a2 : Int32) (S : SS) : Option (Int32 × SS) :=
  bnd (f_State_get a1 ((2 : Int32) + a2) S) (fun r2 S1 =>
  bnd (f_Bodies_kindOf r2 S1) (fun r4 S3 =>
  if r4 = (5 : Int32) then
    some ((1 : Int32), S3)
  else
    some ((0 : Int32), S3)))
theorem dX0_isFed_0 : decode cX0_isFed 0 = .ok (.aload_n 0, 1) := dc_42 (by decide +kernel)
theorem dX0_isFed_1 : decode cX0_isFed 1 = .ok (.aload_n 0, 1) := dc_42 (by decide +kernel)
theorem dX0_isFed_2 : decode cX0_isFed 2 = .ok (.getfield 15, 3) := dc_180 (a := 0) (b := 15) (by decide +kernel)
theorem dX0_isFed_5 : decode cX0_isFed 5 = .ok (.iload_n 1, 1) := dc_27 (by decide +kernel)
theorem dX0_isFed_6 : decode cX0_isFed 6 = .ok (.iconst 2, 1) := dc_5 (by decide +kernel)
theorem dX0_isFed_7 : decode cX0_isFed 7 = .ok (.iload_n 2, 1) := dc_28 (by decide +kernel)
theorem dX0_isFed_8 : decode cX0_isFed 8 = .ok (.iadd, 1) := dc_96 (by decide +kernel)
theorem dX0_isFed_9 : decode cX0_isFed 9 = .ok (.invokevirtual 68, 3) := dc_182 (a := 0) (b := 68) (by decide +kernel)
theorem dX0_isFed_12 : decode cX0_isFed 12 = .ok (.invokevirtual 33, 3) := dc_182 (a := 0) (b := 33) (by decide +kernel)
theorem dX0_isFed_15 : decode cX0_isFed 15 = .ok (.iconst 5, 1) := dc_8 (by decide +kernel)
theorem dX0_isFed_16 : decode cX0_isFed 16 = .ok (.if_icmp .ne 7, 3) := dc_160 (a := 0) (b := 7) (by decide +kernel) (by decide)
theorem dX0_isFed_19 : decode cX0_isFed 19 = .ok (.iconst 1, 1) := dc_4 (by decide +kernel)
theorem dX0_isFed_20 : decode cX0_isFed 20 = .ok (.goto 4, 3) := dc_167 (a := 0) (b := 4) (by decide +kernel) (by decide)
theorem dX0_isFed_23 : decode cX0_isFed 23 = .ok (.iconst 0, 1) := dc_3 (by decide +kernel)
theorem dX0_isFed_24 : decode cX0_isFed 24 = .ok (.ireturn, 1) := dc_172 (by decide +kernel)
set_option maxRecDepth 100000 in
set_option maxHeartbeats 4000000 in
theorem m_Bodies_isFed (a1 : Int32) (a2 : Int32) (S S' : SS) (r : Int32) (h : f_Bodies_isFed a1 a2 S = some (r, S')) : MT yX0_isFed cX0_isFed 3 (some .boolean) 2 43 (fun ad => [.ref (ad 69), .int a1, .int a2]) S (some (.int r)) S' := by
  refine MT.of RX0 (fun ad => [(0, .ref (ad 69)), (1, .int a1), (2, .int a2)]) (by decide) rfl (fun _ => Nat.le_of_ble_eq_true rfl) (fun _ => rfl) ?_
  intro p l e R s m args below meth c dC dI cs ad A hR1 hR2 F H locs ls w hl
  have hx := F.1.1
  have hb := F.1.2.1
  rw [f_Bodies_isFed] at h
  refine lv_aload_n (pc := 0) hx hb dX0_isFed_0 rfl (lv_at hl 0 rfl) ?_
  refine lv_aload_n (pc := 1) hx hb dX0_isFed_1 rfl (lv_at hl 0 rfl) ?_
  refine s_getR (pc := 2) F w 63 ds_69 (j := 0) vc_X0 vi_X0 rfl (by decide) kf_X0_15 dX0_isFed_2 ?_
  refine lv_iload_n (pc := 5) hx hb dX0_isFed_5 rfl (lv_at hl 1 rfl) ?_
  refine lv_iconst (pc := 6) (v := 2) hx hb dX0_isFed_6 (by decide) ?_
  refine lv_iload_n (pc := 7) hx hb dX0_isFed_7 rfl (lv_at hl 2 rfl) ?_
  refine lv_iadd (pc := 8) hx hb dX0_isFed_8 ?_
  obtain ⟨r2, S1, hc, h⟩ := bnd_t h
  refine s_cvi (pc := 9) [.int a1, .int ((2 : Int32) + a2)] (fun ad => [.ref (ad 63), .int a1, .int ((2 : Int32) + a2)]) F w (m_State_get _ _ _ _ _ hc) rfl rfl hl.1 ds_63 vc_X8 rfl ok_X8_get rfl kc_X8_get kl_X0_68 ki_X8_get kv_X8_get kn_X8 ⟨Nat.le_trans (by decide) hR1, Nat.le_trans (by decide) hR2⟩ ⟨Nat.zero_le _, Nat.zero_le _⟩ (Nat.le_of_ble_eq_true rfl) dX0_isFed_9 (fun H locs w => ?_)
  obtain ⟨r4, S3, hc, h⟩ := bnd_t h
  refine s_cvi (pc := 12) [.int r2] (fun ad => [.ref (ad 69), .int r2]) F w (m_Bodies_kindOf _ _ _ _ hc) rfl rfl hl.1 ds_69 vc_X0 rfl ok_X0_kindOf rfl kc_X0_kindOf kl_X0_33 ki_X0_kindOf kv_X0_kindOf kn_X0 ⟨Nat.le_trans (by decide) hR1, Nat.le_trans (by decide) hR2⟩ ⟨Nat.zero_le _, Nat.zero_le _⟩ (Nat.le_of_ble_eq_true rfl) dX0_isFed_12 (fun H locs w => ?_)
  refine lv_iconst (pc := 15) (v := 5) hx hb dX0_isFed_15 (by decide) ?_
  refine lv_icmp_ne (pc := 16) (tgt := 23) hx hb dX0_isFed_16 (by decide) (fun q => ?_) (fun q => ?_)
  · have h := ite_f q h
    refine lv_iconst (pc := 23) (v := 0) hx hb dX0_isFed_23 (by decide) ?_
    exact s_zretc F w rfl h dX0_isFed_24
  · have h := ite_t q h
    refine lv_iconst (pc := 19) (v := 1) hx hb dX0_isFed_19 (by decide) ?_
    refine lv_goto (pc := 20) (tgt := 24) hx hb dX0_isFed_20 (by decide) ?_
    exact s_zretc F w rfl h dX0_isFed_24
def f_Bodies_enginePulls (a1 : Int32) (S : SS) : Option (Int32 × SS) :=
  bndv (f_Report_beginBody (15 : Int32) S) (fun S1 =>
  bnd (f_Stock_get a1 (2 : Int32) S1) (fun r3 S2 =>
  some (r3, S2)))
theorem dX0_enginePulls_0 : decode cX0_enginePulls 0 = .ok (.aload_n 0, 1) := dc_42 (by decide +kernel)
theorem dX0_enginePulls_1 : decode cX0_enginePulls 1 = .ok (.getfield 23, 3) := dc_180 (a := 0) (b := 23) (by decide +kernel)
theorem dX0_enginePulls_4 : decode cX0_enginePulls 4 = .ok (.bipush 15, 2) := dc_16 (a := 15) (by decide +kernel) (by decide)
theorem dX0_enginePulls_6 : decode cX0_enginePulls 6 = .ok (.invokevirtual 40, 3) := dc_182 (a := 0) (b := 40) (by decide +kernel)
theorem dX0_enginePulls_9 : decode cX0_enginePulls 9 = .ok (.aload_n 0, 1) := dc_42 (by decide +kernel)
theorem dX0_enginePulls_10 : decode cX0_enginePulls 10 = .ok (.getfield 19, 3) := dc_180 (a := 0) (b := 19) (by decide +kernel)
theorem dX0_enginePulls_13 : decode cX0_enginePulls 13 = .ok (.iload_n 1, 1) := dc_27 (by decide +kernel)
theorem dX0_enginePulls_14 : decode cX0_enginePulls 14 = .ok (.iconst 2, 1) := dc_5 (by decide +kernel)
theorem dX0_enginePulls_15 : decode cX0_enginePulls 15 = .ok (.invokevirtual 29, 3) := dc_182 (a := 0) (b := 29) (by decide +kernel)
theorem dX0_enginePulls_18 : decode cX0_enginePulls 18 = .ok (.ireturn, 1) := dc_172 (by decide +kernel)
set_option maxRecDepth 100000 in
set_option maxHeartbeats 4000000 in
theorem m_Bodies_enginePulls (a1 : Int32) (S S' : SS) (r : Int32) (h : f_Bodies_enginePulls a1 S = some (r, S')) : MT yX0_enginePulls cX0_enginePulls 2 (some .int) 1 22 (fun ad => [.ref (ad 69), .int a1]) S (some (.int r)) S' := by
  refine MT.of RX0 (fun ad => [(0, .ref (ad 69)), (1, .int a1)]) (by decide) rfl (fun _ => Nat.le_of_ble_eq_true rfl) (fun _ => rfl) ?_
  intro p l e R s m args below meth c dC dI cs ad A hR1 hR2 F H locs ls w hl
  have hx := F.1.1
  have hb := F.1.2.1
  rw [f_Bodies_enginePulls] at h
  refine lv_aload_n (pc := 0) hx hb dX0_enginePulls_0 rfl (lv_at hl 0 rfl) ?_
  refine s_getR (pc := 1) F w 62 ds_69 (j := 2) vc_X0 vi_X0 rfl (by decide) kf_X0_23 dX0_enginePulls_1 ?_
  refine lv_bipush (pc := 4) (v := 15) hx hb dX0_enginePulls_4 (by decide) ?_
  obtain ⟨S1, hc, h⟩ := bndv_t h
  refine s_cvv (pc := 6) [.int (15 : Int32)] (fun ad => [.ref (ad 62), .int (15 : Int32)]) F w (m_Report_beginBody _ _ _ hc) rfl rfl hl.1 ds_62 vc_X5 rfl ok_X5_beginBody rfl kc_X5_beginBody kl_X0_40 ki_X5_beginBody kv_X5_beginBody kn_X5 ⟨Nat.le_trans (by decide) hR1, Nat.le_trans (by decide) hR2⟩ ⟨Nat.zero_le _, Nat.zero_le _⟩ (Nat.le_of_ble_eq_true rfl) dX0_enginePulls_6 (fun H locs w => ?_)
  refine lv_aload_n (pc := 9) hx hb dX0_enginePulls_9 rfl (lv_at hl 0 rfl) ?_
  refine s_getR (pc := 10) F w 65 ds_69 (j := 1) vc_X0 vi_X0 rfl (by decide) kf_X0_19 dX0_enginePulls_10 ?_
  refine lv_iload_n (pc := 13) hx hb dX0_enginePulls_13 rfl (lv_at hl 1 rfl) ?_
  refine lv_iconst (pc := 14) (v := 2) hx hb dX0_enginePulls_14 (by decide) ?_
  obtain ⟨r3, S2, hc, h⟩ := bnd_t h
  refine s_cvi (pc := 15) [.int a1, .int (2 : Int32)] (fun ad => [.ref (ad 65), .int a1, .int (2 : Int32)]) F w (m_Stock_get _ _ _ _ _ hc) rfl rfl hl.1 ds_65 vc_X9 rfl ok_X9_get rfl kc_X9_get kl_X0_29 ki_X9_get kv_X9_get kn_X9 ⟨Nat.le_trans (by decide) hR1, Nat.le_trans (by decide) hR2⟩ ⟨Nat.zero_le _, Nat.zero_le _⟩ (Nat.le_of_ble_eq_true rfl) dX0_enginePulls_15 (fun H locs w => ?_)
  exact s_iret F w h dX0_enginePulls_18
def f_Bodies_pulls_j43  (x1 : Int32) (S : SS) : Option (Int32 × SS) :=
    bnd (f_Bodies_enginePulls x1 S) (fun r7 S6 =>
    some (r7, S6))
def f_Bodies_pulls (a1 : Int32) (S : SS) : Option (Int32 × SS) :=
  bnd (f_Bodies_kindOf a1 S) (fun r2 S1 =>
  if r2 = (6 : Int32) then
    bndv (f_Report_beginBody (16 : Int32) S1) (fun S3 =>
    bnd (f_Bodies_isFed a1 (0 : Int32) S3) (fun r5 S4 =>
    if r5 = 0 then
      bnd (f_Bodies_isFed a1 (1 : Int32) S4) (fun r9 S8 =>
      if r9 = 0 then
        some ((0 : Int32), S8)
      else
        f_Bodies_pulls_j43 a1 S8)
    else
      f_Bodies_pulls_j43 a1 S4))
  else
    bnd (f_Bodies_enginePulls a1 S1) (fun r11 S10 =>
    some (r11, S10)))
theorem dX0_pulls_0 : decode cX0_pulls 0 = .ok (.aload_n 0, 1) := dc_42 (by decide +kernel)
theorem dX0_pulls_1 : decode cX0_pulls 1 = .ok (.iload_n 1, 1) := dc_27 (by decide +kernel)
theorem dX0_pulls_2 : decode cX0_pulls 2 = .ok (.invokevirtual 33, 3) := dc_182 (a := 0) (b := 33) (by decide +kernel)
theorem dX0_pulls_5 : decode cX0_pulls 5 = .ok (.bipush 6, 2) := dc_16 (a := 6) (by decide +kernel) (by decide)
theorem dX0_pulls_7 : decode cX0_pulls 7 = .ok (.if_icmp .eq 9, 3) := dc_159 (a := 0) (b := 9) (by decide +kernel) (by decide)
theorem dX0_pulls_10 : decode cX0_pulls 10 = .ok (.aload_n 0, 1) := dc_42 (by decide +kernel)
theorem dX0_pulls_11 : decode cX0_pulls 11 = .ok (.iload_n 1, 1) := dc_27 (by decide +kernel)
theorem dX0_pulls_12 : decode cX0_pulls 12 = .ok (.invokevirtual 59, 3) := dc_182 (a := 0) (b := 59) (by decide +kernel)
theorem dX0_pulls_15 : decode cX0_pulls 15 = .ok (.ireturn, 1) := dc_172 (by decide +kernel)
theorem dX0_pulls_16 : decode cX0_pulls 16 = .ok (.aload_n 0, 1) := dc_42 (by decide +kernel)
theorem dX0_pulls_17 : decode cX0_pulls 17 = .ok (.getfield 23, 3) := dc_180 (a := 0) (b := 23) (by decide +kernel)
theorem dX0_pulls_20 : decode cX0_pulls 20 = .ok (.bipush 16, 2) := dc_16 (a := 16) (by decide +kernel) (by decide)
theorem dX0_pulls_22 : decode cX0_pulls 22 = .ok (.invokevirtual 40, 3) := dc_182 (a := 0) (b := 40) (by decide +kernel)
theorem dX0_pulls_25 : decode cX0_pulls 25 = .ok (.aload_n 0, 1) := dc_42 (by decide +kernel)
theorem dX0_pulls_26 : decode cX0_pulls 26 = .ok (.iload_n 1, 1) := dc_27 (by decide +kernel)
theorem dX0_pulls_27 : decode cX0_pulls 27 = .ok (.iconst 0, 1) := dc_3 (by decide +kernel)
theorem dX0_pulls_28 : decode cX0_pulls 28 = .ok (.invokevirtual 62, 3) := dc_182 (a := 0) (b := 62) (by decide +kernel)
theorem dX0_pulls_31 : decode cX0_pulls 31 = .ok (.ifCond .ne 12, 3) := dc_154 (a := 0) (b := 12) (by decide +kernel) (by decide)
theorem dX0_pulls_34 : decode cX0_pulls 34 = .ok (.aload_n 0, 1) := dc_42 (by decide +kernel)
theorem dX0_pulls_35 : decode cX0_pulls 35 = .ok (.iload_n 1, 1) := dc_27 (by decide +kernel)
theorem dX0_pulls_36 : decode cX0_pulls 36 = .ok (.iconst 1, 1) := dc_4 (by decide +kernel)
theorem dX0_pulls_37 : decode cX0_pulls 37 = .ok (.invokevirtual 62, 3) := dc_182 (a := 0) (b := 62) (by decide +kernel)
theorem dX0_pulls_40 : decode cX0_pulls 40 = .ok (.ifCond .eq 11, 3) := dc_153 (a := 0) (b := 11) (by decide +kernel) (by decide)
theorem dX0_pulls_43 : decode cX0_pulls 43 = .ok (.aload_n 0, 1) := dc_42 (by decide +kernel)
theorem dX0_pulls_44 : decode cX0_pulls 44 = .ok (.iload_n 1, 1) := dc_27 (by decide +kernel)
theorem dX0_pulls_45 : decode cX0_pulls 45 = .ok (.invokevirtual 59, 3) := dc_182 (a := 0) (b := 59) (by decide +kernel)
theorem dX0_pulls_48 : decode cX0_pulls 48 = .ok (.goto 4, 3) := dc_167 (a := 0) (b := 4) (by decide +kernel) (by decide)
theorem dX0_pulls_51 : decode cX0_pulls 51 = .ok (.iconst 0, 1) := dc_3 (by decide +kernel)
theorem dX0_pulls_52 : decode cX0_pulls 52 = .ok (.ireturn, 1) := dc_172 (by decide +kernel)
set_option maxRecDepth 100000 in
set_option maxHeartbeats 4000000 in
theorem w_Bodies_pulls_j43 {p : Program} {l : Launch} {e : Env} {R : Room} {s : State} {m : MethodId} {args : Array Value} {below : List Frame} {meth : Method} {c : Code} {dC : Nat → ClassId} {dI : Nat → Nat → Nat} {cs : Nat → ClassId} {ad : Nat → Nat} {A : Nat → Prop} {D0 : Nat → Nat} {S' : SS} {r : Int32} (F : Fx p s m args meth c cX0_pulls 2 RX0 (some .int) dC dI cs A) (hR1 : 2 ≤ R.frames) (hR2 : 43 ≤ R.locals) (x1 : Int32) (S : SS) (h : f_Bodies_pulls_j43 x1 S = some (r, S')) : AW p l e R s m args below meth c dC dI cs ad A D0 (some (.int r)) S' 2 43 [(0, .ref (ad 69)), (1, .int x1)] [] S := by
  have hx := F.1.1
  have hb := F.1.2.1
  intro H locs ls w hl
  rw [f_Bodies_pulls_j43] at h
  refine lv_aload_n (pc := 43) hx hb dX0_pulls_43 rfl (lv_at hl 0 rfl) ?_
  refine lv_iload_n (pc := 44) hx hb dX0_pulls_44 rfl (lv_at hl 1 rfl) ?_
  obtain ⟨r7, S6, hc, h⟩ := bnd_t h
  refine s_cvi (pc := 45) [.int x1] (fun ad => [.ref (ad 69), .int x1]) F w (m_Bodies_enginePulls _ _ _ _ hc) rfl rfl hl.1 ds_69 vc_X0 rfl ok_X0_enginePulls rfl kc_X0_enginePulls kl_X0_59 ki_X0_enginePulls kv_X0_enginePulls kn_X0 ⟨Nat.le_trans (by decide) hR1, Nat.le_trans (by decide) hR2⟩ ⟨Nat.zero_le _, Nat.zero_le _⟩ (Nat.le_of_ble_eq_true rfl) dX0_pulls_45 (fun H locs w => ?_)
  refine lv_goto (pc := 48) (tgt := 52) hx hb dX0_pulls_48 (by decide) ?_
  exact s_iret F w h dX0_pulls_52
set_option maxRecDepth 100000 in
set_option maxHeartbeats 4000000 in
theorem m_Bodies_pulls (a1 : Int32) (S S' : SS) (r : Int32) (h : f_Bodies_pulls a1 S = some (r, S')) : MT yX0_pulls cX0_pulls 2 (some .int) 3 65 (fun ad => [.ref (ad 69), .int a1]) S (some (.int r)) S' := by
  refine MT.of RX0 (fun ad => [(0, .ref (ad 69)), (1, .int a1)]) (by decide) rfl (fun _ => Nat.le_of_ble_eq_true rfl) (fun _ => rfl) ?_
  intro p l e R s m args below meth c dC dI cs ad A hR1 hR2 F H locs ls w hl
  have hx := F.1.1
  have hb := F.1.2.1
  rw [f_Bodies_pulls] at h
  refine lv_aload_n (pc := 0) hx hb dX0_pulls_0 rfl (lv_at hl 0 rfl) ?_
  refine lv_iload_n (pc := 1) hx hb dX0_pulls_1 rfl (lv_at hl 1 rfl) ?_
  obtain ⟨r2, S1, hc, h⟩ := bnd_t h
  refine s_cvi (pc := 2) [.int a1] (fun ad => [.ref (ad 69), .int a1]) F w (m_Bodies_kindOf _ _ _ _ hc) rfl rfl hl.1 ds_69 vc_X0 rfl ok_X0_kindOf rfl kc_X0_kindOf kl_X0_33 ki_X0_kindOf kv_X0_kindOf kn_X0 ⟨Nat.le_trans (by decide) hR1, Nat.le_trans (by decide) hR2⟩ ⟨Nat.zero_le _, Nat.zero_le _⟩ (Nat.le_of_ble_eq_true rfl) dX0_pulls_2 (fun H locs w => ?_)
  refine lv_bipush (pc := 5) (v := 6) hx hb dX0_pulls_5 (by decide) ?_
  refine lv_icmp_eq (pc := 7) (tgt := 16) hx hb dX0_pulls_7 (by decide) (fun q => ?_) (fun q => ?_)
  · have h := ite_t q h
    refine lv_aload_n (pc := 16) hx hb dX0_pulls_16 rfl (lv_at hl 0 rfl) ?_
    refine s_getR (pc := 17) F w 62 ds_69 (j := 2) vc_X0 vi_X0 rfl (by decide) kf_X0_23 dX0_pulls_17 ?_
    refine lv_bipush (pc := 20) (v := 16) hx hb dX0_pulls_20 (by decide) ?_
    obtain ⟨S3, hc, h⟩ := bndv_t h
    refine s_cvv (pc := 22) [.int (16 : Int32)] (fun ad => [.ref (ad 62), .int (16 : Int32)]) F w (m_Report_beginBody _ _ _ hc) rfl rfl hl.1 ds_62 vc_X5 rfl ok_X5_beginBody rfl kc_X5_beginBody kl_X0_40 ki_X5_beginBody kv_X5_beginBody kn_X5 ⟨Nat.le_trans (by decide) hR1, Nat.le_trans (by decide) hR2⟩ ⟨Nat.zero_le _, Nat.zero_le _⟩ (Nat.le_of_ble_eq_true rfl) dX0_pulls_22 (fun H locs w => ?_)
    refine lv_aload_n (pc := 25) hx hb dX0_pulls_25 rfl (lv_at hl 0 rfl) ?_
    refine lv_iload_n (pc := 26) hx hb dX0_pulls_26 rfl (lv_at hl 1 rfl) ?_
    refine lv_iconst (pc := 27) (v := 0) hx hb dX0_pulls_27 (by decide) ?_
    obtain ⟨r5, S4, hc, h⟩ := bnd_t h
    refine s_cvi (pc := 28) [.int a1, .int (0 : Int32)] (fun ad => [.ref (ad 69), .int a1, .int (0 : Int32)]) F w (m_Bodies_isFed _ _ _ _ _ hc) rfl rfl hl.1 ds_69 vc_X0 rfl ok_X0_isFed rfl kc_X0_isFed kl_X0_62 ki_X0_isFed kv_X0_isFed kn_X0 ⟨Nat.le_trans (by decide) hR1, Nat.le_trans (by decide) hR2⟩ ⟨Nat.zero_le _, Nat.zero_le _⟩ (Nat.le_of_ble_eq_true rfl) dX0_pulls_28 (fun H locs w => ?_)
    refine lv_if_ne (pc := 31) (tgt := 43) hx hb dX0_pulls_31 (by decide) (fun q => ?_) (fun q => ?_)
    · have h := ite_f q h
      exact w_Bodies_pulls_j43 F (Nat.le_trans (by decide) hR1) (Nat.le_trans (by decide) hR2) _ _ h _ _ _ w (lv_sub hl [0, 1] rfl)
    · have h := ite_t q h
      refine lv_aload_n (pc := 34) hx hb dX0_pulls_34 rfl (lv_at hl 0 rfl) ?_
      refine lv_iload_n (pc := 35) hx hb dX0_pulls_35 rfl (lv_at hl 1 rfl) ?_
      refine lv_iconst (pc := 36) (v := 1) hx hb dX0_pulls_36 (by decide) ?_
      obtain ⟨r9, S8, hc, h⟩ := bnd_t h
      refine s_cvi (pc := 37) [.int a1, .int (1 : Int32)] (fun ad => [.ref (ad 69), .int a1, .int (1 : Int32)]) F w (m_Bodies_isFed _ _ _ _ _ hc) rfl rfl hl.1 ds_69 vc_X0 rfl ok_X0_isFed rfl kc_X0_isFed kl_X0_62 ki_X0_isFed kv_X0_isFed kn_X0 ⟨Nat.le_trans (by decide) hR1, Nat.le_trans (by decide) hR2⟩ ⟨Nat.zero_le _, Nat.zero_le _⟩ (Nat.le_of_ble_eq_true rfl) dX0_pulls_37 (fun H locs w => ?_)
      refine lv_if_eq (pc := 40) (tgt := 51) hx hb dX0_pulls_40 (by decide) (fun q => ?_) (fun q => ?_)
      · have h := ite_t q h
        refine lv_iconst (pc := 51) (v := 0) hx hb dX0_pulls_51 (by decide) ?_
        exact s_iret F w h dX0_pulls_52
      · have h := ite_f q h
        exact w_Bodies_pulls_j43 F (Nat.le_trans (by decide) hR1) (Nat.le_trans (by decide) hR2) _ _ h _ _ _ w (lv_sub hl [0, 1] rfl)
  · have h := ite_f q h
    refine lv_aload_n (pc := 10) hx hb dX0_pulls_10 rfl (lv_at hl 0 rfl) ?_
    refine lv_iload_n (pc := 11) hx hb dX0_pulls_11 rfl (lv_at hl 1 rfl) ?_
    obtain ⟨r11, S10, hc, h⟩ := bnd_t h
    refine s_cvi (pc := 12) [.int a1] (fun ad => [.ref (ad 69), .int a1]) F w (m_Bodies_enginePulls _ _ _ _ hc) rfl rfl hl.1 ds_69 vc_X0 rfl ok_X0_enginePulls rfl kc_X0_enginePulls kl_X0_59 ki_X0_enginePulls kv_X0_enginePulls kn_X0 ⟨Nat.le_trans (by decide) hR1, Nat.le_trans (by decide) hR2⟩ ⟨Nat.zero_le _, Nat.zero_le _⟩ (Nat.le_of_ble_eq_true rfl) dX0_pulls_12 (fun H locs w => ?_)
    exact s_iret F w h dX0_pulls_15
def f_Yard_linePulls_j53 (K4 : Int32 → Int32 → SS → Option (Int32 × SS)) (x1 : Int32) (x2 : Int32) (S : SS) : Option (Int32 × SS) :=
    nm (x2 + (1 : Int32)) (fun z5 =>
    K4 x1 z5 S)
def f_Yard_linePulls_L4  : Nat → Int32 → Int32 → SS → Option (Int32 × SS)
  | 0, _, _, _ => none
  | n + 1, x1, x2, S =>
    if (S.1 68 4) ≤ x2 then
      some (x1, S)
    else
      bnd (f_Trains_inLine x2 S) (fun r2 S1 =>
      bnd (f_Stock_isAs r2 (96 : Int32) S1) (fun r4 S3 =>
      if r4 = 0 then
        f_Yard_linePulls_j53 (fun v0 v1 S => f_Yard_linePulls_L4 n v0 v1 S) x1 x2 S3
      else
        bnd (f_Trains_inLine x2 S3) (fun r7 S6 =>
        bnd (f_Bodies_pulls r7 S6) (fun r9 S8 =>
        nm (x1 + r9) (fun z10 =>
        f_Yard_linePulls_j53 (fun v0 v1 S => f_Yard_linePulls_L4 n v0 v1 S) z10 x2 S8)))))
def f_Yard_linePulls  (S : SS) : Option (Int32 × SS) :=
  f_Yard_linePulls_L4 NF (0 : Int32) (0 : Int32) S
theorem dX11_linePulls_0 : decode cX11_linePulls 0 = .ok (.iconst 0, 1) := dc_3 (by decide +kernel)
theorem dX11_linePulls_1 : decode cX11_linePulls 1 = .ok (.istore_n 1, 1) := dc_60 (by decide +kernel)
theorem dX11_linePulls_2 : decode cX11_linePulls 2 = .ok (.iconst 0, 1) := dc_3 (by decide +kernel)
theorem dX11_linePulls_3 : decode cX11_linePulls 3 = .ok (.istore_n 2, 1) := dc_61 (by decide +kernel)
theorem dX11_linePulls_4 : decode cX11_linePulls 4 = .ok (.iload_n 2, 1) := dc_28 (by decide +kernel)
theorem dX11_linePulls_5 : decode cX11_linePulls 5 = .ok (.aload_n 0, 1) := dc_42 (by decide +kernel)
theorem dX11_linePulls_6 : decode cX11_linePulls 6 = .ok (.getfield 58, 3) := dc_180 (a := 0) (b := 58) (by decide +kernel)
theorem dX11_linePulls_9 : decode cX11_linePulls 9 = .ok (.getfield 296, 3) := dc_180 (a := 1) (b := 40) (by decide +kernel)
theorem dX11_linePulls_12 : decode cX11_linePulls 12 = .ok (.if_icmp .ge 47, 3) := dc_162 (a := 0) (b := 47) (by decide +kernel) (by decide)
theorem dX11_linePulls_15 : decode cX11_linePulls 15 = .ok (.aload_n 0, 1) := dc_42 (by decide +kernel)
theorem dX11_linePulls_16 : decode cX11_linePulls 16 = .ok (.getfield 33, 3) := dc_180 (a := 0) (b := 33) (by decide +kernel)
theorem dX11_linePulls_19 : decode cX11_linePulls 19 = .ok (.aload_n 0, 1) := dc_42 (by decide +kernel)
theorem dX11_linePulls_20 : decode cX11_linePulls 20 = .ok (.getfield 58, 3) := dc_180 (a := 0) (b := 58) (by decide +kernel)
theorem dX11_linePulls_23 : decode cX11_linePulls 23 = .ok (.iload_n 2, 1) := dc_28 (by decide +kernel)
theorem dX11_linePulls_24 : decode cX11_linePulls 24 = .ok (.invokevirtual 299, 3) := dc_182 (a := 1) (b := 43) (by decide +kernel)
theorem dX11_linePulls_27 : decode cX11_linePulls 27 = .ok (.bipush 96, 2) := dc_16 (a := 96) (by decide +kernel) (by decide)
theorem dX11_linePulls_29 : decode cX11_linePulls 29 = .ok (.invokevirtual 247, 3) := dc_182 (a := 0) (b := 247) (by decide +kernel)
theorem dX11_linePulls_32 : decode cX11_linePulls 32 = .ok (.ifCond .eq 21, 3) := dc_153 (a := 0) (b := 21) (by decide +kernel) (by decide)
theorem dX11_linePulls_35 : decode cX11_linePulls 35 = .ok (.iload_n 1, 1) := dc_27 (by decide +kernel)
theorem dX11_linePulls_36 : decode cX11_linePulls 36 = .ok (.aload_n 0, 1) := dc_42 (by decide +kernel)
theorem dX11_linePulls_37 : decode cX11_linePulls 37 = .ok (.getfield 67, 3) := dc_180 (a := 0) (b := 67) (by decide +kernel)
theorem dX11_linePulls_40 : decode cX11_linePulls 40 = .ok (.aload_n 0, 1) := dc_42 (by decide +kernel)
theorem dX11_linePulls_41 : decode cX11_linePulls 41 = .ok (.getfield 58, 3) := dc_180 (a := 0) (b := 58) (by decide +kernel)
theorem dX11_linePulls_44 : decode cX11_linePulls 44 = .ok (.iload_n 2, 1) := dc_28 (by decide +kernel)
theorem dX11_linePulls_45 : decode cX11_linePulls 45 = .ok (.invokevirtual 299, 3) := dc_182 (a := 1) (b := 43) (by decide +kernel)
theorem dX11_linePulls_48 : decode cX11_linePulls 48 = .ok (.invokevirtual 305, 3) := dc_182 (a := 1) (b := 49) (by decide +kernel)
theorem dX11_linePulls_51 : decode cX11_linePulls 51 = .ok (.iadd, 1) := dc_96 (by decide +kernel)
theorem dX11_linePulls_52 : decode cX11_linePulls 52 = .ok (.istore_n 1, 1) := dc_60 (by decide +kernel)
theorem dX11_linePulls_53 : decode cX11_linePulls 53 = .ok (.iinc 2 1, 3) := dc_132 (a := 2) (b := 1) (by decide +kernel) (by decide)
theorem dX11_linePulls_56 : decode cX11_linePulls 56 = .ok (.goto (-52), 3) := dc_167 (a := 255) (b := 204) (by decide +kernel) (by decide)
theorem dX11_linePulls_59 : decode cX11_linePulls 59 = .ok (.iload_n 1, 1) := dc_27 (by decide +kernel)
theorem dX11_linePulls_60 : decode cX11_linePulls 60 = .ok (.ireturn, 1) := dc_172 (by decide +kernel)
set_option maxRecDepth 100000 in
set_option maxHeartbeats 4000000 in
theorem w_Yard_linePulls_j53 {p : Program} {l : Launch} {e : Env} {R : Room} {s : State} {m : MethodId} {args : Array Value} {below : List Frame} {meth : Method} {c : Code} {dC : Nat → ClassId} {dI : Nat → Nat → Nat} {cs : Nat → ClassId} {ad : Nat → Nat} {A : Nat → Prop} {D0 : Nat → Nat} {S' : SS} {r : Int32} (F : Fx p s m args meth c cX11_linePulls 3 RX11 (some .int) dC dI cs A) (hR1 : 0 ≤ R.frames) (hR2 : 0 ≤ R.locals) (K4 : Int32 → Int32 → SS → Option (Int32 × SS)) (hK4 : ∀ (v0 : Int32) (v1 : Int32) (S : SS), K4 v0 v1 S = some (r, S') → AW p l e R s m args below meth c dC dI cs ad A D0 (some (.int r)) S' 3 4 [(0, .ref (ad 61)), (1, .int v0), (2, .int v1)] [] S) (x1 : Int32) (x2 : Int32) (S : SS) (h : f_Yard_linePulls_j53 K4 x1 x2 S = some (r, S')) : AW p l e R s m args below meth c dC dI cs ad A D0 (some (.int r)) S' 3 53 [(0, .ref (ad 61)), (1, .int x1), (2, .int x2)] [] S := by
  have hx := F.1.1
  have hb := F.1.2.1
  intro H locs ls w hl
  rw [f_Yard_linePulls_j53] at h
  refine s_nm h (fun z5 ez5 h => ?_)
  refine lv_iinc (pc := 53) (v := z5) (lv' := [(2, .int z5), (0, .ref (ad 61)), (1, .int x1)]) hx hb dX11_linePulls_53 hl (k := 2) rfl (by rw [ez5]; rfl) (by decide) rfl (fun ls hl => ?_)
  refine lv_goto (pc := 56) (tgt := 4) hx hb dX11_linePulls_56 (by decide) ?_
  exact hK4 _ _ _ h _ _ _ w (lv_sub hl [1, 2, 0] rfl)
set_option maxRecDepth 100000 in
set_option maxHeartbeats 4000000 in
theorem w_Yard_linePulls_L4 {p : Program} {l : Launch} {e : Env} {R : Room} {s : State} {m : MethodId} {args : Array Value} {below : List Frame} {meth : Method} {c : Code} {dC : Nat → ClassId} {dI : Nat → Nat → Nat} {cs : Nat → ClassId} {ad : Nat → Nat} {A : Nat → Prop} {D0 : Nat → Nat} {S' : SS} {r : Int32} (F : Fx p s m args meth c cX11_linePulls 3 RX11 (some .int) dC dI cs A) (hR1 : 4 ≤ R.frames) (hR2 : 86 ≤ R.locals) : ∀ (n : Nat) (x1 : Int32) (x2 : Int32) (S : SS), f_Yard_linePulls_L4 n x1 x2 S = some (r, S') → AW p l e R s m args below meth c dC dI cs ad A D0 (some (.int r)) S' 3 4 [(0, .ref (ad 61)), (1, .int x1), (2, .int x2)] [] S := by
  have hx := F.1.1
  have hb := F.1.2.1
  intro n
  induction n with
  | zero => intro x1 x2 S h; cases h
  | succ n ih =>
    intro x1 x2 S h H locs ls w hl
    rw [f_Yard_linePulls_L4] at h
    refine lv_iload_n (pc := 4) hx hb dX11_linePulls_4 rfl (lv_at hl 2 rfl) ?_
    refine lv_aload_n (pc := 5) hx hb dX11_linePulls_5 rfl (lv_at hl 0 rfl) ?_
    refine s_getR (pc := 6) F w 68 ds_61 (j := 6) vc_X11 vi_X11 rfl (by decide) kf_X11_58 dX11_linePulls_6 ?_
    refine s_getI (pc := 9) F w ds_68 (j := 4) vc_X10 vi_X10 rfl (by decide) kf_X11_296 dX11_linePulls_9 ?_
    refine lv_icmp_ge (pc := 12) (tgt := 59) hx hb dX11_linePulls_12 (by decide) (fun q => ?_) (fun q => ?_)
    · have h := ite_t q h
      refine lv_iload_n (pc := 59) hx hb dX11_linePulls_59 rfl (lv_at hl 1 rfl) ?_
      exact s_iret F w h dX11_linePulls_60
    · have h := ite_f q h
      refine lv_aload_n (pc := 15) hx hb dX11_linePulls_15 rfl (lv_at hl 0 rfl) ?_
      refine s_getR (pc := 16) F w 65 ds_61 (j := 3) vc_X11 vi_X11 rfl (by decide) kf_X11_33 dX11_linePulls_16 ?_
      refine lv_aload_n (pc := 19) hx hb dX11_linePulls_19 rfl (lv_at hl 0 rfl) ?_
      refine s_getR (pc := 20) F w 68 ds_61 (j := 6) vc_X11 vi_X11 rfl (by decide) kf_X11_58 dX11_linePulls_20 ?_
      refine lv_iload_n (pc := 23) hx hb dX11_linePulls_23 rfl (lv_at hl 2 rfl) ?_
      obtain ⟨r2, S1, hc, h⟩ := bnd_t h
      refine s_cvi (pc := 24) [.int x2] (fun ad => [.ref (ad 68), .int x2]) F w (m_Trains_inLine _ _ _ _ hc) rfl rfl hl.1 ds_68 vc_X10 rfl ok_X10_inLine rfl kc_X10_inLine kl_X11_299 ki_X10_inLine kv_X10_inLine kn_X10 ⟨Nat.le_trans (by decide) hR1, Nat.le_trans (by decide) hR2⟩ ⟨Nat.zero_le _, Nat.zero_le _⟩ (Nat.le_of_ble_eq_true rfl) dX11_linePulls_24 (fun H locs w => ?_)
      refine lv_bipush (pc := 27) (v := 96) hx hb dX11_linePulls_27 (by decide) ?_
      obtain ⟨r4, S3, hc, h⟩ := bnd_t h
      refine s_cvi (pc := 29) [.int r2, .int (96 : Int32)] (fun ad => [.ref (ad 65), .int r2, .int (96 : Int32)]) F w (m_Stock_isAs _ _ _ _ _ hc) rfl rfl hl.1 ds_65 vc_X9 rfl ok_X9_isAs rfl kc_X9_isAs kl_X11_247 ki_X9_isAs kv_X9_isAs kn_X9 ⟨Nat.le_trans (by decide) hR1, Nat.le_trans (by decide) hR2⟩ ⟨Nat.zero_le _, Nat.zero_le _⟩ (Nat.le_of_ble_eq_true rfl) dX11_linePulls_29 (fun H locs w => ?_)
      refine lv_if_eq (pc := 32) (tgt := 53) hx hb dX11_linePulls_32 (by decide) (fun q => ?_) (fun q => ?_)
      · have h := ite_t q h
        exact w_Yard_linePulls_j53 F (Nat.le_trans (by decide) hR1) (Nat.le_trans (by decide) hR2) _ (fun v0 v1 S h => ih v0 v1 S h) _ _ _ h _ _ _ w (lv_sub hl [0, 1, 2] rfl)
      · have h := ite_f q h
        refine lv_iload_n (pc := 35) hx hb dX11_linePulls_35 rfl (lv_at hl 1 rfl) ?_
        refine lv_aload_n (pc := 36) hx hb dX11_linePulls_36 rfl (lv_at hl 0 rfl) ?_
        refine s_getR (pc := 37) F w 69 ds_61 (j := 7) vc_X11 vi_X11 rfl (by decide) kf_X11_67 dX11_linePulls_37 ?_
        refine lv_aload_n (pc := 40) hx hb dX11_linePulls_40 rfl (lv_at hl 0 rfl) ?_
        refine s_getR (pc := 41) F w 68 ds_61 (j := 6) vc_X11 vi_X11 rfl (by decide) kf_X11_58 dX11_linePulls_41 ?_
        refine lv_iload_n (pc := 44) hx hb dX11_linePulls_44 rfl (lv_at hl 2 rfl) ?_
        obtain ⟨r7, S6, hc, h⟩ := bnd_t h
        refine s_cvi (pc := 45) [.int x2] (fun ad => [.ref (ad 68), .int x2]) F w (m_Trains_inLine _ _ _ _ hc) rfl rfl hl.1 ds_68 vc_X10 rfl ok_X10_inLine rfl kc_X10_inLine kl_X11_299 ki_X10_inLine kv_X10_inLine kn_X10 ⟨Nat.le_trans (by decide) hR1, Nat.le_trans (by decide) hR2⟩ ⟨Nat.zero_le _, Nat.zero_le _⟩ (Nat.le_of_ble_eq_true rfl) dX11_linePulls_45 (fun H locs w => ?_)
        obtain ⟨r9, S8, hc, h⟩ := bnd_t h
        refine s_cvi (pc := 48) [.int r7] (fun ad => [.ref (ad 69), .int r7]) F w (m_Bodies_pulls _ _ _ _ hc) rfl rfl hl.1 ds_69 vc_X0 rfl ok_X0_pulls rfl kc_X0_pulls kl_X11_305 ki_X0_pulls kv_X0_pulls kn_X0 ⟨Nat.le_trans (by decide) hR1, Nat.le_trans (by decide) hR2⟩ ⟨Nat.zero_le _, Nat.zero_le _⟩ (Nat.le_of_ble_eq_true rfl) dX11_linePulls_48 (fun H locs w => ?_)
        refine lv_iadd (pc := 51) hx hb dX11_linePulls_51 ?_
        refine s_nm h (fun z10 ez10 h => ?_)
        rw [← ez10]
        refine lv_istore_n (pc := 52) (lv' := [(1, .int z10), (0, .ref (ad 61)), (2, .int x2)]) hx hb dX11_linePulls_52 rfl hl (by decide) rfl (fun ls hl => ?_)
        exact w_Yard_linePulls_j53 F (Nat.le_trans (by decide) hR1) (Nat.le_trans (by decide) hR2) _ (fun v0 v1 S h => ih v0 v1 S h) _ _ _ h _ _ _ w (lv_sub hl [1, 0, 2] rfl)
set_option maxRecDepth 100000 in
set_option maxHeartbeats 4000000 in
theorem m_Yard_linePulls  (S S' : SS) (r : Int32) (h : f_Yard_linePulls  S = some (r, S')) : MT yX11_linePulls cX11_linePulls 3 (some .int) 4 86 (fun ad => [.ref (ad 61)]) S (some (.int r)) S' := by
  refine MT.of RX11 (fun ad => [(0, .ref (ad 61))]) (by decide) rfl (fun _ => Nat.le_of_ble_eq_true rfl) (fun _ => rfl) ?_
  intro p l e R s m args below meth c dC dI cs ad A hR1 hR2 F H locs ls w hl
  have hx := F.1.1
  have hb := F.1.2.1
  rw [f_Yard_linePulls] at h
  refine lv_iconst (pc := 0) (v := 0) hx hb dX11_linePulls_0 (by decide) ?_
  refine lv_istore_n (pc := 1) (lv' := [(1, .int (0 : Int32)), (0, .ref (ad 61))]) hx hb dX11_linePulls_1 rfl hl (by decide) rfl (fun ls hl => ?_)
  refine lv_iconst (pc := 2) (v := 0) hx hb dX11_linePulls_2 (by decide) ?_
  refine lv_istore_n (pc := 3) (lv' := [(2, .int (0 : Int32)), (1, .int (0 : Int32)), (0, .ref (ad 61))]) hx hb dX11_linePulls_3 rfl hl (by decide) rfl (fun ls hl => ?_)
  exact w_Yard_linePulls_L4 F (Nat.le_trans (by decide) hR1) (Nat.le_trans (by decide) hR2) _ _ _ _ h _ _ _ w (lv_sub hl [2, 1, 0] rfl)
def f_State_goTo (a1 : Int32) (a2 : Int32) (a3 : Int32) (S : SS) : Option (SS) :=
  bndv (f_State_set (a1 >>> ((1 : Int32) &&& 31)) (0 : Int32) a2 S) (fun S1 =>
  bndv (f_State_set (a1 >>> ((1 : Int32) &&& 31)) (1 : Int32) (a3 ^^^ (a1 &&& (1 : Int32))) S1) (fun S2 =>
  some S2))
theorem dX8_goTo_0 : decode cX8_goTo 0 = .ok (.aload_n 0, 1) := dc_42 (by decide +kernel)
theorem dX8_goTo_1 : decode cX8_goTo 1 = .ok (.iload_n 1, 1) := dc_27 (by decide +kernel)
theorem dX8_goTo_2 : decode cX8_goTo 2 = .ok (.iconst 1, 1) := dc_4 (by decide +kernel)
theorem dX8_goTo_3 : decode cX8_goTo 3 = .ok (.ishr, 1) := dc_122 (by decide +kernel)
theorem dX8_goTo_4 : decode cX8_goTo 4 = .ok (.iconst 0, 1) := dc_3 (by decide +kernel)
theorem dX8_goTo_5 : decode cX8_goTo 5 = .ok (.iload_n 2, 1) := dc_28 (by decide +kernel)
theorem dX8_goTo_6 : decode cX8_goTo 6 = .ok (.invokevirtual 27, 3) := dc_182 (a := 0) (b := 27) (by decide +kernel)
theorem dX8_goTo_9 : decode cX8_goTo 9 = .ok (.aload_n 0, 1) := dc_42 (by decide +kernel)
theorem dX8_goTo_10 : decode cX8_goTo 10 = .ok (.iload_n 1, 1) := dc_27 (by decide +kernel)
theorem dX8_goTo_11 : decode cX8_goTo 11 = .ok (.iconst 1, 1) := dc_4 (by decide +kernel)
theorem dX8_goTo_12 : decode cX8_goTo 12 = .ok (.ishr, 1) := dc_122 (by decide +kernel)
theorem dX8_goTo_13 : decode cX8_goTo 13 = .ok (.iconst 1, 1) := dc_4 (by decide +kernel)
theorem dX8_goTo_14 : decode cX8_goTo 14 = .ok (.iload_n 3, 1) := dc_29 (by decide +kernel)
theorem dX8_goTo_15 : decode cX8_goTo 15 = .ok (.iload_n 1, 1) := dc_27 (by decide +kernel)
theorem dX8_goTo_16 : decode cX8_goTo 16 = .ok (.iconst 1, 1) := dc_4 (by decide +kernel)
theorem dX8_goTo_17 : decode cX8_goTo 17 = .ok (.iand, 1) := dc_126 (by decide +kernel)
theorem dX8_goTo_18 : decode cX8_goTo 18 = .ok (.ixor, 1) := dc_130 (by decide +kernel)
theorem dX8_goTo_19 : decode cX8_goTo 19 = .ok (.invokevirtual 27, 3) := dc_182 (a := 0) (b := 27) (by decide +kernel)
theorem dX8_goTo_22 : decode cX8_goTo 22 = .ok (.return_, 1) := dc_177 (by decide +kernel)
set_option maxRecDepth 100000 in
set_option maxHeartbeats 4000000 in
theorem m_State_goTo (a1 : Int32) (a2 : Int32) (a3 : Int32) (S S' : SS) (h : f_State_goTo a1 a2 a3 S = some S') : MT yX8_goTo cX8_goTo 4 none 1 23 (fun ad => [.ref (ad 63), .int a1, .int a2, .int a3]) S none S' := by
  refine MT.of RX8 (fun ad => [(0, .ref (ad 63)), (1, .int a1), (2, .int a2), (3, .int a3)]) (by decide) rfl (fun _ => Nat.le_of_ble_eq_true rfl) (fun _ => rfl) ?_
  intro p l e R s m args below meth c dC dI cs ad A hR1 hR2 F H locs ls w hl
  have hx := F.1.1
  have hb := F.1.2.1
  rw [f_State_goTo] at h
  refine lv_aload_n (pc := 0) hx hb dX8_goTo_0 rfl (lv_at hl 0 rfl) ?_
  refine lv_iload_n (pc := 1) hx hb dX8_goTo_1 rfl (lv_at hl 1 rfl) ?_
  refine lv_iconst (pc := 2) (v := 1) hx hb dX8_goTo_2 (by decide) ?_
  refine lv_ishr (pc := 3) hx hb dX8_goTo_3 ?_
  refine lv_iconst (pc := 4) (v := 0) hx hb dX8_goTo_4 (by decide) ?_
  refine lv_iload_n (pc := 5) hx hb dX8_goTo_5 rfl (lv_at hl 2 rfl) ?_
  obtain ⟨S1, hc, h⟩ := bndv_t h
  refine s_cvv (pc := 6) [.int (a1 >>> ((1 : Int32) &&& 31)), .int (0 : Int32), .int a2] (fun ad => [.ref (ad 63), .int (a1 >>> ((1 : Int32) &&& 31)), .int (0 : Int32), .int a2]) F w (m_State_set _ _ _ _ _ hc) rfl rfl hl.1 ds_63 vc_X8 rfl ok_X8_set rfl kc_X8_set kl_X8_27 ki_X8_set kv_X8_set kn_X8 ⟨Nat.le_trans (by decide) hR1, Nat.le_trans (by decide) hR2⟩ ⟨Nat.zero_le _, Nat.zero_le _⟩ (Nat.le_of_ble_eq_true rfl) dX8_goTo_6 (fun H locs w => ?_)
  refine lv_aload_n (pc := 9) hx hb dX8_goTo_9 rfl (lv_at hl 0 rfl) ?_
  refine lv_iload_n (pc := 10) hx hb dX8_goTo_10 rfl (lv_at hl 1 rfl) ?_
  refine lv_iconst (pc := 11) (v := 1) hx hb dX8_goTo_11 (by decide) ?_
  refine lv_ishr (pc := 12) hx hb dX8_goTo_12 ?_
  refine lv_iconst (pc := 13) (v := 1) hx hb dX8_goTo_13 (by decide) ?_
  refine lv_iload_n (pc := 14) hx hb dX8_goTo_14 rfl (lv_at hl 3 rfl) ?_
  refine lv_iload_n (pc := 15) hx hb dX8_goTo_15 rfl (lv_at hl 1 rfl) ?_
  refine lv_iconst (pc := 16) (v := 1) hx hb dX8_goTo_16 (by decide) ?_
  refine lv_iand (pc := 17) hx hb dX8_goTo_17 ?_
  refine lv_ixor (pc := 18) hx hb dX8_goTo_18 ?_
  obtain ⟨S2, hc, h⟩ := bndv_t h
  refine s_cvv (pc := 19) [.int (a1 >>> ((1 : Int32) &&& 31)), .int (1 : Int32), .int (a3 ^^^ (a1 &&& (1 : Int32)))] (fun ad => [.ref (ad 63), .int (a1 >>> ((1 : Int32) &&& 31)), .int (1 : Int32), .int (a3 ^^^ (a1 &&& (1 : Int32)))]) F w (m_State_set _ _ _ _ _ hc) rfl rfl hl.1 ds_63 vc_X8 rfl ok_X8_set rfl kc_X8_set kl_X8_27 ki_X8_set kv_X8_set kn_X8 ⟨Nat.le_trans (by decide) hR1, Nat.le_trans (by decide) hR2⟩ ⟨Nat.zero_le _, Nat.zero_le _⟩ (Nat.le_of_ble_eq_true rfl) dX8_goTo_19 (fun H locs w => ?_)
  exact s_vret F w h dX8_goTo_22
def f_Math_max_7cf53 (a0 : Int32) (a1 : Int32) (S : SS) : Option (Int32 × SS) :=
  if a0 < a1 then
    some (a1, S)
  else
    some (a0, S)
theorem dJ9_max_7cf53_0 : decode cJ9_max_7cf53 0 = .ok (.iload_n 0, 1) := dc_26 (by decide +kernel)
theorem dJ9_max_7cf53_1 : decode cJ9_max_7cf53 1 = .ok (.iload_n 1, 1) := dc_27 (by decide +kernel)
theorem dJ9_max_7cf53_2 : decode cJ9_max_7cf53 2 = .ok (.if_icmp .lt 7, 3) := dc_161 (a := 0) (b := 7) (by decide +kernel) (by decide)
theorem dJ9_max_7cf53_5 : decode cJ9_max_7cf53 5 = .ok (.iload_n 0, 1) := dc_26 (by decide +kernel)
theorem dJ9_max_7cf53_6 : decode cJ9_max_7cf53 6 = .ok (.goto 4, 3) := dc_167 (a := 0) (b := 4) (by decide +kernel) (by decide)
theorem dJ9_max_7cf53_9 : decode cJ9_max_7cf53 9 = .ok (.iload_n 1, 1) := dc_27 (by decide +kernel)
theorem dJ9_max_7cf53_10 : decode cJ9_max_7cf53 10 = .ok (.ireturn, 1) := dc_172 (by decide +kernel)
set_option maxRecDepth 100000 in
set_option maxHeartbeats 4000000 in
theorem m_Math_max_7cf53 (a0 : Int32) (a1 : Int32) (S S' : SS) (r : Int32) (h : f_Math_max_7cf53 a0 a1 S = some (r, S')) : MT yJ9_max_7cf53 cJ9_max_7cf53 2 (some .int) 0 0 (fun ad => [.int a0, .int a1]) S (some (.int r)) S' := by
  refine MT.ofF RJ9 (fun ad => [(0, .int a0), (1, .int a1)]) (by decide +kernel) rfl (fun _ => Nat.le_of_ble_eq_true rfl) (fun _ => rfl) ?_
  intro p l e R s m args below meth c dC dI cs ad A hR1 hR2 F H locs ls w hl
  have hx := F.1.1
  have hb := F.1.2.1
  rw [f_Math_max_7cf53] at h
  refine lv_iload_n (pc := 0) hx hb dJ9_max_7cf53_0 rfl (lv_at hl 0 rfl) ?_
  refine lv_iload_n (pc := 1) hx hb dJ9_max_7cf53_1 rfl (lv_at hl 1 rfl) ?_
  refine lv_icmp_lt (pc := 2) (tgt := 9) hx hb dJ9_max_7cf53_2 (by decide) (fun q => ?_) (fun q => ?_)
  · have h := ite_t q h
    refine lv_iload_n (pc := 9) hx hb dJ9_max_7cf53_9 rfl (lv_at hl 1 rfl) ?_
    exact s_iret F w h dJ9_max_7cf53_10
  · have h := ite_f q h
    refine lv_iload_n (pc := 5) hx hb dJ9_max_7cf53_5 rfl (lv_at hl 0 rfl) ?_
    refine lv_goto (pc := 6) (tgt := 10) hx hb dJ9_max_7cf53_6 (by decide) ?_
    exact s_iret F w h dJ9_max_7cf53_10
