/-! ===== printed by wip/gen: State_looks Layout_trackOf Layout_placeOf Layout_endNextTo Layout_leadsTo Layout_nextPlace Trains_nextFrom Trains_isCoupled State_isRunning Trains_hookAt Trains_onward Trains_lineUp Trains_hookInLine Trains_inLine Trains_areOne Trains_reachFinding Bodies_kindOf Report_beginBody Bodies_wagonSuits Bodies_suits ===== -/
def f_State_looks (a1 : Int32) (S : SS) : Option (Int32 × SS) :=
  bnd (f_State_get (a1 >>> ((1 : Int32) &&& 31)) (1 : Int32) S) (fun r2 S1 =>
  some (r2 ^^^ (a1 &&& (1 : Int32)), S1))
theorem dX8_looks_0 : decode cX8_looks 0 = .ok (.aload_n 0, 1) := dc_42 (by decide +kernel)
theorem dX8_looks_1 : decode cX8_looks 1 = .ok (.iload_n 1, 1) := dc_27 (by decide +kernel)
theorem dX8_looks_2 : decode cX8_looks 2 = .ok (.iconst 1, 1) := dc_4 (by decide +kernel)
theorem dX8_looks_3 : decode cX8_looks 3 = .ok (.ishr, 1) := dc_122 (by decide +kernel)
theorem dX8_looks_4 : decode cX8_looks 4 = .ok (.iconst 1, 1) := dc_4 (by decide +kernel)
theorem dX8_looks_5 : decode cX8_looks 5 = .ok (.invokevirtual 31, 3) := dc_182 (a := 0) (b := 31) (by decide +kernel)
theorem dX8_looks_8 : decode cX8_looks 8 = .ok (.iload_n 1, 1) := dc_27 (by decide +kernel)
theorem dX8_looks_9 : decode cX8_looks 9 = .ok (.iconst 1, 1) := dc_4 (by decide +kernel)
theorem dX8_looks_10 : decode cX8_looks 10 = .ok (.iand, 1) := dc_126 (by decide +kernel)
theorem dX8_looks_11 : decode cX8_looks 11 = .ok (.ixor, 1) := dc_130 (by decide +kernel)
theorem dX8_looks_12 : decode cX8_looks 12 = .ok (.ireturn, 1) := dc_172 (by decide +kernel)
set_option maxRecDepth 100000 in
set_option maxHeartbeats 4000000 in
theorem m_State_looks (a1 : Int32) (S S' : SS) (r : Int32) (h : f_State_looks a1 S = some (r, S')) : MT yX8_looks cX8_looks 2 (some .int) 1 22 (fun ad => [.ref (ad 63), .int a1]) S (some (.int r)) S' := by
  refine MT.of RX8 (fun ad => [(0, .ref (ad 63)), (1, .int a1)]) (by decide) rfl (fun _ => Nat.le_of_ble_eq_true rfl) (fun _ => rfl) ?_
  intro p l e R s m args below meth c dC dI cs ad A hR1 hR2 F H locs ls w hl
  have hx := F.1.1
  have hb := F.1.2.1
  rw [f_State_looks] at h
  refine lv_aload_n (pc := 0) hx hb dX8_looks_0 rfl (lv_at hl 0 rfl) ?_
  refine lv_iload_n (pc := 1) hx hb dX8_looks_1 rfl (lv_at hl 1 rfl) ?_
  refine lv_iconst (pc := 2) (v := 1) hx hb dX8_looks_2 (by decide) ?_
  refine lv_ishr (pc := 3) hx hb dX8_looks_3 ?_
  refine lv_iconst (pc := 4) (v := 1) hx hb dX8_looks_4 (by decide) ?_
  obtain ⟨r2, S1, hc, h⟩ := bnd_t h
  refine s_cvi (pc := 5) [.int (a1 >>> ((1 : Int32) &&& 31)), .int (1 : Int32)] (fun ad => [.ref (ad 63), .int (a1 >>> ((1 : Int32) &&& 31)), .int (1 : Int32)]) F w (m_State_get _ _ _ _ _ hc) rfl rfl hl.1 ds_63 vc_X8 rfl ok_X8_get rfl kc_X8_get kl_X8_31 ki_X8_get kv_X8_get kn_X8 ⟨Nat.le_trans (by decide) hR1, Nat.le_trans (by decide) hR2⟩ ⟨Nat.zero_le _, Nat.zero_le _⟩ (Nat.le_of_ble_eq_true rfl) dX8_looks_5 (fun H locs w => ?_)
  refine lv_iload_n (pc := 8) hx hb dX8_looks_8 rfl (lv_at hl 1 rfl) ?_
  refine lv_iconst (pc := 9) (v := 1) hx hb dX8_looks_9 (by decide) ?_
  refine lv_iand (pc := 10) hx hb dX8_looks_10 ?_
  refine lv_ixor (pc := 11) hx hb dX8_looks_11 ?_
  exact s_iret F w h dX8_looks_12
def f_Layout_trackOf (a0 : Int32) (S : SS) : Option (Int32 × SS) :=
  some (a0 / (24 : Int32), S)
theorem dX2_trackOf_0 : decode cX2_trackOf 0 = .ok (.iload_n 0, 1) := dc_26 (by decide +kernel)
theorem dX2_trackOf_1 : decode cX2_trackOf 1 = .ok (.bipush 24, 2) := dc_16 (a := 24) (by decide +kernel) (by decide)
theorem dX2_trackOf_3 : decode cX2_trackOf 3 = .ok (.idiv, 1) := dc_108 (by decide +kernel)
theorem dX2_trackOf_4 : decode cX2_trackOf 4 = .ok (.ireturn, 1) := dc_172 (by decide +kernel)
set_option maxRecDepth 100000 in
set_option maxHeartbeats 4000000 in
theorem m_Layout_trackOf (a0 : Int32) (S S' : SS) (r : Int32) (h : f_Layout_trackOf a0 S = some (r, S')) : MT yX2_trackOf cX2_trackOf 1 (some .int) 0 0 (fun ad => [.int a0]) S (some (.int r)) S' := by
  refine MT.of RX2 (fun ad => [(0, .int a0)]) (by decide) rfl (fun _ => Nat.le_of_ble_eq_true rfl) (fun _ => rfl) ?_
  intro p l e R s m args below meth c dC dI cs ad A hR1 hR2 F H locs ls w hl
  have hx := F.1.1
  have hb := F.1.2.1
  rw [f_Layout_trackOf] at h
  refine lv_iload_n (pc := 0) hx hb dX2_trackOf_0 rfl (lv_at hl 0 rfl) ?_
  refine lv_bipush (pc := 1) (v := 24) hx hb dX2_trackOf_1 (by decide) ?_
  refine lv_idiv (pc := 3) hx hb dX2_trackOf_3 (by decide) ?_
  exact s_iret F w h dX2_trackOf_4
def f_Layout_placeOf (a0 : Int32) (S : SS) : Option (Int32 × SS) :=
  some (a0 - a0 / (24 : Int32) * (24 : Int32), S)
theorem dX2_placeOf_0 : decode cX2_placeOf 0 = .ok (.iload_n 0, 1) := dc_26 (by decide +kernel)
theorem dX2_placeOf_1 : decode cX2_placeOf 1 = .ok (.bipush 24, 2) := dc_16 (a := 24) (by decide +kernel) (by decide)
theorem dX2_placeOf_3 : decode cX2_placeOf 3 = .ok (.irem, 1) := dc_112 (by decide +kernel)
theorem dX2_placeOf_4 : decode cX2_placeOf 4 = .ok (.ireturn, 1) := dc_172 (by decide +kernel)
set_option maxRecDepth 100000 in
set_option maxHeartbeats 4000000 in
theorem m_Layout_placeOf (a0 : Int32) (S S' : SS) (r : Int32) (h : f_Layout_placeOf a0 S = some (r, S')) : MT yX2_placeOf cX2_placeOf 1 (some .int) 0 0 (fun ad => [.int a0]) S (some (.int r)) S' := by
  refine MT.of RX2 (fun ad => [(0, .int a0)]) (by decide) rfl (fun _ => Nat.le_of_ble_eq_true rfl) (fun _ => rfl) ?_
  intro p l e R s m args below meth c dC dI cs ad A hR1 hR2 F H locs ls w hl
  have hx := F.1.1
  have hb := F.1.2.1
  rw [f_Layout_placeOf] at h
  refine lv_iload_n (pc := 0) hx hb dX2_placeOf_0 rfl (lv_at hl 0 rfl) ?_
  refine lv_bipush (pc := 1) (v := 24) hx hb dX2_placeOf_1 (by decide) ?_
  refine lv_irem (pc := 3) hx hb dX2_placeOf_3 (by decide) ?_
  exact s_iret F w h dX2_placeOf_4
def f_Layout_endNextTo_j20  (x1 : Int32) (x2 : Int32) (x3 : Int32) (y0 : Int32) (S : SS) : Option (Int32 × SS) :=
    bnd (f_Layout_placeOf x1 S) (fun r6 S5 =>
    if r6 = y0 then
      some (((2 : Int32) * x3) + x2, S5)
    else
      some ((-4 : Int32), S5))
def f_Layout_endNextTo (a1 : Int32) (a2 : Int32) (S : SS) : Option (Int32 × SS) :=
  bnd (f_Layout_trackOf a1 S) (fun r2 S1 =>
  if a2 = 0 then
    f_Layout_endNextTo_j20 a1 a2 r2 (0 : Int32) S1
  else
    bnd (f_Layout_placesOf r2 S1) (fun r4 S3 =>
    f_Layout_endNextTo_j20 a1 a2 r2 (r4 - (1 : Int32)) S3))
theorem dX2_endNextTo_0 : decode cX2_endNextTo 0 = .ok (.iload_n 1, 1) := dc_27 (by decide +kernel)
theorem dX2_endNextTo_1 : decode cX2_endNextTo 1 = .ok (.invokestatic 89, 3) := dc_184 (a := 0) (b := 89) (by decide +kernel)
theorem dX2_endNextTo_4 : decode cX2_endNextTo 4 = .ok (.istore_n 3, 1) := dc_62 (by decide +kernel)
theorem dX2_endNextTo_5 : decode cX2_endNextTo 5 = .ok (.iload_n 2, 1) := dc_28 (by decide +kernel)
theorem dX2_endNextTo_6 : decode cX2_endNextTo 6 = .ok (.ifCond .ne 7, 3) := dc_154 (a := 0) (b := 7) (by decide +kernel) (by decide)
theorem dX2_endNextTo_9 : decode cX2_endNextTo 9 = .ok (.iconst 0, 1) := dc_3 (by decide +kernel)
theorem dX2_endNextTo_10 : decode cX2_endNextTo 10 = .ok (.goto 10, 3) := dc_167 (a := 0) (b := 10) (by decide +kernel) (by decide)
theorem dX2_endNextTo_13 : decode cX2_endNextTo 13 = .ok (.aload_n 0, 1) := dc_42 (by decide +kernel)
theorem dX2_endNextTo_14 : decode cX2_endNextTo 14 = .ok (.iload_n 3, 1) := dc_29 (by decide +kernel)
theorem dX2_endNextTo_15 : decode cX2_endNextTo 15 = .ok (.invokevirtual 62, 3) := dc_182 (a := 0) (b := 62) (by decide +kernel)
theorem dX2_endNextTo_18 : decode cX2_endNextTo 18 = .ok (.iconst 1, 1) := dc_4 (by decide +kernel)
theorem dX2_endNextTo_19 : decode cX2_endNextTo 19 = .ok (.isub, 1) := dc_100 (by decide +kernel)
theorem dX2_endNextTo_20 : decode cX2_endNextTo 20 = .ok (.istore 4, 2) := dc_54 (a := 4) (by decide +kernel)
theorem dX2_endNextTo_22 : decode cX2_endNextTo 22 = .ok (.iload_n 1, 1) := dc_27 (by decide +kernel)
theorem dX2_endNextTo_23 : decode cX2_endNextTo 23 = .ok (.invokestatic 92, 3) := dc_184 (a := 0) (b := 92) (by decide +kernel)
theorem dX2_endNextTo_26 : decode cX2_endNextTo 26 = .ok (.iload 4, 2) := dc_21 (a := 4) (by decide +kernel)
theorem dX2_endNextTo_28 : decode cX2_endNextTo 28 = .ok (.if_icmp .ne 11, 3) := dc_160 (a := 0) (b := 11) (by decide +kernel) (by decide)
theorem dX2_endNextTo_31 : decode cX2_endNextTo 31 = .ok (.iconst 2, 1) := dc_5 (by decide +kernel)
theorem dX2_endNextTo_32 : decode cX2_endNextTo 32 = .ok (.iload_n 3, 1) := dc_29 (by decide +kernel)
theorem dX2_endNextTo_33 : decode cX2_endNextTo 33 = .ok (.imul, 1) := dc_104 (by decide +kernel)
theorem dX2_endNextTo_34 : decode cX2_endNextTo 34 = .ok (.iload_n 2, 1) := dc_28 (by decide +kernel)
theorem dX2_endNextTo_35 : decode cX2_endNextTo 35 = .ok (.iadd, 1) := dc_96 (by decide +kernel)
theorem dX2_endNextTo_36 : decode cX2_endNextTo 36 = .ok (.goto 5, 3) := dc_167 (a := 0) (b := 5) (by decide +kernel) (by decide)
theorem dX2_endNextTo_39 : decode cX2_endNextTo 39 = .ok (.bipush (-4), 2) := dc_16 (a := 252) (by decide +kernel) (by decide)
theorem dX2_endNextTo_41 : decode cX2_endNextTo 41 = .ok (.ireturn, 1) := dc_172 (by decide +kernel)
set_option maxRecDepth 100000 in
set_option maxHeartbeats 4000000 in
theorem w_Layout_endNextTo_j20 {p : Program} {l : Launch} {e : Env} {R : Room} {s : State} {m : MethodId} {args : Array Value} {below : List Frame} {meth : Method} {c : Code} {dC : Nat → ClassId} {dI : Nat → Nat → Nat} {cs : Nat → ClassId} {ad : Nat → Nat} {A : Nat → Prop} {D0 : Nat → Nat} {S' : SS} {r : Int32} (F : Fx p s m args meth c cX2_endNextTo 5 RX2 (some .int) dC dI cs A) (hR1 : 1 ≤ R.frames) (hR2 : 20 ≤ R.locals) (x1 : Int32) (x2 : Int32) (x3 : Int32) (y0 : Int32) (S : SS) (h : f_Layout_endNextTo_j20 x1 x2 x3 y0 S = some (r, S')) : AW p l e R s m args below meth c dC dI cs ad A D0 (some (.int r)) S' 5 20 [(1, .int x1), (2, .int x2), (3, .int x3)] [.int y0] S := by
  have hx := F.1.1
  have hb := F.1.2.1
  intro H locs ls w hl
  rw [f_Layout_endNextTo_j20] at h
  refine lv_istore (pc := 20) (lv' := [(4, .int y0), (1, .int x1), (2, .int x2), (3, .int x3)]) hx hb dX2_endNextTo_20 hl (by decide) rfl (fun ls hl => ?_)
  refine lv_iload_n (pc := 22) hx hb dX2_endNextTo_22 rfl (lv_at hl 1 rfl) ?_
  obtain ⟨r6, S5, hc, h⟩ := bnd_t h
  refine s_csi (pc := 23) [.int x1] (fun ad => [.int x1]) F w (m_Layout_placeOf _ _ _ _ hc) rfl rfl hl.1 ok_X2_placeOf rfl kc_X2_placeOf kl_X2_92 ks_X2_placeOf kn_X2 ⟨Nat.le_trans (by decide) hR1, Nat.le_trans (by decide) hR2⟩ ⟨Nat.zero_le _, Nat.zero_le _⟩ (Nat.le_of_ble_eq_true rfl) dX2_endNextTo_23 (fun H locs w => ?_)
  refine lv_iload (pc := 26) hx hb dX2_endNextTo_26 (lv_at hl 0 rfl) ?_
  refine lv_icmp_ne (pc := 28) (tgt := 39) hx hb dX2_endNextTo_28 (by decide) (fun q => ?_) (fun q => ?_)
  · have h := ite_f q h
    refine lv_bipush (pc := 39) (v := -4) hx hb dX2_endNextTo_39 (by decide) ?_
    exact s_iret F w h dX2_endNextTo_41
  · have h := ite_t q h
    refine lv_iconst (pc := 31) (v := 2) hx hb dX2_endNextTo_31 (by decide) ?_
    refine lv_iload_n (pc := 32) hx hb dX2_endNextTo_32 rfl (lv_at hl 3 rfl) ?_
    refine lv_imul (pc := 33) hx hb dX2_endNextTo_33 ?_
    refine lv_iload_n (pc := 34) hx hb dX2_endNextTo_34 rfl (lv_at hl 2 rfl) ?_
    refine lv_iadd (pc := 35) hx hb dX2_endNextTo_35 ?_
    refine lv_goto (pc := 36) (tgt := 41) hx hb dX2_endNextTo_36 (by decide) ?_
    exact s_iret F w h dX2_endNextTo_41
set_option maxRecDepth 100000 in
set_option maxHeartbeats 4000000 in
theorem m_Layout_endNextTo (a1 : Int32) (a2 : Int32) (S S' : SS) (r : Int32) (h : f_Layout_endNextTo a1 a2 S = some (r, S')) : MT yX2_endNextTo cX2_endNextTo 5 (some .int) 1 21 (fun ad => [.ref (ad 66), .int a1, .int a2]) S (some (.int r)) S' := by
  refine MT.of RX2 (fun ad => [(0, .ref (ad 66)), (1, .int a1), (2, .int a2)]) (by decide) rfl (fun _ => Nat.le_of_ble_eq_true rfl) (fun _ => rfl) ?_
  intro p l e R s m args below meth c dC dI cs ad A hR1 hR2 F H locs ls w hl
  have hx := F.1.1
  have hb := F.1.2.1
  rw [f_Layout_endNextTo] at h
  refine lv_iload_n (pc := 0) hx hb dX2_endNextTo_0 rfl (lv_at hl 1 rfl) ?_
  obtain ⟨r2, S1, hc, h⟩ := bnd_t h
  refine s_csi (pc := 1) [.int a1] (fun ad => [.int a1]) F w (m_Layout_trackOf _ _ _ _ hc) rfl rfl hl.1 ok_X2_trackOf rfl kc_X2_trackOf kl_X2_89 ks_X2_trackOf kn_X2 ⟨Nat.le_trans (by decide) hR1, Nat.le_trans (by decide) hR2⟩ ⟨Nat.zero_le _, Nat.zero_le _⟩ (Nat.le_of_ble_eq_true rfl) dX2_endNextTo_1 (fun H locs w => ?_)
  refine lv_istore_n (pc := 4) (lv' := [(3, .int r2), (0, .ref (ad 66)), (1, .int a1), (2, .int a2)]) hx hb dX2_endNextTo_4 rfl hl (by decide) rfl (fun ls hl => ?_)
  refine lv_iload_n (pc := 5) hx hb dX2_endNextTo_5 rfl (lv_at hl 3 rfl) ?_
  refine lv_if_ne (pc := 6) (tgt := 13) hx hb dX2_endNextTo_6 (by decide) (fun q => ?_) (fun q => ?_)
  · have h := ite_f q h
    refine lv_aload_n (pc := 13) hx hb dX2_endNextTo_13 rfl (lv_at hl 1 rfl) ?_
    refine lv_iload_n (pc := 14) hx hb dX2_endNextTo_14 rfl (lv_at hl 0 rfl) ?_
    obtain ⟨r4, S3, hc, h⟩ := bnd_t h
    refine s_cvi (pc := 15) [.int r2] (fun ad => [.ref (ad 66), .int r2]) F w (m_Layout_placesOf _ _ _ _ hc) rfl rfl hl.1 ds_66 vc_X2 rfl ok_X2_placesOf rfl kc_X2_placesOf kl_X2_62 ki_X2_placesOf kv_X2_placesOf kn_X2 ⟨Nat.le_trans (by decide) hR1, Nat.le_trans (by decide) hR2⟩ ⟨Nat.zero_le _, Nat.zero_le _⟩ (Nat.le_of_ble_eq_true rfl) dX2_endNextTo_15 (fun H locs w => ?_)
    refine lv_iconst (pc := 18) (v := 1) hx hb dX2_endNextTo_18 (by decide) ?_
    refine lv_isub (pc := 19) hx hb dX2_endNextTo_19 ?_
    exact w_Layout_endNextTo_j20 F (Nat.le_trans (by decide) hR1) (Nat.le_trans (by decide) hR2) _ _ _ _ _ h _ _ _ w (lv_sub hl [2, 3, 0] rfl)
  · have h := ite_t q h
    refine lv_iconst (pc := 9) (v := 0) hx hb dX2_endNextTo_9 (by decide) ?_
    refine lv_goto (pc := 10) (tgt := 20) hx hb dX2_endNextTo_10 (by decide) ?_
    exact w_Layout_endNextTo_j20 F (Nat.le_trans (by decide) hR1) (Nat.le_trans (by decide) hR2) _ _ _ _ _ h _ _ _ w (lv_sub hl [2, 3, 0] rfl)
def f_Layout_leadsTo_j24  (x1 : Int32) (y0 : Int32) (S : SS) : Option (Int32 × SS) :=
    if y0 < 0 then
      some ((-4 : Int32), S)
    else
      bnd (f_Layout_linksAt x1 S) (fun r6 S5 =>
      if y0 < r6 then
        grd (inb (((3 : Int32) * x1) + y0) 144) (
        some (S5.1 97 (((3 : Int32) * x1) + y0).toNatClampNeg, S5))
      else
        some ((-4 : Int32), S5))
def f_Layout_leadsTo (a1 : Int32) (S : SS) : Option (Int32 × SS) :=
  bnd (f_Layout_pointAt a1 S) (fun r2 S1 =>
  if r2 = (-4 : Int32) then
    f_Layout_leadsTo_j24 a1 (0 : Int32) S1
  else
    bnd (f_State_setting r2 S1) (fun r4 S3 =>
    f_Layout_leadsTo_j24 a1 r4 S3))
theorem dX2_leadsTo_0 : decode cX2_leadsTo 0 = .ok (.aload_n 0, 1) := dc_42 (by decide +kernel)
theorem dX2_leadsTo_1 : decode cX2_leadsTo 1 = .ok (.iload_n 1, 1) := dc_27 (by decide +kernel)
theorem dX2_leadsTo_2 : decode cX2_leadsTo 2 = .ok (.invokevirtual 75, 3) := dc_182 (a := 0) (b := 75) (by decide +kernel)
theorem dX2_leadsTo_5 : decode cX2_leadsTo 5 = .ok (.istore_n 2, 1) := dc_61 (by decide +kernel)
theorem dX2_leadsTo_6 : decode cX2_leadsTo 6 = .ok (.iload_n 2, 1) := dc_28 (by decide +kernel)
theorem dX2_leadsTo_7 : decode cX2_leadsTo 7 = .ok (.bipush (-4), 2) := dc_16 (a := 252) (by decide +kernel) (by decide)
theorem dX2_leadsTo_9 : decode cX2_leadsTo 9 = .ok (.if_icmp .ne 7, 3) := dc_160 (a := 0) (b := 7) (by decide +kernel) (by decide)
theorem dX2_leadsTo_12 : decode cX2_leadsTo 12 = .ok (.iconst 0, 1) := dc_3 (by decide +kernel)
theorem dX2_leadsTo_13 : decode cX2_leadsTo 13 = .ok (.goto 11, 3) := dc_167 (a := 0) (b := 11) (by decide +kernel) (by decide)
theorem dX2_leadsTo_16 : decode cX2_leadsTo 16 = .ok (.aload_n 0, 1) := dc_42 (by decide +kernel)
theorem dX2_leadsTo_17 : decode cX2_leadsTo 17 = .ok (.getfield 38, 3) := dc_180 (a := 0) (b := 38) (by decide +kernel)
theorem dX2_leadsTo_20 : decode cX2_leadsTo 20 = .ok (.iload_n 2, 1) := dc_28 (by decide +kernel)
theorem dX2_leadsTo_21 : decode cX2_leadsTo 21 = .ok (.invokevirtual 82, 3) := dc_182 (a := 0) (b := 82) (by decide +kernel)
theorem dX2_leadsTo_24 : decode cX2_leadsTo 24 = .ok (.istore_n 3, 1) := dc_62 (by decide +kernel)
theorem dX2_leadsTo_25 : decode cX2_leadsTo 25 = .ok (.iload_n 3, 1) := dc_29 (by decide +kernel)
theorem dX2_leadsTo_26 : decode cX2_leadsTo 26 = .ok (.ifCond .lt 12, 3) := dc_155 (a := 0) (b := 12) (by decide +kernel) (by decide)
theorem dX2_leadsTo_29 : decode cX2_leadsTo 29 = .ok (.iload_n 3, 1) := dc_29 (by decide +kernel)
theorem dX2_leadsTo_30 : decode cX2_leadsTo 30 = .ok (.aload_n 0, 1) := dc_42 (by decide +kernel)
theorem dX2_leadsTo_31 : decode cX2_leadsTo 31 = .ok (.iload_n 1, 1) := dc_27 (by decide +kernel)
theorem dX2_leadsTo_32 : decode cX2_leadsTo 32 = .ok (.invokevirtual 72, 3) := dc_182 (a := 0) (b := 72) (by decide +kernel)
theorem dX2_leadsTo_35 : decode cX2_leadsTo 35 = .ok (.if_icmp .lt 8, 3) := dc_161 (a := 0) (b := 8) (by decide +kernel) (by decide)
theorem dX2_leadsTo_38 : decode cX2_leadsTo 38 = .ok (.bipush (-4), 2) := dc_16 (a := 252) (by decide +kernel) (by decide)
theorem dX2_leadsTo_40 : decode cX2_leadsTo 40 = .ok (.goto 13, 3) := dc_167 (a := 0) (b := 13) (by decide +kernel) (by decide)
theorem dX2_leadsTo_43 : decode cX2_leadsTo 43 = .ok (.aload_n 0, 1) := dc_42 (by decide +kernel)
theorem dX2_leadsTo_44 : decode cX2_leadsTo 44 = .ok (.getfield 24, 3) := dc_180 (a := 0) (b := 24) (by decide +kernel)
theorem dX2_leadsTo_47 : decode cX2_leadsTo 47 = .ok (.iconst 3, 1) := dc_6 (by decide +kernel)
theorem dX2_leadsTo_48 : decode cX2_leadsTo 48 = .ok (.iload_n 1, 1) := dc_27 (by decide +kernel)
theorem dX2_leadsTo_49 : decode cX2_leadsTo 49 = .ok (.imul, 1) := dc_104 (by decide +kernel)
theorem dX2_leadsTo_50 : decode cX2_leadsTo 50 = .ok (.iload_n 3, 1) := dc_29 (by decide +kernel)
theorem dX2_leadsTo_51 : decode cX2_leadsTo 51 = .ok (.iadd, 1) := dc_96 (by decide +kernel)
theorem dX2_leadsTo_52 : decode cX2_leadsTo 52 = .ok (.iaload, 1) := dc_46 (by decide +kernel)
theorem dX2_leadsTo_53 : decode cX2_leadsTo 53 = .ok (.ireturn, 1) := dc_172 (by decide +kernel)
set_option maxRecDepth 100000 in
set_option maxHeartbeats 4000000 in
theorem w_Layout_leadsTo_j24 {p : Program} {l : Launch} {e : Env} {R : Room} {s : State} {m : MethodId} {args : Array Value} {below : List Frame} {meth : Method} {c : Code} {dC : Nat → ClassId} {dI : Nat → Nat → Nat} {cs : Nat → ClassId} {ad : Nat → Nat} {A : Nat → Prop} {D0 : Nat → Nat} {S' : SS} {r : Int32} (F : Fx p s m args meth c cX2_leadsTo 4 RX2 (some .int) dC dI cs A) (hR1 : 1 ≤ R.frames) (hR2 : 21 ≤ R.locals) (x1 : Int32) (y0 : Int32) (S : SS) (h : f_Layout_leadsTo_j24 x1 y0 S = some (r, S')) : AW p l e R s m args below meth c dC dI cs ad A D0 (some (.int r)) S' 4 24 [(0, .ref (ad 66)), (1, .int x1)] [.int y0] S := by
  have hx := F.1.1
  have hb := F.1.2.1
  intro H locs ls w hl
  rw [f_Layout_leadsTo_j24] at h
  refine lv_istore_n (pc := 24) (lv' := [(3, .int y0), (0, .ref (ad 66)), (1, .int x1)]) hx hb dX2_leadsTo_24 rfl hl (by decide) rfl (fun ls hl => ?_)
  refine lv_iload_n (pc := 25) hx hb dX2_leadsTo_25 rfl (lv_at hl 0 rfl) ?_
  refine lv_if_lt (pc := 26) (tgt := 38) hx hb dX2_leadsTo_26 (by decide) (fun q => ?_) (fun q => ?_)
  · have h := ite_t q h
    refine lv_bipush (pc := 38) (v := -4) hx hb dX2_leadsTo_38 (by decide) ?_
    refine lv_goto (pc := 40) (tgt := 53) hx hb dX2_leadsTo_40 (by decide) ?_
    exact s_iret F w h dX2_leadsTo_53
  · have h := ite_f q h
    refine lv_iload_n (pc := 29) hx hb dX2_leadsTo_29 rfl (lv_at hl 0 rfl) ?_
    refine lv_aload_n (pc := 30) hx hb dX2_leadsTo_30 rfl (lv_at hl 1 rfl) ?_
    refine lv_iload_n (pc := 31) hx hb dX2_leadsTo_31 rfl (lv_at hl 2 rfl) ?_
    obtain ⟨r6, S5, hc, h⟩ := bnd_t h
    refine s_cvi (pc := 32) [.int x1] (fun ad => [.ref (ad 66), .int x1]) F w (m_Layout_linksAt _ _ _ _ hc) rfl rfl hl.1 ds_66 vc_X2 rfl ok_X2_linksAt rfl kc_X2_linksAt kl_X2_72 ki_X2_linksAt kv_X2_linksAt kn_X2 ⟨Nat.le_trans (by decide) hR1, Nat.le_trans (by decide) hR2⟩ ⟨Nat.zero_le _, Nat.zero_le _⟩ (Nat.le_of_ble_eq_true rfl) dX2_leadsTo_32 (fun H locs w => ?_)
    refine lv_icmp_lt (pc := 35) (tgt := 43) hx hb dX2_leadsTo_35 (by decide) (fun q => ?_) (fun q => ?_)
    · have h := ite_t q h
      refine lv_aload_n (pc := 43) hx hb dX2_leadsTo_43 rfl (lv_at hl 1 rfl) ?_
      refine s_getR (pc := 44) F w 97 ds_66 (j := 5) vc_X2 vi_X2 rfl (by decide) kf_X2_24 dX2_leadsTo_44 ?_
      refine lv_iconst (pc := 47) (v := 3) hx hb dX2_leadsTo_47 (by decide) ?_
      refine lv_iload_n (pc := 48) hx hb dX2_leadsTo_48 rfl (lv_at hl 2 rfl) ?_
      refine lv_imul (pc := 49) hx hb dX2_leadsTo_49 ?_
      refine lv_iload_n (pc := 50) hx hb dX2_leadsTo_50 rfl (lv_at hl 0 rfl) ?_
      refine lv_iadd (pc := 51) hx hb dX2_leadsTo_51 ?_
      refine s_iald (pc := 52) F w ds_97 h dX2_leadsTo_52 (fun h => ?_)
      exact s_iret F w h dX2_leadsTo_53
    · have h := ite_f q h
      refine lv_bipush (pc := 38) (v := -4) hx hb dX2_leadsTo_38 (by decide) ?_
      refine lv_goto (pc := 40) (tgt := 53) hx hb dX2_leadsTo_40 (by decide) ?_
      exact s_iret F w h dX2_leadsTo_53
set_option maxRecDepth 100000 in
set_option maxHeartbeats 4000000 in
theorem m_Layout_leadsTo (a1 : Int32) (S S' : SS) (r : Int32) (h : f_Layout_leadsTo a1 S = some (r, S')) : MT yX2_leadsTo cX2_leadsTo 4 (some .int) 1 21 (fun ad => [.ref (ad 66), .int a1]) S (some (.int r)) S' := by
  refine MT.of RX2 (fun ad => [(0, .ref (ad 66)), (1, .int a1)]) (by decide) rfl (fun _ => Nat.le_of_ble_eq_true rfl) (fun _ => rfl) ?_
  intro p l e R s m args below meth c dC dI cs ad A hR1 hR2 F H locs ls w hl
  have hx := F.1.1
  have hb := F.1.2.1
  rw [f_Layout_leadsTo] at h
  refine lv_aload_n (pc := 0) hx hb dX2_leadsTo_0 rfl (lv_at hl 0 rfl) ?_
  refine lv_iload_n (pc := 1) hx hb dX2_leadsTo_1 rfl (lv_at hl 1 rfl) ?_
  obtain ⟨r2, S1, hc, h⟩ := bnd_t h
  refine s_cvi (pc := 2) [.int a1] (fun ad => [.ref (ad 66), .int a1]) F w (m_Layout_pointAt _ _ _ _ hc) rfl rfl hl.1 ds_66 vc_X2 rfl ok_X2_pointAt rfl kc_X2_pointAt kl_X2_75 ki_X2_pointAt kv_X2_pointAt kn_X2 ⟨Nat.le_trans (by decide) hR1, Nat.le_trans (by decide) hR2⟩ ⟨Nat.zero_le _, Nat.zero_le _⟩ (Nat.le_of_ble_eq_true rfl) dX2_leadsTo_2 (fun H locs w => ?_)
  refine lv_istore_n (pc := 5) (lv' := [(2, .int r2), (0, .ref (ad 66)), (1, .int a1)]) hx hb dX2_leadsTo_5 rfl hl (by decide) rfl (fun ls hl => ?_)
  refine lv_iload_n (pc := 6) hx hb dX2_leadsTo_6 rfl (lv_at hl 0 rfl) ?_
  refine lv_bipush (pc := 7) (v := -4) hx hb dX2_leadsTo_7 (by decide) ?_
  refine lv_icmp_ne (pc := 9) (tgt := 16) hx hb dX2_leadsTo_9 (by decide) (fun q => ?_) (fun q => ?_)
  · have h := ite_f q h
    refine lv_aload_n (pc := 16) hx hb dX2_leadsTo_16 rfl (lv_at hl 1 rfl) ?_
    refine s_getR (pc := 17) F w 63 ds_66 (j := 0) vc_X2 vi_X2 rfl (by decide) kf_X2_38 dX2_leadsTo_17 ?_
    refine lv_iload_n (pc := 20) hx hb dX2_leadsTo_20 rfl (lv_at hl 0 rfl) ?_
    obtain ⟨r4, S3, hc, h⟩ := bnd_t h
    refine s_cvi (pc := 21) [.int r2] (fun ad => [.ref (ad 63), .int r2]) F w (m_State_setting _ _ _ _ hc) rfl rfl hl.1 ds_63 vc_X8 rfl ok_X8_setting rfl kc_X8_setting kl_X2_82 ki_X8_setting kv_X8_setting kn_X8 ⟨Nat.le_trans (by decide) hR1, Nat.le_trans (by decide) hR2⟩ ⟨Nat.zero_le _, Nat.zero_le _⟩ (Nat.le_of_ble_eq_true rfl) dX2_leadsTo_21 (fun H locs w => ?_)
    exact w_Layout_leadsTo_j24 F (Nat.le_trans (by decide) hR1) (Nat.le_trans (by decide) hR2) _ _ _ h _ _ _ w (lv_sub hl [1, 2] rfl)
  · have h := ite_t q h
    refine lv_iconst (pc := 12) (v := 0) hx hb dX2_leadsTo_12 (by decide) ?_
    refine lv_goto (pc := 13) (tgt := 24) hx hb dX2_leadsTo_13 (by decide) ?_
    exact w_Layout_leadsTo_j24 F (Nat.le_trans (by decide) hR1) (Nat.le_trans (by decide) hR2) _ _ _ h _ _ _ w (lv_sub hl [1, 2] rfl)
def f_Layout_nextPlace (a1 : Int32) (a2 : Int32) (S : SS) : Option (Int32 × SS) :=
  bnd (f_Layout_endNextTo a1 a2 S) (fun r2 S1 =>
  if r2 = (-4 : Int32) then
    some (((2 : Int32) * ((a1 + ((2 : Int32) * a2)) - (1 : Int32))) + a2, S1)
  else
    bnd (f_Layout_leadsTo r2 S1) (fun r4 S3 =>
    if r4 = (-4 : Int32) then
      some ((-4 : Int32), S3)
    else
      bnd (f_Layout_leadsTo r4 S3) (fun r6 S5 =>
      if r6 = r2 then
        bnd (f_Layout_spotAt r4 S5) (fun r8 S7 =>
        if r8 = a1 then
          some ((-4 : Int32), S7)
        else
          bnd (f_Layout_spotAt r4 S7) (fun r10 S9 =>
          some ((((2 : Int32) * r10) + (1 : Int32)) - (r4 &&& (1 : Int32)), S9)))
      else
        some ((-4 : Int32), S5))))
theorem dX2_nextPlace_0 : decode cX2_nextPlace 0 = .ok (.aload_n 0, 1) := dc_42 (by decide +kernel)
theorem dX2_nextPlace_1 : decode cX2_nextPlace 1 = .ok (.iload_n 1, 1) := dc_27 (by decide +kernel)
theorem dX2_nextPlace_2 : decode cX2_nextPlace 2 = .ok (.iload_n 2, 1) := dc_28 (by decide +kernel)
theorem dX2_nextPlace_3 : decode cX2_nextPlace 3 = .ok (.invokevirtual 85, 3) := dc_182 (a := 0) (b := 85) (by decide +kernel)
theorem dX2_nextPlace_6 : decode cX2_nextPlace 6 = .ok (.istore_n 3, 1) := dc_62 (by decide +kernel)
theorem dX2_nextPlace_7 : decode cX2_nextPlace 7 = .ok (.iload_n 3, 1) := dc_29 (by decide +kernel)
theorem dX2_nextPlace_8 : decode cX2_nextPlace 8 = .ok (.bipush (-4), 2) := dc_16 (a := 252) (by decide +kernel) (by decide)
theorem dX2_nextPlace_10 : decode cX2_nextPlace 10 = .ok (.if_icmp .ne 15, 3) := dc_160 (a := 0) (b := 15) (by decide +kernel) (by decide)
theorem dX2_nextPlace_13 : decode cX2_nextPlace 13 = .ok (.iconst 2, 1) := dc_5 (by decide +kernel)
theorem dX2_nextPlace_14 : decode cX2_nextPlace 14 = .ok (.iload_n 1, 1) := dc_27 (by decide +kernel)
theorem dX2_nextPlace_15 : decode cX2_nextPlace 15 = .ok (.iconst 2, 1) := dc_5 (by decide +kernel)
theorem dX2_nextPlace_16 : decode cX2_nextPlace 16 = .ok (.iload_n 2, 1) := dc_28 (by decide +kernel)
theorem dX2_nextPlace_17 : decode cX2_nextPlace 17 = .ok (.imul, 1) := dc_104 (by decide +kernel)
theorem dX2_nextPlace_18 : decode cX2_nextPlace 18 = .ok (.iadd, 1) := dc_96 (by decide +kernel)
theorem dX2_nextPlace_19 : decode cX2_nextPlace 19 = .ok (.iconst 1, 1) := dc_4 (by decide +kernel)
theorem dX2_nextPlace_20 : decode cX2_nextPlace 20 = .ok (.isub, 1) := dc_100 (by decide +kernel)
theorem dX2_nextPlace_21 : decode cX2_nextPlace 21 = .ok (.imul, 1) := dc_104 (by decide +kernel)
theorem dX2_nextPlace_22 : decode cX2_nextPlace 22 = .ok (.iload_n 2, 1) := dc_28 (by decide +kernel)
theorem dX2_nextPlace_23 : decode cX2_nextPlace 23 = .ok (.iadd, 1) := dc_96 (by decide +kernel)
theorem dX2_nextPlace_24 : decode cX2_nextPlace 24 = .ok (.ireturn, 1) := dc_172 (by decide +kernel)
theorem dX2_nextPlace_25 : decode cX2_nextPlace 25 = .ok (.aload_n 0, 1) := dc_42 (by decide +kernel)
theorem dX2_nextPlace_26 : decode cX2_nextPlace 26 = .ok (.iload_n 3, 1) := dc_29 (by decide +kernel)
theorem dX2_nextPlace_27 : decode cX2_nextPlace 27 = .ok (.invokevirtual 98, 3) := dc_182 (a := 0) (b := 98) (by decide +kernel)
theorem dX2_nextPlace_30 : decode cX2_nextPlace 30 = .ok (.istore 4, 2) := dc_54 (a := 4) (by decide +kernel)
theorem dX2_nextPlace_32 : decode cX2_nextPlace 32 = .ok (.iload 4, 2) := dc_21 (a := 4) (by decide +kernel)
theorem dX2_nextPlace_34 : decode cX2_nextPlace 34 = .ok (.bipush (-4), 2) := dc_16 (a := 252) (by decide +kernel) (by decide)
theorem dX2_nextPlace_36 : decode cX2_nextPlace 36 = .ok (.if_icmp .eq 23, 3) := dc_159 (a := 0) (b := 23) (by decide +kernel) (by decide)
theorem dX2_nextPlace_39 : decode cX2_nextPlace 39 = .ok (.aload_n 0, 1) := dc_42 (by decide +kernel)
theorem dX2_nextPlace_40 : decode cX2_nextPlace 40 = .ok (.iload 4, 2) := dc_21 (a := 4) (by decide +kernel)
theorem dX2_nextPlace_42 : decode cX2_nextPlace 42 = .ok (.invokevirtual 98, 3) := dc_182 (a := 0) (b := 98) (by decide +kernel)
theorem dX2_nextPlace_45 : decode cX2_nextPlace 45 = .ok (.iload_n 3, 1) := dc_29 (by decide +kernel)
theorem dX2_nextPlace_46 : decode cX2_nextPlace 46 = .ok (.if_icmp .ne 13, 3) := dc_160 (a := 0) (b := 13) (by decide +kernel) (by decide)
theorem dX2_nextPlace_49 : decode cX2_nextPlace 49 = .ok (.aload_n 0, 1) := dc_42 (by decide +kernel)
theorem dX2_nextPlace_50 : decode cX2_nextPlace 50 = .ok (.iload 4, 2) := dc_21 (a := 4) (by decide +kernel)
theorem dX2_nextPlace_52 : decode cX2_nextPlace 52 = .ok (.invokevirtual 101, 3) := dc_182 (a := 0) (b := 101) (by decide +kernel)
theorem dX2_nextPlace_55 : decode cX2_nextPlace 55 = .ok (.iload_n 1, 1) := dc_27 (by decide +kernel)
theorem dX2_nextPlace_56 : decode cX2_nextPlace 56 = .ok (.if_icmp .ne 6, 3) := dc_160 (a := 0) (b := 6) (by decide +kernel) (by decide)
theorem dX2_nextPlace_59 : decode cX2_nextPlace 59 = .ok (.bipush (-4), 2) := dc_16 (a := 252) (by decide +kernel) (by decide)
theorem dX2_nextPlace_61 : decode cX2_nextPlace 61 = .ok (.ireturn, 1) := dc_172 (by decide +kernel)
theorem dX2_nextPlace_62 : decode cX2_nextPlace 62 = .ok (.iconst 2, 1) := dc_5 (by decide +kernel)
theorem dX2_nextPlace_63 : decode cX2_nextPlace 63 = .ok (.aload_n 0, 1) := dc_42 (by decide +kernel)
theorem dX2_nextPlace_64 : decode cX2_nextPlace 64 = .ok (.iload 4, 2) := dc_21 (a := 4) (by decide +kernel)
theorem dX2_nextPlace_66 : decode cX2_nextPlace 66 = .ok (.invokevirtual 101, 3) := dc_182 (a := 0) (b := 101) (by decide +kernel)
theorem dX2_nextPlace_69 : decode cX2_nextPlace 69 = .ok (.imul, 1) := dc_104 (by decide +kernel)
theorem dX2_nextPlace_70 : decode cX2_nextPlace 70 = .ok (.iconst 1, 1) := dc_4 (by decide +kernel)
theorem dX2_nextPlace_71 : decode cX2_nextPlace 71 = .ok (.iadd, 1) := dc_96 (by decide +kernel)
theorem dX2_nextPlace_72 : decode cX2_nextPlace 72 = .ok (.iload 4, 2) := dc_21 (a := 4) (by decide +kernel)
theorem dX2_nextPlace_74 : decode cX2_nextPlace 74 = .ok (.iconst 1, 1) := dc_4 (by decide +kernel)
theorem dX2_nextPlace_75 : decode cX2_nextPlace 75 = .ok (.iand, 1) := dc_126 (by decide +kernel)
theorem dX2_nextPlace_76 : decode cX2_nextPlace 76 = .ok (.isub, 1) := dc_100 (by decide +kernel)
theorem dX2_nextPlace_77 : decode cX2_nextPlace 77 = .ok (.ireturn, 1) := dc_172 (by decide +kernel)
set_option maxRecDepth 100000 in
set_option maxHeartbeats 4000000 in
theorem m_Layout_nextPlace (a1 : Int32) (a2 : Int32) (S S' : SS) (r : Int32) (h : f_Layout_nextPlace a1 a2 S = some (r, S')) : MT yX2_nextPlace cX2_nextPlace 5 (some .int) 2 45 (fun ad => [.ref (ad 66), .int a1, .int a2]) S (some (.int r)) S' := by
  refine MT.of RX2 (fun ad => [(0, .ref (ad 66)), (1, .int a1), (2, .int a2)]) (by decide) rfl (fun _ => Nat.le_of_ble_eq_true rfl) (fun _ => rfl) ?_
  intro p l e R s m args below meth c dC dI cs ad A hR1 hR2 F H locs ls w hl
  have hx := F.1.1
  have hb := F.1.2.1
  rw [f_Layout_nextPlace] at h
  refine lv_aload_n (pc := 0) hx hb dX2_nextPlace_0 rfl (lv_at hl 0 rfl) ?_
  refine lv_iload_n (pc := 1) hx hb dX2_nextPlace_1 rfl (lv_at hl 1 rfl) ?_
  refine lv_iload_n (pc := 2) hx hb dX2_nextPlace_2 rfl (lv_at hl 2 rfl) ?_
  obtain ⟨r2, S1, hc, h⟩ := bnd_t h
  refine s_cvi (pc := 3) [.int a1, .int a2] (fun ad => [.ref (ad 66), .int a1, .int a2]) F w (m_Layout_endNextTo _ _ _ _ _ hc) rfl rfl hl.1 ds_66 vc_X2 rfl ok_X2_endNextTo rfl kc_X2_endNextTo kl_X2_85 ki_X2_endNextTo kv_X2_endNextTo kn_X2 ⟨Nat.le_trans (by decide) hR1, Nat.le_trans (by decide) hR2⟩ ⟨Nat.zero_le _, Nat.zero_le _⟩ (Nat.le_of_ble_eq_true rfl) dX2_nextPlace_3 (fun H locs w => ?_)
  refine lv_istore_n (pc := 6) (lv' := [(3, .int r2), (0, .ref (ad 66)), (1, .int a1), (2, .int a2)]) hx hb dX2_nextPlace_6 rfl hl (by decide) rfl (fun ls hl => ?_)
  refine lv_iload_n (pc := 7) hx hb dX2_nextPlace_7 rfl (lv_at hl 0 rfl) ?_
  refine lv_bipush (pc := 8) (v := -4) hx hb dX2_nextPlace_8 (by decide) ?_
  refine lv_icmp_ne (pc := 10) (tgt := 25) hx hb dX2_nextPlace_10 (by decide) (fun q => ?_) (fun q => ?_)
  · have h := ite_f q h
    refine lv_aload_n (pc := 25) hx hb dX2_nextPlace_25 rfl (lv_at hl 1 rfl) ?_
    refine lv_iload_n (pc := 26) hx hb dX2_nextPlace_26 rfl (lv_at hl 0 rfl) ?_
    obtain ⟨r4, S3, hc, h⟩ := bnd_t h
    refine s_cvi (pc := 27) [.int r2] (fun ad => [.ref (ad 66), .int r2]) F w (m_Layout_leadsTo _ _ _ _ hc) rfl rfl hl.1 ds_66 vc_X2 rfl ok_X2_leadsTo rfl kc_X2_leadsTo kl_X2_98 ki_X2_leadsTo kv_X2_leadsTo kn_X2 ⟨Nat.le_trans (by decide) hR1, Nat.le_trans (by decide) hR2⟩ ⟨Nat.zero_le _, Nat.zero_le _⟩ (Nat.le_of_ble_eq_true rfl) dX2_nextPlace_27 (fun H locs w => ?_)
    refine lv_istore (pc := 30) (lv' := [(4, .int r4), (3, .int r2), (0, .ref (ad 66)), (1, .int a1), (2, .int a2)]) hx hb dX2_nextPlace_30 hl (by decide) rfl (fun ls hl => ?_)
    refine lv_iload (pc := 32) hx hb dX2_nextPlace_32 (lv_at hl 0 rfl) ?_
    refine lv_bipush (pc := 34) (v := -4) hx hb dX2_nextPlace_34 (by decide) ?_
    refine lv_icmp_eq (pc := 36) (tgt := 59) hx hb dX2_nextPlace_36 (by decide) (fun q => ?_) (fun q => ?_)
    · have h := ite_t q h
      refine lv_bipush (pc := 59) (v := -4) hx hb dX2_nextPlace_59 (by decide) ?_
      exact s_iret F w h dX2_nextPlace_61
    · have h := ite_f q h
      refine lv_aload_n (pc := 39) hx hb dX2_nextPlace_39 rfl (lv_at hl 2 rfl) ?_
      refine lv_iload (pc := 40) hx hb dX2_nextPlace_40 (lv_at hl 0 rfl) ?_
      obtain ⟨r6, S5, hc, h⟩ := bnd_t h
      refine s_cvi (pc := 42) [.int r4] (fun ad => [.ref (ad 66), .int r4]) F w (m_Layout_leadsTo _ _ _ _ hc) rfl rfl hl.1 ds_66 vc_X2 rfl ok_X2_leadsTo rfl kc_X2_leadsTo kl_X2_98 ki_X2_leadsTo kv_X2_leadsTo kn_X2 ⟨Nat.le_trans (by decide) hR1, Nat.le_trans (by decide) hR2⟩ ⟨Nat.zero_le _, Nat.zero_le _⟩ (Nat.le_of_ble_eq_true rfl) dX2_nextPlace_42 (fun H locs w => ?_)
      refine lv_iload_n (pc := 45) hx hb dX2_nextPlace_45 rfl (lv_at hl 1 rfl) ?_
      refine lv_icmp_ne (pc := 46) (tgt := 59) hx hb dX2_nextPlace_46 (by decide) (fun q => ?_) (fun q => ?_)
      · have h := ite_f q h
        refine lv_bipush (pc := 59) (v := -4) hx hb dX2_nextPlace_59 (by decide) ?_
        exact s_iret F w h dX2_nextPlace_61
      · have h := ite_t q h
        refine lv_aload_n (pc := 49) hx hb dX2_nextPlace_49 rfl (lv_at hl 2 rfl) ?_
        refine lv_iload (pc := 50) hx hb dX2_nextPlace_50 (lv_at hl 0 rfl) ?_
        obtain ⟨r8, S7, hc, h⟩ := bnd_t h
        refine s_cvi (pc := 52) [.int r4] (fun ad => [.ref (ad 66), .int r4]) F w (m_Layout_spotAt _ _ _ _ hc) rfl rfl hl.1 ds_66 vc_X2 rfl ok_X2_spotAt rfl kc_X2_spotAt kl_X2_101 ki_X2_spotAt kv_X2_spotAt kn_X2 ⟨Nat.le_trans (by decide) hR1, Nat.le_trans (by decide) hR2⟩ ⟨Nat.zero_le _, Nat.zero_le _⟩ (Nat.le_of_ble_eq_true rfl) dX2_nextPlace_52 (fun H locs w => ?_)
        refine lv_iload_n (pc := 55) hx hb dX2_nextPlace_55 rfl (lv_at hl 3 rfl) ?_
        refine lv_icmp_ne (pc := 56) (tgt := 62) hx hb dX2_nextPlace_56 (by decide) (fun q => ?_) (fun q => ?_)
        · have h := ite_f q h
          refine lv_iconst (pc := 62) (v := 2) hx hb dX2_nextPlace_62 (by decide) ?_
          refine lv_aload_n (pc := 63) hx hb dX2_nextPlace_63 rfl (lv_at hl 2 rfl) ?_
          refine lv_iload (pc := 64) hx hb dX2_nextPlace_64 (lv_at hl 0 rfl) ?_
          obtain ⟨r10, S9, hc, h⟩ := bnd_t h
          refine s_cvi (pc := 66) [.int r4] (fun ad => [.ref (ad 66), .int r4]) F w (m_Layout_spotAt _ _ _ _ hc) rfl rfl hl.1 ds_66 vc_X2 rfl ok_X2_spotAt rfl kc_X2_spotAt kl_X2_101 ki_X2_spotAt kv_X2_spotAt kn_X2 ⟨Nat.le_trans (by decide) hR1, Nat.le_trans (by decide) hR2⟩ ⟨Nat.zero_le _, Nat.zero_le _⟩ (Nat.le_of_ble_eq_true rfl) dX2_nextPlace_66 (fun H locs w => ?_)
          refine lv_imul (pc := 69) hx hb dX2_nextPlace_69 ?_
          refine lv_iconst (pc := 70) (v := 1) hx hb dX2_nextPlace_70 (by decide) ?_
          refine lv_iadd (pc := 71) hx hb dX2_nextPlace_71 ?_
          refine lv_iload (pc := 72) hx hb dX2_nextPlace_72 (lv_at hl 0 rfl) ?_
          refine lv_iconst (pc := 74) (v := 1) hx hb dX2_nextPlace_74 (by decide) ?_
          refine lv_iand (pc := 75) hx hb dX2_nextPlace_75 ?_
          refine lv_isub (pc := 76) hx hb dX2_nextPlace_76 ?_
          exact s_iret F w h dX2_nextPlace_77
        · have h := ite_t q h
          refine lv_bipush (pc := 59) (v := -4) hx hb dX2_nextPlace_59 (by decide) ?_
          exact s_iret F w h dX2_nextPlace_61
  · have h := ite_t q h
    refine lv_iconst (pc := 13) (v := 2) hx hb dX2_nextPlace_13 (by decide) ?_
    refine lv_iload_n (pc := 14) hx hb dX2_nextPlace_14 rfl (lv_at hl 2 rfl) ?_
    refine lv_iconst (pc := 15) (v := 2) hx hb dX2_nextPlace_15 (by decide) ?_
    refine lv_iload_n (pc := 16) hx hb dX2_nextPlace_16 rfl (lv_at hl 3 rfl) ?_
    refine lv_imul (pc := 17) hx hb dX2_nextPlace_17 ?_
    refine lv_iadd (pc := 18) hx hb dX2_nextPlace_18 ?_
    refine lv_iconst (pc := 19) (v := 1) hx hb dX2_nextPlace_19 (by decide) ?_
    refine lv_isub (pc := 20) hx hb dX2_nextPlace_20 ?_
    refine lv_imul (pc := 21) hx hb dX2_nextPlace_21 ?_
    refine lv_iload_n (pc := 22) hx hb dX2_nextPlace_22 rfl (lv_at hl 3 rfl) ?_
    refine lv_iadd (pc := 23) hx hb dX2_nextPlace_23 ?_
    exact s_iret F w h dX2_nextPlace_24
def f_Trains_nextFrom (a1 : Int32) (S : SS) : Option (Int32 × SS) :=
  bnd (f_State_get (a1 >>> ((1 : Int32) &&& 31)) (0 : Int32) S) (fun r2 S1 =>
  bnd (f_State_looks a1 S1) (fun r4 S3 =>
  bnd (f_Layout_nextPlace r2 r4 S3) (fun r6 S5 =>
  some (r6, S5))))
theorem dX10_nextFrom_0 : decode cX10_nextFrom 0 = .ok (.aload_n 0, 1) := dc_42 (by decide +kernel)
theorem dX10_nextFrom_1 : decode cX10_nextFrom 1 = .ok (.getfield 28, 3) := dc_180 (a := 0) (b := 28) (by decide +kernel)
theorem dX10_nextFrom_4 : decode cX10_nextFrom 4 = .ok (.aload_n 0, 1) := dc_42 (by decide +kernel)
theorem dX10_nextFrom_5 : decode cX10_nextFrom 5 = .ok (.getfield 24, 3) := dc_180 (a := 0) (b := 24) (by decide +kernel)
theorem dX10_nextFrom_8 : decode cX10_nextFrom 8 = .ok (.iload_n 1, 1) := dc_27 (by decide +kernel)
theorem dX10_nextFrom_9 : decode cX10_nextFrom 9 = .ok (.iconst 1, 1) := dc_4 (by decide +kernel)
theorem dX10_nextFrom_10 : decode cX10_nextFrom 10 = .ok (.ishr, 1) := dc_122 (by decide +kernel)
theorem dX10_nextFrom_11 : decode cX10_nextFrom 11 = .ok (.iconst 0, 1) := dc_3 (by decide +kernel)
theorem dX10_nextFrom_12 : decode cX10_nextFrom 12 = .ok (.invokevirtual 36, 3) := dc_182 (a := 0) (b := 36) (by decide +kernel)
theorem dX10_nextFrom_15 : decode cX10_nextFrom 15 = .ok (.aload_n 0, 1) := dc_42 (by decide +kernel)
theorem dX10_nextFrom_16 : decode cX10_nextFrom 16 = .ok (.getfield 24, 3) := dc_180 (a := 0) (b := 24) (by decide +kernel)
theorem dX10_nextFrom_19 : decode cX10_nextFrom 19 = .ok (.iload_n 1, 1) := dc_27 (by decide +kernel)
theorem dX10_nextFrom_20 : decode cX10_nextFrom 20 = .ok (.invokevirtual 54, 3) := dc_182 (a := 0) (b := 54) (by decide +kernel)
theorem dX10_nextFrom_23 : decode cX10_nextFrom 23 = .ok (.invokevirtual 57, 3) := dc_182 (a := 0) (b := 57) (by decide +kernel)
theorem dX10_nextFrom_26 : decode cX10_nextFrom 26 = .ok (.ireturn, 1) := dc_172 (by decide +kernel)
set_option maxRecDepth 100000 in
set_option maxHeartbeats 4000000 in
theorem m_Trains_nextFrom (a1 : Int32) (S S' : SS) (r : Int32) (h : f_Trains_nextFrom a1 S = some (r, S')) : MT yX10_nextFrom cX10_nextFrom 2 (some .int) 3 69 (fun ad => [.ref (ad 68), .int a1]) S (some (.int r)) S' := by
  refine MT.of RX10 (fun ad => [(0, .ref (ad 68)), (1, .int a1)]) (by decide) rfl (fun _ => Nat.le_of_ble_eq_true rfl) (fun _ => rfl) ?_
  intro p l e R s m args below meth c dC dI cs ad A hR1 hR2 F H locs ls w hl
  have hx := F.1.1
  have hb := F.1.2.1
  rw [f_Trains_nextFrom] at h
  refine lv_aload_n (pc := 0) hx hb dX10_nextFrom_0 rfl (lv_at hl 0 rfl) ?_
  refine s_getR (pc := 1) F w 66 ds_68 (j := 1) vc_X10 vi_X10 rfl (by decide) kf_X10_28 dX10_nextFrom_1 ?_
  refine lv_aload_n (pc := 4) hx hb dX10_nextFrom_4 rfl (lv_at hl 0 rfl) ?_
  refine s_getR (pc := 5) F w 63 ds_68 (j := 0) vc_X10 vi_X10 rfl (by decide) kf_X10_24 dX10_nextFrom_5 ?_
  refine lv_iload_n (pc := 8) hx hb dX10_nextFrom_8 rfl (lv_at hl 1 rfl) ?_
  refine lv_iconst (pc := 9) (v := 1) hx hb dX10_nextFrom_9 (by decide) ?_
  refine lv_ishr (pc := 10) hx hb dX10_nextFrom_10 ?_
  refine lv_iconst (pc := 11) (v := 0) hx hb dX10_nextFrom_11 (by decide) ?_
  obtain ⟨r2, S1, hc, h⟩ := bnd_t h
  refine s_cvi (pc := 12) [.int (a1 >>> ((1 : Int32) &&& 31)), .int (0 : Int32)] (fun ad => [.ref (ad 63), .int (a1 >>> ((1 : Int32) &&& 31)), .int (0 : Int32)]) F w (m_State_get _ _ _ _ _ hc) rfl rfl hl.1 ds_63 vc_X8 rfl ok_X8_get rfl kc_X8_get kl_X10_36 ki_X8_get kv_X8_get kn_X8 ⟨Nat.le_trans (by decide) hR1, Nat.le_trans (by decide) hR2⟩ ⟨Nat.zero_le _, Nat.zero_le _⟩ (Nat.le_of_ble_eq_true rfl) dX10_nextFrom_12 (fun H locs w => ?_)
  refine lv_aload_n (pc := 15) hx hb dX10_nextFrom_15 rfl (lv_at hl 0 rfl) ?_
  refine s_getR (pc := 16) F w 63 ds_68 (j := 0) vc_X10 vi_X10 rfl (by decide) kf_X10_24 dX10_nextFrom_16 ?_
  refine lv_iload_n (pc := 19) hx hb dX10_nextFrom_19 rfl (lv_at hl 1 rfl) ?_
  obtain ⟨r4, S3, hc, h⟩ := bnd_t h
  refine s_cvi (pc := 20) [.int a1] (fun ad => [.ref (ad 63), .int a1]) F w (m_State_looks _ _ _ _ hc) rfl rfl hl.1 ds_63 vc_X8 rfl ok_X8_looks rfl kc_X8_looks kl_X10_54 ki_X8_looks kv_X8_looks kn_X8 ⟨Nat.le_trans (by decide) hR1, Nat.le_trans (by decide) hR2⟩ ⟨Nat.zero_le _, Nat.zero_le _⟩ (Nat.le_of_ble_eq_true rfl) dX10_nextFrom_20 (fun H locs w => ?_)
  obtain ⟨r6, S5, hc, h⟩ := bnd_t h
  refine s_cvi (pc := 23) [.int r2, .int r4] (fun ad => [.ref (ad 66), .int r2, .int r4]) F w (m_Layout_nextPlace _ _ _ _ _ hc) rfl rfl hl.1 ds_66 vc_X2 rfl ok_X2_nextPlace rfl kc_X2_nextPlace kl_X10_57 ki_X2_nextPlace kv_X2_nextPlace kn_X2 ⟨Nat.le_trans (by decide) hR1, Nat.le_trans (by decide) hR2⟩ ⟨Nat.zero_le _, Nat.zero_le _⟩ (Nat.le_of_ble_eq_true rfl) dX10_nextFrom_23 (fun H locs w => ?_)
  exact s_iret F w h dX10_nextFrom_26
def f_Trains_isCoupled (a1 : Int32) (S : SS) : Option (Int32 × SS) :=
  bnd (f_State_get (a1 >>> ((1 : Int32) &&& 31)) ((2 : Int32) + (a1 &&& (1 : Int32))) S) (fun r2 S1 =>
  if r2 = (-4 : Int32) then
    some ((0 : Int32), S1)
  else
    some ((1 : Int32), S1))
theorem dX10_isCoupled_0 : decode cX10_isCoupled 0 = .ok (.aload_n 0, 1) := dc_42 (by decide +kernel)
theorem dX10_isCoupled_1 : decode cX10_isCoupled 1 = .ok (.getfield 24, 3) := dc_180 (a := 0) (b := 24) (by decide +kernel)
theorem dX10_isCoupled_4 : decode cX10_isCoupled 4 = .ok (.iload_n 1, 1) := dc_27 (by decide +kernel)
theorem dX10_isCoupled_5 : decode cX10_isCoupled 5 = .ok (.iconst 1, 1) := dc_4 (by decide +kernel)
theorem dX10_isCoupled_6 : decode cX10_isCoupled 6 = .ok (.ishr, 1) := dc_122 (by decide +kernel)
theorem dX10_isCoupled_7 : decode cX10_isCoupled 7 = .ok (.iconst 2, 1) := dc_5 (by decide +kernel)
theorem dX10_isCoupled_8 : decode cX10_isCoupled 8 = .ok (.iload_n 1, 1) := dc_27 (by decide +kernel)
theorem dX10_isCoupled_9 : decode cX10_isCoupled 9 = .ok (.iconst 1, 1) := dc_4 (by decide +kernel)
theorem dX10_isCoupled_10 : decode cX10_isCoupled 10 = .ok (.iand, 1) := dc_126 (by decide +kernel)
theorem dX10_isCoupled_11 : decode cX10_isCoupled 11 = .ok (.iadd, 1) := dc_96 (by decide +kernel)
theorem dX10_isCoupled_12 : decode cX10_isCoupled 12 = .ok (.invokevirtual 36, 3) := dc_182 (a := 0) (b := 36) (by decide +kernel)
theorem dX10_isCoupled_15 : decode cX10_isCoupled 15 = .ok (.bipush (-4), 2) := dc_16 (a := 252) (by decide +kernel) (by decide)
theorem dX10_isCoupled_17 : decode cX10_isCoupled 17 = .ok (.if_icmp .eq 7, 3) := dc_159 (a := 0) (b := 7) (by decide +kernel) (by decide)
theorem dX10_isCoupled_20 : decode cX10_isCoupled 20 = .ok (.iconst 1, 1) := dc_4 (by decide +kernel)
theorem dX10_isCoupled_21 : decode cX10_isCoupled 21 = .ok (.goto 4, 3) := dc_167 (a := 0) (b := 4) (by decide +kernel) (by decide)
theorem dX10_isCoupled_24 : decode cX10_isCoupled 24 = .ok (.iconst 0, 1) := dc_3 (by decide +kernel)
theorem dX10_isCoupled_25 : decode cX10_isCoupled 25 = .ok (.ireturn, 1) := dc_172 (by decide +kernel)
set_option maxRecDepth 100000 in
set_option maxHeartbeats 4000000 in
theorem m_Trains_isCoupled (a1 : Int32) (S S' : SS) (r : Int32) (h : f_Trains_isCoupled a1 S = some (r, S')) : MT yX10_isCoupled cX10_isCoupled 2 (some .boolean) 1 22 (fun ad => [.ref (ad 68), .int a1]) S (some (.int r)) S' := by
  refine MT.of RX10 (fun ad => [(0, .ref (ad 68)), (1, .int a1)]) (by decide) rfl (fun _ => Nat.le_of_ble_eq_true rfl) (fun _ => rfl) ?_
  intro p l e R s m args below meth c dC dI cs ad A hR1 hR2 F H locs ls w hl
  have hx := F.1.1
  have hb := F.1.2.1
  rw [f_Trains_isCoupled] at h
  refine lv_aload_n (pc := 0) hx hb dX10_isCoupled_0 rfl (lv_at hl 0 rfl) ?_
  refine s_getR (pc := 1) F w 63 ds_68 (j := 0) vc_X10 vi_X10 rfl (by decide) kf_X10_24 dX10_isCoupled_1 ?_
  refine lv_iload_n (pc := 4) hx hb dX10_isCoupled_4 rfl (lv_at hl 1 rfl) ?_
  refine lv_iconst (pc := 5) (v := 1) hx hb dX10_isCoupled_5 (by decide) ?_
  refine lv_ishr (pc := 6) hx hb dX10_isCoupled_6 ?_
  refine lv_iconst (pc := 7) (v := 2) hx hb dX10_isCoupled_7 (by decide) ?_
  refine lv_iload_n (pc := 8) hx hb dX10_isCoupled_8 rfl (lv_at hl 1 rfl) ?_
  refine lv_iconst (pc := 9) (v := 1) hx hb dX10_isCoupled_9 (by decide) ?_
  refine lv_iand (pc := 10) hx hb dX10_isCoupled_10 ?_
  refine lv_iadd (pc := 11) hx hb dX10_isCoupled_11 ?_
  obtain ⟨r2, S1, hc, h⟩ := bnd_t h
  refine s_cvi (pc := 12) [.int (a1 >>> ((1 : Int32) &&& 31)), .int ((2 : Int32) + (a1 &&& (1 : Int32)))] (fun ad => [.ref (ad 63), .int (a1 >>> ((1 : Int32) &&& 31)), .int ((2 : Int32) + (a1 &&& (1 : Int32)))]) F w (m_State_get _ _ _ _ _ hc) rfl rfl hl.1 ds_63 vc_X8 rfl ok_X8_get rfl kc_X8_get kl_X10_36 ki_X8_get kv_X8_get kn_X8 ⟨Nat.le_trans (by decide) hR1, Nat.le_trans (by decide) hR2⟩ ⟨Nat.zero_le _, Nat.zero_le _⟩ (Nat.le_of_ble_eq_true rfl) dX10_isCoupled_12 (fun H locs w => ?_)
  refine lv_bipush (pc := 15) (v := -4) hx hb dX10_isCoupled_15 (by decide) ?_
  refine lv_icmp_eq (pc := 17) (tgt := 24) hx hb dX10_isCoupled_17 (by decide) (fun q => ?_) (fun q => ?_)
  · have h := ite_t q h
    refine lv_iconst (pc := 24) (v := 0) hx hb dX10_isCoupled_24 (by decide) ?_
    exact s_zretc F w rfl h dX10_isCoupled_25
  · have h := ite_f q h
    refine lv_iconst (pc := 20) (v := 1) hx hb dX10_isCoupled_20 (by decide) ?_
    refine lv_goto (pc := 21) (tgt := 25) hx hb dX10_isCoupled_21 (by decide) ?_
    exact s_zretc F w rfl h dX10_isCoupled_25
def f_State_isRunning (a1 : Int32) (S : SS) : Option (Int32 × SS) :=
  bnd (f_State_get a1 (8 : Int32) S) (fun r2 S1 =>
  if r2 ≤ 0 then
    some ((0 : Int32), S1)
  else
    some ((1 : Int32), S1))
theorem dX8_isRunning_0 : decode cX8_isRunning 0 = .ok (.aload_n 0, 1) := dc_42 (by decide +kernel)
theorem dX8_isRunning_1 : decode cX8_isRunning 1 = .ok (.iload_n 1, 1) := dc_27 (by decide +kernel)
theorem dX8_isRunning_2 : decode cX8_isRunning 2 = .ok (.bipush 8, 2) := dc_16 (a := 8) (by decide +kernel) (by decide)
theorem dX8_isRunning_4 : decode cX8_isRunning 4 = .ok (.invokevirtual 31, 3) := dc_182 (a := 0) (b := 31) (by decide +kernel)
theorem dX8_isRunning_7 : decode cX8_isRunning 7 = .ok (.ifCond .le 7, 3) := dc_158 (a := 0) (b := 7) (by decide +kernel) (by decide)
theorem dX8_isRunning_10 : decode cX8_isRunning 10 = .ok (.iconst 1, 1) := dc_4 (by decide +kernel)
theorem dX8_isRunning_11 : decode cX8_isRunning 11 = .ok (.goto 4, 3) := dc_167 (a := 0) (b := 4) (by decide +kernel) (by decide)
theorem dX8_isRunning_14 : decode cX8_isRunning 14 = .ok (.iconst 0, 1) := dc_3 (by decide +kernel)
theorem dX8_isRunning_15 : decode cX8_isRunning 15 = .ok (.ireturn, 1) := dc_172 (by decide +kernel)
set_option maxRecDepth 100000 in
set_option maxHeartbeats 4000000 in
theorem m_State_isRunning (a1 : Int32) (S S' : SS) (r : Int32) (h : f_State_isRunning a1 S = some (r, S')) : MT yX8_isRunning cX8_isRunning 2 (some .boolean) 1 22 (fun ad => [.ref (ad 63), .int a1]) S (some (.int r)) S' := by
  refine MT.of RX8 (fun ad => [(0, .ref (ad 63)), (1, .int a1)]) (by decide) rfl (fun _ => Nat.le_of_ble_eq_true rfl) (fun _ => rfl) ?_
  intro p l e R s m args below meth c dC dI cs ad A hR1 hR2 F H locs ls w hl
  have hx := F.1.1
  have hb := F.1.2.1
  rw [f_State_isRunning] at h
  refine lv_aload_n (pc := 0) hx hb dX8_isRunning_0 rfl (lv_at hl 0 rfl) ?_
  refine lv_iload_n (pc := 1) hx hb dX8_isRunning_1 rfl (lv_at hl 1 rfl) ?_
  refine lv_bipush (pc := 2) (v := 8) hx hb dX8_isRunning_2 (by decide) ?_
  obtain ⟨r2, S1, hc, h⟩ := bnd_t h
  refine s_cvi (pc := 4) [.int a1, .int (8 : Int32)] (fun ad => [.ref (ad 63), .int a1, .int (8 : Int32)]) F w (m_State_get _ _ _ _ _ hc) rfl rfl hl.1 ds_63 vc_X8 rfl ok_X8_get rfl kc_X8_get kl_X8_31 ki_X8_get kv_X8_get kn_X8 ⟨Nat.le_trans (by decide) hR1, Nat.le_trans (by decide) hR2⟩ ⟨Nat.zero_le _, Nat.zero_le _⟩ (Nat.le_of_ble_eq_true rfl) dX8_isRunning_4 (fun H locs w => ?_)
  refine lv_if_le (pc := 7) (tgt := 14) hx hb dX8_isRunning_7 (by decide) (fun q => ?_) (fun q => ?_)
  · have h := ite_t q h
    refine lv_iconst (pc := 14) (v := 0) hx hb dX8_isRunning_14 (by decide) ?_
    exact s_zretc F w rfl h dX8_isRunning_15
  · have h := ite_f q h
    refine lv_iconst (pc := 10) (v := 1) hx hb dX8_isRunning_10 (by decide) ?_
    refine lv_goto (pc := 11) (tgt := 15) hx hb dX8_isRunning_11 (by decide) ?_
    exact s_zretc F w rfl h dX8_isRunning_15
def f_Trains_hookAt_j21  (x1 : Int32) (y0 : Int32) (S : SS) : Option (Int32 × SS) :=
    if y0 = (-4 : Int32) then
      some ((-4 : Int32), S)
    else
      bnd (f_State_looks ((2 : Int32) * y0) S) (fun r4 S3 =>
      if r4 = (x1 &&& (1 : Int32)) then
        some (((2 : Int32) * y0) + (1 : Int32), S3)
      else
        some ((2 : Int32) * y0, S3))
def f_Trains_hookAt (a1 : Int32) (S : SS) : Option (Int32 × SS) :=
  if a1 = (-4 : Int32) then
    f_Trains_hookAt_j21 a1 (-4 : Int32) S
  else
    bnd (f_State_standsAt (a1 >>> ((1 : Int32) &&& 31)) S) (fun r2 S1 =>
    f_Trains_hookAt_j21 a1 r2 S1)
theorem dX10_hookAt_0 : decode cX10_hookAt 0 = .ok (.iload_n 1, 1) := dc_27 (by decide +kernel)
theorem dX10_hookAt_1 : decode cX10_hookAt 1 = .ok (.bipush (-4), 2) := dc_16 (a := 252) (by decide +kernel) (by decide)
theorem dX10_hookAt_3 : decode cX10_hookAt 3 = .ok (.if_icmp .ne 8, 3) := dc_160 (a := 0) (b := 8) (by decide +kernel) (by decide)
theorem dX10_hookAt_6 : decode cX10_hookAt 6 = .ok (.bipush (-4), 2) := dc_16 (a := 252) (by decide +kernel) (by decide)
theorem dX10_hookAt_8 : decode cX10_hookAt 8 = .ok (.goto 13, 3) := dc_167 (a := 0) (b := 13) (by decide +kernel) (by decide)
theorem dX10_hookAt_11 : decode cX10_hookAt 11 = .ok (.aload_n 0, 1) := dc_42 (by decide +kernel)
theorem dX10_hookAt_12 : decode cX10_hookAt 12 = .ok (.getfield 24, 3) := dc_180 (a := 0) (b := 24) (by decide +kernel)
theorem dX10_hookAt_15 : decode cX10_hookAt 15 = .ok (.iload_n 1, 1) := dc_27 (by decide +kernel)
theorem dX10_hookAt_16 : decode cX10_hookAt 16 = .ok (.iconst 1, 1) := dc_4 (by decide +kernel)
theorem dX10_hookAt_17 : decode cX10_hookAt 17 = .ok (.ishr, 1) := dc_122 (by decide +kernel)
theorem dX10_hookAt_18 : decode cX10_hookAt 18 = .ok (.invokevirtual 62, 3) := dc_182 (a := 0) (b := 62) (by decide +kernel)
theorem dX10_hookAt_21 : decode cX10_hookAt 21 = .ok (.istore_n 2, 1) := dc_61 (by decide +kernel)
theorem dX10_hookAt_22 : decode cX10_hookAt 22 = .ok (.iload_n 2, 1) := dc_28 (by decide +kernel)
theorem dX10_hookAt_23 : decode cX10_hookAt 23 = .ok (.bipush (-4), 2) := dc_16 (a := 252) (by decide +kernel) (by decide)
theorem dX10_hookAt_25 : decode cX10_hookAt 25 = .ok (.if_icmp .ne 6, 3) := dc_160 (a := 0) (b := 6) (by decide +kernel) (by decide)
theorem dX10_hookAt_28 : decode cX10_hookAt 28 = .ok (.bipush (-4), 2) := dc_16 (a := 252) (by decide +kernel) (by decide)
theorem dX10_hookAt_30 : decode cX10_hookAt 30 = .ok (.ireturn, 1) := dc_172 (by decide +kernel)
theorem dX10_hookAt_31 : decode cX10_hookAt 31 = .ok (.aload_n 0, 1) := dc_42 (by decide +kernel)
theorem dX10_hookAt_32 : decode cX10_hookAt 32 = .ok (.getfield 24, 3) := dc_180 (a := 0) (b := 24) (by decide +kernel)
theorem dX10_hookAt_35 : decode cX10_hookAt 35 = .ok (.iconst 2, 1) := dc_5 (by decide +kernel)
theorem dX10_hookAt_36 : decode cX10_hookAt 36 = .ok (.iload_n 2, 1) := dc_28 (by decide +kernel)
theorem dX10_hookAt_37 : decode cX10_hookAt 37 = .ok (.imul, 1) := dc_104 (by decide +kernel)
theorem dX10_hookAt_38 : decode cX10_hookAt 38 = .ok (.invokevirtual 54, 3) := dc_182 (a := 0) (b := 54) (by decide +kernel)
theorem dX10_hookAt_41 : decode cX10_hookAt 41 = .ok (.iload_n 1, 1) := dc_27 (by decide +kernel)
theorem dX10_hookAt_42 : decode cX10_hookAt 42 = .ok (.iconst 1, 1) := dc_4 (by decide +kernel)
theorem dX10_hookAt_43 : decode cX10_hookAt 43 = .ok (.iand, 1) := dc_126 (by decide +kernel)
theorem dX10_hookAt_44 : decode cX10_hookAt 44 = .ok (.if_icmp .ne 11, 3) := dc_160 (a := 0) (b := 11) (by decide +kernel) (by decide)
theorem dX10_hookAt_47 : decode cX10_hookAt 47 = .ok (.iconst 2, 1) := dc_5 (by decide +kernel)
theorem dX10_hookAt_48 : decode cX10_hookAt 48 = .ok (.iload_n 2, 1) := dc_28 (by decide +kernel)
theorem dX10_hookAt_49 : decode cX10_hookAt 49 = .ok (.imul, 1) := dc_104 (by decide +kernel)
theorem dX10_hookAt_50 : decode cX10_hookAt 50 = .ok (.iconst 1, 1) := dc_4 (by decide +kernel)
theorem dX10_hookAt_51 : decode cX10_hookAt 51 = .ok (.iadd, 1) := dc_96 (by decide +kernel)
theorem dX10_hookAt_52 : decode cX10_hookAt 52 = .ok (.goto 6, 3) := dc_167 (a := 0) (b := 6) (by decide +kernel) (by decide)
theorem dX10_hookAt_55 : decode cX10_hookAt 55 = .ok (.iconst 2, 1) := dc_5 (by decide +kernel)
theorem dX10_hookAt_56 : decode cX10_hookAt 56 = .ok (.iload_n 2, 1) := dc_28 (by decide +kernel)
theorem dX10_hookAt_57 : decode cX10_hookAt 57 = .ok (.imul, 1) := dc_104 (by decide +kernel)
theorem dX10_hookAt_58 : decode cX10_hookAt 58 = .ok (.ireturn, 1) := dc_172 (by decide +kernel)
set_option maxRecDepth 100000 in
set_option maxHeartbeats 4000000 in
theorem w_Trains_hookAt_j21 {p : Program} {l : Launch} {e : Env} {R : Room} {s : State} {m : MethodId} {args : Array Value} {below : List Frame} {meth : Method} {c : Code} {dC : Nat → ClassId} {dI : Nat → Nat → Nat} {cs : Nat → ClassId} {ad : Nat → Nat} {A : Nat → Prop} {D0 : Nat → Nat} {S' : SS} {r : Int32} (F : Fx p s m args meth c cX10_hookAt 3 RX10 (some .int) dC dI cs A) (hR1 : 2 ≤ R.frames) (hR2 : 43 ≤ R.locals) (x1 : Int32) (y0 : Int32) (S : SS) (h : f_Trains_hookAt_j21 x1 y0 S = some (r, S')) : AW p l e R s m args below meth c dC dI cs ad A D0 (some (.int r)) S' 3 21 [(0, .ref (ad 68)), (1, .int x1)] [.int y0] S := by
  have hx := F.1.1
  have hb := F.1.2.1
  intro H locs ls w hl
  rw [f_Trains_hookAt_j21] at h
  refine lv_istore_n (pc := 21) (lv' := [(2, .int y0), (0, .ref (ad 68)), (1, .int x1)]) hx hb dX10_hookAt_21 rfl hl (by decide) rfl (fun ls hl => ?_)
  refine lv_iload_n (pc := 22) hx hb dX10_hookAt_22 rfl (lv_at hl 0 rfl) ?_
  refine lv_bipush (pc := 23) (v := -4) hx hb dX10_hookAt_23 (by decide) ?_
  refine lv_icmp_ne (pc := 25) (tgt := 31) hx hb dX10_hookAt_25 (by decide) (fun q => ?_) (fun q => ?_)
  · have h := ite_f q h
    refine lv_aload_n (pc := 31) hx hb dX10_hookAt_31 rfl (lv_at hl 1 rfl) ?_
    refine s_getR (pc := 32) F w 63 ds_68 (j := 0) vc_X10 vi_X10 rfl (by decide) kf_X10_24 dX10_hookAt_32 ?_
    refine lv_iconst (pc := 35) (v := 2) hx hb dX10_hookAt_35 (by decide) ?_
    refine lv_iload_n (pc := 36) hx hb dX10_hookAt_36 rfl (lv_at hl 0 rfl) ?_
    refine lv_imul (pc := 37) hx hb dX10_hookAt_37 ?_
    obtain ⟨r4, S3, hc, h⟩ := bnd_t h
    refine s_cvi (pc := 38) [.int ((2 : Int32) * y0)] (fun ad => [.ref (ad 63), .int ((2 : Int32) * y0)]) F w (m_State_looks _ _ _ _ hc) rfl rfl hl.1 ds_63 vc_X8 rfl ok_X8_looks rfl kc_X8_looks kl_X10_54 ki_X8_looks kv_X8_looks kn_X8 ⟨Nat.le_trans (by decide) hR1, Nat.le_trans (by decide) hR2⟩ ⟨Nat.zero_le _, Nat.zero_le _⟩ (Nat.le_of_ble_eq_true rfl) dX10_hookAt_38 (fun H locs w => ?_)
    refine lv_iload_n (pc := 41) hx hb dX10_hookAt_41 rfl (lv_at hl 2 rfl) ?_
    refine lv_iconst (pc := 42) (v := 1) hx hb dX10_hookAt_42 (by decide) ?_
    refine lv_iand (pc := 43) hx hb dX10_hookAt_43 ?_
    refine lv_icmp_ne (pc := 44) (tgt := 55) hx hb dX10_hookAt_44 (by decide) (fun q => ?_) (fun q => ?_)
    · have h := ite_f q h
      refine lv_iconst (pc := 55) (v := 2) hx hb dX10_hookAt_55 (by decide) ?_
      refine lv_iload_n (pc := 56) hx hb dX10_hookAt_56 rfl (lv_at hl 0 rfl) ?_
      refine lv_imul (pc := 57) hx hb dX10_hookAt_57 ?_
      exact s_iret F w h dX10_hookAt_58
    · have h := ite_t q h
      refine lv_iconst (pc := 47) (v := 2) hx hb dX10_hookAt_47 (by decide) ?_
      refine lv_iload_n (pc := 48) hx hb dX10_hookAt_48 rfl (lv_at hl 0 rfl) ?_
      refine lv_imul (pc := 49) hx hb dX10_hookAt_49 ?_
      refine lv_iconst (pc := 50) (v := 1) hx hb dX10_hookAt_50 (by decide) ?_
      refine lv_iadd (pc := 51) hx hb dX10_hookAt_51 ?_
      refine lv_goto (pc := 52) (tgt := 58) hx hb dX10_hookAt_52 (by decide) ?_
      exact s_iret F w h dX10_hookAt_58
  · have h := ite_t q h
    refine lv_bipush (pc := 28) (v := -4) hx hb dX10_hookAt_28 (by decide) ?_
    exact s_iret F w h dX10_hookAt_30
set_option maxRecDepth 100000 in
set_option maxHeartbeats 4000000 in
theorem m_Trains_hookAt (a1 : Int32) (S S' : SS) (r : Int32) (h : f_Trains_hookAt a1 S = some (r, S')) : MT yX10_hookAt cX10_hookAt 3 (some .int) 2 44 (fun ad => [.ref (ad 68), .int a1]) S (some (.int r)) S' := by
  refine MT.of RX10 (fun ad => [(0, .ref (ad 68)), (1, .int a1)]) (by decide) rfl (fun _ => Nat.le_of_ble_eq_true rfl) (fun _ => rfl) ?_
  intro p l e R s m args below meth c dC dI cs ad A hR1 hR2 F H locs ls w hl
  have hx := F.1.1
  have hb := F.1.2.1
  rw [f_Trains_hookAt] at h
  refine lv_iload_n (pc := 0) hx hb dX10_hookAt_0 rfl (lv_at hl 1 rfl) ?_
  refine lv_bipush (pc := 1) (v := -4) hx hb dX10_hookAt_1 (by decide) ?_
  refine lv_icmp_ne (pc := 3) (tgt := 11) hx hb dX10_hookAt_3 (by decide) (fun q => ?_) (fun q => ?_)
  · have h := ite_f q h
    refine lv_aload_n (pc := 11) hx hb dX10_hookAt_11 rfl (lv_at hl 0 rfl) ?_
    refine s_getR (pc := 12) F w 63 ds_68 (j := 0) vc_X10 vi_X10 rfl (by decide) kf_X10_24 dX10_hookAt_12 ?_
    refine lv_iload_n (pc := 15) hx hb dX10_hookAt_15 rfl (lv_at hl 1 rfl) ?_
    refine lv_iconst (pc := 16) (v := 1) hx hb dX10_hookAt_16 (by decide) ?_
    refine lv_ishr (pc := 17) hx hb dX10_hookAt_17 ?_
    obtain ⟨r2, S1, hc, h⟩ := bnd_t h
    refine s_cvi (pc := 18) [.int (a1 >>> ((1 : Int32) &&& 31))] (fun ad => [.ref (ad 63), .int (a1 >>> ((1 : Int32) &&& 31))]) F w (m_State_standsAt _ _ _ _ hc) rfl rfl hl.1 ds_63 vc_X8 rfl ok_X8_standsAt rfl kc_X8_standsAt kl_X10_62 ki_X8_standsAt kv_X8_standsAt kn_X8 ⟨Nat.le_trans (by decide) hR1, Nat.le_trans (by decide) hR2⟩ ⟨Nat.zero_le _, Nat.zero_le _⟩ (Nat.le_of_ble_eq_true rfl) dX10_hookAt_18 (fun H locs w => ?_)
    exact w_Trains_hookAt_j21 F (Nat.le_trans (by decide) hR1) (Nat.le_trans (by decide) hR2) _ _ _ h _ _ _ w (lv_sub hl [0, 1] rfl)
  · have h := ite_t q h
    refine lv_bipush (pc := 6) (v := -4) hx hb dX10_hookAt_6 (by decide) ?_
    refine lv_goto (pc := 8) (tgt := 21) hx hb dX10_hookAt_8 (by decide) ?_
    exact w_Trains_hookAt_j21 F (Nat.le_trans (by decide) hR1) (Nat.le_trans (by decide) hR2) _ _ _ h _ _ _ w (lv_sub hl [0, 1] rfl)
def f_Trains_onward (a1 : Int32) (S : SS) : Option (Int32 × SS) :=
  bnd (f_State_get (a1 >>> ((1 : Int32) &&& 31)) ((2 : Int32) + (a1 &&& (1 : Int32))) S) (fun r2 S1 =>
  if r2 = (-4 : Int32) then
    some ((-4 : Int32), S1)
  else
    bnd (f_State_get r2 (2 : Int32) S1) (fun r4 S3 =>
    if r4 = (a1 >>> ((1 : Int32) &&& 31)) then
      some (((2 : Int32) * r2) + (1 : Int32), S3)
    else
      some ((2 : Int32) * r2, S3)))
theorem dX10_onward_0 : decode cX10_onward 0 = .ok (.aload_n 0, 1) := dc_42 (by decide +kernel)
theorem dX10_onward_1 : decode cX10_onward 1 = .ok (.getfield 24, 3) := dc_180 (a := 0) (b := 24) (by decide +kernel)
theorem dX10_onward_4 : decode cX10_onward 4 = .ok (.iload_n 1, 1) := dc_27 (by decide +kernel)
theorem dX10_onward_5 : decode cX10_onward 5 = .ok (.iconst 1, 1) := dc_4 (by decide +kernel)
theorem dX10_onward_6 : decode cX10_onward 6 = .ok (.ishr, 1) := dc_122 (by decide +kernel)
theorem dX10_onward_7 : decode cX10_onward 7 = .ok (.iconst 2, 1) := dc_5 (by decide +kernel)
theorem dX10_onward_8 : decode cX10_onward 8 = .ok (.iload_n 1, 1) := dc_27 (by decide +kernel)
theorem dX10_onward_9 : decode cX10_onward 9 = .ok (.iconst 1, 1) := dc_4 (by decide +kernel)
theorem dX10_onward_10 : decode cX10_onward 10 = .ok (.iand, 1) := dc_126 (by decide +kernel)
theorem dX10_onward_11 : decode cX10_onward 11 = .ok (.iadd, 1) := dc_96 (by decide +kernel)
theorem dX10_onward_12 : decode cX10_onward 12 = .ok (.invokevirtual 36, 3) := dc_182 (a := 0) (b := 36) (by decide +kernel)
theorem dX10_onward_15 : decode cX10_onward 15 = .ok (.istore_n 2, 1) := dc_61 (by decide +kernel)
theorem dX10_onward_16 : decode cX10_onward 16 = .ok (.iload_n 2, 1) := dc_28 (by decide +kernel)
theorem dX10_onward_17 : decode cX10_onward 17 = .ok (.bipush (-4), 2) := dc_16 (a := 252) (by decide +kernel) (by decide)
theorem dX10_onward_19 : decode cX10_onward 19 = .ok (.if_icmp .ne 6, 3) := dc_160 (a := 0) (b := 6) (by decide +kernel) (by decide)
theorem dX10_onward_22 : decode cX10_onward 22 = .ok (.bipush (-4), 2) := dc_16 (a := 252) (by decide +kernel) (by decide)
theorem dX10_onward_24 : decode cX10_onward 24 = .ok (.ireturn, 1) := dc_172 (by decide +kernel)
theorem dX10_onward_25 : decode cX10_onward 25 = .ok (.aload_n 0, 1) := dc_42 (by decide +kernel)
theorem dX10_onward_26 : decode cX10_onward 26 = .ok (.getfield 24, 3) := dc_180 (a := 0) (b := 24) (by decide +kernel)
theorem dX10_onward_29 : decode cX10_onward 29 = .ok (.iload_n 2, 1) := dc_28 (by decide +kernel)
theorem dX10_onward_30 : decode cX10_onward 30 = .ok (.iconst 2, 1) := dc_5 (by decide +kernel)
theorem dX10_onward_31 : decode cX10_onward 31 = .ok (.invokevirtual 36, 3) := dc_182 (a := 0) (b := 36) (by decide +kernel)
theorem dX10_onward_34 : decode cX10_onward 34 = .ok (.iload_n 1, 1) := dc_27 (by decide +kernel)
theorem dX10_onward_35 : decode cX10_onward 35 = .ok (.iconst 1, 1) := dc_4 (by decide +kernel)
theorem dX10_onward_36 : decode cX10_onward 36 = .ok (.ishr, 1) := dc_122 (by decide +kernel)
theorem dX10_onward_37 : decode cX10_onward 37 = .ok (.if_icmp .ne 11, 3) := dc_160 (a := 0) (b := 11) (by decide +kernel) (by decide)
theorem dX10_onward_40 : decode cX10_onward 40 = .ok (.iconst 2, 1) := dc_5 (by decide +kernel)
theorem dX10_onward_41 : decode cX10_onward 41 = .ok (.iload_n 2, 1) := dc_28 (by decide +kernel)
theorem dX10_onward_42 : decode cX10_onward 42 = .ok (.imul, 1) := dc_104 (by decide +kernel)
theorem dX10_onward_43 : decode cX10_onward 43 = .ok (.iconst 1, 1) := dc_4 (by decide +kernel)
theorem dX10_onward_44 : decode cX10_onward 44 = .ok (.iadd, 1) := dc_96 (by decide +kernel)
theorem dX10_onward_45 : decode cX10_onward 45 = .ok (.goto 6, 3) := dc_167 (a := 0) (b := 6) (by decide +kernel) (by decide)
theorem dX10_onward_48 : decode cX10_onward 48 = .ok (.iconst 2, 1) := dc_5 (by decide +kernel)
theorem dX10_onward_49 : decode cX10_onward 49 = .ok (.iload_n 2, 1) := dc_28 (by decide +kernel)
theorem dX10_onward_50 : decode cX10_onward 50 = .ok (.imul, 1) := dc_104 (by decide +kernel)
theorem dX10_onward_51 : decode cX10_onward 51 = .ok (.ireturn, 1) := dc_172 (by decide +kernel)
set_option maxRecDepth 100000 in
set_option maxHeartbeats 4000000 in
theorem m_Trains_onward (a1 : Int32) (S S' : SS) (r : Int32) (h : f_Trains_onward a1 S = some (r, S')) : MT yX10_onward cX10_onward 3 (some .int) 1 22 (fun ad => [.ref (ad 68), .int a1]) S (some (.int r)) S' := by
  refine MT.of RX10 (fun ad => [(0, .ref (ad 68)), (1, .int a1)]) (by decide) rfl (fun _ => Nat.le_of_ble_eq_true rfl) (fun _ => rfl) ?_
  intro p l e R s m args below meth c dC dI cs ad A hR1 hR2 F H locs ls w hl
  have hx := F.1.1
  have hb := F.1.2.1
  rw [f_Trains_onward] at h
  refine lv_aload_n (pc := 0) hx hb dX10_onward_0 rfl (lv_at hl 0 rfl) ?_
  refine s_getR (pc := 1) F w 63 ds_68 (j := 0) vc_X10 vi_X10 rfl (by decide) kf_X10_24 dX10_onward_1 ?_
  refine lv_iload_n (pc := 4) hx hb dX10_onward_4 rfl (lv_at hl 1 rfl) ?_
  refine lv_iconst (pc := 5) (v := 1) hx hb dX10_onward_5 (by decide) ?_
  refine lv_ishr (pc := 6) hx hb dX10_onward_6 ?_
  refine lv_iconst (pc := 7) (v := 2) hx hb dX10_onward_7 (by decide) ?_
  refine lv_iload_n (pc := 8) hx hb dX10_onward_8 rfl (lv_at hl 1 rfl) ?_
  refine lv_iconst (pc := 9) (v := 1) hx hb dX10_onward_9 (by decide) ?_
  refine lv_iand (pc := 10) hx hb dX10_onward_10 ?_
  refine lv_iadd (pc := 11) hx hb dX10_onward_11 ?_
  obtain ⟨r2, S1, hc, h⟩ := bnd_t h
  refine s_cvi (pc := 12) [.int (a1 >>> ((1 : Int32) &&& 31)), .int ((2 : Int32) + (a1 &&& (1 : Int32)))] (fun ad => [.ref (ad 63), .int (a1 >>> ((1 : Int32) &&& 31)), .int ((2 : Int32) + (a1 &&& (1 : Int32)))]) F w (m_State_get _ _ _ _ _ hc) rfl rfl hl.1 ds_63 vc_X8 rfl ok_X8_get rfl kc_X8_get kl_X10_36 ki_X8_get kv_X8_get kn_X8 ⟨Nat.le_trans (by decide) hR1, Nat.le_trans (by decide) hR2⟩ ⟨Nat.zero_le _, Nat.zero_le _⟩ (Nat.le_of_ble_eq_true rfl) dX10_onward_12 (fun H locs w => ?_)
  refine lv_istore_n (pc := 15) (lv' := [(2, .int r2), (0, .ref (ad 68)), (1, .int a1)]) hx hb dX10_onward_15 rfl hl (by decide) rfl (fun ls hl => ?_)
  refine lv_iload_n (pc := 16) hx hb dX10_onward_16 rfl (lv_at hl 0 rfl) ?_
  refine lv_bipush (pc := 17) (v := -4) hx hb dX10_onward_17 (by decide) ?_
  refine lv_icmp_ne (pc := 19) (tgt := 25) hx hb dX10_onward_19 (by decide) (fun q => ?_) (fun q => ?_)
  · have h := ite_f q h
    refine lv_aload_n (pc := 25) hx hb dX10_onward_25 rfl (lv_at hl 1 rfl) ?_
    refine s_getR (pc := 26) F w 63 ds_68 (j := 0) vc_X10 vi_X10 rfl (by decide) kf_X10_24 dX10_onward_26 ?_
    refine lv_iload_n (pc := 29) hx hb dX10_onward_29 rfl (lv_at hl 0 rfl) ?_
    refine lv_iconst (pc := 30) (v := 2) hx hb dX10_onward_30 (by decide) ?_
    obtain ⟨r4, S3, hc, h⟩ := bnd_t h
    refine s_cvi (pc := 31) [.int r2, .int (2 : Int32)] (fun ad => [.ref (ad 63), .int r2, .int (2 : Int32)]) F w (m_State_get _ _ _ _ _ hc) rfl rfl hl.1 ds_63 vc_X8 rfl ok_X8_get rfl kc_X8_get kl_X10_36 ki_X8_get kv_X8_get kn_X8 ⟨Nat.le_trans (by decide) hR1, Nat.le_trans (by decide) hR2⟩ ⟨Nat.zero_le _, Nat.zero_le _⟩ (Nat.le_of_ble_eq_true rfl) dX10_onward_31 (fun H locs w => ?_)
    refine lv_iload_n (pc := 34) hx hb dX10_onward_34 rfl (lv_at hl 2 rfl) ?_
    refine lv_iconst (pc := 35) (v := 1) hx hb dX10_onward_35 (by decide) ?_
    refine lv_ishr (pc := 36) hx hb dX10_onward_36 ?_
    refine lv_icmp_ne (pc := 37) (tgt := 48) hx hb dX10_onward_37 (by decide) (fun q => ?_) (fun q => ?_)
    · have h := ite_f q h
      refine lv_iconst (pc := 48) (v := 2) hx hb dX10_onward_48 (by decide) ?_
      refine lv_iload_n (pc := 49) hx hb dX10_onward_49 rfl (lv_at hl 0 rfl) ?_
      refine lv_imul (pc := 50) hx hb dX10_onward_50 ?_
      exact s_iret F w h dX10_onward_51
    · have h := ite_t q h
      refine lv_iconst (pc := 40) (v := 2) hx hb dX10_onward_40 (by decide) ?_
      refine lv_iload_n (pc := 41) hx hb dX10_onward_41 rfl (lv_at hl 0 rfl) ?_
      refine lv_imul (pc := 42) hx hb dX10_onward_42 ?_
      refine lv_iconst (pc := 43) (v := 1) hx hb dX10_onward_43 (by decide) ?_
      refine lv_iadd (pc := 44) hx hb dX10_onward_44 ?_
      refine lv_goto (pc := 45) (tgt := 51) hx hb dX10_onward_45 (by decide) ?_
      exact s_iret F w h dX10_onward_51
  · have h := ite_t q h
    refine lv_bipush (pc := 22) (v := -4) hx hb dX10_onward_22 (by decide) ?_
    exact s_iret F w h dX10_onward_24
def f_Trains_lineUp_L41  : Nat → Int32 → SS → Option (SS)
  | 0, _, _ => none
  | n + 1, x3, S =>
    if x3 = (-4 : Int32) then
      some S
    else
      if (72 : Int32) ≤ (S.1 68 4) then
        some S
      else
        grd (inb (S.1 68 4) 72) (wr S 104 (S.1 68 4).toNatClampNeg (x3 ^^^ (1 : Int32)) (fun S3 =>
        wr S3 68 4 ((S3.1 68 4) + (1 : Int32)) (fun S4 =>
        bnd (f_Trains_onward x3 S4) (fun r6 S5 =>
        f_Trains_lineUp_L41 n r6 S5))))
def f_Trains_lineUp_j32  (x2 : Int32) (S : SS) : Option (SS) :=
    wr S 68 4 (0 : Int32) (fun S1 =>
    nm (x2 ^^^ (1 : Int32)) (fun z2 =>
    f_Trains_lineUp_L41 NF z2 S1))
def f_Trains_lineUp_L4  : Nat → Int32 → Int32 → SS → Option (SS)
  | 0, _, _, _ => none
  | n + 1, x2, x3, S =>
    if (72 : Int32) ≤ x3 then
      f_Trains_lineUp_j32 x2 S
    else
      bnd (f_Trains_onward x2 S) (fun r8 S7 =>
      if r8 = (-4 : Int32) then
        f_Trains_lineUp_j32 x2 S7
      else
        bnd (f_Trains_onward x2 S7) (fun r10 S9 =>
        nm (x3 + (1 : Int32)) (fun z11 =>
        f_Trains_lineUp_L4 n r10 z11 S9)))
def f_Trains_lineUp (a1 : Int32) (S : SS) : Option (SS) :=
  f_Trains_lineUp_L4 NF a1 (0 : Int32) S
theorem dX10_lineUp_0 : decode cX10_lineUp 0 = .ok (.iload_n 1, 1) := dc_27 (by decide +kernel)
theorem dX10_lineUp_1 : decode cX10_lineUp 1 = .ok (.istore_n 2, 1) := dc_61 (by decide +kernel)
theorem dX10_lineUp_2 : decode cX10_lineUp 2 = .ok (.iconst 0, 1) := dc_3 (by decide +kernel)
theorem dX10_lineUp_3 : decode cX10_lineUp 3 = .ok (.istore_n 3, 1) := dc_62 (by decide +kernel)
theorem dX10_lineUp_4 : decode cX10_lineUp 4 = .ok (.iload_n 3, 1) := dc_29 (by decide +kernel)
theorem dX10_lineUp_5 : decode cX10_lineUp 5 = .ok (.bipush 72, 2) := dc_16 (a := 72) (by decide +kernel) (by decide)
theorem dX10_lineUp_7 : decode cX10_lineUp 7 = .ok (.if_icmp .ge 25, 3) := dc_162 (a := 0) (b := 25) (by decide +kernel) (by decide)
theorem dX10_lineUp_10 : decode cX10_lineUp 10 = .ok (.aload_n 0, 1) := dc_42 (by decide +kernel)
theorem dX10_lineUp_11 : decode cX10_lineUp 11 = .ok (.iload_n 2, 1) := dc_28 (by decide +kernel)
theorem dX10_lineUp_12 : decode cX10_lineUp 12 = .ok (.invokevirtual 40, 3) := dc_182 (a := 0) (b := 40) (by decide +kernel)
theorem dX10_lineUp_15 : decode cX10_lineUp 15 = .ok (.bipush (-4), 2) := dc_16 (a := 252) (by decide +kernel) (by decide)
theorem dX10_lineUp_17 : decode cX10_lineUp 17 = .ok (.if_icmp .eq 15, 3) := dc_159 (a := 0) (b := 15) (by decide +kernel) (by decide)
theorem dX10_lineUp_20 : decode cX10_lineUp 20 = .ok (.aload_n 0, 1) := dc_42 (by decide +kernel)
theorem dX10_lineUp_21 : decode cX10_lineUp 21 = .ok (.iload_n 2, 1) := dc_28 (by decide +kernel)
theorem dX10_lineUp_22 : decode cX10_lineUp 22 = .ok (.invokevirtual 40, 3) := dc_182 (a := 0) (b := 40) (by decide +kernel)
theorem dX10_lineUp_25 : decode cX10_lineUp 25 = .ok (.istore_n 2, 1) := dc_61 (by decide +kernel)
theorem dX10_lineUp_26 : decode cX10_lineUp 26 = .ok (.iinc 3 1, 3) := dc_132 (a := 3) (b := 1) (by decide +kernel) (by decide)
theorem dX10_lineUp_29 : decode cX10_lineUp 29 = .ok (.goto (-25), 3) := dc_167 (a := 255) (b := 231) (by decide +kernel) (by decide)
theorem dX10_lineUp_32 : decode cX10_lineUp 32 = .ok (.aload_n 0, 1) := dc_42 (by decide +kernel)
theorem dX10_lineUp_33 : decode cX10_lineUp 33 = .ok (.iconst 0, 1) := dc_3 (by decide +kernel)
theorem dX10_lineUp_34 : decode cX10_lineUp 34 = .ok (.putfield 17, 3) := dc_181 (a := 0) (b := 17) (by decide +kernel)
theorem dX10_lineUp_37 : decode cX10_lineUp 37 = .ok (.iload_n 2, 1) := dc_28 (by decide +kernel)
theorem dX10_lineUp_38 : decode cX10_lineUp 38 = .ok (.iconst 1, 1) := dc_4 (by decide +kernel)
theorem dX10_lineUp_39 : decode cX10_lineUp 39 = .ok (.ixor, 1) := dc_130 (by decide +kernel)
theorem dX10_lineUp_40 : decode cX10_lineUp 40 = .ok (.istore_n 3, 1) := dc_62 (by decide +kernel)
theorem dX10_lineUp_41 : decode cX10_lineUp 41 = .ok (.iload_n 3, 1) := dc_29 (by decide +kernel)
theorem dX10_lineUp_42 : decode cX10_lineUp 42 = .ok (.bipush (-4), 2) := dc_16 (a := 252) (by decide +kernel) (by decide)
theorem dX10_lineUp_44 : decode cX10_lineUp 44 = .ok (.if_icmp .eq 43, 3) := dc_159 (a := 0) (b := 43) (by decide +kernel) (by decide)
theorem dX10_lineUp_47 : decode cX10_lineUp 47 = .ok (.aload_n 0, 1) := dc_42 (by decide +kernel)
theorem dX10_lineUp_48 : decode cX10_lineUp 48 = .ok (.getfield 17, 3) := dc_180 (a := 0) (b := 17) (by decide +kernel)
theorem dX10_lineUp_51 : decode cX10_lineUp 51 = .ok (.bipush 72, 2) := dc_16 (a := 72) (by decide +kernel) (by decide)
theorem dX10_lineUp_53 : decode cX10_lineUp 53 = .ok (.if_icmp .ge 34, 3) := dc_162 (a := 0) (b := 34) (by decide +kernel) (by decide)
theorem dX10_lineUp_56 : decode cX10_lineUp 56 = .ok (.aload_n 0, 1) := dc_42 (by decide +kernel)
theorem dX10_lineUp_57 : decode cX10_lineUp 57 = .ok (.getfield 11, 3) := dc_180 (a := 0) (b := 11) (by decide +kernel)
theorem dX10_lineUp_60 : decode cX10_lineUp 60 = .ok (.aload_n 0, 1) := dc_42 (by decide +kernel)
theorem dX10_lineUp_61 : decode cX10_lineUp 61 = .ok (.getfield 17, 3) := dc_180 (a := 0) (b := 17) (by decide +kernel)
theorem dX10_lineUp_64 : decode cX10_lineUp 64 = .ok (.iload_n 3, 1) := dc_29 (by decide +kernel)
theorem dX10_lineUp_65 : decode cX10_lineUp 65 = .ok (.iconst 1, 1) := dc_4 (by decide +kernel)
theorem dX10_lineUp_66 : decode cX10_lineUp 66 = .ok (.ixor, 1) := dc_130 (by decide +kernel)
theorem dX10_lineUp_67 : decode cX10_lineUp 67 = .ok (.iastore, 1) := dc_79 (by decide +kernel)
theorem dX10_lineUp_68 : decode cX10_lineUp 68 = .ok (.aload_n 0, 1) := dc_42 (by decide +kernel)
theorem dX10_lineUp_69 : decode cX10_lineUp 69 = .ok (.dup, 1) := dc_89 (by decide +kernel)
theorem dX10_lineUp_70 : decode cX10_lineUp 70 = .ok (.getfield 17, 3) := dc_180 (a := 0) (b := 17) (by decide +kernel)
theorem dX10_lineUp_73 : decode cX10_lineUp 73 = .ok (.iconst 1, 1) := dc_4 (by decide +kernel)
theorem dX10_lineUp_74 : decode cX10_lineUp 74 = .ok (.iadd, 1) := dc_96 (by decide +kernel)
theorem dX10_lineUp_75 : decode cX10_lineUp 75 = .ok (.putfield 17, 3) := dc_181 (a := 0) (b := 17) (by decide +kernel)
theorem dX10_lineUp_78 : decode cX10_lineUp 78 = .ok (.aload_n 0, 1) := dc_42 (by decide +kernel)
theorem dX10_lineUp_79 : decode cX10_lineUp 79 = .ok (.iload_n 3, 1) := dc_29 (by decide +kernel)
theorem dX10_lineUp_80 : decode cX10_lineUp 80 = .ok (.invokevirtual 40, 3) := dc_182 (a := 0) (b := 40) (by decide +kernel)
theorem dX10_lineUp_83 : decode cX10_lineUp 83 = .ok (.istore_n 3, 1) := dc_62 (by decide +kernel)
theorem dX10_lineUp_84 : decode cX10_lineUp 84 = .ok (.goto (-43), 3) := dc_167 (a := 255) (b := 213) (by decide +kernel) (by decide)
theorem dX10_lineUp_87 : decode cX10_lineUp 87 = .ok (.return_, 1) := dc_177 (by decide +kernel)
set_option maxRecDepth 100000 in
set_option maxHeartbeats 4000000 in
theorem w_Trains_lineUp_L41 {p : Program} {l : Launch} {e : Env} {R : Room} {s : State} {m : MethodId} {args : Array Value} {below : List Frame} {meth : Method} {c : Code} {dC : Nat → ClassId} {dI : Nat → Nat → Nat} {cs : Nat → ClassId} {ad : Nat → Nat} {A : Nat → Prop} {D0 : Nat → Nat} {S' : SS} (F : Fx p s m args meth c cX10_lineUp 4 RX10 none dC dI cs A) (hR1 : 2 ≤ R.frames) (hR2 : 44 ≤ R.locals) : ∀ (n : Nat) (x3 : Int32) (S : SS), f_Trains_lineUp_L41 n x3 S = some S' → AW p l e R s m args below meth c dC dI cs ad A D0 none S' 4 41 [(0, .ref (ad 68)), (3, .int x3)] [] S := by
  have hx := F.1.1
  have hb := F.1.2.1
  intro n
  induction n with
  | zero => intro x3 S h; cases h
  | succ n ih =>
    intro x3 S h H locs ls w hl
    rw [f_Trains_lineUp_L41] at h
    refine lv_iload_n (pc := 41) hx hb dX10_lineUp_41 rfl (lv_at hl 1 rfl) ?_
    refine lv_bipush (pc := 42) (v := -4) hx hb dX10_lineUp_42 (by decide) ?_
    refine lv_icmp_eq (pc := 44) (tgt := 87) hx hb dX10_lineUp_44 (by decide) (fun q => ?_) (fun q => ?_)
    · have h := ite_t q h
      exact s_vret F w h dX10_lineUp_87
    · have h := ite_f q h
      refine lv_aload_n (pc := 47) hx hb dX10_lineUp_47 rfl (lv_at hl 0 rfl) ?_
      refine s_getI (pc := 48) F w ds_68 (j := 4) vc_X10 vi_X10 rfl (by decide) kf_X10_17 dX10_lineUp_48 ?_
      refine lv_bipush (pc := 51) (v := 72) hx hb dX10_lineUp_51 (by decide) ?_
      refine lv_icmp_ge (pc := 53) (tgt := 87) hx hb dX10_lineUp_53 (by decide) (fun q => ?_) (fun q => ?_)
      · have h := ite_t q h
        exact s_vret F w h dX10_lineUp_87
      · have h := ite_f q h
        refine lv_aload_n (pc := 56) hx hb dX10_lineUp_56 rfl (lv_at hl 0 rfl) ?_
        refine s_getR (pc := 57) F w 104 ds_68 (j := 3) vc_X10 vi_X10 rfl (by decide) kf_X10_11 dX10_lineUp_57 ?_
        refine lv_aload_n (pc := 60) hx hb dX10_lineUp_60 rfl (lv_at hl 0 rfl) ?_
        refine s_getI (pc := 61) F w ds_68 (j := 4) vc_X10 vi_X10 rfl (by decide) kf_X10_17 dX10_lineUp_61 ?_
        refine lv_iload_n (pc := 64) hx hb dX10_lineUp_64 rfl (lv_at hl 1 rfl) ?_
        refine lv_iconst (pc := 65) (v := 1) hx hb dX10_lineUp_65 (by decide) ?_
        refine lv_ixor (pc := 66) hx hb dX10_lineUp_66 ?_
        refine s_iast (pc := 67) F w ds_104 h dX10_lineUp_67 (fun S3 H locs h w => ?_)
        refine lv_aload_n (pc := 68) hx hb dX10_lineUp_68 rfl (lv_at hl 0 rfl) ?_
        refine lv_dup (pc := 69) hx hb dX10_lineUp_69 rfl ?_
        refine s_getI (pc := 70) F w ds_68 (j := 4) vc_X10 vi_X10 rfl (by decide) kf_X10_17 dX10_lineUp_70 ?_
        refine lv_iconst (pc := 73) (v := 1) hx hb dX10_lineUp_73 (by decide) ?_
        refine lv_iadd (pc := 74) hx hb dX10_lineUp_74 ?_
        refine s_putI (pc := 75) F w ds_68 vc_X10 vi_X10 tyX10_ok nmX10 (j := 4) rfl (by decide) kf_X10_17 rfl pd_I h dX10_lineUp_75 (fun S4 H locs h w => ?_)
        refine lv_aload_n (pc := 78) hx hb dX10_lineUp_78 rfl (lv_at hl 0 rfl) ?_
        refine lv_iload_n (pc := 79) hx hb dX10_lineUp_79 rfl (lv_at hl 1 rfl) ?_
        obtain ⟨r6, S5, hc, h⟩ := bnd_t h
        refine s_cvi (pc := 80) [.int x3] (fun ad => [.ref (ad 68), .int x3]) F w (m_Trains_onward _ _ _ _ hc) rfl rfl hl.1 ds_68 vc_X10 rfl ok_X10_onward rfl kc_X10_onward kl_X10_40 ki_X10_onward kv_X10_onward kn_X10 ⟨Nat.le_trans (by decide) hR1, Nat.le_trans (by decide) hR2⟩ ⟨Nat.zero_le _, Nat.zero_le _⟩ (Nat.le_of_ble_eq_true rfl) dX10_lineUp_80 (fun H locs w => ?_)
        refine lv_istore_n (pc := 83) (lv' := [(3, .int r6), (0, .ref (ad 68))]) hx hb dX10_lineUp_83 rfl hl (by decide) rfl (fun ls hl => ?_)
        refine lv_goto (pc := 84) (tgt := 41) hx hb dX10_lineUp_84 (by decide) ?_
        exact ih _ _ h _ _ _ w (lv_sub hl [1, 0] rfl)
set_option maxRecDepth 100000 in
set_option maxHeartbeats 4000000 in
theorem w_Trains_lineUp_j32 {p : Program} {l : Launch} {e : Env} {R : Room} {s : State} {m : MethodId} {args : Array Value} {below : List Frame} {meth : Method} {c : Code} {dC : Nat → ClassId} {dI : Nat → Nat → Nat} {cs : Nat → ClassId} {ad : Nat → Nat} {A : Nat → Prop} {D0 : Nat → Nat} {S' : SS} (F : Fx p s m args meth c cX10_lineUp 4 RX10 none dC dI cs A) (hR1 : 2 ≤ R.frames) (hR2 : 44 ≤ R.locals) (x2 : Int32) (S : SS) (h : f_Trains_lineUp_j32 x2 S = some S') : AW p l e R s m args below meth c dC dI cs ad A D0 none S' 4 32 [(0, .ref (ad 68)), (2, .int x2)] [] S := by
  have hx := F.1.1
  have hb := F.1.2.1
  intro H locs ls w hl
  rw [f_Trains_lineUp_j32] at h
  refine lv_aload_n (pc := 32) hx hb dX10_lineUp_32 rfl (lv_at hl 0 rfl) ?_
  refine lv_iconst (pc := 33) (v := 0) hx hb dX10_lineUp_33 (by decide) ?_
  refine s_putI (pc := 34) F w ds_68 vc_X10 vi_X10 tyX10_ok nmX10 (j := 4) rfl (by decide) kf_X10_17 rfl pd_I h dX10_lineUp_34 (fun S1 H locs h w => ?_)
  refine lv_iload_n (pc := 37) hx hb dX10_lineUp_37 rfl (lv_at hl 1 rfl) ?_
  refine lv_iconst (pc := 38) (v := 1) hx hb dX10_lineUp_38 (by decide) ?_
  refine lv_ixor (pc := 39) hx hb dX10_lineUp_39 ?_
  refine s_nm h (fun z2 ez2 h => ?_)
  rw [← ez2]
  refine lv_istore_n (pc := 40) (lv' := [(3, .int z2), (0, .ref (ad 68)), (2, .int x2)]) hx hb dX10_lineUp_40 rfl hl (by decide) rfl (fun ls hl => ?_)
  exact w_Trains_lineUp_L41 F (Nat.le_trans (by decide) hR1) (Nat.le_trans (by decide) hR2) _ _ _ h _ _ _ w (lv_sub hl [1, 0] rfl)
set_option maxRecDepth 100000 in
set_option maxHeartbeats 4000000 in
theorem w_Trains_lineUp_L4 {p : Program} {l : Launch} {e : Env} {R : Room} {s : State} {m : MethodId} {args : Array Value} {below : List Frame} {meth : Method} {c : Code} {dC : Nat → ClassId} {dI : Nat → Nat → Nat} {cs : Nat → ClassId} {ad : Nat → Nat} {A : Nat → Prop} {D0 : Nat → Nat} {S' : SS} (F : Fx p s m args meth c cX10_lineUp 4 RX10 none dC dI cs A) (hR1 : 2 ≤ R.frames) (hR2 : 44 ≤ R.locals) : ∀ (n : Nat) (x2 : Int32) (x3 : Int32) (S : SS), f_Trains_lineUp_L4 n x2 x3 S = some S' → AW p l e R s m args below meth c dC dI cs ad A D0 none S' 4 4 [(0, .ref (ad 68)), (2, .int x2), (3, .int x3)] [] S := by
  have hx := F.1.1
  have hb := F.1.2.1
  intro n
  induction n with
  | zero => intro x2 x3 S h; cases h
  | succ n ih =>
    intro x2 x3 S h H locs ls w hl
    rw [f_Trains_lineUp_L4] at h
    refine lv_iload_n (pc := 4) hx hb dX10_lineUp_4 rfl (lv_at hl 2 rfl) ?_
    refine lv_bipush (pc := 5) (v := 72) hx hb dX10_lineUp_5 (by decide) ?_
    refine lv_icmp_ge (pc := 7) (tgt := 32) hx hb dX10_lineUp_7 (by decide) (fun q => ?_) (fun q => ?_)
    · have h := ite_t q h
      exact w_Trains_lineUp_j32 F (Nat.le_trans (by decide) hR1) (Nat.le_trans (by decide) hR2) _ _ h _ _ _ w (lv_sub hl [0, 1] rfl)
    · have h := ite_f q h
      refine lv_aload_n (pc := 10) hx hb dX10_lineUp_10 rfl (lv_at hl 0 rfl) ?_
      refine lv_iload_n (pc := 11) hx hb dX10_lineUp_11 rfl (lv_at hl 1 rfl) ?_
      obtain ⟨r8, S7, hc, h⟩ := bnd_t h
      refine s_cvi (pc := 12) [.int x2] (fun ad => [.ref (ad 68), .int x2]) F w (m_Trains_onward _ _ _ _ hc) rfl rfl hl.1 ds_68 vc_X10 rfl ok_X10_onward rfl kc_X10_onward kl_X10_40 ki_X10_onward kv_X10_onward kn_X10 ⟨Nat.le_trans (by decide) hR1, Nat.le_trans (by decide) hR2⟩ ⟨Nat.zero_le _, Nat.zero_le _⟩ (Nat.le_of_ble_eq_true rfl) dX10_lineUp_12 (fun H locs w => ?_)
      refine lv_bipush (pc := 15) (v := -4) hx hb dX10_lineUp_15 (by decide) ?_
      refine lv_icmp_eq (pc := 17) (tgt := 32) hx hb dX10_lineUp_17 (by decide) (fun q => ?_) (fun q => ?_)
      · have h := ite_t q h
        exact w_Trains_lineUp_j32 F (Nat.le_trans (by decide) hR1) (Nat.le_trans (by decide) hR2) _ _ h _ _ _ w (lv_sub hl [0, 1] rfl)
      · have h := ite_f q h
        refine lv_aload_n (pc := 20) hx hb dX10_lineUp_20 rfl (lv_at hl 0 rfl) ?_
        refine lv_iload_n (pc := 21) hx hb dX10_lineUp_21 rfl (lv_at hl 1 rfl) ?_
        obtain ⟨r10, S9, hc, h⟩ := bnd_t h
        refine s_cvi (pc := 22) [.int x2] (fun ad => [.ref (ad 68), .int x2]) F w (m_Trains_onward _ _ _ _ hc) rfl rfl hl.1 ds_68 vc_X10 rfl ok_X10_onward rfl kc_X10_onward kl_X10_40 ki_X10_onward kv_X10_onward kn_X10 ⟨Nat.le_trans (by decide) hR1, Nat.le_trans (by decide) hR2⟩ ⟨Nat.zero_le _, Nat.zero_le _⟩ (Nat.le_of_ble_eq_true rfl) dX10_lineUp_22 (fun H locs w => ?_)
        refine lv_istore_n (pc := 25) (lv' := [(2, .int r10), (0, .ref (ad 68)), (3, .int x3)]) hx hb dX10_lineUp_25 rfl hl (by decide) rfl (fun ls hl => ?_)
        refine s_nm h (fun z11 ez11 h => ?_)
        refine lv_iinc (pc := 26) (v := z11) (lv' := [(3, .int z11), (2, .int r10), (0, .ref (ad 68))]) hx hb dX10_lineUp_26 hl (k := 2) rfl (by rw [ez11]; rfl) (by decide) rfl (fun ls hl => ?_)
        refine lv_goto (pc := 29) (tgt := 4) hx hb dX10_lineUp_29 (by decide) ?_
        exact ih _ _ _ h _ _ _ w (lv_sub hl [2, 1, 0] rfl)
set_option maxRecDepth 100000 in
set_option maxHeartbeats 4000000 in
theorem m_Trains_lineUp (a1 : Int32) (S S' : SS) (h : f_Trains_lineUp a1 S = some S') : MT yX10_lineUp cX10_lineUp 4 none 2 44 (fun ad => [.ref (ad 68), .int a1]) S none S' := by
  refine MT.of RX10 (fun ad => [(0, .ref (ad 68)), (1, .int a1)]) (by decide) rfl (fun _ => Nat.le_of_ble_eq_true rfl) (fun _ => rfl) ?_
  intro p l e R s m args below meth c dC dI cs ad A hR1 hR2 F H locs ls w hl
  have hx := F.1.1
  have hb := F.1.2.1
  rw [f_Trains_lineUp] at h
  refine lv_iload_n (pc := 0) hx hb dX10_lineUp_0 rfl (lv_at hl 1 rfl) ?_
  refine lv_istore_n (pc := 1) (lv' := [(2, .int a1), (0, .ref (ad 68)), (1, .int a1)]) hx hb dX10_lineUp_1 rfl hl (by decide) rfl (fun ls hl => ?_)
  refine lv_iconst (pc := 2) (v := 0) hx hb dX10_lineUp_2 (by decide) ?_
  refine lv_istore_n (pc := 3) (lv' := [(3, .int (0 : Int32)), (2, .int a1), (0, .ref (ad 68)), (1, .int a1)]) hx hb dX10_lineUp_3 rfl hl (by decide) rfl (fun ls hl => ?_)
  exact w_Trains_lineUp_L4 F (Nat.le_trans (by decide) hR1) (Nat.le_trans (by decide) hR2) _ _ _ _ h _ _ _ w (lv_sub hl [2, 1, 0] rfl)
def f_Trains_hookInLine (a1 : Int32) (S : SS) : Option (Int32 × SS) :=
  if a1 < 0 then
    some ((-4 : Int32), S)
  else
    if (S.1 68 4) ≤ a1 then
      some ((-4 : Int32), S)
    else
      if a1 < (72 : Int32) then
        grd (inb a1 72) (
        some (S.1 104 a1.toNatClampNeg, S))
      else
        some ((-4 : Int32), S)
theorem dX10_hookInLine_0 : decode cX10_hookInLine 0 = .ok (.iload_n 1, 1) := dc_27 (by decide +kernel)
theorem dX10_hookInLine_1 : decode cX10_hookInLine 1 = .ok (.ifCond .lt 17, 3) := dc_155 (a := 0) (b := 17) (by decide +kernel) (by decide)
theorem dX10_hookInLine_4 : decode cX10_hookInLine 4 = .ok (.iload_n 1, 1) := dc_27 (by decide +kernel)
theorem dX10_hookInLine_5 : decode cX10_hookInLine 5 = .ok (.aload_n 0, 1) := dc_42 (by decide +kernel)
theorem dX10_hookInLine_6 : decode cX10_hookInLine 6 = .ok (.getfield 17, 3) := dc_180 (a := 0) (b := 17) (by decide +kernel)
theorem dX10_hookInLine_9 : decode cX10_hookInLine 9 = .ok (.if_icmp .ge 9, 3) := dc_162 (a := 0) (b := 9) (by decide +kernel) (by decide)
theorem dX10_hookInLine_12 : decode cX10_hookInLine 12 = .ok (.iload_n 1, 1) := dc_27 (by decide +kernel)
theorem dX10_hookInLine_13 : decode cX10_hookInLine 13 = .ok (.bipush 72, 2) := dc_16 (a := 72) (by decide +kernel) (by decide)
theorem dX10_hookInLine_15 : decode cX10_hookInLine 15 = .ok (.if_icmp .lt 8, 3) := dc_161 (a := 0) (b := 8) (by decide +kernel) (by decide)
theorem dX10_hookInLine_18 : decode cX10_hookInLine 18 = .ok (.bipush (-4), 2) := dc_16 (a := 252) (by decide +kernel) (by decide)
theorem dX10_hookInLine_20 : decode cX10_hookInLine 20 = .ok (.goto 9, 3) := dc_167 (a := 0) (b := 9) (by decide +kernel) (by decide)
theorem dX10_hookInLine_23 : decode cX10_hookInLine 23 = .ok (.aload_n 0, 1) := dc_42 (by decide +kernel)
theorem dX10_hookInLine_24 : decode cX10_hookInLine 24 = .ok (.getfield 11, 3) := dc_180 (a := 0) (b := 11) (by decide +kernel)
theorem dX10_hookInLine_27 : decode cX10_hookInLine 27 = .ok (.iload_n 1, 1) := dc_27 (by decide +kernel)
theorem dX10_hookInLine_28 : decode cX10_hookInLine 28 = .ok (.iaload, 1) := dc_46 (by decide +kernel)
theorem dX10_hookInLine_29 : decode cX10_hookInLine 29 = .ok (.ireturn, 1) := dc_172 (by decide +kernel)
set_option maxRecDepth 100000 in
set_option maxHeartbeats 4000000 in
theorem m_Trains_hookInLine (a1 : Int32) (S S' : SS) (r : Int32) (h : f_Trains_hookInLine a1 S = some (r, S')) : MT yX10_hookInLine cX10_hookInLine 2 (some .int) 0 0 (fun ad => [.ref (ad 68), .int a1]) S (some (.int r)) S' := by
  refine MT.of RX10 (fun ad => [(0, .ref (ad 68)), (1, .int a1)]) (by decide) rfl (fun _ => Nat.le_of_ble_eq_true rfl) (fun _ => rfl) ?_
  intro p l e R s m args below meth c dC dI cs ad A hR1 hR2 F H locs ls w hl
  have hx := F.1.1
  have hb := F.1.2.1
  rw [f_Trains_hookInLine] at h
  refine lv_iload_n (pc := 0) hx hb dX10_hookInLine_0 rfl (lv_at hl 1 rfl) ?_
  refine lv_if_lt (pc := 1) (tgt := 18) hx hb dX10_hookInLine_1 (by decide) (fun q => ?_) (fun q => ?_)
  · have h := ite_t q h
    refine lv_bipush (pc := 18) (v := -4) hx hb dX10_hookInLine_18 (by decide) ?_
    refine lv_goto (pc := 20) (tgt := 29) hx hb dX10_hookInLine_20 (by decide) ?_
    exact s_iret F w h dX10_hookInLine_29
  · have h := ite_f q h
    refine lv_iload_n (pc := 4) hx hb dX10_hookInLine_4 rfl (lv_at hl 1 rfl) ?_
    refine lv_aload_n (pc := 5) hx hb dX10_hookInLine_5 rfl (lv_at hl 0 rfl) ?_
    refine s_getI (pc := 6) F w ds_68 (j := 4) vc_X10 vi_X10 rfl (by decide) kf_X10_17 dX10_hookInLine_6 ?_
    refine lv_icmp_ge (pc := 9) (tgt := 18) hx hb dX10_hookInLine_9 (by decide) (fun q => ?_) (fun q => ?_)
    · have h := ite_t q h
      refine lv_bipush (pc := 18) (v := -4) hx hb dX10_hookInLine_18 (by decide) ?_
      refine lv_goto (pc := 20) (tgt := 29) hx hb dX10_hookInLine_20 (by decide) ?_
      exact s_iret F w h dX10_hookInLine_29
    · have h := ite_f q h
      refine lv_iload_n (pc := 12) hx hb dX10_hookInLine_12 rfl (lv_at hl 1 rfl) ?_
      refine lv_bipush (pc := 13) (v := 72) hx hb dX10_hookInLine_13 (by decide) ?_
      refine lv_icmp_lt (pc := 15) (tgt := 23) hx hb dX10_hookInLine_15 (by decide) (fun q => ?_) (fun q => ?_)
      · have h := ite_t q h
        refine lv_aload_n (pc := 23) hx hb dX10_hookInLine_23 rfl (lv_at hl 0 rfl) ?_
        refine s_getR (pc := 24) F w 104 ds_68 (j := 3) vc_X10 vi_X10 rfl (by decide) kf_X10_11 dX10_hookInLine_24 ?_
        refine lv_iload_n (pc := 27) hx hb dX10_hookInLine_27 rfl (lv_at hl 1 rfl) ?_
        refine s_iald (pc := 28) F w ds_104 h dX10_hookInLine_28 (fun h => ?_)
        exact s_iret F w h dX10_hookInLine_29
      · have h := ite_f q h
        refine lv_bipush (pc := 18) (v := -4) hx hb dX10_hookInLine_18 (by decide) ?_
        refine lv_goto (pc := 20) (tgt := 29) hx hb dX10_hookInLine_20 (by decide) ?_
        exact s_iret F w h dX10_hookInLine_29
def f_Trains_inLine (a1 : Int32) (S : SS) : Option (Int32 × SS) :=
  bnd (f_Trains_hookInLine a1 S) (fun r2 S1 =>
  if r2 = (-4 : Int32) then
    some ((-4 : Int32), S1)
  else
    some (r2 >>> ((1 : Int32) &&& 31), S1))
theorem dX10_inLine_0 : decode cX10_inLine 0 = .ok (.aload_n 0, 1) := dc_42 (by decide +kernel)
theorem dX10_inLine_1 : decode cX10_inLine 1 = .ok (.iload_n 1, 1) := dc_27 (by decide +kernel)
theorem dX10_inLine_2 : decode cX10_inLine 2 = .ok (.invokevirtual 44, 3) := dc_182 (a := 0) (b := 44) (by decide +kernel)
theorem dX10_inLine_5 : decode cX10_inLine 5 = .ok (.istore_n 2, 1) := dc_61 (by decide +kernel)
theorem dX10_inLine_6 : decode cX10_inLine 6 = .ok (.iload_n 2, 1) := dc_28 (by decide +kernel)
theorem dX10_inLine_7 : decode cX10_inLine 7 = .ok (.bipush (-4), 2) := dc_16 (a := 252) (by decide +kernel) (by decide)
theorem dX10_inLine_9 : decode cX10_inLine 9 = .ok (.if_icmp .ne 8, 3) := dc_160 (a := 0) (b := 8) (by decide +kernel) (by decide)
theorem dX10_inLine_12 : decode cX10_inLine 12 = .ok (.bipush (-4), 2) := dc_16 (a := 252) (by decide +kernel) (by decide)
theorem dX10_inLine_14 : decode cX10_inLine 14 = .ok (.goto 6, 3) := dc_167 (a := 0) (b := 6) (by decide +kernel) (by decide)
theorem dX10_inLine_17 : decode cX10_inLine 17 = .ok (.iload_n 2, 1) := dc_28 (by decide +kernel)
theorem dX10_inLine_18 : decode cX10_inLine 18 = .ok (.iconst 1, 1) := dc_4 (by decide +kernel)
theorem dX10_inLine_19 : decode cX10_inLine 19 = .ok (.ishr, 1) := dc_122 (by decide +kernel)
theorem dX10_inLine_20 : decode cX10_inLine 20 = .ok (.ireturn, 1) := dc_172 (by decide +kernel)
set_option maxRecDepth 100000 in
set_option maxHeartbeats 4000000 in
theorem m_Trains_inLine (a1 : Int32) (S S' : SS) (r : Int32) (h : f_Trains_inLine a1 S = some (r, S')) : MT yX10_inLine cX10_inLine 3 (some .int) 1 21 (fun ad => [.ref (ad 68), .int a1]) S (some (.int r)) S' := by
  refine MT.of RX10 (fun ad => [(0, .ref (ad 68)), (1, .int a1)]) (by decide) rfl (fun _ => Nat.le_of_ble_eq_true rfl) (fun _ => rfl) ?_
  intro p l e R s m args below meth c dC dI cs ad A hR1 hR2 F H locs ls w hl
  have hx := F.1.1
  have hb := F.1.2.1
  rw [f_Trains_inLine] at h
  refine lv_aload_n (pc := 0) hx hb dX10_inLine_0 rfl (lv_at hl 0 rfl) ?_
  refine lv_iload_n (pc := 1) hx hb dX10_inLine_1 rfl (lv_at hl 1 rfl) ?_
  obtain ⟨r2, S1, hc, h⟩ := bnd_t h
  refine s_cvi (pc := 2) [.int a1] (fun ad => [.ref (ad 68), .int a1]) F w (m_Trains_hookInLine _ _ _ _ hc) rfl rfl hl.1 ds_68 vc_X10 rfl ok_X10_hookInLine rfl kc_X10_hookInLine kl_X10_44 ki_X10_hookInLine kv_X10_hookInLine kn_X10 ⟨Nat.le_trans (by decide) hR1, Nat.le_trans (by decide) hR2⟩ ⟨Nat.zero_le _, Nat.zero_le _⟩ (Nat.le_of_ble_eq_true rfl) dX10_inLine_2 (fun H locs w => ?_)
  refine lv_istore_n (pc := 5) (lv' := [(2, .int r2), (0, .ref (ad 68)), (1, .int a1)]) hx hb dX10_inLine_5 rfl hl (by decide) rfl (fun ls hl => ?_)
  refine lv_iload_n (pc := 6) hx hb dX10_inLine_6 rfl (lv_at hl 0 rfl) ?_
  refine lv_bipush (pc := 7) (v := -4) hx hb dX10_inLine_7 (by decide) ?_
  refine lv_icmp_ne (pc := 9) (tgt := 17) hx hb dX10_inLine_9 (by decide) (fun q => ?_) (fun q => ?_)
  · have h := ite_f q h
    refine lv_iload_n (pc := 17) hx hb dX10_inLine_17 rfl (lv_at hl 0 rfl) ?_
    refine lv_iconst (pc := 18) (v := 1) hx hb dX10_inLine_18 (by decide) ?_
    refine lv_ishr (pc := 19) hx hb dX10_inLine_19 ?_
    exact s_iret F w h dX10_inLine_20
  · have h := ite_t q h
    refine lv_bipush (pc := 12) (v := -4) hx hb dX10_inLine_12 (by decide) ?_
    refine lv_goto (pc := 14) (tgt := 20) hx hb dX10_inLine_14 (by decide) ?_
    exact s_iret F w h dX10_inLine_20
def f_Trains_areOne_L9  : Nat → Int32 → Int32 → SS → Option (Int32 × SS)
  | 0, _, _, _ => none
  | n + 1, x2, x3, S =>
    if (S.1 68 4) ≤ x3 then
      some ((0 : Int32), S)
    else
      bnd (f_Trains_inLine x3 S) (fun r3 S2 =>
      if r3 = x2 then
        some ((1 : Int32), S2)
      else
        nm (x3 + (1 : Int32)) (fun z4 =>
        f_Trains_areOne_L9 n x2 z4 S2))
def f_Trains_areOne (a1 : Int32) (a2 : Int32) (S : SS) : Option (Int32 × SS) :=
  bndv (f_Trains_lineUp ((2 : Int32) * a1) S) (fun S1 =>
  f_Trains_areOne_L9 NF a2 (0 : Int32) S1)
theorem dX10_areOne_0 : decode cX10_areOne 0 = .ok (.aload_n 0, 1) := dc_42 (by decide +kernel)
theorem dX10_areOne_1 : decode cX10_areOne 1 = .ok (.iconst 2, 1) := dc_5 (by decide +kernel)
theorem dX10_areOne_2 : decode cX10_areOne 2 = .ok (.iload_n 1, 1) := dc_27 (by decide +kernel)
theorem dX10_areOne_3 : decode cX10_areOne 3 = .ok (.imul, 1) := dc_104 (by decide +kernel)
theorem dX10_areOne_4 : decode cX10_areOne 4 = .ok (.invokevirtual 79, 3) := dc_182 (a := 0) (b := 79) (by decide +kernel)
theorem dX10_areOne_7 : decode cX10_areOne 7 = .ok (.iconst 0, 1) := dc_3 (by decide +kernel)
theorem dX10_areOne_8 : decode cX10_areOne 8 = .ok (.istore_n 3, 1) := dc_62 (by decide +kernel)
theorem dX10_areOne_9 : decode cX10_areOne 9 = .ok (.iload_n 3, 1) := dc_29 (by decide +kernel)
theorem dX10_areOne_10 : decode cX10_areOne 10 = .ok (.aload_n 0, 1) := dc_42 (by decide +kernel)
theorem dX10_areOne_11 : decode cX10_areOne 11 = .ok (.getfield 17, 3) := dc_180 (a := 0) (b := 17) (by decide +kernel)
theorem dX10_areOne_14 : decode cX10_areOne 14 = .ok (.if_icmp .ge 20, 3) := dc_162 (a := 0) (b := 20) (by decide +kernel) (by decide)
theorem dX10_areOne_17 : decode cX10_areOne 17 = .ok (.aload_n 0, 1) := dc_42 (by decide +kernel)
theorem dX10_areOne_18 : decode cX10_areOne 18 = .ok (.iload_n 3, 1) := dc_29 (by decide +kernel)
theorem dX10_areOne_19 : decode cX10_areOne 19 = .ok (.invokevirtual 47, 3) := dc_182 (a := 0) (b := 47) (by decide +kernel)
theorem dX10_areOne_22 : decode cX10_areOne 22 = .ok (.iload_n 2, 1) := dc_28 (by decide +kernel)
theorem dX10_areOne_23 : decode cX10_areOne 23 = .ok (.if_icmp .ne 5, 3) := dc_160 (a := 0) (b := 5) (by decide +kernel) (by decide)
theorem dX10_areOne_26 : decode cX10_areOne 26 = .ok (.iconst 1, 1) := dc_4 (by decide +kernel)
theorem dX10_areOne_27 : decode cX10_areOne 27 = .ok (.ireturn, 1) := dc_172 (by decide +kernel)
theorem dX10_areOne_28 : decode cX10_areOne 28 = .ok (.iinc 3 1, 3) := dc_132 (a := 3) (b := 1) (by decide +kernel) (by decide)
theorem dX10_areOne_31 : decode cX10_areOne 31 = .ok (.goto (-22), 3) := dc_167 (a := 255) (b := 234) (by decide +kernel) (by decide)
theorem dX10_areOne_34 : decode cX10_areOne 34 = .ok (.iconst 0, 1) := dc_3 (by decide +kernel)
theorem dX10_areOne_35 : decode cX10_areOne 35 = .ok (.ireturn, 1) := dc_172 (by decide +kernel)
set_option maxRecDepth 100000 in
set_option maxHeartbeats 4000000 in
theorem w_Trains_areOne_L9 {p : Program} {l : Launch} {e : Env} {R : Room} {s : State} {m : MethodId} {args : Array Value} {below : List Frame} {meth : Method} {c : Code} {dC : Nat → ClassId} {dI : Nat → Nat → Nat} {cs : Nat → ClassId} {ad : Nat → Nat} {A : Nat → Prop} {D0 : Nat → Nat} {S' : SS} {r : Int32} (F : Fx p s m args meth c cX10_areOne 4 RX10 (some .boolean) dC dI cs A) (hR1 : 2 ≤ R.frames) (hR2 : 43 ≤ R.locals) : ∀ (n : Nat) (x2 : Int32) (x3 : Int32) (S : SS), f_Trains_areOne_L9 n x2 x3 S = some (r, S') → AW p l e R s m args below meth c dC dI cs ad A D0 (some (.int r)) S' 4 9 [(0, .ref (ad 68)), (2, .int x2), (3, .int x3)] [] S := by
  have hx := F.1.1
  have hb := F.1.2.1
  intro n
  induction n with
  | zero => intro x2 x3 S h; cases h
  | succ n ih =>
    intro x2 x3 S h H locs ls w hl
    rw [f_Trains_areOne_L9] at h
    refine lv_iload_n (pc := 9) hx hb dX10_areOne_9 rfl (lv_at hl 2 rfl) ?_
    refine lv_aload_n (pc := 10) hx hb dX10_areOne_10 rfl (lv_at hl 0 rfl) ?_
    refine s_getI (pc := 11) F w ds_68 (j := 4) vc_X10 vi_X10 rfl (by decide) kf_X10_17 dX10_areOne_11 ?_
    refine lv_icmp_ge (pc := 14) (tgt := 34) hx hb dX10_areOne_14 (by decide) (fun q => ?_) (fun q => ?_)
    · have h := ite_t q h
      refine lv_iconst (pc := 34) (v := 0) hx hb dX10_areOne_34 (by decide) ?_
      exact s_zretc F w rfl h dX10_areOne_35
    · have h := ite_f q h
      refine lv_aload_n (pc := 17) hx hb dX10_areOne_17 rfl (lv_at hl 0 rfl) ?_
      refine lv_iload_n (pc := 18) hx hb dX10_areOne_18 rfl (lv_at hl 2 rfl) ?_
      obtain ⟨r3, S2, hc, h⟩ := bnd_t h
      refine s_cvi (pc := 19) [.int x3] (fun ad => [.ref (ad 68), .int x3]) F w (m_Trains_inLine _ _ _ _ hc) rfl rfl hl.1 ds_68 vc_X10 rfl ok_X10_inLine rfl kc_X10_inLine kl_X10_47 ki_X10_inLine kv_X10_inLine kn_X10 ⟨Nat.le_trans (by decide) hR1, Nat.le_trans (by decide) hR2⟩ ⟨Nat.zero_le _, Nat.zero_le _⟩ (Nat.le_of_ble_eq_true rfl) dX10_areOne_19 (fun H locs w => ?_)
      refine lv_iload_n (pc := 22) hx hb dX10_areOne_22 rfl (lv_at hl 1 rfl) ?_
      refine lv_icmp_ne (pc := 23) (tgt := 28) hx hb dX10_areOne_23 (by decide) (fun q => ?_) (fun q => ?_)
      · have h := ite_f q h
        refine s_nm h (fun z4 ez4 h => ?_)
        refine lv_iinc (pc := 28) (v := z4) (lv' := [(3, .int z4), (0, .ref (ad 68)), (2, .int x2)]) hx hb dX10_areOne_28 hl (k := 2) rfl (by rw [ez4]; rfl) (by decide) rfl (fun ls hl => ?_)
        refine lv_goto (pc := 31) (tgt := 9) hx hb dX10_areOne_31 (by decide) ?_
        exact ih _ _ _ h _ _ _ w (lv_sub hl [1, 2, 0] rfl)
      · have h := ite_t q h
        refine lv_iconst (pc := 26) (v := 1) hx hb dX10_areOne_26 (by decide) ?_
        exact s_zretc F w rfl h dX10_areOne_27
set_option maxRecDepth 100000 in
set_option maxHeartbeats 4000000 in
theorem m_Trains_areOne (a1 : Int32) (a2 : Int32) (S S' : SS) (r : Int32) (h : f_Trains_areOne a1 a2 S = some (r, S')) : MT yX10_areOne cX10_areOne 4 (some .boolean) 3 67 (fun ad => [.ref (ad 68), .int a1, .int a2]) S (some (.int r)) S' := by
  refine MT.of RX10 (fun ad => [(0, .ref (ad 68)), (1, .int a1), (2, .int a2)]) (by decide) rfl (fun _ => Nat.le_of_ble_eq_true rfl) (fun _ => rfl) ?_
  intro p l e R s m args below meth c dC dI cs ad A hR1 hR2 F H locs ls w hl
  have hx := F.1.1
  have hb := F.1.2.1
  rw [f_Trains_areOne] at h
  refine lv_aload_n (pc := 0) hx hb dX10_areOne_0 rfl (lv_at hl 0 rfl) ?_
  refine lv_iconst (pc := 1) (v := 2) hx hb dX10_areOne_1 (by decide) ?_
  refine lv_iload_n (pc := 2) hx hb dX10_areOne_2 rfl (lv_at hl 1 rfl) ?_
  refine lv_imul (pc := 3) hx hb dX10_areOne_3 ?_
  obtain ⟨S1, hc, h⟩ := bndv_t h
  refine s_cvv (pc := 4) [.int ((2 : Int32) * a1)] (fun ad => [.ref (ad 68), .int ((2 : Int32) * a1)]) F w (m_Trains_lineUp _ _ _ hc) rfl rfl hl.1 ds_68 vc_X10 rfl ok_X10_lineUp rfl kc_X10_lineUp kl_X10_79 ki_X10_lineUp kv_X10_lineUp kn_X10 ⟨Nat.le_trans (by decide) hR1, Nat.le_trans (by decide) hR2⟩ ⟨Nat.zero_le _, Nat.zero_le _⟩ (Nat.le_of_ble_eq_true rfl) dX10_areOne_4 (fun H locs w => ?_)
  refine lv_iconst (pc := 7) (v := 0) hx hb dX10_areOne_7 (by decide) ?_
  refine lv_istore_n (pc := 8) (lv' := [(3, .int (0 : Int32)), (0, .ref (ad 68)), (1, .int a1), (2, .int a2)]) hx hb dX10_areOne_8 rfl hl (by decide) rfl (fun ls hl => ?_)
  exact w_Trains_areOne_L9 F (Nat.le_trans (by decide) hR1) (Nat.le_trans (by decide) hR2) _ _ _ _ h _ _ _ w (lv_sub hl [1, 3, 0] rfl)
def f_Trains_reachFinding (a1 : Int32) (a2 : Int32) (S : SS) : Option (Int32 × SS) :=
  bnd (f_Trains_isCoupled a1 S) (fun r2 S1 =>
  if r2 = 0 then
    bnd (f_State_isRunning (a1 >>> ((1 : Int32) &&& 31)) S1) (fun r4 S3 =>
    if r4 = 0 then
      if a2 = (-4 : Int32) then
        some ((10 : Int32), S3)
      else
        bnd (f_Trains_hookAt a2 S3) (fun r6 S5 =>
        if r6 = (-4 : Int32) then
          some ((1 : Int32), S5)
        else
          bnd (f_State_isRunning (r6 >>> ((1 : Int32) &&& 31)) S5) (fun r8 S7 =>
          if r8 = 0 then
            bnd (f_Trains_isCoupled r6 S7) (fun r10 S9 =>
            if r10 = 0 then
              bnd (f_Trains_areOne (a1 >>> ((1 : Int32) &&& 31)) (r6 >>> ((1 : Int32) &&& 31)) S9) (fun r12 S11 =>
              if r12 = 0 then
                some ((0 : Int32), S11)
              else
                some ((14 : Int32), S11))
            else
              some ((14 : Int32), S9))
          else
            some ((16 : Int32), S7)))
    else
      some ((16 : Int32), S3))
  else
    some ((14 : Int32), S1))
theorem dX10_reachFinding_0 : decode cX10_reachFinding 0 = .ok (.aload_n 0, 1) := dc_42 (by decide +kernel)
theorem dX10_reachFinding_1 : decode cX10_reachFinding 1 = .ok (.iload_n 1, 1) := dc_27 (by decide +kernel)
theorem dX10_reachFinding_2 : decode cX10_reachFinding 2 = .ok (.invokevirtual 65, 3) := dc_182 (a := 0) (b := 65) (by decide +kernel)
theorem dX10_reachFinding_5 : decode cX10_reachFinding 5 = .ok (.ifCond .eq 6, 3) := dc_153 (a := 0) (b := 6) (by decide +kernel) (by decide)
theorem dX10_reachFinding_8 : decode cX10_reachFinding 8 = .ok (.bipush 14, 2) := dc_16 (a := 14) (by decide +kernel) (by decide)
theorem dX10_reachFinding_10 : decode cX10_reachFinding 10 = .ok (.ireturn, 1) := dc_172 (by decide +kernel)
theorem dX10_reachFinding_11 : decode cX10_reachFinding 11 = .ok (.aload_n 0, 1) := dc_42 (by decide +kernel)
theorem dX10_reachFinding_12 : decode cX10_reachFinding 12 = .ok (.getfield 24, 3) := dc_180 (a := 0) (b := 24) (by decide +kernel)
theorem dX10_reachFinding_15 : decode cX10_reachFinding 15 = .ok (.iload_n 1, 1) := dc_27 (by decide +kernel)
theorem dX10_reachFinding_16 : decode cX10_reachFinding 16 = .ok (.iconst 1, 1) := dc_4 (by decide +kernel)
theorem dX10_reachFinding_17 : decode cX10_reachFinding 17 = .ok (.ishr, 1) := dc_122 (by decide +kernel)
theorem dX10_reachFinding_18 : decode cX10_reachFinding 18 = .ok (.invokevirtual 69, 3) := dc_182 (a := 0) (b := 69) (by decide +kernel)
theorem dX10_reachFinding_21 : decode cX10_reachFinding 21 = .ok (.ifCond .eq 6, 3) := dc_153 (a := 0) (b := 6) (by decide +kernel) (by decide)
theorem dX10_reachFinding_24 : decode cX10_reachFinding 24 = .ok (.bipush 16, 2) := dc_16 (a := 16) (by decide +kernel) (by decide)
theorem dX10_reachFinding_26 : decode cX10_reachFinding 26 = .ok (.ireturn, 1) := dc_172 (by decide +kernel)
theorem dX10_reachFinding_27 : decode cX10_reachFinding 27 = .ok (.iload_n 2, 1) := dc_28 (by decide +kernel)
theorem dX10_reachFinding_28 : decode cX10_reachFinding 28 = .ok (.bipush (-4), 2) := dc_16 (a := 252) (by decide +kernel) (by decide)
theorem dX10_reachFinding_30 : decode cX10_reachFinding 30 = .ok (.if_icmp .ne 6, 3) := dc_160 (a := 0) (b := 6) (by decide +kernel) (by decide)
theorem dX10_reachFinding_33 : decode cX10_reachFinding 33 = .ok (.bipush 10, 2) := dc_16 (a := 10) (by decide +kernel) (by decide)
theorem dX10_reachFinding_35 : decode cX10_reachFinding 35 = .ok (.ireturn, 1) := dc_172 (by decide +kernel)
theorem dX10_reachFinding_36 : decode cX10_reachFinding 36 = .ok (.aload_n 0, 1) := dc_42 (by decide +kernel)
theorem dX10_reachFinding_37 : decode cX10_reachFinding 37 = .ok (.iload_n 2, 1) := dc_28 (by decide +kernel)
theorem dX10_reachFinding_38 : decode cX10_reachFinding 38 = .ok (.invokevirtual 72, 3) := dc_182 (a := 0) (b := 72) (by decide +kernel)
theorem dX10_reachFinding_41 : decode cX10_reachFinding 41 = .ok (.istore_n 3, 1) := dc_62 (by decide +kernel)
theorem dX10_reachFinding_42 : decode cX10_reachFinding 42 = .ok (.iload_n 3, 1) := dc_29 (by decide +kernel)
theorem dX10_reachFinding_43 : decode cX10_reachFinding 43 = .ok (.bipush (-4), 2) := dc_16 (a := 252) (by decide +kernel) (by decide)
theorem dX10_reachFinding_45 : decode cX10_reachFinding 45 = .ok (.if_icmp .ne 5, 3) := dc_160 (a := 0) (b := 5) (by decide +kernel) (by decide)
theorem dX10_reachFinding_48 : decode cX10_reachFinding 48 = .ok (.iconst 1, 1) := dc_4 (by decide +kernel)
theorem dX10_reachFinding_49 : decode cX10_reachFinding 49 = .ok (.ireturn, 1) := dc_172 (by decide +kernel)
theorem dX10_reachFinding_50 : decode cX10_reachFinding 50 = .ok (.aload_n 0, 1) := dc_42 (by decide +kernel)
theorem dX10_reachFinding_51 : decode cX10_reachFinding 51 = .ok (.getfield 24, 3) := dc_180 (a := 0) (b := 24) (by decide +kernel)
theorem dX10_reachFinding_54 : decode cX10_reachFinding 54 = .ok (.iload_n 3, 1) := dc_29 (by decide +kernel)
theorem dX10_reachFinding_55 : decode cX10_reachFinding 55 = .ok (.iconst 1, 1) := dc_4 (by decide +kernel)
theorem dX10_reachFinding_56 : decode cX10_reachFinding 56 = .ok (.ishr, 1) := dc_122 (by decide +kernel)
theorem dX10_reachFinding_57 : decode cX10_reachFinding 57 = .ok (.invokevirtual 69, 3) := dc_182 (a := 0) (b := 69) (by decide +kernel)
theorem dX10_reachFinding_60 : decode cX10_reachFinding 60 = .ok (.ifCond .eq 6, 3) := dc_153 (a := 0) (b := 6) (by decide +kernel) (by decide)
theorem dX10_reachFinding_63 : decode cX10_reachFinding 63 = .ok (.bipush 16, 2) := dc_16 (a := 16) (by decide +kernel) (by decide)
theorem dX10_reachFinding_65 : decode cX10_reachFinding 65 = .ok (.ireturn, 1) := dc_172 (by decide +kernel)
theorem dX10_reachFinding_66 : decode cX10_reachFinding 66 = .ok (.aload_n 0, 1) := dc_42 (by decide +kernel)
theorem dX10_reachFinding_67 : decode cX10_reachFinding 67 = .ok (.iload_n 3, 1) := dc_29 (by decide +kernel)
theorem dX10_reachFinding_68 : decode cX10_reachFinding 68 = .ok (.invokevirtual 65, 3) := dc_182 (a := 0) (b := 65) (by decide +kernel)
theorem dX10_reachFinding_71 : decode cX10_reachFinding 71 = .ok (.ifCond .ne 16, 3) := dc_154 (a := 0) (b := 16) (by decide +kernel) (by decide)
theorem dX10_reachFinding_74 : decode cX10_reachFinding 74 = .ok (.aload_n 0, 1) := dc_42 (by decide +kernel)
theorem dX10_reachFinding_75 : decode cX10_reachFinding 75 = .ok (.iload_n 1, 1) := dc_27 (by decide +kernel)
theorem dX10_reachFinding_76 : decode cX10_reachFinding 76 = .ok (.iconst 1, 1) := dc_4 (by decide +kernel)
theorem dX10_reachFinding_77 : decode cX10_reachFinding 77 = .ok (.ishr, 1) := dc_122 (by decide +kernel)
theorem dX10_reachFinding_78 : decode cX10_reachFinding 78 = .ok (.iload_n 3, 1) := dc_29 (by decide +kernel)
theorem dX10_reachFinding_79 : decode cX10_reachFinding 79 = .ok (.iconst 1, 1) := dc_4 (by decide +kernel)
theorem dX10_reachFinding_80 : decode cX10_reachFinding 80 = .ok (.ishr, 1) := dc_122 (by decide +kernel)
theorem dX10_reachFinding_81 : decode cX10_reachFinding 81 = .ok (.invokevirtual 75, 3) := dc_182 (a := 0) (b := 75) (by decide +kernel)
theorem dX10_reachFinding_84 : decode cX10_reachFinding 84 = .ok (.ifCond .eq 8, 3) := dc_153 (a := 0) (b := 8) (by decide +kernel) (by decide)
theorem dX10_reachFinding_87 : decode cX10_reachFinding 87 = .ok (.bipush 14, 2) := dc_16 (a := 14) (by decide +kernel) (by decide)
theorem dX10_reachFinding_89 : decode cX10_reachFinding 89 = .ok (.goto 4, 3) := dc_167 (a := 0) (b := 4) (by decide +kernel) (by decide)
theorem dX10_reachFinding_92 : decode cX10_reachFinding 92 = .ok (.iconst 0, 1) := dc_3 (by decide +kernel)
theorem dX10_reachFinding_93 : decode cX10_reachFinding 93 = .ok (.ireturn, 1) := dc_172 (by decide +kernel)
set_option maxRecDepth 100000 in
set_option maxHeartbeats 4000000 in
theorem m_Trains_reachFinding (a1 : Int32) (a2 : Int32) (S S' : SS) (r : Int32) (h : f_Trains_reachFinding a1 a2 S = some (r, S')) : MT yX10_reachFinding cX10_reachFinding 4 (some .int) 4 90 (fun ad => [.ref (ad 68), .int a1, .int a2]) S (some (.int r)) S' := by
  refine MT.of RX10 (fun ad => [(0, .ref (ad 68)), (1, .int a1), (2, .int a2)]) (by decide) rfl (fun _ => Nat.le_of_ble_eq_true rfl) (fun _ => rfl) ?_
  intro p l e R s m args below meth c dC dI cs ad A hR1 hR2 F H locs ls w hl
  have hx := F.1.1
  have hb := F.1.2.1
  rw [f_Trains_reachFinding] at h
  refine lv_aload_n (pc := 0) hx hb dX10_reachFinding_0 rfl (lv_at hl 0 rfl) ?_
  refine lv_iload_n (pc := 1) hx hb dX10_reachFinding_1 rfl (lv_at hl 1 rfl) ?_
  obtain ⟨r2, S1, hc, h⟩ := bnd_t h
  refine s_cvi (pc := 2) [.int a1] (fun ad => [.ref (ad 68), .int a1]) F w (m_Trains_isCoupled _ _ _ _ hc) rfl rfl hl.1 ds_68 vc_X10 rfl ok_X10_isCoupled rfl kc_X10_isCoupled kl_X10_65 ki_X10_isCoupled kv_X10_isCoupled kn_X10 ⟨Nat.le_trans (by decide) hR1, Nat.le_trans (by decide) hR2⟩ ⟨Nat.zero_le _, Nat.zero_le _⟩ (Nat.le_of_ble_eq_true rfl) dX10_reachFinding_2 (fun H locs w => ?_)
  refine lv_if_eq (pc := 5) (tgt := 11) hx hb dX10_reachFinding_5 (by decide) (fun q => ?_) (fun q => ?_)
  · have h := ite_t q h
    refine lv_aload_n (pc := 11) hx hb dX10_reachFinding_11 rfl (lv_at hl 0 rfl) ?_
    refine s_getR (pc := 12) F w 63 ds_68 (j := 0) vc_X10 vi_X10 rfl (by decide) kf_X10_24 dX10_reachFinding_12 ?_
    refine lv_iload_n (pc := 15) hx hb dX10_reachFinding_15 rfl (lv_at hl 1 rfl) ?_
    refine lv_iconst (pc := 16) (v := 1) hx hb dX10_reachFinding_16 (by decide) ?_
    refine lv_ishr (pc := 17) hx hb dX10_reachFinding_17 ?_
    obtain ⟨r4, S3, hc, h⟩ := bnd_t h
    refine s_cvi (pc := 18) [.int (a1 >>> ((1 : Int32) &&& 31))] (fun ad => [.ref (ad 63), .int (a1 >>> ((1 : Int32) &&& 31))]) F w (m_State_isRunning _ _ _ _ hc) rfl rfl hl.1 ds_63 vc_X8 rfl ok_X8_isRunning rfl kc_X8_isRunning kl_X10_69 ki_X8_isRunning kv_X8_isRunning kn_X8 ⟨Nat.le_trans (by decide) hR1, Nat.le_trans (by decide) hR2⟩ ⟨Nat.zero_le _, Nat.zero_le _⟩ (Nat.le_of_ble_eq_true rfl) dX10_reachFinding_18 (fun H locs w => ?_)
    refine lv_if_eq (pc := 21) (tgt := 27) hx hb dX10_reachFinding_21 (by decide) (fun q => ?_) (fun q => ?_)
    · have h := ite_t q h
      refine lv_iload_n (pc := 27) hx hb dX10_reachFinding_27 rfl (lv_at hl 2 rfl) ?_
      refine lv_bipush (pc := 28) (v := -4) hx hb dX10_reachFinding_28 (by decide) ?_
      refine lv_icmp_ne (pc := 30) (tgt := 36) hx hb dX10_reachFinding_30 (by decide) (fun q => ?_) (fun q => ?_)
      · have h := ite_f q h
        refine lv_aload_n (pc := 36) hx hb dX10_reachFinding_36 rfl (lv_at hl 0 rfl) ?_
        refine lv_iload_n (pc := 37) hx hb dX10_reachFinding_37 rfl (lv_at hl 2 rfl) ?_
        obtain ⟨r6, S5, hc, h⟩ := bnd_t h
        refine s_cvi (pc := 38) [.int a2] (fun ad => [.ref (ad 68), .int a2]) F w (m_Trains_hookAt _ _ _ _ hc) rfl rfl hl.1 ds_68 vc_X10 rfl ok_X10_hookAt rfl kc_X10_hookAt kl_X10_72 ki_X10_hookAt kv_X10_hookAt kn_X10 ⟨Nat.le_trans (by decide) hR1, Nat.le_trans (by decide) hR2⟩ ⟨Nat.zero_le _, Nat.zero_le _⟩ (Nat.le_of_ble_eq_true rfl) dX10_reachFinding_38 (fun H locs w => ?_)
        refine lv_istore_n (pc := 41) (lv' := [(3, .int r6), (0, .ref (ad 68)), (1, .int a1), (2, .int a2)]) hx hb dX10_reachFinding_41 rfl hl (by decide) rfl (fun ls hl => ?_)
        refine lv_iload_n (pc := 42) hx hb dX10_reachFinding_42 rfl (lv_at hl 0 rfl) ?_
        refine lv_bipush (pc := 43) (v := -4) hx hb dX10_reachFinding_43 (by decide) ?_
        refine lv_icmp_ne (pc := 45) (tgt := 50) hx hb dX10_reachFinding_45 (by decide) (fun q => ?_) (fun q => ?_)
        · have h := ite_f q h
          refine lv_aload_n (pc := 50) hx hb dX10_reachFinding_50 rfl (lv_at hl 1 rfl) ?_
          refine s_getR (pc := 51) F w 63 ds_68 (j := 0) vc_X10 vi_X10 rfl (by decide) kf_X10_24 dX10_reachFinding_51 ?_
          refine lv_iload_n (pc := 54) hx hb dX10_reachFinding_54 rfl (lv_at hl 0 rfl) ?_
          refine lv_iconst (pc := 55) (v := 1) hx hb dX10_reachFinding_55 (by decide) ?_
          refine lv_ishr (pc := 56) hx hb dX10_reachFinding_56 ?_
          obtain ⟨r8, S7, hc, h⟩ := bnd_t h
          refine s_cvi (pc := 57) [.int (r6 >>> ((1 : Int32) &&& 31))] (fun ad => [.ref (ad 63), .int (r6 >>> ((1 : Int32) &&& 31))]) F w (m_State_isRunning _ _ _ _ hc) rfl rfl hl.1 ds_63 vc_X8 rfl ok_X8_isRunning rfl kc_X8_isRunning kl_X10_69 ki_X8_isRunning kv_X8_isRunning kn_X8 ⟨Nat.le_trans (by decide) hR1, Nat.le_trans (by decide) hR2⟩ ⟨Nat.zero_le _, Nat.zero_le _⟩ (Nat.le_of_ble_eq_true rfl) dX10_reachFinding_57 (fun H locs w => ?_)
          refine lv_if_eq (pc := 60) (tgt := 66) hx hb dX10_reachFinding_60 (by decide) (fun q => ?_) (fun q => ?_)
          · have h := ite_t q h
            refine lv_aload_n (pc := 66) hx hb dX10_reachFinding_66 rfl (lv_at hl 1 rfl) ?_
            refine lv_iload_n (pc := 67) hx hb dX10_reachFinding_67 rfl (lv_at hl 0 rfl) ?_
            obtain ⟨r10, S9, hc, h⟩ := bnd_t h
            refine s_cvi (pc := 68) [.int r6] (fun ad => [.ref (ad 68), .int r6]) F w (m_Trains_isCoupled _ _ _ _ hc) rfl rfl hl.1 ds_68 vc_X10 rfl ok_X10_isCoupled rfl kc_X10_isCoupled kl_X10_65 ki_X10_isCoupled kv_X10_isCoupled kn_X10 ⟨Nat.le_trans (by decide) hR1, Nat.le_trans (by decide) hR2⟩ ⟨Nat.zero_le _, Nat.zero_le _⟩ (Nat.le_of_ble_eq_true rfl) dX10_reachFinding_68 (fun H locs w => ?_)
            refine lv_if_ne (pc := 71) (tgt := 87) hx hb dX10_reachFinding_71 (by decide) (fun q => ?_) (fun q => ?_)
            · have h := ite_f q h
              refine lv_bipush (pc := 87) (v := 14) hx hb dX10_reachFinding_87 (by decide) ?_
              refine lv_goto (pc := 89) (tgt := 93) hx hb dX10_reachFinding_89 (by decide) ?_
              exact s_iret F w h dX10_reachFinding_93
            · have h := ite_t q h
              refine lv_aload_n (pc := 74) hx hb dX10_reachFinding_74 rfl (lv_at hl 1 rfl) ?_
              refine lv_iload_n (pc := 75) hx hb dX10_reachFinding_75 rfl (lv_at hl 2 rfl) ?_
              refine lv_iconst (pc := 76) (v := 1) hx hb dX10_reachFinding_76 (by decide) ?_
              refine lv_ishr (pc := 77) hx hb dX10_reachFinding_77 ?_
              refine lv_iload_n (pc := 78) hx hb dX10_reachFinding_78 rfl (lv_at hl 0 rfl) ?_
              refine lv_iconst (pc := 79) (v := 1) hx hb dX10_reachFinding_79 (by decide) ?_
              refine lv_ishr (pc := 80) hx hb dX10_reachFinding_80 ?_
              obtain ⟨r12, S11, hc, h⟩ := bnd_t h
              refine s_cvi (pc := 81) [.int (a1 >>> ((1 : Int32) &&& 31)), .int (r6 >>> ((1 : Int32) &&& 31))] (fun ad => [.ref (ad 68), .int (a1 >>> ((1 : Int32) &&& 31)), .int (r6 >>> ((1 : Int32) &&& 31))]) F w (m_Trains_areOne _ _ _ _ _ hc) rfl rfl hl.1 ds_68 vc_X10 rfl ok_X10_areOne rfl kc_X10_areOne kl_X10_75 ki_X10_areOne kv_X10_areOne kn_X10 ⟨Nat.le_trans (by decide) hR1, Nat.le_trans (by decide) hR2⟩ ⟨Nat.zero_le _, Nat.zero_le _⟩ (Nat.le_of_ble_eq_true rfl) dX10_reachFinding_81 (fun H locs w => ?_)
              refine lv_if_eq (pc := 84) (tgt := 92) hx hb dX10_reachFinding_84 (by decide) (fun q => ?_) (fun q => ?_)
              · have h := ite_t q h
                refine lv_iconst (pc := 92) (v := 0) hx hb dX10_reachFinding_92 (by decide) ?_
                exact s_iret F w h dX10_reachFinding_93
              · have h := ite_f q h
                refine lv_bipush (pc := 87) (v := 14) hx hb dX10_reachFinding_87 (by decide) ?_
                refine lv_goto (pc := 89) (tgt := 93) hx hb dX10_reachFinding_89 (by decide) ?_
                exact s_iret F w h dX10_reachFinding_93
          · have h := ite_f q h
            refine lv_bipush (pc := 63) (v := 16) hx hb dX10_reachFinding_63 (by decide) ?_
            exact s_iret F w h dX10_reachFinding_65
        · have h := ite_t q h
          refine lv_iconst (pc := 48) (v := 1) hx hb dX10_reachFinding_48 (by decide) ?_
          exact s_iret F w h dX10_reachFinding_49
      · have h := ite_t q h
        refine lv_bipush (pc := 33) (v := 10) hx hb dX10_reachFinding_33 (by decide) ?_
        exact s_iret F w h dX10_reachFinding_35
    · have h := ite_f q h
      refine lv_bipush (pc := 24) (v := 16) hx hb dX10_reachFinding_24 (by decide) ?_
      exact s_iret F w h dX10_reachFinding_26
  · have h := ite_f q h
    refine lv_bipush (pc := 8) (v := 14) hx hb dX10_reachFinding_8 (by decide) ?_
    exact s_iret F w h dX10_reachFinding_10
def f_Bodies_kindOf (a1 : Int32) (S : SS) : Option (Int32 × SS) :=
  bnd (f_Stock_get a1 (0 : Int32) S) (fun r2 S1 =>
  some (r2, S1))
theorem dX0_kindOf_0 : decode cX0_kindOf 0 = .ok (.aload_n 0, 1) := dc_42 (by decide +kernel)
theorem dX0_kindOf_1 : decode cX0_kindOf 1 = .ok (.getfield 19, 3) := dc_180 (a := 0) (b := 19) (by decide +kernel)
theorem dX0_kindOf_4 : decode cX0_kindOf 4 = .ok (.iload_n 1, 1) := dc_27 (by decide +kernel)
theorem dX0_kindOf_5 : decode cX0_kindOf 5 = .ok (.iconst 0, 1) := dc_3 (by decide +kernel)
theorem dX0_kindOf_6 : decode cX0_kindOf 6 = .ok (.invokevirtual 29, 3) := dc_182 (a := 0) (b := 29) (by decide +kernel)
theorem dX0_kindOf_9 : decode cX0_kindOf 9 = .ok (.ireturn, 1) := dc_172 (by decide +kernel)
set_option maxRecDepth 100000 in
set_option maxHeartbeats 4000000 in
theorem m_Bodies_kindOf (a1 : Int32) (S S' : SS) (r : Int32) (h : f_Bodies_kindOf a1 S = some (r, S')) : MT yX0_kindOf cX0_kindOf 2 (some .int) 1 22 (fun ad => [.ref (ad 69), .int a1]) S (some (.int r)) S' := by
  refine MT.of RX0 (fun ad => [(0, .ref (ad 69)), (1, .int a1)]) (by decide) rfl (fun _ => Nat.le_of_ble_eq_true rfl) (fun _ => rfl) ?_
  intro p l e R s m args below meth c dC dI cs ad A hR1 hR2 F H locs ls w hl
  have hx := F.1.1
  have hb := F.1.2.1
  rw [f_Bodies_kindOf] at h
  refine lv_aload_n (pc := 0) hx hb dX0_kindOf_0 rfl (lv_at hl 0 rfl) ?_
  refine s_getR (pc := 1) F w 65 ds_69 (j := 1) vc_X0 vi_X0 rfl (by decide) kf_X0_19 dX0_kindOf_1 ?_
  refine lv_iload_n (pc := 4) hx hb dX0_kindOf_4 rfl (lv_at hl 1 rfl) ?_
  refine lv_iconst (pc := 5) (v := 0) hx hb dX0_kindOf_5 (by decide) ?_
  obtain ⟨r2, S1, hc, h⟩ := bnd_t h
  refine s_cvi (pc := 6) [.int a1, .int (0 : Int32)] (fun ad => [.ref (ad 65), .int a1, .int (0 : Int32)]) F w (m_Stock_get _ _ _ _ _ hc) rfl rfl hl.1 ds_65 vc_X9 rfl ok_X9_get rfl kc_X9_get kl_X0_29 ki_X9_get kv_X9_get kn_X9 ⟨Nat.le_trans (by decide) hR1, Nat.le_trans (by decide) hR2⟩ ⟨Nat.zero_le _, Nat.zero_le _⟩ (Nat.le_of_ble_eq_true rfl) dX0_kindOf_6 (fun H locs w => ?_)
  exact s_iret F w h dX0_kindOf_9
def f_Report_beginBody (a1 : Int32) (S : SS) : Option (SS) :=
  if (200 : Int32) ≤ (S.1 62 2) then
    some S
  else
    grd (inb (S.1 62 2) 200) (wr S 78 (S.1 62 2).toNatClampNeg a1 (fun S1 =>
    wr S1 62 2 ((S1.1 62 2) + (1 : Int32)) (fun S2 =>
    some S2)))
theorem dX5_beginBody_0 : decode cX5_beginBody 0 = .ok (.aload_n 0, 1) := dc_42 (by decide +kernel)
theorem dX5_beginBody_1 : decode cX5_beginBody 1 = .ok (.getfield 18, 3) := dc_180 (a := 0) (b := 18) (by decide +kernel)
theorem dX5_beginBody_4 : decode cX5_beginBody 4 = .ok (.sipush 200, 3) := dc_17 (a := 0) (b := 200) (by decide +kernel) (by decide)
theorem dX5_beginBody_7 : decode cX5_beginBody 7 = .ok (.if_icmp .ge 23, 3) := dc_162 (a := 0) (b := 23) (by decide +kernel) (by decide)
theorem dX5_beginBody_10 : decode cX5_beginBody 10 = .ok (.aload_n 0, 1) := dc_42 (by decide +kernel)
theorem dX5_beginBody_11 : decode cX5_beginBody 11 = .ok (.getfield 15, 3) := dc_180 (a := 0) (b := 15) (by decide +kernel)
theorem dX5_beginBody_14 : decode cX5_beginBody 14 = .ok (.aload_n 0, 1) := dc_42 (by decide +kernel)
theorem dX5_beginBody_15 : decode cX5_beginBody 15 = .ok (.getfield 18, 3) := dc_180 (a := 0) (b := 18) (by decide +kernel)
theorem dX5_beginBody_18 : decode cX5_beginBody 18 = .ok (.iload_n 1, 1) := dc_27 (by decide +kernel)
theorem dX5_beginBody_19 : decode cX5_beginBody 19 = .ok (.iastore, 1) := dc_79 (by decide +kernel)
theorem dX5_beginBody_20 : decode cX5_beginBody 20 = .ok (.aload_n 0, 1) := dc_42 (by decide +kernel)
theorem dX5_beginBody_21 : decode cX5_beginBody 21 = .ok (.dup, 1) := dc_89 (by decide +kernel)
theorem dX5_beginBody_22 : decode cX5_beginBody 22 = .ok (.getfield 18, 3) := dc_180 (a := 0) (b := 18) (by decide +kernel)
theorem dX5_beginBody_25 : decode cX5_beginBody 25 = .ok (.iconst 1, 1) := dc_4 (by decide +kernel)
theorem dX5_beginBody_26 : decode cX5_beginBody 26 = .ok (.iadd, 1) := dc_96 (by decide +kernel)
theorem dX5_beginBody_27 : decode cX5_beginBody 27 = .ok (.putfield 18, 3) := dc_181 (a := 0) (b := 18) (by decide +kernel)
theorem dX5_beginBody_30 : decode cX5_beginBody 30 = .ok (.return_, 1) := dc_177 (by decide +kernel)
set_option maxRecDepth 100000 in
set_option maxHeartbeats 4000000 in
theorem m_Report_beginBody (a1 : Int32) (S S' : SS) (h : f_Report_beginBody a1 S = some S') : MT yX5_beginBody cX5_beginBody 2 none 0 0 (fun ad => [.ref (ad 62), .int a1]) S none S' := by
  refine MT.of RX5 (fun ad => [(0, .ref (ad 62)), (1, .int a1)]) (by decide) rfl (fun _ => Nat.le_of_ble_eq_true rfl) (fun _ => rfl) ?_
  intro p l e R s m args below meth c dC dI cs ad A hR1 hR2 F H locs ls w hl
  have hx := F.1.1
  have hb := F.1.2.1
  rw [f_Report_beginBody] at h
  refine lv_aload_n (pc := 0) hx hb dX5_beginBody_0 rfl (lv_at hl 0 rfl) ?_
  refine s_getI (pc := 1) F w ds_62 (j := 2) vc_X5 vi_X5 rfl (by decide) kf_X5_18 dX5_beginBody_1 ?_
  refine lv_sipush (pc := 4) (v := 200) hx hb dX5_beginBody_4 (by decide) ?_
  refine lv_icmp_ge (pc := 7) (tgt := 30) hx hb dX5_beginBody_7 (by decide) (fun q => ?_) (fun q => ?_)
  · have h := ite_t q h
    exact s_vret F w h dX5_beginBody_30
  · have h := ite_f q h
    refine lv_aload_n (pc := 10) hx hb dX5_beginBody_10 rfl (lv_at hl 0 rfl) ?_
    refine s_getR (pc := 11) F w 78 ds_62 (j := 1) vc_X5 vi_X5 rfl (by decide) kf_X5_15 dX5_beginBody_11 ?_
    refine lv_aload_n (pc := 14) hx hb dX5_beginBody_14 rfl (lv_at hl 0 rfl) ?_
    refine s_getI (pc := 15) F w ds_62 (j := 2) vc_X5 vi_X5 rfl (by decide) kf_X5_18 dX5_beginBody_15 ?_
    refine lv_iload_n (pc := 18) hx hb dX5_beginBody_18 rfl (lv_at hl 1 rfl) ?_
    refine s_iast (pc := 19) F w ds_78 h dX5_beginBody_19 (fun S1 H locs h w => ?_)
    refine lv_aload_n (pc := 20) hx hb dX5_beginBody_20 rfl (lv_at hl 0 rfl) ?_
    refine lv_dup (pc := 21) hx hb dX5_beginBody_21 rfl ?_
    refine s_getI (pc := 22) F w ds_62 (j := 2) vc_X5 vi_X5 rfl (by decide) kf_X5_18 dX5_beginBody_22 ?_
    refine lv_iconst (pc := 25) (v := 1) hx hb dX5_beginBody_25 (by decide) ?_
    refine lv_iadd (pc := 26) hx hb dX5_beginBody_26 ?_
    refine s_putI (pc := 27) F w ds_62 vc_X5 vi_X5 tyX5_ok nmX5 (j := 2) rfl (by decide) kf_X5_18 rfl pd_I h dX5_beginBody_27 (fun S2 H locs h w => ?_)
    exact s_vret F w h dX5_beginBody_30
def f_Bodies_wagonSuits (a1 : Int32) (a2 : Int32) (S : SS) : Option (Int32 × SS) :=
  bndv (f_Report_beginBody (17 : Int32) S) (fun S1 =>
  bnd (f_Stock_isAs a2 (31 : Int32) S1) (fun r3 S2 =>
  if r3 = 0 then
    some ((1 : Int32), S2)
  else
    bnd (f_State_get a1 (7 : Int32) S2) (fun r5 S4 =>
    bnd (f_State_get a2 (7 : Int32) S4) (fun r7 S6 =>
    bnd (f_Bodies_isBarred r5 r7 S6) (fun r9 S8 =>
    if r9 = 0 then
      some ((1 : Int32), S8)
    else
      some ((0 : Int32), S8))))))
theorem dX0_wagonSuits_0 : decode cX0_wagonSuits 0 = .ok (.aload_n 0, 1) := dc_42 (by decide +kernel)
theorem dX0_wagonSuits_1 : decode cX0_wagonSuits 1 = .ok (.getfield 23, 3) := dc_180 (a := 0) (b := 23) (by decide +kernel)
theorem dX0_wagonSuits_4 : decode cX0_wagonSuits 4 = .ok (.bipush 17, 2) := dc_16 (a := 17) (by decide +kernel) (by decide)
theorem dX0_wagonSuits_6 : decode cX0_wagonSuits 6 = .ok (.invokevirtual 40, 3) := dc_182 (a := 0) (b := 40) (by decide +kernel)
theorem dX0_wagonSuits_9 : decode cX0_wagonSuits 9 = .ok (.aload_n 0, 1) := dc_42 (by decide +kernel)
theorem dX0_wagonSuits_10 : decode cX0_wagonSuits 10 = .ok (.getfield 19, 3) := dc_180 (a := 0) (b := 19) (by decide +kernel)
theorem dX0_wagonSuits_13 : decode cX0_wagonSuits 13 = .ok (.iload_n 2, 1) := dc_28 (by decide +kernel)
theorem dX0_wagonSuits_14 : decode cX0_wagonSuits 14 = .ok (.bipush 31, 2) := dc_16 (a := 31) (by decide +kernel) (by decide)
theorem dX0_wagonSuits_16 : decode cX0_wagonSuits 16 = .ok (.invokevirtual 69, 3) := dc_182 (a := 0) (b := 69) (by decide +kernel)
theorem dX0_wagonSuits_19 : decode cX0_wagonSuits 19 = .ok (.ifCond .eq 30, 3) := dc_153 (a := 0) (b := 30) (by decide +kernel) (by decide)
theorem dX0_wagonSuits_22 : decode cX0_wagonSuits 22 = .ok (.aload_n 0, 1) := dc_42 (by decide +kernel)
theorem dX0_wagonSuits_23 : decode cX0_wagonSuits 23 = .ok (.aload_n 0, 1) := dc_42 (by decide +kernel)
theorem dX0_wagonSuits_24 : decode cX0_wagonSuits 24 = .ok (.getfield 15, 3) := dc_180 (a := 0) (b := 15) (by decide +kernel)
theorem dX0_wagonSuits_27 : decode cX0_wagonSuits 27 = .ok (.iload_n 1, 1) := dc_27 (by decide +kernel)
theorem dX0_wagonSuits_28 : decode cX0_wagonSuits 28 = .ok (.bipush 7, 2) := dc_16 (a := 7) (by decide +kernel) (by decide)
theorem dX0_wagonSuits_30 : decode cX0_wagonSuits 30 = .ok (.invokevirtual 68, 3) := dc_182 (a := 0) (b := 68) (by decide +kernel)
theorem dX0_wagonSuits_33 : decode cX0_wagonSuits 33 = .ok (.aload_n 0, 1) := dc_42 (by decide +kernel)
theorem dX0_wagonSuits_34 : decode cX0_wagonSuits 34 = .ok (.getfield 15, 3) := dc_180 (a := 0) (b := 15) (by decide +kernel)
theorem dX0_wagonSuits_37 : decode cX0_wagonSuits 37 = .ok (.iload_n 2, 1) := dc_28 (by decide +kernel)
theorem dX0_wagonSuits_38 : decode cX0_wagonSuits 38 = .ok (.bipush 7, 2) := dc_16 (a := 7) (by decide +kernel) (by decide)
theorem dX0_wagonSuits_40 : decode cX0_wagonSuits 40 = .ok (.invokevirtual 68, 3) := dc_182 (a := 0) (b := 68) (by decide +kernel)
theorem dX0_wagonSuits_43 : decode cX0_wagonSuits 43 = .ok (.invokevirtual 75, 3) := dc_182 (a := 0) (b := 75) (by decide +kernel)
theorem dX0_wagonSuits_46 : decode cX0_wagonSuits 46 = .ok (.ifCond .ne 7, 3) := dc_154 (a := 0) (b := 7) (by decide +kernel) (by decide)
theorem dX0_wagonSuits_49 : decode cX0_wagonSuits 49 = .ok (.iconst 1, 1) := dc_4 (by decide +kernel)
theorem dX0_wagonSuits_50 : decode cX0_wagonSuits 50 = .ok (.goto 4, 3) := dc_167 (a := 0) (b := 4) (by decide +kernel) (by decide)
theorem dX0_wagonSuits_53 : decode cX0_wagonSuits 53 = .ok (.iconst 0, 1) := dc_3 (by decide +kernel)
theorem dX0_wagonSuits_54 : decode cX0_wagonSuits 54 = .ok (.ireturn, 1) := dc_172 (by decide +kernel)
set_option maxRecDepth 100000 in
set_option maxHeartbeats 4000000 in
theorem m_Bodies_wagonSuits (a1 : Int32) (a2 : Int32) (S S' : SS) (r : Int32) (h : f_Bodies_wagonSuits a1 a2 S = some (r, S')) : MT yX0_wagonSuits cX0_wagonSuits 3 (some .boolean) 2 45 (fun ad => [.ref (ad 69), .int a1, .int a2]) S (some (.int r)) S' := by
  refine MT.of RX0 (fun ad => [(0, .ref (ad 69)), (1, .int a1), (2, .int a2)]) (by decide) rfl (fun _ => Nat.le_of_ble_eq_true rfl) (fun _ => rfl) ?_
  intro p l e R s m args below meth c dC dI cs ad A hR1 hR2 F H locs ls w hl
  have hx := F.1.1
  have hb := F.1.2.1
  rw [f_Bodies_wagonSuits] at h
  refine lv_aload_n (pc := 0) hx hb dX0_wagonSuits_0 rfl (lv_at hl 0 rfl) ?_
  refine s_getR (pc := 1) F w 62 ds_69 (j := 2) vc_X0 vi_X0 rfl (by decide) kf_X0_23 dX0_wagonSuits_1 ?_
  refine lv_bipush (pc := 4) (v := 17) hx hb dX0_wagonSuits_4 (by decide) ?_
  obtain ⟨S1, hc, h⟩ := bndv_t h
  refine s_cvv (pc := 6) [.int (17 : Int32)] (fun ad => [.ref (ad 62), .int (17 : Int32)]) F w (m_Report_beginBody _ _ _ hc) rfl rfl hl.1 ds_62 vc_X5 rfl ok_X5_beginBody rfl kc_X5_beginBody kl_X0_40 ki_X5_beginBody kv_X5_beginBody kn_X5 ⟨Nat.le_trans (by decide) hR1, Nat.le_trans (by decide) hR2⟩ ⟨Nat.zero_le _, Nat.zero_le _⟩ (Nat.le_of_ble_eq_true rfl) dX0_wagonSuits_6 (fun H locs w => ?_)
  refine lv_aload_n (pc := 9) hx hb dX0_wagonSuits_9 rfl (lv_at hl 0 rfl) ?_
  refine s_getR (pc := 10) F w 65 ds_69 (j := 1) vc_X0 vi_X0 rfl (by decide) kf_X0_19 dX0_wagonSuits_10 ?_
  refine lv_iload_n (pc := 13) hx hb dX0_wagonSuits_13 rfl (lv_at hl 2 rfl) ?_
  refine lv_bipush (pc := 14) (v := 31) hx hb dX0_wagonSuits_14 (by decide) ?_
  obtain ⟨r3, S2, hc, h⟩ := bnd_t h
  refine s_cvi (pc := 16) [.int a2, .int (31 : Int32)] (fun ad => [.ref (ad 65), .int a2, .int (31 : Int32)]) F w (m_Stock_isAs _ _ _ _ _ hc) rfl rfl hl.1 ds_65 vc_X9 rfl ok_X9_isAs rfl kc_X9_isAs kl_X0_69 ki_X9_isAs kv_X9_isAs kn_X9 ⟨Nat.le_trans (by decide) hR1, Nat.le_trans (by decide) hR2⟩ ⟨Nat.zero_le _, Nat.zero_le _⟩ (Nat.le_of_ble_eq_true rfl) dX0_wagonSuits_16 (fun H locs w => ?_)
  refine lv_if_eq (pc := 19) (tgt := 49) hx hb dX0_wagonSuits_19 (by decide) (fun q => ?_) (fun q => ?_)
  · have h := ite_t q h
    refine lv_iconst (pc := 49) (v := 1) hx hb dX0_wagonSuits_49 (by decide) ?_
    refine lv_goto (pc := 50) (tgt := 54) hx hb dX0_wagonSuits_50 (by decide) ?_
    exact s_zretc F w rfl h dX0_wagonSuits_54
  · have h := ite_f q h
    refine lv_aload_n (pc := 22) hx hb dX0_wagonSuits_22 rfl (lv_at hl 0 rfl) ?_
    refine lv_aload_n (pc := 23) hx hb dX0_wagonSuits_23 rfl (lv_at hl 0 rfl) ?_
    refine s_getR (pc := 24) F w 63 ds_69 (j := 0) vc_X0 vi_X0 rfl (by decide) kf_X0_15 dX0_wagonSuits_24 ?_
    refine lv_iload_n (pc := 27) hx hb dX0_wagonSuits_27 rfl (lv_at hl 1 rfl) ?_
    refine lv_bipush (pc := 28) (v := 7) hx hb dX0_wagonSuits_28 (by decide) ?_
    obtain ⟨r5, S4, hc, h⟩ := bnd_t h
    refine s_cvi (pc := 30) [.int a1, .int (7 : Int32)] (fun ad => [.ref (ad 63), .int a1, .int (7 : Int32)]) F w (m_State_get _ _ _ _ _ hc) rfl rfl hl.1 ds_63 vc_X8 rfl ok_X8_get rfl kc_X8_get kl_X0_68 ki_X8_get kv_X8_get kn_X8 ⟨Nat.le_trans (by decide) hR1, Nat.le_trans (by decide) hR2⟩ ⟨Nat.zero_le _, Nat.zero_le _⟩ (Nat.le_of_ble_eq_true rfl) dX0_wagonSuits_30 (fun H locs w => ?_)
    refine lv_aload_n (pc := 33) hx hb dX0_wagonSuits_33 rfl (lv_at hl 0 rfl) ?_
    refine s_getR (pc := 34) F w 63 ds_69 (j := 0) vc_X0 vi_X0 rfl (by decide) kf_X0_15 dX0_wagonSuits_34 ?_
    refine lv_iload_n (pc := 37) hx hb dX0_wagonSuits_37 rfl (lv_at hl 2 rfl) ?_
    refine lv_bipush (pc := 38) (v := 7) hx hb dX0_wagonSuits_38 (by decide) ?_
    obtain ⟨r7, S6, hc, h⟩ := bnd_t h
    refine s_cvi (pc := 40) [.int a2, .int (7 : Int32)] (fun ad => [.ref (ad 63), .int a2, .int (7 : Int32)]) F w (m_State_get _ _ _ _ _ hc) rfl rfl hl.1 ds_63 vc_X8 rfl ok_X8_get rfl kc_X8_get kl_X0_68 ki_X8_get kv_X8_get kn_X8 ⟨Nat.le_trans (by decide) hR1, Nat.le_trans (by decide) hR2⟩ ⟨Nat.zero_le _, Nat.zero_le _⟩ (Nat.le_of_ble_eq_true rfl) dX0_wagonSuits_40 (fun H locs w => ?_)
    obtain ⟨r9, S8, hc, h⟩ := bnd_t h
    refine s_cvi (pc := 43) [.int r5, .int r7] (fun ad => [.ref (ad 69), .int r5, .int r7]) F w (m_Bodies_isBarred _ _ _ _ _ hc) rfl rfl hl.1 ds_69 vc_X0 rfl ok_X0_isBarred rfl kc_X0_isBarred kl_X0_75 ki_X0_isBarred kv_X0_isBarred kn_X0 ⟨Nat.le_trans (by decide) hR1, Nat.le_trans (by decide) hR2⟩ ⟨Nat.zero_le _, Nat.zero_le _⟩ (Nat.le_of_ble_eq_true rfl) dX0_wagonSuits_43 (fun H locs w => ?_)
    refine lv_if_ne (pc := 46) (tgt := 53) hx hb dX0_wagonSuits_46 (by decide) (fun q => ?_) (fun q => ?_)
    · have h := ite_f q h
      refine lv_iconst (pc := 53) (v := 0) hx hb dX0_wagonSuits_53 (by decide) ?_
      exact s_zretc F w rfl h dX0_wagonSuits_54
    · have h := ite_t q h
      refine lv_iconst (pc := 49) (v := 1) hx hb dX0_wagonSuits_49 (by decide) ?_
      refine lv_goto (pc := 50) (tgt := 54) hx hb dX0_wagonSuits_50 (by decide) ?_
      exact s_zretc F w rfl h dX0_wagonSuits_54
def f_Bodies_suits (a1 : Int32) (a2 : Int32) (S : SS) : Option (Int32 × SS) :=
  bnd (f_Stock_isAs a1 (96 : Int32) S) (fun r2 S1 =>
  if r2 = 0 then
    bnd (f_Bodies_kindOf a1 S1) (fun r4 S3 =>
    if r4 = (4 : Int32) then
      bndv (f_Report_beginBody (19 : Int32) S3) (fun S7 =>
      bnd (f_Stock_isAs a2 (6 : Int32) S7) (fun r9 S8 =>
      if r9 = 0 then
        bnd (f_Bodies_wagonSuits a1 a2 S8) (fun r11 S10 =>
        if r11 = 0 then
          some ((0 : Int32), S10)
        else
          some ((1 : Int32), S10))
      else
        some ((0 : Int32), S8)))
    else
      bnd (f_Bodies_wagonSuits a1 a2 S3) (fun r6 S5 =>
      grd (isB r6) (some (r6, S5))))
  else
    bndv (f_Report_beginBody (18 : Int32) S1) (fun S12 =>
    some ((1 : Int32), S12)))
theorem dX0_suits_0 : decode cX0_suits 0 = .ok (.aload_n 0, 1) := dc_42 (by decide +kernel)
theorem dX0_suits_1 : decode cX0_suits 1 = .ok (.getfield 19, 3) := dc_180 (a := 0) (b := 19) (by decide +kernel)
theorem dX0_suits_4 : decode cX0_suits 4 = .ok (.iload_n 1, 1) := dc_27 (by decide +kernel)
theorem dX0_suits_5 : decode cX0_suits 5 = .ok (.bipush 96, 2) := dc_16 (a := 96) (by decide +kernel) (by decide)
theorem dX0_suits_7 : decode cX0_suits 7 = .ok (.invokevirtual 69, 3) := dc_182 (a := 0) (b := 69) (by decide +kernel)
theorem dX0_suits_10 : decode cX0_suits 10 = .ok (.ifCond .eq 14, 3) := dc_153 (a := 0) (b := 14) (by decide +kernel) (by decide)
theorem dX0_suits_13 : decode cX0_suits 13 = .ok (.aload_n 0, 1) := dc_42 (by decide +kernel)
theorem dX0_suits_14 : decode cX0_suits 14 = .ok (.getfield 23, 3) := dc_180 (a := 0) (b := 23) (by decide +kernel)
theorem dX0_suits_17 : decode cX0_suits 17 = .ok (.bipush 18, 2) := dc_16 (a := 18) (by decide +kernel) (by decide)
theorem dX0_suits_19 : decode cX0_suits 19 = .ok (.invokevirtual 40, 3) := dc_182 (a := 0) (b := 40) (by decide +kernel)
theorem dX0_suits_22 : decode cX0_suits 22 = .ok (.iconst 1, 1) := dc_4 (by decide +kernel)
theorem dX0_suits_23 : decode cX0_suits 23 = .ok (.ireturn, 1) := dc_172 (by decide +kernel)
theorem dX0_suits_24 : decode cX0_suits 24 = .ok (.aload_n 0, 1) := dc_42 (by decide +kernel)
theorem dX0_suits_25 : decode cX0_suits 25 = .ok (.iload_n 1, 1) := dc_27 (by decide +kernel)
theorem dX0_suits_26 : decode cX0_suits 26 = .ok (.invokevirtual 33, 3) := dc_182 (a := 0) (b := 33) (by decide +kernel)
theorem dX0_suits_29 : decode cX0_suits 29 = .ok (.iconst 4, 1) := dc_7 (by decide +kernel)
theorem dX0_suits_30 : decode cX0_suits 30 = .ok (.if_icmp .ne 40, 3) := dc_160 (a := 0) (b := 40) (by decide +kernel) (by decide)
theorem dX0_suits_33 : decode cX0_suits 33 = .ok (.aload_n 0, 1) := dc_42 (by decide +kernel)
theorem dX0_suits_34 : decode cX0_suits 34 = .ok (.getfield 23, 3) := dc_180 (a := 0) (b := 23) (by decide +kernel)
theorem dX0_suits_37 : decode cX0_suits 37 = .ok (.bipush 19, 2) := dc_16 (a := 19) (by decide +kernel) (by decide)
theorem dX0_suits_39 : decode cX0_suits 39 = .ok (.invokevirtual 40, 3) := dc_182 (a := 0) (b := 40) (by decide +kernel)
theorem dX0_suits_42 : decode cX0_suits 42 = .ok (.aload_n 0, 1) := dc_42 (by decide +kernel)
theorem dX0_suits_43 : decode cX0_suits 43 = .ok (.getfield 19, 3) := dc_180 (a := 0) (b := 19) (by decide +kernel)
theorem dX0_suits_46 : decode cX0_suits 46 = .ok (.iload_n 2, 1) := dc_28 (by decide +kernel)
theorem dX0_suits_47 : decode cX0_suits 47 = .ok (.bipush 6, 2) := dc_16 (a := 6) (by decide +kernel) (by decide)
theorem dX0_suits_49 : decode cX0_suits 49 = .ok (.invokevirtual 69, 3) := dc_182 (a := 0) (b := 69) (by decide +kernel)
theorem dX0_suits_52 : decode cX0_suits 52 = .ok (.ifCond .ne 16, 3) := dc_154 (a := 0) (b := 16) (by decide +kernel) (by decide)
theorem dX0_suits_55 : decode cX0_suits 55 = .ok (.aload_n 0, 1) := dc_42 (by decide +kernel)
theorem dX0_suits_56 : decode cX0_suits 56 = .ok (.iload_n 1, 1) := dc_27 (by decide +kernel)
theorem dX0_suits_57 : decode cX0_suits 57 = .ok (.iload_n 2, 1) := dc_28 (by decide +kernel)
theorem dX0_suits_58 : decode cX0_suits 58 = .ok (.invokevirtual 72, 3) := dc_182 (a := 0) (b := 72) (by decide +kernel)
theorem dX0_suits_61 : decode cX0_suits 61 = .ok (.ifCond .eq 7, 3) := dc_153 (a := 0) (b := 7) (by decide +kernel) (by decide)
theorem dX0_suits_64 : decode cX0_suits 64 = .ok (.iconst 1, 1) := dc_4 (by decide +kernel)
theorem dX0_suits_65 : decode cX0_suits 65 = .ok (.goto 4, 3) := dc_167 (a := 0) (b := 4) (by decide +kernel) (by decide)
theorem dX0_suits_68 : decode cX0_suits 68 = .ok (.iconst 0, 1) := dc_3 (by decide +kernel)
theorem dX0_suits_69 : decode cX0_suits 69 = .ok (.ireturn, 1) := dc_172 (by decide +kernel)
theorem dX0_suits_70 : decode cX0_suits 70 = .ok (.aload_n 0, 1) := dc_42 (by decide +kernel)
theorem dX0_suits_71 : decode cX0_suits 71 = .ok (.iload_n 1, 1) := dc_27 (by decide +kernel)
theorem dX0_suits_72 : decode cX0_suits 72 = .ok (.iload_n 2, 1) := dc_28 (by decide +kernel)
theorem dX0_suits_73 : decode cX0_suits 73 = .ok (.invokevirtual 72, 3) := dc_182 (a := 0) (b := 72) (by decide +kernel)
theorem dX0_suits_76 : decode cX0_suits 76 = .ok (.ireturn, 1) := dc_172 (by decide +kernel)
set_option maxRecDepth 100000 in
set_option maxHeartbeats 4000000 in
theorem m_Bodies_suits (a1 : Int32) (a2 : Int32) (S S' : SS) (r : Int32) (h : f_Bodies_suits a1 a2 S = some (r, S')) : MT yX0_suits cX0_suits 3 (some .boolean) 3 67 (fun ad => [.ref (ad 69), .int a1, .int a2]) S (some (.int r)) S' := by
  refine MT.of RX0 (fun ad => [(0, .ref (ad 69)), (1, .int a1), (2, .int a2)]) (by decide) rfl (fun _ => Nat.le_of_ble_eq_true rfl) (fun _ => rfl) ?_
  intro p l e R s m args below meth c dC dI cs ad A hR1 hR2 F H locs ls w hl
  have hx := F.1.1
  have hb := F.1.2.1
  rw [f_Bodies_suits] at h
  refine lv_aload_n (pc := 0) hx hb dX0_suits_0 rfl (lv_at hl 0 rfl) ?_
  refine s_getR (pc := 1) F w 65 ds_69 (j := 1) vc_X0 vi_X0 rfl (by decide) kf_X0_19 dX0_suits_1 ?_
  refine lv_iload_n (pc := 4) hx hb dX0_suits_4 rfl (lv_at hl 1 rfl) ?_
  refine lv_bipush (pc := 5) (v := 96) hx hb dX0_suits_5 (by decide) ?_
  obtain ⟨r2, S1, hc, h⟩ := bnd_t h
  refine s_cvi (pc := 7) [.int a1, .int (96 : Int32)] (fun ad => [.ref (ad 65), .int a1, .int (96 : Int32)]) F w (m_Stock_isAs _ _ _ _ _ hc) rfl rfl hl.1 ds_65 vc_X9 rfl ok_X9_isAs rfl kc_X9_isAs kl_X0_69 ki_X9_isAs kv_X9_isAs kn_X9 ⟨Nat.le_trans (by decide) hR1, Nat.le_trans (by decide) hR2⟩ ⟨Nat.zero_le _, Nat.zero_le _⟩ (Nat.le_of_ble_eq_true rfl) dX0_suits_7 (fun H locs w => ?_)
  refine lv_if_eq (pc := 10) (tgt := 24) hx hb dX0_suits_10 (by decide) (fun q => ?_) (fun q => ?_)
  · have h := ite_t q h
    refine lv_aload_n (pc := 24) hx hb dX0_suits_24 rfl (lv_at hl 0 rfl) ?_
    refine lv_iload_n (pc := 25) hx hb dX0_suits_25 rfl (lv_at hl 1 rfl) ?_
    obtain ⟨r4, S3, hc, h⟩ := bnd_t h
    refine s_cvi (pc := 26) [.int a1] (fun ad => [.ref (ad 69), .int a1]) F w (m_Bodies_kindOf _ _ _ _ hc) rfl rfl hl.1 ds_69 vc_X0 rfl ok_X0_kindOf rfl kc_X0_kindOf kl_X0_33 ki_X0_kindOf kv_X0_kindOf kn_X0 ⟨Nat.le_trans (by decide) hR1, Nat.le_trans (by decide) hR2⟩ ⟨Nat.zero_le _, Nat.zero_le _⟩ (Nat.le_of_ble_eq_true rfl) dX0_suits_26 (fun H locs w => ?_)
    refine lv_iconst (pc := 29) (v := 4) hx hb dX0_suits_29 (by decide) ?_
    refine lv_icmp_ne (pc := 30) (tgt := 70) hx hb dX0_suits_30 (by decide) (fun q => ?_) (fun q => ?_)
    · have h := ite_f q h
      refine lv_aload_n (pc := 70) hx hb dX0_suits_70 rfl (lv_at hl 0 rfl) ?_
      refine lv_iload_n (pc := 71) hx hb dX0_suits_71 rfl (lv_at hl 1 rfl) ?_
      refine lv_iload_n (pc := 72) hx hb dX0_suits_72 rfl (lv_at hl 2 rfl) ?_
      obtain ⟨r6, S5, hc, h⟩ := bnd_t h
      refine s_cvi (pc := 73) [.int a1, .int a2] (fun ad => [.ref (ad 69), .int a1, .int a2]) F w (m_Bodies_wagonSuits _ _ _ _ _ hc) rfl rfl hl.1 ds_69 vc_X0 rfl ok_X0_wagonSuits rfl kc_X0_wagonSuits kl_X0_72 ki_X0_wagonSuits kv_X0_wagonSuits kn_X0 ⟨Nat.le_trans (by decide) hR1, Nat.le_trans (by decide) hR2⟩ ⟨Nat.zero_le _, Nat.zero_le _⟩ (Nat.le_of_ble_eq_true rfl) dX0_suits_73 (fun H locs w => ?_)
      exact s_zret F w h dX0_suits_76
    · have h := ite_t q h
      refine lv_aload_n (pc := 33) hx hb dX0_suits_33 rfl (lv_at hl 0 rfl) ?_
      refine s_getR (pc := 34) F w 62 ds_69 (j := 2) vc_X0 vi_X0 rfl (by decide) kf_X0_23 dX0_suits_34 ?_
      refine lv_bipush (pc := 37) (v := 19) hx hb dX0_suits_37 (by decide) ?_
      obtain ⟨S7, hc, h⟩ := bndv_t h
      refine s_cvv (pc := 39) [.int (19 : Int32)] (fun ad => [.ref (ad 62), .int (19 : Int32)]) F w (m_Report_beginBody _ _ _ hc) rfl rfl hl.1 ds_62 vc_X5 rfl ok_X5_beginBody rfl kc_X5_beginBody kl_X0_40 ki_X5_beginBody kv_X5_beginBody kn_X5 ⟨Nat.le_trans (by decide) hR1, Nat.le_trans (by decide) hR2⟩ ⟨Nat.zero_le _, Nat.zero_le _⟩ (Nat.le_of_ble_eq_true rfl) dX0_suits_39 (fun H locs w => ?_)
      refine lv_aload_n (pc := 42) hx hb dX0_suits_42 rfl (lv_at hl 0 rfl) ?_
      refine s_getR (pc := 43) F w 65 ds_69 (j := 1) vc_X0 vi_X0 rfl (by decide) kf_X0_19 dX0_suits_43 ?_
      refine lv_iload_n (pc := 46) hx hb dX0_suits_46 rfl (lv_at hl 2 rfl) ?_
      refine lv_bipush (pc := 47) (v := 6) hx hb dX0_suits_47 (by decide) ?_
      obtain ⟨r9, S8, hc, h⟩ := bnd_t h
      refine s_cvi (pc := 49) [.int a2, .int (6 : Int32)] (fun ad => [.ref (ad 65), .int a2, .int (6 : Int32)]) F w (m_Stock_isAs _ _ _ _ _ hc) rfl rfl hl.1 ds_65 vc_X9 rfl ok_X9_isAs rfl kc_X9_isAs kl_X0_69 ki_X9_isAs kv_X9_isAs kn_X9 ⟨Nat.le_trans (by decide) hR1, Nat.le_trans (by decide) hR2⟩ ⟨Nat.zero_le _, Nat.zero_le _⟩ (Nat.le_of_ble_eq_true rfl) dX0_suits_49 (fun H locs w => ?_)
      refine lv_if_ne (pc := 52) (tgt := 68) hx hb dX0_suits_52 (by decide) (fun q => ?_) (fun q => ?_)
      · have h := ite_f q h
        refine lv_iconst (pc := 68) (v := 0) hx hb dX0_suits_68 (by decide) ?_
        exact s_zretc F w rfl h dX0_suits_69
      · have h := ite_t q h
        refine lv_aload_n (pc := 55) hx hb dX0_suits_55 rfl (lv_at hl 0 rfl) ?_
        refine lv_iload_n (pc := 56) hx hb dX0_suits_56 rfl (lv_at hl 1 rfl) ?_
        refine lv_iload_n (pc := 57) hx hb dX0_suits_57 rfl (lv_at hl 2 rfl) ?_
        obtain ⟨r11, S10, hc, h⟩ := bnd_t h
        refine s_cvi (pc := 58) [.int a1, .int a2] (fun ad => [.ref (ad 69), .int a1, .int a2]) F w (m_Bodies_wagonSuits _ _ _ _ _ hc) rfl rfl hl.1 ds_69 vc_X0 rfl ok_X0_wagonSuits rfl kc_X0_wagonSuits kl_X0_72 ki_X0_wagonSuits kv_X0_wagonSuits kn_X0 ⟨Nat.le_trans (by decide) hR1, Nat.le_trans (by decide) hR2⟩ ⟨Nat.zero_le _, Nat.zero_le _⟩ (Nat.le_of_ble_eq_true rfl) dX0_suits_58 (fun H locs w => ?_)
        refine lv_if_eq (pc := 61) (tgt := 68) hx hb dX0_suits_61 (by decide) (fun q => ?_) (fun q => ?_)
        · have h := ite_t q h
          refine lv_iconst (pc := 68) (v := 0) hx hb dX0_suits_68 (by decide) ?_
          exact s_zretc F w rfl h dX0_suits_69
        · have h := ite_f q h
          refine lv_iconst (pc := 64) (v := 1) hx hb dX0_suits_64 (by decide) ?_
          refine lv_goto (pc := 65) (tgt := 69) hx hb dX0_suits_65 (by decide) ?_
          exact s_zretc F w rfl h dX0_suits_69
  · have h := ite_f q h
    refine lv_aload_n (pc := 13) hx hb dX0_suits_13 rfl (lv_at hl 0 rfl) ?_
    refine s_getR (pc := 14) F w 62 ds_69 (j := 2) vc_X0 vi_X0 rfl (by decide) kf_X0_23 dX0_suits_14 ?_
    refine lv_bipush (pc := 17) (v := 18) hx hb dX0_suits_17 (by decide) ?_
    obtain ⟨S12, hc, h⟩ := bndv_t h
    refine s_cvv (pc := 19) [.int (18 : Int32)] (fun ad => [.ref (ad 62), .int (18 : Int32)]) F w (m_Report_beginBody _ _ _ hc) rfl rfl hl.1 ds_62 vc_X5 rfl ok_X5_beginBody rfl kc_X5_beginBody kl_X0_40 ki_X5_beginBody kv_X5_beginBody kn_X5 ⟨Nat.le_trans (by decide) hR1, Nat.le_trans (by decide) hR2⟩ ⟨Nat.zero_le _, Nat.zero_le _⟩ (Nat.le_of_ble_eq_true rfl) dX0_suits_19 (fun H locs w => ?_)
    refine lv_iconst (pc := 22) (v := 1) hx hb dX0_suits_22 (by decide) ?_
    exact s_zretc F w rfl h dX0_suits_23
