/-! ===== printed by wip/gen: Yard_store Yard_rolled Yard_at Yard_thing Yard_pointed Yard_wantedFor Yard_orZero Yard_ask Yard_meet Yard_weigh Yard_share ===== -/
def f_Yard_store_j50  (x1 : Int32) (x2 : Int32) (x3 : Int32) (S : SS) : Option (Int32 × SS) :=
    if x3 = 0 then
      grd (inb x2 8) (wr S 76 x2.toNatClampNeg x1 (fun S4 =>
      some ((1 : Int32), S4)))
    else
      bnd (f_Report_found x3 S) (fun r6 S5 =>
      some (r6, S5))
def f_Yard_store_j31  (x1 : Int32) (x2 : Int32) (x3 : Int32) (S : SS) : Option (Int32 × SS) :=
    if x3 = 0 then
      bnd (f_Stock_isAs x1 (96 : Int32) S) (fun r8 S7 =>
      if r8 = 0 then
        f_Yard_store_j50 x1 x2 (4 : Int32) S7
      else
        f_Yard_store_j50 x1 x2 x3 S7)
    else
      f_Yard_store_j50 x1 x2 x3 S
def f_Yard_store (a1 : Int32) (a2 : Int32) (S : SS) : Option (Int32 × SS) :=
  bndv (f_Report_begin  S) (fun S1 =>
  bnd (f_Yard_named a1 (127 : Int32) S1) (fun r3 S2 =>
  if r3 = 0 then
    bnd (f_Yard_isNot a2 (0 : Int32) (7 : Int32) S2) (fun r10 S9 =>
    if r10 = 0 then
      f_Yard_store_j31 a1 a2 r3 S9
    else
      f_Yard_store_j31 a1 a2 (3 : Int32) S9)
  else
    f_Yard_store_j31 a1 a2 r3 S2))
theorem dX11_store_0 : decode cX11_store 0 = .ok (.aload_n 0, 1) := dc_42 (by decide +kernel)
theorem dX11_store_1 : decode cX11_store 1 = .ok (.getfield 10, 3) := dc_180 (a := 0) (b := 10) (by decide +kernel)
theorem dX11_store_4 : decode cX11_store 4 = .ok (.invokevirtual 95, 3) := dc_182 (a := 0) (b := 95) (by decide +kernel)
theorem dX11_store_7 : decode cX11_store 7 = .ok (.aload_n 0, 1) := dc_42 (by decide +kernel)
theorem dX11_store_8 : decode cX11_store 8 = .ok (.iload_n 1, 1) := dc_27 (by decide +kernel)
theorem dX11_store_9 : decode cX11_store 9 = .ok (.bipush 127, 2) := dc_16 (a := 127) (by decide +kernel) (by decide)
theorem dX11_store_11 : decode cX11_store 11 = .ok (.invokevirtual 185, 3) := dc_182 (a := 0) (b := 185) (by decide +kernel)
theorem dX11_store_14 : decode cX11_store 14 = .ok (.istore_n 3, 1) := dc_62 (by decide +kernel)
theorem dX11_store_15 : decode cX11_store 15 = .ok (.iload_n 3, 1) := dc_29 (by decide +kernel)
theorem dX11_store_16 : decode cX11_store 16 = .ok (.ifCond .ne 15, 3) := dc_154 (a := 0) (b := 15) (by decide +kernel) (by decide)
theorem dX11_store_19 : decode cX11_store 19 = .ok (.iload_n 2, 1) := dc_28 (by decide +kernel)
theorem dX11_store_20 : decode cX11_store 20 = .ok (.iconst 0, 1) := dc_3 (by decide +kernel)
theorem dX11_store_21 : decode cX11_store 21 = .ok (.bipush 7, 2) := dc_16 (a := 7) (by decide +kernel) (by decide)
theorem dX11_store_23 : decode cX11_store 23 = .ok (.invokestatic 108, 3) := dc_184 (a := 0) (b := 108) (by decide +kernel)
theorem dX11_store_26 : decode cX11_store 26 = .ok (.ifCond .eq 5, 3) := dc_153 (a := 0) (b := 5) (by decide +kernel) (by decide)
theorem dX11_store_29 : decode cX11_store 29 = .ok (.iconst 3, 1) := dc_6 (by decide +kernel)
theorem dX11_store_30 : decode cX11_store 30 = .ok (.istore_n 3, 1) := dc_62 (by decide +kernel)
theorem dX11_store_31 : decode cX11_store 31 = .ok (.iload_n 3, 1) := dc_29 (by decide +kernel)
theorem dX11_store_32 : decode cX11_store 32 = .ok (.ifCond .ne 18, 3) := dc_154 (a := 0) (b := 18) (by decide +kernel) (by decide)
theorem dX11_store_35 : decode cX11_store 35 = .ok (.aload_n 0, 1) := dc_42 (by decide +kernel)
theorem dX11_store_36 : decode cX11_store 36 = .ok (.getfield 33, 3) := dc_180 (a := 0) (b := 33) (by decide +kernel)
theorem dX11_store_39 : decode cX11_store 39 = .ok (.iload_n 1, 1) := dc_27 (by decide +kernel)
theorem dX11_store_40 : decode cX11_store 40 = .ok (.bipush 96, 2) := dc_16 (a := 96) (by decide +kernel) (by decide)
theorem dX11_store_42 : decode cX11_store 42 = .ok (.invokevirtual 247, 3) := dc_182 (a := 0) (b := 247) (by decide +kernel)
theorem dX11_store_45 : decode cX11_store 45 = .ok (.ifCond .ne 5, 3) := dc_154 (a := 0) (b := 5) (by decide +kernel) (by decide)
theorem dX11_store_48 : decode cX11_store 48 = .ok (.iconst 4, 1) := dc_7 (by decide +kernel)
theorem dX11_store_49 : decode cX11_store 49 = .ok (.istore_n 3, 1) := dc_62 (by decide +kernel)
theorem dX11_store_50 : decode cX11_store 50 = .ok (.iload_n 3, 1) := dc_29 (by decide +kernel)
theorem dX11_store_51 : decode cX11_store 51 = .ok (.ifCond .eq 12, 3) := dc_153 (a := 0) (b := 12) (by decide +kernel) (by decide)
theorem dX11_store_54 : decode cX11_store 54 = .ok (.aload_n 0, 1) := dc_42 (by decide +kernel)
theorem dX11_store_55 : decode cX11_store 55 = .ok (.getfield 10, 3) := dc_180 (a := 0) (b := 10) (by decide +kernel)
theorem dX11_store_58 : decode cX11_store 58 = .ok (.iload_n 3, 1) := dc_29 (by decide +kernel)
theorem dX11_store_59 : decode cX11_store 59 = .ok (.invokevirtual 98, 3) := dc_182 (a := 0) (b := 98) (by decide +kernel)
theorem dX11_store_62 : decode cX11_store 62 = .ok (.ireturn, 1) := dc_172 (by decide +kernel)
theorem dX11_store_63 : decode cX11_store 63 = .ok (.aload_n 0, 1) := dc_42 (by decide +kernel)
theorem dX11_store_64 : decode cX11_store 64 = .ok (.getfield 82, 3) := dc_180 (a := 0) (b := 82) (by decide +kernel)
theorem dX11_store_67 : decode cX11_store 67 = .ok (.iload_n 2, 1) := dc_28 (by decide +kernel)
theorem dX11_store_68 : decode cX11_store 68 = .ok (.iload_n 1, 1) := dc_27 (by decide +kernel)
theorem dX11_store_69 : decode cX11_store 69 = .ok (.iastore, 1) := dc_79 (by decide +kernel)
theorem dX11_store_70 : decode cX11_store 70 = .ok (.iconst 1, 1) := dc_4 (by decide +kernel)
theorem dX11_store_71 : decode cX11_store 71 = .ok (.ireturn, 1) := dc_172 (by decide +kernel)
set_option maxRecDepth 100000 in
set_option maxHeartbeats 4000000 in
theorem w_Yard_store_j50 {p : Program} {l : Launch} {e : Env} {R : Room} {s : State} {m : MethodId} {args : Array Value} {below : List Frame} {meth : Method} {c : Code} {dC : Nat → ClassId} {dI : Nat → Nat → Nat} {cs : Nat → ClassId} {ad : Nat → Nat} {A : Nat → Prop} {D0 : Nat → Nat} {S' : SS} {r : Int32} (F : Fx p s m args meth c cX11_store 4 RX11 (some .int) dC dI cs A) (hR1 : 1 ≤ R.frames) (hR2 : 21 ≤ R.locals) (x1 : Int32) (x2 : Int32) (x3 : Int32) (S : SS) (h : f_Yard_store_j50 x1 x2 x3 S = some (r, S')) : AW p l e R s m args below meth c dC dI cs ad A D0 (some (.int r)) S' 4 50 [(0, .ref (ad 61)), (1, .int x1), (2, .int x2), (3, .int x3)] [] S := by
  have hx := F.1.1
  have hb := F.1.2.1
  intro H locs ls w hl
  rw [f_Yard_store_j50] at h
  refine lv_iload_n (pc := 50) hx hb dX11_store_50 rfl (lv_at hl 3 rfl) ?_
  refine lv_if_eq (pc := 51) (tgt := 63) hx hb dX11_store_51 (by decide) (fun q => ?_) (fun q => ?_)
  · have h := ite_t q h
    refine lv_aload_n (pc := 63) hx hb dX11_store_63 rfl (lv_at hl 0 rfl) ?_
    refine s_getR (pc := 64) F w 76 ds_61 (j := 10) vc_X11 vi_X11 rfl (by decide) kf_X11_82 dX11_store_64 ?_
    refine lv_iload_n (pc := 67) hx hb dX11_store_67 rfl (lv_at hl 2 rfl) ?_
    refine lv_iload_n (pc := 68) hx hb dX11_store_68 rfl (lv_at hl 1 rfl) ?_
    refine s_iast (pc := 69) F w ds_76 h dX11_store_69 (fun S4 H locs h w => ?_)
    refine lv_iconst (pc := 70) (v := 1) hx hb dX11_store_70 (by decide) ?_
    exact s_iret F w h dX11_store_71
  · have h := ite_f q h
    refine lv_aload_n (pc := 54) hx hb dX11_store_54 rfl (lv_at hl 0 rfl) ?_
    refine s_getR (pc := 55) F w 62 ds_61 (j := 0) vc_X11 vi_X11 rfl (by decide) kf_X11_10 dX11_store_55 ?_
    refine lv_iload_n (pc := 58) hx hb dX11_store_58 rfl (lv_at hl 3 rfl) ?_
    obtain ⟨r6, S5, hc, h⟩ := bnd_t h
    refine s_cvi (pc := 59) [.int x3] (fun ad => [.ref (ad 62), .int x3]) F w (m_Report_found _ _ _ _ hc) rfl rfl hl.1 ds_62 vc_X5 rfl ok_X5_found rfl kc_X5_found kl_X11_98 ki_X5_found kv_X5_found kn_X5 ⟨Nat.le_trans (by decide) hR1, Nat.le_trans (by decide) hR2⟩ ⟨Nat.zero_le _, Nat.zero_le _⟩ (Nat.le_of_ble_eq_true rfl) dX11_store_59 (fun H locs w => ?_)
    exact s_iret F w h dX11_store_62
set_option maxRecDepth 100000 in
set_option maxHeartbeats 4000000 in
theorem w_Yard_store_j31 {p : Program} {l : Launch} {e : Env} {R : Room} {s : State} {m : MethodId} {args : Array Value} {below : List Frame} {meth : Method} {c : Code} {dC : Nat → ClassId} {dI : Nat → Nat → Nat} {cs : Nat → ClassId} {ad : Nat → Nat} {A : Nat → Prop} {D0 : Nat → Nat} {S' : SS} {r : Int32} (F : Fx p s m args meth c cX11_store 4 RX11 (some .int) dC dI cs A) (hR1 : 2 ≤ R.frames) (hR2 : 45 ≤ R.locals) (x1 : Int32) (x2 : Int32) (x3 : Int32) (S : SS) (h : f_Yard_store_j31 x1 x2 x3 S = some (r, S')) : AW p l e R s m args below meth c dC dI cs ad A D0 (some (.int r)) S' 4 31 [(0, .ref (ad 61)), (1, .int x1), (2, .int x2), (3, .int x3)] [] S := by
  have hx := F.1.1
  have hb := F.1.2.1
  intro H locs ls w hl
  rw [f_Yard_store_j31] at h
  refine lv_iload_n (pc := 31) hx hb dX11_store_31 rfl (lv_at hl 3 rfl) ?_
  refine lv_if_ne (pc := 32) (tgt := 50) hx hb dX11_store_32 (by decide) (fun q => ?_) (fun q => ?_)
  · have h := ite_f q h
    exact w_Yard_store_j50 F (Nat.le_trans (by decide) hR1) (Nat.le_trans (by decide) hR2) _ _ _ _ h _ _ _ w (lv_sub hl [0, 1, 2, 3] rfl)
  · have h := ite_t q h
    refine lv_aload_n (pc := 35) hx hb dX11_store_35 rfl (lv_at hl 0 rfl) ?_
    refine s_getR (pc := 36) F w 65 ds_61 (j := 3) vc_X11 vi_X11 rfl (by decide) kf_X11_33 dX11_store_36 ?_
    refine lv_iload_n (pc := 39) hx hb dX11_store_39 rfl (lv_at hl 1 rfl) ?_
    refine lv_bipush (pc := 40) (v := 96) hx hb dX11_store_40 (by decide) ?_
    obtain ⟨r8, S7, hc, h⟩ := bnd_t h
    refine s_cvi (pc := 42) [.int x1, .int (96 : Int32)] (fun ad => [.ref (ad 65), .int x1, .int (96 : Int32)]) F w (m_Stock_isAs _ _ _ _ _ hc) rfl rfl hl.1 ds_65 vc_X9 rfl ok_X9_isAs rfl kc_X9_isAs kl_X11_247 ki_X9_isAs kv_X9_isAs kn_X9 ⟨Nat.le_trans (by decide) hR1, Nat.le_trans (by decide) hR2⟩ ⟨Nat.zero_le _, Nat.zero_le _⟩ (Nat.le_of_ble_eq_true rfl) dX11_store_42 (fun H locs w => ?_)
    refine lv_if_ne (pc := 45) (tgt := 50) hx hb dX11_store_45 (by decide) (fun q => ?_) (fun q => ?_)
    · have h := ite_f q h
      exact w_Yard_store_j50 F (Nat.le_trans (by decide) hR1) (Nat.le_trans (by decide) hR2) _ _ _ _ h _ _ _ w (lv_sub hl [0, 1, 2, 3] rfl)
    · have h := ite_t q h
      refine lv_iconst (pc := 48) (v := 4) hx hb dX11_store_48 (by decide) ?_
      refine lv_istore_n (pc := 49) (lv' := [(3, .int (4 : Int32)), (0, .ref (ad 61)), (1, .int x1), (2, .int x2)]) hx hb dX11_store_49 rfl hl (by decide) rfl (fun ls hl => ?_)
      exact w_Yard_store_j50 F (Nat.le_trans (by decide) hR1) (Nat.le_trans (by decide) hR2) _ _ _ _ h _ _ _ w (lv_sub hl [1, 2, 3, 0] rfl)
set_option maxRecDepth 100000 in
set_option maxHeartbeats 4000000 in
theorem m_Yard_store (a1 : Int32) (a2 : Int32) (S S' : SS) (r : Int32) (h : f_Yard_store a1 a2 S = some (r, S')) : MT yX11_store cX11_store 4 (some .int) 3 67 (fun ad => [.ref (ad 61), .int a1, .int a2]) S (some (.int r)) S' := by
  refine MT.of RX11 (fun ad => [(0, .ref (ad 61)), (1, .int a1), (2, .int a2)]) (by decide) rfl (fun _ => Nat.le_of_ble_eq_true rfl) (fun _ => rfl) ?_
  intro p l e R s m args below meth c dC dI cs ad A hR1 hR2 F H locs ls w hl
  have hx := F.1.1
  have hb := F.1.2.1
  rw [f_Yard_store] at h
  refine lv_aload_n (pc := 0) hx hb dX11_store_0 rfl (lv_at hl 0 rfl) ?_
  refine s_getR (pc := 1) F w 62 ds_61 (j := 0) vc_X11 vi_X11 rfl (by decide) kf_X11_10 dX11_store_1 ?_
  obtain ⟨S1, hc, h⟩ := bndv_t h
  refine s_cvv (pc := 4) [] (fun ad => [.ref (ad 62)]) F w (m_Report_begin  _ _ hc) rfl rfl hl.1 ds_62 vc_X5 rfl ok_X5_begin rfl kc_X5_begin kl_X11_95 ki_X5_begin kv_X5_begin kn_X5 ⟨Nat.le_trans (by decide) hR1, Nat.le_trans (by decide) hR2⟩ ⟨Nat.zero_le _, Nat.zero_le _⟩ (Nat.le_of_ble_eq_true rfl) dX11_store_4 (fun H locs w => ?_)
  refine lv_aload_n (pc := 7) hx hb dX11_store_7 rfl (lv_at hl 0 rfl) ?_
  refine lv_iload_n (pc := 8) hx hb dX11_store_8 rfl (lv_at hl 1 rfl) ?_
  refine lv_bipush (pc := 9) (v := 127) hx hb dX11_store_9 (by decide) ?_
  obtain ⟨r3, S2, hc, h⟩ := bnd_t h
  refine s_cvi (pc := 11) [.int a1, .int (127 : Int32)] (fun ad => [.ref (ad 61), .int a1, .int (127 : Int32)]) F w (m_Yard_named _ _ _ _ _ hc) rfl rfl hl.1 ds_61 vc_X11 rfl ok_X11_named rfl kc_X11_named kl_X11_185 ki_X11_named kv_X11_named kn_X11 ⟨Nat.le_trans (by decide) hR1, Nat.le_trans (by decide) hR2⟩ ⟨Nat.zero_le _, Nat.zero_le _⟩ (Nat.le_of_ble_eq_true rfl) dX11_store_11 (fun H locs w => ?_)
  refine lv_istore_n (pc := 14) (lv' := [(3, .int r3), (0, .ref (ad 61)), (1, .int a1), (2, .int a2)]) hx hb dX11_store_14 rfl hl (by decide) rfl (fun ls hl => ?_)
  refine lv_iload_n (pc := 15) hx hb dX11_store_15 rfl (lv_at hl 0 rfl) ?_
  refine lv_if_ne (pc := 16) (tgt := 31) hx hb dX11_store_16 (by decide) (fun q => ?_) (fun q => ?_)
  · have h := ite_f q h
    exact w_Yard_store_j31 F (Nat.le_trans (by decide) hR1) (Nat.le_trans (by decide) hR2) _ _ _ _ h _ _ _ w (lv_sub hl [1, 2, 3, 0] rfl)
  · have h := ite_t q h
    refine lv_iload_n (pc := 19) hx hb dX11_store_19 rfl (lv_at hl 3 rfl) ?_
    refine lv_iconst (pc := 20) (v := 0) hx hb dX11_store_20 (by decide) ?_
    refine lv_bipush (pc := 21) (v := 7) hx hb dX11_store_21 (by decide) ?_
    obtain ⟨r10, S9, hc, h⟩ := bnd_t h
    refine s_csi (pc := 23) [.int a2, .int (0 : Int32), .int (7 : Int32)] (fun ad => [.int a2, .int (0 : Int32), .int (7 : Int32)]) F w (m_Yard_isNot _ _ _ _ _ _ hc) rfl rfl hl.1 ok_X11_isNot rfl kc_X11_isNot kl_X11_108 ks_X11_isNot kn_X11 ⟨Nat.le_trans (by decide) hR1, Nat.le_trans (by decide) hR2⟩ ⟨Nat.zero_le _, Nat.zero_le _⟩ (Nat.le_of_ble_eq_true rfl) dX11_store_23 (fun H locs w => ?_)
    refine lv_if_eq (pc := 26) (tgt := 31) hx hb dX11_store_26 (by decide) (fun q => ?_) (fun q => ?_)
    · have h := ite_t q h
      exact w_Yard_store_j31 F (Nat.le_trans (by decide) hR1) (Nat.le_trans (by decide) hR2) _ _ _ _ h _ _ _ w (lv_sub hl [1, 2, 3, 0] rfl)
    · have h := ite_f q h
      refine lv_iconst (pc := 29) (v := 3) hx hb dX11_store_29 (by decide) ?_
      refine lv_istore_n (pc := 30) (lv' := [(3, .int (3 : Int32)), (0, .ref (ad 61)), (1, .int a1), (2, .int a2)]) hx hb dX11_store_30 rfl hl (by decide) rfl (fun ls hl => ?_)
      exact w_Yard_store_j31 F (Nat.le_trans (by decide) hR1) (Nat.le_trans (by decide) hR2) _ _ _ _ h _ _ _ w (lv_sub hl [1, 2, 3, 0] rfl)
def f_Yard_rolled (a1 : Int32) (S : SS) : Option (Int32 × SS) :=
  bndv (f_Report_begin  S) (fun S1 =>
  bnd (f_Yard_isNot a1 (0 : Int32) (7 : Int32) S1) (fun r3 S2 =>
  if r3 = 0 then
    grd (inb a1 8) (
    some (S2.1 76 a1.toNatClampNeg, S2))
  else
    bnd (f_Report_found (3 : Int32) S2) (fun r5 S4 =>
    some (r5, S4))))
theorem dX11_rolled_0 : decode cX11_rolled 0 = .ok (.aload_n 0, 1) := dc_42 (by decide +kernel)
theorem dX11_rolled_1 : decode cX11_rolled 1 = .ok (.getfield 10, 3) := dc_180 (a := 0) (b := 10) (by decide +kernel)
theorem dX11_rolled_4 : decode cX11_rolled 4 = .ok (.invokevirtual 95, 3) := dc_182 (a := 0) (b := 95) (by decide +kernel)
theorem dX11_rolled_7 : decode cX11_rolled 7 = .ok (.iload_n 1, 1) := dc_27 (by decide +kernel)
theorem dX11_rolled_8 : decode cX11_rolled 8 = .ok (.iconst 0, 1) := dc_3 (by decide +kernel)
theorem dX11_rolled_9 : decode cX11_rolled 9 = .ok (.bipush 7, 2) := dc_16 (a := 7) (by decide +kernel) (by decide)
theorem dX11_rolled_11 : decode cX11_rolled 11 = .ok (.invokestatic 108, 3) := dc_184 (a := 0) (b := 108) (by decide +kernel)
theorem dX11_rolled_14 : decode cX11_rolled 14 = .ok (.ifCond .eq 12, 3) := dc_153 (a := 0) (b := 12) (by decide +kernel) (by decide)
theorem dX11_rolled_17 : decode cX11_rolled 17 = .ok (.aload_n 0, 1) := dc_42 (by decide +kernel)
theorem dX11_rolled_18 : decode cX11_rolled 18 = .ok (.getfield 10, 3) := dc_180 (a := 0) (b := 10) (by decide +kernel)
theorem dX11_rolled_21 : decode cX11_rolled 21 = .ok (.iconst 3, 1) := dc_6 (by decide +kernel)
theorem dX11_rolled_22 : decode cX11_rolled 22 = .ok (.invokevirtual 98, 3) := dc_182 (a := 0) (b := 98) (by decide +kernel)
theorem dX11_rolled_25 : decode cX11_rolled 25 = .ok (.ireturn, 1) := dc_172 (by decide +kernel)
theorem dX11_rolled_26 : decode cX11_rolled 26 = .ok (.aload_n 0, 1) := dc_42 (by decide +kernel)
theorem dX11_rolled_27 : decode cX11_rolled 27 = .ok (.getfield 82, 3) := dc_180 (a := 0) (b := 82) (by decide +kernel)
theorem dX11_rolled_30 : decode cX11_rolled 30 = .ok (.iload_n 1, 1) := dc_27 (by decide +kernel)
theorem dX11_rolled_31 : decode cX11_rolled 31 = .ok (.iaload, 1) := dc_46 (by decide +kernel)
theorem dX11_rolled_32 : decode cX11_rolled 32 = .ok (.ireturn, 1) := dc_172 (by decide +kernel)
set_option maxRecDepth 100000 in
set_option maxHeartbeats 4000000 in
theorem m_Yard_rolled (a1 : Int32) (S S' : SS) (r : Int32) (h : f_Yard_rolled a1 S = some (r, S')) : MT yX11_rolled cX11_rolled 2 (some .int) 1 22 (fun ad => [.ref (ad 61), .int a1]) S (some (.int r)) S' := by
  refine MT.of RX11 (fun ad => [(0, .ref (ad 61)), (1, .int a1)]) (by decide) rfl (fun _ => Nat.le_of_ble_eq_true rfl) (fun _ => rfl) ?_
  intro p l e R s m args below meth c dC dI cs ad A hR1 hR2 F H locs ls w hl
  have hx := F.1.1
  have hb := F.1.2.1
  rw [f_Yard_rolled] at h
  refine lv_aload_n (pc := 0) hx hb dX11_rolled_0 rfl (lv_at hl 0 rfl) ?_
  refine s_getR (pc := 1) F w 62 ds_61 (j := 0) vc_X11 vi_X11 rfl (by decide) kf_X11_10 dX11_rolled_1 ?_
  obtain ⟨S1, hc, h⟩ := bndv_t h
  refine s_cvv (pc := 4) [] (fun ad => [.ref (ad 62)]) F w (m_Report_begin  _ _ hc) rfl rfl hl.1 ds_62 vc_X5 rfl ok_X5_begin rfl kc_X5_begin kl_X11_95 ki_X5_begin kv_X5_begin kn_X5 ⟨Nat.le_trans (by decide) hR1, Nat.le_trans (by decide) hR2⟩ ⟨Nat.zero_le _, Nat.zero_le _⟩ (Nat.le_of_ble_eq_true rfl) dX11_rolled_4 (fun H locs w => ?_)
  refine lv_iload_n (pc := 7) hx hb dX11_rolled_7 rfl (lv_at hl 1 rfl) ?_
  refine lv_iconst (pc := 8) (v := 0) hx hb dX11_rolled_8 (by decide) ?_
  refine lv_bipush (pc := 9) (v := 7) hx hb dX11_rolled_9 (by decide) ?_
  obtain ⟨r3, S2, hc, h⟩ := bnd_t h
  refine s_csi (pc := 11) [.int a1, .int (0 : Int32), .int (7 : Int32)] (fun ad => [.int a1, .int (0 : Int32), .int (7 : Int32)]) F w (m_Yard_isNot _ _ _ _ _ _ hc) rfl rfl hl.1 ok_X11_isNot rfl kc_X11_isNot kl_X11_108 ks_X11_isNot kn_X11 ⟨Nat.le_trans (by decide) hR1, Nat.le_trans (by decide) hR2⟩ ⟨Nat.zero_le _, Nat.zero_le _⟩ (Nat.le_of_ble_eq_true rfl) dX11_rolled_11 (fun H locs w => ?_)
  refine lv_if_eq (pc := 14) (tgt := 26) hx hb dX11_rolled_14 (by decide) (fun q => ?_) (fun q => ?_)
  · have h := ite_t q h
    refine lv_aload_n (pc := 26) hx hb dX11_rolled_26 rfl (lv_at hl 0 rfl) ?_
    refine s_getR (pc := 27) F w 76 ds_61 (j := 10) vc_X11 vi_X11 rfl (by decide) kf_X11_82 dX11_rolled_27 ?_
    refine lv_iload_n (pc := 30) hx hb dX11_rolled_30 rfl (lv_at hl 1 rfl) ?_
    refine s_iald (pc := 31) F w ds_76 h dX11_rolled_31 (fun h => ?_)
    exact s_iret F w h dX11_rolled_32
  · have h := ite_f q h
    refine lv_aload_n (pc := 17) hx hb dX11_rolled_17 rfl (lv_at hl 0 rfl) ?_
    refine s_getR (pc := 18) F w 62 ds_61 (j := 0) vc_X11 vi_X11 rfl (by decide) kf_X11_10 dX11_rolled_18 ?_
    refine lv_iconst (pc := 21) (v := 3) hx hb dX11_rolled_21 (by decide) ?_
    obtain ⟨r5, S4, hc, h⟩ := bnd_t h
    refine s_cvi (pc := 22) [.int (3 : Int32)] (fun ad => [.ref (ad 62), .int (3 : Int32)]) F w (m_Report_found _ _ _ _ hc) rfl rfl hl.1 ds_62 vc_X5 rfl ok_X5_found rfl kc_X5_found kl_X11_98 ki_X5_found kv_X5_found kn_X5 ⟨Nat.le_trans (by decide) hR1, Nat.le_trans (by decide) hR2⟩ ⟨Nat.zero_le _, Nat.zero_le _⟩ (Nat.le_of_ble_eq_true rfl) dX11_rolled_22 (fun H locs w => ?_)
    exact s_iret F w h dX11_rolled_25
def f_Yard_at (a1 : Int32) (a2 : Int32) (S : SS) : Option (Int32 × SS) :=
  bndv (f_Report_begin  S) (fun S1 =>
  bnd (f_Layout_placeFinding a1 a2 S1) (fun r3 S2 =>
  if r3 = 0 then
    bnd (f_Layout_spot a1 a2 S2) (fun r5 S4 =>
    bnd (f_State_standsAt r5 S4) (fun r7 S6 =>
    some (r7, S6)))
  else
    bnd (f_Report_found r3 S2) (fun r9 S8 =>
    some (r9, S8))))
theorem dX11_at_0 : decode cX11_at 0 = .ok (.aload_n 0, 1) := dc_42 (by decide +kernel)
theorem dX11_at_1 : decode cX11_at 1 = .ok (.getfield 10, 3) := dc_180 (a := 0) (b := 10) (by decide +kernel)
theorem dX11_at_4 : decode cX11_at 4 = .ok (.invokevirtual 95, 3) := dc_182 (a := 0) (b := 95) (by decide +kernel)
theorem dX11_at_7 : decode cX11_at 7 = .ok (.aload_n 0, 1) := dc_42 (by decide +kernel)
theorem dX11_at_8 : decode cX11_at 8 = .ok (.getfield 42, 3) := dc_180 (a := 0) (b := 42) (by decide +kernel)
theorem dX11_at_11 : decode cX11_at 11 = .ok (.iload_n 1, 1) := dc_27 (by decide +kernel)
theorem dX11_at_12 : decode cX11_at 12 = .ok (.iload_n 2, 1) := dc_28 (by decide +kernel)
theorem dX11_at_13 : decode cX11_at 13 = .ok (.invokevirtual 143, 3) := dc_182 (a := 0) (b := 143) (by decide +kernel)
theorem dX11_at_16 : decode cX11_at 16 = .ok (.istore_n 3, 1) := dc_62 (by decide +kernel)
theorem dX11_at_17 : decode cX11_at 17 = .ok (.iload_n 3, 1) := dc_29 (by decide +kernel)
theorem dX11_at_18 : decode cX11_at 18 = .ok (.ifCond .eq 12, 3) := dc_153 (a := 0) (b := 12) (by decide +kernel) (by decide)
theorem dX11_at_21 : decode cX11_at 21 = .ok (.aload_n 0, 1) := dc_42 (by decide +kernel)
theorem dX11_at_22 : decode cX11_at 22 = .ok (.getfield 10, 3) := dc_180 (a := 0) (b := 10) (by decide +kernel)
theorem dX11_at_25 : decode cX11_at 25 = .ok (.iload_n 3, 1) := dc_29 (by decide +kernel)
theorem dX11_at_26 : decode cX11_at 26 = .ok (.invokevirtual 98, 3) := dc_182 (a := 0) (b := 98) (by decide +kernel)
theorem dX11_at_29 : decode cX11_at 29 = .ok (.ireturn, 1) := dc_172 (by decide +kernel)
theorem dX11_at_30 : decode cX11_at 30 = .ok (.aload_n 0, 1) := dc_42 (by decide +kernel)
theorem dX11_at_31 : decode cX11_at 31 = .ok (.getfield 19, 3) := dc_180 (a := 0) (b := 19) (by decide +kernel)
theorem dX11_at_34 : decode cX11_at 34 = .ok (.iload_n 1, 1) := dc_27 (by decide +kernel)
theorem dX11_at_35 : decode cX11_at 35 = .ok (.iload_n 2, 1) := dc_28 (by decide +kernel)
theorem dX11_at_36 : decode cX11_at 36 = .ok (.invokestatic 147, 3) := dc_184 (a := 0) (b := 147) (by decide +kernel)
theorem dX11_at_39 : decode cX11_at 39 = .ok (.invokevirtual 150, 3) := dc_182 (a := 0) (b := 150) (by decide +kernel)
theorem dX11_at_42 : decode cX11_at 42 = .ok (.ireturn, 1) := dc_172 (by decide +kernel)
set_option maxRecDepth 100000 in
set_option maxHeartbeats 4000000 in
theorem m_Yard_at (a1 : Int32) (a2 : Int32) (S S' : SS) (r : Int32) (h : f_Yard_at a1 a2 S = some (r, S')) : MT yX11_at cX11_at 4 (some .int) 2 44 (fun ad => [.ref (ad 61), .int a1, .int a2]) S (some (.int r)) S' := by
  refine MT.of RX11 (fun ad => [(0, .ref (ad 61)), (1, .int a1), (2, .int a2)]) (by decide) rfl (fun _ => Nat.le_of_ble_eq_true rfl) (fun _ => rfl) ?_
  intro p l e R s m args below meth c dC dI cs ad A hR1 hR2 F H locs ls w hl
  have hx := F.1.1
  have hb := F.1.2.1
  rw [f_Yard_at] at h
  refine lv_aload_n (pc := 0) hx hb dX11_at_0 rfl (lv_at hl 0 rfl) ?_
  refine s_getR (pc := 1) F w 62 ds_61 (j := 0) vc_X11 vi_X11 rfl (by decide) kf_X11_10 dX11_at_1 ?_
  obtain ⟨S1, hc, h⟩ := bndv_t h
  refine s_cvv (pc := 4) [] (fun ad => [.ref (ad 62)]) F w (m_Report_begin  _ _ hc) rfl rfl hl.1 ds_62 vc_X5 rfl ok_X5_begin rfl kc_X5_begin kl_X11_95 ki_X5_begin kv_X5_begin kn_X5 ⟨Nat.le_trans (by decide) hR1, Nat.le_trans (by decide) hR2⟩ ⟨Nat.zero_le _, Nat.zero_le _⟩ (Nat.le_of_ble_eq_true rfl) dX11_at_4 (fun H locs w => ?_)
  refine lv_aload_n (pc := 7) hx hb dX11_at_7 rfl (lv_at hl 0 rfl) ?_
  refine s_getR (pc := 8) F w 66 ds_61 (j := 4) vc_X11 vi_X11 rfl (by decide) kf_X11_42 dX11_at_8 ?_
  refine lv_iload_n (pc := 11) hx hb dX11_at_11 rfl (lv_at hl 1 rfl) ?_
  refine lv_iload_n (pc := 12) hx hb dX11_at_12 rfl (lv_at hl 2 rfl) ?_
  obtain ⟨r3, S2, hc, h⟩ := bnd_t h
  refine s_cvi (pc := 13) [.int a1, .int a2] (fun ad => [.ref (ad 66), .int a1, .int a2]) F w (m_Layout_placeFinding _ _ _ _ _ hc) rfl rfl hl.1 ds_66 vc_X2 rfl ok_X2_placeFinding rfl kc_X2_placeFinding kl_X11_143 ki_X2_placeFinding kv_X2_placeFinding kn_X2 ⟨Nat.le_trans (by decide) hR1, Nat.le_trans (by decide) hR2⟩ ⟨Nat.zero_le _, Nat.zero_le _⟩ (Nat.le_of_ble_eq_true rfl) dX11_at_13 (fun H locs w => ?_)
  refine lv_istore_n (pc := 16) (lv' := [(3, .int r3), (0, .ref (ad 61)), (1, .int a1), (2, .int a2)]) hx hb dX11_at_16 rfl hl (by decide) rfl (fun ls hl => ?_)
  refine lv_iload_n (pc := 17) hx hb dX11_at_17 rfl (lv_at hl 0 rfl) ?_
  refine lv_if_eq (pc := 18) (tgt := 30) hx hb dX11_at_18 (by decide) (fun q => ?_) (fun q => ?_)
  · have h := ite_t q h
    refine lv_aload_n (pc := 30) hx hb dX11_at_30 rfl (lv_at hl 1 rfl) ?_
    refine s_getR (pc := 31) F w 63 ds_61 (j := 1) vc_X11 vi_X11 rfl (by decide) kf_X11_19 dX11_at_31 ?_
    refine lv_iload_n (pc := 34) hx hb dX11_at_34 rfl (lv_at hl 2 rfl) ?_
    refine lv_iload_n (pc := 35) hx hb dX11_at_35 rfl (lv_at hl 3 rfl) ?_
    obtain ⟨r5, S4, hc, h⟩ := bnd_t h
    refine s_csi (pc := 36) [.int a1, .int a2] (fun ad => [.int a1, .int a2]) F w (m_Layout_spot _ _ _ _ _ hc) rfl rfl hl.1 ok_X2_spot rfl kc_X2_spot kl_X11_147 ks_X2_spot kn_X2 ⟨Nat.le_trans (by decide) hR1, Nat.le_trans (by decide) hR2⟩ ⟨Nat.zero_le _, Nat.zero_le _⟩ (Nat.le_of_ble_eq_true rfl) dX11_at_36 (fun H locs w => ?_)
    obtain ⟨r7, S6, hc, h⟩ := bnd_t h
    refine s_cvi (pc := 39) [.int r5] (fun ad => [.ref (ad 63), .int r5]) F w (m_State_standsAt _ _ _ _ hc) rfl rfl hl.1 ds_63 vc_X8 rfl ok_X8_standsAt rfl kc_X8_standsAt kl_X11_150 ki_X8_standsAt kv_X8_standsAt kn_X8 ⟨Nat.le_trans (by decide) hR1, Nat.le_trans (by decide) hR2⟩ ⟨Nat.zero_le _, Nat.zero_le _⟩ (Nat.le_of_ble_eq_true rfl) dX11_at_39 (fun H locs w => ?_)
    exact s_iret F w h dX11_at_42
  · have h := ite_f q h
    refine lv_aload_n (pc := 21) hx hb dX11_at_21 rfl (lv_at hl 1 rfl) ?_
    refine s_getR (pc := 22) F w 62 ds_61 (j := 0) vc_X11 vi_X11 rfl (by decide) kf_X11_10 dX11_at_22 ?_
    refine lv_iload_n (pc := 25) hx hb dX11_at_25 rfl (lv_at hl 0 rfl) ?_
    obtain ⟨r9, S8, hc, h⟩ := bnd_t h
    refine s_cvi (pc := 26) [.int r3] (fun ad => [.ref (ad 62), .int r3]) F w (m_Report_found _ _ _ _ hc) rfl rfl hl.1 ds_62 vc_X5 rfl ok_X5_found rfl kc_X5_found kl_X11_98 ki_X5_found kv_X5_found kn_X5 ⟨Nat.le_trans (by decide) hR1, Nat.le_trans (by decide) hR2⟩ ⟨Nat.zero_le _, Nat.zero_le _⟩ (Nat.le_of_ble_eq_true rfl) dX11_at_26 (fun H locs w => ?_)
    exact s_iret F w h dX11_at_29
def f_Yard_thing (a1 : Int32) (a2 : Int32) (S : SS) : Option (Int32 × SS) :=
  bnd (f_Yard_isNot a2 (0 : Int32) (10 : Int32) S) (fun r2 S1 =>
  if r2 = 0 then
    bndv (f_Report_begin  S1) (fun S3 =>
    bnd (f_Yard_named a1 (127 : Int32) S3) (fun r5 S4 =>
    if r5 = 0 then
      if a2 = (0 : Int32) then
        bnd (f_Stock_get a1 (0 : Int32) S4) (fun r7 S6 =>
        some (r7, S6))
      else
      if a2 = (1 : Int32) then
        bnd (f_State_get a1 (0 : Int32) S4) (fun r9 S8 =>
        bnd (f_Layout_trackOf r9 S8) (fun r11 S10 =>
        some (r11, S10)))
      else
      if a2 = (2 : Int32) then
        bnd (f_State_get a1 (0 : Int32) S4) (fun r13 S12 =>
        bnd (f_Layout_placeOf r13 S12) (fun r15 S14 =>
        some (r15, S14)))
      else
      if a2 = (3 : Int32) then
        bnd (f_State_get a1 (1 : Int32) S4) (fun r17 S16 =>
        some (r17, S16))
      else
      if a2 = (4 : Int32) then
        bnd (f_State_get a1 (2 : Int32) S4) (fun r19 S18 =>
        some (r19, S18))
      else
      if a2 = (5 : Int32) then
        bnd (f_State_get a1 (3 : Int32) S4) (fun r21 S20 =>
        some (r21, S20))
      else
      if a2 = (6 : Int32) then
        bnd (f_State_get a1 (4 : Int32) S4) (fun r23 S22 =>
        some (r23, S22))
      else
      if a2 = (7 : Int32) then
        bnd (f_State_get a1 (5 : Int32) S4) (fun r25 S24 =>
        some (r25, S24))
      else
      if a2 = (8 : Int32) then
        bnd (f_State_get a1 (6 : Int32) S4) (fun r27 S26 =>
        some (r27, S26))
      else
      if a2 = (9 : Int32) then
        bnd (f_State_get a1 (8 : Int32) S4) (fun r29 S28 =>
        some (r29, S28))
      else
      bnd (f_State_get a1 (10 : Int32) S4) (fun r31 S30 =>
      some (r31, S30))
    else
      bnd (f_Report_found r5 S4) (fun r33 S32 =>
      some (r33, S32))))
  else
    some ((-1 : Int32), S1))
theorem dX11_thing_0 : decode cX11_thing 0 = .ok (.iload_n 2, 1) := dc_28 (by decide +kernel)
theorem dX11_thing_1 : decode cX11_thing 1 = .ok (.iconst 0, 1) := dc_3 (by decide +kernel)
theorem dX11_thing_2 : decode cX11_thing 2 = .ok (.bipush 10, 2) := dc_16 (a := 10) (by decide +kernel) (by decide)
theorem dX11_thing_4 : decode cX11_thing 4 = .ok (.invokestatic 108, 3) := dc_184 (a := 0) (b := 108) (by decide +kernel)
theorem dX11_thing_7 : decode cX11_thing 7 = .ok (.ifCond .eq 5, 3) := dc_153 (a := 0) (b := 5) (by decide +kernel) (by decide)
theorem dX11_thing_10 : decode cX11_thing 10 = .ok (.iconst (-1), 1) := dc_2 (by decide +kernel)
theorem dX11_thing_11 : decode cX11_thing 11 = .ok (.ireturn, 1) := dc_172 (by decide +kernel)
theorem dX11_thing_12 : decode cX11_thing 12 = .ok (.aload_n 0, 1) := dc_42 (by decide +kernel)
theorem dX11_thing_13 : decode cX11_thing 13 = .ok (.getfield 10, 3) := dc_180 (a := 0) (b := 10) (by decide +kernel)
theorem dX11_thing_16 : decode cX11_thing 16 = .ok (.invokevirtual 95, 3) := dc_182 (a := 0) (b := 95) (by decide +kernel)
theorem dX11_thing_19 : decode cX11_thing 19 = .ok (.aload_n 0, 1) := dc_42 (by decide +kernel)
theorem dX11_thing_20 : decode cX11_thing 20 = .ok (.iload_n 1, 1) := dc_27 (by decide +kernel)
theorem dX11_thing_21 : decode cX11_thing 21 = .ok (.bipush 127, 2) := dc_16 (a := 127) (by decide +kernel) (by decide)
theorem dX11_thing_23 : decode cX11_thing 23 = .ok (.invokevirtual 185, 3) := dc_182 (a := 0) (b := 185) (by decide +kernel)
theorem dX11_thing_26 : decode cX11_thing 26 = .ok (.istore_n 3, 1) := dc_62 (by decide +kernel)
theorem dX11_thing_27 : decode cX11_thing 27 = .ok (.iload_n 3, 1) := dc_29 (by decide +kernel)
theorem dX11_thing_28 : decode cX11_thing 28 = .ok (.ifCond .eq 12, 3) := dc_153 (a := 0) (b := 12) (by decide +kernel) (by decide)
theorem dX11_thing_31 : decode cX11_thing 31 = .ok (.aload_n 0, 1) := dc_42 (by decide +kernel)
theorem dX11_thing_32 : decode cX11_thing 32 = .ok (.getfield 10, 3) := dc_180 (a := 0) (b := 10) (by decide +kernel)
theorem dX11_thing_35 : decode cX11_thing 35 = .ok (.iload_n 3, 1) := dc_29 (by decide +kernel)
theorem dX11_thing_36 : decode cX11_thing 36 = .ok (.invokevirtual 98, 3) := dc_182 (a := 0) (b := 98) (by decide +kernel)
theorem dX11_thing_39 : decode cX11_thing 39 = .ok (.ireturn, 1) := dc_172 (by decide +kernel)
theorem dX11_thing_40 : decode cX11_thing 40 = .ok (.iload_n 2, 1) := dc_28 (by decide +kernel)
theorem dX11_thing_41 : decode cX11_thing 41 = .ok (.tableswitch 163 0 9 #[55, 65, 78, 91, 101, 111, 121, 131, 141, 152], 55) := by decide +kernel
theorem dX11_thing_96 : decode cX11_thing 96 = .ok (.aload_n 0, 1) := dc_42 (by decide +kernel)
theorem dX11_thing_97 : decode cX11_thing 97 = .ok (.getfield 33, 3) := dc_180 (a := 0) (b := 33) (by decide +kernel)
theorem dX11_thing_100 : decode cX11_thing 100 = .ok (.iload_n 1, 1) := dc_27 (by decide +kernel)
theorem dX11_thing_101 : decode cX11_thing 101 = .ok (.iconst 0, 1) := dc_3 (by decide +kernel)
theorem dX11_thing_102 : decode cX11_thing 102 = .ok (.invokevirtual 335, 3) := dc_182 (a := 1) (b := 79) (by decide +kernel)
theorem dX11_thing_105 : decode cX11_thing 105 = .ok (.ireturn, 1) := dc_172 (by decide +kernel)
theorem dX11_thing_106 : decode cX11_thing 106 = .ok (.aload_n 0, 1) := dc_42 (by decide +kernel)
theorem dX11_thing_107 : decode cX11_thing 107 = .ok (.getfield 19, 3) := dc_180 (a := 0) (b := 19) (by decide +kernel)
theorem dX11_thing_110 : decode cX11_thing 110 = .ok (.iload_n 1, 1) := dc_27 (by decide +kernel)
theorem dX11_thing_111 : decode cX11_thing 111 = .ok (.iconst 0, 1) := dc_3 (by decide +kernel)
theorem dX11_thing_112 : decode cX11_thing 112 = .ok (.invokevirtual 253, 3) := dc_182 (a := 0) (b := 253) (by decide +kernel)
theorem dX11_thing_115 : decode cX11_thing 115 = .ok (.invokestatic 336, 3) := dc_184 (a := 1) (b := 80) (by decide +kernel)
theorem dX11_thing_118 : decode cX11_thing 118 = .ok (.ireturn, 1) := dc_172 (by decide +kernel)
theorem dX11_thing_119 : decode cX11_thing 119 = .ok (.aload_n 0, 1) := dc_42 (by decide +kernel)
theorem dX11_thing_120 : decode cX11_thing 120 = .ok (.getfield 19, 3) := dc_180 (a := 0) (b := 19) (by decide +kernel)
theorem dX11_thing_123 : decode cX11_thing 123 = .ok (.iload_n 1, 1) := dc_27 (by decide +kernel)
theorem dX11_thing_124 : decode cX11_thing 124 = .ok (.iconst 0, 1) := dc_3 (by decide +kernel)
theorem dX11_thing_125 : decode cX11_thing 125 = .ok (.invokevirtual 253, 3) := dc_182 (a := 0) (b := 253) (by decide +kernel)
theorem dX11_thing_128 : decode cX11_thing 128 = .ok (.invokestatic 339, 3) := dc_184 (a := 1) (b := 83) (by decide +kernel)
theorem dX11_thing_131 : decode cX11_thing 131 = .ok (.ireturn, 1) := dc_172 (by decide +kernel)
theorem dX11_thing_132 : decode cX11_thing 132 = .ok (.aload_n 0, 1) := dc_42 (by decide +kernel)
theorem dX11_thing_133 : decode cX11_thing 133 = .ok (.getfield 19, 3) := dc_180 (a := 0) (b := 19) (by decide +kernel)
theorem dX11_thing_136 : decode cX11_thing 136 = .ok (.iload_n 1, 1) := dc_27 (by decide +kernel)
theorem dX11_thing_137 : decode cX11_thing 137 = .ok (.iconst 1, 1) := dc_4 (by decide +kernel)
theorem dX11_thing_138 : decode cX11_thing 138 = .ok (.invokevirtual 253, 3) := dc_182 (a := 0) (b := 253) (by decide +kernel)
theorem dX11_thing_141 : decode cX11_thing 141 = .ok (.ireturn, 1) := dc_172 (by decide +kernel)
theorem dX11_thing_142 : decode cX11_thing 142 = .ok (.aload_n 0, 1) := dc_42 (by decide +kernel)
theorem dX11_thing_143 : decode cX11_thing 143 = .ok (.getfield 19, 3) := dc_180 (a := 0) (b := 19) (by decide +kernel)
theorem dX11_thing_146 : decode cX11_thing 146 = .ok (.iload_n 1, 1) := dc_27 (by decide +kernel)
theorem dX11_thing_147 : decode cX11_thing 147 = .ok (.iconst 2, 1) := dc_5 (by decide +kernel)
theorem dX11_thing_148 : decode cX11_thing 148 = .ok (.invokevirtual 253, 3) := dc_182 (a := 0) (b := 253) (by decide +kernel)
theorem dX11_thing_151 : decode cX11_thing 151 = .ok (.ireturn, 1) := dc_172 (by decide +kernel)
theorem dX11_thing_152 : decode cX11_thing 152 = .ok (.aload_n 0, 1) := dc_42 (by decide +kernel)
theorem dX11_thing_153 : decode cX11_thing 153 = .ok (.getfield 19, 3) := dc_180 (a := 0) (b := 19) (by decide +kernel)
theorem dX11_thing_156 : decode cX11_thing 156 = .ok (.iload_n 1, 1) := dc_27 (by decide +kernel)
theorem dX11_thing_157 : decode cX11_thing 157 = .ok (.iconst 3, 1) := dc_6 (by decide +kernel)
theorem dX11_thing_158 : decode cX11_thing 158 = .ok (.invokevirtual 253, 3) := dc_182 (a := 0) (b := 253) (by decide +kernel)
theorem dX11_thing_161 : decode cX11_thing 161 = .ok (.ireturn, 1) := dc_172 (by decide +kernel)
theorem dX11_thing_162 : decode cX11_thing 162 = .ok (.aload_n 0, 1) := dc_42 (by decide +kernel)
theorem dX11_thing_163 : decode cX11_thing 163 = .ok (.getfield 19, 3) := dc_180 (a := 0) (b := 19) (by decide +kernel)
theorem dX11_thing_166 : decode cX11_thing 166 = .ok (.iload_n 1, 1) := dc_27 (by decide +kernel)
theorem dX11_thing_167 : decode cX11_thing 167 = .ok (.iconst 4, 1) := dc_7 (by decide +kernel)
theorem dX11_thing_168 : decode cX11_thing 168 = .ok (.invokevirtual 253, 3) := dc_182 (a := 0) (b := 253) (by decide +kernel)
theorem dX11_thing_171 : decode cX11_thing 171 = .ok (.ireturn, 1) := dc_172 (by decide +kernel)
theorem dX11_thing_172 : decode cX11_thing 172 = .ok (.aload_n 0, 1) := dc_42 (by decide +kernel)
theorem dX11_thing_173 : decode cX11_thing 173 = .ok (.getfield 19, 3) := dc_180 (a := 0) (b := 19) (by decide +kernel)
theorem dX11_thing_176 : decode cX11_thing 176 = .ok (.iload_n 1, 1) := dc_27 (by decide +kernel)
theorem dX11_thing_177 : decode cX11_thing 177 = .ok (.iconst 5, 1) := dc_8 (by decide +kernel)
theorem dX11_thing_178 : decode cX11_thing 178 = .ok (.invokevirtual 253, 3) := dc_182 (a := 0) (b := 253) (by decide +kernel)
theorem dX11_thing_181 : decode cX11_thing 181 = .ok (.ireturn, 1) := dc_172 (by decide +kernel)
theorem dX11_thing_182 : decode cX11_thing 182 = .ok (.aload_n 0, 1) := dc_42 (by decide +kernel)
theorem dX11_thing_183 : decode cX11_thing 183 = .ok (.getfield 19, 3) := dc_180 (a := 0) (b := 19) (by decide +kernel)
theorem dX11_thing_186 : decode cX11_thing 186 = .ok (.iload_n 1, 1) := dc_27 (by decide +kernel)
theorem dX11_thing_187 : decode cX11_thing 187 = .ok (.bipush 6, 2) := dc_16 (a := 6) (by decide +kernel) (by decide)
theorem dX11_thing_189 : decode cX11_thing 189 = .ok (.invokevirtual 253, 3) := dc_182 (a := 0) (b := 253) (by decide +kernel)
theorem dX11_thing_192 : decode cX11_thing 192 = .ok (.ireturn, 1) := dc_172 (by decide +kernel)
theorem dX11_thing_193 : decode cX11_thing 193 = .ok (.aload_n 0, 1) := dc_42 (by decide +kernel)
theorem dX11_thing_194 : decode cX11_thing 194 = .ok (.getfield 19, 3) := dc_180 (a := 0) (b := 19) (by decide +kernel)
theorem dX11_thing_197 : decode cX11_thing 197 = .ok (.iload_n 1, 1) := dc_27 (by decide +kernel)
theorem dX11_thing_198 : decode cX11_thing 198 = .ok (.bipush 8, 2) := dc_16 (a := 8) (by decide +kernel) (by decide)
theorem dX11_thing_200 : decode cX11_thing 200 = .ok (.invokevirtual 253, 3) := dc_182 (a := 0) (b := 253) (by decide +kernel)
theorem dX11_thing_203 : decode cX11_thing 203 = .ok (.ireturn, 1) := dc_172 (by decide +kernel)
theorem dX11_thing_204 : decode cX11_thing 204 = .ok (.aload_n 0, 1) := dc_42 (by decide +kernel)
theorem dX11_thing_205 : decode cX11_thing 205 = .ok (.getfield 19, 3) := dc_180 (a := 0) (b := 19) (by decide +kernel)
theorem dX11_thing_208 : decode cX11_thing 208 = .ok (.iload_n 1, 1) := dc_27 (by decide +kernel)
theorem dX11_thing_209 : decode cX11_thing 209 = .ok (.bipush 10, 2) := dc_16 (a := 10) (by decide +kernel) (by decide)
theorem dX11_thing_211 : decode cX11_thing 211 = .ok (.invokevirtual 253, 3) := dc_182 (a := 0) (b := 253) (by decide +kernel)
theorem dX11_thing_214 : decode cX11_thing 214 = .ok (.ireturn, 1) := dc_172 (by decide +kernel)
set_option maxRecDepth 100000 in
set_option maxHeartbeats 4000000 in
theorem m_Yard_thing (a1 : Int32) (a2 : Int32) (S S' : SS) (r : Int32) (h : f_Yard_thing a1 a2 S = some (r, S')) : MT yX11_thing cX11_thing 4 (some .int) 3 67 (fun ad => [.ref (ad 61), .int a1, .int a2]) S (some (.int r)) S' := by
  refine MT.of RX11 (fun ad => [(0, .ref (ad 61)), (1, .int a1), (2, .int a2)]) (by decide) rfl (fun _ => Nat.le_of_ble_eq_true rfl) (fun _ => rfl) ?_
  intro p l e R s m args below meth c dC dI cs ad A hR1 hR2 F H locs ls w hl
  have hx := F.1.1
  have hb := F.1.2.1
  rw [f_Yard_thing] at h
  refine lv_iload_n (pc := 0) hx hb dX11_thing_0 rfl (lv_at hl 2 rfl) ?_
  refine lv_iconst (pc := 1) (v := 0) hx hb dX11_thing_1 (by decide) ?_
  refine lv_bipush (pc := 2) (v := 10) hx hb dX11_thing_2 (by decide) ?_
  obtain ⟨r2, S1, hc, h⟩ := bnd_t h
  refine s_csi (pc := 4) [.int a2, .int (0 : Int32), .int (10 : Int32)] (fun ad => [.int a2, .int (0 : Int32), .int (10 : Int32)]) F w (m_Yard_isNot _ _ _ _ _ _ hc) rfl rfl hl.1 ok_X11_isNot rfl kc_X11_isNot kl_X11_108 ks_X11_isNot kn_X11 ⟨Nat.le_trans (by decide) hR1, Nat.le_trans (by decide) hR2⟩ ⟨Nat.zero_le _, Nat.zero_le _⟩ (Nat.le_of_ble_eq_true rfl) dX11_thing_4 (fun H locs w => ?_)
  refine lv_if_eq (pc := 7) (tgt := 12) hx hb dX11_thing_7 (by decide) (fun q => ?_) (fun q => ?_)
  · have h := ite_t q h
    refine lv_aload_n (pc := 12) hx hb dX11_thing_12 rfl (lv_at hl 0 rfl) ?_
    refine s_getR (pc := 13) F w 62 ds_61 (j := 0) vc_X11 vi_X11 rfl (by decide) kf_X11_10 dX11_thing_13 ?_
    obtain ⟨S3, hc, h⟩ := bndv_t h
    refine s_cvv (pc := 16) [] (fun ad => [.ref (ad 62)]) F w (m_Report_begin  _ _ hc) rfl rfl hl.1 ds_62 vc_X5 rfl ok_X5_begin rfl kc_X5_begin kl_X11_95 ki_X5_begin kv_X5_begin kn_X5 ⟨Nat.le_trans (by decide) hR1, Nat.le_trans (by decide) hR2⟩ ⟨Nat.zero_le _, Nat.zero_le _⟩ (Nat.le_of_ble_eq_true rfl) dX11_thing_16 (fun H locs w => ?_)
    refine lv_aload_n (pc := 19) hx hb dX11_thing_19 rfl (lv_at hl 0 rfl) ?_
    refine lv_iload_n (pc := 20) hx hb dX11_thing_20 rfl (lv_at hl 1 rfl) ?_
    refine lv_bipush (pc := 21) (v := 127) hx hb dX11_thing_21 (by decide) ?_
    obtain ⟨r5, S4, hc, h⟩ := bnd_t h
    refine s_cvi (pc := 23) [.int a1, .int (127 : Int32)] (fun ad => [.ref (ad 61), .int a1, .int (127 : Int32)]) F w (m_Yard_named _ _ _ _ _ hc) rfl rfl hl.1 ds_61 vc_X11 rfl ok_X11_named rfl kc_X11_named kl_X11_185 ki_X11_named kv_X11_named kn_X11 ⟨Nat.le_trans (by decide) hR1, Nat.le_trans (by decide) hR2⟩ ⟨Nat.zero_le _, Nat.zero_le _⟩ (Nat.le_of_ble_eq_true rfl) dX11_thing_23 (fun H locs w => ?_)
    refine lv_istore_n (pc := 26) (lv' := [(3, .int r5), (0, .ref (ad 61)), (1, .int a1), (2, .int a2)]) hx hb dX11_thing_26 rfl hl (by decide) rfl (fun ls hl => ?_)
    refine lv_iload_n (pc := 27) hx hb dX11_thing_27 rfl (lv_at hl 0 rfl) ?_
    refine lv_if_eq (pc := 28) (tgt := 40) hx hb dX11_thing_28 (by decide) (fun q => ?_) (fun q => ?_)
    · have h := ite_t q h
      refine lv_iload_n (pc := 40) hx hb dX11_thing_40 rfl (lv_at hl 3 rfl) ?_
      rcases Decidable.em (a2 = (0 : Int32)) with q0 | q0
      · refine lv_tableIn (pc := 41) (tgt := 96) (off := 55) hx hb dX11_thing_41 (by rw [q0]; decide) (by rw [q0]; decide) (by rw [q0]; rfl) (by decide) ?_
        have h := ite_t q0 h
        refine lv_aload_n (pc := 96) hx hb dX11_thing_96 rfl (lv_at hl 1 rfl) ?_
        refine s_getR (pc := 97) F w 65 ds_61 (j := 3) vc_X11 vi_X11 rfl (by decide) kf_X11_33 dX11_thing_97 ?_
        refine lv_iload_n (pc := 100) hx hb dX11_thing_100 rfl (lv_at hl 2 rfl) ?_
        refine lv_iconst (pc := 101) (v := 0) hx hb dX11_thing_101 (by decide) ?_
        obtain ⟨r7, S6, hc, h⟩ := bnd_t h
        refine s_cvi (pc := 102) [.int a1, .int (0 : Int32)] (fun ad => [.ref (ad 65), .int a1, .int (0 : Int32)]) F w (m_Stock_get _ _ _ _ _ hc) rfl rfl hl.1 ds_65 vc_X9 rfl ok_X9_get rfl kc_X9_get kl_X11_335 ki_X9_get kv_X9_get kn_X9 ⟨Nat.le_trans (by decide) hR1, Nat.le_trans (by decide) hR2⟩ ⟨Nat.zero_le _, Nat.zero_le _⟩ (Nat.le_of_ble_eq_true rfl) dX11_thing_102 (fun H locs w => ?_)
        exact s_iret F w h dX11_thing_105
      have h := ite_f q0 h
      rcases Decidable.em (a2 = (1 : Int32)) with q1 | q1
      · refine lv_tableIn (pc := 41) (tgt := 106) (off := 65) hx hb dX11_thing_41 (by rw [q1]; decide) (by rw [q1]; decide) (by rw [q1]; rfl) (by decide) ?_
        have h := ite_t q1 h
        refine lv_aload_n (pc := 106) hx hb dX11_thing_106 rfl (lv_at hl 1 rfl) ?_
        refine s_getR (pc := 107) F w 63 ds_61 (j := 1) vc_X11 vi_X11 rfl (by decide) kf_X11_19 dX11_thing_107 ?_
        refine lv_iload_n (pc := 110) hx hb dX11_thing_110 rfl (lv_at hl 2 rfl) ?_
        refine lv_iconst (pc := 111) (v := 0) hx hb dX11_thing_111 (by decide) ?_
        obtain ⟨r9, S8, hc, h⟩ := bnd_t h
        refine s_cvi (pc := 112) [.int a1, .int (0 : Int32)] (fun ad => [.ref (ad 63), .int a1, .int (0 : Int32)]) F w (m_State_get _ _ _ _ _ hc) rfl rfl hl.1 ds_63 vc_X8 rfl ok_X8_get rfl kc_X8_get kl_X11_253 ki_X8_get kv_X8_get kn_X8 ⟨Nat.le_trans (by decide) hR1, Nat.le_trans (by decide) hR2⟩ ⟨Nat.zero_le _, Nat.zero_le _⟩ (Nat.le_of_ble_eq_true rfl) dX11_thing_112 (fun H locs w => ?_)
        obtain ⟨r11, S10, hc, h⟩ := bnd_t h
        refine s_csi (pc := 115) [.int r9] (fun ad => [.int r9]) F w (m_Layout_trackOf _ _ _ _ hc) rfl rfl hl.1 ok_X2_trackOf rfl kc_X2_trackOf kl_X11_336 ks_X2_trackOf kn_X2 ⟨Nat.le_trans (by decide) hR1, Nat.le_trans (by decide) hR2⟩ ⟨Nat.zero_le _, Nat.zero_le _⟩ (Nat.le_of_ble_eq_true rfl) dX11_thing_115 (fun H locs w => ?_)
        exact s_iret F w h dX11_thing_118
      have h := ite_f q1 h
      rcases Decidable.em (a2 = (2 : Int32)) with q2 | q2
      · refine lv_tableIn (pc := 41) (tgt := 119) (off := 78) hx hb dX11_thing_41 (by rw [q2]; decide) (by rw [q2]; decide) (by rw [q2]; rfl) (by decide) ?_
        have h := ite_t q2 h
        refine lv_aload_n (pc := 119) hx hb dX11_thing_119 rfl (lv_at hl 1 rfl) ?_
        refine s_getR (pc := 120) F w 63 ds_61 (j := 1) vc_X11 vi_X11 rfl (by decide) kf_X11_19 dX11_thing_120 ?_
        refine lv_iload_n (pc := 123) hx hb dX11_thing_123 rfl (lv_at hl 2 rfl) ?_
        refine lv_iconst (pc := 124) (v := 0) hx hb dX11_thing_124 (by decide) ?_
        obtain ⟨r13, S12, hc, h⟩ := bnd_t h
        refine s_cvi (pc := 125) [.int a1, .int (0 : Int32)] (fun ad => [.ref (ad 63), .int a1, .int (0 : Int32)]) F w (m_State_get _ _ _ _ _ hc) rfl rfl hl.1 ds_63 vc_X8 rfl ok_X8_get rfl kc_X8_get kl_X11_253 ki_X8_get kv_X8_get kn_X8 ⟨Nat.le_trans (by decide) hR1, Nat.le_trans (by decide) hR2⟩ ⟨Nat.zero_le _, Nat.zero_le _⟩ (Nat.le_of_ble_eq_true rfl) dX11_thing_125 (fun H locs w => ?_)
        obtain ⟨r15, S14, hc, h⟩ := bnd_t h
        refine s_csi (pc := 128) [.int r13] (fun ad => [.int r13]) F w (m_Layout_placeOf _ _ _ _ hc) rfl rfl hl.1 ok_X2_placeOf rfl kc_X2_placeOf kl_X11_339 ks_X2_placeOf kn_X2 ⟨Nat.le_trans (by decide) hR1, Nat.le_trans (by decide) hR2⟩ ⟨Nat.zero_le _, Nat.zero_le _⟩ (Nat.le_of_ble_eq_true rfl) dX11_thing_128 (fun H locs w => ?_)
        exact s_iret F w h dX11_thing_131
      have h := ite_f q2 h
      rcases Decidable.em (a2 = (3 : Int32)) with q3 | q3
      · refine lv_tableIn (pc := 41) (tgt := 132) (off := 91) hx hb dX11_thing_41 (by rw [q3]; decide) (by rw [q3]; decide) (by rw [q3]; rfl) (by decide) ?_
        have h := ite_t q3 h
        refine lv_aload_n (pc := 132) hx hb dX11_thing_132 rfl (lv_at hl 1 rfl) ?_
        refine s_getR (pc := 133) F w 63 ds_61 (j := 1) vc_X11 vi_X11 rfl (by decide) kf_X11_19 dX11_thing_133 ?_
        refine lv_iload_n (pc := 136) hx hb dX11_thing_136 rfl (lv_at hl 2 rfl) ?_
        refine lv_iconst (pc := 137) (v := 1) hx hb dX11_thing_137 (by decide) ?_
        obtain ⟨r17, S16, hc, h⟩ := bnd_t h
        refine s_cvi (pc := 138) [.int a1, .int (1 : Int32)] (fun ad => [.ref (ad 63), .int a1, .int (1 : Int32)]) F w (m_State_get _ _ _ _ _ hc) rfl rfl hl.1 ds_63 vc_X8 rfl ok_X8_get rfl kc_X8_get kl_X11_253 ki_X8_get kv_X8_get kn_X8 ⟨Nat.le_trans (by decide) hR1, Nat.le_trans (by decide) hR2⟩ ⟨Nat.zero_le _, Nat.zero_le _⟩ (Nat.le_of_ble_eq_true rfl) dX11_thing_138 (fun H locs w => ?_)
        exact s_iret F w h dX11_thing_141
      have h := ite_f q3 h
      rcases Decidable.em (a2 = (4 : Int32)) with q4 | q4
      · refine lv_tableIn (pc := 41) (tgt := 142) (off := 101) hx hb dX11_thing_41 (by rw [q4]; decide) (by rw [q4]; decide) (by rw [q4]; rfl) (by decide) ?_
        have h := ite_t q4 h
        refine lv_aload_n (pc := 142) hx hb dX11_thing_142 rfl (lv_at hl 1 rfl) ?_
        refine s_getR (pc := 143) F w 63 ds_61 (j := 1) vc_X11 vi_X11 rfl (by decide) kf_X11_19 dX11_thing_143 ?_
        refine lv_iload_n (pc := 146) hx hb dX11_thing_146 rfl (lv_at hl 2 rfl) ?_
        refine lv_iconst (pc := 147) (v := 2) hx hb dX11_thing_147 (by decide) ?_
        obtain ⟨r19, S18, hc, h⟩ := bnd_t h
        refine s_cvi (pc := 148) [.int a1, .int (2 : Int32)] (fun ad => [.ref (ad 63), .int a1, .int (2 : Int32)]) F w (m_State_get _ _ _ _ _ hc) rfl rfl hl.1 ds_63 vc_X8 rfl ok_X8_get rfl kc_X8_get kl_X11_253 ki_X8_get kv_X8_get kn_X8 ⟨Nat.le_trans (by decide) hR1, Nat.le_trans (by decide) hR2⟩ ⟨Nat.zero_le _, Nat.zero_le _⟩ (Nat.le_of_ble_eq_true rfl) dX11_thing_148 (fun H locs w => ?_)
        exact s_iret F w h dX11_thing_151
      have h := ite_f q4 h
      rcases Decidable.em (a2 = (5 : Int32)) with q5 | q5
      · refine lv_tableIn (pc := 41) (tgt := 152) (off := 111) hx hb dX11_thing_41 (by rw [q5]; decide) (by rw [q5]; decide) (by rw [q5]; rfl) (by decide) ?_
        have h := ite_t q5 h
        refine lv_aload_n (pc := 152) hx hb dX11_thing_152 rfl (lv_at hl 1 rfl) ?_
        refine s_getR (pc := 153) F w 63 ds_61 (j := 1) vc_X11 vi_X11 rfl (by decide) kf_X11_19 dX11_thing_153 ?_
        refine lv_iload_n (pc := 156) hx hb dX11_thing_156 rfl (lv_at hl 2 rfl) ?_
        refine lv_iconst (pc := 157) (v := 3) hx hb dX11_thing_157 (by decide) ?_
        obtain ⟨r21, S20, hc, h⟩ := bnd_t h
        refine s_cvi (pc := 158) [.int a1, .int (3 : Int32)] (fun ad => [.ref (ad 63), .int a1, .int (3 : Int32)]) F w (m_State_get _ _ _ _ _ hc) rfl rfl hl.1 ds_63 vc_X8 rfl ok_X8_get rfl kc_X8_get kl_X11_253 ki_X8_get kv_X8_get kn_X8 ⟨Nat.le_trans (by decide) hR1, Nat.le_trans (by decide) hR2⟩ ⟨Nat.zero_le _, Nat.zero_le _⟩ (Nat.le_of_ble_eq_true rfl) dX11_thing_158 (fun H locs w => ?_)
        exact s_iret F w h dX11_thing_161
      have h := ite_f q5 h
      rcases Decidable.em (a2 = (6 : Int32)) with q6 | q6
      · refine lv_tableIn (pc := 41) (tgt := 162) (off := 121) hx hb dX11_thing_41 (by rw [q6]; decide) (by rw [q6]; decide) (by rw [q6]; rfl) (by decide) ?_
        have h := ite_t q6 h
        refine lv_aload_n (pc := 162) hx hb dX11_thing_162 rfl (lv_at hl 1 rfl) ?_
        refine s_getR (pc := 163) F w 63 ds_61 (j := 1) vc_X11 vi_X11 rfl (by decide) kf_X11_19 dX11_thing_163 ?_
        refine lv_iload_n (pc := 166) hx hb dX11_thing_166 rfl (lv_at hl 2 rfl) ?_
        refine lv_iconst (pc := 167) (v := 4) hx hb dX11_thing_167 (by decide) ?_
        obtain ⟨r23, S22, hc, h⟩ := bnd_t h
        refine s_cvi (pc := 168) [.int a1, .int (4 : Int32)] (fun ad => [.ref (ad 63), .int a1, .int (4 : Int32)]) F w (m_State_get _ _ _ _ _ hc) rfl rfl hl.1 ds_63 vc_X8 rfl ok_X8_get rfl kc_X8_get kl_X11_253 ki_X8_get kv_X8_get kn_X8 ⟨Nat.le_trans (by decide) hR1, Nat.le_trans (by decide) hR2⟩ ⟨Nat.zero_le _, Nat.zero_le _⟩ (Nat.le_of_ble_eq_true rfl) dX11_thing_168 (fun H locs w => ?_)
        exact s_iret F w h dX11_thing_171
      have h := ite_f q6 h
      rcases Decidable.em (a2 = (7 : Int32)) with q7 | q7
      · refine lv_tableIn (pc := 41) (tgt := 172) (off := 131) hx hb dX11_thing_41 (by rw [q7]; decide) (by rw [q7]; decide) (by rw [q7]; rfl) (by decide) ?_
        have h := ite_t q7 h
        refine lv_aload_n (pc := 172) hx hb dX11_thing_172 rfl (lv_at hl 1 rfl) ?_
        refine s_getR (pc := 173) F w 63 ds_61 (j := 1) vc_X11 vi_X11 rfl (by decide) kf_X11_19 dX11_thing_173 ?_
        refine lv_iload_n (pc := 176) hx hb dX11_thing_176 rfl (lv_at hl 2 rfl) ?_
        refine lv_iconst (pc := 177) (v := 5) hx hb dX11_thing_177 (by decide) ?_
        obtain ⟨r25, S24, hc, h⟩ := bnd_t h
        refine s_cvi (pc := 178) [.int a1, .int (5 : Int32)] (fun ad => [.ref (ad 63), .int a1, .int (5 : Int32)]) F w (m_State_get _ _ _ _ _ hc) rfl rfl hl.1 ds_63 vc_X8 rfl ok_X8_get rfl kc_X8_get kl_X11_253 ki_X8_get kv_X8_get kn_X8 ⟨Nat.le_trans (by decide) hR1, Nat.le_trans (by decide) hR2⟩ ⟨Nat.zero_le _, Nat.zero_le _⟩ (Nat.le_of_ble_eq_true rfl) dX11_thing_178 (fun H locs w => ?_)
        exact s_iret F w h dX11_thing_181
      have h := ite_f q7 h
      rcases Decidable.em (a2 = (8 : Int32)) with q8 | q8
      · refine lv_tableIn (pc := 41) (tgt := 182) (off := 141) hx hb dX11_thing_41 (by rw [q8]; decide) (by rw [q8]; decide) (by rw [q8]; rfl) (by decide) ?_
        have h := ite_t q8 h
        refine lv_aload_n (pc := 182) hx hb dX11_thing_182 rfl (lv_at hl 1 rfl) ?_
        refine s_getR (pc := 183) F w 63 ds_61 (j := 1) vc_X11 vi_X11 rfl (by decide) kf_X11_19 dX11_thing_183 ?_
        refine lv_iload_n (pc := 186) hx hb dX11_thing_186 rfl (lv_at hl 2 rfl) ?_
        refine lv_bipush (pc := 187) (v := 6) hx hb dX11_thing_187 (by decide) ?_
        obtain ⟨r27, S26, hc, h⟩ := bnd_t h
        refine s_cvi (pc := 189) [.int a1, .int (6 : Int32)] (fun ad => [.ref (ad 63), .int a1, .int (6 : Int32)]) F w (m_State_get _ _ _ _ _ hc) rfl rfl hl.1 ds_63 vc_X8 rfl ok_X8_get rfl kc_X8_get kl_X11_253 ki_X8_get kv_X8_get kn_X8 ⟨Nat.le_trans (by decide) hR1, Nat.le_trans (by decide) hR2⟩ ⟨Nat.zero_le _, Nat.zero_le _⟩ (Nat.le_of_ble_eq_true rfl) dX11_thing_189 (fun H locs w => ?_)
        exact s_iret F w h dX11_thing_192
      have h := ite_f q8 h
      rcases Decidable.em (a2 = (9 : Int32)) with q9 | q9
      · refine lv_tableIn (pc := 41) (tgt := 193) (off := 152) hx hb dX11_thing_41 (by rw [q9]; decide) (by rw [q9]; decide) (by rw [q9]; rfl) (by decide) ?_
        have h := ite_t q9 h
        refine lv_aload_n (pc := 193) hx hb dX11_thing_193 rfl (lv_at hl 1 rfl) ?_
        refine s_getR (pc := 194) F w 63 ds_61 (j := 1) vc_X11 vi_X11 rfl (by decide) kf_X11_19 dX11_thing_194 ?_
        refine lv_iload_n (pc := 197) hx hb dX11_thing_197 rfl (lv_at hl 2 rfl) ?_
        refine lv_bipush (pc := 198) (v := 8) hx hb dX11_thing_198 (by decide) ?_
        obtain ⟨r29, S28, hc, h⟩ := bnd_t h
        refine s_cvi (pc := 200) [.int a1, .int (8 : Int32)] (fun ad => [.ref (ad 63), .int a1, .int (8 : Int32)]) F w (m_State_get _ _ _ _ _ hc) rfl rfl hl.1 ds_63 vc_X8 rfl ok_X8_get rfl kc_X8_get kl_X11_253 ki_X8_get kv_X8_get kn_X8 ⟨Nat.le_trans (by decide) hR1, Nat.le_trans (by decide) hR2⟩ ⟨Nat.zero_le _, Nat.zero_le _⟩ (Nat.le_of_ble_eq_true rfl) dX11_thing_200 (fun H locs w => ?_)
        exact s_iret F w h dX11_thing_203
      have h := ite_f q9 h
      refine lv_tableOut (pc := 41) (tgt := 204) hx hb dX11_thing_41 (by have zq0 := i32ne q0 (show ((0 : Int32)).toInt = 0 by decide); have zq1 := i32ne q1 (show ((1 : Int32)).toInt = 1 by decide); have zq2 := i32ne q2 (show ((2 : Int32)).toInt = 2 by decide); have zq3 := i32ne q3 (show ((3 : Int32)).toInt = 3 by decide); have zq4 := i32ne q4 (show ((4 : Int32)).toInt = 4 by decide); have zq5 := i32ne q5 (show ((5 : Int32)).toInt = 5 by decide); have zq6 := i32ne q6 (show ((6 : Int32)).toInt = 6 by decide); have zq7 := i32ne q7 (show ((7 : Int32)).toInt = 7 by decide); have zq8 := i32ne q8 (show ((8 : Int32)).toInt = 8 by decide); have zq9 := i32ne q9 (show ((9 : Int32)).toInt = 9 by decide); omega) (by decide) ?_
      refine lv_aload_n (pc := 204) hx hb dX11_thing_204 rfl (lv_at hl 1 rfl) ?_
      refine s_getR (pc := 205) F w 63 ds_61 (j := 1) vc_X11 vi_X11 rfl (by decide) kf_X11_19 dX11_thing_205 ?_
      refine lv_iload_n (pc := 208) hx hb dX11_thing_208 rfl (lv_at hl 2 rfl) ?_
      refine lv_bipush (pc := 209) (v := 10) hx hb dX11_thing_209 (by decide) ?_
      obtain ⟨r31, S30, hc, h⟩ := bnd_t h
      refine s_cvi (pc := 211) [.int a1, .int (10 : Int32)] (fun ad => [.ref (ad 63), .int a1, .int (10 : Int32)]) F w (m_State_get _ _ _ _ _ hc) rfl rfl hl.1 ds_63 vc_X8 rfl ok_X8_get rfl kc_X8_get kl_X11_253 ki_X8_get kv_X8_get kn_X8 ⟨Nat.le_trans (by decide) hR1, Nat.le_trans (by decide) hR2⟩ ⟨Nat.zero_le _, Nat.zero_le _⟩ (Nat.le_of_ble_eq_true rfl) dX11_thing_211 (fun H locs w => ?_)
      exact s_iret F w h dX11_thing_214
    · have h := ite_f q h
      refine lv_aload_n (pc := 31) hx hb dX11_thing_31 rfl (lv_at hl 1 rfl) ?_
      refine s_getR (pc := 32) F w 62 ds_61 (j := 0) vc_X11 vi_X11 rfl (by decide) kf_X11_10 dX11_thing_32 ?_
      refine lv_iload_n (pc := 35) hx hb dX11_thing_35 rfl (lv_at hl 0 rfl) ?_
      obtain ⟨r33, S32, hc, h⟩ := bnd_t h
      refine s_cvi (pc := 36) [.int r5] (fun ad => [.ref (ad 62), .int r5]) F w (m_Report_found _ _ _ _ hc) rfl rfl hl.1 ds_62 vc_X5 rfl ok_X5_found rfl kc_X5_found kl_X11_98 ki_X5_found kv_X5_found kn_X5 ⟨Nat.le_trans (by decide) hR1, Nat.le_trans (by decide) hR2⟩ ⟨Nat.zero_le _, Nat.zero_le _⟩ (Nat.le_of_ble_eq_true rfl) dX11_thing_36 (fun H locs w => ?_)
      exact s_iret F w h dX11_thing_39
  · have h := ite_f q h
    refine lv_iconst (pc := 10) (v := -1) hx hb dX11_thing_10 (by decide) ?_
    exact s_iret F w h dX11_thing_11
def f_Yard_pointed (a1 : Int32) (a2 : Int32) (S : SS) : Option (Int32 × SS) :=
  bnd (f_Yard_isNot a2 (0 : Int32) (4 : Int32) S) (fun r2 S1 =>
  if r2 = 0 then
    bndv (f_Report_begin  S1) (fun S3 =>
    bnd (f_Layout_pointFinding a1 S3) (fun r5 S4 =>
    if r5 = 0 then
      bnd (f_Layout_endOf a1 S4) (fun r7 S6 =>
      if a2 = (0 : Int32) then
        some (r7 >>> ((1 : Int32) &&& 31), S6)
      else
      if a2 = (1 : Int32) then
        some (r7 &&& (1 : Int32), S6)
      else
      if a2 = (2 : Int32) then
        bnd (f_Layout_linksAt r7 S6) (fun r9 S8 =>
        some (r9, S8))
      else
      if a2 = (3 : Int32) then
        bnd (f_State_setting a1 S6) (fun r11 S10 =>
        some (r11, S10))
      else
      bnd (f_State_locker a1 S6) (fun r13 S12 =>
      some (r13, S12)))
    else
      bnd (f_Report_found r5 S4) (fun r15 S14 =>
      some (r15, S14))))
  else
    some ((-1 : Int32), S1))
theorem dX11_pointed_0 : decode cX11_pointed 0 = .ok (.iload_n 2, 1) := dc_28 (by decide +kernel)
theorem dX11_pointed_1 : decode cX11_pointed 1 = .ok (.iconst 0, 1) := dc_3 (by decide +kernel)
theorem dX11_pointed_2 : decode cX11_pointed 2 = .ok (.iconst 4, 1) := dc_7 (by decide +kernel)
theorem dX11_pointed_3 : decode cX11_pointed 3 = .ok (.invokestatic 108, 3) := dc_184 (a := 0) (b := 108) (by decide +kernel)
theorem dX11_pointed_6 : decode cX11_pointed 6 = .ok (.ifCond .eq 5, 3) := dc_153 (a := 0) (b := 5) (by decide +kernel) (by decide)
theorem dX11_pointed_9 : decode cX11_pointed 9 = .ok (.iconst (-1), 1) := dc_2 (by decide +kernel)
theorem dX11_pointed_10 : decode cX11_pointed 10 = .ok (.ireturn, 1) := dc_172 (by decide +kernel)
theorem dX11_pointed_11 : decode cX11_pointed 11 = .ok (.aload_n 0, 1) := dc_42 (by decide +kernel)
theorem dX11_pointed_12 : decode cX11_pointed 12 = .ok (.getfield 10, 3) := dc_180 (a := 0) (b := 10) (by decide +kernel)
theorem dX11_pointed_15 : decode cX11_pointed 15 = .ok (.invokevirtual 95, 3) := dc_182 (a := 0) (b := 95) (by decide +kernel)
theorem dX11_pointed_18 : decode cX11_pointed 18 = .ok (.aload_n 0, 1) := dc_42 (by decide +kernel)
theorem dX11_pointed_19 : decode cX11_pointed 19 = .ok (.getfield 42, 3) := dc_180 (a := 0) (b := 42) (by decide +kernel)
theorem dX11_pointed_22 : decode cX11_pointed 22 = .ok (.iload_n 1, 1) := dc_27 (by decide +kernel)
theorem dX11_pointed_23 : decode cX11_pointed 23 = .ok (.invokevirtual 175, 3) := dc_182 (a := 0) (b := 175) (by decide +kernel)
theorem dX11_pointed_26 : decode cX11_pointed 26 = .ok (.istore_n 3, 1) := dc_62 (by decide +kernel)
theorem dX11_pointed_27 : decode cX11_pointed 27 = .ok (.iload_n 3, 1) := dc_29 (by decide +kernel)
theorem dX11_pointed_28 : decode cX11_pointed 28 = .ok (.ifCond .eq 12, 3) := dc_153 (a := 0) (b := 12) (by decide +kernel) (by decide)
theorem dX11_pointed_31 : decode cX11_pointed 31 = .ok (.aload_n 0, 1) := dc_42 (by decide +kernel)
theorem dX11_pointed_32 : decode cX11_pointed 32 = .ok (.getfield 10, 3) := dc_180 (a := 0) (b := 10) (by decide +kernel)
theorem dX11_pointed_35 : decode cX11_pointed 35 = .ok (.iload_n 3, 1) := dc_29 (by decide +kernel)
theorem dX11_pointed_36 : decode cX11_pointed 36 = .ok (.invokevirtual 98, 3) := dc_182 (a := 0) (b := 98) (by decide +kernel)
theorem dX11_pointed_39 : decode cX11_pointed 39 = .ok (.ireturn, 1) := dc_172 (by decide +kernel)
theorem dX11_pointed_40 : decode cX11_pointed 40 = .ok (.aload_n 0, 1) := dc_42 (by decide +kernel)
theorem dX11_pointed_41 : decode cX11_pointed 41 = .ok (.getfield 42, 3) := dc_180 (a := 0) (b := 42) (by decide +kernel)
theorem dX11_pointed_44 : decode cX11_pointed 44 = .ok (.iload_n 1, 1) := dc_27 (by decide +kernel)
theorem dX11_pointed_45 : decode cX11_pointed 45 = .ok (.invokevirtual 342, 3) := dc_182 (a := 1) (b := 86) (by decide +kernel)
theorem dX11_pointed_48 : decode cX11_pointed 48 = .ok (.istore 4, 2) := dc_54 (a := 4) (by decide +kernel)
theorem dX11_pointed_50 : decode cX11_pointed 50 = .ok (.iload_n 2, 1) := dc_28 (by decide +kernel)
theorem dX11_pointed_51 : decode cX11_pointed 51 = .ok (.tableswitch 58 0 3 #[29, 34, 39, 49], 29) := by decide +kernel
theorem dX11_pointed_80 : decode cX11_pointed 80 = .ok (.iload 4, 2) := dc_21 (a := 4) (by decide +kernel)
theorem dX11_pointed_82 : decode cX11_pointed 82 = .ok (.iconst 1, 1) := dc_4 (by decide +kernel)
theorem dX11_pointed_83 : decode cX11_pointed 83 = .ok (.ishr, 1) := dc_122 (by decide +kernel)
theorem dX11_pointed_84 : decode cX11_pointed 84 = .ok (.ireturn, 1) := dc_172 (by decide +kernel)
theorem dX11_pointed_85 : decode cX11_pointed 85 = .ok (.iload 4, 2) := dc_21 (a := 4) (by decide +kernel)
theorem dX11_pointed_87 : decode cX11_pointed 87 = .ok (.iconst 1, 1) := dc_4 (by decide +kernel)
theorem dX11_pointed_88 : decode cX11_pointed 88 = .ok (.iand, 1) := dc_126 (by decide +kernel)
theorem dX11_pointed_89 : decode cX11_pointed 89 = .ok (.ireturn, 1) := dc_172 (by decide +kernel)
theorem dX11_pointed_90 : decode cX11_pointed 90 = .ok (.aload_n 0, 1) := dc_42 (by decide +kernel)
theorem dX11_pointed_91 : decode cX11_pointed 91 = .ok (.getfield 42, 3) := dc_180 (a := 0) (b := 42) (by decide +kernel)
theorem dX11_pointed_94 : decode cX11_pointed 94 = .ok (.iload 4, 2) := dc_21 (a := 4) (by decide +kernel)
theorem dX11_pointed_96 : decode cX11_pointed 96 = .ok (.invokevirtual 345, 3) := dc_182 (a := 1) (b := 89) (by decide +kernel)
theorem dX11_pointed_99 : decode cX11_pointed 99 = .ok (.ireturn, 1) := dc_172 (by decide +kernel)
theorem dX11_pointed_100 : decode cX11_pointed 100 = .ok (.aload_n 0, 1) := dc_42 (by decide +kernel)
theorem dX11_pointed_101 : decode cX11_pointed 101 = .ok (.getfield 19, 3) := dc_180 (a := 0) (b := 19) (by decide +kernel)
theorem dX11_pointed_104 : decode cX11_pointed 104 = .ok (.iload_n 1, 1) := dc_27 (by decide +kernel)
theorem dX11_pointed_105 : decode cX11_pointed 105 = .ok (.invokevirtual 348, 3) := dc_182 (a := 1) (b := 92) (by decide +kernel)
theorem dX11_pointed_108 : decode cX11_pointed 108 = .ok (.ireturn, 1) := dc_172 (by decide +kernel)
theorem dX11_pointed_109 : decode cX11_pointed 109 = .ok (.aload_n 0, 1) := dc_42 (by decide +kernel)
theorem dX11_pointed_110 : decode cX11_pointed 110 = .ok (.getfield 19, 3) := dc_180 (a := 0) (b := 19) (by decide +kernel)
theorem dX11_pointed_113 : decode cX11_pointed 113 = .ok (.iload_n 1, 1) := dc_27 (by decide +kernel)
theorem dX11_pointed_114 : decode cX11_pointed 114 = .ok (.invokevirtual 351, 3) := dc_182 (a := 1) (b := 95) (by decide +kernel)
theorem dX11_pointed_117 : decode cX11_pointed 117 = .ok (.ireturn, 1) := dc_172 (by decide +kernel)
set_option maxRecDepth 100000 in
set_option maxHeartbeats 4000000 in
theorem m_Yard_pointed (a1 : Int32) (a2 : Int32) (S S' : SS) (r : Int32) (h : f_Yard_pointed a1 a2 S = some (r, S')) : MT yX11_pointed cX11_pointed 5 (some .int) 1 22 (fun ad => [.ref (ad 61), .int a1, .int a2]) S (some (.int r)) S' := by
  refine MT.of RX11 (fun ad => [(0, .ref (ad 61)), (1, .int a1), (2, .int a2)]) (by decide) rfl (fun _ => Nat.le_of_ble_eq_true rfl) (fun _ => rfl) ?_
  intro p l e R s m args below meth c dC dI cs ad A hR1 hR2 F H locs ls w hl
  have hx := F.1.1
  have hb := F.1.2.1
  rw [f_Yard_pointed] at h
  refine lv_iload_n (pc := 0) hx hb dX11_pointed_0 rfl (lv_at hl 2 rfl) ?_
  refine lv_iconst (pc := 1) (v := 0) hx hb dX11_pointed_1 (by decide) ?_
  refine lv_iconst (pc := 2) (v := 4) hx hb dX11_pointed_2 (by decide) ?_
  obtain ⟨r2, S1, hc, h⟩ := bnd_t h
  refine s_csi (pc := 3) [.int a2, .int (0 : Int32), .int (4 : Int32)] (fun ad => [.int a2, .int (0 : Int32), .int (4 : Int32)]) F w (m_Yard_isNot _ _ _ _ _ _ hc) rfl rfl hl.1 ok_X11_isNot rfl kc_X11_isNot kl_X11_108 ks_X11_isNot kn_X11 ⟨Nat.le_trans (by decide) hR1, Nat.le_trans (by decide) hR2⟩ ⟨Nat.zero_le _, Nat.zero_le _⟩ (Nat.le_of_ble_eq_true rfl) dX11_pointed_3 (fun H locs w => ?_)
  refine lv_if_eq (pc := 6) (tgt := 11) hx hb dX11_pointed_6 (by decide) (fun q => ?_) (fun q => ?_)
  · have h := ite_t q h
    refine lv_aload_n (pc := 11) hx hb dX11_pointed_11 rfl (lv_at hl 0 rfl) ?_
    refine s_getR (pc := 12) F w 62 ds_61 (j := 0) vc_X11 vi_X11 rfl (by decide) kf_X11_10 dX11_pointed_12 ?_
    obtain ⟨S3, hc, h⟩ := bndv_t h
    refine s_cvv (pc := 15) [] (fun ad => [.ref (ad 62)]) F w (m_Report_begin  _ _ hc) rfl rfl hl.1 ds_62 vc_X5 rfl ok_X5_begin rfl kc_X5_begin kl_X11_95 ki_X5_begin kv_X5_begin kn_X5 ⟨Nat.le_trans (by decide) hR1, Nat.le_trans (by decide) hR2⟩ ⟨Nat.zero_le _, Nat.zero_le _⟩ (Nat.le_of_ble_eq_true rfl) dX11_pointed_15 (fun H locs w => ?_)
    refine lv_aload_n (pc := 18) hx hb dX11_pointed_18 rfl (lv_at hl 0 rfl) ?_
    refine s_getR (pc := 19) F w 66 ds_61 (j := 4) vc_X11 vi_X11 rfl (by decide) kf_X11_42 dX11_pointed_19 ?_
    refine lv_iload_n (pc := 22) hx hb dX11_pointed_22 rfl (lv_at hl 1 rfl) ?_
    obtain ⟨r5, S4, hc, h⟩ := bnd_t h
    refine s_cvi (pc := 23) [.int a1] (fun ad => [.ref (ad 66), .int a1]) F w (m_Layout_pointFinding _ _ _ _ hc) rfl rfl hl.1 ds_66 vc_X2 rfl ok_X2_pointFinding rfl kc_X2_pointFinding kl_X11_175 ki_X2_pointFinding kv_X2_pointFinding kn_X2 ⟨Nat.le_trans (by decide) hR1, Nat.le_trans (by decide) hR2⟩ ⟨Nat.zero_le _, Nat.zero_le _⟩ (Nat.le_of_ble_eq_true rfl) dX11_pointed_23 (fun H locs w => ?_)
    refine lv_istore_n (pc := 26) (lv' := [(3, .int r5), (0, .ref (ad 61)), (1, .int a1), (2, .int a2)]) hx hb dX11_pointed_26 rfl hl (by decide) rfl (fun ls hl => ?_)
    refine lv_iload_n (pc := 27) hx hb dX11_pointed_27 rfl (lv_at hl 0 rfl) ?_
    refine lv_if_eq (pc := 28) (tgt := 40) hx hb dX11_pointed_28 (by decide) (fun q => ?_) (fun q => ?_)
    · have h := ite_t q h
      refine lv_aload_n (pc := 40) hx hb dX11_pointed_40 rfl (lv_at hl 1 rfl) ?_
      refine s_getR (pc := 41) F w 66 ds_61 (j := 4) vc_X11 vi_X11 rfl (by decide) kf_X11_42 dX11_pointed_41 ?_
      refine lv_iload_n (pc := 44) hx hb dX11_pointed_44 rfl (lv_at hl 2 rfl) ?_
      obtain ⟨r7, S6, hc, h⟩ := bnd_t h
      refine s_cvi (pc := 45) [.int a1] (fun ad => [.ref (ad 66), .int a1]) F w (m_Layout_endOf _ _ _ _ hc) rfl rfl hl.1 ds_66 vc_X2 rfl ok_X2_endOf rfl kc_X2_endOf kl_X11_342 ki_X2_endOf kv_X2_endOf kn_X2 ⟨Nat.le_trans (by decide) hR1, Nat.le_trans (by decide) hR2⟩ ⟨Nat.zero_le _, Nat.zero_le _⟩ (Nat.le_of_ble_eq_true rfl) dX11_pointed_45 (fun H locs w => ?_)
      refine lv_istore (pc := 48) (lv' := [(4, .int r7), (3, .int r5), (0, .ref (ad 61)), (1, .int a1), (2, .int a2)]) hx hb dX11_pointed_48 hl (by decide) rfl (fun ls hl => ?_)
      refine lv_iload_n (pc := 50) hx hb dX11_pointed_50 rfl (lv_at hl 4 rfl) ?_
      rcases Decidable.em (a2 = (0 : Int32)) with q0 | q0
      · refine lv_tableIn (pc := 51) (tgt := 80) (off := 29) hx hb dX11_pointed_51 (by rw [q0]; decide) (by rw [q0]; decide) (by rw [q0]; rfl) (by decide) ?_
        have h := ite_t q0 h
        refine lv_iload (pc := 80) hx hb dX11_pointed_80 (lv_at hl 0 rfl) ?_
        refine lv_iconst (pc := 82) (v := 1) hx hb dX11_pointed_82 (by decide) ?_
        refine lv_ishr (pc := 83) hx hb dX11_pointed_83 ?_
        exact s_iret F w h dX11_pointed_84
      have h := ite_f q0 h
      rcases Decidable.em (a2 = (1 : Int32)) with q1 | q1
      · refine lv_tableIn (pc := 51) (tgt := 85) (off := 34) hx hb dX11_pointed_51 (by rw [q1]; decide) (by rw [q1]; decide) (by rw [q1]; rfl) (by decide) ?_
        have h := ite_t q1 h
        refine lv_iload (pc := 85) hx hb dX11_pointed_85 (lv_at hl 0 rfl) ?_
        refine lv_iconst (pc := 87) (v := 1) hx hb dX11_pointed_87 (by decide) ?_
        refine lv_iand (pc := 88) hx hb dX11_pointed_88 ?_
        exact s_iret F w h dX11_pointed_89
      have h := ite_f q1 h
      rcases Decidable.em (a2 = (2 : Int32)) with q2 | q2
      · refine lv_tableIn (pc := 51) (tgt := 90) (off := 39) hx hb dX11_pointed_51 (by rw [q2]; decide) (by rw [q2]; decide) (by rw [q2]; rfl) (by decide) ?_
        have h := ite_t q2 h
        refine lv_aload_n (pc := 90) hx hb dX11_pointed_90 rfl (lv_at hl 2 rfl) ?_
        refine s_getR (pc := 91) F w 66 ds_61 (j := 4) vc_X11 vi_X11 rfl (by decide) kf_X11_42 dX11_pointed_91 ?_
        refine lv_iload (pc := 94) hx hb dX11_pointed_94 (lv_at hl 0 rfl) ?_
        obtain ⟨r9, S8, hc, h⟩ := bnd_t h
        refine s_cvi (pc := 96) [.int r7] (fun ad => [.ref (ad 66), .int r7]) F w (m_Layout_linksAt _ _ _ _ hc) rfl rfl hl.1 ds_66 vc_X2 rfl ok_X2_linksAt rfl kc_X2_linksAt kl_X11_345 ki_X2_linksAt kv_X2_linksAt kn_X2 ⟨Nat.le_trans (by decide) hR1, Nat.le_trans (by decide) hR2⟩ ⟨Nat.zero_le _, Nat.zero_le _⟩ (Nat.le_of_ble_eq_true rfl) dX11_pointed_96 (fun H locs w => ?_)
        exact s_iret F w h dX11_pointed_99
      have h := ite_f q2 h
      rcases Decidable.em (a2 = (3 : Int32)) with q3 | q3
      · refine lv_tableIn (pc := 51) (tgt := 100) (off := 49) hx hb dX11_pointed_51 (by rw [q3]; decide) (by rw [q3]; decide) (by rw [q3]; rfl) (by decide) ?_
        have h := ite_t q3 h
        refine lv_aload_n (pc := 100) hx hb dX11_pointed_100 rfl (lv_at hl 2 rfl) ?_
        refine s_getR (pc := 101) F w 63 ds_61 (j := 1) vc_X11 vi_X11 rfl (by decide) kf_X11_19 dX11_pointed_101 ?_
        refine lv_iload_n (pc := 104) hx hb dX11_pointed_104 rfl (lv_at hl 3 rfl) ?_
        obtain ⟨r11, S10, hc, h⟩ := bnd_t h
        refine s_cvi (pc := 105) [.int a1] (fun ad => [.ref (ad 63), .int a1]) F w (m_State_setting _ _ _ _ hc) rfl rfl hl.1 ds_63 vc_X8 rfl ok_X8_setting rfl kc_X8_setting kl_X11_348 ki_X8_setting kv_X8_setting kn_X8 ⟨Nat.le_trans (by decide) hR1, Nat.le_trans (by decide) hR2⟩ ⟨Nat.zero_le _, Nat.zero_le _⟩ (Nat.le_of_ble_eq_true rfl) dX11_pointed_105 (fun H locs w => ?_)
        exact s_iret F w h dX11_pointed_108
      have h := ite_f q3 h
      refine lv_tableOut (pc := 51) (tgt := 109) hx hb dX11_pointed_51 (by have zq0 := i32ne q0 (show ((0 : Int32)).toInt = 0 by decide); have zq1 := i32ne q1 (show ((1 : Int32)).toInt = 1 by decide); have zq2 := i32ne q2 (show ((2 : Int32)).toInt = 2 by decide); have zq3 := i32ne q3 (show ((3 : Int32)).toInt = 3 by decide); omega) (by decide) ?_
      refine lv_aload_n (pc := 109) hx hb dX11_pointed_109 rfl (lv_at hl 2 rfl) ?_
      refine s_getR (pc := 110) F w 63 ds_61 (j := 1) vc_X11 vi_X11 rfl (by decide) kf_X11_19 dX11_pointed_110 ?_
      refine lv_iload_n (pc := 113) hx hb dX11_pointed_113 rfl (lv_at hl 3 rfl) ?_
      obtain ⟨r13, S12, hc, h⟩ := bnd_t h
      refine s_cvi (pc := 114) [.int a1] (fun ad => [.ref (ad 63), .int a1]) F w (m_State_locker _ _ _ _ hc) rfl rfl hl.1 ds_63 vc_X8 rfl ok_X8_locker rfl kc_X8_locker kl_X11_351 ki_X8_locker kv_X8_locker kn_X8 ⟨Nat.le_trans (by decide) hR1, Nat.le_trans (by decide) hR2⟩ ⟨Nat.zero_le _, Nat.zero_le _⟩ (Nat.le_of_ble_eq_true rfl) dX11_pointed_114 (fun H locs w => ?_)
      exact s_iret F w h dX11_pointed_117
    · have h := ite_f q h
      refine lv_aload_n (pc := 31) hx hb dX11_pointed_31 rfl (lv_at hl 1 rfl) ?_
      refine s_getR (pc := 32) F w 62 ds_61 (j := 0) vc_X11 vi_X11 rfl (by decide) kf_X11_10 dX11_pointed_32 ?_
      refine lv_iload_n (pc := 35) hx hb dX11_pointed_35 rfl (lv_at hl 0 rfl) ?_
      obtain ⟨r15, S14, hc, h⟩ := bnd_t h
      refine s_cvi (pc := 36) [.int r5] (fun ad => [.ref (ad 62), .int r5]) F w (m_Report_found _ _ _ _ hc) rfl rfl hl.1 ds_62 vc_X5 rfl ok_X5_found rfl kc_X5_found kl_X11_98 ki_X5_found kv_X5_found kn_X5 ⟨Nat.le_trans (by decide) hR1, Nat.le_trans (by decide) hR2⟩ ⟨Nat.zero_le _, Nat.zero_le _⟩ (Nat.le_of_ble_eq_true rfl) dX11_pointed_36 (fun H locs w => ?_)
      exact s_iret F w h dX11_pointed_39
  · have h := ite_f q h
    refine lv_iconst (pc := 9) (v := -1) hx hb dX11_pointed_9 (by decide) ?_
    exact s_iret F w h dX11_pointed_10
def f_Yard_wantedFor (a0 : Int32) (S : SS) : Option (Int32 × SS) :=
  if a0 = (4 : Int32) then
    some ((96 : Int32), S)
  else
  if a0 = (5 : Int32) then
    some ((31 : Int32), S)
  else
  if a0 = (6 : Int32) then
    some ((15 : Int32), S)
  else
  if a0 = (7 : Int32) then
    some ((4 : Int32), S)
  else
  some ((127 : Int32), S)
theorem dX11_wantedFor_0 : decode cX11_wantedFor 0 = .ok (.iload_n 0, 1) := dc_26 (by decide +kernel)
theorem dX11_wantedFor_1 : decode cX11_wantedFor 1 = .ok (.tableswitch 42 4 7 #[31, 34, 37, 40], 31) := by decide +kernel
theorem dX11_wantedFor_32 : decode cX11_wantedFor 32 = .ok (.bipush 96, 2) := dc_16 (a := 96) (by decide +kernel) (by decide)
theorem dX11_wantedFor_34 : decode cX11_wantedFor 34 = .ok (.ireturn, 1) := dc_172 (by decide +kernel)
theorem dX11_wantedFor_35 : decode cX11_wantedFor 35 = .ok (.bipush 31, 2) := dc_16 (a := 31) (by decide +kernel) (by decide)
theorem dX11_wantedFor_37 : decode cX11_wantedFor 37 = .ok (.ireturn, 1) := dc_172 (by decide +kernel)
theorem dX11_wantedFor_38 : decode cX11_wantedFor 38 = .ok (.bipush 15, 2) := dc_16 (a := 15) (by decide +kernel) (by decide)
theorem dX11_wantedFor_40 : decode cX11_wantedFor 40 = .ok (.ireturn, 1) := dc_172 (by decide +kernel)
theorem dX11_wantedFor_41 : decode cX11_wantedFor 41 = .ok (.iconst 4, 1) := dc_7 (by decide +kernel)
theorem dX11_wantedFor_42 : decode cX11_wantedFor 42 = .ok (.ireturn, 1) := dc_172 (by decide +kernel)
theorem dX11_wantedFor_43 : decode cX11_wantedFor 43 = .ok (.bipush 127, 2) := dc_16 (a := 127) (by decide +kernel) (by decide)
theorem dX11_wantedFor_45 : decode cX11_wantedFor 45 = .ok (.ireturn, 1) := dc_172 (by decide +kernel)
set_option maxRecDepth 100000 in
set_option maxHeartbeats 4000000 in
theorem m_Yard_wantedFor (a0 : Int32) (S S' : SS) (r : Int32) (h : f_Yard_wantedFor a0 S = some (r, S')) : MT yX11_wantedFor cX11_wantedFor 1 (some .int) 0 0 (fun ad => [.int a0]) S (some (.int r)) S' := by
  refine MT.of RX11 (fun ad => [(0, .int a0)]) (by decide) rfl (fun _ => Nat.le_of_ble_eq_true rfl) (fun _ => rfl) ?_
  intro p l e R s m args below meth c dC dI cs ad A hR1 hR2 F H locs ls w hl
  have hx := F.1.1
  have hb := F.1.2.1
  rw [f_Yard_wantedFor] at h
  refine lv_iload_n (pc := 0) hx hb dX11_wantedFor_0 rfl (lv_at hl 0 rfl) ?_
  rcases Decidable.em (a0 = (4 : Int32)) with q4 | q4
  · refine lv_tableIn (pc := 1) (tgt := 32) (off := 31) hx hb dX11_wantedFor_1 (by rw [q4]; decide) (by rw [q4]; decide) (by rw [q4]; rfl) (by decide) ?_
    have h := ite_t q4 h
    refine lv_bipush (pc := 32) (v := 96) hx hb dX11_wantedFor_32 (by decide) ?_
    exact s_iret F w h dX11_wantedFor_34
  have h := ite_f q4 h
  rcases Decidable.em (a0 = (5 : Int32)) with q5 | q5
  · refine lv_tableIn (pc := 1) (tgt := 35) (off := 34) hx hb dX11_wantedFor_1 (by rw [q5]; decide) (by rw [q5]; decide) (by rw [q5]; rfl) (by decide) ?_
    have h := ite_t q5 h
    refine lv_bipush (pc := 35) (v := 31) hx hb dX11_wantedFor_35 (by decide) ?_
    exact s_iret F w h dX11_wantedFor_37
  have h := ite_f q5 h
  rcases Decidable.em (a0 = (6 : Int32)) with q6 | q6
  · refine lv_tableIn (pc := 1) (tgt := 38) (off := 37) hx hb dX11_wantedFor_1 (by rw [q6]; decide) (by rw [q6]; decide) (by rw [q6]; rfl) (by decide) ?_
    have h := ite_t q6 h
    refine lv_bipush (pc := 38) (v := 15) hx hb dX11_wantedFor_38 (by decide) ?_
    exact s_iret F w h dX11_wantedFor_40
  have h := ite_f q6 h
  rcases Decidable.em (a0 = (7 : Int32)) with q7 | q7
  · refine lv_tableIn (pc := 1) (tgt := 41) (off := 40) hx hb dX11_wantedFor_1 (by rw [q7]; decide) (by rw [q7]; decide) (by rw [q7]; rfl) (by decide) ?_
    have h := ite_t q7 h
    refine lv_iconst (pc := 41) (v := 4) hx hb dX11_wantedFor_41 (by decide) ?_
    exact s_iret F w h dX11_wantedFor_42
  have h := ite_f q7 h
  refine lv_tableOut (pc := 1) (tgt := 43) hx hb dX11_wantedFor_1 (by have zq4 := i32ne q4 (show ((4 : Int32)).toInt = 4 by decide); have zq5 := i32ne q5 (show ((5 : Int32)).toInt = 5 by decide); have zq6 := i32ne q6 (show ((6 : Int32)).toInt = 6 by decide); have zq7 := i32ne q7 (show ((7 : Int32)).toInt = 7 by decide); omega) (by decide) ?_
  refine lv_bipush (pc := 43) (v := 127) hx hb dX11_wantedFor_43 (by decide) ?_
  exact s_iret F w h dX11_wantedFor_45
def f_Yard_orZero (a1 : Int32) (S : SS) : Option (Int32 × SS) :=
  if a1 = (-4 : Int32) then
    bnd (f_Report_found (6 : Int32) S) (fun r2 S1 =>
    some (r2, S1))
  else
    some (a1, S)
theorem dX11_orZero_0 : decode cX11_orZero 0 = .ok (.iload_n 1, 1) := dc_27 (by decide +kernel)
theorem dX11_orZero_1 : decode cX11_orZero 1 = .ok (.bipush (-4), 2) := dc_16 (a := 252) (by decide +kernel) (by decide)
theorem dX11_orZero_3 : decode cX11_orZero 3 = .ok (.if_icmp .ne 15, 3) := dc_160 (a := 0) (b := 15) (by decide +kernel) (by decide)
theorem dX11_orZero_6 : decode cX11_orZero 6 = .ok (.aload_n 0, 1) := dc_42 (by decide +kernel)
theorem dX11_orZero_7 : decode cX11_orZero 7 = .ok (.getfield 10, 3) := dc_180 (a := 0) (b := 10) (by decide +kernel)
theorem dX11_orZero_10 : decode cX11_orZero 10 = .ok (.bipush 6, 2) := dc_16 (a := 6) (by decide +kernel) (by decide)
theorem dX11_orZero_12 : decode cX11_orZero 12 = .ok (.invokevirtual 98, 3) := dc_182 (a := 0) (b := 98) (by decide +kernel)
theorem dX11_orZero_15 : decode cX11_orZero 15 = .ok (.goto 4, 3) := dc_167 (a := 0) (b := 4) (by decide +kernel) (by decide)
theorem dX11_orZero_18 : decode cX11_orZero 18 = .ok (.iload_n 1, 1) := dc_27 (by decide +kernel)
theorem dX11_orZero_19 : decode cX11_orZero 19 = .ok (.ireturn, 1) := dc_172 (by decide +kernel)
set_option maxRecDepth 100000 in
set_option maxHeartbeats 4000000 in
theorem m_Yard_orZero (a1 : Int32) (S S' : SS) (r : Int32) (h : f_Yard_orZero a1 S = some (r, S')) : MT yX11_orZero cX11_orZero 2 (some .int) 1 21 (fun ad => [.ref (ad 61), .int a1]) S (some (.int r)) S' := by
  refine MT.of RX11 (fun ad => [(0, .ref (ad 61)), (1, .int a1)]) (by decide) rfl (fun _ => Nat.le_of_ble_eq_true rfl) (fun _ => rfl) ?_
  intro p l e R s m args below meth c dC dI cs ad A hR1 hR2 F H locs ls w hl
  have hx := F.1.1
  have hb := F.1.2.1
  rw [f_Yard_orZero] at h
  refine lv_iload_n (pc := 0) hx hb dX11_orZero_0 rfl (lv_at hl 1 rfl) ?_
  refine lv_bipush (pc := 1) (v := -4) hx hb dX11_orZero_1 (by decide) ?_
  refine lv_icmp_ne (pc := 3) (tgt := 18) hx hb dX11_orZero_3 (by decide) (fun q => ?_) (fun q => ?_)
  · have h := ite_f q h
    refine lv_iload_n (pc := 18) hx hb dX11_orZero_18 rfl (lv_at hl 1 rfl) ?_
    exact s_iret F w h dX11_orZero_19
  · have h := ite_t q h
    refine lv_aload_n (pc := 6) hx hb dX11_orZero_6 rfl (lv_at hl 0 rfl) ?_
    refine s_getR (pc := 7) F w 62 ds_61 (j := 0) vc_X11 vi_X11 rfl (by decide) kf_X11_10 dX11_orZero_7 ?_
    refine lv_bipush (pc := 10) (v := 6) hx hb dX11_orZero_10 (by decide) ?_
    obtain ⟨r2, S1, hc, h⟩ := bnd_t h
    refine s_cvi (pc := 12) [.int (6 : Int32)] (fun ad => [.ref (ad 62), .int (6 : Int32)]) F w (m_Report_found _ _ _ _ hc) rfl rfl hl.1 ds_62 vc_X5 rfl ok_X5_found rfl kc_X5_found kl_X11_98 ki_X5_found kv_X5_found kn_X5 ⟨Nat.le_trans (by decide) hR1, Nat.le_trans (by decide) hR2⟩ ⟨Nat.zero_le _, Nat.zero_le _⟩ (Nat.le_of_ble_eq_true rfl) dX11_orZero_12 (fun H locs w => ?_)
    refine lv_goto (pc := 15) (tgt := 19) hx hb dX11_orZero_15 (by decide) ?_
    exact s_iret F w h dX11_orZero_19
def f_Yard_ask_j55  (x1 : Int32) (x2 : Int32) (x3 : Int32) (S : SS) : Option (Int32 × SS) :=
    if x3 = 0 then
      if x2 = (0 : Int32) then
        bnd (f_Bodies_weight x1 S) (fun r9 S8 =>
        some (r9, S8))
      else
      if x2 = (1 : Int32) then
        bnd (f_Bodies_brake x1 S) (fun r11 S10 =>
        some (r11, S10))
      else
      if x2 = (2 : Int32) then
        bnd (f_Bodies_heavy x1 S) (fun r13 S12 =>
        some (r13, S12))
      else
      if x2 = (3 : Int32) then
        bnd (f_Bodies_perAxle x1 S) (fun r15 S14 =>
        bnd (f_Yard_orZero r15 S14) (fun r17 S16 =>
        some (r17, S16)))
      else
      if x2 = (4 : Int32) then
        bnd (f_Bodies_pulls x1 S) (fun r19 S18 =>
        some (r19, S18))
      else
      if x2 = (5 : Int32) then
        bnd (f_State_get x1 (7 : Int32) S) (fun r21 S20 =>
        some (r21, S20))
      else
      if x2 = (6 : Int32) then
        bnd (f_Stock_get x1 (4 : Int32) S) (fun r23 S22 =>
        some (r23, S22))
      else
      bnd (f_Stock_get x1 (1 : Int32) S) (fun r25 S24 =>
      some (r25, S24))
    else
      bnd (f_Report_found x3 S) (fun r27 S26 =>
      some (r27, S26))
def f_Yard_ask (a1 : Int32) (a2 : Int32) (S : SS) : Option (Int32 × SS) :=
  bnd (f_Yard_isNot a2 (0 : Int32) (7 : Int32) S) (fun r2 S1 =>
  if r2 = 0 then
    bndv (f_Report_begin  S1) (fun S3 =>
    bnd (f_Yard_wantedFor a2 S3) (fun r5 S4 =>
    bnd (f_Yard_named a1 r5 S4) (fun r7 S6 =>
    if r7 = 0 then
      if a2 = (6 : Int32) then
        bnd (f_Stock_get a1 (3 : Int32) S6) (fun r29 S28 =>
        if r29 = (-4 : Int32) then
          f_Yard_ask_j55 a1 a2 (1 : Int32) S28
        else
          f_Yard_ask_j55 a1 a2 r7 S28)
      else
        f_Yard_ask_j55 a1 a2 r7 S6
    else
      f_Yard_ask_j55 a1 a2 r7 S6)))
  else
    some ((-1 : Int32), S1))
theorem dX11_ask_0 : decode cX11_ask 0 = .ok (.iload_n 2, 1) := dc_28 (by decide +kernel)
theorem dX11_ask_1 : decode cX11_ask 1 = .ok (.iconst 0, 1) := dc_3 (by decide +kernel)
theorem dX11_ask_2 : decode cX11_ask 2 = .ok (.bipush 7, 2) := dc_16 (a := 7) (by decide +kernel) (by decide)
theorem dX11_ask_4 : decode cX11_ask 4 = .ok (.invokestatic 108, 3) := dc_184 (a := 0) (b := 108) (by decide +kernel)
theorem dX11_ask_7 : decode cX11_ask 7 = .ok (.ifCond .eq 5, 3) := dc_153 (a := 0) (b := 5) (by decide +kernel) (by decide)
theorem dX11_ask_10 : decode cX11_ask 10 = .ok (.iconst (-1), 1) := dc_2 (by decide +kernel)
theorem dX11_ask_11 : decode cX11_ask 11 = .ok (.ireturn, 1) := dc_172 (by decide +kernel)
theorem dX11_ask_12 : decode cX11_ask 12 = .ok (.aload_n 0, 1) := dc_42 (by decide +kernel)
theorem dX11_ask_13 : decode cX11_ask 13 = .ok (.getfield 10, 3) := dc_180 (a := 0) (b := 10) (by decide +kernel)
theorem dX11_ask_16 : decode cX11_ask 16 = .ok (.invokevirtual 95, 3) := dc_182 (a := 0) (b := 95) (by decide +kernel)
theorem dX11_ask_19 : decode cX11_ask 19 = .ok (.aload_n 0, 1) := dc_42 (by decide +kernel)
theorem dX11_ask_20 : decode cX11_ask 20 = .ok (.iload_n 1, 1) := dc_27 (by decide +kernel)
theorem dX11_ask_21 : decode cX11_ask 21 = .ok (.iload_n 2, 1) := dc_28 (by decide +kernel)
theorem dX11_ask_22 : decode cX11_ask 22 = .ok (.invokestatic 354, 3) := dc_184 (a := 1) (b := 98) (by decide +kernel)
theorem dX11_ask_25 : decode cX11_ask 25 = .ok (.invokevirtual 185, 3) := dc_182 (a := 0) (b := 185) (by decide +kernel)
theorem dX11_ask_28 : decode cX11_ask 28 = .ok (.istore_n 3, 1) := dc_62 (by decide +kernel)
theorem dX11_ask_29 : decode cX11_ask 29 = .ok (.iload_n 3, 1) := dc_29 (by decide +kernel)
theorem dX11_ask_30 : decode cX11_ask 30 = .ok (.ifCond .ne 25, 3) := dc_154 (a := 0) (b := 25) (by decide +kernel) (by decide)
theorem dX11_ask_33 : decode cX11_ask 33 = .ok (.iload_n 2, 1) := dc_28 (by decide +kernel)
theorem dX11_ask_34 : decode cX11_ask 34 = .ok (.bipush 6, 2) := dc_16 (a := 6) (by decide +kernel) (by decide)
theorem dX11_ask_36 : decode cX11_ask 36 = .ok (.if_icmp .ne 19, 3) := dc_160 (a := 0) (b := 19) (by decide +kernel) (by decide)
theorem dX11_ask_39 : decode cX11_ask 39 = .ok (.aload_n 0, 1) := dc_42 (by decide +kernel)
theorem dX11_ask_40 : decode cX11_ask 40 = .ok (.getfield 33, 3) := dc_180 (a := 0) (b := 33) (by decide +kernel)
theorem dX11_ask_43 : decode cX11_ask 43 = .ok (.iload_n 1, 1) := dc_27 (by decide +kernel)
theorem dX11_ask_44 : decode cX11_ask 44 = .ok (.iconst 3, 1) := dc_6 (by decide +kernel)
theorem dX11_ask_45 : decode cX11_ask 45 = .ok (.invokevirtual 335, 3) := dc_182 (a := 1) (b := 79) (by decide +kernel)
theorem dX11_ask_48 : decode cX11_ask 48 = .ok (.bipush (-4), 2) := dc_16 (a := 252) (by decide +kernel) (by decide)
theorem dX11_ask_50 : decode cX11_ask 50 = .ok (.if_icmp .ne 5, 3) := dc_160 (a := 0) (b := 5) (by decide +kernel) (by decide)
theorem dX11_ask_53 : decode cX11_ask 53 = .ok (.iconst 1, 1) := dc_4 (by decide +kernel)
theorem dX11_ask_54 : decode cX11_ask 54 = .ok (.istore_n 3, 1) := dc_62 (by decide +kernel)
theorem dX11_ask_55 : decode cX11_ask 55 = .ok (.iload_n 3, 1) := dc_29 (by decide +kernel)
theorem dX11_ask_56 : decode cX11_ask 56 = .ok (.ifCond .eq 12, 3) := dc_153 (a := 0) (b := 12) (by decide +kernel) (by decide)
theorem dX11_ask_59 : decode cX11_ask 59 = .ok (.aload_n 0, 1) := dc_42 (by decide +kernel)
theorem dX11_ask_60 : decode cX11_ask 60 = .ok (.getfield 10, 3) := dc_180 (a := 0) (b := 10) (by decide +kernel)
theorem dX11_ask_63 : decode cX11_ask 63 = .ok (.iload_n 3, 1) := dc_29 (by decide +kernel)
theorem dX11_ask_64 : decode cX11_ask 64 = .ok (.invokevirtual 98, 3) := dc_182 (a := 0) (b := 98) (by decide +kernel)
theorem dX11_ask_67 : decode cX11_ask 67 = .ok (.ireturn, 1) := dc_172 (by decide +kernel)
theorem dX11_ask_68 : decode cX11_ask 68 = .ok (.iload_n 2, 1) := dc_28 (by decide +kernel)
theorem dX11_ask_69 : decode cX11_ask 69 = .ok (.tableswitch 113 0 6 #[43, 52, 61, 70, 83, 92, 103], 43) := by decide +kernel
theorem dX11_ask_112 : decode cX11_ask 112 = .ok (.aload_n 0, 1) := dc_42 (by decide +kernel)
theorem dX11_ask_113 : decode cX11_ask 113 = .ok (.getfield 67, 3) := dc_180 (a := 0) (b := 67) (by decide +kernel)
theorem dX11_ask_116 : decode cX11_ask 116 = .ok (.iload_n 1, 1) := dc_27 (by decide +kernel)
theorem dX11_ask_117 : decode cX11_ask 117 = .ok (.invokevirtual 302, 3) := dc_182 (a := 1) (b := 46) (by decide +kernel)
theorem dX11_ask_120 : decode cX11_ask 120 = .ok (.ireturn, 1) := dc_172 (by decide +kernel)
theorem dX11_ask_121 : decode cX11_ask 121 = .ok (.aload_n 0, 1) := dc_42 (by decide +kernel)
theorem dX11_ask_122 : decode cX11_ask 122 = .ok (.getfield 67, 3) := dc_180 (a := 0) (b := 67) (by decide +kernel)
theorem dX11_ask_125 : decode cX11_ask 125 = .ok (.iload_n 1, 1) := dc_27 (by decide +kernel)
theorem dX11_ask_126 : decode cX11_ask 126 = .ok (.invokevirtual 323, 3) := dc_182 (a := 1) (b := 67) (by decide +kernel)
theorem dX11_ask_129 : decode cX11_ask 129 = .ok (.ireturn, 1) := dc_172 (by decide +kernel)
theorem dX11_ask_130 : decode cX11_ask 130 = .ok (.aload_n 0, 1) := dc_42 (by decide +kernel)
theorem dX11_ask_131 : decode cX11_ask 131 = .ok (.getfield 67, 3) := dc_180 (a := 0) (b := 67) (by decide +kernel)
theorem dX11_ask_134 : decode cX11_ask 134 = .ok (.iload_n 1, 1) := dc_27 (by decide +kernel)
theorem dX11_ask_135 : decode cX11_ask 135 = .ok (.invokevirtual 312, 3) := dc_182 (a := 1) (b := 56) (by decide +kernel)
theorem dX11_ask_138 : decode cX11_ask 138 = .ok (.ireturn, 1) := dc_172 (by decide +kernel)
theorem dX11_ask_139 : decode cX11_ask 139 = .ok (.aload_n 0, 1) := dc_42 (by decide +kernel)
theorem dX11_ask_140 : decode cX11_ask 140 = .ok (.aload_n 0, 1) := dc_42 (by decide +kernel)
theorem dX11_ask_141 : decode cX11_ask 141 = .ok (.getfield 67, 3) := dc_180 (a := 0) (b := 67) (by decide +kernel)
theorem dX11_ask_144 : decode cX11_ask 144 = .ok (.iload_n 1, 1) := dc_27 (by decide +kernel)
theorem dX11_ask_145 : decode cX11_ask 145 = .ok (.invokevirtual 326, 3) := dc_182 (a := 1) (b := 70) (by decide +kernel)
theorem dX11_ask_148 : decode cX11_ask 148 = .ok (.invokevirtual 357, 3) := dc_182 (a := 1) (b := 101) (by decide +kernel)
theorem dX11_ask_151 : decode cX11_ask 151 = .ok (.ireturn, 1) := dc_172 (by decide +kernel)
theorem dX11_ask_152 : decode cX11_ask 152 = .ok (.aload_n 0, 1) := dc_42 (by decide +kernel)
theorem dX11_ask_153 : decode cX11_ask 153 = .ok (.getfield 67, 3) := dc_180 (a := 0) (b := 67) (by decide +kernel)
theorem dX11_ask_156 : decode cX11_ask 156 = .ok (.iload_n 1, 1) := dc_27 (by decide +kernel)
theorem dX11_ask_157 : decode cX11_ask 157 = .ok (.invokevirtual 305, 3) := dc_182 (a := 1) (b := 49) (by decide +kernel)
theorem dX11_ask_160 : decode cX11_ask 160 = .ok (.ireturn, 1) := dc_172 (by decide +kernel)
theorem dX11_ask_161 : decode cX11_ask 161 = .ok (.aload_n 0, 1) := dc_42 (by decide +kernel)
theorem dX11_ask_162 : decode cX11_ask 162 = .ok (.getfield 19, 3) := dc_180 (a := 0) (b := 19) (by decide +kernel)
theorem dX11_ask_165 : decode cX11_ask 165 = .ok (.iload_n 1, 1) := dc_27 (by decide +kernel)
theorem dX11_ask_166 : decode cX11_ask 166 = .ok (.bipush 7, 2) := dc_16 (a := 7) (by decide +kernel) (by decide)
theorem dX11_ask_168 : decode cX11_ask 168 = .ok (.invokevirtual 253, 3) := dc_182 (a := 0) (b := 253) (by decide +kernel)
theorem dX11_ask_171 : decode cX11_ask 171 = .ok (.ireturn, 1) := dc_172 (by decide +kernel)
theorem dX11_ask_172 : decode cX11_ask 172 = .ok (.aload_n 0, 1) := dc_42 (by decide +kernel)
theorem dX11_ask_173 : decode cX11_ask 173 = .ok (.getfield 33, 3) := dc_180 (a := 0) (b := 33) (by decide +kernel)
theorem dX11_ask_176 : decode cX11_ask 176 = .ok (.iload_n 1, 1) := dc_27 (by decide +kernel)
theorem dX11_ask_177 : decode cX11_ask 177 = .ok (.iconst 4, 1) := dc_7 (by decide +kernel)
theorem dX11_ask_178 : decode cX11_ask 178 = .ok (.invokevirtual 335, 3) := dc_182 (a := 1) (b := 79) (by decide +kernel)
theorem dX11_ask_181 : decode cX11_ask 181 = .ok (.ireturn, 1) := dc_172 (by decide +kernel)
theorem dX11_ask_182 : decode cX11_ask 182 = .ok (.aload_n 0, 1) := dc_42 (by decide +kernel)
theorem dX11_ask_183 : decode cX11_ask 183 = .ok (.getfield 33, 3) := dc_180 (a := 0) (b := 33) (by decide +kernel)
theorem dX11_ask_186 : decode cX11_ask 186 = .ok (.iload_n 1, 1) := dc_27 (by decide +kernel)
theorem dX11_ask_187 : decode cX11_ask 187 = .ok (.iconst 1, 1) := dc_4 (by decide +kernel)
theorem dX11_ask_188 : decode cX11_ask 188 = .ok (.invokevirtual 335, 3) := dc_182 (a := 1) (b := 79) (by decide +kernel)
theorem dX11_ask_191 : decode cX11_ask 191 = .ok (.ireturn, 1) := dc_172 (by decide +kernel)
set_option maxRecDepth 100000 in
set_option maxHeartbeats 4000000 in
theorem w_Yard_ask_j55 {p : Program} {l : Launch} {e : Env} {R : Room} {s : State} {m : MethodId} {args : Array Value} {below : List Frame} {meth : Method} {c : Code} {dC : Nat → ClassId} {dI : Nat → Nat → Nat} {cs : Nat → ClassId} {ad : Nat → Nat} {A : Nat → Prop} {D0 : Nat → Nat} {S' : SS} {r : Int32} (F : Fx p s m args meth c cX11_ask 4 RX11 (some .int) dC dI cs A) (hR1 : 5 ≤ R.frames) (hR2 : 108 ≤ R.locals) (x1 : Int32) (x2 : Int32) (x3 : Int32) (S : SS) (h : f_Yard_ask_j55 x1 x2 x3 S = some (r, S')) : AW p l e R s m args below meth c dC dI cs ad A D0 (some (.int r)) S' 4 55 [(0, .ref (ad 61)), (1, .int x1), (2, .int x2), (3, .int x3)] [] S := by
  have hx := F.1.1
  have hb := F.1.2.1
  intro H locs ls w hl
  rw [f_Yard_ask_j55] at h
  refine lv_iload_n (pc := 55) hx hb dX11_ask_55 rfl (lv_at hl 3 rfl) ?_
  refine lv_if_eq (pc := 56) (tgt := 68) hx hb dX11_ask_56 (by decide) (fun q => ?_) (fun q => ?_)
  · have h := ite_t q h
    refine lv_iload_n (pc := 68) hx hb dX11_ask_68 rfl (lv_at hl 2 rfl) ?_
    rcases Decidable.em (x2 = (0 : Int32)) with q0 | q0
    · refine lv_tableIn (pc := 69) (tgt := 112) (off := 43) hx hb dX11_ask_69 (by rw [q0]; decide) (by rw [q0]; decide) (by rw [q0]; rfl) (by decide) ?_
      have h := ite_t q0 h
      refine lv_aload_n (pc := 112) hx hb dX11_ask_112 rfl (lv_at hl 0 rfl) ?_
      refine s_getR (pc := 113) F w 69 ds_61 (j := 7) vc_X11 vi_X11 rfl (by decide) kf_X11_67 dX11_ask_113 ?_
      refine lv_iload_n (pc := 116) hx hb dX11_ask_116 rfl (lv_at hl 1 rfl) ?_
      obtain ⟨r9, S8, hc, h⟩ := bnd_t h
      refine s_cvi (pc := 117) [.int x1] (fun ad => [.ref (ad 69), .int x1]) F w (m_Bodies_weight _ _ _ _ hc) rfl rfl hl.1 ds_69 vc_X0 rfl ok_X0_weight rfl kc_X0_weight kl_X11_302 ki_X0_weight kv_X0_weight kn_X0 ⟨Nat.le_trans (by decide) hR1, Nat.le_trans (by decide) hR2⟩ ⟨Nat.zero_le _, Nat.zero_le _⟩ (Nat.le_of_ble_eq_true rfl) dX11_ask_117 (fun H locs w => ?_)
      exact s_iret F w h dX11_ask_120
    have h := ite_f q0 h
    rcases Decidable.em (x2 = (1 : Int32)) with q1 | q1
    · refine lv_tableIn (pc := 69) (tgt := 121) (off := 52) hx hb dX11_ask_69 (by rw [q1]; decide) (by rw [q1]; decide) (by rw [q1]; rfl) (by decide) ?_
      have h := ite_t q1 h
      refine lv_aload_n (pc := 121) hx hb dX11_ask_121 rfl (lv_at hl 0 rfl) ?_
      refine s_getR (pc := 122) F w 69 ds_61 (j := 7) vc_X11 vi_X11 rfl (by decide) kf_X11_67 dX11_ask_122 ?_
      refine lv_iload_n (pc := 125) hx hb dX11_ask_125 rfl (lv_at hl 1 rfl) ?_
      obtain ⟨r11, S10, hc, h⟩ := bnd_t h
      refine s_cvi (pc := 126) [.int x1] (fun ad => [.ref (ad 69), .int x1]) F w (m_Bodies_brake _ _ _ _ hc) rfl rfl hl.1 ds_69 vc_X0 rfl ok_X0_brake rfl kc_X0_brake kl_X11_323 ki_X0_brake kv_X0_brake kn_X0 ⟨Nat.le_trans (by decide) hR1, Nat.le_trans (by decide) hR2⟩ ⟨Nat.zero_le _, Nat.zero_le _⟩ (Nat.le_of_ble_eq_true rfl) dX11_ask_126 (fun H locs w => ?_)
      exact s_iret F w h dX11_ask_129
    have h := ite_f q1 h
    rcases Decidable.em (x2 = (2 : Int32)) with q2 | q2
    · refine lv_tableIn (pc := 69) (tgt := 130) (off := 61) hx hb dX11_ask_69 (by rw [q2]; decide) (by rw [q2]; decide) (by rw [q2]; rfl) (by decide) ?_
      have h := ite_t q2 h
      refine lv_aload_n (pc := 130) hx hb dX11_ask_130 rfl (lv_at hl 0 rfl) ?_
      refine s_getR (pc := 131) F w 69 ds_61 (j := 7) vc_X11 vi_X11 rfl (by decide) kf_X11_67 dX11_ask_131 ?_
      refine lv_iload_n (pc := 134) hx hb dX11_ask_134 rfl (lv_at hl 1 rfl) ?_
      obtain ⟨r13, S12, hc, h⟩ := bnd_t h
      refine s_cvi (pc := 135) [.int x1] (fun ad => [.ref (ad 69), .int x1]) F w (m_Bodies_heavy _ _ _ _ hc) rfl rfl hl.1 ds_69 vc_X0 rfl ok_X0_heavy rfl kc_X0_heavy kl_X11_312 ki_X0_heavy kv_X0_heavy kn_X0 ⟨Nat.le_trans (by decide) hR1, Nat.le_trans (by decide) hR2⟩ ⟨Nat.zero_le _, Nat.zero_le _⟩ (Nat.le_of_ble_eq_true rfl) dX11_ask_135 (fun H locs w => ?_)
      exact s_iret F w h dX11_ask_138
    have h := ite_f q2 h
    rcases Decidable.em (x2 = (3 : Int32)) with q3 | q3
    · refine lv_tableIn (pc := 69) (tgt := 139) (off := 70) hx hb dX11_ask_69 (by rw [q3]; decide) (by rw [q3]; decide) (by rw [q3]; rfl) (by decide) ?_
      have h := ite_t q3 h
      refine lv_aload_n (pc := 139) hx hb dX11_ask_139 rfl (lv_at hl 0 rfl) ?_
      refine lv_aload_n (pc := 140) hx hb dX11_ask_140 rfl (lv_at hl 0 rfl) ?_
      refine s_getR (pc := 141) F w 69 ds_61 (j := 7) vc_X11 vi_X11 rfl (by decide) kf_X11_67 dX11_ask_141 ?_
      refine lv_iload_n (pc := 144) hx hb dX11_ask_144 rfl (lv_at hl 1 rfl) ?_
      obtain ⟨r15, S14, hc, h⟩ := bnd_t h
      refine s_cvi (pc := 145) [.int x1] (fun ad => [.ref (ad 69), .int x1]) F w (m_Bodies_perAxle _ _ _ _ hc) rfl rfl hl.1 ds_69 vc_X0 rfl ok_X0_perAxle rfl kc_X0_perAxle kl_X11_326 ki_X0_perAxle kv_X0_perAxle kn_X0 ⟨Nat.le_trans (by decide) hR1, Nat.le_trans (by decide) hR2⟩ ⟨Nat.zero_le _, Nat.zero_le _⟩ (Nat.le_of_ble_eq_true rfl) dX11_ask_145 (fun H locs w => ?_)
      obtain ⟨r17, S16, hc, h⟩ := bnd_t h
      refine s_cvi (pc := 148) [.int r15] (fun ad => [.ref (ad 61), .int r15]) F w (m_Yard_orZero _ _ _ _ hc) rfl rfl hl.1 ds_61 vc_X11 rfl ok_X11_orZero rfl kc_X11_orZero kl_X11_357 ki_X11_orZero kv_X11_orZero kn_X11 ⟨Nat.le_trans (by decide) hR1, Nat.le_trans (by decide) hR2⟩ ⟨Nat.zero_le _, Nat.zero_le _⟩ (Nat.le_of_ble_eq_true rfl) dX11_ask_148 (fun H locs w => ?_)
      exact s_iret F w h dX11_ask_151
    have h := ite_f q3 h
    rcases Decidable.em (x2 = (4 : Int32)) with q4 | q4
    · refine lv_tableIn (pc := 69) (tgt := 152) (off := 83) hx hb dX11_ask_69 (by rw [q4]; decide) (by rw [q4]; decide) (by rw [q4]; rfl) (by decide) ?_
      have h := ite_t q4 h
      refine lv_aload_n (pc := 152) hx hb dX11_ask_152 rfl (lv_at hl 0 rfl) ?_
      refine s_getR (pc := 153) F w 69 ds_61 (j := 7) vc_X11 vi_X11 rfl (by decide) kf_X11_67 dX11_ask_153 ?_
      refine lv_iload_n (pc := 156) hx hb dX11_ask_156 rfl (lv_at hl 1 rfl) ?_
      obtain ⟨r19, S18, hc, h⟩ := bnd_t h
      refine s_cvi (pc := 157) [.int x1] (fun ad => [.ref (ad 69), .int x1]) F w (m_Bodies_pulls _ _ _ _ hc) rfl rfl hl.1 ds_69 vc_X0 rfl ok_X0_pulls rfl kc_X0_pulls kl_X11_305 ki_X0_pulls kv_X0_pulls kn_X0 ⟨Nat.le_trans (by decide) hR1, Nat.le_trans (by decide) hR2⟩ ⟨Nat.zero_le _, Nat.zero_le _⟩ (Nat.le_of_ble_eq_true rfl) dX11_ask_157 (fun H locs w => ?_)
      exact s_iret F w h dX11_ask_160
    have h := ite_f q4 h
    rcases Decidable.em (x2 = (5 : Int32)) with q5 | q5
    · refine lv_tableIn (pc := 69) (tgt := 161) (off := 92) hx hb dX11_ask_69 (by rw [q5]; decide) (by rw [q5]; decide) (by rw [q5]; rfl) (by decide) ?_
      have h := ite_t q5 h
      refine lv_aload_n (pc := 161) hx hb dX11_ask_161 rfl (lv_at hl 0 rfl) ?_
      refine s_getR (pc := 162) F w 63 ds_61 (j := 1) vc_X11 vi_X11 rfl (by decide) kf_X11_19 dX11_ask_162 ?_
      refine lv_iload_n (pc := 165) hx hb dX11_ask_165 rfl (lv_at hl 1 rfl) ?_
      refine lv_bipush (pc := 166) (v := 7) hx hb dX11_ask_166 (by decide) ?_
      obtain ⟨r21, S20, hc, h⟩ := bnd_t h
      refine s_cvi (pc := 168) [.int x1, .int (7 : Int32)] (fun ad => [.ref (ad 63), .int x1, .int (7 : Int32)]) F w (m_State_get _ _ _ _ _ hc) rfl rfl hl.1 ds_63 vc_X8 rfl ok_X8_get rfl kc_X8_get kl_X11_253 ki_X8_get kv_X8_get kn_X8 ⟨Nat.le_trans (by decide) hR1, Nat.le_trans (by decide) hR2⟩ ⟨Nat.zero_le _, Nat.zero_le _⟩ (Nat.le_of_ble_eq_true rfl) dX11_ask_168 (fun H locs w => ?_)
      exact s_iret F w h dX11_ask_171
    have h := ite_f q5 h
    rcases Decidable.em (x2 = (6 : Int32)) with q6 | q6
    · refine lv_tableIn (pc := 69) (tgt := 172) (off := 103) hx hb dX11_ask_69 (by rw [q6]; decide) (by rw [q6]; decide) (by rw [q6]; rfl) (by decide) ?_
      have h := ite_t q6 h
      refine lv_aload_n (pc := 172) hx hb dX11_ask_172 rfl (lv_at hl 0 rfl) ?_
      refine s_getR (pc := 173) F w 65 ds_61 (j := 3) vc_X11 vi_X11 rfl (by decide) kf_X11_33 dX11_ask_173 ?_
      refine lv_iload_n (pc := 176) hx hb dX11_ask_176 rfl (lv_at hl 1 rfl) ?_
      refine lv_iconst (pc := 177) (v := 4) hx hb dX11_ask_177 (by decide) ?_
      obtain ⟨r23, S22, hc, h⟩ := bnd_t h
      refine s_cvi (pc := 178) [.int x1, .int (4 : Int32)] (fun ad => [.ref (ad 65), .int x1, .int (4 : Int32)]) F w (m_Stock_get _ _ _ _ _ hc) rfl rfl hl.1 ds_65 vc_X9 rfl ok_X9_get rfl kc_X9_get kl_X11_335 ki_X9_get kv_X9_get kn_X9 ⟨Nat.le_trans (by decide) hR1, Nat.le_trans (by decide) hR2⟩ ⟨Nat.zero_le _, Nat.zero_le _⟩ (Nat.le_of_ble_eq_true rfl) dX11_ask_178 (fun H locs w => ?_)
      exact s_iret F w h dX11_ask_181
    have h := ite_f q6 h
    refine lv_tableOut (pc := 69) (tgt := 182) hx hb dX11_ask_69 (by have zq0 := i32ne q0 (show ((0 : Int32)).toInt = 0 by decide); have zq1 := i32ne q1 (show ((1 : Int32)).toInt = 1 by decide); have zq2 := i32ne q2 (show ((2 : Int32)).toInt = 2 by decide); have zq3 := i32ne q3 (show ((3 : Int32)).toInt = 3 by decide); have zq4 := i32ne q4 (show ((4 : Int32)).toInt = 4 by decide); have zq5 := i32ne q5 (show ((5 : Int32)).toInt = 5 by decide); have zq6 := i32ne q6 (show ((6 : Int32)).toInt = 6 by decide); omega) (by decide) ?_
    refine lv_aload_n (pc := 182) hx hb dX11_ask_182 rfl (lv_at hl 0 rfl) ?_
    refine s_getR (pc := 183) F w 65 ds_61 (j := 3) vc_X11 vi_X11 rfl (by decide) kf_X11_33 dX11_ask_183 ?_
    refine lv_iload_n (pc := 186) hx hb dX11_ask_186 rfl (lv_at hl 1 rfl) ?_
    refine lv_iconst (pc := 187) (v := 1) hx hb dX11_ask_187 (by decide) ?_
    obtain ⟨r25, S24, hc, h⟩ := bnd_t h
    refine s_cvi (pc := 188) [.int x1, .int (1 : Int32)] (fun ad => [.ref (ad 65), .int x1, .int (1 : Int32)]) F w (m_Stock_get _ _ _ _ _ hc) rfl rfl hl.1 ds_65 vc_X9 rfl ok_X9_get rfl kc_X9_get kl_X11_335 ki_X9_get kv_X9_get kn_X9 ⟨Nat.le_trans (by decide) hR1, Nat.le_trans (by decide) hR2⟩ ⟨Nat.zero_le _, Nat.zero_le _⟩ (Nat.le_of_ble_eq_true rfl) dX11_ask_188 (fun H locs w => ?_)
    exact s_iret F w h dX11_ask_191
  · have h := ite_f q h
    refine lv_aload_n (pc := 59) hx hb dX11_ask_59 rfl (lv_at hl 0 rfl) ?_
    refine s_getR (pc := 60) F w 62 ds_61 (j := 0) vc_X11 vi_X11 rfl (by decide) kf_X11_10 dX11_ask_60 ?_
    refine lv_iload_n (pc := 63) hx hb dX11_ask_63 rfl (lv_at hl 3 rfl) ?_
    obtain ⟨r27, S26, hc, h⟩ := bnd_t h
    refine s_cvi (pc := 64) [.int x3] (fun ad => [.ref (ad 62), .int x3]) F w (m_Report_found _ _ _ _ hc) rfl rfl hl.1 ds_62 vc_X5 rfl ok_X5_found rfl kc_X5_found kl_X11_98 ki_X5_found kv_X5_found kn_X5 ⟨Nat.le_trans (by decide) hR1, Nat.le_trans (by decide) hR2⟩ ⟨Nat.zero_le _, Nat.zero_le _⟩ (Nat.le_of_ble_eq_true rfl) dX11_ask_64 (fun H locs w => ?_)
    exact s_iret F w h dX11_ask_67
set_option maxRecDepth 100000 in
set_option maxHeartbeats 4000000 in
theorem m_Yard_ask (a1 : Int32) (a2 : Int32) (S S' : SS) (r : Int32) (h : f_Yard_ask a1 a2 S = some (r, S')) : MT yX11_ask cX11_ask 4 (some .int) 5 108 (fun ad => [.ref (ad 61), .int a1, .int a2]) S (some (.int r)) S' := by
  refine MT.of RX11 (fun ad => [(0, .ref (ad 61)), (1, .int a1), (2, .int a2)]) (by decide) rfl (fun _ => Nat.le_of_ble_eq_true rfl) (fun _ => rfl) ?_
  intro p l e R s m args below meth c dC dI cs ad A hR1 hR2 F H locs ls w hl
  have hx := F.1.1
  have hb := F.1.2.1
  rw [f_Yard_ask] at h
  refine lv_iload_n (pc := 0) hx hb dX11_ask_0 rfl (lv_at hl 2 rfl) ?_
  refine lv_iconst (pc := 1) (v := 0) hx hb dX11_ask_1 (by decide) ?_
  refine lv_bipush (pc := 2) (v := 7) hx hb dX11_ask_2 (by decide) ?_
  obtain ⟨r2, S1, hc, h⟩ := bnd_t h
  refine s_csi (pc := 4) [.int a2, .int (0 : Int32), .int (7 : Int32)] (fun ad => [.int a2, .int (0 : Int32), .int (7 : Int32)]) F w (m_Yard_isNot _ _ _ _ _ _ hc) rfl rfl hl.1 ok_X11_isNot rfl kc_X11_isNot kl_X11_108 ks_X11_isNot kn_X11 ⟨Nat.le_trans (by decide) hR1, Nat.le_trans (by decide) hR2⟩ ⟨Nat.zero_le _, Nat.zero_le _⟩ (Nat.le_of_ble_eq_true rfl) dX11_ask_4 (fun H locs w => ?_)
  refine lv_if_eq (pc := 7) (tgt := 12) hx hb dX11_ask_7 (by decide) (fun q => ?_) (fun q => ?_)
  · have h := ite_t q h
    refine lv_aload_n (pc := 12) hx hb dX11_ask_12 rfl (lv_at hl 0 rfl) ?_
    refine s_getR (pc := 13) F w 62 ds_61 (j := 0) vc_X11 vi_X11 rfl (by decide) kf_X11_10 dX11_ask_13 ?_
    obtain ⟨S3, hc, h⟩ := bndv_t h
    refine s_cvv (pc := 16) [] (fun ad => [.ref (ad 62)]) F w (m_Report_begin  _ _ hc) rfl rfl hl.1 ds_62 vc_X5 rfl ok_X5_begin rfl kc_X5_begin kl_X11_95 ki_X5_begin kv_X5_begin kn_X5 ⟨Nat.le_trans (by decide) hR1, Nat.le_trans (by decide) hR2⟩ ⟨Nat.zero_le _, Nat.zero_le _⟩ (Nat.le_of_ble_eq_true rfl) dX11_ask_16 (fun H locs w => ?_)
    refine lv_aload_n (pc := 19) hx hb dX11_ask_19 rfl (lv_at hl 0 rfl) ?_
    refine lv_iload_n (pc := 20) hx hb dX11_ask_20 rfl (lv_at hl 1 rfl) ?_
    refine lv_iload_n (pc := 21) hx hb dX11_ask_21 rfl (lv_at hl 2 rfl) ?_
    obtain ⟨r5, S4, hc, h⟩ := bnd_t h
    refine s_csi (pc := 22) [.int a2] (fun ad => [.int a2]) F w (m_Yard_wantedFor _ _ _ _ hc) rfl rfl hl.1 ok_X11_wantedFor rfl kc_X11_wantedFor kl_X11_354 ks_X11_wantedFor kn_X11 ⟨Nat.le_trans (by decide) hR1, Nat.le_trans (by decide) hR2⟩ ⟨Nat.zero_le _, Nat.zero_le _⟩ (Nat.le_of_ble_eq_true rfl) dX11_ask_22 (fun H locs w => ?_)
    obtain ⟨r7, S6, hc, h⟩ := bnd_t h
    refine s_cvi (pc := 25) [.int a1, .int r5] (fun ad => [.ref (ad 61), .int a1, .int r5]) F w (m_Yard_named _ _ _ _ _ hc) rfl rfl hl.1 ds_61 vc_X11 rfl ok_X11_named rfl kc_X11_named kl_X11_185 ki_X11_named kv_X11_named kn_X11 ⟨Nat.le_trans (by decide) hR1, Nat.le_trans (by decide) hR2⟩ ⟨Nat.zero_le _, Nat.zero_le _⟩ (Nat.le_of_ble_eq_true rfl) dX11_ask_25 (fun H locs w => ?_)
    refine lv_istore_n (pc := 28) (lv' := [(3, .int r7), (0, .ref (ad 61)), (1, .int a1), (2, .int a2)]) hx hb dX11_ask_28 rfl hl (by decide) rfl (fun ls hl => ?_)
    refine lv_iload_n (pc := 29) hx hb dX11_ask_29 rfl (lv_at hl 0 rfl) ?_
    refine lv_if_ne (pc := 30) (tgt := 55) hx hb dX11_ask_30 (by decide) (fun q => ?_) (fun q => ?_)
    · have h := ite_f q h
      exact w_Yard_ask_j55 F (Nat.le_trans (by decide) hR1) (Nat.le_trans (by decide) hR2) _ _ _ _ h _ _ _ w (lv_sub hl [1, 2, 3, 0] rfl)
    · have h := ite_t q h
      refine lv_iload_n (pc := 33) hx hb dX11_ask_33 rfl (lv_at hl 3 rfl) ?_
      refine lv_bipush (pc := 34) (v := 6) hx hb dX11_ask_34 (by decide) ?_
      refine lv_icmp_ne (pc := 36) (tgt := 55) hx hb dX11_ask_36 (by decide) (fun q => ?_) (fun q => ?_)
      · have h := ite_f q h
        exact w_Yard_ask_j55 F (Nat.le_trans (by decide) hR1) (Nat.le_trans (by decide) hR2) _ _ _ _ h _ _ _ w (lv_sub hl [1, 2, 3, 0] rfl)
      · have h := ite_t q h
        refine lv_aload_n (pc := 39) hx hb dX11_ask_39 rfl (lv_at hl 1 rfl) ?_
        refine s_getR (pc := 40) F w 65 ds_61 (j := 3) vc_X11 vi_X11 rfl (by decide) kf_X11_33 dX11_ask_40 ?_
        refine lv_iload_n (pc := 43) hx hb dX11_ask_43 rfl (lv_at hl 2 rfl) ?_
        refine lv_iconst (pc := 44) (v := 3) hx hb dX11_ask_44 (by decide) ?_
        obtain ⟨r29, S28, hc, h⟩ := bnd_t h
        refine s_cvi (pc := 45) [.int a1, .int (3 : Int32)] (fun ad => [.ref (ad 65), .int a1, .int (3 : Int32)]) F w (m_Stock_get _ _ _ _ _ hc) rfl rfl hl.1 ds_65 vc_X9 rfl ok_X9_get rfl kc_X9_get kl_X11_335 ki_X9_get kv_X9_get kn_X9 ⟨Nat.le_trans (by decide) hR1, Nat.le_trans (by decide) hR2⟩ ⟨Nat.zero_le _, Nat.zero_le _⟩ (Nat.le_of_ble_eq_true rfl) dX11_ask_45 (fun H locs w => ?_)
        refine lv_bipush (pc := 48) (v := -4) hx hb dX11_ask_48 (by decide) ?_
        refine lv_icmp_ne (pc := 50) (tgt := 55) hx hb dX11_ask_50 (by decide) (fun q => ?_) (fun q => ?_)
        · have h := ite_f q h
          exact w_Yard_ask_j55 F (Nat.le_trans (by decide) hR1) (Nat.le_trans (by decide) hR2) _ _ _ _ h _ _ _ w (lv_sub hl [1, 2, 3, 0] rfl)
        · have h := ite_t q h
          refine lv_iconst (pc := 53) (v := 1) hx hb dX11_ask_53 (by decide) ?_
          refine lv_istore_n (pc := 54) (lv' := [(3, .int (1 : Int32)), (0, .ref (ad 61)), (1, .int a1), (2, .int a2)]) hx hb dX11_ask_54 rfl hl (by decide) rfl (fun ls hl => ?_)
          exact w_Yard_ask_j55 F (Nat.le_trans (by decide) hR1) (Nat.le_trans (by decide) hR2) _ _ _ _ h _ _ _ w (lv_sub hl [1, 2, 3, 0] rfl)
  · have h := ite_f q h
    refine lv_iconst (pc := 10) (v := -1) hx hb dX11_ask_10 (by decide) ?_
    exact s_iret F w h dX11_ask_11
def f_Yard_meet_L54  : Nat → Int32 → Int32 → Int32 → SS → Option (Int32 × SS)
  | 0, _, _, _, _ => none
  | n + 1, x3, x5, x6, S =>
    if x3 ≤ x6 then
      some (x5 >>> ((1 : Int32) &&& 31), S)
    else
      bnd (f_Trains_onward x5 S) (fun r8 S7 =>
      if r8 = (-4 : Int32) then
        bnd (f_Report_found (1 : Int32) S7) (fun r11 S10 =>
        some (r11, S10))
      else
        nm (x6 + (1 : Int32)) (fun z9 =>
        f_Yard_meet_L54 n x3 r8 z9 S7))
def f_Yard_meet (a1 : Int32) (a2 : Int32) (a3 : Int32) (S : SS) : Option (Int32 × SS) :=
  bnd (f_Yard_isNot a3 (0 : Int32) (100 : Int32) S) (fun r2 S1 =>
  if r2 = 0 then
    bndv (f_Report_begin  S1) (fun S3 =>
    bnd (f_Yard_namedSide a1 (127 : Int32) a2 S3) (fun r5 S4 =>
    if r5 = 0 then
      nm (((2 : Int32) * a1) + a2) (fun z6 =>
      f_Yard_meet_L54 NF a3 z6 (0 : Int32) S4)
    else
      bnd (f_Report_found r5 S4) (fun r13 S12 =>
      some (r13, S12))))
  else
    some ((-1 : Int32), S1))
theorem dX11_meet_0 : decode cX11_meet 0 = .ok (.iload_n 3, 1) := dc_29 (by decide +kernel)
theorem dX11_meet_1 : decode cX11_meet 1 = .ok (.iconst 0, 1) := dc_3 (by decide +kernel)
theorem dX11_meet_2 : decode cX11_meet 2 = .ok (.bipush 100, 2) := dc_16 (a := 100) (by decide +kernel) (by decide)
theorem dX11_meet_4 : decode cX11_meet 4 = .ok (.invokestatic 108, 3) := dc_184 (a := 0) (b := 108) (by decide +kernel)
theorem dX11_meet_7 : decode cX11_meet 7 = .ok (.ifCond .eq 5, 3) := dc_153 (a := 0) (b := 5) (by decide +kernel) (by decide)
theorem dX11_meet_10 : decode cX11_meet 10 = .ok (.iconst (-1), 1) := dc_2 (by decide +kernel)
theorem dX11_meet_11 : decode cX11_meet 11 = .ok (.ireturn, 1) := dc_172 (by decide +kernel)
theorem dX11_meet_12 : decode cX11_meet 12 = .ok (.aload_n 0, 1) := dc_42 (by decide +kernel)
theorem dX11_meet_13 : decode cX11_meet 13 = .ok (.getfield 10, 3) := dc_180 (a := 0) (b := 10) (by decide +kernel)
theorem dX11_meet_16 : decode cX11_meet 16 = .ok (.invokevirtual 95, 3) := dc_182 (a := 0) (b := 95) (by decide +kernel)
theorem dX11_meet_19 : decode cX11_meet 19 = .ok (.aload_n 0, 1) := dc_42 (by decide +kernel)
theorem dX11_meet_20 : decode cX11_meet 20 = .ok (.iload_n 1, 1) := dc_27 (by decide +kernel)
theorem dX11_meet_21 : decode cX11_meet 21 = .ok (.bipush 127, 2) := dc_16 (a := 127) (by decide +kernel) (by decide)
theorem dX11_meet_23 : decode cX11_meet 23 = .ok (.iload_n 2, 1) := dc_28 (by decide +kernel)
theorem dX11_meet_24 : decode cX11_meet 24 = .ok (.invokevirtual 259, 3) := dc_182 (a := 1) (b := 3) (by decide +kernel)
theorem dX11_meet_27 : decode cX11_meet 27 = .ok (.istore 4, 2) := dc_54 (a := 4) (by decide +kernel)
theorem dX11_meet_29 : decode cX11_meet 29 = .ok (.iload 4, 2) := dc_21 (a := 4) (by decide +kernel)
theorem dX11_meet_31 : decode cX11_meet 31 = .ok (.ifCond .eq 13, 3) := dc_153 (a := 0) (b := 13) (by decide +kernel) (by decide)
theorem dX11_meet_34 : decode cX11_meet 34 = .ok (.aload_n 0, 1) := dc_42 (by decide +kernel)
theorem dX11_meet_35 : decode cX11_meet 35 = .ok (.getfield 10, 3) := dc_180 (a := 0) (b := 10) (by decide +kernel)
theorem dX11_meet_38 : decode cX11_meet 38 = .ok (.iload 4, 2) := dc_21 (a := 4) (by decide +kernel)
theorem dX11_meet_40 : decode cX11_meet 40 = .ok (.invokevirtual 98, 3) := dc_182 (a := 0) (b := 98) (by decide +kernel)
theorem dX11_meet_43 : decode cX11_meet 43 = .ok (.ireturn, 1) := dc_172 (by decide +kernel)
theorem dX11_meet_44 : decode cX11_meet 44 = .ok (.iconst 2, 1) := dc_5 (by decide +kernel)
theorem dX11_meet_45 : decode cX11_meet 45 = .ok (.iload_n 1, 1) := dc_27 (by decide +kernel)
theorem dX11_meet_46 : decode cX11_meet 46 = .ok (.imul, 1) := dc_104 (by decide +kernel)
theorem dX11_meet_47 : decode cX11_meet 47 = .ok (.iload_n 2, 1) := dc_28 (by decide +kernel)
theorem dX11_meet_48 : decode cX11_meet 48 = .ok (.iadd, 1) := dc_96 (by decide +kernel)
theorem dX11_meet_49 : decode cX11_meet 49 = .ok (.istore 5, 2) := dc_54 (a := 5) (by decide +kernel)
theorem dX11_meet_51 : decode cX11_meet 51 = .ok (.iconst 0, 1) := dc_3 (by decide +kernel)
theorem dX11_meet_52 : decode cX11_meet 52 = .ok (.istore 6, 2) := dc_54 (a := 6) (by decide +kernel)
theorem dX11_meet_54 : decode cX11_meet 54 = .ok (.iload 6, 2) := dc_21 (a := 6) (by decide +kernel)
theorem dX11_meet_56 : decode cX11_meet 56 = .ok (.iload_n 3, 1) := dc_29 (by decide +kernel)
theorem dX11_meet_57 : decode cX11_meet 57 = .ok (.if_icmp .ge 36, 3) := dc_162 (a := 0) (b := 36) (by decide +kernel) (by decide)
theorem dX11_meet_60 : decode cX11_meet 60 = .ok (.aload_n 0, 1) := dc_42 (by decide +kernel)
theorem dX11_meet_61 : decode cX11_meet 61 = .ok (.getfield 58, 3) := dc_180 (a := 0) (b := 58) (by decide +kernel)
theorem dX11_meet_64 : decode cX11_meet 64 = .ok (.iload 5, 2) := dc_21 (a := 5) (by decide +kernel)
theorem dX11_meet_66 : decode cX11_meet 66 = .ok (.invokevirtual 360, 3) := dc_182 (a := 1) (b := 104) (by decide +kernel)
theorem dX11_meet_69 : decode cX11_meet 69 = .ok (.istore 5, 2) := dc_54 (a := 5) (by decide +kernel)
theorem dX11_meet_71 : decode cX11_meet 71 = .ok (.iload 5, 2) := dc_21 (a := 5) (by decide +kernel)
theorem dX11_meet_73 : decode cX11_meet 73 = .ok (.bipush (-4), 2) := dc_16 (a := 252) (by decide +kernel) (by decide)
theorem dX11_meet_75 : decode cX11_meet 75 = .ok (.if_icmp .ne 12, 3) := dc_160 (a := 0) (b := 12) (by decide +kernel) (by decide)
theorem dX11_meet_78 : decode cX11_meet 78 = .ok (.aload_n 0, 1) := dc_42 (by decide +kernel)
theorem dX11_meet_79 : decode cX11_meet 79 = .ok (.getfield 10, 3) := dc_180 (a := 0) (b := 10) (by decide +kernel)
theorem dX11_meet_82 : decode cX11_meet 82 = .ok (.iconst 1, 1) := dc_4 (by decide +kernel)
theorem dX11_meet_83 : decode cX11_meet 83 = .ok (.invokevirtual 98, 3) := dc_182 (a := 0) (b := 98) (by decide +kernel)
theorem dX11_meet_86 : decode cX11_meet 86 = .ok (.ireturn, 1) := dc_172 (by decide +kernel)
theorem dX11_meet_87 : decode cX11_meet 87 = .ok (.iinc 6 1, 3) := dc_132 (a := 6) (b := 1) (by decide +kernel) (by decide)
theorem dX11_meet_90 : decode cX11_meet 90 = .ok (.goto (-36), 3) := dc_167 (a := 255) (b := 220) (by decide +kernel) (by decide)
theorem dX11_meet_93 : decode cX11_meet 93 = .ok (.iload 5, 2) := dc_21 (a := 5) (by decide +kernel)
theorem dX11_meet_95 : decode cX11_meet 95 = .ok (.iconst 1, 1) := dc_4 (by decide +kernel)
theorem dX11_meet_96 : decode cX11_meet 96 = .ok (.ishr, 1) := dc_122 (by decide +kernel)
theorem dX11_meet_97 : decode cX11_meet 97 = .ok (.ireturn, 1) := dc_172 (by decide +kernel)
set_option maxRecDepth 100000 in
set_option maxHeartbeats 4000000 in
theorem w_Yard_meet_L54 {p : Program} {l : Launch} {e : Env} {R : Room} {s : State} {m : MethodId} {args : Array Value} {below : List Frame} {meth : Method} {c : Code} {dC : Nat → ClassId} {dI : Nat → Nat → Nat} {cs : Nat → ClassId} {ad : Nat → Nat} {A : Nat → Prop} {D0 : Nat → Nat} {S' : SS} {r : Int32} (F : Fx p s m args meth c cX11_meet 7 RX11 (some .int) dC dI cs A) (hR1 : 2 ≤ R.frames) (hR2 : 44 ≤ R.locals) : ∀ (n : Nat) (x3 : Int32) (x5 : Int32) (x6 : Int32) (S : SS), f_Yard_meet_L54 n x3 x5 x6 S = some (r, S') → AW p l e R s m args below meth c dC dI cs ad A D0 (some (.int r)) S' 7 54 [(0, .ref (ad 61)), (3, .int x3), (5, .int x5), (6, .int x6)] [] S := by
  have hx := F.1.1
  have hb := F.1.2.1
  intro n
  induction n with
  | zero => intro x3 x5 x6 S h; cases h
  | succ n ih =>
    intro x3 x5 x6 S h H locs ls w hl
    rw [f_Yard_meet_L54] at h
    refine lv_iload (pc := 54) hx hb dX11_meet_54 (lv_at hl 3 rfl) ?_
    refine lv_iload_n (pc := 56) hx hb dX11_meet_56 rfl (lv_at hl 1 rfl) ?_
    refine lv_icmp_ge (pc := 57) (tgt := 93) hx hb dX11_meet_57 (by decide) (fun q => ?_) (fun q => ?_)
    · have h := ite_t q h
      refine lv_iload (pc := 93) hx hb dX11_meet_93 (lv_at hl 2 rfl) ?_
      refine lv_iconst (pc := 95) (v := 1) hx hb dX11_meet_95 (by decide) ?_
      refine lv_ishr (pc := 96) hx hb dX11_meet_96 ?_
      exact s_iret F w h dX11_meet_97
    · have h := ite_f q h
      refine lv_aload_n (pc := 60) hx hb dX11_meet_60 rfl (lv_at hl 0 rfl) ?_
      refine s_getR (pc := 61) F w 68 ds_61 (j := 6) vc_X11 vi_X11 rfl (by decide) kf_X11_58 dX11_meet_61 ?_
      refine lv_iload (pc := 64) hx hb dX11_meet_64 (lv_at hl 2 rfl) ?_
      obtain ⟨r8, S7, hc, h⟩ := bnd_t h
      refine s_cvi (pc := 66) [.int x5] (fun ad => [.ref (ad 68), .int x5]) F w (m_Trains_onward _ _ _ _ hc) rfl rfl hl.1 ds_68 vc_X10 rfl ok_X10_onward rfl kc_X10_onward kl_X11_360 ki_X10_onward kv_X10_onward kn_X10 ⟨Nat.le_trans (by decide) hR1, Nat.le_trans (by decide) hR2⟩ ⟨Nat.zero_le _, Nat.zero_le _⟩ (Nat.le_of_ble_eq_true rfl) dX11_meet_66 (fun H locs w => ?_)
      refine lv_istore (pc := 69) (lv' := [(5, .int r8), (0, .ref (ad 61)), (3, .int x3), (6, .int x6)]) hx hb dX11_meet_69 hl (by decide) rfl (fun ls hl => ?_)
      refine lv_iload (pc := 71) hx hb dX11_meet_71 (lv_at hl 0 rfl) ?_
      refine lv_bipush (pc := 73) (v := -4) hx hb dX11_meet_73 (by decide) ?_
      refine lv_icmp_ne (pc := 75) (tgt := 87) hx hb dX11_meet_75 (by decide) (fun q => ?_) (fun q => ?_)
      · have h := ite_f q h
        refine s_nm h (fun z9 ez9 h => ?_)
        refine lv_iinc (pc := 87) (v := z9) (lv' := [(6, .int z9), (5, .int r8), (0, .ref (ad 61)), (3, .int x3)]) hx hb dX11_meet_87 hl (k := 3) rfl (by rw [ez9]; rfl) (by decide) rfl (fun ls hl => ?_)
        refine lv_goto (pc := 90) (tgt := 54) hx hb dX11_meet_90 (by decide) ?_
        exact ih _ _ _ _ h _ _ _ w (lv_sub hl [2, 3, 1, 0] rfl)
      · have h := ite_t q h
        refine lv_aload_n (pc := 78) hx hb dX11_meet_78 rfl (lv_at hl 1 rfl) ?_
        refine s_getR (pc := 79) F w 62 ds_61 (j := 0) vc_X11 vi_X11 rfl (by decide) kf_X11_10 dX11_meet_79 ?_
        refine lv_iconst (pc := 82) (v := 1) hx hb dX11_meet_82 (by decide) ?_
        obtain ⟨r11, S10, hc, h⟩ := bnd_t h
        refine s_cvi (pc := 83) [.int (1 : Int32)] (fun ad => [.ref (ad 62), .int (1 : Int32)]) F w (m_Report_found _ _ _ _ hc) rfl rfl hl.1 ds_62 vc_X5 rfl ok_X5_found rfl kc_X5_found kl_X11_98 ki_X5_found kv_X5_found kn_X5 ⟨Nat.le_trans (by decide) hR1, Nat.le_trans (by decide) hR2⟩ ⟨Nat.zero_le _, Nat.zero_le _⟩ (Nat.le_of_ble_eq_true rfl) dX11_meet_83 (fun H locs w => ?_)
        exact s_iret F w h dX11_meet_86
set_option maxRecDepth 100000 in
set_option maxHeartbeats 4000000 in
theorem m_Yard_meet (a1 : Int32) (a2 : Int32) (a3 : Int32) (S S' : SS) (r : Int32) (h : f_Yard_meet a1 a2 a3 S = some (r, S')) : MT yX11_meet cX11_meet 7 (some .int) 4 91 (fun ad => [.ref (ad 61), .int a1, .int a2, .int a3]) S (some (.int r)) S' := by
  refine MT.of RX11 (fun ad => [(0, .ref (ad 61)), (1, .int a1), (2, .int a2), (3, .int a3)]) (by decide) rfl (fun _ => Nat.le_of_ble_eq_true rfl) (fun _ => rfl) ?_
  intro p l e R s m args below meth c dC dI cs ad A hR1 hR2 F H locs ls w hl
  have hx := F.1.1
  have hb := F.1.2.1
  rw [f_Yard_meet] at h
  refine lv_iload_n (pc := 0) hx hb dX11_meet_0 rfl (lv_at hl 3 rfl) ?_
  refine lv_iconst (pc := 1) (v := 0) hx hb dX11_meet_1 (by decide) ?_
  refine lv_bipush (pc := 2) (v := 100) hx hb dX11_meet_2 (by decide) ?_
  obtain ⟨r2, S1, hc, h⟩ := bnd_t h
  refine s_csi (pc := 4) [.int a3, .int (0 : Int32), .int (100 : Int32)] (fun ad => [.int a3, .int (0 : Int32), .int (100 : Int32)]) F w (m_Yard_isNot _ _ _ _ _ _ hc) rfl rfl hl.1 ok_X11_isNot rfl kc_X11_isNot kl_X11_108 ks_X11_isNot kn_X11 ⟨Nat.le_trans (by decide) hR1, Nat.le_trans (by decide) hR2⟩ ⟨Nat.zero_le _, Nat.zero_le _⟩ (Nat.le_of_ble_eq_true rfl) dX11_meet_4 (fun H locs w => ?_)
  refine lv_if_eq (pc := 7) (tgt := 12) hx hb dX11_meet_7 (by decide) (fun q => ?_) (fun q => ?_)
  · have h := ite_t q h
    refine lv_aload_n (pc := 12) hx hb dX11_meet_12 rfl (lv_at hl 0 rfl) ?_
    refine s_getR (pc := 13) F w 62 ds_61 (j := 0) vc_X11 vi_X11 rfl (by decide) kf_X11_10 dX11_meet_13 ?_
    obtain ⟨S3, hc, h⟩ := bndv_t h
    refine s_cvv (pc := 16) [] (fun ad => [.ref (ad 62)]) F w (m_Report_begin  _ _ hc) rfl rfl hl.1 ds_62 vc_X5 rfl ok_X5_begin rfl kc_X5_begin kl_X11_95 ki_X5_begin kv_X5_begin kn_X5 ⟨Nat.le_trans (by decide) hR1, Nat.le_trans (by decide) hR2⟩ ⟨Nat.zero_le _, Nat.zero_le _⟩ (Nat.le_of_ble_eq_true rfl) dX11_meet_16 (fun H locs w => ?_)
    refine lv_aload_n (pc := 19) hx hb dX11_meet_19 rfl (lv_at hl 0 rfl) ?_
    refine lv_iload_n (pc := 20) hx hb dX11_meet_20 rfl (lv_at hl 1 rfl) ?_
    refine lv_bipush (pc := 21) (v := 127) hx hb dX11_meet_21 (by decide) ?_
    refine lv_iload_n (pc := 23) hx hb dX11_meet_23 rfl (lv_at hl 2 rfl) ?_
    obtain ⟨r5, S4, hc, h⟩ := bnd_t h
    refine s_cvi (pc := 24) [.int a1, .int (127 : Int32), .int a2] (fun ad => [.ref (ad 61), .int a1, .int (127 : Int32), .int a2]) F w (m_Yard_namedSide _ _ _ _ _ _ hc) rfl rfl hl.1 ds_61 vc_X11 rfl ok_X11_namedSide rfl kc_X11_namedSide kl_X11_259 ki_X11_namedSide kv_X11_namedSide kn_X11 ⟨Nat.le_trans (by decide) hR1, Nat.le_trans (by decide) hR2⟩ ⟨Nat.zero_le _, Nat.zero_le _⟩ (Nat.le_of_ble_eq_true rfl) dX11_meet_24 (fun H locs w => ?_)
    refine lv_istore (pc := 27) (lv' := [(4, .int r5), (0, .ref (ad 61)), (1, .int a1), (2, .int a2), (3, .int a3)]) hx hb dX11_meet_27 hl (by decide) rfl (fun ls hl => ?_)
    refine lv_iload (pc := 29) hx hb dX11_meet_29 (lv_at hl 0 rfl) ?_
    refine lv_if_eq (pc := 31) (tgt := 44) hx hb dX11_meet_31 (by decide) (fun q => ?_) (fun q => ?_)
    · have h := ite_t q h
      refine lv_iconst (pc := 44) (v := 2) hx hb dX11_meet_44 (by decide) ?_
      refine lv_iload_n (pc := 45) hx hb dX11_meet_45 rfl (lv_at hl 2 rfl) ?_
      refine lv_imul (pc := 46) hx hb dX11_meet_46 ?_
      refine lv_iload_n (pc := 47) hx hb dX11_meet_47 rfl (lv_at hl 3 rfl) ?_
      refine lv_iadd (pc := 48) hx hb dX11_meet_48 ?_
      refine s_nm h (fun z6 ez6 h => ?_)
      rw [← ez6]
      refine lv_istore (pc := 49) (lv' := [(5, .int z6), (4, .int r5), (0, .ref (ad 61)), (1, .int a1), (2, .int a2), (3, .int a3)]) hx hb dX11_meet_49 hl (by decide) rfl (fun ls hl => ?_)
      refine lv_iconst (pc := 51) (v := 0) hx hb dX11_meet_51 (by decide) ?_
      refine lv_istore (pc := 52) (lv' := [(6, .int (0 : Int32)), (5, .int z6), (4, .int r5), (0, .ref (ad 61)), (1, .int a1), (2, .int a2), (3, .int a3)]) hx hb dX11_meet_52 hl (by decide) rfl (fun ls hl => ?_)
      exact w_Yard_meet_L54 F (Nat.le_trans (by decide) hR1) (Nat.le_trans (by decide) hR2) _ _ _ _ _ h _ _ _ w (lv_sub hl [3, 6, 1, 0] rfl)
    · have h := ite_f q h
      refine lv_aload_n (pc := 34) hx hb dX11_meet_34 rfl (lv_at hl 1 rfl) ?_
      refine s_getR (pc := 35) F w 62 ds_61 (j := 0) vc_X11 vi_X11 rfl (by decide) kf_X11_10 dX11_meet_35 ?_
      refine lv_iload (pc := 38) hx hb dX11_meet_38 (lv_at hl 0 rfl) ?_
      obtain ⟨r13, S12, hc, h⟩ := bnd_t h
      refine s_cvi (pc := 40) [.int r5] (fun ad => [.ref (ad 62), .int r5]) F w (m_Report_found _ _ _ _ hc) rfl rfl hl.1 ds_62 vc_X5 rfl ok_X5_found rfl kc_X5_found kl_X11_98 ki_X5_found kv_X5_found kn_X5 ⟨Nat.le_trans (by decide) hR1, Nat.le_trans (by decide) hR2⟩ ⟨Nat.zero_le _, Nat.zero_le _⟩ (Nat.le_of_ble_eq_true rfl) dX11_meet_40 (fun H locs w => ?_)
      exact s_iret F w h dX11_meet_43
  · have h := ite_f q h
    refine lv_iconst (pc := 10) (v := -1) hx hb dX11_meet_10 (by decide) ?_
    exact s_iret F w h dX11_meet_11
def f_Yard_weigh (a1 : Int32) (S : SS) : Option (Int32 × SS) :=
  bndv (f_Report_begin  S) (fun S1 =>
  bnd (f_Yard_named a1 (127 : Int32) S1) (fun r3 S2 =>
  if r3 = 0 then
    bndv (f_Trains_lineUp ((2 : Int32) * a1) S2) (fun S4 =>
    bnd (f_Yard_lineWeight  S4) (fun r6 S5 =>
    some (r6, S5)))
  else
    bnd (f_Report_found r3 S2) (fun r8 S7 =>
    some (r8, S7))))
theorem dX11_weigh_0 : decode cX11_weigh 0 = .ok (.aload_n 0, 1) := dc_42 (by decide +kernel)
theorem dX11_weigh_1 : decode cX11_weigh 1 = .ok (.getfield 10, 3) := dc_180 (a := 0) (b := 10) (by decide +kernel)
theorem dX11_weigh_4 : decode cX11_weigh 4 = .ok (.invokevirtual 95, 3) := dc_182 (a := 0) (b := 95) (by decide +kernel)
theorem dX11_weigh_7 : decode cX11_weigh 7 = .ok (.aload_n 0, 1) := dc_42 (by decide +kernel)
theorem dX11_weigh_8 : decode cX11_weigh 8 = .ok (.iload_n 1, 1) := dc_27 (by decide +kernel)
theorem dX11_weigh_9 : decode cX11_weigh 9 = .ok (.bipush 127, 2) := dc_16 (a := 127) (by decide +kernel) (by decide)
theorem dX11_weigh_11 : decode cX11_weigh 11 = .ok (.invokevirtual 185, 3) := dc_182 (a := 0) (b := 185) (by decide +kernel)
theorem dX11_weigh_14 : decode cX11_weigh 14 = .ok (.istore_n 2, 1) := dc_61 (by decide +kernel)
theorem dX11_weigh_15 : decode cX11_weigh 15 = .ok (.iload_n 2, 1) := dc_28 (by decide +kernel)
theorem dX11_weigh_16 : decode cX11_weigh 16 = .ok (.ifCond .eq 12, 3) := dc_153 (a := 0) (b := 12) (by decide +kernel) (by decide)
theorem dX11_weigh_19 : decode cX11_weigh 19 = .ok (.aload_n 0, 1) := dc_42 (by decide +kernel)
theorem dX11_weigh_20 : decode cX11_weigh 20 = .ok (.getfield 10, 3) := dc_180 (a := 0) (b := 10) (by decide +kernel)
theorem dX11_weigh_23 : decode cX11_weigh 23 = .ok (.iload_n 2, 1) := dc_28 (by decide +kernel)
theorem dX11_weigh_24 : decode cX11_weigh 24 = .ok (.invokevirtual 98, 3) := dc_182 (a := 0) (b := 98) (by decide +kernel)
theorem dX11_weigh_27 : decode cX11_weigh 27 = .ok (.ireturn, 1) := dc_172 (by decide +kernel)
theorem dX11_weigh_28 : decode cX11_weigh 28 = .ok (.aload_n 0, 1) := dc_42 (by decide +kernel)
theorem dX11_weigh_29 : decode cX11_weigh 29 = .ok (.getfield 58, 3) := dc_180 (a := 0) (b := 58) (by decide +kernel)
theorem dX11_weigh_32 : decode cX11_weigh 32 = .ok (.iconst 2, 1) := dc_5 (by decide +kernel)
theorem dX11_weigh_33 : decode cX11_weigh 33 = .ok (.iload_n 1, 1) := dc_27 (by decide +kernel)
theorem dX11_weigh_34 : decode cX11_weigh 34 = .ok (.imul, 1) := dc_104 (by decide +kernel)
theorem dX11_weigh_35 : decode cX11_weigh 35 = .ok (.invokevirtual 281, 3) := dc_182 (a := 1) (b := 25) (by decide +kernel)
theorem dX11_weigh_38 : decode cX11_weigh 38 = .ok (.aload_n 0, 1) := dc_42 (by decide +kernel)
theorem dX11_weigh_39 : decode cX11_weigh 39 = .ok (.invokevirtual 284, 3) := dc_182 (a := 1) (b := 28) (by decide +kernel)
theorem dX11_weigh_42 : decode cX11_weigh 42 = .ok (.ireturn, 1) := dc_172 (by decide +kernel)
set_option maxRecDepth 100000 in
set_option maxHeartbeats 4000000 in
theorem m_Yard_weigh (a1 : Int32) (S S' : SS) (r : Int32) (h : f_Yard_weigh a1 S = some (r, S')) : MT yX11_weigh cX11_weigh 3 (some .int) 5 107 (fun ad => [.ref (ad 61), .int a1]) S (some (.int r)) S' := by
  refine MT.of RX11 (fun ad => [(0, .ref (ad 61)), (1, .int a1)]) (by decide) rfl (fun _ => Nat.le_of_ble_eq_true rfl) (fun _ => rfl) ?_
  intro p l e R s m args below meth c dC dI cs ad A hR1 hR2 F H locs ls w hl
  have hx := F.1.1
  have hb := F.1.2.1
  rw [f_Yard_weigh] at h
  refine lv_aload_n (pc := 0) hx hb dX11_weigh_0 rfl (lv_at hl 0 rfl) ?_
  refine s_getR (pc := 1) F w 62 ds_61 (j := 0) vc_X11 vi_X11 rfl (by decide) kf_X11_10 dX11_weigh_1 ?_
  obtain ⟨S1, hc, h⟩ := bndv_t h
  refine s_cvv (pc := 4) [] (fun ad => [.ref (ad 62)]) F w (m_Report_begin  _ _ hc) rfl rfl hl.1 ds_62 vc_X5 rfl ok_X5_begin rfl kc_X5_begin kl_X11_95 ki_X5_begin kv_X5_begin kn_X5 ⟨Nat.le_trans (by decide) hR1, Nat.le_trans (by decide) hR2⟩ ⟨Nat.zero_le _, Nat.zero_le _⟩ (Nat.le_of_ble_eq_true rfl) dX11_weigh_4 (fun H locs w => ?_)
  refine lv_aload_n (pc := 7) hx hb dX11_weigh_7 rfl (lv_at hl 0 rfl) ?_
  refine lv_iload_n (pc := 8) hx hb dX11_weigh_8 rfl (lv_at hl 1 rfl) ?_
  refine lv_bipush (pc := 9) (v := 127) hx hb dX11_weigh_9 (by decide) ?_
  obtain ⟨r3, S2, hc, h⟩ := bnd_t h
  refine s_cvi (pc := 11) [.int a1, .int (127 : Int32)] (fun ad => [.ref (ad 61), .int a1, .int (127 : Int32)]) F w (m_Yard_named _ _ _ _ _ hc) rfl rfl hl.1 ds_61 vc_X11 rfl ok_X11_named rfl kc_X11_named kl_X11_185 ki_X11_named kv_X11_named kn_X11 ⟨Nat.le_trans (by decide) hR1, Nat.le_trans (by decide) hR2⟩ ⟨Nat.zero_le _, Nat.zero_le _⟩ (Nat.le_of_ble_eq_true rfl) dX11_weigh_11 (fun H locs w => ?_)
  refine lv_istore_n (pc := 14) (lv' := [(2, .int r3), (0, .ref (ad 61)), (1, .int a1)]) hx hb dX11_weigh_14 rfl hl (by decide) rfl (fun ls hl => ?_)
  refine lv_iload_n (pc := 15) hx hb dX11_weigh_15 rfl (lv_at hl 0 rfl) ?_
  refine lv_if_eq (pc := 16) (tgt := 28) hx hb dX11_weigh_16 (by decide) (fun q => ?_) (fun q => ?_)
  · have h := ite_t q h
    refine lv_aload_n (pc := 28) hx hb dX11_weigh_28 rfl (lv_at hl 1 rfl) ?_
    refine s_getR (pc := 29) F w 68 ds_61 (j := 6) vc_X11 vi_X11 rfl (by decide) kf_X11_58 dX11_weigh_29 ?_
    refine lv_iconst (pc := 32) (v := 2) hx hb dX11_weigh_32 (by decide) ?_
    refine lv_iload_n (pc := 33) hx hb dX11_weigh_33 rfl (lv_at hl 2 rfl) ?_
    refine lv_imul (pc := 34) hx hb dX11_weigh_34 ?_
    obtain ⟨S4, hc, h⟩ := bndv_t h
    refine s_cvv (pc := 35) [.int ((2 : Int32) * a1)] (fun ad => [.ref (ad 68), .int ((2 : Int32) * a1)]) F w (m_Trains_lineUp _ _ _ hc) rfl rfl hl.1 ds_68 vc_X10 rfl ok_X10_lineUp rfl kc_X10_lineUp kl_X11_281 ki_X10_lineUp kv_X10_lineUp kn_X10 ⟨Nat.le_trans (by decide) hR1, Nat.le_trans (by decide) hR2⟩ ⟨Nat.zero_le _, Nat.zero_le _⟩ (Nat.le_of_ble_eq_true rfl) dX11_weigh_35 (fun H locs w => ?_)
    refine lv_aload_n (pc := 38) hx hb dX11_weigh_38 rfl (lv_at hl 1 rfl) ?_
    obtain ⟨r6, S5, hc, h⟩ := bnd_t h
    refine s_cvi (pc := 39) [] (fun ad => [.ref (ad 61)]) F w (m_Yard_lineWeight  _ _ _ hc) rfl rfl hl.1 ds_61 vc_X11 rfl ok_X11_lineWeight rfl kc_X11_lineWeight kl_X11_284 ki_X11_lineWeight kv_X11_lineWeight kn_X11 ⟨Nat.le_trans (by decide) hR1, Nat.le_trans (by decide) hR2⟩ ⟨Nat.zero_le _, Nat.zero_le _⟩ (Nat.le_of_ble_eq_true rfl) dX11_weigh_39 (fun H locs w => ?_)
    exact s_iret F w h dX11_weigh_42
  · have h := ite_f q h
    refine lv_aload_n (pc := 19) hx hb dX11_weigh_19 rfl (lv_at hl 1 rfl) ?_
    refine s_getR (pc := 20) F w 62 ds_61 (j := 0) vc_X11 vi_X11 rfl (by decide) kf_X11_10 dX11_weigh_20 ?_
    refine lv_iload_n (pc := 23) hx hb dX11_weigh_23 rfl (lv_at hl 0 rfl) ?_
    obtain ⟨r8, S7, hc, h⟩ := bnd_t h
    refine s_cvi (pc := 24) [.int r3] (fun ad => [.ref (ad 62), .int r3]) F w (m_Report_found _ _ _ _ hc) rfl rfl hl.1 ds_62 vc_X5 rfl ok_X5_found rfl kc_X5_found kl_X11_98 ki_X5_found kv_X5_found kn_X5 ⟨Nat.le_trans (by decide) hR1, Nat.le_trans (by decide) hR2⟩ ⟨Nat.zero_le _, Nat.zero_le _⟩ (Nat.le_of_ble_eq_true rfl) dX11_weigh_24 (fun H locs w => ?_)
    exact s_iret F w h dX11_weigh_27
def f_Yard_share_L46  : Nat → Int32 → Int32 → Int32 → SS → Option (Int32 × SS)
  | 0, _, _, _, _ => none
  | n + 1, x3, x4, x5, S =>
    if (S.1 68 4) ≤ x5 then
      if x4 = 0 then
        bnd (f_Yard_orZero (-4 : Int32) S) (fun r8 S7 =>
        some (r8, S7))
      else
        grd (!(decide (x4 = 0))) (
        bnd (f_Yard_orZero (((100 : Int32) * x3) / x4) S) (fun r6 S5 =>
        some (r6, S5)))
    else
      bnd (f_Trains_inLine x5 S) (fun r10 S9 =>
      bnd (f_Bodies_brake r10 S9) (fun r12 S11 =>
      nm (x3 + r12) (fun z13 =>
      bnd (f_Trains_inLine x5 S11) (fun r15 S14 =>
      bnd (f_Stock_get r15 (1 : Int32) S14) (fun r17 S16 =>
      nm (x4 + r17) (fun z18 =>
      nm (x5 + (1 : Int32)) (fun z19 =>
      f_Yard_share_L46 n z13 z18 z19 S16)))))))
def f_Yard_share (a1 : Int32) (S : SS) : Option (Int32 × SS) :=
  bndv (f_Report_begin  S) (fun S1 =>
  bnd (f_Yard_named a1 (127 : Int32) S1) (fun r3 S2 =>
  if r3 = 0 then
    bndv (f_Trains_lineUp ((2 : Int32) * a1) S2) (fun S4 =>
    f_Yard_share_L46 NF (0 : Int32) (0 : Int32) (0 : Int32) S4)
  else
    bnd (f_Report_found r3 S2) (fun r21 S20 =>
    some (r21, S20))))
theorem dX11_share_0 : decode cX11_share 0 = .ok (.aload_n 0, 1) := dc_42 (by decide +kernel)
theorem dX11_share_1 : decode cX11_share 1 = .ok (.getfield 10, 3) := dc_180 (a := 0) (b := 10) (by decide +kernel)
theorem dX11_share_4 : decode cX11_share 4 = .ok (.invokevirtual 95, 3) := dc_182 (a := 0) (b := 95) (by decide +kernel)
theorem dX11_share_7 : decode cX11_share 7 = .ok (.aload_n 0, 1) := dc_42 (by decide +kernel)
theorem dX11_share_8 : decode cX11_share 8 = .ok (.iload_n 1, 1) := dc_27 (by decide +kernel)
theorem dX11_share_9 : decode cX11_share 9 = .ok (.bipush 127, 2) := dc_16 (a := 127) (by decide +kernel) (by decide)
theorem dX11_share_11 : decode cX11_share 11 = .ok (.invokevirtual 185, 3) := dc_182 (a := 0) (b := 185) (by decide +kernel)
theorem dX11_share_14 : decode cX11_share 14 = .ok (.istore_n 2, 1) := dc_61 (by decide +kernel)
theorem dX11_share_15 : decode cX11_share 15 = .ok (.iload_n 2, 1) := dc_28 (by decide +kernel)
theorem dX11_share_16 : decode cX11_share 16 = .ok (.ifCond .eq 12, 3) := dc_153 (a := 0) (b := 12) (by decide +kernel) (by decide)
theorem dX11_share_19 : decode cX11_share 19 = .ok (.aload_n 0, 1) := dc_42 (by decide +kernel)
theorem dX11_share_20 : decode cX11_share 20 = .ok (.getfield 10, 3) := dc_180 (a := 0) (b := 10) (by decide +kernel)
theorem dX11_share_23 : decode cX11_share 23 = .ok (.iload_n 2, 1) := dc_28 (by decide +kernel)
theorem dX11_share_24 : decode cX11_share 24 = .ok (.invokevirtual 98, 3) := dc_182 (a := 0) (b := 98) (by decide +kernel)
theorem dX11_share_27 : decode cX11_share 27 = .ok (.ireturn, 1) := dc_172 (by decide +kernel)
theorem dX11_share_28 : decode cX11_share 28 = .ok (.aload_n 0, 1) := dc_42 (by decide +kernel)
theorem dX11_share_29 : decode cX11_share 29 = .ok (.getfield 58, 3) := dc_180 (a := 0) (b := 58) (by decide +kernel)
theorem dX11_share_32 : decode cX11_share 32 = .ok (.iconst 2, 1) := dc_5 (by decide +kernel)
theorem dX11_share_33 : decode cX11_share 33 = .ok (.iload_n 1, 1) := dc_27 (by decide +kernel)
theorem dX11_share_34 : decode cX11_share 34 = .ok (.imul, 1) := dc_104 (by decide +kernel)
theorem dX11_share_35 : decode cX11_share 35 = .ok (.invokevirtual 281, 3) := dc_182 (a := 1) (b := 25) (by decide +kernel)
theorem dX11_share_38 : decode cX11_share 38 = .ok (.iconst 0, 1) := dc_3 (by decide +kernel)
theorem dX11_share_39 : decode cX11_share 39 = .ok (.istore_n 3, 1) := dc_62 (by decide +kernel)
theorem dX11_share_40 : decode cX11_share 40 = .ok (.iconst 0, 1) := dc_3 (by decide +kernel)
theorem dX11_share_41 : decode cX11_share 41 = .ok (.istore 4, 2) := dc_54 (a := 4) (by decide +kernel)
theorem dX11_share_43 : decode cX11_share 43 = .ok (.iconst 0, 1) := dc_3 (by decide +kernel)
theorem dX11_share_44 : decode cX11_share 44 = .ok (.istore 5, 2) := dc_54 (a := 5) (by decide +kernel)
theorem dX11_share_46 : decode cX11_share 46 = .ok (.iload 5, 2) := dc_21 (a := 5) (by decide +kernel)
theorem dX11_share_48 : decode cX11_share 48 = .ok (.aload_n 0, 1) := dc_42 (by decide +kernel)
theorem dX11_share_49 : decode cX11_share 49 = .ok (.getfield 58, 3) := dc_180 (a := 0) (b := 58) (by decide +kernel)
theorem dX11_share_52 : decode cX11_share 52 = .ok (.getfield 296, 3) := dc_180 (a := 1) (b := 40) (by decide +kernel)
theorem dX11_share_55 : decode cX11_share 55 = .ok (.if_icmp .ge 50, 3) := dc_162 (a := 0) (b := 50) (by decide +kernel) (by decide)
theorem dX11_share_58 : decode cX11_share 58 = .ok (.iload_n 3, 1) := dc_29 (by decide +kernel)
theorem dX11_share_59 : decode cX11_share 59 = .ok (.aload_n 0, 1) := dc_42 (by decide +kernel)
theorem dX11_share_60 : decode cX11_share 60 = .ok (.getfield 67, 3) := dc_180 (a := 0) (b := 67) (by decide +kernel)
theorem dX11_share_63 : decode cX11_share 63 = .ok (.aload_n 0, 1) := dc_42 (by decide +kernel)
theorem dX11_share_64 : decode cX11_share 64 = .ok (.getfield 58, 3) := dc_180 (a := 0) (b := 58) (by decide +kernel)
theorem dX11_share_67 : decode cX11_share 67 = .ok (.iload 5, 2) := dc_21 (a := 5) (by decide +kernel)
theorem dX11_share_69 : decode cX11_share 69 = .ok (.invokevirtual 299, 3) := dc_182 (a := 1) (b := 43) (by decide +kernel)
theorem dX11_share_72 : decode cX11_share 72 = .ok (.invokevirtual 323, 3) := dc_182 (a := 1) (b := 67) (by decide +kernel)
theorem dX11_share_75 : decode cX11_share 75 = .ok (.iadd, 1) := dc_96 (by decide +kernel)
theorem dX11_share_76 : decode cX11_share 76 = .ok (.istore_n 3, 1) := dc_62 (by decide +kernel)
theorem dX11_share_77 : decode cX11_share 77 = .ok (.iload 4, 2) := dc_21 (a := 4) (by decide +kernel)
theorem dX11_share_79 : decode cX11_share 79 = .ok (.aload_n 0, 1) := dc_42 (by decide +kernel)
theorem dX11_share_80 : decode cX11_share 80 = .ok (.getfield 33, 3) := dc_180 (a := 0) (b := 33) (by decide +kernel)
theorem dX11_share_83 : decode cX11_share 83 = .ok (.aload_n 0, 1) := dc_42 (by decide +kernel)
theorem dX11_share_84 : decode cX11_share 84 = .ok (.getfield 58, 3) := dc_180 (a := 0) (b := 58) (by decide +kernel)
theorem dX11_share_87 : decode cX11_share 87 = .ok (.iload 5, 2) := dc_21 (a := 5) (by decide +kernel)
theorem dX11_share_89 : decode cX11_share 89 = .ok (.invokevirtual 299, 3) := dc_182 (a := 1) (b := 43) (by decide +kernel)
theorem dX11_share_92 : decode cX11_share 92 = .ok (.iconst 1, 1) := dc_4 (by decide +kernel)
theorem dX11_share_93 : decode cX11_share 93 = .ok (.invokevirtual 335, 3) := dc_182 (a := 1) (b := 79) (by decide +kernel)
theorem dX11_share_96 : decode cX11_share 96 = .ok (.iadd, 1) := dc_96 (by decide +kernel)
theorem dX11_share_97 : decode cX11_share 97 = .ok (.istore 4, 2) := dc_54 (a := 4) (by decide +kernel)
theorem dX11_share_99 : decode cX11_share 99 = .ok (.iinc 5 1, 3) := dc_132 (a := 5) (b := 1) (by decide +kernel) (by decide)
theorem dX11_share_102 : decode cX11_share 102 = .ok (.goto (-56), 3) := dc_167 (a := 255) (b := 200) (by decide +kernel) (by decide)
theorem dX11_share_105 : decode cX11_share 105 = .ok (.aload_n 0, 1) := dc_42 (by decide +kernel)
theorem dX11_share_106 : decode cX11_share 106 = .ok (.iload 4, 2) := dc_21 (a := 4) (by decide +kernel)
theorem dX11_share_108 : decode cX11_share 108 = .ok (.ifCond .ne 8, 3) := dc_154 (a := 0) (b := 8) (by decide +kernel) (by decide)
theorem dX11_share_111 : decode cX11_share 111 = .ok (.bipush (-4), 2) := dc_16 (a := 252) (by decide +kernel) (by decide)
theorem dX11_share_113 : decode cX11_share 113 = .ok (.goto 10, 3) := dc_167 (a := 0) (b := 10) (by decide +kernel) (by decide)
theorem dX11_share_116 : decode cX11_share 116 = .ok (.bipush 100, 2) := dc_16 (a := 100) (by decide +kernel) (by decide)
theorem dX11_share_118 : decode cX11_share 118 = .ok (.iload_n 3, 1) := dc_29 (by decide +kernel)
theorem dX11_share_119 : decode cX11_share 119 = .ok (.imul, 1) := dc_104 (by decide +kernel)
theorem dX11_share_120 : decode cX11_share 120 = .ok (.iload 4, 2) := dc_21 (a := 4) (by decide +kernel)
theorem dX11_share_122 : decode cX11_share 122 = .ok (.idiv, 1) := dc_108 (by decide +kernel)
theorem dX11_share_123 : decode cX11_share 123 = .ok (.invokevirtual 357, 3) := dc_182 (a := 1) (b := 101) (by decide +kernel)
theorem dX11_share_126 : decode cX11_share 126 = .ok (.ireturn, 1) := dc_172 (by decide +kernel)
set_option maxRecDepth 100000 in
set_option maxHeartbeats 4000000 in
theorem w_Yard_share_L46 {p : Program} {l : Launch} {e : Env} {R : Room} {s : State} {m : MethodId} {args : Array Value} {below : List Frame} {meth : Method} {c : Code} {dC : Nat → ClassId} {dI : Nat → Nat → Nat} {cs : Nat → ClassId} {ad : Nat → Nat} {A : Nat → Prop} {D0 : Nat → Nat} {S' : SS} {r : Int32} (F : Fx p s m args meth c cX11_share 6 RX11 (some .int) dC dI cs A) (hR1 : 3 ≤ R.frames) (hR2 : 65 ≤ R.locals) : ∀ (n : Nat) (x3 : Int32) (x4 : Int32) (x5 : Int32) (S : SS), f_Yard_share_L46 n x3 x4 x5 S = some (r, S') → AW p l e R s m args below meth c dC dI cs ad A D0 (some (.int r)) S' 6 46 [(0, .ref (ad 61)), (3, .int x3), (4, .int x4), (5, .int x5)] [] S := by
  have hx := F.1.1
  have hb := F.1.2.1
  intro n
  induction n with
  | zero => intro x3 x4 x5 S h; cases h
  | succ n ih =>
    intro x3 x4 x5 S h H locs ls w hl
    rw [f_Yard_share_L46] at h
    refine lv_iload (pc := 46) hx hb dX11_share_46 (lv_at hl 3 rfl) ?_
    refine lv_aload_n (pc := 48) hx hb dX11_share_48 rfl (lv_at hl 0 rfl) ?_
    refine s_getR (pc := 49) F w 68 ds_61 (j := 6) vc_X11 vi_X11 rfl (by decide) kf_X11_58 dX11_share_49 ?_
    refine s_getI (pc := 52) F w ds_68 (j := 4) vc_X10 vi_X10 rfl (by decide) kf_X11_296 dX11_share_52 ?_
    refine lv_icmp_ge (pc := 55) (tgt := 105) hx hb dX11_share_55 (by decide) (fun q => ?_) (fun q => ?_)
    · have h := ite_t q h
      refine lv_aload_n (pc := 105) hx hb dX11_share_105 rfl (lv_at hl 0 rfl) ?_
      refine lv_iload (pc := 106) hx hb dX11_share_106 (lv_at hl 2 rfl) ?_
      refine lv_if_ne (pc := 108) (tgt := 116) hx hb dX11_share_108 (by decide) (fun q => ?_) (fun q => ?_)
      · have h := ite_f q h
        refine lv_bipush (pc := 116) (v := 100) hx hb dX11_share_116 (by decide) ?_
        refine lv_iload_n (pc := 118) hx hb dX11_share_118 rfl (lv_at hl 1 rfl) ?_
        refine lv_imul (pc := 119) hx hb dX11_share_119 ?_
        refine lv_iload (pc := 120) hx hb dX11_share_120 (lv_at hl 2 rfl) ?_
        obtain ⟨hd, h⟩ := grd_t h
        refine lv_idiv (pc := 122) hx hb dX11_share_122 (by simpa using hd) ?_
        obtain ⟨r6, S5, hc, h⟩ := bnd_t h
        refine s_cvi (pc := 123) [.int (((100 : Int32) * x3) / x4)] (fun ad => [.ref (ad 61), .int (((100 : Int32) * x3) / x4)]) F w (m_Yard_orZero _ _ _ _ hc) rfl rfl hl.1 ds_61 vc_X11 rfl ok_X11_orZero rfl kc_X11_orZero kl_X11_357 ki_X11_orZero kv_X11_orZero kn_X11 ⟨Nat.le_trans (by decide) hR1, Nat.le_trans (by decide) hR2⟩ ⟨Nat.zero_le _, Nat.zero_le _⟩ (Nat.le_of_ble_eq_true rfl) dX11_share_123 (fun H locs w => ?_)
        exact s_iret F w h dX11_share_126
      · have h := ite_t q h
        refine lv_bipush (pc := 111) (v := -4) hx hb dX11_share_111 (by decide) ?_
        refine lv_goto (pc := 113) (tgt := 123) hx hb dX11_share_113 (by decide) ?_
        obtain ⟨r8, S7, hc, h⟩ := bnd_t h
        refine s_cvi (pc := 123) [.int (-4 : Int32)] (fun ad => [.ref (ad 61), .int (-4 : Int32)]) F w (m_Yard_orZero _ _ _ _ hc) rfl rfl hl.1 ds_61 vc_X11 rfl ok_X11_orZero rfl kc_X11_orZero kl_X11_357 ki_X11_orZero kv_X11_orZero kn_X11 ⟨Nat.le_trans (by decide) hR1, Nat.le_trans (by decide) hR2⟩ ⟨Nat.zero_le _, Nat.zero_le _⟩ (Nat.le_of_ble_eq_true rfl) dX11_share_123 (fun H locs w => ?_)
        exact s_iret F w h dX11_share_126
    · have h := ite_f q h
      refine lv_iload_n (pc := 58) hx hb dX11_share_58 rfl (lv_at hl 1 rfl) ?_
      refine lv_aload_n (pc := 59) hx hb dX11_share_59 rfl (lv_at hl 0 rfl) ?_
      refine s_getR (pc := 60) F w 69 ds_61 (j := 7) vc_X11 vi_X11 rfl (by decide) kf_X11_67 dX11_share_60 ?_
      refine lv_aload_n (pc := 63) hx hb dX11_share_63 rfl (lv_at hl 0 rfl) ?_
      refine s_getR (pc := 64) F w 68 ds_61 (j := 6) vc_X11 vi_X11 rfl (by decide) kf_X11_58 dX11_share_64 ?_
      refine lv_iload (pc := 67) hx hb dX11_share_67 (lv_at hl 3 rfl) ?_
      obtain ⟨r10, S9, hc, h⟩ := bnd_t h
      refine s_cvi (pc := 69) [.int x5] (fun ad => [.ref (ad 68), .int x5]) F w (m_Trains_inLine _ _ _ _ hc) rfl rfl hl.1 ds_68 vc_X10 rfl ok_X10_inLine rfl kc_X10_inLine kl_X11_299 ki_X10_inLine kv_X10_inLine kn_X10 ⟨Nat.le_trans (by decide) hR1, Nat.le_trans (by decide) hR2⟩ ⟨Nat.zero_le _, Nat.zero_le _⟩ (Nat.le_of_ble_eq_true rfl) dX11_share_69 (fun H locs w => ?_)
      obtain ⟨r12, S11, hc, h⟩ := bnd_t h
      refine s_cvi (pc := 72) [.int r10] (fun ad => [.ref (ad 69), .int r10]) F w (m_Bodies_brake _ _ _ _ hc) rfl rfl hl.1 ds_69 vc_X0 rfl ok_X0_brake rfl kc_X0_brake kl_X11_323 ki_X0_brake kv_X0_brake kn_X0 ⟨Nat.le_trans (by decide) hR1, Nat.le_trans (by decide) hR2⟩ ⟨Nat.zero_le _, Nat.zero_le _⟩ (Nat.le_of_ble_eq_true rfl) dX11_share_72 (fun H locs w => ?_)
      refine lv_iadd (pc := 75) hx hb dX11_share_75 ?_
      refine s_nm h (fun z13 ez13 h => ?_)
      rw [← ez13]
      refine lv_istore_n (pc := 76) (lv' := [(3, .int z13), (0, .ref (ad 61)), (4, .int x4), (5, .int x5)]) hx hb dX11_share_76 rfl hl (by decide) rfl (fun ls hl => ?_)
      refine lv_iload (pc := 77) hx hb dX11_share_77 (lv_at hl 2 rfl) ?_
      refine lv_aload_n (pc := 79) hx hb dX11_share_79 rfl (lv_at hl 1 rfl) ?_
      refine s_getR (pc := 80) F w 65 ds_61 (j := 3) vc_X11 vi_X11 rfl (by decide) kf_X11_33 dX11_share_80 ?_
      refine lv_aload_n (pc := 83) hx hb dX11_share_83 rfl (lv_at hl 1 rfl) ?_
      refine s_getR (pc := 84) F w 68 ds_61 (j := 6) vc_X11 vi_X11 rfl (by decide) kf_X11_58 dX11_share_84 ?_
      refine lv_iload (pc := 87) hx hb dX11_share_87 (lv_at hl 3 rfl) ?_
      obtain ⟨r15, S14, hc, h⟩ := bnd_t h
      refine s_cvi (pc := 89) [.int x5] (fun ad => [.ref (ad 68), .int x5]) F w (m_Trains_inLine _ _ _ _ hc) rfl rfl hl.1 ds_68 vc_X10 rfl ok_X10_inLine rfl kc_X10_inLine kl_X11_299 ki_X10_inLine kv_X10_inLine kn_X10 ⟨Nat.le_trans (by decide) hR1, Nat.le_trans (by decide) hR2⟩ ⟨Nat.zero_le _, Nat.zero_le _⟩ (Nat.le_of_ble_eq_true rfl) dX11_share_89 (fun H locs w => ?_)
      refine lv_iconst (pc := 92) (v := 1) hx hb dX11_share_92 (by decide) ?_
      obtain ⟨r17, S16, hc, h⟩ := bnd_t h
      refine s_cvi (pc := 93) [.int r15, .int (1 : Int32)] (fun ad => [.ref (ad 65), .int r15, .int (1 : Int32)]) F w (m_Stock_get _ _ _ _ _ hc) rfl rfl hl.1 ds_65 vc_X9 rfl ok_X9_get rfl kc_X9_get kl_X11_335 ki_X9_get kv_X9_get kn_X9 ⟨Nat.le_trans (by decide) hR1, Nat.le_trans (by decide) hR2⟩ ⟨Nat.zero_le _, Nat.zero_le _⟩ (Nat.le_of_ble_eq_true rfl) dX11_share_93 (fun H locs w => ?_)
      refine lv_iadd (pc := 96) hx hb dX11_share_96 ?_
      refine s_nm h (fun z18 ez18 h => ?_)
      rw [← ez18]
      refine lv_istore (pc := 97) (lv' := [(4, .int z18), (3, .int z13), (0, .ref (ad 61)), (5, .int x5)]) hx hb dX11_share_97 hl (by decide) rfl (fun ls hl => ?_)
      refine s_nm h (fun z19 ez19 h => ?_)
      refine lv_iinc (pc := 99) (v := z19) (lv' := [(5, .int z19), (4, .int z18), (3, .int z13), (0, .ref (ad 61))]) hx hb dX11_share_99 hl (k := 3) rfl (by rw [ez19]; rfl) (by decide) rfl (fun ls hl => ?_)
      refine lv_goto (pc := 102) (tgt := 46) hx hb dX11_share_102 (by decide) ?_
      exact ih _ _ _ _ h _ _ _ w (lv_sub hl [3, 2, 1, 0] rfl)
set_option maxRecDepth 100000 in
set_option maxHeartbeats 4000000 in
theorem m_Yard_share (a1 : Int32) (S S' : SS) (r : Int32) (h : f_Yard_share a1 S = some (r, S')) : MT yX11_share cX11_share 6 (some .int) 3 67 (fun ad => [.ref (ad 61), .int a1]) S (some (.int r)) S' := by
  refine MT.of RX11 (fun ad => [(0, .ref (ad 61)), (1, .int a1)]) (by decide) rfl (fun _ => Nat.le_of_ble_eq_true rfl) (fun _ => rfl) ?_
  intro p l e R s m args below meth c dC dI cs ad A hR1 hR2 F H locs ls w hl
  have hx := F.1.1
  have hb := F.1.2.1
  rw [f_Yard_share] at h
  refine lv_aload_n (pc := 0) hx hb dX11_share_0 rfl (lv_at hl 0 rfl) ?_
  refine s_getR (pc := 1) F w 62 ds_61 (j := 0) vc_X11 vi_X11 rfl (by decide) kf_X11_10 dX11_share_1 ?_
  obtain ⟨S1, hc, h⟩ := bndv_t h
  refine s_cvv (pc := 4) [] (fun ad => [.ref (ad 62)]) F w (m_Report_begin  _ _ hc) rfl rfl hl.1 ds_62 vc_X5 rfl ok_X5_begin rfl kc_X5_begin kl_X11_95 ki_X5_begin kv_X5_begin kn_X5 ⟨Nat.le_trans (by decide) hR1, Nat.le_trans (by decide) hR2⟩ ⟨Nat.zero_le _, Nat.zero_le _⟩ (Nat.le_of_ble_eq_true rfl) dX11_share_4 (fun H locs w => ?_)
  refine lv_aload_n (pc := 7) hx hb dX11_share_7 rfl (lv_at hl 0 rfl) ?_
  refine lv_iload_n (pc := 8) hx hb dX11_share_8 rfl (lv_at hl 1 rfl) ?_
  refine lv_bipush (pc := 9) (v := 127) hx hb dX11_share_9 (by decide) ?_
  obtain ⟨r3, S2, hc, h⟩ := bnd_t h
  refine s_cvi (pc := 11) [.int a1, .int (127 : Int32)] (fun ad => [.ref (ad 61), .int a1, .int (127 : Int32)]) F w (m_Yard_named _ _ _ _ _ hc) rfl rfl hl.1 ds_61 vc_X11 rfl ok_X11_named rfl kc_X11_named kl_X11_185 ki_X11_named kv_X11_named kn_X11 ⟨Nat.le_trans (by decide) hR1, Nat.le_trans (by decide) hR2⟩ ⟨Nat.zero_le _, Nat.zero_le _⟩ (Nat.le_of_ble_eq_true rfl) dX11_share_11 (fun H locs w => ?_)
  refine lv_istore_n (pc := 14) (lv' := [(2, .int r3), (0, .ref (ad 61)), (1, .int a1)]) hx hb dX11_share_14 rfl hl (by decide) rfl (fun ls hl => ?_)
  refine lv_iload_n (pc := 15) hx hb dX11_share_15 rfl (lv_at hl 0 rfl) ?_
  refine lv_if_eq (pc := 16) (tgt := 28) hx hb dX11_share_16 (by decide) (fun q => ?_) (fun q => ?_)
  · have h := ite_t q h
    refine lv_aload_n (pc := 28) hx hb dX11_share_28 rfl (lv_at hl 1 rfl) ?_
    refine s_getR (pc := 29) F w 68 ds_61 (j := 6) vc_X11 vi_X11 rfl (by decide) kf_X11_58 dX11_share_29 ?_
    refine lv_iconst (pc := 32) (v := 2) hx hb dX11_share_32 (by decide) ?_
    refine lv_iload_n (pc := 33) hx hb dX11_share_33 rfl (lv_at hl 2 rfl) ?_
    refine lv_imul (pc := 34) hx hb dX11_share_34 ?_
    obtain ⟨S4, hc, h⟩ := bndv_t h
    refine s_cvv (pc := 35) [.int ((2 : Int32) * a1)] (fun ad => [.ref (ad 68), .int ((2 : Int32) * a1)]) F w (m_Trains_lineUp _ _ _ hc) rfl rfl hl.1 ds_68 vc_X10 rfl ok_X10_lineUp rfl kc_X10_lineUp kl_X11_281 ki_X10_lineUp kv_X10_lineUp kn_X10 ⟨Nat.le_trans (by decide) hR1, Nat.le_trans (by decide) hR2⟩ ⟨Nat.zero_le _, Nat.zero_le _⟩ (Nat.le_of_ble_eq_true rfl) dX11_share_35 (fun H locs w => ?_)
    refine lv_iconst (pc := 38) (v := 0) hx hb dX11_share_38 (by decide) ?_
    refine lv_istore_n (pc := 39) (lv' := [(3, .int (0 : Int32)), (2, .int r3), (0, .ref (ad 61)), (1, .int a1)]) hx hb dX11_share_39 rfl hl (by decide) rfl (fun ls hl => ?_)
    refine lv_iconst (pc := 40) (v := 0) hx hb dX11_share_40 (by decide) ?_
    refine lv_istore (pc := 41) (lv' := [(4, .int (0 : Int32)), (3, .int (0 : Int32)), (2, .int r3), (0, .ref (ad 61)), (1, .int a1)]) hx hb dX11_share_41 hl (by decide) rfl (fun ls hl => ?_)
    refine lv_iconst (pc := 43) (v := 0) hx hb dX11_share_43 (by decide) ?_
    refine lv_istore (pc := 44) (lv' := [(5, .int (0 : Int32)), (4, .int (0 : Int32)), (3, .int (0 : Int32)), (2, .int r3), (0, .ref (ad 61)), (1, .int a1)]) hx hb dX11_share_44 hl (by decide) rfl (fun ls hl => ?_)
    exact w_Yard_share_L46 F (Nat.le_trans (by decide) hR1) (Nat.le_trans (by decide) hR2) _ _ _ _ _ h _ _ _ w (lv_sub hl [4, 2, 1, 0] rfl)
  · have h := ite_f q h
    refine lv_aload_n (pc := 19) hx hb dX11_share_19 rfl (lv_at hl 1 rfl) ?_
    refine s_getR (pc := 20) F w 62 ds_61 (j := 0) vc_X11 vi_X11 rfl (by decide) kf_X11_10 dX11_share_20 ?_
    refine lv_iload_n (pc := 23) hx hb dX11_share_23 rfl (lv_at hl 0 rfl) ?_
    obtain ⟨r21, S20, hc, h⟩ := bnd_t h
    refine s_cvi (pc := 24) [.int r3] (fun ad => [.ref (ad 62), .int r3]) F w (m_Report_found _ _ _ _ hc) rfl rfl hl.1 ds_62 vc_X5 rfl ok_X5_found rfl kc_X5_found kl_X11_98 ki_X5_found kv_X5_found kn_X5 ⟨Nat.le_trans (by decide) hR1, Nat.le_trans (by decide) hR2⟩ ⟨Nat.zero_le _, Nat.zero_le _⟩ (Nat.le_of_ble_eq_true rfl) dX11_share_24 (fun H locs w => ?_)
    exact s_iret F w h dX11_share_27
