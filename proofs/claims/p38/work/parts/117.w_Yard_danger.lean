/-! ===== printed by wip/gen: Yard_danger Yard_hold Yard_jam Trains_raiseFinding Yard_raise State_setting Layout_endOf Layout_spotAt Routes_isUnder Routes_turnFinding Routes_hasLink Routes_turnPoint Yard_turn Routes_lockFinding Routes_giveBack Routes_lockAll Yard_lock Routes_freeAll Yard_free Yard_namedSide ===== -/
def f_Yard_danger (a1 : Int32) (a2 : Int32) (S : SS) : Option (Int32 × SS) :=
  bnd (f_Yard_isNot a2 (0 : Int32) (9 : Int32) S) (fun r2 S1 =>
  if r2 = 0 then
    bndv (f_Yard_beginAct  S1) (fun S3 =>
    bnd (f_Yard_change a1 (31 : Int32) (7 : Int32) a2 S3) (fun r5 S4 =>
    bnd (f_Yard_endAct (0 : Int32) r5 S4) (fun r7 S6 =>
    some (r7, S6))))
  else
    some ((-1 : Int32), S1))
theorem dX11_danger_0 : decode cX11_danger 0 = .ok (.iload_n 2, 1) := dc_28 (by decide +kernel)
theorem dX11_danger_1 : decode cX11_danger 1 = .ok (.iconst 0, 1) := dc_3 (by decide +kernel)
theorem dX11_danger_2 : decode cX11_danger 2 = .ok (.bipush 9, 2) := dc_16 (a := 9) (by decide +kernel) (by decide)
theorem dX11_danger_4 : decode cX11_danger 4 = .ok (.invokestatic 108, 3) := dc_184 (a := 0) (b := 108) (by decide +kernel)
theorem dX11_danger_7 : decode cX11_danger 7 = .ok (.ifCond .eq 5, 3) := dc_153 (a := 0) (b := 5) (by decide +kernel) (by decide)
theorem dX11_danger_10 : decode cX11_danger 10 = .ok (.iconst (-1), 1) := dc_2 (by decide +kernel)
theorem dX11_danger_11 : decode cX11_danger 11 = .ok (.ireturn, 1) := dc_172 (by decide +kernel)
theorem dX11_danger_12 : decode cX11_danger 12 = .ok (.aload_n 0, 1) := dc_42 (by decide +kernel)
theorem dX11_danger_13 : decode cX11_danger 13 = .ok (.invokevirtual 199, 3) := dc_182 (a := 0) (b := 199) (by decide +kernel)
theorem dX11_danger_16 : decode cX11_danger 16 = .ok (.aload_n 0, 1) := dc_42 (by decide +kernel)
theorem dX11_danger_17 : decode cX11_danger 17 = .ok (.iconst 0, 1) := dc_3 (by decide +kernel)
theorem dX11_danger_18 : decode cX11_danger 18 = .ok (.aload_n 0, 1) := dc_42 (by decide +kernel)
theorem dX11_danger_19 : decode cX11_danger 19 = .ok (.iload_n 1, 1) := dc_27 (by decide +kernel)
theorem dX11_danger_20 : decode cX11_danger 20 = .ok (.bipush 31, 2) := dc_16 (a := 31) (by decide +kernel) (by decide)
theorem dX11_danger_22 : decode cX11_danger 22 = .ok (.bipush 7, 2) := dc_16 (a := 7) (by decide +kernel) (by decide)
theorem dX11_danger_24 : decode cX11_danger 24 = .ok (.iload_n 2, 1) := dc_28 (by decide +kernel)
theorem dX11_danger_25 : decode cX11_danger 25 = .ok (.invokevirtual 202, 3) := dc_182 (a := 0) (b := 202) (by decide +kernel)
theorem dX11_danger_28 : decode cX11_danger 28 = .ok (.invokevirtual 205, 3) := dc_182 (a := 0) (b := 205) (by decide +kernel)
theorem dX11_danger_31 : decode cX11_danger 31 = .ok (.ireturn, 1) := dc_172 (by decide +kernel)
set_option maxRecDepth 100000 in
set_option maxHeartbeats 4000000 in
theorem m_Yard_danger (a1 : Int32) (a2 : Int32) (S S' : SS) (r : Int32) (h : f_Yard_danger a1 a2 S = some (r, S')) : MT yX11_danger cX11_danger 3 (some .int) 4 93 (fun ad => [.ref (ad 61), .int a1, .int a2]) S (some (.int r)) S' := by
  refine MT.of RX11 (fun ad => [(0, .ref (ad 61)), (1, .int a1), (2, .int a2)]) (by decide) rfl (fun _ => Nat.le_of_ble_eq_true rfl) (fun _ => rfl) ?_
  intro p l e R s m args below meth c dC dI cs ad A hR1 hR2 F H locs ls w hl
  have hx := F.1.1
  have hb := F.1.2.1
  rw [f_Yard_danger] at h
  refine lv_iload_n (pc := 0) hx hb dX11_danger_0 rfl (lv_at hl 2 rfl) ?_
  refine lv_iconst (pc := 1) (v := 0) hx hb dX11_danger_1 (by decide) ?_
  refine lv_bipush (pc := 2) (v := 9) hx hb dX11_danger_2 (by decide) ?_
  obtain ⟨r2, S1, hc, h⟩ := bnd_t h
  refine s_csi (pc := 4) [.int a2, .int (0 : Int32), .int (9 : Int32)] (fun ad => [.int a2, .int (0 : Int32), .int (9 : Int32)]) F w (m_Yard_isNot _ _ _ _ _ _ hc) rfl rfl hl.1 ok_X11_isNot rfl kc_X11_isNot kl_X11_108 ks_X11_isNot kn_X11 ⟨Nat.le_trans (by decide) hR1, Nat.le_trans (by decide) hR2⟩ ⟨Nat.zero_le _, Nat.zero_le _⟩ (Nat.le_of_ble_eq_true rfl) dX11_danger_4 (fun H locs w => ?_)
  refine lv_if_eq (pc := 7) (tgt := 12) hx hb dX11_danger_7 (by decide) (fun q => ?_) (fun q => ?_)
  · have h := ite_t q h
    refine lv_aload_n (pc := 12) hx hb dX11_danger_12 rfl (lv_at hl 0 rfl) ?_
    obtain ⟨S3, hc, h⟩ := bndv_t h
    refine s_cvv (pc := 13) [] (fun ad => [.ref (ad 61)]) F w (m_Yard_beginAct  _ _ hc) rfl rfl hl.1 ds_61 vc_X11 rfl ok_X11_beginAct rfl kc_X11_beginAct kl_X11_199 ki_X11_beginAct kv_X11_beginAct kn_X11 ⟨Nat.le_trans (by decide) hR1, Nat.le_trans (by decide) hR2⟩ ⟨Nat.zero_le _, Nat.zero_le _⟩ (Nat.le_of_ble_eq_true rfl) dX11_danger_13 (fun H locs w => ?_)
    refine lv_aload_n (pc := 16) hx hb dX11_danger_16 rfl (lv_at hl 0 rfl) ?_
    refine lv_iconst (pc := 17) (v := 0) hx hb dX11_danger_17 (by decide) ?_
    refine lv_aload_n (pc := 18) hx hb dX11_danger_18 rfl (lv_at hl 0 rfl) ?_
    refine lv_iload_n (pc := 19) hx hb dX11_danger_19 rfl (lv_at hl 1 rfl) ?_
    refine lv_bipush (pc := 20) (v := 31) hx hb dX11_danger_20 (by decide) ?_
    refine lv_bipush (pc := 22) (v := 7) hx hb dX11_danger_22 (by decide) ?_
    refine lv_iload_n (pc := 24) hx hb dX11_danger_24 rfl (lv_at hl 2 rfl) ?_
    obtain ⟨r5, S4, hc, h⟩ := bnd_t h
    refine s_cvi (pc := 25) [.int a1, .int (31 : Int32), .int (7 : Int32), .int a2] (fun ad => [.ref (ad 61), .int a1, .int (31 : Int32), .int (7 : Int32), .int a2]) F w (m_Yard_change _ _ _ _ _ _ _ hc) rfl rfl hl.1 ds_61 vc_X11 rfl ok_X11_change rfl kc_X11_change kl_X11_202 ki_X11_change kv_X11_change kn_X11 ⟨Nat.le_trans (by decide) hR1, Nat.le_trans (by decide) hR2⟩ ⟨Nat.zero_le _, Nat.zero_le _⟩ (Nat.le_of_ble_eq_true rfl) dX11_danger_25 (fun H locs w => ?_)
    obtain ⟨r7, S6, hc, h⟩ := bnd_t h
    refine s_cvi (pc := 28) [.int (0 : Int32), .int r5] (fun ad => [.ref (ad 61), .int (0 : Int32), .int r5]) F w (m_Yard_endAct _ _ _ _ _ hc) rfl rfl hl.1 ds_61 vc_X11 rfl ok_X11_endAct rfl kc_X11_endAct kl_X11_205 ki_X11_endAct kv_X11_endAct kn_X11 ⟨Nat.le_trans (by decide) hR1, Nat.le_trans (by decide) hR2⟩ ⟨Nat.zero_le _, Nat.zero_le _⟩ (Nat.le_of_ble_eq_true rfl) dX11_danger_28 (fun H locs w => ?_)
    exact s_iret F w h dX11_danger_31
  · have h := ite_f q h
    refine lv_iconst (pc := 10) (v := -1) hx hb dX11_danger_10 (by decide) ?_
    exact s_iret F w h dX11_danger_11
def f_Yard_hold_j19  (x1 : Int32) (x2 : Int32) (S : SS) : Option (Int32 × SS) :=
    bndv (f_Yard_beginAct  S) (fun S1 =>
    bnd (f_Yard_change x1 (127 : Int32) (5 : Int32) x2 S1) (fun r3 S2 =>
    bnd (f_Yard_endAct (1 : Int32) r3 S2) (fun r5 S4 =>
    some (r5, S4))))
def f_Yard_hold (a1 : Int32) (a2 : Int32) (S : SS) : Option (Int32 × SS) :=
  if a2 = (-4 : Int32) then
    f_Yard_hold_j19 a1 a2 S
  else
    bnd (f_Yard_isNot a2 (0 : Int32) (999 : Int32) S) (fun r7 S6 =>
    if r7 = 0 then
      f_Yard_hold_j19 a1 a2 S6
    else
      some ((-1 : Int32), S6))
theorem dX11_hold_0 : decode cX11_hold 0 = .ok (.iload_n 2, 1) := dc_28 (by decide +kernel)
theorem dX11_hold_1 : decode cX11_hold 1 = .ok (.bipush (-4), 2) := dc_16 (a := 252) (by decide +kernel) (by decide)
theorem dX11_hold_3 : decode cX11_hold 3 = .ok (.if_icmp .eq 16, 3) := dc_159 (a := 0) (b := 16) (by decide +kernel) (by decide)
theorem dX11_hold_6 : decode cX11_hold 6 = .ok (.iload_n 2, 1) := dc_28 (by decide +kernel)
theorem dX11_hold_7 : decode cX11_hold 7 = .ok (.iconst 0, 1) := dc_3 (by decide +kernel)
theorem dX11_hold_8 : decode cX11_hold 8 = .ok (.sipush 999, 3) := dc_17 (a := 3) (b := 231) (by decide +kernel) (by decide)
theorem dX11_hold_11 : decode cX11_hold 11 = .ok (.invokestatic 108, 3) := dc_184 (a := 0) (b := 108) (by decide +kernel)
theorem dX11_hold_14 : decode cX11_hold 14 = .ok (.ifCond .eq 5, 3) := dc_153 (a := 0) (b := 5) (by decide +kernel) (by decide)
theorem dX11_hold_17 : decode cX11_hold 17 = .ok (.iconst (-1), 1) := dc_2 (by decide +kernel)
theorem dX11_hold_18 : decode cX11_hold 18 = .ok (.ireturn, 1) := dc_172 (by decide +kernel)
theorem dX11_hold_19 : decode cX11_hold 19 = .ok (.aload_n 0, 1) := dc_42 (by decide +kernel)
theorem dX11_hold_20 : decode cX11_hold 20 = .ok (.invokevirtual 199, 3) := dc_182 (a := 0) (b := 199) (by decide +kernel)
theorem dX11_hold_23 : decode cX11_hold 23 = .ok (.aload_n 0, 1) := dc_42 (by decide +kernel)
theorem dX11_hold_24 : decode cX11_hold 24 = .ok (.iconst 1, 1) := dc_4 (by decide +kernel)
theorem dX11_hold_25 : decode cX11_hold 25 = .ok (.aload_n 0, 1) := dc_42 (by decide +kernel)
theorem dX11_hold_26 : decode cX11_hold 26 = .ok (.iload_n 1, 1) := dc_27 (by decide +kernel)
theorem dX11_hold_27 : decode cX11_hold 27 = .ok (.bipush 127, 2) := dc_16 (a := 127) (by decide +kernel) (by decide)
theorem dX11_hold_29 : decode cX11_hold 29 = .ok (.iconst 5, 1) := dc_8 (by decide +kernel)
theorem dX11_hold_30 : decode cX11_hold 30 = .ok (.iload_n 2, 1) := dc_28 (by decide +kernel)
theorem dX11_hold_31 : decode cX11_hold 31 = .ok (.invokevirtual 202, 3) := dc_182 (a := 0) (b := 202) (by decide +kernel)
theorem dX11_hold_34 : decode cX11_hold 34 = .ok (.invokevirtual 205, 3) := dc_182 (a := 0) (b := 205) (by decide +kernel)
theorem dX11_hold_37 : decode cX11_hold 37 = .ok (.ireturn, 1) := dc_172 (by decide +kernel)
set_option maxRecDepth 100000 in
set_option maxHeartbeats 4000000 in
theorem w_Yard_hold_j19 {p : Program} {l : Launch} {e : Env} {R : Room} {s : State} {m : MethodId} {args : Array Value} {below : List Frame} {meth : Method} {c : Code} {dC : Nat → ClassId} {dI : Nat → Nat → Nat} {cs : Nat → ClassId} {ad : Nat → Nat} {A : Nat → Prop} {D0 : Nat → Nat} {S' : SS} {r : Int32} (F : Fx p s m args meth c cX11_hold 3 RX11 (some .int) dC dI cs A) (hR1 : 4 ≤ R.frames) (hR2 : 93 ≤ R.locals) (x1 : Int32) (x2 : Int32) (S : SS) (h : f_Yard_hold_j19 x1 x2 S = some (r, S')) : AW p l e R s m args below meth c dC dI cs ad A D0 (some (.int r)) S' 3 19 [(0, .ref (ad 61)), (1, .int x1), (2, .int x2)] [] S := by
  have hx := F.1.1
  have hb := F.1.2.1
  intro H locs ls w hl
  rw [f_Yard_hold_j19] at h
  refine lv_aload_n (pc := 19) hx hb dX11_hold_19 rfl (lv_at hl 0 rfl) ?_
  obtain ⟨S1, hc, h⟩ := bndv_t h
  refine s_cvv (pc := 20) [] (fun ad => [.ref (ad 61)]) F w (m_Yard_beginAct  _ _ hc) rfl rfl hl.1 ds_61 vc_X11 rfl ok_X11_beginAct rfl kc_X11_beginAct kl_X11_199 ki_X11_beginAct kv_X11_beginAct kn_X11 ⟨Nat.le_trans (by decide) hR1, Nat.le_trans (by decide) hR2⟩ ⟨Nat.zero_le _, Nat.zero_le _⟩ (Nat.le_of_ble_eq_true rfl) dX11_hold_20 (fun H locs w => ?_)
  refine lv_aload_n (pc := 23) hx hb dX11_hold_23 rfl (lv_at hl 0 rfl) ?_
  refine lv_iconst (pc := 24) (v := 1) hx hb dX11_hold_24 (by decide) ?_
  refine lv_aload_n (pc := 25) hx hb dX11_hold_25 rfl (lv_at hl 0 rfl) ?_
  refine lv_iload_n (pc := 26) hx hb dX11_hold_26 rfl (lv_at hl 1 rfl) ?_
  refine lv_bipush (pc := 27) (v := 127) hx hb dX11_hold_27 (by decide) ?_
  refine lv_iconst (pc := 29) (v := 5) hx hb dX11_hold_29 (by decide) ?_
  refine lv_iload_n (pc := 30) hx hb dX11_hold_30 rfl (lv_at hl 2 rfl) ?_
  obtain ⟨r3, S2, hc, h⟩ := bnd_t h
  refine s_cvi (pc := 31) [.int x1, .int (127 : Int32), .int (5 : Int32), .int x2] (fun ad => [.ref (ad 61), .int x1, .int (127 : Int32), .int (5 : Int32), .int x2]) F w (m_Yard_change _ _ _ _ _ _ _ hc) rfl rfl hl.1 ds_61 vc_X11 rfl ok_X11_change rfl kc_X11_change kl_X11_202 ki_X11_change kv_X11_change kn_X11 ⟨Nat.le_trans (by decide) hR1, Nat.le_trans (by decide) hR2⟩ ⟨Nat.zero_le _, Nat.zero_le _⟩ (Nat.le_of_ble_eq_true rfl) dX11_hold_31 (fun H locs w => ?_)
  obtain ⟨r5, S4, hc, h⟩ := bnd_t h
  refine s_cvi (pc := 34) [.int (1 : Int32), .int r3] (fun ad => [.ref (ad 61), .int (1 : Int32), .int r3]) F w (m_Yard_endAct _ _ _ _ _ hc) rfl rfl hl.1 ds_61 vc_X11 rfl ok_X11_endAct rfl kc_X11_endAct kl_X11_205 ki_X11_endAct kv_X11_endAct kn_X11 ⟨Nat.le_trans (by decide) hR1, Nat.le_trans (by decide) hR2⟩ ⟨Nat.zero_le _, Nat.zero_le _⟩ (Nat.le_of_ble_eq_true rfl) dX11_hold_34 (fun H locs w => ?_)
  exact s_iret F w h dX11_hold_37
set_option maxRecDepth 100000 in
set_option maxHeartbeats 4000000 in
theorem m_Yard_hold (a1 : Int32) (a2 : Int32) (S S' : SS) (r : Int32) (h : f_Yard_hold a1 a2 S = some (r, S')) : MT yX11_hold cX11_hold 3 (some .int) 4 93 (fun ad => [.ref (ad 61), .int a1, .int a2]) S (some (.int r)) S' := by
  refine MT.of RX11 (fun ad => [(0, .ref (ad 61)), (1, .int a1), (2, .int a2)]) (by decide) rfl (fun _ => Nat.le_of_ble_eq_true rfl) (fun _ => rfl) ?_
  intro p l e R s m args below meth c dC dI cs ad A hR1 hR2 F H locs ls w hl
  have hx := F.1.1
  have hb := F.1.2.1
  rw [f_Yard_hold] at h
  refine lv_iload_n (pc := 0) hx hb dX11_hold_0 rfl (lv_at hl 2 rfl) ?_
  refine lv_bipush (pc := 1) (v := -4) hx hb dX11_hold_1 (by decide) ?_
  refine lv_icmp_eq (pc := 3) (tgt := 19) hx hb dX11_hold_3 (by decide) (fun q => ?_) (fun q => ?_)
  · have h := ite_t q h
    exact w_Yard_hold_j19 F (Nat.le_trans (by decide) hR1) (Nat.le_trans (by decide) hR2) _ _ _ h _ _ _ w (lv_sub hl [0, 1, 2] rfl)
  · have h := ite_f q h
    refine lv_iload_n (pc := 6) hx hb dX11_hold_6 rfl (lv_at hl 2 rfl) ?_
    refine lv_iconst (pc := 7) (v := 0) hx hb dX11_hold_7 (by decide) ?_
    refine lv_sipush (pc := 8) (v := 999) hx hb dX11_hold_8 (by decide) ?_
    obtain ⟨r7, S6, hc, h⟩ := bnd_t h
    refine s_csi (pc := 11) [.int a2, .int (0 : Int32), .int (999 : Int32)] (fun ad => [.int a2, .int (0 : Int32), .int (999 : Int32)]) F w (m_Yard_isNot _ _ _ _ _ _ hc) rfl rfl hl.1 ok_X11_isNot rfl kc_X11_isNot kl_X11_108 ks_X11_isNot kn_X11 ⟨Nat.le_trans (by decide) hR1, Nat.le_trans (by decide) hR2⟩ ⟨Nat.zero_le _, Nat.zero_le _⟩ (Nat.le_of_ble_eq_true rfl) dX11_hold_11 (fun H locs w => ?_)
    refine lv_if_eq (pc := 14) (tgt := 19) hx hb dX11_hold_14 (by decide) (fun q => ?_) (fun q => ?_)
    · have h := ite_t q h
      exact w_Yard_hold_j19 F (Nat.le_trans (by decide) hR1) (Nat.le_trans (by decide) hR2) _ _ _ h _ _ _ w (lv_sub hl [0, 1, 2] rfl)
    · have h := ite_f q h
      refine lv_iconst (pc := 17) (v := -1) hx hb dX11_hold_17 (by decide) ?_
      exact s_iret F w h dX11_hold_18
def f_Yard_jam (a1 : Int32) (a2 : Int32) (S : SS) : Option (Int32 × SS) :=
  bnd (f_Yard_isNot a2 (0 : Int32) (50 : Int32) S) (fun r2 S1 =>
  if r2 = 0 then
    bndv (f_Yard_beginAct  S1) (fun S3 =>
    bnd (f_Yard_change a1 (127 : Int32) (6 : Int32) a2 S3) (fun r5 S4 =>
    bnd (f_Yard_endAct (2 : Int32) r5 S4) (fun r7 S6 =>
    some (r7, S6))))
  else
    some ((-1 : Int32), S1))
theorem dX11_jam_0 : decode cX11_jam 0 = .ok (.iload_n 2, 1) := dc_28 (by decide +kernel)
theorem dX11_jam_1 : decode cX11_jam 1 = .ok (.iconst 0, 1) := dc_3 (by decide +kernel)
theorem dX11_jam_2 : decode cX11_jam 2 = .ok (.bipush 50, 2) := dc_16 (a := 50) (by decide +kernel) (by decide)
theorem dX11_jam_4 : decode cX11_jam 4 = .ok (.invokestatic 108, 3) := dc_184 (a := 0) (b := 108) (by decide +kernel)
theorem dX11_jam_7 : decode cX11_jam 7 = .ok (.ifCond .eq 5, 3) := dc_153 (a := 0) (b := 5) (by decide +kernel) (by decide)
theorem dX11_jam_10 : decode cX11_jam 10 = .ok (.iconst (-1), 1) := dc_2 (by decide +kernel)
theorem dX11_jam_11 : decode cX11_jam 11 = .ok (.ireturn, 1) := dc_172 (by decide +kernel)
theorem dX11_jam_12 : decode cX11_jam 12 = .ok (.aload_n 0, 1) := dc_42 (by decide +kernel)
theorem dX11_jam_13 : decode cX11_jam 13 = .ok (.invokevirtual 199, 3) := dc_182 (a := 0) (b := 199) (by decide +kernel)
theorem dX11_jam_16 : decode cX11_jam 16 = .ok (.aload_n 0, 1) := dc_42 (by decide +kernel)
theorem dX11_jam_17 : decode cX11_jam 17 = .ok (.iconst 2, 1) := dc_5 (by decide +kernel)
theorem dX11_jam_18 : decode cX11_jam 18 = .ok (.aload_n 0, 1) := dc_42 (by decide +kernel)
theorem dX11_jam_19 : decode cX11_jam 19 = .ok (.iload_n 1, 1) := dc_27 (by decide +kernel)
theorem dX11_jam_20 : decode cX11_jam 20 = .ok (.bipush 127, 2) := dc_16 (a := 127) (by decide +kernel) (by decide)
theorem dX11_jam_22 : decode cX11_jam 22 = .ok (.bipush 6, 2) := dc_16 (a := 6) (by decide +kernel) (by decide)
theorem dX11_jam_24 : decode cX11_jam 24 = .ok (.iload_n 2, 1) := dc_28 (by decide +kernel)
theorem dX11_jam_25 : decode cX11_jam 25 = .ok (.invokevirtual 202, 3) := dc_182 (a := 0) (b := 202) (by decide +kernel)
theorem dX11_jam_28 : decode cX11_jam 28 = .ok (.invokevirtual 205, 3) := dc_182 (a := 0) (b := 205) (by decide +kernel)
theorem dX11_jam_31 : decode cX11_jam 31 = .ok (.ireturn, 1) := dc_172 (by decide +kernel)
set_option maxRecDepth 100000 in
set_option maxHeartbeats 4000000 in
theorem m_Yard_jam (a1 : Int32) (a2 : Int32) (S S' : SS) (r : Int32) (h : f_Yard_jam a1 a2 S = some (r, S')) : MT yX11_jam cX11_jam 3 (some .int) 4 93 (fun ad => [.ref (ad 61), .int a1, .int a2]) S (some (.int r)) S' := by
  refine MT.of RX11 (fun ad => [(0, .ref (ad 61)), (1, .int a1), (2, .int a2)]) (by decide) rfl (fun _ => Nat.le_of_ble_eq_true rfl) (fun _ => rfl) ?_
  intro p l e R s m args below meth c dC dI cs ad A hR1 hR2 F H locs ls w hl
  have hx := F.1.1
  have hb := F.1.2.1
  rw [f_Yard_jam] at h
  refine lv_iload_n (pc := 0) hx hb dX11_jam_0 rfl (lv_at hl 2 rfl) ?_
  refine lv_iconst (pc := 1) (v := 0) hx hb dX11_jam_1 (by decide) ?_
  refine lv_bipush (pc := 2) (v := 50) hx hb dX11_jam_2 (by decide) ?_
  obtain ⟨r2, S1, hc, h⟩ := bnd_t h
  refine s_csi (pc := 4) [.int a2, .int (0 : Int32), .int (50 : Int32)] (fun ad => [.int a2, .int (0 : Int32), .int (50 : Int32)]) F w (m_Yard_isNot _ _ _ _ _ _ hc) rfl rfl hl.1 ok_X11_isNot rfl kc_X11_isNot kl_X11_108 ks_X11_isNot kn_X11 ⟨Nat.le_trans (by decide) hR1, Nat.le_trans (by decide) hR2⟩ ⟨Nat.zero_le _, Nat.zero_le _⟩ (Nat.le_of_ble_eq_true rfl) dX11_jam_4 (fun H locs w => ?_)
  refine lv_if_eq (pc := 7) (tgt := 12) hx hb dX11_jam_7 (by decide) (fun q => ?_) (fun q => ?_)
  · have h := ite_t q h
    refine lv_aload_n (pc := 12) hx hb dX11_jam_12 rfl (lv_at hl 0 rfl) ?_
    obtain ⟨S3, hc, h⟩ := bndv_t h
    refine s_cvv (pc := 13) [] (fun ad => [.ref (ad 61)]) F w (m_Yard_beginAct  _ _ hc) rfl rfl hl.1 ds_61 vc_X11 rfl ok_X11_beginAct rfl kc_X11_beginAct kl_X11_199 ki_X11_beginAct kv_X11_beginAct kn_X11 ⟨Nat.le_trans (by decide) hR1, Nat.le_trans (by decide) hR2⟩ ⟨Nat.zero_le _, Nat.zero_le _⟩ (Nat.le_of_ble_eq_true rfl) dX11_jam_13 (fun H locs w => ?_)
    refine lv_aload_n (pc := 16) hx hb dX11_jam_16 rfl (lv_at hl 0 rfl) ?_
    refine lv_iconst (pc := 17) (v := 2) hx hb dX11_jam_17 (by decide) ?_
    refine lv_aload_n (pc := 18) hx hb dX11_jam_18 rfl (lv_at hl 0 rfl) ?_
    refine lv_iload_n (pc := 19) hx hb dX11_jam_19 rfl (lv_at hl 1 rfl) ?_
    refine lv_bipush (pc := 20) (v := 127) hx hb dX11_jam_20 (by decide) ?_
    refine lv_bipush (pc := 22) (v := 6) hx hb dX11_jam_22 (by decide) ?_
    refine lv_iload_n (pc := 24) hx hb dX11_jam_24 rfl (lv_at hl 2 rfl) ?_
    obtain ⟨r5, S4, hc, h⟩ := bnd_t h
    refine s_cvi (pc := 25) [.int a1, .int (127 : Int32), .int (6 : Int32), .int a2] (fun ad => [.ref (ad 61), .int a1, .int (127 : Int32), .int (6 : Int32), .int a2]) F w (m_Yard_change _ _ _ _ _ _ _ hc) rfl rfl hl.1 ds_61 vc_X11 rfl ok_X11_change rfl kc_X11_change kl_X11_202 ki_X11_change kv_X11_change kn_X11 ⟨Nat.le_trans (by decide) hR1, Nat.le_trans (by decide) hR2⟩ ⟨Nat.zero_le _, Nat.zero_le _⟩ (Nat.le_of_ble_eq_true rfl) dX11_jam_25 (fun H locs w => ?_)
    obtain ⟨r7, S6, hc, h⟩ := bnd_t h
    refine s_cvi (pc := 28) [.int (2 : Int32), .int r5] (fun ad => [.ref (ad 61), .int (2 : Int32), .int r5]) F w (m_Yard_endAct _ _ _ _ _ hc) rfl rfl hl.1 ds_61 vc_X11 rfl ok_X11_endAct rfl kc_X11_endAct kl_X11_205 ki_X11_endAct kv_X11_endAct kn_X11 ⟨Nat.le_trans (by decide) hR1, Nat.le_trans (by decide) hR2⟩ ⟨Nat.zero_le _, Nat.zero_le _⟩ (Nat.le_of_ble_eq_true rfl) dX11_jam_28 (fun H locs w => ?_)
    exact s_iret F w h dX11_jam_31
  · have h := ite_f q h
    refine lv_iconst (pc := 10) (v := -1) hx hb dX11_jam_10 (by decide) ?_
    exact s_iret F w h dX11_jam_11
def f_Trains_raiseFinding (a1 : Int32) (S : SS) : Option (Int32 × SS) :=
  bnd (f_State_get a1 (5 : Int32) S) (fun r2 S1 =>
  wr S1 62 4 r2 (fun S3 =>
  if (S3.1 62 4) = (-4 : Int32) then
    some ((7 : Int32), S3)
  else
    some ((8 : Int32), S3)))
theorem dX10_raiseFinding_0 : decode cX10_raiseFinding 0 = .ok (.aload_n 0, 1) := dc_42 (by decide +kernel)
theorem dX10_raiseFinding_1 : decode cX10_raiseFinding 1 = .ok (.getfield 32, 3) := dc_180 (a := 0) (b := 32) (by decide +kernel)
theorem dX10_raiseFinding_4 : decode cX10_raiseFinding 4 = .ok (.aload_n 0, 1) := dc_42 (by decide +kernel)
theorem dX10_raiseFinding_5 : decode cX10_raiseFinding 5 = .ok (.getfield 24, 3) := dc_180 (a := 0) (b := 24) (by decide +kernel)
theorem dX10_raiseFinding_8 : decode cX10_raiseFinding 8 = .ok (.iload_n 1, 1) := dc_27 (by decide +kernel)
theorem dX10_raiseFinding_9 : decode cX10_raiseFinding 9 = .ok (.iconst 5, 1) := dc_8 (by decide +kernel)
theorem dX10_raiseFinding_10 : decode cX10_raiseFinding 10 = .ok (.invokevirtual 36, 3) := dc_182 (a := 0) (b := 36) (by decide +kernel)
theorem dX10_raiseFinding_13 : decode cX10_raiseFinding 13 = .ok (.putfield 94, 3) := dc_181 (a := 0) (b := 94) (by decide +kernel)
theorem dX10_raiseFinding_16 : decode cX10_raiseFinding 16 = .ok (.aload_n 0, 1) := dc_42 (by decide +kernel)
theorem dX10_raiseFinding_17 : decode cX10_raiseFinding 17 = .ok (.getfield 32, 3) := dc_180 (a := 0) (b := 32) (by decide +kernel)
theorem dX10_raiseFinding_20 : decode cX10_raiseFinding 20 = .ok (.getfield 94, 3) := dc_180 (a := 0) (b := 94) (by decide +kernel)
theorem dX10_raiseFinding_23 : decode cX10_raiseFinding 23 = .ok (.bipush (-4), 2) := dc_16 (a := 252) (by decide +kernel) (by decide)
theorem dX10_raiseFinding_25 : decode cX10_raiseFinding 25 = .ok (.if_icmp .ne 8, 3) := dc_160 (a := 0) (b := 8) (by decide +kernel) (by decide)
theorem dX10_raiseFinding_28 : decode cX10_raiseFinding 28 = .ok (.bipush 7, 2) := dc_16 (a := 7) (by decide +kernel) (by decide)
theorem dX10_raiseFinding_30 : decode cX10_raiseFinding 30 = .ok (.goto 5, 3) := dc_167 (a := 0) (b := 5) (by decide +kernel) (by decide)
theorem dX10_raiseFinding_33 : decode cX10_raiseFinding 33 = .ok (.bipush 8, 2) := dc_16 (a := 8) (by decide +kernel) (by decide)
theorem dX10_raiseFinding_35 : decode cX10_raiseFinding 35 = .ok (.ireturn, 1) := dc_172 (by decide +kernel)
set_option maxRecDepth 100000 in
set_option maxHeartbeats 4000000 in
theorem m_Trains_raiseFinding (a1 : Int32) (S S' : SS) (r : Int32) (h : f_Trains_raiseFinding a1 S = some (r, S')) : MT yX10_raiseFinding cX10_raiseFinding 2 (some .int) 1 22 (fun ad => [.ref (ad 68), .int a1]) S (some (.int r)) S' := by
  refine MT.of RX10 (fun ad => [(0, .ref (ad 68)), (1, .int a1)]) (by decide) rfl (fun _ => Nat.le_of_ble_eq_true rfl) (fun _ => rfl) ?_
  intro p l e R s m args below meth c dC dI cs ad A hR1 hR2 F H locs ls w hl
  have hx := F.1.1
  have hb := F.1.2.1
  rw [f_Trains_raiseFinding] at h
  refine lv_aload_n (pc := 0) hx hb dX10_raiseFinding_0 rfl (lv_at hl 0 rfl) ?_
  refine s_getR (pc := 1) F w 62 ds_68 (j := 2) vc_X10 vi_X10 rfl (by decide) kf_X10_32 dX10_raiseFinding_1 ?_
  refine lv_aload_n (pc := 4) hx hb dX10_raiseFinding_4 rfl (lv_at hl 0 rfl) ?_
  refine s_getR (pc := 5) F w 63 ds_68 (j := 0) vc_X10 vi_X10 rfl (by decide) kf_X10_24 dX10_raiseFinding_5 ?_
  refine lv_iload_n (pc := 8) hx hb dX10_raiseFinding_8 rfl (lv_at hl 1 rfl) ?_
  refine lv_iconst (pc := 9) (v := 5) hx hb dX10_raiseFinding_9 (by decide) ?_
  obtain ⟨r2, S1, hc, h⟩ := bnd_t h
  refine s_cvi (pc := 10) [.int a1, .int (5 : Int32)] (fun ad => [.ref (ad 63), .int a1, .int (5 : Int32)]) F w (m_State_get _ _ _ _ _ hc) rfl rfl hl.1 ds_63 vc_X8 rfl ok_X8_get rfl kc_X8_get kl_X10_36 ki_X8_get kv_X8_get kn_X8 ⟨Nat.le_trans (by decide) hR1, Nat.le_trans (by decide) hR2⟩ ⟨Nat.zero_le _, Nat.zero_le _⟩ (Nat.le_of_ble_eq_true rfl) dX10_raiseFinding_10 (fun H locs w => ?_)
  refine s_putI (pc := 13) F w ds_62 vc_X5 vi_X5 tyX5_ok nmX5 (j := 4) rfl (by decide) kf_X10_94 rfl pd_I h dX10_raiseFinding_13 (fun S3 H locs h w => ?_)
  refine lv_aload_n (pc := 16) hx hb dX10_raiseFinding_16 rfl (lv_at hl 0 rfl) ?_
  refine s_getR (pc := 17) F w 62 ds_68 (j := 2) vc_X10 vi_X10 rfl (by decide) kf_X10_32 dX10_raiseFinding_17 ?_
  refine s_getI (pc := 20) F w ds_62 (j := 4) vc_X5 vi_X5 rfl (by decide) kf_X10_94 dX10_raiseFinding_20 ?_
  refine lv_bipush (pc := 23) (v := -4) hx hb dX10_raiseFinding_23 (by decide) ?_
  refine lv_icmp_ne (pc := 25) (tgt := 33) hx hb dX10_raiseFinding_25 (by decide) (fun q => ?_) (fun q => ?_)
  · have h := ite_f q h
    refine lv_bipush (pc := 33) (v := 8) hx hb dX10_raiseFinding_33 (by decide) ?_
    exact s_iret F w h dX10_raiseFinding_35
  · have h := ite_t q h
    refine lv_bipush (pc := 28) (v := 7) hx hb dX10_raiseFinding_28 (by decide) ?_
    refine lv_goto (pc := 30) (tgt := 35) hx hb dX10_raiseFinding_30 (by decide) ?_
    exact s_iret F w h dX10_raiseFinding_35
def f_Yard_raise (a1 : Int32) (S : SS) : Option (Int32 × SS) :=
  bndv (f_Report_begin  S) (fun S1 =>
  bnd (f_Yard_named a1 (127 : Int32) S1) (fun r3 S2 =>
  if r3 = 0 then
    bnd (f_Trains_raiseFinding a1 S2) (fun r5 S4 =>
    bnd (f_Report_found r5 S4) (fun r7 S6 =>
    some (r7, S6)))
  else
    bnd (f_Report_found r3 S2) (fun r9 S8 =>
    some (r9, S8))))
theorem dX11_raise_0 : decode cX11_raise 0 = .ok (.aload_n 0, 1) := dc_42 (by decide +kernel)
theorem dX11_raise_1 : decode cX11_raise 1 = .ok (.getfield 10, 3) := dc_180 (a := 0) (b := 10) (by decide +kernel)
theorem dX11_raise_4 : decode cX11_raise 4 = .ok (.invokevirtual 95, 3) := dc_182 (a := 0) (b := 95) (by decide +kernel)
theorem dX11_raise_7 : decode cX11_raise 7 = .ok (.aload_n 0, 1) := dc_42 (by decide +kernel)
theorem dX11_raise_8 : decode cX11_raise 8 = .ok (.iload_n 1, 1) := dc_27 (by decide +kernel)
theorem dX11_raise_9 : decode cX11_raise 9 = .ok (.bipush 127, 2) := dc_16 (a := 127) (by decide +kernel) (by decide)
theorem dX11_raise_11 : decode cX11_raise 11 = .ok (.invokevirtual 185, 3) := dc_182 (a := 0) (b := 185) (by decide +kernel)
theorem dX11_raise_14 : decode cX11_raise 14 = .ok (.istore_n 2, 1) := dc_61 (by decide +kernel)
theorem dX11_raise_15 : decode cX11_raise 15 = .ok (.aload_n 0, 1) := dc_42 (by decide +kernel)
theorem dX11_raise_16 : decode cX11_raise 16 = .ok (.getfield 10, 3) := dc_180 (a := 0) (b := 10) (by decide +kernel)
theorem dX11_raise_19 : decode cX11_raise 19 = .ok (.iload_n 2, 1) := dc_28 (by decide +kernel)
theorem dX11_raise_20 : decode cX11_raise 20 = .ok (.ifCond .eq 7, 3) := dc_153 (a := 0) (b := 7) (by decide +kernel) (by decide)
theorem dX11_raise_23 : decode cX11_raise 23 = .ok (.iload_n 2, 1) := dc_28 (by decide +kernel)
theorem dX11_raise_24 : decode cX11_raise 24 = .ok (.goto 11, 3) := dc_167 (a := 0) (b := 11) (by decide +kernel) (by decide)
theorem dX11_raise_27 : decode cX11_raise 27 = .ok (.aload_n 0, 1) := dc_42 (by decide +kernel)
theorem dX11_raise_28 : decode cX11_raise 28 = .ok (.getfield 58, 3) := dc_180 (a := 0) (b := 58) (by decide +kernel)
theorem dX11_raise_31 : decode cX11_raise 31 = .ok (.iload_n 1, 1) := dc_27 (by decide +kernel)
theorem dX11_raise_32 : decode cX11_raise 32 = .ok (.invokevirtual 208, 3) := dc_182 (a := 0) (b := 208) (by decide +kernel)
theorem dX11_raise_35 : decode cX11_raise 35 = .ok (.invokevirtual 98, 3) := dc_182 (a := 0) (b := 98) (by decide +kernel)
theorem dX11_raise_38 : decode cX11_raise 38 = .ok (.ireturn, 1) := dc_172 (by decide +kernel)
set_option maxRecDepth 100000 in
set_option maxHeartbeats 4000000 in
theorem m_Yard_raise (a1 : Int32) (S S' : SS) (r : Int32) (h : f_Yard_raise a1 S = some (r, S')) : MT yX11_raise cX11_raise 3 (some .int) 3 67 (fun ad => [.ref (ad 61), .int a1]) S (some (.int r)) S' := by
  refine MT.of RX11 (fun ad => [(0, .ref (ad 61)), (1, .int a1)]) (by decide) rfl (fun _ => Nat.le_of_ble_eq_true rfl) (fun _ => rfl) ?_
  intro p l e R s m args below meth c dC dI cs ad A hR1 hR2 F H locs ls w hl
  have hx := F.1.1
  have hb := F.1.2.1
  rw [f_Yard_raise] at h
  refine lv_aload_n (pc := 0) hx hb dX11_raise_0 rfl (lv_at hl 0 rfl) ?_
  refine s_getR (pc := 1) F w 62 ds_61 (j := 0) vc_X11 vi_X11 rfl (by decide) kf_X11_10 dX11_raise_1 ?_
  obtain ⟨S1, hc, h⟩ := bndv_t h
  refine s_cvv (pc := 4) [] (fun ad => [.ref (ad 62)]) F w (m_Report_begin  _ _ hc) rfl rfl hl.1 ds_62 vc_X5 rfl ok_X5_begin rfl kc_X5_begin kl_X11_95 ki_X5_begin kv_X5_begin kn_X5 ⟨Nat.le_trans (by decide) hR1, Nat.le_trans (by decide) hR2⟩ ⟨Nat.zero_le _, Nat.zero_le _⟩ (Nat.le_of_ble_eq_true rfl) dX11_raise_4 (fun H locs w => ?_)
  refine lv_aload_n (pc := 7) hx hb dX11_raise_7 rfl (lv_at hl 0 rfl) ?_
  refine lv_iload_n (pc := 8) hx hb dX11_raise_8 rfl (lv_at hl 1 rfl) ?_
  refine lv_bipush (pc := 9) (v := 127) hx hb dX11_raise_9 (by decide) ?_
  obtain ⟨r3, S2, hc, h⟩ := bnd_t h
  refine s_cvi (pc := 11) [.int a1, .int (127 : Int32)] (fun ad => [.ref (ad 61), .int a1, .int (127 : Int32)]) F w (m_Yard_named _ _ _ _ _ hc) rfl rfl hl.1 ds_61 vc_X11 rfl ok_X11_named rfl kc_X11_named kl_X11_185 ki_X11_named kv_X11_named kn_X11 ⟨Nat.le_trans (by decide) hR1, Nat.le_trans (by decide) hR2⟩ ⟨Nat.zero_le _, Nat.zero_le _⟩ (Nat.le_of_ble_eq_true rfl) dX11_raise_11 (fun H locs w => ?_)
  refine lv_istore_n (pc := 14) (lv' := [(2, .int r3), (0, .ref (ad 61)), (1, .int a1)]) hx hb dX11_raise_14 rfl hl (by decide) rfl (fun ls hl => ?_)
  refine lv_aload_n (pc := 15) hx hb dX11_raise_15 rfl (lv_at hl 1 rfl) ?_
  refine s_getR (pc := 16) F w 62 ds_61 (j := 0) vc_X11 vi_X11 rfl (by decide) kf_X11_10 dX11_raise_16 ?_
  refine lv_iload_n (pc := 19) hx hb dX11_raise_19 rfl (lv_at hl 0 rfl) ?_
  refine lv_if_eq (pc := 20) (tgt := 27) hx hb dX11_raise_20 (by decide) (fun q => ?_) (fun q => ?_)
  · have h := ite_t q h
    refine lv_aload_n (pc := 27) hx hb dX11_raise_27 rfl (lv_at hl 1 rfl) ?_
    refine s_getR (pc := 28) F w 68 ds_61 (j := 6) vc_X11 vi_X11 rfl (by decide) kf_X11_58 dX11_raise_28 ?_
    refine lv_iload_n (pc := 31) hx hb dX11_raise_31 rfl (lv_at hl 2 rfl) ?_
    obtain ⟨r5, S4, hc, h⟩ := bnd_t h
    refine s_cvi (pc := 32) [.int a1] (fun ad => [.ref (ad 68), .int a1]) F w (m_Trains_raiseFinding _ _ _ _ hc) rfl rfl hl.1 ds_68 vc_X10 rfl ok_X10_raiseFinding rfl kc_X10_raiseFinding kl_X11_208 ki_X10_raiseFinding kv_X10_raiseFinding kn_X10 ⟨Nat.le_trans (by decide) hR1, Nat.le_trans (by decide) hR2⟩ ⟨Nat.zero_le _, Nat.zero_le _⟩ (Nat.le_of_ble_eq_true rfl) dX11_raise_32 (fun H locs w => ?_)
    obtain ⟨r7, S6, hc, h⟩ := bnd_t h
    refine s_cvi (pc := 35) [.int r5] (fun ad => [.ref (ad 62), .int r5]) F w (m_Report_found _ _ _ _ hc) rfl rfl hl.1 ds_62 vc_X5 rfl ok_X5_found rfl kc_X5_found kl_X11_98 ki_X5_found kv_X5_found kn_X5 ⟨Nat.le_trans (by decide) hR1, Nat.le_trans (by decide) hR2⟩ ⟨Nat.zero_le _, Nat.zero_le _⟩ (Nat.le_of_ble_eq_true rfl) dX11_raise_35 (fun H locs w => ?_)
    exact s_iret F w h dX11_raise_38
  · have h := ite_f q h
    refine lv_iload_n (pc := 23) hx hb dX11_raise_23 rfl (lv_at hl 0 rfl) ?_
    refine lv_goto (pc := 24) (tgt := 35) hx hb dX11_raise_24 (by decide) ?_
    obtain ⟨r9, S8, hc, h⟩ := bnd_t h
    refine s_cvi (pc := 35) [.int r3] (fun ad => [.ref (ad 62), .int r3]) F w (m_Report_found _ _ _ _ hc) rfl rfl hl.1 ds_62 vc_X5 rfl ok_X5_found rfl kc_X5_found kl_X11_98 ki_X5_found kv_X5_found kn_X5 ⟨Nat.le_trans (by decide) hR1, Nat.le_trans (by decide) hR2⟩ ⟨Nat.zero_le _, Nat.zero_le _⟩ (Nat.le_of_ble_eq_true rfl) dX11_raise_35 (fun H locs w => ?_)
    exact s_iret F w h dX11_raise_38
def f_State_setting (a1 : Int32) (S : SS) : Option (Int32 × SS) :=
  if a1 < 0 then
    some ((-4 : Int32), S)
  else
    if (40 : Int32) ≤ a1 then
      some ((-4 : Int32), S)
    else
      grd (inb ((74 : Int32) + a1) 946) (
      some (S.1 79 ((74 : Int32) + a1).toNatClampNeg, S))
theorem dX8_setting_0 : decode cX8_setting 0 = .ok (.iload_n 1, 1) := dc_27 (by decide +kernel)
theorem dX8_setting_1 : decode cX8_setting 1 = .ok (.ifCond .lt 21, 3) := dc_155 (a := 0) (b := 21) (by decide +kernel) (by decide)
theorem dX8_setting_4 : decode cX8_setting 4 = .ok (.iload_n 1, 1) := dc_27 (by decide +kernel)
theorem dX8_setting_5 : decode cX8_setting 5 = .ok (.bipush 40, 2) := dc_16 (a := 40) (by decide +kernel) (by decide)
theorem dX8_setting_7 : decode cX8_setting 7 = .ok (.if_icmp .ge 15, 3) := dc_162 (a := 0) (b := 15) (by decide +kernel) (by decide)
theorem dX8_setting_10 : decode cX8_setting 10 = .ok (.aload_n 0, 1) := dc_42 (by decide +kernel)
theorem dX8_setting_11 : decode cX8_setting 11 = .ok (.getfield 13, 3) := dc_180 (a := 0) (b := 13) (by decide +kernel)
theorem dX8_setting_14 : decode cX8_setting 14 = .ok (.bipush 74, 2) := dc_16 (a := 74) (by decide +kernel) (by decide)
theorem dX8_setting_16 : decode cX8_setting 16 = .ok (.iload_n 1, 1) := dc_27 (by decide +kernel)
theorem dX8_setting_17 : decode cX8_setting 17 = .ok (.iadd, 1) := dc_96 (by decide +kernel)
theorem dX8_setting_18 : decode cX8_setting 18 = .ok (.iaload, 1) := dc_46 (by decide +kernel)
theorem dX8_setting_19 : decode cX8_setting 19 = .ok (.goto 5, 3) := dc_167 (a := 0) (b := 5) (by decide +kernel) (by decide)
theorem dX8_setting_22 : decode cX8_setting 22 = .ok (.bipush (-4), 2) := dc_16 (a := 252) (by decide +kernel) (by decide)
theorem dX8_setting_24 : decode cX8_setting 24 = .ok (.ireturn, 1) := dc_172 (by decide +kernel)
set_option maxRecDepth 100000 in
set_option maxHeartbeats 4000000 in
theorem m_State_setting (a1 : Int32) (S S' : SS) (r : Int32) (h : f_State_setting a1 S = some (r, S')) : MT yX8_setting cX8_setting 2 (some .int) 0 0 (fun ad => [.ref (ad 63), .int a1]) S (some (.int r)) S' := by
  refine MT.of RX8 (fun ad => [(0, .ref (ad 63)), (1, .int a1)]) (by decide) rfl (fun _ => Nat.le_of_ble_eq_true rfl) (fun _ => rfl) ?_
  intro p l e R s m args below meth c dC dI cs ad A hR1 hR2 F H locs ls w hl
  have hx := F.1.1
  have hb := F.1.2.1
  rw [f_State_setting] at h
  refine lv_iload_n (pc := 0) hx hb dX8_setting_0 rfl (lv_at hl 1 rfl) ?_
  refine lv_if_lt (pc := 1) (tgt := 22) hx hb dX8_setting_1 (by decide) (fun q => ?_) (fun q => ?_)
  · have h := ite_t q h
    refine lv_bipush (pc := 22) (v := -4) hx hb dX8_setting_22 (by decide) ?_
    exact s_iret F w h dX8_setting_24
  · have h := ite_f q h
    refine lv_iload_n (pc := 4) hx hb dX8_setting_4 rfl (lv_at hl 1 rfl) ?_
    refine lv_bipush (pc := 5) (v := 40) hx hb dX8_setting_5 (by decide) ?_
    refine lv_icmp_ge (pc := 7) (tgt := 22) hx hb dX8_setting_7 (by decide) (fun q => ?_) (fun q => ?_)
    · have h := ite_t q h
      refine lv_bipush (pc := 22) (v := -4) hx hb dX8_setting_22 (by decide) ?_
      exact s_iret F w h dX8_setting_24
    · have h := ite_f q h
      refine lv_aload_n (pc := 10) hx hb dX8_setting_10 rfl (lv_at hl 0 rfl) ?_
      refine s_getR (pc := 11) F w 79 ds_63 (j := 0) vc_X8 vi_X8 rfl (by decide) kf_X8_13 dX8_setting_11 ?_
      refine lv_bipush (pc := 14) (v := 74) hx hb dX8_setting_14 (by decide) ?_
      refine lv_iload_n (pc := 16) hx hb dX8_setting_16 rfl (lv_at hl 1 rfl) ?_
      refine lv_iadd (pc := 17) hx hb dX8_setting_17 ?_
      refine s_iald (pc := 18) F w ds_79 h dX8_setting_18 (fun h => ?_)
      refine lv_goto (pc := 19) (tgt := 24) hx hb dX8_setting_19 (by decide) ?_
      exact s_iret F w h dX8_setting_24
def f_Layout_endOf (a1 : Int32) (S : SS) : Option (Int32 × SS) :=
  if a1 < 0 then
    some ((-4 : Int32), S)
  else
    if (S.1 66 8) ≤ a1 then
      some ((-4 : Int32), S)
    else
      grd (inb a1 40) (
      some (S.1 95 a1.toNatClampNeg, S))
theorem dX2_endOf_0 : decode cX2_endOf 0 = .ok (.iload_n 1, 1) := dc_27 (by decide +kernel)
theorem dX2_endOf_1 : decode cX2_endOf 1 = .ok (.ifCond .lt 20, 3) := dc_155 (a := 0) (b := 20) (by decide +kernel) (by decide)
theorem dX2_endOf_4 : decode cX2_endOf 4 = .ok (.iload_n 1, 1) := dc_27 (by decide +kernel)
theorem dX2_endOf_5 : decode cX2_endOf 5 = .ok (.aload_n 0, 1) := dc_42 (by decide +kernel)
theorem dX2_endOf_6 : decode cX2_endOf 6 = .ok (.getfield 35, 3) := dc_180 (a := 0) (b := 35) (by decide +kernel)
theorem dX2_endOf_9 : decode cX2_endOf 9 = .ok (.if_icmp .ge 12, 3) := dc_162 (a := 0) (b := 12) (by decide +kernel) (by decide)
theorem dX2_endOf_12 : decode cX2_endOf 12 = .ok (.aload_n 0, 1) := dc_42 (by decide +kernel)
theorem dX2_endOf_13 : decode cX2_endOf 13 = .ok (.getfield 18, 3) := dc_180 (a := 0) (b := 18) (by decide +kernel)
theorem dX2_endOf_16 : decode cX2_endOf 16 = .ok (.iload_n 1, 1) := dc_27 (by decide +kernel)
theorem dX2_endOf_17 : decode cX2_endOf 17 = .ok (.iaload, 1) := dc_46 (by decide +kernel)
theorem dX2_endOf_18 : decode cX2_endOf 18 = .ok (.goto 5, 3) := dc_167 (a := 0) (b := 5) (by decide +kernel) (by decide)
theorem dX2_endOf_21 : decode cX2_endOf 21 = .ok (.bipush (-4), 2) := dc_16 (a := 252) (by decide +kernel) (by decide)
theorem dX2_endOf_23 : decode cX2_endOf 23 = .ok (.ireturn, 1) := dc_172 (by decide +kernel)
set_option maxRecDepth 100000 in
set_option maxHeartbeats 4000000 in
theorem m_Layout_endOf (a1 : Int32) (S S' : SS) (r : Int32) (h : f_Layout_endOf a1 S = some (r, S')) : MT yX2_endOf cX2_endOf 2 (some .int) 0 0 (fun ad => [.ref (ad 66), .int a1]) S (some (.int r)) S' := by
  refine MT.of RX2 (fun ad => [(0, .ref (ad 66)), (1, .int a1)]) (by decide) rfl (fun _ => Nat.le_of_ble_eq_true rfl) (fun _ => rfl) ?_
  intro p l e R s m args below meth c dC dI cs ad A hR1 hR2 F H locs ls w hl
  have hx := F.1.1
  have hb := F.1.2.1
  rw [f_Layout_endOf] at h
  refine lv_iload_n (pc := 0) hx hb dX2_endOf_0 rfl (lv_at hl 1 rfl) ?_
  refine lv_if_lt (pc := 1) (tgt := 21) hx hb dX2_endOf_1 (by decide) (fun q => ?_) (fun q => ?_)
  · have h := ite_t q h
    refine lv_bipush (pc := 21) (v := -4) hx hb dX2_endOf_21 (by decide) ?_
    exact s_iret F w h dX2_endOf_23
  · have h := ite_f q h
    refine lv_iload_n (pc := 4) hx hb dX2_endOf_4 rfl (lv_at hl 1 rfl) ?_
    refine lv_aload_n (pc := 5) hx hb dX2_endOf_5 rfl (lv_at hl 0 rfl) ?_
    refine s_getI (pc := 6) F w ds_66 (j := 8) vc_X2 vi_X2 rfl (by decide) kf_X2_35 dX2_endOf_6 ?_
    refine lv_icmp_ge (pc := 9) (tgt := 21) hx hb dX2_endOf_9 (by decide) (fun q => ?_) (fun q => ?_)
    · have h := ite_t q h
      refine lv_bipush (pc := 21) (v := -4) hx hb dX2_endOf_21 (by decide) ?_
      exact s_iret F w h dX2_endOf_23
    · have h := ite_f q h
      refine lv_aload_n (pc := 12) hx hb dX2_endOf_12 rfl (lv_at hl 0 rfl) ?_
      refine s_getR (pc := 13) F w 95 ds_66 (j := 3) vc_X2 vi_X2 rfl (by decide) kf_X2_18 dX2_endOf_13 ?_
      refine lv_iload_n (pc := 16) hx hb dX2_endOf_16 rfl (lv_at hl 1 rfl) ?_
      refine s_iald (pc := 17) F w ds_95 h dX2_endOf_17 (fun h => ?_)
      refine lv_goto (pc := 18) (tgt := 23) hx hb dX2_endOf_18 (by decide) ?_
      exact s_iret F w h dX2_endOf_23
def f_Layout_spotAt (a1 : Int32) (S : SS) : Option (Int32 × SS) :=
  nm (a1 >>> ((1 : Int32) &&& 31)) (fun z1 =>
  if (a1 &&& (1 : Int32)) = 0 then
    bnd (f_Layout_spot z1 (0 : Int32) S) (fun r7 S6 =>
    some (r7, S6))
  else
    bnd (f_Layout_placesOf z1 S) (fun r3 S2 =>
    bnd (f_Layout_spot z1 (r3 - (1 : Int32)) S2) (fun r5 S4 =>
    some (r5, S4))))
theorem dX2_spotAt_0 : decode cX2_spotAt 0 = .ok (.iload_n 1, 1) := dc_27 (by decide +kernel)
theorem dX2_spotAt_1 : decode cX2_spotAt 1 = .ok (.iconst 1, 1) := dc_4 (by decide +kernel)
theorem dX2_spotAt_2 : decode cX2_spotAt 2 = .ok (.ishr, 1) := dc_122 (by decide +kernel)
theorem dX2_spotAt_3 : decode cX2_spotAt 3 = .ok (.istore_n 2, 1) := dc_61 (by decide +kernel)
theorem dX2_spotAt_4 : decode cX2_spotAt 4 = .ok (.iload_n 2, 1) := dc_28 (by decide +kernel)
theorem dX2_spotAt_5 : decode cX2_spotAt 5 = .ok (.iload_n 1, 1) := dc_27 (by decide +kernel)
theorem dX2_spotAt_6 : decode cX2_spotAt 6 = .ok (.iconst 1, 1) := dc_4 (by decide +kernel)
theorem dX2_spotAt_7 : decode cX2_spotAt 7 = .ok (.iand, 1) := dc_126 (by decide +kernel)
theorem dX2_spotAt_8 : decode cX2_spotAt 8 = .ok (.ifCond .ne 7, 3) := dc_154 (a := 0) (b := 7) (by decide +kernel) (by decide)
theorem dX2_spotAt_11 : decode cX2_spotAt 11 = .ok (.iconst 0, 1) := dc_3 (by decide +kernel)
theorem dX2_spotAt_12 : decode cX2_spotAt 12 = .ok (.goto 10, 3) := dc_167 (a := 0) (b := 10) (by decide +kernel) (by decide)
theorem dX2_spotAt_15 : decode cX2_spotAt 15 = .ok (.aload_n 0, 1) := dc_42 (by decide +kernel)
theorem dX2_spotAt_16 : decode cX2_spotAt 16 = .ok (.iload_n 2, 1) := dc_28 (by decide +kernel)
theorem dX2_spotAt_17 : decode cX2_spotAt 17 = .ok (.invokevirtual 62, 3) := dc_182 (a := 0) (b := 62) (by decide +kernel)
theorem dX2_spotAt_20 : decode cX2_spotAt 20 = .ok (.iconst 1, 1) := dc_4 (by decide +kernel)
theorem dX2_spotAt_21 : decode cX2_spotAt 21 = .ok (.isub, 1) := dc_100 (by decide +kernel)
theorem dX2_spotAt_22 : decode cX2_spotAt 22 = .ok (.invokestatic 95, 3) := dc_184 (a := 0) (b := 95) (by decide +kernel)
theorem dX2_spotAt_25 : decode cX2_spotAt 25 = .ok (.ireturn, 1) := dc_172 (by decide +kernel)
set_option maxRecDepth 100000 in
set_option maxHeartbeats 4000000 in
theorem m_Layout_spotAt (a1 : Int32) (S S' : SS) (r : Int32) (h : f_Layout_spotAt a1 S = some (r, S')) : MT yX2_spotAt cX2_spotAt 3 (some .int) 1 21 (fun ad => [.ref (ad 66), .int a1]) S (some (.int r)) S' := by
  refine MT.of RX2 (fun ad => [(0, .ref (ad 66)), (1, .int a1)]) (by decide) rfl (fun _ => Nat.le_of_ble_eq_true rfl) (fun _ => rfl) ?_
  intro p l e R s m args below meth c dC dI cs ad A hR1 hR2 F H locs ls w hl
  have hx := F.1.1
  have hb := F.1.2.1
  rw [f_Layout_spotAt] at h
  refine lv_iload_n (pc := 0) hx hb dX2_spotAt_0 rfl (lv_at hl 1 rfl) ?_
  refine lv_iconst (pc := 1) (v := 1) hx hb dX2_spotAt_1 (by decide) ?_
  refine lv_ishr (pc := 2) hx hb dX2_spotAt_2 ?_
  refine s_nm h (fun z1 ez1 h => ?_)
  rw [← ez1]
  refine lv_istore_n (pc := 3) (lv' := [(2, .int z1), (0, .ref (ad 66)), (1, .int a1)]) hx hb dX2_spotAt_3 rfl hl (by decide) rfl (fun ls hl => ?_)
  refine lv_iload_n (pc := 4) hx hb dX2_spotAt_4 rfl (lv_at hl 0 rfl) ?_
  refine lv_iload_n (pc := 5) hx hb dX2_spotAt_5 rfl (lv_at hl 2 rfl) ?_
  refine lv_iconst (pc := 6) (v := 1) hx hb dX2_spotAt_6 (by decide) ?_
  refine lv_iand (pc := 7) hx hb dX2_spotAt_7 ?_
  refine lv_if_ne (pc := 8) (tgt := 15) hx hb dX2_spotAt_8 (by decide) (fun q => ?_) (fun q => ?_)
  · have h := ite_f q h
    refine lv_aload_n (pc := 15) hx hb dX2_spotAt_15 rfl (lv_at hl 1 rfl) ?_
    refine lv_iload_n (pc := 16) hx hb dX2_spotAt_16 rfl (lv_at hl 0 rfl) ?_
    obtain ⟨r3, S2, hc, h⟩ := bnd_t h
    refine s_cvi (pc := 17) [.int z1] (fun ad => [.ref (ad 66), .int z1]) F w (m_Layout_placesOf _ _ _ _ hc) rfl rfl hl.1 ds_66 vc_X2 rfl ok_X2_placesOf rfl kc_X2_placesOf kl_X2_62 ki_X2_placesOf kv_X2_placesOf kn_X2 ⟨Nat.le_trans (by decide) hR1, Nat.le_trans (by decide) hR2⟩ ⟨Nat.zero_le _, Nat.zero_le _⟩ (Nat.le_of_ble_eq_true rfl) dX2_spotAt_17 (fun H locs w => ?_)
    refine lv_iconst (pc := 20) (v := 1) hx hb dX2_spotAt_20 (by decide) ?_
    refine lv_isub (pc := 21) hx hb dX2_spotAt_21 ?_
    obtain ⟨r5, S4, hc, h⟩ := bnd_t h
    refine s_csi (pc := 22) [.int z1, .int (r3 - (1 : Int32))] (fun ad => [.int z1, .int (r3 - (1 : Int32))]) F w (m_Layout_spot _ _ _ _ _ hc) rfl rfl hl.1 ok_X2_spot rfl kc_X2_spot kl_X2_95 ks_X2_spot kn_X2 ⟨Nat.le_trans (by decide) hR1, Nat.le_trans (by decide) hR2⟩ ⟨Nat.zero_le _, Nat.zero_le _⟩ (Nat.le_of_ble_eq_true rfl) dX2_spotAt_22 (fun H locs w => ?_)
    exact s_iret F w h dX2_spotAt_25
  · have h := ite_t q h
    refine lv_iconst (pc := 11) (v := 0) hx hb dX2_spotAt_11 (by decide) ?_
    refine lv_goto (pc := 12) (tgt := 22) hx hb dX2_spotAt_12 (by decide) ?_
    obtain ⟨r7, S6, hc, h⟩ := bnd_t h
    refine s_csi (pc := 22) [.int z1, .int (0 : Int32)] (fun ad => [.int z1, .int (0 : Int32)]) F w (m_Layout_spot _ _ _ _ _ hc) rfl rfl hl.1 ok_X2_spot rfl kc_X2_spot kl_X2_95 ks_X2_spot kn_X2 ⟨Nat.le_trans (by decide) hR1, Nat.le_trans (by decide) hR2⟩ ⟨Nat.zero_le _, Nat.zero_le _⟩ (Nat.le_of_ble_eq_true rfl) dX2_spotAt_22 (fun H locs w => ?_)
    exact s_iret F w h dX2_spotAt_25
def f_Routes_isUnder (a1 : Int32) (S : SS) : Option (Int32 × SS) :=
  bnd (f_Layout_endOf a1 S) (fun r2 S1 =>
  bnd (f_Layout_spotAt r2 S1) (fun r4 S3 =>
  bnd (f_State_standsAt r4 S3) (fun r6 S5 =>
  if r6 = (-4 : Int32) then
    some ((0 : Int32), S5)
  else
    some ((1 : Int32), S5))))
theorem dX6_isUnder_0 : decode cX6_isUnder 0 = .ok (.aload_n 0, 1) := dc_42 (by decide +kernel)
theorem dX6_isUnder_1 : decode cX6_isUnder 1 = .ok (.getfield 31, 3) := dc_180 (a := 0) (b := 31) (by decide +kernel)
theorem dX6_isUnder_4 : decode cX6_isUnder 4 = .ok (.aload_n 0, 1) := dc_42 (by decide +kernel)
theorem dX6_isUnder_5 : decode cX6_isUnder 5 = .ok (.getfield 35, 3) := dc_180 (a := 0) (b := 35) (by decide +kernel)
theorem dX6_isUnder_8 : decode cX6_isUnder 8 = .ok (.aload_n 0, 1) := dc_42 (by decide +kernel)
theorem dX6_isUnder_9 : decode cX6_isUnder 9 = .ok (.getfield 35, 3) := dc_180 (a := 0) (b := 35) (by decide +kernel)
theorem dX6_isUnder_12 : decode cX6_isUnder 12 = .ok (.iload_n 1, 1) := dc_27 (by decide +kernel)
theorem dX6_isUnder_13 : decode cX6_isUnder 13 = .ok (.invokevirtual 99, 3) := dc_182 (a := 0) (b := 99) (by decide +kernel)
theorem dX6_isUnder_16 : decode cX6_isUnder 16 = .ok (.invokevirtual 105, 3) := dc_182 (a := 0) (b := 105) (by decide +kernel)
theorem dX6_isUnder_19 : decode cX6_isUnder 19 = .ok (.invokevirtual 108, 3) := dc_182 (a := 0) (b := 108) (by decide +kernel)
theorem dX6_isUnder_22 : decode cX6_isUnder 22 = .ok (.bipush (-4), 2) := dc_16 (a := 252) (by decide +kernel) (by decide)
theorem dX6_isUnder_24 : decode cX6_isUnder 24 = .ok (.if_icmp .eq 7, 3) := dc_159 (a := 0) (b := 7) (by decide +kernel) (by decide)
theorem dX6_isUnder_27 : decode cX6_isUnder 27 = .ok (.iconst 1, 1) := dc_4 (by decide +kernel)
theorem dX6_isUnder_28 : decode cX6_isUnder 28 = .ok (.goto 4, 3) := dc_167 (a := 0) (b := 4) (by decide +kernel) (by decide)
theorem dX6_isUnder_31 : decode cX6_isUnder 31 = .ok (.iconst 0, 1) := dc_3 (by decide +kernel)
theorem dX6_isUnder_32 : decode cX6_isUnder 32 = .ok (.ireturn, 1) := dc_172 (by decide +kernel)
set_option maxRecDepth 100000 in
set_option maxHeartbeats 4000000 in
theorem m_Routes_isUnder (a1 : Int32) (S S' : SS) (r : Int32) (h : f_Routes_isUnder a1 S = some (r, S')) : MT yX6_isUnder cX6_isUnder 2 (some .boolean) 2 44 (fun ad => [.ref (ad 67), .int a1]) S (some (.int r)) S' := by
  refine MT.of RX6 (fun ad => [(0, .ref (ad 67)), (1, .int a1)]) (by decide) rfl (fun _ => Nat.le_of_ble_eq_true rfl) (fun _ => rfl) ?_
  intro p l e R s m args below meth c dC dI cs ad A hR1 hR2 F H locs ls w hl
  have hx := F.1.1
  have hb := F.1.2.1
  rw [f_Routes_isUnder] at h
  refine lv_aload_n (pc := 0) hx hb dX6_isUnder_0 rfl (lv_at hl 0 rfl) ?_
  refine s_getR (pc := 1) F w 63 ds_67 (j := 0) vc_X6 vi_X6 rfl (by decide) kf_X6_31 dX6_isUnder_1 ?_
  refine lv_aload_n (pc := 4) hx hb dX6_isUnder_4 rfl (lv_at hl 0 rfl) ?_
  refine s_getR (pc := 5) F w 66 ds_67 (j := 1) vc_X6 vi_X6 rfl (by decide) kf_X6_35 dX6_isUnder_5 ?_
  refine lv_aload_n (pc := 8) hx hb dX6_isUnder_8 rfl (lv_at hl 0 rfl) ?_
  refine s_getR (pc := 9) F w 66 ds_67 (j := 1) vc_X6 vi_X6 rfl (by decide) kf_X6_35 dX6_isUnder_9 ?_
  refine lv_iload_n (pc := 12) hx hb dX6_isUnder_12 rfl (lv_at hl 1 rfl) ?_
  obtain ⟨r2, S1, hc, h⟩ := bnd_t h
  refine s_cvi (pc := 13) [.int a1] (fun ad => [.ref (ad 66), .int a1]) F w (m_Layout_endOf _ _ _ _ hc) rfl rfl hl.1 ds_66 vc_X2 rfl ok_X2_endOf rfl kc_X2_endOf kl_X6_99 ki_X2_endOf kv_X2_endOf kn_X2 ⟨Nat.le_trans (by decide) hR1, Nat.le_trans (by decide) hR2⟩ ⟨Nat.zero_le _, Nat.zero_le _⟩ (Nat.le_of_ble_eq_true rfl) dX6_isUnder_13 (fun H locs w => ?_)
  obtain ⟨r4, S3, hc, h⟩ := bnd_t h
  refine s_cvi (pc := 16) [.int r2] (fun ad => [.ref (ad 66), .int r2]) F w (m_Layout_spotAt _ _ _ _ hc) rfl rfl hl.1 ds_66 vc_X2 rfl ok_X2_spotAt rfl kc_X2_spotAt kl_X6_105 ki_X2_spotAt kv_X2_spotAt kn_X2 ⟨Nat.le_trans (by decide) hR1, Nat.le_trans (by decide) hR2⟩ ⟨Nat.zero_le _, Nat.zero_le _⟩ (Nat.le_of_ble_eq_true rfl) dX6_isUnder_16 (fun H locs w => ?_)
  obtain ⟨r6, S5, hc, h⟩ := bnd_t h
  refine s_cvi (pc := 19) [.int r4] (fun ad => [.ref (ad 63), .int r4]) F w (m_State_standsAt _ _ _ _ hc) rfl rfl hl.1 ds_63 vc_X8 rfl ok_X8_standsAt rfl kc_X8_standsAt kl_X6_108 ki_X8_standsAt kv_X8_standsAt kn_X8 ⟨Nat.le_trans (by decide) hR1, Nat.le_trans (by decide) hR2⟩ ⟨Nat.zero_le _, Nat.zero_le _⟩ (Nat.le_of_ble_eq_true rfl) dX6_isUnder_19 (fun H locs w => ?_)
  refine lv_bipush (pc := 22) (v := -4) hx hb dX6_isUnder_22 (by decide) ?_
  refine lv_icmp_eq (pc := 24) (tgt := 31) hx hb dX6_isUnder_24 (by decide) (fun q => ?_) (fun q => ?_)
  · have h := ite_t q h
    refine lv_iconst (pc := 31) (v := 0) hx hb dX6_isUnder_31 (by decide) ?_
    exact s_zretc F w rfl h dX6_isUnder_32
  · have h := ite_f q h
    refine lv_iconst (pc := 27) (v := 1) hx hb dX6_isUnder_27 (by decide) ?_
    refine lv_goto (pc := 28) (tgt := 32) hx hb dX6_isUnder_28 (by decide) ?_
    exact s_zretc F w rfl h dX6_isUnder_32
def f_Routes_turnFinding (a1 : Int32) (S : SS) : Option (Int32 × SS) :=
  bnd (f_State_locker a1 S) (fun r2 S1 =>
  if r2 = (-4 : Int32) then
    bnd (f_Routes_isUnder a1 S1) (fun r4 S3 =>
    if r4 = 0 then
      some ((0 : Int32), S3)
    else
      some ((12 : Int32), S3))
  else
    bnd (f_State_locker a1 S1) (fun r6 S5 =>
    bnd (f_Routes_lockedFinding r6 S5) (fun r8 S7 =>
    some (r8, S7))))
theorem dX6_turnFinding_0 : decode cX6_turnFinding 0 = .ok (.aload_n 0, 1) := dc_42 (by decide +kernel)
theorem dX6_turnFinding_1 : decode cX6_turnFinding 1 = .ok (.getfield 31, 3) := dc_180 (a := 0) (b := 31) (by decide +kernel)
theorem dX6_turnFinding_4 : decode cX6_turnFinding 4 = .ok (.iload_n 1, 1) := dc_27 (by decide +kernel)
theorem dX6_turnFinding_5 : decode cX6_turnFinding 5 = .ok (.invokevirtual 58, 3) := dc_182 (a := 0) (b := 58) (by decide +kernel)
theorem dX6_turnFinding_8 : decode cX6_turnFinding 8 = .ok (.bipush (-4), 2) := dc_16 (a := 252) (by decide +kernel) (by decide)
theorem dX6_turnFinding_10 : decode cX6_turnFinding 10 = .ok (.if_icmp .eq 16, 3) := dc_159 (a := 0) (b := 16) (by decide +kernel) (by decide)
theorem dX6_turnFinding_13 : decode cX6_turnFinding 13 = .ok (.aload_n 0, 1) := dc_42 (by decide +kernel)
theorem dX6_turnFinding_14 : decode cX6_turnFinding 14 = .ok (.aload_n 0, 1) := dc_42 (by decide +kernel)
theorem dX6_turnFinding_15 : decode cX6_turnFinding 15 = .ok (.getfield 31, 3) := dc_180 (a := 0) (b := 31) (by decide +kernel)
theorem dX6_turnFinding_18 : decode cX6_turnFinding 18 = .ok (.iload_n 1, 1) := dc_27 (by decide +kernel)
theorem dX6_turnFinding_19 : decode cX6_turnFinding 19 = .ok (.invokevirtual 58, 3) := dc_182 (a := 0) (b := 58) (by decide +kernel)
theorem dX6_turnFinding_22 : decode cX6_turnFinding 22 = .ok (.invokevirtual 50, 3) := dc_182 (a := 0) (b := 50) (by decide +kernel)
theorem dX6_turnFinding_25 : decode cX6_turnFinding 25 = .ok (.ireturn, 1) := dc_172 (by decide +kernel)
theorem dX6_turnFinding_26 : decode cX6_turnFinding 26 = .ok (.aload_n 0, 1) := dc_42 (by decide +kernel)
theorem dX6_turnFinding_27 : decode cX6_turnFinding 27 = .ok (.iload_n 1, 1) := dc_27 (by decide +kernel)
theorem dX6_turnFinding_28 : decode cX6_turnFinding 28 = .ok (.invokevirtual 95, 3) := dc_182 (a := 0) (b := 95) (by decide +kernel)
theorem dX6_turnFinding_31 : decode cX6_turnFinding 31 = .ok (.ifCond .eq 8, 3) := dc_153 (a := 0) (b := 8) (by decide +kernel) (by decide)
theorem dX6_turnFinding_34 : decode cX6_turnFinding 34 = .ok (.bipush 12, 2) := dc_16 (a := 12) (by decide +kernel) (by decide)
theorem dX6_turnFinding_36 : decode cX6_turnFinding 36 = .ok (.goto 4, 3) := dc_167 (a := 0) (b := 4) (by decide +kernel) (by decide)
theorem dX6_turnFinding_39 : decode cX6_turnFinding 39 = .ok (.iconst 0, 1) := dc_3 (by decide +kernel)
theorem dX6_turnFinding_40 : decode cX6_turnFinding 40 = .ok (.ireturn, 1) := dc_172 (by decide +kernel)
set_option maxRecDepth 100000 in
set_option maxHeartbeats 4000000 in
theorem m_Routes_turnFinding (a1 : Int32) (S S' : SS) (r : Int32) (h : f_Routes_turnFinding a1 S = some (r, S')) : MT yX6_turnFinding cX6_turnFinding 2 (some .int) 3 65 (fun ad => [.ref (ad 67), .int a1]) S (some (.int r)) S' := by
  refine MT.of RX6 (fun ad => [(0, .ref (ad 67)), (1, .int a1)]) (by decide) rfl (fun _ => Nat.le_of_ble_eq_true rfl) (fun _ => rfl) ?_
  intro p l e R s m args below meth c dC dI cs ad A hR1 hR2 F H locs ls w hl
  have hx := F.1.1
  have hb := F.1.2.1
  rw [f_Routes_turnFinding] at h
  refine lv_aload_n (pc := 0) hx hb dX6_turnFinding_0 rfl (lv_at hl 0 rfl) ?_
  refine s_getR (pc := 1) F w 63 ds_67 (j := 0) vc_X6 vi_X6 rfl (by decide) kf_X6_31 dX6_turnFinding_1 ?_
  refine lv_iload_n (pc := 4) hx hb dX6_turnFinding_4 rfl (lv_at hl 1 rfl) ?_
  obtain ⟨r2, S1, hc, h⟩ := bnd_t h
  refine s_cvi (pc := 5) [.int a1] (fun ad => [.ref (ad 63), .int a1]) F w (m_State_locker _ _ _ _ hc) rfl rfl hl.1 ds_63 vc_X8 rfl ok_X8_locker rfl kc_X8_locker kl_X6_58 ki_X8_locker kv_X8_locker kn_X8 ⟨Nat.le_trans (by decide) hR1, Nat.le_trans (by decide) hR2⟩ ⟨Nat.zero_le _, Nat.zero_le _⟩ (Nat.le_of_ble_eq_true rfl) dX6_turnFinding_5 (fun H locs w => ?_)
  refine lv_bipush (pc := 8) (v := -4) hx hb dX6_turnFinding_8 (by decide) ?_
  refine lv_icmp_eq (pc := 10) (tgt := 26) hx hb dX6_turnFinding_10 (by decide) (fun q => ?_) (fun q => ?_)
  · have h := ite_t q h
    refine lv_aload_n (pc := 26) hx hb dX6_turnFinding_26 rfl (lv_at hl 0 rfl) ?_
    refine lv_iload_n (pc := 27) hx hb dX6_turnFinding_27 rfl (lv_at hl 1 rfl) ?_
    obtain ⟨r4, S3, hc, h⟩ := bnd_t h
    refine s_cvi (pc := 28) [.int a1] (fun ad => [.ref (ad 67), .int a1]) F w (m_Routes_isUnder _ _ _ _ hc) rfl rfl hl.1 ds_67 vc_X6 rfl ok_X6_isUnder rfl kc_X6_isUnder kl_X6_95 ki_X6_isUnder kv_X6_isUnder kn_X6 ⟨Nat.le_trans (by decide) hR1, Nat.le_trans (by decide) hR2⟩ ⟨Nat.zero_le _, Nat.zero_le _⟩ (Nat.le_of_ble_eq_true rfl) dX6_turnFinding_28 (fun H locs w => ?_)
    refine lv_if_eq (pc := 31) (tgt := 39) hx hb dX6_turnFinding_31 (by decide) (fun q => ?_) (fun q => ?_)
    · have h := ite_t q h
      refine lv_iconst (pc := 39) (v := 0) hx hb dX6_turnFinding_39 (by decide) ?_
      exact s_iret F w h dX6_turnFinding_40
    · have h := ite_f q h
      refine lv_bipush (pc := 34) (v := 12) hx hb dX6_turnFinding_34 (by decide) ?_
      refine lv_goto (pc := 36) (tgt := 40) hx hb dX6_turnFinding_36 (by decide) ?_
      exact s_iret F w h dX6_turnFinding_40
  · have h := ite_f q h
    refine lv_aload_n (pc := 13) hx hb dX6_turnFinding_13 rfl (lv_at hl 0 rfl) ?_
    refine lv_aload_n (pc := 14) hx hb dX6_turnFinding_14 rfl (lv_at hl 0 rfl) ?_
    refine s_getR (pc := 15) F w 63 ds_67 (j := 0) vc_X6 vi_X6 rfl (by decide) kf_X6_31 dX6_turnFinding_15 ?_
    refine lv_iload_n (pc := 18) hx hb dX6_turnFinding_18 rfl (lv_at hl 1 rfl) ?_
    obtain ⟨r6, S5, hc, h⟩ := bnd_t h
    refine s_cvi (pc := 19) [.int a1] (fun ad => [.ref (ad 63), .int a1]) F w (m_State_locker _ _ _ _ hc) rfl rfl hl.1 ds_63 vc_X8 rfl ok_X8_locker rfl kc_X8_locker kl_X6_58 ki_X8_locker kv_X8_locker kn_X8 ⟨Nat.le_trans (by decide) hR1, Nat.le_trans (by decide) hR2⟩ ⟨Nat.zero_le _, Nat.zero_le _⟩ (Nat.le_of_ble_eq_true rfl) dX6_turnFinding_19 (fun H locs w => ?_)
    obtain ⟨r8, S7, hc, h⟩ := bnd_t h
    refine s_cvi (pc := 22) [.int r6] (fun ad => [.ref (ad 67), .int r6]) F w (m_Routes_lockedFinding _ _ _ _ hc) rfl rfl hl.1 ds_67 vc_X6 rfl ok_X6_lockedFinding rfl kc_X6_lockedFinding kl_X6_50 ki_X6_lockedFinding kv_X6_lockedFinding kn_X6 ⟨Nat.le_trans (by decide) hR1, Nat.le_trans (by decide) hR2⟩ ⟨Nat.zero_le _, Nat.zero_le _⟩ (Nat.le_of_ble_eq_true rfl) dX6_turnFinding_22 (fun H locs w => ?_)
    exact s_iret F w h dX6_turnFinding_25
def f_Routes_hasLink (a1 : Int32) (a2 : Int32) (S : SS) : Option (Int32 × SS) :=
  if a2 < 0 then
    some ((0 : Int32), S)
  else
    bnd (f_Layout_endOf a1 S) (fun r2 S1 =>
    bnd (f_Layout_linksAt r2 S1) (fun r4 S3 =>
    if r4 ≤ a2 then
      some ((0 : Int32), S3)
    else
      some ((1 : Int32), S3)))
theorem dX6_hasLink_0 : decode cX6_hasLink 0 = .ok (.iload_n 2, 1) := dc_28 (by decide +kernel)
theorem dX6_hasLink_1 : decode cX6_hasLink 1 = .ok (.ifCond .lt 26, 3) := dc_155 (a := 0) (b := 26) (by decide +kernel) (by decide)
theorem dX6_hasLink_4 : decode cX6_hasLink 4 = .ok (.iload_n 2, 1) := dc_28 (by decide +kernel)
theorem dX6_hasLink_5 : decode cX6_hasLink 5 = .ok (.aload_n 0, 1) := dc_42 (by decide +kernel)
theorem dX6_hasLink_6 : decode cX6_hasLink 6 = .ok (.getfield 35, 3) := dc_180 (a := 0) (b := 35) (by decide +kernel)
theorem dX6_hasLink_9 : decode cX6_hasLink 9 = .ok (.aload_n 0, 1) := dc_42 (by decide +kernel)
theorem dX6_hasLink_10 : decode cX6_hasLink 10 = .ok (.getfield 35, 3) := dc_180 (a := 0) (b := 35) (by decide +kernel)
theorem dX6_hasLink_13 : decode cX6_hasLink 13 = .ok (.iload_n 1, 1) := dc_27 (by decide +kernel)
theorem dX6_hasLink_14 : decode cX6_hasLink 14 = .ok (.invokevirtual 99, 3) := dc_182 (a := 0) (b := 99) (by decide +kernel)
theorem dX6_hasLink_17 : decode cX6_hasLink 17 = .ok (.invokevirtual 102, 3) := dc_182 (a := 0) (b := 102) (by decide +kernel)
theorem dX6_hasLink_20 : decode cX6_hasLink 20 = .ok (.if_icmp .ge 7, 3) := dc_162 (a := 0) (b := 7) (by decide +kernel) (by decide)
theorem dX6_hasLink_23 : decode cX6_hasLink 23 = .ok (.iconst 1, 1) := dc_4 (by decide +kernel)
theorem dX6_hasLink_24 : decode cX6_hasLink 24 = .ok (.goto 4, 3) := dc_167 (a := 0) (b := 4) (by decide +kernel) (by decide)
theorem dX6_hasLink_27 : decode cX6_hasLink 27 = .ok (.iconst 0, 1) := dc_3 (by decide +kernel)
theorem dX6_hasLink_28 : decode cX6_hasLink 28 = .ok (.ireturn, 1) := dc_172 (by decide +kernel)
set_option maxRecDepth 100000 in
set_option maxHeartbeats 4000000 in
theorem m_Routes_hasLink (a1 : Int32) (a2 : Int32) (S S' : SS) (r : Int32) (h : f_Routes_hasLink a1 a2 S = some (r, S')) : MT yX6_hasLink cX6_hasLink 3 (some .boolean) 1 21 (fun ad => [.ref (ad 67), .int a1, .int a2]) S (some (.int r)) S' := by
  refine MT.of RX6 (fun ad => [(0, .ref (ad 67)), (1, .int a1), (2, .int a2)]) (by decide) rfl (fun _ => Nat.le_of_ble_eq_true rfl) (fun _ => rfl) ?_
  intro p l e R s m args below meth c dC dI cs ad A hR1 hR2 F H locs ls w hl
  have hx := F.1.1
  have hb := F.1.2.1
  rw [f_Routes_hasLink] at h
  refine lv_iload_n (pc := 0) hx hb dX6_hasLink_0 rfl (lv_at hl 2 rfl) ?_
  refine lv_if_lt (pc := 1) (tgt := 27) hx hb dX6_hasLink_1 (by decide) (fun q => ?_) (fun q => ?_)
  · have h := ite_t q h
    refine lv_iconst (pc := 27) (v := 0) hx hb dX6_hasLink_27 (by decide) ?_
    exact s_zretc F w rfl h dX6_hasLink_28
  · have h := ite_f q h
    refine lv_iload_n (pc := 4) hx hb dX6_hasLink_4 rfl (lv_at hl 2 rfl) ?_
    refine lv_aload_n (pc := 5) hx hb dX6_hasLink_5 rfl (lv_at hl 0 rfl) ?_
    refine s_getR (pc := 6) F w 66 ds_67 (j := 1) vc_X6 vi_X6 rfl (by decide) kf_X6_35 dX6_hasLink_6 ?_
    refine lv_aload_n (pc := 9) hx hb dX6_hasLink_9 rfl (lv_at hl 0 rfl) ?_
    refine s_getR (pc := 10) F w 66 ds_67 (j := 1) vc_X6 vi_X6 rfl (by decide) kf_X6_35 dX6_hasLink_10 ?_
    refine lv_iload_n (pc := 13) hx hb dX6_hasLink_13 rfl (lv_at hl 1 rfl) ?_
    obtain ⟨r2, S1, hc, h⟩ := bnd_t h
    refine s_cvi (pc := 14) [.int a1] (fun ad => [.ref (ad 66), .int a1]) F w (m_Layout_endOf _ _ _ _ hc) rfl rfl hl.1 ds_66 vc_X2 rfl ok_X2_endOf rfl kc_X2_endOf kl_X6_99 ki_X2_endOf kv_X2_endOf kn_X2 ⟨Nat.le_trans (by decide) hR1, Nat.le_trans (by decide) hR2⟩ ⟨Nat.zero_le _, Nat.zero_le _⟩ (Nat.le_of_ble_eq_true rfl) dX6_hasLink_14 (fun H locs w => ?_)
    obtain ⟨r4, S3, hc, h⟩ := bnd_t h
    refine s_cvi (pc := 17) [.int r2] (fun ad => [.ref (ad 66), .int r2]) F w (m_Layout_linksAt _ _ _ _ hc) rfl rfl hl.1 ds_66 vc_X2 rfl ok_X2_linksAt rfl kc_X2_linksAt kl_X6_102 ki_X2_linksAt kv_X2_linksAt kn_X2 ⟨Nat.le_trans (by decide) hR1, Nat.le_trans (by decide) hR2⟩ ⟨Nat.zero_le _, Nat.zero_le _⟩ (Nat.le_of_ble_eq_true rfl) dX6_hasLink_17 (fun H locs w => ?_)
    refine lv_icmp_ge (pc := 20) (tgt := 27) hx hb dX6_hasLink_20 (by decide) (fun q => ?_) (fun q => ?_)
    · have h := ite_t q h
      refine lv_iconst (pc := 27) (v := 0) hx hb dX6_hasLink_27 (by decide) ?_
      exact s_zretc F w rfl h dX6_hasLink_28
    · have h := ite_f q h
      refine lv_iconst (pc := 23) (v := 1) hx hb dX6_hasLink_23 (by decide) ?_
      refine lv_goto (pc := 24) (tgt := 28) hx hb dX6_hasLink_24 (by decide) ?_
      exact s_zretc F w rfl h dX6_hasLink_28
def f_Routes_turnPoint_j50  (x1 : Int32) (x2 : Int32) (x3 : Int32) (x4 : Int32) (S : SS) : Option (Int32 × SS) :=
    if x3 = 0 then
      bnd (f_State_locker x1 S) (fun r6 S5 =>
      bndv (f_State_setPoint x1 x2 r6 S5) (fun S7 =>
      some (x4, S7)))
    else
      bnd (f_Report_found x3 S) (fun r9 S8 =>
      some (r9, S8))
def f_Routes_turnPoint_j24  (x1 : Int32) (x2 : Int32) (x3 : Int32) (S : SS) : Option (Int32 × SS) :=
    bnd (f_State_setting x1 S) (fun r4 S3 =>
    if x3 = 0 then
      if r4 = x2 then
        f_Routes_turnPoint_j50 x1 x2 x3 r4 S3
      else
        bnd (f_Routes_turnFinding x1 S3) (fun r11 S10 =>
        f_Routes_turnPoint_j50 x1 x2 r11 r4 S10)
    else
      f_Routes_turnPoint_j50 x1 x2 x3 r4 S3)
def f_Routes_turnPoint (a1 : Int32) (a2 : Int32) (S : SS) : Option (Int32 × SS) :=
  bnd (f_Layout_pointFinding a1 S) (fun r2 S1 =>
  if r2 = 0 then
    bnd (f_Routes_hasLink a1 a2 S1) (fun r13 S12 =>
    if r13 = 0 then
      f_Routes_turnPoint_j24 a1 a2 (3 : Int32) S12
    else
      f_Routes_turnPoint_j24 a1 a2 r2 S12)
  else
    f_Routes_turnPoint_j24 a1 a2 r2 S1)
theorem dX6_turnPoint_0 : decode cX6_turnPoint 0 = .ok (.aload_n 0, 1) := dc_42 (by decide +kernel)
theorem dX6_turnPoint_1 : decode cX6_turnPoint 1 = .ok (.getfield 35, 3) := dc_180 (a := 0) (b := 35) (by decide +kernel)
theorem dX6_turnPoint_4 : decode cX6_turnPoint 4 = .ok (.iload_n 1, 1) := dc_27 (by decide +kernel)
theorem dX6_turnPoint_5 : decode cX6_turnPoint 5 = .ok (.invokevirtual 75, 3) := dc_182 (a := 0) (b := 75) (by decide +kernel)
theorem dX6_turnPoint_8 : decode cX6_turnPoint 8 = .ok (.istore_n 3, 1) := dc_62 (by decide +kernel)
theorem dX6_turnPoint_9 : decode cX6_turnPoint 9 = .ok (.iload_n 3, 1) := dc_29 (by decide +kernel)
theorem dX6_turnPoint_10 : decode cX6_turnPoint 10 = .ok (.ifCond .ne 14, 3) := dc_154 (a := 0) (b := 14) (by decide +kernel) (by decide)
theorem dX6_turnPoint_13 : decode cX6_turnPoint 13 = .ok (.aload_n 0, 1) := dc_42 (by decide +kernel)
theorem dX6_turnPoint_14 : decode cX6_turnPoint 14 = .ok (.iload_n 1, 1) := dc_27 (by decide +kernel)
theorem dX6_turnPoint_15 : decode cX6_turnPoint 15 = .ok (.iload_n 2, 1) := dc_28 (by decide +kernel)
theorem dX6_turnPoint_16 : decode cX6_turnPoint 16 = .ok (.invokevirtual 78, 3) := dc_182 (a := 0) (b := 78) (by decide +kernel)
theorem dX6_turnPoint_19 : decode cX6_turnPoint 19 = .ok (.ifCond .ne 5, 3) := dc_154 (a := 0) (b := 5) (by decide +kernel) (by decide)
theorem dX6_turnPoint_22 : decode cX6_turnPoint 22 = .ok (.iconst 3, 1) := dc_6 (by decide +kernel)
theorem dX6_turnPoint_23 : decode cX6_turnPoint 23 = .ok (.istore_n 3, 1) := dc_62 (by decide +kernel)
theorem dX6_turnPoint_24 : decode cX6_turnPoint 24 = .ok (.aload_n 0, 1) := dc_42 (by decide +kernel)
theorem dX6_turnPoint_25 : decode cX6_turnPoint 25 = .ok (.getfield 31, 3) := dc_180 (a := 0) (b := 31) (by decide +kernel)
theorem dX6_turnPoint_28 : decode cX6_turnPoint 28 = .ok (.iload_n 1, 1) := dc_27 (by decide +kernel)
theorem dX6_turnPoint_29 : decode cX6_turnPoint 29 = .ok (.invokevirtual 82, 3) := dc_182 (a := 0) (b := 82) (by decide +kernel)
theorem dX6_turnPoint_32 : decode cX6_turnPoint 32 = .ok (.istore 4, 2) := dc_54 (a := 4) (by decide +kernel)
theorem dX6_turnPoint_34 : decode cX6_turnPoint 34 = .ok (.iload_n 3, 1) := dc_29 (by decide +kernel)
theorem dX6_turnPoint_35 : decode cX6_turnPoint 35 = .ok (.ifCond .ne 15, 3) := dc_154 (a := 0) (b := 15) (by decide +kernel) (by decide)
theorem dX6_turnPoint_38 : decode cX6_turnPoint 38 = .ok (.iload 4, 2) := dc_21 (a := 4) (by decide +kernel)
theorem dX6_turnPoint_40 : decode cX6_turnPoint 40 = .ok (.iload_n 2, 1) := dc_28 (by decide +kernel)
theorem dX6_turnPoint_41 : decode cX6_turnPoint 41 = .ok (.if_icmp .eq 9, 3) := dc_159 (a := 0) (b := 9) (by decide +kernel) (by decide)
theorem dX6_turnPoint_44 : decode cX6_turnPoint 44 = .ok (.aload_n 0, 1) := dc_42 (by decide +kernel)
theorem dX6_turnPoint_45 : decode cX6_turnPoint 45 = .ok (.iload_n 1, 1) := dc_27 (by decide +kernel)
theorem dX6_turnPoint_46 : decode cX6_turnPoint 46 = .ok (.invokevirtual 85, 3) := dc_182 (a := 0) (b := 85) (by decide +kernel)
theorem dX6_turnPoint_49 : decode cX6_turnPoint 49 = .ok (.istore_n 3, 1) := dc_62 (by decide +kernel)
theorem dX6_turnPoint_50 : decode cX6_turnPoint 50 = .ok (.iload_n 3, 1) := dc_29 (by decide +kernel)
theorem dX6_turnPoint_51 : decode cX6_turnPoint 51 = .ok (.ifCond .eq 12, 3) := dc_153 (a := 0) (b := 12) (by decide +kernel) (by decide)
theorem dX6_turnPoint_54 : decode cX6_turnPoint 54 = .ok (.aload_n 0, 1) := dc_42 (by decide +kernel)
theorem dX6_turnPoint_55 : decode cX6_turnPoint 55 = .ok (.getfield 39, 3) := dc_180 (a := 0) (b := 39) (by decide +kernel)
theorem dX6_turnPoint_58 : decode cX6_turnPoint 58 = .ok (.iload_n 3, 1) := dc_29 (by decide +kernel)
theorem dX6_turnPoint_59 : decode cX6_turnPoint 59 = .ok (.invokevirtual 88, 3) := dc_182 (a := 0) (b := 88) (by decide +kernel)
theorem dX6_turnPoint_62 : decode cX6_turnPoint 62 = .ok (.ireturn, 1) := dc_172 (by decide +kernel)
theorem dX6_turnPoint_63 : decode cX6_turnPoint 63 = .ok (.aload_n 0, 1) := dc_42 (by decide +kernel)
theorem dX6_turnPoint_64 : decode cX6_turnPoint 64 = .ok (.getfield 31, 3) := dc_180 (a := 0) (b := 31) (by decide +kernel)
theorem dX6_turnPoint_67 : decode cX6_turnPoint 67 = .ok (.iload_n 1, 1) := dc_27 (by decide +kernel)
theorem dX6_turnPoint_68 : decode cX6_turnPoint 68 = .ok (.iload_n 2, 1) := dc_28 (by decide +kernel)
theorem dX6_turnPoint_69 : decode cX6_turnPoint 69 = .ok (.aload_n 0, 1) := dc_42 (by decide +kernel)
theorem dX6_turnPoint_70 : decode cX6_turnPoint 70 = .ok (.getfield 31, 3) := dc_180 (a := 0) (b := 31) (by decide +kernel)
theorem dX6_turnPoint_73 : decode cX6_turnPoint 73 = .ok (.iload_n 1, 1) := dc_27 (by decide +kernel)
theorem dX6_turnPoint_74 : decode cX6_turnPoint 74 = .ok (.invokevirtual 58, 3) := dc_182 (a := 0) (b := 58) (by decide +kernel)
theorem dX6_turnPoint_77 : decode cX6_turnPoint 77 = .ok (.invokevirtual 91, 3) := dc_182 (a := 0) (b := 91) (by decide +kernel)
theorem dX6_turnPoint_80 : decode cX6_turnPoint 80 = .ok (.iload 4, 2) := dc_21 (a := 4) (by decide +kernel)
theorem dX6_turnPoint_82 : decode cX6_turnPoint 82 = .ok (.ireturn, 1) := dc_172 (by decide +kernel)
set_option maxRecDepth 100000 in
set_option maxHeartbeats 4000000 in
theorem w_Routes_turnPoint_j50 {p : Program} {l : Launch} {e : Env} {R : Room} {s : State} {m : MethodId} {args : Array Value} {below : List Frame} {meth : Method} {c : Code} {dC : Nat → ClassId} {dI : Nat → Nat → Nat} {cs : Nat → ClassId} {ad : Nat → Nat} {A : Nat → Prop} {D0 : Nat → Nat} {S' : SS} {r : Int32} (F : Fx p s m args meth c cX6_turnPoint 5 RX6 (some .int) dC dI cs A) (hR1 : 1 ≤ R.frames) (hR2 : 23 ≤ R.locals) (x1 : Int32) (x2 : Int32) (x3 : Int32) (x4 : Int32) (S : SS) (h : f_Routes_turnPoint_j50 x1 x2 x3 x4 S = some (r, S')) : AW p l e R s m args below meth c dC dI cs ad A D0 (some (.int r)) S' 5 50 [(0, .ref (ad 67)), (1, .int x1), (2, .int x2), (3, .int x3), (4, .int x4)] [] S := by
  have hx := F.1.1
  have hb := F.1.2.1
  intro H locs ls w hl
  rw [f_Routes_turnPoint_j50] at h
  refine lv_iload_n (pc := 50) hx hb dX6_turnPoint_50 rfl (lv_at hl 3 rfl) ?_
  refine lv_if_eq (pc := 51) (tgt := 63) hx hb dX6_turnPoint_51 (by decide) (fun q => ?_) (fun q => ?_)
  · have h := ite_t q h
    refine lv_aload_n (pc := 63) hx hb dX6_turnPoint_63 rfl (lv_at hl 0 rfl) ?_
    refine s_getR (pc := 64) F w 63 ds_67 (j := 0) vc_X6 vi_X6 rfl (by decide) kf_X6_31 dX6_turnPoint_64 ?_
    refine lv_iload_n (pc := 67) hx hb dX6_turnPoint_67 rfl (lv_at hl 1 rfl) ?_
    refine lv_iload_n (pc := 68) hx hb dX6_turnPoint_68 rfl (lv_at hl 2 rfl) ?_
    refine lv_aload_n (pc := 69) hx hb dX6_turnPoint_69 rfl (lv_at hl 0 rfl) ?_
    refine s_getR (pc := 70) F w 63 ds_67 (j := 0) vc_X6 vi_X6 rfl (by decide) kf_X6_31 dX6_turnPoint_70 ?_
    refine lv_iload_n (pc := 73) hx hb dX6_turnPoint_73 rfl (lv_at hl 1 rfl) ?_
    obtain ⟨r6, S5, hc, h⟩ := bnd_t h
    refine s_cvi (pc := 74) [.int x1] (fun ad => [.ref (ad 63), .int x1]) F w (m_State_locker _ _ _ _ hc) rfl rfl hl.1 ds_63 vc_X8 rfl ok_X8_locker rfl kc_X8_locker kl_X6_58 ki_X8_locker kv_X8_locker kn_X8 ⟨Nat.le_trans (by decide) hR1, Nat.le_trans (by decide) hR2⟩ ⟨Nat.zero_le _, Nat.zero_le _⟩ (Nat.le_of_ble_eq_true rfl) dX6_turnPoint_74 (fun H locs w => ?_)
    obtain ⟨S7, hc, h⟩ := bndv_t h
    refine s_cvv (pc := 77) [.int x1, .int x2, .int r6] (fun ad => [.ref (ad 63), .int x1, .int x2, .int r6]) F w (m_State_setPoint _ _ _ _ _ hc) rfl rfl hl.1 ds_63 vc_X8 rfl ok_X8_setPoint rfl kc_X8_setPoint kl_X6_91 ki_X8_setPoint kv_X8_setPoint kn_X8 ⟨Nat.le_trans (by decide) hR1, Nat.le_trans (by decide) hR2⟩ ⟨Nat.zero_le _, Nat.zero_le _⟩ (Nat.le_of_ble_eq_true rfl) dX6_turnPoint_77 (fun H locs w => ?_)
    refine lv_iload (pc := 80) hx hb dX6_turnPoint_80 (lv_at hl 4 rfl) ?_
    exact s_iret F w h dX6_turnPoint_82
  · have h := ite_f q h
    refine lv_aload_n (pc := 54) hx hb dX6_turnPoint_54 rfl (lv_at hl 0 rfl) ?_
    refine s_getR (pc := 55) F w 62 ds_67 (j := 2) vc_X6 vi_X6 rfl (by decide) kf_X6_39 dX6_turnPoint_55 ?_
    refine lv_iload_n (pc := 58) hx hb dX6_turnPoint_58 rfl (lv_at hl 3 rfl) ?_
    obtain ⟨r9, S8, hc, h⟩ := bnd_t h
    refine s_cvi (pc := 59) [.int x3] (fun ad => [.ref (ad 62), .int x3]) F w (m_Report_found _ _ _ _ hc) rfl rfl hl.1 ds_62 vc_X5 rfl ok_X5_found rfl kc_X5_found kl_X6_88 ki_X5_found kv_X5_found kn_X5 ⟨Nat.le_trans (by decide) hR1, Nat.le_trans (by decide) hR2⟩ ⟨Nat.zero_le _, Nat.zero_le _⟩ (Nat.le_of_ble_eq_true rfl) dX6_turnPoint_59 (fun H locs w => ?_)
    exact s_iret F w h dX6_turnPoint_62
set_option maxRecDepth 100000 in
set_option maxHeartbeats 4000000 in
theorem w_Routes_turnPoint_j24 {p : Program} {l : Launch} {e : Env} {R : Room} {s : State} {m : MethodId} {args : Array Value} {below : List Frame} {meth : Method} {c : Code} {dC : Nat → ClassId} {dI : Nat → Nat → Nat} {cs : Nat → ClassId} {ad : Nat → Nat} {A : Nat → Prop} {D0 : Nat → Nat} {S' : SS} {r : Int32} (F : Fx p s m args meth c cX6_turnPoint 5 RX6 (some .int) dC dI cs A) (hR1 : 4 ≤ R.frames) (hR2 : 86 ≤ R.locals) (x1 : Int32) (x2 : Int32) (x3 : Int32) (S : SS) (h : f_Routes_turnPoint_j24 x1 x2 x3 S = some (r, S')) : AW p l e R s m args below meth c dC dI cs ad A D0 (some (.int r)) S' 5 24 [(0, .ref (ad 67)), (1, .int x1), (2, .int x2), (3, .int x3)] [] S := by
  have hx := F.1.1
  have hb := F.1.2.1
  intro H locs ls w hl
  rw [f_Routes_turnPoint_j24] at h
  refine lv_aload_n (pc := 24) hx hb dX6_turnPoint_24 rfl (lv_at hl 0 rfl) ?_
  refine s_getR (pc := 25) F w 63 ds_67 (j := 0) vc_X6 vi_X6 rfl (by decide) kf_X6_31 dX6_turnPoint_25 ?_
  refine lv_iload_n (pc := 28) hx hb dX6_turnPoint_28 rfl (lv_at hl 1 rfl) ?_
  obtain ⟨r4, S3, hc, h⟩ := bnd_t h
  refine s_cvi (pc := 29) [.int x1] (fun ad => [.ref (ad 63), .int x1]) F w (m_State_setting _ _ _ _ hc) rfl rfl hl.1 ds_63 vc_X8 rfl ok_X8_setting rfl kc_X8_setting kl_X6_82 ki_X8_setting kv_X8_setting kn_X8 ⟨Nat.le_trans (by decide) hR1, Nat.le_trans (by decide) hR2⟩ ⟨Nat.zero_le _, Nat.zero_le _⟩ (Nat.le_of_ble_eq_true rfl) dX6_turnPoint_29 (fun H locs w => ?_)
  refine lv_istore (pc := 32) (lv' := [(4, .int r4), (0, .ref (ad 67)), (1, .int x1), (2, .int x2), (3, .int x3)]) hx hb dX6_turnPoint_32 hl (by decide) rfl (fun ls hl => ?_)
  refine lv_iload_n (pc := 34) hx hb dX6_turnPoint_34 rfl (lv_at hl 4 rfl) ?_
  refine lv_if_ne (pc := 35) (tgt := 50) hx hb dX6_turnPoint_35 (by decide) (fun q => ?_) (fun q => ?_)
  · have h := ite_f q h
    exact w_Routes_turnPoint_j50 F (Nat.le_trans (by decide) hR1) (Nat.le_trans (by decide) hR2) _ _ _ _ _ h _ _ _ w (lv_sub hl [1, 2, 3, 4, 0] rfl)
  · have h := ite_t q h
    refine lv_iload (pc := 38) hx hb dX6_turnPoint_38 (lv_at hl 0 rfl) ?_
    refine lv_iload_n (pc := 40) hx hb dX6_turnPoint_40 rfl (lv_at hl 3 rfl) ?_
    refine lv_icmp_eq (pc := 41) (tgt := 50) hx hb dX6_turnPoint_41 (by decide) (fun q => ?_) (fun q => ?_)
    · have h := ite_t q h
      exact w_Routes_turnPoint_j50 F (Nat.le_trans (by decide) hR1) (Nat.le_trans (by decide) hR2) _ _ _ _ _ h _ _ _ w (lv_sub hl [1, 2, 3, 4, 0] rfl)
    · have h := ite_f q h
      refine lv_aload_n (pc := 44) hx hb dX6_turnPoint_44 rfl (lv_at hl 1 rfl) ?_
      refine lv_iload_n (pc := 45) hx hb dX6_turnPoint_45 rfl (lv_at hl 2 rfl) ?_
      obtain ⟨r11, S10, hc, h⟩ := bnd_t h
      refine s_cvi (pc := 46) [.int x1] (fun ad => [.ref (ad 67), .int x1]) F w (m_Routes_turnFinding _ _ _ _ hc) rfl rfl hl.1 ds_67 vc_X6 rfl ok_X6_turnFinding rfl kc_X6_turnFinding kl_X6_85 ki_X6_turnFinding kv_X6_turnFinding kn_X6 ⟨Nat.le_trans (by decide) hR1, Nat.le_trans (by decide) hR2⟩ ⟨Nat.zero_le _, Nat.zero_le _⟩ (Nat.le_of_ble_eq_true rfl) dX6_turnPoint_46 (fun H locs w => ?_)
      refine lv_istore_n (pc := 49) (lv' := [(3, .int r11), (4, .int r4), (0, .ref (ad 67)), (1, .int x1), (2, .int x2)]) hx hb dX6_turnPoint_49 rfl hl (by decide) rfl (fun ls hl => ?_)
      exact w_Routes_turnPoint_j50 F (Nat.le_trans (by decide) hR1) (Nat.le_trans (by decide) hR2) _ _ _ _ _ h _ _ _ w (lv_sub hl [2, 3, 4, 0, 1] rfl)
set_option maxRecDepth 100000 in
set_option maxHeartbeats 4000000 in
theorem m_Routes_turnPoint (a1 : Int32) (a2 : Int32) (S S' : SS) (r : Int32) (h : f_Routes_turnPoint a1 a2 S = some (r, S')) : MT yX6_turnPoint cX6_turnPoint 5 (some .int) 4 86 (fun ad => [.ref (ad 67), .int a1, .int a2]) S (some (.int r)) S' := by
  refine MT.of RX6 (fun ad => [(0, .ref (ad 67)), (1, .int a1), (2, .int a2)]) (by decide) rfl (fun _ => Nat.le_of_ble_eq_true rfl) (fun _ => rfl) ?_
  intro p l e R s m args below meth c dC dI cs ad A hR1 hR2 F H locs ls w hl
  have hx := F.1.1
  have hb := F.1.2.1
  rw [f_Routes_turnPoint] at h
  refine lv_aload_n (pc := 0) hx hb dX6_turnPoint_0 rfl (lv_at hl 0 rfl) ?_
  refine s_getR (pc := 1) F w 66 ds_67 (j := 1) vc_X6 vi_X6 rfl (by decide) kf_X6_35 dX6_turnPoint_1 ?_
  refine lv_iload_n (pc := 4) hx hb dX6_turnPoint_4 rfl (lv_at hl 1 rfl) ?_
  obtain ⟨r2, S1, hc, h⟩ := bnd_t h
  refine s_cvi (pc := 5) [.int a1] (fun ad => [.ref (ad 66), .int a1]) F w (m_Layout_pointFinding _ _ _ _ hc) rfl rfl hl.1 ds_66 vc_X2 rfl ok_X2_pointFinding rfl kc_X2_pointFinding kl_X6_75 ki_X2_pointFinding kv_X2_pointFinding kn_X2 ⟨Nat.le_trans (by decide) hR1, Nat.le_trans (by decide) hR2⟩ ⟨Nat.zero_le _, Nat.zero_le _⟩ (Nat.le_of_ble_eq_true rfl) dX6_turnPoint_5 (fun H locs w => ?_)
  refine lv_istore_n (pc := 8) (lv' := [(3, .int r2), (0, .ref (ad 67)), (1, .int a1), (2, .int a2)]) hx hb dX6_turnPoint_8 rfl hl (by decide) rfl (fun ls hl => ?_)
  refine lv_iload_n (pc := 9) hx hb dX6_turnPoint_9 rfl (lv_at hl 0 rfl) ?_
  refine lv_if_ne (pc := 10) (tgt := 24) hx hb dX6_turnPoint_10 (by decide) (fun q => ?_) (fun q => ?_)
  · have h := ite_f q h
    exact w_Routes_turnPoint_j24 F (Nat.le_trans (by decide) hR1) (Nat.le_trans (by decide) hR2) _ _ _ _ h _ _ _ w (lv_sub hl [1, 2, 3, 0] rfl)
  · have h := ite_t q h
    refine lv_aload_n (pc := 13) hx hb dX6_turnPoint_13 rfl (lv_at hl 1 rfl) ?_
    refine lv_iload_n (pc := 14) hx hb dX6_turnPoint_14 rfl (lv_at hl 2 rfl) ?_
    refine lv_iload_n (pc := 15) hx hb dX6_turnPoint_15 rfl (lv_at hl 3 rfl) ?_
    obtain ⟨r13, S12, hc, h⟩ := bnd_t h
    refine s_cvi (pc := 16) [.int a1, .int a2] (fun ad => [.ref (ad 67), .int a1, .int a2]) F w (m_Routes_hasLink _ _ _ _ _ hc) rfl rfl hl.1 ds_67 vc_X6 rfl ok_X6_hasLink rfl kc_X6_hasLink kl_X6_78 ki_X6_hasLink kv_X6_hasLink kn_X6 ⟨Nat.le_trans (by decide) hR1, Nat.le_trans (by decide) hR2⟩ ⟨Nat.zero_le _, Nat.zero_le _⟩ (Nat.le_of_ble_eq_true rfl) dX6_turnPoint_16 (fun H locs w => ?_)
    refine lv_if_ne (pc := 19) (tgt := 24) hx hb dX6_turnPoint_19 (by decide) (fun q => ?_) (fun q => ?_)
    · have h := ite_f q h
      exact w_Routes_turnPoint_j24 F (Nat.le_trans (by decide) hR1) (Nat.le_trans (by decide) hR2) _ _ _ _ h _ _ _ w (lv_sub hl [1, 2, 3, 0] rfl)
    · have h := ite_t q h
      refine lv_iconst (pc := 22) (v := 3) hx hb dX6_turnPoint_22 (by decide) ?_
      refine lv_istore_n (pc := 23) (lv' := [(3, .int (3 : Int32)), (0, .ref (ad 67)), (1, .int a1), (2, .int a2)]) hx hb dX6_turnPoint_23 rfl hl (by decide) rfl (fun ls hl => ?_)
      exact w_Routes_turnPoint_j24 F (Nat.le_trans (by decide) hR1) (Nat.le_trans (by decide) hR2) _ _ _ _ h _ _ _ w (lv_sub hl [1, 2, 3, 0] rfl)
def f_Yard_turn (a1 : Int32) (a2 : Int32) (S : SS) : Option (Int32 × SS) :=
  bndv (f_Yard_beginAct  S) (fun S1 =>
  bnd (f_Routes_turnPoint a1 a2 S1) (fun r3 S2 =>
  bnd (f_Yard_endAct (3 : Int32) r3 S2) (fun r5 S4 =>
  some (r5, S4))))
theorem dX11_turn_0 : decode cX11_turn 0 = .ok (.aload_n 0, 1) := dc_42 (by decide +kernel)
theorem dX11_turn_1 : decode cX11_turn 1 = .ok (.invokevirtual 199, 3) := dc_182 (a := 0) (b := 199) (by decide +kernel)
theorem dX11_turn_4 : decode cX11_turn 4 = .ok (.aload_n 0, 1) := dc_42 (by decide +kernel)
theorem dX11_turn_5 : decode cX11_turn 5 = .ok (.iconst 3, 1) := dc_6 (by decide +kernel)
theorem dX11_turn_6 : decode cX11_turn 6 = .ok (.aload_n 0, 1) := dc_42 (by decide +kernel)
theorem dX11_turn_7 : decode cX11_turn 7 = .ok (.getfield 51, 3) := dc_180 (a := 0) (b := 51) (by decide +kernel)
theorem dX11_turn_10 : decode cX11_turn 10 = .ok (.iload_n 1, 1) := dc_27 (by decide +kernel)
theorem dX11_turn_11 : decode cX11_turn 11 = .ok (.iload_n 2, 1) := dc_28 (by decide +kernel)
theorem dX11_turn_12 : decode cX11_turn 12 = .ok (.invokevirtual 211, 3) := dc_182 (a := 0) (b := 211) (by decide +kernel)
theorem dX11_turn_15 : decode cX11_turn 15 = .ok (.invokevirtual 205, 3) := dc_182 (a := 0) (b := 205) (by decide +kernel)
theorem dX11_turn_18 : decode cX11_turn 18 = .ok (.ireturn, 1) := dc_172 (by decide +kernel)
set_option maxRecDepth 100000 in
set_option maxHeartbeats 4000000 in
theorem m_Yard_turn (a1 : Int32) (a2 : Int32) (S S' : SS) (r : Int32) (h : f_Yard_turn a1 a2 S = some (r, S')) : MT yX11_turn cX11_turn 3 (some .int) 5 110 (fun ad => [.ref (ad 61), .int a1, .int a2]) S (some (.int r)) S' := by
  refine MT.of RX11 (fun ad => [(0, .ref (ad 61)), (1, .int a1), (2, .int a2)]) (by decide) rfl (fun _ => Nat.le_of_ble_eq_true rfl) (fun _ => rfl) ?_
  intro p l e R s m args below meth c dC dI cs ad A hR1 hR2 F H locs ls w hl
  have hx := F.1.1
  have hb := F.1.2.1
  rw [f_Yard_turn] at h
  refine lv_aload_n (pc := 0) hx hb dX11_turn_0 rfl (lv_at hl 0 rfl) ?_
  obtain ⟨S1, hc, h⟩ := bndv_t h
  refine s_cvv (pc := 1) [] (fun ad => [.ref (ad 61)]) F w (m_Yard_beginAct  _ _ hc) rfl rfl hl.1 ds_61 vc_X11 rfl ok_X11_beginAct rfl kc_X11_beginAct kl_X11_199 ki_X11_beginAct kv_X11_beginAct kn_X11 ⟨Nat.le_trans (by decide) hR1, Nat.le_trans (by decide) hR2⟩ ⟨Nat.zero_le _, Nat.zero_le _⟩ (Nat.le_of_ble_eq_true rfl) dX11_turn_1 (fun H locs w => ?_)
  refine lv_aload_n (pc := 4) hx hb dX11_turn_4 rfl (lv_at hl 0 rfl) ?_
  refine lv_iconst (pc := 5) (v := 3) hx hb dX11_turn_5 (by decide) ?_
  refine lv_aload_n (pc := 6) hx hb dX11_turn_6 rfl (lv_at hl 0 rfl) ?_
  refine s_getR (pc := 7) F w 67 ds_61 (j := 5) vc_X11 vi_X11 rfl (by decide) kf_X11_51 dX11_turn_7 ?_
  refine lv_iload_n (pc := 10) hx hb dX11_turn_10 rfl (lv_at hl 1 rfl) ?_
  refine lv_iload_n (pc := 11) hx hb dX11_turn_11 rfl (lv_at hl 2 rfl) ?_
  obtain ⟨r3, S2, hc, h⟩ := bnd_t h
  refine s_cvi (pc := 12) [.int a1, .int a2] (fun ad => [.ref (ad 67), .int a1, .int a2]) F w (m_Routes_turnPoint _ _ _ _ _ hc) rfl rfl hl.1 ds_67 vc_X6 rfl ok_X6_turnPoint rfl kc_X6_turnPoint kl_X11_211 ki_X6_turnPoint kv_X6_turnPoint kn_X6 ⟨Nat.le_trans (by decide) hR1, Nat.le_trans (by decide) hR2⟩ ⟨Nat.zero_le _, Nat.zero_le _⟩ (Nat.le_of_ble_eq_true rfl) dX11_turn_12 (fun H locs w => ?_)
  obtain ⟨r5, S4, hc, h⟩ := bnd_t h
  refine s_cvi (pc := 15) [.int (3 : Int32), .int r3] (fun ad => [.ref (ad 61), .int (3 : Int32), .int r3]) F w (m_Yard_endAct _ _ _ _ _ hc) rfl rfl hl.1 ds_61 vc_X11 rfl ok_X11_endAct rfl kc_X11_endAct kl_X11_205 ki_X11_endAct kv_X11_endAct kn_X11 ⟨Nat.le_trans (by decide) hR1, Nat.le_trans (by decide) hR2⟩ ⟨Nat.zero_le _, Nat.zero_le _⟩ (Nat.le_of_ble_eq_true rfl) dX11_turn_15 (fun H locs w => ?_)
  exact s_iret F w h dX11_turn_18
def f_Routes_lockFinding (a1 : Int32) (a2 : Int32) (S : SS) : Option (Int32 × SS) :=
  bnd (f_State_locker a1 S) (fun r2 S1 =>
  if r2 = (-4 : Int32) then
    bnd (f_Routes_hasLink a1 a2 S1) (fun r4 S3 =>
    if r4 = 0 then
      some ((3 : Int32), S3)
    else
      bnd (f_State_setting a1 S3) (fun r6 S5 =>
      if r6 = a2 then
        some ((0 : Int32), S5)
      else
        bnd (f_Routes_isUnder a1 S5) (fun r8 S7 =>
        if r8 = 0 then
          some ((0 : Int32), S7)
        else
          some ((12 : Int32), S7))))
  else
    bnd (f_State_locker a1 S1) (fun r10 S9 =>
    bnd (f_Routes_lockedFinding r10 S9) (fun r12 S11 =>
    some (r12, S11))))
theorem dX6_lockFinding_0 : decode cX6_lockFinding 0 = .ok (.aload_n 0, 1) := dc_42 (by decide +kernel)
theorem dX6_lockFinding_1 : decode cX6_lockFinding 1 = .ok (.getfield 31, 3) := dc_180 (a := 0) (b := 31) (by decide +kernel)
theorem dX6_lockFinding_4 : decode cX6_lockFinding 4 = .ok (.iload_n 1, 1) := dc_27 (by decide +kernel)
theorem dX6_lockFinding_5 : decode cX6_lockFinding 5 = .ok (.invokevirtual 58, 3) := dc_182 (a := 0) (b := 58) (by decide +kernel)
theorem dX6_lockFinding_8 : decode cX6_lockFinding 8 = .ok (.bipush (-4), 2) := dc_16 (a := 252) (by decide +kernel) (by decide)
theorem dX6_lockFinding_10 : decode cX6_lockFinding 10 = .ok (.if_icmp .eq 16, 3) := dc_159 (a := 0) (b := 16) (by decide +kernel) (by decide)
theorem dX6_lockFinding_13 : decode cX6_lockFinding 13 = .ok (.aload_n 0, 1) := dc_42 (by decide +kernel)
theorem dX6_lockFinding_14 : decode cX6_lockFinding 14 = .ok (.aload_n 0, 1) := dc_42 (by decide +kernel)
theorem dX6_lockFinding_15 : decode cX6_lockFinding 15 = .ok (.getfield 31, 3) := dc_180 (a := 0) (b := 31) (by decide +kernel)
theorem dX6_lockFinding_18 : decode cX6_lockFinding 18 = .ok (.iload_n 1, 1) := dc_27 (by decide +kernel)
theorem dX6_lockFinding_19 : decode cX6_lockFinding 19 = .ok (.invokevirtual 58, 3) := dc_182 (a := 0) (b := 58) (by decide +kernel)
theorem dX6_lockFinding_22 : decode cX6_lockFinding 22 = .ok (.invokevirtual 50, 3) := dc_182 (a := 0) (b := 50) (by decide +kernel)
theorem dX6_lockFinding_25 : decode cX6_lockFinding 25 = .ok (.ireturn, 1) := dc_172 (by decide +kernel)
theorem dX6_lockFinding_26 : decode cX6_lockFinding 26 = .ok (.aload_n 0, 1) := dc_42 (by decide +kernel)
theorem dX6_lockFinding_27 : decode cX6_lockFinding 27 = .ok (.iload_n 1, 1) := dc_27 (by decide +kernel)
theorem dX6_lockFinding_28 : decode cX6_lockFinding 28 = .ok (.iload_n 2, 1) := dc_28 (by decide +kernel)
theorem dX6_lockFinding_29 : decode cX6_lockFinding 29 = .ok (.invokevirtual 78, 3) := dc_182 (a := 0) (b := 78) (by decide +kernel)
theorem dX6_lockFinding_32 : decode cX6_lockFinding 32 = .ok (.ifCond .ne 5, 3) := dc_154 (a := 0) (b := 5) (by decide +kernel) (by decide)
theorem dX6_lockFinding_35 : decode cX6_lockFinding 35 = .ok (.iconst 3, 1) := dc_6 (by decide +kernel)
theorem dX6_lockFinding_36 : decode cX6_lockFinding 36 = .ok (.ireturn, 1) := dc_172 (by decide +kernel)
theorem dX6_lockFinding_37 : decode cX6_lockFinding 37 = .ok (.aload_n 0, 1) := dc_42 (by decide +kernel)
theorem dX6_lockFinding_38 : decode cX6_lockFinding 38 = .ok (.getfield 31, 3) := dc_180 (a := 0) (b := 31) (by decide +kernel)
theorem dX6_lockFinding_41 : decode cX6_lockFinding 41 = .ok (.iload_n 1, 1) := dc_27 (by decide +kernel)
theorem dX6_lockFinding_42 : decode cX6_lockFinding 42 = .ok (.invokevirtual 82, 3) := dc_182 (a := 0) (b := 82) (by decide +kernel)
theorem dX6_lockFinding_45 : decode cX6_lockFinding 45 = .ok (.iload_n 2, 1) := dc_28 (by decide +kernel)
theorem dX6_lockFinding_46 : decode cX6_lockFinding 46 = .ok (.if_icmp .eq 16, 3) := dc_159 (a := 0) (b := 16) (by decide +kernel) (by decide)
theorem dX6_lockFinding_49 : decode cX6_lockFinding 49 = .ok (.aload_n 0, 1) := dc_42 (by decide +kernel)
theorem dX6_lockFinding_50 : decode cX6_lockFinding 50 = .ok (.iload_n 1, 1) := dc_27 (by decide +kernel)
theorem dX6_lockFinding_51 : decode cX6_lockFinding 51 = .ok (.invokevirtual 95, 3) := dc_182 (a := 0) (b := 95) (by decide +kernel)
theorem dX6_lockFinding_54 : decode cX6_lockFinding 54 = .ok (.ifCond .eq 8, 3) := dc_153 (a := 0) (b := 8) (by decide +kernel) (by decide)
theorem dX6_lockFinding_57 : decode cX6_lockFinding 57 = .ok (.bipush 12, 2) := dc_16 (a := 12) (by decide +kernel) (by decide)
theorem dX6_lockFinding_59 : decode cX6_lockFinding 59 = .ok (.goto 4, 3) := dc_167 (a := 0) (b := 4) (by decide +kernel) (by decide)
theorem dX6_lockFinding_62 : decode cX6_lockFinding 62 = .ok (.iconst 0, 1) := dc_3 (by decide +kernel)
theorem dX6_lockFinding_63 : decode cX6_lockFinding 63 = .ok (.ireturn, 1) := dc_172 (by decide +kernel)
set_option maxRecDepth 100000 in
set_option maxHeartbeats 4000000 in
theorem m_Routes_lockFinding (a1 : Int32) (a2 : Int32) (S S' : SS) (r : Int32) (h : f_Routes_lockFinding a1 a2 S = some (r, S')) : MT yX6_lockFinding cX6_lockFinding 3 (some .int) 3 65 (fun ad => [.ref (ad 67), .int a1, .int a2]) S (some (.int r)) S' := by
  refine MT.of RX6 (fun ad => [(0, .ref (ad 67)), (1, .int a1), (2, .int a2)]) (by decide) rfl (fun _ => Nat.le_of_ble_eq_true rfl) (fun _ => rfl) ?_
  intro p l e R s m args below meth c dC dI cs ad A hR1 hR2 F H locs ls w hl
  have hx := F.1.1
  have hb := F.1.2.1
  rw [f_Routes_lockFinding] at h
  refine lv_aload_n (pc := 0) hx hb dX6_lockFinding_0 rfl (lv_at hl 0 rfl) ?_
  refine s_getR (pc := 1) F w 63 ds_67 (j := 0) vc_X6 vi_X6 rfl (by decide) kf_X6_31 dX6_lockFinding_1 ?_
  refine lv_iload_n (pc := 4) hx hb dX6_lockFinding_4 rfl (lv_at hl 1 rfl) ?_
  obtain ⟨r2, S1, hc, h⟩ := bnd_t h
  refine s_cvi (pc := 5) [.int a1] (fun ad => [.ref (ad 63), .int a1]) F w (m_State_locker _ _ _ _ hc) rfl rfl hl.1 ds_63 vc_X8 rfl ok_X8_locker rfl kc_X8_locker kl_X6_58 ki_X8_locker kv_X8_locker kn_X8 ⟨Nat.le_trans (by decide) hR1, Nat.le_trans (by decide) hR2⟩ ⟨Nat.zero_le _, Nat.zero_le _⟩ (Nat.le_of_ble_eq_true rfl) dX6_lockFinding_5 (fun H locs w => ?_)
  refine lv_bipush (pc := 8) (v := -4) hx hb dX6_lockFinding_8 (by decide) ?_
  refine lv_icmp_eq (pc := 10) (tgt := 26) hx hb dX6_lockFinding_10 (by decide) (fun q => ?_) (fun q => ?_)
  · have h := ite_t q h
    refine lv_aload_n (pc := 26) hx hb dX6_lockFinding_26 rfl (lv_at hl 0 rfl) ?_
    refine lv_iload_n (pc := 27) hx hb dX6_lockFinding_27 rfl (lv_at hl 1 rfl) ?_
    refine lv_iload_n (pc := 28) hx hb dX6_lockFinding_28 rfl (lv_at hl 2 rfl) ?_
    obtain ⟨r4, S3, hc, h⟩ := bnd_t h
    refine s_cvi (pc := 29) [.int a1, .int a2] (fun ad => [.ref (ad 67), .int a1, .int a2]) F w (m_Routes_hasLink _ _ _ _ _ hc) rfl rfl hl.1 ds_67 vc_X6 rfl ok_X6_hasLink rfl kc_X6_hasLink kl_X6_78 ki_X6_hasLink kv_X6_hasLink kn_X6 ⟨Nat.le_trans (by decide) hR1, Nat.le_trans (by decide) hR2⟩ ⟨Nat.zero_le _, Nat.zero_le _⟩ (Nat.le_of_ble_eq_true rfl) dX6_lockFinding_29 (fun H locs w => ?_)
    refine lv_if_ne (pc := 32) (tgt := 37) hx hb dX6_lockFinding_32 (by decide) (fun q => ?_) (fun q => ?_)
    · have h := ite_f q h
      refine lv_aload_n (pc := 37) hx hb dX6_lockFinding_37 rfl (lv_at hl 0 rfl) ?_
      refine s_getR (pc := 38) F w 63 ds_67 (j := 0) vc_X6 vi_X6 rfl (by decide) kf_X6_31 dX6_lockFinding_38 ?_
      refine lv_iload_n (pc := 41) hx hb dX6_lockFinding_41 rfl (lv_at hl 1 rfl) ?_
      obtain ⟨r6, S5, hc, h⟩ := bnd_t h
      refine s_cvi (pc := 42) [.int a1] (fun ad => [.ref (ad 63), .int a1]) F w (m_State_setting _ _ _ _ hc) rfl rfl hl.1 ds_63 vc_X8 rfl ok_X8_setting rfl kc_X8_setting kl_X6_82 ki_X8_setting kv_X8_setting kn_X8 ⟨Nat.le_trans (by decide) hR1, Nat.le_trans (by decide) hR2⟩ ⟨Nat.zero_le _, Nat.zero_le _⟩ (Nat.le_of_ble_eq_true rfl) dX6_lockFinding_42 (fun H locs w => ?_)
      refine lv_iload_n (pc := 45) hx hb dX6_lockFinding_45 rfl (lv_at hl 2 rfl) ?_
      refine lv_icmp_eq (pc := 46) (tgt := 62) hx hb dX6_lockFinding_46 (by decide) (fun q => ?_) (fun q => ?_)
      · have h := ite_t q h
        refine lv_iconst (pc := 62) (v := 0) hx hb dX6_lockFinding_62 (by decide) ?_
        exact s_iret F w h dX6_lockFinding_63
      · have h := ite_f q h
        refine lv_aload_n (pc := 49) hx hb dX6_lockFinding_49 rfl (lv_at hl 0 rfl) ?_
        refine lv_iload_n (pc := 50) hx hb dX6_lockFinding_50 rfl (lv_at hl 1 rfl) ?_
        obtain ⟨r8, S7, hc, h⟩ := bnd_t h
        refine s_cvi (pc := 51) [.int a1] (fun ad => [.ref (ad 67), .int a1]) F w (m_Routes_isUnder _ _ _ _ hc) rfl rfl hl.1 ds_67 vc_X6 rfl ok_X6_isUnder rfl kc_X6_isUnder kl_X6_95 ki_X6_isUnder kv_X6_isUnder kn_X6 ⟨Nat.le_trans (by decide) hR1, Nat.le_trans (by decide) hR2⟩ ⟨Nat.zero_le _, Nat.zero_le _⟩ (Nat.le_of_ble_eq_true rfl) dX6_lockFinding_51 (fun H locs w => ?_)
        refine lv_if_eq (pc := 54) (tgt := 62) hx hb dX6_lockFinding_54 (by decide) (fun q => ?_) (fun q => ?_)
        · have h := ite_t q h
          refine lv_iconst (pc := 62) (v := 0) hx hb dX6_lockFinding_62 (by decide) ?_
          exact s_iret F w h dX6_lockFinding_63
        · have h := ite_f q h
          refine lv_bipush (pc := 57) (v := 12) hx hb dX6_lockFinding_57 (by decide) ?_
          refine lv_goto (pc := 59) (tgt := 63) hx hb dX6_lockFinding_59 (by decide) ?_
          exact s_iret F w h dX6_lockFinding_63
    · have h := ite_t q h
      refine lv_iconst (pc := 35) (v := 3) hx hb dX6_lockFinding_35 (by decide) ?_
      exact s_iret F w h dX6_lockFinding_36
  · have h := ite_f q h
    refine lv_aload_n (pc := 13) hx hb dX6_lockFinding_13 rfl (lv_at hl 0 rfl) ?_
    refine lv_aload_n (pc := 14) hx hb dX6_lockFinding_14 rfl (lv_at hl 0 rfl) ?_
    refine s_getR (pc := 15) F w 63 ds_67 (j := 0) vc_X6 vi_X6 rfl (by decide) kf_X6_31 dX6_lockFinding_15 ?_
    refine lv_iload_n (pc := 18) hx hb dX6_lockFinding_18 rfl (lv_at hl 1 rfl) ?_
    obtain ⟨r10, S9, hc, h⟩ := bnd_t h
    refine s_cvi (pc := 19) [.int a1] (fun ad => [.ref (ad 63), .int a1]) F w (m_State_locker _ _ _ _ hc) rfl rfl hl.1 ds_63 vc_X8 rfl ok_X8_locker rfl kc_X8_locker kl_X6_58 ki_X8_locker kv_X8_locker kn_X8 ⟨Nat.le_trans (by decide) hR1, Nat.le_trans (by decide) hR2⟩ ⟨Nat.zero_le _, Nat.zero_le _⟩ (Nat.le_of_ble_eq_true rfl) dX6_lockFinding_19 (fun H locs w => ?_)
    obtain ⟨r12, S11, hc, h⟩ := bnd_t h
    refine s_cvi (pc := 22) [.int r10] (fun ad => [.ref (ad 67), .int r10]) F w (m_Routes_lockedFinding _ _ _ _ hc) rfl rfl hl.1 ds_67 vc_X6 rfl ok_X6_lockedFinding rfl kc_X6_lockedFinding kl_X6_50 ki_X6_lockedFinding kv_X6_lockedFinding kn_X6 ⟨Nat.le_trans (by decide) hR1, Nat.le_trans (by decide) hR2⟩ ⟨Nat.zero_le _, Nat.zero_le _⟩ (Nat.le_of_ble_eq_true rfl) dX6_lockFinding_22 (fun H locs w => ?_)
    exact s_iret F w h dX6_lockFinding_25
def f_Routes_giveBack_L2  : Nat → Int32 → Int32 → Int32 → SS → Option (SS)
  | 0, _, _, _, _ => none
  | n + 1, x1, x2, x3, S =>
    if x2 ≤ x3 then
      some S
    else
      grd (inb (x1 + x3) 96) (
      grd (inb x3 8) (
      bndv (f_State_setPoint (S.1 100 (x1 + x3).toNatClampNeg) (S.1 103 x3.toNatClampNeg) (-4 : Int32) S) (fun S1 =>
      nm (x3 + (1 : Int32)) (fun z2 =>
      f_Routes_giveBack_L2 n x1 x2 z2 S1))))
def f_Routes_giveBack (a1 : Int32) (a2 : Int32) (S : SS) : Option (SS) :=
  f_Routes_giveBack_L2 NF a1 a2 (0 : Int32) S
theorem dX6_giveBack_0 : decode cX6_giveBack 0 = .ok (.iconst 0, 1) := dc_3 (by decide +kernel)
theorem dX6_giveBack_1 : decode cX6_giveBack 1 = .ok (.istore_n 3, 1) := dc_62 (by decide +kernel)
theorem dX6_giveBack_2 : decode cX6_giveBack 2 = .ok (.iload_n 3, 1) := dc_29 (by decide +kernel)
theorem dX6_giveBack_3 : decode cX6_giveBack 3 = .ok (.iload_n 2, 1) := dc_28 (by decide +kernel)
theorem dX6_giveBack_4 : decode cX6_giveBack 4 = .ok (.if_icmp .ge 32, 3) := dc_162 (a := 0) (b := 32) (by decide +kernel) (by decide)
theorem dX6_giveBack_7 : decode cX6_giveBack 7 = .ok (.aload_n 0, 1) := dc_42 (by decide +kernel)
theorem dX6_giveBack_8 : decode cX6_giveBack 8 = .ok (.getfield 31, 3) := dc_180 (a := 0) (b := 31) (by decide +kernel)
theorem dX6_giveBack_11 : decode cX6_giveBack 11 = .ok (.aload_n 0, 1) := dc_42 (by decide +kernel)
theorem dX6_giveBack_12 : decode cX6_giveBack 12 = .ok (.getfield 15, 3) := dc_180 (a := 0) (b := 15) (by decide +kernel)
theorem dX6_giveBack_15 : decode cX6_giveBack 15 = .ok (.iload_n 1, 1) := dc_27 (by decide +kernel)
theorem dX6_giveBack_16 : decode cX6_giveBack 16 = .ok (.iload_n 3, 1) := dc_29 (by decide +kernel)
theorem dX6_giveBack_17 : decode cX6_giveBack 17 = .ok (.iadd, 1) := dc_96 (by decide +kernel)
theorem dX6_giveBack_18 : decode cX6_giveBack 18 = .ok (.iaload, 1) := dc_46 (by decide +kernel)
theorem dX6_giveBack_19 : decode cX6_giveBack 19 = .ok (.aload_n 0, 1) := dc_42 (by decide +kernel)
theorem dX6_giveBack_20 : decode cX6_giveBack 20 = .ok (.getfield 24, 3) := dc_180 (a := 0) (b := 24) (by decide +kernel)
theorem dX6_giveBack_23 : decode cX6_giveBack 23 = .ok (.iload_n 3, 1) := dc_29 (by decide +kernel)
theorem dX6_giveBack_24 : decode cX6_giveBack 24 = .ok (.iaload, 1) := dc_46 (by decide +kernel)
theorem dX6_giveBack_25 : decode cX6_giveBack 25 = .ok (.bipush (-4), 2) := dc_16 (a := 252) (by decide +kernel) (by decide)
theorem dX6_giveBack_27 : decode cX6_giveBack 27 = .ok (.invokevirtual 91, 3) := dc_182 (a := 0) (b := 91) (by decide +kernel)
theorem dX6_giveBack_30 : decode cX6_giveBack 30 = .ok (.iinc 3 1, 3) := dc_132 (a := 3) (b := 1) (by decide +kernel) (by decide)
theorem dX6_giveBack_33 : decode cX6_giveBack 33 = .ok (.goto (-31), 3) := dc_167 (a := 255) (b := 225) (by decide +kernel) (by decide)
theorem dX6_giveBack_36 : decode cX6_giveBack 36 = .ok (.return_, 1) := dc_177 (by decide +kernel)
set_option maxRecDepth 100000 in
set_option maxHeartbeats 4000000 in
theorem w_Routes_giveBack_L2 {p : Program} {l : Launch} {e : Env} {R : Room} {s : State} {m : MethodId} {args : Array Value} {below : List Frame} {meth : Method} {c : Code} {dC : Nat → ClassId} {dI : Nat → Nat → Nat} {cs : Nat → ClassId} {ad : Nat → Nat} {A : Nat → Prop} {D0 : Nat → Nat} {S' : SS} (F : Fx p s m args meth c cX6_giveBack 4 RX6 none dC dI cs A) (hR1 : 1 ≤ R.frames) (hR2 : 23 ≤ R.locals) : ∀ (n : Nat) (x1 : Int32) (x2 : Int32) (x3 : Int32) (S : SS), f_Routes_giveBack_L2 n x1 x2 x3 S = some S' → AW p l e R s m args below meth c dC dI cs ad A D0 none S' 4 2 [(0, .ref (ad 67)), (1, .int x1), (2, .int x2), (3, .int x3)] [] S := by
  have hx := F.1.1
  have hb := F.1.2.1
  intro n
  induction n with
  | zero => intro x1 x2 x3 S h; cases h
  | succ n ih =>
    intro x1 x2 x3 S h H locs ls w hl
    rw [f_Routes_giveBack_L2] at h
    refine lv_iload_n (pc := 2) hx hb dX6_giveBack_2 rfl (lv_at hl 3 rfl) ?_
    refine lv_iload_n (pc := 3) hx hb dX6_giveBack_3 rfl (lv_at hl 2 rfl) ?_
    refine lv_icmp_ge (pc := 4) (tgt := 36) hx hb dX6_giveBack_4 (by decide) (fun q => ?_) (fun q => ?_)
    · have h := ite_t q h
      exact s_vret F w h dX6_giveBack_36
    · have h := ite_f q h
      refine lv_aload_n (pc := 7) hx hb dX6_giveBack_7 rfl (lv_at hl 0 rfl) ?_
      refine s_getR (pc := 8) F w 63 ds_67 (j := 0) vc_X6 vi_X6 rfl (by decide) kf_X6_31 dX6_giveBack_8 ?_
      refine lv_aload_n (pc := 11) hx hb dX6_giveBack_11 rfl (lv_at hl 0 rfl) ?_
      refine s_getR (pc := 12) F w 100 ds_67 (j := 4) vc_X6 vi_X6 rfl (by decide) kf_X6_15 dX6_giveBack_12 ?_
      refine lv_iload_n (pc := 15) hx hb dX6_giveBack_15 rfl (lv_at hl 1 rfl) ?_
      refine lv_iload_n (pc := 16) hx hb dX6_giveBack_16 rfl (lv_at hl 3 rfl) ?_
      refine lv_iadd (pc := 17) hx hb dX6_giveBack_17 ?_
      refine s_iald (pc := 18) F w ds_100 h dX6_giveBack_18 (fun h => ?_)
      refine lv_aload_n (pc := 19) hx hb dX6_giveBack_19 rfl (lv_at hl 0 rfl) ?_
      refine s_getR (pc := 20) F w 103 ds_67 (j := 7) vc_X6 vi_X6 rfl (by decide) kf_X6_24 dX6_giveBack_20 ?_
      refine lv_iload_n (pc := 23) hx hb dX6_giveBack_23 rfl (lv_at hl 3 rfl) ?_
      refine s_iald (pc := 24) F w ds_103 h dX6_giveBack_24 (fun h => ?_)
      refine lv_bipush (pc := 25) (v := -4) hx hb dX6_giveBack_25 (by decide) ?_
      obtain ⟨S1, hc, h⟩ := bndv_t h
      refine s_cvv (pc := 27) [.int (S.1 100 (x1 + x3).toNatClampNeg), .int (S.1 103 x3.toNatClampNeg), .int (-4 : Int32)] (fun ad => [.ref (ad 63), .int (S.1 100 (x1 + x3).toNatClampNeg), .int (S.1 103 x3.toNatClampNeg), .int (-4 : Int32)]) F w (m_State_setPoint _ _ _ _ _ hc) rfl rfl hl.1 ds_63 vc_X8 rfl ok_X8_setPoint rfl kc_X8_setPoint kl_X6_91 ki_X8_setPoint kv_X8_setPoint kn_X8 ⟨Nat.le_trans (by decide) hR1, Nat.le_trans (by decide) hR2⟩ ⟨Nat.zero_le _, Nat.zero_le _⟩ (Nat.le_of_ble_eq_true rfl) dX6_giveBack_27 (fun H locs w => ?_)
      refine s_nm h (fun z2 ez2 h => ?_)
      refine lv_iinc (pc := 30) (v := z2) (lv' := [(3, .int z2), (0, .ref (ad 67)), (1, .int x1), (2, .int x2)]) hx hb dX6_giveBack_30 hl (k := 3) rfl (by rw [ez2]; rfl) (by decide) rfl (fun ls hl => ?_)
      refine lv_goto (pc := 33) (tgt := 2) hx hb dX6_giveBack_33 (by decide) ?_
      exact ih _ _ _ _ h _ _ _ w (lv_sub hl [1, 2, 3, 0] rfl)
set_option maxRecDepth 100000 in
set_option maxHeartbeats 4000000 in
theorem m_Routes_giveBack (a1 : Int32) (a2 : Int32) (S S' : SS) (h : f_Routes_giveBack a1 a2 S = some S') : MT yX6_giveBack cX6_giveBack 4 none 1 23 (fun ad => [.ref (ad 67), .int a1, .int a2]) S none S' := by
  refine MT.of RX6 (fun ad => [(0, .ref (ad 67)), (1, .int a1), (2, .int a2)]) (by decide) rfl (fun _ => Nat.le_of_ble_eq_true rfl) (fun _ => rfl) ?_
  intro p l e R s m args below meth c dC dI cs ad A hR1 hR2 F H locs ls w hl
  have hx := F.1.1
  have hb := F.1.2.1
  rw [f_Routes_giveBack] at h
  refine lv_iconst (pc := 0) (v := 0) hx hb dX6_giveBack_0 (by decide) ?_
  refine lv_istore_n (pc := 1) (lv' := [(3, .int (0 : Int32)), (0, .ref (ad 67)), (1, .int a1), (2, .int a2)]) hx hb dX6_giveBack_1 rfl hl (by decide) rfl (fun ls hl => ?_)
  exact w_Routes_giveBack_L2 F (Nat.le_trans (by decide) hR1) (Nat.le_trans (by decide) hR2) _ _ _ _ _ h _ _ _ w (lv_sub hl [1, 2, 3, 0] rfl)
def f_Routes_lockAll_L34  : Nat → Int32 → Int32 → Int32 → Int32 → SS → Option (Int32 × SS)
  | 0, _, _, _, _, _ => none
  | n + 1, x1, x3, x4, x5, S =>
    if x3 ≤ x5 then
      some (x3, S)
    else
      grd (inb (x4 + x5) 96) (
      nm (S.1 100 (x4 + x5).toNatClampNeg) (fun z6 =>
      grd (inb (x4 + x5) 96) (
      bnd (f_Routes_lockFinding z6 (S.1 101 (x4 + x5).toNatClampNeg) S) (fun r8 S7 =>
      if r8 = 0 then
        bnd (f_State_setting z6 S7) (fun r10 S9 =>
        grd (inb x5 8) (wr S9 103 x5.toNatClampNeg r10 (fun S11 =>
        grd (inb (x4 + x5) 96) (
        bndv (f_State_setPoint z6 (S11.1 101 (x4 + x5).toNatClampNeg) x1 S11) (fun S12 =>
        nm (x5 + (1 : Int32)) (fun z13 =>
        f_Routes_lockAll_L34 n x1 x3 x4 z13 S12))))))
      else
        bndv (f_Routes_giveBack x4 x5 S7) (fun S14 =>
        bnd (f_Report_found r8 S14) (fun r16 S15 =>
        some (r16, S15)))))))
def f_Routes_lockAll (a1 : Int32) (S : SS) : Option (Int32 × SS) :=
  bnd (f_Routes_routeFinding a1 S) (fun r2 S1 =>
  if r2 = 0 then
    bnd (f_Routes_entriesOf a1 S1) (fun r4 S3 =>
    nm ((8 : Int32) * a1) (fun z5 =>
    f_Routes_lockAll_L34 NF a1 r4 z5 (0 : Int32) S3))
  else
    bnd (f_Report_found r2 S1) (fun r18 S17 =>
    some (r18, S17)))
theorem dX6_lockAll_0 : decode cX6_lockAll 0 = .ok (.aload_n 0, 1) := dc_42 (by decide +kernel)
theorem dX6_lockAll_1 : decode cX6_lockAll 1 = .ok (.iload_n 1, 1) := dc_27 (by decide +kernel)
theorem dX6_lockAll_2 : decode cX6_lockAll 2 = .ok (.invokevirtual 111, 3) := dc_182 (a := 0) (b := 111) (by decide +kernel)
theorem dX6_lockAll_5 : decode cX6_lockAll 5 = .ok (.istore_n 2, 1) := dc_61 (by decide +kernel)
theorem dX6_lockAll_6 : decode cX6_lockAll 6 = .ok (.iload_n 2, 1) := dc_28 (by decide +kernel)
theorem dX6_lockAll_7 : decode cX6_lockAll 7 = .ok (.ifCond .eq 12, 3) := dc_153 (a := 0) (b := 12) (by decide +kernel) (by decide)
theorem dX6_lockAll_10 : decode cX6_lockAll 10 = .ok (.aload_n 0, 1) := dc_42 (by decide +kernel)
theorem dX6_lockAll_11 : decode cX6_lockAll 11 = .ok (.getfield 39, 3) := dc_180 (a := 0) (b := 39) (by decide +kernel)
theorem dX6_lockAll_14 : decode cX6_lockAll 14 = .ok (.iload_n 2, 1) := dc_28 (by decide +kernel)
theorem dX6_lockAll_15 : decode cX6_lockAll 15 = .ok (.invokevirtual 88, 3) := dc_182 (a := 0) (b := 88) (by decide +kernel)
theorem dX6_lockAll_18 : decode cX6_lockAll 18 = .ok (.ireturn, 1) := dc_172 (by decide +kernel)
theorem dX6_lockAll_19 : decode cX6_lockAll 19 = .ok (.aload_n 0, 1) := dc_42 (by decide +kernel)
theorem dX6_lockAll_20 : decode cX6_lockAll 20 = .ok (.iload_n 1, 1) := dc_27 (by decide +kernel)
theorem dX6_lockAll_21 : decode cX6_lockAll 21 = .ok (.invokevirtual 43, 3) := dc_182 (a := 0) (b := 43) (by decide +kernel)
theorem dX6_lockAll_24 : decode cX6_lockAll 24 = .ok (.istore_n 3, 1) := dc_62 (by decide +kernel)
theorem dX6_lockAll_25 : decode cX6_lockAll 25 = .ok (.bipush 8, 2) := dc_16 (a := 8) (by decide +kernel) (by decide)
theorem dX6_lockAll_27 : decode cX6_lockAll 27 = .ok (.iload_n 1, 1) := dc_27 (by decide +kernel)
theorem dX6_lockAll_28 : decode cX6_lockAll 28 = .ok (.imul, 1) := dc_104 (by decide +kernel)
theorem dX6_lockAll_29 : decode cX6_lockAll 29 = .ok (.istore 4, 2) := dc_54 (a := 4) (by decide +kernel)
theorem dX6_lockAll_31 : decode cX6_lockAll 31 = .ok (.iconst 0, 1) := dc_3 (by decide +kernel)
theorem dX6_lockAll_32 : decode cX6_lockAll 32 = .ok (.istore 5, 2) := dc_54 (a := 5) (by decide +kernel)
theorem dX6_lockAll_34 : decode cX6_lockAll 34 = .ok (.iload 5, 2) := dc_21 (a := 5) (by decide +kernel)
theorem dX6_lockAll_36 : decode cX6_lockAll 36 = .ok (.iload_n 3, 1) := dc_29 (by decide +kernel)
theorem dX6_lockAll_37 : decode cX6_lockAll 37 = .ok (.if_icmp .ge 95, 3) := dc_162 (a := 0) (b := 95) (by decide +kernel) (by decide)
theorem dX6_lockAll_40 : decode cX6_lockAll 40 = .ok (.aload_n 0, 1) := dc_42 (by decide +kernel)
theorem dX6_lockAll_41 : decode cX6_lockAll 41 = .ok (.getfield 15, 3) := dc_180 (a := 0) (b := 15) (by decide +kernel)
theorem dX6_lockAll_44 : decode cX6_lockAll 44 = .ok (.iload 4, 2) := dc_21 (a := 4) (by decide +kernel)
theorem dX6_lockAll_46 : decode cX6_lockAll 46 = .ok (.iload 5, 2) := dc_21 (a := 5) (by decide +kernel)
theorem dX6_lockAll_48 : decode cX6_lockAll 48 = .ok (.iadd, 1) := dc_96 (by decide +kernel)
theorem dX6_lockAll_49 : decode cX6_lockAll 49 = .ok (.iaload, 1) := dc_46 (by decide +kernel)
theorem dX6_lockAll_50 : decode cX6_lockAll 50 = .ok (.istore 6, 2) := dc_54 (a := 6) (by decide +kernel)
theorem dX6_lockAll_52 : decode cX6_lockAll 52 = .ok (.aload_n 0, 1) := dc_42 (by decide +kernel)
theorem dX6_lockAll_53 : decode cX6_lockAll 53 = .ok (.iload 6, 2) := dc_21 (a := 6) (by decide +kernel)
theorem dX6_lockAll_55 : decode cX6_lockAll 55 = .ok (.aload_n 0, 1) := dc_42 (by decide +kernel)
theorem dX6_lockAll_56 : decode cX6_lockAll 56 = .ok (.getfield 18, 3) := dc_180 (a := 0) (b := 18) (by decide +kernel)
theorem dX6_lockAll_59 : decode cX6_lockAll 59 = .ok (.iload 4, 2) := dc_21 (a := 4) (by decide +kernel)
theorem dX6_lockAll_61 : decode cX6_lockAll 61 = .ok (.iload 5, 2) := dc_21 (a := 5) (by decide +kernel)
theorem dX6_lockAll_63 : decode cX6_lockAll 63 = .ok (.iadd, 1) := dc_96 (by decide +kernel)
theorem dX6_lockAll_64 : decode cX6_lockAll 64 = .ok (.iaload, 1) := dc_46 (by decide +kernel)
theorem dX6_lockAll_65 : decode cX6_lockAll 65 = .ok (.invokevirtual 114, 3) := dc_182 (a := 0) (b := 114) (by decide +kernel)
theorem dX6_lockAll_68 : decode cX6_lockAll 68 = .ok (.istore_n 2, 1) := dc_61 (by decide +kernel)
theorem dX6_lockAll_69 : decode cX6_lockAll 69 = .ok (.iload_n 2, 1) := dc_28 (by decide +kernel)
theorem dX6_lockAll_70 : decode cX6_lockAll 70 = .ok (.ifCond .eq 20, 3) := dc_153 (a := 0) (b := 20) (by decide +kernel) (by decide)
theorem dX6_lockAll_73 : decode cX6_lockAll 73 = .ok (.aload_n 0, 1) := dc_42 (by decide +kernel)
theorem dX6_lockAll_74 : decode cX6_lockAll 74 = .ok (.iload 4, 2) := dc_21 (a := 4) (by decide +kernel)
theorem dX6_lockAll_76 : decode cX6_lockAll 76 = .ok (.iload 5, 2) := dc_21 (a := 5) (by decide +kernel)
theorem dX6_lockAll_78 : decode cX6_lockAll 78 = .ok (.invokevirtual 118, 3) := dc_182 (a := 0) (b := 118) (by decide +kernel)
theorem dX6_lockAll_81 : decode cX6_lockAll 81 = .ok (.aload_n 0, 1) := dc_42 (by decide +kernel)
theorem dX6_lockAll_82 : decode cX6_lockAll 82 = .ok (.getfield 39, 3) := dc_180 (a := 0) (b := 39) (by decide +kernel)
theorem dX6_lockAll_85 : decode cX6_lockAll 85 = .ok (.iload_n 2, 1) := dc_28 (by decide +kernel)
theorem dX6_lockAll_86 : decode cX6_lockAll 86 = .ok (.invokevirtual 88, 3) := dc_182 (a := 0) (b := 88) (by decide +kernel)
theorem dX6_lockAll_89 : decode cX6_lockAll 89 = .ok (.ireturn, 1) := dc_172 (by decide +kernel)
theorem dX6_lockAll_90 : decode cX6_lockAll 90 = .ok (.aload_n 0, 1) := dc_42 (by decide +kernel)
theorem dX6_lockAll_91 : decode cX6_lockAll 91 = .ok (.getfield 24, 3) := dc_180 (a := 0) (b := 24) (by decide +kernel)
theorem dX6_lockAll_94 : decode cX6_lockAll 94 = .ok (.iload 5, 2) := dc_21 (a := 5) (by decide +kernel)
theorem dX6_lockAll_96 : decode cX6_lockAll 96 = .ok (.aload_n 0, 1) := dc_42 (by decide +kernel)
theorem dX6_lockAll_97 : decode cX6_lockAll 97 = .ok (.getfield 31, 3) := dc_180 (a := 0) (b := 31) (by decide +kernel)
theorem dX6_lockAll_100 : decode cX6_lockAll 100 = .ok (.iload 6, 2) := dc_21 (a := 6) (by decide +kernel)
theorem dX6_lockAll_102 : decode cX6_lockAll 102 = .ok (.invokevirtual 82, 3) := dc_182 (a := 0) (b := 82) (by decide +kernel)
theorem dX6_lockAll_105 : decode cX6_lockAll 105 = .ok (.iastore, 1) := dc_79 (by decide +kernel)
theorem dX6_lockAll_106 : decode cX6_lockAll 106 = .ok (.aload_n 0, 1) := dc_42 (by decide +kernel)
theorem dX6_lockAll_107 : decode cX6_lockAll 107 = .ok (.getfield 31, 3) := dc_180 (a := 0) (b := 31) (by decide +kernel)
theorem dX6_lockAll_110 : decode cX6_lockAll 110 = .ok (.iload 6, 2) := dc_21 (a := 6) (by decide +kernel)
theorem dX6_lockAll_112 : decode cX6_lockAll 112 = .ok (.aload_n 0, 1) := dc_42 (by decide +kernel)
theorem dX6_lockAll_113 : decode cX6_lockAll 113 = .ok (.getfield 18, 3) := dc_180 (a := 0) (b := 18) (by decide +kernel)
theorem dX6_lockAll_116 : decode cX6_lockAll 116 = .ok (.iload 4, 2) := dc_21 (a := 4) (by decide +kernel)
theorem dX6_lockAll_118 : decode cX6_lockAll 118 = .ok (.iload 5, 2) := dc_21 (a := 5) (by decide +kernel)
theorem dX6_lockAll_120 : decode cX6_lockAll 120 = .ok (.iadd, 1) := dc_96 (by decide +kernel)
theorem dX6_lockAll_121 : decode cX6_lockAll 121 = .ok (.iaload, 1) := dc_46 (by decide +kernel)
theorem dX6_lockAll_122 : decode cX6_lockAll 122 = .ok (.iload_n 1, 1) := dc_27 (by decide +kernel)
theorem dX6_lockAll_123 : decode cX6_lockAll 123 = .ok (.invokevirtual 91, 3) := dc_182 (a := 0) (b := 91) (by decide +kernel)
theorem dX6_lockAll_126 : decode cX6_lockAll 126 = .ok (.iinc 5 1, 3) := dc_132 (a := 5) (b := 1) (by decide +kernel) (by decide)
theorem dX6_lockAll_129 : decode cX6_lockAll 129 = .ok (.goto (-95), 3) := dc_167 (a := 255) (b := 161) (by decide +kernel) (by decide)
theorem dX6_lockAll_132 : decode cX6_lockAll 132 = .ok (.iload_n 3, 1) := dc_29 (by decide +kernel)
theorem dX6_lockAll_133 : decode cX6_lockAll 133 = .ok (.ireturn, 1) := dc_172 (by decide +kernel)
set_option maxRecDepth 100000 in
set_option maxHeartbeats 4000000 in
theorem w_Routes_lockAll_L34 {p : Program} {l : Launch} {e : Env} {R : Room} {s : State} {m : MethodId} {args : Array Value} {below : List Frame} {meth : Method} {c : Code} {dC : Nat → ClassId} {dI : Nat → Nat → Nat} {cs : Nat → ClassId} {ad : Nat → Nat} {A : Nat → Prop} {D0 : Nat → Nat} {S' : SS} {r : Int32} (F : Fx p s m args meth c cX6_lockAll 7 RX6 (some .int) dC dI cs A) (hR1 : 4 ≤ R.frames) (hR2 : 87 ≤ R.locals) : ∀ (n : Nat) (x1 : Int32) (x3 : Int32) (x4 : Int32) (x5 : Int32) (S : SS), f_Routes_lockAll_L34 n x1 x3 x4 x5 S = some (r, S') → AW p l e R s m args below meth c dC dI cs ad A D0 (some (.int r)) S' 7 34 [(0, .ref (ad 67)), (1, .int x1), (3, .int x3), (4, .int x4), (5, .int x5)] [] S := by
  have hx := F.1.1
  have hb := F.1.2.1
  intro n
  induction n with
  | zero => intro x1 x3 x4 x5 S h; cases h
  | succ n ih =>
    intro x1 x3 x4 x5 S h H locs ls w hl
    rw [f_Routes_lockAll_L34] at h
    refine lv_iload (pc := 34) hx hb dX6_lockAll_34 (lv_at hl 4 rfl) ?_
    refine lv_iload_n (pc := 36) hx hb dX6_lockAll_36 rfl (lv_at hl 2 rfl) ?_
    refine lv_icmp_ge (pc := 37) (tgt := 132) hx hb dX6_lockAll_37 (by decide) (fun q => ?_) (fun q => ?_)
    · have h := ite_t q h
      refine lv_iload_n (pc := 132) hx hb dX6_lockAll_132 rfl (lv_at hl 2 rfl) ?_
      exact s_iret F w h dX6_lockAll_133
    · have h := ite_f q h
      refine lv_aload_n (pc := 40) hx hb dX6_lockAll_40 rfl (lv_at hl 0 rfl) ?_
      refine s_getR (pc := 41) F w 100 ds_67 (j := 4) vc_X6 vi_X6 rfl (by decide) kf_X6_15 dX6_lockAll_41 ?_
      refine lv_iload (pc := 44) hx hb dX6_lockAll_44 (lv_at hl 3 rfl) ?_
      refine lv_iload (pc := 46) hx hb dX6_lockAll_46 (lv_at hl 4 rfl) ?_
      refine lv_iadd (pc := 48) hx hb dX6_lockAll_48 ?_
      refine s_iald (pc := 49) F w ds_100 h dX6_lockAll_49 (fun h => ?_)
      refine s_nm h (fun z6 ez6 h => ?_)
      rw [← ez6]
      refine lv_istore (pc := 50) (lv' := [(6, .int z6), (0, .ref (ad 67)), (1, .int x1), (3, .int x3), (4, .int x4), (5, .int x5)]) hx hb dX6_lockAll_50 hl (by decide) rfl (fun ls hl => ?_)
      refine lv_aload_n (pc := 52) hx hb dX6_lockAll_52 rfl (lv_at hl 1 rfl) ?_
      refine lv_iload (pc := 53) hx hb dX6_lockAll_53 (lv_at hl 0 rfl) ?_
      refine lv_aload_n (pc := 55) hx hb dX6_lockAll_55 rfl (lv_at hl 1 rfl) ?_
      refine s_getR (pc := 56) F w 101 ds_67 (j := 5) vc_X6 vi_X6 rfl (by decide) kf_X6_18 dX6_lockAll_56 ?_
      refine lv_iload (pc := 59) hx hb dX6_lockAll_59 (lv_at hl 4 rfl) ?_
      refine lv_iload (pc := 61) hx hb dX6_lockAll_61 (lv_at hl 5 rfl) ?_
      refine lv_iadd (pc := 63) hx hb dX6_lockAll_63 ?_
      refine s_iald (pc := 64) F w ds_101 h dX6_lockAll_64 (fun h => ?_)
      obtain ⟨r8, S7, hc, h⟩ := bnd_t h
      refine s_cvi (pc := 65) [.int z6, .int (S.1 101 (x4 + x5).toNatClampNeg)] (fun ad => [.ref (ad 67), .int z6, .int (S.1 101 (x4 + x5).toNatClampNeg)]) F w (m_Routes_lockFinding _ _ _ _ _ hc) rfl rfl hl.1 ds_67 vc_X6 rfl ok_X6_lockFinding rfl kc_X6_lockFinding kl_X6_114 ki_X6_lockFinding kv_X6_lockFinding kn_X6 ⟨Nat.le_trans (by decide) hR1, Nat.le_trans (by decide) hR2⟩ ⟨Nat.zero_le _, Nat.zero_le _⟩ (Nat.le_of_ble_eq_true rfl) dX6_lockAll_65 (fun H locs w => ?_)
      refine lv_istore_n (pc := 68) (lv' := [(2, .int r8), (6, .int z6), (0, .ref (ad 67)), (1, .int x1), (3, .int x3), (4, .int x4), (5, .int x5)]) hx hb dX6_lockAll_68 rfl hl (by decide) rfl (fun ls hl => ?_)
      refine lv_iload_n (pc := 69) hx hb dX6_lockAll_69 rfl (lv_at hl 0 rfl) ?_
      refine lv_if_eq (pc := 70) (tgt := 90) hx hb dX6_lockAll_70 (by decide) (fun q => ?_) (fun q => ?_)
      · have h := ite_t q h
        refine lv_aload_n (pc := 90) hx hb dX6_lockAll_90 rfl (lv_at hl 2 rfl) ?_
        refine s_getR (pc := 91) F w 103 ds_67 (j := 7) vc_X6 vi_X6 rfl (by decide) kf_X6_24 dX6_lockAll_91 ?_
        refine lv_iload (pc := 94) hx hb dX6_lockAll_94 (lv_at hl 6 rfl) ?_
        refine lv_aload_n (pc := 96) hx hb dX6_lockAll_96 rfl (lv_at hl 2 rfl) ?_
        refine s_getR (pc := 97) F w 63 ds_67 (j := 0) vc_X6 vi_X6 rfl (by decide) kf_X6_31 dX6_lockAll_97 ?_
        refine lv_iload (pc := 100) hx hb dX6_lockAll_100 (lv_at hl 1 rfl) ?_
        obtain ⟨r10, S9, hc, h⟩ := bnd_t h
        refine s_cvi (pc := 102) [.int z6] (fun ad => [.ref (ad 63), .int z6]) F w (m_State_setting _ _ _ _ hc) rfl rfl hl.1 ds_63 vc_X8 rfl ok_X8_setting rfl kc_X8_setting kl_X6_82 ki_X8_setting kv_X8_setting kn_X8 ⟨Nat.le_trans (by decide) hR1, Nat.le_trans (by decide) hR2⟩ ⟨Nat.zero_le _, Nat.zero_le _⟩ (Nat.le_of_ble_eq_true rfl) dX6_lockAll_102 (fun H locs w => ?_)
        refine s_iast (pc := 105) F w ds_103 h dX6_lockAll_105 (fun S11 H locs h w => ?_)
        refine lv_aload_n (pc := 106) hx hb dX6_lockAll_106 rfl (lv_at hl 2 rfl) ?_
        refine s_getR (pc := 107) F w 63 ds_67 (j := 0) vc_X6 vi_X6 rfl (by decide) kf_X6_31 dX6_lockAll_107 ?_
        refine lv_iload (pc := 110) hx hb dX6_lockAll_110 (lv_at hl 1 rfl) ?_
        refine lv_aload_n (pc := 112) hx hb dX6_lockAll_112 rfl (lv_at hl 2 rfl) ?_
        refine s_getR (pc := 113) F w 101 ds_67 (j := 5) vc_X6 vi_X6 rfl (by decide) kf_X6_18 dX6_lockAll_113 ?_
        refine lv_iload (pc := 116) hx hb dX6_lockAll_116 (lv_at hl 5 rfl) ?_
        refine lv_iload (pc := 118) hx hb dX6_lockAll_118 (lv_at hl 6 rfl) ?_
        refine lv_iadd (pc := 120) hx hb dX6_lockAll_120 ?_
        refine s_iald (pc := 121) F w ds_101 h dX6_lockAll_121 (fun h => ?_)
        refine lv_iload_n (pc := 122) hx hb dX6_lockAll_122 rfl (lv_at hl 3 rfl) ?_
        obtain ⟨S12, hc, h⟩ := bndv_t h
        refine s_cvv (pc := 123) [.int z6, .int (S11.1 101 (x4 + x5).toNatClampNeg), .int x1] (fun ad => [.ref (ad 63), .int z6, .int (S11.1 101 (x4 + x5).toNatClampNeg), .int x1]) F w (m_State_setPoint _ _ _ _ _ hc) rfl rfl hl.1 ds_63 vc_X8 rfl ok_X8_setPoint rfl kc_X8_setPoint kl_X6_91 ki_X8_setPoint kv_X8_setPoint kn_X8 ⟨Nat.le_trans (by decide) hR1, Nat.le_trans (by decide) hR2⟩ ⟨Nat.zero_le _, Nat.zero_le _⟩ (Nat.le_of_ble_eq_true rfl) dX6_lockAll_123 (fun H locs w => ?_)
        refine s_nm h (fun z13 ez13 h => ?_)
        refine lv_iinc (pc := 126) (v := z13) (lv' := [(5, .int z13), (2, .int r8), (6, .int z6), (0, .ref (ad 67)), (1, .int x1), (3, .int x3), (4, .int x4)]) hx hb dX6_lockAll_126 hl (k := 6) rfl (by rw [ez13]; rfl) (by decide) rfl (fun ls hl => ?_)
        refine lv_goto (pc := 129) (tgt := 34) hx hb dX6_lockAll_129 (by decide) ?_
        exact ih _ _ _ _ _ h _ _ _ w (lv_sub hl [3, 4, 5, 6, 0] rfl)
      · have h := ite_f q h
        refine lv_aload_n (pc := 73) hx hb dX6_lockAll_73 rfl (lv_at hl 2 rfl) ?_
        refine lv_iload (pc := 74) hx hb dX6_lockAll_74 (lv_at hl 5 rfl) ?_
        refine lv_iload (pc := 76) hx hb dX6_lockAll_76 (lv_at hl 6 rfl) ?_
        obtain ⟨S14, hc, h⟩ := bndv_t h
        refine s_cvv (pc := 78) [.int x4, .int x5] (fun ad => [.ref (ad 67), .int x4, .int x5]) F w (m_Routes_giveBack _ _ _ _ hc) rfl rfl hl.1 ds_67 vc_X6 rfl ok_X6_giveBack rfl kc_X6_giveBack kl_X6_118 ki_X6_giveBack kv_X6_giveBack kn_X6 ⟨Nat.le_trans (by decide) hR1, Nat.le_trans (by decide) hR2⟩ ⟨Nat.zero_le _, Nat.zero_le _⟩ (Nat.le_of_ble_eq_true rfl) dX6_lockAll_78 (fun H locs w => ?_)
        refine lv_aload_n (pc := 81) hx hb dX6_lockAll_81 rfl (lv_at hl 2 rfl) ?_
        refine s_getR (pc := 82) F w 62 ds_67 (j := 2) vc_X6 vi_X6 rfl (by decide) kf_X6_39 dX6_lockAll_82 ?_
        refine lv_iload_n (pc := 85) hx hb dX6_lockAll_85 rfl (lv_at hl 0 rfl) ?_
        obtain ⟨r16, S15, hc, h⟩ := bnd_t h
        refine s_cvi (pc := 86) [.int r8] (fun ad => [.ref (ad 62), .int r8]) F w (m_Report_found _ _ _ _ hc) rfl rfl hl.1 ds_62 vc_X5 rfl ok_X5_found rfl kc_X5_found kl_X6_88 ki_X5_found kv_X5_found kn_X5 ⟨Nat.le_trans (by decide) hR1, Nat.le_trans (by decide) hR2⟩ ⟨Nat.zero_le _, Nat.zero_le _⟩ (Nat.le_of_ble_eq_true rfl) dX6_lockAll_86 (fun H locs w => ?_)
        exact s_iret F w h dX6_lockAll_89
set_option maxRecDepth 100000 in
set_option maxHeartbeats 4000000 in
theorem m_Routes_lockAll (a1 : Int32) (S S' : SS) (r : Int32) (h : f_Routes_lockAll a1 S = some (r, S')) : MT yX6_lockAll cX6_lockAll 7 (some .int) 4 87 (fun ad => [.ref (ad 67), .int a1]) S (some (.int r)) S' := by
  refine MT.of RX6 (fun ad => [(0, .ref (ad 67)), (1, .int a1)]) (by decide) rfl (fun _ => Nat.le_of_ble_eq_true rfl) (fun _ => rfl) ?_
  intro p l e R s m args below meth c dC dI cs ad A hR1 hR2 F H locs ls w hl
  have hx := F.1.1
  have hb := F.1.2.1
  rw [f_Routes_lockAll] at h
  refine lv_aload_n (pc := 0) hx hb dX6_lockAll_0 rfl (lv_at hl 0 rfl) ?_
  refine lv_iload_n (pc := 1) hx hb dX6_lockAll_1 rfl (lv_at hl 1 rfl) ?_
  obtain ⟨r2, S1, hc, h⟩ := bnd_t h
  refine s_cvi (pc := 2) [.int a1] (fun ad => [.ref (ad 67), .int a1]) F w (m_Routes_routeFinding _ _ _ _ hc) rfl rfl hl.1 ds_67 vc_X6 rfl ok_X6_routeFinding rfl kc_X6_routeFinding kl_X6_111 ki_X6_routeFinding kv_X6_routeFinding kn_X6 ⟨Nat.le_trans (by decide) hR1, Nat.le_trans (by decide) hR2⟩ ⟨Nat.zero_le _, Nat.zero_le _⟩ (Nat.le_of_ble_eq_true rfl) dX6_lockAll_2 (fun H locs w => ?_)
  refine lv_istore_n (pc := 5) (lv' := [(2, .int r2), (0, .ref (ad 67)), (1, .int a1)]) hx hb dX6_lockAll_5 rfl hl (by decide) rfl (fun ls hl => ?_)
  refine lv_iload_n (pc := 6) hx hb dX6_lockAll_6 rfl (lv_at hl 0 rfl) ?_
  refine lv_if_eq (pc := 7) (tgt := 19) hx hb dX6_lockAll_7 (by decide) (fun q => ?_) (fun q => ?_)
  · have h := ite_t q h
    refine lv_aload_n (pc := 19) hx hb dX6_lockAll_19 rfl (lv_at hl 1 rfl) ?_
    refine lv_iload_n (pc := 20) hx hb dX6_lockAll_20 rfl (lv_at hl 2 rfl) ?_
    obtain ⟨r4, S3, hc, h⟩ := bnd_t h
    refine s_cvi (pc := 21) [.int a1] (fun ad => [.ref (ad 67), .int a1]) F w (m_Routes_entriesOf _ _ _ _ hc) rfl rfl hl.1 ds_67 vc_X6 rfl ok_X6_entriesOf rfl kc_X6_entriesOf kl_X6_43 ki_X6_entriesOf kv_X6_entriesOf kn_X6 ⟨Nat.le_trans (by decide) hR1, Nat.le_trans (by decide) hR2⟩ ⟨Nat.zero_le _, Nat.zero_le _⟩ (Nat.le_of_ble_eq_true rfl) dX6_lockAll_21 (fun H locs w => ?_)
    refine lv_istore_n (pc := 24) (lv' := [(3, .int r4), (2, .int r2), (0, .ref (ad 67)), (1, .int a1)]) hx hb dX6_lockAll_24 rfl hl (by decide) rfl (fun ls hl => ?_)
    refine lv_bipush (pc := 25) (v := 8) hx hb dX6_lockAll_25 (by decide) ?_
    refine lv_iload_n (pc := 27) hx hb dX6_lockAll_27 rfl (lv_at hl 3 rfl) ?_
    refine lv_imul (pc := 28) hx hb dX6_lockAll_28 ?_
    refine s_nm h (fun z5 ez5 h => ?_)
    rw [← ez5]
    refine lv_istore (pc := 29) (lv' := [(4, .int z5), (3, .int r4), (2, .int r2), (0, .ref (ad 67)), (1, .int a1)]) hx hb dX6_lockAll_29 hl (by decide) rfl (fun ls hl => ?_)
    refine lv_iconst (pc := 31) (v := 0) hx hb dX6_lockAll_31 (by decide) ?_
    refine lv_istore (pc := 32) (lv' := [(5, .int (0 : Int32)), (4, .int z5), (3, .int r4), (2, .int r2), (0, .ref (ad 67)), (1, .int a1)]) hx hb dX6_lockAll_32 hl (by decide) rfl (fun ls hl => ?_)
    exact w_Routes_lockAll_L34 F (Nat.le_trans (by decide) hR1) (Nat.le_trans (by decide) hR2) _ _ _ _ _ _ h _ _ _ w (lv_sub hl [4, 5, 2, 1, 0] rfl)
  · have h := ite_f q h
    refine lv_aload_n (pc := 10) hx hb dX6_lockAll_10 rfl (lv_at hl 1 rfl) ?_
    refine s_getR (pc := 11) F w 62 ds_67 (j := 2) vc_X6 vi_X6 rfl (by decide) kf_X6_39 dX6_lockAll_11 ?_
    refine lv_iload_n (pc := 14) hx hb dX6_lockAll_14 rfl (lv_at hl 0 rfl) ?_
    obtain ⟨r18, S17, hc, h⟩ := bnd_t h
    refine s_cvi (pc := 15) [.int r2] (fun ad => [.ref (ad 62), .int r2]) F w (m_Report_found _ _ _ _ hc) rfl rfl hl.1 ds_62 vc_X5 rfl ok_X5_found rfl kc_X5_found kl_X6_88 ki_X5_found kv_X5_found kn_X5 ⟨Nat.le_trans (by decide) hR1, Nat.le_trans (by decide) hR2⟩ ⟨Nat.zero_le _, Nat.zero_le _⟩ (Nat.le_of_ble_eq_true rfl) dX6_lockAll_15 (fun H locs w => ?_)
    exact s_iret F w h dX6_lockAll_18
def f_Yard_lock (a1 : Int32) (S : SS) : Option (Int32 × SS) :=
  bndv (f_Yard_beginAct  S) (fun S1 =>
  bnd (f_Routes_lockAll a1 S1) (fun r3 S2 =>
  bnd (f_Yard_endAct (4 : Int32) r3 S2) (fun r5 S4 =>
  some (r5, S4))))
theorem dX11_lock_0 : decode cX11_lock 0 = .ok (.aload_n 0, 1) := dc_42 (by decide +kernel)
theorem dX11_lock_1 : decode cX11_lock 1 = .ok (.invokevirtual 199, 3) := dc_182 (a := 0) (b := 199) (by decide +kernel)
theorem dX11_lock_4 : decode cX11_lock 4 = .ok (.aload_n 0, 1) := dc_42 (by decide +kernel)
theorem dX11_lock_5 : decode cX11_lock 5 = .ok (.iconst 4, 1) := dc_7 (by decide +kernel)
theorem dX11_lock_6 : decode cX11_lock 6 = .ok (.aload_n 0, 1) := dc_42 (by decide +kernel)
theorem dX11_lock_7 : decode cX11_lock 7 = .ok (.getfield 51, 3) := dc_180 (a := 0) (b := 51) (by decide +kernel)
theorem dX11_lock_10 : decode cX11_lock 10 = .ok (.iload_n 1, 1) := dc_27 (by decide +kernel)
theorem dX11_lock_11 : decode cX11_lock 11 = .ok (.invokevirtual 214, 3) := dc_182 (a := 0) (b := 214) (by decide +kernel)
theorem dX11_lock_14 : decode cX11_lock 14 = .ok (.invokevirtual 205, 3) := dc_182 (a := 0) (b := 205) (by decide +kernel)
theorem dX11_lock_17 : decode cX11_lock 17 = .ok (.ireturn, 1) := dc_172 (by decide +kernel)
set_option maxRecDepth 100000 in
set_option maxHeartbeats 4000000 in
theorem m_Yard_lock (a1 : Int32) (S S' : SS) (r : Int32) (h : f_Yard_lock a1 S = some (r, S')) : MT yX11_lock cX11_lock 2 (some .int) 5 113 (fun ad => [.ref (ad 61), .int a1]) S (some (.int r)) S' := by
  refine MT.of RX11 (fun ad => [(0, .ref (ad 61)), (1, .int a1)]) (by decide) rfl (fun _ => Nat.le_of_ble_eq_true rfl) (fun _ => rfl) ?_
  intro p l e R s m args below meth c dC dI cs ad A hR1 hR2 F H locs ls w hl
  have hx := F.1.1
  have hb := F.1.2.1
  rw [f_Yard_lock] at h
  refine lv_aload_n (pc := 0) hx hb dX11_lock_0 rfl (lv_at hl 0 rfl) ?_
  obtain ⟨S1, hc, h⟩ := bndv_t h
  refine s_cvv (pc := 1) [] (fun ad => [.ref (ad 61)]) F w (m_Yard_beginAct  _ _ hc) rfl rfl hl.1 ds_61 vc_X11 rfl ok_X11_beginAct rfl kc_X11_beginAct kl_X11_199 ki_X11_beginAct kv_X11_beginAct kn_X11 ⟨Nat.le_trans (by decide) hR1, Nat.le_trans (by decide) hR2⟩ ⟨Nat.zero_le _, Nat.zero_le _⟩ (Nat.le_of_ble_eq_true rfl) dX11_lock_1 (fun H locs w => ?_)
  refine lv_aload_n (pc := 4) hx hb dX11_lock_4 rfl (lv_at hl 0 rfl) ?_
  refine lv_iconst (pc := 5) (v := 4) hx hb dX11_lock_5 (by decide) ?_
  refine lv_aload_n (pc := 6) hx hb dX11_lock_6 rfl (lv_at hl 0 rfl) ?_
  refine s_getR (pc := 7) F w 67 ds_61 (j := 5) vc_X11 vi_X11 rfl (by decide) kf_X11_51 dX11_lock_7 ?_
  refine lv_iload_n (pc := 10) hx hb dX11_lock_10 rfl (lv_at hl 1 rfl) ?_
  obtain ⟨r3, S2, hc, h⟩ := bnd_t h
  refine s_cvi (pc := 11) [.int a1] (fun ad => [.ref (ad 67), .int a1]) F w (m_Routes_lockAll _ _ _ _ hc) rfl rfl hl.1 ds_67 vc_X6 rfl ok_X6_lockAll rfl kc_X6_lockAll kl_X11_214 ki_X6_lockAll kv_X6_lockAll kn_X6 ⟨Nat.le_trans (by decide) hR1, Nat.le_trans (by decide) hR2⟩ ⟨Nat.zero_le _, Nat.zero_le _⟩ (Nat.le_of_ble_eq_true rfl) dX11_lock_11 (fun H locs w => ?_)
  obtain ⟨r5, S4, hc, h⟩ := bnd_t h
  refine s_cvi (pc := 14) [.int (4 : Int32), .int r3] (fun ad => [.ref (ad 61), .int (4 : Int32), .int r3]) F w (m_Yard_endAct _ _ _ _ _ hc) rfl rfl hl.1 ds_61 vc_X11 rfl ok_X11_endAct rfl kc_X11_endAct kl_X11_205 ki_X11_endAct kv_X11_endAct kn_X11 ⟨Nat.le_trans (by decide) hR1, Nat.le_trans (by decide) hR2⟩ ⟨Nat.zero_le _, Nat.zero_le _⟩ (Nat.le_of_ble_eq_true rfl) dX11_lock_14 (fun H locs w => ?_)
  exact s_iret F w h dX11_lock_17
def f_Routes_freeAll_j73 (K28 : Int32 → Int32 → Int32 → SS → Option (Int32 × SS)) (x1 : Int32) (x3 : Int32) (x4 : Int32) (S : SS) : Option (Int32 × SS) :=
    nm (x4 + (1 : Int32)) (fun z7 =>
    K28 x1 x3 z7 S)
def f_Routes_freeAll_L28  : Nat → Int32 → Int32 → Int32 → SS → Option (Int32 × SS)
  | 0, _, _, _, _ => none
  | n + 1, x1, x3, x4, S =>
    if (S.1 66 8) ≤ x4 then
      some (x3, S)
    else
      bnd (f_State_locker x4 S) (fun r6 S5 =>
      if r6 = x1 then
        bnd (f_State_setting x4 S5) (fun r9 S8 =>
        bndv (f_State_setPoint x4 r9 (-4 : Int32) S8) (fun S10 =>
        f_Routes_freeAll_j73 (fun v0 v1 v2 S => f_Routes_freeAll_L28 n v0 v1 v2 S) x1 x3 x4 S10))
      else
        f_Routes_freeAll_j73 (fun v0 v1 v2 S => f_Routes_freeAll_L28 n v0 v1 v2 S) x1 x3 x4 S5)
def f_Routes_freeAll (a1 : Int32) (S : SS) : Option (Int32 × SS) :=
  bnd (f_Routes_routeFinding a1 S) (fun r2 S1 =>
  if r2 = 0 then
    bnd (f_Routes_lockedBy a1 S1) (fun r4 S3 =>
    f_Routes_freeAll_L28 NF a1 r4 (0 : Int32) S3)
  else
    bnd (f_Report_found r2 S1) (fun r12 S11 =>
    some (r12, S11)))
theorem dX6_freeAll_0 : decode cX6_freeAll 0 = .ok (.aload_n 0, 1) := dc_42 (by decide +kernel)
theorem dX6_freeAll_1 : decode cX6_freeAll 1 = .ok (.iload_n 1, 1) := dc_27 (by decide +kernel)
theorem dX6_freeAll_2 : decode cX6_freeAll 2 = .ok (.invokevirtual 111, 3) := dc_182 (a := 0) (b := 111) (by decide +kernel)
theorem dX6_freeAll_5 : decode cX6_freeAll 5 = .ok (.istore_n 2, 1) := dc_61 (by decide +kernel)
theorem dX6_freeAll_6 : decode cX6_freeAll 6 = .ok (.iload_n 2, 1) := dc_28 (by decide +kernel)
theorem dX6_freeAll_7 : decode cX6_freeAll 7 = .ok (.ifCond .eq 12, 3) := dc_153 (a := 0) (b := 12) (by decide +kernel) (by decide)
theorem dX6_freeAll_10 : decode cX6_freeAll 10 = .ok (.aload_n 0, 1) := dc_42 (by decide +kernel)
theorem dX6_freeAll_11 : decode cX6_freeAll 11 = .ok (.getfield 39, 3) := dc_180 (a := 0) (b := 39) (by decide +kernel)
theorem dX6_freeAll_14 : decode cX6_freeAll 14 = .ok (.iload_n 2, 1) := dc_28 (by decide +kernel)
theorem dX6_freeAll_15 : decode cX6_freeAll 15 = .ok (.invokevirtual 88, 3) := dc_182 (a := 0) (b := 88) (by decide +kernel)
theorem dX6_freeAll_18 : decode cX6_freeAll 18 = .ok (.ireturn, 1) := dc_172 (by decide +kernel)
theorem dX6_freeAll_19 : decode cX6_freeAll 19 = .ok (.aload_n 0, 1) := dc_42 (by decide +kernel)
theorem dX6_freeAll_20 : decode cX6_freeAll 20 = .ok (.iload_n 1, 1) := dc_27 (by decide +kernel)
theorem dX6_freeAll_21 : decode cX6_freeAll 21 = .ok (.invokevirtual 47, 3) := dc_182 (a := 0) (b := 47) (by decide +kernel)
theorem dX6_freeAll_24 : decode cX6_freeAll 24 = .ok (.istore_n 3, 1) := dc_62 (by decide +kernel)
theorem dX6_freeAll_25 : decode cX6_freeAll 25 = .ok (.iconst 0, 1) := dc_3 (by decide +kernel)
theorem dX6_freeAll_26 : decode cX6_freeAll 26 = .ok (.istore 4, 2) := dc_54 (a := 4) (by decide +kernel)
theorem dX6_freeAll_28 : decode cX6_freeAll 28 = .ok (.iload 4, 2) := dc_21 (a := 4) (by decide +kernel)
theorem dX6_freeAll_30 : decode cX6_freeAll 30 = .ok (.aload_n 0, 1) := dc_42 (by decide +kernel)
theorem dX6_freeAll_31 : decode cX6_freeAll 31 = .ok (.getfield 35, 3) := dc_180 (a := 0) (b := 35) (by decide +kernel)
theorem dX6_freeAll_34 : decode cX6_freeAll 34 = .ok (.getfield 53, 3) := dc_180 (a := 0) (b := 53) (by decide +kernel)
theorem dX6_freeAll_37 : decode cX6_freeAll 37 = .ok (.if_icmp .ge 42, 3) := dc_162 (a := 0) (b := 42) (by decide +kernel) (by decide)
theorem dX6_freeAll_40 : decode cX6_freeAll 40 = .ok (.aload_n 0, 1) := dc_42 (by decide +kernel)
theorem dX6_freeAll_41 : decode cX6_freeAll 41 = .ok (.getfield 31, 3) := dc_180 (a := 0) (b := 31) (by decide +kernel)
theorem dX6_freeAll_44 : decode cX6_freeAll 44 = .ok (.iload 4, 2) := dc_21 (a := 4) (by decide +kernel)
theorem dX6_freeAll_46 : decode cX6_freeAll 46 = .ok (.invokevirtual 58, 3) := dc_182 (a := 0) (b := 58) (by decide +kernel)
theorem dX6_freeAll_49 : decode cX6_freeAll 49 = .ok (.iload_n 1, 1) := dc_27 (by decide +kernel)
theorem dX6_freeAll_50 : decode cX6_freeAll 50 = .ok (.if_icmp .ne 23, 3) := dc_160 (a := 0) (b := 23) (by decide +kernel) (by decide)
theorem dX6_freeAll_53 : decode cX6_freeAll 53 = .ok (.aload_n 0, 1) := dc_42 (by decide +kernel)
theorem dX6_freeAll_54 : decode cX6_freeAll 54 = .ok (.getfield 31, 3) := dc_180 (a := 0) (b := 31) (by decide +kernel)
theorem dX6_freeAll_57 : decode cX6_freeAll 57 = .ok (.iload 4, 2) := dc_21 (a := 4) (by decide +kernel)
theorem dX6_freeAll_59 : decode cX6_freeAll 59 = .ok (.aload_n 0, 1) := dc_42 (by decide +kernel)
theorem dX6_freeAll_60 : decode cX6_freeAll 60 = .ok (.getfield 31, 3) := dc_180 (a := 0) (b := 31) (by decide +kernel)
theorem dX6_freeAll_63 : decode cX6_freeAll 63 = .ok (.iload 4, 2) := dc_21 (a := 4) (by decide +kernel)
theorem dX6_freeAll_65 : decode cX6_freeAll 65 = .ok (.invokevirtual 82, 3) := dc_182 (a := 0) (b := 82) (by decide +kernel)
theorem dX6_freeAll_68 : decode cX6_freeAll 68 = .ok (.bipush (-4), 2) := dc_16 (a := 252) (by decide +kernel) (by decide)
theorem dX6_freeAll_70 : decode cX6_freeAll 70 = .ok (.invokevirtual 91, 3) := dc_182 (a := 0) (b := 91) (by decide +kernel)
theorem dX6_freeAll_73 : decode cX6_freeAll 73 = .ok (.iinc 4 1, 3) := dc_132 (a := 4) (b := 1) (by decide +kernel) (by decide)
theorem dX6_freeAll_76 : decode cX6_freeAll 76 = .ok (.goto (-48), 3) := dc_167 (a := 255) (b := 208) (by decide +kernel) (by decide)
theorem dX6_freeAll_79 : decode cX6_freeAll 79 = .ok (.iload_n 3, 1) := dc_29 (by decide +kernel)
theorem dX6_freeAll_80 : decode cX6_freeAll 80 = .ok (.ireturn, 1) := dc_172 (by decide +kernel)
set_option maxRecDepth 100000 in
set_option maxHeartbeats 4000000 in
theorem w_Routes_freeAll_j73 {p : Program} {l : Launch} {e : Env} {R : Room} {s : State} {m : MethodId} {args : Array Value} {below : List Frame} {meth : Method} {c : Code} {dC : Nat → ClassId} {dI : Nat → Nat → Nat} {cs : Nat → ClassId} {ad : Nat → Nat} {A : Nat → Prop} {D0 : Nat → Nat} {S' : SS} {r : Int32} (F : Fx p s m args meth c cX6_freeAll 5 RX6 (some .int) dC dI cs A) (hR1 : 0 ≤ R.frames) (hR2 : 0 ≤ R.locals) (K28 : Int32 → Int32 → Int32 → SS → Option (Int32 × SS)) (hK28 : ∀ (v0 : Int32) (v1 : Int32) (v2 : Int32) (S : SS), K28 v0 v1 v2 S = some (r, S') → AW p l e R s m args below meth c dC dI cs ad A D0 (some (.int r)) S' 5 28 [(0, .ref (ad 67)), (1, .int v0), (3, .int v1), (4, .int v2)] [] S) (x1 : Int32) (x3 : Int32) (x4 : Int32) (S : SS) (h : f_Routes_freeAll_j73 K28 x1 x3 x4 S = some (r, S')) : AW p l e R s m args below meth c dC dI cs ad A D0 (some (.int r)) S' 5 73 [(0, .ref (ad 67)), (1, .int x1), (3, .int x3), (4, .int x4)] [] S := by
  have hx := F.1.1
  have hb := F.1.2.1
  intro H locs ls w hl
  rw [f_Routes_freeAll_j73] at h
  refine s_nm h (fun z7 ez7 h => ?_)
  refine lv_iinc (pc := 73) (v := z7) (lv' := [(4, .int z7), (0, .ref (ad 67)), (1, .int x1), (3, .int x3)]) hx hb dX6_freeAll_73 hl (k := 3) rfl (by rw [ez7]; rfl) (by decide) rfl (fun ls hl => ?_)
  refine lv_goto (pc := 76) (tgt := 28) hx hb dX6_freeAll_76 (by decide) ?_
  exact hK28 _ _ _ _ h _ _ _ w (lv_sub hl [1, 2, 3, 0] rfl)
set_option maxRecDepth 100000 in
set_option maxHeartbeats 4000000 in
theorem w_Routes_freeAll_L28 {p : Program} {l : Launch} {e : Env} {R : Room} {s : State} {m : MethodId} {args : Array Value} {below : List Frame} {meth : Method} {c : Code} {dC : Nat → ClassId} {dI : Nat → Nat → Nat} {cs : Nat → ClassId} {ad : Nat → Nat} {A : Nat → Prop} {D0 : Nat → Nat} {S' : SS} {r : Int32} (F : Fx p s m args meth c cX6_freeAll 5 RX6 (some .int) dC dI cs A) (hR1 : 1 ≤ R.frames) (hR2 : 23 ≤ R.locals) : ∀ (n : Nat) (x1 : Int32) (x3 : Int32) (x4 : Int32) (S : SS), f_Routes_freeAll_L28 n x1 x3 x4 S = some (r, S') → AW p l e R s m args below meth c dC dI cs ad A D0 (some (.int r)) S' 5 28 [(0, .ref (ad 67)), (1, .int x1), (3, .int x3), (4, .int x4)] [] S := by
  have hx := F.1.1
  have hb := F.1.2.1
  intro n
  induction n with
  | zero => intro x1 x3 x4 S h; cases h
  | succ n ih =>
    intro x1 x3 x4 S h H locs ls w hl
    rw [f_Routes_freeAll_L28] at h
    refine lv_iload (pc := 28) hx hb dX6_freeAll_28 (lv_at hl 3 rfl) ?_
    refine lv_aload_n (pc := 30) hx hb dX6_freeAll_30 rfl (lv_at hl 0 rfl) ?_
    refine s_getR (pc := 31) F w 66 ds_67 (j := 1) vc_X6 vi_X6 rfl (by decide) kf_X6_35 dX6_freeAll_31 ?_
    refine s_getI (pc := 34) F w ds_66 (j := 8) vc_X2 vi_X2 rfl (by decide) kf_X6_53 dX6_freeAll_34 ?_
    refine lv_icmp_ge (pc := 37) (tgt := 79) hx hb dX6_freeAll_37 (by decide) (fun q => ?_) (fun q => ?_)
    · have h := ite_t q h
      refine lv_iload_n (pc := 79) hx hb dX6_freeAll_79 rfl (lv_at hl 2 rfl) ?_
      exact s_iret F w h dX6_freeAll_80
    · have h := ite_f q h
      refine lv_aload_n (pc := 40) hx hb dX6_freeAll_40 rfl (lv_at hl 0 rfl) ?_
      refine s_getR (pc := 41) F w 63 ds_67 (j := 0) vc_X6 vi_X6 rfl (by decide) kf_X6_31 dX6_freeAll_41 ?_
      refine lv_iload (pc := 44) hx hb dX6_freeAll_44 (lv_at hl 3 rfl) ?_
      obtain ⟨r6, S5, hc, h⟩ := bnd_t h
      refine s_cvi (pc := 46) [.int x4] (fun ad => [.ref (ad 63), .int x4]) F w (m_State_locker _ _ _ _ hc) rfl rfl hl.1 ds_63 vc_X8 rfl ok_X8_locker rfl kc_X8_locker kl_X6_58 ki_X8_locker kv_X8_locker kn_X8 ⟨Nat.le_trans (by decide) hR1, Nat.le_trans (by decide) hR2⟩ ⟨Nat.zero_le _, Nat.zero_le _⟩ (Nat.le_of_ble_eq_true rfl) dX6_freeAll_46 (fun H locs w => ?_)
      refine lv_iload_n (pc := 49) hx hb dX6_freeAll_49 rfl (lv_at hl 1 rfl) ?_
      refine lv_icmp_ne (pc := 50) (tgt := 73) hx hb dX6_freeAll_50 (by decide) (fun q => ?_) (fun q => ?_)
      · have h := ite_f q h
        exact w_Routes_freeAll_j73 F (Nat.le_trans (by decide) hR1) (Nat.le_trans (by decide) hR2) _ (fun v0 v1 v2 S h => ih v0 v1 v2 S h) _ _ _ _ h _ _ _ w (lv_sub hl [0, 1, 2, 3] rfl)
      · have h := ite_t q h
        refine lv_aload_n (pc := 53) hx hb dX6_freeAll_53 rfl (lv_at hl 0 rfl) ?_
        refine s_getR (pc := 54) F w 63 ds_67 (j := 0) vc_X6 vi_X6 rfl (by decide) kf_X6_31 dX6_freeAll_54 ?_
        refine lv_iload (pc := 57) hx hb dX6_freeAll_57 (lv_at hl 3 rfl) ?_
        refine lv_aload_n (pc := 59) hx hb dX6_freeAll_59 rfl (lv_at hl 0 rfl) ?_
        refine s_getR (pc := 60) F w 63 ds_67 (j := 0) vc_X6 vi_X6 rfl (by decide) kf_X6_31 dX6_freeAll_60 ?_
        refine lv_iload (pc := 63) hx hb dX6_freeAll_63 (lv_at hl 3 rfl) ?_
        obtain ⟨r9, S8, hc, h⟩ := bnd_t h
        refine s_cvi (pc := 65) [.int x4] (fun ad => [.ref (ad 63), .int x4]) F w (m_State_setting _ _ _ _ hc) rfl rfl hl.1 ds_63 vc_X8 rfl ok_X8_setting rfl kc_X8_setting kl_X6_82 ki_X8_setting kv_X8_setting kn_X8 ⟨Nat.le_trans (by decide) hR1, Nat.le_trans (by decide) hR2⟩ ⟨Nat.zero_le _, Nat.zero_le _⟩ (Nat.le_of_ble_eq_true rfl) dX6_freeAll_65 (fun H locs w => ?_)
        refine lv_bipush (pc := 68) (v := -4) hx hb dX6_freeAll_68 (by decide) ?_
        obtain ⟨S10, hc, h⟩ := bndv_t h
        refine s_cvv (pc := 70) [.int x4, .int r9, .int (-4 : Int32)] (fun ad => [.ref (ad 63), .int x4, .int r9, .int (-4 : Int32)]) F w (m_State_setPoint _ _ _ _ _ hc) rfl rfl hl.1 ds_63 vc_X8 rfl ok_X8_setPoint rfl kc_X8_setPoint kl_X6_91 ki_X8_setPoint kv_X8_setPoint kn_X8 ⟨Nat.le_trans (by decide) hR1, Nat.le_trans (by decide) hR2⟩ ⟨Nat.zero_le _, Nat.zero_le _⟩ (Nat.le_of_ble_eq_true rfl) dX6_freeAll_70 (fun H locs w => ?_)
        exact w_Routes_freeAll_j73 F (Nat.le_trans (by decide) hR1) (Nat.le_trans (by decide) hR2) _ (fun v0 v1 v2 S h => ih v0 v1 v2 S h) _ _ _ _ h _ _ _ w (lv_sub hl [0, 1, 2, 3] rfl)
set_option maxRecDepth 100000 in
set_option maxHeartbeats 4000000 in
theorem m_Routes_freeAll (a1 : Int32) (S S' : SS) (r : Int32) (h : f_Routes_freeAll a1 S = some (r, S')) : MT yX6_freeAll cX6_freeAll 5 (some .int) 2 44 (fun ad => [.ref (ad 67), .int a1]) S (some (.int r)) S' := by
  refine MT.of RX6 (fun ad => [(0, .ref (ad 67)), (1, .int a1)]) (by decide) rfl (fun _ => Nat.le_of_ble_eq_true rfl) (fun _ => rfl) ?_
  intro p l e R s m args below meth c dC dI cs ad A hR1 hR2 F H locs ls w hl
  have hx := F.1.1
  have hb := F.1.2.1
  rw [f_Routes_freeAll] at h
  refine lv_aload_n (pc := 0) hx hb dX6_freeAll_0 rfl (lv_at hl 0 rfl) ?_
  refine lv_iload_n (pc := 1) hx hb dX6_freeAll_1 rfl (lv_at hl 1 rfl) ?_
  obtain ⟨r2, S1, hc, h⟩ := bnd_t h
  refine s_cvi (pc := 2) [.int a1] (fun ad => [.ref (ad 67), .int a1]) F w (m_Routes_routeFinding _ _ _ _ hc) rfl rfl hl.1 ds_67 vc_X6 rfl ok_X6_routeFinding rfl kc_X6_routeFinding kl_X6_111 ki_X6_routeFinding kv_X6_routeFinding kn_X6 ⟨Nat.le_trans (by decide) hR1, Nat.le_trans (by decide) hR2⟩ ⟨Nat.zero_le _, Nat.zero_le _⟩ (Nat.le_of_ble_eq_true rfl) dX6_freeAll_2 (fun H locs w => ?_)
  refine lv_istore_n (pc := 5) (lv' := [(2, .int r2), (0, .ref (ad 67)), (1, .int a1)]) hx hb dX6_freeAll_5 rfl hl (by decide) rfl (fun ls hl => ?_)
  refine lv_iload_n (pc := 6) hx hb dX6_freeAll_6 rfl (lv_at hl 0 rfl) ?_
  refine lv_if_eq (pc := 7) (tgt := 19) hx hb dX6_freeAll_7 (by decide) (fun q => ?_) (fun q => ?_)
  · have h := ite_t q h
    refine lv_aload_n (pc := 19) hx hb dX6_freeAll_19 rfl (lv_at hl 1 rfl) ?_
    refine lv_iload_n (pc := 20) hx hb dX6_freeAll_20 rfl (lv_at hl 2 rfl) ?_
    obtain ⟨r4, S3, hc, h⟩ := bnd_t h
    refine s_cvi (pc := 21) [.int a1] (fun ad => [.ref (ad 67), .int a1]) F w (m_Routes_lockedBy _ _ _ _ hc) rfl rfl hl.1 ds_67 vc_X6 rfl ok_X6_lockedBy rfl kc_X6_lockedBy kl_X6_47 ki_X6_lockedBy kv_X6_lockedBy kn_X6 ⟨Nat.le_trans (by decide) hR1, Nat.le_trans (by decide) hR2⟩ ⟨Nat.zero_le _, Nat.zero_le _⟩ (Nat.le_of_ble_eq_true rfl) dX6_freeAll_21 (fun H locs w => ?_)
    refine lv_istore_n (pc := 24) (lv' := [(3, .int r4), (2, .int r2), (0, .ref (ad 67)), (1, .int a1)]) hx hb dX6_freeAll_24 rfl hl (by decide) rfl (fun ls hl => ?_)
    refine lv_iconst (pc := 25) (v := 0) hx hb dX6_freeAll_25 (by decide) ?_
    refine lv_istore (pc := 26) (lv' := [(4, .int (0 : Int32)), (3, .int r4), (2, .int r2), (0, .ref (ad 67)), (1, .int a1)]) hx hb dX6_freeAll_26 hl (by decide) rfl (fun ls hl => ?_)
    exact w_Routes_freeAll_L28 F (Nat.le_trans (by decide) hR1) (Nat.le_trans (by decide) hR2) _ _ _ _ _ h _ _ _ w (lv_sub hl [3, 4, 1, 0] rfl)
  · have h := ite_f q h
    refine lv_aload_n (pc := 10) hx hb dX6_freeAll_10 rfl (lv_at hl 1 rfl) ?_
    refine s_getR (pc := 11) F w 62 ds_67 (j := 2) vc_X6 vi_X6 rfl (by decide) kf_X6_39 dX6_freeAll_11 ?_
    refine lv_iload_n (pc := 14) hx hb dX6_freeAll_14 rfl (lv_at hl 0 rfl) ?_
    obtain ⟨r12, S11, hc, h⟩ := bnd_t h
    refine s_cvi (pc := 15) [.int r2] (fun ad => [.ref (ad 62), .int r2]) F w (m_Report_found _ _ _ _ hc) rfl rfl hl.1 ds_62 vc_X5 rfl ok_X5_found rfl kc_X5_found kl_X6_88 ki_X5_found kv_X5_found kn_X5 ⟨Nat.le_trans (by decide) hR1, Nat.le_trans (by decide) hR2⟩ ⟨Nat.zero_le _, Nat.zero_le _⟩ (Nat.le_of_ble_eq_true rfl) dX6_freeAll_15 (fun H locs w => ?_)
    exact s_iret F w h dX6_freeAll_18
def f_Yard_free (a1 : Int32) (S : SS) : Option (Int32 × SS) :=
  bndv (f_Yard_beginAct  S) (fun S1 =>
  bnd (f_Routes_freeAll a1 S1) (fun r3 S2 =>
  bnd (f_Yard_endAct (5 : Int32) r3 S2) (fun r5 S4 =>
  some (r5, S4))))
theorem dX11_free_0 : decode cX11_free 0 = .ok (.aload_n 0, 1) := dc_42 (by decide +kernel)
theorem dX11_free_1 : decode cX11_free 1 = .ok (.invokevirtual 199, 3) := dc_182 (a := 0) (b := 199) (by decide +kernel)
theorem dX11_free_4 : decode cX11_free 4 = .ok (.aload_n 0, 1) := dc_42 (by decide +kernel)
theorem dX11_free_5 : decode cX11_free 5 = .ok (.iconst 5, 1) := dc_8 (by decide +kernel)
theorem dX11_free_6 : decode cX11_free 6 = .ok (.aload_n 0, 1) := dc_42 (by decide +kernel)
theorem dX11_free_7 : decode cX11_free 7 = .ok (.getfield 51, 3) := dc_180 (a := 0) (b := 51) (by decide +kernel)
theorem dX11_free_10 : decode cX11_free 10 = .ok (.iload_n 1, 1) := dc_27 (by decide +kernel)
theorem dX11_free_11 : decode cX11_free 11 = .ok (.invokevirtual 217, 3) := dc_182 (a := 0) (b := 217) (by decide +kernel)
theorem dX11_free_14 : decode cX11_free 14 = .ok (.invokevirtual 205, 3) := dc_182 (a := 0) (b := 205) (by decide +kernel)
theorem dX11_free_17 : decode cX11_free 17 = .ok (.ireturn, 1) := dc_172 (by decide +kernel)
set_option maxRecDepth 100000 in
set_option maxHeartbeats 4000000 in
theorem m_Yard_free (a1 : Int32) (S S' : SS) (r : Int32) (h : f_Yard_free a1 S = some (r, S')) : MT yX11_free cX11_free 2 (some .int) 3 81 (fun ad => [.ref (ad 61), .int a1]) S (some (.int r)) S' := by
  refine MT.of RX11 (fun ad => [(0, .ref (ad 61)), (1, .int a1)]) (by decide) rfl (fun _ => Nat.le_of_ble_eq_true rfl) (fun _ => rfl) ?_
  intro p l e R s m args below meth c dC dI cs ad A hR1 hR2 F H locs ls w hl
  have hx := F.1.1
  have hb := F.1.2.1
  rw [f_Yard_free] at h
  refine lv_aload_n (pc := 0) hx hb dX11_free_0 rfl (lv_at hl 0 rfl) ?_
  obtain ⟨S1, hc, h⟩ := bndv_t h
  refine s_cvv (pc := 1) [] (fun ad => [.ref (ad 61)]) F w (m_Yard_beginAct  _ _ hc) rfl rfl hl.1 ds_61 vc_X11 rfl ok_X11_beginAct rfl kc_X11_beginAct kl_X11_199 ki_X11_beginAct kv_X11_beginAct kn_X11 ⟨Nat.le_trans (by decide) hR1, Nat.le_trans (by decide) hR2⟩ ⟨Nat.zero_le _, Nat.zero_le _⟩ (Nat.le_of_ble_eq_true rfl) dX11_free_1 (fun H locs w => ?_)
  refine lv_aload_n (pc := 4) hx hb dX11_free_4 rfl (lv_at hl 0 rfl) ?_
  refine lv_iconst (pc := 5) (v := 5) hx hb dX11_free_5 (by decide) ?_
  refine lv_aload_n (pc := 6) hx hb dX11_free_6 rfl (lv_at hl 0 rfl) ?_
  refine s_getR (pc := 7) F w 67 ds_61 (j := 5) vc_X11 vi_X11 rfl (by decide) kf_X11_51 dX11_free_7 ?_
  refine lv_iload_n (pc := 10) hx hb dX11_free_10 rfl (lv_at hl 1 rfl) ?_
  obtain ⟨r3, S2, hc, h⟩ := bnd_t h
  refine s_cvi (pc := 11) [.int a1] (fun ad => [.ref (ad 67), .int a1]) F w (m_Routes_freeAll _ _ _ _ hc) rfl rfl hl.1 ds_67 vc_X6 rfl ok_X6_freeAll rfl kc_X6_freeAll kl_X11_217 ki_X6_freeAll kv_X6_freeAll kn_X6 ⟨Nat.le_trans (by decide) hR1, Nat.le_trans (by decide) hR2⟩ ⟨Nat.zero_le _, Nat.zero_le _⟩ (Nat.le_of_ble_eq_true rfl) dX11_free_11 (fun H locs w => ?_)
  obtain ⟨r5, S4, hc, h⟩ := bnd_t h
  refine s_cvi (pc := 14) [.int (5 : Int32), .int r3] (fun ad => [.ref (ad 61), .int (5 : Int32), .int r3]) F w (m_Yard_endAct _ _ _ _ _ hc) rfl rfl hl.1 ds_61 vc_X11 rfl ok_X11_endAct rfl kc_X11_endAct kl_X11_205 ki_X11_endAct kv_X11_endAct kn_X11 ⟨Nat.le_trans (by decide) hR1, Nat.le_trans (by decide) hR2⟩ ⟨Nat.zero_le _, Nat.zero_le _⟩ (Nat.le_of_ble_eq_true rfl) dX11_free_14 (fun H locs w => ?_)
  exact s_iret F w h dX11_free_17
def f_Yard_namedSide (a1 : Int32) (a2 : Int32) (a3 : Int32) (S : SS) : Option (Int32 × SS) :=
  bnd (f_Yard_named a1 a2 S) (fun r2 S1 =>
  if r2 = 0 then
    bnd (f_Yard_isNot a3 (0 : Int32) (1 : Int32) S1) (fun r4 S3 =>
    if r4 = 0 then
      some (r2, S3)
    else
      some ((3 : Int32), S3))
  else
    some (r2, S1))
theorem dX11_namedSide_0 : decode cX11_namedSide 0 = .ok (.aload_n 0, 1) := dc_42 (by decide +kernel)
theorem dX11_namedSide_1 : decode cX11_namedSide 1 = .ok (.iload_n 1, 1) := dc_27 (by decide +kernel)
theorem dX11_namedSide_2 : decode cX11_namedSide 2 = .ok (.iload_n 2, 1) := dc_28 (by decide +kernel)
theorem dX11_namedSide_3 : decode cX11_namedSide 3 = .ok (.invokevirtual 185, 3) := dc_182 (a := 0) (b := 185) (by decide +kernel)
theorem dX11_namedSide_6 : decode cX11_namedSide 6 = .ok (.istore 4, 2) := dc_54 (a := 4) (by decide +kernel)
theorem dX11_namedSide_8 : decode cX11_namedSide 8 = .ok (.iload 4, 2) := dc_21 (a := 4) (by decide +kernel)
theorem dX11_namedSide_10 : decode cX11_namedSide 10 = .ok (.ifCond .ne 14, 3) := dc_154 (a := 0) (b := 14) (by decide +kernel) (by decide)
theorem dX11_namedSide_13 : decode cX11_namedSide 13 = .ok (.iload_n 3, 1) := dc_29 (by decide +kernel)
theorem dX11_namedSide_14 : decode cX11_namedSide 14 = .ok (.iconst 0, 1) := dc_3 (by decide +kernel)
theorem dX11_namedSide_15 : decode cX11_namedSide 15 = .ok (.iconst 1, 1) := dc_4 (by decide +kernel)
theorem dX11_namedSide_16 : decode cX11_namedSide 16 = .ok (.invokestatic 108, 3) := dc_184 (a := 0) (b := 108) (by decide +kernel)
theorem dX11_namedSide_19 : decode cX11_namedSide 19 = .ok (.ifCond .eq 5, 3) := dc_153 (a := 0) (b := 5) (by decide +kernel) (by decide)
theorem dX11_namedSide_22 : decode cX11_namedSide 22 = .ok (.iconst 3, 1) := dc_6 (by decide +kernel)
theorem dX11_namedSide_23 : decode cX11_namedSide 23 = .ok (.ireturn, 1) := dc_172 (by decide +kernel)
theorem dX11_namedSide_24 : decode cX11_namedSide 24 = .ok (.iload 4, 2) := dc_21 (a := 4) (by decide +kernel)
theorem dX11_namedSide_26 : decode cX11_namedSide 26 = .ok (.ireturn, 1) := dc_172 (by decide +kernel)
set_option maxRecDepth 100000 in
set_option maxHeartbeats 4000000 in
theorem m_Yard_namedSide (a1 : Int32) (a2 : Int32) (a3 : Int32) (S S' : SS) (r : Int32) (h : f_Yard_namedSide a1 a2 a3 S = some (r, S')) : MT yX11_namedSide cX11_namedSide 5 (some .int) 3 67 (fun ad => [.ref (ad 61), .int a1, .int a2, .int a3]) S (some (.int r)) S' := by
  refine MT.of RX11 (fun ad => [(0, .ref (ad 61)), (1, .int a1), (2, .int a2), (3, .int a3)]) (by decide) rfl (fun _ => Nat.le_of_ble_eq_true rfl) (fun _ => rfl) ?_
  intro p l e R s m args below meth c dC dI cs ad A hR1 hR2 F H locs ls w hl
  have hx := F.1.1
  have hb := F.1.2.1
  rw [f_Yard_namedSide] at h
  refine lv_aload_n (pc := 0) hx hb dX11_namedSide_0 rfl (lv_at hl 0 rfl) ?_
  refine lv_iload_n (pc := 1) hx hb dX11_namedSide_1 rfl (lv_at hl 1 rfl) ?_
  refine lv_iload_n (pc := 2) hx hb dX11_namedSide_2 rfl (lv_at hl 2 rfl) ?_
  obtain ⟨r2, S1, hc, h⟩ := bnd_t h
  refine s_cvi (pc := 3) [.int a1, .int a2] (fun ad => [.ref (ad 61), .int a1, .int a2]) F w (m_Yard_named _ _ _ _ _ hc) rfl rfl hl.1 ds_61 vc_X11 rfl ok_X11_named rfl kc_X11_named kl_X11_185 ki_X11_named kv_X11_named kn_X11 ⟨Nat.le_trans (by decide) hR1, Nat.le_trans (by decide) hR2⟩ ⟨Nat.zero_le _, Nat.zero_le _⟩ (Nat.le_of_ble_eq_true rfl) dX11_namedSide_3 (fun H locs w => ?_)
  refine lv_istore (pc := 6) (lv' := [(4, .int r2), (0, .ref (ad 61)), (1, .int a1), (2, .int a2), (3, .int a3)]) hx hb dX11_namedSide_6 hl (by decide) rfl (fun ls hl => ?_)
  refine lv_iload (pc := 8) hx hb dX11_namedSide_8 (lv_at hl 0 rfl) ?_
  refine lv_if_ne (pc := 10) (tgt := 24) hx hb dX11_namedSide_10 (by decide) (fun q => ?_) (fun q => ?_)
  · have h := ite_f q h
    refine lv_iload (pc := 24) hx hb dX11_namedSide_24 (lv_at hl 0 rfl) ?_
    exact s_iret F w h dX11_namedSide_26
  · have h := ite_t q h
    refine lv_iload_n (pc := 13) hx hb dX11_namedSide_13 rfl (lv_at hl 4 rfl) ?_
    refine lv_iconst (pc := 14) (v := 0) hx hb dX11_namedSide_14 (by decide) ?_
    refine lv_iconst (pc := 15) (v := 1) hx hb dX11_namedSide_15 (by decide) ?_
    obtain ⟨r4, S3, hc, h⟩ := bnd_t h
    refine s_csi (pc := 16) [.int a3, .int (0 : Int32), .int (1 : Int32)] (fun ad => [.int a3, .int (0 : Int32), .int (1 : Int32)]) F w (m_Yard_isNot _ _ _ _ _ _ hc) rfl rfl hl.1 ok_X11_isNot rfl kc_X11_isNot kl_X11_108 ks_X11_isNot kn_X11 ⟨Nat.le_trans (by decide) hR1, Nat.le_trans (by decide) hR2⟩ ⟨Nat.zero_le _, Nat.zero_le _⟩ (Nat.le_of_ble_eq_true rfl) dX11_namedSide_16 (fun H locs w => ?_)
    refine lv_if_eq (pc := 19) (tgt := 24) hx hb dX11_namedSide_19 (by decide) (fun q => ?_) (fun q => ?_)
    · have h := ite_t q h
      refine lv_iload (pc := 24) hx hb dX11_namedSide_24 (lv_at hl 0 rfl) ?_
      exact s_iret F w h dX11_namedSide_26
    · have h := ite_f q h
      refine lv_iconst (pc := 22) (v := 3) hx hb dX11_namedSide_22 (by decide) ?_
      exact s_iret F w h dX11_namedSide_23
