/-! ===== printed by wip/gen: Stacks_put_start Stacks_wagonAt_goal Stacks_placeOn_goal Stacks_stackOf_goal Stacks_put_goal Plans_put Yard_lay Stacks_members_start Integer_bitCount_0f7a4 Arrays_fill_53178_start_heights Stacks_empty_start Arrays_fill_53178_goal_heights Stacks_empty_goal Plans_drop Plans_clear Yard_wipe Plans_moveAt Yard_move Stacks_members_goal Plans_haveSameWagons Stacks_below_start Stacks_below_goal Plans_countMoved Yard_bound ===== -/
def f_Stacks_put_start (a1 : Int32) (a2 : Int32) (S : SS) : Option (SS) :=
  if a1 < 0 then
    some S
  else
    if (4 : Int32) ≤ a1 then
      some S
    else
      grd (inb a1 4) (
      if (10 : Int32) ≤ (S.1 123 a1.toNatClampNeg) then
        some S
      else
        grd (inb a1 4) (
        grd (inb (((10 : Int32) * a1) + (S.1 123 a1.toNatClampNeg)) 40) (wr S 122 (((10 : Int32) * a1) + (S.1 123 a1.toNatClampNeg)).toNatClampNeg a2 (fun S1 =>
        grd (inb a1 4) (
        grd (inb a1 4) (wr S1 123 a1.toNatClampNeg ((S1.1 123 a1.toNatClampNeg) + (1 : Int32)) (fun S2 =>
        some S2)))))))
theorem dX7_put_0 : decode cX7_put 0 = .ok (.iload_n 1, 1) := dc_27 (by decide +kernel)
theorem dX7_put_1 : decode cX7_put 1 = .ok (.ifCond .lt 46, 3) := dc_155 (a := 0) (b := 46) (by decide +kernel) (by decide)
theorem dX7_put_4 : decode cX7_put 4 = .ok (.iload_n 1, 1) := dc_27 (by decide +kernel)
theorem dX7_put_5 : decode cX7_put 5 = .ok (.iconst 4, 1) := dc_7 (by decide +kernel)
theorem dX7_put_6 : decode cX7_put 6 = .ok (.if_icmp .ge 41, 3) := dc_162 (a := 0) (b := 41) (by decide +kernel) (by decide)
theorem dX7_put_9 : decode cX7_put 9 = .ok (.aload_n 0, 1) := dc_42 (by decide +kernel)
theorem dX7_put_10 : decode cX7_put 10 = .ok (.getfield 15, 3) := dc_180 (a := 0) (b := 15) (by decide +kernel)
theorem dX7_put_13 : decode cX7_put 13 = .ok (.iload_n 1, 1) := dc_27 (by decide +kernel)
theorem dX7_put_14 : decode cX7_put 14 = .ok (.iaload, 1) := dc_46 (by decide +kernel)
theorem dX7_put_15 : decode cX7_put 15 = .ok (.bipush 10, 2) := dc_16 (a := 10) (by decide +kernel) (by decide)
theorem dX7_put_17 : decode cX7_put 17 = .ok (.if_icmp .ge 30, 3) := dc_162 (a := 0) (b := 30) (by decide +kernel) (by decide)
theorem dX7_put_20 : decode cX7_put 20 = .ok (.aload_n 0, 1) := dc_42 (by decide +kernel)
theorem dX7_put_21 : decode cX7_put 21 = .ok (.getfield 11, 3) := dc_180 (a := 0) (b := 11) (by decide +kernel)
theorem dX7_put_24 : decode cX7_put 24 = .ok (.bipush 10, 2) := dc_16 (a := 10) (by decide +kernel) (by decide)
theorem dX7_put_26 : decode cX7_put 26 = .ok (.iload_n 1, 1) := dc_27 (by decide +kernel)
theorem dX7_put_27 : decode cX7_put 27 = .ok (.imul, 1) := dc_104 (by decide +kernel)
theorem dX7_put_28 : decode cX7_put 28 = .ok (.aload_n 0, 1) := dc_42 (by decide +kernel)
theorem dX7_put_29 : decode cX7_put 29 = .ok (.getfield 15, 3) := dc_180 (a := 0) (b := 15) (by decide +kernel)
theorem dX7_put_32 : decode cX7_put 32 = .ok (.iload_n 1, 1) := dc_27 (by decide +kernel)
theorem dX7_put_33 : decode cX7_put 33 = .ok (.iaload, 1) := dc_46 (by decide +kernel)
theorem dX7_put_34 : decode cX7_put 34 = .ok (.iadd, 1) := dc_96 (by decide +kernel)
theorem dX7_put_35 : decode cX7_put 35 = .ok (.iload_n 2, 1) := dc_28 (by decide +kernel)
theorem dX7_put_36 : decode cX7_put 36 = .ok (.iastore, 1) := dc_79 (by decide +kernel)
theorem dX7_put_37 : decode cX7_put 37 = .ok (.aload_n 0, 1) := dc_42 (by decide +kernel)
theorem dX7_put_38 : decode cX7_put 38 = .ok (.getfield 15, 3) := dc_180 (a := 0) (b := 15) (by decide +kernel)
theorem dX7_put_41 : decode cX7_put 41 = .ok (.iload_n 1, 1) := dc_27 (by decide +kernel)
theorem dX7_put_42 : decode cX7_put 42 = .ok (.dup2, 1) := dc_92 (by decide +kernel)
theorem dX7_put_43 : decode cX7_put 43 = .ok (.iaload, 1) := dc_46 (by decide +kernel)
theorem dX7_put_44 : decode cX7_put 44 = .ok (.iconst 1, 1) := dc_4 (by decide +kernel)
theorem dX7_put_45 : decode cX7_put 45 = .ok (.iadd, 1) := dc_96 (by decide +kernel)
theorem dX7_put_46 : decode cX7_put 46 = .ok (.iastore, 1) := dc_79 (by decide +kernel)
theorem dX7_put_47 : decode cX7_put 47 = .ok (.return_, 1) := dc_177 (by decide +kernel)
set_option maxRecDepth 100000 in
set_option maxHeartbeats 4000000 in
theorem m_Stacks_put_start (a1 : Int32) (a2 : Int32) (S S' : SS) (h : f_Stacks_put_start a1 a2 S = some S') : MT yX7_put cX7_put 3 none 0 0 (fun ad => [.ref (ad 72), .int a1, .int a2]) S none S' := by
  refine MT.of RX7 (fun ad => [(0, .ref (ad 72)), (1, .int a1), (2, .int a2)]) (by decide) rfl (fun _ => Nat.le_of_ble_eq_true rfl) (fun _ => rfl) ?_
  intro p l e R s m args below meth c dC dI cs ad A hR1 hR2 F H locs ls w hl
  have hx := F.1.1
  have hb := F.1.2.1
  rw [f_Stacks_put_start] at h
  refine lv_iload_n (pc := 0) hx hb dX7_put_0 rfl (lv_at hl 1 rfl) ?_
  refine lv_if_lt (pc := 1) (tgt := 47) hx hb dX7_put_1 (by decide) (fun q => ?_) (fun q => ?_)
  · have h := ite_t q h
    exact s_vret F w h dX7_put_47
  · have h := ite_f q h
    refine lv_iload_n (pc := 4) hx hb dX7_put_4 rfl (lv_at hl 1 rfl) ?_
    refine lv_iconst (pc := 5) (v := 4) hx hb dX7_put_5 (by decide) ?_
    refine lv_icmp_ge (pc := 6) (tgt := 47) hx hb dX7_put_6 (by decide) (fun q => ?_) (fun q => ?_)
    · have h := ite_t q h
      exact s_vret F w h dX7_put_47
    · have h := ite_f q h
      refine lv_aload_n (pc := 9) hx hb dX7_put_9 rfl (lv_at hl 0 rfl) ?_
      refine s_getR (pc := 10) F w 123 ds_72 (j := 1) vc_X7 vi_X7 rfl (by decide) kf_X7_15 dX7_put_10 ?_
      refine lv_iload_n (pc := 13) hx hb dX7_put_13 rfl (lv_at hl 1 rfl) ?_
      refine s_iald (pc := 14) F w ds_123 h dX7_put_14 (fun h => ?_)
      refine lv_bipush (pc := 15) (v := 10) hx hb dX7_put_15 (by decide) ?_
      refine lv_icmp_ge (pc := 17) (tgt := 47) hx hb dX7_put_17 (by decide) (fun q => ?_) (fun q => ?_)
      · have h := ite_t q h
        exact s_vret F w h dX7_put_47
      · have h := ite_f q h
        refine lv_aload_n (pc := 20) hx hb dX7_put_20 rfl (lv_at hl 0 rfl) ?_
        refine s_getR (pc := 21) F w 122 ds_72 (j := 0) vc_X7 vi_X7 rfl (by decide) kf_X7_11 dX7_put_21 ?_
        refine lv_bipush (pc := 24) (v := 10) hx hb dX7_put_24 (by decide) ?_
        refine lv_iload_n (pc := 26) hx hb dX7_put_26 rfl (lv_at hl 1 rfl) ?_
        refine lv_imul (pc := 27) hx hb dX7_put_27 ?_
        refine lv_aload_n (pc := 28) hx hb dX7_put_28 rfl (lv_at hl 0 rfl) ?_
        refine s_getR (pc := 29) F w 123 ds_72 (j := 1) vc_X7 vi_X7 rfl (by decide) kf_X7_15 dX7_put_29 ?_
        refine lv_iload_n (pc := 32) hx hb dX7_put_32 rfl (lv_at hl 1 rfl) ?_
        refine s_iald (pc := 33) F w ds_123 h dX7_put_33 (fun h => ?_)
        refine lv_iadd (pc := 34) hx hb dX7_put_34 ?_
        refine lv_iload_n (pc := 35) hx hb dX7_put_35 rfl (lv_at hl 2 rfl) ?_
        refine s_iast (pc := 36) F w ds_122 h dX7_put_36 (fun S1 H locs h w => ?_)
        refine lv_aload_n (pc := 37) hx hb dX7_put_37 rfl (lv_at hl 0 rfl) ?_
        refine s_getR (pc := 38) F w 123 ds_72 (j := 1) vc_X7 vi_X7 rfl (by decide) kf_X7_15 dX7_put_38 ?_
        refine lv_iload_n (pc := 41) hx hb dX7_put_41 rfl (lv_at hl 1 rfl) ?_
        refine lv_dup2_11 (pc := 42) hx hb dX7_put_42 rfl rfl ?_
        refine s_iald (pc := 43) F w ds_123 h dX7_put_43 (fun h => ?_)
        refine lv_iconst (pc := 44) (v := 1) hx hb dX7_put_44 (by decide) ?_
        refine lv_iadd (pc := 45) hx hb dX7_put_45 ?_
        refine s_iast (pc := 46) F w ds_123 h dX7_put_46 (fun S2 H locs h w => ?_)
        exact s_vret F w h dX7_put_47
def f_Stacks_wagonAt_goal_j28  (x1 : Int32) (x2 : Int32) (y0 : Int32) (S : SS) : Option (Int32 × SS) :=
    if y0 = 0 then
      some ((-4 : Int32), S)
    else
      grd (inb (((10 : Int32) * x1) + x2) 40) (
      some (S.1 124 (((10 : Int32) * x1) + x2).toNatClampNeg, S))
def f_Stacks_wagonAt_goal_j27  (x1 : Int32) (x2 : Int32) (S : SS) : Option (Int32 × SS) :=
    f_Stacks_wagonAt_goal_j28 x1 x2 (0 : Int32) S
def f_Stacks_wagonAt_goal (a1 : Int32) (a2 : Int32) (S : SS) : Option (Int32 × SS) :=
  if a1 < 0 then
    f_Stacks_wagonAt_goal_j27 a1 a2 S
  else
    if (4 : Int32) ≤ a1 then
      f_Stacks_wagonAt_goal_j27 a1 a2 S
    else
      if a2 < 0 then
        f_Stacks_wagonAt_goal_j27 a1 a2 S
      else
        grd (inb a1 4) (
        if (S.1 125 a1.toNatClampNeg) ≤ a2 then
          f_Stacks_wagonAt_goal_j27 a1 a2 S
        else
          f_Stacks_wagonAt_goal_j28 a1 a2 (1 : Int32) S)
set_option maxRecDepth 100000 in
set_option maxHeartbeats 4000000 in
theorem w_Stacks_wagonAt_goal_j28 {p : Program} {l : Launch} {e : Env} {R : Room} {s : State} {m : MethodId} {args : Array Value} {below : List Frame} {meth : Method} {c : Code} {dC : Nat → ClassId} {dI : Nat → Nat → Nat} {cs : Nat → ClassId} {ad : Nat → Nat} {A : Nat → Prop} {D0 : Nat → Nat} {S' : SS} {r : Int32} (F : Fx p s m args meth c cX7_wagonAt 4 RX7 (some .int) dC dI cs A) (hR1 : 0 ≤ R.frames) (hR2 : 0 ≤ R.locals) (x1 : Int32) (x2 : Int32) (y0 : Int32) (S : SS) (h : f_Stacks_wagonAt_goal_j28 x1 x2 y0 S = some (r, S')) : AW p l e R s m args below meth c dC dI cs ad A D0 (some (.int r)) S' 4 28 [(0, .ref (ad 73)), (1, .int x1), (2, .int x2)] [.int y0] S := by
  have hx := F.1.1
  have hb := F.1.2.1
  intro H locs ls w hl
  rw [f_Stacks_wagonAt_goal_j28] at h
  refine lv_istore_n (pc := 28) (lv' := [(3, .int y0), (0, .ref (ad 73)), (1, .int x1), (2, .int x2)]) hx hb dX7_wagonAt_28 rfl hl (by decide) rfl (fun ls hl => ?_)
  refine lv_iload_n (pc := 29) hx hb dX7_wagonAt_29 rfl (lv_at hl 0 rfl) ?_
  refine lv_if_eq (pc := 30) (tgt := 47) hx hb dX7_wagonAt_30 (by decide) (fun q => ?_) (fun q => ?_)
  · have h := ite_t q h
    refine lv_bipush (pc := 47) (v := -4) hx hb dX7_wagonAt_47 (by decide) ?_
    exact s_iret F w h dX7_wagonAt_49
  · have h := ite_f q h
    refine lv_aload_n (pc := 33) hx hb dX7_wagonAt_33 rfl (lv_at hl 1 rfl) ?_
    refine s_getR (pc := 34) F w 124 ds_73 (j := 0) vc_X7 vi_X7 rfl (by decide) kf_X7_11 dX7_wagonAt_34 ?_
    refine lv_bipush (pc := 37) (v := 10) hx hb dX7_wagonAt_37 (by decide) ?_
    refine lv_iload_n (pc := 39) hx hb dX7_wagonAt_39 rfl (lv_at hl 2 rfl) ?_
    refine lv_imul (pc := 40) hx hb dX7_wagonAt_40 ?_
    refine lv_iload_n (pc := 41) hx hb dX7_wagonAt_41 rfl (lv_at hl 3 rfl) ?_
    refine lv_iadd (pc := 42) hx hb dX7_wagonAt_42 ?_
    refine s_iald (pc := 43) F w ds_124 h dX7_wagonAt_43 (fun h => ?_)
    refine lv_goto (pc := 44) (tgt := 49) hx hb dX7_wagonAt_44 (by decide) ?_
    exact s_iret F w h dX7_wagonAt_49
set_option maxRecDepth 100000 in
set_option maxHeartbeats 4000000 in
theorem w_Stacks_wagonAt_goal_j27 {p : Program} {l : Launch} {e : Env} {R : Room} {s : State} {m : MethodId} {args : Array Value} {below : List Frame} {meth : Method} {c : Code} {dC : Nat → ClassId} {dI : Nat → Nat → Nat} {cs : Nat → ClassId} {ad : Nat → Nat} {A : Nat → Prop} {D0 : Nat → Nat} {S' : SS} {r : Int32} (F : Fx p s m args meth c cX7_wagonAt 4 RX7 (some .int) dC dI cs A) (hR1 : 0 ≤ R.frames) (hR2 : 0 ≤ R.locals) (x1 : Int32) (x2 : Int32) (S : SS) (h : f_Stacks_wagonAt_goal_j27 x1 x2 S = some (r, S')) : AW p l e R s m args below meth c dC dI cs ad A D0 (some (.int r)) S' 4 27 [(0, .ref (ad 73)), (1, .int x1), (2, .int x2)] [] S := by
  have hx := F.1.1
  have hb := F.1.2.1
  intro H locs ls w hl
  rw [f_Stacks_wagonAt_goal_j27] at h
  refine lv_iconst (pc := 27) (v := 0) hx hb dX7_wagonAt_27 (by decide) ?_
  exact w_Stacks_wagonAt_goal_j28 F (Nat.le_trans (by decide) hR1) (Nat.le_trans (by decide) hR2) _ _ _ _ h _ _ _ w (lv_sub hl [0, 1, 2] rfl)
set_option maxRecDepth 100000 in
set_option maxHeartbeats 4000000 in
theorem m_Stacks_wagonAt_goal (a1 : Int32) (a2 : Int32) (S S' : SS) (r : Int32) (h : f_Stacks_wagonAt_goal a1 a2 S = some (r, S')) : MT yX7_wagonAt cX7_wagonAt 4 (some .int) 0 0 (fun ad => [.ref (ad 73), .int a1, .int a2]) S (some (.int r)) S' := by
  refine MT.of RX7 (fun ad => [(0, .ref (ad 73)), (1, .int a1), (2, .int a2)]) (by decide) rfl (fun _ => Nat.le_of_ble_eq_true rfl) (fun _ => rfl) ?_
  intro p l e R s m args below meth c dC dI cs ad A hR1 hR2 F H locs ls w hl
  have hx := F.1.1
  have hb := F.1.2.1
  rw [f_Stacks_wagonAt_goal] at h
  refine lv_iload_n (pc := 0) hx hb dX7_wagonAt_0 rfl (lv_at hl 1 rfl) ?_
  refine lv_if_lt (pc := 1) (tgt := 27) hx hb dX7_wagonAt_1 (by decide) (fun q => ?_) (fun q => ?_)
  · have h := ite_t q h
    exact w_Stacks_wagonAt_goal_j27 F (Nat.le_trans (by decide) hR1) (Nat.le_trans (by decide) hR2) _ _ _ h _ _ _ w (lv_sub hl [0, 1, 2] rfl)
  · have h := ite_f q h
    refine lv_iload_n (pc := 4) hx hb dX7_wagonAt_4 rfl (lv_at hl 1 rfl) ?_
    refine lv_iconst (pc := 5) (v := 4) hx hb dX7_wagonAt_5 (by decide) ?_
    refine lv_icmp_ge (pc := 6) (tgt := 27) hx hb dX7_wagonAt_6 (by decide) (fun q => ?_) (fun q => ?_)
    · have h := ite_t q h
      exact w_Stacks_wagonAt_goal_j27 F (Nat.le_trans (by decide) hR1) (Nat.le_trans (by decide) hR2) _ _ _ h _ _ _ w (lv_sub hl [0, 1, 2] rfl)
    · have h := ite_f q h
      refine lv_iload_n (pc := 9) hx hb dX7_wagonAt_9 rfl (lv_at hl 2 rfl) ?_
      refine lv_if_lt (pc := 10) (tgt := 27) hx hb dX7_wagonAt_10 (by decide) (fun q => ?_) (fun q => ?_)
      · have h := ite_t q h
        exact w_Stacks_wagonAt_goal_j27 F (Nat.le_trans (by decide) hR1) (Nat.le_trans (by decide) hR2) _ _ _ h _ _ _ w (lv_sub hl [0, 1, 2] rfl)
      · have h := ite_f q h
        refine lv_iload_n (pc := 13) hx hb dX7_wagonAt_13 rfl (lv_at hl 2 rfl) ?_
        refine lv_aload_n (pc := 14) hx hb dX7_wagonAt_14 rfl (lv_at hl 0 rfl) ?_
        refine s_getR (pc := 15) F w 125 ds_73 (j := 1) vc_X7 vi_X7 rfl (by decide) kf_X7_15 dX7_wagonAt_15 ?_
        refine lv_iload_n (pc := 18) hx hb dX7_wagonAt_18 rfl (lv_at hl 1 rfl) ?_
        refine s_iald (pc := 19) F w ds_125 h dX7_wagonAt_19 (fun h => ?_)
        refine lv_icmp_ge (pc := 20) (tgt := 27) hx hb dX7_wagonAt_20 (by decide) (fun q => ?_) (fun q => ?_)
        · have h := ite_t q h
          exact w_Stacks_wagonAt_goal_j27 F (Nat.le_trans (by decide) hR1) (Nat.le_trans (by decide) hR2) _ _ _ h _ _ _ w (lv_sub hl [0, 1, 2] rfl)
        · have h := ite_f q h
          refine lv_iconst (pc := 23) (v := 1) hx hb dX7_wagonAt_23 (by decide) ?_
          refine lv_goto (pc := 24) (tgt := 28) hx hb dX7_wagonAt_24 (by decide) ?_
          exact w_Stacks_wagonAt_goal_j28 F (Nat.le_trans (by decide) hR1) (Nat.le_trans (by decide) hR2) _ _ _ _ h _ _ _ w (lv_sub hl [0, 1, 2] rfl)
def f_Stacks_placeOn_goal_L2  : Nat → Int32 → Int32 → Int32 → SS → Option (Int32 × SS)
  | 0, _, _, _, _ => none
  | n + 1, x1, x2, x3, S =>
    bnd (f_Stacks_height_goal x1 S) (fun r2 S1 =>
    if r2 ≤ x3 then
      some ((-4 : Int32), S1)
    else
      bnd (f_Stacks_wagonAt_goal x1 x3 S1) (fun r4 S3 =>
      if r4 = x2 then
        some (x3, S3)
      else
        nm (x3 + (1 : Int32)) (fun z5 =>
        f_Stacks_placeOn_goal_L2 n x1 x2 z5 S3)))
def f_Stacks_placeOn_goal (a1 : Int32) (a2 : Int32) (S : SS) : Option (Int32 × SS) :=
  f_Stacks_placeOn_goal_L2 NF a1 a2 (0 : Int32) S
set_option maxRecDepth 100000 in
set_option maxHeartbeats 4000000 in
theorem w_Stacks_placeOn_goal_L2 {p : Program} {l : Launch} {e : Env} {R : Room} {s : State} {m : MethodId} {args : Array Value} {below : List Frame} {meth : Method} {c : Code} {dC : Nat → ClassId} {dI : Nat → Nat → Nat} {cs : Nat → ClassId} {ad : Nat → Nat} {A : Nat → Prop} {D0 : Nat → Nat} {S' : SS} {r : Int32} (F : Fx p s m args meth c cX7_placeOn 4 RX7 (some .int) dC dI cs A) (hR1 : 1 ≤ R.frames) (hR2 : 23 ≤ R.locals) : ∀ (n : Nat) (x1 : Int32) (x2 : Int32) (x3 : Int32) (S : SS), f_Stacks_placeOn_goal_L2 n x1 x2 x3 S = some (r, S') → AW p l e R s m args below meth c dC dI cs ad A D0 (some (.int r)) S' 4 2 [(0, .ref (ad 73)), (1, .int x1), (2, .int x2), (3, .int x3)] [] S := by
  have hx := F.1.1
  have hb := F.1.2.1
  intro n
  induction n with
  | zero => intro x1 x2 x3 S h; cases h
  | succ n ih =>
    intro x1 x2 x3 S h H locs ls w hl
    rw [f_Stacks_placeOn_goal_L2] at h
    refine lv_iload_n (pc := 2) hx hb dX7_placeOn_2 rfl (lv_at hl 3 rfl) ?_
    refine lv_aload_n (pc := 3) hx hb dX7_placeOn_3 rfl (lv_at hl 0 rfl) ?_
    refine lv_iload_n (pc := 4) hx hb dX7_placeOn_4 rfl (lv_at hl 1 rfl) ?_
    obtain ⟨r2, S1, hc, h⟩ := bnd_t h
    refine s_cvi (pc := 5) [.int x1] (fun ad => [.ref (ad 73), .int x1]) F w (m_Stacks_height_goal _ _ _ _ hc) rfl rfl hl.1 ds_73 vc_X7 rfl ok_X7_height rfl kc_X7_height kl_X7_30 ki_X7_height kv_X7_height kn_X7 ⟨Nat.le_trans (by decide) hR1, Nat.le_trans (by decide) hR2⟩ ⟨Nat.zero_le _, Nat.zero_le _⟩ (Nat.le_of_ble_eq_true rfl) dX7_placeOn_5 (fun H locs w => ?_)
    refine lv_icmp_ge (pc := 8) (tgt := 29) hx hb dX7_placeOn_8 (by decide) (fun q => ?_) (fun q => ?_)
    · have h := ite_t q h
      refine lv_bipush (pc := 29) (v := -4) hx hb dX7_placeOn_29 (by decide) ?_
      exact s_iret F w h dX7_placeOn_31
    · have h := ite_f q h
      refine lv_aload_n (pc := 11) hx hb dX7_placeOn_11 rfl (lv_at hl 0 rfl) ?_
      refine lv_iload_n (pc := 12) hx hb dX7_placeOn_12 rfl (lv_at hl 1 rfl) ?_
      refine lv_iload_n (pc := 13) hx hb dX7_placeOn_13 rfl (lv_at hl 3 rfl) ?_
      obtain ⟨r4, S3, hc, h⟩ := bnd_t h
      refine s_cvi (pc := 14) [.int x1, .int x3] (fun ad => [.ref (ad 73), .int x1, .int x3]) F w (m_Stacks_wagonAt_goal _ _ _ _ _ hc) rfl rfl hl.1 ds_73 vc_X7 rfl ok_X7_wagonAt rfl kc_X7_wagonAt kl_X7_34 ki_X7_wagonAt kv_X7_wagonAt kn_X7 ⟨Nat.le_trans (by decide) hR1, Nat.le_trans (by decide) hR2⟩ ⟨Nat.zero_le _, Nat.zero_le _⟩ (Nat.le_of_ble_eq_true rfl) dX7_placeOn_14 (fun H locs w => ?_)
      refine lv_iload_n (pc := 17) hx hb dX7_placeOn_17 rfl (lv_at hl 2 rfl) ?_
      refine lv_icmp_ne (pc := 18) (tgt := 23) hx hb dX7_placeOn_18 (by decide) (fun q => ?_) (fun q => ?_)
      · have h := ite_f q h
        refine s_nm h (fun z5 ez5 h => ?_)
        refine lv_iinc (pc := 23) (v := z5) (lv' := [(3, .int z5), (0, .ref (ad 73)), (1, .int x1), (2, .int x2)]) hx hb dX7_placeOn_23 hl (k := 3) rfl (by rw [ez5]; rfl) (by decide) rfl (fun ls hl => ?_)
        refine lv_goto (pc := 26) (tgt := 2) hx hb dX7_placeOn_26 (by decide) ?_
        exact ih _ _ _ _ h _ _ _ w (lv_sub hl [1, 2, 3, 0] rfl)
      · have h := ite_t q h
        refine lv_iload_n (pc := 21) hx hb dX7_placeOn_21 rfl (lv_at hl 3 rfl) ?_
        exact s_iret F w h dX7_placeOn_22
set_option maxRecDepth 100000 in
set_option maxHeartbeats 4000000 in
theorem m_Stacks_placeOn_goal (a1 : Int32) (a2 : Int32) (S S' : SS) (r : Int32) (h : f_Stacks_placeOn_goal a1 a2 S = some (r, S')) : MT yX7_placeOn cX7_placeOn 4 (some .int) 1 23 (fun ad => [.ref (ad 73), .int a1, .int a2]) S (some (.int r)) S' := by
  refine MT.of RX7 (fun ad => [(0, .ref (ad 73)), (1, .int a1), (2, .int a2)]) (by decide) rfl (fun _ => Nat.le_of_ble_eq_true rfl) (fun _ => rfl) ?_
  intro p l e R s m args below meth c dC dI cs ad A hR1 hR2 F H locs ls w hl
  have hx := F.1.1
  have hb := F.1.2.1
  rw [f_Stacks_placeOn_goal] at h
  refine lv_iconst (pc := 0) (v := 0) hx hb dX7_placeOn_0 (by decide) ?_
  refine lv_istore_n (pc := 1) (lv' := [(3, .int (0 : Int32)), (0, .ref (ad 73)), (1, .int a1), (2, .int a2)]) hx hb dX7_placeOn_1 rfl hl (by decide) rfl (fun ls hl => ?_)
  exact w_Stacks_placeOn_goal_L2 F (Nat.le_trans (by decide) hR1) (Nat.le_trans (by decide) hR2) _ _ _ _ _ h _ _ _ w (lv_sub hl [1, 2, 3, 0] rfl)
def f_Stacks_stackOf_goal_L2  : Nat → Int32 → Int32 → SS → Option (Int32 × SS)
  | 0, _, _, _ => none
  | n + 1, x1, x2, S =>
    if (4 : Int32) ≤ x2 then
      some ((-4 : Int32), S)
    else
      bnd (f_Stacks_placeOn_goal x2 x1 S) (fun r2 S1 =>
      if r2 = (-4 : Int32) then
        nm (x2 + (1 : Int32)) (fun z3 =>
        f_Stacks_stackOf_goal_L2 n x1 z3 S1)
      else
        some (x2, S1))
def f_Stacks_stackOf_goal (a1 : Int32) (S : SS) : Option (Int32 × SS) :=
  f_Stacks_stackOf_goal_L2 NF a1 (0 : Int32) S
set_option maxRecDepth 100000 in
set_option maxHeartbeats 4000000 in
theorem w_Stacks_stackOf_goal_L2 {p : Program} {l : Launch} {e : Env} {R : Room} {s : State} {m : MethodId} {args : Array Value} {below : List Frame} {meth : Method} {c : Code} {dC : Nat → ClassId} {dI : Nat → Nat → Nat} {cs : Nat → ClassId} {ad : Nat → Nat} {A : Nat → Prop} {D0 : Nat → Nat} {S' : SS} {r : Int32} (F : Fx p s m args meth c cX7_stackOf 3 RX7 (some .int) dC dI cs A) (hR1 : 2 ≤ R.frames) (hR2 : 46 ≤ R.locals) : ∀ (n : Nat) (x1 : Int32) (x2 : Int32) (S : SS), f_Stacks_stackOf_goal_L2 n x1 x2 S = some (r, S') → AW p l e R s m args below meth c dC dI cs ad A D0 (some (.int r)) S' 3 2 [(0, .ref (ad 73)), (1, .int x1), (2, .int x2)] [] S := by
  have hx := F.1.1
  have hb := F.1.2.1
  intro n
  induction n with
  | zero => intro x1 x2 S h; cases h
  | succ n ih =>
    intro x1 x2 S h H locs ls w hl
    rw [f_Stacks_stackOf_goal_L2] at h
    refine lv_iload_n (pc := 2) hx hb dX7_stackOf_2 rfl (lv_at hl 2 rfl) ?_
    refine lv_iconst (pc := 3) (v := 4) hx hb dX7_stackOf_3 (by decide) ?_
    refine lv_icmp_ge (pc := 4) (tgt := 26) hx hb dX7_stackOf_4 (by decide) (fun q => ?_) (fun q => ?_)
    · have h := ite_t q h
      refine lv_bipush (pc := 26) (v := -4) hx hb dX7_stackOf_26 (by decide) ?_
      exact s_iret F w h dX7_stackOf_28
    · have h := ite_f q h
      refine lv_aload_n (pc := 7) hx hb dX7_stackOf_7 rfl (lv_at hl 0 rfl) ?_
      refine lv_iload_n (pc := 8) hx hb dX7_stackOf_8 rfl (lv_at hl 2 rfl) ?_
      refine lv_iload_n (pc := 9) hx hb dX7_stackOf_9 rfl (lv_at hl 1 rfl) ?_
      obtain ⟨r2, S1, hc, h⟩ := bnd_t h
      refine s_cvi (pc := 10) [.int x2, .int x1] (fun ad => [.ref (ad 73), .int x2, .int x1]) F w (m_Stacks_placeOn_goal _ _ _ _ _ hc) rfl rfl hl.1 ds_73 vc_X7 rfl ok_X7_placeOn rfl kc_X7_placeOn kl_X7_38 ki_X7_placeOn kv_X7_placeOn kn_X7 ⟨Nat.le_trans (by decide) hR1, Nat.le_trans (by decide) hR2⟩ ⟨Nat.zero_le _, Nat.zero_le _⟩ (Nat.le_of_ble_eq_true rfl) dX7_stackOf_10 (fun H locs w => ?_)
      refine lv_bipush (pc := 13) (v := -4) hx hb dX7_stackOf_13 (by decide) ?_
      refine lv_icmp_eq (pc := 15) (tgt := 20) hx hb dX7_stackOf_15 (by decide) (fun q => ?_) (fun q => ?_)
      · have h := ite_t q h
        refine s_nm h (fun z3 ez3 h => ?_)
        refine lv_iinc (pc := 20) (v := z3) (lv' := [(2, .int z3), (0, .ref (ad 73)), (1, .int x1)]) hx hb dX7_stackOf_20 hl (k := 2) rfl (by rw [ez3]; rfl) (by decide) rfl (fun ls hl => ?_)
        refine lv_goto (pc := 23) (tgt := 2) hx hb dX7_stackOf_23 (by decide) ?_
        exact ih _ _ _ h _ _ _ w (lv_sub hl [1, 2, 0] rfl)
      · have h := ite_f q h
        refine lv_iload_n (pc := 18) hx hb dX7_stackOf_18 rfl (lv_at hl 2 rfl) ?_
        exact s_iret F w h dX7_stackOf_19
set_option maxRecDepth 100000 in
set_option maxHeartbeats 4000000 in
theorem m_Stacks_stackOf_goal (a1 : Int32) (S S' : SS) (r : Int32) (h : f_Stacks_stackOf_goal a1 S = some (r, S')) : MT yX7_stackOf cX7_stackOf 3 (some .int) 2 46 (fun ad => [.ref (ad 73), .int a1]) S (some (.int r)) S' := by
  refine MT.of RX7 (fun ad => [(0, .ref (ad 73)), (1, .int a1)]) (by decide) rfl (fun _ => Nat.le_of_ble_eq_true rfl) (fun _ => rfl) ?_
  intro p l e R s m args below meth c dC dI cs ad A hR1 hR2 F H locs ls w hl
  have hx := F.1.1
  have hb := F.1.2.1
  rw [f_Stacks_stackOf_goal] at h
  refine lv_iconst (pc := 0) (v := 0) hx hb dX7_stackOf_0 (by decide) ?_
  refine lv_istore_n (pc := 1) (lv' := [(2, .int (0 : Int32)), (0, .ref (ad 73)), (1, .int a1)]) hx hb dX7_stackOf_1 rfl hl (by decide) rfl (fun ls hl => ?_)
  exact w_Stacks_stackOf_goal_L2 F (Nat.le_trans (by decide) hR1) (Nat.le_trans (by decide) hR2) _ _ _ _ h _ _ _ w (lv_sub hl [1, 2, 0] rfl)
def f_Stacks_put_goal (a1 : Int32) (a2 : Int32) (S : SS) : Option (SS) :=
  if a1 < 0 then
    some S
  else
    if (4 : Int32) ≤ a1 then
      some S
    else
      grd (inb a1 4) (
      if (10 : Int32) ≤ (S.1 125 a1.toNatClampNeg) then
        some S
      else
        grd (inb a1 4) (
        grd (inb (((10 : Int32) * a1) + (S.1 125 a1.toNatClampNeg)) 40) (wr S 124 (((10 : Int32) * a1) + (S.1 125 a1.toNatClampNeg)).toNatClampNeg a2 (fun S1 =>
        grd (inb a1 4) (
        grd (inb a1 4) (wr S1 125 a1.toNatClampNeg ((S1.1 125 a1.toNatClampNeg) + (1 : Int32)) (fun S2 =>
        some S2)))))))
set_option maxRecDepth 100000 in
set_option maxHeartbeats 4000000 in
theorem m_Stacks_put_goal (a1 : Int32) (a2 : Int32) (S S' : SS) (h : f_Stacks_put_goal a1 a2 S = some S') : MT yX7_put cX7_put 3 none 0 0 (fun ad => [.ref (ad 73), .int a1, .int a2]) S none S' := by
  refine MT.of RX7 (fun ad => [(0, .ref (ad 73)), (1, .int a1), (2, .int a2)]) (by decide) rfl (fun _ => Nat.le_of_ble_eq_true rfl) (fun _ => rfl) ?_
  intro p l e R s m args below meth c dC dI cs ad A hR1 hR2 F H locs ls w hl
  have hx := F.1.1
  have hb := F.1.2.1
  rw [f_Stacks_put_goal] at h
  refine lv_iload_n (pc := 0) hx hb dX7_put_0 rfl (lv_at hl 1 rfl) ?_
  refine lv_if_lt (pc := 1) (tgt := 47) hx hb dX7_put_1 (by decide) (fun q => ?_) (fun q => ?_)
  · have h := ite_t q h
    exact s_vret F w h dX7_put_47
  · have h := ite_f q h
    refine lv_iload_n (pc := 4) hx hb dX7_put_4 rfl (lv_at hl 1 rfl) ?_
    refine lv_iconst (pc := 5) (v := 4) hx hb dX7_put_5 (by decide) ?_
    refine lv_icmp_ge (pc := 6) (tgt := 47) hx hb dX7_put_6 (by decide) (fun q => ?_) (fun q => ?_)
    · have h := ite_t q h
      exact s_vret F w h dX7_put_47
    · have h := ite_f q h
      refine lv_aload_n (pc := 9) hx hb dX7_put_9 rfl (lv_at hl 0 rfl) ?_
      refine s_getR (pc := 10) F w 125 ds_73 (j := 1) vc_X7 vi_X7 rfl (by decide) kf_X7_15 dX7_put_10 ?_
      refine lv_iload_n (pc := 13) hx hb dX7_put_13 rfl (lv_at hl 1 rfl) ?_
      refine s_iald (pc := 14) F w ds_125 h dX7_put_14 (fun h => ?_)
      refine lv_bipush (pc := 15) (v := 10) hx hb dX7_put_15 (by decide) ?_
      refine lv_icmp_ge (pc := 17) (tgt := 47) hx hb dX7_put_17 (by decide) (fun q => ?_) (fun q => ?_)
      · have h := ite_t q h
        exact s_vret F w h dX7_put_47
      · have h := ite_f q h
        refine lv_aload_n (pc := 20) hx hb dX7_put_20 rfl (lv_at hl 0 rfl) ?_
        refine s_getR (pc := 21) F w 124 ds_73 (j := 0) vc_X7 vi_X7 rfl (by decide) kf_X7_11 dX7_put_21 ?_
        refine lv_bipush (pc := 24) (v := 10) hx hb dX7_put_24 (by decide) ?_
        refine lv_iload_n (pc := 26) hx hb dX7_put_26 rfl (lv_at hl 1 rfl) ?_
        refine lv_imul (pc := 27) hx hb dX7_put_27 ?_
        refine lv_aload_n (pc := 28) hx hb dX7_put_28 rfl (lv_at hl 0 rfl) ?_
        refine s_getR (pc := 29) F w 125 ds_73 (j := 1) vc_X7 vi_X7 rfl (by decide) kf_X7_15 dX7_put_29 ?_
        refine lv_iload_n (pc := 32) hx hb dX7_put_32 rfl (lv_at hl 1 rfl) ?_
        refine s_iald (pc := 33) F w ds_125 h dX7_put_33 (fun h => ?_)
        refine lv_iadd (pc := 34) hx hb dX7_put_34 ?_
        refine lv_iload_n (pc := 35) hx hb dX7_put_35 rfl (lv_at hl 2 rfl) ?_
        refine s_iast (pc := 36) F w ds_124 h dX7_put_36 (fun S1 H locs h w => ?_)
        refine lv_aload_n (pc := 37) hx hb dX7_put_37 rfl (lv_at hl 0 rfl) ?_
        refine s_getR (pc := 38) F w 125 ds_73 (j := 1) vc_X7 vi_X7 rfl (by decide) kf_X7_15 dX7_put_38 ?_
        refine lv_iload_n (pc := 41) hx hb dX7_put_41 rfl (lv_at hl 1 rfl) ?_
        refine lv_dup2_11 (pc := 42) hx hb dX7_put_42 rfl rfl ?_
        refine s_iald (pc := 43) F w ds_125 h dX7_put_43 (fun h => ?_)
        refine lv_iconst (pc := 44) (v := 1) hx hb dX7_put_44 (by decide) ?_
        refine lv_iadd (pc := 45) hx hb dX7_put_45 ?_
        refine s_iast (pc := 46) F w ds_125 h dX7_put_46 (fun S2 H locs h w => ?_)
        exact s_vret F w h dX7_put_47
def f_Plans_put_j15  (x2 : Int32) (x3 : Int32) (S : SS) : Option (Int32 × SS) :=
    if x2 < 0 then
      some ((-1 : Int32), S)
    else
      if (4 : Int32) ≤ x2 then
        some ((-1 : Int32), S)
      else
        bnd (f_Stacks_height_start x2 S) (fun r2 S1 =>
        grd (inb x2 4) (
        if (S1.1 106 x2.toNatClampNeg) ≤ r2 then
          some ((-1 : Int32), S1)
        else
          bnd (f_Stacks_stackOf_start x3 S1) (fun r4 S3 =>
          if r4 = (-4 : Int32) then
            bndv (f_Stacks_put_start x2 x3 S3) (fun S5 =>
            bnd (f_Stacks_height_start x2 S5) (fun r7 S6 =>
            some (r7, S6)))
          else
            some ((-1 : Int32), S3))))
def f_Plans_put_j15_1  (x2 : Int32) (x3 : Int32) (S : SS) : Option (Int32 × SS) :=
    if x2 < 0 then
      some ((-1 : Int32), S)
    else
      if (4 : Int32) ≤ x2 then
        some ((-1 : Int32), S)
      else
        bnd (f_Stacks_height_goal x2 S) (fun r9 S8 =>
        grd (inb x2 4) (
        if (S8.1 106 x2.toNatClampNeg) ≤ r9 then
          some ((-1 : Int32), S8)
        else
          bnd (f_Stacks_stackOf_goal x3 S8) (fun r11 S10 =>
          if r11 = (-4 : Int32) then
            bndv (f_Stacks_put_goal x2 x3 S10) (fun S12 =>
            bnd (f_Stacks_height_goal x2 S12) (fun r14 S13 =>
            some (r14, S13)))
          else
            some ((-1 : Int32), S10))))
def f_Plans_put (a1 : Int32) (a2 : Int32) (a3 : Int32) (S : SS) : Option (Int32 × SS) :=
  if a1 = 0 then
    f_Plans_put_j15 a2 a3 S
  else
    f_Plans_put_j15_1 a2 a3 S
theorem dX3_put_0 : decode cX3_put 0 = .ok (.iload_n 1, 1) := dc_27 (by decide +kernel)
theorem dX3_put_1 : decode cX3_put 1 = .ok (.ifCond .eq 10, 3) := dc_153 (a := 0) (b := 10) (by decide +kernel) (by decide)
theorem dX3_put_4 : decode cX3_put 4 = .ok (.aload_n 0, 1) := dc_42 (by decide +kernel)
theorem dX3_put_5 : decode cX3_put 5 = .ok (.getfield 18, 3) := dc_180 (a := 0) (b := 18) (by decide +kernel)
theorem dX3_put_8 : decode cX3_put 8 = .ok (.goto 7, 3) := dc_167 (a := 0) (b := 7) (by decide +kernel) (by decide)
theorem dX3_put_11 : decode cX3_put 11 = .ok (.aload_n 0, 1) := dc_42 (by decide +kernel)
theorem dX3_put_12 : decode cX3_put 12 = .ok (.getfield 12, 3) := dc_180 (a := 0) (b := 12) (by decide +kernel)
theorem dX3_put_15 : decode cX3_put 15 = .ok (.astore 4, 2) := dc_58 (a := 4) (by decide +kernel)
theorem dX3_put_17 : decode cX3_put 17 = .ok (.iload_n 2, 1) := dc_28 (by decide +kernel)
theorem dX3_put_18 : decode cX3_put 18 = .ok (.ifCond .lt 34, 3) := dc_155 (a := 0) (b := 34) (by decide +kernel) (by decide)
theorem dX3_put_21 : decode cX3_put 21 = .ok (.iload_n 2, 1) := dc_28 (by decide +kernel)
theorem dX3_put_22 : decode cX3_put 22 = .ok (.iconst 4, 1) := dc_7 (by decide +kernel)
theorem dX3_put_23 : decode cX3_put 23 = .ok (.if_icmp .ge 29, 3) := dc_162 (a := 0) (b := 29) (by decide +kernel) (by decide)
theorem dX3_put_26 : decode cX3_put 26 = .ok (.aload 4, 2) := dc_25 (a := 4) (by decide +kernel)
theorem dX3_put_28 : decode cX3_put 28 = .ok (.iload_n 2, 1) := dc_28 (by decide +kernel)
theorem dX3_put_29 : decode cX3_put 29 = .ok (.invokevirtual 54, 3) := dc_182 (a := 0) (b := 54) (by decide +kernel)
theorem dX3_put_32 : decode cX3_put 32 = .ok (.aload_n 0, 1) := dc_42 (by decide +kernel)
theorem dX3_put_33 : decode cX3_put 33 = .ok (.getfield 24, 3) := dc_180 (a := 0) (b := 24) (by decide +kernel)
theorem dX3_put_36 : decode cX3_put 36 = .ok (.iload_n 2, 1) := dc_28 (by decide +kernel)
theorem dX3_put_37 : decode cX3_put 37 = .ok (.iaload, 1) := dc_46 (by decide +kernel)
theorem dX3_put_38 : decode cX3_put 38 = .ok (.if_icmp .ge 14, 3) := dc_162 (a := 0) (b := 14) (by decide +kernel) (by decide)
theorem dX3_put_41 : decode cX3_put 41 = .ok (.aload 4, 2) := dc_25 (a := 4) (by decide +kernel)
theorem dX3_put_43 : decode cX3_put 43 = .ok (.iload_n 3, 1) := dc_29 (by decide +kernel)
theorem dX3_put_44 : decode cX3_put 44 = .ok (.invokevirtual 58, 3) := dc_182 (a := 0) (b := 58) (by decide +kernel)
theorem dX3_put_47 : decode cX3_put 47 = .ok (.bipush (-4), 2) := dc_16 (a := 252) (by decide +kernel) (by decide)
theorem dX3_put_49 : decode cX3_put 49 = .ok (.if_icmp .eq 5, 3) := dc_159 (a := 0) (b := 5) (by decide +kernel) (by decide)
theorem dX3_put_52 : decode cX3_put 52 = .ok (.iconst (-1), 1) := dc_2 (by decide +kernel)
theorem dX3_put_53 : decode cX3_put 53 = .ok (.ireturn, 1) := dc_172 (by decide +kernel)
theorem dX3_put_54 : decode cX3_put 54 = .ok (.aload 4, 2) := dc_25 (a := 4) (by decide +kernel)
theorem dX3_put_56 : decode cX3_put 56 = .ok (.iload_n 2, 1) := dc_28 (by decide +kernel)
theorem dX3_put_57 : decode cX3_put 57 = .ok (.iload_n 3, 1) := dc_29 (by decide +kernel)
theorem dX3_put_58 : decode cX3_put 58 = .ok (.invokevirtual 61, 3) := dc_182 (a := 0) (b := 61) (by decide +kernel)
theorem dX3_put_61 : decode cX3_put 61 = .ok (.aload 4, 2) := dc_25 (a := 4) (by decide +kernel)
theorem dX3_put_63 : decode cX3_put 63 = .ok (.iload_n 2, 1) := dc_28 (by decide +kernel)
theorem dX3_put_64 : decode cX3_put 64 = .ok (.invokevirtual 54, 3) := dc_182 (a := 0) (b := 54) (by decide +kernel)
theorem dX3_put_67 : decode cX3_put 67 = .ok (.ireturn, 1) := dc_172 (by decide +kernel)
set_option maxRecDepth 100000 in
set_option maxHeartbeats 4000000 in
theorem w_Plans_put_j15 {p : Program} {l : Launch} {e : Env} {R : Room} {s : State} {m : MethodId} {args : Array Value} {below : List Frame} {meth : Method} {c : Code} {dC : Nat → ClassId} {dI : Nat → Nat → Nat} {cs : Nat → ClassId} {ad : Nat → Nat} {A : Nat → Prop} {D0 : Nat → Nat} {S' : SS} {r : Int32} (F : Fx p s m args meth c cX3_put 5 RX3 (some .int) dC dI cs A) (hR1 : 3 ≤ R.frames) (hR2 : 68 ≤ R.locals) (x2 : Int32) (x3 : Int32) (S : SS) (h : f_Plans_put_j15 x2 x3 S = some (r, S')) : AW p l e R s m args below meth c dC dI cs ad A D0 (some (.int r)) S' 5 15 [(0, .ref (ad 70)), (2, .int x2), (3, .int x3)] [.ref (ad 72)] S := by
  have hx := F.1.1
  have hb := F.1.2.1
  intro H locs ls w hl
  rw [f_Plans_put_j15] at h
  refine lv_astore (pc := 15) (lv' := [(4, .ref (ad 72)), (0, .ref (ad 70)), (2, .int x2), (3, .int x3)]) hx hb dX3_put_15 hl (by decide) rfl (fun ls hl => ?_)
  refine lv_iload_n (pc := 17) hx hb dX3_put_17 rfl (lv_at hl 2 rfl) ?_
  refine lv_if_lt (pc := 18) (tgt := 52) hx hb dX3_put_18 (by decide) (fun q => ?_) (fun q => ?_)
  · have h := ite_t q h
    refine lv_iconst (pc := 52) (v := -1) hx hb dX3_put_52 (by decide) ?_
    exact s_iret F w h dX3_put_53
  · have h := ite_f q h
    refine lv_iload_n (pc := 21) hx hb dX3_put_21 rfl (lv_at hl 2 rfl) ?_
    refine lv_iconst (pc := 22) (v := 4) hx hb dX3_put_22 (by decide) ?_
    refine lv_icmp_ge (pc := 23) (tgt := 52) hx hb dX3_put_23 (by decide) (fun q => ?_) (fun q => ?_)
    · have h := ite_t q h
      refine lv_iconst (pc := 52) (v := -1) hx hb dX3_put_52 (by decide) ?_
      exact s_iret F w h dX3_put_53
    · have h := ite_f q h
      refine lv_aload (pc := 26) hx hb dX3_put_26 (lv_at hl 0 rfl) ?_
      refine lv_iload_n (pc := 28) hx hb dX3_put_28 rfl (lv_at hl 2 rfl) ?_
      obtain ⟨r2, S1, hc, h⟩ := bnd_t h
      refine s_cvi (pc := 29) [.int x2] (fun ad => [.ref (ad 72), .int x2]) F w (m_Stacks_height_start _ _ _ _ hc) rfl rfl hl.1 ds_72 vc_X7 rfl ok_X7_height rfl kc_X7_height kl_X3_54 ki_X7_height kv_X7_height kn_X7 ⟨Nat.le_trans (by decide) hR1, Nat.le_trans (by decide) hR2⟩ ⟨Nat.zero_le _, Nat.zero_le _⟩ (Nat.le_of_ble_eq_true rfl) dX3_put_29 (fun H locs w => ?_)
      refine lv_aload_n (pc := 32) hx hb dX3_put_32 rfl (lv_at hl 1 rfl) ?_
      refine s_getR (pc := 33) F w 106 ds_70 (j := 3) vc_X3 vi_X3 rfl (by decide) kf_X3_24 dX3_put_33 ?_
      refine lv_iload_n (pc := 36) hx hb dX3_put_36 rfl (lv_at hl 2 rfl) ?_
      refine s_iald (pc := 37) F w ds_106 h dX3_put_37 (fun h => ?_)
      refine lv_icmp_ge (pc := 38) (tgt := 52) hx hb dX3_put_38 (by decide) (fun q => ?_) (fun q => ?_)
      · have h := ite_t q h
        refine lv_iconst (pc := 52) (v := -1) hx hb dX3_put_52 (by decide) ?_
        exact s_iret F w h dX3_put_53
      · have h := ite_f q h
        refine lv_aload (pc := 41) hx hb dX3_put_41 (lv_at hl 0 rfl) ?_
        refine lv_iload_n (pc := 43) hx hb dX3_put_43 rfl (lv_at hl 3 rfl) ?_
        obtain ⟨r4, S3, hc, h⟩ := bnd_t h
        refine s_cvi (pc := 44) [.int x3] (fun ad => [.ref (ad 72), .int x3]) F w (m_Stacks_stackOf_start _ _ _ _ hc) rfl rfl hl.1 ds_72 vc_X7 rfl ok_X7_stackOf rfl kc_X7_stackOf kl_X3_58 ki_X7_stackOf kv_X7_stackOf kn_X7 ⟨Nat.le_trans (by decide) hR1, Nat.le_trans (by decide) hR2⟩ ⟨Nat.zero_le _, Nat.zero_le _⟩ (Nat.le_of_ble_eq_true rfl) dX3_put_44 (fun H locs w => ?_)
        refine lv_bipush (pc := 47) (v := -4) hx hb dX3_put_47 (by decide) ?_
        refine lv_icmp_eq (pc := 49) (tgt := 54) hx hb dX3_put_49 (by decide) (fun q => ?_) (fun q => ?_)
        · have h := ite_t q h
          refine lv_aload (pc := 54) hx hb dX3_put_54 (lv_at hl 0 rfl) ?_
          refine lv_iload_n (pc := 56) hx hb dX3_put_56 rfl (lv_at hl 2 rfl) ?_
          refine lv_iload_n (pc := 57) hx hb dX3_put_57 rfl (lv_at hl 3 rfl) ?_
          obtain ⟨S5, hc, h⟩ := bndv_t h
          refine s_cvv (pc := 58) [.int x2, .int x3] (fun ad => [.ref (ad 72), .int x2, .int x3]) F w (m_Stacks_put_start _ _ _ _ hc) rfl rfl hl.1 ds_72 vc_X7 rfl ok_X7_put rfl kc_X7_put kl_X3_61 ki_X7_put kv_X7_put kn_X7 ⟨Nat.le_trans (by decide) hR1, Nat.le_trans (by decide) hR2⟩ ⟨Nat.zero_le _, Nat.zero_le _⟩ (Nat.le_of_ble_eq_true rfl) dX3_put_58 (fun H locs w => ?_)
          refine lv_aload (pc := 61) hx hb dX3_put_61 (lv_at hl 0 rfl) ?_
          refine lv_iload_n (pc := 63) hx hb dX3_put_63 rfl (lv_at hl 2 rfl) ?_
          obtain ⟨r7, S6, hc, h⟩ := bnd_t h
          refine s_cvi (pc := 64) [.int x2] (fun ad => [.ref (ad 72), .int x2]) F w (m_Stacks_height_start _ _ _ _ hc) rfl rfl hl.1 ds_72 vc_X7 rfl ok_X7_height rfl kc_X7_height kl_X3_54 ki_X7_height kv_X7_height kn_X7 ⟨Nat.le_trans (by decide) hR1, Nat.le_trans (by decide) hR2⟩ ⟨Nat.zero_le _, Nat.zero_le _⟩ (Nat.le_of_ble_eq_true rfl) dX3_put_64 (fun H locs w => ?_)
          exact s_iret F w h dX3_put_67
        · have h := ite_f q h
          refine lv_iconst (pc := 52) (v := -1) hx hb dX3_put_52 (by decide) ?_
          exact s_iret F w h dX3_put_53
set_option maxRecDepth 100000 in
set_option maxHeartbeats 4000000 in
theorem w_Plans_put_j15_1 {p : Program} {l : Launch} {e : Env} {R : Room} {s : State} {m : MethodId} {args : Array Value} {below : List Frame} {meth : Method} {c : Code} {dC : Nat → ClassId} {dI : Nat → Nat → Nat} {cs : Nat → ClassId} {ad : Nat → Nat} {A : Nat → Prop} {D0 : Nat → Nat} {S' : SS} {r : Int32} (F : Fx p s m args meth c cX3_put 5 RX3 (some .int) dC dI cs A) (hR1 : 3 ≤ R.frames) (hR2 : 68 ≤ R.locals) (x2 : Int32) (x3 : Int32) (S : SS) (h : f_Plans_put_j15_1 x2 x3 S = some (r, S')) : AW p l e R s m args below meth c dC dI cs ad A D0 (some (.int r)) S' 5 15 [(0, .ref (ad 70)), (2, .int x2), (3, .int x3)] [.ref (ad 73)] S := by
  have hx := F.1.1
  have hb := F.1.2.1
  intro H locs ls w hl
  rw [f_Plans_put_j15_1] at h
  refine lv_astore (pc := 15) (lv' := [(4, .ref (ad 73)), (0, .ref (ad 70)), (2, .int x2), (3, .int x3)]) hx hb dX3_put_15 hl (by decide) rfl (fun ls hl => ?_)
  refine lv_iload_n (pc := 17) hx hb dX3_put_17 rfl (lv_at hl 2 rfl) ?_
  refine lv_if_lt (pc := 18) (tgt := 52) hx hb dX3_put_18 (by decide) (fun q => ?_) (fun q => ?_)
  · have h := ite_t q h
    refine lv_iconst (pc := 52) (v := -1) hx hb dX3_put_52 (by decide) ?_
    exact s_iret F w h dX3_put_53
  · have h := ite_f q h
    refine lv_iload_n (pc := 21) hx hb dX3_put_21 rfl (lv_at hl 2 rfl) ?_
    refine lv_iconst (pc := 22) (v := 4) hx hb dX3_put_22 (by decide) ?_
    refine lv_icmp_ge (pc := 23) (tgt := 52) hx hb dX3_put_23 (by decide) (fun q => ?_) (fun q => ?_)
    · have h := ite_t q h
      refine lv_iconst (pc := 52) (v := -1) hx hb dX3_put_52 (by decide) ?_
      exact s_iret F w h dX3_put_53
    · have h := ite_f q h
      refine lv_aload (pc := 26) hx hb dX3_put_26 (lv_at hl 0 rfl) ?_
      refine lv_iload_n (pc := 28) hx hb dX3_put_28 rfl (lv_at hl 2 rfl) ?_
      obtain ⟨r9, S8, hc, h⟩ := bnd_t h
      refine s_cvi (pc := 29) [.int x2] (fun ad => [.ref (ad 73), .int x2]) F w (m_Stacks_height_goal _ _ _ _ hc) rfl rfl hl.1 ds_73 vc_X7 rfl ok_X7_height rfl kc_X7_height kl_X3_54 ki_X7_height kv_X7_height kn_X7 ⟨Nat.le_trans (by decide) hR1, Nat.le_trans (by decide) hR2⟩ ⟨Nat.zero_le _, Nat.zero_le _⟩ (Nat.le_of_ble_eq_true rfl) dX3_put_29 (fun H locs w => ?_)
      refine lv_aload_n (pc := 32) hx hb dX3_put_32 rfl (lv_at hl 1 rfl) ?_
      refine s_getR (pc := 33) F w 106 ds_70 (j := 3) vc_X3 vi_X3 rfl (by decide) kf_X3_24 dX3_put_33 ?_
      refine lv_iload_n (pc := 36) hx hb dX3_put_36 rfl (lv_at hl 2 rfl) ?_
      refine s_iald (pc := 37) F w ds_106 h dX3_put_37 (fun h => ?_)
      refine lv_icmp_ge (pc := 38) (tgt := 52) hx hb dX3_put_38 (by decide) (fun q => ?_) (fun q => ?_)
      · have h := ite_t q h
        refine lv_iconst (pc := 52) (v := -1) hx hb dX3_put_52 (by decide) ?_
        exact s_iret F w h dX3_put_53
      · have h := ite_f q h
        refine lv_aload (pc := 41) hx hb dX3_put_41 (lv_at hl 0 rfl) ?_
        refine lv_iload_n (pc := 43) hx hb dX3_put_43 rfl (lv_at hl 3 rfl) ?_
        obtain ⟨r11, S10, hc, h⟩ := bnd_t h
        refine s_cvi (pc := 44) [.int x3] (fun ad => [.ref (ad 73), .int x3]) F w (m_Stacks_stackOf_goal _ _ _ _ hc) rfl rfl hl.1 ds_73 vc_X7 rfl ok_X7_stackOf rfl kc_X7_stackOf kl_X3_58 ki_X7_stackOf kv_X7_stackOf kn_X7 ⟨Nat.le_trans (by decide) hR1, Nat.le_trans (by decide) hR2⟩ ⟨Nat.zero_le _, Nat.zero_le _⟩ (Nat.le_of_ble_eq_true rfl) dX3_put_44 (fun H locs w => ?_)
        refine lv_bipush (pc := 47) (v := -4) hx hb dX3_put_47 (by decide) ?_
        refine lv_icmp_eq (pc := 49) (tgt := 54) hx hb dX3_put_49 (by decide) (fun q => ?_) (fun q => ?_)
        · have h := ite_t q h
          refine lv_aload (pc := 54) hx hb dX3_put_54 (lv_at hl 0 rfl) ?_
          refine lv_iload_n (pc := 56) hx hb dX3_put_56 rfl (lv_at hl 2 rfl) ?_
          refine lv_iload_n (pc := 57) hx hb dX3_put_57 rfl (lv_at hl 3 rfl) ?_
          obtain ⟨S12, hc, h⟩ := bndv_t h
          refine s_cvv (pc := 58) [.int x2, .int x3] (fun ad => [.ref (ad 73), .int x2, .int x3]) F w (m_Stacks_put_goal _ _ _ _ hc) rfl rfl hl.1 ds_73 vc_X7 rfl ok_X7_put rfl kc_X7_put kl_X3_61 ki_X7_put kv_X7_put kn_X7 ⟨Nat.le_trans (by decide) hR1, Nat.le_trans (by decide) hR2⟩ ⟨Nat.zero_le _, Nat.zero_le _⟩ (Nat.le_of_ble_eq_true rfl) dX3_put_58 (fun H locs w => ?_)
          refine lv_aload (pc := 61) hx hb dX3_put_61 (lv_at hl 0 rfl) ?_
          refine lv_iload_n (pc := 63) hx hb dX3_put_63 rfl (lv_at hl 2 rfl) ?_
          obtain ⟨r14, S13, hc, h⟩ := bnd_t h
          refine s_cvi (pc := 64) [.int x2] (fun ad => [.ref (ad 73), .int x2]) F w (m_Stacks_height_goal _ _ _ _ hc) rfl rfl hl.1 ds_73 vc_X7 rfl ok_X7_height rfl kc_X7_height kl_X3_54 ki_X7_height kv_X7_height kn_X7 ⟨Nat.le_trans (by decide) hR1, Nat.le_trans (by decide) hR2⟩ ⟨Nat.zero_le _, Nat.zero_le _⟩ (Nat.le_of_ble_eq_true rfl) dX3_put_64 (fun H locs w => ?_)
          exact s_iret F w h dX3_put_67
        · have h := ite_f q h
          refine lv_iconst (pc := 52) (v := -1) hx hb dX3_put_52 (by decide) ?_
          exact s_iret F w h dX3_put_53
set_option maxRecDepth 100000 in
set_option maxHeartbeats 4000000 in
theorem m_Plans_put (a1 : Int32) (a2 : Int32) (a3 : Int32) (S S' : SS) (r : Int32) (h : f_Plans_put a1 a2 a3 S = some (r, S')) : MT yX3_put cX3_put 5 (some .int) 3 68 (fun ad => [.ref (ad 70), .int a1, .int a2, .int a3]) S (some (.int r)) S' := by
  refine MT.of RX3 (fun ad => [(0, .ref (ad 70)), (1, .int a1), (2, .int a2), (3, .int a3)]) (by decide) rfl (fun _ => Nat.le_of_ble_eq_true rfl) (fun _ => rfl) ?_
  intro p l e R s m args below meth c dC dI cs ad A hR1 hR2 F H locs ls w hl
  have hx := F.1.1
  have hb := F.1.2.1
  rw [f_Plans_put] at h
  refine lv_iload_n (pc := 0) hx hb dX3_put_0 rfl (lv_at hl 1 rfl) ?_
  refine lv_if_eq (pc := 1) (tgt := 11) hx hb dX3_put_1 (by decide) (fun q => ?_) (fun q => ?_)
  · have h := ite_t q h
    refine lv_aload_n (pc := 11) hx hb dX3_put_11 rfl (lv_at hl 0 rfl) ?_
    refine s_getR (pc := 12) F w 72 ds_70 (j := 0) vc_X3 vi_X3 rfl (by decide) kf_X3_12 dX3_put_12 ?_
    exact w_Plans_put_j15 F (Nat.le_trans (by decide) hR1) (Nat.le_trans (by decide) hR2) _ _ _ h _ _ _ w (lv_sub hl [0, 2, 3] rfl)
  · have h := ite_f q h
    refine lv_aload_n (pc := 4) hx hb dX3_put_4 rfl (lv_at hl 0 rfl) ?_
    refine s_getR (pc := 5) F w 73 ds_70 (j := 1) vc_X3 vi_X3 rfl (by decide) kf_X3_18 dX3_put_5 ?_
    refine lv_goto (pc := 8) (tgt := 15) hx hb dX3_put_8 (by decide) ?_
    exact w_Plans_put_j15_1 F (Nat.le_trans (by decide) hR1) (Nat.le_trans (by decide) hR2) _ _ _ h _ _ _ w (lv_sub hl [0, 2, 3] rfl)
def f_Yard_lay (a1 : Int32) (a2 : Int32) (a3 : Int32) (S : SS) : Option (Int32 × SS) :=
  bnd (f_Yard_isNot a2 (0 : Int32) (3 : Int32) S) (fun r2 S1 =>
  if r2 = 0 then
    bnd (f_Yard_isNot a3 (0 : Int32) (9 : Int32) S1) (fun r4 S3 =>
    if r4 = 0 then
      bnd (f_Plans_put a1 a2 a3 S3) (fun r6 S5 =>
      some (r6, S5))
    else
      some ((-1 : Int32), S3))
  else
    some ((-1 : Int32), S1))
theorem dX11_lay_0 : decode cX11_lay 0 = .ok (.iload_n 2, 1) := dc_28 (by decide +kernel)
theorem dX11_lay_1 : decode cX11_lay 1 = .ok (.iconst 0, 1) := dc_3 (by decide +kernel)
theorem dX11_lay_2 : decode cX11_lay 2 = .ok (.iconst 3, 1) := dc_6 (by decide +kernel)
theorem dX11_lay_3 : decode cX11_lay 3 = .ok (.invokestatic 108, 3) := dc_184 (a := 0) (b := 108) (by decide +kernel)
theorem dX11_lay_6 : decode cX11_lay 6 = .ok (.ifCond .ne 13, 3) := dc_154 (a := 0) (b := 13) (by decide +kernel) (by decide)
theorem dX11_lay_9 : decode cX11_lay 9 = .ok (.iload_n 3, 1) := dc_29 (by decide +kernel)
theorem dX11_lay_10 : decode cX11_lay 10 = .ok (.iconst 0, 1) := dc_3 (by decide +kernel)
theorem dX11_lay_11 : decode cX11_lay 11 = .ok (.bipush 9, 2) := dc_16 (a := 9) (by decide +kernel) (by decide)
theorem dX11_lay_13 : decode cX11_lay 13 = .ok (.invokestatic 108, 3) := dc_184 (a := 0) (b := 108) (by decide +kernel)
theorem dX11_lay_16 : decode cX11_lay 16 = .ok (.ifCond .eq 5, 3) := dc_153 (a := 0) (b := 5) (by decide +kernel) (by decide)
theorem dX11_lay_19 : decode cX11_lay 19 = .ok (.iconst (-1), 1) := dc_2 (by decide +kernel)
theorem dX11_lay_20 : decode cX11_lay 20 = .ok (.ireturn, 1) := dc_172 (by decide +kernel)
theorem dX11_lay_21 : decode cX11_lay 21 = .ok (.aload_n 0, 1) := dc_42 (by decide +kernel)
theorem dX11_lay_22 : decode cX11_lay 22 = .ok (.getfield 74, 3) := dc_180 (a := 0) (b := 74) (by decide +kernel)
theorem dX11_lay_25 : decode cX11_lay 25 = .ok (.iload_n 1, 1) := dc_27 (by decide +kernel)
theorem dX11_lay_26 : decode cX11_lay 26 = .ok (.iload_n 2, 1) := dc_28 (by decide +kernel)
theorem dX11_lay_27 : decode cX11_lay 27 = .ok (.iload_n 3, 1) := dc_29 (by decide +kernel)
theorem dX11_lay_28 : decode cX11_lay 28 = .ok (.invokevirtual 421, 3) := dc_182 (a := 1) (b := 165) (by decide +kernel)
theorem dX11_lay_31 : decode cX11_lay 31 = .ok (.ireturn, 1) := dc_172 (by decide +kernel)
set_option maxRecDepth 100000 in
set_option maxHeartbeats 4000000 in
theorem m_Yard_lay (a1 : Int32) (a2 : Int32) (a3 : Int32) (S S' : SS) (r : Int32) (h : f_Yard_lay a1 a2 a3 S = some (r, S')) : MT yX11_lay cX11_lay 4 (some .int) 4 92 (fun ad => [.ref (ad 61), .int a1, .int a2, .int a3]) S (some (.int r)) S' := by
  refine MT.of RX11 (fun ad => [(0, .ref (ad 61)), (1, .int a1), (2, .int a2), (3, .int a3)]) (by decide) rfl (fun _ => Nat.le_of_ble_eq_true rfl) (fun _ => rfl) ?_
  intro p l e R s m args below meth c dC dI cs ad A hR1 hR2 F H locs ls w hl
  have hx := F.1.1
  have hb := F.1.2.1
  rw [f_Yard_lay] at h
  refine lv_iload_n (pc := 0) hx hb dX11_lay_0 rfl (lv_at hl 2 rfl) ?_
  refine lv_iconst (pc := 1) (v := 0) hx hb dX11_lay_1 (by decide) ?_
  refine lv_iconst (pc := 2) (v := 3) hx hb dX11_lay_2 (by decide) ?_
  obtain ⟨r2, S1, hc, h⟩ := bnd_t h
  refine s_csi (pc := 3) [.int a2, .int (0 : Int32), .int (3 : Int32)] (fun ad => [.int a2, .int (0 : Int32), .int (3 : Int32)]) F w (m_Yard_isNot _ _ _ _ _ _ hc) rfl rfl hl.1 ok_X11_isNot rfl kc_X11_isNot kl_X11_108 ks_X11_isNot kn_X11 ⟨Nat.le_trans (by decide) hR1, Nat.le_trans (by decide) hR2⟩ ⟨Nat.zero_le _, Nat.zero_le _⟩ (Nat.le_of_ble_eq_true rfl) dX11_lay_3 (fun H locs w => ?_)
  refine lv_if_ne (pc := 6) (tgt := 19) hx hb dX11_lay_6 (by decide) (fun q => ?_) (fun q => ?_)
  · have h := ite_f q h
    refine lv_iconst (pc := 19) (v := -1) hx hb dX11_lay_19 (by decide) ?_
    exact s_iret F w h dX11_lay_20
  · have h := ite_t q h
    refine lv_iload_n (pc := 9) hx hb dX11_lay_9 rfl (lv_at hl 3 rfl) ?_
    refine lv_iconst (pc := 10) (v := 0) hx hb dX11_lay_10 (by decide) ?_
    refine lv_bipush (pc := 11) (v := 9) hx hb dX11_lay_11 (by decide) ?_
    obtain ⟨r4, S3, hc, h⟩ := bnd_t h
    refine s_csi (pc := 13) [.int a3, .int (0 : Int32), .int (9 : Int32)] (fun ad => [.int a3, .int (0 : Int32), .int (9 : Int32)]) F w (m_Yard_isNot _ _ _ _ _ _ hc) rfl rfl hl.1 ok_X11_isNot rfl kc_X11_isNot kl_X11_108 ks_X11_isNot kn_X11 ⟨Nat.le_trans (by decide) hR1, Nat.le_trans (by decide) hR2⟩ ⟨Nat.zero_le _, Nat.zero_le _⟩ (Nat.le_of_ble_eq_true rfl) dX11_lay_13 (fun H locs w => ?_)
    refine lv_if_eq (pc := 16) (tgt := 21) hx hb dX11_lay_16 (by decide) (fun q => ?_) (fun q => ?_)
    · have h := ite_t q h
      refine lv_aload_n (pc := 21) hx hb dX11_lay_21 rfl (lv_at hl 0 rfl) ?_
      refine s_getR (pc := 22) F w 70 ds_61 (j := 8) vc_X11 vi_X11 rfl (by decide) kf_X11_74 dX11_lay_22 ?_
      refine lv_iload_n (pc := 25) hx hb dX11_lay_25 rfl (lv_at hl 1 rfl) ?_
      refine lv_iload_n (pc := 26) hx hb dX11_lay_26 rfl (lv_at hl 2 rfl) ?_
      refine lv_iload_n (pc := 27) hx hb dX11_lay_27 rfl (lv_at hl 3 rfl) ?_
      obtain ⟨r6, S5, hc, h⟩ := bnd_t h
      refine s_cvi (pc := 28) [.int a1, .int a2, .int a3] (fun ad => [.ref (ad 70), .int a1, .int a2, .int a3]) F w (m_Plans_put _ _ _ _ _ _ hc) rfl rfl hl.1 ds_70 vc_X3 rfl ok_X3_put rfl kc_X3_put kl_X11_421 ki_X3_put kv_X3_put kn_X3 ⟨Nat.le_trans (by decide) hR1, Nat.le_trans (by decide) hR2⟩ ⟨Nat.zero_le _, Nat.zero_le _⟩ (Nat.le_of_ble_eq_true rfl) dX11_lay_28 (fun H locs w => ?_)
      exact s_iret F w h dX11_lay_31
    · have h := ite_f q h
      refine lv_iconst (pc := 19) (v := -1) hx hb dX11_lay_19 (by decide) ?_
      exact s_iret F w h dX11_lay_20
def f_Stacks_members_start_L11 (K4 : Int32 → Int32 → SS → Option (Int32 × SS)) : Nat → Int32 → Int32 → Int32 → SS → Option (Int32 × SS)
  | 0, _, _, _, _ => none
  | n + 1, x1, x2, x3, S =>
    grd (inb x2 4) (
    if (S.1 123 x2.toNatClampNeg) ≤ x3 then
      nm (x2 + (1 : Int32)) (fun z1 =>
      K4 x1 z1 S)
    else
      bnd (f_Stacks_wagonAt_start x2 x3 S) (fun r3 S2 =>
      nm (x1 ||| ((1 : Int32) <<< (r3 &&& 31))) (fun z4 =>
      nm (x3 + (1 : Int32)) (fun z5 =>
      f_Stacks_members_start_L11 K4 n z4 x2 z5 S2))))
def f_Stacks_members_start_L4  : Nat → Int32 → Int32 → SS → Option (Int32 × SS)
  | 0, _, _, _ => none
  | n + 1, x1, x2, S =>
    if (4 : Int32) ≤ x2 then
      some (x1, S)
    else
      f_Stacks_members_start_L11 (fun v0 v1 S => f_Stacks_members_start_L4 n v0 v1 S) NF x1 x2 (0 : Int32) S
def f_Stacks_members_start  (S : SS) : Option (Int32 × SS) :=
  f_Stacks_members_start_L4 NF (0 : Int32) (0 : Int32) S
theorem dX7_members_0 : decode cX7_members 0 = .ok (.iconst 0, 1) := dc_3 (by decide +kernel)
theorem dX7_members_1 : decode cX7_members 1 = .ok (.istore_n 1, 1) := dc_60 (by decide +kernel)
theorem dX7_members_2 : decode cX7_members 2 = .ok (.iconst 0, 1) := dc_3 (by decide +kernel)
theorem dX7_members_3 : decode cX7_members 3 = .ok (.istore_n 2, 1) := dc_61 (by decide +kernel)
theorem dX7_members_4 : decode cX7_members 4 = .ok (.iload_n 2, 1) := dc_28 (by decide +kernel)
theorem dX7_members_5 : decode cX7_members 5 = .ok (.iconst 4, 1) := dc_7 (by decide +kernel)
theorem dX7_members_6 : decode cX7_members 6 = .ok (.if_icmp .ge 38, 3) := dc_162 (a := 0) (b := 38) (by decide +kernel) (by decide)
theorem dX7_members_9 : decode cX7_members 9 = .ok (.iconst 0, 1) := dc_3 (by decide +kernel)
theorem dX7_members_10 : decode cX7_members 10 = .ok (.istore_n 3, 1) := dc_62 (by decide +kernel)
theorem dX7_members_11 : decode cX7_members 11 = .ok (.iload_n 3, 1) := dc_29 (by decide +kernel)
theorem dX7_members_12 : decode cX7_members 12 = .ok (.aload_n 0, 1) := dc_42 (by decide +kernel)
theorem dX7_members_13 : decode cX7_members 13 = .ok (.getfield 15, 3) := dc_180 (a := 0) (b := 15) (by decide +kernel)
theorem dX7_members_16 : decode cX7_members 16 = .ok (.iload_n 2, 1) := dc_28 (by decide +kernel)
theorem dX7_members_17 : decode cX7_members 17 = .ok (.iaload, 1) := dc_46 (by decide +kernel)
theorem dX7_members_18 : decode cX7_members 18 = .ok (.if_icmp .ge 20, 3) := dc_162 (a := 0) (b := 20) (by decide +kernel) (by decide)
theorem dX7_members_21 : decode cX7_members 21 = .ok (.iload_n 1, 1) := dc_27 (by decide +kernel)
theorem dX7_members_22 : decode cX7_members 22 = .ok (.iconst 1, 1) := dc_4 (by decide +kernel)
theorem dX7_members_23 : decode cX7_members 23 = .ok (.aload_n 0, 1) := dc_42 (by decide +kernel)
theorem dX7_members_24 : decode cX7_members 24 = .ok (.iload_n 2, 1) := dc_28 (by decide +kernel)
theorem dX7_members_25 : decode cX7_members 25 = .ok (.iload_n 3, 1) := dc_29 (by decide +kernel)
theorem dX7_members_26 : decode cX7_members 26 = .ok (.invokevirtual 34, 3) := dc_182 (a := 0) (b := 34) (by decide +kernel)
theorem dX7_members_29 : decode cX7_members 29 = .ok (.ishl, 1) := dc_120 (by decide +kernel)
theorem dX7_members_30 : decode cX7_members 30 = .ok (.ior, 1) := dc_128 (by decide +kernel)
theorem dX7_members_31 : decode cX7_members 31 = .ok (.istore_n 1, 1) := dc_60 (by decide +kernel)
theorem dX7_members_32 : decode cX7_members 32 = .ok (.iinc 3 1, 3) := dc_132 (a := 3) (b := 1) (by decide +kernel) (by decide)
theorem dX7_members_35 : decode cX7_members 35 = .ok (.goto (-24), 3) := dc_167 (a := 255) (b := 232) (by decide +kernel) (by decide)
theorem dX7_members_38 : decode cX7_members 38 = .ok (.iinc 2 1, 3) := dc_132 (a := 2) (b := 1) (by decide +kernel) (by decide)
theorem dX7_members_41 : decode cX7_members 41 = .ok (.goto (-37), 3) := dc_167 (a := 255) (b := 219) (by decide +kernel) (by decide)
theorem dX7_members_44 : decode cX7_members 44 = .ok (.iload_n 1, 1) := dc_27 (by decide +kernel)
theorem dX7_members_45 : decode cX7_members 45 = .ok (.ireturn, 1) := dc_172 (by decide +kernel)
set_option maxRecDepth 100000 in
set_option maxHeartbeats 4000000 in
theorem w_Stacks_members_start_L11 {p : Program} {l : Launch} {e : Env} {R : Room} {s : State} {m : MethodId} {args : Array Value} {below : List Frame} {meth : Method} {c : Code} {dC : Nat → ClassId} {dI : Nat → Nat → Nat} {cs : Nat → ClassId} {ad : Nat → Nat} {A : Nat → Prop} {D0 : Nat → Nat} {S' : SS} {r : Int32} (F : Fx p s m args meth c cX7_members 4 RX7 (some .int) dC dI cs A) (hR1 : 1 ≤ R.frames) (hR2 : 23 ≤ R.locals) (K4 : Int32 → Int32 → SS → Option (Int32 × SS)) (hK4 : ∀ (v0 : Int32) (v1 : Int32) (S : SS), K4 v0 v1 S = some (r, S') → AW p l e R s m args below meth c dC dI cs ad A D0 (some (.int r)) S' 4 4 [(0, .ref (ad 72)), (1, .int v0), (2, .int v1)] [] S) : ∀ (n : Nat) (x1 : Int32) (x2 : Int32) (x3 : Int32) (S : SS), f_Stacks_members_start_L11 K4 n x1 x2 x3 S = some (r, S') → AW p l e R s m args below meth c dC dI cs ad A D0 (some (.int r)) S' 4 11 [(0, .ref (ad 72)), (1, .int x1), (2, .int x2), (3, .int x3)] [] S := by
  have hx := F.1.1
  have hb := F.1.2.1
  intro n
  induction n with
  | zero => intro x1 x2 x3 S h; cases h
  | succ n ih =>
    intro x1 x2 x3 S h H locs ls w hl
    rw [f_Stacks_members_start_L11] at h
    refine lv_iload_n (pc := 11) hx hb dX7_members_11 rfl (lv_at hl 3 rfl) ?_
    refine lv_aload_n (pc := 12) hx hb dX7_members_12 rfl (lv_at hl 0 rfl) ?_
    refine s_getR (pc := 13) F w 123 ds_72 (j := 1) vc_X7 vi_X7 rfl (by decide) kf_X7_15 dX7_members_13 ?_
    refine lv_iload_n (pc := 16) hx hb dX7_members_16 rfl (lv_at hl 2 rfl) ?_
    refine s_iald (pc := 17) F w ds_123 h dX7_members_17 (fun h => ?_)
    refine lv_icmp_ge (pc := 18) (tgt := 38) hx hb dX7_members_18 (by decide) (fun q => ?_) (fun q => ?_)
    · have h := ite_t q h
      refine s_nm h (fun z1 ez1 h => ?_)
      refine lv_iinc (pc := 38) (v := z1) (lv' := [(2, .int z1), (0, .ref (ad 72)), (1, .int x1), (3, .int x3)]) hx hb dX7_members_38 hl (k := 2) rfl (by rw [ez1]; rfl) (by decide) rfl (fun ls hl => ?_)
      refine lv_goto (pc := 41) (tgt := 4) hx hb dX7_members_41 (by decide) ?_
      exact hK4 _ _ _ h _ _ _ w (lv_sub hl [1, 2, 0] rfl)
    · have h := ite_f q h
      refine lv_iload_n (pc := 21) hx hb dX7_members_21 rfl (lv_at hl 1 rfl) ?_
      refine lv_iconst (pc := 22) (v := 1) hx hb dX7_members_22 (by decide) ?_
      refine lv_aload_n (pc := 23) hx hb dX7_members_23 rfl (lv_at hl 0 rfl) ?_
      refine lv_iload_n (pc := 24) hx hb dX7_members_24 rfl (lv_at hl 2 rfl) ?_
      refine lv_iload_n (pc := 25) hx hb dX7_members_25 rfl (lv_at hl 3 rfl) ?_
      obtain ⟨r3, S2, hc, h⟩ := bnd_t h
      refine s_cvi (pc := 26) [.int x2, .int x3] (fun ad => [.ref (ad 72), .int x2, .int x3]) F w (m_Stacks_wagonAt_start _ _ _ _ _ hc) rfl rfl hl.1 ds_72 vc_X7 rfl ok_X7_wagonAt rfl kc_X7_wagonAt kl_X7_34 ki_X7_wagonAt kv_X7_wagonAt kn_X7 ⟨Nat.le_trans (by decide) hR1, Nat.le_trans (by decide) hR2⟩ ⟨Nat.zero_le _, Nat.zero_le _⟩ (Nat.le_of_ble_eq_true rfl) dX7_members_26 (fun H locs w => ?_)
      refine lv_ishl (pc := 29) hx hb dX7_members_29 ?_
      refine lv_ior (pc := 30) hx hb dX7_members_30 ?_
      refine s_nm h (fun z4 ez4 h => ?_)
      rw [← ez4]
      refine lv_istore_n (pc := 31) (lv' := [(1, .int z4), (0, .ref (ad 72)), (2, .int x2), (3, .int x3)]) hx hb dX7_members_31 rfl hl (by decide) rfl (fun ls hl => ?_)
      refine s_nm h (fun z5 ez5 h => ?_)
      refine lv_iinc (pc := 32) (v := z5) (lv' := [(3, .int z5), (1, .int z4), (0, .ref (ad 72)), (2, .int x2)]) hx hb dX7_members_32 hl (k := 3) rfl (by rw [ez5]; rfl) (by decide) rfl (fun ls hl => ?_)
      refine lv_goto (pc := 35) (tgt := 11) hx hb dX7_members_35 (by decide) ?_
      exact ih _ _ _ _ h _ _ _ w (lv_sub hl [2, 1, 3, 0] rfl)
set_option maxRecDepth 100000 in
set_option maxHeartbeats 4000000 in
theorem w_Stacks_members_start_L4 {p : Program} {l : Launch} {e : Env} {R : Room} {s : State} {m : MethodId} {args : Array Value} {below : List Frame} {meth : Method} {c : Code} {dC : Nat → ClassId} {dI : Nat → Nat → Nat} {cs : Nat → ClassId} {ad : Nat → Nat} {A : Nat → Prop} {D0 : Nat → Nat} {S' : SS} {r : Int32} (F : Fx p s m args meth c cX7_members 4 RX7 (some .int) dC dI cs A) (hR1 : 1 ≤ R.frames) (hR2 : 23 ≤ R.locals) : ∀ (n : Nat) (x1 : Int32) (x2 : Int32) (S : SS), f_Stacks_members_start_L4 n x1 x2 S = some (r, S') → AW p l e R s m args below meth c dC dI cs ad A D0 (some (.int r)) S' 4 4 [(0, .ref (ad 72)), (1, .int x1), (2, .int x2)] [] S := by
  have hx := F.1.1
  have hb := F.1.2.1
  intro n
  induction n with
  | zero => intro x1 x2 S h; cases h
  | succ n ih =>
    intro x1 x2 S h H locs ls w hl
    rw [f_Stacks_members_start_L4] at h
    refine lv_iload_n (pc := 4) hx hb dX7_members_4 rfl (lv_at hl 2 rfl) ?_
    refine lv_iconst (pc := 5) (v := 4) hx hb dX7_members_5 (by decide) ?_
    refine lv_icmp_ge (pc := 6) (tgt := 44) hx hb dX7_members_6 (by decide) (fun q => ?_) (fun q => ?_)
    · have h := ite_t q h
      refine lv_iload_n (pc := 44) hx hb dX7_members_44 rfl (lv_at hl 1 rfl) ?_
      exact s_iret F w h dX7_members_45
    · have h := ite_f q h
      refine lv_iconst (pc := 9) (v := 0) hx hb dX7_members_9 (by decide) ?_
      refine lv_istore_n (pc := 10) (lv' := [(3, .int (0 : Int32)), (0, .ref (ad 72)), (1, .int x1), (2, .int x2)]) hx hb dX7_members_10 rfl hl (by decide) rfl (fun ls hl => ?_)
      exact w_Stacks_members_start_L11 F (Nat.le_trans (by decide) hR1) (Nat.le_trans (by decide) hR2) _ (fun v0 v1 S h => ih v0 v1 S h) _ _ _ _ _ h _ _ _ w (lv_sub hl [1, 2, 3, 0] rfl)
set_option maxRecDepth 100000 in
set_option maxHeartbeats 4000000 in
theorem m_Stacks_members_start  (S S' : SS) (r : Int32) (h : f_Stacks_members_start  S = some (r, S')) : MT yX7_members cX7_members 4 (some .int) 1 23 (fun ad => [.ref (ad 72)]) S (some (.int r)) S' := by
  refine MT.of RX7 (fun ad => [(0, .ref (ad 72))]) (by decide) rfl (fun _ => Nat.le_of_ble_eq_true rfl) (fun _ => rfl) ?_
  intro p l e R s m args below meth c dC dI cs ad A hR1 hR2 F H locs ls w hl
  have hx := F.1.1
  have hb := F.1.2.1
  rw [f_Stacks_members_start] at h
  refine lv_iconst (pc := 0) (v := 0) hx hb dX7_members_0 (by decide) ?_
  refine lv_istore_n (pc := 1) (lv' := [(1, .int (0 : Int32)), (0, .ref (ad 72))]) hx hb dX7_members_1 rfl hl (by decide) rfl (fun ls hl => ?_)
  refine lv_iconst (pc := 2) (v := 0) hx hb dX7_members_2 (by decide) ?_
  refine lv_istore_n (pc := 3) (lv' := [(2, .int (0 : Int32)), (1, .int (0 : Int32)), (0, .ref (ad 72))]) hx hb dX7_members_3 rfl hl (by decide) rfl (fun ls hl => ?_)
  exact w_Stacks_members_start_L4 F (Nat.le_trans (by decide) hR1) (Nat.le_trans (by decide) hR2) _ _ _ _ h _ _ _ w (lv_sub hl [2, 1, 0] rfl)
def f_Integer_bitCount_0f7a4 (a0 : Int32) (S : SS) : Option (Int32 × SS) :=
  nm (a0 - (((a0.toUInt32 >>> ((1 : Int32).toUInt32 &&& Int32.toUInt32 31)).toInt32) &&& (1431655765 : Int32))) (fun z1 =>
  nm ((z1 &&& (858993459 : Int32)) + (((z1.toUInt32 >>> ((2 : Int32).toUInt32 &&& Int32.toUInt32 31)).toInt32) &&& (858993459 : Int32))) (fun z2 =>
  nm ((z2 + ((z2.toUInt32 >>> ((4 : Int32).toUInt32 &&& Int32.toUInt32 31)).toInt32)) &&& (252645135 : Int32)) (fun z3 =>
  nm (z3 + ((z3.toUInt32 >>> ((8 : Int32).toUInt32 &&& Int32.toUInt32 31)).toInt32)) (fun z4 =>
  nm (z4 + ((z4.toUInt32 >>> ((16 : Int32).toUInt32 &&& Int32.toUInt32 31)).toInt32)) (fun z5 =>
  some (z5 &&& (63 : Int32), S))))))
theorem dJ6_bitCount_0f7a4_0 : decode cJ6_bitCount_0f7a4 0 = .ok (.iload_n 0, 1) := dc_26 (by decide +kernel)
theorem dJ6_bitCount_0f7a4_1 : decode cJ6_bitCount_0f7a4 1 = .ok (.iload_n 0, 1) := dc_26 (by decide +kernel)
theorem dJ6_bitCount_0f7a4_2 : decode cJ6_bitCount_0f7a4 2 = .ok (.iconst 1, 1) := dc_4 (by decide +kernel)
theorem dJ6_bitCount_0f7a4_3 : decode cJ6_bitCount_0f7a4 3 = .ok (.iushr, 1) := dc_124 (by decide +kernel)
theorem dJ6_bitCount_0f7a4_4 : decode cJ6_bitCount_0f7a4 4 = .ok (.ldc_w 265, 3) := dc_19 (a := 1) (b := 9) (by decide +kernel)
theorem dJ6_bitCount_0f7a4_7 : decode cJ6_bitCount_0f7a4 7 = .ok (.iand, 1) := dc_126 (by decide +kernel)
theorem dJ6_bitCount_0f7a4_8 : decode cJ6_bitCount_0f7a4 8 = .ok (.isub, 1) := dc_100 (by decide +kernel)
theorem dJ6_bitCount_0f7a4_9 : decode cJ6_bitCount_0f7a4 9 = .ok (.istore_n 0, 1) := dc_59 (by decide +kernel)
theorem dJ6_bitCount_0f7a4_10 : decode cJ6_bitCount_0f7a4 10 = .ok (.iload_n 0, 1) := dc_26 (by decide +kernel)
theorem dJ6_bitCount_0f7a4_11 : decode cJ6_bitCount_0f7a4 11 = .ok (.ldc_w 266, 3) := dc_19 (a := 1) (b := 10) (by decide +kernel)
theorem dJ6_bitCount_0f7a4_14 : decode cJ6_bitCount_0f7a4 14 = .ok (.iand, 1) := dc_126 (by decide +kernel)
theorem dJ6_bitCount_0f7a4_15 : decode cJ6_bitCount_0f7a4 15 = .ok (.iload_n 0, 1) := dc_26 (by decide +kernel)
theorem dJ6_bitCount_0f7a4_16 : decode cJ6_bitCount_0f7a4 16 = .ok (.iconst 2, 1) := dc_5 (by decide +kernel)
theorem dJ6_bitCount_0f7a4_17 : decode cJ6_bitCount_0f7a4 17 = .ok (.iushr, 1) := dc_124 (by decide +kernel)
theorem dJ6_bitCount_0f7a4_18 : decode cJ6_bitCount_0f7a4 18 = .ok (.ldc_w 266, 3) := dc_19 (a := 1) (b := 10) (by decide +kernel)
theorem dJ6_bitCount_0f7a4_21 : decode cJ6_bitCount_0f7a4 21 = .ok (.iand, 1) := dc_126 (by decide +kernel)
theorem dJ6_bitCount_0f7a4_22 : decode cJ6_bitCount_0f7a4 22 = .ok (.iadd, 1) := dc_96 (by decide +kernel)
theorem dJ6_bitCount_0f7a4_23 : decode cJ6_bitCount_0f7a4 23 = .ok (.istore_n 0, 1) := dc_59 (by decide +kernel)
theorem dJ6_bitCount_0f7a4_24 : decode cJ6_bitCount_0f7a4 24 = .ok (.iload_n 0, 1) := dc_26 (by decide +kernel)
theorem dJ6_bitCount_0f7a4_25 : decode cJ6_bitCount_0f7a4 25 = .ok (.iload_n 0, 1) := dc_26 (by decide +kernel)
theorem dJ6_bitCount_0f7a4_26 : decode cJ6_bitCount_0f7a4 26 = .ok (.iconst 4, 1) := dc_7 (by decide +kernel)
theorem dJ6_bitCount_0f7a4_27 : decode cJ6_bitCount_0f7a4 27 = .ok (.iushr, 1) := dc_124 (by decide +kernel)
theorem dJ6_bitCount_0f7a4_28 : decode cJ6_bitCount_0f7a4 28 = .ok (.iadd, 1) := dc_96 (by decide +kernel)
theorem dJ6_bitCount_0f7a4_29 : decode cJ6_bitCount_0f7a4 29 = .ok (.ldc_w 267, 3) := dc_19 (a := 1) (b := 11) (by decide +kernel)
theorem dJ6_bitCount_0f7a4_32 : decode cJ6_bitCount_0f7a4 32 = .ok (.iand, 1) := dc_126 (by decide +kernel)
theorem dJ6_bitCount_0f7a4_33 : decode cJ6_bitCount_0f7a4 33 = .ok (.istore_n 0, 1) := dc_59 (by decide +kernel)
theorem dJ6_bitCount_0f7a4_34 : decode cJ6_bitCount_0f7a4 34 = .ok (.iload_n 0, 1) := dc_26 (by decide +kernel)
theorem dJ6_bitCount_0f7a4_35 : decode cJ6_bitCount_0f7a4 35 = .ok (.iload_n 0, 1) := dc_26 (by decide +kernel)
theorem dJ6_bitCount_0f7a4_36 : decode cJ6_bitCount_0f7a4 36 = .ok (.bipush 8, 2) := dc_16 (a := 8) (by decide +kernel) (by decide)
theorem dJ6_bitCount_0f7a4_38 : decode cJ6_bitCount_0f7a4 38 = .ok (.iushr, 1) := dc_124 (by decide +kernel)
theorem dJ6_bitCount_0f7a4_39 : decode cJ6_bitCount_0f7a4 39 = .ok (.iadd, 1) := dc_96 (by decide +kernel)
theorem dJ6_bitCount_0f7a4_40 : decode cJ6_bitCount_0f7a4 40 = .ok (.istore_n 0, 1) := dc_59 (by decide +kernel)
theorem dJ6_bitCount_0f7a4_41 : decode cJ6_bitCount_0f7a4 41 = .ok (.iload_n 0, 1) := dc_26 (by decide +kernel)
theorem dJ6_bitCount_0f7a4_42 : decode cJ6_bitCount_0f7a4 42 = .ok (.iload_n 0, 1) := dc_26 (by decide +kernel)
theorem dJ6_bitCount_0f7a4_43 : decode cJ6_bitCount_0f7a4 43 = .ok (.bipush 16, 2) := dc_16 (a := 16) (by decide +kernel) (by decide)
theorem dJ6_bitCount_0f7a4_45 : decode cJ6_bitCount_0f7a4 45 = .ok (.iushr, 1) := dc_124 (by decide +kernel)
theorem dJ6_bitCount_0f7a4_46 : decode cJ6_bitCount_0f7a4 46 = .ok (.iadd, 1) := dc_96 (by decide +kernel)
theorem dJ6_bitCount_0f7a4_47 : decode cJ6_bitCount_0f7a4 47 = .ok (.istore_n 0, 1) := dc_59 (by decide +kernel)
theorem dJ6_bitCount_0f7a4_48 : decode cJ6_bitCount_0f7a4 48 = .ok (.iload_n 0, 1) := dc_26 (by decide +kernel)
theorem dJ6_bitCount_0f7a4_49 : decode cJ6_bitCount_0f7a4 49 = .ok (.bipush 63, 2) := dc_16 (a := 63) (by decide +kernel) (by decide)
theorem dJ6_bitCount_0f7a4_51 : decode cJ6_bitCount_0f7a4 51 = .ok (.iand, 1) := dc_126 (by decide +kernel)
theorem dJ6_bitCount_0f7a4_52 : decode cJ6_bitCount_0f7a4 52 = .ok (.ireturn, 1) := dc_172 (by decide +kernel)
set_option maxRecDepth 100000 in
set_option maxHeartbeats 4000000 in
theorem m_Integer_bitCount_0f7a4 (a0 : Int32) (S S' : SS) (r : Int32) (h : f_Integer_bitCount_0f7a4 a0 S = some (r, S')) : MT yJ6_bitCount_0f7a4 cJ6_bitCount_0f7a4 1 (some .int) 0 0 (fun ad => [.int a0]) S (some (.int r)) S' := by
  refine MT.ofF RJ6 (fun ad => [(0, .int a0)]) (by decide +kernel) rfl (fun _ => Nat.le_of_ble_eq_true rfl) (fun _ => rfl) ?_
  intro p l e R s m args below meth c dC dI cs ad A hR1 hR2 F H locs ls w hl
  have hx := F.1.1
  have hb := F.1.2.1
  rw [f_Integer_bitCount_0f7a4] at h
  refine lv_iload_n (pc := 0) hx hb dJ6_bitCount_0f7a4_0 rfl (lv_at hl 0 rfl) ?_
  refine lv_iload_n (pc := 1) hx hb dJ6_bitCount_0f7a4_1 rfl (lv_at hl 0 rfl) ?_
  refine lv_iconst (pc := 2) (v := 1) hx hb dJ6_bitCount_0f7a4_2 (by decide) ?_
  refine lv_iushr (pc := 3) hx hb dJ6_bitCount_0f7a4_3 rfl ?_
  refine lv_ldcw (pc := 4) (v := 1431655765) hx hb F.1.2.2.2.1 (F.1.2.2.2.2 _ kk_J6_265) dJ6_bitCount_0f7a4_4 ?_
  refine lv_iand (pc := 7) hx hb dJ6_bitCount_0f7a4_7 ?_
  refine lv_isub (pc := 8) hx hb dJ6_bitCount_0f7a4_8 ?_
  refine s_nm h (fun z1 ez1 h => ?_)
  rw [← ez1]
  refine lv_istore_n (pc := 9) (lv' := [(0, .int z1)]) hx hb dJ6_bitCount_0f7a4_9 rfl hl (by decide) rfl (fun ls hl => ?_)
  refine lv_iload_n (pc := 10) hx hb dJ6_bitCount_0f7a4_10 rfl (lv_at hl 0 rfl) ?_
  refine lv_ldcw (pc := 11) (v := 858993459) hx hb F.1.2.2.2.1 (F.1.2.2.2.2 _ kk_J6_266) dJ6_bitCount_0f7a4_11 ?_
  refine lv_iand (pc := 14) hx hb dJ6_bitCount_0f7a4_14 ?_
  refine lv_iload_n (pc := 15) hx hb dJ6_bitCount_0f7a4_15 rfl (lv_at hl 0 rfl) ?_
  refine lv_iconst (pc := 16) (v := 2) hx hb dJ6_bitCount_0f7a4_16 (by decide) ?_
  refine lv_iushr (pc := 17) hx hb dJ6_bitCount_0f7a4_17 rfl ?_
  refine lv_ldcw (pc := 18) (v := 858993459) hx hb F.1.2.2.2.1 (F.1.2.2.2.2 _ kk_J6_266) dJ6_bitCount_0f7a4_18 ?_
  refine lv_iand (pc := 21) hx hb dJ6_bitCount_0f7a4_21 ?_
  refine lv_iadd (pc := 22) hx hb dJ6_bitCount_0f7a4_22 ?_
  refine s_nm h (fun z2 ez2 h => ?_)
  rw [← ez2]
  refine lv_istore_n (pc := 23) (lv' := [(0, .int z2)]) hx hb dJ6_bitCount_0f7a4_23 rfl hl (by decide) rfl (fun ls hl => ?_)
  refine lv_iload_n (pc := 24) hx hb dJ6_bitCount_0f7a4_24 rfl (lv_at hl 0 rfl) ?_
  refine lv_iload_n (pc := 25) hx hb dJ6_bitCount_0f7a4_25 rfl (lv_at hl 0 rfl) ?_
  refine lv_iconst (pc := 26) (v := 4) hx hb dJ6_bitCount_0f7a4_26 (by decide) ?_
  refine lv_iushr (pc := 27) hx hb dJ6_bitCount_0f7a4_27 rfl ?_
  refine lv_iadd (pc := 28) hx hb dJ6_bitCount_0f7a4_28 ?_
  refine lv_ldcw (pc := 29) (v := 252645135) hx hb F.1.2.2.2.1 (F.1.2.2.2.2 _ kk_J6_267) dJ6_bitCount_0f7a4_29 ?_
  refine lv_iand (pc := 32) hx hb dJ6_bitCount_0f7a4_32 ?_
  refine s_nm h (fun z3 ez3 h => ?_)
  rw [← ez3]
  refine lv_istore_n (pc := 33) (lv' := [(0, .int z3)]) hx hb dJ6_bitCount_0f7a4_33 rfl hl (by decide) rfl (fun ls hl => ?_)
  refine lv_iload_n (pc := 34) hx hb dJ6_bitCount_0f7a4_34 rfl (lv_at hl 0 rfl) ?_
  refine lv_iload_n (pc := 35) hx hb dJ6_bitCount_0f7a4_35 rfl (lv_at hl 0 rfl) ?_
  refine lv_bipush (pc := 36) (v := 8) hx hb dJ6_bitCount_0f7a4_36 (by decide) ?_
  refine lv_iushr (pc := 38) hx hb dJ6_bitCount_0f7a4_38 rfl ?_
  refine lv_iadd (pc := 39) hx hb dJ6_bitCount_0f7a4_39 ?_
  refine s_nm h (fun z4 ez4 h => ?_)
  rw [← ez4]
  refine lv_istore_n (pc := 40) (lv' := [(0, .int z4)]) hx hb dJ6_bitCount_0f7a4_40 rfl hl (by decide) rfl (fun ls hl => ?_)
  refine lv_iload_n (pc := 41) hx hb dJ6_bitCount_0f7a4_41 rfl (lv_at hl 0 rfl) ?_
  refine lv_iload_n (pc := 42) hx hb dJ6_bitCount_0f7a4_42 rfl (lv_at hl 0 rfl) ?_
  refine lv_bipush (pc := 43) (v := 16) hx hb dJ6_bitCount_0f7a4_43 (by decide) ?_
  refine lv_iushr (pc := 45) hx hb dJ6_bitCount_0f7a4_45 rfl ?_
  refine lv_iadd (pc := 46) hx hb dJ6_bitCount_0f7a4_46 ?_
  refine s_nm h (fun z5 ez5 h => ?_)
  rw [← ez5]
  refine lv_istore_n (pc := 47) (lv' := [(0, .int z5)]) hx hb dJ6_bitCount_0f7a4_47 rfl hl (by decide) rfl (fun ls hl => ?_)
  refine lv_iload_n (pc := 48) hx hb dJ6_bitCount_0f7a4_48 rfl (lv_at hl 0 rfl) ?_
  refine lv_bipush (pc := 49) (v := 63) hx hb dJ6_bitCount_0f7a4_49 (by decide) ?_
  refine lv_iand (pc := 51) hx hb dJ6_bitCount_0f7a4_51 ?_
  exact s_iret F w h dJ6_bitCount_0f7a4_52
def f_Arrays_fill_53178_start_heights_L5  : Nat → Int32 → Int32 → Int32 → SS → Option (SS)
  | 0, _, _, _, _ => none
  | n + 1, x1, x2, x3, S =>
    if x3 ≤ x2 then
      some S
    else
      grd (inb x2 4) (wr S 123 x2.toNatClampNeg x1 (fun S2 =>
      nm (x2 + (1 : Int32)) (fun z3 =>
      f_Arrays_fill_53178_start_heights_L5 n x1 z3 x3 S2)))
def f_Arrays_fill_53178_start_heights (a1 : Int32) (S : SS) : Option (SS) :=
  nm (Int32.ofNat 4) (fun z1 =>
  f_Arrays_fill_53178_start_heights_L5 NF a1 (0 : Int32) z1 S)
theorem dJ7_fill_53178_0 : decode cJ7_fill_53178 0 = .ok (.iconst 0, 1) := dc_3 (by decide +kernel)
theorem dJ7_fill_53178_1 : decode cJ7_fill_53178 1 = .ok (.istore_n 2, 1) := dc_61 (by decide +kernel)
theorem dJ7_fill_53178_2 : decode cJ7_fill_53178 2 = .ok (.aload_n 0, 1) := dc_42 (by decide +kernel)
theorem dJ7_fill_53178_3 : decode cJ7_fill_53178 3 = .ok (.arraylength, 1) := dc_190 (by decide +kernel)
theorem dJ7_fill_53178_4 : decode cJ7_fill_53178 4 = .ok (.istore_n 3, 1) := dc_62 (by decide +kernel)
theorem dJ7_fill_53178_5 : decode cJ7_fill_53178 5 = .ok (.iload_n 2, 1) := dc_28 (by decide +kernel)
theorem dJ7_fill_53178_6 : decode cJ7_fill_53178 6 = .ok (.iload_n 3, 1) := dc_29 (by decide +kernel)
theorem dJ7_fill_53178_7 : decode cJ7_fill_53178 7 = .ok (.if_icmp .ge 13, 3) := dc_162 (a := 0) (b := 13) (by decide +kernel) (by decide)
theorem dJ7_fill_53178_10 : decode cJ7_fill_53178 10 = .ok (.aload_n 0, 1) := dc_42 (by decide +kernel)
theorem dJ7_fill_53178_11 : decode cJ7_fill_53178 11 = .ok (.iload_n 2, 1) := dc_28 (by decide +kernel)
theorem dJ7_fill_53178_12 : decode cJ7_fill_53178 12 = .ok (.iload_n 1, 1) := dc_27 (by decide +kernel)
theorem dJ7_fill_53178_13 : decode cJ7_fill_53178 13 = .ok (.iastore, 1) := dc_79 (by decide +kernel)
theorem dJ7_fill_53178_14 : decode cJ7_fill_53178 14 = .ok (.iinc 2 1, 3) := dc_132 (a := 2) (b := 1) (by decide +kernel) (by decide)
theorem dJ7_fill_53178_17 : decode cJ7_fill_53178 17 = .ok (.goto (-12), 3) := dc_167 (a := 255) (b := 244) (by decide +kernel) (by decide)
theorem dJ7_fill_53178_20 : decode cJ7_fill_53178 20 = .ok (.return_, 1) := dc_177 (by decide +kernel)
set_option maxRecDepth 100000 in
set_option maxHeartbeats 4000000 in
theorem w_Arrays_fill_53178_start_heights_L5 {p : Program} {l : Launch} {e : Env} {R : Room} {s : State} {m : MethodId} {args : Array Value} {below : List Frame} {meth : Method} {c : Code} {dC : Nat → ClassId} {dI : Nat → Nat → Nat} {cs : Nat → ClassId} {ad : Nat → Nat} {A : Nat → Prop} {D0 : Nat → Nat} {S' : SS} (F : Fx p s m args meth c cJ7_fill_53178 4 RJ7 none dC dI cs A) (hR1 : 0 ≤ R.frames) (hR2 : 0 ≤ R.locals) : ∀ (n : Nat) (x1 : Int32) (x2 : Int32) (x3 : Int32) (S : SS), f_Arrays_fill_53178_start_heights_L5 n x1 x2 x3 S = some S' → AW p l e R s m args below meth c dC dI cs ad A D0 none S' 4 5 [(0, .ref (ad 123)), (1, .int x1), (2, .int x2), (3, .int x3)] [] S := by
  have hx := F.1.1
  have hb := F.1.2.1
  intro n
  induction n with
  | zero => intro x1 x2 x3 S h; cases h
  | succ n ih =>
    intro x1 x2 x3 S h H locs ls w hl
    rw [f_Arrays_fill_53178_start_heights_L5] at h
    refine lv_iload_n (pc := 5) hx hb dJ7_fill_53178_5 rfl (lv_at hl 2 rfl) ?_
    refine lv_iload_n (pc := 6) hx hb dJ7_fill_53178_6 rfl (lv_at hl 3 rfl) ?_
    refine lv_icmp_ge (pc := 7) (tgt := 20) hx hb dJ7_fill_53178_7 (by decide) (fun q => ?_) (fun q => ?_)
    · have h := ite_t q h
      exact s_vret F w h dJ7_fill_53178_20
    · have h := ite_f q h
      refine lv_aload_n (pc := 10) hx hb dJ7_fill_53178_10 rfl (lv_at hl 0 rfl) ?_
      refine lv_iload_n (pc := 11) hx hb dJ7_fill_53178_11 rfl (lv_at hl 2 rfl) ?_
      refine lv_iload_n (pc := 12) hx hb dJ7_fill_53178_12 rfl (lv_at hl 1 rfl) ?_
      refine s_iast (pc := 13) F w ds_123 h dJ7_fill_53178_13 (fun S2 H locs h w => ?_)
      refine s_nm h (fun z3 ez3 h => ?_)
      refine lv_iinc (pc := 14) (v := z3) (lv' := [(2, .int z3), (0, .ref (ad 123)), (1, .int x1), (3, .int x3)]) hx hb dJ7_fill_53178_14 hl (k := 2) rfl (by rw [ez3]; rfl) (by decide) rfl (fun ls hl => ?_)
      refine lv_goto (pc := 17) (tgt := 5) hx hb dJ7_fill_53178_17 (by decide) ?_
      exact ih _ _ _ _ h _ _ _ w (lv_sub hl [1, 2, 0, 3] rfl)
set_option maxRecDepth 100000 in
set_option maxHeartbeats 4000000 in
theorem m_Arrays_fill_53178_start_heights (a1 : Int32) (S S' : SS) (h : f_Arrays_fill_53178_start_heights a1 S = some S') : MT yJ7_fill_53178 cJ7_fill_53178 4 none 0 0 (fun ad => [.ref (ad 123), .int a1]) S none S' := by
  refine MT.ofF RJ7 (fun ad => [(0, .ref (ad 123)), (1, .int a1)]) (by decide +kernel) rfl (fun _ => Nat.le_of_ble_eq_true rfl) (fun _ => rfl) ?_
  intro p l e R s m args below meth c dC dI cs ad A hR1 hR2 F H locs ls w hl
  have hx := F.1.1
  have hb := F.1.2.1
  rw [f_Arrays_fill_53178_start_heights] at h
  refine lv_iconst (pc := 0) (v := 0) hx hb dJ7_fill_53178_0 (by decide) ?_
  refine lv_istore_n (pc := 1) (lv' := [(2, .int (0 : Int32)), (0, .ref (ad 123)), (1, .int a1)]) hx hb dJ7_fill_53178_1 rfl hl (by decide) rfl (fun ls hl => ?_)
  refine lv_aload_n (pc := 2) hx hb dJ7_fill_53178_2 rfl (lv_at hl 1 rfl) ?_
  refine s_alen (pc := 3) F w ds_123 dJ7_fill_53178_3 ?_
  show W _ _ _ _ _ _ _ _ _ _ _ _ _ _ _ (F0 _ _ _ (.int (Int32.ofNat 4) :: _))
  refine s_nm h (fun z1 ez1 h => ?_)
  rw [← ez1]
  refine lv_istore_n (pc := 4) (lv' := [(3, .int z1), (2, .int (0 : Int32)), (0, .ref (ad 123)), (1, .int a1)]) hx hb dJ7_fill_53178_4 rfl hl (by decide) rfl (fun ls hl => ?_)
  exact w_Arrays_fill_53178_start_heights_L5 F (Nat.le_trans (by decide) hR1) (Nat.le_trans (by decide) hR2) _ _ _ _ _ h _ _ _ w (lv_sub hl [2, 3, 1, 0] rfl)
def f_Stacks_empty_start  (S : SS) : Option (SS) :=
  bndv (f_Arrays_fill_53178_start_heights (0 : Int32) S) (fun S1 =>
  some S1)
theorem dX7_empty_0 : decode cX7_empty 0 = .ok (.aload_n 0, 1) := dc_42 (by decide +kernel)
theorem dX7_empty_1 : decode cX7_empty 1 = .ok (.getfield 15, 3) := dc_180 (a := 0) (b := 15) (by decide +kernel)
theorem dX7_empty_4 : decode cX7_empty 4 = .ok (.iconst 0, 1) := dc_3 (by decide +kernel)
theorem dX7_empty_5 : decode cX7_empty 5 = .ok (.invokestatic 18, 3) := dc_184 (a := 0) (b := 18) (by decide +kernel)
theorem dX7_empty_8 : decode cX7_empty 8 = .ok (.return_, 1) := dc_177 (by decide +kernel)
set_option maxRecDepth 100000 in
set_option maxHeartbeats 4000000 in
theorem m_Stacks_empty_start  (S S' : SS) (h : f_Stacks_empty_start  S = some S') : MT yX7_empty cX7_empty 1 none 1 23 (fun ad => [.ref (ad 72)]) S none S' := by
  refine MT.of RX7 (fun ad => [(0, .ref (ad 72))]) (by decide) rfl (fun _ => Nat.le_of_ble_eq_true rfl) (fun _ => rfl) ?_
  intro p l e R s m args below meth c dC dI cs ad A hR1 hR2 F H locs ls w hl
  have hx := F.1.1
  have hb := F.1.2.1
  rw [f_Stacks_empty_start] at h
  refine lv_aload_n (pc := 0) hx hb dX7_empty_0 rfl (lv_at hl 0 rfl) ?_
  refine s_getR (pc := 1) F w 123 ds_72 (j := 1) vc_X7 vi_X7 rfl (by decide) kf_X7_15 dX7_empty_1 ?_
  refine lv_iconst (pc := 4) (v := 0) hx hb dX7_empty_4 (by decide) ?_
  obtain ⟨S1, hc, h⟩ := bndv_t h
  refine s_csv (pc := 5) [.ref (ad 123), .int (0 : Int32)] (fun ad => [.ref (ad 123), .int (0 : Int32)]) F w (m_Arrays_fill_53178_start_heights _ _ _ hc) rfl rfl hl.1 ok_J7_fill_53178 rfl kc_J7_fill_53178 kl_X7_18 ks_J7_fill_53178 kn_J7 ⟨Nat.le_trans (by decide) hR1, Nat.le_trans (by decide) hR2⟩ ⟨Nat.zero_le _, Nat.zero_le _⟩ (Nat.le_of_ble_eq_true rfl) dX7_empty_5 (fun H locs w => ?_)
  exact s_vret F w h dX7_empty_8
def f_Arrays_fill_53178_goal_heights_L5  : Nat → Int32 → Int32 → Int32 → SS → Option (SS)
  | 0, _, _, _, _ => none
  | n + 1, x1, x2, x3, S =>
    if x3 ≤ x2 then
      some S
    else
      grd (inb x2 4) (wr S 125 x2.toNatClampNeg x1 (fun S2 =>
      nm (x2 + (1 : Int32)) (fun z3 =>
      f_Arrays_fill_53178_goal_heights_L5 n x1 z3 x3 S2)))
def f_Arrays_fill_53178_goal_heights (a1 : Int32) (S : SS) : Option (SS) :=
  nm (Int32.ofNat 4) (fun z1 =>
  f_Arrays_fill_53178_goal_heights_L5 NF a1 (0 : Int32) z1 S)
set_option maxRecDepth 100000 in
set_option maxHeartbeats 4000000 in
theorem w_Arrays_fill_53178_goal_heights_L5 {p : Program} {l : Launch} {e : Env} {R : Room} {s : State} {m : MethodId} {args : Array Value} {below : List Frame} {meth : Method} {c : Code} {dC : Nat → ClassId} {dI : Nat → Nat → Nat} {cs : Nat → ClassId} {ad : Nat → Nat} {A : Nat → Prop} {D0 : Nat → Nat} {S' : SS} (F : Fx p s m args meth c cJ7_fill_53178 4 RJ7 none dC dI cs A) (hR1 : 0 ≤ R.frames) (hR2 : 0 ≤ R.locals) : ∀ (n : Nat) (x1 : Int32) (x2 : Int32) (x3 : Int32) (S : SS), f_Arrays_fill_53178_goal_heights_L5 n x1 x2 x3 S = some S' → AW p l e R s m args below meth c dC dI cs ad A D0 none S' 4 5 [(0, .ref (ad 125)), (1, .int x1), (2, .int x2), (3, .int x3)] [] S := by
  have hx := F.1.1
  have hb := F.1.2.1
  intro n
  induction n with
  | zero => intro x1 x2 x3 S h; cases h
  | succ n ih =>
    intro x1 x2 x3 S h H locs ls w hl
    rw [f_Arrays_fill_53178_goal_heights_L5] at h
    refine lv_iload_n (pc := 5) hx hb dJ7_fill_53178_5 rfl (lv_at hl 2 rfl) ?_
    refine lv_iload_n (pc := 6) hx hb dJ7_fill_53178_6 rfl (lv_at hl 3 rfl) ?_
    refine lv_icmp_ge (pc := 7) (tgt := 20) hx hb dJ7_fill_53178_7 (by decide) (fun q => ?_) (fun q => ?_)
    · have h := ite_t q h
      exact s_vret F w h dJ7_fill_53178_20
    · have h := ite_f q h
      refine lv_aload_n (pc := 10) hx hb dJ7_fill_53178_10 rfl (lv_at hl 0 rfl) ?_
      refine lv_iload_n (pc := 11) hx hb dJ7_fill_53178_11 rfl (lv_at hl 2 rfl) ?_
      refine lv_iload_n (pc := 12) hx hb dJ7_fill_53178_12 rfl (lv_at hl 1 rfl) ?_
      refine s_iast (pc := 13) F w ds_125 h dJ7_fill_53178_13 (fun S2 H locs h w => ?_)
      refine s_nm h (fun z3 ez3 h => ?_)
      refine lv_iinc (pc := 14) (v := z3) (lv' := [(2, .int z3), (0, .ref (ad 125)), (1, .int x1), (3, .int x3)]) hx hb dJ7_fill_53178_14 hl (k := 2) rfl (by rw [ez3]; rfl) (by decide) rfl (fun ls hl => ?_)
      refine lv_goto (pc := 17) (tgt := 5) hx hb dJ7_fill_53178_17 (by decide) ?_
      exact ih _ _ _ _ h _ _ _ w (lv_sub hl [1, 2, 0, 3] rfl)
set_option maxRecDepth 100000 in
set_option maxHeartbeats 4000000 in
theorem m_Arrays_fill_53178_goal_heights (a1 : Int32) (S S' : SS) (h : f_Arrays_fill_53178_goal_heights a1 S = some S') : MT yJ7_fill_53178 cJ7_fill_53178 4 none 0 0 (fun ad => [.ref (ad 125), .int a1]) S none S' := by
  refine MT.ofF RJ7 (fun ad => [(0, .ref (ad 125)), (1, .int a1)]) (by decide +kernel) rfl (fun _ => Nat.le_of_ble_eq_true rfl) (fun _ => rfl) ?_
  intro p l e R s m args below meth c dC dI cs ad A hR1 hR2 F H locs ls w hl
  have hx := F.1.1
  have hb := F.1.2.1
  rw [f_Arrays_fill_53178_goal_heights] at h
  refine lv_iconst (pc := 0) (v := 0) hx hb dJ7_fill_53178_0 (by decide) ?_
  refine lv_istore_n (pc := 1) (lv' := [(2, .int (0 : Int32)), (0, .ref (ad 125)), (1, .int a1)]) hx hb dJ7_fill_53178_1 rfl hl (by decide) rfl (fun ls hl => ?_)
  refine lv_aload_n (pc := 2) hx hb dJ7_fill_53178_2 rfl (lv_at hl 1 rfl) ?_
  refine s_alen (pc := 3) F w ds_125 dJ7_fill_53178_3 ?_
  show W _ _ _ _ _ _ _ _ _ _ _ _ _ _ _ (F0 _ _ _ (.int (Int32.ofNat 4) :: _))
  refine s_nm h (fun z1 ez1 h => ?_)
  rw [← ez1]
  refine lv_istore_n (pc := 4) (lv' := [(3, .int z1), (2, .int (0 : Int32)), (0, .ref (ad 125)), (1, .int a1)]) hx hb dJ7_fill_53178_4 rfl hl (by decide) rfl (fun ls hl => ?_)
  exact w_Arrays_fill_53178_goal_heights_L5 F (Nat.le_trans (by decide) hR1) (Nat.le_trans (by decide) hR2) _ _ _ _ _ h _ _ _ w (lv_sub hl [2, 3, 1, 0] rfl)
def f_Stacks_empty_goal  (S : SS) : Option (SS) :=
  bndv (f_Arrays_fill_53178_goal_heights (0 : Int32) S) (fun S1 =>
  some S1)
set_option maxRecDepth 100000 in
set_option maxHeartbeats 4000000 in
theorem m_Stacks_empty_goal  (S S' : SS) (h : f_Stacks_empty_goal  S = some S') : MT yX7_empty cX7_empty 1 none 1 23 (fun ad => [.ref (ad 73)]) S none S' := by
  refine MT.of RX7 (fun ad => [(0, .ref (ad 73))]) (by decide) rfl (fun _ => Nat.le_of_ble_eq_true rfl) (fun _ => rfl) ?_
  intro p l e R s m args below meth c dC dI cs ad A hR1 hR2 F H locs ls w hl
  have hx := F.1.1
  have hb := F.1.2.1
  rw [f_Stacks_empty_goal] at h
  refine lv_aload_n (pc := 0) hx hb dX7_empty_0 rfl (lv_at hl 0 rfl) ?_
  refine s_getR (pc := 1) F w 125 ds_73 (j := 1) vc_X7 vi_X7 rfl (by decide) kf_X7_15 dX7_empty_1 ?_
  refine lv_iconst (pc := 4) (v := 0) hx hb dX7_empty_4 (by decide) ?_
  obtain ⟨S1, hc, h⟩ := bndv_t h
  refine s_csv (pc := 5) [.ref (ad 125), .int (0 : Int32)] (fun ad => [.ref (ad 125), .int (0 : Int32)]) F w (m_Arrays_fill_53178_goal_heights _ _ _ hc) rfl rfl hl.1 ok_J7_fill_53178 rfl kc_J7_fill_53178 kl_X7_18 ks_J7_fill_53178 kn_J7 ⟨Nat.le_trans (by decide) hR1, Nat.le_trans (by decide) hR2⟩ ⟨Nat.zero_le _, Nat.zero_le _⟩ (Nat.le_of_ble_eq_true rfl) dX7_empty_5 (fun H locs w => ?_)
  exact s_vret F w h dX7_empty_8
def f_Plans_drop  (S : SS) : Option (SS) :=
  wr S 70 8 (0 : Int32) (fun S1 =>
  wr S1 70 7 (0 : Int32) (fun S2 =>
  some S2))
theorem dX3_drop_0 : decode cX3_drop 0 = .ok (.aload_n 0, 1) := dc_42 (by decide +kernel)
theorem dX3_drop_1 : decode cX3_drop 1 = .ok (.iconst 0, 1) := dc_3 (by decide +kernel)
theorem dX3_drop_2 : decode cX3_drop 2 = .ok (.putfield 45, 3) := dc_181 (a := 0) (b := 45) (by decide +kernel)
theorem dX3_drop_5 : decode cX3_drop 5 = .ok (.aload_n 0, 1) := dc_42 (by decide +kernel)
theorem dX3_drop_6 : decode cX3_drop 6 = .ok (.iconst 0, 1) := dc_3 (by decide +kernel)
theorem dX3_drop_7 : decode cX3_drop 7 = .ok (.putfield 41, 3) := dc_181 (a := 0) (b := 41) (by decide +kernel)
theorem dX3_drop_10 : decode cX3_drop 10 = .ok (.return_, 1) := dc_177 (by decide +kernel)
set_option maxRecDepth 100000 in
set_option maxHeartbeats 4000000 in
theorem m_Plans_drop  (S S' : SS) (h : f_Plans_drop  S = some S') : MT yX3_drop cX3_drop 1 none 0 0 (fun ad => [.ref (ad 70)]) S none S' := by
  refine MT.of RX3 (fun ad => [(0, .ref (ad 70))]) (by decide) rfl (fun _ => Nat.le_of_ble_eq_true rfl) (fun _ => rfl) ?_
  intro p l e R s m args below meth c dC dI cs ad A hR1 hR2 F H locs ls w hl
  have hx := F.1.1
  have hb := F.1.2.1
  rw [f_Plans_drop] at h
  refine lv_aload_n (pc := 0) hx hb dX3_drop_0 rfl (lv_at hl 0 rfl) ?_
  refine lv_iconst (pc := 1) (v := 0) hx hb dX3_drop_1 (by decide) ?_
  refine s_putI (pc := 2) F w ds_70 vc_X3 vi_X3 tyX3_ok nmX3 (j := 8) rfl (by decide) kf_X3_45 rfl pd_I h dX3_drop_2 (fun S1 H locs h w => ?_)
  refine lv_aload_n (pc := 5) hx hb dX3_drop_5 rfl (lv_at hl 0 rfl) ?_
  refine lv_iconst (pc := 6) (v := 0) hx hb dX3_drop_6 (by decide) ?_
  refine s_putI (pc := 7) F w ds_70 vc_X3 vi_X3 tyX3_ok nmX3 (j := 7) rfl (by decide) kf_X3_41 rfl pd_I h dX3_drop_7 (fun S2 H locs h w => ?_)
  exact s_vret F w h dX3_drop_10
def f_Plans_clear  (S : SS) : Option (Int32 × SS) :=
  bnd (f_Stacks_members_start  S) (fun r2 S1 =>
  bnd (f_Integer_bitCount_0f7a4 r2 S1) (fun r4 S3 =>
  bndv (f_Stacks_empty_start  S3) (fun S5 =>
  bndv (f_Stacks_empty_goal  S5) (fun S6 =>
  bndv (f_Plans_drop  S6) (fun S7 =>
  some (r4, S7))))))
theorem dX3_clear_0 : decode cX3_clear 0 = .ok (.aload_n 0, 1) := dc_42 (by decide +kernel)
theorem dX3_clear_1 : decode cX3_clear 1 = .ok (.getfield 12, 3) := dc_180 (a := 0) (b := 12) (by decide +kernel)
theorem dX3_clear_4 : decode cX3_clear 4 = .ok (.invokevirtual 65, 3) := dc_182 (a := 0) (b := 65) (by decide +kernel)
theorem dX3_clear_7 : decode cX3_clear 7 = .ok (.invokestatic 69, 3) := dc_184 (a := 0) (b := 69) (by decide +kernel)
theorem dX3_clear_10 : decode cX3_clear 10 = .ok (.istore_n 1, 1) := dc_60 (by decide +kernel)
theorem dX3_clear_11 : decode cX3_clear 11 = .ok (.aload_n 0, 1) := dc_42 (by decide +kernel)
theorem dX3_clear_12 : decode cX3_clear 12 = .ok (.getfield 12, 3) := dc_180 (a := 0) (b := 12) (by decide +kernel)
theorem dX3_clear_15 : decode cX3_clear 15 = .ok (.invokevirtual 74, 3) := dc_182 (a := 0) (b := 74) (by decide +kernel)
theorem dX3_clear_18 : decode cX3_clear 18 = .ok (.aload_n 0, 1) := dc_42 (by decide +kernel)
theorem dX3_clear_19 : decode cX3_clear 19 = .ok (.getfield 18, 3) := dc_180 (a := 0) (b := 18) (by decide +kernel)
theorem dX3_clear_22 : decode cX3_clear 22 = .ok (.invokevirtual 74, 3) := dc_182 (a := 0) (b := 74) (by decide +kernel)
theorem dX3_clear_25 : decode cX3_clear 25 = .ok (.aload_n 0, 1) := dc_42 (by decide +kernel)
theorem dX3_clear_26 : decode cX3_clear 26 = .ok (.invokevirtual 77, 3) := dc_182 (a := 0) (b := 77) (by decide +kernel)
theorem dX3_clear_29 : decode cX3_clear 29 = .ok (.iload_n 1, 1) := dc_27 (by decide +kernel)
theorem dX3_clear_30 : decode cX3_clear 30 = .ok (.ireturn, 1) := dc_172 (by decide +kernel)
set_option maxRecDepth 100000 in
set_option maxHeartbeats 4000000 in
theorem m_Plans_clear  (S S' : SS) (r : Int32) (h : f_Plans_clear  S = some (r, S')) : MT yX3_clear cX3_clear 2 (some .int) 2 46 (fun ad => [.ref (ad 70)]) S (some (.int r)) S' := by
  refine MT.of RX3 (fun ad => [(0, .ref (ad 70))]) (by decide) rfl (fun _ => Nat.le_of_ble_eq_true rfl) (fun _ => rfl) ?_
  intro p l e R s m args below meth c dC dI cs ad A hR1 hR2 F H locs ls w hl
  have hx := F.1.1
  have hb := F.1.2.1
  rw [f_Plans_clear] at h
  refine lv_aload_n (pc := 0) hx hb dX3_clear_0 rfl (lv_at hl 0 rfl) ?_
  refine s_getR (pc := 1) F w 72 ds_70 (j := 0) vc_X3 vi_X3 rfl (by decide) kf_X3_12 dX3_clear_1 ?_
  obtain ⟨r2, S1, hc, h⟩ := bnd_t h
  refine s_cvi (pc := 4) [] (fun ad => [.ref (ad 72)]) F w (m_Stacks_members_start  _ _ _ hc) rfl rfl hl.1 ds_72 vc_X7 rfl ok_X7_members rfl kc_X7_members kl_X3_65 ki_X7_members kv_X7_members kn_X7 ⟨Nat.le_trans (by decide) hR1, Nat.le_trans (by decide) hR2⟩ ⟨Nat.zero_le _, Nat.zero_le _⟩ (Nat.le_of_ble_eq_true rfl) dX3_clear_4 (fun H locs w => ?_)
  obtain ⟨r4, S3, hc, h⟩ := bnd_t h
  refine s_csi (pc := 7) [.int r2] (fun ad => [.int r2]) F w (m_Integer_bitCount_0f7a4 _ _ _ _ hc) rfl rfl hl.1 ok_J6_bitCount_0f7a4 rfl kc_J6_bitCount_0f7a4 kl_X3_69 ks_J6_bitCount_0f7a4 kn_J6 ⟨Nat.le_trans (by decide) hR1, Nat.le_trans (by decide) hR2⟩ ⟨Nat.zero_le _, Nat.zero_le _⟩ (Nat.le_of_ble_eq_true rfl) dX3_clear_7 (fun H locs w => ?_)
  refine lv_istore_n (pc := 10) (lv' := [(1, .int r4), (0, .ref (ad 70))]) hx hb dX3_clear_10 rfl hl (by decide) rfl (fun ls hl => ?_)
  refine lv_aload_n (pc := 11) hx hb dX3_clear_11 rfl (lv_at hl 1 rfl) ?_
  refine s_getR (pc := 12) F w 72 ds_70 (j := 0) vc_X3 vi_X3 rfl (by decide) kf_X3_12 dX3_clear_12 ?_
  obtain ⟨S5, hc, h⟩ := bndv_t h
  refine s_cvv (pc := 15) [] (fun ad => [.ref (ad 72)]) F w (m_Stacks_empty_start  _ _ hc) rfl rfl hl.1 ds_72 vc_X7 rfl ok_X7_empty rfl kc_X7_empty kl_X3_74 ki_X7_empty kv_X7_empty kn_X7 ⟨Nat.le_trans (by decide) hR1, Nat.le_trans (by decide) hR2⟩ ⟨Nat.zero_le _, Nat.zero_le _⟩ (Nat.le_of_ble_eq_true rfl) dX3_clear_15 (fun H locs w => ?_)
  refine lv_aload_n (pc := 18) hx hb dX3_clear_18 rfl (lv_at hl 1 rfl) ?_
  refine s_getR (pc := 19) F w 73 ds_70 (j := 1) vc_X3 vi_X3 rfl (by decide) kf_X3_18 dX3_clear_19 ?_
  obtain ⟨S6, hc, h⟩ := bndv_t h
  refine s_cvv (pc := 22) [] (fun ad => [.ref (ad 73)]) F w (m_Stacks_empty_goal  _ _ hc) rfl rfl hl.1 ds_73 vc_X7 rfl ok_X7_empty rfl kc_X7_empty kl_X3_74 ki_X7_empty kv_X7_empty kn_X7 ⟨Nat.le_trans (by decide) hR1, Nat.le_trans (by decide) hR2⟩ ⟨Nat.zero_le _, Nat.zero_le _⟩ (Nat.le_of_ble_eq_true rfl) dX3_clear_22 (fun H locs w => ?_)
  refine lv_aload_n (pc := 25) hx hb dX3_clear_25 rfl (lv_at hl 1 rfl) ?_
  obtain ⟨S7, hc, h⟩ := bndv_t h
  refine s_cvv (pc := 26) [] (fun ad => [.ref (ad 70)]) F w (m_Plans_drop  _ _ hc) rfl rfl hl.1 ds_70 vc_X3 rfl ok_X3_drop rfl kc_X3_drop kl_X3_77 ki_X3_drop kv_X3_drop kn_X3 ⟨Nat.le_trans (by decide) hR1, Nat.le_trans (by decide) hR2⟩ ⟨Nat.zero_le _, Nat.zero_le _⟩ (Nat.le_of_ble_eq_true rfl) dX3_clear_26 (fun H locs w => ?_)
  refine lv_iload_n (pc := 29) hx hb dX3_clear_29 rfl (lv_at hl 0 rfl) ?_
  exact s_iret F w h dX3_clear_30
def f_Yard_wipe  (S : SS) : Option (Int32 × SS) :=
  bnd (f_Plans_clear  S) (fun r2 S1 =>
  some (r2, S1))
theorem dX11_wipe_0 : decode cX11_wipe 0 = .ok (.aload_n 0, 1) := dc_42 (by decide +kernel)
theorem dX11_wipe_1 : decode cX11_wipe 1 = .ok (.getfield 74, 3) := dc_180 (a := 0) (b := 74) (by decide +kernel)
theorem dX11_wipe_4 : decode cX11_wipe 4 = .ok (.invokevirtual 425, 3) := dc_182 (a := 1) (b := 169) (by decide +kernel)
theorem dX11_wipe_7 : decode cX11_wipe 7 = .ok (.ireturn, 1) := dc_172 (by decide +kernel)
set_option maxRecDepth 100000 in
set_option maxHeartbeats 4000000 in
theorem m_Yard_wipe  (S S' : SS) (r : Int32) (h : f_Yard_wipe  S = some (r, S')) : MT yX11_wipe cX11_wipe 1 (some .int) 3 67 (fun ad => [.ref (ad 61)]) S (some (.int r)) S' := by
  refine MT.of RX11 (fun ad => [(0, .ref (ad 61))]) (by decide) rfl (fun _ => Nat.le_of_ble_eq_true rfl) (fun _ => rfl) ?_
  intro p l e R s m args below meth c dC dI cs ad A hR1 hR2 F H locs ls w hl
  have hx := F.1.1
  have hb := F.1.2.1
  rw [f_Yard_wipe] at h
  refine lv_aload_n (pc := 0) hx hb dX11_wipe_0 rfl (lv_at hl 0 rfl) ?_
  refine s_getR (pc := 1) F w 70 ds_61 (j := 8) vc_X11 vi_X11 rfl (by decide) kf_X11_74 dX11_wipe_1 ?_
  obtain ⟨r2, S1, hc, h⟩ := bnd_t h
  refine s_cvi (pc := 4) [] (fun ad => [.ref (ad 70)]) F w (m_Plans_clear  _ _ _ hc) rfl rfl hl.1 ds_70 vc_X3 rfl ok_X3_clear rfl kc_X3_clear kl_X11_425 ki_X3_clear kv_X3_clear kn_X3 ⟨Nat.le_trans (by decide) hR1, Nat.le_trans (by decide) hR2⟩ ⟨Nat.zero_le _, Nat.zero_le _⟩ (Nat.le_of_ble_eq_true rfl) dX11_wipe_4 (fun H locs w => ?_)
  exact s_iret F w h dX11_wipe_7
def f_Plans_moveAt (a1 : Int32) (a2 : Int32) (S : SS) : Option (Int32 × SS) :=
  if a1 < 0 then
    some ((-4 : Int32), S)
  else
    if (S.1 70 7) ≤ a1 then
      some ((-4 : Int32), S)
    else
      if a1 < (128 : Int32) then
        if a2 = (0 : Int32) then
          grd (inb a1 128) (
          some ((S.1 107 a1.toNatClampNeg) >>> ((6 : Int32) &&& 31), S))
        else
        if a2 = (1 : Int32) then
          grd (inb a1 128) (
          some (((S.1 107 a1.toNatClampNeg) >>> ((4 : Int32) &&& 31)) &&& (3 : Int32), S))
        else
        grd (inb a1 128) (
        some ((S.1 107 a1.toNatClampNeg) &&& (15 : Int32), S))
      else
        some ((-4 : Int32), S)
theorem dX3_moveAt_0 : decode cX3_moveAt 0 = .ok (.iload_n 1, 1) := dc_27 (by decide +kernel)
theorem dX3_moveAt_1 : decode cX3_moveAt 1 = .ok (.ifCond .lt 18, 3) := dc_155 (a := 0) (b := 18) (by decide +kernel) (by decide)
theorem dX3_moveAt_4 : decode cX3_moveAt 4 = .ok (.iload_n 1, 1) := dc_27 (by decide +kernel)
theorem dX3_moveAt_5 : decode cX3_moveAt 5 = .ok (.aload_n 0, 1) := dc_42 (by decide +kernel)
theorem dX3_moveAt_6 : decode cX3_moveAt 6 = .ok (.getfield 41, 3) := dc_180 (a := 0) (b := 41) (by decide +kernel)
theorem dX3_moveAt_9 : decode cX3_moveAt 9 = .ok (.if_icmp .ge 10, 3) := dc_162 (a := 0) (b := 10) (by decide +kernel) (by decide)
theorem dX3_moveAt_12 : decode cX3_moveAt 12 = .ok (.iload_n 1, 1) := dc_27 (by decide +kernel)
theorem dX3_moveAt_13 : decode cX3_moveAt 13 = .ok (.sipush 128, 3) := dc_17 (a := 0) (b := 128) (by decide +kernel) (by decide)
theorem dX3_moveAt_16 : decode cX3_moveAt 16 = .ok (.if_icmp .lt 6, 3) := dc_161 (a := 0) (b := 6) (by decide +kernel) (by decide)
theorem dX3_moveAt_19 : decode cX3_moveAt 19 = .ok (.bipush (-4), 2) := dc_16 (a := 252) (by decide +kernel) (by decide)
theorem dX3_moveAt_21 : decode cX3_moveAt 21 = .ok (.ireturn, 1) := dc_172 (by decide +kernel)
theorem dX3_moveAt_22 : decode cX3_moveAt 22 = .ok (.iload_n 2, 1) := dc_28 (by decide +kernel)
theorem dX3_moveAt_23 : decode cX3_moveAt 23 = .ok (.lookupswitch 46 #[(0, 25), (1, 35)], 25) := by decide +kernel
theorem dX3_moveAt_48 : decode cX3_moveAt 48 = .ok (.aload_n 0, 1) := dc_42 (by decide +kernel)
theorem dX3_moveAt_49 : decode cX3_moveAt 49 = .ok (.getfield 35, 3) := dc_180 (a := 0) (b := 35) (by decide +kernel)
theorem dX3_moveAt_52 : decode cX3_moveAt 52 = .ok (.iload_n 1, 1) := dc_27 (by decide +kernel)
theorem dX3_moveAt_53 : decode cX3_moveAt 53 = .ok (.iaload, 1) := dc_46 (by decide +kernel)
theorem dX3_moveAt_54 : decode cX3_moveAt 54 = .ok (.bipush 6, 2) := dc_16 (a := 6) (by decide +kernel) (by decide)
theorem dX3_moveAt_56 : decode cX3_moveAt 56 = .ok (.ishr, 1) := dc_122 (by decide +kernel)
theorem dX3_moveAt_57 : decode cX3_moveAt 57 = .ok (.ireturn, 1) := dc_172 (by decide +kernel)
theorem dX3_moveAt_58 : decode cX3_moveAt 58 = .ok (.aload_n 0, 1) := dc_42 (by decide +kernel)
theorem dX3_moveAt_59 : decode cX3_moveAt 59 = .ok (.getfield 35, 3) := dc_180 (a := 0) (b := 35) (by decide +kernel)
theorem dX3_moveAt_62 : decode cX3_moveAt 62 = .ok (.iload_n 1, 1) := dc_27 (by decide +kernel)
theorem dX3_moveAt_63 : decode cX3_moveAt 63 = .ok (.iaload, 1) := dc_46 (by decide +kernel)
theorem dX3_moveAt_64 : decode cX3_moveAt 64 = .ok (.iconst 4, 1) := dc_7 (by decide +kernel)
theorem dX3_moveAt_65 : decode cX3_moveAt 65 = .ok (.ishr, 1) := dc_122 (by decide +kernel)
theorem dX3_moveAt_66 : decode cX3_moveAt 66 = .ok (.iconst 3, 1) := dc_6 (by decide +kernel)
theorem dX3_moveAt_67 : decode cX3_moveAt 67 = .ok (.iand, 1) := dc_126 (by decide +kernel)
theorem dX3_moveAt_68 : decode cX3_moveAt 68 = .ok (.ireturn, 1) := dc_172 (by decide +kernel)
theorem dX3_moveAt_69 : decode cX3_moveAt 69 = .ok (.aload_n 0, 1) := dc_42 (by decide +kernel)
theorem dX3_moveAt_70 : decode cX3_moveAt 70 = .ok (.getfield 35, 3) := dc_180 (a := 0) (b := 35) (by decide +kernel)
theorem dX3_moveAt_73 : decode cX3_moveAt 73 = .ok (.iload_n 1, 1) := dc_27 (by decide +kernel)
theorem dX3_moveAt_74 : decode cX3_moveAt 74 = .ok (.iaload, 1) := dc_46 (by decide +kernel)
theorem dX3_moveAt_75 : decode cX3_moveAt 75 = .ok (.bipush 15, 2) := dc_16 (a := 15) (by decide +kernel) (by decide)
theorem dX3_moveAt_77 : decode cX3_moveAt 77 = .ok (.iand, 1) := dc_126 (by decide +kernel)
theorem dX3_moveAt_78 : decode cX3_moveAt 78 = .ok (.ireturn, 1) := dc_172 (by decide +kernel)
set_option maxRecDepth 100000 in
set_option maxHeartbeats 4000000 in
theorem m_Plans_moveAt (a1 : Int32) (a2 : Int32) (S S' : SS) (r : Int32) (h : f_Plans_moveAt a1 a2 S = some (r, S')) : MT yX3_moveAt cX3_moveAt 3 (some .int) 0 0 (fun ad => [.ref (ad 70), .int a1, .int a2]) S (some (.int r)) S' := by
  refine MT.of RX3 (fun ad => [(0, .ref (ad 70)), (1, .int a1), (2, .int a2)]) (by decide) rfl (fun _ => Nat.le_of_ble_eq_true rfl) (fun _ => rfl) ?_
  intro p l e R s m args below meth c dC dI cs ad A hR1 hR2 F H locs ls w hl
  have hx := F.1.1
  have hb := F.1.2.1
  rw [f_Plans_moveAt] at h
  refine lv_iload_n (pc := 0) hx hb dX3_moveAt_0 rfl (lv_at hl 1 rfl) ?_
  refine lv_if_lt (pc := 1) (tgt := 19) hx hb dX3_moveAt_1 (by decide) (fun q => ?_) (fun q => ?_)
  · have h := ite_t q h
    refine lv_bipush (pc := 19) (v := -4) hx hb dX3_moveAt_19 (by decide) ?_
    exact s_iret F w h dX3_moveAt_21
  · have h := ite_f q h
    refine lv_iload_n (pc := 4) hx hb dX3_moveAt_4 rfl (lv_at hl 1 rfl) ?_
    refine lv_aload_n (pc := 5) hx hb dX3_moveAt_5 rfl (lv_at hl 0 rfl) ?_
    refine s_getI (pc := 6) F w ds_70 (j := 7) vc_X3 vi_X3 rfl (by decide) kf_X3_41 dX3_moveAt_6 ?_
    refine lv_icmp_ge (pc := 9) (tgt := 19) hx hb dX3_moveAt_9 (by decide) (fun q => ?_) (fun q => ?_)
    · have h := ite_t q h
      refine lv_bipush (pc := 19) (v := -4) hx hb dX3_moveAt_19 (by decide) ?_
      exact s_iret F w h dX3_moveAt_21
    · have h := ite_f q h
      refine lv_iload_n (pc := 12) hx hb dX3_moveAt_12 rfl (lv_at hl 1 rfl) ?_
      refine lv_sipush (pc := 13) (v := 128) hx hb dX3_moveAt_13 (by decide) ?_
      refine lv_icmp_lt (pc := 16) (tgt := 22) hx hb dX3_moveAt_16 (by decide) (fun q => ?_) (fun q => ?_)
      · have h := ite_t q h
        refine lv_iload_n (pc := 22) hx hb dX3_moveAt_22 rfl (lv_at hl 2 rfl) ?_
        rcases Decidable.em (a2 = (0 : Int32)) with q0 | q0
        · refine lv_lookup (pc := 23) (tgt := 48) (off := 25) hx hb dX3_moveAt_23 (by decide) (by rw [q0]; decide) (by decide) ?_
          have h := ite_t q0 h
          refine lv_aload_n (pc := 48) hx hb dX3_moveAt_48 rfl (lv_at hl 0 rfl) ?_
          refine s_getR (pc := 49) F w 107 ds_70 (j := 5) vc_X3 vi_X3 rfl (by decide) kf_X3_35 dX3_moveAt_49 ?_
          refine lv_iload_n (pc := 52) hx hb dX3_moveAt_52 rfl (lv_at hl 1 rfl) ?_
          refine s_iald (pc := 53) F w ds_107 h dX3_moveAt_53 (fun h => ?_)
          refine lv_bipush (pc := 54) (v := 6) hx hb dX3_moveAt_54 (by decide) ?_
          refine lv_ishr (pc := 56) hx hb dX3_moveAt_56 ?_
          exact s_iret F w h dX3_moveAt_57
        have h := ite_f q0 h
        rcases Decidable.em (a2 = (1 : Int32)) with q1 | q1
        · refine lv_lookup (pc := 23) (tgt := 58) (off := 35) hx hb dX3_moveAt_23 (by decide) (by rw [q1]; decide) (by decide) ?_
          have h := ite_t q1 h
          refine lv_aload_n (pc := 58) hx hb dX3_moveAt_58 rfl (lv_at hl 0 rfl) ?_
          refine s_getR (pc := 59) F w 107 ds_70 (j := 5) vc_X3 vi_X3 rfl (by decide) kf_X3_35 dX3_moveAt_59 ?_
          refine lv_iload_n (pc := 62) hx hb dX3_moveAt_62 rfl (lv_at hl 1 rfl) ?_
          refine s_iald (pc := 63) F w ds_107 h dX3_moveAt_63 (fun h => ?_)
          refine lv_iconst (pc := 64) (v := 4) hx hb dX3_moveAt_64 (by decide) ?_
          refine lv_ishr (pc := 65) hx hb dX3_moveAt_65 ?_
          refine lv_iconst (pc := 66) (v := 3) hx hb dX3_moveAt_66 (by decide) ?_
          refine lv_iand (pc := 67) hx hb dX3_moveAt_67 ?_
          exact s_iret F w h dX3_moveAt_68
        have h := ite_f q1 h
        refine lv_lookup (pc := 23) (tgt := 69) (off := 46) hx hb dX3_moveAt_23 (by decide) (by show Op.lookupswitch.offset [(0, 25), (1, 35)] 46 _ = _; rw [lv_osw q0 (by decide), lv_osw q1 (by decide)]; rfl) (by decide) ?_
        refine lv_aload_n (pc := 69) hx hb dX3_moveAt_69 rfl (lv_at hl 0 rfl) ?_
        refine s_getR (pc := 70) F w 107 ds_70 (j := 5) vc_X3 vi_X3 rfl (by decide) kf_X3_35 dX3_moveAt_70 ?_
        refine lv_iload_n (pc := 73) hx hb dX3_moveAt_73 rfl (lv_at hl 1 rfl) ?_
        refine s_iald (pc := 74) F w ds_107 h dX3_moveAt_74 (fun h => ?_)
        refine lv_bipush (pc := 75) (v := 15) hx hb dX3_moveAt_75 (by decide) ?_
        refine lv_iand (pc := 77) hx hb dX3_moveAt_77 ?_
        exact s_iret F w h dX3_moveAt_78
      · have h := ite_f q h
        refine lv_bipush (pc := 19) (v := -4) hx hb dX3_moveAt_19 (by decide) ?_
        exact s_iret F w h dX3_moveAt_21
def f_Yard_move (a1 : Int32) (a2 : Int32) (S : SS) : Option (Int32 × SS) :=
  if a1 < 0 then
    some ((-1 : Int32), S)
  else
    bnd (f_Yard_isNot a2 (0 : Int32) (2 : Int32) S) (fun r2 S1 =>
    if r2 = 0 then
      bnd (f_Plans_moveAt a1 a2 S1) (fun r4 S3 =>
      some (r4, S3))
    else
      some ((-1 : Int32), S1))
theorem dX11_move_0 : decode cX11_move 0 = .ok (.iload_n 1, 1) := dc_27 (by decide +kernel)
theorem dX11_move_1 : decode cX11_move 1 = .ok (.ifCond .lt 12, 3) := dc_155 (a := 0) (b := 12) (by decide +kernel) (by decide)
theorem dX11_move_4 : decode cX11_move 4 = .ok (.iload_n 2, 1) := dc_28 (by decide +kernel)
theorem dX11_move_5 : decode cX11_move 5 = .ok (.iconst 0, 1) := dc_3 (by decide +kernel)
theorem dX11_move_6 : decode cX11_move 6 = .ok (.iconst 2, 1) := dc_5 (by decide +kernel)
theorem dX11_move_7 : decode cX11_move 7 = .ok (.invokestatic 108, 3) := dc_184 (a := 0) (b := 108) (by decide +kernel)
theorem dX11_move_10 : decode cX11_move 10 = .ok (.ifCond .eq 5, 3) := dc_153 (a := 0) (b := 5) (by decide +kernel) (by decide)
theorem dX11_move_13 : decode cX11_move 13 = .ok (.iconst (-1), 1) := dc_2 (by decide +kernel)
theorem dX11_move_14 : decode cX11_move 14 = .ok (.ireturn, 1) := dc_172 (by decide +kernel)
theorem dX11_move_15 : decode cX11_move 15 = .ok (.aload_n 0, 1) := dc_42 (by decide +kernel)
theorem dX11_move_16 : decode cX11_move 16 = .ok (.getfield 74, 3) := dc_180 (a := 0) (b := 74) (by decide +kernel)
theorem dX11_move_19 : decode cX11_move 19 = .ok (.iload_n 1, 1) := dc_27 (by decide +kernel)
theorem dX11_move_20 : decode cX11_move 20 = .ok (.iload_n 2, 1) := dc_28 (by decide +kernel)
theorem dX11_move_21 : decode cX11_move 21 = .ok (.invokevirtual 441, 3) := dc_182 (a := 1) (b := 185) (by decide +kernel)
theorem dX11_move_24 : decode cX11_move 24 = .ok (.ireturn, 1) := dc_172 (by decide +kernel)
set_option maxRecDepth 100000 in
set_option maxHeartbeats 4000000 in
theorem m_Yard_move (a1 : Int32) (a2 : Int32) (S S' : SS) (r : Int32) (h : f_Yard_move a1 a2 S = some (r, S')) : MT yX11_move cX11_move 3 (some .int) 1 22 (fun ad => [.ref (ad 61), .int a1, .int a2]) S (some (.int r)) S' := by
  refine MT.of RX11 (fun ad => [(0, .ref (ad 61)), (1, .int a1), (2, .int a2)]) (by decide) rfl (fun _ => Nat.le_of_ble_eq_true rfl) (fun _ => rfl) ?_
  intro p l e R s m args below meth c dC dI cs ad A hR1 hR2 F H locs ls w hl
  have hx := F.1.1
  have hb := F.1.2.1
  rw [f_Yard_move] at h
  refine lv_iload_n (pc := 0) hx hb dX11_move_0 rfl (lv_at hl 1 rfl) ?_
  refine lv_if_lt (pc := 1) (tgt := 13) hx hb dX11_move_1 (by decide) (fun q => ?_) (fun q => ?_)
  · have h := ite_t q h
    refine lv_iconst (pc := 13) (v := -1) hx hb dX11_move_13 (by decide) ?_
    exact s_iret F w h dX11_move_14
  · have h := ite_f q h
    refine lv_iload_n (pc := 4) hx hb dX11_move_4 rfl (lv_at hl 2 rfl) ?_
    refine lv_iconst (pc := 5) (v := 0) hx hb dX11_move_5 (by decide) ?_
    refine lv_iconst (pc := 6) (v := 2) hx hb dX11_move_6 (by decide) ?_
    obtain ⟨r2, S1, hc, h⟩ := bnd_t h
    refine s_csi (pc := 7) [.int a2, .int (0 : Int32), .int (2 : Int32)] (fun ad => [.int a2, .int (0 : Int32), .int (2 : Int32)]) F w (m_Yard_isNot _ _ _ _ _ _ hc) rfl rfl hl.1 ok_X11_isNot rfl kc_X11_isNot kl_X11_108 ks_X11_isNot kn_X11 ⟨Nat.le_trans (by decide) hR1, Nat.le_trans (by decide) hR2⟩ ⟨Nat.zero_le _, Nat.zero_le _⟩ (Nat.le_of_ble_eq_true rfl) dX11_move_7 (fun H locs w => ?_)
    refine lv_if_eq (pc := 10) (tgt := 15) hx hb dX11_move_10 (by decide) (fun q => ?_) (fun q => ?_)
    · have h := ite_t q h
      refine lv_aload_n (pc := 15) hx hb dX11_move_15 rfl (lv_at hl 0 rfl) ?_
      refine s_getR (pc := 16) F w 70 ds_61 (j := 8) vc_X11 vi_X11 rfl (by decide) kf_X11_74 dX11_move_16 ?_
      refine lv_iload_n (pc := 19) hx hb dX11_move_19 rfl (lv_at hl 1 rfl) ?_
      refine lv_iload_n (pc := 20) hx hb dX11_move_20 rfl (lv_at hl 2 rfl) ?_
      obtain ⟨r4, S3, hc, h⟩ := bnd_t h
      refine s_cvi (pc := 21) [.int a1, .int a2] (fun ad => [.ref (ad 70), .int a1, .int a2]) F w (m_Plans_moveAt _ _ _ _ _ hc) rfl rfl hl.1 ds_70 vc_X3 rfl ok_X3_moveAt rfl kc_X3_moveAt kl_X11_441 ki_X3_moveAt kv_X3_moveAt kn_X3 ⟨Nat.le_trans (by decide) hR1, Nat.le_trans (by decide) hR2⟩ ⟨Nat.zero_le _, Nat.zero_le _⟩ (Nat.le_of_ble_eq_true rfl) dX11_move_21 (fun H locs w => ?_)
      exact s_iret F w h dX11_move_24
    · have h := ite_f q h
      refine lv_iconst (pc := 13) (v := -1) hx hb dX11_move_13 (by decide) ?_
      exact s_iret F w h dX11_move_14
def f_Stacks_members_goal_L11 (K4 : Int32 → Int32 → SS → Option (Int32 × SS)) : Nat → Int32 → Int32 → Int32 → SS → Option (Int32 × SS)
  | 0, _, _, _, _ => none
  | n + 1, x1, x2, x3, S =>
    grd (inb x2 4) (
    if (S.1 125 x2.toNatClampNeg) ≤ x3 then
      nm (x2 + (1 : Int32)) (fun z1 =>
      K4 x1 z1 S)
    else
      bnd (f_Stacks_wagonAt_goal x2 x3 S) (fun r3 S2 =>
      nm (x1 ||| ((1 : Int32) <<< (r3 &&& 31))) (fun z4 =>
      nm (x3 + (1 : Int32)) (fun z5 =>
      f_Stacks_members_goal_L11 K4 n z4 x2 z5 S2))))
def f_Stacks_members_goal_L4  : Nat → Int32 → Int32 → SS → Option (Int32 × SS)
  | 0, _, _, _ => none
  | n + 1, x1, x2, S =>
    if (4 : Int32) ≤ x2 then
      some (x1, S)
    else
      f_Stacks_members_goal_L11 (fun v0 v1 S => f_Stacks_members_goal_L4 n v0 v1 S) NF x1 x2 (0 : Int32) S
def f_Stacks_members_goal  (S : SS) : Option (Int32 × SS) :=
  f_Stacks_members_goal_L4 NF (0 : Int32) (0 : Int32) S
set_option maxRecDepth 100000 in
set_option maxHeartbeats 4000000 in
theorem w_Stacks_members_goal_L11 {p : Program} {l : Launch} {e : Env} {R : Room} {s : State} {m : MethodId} {args : Array Value} {below : List Frame} {meth : Method} {c : Code} {dC : Nat → ClassId} {dI : Nat → Nat → Nat} {cs : Nat → ClassId} {ad : Nat → Nat} {A : Nat → Prop} {D0 : Nat → Nat} {S' : SS} {r : Int32} (F : Fx p s m args meth c cX7_members 4 RX7 (some .int) dC dI cs A) (hR1 : 1 ≤ R.frames) (hR2 : 23 ≤ R.locals) (K4 : Int32 → Int32 → SS → Option (Int32 × SS)) (hK4 : ∀ (v0 : Int32) (v1 : Int32) (S : SS), K4 v0 v1 S = some (r, S') → AW p l e R s m args below meth c dC dI cs ad A D0 (some (.int r)) S' 4 4 [(0, .ref (ad 73)), (1, .int v0), (2, .int v1)] [] S) : ∀ (n : Nat) (x1 : Int32) (x2 : Int32) (x3 : Int32) (S : SS), f_Stacks_members_goal_L11 K4 n x1 x2 x3 S = some (r, S') → AW p l e R s m args below meth c dC dI cs ad A D0 (some (.int r)) S' 4 11 [(0, .ref (ad 73)), (1, .int x1), (2, .int x2), (3, .int x3)] [] S := by
  have hx := F.1.1
  have hb := F.1.2.1
  intro n
  induction n with
  | zero => intro x1 x2 x3 S h; cases h
  | succ n ih =>
    intro x1 x2 x3 S h H locs ls w hl
    rw [f_Stacks_members_goal_L11] at h
    refine lv_iload_n (pc := 11) hx hb dX7_members_11 rfl (lv_at hl 3 rfl) ?_
    refine lv_aload_n (pc := 12) hx hb dX7_members_12 rfl (lv_at hl 0 rfl) ?_
    refine s_getR (pc := 13) F w 125 ds_73 (j := 1) vc_X7 vi_X7 rfl (by decide) kf_X7_15 dX7_members_13 ?_
    refine lv_iload_n (pc := 16) hx hb dX7_members_16 rfl (lv_at hl 2 rfl) ?_
    refine s_iald (pc := 17) F w ds_125 h dX7_members_17 (fun h => ?_)
    refine lv_icmp_ge (pc := 18) (tgt := 38) hx hb dX7_members_18 (by decide) (fun q => ?_) (fun q => ?_)
    · have h := ite_t q h
      refine s_nm h (fun z1 ez1 h => ?_)
      refine lv_iinc (pc := 38) (v := z1) (lv' := [(2, .int z1), (0, .ref (ad 73)), (1, .int x1), (3, .int x3)]) hx hb dX7_members_38 hl (k := 2) rfl (by rw [ez1]; rfl) (by decide) rfl (fun ls hl => ?_)
      refine lv_goto (pc := 41) (tgt := 4) hx hb dX7_members_41 (by decide) ?_
      exact hK4 _ _ _ h _ _ _ w (lv_sub hl [1, 2, 0] rfl)
    · have h := ite_f q h
      refine lv_iload_n (pc := 21) hx hb dX7_members_21 rfl (lv_at hl 1 rfl) ?_
      refine lv_iconst (pc := 22) (v := 1) hx hb dX7_members_22 (by decide) ?_
      refine lv_aload_n (pc := 23) hx hb dX7_members_23 rfl (lv_at hl 0 rfl) ?_
      refine lv_iload_n (pc := 24) hx hb dX7_members_24 rfl (lv_at hl 2 rfl) ?_
      refine lv_iload_n (pc := 25) hx hb dX7_members_25 rfl (lv_at hl 3 rfl) ?_
      obtain ⟨r3, S2, hc, h⟩ := bnd_t h
      refine s_cvi (pc := 26) [.int x2, .int x3] (fun ad => [.ref (ad 73), .int x2, .int x3]) F w (m_Stacks_wagonAt_goal _ _ _ _ _ hc) rfl rfl hl.1 ds_73 vc_X7 rfl ok_X7_wagonAt rfl kc_X7_wagonAt kl_X7_34 ki_X7_wagonAt kv_X7_wagonAt kn_X7 ⟨Nat.le_trans (by decide) hR1, Nat.le_trans (by decide) hR2⟩ ⟨Nat.zero_le _, Nat.zero_le _⟩ (Nat.le_of_ble_eq_true rfl) dX7_members_26 (fun H locs w => ?_)
      refine lv_ishl (pc := 29) hx hb dX7_members_29 ?_
      refine lv_ior (pc := 30) hx hb dX7_members_30 ?_
      refine s_nm h (fun z4 ez4 h => ?_)
      rw [← ez4]
      refine lv_istore_n (pc := 31) (lv' := [(1, .int z4), (0, .ref (ad 73)), (2, .int x2), (3, .int x3)]) hx hb dX7_members_31 rfl hl (by decide) rfl (fun ls hl => ?_)
      refine s_nm h (fun z5 ez5 h => ?_)
      refine lv_iinc (pc := 32) (v := z5) (lv' := [(3, .int z5), (1, .int z4), (0, .ref (ad 73)), (2, .int x2)]) hx hb dX7_members_32 hl (k := 3) rfl (by rw [ez5]; rfl) (by decide) rfl (fun ls hl => ?_)
      refine lv_goto (pc := 35) (tgt := 11) hx hb dX7_members_35 (by decide) ?_
      exact ih _ _ _ _ h _ _ _ w (lv_sub hl [2, 1, 3, 0] rfl)
set_option maxRecDepth 100000 in
set_option maxHeartbeats 4000000 in
theorem w_Stacks_members_goal_L4 {p : Program} {l : Launch} {e : Env} {R : Room} {s : State} {m : MethodId} {args : Array Value} {below : List Frame} {meth : Method} {c : Code} {dC : Nat → ClassId} {dI : Nat → Nat → Nat} {cs : Nat → ClassId} {ad : Nat → Nat} {A : Nat → Prop} {D0 : Nat → Nat} {S' : SS} {r : Int32} (F : Fx p s m args meth c cX7_members 4 RX7 (some .int) dC dI cs A) (hR1 : 1 ≤ R.frames) (hR2 : 23 ≤ R.locals) : ∀ (n : Nat) (x1 : Int32) (x2 : Int32) (S : SS), f_Stacks_members_goal_L4 n x1 x2 S = some (r, S') → AW p l e R s m args below meth c dC dI cs ad A D0 (some (.int r)) S' 4 4 [(0, .ref (ad 73)), (1, .int x1), (2, .int x2)] [] S := by
  have hx := F.1.1
  have hb := F.1.2.1
  intro n
  induction n with
  | zero => intro x1 x2 S h; cases h
  | succ n ih =>
    intro x1 x2 S h H locs ls w hl
    rw [f_Stacks_members_goal_L4] at h
    refine lv_iload_n (pc := 4) hx hb dX7_members_4 rfl (lv_at hl 2 rfl) ?_
    refine lv_iconst (pc := 5) (v := 4) hx hb dX7_members_5 (by decide) ?_
    refine lv_icmp_ge (pc := 6) (tgt := 44) hx hb dX7_members_6 (by decide) (fun q => ?_) (fun q => ?_)
    · have h := ite_t q h
      refine lv_iload_n (pc := 44) hx hb dX7_members_44 rfl (lv_at hl 1 rfl) ?_
      exact s_iret F w h dX7_members_45
    · have h := ite_f q h
      refine lv_iconst (pc := 9) (v := 0) hx hb dX7_members_9 (by decide) ?_
      refine lv_istore_n (pc := 10) (lv' := [(3, .int (0 : Int32)), (0, .ref (ad 73)), (1, .int x1), (2, .int x2)]) hx hb dX7_members_10 rfl hl (by decide) rfl (fun ls hl => ?_)
      exact w_Stacks_members_goal_L11 F (Nat.le_trans (by decide) hR1) (Nat.le_trans (by decide) hR2) _ (fun v0 v1 S h => ih v0 v1 S h) _ _ _ _ _ h _ _ _ w (lv_sub hl [1, 2, 3, 0] rfl)
set_option maxRecDepth 100000 in
set_option maxHeartbeats 4000000 in
theorem m_Stacks_members_goal  (S S' : SS) (r : Int32) (h : f_Stacks_members_goal  S = some (r, S')) : MT yX7_members cX7_members 4 (some .int) 1 23 (fun ad => [.ref (ad 73)]) S (some (.int r)) S' := by
  refine MT.of RX7 (fun ad => [(0, .ref (ad 73))]) (by decide) rfl (fun _ => Nat.le_of_ble_eq_true rfl) (fun _ => rfl) ?_
  intro p l e R s m args below meth c dC dI cs ad A hR1 hR2 F H locs ls w hl
  have hx := F.1.1
  have hb := F.1.2.1
  rw [f_Stacks_members_goal] at h
  refine lv_iconst (pc := 0) (v := 0) hx hb dX7_members_0 (by decide) ?_
  refine lv_istore_n (pc := 1) (lv' := [(1, .int (0 : Int32)), (0, .ref (ad 73))]) hx hb dX7_members_1 rfl hl (by decide) rfl (fun ls hl => ?_)
  refine lv_iconst (pc := 2) (v := 0) hx hb dX7_members_2 (by decide) ?_
  refine lv_istore_n (pc := 3) (lv' := [(2, .int (0 : Int32)), (1, .int (0 : Int32)), (0, .ref (ad 73))]) hx hb dX7_members_3 rfl hl (by decide) rfl (fun ls hl => ?_)
  exact w_Stacks_members_goal_L4 F (Nat.le_trans (by decide) hR1) (Nat.le_trans (by decide) hR2) _ _ _ _ h _ _ _ w (lv_sub hl [2, 1, 0] rfl)
def f_Plans_haveSameWagons  (S : SS) : Option (Int32 × SS) :=
  bnd (f_Stacks_members_start  S) (fun r2 S1 =>
  bnd (f_Stacks_members_goal  S1) (fun r4 S3 =>
  if r2 = r4 then
    some ((1 : Int32), S3)
  else
    some ((0 : Int32), S3)))
theorem dX3_haveSameWagons_0 : decode cX3_haveSameWagons 0 = .ok (.aload_n 0, 1) := dc_42 (by decide +kernel)
theorem dX3_haveSameWagons_1 : decode cX3_haveSameWagons 1 = .ok (.getfield 12, 3) := dc_180 (a := 0) (b := 12) (by decide +kernel)
theorem dX3_haveSameWagons_4 : decode cX3_haveSameWagons 4 = .ok (.invokevirtual 65, 3) := dc_182 (a := 0) (b := 65) (by decide +kernel)
theorem dX3_haveSameWagons_7 : decode cX3_haveSameWagons 7 = .ok (.aload_n 0, 1) := dc_42 (by decide +kernel)
theorem dX3_haveSameWagons_8 : decode cX3_haveSameWagons 8 = .ok (.getfield 18, 3) := dc_180 (a := 0) (b := 18) (by decide +kernel)
theorem dX3_haveSameWagons_11 : decode cX3_haveSameWagons 11 = .ok (.invokevirtual 65, 3) := dc_182 (a := 0) (b := 65) (by decide +kernel)
theorem dX3_haveSameWagons_14 : decode cX3_haveSameWagons 14 = .ok (.if_icmp .ne 7, 3) := dc_160 (a := 0) (b := 7) (by decide +kernel) (by decide)
theorem dX3_haveSameWagons_17 : decode cX3_haveSameWagons 17 = .ok (.iconst 1, 1) := dc_4 (by decide +kernel)
theorem dX3_haveSameWagons_18 : decode cX3_haveSameWagons 18 = .ok (.goto 4, 3) := dc_167 (a := 0) (b := 4) (by decide +kernel) (by decide)
theorem dX3_haveSameWagons_21 : decode cX3_haveSameWagons 21 = .ok (.iconst 0, 1) := dc_3 (by decide +kernel)
theorem dX3_haveSameWagons_22 : decode cX3_haveSameWagons 22 = .ok (.ireturn, 1) := dc_172 (by decide +kernel)
set_option maxRecDepth 100000 in
set_option maxHeartbeats 4000000 in
theorem m_Plans_haveSameWagons  (S S' : SS) (r : Int32) (h : f_Plans_haveSameWagons  S = some (r, S')) : MT yX3_haveSameWagons cX3_haveSameWagons 1 (some .boolean) 2 46 (fun ad => [.ref (ad 70)]) S (some (.int r)) S' := by
  refine MT.of RX3 (fun ad => [(0, .ref (ad 70))]) (by decide) rfl (fun _ => Nat.le_of_ble_eq_true rfl) (fun _ => rfl) ?_
  intro p l e R s m args below meth c dC dI cs ad A hR1 hR2 F H locs ls w hl
  have hx := F.1.1
  have hb := F.1.2.1
  rw [f_Plans_haveSameWagons] at h
  refine lv_aload_n (pc := 0) hx hb dX3_haveSameWagons_0 rfl (lv_at hl 0 rfl) ?_
  refine s_getR (pc := 1) F w 72 ds_70 (j := 0) vc_X3 vi_X3 rfl (by decide) kf_X3_12 dX3_haveSameWagons_1 ?_
  obtain ⟨r2, S1, hc, h⟩ := bnd_t h
  refine s_cvi (pc := 4) [] (fun ad => [.ref (ad 72)]) F w (m_Stacks_members_start  _ _ _ hc) rfl rfl hl.1 ds_72 vc_X7 rfl ok_X7_members rfl kc_X7_members kl_X3_65 ki_X7_members kv_X7_members kn_X7 ⟨Nat.le_trans (by decide) hR1, Nat.le_trans (by decide) hR2⟩ ⟨Nat.zero_le _, Nat.zero_le _⟩ (Nat.le_of_ble_eq_true rfl) dX3_haveSameWagons_4 (fun H locs w => ?_)
  refine lv_aload_n (pc := 7) hx hb dX3_haveSameWagons_7 rfl (lv_at hl 0 rfl) ?_
  refine s_getR (pc := 8) F w 73 ds_70 (j := 1) vc_X3 vi_X3 rfl (by decide) kf_X3_18 dX3_haveSameWagons_8 ?_
  obtain ⟨r4, S3, hc, h⟩ := bnd_t h
  refine s_cvi (pc := 11) [] (fun ad => [.ref (ad 73)]) F w (m_Stacks_members_goal  _ _ _ hc) rfl rfl hl.1 ds_73 vc_X7 rfl ok_X7_members rfl kc_X7_members kl_X3_65 ki_X7_members kv_X7_members kn_X7 ⟨Nat.le_trans (by decide) hR1, Nat.le_trans (by decide) hR2⟩ ⟨Nat.zero_le _, Nat.zero_le _⟩ (Nat.le_of_ble_eq_true rfl) dX3_haveSameWagons_11 (fun H locs w => ?_)
  refine lv_icmp_ne (pc := 14) (tgt := 21) hx hb dX3_haveSameWagons_14 (by decide) (fun q => ?_) (fun q => ?_)
  · have h := ite_f q h
    refine lv_iconst (pc := 21) (v := 0) hx hb dX3_haveSameWagons_21 (by decide) ?_
    exact s_zretc F w rfl h dX3_haveSameWagons_22
  · have h := ite_t q h
    refine lv_iconst (pc := 17) (v := 1) hx hb dX3_haveSameWagons_17 (by decide) ?_
    refine lv_goto (pc := 18) (tgt := 22) hx hb dX3_haveSameWagons_18 (by decide) ?_
    exact s_zretc F w rfl h dX3_haveSameWagons_22
def f_Stacks_below_start (a1 : Int32) (S : SS) : Option (Int32 × SS) :=
  bnd (f_Stacks_stackOf_start a1 S) (fun r2 S1 =>
  bnd (f_Stacks_placeOn_start r2 a1 S1) (fun r4 S3 =>
  if r4 ≤ 0 then
    some ((10 : Int32) + r2, S3)
  else
    bnd (f_Stacks_wagonAt_start r2 (r4 - (1 : Int32)) S3) (fun r6 S5 =>
    some (r6, S5))))
theorem dX7_below_0 : decode cX7_below 0 = .ok (.aload_n 0, 1) := dc_42 (by decide +kernel)
theorem dX7_below_1 : decode cX7_below 1 = .ok (.iload_n 1, 1) := dc_27 (by decide +kernel)
theorem dX7_below_2 : decode cX7_below 2 = .ok (.invokevirtual 41, 3) := dc_182 (a := 0) (b := 41) (by decide +kernel)
theorem dX7_below_5 : decode cX7_below 5 = .ok (.istore_n 2, 1) := dc_61 (by decide +kernel)
theorem dX7_below_6 : decode cX7_below 6 = .ok (.aload_n 0, 1) := dc_42 (by decide +kernel)
theorem dX7_below_7 : decode cX7_below 7 = .ok (.iload_n 2, 1) := dc_28 (by decide +kernel)
theorem dX7_below_8 : decode cX7_below 8 = .ok (.iload_n 1, 1) := dc_27 (by decide +kernel)
theorem dX7_below_9 : decode cX7_below 9 = .ok (.invokevirtual 38, 3) := dc_182 (a := 0) (b := 38) (by decide +kernel)
theorem dX7_below_12 : decode cX7_below 12 = .ok (.istore_n 3, 1) := dc_62 (by decide +kernel)
theorem dX7_below_13 : decode cX7_below 13 = .ok (.iload_n 3, 1) := dc_29 (by decide +kernel)
theorem dX7_below_14 : decode cX7_below 14 = .ok (.ifCond .le 14, 3) := dc_158 (a := 0) (b := 14) (by decide +kernel) (by decide)
theorem dX7_below_17 : decode cX7_below 17 = .ok (.aload_n 0, 1) := dc_42 (by decide +kernel)
theorem dX7_below_18 : decode cX7_below 18 = .ok (.iload_n 2, 1) := dc_28 (by decide +kernel)
theorem dX7_below_19 : decode cX7_below 19 = .ok (.iload_n 3, 1) := dc_29 (by decide +kernel)
theorem dX7_below_20 : decode cX7_below 20 = .ok (.iconst 1, 1) := dc_4 (by decide +kernel)
theorem dX7_below_21 : decode cX7_below 21 = .ok (.isub, 1) := dc_100 (by decide +kernel)
theorem dX7_below_22 : decode cX7_below 22 = .ok (.invokevirtual 34, 3) := dc_182 (a := 0) (b := 34) (by decide +kernel)
theorem dX7_below_25 : decode cX7_below 25 = .ok (.goto 7, 3) := dc_167 (a := 0) (b := 7) (by decide +kernel) (by decide)
theorem dX7_below_28 : decode cX7_below 28 = .ok (.bipush 10, 2) := dc_16 (a := 10) (by decide +kernel) (by decide)
theorem dX7_below_30 : decode cX7_below 30 = .ok (.iload_n 2, 1) := dc_28 (by decide +kernel)
theorem dX7_below_31 : decode cX7_below 31 = .ok (.iadd, 1) := dc_96 (by decide +kernel)
theorem dX7_below_32 : decode cX7_below 32 = .ok (.ireturn, 1) := dc_172 (by decide +kernel)
set_option maxRecDepth 100000 in
set_option maxHeartbeats 4000000 in
theorem m_Stacks_below_start (a1 : Int32) (S S' : SS) (r : Int32) (h : f_Stacks_below_start a1 S = some (r, S')) : MT yX7_below cX7_below 4 (some .int) 3 68 (fun ad => [.ref (ad 72), .int a1]) S (some (.int r)) S' := by
  refine MT.of RX7 (fun ad => [(0, .ref (ad 72)), (1, .int a1)]) (by decide) rfl (fun _ => Nat.le_of_ble_eq_true rfl) (fun _ => rfl) ?_
  intro p l e R s m args below meth c dC dI cs ad A hR1 hR2 F H locs ls w hl
  have hx := F.1.1
  have hb := F.1.2.1
  rw [f_Stacks_below_start] at h
  refine lv_aload_n (pc := 0) hx hb dX7_below_0 rfl (lv_at hl 0 rfl) ?_
  refine lv_iload_n (pc := 1) hx hb dX7_below_1 rfl (lv_at hl 1 rfl) ?_
  obtain ⟨r2, S1, hc, h⟩ := bnd_t h
  refine s_cvi (pc := 2) [.int a1] (fun ad => [.ref (ad 72), .int a1]) F w (m_Stacks_stackOf_start _ _ _ _ hc) rfl rfl hl.1 ds_72 vc_X7 rfl ok_X7_stackOf rfl kc_X7_stackOf kl_X7_41 ki_X7_stackOf kv_X7_stackOf kn_X7 ⟨Nat.le_trans (by decide) hR1, Nat.le_trans (by decide) hR2⟩ ⟨Nat.zero_le _, Nat.zero_le _⟩ (Nat.le_of_ble_eq_true rfl) dX7_below_2 (fun H locs w => ?_)
  refine lv_istore_n (pc := 5) (lv' := [(2, .int r2), (0, .ref (ad 72)), (1, .int a1)]) hx hb dX7_below_5 rfl hl (by decide) rfl (fun ls hl => ?_)
  refine lv_aload_n (pc := 6) hx hb dX7_below_6 rfl (lv_at hl 1 rfl) ?_
  refine lv_iload_n (pc := 7) hx hb dX7_below_7 rfl (lv_at hl 0 rfl) ?_
  refine lv_iload_n (pc := 8) hx hb dX7_below_8 rfl (lv_at hl 2 rfl) ?_
  obtain ⟨r4, S3, hc, h⟩ := bnd_t h
  refine s_cvi (pc := 9) [.int r2, .int a1] (fun ad => [.ref (ad 72), .int r2, .int a1]) F w (m_Stacks_placeOn_start _ _ _ _ _ hc) rfl rfl hl.1 ds_72 vc_X7 rfl ok_X7_placeOn rfl kc_X7_placeOn kl_X7_38 ki_X7_placeOn kv_X7_placeOn kn_X7 ⟨Nat.le_trans (by decide) hR1, Nat.le_trans (by decide) hR2⟩ ⟨Nat.zero_le _, Nat.zero_le _⟩ (Nat.le_of_ble_eq_true rfl) dX7_below_9 (fun H locs w => ?_)
  refine lv_istore_n (pc := 12) (lv' := [(3, .int r4), (2, .int r2), (0, .ref (ad 72)), (1, .int a1)]) hx hb dX7_below_12 rfl hl (by decide) rfl (fun ls hl => ?_)
  refine lv_iload_n (pc := 13) hx hb dX7_below_13 rfl (lv_at hl 0 rfl) ?_
  refine lv_if_le (pc := 14) (tgt := 28) hx hb dX7_below_14 (by decide) (fun q => ?_) (fun q => ?_)
  · have h := ite_t q h
    refine lv_bipush (pc := 28) (v := 10) hx hb dX7_below_28 (by decide) ?_
    refine lv_iload_n (pc := 30) hx hb dX7_below_30 rfl (lv_at hl 1 rfl) ?_
    refine lv_iadd (pc := 31) hx hb dX7_below_31 ?_
    exact s_iret F w h dX7_below_32
  · have h := ite_f q h
    refine lv_aload_n (pc := 17) hx hb dX7_below_17 rfl (lv_at hl 2 rfl) ?_
    refine lv_iload_n (pc := 18) hx hb dX7_below_18 rfl (lv_at hl 1 rfl) ?_
    refine lv_iload_n (pc := 19) hx hb dX7_below_19 rfl (lv_at hl 0 rfl) ?_
    refine lv_iconst (pc := 20) (v := 1) hx hb dX7_below_20 (by decide) ?_
    refine lv_isub (pc := 21) hx hb dX7_below_21 ?_
    obtain ⟨r6, S5, hc, h⟩ := bnd_t h
    refine s_cvi (pc := 22) [.int r2, .int (r4 - (1 : Int32))] (fun ad => [.ref (ad 72), .int r2, .int (r4 - (1 : Int32))]) F w (m_Stacks_wagonAt_start _ _ _ _ _ hc) rfl rfl hl.1 ds_72 vc_X7 rfl ok_X7_wagonAt rfl kc_X7_wagonAt kl_X7_34 ki_X7_wagonAt kv_X7_wagonAt kn_X7 ⟨Nat.le_trans (by decide) hR1, Nat.le_trans (by decide) hR2⟩ ⟨Nat.zero_le _, Nat.zero_le _⟩ (Nat.le_of_ble_eq_true rfl) dX7_below_22 (fun H locs w => ?_)
    refine lv_goto (pc := 25) (tgt := 32) hx hb dX7_below_25 (by decide) ?_
    exact s_iret F w h dX7_below_32
def f_Stacks_below_goal (a1 : Int32) (S : SS) : Option (Int32 × SS) :=
  bnd (f_Stacks_stackOf_goal a1 S) (fun r2 S1 =>
  bnd (f_Stacks_placeOn_goal r2 a1 S1) (fun r4 S3 =>
  if r4 ≤ 0 then
    some ((10 : Int32) + r2, S3)
  else
    bnd (f_Stacks_wagonAt_goal r2 (r4 - (1 : Int32)) S3) (fun r6 S5 =>
    some (r6, S5))))
set_option maxRecDepth 100000 in
set_option maxHeartbeats 4000000 in
theorem m_Stacks_below_goal (a1 : Int32) (S S' : SS) (r : Int32) (h : f_Stacks_below_goal a1 S = some (r, S')) : MT yX7_below cX7_below 4 (some .int) 3 68 (fun ad => [.ref (ad 73), .int a1]) S (some (.int r)) S' := by
  refine MT.of RX7 (fun ad => [(0, .ref (ad 73)), (1, .int a1)]) (by decide) rfl (fun _ => Nat.le_of_ble_eq_true rfl) (fun _ => rfl) ?_
  intro p l e R s m args below meth c dC dI cs ad A hR1 hR2 F H locs ls w hl
  have hx := F.1.1
  have hb := F.1.2.1
  rw [f_Stacks_below_goal] at h
  refine lv_aload_n (pc := 0) hx hb dX7_below_0 rfl (lv_at hl 0 rfl) ?_
  refine lv_iload_n (pc := 1) hx hb dX7_below_1 rfl (lv_at hl 1 rfl) ?_
  obtain ⟨r2, S1, hc, h⟩ := bnd_t h
  refine s_cvi (pc := 2) [.int a1] (fun ad => [.ref (ad 73), .int a1]) F w (m_Stacks_stackOf_goal _ _ _ _ hc) rfl rfl hl.1 ds_73 vc_X7 rfl ok_X7_stackOf rfl kc_X7_stackOf kl_X7_41 ki_X7_stackOf kv_X7_stackOf kn_X7 ⟨Nat.le_trans (by decide) hR1, Nat.le_trans (by decide) hR2⟩ ⟨Nat.zero_le _, Nat.zero_le _⟩ (Nat.le_of_ble_eq_true rfl) dX7_below_2 (fun H locs w => ?_)
  refine lv_istore_n (pc := 5) (lv' := [(2, .int r2), (0, .ref (ad 73)), (1, .int a1)]) hx hb dX7_below_5 rfl hl (by decide) rfl (fun ls hl => ?_)
  refine lv_aload_n (pc := 6) hx hb dX7_below_6 rfl (lv_at hl 1 rfl) ?_
  refine lv_iload_n (pc := 7) hx hb dX7_below_7 rfl (lv_at hl 0 rfl) ?_
  refine lv_iload_n (pc := 8) hx hb dX7_below_8 rfl (lv_at hl 2 rfl) ?_
  obtain ⟨r4, S3, hc, h⟩ := bnd_t h
  refine s_cvi (pc := 9) [.int r2, .int a1] (fun ad => [.ref (ad 73), .int r2, .int a1]) F w (m_Stacks_placeOn_goal _ _ _ _ _ hc) rfl rfl hl.1 ds_73 vc_X7 rfl ok_X7_placeOn rfl kc_X7_placeOn kl_X7_38 ki_X7_placeOn kv_X7_placeOn kn_X7 ⟨Nat.le_trans (by decide) hR1, Nat.le_trans (by decide) hR2⟩ ⟨Nat.zero_le _, Nat.zero_le _⟩ (Nat.le_of_ble_eq_true rfl) dX7_below_9 (fun H locs w => ?_)
  refine lv_istore_n (pc := 12) (lv' := [(3, .int r4), (2, .int r2), (0, .ref (ad 73)), (1, .int a1)]) hx hb dX7_below_12 rfl hl (by decide) rfl (fun ls hl => ?_)
  refine lv_iload_n (pc := 13) hx hb dX7_below_13 rfl (lv_at hl 0 rfl) ?_
  refine lv_if_le (pc := 14) (tgt := 28) hx hb dX7_below_14 (by decide) (fun q => ?_) (fun q => ?_)
  · have h := ite_t q h
    refine lv_bipush (pc := 28) (v := 10) hx hb dX7_below_28 (by decide) ?_
    refine lv_iload_n (pc := 30) hx hb dX7_below_30 rfl (lv_at hl 1 rfl) ?_
    refine lv_iadd (pc := 31) hx hb dX7_below_31 ?_
    exact s_iret F w h dX7_below_32
  · have h := ite_f q h
    refine lv_aload_n (pc := 17) hx hb dX7_below_17 rfl (lv_at hl 2 rfl) ?_
    refine lv_iload_n (pc := 18) hx hb dX7_below_18 rfl (lv_at hl 1 rfl) ?_
    refine lv_iload_n (pc := 19) hx hb dX7_below_19 rfl (lv_at hl 0 rfl) ?_
    refine lv_iconst (pc := 20) (v := 1) hx hb dX7_below_20 (by decide) ?_
    refine lv_isub (pc := 21) hx hb dX7_below_21 ?_
    obtain ⟨r6, S5, hc, h⟩ := bnd_t h
    refine s_cvi (pc := 22) [.int r2, .int (r4 - (1 : Int32))] (fun ad => [.ref (ad 73), .int r2, .int (r4 - (1 : Int32))]) F w (m_Stacks_wagonAt_goal _ _ _ _ _ hc) rfl rfl hl.1 ds_73 vc_X7 rfl ok_X7_wagonAt rfl kc_X7_wagonAt kl_X7_34 ki_X7_wagonAt kv_X7_wagonAt kn_X7 ⟨Nat.le_trans (by decide) hR1, Nat.le_trans (by decide) hR2⟩ ⟨Nat.zero_le _, Nat.zero_le _⟩ (Nat.le_of_ble_eq_true rfl) dX7_below_22 (fun H locs w => ?_)
    refine lv_goto (pc := 25) (tgt := 32) hx hb dX7_below_25 (by decide) ?_
    exact s_iret F w h dX7_below_32
def f_Plans_countMoved_j49 (K12 : Int32 → Int32 → Int32 → SS → Option (Int32 × SS)) (x1 : Int32) (x2 : Int32) (x3 : Int32) (S : SS) : Option (Int32 × SS) :=
    nm (x3 + (1 : Int32)) (fun z3 =>
    K12 x1 x2 z3 S)
def f_Plans_countMoved_L12  : Nat → Int32 → Int32 → Int32 → SS → Option (Int32 × SS)
  | 0, _, _, _, _ => none
  | n + 1, x1, x2, x3, S =>
    if (10 : Int32) ≤ x3 then
      some (x2, S)
    else
      if ((x1 >>> (x3 &&& 31)) &&& (1 : Int32)) = (1 : Int32) then
        bnd (f_Stacks_below_start x3 S) (fun r5 S4 =>
        bnd (f_Stacks_below_goal x3 S4) (fun r7 S6 =>
        if r5 = r7 then
          f_Plans_countMoved_j49 (fun v0 v1 v2 S => f_Plans_countMoved_L12 n v0 v1 v2 S) x1 x2 x3 S6
        else
          nm (x2 + (1 : Int32)) (fun z8 =>
          f_Plans_countMoved_j49 (fun v0 v1 v2 S => f_Plans_countMoved_L12 n v0 v1 v2 S) x1 z8 x3 S6)))
      else
        f_Plans_countMoved_j49 (fun v0 v1 v2 S => f_Plans_countMoved_L12 n v0 v1 v2 S) x1 x2 x3 S
def f_Plans_countMoved  (S : SS) : Option (Int32 × SS) :=
  bnd (f_Stacks_members_start  S) (fun r2 S1 =>
  f_Plans_countMoved_L12 NF r2 (0 : Int32) (0 : Int32) S1)
theorem dX3_countMoved_0 : decode cX3_countMoved 0 = .ok (.aload_n 0, 1) := dc_42 (by decide +kernel)
theorem dX3_countMoved_1 : decode cX3_countMoved 1 = .ok (.getfield 12, 3) := dc_180 (a := 0) (b := 12) (by decide +kernel)
theorem dX3_countMoved_4 : decode cX3_countMoved 4 = .ok (.invokevirtual 65, 3) := dc_182 (a := 0) (b := 65) (by decide +kernel)
theorem dX3_countMoved_7 : decode cX3_countMoved 7 = .ok (.istore_n 1, 1) := dc_60 (by decide +kernel)
theorem dX3_countMoved_8 : decode cX3_countMoved 8 = .ok (.iconst 0, 1) := dc_3 (by decide +kernel)
theorem dX3_countMoved_9 : decode cX3_countMoved 9 = .ok (.istore_n 2, 1) := dc_61 (by decide +kernel)
theorem dX3_countMoved_10 : decode cX3_countMoved 10 = .ok (.iconst 0, 1) := dc_3 (by decide +kernel)
theorem dX3_countMoved_11 : decode cX3_countMoved 11 = .ok (.istore_n 3, 1) := dc_62 (by decide +kernel)
theorem dX3_countMoved_12 : decode cX3_countMoved 12 = .ok (.iload_n 3, 1) := dc_29 (by decide +kernel)
theorem dX3_countMoved_13 : decode cX3_countMoved 13 = .ok (.bipush 10, 2) := dc_16 (a := 10) (by decide +kernel) (by decide)
theorem dX3_countMoved_15 : decode cX3_countMoved 15 = .ok (.if_icmp .ge 40, 3) := dc_162 (a := 0) (b := 40) (by decide +kernel) (by decide)
theorem dX3_countMoved_18 : decode cX3_countMoved 18 = .ok (.iload_n 1, 1) := dc_27 (by decide +kernel)
theorem dX3_countMoved_19 : decode cX3_countMoved 19 = .ok (.iload_n 3, 1) := dc_29 (by decide +kernel)
theorem dX3_countMoved_20 : decode cX3_countMoved 20 = .ok (.ishr, 1) := dc_122 (by decide +kernel)
theorem dX3_countMoved_21 : decode cX3_countMoved 21 = .ok (.iconst 1, 1) := dc_4 (by decide +kernel)
theorem dX3_countMoved_22 : decode cX3_countMoved 22 = .ok (.iand, 1) := dc_126 (by decide +kernel)
theorem dX3_countMoved_23 : decode cX3_countMoved 23 = .ok (.iconst 1, 1) := dc_4 (by decide +kernel)
theorem dX3_countMoved_24 : decode cX3_countMoved 24 = .ok (.if_icmp .ne 25, 3) := dc_160 (a := 0) (b := 25) (by decide +kernel) (by decide)
theorem dX3_countMoved_27 : decode cX3_countMoved 27 = .ok (.aload_n 0, 1) := dc_42 (by decide +kernel)
theorem dX3_countMoved_28 : decode cX3_countMoved 28 = .ok (.getfield 12, 3) := dc_180 (a := 0) (b := 12) (by decide +kernel)
theorem dX3_countMoved_31 : decode cX3_countMoved 31 = .ok (.iload_n 3, 1) := dc_29 (by decide +kernel)
theorem dX3_countMoved_32 : decode cX3_countMoved 32 = .ok (.invokevirtual 80, 3) := dc_182 (a := 0) (b := 80) (by decide +kernel)
theorem dX3_countMoved_35 : decode cX3_countMoved 35 = .ok (.aload_n 0, 1) := dc_42 (by decide +kernel)
theorem dX3_countMoved_36 : decode cX3_countMoved 36 = .ok (.getfield 18, 3) := dc_180 (a := 0) (b := 18) (by decide +kernel)
theorem dX3_countMoved_39 : decode cX3_countMoved 39 = .ok (.iload_n 3, 1) := dc_29 (by decide +kernel)
theorem dX3_countMoved_40 : decode cX3_countMoved 40 = .ok (.invokevirtual 80, 3) := dc_182 (a := 0) (b := 80) (by decide +kernel)
theorem dX3_countMoved_43 : decode cX3_countMoved 43 = .ok (.if_icmp .eq 6, 3) := dc_159 (a := 0) (b := 6) (by decide +kernel) (by decide)
theorem dX3_countMoved_46 : decode cX3_countMoved 46 = .ok (.iinc 2 1, 3) := dc_132 (a := 2) (b := 1) (by decide +kernel) (by decide)
theorem dX3_countMoved_49 : decode cX3_countMoved 49 = .ok (.iinc 3 1, 3) := dc_132 (a := 3) (b := 1) (by decide +kernel) (by decide)
theorem dX3_countMoved_52 : decode cX3_countMoved 52 = .ok (.goto (-40), 3) := dc_167 (a := 255) (b := 216) (by decide +kernel) (by decide)
theorem dX3_countMoved_55 : decode cX3_countMoved 55 = .ok (.iload_n 2, 1) := dc_28 (by decide +kernel)
theorem dX3_countMoved_56 : decode cX3_countMoved 56 = .ok (.ireturn, 1) := dc_172 (by decide +kernel)
set_option maxRecDepth 100000 in
set_option maxHeartbeats 4000000 in
theorem w_Plans_countMoved_j49 {p : Program} {l : Launch} {e : Env} {R : Room} {s : State} {m : MethodId} {args : Array Value} {below : List Frame} {meth : Method} {c : Code} {dC : Nat → ClassId} {dI : Nat → Nat → Nat} {cs : Nat → ClassId} {ad : Nat → Nat} {A : Nat → Prop} {D0 : Nat → Nat} {S' : SS} {r : Int32} (F : Fx p s m args meth c cX3_countMoved 4 RX3 (some .int) dC dI cs A) (hR1 : 0 ≤ R.frames) (hR2 : 0 ≤ R.locals) (K12 : Int32 → Int32 → Int32 → SS → Option (Int32 × SS)) (hK12 : ∀ (v0 : Int32) (v1 : Int32) (v2 : Int32) (S : SS), K12 v0 v1 v2 S = some (r, S') → AW p l e R s m args below meth c dC dI cs ad A D0 (some (.int r)) S' 4 12 [(0, .ref (ad 70)), (1, .int v0), (2, .int v1), (3, .int v2)] [] S) (x1 : Int32) (x2 : Int32) (x3 : Int32) (S : SS) (h : f_Plans_countMoved_j49 K12 x1 x2 x3 S = some (r, S')) : AW p l e R s m args below meth c dC dI cs ad A D0 (some (.int r)) S' 4 49 [(0, .ref (ad 70)), (1, .int x1), (2, .int x2), (3, .int x3)] [] S := by
  have hx := F.1.1
  have hb := F.1.2.1
  intro H locs ls w hl
  rw [f_Plans_countMoved_j49] at h
  refine s_nm h (fun z3 ez3 h => ?_)
  refine lv_iinc (pc := 49) (v := z3) (lv' := [(3, .int z3), (0, .ref (ad 70)), (1, .int x1), (2, .int x2)]) hx hb dX3_countMoved_49 hl (k := 3) rfl (by rw [ez3]; rfl) (by decide) rfl (fun ls hl => ?_)
  refine lv_goto (pc := 52) (tgt := 12) hx hb dX3_countMoved_52 (by decide) ?_
  exact hK12 _ _ _ _ h _ _ _ w (lv_sub hl [1, 2, 3, 0] rfl)
set_option maxRecDepth 100000 in
set_option maxHeartbeats 4000000 in
theorem w_Plans_countMoved_L12 {p : Program} {l : Launch} {e : Env} {R : Room} {s : State} {m : MethodId} {args : Array Value} {below : List Frame} {meth : Method} {c : Code} {dC : Nat → ClassId} {dI : Nat → Nat → Nat} {cs : Nat → ClassId} {ad : Nat → Nat} {A : Nat → Prop} {D0 : Nat → Nat} {S' : SS} {r : Int32} (F : Fx p s m args meth c cX3_countMoved 4 RX3 (some .int) dC dI cs A) (hR1 : 4 ≤ R.frames) (hR2 : 91 ≤ R.locals) : ∀ (n : Nat) (x1 : Int32) (x2 : Int32) (x3 : Int32) (S : SS), f_Plans_countMoved_L12 n x1 x2 x3 S = some (r, S') → AW p l e R s m args below meth c dC dI cs ad A D0 (some (.int r)) S' 4 12 [(0, .ref (ad 70)), (1, .int x1), (2, .int x2), (3, .int x3)] [] S := by
  have hx := F.1.1
  have hb := F.1.2.1
  intro n
  induction n with
  | zero => intro x1 x2 x3 S h; cases h
  | succ n ih =>
    intro x1 x2 x3 S h H locs ls w hl
    rw [f_Plans_countMoved_L12] at h
    refine lv_iload_n (pc := 12) hx hb dX3_countMoved_12 rfl (lv_at hl 3 rfl) ?_
    refine lv_bipush (pc := 13) (v := 10) hx hb dX3_countMoved_13 (by decide) ?_
    refine lv_icmp_ge (pc := 15) (tgt := 55) hx hb dX3_countMoved_15 (by decide) (fun q => ?_) (fun q => ?_)
    · have h := ite_t q h
      refine lv_iload_n (pc := 55) hx hb dX3_countMoved_55 rfl (lv_at hl 2 rfl) ?_
      exact s_iret F w h dX3_countMoved_56
    · have h := ite_f q h
      refine lv_iload_n (pc := 18) hx hb dX3_countMoved_18 rfl (lv_at hl 1 rfl) ?_
      refine lv_iload_n (pc := 19) hx hb dX3_countMoved_19 rfl (lv_at hl 3 rfl) ?_
      refine lv_ishr (pc := 20) hx hb dX3_countMoved_20 ?_
      refine lv_iconst (pc := 21) (v := 1) hx hb dX3_countMoved_21 (by decide) ?_
      refine lv_iand (pc := 22) hx hb dX3_countMoved_22 ?_
      refine lv_iconst (pc := 23) (v := 1) hx hb dX3_countMoved_23 (by decide) ?_
      refine lv_icmp_ne (pc := 24) (tgt := 49) hx hb dX3_countMoved_24 (by decide) (fun q => ?_) (fun q => ?_)
      · have h := ite_f q h
        exact w_Plans_countMoved_j49 F (Nat.le_trans (by decide) hR1) (Nat.le_trans (by decide) hR2) _ (fun v0 v1 v2 S h => ih v0 v1 v2 S h) _ _ _ _ h _ _ _ w (lv_sub hl [0, 1, 2, 3] rfl)
      · have h := ite_t q h
        refine lv_aload_n (pc := 27) hx hb dX3_countMoved_27 rfl (lv_at hl 0 rfl) ?_
        refine s_getR (pc := 28) F w 72 ds_70 (j := 0) vc_X3 vi_X3 rfl (by decide) kf_X3_12 dX3_countMoved_28 ?_
        refine lv_iload_n (pc := 31) hx hb dX3_countMoved_31 rfl (lv_at hl 3 rfl) ?_
        obtain ⟨r5, S4, hc, h⟩ := bnd_t h
        refine s_cvi (pc := 32) [.int x3] (fun ad => [.ref (ad 72), .int x3]) F w (m_Stacks_below_start _ _ _ _ hc) rfl rfl hl.1 ds_72 vc_X7 rfl ok_X7_below rfl kc_X7_below kl_X3_80 ki_X7_below kv_X7_below kn_X7 ⟨Nat.le_trans (by decide) hR1, Nat.le_trans (by decide) hR2⟩ ⟨Nat.zero_le _, Nat.zero_le _⟩ (Nat.le_of_ble_eq_true rfl) dX3_countMoved_32 (fun H locs w => ?_)
        refine lv_aload_n (pc := 35) hx hb dX3_countMoved_35 rfl (lv_at hl 0 rfl) ?_
        refine s_getR (pc := 36) F w 73 ds_70 (j := 1) vc_X3 vi_X3 rfl (by decide) kf_X3_18 dX3_countMoved_36 ?_
        refine lv_iload_n (pc := 39) hx hb dX3_countMoved_39 rfl (lv_at hl 3 rfl) ?_
        obtain ⟨r7, S6, hc, h⟩ := bnd_t h
        refine s_cvi (pc := 40) [.int x3] (fun ad => [.ref (ad 73), .int x3]) F w (m_Stacks_below_goal _ _ _ _ hc) rfl rfl hl.1 ds_73 vc_X7 rfl ok_X7_below rfl kc_X7_below kl_X3_80 ki_X7_below kv_X7_below kn_X7 ⟨Nat.le_trans (by decide) hR1, Nat.le_trans (by decide) hR2⟩ ⟨Nat.zero_le _, Nat.zero_le _⟩ (Nat.le_of_ble_eq_true rfl) dX3_countMoved_40 (fun H locs w => ?_)
        refine lv_icmp_eq (pc := 43) (tgt := 49) hx hb dX3_countMoved_43 (by decide) (fun q => ?_) (fun q => ?_)
        · have h := ite_t q h
          exact w_Plans_countMoved_j49 F (Nat.le_trans (by decide) hR1) (Nat.le_trans (by decide) hR2) _ (fun v0 v1 v2 S h => ih v0 v1 v2 S h) _ _ _ _ h _ _ _ w (lv_sub hl [0, 1, 2, 3] rfl)
        · have h := ite_f q h
          refine s_nm h (fun z8 ez8 h => ?_)
          refine lv_iinc (pc := 46) (v := z8) (lv' := [(2, .int z8), (0, .ref (ad 70)), (1, .int x1), (3, .int x3)]) hx hb dX3_countMoved_46 hl (k := 2) rfl (by rw [ez8]; rfl) (by decide) rfl (fun ls hl => ?_)
          exact w_Plans_countMoved_j49 F (Nat.le_trans (by decide) hR1) (Nat.le_trans (by decide) hR2) _ (fun v0 v1 v2 S h => ih v0 v1 v2 S h) _ _ _ _ h _ _ _ w (lv_sub hl [1, 2, 0, 3] rfl)
set_option maxRecDepth 100000 in
set_option maxHeartbeats 4000000 in
theorem m_Plans_countMoved  (S S' : SS) (r : Int32) (h : f_Plans_countMoved  S = some (r, S')) : MT yX3_countMoved cX3_countMoved 4 (some .int) 4 91 (fun ad => [.ref (ad 70)]) S (some (.int r)) S' := by
  refine MT.of RX3 (fun ad => [(0, .ref (ad 70))]) (by decide) rfl (fun _ => Nat.le_of_ble_eq_true rfl) (fun _ => rfl) ?_
  intro p l e R s m args below meth c dC dI cs ad A hR1 hR2 F H locs ls w hl
  have hx := F.1.1
  have hb := F.1.2.1
  rw [f_Plans_countMoved] at h
  refine lv_aload_n (pc := 0) hx hb dX3_countMoved_0 rfl (lv_at hl 0 rfl) ?_
  refine s_getR (pc := 1) F w 72 ds_70 (j := 0) vc_X3 vi_X3 rfl (by decide) kf_X3_12 dX3_countMoved_1 ?_
  obtain ⟨r2, S1, hc, h⟩ := bnd_t h
  refine s_cvi (pc := 4) [] (fun ad => [.ref (ad 72)]) F w (m_Stacks_members_start  _ _ _ hc) rfl rfl hl.1 ds_72 vc_X7 rfl ok_X7_members rfl kc_X7_members kl_X3_65 ki_X7_members kv_X7_members kn_X7 ⟨Nat.le_trans (by decide) hR1, Nat.le_trans (by decide) hR2⟩ ⟨Nat.zero_le _, Nat.zero_le _⟩ (Nat.le_of_ble_eq_true rfl) dX3_countMoved_4 (fun H locs w => ?_)
  refine lv_istore_n (pc := 7) (lv' := [(1, .int r2), (0, .ref (ad 70))]) hx hb dX3_countMoved_7 rfl hl (by decide) rfl (fun ls hl => ?_)
  refine lv_iconst (pc := 8) (v := 0) hx hb dX3_countMoved_8 (by decide) ?_
  refine lv_istore_n (pc := 9) (lv' := [(2, .int (0 : Int32)), (1, .int r2), (0, .ref (ad 70))]) hx hb dX3_countMoved_9 rfl hl (by decide) rfl (fun ls hl => ?_)
  refine lv_iconst (pc := 10) (v := 0) hx hb dX3_countMoved_10 (by decide) ?_
  refine lv_istore_n (pc := 11) (lv' := [(3, .int (0 : Int32)), (2, .int (0 : Int32)), (1, .int r2), (0, .ref (ad 70))]) hx hb dX3_countMoved_11 rfl hl (by decide) rfl (fun ls hl => ?_)
  exact w_Plans_countMoved_L12 F (Nat.le_trans (by decide) hR1) (Nat.le_trans (by decide) hR2) _ _ _ _ _ h _ _ _ w (lv_sub hl [3, 2, 1, 0] rfl)
def f_Yard_bound  (S : SS) : Option (Int32 × SS) :=
  bnd (f_Plans_haveSameWagons  S) (fun r2 S1 =>
  if r2 = 0 then
    some ((-1 : Int32), S1)
  else
    bnd (f_Plans_countMoved  S1) (fun r4 S3 =>
    some (r4, S3)))
theorem dX11_bound_0 : decode cX11_bound 0 = .ok (.aload_n 0, 1) := dc_42 (by decide +kernel)
theorem dX11_bound_1 : decode cX11_bound 1 = .ok (.getfield 74, 3) := dc_180 (a := 0) (b := 74) (by decide +kernel)
theorem dX11_bound_4 : decode cX11_bound 4 = .ok (.invokevirtual 428, 3) := dc_182 (a := 1) (b := 172) (by decide +kernel)
theorem dX11_bound_7 : decode cX11_bound 7 = .ok (.ifCond .eq 13, 3) := dc_153 (a := 0) (b := 13) (by decide +kernel) (by decide)
theorem dX11_bound_10 : decode cX11_bound 10 = .ok (.aload_n 0, 1) := dc_42 (by decide +kernel)
theorem dX11_bound_11 : decode cX11_bound 11 = .ok (.getfield 74, 3) := dc_180 (a := 0) (b := 74) (by decide +kernel)
theorem dX11_bound_14 : decode cX11_bound 14 = .ok (.invokevirtual 444, 3) := dc_182 (a := 1) (b := 188) (by decide +kernel)
theorem dX11_bound_17 : decode cX11_bound 17 = .ok (.goto 4, 3) := dc_167 (a := 0) (b := 4) (by decide +kernel) (by decide)
theorem dX11_bound_20 : decode cX11_bound 20 = .ok (.iconst (-1), 1) := dc_2 (by decide +kernel)
theorem dX11_bound_21 : decode cX11_bound 21 = .ok (.ireturn, 1) := dc_172 (by decide +kernel)
set_option maxRecDepth 100000 in
set_option maxHeartbeats 4000000 in
theorem m_Yard_bound  (S S' : SS) (r : Int32) (h : f_Yard_bound  S = some (r, S')) : MT yX11_bound cX11_bound 1 (some .int) 5 114 (fun ad => [.ref (ad 61)]) S (some (.int r)) S' := by
  refine MT.of RX11 (fun ad => [(0, .ref (ad 61))]) (by decide) rfl (fun _ => Nat.le_of_ble_eq_true rfl) (fun _ => rfl) ?_
  intro p l e R s m args below meth c dC dI cs ad A hR1 hR2 F H locs ls w hl
  have hx := F.1.1
  have hb := F.1.2.1
  rw [f_Yard_bound] at h
  refine lv_aload_n (pc := 0) hx hb dX11_bound_0 rfl (lv_at hl 0 rfl) ?_
  refine s_getR (pc := 1) F w 70 ds_61 (j := 8) vc_X11 vi_X11 rfl (by decide) kf_X11_74 dX11_bound_1 ?_
  obtain ⟨r2, S1, hc, h⟩ := bnd_t h
  refine s_cvi (pc := 4) [] (fun ad => [.ref (ad 70)]) F w (m_Plans_haveSameWagons  _ _ _ hc) rfl rfl hl.1 ds_70 vc_X3 rfl ok_X3_haveSameWagons rfl kc_X3_haveSameWagons kl_X11_428 ki_X3_haveSameWagons kv_X3_haveSameWagons kn_X3 ⟨Nat.le_trans (by decide) hR1, Nat.le_trans (by decide) hR2⟩ ⟨Nat.zero_le _, Nat.zero_le _⟩ (Nat.le_of_ble_eq_true rfl) dX11_bound_4 (fun H locs w => ?_)
  refine lv_if_eq (pc := 7) (tgt := 20) hx hb dX11_bound_7 (by decide) (fun q => ?_) (fun q => ?_)
  · have h := ite_t q h
    refine lv_iconst (pc := 20) (v := -1) hx hb dX11_bound_20 (by decide) ?_
    exact s_iret F w h dX11_bound_21
  · have h := ite_f q h
    refine lv_aload_n (pc := 10) hx hb dX11_bound_10 rfl (lv_at hl 0 rfl) ?_
    refine s_getR (pc := 11) F w 70 ds_61 (j := 8) vc_X11 vi_X11 rfl (by decide) kf_X11_74 dX11_bound_11 ?_
    obtain ⟨r4, S3, hc, h⟩ := bnd_t h
    refine s_cvi (pc := 14) [] (fun ad => [.ref (ad 70)]) F w (m_Plans_countMoved  _ _ _ hc) rfl rfl hl.1 ds_70 vc_X3 rfl ok_X3_countMoved rfl kc_X3_countMoved kl_X11_444 ki_X3_countMoved kv_X3_countMoved kn_X3 ⟨Nat.le_trans (by decide) hR1, Nat.le_trans (by decide) hR2⟩ ⟨Nat.zero_le _, Nat.zero_le _⟩ (Nat.le_of_ble_eq_true rfl) dX11_bound_14 (fun H locs w => ?_)
    refine lv_goto (pc := 17) (tgt := 21) hx hb dX11_bound_17 (by decide) ?_
    exact s_iret F w h dX11_bound_21
