/-! ===== printed by wip/gen: X3_put X11_lay X12_has_Model_startMany_Model_startOn X12_laid_Model_startMany_Model_startOn X12_has_Model_goalMany_Model_goalOn X12_laid_Model_goalMany_Model_goalOn X12_lay X7_members_start J6_bitCount_0f7a4 J7_fill_53178_start_heights X7_empty_start J7_fill_53178_goal_heights X7_empty_goal X3_drop X3_clear X11_wipe X12_sumOf_Model_startMany X12_wipe X12_areSame ===== -/
def f_X3_put_j15  (x2 : Int32) (x3 : Int32) (S : SS) : Option (Int32 × SS) :=
    if x2 < 0 then
      some ((-1 : Int32), S)
    else
      if (4 : Int32) ≤ x2 then
        some ((-1 : Int32), S)
      else
        bnd (f_X7_height_start x2 S) (fun r2 S1 =>
        grd (inb x2 4) (
        if (S1.1 46 x2.toNatClampNeg) ≤ r2 then
          some ((-1 : Int32), S1)
        else
          bnd (f_X7_stackOf_start x3 S1) (fun r4 S3 =>
          if r4 = (-4 : Int32) then
            bndv (f_X7_put_start x2 x3 S3) (fun S5 =>
            bnd (f_X7_height_start x2 S5) (fun r7 S6 =>
            some (r7, S6)))
          else
            some ((-1 : Int32), S3))))
def f_X3_put_j15_1  (x2 : Int32) (x3 : Int32) (S : SS) : Option (Int32 × SS) :=
    if x2 < 0 then
      some ((-1 : Int32), S)
    else
      if (4 : Int32) ≤ x2 then
        some ((-1 : Int32), S)
      else
        bnd (f_X7_height_goal x2 S) (fun r9 S8 =>
        grd (inb x2 4) (
        if (S8.1 46 x2.toNatClampNeg) ≤ r9 then
          some ((-1 : Int32), S8)
        else
          bnd (f_X7_stackOf_goal x3 S8) (fun r11 S10 =>
          if r11 = (-4 : Int32) then
            bndv (f_X7_put_goal x2 x3 S10) (fun S12 =>
            bnd (f_X7_height_goal x2 S12) (fun r14 S13 =>
            some (r14, S13)))
          else
            some ((-1 : Int32), S10))))
def f_X3_put (a1 : Int32) (a2 : Int32) (a3 : Int32) (S : SS) : Option (Int32 × SS) :=
  if a1 = 0 then
    f_X3_put_j15 a2 a3 S
  else
    f_X3_put_j15_1 a2 a3 S
theorem dX3_put_0 : decode cX3_put 0 = .ok (.iload_n 1, 1) := by decide +kernel
theorem dX3_put_1 : decode cX3_put 1 = .ok (.ifCond .eq 10, 3) := by decide +kernel
theorem dX3_put_4 : decode cX3_put 4 = .ok (.aload_n 0, 1) := by decide +kernel
theorem dX3_put_5 : decode cX3_put 5 = .ok (.getfield 18, 3) := by decide +kernel
theorem dX3_put_8 : decode cX3_put 8 = .ok (.goto 7, 3) := by decide +kernel
theorem dX3_put_11 : decode cX3_put 11 = .ok (.aload_n 0, 1) := by decide +kernel
theorem dX3_put_12 : decode cX3_put 12 = .ok (.getfield 12, 3) := by decide +kernel
theorem dX3_put_15 : decode cX3_put 15 = .ok (.astore 4, 2) := by decide +kernel
theorem dX3_put_17 : decode cX3_put 17 = .ok (.iload_n 2, 1) := by decide +kernel
theorem dX3_put_18 : decode cX3_put 18 = .ok (.ifCond .lt 34, 3) := by decide +kernel
theorem dX3_put_21 : decode cX3_put 21 = .ok (.iload_n 2, 1) := by decide +kernel
theorem dX3_put_22 : decode cX3_put 22 = .ok (.iconst 4, 1) := by decide +kernel
theorem dX3_put_23 : decode cX3_put 23 = .ok (.if_icmp .ge 29, 3) := by decide +kernel
theorem dX3_put_26 : decode cX3_put 26 = .ok (.aload 4, 2) := by decide +kernel
theorem dX3_put_28 : decode cX3_put 28 = .ok (.iload_n 2, 1) := by decide +kernel
theorem dX3_put_29 : decode cX3_put 29 = .ok (.invokevirtual 54, 3) := by decide +kernel
theorem dX3_put_32 : decode cX3_put 32 = .ok (.aload_n 0, 1) := by decide +kernel
theorem dX3_put_33 : decode cX3_put 33 = .ok (.getfield 24, 3) := by decide +kernel
theorem dX3_put_36 : decode cX3_put 36 = .ok (.iload_n 2, 1) := by decide +kernel
theorem dX3_put_37 : decode cX3_put 37 = .ok (.iaload, 1) := by decide +kernel
theorem dX3_put_38 : decode cX3_put 38 = .ok (.if_icmp .ge 14, 3) := by decide +kernel
theorem dX3_put_41 : decode cX3_put 41 = .ok (.aload 4, 2) := by decide +kernel
theorem dX3_put_43 : decode cX3_put 43 = .ok (.iload_n 3, 1) := by decide +kernel
theorem dX3_put_44 : decode cX3_put 44 = .ok (.invokevirtual 58, 3) := by decide +kernel
theorem dX3_put_47 : decode cX3_put 47 = .ok (.bipush (-4), 2) := by decide +kernel
theorem dX3_put_49 : decode cX3_put 49 = .ok (.if_icmp .eq 5, 3) := by decide +kernel
theorem dX3_put_52 : decode cX3_put 52 = .ok (.iconst (-1), 1) := by decide +kernel
theorem dX3_put_53 : decode cX3_put 53 = .ok (.ireturn, 1) := by decide +kernel
theorem dX3_put_54 : decode cX3_put 54 = .ok (.aload 4, 2) := by decide +kernel
theorem dX3_put_56 : decode cX3_put 56 = .ok (.iload_n 2, 1) := by decide +kernel
theorem dX3_put_57 : decode cX3_put 57 = .ok (.iload_n 3, 1) := by decide +kernel
theorem dX3_put_58 : decode cX3_put 58 = .ok (.invokevirtual 61, 3) := by decide +kernel
theorem dX3_put_61 : decode cX3_put 61 = .ok (.aload 4, 2) := by decide +kernel
theorem dX3_put_63 : decode cX3_put 63 = .ok (.iload_n 2, 1) := by decide +kernel
theorem dX3_put_64 : decode cX3_put 64 = .ok (.invokevirtual 54, 3) := by decide +kernel
theorem dX3_put_67 : decode cX3_put 67 = .ok (.ireturn, 1) := by decide +kernel
set_option maxRecDepth 100000 in
set_option maxHeartbeats 4000000 in
theorem w_X3_put_j15 {p : Program} {l : Launch} {e : Env} {R : Room} {s : State} {m : MethodId} {args : Array Value} {below : List Frame} {meth : Method} {c : Code} {dC : Nat → ClassId} {dI : Nat → Nat → Nat} {cs : Nat → ClassId} {ad : Nat → Nat} {A : Nat → Prop} {D0 : Nat → Nat} {S' : SS} {r : Int32} (F : Fx p s m args meth c cX3_put 5 RX3 (some .int) dC dI cs A) (hR1 : 3 ≤ R.frames) (hR2 : 68 ≤ R.locals) (x2 : Int32) (x3 : Int32) (S : SS) (h : f_X3_put_j15 x2 x3 S = some (r, S')) : AW p l e R s m args below meth c dC dI cs ad A D0 (some (.int r)) S' 5 15 [(0, .ref (ad 9)), (2, .int x2), (3, .int x3)] [.ref (ad 11)] S := by
  have hx := F.1.1
  have hb := F.1.2.1
  intro H locs ls w hl
  rw [f_X3_put_j15] at h
  refine lv_astore (pc := 15) (lv' := [(4, .ref (ad 11)), (0, .ref (ad 9)), (2, .int x2), (3, .int x3)]) hx hb dX3_put_15 hl (by decide) rfl (fun ls hl => ?_)
  refine lv_iload_n (pc := 17) hx hb dX3_put_17 rfl (lv_at hl 2 rfl) ?_
  refine lv_if_lt (pc := 18) (tgt := 52) hx hb dX3_put_18 (by decide) (fun q => ?_) (fun q => ?_)
  · have h := ite_t q h
    refine lv_iconst (pc := 52) (v := -1) hx hb dX3_put_52 (by decide) ?_
    exact s_iret F w h dX3_put_53
  · have h := ite_f q h
    refine lv_iload_n (pc := 21) hx hb dX3_put_21 rfl (lv_at hl 2 rfl) ?_
    refine lv_iconst (pc := 22) (v := 4) hx hb dX3_put_22 (by decide) ?_
    refine lv_icmp_ge (pc := 23) (tgt := 52) hx hb dX3_put_23 (by decide) (fun q => ?_) (fun q => ?_)
    · have h := ite_t q h
      refine lv_iconst (pc := 52) (v := -1) hx hb dX3_put_52 (by decide) ?_
      exact s_iret F w h dX3_put_53
    · have h := ite_f q h
      refine lv_aload (pc := 26) hx hb dX3_put_26 (lv_at hl 0 rfl) ?_
      refine lv_iload_n (pc := 28) hx hb dX3_put_28 rfl (lv_at hl 2 rfl) ?_
      obtain ⟨r2, S1, hc, h⟩ := bnd_t h
      refine s_cvi (pc := 29) [.int x2] (fun ad => [.ref (ad 11), .int x2]) F w (m_X7_height_start _ _ _ _ hc) rfl rfl hl.1 ds_11 vc_X7 rfl ok_X7_height rfl kc_X7_height kl_X3_54 ki_X7_height kv_X7_height kn_X7 ⟨Nat.le_trans (by decide) hR1, Nat.le_trans (by decide) hR2⟩ ⟨Nat.zero_le _, Nat.zero_le _⟩ (Nat.le_of_ble_eq_true rfl) dX3_put_29 (fun H locs w => ?_)
      refine lv_aload_n (pc := 32) hx hb dX3_put_32 rfl (lv_at hl 1 rfl) ?_
      refine s_getR (pc := 33) F w 46 ds_9 (j := 3) vc_X3 vi_X3 rfl (by decide) kf_X3_24 dX3_put_33 ?_
      refine lv_iload_n (pc := 36) hx hb dX3_put_36 rfl (lv_at hl 2 rfl) ?_
      refine s_iald (pc := 37) F w ds_46 h dX3_put_37 (fun h => ?_)
      refine lv_icmp_ge (pc := 38) (tgt := 52) hx hb dX3_put_38 (by decide) (fun q => ?_) (fun q => ?_)
      · have h := ite_t q h
        refine lv_iconst (pc := 52) (v := -1) hx hb dX3_put_52 (by decide) ?_
        exact s_iret F w h dX3_put_53
      · have h := ite_f q h
        refine lv_aload (pc := 41) hx hb dX3_put_41 (lv_at hl 0 rfl) ?_
        refine lv_iload_n (pc := 43) hx hb dX3_put_43 rfl (lv_at hl 3 rfl) ?_
        obtain ⟨r4, S3, hc, h⟩ := bnd_t h
        refine s_cvi (pc := 44) [.int x3] (fun ad => [.ref (ad 11), .int x3]) F w (m_X7_stackOf_start _ _ _ _ hc) rfl rfl hl.1 ds_11 vc_X7 rfl ok_X7_stackOf rfl kc_X7_stackOf kl_X3_58 ki_X7_stackOf kv_X7_stackOf kn_X7 ⟨Nat.le_trans (by decide) hR1, Nat.le_trans (by decide) hR2⟩ ⟨Nat.zero_le _, Nat.zero_le _⟩ (Nat.le_of_ble_eq_true rfl) dX3_put_44 (fun H locs w => ?_)
        refine lv_bipush (pc := 47) (v := -4) hx hb dX3_put_47 (by decide) ?_
        refine lv_icmp_eq (pc := 49) (tgt := 54) hx hb dX3_put_49 (by decide) (fun q => ?_) (fun q => ?_)
        · have h := ite_t q h
          refine lv_aload (pc := 54) hx hb dX3_put_54 (lv_at hl 0 rfl) ?_
          refine lv_iload_n (pc := 56) hx hb dX3_put_56 rfl (lv_at hl 2 rfl) ?_
          refine lv_iload_n (pc := 57) hx hb dX3_put_57 rfl (lv_at hl 3 rfl) ?_
          obtain ⟨S5, hc, h⟩ := bndv_t h
          refine s_cvv (pc := 58) [.int x2, .int x3] (fun ad => [.ref (ad 11), .int x2, .int x3]) F w (m_X7_put_start _ _ _ _ hc) rfl rfl hl.1 ds_11 vc_X7 rfl ok_X7_put rfl kc_X7_put kl_X3_61 ki_X7_put kv_X7_put kn_X7 ⟨Nat.le_trans (by decide) hR1, Nat.le_trans (by decide) hR2⟩ ⟨Nat.zero_le _, Nat.zero_le _⟩ (Nat.le_of_ble_eq_true rfl) dX3_put_58 (fun H locs w => ?_)
          refine lv_aload (pc := 61) hx hb dX3_put_61 (lv_at hl 0 rfl) ?_
          refine lv_iload_n (pc := 63) hx hb dX3_put_63 rfl (lv_at hl 2 rfl) ?_
          obtain ⟨r7, S6, hc, h⟩ := bnd_t h
          refine s_cvi (pc := 64) [.int x2] (fun ad => [.ref (ad 11), .int x2]) F w (m_X7_height_start _ _ _ _ hc) rfl rfl hl.1 ds_11 vc_X7 rfl ok_X7_height rfl kc_X7_height kl_X3_54 ki_X7_height kv_X7_height kn_X7 ⟨Nat.le_trans (by decide) hR1, Nat.le_trans (by decide) hR2⟩ ⟨Nat.zero_le _, Nat.zero_le _⟩ (Nat.le_of_ble_eq_true rfl) dX3_put_64 (fun H locs w => ?_)
          exact s_iret F w h dX3_put_67
        · have h := ite_f q h
          refine lv_iconst (pc := 52) (v := -1) hx hb dX3_put_52 (by decide) ?_
          exact s_iret F w h dX3_put_53
set_option maxRecDepth 100000 in
set_option maxHeartbeats 4000000 in
theorem w_X3_put_j15_1 {p : Program} {l : Launch} {e : Env} {R : Room} {s : State} {m : MethodId} {args : Array Value} {below : List Frame} {meth : Method} {c : Code} {dC : Nat → ClassId} {dI : Nat → Nat → Nat} {cs : Nat → ClassId} {ad : Nat → Nat} {A : Nat → Prop} {D0 : Nat → Nat} {S' : SS} {r : Int32} (F : Fx p s m args meth c cX3_put 5 RX3 (some .int) dC dI cs A) (hR1 : 3 ≤ R.frames) (hR2 : 68 ≤ R.locals) (x2 : Int32) (x3 : Int32) (S : SS) (h : f_X3_put_j15_1 x2 x3 S = some (r, S')) : AW p l e R s m args below meth c dC dI cs ad A D0 (some (.int r)) S' 5 15 [(0, .ref (ad 9)), (2, .int x2), (3, .int x3)] [.ref (ad 12)] S := by
  have hx := F.1.1
  have hb := F.1.2.1
  intro H locs ls w hl
  rw [f_X3_put_j15_1] at h
  refine lv_astore (pc := 15) (lv' := [(4, .ref (ad 12)), (0, .ref (ad 9)), (2, .int x2), (3, .int x3)]) hx hb dX3_put_15 hl (by decide) rfl (fun ls hl => ?_)
  refine lv_iload_n (pc := 17) hx hb dX3_put_17 rfl (lv_at hl 2 rfl) ?_
  refine lv_if_lt (pc := 18) (tgt := 52) hx hb dX3_put_18 (by decide) (fun q => ?_) (fun q => ?_)
  · have h := ite_t q h
    refine lv_iconst (pc := 52) (v := -1) hx hb dX3_put_52 (by decide) ?_
    exact s_iret F w h dX3_put_53
  · have h := ite_f q h
    refine lv_iload_n (pc := 21) hx hb dX3_put_21 rfl (lv_at hl 2 rfl) ?_
    refine lv_iconst (pc := 22) (v := 4) hx hb dX3_put_22 (by decide) ?_
    refine lv_icmp_ge (pc := 23) (tgt := 52) hx hb dX3_put_23 (by decide) (fun q => ?_) (fun q => ?_)
    · have h := ite_t q h
      refine lv_iconst (pc := 52) (v := -1) hx hb dX3_put_52 (by decide) ?_
      exact s_iret F w h dX3_put_53
    · have h := ite_f q h
      refine lv_aload (pc := 26) hx hb dX3_put_26 (lv_at hl 0 rfl) ?_
      refine lv_iload_n (pc := 28) hx hb dX3_put_28 rfl (lv_at hl 2 rfl) ?_
      obtain ⟨r9, S8, hc, h⟩ := bnd_t h
      refine s_cvi (pc := 29) [.int x2] (fun ad => [.ref (ad 12), .int x2]) F w (m_X7_height_goal _ _ _ _ hc) rfl rfl hl.1 ds_12 vc_X7 rfl ok_X7_height rfl kc_X7_height kl_X3_54 ki_X7_height kv_X7_height kn_X7 ⟨Nat.le_trans (by decide) hR1, Nat.le_trans (by decide) hR2⟩ ⟨Nat.zero_le _, Nat.zero_le _⟩ (Nat.le_of_ble_eq_true rfl) dX3_put_29 (fun H locs w => ?_)
      refine lv_aload_n (pc := 32) hx hb dX3_put_32 rfl (lv_at hl 1 rfl) ?_
      refine s_getR (pc := 33) F w 46 ds_9 (j := 3) vc_X3 vi_X3 rfl (by decide) kf_X3_24 dX3_put_33 ?_
      refine lv_iload_n (pc := 36) hx hb dX3_put_36 rfl (lv_at hl 2 rfl) ?_
      refine s_iald (pc := 37) F w ds_46 h dX3_put_37 (fun h => ?_)
      refine lv_icmp_ge (pc := 38) (tgt := 52) hx hb dX3_put_38 (by decide) (fun q => ?_) (fun q => ?_)
      · have h := ite_t q h
        refine lv_iconst (pc := 52) (v := -1) hx hb dX3_put_52 (by decide) ?_
        exact s_iret F w h dX3_put_53
      · have h := ite_f q h
        refine lv_aload (pc := 41) hx hb dX3_put_41 (lv_at hl 0 rfl) ?_
        refine lv_iload_n (pc := 43) hx hb dX3_put_43 rfl (lv_at hl 3 rfl) ?_
        obtain ⟨r11, S10, hc, h⟩ := bnd_t h
        refine s_cvi (pc := 44) [.int x3] (fun ad => [.ref (ad 12), .int x3]) F w (m_X7_stackOf_goal _ _ _ _ hc) rfl rfl hl.1 ds_12 vc_X7 rfl ok_X7_stackOf rfl kc_X7_stackOf kl_X3_58 ki_X7_stackOf kv_X7_stackOf kn_X7 ⟨Nat.le_trans (by decide) hR1, Nat.le_trans (by decide) hR2⟩ ⟨Nat.zero_le _, Nat.zero_le _⟩ (Nat.le_of_ble_eq_true rfl) dX3_put_44 (fun H locs w => ?_)
        refine lv_bipush (pc := 47) (v := -4) hx hb dX3_put_47 (by decide) ?_
        refine lv_icmp_eq (pc := 49) (tgt := 54) hx hb dX3_put_49 (by decide) (fun q => ?_) (fun q => ?_)
        · have h := ite_t q h
          refine lv_aload (pc := 54) hx hb dX3_put_54 (lv_at hl 0 rfl) ?_
          refine lv_iload_n (pc := 56) hx hb dX3_put_56 rfl (lv_at hl 2 rfl) ?_
          refine lv_iload_n (pc := 57) hx hb dX3_put_57 rfl (lv_at hl 3 rfl) ?_
          obtain ⟨S12, hc, h⟩ := bndv_t h
          refine s_cvv (pc := 58) [.int x2, .int x3] (fun ad => [.ref (ad 12), .int x2, .int x3]) F w (m_X7_put_goal _ _ _ _ hc) rfl rfl hl.1 ds_12 vc_X7 rfl ok_X7_put rfl kc_X7_put kl_X3_61 ki_X7_put kv_X7_put kn_X7 ⟨Nat.le_trans (by decide) hR1, Nat.le_trans (by decide) hR2⟩ ⟨Nat.zero_le _, Nat.zero_le _⟩ (Nat.le_of_ble_eq_true rfl) dX3_put_58 (fun H locs w => ?_)
          refine lv_aload (pc := 61) hx hb dX3_put_61 (lv_at hl 0 rfl) ?_
          refine lv_iload_n (pc := 63) hx hb dX3_put_63 rfl (lv_at hl 2 rfl) ?_
          obtain ⟨r14, S13, hc, h⟩ := bnd_t h
          refine s_cvi (pc := 64) [.int x2] (fun ad => [.ref (ad 12), .int x2]) F w (m_X7_height_goal _ _ _ _ hc) rfl rfl hl.1 ds_12 vc_X7 rfl ok_X7_height rfl kc_X7_height kl_X3_54 ki_X7_height kv_X7_height kn_X7 ⟨Nat.le_trans (by decide) hR1, Nat.le_trans (by decide) hR2⟩ ⟨Nat.zero_le _, Nat.zero_le _⟩ (Nat.le_of_ble_eq_true rfl) dX3_put_64 (fun H locs w => ?_)
          exact s_iret F w h dX3_put_67
        · have h := ite_f q h
          refine lv_iconst (pc := 52) (v := -1) hx hb dX3_put_52 (by decide) ?_
          exact s_iret F w h dX3_put_53
set_option maxRecDepth 100000 in
set_option maxHeartbeats 4000000 in
theorem m_X3_put (a1 : Int32) (a2 : Int32) (a3 : Int32) (S S' : SS) (r : Int32) (h : f_X3_put a1 a2 a3 S = some (r, S')) : MT yX3_put cX3_put 5 (some .int) 3 68 (fun ad => [.ref (ad 9), .int a1, .int a2, .int a3]) S (some (.int r)) S' := by
  refine MT.of RX3 (fun ad => [(0, .ref (ad 9)), (1, .int a1), (2, .int a2), (3, .int a3)]) (by decide) rfl (fun _ => Nat.le_of_ble_eq_true rfl) (fun _ => rfl) ?_
  intro p l e R s m args below meth c dC dI cs ad A hR1 hR2 F H locs ls w hl
  have hx := F.1.1
  have hb := F.1.2.1
  rw [f_X3_put] at h
  refine lv_iload_n (pc := 0) hx hb dX3_put_0 rfl (lv_at hl 1 rfl) ?_
  refine lv_if_eq (pc := 1) (tgt := 11) hx hb dX3_put_1 (by decide) (fun q => ?_) (fun q => ?_)
  · have h := ite_t q h
    refine lv_aload_n (pc := 11) hx hb dX3_put_11 rfl (lv_at hl 0 rfl) ?_
    refine s_getR (pc := 12) F w 11 ds_9 (j := 0) vc_X3 vi_X3 rfl (by decide) kf_X3_12 dX3_put_12 ?_
    exact w_X3_put_j15 F (Nat.le_trans (by decide) hR1) (Nat.le_trans (by decide) hR2) _ _ _ h _ _ _ w (lv_sub hl [0, 2, 3] rfl)
  · have h := ite_f q h
    refine lv_aload_n (pc := 4) hx hb dX3_put_4 rfl (lv_at hl 0 rfl) ?_
    refine s_getR (pc := 5) F w 12 ds_9 (j := 1) vc_X3 vi_X3 rfl (by decide) kf_X3_18 dX3_put_5 ?_
    refine lv_goto (pc := 8) (tgt := 15) hx hb dX3_put_8 (by decide) ?_
    exact w_X3_put_j15_1 F (Nat.le_trans (by decide) hR1) (Nat.le_trans (by decide) hR2) _ _ _ h _ _ _ w (lv_sub hl [0, 2, 3] rfl)
def f_X11_lay (a1 : Int32) (a2 : Int32) (a3 : Int32) (S : SS) : Option (Int32 × SS) :=
  bnd (f_X11_isNot a2 (0 : Int32) (3 : Int32) S) (fun r2 S1 =>
  if r2 = 0 then
    bnd (f_X11_isNot a3 (0 : Int32) (9 : Int32) S1) (fun r4 S3 =>
    if r4 = 0 then
      bnd (f_X3_put a1 a2 a3 S3) (fun r6 S5 =>
      some (r6, S5))
    else
      some ((-1 : Int32), S3))
  else
    some ((-1 : Int32), S1))
theorem dX11_lay_0 : decode cX11_lay 0 = .ok (.iload_n 2, 1) := by decide +kernel
theorem dX11_lay_1 : decode cX11_lay 1 = .ok (.iconst 0, 1) := by decide +kernel
theorem dX11_lay_2 : decode cX11_lay 2 = .ok (.iconst 3, 1) := by decide +kernel
theorem dX11_lay_3 : decode cX11_lay 3 = .ok (.invokestatic 108, 3) := by decide +kernel
theorem dX11_lay_6 : decode cX11_lay 6 = .ok (.ifCond .ne 13, 3) := by decide +kernel
theorem dX11_lay_9 : decode cX11_lay 9 = .ok (.iload_n 3, 1) := by decide +kernel
theorem dX11_lay_10 : decode cX11_lay 10 = .ok (.iconst 0, 1) := by decide +kernel
theorem dX11_lay_11 : decode cX11_lay 11 = .ok (.bipush 9, 2) := by decide +kernel
theorem dX11_lay_13 : decode cX11_lay 13 = .ok (.invokestatic 108, 3) := by decide +kernel
theorem dX11_lay_16 : decode cX11_lay 16 = .ok (.ifCond .eq 5, 3) := by decide +kernel
theorem dX11_lay_19 : decode cX11_lay 19 = .ok (.iconst (-1), 1) := by decide +kernel
theorem dX11_lay_20 : decode cX11_lay 20 = .ok (.ireturn, 1) := by decide +kernel
theorem dX11_lay_21 : decode cX11_lay 21 = .ok (.aload_n 0, 1) := by decide +kernel
theorem dX11_lay_22 : decode cX11_lay 22 = .ok (.getfield 74, 3) := by decide +kernel
theorem dX11_lay_25 : decode cX11_lay 25 = .ok (.iload_n 1, 1) := by decide +kernel
theorem dX11_lay_26 : decode cX11_lay 26 = .ok (.iload_n 2, 1) := by decide +kernel
theorem dX11_lay_27 : decode cX11_lay 27 = .ok (.iload_n 3, 1) := by decide +kernel
theorem dX11_lay_28 : decode cX11_lay 28 = .ok (.invokevirtual 421, 3) := by decide +kernel
theorem dX11_lay_31 : decode cX11_lay 31 = .ok (.ireturn, 1) := by decide +kernel
set_option maxRecDepth 100000 in
set_option maxHeartbeats 4000000 in
theorem m_X11_lay (a1 : Int32) (a2 : Int32) (a3 : Int32) (S S' : SS) (r : Int32) (h : f_X11_lay a1 a2 a3 S = some (r, S')) : MT yX11_lay cX11_lay 4 (some .int) 4 92 (fun ad => [.ref (ad 0), .int a1, .int a2, .int a3]) S (some (.int r)) S' := by
  refine MT.of RX11 (fun ad => [(0, .ref (ad 0)), (1, .int a1), (2, .int a2), (3, .int a3)]) (by decide) rfl (fun _ => Nat.le_of_ble_eq_true rfl) (fun _ => rfl) ?_
  intro p l e R s m args below meth c dC dI cs ad A hR1 hR2 F H locs ls w hl
  have hx := F.1.1
  have hb := F.1.2.1
  rw [f_X11_lay] at h
  refine lv_iload_n (pc := 0) hx hb dX11_lay_0 rfl (lv_at hl 2 rfl) ?_
  refine lv_iconst (pc := 1) (v := 0) hx hb dX11_lay_1 (by decide) ?_
  refine lv_iconst (pc := 2) (v := 3) hx hb dX11_lay_2 (by decide) ?_
  obtain ⟨r2, S1, hc, h⟩ := bnd_t h
  refine s_csi (pc := 3) [.int a2, .int (0 : Int32), .int (3 : Int32)] (fun ad => [.int a2, .int (0 : Int32), .int (3 : Int32)]) F w (m_X11_isNot _ _ _ _ _ _ hc) rfl rfl hl.1 ok_X11_isNot rfl kc_X11_isNot kl_X11_108 ks_X11_isNot kn_X11 ⟨Nat.le_trans (by decide) hR1, Nat.le_trans (by decide) hR2⟩ ⟨Nat.zero_le _, Nat.zero_le _⟩ (Nat.le_of_ble_eq_true rfl) dX11_lay_3 (fun H locs w => ?_)
  refine lv_if_ne (pc := 6) (tgt := 19) hx hb dX11_lay_6 (by decide) (fun q => ?_) (fun q => ?_)
  · have h := ite_f q h
    refine lv_iconst (pc := 19) (v := -1) hx hb dX11_lay_19 (by decide) ?_
    exact s_iret F w h dX11_lay_20
  · have h := ite_t q h
    refine lv_iload_n (pc := 9) hx hb dX11_lay_9 rfl (lv_at hl 3 rfl) ?_
    refine lv_iconst (pc := 10) (v := 0) hx hb dX11_lay_10 (by decide) ?_
    refine lv_bipush (pc := 11) (v := 9) hx hb dX11_lay_11 (by decide) ?_
    obtain ⟨r4, S3, hc, h⟩ := bnd_t h
    refine s_csi (pc := 13) [.int a3, .int (0 : Int32), .int (9 : Int32)] (fun ad => [.int a3, .int (0 : Int32), .int (9 : Int32)]) F w (m_X11_isNot _ _ _ _ _ _ hc) rfl rfl hl.1 ok_X11_isNot rfl kc_X11_isNot kl_X11_108 ks_X11_isNot kn_X11 ⟨Nat.le_trans (by decide) hR1, Nat.le_trans (by decide) hR2⟩ ⟨Nat.zero_le _, Nat.zero_le _⟩ (Nat.le_of_ble_eq_true rfl) dX11_lay_13 (fun H locs w => ?_)
    refine lv_if_eq (pc := 16) (tgt := 21) hx hb dX11_lay_16 (by decide) (fun q => ?_) (fun q => ?_)
    · have h := ite_t q h
      refine lv_aload_n (pc := 21) hx hb dX11_lay_21 rfl (lv_at hl 0 rfl) ?_
      refine s_getR (pc := 22) F w 9 ds_0 (j := 8) vc_X11 vi_X11 rfl (by decide) kf_X11_74 dX11_lay_22 ?_
      refine lv_iload_n (pc := 25) hx hb dX11_lay_25 rfl (lv_at hl 1 rfl) ?_
      refine lv_iload_n (pc := 26) hx hb dX11_lay_26 rfl (lv_at hl 2 rfl) ?_
      refine lv_iload_n (pc := 27) hx hb dX11_lay_27 rfl (lv_at hl 3 rfl) ?_
      obtain ⟨r6, S5, hc, h⟩ := bnd_t h
      refine s_cvi (pc := 28) [.int a1, .int a2, .int a3] (fun ad => [.ref (ad 9), .int a1, .int a2, .int a3]) F w (m_X3_put _ _ _ _ _ _ hc) rfl rfl hl.1 ds_9 vc_X3 rfl ok_X3_put rfl kc_X3_put kl_X11_421 ki_X3_put kv_X3_put kn_X3 ⟨Nat.le_trans (by decide) hR1, Nat.le_trans (by decide) hR2⟩ ⟨Nat.zero_le _, Nat.zero_le _⟩ (Nat.le_of_ble_eq_true rfl) dX11_lay_28 (fun H locs w => ?_)
      exact s_iret F w h dX11_lay_31
    · have h := ite_f q h
      refine lv_iconst (pc := 19) (v := -1) hx hb dX11_lay_19 (by decide) ?_
      exact s_iret F w h dX11_lay_20
def f_X12_has_Model_startMany_Model_startOn_j46 (K14 : Int32 → Int32 → Int32 → Int32 → SS → Option (Int32 × SS)) (x2 : Int32) (x4 : Int32) (x5 : Int32) (y0 : Int32) (S : SS) : Option (Int32 × SS) :=
    nm (x5 + (1 : Int32)) (fun z2 =>
    K14 x2 y0 x4 z2 S)
def f_X12_has_Model_startMany_Model_startOn_j41 (K14 : Int32 → Int32 → Int32 → Int32 → SS → Option (Int32 × SS)) (x2 : Int32) (x4 : Int32) (x5 : Int32) (S : SS) : Option (Int32 × SS) :=
    f_X12_has_Model_startMany_Model_startOn_j46 K14 x2 x4 x5 (1 : Int32) S
def f_X12_has_Model_startMany_Model_startOn_L14 (K5 : Int32 → Int32 → Int32 → SS → Option (Int32 × SS)) : Nat → Int32 → Int32 → Int32 → Int32 → SS → Option (Int32 × SS)
  | 0, _, _, _, _, _ => none
  | n + 1, x2, x3, x4, x5, S =>
    grd (inb x4 4) (
    if (S.1 114 x4.toNatClampNeg) ≤ x5 then
      nm (x4 + (1 : Int32)) (fun z1 =>
      K5 x2 x3 z1 S)
    else
      if x3 = 0 then
        grd (inb (((10 : Int32) * x4) + x5) 40) (
        if (S.1 115 (((10 : Int32) * x4) + x5).toNatClampNeg) = x2 then
          f_X12_has_Model_startMany_Model_startOn_j41 (fun v0 v1 v2 v3 S => f_X12_has_Model_startMany_Model_startOn_L14 K5 n v0 v1 v2 v3 S) x2 x4 x5 S
        else
          f_X12_has_Model_startMany_Model_startOn_j46 (fun v0 v1 v2 v3 S => f_X12_has_Model_startMany_Model_startOn_L14 K5 n v0 v1 v2 v3 S) x2 x4 x5 (0 : Int32) S)
      else
        f_X12_has_Model_startMany_Model_startOn_j41 (fun v0 v1 v2 v3 S => f_X12_has_Model_startMany_Model_startOn_L14 K5 n v0 v1 v2 v3 S) x2 x4 x5 S)
def f_X12_has_Model_startMany_Model_startOn_L5  : Nat → Int32 → Int32 → Int32 → SS → Option (Int32 × SS)
  | 0, _, _, _, _ => none
  | n + 1, x2, x3, x4, S =>
    if (4 : Int32) ≤ x4 then
      grd (isB x3) (some (x3, S))
    else
      f_X12_has_Model_startMany_Model_startOn_L14 (fun v0 v1 v2 S => f_X12_has_Model_startMany_Model_startOn_L5 n v0 v1 v2 S) NF x2 x3 x4 (0 : Int32) S
def f_X12_has_Model_startMany_Model_startOn (a2 : Int32) (S : SS) : Option (Int32 × SS) :=
  f_X12_has_Model_startMany_Model_startOn_L5 NF a2 (0 : Int32) (0 : Int32) S
theorem dX12_has_0 : decode cX12_has 0 = .ok (.iconst 0, 1) := by decide +kernel
theorem dX12_has_1 : decode cX12_has 1 = .ok (.istore_n 3, 1) := by decide +kernel
theorem dX12_has_2 : decode cX12_has 2 = .ok (.iconst 0, 1) := by decide +kernel
theorem dX12_has_3 : decode cX12_has 3 = .ok (.istore 4, 2) := by decide +kernel
theorem dX12_has_5 : decode cX12_has 5 = .ok (.iload 4, 2) := by decide +kernel
theorem dX12_has_7 : decode cX12_has 7 = .ok (.iconst 4, 1) := by decide +kernel
theorem dX12_has_8 : decode cX12_has 8 = .ok (.if_icmp .ge 51, 3) := by decide +kernel
theorem dX12_has_11 : decode cX12_has 11 = .ok (.iconst 0, 1) := by decide +kernel
theorem dX12_has_12 : decode cX12_has 12 = .ok (.istore 5, 2) := by decide +kernel
theorem dX12_has_14 : decode cX12_has 14 = .ok (.iload 5, 2) := by decide +kernel
theorem dX12_has_16 : decode cX12_has 16 = .ok (.aload_n 0, 1) := by decide +kernel
theorem dX12_has_17 : decode cX12_has 17 = .ok (.iload 4, 2) := by decide +kernel
theorem dX12_has_19 : decode cX12_has 19 = .ok (.iaload, 1) := by decide +kernel
theorem dX12_has_20 : decode cX12_has 20 = .ok (.if_icmp .ge 33, 3) := by decide +kernel
theorem dX12_has_23 : decode cX12_has 23 = .ok (.iload_n 3, 1) := by decide +kernel
theorem dX12_has_24 : decode cX12_has 24 = .ok (.ifCond .ne 17, 3) := by decide +kernel
theorem dX12_has_27 : decode cX12_has 27 = .ok (.aload_n 1, 1) := by decide +kernel
theorem dX12_has_28 : decode cX12_has 28 = .ok (.bipush 10, 2) := by decide +kernel
theorem dX12_has_30 : decode cX12_has 30 = .ok (.iload 4, 2) := by decide +kernel
theorem dX12_has_32 : decode cX12_has 32 = .ok (.imul, 1) := by decide +kernel
theorem dX12_has_33 : decode cX12_has 33 = .ok (.iload 5, 2) := by decide +kernel
theorem dX12_has_35 : decode cX12_has 35 = .ok (.iadd, 1) := by decide +kernel
theorem dX12_has_36 : decode cX12_has 36 = .ok (.iaload, 1) := by decide +kernel
theorem dX12_has_37 : decode cX12_has 37 = .ok (.iload_n 2, 1) := by decide +kernel
theorem dX12_has_38 : decode cX12_has 38 = .ok (.if_icmp .ne 7, 3) := by decide +kernel
theorem dX12_has_41 : decode cX12_has 41 = .ok (.iconst 1, 1) := by decide +kernel
theorem dX12_has_42 : decode cX12_has 42 = .ok (.goto 4, 3) := by decide +kernel
theorem dX12_has_45 : decode cX12_has 45 = .ok (.iconst 0, 1) := by decide +kernel
theorem dX12_has_46 : decode cX12_has 46 = .ok (.istore_n 3, 1) := by decide +kernel
theorem dX12_has_47 : decode cX12_has 47 = .ok (.iinc 5 1, 3) := by decide +kernel
theorem dX12_has_50 : decode cX12_has 50 = .ok (.goto (-36), 3) := by decide +kernel
theorem dX12_has_53 : decode cX12_has 53 = .ok (.iinc 4 1, 3) := by decide +kernel
theorem dX12_has_56 : decode cX12_has 56 = .ok (.goto (-51), 3) := by decide +kernel
theorem dX12_has_59 : decode cX12_has 59 = .ok (.iload_n 3, 1) := by decide +kernel
theorem dX12_has_60 : decode cX12_has 60 = .ok (.ireturn, 1) := by decide +kernel
set_option maxRecDepth 100000 in
set_option maxHeartbeats 4000000 in
theorem w_X12_has_Model_startMany_Model_startOn_j46 {p : Program} {l : Launch} {e : Env} {R : Room} {s : State} {m : MethodId} {args : Array Value} {below : List Frame} {meth : Method} {c : Code} {dC : Nat → ClassId} {dI : Nat → Nat → Nat} {cs : Nat → ClassId} {ad : Nat → Nat} {A : Nat → Prop} {D0 : Nat → Nat} {S' : SS} {r : Int32} (F : Fx p s m args meth c cX12_has 6 RX12 (some .boolean) dC dI cs A) (hR1 : 0 ≤ R.frames) (hR2 : 0 ≤ R.locals) (K14 : Int32 → Int32 → Int32 → Int32 → SS → Option (Int32 × SS)) (hK14 : ∀ (v0 : Int32) (v1 : Int32) (v2 : Int32) (v3 : Int32) (S : SS), K14 v0 v1 v2 v3 S = some (r, S') → AW p l e R s m args below meth c dC dI cs ad A D0 (some (.int r)) S' 6 14 [(0, .ref (ad 114)), (1, .ref (ad 115)), (2, .int v0), (3, .int v1), (4, .int v2), (5, .int v3)] [] S) (x2 : Int32) (x4 : Int32) (x5 : Int32) (y0 : Int32) (S : SS) (h : f_X12_has_Model_startMany_Model_startOn_j46 K14 x2 x4 x5 y0 S = some (r, S')) : AW p l e R s m args below meth c dC dI cs ad A D0 (some (.int r)) S' 6 46 [(0, .ref (ad 114)), (1, .ref (ad 115)), (2, .int x2), (4, .int x4), (5, .int x5)] [.int y0] S := by
  have hx := F.1.1
  have hb := F.1.2.1
  intro H locs ls w hl
  rw [f_X12_has_Model_startMany_Model_startOn_j46] at h
  refine lv_istore_n (pc := 46) (lv' := [(3, .int y0), (0, .ref (ad 114)), (1, .ref (ad 115)), (2, .int x2), (4, .int x4), (5, .int x5)]) hx hb dX12_has_46 rfl hl (by decide) rfl (fun ls hl => ?_)
  refine s_nm h (fun z2 ez2 h => ?_)
  refine lv_iinc (pc := 47) (v := z2) (lv' := [(5, .int z2), (3, .int y0), (0, .ref (ad 114)), (1, .ref (ad 115)), (2, .int x2), (4, .int x4)]) hx hb dX12_has_47 hl (k := 5) rfl (by rw [ez2]; rfl) (by decide) rfl (fun ls hl => ?_)
  refine lv_goto (pc := 50) (tgt := 14) hx hb dX12_has_50 (by decide) ?_
  exact hK14 _ _ _ _ _ h _ _ _ w (lv_sub hl [2, 3, 4, 1, 5, 0] rfl)
set_option maxRecDepth 100000 in
set_option maxHeartbeats 4000000 in
theorem w_X12_has_Model_startMany_Model_startOn_j41 {p : Program} {l : Launch} {e : Env} {R : Room} {s : State} {m : MethodId} {args : Array Value} {below : List Frame} {meth : Method} {c : Code} {dC : Nat → ClassId} {dI : Nat → Nat → Nat} {cs : Nat → ClassId} {ad : Nat → Nat} {A : Nat → Prop} {D0 : Nat → Nat} {S' : SS} {r : Int32} (F : Fx p s m args meth c cX12_has 6 RX12 (some .boolean) dC dI cs A) (hR1 : 0 ≤ R.frames) (hR2 : 0 ≤ R.locals) (K14 : Int32 → Int32 → Int32 → Int32 → SS → Option (Int32 × SS)) (hK14 : ∀ (v0 : Int32) (v1 : Int32) (v2 : Int32) (v3 : Int32) (S : SS), K14 v0 v1 v2 v3 S = some (r, S') → AW p l e R s m args below meth c dC dI cs ad A D0 (some (.int r)) S' 6 14 [(0, .ref (ad 114)), (1, .ref (ad 115)), (2, .int v0), (3, .int v1), (4, .int v2), (5, .int v3)] [] S) (x2 : Int32) (x4 : Int32) (x5 : Int32) (S : SS) (h : f_X12_has_Model_startMany_Model_startOn_j41 K14 x2 x4 x5 S = some (r, S')) : AW p l e R s m args below meth c dC dI cs ad A D0 (some (.int r)) S' 6 41 [(0, .ref (ad 114)), (1, .ref (ad 115)), (2, .int x2), (4, .int x4), (5, .int x5)] [] S := by
  have hx := F.1.1
  have hb := F.1.2.1
  intro H locs ls w hl
  rw [f_X12_has_Model_startMany_Model_startOn_j41] at h
  refine lv_iconst (pc := 41) (v := 1) hx hb dX12_has_41 (by decide) ?_
  refine lv_goto (pc := 42) (tgt := 46) hx hb dX12_has_42 (by decide) ?_
  exact w_X12_has_Model_startMany_Model_startOn_j46 F (Nat.le_trans (by decide) hR1) (Nat.le_trans (by decide) hR2) _ hK14 _ _ _ _ _ h _ _ _ w (lv_sub hl [0, 1, 2, 3, 4] rfl)
set_option maxRecDepth 100000 in
set_option maxHeartbeats 4000000 in
theorem w_X12_has_Model_startMany_Model_startOn_L14 {p : Program} {l : Launch} {e : Env} {R : Room} {s : State} {m : MethodId} {args : Array Value} {below : List Frame} {meth : Method} {c : Code} {dC : Nat → ClassId} {dI : Nat → Nat → Nat} {cs : Nat → ClassId} {ad : Nat → Nat} {A : Nat → Prop} {D0 : Nat → Nat} {S' : SS} {r : Int32} (F : Fx p s m args meth c cX12_has 6 RX12 (some .boolean) dC dI cs A) (hR1 : 0 ≤ R.frames) (hR2 : 0 ≤ R.locals) (K5 : Int32 → Int32 → Int32 → SS → Option (Int32 × SS)) (hK5 : ∀ (v0 : Int32) (v1 : Int32) (v2 : Int32) (S : SS), K5 v0 v1 v2 S = some (r, S') → AW p l e R s m args below meth c dC dI cs ad A D0 (some (.int r)) S' 6 5 [(0, .ref (ad 114)), (1, .ref (ad 115)), (2, .int v0), (3, .int v1), (4, .int v2)] [] S) : ∀ (n : Nat) (x2 : Int32) (x3 : Int32) (x4 : Int32) (x5 : Int32) (S : SS), f_X12_has_Model_startMany_Model_startOn_L14 K5 n x2 x3 x4 x5 S = some (r, S') → AW p l e R s m args below meth c dC dI cs ad A D0 (some (.int r)) S' 6 14 [(0, .ref (ad 114)), (1, .ref (ad 115)), (2, .int x2), (3, .int x3), (4, .int x4), (5, .int x5)] [] S := by
  have hx := F.1.1
  have hb := F.1.2.1
  intro n
  induction n with
  | zero => intro x2 x3 x4 x5 S h; cases h
  | succ n ih =>
    intro x2 x3 x4 x5 S h H locs ls w hl
    rw [f_X12_has_Model_startMany_Model_startOn_L14] at h
    refine lv_iload (pc := 14) hx hb dX12_has_14 (lv_at hl 5 rfl) ?_
    refine lv_aload_n (pc := 16) hx hb dX12_has_16 rfl (lv_at hl 0 rfl) ?_
    refine lv_iload (pc := 17) hx hb dX12_has_17 (lv_at hl 4 rfl) ?_
    refine s_iald (pc := 19) F w ds_114 h dX12_has_19 (fun h => ?_)
    refine lv_icmp_ge (pc := 20) (tgt := 53) hx hb dX12_has_20 (by decide) (fun q => ?_) (fun q => ?_)
    · have h := ite_t q h
      refine s_nm h (fun z1 ez1 h => ?_)
      refine lv_iinc (pc := 53) (v := z1) (lv' := [(4, .int z1), (0, .ref (ad 114)), (1, .ref (ad 115)), (2, .int x2), (3, .int x3), (5, .int x5)]) hx hb dX12_has_53 hl (k := 4) rfl (by rw [ez1]; rfl) (by decide) rfl (fun ls hl => ?_)
      refine lv_goto (pc := 56) (tgt := 5) hx hb dX12_has_56 (by decide) ?_
      exact hK5 _ _ _ _ h _ _ _ w (lv_sub hl [1, 2, 3, 4, 0] rfl)
    · have h := ite_f q h
      refine lv_iload_n (pc := 23) hx hb dX12_has_23 rfl (lv_at hl 3 rfl) ?_
      refine lv_if_ne (pc := 24) (tgt := 41) hx hb dX12_has_24 (by decide) (fun q => ?_) (fun q => ?_)
      · have h := ite_f q h
        exact w_X12_has_Model_startMany_Model_startOn_j41 F (Nat.le_trans (by decide) hR1) (Nat.le_trans (by decide) hR2) _ (fun v0 v1 v2 v3 S h => ih v0 v1 v2 v3 S h) _ _ _ _ h _ _ _ w (lv_sub hl [0, 1, 2, 4, 5] rfl)
      · have h := ite_t q h
        refine lv_aload_n (pc := 27) hx hb dX12_has_27 rfl (lv_at hl 1 rfl) ?_
        refine lv_bipush (pc := 28) (v := 10) hx hb dX12_has_28 (by decide) ?_
        refine lv_iload (pc := 30) hx hb dX12_has_30 (lv_at hl 4 rfl) ?_
        refine lv_imul (pc := 32) hx hb dX12_has_32 ?_
        refine lv_iload (pc := 33) hx hb dX12_has_33 (lv_at hl 5 rfl) ?_
        refine lv_iadd (pc := 35) hx hb dX12_has_35 ?_
        refine s_iald (pc := 36) F w ds_115 h dX12_has_36 (fun h => ?_)
        refine lv_iload_n (pc := 37) hx hb dX12_has_37 rfl (lv_at hl 2 rfl) ?_
        refine lv_icmp_ne (pc := 38) (tgt := 45) hx hb dX12_has_38 (by decide) (fun q => ?_) (fun q => ?_)
        · have h := ite_f q h
          refine lv_iconst (pc := 45) (v := 0) hx hb dX12_has_45 (by decide) ?_
          exact w_X12_has_Model_startMany_Model_startOn_j46 F (Nat.le_trans (by decide) hR1) (Nat.le_trans (by decide) hR2) _ (fun v0 v1 v2 v3 S h => ih v0 v1 v2 v3 S h) _ _ _ _ _ h _ _ _ w (lv_sub hl [0, 1, 2, 4, 5] rfl)
        · have h := ite_t q h
          exact w_X12_has_Model_startMany_Model_startOn_j41 F (Nat.le_trans (by decide) hR1) (Nat.le_trans (by decide) hR2) _ (fun v0 v1 v2 v3 S h => ih v0 v1 v2 v3 S h) _ _ _ _ h _ _ _ w (lv_sub hl [0, 1, 2, 4, 5] rfl)
set_option maxRecDepth 100000 in
set_option maxHeartbeats 4000000 in
theorem w_X12_has_Model_startMany_Model_startOn_L5 {p : Program} {l : Launch} {e : Env} {R : Room} {s : State} {m : MethodId} {args : Array Value} {below : List Frame} {meth : Method} {c : Code} {dC : Nat → ClassId} {dI : Nat → Nat → Nat} {cs : Nat → ClassId} {ad : Nat → Nat} {A : Nat → Prop} {D0 : Nat → Nat} {S' : SS} {r : Int32} (F : Fx p s m args meth c cX12_has 6 RX12 (some .boolean) dC dI cs A) (hR1 : 0 ≤ R.frames) (hR2 : 0 ≤ R.locals) : ∀ (n : Nat) (x2 : Int32) (x3 : Int32) (x4 : Int32) (S : SS), f_X12_has_Model_startMany_Model_startOn_L5 n x2 x3 x4 S = some (r, S') → AW p l e R s m args below meth c dC dI cs ad A D0 (some (.int r)) S' 6 5 [(0, .ref (ad 114)), (1, .ref (ad 115)), (2, .int x2), (3, .int x3), (4, .int x4)] [] S := by
  have hx := F.1.1
  have hb := F.1.2.1
  intro n
  induction n with
  | zero => intro x2 x3 x4 S h; cases h
  | succ n ih =>
    intro x2 x3 x4 S h H locs ls w hl
    rw [f_X12_has_Model_startMany_Model_startOn_L5] at h
    refine lv_iload (pc := 5) hx hb dX12_has_5 (lv_at hl 4 rfl) ?_
    refine lv_iconst (pc := 7) (v := 4) hx hb dX12_has_7 (by decide) ?_
    refine lv_icmp_ge (pc := 8) (tgt := 59) hx hb dX12_has_8 (by decide) (fun q => ?_) (fun q => ?_)
    · have h := ite_t q h
      refine lv_iload_n (pc := 59) hx hb dX12_has_59 rfl (lv_at hl 3 rfl) ?_
      exact s_zret F w h dX12_has_60
    · have h := ite_f q h
      refine lv_iconst (pc := 11) (v := 0) hx hb dX12_has_11 (by decide) ?_
      refine lv_istore (pc := 12) (lv' := [(5, .int (0 : Int32)), (0, .ref (ad 114)), (1, .ref (ad 115)), (2, .int x2), (3, .int x3), (4, .int x4)]) hx hb dX12_has_12 hl (by decide) rfl (fun ls hl => ?_)
      exact w_X12_has_Model_startMany_Model_startOn_L14 F (Nat.le_trans (by decide) hR1) (Nat.le_trans (by decide) hR2) _ (fun v0 v1 v2 S h => ih v0 v1 v2 S h) _ _ _ _ _ _ h _ _ _ w (lv_sub hl [1, 2, 3, 4, 5, 0] rfl)
set_option maxRecDepth 100000 in
set_option maxHeartbeats 4000000 in
theorem m_X12_has_Model_startMany_Model_startOn (a2 : Int32) (S S' : SS) (r : Int32) (h : f_X12_has_Model_startMany_Model_startOn a2 S = some (r, S')) : MT yX12_has cX12_has 6 (some .boolean) 0 0 (fun ad => [.ref (ad 114), .ref (ad 115), .int a2]) S (some (.int r)) S' := by
  refine MT.of RX12 (fun ad => [(0, .ref (ad 114)), (1, .ref (ad 115)), (2, .int a2)]) (by decide) rfl (fun _ => Nat.le_of_ble_eq_true rfl) (fun _ => rfl) ?_
  intro p l e R s m args below meth c dC dI cs ad A hR1 hR2 F H locs ls w hl
  have hx := F.1.1
  have hb := F.1.2.1
  rw [f_X12_has_Model_startMany_Model_startOn] at h
  refine lv_iconst (pc := 0) (v := 0) hx hb dX12_has_0 (by decide) ?_
  refine lv_istore_n (pc := 1) (lv' := [(3, .int (0 : Int32)), (0, .ref (ad 114)), (1, .ref (ad 115)), (2, .int a2)]) hx hb dX12_has_1 rfl hl (by decide) rfl (fun ls hl => ?_)
  refine lv_iconst (pc := 2) (v := 0) hx hb dX12_has_2 (by decide) ?_
  refine lv_istore (pc := 3) (lv' := [(4, .int (0 : Int32)), (3, .int (0 : Int32)), (0, .ref (ad 114)), (1, .ref (ad 115)), (2, .int a2)]) hx hb dX12_has_3 hl (by decide) rfl (fun ls hl => ?_)
  exact w_X12_has_Model_startMany_Model_startOn_L5 F (Nat.le_trans (by decide) hR1) (Nat.le_trans (by decide) hR2) _ _ _ _ _ h _ _ _ w (lv_sub hl [2, 3, 4, 1, 0] rfl)
def f_X12_laid_Model_startMany_Model_startOn (a3 : Int32) (a4 : Int32) (S : SS) : Option (Int32 × SS) :=
  if a3 < 0 then
    some ((-1 : Int32), S)
  else
    if (4 : Int32) ≤ a3 then
      some ((-1 : Int32), S)
    else
      if a4 < 0 then
        some ((-1 : Int32), S)
      else
        if (10 : Int32) ≤ a4 then
          some ((-1 : Int32), S)
        else
          bnd (f_X12_has_Model_startMany_Model_startOn a4 S) (fun r2 S1 =>
          if r2 = 0 then
            grd (inb a3 4) (
            grd (inb a3 4) (
            if (S1.1 114 a3.toNatClampNeg) = (S1.1 113 a3.toNatClampNeg) then
              some ((-1 : Int32), S1)
            else
              grd (inb a3 4) (
              grd (inb (((10 : Int32) * a3) + (S1.1 114 a3.toNatClampNeg)) 40) (wr S1 115 (((10 : Int32) * a3) + (S1.1 114 a3.toNatClampNeg)).toNatClampNeg a4 (fun S3 =>
              grd (inb a3 4) (
              grd (inb a3 4) (wr S3 114 a3.toNatClampNeg ((S3.1 114 a3.toNatClampNeg) + (1 : Int32)) (fun S4 =>
              grd (inb a3 4) (
              some (S4.1 114 a3.toNatClampNeg, S4))))))))))
          else
            some ((-1 : Int32), S1))
theorem dX12_laid_0 : decode cX12_laid 0 = .ok (.iload_n 3, 1) := by decide +kernel
theorem dX12_laid_1 : decode cX12_laid 1 = .ok (.ifCond .lt 42, 3) := by decide +kernel
theorem dX12_laid_4 : decode cX12_laid 4 = .ok (.iload_n 3, 1) := by decide +kernel
theorem dX12_laid_5 : decode cX12_laid 5 = .ok (.iconst 4, 1) := by decide +kernel
theorem dX12_laid_6 : decode cX12_laid 6 = .ok (.if_icmp .ge 37, 3) := by decide +kernel
theorem dX12_laid_9 : decode cX12_laid 9 = .ok (.iload 4, 2) := by decide +kernel
theorem dX12_laid_11 : decode cX12_laid 11 = .ok (.ifCond .lt 32, 3) := by decide +kernel
theorem dX12_laid_14 : decode cX12_laid 14 = .ok (.iload 4, 2) := by decide +kernel
theorem dX12_laid_16 : decode cX12_laid 16 = .ok (.bipush 10, 2) := by decide +kernel
theorem dX12_laid_18 : decode cX12_laid 18 = .ok (.if_icmp .ge 25, 3) := by decide +kernel
theorem dX12_laid_21 : decode cX12_laid 21 = .ok (.aload_n 1, 1) := by decide +kernel
theorem dX12_laid_22 : decode cX12_laid 22 = .ok (.aload_n 2, 1) := by decide +kernel
theorem dX12_laid_23 : decode cX12_laid 23 = .ok (.iload 4, 2) := by decide +kernel
theorem dX12_laid_25 : decode cX12_laid 25 = .ok (.invokestatic 451, 3) := by decide +kernel
theorem dX12_laid_28 : decode cX12_laid 28 = .ok (.ifCond .ne 15, 3) := by decide +kernel
theorem dX12_laid_31 : decode cX12_laid 31 = .ok (.aload_n 1, 1) := by decide +kernel
theorem dX12_laid_32 : decode cX12_laid 32 = .ok (.iload_n 3, 1) := by decide +kernel
theorem dX12_laid_33 : decode cX12_laid 33 = .ok (.iaload, 1) := by decide +kernel
theorem dX12_laid_34 : decode cX12_laid 34 = .ok (.aload_n 0, 1) := by decide +kernel
theorem dX12_laid_35 : decode cX12_laid 35 = .ok (.getfield 153, 3) := by decide +kernel
theorem dX12_laid_38 : decode cX12_laid 38 = .ok (.iload_n 3, 1) := by decide +kernel
theorem dX12_laid_39 : decode cX12_laid 39 = .ok (.iaload, 1) := by decide +kernel
theorem dX12_laid_40 : decode cX12_laid 40 = .ok (.if_icmp .ne 5, 3) := by decide +kernel
theorem dX12_laid_43 : decode cX12_laid 43 = .ok (.iconst (-1), 1) := by decide +kernel
theorem dX12_laid_44 : decode cX12_laid 44 = .ok (.ireturn, 1) := by decide +kernel
theorem dX12_laid_45 : decode cX12_laid 45 = .ok (.aload_n 2, 1) := by decide +kernel
theorem dX12_laid_46 : decode cX12_laid 46 = .ok (.bipush 10, 2) := by decide +kernel
theorem dX12_laid_48 : decode cX12_laid 48 = .ok (.iload_n 3, 1) := by decide +kernel
theorem dX12_laid_49 : decode cX12_laid 49 = .ok (.imul, 1) := by decide +kernel
theorem dX12_laid_50 : decode cX12_laid 50 = .ok (.aload_n 1, 1) := by decide +kernel
theorem dX12_laid_51 : decode cX12_laid 51 = .ok (.iload_n 3, 1) := by decide +kernel
theorem dX12_laid_52 : decode cX12_laid 52 = .ok (.iaload, 1) := by decide +kernel
theorem dX12_laid_53 : decode cX12_laid 53 = .ok (.iadd, 1) := by decide +kernel
theorem dX12_laid_54 : decode cX12_laid 54 = .ok (.iload 4, 2) := by decide +kernel
theorem dX12_laid_56 : decode cX12_laid 56 = .ok (.iastore, 1) := by decide +kernel
theorem dX12_laid_57 : decode cX12_laid 57 = .ok (.aload_n 1, 1) := by decide +kernel
theorem dX12_laid_58 : decode cX12_laid 58 = .ok (.iload_n 3, 1) := by decide +kernel
theorem dX12_laid_59 : decode cX12_laid 59 = .ok (.dup2, 1) := by decide +kernel
theorem dX12_laid_60 : decode cX12_laid 60 = .ok (.iaload, 1) := by decide +kernel
theorem dX12_laid_61 : decode cX12_laid 61 = .ok (.iconst 1, 1) := by decide +kernel
theorem dX12_laid_62 : decode cX12_laid 62 = .ok (.iadd, 1) := by decide +kernel
theorem dX12_laid_63 : decode cX12_laid 63 = .ok (.iastore, 1) := by decide +kernel
theorem dX12_laid_64 : decode cX12_laid 64 = .ok (.aload_n 1, 1) := by decide +kernel
theorem dX12_laid_65 : decode cX12_laid 65 = .ok (.iload_n 3, 1) := by decide +kernel
theorem dX12_laid_66 : decode cX12_laid 66 = .ok (.iaload, 1) := by decide +kernel
theorem dX12_laid_67 : decode cX12_laid 67 = .ok (.ireturn, 1) := by decide +kernel
set_option maxRecDepth 100000 in
set_option maxHeartbeats 4000000 in
theorem m_X12_laid_Model_startMany_Model_startOn (a3 : Int32) (a4 : Int32) (S S' : SS) (r : Int32) (h : f_X12_laid_Model_startMany_Model_startOn a3 a4 S = some (r, S')) : MT yX12_laid cX12_laid 5 (some .int) 1 25 (fun ad => [.ref (ad 14), .ref (ad 114), .ref (ad 115), .int a3, .int a4]) S (some (.int r)) S' := by
  refine MT.of RX12 (fun ad => [(0, .ref (ad 14)), (1, .ref (ad 114)), (2, .ref (ad 115)), (3, .int a3), (4, .int a4)]) (by decide) rfl (fun _ => Nat.le_of_ble_eq_true rfl) (fun _ => rfl) ?_
  intro p l e R s m args below meth c dC dI cs ad A hR1 hR2 F H locs ls w hl
  have hx := F.1.1
  have hb := F.1.2.1
  rw [f_X12_laid_Model_startMany_Model_startOn] at h
  refine lv_iload_n (pc := 0) hx hb dX12_laid_0 rfl (lv_at hl 3 rfl) ?_
  refine lv_if_lt (pc := 1) (tgt := 43) hx hb dX12_laid_1 (by decide) (fun q => ?_) (fun q => ?_)
  · have h := ite_t q h
    refine lv_iconst (pc := 43) (v := -1) hx hb dX12_laid_43 (by decide) ?_
    exact s_iret F w h dX12_laid_44
  · have h := ite_f q h
    refine lv_iload_n (pc := 4) hx hb dX12_laid_4 rfl (lv_at hl 3 rfl) ?_
    refine lv_iconst (pc := 5) (v := 4) hx hb dX12_laid_5 (by decide) ?_
    refine lv_icmp_ge (pc := 6) (tgt := 43) hx hb dX12_laid_6 (by decide) (fun q => ?_) (fun q => ?_)
    · have h := ite_t q h
      refine lv_iconst (pc := 43) (v := -1) hx hb dX12_laid_43 (by decide) ?_
      exact s_iret F w h dX12_laid_44
    · have h := ite_f q h
      refine lv_iload (pc := 9) hx hb dX12_laid_9 (lv_at hl 4 rfl) ?_
      refine lv_if_lt (pc := 11) (tgt := 43) hx hb dX12_laid_11 (by decide) (fun q => ?_) (fun q => ?_)
      · have h := ite_t q h
        refine lv_iconst (pc := 43) (v := -1) hx hb dX12_laid_43 (by decide) ?_
        exact s_iret F w h dX12_laid_44
      · have h := ite_f q h
        refine lv_iload (pc := 14) hx hb dX12_laid_14 (lv_at hl 4 rfl) ?_
        refine lv_bipush (pc := 16) (v := 10) hx hb dX12_laid_16 (by decide) ?_
        refine lv_icmp_ge (pc := 18) (tgt := 43) hx hb dX12_laid_18 (by decide) (fun q => ?_) (fun q => ?_)
        · have h := ite_t q h
          refine lv_iconst (pc := 43) (v := -1) hx hb dX12_laid_43 (by decide) ?_
          exact s_iret F w h dX12_laid_44
        · have h := ite_f q h
          refine lv_aload_n (pc := 21) hx hb dX12_laid_21 rfl (lv_at hl 1 rfl) ?_
          refine lv_aload_n (pc := 22) hx hb dX12_laid_22 rfl (lv_at hl 2 rfl) ?_
          refine lv_iload (pc := 23) hx hb dX12_laid_23 (lv_at hl 4 rfl) ?_
          obtain ⟨r2, S1, hc, h⟩ := bnd_t h
          refine s_csi (pc := 25) [.ref (ad 114), .ref (ad 115), .int a4] (fun ad => [.ref (ad 114), .ref (ad 115), .int a4]) F w (m_X12_has_Model_startMany_Model_startOn _ _ _ _ hc) rfl rfl hl.1 ok_X12_has rfl kc_X12_has kl_X12_451 ks_X12_has kn_X12 ⟨Nat.le_trans (by decide) hR1, Nat.le_trans (by decide) hR2⟩ ⟨Nat.zero_le _, Nat.zero_le _⟩ (Nat.le_of_ble_eq_true rfl) dX12_laid_25 (fun H locs w => ?_)
          refine lv_if_ne (pc := 28) (tgt := 43) hx hb dX12_laid_28 (by decide) (fun q => ?_) (fun q => ?_)
          · have h := ite_f q h
            refine lv_iconst (pc := 43) (v := -1) hx hb dX12_laid_43 (by decide) ?_
            exact s_iret F w h dX12_laid_44
          · have h := ite_t q h
            refine lv_aload_n (pc := 31) hx hb dX12_laid_31 rfl (lv_at hl 1 rfl) ?_
            refine lv_iload_n (pc := 32) hx hb dX12_laid_32 rfl (lv_at hl 3 rfl) ?_
            refine s_iald (pc := 33) F w ds_114 h dX12_laid_33 (fun h => ?_)
            refine lv_aload_n (pc := 34) hx hb dX12_laid_34 rfl (lv_at hl 0 rfl) ?_
            refine s_getR (pc := 35) F w 113 ds_14 (j := 71) vc_X12 vi_X12 rfl (by decide) kf_X12_153 dX12_laid_35 ?_
            refine lv_iload_n (pc := 38) hx hb dX12_laid_38 rfl (lv_at hl 3 rfl) ?_
            refine s_iald (pc := 39) F w ds_113 h dX12_laid_39 (fun h => ?_)
            refine lv_icmp_ne (pc := 40) (tgt := 45) hx hb dX12_laid_40 (by decide) (fun q => ?_) (fun q => ?_)
            · have h := ite_f q h
              refine lv_aload_n (pc := 45) hx hb dX12_laid_45 rfl (lv_at hl 2 rfl) ?_
              refine lv_bipush (pc := 46) (v := 10) hx hb dX12_laid_46 (by decide) ?_
              refine lv_iload_n (pc := 48) hx hb dX12_laid_48 rfl (lv_at hl 3 rfl) ?_
              refine lv_imul (pc := 49) hx hb dX12_laid_49 ?_
              refine lv_aload_n (pc := 50) hx hb dX12_laid_50 rfl (lv_at hl 1 rfl) ?_
              refine lv_iload_n (pc := 51) hx hb dX12_laid_51 rfl (lv_at hl 3 rfl) ?_
              refine s_iald (pc := 52) F w ds_114 h dX12_laid_52 (fun h => ?_)
              refine lv_iadd (pc := 53) hx hb dX12_laid_53 ?_
              refine lv_iload (pc := 54) hx hb dX12_laid_54 (lv_at hl 4 rfl) ?_
              refine s_iast (pc := 56) F w ds_115 h dX12_laid_56 (fun S3 H locs h w => ?_)
              refine lv_aload_n (pc := 57) hx hb dX12_laid_57 rfl (lv_at hl 1 rfl) ?_
              refine lv_iload_n (pc := 58) hx hb dX12_laid_58 rfl (lv_at hl 3 rfl) ?_
              refine lv_dup2_11 (pc := 59) hx hb dX12_laid_59 rfl rfl ?_
              refine s_iald (pc := 60) F w ds_114 h dX12_laid_60 (fun h => ?_)
              refine lv_iconst (pc := 61) (v := 1) hx hb dX12_laid_61 (by decide) ?_
              refine lv_iadd (pc := 62) hx hb dX12_laid_62 ?_
              refine s_iast (pc := 63) F w ds_114 h dX12_laid_63 (fun S4 H locs h w => ?_)
              refine lv_aload_n (pc := 64) hx hb dX12_laid_64 rfl (lv_at hl 1 rfl) ?_
              refine lv_iload_n (pc := 65) hx hb dX12_laid_65 rfl (lv_at hl 3 rfl) ?_
              refine s_iald (pc := 66) F w ds_114 h dX12_laid_66 (fun h => ?_)
              exact s_iret F w h dX12_laid_67
            · have h := ite_t q h
              refine lv_iconst (pc := 43) (v := -1) hx hb dX12_laid_43 (by decide) ?_
              exact s_iret F w h dX12_laid_44
def f_X12_has_Model_goalMany_Model_goalOn_j46 (K14 : Int32 → Int32 → Int32 → Int32 → SS → Option (Int32 × SS)) (x2 : Int32) (x4 : Int32) (x5 : Int32) (y0 : Int32) (S : SS) : Option (Int32 × SS) :=
    nm (x5 + (1 : Int32)) (fun z2 =>
    K14 x2 y0 x4 z2 S)
def f_X12_has_Model_goalMany_Model_goalOn_j41 (K14 : Int32 → Int32 → Int32 → Int32 → SS → Option (Int32 × SS)) (x2 : Int32) (x4 : Int32) (x5 : Int32) (S : SS) : Option (Int32 × SS) :=
    f_X12_has_Model_goalMany_Model_goalOn_j46 K14 x2 x4 x5 (1 : Int32) S
def f_X12_has_Model_goalMany_Model_goalOn_L14 (K5 : Int32 → Int32 → Int32 → SS → Option (Int32 × SS)) : Nat → Int32 → Int32 → Int32 → Int32 → SS → Option (Int32 × SS)
  | 0, _, _, _, _, _ => none
  | n + 1, x2, x3, x4, x5, S =>
    grd (inb x4 4) (
    if (S.1 116 x4.toNatClampNeg) ≤ x5 then
      nm (x4 + (1 : Int32)) (fun z1 =>
      K5 x2 x3 z1 S)
    else
      if x3 = 0 then
        grd (inb (((10 : Int32) * x4) + x5) 40) (
        if (S.1 117 (((10 : Int32) * x4) + x5).toNatClampNeg) = x2 then
          f_X12_has_Model_goalMany_Model_goalOn_j41 (fun v0 v1 v2 v3 S => f_X12_has_Model_goalMany_Model_goalOn_L14 K5 n v0 v1 v2 v3 S) x2 x4 x5 S
        else
          f_X12_has_Model_goalMany_Model_goalOn_j46 (fun v0 v1 v2 v3 S => f_X12_has_Model_goalMany_Model_goalOn_L14 K5 n v0 v1 v2 v3 S) x2 x4 x5 (0 : Int32) S)
      else
        f_X12_has_Model_goalMany_Model_goalOn_j41 (fun v0 v1 v2 v3 S => f_X12_has_Model_goalMany_Model_goalOn_L14 K5 n v0 v1 v2 v3 S) x2 x4 x5 S)
def f_X12_has_Model_goalMany_Model_goalOn_L5  : Nat → Int32 → Int32 → Int32 → SS → Option (Int32 × SS)
  | 0, _, _, _, _ => none
  | n + 1, x2, x3, x4, S =>
    if (4 : Int32) ≤ x4 then
      grd (isB x3) (some (x3, S))
    else
      f_X12_has_Model_goalMany_Model_goalOn_L14 (fun v0 v1 v2 S => f_X12_has_Model_goalMany_Model_goalOn_L5 n v0 v1 v2 S) NF x2 x3 x4 (0 : Int32) S
def f_X12_has_Model_goalMany_Model_goalOn (a2 : Int32) (S : SS) : Option (Int32 × SS) :=
  f_X12_has_Model_goalMany_Model_goalOn_L5 NF a2 (0 : Int32) (0 : Int32) S
set_option maxRecDepth 100000 in
set_option maxHeartbeats 4000000 in
theorem w_X12_has_Model_goalMany_Model_goalOn_j46 {p : Program} {l : Launch} {e : Env} {R : Room} {s : State} {m : MethodId} {args : Array Value} {below : List Frame} {meth : Method} {c : Code} {dC : Nat → ClassId} {dI : Nat → Nat → Nat} {cs : Nat → ClassId} {ad : Nat → Nat} {A : Nat → Prop} {D0 : Nat → Nat} {S' : SS} {r : Int32} (F : Fx p s m args meth c cX12_has 6 RX12 (some .boolean) dC dI cs A) (hR1 : 0 ≤ R.frames) (hR2 : 0 ≤ R.locals) (K14 : Int32 → Int32 → Int32 → Int32 → SS → Option (Int32 × SS)) (hK14 : ∀ (v0 : Int32) (v1 : Int32) (v2 : Int32) (v3 : Int32) (S : SS), K14 v0 v1 v2 v3 S = some (r, S') → AW p l e R s m args below meth c dC dI cs ad A D0 (some (.int r)) S' 6 14 [(0, .ref (ad 116)), (1, .ref (ad 117)), (2, .int v0), (3, .int v1), (4, .int v2), (5, .int v3)] [] S) (x2 : Int32) (x4 : Int32) (x5 : Int32) (y0 : Int32) (S : SS) (h : f_X12_has_Model_goalMany_Model_goalOn_j46 K14 x2 x4 x5 y0 S = some (r, S')) : AW p l e R s m args below meth c dC dI cs ad A D0 (some (.int r)) S' 6 46 [(0, .ref (ad 116)), (1, .ref (ad 117)), (2, .int x2), (4, .int x4), (5, .int x5)] [.int y0] S := by
  have hx := F.1.1
  have hb := F.1.2.1
  intro H locs ls w hl
  rw [f_X12_has_Model_goalMany_Model_goalOn_j46] at h
  refine lv_istore_n (pc := 46) (lv' := [(3, .int y0), (0, .ref (ad 116)), (1, .ref (ad 117)), (2, .int x2), (4, .int x4), (5, .int x5)]) hx hb dX12_has_46 rfl hl (by decide) rfl (fun ls hl => ?_)
  refine s_nm h (fun z2 ez2 h => ?_)
  refine lv_iinc (pc := 47) (v := z2) (lv' := [(5, .int z2), (3, .int y0), (0, .ref (ad 116)), (1, .ref (ad 117)), (2, .int x2), (4, .int x4)]) hx hb dX12_has_47 hl (k := 5) rfl (by rw [ez2]; rfl) (by decide) rfl (fun ls hl => ?_)
  refine lv_goto (pc := 50) (tgt := 14) hx hb dX12_has_50 (by decide) ?_
  exact hK14 _ _ _ _ _ h _ _ _ w (lv_sub hl [2, 3, 4, 1, 5, 0] rfl)
set_option maxRecDepth 100000 in
set_option maxHeartbeats 4000000 in
theorem w_X12_has_Model_goalMany_Model_goalOn_j41 {p : Program} {l : Launch} {e : Env} {R : Room} {s : State} {m : MethodId} {args : Array Value} {below : List Frame} {meth : Method} {c : Code} {dC : Nat → ClassId} {dI : Nat → Nat → Nat} {cs : Nat → ClassId} {ad : Nat → Nat} {A : Nat → Prop} {D0 : Nat → Nat} {S' : SS} {r : Int32} (F : Fx p s m args meth c cX12_has 6 RX12 (some .boolean) dC dI cs A) (hR1 : 0 ≤ R.frames) (hR2 : 0 ≤ R.locals) (K14 : Int32 → Int32 → Int32 → Int32 → SS → Option (Int32 × SS)) (hK14 : ∀ (v0 : Int32) (v1 : Int32) (v2 : Int32) (v3 : Int32) (S : SS), K14 v0 v1 v2 v3 S = some (r, S') → AW p l e R s m args below meth c dC dI cs ad A D0 (some (.int r)) S' 6 14 [(0, .ref (ad 116)), (1, .ref (ad 117)), (2, .int v0), (3, .int v1), (4, .int v2), (5, .int v3)] [] S) (x2 : Int32) (x4 : Int32) (x5 : Int32) (S : SS) (h : f_X12_has_Model_goalMany_Model_goalOn_j41 K14 x2 x4 x5 S = some (r, S')) : AW p l e R s m args below meth c dC dI cs ad A D0 (some (.int r)) S' 6 41 [(0, .ref (ad 116)), (1, .ref (ad 117)), (2, .int x2), (4, .int x4), (5, .int x5)] [] S := by
  have hx := F.1.1
  have hb := F.1.2.1
  intro H locs ls w hl
  rw [f_X12_has_Model_goalMany_Model_goalOn_j41] at h
  refine lv_iconst (pc := 41) (v := 1) hx hb dX12_has_41 (by decide) ?_
  refine lv_goto (pc := 42) (tgt := 46) hx hb dX12_has_42 (by decide) ?_
  exact w_X12_has_Model_goalMany_Model_goalOn_j46 F (Nat.le_trans (by decide) hR1) (Nat.le_trans (by decide) hR2) _ hK14 _ _ _ _ _ h _ _ _ w (lv_sub hl [0, 1, 2, 3, 4] rfl)
set_option maxRecDepth 100000 in
set_option maxHeartbeats 4000000 in
theorem w_X12_has_Model_goalMany_Model_goalOn_L14 {p : Program} {l : Launch} {e : Env} {R : Room} {s : State} {m : MethodId} {args : Array Value} {below : List Frame} {meth : Method} {c : Code} {dC : Nat → ClassId} {dI : Nat → Nat → Nat} {cs : Nat → ClassId} {ad : Nat → Nat} {A : Nat → Prop} {D0 : Nat → Nat} {S' : SS} {r : Int32} (F : Fx p s m args meth c cX12_has 6 RX12 (some .boolean) dC dI cs A) (hR1 : 0 ≤ R.frames) (hR2 : 0 ≤ R.locals) (K5 : Int32 → Int32 → Int32 → SS → Option (Int32 × SS)) (hK5 : ∀ (v0 : Int32) (v1 : Int32) (v2 : Int32) (S : SS), K5 v0 v1 v2 S = some (r, S') → AW p l e R s m args below meth c dC dI cs ad A D0 (some (.int r)) S' 6 5 [(0, .ref (ad 116)), (1, .ref (ad 117)), (2, .int v0), (3, .int v1), (4, .int v2)] [] S) : ∀ (n : Nat) (x2 : Int32) (x3 : Int32) (x4 : Int32) (x5 : Int32) (S : SS), f_X12_has_Model_goalMany_Model_goalOn_L14 K5 n x2 x3 x4 x5 S = some (r, S') → AW p l e R s m args below meth c dC dI cs ad A D0 (some (.int r)) S' 6 14 [(0, .ref (ad 116)), (1, .ref (ad 117)), (2, .int x2), (3, .int x3), (4, .int x4), (5, .int x5)] [] S := by
  have hx := F.1.1
  have hb := F.1.2.1
  intro n
  induction n with
  | zero => intro x2 x3 x4 x5 S h; cases h
  | succ n ih =>
    intro x2 x3 x4 x5 S h H locs ls w hl
    rw [f_X12_has_Model_goalMany_Model_goalOn_L14] at h
    refine lv_iload (pc := 14) hx hb dX12_has_14 (lv_at hl 5 rfl) ?_
    refine lv_aload_n (pc := 16) hx hb dX12_has_16 rfl (lv_at hl 0 rfl) ?_
    refine lv_iload (pc := 17) hx hb dX12_has_17 (lv_at hl 4 rfl) ?_
    refine s_iald (pc := 19) F w ds_116 h dX12_has_19 (fun h => ?_)
    refine lv_icmp_ge (pc := 20) (tgt := 53) hx hb dX12_has_20 (by decide) (fun q => ?_) (fun q => ?_)
    · have h := ite_t q h
      refine s_nm h (fun z1 ez1 h => ?_)
      refine lv_iinc (pc := 53) (v := z1) (lv' := [(4, .int z1), (0, .ref (ad 116)), (1, .ref (ad 117)), (2, .int x2), (3, .int x3), (5, .int x5)]) hx hb dX12_has_53 hl (k := 4) rfl (by rw [ez1]; rfl) (by decide) rfl (fun ls hl => ?_)
      refine lv_goto (pc := 56) (tgt := 5) hx hb dX12_has_56 (by decide) ?_
      exact hK5 _ _ _ _ h _ _ _ w (lv_sub hl [1, 2, 3, 4, 0] rfl)
    · have h := ite_f q h
      refine lv_iload_n (pc := 23) hx hb dX12_has_23 rfl (lv_at hl 3 rfl) ?_
      refine lv_if_ne (pc := 24) (tgt := 41) hx hb dX12_has_24 (by decide) (fun q => ?_) (fun q => ?_)
      · have h := ite_f q h
        exact w_X12_has_Model_goalMany_Model_goalOn_j41 F (Nat.le_trans (by decide) hR1) (Nat.le_trans (by decide) hR2) _ (fun v0 v1 v2 v3 S h => ih v0 v1 v2 v3 S h) _ _ _ _ h _ _ _ w (lv_sub hl [0, 1, 2, 4, 5] rfl)
      · have h := ite_t q h
        refine lv_aload_n (pc := 27) hx hb dX12_has_27 rfl (lv_at hl 1 rfl) ?_
        refine lv_bipush (pc := 28) (v := 10) hx hb dX12_has_28 (by decide) ?_
        refine lv_iload (pc := 30) hx hb dX12_has_30 (lv_at hl 4 rfl) ?_
        refine lv_imul (pc := 32) hx hb dX12_has_32 ?_
        refine lv_iload (pc := 33) hx hb dX12_has_33 (lv_at hl 5 rfl) ?_
        refine lv_iadd (pc := 35) hx hb dX12_has_35 ?_
        refine s_iald (pc := 36) F w ds_117 h dX12_has_36 (fun h => ?_)
        refine lv_iload_n (pc := 37) hx hb dX12_has_37 rfl (lv_at hl 2 rfl) ?_
        refine lv_icmp_ne (pc := 38) (tgt := 45) hx hb dX12_has_38 (by decide) (fun q => ?_) (fun q => ?_)
        · have h := ite_f q h
          refine lv_iconst (pc := 45) (v := 0) hx hb dX12_has_45 (by decide) ?_
          exact w_X12_has_Model_goalMany_Model_goalOn_j46 F (Nat.le_trans (by decide) hR1) (Nat.le_trans (by decide) hR2) _ (fun v0 v1 v2 v3 S h => ih v0 v1 v2 v3 S h) _ _ _ _ _ h _ _ _ w (lv_sub hl [0, 1, 2, 4, 5] rfl)
        · have h := ite_t q h
          exact w_X12_has_Model_goalMany_Model_goalOn_j41 F (Nat.le_trans (by decide) hR1) (Nat.le_trans (by decide) hR2) _ (fun v0 v1 v2 v3 S h => ih v0 v1 v2 v3 S h) _ _ _ _ h _ _ _ w (lv_sub hl [0, 1, 2, 4, 5] rfl)
set_option maxRecDepth 100000 in
set_option maxHeartbeats 4000000 in
theorem w_X12_has_Model_goalMany_Model_goalOn_L5 {p : Program} {l : Launch} {e : Env} {R : Room} {s : State} {m : MethodId} {args : Array Value} {below : List Frame} {meth : Method} {c : Code} {dC : Nat → ClassId} {dI : Nat → Nat → Nat} {cs : Nat → ClassId} {ad : Nat → Nat} {A : Nat → Prop} {D0 : Nat → Nat} {S' : SS} {r : Int32} (F : Fx p s m args meth c cX12_has 6 RX12 (some .boolean) dC dI cs A) (hR1 : 0 ≤ R.frames) (hR2 : 0 ≤ R.locals) : ∀ (n : Nat) (x2 : Int32) (x3 : Int32) (x4 : Int32) (S : SS), f_X12_has_Model_goalMany_Model_goalOn_L5 n x2 x3 x4 S = some (r, S') → AW p l e R s m args below meth c dC dI cs ad A D0 (some (.int r)) S' 6 5 [(0, .ref (ad 116)), (1, .ref (ad 117)), (2, .int x2), (3, .int x3), (4, .int x4)] [] S := by
  have hx := F.1.1
  have hb := F.1.2.1
  intro n
  induction n with
  | zero => intro x2 x3 x4 S h; cases h
  | succ n ih =>
    intro x2 x3 x4 S h H locs ls w hl
    rw [f_X12_has_Model_goalMany_Model_goalOn_L5] at h
    refine lv_iload (pc := 5) hx hb dX12_has_5 (lv_at hl 4 rfl) ?_
    refine lv_iconst (pc := 7) (v := 4) hx hb dX12_has_7 (by decide) ?_
    refine lv_icmp_ge (pc := 8) (tgt := 59) hx hb dX12_has_8 (by decide) (fun q => ?_) (fun q => ?_)
    · have h := ite_t q h
      refine lv_iload_n (pc := 59) hx hb dX12_has_59 rfl (lv_at hl 3 rfl) ?_
      exact s_zret F w h dX12_has_60
    · have h := ite_f q h
      refine lv_iconst (pc := 11) (v := 0) hx hb dX12_has_11 (by decide) ?_
      refine lv_istore (pc := 12) (lv' := [(5, .int (0 : Int32)), (0, .ref (ad 116)), (1, .ref (ad 117)), (2, .int x2), (3, .int x3), (4, .int x4)]) hx hb dX12_has_12 hl (by decide) rfl (fun ls hl => ?_)
      exact w_X12_has_Model_goalMany_Model_goalOn_L14 F (Nat.le_trans (by decide) hR1) (Nat.le_trans (by decide) hR2) _ (fun v0 v1 v2 S h => ih v0 v1 v2 S h) _ _ _ _ _ _ h _ _ _ w (lv_sub hl [1, 2, 3, 4, 5, 0] rfl)
set_option maxRecDepth 100000 in
set_option maxHeartbeats 4000000 in
theorem m_X12_has_Model_goalMany_Model_goalOn (a2 : Int32) (S S' : SS) (r : Int32) (h : f_X12_has_Model_goalMany_Model_goalOn a2 S = some (r, S')) : MT yX12_has cX12_has 6 (some .boolean) 0 0 (fun ad => [.ref (ad 116), .ref (ad 117), .int a2]) S (some (.int r)) S' := by
  refine MT.of RX12 (fun ad => [(0, .ref (ad 116)), (1, .ref (ad 117)), (2, .int a2)]) (by decide) rfl (fun _ => Nat.le_of_ble_eq_true rfl) (fun _ => rfl) ?_
  intro p l e R s m args below meth c dC dI cs ad A hR1 hR2 F H locs ls w hl
  have hx := F.1.1
  have hb := F.1.2.1
  rw [f_X12_has_Model_goalMany_Model_goalOn] at h
  refine lv_iconst (pc := 0) (v := 0) hx hb dX12_has_0 (by decide) ?_
  refine lv_istore_n (pc := 1) (lv' := [(3, .int (0 : Int32)), (0, .ref (ad 116)), (1, .ref (ad 117)), (2, .int a2)]) hx hb dX12_has_1 rfl hl (by decide) rfl (fun ls hl => ?_)
  refine lv_iconst (pc := 2) (v := 0) hx hb dX12_has_2 (by decide) ?_
  refine lv_istore (pc := 3) (lv' := [(4, .int (0 : Int32)), (3, .int (0 : Int32)), (0, .ref (ad 116)), (1, .ref (ad 117)), (2, .int a2)]) hx hb dX12_has_3 hl (by decide) rfl (fun ls hl => ?_)
  exact w_X12_has_Model_goalMany_Model_goalOn_L5 F (Nat.le_trans (by decide) hR1) (Nat.le_trans (by decide) hR2) _ _ _ _ _ h _ _ _ w (lv_sub hl [2, 3, 4, 1, 0] rfl)
def f_X12_laid_Model_goalMany_Model_goalOn (a3 : Int32) (a4 : Int32) (S : SS) : Option (Int32 × SS) :=
  if a3 < 0 then
    some ((-1 : Int32), S)
  else
    if (4 : Int32) ≤ a3 then
      some ((-1 : Int32), S)
    else
      if a4 < 0 then
        some ((-1 : Int32), S)
      else
        if (10 : Int32) ≤ a4 then
          some ((-1 : Int32), S)
        else
          bnd (f_X12_has_Model_goalMany_Model_goalOn a4 S) (fun r2 S1 =>
          if r2 = 0 then
            grd (inb a3 4) (
            grd (inb a3 4) (
            if (S1.1 116 a3.toNatClampNeg) = (S1.1 113 a3.toNatClampNeg) then
              some ((-1 : Int32), S1)
            else
              grd (inb a3 4) (
              grd (inb (((10 : Int32) * a3) + (S1.1 116 a3.toNatClampNeg)) 40) (wr S1 117 (((10 : Int32) * a3) + (S1.1 116 a3.toNatClampNeg)).toNatClampNeg a4 (fun S3 =>
              grd (inb a3 4) (
              grd (inb a3 4) (wr S3 116 a3.toNatClampNeg ((S3.1 116 a3.toNatClampNeg) + (1 : Int32)) (fun S4 =>
              grd (inb a3 4) (
              some (S4.1 116 a3.toNatClampNeg, S4))))))))))
          else
            some ((-1 : Int32), S1))
set_option maxRecDepth 100000 in
set_option maxHeartbeats 4000000 in
theorem m_X12_laid_Model_goalMany_Model_goalOn (a3 : Int32) (a4 : Int32) (S S' : SS) (r : Int32) (h : f_X12_laid_Model_goalMany_Model_goalOn a3 a4 S = some (r, S')) : MT yX12_laid cX12_laid 5 (some .int) 1 25 (fun ad => [.ref (ad 14), .ref (ad 116), .ref (ad 117), .int a3, .int a4]) S (some (.int r)) S' := by
  refine MT.of RX12 (fun ad => [(0, .ref (ad 14)), (1, .ref (ad 116)), (2, .ref (ad 117)), (3, .int a3), (4, .int a4)]) (by decide) rfl (fun _ => Nat.le_of_ble_eq_true rfl) (fun _ => rfl) ?_
  intro p l e R s m args below meth c dC dI cs ad A hR1 hR2 F H locs ls w hl
  have hx := F.1.1
  have hb := F.1.2.1
  rw [f_X12_laid_Model_goalMany_Model_goalOn] at h
  refine lv_iload_n (pc := 0) hx hb dX12_laid_0 rfl (lv_at hl 3 rfl) ?_
  refine lv_if_lt (pc := 1) (tgt := 43) hx hb dX12_laid_1 (by decide) (fun q => ?_) (fun q => ?_)
  · have h := ite_t q h
    refine lv_iconst (pc := 43) (v := -1) hx hb dX12_laid_43 (by decide) ?_
    exact s_iret F w h dX12_laid_44
  · have h := ite_f q h
    refine lv_iload_n (pc := 4) hx hb dX12_laid_4 rfl (lv_at hl 3 rfl) ?_
    refine lv_iconst (pc := 5) (v := 4) hx hb dX12_laid_5 (by decide) ?_
    refine lv_icmp_ge (pc := 6) (tgt := 43) hx hb dX12_laid_6 (by decide) (fun q => ?_) (fun q => ?_)
    · have h := ite_t q h
      refine lv_iconst (pc := 43) (v := -1) hx hb dX12_laid_43 (by decide) ?_
      exact s_iret F w h dX12_laid_44
    · have h := ite_f q h
      refine lv_iload (pc := 9) hx hb dX12_laid_9 (lv_at hl 4 rfl) ?_
      refine lv_if_lt (pc := 11) (tgt := 43) hx hb dX12_laid_11 (by decide) (fun q => ?_) (fun q => ?_)
      · have h := ite_t q h
        refine lv_iconst (pc := 43) (v := -1) hx hb dX12_laid_43 (by decide) ?_
        exact s_iret F w h dX12_laid_44
      · have h := ite_f q h
        refine lv_iload (pc := 14) hx hb dX12_laid_14 (lv_at hl 4 rfl) ?_
        refine lv_bipush (pc := 16) (v := 10) hx hb dX12_laid_16 (by decide) ?_
        refine lv_icmp_ge (pc := 18) (tgt := 43) hx hb dX12_laid_18 (by decide) (fun q => ?_) (fun q => ?_)
        · have h := ite_t q h
          refine lv_iconst (pc := 43) (v := -1) hx hb dX12_laid_43 (by decide) ?_
          exact s_iret F w h dX12_laid_44
        · have h := ite_f q h
          refine lv_aload_n (pc := 21) hx hb dX12_laid_21 rfl (lv_at hl 1 rfl) ?_
          refine lv_aload_n (pc := 22) hx hb dX12_laid_22 rfl (lv_at hl 2 rfl) ?_
          refine lv_iload (pc := 23) hx hb dX12_laid_23 (lv_at hl 4 rfl) ?_
          obtain ⟨r2, S1, hc, h⟩ := bnd_t h
          refine s_csi (pc := 25) [.ref (ad 116), .ref (ad 117), .int a4] (fun ad => [.ref (ad 116), .ref (ad 117), .int a4]) F w (m_X12_has_Model_goalMany_Model_goalOn _ _ _ _ hc) rfl rfl hl.1 ok_X12_has rfl kc_X12_has kl_X12_451 ks_X12_has kn_X12 ⟨Nat.le_trans (by decide) hR1, Nat.le_trans (by decide) hR2⟩ ⟨Nat.zero_le _, Nat.zero_le _⟩ (Nat.le_of_ble_eq_true rfl) dX12_laid_25 (fun H locs w => ?_)
          refine lv_if_ne (pc := 28) (tgt := 43) hx hb dX12_laid_28 (by decide) (fun q => ?_) (fun q => ?_)
          · have h := ite_f q h
            refine lv_iconst (pc := 43) (v := -1) hx hb dX12_laid_43 (by decide) ?_
            exact s_iret F w h dX12_laid_44
          · have h := ite_t q h
            refine lv_aload_n (pc := 31) hx hb dX12_laid_31 rfl (lv_at hl 1 rfl) ?_
            refine lv_iload_n (pc := 32) hx hb dX12_laid_32 rfl (lv_at hl 3 rfl) ?_
            refine s_iald (pc := 33) F w ds_116 h dX12_laid_33 (fun h => ?_)
            refine lv_aload_n (pc := 34) hx hb dX12_laid_34 rfl (lv_at hl 0 rfl) ?_
            refine s_getR (pc := 35) F w 113 ds_14 (j := 71) vc_X12 vi_X12 rfl (by decide) kf_X12_153 dX12_laid_35 ?_
            refine lv_iload_n (pc := 38) hx hb dX12_laid_38 rfl (lv_at hl 3 rfl) ?_
            refine s_iald (pc := 39) F w ds_113 h dX12_laid_39 (fun h => ?_)
            refine lv_icmp_ne (pc := 40) (tgt := 45) hx hb dX12_laid_40 (by decide) (fun q => ?_) (fun q => ?_)
            · have h := ite_f q h
              refine lv_aload_n (pc := 45) hx hb dX12_laid_45 rfl (lv_at hl 2 rfl) ?_
              refine lv_bipush (pc := 46) (v := 10) hx hb dX12_laid_46 (by decide) ?_
              refine lv_iload_n (pc := 48) hx hb dX12_laid_48 rfl (lv_at hl 3 rfl) ?_
              refine lv_imul (pc := 49) hx hb dX12_laid_49 ?_
              refine lv_aload_n (pc := 50) hx hb dX12_laid_50 rfl (lv_at hl 1 rfl) ?_
              refine lv_iload_n (pc := 51) hx hb dX12_laid_51 rfl (lv_at hl 3 rfl) ?_
              refine s_iald (pc := 52) F w ds_116 h dX12_laid_52 (fun h => ?_)
              refine lv_iadd (pc := 53) hx hb dX12_laid_53 ?_
              refine lv_iload (pc := 54) hx hb dX12_laid_54 (lv_at hl 4 rfl) ?_
              refine s_iast (pc := 56) F w ds_117 h dX12_laid_56 (fun S3 H locs h w => ?_)
              refine lv_aload_n (pc := 57) hx hb dX12_laid_57 rfl (lv_at hl 1 rfl) ?_
              refine lv_iload_n (pc := 58) hx hb dX12_laid_58 rfl (lv_at hl 3 rfl) ?_
              refine lv_dup2_11 (pc := 59) hx hb dX12_laid_59 rfl rfl ?_
              refine s_iald (pc := 60) F w ds_116 h dX12_laid_60 (fun h => ?_)
              refine lv_iconst (pc := 61) (v := 1) hx hb dX12_laid_61 (by decide) ?_
              refine lv_iadd (pc := 62) hx hb dX12_laid_62 ?_
              refine s_iast (pc := 63) F w ds_116 h dX12_laid_63 (fun S4 H locs h w => ?_)
              refine lv_aload_n (pc := 64) hx hb dX12_laid_64 rfl (lv_at hl 1 rfl) ?_
              refine lv_iload_n (pc := 65) hx hb dX12_laid_65 rfl (lv_at hl 3 rfl) ?_
              refine s_iald (pc := 66) F w ds_116 h dX12_laid_66 (fun h => ?_)
              exact s_iret F w h dX12_laid_67
            · have h := ite_t q h
              refine lv_iconst (pc := 43) (v := -1) hx hb dX12_laid_43 (by decide) ?_
              exact s_iret F w h dX12_laid_44
def f_X12_lay (a1 : Int32) (a2 : Int32) (a3 : Int32) (S : SS) : Option (Int32 × SS) :=
  if a1 = 0 then
    bnd (f_X12_laid_Model_startMany_Model_startOn a2 a3 S) (fun r2 S1 =>
    some (r2, S1))
  else
    bnd (f_X12_laid_Model_goalMany_Model_goalOn a2 a3 S) (fun r4 S3 =>
    some (r4, S3))
theorem dX12_lay_0 : decode cX12_lay 0 = .ok (.iload_n 1, 1) := by decide +kernel
theorem dX12_lay_1 : decode cX12_lay 1 = .ok (.ifCond .eq 20, 3) := by decide +kernel
theorem dX12_lay_4 : decode cX12_lay 4 = .ok (.aload_n 0, 1) := by decide +kernel
theorem dX12_lay_5 : decode cX12_lay 5 = .ok (.aload_n 0, 1) := by decide +kernel
theorem dX12_lay_6 : decode cX12_lay 6 = .ok (.getfield 162, 3) := by decide +kernel
theorem dX12_lay_9 : decode cX12_lay 9 = .ok (.aload_n 0, 1) := by decide +kernel
theorem dX12_lay_10 : decode cX12_lay 10 = .ok (.getfield 165, 3) := by decide +kernel
theorem dX12_lay_13 : decode cX12_lay 13 = .ok (.iload_n 2, 1) := by decide +kernel
theorem dX12_lay_14 : decode cX12_lay 14 = .ok (.iload_n 3, 1) := by decide +kernel
theorem dX12_lay_15 : decode cX12_lay 15 = .ok (.invokevirtual 455, 3) := by decide +kernel
theorem dX12_lay_18 : decode cX12_lay 18 = .ok (.goto 17, 3) := by decide +kernel
theorem dX12_lay_21 : decode cX12_lay 21 = .ok (.aload_n 0, 1) := by decide +kernel
theorem dX12_lay_22 : decode cX12_lay 22 = .ok (.aload_n 0, 1) := by decide +kernel
theorem dX12_lay_23 : decode cX12_lay 23 = .ok (.getfield 156, 3) := by decide +kernel
theorem dX12_lay_26 : decode cX12_lay 26 = .ok (.aload_n 0, 1) := by decide +kernel
theorem dX12_lay_27 : decode cX12_lay 27 = .ok (.getfield 159, 3) := by decide +kernel
theorem dX12_lay_30 : decode cX12_lay 30 = .ok (.iload_n 2, 1) := by decide +kernel
theorem dX12_lay_31 : decode cX12_lay 31 = .ok (.iload_n 3, 1) := by decide +kernel
theorem dX12_lay_32 : decode cX12_lay 32 = .ok (.invokevirtual 455, 3) := by decide +kernel
theorem dX12_lay_35 : decode cX12_lay 35 = .ok (.ireturn, 1) := by decide +kernel
set_option maxRecDepth 100000 in
set_option maxHeartbeats 4000000 in
theorem m_X12_lay (a1 : Int32) (a2 : Int32) (a3 : Int32) (S S' : SS) (r : Int32) (h : f_X12_lay a1 a2 a3 S = some (r, S')) : MT yX12_lay cX12_lay 4 (some .int) 2 49 (fun ad => [.ref (ad 14), .int a1, .int a2, .int a3]) S (some (.int r)) S' := by
  refine MT.of RX12 (fun ad => [(0, .ref (ad 14)), (1, .int a1), (2, .int a2), (3, .int a3)]) (by decide) rfl (fun _ => Nat.le_of_ble_eq_true rfl) (fun _ => rfl) ?_
  intro p l e R s m args below meth c dC dI cs ad A hR1 hR2 F H locs ls w hl
  have hx := F.1.1
  have hb := F.1.2.1
  rw [f_X12_lay] at h
  refine lv_iload_n (pc := 0) hx hb dX12_lay_0 rfl (lv_at hl 1 rfl) ?_
  refine lv_if_eq (pc := 1) (tgt := 21) hx hb dX12_lay_1 (by decide) (fun q => ?_) (fun q => ?_)
  · have h := ite_t q h
    refine lv_aload_n (pc := 21) hx hb dX12_lay_21 rfl (lv_at hl 0 rfl) ?_
    refine lv_aload_n (pc := 22) hx hb dX12_lay_22 rfl (lv_at hl 0 rfl) ?_
    refine s_getR (pc := 23) F w 114 ds_14 (j := 72) vc_X12 vi_X12 rfl (by decide) kf_X12_156 dX12_lay_23 ?_
    refine lv_aload_n (pc := 26) hx hb dX12_lay_26 rfl (lv_at hl 0 rfl) ?_
    refine s_getR (pc := 27) F w 115 ds_14 (j := 73) vc_X12 vi_X12 rfl (by decide) kf_X12_159 dX12_lay_27 ?_
    refine lv_iload_n (pc := 30) hx hb dX12_lay_30 rfl (lv_at hl 2 rfl) ?_
    refine lv_iload_n (pc := 31) hx hb dX12_lay_31 rfl (lv_at hl 3 rfl) ?_
    obtain ⟨r2, S1, hc, h⟩ := bnd_t h
    refine s_cvi (pc := 32) [.ref (ad 114), .ref (ad 115), .int a2, .int a3] (fun ad => [.ref (ad 14), .ref (ad 114), .ref (ad 115), .int a2, .int a3]) F w (m_X12_laid_Model_startMany_Model_startOn _ _ _ _ _ hc) rfl rfl hl.1 ds_14 vc_X12 rfl ok_X12_laid rfl kc_X12_laid kl_X12_455 ki_X12_laid kv_X12_laid kn_X12 ⟨Nat.le_trans (by decide) hR1, Nat.le_trans (by decide) hR2⟩ ⟨Nat.zero_le _, Nat.zero_le _⟩ (Nat.le_of_ble_eq_true rfl) dX12_lay_32 (fun H locs w => ?_)
    exact s_iret F w h dX12_lay_35
  · have h := ite_f q h
    refine lv_aload_n (pc := 4) hx hb dX12_lay_4 rfl (lv_at hl 0 rfl) ?_
    refine lv_aload_n (pc := 5) hx hb dX12_lay_5 rfl (lv_at hl 0 rfl) ?_
    refine s_getR (pc := 6) F w 116 ds_14 (j := 74) vc_X12 vi_X12 rfl (by decide) kf_X12_162 dX12_lay_6 ?_
    refine lv_aload_n (pc := 9) hx hb dX12_lay_9 rfl (lv_at hl 0 rfl) ?_
    refine s_getR (pc := 10) F w 117 ds_14 (j := 75) vc_X12 vi_X12 rfl (by decide) kf_X12_165 dX12_lay_10 ?_
    refine lv_iload_n (pc := 13) hx hb dX12_lay_13 rfl (lv_at hl 2 rfl) ?_
    refine lv_iload_n (pc := 14) hx hb dX12_lay_14 rfl (lv_at hl 3 rfl) ?_
    obtain ⟨r4, S3, hc, h⟩ := bnd_t h
    refine s_cvi (pc := 15) [.ref (ad 116), .ref (ad 117), .int a2, .int a3] (fun ad => [.ref (ad 14), .ref (ad 116), .ref (ad 117), .int a2, .int a3]) F w (m_X12_laid_Model_goalMany_Model_goalOn _ _ _ _ _ hc) rfl rfl hl.1 ds_14 vc_X12 rfl ok_X12_laid rfl kc_X12_laid kl_X12_455 ki_X12_laid kv_X12_laid kn_X12 ⟨Nat.le_trans (by decide) hR1, Nat.le_trans (by decide) hR2⟩ ⟨Nat.zero_le _, Nat.zero_le _⟩ (Nat.le_of_ble_eq_true rfl) dX12_lay_15 (fun H locs w => ?_)
    refine lv_goto (pc := 18) (tgt := 35) hx hb dX12_lay_18 (by decide) ?_
    exact s_iret F w h dX12_lay_35
def f_X7_members_start_L11 (K4 : Int32 → Int32 → SS → Option (Int32 × SS)) : Nat → Int32 → Int32 → Int32 → SS → Option (Int32 × SS)
  | 0, _, _, _, _ => none
  | n + 1, x1, x2, x3, S =>
    grd (inb x2 4) (
    if (S.1 63 x2.toNatClampNeg) ≤ x3 then
      nm (x2 + (1 : Int32)) (fun z1 =>
      K4 x1 z1 S)
    else
      bnd (f_X7_wagonAt_start x2 x3 S) (fun r3 S2 =>
      nm (x1 ||| ((1 : Int32) <<< (r3 &&& 31))) (fun z4 =>
      nm (x3 + (1 : Int32)) (fun z5 =>
      f_X7_members_start_L11 K4 n z4 x2 z5 S2))))
def f_X7_members_start_L4  : Nat → Int32 → Int32 → SS → Option (Int32 × SS)
  | 0, _, _, _ => none
  | n + 1, x1, x2, S =>
    if (4 : Int32) ≤ x2 then
      some (x1, S)
    else
      f_X7_members_start_L11 (fun v0 v1 S => f_X7_members_start_L4 n v0 v1 S) NF x1 x2 (0 : Int32) S
def f_X7_members_start  (S : SS) : Option (Int32 × SS) :=
  f_X7_members_start_L4 NF (0 : Int32) (0 : Int32) S
theorem dX7_members_0 : decode cX7_members 0 = .ok (.iconst 0, 1) := by decide +kernel
theorem dX7_members_1 : decode cX7_members 1 = .ok (.istore_n 1, 1) := by decide +kernel
theorem dX7_members_2 : decode cX7_members 2 = .ok (.iconst 0, 1) := by decide +kernel
theorem dX7_members_3 : decode cX7_members 3 = .ok (.istore_n 2, 1) := by decide +kernel
theorem dX7_members_4 : decode cX7_members 4 = .ok (.iload_n 2, 1) := by decide +kernel
theorem dX7_members_5 : decode cX7_members 5 = .ok (.iconst 4, 1) := by decide +kernel
theorem dX7_members_6 : decode cX7_members 6 = .ok (.if_icmp .ge 38, 3) := by decide +kernel
theorem dX7_members_9 : decode cX7_members 9 = .ok (.iconst 0, 1) := by decide +kernel
theorem dX7_members_10 : decode cX7_members 10 = .ok (.istore_n 3, 1) := by decide +kernel
theorem dX7_members_11 : decode cX7_members 11 = .ok (.iload_n 3, 1) := by decide +kernel
theorem dX7_members_12 : decode cX7_members 12 = .ok (.aload_n 0, 1) := by decide +kernel
theorem dX7_members_13 : decode cX7_members 13 = .ok (.getfield 15, 3) := by decide +kernel
theorem dX7_members_16 : decode cX7_members 16 = .ok (.iload_n 2, 1) := by decide +kernel
theorem dX7_members_17 : decode cX7_members 17 = .ok (.iaload, 1) := by decide +kernel
theorem dX7_members_18 : decode cX7_members 18 = .ok (.if_icmp .ge 20, 3) := by decide +kernel
theorem dX7_members_21 : decode cX7_members 21 = .ok (.iload_n 1, 1) := by decide +kernel
theorem dX7_members_22 : decode cX7_members 22 = .ok (.iconst 1, 1) := by decide +kernel
theorem dX7_members_23 : decode cX7_members 23 = .ok (.aload_n 0, 1) := by decide +kernel
theorem dX7_members_24 : decode cX7_members 24 = .ok (.iload_n 2, 1) := by decide +kernel
theorem dX7_members_25 : decode cX7_members 25 = .ok (.iload_n 3, 1) := by decide +kernel
theorem dX7_members_26 : decode cX7_members 26 = .ok (.invokevirtual 34, 3) := by decide +kernel
theorem dX7_members_29 : decode cX7_members 29 = .ok (.ishl, 1) := by decide +kernel
theorem dX7_members_30 : decode cX7_members 30 = .ok (.ior, 1) := by decide +kernel
theorem dX7_members_31 : decode cX7_members 31 = .ok (.istore_n 1, 1) := by decide +kernel
theorem dX7_members_32 : decode cX7_members 32 = .ok (.iinc 3 1, 3) := by decide +kernel
theorem dX7_members_35 : decode cX7_members 35 = .ok (.goto (-24), 3) := by decide +kernel
theorem dX7_members_38 : decode cX7_members 38 = .ok (.iinc 2 1, 3) := by decide +kernel
theorem dX7_members_41 : decode cX7_members 41 = .ok (.goto (-37), 3) := by decide +kernel
theorem dX7_members_44 : decode cX7_members 44 = .ok (.iload_n 1, 1) := by decide +kernel
theorem dX7_members_45 : decode cX7_members 45 = .ok (.ireturn, 1) := by decide +kernel
set_option maxRecDepth 100000 in
set_option maxHeartbeats 4000000 in
theorem w_X7_members_start_L11 {p : Program} {l : Launch} {e : Env} {R : Room} {s : State} {m : MethodId} {args : Array Value} {below : List Frame} {meth : Method} {c : Code} {dC : Nat → ClassId} {dI : Nat → Nat → Nat} {cs : Nat → ClassId} {ad : Nat → Nat} {A : Nat → Prop} {D0 : Nat → Nat} {S' : SS} {r : Int32} (F : Fx p s m args meth c cX7_members 4 RX7 (some .int) dC dI cs A) (hR1 : 1 ≤ R.frames) (hR2 : 23 ≤ R.locals) (K4 : Int32 → Int32 → SS → Option (Int32 × SS)) (hK4 : ∀ (v0 : Int32) (v1 : Int32) (S : SS), K4 v0 v1 S = some (r, S') → AW p l e R s m args below meth c dC dI cs ad A D0 (some (.int r)) S' 4 4 [(0, .ref (ad 11)), (1, .int v0), (2, .int v1)] [] S) : ∀ (n : Nat) (x1 : Int32) (x2 : Int32) (x3 : Int32) (S : SS), f_X7_members_start_L11 K4 n x1 x2 x3 S = some (r, S') → AW p l e R s m args below meth c dC dI cs ad A D0 (some (.int r)) S' 4 11 [(0, .ref (ad 11)), (1, .int x1), (2, .int x2), (3, .int x3)] [] S := by
  have hx := F.1.1
  have hb := F.1.2.1
  intro n
  induction n with
  | zero => intro x1 x2 x3 S h; cases h
  | succ n ih =>
    intro x1 x2 x3 S h H locs ls w hl
    rw [f_X7_members_start_L11] at h
    refine lv_iload_n (pc := 11) hx hb dX7_members_11 rfl (lv_at hl 3 rfl) ?_
    refine lv_aload_n (pc := 12) hx hb dX7_members_12 rfl (lv_at hl 0 rfl) ?_
    refine s_getR (pc := 13) F w 63 ds_11 (j := 1) vc_X7 vi_X7 rfl (by decide) kf_X7_15 dX7_members_13 ?_
    refine lv_iload_n (pc := 16) hx hb dX7_members_16 rfl (lv_at hl 2 rfl) ?_
    refine s_iald (pc := 17) F w ds_63 h dX7_members_17 (fun h => ?_)
    refine lv_icmp_ge (pc := 18) (tgt := 38) hx hb dX7_members_18 (by decide) (fun q => ?_) (fun q => ?_)
    · have h := ite_t q h
      refine s_nm h (fun z1 ez1 h => ?_)
      refine lv_iinc (pc := 38) (v := z1) (lv' := [(2, .int z1), (0, .ref (ad 11)), (1, .int x1), (3, .int x3)]) hx hb dX7_members_38 hl (k := 2) rfl (by rw [ez1]; rfl) (by decide) rfl (fun ls hl => ?_)
      refine lv_goto (pc := 41) (tgt := 4) hx hb dX7_members_41 (by decide) ?_
      exact hK4 _ _ _ h _ _ _ w (lv_sub hl [1, 2, 0] rfl)
    · have h := ite_f q h
      refine lv_iload_n (pc := 21) hx hb dX7_members_21 rfl (lv_at hl 1 rfl) ?_
      refine lv_iconst (pc := 22) (v := 1) hx hb dX7_members_22 (by decide) ?_
      refine lv_aload_n (pc := 23) hx hb dX7_members_23 rfl (lv_at hl 0 rfl) ?_
      refine lv_iload_n (pc := 24) hx hb dX7_members_24 rfl (lv_at hl 2 rfl) ?_
      refine lv_iload_n (pc := 25) hx hb dX7_members_25 rfl (lv_at hl 3 rfl) ?_
      obtain ⟨r3, S2, hc, h⟩ := bnd_t h
      refine s_cvi (pc := 26) [.int x2, .int x3] (fun ad => [.ref (ad 11), .int x2, .int x3]) F w (m_X7_wagonAt_start _ _ _ _ _ hc) rfl rfl hl.1 ds_11 vc_X7 rfl ok_X7_wagonAt rfl kc_X7_wagonAt kl_X7_34 ki_X7_wagonAt kv_X7_wagonAt kn_X7 ⟨Nat.le_trans (by decide) hR1, Nat.le_trans (by decide) hR2⟩ ⟨Nat.zero_le _, Nat.zero_le _⟩ (Nat.le_of_ble_eq_true rfl) dX7_members_26 (fun H locs w => ?_)
      refine lv_ishl (pc := 29) hx hb dX7_members_29 ?_
      refine lv_ior (pc := 30) hx hb dX7_members_30 ?_
      refine s_nm h (fun z4 ez4 h => ?_)
      rw [← ez4]
      refine lv_istore_n (pc := 31) (lv' := [(1, .int z4), (0, .ref (ad 11)), (2, .int x2), (3, .int x3)]) hx hb dX7_members_31 rfl hl (by decide) rfl (fun ls hl => ?_)
      refine s_nm h (fun z5 ez5 h => ?_)
      refine lv_iinc (pc := 32) (v := z5) (lv' := [(3, .int z5), (1, .int z4), (0, .ref (ad 11)), (2, .int x2)]) hx hb dX7_members_32 hl (k := 3) rfl (by rw [ez5]; rfl) (by decide) rfl (fun ls hl => ?_)
      refine lv_goto (pc := 35) (tgt := 11) hx hb dX7_members_35 (by decide) ?_
      exact ih _ _ _ _ h _ _ _ w (lv_sub hl [2, 1, 3, 0] rfl)
set_option maxRecDepth 100000 in
set_option maxHeartbeats 4000000 in
theorem w_X7_members_start_L4 {p : Program} {l : Launch} {e : Env} {R : Room} {s : State} {m : MethodId} {args : Array Value} {below : List Frame} {meth : Method} {c : Code} {dC : Nat → ClassId} {dI : Nat → Nat → Nat} {cs : Nat → ClassId} {ad : Nat → Nat} {A : Nat → Prop} {D0 : Nat → Nat} {S' : SS} {r : Int32} (F : Fx p s m args meth c cX7_members 4 RX7 (some .int) dC dI cs A) (hR1 : 1 ≤ R.frames) (hR2 : 23 ≤ R.locals) : ∀ (n : Nat) (x1 : Int32) (x2 : Int32) (S : SS), f_X7_members_start_L4 n x1 x2 S = some (r, S') → AW p l e R s m args below meth c dC dI cs ad A D0 (some (.int r)) S' 4 4 [(0, .ref (ad 11)), (1, .int x1), (2, .int x2)] [] S := by
  have hx := F.1.1
  have hb := F.1.2.1
  intro n
  induction n with
  | zero => intro x1 x2 S h; cases h
  | succ n ih =>
    intro x1 x2 S h H locs ls w hl
    rw [f_X7_members_start_L4] at h
    refine lv_iload_n (pc := 4) hx hb dX7_members_4 rfl (lv_at hl 2 rfl) ?_
    refine lv_iconst (pc := 5) (v := 4) hx hb dX7_members_5 (by decide) ?_
    refine lv_icmp_ge (pc := 6) (tgt := 44) hx hb dX7_members_6 (by decide) (fun q => ?_) (fun q => ?_)
    · have h := ite_t q h
      refine lv_iload_n (pc := 44) hx hb dX7_members_44 rfl (lv_at hl 1 rfl) ?_
      exact s_iret F w h dX7_members_45
    · have h := ite_f q h
      refine lv_iconst (pc := 9) (v := 0) hx hb dX7_members_9 (by decide) ?_
      refine lv_istore_n (pc := 10) (lv' := [(3, .int (0 : Int32)), (0, .ref (ad 11)), (1, .int x1), (2, .int x2)]) hx hb dX7_members_10 rfl hl (by decide) rfl (fun ls hl => ?_)
      exact w_X7_members_start_L11 F (Nat.le_trans (by decide) hR1) (Nat.le_trans (by decide) hR2) _ (fun v0 v1 S h => ih v0 v1 S h) _ _ _ _ _ h _ _ _ w (lv_sub hl [1, 2, 3, 0] rfl)
set_option maxRecDepth 100000 in
set_option maxHeartbeats 4000000 in
theorem m_X7_members_start  (S S' : SS) (r : Int32) (h : f_X7_members_start  S = some (r, S')) : MT yX7_members cX7_members 4 (some .int) 1 23 (fun ad => [.ref (ad 11)]) S (some (.int r)) S' := by
  refine MT.of RX7 (fun ad => [(0, .ref (ad 11))]) (by decide) rfl (fun _ => Nat.le_of_ble_eq_true rfl) (fun _ => rfl) ?_
  intro p l e R s m args below meth c dC dI cs ad A hR1 hR2 F H locs ls w hl
  have hx := F.1.1
  have hb := F.1.2.1
  rw [f_X7_members_start] at h
  refine lv_iconst (pc := 0) (v := 0) hx hb dX7_members_0 (by decide) ?_
  refine lv_istore_n (pc := 1) (lv' := [(1, .int (0 : Int32)), (0, .ref (ad 11))]) hx hb dX7_members_1 rfl hl (by decide) rfl (fun ls hl => ?_)
  refine lv_iconst (pc := 2) (v := 0) hx hb dX7_members_2 (by decide) ?_
  refine lv_istore_n (pc := 3) (lv' := [(2, .int (0 : Int32)), (1, .int (0 : Int32)), (0, .ref (ad 11))]) hx hb dX7_members_3 rfl hl (by decide) rfl (fun ls hl => ?_)
  exact w_X7_members_start_L4 F (Nat.le_trans (by decide) hR1) (Nat.le_trans (by decide) hR2) _ _ _ _ h _ _ _ w (lv_sub hl [2, 1, 0] rfl)
def f_J6_bitCount_0f7a4 (a0 : Int32) (S : SS) : Option (Int32 × SS) :=
  nm (a0 - (((a0.toUInt32 >>> ((1 : Int32).toUInt32 &&& Int32.toUInt32 31)).toInt32) &&& (1431655765 : Int32))) (fun z1 =>
  nm ((z1 &&& (858993459 : Int32)) + (((z1.toUInt32 >>> ((2 : Int32).toUInt32 &&& Int32.toUInt32 31)).toInt32) &&& (858993459 : Int32))) (fun z2 =>
  nm ((z2 + ((z2.toUInt32 >>> ((4 : Int32).toUInt32 &&& Int32.toUInt32 31)).toInt32)) &&& (252645135 : Int32)) (fun z3 =>
  nm (z3 + ((z3.toUInt32 >>> ((8 : Int32).toUInt32 &&& Int32.toUInt32 31)).toInt32)) (fun z4 =>
  nm (z4 + ((z4.toUInt32 >>> ((16 : Int32).toUInt32 &&& Int32.toUInt32 31)).toInt32)) (fun z5 =>
  some (z5 &&& (63 : Int32), S))))))
theorem dJ6_bitCount_0f7a4_0 : decode cJ6_bitCount_0f7a4 0 = .ok (.iload_n 0, 1) := by decide +kernel
theorem dJ6_bitCount_0f7a4_1 : decode cJ6_bitCount_0f7a4 1 = .ok (.iload_n 0, 1) := by decide +kernel
theorem dJ6_bitCount_0f7a4_2 : decode cJ6_bitCount_0f7a4 2 = .ok (.iconst 1, 1) := by decide +kernel
theorem dJ6_bitCount_0f7a4_3 : decode cJ6_bitCount_0f7a4 3 = .ok (.iushr, 1) := by decide +kernel
theorem dJ6_bitCount_0f7a4_4 : decode cJ6_bitCount_0f7a4 4 = .ok (.ldc_w 265, 3) := by decide +kernel
theorem dJ6_bitCount_0f7a4_7 : decode cJ6_bitCount_0f7a4 7 = .ok (.iand, 1) := by decide +kernel
theorem dJ6_bitCount_0f7a4_8 : decode cJ6_bitCount_0f7a4 8 = .ok (.isub, 1) := by decide +kernel
theorem dJ6_bitCount_0f7a4_9 : decode cJ6_bitCount_0f7a4 9 = .ok (.istore_n 0, 1) := by decide +kernel
theorem dJ6_bitCount_0f7a4_10 : decode cJ6_bitCount_0f7a4 10 = .ok (.iload_n 0, 1) := by decide +kernel
theorem dJ6_bitCount_0f7a4_11 : decode cJ6_bitCount_0f7a4 11 = .ok (.ldc_w 266, 3) := by decide +kernel
theorem dJ6_bitCount_0f7a4_14 : decode cJ6_bitCount_0f7a4 14 = .ok (.iand, 1) := by decide +kernel
theorem dJ6_bitCount_0f7a4_15 : decode cJ6_bitCount_0f7a4 15 = .ok (.iload_n 0, 1) := by decide +kernel
theorem dJ6_bitCount_0f7a4_16 : decode cJ6_bitCount_0f7a4 16 = .ok (.iconst 2, 1) := by decide +kernel
theorem dJ6_bitCount_0f7a4_17 : decode cJ6_bitCount_0f7a4 17 = .ok (.iushr, 1) := by decide +kernel
theorem dJ6_bitCount_0f7a4_18 : decode cJ6_bitCount_0f7a4 18 = .ok (.ldc_w 266, 3) := by decide +kernel
theorem dJ6_bitCount_0f7a4_21 : decode cJ6_bitCount_0f7a4 21 = .ok (.iand, 1) := by decide +kernel
theorem dJ6_bitCount_0f7a4_22 : decode cJ6_bitCount_0f7a4 22 = .ok (.iadd, 1) := by decide +kernel
theorem dJ6_bitCount_0f7a4_23 : decode cJ6_bitCount_0f7a4 23 = .ok (.istore_n 0, 1) := by decide +kernel
theorem dJ6_bitCount_0f7a4_24 : decode cJ6_bitCount_0f7a4 24 = .ok (.iload_n 0, 1) := by decide +kernel
theorem dJ6_bitCount_0f7a4_25 : decode cJ6_bitCount_0f7a4 25 = .ok (.iload_n 0, 1) := by decide +kernel
theorem dJ6_bitCount_0f7a4_26 : decode cJ6_bitCount_0f7a4 26 = .ok (.iconst 4, 1) := by decide +kernel
theorem dJ6_bitCount_0f7a4_27 : decode cJ6_bitCount_0f7a4 27 = .ok (.iushr, 1) := by decide +kernel
theorem dJ6_bitCount_0f7a4_28 : decode cJ6_bitCount_0f7a4 28 = .ok (.iadd, 1) := by decide +kernel
theorem dJ6_bitCount_0f7a4_29 : decode cJ6_bitCount_0f7a4 29 = .ok (.ldc_w 267, 3) := by decide +kernel
theorem dJ6_bitCount_0f7a4_32 : decode cJ6_bitCount_0f7a4 32 = .ok (.iand, 1) := by decide +kernel
theorem dJ6_bitCount_0f7a4_33 : decode cJ6_bitCount_0f7a4 33 = .ok (.istore_n 0, 1) := by decide +kernel
theorem dJ6_bitCount_0f7a4_34 : decode cJ6_bitCount_0f7a4 34 = .ok (.iload_n 0, 1) := by decide +kernel
theorem dJ6_bitCount_0f7a4_35 : decode cJ6_bitCount_0f7a4 35 = .ok (.iload_n 0, 1) := by decide +kernel
theorem dJ6_bitCount_0f7a4_36 : decode cJ6_bitCount_0f7a4 36 = .ok (.bipush 8, 2) := by decide +kernel
theorem dJ6_bitCount_0f7a4_38 : decode cJ6_bitCount_0f7a4 38 = .ok (.iushr, 1) := by decide +kernel
theorem dJ6_bitCount_0f7a4_39 : decode cJ6_bitCount_0f7a4 39 = .ok (.iadd, 1) := by decide +kernel
theorem dJ6_bitCount_0f7a4_40 : decode cJ6_bitCount_0f7a4 40 = .ok (.istore_n 0, 1) := by decide +kernel
theorem dJ6_bitCount_0f7a4_41 : decode cJ6_bitCount_0f7a4 41 = .ok (.iload_n 0, 1) := by decide +kernel
theorem dJ6_bitCount_0f7a4_42 : decode cJ6_bitCount_0f7a4 42 = .ok (.iload_n 0, 1) := by decide +kernel
theorem dJ6_bitCount_0f7a4_43 : decode cJ6_bitCount_0f7a4 43 = .ok (.bipush 16, 2) := by decide +kernel
theorem dJ6_bitCount_0f7a4_45 : decode cJ6_bitCount_0f7a4 45 = .ok (.iushr, 1) := by decide +kernel
theorem dJ6_bitCount_0f7a4_46 : decode cJ6_bitCount_0f7a4 46 = .ok (.iadd, 1) := by decide +kernel
theorem dJ6_bitCount_0f7a4_47 : decode cJ6_bitCount_0f7a4 47 = .ok (.istore_n 0, 1) := by decide +kernel
theorem dJ6_bitCount_0f7a4_48 : decode cJ6_bitCount_0f7a4 48 = .ok (.iload_n 0, 1) := by decide +kernel
theorem dJ6_bitCount_0f7a4_49 : decode cJ6_bitCount_0f7a4 49 = .ok (.bipush 63, 2) := by decide +kernel
theorem dJ6_bitCount_0f7a4_51 : decode cJ6_bitCount_0f7a4 51 = .ok (.iand, 1) := by decide +kernel
theorem dJ6_bitCount_0f7a4_52 : decode cJ6_bitCount_0f7a4 52 = .ok (.ireturn, 1) := by decide +kernel
set_option maxRecDepth 100000 in
set_option maxHeartbeats 4000000 in
theorem m_J6_bitCount_0f7a4 (a0 : Int32) (S S' : SS) (r : Int32) (h : f_J6_bitCount_0f7a4 a0 S = some (r, S')) : MT yJ6_bitCount_0f7a4 cJ6_bitCount_0f7a4 1 (some .int) 0 0 (fun ad => [.int a0]) S (some (.int r)) S' := by
  refine MT.ofF RJ6 (fun ad => [(0, .int a0)]) (by decide +kernel) rfl (fun _ => Nat.le_of_ble_eq_true rfl) (fun _ => rfl) ?_
  intro p l e R s m args below meth c dC dI cs ad A hR1 hR2 F H locs ls w hl
  have hx := F.1.1
  have hb := F.1.2.1
  rw [f_J6_bitCount_0f7a4] at h
  refine lv_iload_n (pc := 0) hx hb dJ6_bitCount_0f7a4_0 rfl (lv_at hl 0 rfl) ?_
  refine lv_iload_n (pc := 1) hx hb dJ6_bitCount_0f7a4_1 rfl (lv_at hl 0 rfl) ?_
  refine lv_iconst (pc := 2) (v := 1) hx hb dJ6_bitCount_0f7a4_2 (by decide) ?_
  refine lv_iushr (pc := 3) hx hb dJ6_bitCount_0f7a4_3 rfl ?_
  refine lv_ldcw (pc := 4) (v := 1431655765) hx hb F.1.2.2.2.1 (F.1.2.2.2.2 _ kk_J6_265) dJ6_bitCount_0f7a4_4 ?_
  refine lv_iand (pc := 7) hx hb dJ6_bitCount_0f7a4_7 ?_
  refine lv_isub (pc := 8) hx hb dJ6_bitCount_0f7a4_8 ?_
  refine s_nm h (fun z1 ez1 h => ?_)
  rw [← ez1]
  refine lv_istore_n (pc := 9) (lv' := [(0, .int z1)]) hx hb dJ6_bitCount_0f7a4_9 rfl hl (by decide) rfl (fun ls hl => ?_)
  refine lv_iload_n (pc := 10) hx hb dJ6_bitCount_0f7a4_10 rfl (lv_at hl 0 rfl) ?_
  refine lv_ldcw (pc := 11) (v := 858993459) hx hb F.1.2.2.2.1 (F.1.2.2.2.2 _ kk_J6_266) dJ6_bitCount_0f7a4_11 ?_
  refine lv_iand (pc := 14) hx hb dJ6_bitCount_0f7a4_14 ?_
  refine lv_iload_n (pc := 15) hx hb dJ6_bitCount_0f7a4_15 rfl (lv_at hl 0 rfl) ?_
  refine lv_iconst (pc := 16) (v := 2) hx hb dJ6_bitCount_0f7a4_16 (by decide) ?_
  refine lv_iushr (pc := 17) hx hb dJ6_bitCount_0f7a4_17 rfl ?_
  refine lv_ldcw (pc := 18) (v := 858993459) hx hb F.1.2.2.2.1 (F.1.2.2.2.2 _ kk_J6_266) dJ6_bitCount_0f7a4_18 ?_
  refine lv_iand (pc := 21) hx hb dJ6_bitCount_0f7a4_21 ?_
  refine lv_iadd (pc := 22) hx hb dJ6_bitCount_0f7a4_22 ?_
  refine s_nm h (fun z2 ez2 h => ?_)
  rw [← ez2]
  refine lv_istore_n (pc := 23) (lv' := [(0, .int z2)]) hx hb dJ6_bitCount_0f7a4_23 rfl hl (by decide) rfl (fun ls hl => ?_)
  refine lv_iload_n (pc := 24) hx hb dJ6_bitCount_0f7a4_24 rfl (lv_at hl 0 rfl) ?_
  refine lv_iload_n (pc := 25) hx hb dJ6_bitCount_0f7a4_25 rfl (lv_at hl 0 rfl) ?_
  refine lv_iconst (pc := 26) (v := 4) hx hb dJ6_bitCount_0f7a4_26 (by decide) ?_
  refine lv_iushr (pc := 27) hx hb dJ6_bitCount_0f7a4_27 rfl ?_
  refine lv_iadd (pc := 28) hx hb dJ6_bitCount_0f7a4_28 ?_
  refine lv_ldcw (pc := 29) (v := 252645135) hx hb F.1.2.2.2.1 (F.1.2.2.2.2 _ kk_J6_267) dJ6_bitCount_0f7a4_29 ?_
  refine lv_iand (pc := 32) hx hb dJ6_bitCount_0f7a4_32 ?_
  refine s_nm h (fun z3 ez3 h => ?_)
  rw [← ez3]
  refine lv_istore_n (pc := 33) (lv' := [(0, .int z3)]) hx hb dJ6_bitCount_0f7a4_33 rfl hl (by decide) rfl (fun ls hl => ?_)
  refine lv_iload_n (pc := 34) hx hb dJ6_bitCount_0f7a4_34 rfl (lv_at hl 0 rfl) ?_
  refine lv_iload_n (pc := 35) hx hb dJ6_bitCount_0f7a4_35 rfl (lv_at hl 0 rfl) ?_
  refine lv_bipush (pc := 36) (v := 8) hx hb dJ6_bitCount_0f7a4_36 (by decide) ?_
  refine lv_iushr (pc := 38) hx hb dJ6_bitCount_0f7a4_38 rfl ?_
  refine lv_iadd (pc := 39) hx hb dJ6_bitCount_0f7a4_39 ?_
  refine s_nm h (fun z4 ez4 h => ?_)
  rw [← ez4]
  refine lv_istore_n (pc := 40) (lv' := [(0, .int z4)]) hx hb dJ6_bitCount_0f7a4_40 rfl hl (by decide) rfl (fun ls hl => ?_)
  refine lv_iload_n (pc := 41) hx hb dJ6_bitCount_0f7a4_41 rfl (lv_at hl 0 rfl) ?_
  refine lv_iload_n (pc := 42) hx hb dJ6_bitCount_0f7a4_42 rfl (lv_at hl 0 rfl) ?_
  refine lv_bipush (pc := 43) (v := 16) hx hb dJ6_bitCount_0f7a4_43 (by decide) ?_
  refine lv_iushr (pc := 45) hx hb dJ6_bitCount_0f7a4_45 rfl ?_
  refine lv_iadd (pc := 46) hx hb dJ6_bitCount_0f7a4_46 ?_
  refine s_nm h (fun z5 ez5 h => ?_)
  rw [← ez5]
  refine lv_istore_n (pc := 47) (lv' := [(0, .int z5)]) hx hb dJ6_bitCount_0f7a4_47 rfl hl (by decide) rfl (fun ls hl => ?_)
  refine lv_iload_n (pc := 48) hx hb dJ6_bitCount_0f7a4_48 rfl (lv_at hl 0 rfl) ?_
  refine lv_bipush (pc := 49) (v := 63) hx hb dJ6_bitCount_0f7a4_49 (by decide) ?_
  refine lv_iand (pc := 51) hx hb dJ6_bitCount_0f7a4_51 ?_
  exact s_iret F w h dJ6_bitCount_0f7a4_52
def f_J7_fill_53178_start_heights_L5  : Nat → Int32 → Int32 → Int32 → SS → Option (SS)
  | 0, _, _, _, _ => none
  | n + 1, x1, x2, x3, S =>
    if x3 ≤ x2 then
      some S
    else
      grd (inb x2 4) (wr S 63 x2.toNatClampNeg x1 (fun S2 =>
      nm (x2 + (1 : Int32)) (fun z3 =>
      f_J7_fill_53178_start_heights_L5 n x1 z3 x3 S2)))
def f_J7_fill_53178_start_heights (a1 : Int32) (S : SS) : Option (SS) :=
  nm (Int32.ofNat 4) (fun z1 =>
  f_J7_fill_53178_start_heights_L5 NF a1 (0 : Int32) z1 S)
theorem dJ7_fill_53178_0 : decode cJ7_fill_53178 0 = .ok (.iconst 0, 1) := by decide +kernel
theorem dJ7_fill_53178_1 : decode cJ7_fill_53178 1 = .ok (.istore_n 2, 1) := by decide +kernel
theorem dJ7_fill_53178_2 : decode cJ7_fill_53178 2 = .ok (.aload_n 0, 1) := by decide +kernel
theorem dJ7_fill_53178_3 : decode cJ7_fill_53178 3 = .ok (.arraylength, 1) := by decide +kernel
theorem dJ7_fill_53178_4 : decode cJ7_fill_53178 4 = .ok (.istore_n 3, 1) := by decide +kernel
theorem dJ7_fill_53178_5 : decode cJ7_fill_53178 5 = .ok (.iload_n 2, 1) := by decide +kernel
theorem dJ7_fill_53178_6 : decode cJ7_fill_53178 6 = .ok (.iload_n 3, 1) := by decide +kernel
theorem dJ7_fill_53178_7 : decode cJ7_fill_53178 7 = .ok (.if_icmp .ge 13, 3) := by decide +kernel
theorem dJ7_fill_53178_10 : decode cJ7_fill_53178 10 = .ok (.aload_n 0, 1) := by decide +kernel
theorem dJ7_fill_53178_11 : decode cJ7_fill_53178 11 = .ok (.iload_n 2, 1) := by decide +kernel
theorem dJ7_fill_53178_12 : decode cJ7_fill_53178 12 = .ok (.iload_n 1, 1) := by decide +kernel
theorem dJ7_fill_53178_13 : decode cJ7_fill_53178 13 = .ok (.iastore, 1) := by decide +kernel
theorem dJ7_fill_53178_14 : decode cJ7_fill_53178 14 = .ok (.iinc 2 1, 3) := by decide +kernel
theorem dJ7_fill_53178_17 : decode cJ7_fill_53178 17 = .ok (.goto (-12), 3) := by decide +kernel
theorem dJ7_fill_53178_20 : decode cJ7_fill_53178 20 = .ok (.return_, 1) := by decide +kernel
set_option maxRecDepth 100000 in
set_option maxHeartbeats 4000000 in
theorem w_J7_fill_53178_start_heights_L5 {p : Program} {l : Launch} {e : Env} {R : Room} {s : State} {m : MethodId} {args : Array Value} {below : List Frame} {meth : Method} {c : Code} {dC : Nat → ClassId} {dI : Nat → Nat → Nat} {cs : Nat → ClassId} {ad : Nat → Nat} {A : Nat → Prop} {D0 : Nat → Nat} {S' : SS} (F : Fx p s m args meth c cJ7_fill_53178 4 RJ7 none dC dI cs A) (hR1 : 0 ≤ R.frames) (hR2 : 0 ≤ R.locals) : ∀ (n : Nat) (x1 : Int32) (x2 : Int32) (x3 : Int32) (S : SS), f_J7_fill_53178_start_heights_L5 n x1 x2 x3 S = some S' → AW p l e R s m args below meth c dC dI cs ad A D0 none S' 4 5 [(0, .ref (ad 63)), (1, .int x1), (2, .int x2), (3, .int x3)] [] S := by
  have hx := F.1.1
  have hb := F.1.2.1
  intro n
  induction n with
  | zero => intro x1 x2 x3 S h; cases h
  | succ n ih =>
    intro x1 x2 x3 S h H locs ls w hl
    rw [f_J7_fill_53178_start_heights_L5] at h
    refine lv_iload_n (pc := 5) hx hb dJ7_fill_53178_5 rfl (lv_at hl 2 rfl) ?_
    refine lv_iload_n (pc := 6) hx hb dJ7_fill_53178_6 rfl (lv_at hl 3 rfl) ?_
    refine lv_icmp_ge (pc := 7) (tgt := 20) hx hb dJ7_fill_53178_7 (by decide) (fun q => ?_) (fun q => ?_)
    · have h := ite_t q h
      exact s_vret F w h dJ7_fill_53178_20
    · have h := ite_f q h
      refine lv_aload_n (pc := 10) hx hb dJ7_fill_53178_10 rfl (lv_at hl 0 rfl) ?_
      refine lv_iload_n (pc := 11) hx hb dJ7_fill_53178_11 rfl (lv_at hl 2 rfl) ?_
      refine lv_iload_n (pc := 12) hx hb dJ7_fill_53178_12 rfl (lv_at hl 1 rfl) ?_
      refine s_iast (pc := 13) F w ds_63 h dJ7_fill_53178_13 (fun S2 H locs h w => ?_)
      refine s_nm h (fun z3 ez3 h => ?_)
      refine lv_iinc (pc := 14) (v := z3) (lv' := [(2, .int z3), (0, .ref (ad 63)), (1, .int x1), (3, .int x3)]) hx hb dJ7_fill_53178_14 hl (k := 2) rfl (by rw [ez3]; rfl) (by decide) rfl (fun ls hl => ?_)
      refine lv_goto (pc := 17) (tgt := 5) hx hb dJ7_fill_53178_17 (by decide) ?_
      exact ih _ _ _ _ h _ _ _ w (lv_sub hl [1, 2, 0, 3] rfl)
set_option maxRecDepth 100000 in
set_option maxHeartbeats 4000000 in
theorem m_J7_fill_53178_start_heights (a1 : Int32) (S S' : SS) (h : f_J7_fill_53178_start_heights a1 S = some S') : MT yJ7_fill_53178 cJ7_fill_53178 4 none 0 0 (fun ad => [.ref (ad 63), .int a1]) S none S' := by
  refine MT.ofF RJ7 (fun ad => [(0, .ref (ad 63)), (1, .int a1)]) (by decide +kernel) rfl (fun _ => Nat.le_of_ble_eq_true rfl) (fun _ => rfl) ?_
  intro p l e R s m args below meth c dC dI cs ad A hR1 hR2 F H locs ls w hl
  have hx := F.1.1
  have hb := F.1.2.1
  rw [f_J7_fill_53178_start_heights] at h
  refine lv_iconst (pc := 0) (v := 0) hx hb dJ7_fill_53178_0 (by decide) ?_
  refine lv_istore_n (pc := 1) (lv' := [(2, .int (0 : Int32)), (0, .ref (ad 63)), (1, .int a1)]) hx hb dJ7_fill_53178_1 rfl hl (by decide) rfl (fun ls hl => ?_)
  refine lv_aload_n (pc := 2) hx hb dJ7_fill_53178_2 rfl (lv_at hl 1 rfl) ?_
  refine s_alen (pc := 3) F w ds_63 dJ7_fill_53178_3 ?_
  show W _ _ _ _ _ _ _ _ _ _ _ _ _ _ _ (F0 _ _ _ (.int (Int32.ofNat 4) :: _))
  refine s_nm h (fun z1 ez1 h => ?_)
  rw [← ez1]
  refine lv_istore_n (pc := 4) (lv' := [(3, .int z1), (2, .int (0 : Int32)), (0, .ref (ad 63)), (1, .int a1)]) hx hb dJ7_fill_53178_4 rfl hl (by decide) rfl (fun ls hl => ?_)
  exact w_J7_fill_53178_start_heights_L5 F (Nat.le_trans (by decide) hR1) (Nat.le_trans (by decide) hR2) _ _ _ _ _ h _ _ _ w (lv_sub hl [2, 3, 1, 0] rfl)
def f_X7_empty_start  (S : SS) : Option (SS) :=
  bndv (f_J7_fill_53178_start_heights (0 : Int32) S) (fun S1 =>
  some S1)
theorem dX7_empty_0 : decode cX7_empty 0 = .ok (.aload_n 0, 1) := by decide +kernel
theorem dX7_empty_1 : decode cX7_empty 1 = .ok (.getfield 15, 3) := by decide +kernel
theorem dX7_empty_4 : decode cX7_empty 4 = .ok (.iconst 0, 1) := by decide +kernel
theorem dX7_empty_5 : decode cX7_empty 5 = .ok (.invokestatic 18, 3) := by decide +kernel
theorem dX7_empty_8 : decode cX7_empty 8 = .ok (.return_, 1) := by decide +kernel
set_option maxRecDepth 100000 in
set_option maxHeartbeats 4000000 in
theorem m_X7_empty_start  (S S' : SS) (h : f_X7_empty_start  S = some S') : MT yX7_empty cX7_empty 1 none 1 23 (fun ad => [.ref (ad 11)]) S none S' := by
  refine MT.of RX7 (fun ad => [(0, .ref (ad 11))]) (by decide) rfl (fun _ => Nat.le_of_ble_eq_true rfl) (fun _ => rfl) ?_
  intro p l e R s m args below meth c dC dI cs ad A hR1 hR2 F H locs ls w hl
  have hx := F.1.1
  have hb := F.1.2.1
  rw [f_X7_empty_start] at h
  refine lv_aload_n (pc := 0) hx hb dX7_empty_0 rfl (lv_at hl 0 rfl) ?_
  refine s_getR (pc := 1) F w 63 ds_11 (j := 1) vc_X7 vi_X7 rfl (by decide) kf_X7_15 dX7_empty_1 ?_
  refine lv_iconst (pc := 4) (v := 0) hx hb dX7_empty_4 (by decide) ?_
  obtain ⟨S1, hc, h⟩ := bndv_t h
  refine s_csv (pc := 5) [.ref (ad 63), .int (0 : Int32)] (fun ad => [.ref (ad 63), .int (0 : Int32)]) F w (m_J7_fill_53178_start_heights _ _ _ hc) rfl rfl hl.1 ok_J7_fill_53178 rfl kc_J7_fill_53178 kl_X7_18 ks_J7_fill_53178 kn_J7 ⟨Nat.le_trans (by decide) hR1, Nat.le_trans (by decide) hR2⟩ ⟨Nat.zero_le _, Nat.zero_le _⟩ (Nat.le_of_ble_eq_true rfl) dX7_empty_5 (fun H locs w => ?_)
  exact s_vret F w h dX7_empty_8
def f_J7_fill_53178_goal_heights_L5  : Nat → Int32 → Int32 → Int32 → SS → Option (SS)
  | 0, _, _, _, _ => none
  | n + 1, x1, x2, x3, S =>
    if x3 ≤ x2 then
      some S
    else
      grd (inb x2 4) (wr S 65 x2.toNatClampNeg x1 (fun S2 =>
      nm (x2 + (1 : Int32)) (fun z3 =>
      f_J7_fill_53178_goal_heights_L5 n x1 z3 x3 S2)))
def f_J7_fill_53178_goal_heights (a1 : Int32) (S : SS) : Option (SS) :=
  nm (Int32.ofNat 4) (fun z1 =>
  f_J7_fill_53178_goal_heights_L5 NF a1 (0 : Int32) z1 S)
set_option maxRecDepth 100000 in
set_option maxHeartbeats 4000000 in
theorem w_J7_fill_53178_goal_heights_L5 {p : Program} {l : Launch} {e : Env} {R : Room} {s : State} {m : MethodId} {args : Array Value} {below : List Frame} {meth : Method} {c : Code} {dC : Nat → ClassId} {dI : Nat → Nat → Nat} {cs : Nat → ClassId} {ad : Nat → Nat} {A : Nat → Prop} {D0 : Nat → Nat} {S' : SS} (F : Fx p s m args meth c cJ7_fill_53178 4 RJ7 none dC dI cs A) (hR1 : 0 ≤ R.frames) (hR2 : 0 ≤ R.locals) : ∀ (n : Nat) (x1 : Int32) (x2 : Int32) (x3 : Int32) (S : SS), f_J7_fill_53178_goal_heights_L5 n x1 x2 x3 S = some S' → AW p l e R s m args below meth c dC dI cs ad A D0 none S' 4 5 [(0, .ref (ad 65)), (1, .int x1), (2, .int x2), (3, .int x3)] [] S := by
  have hx := F.1.1
  have hb := F.1.2.1
  intro n
  induction n with
  | zero => intro x1 x2 x3 S h; cases h
  | succ n ih =>
    intro x1 x2 x3 S h H locs ls w hl
    rw [f_J7_fill_53178_goal_heights_L5] at h
    refine lv_iload_n (pc := 5) hx hb dJ7_fill_53178_5 rfl (lv_at hl 2 rfl) ?_
    refine lv_iload_n (pc := 6) hx hb dJ7_fill_53178_6 rfl (lv_at hl 3 rfl) ?_
    refine lv_icmp_ge (pc := 7) (tgt := 20) hx hb dJ7_fill_53178_7 (by decide) (fun q => ?_) (fun q => ?_)
    · have h := ite_t q h
      exact s_vret F w h dJ7_fill_53178_20
    · have h := ite_f q h
      refine lv_aload_n (pc := 10) hx hb dJ7_fill_53178_10 rfl (lv_at hl 0 rfl) ?_
      refine lv_iload_n (pc := 11) hx hb dJ7_fill_53178_11 rfl (lv_at hl 2 rfl) ?_
      refine lv_iload_n (pc := 12) hx hb dJ7_fill_53178_12 rfl (lv_at hl 1 rfl) ?_
      refine s_iast (pc := 13) F w ds_65 h dJ7_fill_53178_13 (fun S2 H locs h w => ?_)
      refine s_nm h (fun z3 ez3 h => ?_)
      refine lv_iinc (pc := 14) (v := z3) (lv' := [(2, .int z3), (0, .ref (ad 65)), (1, .int x1), (3, .int x3)]) hx hb dJ7_fill_53178_14 hl (k := 2) rfl (by rw [ez3]; rfl) (by decide) rfl (fun ls hl => ?_)
      refine lv_goto (pc := 17) (tgt := 5) hx hb dJ7_fill_53178_17 (by decide) ?_
      exact ih _ _ _ _ h _ _ _ w (lv_sub hl [1, 2, 0, 3] rfl)
set_option maxRecDepth 100000 in
set_option maxHeartbeats 4000000 in
theorem m_J7_fill_53178_goal_heights (a1 : Int32) (S S' : SS) (h : f_J7_fill_53178_goal_heights a1 S = some S') : MT yJ7_fill_53178 cJ7_fill_53178 4 none 0 0 (fun ad => [.ref (ad 65), .int a1]) S none S' := by
  refine MT.ofF RJ7 (fun ad => [(0, .ref (ad 65)), (1, .int a1)]) (by decide +kernel) rfl (fun _ => Nat.le_of_ble_eq_true rfl) (fun _ => rfl) ?_
  intro p l e R s m args below meth c dC dI cs ad A hR1 hR2 F H locs ls w hl
  have hx := F.1.1
  have hb := F.1.2.1
  rw [f_J7_fill_53178_goal_heights] at h
  refine lv_iconst (pc := 0) (v := 0) hx hb dJ7_fill_53178_0 (by decide) ?_
  refine lv_istore_n (pc := 1) (lv' := [(2, .int (0 : Int32)), (0, .ref (ad 65)), (1, .int a1)]) hx hb dJ7_fill_53178_1 rfl hl (by decide) rfl (fun ls hl => ?_)
  refine lv_aload_n (pc := 2) hx hb dJ7_fill_53178_2 rfl (lv_at hl 1 rfl) ?_
  refine s_alen (pc := 3) F w ds_65 dJ7_fill_53178_3 ?_
  show W _ _ _ _ _ _ _ _ _ _ _ _ _ _ _ (F0 _ _ _ (.int (Int32.ofNat 4) :: _))
  refine s_nm h (fun z1 ez1 h => ?_)
  rw [← ez1]
  refine lv_istore_n (pc := 4) (lv' := [(3, .int z1), (2, .int (0 : Int32)), (0, .ref (ad 65)), (1, .int a1)]) hx hb dJ7_fill_53178_4 rfl hl (by decide) rfl (fun ls hl => ?_)
  exact w_J7_fill_53178_goal_heights_L5 F (Nat.le_trans (by decide) hR1) (Nat.le_trans (by decide) hR2) _ _ _ _ _ h _ _ _ w (lv_sub hl [2, 3, 1, 0] rfl)
def f_X7_empty_goal  (S : SS) : Option (SS) :=
  bndv (f_J7_fill_53178_goal_heights (0 : Int32) S) (fun S1 =>
  some S1)
set_option maxRecDepth 100000 in
set_option maxHeartbeats 4000000 in
theorem m_X7_empty_goal  (S S' : SS) (h : f_X7_empty_goal  S = some S') : MT yX7_empty cX7_empty 1 none 1 23 (fun ad => [.ref (ad 12)]) S none S' := by
  refine MT.of RX7 (fun ad => [(0, .ref (ad 12))]) (by decide) rfl (fun _ => Nat.le_of_ble_eq_true rfl) (fun _ => rfl) ?_
  intro p l e R s m args below meth c dC dI cs ad A hR1 hR2 F H locs ls w hl
  have hx := F.1.1
  have hb := F.1.2.1
  rw [f_X7_empty_goal] at h
  refine lv_aload_n (pc := 0) hx hb dX7_empty_0 rfl (lv_at hl 0 rfl) ?_
  refine s_getR (pc := 1) F w 65 ds_12 (j := 1) vc_X7 vi_X7 rfl (by decide) kf_X7_15 dX7_empty_1 ?_
  refine lv_iconst (pc := 4) (v := 0) hx hb dX7_empty_4 (by decide) ?_
  obtain ⟨S1, hc, h⟩ := bndv_t h
  refine s_csv (pc := 5) [.ref (ad 65), .int (0 : Int32)] (fun ad => [.ref (ad 65), .int (0 : Int32)]) F w (m_J7_fill_53178_goal_heights _ _ _ hc) rfl rfl hl.1 ok_J7_fill_53178 rfl kc_J7_fill_53178 kl_X7_18 ks_J7_fill_53178 kn_J7 ⟨Nat.le_trans (by decide) hR1, Nat.le_trans (by decide) hR2⟩ ⟨Nat.zero_le _, Nat.zero_le _⟩ (Nat.le_of_ble_eq_true rfl) dX7_empty_5 (fun H locs w => ?_)
  exact s_vret F w h dX7_empty_8
def f_X3_drop  (S : SS) : Option (SS) :=
  wr S 9 8 (0 : Int32) (fun S1 =>
  wr S1 9 7 (0 : Int32) (fun S2 =>
  some S2))
theorem dX3_drop_0 : decode cX3_drop 0 = .ok (.aload_n 0, 1) := by decide +kernel
theorem dX3_drop_1 : decode cX3_drop 1 = .ok (.iconst 0, 1) := by decide +kernel
theorem dX3_drop_2 : decode cX3_drop 2 = .ok (.putfield 45, 3) := by decide +kernel
theorem dX3_drop_5 : decode cX3_drop 5 = .ok (.aload_n 0, 1) := by decide +kernel
theorem dX3_drop_6 : decode cX3_drop 6 = .ok (.iconst 0, 1) := by decide +kernel
theorem dX3_drop_7 : decode cX3_drop 7 = .ok (.putfield 41, 3) := by decide +kernel
theorem dX3_drop_10 : decode cX3_drop 10 = .ok (.return_, 1) := by decide +kernel
set_option maxRecDepth 100000 in
set_option maxHeartbeats 4000000 in
theorem m_X3_drop  (S S' : SS) (h : f_X3_drop  S = some S') : MT yX3_drop cX3_drop 1 none 0 0 (fun ad => [.ref (ad 9)]) S none S' := by
  refine MT.of RX3 (fun ad => [(0, .ref (ad 9))]) (by decide) rfl (fun _ => Nat.le_of_ble_eq_true rfl) (fun _ => rfl) ?_
  intro p l e R s m args below meth c dC dI cs ad A hR1 hR2 F H locs ls w hl
  have hx := F.1.1
  have hb := F.1.2.1
  rw [f_X3_drop] at h
  refine lv_aload_n (pc := 0) hx hb dX3_drop_0 rfl (lv_at hl 0 rfl) ?_
  refine lv_iconst (pc := 1) (v := 0) hx hb dX3_drop_1 (by decide) ?_
  refine s_putI (pc := 2) F w ds_9 vc_X3 vi_X3 tyX3_ok nmX3 (j := 8) rfl (by decide) kf_X3_45 rfl pd_I h dX3_drop_2 (fun S1 H locs h w => ?_)
  refine lv_aload_n (pc := 5) hx hb dX3_drop_5 rfl (lv_at hl 0 rfl) ?_
  refine lv_iconst (pc := 6) (v := 0) hx hb dX3_drop_6 (by decide) ?_
  refine s_putI (pc := 7) F w ds_9 vc_X3 vi_X3 tyX3_ok nmX3 (j := 7) rfl (by decide) kf_X3_41 rfl pd_I h dX3_drop_7 (fun S2 H locs h w => ?_)
  exact s_vret F w h dX3_drop_10
def f_X3_clear  (S : SS) : Option (Int32 × SS) :=
  bnd (f_X7_members_start  S) (fun r2 S1 =>
  bnd (f_J6_bitCount_0f7a4 r2 S1) (fun r4 S3 =>
  bndv (f_X7_empty_start  S3) (fun S5 =>
  bndv (f_X7_empty_goal  S5) (fun S6 =>
  bndv (f_X3_drop  S6) (fun S7 =>
  some (r4, S7))))))
theorem dX3_clear_0 : decode cX3_clear 0 = .ok (.aload_n 0, 1) := by decide +kernel
theorem dX3_clear_1 : decode cX3_clear 1 = .ok (.getfield 12, 3) := by decide +kernel
theorem dX3_clear_4 : decode cX3_clear 4 = .ok (.invokevirtual 65, 3) := by decide +kernel
theorem dX3_clear_7 : decode cX3_clear 7 = .ok (.invokestatic 69, 3) := by decide +kernel
theorem dX3_clear_10 : decode cX3_clear 10 = .ok (.istore_n 1, 1) := by decide +kernel
theorem dX3_clear_11 : decode cX3_clear 11 = .ok (.aload_n 0, 1) := by decide +kernel
theorem dX3_clear_12 : decode cX3_clear 12 = .ok (.getfield 12, 3) := by decide +kernel
theorem dX3_clear_15 : decode cX3_clear 15 = .ok (.invokevirtual 74, 3) := by decide +kernel
theorem dX3_clear_18 : decode cX3_clear 18 = .ok (.aload_n 0, 1) := by decide +kernel
theorem dX3_clear_19 : decode cX3_clear 19 = .ok (.getfield 18, 3) := by decide +kernel
theorem dX3_clear_22 : decode cX3_clear 22 = .ok (.invokevirtual 74, 3) := by decide +kernel
theorem dX3_clear_25 : decode cX3_clear 25 = .ok (.aload_n 0, 1) := by decide +kernel
theorem dX3_clear_26 : decode cX3_clear 26 = .ok (.invokevirtual 77, 3) := by decide +kernel
theorem dX3_clear_29 : decode cX3_clear 29 = .ok (.iload_n 1, 1) := by decide +kernel
theorem dX3_clear_30 : decode cX3_clear 30 = .ok (.ireturn, 1) := by decide +kernel
set_option maxRecDepth 100000 in
set_option maxHeartbeats 4000000 in
theorem m_X3_clear  (S S' : SS) (r : Int32) (h : f_X3_clear  S = some (r, S')) : MT yX3_clear cX3_clear 2 (some .int) 2 46 (fun ad => [.ref (ad 9)]) S (some (.int r)) S' := by
  refine MT.of RX3 (fun ad => [(0, .ref (ad 9))]) (by decide) rfl (fun _ => Nat.le_of_ble_eq_true rfl) (fun _ => rfl) ?_
  intro p l e R s m args below meth c dC dI cs ad A hR1 hR2 F H locs ls w hl
  have hx := F.1.1
  have hb := F.1.2.1
  rw [f_X3_clear] at h
  refine lv_aload_n (pc := 0) hx hb dX3_clear_0 rfl (lv_at hl 0 rfl) ?_
  refine s_getR (pc := 1) F w 11 ds_9 (j := 0) vc_X3 vi_X3 rfl (by decide) kf_X3_12 dX3_clear_1 ?_
  obtain ⟨r2, S1, hc, h⟩ := bnd_t h
  refine s_cvi (pc := 4) [] (fun ad => [.ref (ad 11)]) F w (m_X7_members_start  _ _ _ hc) rfl rfl hl.1 ds_11 vc_X7 rfl ok_X7_members rfl kc_X7_members kl_X3_65 ki_X7_members kv_X7_members kn_X7 ⟨Nat.le_trans (by decide) hR1, Nat.le_trans (by decide) hR2⟩ ⟨Nat.zero_le _, Nat.zero_le _⟩ (Nat.le_of_ble_eq_true rfl) dX3_clear_4 (fun H locs w => ?_)
  obtain ⟨r4, S3, hc, h⟩ := bnd_t h
  refine s_csi (pc := 7) [.int r2] (fun ad => [.int r2]) F w (m_J6_bitCount_0f7a4 _ _ _ _ hc) rfl rfl hl.1 ok_J6_bitCount_0f7a4 rfl kc_J6_bitCount_0f7a4 kl_X3_69 ks_J6_bitCount_0f7a4 kn_J6 ⟨Nat.le_trans (by decide) hR1, Nat.le_trans (by decide) hR2⟩ ⟨Nat.zero_le _, Nat.zero_le _⟩ (Nat.le_of_ble_eq_true rfl) dX3_clear_7 (fun H locs w => ?_)
  refine lv_istore_n (pc := 10) (lv' := [(1, .int r4), (0, .ref (ad 9))]) hx hb dX3_clear_10 rfl hl (by decide) rfl (fun ls hl => ?_)
  refine lv_aload_n (pc := 11) hx hb dX3_clear_11 rfl (lv_at hl 1 rfl) ?_
  refine s_getR (pc := 12) F w 11 ds_9 (j := 0) vc_X3 vi_X3 rfl (by decide) kf_X3_12 dX3_clear_12 ?_
  obtain ⟨S5, hc, h⟩ := bndv_t h
  refine s_cvv (pc := 15) [] (fun ad => [.ref (ad 11)]) F w (m_X7_empty_start  _ _ hc) rfl rfl hl.1 ds_11 vc_X7 rfl ok_X7_empty rfl kc_X7_empty kl_X3_74 ki_X7_empty kv_X7_empty kn_X7 ⟨Nat.le_trans (by decide) hR1, Nat.le_trans (by decide) hR2⟩ ⟨Nat.zero_le _, Nat.zero_le _⟩ (Nat.le_of_ble_eq_true rfl) dX3_clear_15 (fun H locs w => ?_)
  refine lv_aload_n (pc := 18) hx hb dX3_clear_18 rfl (lv_at hl 1 rfl) ?_
  refine s_getR (pc := 19) F w 12 ds_9 (j := 1) vc_X3 vi_X3 rfl (by decide) kf_X3_18 dX3_clear_19 ?_
  obtain ⟨S6, hc, h⟩ := bndv_t h
  refine s_cvv (pc := 22) [] (fun ad => [.ref (ad 12)]) F w (m_X7_empty_goal  _ _ hc) rfl rfl hl.1 ds_12 vc_X7 rfl ok_X7_empty rfl kc_X7_empty kl_X3_74 ki_X7_empty kv_X7_empty kn_X7 ⟨Nat.le_trans (by decide) hR1, Nat.le_trans (by decide) hR2⟩ ⟨Nat.zero_le _, Nat.zero_le _⟩ (Nat.le_of_ble_eq_true rfl) dX3_clear_22 (fun H locs w => ?_)
  refine lv_aload_n (pc := 25) hx hb dX3_clear_25 rfl (lv_at hl 1 rfl) ?_
  obtain ⟨S7, hc, h⟩ := bndv_t h
  refine s_cvv (pc := 26) [] (fun ad => [.ref (ad 9)]) F w (m_X3_drop  _ _ hc) rfl rfl hl.1 ds_9 vc_X3 rfl ok_X3_drop rfl kc_X3_drop kl_X3_77 ki_X3_drop kv_X3_drop kn_X3 ⟨Nat.le_trans (by decide) hR1, Nat.le_trans (by decide) hR2⟩ ⟨Nat.zero_le _, Nat.zero_le _⟩ (Nat.le_of_ble_eq_true rfl) dX3_clear_26 (fun H locs w => ?_)
  refine lv_iload_n (pc := 29) hx hb dX3_clear_29 rfl (lv_at hl 0 rfl) ?_
  exact s_iret F w h dX3_clear_30
def f_X11_wipe  (S : SS) : Option (Int32 × SS) :=
  bnd (f_X3_clear  S) (fun r2 S1 =>
  some (r2, S1))
theorem dX11_wipe_0 : decode cX11_wipe 0 = .ok (.aload_n 0, 1) := by decide +kernel
theorem dX11_wipe_1 : decode cX11_wipe 1 = .ok (.getfield 74, 3) := by decide +kernel
theorem dX11_wipe_4 : decode cX11_wipe 4 = .ok (.invokevirtual 425, 3) := by decide +kernel
theorem dX11_wipe_7 : decode cX11_wipe 7 = .ok (.ireturn, 1) := by decide +kernel
set_option maxRecDepth 100000 in
set_option maxHeartbeats 4000000 in
theorem m_X11_wipe  (S S' : SS) (r : Int32) (h : f_X11_wipe  S = some (r, S')) : MT yX11_wipe cX11_wipe 1 (some .int) 3 67 (fun ad => [.ref (ad 0)]) S (some (.int r)) S' := by
  refine MT.of RX11 (fun ad => [(0, .ref (ad 0))]) (by decide) rfl (fun _ => Nat.le_of_ble_eq_true rfl) (fun _ => rfl) ?_
  intro p l e R s m args below meth c dC dI cs ad A hR1 hR2 F H locs ls w hl
  have hx := F.1.1
  have hb := F.1.2.1
  rw [f_X11_wipe] at h
  refine lv_aload_n (pc := 0) hx hb dX11_wipe_0 rfl (lv_at hl 0 rfl) ?_
  refine s_getR (pc := 1) F w 9 ds_0 (j := 8) vc_X11 vi_X11 rfl (by decide) kf_X11_74 dX11_wipe_1 ?_
  obtain ⟨r2, S1, hc, h⟩ := bnd_t h
  refine s_cvi (pc := 4) [] (fun ad => [.ref (ad 9)]) F w (m_X3_clear  _ _ _ hc) rfl rfl hl.1 ds_9 vc_X3 rfl ok_X3_clear rfl kc_X3_clear kl_X11_425 ki_X3_clear kv_X3_clear kn_X3 ⟨Nat.le_trans (by decide) hR1, Nat.le_trans (by decide) hR2⟩ ⟨Nat.zero_le _, Nat.zero_le _⟩ (Nat.le_of_ble_eq_true rfl) dX11_wipe_4 (fun H locs w => ?_)
  exact s_iret F w h dX11_wipe_7
def f_X12_sumOf_Model_startMany  (S : SS) : Option (Int32 × SS) :=
  grd (inb (0 : Int32) 4) (
  grd (inb (1 : Int32) 4) (
  grd (inb (2 : Int32) 4) (
  grd (inb (3 : Int32) 4) (
  some ((((S.1 114 (0 : Int32).toNatClampNeg) + (S.1 114 (1 : Int32).toNatClampNeg)) + (S.1 114 (2 : Int32).toNatClampNeg)) + (S.1 114 (3 : Int32).toNatClampNeg), S)))))
theorem dX12_sumOf_0 : decode cX12_sumOf 0 = .ok (.aload_n 0, 1) := by decide +kernel
theorem dX12_sumOf_1 : decode cX12_sumOf 1 = .ok (.iconst 0, 1) := by decide +kernel
theorem dX12_sumOf_2 : decode cX12_sumOf 2 = .ok (.iaload, 1) := by decide +kernel
theorem dX12_sumOf_3 : decode cX12_sumOf 3 = .ok (.aload_n 0, 1) := by decide +kernel
theorem dX12_sumOf_4 : decode cX12_sumOf 4 = .ok (.iconst 1, 1) := by decide +kernel
theorem dX12_sumOf_5 : decode cX12_sumOf 5 = .ok (.iaload, 1) := by decide +kernel
theorem dX12_sumOf_6 : decode cX12_sumOf 6 = .ok (.iadd, 1) := by decide +kernel
theorem dX12_sumOf_7 : decode cX12_sumOf 7 = .ok (.aload_n 0, 1) := by decide +kernel
theorem dX12_sumOf_8 : decode cX12_sumOf 8 = .ok (.iconst 2, 1) := by decide +kernel
theorem dX12_sumOf_9 : decode cX12_sumOf 9 = .ok (.iaload, 1) := by decide +kernel
theorem dX12_sumOf_10 : decode cX12_sumOf 10 = .ok (.iadd, 1) := by decide +kernel
theorem dX12_sumOf_11 : decode cX12_sumOf 11 = .ok (.aload_n 0, 1) := by decide +kernel
theorem dX12_sumOf_12 : decode cX12_sumOf 12 = .ok (.iconst 3, 1) := by decide +kernel
theorem dX12_sumOf_13 : decode cX12_sumOf 13 = .ok (.iaload, 1) := by decide +kernel
theorem dX12_sumOf_14 : decode cX12_sumOf 14 = .ok (.iadd, 1) := by decide +kernel
theorem dX12_sumOf_15 : decode cX12_sumOf 15 = .ok (.ireturn, 1) := by decide +kernel
set_option maxRecDepth 100000 in
set_option maxHeartbeats 4000000 in
theorem m_X12_sumOf_Model_startMany  (S S' : SS) (r : Int32) (h : f_X12_sumOf_Model_startMany  S = some (r, S')) : MT yX12_sumOf cX12_sumOf 1 (some .int) 0 0 (fun ad => [.ref (ad 114)]) S (some (.int r)) S' := by
  refine MT.of RX12 (fun ad => [(0, .ref (ad 114))]) (by decide) rfl (fun _ => Nat.le_of_ble_eq_true rfl) (fun _ => rfl) ?_
  intro p l e R s m args below meth c dC dI cs ad A hR1 hR2 F H locs ls w hl
  have hx := F.1.1
  have hb := F.1.2.1
  rw [f_X12_sumOf_Model_startMany] at h
  refine lv_aload_n (pc := 0) hx hb dX12_sumOf_0 rfl (lv_at hl 0 rfl) ?_
  refine lv_iconst (pc := 1) (v := 0) hx hb dX12_sumOf_1 (by decide) ?_
  refine s_iald (pc := 2) F w ds_114 h dX12_sumOf_2 (fun h => ?_)
  refine lv_aload_n (pc := 3) hx hb dX12_sumOf_3 rfl (lv_at hl 0 rfl) ?_
  refine lv_iconst (pc := 4) (v := 1) hx hb dX12_sumOf_4 (by decide) ?_
  refine s_iald (pc := 5) F w ds_114 h dX12_sumOf_5 (fun h => ?_)
  refine lv_iadd (pc := 6) hx hb dX12_sumOf_6 ?_
  refine lv_aload_n (pc := 7) hx hb dX12_sumOf_7 rfl (lv_at hl 0 rfl) ?_
  refine lv_iconst (pc := 8) (v := 2) hx hb dX12_sumOf_8 (by decide) ?_
  refine s_iald (pc := 9) F w ds_114 h dX12_sumOf_9 (fun h => ?_)
  refine lv_iadd (pc := 10) hx hb dX12_sumOf_10 ?_
  refine lv_aload_n (pc := 11) hx hb dX12_sumOf_11 rfl (lv_at hl 0 rfl) ?_
  refine lv_iconst (pc := 12) (v := 3) hx hb dX12_sumOf_12 (by decide) ?_
  refine s_iald (pc := 13) F w ds_114 h dX12_sumOf_13 (fun h => ?_)
  refine lv_iadd (pc := 14) hx hb dX12_sumOf_14 ?_
  exact s_iret F w h dX12_sumOf_15
def f_X12_wipe_L10  : Nat → Int32 → Int32 → SS → Option (Int32 × SS)
  | 0, _, _, _ => none
  | n + 1, x1, x2, S =>
    if (4 : Int32) ≤ x2 then
      wr S 14 76 (-4 : Int32) (fun S3 =>
      wr S3 14 77 (0 : Int32) (fun S4 =>
      some (x1, S4)))
    else
      grd (inb x2 4) (wr S 114 x2.toNatClampNeg (0 : Int32) (fun S5 =>
      grd (inb x2 4) (wr S5 116 x2.toNatClampNeg (0 : Int32) (fun S6 =>
      nm (x2 + (1 : Int32)) (fun z7 =>
      f_X12_wipe_L10 n x1 z7 S6)))))
def f_X12_wipe  (S : SS) : Option (Int32 × SS) :=
  bnd (f_X12_sumOf_Model_startMany  S) (fun r2 S1 =>
  f_X12_wipe_L10 NF r2 (0 : Int32) S1)
theorem dX12_wipe_0 : decode cX12_wipe 0 = .ok (.aload_n 0, 1) := by decide +kernel
theorem dX12_wipe_1 : decode cX12_wipe 1 = .ok (.getfield 156, 3) := by decide +kernel
theorem dX12_wipe_4 : decode cX12_wipe 4 = .ok (.invokestatic 459, 3) := by decide +kernel
theorem dX12_wipe_7 : decode cX12_wipe 7 = .ok (.istore_n 1, 1) := by decide +kernel
theorem dX12_wipe_8 : decode cX12_wipe 8 = .ok (.iconst 0, 1) := by decide +kernel
theorem dX12_wipe_9 : decode cX12_wipe 9 = .ok (.istore_n 2, 1) := by decide +kernel
theorem dX12_wipe_10 : decode cX12_wipe 10 = .ok (.iload_n 2, 1) := by decide +kernel
theorem dX12_wipe_11 : decode cX12_wipe 11 = .ok (.iconst 4, 1) := by decide +kernel
theorem dX12_wipe_12 : decode cX12_wipe 12 = .ok (.if_icmp .ge 23, 3) := by decide +kernel
theorem dX12_wipe_15 : decode cX12_wipe 15 = .ok (.aload_n 0, 1) := by decide +kernel
theorem dX12_wipe_16 : decode cX12_wipe 16 = .ok (.getfield 156, 3) := by decide +kernel
theorem dX12_wipe_19 : decode cX12_wipe 19 = .ok (.iload_n 2, 1) := by decide +kernel
theorem dX12_wipe_20 : decode cX12_wipe 20 = .ok (.iconst 0, 1) := by decide +kernel
theorem dX12_wipe_21 : decode cX12_wipe 21 = .ok (.iastore, 1) := by decide +kernel
theorem dX12_wipe_22 : decode cX12_wipe 22 = .ok (.aload_n 0, 1) := by decide +kernel
theorem dX12_wipe_23 : decode cX12_wipe 23 = .ok (.getfield 162, 3) := by decide +kernel
theorem dX12_wipe_26 : decode cX12_wipe 26 = .ok (.iload_n 2, 1) := by decide +kernel
theorem dX12_wipe_27 : decode cX12_wipe 27 = .ok (.iconst 0, 1) := by decide +kernel
theorem dX12_wipe_28 : decode cX12_wipe 28 = .ok (.iastore, 1) := by decide +kernel
theorem dX12_wipe_29 : decode cX12_wipe 29 = .ok (.iinc 2 1, 3) := by decide +kernel
theorem dX12_wipe_32 : decode cX12_wipe 32 = .ok (.goto (-22), 3) := by decide +kernel
theorem dX12_wipe_35 : decode cX12_wipe 35 = .ok (.aload_n 0, 1) := by decide +kernel
theorem dX12_wipe_36 : decode cX12_wipe 36 = .ok (.bipush (-4), 2) := by decide +kernel
theorem dX12_wipe_38 : decode cX12_wipe 38 = .ok (.putfield 168, 3) := by decide +kernel
theorem dX12_wipe_41 : decode cX12_wipe 41 = .ok (.aload_n 0, 1) := by decide +kernel
theorem dX12_wipe_42 : decode cX12_wipe 42 = .ok (.iconst 0, 1) := by decide +kernel
theorem dX12_wipe_43 : decode cX12_wipe 43 = .ok (.putfield 463, 3) := by decide +kernel
theorem dX12_wipe_46 : decode cX12_wipe 46 = .ok (.iload_n 1, 1) := by decide +kernel
theorem dX12_wipe_47 : decode cX12_wipe 47 = .ok (.ireturn, 1) := by decide +kernel
set_option maxRecDepth 100000 in
set_option maxHeartbeats 4000000 in
theorem w_X12_wipe_L10 {p : Program} {l : Launch} {e : Env} {R : Room} {s : State} {m : MethodId} {args : Array Value} {below : List Frame} {meth : Method} {c : Code} {dC : Nat → ClassId} {dI : Nat → Nat → Nat} {cs : Nat → ClassId} {ad : Nat → Nat} {A : Nat → Prop} {D0 : Nat → Nat} {S' : SS} {r : Int32} (F : Fx p s m args meth c cX12_wipe 3 RX12 (some .int) dC dI cs A) (hR1 : 0 ≤ R.frames) (hR2 : 0 ≤ R.locals) : ∀ (n : Nat) (x1 : Int32) (x2 : Int32) (S : SS), f_X12_wipe_L10 n x1 x2 S = some (r, S') → AW p l e R s m args below meth c dC dI cs ad A D0 (some (.int r)) S' 3 10 [(0, .ref (ad 14)), (1, .int x1), (2, .int x2)] [] S := by
  have hx := F.1.1
  have hb := F.1.2.1
  intro n
  induction n with
  | zero => intro x1 x2 S h; cases h
  | succ n ih =>
    intro x1 x2 S h H locs ls w hl
    rw [f_X12_wipe_L10] at h
    refine lv_iload_n (pc := 10) hx hb dX12_wipe_10 rfl (lv_at hl 2 rfl) ?_
    refine lv_iconst (pc := 11) (v := 4) hx hb dX12_wipe_11 (by decide) ?_
    refine lv_icmp_ge (pc := 12) (tgt := 35) hx hb dX12_wipe_12 (by decide) (fun q => ?_) (fun q => ?_)
    · have h := ite_t q h
      refine lv_aload_n (pc := 35) hx hb dX12_wipe_35 rfl (lv_at hl 0 rfl) ?_
      refine lv_bipush (pc := 36) (v := -4) hx hb dX12_wipe_36 (by decide) ?_
      refine s_putI (pc := 38) F w ds_14 vc_X12 vi_X12 tyX12_ok nmX12 (j := 76) rfl (by decide) kf_X12_168 rfl pd_I h dX12_wipe_38 (fun S3 H locs h w => ?_)
      refine lv_aload_n (pc := 41) hx hb dX12_wipe_41 rfl (lv_at hl 0 rfl) ?_
      refine lv_iconst (pc := 42) (v := 0) hx hb dX12_wipe_42 (by decide) ?_
      refine s_putI (pc := 43) F w ds_14 vc_X12 vi_X12 tyX12_ok nmX12 (j := 77) rfl (by decide) kf_X12_463 rfl pd_I h dX12_wipe_43 (fun S4 H locs h w => ?_)
      refine lv_iload_n (pc := 46) hx hb dX12_wipe_46 rfl (lv_at hl 1 rfl) ?_
      exact s_iret F w h dX12_wipe_47
    · have h := ite_f q h
      refine lv_aload_n (pc := 15) hx hb dX12_wipe_15 rfl (lv_at hl 0 rfl) ?_
      refine s_getR (pc := 16) F w 114 ds_14 (j := 72) vc_X12 vi_X12 rfl (by decide) kf_X12_156 dX12_wipe_16 ?_
      refine lv_iload_n (pc := 19) hx hb dX12_wipe_19 rfl (lv_at hl 2 rfl) ?_
      refine lv_iconst (pc := 20) (v := 0) hx hb dX12_wipe_20 (by decide) ?_
      refine s_iast (pc := 21) F w ds_114 h dX12_wipe_21 (fun S5 H locs h w => ?_)
      refine lv_aload_n (pc := 22) hx hb dX12_wipe_22 rfl (lv_at hl 0 rfl) ?_
      refine s_getR (pc := 23) F w 116 ds_14 (j := 74) vc_X12 vi_X12 rfl (by decide) kf_X12_162 dX12_wipe_23 ?_
      refine lv_iload_n (pc := 26) hx hb dX12_wipe_26 rfl (lv_at hl 2 rfl) ?_
      refine lv_iconst (pc := 27) (v := 0) hx hb dX12_wipe_27 (by decide) ?_
      refine s_iast (pc := 28) F w ds_116 h dX12_wipe_28 (fun S6 H locs h w => ?_)
      refine s_nm h (fun z7 ez7 h => ?_)
      refine lv_iinc (pc := 29) (v := z7) (lv' := [(2, .int z7), (0, .ref (ad 14)), (1, .int x1)]) hx hb dX12_wipe_29 hl (k := 2) rfl (by rw [ez7]; rfl) (by decide) rfl (fun ls hl => ?_)
      refine lv_goto (pc := 32) (tgt := 10) hx hb dX12_wipe_32 (by decide) ?_
      exact ih _ _ _ h _ _ _ w (lv_sub hl [1, 2, 0] rfl)
set_option maxRecDepth 100000 in
set_option maxHeartbeats 4000000 in
theorem m_X12_wipe  (S S' : SS) (r : Int32) (h : f_X12_wipe  S = some (r, S')) : MT yX12_wipe cX12_wipe 3 (some .int) 1 20 (fun ad => [.ref (ad 14)]) S (some (.int r)) S' := by
  refine MT.of RX12 (fun ad => [(0, .ref (ad 14))]) (by decide) rfl (fun _ => Nat.le_of_ble_eq_true rfl) (fun _ => rfl) ?_
  intro p l e R s m args below meth c dC dI cs ad A hR1 hR2 F H locs ls w hl
  have hx := F.1.1
  have hb := F.1.2.1
  rw [f_X12_wipe] at h
  refine lv_aload_n (pc := 0) hx hb dX12_wipe_0 rfl (lv_at hl 0 rfl) ?_
  refine s_getR (pc := 1) F w 114 ds_14 (j := 72) vc_X12 vi_X12 rfl (by decide) kf_X12_156 dX12_wipe_1 ?_
  obtain ⟨r2, S1, hc, h⟩ := bnd_t h
  refine s_csi (pc := 4) [.ref (ad 114)] (fun ad => [.ref (ad 114)]) F w (m_X12_sumOf_Model_startMany  _ _ _ hc) rfl rfl hl.1 ok_X12_sumOf rfl kc_X12_sumOf kl_X12_459 ks_X12_sumOf kn_X12 ⟨Nat.le_trans (by decide) hR1, Nat.le_trans (by decide) hR2⟩ ⟨Nat.zero_le _, Nat.zero_le _⟩ (Nat.le_of_ble_eq_true rfl) dX12_wipe_4 (fun H locs w => ?_)
  refine lv_istore_n (pc := 7) (lv' := [(1, .int r2), (0, .ref (ad 14))]) hx hb dX12_wipe_7 rfl hl (by decide) rfl (fun ls hl => ?_)
  refine lv_iconst (pc := 8) (v := 0) hx hb dX12_wipe_8 (by decide) ?_
  refine lv_istore_n (pc := 9) (lv' := [(2, .int (0 : Int32)), (1, .int r2), (0, .ref (ad 14))]) hx hb dX12_wipe_9 rfl hl (by decide) rfl (fun ls hl => ?_)
  exact w_X12_wipe_L10 F (Nat.le_trans (by decide) hR1) (Nat.le_trans (by decide) hR2) _ _ _ _ h _ _ _ w (lv_sub hl [2, 1, 0] rfl)
def f_X12_areSame_j46 (K4 : Int32 → Int32 → SS → Option (Int32 × SS)) (x2 : Int32) (y0 : Int32) (S : SS) : Option (Int32 × SS) :=
    nm (x2 + (1 : Int32)) (fun z1 =>
    K4 y0 z1 S)
def f_X12_areSame_j45 (K4 : Int32 → Int32 → SS → Option (Int32 × SS)) (x2 : Int32) (S : SS) : Option (Int32 × SS) :=
    f_X12_areSame_j46 K4 x2 (0 : Int32) S
def f_X12_areSame_L4  : Nat → Int32 → Int32 → SS → Option (Int32 × SS)
  | 0, _, _, _ => none
  | n + 1, x1, x2, S =>
    if (10 : Int32) ≤ x2 then
      grd (isB x1) (some (x1, S))
    else
      if x1 = 0 then
        f_X12_areSame_j45 (fun v0 v1 S => f_X12_areSame_L4 n v0 v1 S) x2 S
      else
        bnd (f_X12_has_Model_startMany_Model_startOn x2 S) (fun r3 S2 =>
        bnd (f_X12_has_Model_goalMany_Model_goalOn x2 S2) (fun r5 S4 =>
        if r3 = r5 then
          f_X12_areSame_j46 (fun v0 v1 S => f_X12_areSame_L4 n v0 v1 S) x2 (1 : Int32) S4
        else
          f_X12_areSame_j45 (fun v0 v1 S => f_X12_areSame_L4 n v0 v1 S) x2 S4))
def f_X12_areSame  (S : SS) : Option (Int32 × SS) :=
  f_X12_areSame_L4 NF (1 : Int32) (0 : Int32) S
theorem dX12_areSame_0 : decode cX12_areSame 0 = .ok (.iconst 1, 1) := by decide +kernel
theorem dX12_areSame_1 : decode cX12_areSame 1 = .ok (.istore_n 1, 1) := by decide +kernel
theorem dX12_areSame_2 : decode cX12_areSame 2 = .ok (.iconst 0, 1) := by decide +kernel
theorem dX12_areSame_3 : decode cX12_areSame 3 = .ok (.istore_n 2, 1) := by decide +kernel
theorem dX12_areSame_4 : decode cX12_areSame 4 = .ok (.iload_n 2, 1) := by decide +kernel
theorem dX12_areSame_5 : decode cX12_areSame 5 = .ok (.bipush 10, 2) := by decide +kernel
theorem dX12_areSame_7 : decode cX12_areSame 7 = .ok (.if_icmp .ge 46, 3) := by decide +kernel
theorem dX12_areSame_10 : decode cX12_areSame 10 = .ok (.iload_n 1, 1) := by decide +kernel
theorem dX12_areSame_11 : decode cX12_areSame 11 = .ok (.ifCond .eq 34, 3) := by decide +kernel
theorem dX12_areSame_14 : decode cX12_areSame 14 = .ok (.aload_n 0, 1) := by decide +kernel
theorem dX12_areSame_15 : decode cX12_areSame 15 = .ok (.getfield 156, 3) := by decide +kernel
theorem dX12_areSame_18 : decode cX12_areSame 18 = .ok (.aload_n 0, 1) := by decide +kernel
theorem dX12_areSame_19 : decode cX12_areSame 19 = .ok (.getfield 159, 3) := by decide +kernel
theorem dX12_areSame_22 : decode cX12_areSame 22 = .ok (.iload_n 2, 1) := by decide +kernel
theorem dX12_areSame_23 : decode cX12_areSame 23 = .ok (.invokestatic 451, 3) := by decide +kernel
theorem dX12_areSame_26 : decode cX12_areSame 26 = .ok (.aload_n 0, 1) := by decide +kernel
theorem dX12_areSame_27 : decode cX12_areSame 27 = .ok (.getfield 162, 3) := by decide +kernel
theorem dX12_areSame_30 : decode cX12_areSame 30 = .ok (.aload_n 0, 1) := by decide +kernel
theorem dX12_areSame_31 : decode cX12_areSame 31 = .ok (.getfield 165, 3) := by decide +kernel
theorem dX12_areSame_34 : decode cX12_areSame 34 = .ok (.iload_n 2, 1) := by decide +kernel
theorem dX12_areSame_35 : decode cX12_areSame 35 = .ok (.invokestatic 451, 3) := by decide +kernel
theorem dX12_areSame_38 : decode cX12_areSame 38 = .ok (.if_icmp .ne 7, 3) := by decide +kernel
theorem dX12_areSame_41 : decode cX12_areSame 41 = .ok (.iconst 1, 1) := by decide +kernel
theorem dX12_areSame_42 : decode cX12_areSame 42 = .ok (.goto 4, 3) := by decide +kernel
theorem dX12_areSame_45 : decode cX12_areSame 45 = .ok (.iconst 0, 1) := by decide +kernel
theorem dX12_areSame_46 : decode cX12_areSame 46 = .ok (.istore_n 1, 1) := by decide +kernel
theorem dX12_areSame_47 : decode cX12_areSame 47 = .ok (.iinc 2 1, 3) := by decide +kernel
theorem dX12_areSame_50 : decode cX12_areSame 50 = .ok (.goto (-46), 3) := by decide +kernel
theorem dX12_areSame_53 : decode cX12_areSame 53 = .ok (.iload_n 1, 1) := by decide +kernel
theorem dX12_areSame_54 : decode cX12_areSame 54 = .ok (.ireturn, 1) := by decide +kernel
set_option maxRecDepth 100000 in
set_option maxHeartbeats 4000000 in
theorem w_X12_areSame_j46 {p : Program} {l : Launch} {e : Env} {R : Room} {s : State} {m : MethodId} {args : Array Value} {below : List Frame} {meth : Method} {c : Code} {dC : Nat → ClassId} {dI : Nat → Nat → Nat} {cs : Nat → ClassId} {ad : Nat → Nat} {A : Nat → Prop} {D0 : Nat → Nat} {S' : SS} {r : Int32} (F : Fx p s m args meth c cX12_areSame 3 RX12 (some .boolean) dC dI cs A) (hR1 : 0 ≤ R.frames) (hR2 : 0 ≤ R.locals) (K4 : Int32 → Int32 → SS → Option (Int32 × SS)) (hK4 : ∀ (v0 : Int32) (v1 : Int32) (S : SS), K4 v0 v1 S = some (r, S') → AW p l e R s m args below meth c dC dI cs ad A D0 (some (.int r)) S' 3 4 [(0, .ref (ad 14)), (1, .int v0), (2, .int v1)] [] S) (x2 : Int32) (y0 : Int32) (S : SS) (h : f_X12_areSame_j46 K4 x2 y0 S = some (r, S')) : AW p l e R s m args below meth c dC dI cs ad A D0 (some (.int r)) S' 3 46 [(0, .ref (ad 14)), (2, .int x2)] [.int y0] S := by
  have hx := F.1.1
  have hb := F.1.2.1
  intro H locs ls w hl
  rw [f_X12_areSame_j46] at h
  refine lv_istore_n (pc := 46) (lv' := [(1, .int y0), (0, .ref (ad 14)), (2, .int x2)]) hx hb dX12_areSame_46 rfl hl (by decide) rfl (fun ls hl => ?_)
  refine s_nm h (fun z1 ez1 h => ?_)
  refine lv_iinc (pc := 47) (v := z1) (lv' := [(2, .int z1), (1, .int y0), (0, .ref (ad 14))]) hx hb dX12_areSame_47 hl (k := 2) rfl (by rw [ez1]; rfl) (by decide) rfl (fun ls hl => ?_)
  refine lv_goto (pc := 50) (tgt := 4) hx hb dX12_areSame_50 (by decide) ?_
  exact hK4 _ _ _ h _ _ _ w (lv_sub hl [2, 1, 0] rfl)
set_option maxRecDepth 100000 in
set_option maxHeartbeats 4000000 in
theorem w_X12_areSame_j45 {p : Program} {l : Launch} {e : Env} {R : Room} {s : State} {m : MethodId} {args : Array Value} {below : List Frame} {meth : Method} {c : Code} {dC : Nat → ClassId} {dI : Nat → Nat → Nat} {cs : Nat → ClassId} {ad : Nat → Nat} {A : Nat → Prop} {D0 : Nat → Nat} {S' : SS} {r : Int32} (F : Fx p s m args meth c cX12_areSame 3 RX12 (some .boolean) dC dI cs A) (hR1 : 0 ≤ R.frames) (hR2 : 0 ≤ R.locals) (K4 : Int32 → Int32 → SS → Option (Int32 × SS)) (hK4 : ∀ (v0 : Int32) (v1 : Int32) (S : SS), K4 v0 v1 S = some (r, S') → AW p l e R s m args below meth c dC dI cs ad A D0 (some (.int r)) S' 3 4 [(0, .ref (ad 14)), (1, .int v0), (2, .int v1)] [] S) (x2 : Int32) (S : SS) (h : f_X12_areSame_j45 K4 x2 S = some (r, S')) : AW p l e R s m args below meth c dC dI cs ad A D0 (some (.int r)) S' 3 45 [(0, .ref (ad 14)), (2, .int x2)] [] S := by
  have hx := F.1.1
  have hb := F.1.2.1
  intro H locs ls w hl
  rw [f_X12_areSame_j45] at h
  refine lv_iconst (pc := 45) (v := 0) hx hb dX12_areSame_45 (by decide) ?_
  exact w_X12_areSame_j46 F (Nat.le_trans (by decide) hR1) (Nat.le_trans (by decide) hR2) _ hK4 _ _ _ h _ _ _ w (lv_sub hl [0, 1] rfl)
set_option maxRecDepth 100000 in
set_option maxHeartbeats 4000000 in
theorem w_X12_areSame_L4 {p : Program} {l : Launch} {e : Env} {R : Room} {s : State} {m : MethodId} {args : Array Value} {below : List Frame} {meth : Method} {c : Code} {dC : Nat → ClassId} {dI : Nat → Nat → Nat} {cs : Nat → ClassId} {ad : Nat → Nat} {A : Nat → Prop} {D0 : Nat → Nat} {S' : SS} {r : Int32} (F : Fx p s m args meth c cX12_areSame 3 RX12 (some .boolean) dC dI cs A) (hR1 : 1 ≤ R.frames) (hR2 : 25 ≤ R.locals) : ∀ (n : Nat) (x1 : Int32) (x2 : Int32) (S : SS), f_X12_areSame_L4 n x1 x2 S = some (r, S') → AW p l e R s m args below meth c dC dI cs ad A D0 (some (.int r)) S' 3 4 [(0, .ref (ad 14)), (1, .int x1), (2, .int x2)] [] S := by
  have hx := F.1.1
  have hb := F.1.2.1
  intro n
  induction n with
  | zero => intro x1 x2 S h; cases h
  | succ n ih =>
    intro x1 x2 S h H locs ls w hl
    rw [f_X12_areSame_L4] at h
    refine lv_iload_n (pc := 4) hx hb dX12_areSame_4 rfl (lv_at hl 2 rfl) ?_
    refine lv_bipush (pc := 5) (v := 10) hx hb dX12_areSame_5 (by decide) ?_
    refine lv_icmp_ge (pc := 7) (tgt := 53) hx hb dX12_areSame_7 (by decide) (fun q => ?_) (fun q => ?_)
    · have h := ite_t q h
      refine lv_iload_n (pc := 53) hx hb dX12_areSame_53 rfl (lv_at hl 1 rfl) ?_
      exact s_zret F w h dX12_areSame_54
    · have h := ite_f q h
      refine lv_iload_n (pc := 10) hx hb dX12_areSame_10 rfl (lv_at hl 1 rfl) ?_
      refine lv_if_eq (pc := 11) (tgt := 45) hx hb dX12_areSame_11 (by decide) (fun q => ?_) (fun q => ?_)
      · have h := ite_t q h
        exact w_X12_areSame_j45 F (Nat.le_trans (by decide) hR1) (Nat.le_trans (by decide) hR2) _ (fun v0 v1 S h => ih v0 v1 S h) _ _ h _ _ _ w (lv_sub hl [0, 2] rfl)
      · have h := ite_f q h
        refine lv_aload_n (pc := 14) hx hb dX12_areSame_14 rfl (lv_at hl 0 rfl) ?_
        refine s_getR (pc := 15) F w 114 ds_14 (j := 72) vc_X12 vi_X12 rfl (by decide) kf_X12_156 dX12_areSame_15 ?_
        refine lv_aload_n (pc := 18) hx hb dX12_areSame_18 rfl (lv_at hl 0 rfl) ?_
        refine s_getR (pc := 19) F w 115 ds_14 (j := 73) vc_X12 vi_X12 rfl (by decide) kf_X12_159 dX12_areSame_19 ?_
        refine lv_iload_n (pc := 22) hx hb dX12_areSame_22 rfl (lv_at hl 2 rfl) ?_
        obtain ⟨r3, S2, hc, h⟩ := bnd_t h
        refine s_csi (pc := 23) [.ref (ad 114), .ref (ad 115), .int x2] (fun ad => [.ref (ad 114), .ref (ad 115), .int x2]) F w (m_X12_has_Model_startMany_Model_startOn _ _ _ _ hc) rfl rfl hl.1 ok_X12_has rfl kc_X12_has kl_X12_451 ks_X12_has kn_X12 ⟨Nat.le_trans (by decide) hR1, Nat.le_trans (by decide) hR2⟩ ⟨Nat.zero_le _, Nat.zero_le _⟩ (Nat.le_of_ble_eq_true rfl) dX12_areSame_23 (fun H locs w => ?_)
        refine lv_aload_n (pc := 26) hx hb dX12_areSame_26 rfl (lv_at hl 0 rfl) ?_
        refine s_getR (pc := 27) F w 116 ds_14 (j := 74) vc_X12 vi_X12 rfl (by decide) kf_X12_162 dX12_areSame_27 ?_
        refine lv_aload_n (pc := 30) hx hb dX12_areSame_30 rfl (lv_at hl 0 rfl) ?_
        refine s_getR (pc := 31) F w 117 ds_14 (j := 75) vc_X12 vi_X12 rfl (by decide) kf_X12_165 dX12_areSame_31 ?_
        refine lv_iload_n (pc := 34) hx hb dX12_areSame_34 rfl (lv_at hl 2 rfl) ?_
        obtain ⟨r5, S4, hc, h⟩ := bnd_t h
        refine s_csi (pc := 35) [.ref (ad 116), .ref (ad 117), .int x2] (fun ad => [.ref (ad 116), .ref (ad 117), .int x2]) F w (m_X12_has_Model_goalMany_Model_goalOn _ _ _ _ hc) rfl rfl hl.1 ok_X12_has rfl kc_X12_has kl_X12_451 ks_X12_has kn_X12 ⟨Nat.le_trans (by decide) hR1, Nat.le_trans (by decide) hR2⟩ ⟨Nat.zero_le _, Nat.zero_le _⟩ (Nat.le_of_ble_eq_true rfl) dX12_areSame_35 (fun H locs w => ?_)
        refine lv_icmp_ne (pc := 38) (tgt := 45) hx hb dX12_areSame_38 (by decide) (fun q => ?_) (fun q => ?_)
        · have h := ite_f q h
          exact w_X12_areSame_j45 F (Nat.le_trans (by decide) hR1) (Nat.le_trans (by decide) hR2) _ (fun v0 v1 S h => ih v0 v1 S h) _ _ h _ _ _ w (lv_sub hl [0, 2] rfl)
        · have h := ite_t q h
          refine lv_iconst (pc := 41) (v := 1) hx hb dX12_areSame_41 (by decide) ?_
          refine lv_goto (pc := 42) (tgt := 46) hx hb dX12_areSame_42 (by decide) ?_
          exact w_X12_areSame_j46 F (Nat.le_trans (by decide) hR1) (Nat.le_trans (by decide) hR2) _ (fun v0 v1 S h => ih v0 v1 S h) _ _ _ h _ _ _ w (lv_sub hl [0, 2] rfl)
set_option maxRecDepth 100000 in
set_option maxHeartbeats 4000000 in
theorem m_X12_areSame  (S S' : SS) (r : Int32) (h : f_X12_areSame  S = some (r, S')) : MT yX12_areSame cX12_areSame 3 (some .boolean) 1 25 (fun ad => [.ref (ad 14)]) S (some (.int r)) S' := by
  refine MT.of RX12 (fun ad => [(0, .ref (ad 14))]) (by decide) rfl (fun _ => Nat.le_of_ble_eq_true rfl) (fun _ => rfl) ?_
  intro p l e R s m args below meth c dC dI cs ad A hR1 hR2 F H locs ls w hl
  have hx := F.1.1
  have hb := F.1.2.1
  rw [f_X12_areSame] at h
  refine lv_iconst (pc := 0) (v := 1) hx hb dX12_areSame_0 (by decide) ?_
  refine lv_istore_n (pc := 1) (lv' := [(1, .int (1 : Int32)), (0, .ref (ad 14))]) hx hb dX12_areSame_1 rfl hl (by decide) rfl (fun ls hl => ?_)
  refine lv_iconst (pc := 2) (v := 0) hx hb dX12_areSame_2 (by decide) ?_
  refine lv_istore_n (pc := 3) (lv' := [(2, .int (0 : Int32)), (1, .int (1 : Int32)), (0, .ref (ad 14))]) hx hb dX12_areSame_3 rfl hl (by decide) rfl (fun ls hl => ?_)
  exact w_X12_areSame_L4 F (Nat.le_trans (by decide) hR1) (Nat.le_trans (by decide) hR2) _ _ _ _ h _ _ _ w (lv_sub hl [2, 1, 0] rfl)
