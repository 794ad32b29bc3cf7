/-! ===== printed by wip/gen: X12_bar X11_table X12_table X6_addRoute X11_route X12_route X6_routeFinding X6_entriesOf X6_putEntry X6_isBehind X6_addEntry X8_locker X6_lockedBy X6_lockedFinding X6_entryFinding X2_pointFinding X11_via X12_missRoute X12_missPoint X12_isLocking ===== -/
def f_X12_bar_j41  (x1 : Int32) (x2 : Int32) (x3 : Int32) (y0 : Int32) (S : SS) : Option (Int32 × SS) :=
    grd (inb (((10 : Int32) * x1) + x2) 100) (wr S 83 (((10 : Int32) * x1) + x2).toNatClampNeg (vp_nar .boolean x3) (fun S1 =>
    grd (inb (((10 : Int32) * x2) + x1) 100) (wr S1 83 (((10 : Int32) * x2) + x1).toNatClampNeg (vp_nar .boolean x3) (fun S2 =>
    bndv (f_X12_forget  S2) (fun S3 =>
    some (y0, S3))))))
def f_X12_bar (a1 : Int32) (a2 : Int32) (a3 : Int32) (S : SS) : Option (Int32 × SS) :=
  if a1 < 0 then
    some ((-1 : Int32), S)
  else
    if (9 : Int32) < a1 then
      some ((-1 : Int32), S)
    else
      if a2 < 0 then
        some ((-1 : Int32), S)
      else
        if a2 ≤ (9 : Int32) then
          grd (inb (((10 : Int32) * a1) + a2) 100) (
          if (S.1 83 (((10 : Int32) * a1) + a2).toNatClampNeg) = 0 then
            f_X12_bar_j41 a1 a2 a3 (0 : Int32) S
          else
            f_X12_bar_j41 a1 a2 a3 (1 : Int32) S)
        else
          some ((-1 : Int32), S)
theorem dX12_bar_0 : decode cX12_bar 0 = .ok (.iload_n 1, 1) := by decide +kernel
theorem dX12_bar_1 : decode cX12_bar 1 = .ok (.ifCond .lt 19, 3) := by decide +kernel
theorem dX12_bar_4 : decode cX12_bar 4 = .ok (.iload_n 1, 1) := by decide +kernel
theorem dX12_bar_5 : decode cX12_bar 5 = .ok (.bipush 9, 2) := by decide +kernel
theorem dX12_bar_7 : decode cX12_bar 7 = .ok (.if_icmp .gt 13, 3) := by decide +kernel
theorem dX12_bar_10 : decode cX12_bar 10 = .ok (.iload_n 2, 1) := by decide +kernel
theorem dX12_bar_11 : decode cX12_bar 11 = .ok (.ifCond .lt 9, 3) := by decide +kernel
theorem dX12_bar_14 : decode cX12_bar 14 = .ok (.iload_n 2, 1) := by decide +kernel
theorem dX12_bar_15 : decode cX12_bar 15 = .ok (.bipush 9, 2) := by decide +kernel
theorem dX12_bar_17 : decode cX12_bar 17 = .ok (.if_icmp .le 5, 3) := by decide +kernel
theorem dX12_bar_20 : decode cX12_bar 20 = .ok (.iconst (-1), 1) := by decide +kernel
theorem dX12_bar_21 : decode cX12_bar 21 = .ok (.ireturn, 1) := by decide +kernel
theorem dX12_bar_22 : decode cX12_bar 22 = .ok (.aload_n 0, 1) := by decide +kernel
theorem dX12_bar_23 : decode cX12_bar 23 = .ok (.getfield 63, 3) := by decide +kernel
theorem dX12_bar_26 : decode cX12_bar 26 = .ok (.bipush 10, 2) := by decide +kernel
theorem dX12_bar_28 : decode cX12_bar 28 = .ok (.iload_n 1, 1) := by decide +kernel
theorem dX12_bar_29 : decode cX12_bar 29 = .ok (.imul, 1) := by decide +kernel
theorem dX12_bar_30 : decode cX12_bar 30 = .ok (.iload_n 2, 1) := by decide +kernel
theorem dX12_bar_31 : decode cX12_bar 31 = .ok (.iadd, 1) := by decide +kernel
theorem dX12_bar_32 : decode cX12_bar 32 = .ok (.baload, 1) := by decide +kernel
theorem dX12_bar_33 : decode cX12_bar 33 = .ok (.ifCond .eq 7, 3) := by decide +kernel
theorem dX12_bar_36 : decode cX12_bar 36 = .ok (.iconst 1, 1) := by decide +kernel
theorem dX12_bar_37 : decode cX12_bar 37 = .ok (.goto 4, 3) := by decide +kernel
theorem dX12_bar_40 : decode cX12_bar 40 = .ok (.iconst 0, 1) := by decide +kernel
theorem dX12_bar_41 : decode cX12_bar 41 = .ok (.istore 4, 2) := by decide +kernel
theorem dX12_bar_43 : decode cX12_bar 43 = .ok (.aload_n 0, 1) := by decide +kernel
theorem dX12_bar_44 : decode cX12_bar 44 = .ok (.getfield 63, 3) := by decide +kernel
theorem dX12_bar_47 : decode cX12_bar 47 = .ok (.bipush 10, 2) := by decide +kernel
theorem dX12_bar_49 : decode cX12_bar 49 = .ok (.iload_n 1, 1) := by decide +kernel
theorem dX12_bar_50 : decode cX12_bar 50 = .ok (.imul, 1) := by decide +kernel
theorem dX12_bar_51 : decode cX12_bar 51 = .ok (.iload_n 2, 1) := by decide +kernel
theorem dX12_bar_52 : decode cX12_bar 52 = .ok (.iadd, 1) := by decide +kernel
theorem dX12_bar_53 : decode cX12_bar 53 = .ok (.iload_n 3, 1) := by decide +kernel
theorem dX12_bar_54 : decode cX12_bar 54 = .ok (.bastore, 1) := by decide +kernel
theorem dX12_bar_55 : decode cX12_bar 55 = .ok (.aload_n 0, 1) := by decide +kernel
theorem dX12_bar_56 : decode cX12_bar 56 = .ok (.getfield 63, 3) := by decide +kernel
theorem dX12_bar_59 : decode cX12_bar 59 = .ok (.bipush 10, 2) := by decide +kernel
theorem dX12_bar_61 : decode cX12_bar 61 = .ok (.iload_n 2, 1) := by decide +kernel
theorem dX12_bar_62 : decode cX12_bar 62 = .ok (.imul, 1) := by decide +kernel
theorem dX12_bar_63 : decode cX12_bar 63 = .ok (.iload_n 1, 1) := by decide +kernel
theorem dX12_bar_64 : decode cX12_bar 64 = .ok (.iadd, 1) := by decide +kernel
theorem dX12_bar_65 : decode cX12_bar 65 = .ok (.iload_n 3, 1) := by decide +kernel
theorem dX12_bar_66 : decode cX12_bar 66 = .ok (.bastore, 1) := by decide +kernel
theorem dX12_bar_67 : decode cX12_bar 67 = .ok (.aload_n 0, 1) := by decide +kernel
theorem dX12_bar_68 : decode cX12_bar 68 = .ok (.invokevirtual 229, 3) := by decide +kernel
theorem dX12_bar_71 : decode cX12_bar 71 = .ok (.iload 4, 2) := by decide +kernel
theorem dX12_bar_73 : decode cX12_bar 73 = .ok (.ireturn, 1) := by decide +kernel
set_option maxRecDepth 100000 in
set_option maxHeartbeats 4000000 in
theorem w_X12_bar_j41 {p : Program} {l : Launch} {e : Env} {R : Room} {s : State} {m : MethodId} {args : Array Value} {below : List Frame} {meth : Method} {c : Code} {dC : Nat → ClassId} {dI : Nat → Nat → Nat} {cs : Nat → ClassId} {ad : Nat → Nat} {A : Nat → Prop} {D0 : Nat → Nat} {S' : SS} {r : Int32} (F : Fx p s m args meth c cX12_bar 5 RX12 (some .int) dC dI cs A) (hR1 : 1 ≤ R.frames) (hR2 : 20 ≤ R.locals) (x1 : Int32) (x2 : Int32) (x3 : Int32) (y0 : Int32) (S : SS) (h : f_X12_bar_j41 x1 x2 x3 y0 S = some (r, S')) : AW p l e R s m args below meth c dC dI cs ad A D0 (some (.int r)) S' 5 41 [(0, .ref (ad 14)), (1, .int x1), (2, .int x2), (3, .int x3)] [.int y0] S := by
  have hx := F.1.1
  have hb := F.1.2.1
  intro H locs ls w hl
  rw [f_X12_bar_j41] at h
  refine lv_istore (pc := 41) (lv' := [(4, .int y0), (0, .ref (ad 14)), (1, .int x1), (2, .int x2), (3, .int x3)]) hx hb dX12_bar_41 hl (by decide) rfl (fun ls hl => ?_)
  refine lv_aload_n (pc := 43) hx hb dX12_bar_43 rfl (lv_at hl 1 rfl) ?_
  refine s_getR (pc := 44) F w 83 ds_14 (j := 24) vc_X12 vi_X12 rfl (by decide) kf_X12_63 dX12_bar_44 ?_
  refine lv_bipush (pc := 47) (v := 10) hx hb dX12_bar_47 (by decide) ?_
  refine lv_iload_n (pc := 49) hx hb dX12_bar_49 rfl (lv_at hl 2 rfl) ?_
  refine lv_imul (pc := 50) hx hb dX12_bar_50 ?_
  refine lv_iload_n (pc := 51) hx hb dX12_bar_51 rfl (lv_at hl 3 rfl) ?_
  refine lv_iadd (pc := 52) hx hb dX12_bar_52 ?_
  refine lv_iload_n (pc := 53) hx hb dX12_bar_53 rfl (lv_at hl 4 rfl) ?_
  refine s_zast (pc := 54) F w ds_83 h dX12_bar_54 (fun S1 H locs h w => ?_)
  refine lv_aload_n (pc := 55) hx hb dX12_bar_55 rfl (lv_at hl 1 rfl) ?_
  refine s_getR (pc := 56) F w 83 ds_14 (j := 24) vc_X12 vi_X12 rfl (by decide) kf_X12_63 dX12_bar_56 ?_
  refine lv_bipush (pc := 59) (v := 10) hx hb dX12_bar_59 (by decide) ?_
  refine lv_iload_n (pc := 61) hx hb dX12_bar_61 rfl (lv_at hl 3 rfl) ?_
  refine lv_imul (pc := 62) hx hb dX12_bar_62 ?_
  refine lv_iload_n (pc := 63) hx hb dX12_bar_63 rfl (lv_at hl 2 rfl) ?_
  refine lv_iadd (pc := 64) hx hb dX12_bar_64 ?_
  refine lv_iload_n (pc := 65) hx hb dX12_bar_65 rfl (lv_at hl 4 rfl) ?_
  refine s_zast (pc := 66) F w ds_83 h dX12_bar_66 (fun S2 H locs h w => ?_)
  refine lv_aload_n (pc := 67) hx hb dX12_bar_67 rfl (lv_at hl 1 rfl) ?_
  obtain ⟨S3, hc, h⟩ := bndv_t h
  refine s_cvv (pc := 68) [] (fun ad => [.ref (ad 14)]) F w (m_X12_forget  _ _ hc) rfl rfl hl.1 ds_14 vc_X12 rfl ok_X12_forget rfl kc_X12_forget kl_X12_229 ki_X12_forget kv_X12_forget kn_X12 ⟨Nat.le_trans (by decide) hR1, Nat.le_trans (by decide) hR2⟩ ⟨Nat.zero_le _, Nat.zero_le _⟩ (Nat.le_of_ble_eq_true rfl) dX12_bar_68 (fun H locs w => ?_)
  refine lv_iload (pc := 71) hx hb dX12_bar_71 (lv_at hl 0 rfl) ?_
  exact s_iret F w h dX12_bar_73
set_option maxRecDepth 100000 in
set_option maxHeartbeats 4000000 in
theorem m_X12_bar (a1 : Int32) (a2 : Int32) (a3 : Int32) (S S' : SS) (r : Int32) (h : f_X12_bar a1 a2 a3 S = some (r, S')) : MT yX12_bar cX12_bar 5 (some .int) 1 20 (fun ad => [.ref (ad 14), .int a1, .int a2, .int a3]) S (some (.int r)) S' := by
  refine MT.of RX12 (fun ad => [(0, .ref (ad 14)), (1, .int a1), (2, .int a2), (3, .int a3)]) (by decide) rfl (fun _ => Nat.le_of_ble_eq_true rfl) (fun _ => rfl) ?_
  intro p l e R s m args below meth c dC dI cs ad A hR1 hR2 F H locs ls w hl
  have hx := F.1.1
  have hb := F.1.2.1
  rw [f_X12_bar] at h
  refine lv_iload_n (pc := 0) hx hb dX12_bar_0 rfl (lv_at hl 1 rfl) ?_
  refine lv_if_lt (pc := 1) (tgt := 20) hx hb dX12_bar_1 (by decide) (fun q => ?_) (fun q => ?_)
  · have h := ite_t q h
    refine lv_iconst (pc := 20) (v := -1) hx hb dX12_bar_20 (by decide) ?_
    exact s_iret F w h dX12_bar_21
  · have h := ite_f q h
    refine lv_iload_n (pc := 4) hx hb dX12_bar_4 rfl (lv_at hl 1 rfl) ?_
    refine lv_bipush (pc := 5) (v := 9) hx hb dX12_bar_5 (by decide) ?_
    refine lv_icmp_gt (pc := 7) (tgt := 20) hx hb dX12_bar_7 (by decide) (fun q => ?_) (fun q => ?_)
    · have h := ite_t q h
      refine lv_iconst (pc := 20) (v := -1) hx hb dX12_bar_20 (by decide) ?_
      exact s_iret F w h dX12_bar_21
    · have h := ite_f q h
      refine lv_iload_n (pc := 10) hx hb dX12_bar_10 rfl (lv_at hl 2 rfl) ?_
      refine lv_if_lt (pc := 11) (tgt := 20) hx hb dX12_bar_11 (by decide) (fun q => ?_) (fun q => ?_)
      · have h := ite_t q h
        refine lv_iconst (pc := 20) (v := -1) hx hb dX12_bar_20 (by decide) ?_
        exact s_iret F w h dX12_bar_21
      · have h := ite_f q h
        refine lv_iload_n (pc := 14) hx hb dX12_bar_14 rfl (lv_at hl 2 rfl) ?_
        refine lv_bipush (pc := 15) (v := 9) hx hb dX12_bar_15 (by decide) ?_
        refine lv_icmp_le (pc := 17) (tgt := 22) hx hb dX12_bar_17 (by decide) (fun q => ?_) (fun q => ?_)
        · have h := ite_t q h
          refine lv_aload_n (pc := 22) hx hb dX12_bar_22 rfl (lv_at hl 0 rfl) ?_
          refine s_getR (pc := 23) F w 83 ds_14 (j := 24) vc_X12 vi_X12 rfl (by decide) kf_X12_63 dX12_bar_23 ?_
          refine lv_bipush (pc := 26) (v := 10) hx hb dX12_bar_26 (by decide) ?_
          refine lv_iload_n (pc := 28) hx hb dX12_bar_28 rfl (lv_at hl 1 rfl) ?_
          refine lv_imul (pc := 29) hx hb dX12_bar_29 ?_
          refine lv_iload_n (pc := 30) hx hb dX12_bar_30 rfl (lv_at hl 2 rfl) ?_
          refine lv_iadd (pc := 31) hx hb dX12_bar_31 ?_
          refine s_zald (pc := 32) F w ds_83 h dX12_bar_32 (fun h => ?_)
          refine lv_if_eq (pc := 33) (tgt := 40) hx hb dX12_bar_33 (by decide) (fun q => ?_) (fun q => ?_)
          · have h := ite_t q h
            refine lv_iconst (pc := 40) (v := 0) hx hb dX12_bar_40 (by decide) ?_
            exact w_X12_bar_j41 F (Nat.le_trans (by decide) hR1) (Nat.le_trans (by decide) hR2) _ _ _ _ _ h _ _ _ w (lv_sub hl [0, 1, 2, 3] rfl)
          · have h := ite_f q h
            refine lv_iconst (pc := 36) (v := 1) hx hb dX12_bar_36 (by decide) ?_
            refine lv_goto (pc := 37) (tgt := 41) hx hb dX12_bar_37 (by decide) ?_
            exact w_X12_bar_j41 F (Nat.le_trans (by decide) hR1) (Nat.le_trans (by decide) hR2) _ _ _ _ _ h _ _ _ w (lv_sub hl [0, 1, 2, 3] rfl)
        · have h := ite_f q h
          refine lv_iconst (pc := 20) (v := -1) hx hb dX12_bar_20 (by decide) ?_
          exact s_iret F w h dX12_bar_21
def f_X11_table (a1 : Int32) (a2 : Int32) (S : SS) : Option (Int32 × SS) :=
  bnd (f_X11_isNot a1 (0 : Int32) (7 : Int32) S) (fun r2 S1 =>
  if r2 = 0 then
    bnd (f_X11_isNot a2 (0 : Int32) (99 : Int32) S1) (fun r4 S3 =>
    if r4 = 0 then
      bndv (f_X1_forget  S3) (fun S5 =>
      grd (inb a1 8) (
      nm (S5.1 15 a1.toNatClampNeg) (fun z6 =>
      grd (inb a1 8) (wr S5 15 a1.toNatClampNeg a2 (fun S7 =>
      some (z6, S7))))))
    else
      some ((-1 : Int32), S3))
  else
    some ((-1 : Int32), S1))
theorem dX11_table_0 : decode cX11_table 0 = .ok (.iload_n 1, 1) := by decide +kernel
theorem dX11_table_1 : decode cX11_table 1 = .ok (.iconst 0, 1) := by decide +kernel
theorem dX11_table_2 : decode cX11_table 2 = .ok (.bipush 7, 2) := by decide +kernel
theorem dX11_table_4 : decode cX11_table 4 = .ok (.invokestatic 108, 3) := by decide +kernel
theorem dX11_table_7 : decode cX11_table 7 = .ok (.ifCond .ne 13, 3) := by decide +kernel
theorem dX11_table_10 : decode cX11_table 10 = .ok (.iload_n 2, 1) := by decide +kernel
theorem dX11_table_11 : decode cX11_table 11 = .ok (.iconst 0, 1) := by decide +kernel
theorem dX11_table_12 : decode cX11_table 12 = .ok (.bipush 99, 2) := by decide +kernel
theorem dX11_table_14 : decode cX11_table 14 = .ok (.invokestatic 108, 3) := by decide +kernel
theorem dX11_table_17 : decode cX11_table 17 = .ok (.ifCond .eq 5, 3) := by decide +kernel
theorem dX11_table_20 : decode cX11_table 20 = .ok (.iconst (-1), 1) := by decide +kernel
theorem dX11_table_21 : decode cX11_table 21 = .ok (.ireturn, 1) := by decide +kernel
theorem dX11_table_22 : decode cX11_table 22 = .ok (.aload_n 0, 1) := by decide +kernel
theorem dX11_table_23 : decode cX11_table 23 = .ok (.getfield 26, 3) := by decide +kernel
theorem dX11_table_26 : decode cX11_table 26 = .ok (.invokevirtual 102, 3) := by decide +kernel
theorem dX11_table_29 : decode cX11_table 29 = .ok (.aload_n 0, 1) := by decide +kernel
theorem dX11_table_30 : decode cX11_table 30 = .ok (.getfield 78, 3) := by decide +kernel
theorem dX11_table_33 : decode cX11_table 33 = .ok (.iload_n 1, 1) := by decide +kernel
theorem dX11_table_34 : decode cX11_table 34 = .ok (.iaload, 1) := by decide +kernel
theorem dX11_table_35 : decode cX11_table 35 = .ok (.istore_n 3, 1) := by decide +kernel
theorem dX11_table_36 : decode cX11_table 36 = .ok (.aload_n 0, 1) := by decide +kernel
theorem dX11_table_37 : decode cX11_table 37 = .ok (.getfield 78, 3) := by decide +kernel
theorem dX11_table_40 : decode cX11_table 40 = .ok (.iload_n 1, 1) := by decide +kernel
theorem dX11_table_41 : decode cX11_table 41 = .ok (.iload_n 2, 1) := by decide +kernel
theorem dX11_table_42 : decode cX11_table 42 = .ok (.iastore, 1) := by decide +kernel
theorem dX11_table_43 : decode cX11_table 43 = .ok (.iload_n 3, 1) := by decide +kernel
theorem dX11_table_44 : decode cX11_table 44 = .ok (.ireturn, 1) := by decide +kernel
set_option maxRecDepth 100000 in
set_option maxHeartbeats 4000000 in
theorem m_X11_table (a1 : Int32) (a2 : Int32) (S S' : SS) (r : Int32) (h : f_X11_table a1 a2 S = some (r, S')) : MT yX11_table cX11_table 4 (some .int) 1 22 (fun ad => [.ref (ad 0), .int a1, .int a2]) S (some (.int r)) S' := by
  refine MT.of RX11 (fun ad => [(0, .ref (ad 0)), (1, .int a1), (2, .int a2)]) (by decide) rfl (fun _ => Nat.le_of_ble_eq_true rfl) (fun _ => rfl) ?_
  intro p l e R s m args below meth c dC dI cs ad A hR1 hR2 F H locs ls w hl
  have hx := F.1.1
  have hb := F.1.2.1
  rw [f_X11_table] at h
  refine lv_iload_n (pc := 0) hx hb dX11_table_0 rfl (lv_at hl 1 rfl) ?_
  refine lv_iconst (pc := 1) (v := 0) hx hb dX11_table_1 (by decide) ?_
  refine lv_bipush (pc := 2) (v := 7) hx hb dX11_table_2 (by decide) ?_
  obtain ⟨r2, S1, hc, h⟩ := bnd_t h
  refine s_csi (pc := 4) [.int a1, .int (0 : Int32), .int (7 : Int32)] (fun ad => [.int a1, .int (0 : Int32), .int (7 : Int32)]) F w (m_X11_isNot _ _ _ _ _ _ hc) rfl rfl hl.1 ok_X11_isNot rfl kc_X11_isNot kl_X11_108 ks_X11_isNot kn_X11 ⟨Nat.le_trans (by decide) hR1, Nat.le_trans (by decide) hR2⟩ ⟨Nat.zero_le _, Nat.zero_le _⟩ (Nat.le_of_ble_eq_true rfl) dX11_table_4 (fun H locs w => ?_)
  refine lv_if_ne (pc := 7) (tgt := 20) hx hb dX11_table_7 (by decide) (fun q => ?_) (fun q => ?_)
  · have h := ite_f q h
    refine lv_iconst (pc := 20) (v := -1) hx hb dX11_table_20 (by decide) ?_
    exact s_iret F w h dX11_table_21
  · have h := ite_t q h
    refine lv_iload_n (pc := 10) hx hb dX11_table_10 rfl (lv_at hl 2 rfl) ?_
    refine lv_iconst (pc := 11) (v := 0) hx hb dX11_table_11 (by decide) ?_
    refine lv_bipush (pc := 12) (v := 99) hx hb dX11_table_12 (by decide) ?_
    obtain ⟨r4, S3, hc, h⟩ := bnd_t h
    refine s_csi (pc := 14) [.int a2, .int (0 : Int32), .int (99 : Int32)] (fun ad => [.int a2, .int (0 : Int32), .int (99 : Int32)]) F w (m_X11_isNot _ _ _ _ _ _ hc) rfl rfl hl.1 ok_X11_isNot rfl kc_X11_isNot kl_X11_108 ks_X11_isNot kn_X11 ⟨Nat.le_trans (by decide) hR1, Nat.le_trans (by decide) hR2⟩ ⟨Nat.zero_le _, Nat.zero_le _⟩ (Nat.le_of_ble_eq_true rfl) dX11_table_14 (fun H locs w => ?_)
    refine lv_if_eq (pc := 17) (tgt := 22) hx hb dX11_table_17 (by decide) (fun q => ?_) (fun q => ?_)
    · have h := ite_t q h
      refine lv_aload_n (pc := 22) hx hb dX11_table_22 rfl (lv_at hl 0 rfl) ?_
      refine s_getR (pc := 23) F w 3 ds_0 (j := 2) vc_X11 vi_X11 rfl (by decide) kf_X11_26 dX11_table_23 ?_
      obtain ⟨S5, hc, h⟩ := bndv_t h
      refine s_cvv (pc := 26) [] (fun ad => [.ref (ad 3)]) F w (m_X1_forget  _ _ hc) rfl rfl hl.1 ds_3 vc_X1 rfl ok_X1_forget rfl kc_X1_forget kl_X11_102 ki_X1_forget kv_X1_forget kn_X1 ⟨Nat.le_trans (by decide) hR1, Nat.le_trans (by decide) hR2⟩ ⟨Nat.zero_le _, Nat.zero_le _⟩ (Nat.le_of_ble_eq_true rfl) dX11_table_26 (fun H locs w => ?_)
      refine lv_aload_n (pc := 29) hx hb dX11_table_29 rfl (lv_at hl 0 rfl) ?_
      refine s_getR (pc := 30) F w 15 ds_0 (j := 9) vc_X11 vi_X11 rfl (by decide) kf_X11_78 dX11_table_30 ?_
      refine lv_iload_n (pc := 33) hx hb dX11_table_33 rfl (lv_at hl 1 rfl) ?_
      refine s_iald (pc := 34) F w ds_15 h dX11_table_34 (fun h => ?_)
      refine s_nm h (fun z6 ez6 h => ?_)
      rw [← ez6]
      refine lv_istore_n (pc := 35) (lv' := [(3, .int z6), (0, .ref (ad 0)), (1, .int a1), (2, .int a2)]) hx hb dX11_table_35 rfl hl (by decide) rfl (fun ls hl => ?_)
      refine lv_aload_n (pc := 36) hx hb dX11_table_36 rfl (lv_at hl 1 rfl) ?_
      refine s_getR (pc := 37) F w 15 ds_0 (j := 9) vc_X11 vi_X11 rfl (by decide) kf_X11_78 dX11_table_37 ?_
      refine lv_iload_n (pc := 40) hx hb dX11_table_40 rfl (lv_at hl 2 rfl) ?_
      refine lv_iload_n (pc := 41) hx hb dX11_table_41 rfl (lv_at hl 3 rfl) ?_
      refine s_iast (pc := 42) F w ds_15 h dX11_table_42 (fun S7 H locs h w => ?_)
      refine lv_iload_n (pc := 43) hx hb dX11_table_43 rfl (lv_at hl 0 rfl) ?_
      exact s_iret F w h dX11_table_44
    · have h := ite_f q h
      refine lv_iconst (pc := 20) (v := -1) hx hb dX11_table_20 (by decide) ?_
      exact s_iret F w h dX11_table_21
def f_X12_table (a1 : Int32) (a2 : Int32) (S : SS) : Option (Int32 × SS) :=
  if a1 < 0 then
    some ((-1 : Int32), S)
  else
    if (7 : Int32) < a1 then
      some ((-1 : Int32), S)
    else
      if a2 < 0 then
        some ((-1 : Int32), S)
      else
        if a2 ≤ (99 : Int32) then
          grd (inb a1 8) (
          nm (S.1 84 a1.toNatClampNeg) (fun z1 =>
          grd (inb a1 8) (wr S 84 a1.toNatClampNeg a2 (fun S2 =>
          bndv (f_X12_forget  S2) (fun S3 =>
          some (z1, S3))))))
        else
          some ((-1 : Int32), S)
theorem dX12_table_0 : decode cX12_table 0 = .ok (.iload_n 1, 1) := by decide +kernel
theorem dX12_table_1 : decode cX12_table 1 = .ok (.ifCond .lt 19, 3) := by decide +kernel
theorem dX12_table_4 : decode cX12_table 4 = .ok (.iload_n 1, 1) := by decide +kernel
theorem dX12_table_5 : decode cX12_table 5 = .ok (.bipush 7, 2) := by decide +kernel
theorem dX12_table_7 : decode cX12_table 7 = .ok (.if_icmp .gt 13, 3) := by decide +kernel
theorem dX12_table_10 : decode cX12_table 10 = .ok (.iload_n 2, 1) := by decide +kernel
theorem dX12_table_11 : decode cX12_table 11 = .ok (.ifCond .lt 9, 3) := by decide +kernel
theorem dX12_table_14 : decode cX12_table 14 = .ok (.iload_n 2, 1) := by decide +kernel
theorem dX12_table_15 : decode cX12_table 15 = .ok (.bipush 99, 2) := by decide +kernel
theorem dX12_table_17 : decode cX12_table 17 = .ok (.if_icmp .le 5, 3) := by decide +kernel
theorem dX12_table_20 : decode cX12_table 20 = .ok (.iconst (-1), 1) := by decide +kernel
theorem dX12_table_21 : decode cX12_table 21 = .ok (.ireturn, 1) := by decide +kernel
theorem dX12_table_22 : decode cX12_table 22 = .ok (.aload_n 0, 1) := by decide +kernel
theorem dX12_table_23 : decode cX12_table 23 = .ok (.getfield 66, 3) := by decide +kernel
theorem dX12_table_26 : decode cX12_table 26 = .ok (.iload_n 1, 1) := by decide +kernel
theorem dX12_table_27 : decode cX12_table 27 = .ok (.iaload, 1) := by decide +kernel
theorem dX12_table_28 : decode cX12_table 28 = .ok (.istore_n 3, 1) := by decide +kernel
theorem dX12_table_29 : decode cX12_table 29 = .ok (.aload_n 0, 1) := by decide +kernel
theorem dX12_table_30 : decode cX12_table 30 = .ok (.getfield 66, 3) := by decide +kernel
theorem dX12_table_33 : decode cX12_table 33 = .ok (.iload_n 1, 1) := by decide +kernel
theorem dX12_table_34 : decode cX12_table 34 = .ok (.iload_n 2, 1) := by decide +kernel
theorem dX12_table_35 : decode cX12_table 35 = .ok (.iastore, 1) := by decide +kernel
theorem dX12_table_36 : decode cX12_table 36 = .ok (.aload_n 0, 1) := by decide +kernel
theorem dX12_table_37 : decode cX12_table 37 = .ok (.invokevirtual 229, 3) := by decide +kernel
theorem dX12_table_40 : decode cX12_table 40 = .ok (.iload_n 3, 1) := by decide +kernel
theorem dX12_table_41 : decode cX12_table 41 = .ok (.ireturn, 1) := by decide +kernel
set_option maxRecDepth 100000 in
set_option maxHeartbeats 4000000 in
theorem m_X12_table (a1 : Int32) (a2 : Int32) (S S' : SS) (r : Int32) (h : f_X12_table a1 a2 S = some (r, S')) : MT yX12_table cX12_table 4 (some .int) 1 20 (fun ad => [.ref (ad 14), .int a1, .int a2]) S (some (.int r)) S' := by
  refine MT.of RX12 (fun ad => [(0, .ref (ad 14)), (1, .int a1), (2, .int a2)]) (by decide) rfl (fun _ => Nat.le_of_ble_eq_true rfl) (fun _ => rfl) ?_
  intro p l e R s m args below meth c dC dI cs ad A hR1 hR2 F H locs ls w hl
  have hx := F.1.1
  have hb := F.1.2.1
  rw [f_X12_table] at h
  refine lv_iload_n (pc := 0) hx hb dX12_table_0 rfl (lv_at hl 1 rfl) ?_
  refine lv_if_lt (pc := 1) (tgt := 20) hx hb dX12_table_1 (by decide) (fun q => ?_) (fun q => ?_)
  · have h := ite_t q h
    refine lv_iconst (pc := 20) (v := -1) hx hb dX12_table_20 (by decide) ?_
    exact s_iret F w h dX12_table_21
  · have h := ite_f q h
    refine lv_iload_n (pc := 4) hx hb dX12_table_4 rfl (lv_at hl 1 rfl) ?_
    refine lv_bipush (pc := 5) (v := 7) hx hb dX12_table_5 (by decide) ?_
    refine lv_icmp_gt (pc := 7) (tgt := 20) hx hb dX12_table_7 (by decide) (fun q => ?_) (fun q => ?_)
    · have h := ite_t q h
      refine lv_iconst (pc := 20) (v := -1) hx hb dX12_table_20 (by decide) ?_
      exact s_iret F w h dX12_table_21
    · have h := ite_f q h
      refine lv_iload_n (pc := 10) hx hb dX12_table_10 rfl (lv_at hl 2 rfl) ?_
      refine lv_if_lt (pc := 11) (tgt := 20) hx hb dX12_table_11 (by decide) (fun q => ?_) (fun q => ?_)
      · have h := ite_t q h
        refine lv_iconst (pc := 20) (v := -1) hx hb dX12_table_20 (by decide) ?_
        exact s_iret F w h dX12_table_21
      · have h := ite_f q h
        refine lv_iload_n (pc := 14) hx hb dX12_table_14 rfl (lv_at hl 2 rfl) ?_
        refine lv_bipush (pc := 15) (v := 99) hx hb dX12_table_15 (by decide) ?_
        refine lv_icmp_le (pc := 17) (tgt := 22) hx hb dX12_table_17 (by decide) (fun q => ?_) (fun q => ?_)
        · have h := ite_t q h
          refine lv_aload_n (pc := 22) hx hb dX12_table_22 rfl (lv_at hl 0 rfl) ?_
          refine s_getR (pc := 23) F w 84 ds_14 (j := 25) vc_X12 vi_X12 rfl (by decide) kf_X12_66 dX12_table_23 ?_
          refine lv_iload_n (pc := 26) hx hb dX12_table_26 rfl (lv_at hl 1 rfl) ?_
          refine s_iald (pc := 27) F w ds_84 h dX12_table_27 (fun h => ?_)
          refine s_nm h (fun z1 ez1 h => ?_)
          rw [← ez1]
          refine lv_istore_n (pc := 28) (lv' := [(3, .int z1), (0, .ref (ad 14)), (1, .int a1), (2, .int a2)]) hx hb dX12_table_28 rfl hl (by decide) rfl (fun ls hl => ?_)
          refine lv_aload_n (pc := 29) hx hb dX12_table_29 rfl (lv_at hl 1 rfl) ?_
          refine s_getR (pc := 30) F w 84 ds_14 (j := 25) vc_X12 vi_X12 rfl (by decide) kf_X12_66 dX12_table_30 ?_
          refine lv_iload_n (pc := 33) hx hb dX12_table_33 rfl (lv_at hl 2 rfl) ?_
          refine lv_iload_n (pc := 34) hx hb dX12_table_34 rfl (lv_at hl 3 rfl) ?_
          refine s_iast (pc := 35) F w ds_84 h dX12_table_35 (fun S2 H locs h w => ?_)
          refine lv_aload_n (pc := 36) hx hb dX12_table_36 rfl (lv_at hl 1 rfl) ?_
          obtain ⟨S3, hc, h⟩ := bndv_t h
          refine s_cvv (pc := 37) [] (fun ad => [.ref (ad 14)]) F w (m_X12_forget  _ _ hc) rfl rfl hl.1 ds_14 vc_X12 rfl ok_X12_forget rfl kc_X12_forget kl_X12_229 ki_X12_forget kv_X12_forget kn_X12 ⟨Nat.le_trans (by decide) hR1, Nat.le_trans (by decide) hR2⟩ ⟨Nat.zero_le _, Nat.zero_le _⟩ (Nat.le_of_ble_eq_true rfl) dX12_table_37 (fun H locs w => ?_)
          refine lv_iload_n (pc := 40) hx hb dX12_table_40 rfl (lv_at hl 0 rfl) ?_
          exact s_iret F w h dX12_table_41
        · have h := ite_f q h
          refine lv_iconst (pc := 20) (v := -1) hx hb dX12_table_20 (by decide) ?_
          exact s_iret F w h dX12_table_21
def f_X6_addRoute  (S : SS) : Option (Int32 × SS) :=
  if (S.1 6 8) < (12 : Int32) then
    wr S 6 8 ((S.1 6 8) + (1 : Int32)) (fun S1 =>
    some ((S1.1 6 8) - (1 : Int32), S1))
  else
    some ((-3 : Int32), S)
theorem dX6_addRoute_0 : decode cX6_addRoute 0 = .ok (.aload_n 0, 1) := by decide +kernel
theorem dX6_addRoute_1 : decode cX6_addRoute 1 = .ok (.getfield 27, 3) := by decide +kernel
theorem dX6_addRoute_4 : decode cX6_addRoute 4 = .ok (.bipush 12, 2) := by decide +kernel
theorem dX6_addRoute_6 : decode cX6_addRoute 6 = .ok (.if_icmp .lt 6, 3) := by decide +kernel
theorem dX6_addRoute_9 : decode cX6_addRoute 9 = .ok (.bipush (-3), 2) := by decide +kernel
theorem dX6_addRoute_11 : decode cX6_addRoute 11 = .ok (.ireturn, 1) := by decide +kernel
theorem dX6_addRoute_12 : decode cX6_addRoute 12 = .ok (.aload_n 0, 1) := by decide +kernel
theorem dX6_addRoute_13 : decode cX6_addRoute 13 = .ok (.dup, 1) := by decide +kernel
theorem dX6_addRoute_14 : decode cX6_addRoute 14 = .ok (.getfield 27, 3) := by decide +kernel
theorem dX6_addRoute_17 : decode cX6_addRoute 17 = .ok (.iconst 1, 1) := by decide +kernel
theorem dX6_addRoute_18 : decode cX6_addRoute 18 = .ok (.iadd, 1) := by decide +kernel
theorem dX6_addRoute_19 : decode cX6_addRoute 19 = .ok (.putfield 27, 3) := by decide +kernel
theorem dX6_addRoute_22 : decode cX6_addRoute 22 = .ok (.aload_n 0, 1) := by decide +kernel
theorem dX6_addRoute_23 : decode cX6_addRoute 23 = .ok (.getfield 27, 3) := by decide +kernel
theorem dX6_addRoute_26 : decode cX6_addRoute 26 = .ok (.iconst 1, 1) := by decide +kernel
theorem dX6_addRoute_27 : decode cX6_addRoute 27 = .ok (.isub, 1) := by decide +kernel
theorem dX6_addRoute_28 : decode cX6_addRoute 28 = .ok (.ireturn, 1) := by decide +kernel
set_option maxRecDepth 100000 in
set_option maxHeartbeats 4000000 in
theorem m_X6_addRoute  (S S' : SS) (r : Int32) (h : f_X6_addRoute  S = some (r, S')) : MT yX6_addRoute cX6_addRoute 1 (some .int) 0 0 (fun ad => [.ref (ad 6)]) S (some (.int r)) S' := by
  refine MT.of RX6 (fun ad => [(0, .ref (ad 6))]) (by decide) rfl (fun _ => Nat.le_of_ble_eq_true rfl) (fun _ => rfl) ?_
  intro p l e R s m args below meth c dC dI cs ad A hR1 hR2 F H locs ls w hl
  have hx := F.1.1
  have hb := F.1.2.1
  rw [f_X6_addRoute] at h
  refine lv_aload_n (pc := 0) hx hb dX6_addRoute_0 rfl (lv_at hl 0 rfl) ?_
  refine s_getI (pc := 1) F w ds_6 (j := 8) vc_X6 vi_X6 rfl (by decide) kf_X6_27 dX6_addRoute_1 ?_
  refine lv_bipush (pc := 4) (v := 12) hx hb dX6_addRoute_4 (by decide) ?_
  refine lv_icmp_lt (pc := 6) (tgt := 12) hx hb dX6_addRoute_6 (by decide) (fun q => ?_) (fun q => ?_)
  · have h := ite_t q h
    refine lv_aload_n (pc := 12) hx hb dX6_addRoute_12 rfl (lv_at hl 0 rfl) ?_
    refine lv_dup (pc := 13) hx hb dX6_addRoute_13 rfl ?_
    refine s_getI (pc := 14) F w ds_6 (j := 8) vc_X6 vi_X6 rfl (by decide) kf_X6_27 dX6_addRoute_14 ?_
    refine lv_iconst (pc := 17) (v := 1) hx hb dX6_addRoute_17 (by decide) ?_
    refine lv_iadd (pc := 18) hx hb dX6_addRoute_18 ?_
    refine s_putI (pc := 19) F w ds_6 vc_X6 vi_X6 tyX6_ok nmX6 (j := 8) rfl (by decide) kf_X6_27 rfl pd_I h dX6_addRoute_19 (fun S1 H locs h w => ?_)
    refine lv_aload_n (pc := 22) hx hb dX6_addRoute_22 rfl (lv_at hl 0 rfl) ?_
    refine s_getI (pc := 23) F w ds_6 (j := 8) vc_X6 vi_X6 rfl (by decide) kf_X6_27 dX6_addRoute_23 ?_
    refine lv_iconst (pc := 26) (v := 1) hx hb dX6_addRoute_26 (by decide) ?_
    refine lv_isub (pc := 27) hx hb dX6_addRoute_27 ?_
    exact s_iret F w h dX6_addRoute_28
  · have h := ite_f q h
    refine lv_bipush (pc := 9) (v := -3) hx hb dX6_addRoute_9 (by decide) ?_
    exact s_iret F w h dX6_addRoute_11
def f_X11_route  (S : SS) : Option (Int32 × SS) :=
  if (S.1 6 8) < (12 : Int32) then
    bndv (f_X1_forget  S) (fun S1 =>
    bnd (f_X6_addRoute  S1) (fun r3 S2 =>
    some (r3, S2)))
  else
    some ((-3 : Int32), S)
theorem dX11_route_0 : decode cX11_route 0 = .ok (.aload_n 0, 1) := by decide +kernel
theorem dX11_route_1 : decode cX11_route 1 = .ok (.getfield 51, 3) := by decide +kernel
theorem dX11_route_4 : decode cX11_route 4 = .ok (.getfield 168, 3) := by decide +kernel
theorem dX11_route_7 : decode cX11_route 7 = .ok (.bipush 12, 2) := by decide +kernel
theorem dX11_route_9 : decode cX11_route 9 = .ok (.if_icmp .lt 6, 3) := by decide +kernel
theorem dX11_route_12 : decode cX11_route 12 = .ok (.bipush (-3), 2) := by decide +kernel
theorem dX11_route_14 : decode cX11_route 14 = .ok (.ireturn, 1) := by decide +kernel
theorem dX11_route_15 : decode cX11_route 15 = .ok (.aload_n 0, 1) := by decide +kernel
theorem dX11_route_16 : decode cX11_route 16 = .ok (.getfield 26, 3) := by decide +kernel
theorem dX11_route_19 : decode cX11_route 19 = .ok (.invokevirtual 102, 3) := by decide +kernel
theorem dX11_route_22 : decode cX11_route 22 = .ok (.aload_n 0, 1) := by decide +kernel
theorem dX11_route_23 : decode cX11_route 23 = .ok (.getfield 51, 3) := by decide +kernel
theorem dX11_route_26 : decode cX11_route 26 = .ok (.invokevirtual 169, 3) := by decide +kernel
theorem dX11_route_29 : decode cX11_route 29 = .ok (.ireturn, 1) := by decide +kernel
set_option maxRecDepth 100000 in
set_option maxHeartbeats 4000000 in
theorem m_X11_route  (S S' : SS) (r : Int32) (h : f_X11_route  S = some (r, S')) : MT yX11_route cX11_route 1 (some .int) 1 20 (fun ad => [.ref (ad 0)]) S (some (.int r)) S' := by
  refine MT.of RX11 (fun ad => [(0, .ref (ad 0))]) (by decide) rfl (fun _ => Nat.le_of_ble_eq_true rfl) (fun _ => rfl) ?_
  intro p l e R s m args below meth c dC dI cs ad A hR1 hR2 F H locs ls w hl
  have hx := F.1.1
  have hb := F.1.2.1
  rw [f_X11_route] at h
  refine lv_aload_n (pc := 0) hx hb dX11_route_0 rfl (lv_at hl 0 rfl) ?_
  refine s_getR (pc := 1) F w 6 ds_0 (j := 5) vc_X11 vi_X11 rfl (by decide) kf_X11_51 dX11_route_1 ?_
  refine s_getI (pc := 4) F w ds_6 (j := 8) vc_X6 vi_X6 rfl (by decide) kf_X11_168 dX11_route_4 ?_
  refine lv_bipush (pc := 7) (v := 12) hx hb dX11_route_7 (by decide) ?_
  refine lv_icmp_lt (pc := 9) (tgt := 15) hx hb dX11_route_9 (by decide) (fun q => ?_) (fun q => ?_)
  · have h := ite_t q h
    refine lv_aload_n (pc := 15) hx hb dX11_route_15 rfl (lv_at hl 0 rfl) ?_
    refine s_getR (pc := 16) F w 3 ds_0 (j := 2) vc_X11 vi_X11 rfl (by decide) kf_X11_26 dX11_route_16 ?_
    obtain ⟨S1, hc, h⟩ := bndv_t h
    refine s_cvv (pc := 19) [] (fun ad => [.ref (ad 3)]) F w (m_X1_forget  _ _ hc) rfl rfl hl.1 ds_3 vc_X1 rfl ok_X1_forget rfl kc_X1_forget kl_X11_102 ki_X1_forget kv_X1_forget kn_X1 ⟨Nat.le_trans (by decide) hR1, Nat.le_trans (by decide) hR2⟩ ⟨Nat.zero_le _, Nat.zero_le _⟩ (Nat.le_of_ble_eq_true rfl) dX11_route_19 (fun H locs w => ?_)
    refine lv_aload_n (pc := 22) hx hb dX11_route_22 rfl (lv_at hl 0 rfl) ?_
    refine s_getR (pc := 23) F w 6 ds_0 (j := 5) vc_X11 vi_X11 rfl (by decide) kf_X11_51 dX11_route_23 ?_
    obtain ⟨r3, S2, hc, h⟩ := bnd_t h
    refine s_cvi (pc := 26) [] (fun ad => [.ref (ad 6)]) F w (m_X6_addRoute  _ _ _ hc) rfl rfl hl.1 ds_6 vc_X6 rfl ok_X6_addRoute rfl kc_X6_addRoute kl_X11_169 ki_X6_addRoute kv_X6_addRoute kn_X6 ⟨Nat.le_trans (by decide) hR1, Nat.le_trans (by decide) hR2⟩ ⟨Nat.zero_le _, Nat.zero_le _⟩ (Nat.le_of_ble_eq_true rfl) dX11_route_26 (fun H locs w => ?_)
    exact s_iret F w h dX11_route_29
  · have h := ite_f q h
    refine lv_bipush (pc := 12) (v := -3) hx hb dX11_route_12 (by decide) ?_
    exact s_iret F w h dX11_route_14
def f_X12_route  (S : SS) : Option (Int32 × SS) :=
  if (S.1 14 19) = (12 : Int32) then
    some ((-3 : Int32), S)
  else
    grd (inb (S.1 14 19) 12) (wr S 79 (S.1 14 19).toNatClampNeg (0 : Int32) (fun S1 =>
    wr S1 14 19 ((S1.1 14 19) + (1 : Int32)) (fun S2 =>
    bndv (f_X12_forget  S2) (fun S3 =>
    some ((S3.1 14 19) - (1 : Int32), S3)))))
theorem dX12_route_0 : decode cX12_route 0 = .ok (.aload_n 0, 1) := by decide +kernel
theorem dX12_route_1 : decode cX12_route 1 = .ok (.getfield 220, 3) := by decide +kernel
theorem dX12_route_4 : decode cX12_route 4 = .ok (.bipush 12, 2) := by decide +kernel
theorem dX12_route_6 : decode cX12_route 6 = .ok (.if_icmp .ne 6, 3) := by decide +kernel
theorem dX12_route_9 : decode cX12_route 9 = .ok (.bipush (-3), 2) := by decide +kernel
theorem dX12_route_11 : decode cX12_route 11 = .ok (.ireturn, 1) := by decide +kernel
theorem dX12_route_12 : decode cX12_route 12 = .ok (.aload_n 0, 1) := by decide +kernel
theorem dX12_route_13 : decode cX12_route 13 = .ok (.getfield 51, 3) := by decide +kernel
theorem dX12_route_16 : decode cX12_route 16 = .ok (.aload_n 0, 1) := by decide +kernel
theorem dX12_route_17 : decode cX12_route 17 = .ok (.getfield 220, 3) := by decide +kernel
theorem dX12_route_20 : decode cX12_route 20 = .ok (.iconst 0, 1) := by decide +kernel
theorem dX12_route_21 : decode cX12_route 21 = .ok (.iastore, 1) := by decide +kernel
theorem dX12_route_22 : decode cX12_route 22 = .ok (.aload_n 0, 1) := by decide +kernel
theorem dX12_route_23 : decode cX12_route 23 = .ok (.dup, 1) := by decide +kernel
theorem dX12_route_24 : decode cX12_route 24 = .ok (.getfield 220, 3) := by decide +kernel
theorem dX12_route_27 : decode cX12_route 27 = .ok (.iconst 1, 1) := by decide +kernel
theorem dX12_route_28 : decode cX12_route 28 = .ok (.iadd, 1) := by decide +kernel
theorem dX12_route_29 : decode cX12_route 29 = .ok (.putfield 220, 3) := by decide +kernel
theorem dX12_route_32 : decode cX12_route 32 = .ok (.aload_n 0, 1) := by decide +kernel
theorem dX12_route_33 : decode cX12_route 33 = .ok (.invokevirtual 229, 3) := by decide +kernel
theorem dX12_route_36 : decode cX12_route 36 = .ok (.aload_n 0, 1) := by decide +kernel
theorem dX12_route_37 : decode cX12_route 37 = .ok (.getfield 220, 3) := by decide +kernel
theorem dX12_route_40 : decode cX12_route 40 = .ok (.iconst 1, 1) := by decide +kernel
theorem dX12_route_41 : decode cX12_route 41 = .ok (.isub, 1) := by decide +kernel
theorem dX12_route_42 : decode cX12_route 42 = .ok (.ireturn, 1) := by decide +kernel
set_option maxRecDepth 100000 in
set_option maxHeartbeats 4000000 in
theorem m_X12_route  (S S' : SS) (r : Int32) (h : f_X12_route  S = some (r, S')) : MT yX12_route cX12_route 1 (some .int) 1 20 (fun ad => [.ref (ad 14)]) S (some (.int r)) S' := by
  refine MT.of RX12 (fun ad => [(0, .ref (ad 14))]) (by decide) rfl (fun _ => Nat.le_of_ble_eq_true rfl) (fun _ => rfl) ?_
  intro p l e R s m args below meth c dC dI cs ad A hR1 hR2 F H locs ls w hl
  have hx := F.1.1
  have hb := F.1.2.1
  rw [f_X12_route] at h
  refine lv_aload_n (pc := 0) hx hb dX12_route_0 rfl (lv_at hl 0 rfl) ?_
  refine s_getI (pc := 1) F w ds_14 (j := 19) vc_X12 vi_X12 rfl (by decide) kf_X12_220 dX12_route_1 ?_
  refine lv_bipush (pc := 4) (v := 12) hx hb dX12_route_4 (by decide) ?_
  refine lv_icmp_ne (pc := 6) (tgt := 12) hx hb dX12_route_6 (by decide) (fun q => ?_) (fun q => ?_)
  · have h := ite_f q h
    refine lv_aload_n (pc := 12) hx hb dX12_route_12 rfl (lv_at hl 0 rfl) ?_
    refine s_getR (pc := 13) F w 79 ds_14 (j := 20) vc_X12 vi_X12 rfl (by decide) kf_X12_51 dX12_route_13 ?_
    refine lv_aload_n (pc := 16) hx hb dX12_route_16 rfl (lv_at hl 0 rfl) ?_
    refine s_getI (pc := 17) F w ds_14 (j := 19) vc_X12 vi_X12 rfl (by decide) kf_X12_220 dX12_route_17 ?_
    refine lv_iconst (pc := 20) (v := 0) hx hb dX12_route_20 (by decide) ?_
    refine s_iast (pc := 21) F w ds_79 h dX12_route_21 (fun S1 H locs h w => ?_)
    refine lv_aload_n (pc := 22) hx hb dX12_route_22 rfl (lv_at hl 0 rfl) ?_
    refine lv_dup (pc := 23) hx hb dX12_route_23 rfl ?_
    refine s_getI (pc := 24) F w ds_14 (j := 19) vc_X12 vi_X12 rfl (by decide) kf_X12_220 dX12_route_24 ?_
    refine lv_iconst (pc := 27) (v := 1) hx hb dX12_route_27 (by decide) ?_
    refine lv_iadd (pc := 28) hx hb dX12_route_28 ?_
    refine s_putI (pc := 29) F w ds_14 vc_X12 vi_X12 tyX12_ok nmX12 (j := 19) rfl (by decide) kf_X12_220 rfl pd_I h dX12_route_29 (fun S2 H locs h w => ?_)
    refine lv_aload_n (pc := 32) hx hb dX12_route_32 rfl (lv_at hl 0 rfl) ?_
    obtain ⟨S3, hc, h⟩ := bndv_t h
    refine s_cvv (pc := 33) [] (fun ad => [.ref (ad 14)]) F w (m_X12_forget  _ _ hc) rfl rfl hl.1 ds_14 vc_X12 rfl ok_X12_forget rfl kc_X12_forget kl_X12_229 ki_X12_forget kv_X12_forget kn_X12 ⟨Nat.le_trans (by decide) hR1, Nat.le_trans (by decide) hR2⟩ ⟨Nat.zero_le _, Nat.zero_le _⟩ (Nat.le_of_ble_eq_true rfl) dX12_route_33 (fun H locs w => ?_)
    refine lv_aload_n (pc := 36) hx hb dX12_route_36 rfl (lv_at hl 0 rfl) ?_
    refine s_getI (pc := 37) F w ds_14 (j := 19) vc_X12 vi_X12 rfl (by decide) kf_X12_220 dX12_route_37 ?_
    refine lv_iconst (pc := 40) (v := 1) hx hb dX12_route_40 (by decide) ?_
    refine lv_isub (pc := 41) hx hb dX12_route_41 ?_
    exact s_iret F w h dX12_route_42
  · have h := ite_t q h
    refine lv_bipush (pc := 9) (v := -3) hx hb dX12_route_9 (by decide) ?_
    exact s_iret F w h dX12_route_11
def f_X6_routeFinding (a1 : Int32) (S : SS) : Option (Int32 × SS) :=
  if a1 < 0 then
    some ((3 : Int32), S)
  else
    if a1 < (12 : Int32) then
      if (S.1 6 8) ≤ a1 then
        some ((1 : Int32), S)
      else
        some ((0 : Int32), S)
    else
      some ((3 : Int32), S)
theorem dX6_routeFinding_0 : decode cX6_routeFinding 0 = .ok (.iload_n 1, 1) := by decide +kernel
theorem dX6_routeFinding_1 : decode cX6_routeFinding 1 = .ok (.ifCond .lt 9, 3) := by decide +kernel
theorem dX6_routeFinding_4 : decode cX6_routeFinding 4 = .ok (.iload_n 1, 1) := by decide +kernel
theorem dX6_routeFinding_5 : decode cX6_routeFinding 5 = .ok (.bipush 12, 2) := by decide +kernel
theorem dX6_routeFinding_7 : decode cX6_routeFinding 7 = .ok (.if_icmp .lt 5, 3) := by decide +kernel
theorem dX6_routeFinding_10 : decode cX6_routeFinding 10 = .ok (.iconst 3, 1) := by decide +kernel
theorem dX6_routeFinding_11 : decode cX6_routeFinding 11 = .ok (.ireturn, 1) := by decide +kernel
theorem dX6_routeFinding_12 : decode cX6_routeFinding 12 = .ok (.iload_n 1, 1) := by decide +kernel
theorem dX6_routeFinding_13 : decode cX6_routeFinding 13 = .ok (.aload_n 0, 1) := by decide +kernel
theorem dX6_routeFinding_14 : decode cX6_routeFinding 14 = .ok (.getfield 27, 3) := by decide +kernel
theorem dX6_routeFinding_17 : decode cX6_routeFinding 17 = .ok (.if_icmp .ge 7, 3) := by decide +kernel
theorem dX6_routeFinding_20 : decode cX6_routeFinding 20 = .ok (.iconst 0, 1) := by decide +kernel
theorem dX6_routeFinding_21 : decode cX6_routeFinding 21 = .ok (.goto 4, 3) := by decide +kernel
theorem dX6_routeFinding_24 : decode cX6_routeFinding 24 = .ok (.iconst 1, 1) := by decide +kernel
theorem dX6_routeFinding_25 : decode cX6_routeFinding 25 = .ok (.ireturn, 1) := by decide +kernel
set_option maxRecDepth 100000 in
set_option maxHeartbeats 4000000 in
theorem m_X6_routeFinding (a1 : Int32) (S S' : SS) (r : Int32) (h : f_X6_routeFinding a1 S = some (r, S')) : MT yX6_routeFinding cX6_routeFinding 2 (some .int) 0 0 (fun ad => [.ref (ad 6), .int a1]) S (some (.int r)) S' := by
  refine MT.of RX6 (fun ad => [(0, .ref (ad 6)), (1, .int a1)]) (by decide) rfl (fun _ => Nat.le_of_ble_eq_true rfl) (fun _ => rfl) ?_
  intro p l e R s m args below meth c dC dI cs ad A hR1 hR2 F H locs ls w hl
  have hx := F.1.1
  have hb := F.1.2.1
  rw [f_X6_routeFinding] at h
  refine lv_iload_n (pc := 0) hx hb dX6_routeFinding_0 rfl (lv_at hl 1 rfl) ?_
  refine lv_if_lt (pc := 1) (tgt := 10) hx hb dX6_routeFinding_1 (by decide) (fun q => ?_) (fun q => ?_)
  · have h := ite_t q h
    refine lv_iconst (pc := 10) (v := 3) hx hb dX6_routeFinding_10 (by decide) ?_
    exact s_iret F w h dX6_routeFinding_11
  · have h := ite_f q h
    refine lv_iload_n (pc := 4) hx hb dX6_routeFinding_4 rfl (lv_at hl 1 rfl) ?_
    refine lv_bipush (pc := 5) (v := 12) hx hb dX6_routeFinding_5 (by decide) ?_
    refine lv_icmp_lt (pc := 7) (tgt := 12) hx hb dX6_routeFinding_7 (by decide) (fun q => ?_) (fun q => ?_)
    · have h := ite_t q h
      refine lv_iload_n (pc := 12) hx hb dX6_routeFinding_12 rfl (lv_at hl 1 rfl) ?_
      refine lv_aload_n (pc := 13) hx hb dX6_routeFinding_13 rfl (lv_at hl 0 rfl) ?_
      refine s_getI (pc := 14) F w ds_6 (j := 8) vc_X6 vi_X6 rfl (by decide) kf_X6_27 dX6_routeFinding_14 ?_
      refine lv_icmp_ge (pc := 17) (tgt := 24) hx hb dX6_routeFinding_17 (by decide) (fun q => ?_) (fun q => ?_)
      · have h := ite_t q h
        refine lv_iconst (pc := 24) (v := 1) hx hb dX6_routeFinding_24 (by decide) ?_
        exact s_iret F w h dX6_routeFinding_25
      · have h := ite_f q h
        refine lv_iconst (pc := 20) (v := 0) hx hb dX6_routeFinding_20 (by decide) ?_
        refine lv_goto (pc := 21) (tgt := 25) hx hb dX6_routeFinding_21 (by decide) ?_
        exact s_iret F w h dX6_routeFinding_25
    · have h := ite_f q h
      refine lv_iconst (pc := 10) (v := 3) hx hb dX6_routeFinding_10 (by decide) ?_
      exact s_iret F w h dX6_routeFinding_11
def f_X6_entriesOf (a1 : Int32) (S : SS) : Option (Int32 × SS) :=
  if a1 < 0 then
    some ((0 : Int32), S)
  else
    if (S.1 6 8) ≤ a1 then
      some ((0 : Int32), S)
    else
      grd (inb a1 12) (
      some (S.1 39 a1.toNatClampNeg, S))
theorem dX6_entriesOf_0 : decode cX6_entriesOf 0 = .ok (.iload_n 1, 1) := by decide +kernel
theorem dX6_entriesOf_1 : decode cX6_entriesOf 1 = .ok (.ifCond .lt 20, 3) := by decide +kernel
theorem dX6_entriesOf_4 : decode cX6_entriesOf 4 = .ok (.iload_n 1, 1) := by decide +kernel
theorem dX6_entriesOf_5 : decode cX6_entriesOf 5 = .ok (.aload_n 0, 1) := by decide +kernel
theorem dX6_entriesOf_6 : decode cX6_entriesOf 6 = .ok (.getfield 27, 3) := by decide +kernel
theorem dX6_entriesOf_9 : decode cX6_entriesOf 9 = .ok (.if_icmp .ge 12, 3) := by decide +kernel
theorem dX6_entriesOf_12 : decode cX6_entriesOf 12 = .ok (.aload_n 0, 1) := by decide +kernel
theorem dX6_entriesOf_13 : decode cX6_entriesOf 13 = .ok (.getfield 11, 3) := by decide +kernel
theorem dX6_entriesOf_16 : decode cX6_entriesOf 16 = .ok (.iload_n 1, 1) := by decide +kernel
theorem dX6_entriesOf_17 : decode cX6_entriesOf 17 = .ok (.iaload, 1) := by decide +kernel
theorem dX6_entriesOf_18 : decode cX6_entriesOf 18 = .ok (.goto 4, 3) := by decide +kernel
theorem dX6_entriesOf_21 : decode cX6_entriesOf 21 = .ok (.iconst 0, 1) := by decide +kernel
theorem dX6_entriesOf_22 : decode cX6_entriesOf 22 = .ok (.ireturn, 1) := by decide +kernel
set_option maxRecDepth 100000 in
set_option maxHeartbeats 4000000 in
theorem m_X6_entriesOf (a1 : Int32) (S S' : SS) (r : Int32) (h : f_X6_entriesOf a1 S = some (r, S')) : MT yX6_entriesOf cX6_entriesOf 2 (some .int) 0 0 (fun ad => [.ref (ad 6), .int a1]) S (some (.int r)) S' := by
  refine MT.of RX6 (fun ad => [(0, .ref (ad 6)), (1, .int a1)]) (by decide) rfl (fun _ => Nat.le_of_ble_eq_true rfl) (fun _ => rfl) ?_
  intro p l e R s m args below meth c dC dI cs ad A hR1 hR2 F H locs ls w hl
  have hx := F.1.1
  have hb := F.1.2.1
  rw [f_X6_entriesOf] at h
  refine lv_iload_n (pc := 0) hx hb dX6_entriesOf_0 rfl (lv_at hl 1 rfl) ?_
  refine lv_if_lt (pc := 1) (tgt := 21) hx hb dX6_entriesOf_1 (by decide) (fun q => ?_) (fun q => ?_)
  · have h := ite_t q h
    refine lv_iconst (pc := 21) (v := 0) hx hb dX6_entriesOf_21 (by decide) ?_
    exact s_iret F w h dX6_entriesOf_22
  · have h := ite_f q h
    refine lv_iload_n (pc := 4) hx hb dX6_entriesOf_4 rfl (lv_at hl 1 rfl) ?_
    refine lv_aload_n (pc := 5) hx hb dX6_entriesOf_5 rfl (lv_at hl 0 rfl) ?_
    refine s_getI (pc := 6) F w ds_6 (j := 8) vc_X6 vi_X6 rfl (by decide) kf_X6_27 dX6_entriesOf_6 ?_
    refine lv_icmp_ge (pc := 9) (tgt := 21) hx hb dX6_entriesOf_9 (by decide) (fun q => ?_) (fun q => ?_)
    · have h := ite_t q h
      refine lv_iconst (pc := 21) (v := 0) hx hb dX6_entriesOf_21 (by decide) ?_
      exact s_iret F w h dX6_entriesOf_22
    · have h := ite_f q h
      refine lv_aload_n (pc := 12) hx hb dX6_entriesOf_12 rfl (lv_at hl 0 rfl) ?_
      refine s_getR (pc := 13) F w 39 ds_6 (j := 3) vc_X6 vi_X6 rfl (by decide) kf_X6_11 dX6_entriesOf_13 ?_
      refine lv_iload_n (pc := 16) hx hb dX6_entriesOf_16 rfl (lv_at hl 1 rfl) ?_
      refine s_iald (pc := 17) F w ds_39 h dX6_entriesOf_17 (fun h => ?_)
      refine lv_goto (pc := 18) (tgt := 22) hx hb dX6_entriesOf_18 (by decide) ?_
      exact s_iret F w h dX6_entriesOf_22
def f_X6_putEntry (a1 : Int32) (a2 : Int32) (a3 : Int32) (a4 : Int32) (S : SS) : Option (SS) :=
  grd (inb a1 96) (wr S 40 a1.toNatClampNeg a2 (fun S1 =>
  grd (inb a1 96) (wr S1 41 a1.toNatClampNeg a3 (fun S2 =>
  grd (inb a1 96) (wr S2 42 a1.toNatClampNeg a4 (fun S3 =>
  some S3))))))
theorem dX6_putEntry_0 : decode cX6_putEntry 0 = .ok (.aload_n 0, 1) := by decide +kernel
theorem dX6_putEntry_1 : decode cX6_putEntry 1 = .ok (.getfield 15, 3) := by decide +kernel
theorem dX6_putEntry_4 : decode cX6_putEntry 4 = .ok (.iload_n 1, 1) := by decide +kernel
theorem dX6_putEntry_5 : decode cX6_putEntry 5 = .ok (.iload_n 2, 1) := by decide +kernel
theorem dX6_putEntry_6 : decode cX6_putEntry 6 = .ok (.iastore, 1) := by decide +kernel
theorem dX6_putEntry_7 : decode cX6_putEntry 7 = .ok (.aload_n 0, 1) := by decide +kernel
theorem dX6_putEntry_8 : decode cX6_putEntry 8 = .ok (.getfield 18, 3) := by decide +kernel
theorem dX6_putEntry_11 : decode cX6_putEntry 11 = .ok (.iload_n 1, 1) := by decide +kernel
theorem dX6_putEntry_12 : decode cX6_putEntry 12 = .ok (.iload_n 3, 1) := by decide +kernel
theorem dX6_putEntry_13 : decode cX6_putEntry 13 = .ok (.iastore, 1) := by decide +kernel
theorem dX6_putEntry_14 : decode cX6_putEntry 14 = .ok (.aload_n 0, 1) := by decide +kernel
theorem dX6_putEntry_15 : decode cX6_putEntry 15 = .ok (.getfield 21, 3) := by decide +kernel
theorem dX6_putEntry_18 : decode cX6_putEntry 18 = .ok (.iload_n 1, 1) := by decide +kernel
theorem dX6_putEntry_19 : decode cX6_putEntry 19 = .ok (.iload 4, 2) := by decide +kernel
theorem dX6_putEntry_21 : decode cX6_putEntry 21 = .ok (.iastore, 1) := by decide +kernel
theorem dX6_putEntry_22 : decode cX6_putEntry 22 = .ok (.return_, 1) := by decide +kernel
set_option maxRecDepth 100000 in
set_option maxHeartbeats 4000000 in
theorem m_X6_putEntry (a1 : Int32) (a2 : Int32) (a3 : Int32) (a4 : Int32) (S S' : SS) (h : f_X6_putEntry a1 a2 a3 a4 S = some S') : MT yX6_putEntry cX6_putEntry 5 none 0 0 (fun ad => [.ref (ad 6), .int a1, .int a2, .int a3, .int a4]) S none S' := by
  refine MT.of RX6 (fun ad => [(0, .ref (ad 6)), (1, .int a1), (2, .int a2), (3, .int a3), (4, .int a4)]) (by decide) rfl (fun _ => Nat.le_of_ble_eq_true rfl) (fun _ => rfl) ?_
  intro p l e R s m args below meth c dC dI cs ad A hR1 hR2 F H locs ls w hl
  have hx := F.1.1
  have hb := F.1.2.1
  rw [f_X6_putEntry] at h
  refine lv_aload_n (pc := 0) hx hb dX6_putEntry_0 rfl (lv_at hl 0 rfl) ?_
  refine s_getR (pc := 1) F w 40 ds_6 (j := 4) vc_X6 vi_X6 rfl (by decide) kf_X6_15 dX6_putEntry_1 ?_
  refine lv_iload_n (pc := 4) hx hb dX6_putEntry_4 rfl (lv_at hl 1 rfl) ?_
  refine lv_iload_n (pc := 5) hx hb dX6_putEntry_5 rfl (lv_at hl 2 rfl) ?_
  refine s_iast (pc := 6) F w ds_40 h dX6_putEntry_6 (fun S1 H locs h w => ?_)
  refine lv_aload_n (pc := 7) hx hb dX6_putEntry_7 rfl (lv_at hl 0 rfl) ?_
  refine s_getR (pc := 8) F w 41 ds_6 (j := 5) vc_X6 vi_X6 rfl (by decide) kf_X6_18 dX6_putEntry_8 ?_
  refine lv_iload_n (pc := 11) hx hb dX6_putEntry_11 rfl (lv_at hl 1 rfl) ?_
  refine lv_iload_n (pc := 12) hx hb dX6_putEntry_12 rfl (lv_at hl 3 rfl) ?_
  refine s_iast (pc := 13) F w ds_41 h dX6_putEntry_13 (fun S2 H locs h w => ?_)
  refine lv_aload_n (pc := 14) hx hb dX6_putEntry_14 rfl (lv_at hl 0 rfl) ?_
  refine s_getR (pc := 15) F w 42 ds_6 (j := 6) vc_X6 vi_X6 rfl (by decide) kf_X6_21 dX6_putEntry_15 ?_
  refine lv_iload_n (pc := 18) hx hb dX6_putEntry_18 rfl (lv_at hl 1 rfl) ?_
  refine lv_iload (pc := 19) hx hb dX6_putEntry_19 (lv_at hl 4 rfl) ?_
  refine s_iast (pc := 21) F w ds_42 h dX6_putEntry_21 (fun S3 H locs h w => ?_)
  exact s_vret F w h dX6_putEntry_22
def f_X6_isBehind (a1 : Int32) (a2 : Int32) (a3 : Int32) (S : SS) : Option (Int32 × SS) :=
  grd (inb a1 96) (
  if a3 < (S.1 42 a1.toNatClampNeg) then
    some ((1 : Int32), S)
  else
    grd (inb a1 96) (
    if (S.1 42 a1.toNatClampNeg) = a3 then
      grd (inb a1 96) (
      if (S.1 40 a1.toNatClampNeg) ≤ a2 then
        some ((0 : Int32), S)
      else
        some ((1 : Int32), S))
    else
      some ((0 : Int32), S)))
theorem dX6_isBehind_0 : decode cX6_isBehind 0 = .ok (.aload_n 0, 1) := by decide +kernel
theorem dX6_isBehind_1 : decode cX6_isBehind 1 = .ok (.getfield 21, 3) := by decide +kernel
theorem dX6_isBehind_4 : decode cX6_isBehind 4 = .ok (.iload_n 1, 1) := by decide +kernel
theorem dX6_isBehind_5 : decode cX6_isBehind 5 = .ok (.iaload, 1) := by decide +kernel
theorem dX6_isBehind_6 : decode cX6_isBehind 6 = .ok (.iload_n 3, 1) := by decide +kernel
theorem dX6_isBehind_7 : decode cX6_isBehind 7 = .ok (.if_icmp .gt 23, 3) := by decide +kernel
theorem dX6_isBehind_10 : decode cX6_isBehind 10 = .ok (.aload_n 0, 1) := by decide +kernel
theorem dX6_isBehind_11 : decode cX6_isBehind 11 = .ok (.getfield 21, 3) := by decide +kernel
theorem dX6_isBehind_14 : decode cX6_isBehind 14 = .ok (.iload_n 1, 1) := by decide +kernel
theorem dX6_isBehind_15 : decode cX6_isBehind 15 = .ok (.iaload, 1) := by decide +kernel
theorem dX6_isBehind_16 : decode cX6_isBehind 16 = .ok (.iload_n 3, 1) := by decide +kernel
theorem dX6_isBehind_17 : decode cX6_isBehind 17 = .ok (.if_icmp .ne 17, 3) := by decide +kernel
theorem dX6_isBehind_20 : decode cX6_isBehind 20 = .ok (.aload_n 0, 1) := by decide +kernel
theorem dX6_isBehind_21 : decode cX6_isBehind 21 = .ok (.getfield 15, 3) := by decide +kernel
theorem dX6_isBehind_24 : decode cX6_isBehind 24 = .ok (.iload_n 1, 1) := by decide +kernel
theorem dX6_isBehind_25 : decode cX6_isBehind 25 = .ok (.iaload, 1) := by decide +kernel
theorem dX6_isBehind_26 : decode cX6_isBehind 26 = .ok (.iload_n 2, 1) := by decide +kernel
theorem dX6_isBehind_27 : decode cX6_isBehind 27 = .ok (.if_icmp .le 7, 3) := by decide +kernel
theorem dX6_isBehind_30 : decode cX6_isBehind 30 = .ok (.iconst 1, 1) := by decide +kernel
theorem dX6_isBehind_31 : decode cX6_isBehind 31 = .ok (.goto 4, 3) := by decide +kernel
theorem dX6_isBehind_34 : decode cX6_isBehind 34 = .ok (.iconst 0, 1) := by decide +kernel
theorem dX6_isBehind_35 : decode cX6_isBehind 35 = .ok (.ireturn, 1) := by decide +kernel
set_option maxRecDepth 100000 in
set_option maxHeartbeats 4000000 in
theorem m_X6_isBehind (a1 : Int32) (a2 : Int32) (a3 : Int32) (S S' : SS) (r : Int32) (h : f_X6_isBehind a1 a2 a3 S = some (r, S')) : MT yX6_isBehind cX6_isBehind 4 (some .boolean) 0 0 (fun ad => [.ref (ad 6), .int a1, .int a2, .int a3]) S (some (.int r)) S' := by
  refine MT.of RX6 (fun ad => [(0, .ref (ad 6)), (1, .int a1), (2, .int a2), (3, .int a3)]) (by decide) rfl (fun _ => Nat.le_of_ble_eq_true rfl) (fun _ => rfl) ?_
  intro p l e R s m args below meth c dC dI cs ad A hR1 hR2 F H locs ls w hl
  have hx := F.1.1
  have hb := F.1.2.1
  rw [f_X6_isBehind] at h
  refine lv_aload_n (pc := 0) hx hb dX6_isBehind_0 rfl (lv_at hl 0 rfl) ?_
  refine s_getR (pc := 1) F w 42 ds_6 (j := 6) vc_X6 vi_X6 rfl (by decide) kf_X6_21 dX6_isBehind_1 ?_
  refine lv_iload_n (pc := 4) hx hb dX6_isBehind_4 rfl (lv_at hl 1 rfl) ?_
  refine s_iald (pc := 5) F w ds_42 h dX6_isBehind_5 (fun h => ?_)
  refine lv_iload_n (pc := 6) hx hb dX6_isBehind_6 rfl (lv_at hl 3 rfl) ?_
  refine lv_icmp_gt (pc := 7) (tgt := 30) hx hb dX6_isBehind_7 (by decide) (fun q => ?_) (fun q => ?_)
  · have h := ite_t q h
    refine lv_iconst (pc := 30) (v := 1) hx hb dX6_isBehind_30 (by decide) ?_
    refine lv_goto (pc := 31) (tgt := 35) hx hb dX6_isBehind_31 (by decide) ?_
    exact s_zretc F w rfl h dX6_isBehind_35
  · have h := ite_f q h
    refine lv_aload_n (pc := 10) hx hb dX6_isBehind_10 rfl (lv_at hl 0 rfl) ?_
    refine s_getR (pc := 11) F w 42 ds_6 (j := 6) vc_X6 vi_X6 rfl (by decide) kf_X6_21 dX6_isBehind_11 ?_
    refine lv_iload_n (pc := 14) hx hb dX6_isBehind_14 rfl (lv_at hl 1 rfl) ?_
    refine s_iald (pc := 15) F w ds_42 h dX6_isBehind_15 (fun h => ?_)
    refine lv_iload_n (pc := 16) hx hb dX6_isBehind_16 rfl (lv_at hl 3 rfl) ?_
    refine lv_icmp_ne (pc := 17) (tgt := 34) hx hb dX6_isBehind_17 (by decide) (fun q => ?_) (fun q => ?_)
    · have h := ite_f q h
      refine lv_iconst (pc := 34) (v := 0) hx hb dX6_isBehind_34 (by decide) ?_
      exact s_zretc F w rfl h dX6_isBehind_35
    · have h := ite_t q h
      refine lv_aload_n (pc := 20) hx hb dX6_isBehind_20 rfl (lv_at hl 0 rfl) ?_
      refine s_getR (pc := 21) F w 40 ds_6 (j := 4) vc_X6 vi_X6 rfl (by decide) kf_X6_15 dX6_isBehind_21 ?_
      refine lv_iload_n (pc := 24) hx hb dX6_isBehind_24 rfl (lv_at hl 1 rfl) ?_
      refine s_iald (pc := 25) F w ds_40 h dX6_isBehind_25 (fun h => ?_)
      refine lv_iload_n (pc := 26) hx hb dX6_isBehind_26 rfl (lv_at hl 2 rfl) ?_
      refine lv_icmp_le (pc := 27) (tgt := 34) hx hb dX6_isBehind_27 (by decide) (fun q => ?_) (fun q => ?_)
      · have h := ite_t q h
        refine lv_iconst (pc := 34) (v := 0) hx hb dX6_isBehind_34 (by decide) ?_
        exact s_zretc F w rfl h dX6_isBehind_35
      · have h := ite_f q h
        refine lv_iconst (pc := 30) (v := 1) hx hb dX6_isBehind_30 (by decide) ?_
        refine lv_goto (pc := 31) (tgt := 35) hx hb dX6_isBehind_31 (by decide) ?_
        exact s_zretc F w rfl h dX6_isBehind_35
def f_X6_addEntry_j102  (x1 : Int32) (x2 : Int32) (x3 : Int32) (x4 : Int32) (x7 : Int32) (S : SS) : Option (Int32 × SS) :=
    bndv (f_X6_putEntry x7 x2 x3 x4 S) (fun S5 =>
    grd (inb x1 12) (
    grd (inb x1 12) (wr S5 39 x1.toNatClampNeg ((S5.1 39 x1.toNatClampNeg) + (1 : Int32)) (fun S6 =>
    grd (inb x1 12) (
    some (S6.1 39 x1.toNatClampNeg, S6))))))
def f_X6_addEntry_L42  : Nat → Int32 → Int32 → Int32 → Int32 → Int32 → Int32 → SS → Option (Int32 × SS)
  | 0, _, _, _, _, _, _, _ => none
  | n + 1, x1, x2, x3, x4, x6, x7, S =>
    if x7 ≤ x6 then
      f_X6_addEntry_j102 x1 x2 x3 x4 x7 S
    else
      bnd (f_X6_isBehind (x7 - (1 : Int32)) x2 x4 S) (fun r8 S7 =>
      if r8 = 0 then
        f_X6_addEntry_j102 x1 x2 x3 x4 x7 S7
      else
        grd (inb (x7 - (1 : Int32)) 96) (
        grd (inb (x7 - (1 : Int32)) 96) (
        grd (inb (x7 - (1 : Int32)) 96) (
        bndv (f_X6_putEntry x7 (S7.1 40 (x7 - (1 : Int32)).toNatClampNeg) (S7.1 41 (x7 - (1 : Int32)).toNatClampNeg) (S7.1 42 (x7 - (1 : Int32)).toNatClampNeg) S7) (fun S9 =>
        nm (x7 + (-1 : Int32)) (fun z10 =>
        f_X6_addEntry_L42 n x1 x2 x3 x4 x6 z10 S9))))))
def f_X6_addEntry (a1 : Int32) (a2 : Int32) (a3 : Int32) (a4 : Int32) (S : SS) : Option (Int32 × SS) :=
  bnd (f_X6_entriesOf a1 S) (fun r2 S1 =>
  if a1 < 0 then
    some ((-3 : Int32), S1)
  else
    if (S1.1 6 8) ≤ a1 then
      some ((-3 : Int32), S1)
    else
      if r2 < (8 : Int32) then
        nm ((8 : Int32) * a1) (fun z3 =>
        nm (z3 + r2) (fun z4 =>
        f_X6_addEntry_L42 NF a1 a2 a3 a4 z3 z4 S1))
      else
        some ((-3 : Int32), S1))
theorem dX6_addEntry_0 : decode cX6_addEntry 0 = .ok (.aload_n 0, 1) := by decide +kernel
theorem dX6_addEntry_1 : decode cX6_addEntry 1 = .ok (.iload_n 1, 1) := by decide +kernel
theorem dX6_addEntry_2 : decode cX6_addEntry 2 = .ok (.invokevirtual 43, 3) := by decide +kernel
theorem dX6_addEntry_5 : decode cX6_addEntry 5 = .ok (.istore 5, 2) := by decide +kernel
theorem dX6_addEntry_7 : decode cX6_addEntry 7 = .ok (.iload_n 1, 1) := by decide +kernel
theorem dX6_addEntry_8 : decode cX6_addEntry 8 = .ok (.ifCond .lt 18, 3) := by decide +kernel
theorem dX6_addEntry_11 : decode cX6_addEntry 11 = .ok (.iload_n 1, 1) := by decide +kernel
theorem dX6_addEntry_12 : decode cX6_addEntry 12 = .ok (.aload_n 0, 1) := by decide +kernel
theorem dX6_addEntry_13 : decode cX6_addEntry 13 = .ok (.getfield 27, 3) := by decide +kernel
theorem dX6_addEntry_16 : decode cX6_addEntry 16 = .ok (.if_icmp .ge 10, 3) := by decide +kernel
theorem dX6_addEntry_19 : decode cX6_addEntry 19 = .ok (.iload 5, 2) := by decide +kernel
theorem dX6_addEntry_21 : decode cX6_addEntry 21 = .ok (.bipush 8, 2) := by decide +kernel
theorem dX6_addEntry_23 : decode cX6_addEntry 23 = .ok (.if_icmp .lt 6, 3) := by decide +kernel
theorem dX6_addEntry_26 : decode cX6_addEntry 26 = .ok (.bipush (-3), 2) := by decide +kernel
theorem dX6_addEntry_28 : decode cX6_addEntry 28 = .ok (.ireturn, 1) := by decide +kernel
theorem dX6_addEntry_29 : decode cX6_addEntry 29 = .ok (.bipush 8, 2) := by decide +kernel
theorem dX6_addEntry_31 : decode cX6_addEntry 31 = .ok (.iload_n 1, 1) := by decide +kernel
theorem dX6_addEntry_32 : decode cX6_addEntry 32 = .ok (.imul, 1) := by decide +kernel
theorem dX6_addEntry_33 : decode cX6_addEntry 33 = .ok (.istore 6, 2) := by decide +kernel
theorem dX6_addEntry_35 : decode cX6_addEntry 35 = .ok (.iload 6, 2) := by decide +kernel
theorem dX6_addEntry_37 : decode cX6_addEntry 37 = .ok (.iload 5, 2) := by decide +kernel
theorem dX6_addEntry_39 : decode cX6_addEntry 39 = .ok (.iadd, 1) := by decide +kernel
theorem dX6_addEntry_40 : decode cX6_addEntry 40 = .ok (.istore 7, 2) := by decide +kernel
theorem dX6_addEntry_42 : decode cX6_addEntry 42 = .ok (.iload 7, 2) := by decide +kernel
theorem dX6_addEntry_44 : decode cX6_addEntry 44 = .ok (.iload 6, 2) := by decide +kernel
theorem dX6_addEntry_46 : decode cX6_addEntry 46 = .ok (.if_icmp .le 56, 3) := by decide +kernel
theorem dX6_addEntry_49 : decode cX6_addEntry 49 = .ok (.aload_n 0, 1) := by decide +kernel
theorem dX6_addEntry_50 : decode cX6_addEntry 50 = .ok (.iload 7, 2) := by decide +kernel
theorem dX6_addEntry_52 : decode cX6_addEntry 52 = .ok (.iconst 1, 1) := by decide +kernel
theorem dX6_addEntry_53 : decode cX6_addEntry 53 = .ok (.isub, 1) := by decide +kernel
theorem dX6_addEntry_54 : decode cX6_addEntry 54 = .ok (.iload_n 2, 1) := by decide +kernel
theorem dX6_addEntry_55 : decode cX6_addEntry 55 = .ok (.iload 4, 2) := by decide +kernel
theorem dX6_addEntry_57 : decode cX6_addEntry 57 = .ok (.invokevirtual 67, 3) := by decide +kernel
theorem dX6_addEntry_60 : decode cX6_addEntry 60 = .ok (.ifCond .eq 42, 3) := by decide +kernel
theorem dX6_addEntry_63 : decode cX6_addEntry 63 = .ok (.aload_n 0, 1) := by decide +kernel
theorem dX6_addEntry_64 : decode cX6_addEntry 64 = .ok (.iload 7, 2) := by decide +kernel
theorem dX6_addEntry_66 : decode cX6_addEntry 66 = .ok (.aload_n 0, 1) := by decide +kernel
theorem dX6_addEntry_67 : decode cX6_addEntry 67 = .ok (.getfield 15, 3) := by decide +kernel
theorem dX6_addEntry_70 : decode cX6_addEntry 70 = .ok (.iload 7, 2) := by decide +kernel
theorem dX6_addEntry_72 : decode cX6_addEntry 72 = .ok (.iconst 1, 1) := by decide +kernel
theorem dX6_addEntry_73 : decode cX6_addEntry 73 = .ok (.isub, 1) := by decide +kernel
theorem dX6_addEntry_74 : decode cX6_addEntry 74 = .ok (.iaload, 1) := by decide +kernel
theorem dX6_addEntry_75 : decode cX6_addEntry 75 = .ok (.aload_n 0, 1) := by decide +kernel
theorem dX6_addEntry_76 : decode cX6_addEntry 76 = .ok (.getfield 18, 3) := by decide +kernel
theorem dX6_addEntry_79 : decode cX6_addEntry 79 = .ok (.iload 7, 2) := by decide +kernel
theorem dX6_addEntry_81 : decode cX6_addEntry 81 = .ok (.iconst 1, 1) := by decide +kernel
theorem dX6_addEntry_82 : decode cX6_addEntry 82 = .ok (.isub, 1) := by decide +kernel
theorem dX6_addEntry_83 : decode cX6_addEntry 83 = .ok (.iaload, 1) := by decide +kernel
theorem dX6_addEntry_84 : decode cX6_addEntry 84 = .ok (.aload_n 0, 1) := by decide +kernel
theorem dX6_addEntry_85 : decode cX6_addEntry 85 = .ok (.getfield 21, 3) := by decide +kernel
theorem dX6_addEntry_88 : decode cX6_addEntry 88 = .ok (.iload 7, 2) := by decide +kernel
theorem dX6_addEntry_90 : decode cX6_addEntry 90 = .ok (.iconst 1, 1) := by decide +kernel
theorem dX6_addEntry_91 : decode cX6_addEntry 91 = .ok (.isub, 1) := by decide +kernel
theorem dX6_addEntry_92 : decode cX6_addEntry 92 = .ok (.iaload, 1) := by decide +kernel
theorem dX6_addEntry_93 : decode cX6_addEntry 93 = .ok (.invokevirtual 71, 3) := by decide +kernel
theorem dX6_addEntry_96 : decode cX6_addEntry 96 = .ok (.iinc 7 (-1), 3) := by decide +kernel
theorem dX6_addEntry_99 : decode cX6_addEntry 99 = .ok (.goto (-57), 3) := by decide +kernel
theorem dX6_addEntry_102 : decode cX6_addEntry 102 = .ok (.aload_n 0, 1) := by decide +kernel
theorem dX6_addEntry_103 : decode cX6_addEntry 103 = .ok (.iload 7, 2) := by decide +kernel
theorem dX6_addEntry_105 : decode cX6_addEntry 105 = .ok (.iload_n 2, 1) := by decide +kernel
theorem dX6_addEntry_106 : decode cX6_addEntry 106 = .ok (.iload_n 3, 1) := by decide +kernel
theorem dX6_addEntry_107 : decode cX6_addEntry 107 = .ok (.iload 4, 2) := by decide +kernel
theorem dX6_addEntry_109 : decode cX6_addEntry 109 = .ok (.invokevirtual 71, 3) := by decide +kernel
theorem dX6_addEntry_112 : decode cX6_addEntry 112 = .ok (.aload_n 0, 1) := by decide +kernel
theorem dX6_addEntry_113 : decode cX6_addEntry 113 = .ok (.getfield 11, 3) := by decide +kernel
theorem dX6_addEntry_116 : decode cX6_addEntry 116 = .ok (.iload_n 1, 1) := by decide +kernel
theorem dX6_addEntry_117 : decode cX6_addEntry 117 = .ok (.dup2, 1) := by decide +kernel
theorem dX6_addEntry_118 : decode cX6_addEntry 118 = .ok (.iaload, 1) := by decide +kernel
theorem dX6_addEntry_119 : decode cX6_addEntry 119 = .ok (.iconst 1, 1) := by decide +kernel
theorem dX6_addEntry_120 : decode cX6_addEntry 120 = .ok (.iadd, 1) := by decide +kernel
theorem dX6_addEntry_121 : decode cX6_addEntry 121 = .ok (.iastore, 1) := by decide +kernel
theorem dX6_addEntry_122 : decode cX6_addEntry 122 = .ok (.aload_n 0, 1) := by decide +kernel
theorem dX6_addEntry_123 : decode cX6_addEntry 123 = .ok (.getfield 11, 3) := by decide +kernel
theorem dX6_addEntry_126 : decode cX6_addEntry 126 = .ok (.iload_n 1, 1) := by decide +kernel
theorem dX6_addEntry_127 : decode cX6_addEntry 127 = .ok (.iaload, 1) := by decide +kernel
theorem dX6_addEntry_128 : decode cX6_addEntry 128 = .ok (.ireturn, 1) := by decide +kernel
set_option maxRecDepth 100000 in
set_option maxHeartbeats 4000000 in
theorem w_X6_addEntry_j102 {p : Program} {l : Launch} {e : Env} {R : Room} {s : State} {m : MethodId} {args : Array Value} {below : List Frame} {meth : Method} {c : Code} {dC : Nat → ClassId} {dI : Nat → Nat → Nat} {cs : Nat → ClassId} {ad : Nat → Nat} {A : Nat → Prop} {D0 : Nat → Nat} {S' : SS} {r : Int32} (F : Fx p s m args meth c cX6_addEntry 8 RX6 (some .int) dC dI cs A) (hR1 : 1 ≤ R.frames) (hR2 : 24 ≤ R.locals) (x1 : Int32) (x2 : Int32) (x3 : Int32) (x4 : Int32) (x7 : Int32) (S : SS) (h : f_X6_addEntry_j102 x1 x2 x3 x4 x7 S = some (r, S')) : AW p l e R s m args below meth c dC dI cs ad A D0 (some (.int r)) S' 8 102 [(0, .ref (ad 6)), (1, .int x1), (2, .int x2), (3, .int x3), (4, .int x4), (7, .int x7)] [] S := by
  have hx := F.1.1
  have hb := F.1.2.1
  intro H locs ls w hl
  rw [f_X6_addEntry_j102] at h
  refine lv_aload_n (pc := 102) hx hb dX6_addEntry_102 rfl (lv_at hl 0 rfl) ?_
  refine lv_iload (pc := 103) hx hb dX6_addEntry_103 (lv_at hl 5 rfl) ?_
  refine lv_iload_n (pc := 105) hx hb dX6_addEntry_105 rfl (lv_at hl 2 rfl) ?_
  refine lv_iload_n (pc := 106) hx hb dX6_addEntry_106 rfl (lv_at hl 3 rfl) ?_
  refine lv_iload (pc := 107) hx hb dX6_addEntry_107 (lv_at hl 4 rfl) ?_
  obtain ⟨S5, hc, h⟩ := bndv_t h
  refine s_cvv (pc := 109) [.int x7, .int x2, .int x3, .int x4] (fun ad => [.ref (ad 6), .int x7, .int x2, .int x3, .int x4]) F w (m_X6_putEntry _ _ _ _ _ _ hc) rfl rfl hl.1 ds_6 vc_X6 rfl ok_X6_putEntry rfl kc_X6_putEntry kl_X6_71 ki_X6_putEntry kv_X6_putEntry kn_X6 ⟨Nat.le_trans (by decide) hR1, Nat.le_trans (by decide) hR2⟩ ⟨Nat.zero_le _, Nat.zero_le _⟩ (Nat.le_of_ble_eq_true rfl) dX6_addEntry_109 (fun H locs w => ?_)
  refine lv_aload_n (pc := 112) hx hb dX6_addEntry_112 rfl (lv_at hl 0 rfl) ?_
  refine s_getR (pc := 113) F w 39 ds_6 (j := 3) vc_X6 vi_X6 rfl (by decide) kf_X6_11 dX6_addEntry_113 ?_
  refine lv_iload_n (pc := 116) hx hb dX6_addEntry_116 rfl (lv_at hl 1 rfl) ?_
  refine lv_dup2_11 (pc := 117) hx hb dX6_addEntry_117 rfl rfl ?_
  refine s_iald (pc := 118) F w ds_39 h dX6_addEntry_118 (fun h => ?_)
  refine lv_iconst (pc := 119) (v := 1) hx hb dX6_addEntry_119 (by decide) ?_
  refine lv_iadd (pc := 120) hx hb dX6_addEntry_120 ?_
  refine s_iast (pc := 121) F w ds_39 h dX6_addEntry_121 (fun S6 H locs h w => ?_)
  refine lv_aload_n (pc := 122) hx hb dX6_addEntry_122 rfl (lv_at hl 0 rfl) ?_
  refine s_getR (pc := 123) F w 39 ds_6 (j := 3) vc_X6 vi_X6 rfl (by decide) kf_X6_11 dX6_addEntry_123 ?_
  refine lv_iload_n (pc := 126) hx hb dX6_addEntry_126 rfl (lv_at hl 1 rfl) ?_
  refine s_iald (pc := 127) F w ds_39 h dX6_addEntry_127 (fun h => ?_)
  exact s_iret F w h dX6_addEntry_128
set_option maxRecDepth 100000 in
set_option maxHeartbeats 4000000 in
theorem w_X6_addEntry_L42 {p : Program} {l : Launch} {e : Env} {R : Room} {s : State} {m : MethodId} {args : Array Value} {below : List Frame} {meth : Method} {c : Code} {dC : Nat → ClassId} {dI : Nat → Nat → Nat} {cs : Nat → ClassId} {ad : Nat → Nat} {A : Nat → Prop} {D0 : Nat → Nat} {S' : SS} {r : Int32} (F : Fx p s m args meth c cX6_addEntry 8 RX6 (some .int) dC dI cs A) (hR1 : 1 ≤ R.frames) (hR2 : 24 ≤ R.locals) : ∀ (n : Nat) (x1 : Int32) (x2 : Int32) (x3 : Int32) (x4 : Int32) (x6 : Int32) (x7 : Int32) (S : SS), f_X6_addEntry_L42 n x1 x2 x3 x4 x6 x7 S = some (r, S') → AW p l e R s m args below meth c dC dI cs ad A D0 (some (.int r)) S' 8 42 [(0, .ref (ad 6)), (1, .int x1), (2, .int x2), (3, .int x3), (4, .int x4), (6, .int x6), (7, .int x7)] [] S := by
  have hx := F.1.1
  have hb := F.1.2.1
  intro n
  induction n with
  | zero => intro x1 x2 x3 x4 x6 x7 S h; cases h
  | succ n ih =>
    intro x1 x2 x3 x4 x6 x7 S h H locs ls w hl
    rw [f_X6_addEntry_L42] at h
    refine lv_iload (pc := 42) hx hb dX6_addEntry_42 (lv_at hl 6 rfl) ?_
    refine lv_iload (pc := 44) hx hb dX6_addEntry_44 (lv_at hl 5 rfl) ?_
    refine lv_icmp_le (pc := 46) (tgt := 102) hx hb dX6_addEntry_46 (by decide) (fun q => ?_) (fun q => ?_)
    · have h := ite_t q h
      exact w_X6_addEntry_j102 F (Nat.le_trans (by decide) hR1) (Nat.le_trans (by decide) hR2) _ _ _ _ _ _ h _ _ _ w (lv_sub hl [0, 1, 2, 3, 4, 6] rfl)
    · have h := ite_f q h
      refine lv_aload_n (pc := 49) hx hb dX6_addEntry_49 rfl (lv_at hl 0 rfl) ?_
      refine lv_iload (pc := 50) hx hb dX6_addEntry_50 (lv_at hl 6 rfl) ?_
      refine lv_iconst (pc := 52) (v := 1) hx hb dX6_addEntry_52 (by decide) ?_
      refine lv_isub (pc := 53) hx hb dX6_addEntry_53 ?_
      refine lv_iload_n (pc := 54) hx hb dX6_addEntry_54 rfl (lv_at hl 2 rfl) ?_
      refine lv_iload (pc := 55) hx hb dX6_addEntry_55 (lv_at hl 4 rfl) ?_
      obtain ⟨r8, S7, hc, h⟩ := bnd_t h
      refine s_cvi (pc := 57) [.int (x7 - (1 : Int32)), .int x2, .int x4] (fun ad => [.ref (ad 6), .int (x7 - (1 : Int32)), .int x2, .int x4]) F w (m_X6_isBehind _ _ _ _ _ _ hc) rfl rfl hl.1 ds_6 vc_X6 rfl ok_X6_isBehind rfl kc_X6_isBehind kl_X6_67 ki_X6_isBehind kv_X6_isBehind kn_X6 ⟨Nat.le_trans (by decide) hR1, Nat.le_trans (by decide) hR2⟩ ⟨Nat.zero_le _, Nat.zero_le _⟩ (Nat.le_of_ble_eq_true rfl) dX6_addEntry_57 (fun H locs w => ?_)
      refine lv_if_eq (pc := 60) (tgt := 102) hx hb dX6_addEntry_60 (by decide) (fun q => ?_) (fun q => ?_)
      · have h := ite_t q h
        exact w_X6_addEntry_j102 F (Nat.le_trans (by decide) hR1) (Nat.le_trans (by decide) hR2) _ _ _ _ _ _ h _ _ _ w (lv_sub hl [0, 1, 2, 3, 4, 6] rfl)
      · have h := ite_f q h
        refine lv_aload_n (pc := 63) hx hb dX6_addEntry_63 rfl (lv_at hl 0 rfl) ?_
        refine lv_iload (pc := 64) hx hb dX6_addEntry_64 (lv_at hl 6 rfl) ?_
        refine lv_aload_n (pc := 66) hx hb dX6_addEntry_66 rfl (lv_at hl 0 rfl) ?_
        refine s_getR (pc := 67) F w 40 ds_6 (j := 4) vc_X6 vi_X6 rfl (by decide) kf_X6_15 dX6_addEntry_67 ?_
        refine lv_iload (pc := 70) hx hb dX6_addEntry_70 (lv_at hl 6 rfl) ?_
        refine lv_iconst (pc := 72) (v := 1) hx hb dX6_addEntry_72 (by decide) ?_
        refine lv_isub (pc := 73) hx hb dX6_addEntry_73 ?_
        refine s_iald (pc := 74) F w ds_40 h dX6_addEntry_74 (fun h => ?_)
        refine lv_aload_n (pc := 75) hx hb dX6_addEntry_75 rfl (lv_at hl 0 rfl) ?_
        refine s_getR (pc := 76) F w 41 ds_6 (j := 5) vc_X6 vi_X6 rfl (by decide) kf_X6_18 dX6_addEntry_76 ?_
        refine lv_iload (pc := 79) hx hb dX6_addEntry_79 (lv_at hl 6 rfl) ?_
        refine lv_iconst (pc := 81) (v := 1) hx hb dX6_addEntry_81 (by decide) ?_
        refine lv_isub (pc := 82) hx hb dX6_addEntry_82 ?_
        refine s_iald (pc := 83) F w ds_41 h dX6_addEntry_83 (fun h => ?_)
        refine lv_aload_n (pc := 84) hx hb dX6_addEntry_84 rfl (lv_at hl 0 rfl) ?_
        refine s_getR (pc := 85) F w 42 ds_6 (j := 6) vc_X6 vi_X6 rfl (by decide) kf_X6_21 dX6_addEntry_85 ?_
        refine lv_iload (pc := 88) hx hb dX6_addEntry_88 (lv_at hl 6 rfl) ?_
        refine lv_iconst (pc := 90) (v := 1) hx hb dX6_addEntry_90 (by decide) ?_
        refine lv_isub (pc := 91) hx hb dX6_addEntry_91 ?_
        refine s_iald (pc := 92) F w ds_42 h dX6_addEntry_92 (fun h => ?_)
        obtain ⟨S9, hc, h⟩ := bndv_t h
        refine s_cvv (pc := 93) [.int x7, .int (S7.1 40 (x7 - (1 : Int32)).toNatClampNeg), .int (S7.1 41 (x7 - (1 : Int32)).toNatClampNeg), .int (S7.1 42 (x7 - (1 : Int32)).toNatClampNeg)] (fun ad => [.ref (ad 6), .int x7, .int (S7.1 40 (x7 - (1 : Int32)).toNatClampNeg), .int (S7.1 41 (x7 - (1 : Int32)).toNatClampNeg), .int (S7.1 42 (x7 - (1 : Int32)).toNatClampNeg)]) F w (m_X6_putEntry _ _ _ _ _ _ hc) rfl rfl hl.1 ds_6 vc_X6 rfl ok_X6_putEntry rfl kc_X6_putEntry kl_X6_71 ki_X6_putEntry kv_X6_putEntry kn_X6 ⟨Nat.le_trans (by decide) hR1, Nat.le_trans (by decide) hR2⟩ ⟨Nat.zero_le _, Nat.zero_le _⟩ (Nat.le_of_ble_eq_true rfl) dX6_addEntry_93 (fun H locs w => ?_)
        refine s_nm h (fun z10 ez10 h => ?_)
        refine lv_iinc (pc := 96) (v := z10) (lv' := [(7, .int z10), (0, .ref (ad 6)), (1, .int x1), (2, .int x2), (3, .int x3), (4, .int x4), (6, .int x6)]) hx hb dX6_addEntry_96 hl (k := 6) rfl (by rw [ez10]; rfl) (by decide) rfl (fun ls hl => ?_)
        refine lv_goto (pc := 99) (tgt := 42) hx hb dX6_addEntry_99 (by decide) ?_
        exact ih _ _ _ _ _ _ _ h _ _ _ w (lv_sub hl [1, 2, 3, 4, 5, 6, 0] rfl)
set_option maxRecDepth 100000 in
set_option maxHeartbeats 4000000 in
theorem m_X6_addEntry (a1 : Int32) (a2 : Int32) (a3 : Int32) (a4 : Int32) (S S' : SS) (r : Int32) (h : f_X6_addEntry a1 a2 a3 a4 S = some (r, S')) : MT yX6_addEntry cX6_addEntry 8 (some .int) 1 24 (fun ad => [.ref (ad 6), .int a1, .int a2, .int a3, .int a4]) S (some (.int r)) S' := by
  refine MT.of RX6 (fun ad => [(0, .ref (ad 6)), (1, .int a1), (2, .int a2), (3, .int a3), (4, .int a4)]) (by decide) rfl (fun _ => Nat.le_of_ble_eq_true rfl) (fun _ => rfl) ?_
  intro p l e R s m args below meth c dC dI cs ad A hR1 hR2 F H locs ls w hl
  have hx := F.1.1
  have hb := F.1.2.1
  rw [f_X6_addEntry] at h
  refine lv_aload_n (pc := 0) hx hb dX6_addEntry_0 rfl (lv_at hl 0 rfl) ?_
  refine lv_iload_n (pc := 1) hx hb dX6_addEntry_1 rfl (lv_at hl 1 rfl) ?_
  obtain ⟨r2, S1, hc, h⟩ := bnd_t h
  refine s_cvi (pc := 2) [.int a1] (fun ad => [.ref (ad 6), .int a1]) F w (m_X6_entriesOf _ _ _ _ hc) rfl rfl hl.1 ds_6 vc_X6 rfl ok_X6_entriesOf rfl kc_X6_entriesOf kl_X6_43 ki_X6_entriesOf kv_X6_entriesOf kn_X6 ⟨Nat.le_trans (by decide) hR1, Nat.le_trans (by decide) hR2⟩ ⟨Nat.zero_le _, Nat.zero_le _⟩ (Nat.le_of_ble_eq_true rfl) dX6_addEntry_2 (fun H locs w => ?_)
  refine lv_istore (pc := 5) (lv' := [(5, .int r2), (0, .ref (ad 6)), (1, .int a1), (2, .int a2), (3, .int a3), (4, .int a4)]) hx hb dX6_addEntry_5 hl (by decide) rfl (fun ls hl => ?_)
  refine lv_iload_n (pc := 7) hx hb dX6_addEntry_7 rfl (lv_at hl 2 rfl) ?_
  refine lv_if_lt (pc := 8) (tgt := 26) hx hb dX6_addEntry_8 (by decide) (fun q => ?_) (fun q => ?_)
  · have h := ite_t q h
    refine lv_bipush (pc := 26) (v := -3) hx hb dX6_addEntry_26 (by decide) ?_
    exact s_iret F w h dX6_addEntry_28
  · have h := ite_f q h
    refine lv_iload_n (pc := 11) hx hb dX6_addEntry_11 rfl (lv_at hl 2 rfl) ?_
    refine lv_aload_n (pc := 12) hx hb dX6_addEntry_12 rfl (lv_at hl 1 rfl) ?_
    refine s_getI (pc := 13) F w ds_6 (j := 8) vc_X6 vi_X6 rfl (by decide) kf_X6_27 dX6_addEntry_13 ?_
    refine lv_icmp_ge (pc := 16) (tgt := 26) hx hb dX6_addEntry_16 (by decide) (fun q => ?_) (fun q => ?_)
    · have h := ite_t q h
      refine lv_bipush (pc := 26) (v := -3) hx hb dX6_addEntry_26 (by decide) ?_
      exact s_iret F w h dX6_addEntry_28
    · have h := ite_f q h
      refine lv_iload (pc := 19) hx hb dX6_addEntry_19 (lv_at hl 0 rfl) ?_
      refine lv_bipush (pc := 21) (v := 8) hx hb dX6_addEntry_21 (by decide) ?_
      refine lv_icmp_lt (pc := 23) (tgt := 29) hx hb dX6_addEntry_23 (by decide) (fun q => ?_) (fun q => ?_)
      · have h := ite_t q h
        refine lv_bipush (pc := 29) (v := 8) hx hb dX6_addEntry_29 (by decide) ?_
        refine lv_iload_n (pc := 31) hx hb dX6_addEntry_31 rfl (lv_at hl 2 rfl) ?_
        refine lv_imul (pc := 32) hx hb dX6_addEntry_32 ?_
        refine s_nm h (fun z3 ez3 h => ?_)
        rw [← ez3]
        refine lv_istore (pc := 33) (lv' := [(6, .int z3), (5, .int r2), (0, .ref (ad 6)), (1, .int a1), (2, .int a2), (3, .int a3), (4, .int a4)]) hx hb dX6_addEntry_33 hl (by decide) rfl (fun ls hl => ?_)
        refine lv_iload (pc := 35) hx hb dX6_addEntry_35 (lv_at hl 0 rfl) ?_
        refine lv_iload (pc := 37) hx hb dX6_addEntry_37 (lv_at hl 1 rfl) ?_
        refine lv_iadd (pc := 39) hx hb dX6_addEntry_39 ?_
        refine s_nm h (fun z4 ez4 h => ?_)
        rw [← ez4]
        refine lv_istore (pc := 40) (lv' := [(7, .int z4), (6, .int z3), (5, .int r2), (0, .ref (ad 6)), (1, .int a1), (2, .int a2), (3, .int a3), (4, .int a4)]) hx hb dX6_addEntry_40 hl (by decide) rfl (fun ls hl => ?_)
        exact w_X6_addEntry_L42 F (Nat.le_trans (by decide) hR1) (Nat.le_trans (by decide) hR2) _ _ _ _ _ _ _ _ h _ _ _ w (lv_sub hl [3, 4, 5, 6, 7, 1, 0] rfl)
      · have h := ite_f q h
        refine lv_bipush (pc := 26) (v := -3) hx hb dX6_addEntry_26 (by decide) ?_
        exact s_iret F w h dX6_addEntry_28
def f_X8_locker (a1 : Int32) (S : SS) : Option (Int32 × SS) :=
  if a1 < 0 then
    some ((-4 : Int32), S)
  else
    if (40 : Int32) ≤ a1 then
      some ((-4 : Int32), S)
    else
      grd (inb ((114 : Int32) + a1) 946) (
      some (S.1 19 ((114 : Int32) + a1).toNatClampNeg, S))
theorem dX8_locker_0 : decode cX8_locker 0 = .ok (.iload_n 1, 1) := by decide +kernel
theorem dX8_locker_1 : decode cX8_locker 1 = .ok (.ifCond .lt 21, 3) := by decide +kernel
theorem dX8_locker_4 : decode cX8_locker 4 = .ok (.iload_n 1, 1) := by decide +kernel
theorem dX8_locker_5 : decode cX8_locker 5 = .ok (.bipush 40, 2) := by decide +kernel
theorem dX8_locker_7 : decode cX8_locker 7 = .ok (.if_icmp .ge 15, 3) := by decide +kernel
theorem dX8_locker_10 : decode cX8_locker 10 = .ok (.aload_n 0, 1) := by decide +kernel
theorem dX8_locker_11 : decode cX8_locker 11 = .ok (.getfield 13, 3) := by decide +kernel
theorem dX8_locker_14 : decode cX8_locker 14 = .ok (.bipush 114, 2) := by decide +kernel
theorem dX8_locker_16 : decode cX8_locker 16 = .ok (.iload_n 1, 1) := by decide +kernel
theorem dX8_locker_17 : decode cX8_locker 17 = .ok (.iadd, 1) := by decide +kernel
theorem dX8_locker_18 : decode cX8_locker 18 = .ok (.iaload, 1) := by decide +kernel
theorem dX8_locker_19 : decode cX8_locker 19 = .ok (.goto 5, 3) := by decide +kernel
theorem dX8_locker_22 : decode cX8_locker 22 = .ok (.bipush (-4), 2) := by decide +kernel
theorem dX8_locker_24 : decode cX8_locker 24 = .ok (.ireturn, 1) := by decide +kernel
set_option maxRecDepth 100000 in
set_option maxHeartbeats 4000000 in
theorem m_X8_locker (a1 : Int32) (S S' : SS) (r : Int32) (h : f_X8_locker a1 S = some (r, S')) : MT yX8_locker cX8_locker 2 (some .int) 0 0 (fun ad => [.ref (ad 2), .int a1]) S (some (.int r)) S' := by
  refine MT.of RX8 (fun ad => [(0, .ref (ad 2)), (1, .int a1)]) (by decide) rfl (fun _ => Nat.le_of_ble_eq_true rfl) (fun _ => rfl) ?_
  intro p l e R s m args below meth c dC dI cs ad A hR1 hR2 F H locs ls w hl
  have hx := F.1.1
  have hb := F.1.2.1
  rw [f_X8_locker] at h
  refine lv_iload_n (pc := 0) hx hb dX8_locker_0 rfl (lv_at hl 1 rfl) ?_
  refine lv_if_lt (pc := 1) (tgt := 22) hx hb dX8_locker_1 (by decide) (fun q => ?_) (fun q => ?_)
  · have h := ite_t q h
    refine lv_bipush (pc := 22) (v := -4) hx hb dX8_locker_22 (by decide) ?_
    exact s_iret F w h dX8_locker_24
  · have h := ite_f q h
    refine lv_iload_n (pc := 4) hx hb dX8_locker_4 rfl (lv_at hl 1 rfl) ?_
    refine lv_bipush (pc := 5) (v := 40) hx hb dX8_locker_5 (by decide) ?_
    refine lv_icmp_ge (pc := 7) (tgt := 22) hx hb dX8_locker_7 (by decide) (fun q => ?_) (fun q => ?_)
    · have h := ite_t q h
      refine lv_bipush (pc := 22) (v := -4) hx hb dX8_locker_22 (by decide) ?_
      exact s_iret F w h dX8_locker_24
    · have h := ite_f q h
      refine lv_aload_n (pc := 10) hx hb dX8_locker_10 rfl (lv_at hl 0 rfl) ?_
      refine s_getR (pc := 11) F w 19 ds_2 (j := 0) vc_X8 vi_X8 rfl (by decide) kf_X8_13 dX8_locker_11 ?_
      refine lv_bipush (pc := 14) (v := 114) hx hb dX8_locker_14 (by decide) ?_
      refine lv_iload_n (pc := 16) hx hb dX8_locker_16 rfl (lv_at hl 1 rfl) ?_
      refine lv_iadd (pc := 17) hx hb dX8_locker_17 ?_
      refine s_iald (pc := 18) F w ds_19 h dX8_locker_18 (fun h => ?_)
      refine lv_goto (pc := 19) (tgt := 24) hx hb dX8_locker_19 (by decide) ?_
      exact s_iret F w h dX8_locker_24
def f_X6_lockedBy_j30 (K4 : Int32 → Int32 → Int32 → SS → Option (Int32 × SS)) (x1 : Int32) (x2 : Int32) (x3 : Int32) (S : SS) : Option (Int32 × SS) :=
    nm (x3 + (1 : Int32)) (fun z3 =>
    K4 x1 x2 z3 S)
def f_X6_lockedBy_L4  : Nat → Int32 → Int32 → Int32 → SS → Option (Int32 × SS)
  | 0, _, _, _, _ => none
  | n + 1, x1, x2, x3, S =>
    if (S.1 5 8) ≤ x3 then
      some (x2, S)
    else
      bnd (f_X8_locker x3 S) (fun r2 S1 =>
      if r2 = x1 then
        nm (x2 + (1 : Int32)) (fun z4 =>
        f_X6_lockedBy_j30 (fun v0 v1 v2 S => f_X6_lockedBy_L4 n v0 v1 v2 S) x1 z4 x3 S1)
      else
        f_X6_lockedBy_j30 (fun v0 v1 v2 S => f_X6_lockedBy_L4 n v0 v1 v2 S) x1 x2 x3 S1)
def f_X6_lockedBy (a1 : Int32) (S : SS) : Option (Int32 × SS) :=
  f_X6_lockedBy_L4 NF a1 (0 : Int32) (0 : Int32) S
theorem dX6_lockedBy_0 : decode cX6_lockedBy 0 = .ok (.iconst 0, 1) := by decide +kernel
theorem dX6_lockedBy_1 : decode cX6_lockedBy 1 = .ok (.istore_n 2, 1) := by decide +kernel
theorem dX6_lockedBy_2 : decode cX6_lockedBy 2 = .ok (.iconst 0, 1) := by decide +kernel
theorem dX6_lockedBy_3 : decode cX6_lockedBy 3 = .ok (.istore_n 3, 1) := by decide +kernel
theorem dX6_lockedBy_4 : decode cX6_lockedBy 4 = .ok (.iload_n 3, 1) := by decide +kernel
theorem dX6_lockedBy_5 : decode cX6_lockedBy 5 = .ok (.aload_n 0, 1) := by decide +kernel
theorem dX6_lockedBy_6 : decode cX6_lockedBy 6 = .ok (.getfield 35, 3) := by decide +kernel
theorem dX6_lockedBy_9 : decode cX6_lockedBy 9 = .ok (.getfield 53, 3) := by decide +kernel
theorem dX6_lockedBy_12 : decode cX6_lockedBy 12 = .ok (.if_icmp .ge 24, 3) := by decide +kernel
theorem dX6_lockedBy_15 : decode cX6_lockedBy 15 = .ok (.aload_n 0, 1) := by decide +kernel
theorem dX6_lockedBy_16 : decode cX6_lockedBy 16 = .ok (.getfield 31, 3) := by decide +kernel
theorem dX6_lockedBy_19 : decode cX6_lockedBy 19 = .ok (.iload_n 3, 1) := by decide +kernel
theorem dX6_lockedBy_20 : decode cX6_lockedBy 20 = .ok (.invokevirtual 58, 3) := by decide +kernel
theorem dX6_lockedBy_23 : decode cX6_lockedBy 23 = .ok (.iload_n 1, 1) := by decide +kernel
theorem dX6_lockedBy_24 : decode cX6_lockedBy 24 = .ok (.if_icmp .ne 6, 3) := by decide +kernel
theorem dX6_lockedBy_27 : decode cX6_lockedBy 27 = .ok (.iinc 2 1, 3) := by decide +kernel
theorem dX6_lockedBy_30 : decode cX6_lockedBy 30 = .ok (.iinc 3 1, 3) := by decide +kernel
theorem dX6_lockedBy_33 : decode cX6_lockedBy 33 = .ok (.goto (-29), 3) := by decide +kernel
theorem dX6_lockedBy_36 : decode cX6_lockedBy 36 = .ok (.iload_n 2, 1) := by decide +kernel
theorem dX6_lockedBy_37 : decode cX6_lockedBy 37 = .ok (.ireturn, 1) := by decide +kernel
set_option maxRecDepth 100000 in
set_option maxHeartbeats 4000000 in
theorem w_X6_lockedBy_j30 {p : Program} {l : Launch} {e : Env} {R : Room} {s : State} {m : MethodId} {args : Array Value} {below : List Frame} {meth : Method} {c : Code} {dC : Nat → ClassId} {dI : Nat → Nat → Nat} {cs : Nat → ClassId} {ad : Nat → Nat} {A : Nat → Prop} {D0 : Nat → Nat} {S' : SS} {r : Int32} (F : Fx p s m args meth c cX6_lockedBy 4 RX6 (some .int) dC dI cs A) (hR1 : 0 ≤ R.frames) (hR2 : 0 ≤ R.locals) (K4 : Int32 → Int32 → Int32 → SS → Option (Int32 × SS)) (hK4 : ∀ (v0 : Int32) (v1 : Int32) (v2 : Int32) (S : SS), K4 v0 v1 v2 S = some (r, S') → AW p l e R s m args below meth c dC dI cs ad A D0 (some (.int r)) S' 4 4 [(0, .ref (ad 6)), (1, .int v0), (2, .int v1), (3, .int v2)] [] S) (x1 : Int32) (x2 : Int32) (x3 : Int32) (S : SS) (h : f_X6_lockedBy_j30 K4 x1 x2 x3 S = some (r, S')) : AW p l e R s m args below meth c dC dI cs ad A D0 (some (.int r)) S' 4 30 [(0, .ref (ad 6)), (1, .int x1), (2, .int x2), (3, .int x3)] [] S := by
  have hx := F.1.1
  have hb := F.1.2.1
  intro H locs ls w hl
  rw [f_X6_lockedBy_j30] at h
  refine s_nm h (fun z3 ez3 h => ?_)
  refine lv_iinc (pc := 30) (v := z3) (lv' := [(3, .int z3), (0, .ref (ad 6)), (1, .int x1), (2, .int x2)]) hx hb dX6_lockedBy_30 hl (k := 3) rfl (by rw [ez3]; rfl) (by decide) rfl (fun ls hl => ?_)
  refine lv_goto (pc := 33) (tgt := 4) hx hb dX6_lockedBy_33 (by decide) ?_
  exact hK4 _ _ _ _ h _ _ _ w (lv_sub hl [1, 2, 3, 0] rfl)
set_option maxRecDepth 100000 in
set_option maxHeartbeats 4000000 in
theorem w_X6_lockedBy_L4 {p : Program} {l : Launch} {e : Env} {R : Room} {s : State} {m : MethodId} {args : Array Value} {below : List Frame} {meth : Method} {c : Code} {dC : Nat → ClassId} {dI : Nat → Nat → Nat} {cs : Nat → ClassId} {ad : Nat → Nat} {A : Nat → Prop} {D0 : Nat → Nat} {S' : SS} {r : Int32} (F : Fx p s m args meth c cX6_lockedBy 4 RX6 (some .int) dC dI cs A) (hR1 : 1 ≤ R.frames) (hR2 : 21 ≤ R.locals) : ∀ (n : Nat) (x1 : Int32) (x2 : Int32) (x3 : Int32) (S : SS), f_X6_lockedBy_L4 n x1 x2 x3 S = some (r, S') → AW p l e R s m args below meth c dC dI cs ad A D0 (some (.int r)) S' 4 4 [(0, .ref (ad 6)), (1, .int x1), (2, .int x2), (3, .int x3)] [] S := by
  have hx := F.1.1
  have hb := F.1.2.1
  intro n
  induction n with
  | zero => intro x1 x2 x3 S h; cases h
  | succ n ih =>
    intro x1 x2 x3 S h H locs ls w hl
    rw [f_X6_lockedBy_L4] at h
    refine lv_iload_n (pc := 4) hx hb dX6_lockedBy_4 rfl (lv_at hl 3 rfl) ?_
    refine lv_aload_n (pc := 5) hx hb dX6_lockedBy_5 rfl (lv_at hl 0 rfl) ?_
    refine s_getR (pc := 6) F w 5 ds_6 (j := 1) vc_X6 vi_X6 rfl (by decide) kf_X6_35 dX6_lockedBy_6 ?_
    refine s_getI (pc := 9) F w ds_5 (j := 8) vc_X2 vi_X2 rfl (by decide) kf_X6_53 dX6_lockedBy_9 ?_
    refine lv_icmp_ge (pc := 12) (tgt := 36) hx hb dX6_lockedBy_12 (by decide) (fun q => ?_) (fun q => ?_)
    · have h := ite_t q h
      refine lv_iload_n (pc := 36) hx hb dX6_lockedBy_36 rfl (lv_at hl 2 rfl) ?_
      exact s_iret F w h dX6_lockedBy_37
    · have h := ite_f q h
      refine lv_aload_n (pc := 15) hx hb dX6_lockedBy_15 rfl (lv_at hl 0 rfl) ?_
      refine s_getR (pc := 16) F w 2 ds_6 (j := 0) vc_X6 vi_X6 rfl (by decide) kf_X6_31 dX6_lockedBy_16 ?_
      refine lv_iload_n (pc := 19) hx hb dX6_lockedBy_19 rfl (lv_at hl 3 rfl) ?_
      obtain ⟨r2, S1, hc, h⟩ := bnd_t h
      refine s_cvi (pc := 20) [.int x3] (fun ad => [.ref (ad 2), .int x3]) F w (m_X8_locker _ _ _ _ hc) rfl rfl hl.1 ds_2 vc_X8 rfl ok_X8_locker rfl kc_X8_locker kl_X6_58 ki_X8_locker kv_X8_locker kn_X8 ⟨Nat.le_trans (by decide) hR1, Nat.le_trans (by decide) hR2⟩ ⟨Nat.zero_le _, Nat.zero_le _⟩ (Nat.le_of_ble_eq_true rfl) dX6_lockedBy_20 (fun H locs w => ?_)
      refine lv_iload_n (pc := 23) hx hb dX6_lockedBy_23 rfl (lv_at hl 1 rfl) ?_
      refine lv_icmp_ne (pc := 24) (tgt := 30) hx hb dX6_lockedBy_24 (by decide) (fun q => ?_) (fun q => ?_)
      · have h := ite_f q h
        exact w_X6_lockedBy_j30 F (Nat.le_trans (by decide) hR1) (Nat.le_trans (by decide) hR2) _ (fun v0 v1 v2 S h => ih v0 v1 v2 S h) _ _ _ _ h _ _ _ w (lv_sub hl [0, 1, 2, 3] rfl)
      · have h := ite_t q h
        refine s_nm h (fun z4 ez4 h => ?_)
        refine lv_iinc (pc := 27) (v := z4) (lv' := [(2, .int z4), (0, .ref (ad 6)), (1, .int x1), (3, .int x3)]) hx hb dX6_lockedBy_27 hl (k := 2) rfl (by rw [ez4]; rfl) (by decide) rfl (fun ls hl => ?_)
        exact w_X6_lockedBy_j30 F (Nat.le_trans (by decide) hR1) (Nat.le_trans (by decide) hR2) _ (fun v0 v1 v2 S h => ih v0 v1 v2 S h) _ _ _ _ h _ _ _ w (lv_sub hl [1, 2, 0, 3] rfl)
set_option maxRecDepth 100000 in
set_option maxHeartbeats 4000000 in
theorem m_X6_lockedBy (a1 : Int32) (S S' : SS) (r : Int32) (h : f_X6_lockedBy a1 S = some (r, S')) : MT yX6_lockedBy cX6_lockedBy 4 (some .int) 1 21 (fun ad => [.ref (ad 6), .int a1]) S (some (.int r)) S' := by
  refine MT.of RX6 (fun ad => [(0, .ref (ad 6)), (1, .int a1)]) (by decide) rfl (fun _ => Nat.le_of_ble_eq_true rfl) (fun _ => rfl) ?_
  intro p l e R s m args below meth c dC dI cs ad A hR1 hR2 F H locs ls w hl
  have hx := F.1.1
  have hb := F.1.2.1
  rw [f_X6_lockedBy] at h
  refine lv_iconst (pc := 0) (v := 0) hx hb dX6_lockedBy_0 (by decide) ?_
  refine lv_istore_n (pc := 1) (lv' := [(2, .int (0 : Int32)), (0, .ref (ad 6)), (1, .int a1)]) hx hb dX6_lockedBy_1 rfl hl (by decide) rfl (fun ls hl => ?_)
  refine lv_iconst (pc := 2) (v := 0) hx hb dX6_lockedBy_2 (by decide) ?_
  refine lv_istore_n (pc := 3) (lv' := [(3, .int (0 : Int32)), (2, .int (0 : Int32)), (0, .ref (ad 6)), (1, .int a1)]) hx hb dX6_lockedBy_3 rfl hl (by decide) rfl (fun ls hl => ?_)
  exact w_X6_lockedBy_L4 F (Nat.le_trans (by decide) hR1) (Nat.le_trans (by decide) hR2) _ _ _ _ _ h _ _ _ w (lv_sub hl [2, 3, 1, 0] rfl)
def f_X6_lockedFinding (a1 : Int32) (S : SS) : Option (Int32 × SS) :=
  wr S 1 6 a1 (fun S1 =>
  some ((11 : Int32), S1))
theorem dX6_lockedFinding_0 : decode cX6_lockedFinding 0 = .ok (.aload_n 0, 1) := by decide +kernel
theorem dX6_lockedFinding_1 : decode cX6_lockedFinding 1 = .ok (.getfield 39, 3) := by decide +kernel
theorem dX6_lockedFinding_4 : decode cX6_lockedFinding 4 = .ok (.iload_n 1, 1) := by decide +kernel
theorem dX6_lockedFinding_5 : decode cX6_lockedFinding 5 = .ok (.putfield 63, 3) := by decide +kernel
theorem dX6_lockedFinding_8 : decode cX6_lockedFinding 8 = .ok (.bipush 11, 2) := by decide +kernel
theorem dX6_lockedFinding_10 : decode cX6_lockedFinding 10 = .ok (.ireturn, 1) := by decide +kernel
set_option maxRecDepth 100000 in
set_option maxHeartbeats 4000000 in
theorem m_X6_lockedFinding (a1 : Int32) (S S' : SS) (r : Int32) (h : f_X6_lockedFinding a1 S = some (r, S')) : MT yX6_lockedFinding cX6_lockedFinding 2 (some .int) 0 0 (fun ad => [.ref (ad 6), .int a1]) S (some (.int r)) S' := by
  refine MT.of RX6 (fun ad => [(0, .ref (ad 6)), (1, .int a1)]) (by decide) rfl (fun _ => Nat.le_of_ble_eq_true rfl) (fun _ => rfl) ?_
  intro p l e R s m args below meth c dC dI cs ad A hR1 hR2 F H locs ls w hl
  have hx := F.1.1
  have hb := F.1.2.1
  rw [f_X6_lockedFinding] at h
  refine lv_aload_n (pc := 0) hx hb dX6_lockedFinding_0 rfl (lv_at hl 0 rfl) ?_
  refine s_getR (pc := 1) F w 1 ds_6 (j := 2) vc_X6 vi_X6 rfl (by decide) kf_X6_39 dX6_lockedFinding_1 ?_
  refine lv_iload_n (pc := 4) hx hb dX6_lockedFinding_4 rfl (lv_at hl 1 rfl) ?_
  refine s_putI (pc := 5) F w ds_1 vc_X5 vi_X5 tyX5_ok nmX5 (j := 6) rfl (by decide) kf_X6_63 rfl pd_I h dX6_lockedFinding_5 (fun S1 H locs h w => ?_)
  refine lv_bipush (pc := 8) (v := 11) hx hb dX6_lockedFinding_8 (by decide) ?_
  exact s_iret F w h dX6_lockedFinding_10
def f_X6_entryFinding_L15  : Nat → Int32 → Int32 → Int32 → Int32 → Int32 → SS → Option (Int32 × SS)
  | 0, _, _, _, _, _, _ => none
  | n + 1, x1, x2, x3, x4, x5, S =>
    if (x3 + x4) ≤ x5 then
      if x4 < (8 : Int32) then
        bnd (f_X6_lockedBy x1 S) (fun r5 S4 =>
        if r5 = 0 then
          some ((0 : Int32), S4)
        else
          bnd (f_X6_lockedFinding x1 S4) (fun r7 S6 =>
          some (r7, S6)))
      else
        some ((9 : Int32), S)
    else
      grd (inb x5 96) (
      if (S.1 40 x5.toNatClampNeg) = x2 then
        some ((9 : Int32), S)
      else
        nm (x5 + (1 : Int32)) (fun z8 =>
        f_X6_entryFinding_L15 n x1 x2 x3 x4 z8 S))
def f_X6_entryFinding (a1 : Int32) (a2 : Int32) (S : SS) : Option (Int32 × SS) :=
  nm ((8 : Int32) * a1) (fun z1 =>
  bnd (f_X6_entriesOf a1 S) (fun r3 S2 =>
  f_X6_entryFinding_L15 NF a1 a2 z1 r3 z1 S2))
theorem dX6_entryFinding_0 : decode cX6_entryFinding 0 = .ok (.bipush 8, 2) := by decide +kernel
theorem dX6_entryFinding_2 : decode cX6_entryFinding 2 = .ok (.iload_n 1, 1) := by decide +kernel
theorem dX6_entryFinding_3 : decode cX6_entryFinding 3 = .ok (.imul, 1) := by decide +kernel
theorem dX6_entryFinding_4 : decode cX6_entryFinding 4 = .ok (.istore_n 3, 1) := by decide +kernel
theorem dX6_entryFinding_5 : decode cX6_entryFinding 5 = .ok (.aload_n 0, 1) := by decide +kernel
theorem dX6_entryFinding_6 : decode cX6_entryFinding 6 = .ok (.iload_n 1, 1) := by decide +kernel
theorem dX6_entryFinding_7 : decode cX6_entryFinding 7 = .ok (.invokevirtual 43, 3) := by decide +kernel
theorem dX6_entryFinding_10 : decode cX6_entryFinding 10 = .ok (.istore 4, 2) := by decide +kernel
theorem dX6_entryFinding_12 : decode cX6_entryFinding 12 = .ok (.iload_n 3, 1) := by decide +kernel
theorem dX6_entryFinding_13 : decode cX6_entryFinding 13 = .ok (.istore 5, 2) := by decide +kernel
theorem dX6_entryFinding_15 : decode cX6_entryFinding 15 = .ok (.iload 5, 2) := by decide +kernel
theorem dX6_entryFinding_17 : decode cX6_entryFinding 17 = .ok (.iload_n 3, 1) := by decide +kernel
theorem dX6_entryFinding_18 : decode cX6_entryFinding 18 = .ok (.iload 4, 2) := by decide +kernel
theorem dX6_entryFinding_20 : decode cX6_entryFinding 20 = .ok (.iadd, 1) := by decide +kernel
theorem dX6_entryFinding_21 : decode cX6_entryFinding 21 = .ok (.if_icmp .ge 23, 3) := by decide +kernel
theorem dX6_entryFinding_24 : decode cX6_entryFinding 24 = .ok (.aload_n 0, 1) := by decide +kernel
theorem dX6_entryFinding_25 : decode cX6_entryFinding 25 = .ok (.getfield 15, 3) := by decide +kernel
theorem dX6_entryFinding_28 : decode cX6_entryFinding 28 = .ok (.iload 5, 2) := by decide +kernel
theorem dX6_entryFinding_30 : decode cX6_entryFinding 30 = .ok (.iaload, 1) := by decide +kernel
theorem dX6_entryFinding_31 : decode cX6_entryFinding 31 = .ok (.iload_n 2, 1) := by decide +kernel
theorem dX6_entryFinding_32 : decode cX6_entryFinding 32 = .ok (.if_icmp .ne 6, 3) := by decide +kernel
theorem dX6_entryFinding_35 : decode cX6_entryFinding 35 = .ok (.bipush 9, 2) := by decide +kernel
theorem dX6_entryFinding_37 : decode cX6_entryFinding 37 = .ok (.ireturn, 1) := by decide +kernel
theorem dX6_entryFinding_38 : decode cX6_entryFinding 38 = .ok (.iinc 5 1, 3) := by decide +kernel
theorem dX6_entryFinding_41 : decode cX6_entryFinding 41 = .ok (.goto (-26), 3) := by decide +kernel
theorem dX6_entryFinding_44 : decode cX6_entryFinding 44 = .ok (.iload 4, 2) := by decide +kernel
theorem dX6_entryFinding_46 : decode cX6_entryFinding 46 = .ok (.bipush 8, 2) := by decide +kernel
theorem dX6_entryFinding_48 : decode cX6_entryFinding 48 = .ok (.if_icmp .lt 6, 3) := by decide +kernel
theorem dX6_entryFinding_51 : decode cX6_entryFinding 51 = .ok (.bipush 9, 2) := by decide +kernel
theorem dX6_entryFinding_53 : decode cX6_entryFinding 53 = .ok (.ireturn, 1) := by decide +kernel
theorem dX6_entryFinding_54 : decode cX6_entryFinding 54 = .ok (.aload_n 0, 1) := by decide +kernel
theorem dX6_entryFinding_55 : decode cX6_entryFinding 55 = .ok (.iload_n 1, 1) := by decide +kernel
theorem dX6_entryFinding_56 : decode cX6_entryFinding 56 = .ok (.invokevirtual 47, 3) := by decide +kernel
theorem dX6_entryFinding_59 : decode cX6_entryFinding 59 = .ok (.ifCond .ne 7, 3) := by decide +kernel
theorem dX6_entryFinding_62 : decode cX6_entryFinding 62 = .ok (.iconst 0, 1) := by decide +kernel
theorem dX6_entryFinding_63 : decode cX6_entryFinding 63 = .ok (.goto 8, 3) := by decide +kernel
theorem dX6_entryFinding_66 : decode cX6_entryFinding 66 = .ok (.aload_n 0, 1) := by decide +kernel
theorem dX6_entryFinding_67 : decode cX6_entryFinding 67 = .ok (.iload_n 1, 1) := by decide +kernel
theorem dX6_entryFinding_68 : decode cX6_entryFinding 68 = .ok (.invokevirtual 50, 3) := by decide +kernel
theorem dX6_entryFinding_71 : decode cX6_entryFinding 71 = .ok (.ireturn, 1) := by decide +kernel
set_option maxRecDepth 100000 in
set_option maxHeartbeats 4000000 in
theorem w_X6_entryFinding_L15 {p : Program} {l : Launch} {e : Env} {R : Room} {s : State} {m : MethodId} {args : Array Value} {below : List Frame} {meth : Method} {c : Code} {dC : Nat → ClassId} {dI : Nat → Nat → Nat} {cs : Nat → ClassId} {ad : Nat → Nat} {A : Nat → Prop} {D0 : Nat → Nat} {S' : SS} {r : Int32} (F : Fx p s m args meth c cX6_entryFinding 6 RX6 (some .int) dC dI cs A) (hR1 : 2 ≤ R.frames) (hR2 : 44 ≤ R.locals) : ∀ (n : Nat) (x1 : Int32) (x2 : Int32) (x3 : Int32) (x4 : Int32) (x5 : Int32) (S : SS), f_X6_entryFinding_L15 n x1 x2 x3 x4 x5 S = some (r, S') → AW p l e R s m args below meth c dC dI cs ad A D0 (some (.int r)) S' 6 15 [(0, .ref (ad 6)), (1, .int x1), (2, .int x2), (3, .int x3), (4, .int x4), (5, .int x5)] [] S := by
  have hx := F.1.1
  have hb := F.1.2.1
  intro n
  induction n with
  | zero => intro x1 x2 x3 x4 x5 S h; cases h
  | succ n ih =>
    intro x1 x2 x3 x4 x5 S h H locs ls w hl
    rw [f_X6_entryFinding_L15] at h
    refine lv_iload (pc := 15) hx hb dX6_entryFinding_15 (lv_at hl 5 rfl) ?_
    refine lv_iload_n (pc := 17) hx hb dX6_entryFinding_17 rfl (lv_at hl 3 rfl) ?_
    refine lv_iload (pc := 18) hx hb dX6_entryFinding_18 (lv_at hl 4 rfl) ?_
    refine lv_iadd (pc := 20) hx hb dX6_entryFinding_20 ?_
    refine lv_icmp_ge (pc := 21) (tgt := 44) hx hb dX6_entryFinding_21 (by decide) (fun q => ?_) (fun q => ?_)
    · have h := ite_t q h
      refine lv_iload (pc := 44) hx hb dX6_entryFinding_44 (lv_at hl 4 rfl) ?_
      refine lv_bipush (pc := 46) (v := 8) hx hb dX6_entryFinding_46 (by decide) ?_
      refine lv_icmp_lt (pc := 48) (tgt := 54) hx hb dX6_entryFinding_48 (by decide) (fun q => ?_) (fun q => ?_)
      · have h := ite_t q h
        refine lv_aload_n (pc := 54) hx hb dX6_entryFinding_54 rfl (lv_at hl 0 rfl) ?_
        refine lv_iload_n (pc := 55) hx hb dX6_entryFinding_55 rfl (lv_at hl 1 rfl) ?_
        obtain ⟨r5, S4, hc, h⟩ := bnd_t h
        refine s_cvi (pc := 56) [.int x1] (fun ad => [.ref (ad 6), .int x1]) F w (m_X6_lockedBy _ _ _ _ hc) rfl rfl hl.1 ds_6 vc_X6 rfl ok_X6_lockedBy rfl kc_X6_lockedBy kl_X6_47 ki_X6_lockedBy kv_X6_lockedBy kn_X6 ⟨Nat.le_trans (by decide) hR1, Nat.le_trans (by decide) hR2⟩ ⟨Nat.zero_le _, Nat.zero_le _⟩ (Nat.le_of_ble_eq_true rfl) dX6_entryFinding_56 (fun H locs w => ?_)
        refine lv_if_ne (pc := 59) (tgt := 66) hx hb dX6_entryFinding_59 (by decide) (fun q => ?_) (fun q => ?_)
        · have h := ite_f q h
          refine lv_aload_n (pc := 66) hx hb dX6_entryFinding_66 rfl (lv_at hl 0 rfl) ?_
          refine lv_iload_n (pc := 67) hx hb dX6_entryFinding_67 rfl (lv_at hl 1 rfl) ?_
          obtain ⟨r7, S6, hc, h⟩ := bnd_t h
          refine s_cvi (pc := 68) [.int x1] (fun ad => [.ref (ad 6), .int x1]) F w (m_X6_lockedFinding _ _ _ _ hc) rfl rfl hl.1 ds_6 vc_X6 rfl ok_X6_lockedFinding rfl kc_X6_lockedFinding kl_X6_50 ki_X6_lockedFinding kv_X6_lockedFinding kn_X6 ⟨Nat.le_trans (by decide) hR1, Nat.le_trans (by decide) hR2⟩ ⟨Nat.zero_le _, Nat.zero_le _⟩ (Nat.le_of_ble_eq_true rfl) dX6_entryFinding_68 (fun H locs w => ?_)
          exact s_iret F w h dX6_entryFinding_71
        · have h := ite_t q h
          refine lv_iconst (pc := 62) (v := 0) hx hb dX6_entryFinding_62 (by decide) ?_
          refine lv_goto (pc := 63) (tgt := 71) hx hb dX6_entryFinding_63 (by decide) ?_
          exact s_iret F w h dX6_entryFinding_71
      · have h := ite_f q h
        refine lv_bipush (pc := 51) (v := 9) hx hb dX6_entryFinding_51 (by decide) ?_
        exact s_iret F w h dX6_entryFinding_53
    · have h := ite_f q h
      refine lv_aload_n (pc := 24) hx hb dX6_entryFinding_24 rfl (lv_at hl 0 rfl) ?_
      refine s_getR (pc := 25) F w 40 ds_6 (j := 4) vc_X6 vi_X6 rfl (by decide) kf_X6_15 dX6_entryFinding_25 ?_
      refine lv_iload (pc := 28) hx hb dX6_entryFinding_28 (lv_at hl 5 rfl) ?_
      refine s_iald (pc := 30) F w ds_40 h dX6_entryFinding_30 (fun h => ?_)
      refine lv_iload_n (pc := 31) hx hb dX6_entryFinding_31 rfl (lv_at hl 2 rfl) ?_
      refine lv_icmp_ne (pc := 32) (tgt := 38) hx hb dX6_entryFinding_32 (by decide) (fun q => ?_) (fun q => ?_)
      · have h := ite_f q h
        refine s_nm h (fun z8 ez8 h => ?_)
        refine lv_iinc (pc := 38) (v := z8) (lv' := [(5, .int z8), (0, .ref (ad 6)), (1, .int x1), (2, .int x2), (3, .int x3), (4, .int x4)]) hx hb dX6_entryFinding_38 hl (k := 5) rfl (by rw [ez8]; rfl) (by decide) rfl (fun ls hl => ?_)
        refine lv_goto (pc := 41) (tgt := 15) hx hb dX6_entryFinding_41 (by decide) ?_
        exact ih _ _ _ _ _ _ h _ _ _ w (lv_sub hl [1, 2, 3, 4, 5, 0] rfl)
      · have h := ite_t q h
        refine lv_bipush (pc := 35) (v := 9) hx hb dX6_entryFinding_35 (by decide) ?_
        exact s_iret F w h dX6_entryFinding_37
set_option maxRecDepth 100000 in
set_option maxHeartbeats 4000000 in
theorem m_X6_entryFinding (a1 : Int32) (a2 : Int32) (S S' : SS) (r : Int32) (h : f_X6_entryFinding a1 a2 S = some (r, S')) : MT yX6_entryFinding cX6_entryFinding 6 (some .int) 2 44 (fun ad => [.ref (ad 6), .int a1, .int a2]) S (some (.int r)) S' := by
  refine MT.of RX6 (fun ad => [(0, .ref (ad 6)), (1, .int a1), (2, .int a2)]) (by decide) rfl (fun _ => Nat.le_of_ble_eq_true rfl) (fun _ => rfl) ?_
  intro p l e R s m args below meth c dC dI cs ad A hR1 hR2 F H locs ls w hl
  have hx := F.1.1
  have hb := F.1.2.1
  rw [f_X6_entryFinding] at h
  refine lv_bipush (pc := 0) (v := 8) hx hb dX6_entryFinding_0 (by decide) ?_
  refine lv_iload_n (pc := 2) hx hb dX6_entryFinding_2 rfl (lv_at hl 1 rfl) ?_
  refine lv_imul (pc := 3) hx hb dX6_entryFinding_3 ?_
  refine s_nm h (fun z1 ez1 h => ?_)
  rw [← ez1]
  refine lv_istore_n (pc := 4) (lv' := [(3, .int z1), (0, .ref (ad 6)), (1, .int a1), (2, .int a2)]) hx hb dX6_entryFinding_4 rfl hl (by decide) rfl (fun ls hl => ?_)
  refine lv_aload_n (pc := 5) hx hb dX6_entryFinding_5 rfl (lv_at hl 1 rfl) ?_
  refine lv_iload_n (pc := 6) hx hb dX6_entryFinding_6 rfl (lv_at hl 2 rfl) ?_
  obtain ⟨r3, S2, hc, h⟩ := bnd_t h
  refine s_cvi (pc := 7) [.int a1] (fun ad => [.ref (ad 6), .int a1]) F w (m_X6_entriesOf _ _ _ _ hc) rfl rfl hl.1 ds_6 vc_X6 rfl ok_X6_entriesOf rfl kc_X6_entriesOf kl_X6_43 ki_X6_entriesOf kv_X6_entriesOf kn_X6 ⟨Nat.le_trans (by decide) hR1, Nat.le_trans (by decide) hR2⟩ ⟨Nat.zero_le _, Nat.zero_le _⟩ (Nat.le_of_ble_eq_true rfl) dX6_entryFinding_7 (fun H locs w => ?_)
  refine lv_istore (pc := 10) (lv' := [(4, .int r3), (3, .int z1), (0, .ref (ad 6)), (1, .int a1), (2, .int a2)]) hx hb dX6_entryFinding_10 hl (by decide) rfl (fun ls hl => ?_)
  refine lv_iload_n (pc := 12) hx hb dX6_entryFinding_12 rfl (lv_at hl 1 rfl) ?_
  refine lv_istore (pc := 13) (lv' := [(5, .int z1), (4, .int r3), (3, .int z1), (0, .ref (ad 6)), (1, .int a1), (2, .int a2)]) hx hb dX6_entryFinding_13 hl (by decide) rfl (fun ls hl => ?_)
  exact w_X6_entryFinding_L15 F (Nat.le_trans (by decide) hR1) (Nat.le_trans (by decide) hR2) _ _ _ _ _ _ _ h _ _ _ w (lv_sub hl [3, 4, 5, 2, 1, 0] rfl)
def f_X2_pointFinding (a1 : Int32) (S : SS) : Option (Int32 × SS) :=
  if a1 < 0 then
    some ((3 : Int32), S)
  else
    if a1 < (40 : Int32) then
      if (S.1 5 8) ≤ a1 then
        some ((1 : Int32), S)
      else
        some ((0 : Int32), S)
    else
      some ((3 : Int32), S)
theorem dX2_pointFinding_0 : decode cX2_pointFinding 0 = .ok (.iload_n 1, 1) := by decide +kernel
theorem dX2_pointFinding_1 : decode cX2_pointFinding 1 = .ok (.ifCond .lt 9, 3) := by decide +kernel
theorem dX2_pointFinding_4 : decode cX2_pointFinding 4 = .ok (.iload_n 1, 1) := by decide +kernel
theorem dX2_pointFinding_5 : decode cX2_pointFinding 5 = .ok (.bipush 40, 2) := by decide +kernel
theorem dX2_pointFinding_7 : decode cX2_pointFinding 7 = .ok (.if_icmp .lt 5, 3) := by decide +kernel
theorem dX2_pointFinding_10 : decode cX2_pointFinding 10 = .ok (.iconst 3, 1) := by decide +kernel
theorem dX2_pointFinding_11 : decode cX2_pointFinding 11 = .ok (.ireturn, 1) := by decide +kernel
theorem dX2_pointFinding_12 : decode cX2_pointFinding 12 = .ok (.iload_n 1, 1) := by decide +kernel
theorem dX2_pointFinding_13 : decode cX2_pointFinding 13 = .ok (.aload_n 0, 1) := by decide +kernel
theorem dX2_pointFinding_14 : decode cX2_pointFinding 14 = .ok (.getfield 35, 3) := by decide +kernel
theorem dX2_pointFinding_17 : decode cX2_pointFinding 17 = .ok (.if_icmp .ge 7, 3) := by decide +kernel
theorem dX2_pointFinding_20 : decode cX2_pointFinding 20 = .ok (.iconst 0, 1) := by decide +kernel
theorem dX2_pointFinding_21 : decode cX2_pointFinding 21 = .ok (.goto 4, 3) := by decide +kernel
theorem dX2_pointFinding_24 : decode cX2_pointFinding 24 = .ok (.iconst 1, 1) := by decide +kernel
theorem dX2_pointFinding_25 : decode cX2_pointFinding 25 = .ok (.ireturn, 1) := by decide +kernel
set_option maxRecDepth 100000 in
set_option maxHeartbeats 4000000 in
theorem m_X2_pointFinding (a1 : Int32) (S S' : SS) (r : Int32) (h : f_X2_pointFinding a1 S = some (r, S')) : MT yX2_pointFinding cX2_pointFinding 2 (some .int) 0 0 (fun ad => [.ref (ad 5), .int a1]) S (some (.int r)) S' := by
  refine MT.of RX2 (fun ad => [(0, .ref (ad 5)), (1, .int a1)]) (by decide) rfl (fun _ => Nat.le_of_ble_eq_true rfl) (fun _ => rfl) ?_
  intro p l e R s m args below meth c dC dI cs ad A hR1 hR2 F H locs ls w hl
  have hx := F.1.1
  have hb := F.1.2.1
  rw [f_X2_pointFinding] at h
  refine lv_iload_n (pc := 0) hx hb dX2_pointFinding_0 rfl (lv_at hl 1 rfl) ?_
  refine lv_if_lt (pc := 1) (tgt := 10) hx hb dX2_pointFinding_1 (by decide) (fun q => ?_) (fun q => ?_)
  · have h := ite_t q h
    refine lv_iconst (pc := 10) (v := 3) hx hb dX2_pointFinding_10 (by decide) ?_
    exact s_iret F w h dX2_pointFinding_11
  · have h := ite_f q h
    refine lv_iload_n (pc := 4) hx hb dX2_pointFinding_4 rfl (lv_at hl 1 rfl) ?_
    refine lv_bipush (pc := 5) (v := 40) hx hb dX2_pointFinding_5 (by decide) ?_
    refine lv_icmp_lt (pc := 7) (tgt := 12) hx hb dX2_pointFinding_7 (by decide) (fun q => ?_) (fun q => ?_)
    · have h := ite_t q h
      refine lv_iload_n (pc := 12) hx hb dX2_pointFinding_12 rfl (lv_at hl 1 rfl) ?_
      refine lv_aload_n (pc := 13) hx hb dX2_pointFinding_13 rfl (lv_at hl 0 rfl) ?_
      refine s_getI (pc := 14) F w ds_5 (j := 8) vc_X2 vi_X2 rfl (by decide) kf_X2_35 dX2_pointFinding_14 ?_
      refine lv_icmp_ge (pc := 17) (tgt := 24) hx hb dX2_pointFinding_17 (by decide) (fun q => ?_) (fun q => ?_)
      · have h := ite_t q h
        refine lv_iconst (pc := 24) (v := 1) hx hb dX2_pointFinding_24 (by decide) ?_
        exact s_iret F w h dX2_pointFinding_25
      · have h := ite_f q h
        refine lv_iconst (pc := 20) (v := 0) hx hb dX2_pointFinding_20 (by decide) ?_
        refine lv_goto (pc := 21) (tgt := 25) hx hb dX2_pointFinding_21 (by decide) ?_
        exact s_iret F w h dX2_pointFinding_25
    · have h := ite_f q h
      refine lv_iconst (pc := 10) (v := 3) hx hb dX2_pointFinding_10 (by decide) ?_
      exact s_iret F w h dX2_pointFinding_11
def f_X11_via_j70  (x1 : Int32) (x2 : Int32) (x3 : Int32) (x4 : Int32) (x5 : Int32) (S : SS) : Option (Int32 × SS) :=
    if x5 = 0 then
      bndv (f_X1_forget  S) (fun S8 =>
      bnd (f_X6_addEntry x1 x2 x3 x4 S8) (fun r10 S9 =>
      some (r10, S9)))
    else
      bnd (f_X5_found x5 S) (fun r12 S11 =>
      some (r12, S11))
def f_X11_via_j54  (x1 : Int32) (x2 : Int32) (x3 : Int32) (x4 : Int32) (x5 : Int32) (S : SS) : Option (Int32 × SS) :=
    if x5 = 0 then
      bnd (f_X6_entryFinding x1 x2 S) (fun r14 S13 =>
      f_X11_via_j70 x1 x2 x3 x4 r14 S13)
    else
      f_X11_via_j70 x1 x2 x3 x4 x5 S
def f_X11_via (a1 : Int32) (a2 : Int32) (a3 : Int32) (a4 : Int32) (S : SS) : Option (Int32 × SS) :=
  bnd (f_X11_isNot a3 (0 : Int32) (2 : Int32) S) (fun r2 S1 =>
  if r2 = 0 then
    bnd (f_X11_isNot a4 (0 : Int32) (99 : Int32) S1) (fun r4 S3 =>
    if r4 = 0 then
      bndv (f_X5_begin  S3) (fun S5 =>
      bnd (f_X6_routeFinding a1 S5) (fun r7 S6 =>
      if r7 = 0 then
        bnd (f_X2_pointFinding a2 S6) (fun r16 S15 =>
        f_X11_via_j54 a1 a2 a3 a4 r16 S15)
      else
        f_X11_via_j54 a1 a2 a3 a4 r7 S6))
    else
      some ((-1 : Int32), S3))
  else
    some ((-1 : Int32), S1))
theorem dX11_via_0 : decode cX11_via 0 = .ok (.iload_n 3, 1) := by decide +kernel
theorem dX11_via_1 : decode cX11_via 1 = .ok (.iconst 0, 1) := by decide +kernel
theorem dX11_via_2 : decode cX11_via 2 = .ok (.iconst 2, 1) := by decide +kernel
theorem dX11_via_3 : decode cX11_via 3 = .ok (.invokestatic 108, 3) := by decide +kernel
theorem dX11_via_6 : decode cX11_via 6 = .ok (.ifCond .ne 14, 3) := by decide +kernel
theorem dX11_via_9 : decode cX11_via 9 = .ok (.iload 4, 2) := by decide +kernel
theorem dX11_via_11 : decode cX11_via 11 = .ok (.iconst 0, 1) := by decide +kernel
theorem dX11_via_12 : decode cX11_via 12 = .ok (.bipush 99, 2) := by decide +kernel
theorem dX11_via_14 : decode cX11_via 14 = .ok (.invokestatic 108, 3) := by decide +kernel
theorem dX11_via_17 : decode cX11_via 17 = .ok (.ifCond .eq 5, 3) := by decide +kernel
theorem dX11_via_20 : decode cX11_via 20 = .ok (.iconst (-1), 1) := by decide +kernel
theorem dX11_via_21 : decode cX11_via 21 = .ok (.ireturn, 1) := by decide +kernel
theorem dX11_via_22 : decode cX11_via 22 = .ok (.aload_n 0, 1) := by decide +kernel
theorem dX11_via_23 : decode cX11_via 23 = .ok (.getfield 10, 3) := by decide +kernel
theorem dX11_via_26 : decode cX11_via 26 = .ok (.invokevirtual 95, 3) := by decide +kernel
theorem dX11_via_29 : decode cX11_via 29 = .ok (.aload_n 0, 1) := by decide +kernel
theorem dX11_via_30 : decode cX11_via 30 = .ok (.getfield 51, 3) := by decide +kernel
theorem dX11_via_33 : decode cX11_via 33 = .ok (.iload_n 1, 1) := by decide +kernel
theorem dX11_via_34 : decode cX11_via 34 = .ok (.invokevirtual 172, 3) := by decide +kernel
theorem dX11_via_37 : decode cX11_via 37 = .ok (.istore 5, 2) := by decide +kernel
theorem dX11_via_39 : decode cX11_via 39 = .ok (.iload 5, 2) := by decide +kernel
theorem dX11_via_41 : decode cX11_via 41 = .ok (.ifCond .ne 13, 3) := by decide +kernel
theorem dX11_via_44 : decode cX11_via 44 = .ok (.aload_n 0, 1) := by decide +kernel
theorem dX11_via_45 : decode cX11_via 45 = .ok (.getfield 42, 3) := by decide +kernel
theorem dX11_via_48 : decode cX11_via 48 = .ok (.iload_n 2, 1) := by decide +kernel
theorem dX11_via_49 : decode cX11_via 49 = .ok (.invokevirtual 175, 3) := by decide +kernel
theorem dX11_via_52 : decode cX11_via 52 = .ok (.istore 5, 2) := by decide +kernel
theorem dX11_via_54 : decode cX11_via 54 = .ok (.iload 5, 2) := by decide +kernel
theorem dX11_via_56 : decode cX11_via 56 = .ok (.ifCond .ne 14, 3) := by decide +kernel
theorem dX11_via_59 : decode cX11_via 59 = .ok (.aload_n 0, 1) := by decide +kernel
theorem dX11_via_60 : decode cX11_via 60 = .ok (.getfield 51, 3) := by decide +kernel
theorem dX11_via_63 : decode cX11_via 63 = .ok (.iload_n 1, 1) := by decide +kernel
theorem dX11_via_64 : decode cX11_via 64 = .ok (.iload_n 2, 1) := by decide +kernel
theorem dX11_via_65 : decode cX11_via 65 = .ok (.invokevirtual 178, 3) := by decide +kernel
theorem dX11_via_68 : decode cX11_via 68 = .ok (.istore 5, 2) := by decide +kernel
theorem dX11_via_70 : decode cX11_via 70 = .ok (.iload 5, 2) := by decide +kernel
theorem dX11_via_72 : decode cX11_via 72 = .ok (.ifCond .eq 13, 3) := by decide +kernel
theorem dX11_via_75 : decode cX11_via 75 = .ok (.aload_n 0, 1) := by decide +kernel
theorem dX11_via_76 : decode cX11_via 76 = .ok (.getfield 10, 3) := by decide +kernel
theorem dX11_via_79 : decode cX11_via 79 = .ok (.iload 5, 2) := by decide +kernel
theorem dX11_via_81 : decode cX11_via 81 = .ok (.invokevirtual 98, 3) := by decide +kernel
theorem dX11_via_84 : decode cX11_via 84 = .ok (.ireturn, 1) := by decide +kernel
theorem dX11_via_85 : decode cX11_via 85 = .ok (.aload_n 0, 1) := by decide +kernel
theorem dX11_via_86 : decode cX11_via 86 = .ok (.getfield 26, 3) := by decide +kernel
theorem dX11_via_89 : decode cX11_via 89 = .ok (.invokevirtual 102, 3) := by decide +kernel
theorem dX11_via_92 : decode cX11_via 92 = .ok (.aload_n 0, 1) := by decide +kernel
theorem dX11_via_93 : decode cX11_via 93 = .ok (.getfield 51, 3) := by decide +kernel
theorem dX11_via_96 : decode cX11_via 96 = .ok (.iload_n 1, 1) := by decide +kernel
theorem dX11_via_97 : decode cX11_via 97 = .ok (.iload_n 2, 1) := by decide +kernel
theorem dX11_via_98 : decode cX11_via 98 = .ok (.iload_n 3, 1) := by decide +kernel
theorem dX11_via_99 : decode cX11_via 99 = .ok (.iload 4, 2) := by decide +kernel
theorem dX11_via_101 : decode cX11_via 101 = .ok (.invokevirtual 181, 3) := by decide +kernel
theorem dX11_via_104 : decode cX11_via 104 = .ok (.ireturn, 1) := by decide +kernel
set_option maxRecDepth 100000 in
set_option maxHeartbeats 4000000 in
theorem w_X11_via_j70 {p : Program} {l : Launch} {e : Env} {R : Room} {s : State} {m : MethodId} {args : Array Value} {below : List Frame} {meth : Method} {c : Code} {dC : Nat → ClassId} {dI : Nat → Nat → Nat} {cs : Nat → ClassId} {ad : Nat → Nat} {A : Nat → Prop} {D0 : Nat → Nat} {S' : SS} {r : Int32} (F : Fx p s m args meth c cX11_via 6 RX11 (some .int) dC dI cs A) (hR1 : 2 ≤ R.frames) (hR2 : 51 ≤ R.locals) (x1 : Int32) (x2 : Int32) (x3 : Int32) (x4 : Int32) (x5 : Int32) (S : SS) (h : f_X11_via_j70 x1 x2 x3 x4 x5 S = some (r, S')) : AW p l e R s m args below meth c dC dI cs ad A D0 (some (.int r)) S' 6 70 [(0, .ref (ad 0)), (1, .int x1), (2, .int x2), (3, .int x3), (4, .int x4), (5, .int x5)] [] S := by
  have hx := F.1.1
  have hb := F.1.2.1
  intro H locs ls w hl
  rw [f_X11_via_j70] at h
  refine lv_iload (pc := 70) hx hb dX11_via_70 (lv_at hl 5 rfl) ?_
  refine lv_if_eq (pc := 72) (tgt := 85) hx hb dX11_via_72 (by decide) (fun q => ?_) (fun q => ?_)
  · have h := ite_t q h
    refine lv_aload_n (pc := 85) hx hb dX11_via_85 rfl (lv_at hl 0 rfl) ?_
    refine s_getR (pc := 86) F w 3 ds_0 (j := 2) vc_X11 vi_X11 rfl (by decide) kf_X11_26 dX11_via_86 ?_
    obtain ⟨S8, hc, h⟩ := bndv_t h
    refine s_cvv (pc := 89) [] (fun ad => [.ref (ad 3)]) F w (m_X1_forget  _ _ hc) rfl rfl hl.1 ds_3 vc_X1 rfl ok_X1_forget rfl kc_X1_forget kl_X11_102 ki_X1_forget kv_X1_forget kn_X1 ⟨Nat.le_trans (by decide) hR1, Nat.le_trans (by decide) hR2⟩ ⟨Nat.zero_le _, Nat.zero_le _⟩ (Nat.le_of_ble_eq_true rfl) dX11_via_89 (fun H locs w => ?_)
    refine lv_aload_n (pc := 92) hx hb dX11_via_92 rfl (lv_at hl 0 rfl) ?_
    refine s_getR (pc := 93) F w 6 ds_0 (j := 5) vc_X11 vi_X11 rfl (by decide) kf_X11_51 dX11_via_93 ?_
    refine lv_iload_n (pc := 96) hx hb dX11_via_96 rfl (lv_at hl 1 rfl) ?_
    refine lv_iload_n (pc := 97) hx hb dX11_via_97 rfl (lv_at hl 2 rfl) ?_
    refine lv_iload_n (pc := 98) hx hb dX11_via_98 rfl (lv_at hl 3 rfl) ?_
    refine lv_iload (pc := 99) hx hb dX11_via_99 (lv_at hl 4 rfl) ?_
    obtain ⟨r10, S9, hc, h⟩ := bnd_t h
    refine s_cvi (pc := 101) [.int x1, .int x2, .int x3, .int x4] (fun ad => [.ref (ad 6), .int x1, .int x2, .int x3, .int x4]) F w (m_X6_addEntry _ _ _ _ _ _ _ hc) rfl rfl hl.1 ds_6 vc_X6 rfl ok_X6_addEntry rfl kc_X6_addEntry kl_X11_181 ki_X6_addEntry kv_X6_addEntry kn_X6 ⟨Nat.le_trans (by decide) hR1, Nat.le_trans (by decide) hR2⟩ ⟨Nat.zero_le _, Nat.zero_le _⟩ (Nat.le_of_ble_eq_true rfl) dX11_via_101 (fun H locs w => ?_)
    exact s_iret F w h dX11_via_104
  · have h := ite_f q h
    refine lv_aload_n (pc := 75) hx hb dX11_via_75 rfl (lv_at hl 0 rfl) ?_
    refine s_getR (pc := 76) F w 1 ds_0 (j := 0) vc_X11 vi_X11 rfl (by decide) kf_X11_10 dX11_via_76 ?_
    refine lv_iload (pc := 79) hx hb dX11_via_79 (lv_at hl 5 rfl) ?_
    obtain ⟨r12, S11, hc, h⟩ := bnd_t h
    refine s_cvi (pc := 81) [.int x5] (fun ad => [.ref (ad 1), .int x5]) F w (m_X5_found _ _ _ _ hc) rfl rfl hl.1 ds_1 vc_X5 rfl ok_X5_found rfl kc_X5_found kl_X11_98 ki_X5_found kv_X5_found kn_X5 ⟨Nat.le_trans (by decide) hR1, Nat.le_trans (by decide) hR2⟩ ⟨Nat.zero_le _, Nat.zero_le _⟩ (Nat.le_of_ble_eq_true rfl) dX11_via_81 (fun H locs w => ?_)
    exact s_iret F w h dX11_via_84
set_option maxRecDepth 100000 in
set_option maxHeartbeats 4000000 in
theorem w_X11_via_j54 {p : Program} {l : Launch} {e : Env} {R : Room} {s : State} {m : MethodId} {args : Array Value} {below : List Frame} {meth : Method} {c : Code} {dC : Nat → ClassId} {dI : Nat → Nat → Nat} {cs : Nat → ClassId} {ad : Nat → Nat} {A : Nat → Prop} {D0 : Nat → Nat} {S' : SS} {r : Int32} (F : Fx p s m args meth c cX11_via 6 RX11 (some .int) dC dI cs A) (hR1 : 3 ≤ R.frames) (hR2 : 69 ≤ R.locals) (x1 : Int32) (x2 : Int32) (x3 : Int32) (x4 : Int32) (x5 : Int32) (S : SS) (h : f_X11_via_j54 x1 x2 x3 x4 x5 S = some (r, S')) : AW p l e R s m args below meth c dC dI cs ad A D0 (some (.int r)) S' 6 54 [(0, .ref (ad 0)), (1, .int x1), (2, .int x2), (3, .int x3), (4, .int x4), (5, .int x5)] [] S := by
  have hx := F.1.1
  have hb := F.1.2.1
  intro H locs ls w hl
  rw [f_X11_via_j54] at h
  refine lv_iload (pc := 54) hx hb dX11_via_54 (lv_at hl 5 rfl) ?_
  refine lv_if_ne (pc := 56) (tgt := 70) hx hb dX11_via_56 (by decide) (fun q => ?_) (fun q => ?_)
  · have h := ite_f q h
    exact w_X11_via_j70 F (Nat.le_trans (by decide) hR1) (Nat.le_trans (by decide) hR2) _ _ _ _ _ _ h _ _ _ w (lv_sub hl [0, 1, 2, 3, 4, 5] rfl)
  · have h := ite_t q h
    refine lv_aload_n (pc := 59) hx hb dX11_via_59 rfl (lv_at hl 0 rfl) ?_
    refine s_getR (pc := 60) F w 6 ds_0 (j := 5) vc_X11 vi_X11 rfl (by decide) kf_X11_51 dX11_via_60 ?_
    refine lv_iload_n (pc := 63) hx hb dX11_via_63 rfl (lv_at hl 1 rfl) ?_
    refine lv_iload_n (pc := 64) hx hb dX11_via_64 rfl (lv_at hl 2 rfl) ?_
    obtain ⟨r14, S13, hc, h⟩ := bnd_t h
    refine s_cvi (pc := 65) [.int x1, .int x2] (fun ad => [.ref (ad 6), .int x1, .int x2]) F w (m_X6_entryFinding _ _ _ _ _ hc) rfl rfl hl.1 ds_6 vc_X6 rfl ok_X6_entryFinding rfl kc_X6_entryFinding kl_X11_178 ki_X6_entryFinding kv_X6_entryFinding kn_X6 ⟨Nat.le_trans (by decide) hR1, Nat.le_trans (by decide) hR2⟩ ⟨Nat.zero_le _, Nat.zero_le _⟩ (Nat.le_of_ble_eq_true rfl) dX11_via_65 (fun H locs w => ?_)
    refine lv_istore (pc := 68) (lv' := [(5, .int r14), (0, .ref (ad 0)), (1, .int x1), (2, .int x2), (3, .int x3), (4, .int x4)]) hx hb dX11_via_68 hl (by decide) rfl (fun ls hl => ?_)
    exact w_X11_via_j70 F (Nat.le_trans (by decide) hR1) (Nat.le_trans (by decide) hR2) _ _ _ _ _ _ h _ _ _ w (lv_sub hl [1, 2, 3, 4, 5, 0] rfl)
set_option maxRecDepth 100000 in
set_option maxHeartbeats 4000000 in
theorem m_X11_via (a1 : Int32) (a2 : Int32) (a3 : Int32) (a4 : Int32) (S S' : SS) (r : Int32) (h : f_X11_via a1 a2 a3 a4 S = some (r, S')) : MT yX11_via cX11_via 6 (some .int) 3 69 (fun ad => [.ref (ad 0), .int a1, .int a2, .int a3, .int a4]) S (some (.int r)) S' := by
  refine MT.of RX11 (fun ad => [(0, .ref (ad 0)), (1, .int a1), (2, .int a2), (3, .int a3), (4, .int a4)]) (by decide) rfl (fun _ => Nat.le_of_ble_eq_true rfl) (fun _ => rfl) ?_
  intro p l e R s m args below meth c dC dI cs ad A hR1 hR2 F H locs ls w hl
  have hx := F.1.1
  have hb := F.1.2.1
  rw [f_X11_via] at h
  refine lv_iload_n (pc := 0) hx hb dX11_via_0 rfl (lv_at hl 3 rfl) ?_
  refine lv_iconst (pc := 1) (v := 0) hx hb dX11_via_1 (by decide) ?_
  refine lv_iconst (pc := 2) (v := 2) hx hb dX11_via_2 (by decide) ?_
  obtain ⟨r2, S1, hc, h⟩ := bnd_t h
  refine s_csi (pc := 3) [.int a3, .int (0 : Int32), .int (2 : Int32)] (fun ad => [.int a3, .int (0 : Int32), .int (2 : Int32)]) F w (m_X11_isNot _ _ _ _ _ _ hc) rfl rfl hl.1 ok_X11_isNot rfl kc_X11_isNot kl_X11_108 ks_X11_isNot kn_X11 ⟨Nat.le_trans (by decide) hR1, Nat.le_trans (by decide) hR2⟩ ⟨Nat.zero_le _, Nat.zero_le _⟩ (Nat.le_of_ble_eq_true rfl) dX11_via_3 (fun H locs w => ?_)
  refine lv_if_ne (pc := 6) (tgt := 20) hx hb dX11_via_6 (by decide) (fun q => ?_) (fun q => ?_)
  · have h := ite_f q h
    refine lv_iconst (pc := 20) (v := -1) hx hb dX11_via_20 (by decide) ?_
    exact s_iret F w h dX11_via_21
  · have h := ite_t q h
    refine lv_iload (pc := 9) hx hb dX11_via_9 (lv_at hl 4 rfl) ?_
    refine lv_iconst (pc := 11) (v := 0) hx hb dX11_via_11 (by decide) ?_
    refine lv_bipush (pc := 12) (v := 99) hx hb dX11_via_12 (by decide) ?_
    obtain ⟨r4, S3, hc, h⟩ := bnd_t h
    refine s_csi (pc := 14) [.int a4, .int (0 : Int32), .int (99 : Int32)] (fun ad => [.int a4, .int (0 : Int32), .int (99 : Int32)]) F w (m_X11_isNot _ _ _ _ _ _ hc) rfl rfl hl.1 ok_X11_isNot rfl kc_X11_isNot kl_X11_108 ks_X11_isNot kn_X11 ⟨Nat.le_trans (by decide) hR1, Nat.le_trans (by decide) hR2⟩ ⟨Nat.zero_le _, Nat.zero_le _⟩ (Nat.le_of_ble_eq_true rfl) dX11_via_14 (fun H locs w => ?_)
    refine lv_if_eq (pc := 17) (tgt := 22) hx hb dX11_via_17 (by decide) (fun q => ?_) (fun q => ?_)
    · have h := ite_t q h
      refine lv_aload_n (pc := 22) hx hb dX11_via_22 rfl (lv_at hl 0 rfl) ?_
      refine s_getR (pc := 23) F w 1 ds_0 (j := 0) vc_X11 vi_X11 rfl (by decide) kf_X11_10 dX11_via_23 ?_
      obtain ⟨S5, hc, h⟩ := bndv_t h
      refine s_cvv (pc := 26) [] (fun ad => [.ref (ad 1)]) F w (m_X5_begin  _ _ hc) rfl rfl hl.1 ds_1 vc_X5 rfl ok_X5_begin rfl kc_X5_begin kl_X11_95 ki_X5_begin kv_X5_begin kn_X5 ⟨Nat.le_trans (by decide) hR1, Nat.le_trans (by decide) hR2⟩ ⟨Nat.zero_le _, Nat.zero_le _⟩ (Nat.le_of_ble_eq_true rfl) dX11_via_26 (fun H locs w => ?_)
      refine lv_aload_n (pc := 29) hx hb dX11_via_29 rfl (lv_at hl 0 rfl) ?_
      refine s_getR (pc := 30) F w 6 ds_0 (j := 5) vc_X11 vi_X11 rfl (by decide) kf_X11_51 dX11_via_30 ?_
      refine lv_iload_n (pc := 33) hx hb dX11_via_33 rfl (lv_at hl 1 rfl) ?_
      obtain ⟨r7, S6, hc, h⟩ := bnd_t h
      refine s_cvi (pc := 34) [.int a1] (fun ad => [.ref (ad 6), .int a1]) F w (m_X6_routeFinding _ _ _ _ hc) rfl rfl hl.1 ds_6 vc_X6 rfl ok_X6_routeFinding rfl kc_X6_routeFinding kl_X11_172 ki_X6_routeFinding kv_X6_routeFinding kn_X6 ⟨Nat.le_trans (by decide) hR1, Nat.le_trans (by decide) hR2⟩ ⟨Nat.zero_le _, Nat.zero_le _⟩ (Nat.le_of_ble_eq_true rfl) dX11_via_34 (fun H locs w => ?_)
      refine lv_istore (pc := 37) (lv' := [(5, .int r7), (0, .ref (ad 0)), (1, .int a1), (2, .int a2), (3, .int a3), (4, .int a4)]) hx hb dX11_via_37 hl (by decide) rfl (fun ls hl => ?_)
      refine lv_iload (pc := 39) hx hb dX11_via_39 (lv_at hl 0 rfl) ?_
      refine lv_if_ne (pc := 41) (tgt := 54) hx hb dX11_via_41 (by decide) (fun q => ?_) (fun q => ?_)
      · have h := ite_f q h
        exact w_X11_via_j54 F (Nat.le_trans (by decide) hR1) (Nat.le_trans (by decide) hR2) _ _ _ _ _ _ h _ _ _ w (lv_sub hl [1, 2, 3, 4, 5, 0] rfl)
      · have h := ite_t q h
        refine lv_aload_n (pc := 44) hx hb dX11_via_44 rfl (lv_at hl 1 rfl) ?_
        refine s_getR (pc := 45) F w 5 ds_0 (j := 4) vc_X11 vi_X11 rfl (by decide) kf_X11_42 dX11_via_45 ?_
        refine lv_iload_n (pc := 48) hx hb dX11_via_48 rfl (lv_at hl 3 rfl) ?_
        obtain ⟨r16, S15, hc, h⟩ := bnd_t h
        refine s_cvi (pc := 49) [.int a2] (fun ad => [.ref (ad 5), .int a2]) F w (m_X2_pointFinding _ _ _ _ hc) rfl rfl hl.1 ds_5 vc_X2 rfl ok_X2_pointFinding rfl kc_X2_pointFinding kl_X11_175 ki_X2_pointFinding kv_X2_pointFinding kn_X2 ⟨Nat.le_trans (by decide) hR1, Nat.le_trans (by decide) hR2⟩ ⟨Nat.zero_le _, Nat.zero_le _⟩ (Nat.le_of_ble_eq_true rfl) dX11_via_49 (fun H locs w => ?_)
        refine lv_istore (pc := 52) (lv' := [(5, .int r16), (0, .ref (ad 0)), (1, .int a1), (2, .int a2), (3, .int a3), (4, .int a4)]) hx hb dX11_via_52 hl (by decide) rfl (fun ls hl => ?_)
        exact w_X11_via_j54 F (Nat.le_trans (by decide) hR1) (Nat.le_trans (by decide) hR2) _ _ _ _ _ _ h _ _ _ w (lv_sub hl [1, 2, 3, 4, 5, 0] rfl)
    · have h := ite_f q h
      refine lv_iconst (pc := 20) (v := -1) hx hb dX11_via_20 (by decide) ?_
      exact s_iret F w h dX11_via_21
def f_X12_missRoute (a1 : Int32) (S : SS) : Option (Int32 × SS) :=
  if a1 < 0 then
    some ((3 : Int32), S)
  else
    if a1 < (12 : Int32) then
      if a1 < (S.1 14 19) then
        some ((0 : Int32), S)
      else
        some ((1 : Int32), S)
    else
      some ((3 : Int32), S)
theorem dX12_missRoute_0 : decode cX12_missRoute 0 = .ok (.iload_n 1, 1) := by decide +kernel
theorem dX12_missRoute_1 : decode cX12_missRoute 1 = .ok (.ifCond .lt 9, 3) := by decide +kernel
theorem dX12_missRoute_4 : decode cX12_missRoute 4 = .ok (.iload_n 1, 1) := by decide +kernel
theorem dX12_missRoute_5 : decode cX12_missRoute 5 = .ok (.bipush 12, 2) := by decide +kernel
theorem dX12_missRoute_7 : decode cX12_missRoute 7 = .ok (.if_icmp .lt 7, 3) := by decide +kernel
theorem dX12_missRoute_10 : decode cX12_missRoute 10 = .ok (.iconst 3, 1) := by decide +kernel
theorem dX12_missRoute_11 : decode cX12_missRoute 11 = .ok (.goto 16, 3) := by decide +kernel
theorem dX12_missRoute_14 : decode cX12_missRoute 14 = .ok (.iload_n 1, 1) := by decide +kernel
theorem dX12_missRoute_15 : decode cX12_missRoute 15 = .ok (.aload_n 0, 1) := by decide +kernel
theorem dX12_missRoute_16 : decode cX12_missRoute 16 = .ok (.getfield 220, 3) := by decide +kernel
theorem dX12_missRoute_19 : decode cX12_missRoute 19 = .ok (.if_icmp .lt 7, 3) := by decide +kernel
theorem dX12_missRoute_22 : decode cX12_missRoute 22 = .ok (.iconst 1, 1) := by decide +kernel
theorem dX12_missRoute_23 : decode cX12_missRoute 23 = .ok (.goto 4, 3) := by decide +kernel
theorem dX12_missRoute_26 : decode cX12_missRoute 26 = .ok (.iconst 0, 1) := by decide +kernel
theorem dX12_missRoute_27 : decode cX12_missRoute 27 = .ok (.ireturn, 1) := by decide +kernel
set_option maxRecDepth 100000 in
set_option maxHeartbeats 4000000 in
theorem m_X12_missRoute (a1 : Int32) (S S' : SS) (r : Int32) (h : f_X12_missRoute a1 S = some (r, S')) : MT yX12_missRoute cX12_missRoute 2 (some .int) 0 0 (fun ad => [.ref (ad 14), .int a1]) S (some (.int r)) S' := by
  refine MT.of RX12 (fun ad => [(0, .ref (ad 14)), (1, .int a1)]) (by decide) rfl (fun _ => Nat.le_of_ble_eq_true rfl) (fun _ => rfl) ?_
  intro p l e R s m args below meth c dC dI cs ad A hR1 hR2 F H locs ls w hl
  have hx := F.1.1
  have hb := F.1.2.1
  rw [f_X12_missRoute] at h
  refine lv_iload_n (pc := 0) hx hb dX12_missRoute_0 rfl (lv_at hl 1 rfl) ?_
  refine lv_if_lt (pc := 1) (tgt := 10) hx hb dX12_missRoute_1 (by decide) (fun q => ?_) (fun q => ?_)
  · have h := ite_t q h
    refine lv_iconst (pc := 10) (v := 3) hx hb dX12_missRoute_10 (by decide) ?_
    refine lv_goto (pc := 11) (tgt := 27) hx hb dX12_missRoute_11 (by decide) ?_
    exact s_iret F w h dX12_missRoute_27
  · have h := ite_f q h
    refine lv_iload_n (pc := 4) hx hb dX12_missRoute_4 rfl (lv_at hl 1 rfl) ?_
    refine lv_bipush (pc := 5) (v := 12) hx hb dX12_missRoute_5 (by decide) ?_
    refine lv_icmp_lt (pc := 7) (tgt := 14) hx hb dX12_missRoute_7 (by decide) (fun q => ?_) (fun q => ?_)
    · have h := ite_t q h
      refine lv_iload_n (pc := 14) hx hb dX12_missRoute_14 rfl (lv_at hl 1 rfl) ?_
      refine lv_aload_n (pc := 15) hx hb dX12_missRoute_15 rfl (lv_at hl 0 rfl) ?_
      refine s_getI (pc := 16) F w ds_14 (j := 19) vc_X12 vi_X12 rfl (by decide) kf_X12_220 dX12_missRoute_16 ?_
      refine lv_icmp_lt (pc := 19) (tgt := 26) hx hb dX12_missRoute_19 (by decide) (fun q => ?_) (fun q => ?_)
      · have h := ite_t q h
        refine lv_iconst (pc := 26) (v := 0) hx hb dX12_missRoute_26 (by decide) ?_
        exact s_iret F w h dX12_missRoute_27
      · have h := ite_f q h
        refine lv_iconst (pc := 22) (v := 1) hx hb dX12_missRoute_22 (by decide) ?_
        refine lv_goto (pc := 23) (tgt := 27) hx hb dX12_missRoute_23 (by decide) ?_
        exact s_iret F w h dX12_missRoute_27
    · have h := ite_f q h
      refine lv_iconst (pc := 10) (v := 3) hx hb dX12_missRoute_10 (by decide) ?_
      refine lv_goto (pc := 11) (tgt := 27) hx hb dX12_missRoute_11 (by decide) ?_
      exact s_iret F w h dX12_missRoute_27
def f_X12_missPoint (a1 : Int32) (S : SS) : Option (Int32 × SS) :=
  if a1 < 0 then
    some ((3 : Int32), S)
  else
    if a1 < (40 : Int32) then
      if a1 < (S.1 14 15) then
        some ((0 : Int32), S)
      else
        some ((1 : Int32), S)
    else
      some ((3 : Int32), S)
theorem dX12_missPoint_0 : decode cX12_missPoint 0 = .ok (.iload_n 1, 1) := by decide +kernel
theorem dX12_missPoint_1 : decode cX12_missPoint 1 = .ok (.ifCond .lt 9, 3) := by decide +kernel
theorem dX12_missPoint_4 : decode cX12_missPoint 4 = .ok (.iload_n 1, 1) := by decide +kernel
theorem dX12_missPoint_5 : decode cX12_missPoint 5 = .ok (.bipush 40, 2) := by decide +kernel
theorem dX12_missPoint_7 : decode cX12_missPoint 7 = .ok (.if_icmp .lt 7, 3) := by decide +kernel
theorem dX12_missPoint_10 : decode cX12_missPoint 10 = .ok (.iconst 3, 1) := by decide +kernel
theorem dX12_missPoint_11 : decode cX12_missPoint 11 = .ok (.goto 16, 3) := by decide +kernel
theorem dX12_missPoint_14 : decode cX12_missPoint 14 = .ok (.iload_n 1, 1) := by decide +kernel
theorem dX12_missPoint_15 : decode cX12_missPoint 15 = .ok (.aload_n 0, 1) := by decide +kernel
theorem dX12_missPoint_16 : decode cX12_missPoint 16 = .ok (.getfield 217, 3) := by decide +kernel
theorem dX12_missPoint_19 : decode cX12_missPoint 19 = .ok (.if_icmp .lt 7, 3) := by decide +kernel
theorem dX12_missPoint_22 : decode cX12_missPoint 22 = .ok (.iconst 1, 1) := by decide +kernel
theorem dX12_missPoint_23 : decode cX12_missPoint 23 = .ok (.goto 4, 3) := by decide +kernel
theorem dX12_missPoint_26 : decode cX12_missPoint 26 = .ok (.iconst 0, 1) := by decide +kernel
theorem dX12_missPoint_27 : decode cX12_missPoint 27 = .ok (.ireturn, 1) := by decide +kernel
set_option maxRecDepth 100000 in
set_option maxHeartbeats 4000000 in
theorem m_X12_missPoint (a1 : Int32) (S S' : SS) (r : Int32) (h : f_X12_missPoint a1 S = some (r, S')) : MT yX12_missPoint cX12_missPoint 2 (some .int) 0 0 (fun ad => [.ref (ad 14), .int a1]) S (some (.int r)) S' := by
  refine MT.of RX12 (fun ad => [(0, .ref (ad 14)), (1, .int a1)]) (by decide) rfl (fun _ => Nat.le_of_ble_eq_true rfl) (fun _ => rfl) ?_
  intro p l e R s m args below meth c dC dI cs ad A hR1 hR2 F H locs ls w hl
  have hx := F.1.1
  have hb := F.1.2.1
  rw [f_X12_missPoint] at h
  refine lv_iload_n (pc := 0) hx hb dX12_missPoint_0 rfl (lv_at hl 1 rfl) ?_
  refine lv_if_lt (pc := 1) (tgt := 10) hx hb dX12_missPoint_1 (by decide) (fun q => ?_) (fun q => ?_)
  · have h := ite_t q h
    refine lv_iconst (pc := 10) (v := 3) hx hb dX12_missPoint_10 (by decide) ?_
    refine lv_goto (pc := 11) (tgt := 27) hx hb dX12_missPoint_11 (by decide) ?_
    exact s_iret F w h dX12_missPoint_27
  · have h := ite_f q h
    refine lv_iload_n (pc := 4) hx hb dX12_missPoint_4 rfl (lv_at hl 1 rfl) ?_
    refine lv_bipush (pc := 5) (v := 40) hx hb dX12_missPoint_5 (by decide) ?_
    refine lv_icmp_lt (pc := 7) (tgt := 14) hx hb dX12_missPoint_7 (by decide) (fun q => ?_) (fun q => ?_)
    · have h := ite_t q h
      refine lv_iload_n (pc := 14) hx hb dX12_missPoint_14 rfl (lv_at hl 1 rfl) ?_
      refine lv_aload_n (pc := 15) hx hb dX12_missPoint_15 rfl (lv_at hl 0 rfl) ?_
      refine s_getI (pc := 16) F w ds_14 (j := 15) vc_X12 vi_X12 rfl (by decide) kf_X12_217 dX12_missPoint_16 ?_
      refine lv_icmp_lt (pc := 19) (tgt := 26) hx hb dX12_missPoint_19 (by decide) (fun q => ?_) (fun q => ?_)
      · have h := ite_t q h
        refine lv_iconst (pc := 26) (v := 0) hx hb dX12_missPoint_26 (by decide) ?_
        exact s_iret F w h dX12_missPoint_27
      · have h := ite_f q h
        refine lv_iconst (pc := 22) (v := 1) hx hb dX12_missPoint_22 (by decide) ?_
        refine lv_goto (pc := 23) (tgt := 27) hx hb dX12_missPoint_23 (by decide) ?_
        exact s_iret F w h dX12_missPoint_27
    · have h := ite_f q h
      refine lv_iconst (pc := 10) (v := 3) hx hb dX12_missPoint_10 (by decide) ?_
      refine lv_goto (pc := 11) (tgt := 27) hx hb dX12_missPoint_11 (by decide) ?_
      exact s_iret F w h dX12_missPoint_27
def f_X12_isLocking_j31 (K4 : Int32 → Int32 → Int32 → SS → Option (Int32 × SS)) (x1 : Int32) (x3 : Int32) (y0 : Int32) (S : SS) : Option (Int32 × SS) :=
    nm (x3 + (1 : Int32)) (fun z1 =>
    K4 x1 y0 z1 S)
def f_X12_isLocking_j26 (K4 : Int32 → Int32 → Int32 → SS → Option (Int32 × SS)) (x1 : Int32) (x3 : Int32) (S : SS) : Option (Int32 × SS) :=
    f_X12_isLocking_j31 K4 x1 x3 (1 : Int32) S
def f_X12_isLocking_L4  : Nat → Int32 → Int32 → Int32 → SS → Option (Int32 × SS)
  | 0, _, _, _, _ => none
  | n + 1, x1, x2, x3, S =>
    if (S.1 14 15) ≤ x3 then
      grd (isB x2) (some (x2, S))
    else
      if x2 = 0 then
        grd (inb x3 40) (
        if (S.1 78 x3.toNatClampNeg) = x1 then
          f_X12_isLocking_j26 (fun v0 v1 v2 S => f_X12_isLocking_L4 n v0 v1 v2 S) x1 x3 S
        else
          f_X12_isLocking_j31 (fun v0 v1 v2 S => f_X12_isLocking_L4 n v0 v1 v2 S) x1 x3 (0 : Int32) S)
      else
        f_X12_isLocking_j26 (fun v0 v1 v2 S => f_X12_isLocking_L4 n v0 v1 v2 S) x1 x3 S
def f_X12_isLocking (a1 : Int32) (S : SS) : Option (Int32 × SS) :=
  f_X12_isLocking_L4 NF a1 (0 : Int32) (0 : Int32) S
theorem dX12_isLocking_0 : decode cX12_isLocking 0 = .ok (.iconst 0, 1) := by decide +kernel
theorem dX12_isLocking_1 : decode cX12_isLocking 1 = .ok (.istore_n 2, 1) := by decide +kernel
theorem dX12_isLocking_2 : decode cX12_isLocking 2 = .ok (.iconst 0, 1) := by decide +kernel
theorem dX12_isLocking_3 : decode cX12_isLocking 3 = .ok (.istore_n 3, 1) := by decide +kernel
theorem dX12_isLocking_4 : decode cX12_isLocking 4 = .ok (.iload_n 3, 1) := by decide +kernel
theorem dX12_isLocking_5 : decode cX12_isLocking 5 = .ok (.aload_n 0, 1) := by decide +kernel
theorem dX12_isLocking_6 : decode cX12_isLocking 6 = .ok (.getfield 217, 3) := by decide +kernel
theorem dX12_isLocking_9 : decode cX12_isLocking 9 = .ok (.if_icmp .ge 29, 3) := by decide +kernel
theorem dX12_isLocking_12 : decode cX12_isLocking 12 = .ok (.iload_n 2, 1) := by decide +kernel
theorem dX12_isLocking_13 : decode cX12_isLocking 13 = .ok (.ifCond .ne 13, 3) := by decide +kernel
theorem dX12_isLocking_16 : decode cX12_isLocking 16 = .ok (.aload_n 0, 1) := by decide +kernel
theorem dX12_isLocking_17 : decode cX12_isLocking 17 = .ok (.getfield 48, 3) := by decide +kernel
theorem dX12_isLocking_20 : decode cX12_isLocking 20 = .ok (.iload_n 3, 1) := by decide +kernel
theorem dX12_isLocking_21 : decode cX12_isLocking 21 = .ok (.iaload, 1) := by decide +kernel
theorem dX12_isLocking_22 : decode cX12_isLocking 22 = .ok (.iload_n 1, 1) := by decide +kernel
theorem dX12_isLocking_23 : decode cX12_isLocking 23 = .ok (.if_icmp .ne 7, 3) := by decide +kernel
theorem dX12_isLocking_26 : decode cX12_isLocking 26 = .ok (.iconst 1, 1) := by decide +kernel
theorem dX12_isLocking_27 : decode cX12_isLocking 27 = .ok (.goto 4, 3) := by decide +kernel
theorem dX12_isLocking_30 : decode cX12_isLocking 30 = .ok (.iconst 0, 1) := by decide +kernel
theorem dX12_isLocking_31 : decode cX12_isLocking 31 = .ok (.istore_n 2, 1) := by decide +kernel
theorem dX12_isLocking_32 : decode cX12_isLocking 32 = .ok (.iinc 3 1, 3) := by decide +kernel
theorem dX12_isLocking_35 : decode cX12_isLocking 35 = .ok (.goto (-31), 3) := by decide +kernel
theorem dX12_isLocking_38 : decode cX12_isLocking 38 = .ok (.iload_n 2, 1) := by decide +kernel
theorem dX12_isLocking_39 : decode cX12_isLocking 39 = .ok (.ireturn, 1) := by decide +kernel
set_option maxRecDepth 100000 in
set_option maxHeartbeats 4000000 in
theorem w_X12_isLocking_j31 {p : Program} {l : Launch} {e : Env} {R : Room} {s : State} {m : MethodId} {args : Array Value} {below : List Frame} {meth : Method} {c : Code} {dC : Nat → ClassId} {dI : Nat → Nat → Nat} {cs : Nat → ClassId} {ad : Nat → Nat} {A : Nat → Prop} {D0 : Nat → Nat} {S' : SS} {r : Int32} (F : Fx p s m args meth c cX12_isLocking 4 RX12 (some .boolean) dC dI cs A) (hR1 : 0 ≤ R.frames) (hR2 : 0 ≤ R.locals) (K4 : Int32 → Int32 → Int32 → SS → Option (Int32 × SS)) (hK4 : ∀ (v0 : Int32) (v1 : Int32) (v2 : Int32) (S : SS), K4 v0 v1 v2 S = some (r, S') → AW p l e R s m args below meth c dC dI cs ad A D0 (some (.int r)) S' 4 4 [(0, .ref (ad 14)), (1, .int v0), (2, .int v1), (3, .int v2)] [] S) (x1 : Int32) (x3 : Int32) (y0 : Int32) (S : SS) (h : f_X12_isLocking_j31 K4 x1 x3 y0 S = some (r, S')) : AW p l e R s m args below meth c dC dI cs ad A D0 (some (.int r)) S' 4 31 [(0, .ref (ad 14)), (1, .int x1), (3, .int x3)] [.int y0] S := by
  have hx := F.1.1
  have hb := F.1.2.1
  intro H locs ls w hl
  rw [f_X12_isLocking_j31] at h
  refine lv_istore_n (pc := 31) (lv' := [(2, .int y0), (0, .ref (ad 14)), (1, .int x1), (3, .int x3)]) hx hb dX12_isLocking_31 rfl hl (by decide) rfl (fun ls hl => ?_)
  refine s_nm h (fun z1 ez1 h => ?_)
  refine lv_iinc (pc := 32) (v := z1) (lv' := [(3, .int z1), (2, .int y0), (0, .ref (ad 14)), (1, .int x1)]) hx hb dX12_isLocking_32 hl (k := 3) rfl (by rw [ez1]; rfl) (by decide) rfl (fun ls hl => ?_)
  refine lv_goto (pc := 35) (tgt := 4) hx hb dX12_isLocking_35 (by decide) ?_
  exact hK4 _ _ _ _ h _ _ _ w (lv_sub hl [2, 3, 1, 0] rfl)
set_option maxRecDepth 100000 in
set_option maxHeartbeats 4000000 in
theorem w_X12_isLocking_j26 {p : Program} {l : Launch} {e : Env} {R : Room} {s : State} {m : MethodId} {args : Array Value} {below : List Frame} {meth : Method} {c : Code} {dC : Nat → ClassId} {dI : Nat → Nat → Nat} {cs : Nat → ClassId} {ad : Nat → Nat} {A : Nat → Prop} {D0 : Nat → Nat} {S' : SS} {r : Int32} (F : Fx p s m args meth c cX12_isLocking 4 RX12 (some .boolean) dC dI cs A) (hR1 : 0 ≤ R.frames) (hR2 : 0 ≤ R.locals) (K4 : Int32 → Int32 → Int32 → SS → Option (Int32 × SS)) (hK4 : ∀ (v0 : Int32) (v1 : Int32) (v2 : Int32) (S : SS), K4 v0 v1 v2 S = some (r, S') → AW p l e R s m args below meth c dC dI cs ad A D0 (some (.int r)) S' 4 4 [(0, .ref (ad 14)), (1, .int v0), (2, .int v1), (3, .int v2)] [] S) (x1 : Int32) (x3 : Int32) (S : SS) (h : f_X12_isLocking_j26 K4 x1 x3 S = some (r, S')) : AW p l e R s m args below meth c dC dI cs ad A D0 (some (.int r)) S' 4 26 [(0, .ref (ad 14)), (1, .int x1), (3, .int x3)] [] S := by
  have hx := F.1.1
  have hb := F.1.2.1
  intro H locs ls w hl
  rw [f_X12_isLocking_j26] at h
  refine lv_iconst (pc := 26) (v := 1) hx hb dX12_isLocking_26 (by decide) ?_
  refine lv_goto (pc := 27) (tgt := 31) hx hb dX12_isLocking_27 (by decide) ?_
  exact w_X12_isLocking_j31 F (Nat.le_trans (by decide) hR1) (Nat.le_trans (by decide) hR2) _ hK4 _ _ _ _ h _ _ _ w (lv_sub hl [0, 1, 2] rfl)
set_option maxRecDepth 100000 in
set_option maxHeartbeats 4000000 in
theorem w_X12_isLocking_L4 {p : Program} {l : Launch} {e : Env} {R : Room} {s : State} {m : MethodId} {args : Array Value} {below : List Frame} {meth : Method} {c : Code} {dC : Nat → ClassId} {dI : Nat → Nat → Nat} {cs : Nat → ClassId} {ad : Nat → Nat} {A : Nat → Prop} {D0 : Nat → Nat} {S' : SS} {r : Int32} (F : Fx p s m args meth c cX12_isLocking 4 RX12 (some .boolean) dC dI cs A) (hR1 : 0 ≤ R.frames) (hR2 : 0 ≤ R.locals) : ∀ (n : Nat) (x1 : Int32) (x2 : Int32) (x3 : Int32) (S : SS), f_X12_isLocking_L4 n x1 x2 x3 S = some (r, S') → AW p l e R s m args below meth c dC dI cs ad A D0 (some (.int r)) S' 4 4 [(0, .ref (ad 14)), (1, .int x1), (2, .int x2), (3, .int x3)] [] S := by
  have hx := F.1.1
  have hb := F.1.2.1
  intro n
  induction n with
  | zero => intro x1 x2 x3 S h; cases h
  | succ n ih =>
    intro x1 x2 x3 S h H locs ls w hl
    rw [f_X12_isLocking_L4] at h
    refine lv_iload_n (pc := 4) hx hb dX12_isLocking_4 rfl (lv_at hl 3 rfl) ?_
    refine lv_aload_n (pc := 5) hx hb dX12_isLocking_5 rfl (lv_at hl 0 rfl) ?_
    refine s_getI (pc := 6) F w ds_14 (j := 15) vc_X12 vi_X12 rfl (by decide) kf_X12_217 dX12_isLocking_6 ?_
    refine lv_icmp_ge (pc := 9) (tgt := 38) hx hb dX12_isLocking_9 (by decide) (fun q => ?_) (fun q => ?_)
    · have h := ite_t q h
      refine lv_iload_n (pc := 38) hx hb dX12_isLocking_38 rfl (lv_at hl 2 rfl) ?_
      exact s_zret F w h dX12_isLocking_39
    · have h := ite_f q h
      refine lv_iload_n (pc := 12) hx hb dX12_isLocking_12 rfl (lv_at hl 2 rfl) ?_
      refine lv_if_ne (pc := 13) (tgt := 26) hx hb dX12_isLocking_13 (by decide) (fun q => ?_) (fun q => ?_)
      · have h := ite_f q h
        exact w_X12_isLocking_j26 F (Nat.le_trans (by decide) hR1) (Nat.le_trans (by decide) hR2) _ (fun v0 v1 v2 S h => ih v0 v1 v2 S h) _ _ _ h _ _ _ w (lv_sub hl [0, 1, 3] rfl)
      · have h := ite_t q h
        refine lv_aload_n (pc := 16) hx hb dX12_isLocking_16 rfl (lv_at hl 0 rfl) ?_
        refine s_getR (pc := 17) F w 78 ds_14 (j := 18) vc_X12 vi_X12 rfl (by decide) kf_X12_48 dX12_isLocking_17 ?_
        refine lv_iload_n (pc := 20) hx hb dX12_isLocking_20 rfl (lv_at hl 3 rfl) ?_
        refine s_iald (pc := 21) F w ds_78 h dX12_isLocking_21 (fun h => ?_)
        refine lv_iload_n (pc := 22) hx hb dX12_isLocking_22 rfl (lv_at hl 1 rfl) ?_
        refine lv_icmp_ne (pc := 23) (tgt := 30) hx hb dX12_isLocking_23 (by decide) (fun q => ?_) (fun q => ?_)
        · have h := ite_f q h
          refine lv_iconst (pc := 30) (v := 0) hx hb dX12_isLocking_30 (by decide) ?_
          exact w_X12_isLocking_j31 F (Nat.le_trans (by decide) hR1) (Nat.le_trans (by decide) hR2) _ (fun v0 v1 v2 S h => ih v0 v1 v2 S h) _ _ _ _ h _ _ _ w (lv_sub hl [0, 1, 3] rfl)
        · have h := ite_t q h
          exact w_X12_isLocking_j26 F (Nat.le_trans (by decide) hR1) (Nat.le_trans (by decide) hR2) _ (fun v0 v1 v2 S h => ih v0 v1 v2 S h) _ _ _ h _ _ _ w (lv_sub hl [0, 1, 3] rfl)
set_option maxRecDepth 100000 in
set_option maxHeartbeats 4000000 in
theorem m_X12_isLocking (a1 : Int32) (S S' : SS) (r : Int32) (h : f_X12_isLocking a1 S = some (r, S')) : MT yX12_isLocking cX12_isLocking 4 (some .boolean) 0 0 (fun ad => [.ref (ad 14), .int a1]) S (some (.int r)) S' := by
  refine MT.of RX12 (fun ad => [(0, .ref (ad 14)), (1, .int a1)]) (by decide) rfl (fun _ => Nat.le_of_ble_eq_true rfl) (fun _ => rfl) ?_
  intro p l e R s m args below meth c dC dI cs ad A hR1 hR2 F H locs ls w hl
  have hx := F.1.1
  have hb := F.1.2.1
  rw [f_X12_isLocking] at h
  refine lv_iconst (pc := 0) (v := 0) hx hb dX12_isLocking_0 (by decide) ?_
  refine lv_istore_n (pc := 1) (lv' := [(2, .int (0 : Int32)), (0, .ref (ad 14)), (1, .int a1)]) hx hb dX12_isLocking_1 rfl hl (by decide) rfl (fun ls hl => ?_)
  refine lv_iconst (pc := 2) (v := 0) hx hb dX12_isLocking_2 (by decide) ?_
  refine lv_istore_n (pc := 3) (lv' := [(3, .int (0 : Int32)), (2, .int (0 : Int32)), (0, .ref (ad 14)), (1, .int a1)]) hx hb dX12_isLocking_3 rfl hl (by decide) rfl (fun ls hl => ?_)
  exact w_X12_isLocking_L4 F (Nat.le_trans (by decide) hR1) (Nat.le_trans (by decide) hR2) _ _ _ _ _ h _ _ _ w (lv_sub hl [2, 3, 1, 0] rfl)
