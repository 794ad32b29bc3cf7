/-! ===== printed by wip/gen: X9_pieceFinding X11_piece X12_piece X1_border X8_usedCells X1_keep X11_beginAct X11_change J9_min_7cf53 X1_write X11_endAct X11_danger X12_save X12_keep ===== -/
def f_X9_pieceFinding (a1 : Int32) (a2 : Int32) (a3 : Int32) (S : SS) : Option (Int32 × SS) :=
  bnd (f_X9_get a1 (3 : Int32) S) (fun r2 S1 =>
  if r2 = (-4 : Int32) then
    some ((1 : Int32), S1)
  else
    if r2 = a3 then
      if a2 < 0 then
        some ((3 : Int32), S1)
      else
        bnd (f_X9_get a1 (4 : Int32) S1) (fun r4 S3 =>
        if a2 < r4 then
          some ((0 : Int32), S3)
        else
          some ((3 : Int32), S3))
    else
      some ((2 : Int32), S1))
theorem dX9_pieceFinding_0 : decode cX9_pieceFinding 0 = .ok (.aload_n 0, 1) := by decide +kernel
theorem dX9_pieceFinding_1 : decode cX9_pieceFinding 1 = .ok (.iload_n 1, 1) := by decide +kernel
theorem dX9_pieceFinding_2 : decode cX9_pieceFinding 2 = .ok (.iconst 3, 1) := by decide +kernel
theorem dX9_pieceFinding_3 : decode cX9_pieceFinding 3 = .ok (.invokevirtual 24, 3) := by decide +kernel
theorem dX9_pieceFinding_6 : decode cX9_pieceFinding 6 = .ok (.istore 4, 2) := by decide +kernel
theorem dX9_pieceFinding_8 : decode cX9_pieceFinding 8 = .ok (.iload 4, 2) := by decide +kernel
theorem dX9_pieceFinding_10 : decode cX9_pieceFinding 10 = .ok (.bipush (-4), 2) := by decide +kernel
theorem dX9_pieceFinding_12 : decode cX9_pieceFinding 12 = .ok (.if_icmp .ne 5, 3) := by decide +kernel
theorem dX9_pieceFinding_15 : decode cX9_pieceFinding 15 = .ok (.iconst 1, 1) := by decide +kernel
theorem dX9_pieceFinding_16 : decode cX9_pieceFinding 16 = .ok (.ireturn, 1) := by decide +kernel
theorem dX9_pieceFinding_17 : decode cX9_pieceFinding 17 = .ok (.iload 4, 2) := by decide +kernel
theorem dX9_pieceFinding_19 : decode cX9_pieceFinding 19 = .ok (.iload_n 3, 1) := by decide +kernel
theorem dX9_pieceFinding_20 : decode cX9_pieceFinding 20 = .ok (.if_icmp .eq 5, 3) := by decide +kernel
theorem dX9_pieceFinding_23 : decode cX9_pieceFinding 23 = .ok (.iconst 2, 1) := by decide +kernel
theorem dX9_pieceFinding_24 : decode cX9_pieceFinding 24 = .ok (.ireturn, 1) := by decide +kernel
theorem dX9_pieceFinding_25 : decode cX9_pieceFinding 25 = .ok (.iload_n 2, 1) := by decide +kernel
theorem dX9_pieceFinding_26 : decode cX9_pieceFinding 26 = .ok (.ifCond .lt 13, 3) := by decide +kernel
theorem dX9_pieceFinding_29 : decode cX9_pieceFinding 29 = .ok (.iload_n 2, 1) := by decide +kernel
theorem dX9_pieceFinding_30 : decode cX9_pieceFinding 30 = .ok (.aload_n 0, 1) := by decide +kernel
theorem dX9_pieceFinding_31 : decode cX9_pieceFinding 31 = .ok (.iload_n 1, 1) := by decide +kernel
theorem dX9_pieceFinding_32 : decode cX9_pieceFinding 32 = .ok (.iconst 4, 1) := by decide +kernel
theorem dX9_pieceFinding_33 : decode cX9_pieceFinding 33 = .ok (.invokevirtual 24, 3) := by decide +kernel
theorem dX9_pieceFinding_36 : decode cX9_pieceFinding 36 = .ok (.if_icmp .lt 7, 3) := by decide +kernel
theorem dX9_pieceFinding_39 : decode cX9_pieceFinding 39 = .ok (.iconst 3, 1) := by decide +kernel
theorem dX9_pieceFinding_40 : decode cX9_pieceFinding 40 = .ok (.goto 4, 3) := by decide +kernel
theorem dX9_pieceFinding_43 : decode cX9_pieceFinding 43 = .ok (.iconst 0, 1) := by decide +kernel
theorem dX9_pieceFinding_44 : decode cX9_pieceFinding 44 = .ok (.ireturn, 1) := by decide +kernel
set_option maxRecDepth 100000 in
set_option maxHeartbeats 4000000 in
theorem m_X9_pieceFinding (a1 : Int32) (a2 : Int32) (a3 : Int32) (S S' : SS) (r : Int32) (h : f_X9_pieceFinding a1 a2 a3 S = some (r, S')) : MT yX9_pieceFinding cX9_pieceFinding 5 (some .int) 1 22 (fun ad => [.ref (ad 4), .int a1, .int a2, .int a3]) S (some (.int r)) S' := by
  refine MT.of RX9 (fun ad => [(0, .ref (ad 4)), (1, .int a1), (2, .int a2), (3, .int a3)]) (by decide) rfl (fun _ => Nat.le_of_ble_eq_true rfl) (fun _ => rfl) ?_
  intro p l e R s m args below meth c dC dI cs ad A hR1 hR2 F H locs ls w hl
  have hx := F.1.1
  have hb := F.1.2.1
  rw [f_X9_pieceFinding] at h
  refine lv_aload_n (pc := 0) hx hb dX9_pieceFinding_0 rfl (lv_at hl 0 rfl) ?_
  refine lv_iload_n (pc := 1) hx hb dX9_pieceFinding_1 rfl (lv_at hl 1 rfl) ?_
  refine lv_iconst (pc := 2) (v := 3) hx hb dX9_pieceFinding_2 (by decide) ?_
  obtain ⟨r2, S1, hc, h⟩ := bnd_t h
  refine s_cvi (pc := 3) [.int a1, .int (3 : Int32)] (fun ad => [.ref (ad 4), .int a1, .int (3 : Int32)]) F w (m_X9_get _ _ _ _ _ hc) rfl rfl hl.1 ds_4 vc_X9 rfl ok_X9_get rfl kc_X9_get kl_X9_24 ki_X9_get kv_X9_get kn_X9 ⟨Nat.le_trans (by decide) hR1, Nat.le_trans (by decide) hR2⟩ ⟨Nat.zero_le _, Nat.zero_le _⟩ (Nat.le_of_ble_eq_true rfl) dX9_pieceFinding_3 (fun H locs w => ?_)
  refine lv_istore (pc := 6) (lv' := [(4, .int r2), (0, .ref (ad 4)), (1, .int a1), (2, .int a2), (3, .int a3)]) hx hb dX9_pieceFinding_6 hl (by decide) rfl (fun ls hl => ?_)
  refine lv_iload (pc := 8) hx hb dX9_pieceFinding_8 (lv_at hl 0 rfl) ?_
  refine lv_bipush (pc := 10) (v := -4) hx hb dX9_pieceFinding_10 (by decide) ?_
  refine lv_icmp_ne (pc := 12) (tgt := 17) hx hb dX9_pieceFinding_12 (by decide) (fun q => ?_) (fun q => ?_)
  · have h := ite_f q h
    refine lv_iload (pc := 17) hx hb dX9_pieceFinding_17 (lv_at hl 0 rfl) ?_
    refine lv_iload_n (pc := 19) hx hb dX9_pieceFinding_19 rfl (lv_at hl 4 rfl) ?_
    refine lv_icmp_eq (pc := 20) (tgt := 25) hx hb dX9_pieceFinding_20 (by decide) (fun q => ?_) (fun q => ?_)
    · have h := ite_t q h
      refine lv_iload_n (pc := 25) hx hb dX9_pieceFinding_25 rfl (lv_at hl 3 rfl) ?_
      refine lv_if_lt (pc := 26) (tgt := 39) hx hb dX9_pieceFinding_26 (by decide) (fun q => ?_) (fun q => ?_)
      · have h := ite_t q h
        refine lv_iconst (pc := 39) (v := 3) hx hb dX9_pieceFinding_39 (by decide) ?_
        refine lv_goto (pc := 40) (tgt := 44) hx hb dX9_pieceFinding_40 (by decide) ?_
        exact s_iret F w h dX9_pieceFinding_44
      · have h := ite_f q h
        refine lv_iload_n (pc := 29) hx hb dX9_pieceFinding_29 rfl (lv_at hl 3 rfl) ?_
        refine lv_aload_n (pc := 30) hx hb dX9_pieceFinding_30 rfl (lv_at hl 1 rfl) ?_
        refine lv_iload_n (pc := 31) hx hb dX9_pieceFinding_31 rfl (lv_at hl 2 rfl) ?_
        refine lv_iconst (pc := 32) (v := 4) hx hb dX9_pieceFinding_32 (by decide) ?_
        obtain ⟨r4, S3, hc, h⟩ := bnd_t h
        refine s_cvi (pc := 33) [.int a1, .int (4 : Int32)] (fun ad => [.ref (ad 4), .int a1, .int (4 : Int32)]) F w (m_X9_get _ _ _ _ _ hc) rfl rfl hl.1 ds_4 vc_X9 rfl ok_X9_get rfl kc_X9_get kl_X9_24 ki_X9_get kv_X9_get kn_X9 ⟨Nat.le_trans (by decide) hR1, Nat.le_trans (by decide) hR2⟩ ⟨Nat.zero_le _, Nat.zero_le _⟩ (Nat.le_of_ble_eq_true rfl) dX9_pieceFinding_33 (fun H locs w => ?_)
        refine lv_icmp_lt (pc := 36) (tgt := 43) hx hb dX9_pieceFinding_36 (by decide) (fun q => ?_) (fun q => ?_)
        · have h := ite_t q h
          refine lv_iconst (pc := 43) (v := 0) hx hb dX9_pieceFinding_43 (by decide) ?_
          exact s_iret F w h dX9_pieceFinding_44
        · have h := ite_f q h
          refine lv_iconst (pc := 39) (v := 3) hx hb dX9_pieceFinding_39 (by decide) ?_
          refine lv_goto (pc := 40) (tgt := 44) hx hb dX9_pieceFinding_40 (by decide) ?_
          exact s_iret F w h dX9_pieceFinding_44
    · have h := ite_f q h
      refine lv_iconst (pc := 23) (v := 2) hx hb dX9_pieceFinding_23 (by decide) ?_
      exact s_iret F w h dX9_pieceFinding_24
  · have h := ite_t q h
    refine lv_iconst (pc := 15) (v := 1) hx hb dX9_pieceFinding_15 (by decide) ?_
    exact s_iret F w h dX9_pieceFinding_16
def f_X11_piece_j55  (x1 : Int32) (x2 : Int32) (x4 : Int32) (x5 : Int32) (S : SS) : Option (Int32 × SS) :=
    if x5 = 0 then
      bndv (f_X9_setPiece x1 x2 x4 S) (fun S8 =>
      some ((1 : Int32), S8))
    else
      bnd (f_X5_found x5 S) (fun r10 S9 =>
      some (r10, S9))
def f_X11_piece (a1 : Int32) (a2 : Int32) (a3 : Int32) (a4 : Int32) (S : SS) : Option (Int32 × SS) :=
  bnd (f_X11_isNot a3 (0 : Int32) (1 : Int32) S) (fun r2 S1 =>
  if r2 = 0 then
    bnd (f_X11_isNot a4 (0 : Int32) (120 : Int32) S1) (fun r4 S3 =>
    if r4 = 0 then
      bndv (f_X5_begin  S3) (fun S5 =>
      bnd (f_X11_named a1 (31 : Int32) S5) (fun r7 S6 =>
      if r7 = 0 then
        bnd (f_X9_pieceFinding a1 a2 a3 S6) (fun r12 S11 =>
        f_X11_piece_j55 a1 a2 a4 r12 S11)
      else
        f_X11_piece_j55 a1 a2 a4 r7 S6))
    else
      some ((-1 : Int32), S3))
  else
    some ((-1 : Int32), S1))
theorem dX11_piece_0 : decode cX11_piece 0 = .ok (.iload_n 3, 1) := by decide +kernel
theorem dX11_piece_1 : decode cX11_piece 1 = .ok (.iconst 0, 1) := by decide +kernel
theorem dX11_piece_2 : decode cX11_piece 2 = .ok (.iconst 1, 1) := by decide +kernel
theorem dX11_piece_3 : decode cX11_piece 3 = .ok (.invokestatic 108, 3) := by decide +kernel
theorem dX11_piece_6 : decode cX11_piece 6 = .ok (.ifCond .ne 14, 3) := by decide +kernel
theorem dX11_piece_9 : decode cX11_piece 9 = .ok (.iload 4, 2) := by decide +kernel
theorem dX11_piece_11 : decode cX11_piece 11 = .ok (.iconst 0, 1) := by decide +kernel
theorem dX11_piece_12 : decode cX11_piece 12 = .ok (.bipush 120, 2) := by decide +kernel
theorem dX11_piece_14 : decode cX11_piece 14 = .ok (.invokestatic 108, 3) := by decide +kernel
theorem dX11_piece_17 : decode cX11_piece 17 = .ok (.ifCond .eq 5, 3) := by decide +kernel
theorem dX11_piece_20 : decode cX11_piece 20 = .ok (.iconst (-1), 1) := by decide +kernel
theorem dX11_piece_21 : decode cX11_piece 21 = .ok (.ireturn, 1) := by decide +kernel
theorem dX11_piece_22 : decode cX11_piece 22 = .ok (.aload_n 0, 1) := by decide +kernel
theorem dX11_piece_23 : decode cX11_piece 23 = .ok (.getfield 10, 3) := by decide +kernel
theorem dX11_piece_26 : decode cX11_piece 26 = .ok (.invokevirtual 95, 3) := by decide +kernel
theorem dX11_piece_29 : decode cX11_piece 29 = .ok (.aload_n 0, 1) := by decide +kernel
theorem dX11_piece_30 : decode cX11_piece 30 = .ok (.iload_n 1, 1) := by decide +kernel
theorem dX11_piece_31 : decode cX11_piece 31 = .ok (.bipush 31, 2) := by decide +kernel
theorem dX11_piece_33 : decode cX11_piece 33 = .ok (.invokevirtual 185, 3) := by decide +kernel
theorem dX11_piece_36 : decode cX11_piece 36 = .ok (.istore 5, 2) := by decide +kernel
theorem dX11_piece_38 : decode cX11_piece 38 = .ok (.iload 5, 2) := by decide +kernel
theorem dX11_piece_40 : decode cX11_piece 40 = .ok (.ifCond .ne 15, 3) := by decide +kernel
theorem dX11_piece_43 : decode cX11_piece 43 = .ok (.aload_n 0, 1) := by decide +kernel
theorem dX11_piece_44 : decode cX11_piece 44 = .ok (.getfield 33, 3) := by decide +kernel
theorem dX11_piece_47 : decode cX11_piece 47 = .ok (.iload_n 1, 1) := by decide +kernel
theorem dX11_piece_48 : decode cX11_piece 48 = .ok (.iload_n 2, 1) := by decide +kernel
theorem dX11_piece_49 : decode cX11_piece 49 = .ok (.iload_n 3, 1) := by decide +kernel
theorem dX11_piece_50 : decode cX11_piece 50 = .ok (.invokevirtual 192, 3) := by decide +kernel
theorem dX11_piece_53 : decode cX11_piece 53 = .ok (.istore 5, 2) := by decide +kernel
theorem dX11_piece_55 : decode cX11_piece 55 = .ok (.iload 5, 2) := by decide +kernel
theorem dX11_piece_57 : decode cX11_piece 57 = .ok (.ifCond .eq 13, 3) := by decide +kernel
theorem dX11_piece_60 : decode cX11_piece 60 = .ok (.aload_n 0, 1) := by decide +kernel
theorem dX11_piece_61 : decode cX11_piece 61 = .ok (.getfield 10, 3) := by decide +kernel
theorem dX11_piece_64 : decode cX11_piece 64 = .ok (.iload 5, 2) := by decide +kernel
theorem dX11_piece_66 : decode cX11_piece 66 = .ok (.invokevirtual 98, 3) := by decide +kernel
theorem dX11_piece_69 : decode cX11_piece 69 = .ok (.ireturn, 1) := by decide +kernel
theorem dX11_piece_70 : decode cX11_piece 70 = .ok (.aload_n 0, 1) := by decide +kernel
theorem dX11_piece_71 : decode cX11_piece 71 = .ok (.getfield 33, 3) := by decide +kernel
theorem dX11_piece_74 : decode cX11_piece 74 = .ok (.iload_n 1, 1) := by decide +kernel
theorem dX11_piece_75 : decode cX11_piece 75 = .ok (.iload_n 2, 1) := by decide +kernel
theorem dX11_piece_76 : decode cX11_piece 76 = .ok (.iload 4, 2) := by decide +kernel
theorem dX11_piece_78 : decode cX11_piece 78 = .ok (.invokevirtual 196, 3) := by decide +kernel
theorem dX11_piece_81 : decode cX11_piece 81 = .ok (.iconst 1, 1) := by decide +kernel
theorem dX11_piece_82 : decode cX11_piece 82 = .ok (.ireturn, 1) := by decide +kernel
set_option maxRecDepth 100000 in
set_option maxHeartbeats 4000000 in
theorem w_X11_piece_j55 {p : Program} {l : Launch} {e : Env} {R : Room} {s : State} {m : MethodId} {args : Array Value} {below : List Frame} {meth : Method} {c : Code} {dC : Nat → ClassId} {dI : Nat → Nat → Nat} {cs : Nat → ClassId} {ad : Nat → Nat} {A : Nat → Prop} {D0 : Nat → Nat} {S' : SS} {r : Int32} (F : Fx p s m args meth c cX11_piece 6 RX11 (some .int) dC dI cs A) (hR1 : 2 ≤ R.frames) (hR2 : 48 ≤ R.locals) (x1 : Int32) (x2 : Int32) (x4 : Int32) (x5 : Int32) (S : SS) (h : f_X11_piece_j55 x1 x2 x4 x5 S = some (r, S')) : AW p l e R s m args below meth c dC dI cs ad A D0 (some (.int r)) S' 6 55 [(0, .ref (ad 0)), (1, .int x1), (2, .int x2), (4, .int x4), (5, .int x5)] [] S := by
  have hx := F.1.1
  have hb := F.1.2.1
  intro H locs ls w hl
  rw [f_X11_piece_j55] at h
  refine lv_iload (pc := 55) hx hb dX11_piece_55 (lv_at hl 4 rfl) ?_
  refine lv_if_eq (pc := 57) (tgt := 70) hx hb dX11_piece_57 (by decide) (fun q => ?_) (fun q => ?_)
  · have h := ite_t q h
    refine lv_aload_n (pc := 70) hx hb dX11_piece_70 rfl (lv_at hl 0 rfl) ?_
    refine s_getR (pc := 71) F w 4 ds_0 (j := 3) vc_X11 vi_X11 rfl (by decide) kf_X11_33 dX11_piece_71 ?_
    refine lv_iload_n (pc := 74) hx hb dX11_piece_74 rfl (lv_at hl 1 rfl) ?_
    refine lv_iload_n (pc := 75) hx hb dX11_piece_75 rfl (lv_at hl 2 rfl) ?_
    refine lv_iload (pc := 76) hx hb dX11_piece_76 (lv_at hl 3 rfl) ?_
    obtain ⟨S8, hc, h⟩ := bndv_t h
    refine s_cvv (pc := 78) [.int x1, .int x2, .int x4] (fun ad => [.ref (ad 4), .int x1, .int x2, .int x4]) F w (m_X9_setPiece _ _ _ _ _ hc) rfl rfl hl.1 ds_4 vc_X9 rfl ok_X9_setPiece rfl kc_X9_setPiece kl_X11_196 ki_X9_setPiece kv_X9_setPiece kn_X9 ⟨Nat.le_trans (by decide) hR1, Nat.le_trans (by decide) hR2⟩ ⟨Nat.zero_le _, Nat.zero_le _⟩ (Nat.le_of_ble_eq_true rfl) dX11_piece_78 (fun H locs w => ?_)
    refine lv_iconst (pc := 81) (v := 1) hx hb dX11_piece_81 (by decide) ?_
    exact s_iret F w h dX11_piece_82
  · have h := ite_f q h
    refine lv_aload_n (pc := 60) hx hb dX11_piece_60 rfl (lv_at hl 0 rfl) ?_
    refine s_getR (pc := 61) F w 1 ds_0 (j := 0) vc_X11 vi_X11 rfl (by decide) kf_X11_10 dX11_piece_61 ?_
    refine lv_iload (pc := 64) hx hb dX11_piece_64 (lv_at hl 4 rfl) ?_
    obtain ⟨r10, S9, hc, h⟩ := bnd_t h
    refine s_cvi (pc := 66) [.int x5] (fun ad => [.ref (ad 1), .int x5]) F w (m_X5_found _ _ _ _ hc) rfl rfl hl.1 ds_1 vc_X5 rfl ok_X5_found rfl kc_X5_found kl_X11_98 ki_X5_found kv_X5_found kn_X5 ⟨Nat.le_trans (by decide) hR1, Nat.le_trans (by decide) hR2⟩ ⟨Nat.zero_le _, Nat.zero_le _⟩ (Nat.le_of_ble_eq_true rfl) dX11_piece_66 (fun H locs w => ?_)
    exact s_iret F w h dX11_piece_69
set_option maxRecDepth 100000 in
set_option maxHeartbeats 4000000 in
theorem m_X11_piece (a1 : Int32) (a2 : Int32) (a3 : Int32) (a4 : Int32) (S S' : SS) (r : Int32) (h : f_X11_piece a1 a2 a3 a4 S = some (r, S')) : MT yX11_piece cX11_piece 6 (some .int) 3 67 (fun ad => [.ref (ad 0), .int a1, .int a2, .int a3, .int a4]) S (some (.int r)) S' := by
  refine MT.of RX11 (fun ad => [(0, .ref (ad 0)), (1, .int a1), (2, .int a2), (3, .int a3), (4, .int a4)]) (by decide) rfl (fun _ => Nat.le_of_ble_eq_true rfl) (fun _ => rfl) ?_
  intro p l e R s m args below meth c dC dI cs ad A hR1 hR2 F H locs ls w hl
  have hx := F.1.1
  have hb := F.1.2.1
  rw [f_X11_piece] at h
  refine lv_iload_n (pc := 0) hx hb dX11_piece_0 rfl (lv_at hl 3 rfl) ?_
  refine lv_iconst (pc := 1) (v := 0) hx hb dX11_piece_1 (by decide) ?_
  refine lv_iconst (pc := 2) (v := 1) hx hb dX11_piece_2 (by decide) ?_
  obtain ⟨r2, S1, hc, h⟩ := bnd_t h
  refine s_csi (pc := 3) [.int a3, .int (0 : Int32), .int (1 : Int32)] (fun ad => [.int a3, .int (0 : Int32), .int (1 : Int32)]) F w (m_X11_isNot _ _ _ _ _ _ hc) rfl rfl hl.1 ok_X11_isNot rfl kc_X11_isNot kl_X11_108 ks_X11_isNot kn_X11 ⟨Nat.le_trans (by decide) hR1, Nat.le_trans (by decide) hR2⟩ ⟨Nat.zero_le _, Nat.zero_le _⟩ (Nat.le_of_ble_eq_true rfl) dX11_piece_3 (fun H locs w => ?_)
  refine lv_if_ne (pc := 6) (tgt := 20) hx hb dX11_piece_6 (by decide) (fun q => ?_) (fun q => ?_)
  · have h := ite_f q h
    refine lv_iconst (pc := 20) (v := -1) hx hb dX11_piece_20 (by decide) ?_
    exact s_iret F w h dX11_piece_21
  · have h := ite_t q h
    refine lv_iload (pc := 9) hx hb dX11_piece_9 (lv_at hl 4 rfl) ?_
    refine lv_iconst (pc := 11) (v := 0) hx hb dX11_piece_11 (by decide) ?_
    refine lv_bipush (pc := 12) (v := 120) hx hb dX11_piece_12 (by decide) ?_
    obtain ⟨r4, S3, hc, h⟩ := bnd_t h
    refine s_csi (pc := 14) [.int a4, .int (0 : Int32), .int (120 : Int32)] (fun ad => [.int a4, .int (0 : Int32), .int (120 : Int32)]) F w (m_X11_isNot _ _ _ _ _ _ hc) rfl rfl hl.1 ok_X11_isNot rfl kc_X11_isNot kl_X11_108 ks_X11_isNot kn_X11 ⟨Nat.le_trans (by decide) hR1, Nat.le_trans (by decide) hR2⟩ ⟨Nat.zero_le _, Nat.zero_le _⟩ (Nat.le_of_ble_eq_true rfl) dX11_piece_14 (fun H locs w => ?_)
    refine lv_if_eq (pc := 17) (tgt := 22) hx hb dX11_piece_17 (by decide) (fun q => ?_) (fun q => ?_)
    · have h := ite_t q h
      refine lv_aload_n (pc := 22) hx hb dX11_piece_22 rfl (lv_at hl 0 rfl) ?_
      refine s_getR (pc := 23) F w 1 ds_0 (j := 0) vc_X11 vi_X11 rfl (by decide) kf_X11_10 dX11_piece_23 ?_
      obtain ⟨S5, hc, h⟩ := bndv_t h
      refine s_cvv (pc := 26) [] (fun ad => [.ref (ad 1)]) F w (m_X5_begin  _ _ hc) rfl rfl hl.1 ds_1 vc_X5 rfl ok_X5_begin rfl kc_X5_begin kl_X11_95 ki_X5_begin kv_X5_begin kn_X5 ⟨Nat.le_trans (by decide) hR1, Nat.le_trans (by decide) hR2⟩ ⟨Nat.zero_le _, Nat.zero_le _⟩ (Nat.le_of_ble_eq_true rfl) dX11_piece_26 (fun H locs w => ?_)
      refine lv_aload_n (pc := 29) hx hb dX11_piece_29 rfl (lv_at hl 0 rfl) ?_
      refine lv_iload_n (pc := 30) hx hb dX11_piece_30 rfl (lv_at hl 1 rfl) ?_
      refine lv_bipush (pc := 31) (v := 31) hx hb dX11_piece_31 (by decide) ?_
      obtain ⟨r7, S6, hc, h⟩ := bnd_t h
      refine s_cvi (pc := 33) [.int a1, .int (31 : Int32)] (fun ad => [.ref (ad 0), .int a1, .int (31 : Int32)]) F w (m_X11_named _ _ _ _ _ hc) rfl rfl hl.1 ds_0 vc_X11 rfl ok_X11_named rfl kc_X11_named kl_X11_185 ki_X11_named kv_X11_named kn_X11 ⟨Nat.le_trans (by decide) hR1, Nat.le_trans (by decide) hR2⟩ ⟨Nat.zero_le _, Nat.zero_le _⟩ (Nat.le_of_ble_eq_true rfl) dX11_piece_33 (fun H locs w => ?_)
      refine lv_istore (pc := 36) (lv' := [(5, .int r7), (0, .ref (ad 0)), (1, .int a1), (2, .int a2), (3, .int a3), (4, .int a4)]) hx hb dX11_piece_36 hl (by decide) rfl (fun ls hl => ?_)
      refine lv_iload (pc := 38) hx hb dX11_piece_38 (lv_at hl 0 rfl) ?_
      refine lv_if_ne (pc := 40) (tgt := 55) hx hb dX11_piece_40 (by decide) (fun q => ?_) (fun q => ?_)
      · have h := ite_f q h
        exact w_X11_piece_j55 F (Nat.le_trans (by decide) hR1) (Nat.le_trans (by decide) hR2) _ _ _ _ _ h _ _ _ w (lv_sub hl [1, 2, 3, 5, 0] rfl)
      · have h := ite_t q h
        refine lv_aload_n (pc := 43) hx hb dX11_piece_43 rfl (lv_at hl 1 rfl) ?_
        refine s_getR (pc := 44) F w 4 ds_0 (j := 3) vc_X11 vi_X11 rfl (by decide) kf_X11_33 dX11_piece_44 ?_
        refine lv_iload_n (pc := 47) hx hb dX11_piece_47 rfl (lv_at hl 2 rfl) ?_
        refine lv_iload_n (pc := 48) hx hb dX11_piece_48 rfl (lv_at hl 3 rfl) ?_
        refine lv_iload_n (pc := 49) hx hb dX11_piece_49 rfl (lv_at hl 4 rfl) ?_
        obtain ⟨r12, S11, hc, h⟩ := bnd_t h
        refine s_cvi (pc := 50) [.int a1, .int a2, .int a3] (fun ad => [.ref (ad 4), .int a1, .int a2, .int a3]) F w (m_X9_pieceFinding _ _ _ _ _ _ hc) rfl rfl hl.1 ds_4 vc_X9 rfl ok_X9_pieceFinding rfl kc_X9_pieceFinding kl_X11_192 ki_X9_pieceFinding kv_X9_pieceFinding kn_X9 ⟨Nat.le_trans (by decide) hR1, Nat.le_trans (by decide) hR2⟩ ⟨Nat.zero_le _, Nat.zero_le _⟩ (Nat.le_of_ble_eq_true rfl) dX11_piece_50 (fun H locs w => ?_)
        refine lv_istore (pc := 53) (lv' := [(5, .int r12), (0, .ref (ad 0)), (1, .int a1), (2, .int a2), (3, .int a3), (4, .int a4)]) hx hb dX11_piece_53 hl (by decide) rfl (fun ls hl => ?_)
        exact w_X11_piece_j55 F (Nat.le_trans (by decide) hR1) (Nat.le_trans (by decide) hR2) _ _ _ _ _ h _ _ _ w (lv_sub hl [1, 2, 3, 5, 0] rfl)
    · have h := ite_f q h
      refine lv_iconst (pc := 20) (v := -1) hx hb dX11_piece_20 (by decide) ?_
      exact s_iret F w h dX11_piece_21
def f_X12_piece_j101   (S : SS) : Option (Int32 × SS) :=
    bnd (f_X12_found (3 : Int32) S) (fun r7 S6 =>
    some (r7, S6))
def f_X12_piece_j70  (x1 : Int32) (x2 : Int32) (x4 : Int32) (S : SS) : Option (Int32 × SS) :=
    grd (inb x1 72) (
    if (S.1 102 x1.toNatClampNeg) = (-4 : Int32) then
      bnd (f_X12_found (1 : Int32) S) (fun r10 S9 =>
      some (r10, S9))
    else
      if x2 < 0 then
        f_X12_piece_j101  S
      else
        grd (inb x1 72) (
        if x2 < (S.1 102 x1.toNatClampNeg) then
          grd (inb (((20 : Int32) * x1) + x2) 1440) (wr S 104 (((20 : Int32) * x1) + x2).toNatClampNeg x4 (fun S8 =>
          some ((1 : Int32), S8)))
        else
          f_X12_piece_j101  S))
def f_X12_piece (a1 : Int32) (a2 : Int32) (a3 : Int32) (a4 : Int32) (S : SS) : Option (Int32 × SS) :=
  if a3 < 0 then
    some ((-1 : Int32), S)
  else
    if (1 : Int32) < a3 then
      some ((-1 : Int32), S)
    else
      if a4 < 0 then
        some ((-1 : Int32), S)
      else
        if a4 ≤ (120 : Int32) then
          bndv (f_X12_begin  S) (fun S1 =>
          bnd (f_X12_missThing a1 (1 : Int32) S1) (fun r3 S2 =>
          bnd (f_X12_ends r3 S2) (fun r5 S4 =>
          if r5 = 0 then
            grd (inb a1 72) (
            if (S4.1 102 a1.toNatClampNeg) = (-4 : Int32) then
              f_X12_piece_j70 a1 a2 a4 S4
            else
              grd (inb a1 72) (
              if (S4.1 103 a1.toNatClampNeg) = a3 then
                f_X12_piece_j70 a1 a2 a4 S4
              else
                bnd (f_X12_found (2 : Int32) S4) (fun r12 S11 =>
                some (r12, S11))))
          else
            some ((-2 : Int32), S4))))
        else
          some ((-1 : Int32), S)
theorem dX12_piece_0 : decode cX12_piece 0 = .ok (.iload_n 3, 1) := by decide +kernel
theorem dX12_piece_1 : decode cX12_piece 1 = .ok (.ifCond .lt 20, 3) := by decide +kernel
theorem dX12_piece_4 : decode cX12_piece 4 = .ok (.iload_n 3, 1) := by decide +kernel
theorem dX12_piece_5 : decode cX12_piece 5 = .ok (.iconst 1, 1) := by decide +kernel
theorem dX12_piece_6 : decode cX12_piece 6 = .ok (.if_icmp .gt 15, 3) := by decide +kernel
theorem dX12_piece_9 : decode cX12_piece 9 = .ok (.iload 4, 2) := by decide +kernel
theorem dX12_piece_11 : decode cX12_piece 11 = .ok (.ifCond .lt 10, 3) := by decide +kernel
theorem dX12_piece_14 : decode cX12_piece 14 = .ok (.iload 4, 2) := by decide +kernel
theorem dX12_piece_16 : decode cX12_piece 16 = .ok (.bipush 120, 2) := by decide +kernel
theorem dX12_piece_18 : decode cX12_piece 18 = .ok (.if_icmp .le 5, 3) := by decide +kernel
theorem dX12_piece_21 : decode cX12_piece 21 = .ok (.iconst (-1), 1) := by decide +kernel
theorem dX12_piece_22 : decode cX12_piece 22 = .ok (.ireturn, 1) := by decide +kernel
theorem dX12_piece_23 : decode cX12_piece 23 = .ok (.aload_n 0, 1) := by decide +kernel
theorem dX12_piece_24 : decode cX12_piece 24 = .ok (.invokevirtual 226, 3) := by decide +kernel
theorem dX12_piece_27 : decode cX12_piece 27 = .ok (.aload_n 0, 1) := by decide +kernel
theorem dX12_piece_28 : decode cX12_piece 28 = .ok (.aload_n 0, 1) := by decide +kernel
theorem dX12_piece_29 : decode cX12_piece 29 = .ok (.iload_n 1, 1) := by decide +kernel
theorem dX12_piece_30 : decode cX12_piece 30 = .ok (.iconst 1, 1) := by decide +kernel
theorem dX12_piece_31 : decode cX12_piece 31 = .ok (.invokevirtual 293, 3) := by decide +kernel
theorem dX12_piece_34 : decode cX12_piece 34 = .ok (.invokevirtual 236, 3) := by decide +kernel
theorem dX12_piece_37 : decode cX12_piece 37 = .ok (.ifCond .eq 6, 3) := by decide +kernel
theorem dX12_piece_40 : decode cX12_piece 40 = .ok (.bipush (-2), 2) := by decide +kernel
theorem dX12_piece_42 : decode cX12_piece 42 = .ok (.ireturn, 1) := by decide +kernel
theorem dX12_piece_43 : decode cX12_piece 43 = .ok (.aload_n 0, 1) := by decide +kernel
theorem dX12_piece_44 : decode cX12_piece 44 = .ok (.getfield 120, 3) := by decide +kernel
theorem dX12_piece_47 : decode cX12_piece 47 = .ok (.iload_n 1, 1) := by decide +kernel
theorem dX12_piece_48 : decode cX12_piece 48 = .ok (.iaload, 1) := by decide +kernel
theorem dX12_piece_49 : decode cX12_piece 49 = .ok (.bipush (-4), 2) := by decide +kernel
theorem dX12_piece_51 : decode cX12_piece 51 = .ok (.if_icmp .eq 19, 3) := by decide +kernel
theorem dX12_piece_54 : decode cX12_piece 54 = .ok (.aload_n 0, 1) := by decide +kernel
theorem dX12_piece_55 : decode cX12_piece 55 = .ok (.getfield 123, 3) := by decide +kernel
theorem dX12_piece_58 : decode cX12_piece 58 = .ok (.iload_n 1, 1) := by decide +kernel
theorem dX12_piece_59 : decode cX12_piece 59 = .ok (.iaload, 1) := by decide +kernel
theorem dX12_piece_60 : decode cX12_piece 60 = .ok (.iload_n 3, 1) := by decide +kernel
theorem dX12_piece_61 : decode cX12_piece 61 = .ok (.if_icmp .eq 9, 3) := by decide +kernel
theorem dX12_piece_64 : decode cX12_piece 64 = .ok (.aload_n 0, 1) := by decide +kernel
theorem dX12_piece_65 : decode cX12_piece 65 = .ok (.iconst 2, 1) := by decide +kernel
theorem dX12_piece_66 : decode cX12_piece 66 = .ok (.invokevirtual 210, 3) := by decide +kernel
theorem dX12_piece_69 : decode cX12_piece 69 = .ok (.ireturn, 1) := by decide +kernel
theorem dX12_piece_70 : decode cX12_piece 70 = .ok (.aload_n 0, 1) := by decide +kernel
theorem dX12_piece_71 : decode cX12_piece 71 = .ok (.getfield 120, 3) := by decide +kernel
theorem dX12_piece_74 : decode cX12_piece 74 = .ok (.iload_n 1, 1) := by decide +kernel
theorem dX12_piece_75 : decode cX12_piece 75 = .ok (.iaload, 1) := by decide +kernel
theorem dX12_piece_76 : decode cX12_piece 76 = .ok (.bipush (-4), 2) := by decide +kernel
theorem dX12_piece_78 : decode cX12_piece 78 = .ok (.if_icmp .ne 9, 3) := by decide +kernel
theorem dX12_piece_81 : decode cX12_piece 81 = .ok (.aload_n 0, 1) := by decide +kernel
theorem dX12_piece_82 : decode cX12_piece 82 = .ok (.iconst 1, 1) := by decide +kernel
theorem dX12_piece_83 : decode cX12_piece 83 = .ok (.invokevirtual 210, 3) := by decide +kernel
theorem dX12_piece_86 : decode cX12_piece 86 = .ok (.ireturn, 1) := by decide +kernel
theorem dX12_piece_87 : decode cX12_piece 87 = .ok (.iload_n 2, 1) := by decide +kernel
theorem dX12_piece_88 : decode cX12_piece 88 = .ok (.ifCond .lt 13, 3) := by decide +kernel
theorem dX12_piece_91 : decode cX12_piece 91 = .ok (.iload_n 2, 1) := by decide +kernel
theorem dX12_piece_92 : decode cX12_piece 92 = .ok (.aload_n 0, 1) := by decide +kernel
theorem dX12_piece_93 : decode cX12_piece 93 = .ok (.getfield 120, 3) := by decide +kernel
theorem dX12_piece_96 : decode cX12_piece 96 = .ok (.iload_n 1, 1) := by decide +kernel
theorem dX12_piece_97 : decode cX12_piece 97 = .ok (.iaload, 1) := by decide +kernel
theorem dX12_piece_98 : decode cX12_piece 98 = .ok (.if_icmp .lt 9, 3) := by decide +kernel
theorem dX12_piece_101 : decode cX12_piece 101 = .ok (.aload_n 0, 1) := by decide +kernel
theorem dX12_piece_102 : decode cX12_piece 102 = .ok (.iconst 3, 1) := by decide +kernel
theorem dX12_piece_103 : decode cX12_piece 103 = .ok (.invokevirtual 210, 3) := by decide +kernel
theorem dX12_piece_106 : decode cX12_piece 106 = .ok (.ireturn, 1) := by decide +kernel
theorem dX12_piece_107 : decode cX12_piece 107 = .ok (.aload_n 0, 1) := by decide +kernel
theorem dX12_piece_108 : decode cX12_piece 108 = .ok (.getfield 126, 3) := by decide +kernel
theorem dX12_piece_111 : decode cX12_piece 111 = .ok (.bipush 20, 2) := by decide +kernel
theorem dX12_piece_113 : decode cX12_piece 113 = .ok (.iload_n 1, 1) := by decide +kernel
theorem dX12_piece_114 : decode cX12_piece 114 = .ok (.imul, 1) := by decide +kernel
theorem dX12_piece_115 : decode cX12_piece 115 = .ok (.iload_n 2, 1) := by decide +kernel
theorem dX12_piece_116 : decode cX12_piece 116 = .ok (.iadd, 1) := by decide +kernel
theorem dX12_piece_117 : decode cX12_piece 117 = .ok (.iload 4, 2) := by decide +kernel
theorem dX12_piece_119 : decode cX12_piece 119 = .ok (.iastore, 1) := by decide +kernel
theorem dX12_piece_120 : decode cX12_piece 120 = .ok (.iconst 1, 1) := by decide +kernel
theorem dX12_piece_121 : decode cX12_piece 121 = .ok (.ireturn, 1) := by decide +kernel
set_option maxRecDepth 100000 in
set_option maxHeartbeats 4000000 in
theorem w_X12_piece_j101 {p : Program} {l : Launch} {e : Env} {R : Room} {s : State} {m : MethodId} {args : Array Value} {below : List Frame} {meth : Method} {c : Code} {dC : Nat → ClassId} {dI : Nat → Nat → Nat} {cs : Nat → ClassId} {ad : Nat → Nat} {A : Nat → Prop} {D0 : Nat → Nat} {S' : SS} {r : Int32} (F : Fx p s m args meth c cX12_piece 5 RX12 (some .int) dC dI cs A) (hR1 : 1 ≤ R.frames) (hR2 : 21 ≤ R.locals)  (S : SS) (h : f_X12_piece_j101  S = some (r, S')) : AW p l e R s m args below meth c dC dI cs ad A D0 (some (.int r)) S' 5 101 [(0, .ref (ad 14))] [] S := by
  have hx := F.1.1
  have hb := F.1.2.1
  intro H locs ls w hl
  rw [f_X12_piece_j101] at h
  refine lv_aload_n (pc := 101) hx hb dX12_piece_101 rfl (lv_at hl 0 rfl) ?_
  refine lv_iconst (pc := 102) (v := 3) hx hb dX12_piece_102 (by decide) ?_
  obtain ⟨r7, S6, hc, h⟩ := bnd_t h
  refine s_cvi (pc := 103) [.int (3 : Int32)] (fun ad => [.ref (ad 14), .int (3 : Int32)]) F w (m_X12_found _ _ _ _ hc) rfl rfl hl.1 ds_14 vc_X12 rfl ok_X12_found rfl kc_X12_found kl_X12_210 ki_X12_found kv_X12_found kn_X12 ⟨Nat.le_trans (by decide) hR1, Nat.le_trans (by decide) hR2⟩ ⟨Nat.zero_le _, Nat.zero_le _⟩ (Nat.le_of_ble_eq_true rfl) dX12_piece_103 (fun H locs w => ?_)
  exact s_iret F w h dX12_piece_106
set_option maxRecDepth 100000 in
set_option maxHeartbeats 4000000 in
theorem w_X12_piece_j70 {p : Program} {l : Launch} {e : Env} {R : Room} {s : State} {m : MethodId} {args : Array Value} {below : List Frame} {meth : Method} {c : Code} {dC : Nat → ClassId} {dI : Nat → Nat → Nat} {cs : Nat → ClassId} {ad : Nat → Nat} {A : Nat → Prop} {D0 : Nat → Nat} {S' : SS} {r : Int32} (F : Fx p s m args meth c cX12_piece 5 RX12 (some .int) dC dI cs A) (hR1 : 1 ≤ R.frames) (hR2 : 21 ≤ R.locals) (x1 : Int32) (x2 : Int32) (x4 : Int32) (S : SS) (h : f_X12_piece_j70 x1 x2 x4 S = some (r, S')) : AW p l e R s m args below meth c dC dI cs ad A D0 (some (.int r)) S' 5 70 [(0, .ref (ad 14)), (1, .int x1), (2, .int x2), (4, .int x4)] [] S := by
  have hx := F.1.1
  have hb := F.1.2.1
  intro H locs ls w hl
  rw [f_X12_piece_j70] at h
  refine lv_aload_n (pc := 70) hx hb dX12_piece_70 rfl (lv_at hl 0 rfl) ?_
  refine s_getR (pc := 71) F w 102 ds_14 (j := 50) vc_X12 vi_X12 rfl (by decide) kf_X12_120 dX12_piece_71 ?_
  refine lv_iload_n (pc := 74) hx hb dX12_piece_74 rfl (lv_at hl 1 rfl) ?_
  refine s_iald (pc := 75) F w ds_102 h dX12_piece_75 (fun h => ?_)
  refine lv_bipush (pc := 76) (v := -4) hx hb dX12_piece_76 (by decide) ?_
  refine lv_icmp_ne (pc := 78) (tgt := 87) hx hb dX12_piece_78 (by decide) (fun q => ?_) (fun q => ?_)
  · have h := ite_f q h
    refine lv_iload_n (pc := 87) hx hb dX12_piece_87 rfl (lv_at hl 2 rfl) ?_
    refine lv_if_lt (pc := 88) (tgt := 101) hx hb dX12_piece_88 (by decide) (fun q => ?_) (fun q => ?_)
    · have h := ite_t q h
      exact w_X12_piece_j101 F (Nat.le_trans (by decide) hR1) (Nat.le_trans (by decide) hR2)  _ h _ _ _ w (lv_sub hl [0] rfl)
    · have h := ite_f q h
      refine lv_iload_n (pc := 91) hx hb dX12_piece_91 rfl (lv_at hl 2 rfl) ?_
      refine lv_aload_n (pc := 92) hx hb dX12_piece_92 rfl (lv_at hl 0 rfl) ?_
      refine s_getR (pc := 93) F w 102 ds_14 (j := 50) vc_X12 vi_X12 rfl (by decide) kf_X12_120 dX12_piece_93 ?_
      refine lv_iload_n (pc := 96) hx hb dX12_piece_96 rfl (lv_at hl 1 rfl) ?_
      refine s_iald (pc := 97) F w ds_102 h dX12_piece_97 (fun h => ?_)
      refine lv_icmp_lt (pc := 98) (tgt := 107) hx hb dX12_piece_98 (by decide) (fun q => ?_) (fun q => ?_)
      · have h := ite_t q h
        refine lv_aload_n (pc := 107) hx hb dX12_piece_107 rfl (lv_at hl 0 rfl) ?_
        refine s_getR (pc := 108) F w 104 ds_14 (j := 52) vc_X12 vi_X12 rfl (by decide) kf_X12_126 dX12_piece_108 ?_
        refine lv_bipush (pc := 111) (v := 20) hx hb dX12_piece_111 (by decide) ?_
        refine lv_iload_n (pc := 113) hx hb dX12_piece_113 rfl (lv_at hl 1 rfl) ?_
        refine lv_imul (pc := 114) hx hb dX12_piece_114 ?_
        refine lv_iload_n (pc := 115) hx hb dX12_piece_115 rfl (lv_at hl 2 rfl) ?_
        refine lv_iadd (pc := 116) hx hb dX12_piece_116 ?_
        refine lv_iload (pc := 117) hx hb dX12_piece_117 (lv_at hl 3 rfl) ?_
        refine s_iast (pc := 119) F w ds_104 h dX12_piece_119 (fun S8 H locs h w => ?_)
        refine lv_iconst (pc := 120) (v := 1) hx hb dX12_piece_120 (by decide) ?_
        exact s_iret F w h dX12_piece_121
      · have h := ite_f q h
        exact w_X12_piece_j101 F (Nat.le_trans (by decide) hR1) (Nat.le_trans (by decide) hR2)  _ h _ _ _ w (lv_sub hl [0] rfl)
  · have h := ite_t q h
    refine lv_aload_n (pc := 81) hx hb dX12_piece_81 rfl (lv_at hl 0 rfl) ?_
    refine lv_iconst (pc := 82) (v := 1) hx hb dX12_piece_82 (by decide) ?_
    obtain ⟨r10, S9, hc, h⟩ := bnd_t h
    refine s_cvi (pc := 83) [.int (1 : Int32)] (fun ad => [.ref (ad 14), .int (1 : Int32)]) F w (m_X12_found _ _ _ _ hc) rfl rfl hl.1 ds_14 vc_X12 rfl ok_X12_found rfl kc_X12_found kl_X12_210 ki_X12_found kv_X12_found kn_X12 ⟨Nat.le_trans (by decide) hR1, Nat.le_trans (by decide) hR2⟩ ⟨Nat.zero_le _, Nat.zero_le _⟩ (Nat.le_of_ble_eq_true rfl) dX12_piece_83 (fun H locs w => ?_)
    exact s_iret F w h dX12_piece_86
set_option maxRecDepth 100000 in
set_option maxHeartbeats 4000000 in
theorem m_X12_piece (a1 : Int32) (a2 : Int32) (a3 : Int32) (a4 : Int32) (S S' : SS) (r : Int32) (h : f_X12_piece a1 a2 a3 a4 S = some (r, S')) : MT yX12_piece cX12_piece 5 (some .int) 2 45 (fun ad => [.ref (ad 14), .int a1, .int a2, .int a3, .int a4]) S (some (.int r)) S' := by
  refine MT.of RX12 (fun ad => [(0, .ref (ad 14)), (1, .int a1), (2, .int a2), (3, .int a3), (4, .int a4)]) (by decide) rfl (fun _ => Nat.le_of_ble_eq_true rfl) (fun _ => rfl) ?_
  intro p l e R s m args below meth c dC dI cs ad A hR1 hR2 F H locs ls w hl
  have hx := F.1.1
  have hb := F.1.2.1
  rw [f_X12_piece] at h
  refine lv_iload_n (pc := 0) hx hb dX12_piece_0 rfl (lv_at hl 3 rfl) ?_
  refine lv_if_lt (pc := 1) (tgt := 21) hx hb dX12_piece_1 (by decide) (fun q => ?_) (fun q => ?_)
  · have h := ite_t q h
    refine lv_iconst (pc := 21) (v := -1) hx hb dX12_piece_21 (by decide) ?_
    exact s_iret F w h dX12_piece_22
  · have h := ite_f q h
    refine lv_iload_n (pc := 4) hx hb dX12_piece_4 rfl (lv_at hl 3 rfl) ?_
    refine lv_iconst (pc := 5) (v := 1) hx hb dX12_piece_5 (by decide) ?_
    refine lv_icmp_gt (pc := 6) (tgt := 21) hx hb dX12_piece_6 (by decide) (fun q => ?_) (fun q => ?_)
    · have h := ite_t q h
      refine lv_iconst (pc := 21) (v := -1) hx hb dX12_piece_21 (by decide) ?_
      exact s_iret F w h dX12_piece_22
    · have h := ite_f q h
      refine lv_iload (pc := 9) hx hb dX12_piece_9 (lv_at hl 4 rfl) ?_
      refine lv_if_lt (pc := 11) (tgt := 21) hx hb dX12_piece_11 (by decide) (fun q => ?_) (fun q => ?_)
      · have h := ite_t q h
        refine lv_iconst (pc := 21) (v := -1) hx hb dX12_piece_21 (by decide) ?_
        exact s_iret F w h dX12_piece_22
      · have h := ite_f q h
        refine lv_iload (pc := 14) hx hb dX12_piece_14 (lv_at hl 4 rfl) ?_
        refine lv_bipush (pc := 16) (v := 120) hx hb dX12_piece_16 (by decide) ?_
        refine lv_icmp_le (pc := 18) (tgt := 23) hx hb dX12_piece_18 (by decide) (fun q => ?_) (fun q => ?_)
        · have h := ite_t q h
          refine lv_aload_n (pc := 23) hx hb dX12_piece_23 rfl (lv_at hl 0 rfl) ?_
          obtain ⟨S1, hc, h⟩ := bndv_t h
          refine s_cvv (pc := 24) [] (fun ad => [.ref (ad 14)]) F w (m_X12_begin  _ _ hc) rfl rfl hl.1 ds_14 vc_X12 rfl ok_X12_begin rfl kc_X12_begin kl_X12_226 ki_X12_begin kv_X12_begin kn_X12 ⟨Nat.le_trans (by decide) hR1, Nat.le_trans (by decide) hR2⟩ ⟨Nat.zero_le _, Nat.zero_le _⟩ (Nat.le_of_ble_eq_true rfl) dX12_piece_24 (fun H locs w => ?_)
          refine lv_aload_n (pc := 27) hx hb dX12_piece_27 rfl (lv_at hl 0 rfl) ?_
          refine lv_aload_n (pc := 28) hx hb dX12_piece_28 rfl (lv_at hl 0 rfl) ?_
          refine lv_iload_n (pc := 29) hx hb dX12_piece_29 rfl (lv_at hl 1 rfl) ?_
          refine lv_iconst (pc := 30) (v := 1) hx hb dX12_piece_30 (by decide) ?_
          obtain ⟨r3, S2, hc, h⟩ := bnd_t h
          refine s_cvi (pc := 31) [.int a1, .int (1 : Int32)] (fun ad => [.ref (ad 14), .int a1, .int (1 : Int32)]) F w (m_X12_missThing _ _ _ _ _ hc) rfl rfl hl.1 ds_14 vc_X12 rfl ok_X12_missThing rfl kc_X12_missThing kl_X12_293 ki_X12_missThing kv_X12_missThing kn_X12 ⟨Nat.le_trans (by decide) hR1, Nat.le_trans (by decide) hR2⟩ ⟨Nat.zero_le _, Nat.zero_le _⟩ (Nat.le_of_ble_eq_true rfl) dX12_piece_31 (fun H locs w => ?_)
          obtain ⟨r5, S4, hc, h⟩ := bnd_t h
          refine s_cvi (pc := 34) [.int r3] (fun ad => [.ref (ad 14), .int r3]) F w (m_X12_ends _ _ _ _ hc) rfl rfl hl.1 ds_14 vc_X12 rfl ok_X12_ends rfl kc_X12_ends kl_X12_236 ki_X12_ends kv_X12_ends kn_X12 ⟨Nat.le_trans (by decide) hR1, Nat.le_trans (by decide) hR2⟩ ⟨Nat.zero_le _, Nat.zero_le _⟩ (Nat.le_of_ble_eq_true rfl) dX12_piece_34 (fun H locs w => ?_)
          refine lv_if_eq (pc := 37) (tgt := 43) hx hb dX12_piece_37 (by decide) (fun q => ?_) (fun q => ?_)
          · have h := ite_t q h
            refine lv_aload_n (pc := 43) hx hb dX12_piece_43 rfl (lv_at hl 0 rfl) ?_
            refine s_getR (pc := 44) F w 102 ds_14 (j := 50) vc_X12 vi_X12 rfl (by decide) kf_X12_120 dX12_piece_44 ?_
            refine lv_iload_n (pc := 47) hx hb dX12_piece_47 rfl (lv_at hl 1 rfl) ?_
            refine s_iald (pc := 48) F w ds_102 h dX12_piece_48 (fun h => ?_)
            refine lv_bipush (pc := 49) (v := -4) hx hb dX12_piece_49 (by decide) ?_
            refine lv_icmp_eq (pc := 51) (tgt := 70) hx hb dX12_piece_51 (by decide) (fun q => ?_) (fun q => ?_)
            · have h := ite_t q h
              exact w_X12_piece_j70 F (Nat.le_trans (by decide) hR1) (Nat.le_trans (by decide) hR2) _ _ _ _ h _ _ _ w (lv_sub hl [0, 1, 2, 4] rfl)
            · have h := ite_f q h
              refine lv_aload_n (pc := 54) hx hb dX12_piece_54 rfl (lv_at hl 0 rfl) ?_
              refine s_getR (pc := 55) F w 103 ds_14 (j := 51) vc_X12 vi_X12 rfl (by decide) kf_X12_123 dX12_piece_55 ?_
              refine lv_iload_n (pc := 58) hx hb dX12_piece_58 rfl (lv_at hl 1 rfl) ?_
              refine s_iald (pc := 59) F w ds_103 h dX12_piece_59 (fun h => ?_)
              refine lv_iload_n (pc := 60) hx hb dX12_piece_60 rfl (lv_at hl 3 rfl) ?_
              refine lv_icmp_eq (pc := 61) (tgt := 70) hx hb dX12_piece_61 (by decide) (fun q => ?_) (fun q => ?_)
              · have h := ite_t q h
                exact w_X12_piece_j70 F (Nat.le_trans (by decide) hR1) (Nat.le_trans (by decide) hR2) _ _ _ _ h _ _ _ w (lv_sub hl [0, 1, 2, 4] rfl)
              · have h := ite_f q h
                refine lv_aload_n (pc := 64) hx hb dX12_piece_64 rfl (lv_at hl 0 rfl) ?_
                refine lv_iconst (pc := 65) (v := 2) hx hb dX12_piece_65 (by decide) ?_
                obtain ⟨r12, S11, hc, h⟩ := bnd_t h
                refine s_cvi (pc := 66) [.int (2 : Int32)] (fun ad => [.ref (ad 14), .int (2 : Int32)]) F w (m_X12_found _ _ _ _ hc) rfl rfl hl.1 ds_14 vc_X12 rfl ok_X12_found rfl kc_X12_found kl_X12_210 ki_X12_found kv_X12_found kn_X12 ⟨Nat.le_trans (by decide) hR1, Nat.le_trans (by decide) hR2⟩ ⟨Nat.zero_le _, Nat.zero_le _⟩ (Nat.le_of_ble_eq_true rfl) dX12_piece_66 (fun H locs w => ?_)
                exact s_iret F w h dX12_piece_69
          · have h := ite_f q h
            refine lv_bipush (pc := 40) (v := -2) hx hb dX12_piece_40 (by decide) ?_
            exact s_iret F w h dX12_piece_42
        · have h := ite_f q h
          refine lv_iconst (pc := 21) (v := -1) hx hb dX12_piece_21 (by decide) ?_
          exact s_iret F w h dX12_piece_22
def f_X1_border  (S : SS) : Option (Int32 × SS) :=
  some (((S.1 3 3) + (S.1 3 6)) - ((S.1 3 3) + (S.1 3 6)) / (8 : Int32) * (8 : Int32), S)
theorem dX1_border_0 : decode cX1_border 0 = .ok (.aload_n 0, 1) := by decide +kernel
theorem dX1_border_1 : decode cX1_border 1 = .ok (.getfield 25, 3) := by decide +kernel
theorem dX1_border_4 : decode cX1_border 4 = .ok (.aload_n 0, 1) := by decide +kernel
theorem dX1_border_5 : decode cX1_border 5 = .ok (.getfield 35, 3) := by decide +kernel
theorem dX1_border_8 : decode cX1_border 8 = .ok (.iadd, 1) := by decide +kernel
theorem dX1_border_9 : decode cX1_border 9 = .ok (.bipush 8, 2) := by decide +kernel
theorem dX1_border_11 : decode cX1_border 11 = .ok (.irem, 1) := by decide +kernel
theorem dX1_border_12 : decode cX1_border 12 = .ok (.ireturn, 1) := by decide +kernel
set_option maxRecDepth 100000 in
set_option maxHeartbeats 4000000 in
theorem m_X1_border  (S S' : SS) (r : Int32) (h : f_X1_border  S = some (r, S')) : MT yX1_border cX1_border 1 (some .int) 0 0 (fun ad => [.ref (ad 3)]) S (some (.int r)) S' := by
  refine MT.of RX1 (fun ad => [(0, .ref (ad 3))]) (by decide) rfl (fun _ => Nat.le_of_ble_eq_true rfl) (fun _ => rfl) ?_
  intro p l e R s m args below meth c dC dI cs ad A hR1 hR2 F H locs ls w hl
  have hx := F.1.1
  have hb := F.1.2.1
  rw [f_X1_border] at h
  refine lv_aload_n (pc := 0) hx hb dX1_border_0 rfl (lv_at hl 0 rfl) ?_
  refine s_getI (pc := 1) F w ds_3 (j := 3) vc_X1 vi_X1 rfl (by decide) kf_X1_25 dX1_border_1 ?_
  refine lv_aload_n (pc := 4) hx hb dX1_border_4 rfl (lv_at hl 0 rfl) ?_
  refine s_getI (pc := 5) F w ds_3 (j := 6) vc_X1 vi_X1 rfl (by decide) kf_X1_35 dX1_border_5 ?_
  refine lv_iadd (pc := 8) hx hb dX1_border_8 ?_
  refine lv_bipush (pc := 9) (v := 8) hx hb dX1_border_9 (by decide) ?_
  refine lv_irem (pc := 11) hx hb dX1_border_11 (by decide) ?_
  exact s_iret F w h dX1_border_12
def f_X8_usedCells  (S : SS) : Option (Int32 × SS) :=
  some ((154 : Int32) + ((11 : Int32) * (S.1 2 1)), S)
theorem dX8_usedCells_0 : decode cX8_usedCells 0 = .ok (.sipush 154, 3) := by decide +kernel
theorem dX8_usedCells_3 : decode cX8_usedCells 3 = .ok (.bipush 11, 2) := by decide +kernel
theorem dX8_usedCells_5 : decode cX8_usedCells 5 = .ok (.aload_n 0, 1) := by decide +kernel
theorem dX8_usedCells_6 : decode cX8_usedCells 6 = .ok (.getfield 17, 3) := by decide +kernel
theorem dX8_usedCells_9 : decode cX8_usedCells 9 = .ok (.imul, 1) := by decide +kernel
theorem dX8_usedCells_10 : decode cX8_usedCells 10 = .ok (.iadd, 1) := by decide +kernel
theorem dX8_usedCells_11 : decode cX8_usedCells 11 = .ok (.ireturn, 1) := by decide +kernel
set_option maxRecDepth 100000 in
set_option maxHeartbeats 4000000 in
theorem m_X8_usedCells  (S S' : SS) (r : Int32) (h : f_X8_usedCells  S = some (r, S')) : MT yX8_usedCells cX8_usedCells 1 (some .int) 0 0 (fun ad => [.ref (ad 2)]) S (some (.int r)) S' := by
  refine MT.of RX8 (fun ad => [(0, .ref (ad 2))]) (by decide) rfl (fun _ => Nat.le_of_ble_eq_true rfl) (fun _ => rfl) ?_
  intro p l e R s m args below meth c dC dI cs ad A hR1 hR2 F H locs ls w hl
  have hx := F.1.1
  have hb := F.1.2.1
  rw [f_X8_usedCells] at h
  refine lv_sipush (pc := 0) (v := 154) hx hb dX8_usedCells_0 (by decide) ?_
  refine lv_bipush (pc := 3) (v := 11) hx hb dX8_usedCells_3 (by decide) ?_
  refine lv_aload_n (pc := 5) hx hb dX8_usedCells_5 rfl (lv_at hl 0 rfl) ?_
  refine s_getI (pc := 6) F w ds_2 (j := 1) vc_X8 vi_X8 rfl (by decide) kf_X8_17 dX8_usedCells_6 ?_
  refine lv_imul (pc := 9) hx hb dX8_usedCells_9 ?_
  refine lv_iadd (pc := 10) hx hb dX8_usedCells_10 ?_
  exact s_iret F w h dX8_usedCells_11
def f_X1_keep_j33   (S : SS) : Option (SS) :=
    bnd (f_X1_border  S) (fun r3 S2 =>
    grd (inb r3 8) (
    bnd (f_X8_usedCells  S2) (fun r5 S4 =>
    grd (cpok (0 : Int32) (0 : Int32) r5 946 946) (cpw S4 19 (kb + r3.toNatClampNeg) (0 : Int32).toNatClampNeg (0 : Int32).toNatClampNeg r5.toNatClampNeg (fun S6 =>
    wr S6 3 6 ((S6.1 3 6) + (1 : Int32)) (fun S7 =>
    some S7))))))
def f_X1_keep  (S : SS) : Option (SS) :=
  wr S 3 7 (0 : Int32) (fun S1 =>
  if (S1.1 3 6) < (8 : Int32) then
    f_X1_keep_j33  S1
  else
    wr S1 3 3 (((S1.1 3 3) + (1 : Int32)) - ((S1.1 3 3) + (1 : Int32)) / (8 : Int32) * (8 : Int32)) (fun S8 =>
    wr S8 3 6 (7 : Int32) (fun S9 =>
    f_X1_keep_j33  S9)))
theorem dX1_keep_0 : decode cX1_keep 0 = .ok (.aload_n 0, 1) := by decide +kernel
theorem dX1_keep_1 : decode cX1_keep 1 = .ok (.iconst 0, 1) := by decide +kernel
theorem dX1_keep_2 : decode cX1_keep 2 = .ok (.putfield 38, 3) := by decide +kernel
theorem dX1_keep_5 : decode cX1_keep 5 = .ok (.aload_n 0, 1) := by decide +kernel
theorem dX1_keep_6 : decode cX1_keep 6 = .ok (.getfield 35, 3) := by decide +kernel
theorem dX1_keep_9 : decode cX1_keep 9 = .ok (.bipush 8, 2) := by decide +kernel
theorem dX1_keep_11 : decode cX1_keep 11 = .ok (.if_icmp .lt 22, 3) := by decide +kernel
theorem dX1_keep_14 : decode cX1_keep 14 = .ok (.aload_n 0, 1) := by decide +kernel
theorem dX1_keep_15 : decode cX1_keep 15 = .ok (.aload_n 0, 1) := by decide +kernel
theorem dX1_keep_16 : decode cX1_keep 16 = .ok (.getfield 25, 3) := by decide +kernel
theorem dX1_keep_19 : decode cX1_keep 19 = .ok (.iconst 1, 1) := by decide +kernel
theorem dX1_keep_20 : decode cX1_keep 20 = .ok (.iadd, 1) := by decide +kernel
theorem dX1_keep_21 : decode cX1_keep 21 = .ok (.bipush 8, 2) := by decide +kernel
theorem dX1_keep_23 : decode cX1_keep 23 = .ok (.irem, 1) := by decide +kernel
theorem dX1_keep_24 : decode cX1_keep 24 = .ok (.putfield 25, 3) := by decide +kernel
theorem dX1_keep_27 : decode cX1_keep 27 = .ok (.aload_n 0, 1) := by decide +kernel
theorem dX1_keep_28 : decode cX1_keep 28 = .ok (.bipush 7, 2) := by decide +kernel
theorem dX1_keep_30 : decode cX1_keep 30 = .ok (.putfield 35, 3) := by decide +kernel
theorem dX1_keep_33 : decode cX1_keep 33 = .ok (.aload_n 1, 1) := by decide +kernel
theorem dX1_keep_34 : decode cX1_keep 34 = .ok (.getfield 41, 3) := by decide +kernel
theorem dX1_keep_37 : decode cX1_keep 37 = .ok (.iconst 0, 1) := by decide +kernel
theorem dX1_keep_38 : decode cX1_keep 38 = .ok (.aload_n 0, 1) := by decide +kernel
theorem dX1_keep_39 : decode cX1_keep 39 = .ok (.getfield 15, 3) := by decide +kernel
theorem dX1_keep_42 : decode cX1_keep 42 = .ok (.aload_n 0, 1) := by decide +kernel
theorem dX1_keep_43 : decode cX1_keep 43 = .ok (.invokevirtual 44, 3) := by decide +kernel
theorem dX1_keep_46 : decode cX1_keep 46 = .ok (.aaload, 1) := by decide +kernel
theorem dX1_keep_47 : decode cX1_keep 47 = .ok (.iconst 0, 1) := by decide +kernel
theorem dX1_keep_48 : decode cX1_keep 48 = .ok (.aload_n 1, 1) := by decide +kernel
theorem dX1_keep_49 : decode cX1_keep 49 = .ok (.invokevirtual 48, 3) := by decide +kernel
theorem dX1_keep_52 : decode cX1_keep 52 = .ok (.invokestatic 51, 3) := by decide +kernel
theorem dX1_keep_55 : decode cX1_keep 55 = .ok (.aload_n 0, 1) := by decide +kernel
theorem dX1_keep_56 : decode cX1_keep 56 = .ok (.dup, 1) := by decide +kernel
theorem dX1_keep_57 : decode cX1_keep 57 = .ok (.getfield 35, 3) := by decide +kernel
theorem dX1_keep_60 : decode cX1_keep 60 = .ok (.iconst 1, 1) := by decide +kernel
theorem dX1_keep_61 : decode cX1_keep 61 = .ok (.iadd, 1) := by decide +kernel
theorem dX1_keep_62 : decode cX1_keep 62 = .ok (.putfield 35, 3) := by decide +kernel
theorem dX1_keep_65 : decode cX1_keep 65 = .ok (.return_, 1) := by decide +kernel
set_option maxRecDepth 100000 in
set_option maxHeartbeats 4000000 in
theorem w_X1_keep_j33 {p : Program} {l : Launch} {e : Env} {R : Room} {s : State} {m : MethodId} {args : Array Value} {below : List Frame} {meth : Method} {c : Code} {dC : Nat → ClassId} {dI : Nat → Nat → Nat} {cs : Nat → ClassId} {ad : Nat → Nat} {A : Nat → Prop} {D0 : Nat → Nat} {S' : SS} (F : Fx p s m args meth c cX1_keep 2 RX1 none dC dI cs A) (hR1 : 1 ≤ R.frames) (hR2 : 40 ≤ R.locals)  (S : SS) (h : f_X1_keep_j33  S = some S') : AW p l e R s m args below meth c dC dI cs ad A D0 none S' 2 33 [(0, .ref (ad 3)), (1, .ref (ad 2))] [] S := by
  have hx := F.1.1
  have hb := F.1.2.1
  intro H locs ls w hl
  rw [f_X1_keep_j33] at h
  refine lv_aload_n (pc := 33) hx hb dX1_keep_33 rfl (lv_at hl 1 rfl) ?_
  refine s_getR (pc := 34) F w 19 ds_2 (j := 0) vc_X8 vi_X8 rfl (by decide) kf_X1_41 dX1_keep_34 ?_
  refine lv_iconst (pc := 37) (v := 0) hx hb dX1_keep_37 (by decide) ?_
  refine lv_aload_n (pc := 38) hx hb dX1_keep_38 rfl (lv_at hl 0 rfl) ?_
  refine s_getR (pc := 39) F w 20 ds_3 (j := 0) vc_X1 vi_X1 rfl (by decide) kf_X1_15 dX1_keep_39 ?_
  refine lv_aload_n (pc := 42) hx hb dX1_keep_42 rfl (lv_at hl 0 rfl) ?_
  obtain ⟨r3, S2, hc, h⟩ := bnd_t h
  refine s_cvi (pc := 43) [] (fun ad => [.ref (ad 3)]) F w (m_X1_border  _ _ _ hc) rfl rfl hl.1 ds_3 vc_X1 rfl ok_X1_border rfl kc_X1_border kl_X1_44 ki_X1_border kv_X1_border kn_X1 ⟨Nat.le_trans (by decide) hR1, Nat.le_trans (by decide) hR2⟩ ⟨Nat.zero_le _, Nat.zero_le _⟩ (Nat.le_of_ble_eq_true rfl) dX1_keep_43 (fun H locs w => ?_)
  refine s_aald (pc := 46) F w ds_20 h dX1_keep_46 (fun hi h => ?_)
  refine lv_iconst (pc := 47) (v := 0) hx hb dX1_keep_47 (by decide) ?_
  refine lv_aload_n (pc := 48) hx hb dX1_keep_48 rfl (lv_at hl 1 rfl) ?_
  obtain ⟨r5, S4, hc, h⟩ := bnd_t h
  refine s_cvi (pc := 49) [] (fun ad => [.ref (ad 2)]) F w (m_X8_usedCells  _ _ _ hc) rfl rfl hl.1 ds_2 vc_X8 rfl ok_X8_usedCells rfl kc_X8_usedCells kl_X1_48 ki_X8_usedCells kv_X8_usedCells kn_X8 ⟨Nat.le_trans (by decide) hR1, Nat.le_trans (by decide) hR2⟩ ⟨Nat.zero_le _, Nat.zero_le _⟩ (Nat.le_of_ble_eq_true rfl) dX1_keep_49 (fun H locs w => ?_)
  refine s_copy (pc := 52) F w hl.1 ds_19 (ds_kept hi) h kl_X1_51 kx_native kx_static kx_ini (Nat.le_trans (by decide) hR1) (Nat.le_trans (Nat.le_of_ble_eq_true rfl) hR2) dX1_keep_52 (fun S6 H locs h w => ?_)
  refine lv_aload_n (pc := 55) hx hb dX1_keep_55 rfl (lv_at hl 0 rfl) ?_
  refine lv_dup (pc := 56) hx hb dX1_keep_56 rfl ?_
  refine s_getI (pc := 57) F w ds_3 (j := 6) vc_X1 vi_X1 rfl (by decide) kf_X1_35 dX1_keep_57 ?_
  refine lv_iconst (pc := 60) (v := 1) hx hb dX1_keep_60 (by decide) ?_
  refine lv_iadd (pc := 61) hx hb dX1_keep_61 ?_
  refine s_putI (pc := 62) F w ds_3 vc_X1 vi_X1 tyX1_ok nmX1 (j := 6) rfl (by decide) kf_X1_35 rfl pd_I h dX1_keep_62 (fun S7 H locs h w => ?_)
  exact s_vret F w h dX1_keep_65
set_option maxRecDepth 100000 in
set_option maxHeartbeats 4000000 in
theorem m_X1_keep  (S S' : SS) (h : f_X1_keep  S = some S') : MT yX1_keep cX1_keep 2 none 1 40 (fun ad => [.ref (ad 3), .ref (ad 2)]) S none S' := by
  refine MT.of RX1 (fun ad => [(0, .ref (ad 3)), (1, .ref (ad 2))]) (by decide) rfl (fun _ => Nat.le_of_ble_eq_true rfl) (fun _ => rfl) ?_
  intro p l e R s m args below meth c dC dI cs ad A hR1 hR2 F H locs ls w hl
  have hx := F.1.1
  have hb := F.1.2.1
  rw [f_X1_keep] at h
  refine lv_aload_n (pc := 0) hx hb dX1_keep_0 rfl (lv_at hl 0 rfl) ?_
  refine lv_iconst (pc := 1) (v := 0) hx hb dX1_keep_1 (by decide) ?_
  refine s_putI (pc := 2) F w ds_3 vc_X1 vi_X1 tyX1_ok nmX1 (j := 7) rfl (by decide) kf_X1_38 rfl pd_I h dX1_keep_2 (fun S1 H locs h w => ?_)
  refine lv_aload_n (pc := 5) hx hb dX1_keep_5 rfl (lv_at hl 0 rfl) ?_
  refine s_getI (pc := 6) F w ds_3 (j := 6) vc_X1 vi_X1 rfl (by decide) kf_X1_35 dX1_keep_6 ?_
  refine lv_bipush (pc := 9) (v := 8) hx hb dX1_keep_9 (by decide) ?_
  refine lv_icmp_lt (pc := 11) (tgt := 33) hx hb dX1_keep_11 (by decide) (fun q => ?_) (fun q => ?_)
  · have h := ite_t q h
    exact w_X1_keep_j33 F (Nat.le_trans (by decide) hR1) (Nat.le_trans (by decide) hR2)  _ h _ _ _ w (lv_sub hl [0, 1] rfl)
  · have h := ite_f q h
    refine lv_aload_n (pc := 14) hx hb dX1_keep_14 rfl (lv_at hl 0 rfl) ?_
    refine lv_aload_n (pc := 15) hx hb dX1_keep_15 rfl (lv_at hl 0 rfl) ?_
    refine s_getI (pc := 16) F w ds_3 (j := 3) vc_X1 vi_X1 rfl (by decide) kf_X1_25 dX1_keep_16 ?_
    refine lv_iconst (pc := 19) (v := 1) hx hb dX1_keep_19 (by decide) ?_
    refine lv_iadd (pc := 20) hx hb dX1_keep_20 ?_
    refine lv_bipush (pc := 21) (v := 8) hx hb dX1_keep_21 (by decide) ?_
    refine lv_irem (pc := 23) hx hb dX1_keep_23 (by decide) ?_
    refine s_putI (pc := 24) F w ds_3 vc_X1 vi_X1 tyX1_ok nmX1 (j := 3) rfl (by decide) kf_X1_25 rfl pd_I h dX1_keep_24 (fun S8 H locs h w => ?_)
    refine lv_aload_n (pc := 27) hx hb dX1_keep_27 rfl (lv_at hl 0 rfl) ?_
    refine lv_bipush (pc := 28) (v := 7) hx hb dX1_keep_28 (by decide) ?_
    refine s_putI (pc := 30) F w ds_3 vc_X1 vi_X1 tyX1_ok nmX1 (j := 6) rfl (by decide) kf_X1_35 rfl pd_I h dX1_keep_30 (fun S9 H locs h w => ?_)
    exact w_X1_keep_j33 F (Nat.le_trans (by decide) hR1) (Nat.le_trans (by decide) hR2)  _ h _ _ _ w (lv_sub hl [0, 1] rfl)
def f_X11_beginAct  (S : SS) : Option (SS) :=
  bndv (f_X5_begin  S) (fun S1 =>
  bndv (f_X1_keep  S1) (fun S2 =>
  some S2))
theorem dX11_beginAct_0 : decode cX11_beginAct 0 = .ok (.aload_n 0, 1) := by decide +kernel
theorem dX11_beginAct_1 : decode cX11_beginAct 1 = .ok (.getfield 10, 3) := by decide +kernel
theorem dX11_beginAct_4 : decode cX11_beginAct 4 = .ok (.invokevirtual 95, 3) := by decide +kernel
theorem dX11_beginAct_7 : decode cX11_beginAct 7 = .ok (.aload_n 0, 1) := by decide +kernel
theorem dX11_beginAct_8 : decode cX11_beginAct 8 = .ok (.getfield 26, 3) := by decide +kernel
theorem dX11_beginAct_11 : decode cX11_beginAct 11 = .ok (.aload_n 0, 1) := by decide +kernel
theorem dX11_beginAct_12 : decode cX11_beginAct 12 = .ok (.getfield 19, 3) := by decide +kernel
theorem dX11_beginAct_15 : decode cX11_beginAct 15 = .ok (.invokevirtual 232, 3) := by decide +kernel
theorem dX11_beginAct_18 : decode cX11_beginAct 18 = .ok (.return_, 1) := by decide +kernel
set_option maxRecDepth 100000 in
set_option maxHeartbeats 4000000 in
theorem m_X11_beginAct  (S S' : SS) (h : f_X11_beginAct  S = some S') : MT yX11_beginAct cX11_beginAct 1 none 2 61 (fun ad => [.ref (ad 0)]) S none S' := by
  refine MT.of RX11 (fun ad => [(0, .ref (ad 0))]) (by decide) rfl (fun _ => Nat.le_of_ble_eq_true rfl) (fun _ => rfl) ?_
  intro p l e R s m args below meth c dC dI cs ad A hR1 hR2 F H locs ls w hl
  have hx := F.1.1
  have hb := F.1.2.1
  rw [f_X11_beginAct] at h
  refine lv_aload_n (pc := 0) hx hb dX11_beginAct_0 rfl (lv_at hl 0 rfl) ?_
  refine s_getR (pc := 1) F w 1 ds_0 (j := 0) vc_X11 vi_X11 rfl (by decide) kf_X11_10 dX11_beginAct_1 ?_
  obtain ⟨S1, hc, h⟩ := bndv_t h
  refine s_cvv (pc := 4) [] (fun ad => [.ref (ad 1)]) F w (m_X5_begin  _ _ hc) rfl rfl hl.1 ds_1 vc_X5 rfl ok_X5_begin rfl kc_X5_begin kl_X11_95 ki_X5_begin kv_X5_begin kn_X5 ⟨Nat.le_trans (by decide) hR1, Nat.le_trans (by decide) hR2⟩ ⟨Nat.zero_le _, Nat.zero_le _⟩ (Nat.le_of_ble_eq_true rfl) dX11_beginAct_4 (fun H locs w => ?_)
  refine lv_aload_n (pc := 7) hx hb dX11_beginAct_7 rfl (lv_at hl 0 rfl) ?_
  refine s_getR (pc := 8) F w 3 ds_0 (j := 2) vc_X11 vi_X11 rfl (by decide) kf_X11_26 dX11_beginAct_8 ?_
  refine lv_aload_n (pc := 11) hx hb dX11_beginAct_11 rfl (lv_at hl 0 rfl) ?_
  refine s_getR (pc := 12) F w 2 ds_0 (j := 1) vc_X11 vi_X11 rfl (by decide) kf_X11_19 dX11_beginAct_12 ?_
  obtain ⟨S2, hc, h⟩ := bndv_t h
  refine s_cvv (pc := 15) [.ref (ad 2)] (fun ad => [.ref (ad 3), .ref (ad 2)]) F w (m_X1_keep  _ _ hc) rfl rfl hl.1 ds_3 vc_X1 rfl ok_X1_keep rfl kc_X1_keep kl_X11_232 ki_X1_keep kv_X1_keep kn_X1 ⟨Nat.le_trans (by decide) hR1, Nat.le_trans (by decide) hR2⟩ ⟨Nat.zero_le _, Nat.zero_le _⟩ (Nat.le_of_ble_eq_true rfl) dX11_beginAct_15 (fun H locs w => ?_)
  exact s_vret F w h dX11_beginAct_18
def f_X11_change (a1 : Int32) (a2 : Int32) (a3 : Int32) (a4 : Int32) (S : SS) : Option (Int32 × SS) :=
  bnd (f_X11_named a1 a2 S) (fun r2 S1 =>
  if r2 = 0 then
    bnd (f_X8_get a1 a3 S1) (fun r4 S3 =>
    bndv (f_X8_set a1 a3 a4 S3) (fun S5 =>
    some (r4, S5)))
  else
    bnd (f_X5_found r2 S1) (fun r7 S6 =>
    some (r7, S6)))
theorem dX11_change_0 : decode cX11_change 0 = .ok (.aload_n 0, 1) := by decide +kernel
theorem dX11_change_1 : decode cX11_change 1 = .ok (.iload_n 1, 1) := by decide +kernel
theorem dX11_change_2 : decode cX11_change 2 = .ok (.iload_n 2, 1) := by decide +kernel
theorem dX11_change_3 : decode cX11_change 3 = .ok (.invokevirtual 185, 3) := by decide +kernel
theorem dX11_change_6 : decode cX11_change 6 = .ok (.istore 5, 2) := by decide +kernel
theorem dX11_change_8 : decode cX11_change 8 = .ok (.iload 5, 2) := by decide +kernel
theorem dX11_change_10 : decode cX11_change 10 = .ok (.ifCond .eq 13, 3) := by decide +kernel
theorem dX11_change_13 : decode cX11_change 13 = .ok (.aload_n 0, 1) := by decide +kernel
theorem dX11_change_14 : decode cX11_change 14 = .ok (.getfield 10, 3) := by decide +kernel
theorem dX11_change_17 : decode cX11_change 17 = .ok (.iload 5, 2) := by decide +kernel
theorem dX11_change_19 : decode cX11_change 19 = .ok (.invokevirtual 98, 3) := by decide +kernel
theorem dX11_change_22 : decode cX11_change 22 = .ok (.ireturn, 1) := by decide +kernel
theorem dX11_change_23 : decode cX11_change 23 = .ok (.aload_n 0, 1) := by decide +kernel
theorem dX11_change_24 : decode cX11_change 24 = .ok (.getfield 19, 3) := by decide +kernel
theorem dX11_change_27 : decode cX11_change 27 = .ok (.iload_n 1, 1) := by decide +kernel
theorem dX11_change_28 : decode cX11_change 28 = .ok (.iload_n 3, 1) := by decide +kernel
theorem dX11_change_29 : decode cX11_change 29 = .ok (.invokevirtual 253, 3) := by decide +kernel
theorem dX11_change_32 : decode cX11_change 32 = .ok (.istore 6, 2) := by decide +kernel
theorem dX11_change_34 : decode cX11_change 34 = .ok (.aload_n 0, 1) := by decide +kernel
theorem dX11_change_35 : decode cX11_change 35 = .ok (.getfield 19, 3) := by decide +kernel
theorem dX11_change_38 : decode cX11_change 38 = .ok (.iload_n 1, 1) := by decide +kernel
theorem dX11_change_39 : decode cX11_change 39 = .ok (.iload_n 3, 1) := by decide +kernel
theorem dX11_change_40 : decode cX11_change 40 = .ok (.iload 4, 2) := by decide +kernel
theorem dX11_change_42 : decode cX11_change 42 = .ok (.invokevirtual 256, 3) := by decide +kernel
theorem dX11_change_45 : decode cX11_change 45 = .ok (.iload 6, 2) := by decide +kernel
theorem dX11_change_47 : decode cX11_change 47 = .ok (.ireturn, 1) := by decide +kernel
set_option maxRecDepth 100000 in
set_option maxHeartbeats 4000000 in
theorem m_X11_change (a1 : Int32) (a2 : Int32) (a3 : Int32) (a4 : Int32) (S S' : SS) (r : Int32) (h : f_X11_change a1 a2 a3 a4 S = some (r, S')) : MT yX11_change cX11_change 7 (some .int) 3 67 (fun ad => [.ref (ad 0), .int a1, .int a2, .int a3, .int a4]) S (some (.int r)) S' := by
  refine MT.of RX11 (fun ad => [(0, .ref (ad 0)), (1, .int a1), (2, .int a2), (3, .int a3), (4, .int a4)]) (by decide) rfl (fun _ => Nat.le_of_ble_eq_true rfl) (fun _ => rfl) ?_
  intro p l e R s m args below meth c dC dI cs ad A hR1 hR2 F H locs ls w hl
  have hx := F.1.1
  have hb := F.1.2.1
  rw [f_X11_change] at h
  refine lv_aload_n (pc := 0) hx hb dX11_change_0 rfl (lv_at hl 0 rfl) ?_
  refine lv_iload_n (pc := 1) hx hb dX11_change_1 rfl (lv_at hl 1 rfl) ?_
  refine lv_iload_n (pc := 2) hx hb dX11_change_2 rfl (lv_at hl 2 rfl) ?_
  obtain ⟨r2, S1, hc, h⟩ := bnd_t h
  refine s_cvi (pc := 3) [.int a1, .int a2] (fun ad => [.ref (ad 0), .int a1, .int a2]) F w (m_X11_named _ _ _ _ _ hc) rfl rfl hl.1 ds_0 vc_X11 rfl ok_X11_named rfl kc_X11_named kl_X11_185 ki_X11_named kv_X11_named kn_X11 ⟨Nat.le_trans (by decide) hR1, Nat.le_trans (by decide) hR2⟩ ⟨Nat.zero_le _, Nat.zero_le _⟩ (Nat.le_of_ble_eq_true rfl) dX11_change_3 (fun H locs w => ?_)
  refine lv_istore (pc := 6) (lv' := [(5, .int r2), (0, .ref (ad 0)), (1, .int a1), (2, .int a2), (3, .int a3), (4, .int a4)]) hx hb dX11_change_6 hl (by decide) rfl (fun ls hl => ?_)
  refine lv_iload (pc := 8) hx hb dX11_change_8 (lv_at hl 0 rfl) ?_
  refine lv_if_eq (pc := 10) (tgt := 23) hx hb dX11_change_10 (by decide) (fun q => ?_) (fun q => ?_)
  · have h := ite_t q h
    refine lv_aload_n (pc := 23) hx hb dX11_change_23 rfl (lv_at hl 1 rfl) ?_
    refine s_getR (pc := 24) F w 2 ds_0 (j := 1) vc_X11 vi_X11 rfl (by decide) kf_X11_19 dX11_change_24 ?_
    refine lv_iload_n (pc := 27) hx hb dX11_change_27 rfl (lv_at hl 2 rfl) ?_
    refine lv_iload_n (pc := 28) hx hb dX11_change_28 rfl (lv_at hl 4 rfl) ?_
    obtain ⟨r4, S3, hc, h⟩ := bnd_t h
    refine s_cvi (pc := 29) [.int a1, .int a3] (fun ad => [.ref (ad 2), .int a1, .int a3]) F w (m_X8_get _ _ _ _ _ hc) rfl rfl hl.1 ds_2 vc_X8 rfl ok_X8_get rfl kc_X8_get kl_X11_253 ki_X8_get kv_X8_get kn_X8 ⟨Nat.le_trans (by decide) hR1, Nat.le_trans (by decide) hR2⟩ ⟨Nat.zero_le _, Nat.zero_le _⟩ (Nat.le_of_ble_eq_true rfl) dX11_change_29 (fun H locs w => ?_)
    refine lv_istore (pc := 32) (lv' := [(6, .int r4), (5, .int r2), (0, .ref (ad 0)), (1, .int a1), (2, .int a2), (3, .int a3), (4, .int a4)]) hx hb dX11_change_32 hl (by decide) rfl (fun ls hl => ?_)
    refine lv_aload_n (pc := 34) hx hb dX11_change_34 rfl (lv_at hl 2 rfl) ?_
    refine s_getR (pc := 35) F w 2 ds_0 (j := 1) vc_X11 vi_X11 rfl (by decide) kf_X11_19 dX11_change_35 ?_
    refine lv_iload_n (pc := 38) hx hb dX11_change_38 rfl (lv_at hl 3 rfl) ?_
    refine lv_iload_n (pc := 39) hx hb dX11_change_39 rfl (lv_at hl 5 rfl) ?_
    refine lv_iload (pc := 40) hx hb dX11_change_40 (lv_at hl 6 rfl) ?_
    obtain ⟨S5, hc, h⟩ := bndv_t h
    refine s_cvv (pc := 42) [.int a1, .int a3, .int a4] (fun ad => [.ref (ad 2), .int a1, .int a3, .int a4]) F w (m_X8_set _ _ _ _ _ hc) rfl rfl hl.1 ds_2 vc_X8 rfl ok_X8_set rfl kc_X8_set kl_X11_256 ki_X8_set kv_X8_set kn_X8 ⟨Nat.le_trans (by decide) hR1, Nat.le_trans (by decide) hR2⟩ ⟨Nat.zero_le _, Nat.zero_le _⟩ (Nat.le_of_ble_eq_true rfl) dX11_change_42 (fun H locs w => ?_)
    refine lv_iload (pc := 45) hx hb dX11_change_45 (lv_at hl 0 rfl) ?_
    exact s_iret F w h dX11_change_47
  · have h := ite_f q h
    refine lv_aload_n (pc := 13) hx hb dX11_change_13 rfl (lv_at hl 1 rfl) ?_
    refine s_getR (pc := 14) F w 1 ds_0 (j := 0) vc_X11 vi_X11 rfl (by decide) kf_X11_10 dX11_change_14 ?_
    refine lv_iload (pc := 17) hx hb dX11_change_17 (lv_at hl 0 rfl) ?_
    obtain ⟨r7, S6, hc, h⟩ := bnd_t h
    refine s_cvi (pc := 19) [.int r2] (fun ad => [.ref (ad 1), .int r2]) F w (m_X5_found _ _ _ _ hc) rfl rfl hl.1 ds_1 vc_X5 rfl ok_X5_found rfl kc_X5_found kl_X11_98 ki_X5_found kv_X5_found kn_X5 ⟨Nat.le_trans (by decide) hR1, Nat.le_trans (by decide) hR2⟩ ⟨Nat.zero_le _, Nat.zero_le _⟩ (Nat.le_of_ble_eq_true rfl) dX11_change_19 (fun H locs w => ?_)
    exact s_iret F w h dX11_change_22
def f_J9_min_7cf53 (a0 : Int32) (a1 : Int32) (S : SS) : Option (Int32 × SS) :=
  if a1 < a0 then
    some (a1, S)
  else
    some (a0, S)
theorem dJ9_min_7cf53_0 : decode cJ9_min_7cf53 0 = .ok (.iload_n 0, 1) := by decide +kernel
theorem dJ9_min_7cf53_1 : decode cJ9_min_7cf53 1 = .ok (.iload_n 1, 1) := by decide +kernel
theorem dJ9_min_7cf53_2 : decode cJ9_min_7cf53 2 = .ok (.if_icmp .gt 7, 3) := by decide +kernel
theorem dJ9_min_7cf53_5 : decode cJ9_min_7cf53 5 = .ok (.iload_n 0, 1) := by decide +kernel
theorem dJ9_min_7cf53_6 : decode cJ9_min_7cf53 6 = .ok (.goto 4, 3) := by decide +kernel
theorem dJ9_min_7cf53_9 : decode cJ9_min_7cf53 9 = .ok (.iload_n 1, 1) := by decide +kernel
theorem dJ9_min_7cf53_10 : decode cJ9_min_7cf53 10 = .ok (.ireturn, 1) := by decide +kernel
set_option maxRecDepth 100000 in
set_option maxHeartbeats 4000000 in
theorem m_J9_min_7cf53 (a0 : Int32) (a1 : Int32) (S S' : SS) (r : Int32) (h : f_J9_min_7cf53 a0 a1 S = some (r, S')) : MT yJ9_min_7cf53 cJ9_min_7cf53 2 (some .int) 0 0 (fun ad => [.int a0, .int a1]) S (some (.int r)) S' := by
  refine MT.ofF RJ9 (fun ad => [(0, .int a0), (1, .int a1)]) (by decide +kernel) rfl (fun _ => Nat.le_of_ble_eq_true rfl) (fun _ => rfl) ?_
  intro p l e R s m args below meth c dC dI cs ad A hR1 hR2 F H locs ls w hl
  have hx := F.1.1
  have hb := F.1.2.1
  rw [f_J9_min_7cf53] at h
  refine lv_iload_n (pc := 0) hx hb dJ9_min_7cf53_0 rfl (lv_at hl 0 rfl) ?_
  refine lv_iload_n (pc := 1) hx hb dJ9_min_7cf53_1 rfl (lv_at hl 1 rfl) ?_
  refine lv_icmp_gt (pc := 2) (tgt := 9) hx hb dJ9_min_7cf53_2 (by decide) (fun q => ?_) (fun q => ?_)
  · have h := ite_t q h
    refine lv_iload_n (pc := 9) hx hb dJ9_min_7cf53_9 rfl (lv_at hl 1 rfl) ?_
    exact s_iret F w h dJ9_min_7cf53_10
  · have h := ite_f q h
    refine lv_iload_n (pc := 5) hx hb dJ9_min_7cf53_5 rfl (lv_at hl 0 rfl) ?_
    refine lv_goto (pc := 6) (tgt := 10) hx hb dJ9_min_7cf53_6 (by decide) ?_
    exact s_iret F w h dJ9_min_7cf53_10
def f_X1_write (a1 : Int32) (a2 : Int32) (S : SS) : Option (SS) :=
  wr S 3 4 (((S.1 3 4) + (1 : Int32)) - ((S.1 3 4) + (1 : Int32)) / (40 : Int32) * (40 : Int32)) (fun S1 =>
  grd (inb (S1.1 3 4) 40) (wr S1 29 (S1.1 3 4).toNatClampNeg a1 (fun S2 =>
  grd (inb (S2.1 3 4) 40) (wr S2 30 (S2.1 3 4).toNatClampNeg a2 (fun S3 =>
  bnd (f_J9_min_7cf53 ((S3.1 3 5) + (1 : Int32)) (40 : Int32) S3) (fun r5 S4 =>
  wr S4 3 5 r5 (fun S6 =>
  some S6)))))))
theorem dX1_write_0 : decode cX1_write 0 = .ok (.aload_n 0, 1) := by decide +kernel
theorem dX1_write_1 : decode cX1_write 1 = .ok (.aload_n 0, 1) := by decide +kernel
theorem dX1_write_2 : decode cX1_write 2 = .ok (.getfield 29, 3) := by decide +kernel
theorem dX1_write_5 : decode cX1_write 5 = .ok (.iconst 1, 1) := by decide +kernel
theorem dX1_write_6 : decode cX1_write 6 = .ok (.iadd, 1) := by decide +kernel
theorem dX1_write_7 : decode cX1_write 7 = .ok (.bipush 40, 2) := by decide +kernel
theorem dX1_write_9 : decode cX1_write 9 = .ok (.irem, 1) := by decide +kernel
theorem dX1_write_10 : decode cX1_write 10 = .ok (.putfield 29, 3) := by decide +kernel
theorem dX1_write_13 : decode cX1_write 13 = .ok (.aload_n 0, 1) := by decide +kernel
theorem dX1_write_14 : decode cX1_write 14 = .ok (.getfield 18, 3) := by decide +kernel
theorem dX1_write_17 : decode cX1_write 17 = .ok (.aload_n 0, 1) := by decide +kernel
theorem dX1_write_18 : decode cX1_write 18 = .ok (.getfield 29, 3) := by decide +kernel
theorem dX1_write_21 : decode cX1_write 21 = .ok (.iload_n 1, 1) := by decide +kernel
theorem dX1_write_22 : decode cX1_write 22 = .ok (.iastore, 1) := by decide +kernel
theorem dX1_write_23 : decode cX1_write 23 = .ok (.aload_n 0, 1) := by decide +kernel
theorem dX1_write_24 : decode cX1_write 24 = .ok (.getfield 22, 3) := by decide +kernel
theorem dX1_write_27 : decode cX1_write 27 = .ok (.aload_n 0, 1) := by decide +kernel
theorem dX1_write_28 : decode cX1_write 28 = .ok (.getfield 29, 3) := by decide +kernel
theorem dX1_write_31 : decode cX1_write 31 = .ok (.iload_n 2, 1) := by decide +kernel
theorem dX1_write_32 : decode cX1_write 32 = .ok (.iastore, 1) := by decide +kernel
theorem dX1_write_33 : decode cX1_write 33 = .ok (.aload_n 0, 1) := by decide +kernel
theorem dX1_write_34 : decode cX1_write 34 = .ok (.aload_n 0, 1) := by decide +kernel
theorem dX1_write_35 : decode cX1_write 35 = .ok (.getfield 32, 3) := by decide +kernel
theorem dX1_write_38 : decode cX1_write 38 = .ok (.iconst 1, 1) := by decide +kernel
theorem dX1_write_39 : decode cX1_write 39 = .ok (.iadd, 1) := by decide +kernel
theorem dX1_write_40 : decode cX1_write 40 = .ok (.bipush 40, 2) := by decide +kernel
theorem dX1_write_42 : decode cX1_write 42 = .ok (.invokestatic 61, 3) := by decide +kernel
theorem dX1_write_45 : decode cX1_write 45 = .ok (.putfield 32, 3) := by decide +kernel
theorem dX1_write_48 : decode cX1_write 48 = .ok (.return_, 1) := by decide +kernel
set_option maxRecDepth 100000 in
set_option maxHeartbeats 4000000 in
theorem m_X1_write (a1 : Int32) (a2 : Int32) (S S' : SS) (h : f_X1_write a1 a2 S = some S') : MT yX1_write cX1_write 3 none 1 21 (fun ad => [.ref (ad 3), .int a1, .int a2]) S none S' := by
  refine MT.of RX1 (fun ad => [(0, .ref (ad 3)), (1, .int a1), (2, .int a2)]) (by decide) rfl (fun _ => Nat.le_of_ble_eq_true rfl) (fun _ => rfl) ?_
  intro p l e R s m args below meth c dC dI cs ad A hR1 hR2 F H locs ls w hl
  have hx := F.1.1
  have hb := F.1.2.1
  rw [f_X1_write] at h
  refine lv_aload_n (pc := 0) hx hb dX1_write_0 rfl (lv_at hl 0 rfl) ?_
  refine lv_aload_n (pc := 1) hx hb dX1_write_1 rfl (lv_at hl 0 rfl) ?_
  refine s_getI (pc := 2) F w ds_3 (j := 4) vc_X1 vi_X1 rfl (by decide) kf_X1_29 dX1_write_2 ?_
  refine lv_iconst (pc := 5) (v := 1) hx hb dX1_write_5 (by decide) ?_
  refine lv_iadd (pc := 6) hx hb dX1_write_6 ?_
  refine lv_bipush (pc := 7) (v := 40) hx hb dX1_write_7 (by decide) ?_
  refine lv_irem (pc := 9) hx hb dX1_write_9 (by decide) ?_
  refine s_putI (pc := 10) F w ds_3 vc_X1 vi_X1 tyX1_ok nmX1 (j := 4) rfl (by decide) kf_X1_29 rfl pd_I h dX1_write_10 (fun S1 H locs h w => ?_)
  refine lv_aload_n (pc := 13) hx hb dX1_write_13 rfl (lv_at hl 0 rfl) ?_
  refine s_getR (pc := 14) F w 29 ds_3 (j := 1) vc_X1 vi_X1 rfl (by decide) kf_X1_18 dX1_write_14 ?_
  refine lv_aload_n (pc := 17) hx hb dX1_write_17 rfl (lv_at hl 0 rfl) ?_
  refine s_getI (pc := 18) F w ds_3 (j := 4) vc_X1 vi_X1 rfl (by decide) kf_X1_29 dX1_write_18 ?_
  refine lv_iload_n (pc := 21) hx hb dX1_write_21 rfl (lv_at hl 1 rfl) ?_
  refine s_iast (pc := 22) F w ds_29 h dX1_write_22 (fun S2 H locs h w => ?_)
  refine lv_aload_n (pc := 23) hx hb dX1_write_23 rfl (lv_at hl 0 rfl) ?_
  refine s_getR (pc := 24) F w 30 ds_3 (j := 2) vc_X1 vi_X1 rfl (by decide) kf_X1_22 dX1_write_24 ?_
  refine lv_aload_n (pc := 27) hx hb dX1_write_27 rfl (lv_at hl 0 rfl) ?_
  refine s_getI (pc := 28) F w ds_3 (j := 4) vc_X1 vi_X1 rfl (by decide) kf_X1_29 dX1_write_28 ?_
  refine lv_iload_n (pc := 31) hx hb dX1_write_31 rfl (lv_at hl 2 rfl) ?_
  refine s_iast (pc := 32) F w ds_30 h dX1_write_32 (fun S3 H locs h w => ?_)
  refine lv_aload_n (pc := 33) hx hb dX1_write_33 rfl (lv_at hl 0 rfl) ?_
  refine lv_aload_n (pc := 34) hx hb dX1_write_34 rfl (lv_at hl 0 rfl) ?_
  refine s_getI (pc := 35) F w ds_3 (j := 5) vc_X1 vi_X1 rfl (by decide) kf_X1_32 dX1_write_35 ?_
  refine lv_iconst (pc := 38) (v := 1) hx hb dX1_write_38 (by decide) ?_
  refine lv_iadd (pc := 39) hx hb dX1_write_39 ?_
  refine lv_bipush (pc := 40) (v := 40) hx hb dX1_write_40 (by decide) ?_
  obtain ⟨r5, S4, hc, h⟩ := bnd_t h
  refine s_csi (pc := 42) [.int ((S3.1 3 5) + (1 : Int32)), .int (40 : Int32)] (fun ad => [.int ((S3.1 3 5) + (1 : Int32)), .int (40 : Int32)]) F w (m_J9_min_7cf53 _ _ _ _ _ hc) rfl rfl hl.1 ok_J9_min_7cf53 rfl kc_J9_min_7cf53 kl_X1_61 ks_J9_min_7cf53 kn_J9 ⟨Nat.le_trans (by decide) hR1, Nat.le_trans (by decide) hR2⟩ ⟨Nat.zero_le _, Nat.zero_le _⟩ (Nat.le_of_ble_eq_true rfl) dX1_write_42 (fun H locs w => ?_)
  refine s_putI (pc := 45) F w ds_3 vc_X1 vi_X1 tyX1_ok nmX1 (j := 5) rfl (by decide) kf_X1_32 rfl pd_I h dX1_write_45 (fun S6 H locs h w => ?_)
  exact s_vret F w h dX1_write_48
def f_X11_endAct (a1 : Int32) (a2 : Int32) (S : SS) : Option (Int32 × SS) :=
  bndv (f_X1_write a1 a2 S) (fun S1 =>
  some (a2, S1))
theorem dX11_endAct_0 : decode cX11_endAct 0 = .ok (.aload_n 0, 1) := by decide +kernel
theorem dX11_endAct_1 : decode cX11_endAct 1 = .ok (.getfield 26, 3) := by decide +kernel
theorem dX11_endAct_4 : decode cX11_endAct 4 = .ok (.iload_n 1, 1) := by decide +kernel
theorem dX11_endAct_5 : decode cX11_endAct 5 = .ok (.iload_n 2, 1) := by decide +kernel
theorem dX11_endAct_6 : decode cX11_endAct 6 = .ok (.invokevirtual 250, 3) := by decide +kernel
theorem dX11_endAct_9 : decode cX11_endAct 9 = .ok (.iload_n 2, 1) := by decide +kernel
theorem dX11_endAct_10 : decode cX11_endAct 10 = .ok (.ireturn, 1) := by decide +kernel
set_option maxRecDepth 100000 in
set_option maxHeartbeats 4000000 in
theorem m_X11_endAct (a1 : Int32) (a2 : Int32) (S S' : SS) (r : Int32) (h : f_X11_endAct a1 a2 S = some (r, S')) : MT yX11_endAct cX11_endAct 3 (some .int) 2 43 (fun ad => [.ref (ad 0), .int a1, .int a2]) S (some (.int r)) S' := by
  refine MT.of RX11 (fun ad => [(0, .ref (ad 0)), (1, .int a1), (2, .int a2)]) (by decide) rfl (fun _ => Nat.le_of_ble_eq_true rfl) (fun _ => rfl) ?_
  intro p l e R s m args below meth c dC dI cs ad A hR1 hR2 F H locs ls w hl
  have hx := F.1.1
  have hb := F.1.2.1
  rw [f_X11_endAct] at h
  refine lv_aload_n (pc := 0) hx hb dX11_endAct_0 rfl (lv_at hl 0 rfl) ?_
  refine s_getR (pc := 1) F w 3 ds_0 (j := 2) vc_X11 vi_X11 rfl (by decide) kf_X11_26 dX11_endAct_1 ?_
  refine lv_iload_n (pc := 4) hx hb dX11_endAct_4 rfl (lv_at hl 1 rfl) ?_
  refine lv_iload_n (pc := 5) hx hb dX11_endAct_5 rfl (lv_at hl 2 rfl) ?_
  obtain ⟨S1, hc, h⟩ := bndv_t h
  refine s_cvv (pc := 6) [.int a1, .int a2] (fun ad => [.ref (ad 3), .int a1, .int a2]) F w (m_X1_write _ _ _ _ hc) rfl rfl hl.1 ds_3 vc_X1 rfl ok_X1_write rfl kc_X1_write kl_X11_250 ki_X1_write kv_X1_write kn_X1 ⟨Nat.le_trans (by decide) hR1, Nat.le_trans (by decide) hR2⟩ ⟨Nat.zero_le _, Nat.zero_le _⟩ (Nat.le_of_ble_eq_true rfl) dX11_endAct_6 (fun H locs w => ?_)
  refine lv_iload_n (pc := 9) hx hb dX11_endAct_9 rfl (lv_at hl 2 rfl) ?_
  exact s_iret F w h dX11_endAct_10
def f_X11_danger (a1 : Int32) (a2 : Int32) (S : SS) : Option (Int32 × SS) :=
  bnd (f_X11_isNot a2 (0 : Int32) (9 : Int32) S) (fun r2 S1 =>
  if r2 = 0 then
    bndv (f_X11_beginAct  S1) (fun S3 =>
    bnd (f_X11_change a1 (31 : Int32) (7 : Int32) a2 S3) (fun r5 S4 =>
    bnd (f_X11_endAct (0 : Int32) r5 S4) (fun r7 S6 =>
    some (r7, S6))))
  else
    some ((-1 : Int32), S1))
theorem dX11_danger_0 : decode cX11_danger 0 = .ok (.iload_n 2, 1) := by decide +kernel
theorem dX11_danger_1 : decode cX11_danger 1 = .ok (.iconst 0, 1) := by decide +kernel
theorem dX11_danger_2 : decode cX11_danger 2 = .ok (.bipush 9, 2) := by decide +kernel
theorem dX11_danger_4 : decode cX11_danger 4 = .ok (.invokestatic 108, 3) := by decide +kernel
theorem dX11_danger_7 : decode cX11_danger 7 = .ok (.ifCond .eq 5, 3) := by decide +kernel
theorem dX11_danger_10 : decode cX11_danger 10 = .ok (.iconst (-1), 1) := by decide +kernel
theorem dX11_danger_11 : decode cX11_danger 11 = .ok (.ireturn, 1) := by decide +kernel
theorem dX11_danger_12 : decode cX11_danger 12 = .ok (.aload_n 0, 1) := by decide +kernel
theorem dX11_danger_13 : decode cX11_danger 13 = .ok (.invokevirtual 199, 3) := by decide +kernel
theorem dX11_danger_16 : decode cX11_danger 16 = .ok (.aload_n 0, 1) := by decide +kernel
theorem dX11_danger_17 : decode cX11_danger 17 = .ok (.iconst 0, 1) := by decide +kernel
theorem dX11_danger_18 : decode cX11_danger 18 = .ok (.aload_n 0, 1) := by decide +kernel
theorem dX11_danger_19 : decode cX11_danger 19 = .ok (.iload_n 1, 1) := by decide +kernel
theorem dX11_danger_20 : decode cX11_danger 20 = .ok (.bipush 31, 2) := by decide +kernel
theorem dX11_danger_22 : decode cX11_danger 22 = .ok (.bipush 7, 2) := by decide +kernel
theorem dX11_danger_24 : decode cX11_danger 24 = .ok (.iload_n 2, 1) := by decide +kernel
theorem dX11_danger_25 : decode cX11_danger 25 = .ok (.invokevirtual 202, 3) := by decide +kernel
theorem dX11_danger_28 : decode cX11_danger 28 = .ok (.invokevirtual 205, 3) := by decide +kernel
theorem dX11_danger_31 : decode cX11_danger 31 = .ok (.ireturn, 1) := by decide +kernel
set_option maxRecDepth 100000 in
set_option maxHeartbeats 4000000 in
theorem m_X11_danger (a1 : Int32) (a2 : Int32) (S S' : SS) (r : Int32) (h : f_X11_danger a1 a2 S = some (r, S')) : MT yX11_danger cX11_danger 3 (some .int) 4 93 (fun ad => [.ref (ad 0), .int a1, .int a2]) S (some (.int r)) S' := by
  refine MT.of RX11 (fun ad => [(0, .ref (ad 0)), (1, .int a1), (2, .int a2)]) (by decide) rfl (fun _ => Nat.le_of_ble_eq_true rfl) (fun _ => rfl) ?_
  intro p l e R s m args below meth c dC dI cs ad A hR1 hR2 F H locs ls w hl
  have hx := F.1.1
  have hb := F.1.2.1
  rw [f_X11_danger] at h
  refine lv_iload_n (pc := 0) hx hb dX11_danger_0 rfl (lv_at hl 2 rfl) ?_
  refine lv_iconst (pc := 1) (v := 0) hx hb dX11_danger_1 (by decide) ?_
  refine lv_bipush (pc := 2) (v := 9) hx hb dX11_danger_2 (by decide) ?_
  obtain ⟨r2, S1, hc, h⟩ := bnd_t h
  refine s_csi (pc := 4) [.int a2, .int (0 : Int32), .int (9 : Int32)] (fun ad => [.int a2, .int (0 : Int32), .int (9 : Int32)]) F w (m_X11_isNot _ _ _ _ _ _ hc) rfl rfl hl.1 ok_X11_isNot rfl kc_X11_isNot kl_X11_108 ks_X11_isNot kn_X11 ⟨Nat.le_trans (by decide) hR1, Nat.le_trans (by decide) hR2⟩ ⟨Nat.zero_le _, Nat.zero_le _⟩ (Nat.le_of_ble_eq_true rfl) dX11_danger_4 (fun H locs w => ?_)
  refine lv_if_eq (pc := 7) (tgt := 12) hx hb dX11_danger_7 (by decide) (fun q => ?_) (fun q => ?_)
  · have h := ite_t q h
    refine lv_aload_n (pc := 12) hx hb dX11_danger_12 rfl (lv_at hl 0 rfl) ?_
    obtain ⟨S3, hc, h⟩ := bndv_t h
    refine s_cvv (pc := 13) [] (fun ad => [.ref (ad 0)]) F w (m_X11_beginAct  _ _ hc) rfl rfl hl.1 ds_0 vc_X11 rfl ok_X11_beginAct rfl kc_X11_beginAct kl_X11_199 ki_X11_beginAct kv_X11_beginAct kn_X11 ⟨Nat.le_trans (by decide) hR1, Nat.le_trans (by decide) hR2⟩ ⟨Nat.zero_le _, Nat.zero_le _⟩ (Nat.le_of_ble_eq_true rfl) dX11_danger_13 (fun H locs w => ?_)
    refine lv_aload_n (pc := 16) hx hb dX11_danger_16 rfl (lv_at hl 0 rfl) ?_
    refine lv_iconst (pc := 17) (v := 0) hx hb dX11_danger_17 (by decide) ?_
    refine lv_aload_n (pc := 18) hx hb dX11_danger_18 rfl (lv_at hl 0 rfl) ?_
    refine lv_iload_n (pc := 19) hx hb dX11_danger_19 rfl (lv_at hl 1 rfl) ?_
    refine lv_bipush (pc := 20) (v := 31) hx hb dX11_danger_20 (by decide) ?_
    refine lv_bipush (pc := 22) (v := 7) hx hb dX11_danger_22 (by decide) ?_
    refine lv_iload_n (pc := 24) hx hb dX11_danger_24 rfl (lv_at hl 2 rfl) ?_
    obtain ⟨r5, S4, hc, h⟩ := bnd_t h
    refine s_cvi (pc := 25) [.int a1, .int (31 : Int32), .int (7 : Int32), .int a2] (fun ad => [.ref (ad 0), .int a1, .int (31 : Int32), .int (7 : Int32), .int a2]) F w (m_X11_change _ _ _ _ _ _ _ hc) rfl rfl hl.1 ds_0 vc_X11 rfl ok_X11_change rfl kc_X11_change kl_X11_202 ki_X11_change kv_X11_change kn_X11 ⟨Nat.le_trans (by decide) hR1, Nat.le_trans (by decide) hR2⟩ ⟨Nat.zero_le _, Nat.zero_le _⟩ (Nat.le_of_ble_eq_true rfl) dX11_danger_25 (fun H locs w => ?_)
    obtain ⟨r7, S6, hc, h⟩ := bnd_t h
    refine s_cvi (pc := 28) [.int (0 : Int32), .int r5] (fun ad => [.ref (ad 0), .int (0 : Int32), .int r5]) F w (m_X11_endAct _ _ _ _ _ hc) rfl rfl hl.1 ds_0 vc_X11 rfl ok_X11_endAct rfl kc_X11_endAct kl_X11_205 ki_X11_endAct kv_X11_endAct kn_X11 ⟨Nat.le_trans (by decide) hR1, Nat.le_trans (by decide) hR2⟩ ⟨Nat.zero_le _, Nat.zero_le _⟩ (Nat.le_of_ble_eq_true rfl) dX11_danger_28 (fun H locs w => ?_)
    exact s_iret F w h dX11_danger_31
  · have h := ite_f q h
    refine lv_iconst (pc := 10) (v := -1) hx hb dX11_danger_10 (by decide) ?_
    exact s_iret F w h dX11_danger_11
def f_X12_save_L272  : Nat → Int32 → Int32 → SS → Option (SS)
  | 0, _, _, _ => none
  | n + 1, x2, x3, S =>
    if (40 : Int32) ≤ x3 then
      grd (inb x2 18576) (wr S 107 x2.toNatClampNeg (S.1 14 48) (fun S2 =>
      some S2))
    else
      grd (inb x3 40) (
      grd (inb x2 18576) (wr S 107 x2.toNatClampNeg (S.1 77 x3.toNatClampNeg) (fun S3 =>
      grd (inb x3 40) (
      grd (inb (x2 + (1 : Int32)) 18576) (wr S3 107 (x2 + (1 : Int32)).toNatClampNeg (S3.1 78 x3.toNatClampNeg) (fun S4 =>
      nm (x2 + (2 : Int32)) (fun z5 =>
      nm (x3 + (1 : Int32)) (fun z6 =>
      f_X12_save_L272 n z5 z6 S4))))))))
def f_X12_save_j260 (K8 : Int32 → Int32 → SS → Option (SS)) (x2 : Int32) (x3 : Int32) (y0 : Int32) (y1 : Int32) (S : SS) : Option (SS) :=
    grd (inb y1 18576) (wr S 107 y1.toNatClampNeg y0 (fun S21 =>
    nm (x2 + (15 : Int32)) (fun z22 =>
    nm (x3 + (1 : Int32)) (fun z23 =>
    K8 z22 z23 S21))))
def f_X12_save_j207 (K8 : Int32 → Int32 → SS → Option (SS)) (x2 : Int32) (x3 : Int32) (y0 : Int32) (y1 : Int32) (S : SS) : Option (SS) :=
    grd (inb y1 18576) (wr S 107 y1.toNatClampNeg y0 (fun S18 =>
    grd (inb x3 72) (
    grd (inb (x2 + (12 : Int32)) 18576) (wr S18 107 (x2 + (12 : Int32)).toNatClampNeg (S18.1 99 x3.toNatClampNeg) (fun S19 =>
    grd (inb x3 72) (
    grd (inb (x2 + (13 : Int32)) 18576) (wr S19 107 (x2 + (13 : Int32)).toNatClampNeg (S19.1 100 x3.toNatClampNeg) (fun S20 =>
    grd (inb x3 72) (
    if (S20.1 101 x3.toNatClampNeg) = 0 then
      f_X12_save_j260 K8 x2 x3 (0 : Int32) (x2 + (14 : Int32)) S20
    else
      f_X12_save_j260 K8 x2 x3 (1 : Int32) (x2 + (14 : Int32)) S20)))))))))
def f_X12_save_j33 (K8 : Int32 → Int32 → SS → Option (SS)) (x2 : Int32) (x3 : Int32) (y0 : Int32) (y1 : Int32) (S : SS) : Option (SS) :=
    grd (inb y1 18576) (wr S 107 y1.toNatClampNeg y0 (fun S7 =>
    grd (inb x3 72) (
    grd (inb (x2 + (1 : Int32)) 18576) (wr S7 107 (x2 + (1 : Int32)).toNatClampNeg (S7.1 87 x3.toNatClampNeg) (fun S8 =>
    grd (inb x3 72) (
    grd (inb (x2 + (2 : Int32)) 18576) (wr S8 107 (x2 + (2 : Int32)).toNatClampNeg (S8.1 88 x3.toNatClampNeg) (fun S9 =>
    grd (inb x3 72) (
    grd (inb (x2 + (3 : Int32)) 18576) (wr S9 107 (x2 + (3 : Int32)).toNatClampNeg (S9.1 89 x3.toNatClampNeg) (fun S10 =>
    grd (inb ((2 : Int32) * x3) 144) (
    grd (inb (x2 + (4 : Int32)) 18576) (wr S10 107 (x2 + (4 : Int32)).toNatClampNeg (S10.1 90 ((2 : Int32) * x3).toNatClampNeg) (fun S11 =>
    grd (inb (((2 : Int32) * x3) + (1 : Int32)) 144) (
    grd (inb (x2 + (5 : Int32)) 18576) (wr S11 107 (x2 + (5 : Int32)).toNatClampNeg (S11.1 90 (((2 : Int32) * x3) + (1 : Int32)).toNatClampNeg) (fun S12 =>
    grd (inb x3 72) (
    grd (inb (x2 + (6 : Int32)) 18576) (wr S12 107 (x2 + (6 : Int32)).toNatClampNeg (S12.1 91 x3.toNatClampNeg) (fun S13 =>
    grd (inb x3 72) (
    grd (inb (x2 + (7 : Int32)) 18576) (wr S13 107 (x2 + (7 : Int32)).toNatClampNeg (S13.1 92 x3.toNatClampNeg) (fun S14 =>
    grd (inb x3 72) (
    grd (inb (x2 + (8 : Int32)) 18576) (wr S14 107 (x2 + (8 : Int32)).toNatClampNeg (S14.1 93 x3.toNatClampNeg) (fun S15 =>
    grd (inb x3 72) (
    grd (inb (x2 + (9 : Int32)) 18576) (wr S15 107 (x2 + (9 : Int32)).toNatClampNeg (S15.1 94 x3.toNatClampNeg) (fun S16 =>
    grd (inb x3 72) (
    grd (inb (x2 + (10 : Int32)) 18576) (wr S16 107 (x2 + (10 : Int32)).toNatClampNeg (S16.1 97 x3.toNatClampNeg) (fun S17 =>
    grd (inb x3 72) (
    if (S17.1 98 x3.toNatClampNeg) = 0 then
      f_X12_save_j207 K8 x2 x3 (0 : Int32) (x2 + (11 : Int32)) S17
    else
      f_X12_save_j207 K8 x2 x3 (1 : Int32) (x2 + (11 : Int32)) S17)))))))))))))))))))))))))))))))))
def f_X12_save_L8  : Nat → Int32 → Int32 → SS → Option (SS)
  | 0, _, _, _ => none
  | n + 1, x2, x3, S =>
    if (72 : Int32) ≤ x3 then
      f_X12_save_L272 NF x2 (0 : Int32) S
    else
      grd (inb x3 72) (
      if (S.1 86 x3.toNatClampNeg) = 0 then
        f_X12_save_j33 (fun v0 v1 S => f_X12_save_L8 n v0 v1 S) x2 x3 (0 : Int32) x2 S
      else
        f_X12_save_j33 (fun v0 v1 S => f_X12_save_L8 n v0 v1 S) x2 x3 (1 : Int32) x2 S)
def f_X12_save (a1 : Int32) (S : SS) : Option (SS) :=
  nm ((1161 : Int32) * a1) (fun z1 =>
  f_X12_save_L8 NF z1 (0 : Int32) S)
theorem dX12_save_0 : decode cX12_save 0 = .ok (.sipush 1161, 3) := by decide +kernel
theorem dX12_save_3 : decode cX12_save 3 = .ok (.iload_n 1, 1) := by decide +kernel
theorem dX12_save_4 : decode cX12_save 4 = .ok (.imul, 1) := by decide +kernel
theorem dX12_save_5 : decode cX12_save 5 = .ok (.istore_n 2, 1) := by decide +kernel
theorem dX12_save_6 : decode cX12_save 6 = .ok (.iconst 0, 1) := by decide +kernel
theorem dX12_save_7 : decode cX12_save 7 = .ok (.istore_n 3, 1) := by decide +kernel
theorem dX12_save_8 : decode cX12_save 8 = .ok (.iload_n 3, 1) := by decide +kernel
theorem dX12_save_9 : decode cX12_save 9 = .ok (.bipush 72, 2) := by decide +kernel
theorem dX12_save_11 : decode cX12_save 11 = .ok (.if_icmp .ge 259, 3) := by decide +kernel
theorem dX12_save_14 : decode cX12_save 14 = .ok (.aload_n 0, 1) := by decide +kernel
theorem dX12_save_15 : decode cX12_save 15 = .ok (.getfield 135, 3) := by decide +kernel
theorem dX12_save_18 : decode cX12_save 18 = .ok (.iload_n 2, 1) := by decide +kernel
theorem dX12_save_19 : decode cX12_save 19 = .ok (.aload_n 0, 1) := by decide +kernel
theorem dX12_save_20 : decode cX12_save 20 = .ok (.getfield 72, 3) := by decide +kernel
theorem dX12_save_23 : decode cX12_save 23 = .ok (.iload_n 3, 1) := by decide +kernel
theorem dX12_save_24 : decode cX12_save 24 = .ok (.baload, 1) := by decide +kernel
theorem dX12_save_25 : decode cX12_save 25 = .ok (.ifCond .eq 7, 3) := by decide +kernel
theorem dX12_save_28 : decode cX12_save 28 = .ok (.iconst 1, 1) := by decide +kernel
theorem dX12_save_29 : decode cX12_save 29 = .ok (.goto 4, 3) := by decide +kernel
theorem dX12_save_32 : decode cX12_save 32 = .ok (.iconst 0, 1) := by decide +kernel
theorem dX12_save_33 : decode cX12_save 33 = .ok (.iastore, 1) := by decide +kernel
theorem dX12_save_34 : decode cX12_save 34 = .ok (.aload_n 0, 1) := by decide +kernel
theorem dX12_save_35 : decode cX12_save 35 = .ok (.getfield 135, 3) := by decide +kernel
theorem dX12_save_38 : decode cX12_save 38 = .ok (.iload_n 2, 1) := by decide +kernel
theorem dX12_save_39 : decode cX12_save 39 = .ok (.iconst 1, 1) := by decide +kernel
theorem dX12_save_40 : decode cX12_save 40 = .ok (.iadd, 1) := by decide +kernel
theorem dX12_save_41 : decode cX12_save 41 = .ok (.aload_n 0, 1) := by decide +kernel
theorem dX12_save_42 : decode cX12_save 42 = .ok (.getfield 75, 3) := by decide +kernel
theorem dX12_save_45 : decode cX12_save 45 = .ok (.iload_n 3, 1) := by decide +kernel
theorem dX12_save_46 : decode cX12_save 46 = .ok (.iaload, 1) := by decide +kernel
theorem dX12_save_47 : decode cX12_save 47 = .ok (.iastore, 1) := by decide +kernel
theorem dX12_save_48 : decode cX12_save 48 = .ok (.aload_n 0, 1) := by decide +kernel
theorem dX12_save_49 : decode cX12_save 49 = .ok (.getfield 135, 3) := by decide +kernel
theorem dX12_save_52 : decode cX12_save 52 = .ok (.iload_n 2, 1) := by decide +kernel
theorem dX12_save_53 : decode cX12_save 53 = .ok (.iconst 2, 1) := by decide +kernel
theorem dX12_save_54 : decode cX12_save 54 = .ok (.iadd, 1) := by decide +kernel
theorem dX12_save_55 : decode cX12_save 55 = .ok (.aload_n 0, 1) := by decide +kernel
theorem dX12_save_56 : decode cX12_save 56 = .ok (.getfield 78, 3) := by decide +kernel
theorem dX12_save_59 : decode cX12_save 59 = .ok (.iload_n 3, 1) := by decide +kernel
theorem dX12_save_60 : decode cX12_save 60 = .ok (.iaload, 1) := by decide +kernel
theorem dX12_save_61 : decode cX12_save 61 = .ok (.iastore, 1) := by decide +kernel
theorem dX12_save_62 : decode cX12_save 62 = .ok (.aload_n 0, 1) := by decide +kernel
theorem dX12_save_63 : decode cX12_save 63 = .ok (.getfield 135, 3) := by decide +kernel
theorem dX12_save_66 : decode cX12_save 66 = .ok (.iload_n 2, 1) := by decide +kernel
theorem dX12_save_67 : decode cX12_save 67 = .ok (.iconst 3, 1) := by decide +kernel
theorem dX12_save_68 : decode cX12_save 68 = .ok (.iadd, 1) := by decide +kernel
theorem dX12_save_69 : decode cX12_save 69 = .ok (.aload_n 0, 1) := by decide +kernel
theorem dX12_save_70 : decode cX12_save 70 = .ok (.getfield 81, 3) := by decide +kernel
theorem dX12_save_73 : decode cX12_save 73 = .ok (.iload_n 3, 1) := by decide +kernel
theorem dX12_save_74 : decode cX12_save 74 = .ok (.iaload, 1) := by decide +kernel
theorem dX12_save_75 : decode cX12_save 75 = .ok (.iastore, 1) := by decide +kernel
theorem dX12_save_76 : decode cX12_save 76 = .ok (.aload_n 0, 1) := by decide +kernel
theorem dX12_save_77 : decode cX12_save 77 = .ok (.getfield 135, 3) := by decide +kernel
theorem dX12_save_80 : decode cX12_save 80 = .ok (.iload_n 2, 1) := by decide +kernel
theorem dX12_save_81 : decode cX12_save 81 = .ok (.iconst 4, 1) := by decide +kernel
theorem dX12_save_82 : decode cX12_save 82 = .ok (.iadd, 1) := by decide +kernel
theorem dX12_save_83 : decode cX12_save 83 = .ok (.aload_n 0, 1) := by decide +kernel
theorem dX12_save_84 : decode cX12_save 84 = .ok (.getfield 84, 3) := by decide +kernel
theorem dX12_save_87 : decode cX12_save 87 = .ok (.iconst 2, 1) := by decide +kernel
theorem dX12_save_88 : decode cX12_save 88 = .ok (.iload_n 3, 1) := by decide +kernel
theorem dX12_save_89 : decode cX12_save 89 = .ok (.imul, 1) := by decide +kernel
theorem dX12_save_90 : decode cX12_save 90 = .ok (.iaload, 1) := by decide +kernel
theorem dX12_save_91 : decode cX12_save 91 = .ok (.iastore, 1) := by decide +kernel
theorem dX12_save_92 : decode cX12_save 92 = .ok (.aload_n 0, 1) := by decide +kernel
theorem dX12_save_93 : decode cX12_save 93 = .ok (.getfield 135, 3) := by decide +kernel
theorem dX12_save_96 : decode cX12_save 96 = .ok (.iload_n 2, 1) := by decide +kernel
theorem dX12_save_97 : decode cX12_save 97 = .ok (.iconst 5, 1) := by decide +kernel
theorem dX12_save_98 : decode cX12_save 98 = .ok (.iadd, 1) := by decide +kernel
theorem dX12_save_99 : decode cX12_save 99 = .ok (.aload_n 0, 1) := by decide +kernel
theorem dX12_save_100 : decode cX12_save 100 = .ok (.getfield 84, 3) := by decide +kernel
theorem dX12_save_103 : decode cX12_save 103 = .ok (.iconst 2, 1) := by decide +kernel
theorem dX12_save_104 : decode cX12_save 104 = .ok (.iload_n 3, 1) := by decide +kernel
theorem dX12_save_105 : decode cX12_save 105 = .ok (.imul, 1) := by decide +kernel
theorem dX12_save_106 : decode cX12_save 106 = .ok (.iconst 1, 1) := by decide +kernel
theorem dX12_save_107 : decode cX12_save 107 = .ok (.iadd, 1) := by decide +kernel
theorem dX12_save_108 : decode cX12_save 108 = .ok (.iaload, 1) := by decide +kernel
theorem dX12_save_109 : decode cX12_save 109 = .ok (.iastore, 1) := by decide +kernel
theorem dX12_save_110 : decode cX12_save 110 = .ok (.aload_n 0, 1) := by decide +kernel
theorem dX12_save_111 : decode cX12_save 111 = .ok (.getfield 135, 3) := by decide +kernel
theorem dX12_save_114 : decode cX12_save 114 = .ok (.iload_n 2, 1) := by decide +kernel
theorem dX12_save_115 : decode cX12_save 115 = .ok (.bipush 6, 2) := by decide +kernel
theorem dX12_save_117 : decode cX12_save 117 = .ok (.iadd, 1) := by decide +kernel
theorem dX12_save_118 : decode cX12_save 118 = .ok (.aload_n 0, 1) := by decide +kernel
theorem dX12_save_119 : decode cX12_save 119 = .ok (.getfield 87, 3) := by decide +kernel
theorem dX12_save_122 : decode cX12_save 122 = .ok (.iload_n 3, 1) := by decide +kernel
theorem dX12_save_123 : decode cX12_save 123 = .ok (.iaload, 1) := by decide +kernel
theorem dX12_save_124 : decode cX12_save 124 = .ok (.iastore, 1) := by decide +kernel
theorem dX12_save_125 : decode cX12_save 125 = .ok (.aload_n 0, 1) := by decide +kernel
theorem dX12_save_126 : decode cX12_save 126 = .ok (.getfield 135, 3) := by decide +kernel
theorem dX12_save_129 : decode cX12_save 129 = .ok (.iload_n 2, 1) := by decide +kernel
theorem dX12_save_130 : decode cX12_save 130 = .ok (.bipush 7, 2) := by decide +kernel
theorem dX12_save_132 : decode cX12_save 132 = .ok (.iadd, 1) := by decide +kernel
theorem dX12_save_133 : decode cX12_save 133 = .ok (.aload_n 0, 1) := by decide +kernel
theorem dX12_save_134 : decode cX12_save 134 = .ok (.getfield 90, 3) := by decide +kernel
theorem dX12_save_137 : decode cX12_save 137 = .ok (.iload_n 3, 1) := by decide +kernel
theorem dX12_save_138 : decode cX12_save 138 = .ok (.iaload, 1) := by decide +kernel
theorem dX12_save_139 : decode cX12_save 139 = .ok (.iastore, 1) := by decide +kernel
theorem dX12_save_140 : decode cX12_save 140 = .ok (.aload_n 0, 1) := by decide +kernel
theorem dX12_save_141 : decode cX12_save 141 = .ok (.getfield 135, 3) := by decide +kernel
theorem dX12_save_144 : decode cX12_save 144 = .ok (.iload_n 2, 1) := by decide +kernel
theorem dX12_save_145 : decode cX12_save 145 = .ok (.bipush 8, 2) := by decide +kernel
theorem dX12_save_147 : decode cX12_save 147 = .ok (.iadd, 1) := by decide +kernel
theorem dX12_save_148 : decode cX12_save 148 = .ok (.aload_n 0, 1) := by decide +kernel
theorem dX12_save_149 : decode cX12_save 149 = .ok (.getfield 93, 3) := by decide +kernel
theorem dX12_save_152 : decode cX12_save 152 = .ok (.iload_n 3, 1) := by decide +kernel
theorem dX12_save_153 : decode cX12_save 153 = .ok (.iaload, 1) := by decide +kernel
theorem dX12_save_154 : decode cX12_save 154 = .ok (.iastore, 1) := by decide +kernel
theorem dX12_save_155 : decode cX12_save 155 = .ok (.aload_n 0, 1) := by decide +kernel
theorem dX12_save_156 : decode cX12_save 156 = .ok (.getfield 135, 3) := by decide +kernel
theorem dX12_save_159 : decode cX12_save 159 = .ok (.iload_n 2, 1) := by decide +kernel
theorem dX12_save_160 : decode cX12_save 160 = .ok (.bipush 9, 2) := by decide +kernel
theorem dX12_save_162 : decode cX12_save 162 = .ok (.iadd, 1) := by decide +kernel
theorem dX12_save_163 : decode cX12_save 163 = .ok (.aload_n 0, 1) := by decide +kernel
theorem dX12_save_164 : decode cX12_save 164 = .ok (.getfield 96, 3) := by decide +kernel
theorem dX12_save_167 : decode cX12_save 167 = .ok (.iload_n 3, 1) := by decide +kernel
theorem dX12_save_168 : decode cX12_save 168 = .ok (.iaload, 1) := by decide +kernel
theorem dX12_save_169 : decode cX12_save 169 = .ok (.iastore, 1) := by decide +kernel
theorem dX12_save_170 : decode cX12_save 170 = .ok (.aload_n 0, 1) := by decide +kernel
theorem dX12_save_171 : decode cX12_save 171 = .ok (.getfield 135, 3) := by decide +kernel
theorem dX12_save_174 : decode cX12_save 174 = .ok (.iload_n 2, 1) := by decide +kernel
theorem dX12_save_175 : decode cX12_save 175 = .ok (.bipush 10, 2) := by decide +kernel
theorem dX12_save_177 : decode cX12_save 177 = .ok (.iadd, 1) := by decide +kernel
theorem dX12_save_178 : decode cX12_save 178 = .ok (.aload_n 0, 1) := by decide +kernel
theorem dX12_save_179 : decode cX12_save 179 = .ok (.getfield 105, 3) := by decide +kernel
theorem dX12_save_182 : decode cX12_save 182 = .ok (.iload_n 3, 1) := by decide +kernel
theorem dX12_save_183 : decode cX12_save 183 = .ok (.iaload, 1) := by decide +kernel
theorem dX12_save_184 : decode cX12_save 184 = .ok (.iastore, 1) := by decide +kernel
theorem dX12_save_185 : decode cX12_save 185 = .ok (.aload_n 0, 1) := by decide +kernel
theorem dX12_save_186 : decode cX12_save 186 = .ok (.getfield 135, 3) := by decide +kernel
theorem dX12_save_189 : decode cX12_save 189 = .ok (.iload_n 2, 1) := by decide +kernel
theorem dX12_save_190 : decode cX12_save 190 = .ok (.bipush 11, 2) := by decide +kernel
theorem dX12_save_192 : decode cX12_save 192 = .ok (.iadd, 1) := by decide +kernel
theorem dX12_save_193 : decode cX12_save 193 = .ok (.aload_n 0, 1) := by decide +kernel
theorem dX12_save_194 : decode cX12_save 194 = .ok (.getfield 108, 3) := by decide +kernel
theorem dX12_save_197 : decode cX12_save 197 = .ok (.iload_n 3, 1) := by decide +kernel
theorem dX12_save_198 : decode cX12_save 198 = .ok (.baload, 1) := by decide +kernel
theorem dX12_save_199 : decode cX12_save 199 = .ok (.ifCond .eq 7, 3) := by decide +kernel
theorem dX12_save_202 : decode cX12_save 202 = .ok (.iconst 1, 1) := by decide +kernel
theorem dX12_save_203 : decode cX12_save 203 = .ok (.goto 4, 3) := by decide +kernel
theorem dX12_save_206 : decode cX12_save 206 = .ok (.iconst 0, 1) := by decide +kernel
theorem dX12_save_207 : decode cX12_save 207 = .ok (.iastore, 1) := by decide +kernel
theorem dX12_save_208 : decode cX12_save 208 = .ok (.aload_n 0, 1) := by decide +kernel
theorem dX12_save_209 : decode cX12_save 209 = .ok (.getfield 135, 3) := by decide +kernel
theorem dX12_save_212 : decode cX12_save 212 = .ok (.iload_n 2, 1) := by decide +kernel
theorem dX12_save_213 : decode cX12_save 213 = .ok (.bipush 12, 2) := by decide +kernel
theorem dX12_save_215 : decode cX12_save 215 = .ok (.iadd, 1) := by decide +kernel
theorem dX12_save_216 : decode cX12_save 216 = .ok (.aload_n 0, 1) := by decide +kernel
theorem dX12_save_217 : decode cX12_save 217 = .ok (.getfield 111, 3) := by decide +kernel
theorem dX12_save_220 : decode cX12_save 220 = .ok (.iload_n 3, 1) := by decide +kernel
theorem dX12_save_221 : decode cX12_save 221 = .ok (.iaload, 1) := by decide +kernel
theorem dX12_save_222 : decode cX12_save 222 = .ok (.iastore, 1) := by decide +kernel
theorem dX12_save_223 : decode cX12_save 223 = .ok (.aload_n 0, 1) := by decide +kernel
theorem dX12_save_224 : decode cX12_save 224 = .ok (.getfield 135, 3) := by decide +kernel
theorem dX12_save_227 : decode cX12_save 227 = .ok (.iload_n 2, 1) := by decide +kernel
theorem dX12_save_228 : decode cX12_save 228 = .ok (.bipush 13, 2) := by decide +kernel
theorem dX12_save_230 : decode cX12_save 230 = .ok (.iadd, 1) := by decide +kernel
theorem dX12_save_231 : decode cX12_save 231 = .ok (.aload_n 0, 1) := by decide +kernel
theorem dX12_save_232 : decode cX12_save 232 = .ok (.getfield 114, 3) := by decide +kernel
theorem dX12_save_235 : decode cX12_save 235 = .ok (.iload_n 3, 1) := by decide +kernel
theorem dX12_save_236 : decode cX12_save 236 = .ok (.iaload, 1) := by decide +kernel
theorem dX12_save_237 : decode cX12_save 237 = .ok (.iastore, 1) := by decide +kernel
theorem dX12_save_238 : decode cX12_save 238 = .ok (.aload_n 0, 1) := by decide +kernel
theorem dX12_save_239 : decode cX12_save 239 = .ok (.getfield 135, 3) := by decide +kernel
theorem dX12_save_242 : decode cX12_save 242 = .ok (.iload_n 2, 1) := by decide +kernel
theorem dX12_save_243 : decode cX12_save 243 = .ok (.bipush 14, 2) := by decide +kernel
theorem dX12_save_245 : decode cX12_save 245 = .ok (.iadd, 1) := by decide +kernel
theorem dX12_save_246 : decode cX12_save 246 = .ok (.aload_n 0, 1) := by decide +kernel
theorem dX12_save_247 : decode cX12_save 247 = .ok (.getfield 117, 3) := by decide +kernel
theorem dX12_save_250 : decode cX12_save 250 = .ok (.iload_n 3, 1) := by decide +kernel
theorem dX12_save_251 : decode cX12_save 251 = .ok (.baload, 1) := by decide +kernel
theorem dX12_save_252 : decode cX12_save 252 = .ok (.ifCond .eq 7, 3) := by decide +kernel
theorem dX12_save_255 : decode cX12_save 255 = .ok (.iconst 1, 1) := by decide +kernel
theorem dX12_save_256 : decode cX12_save 256 = .ok (.goto 4, 3) := by decide +kernel
theorem dX12_save_259 : decode cX12_save 259 = .ok (.iconst 0, 1) := by decide +kernel
theorem dX12_save_260 : decode cX12_save 260 = .ok (.iastore, 1) := by decide +kernel
theorem dX12_save_261 : decode cX12_save 261 = .ok (.iinc 2 15, 3) := by decide +kernel
theorem dX12_save_264 : decode cX12_save 264 = .ok (.iinc 3 1, 3) := by decide +kernel
theorem dX12_save_267 : decode cX12_save 267 = .ok (.goto (-259), 3) := by decide +kernel
theorem dX12_save_270 : decode cX12_save 270 = .ok (.iconst 0, 1) := by decide +kernel
theorem dX12_save_271 : decode cX12_save 271 = .ok (.istore_n 3, 1) := by decide +kernel
theorem dX12_save_272 : decode cX12_save 272 = .ok (.iload_n 3, 1) := by decide +kernel
theorem dX12_save_273 : decode cX12_save 273 = .ok (.bipush 40, 2) := by decide +kernel
theorem dX12_save_275 : decode cX12_save 275 = .ok (.if_icmp .ge 38, 3) := by decide +kernel
theorem dX12_save_278 : decode cX12_save 278 = .ok (.aload_n 0, 1) := by decide +kernel
theorem dX12_save_279 : decode cX12_save 279 = .ok (.getfield 135, 3) := by decide +kernel
theorem dX12_save_282 : decode cX12_save 282 = .ok (.iload_n 2, 1) := by decide +kernel
theorem dX12_save_283 : decode cX12_save 283 = .ok (.aload_n 0, 1) := by decide +kernel
theorem dX12_save_284 : decode cX12_save 284 = .ok (.getfield 45, 3) := by decide +kernel
theorem dX12_save_287 : decode cX12_save 287 = .ok (.iload_n 3, 1) := by decide +kernel
theorem dX12_save_288 : decode cX12_save 288 = .ok (.iaload, 1) := by decide +kernel
theorem dX12_save_289 : decode cX12_save 289 = .ok (.iastore, 1) := by decide +kernel
theorem dX12_save_290 : decode cX12_save 290 = .ok (.aload_n 0, 1) := by decide +kernel
theorem dX12_save_291 : decode cX12_save 291 = .ok (.getfield 135, 3) := by decide +kernel
theorem dX12_save_294 : decode cX12_save 294 = .ok (.iload_n 2, 1) := by decide +kernel
theorem dX12_save_295 : decode cX12_save 295 = .ok (.iconst 1, 1) := by decide +kernel
theorem dX12_save_296 : decode cX12_save 296 = .ok (.iadd, 1) := by decide +kernel
theorem dX12_save_297 : decode cX12_save 297 = .ok (.aload_n 0, 1) := by decide +kernel
theorem dX12_save_298 : decode cX12_save 298 = .ok (.getfield 48, 3) := by decide +kernel
theorem dX12_save_301 : decode cX12_save 301 = .ok (.iload_n 3, 1) := by decide +kernel
theorem dX12_save_302 : decode cX12_save 302 = .ok (.iaload, 1) := by decide +kernel
theorem dX12_save_303 : decode cX12_save 303 = .ok (.iastore, 1) := by decide +kernel
theorem dX12_save_304 : decode cX12_save 304 = .ok (.iinc 2 2, 3) := by decide +kernel
theorem dX12_save_307 : decode cX12_save 307 = .ok (.iinc 3 1, 3) := by decide +kernel
theorem dX12_save_310 : decode cX12_save 310 = .ok (.goto (-38), 3) := by decide +kernel
theorem dX12_save_313 : decode cX12_save 313 = .ok (.aload_n 0, 1) := by decide +kernel
theorem dX12_save_314 : decode cX12_save 314 = .ok (.getfield 135, 3) := by decide +kernel
theorem dX12_save_317 : decode cX12_save 317 = .ok (.iload_n 2, 1) := by decide +kernel
theorem dX12_save_318 : decode cX12_save 318 = .ok (.aload_n 0, 1) := by decide +kernel
theorem dX12_save_319 : decode cX12_save 319 = .ok (.getfield 334, 3) := by decide +kernel
theorem dX12_save_322 : decode cX12_save 322 = .ok (.iastore, 1) := by decide +kernel
theorem dX12_save_323 : decode cX12_save 323 = .ok (.return_, 1) := by decide +kernel
set_option maxRecDepth 100000 in
set_option maxHeartbeats 4000000 in
theorem w_X12_save_L272 {p : Program} {l : Launch} {e : Env} {R : Room} {s : State} {m : MethodId} {args : Array Value} {below : List Frame} {meth : Method} {c : Code} {dC : Nat → ClassId} {dI : Nat → Nat → Nat} {cs : Nat → ClassId} {ad : Nat → Nat} {A : Nat → Prop} {D0 : Nat → Nat} {S' : SS} (F : Fx p s m args meth c cX12_save 4 RX12 none dC dI cs A) (hR1 : 0 ≤ R.frames) (hR2 : 0 ≤ R.locals) : ∀ (n : Nat) (x2 : Int32) (x3 : Int32) (S : SS), f_X12_save_L272 n x2 x3 S = some S' → AW p l e R s m args below meth c dC dI cs ad A D0 none S' 4 272 [(0, .ref (ad 14)), (2, .int x2), (3, .int x3)] [] S := by
  have hx := F.1.1
  have hb := F.1.2.1
  intro n
  induction n with
  | zero => intro x2 x3 S h; cases h
  | succ n ih =>
    intro x2 x3 S h H locs ls w hl
    rw [f_X12_save_L272] at h
    refine lv_iload_n (pc := 272) hx hb dX12_save_272 rfl (lv_at hl 2 rfl) ?_
    refine lv_bipush (pc := 273) (v := 40) hx hb dX12_save_273 (by decide) ?_
    refine lv_icmp_ge (pc := 275) (tgt := 313) hx hb dX12_save_275 (by decide) (fun q => ?_) (fun q => ?_)
    · have h := ite_t q h
      refine lv_aload_n (pc := 313) hx hb dX12_save_313 rfl (lv_at hl 0 rfl) ?_
      refine s_getR (pc := 314) F w 107 ds_14 (j := 59) vc_X12 vi_X12 rfl (by decide) kf_X12_135 dX12_save_314 ?_
      refine lv_iload_n (pc := 317) hx hb dX12_save_317 rfl (lv_at hl 1 rfl) ?_
      refine lv_aload_n (pc := 318) hx hb dX12_save_318 rfl (lv_at hl 0 rfl) ?_
      refine s_getI (pc := 319) F w ds_14 (j := 48) vc_X12 vi_X12 rfl (by decide) kf_X12_334 dX12_save_319 ?_
      refine s_iast (pc := 322) F w ds_107 h dX12_save_322 (fun S2 H locs h w => ?_)
      exact s_vret F w h dX12_save_323
    · have h := ite_f q h
      refine lv_aload_n (pc := 278) hx hb dX12_save_278 rfl (lv_at hl 0 rfl) ?_
      refine s_getR (pc := 279) F w 107 ds_14 (j := 59) vc_X12 vi_X12 rfl (by decide) kf_X12_135 dX12_save_279 ?_
      refine lv_iload_n (pc := 282) hx hb dX12_save_282 rfl (lv_at hl 1 rfl) ?_
      refine lv_aload_n (pc := 283) hx hb dX12_save_283 rfl (lv_at hl 0 rfl) ?_
      refine s_getR (pc := 284) F w 77 ds_14 (j := 17) vc_X12 vi_X12 rfl (by decide) kf_X12_45 dX12_save_284 ?_
      refine lv_iload_n (pc := 287) hx hb dX12_save_287 rfl (lv_at hl 2 rfl) ?_
      refine s_iald (pc := 288) F w ds_77 h dX12_save_288 (fun h => ?_)
      refine s_iast (pc := 289) F w ds_107 h dX12_save_289 (fun S3 H locs h w => ?_)
      refine lv_aload_n (pc := 290) hx hb dX12_save_290 rfl (lv_at hl 0 rfl) ?_
      refine s_getR (pc := 291) F w 107 ds_14 (j := 59) vc_X12 vi_X12 rfl (by decide) kf_X12_135 dX12_save_291 ?_
      refine lv_iload_n (pc := 294) hx hb dX12_save_294 rfl (lv_at hl 1 rfl) ?_
      refine lv_iconst (pc := 295) (v := 1) hx hb dX12_save_295 (by decide) ?_
      refine lv_iadd (pc := 296) hx hb dX12_save_296 ?_
      refine lv_aload_n (pc := 297) hx hb dX12_save_297 rfl (lv_at hl 0 rfl) ?_
      refine s_getR (pc := 298) F w 78 ds_14 (j := 18) vc_X12 vi_X12 rfl (by decide) kf_X12_48 dX12_save_298 ?_
      refine lv_iload_n (pc := 301) hx hb dX12_save_301 rfl (lv_at hl 2 rfl) ?_
      refine s_iald (pc := 302) F w ds_78 h dX12_save_302 (fun h => ?_)
      refine s_iast (pc := 303) F w ds_107 h dX12_save_303 (fun S4 H locs h w => ?_)
      refine s_nm h (fun z5 ez5 h => ?_)
      refine lv_iinc (pc := 304) (v := z5) (lv' := [(2, .int z5), (0, .ref (ad 14)), (3, .int x3)]) hx hb dX12_save_304 hl (k := 1) rfl (by rw [ez5]; rfl) (by decide) rfl (fun ls hl => ?_)
      refine s_nm h (fun z6 ez6 h => ?_)
      refine lv_iinc (pc := 307) (v := z6) (lv' := [(3, .int z6), (2, .int z5), (0, .ref (ad 14))]) hx hb dX12_save_307 hl (k := 2) rfl (by rw [ez6]; rfl) (by decide) rfl (fun ls hl => ?_)
      refine lv_goto (pc := 310) (tgt := 272) hx hb dX12_save_310 (by decide) ?_
      exact ih _ _ _ h _ _ _ w (lv_sub hl [2, 1, 0] rfl)
set_option maxRecDepth 100000 in
set_option maxHeartbeats 4000000 in
theorem w_X12_save_j260 {p : Program} {l : Launch} {e : Env} {R : Room} {s : State} {m : MethodId} {args : Array Value} {below : List Frame} {meth : Method} {c : Code} {dC : Nat → ClassId} {dI : Nat → Nat → Nat} {cs : Nat → ClassId} {ad : Nat → Nat} {A : Nat → Prop} {D0 : Nat → Nat} {S' : SS} (F : Fx p s m args meth c cX12_save 4 RX12 none dC dI cs A) (hR1 : 0 ≤ R.frames) (hR2 : 0 ≤ R.locals) (K8 : Int32 → Int32 → SS → Option (SS)) (hK8 : ∀ (v0 : Int32) (v1 : Int32) (S : SS), K8 v0 v1 S = some S' → AW p l e R s m args below meth c dC dI cs ad A D0 none S' 4 8 [(0, .ref (ad 14)), (2, .int v0), (3, .int v1)] [] S) (x2 : Int32) (x3 : Int32) (y0 : Int32) (y1 : Int32) (S : SS) (h : f_X12_save_j260 K8 x2 x3 y0 y1 S = some S') : AW p l e R s m args below meth c dC dI cs ad A D0 none S' 4 260 [(0, .ref (ad 14)), (2, .int x2), (3, .int x3)] [.int y0, .int y1, .ref (ad 107)] S := by
  have hx := F.1.1
  have hb := F.1.2.1
  intro H locs ls w hl
  rw [f_X12_save_j260] at h
  refine s_iast (pc := 260) F w ds_107 h dX12_save_260 (fun S21 H locs h w => ?_)
  refine s_nm h (fun z22 ez22 h => ?_)
  refine lv_iinc (pc := 261) (v := z22) (lv' := [(2, .int z22), (0, .ref (ad 14)), (3, .int x3)]) hx hb dX12_save_261 hl (k := 1) rfl (by rw [ez22]; rfl) (by decide) rfl (fun ls hl => ?_)
  refine s_nm h (fun z23 ez23 h => ?_)
  refine lv_iinc (pc := 264) (v := z23) (lv' := [(3, .int z23), (2, .int z22), (0, .ref (ad 14))]) hx hb dX12_save_264 hl (k := 2) rfl (by rw [ez23]; rfl) (by decide) rfl (fun ls hl => ?_)
  refine lv_goto (pc := 267) (tgt := 8) hx hb dX12_save_267 (by decide) ?_
  exact hK8 _ _ _ h _ _ _ w (lv_sub hl [2, 1, 0] rfl)
set_option maxRecDepth 100000 in
set_option maxHeartbeats 4000000 in
theorem w_X12_save_j207 {p : Program} {l : Launch} {e : Env} {R : Room} {s : State} {m : MethodId} {args : Array Value} {below : List Frame} {meth : Method} {c : Code} {dC : Nat → ClassId} {dI : Nat → Nat → Nat} {cs : Nat → ClassId} {ad : Nat → Nat} {A : Nat → Prop} {D0 : Nat → Nat} {S' : SS} (F : Fx p s m args meth c cX12_save 4 RX12 none dC dI cs A) (hR1 : 0 ≤ R.frames) (hR2 : 0 ≤ R.locals) (K8 : Int32 → Int32 → SS → Option (SS)) (hK8 : ∀ (v0 : Int32) (v1 : Int32) (S : SS), K8 v0 v1 S = some S' → AW p l e R s m args below meth c dC dI cs ad A D0 none S' 4 8 [(0, .ref (ad 14)), (2, .int v0), (3, .int v1)] [] S) (x2 : Int32) (x3 : Int32) (y0 : Int32) (y1 : Int32) (S : SS) (h : f_X12_save_j207 K8 x2 x3 y0 y1 S = some S') : AW p l e R s m args below meth c dC dI cs ad A D0 none S' 4 207 [(0, .ref (ad 14)), (2, .int x2), (3, .int x3)] [.int y0, .int y1, .ref (ad 107)] S := by
  have hx := F.1.1
  have hb := F.1.2.1
  intro H locs ls w hl
  rw [f_X12_save_j207] at h
  refine s_iast (pc := 207) F w ds_107 h dX12_save_207 (fun S18 H locs h w => ?_)
  refine lv_aload_n (pc := 208) hx hb dX12_save_208 rfl (lv_at hl 0 rfl) ?_
  refine s_getR (pc := 209) F w 107 ds_14 (j := 59) vc_X12 vi_X12 rfl (by decide) kf_X12_135 dX12_save_209 ?_
  refine lv_iload_n (pc := 212) hx hb dX12_save_212 rfl (lv_at hl 1 rfl) ?_
  refine lv_bipush (pc := 213) (v := 12) hx hb dX12_save_213 (by decide) ?_
  refine lv_iadd (pc := 215) hx hb dX12_save_215 ?_
  refine lv_aload_n (pc := 216) hx hb dX12_save_216 rfl (lv_at hl 0 rfl) ?_
  refine s_getR (pc := 217) F w 99 ds_14 (j := 44) vc_X12 vi_X12 rfl (by decide) kf_X12_111 dX12_save_217 ?_
  refine lv_iload_n (pc := 220) hx hb dX12_save_220 rfl (lv_at hl 2 rfl) ?_
  refine s_iald (pc := 221) F w ds_99 h dX12_save_221 (fun h => ?_)
  refine s_iast (pc := 222) F w ds_107 h dX12_save_222 (fun S19 H locs h w => ?_)
  refine lv_aload_n (pc := 223) hx hb dX12_save_223 rfl (lv_at hl 0 rfl) ?_
  refine s_getR (pc := 224) F w 107 ds_14 (j := 59) vc_X12 vi_X12 rfl (by decide) kf_X12_135 dX12_save_224 ?_
  refine lv_iload_n (pc := 227) hx hb dX12_save_227 rfl (lv_at hl 1 rfl) ?_
  refine lv_bipush (pc := 228) (v := 13) hx hb dX12_save_228 (by decide) ?_
  refine lv_iadd (pc := 230) hx hb dX12_save_230 ?_
  refine lv_aload_n (pc := 231) hx hb dX12_save_231 rfl (lv_at hl 0 rfl) ?_
  refine s_getR (pc := 232) F w 100 ds_14 (j := 45) vc_X12 vi_X12 rfl (by decide) kf_X12_114 dX12_save_232 ?_
  refine lv_iload_n (pc := 235) hx hb dX12_save_235 rfl (lv_at hl 2 rfl) ?_
  refine s_iald (pc := 236) F w ds_100 h dX12_save_236 (fun h => ?_)
  refine s_iast (pc := 237) F w ds_107 h dX12_save_237 (fun S20 H locs h w => ?_)
  refine lv_aload_n (pc := 238) hx hb dX12_save_238 rfl (lv_at hl 0 rfl) ?_
  refine s_getR (pc := 239) F w 107 ds_14 (j := 59) vc_X12 vi_X12 rfl (by decide) kf_X12_135 dX12_save_239 ?_
  refine lv_iload_n (pc := 242) hx hb dX12_save_242 rfl (lv_at hl 1 rfl) ?_
  refine lv_bipush (pc := 243) (v := 14) hx hb dX12_save_243 (by decide) ?_
  refine lv_iadd (pc := 245) hx hb dX12_save_245 ?_
  refine lv_aload_n (pc := 246) hx hb dX12_save_246 rfl (lv_at hl 0 rfl) ?_
  refine s_getR (pc := 247) F w 101 ds_14 (j := 46) vc_X12 vi_X12 rfl (by decide) kf_X12_117 dX12_save_247 ?_
  refine lv_iload_n (pc := 250) hx hb dX12_save_250 rfl (lv_at hl 2 rfl) ?_
  refine s_zald (pc := 251) F w ds_101 h dX12_save_251 (fun h => ?_)
  refine lv_if_eq (pc := 252) (tgt := 259) hx hb dX12_save_252 (by decide) (fun q => ?_) (fun q => ?_)
  · have h := ite_t q h
    refine lv_iconst (pc := 259) (v := 0) hx hb dX12_save_259 (by decide) ?_
    exact w_X12_save_j260 F (Nat.le_trans (by decide) hR1) (Nat.le_trans (by decide) hR2) _ hK8 _ _ _ _ _ h _ _ _ w (lv_sub hl [0, 1, 2] rfl)
  · have h := ite_f q h
    refine lv_iconst (pc := 255) (v := 1) hx hb dX12_save_255 (by decide) ?_
    refine lv_goto (pc := 256) (tgt := 260) hx hb dX12_save_256 (by decide) ?_
    exact w_X12_save_j260 F (Nat.le_trans (by decide) hR1) (Nat.le_trans (by decide) hR2) _ hK8 _ _ _ _ _ h _ _ _ w (lv_sub hl [0, 1, 2] rfl)
set_option maxRecDepth 100000 in
set_option maxHeartbeats 4000000 in
theorem w_X12_save_j33 {p : Program} {l : Launch} {e : Env} {R : Room} {s : State} {m : MethodId} {args : Array Value} {below : List Frame} {meth : Method} {c : Code} {dC : Nat → ClassId} {dI : Nat → Nat → Nat} {cs : Nat → ClassId} {ad : Nat → Nat} {A : Nat → Prop} {D0 : Nat → Nat} {S' : SS} (F : Fx p s m args meth c cX12_save 4 RX12 none dC dI cs A) (hR1 : 0 ≤ R.frames) (hR2 : 0 ≤ R.locals) (K8 : Int32 → Int32 → SS → Option (SS)) (hK8 : ∀ (v0 : Int32) (v1 : Int32) (S : SS), K8 v0 v1 S = some S' → AW p l e R s m args below meth c dC dI cs ad A D0 none S' 4 8 [(0, .ref (ad 14)), (2, .int v0), (3, .int v1)] [] S) (x2 : Int32) (x3 : Int32) (y0 : Int32) (y1 : Int32) (S : SS) (h : f_X12_save_j33 K8 x2 x3 y0 y1 S = some S') : AW p l e R s m args below meth c dC dI cs ad A D0 none S' 4 33 [(0, .ref (ad 14)), (2, .int x2), (3, .int x3)] [.int y0, .int y1, .ref (ad 107)] S := by
  have hx := F.1.1
  have hb := F.1.2.1
  intro H locs ls w hl
  rw [f_X12_save_j33] at h
  refine s_iast (pc := 33) F w ds_107 h dX12_save_33 (fun S7 H locs h w => ?_)
  refine lv_aload_n (pc := 34) hx hb dX12_save_34 rfl (lv_at hl 0 rfl) ?_
  refine s_getR (pc := 35) F w 107 ds_14 (j := 59) vc_X12 vi_X12 rfl (by decide) kf_X12_135 dX12_save_35 ?_
  refine lv_iload_n (pc := 38) hx hb dX12_save_38 rfl (lv_at hl 1 rfl) ?_
  refine lv_iconst (pc := 39) (v := 1) hx hb dX12_save_39 (by decide) ?_
  refine lv_iadd (pc := 40) hx hb dX12_save_40 ?_
  refine lv_aload_n (pc := 41) hx hb dX12_save_41 rfl (lv_at hl 0 rfl) ?_
  refine s_getR (pc := 42) F w 87 ds_14 (j := 32) vc_X12 vi_X12 rfl (by decide) kf_X12_75 dX12_save_42 ?_
  refine lv_iload_n (pc := 45) hx hb dX12_save_45 rfl (lv_at hl 2 rfl) ?_
  refine s_iald (pc := 46) F w ds_87 h dX12_save_46 (fun h => ?_)
  refine s_iast (pc := 47) F w ds_107 h dX12_save_47 (fun S8 H locs h w => ?_)
  refine lv_aload_n (pc := 48) hx hb dX12_save_48 rfl (lv_at hl 0 rfl) ?_
  refine s_getR (pc := 49) F w 107 ds_14 (j := 59) vc_X12 vi_X12 rfl (by decide) kf_X12_135 dX12_save_49 ?_
  refine lv_iload_n (pc := 52) hx hb dX12_save_52 rfl (lv_at hl 1 rfl) ?_
  refine lv_iconst (pc := 53) (v := 2) hx hb dX12_save_53 (by decide) ?_
  refine lv_iadd (pc := 54) hx hb dX12_save_54 ?_
  refine lv_aload_n (pc := 55) hx hb dX12_save_55 rfl (lv_at hl 0 rfl) ?_
  refine s_getR (pc := 56) F w 88 ds_14 (j := 33) vc_X12 vi_X12 rfl (by decide) kf_X12_78 dX12_save_56 ?_
  refine lv_iload_n (pc := 59) hx hb dX12_save_59 rfl (lv_at hl 2 rfl) ?_
  refine s_iald (pc := 60) F w ds_88 h dX12_save_60 (fun h => ?_)
  refine s_iast (pc := 61) F w ds_107 h dX12_save_61 (fun S9 H locs h w => ?_)
  refine lv_aload_n (pc := 62) hx hb dX12_save_62 rfl (lv_at hl 0 rfl) ?_
  refine s_getR (pc := 63) F w 107 ds_14 (j := 59) vc_X12 vi_X12 rfl (by decide) kf_X12_135 dX12_save_63 ?_
  refine lv_iload_n (pc := 66) hx hb dX12_save_66 rfl (lv_at hl 1 rfl) ?_
  refine lv_iconst (pc := 67) (v := 3) hx hb dX12_save_67 (by decide) ?_
  refine lv_iadd (pc := 68) hx hb dX12_save_68 ?_
  refine lv_aload_n (pc := 69) hx hb dX12_save_69 rfl (lv_at hl 0 rfl) ?_
  refine s_getR (pc := 70) F w 89 ds_14 (j := 34) vc_X12 vi_X12 rfl (by decide) kf_X12_81 dX12_save_70 ?_
  refine lv_iload_n (pc := 73) hx hb dX12_save_73 rfl (lv_at hl 2 rfl) ?_
  refine s_iald (pc := 74) F w ds_89 h dX12_save_74 (fun h => ?_)
  refine s_iast (pc := 75) F w ds_107 h dX12_save_75 (fun S10 H locs h w => ?_)
  refine lv_aload_n (pc := 76) hx hb dX12_save_76 rfl (lv_at hl 0 rfl) ?_
  refine s_getR (pc := 77) F w 107 ds_14 (j := 59) vc_X12 vi_X12 rfl (by decide) kf_X12_135 dX12_save_77 ?_
  refine lv_iload_n (pc := 80) hx hb dX12_save_80 rfl (lv_at hl 1 rfl) ?_
  refine lv_iconst (pc := 81) (v := 4) hx hb dX12_save_81 (by decide) ?_
  refine lv_iadd (pc := 82) hx hb dX12_save_82 ?_
  refine lv_aload_n (pc := 83) hx hb dX12_save_83 rfl (lv_at hl 0 rfl) ?_
  refine s_getR (pc := 84) F w 90 ds_14 (j := 35) vc_X12 vi_X12 rfl (by decide) kf_X12_84 dX12_save_84 ?_
  refine lv_iconst (pc := 87) (v := 2) hx hb dX12_save_87 (by decide) ?_
  refine lv_iload_n (pc := 88) hx hb dX12_save_88 rfl (lv_at hl 2 rfl) ?_
  refine lv_imul (pc := 89) hx hb dX12_save_89 ?_
  refine s_iald (pc := 90) F w ds_90 h dX12_save_90 (fun h => ?_)
  refine s_iast (pc := 91) F w ds_107 h dX12_save_91 (fun S11 H locs h w => ?_)
  refine lv_aload_n (pc := 92) hx hb dX12_save_92 rfl (lv_at hl 0 rfl) ?_
  refine s_getR (pc := 93) F w 107 ds_14 (j := 59) vc_X12 vi_X12 rfl (by decide) kf_X12_135 dX12_save_93 ?_
  refine lv_iload_n (pc := 96) hx hb dX12_save_96 rfl (lv_at hl 1 rfl) ?_
  refine lv_iconst (pc := 97) (v := 5) hx hb dX12_save_97 (by decide) ?_
  refine lv_iadd (pc := 98) hx hb dX12_save_98 ?_
  refine lv_aload_n (pc := 99) hx hb dX12_save_99 rfl (lv_at hl 0 rfl) ?_
  refine s_getR (pc := 100) F w 90 ds_14 (j := 35) vc_X12 vi_X12 rfl (by decide) kf_X12_84 dX12_save_100 ?_
  refine lv_iconst (pc := 103) (v := 2) hx hb dX12_save_103 (by decide) ?_
  refine lv_iload_n (pc := 104) hx hb dX12_save_104 rfl (lv_at hl 2 rfl) ?_
  refine lv_imul (pc := 105) hx hb dX12_save_105 ?_
  refine lv_iconst (pc := 106) (v := 1) hx hb dX12_save_106 (by decide) ?_
  refine lv_iadd (pc := 107) hx hb dX12_save_107 ?_
  refine s_iald (pc := 108) F w ds_90 h dX12_save_108 (fun h => ?_)
  refine s_iast (pc := 109) F w ds_107 h dX12_save_109 (fun S12 H locs h w => ?_)
  refine lv_aload_n (pc := 110) hx hb dX12_save_110 rfl (lv_at hl 0 rfl) ?_
  refine s_getR (pc := 111) F w 107 ds_14 (j := 59) vc_X12 vi_X12 rfl (by decide) kf_X12_135 dX12_save_111 ?_
  refine lv_iload_n (pc := 114) hx hb dX12_save_114 rfl (lv_at hl 1 rfl) ?_
  refine lv_bipush (pc := 115) (v := 6) hx hb dX12_save_115 (by decide) ?_
  refine lv_iadd (pc := 117) hx hb dX12_save_117 ?_
  refine lv_aload_n (pc := 118) hx hb dX12_save_118 rfl (lv_at hl 0 rfl) ?_
  refine s_getR (pc := 119) F w 91 ds_14 (j := 36) vc_X12 vi_X12 rfl (by decide) kf_X12_87 dX12_save_119 ?_
  refine lv_iload_n (pc := 122) hx hb dX12_save_122 rfl (lv_at hl 2 rfl) ?_
  refine s_iald (pc := 123) F w ds_91 h dX12_save_123 (fun h => ?_)
  refine s_iast (pc := 124) F w ds_107 h dX12_save_124 (fun S13 H locs h w => ?_)
  refine lv_aload_n (pc := 125) hx hb dX12_save_125 rfl (lv_at hl 0 rfl) ?_
  refine s_getR (pc := 126) F w 107 ds_14 (j := 59) vc_X12 vi_X12 rfl (by decide) kf_X12_135 dX12_save_126 ?_
  refine lv_iload_n (pc := 129) hx hb dX12_save_129 rfl (lv_at hl 1 rfl) ?_
  refine lv_bipush (pc := 130) (v := 7) hx hb dX12_save_130 (by decide) ?_
  refine lv_iadd (pc := 132) hx hb dX12_save_132 ?_
  refine lv_aload_n (pc := 133) hx hb dX12_save_133 rfl (lv_at hl 0 rfl) ?_
  refine s_getR (pc := 134) F w 92 ds_14 (j := 37) vc_X12 vi_X12 rfl (by decide) kf_X12_90 dX12_save_134 ?_
  refine lv_iload_n (pc := 137) hx hb dX12_save_137 rfl (lv_at hl 2 rfl) ?_
  refine s_iald (pc := 138) F w ds_92 h dX12_save_138 (fun h => ?_)
  refine s_iast (pc := 139) F w ds_107 h dX12_save_139 (fun S14 H locs h w => ?_)
  refine lv_aload_n (pc := 140) hx hb dX12_save_140 rfl (lv_at hl 0 rfl) ?_
  refine s_getR (pc := 141) F w 107 ds_14 (j := 59) vc_X12 vi_X12 rfl (by decide) kf_X12_135 dX12_save_141 ?_
  refine lv_iload_n (pc := 144) hx hb dX12_save_144 rfl (lv_at hl 1 rfl) ?_
  refine lv_bipush (pc := 145) (v := 8) hx hb dX12_save_145 (by decide) ?_
  refine lv_iadd (pc := 147) hx hb dX12_save_147 ?_
  refine lv_aload_n (pc := 148) hx hb dX12_save_148 rfl (lv_at hl 0 rfl) ?_
  refine s_getR (pc := 149) F w 93 ds_14 (j := 38) vc_X12 vi_X12 rfl (by decide) kf_X12_93 dX12_save_149 ?_
  refine lv_iload_n (pc := 152) hx hb dX12_save_152 rfl (lv_at hl 2 rfl) ?_
  refine s_iald (pc := 153) F w ds_93 h dX12_save_153 (fun h => ?_)
  refine s_iast (pc := 154) F w ds_107 h dX12_save_154 (fun S15 H locs h w => ?_)
  refine lv_aload_n (pc := 155) hx hb dX12_save_155 rfl (lv_at hl 0 rfl) ?_
  refine s_getR (pc := 156) F w 107 ds_14 (j := 59) vc_X12 vi_X12 rfl (by decide) kf_X12_135 dX12_save_156 ?_
  refine lv_iload_n (pc := 159) hx hb dX12_save_159 rfl (lv_at hl 1 rfl) ?_
  refine lv_bipush (pc := 160) (v := 9) hx hb dX12_save_160 (by decide) ?_
  refine lv_iadd (pc := 162) hx hb dX12_save_162 ?_
  refine lv_aload_n (pc := 163) hx hb dX12_save_163 rfl (lv_at hl 0 rfl) ?_
  refine s_getR (pc := 164) F w 94 ds_14 (j := 39) vc_X12 vi_X12 rfl (by decide) kf_X12_96 dX12_save_164 ?_
  refine lv_iload_n (pc := 167) hx hb dX12_save_167 rfl (lv_at hl 2 rfl) ?_
  refine s_iald (pc := 168) F w ds_94 h dX12_save_168 (fun h => ?_)
  refine s_iast (pc := 169) F w ds_107 h dX12_save_169 (fun S16 H locs h w => ?_)
  refine lv_aload_n (pc := 170) hx hb dX12_save_170 rfl (lv_at hl 0 rfl) ?_
  refine s_getR (pc := 171) F w 107 ds_14 (j := 59) vc_X12 vi_X12 rfl (by decide) kf_X12_135 dX12_save_171 ?_
  refine lv_iload_n (pc := 174) hx hb dX12_save_174 rfl (lv_at hl 1 rfl) ?_
  refine lv_bipush (pc := 175) (v := 10) hx hb dX12_save_175 (by decide) ?_
  refine lv_iadd (pc := 177) hx hb dX12_save_177 ?_
  refine lv_aload_n (pc := 178) hx hb dX12_save_178 rfl (lv_at hl 0 rfl) ?_
  refine s_getR (pc := 179) F w 97 ds_14 (j := 42) vc_X12 vi_X12 rfl (by decide) kf_X12_105 dX12_save_179 ?_
  refine lv_iload_n (pc := 182) hx hb dX12_save_182 rfl (lv_at hl 2 rfl) ?_
  refine s_iald (pc := 183) F w ds_97 h dX12_save_183 (fun h => ?_)
  refine s_iast (pc := 184) F w ds_107 h dX12_save_184 (fun S17 H locs h w => ?_)
  refine lv_aload_n (pc := 185) hx hb dX12_save_185 rfl (lv_at hl 0 rfl) ?_
  refine s_getR (pc := 186) F w 107 ds_14 (j := 59) vc_X12 vi_X12 rfl (by decide) kf_X12_135 dX12_save_186 ?_
  refine lv_iload_n (pc := 189) hx hb dX12_save_189 rfl (lv_at hl 1 rfl) ?_
  refine lv_bipush (pc := 190) (v := 11) hx hb dX12_save_190 (by decide) ?_
  refine lv_iadd (pc := 192) hx hb dX12_save_192 ?_
  refine lv_aload_n (pc := 193) hx hb dX12_save_193 rfl (lv_at hl 0 rfl) ?_
  refine s_getR (pc := 194) F w 98 ds_14 (j := 43) vc_X12 vi_X12 rfl (by decide) kf_X12_108 dX12_save_194 ?_
  refine lv_iload_n (pc := 197) hx hb dX12_save_197 rfl (lv_at hl 2 rfl) ?_
  refine s_zald (pc := 198) F w ds_98 h dX12_save_198 (fun h => ?_)
  refine lv_if_eq (pc := 199) (tgt := 206) hx hb dX12_save_199 (by decide) (fun q => ?_) (fun q => ?_)
  · have h := ite_t q h
    refine lv_iconst (pc := 206) (v := 0) hx hb dX12_save_206 (by decide) ?_
    exact w_X12_save_j207 F (Nat.le_trans (by decide) hR1) (Nat.le_trans (by decide) hR2) _ hK8 _ _ _ _ _ h _ _ _ w (lv_sub hl [0, 1, 2] rfl)
  · have h := ite_f q h
    refine lv_iconst (pc := 202) (v := 1) hx hb dX12_save_202 (by decide) ?_
    refine lv_goto (pc := 203) (tgt := 207) hx hb dX12_save_203 (by decide) ?_
    exact w_X12_save_j207 F (Nat.le_trans (by decide) hR1) (Nat.le_trans (by decide) hR2) _ hK8 _ _ _ _ _ h _ _ _ w (lv_sub hl [0, 1, 2] rfl)
set_option maxRecDepth 100000 in
set_option maxHeartbeats 4000000 in
theorem w_X12_save_L8 {p : Program} {l : Launch} {e : Env} {R : Room} {s : State} {m : MethodId} {args : Array Value} {below : List Frame} {meth : Method} {c : Code} {dC : Nat → ClassId} {dI : Nat → Nat → Nat} {cs : Nat → ClassId} {ad : Nat → Nat} {A : Nat → Prop} {D0 : Nat → Nat} {S' : SS} (F : Fx p s m args meth c cX12_save 4 RX12 none dC dI cs A) (hR1 : 0 ≤ R.frames) (hR2 : 0 ≤ R.locals) : ∀ (n : Nat) (x2 : Int32) (x3 : Int32) (S : SS), f_X12_save_L8 n x2 x3 S = some S' → AW p l e R s m args below meth c dC dI cs ad A D0 none S' 4 8 [(0, .ref (ad 14)), (2, .int x2), (3, .int x3)] [] S := by
  have hx := F.1.1
  have hb := F.1.2.1
  intro n
  induction n with
  | zero => intro x2 x3 S h; cases h
  | succ n ih =>
    intro x2 x3 S h H locs ls w hl
    rw [f_X12_save_L8] at h
    refine lv_iload_n (pc := 8) hx hb dX12_save_8 rfl (lv_at hl 2 rfl) ?_
    refine lv_bipush (pc := 9) (v := 72) hx hb dX12_save_9 (by decide) ?_
    refine lv_icmp_ge (pc := 11) (tgt := 270) hx hb dX12_save_11 (by decide) (fun q => ?_) (fun q => ?_)
    · have h := ite_t q h
      refine lv_iconst (pc := 270) (v := 0) hx hb dX12_save_270 (by decide) ?_
      refine lv_istore_n (pc := 271) (lv' := [(3, .int (0 : Int32)), (0, .ref (ad 14)), (2, .int x2)]) hx hb dX12_save_271 rfl hl (by decide) rfl (fun ls hl => ?_)
      exact w_X12_save_L272 F (Nat.le_trans (by decide) hR1) (Nat.le_trans (by decide) hR2) _ _ _ _ h _ _ _ w (lv_sub hl [1, 2, 0] rfl)
    · have h := ite_f q h
      refine lv_aload_n (pc := 14) hx hb dX12_save_14 rfl (lv_at hl 0 rfl) ?_
      refine s_getR (pc := 15) F w 107 ds_14 (j := 59) vc_X12 vi_X12 rfl (by decide) kf_X12_135 dX12_save_15 ?_
      refine lv_iload_n (pc := 18) hx hb dX12_save_18 rfl (lv_at hl 1 rfl) ?_
      refine lv_aload_n (pc := 19) hx hb dX12_save_19 rfl (lv_at hl 0 rfl) ?_
      refine s_getR (pc := 20) F w 86 ds_14 (j := 31) vc_X12 vi_X12 rfl (by decide) kf_X12_72 dX12_save_20 ?_
      refine lv_iload_n (pc := 23) hx hb dX12_save_23 rfl (lv_at hl 2 rfl) ?_
      refine s_zald (pc := 24) F w ds_86 h dX12_save_24 (fun h => ?_)
      refine lv_if_eq (pc := 25) (tgt := 32) hx hb dX12_save_25 (by decide) (fun q => ?_) (fun q => ?_)
      · have h := ite_t q h
        refine lv_iconst (pc := 32) (v := 0) hx hb dX12_save_32 (by decide) ?_
        exact w_X12_save_j33 F (Nat.le_trans (by decide) hR1) (Nat.le_trans (by decide) hR2) _ (fun v0 v1 S h => ih v0 v1 S h) _ _ _ _ _ h _ _ _ w (lv_sub hl [0, 1, 2] rfl)
      · have h := ite_f q h
        refine lv_iconst (pc := 28) (v := 1) hx hb dX12_save_28 (by decide) ?_
        refine lv_goto (pc := 29) (tgt := 33) hx hb dX12_save_29 (by decide) ?_
        exact w_X12_save_j33 F (Nat.le_trans (by decide) hR1) (Nat.le_trans (by decide) hR2) _ (fun v0 v1 S h => ih v0 v1 S h) _ _ _ _ _ h _ _ _ w (lv_sub hl [0, 1, 2] rfl)
set_option maxRecDepth 100000 in
set_option maxHeartbeats 4000000 in
theorem m_X12_save (a1 : Int32) (S S' : SS) (h : f_X12_save a1 S = some S') : MT yX12_save cX12_save 4 none 0 0 (fun ad => [.ref (ad 14), .int a1]) S none S' := by
  refine MT.of RX12 (fun ad => [(0, .ref (ad 14)), (1, .int a1)]) (by decide) rfl (fun _ => Nat.le_of_ble_eq_true rfl) (fun _ => rfl) ?_
  intro p l e R s m args below meth c dC dI cs ad A hR1 hR2 F H locs ls w hl
  have hx := F.1.1
  have hb := F.1.2.1
  rw [f_X12_save] at h
  refine lv_sipush (pc := 0) (v := 1161) hx hb dX12_save_0 (by decide) ?_
  refine lv_iload_n (pc := 3) hx hb dX12_save_3 rfl (lv_at hl 1 rfl) ?_
  refine lv_imul (pc := 4) hx hb dX12_save_4 ?_
  refine s_nm h (fun z1 ez1 h => ?_)
  rw [← ez1]
  refine lv_istore_n (pc := 5) (lv' := [(2, .int z1), (0, .ref (ad 14)), (1, .int a1)]) hx hb dX12_save_5 rfl hl (by decide) rfl (fun ls hl => ?_)
  refine lv_iconst (pc := 6) (v := 0) hx hb dX12_save_6 (by decide) ?_
  refine lv_istore_n (pc := 7) (lv' := [(3, .int (0 : Int32)), (2, .int z1), (0, .ref (ad 14)), (1, .int a1)]) hx hb dX12_save_7 rfl hl (by decide) rfl (fun ls hl => ?_)
  exact w_X12_save_L8 F (Nat.le_trans (by decide) hR1) (Nat.le_trans (by decide) hR2) _ _ _ _ h _ _ _ w (lv_sub hl [2, 1, 0] rfl)
def f_X12_keep_j50   (S : SS) : Option (SS) :=
    bndv (f_X12_save (S.1 14 60) S) (fun S1 =>
    wr S1 14 60 ((S1.1 14 60) + (1 : Int32)) (fun S2 =>
    wr S2 14 61 (0 : Int32) (fun S3 =>
    some S3)))
def f_X12_keep_L11  : Nat → Int32 → SS → Option (SS)
  | 0, _, _ => none
  | n + 1, x1, S =>
    if (8127 : Int32) ≤ x1 then
      wr S 14 60 ((S.1 14 60) - (1 : Int32)) (fun S4 =>
      f_X12_keep_j50  S4)
    else
      grd (inb (x1 + (1161 : Int32)) 18576) (
      grd (inb x1 18576) (wr S 107 x1.toNatClampNeg (S.1 107 (x1 + (1161 : Int32)).toNatClampNeg) (fun S5 =>
      nm (x1 + (1 : Int32)) (fun z6 =>
      f_X12_keep_L11 n z6 S5))))
def f_X12_keep  (S : SS) : Option (SS) :=
  if (S.1 14 60) = (8 : Int32) then
    f_X12_keep_L11 NF (0 : Int32) S
  else
    f_X12_keep_j50  S
theorem dX12_keep_0 : decode cX12_keep 0 = .ok (.aload_n 0, 1) := by decide +kernel
theorem dX12_keep_1 : decode cX12_keep 1 = .ok (.getfield 328, 3) := by decide +kernel
theorem dX12_keep_4 : decode cX12_keep 4 = .ok (.bipush 8, 2) := by decide +kernel
theorem dX12_keep_6 : decode cX12_keep 6 = .ok (.if_icmp .ne 44, 3) := by decide +kernel
theorem dX12_keep_9 : decode cX12_keep 9 = .ok (.iconst 0, 1) := by decide +kernel
theorem dX12_keep_10 : decode cX12_keep 10 = .ok (.istore_n 1, 1) := by decide +kernel
theorem dX12_keep_11 : decode cX12_keep 11 = .ok (.iload_n 1, 1) := by decide +kernel
theorem dX12_keep_12 : decode cX12_keep 12 = .ok (.sipush 8127, 3) := by decide +kernel
theorem dX12_keep_15 : decode cX12_keep 15 = .ok (.if_icmp .ge 25, 3) := by decide +kernel
theorem dX12_keep_18 : decode cX12_keep 18 = .ok (.aload_n 0, 1) := by decide +kernel
theorem dX12_keep_19 : decode cX12_keep 19 = .ok (.getfield 135, 3) := by decide +kernel
theorem dX12_keep_22 : decode cX12_keep 22 = .ok (.iload_n 1, 1) := by decide +kernel
theorem dX12_keep_23 : decode cX12_keep 23 = .ok (.aload_n 0, 1) := by decide +kernel
theorem dX12_keep_24 : decode cX12_keep 24 = .ok (.getfield 135, 3) := by decide +kernel
theorem dX12_keep_27 : decode cX12_keep 27 = .ok (.iload_n 1, 1) := by decide +kernel
theorem dX12_keep_28 : decode cX12_keep 28 = .ok (.sipush 1161, 3) := by decide +kernel
theorem dX12_keep_31 : decode cX12_keep 31 = .ok (.iadd, 1) := by decide +kernel
theorem dX12_keep_32 : decode cX12_keep 32 = .ok (.iaload, 1) := by decide +kernel
theorem dX12_keep_33 : decode cX12_keep 33 = .ok (.iastore, 1) := by decide +kernel
theorem dX12_keep_34 : decode cX12_keep 34 = .ok (.iinc 1 1, 3) := by decide +kernel
theorem dX12_keep_37 : decode cX12_keep 37 = .ok (.goto (-26), 3) := by decide +kernel
theorem dX12_keep_40 : decode cX12_keep 40 = .ok (.aload_n 0, 1) := by decide +kernel
theorem dX12_keep_41 : decode cX12_keep 41 = .ok (.dup, 1) := by decide +kernel
theorem dX12_keep_42 : decode cX12_keep 42 = .ok (.getfield 328, 3) := by decide +kernel
theorem dX12_keep_45 : decode cX12_keep 45 = .ok (.iconst 1, 1) := by decide +kernel
theorem dX12_keep_46 : decode cX12_keep 46 = .ok (.isub, 1) := by decide +kernel
theorem dX12_keep_47 : decode cX12_keep 47 = .ok (.putfield 328, 3) := by decide +kernel
theorem dX12_keep_50 : decode cX12_keep 50 = .ok (.aload_n 0, 1) := by decide +kernel
theorem dX12_keep_51 : decode cX12_keep 51 = .ok (.aload_n 0, 1) := by decide +kernel
theorem dX12_keep_52 : decode cX12_keep 52 = .ok (.getfield 328, 3) := by decide +kernel
theorem dX12_keep_55 : decode cX12_keep 55 = .ok (.invokevirtual 337, 3) := by decide +kernel
theorem dX12_keep_58 : decode cX12_keep 58 = .ok (.aload_n 0, 1) := by decide +kernel
theorem dX12_keep_59 : decode cX12_keep 59 = .ok (.dup, 1) := by decide +kernel
theorem dX12_keep_60 : decode cX12_keep 60 = .ok (.getfield 328, 3) := by decide +kernel
theorem dX12_keep_63 : decode cX12_keep 63 = .ok (.iconst 1, 1) := by decide +kernel
theorem dX12_keep_64 : decode cX12_keep 64 = .ok (.iadd, 1) := by decide +kernel
theorem dX12_keep_65 : decode cX12_keep 65 = .ok (.putfield 328, 3) := by decide +kernel
theorem dX12_keep_68 : decode cX12_keep 68 = .ok (.aload_n 0, 1) := by decide +kernel
theorem dX12_keep_69 : decode cX12_keep 69 = .ok (.iconst 0, 1) := by decide +kernel
theorem dX12_keep_70 : decode cX12_keep 70 = .ok (.putfield 331, 3) := by decide +kernel
theorem dX12_keep_73 : decode cX12_keep 73 = .ok (.return_, 1) := by decide +kernel
set_option maxRecDepth 100000 in
set_option maxHeartbeats 4000000 in
theorem w_X12_keep_j50 {p : Program} {l : Launch} {e : Env} {R : Room} {s : State} {m : MethodId} {args : Array Value} {below : List Frame} {meth : Method} {c : Code} {dC : Nat → ClassId} {dI : Nat → Nat → Nat} {cs : Nat → ClassId} {ad : Nat → Nat} {A : Nat → Prop} {D0 : Nat → Nat} {S' : SS} (F : Fx p s m args meth c cX12_keep 2 RX12 none dC dI cs A) (hR1 : 1 ≤ R.frames) (hR2 : 23 ≤ R.locals)  (S : SS) (h : f_X12_keep_j50  S = some S') : AW p l e R s m args below meth c dC dI cs ad A D0 none S' 2 50 [(0, .ref (ad 14))] [] S := by
  have hx := F.1.1
  have hb := F.1.2.1
  intro H locs ls w hl
  rw [f_X12_keep_j50] at h
  refine lv_aload_n (pc := 50) hx hb dX12_keep_50 rfl (lv_at hl 0 rfl) ?_
  refine lv_aload_n (pc := 51) hx hb dX12_keep_51 rfl (lv_at hl 0 rfl) ?_
  refine s_getI (pc := 52) F w ds_14 (j := 60) vc_X12 vi_X12 rfl (by decide) kf_X12_328 dX12_keep_52 ?_
  obtain ⟨S1, hc, h⟩ := bndv_t h
  refine s_cvv (pc := 55) [.int (S.1 14 60)] (fun ad => [.ref (ad 14), .int (S.1 14 60)]) F w (m_X12_save _ _ _ hc) rfl rfl hl.1 ds_14 vc_X12 rfl ok_X12_save rfl kc_X12_save kl_X12_337 ki_X12_save kv_X12_save kn_X12 ⟨Nat.le_trans (by decide) hR1, Nat.le_trans (by decide) hR2⟩ ⟨Nat.zero_le _, Nat.zero_le _⟩ (Nat.le_of_ble_eq_true rfl) dX12_keep_55 (fun H locs w => ?_)
  refine lv_aload_n (pc := 58) hx hb dX12_keep_58 rfl (lv_at hl 0 rfl) ?_
  refine lv_dup (pc := 59) hx hb dX12_keep_59 rfl ?_
  refine s_getI (pc := 60) F w ds_14 (j := 60) vc_X12 vi_X12 rfl (by decide) kf_X12_328 dX12_keep_60 ?_
  refine lv_iconst (pc := 63) (v := 1) hx hb dX12_keep_63 (by decide) ?_
  refine lv_iadd (pc := 64) hx hb dX12_keep_64 ?_
  refine s_putI (pc := 65) F w ds_14 vc_X12 vi_X12 tyX12_ok nmX12 (j := 60) rfl (by decide) kf_X12_328 rfl pd_I h dX12_keep_65 (fun S2 H locs h w => ?_)
  refine lv_aload_n (pc := 68) hx hb dX12_keep_68 rfl (lv_at hl 0 rfl) ?_
  refine lv_iconst (pc := 69) (v := 0) hx hb dX12_keep_69 (by decide) ?_
  refine s_putI (pc := 70) F w ds_14 vc_X12 vi_X12 tyX12_ok nmX12 (j := 61) rfl (by decide) kf_X12_331 rfl pd_I h dX12_keep_70 (fun S3 H locs h w => ?_)
  exact s_vret F w h dX12_keep_73
set_option maxRecDepth 100000 in
set_option maxHeartbeats 4000000 in
theorem w_X12_keep_L11 {p : Program} {l : Launch} {e : Env} {R : Room} {s : State} {m : MethodId} {args : Array Value} {below : List Frame} {meth : Method} {c : Code} {dC : Nat → ClassId} {dI : Nat → Nat → Nat} {cs : Nat → ClassId} {ad : Nat → Nat} {A : Nat → Prop} {D0 : Nat → Nat} {S' : SS} (F : Fx p s m args meth c cX12_keep 2 RX12 none dC dI cs A) (hR1 : 1 ≤ R.frames) (hR2 : 23 ≤ R.locals) : ∀ (n : Nat) (x1 : Int32) (S : SS), f_X12_keep_L11 n x1 S = some S' → AW p l e R s m args below meth c dC dI cs ad A D0 none S' 2 11 [(0, .ref (ad 14)), (1, .int x1)] [] S := by
  have hx := F.1.1
  have hb := F.1.2.1
  intro n
  induction n with
  | zero => intro x1 S h; cases h
  | succ n ih =>
    intro x1 S h H locs ls w hl
    rw [f_X12_keep_L11] at h
    refine lv_iload_n (pc := 11) hx hb dX12_keep_11 rfl (lv_at hl 1 rfl) ?_
    refine lv_sipush (pc := 12) (v := 8127) hx hb dX12_keep_12 (by decide) ?_
    refine lv_icmp_ge (pc := 15) (tgt := 40) hx hb dX12_keep_15 (by decide) (fun q => ?_) (fun q => ?_)
    · have h := ite_t q h
      refine lv_aload_n (pc := 40) hx hb dX12_keep_40 rfl (lv_at hl 0 rfl) ?_
      refine lv_dup (pc := 41) hx hb dX12_keep_41 rfl ?_
      refine s_getI (pc := 42) F w ds_14 (j := 60) vc_X12 vi_X12 rfl (by decide) kf_X12_328 dX12_keep_42 ?_
      refine lv_iconst (pc := 45) (v := 1) hx hb dX12_keep_45 (by decide) ?_
      refine lv_isub (pc := 46) hx hb dX12_keep_46 ?_
      refine s_putI (pc := 47) F w ds_14 vc_X12 vi_X12 tyX12_ok nmX12 (j := 60) rfl (by decide) kf_X12_328 rfl pd_I h dX12_keep_47 (fun S4 H locs h w => ?_)
      exact w_X12_keep_j50 F (Nat.le_trans (by decide) hR1) (Nat.le_trans (by decide) hR2)  _ h _ _ _ w (lv_sub hl [0] rfl)
    · have h := ite_f q h
      refine lv_aload_n (pc := 18) hx hb dX12_keep_18 rfl (lv_at hl 0 rfl) ?_
      refine s_getR (pc := 19) F w 107 ds_14 (j := 59) vc_X12 vi_X12 rfl (by decide) kf_X12_135 dX12_keep_19 ?_
      refine lv_iload_n (pc := 22) hx hb dX12_keep_22 rfl (lv_at hl 1 rfl) ?_
      refine lv_aload_n (pc := 23) hx hb dX12_keep_23 rfl (lv_at hl 0 rfl) ?_
      refine s_getR (pc := 24) F w 107 ds_14 (j := 59) vc_X12 vi_X12 rfl (by decide) kf_X12_135 dX12_keep_24 ?_
      refine lv_iload_n (pc := 27) hx hb dX12_keep_27 rfl (lv_at hl 1 rfl) ?_
      refine lv_sipush (pc := 28) (v := 1161) hx hb dX12_keep_28 (by decide) ?_
      refine lv_iadd (pc := 31) hx hb dX12_keep_31 ?_
      refine s_iald (pc := 32) F w ds_107 h dX12_keep_32 (fun h => ?_)
      refine s_iast (pc := 33) F w ds_107 h dX12_keep_33 (fun S5 H locs h w => ?_)
      refine s_nm h (fun z6 ez6 h => ?_)
      refine lv_iinc (pc := 34) (v := z6) (lv' := [(1, .int z6), (0, .ref (ad 14))]) hx hb dX12_keep_34 hl (k := 1) rfl (by rw [ez6]; rfl) (by decide) rfl (fun ls hl => ?_)
      refine lv_goto (pc := 37) (tgt := 11) hx hb dX12_keep_37 (by decide) ?_
      exact ih _ _ h _ _ _ w (lv_sub hl [1, 0] rfl)
set_option maxRecDepth 100000 in
set_option maxHeartbeats 4000000 in
theorem m_X12_keep  (S S' : SS) (h : f_X12_keep  S = some S') : MT yX12_keep cX12_keep 2 none 1 23 (fun ad => [.ref (ad 14)]) S none S' := by
  refine MT.of RX12 (fun ad => [(0, .ref (ad 14))]) (by decide) rfl (fun _ => Nat.le_of_ble_eq_true rfl) (fun _ => rfl) ?_
  intro p l e R s m args below meth c dC dI cs ad A hR1 hR2 F H locs ls w hl
  have hx := F.1.1
  have hb := F.1.2.1
  rw [f_X12_keep] at h
  refine lv_aload_n (pc := 0) hx hb dX12_keep_0 rfl (lv_at hl 0 rfl) ?_
  refine s_getI (pc := 1) F w ds_14 (j := 60) vc_X12 vi_X12 rfl (by decide) kf_X12_328 dX12_keep_1 ?_
  refine lv_bipush (pc := 4) (v := 8) hx hb dX12_keep_4 (by decide) ?_
  refine lv_icmp_ne (pc := 6) (tgt := 50) hx hb dX12_keep_6 (by decide) (fun q => ?_) (fun q => ?_)
  · have h := ite_f q h
    exact w_X12_keep_j50 F (Nat.le_trans (by decide) hR1) (Nat.le_trans (by decide) hR2)  _ h _ _ _ w (lv_sub hl [0] rfl)
  · have h := ite_t q h
    refine lv_iconst (pc := 9) (v := 0) hx hb dX12_keep_9 (by decide) ?_
    refine lv_istore_n (pc := 10) (lv' := [(1, .int (0 : Int32)), (0, .ref (ad 14))]) hx hb dX12_keep_10 rfl hl (by decide) rfl (fun ls hl => ?_)
    exact w_X12_keep_L11 F (Nat.le_trans (by decide) hR1) (Nat.le_trans (by decide) hR2) _ _ _ h _ _ _ w (lv_sub hl [1, 0] rfl)
