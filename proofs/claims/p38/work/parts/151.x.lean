def f_History_goBack  (S : SS) : Option (Int32 × SS) :=
  if (S.1 64 6) = 0 then
    some ((0 : Int32), S)
  else
    wr S 64 6 ((S.1 64 6) - (1 : Int32)) (fun S1 =>
    wr S1 64 7 ((S1.1 64 7) + (1 : Int32)) (fun S2 =>
    bndv (f_History_exchange  S2) (fun S3 =>
    some ((1 : Int32), S3))))
theorem dX1_goBack_0 : decode cX1_goBack 0 = .ok (.aload_n 0, 1) := dc_42 (by decide +kernel)
theorem dX1_goBack_1 : decode cX1_goBack 1 = .ok (.getfield 35, 3) := dc_180 (a := 0) (b := 35) (by decide +kernel)
theorem dX1_goBack_4 : decode cX1_goBack 4 = .ok (.ifCond .ne 5, 3) := dc_154 (a := 0) (b := 5) (by decide +kernel) (by decide)
theorem dX1_goBack_7 : decode cX1_goBack 7 = .ok (.iconst 0, 1) := dc_3 (by decide +kernel)
theorem dX1_goBack_8 : decode cX1_goBack 8 = .ok (.ireturn, 1) := dc_172 (by decide +kernel)
theorem dX1_goBack_9 : decode cX1_goBack 9 = .ok (.aload_n 0, 1) := dc_42 (by decide +kernel)
theorem dX1_goBack_10 : decode cX1_goBack 10 = .ok (.dup, 1) := dc_89 (by decide +kernel)
theorem dX1_goBack_11 : decode cX1_goBack 11 = .ok (.getfield 35, 3) := dc_180 (a := 0) (b := 35) (by decide +kernel)
theorem dX1_goBack_14 : decode cX1_goBack 14 = .ok (.iconst 1, 1) := dc_4 (by decide +kernel)
theorem dX1_goBack_15 : decode cX1_goBack 15 = .ok (.isub, 1) := dc_100 (by decide +kernel)
theorem dX1_goBack_16 : decode cX1_goBack 16 = .ok (.putfield 35, 3) := dc_181 (a := 0) (b := 35) (by decide +kernel)
theorem dX1_goBack_19 : decode cX1_goBack 19 = .ok (.aload_n 0, 1) := dc_42 (by decide +kernel)
theorem dX1_goBack_20 : decode cX1_goBack 20 = .ok (.dup, 1) := dc_89 (by decide +kernel)
theorem dX1_goBack_21 : decode cX1_goBack 21 = .ok (.getfield 38, 3) := dc_180 (a := 0) (b := 38) (by decide +kernel)
theorem dX1_goBack_24 : decode cX1_goBack 24 = .ok (.iconst 1, 1) := dc_4 (by decide +kernel)
theorem dX1_goBack_25 : decode cX1_goBack 25 = .ok (.iadd, 1) := dc_96 (by decide +kernel)
theorem dX1_goBack_26 : decode cX1_goBack 26 = .ok (.putfield 38, 3) := dc_181 (a := 0) (b := 38) (by decide +kernel)
theorem dX1_goBack_29 : decode cX1_goBack 29 = .ok (.aload_n 0, 1) := dc_42 (by decide +kernel)
theorem dX1_goBack_30 : decode cX1_goBack 30 = .ok (.aload_n 1, 1) := dc_43 (by decide +kernel)
theorem dX1_goBack_31 : decode cX1_goBack 31 = .ok (.invokevirtual 57, 3) := dc_182 (a := 0) (b := 57) (by decide +kernel)
theorem dX1_goBack_34 : decode cX1_goBack 34 = .ok (.iconst 1, 1) := dc_4 (by decide +kernel)
theorem dX1_goBack_35 : decode cX1_goBack 35 = .ok (.ireturn, 1) := dc_172 (by decide +kernel)
set_option maxRecDepth 100000 in
set_option maxHeartbeats 4000000 in
theorem m_History_goBack  (S S' : SS) (r : Int32) (h : f_History_goBack  S = some (r, S')) : MX yX1_goBack cX1_goBack 2 (some .boolean) 2 42 (fun ad => [.ref (ad 64), .ref (ad 63)]) S (some (.int r)) S' 0 0 := by
  refine MX.of RX1 (fun ad => [(0, .ref (ad 64)), (1, .ref (ad 63))]) (by decide) rfl (fun _ => Nat.le_of_ble_eq_true rfl) (fun _ => rfl) ?_
  intro p l e R s m args below meth c dC dI cs ad A hR1 hR2 hRc hRs F H locs ls hA w hl
  have hx := F.1.1
  have hb := F.1.2.1
  rw [f_History_goBack] at h
  refine lv_aload_n (pc := 0) hx hb dX1_goBack_0 rfl (lv_at hl 0 rfl) ?_
  refine s_getI (pc := 1) F w ds_64 (j := 6) vc_X1 vi_X1 rfl (by decide) kf_X1_35 dX1_goBack_1 ?_
  refine lv_if_ne (pc := 4) (tgt := 9) hx hb dX1_goBack_4 (by decide) (fun q => ?_) (fun q => ?_)
  · have h := ite_f q h
    refine lv_aload_n (pc := 9) hx hb dX1_goBack_9 rfl (lv_at hl 0 rfl) ?_
    refine lv_dup (pc := 10) hx hb dX1_goBack_10 rfl ?_
    refine s_getI (pc := 11) F w ds_64 (j := 6) vc_X1 vi_X1 rfl (by decide) kf_X1_35 dX1_goBack_11 ?_
    refine lv_iconst (pc := 14) (v := 1) hx hb dX1_goBack_14 (by decide) ?_
    refine lv_isub (pc := 15) hx hb dX1_goBack_15 ?_
    refine s_putI (pc := 16) F w ds_64 vc_X1 vi_X1 tyX1_ok nmX1 (j := 6) rfl (by decide) kf_X1_35 rfl pd_I h dX1_goBack_16 (fun S1 H locs h w => ?_)
    refine lv_aload_n (pc := 19) hx hb dX1_goBack_19 rfl (lv_at hl 0 rfl) ?_
    refine lv_dup (pc := 20) hx hb dX1_goBack_20 rfl ?_
    refine s_getI (pc := 21) F w ds_64 (j := 7) vc_X1 vi_X1 rfl (by decide) kf_X1_38 dX1_goBack_21 ?_
    refine lv_iconst (pc := 24) (v := 1) hx hb dX1_goBack_24 (by decide) ?_
    refine lv_iadd (pc := 25) hx hb dX1_goBack_25 ?_
    refine s_putI (pc := 26) F w ds_64 vc_X1 vi_X1 tyX1_ok nmX1 (j := 7) rfl (by decide) kf_X1_38 rfl pd_I h dX1_goBack_26 (fun S2 H locs h w => ?_)
    refine lv_aload_n (pc := 29) hx hb dX1_goBack_29 rfl (lv_at hl 0 rfl) ?_
    refine lv_aload_n (pc := 30) hx hb dX1_goBack_30 rfl (lv_at hl 1 rfl) ?_
    obtain ⟨S3, hc, h⟩ := bndv_t h
    have hM := m_History_exchange  _ _ hc
    refine s_cxv (pc := 31) [.ref (ad 63)] (fun ad => [.ref (ad 64), .ref (ad 63)]) F w hM rfl rfl hl.1 ds_64 vc_X1 rfl ok_X1_exchange rfl kc_X1_exchange kl_X1_57 ki_X1_exchange kv_X1_exchange kn_X1 ⟨Nat.le_trans (by decide) hR1, Nat.le_trans (by decide) hR2⟩ ⟨by rw [Nat.zero_add]; exact hRc, by rw [Nat.zero_add]; exact hRs⟩ (Nat.le_of_ble_eq_true rfl) dX1_goBack_31 (fun ad1 H locs hQ w => ?_)
    have hA := hA.tr hQ
    have hl : lv_has ls 2 [(0, .ref (ad1 64)), (1, .ref (ad1 63))] := by rw [hQ 63 (by decide), hQ 64 (by decide)]; exact hl
    refine lv_iconst (pc := 34) (v := 1) hx hb dX1_goBack_34 (by decide) ?_
    exact s_zretcX F w hA ⟨Nat.le_of_eq (Nat.zero_add _), Nat.le_of_eq (Nat.zero_add _)⟩ rfl h dX1_goBack_35
  · have h := ite_t q h
    refine lv_iconst (pc := 7) (v := 0) hx hb dX1_goBack_7 (by decide) ?_
    exact s_zretcX F w hA ⟨Nat.zero_le _, Nat.zero_le _⟩ rfl h dX1_goBack_8
def f_Yard_undo  (S : SS) : Option (Int32 × SS) :=
  bnd (f_History_goBack  S) (fun r2 S1 =>
  if r2 = 0 then
    some ((0 : Int32), S1)
  else
    some ((1 : Int32), S1))
theorem dX11_undo_0 : decode cX11_undo 0 = .ok (.aload_n 0, 1) := dc_42 (by decide +kernel)
theorem dX11_undo_1 : decode cX11_undo 1 = .ok (.getfield 26, 3) := dc_180 (a := 0) (b := 26) (by decide +kernel)
theorem dX11_undo_4 : decode cX11_undo 4 = .ok (.aload_n 0, 1) := dc_42 (by decide +kernel)
theorem dX11_undo_5 : decode cX11_undo 5 = .ok (.getfield 19, 3) := dc_180 (a := 0) (b := 19) (by decide +kernel)
theorem dX11_undo_8 : decode cX11_undo 8 = .ok (.invokevirtual 395, 3) := dc_182 (a := 1) (b := 139) (by decide +kernel)
theorem dX11_undo_11 : decode cX11_undo 11 = .ok (.ifCond .eq 7, 3) := dc_153 (a := 0) (b := 7) (by decide +kernel) (by decide)
theorem dX11_undo_14 : decode cX11_undo 14 = .ok (.iconst 1, 1) := dc_4 (by decide +kernel)
theorem dX11_undo_15 : decode cX11_undo 15 = .ok (.goto 4, 3) := dc_167 (a := 0) (b := 4) (by decide +kernel) (by decide)
theorem dX11_undo_18 : decode cX11_undo 18 = .ok (.iconst 0, 1) := dc_3 (by decide +kernel)
theorem dX11_undo_19 : decode cX11_undo 19 = .ok (.ireturn, 1) := dc_172 (by decide +kernel)
set_option maxRecDepth 100000 in
set_option maxHeartbeats 4000000 in
theorem m_Yard_undo  (S S' : SS) (r : Int32) (h : f_Yard_undo  S = some (r, S')) : MX yX11_undo cX11_undo 1 (some .int) 3 63 (fun ad => [.ref (ad 61)]) S (some (.int r)) S' 0 0 := by
  refine MX.of RX11 (fun ad => [(0, .ref (ad 61))]) (by decide) rfl (fun _ => Nat.le_of_ble_eq_true rfl) (fun _ => rfl) ?_
  intro p l e R s m args below meth c dC dI cs ad A hR1 hR2 hRc hRs F H locs ls hA w hl
  have hx := F.1.1
  have hb := F.1.2.1
  rw [f_Yard_undo] at h
  refine lv_aload_n (pc := 0) hx hb dX11_undo_0 rfl (lv_at hl 0 rfl) ?_
  refine s_getR (pc := 1) F w 64 ds_61 (j := 2) vc_X11 vi_X11 rfl (by decide) kf_X11_26 dX11_undo_1 ?_
  refine lv_aload_n (pc := 4) hx hb dX11_undo_4 rfl (lv_at hl 0 rfl) ?_
  refine s_getR (pc := 5) F w 63 ds_61 (j := 1) vc_X11 vi_X11 rfl (by decide) kf_X11_19 dX11_undo_5 ?_
  obtain ⟨r2, S1, hc, h⟩ := bnd_t h
  have hM := m_History_goBack  _ _ _ hc
  refine s_cxi (pc := 8) [.ref (ad 63)] (fun ad => [.ref (ad 64), .ref (ad 63)]) F w hM rfl rfl hl.1 ds_64 vc_X1 rfl ok_X1_goBack rfl kc_X1_goBack kl_X11_395 ki_X1_goBack kv_X1_goBack kn_X1 ⟨Nat.le_trans (by decide) hR1, Nat.le_trans (by decide) hR2⟩ ⟨by rw [Nat.zero_add]; exact hRc, by rw [Nat.zero_add]; exact hRs⟩ (Nat.le_of_ble_eq_true rfl) dX11_undo_8 (fun ad1 H locs hQ w => ?_)
  have hA := hA.tr hQ
  have hl : lv_has ls 1 [(0, .ref (ad1 61))] := by rw [hQ 61 (by decide)]; exact hl
  refine lv_if_eq (pc := 11) (tgt := 18) hx hb dX11_undo_11 (by decide) (fun q => ?_) (fun q => ?_)
  · have h := ite_t q h
    refine lv_iconst (pc := 18) (v := 0) hx hb dX11_undo_18 (by decide) ?_
    exact s_iretX F w hA ⟨Nat.le_of_eq (Nat.zero_add _), Nat.le_of_eq (Nat.zero_add _)⟩ h dX11_undo_19
  · have h := ite_f q h
    refine lv_iconst (pc := 14) (v := 1) hx hb dX11_undo_14 (by decide) ?_
    refine lv_goto (pc := 15) (tgt := 19) hx hb dX11_undo_15 (by decide) ?_
    exact s_iretX F w hA ⟨Nat.le_of_eq (Nat.zero_add _), Nat.le_of_eq (Nat.zero_add _)⟩ h dX11_undo_19
def f_History_goOn  (S : SS) : Option (Int32 × SS) :=
  if (S.1 64 7) = 0 then
    some ((0 : Int32), S)
  else
    bndv (f_History_exchange  S) (fun S1 =>
    wr S1 64 7 ((S1.1 64 7) - (1 : Int32)) (fun S2 =>
    wr S2 64 6 ((S2.1 64 6) + (1 : Int32)) (fun S3 =>
    some ((1 : Int32), S3))))
theorem dX1_goOn_0 : decode cX1_goOn 0 = .ok (.aload_n 0, 1) := dc_42 (by decide +kernel)
theorem dX1_goOn_1 : decode cX1_goOn 1 = .ok (.getfield 38, 3) := dc_180 (a := 0) (b := 38) (by decide +kernel)
theorem dX1_goOn_4 : decode cX1_goOn 4 = .ok (.ifCond .ne 5, 3) := dc_154 (a := 0) (b := 5) (by decide +kernel) (by decide)
theorem dX1_goOn_7 : decode cX1_goOn 7 = .ok (.iconst 0, 1) := dc_3 (by decide +kernel)
theorem dX1_goOn_8 : decode cX1_goOn 8 = .ok (.ireturn, 1) := dc_172 (by decide +kernel)
theorem dX1_goOn_9 : decode cX1_goOn 9 = .ok (.aload_n 0, 1) := dc_42 (by decide +kernel)
theorem dX1_goOn_10 : decode cX1_goOn 10 = .ok (.aload_n 1, 1) := dc_43 (by decide +kernel)
theorem dX1_goOn_11 : decode cX1_goOn 11 = .ok (.invokevirtual 57, 3) := dc_182 (a := 0) (b := 57) (by decide +kernel)
theorem dX1_goOn_14 : decode cX1_goOn 14 = .ok (.aload_n 0, 1) := dc_42 (by decide +kernel)
theorem dX1_goOn_15 : decode cX1_goOn 15 = .ok (.dup, 1) := dc_89 (by decide +kernel)
theorem dX1_goOn_16 : decode cX1_goOn 16 = .ok (.getfield 38, 3) := dc_180 (a := 0) (b := 38) (by decide +kernel)
theorem dX1_goOn_19 : decode cX1_goOn 19 = .ok (.iconst 1, 1) := dc_4 (by decide +kernel)
theorem dX1_goOn_20 : decode cX1_goOn 20 = .ok (.isub, 1) := dc_100 (by decide +kernel)
theorem dX1_goOn_21 : decode cX1_goOn 21 = .ok (.putfield 38, 3) := dc_181 (a := 0) (b := 38) (by decide +kernel)
theorem dX1_goOn_24 : decode cX1_goOn 24 = .ok (.aload_n 0, 1) := dc_42 (by decide +kernel)
theorem dX1_goOn_25 : decode cX1_goOn 25 = .ok (.dup, 1) := dc_89 (by decide +kernel)
theorem dX1_goOn_26 : decode cX1_goOn 26 = .ok (.getfield 35, 3) := dc_180 (a := 0) (b := 35) (by decide +kernel)
theorem dX1_goOn_29 : decode cX1_goOn 29 = .ok (.iconst 1, 1) := dc_4 (by decide +kernel)
theorem dX1_goOn_30 : decode cX1_goOn 30 = .ok (.iadd, 1) := dc_96 (by decide +kernel)
theorem dX1_goOn_31 : decode cX1_goOn 31 = .ok (.putfield 35, 3) := dc_181 (a := 0) (b := 35) (by decide +kernel)
theorem dX1_goOn_34 : decode cX1_goOn 34 = .ok (.iconst 1, 1) := dc_4 (by decide +kernel)
theorem dX1_goOn_35 : decode cX1_goOn 35 = .ok (.ireturn, 1) := dc_172 (by decide +kernel)
set_option maxRecDepth 100000 in
set_option maxHeartbeats 4000000 in
theorem m_History_goOn  (S S' : SS) (r : Int32) (h : f_History_goOn  S = some (r, S')) : MX yX1_goOn cX1_goOn 2 (some .boolean) 2 42 (fun ad => [.ref (ad 64), .ref (ad 63)]) S (some (.int r)) S' 0 0 := by
  refine MX.of RX1 (fun ad => [(0, .ref (ad 64)), (1, .ref (ad 63))]) (by decide) rfl (fun _ => Nat.le_of_ble_eq_true rfl) (fun _ => rfl) ?_
  intro p l e R s m args below meth c dC dI cs ad A hR1 hR2 hRc hRs F H locs ls hA w hl
  have hx := F.1.1
  have hb := F.1.2.1
  rw [f_History_goOn] at h
  refine lv_aload_n (pc := 0) hx hb dX1_goOn_0 rfl (lv_at hl 0 rfl) ?_
  refine s_getI (pc := 1) F w ds_64 (j := 7) vc_X1 vi_X1 rfl (by decide) kf_X1_38 dX1_goOn_1 ?_
  refine lv_if_ne (pc := 4) (tgt := 9) hx hb dX1_goOn_4 (by decide) (fun q => ?_) (fun q => ?_)
  · have h := ite_f q h
    refine lv_aload_n (pc := 9) hx hb dX1_goOn_9 rfl (lv_at hl 0 rfl) ?_
    refine lv_aload_n (pc := 10) hx hb dX1_goOn_10 rfl (lv_at hl 1 rfl) ?_
    obtain ⟨S1, hc, h⟩ := bndv_t h
    have hM := m_History_exchange  _ _ hc
    refine s_cxv (pc := 11) [.ref (ad 63)] (fun ad => [.ref (ad 64), .ref (ad 63)]) F w hM rfl rfl hl.1 ds_64 vc_X1 rfl ok_X1_exchange rfl kc_X1_exchange kl_X1_57 ki_X1_exchange kv_X1_exchange kn_X1 ⟨Nat.le_trans (by decide) hR1, Nat.le_trans (by decide) hR2⟩ ⟨by rw [Nat.zero_add]; exact hRc, by rw [Nat.zero_add]; exact hRs⟩ (Nat.le_of_ble_eq_true rfl) dX1_goOn_11 (fun ad1 H locs hQ w => ?_)
    have hA := hA.tr hQ
    have hl : lv_has ls 2 [(0, .ref (ad1 64)), (1, .ref (ad1 63))] := by rw [hQ 63 (by decide), hQ 64 (by decide)]; exact hl
    refine lv_aload_n (pc := 14) hx hb dX1_goOn_14 rfl (lv_at hl 0 rfl) ?_
    refine lv_dup (pc := 15) hx hb dX1_goOn_15 rfl ?_
    refine s_getI (pc := 16) F w ds_64 (j := 7) vc_X1 vi_X1 rfl (by decide) kf_X1_38 dX1_goOn_16 ?_
    refine lv_iconst (pc := 19) (v := 1) hx hb dX1_goOn_19 (by decide) ?_
    refine lv_isub (pc := 20) hx hb dX1_goOn_20 ?_
    refine s_putI (pc := 21) F w ds_64 vc_X1 vi_X1 tyX1_ok nmX1 (j := 7) rfl (by decide) kf_X1_38 rfl pd_I h dX1_goOn_21 (fun S2 H locs h w => ?_)
    refine lv_aload_n (pc := 24) hx hb dX1_goOn_24 rfl (lv_at hl 0 rfl) ?_
    refine lv_dup (pc := 25) hx hb dX1_goOn_25 rfl ?_
    refine s_getI (pc := 26) F w ds_64 (j := 6) vc_X1 vi_X1 rfl (by decide) kf_X1_35 dX1_goOn_26 ?_
    refine lv_iconst (pc := 29) (v := 1) hx hb dX1_goOn_29 (by decide) ?_
    refine lv_iadd (pc := 30) hx hb dX1_goOn_30 ?_
    refine s_putI (pc := 31) F w ds_64 vc_X1 vi_X1 tyX1_ok nmX1 (j := 6) rfl (by decide) kf_X1_35 rfl pd_I h dX1_goOn_31 (fun S3 H locs h w => ?_)
    refine lv_iconst (pc := 34) (v := 1) hx hb dX1_goOn_34 (by decide) ?_
    exact s_zretcX F w hA ⟨Nat.le_of_eq (Nat.zero_add _), Nat.le_of_eq (Nat.zero_add _)⟩ rfl h dX1_goOn_35
  · have h := ite_t q h
    refine lv_iconst (pc := 7) (v := 0) hx hb dX1_goOn_7 (by decide) ?_
    exact s_zretcX F w hA ⟨Nat.zero_le _, Nat.zero_le _⟩ rfl h dX1_goOn_8
def f_Yard_back  (S : SS) : Option (Int32 × SS) :=
  bnd (f_History_goOn  S) (fun r2 S1 =>
  if r2 = 0 then
    some ((0 : Int32), S1)
  else
    some ((1 : Int32), S1))
theorem dX11_back_0 : decode cX11_back 0 = .ok (.aload_n 0, 1) := dc_42 (by decide +kernel)
theorem dX11_back_1 : decode cX11_back 1 = .ok (.getfield 26, 3) := dc_180 (a := 0) (b := 26) (by decide +kernel)
theorem dX11_back_4 : decode cX11_back 4 = .ok (.aload_n 0, 1) := dc_42 (by decide +kernel)
theorem dX11_back_5 : decode cX11_back 5 = .ok (.getfield 19, 3) := dc_180 (a := 0) (b := 19) (by decide +kernel)
theorem dX11_back_8 : decode cX11_back 8 = .ok (.invokevirtual 399, 3) := dc_182 (a := 1) (b := 143) (by decide +kernel)
theorem dX11_back_11 : decode cX11_back 11 = .ok (.ifCond .eq 7, 3) := dc_153 (a := 0) (b := 7) (by decide +kernel) (by decide)
theorem dX11_back_14 : decode cX11_back 14 = .ok (.iconst 1, 1) := dc_4 (by decide +kernel)
theorem dX11_back_15 : decode cX11_back 15 = .ok (.goto 4, 3) := dc_167 (a := 0) (b := 4) (by decide +kernel) (by decide)
theorem dX11_back_18 : decode cX11_back 18 = .ok (.iconst 0, 1) := dc_3 (by decide +kernel)
theorem dX11_back_19 : decode cX11_back 19 = .ok (.ireturn, 1) := dc_172 (by decide +kernel)
set_option maxRecDepth 100000 in
set_option maxHeartbeats 4000000 in
theorem m_Yard_back  (S S' : SS) (r : Int32) (h : f_Yard_back  S = some (r, S')) : MX yX11_back cX11_back 1 (some .int) 3 63 (fun ad => [.ref (ad 61)]) S (some (.int r)) S' 0 0 := by
  refine MX.of RX11 (fun ad => [(0, .ref (ad 61))]) (by decide) rfl (fun _ => Nat.le_of_ble_eq_true rfl) (fun _ => rfl) ?_
  intro p l e R s m args below meth c dC dI cs ad A hR1 hR2 hRc hRs F H locs ls hA w hl
  have hx := F.1.1
  have hb := F.1.2.1
  rw [f_Yard_back] at h
  refine lv_aload_n (pc := 0) hx hb dX11_back_0 rfl (lv_at hl 0 rfl) ?_
  refine s_getR (pc := 1) F w 64 ds_61 (j := 2) vc_X11 vi_X11 rfl (by decide) kf_X11_26 dX11_back_1 ?_
  refine lv_aload_n (pc := 4) hx hb dX11_back_4 rfl (lv_at hl 0 rfl) ?_
  refine s_getR (pc := 5) F w 63 ds_61 (j := 1) vc_X11 vi_X11 rfl (by decide) kf_X11_19 dX11_back_5 ?_
  obtain ⟨r2, S1, hc, h⟩ := bnd_t h
  have hM := m_History_goOn  _ _ _ hc
  refine s_cxi (pc := 8) [.ref (ad 63)] (fun ad => [.ref (ad 64), .ref (ad 63)]) F w hM rfl rfl hl.1 ds_64 vc_X1 rfl ok_X1_goOn rfl kc_X1_goOn kl_X11_399 ki_X1_goOn kv_X1_goOn kn_X1 ⟨Nat.le_trans (by decide) hR1, Nat.le_trans (by decide) hR2⟩ ⟨by rw [Nat.zero_add]; exact hRc, by rw [Nat.zero_add]; exact hRs⟩ (Nat.le_of_ble_eq_true rfl) dX11_back_8 (fun ad1 H locs hQ w => ?_)
  have hA := hA.tr hQ
  have hl : lv_has ls 1 [(0, .ref (ad1 61))] := by rw [hQ 61 (by decide)]; exact hl
  refine lv_if_eq (pc := 11) (tgt := 18) hx hb dX11_back_11 (by decide) (fun q => ?_) (fun q => ?_)
  · have h := ite_t q h
    refine lv_iconst (pc := 18) (v := 0) hx hb dX11_back_18 (by decide) ?_
    exact s_iretX F w hA ⟨Nat.le_of_eq (Nat.zero_add _), Nat.le_of_eq (Nat.zero_add _)⟩ h dX11_back_19
  · have h := ite_f q h
    refine lv_iconst (pc := 14) (v := 1) hx hb dX11_back_14 (by decide) ?_
    refine lv_goto (pc := 15) (tgt := 19) hx hb dX11_back_15 (by decide) ?_
    exact s_iretX F w hA ⟨Nat.le_of_eq (Nat.zero_add _), Nat.le_of_eq (Nat.zero_add _)⟩ h dX11_back_19
def f_Plans_isSmall  (S : SS) : Option (Int32 × SS) :=
  bnd (f_Stacks_members_start  S) (fun r2 S1 =>
  bnd (f_Integer_bitCount_0f7a4 r2 S1) (fun r4 S3 =>
  if (5 : Int32) < r4 then
    some ((0 : Int32), S3)
  else
    some ((1 : Int32), S3)))
theorem dX3_isSmall_0 : decode cX3_isSmall 0 = .ok (.aload_n 0, 1) := dc_42 (by decide +kernel)
theorem dX3_isSmall_1 : decode cX3_isSmall 1 = .ok (.getfield 12, 3) := dc_180 (a := 0) (b := 12) (by decide +kernel)
theorem dX3_isSmall_4 : decode cX3_isSmall 4 = .ok (.invokevirtual 65, 3) := dc_182 (a := 0) (b := 65) (by decide +kernel)
theorem dX3_isSmall_7 : decode cX3_isSmall 7 = .ok (.invokestatic 69, 3) := dc_184 (a := 0) (b := 69) (by decide +kernel)
theorem dX3_isSmall_10 : decode cX3_isSmall 10 = .ok (.iconst 5, 1) := dc_8 (by decide +kernel)
theorem dX3_isSmall_11 : decode cX3_isSmall 11 = .ok (.if_icmp .gt 7, 3) := dc_163 (a := 0) (b := 7) (by decide +kernel) (by decide)
theorem dX3_isSmall_14 : decode cX3_isSmall 14 = .ok (.iconst 1, 1) := dc_4 (by decide +kernel)
theorem dX3_isSmall_15 : decode cX3_isSmall 15 = .ok (.goto 4, 3) := dc_167 (a := 0) (b := 4) (by decide +kernel) (by decide)
theorem dX3_isSmall_18 : decode cX3_isSmall 18 = .ok (.iconst 0, 1) := dc_3 (by decide +kernel)
theorem dX3_isSmall_19 : decode cX3_isSmall 19 = .ok (.ireturn, 1) := dc_172 (by decide +kernel)
set_option maxRecDepth 100000 in
set_option maxHeartbeats 4000000 in
theorem m_Plans_isSmall  (S S' : SS) (r : Int32) (h : f_Plans_isSmall  S = some (r, S')) : MT yX3_isSmall cX3_isSmall 1 (some .boolean) 2 46 (fun ad => [.ref (ad 70)]) S (some (.int r)) S' := by
  refine MT.of RX3 (fun ad => [(0, .ref (ad 70))]) (by decide) rfl (fun _ => Nat.le_of_ble_eq_true rfl) (fun _ => rfl) ?_
  intro p l e R s m args below meth c dC dI cs ad A hR1 hR2 F H locs ls w hl
  have hx := F.1.1
  have hb := F.1.2.1
  rw [f_Plans_isSmall] at h
  refine lv_aload_n (pc := 0) hx hb dX3_isSmall_0 rfl (lv_at hl 0 rfl) ?_
  refine s_getR (pc := 1) F w 72 ds_70 (j := 0) vc_X3 vi_X3 rfl (by decide) kf_X3_12 dX3_isSmall_1 ?_
  obtain ⟨r2, S1, hc, h⟩ := bnd_t h
  refine s_cvi (pc := 4) [] (fun ad => [.ref (ad 72)]) F w (m_Stacks_members_start  _ _ _ hc) rfl rfl hl.1 ds_72 vc_X7 rfl ok_X7_members rfl kc_X7_members kl_X3_65 ki_X7_members kv_X7_members kn_X7 ⟨Nat.le_trans (by decide) hR1, Nat.le_trans (by decide) hR2⟩ ⟨Nat.zero_le _, Nat.zero_le _⟩ (Nat.le_of_ble_eq_true rfl) dX3_isSmall_4 (fun H locs w => ?_)
  obtain ⟨r4, S3, hc, h⟩ := bnd_t h
  refine s_csi (pc := 7) [.int r2] (fun ad => [.int r2]) F w (m_Integer_bitCount_0f7a4 _ _ _ _ hc) rfl rfl hl.1 ok_J6_bitCount_0f7a4 rfl kc_J6_bitCount_0f7a4 kl_X3_69 ks_J6_bitCount_0f7a4 kn_J6 ⟨Nat.le_trans (by decide) hR1, Nat.le_trans (by decide) hR2⟩ ⟨Nat.zero_le _, Nat.zero_le _⟩ (Nat.le_of_ble_eq_true rfl) dX3_isSmall_7 (fun H locs w => ?_)
  refine lv_iconst (pc := 10) (v := 5) hx hb dX3_isSmall_10 (by decide) ?_
  refine lv_icmp_gt (pc := 11) (tgt := 18) hx hb dX3_isSmall_11 (by decide) (fun q => ?_) (fun q => ?_)
  · have h := ite_t q h
    refine lv_iconst (pc := 18) (v := 0) hx hb dX3_isSmall_18 (by decide) ?_
    exact s_zretc F w rfl h dX3_isSmall_19
  · have h := ite_f q h
    refine lv_iconst (pc := 14) (v := 1) hx hb dX3_isSmall_14 (by decide) ?_
    refine lv_goto (pc := 15) (tgt := 19) hx hb dX3_isSmall_15 (by decide) ?_
    exact s_zretc F w rfl h dX3_isSmall_19
def f_Potentials_growRows  (S : SS) : Option (SS) :=
  if (Int32.ofNat (S.2 120)) < ((S.1 71 6) * (S.1 71 7)) then
    grd (decide (S.2 200 = 1)) (grd (nwok ((S.1 71 6) * (S.1 71 7)) 6720) (gwr S 120 ((S.1 71 6) * (S.1 71 7)).toNatClampNeg (fun S1 =>
    grd (nwok ((S1.1 71 6) * (S1.1 71 7)) 6720) (gwr S1 121 ((S1.1 71 6) * (S1.1 71 7)).toNatClampNeg (fun S3 =>
    grd (nwok ((S3.1 71 6) * (20 : Int32)) 2400) (gwr S3 115 ((S3.1 71 6) * (20 : Int32)).toNatClampNeg (fun S5 =>
    grd (nwok ((S5.1 71 7) * (4 : Int32)) 224) (gwr S5 114 ((S5.1 71 7) * (4 : Int32)).toNatClampNeg (fun S7 =>
    grd (nwok ((S7.1 71 7) + (1 : Int32)) 57) (gwr S7 116 ((S7.1 71 7) + (1 : Int32)).toNatClampNeg (fun S9 =>
    nm (((S9.1 71 7) * (S9.1 71 5)) * (3 : Int32)) (fun z11 =>
    grd (nwok z11 840) (gwr S9 117 z11.toNatClampNeg (fun S12 =>
    grd (nwok z11 840) (gwr S12 118 z11.toNatClampNeg (fun S14 =>
    grd (nwok z11 840) (gwr S14 119 z11.toNatClampNeg (fun S16 =>
    some S16))))))))))))))))))
  else
    some S
theorem dX4_growRows_0 : decode cX4_growRows 0 = .ok (.aload_n 0, 1) := dc_42 (by decide +kernel)
theorem dX4_growRows_1 : decode cX4_growRows 1 = .ok (.getfield 57, 3) := dc_180 (a := 0) (b := 57) (by decide +kernel)
theorem dX4_growRows_4 : decode cX4_growRows 4 = .ok (.arraylength, 1) := dc_190 (by decide +kernel)
theorem dX4_growRows_5 : decode cX4_growRows 5 = .ok (.aload_n 0, 1) := dc_42 (by decide +kernel)
theorem dX4_growRows_6 : decode cX4_growRows 6 = .ok (.getfield 33, 3) := dc_180 (a := 0) (b := 33) (by decide +kernel)
theorem dX4_growRows_9 : decode cX4_growRows 9 = .ok (.aload_n 0, 1) := dc_42 (by decide +kernel)
theorem dX4_growRows_10 : decode cX4_growRows 10 = .ok (.getfield 36, 3) := dc_180 (a := 0) (b := 36) (by decide +kernel)
theorem dX4_growRows_13 : decode cX4_growRows 13 = .ok (.imul, 1) := dc_104 (by decide +kernel)
theorem dX4_growRows_14 : decode cX4_growRows 14 = .ok (.if_icmp .lt 4, 3) := dc_161 (a := 0) (b := 4) (by decide +kernel) (by decide)
theorem dX4_growRows_17 : decode cX4_growRows 17 = .ok (.return_, 1) := dc_177 (by decide +kernel)
theorem dX4_growRows_18 : decode cX4_growRows 18 = .ok (.aload_n 0, 1) := dc_42 (by decide +kernel)
theorem dX4_growRows_19 : decode cX4_growRows 19 = .ok (.aload_n 0, 1) := dc_42 (by decide +kernel)
theorem dX4_growRows_20 : decode cX4_growRows 20 = .ok (.getfield 33, 3) := dc_180 (a := 0) (b := 33) (by decide +kernel)
theorem dX4_growRows_23 : decode cX4_growRows 23 = .ok (.aload_n 0, 1) := dc_42 (by decide +kernel)
theorem dX4_growRows_24 : decode cX4_growRows 24 = .ok (.getfield 36, 3) := dc_180 (a := 0) (b := 36) (by decide +kernel)
theorem dX4_growRows_27 : decode cX4_growRows 27 = .ok (.imul, 1) := dc_104 (by decide +kernel)
theorem dX4_growRows_28 : decode cX4_growRows 28 = .ok (.newarray .int, 2) := dc_188_10 (by decide +kernel)
theorem dX4_growRows_30 : decode cX4_growRows 30 = .ok (.putfield 57, 3) := dc_181 (a := 0) (b := 57) (by decide +kernel)
theorem dX4_growRows_33 : decode cX4_growRows 33 = .ok (.aload_n 0, 1) := dc_42 (by decide +kernel)
theorem dX4_growRows_34 : decode cX4_growRows 34 = .ok (.aload_n 0, 1) := dc_42 (by decide +kernel)
theorem dX4_growRows_35 : decode cX4_growRows 35 = .ok (.getfield 33, 3) := dc_180 (a := 0) (b := 33) (by decide +kernel)
theorem dX4_growRows_38 : decode cX4_growRows 38 = .ok (.aload_n 0, 1) := dc_42 (by decide +kernel)
theorem dX4_growRows_39 : decode cX4_growRows 39 = .ok (.getfield 36, 3) := dc_180 (a := 0) (b := 36) (by decide +kernel)
theorem dX4_growRows_42 : decode cX4_growRows 42 = .ok (.imul, 1) := dc_104 (by decide +kernel)
theorem dX4_growRows_43 : decode cX4_growRows 43 = .ok (.newarray .int, 2) := dc_188_10 (by decide +kernel)
theorem dX4_growRows_45 : decode cX4_growRows 45 = .ok (.putfield 60, 3) := dc_181 (a := 0) (b := 60) (by decide +kernel)
theorem dX4_growRows_48 : decode cX4_growRows 48 = .ok (.aload_n 0, 1) := dc_42 (by decide +kernel)
theorem dX4_growRows_49 : decode cX4_growRows 49 = .ok (.aload_n 0, 1) := dc_42 (by decide +kernel)
theorem dX4_growRows_50 : decode cX4_growRows 50 = .ok (.getfield 33, 3) := dc_180 (a := 0) (b := 33) (by decide +kernel)
theorem dX4_growRows_53 : decode cX4_growRows 53 = .ok (.bipush 20, 2) := dc_16 (a := 20) (by decide +kernel) (by decide)
theorem dX4_growRows_55 : decode cX4_growRows 55 = .ok (.imul, 1) := dc_104 (by decide +kernel)
theorem dX4_growRows_56 : decode cX4_growRows 56 = .ok (.newarray .int, 2) := dc_188_10 (by decide +kernel)
theorem dX4_growRows_58 : decode cX4_growRows 58 = .ok (.putfield 42, 3) := dc_181 (a := 0) (b := 42) (by decide +kernel)
theorem dX4_growRows_61 : decode cX4_growRows 61 = .ok (.aload_n 0, 1) := dc_42 (by decide +kernel)
theorem dX4_growRows_62 : decode cX4_growRows 62 = .ok (.aload_n 0, 1) := dc_42 (by decide +kernel)
theorem dX4_growRows_63 : decode cX4_growRows 63 = .ok (.getfield 36, 3) := dc_180 (a := 0) (b := 36) (by decide +kernel)
theorem dX4_growRows_66 : decode cX4_growRows 66 = .ok (.iconst 4, 1) := dc_7 (by decide +kernel)
theorem dX4_growRows_67 : decode cX4_growRows 67 = .ok (.imul, 1) := dc_104 (by decide +kernel)
theorem dX4_growRows_68 : decode cX4_growRows 68 = .ok (.newarray .int, 2) := dc_188_10 (by decide +kernel)
theorem dX4_growRows_70 : decode cX4_growRows 70 = .ok (.putfield 39, 3) := dc_181 (a := 0) (b := 39) (by decide +kernel)
theorem dX4_growRows_73 : decode cX4_growRows 73 = .ok (.aload_n 0, 1) := dc_42 (by decide +kernel)
theorem dX4_growRows_74 : decode cX4_growRows 74 = .ok (.aload_n 0, 1) := dc_42 (by decide +kernel)
theorem dX4_growRows_75 : decode cX4_growRows 75 = .ok (.getfield 36, 3) := dc_180 (a := 0) (b := 36) (by decide +kernel)
theorem dX4_growRows_78 : decode cX4_growRows 78 = .ok (.iconst 1, 1) := dc_4 (by decide +kernel)
theorem dX4_growRows_79 : decode cX4_growRows 79 = .ok (.iadd, 1) := dc_96 (by decide +kernel)
theorem dX4_growRows_80 : decode cX4_growRows 80 = .ok (.newarray .int, 2) := dc_188_10 (by decide +kernel)
theorem dX4_growRows_82 : decode cX4_growRows 82 = .ok (.putfield 45, 3) := dc_181 (a := 0) (b := 45) (by decide +kernel)
theorem dX4_growRows_85 : decode cX4_growRows 85 = .ok (.aload_n 0, 1) := dc_42 (by decide +kernel)
theorem dX4_growRows_86 : decode cX4_growRows 86 = .ok (.getfield 36, 3) := dc_180 (a := 0) (b := 36) (by decide +kernel)
theorem dX4_growRows_89 : decode cX4_growRows 89 = .ok (.aload_n 0, 1) := dc_42 (by decide +kernel)
theorem dX4_growRows_90 : decode cX4_growRows 90 = .ok (.getfield 29, 3) := dc_180 (a := 0) (b := 29) (by decide +kernel)
theorem dX4_growRows_93 : decode cX4_growRows 93 = .ok (.imul, 1) := dc_104 (by decide +kernel)
theorem dX4_growRows_94 : decode cX4_growRows 94 = .ok (.iconst 3, 1) := dc_6 (by decide +kernel)
theorem dX4_growRows_95 : decode cX4_growRows 95 = .ok (.imul, 1) := dc_104 (by decide +kernel)
theorem dX4_growRows_96 : decode cX4_growRows 96 = .ok (.istore_n 1, 1) := dc_60 (by decide +kernel)
theorem dX4_growRows_97 : decode cX4_growRows 97 = .ok (.aload_n 0, 1) := dc_42 (by decide +kernel)
theorem dX4_growRows_98 : decode cX4_growRows 98 = .ok (.iload_n 1, 1) := dc_27 (by decide +kernel)
theorem dX4_growRows_99 : decode cX4_growRows 99 = .ok (.newarray .int, 2) := dc_188_10 (by decide +kernel)
theorem dX4_growRows_101 : decode cX4_growRows 101 = .ok (.putfield 48, 3) := dc_181 (a := 0) (b := 48) (by decide +kernel)
theorem dX4_growRows_104 : decode cX4_growRows 104 = .ok (.aload_n 0, 1) := dc_42 (by decide +kernel)
theorem dX4_growRows_105 : decode cX4_growRows 105 = .ok (.iload_n 1, 1) := dc_27 (by decide +kernel)
theorem dX4_growRows_106 : decode cX4_growRows 106 = .ok (.newarray .int, 2) := dc_188_10 (by decide +kernel)
theorem dX4_growRows_108 : decode cX4_growRows 108 = .ok (.putfield 51, 3) := dc_181 (a := 0) (b := 51) (by decide +kernel)
theorem dX4_growRows_111 : decode cX4_growRows 111 = .ok (.aload_n 0, 1) := dc_42 (by decide +kernel)
theorem dX4_growRows_112 : decode cX4_growRows 112 = .ok (.iload_n 1, 1) := dc_27 (by decide +kernel)
theorem dX4_growRows_113 : decode cX4_growRows 113 = .ok (.newarray .int, 2) := dc_188_10 (by decide +kernel)
theorem dX4_growRows_115 : decode cX4_growRows 115 = .ok (.putfield 54, 3) := dc_181 (a := 0) (b := 54) (by decide +kernel)
theorem dX4_growRows_118 : decode cX4_growRows 118 = .ok (.return_, 1) := dc_177 (by decide +kernel)
set_option maxRecDepth 100000 in
set_option maxHeartbeats 4000000 in
theorem m_Potentials_growRows  (S S' : SS) (h : f_Potentials_growRows  S = some S') : MX yX4_growRows cX4_growRows 2 none 0 0 (fun ad => [.ref (ad 71)]) S none S' (8 * S.2 200) (18641 * S.2 200) := by
  refine MX.of RX4 (fun ad => [(0, .ref (ad 71))]) (by decide) rfl (fun _ => Nat.le_of_ble_eq_true rfl) (fun _ => rfl) ?_
  intro p l e R s m args below meth c dC dI cs ad A hR1 hR2 hRc hRs F H locs ls hA w hl
  have hx := F.1.1
  have hb := F.1.2.1
  rw [f_Potentials_growRows] at h
  refine lv_aload_n (pc := 0) hx hb dX4_growRows_0 rfl (lv_at hl 0 rfl) ?_
  refine s_getR (pc := 1) F w 120 ds_71 (j := 14) vc_X4 vi_X4 rfl (by decide) kf_X4_57 dX4_growRows_1 ?_
  refine s_alen (pc := 4) F w ds_120 dX4_growRows_4 ?_
  show W _ _ _ _ _ _ _ _ _ _ _ _ _ _ _ (F0 _ _ _ (.int (Int32.ofNat (S.2 120)) :: _))
  refine lv_aload_n (pc := 5) hx hb dX4_growRows_5 rfl (lv_at hl 0 rfl) ?_
  refine s_getI (pc := 6) F w ds_71 (j := 6) vc_X4 vi_X4 rfl (by decide) kf_X4_33 dX4_growRows_6 ?_
  refine lv_aload_n (pc := 9) hx hb dX4_growRows_9 rfl (lv_at hl 0 rfl) ?_
  refine s_getI (pc := 10) F w ds_71 (j := 7) vc_X4 vi_X4 rfl (by decide) kf_X4_36 dX4_growRows_10 ?_
  refine lv_imul (pc := 13) hx hb dX4_growRows_13 ?_
  refine lv_icmp_lt (pc := 14) (tgt := 18) hx hb dX4_growRows_14 (by decide) (fun q => ?_) (fun q => ?_)
  · have h := ite_t q h
    refine lv_aload_n (pc := 18) hx hb dX4_growRows_18 rfl (lv_at hl 0 rfl) ?_
    refine lv_aload_n (pc := 19) hx hb dX4_growRows_19 rfl (lv_at hl 0 rfl) ?_
    refine s_getI (pc := 20) F w ds_71 (j := 6) vc_X4 vi_X4 rfl (by decide) kf_X4_33 dX4_growRows_20 ?_
    refine lv_aload_n (pc := 23) hx hb dX4_growRows_23 rfl (lv_at hl 0 rfl) ?_
    refine s_getI (pc := 24) F w ds_71 (j := 7) vc_X4 vi_X4 rfl (by decide) kf_X4_36 dX4_growRows_24 ?_
    refine lv_imul (pc := 27) hx hb dX4_growRows_27 ?_
    obtain ⟨hg, h⟩ := grd_t h
    have hg := of_decide_eq_true hg
    rw [hg] at hRc hRs
    refine s_newput (pc := 28) F w 6720 ds_71 vc_X4 vi_X4 tyX4_ok nmX4 (j := 14) rfl (by decide) ds_120 (by decide) (by decide +kernel) (by decide) kf_X4_57 rfl pd_A kx_arr (by decide) h (by omega) (fun k hk => by omega) dX4_growRows_28 dX4_growRows_30 (fun q2 S1 H locs hN1 _ h w => ?_)
    have hA := hA.tr (adu_R ad 120 q2 (by decide))
    have hl : lv_has ls 2 [(0, .ref ((adu ad 120 q2) 71))] := by rw [show (adu ad 120 q2) 71 = ad 71 from if_neg (by decide)]; exact hl
    generalize adu ad 120 q2 = ad1 at hA w hl
    refine lv_aload_n (pc := 33) hx hb dX4_growRows_33 rfl (lv_at hl 0 rfl) ?_
    refine lv_aload_n (pc := 34) hx hb dX4_growRows_34 rfl (lv_at hl 0 rfl) ?_
    refine s_getI (pc := 35) F w ds_71 (j := 6) vc_X4 vi_X4 rfl (by decide) kf_X4_33 dX4_growRows_35 ?_
    refine lv_aload_n (pc := 38) hx hb dX4_growRows_38 rfl (lv_at hl 0 rfl) ?_
    refine s_getI (pc := 39) F w ds_71 (j := 7) vc_X4 vi_X4 rfl (by decide) kf_X4_36 dX4_growRows_39 ?_
    refine lv_imul (pc := 42) hx hb dX4_growRows_42 ?_
    refine s_newput (pc := 43) F w 6720 ds_71 vc_X4 vi_X4 tyX4_ok nmX4 (j := 15) rfl (by decide) ds_121 (by decide) (by decide +kernel) (by decide) kf_X4_60 rfl pd_A kx_arr (by decide) h (by omega) (fun k hk => by omega) dX4_growRows_43 dX4_growRows_45 (fun q4 S3 H locs hN2 _ h w => ?_)
    have hA := hA.tr (adu_R ad1 121 q4 (by decide))
    have hl : lv_has ls 2 [(0, .ref ((adu ad1 121 q4) 71))] := by rw [show (adu ad1 121 q4) 71 = ad1 71 from if_neg (by decide)]; exact hl
    generalize adu ad1 121 q4 = ad2 at hA w hl
    refine lv_aload_n (pc := 48) hx hb dX4_growRows_48 rfl (lv_at hl 0 rfl) ?_
    refine lv_aload_n (pc := 49) hx hb dX4_growRows_49 rfl (lv_at hl 0 rfl) ?_
    refine s_getI (pc := 50) F w ds_71 (j := 6) vc_X4 vi_X4 rfl (by decide) kf_X4_33 dX4_growRows_50 ?_
    refine lv_bipush (pc := 53) (v := 20) hx hb dX4_growRows_53 (by decide) ?_
    refine lv_imul (pc := 55) hx hb dX4_growRows_55 ?_
    refine s_newput (pc := 56) F w 2400 ds_71 vc_X4 vi_X4 tyX4_ok nmX4 (j := 9) rfl (by decide) ds_115 (by decide) (by decide +kernel) (by decide) kf_X4_42 rfl pd_A kx_arr (by decide) h (by omega) (fun k hk => by omega) dX4_growRows_56 dX4_growRows_58 (fun q6 S5 H locs hN3 _ h w => ?_)
    have hA := hA.tr (adu_R ad2 115 q6 (by decide))
    have hl : lv_has ls 2 [(0, .ref ((adu ad2 115 q6) 71))] := by rw [show (adu ad2 115 q6) 71 = ad2 71 from if_neg (by decide)]; exact hl
    generalize adu ad2 115 q6 = ad3 at hA w hl
    refine lv_aload_n (pc := 61) hx hb dX4_growRows_61 rfl (lv_at hl 0 rfl) ?_
    refine lv_aload_n (pc := 62) hx hb dX4_growRows_62 rfl (lv_at hl 0 rfl) ?_
    refine s_getI (pc := 63) F w ds_71 (j := 7) vc_X4 vi_X4 rfl (by decide) kf_X4_36 dX4_growRows_63 ?_
    refine lv_iconst (pc := 66) (v := 4) hx hb dX4_growRows_66 (by decide) ?_
    refine lv_imul (pc := 67) hx hb dX4_growRows_67 ?_
    refine s_newput (pc := 68) F w 224 ds_71 vc_X4 vi_X4 tyX4_ok nmX4 (j := 8) rfl (by decide) ds_114 (by decide) (by decide +kernel) (by decide) kf_X4_39 rfl pd_A kx_arr (by decide) h (by omega) (fun k hk => by omega) dX4_growRows_68 dX4_growRows_70 (fun q8 S7 H locs hN4 _ h w => ?_)
    have hA := hA.tr (adu_R ad3 114 q8 (by decide))
    have hl : lv_has ls 2 [(0, .ref ((adu ad3 114 q8) 71))] := by rw [show (adu ad3 114 q8) 71 = ad3 71 from if_neg (by decide)]; exact hl
    generalize adu ad3 114 q8 = ad4 at hA w hl
    refine lv_aload_n (pc := 73) hx hb dX4_growRows_73 rfl (lv_at hl 0 rfl) ?_
    refine lv_aload_n (pc := 74) hx hb dX4_growRows_74 rfl (lv_at hl 0 rfl) ?_
    refine s_getI (pc := 75) F w ds_71 (j := 7) vc_X4 vi_X4 rfl (by decide) kf_X4_36 dX4_growRows_75 ?_
    refine lv_iconst (pc := 78) (v := 1) hx hb dX4_growRows_78 (by decide) ?_
    refine lv_iadd (pc := 79) hx hb dX4_growRows_79 ?_
    refine s_newput (pc := 80) F w 57 ds_71 vc_X4 vi_X4 tyX4_ok nmX4 (j := 10) rfl (by decide) ds_116 (by decide) (by decide +kernel) (by decide) kf_X4_45 rfl pd_A kx_arr (by decide) h (by omega) (fun k hk => by omega) dX4_growRows_80 dX4_growRows_82 (fun q10 S9 H locs hN5 _ h w => ?_)
    have hA := hA.tr (adu_R ad4 116 q10 (by decide))
    have hl : lv_has ls 2 [(0, .ref ((adu ad4 116 q10) 71))] := by rw [show (adu ad4 116 q10) 71 = ad4 71 from if_neg (by decide)]; exact hl
    generalize adu ad4 116 q10 = ad5 at hA w hl
    refine lv_aload_n (pc := 85) hx hb dX4_growRows_85 rfl (lv_at hl 0 rfl) ?_
    refine s_getI (pc := 86) F w ds_71 (j := 7) vc_X4 vi_X4 rfl (by decide) kf_X4_36 dX4_growRows_86 ?_
    refine lv_aload_n (pc := 89) hx hb dX4_growRows_89 rfl (lv_at hl 0 rfl) ?_
    refine s_getI (pc := 90) F w ds_71 (j := 5) vc_X4 vi_X4 rfl (by decide) kf_X4_29 dX4_growRows_90 ?_
    refine lv_imul (pc := 93) hx hb dX4_growRows_93 ?_
    refine lv_iconst (pc := 94) (v := 3) hx hb dX4_growRows_94 (by decide) ?_
    refine lv_imul (pc := 95) hx hb dX4_growRows_95 ?_
    refine s_nm h (fun z11 ez11 h => ?_)
    rw [← ez11]
    refine lv_istore_n (pc := 96) (lv' := [(1, .int z11), (0, .ref (ad5 71))]) hx hb dX4_growRows_96 rfl hl (by decide) rfl (fun ls hl => ?_)
    refine lv_aload_n (pc := 97) hx hb dX4_growRows_97 rfl (lv_at hl 1 rfl) ?_
    refine lv_iload_n (pc := 98) hx hb dX4_growRows_98 rfl (lv_at hl 0 rfl) ?_
    refine s_newput (pc := 99) F w 840 ds_71 vc_X4 vi_X4 tyX4_ok nmX4 (j := 11) rfl (by decide) ds_117 (by decide) (by decide +kernel) (by decide) kf_X4_48 rfl pd_A kx_arr (by decide) h (by omega) (fun k hk => by omega) dX4_growRows_99 dX4_growRows_101 (fun q13 S12 H locs hN6 _ h w => ?_)
    have hA := hA.tr (adu_R ad5 117 q13 (by decide))
    have hl : lv_has ls 2 [(1, .int z11), (0, .ref ((adu ad5 117 q13) 71))] := by rw [show (adu ad5 117 q13) 71 = ad5 71 from if_neg (by decide)]; exact hl
    generalize adu ad5 117 q13 = ad6 at hA w hl
    refine lv_aload_n (pc := 104) hx hb dX4_growRows_104 rfl (lv_at hl 1 rfl) ?_
    refine lv_iload_n (pc := 105) hx hb dX4_growRows_105 rfl (lv_at hl 0 rfl) ?_
    refine s_newput (pc := 106) F w 840 ds_71 vc_X4 vi_X4 tyX4_ok nmX4 (j := 12) rfl (by decide) ds_118 (by decide) (by decide +kernel) (by decide) kf_X4_51 rfl pd_A kx_arr (by decide) h (by omega) (fun k hk => by omega) dX4_growRows_106 dX4_growRows_108 (fun q15 S14 H locs hN7 _ h w => ?_)
    have hA := hA.tr (adu_R ad6 118 q15 (by decide))
    have hl : lv_has ls 2 [(1, .int z11), (0, .ref ((adu ad6 118 q15) 71))] := by rw [show (adu ad6 118 q15) 71 = ad6 71 from if_neg (by decide)]; exact hl
    generalize adu ad6 118 q15 = ad7 at hA w hl
    refine lv_aload_n (pc := 111) hx hb dX4_growRows_111 rfl (lv_at hl 1 rfl) ?_
    refine lv_iload_n (pc := 112) hx hb dX4_growRows_112 rfl (lv_at hl 0 rfl) ?_
    refine s_newput (pc := 113) F w 840 ds_71 vc_X4 vi_X4 tyX4_ok nmX4 (j := 13) rfl (by decide) ds_119 (by decide) (by decide +kernel) (by decide) kf_X4_54 rfl pd_A kx_arr (by decide) h (by omega) (fun k hk => by omega) dX4_growRows_113 dX4_growRows_115 (fun q17 S16 H locs hN8 _ h w => ?_)
    have hA := hA.tr (adu_R ad7 119 q17 (by decide))
    have hl : lv_has ls 2 [(1, .int z11), (0, .ref ((adu ad7 119 q17) 71))] := by rw [show (adu ad7 119 q17) 71 = ad7 71 from if_neg (by decide)]; exact hl
    generalize adu ad7 119 q17 = ad8 at hA w hl
    exact s_vretX F w hA ⟨by omega, by omega⟩ h dX4_growRows_118
  · have h := ite_f q h
    exact s_vretX F w hA ⟨by omega, by omega⟩ h dX4_growRows_17
def f_Potentials_listShapes_L25 (K14 : Int32 → Int32 → Int32 → SS → Option (SS)) : Nat → Int32 → Int32 → Int32 → Int32 → SS → Option (SS)
  | 0, _, _, _, _, _ => none
  | n + 1, x1, x2, x3, x4, S =>
    if (S.1 71 5) < x4 then
      nm (x3 + (1 : Int32)) (fun z2 =>
      K14 x1 x2 z2 S)
    else
      grd (inb ((4 : Int32) * x1) (S.2 114)) (wr S 114 ((4 : Int32) * x1).toNatClampNeg x2 (fun S3 =>
      grd (inb (((4 : Int32) * x1) + (1 : Int32)) (S3.2 114)) (wr S3 114 (((4 : Int32) * x1) + (1 : Int32)).toNatClampNeg x3 (fun S4 =>
      grd (inb (((4 : Int32) * x1) + (2 : Int32)) (S4.2 114)) (wr S4 114 (((4 : Int32) * x1) + (2 : Int32)).toNatClampNeg x4 (fun S5 =>
      grd (inb (((4 : Int32) * x1) + (3 : Int32)) (S5.2 114)) (wr S5 114 (((4 : Int32) * x1) + (3 : Int32)).toNatClampNeg (S5.1 71 5) (fun S6 =>
      bnd (f_Potentials_keyWith (0 : Int32) (0 : Int32) x2 S6) (fun r8 S7 =>
      bnd (f_Potentials_keyWith r8 (1 : Int32) x3 S7) (fun r10 S9 =>
      bnd (f_Potentials_keyWith r10 (2 : Int32) x4 S9) (fun r12 S11 =>
      grd (inb r12 216) (wr S11 113 r12.toNatClampNeg x1 (fun S13 =>
      nm (x1 + (1 : Int32)) (fun z14 =>
      nm (x4 + (1 : Int32)) (fun z15 =>
      f_Potentials_listShapes_L25 K14 n z14 x2 x3 z15 S13)))))))))))))))
def f_Potentials_listShapes_L14 (K4 : Int32 → Int32 → SS → Option (SS)) : Nat → Int32 → Int32 → Int32 → SS → Option (SS)
  | 0, _, _, _, _ => none
  | n + 1, x1, x2, x3, S =>
    if (S.1 71 5) < x3 then
      nm (x2 + (1 : Int32)) (fun z1 =>
      K4 x1 z1 S)
    else
      f_Potentials_listShapes_L25 (fun v0 v1 v2 S => f_Potentials_listShapes_L14 K4 n v0 v1 v2 S) NF x1 x2 x3 x3 S
def f_Potentials_listShapes_L4  : Nat → Int32 → Int32 → SS → Option (SS)
  | 0, _, _, _ => none
  | n + 1, x1, x2, S =>
    if (S.1 71 5) < x2 then
      some S
    else
      f_Potentials_listShapes_L14 (fun v0 v1 S => f_Potentials_listShapes_L4 n v0 v1 S) NF x1 x2 x2 S
def f_Potentials_listShapes  (S : SS) : Option (SS) :=
  f_Potentials_listShapes_L4 NF (0 : Int32) (0 : Int32) S
theorem dX4_listShapes_0 : decode cX4_listShapes 0 = .ok (.iconst 0, 1) := dc_3 (by decide +kernel)
theorem dX4_listShapes_1 : decode cX4_listShapes 1 = .ok (.istore_n 1, 1) := dc_60 (by decide +kernel)
theorem dX4_listShapes_2 : decode cX4_listShapes 2 = .ok (.iconst 0, 1) := dc_3 (by decide +kernel)
theorem dX4_listShapes_3 : decode cX4_listShapes 3 = .ok (.istore_n 2, 1) := dc_61 (by decide +kernel)
theorem dX4_listShapes_4 : decode cX4_listShapes 4 = .ok (.iload_n 2, 1) := dc_28 (by decide +kernel)
theorem dX4_listShapes_5 : decode cX4_listShapes 5 = .ok (.aload_n 0, 1) := dc_42 (by decide +kernel)
theorem dX4_listShapes_6 : decode cX4_listShapes 6 = .ok (.getfield 29, 3) := dc_180 (a := 0) (b := 29) (by decide +kernel)
theorem dX4_listShapes_9 : decode cX4_listShapes 9 = .ok (.if_icmp .gt 115, 3) := dc_163 (a := 0) (b := 115) (by decide +kernel) (by decide)
theorem dX4_listShapes_12 : decode cX4_listShapes 12 = .ok (.iload_n 2, 1) := dc_28 (by decide +kernel)
theorem dX4_listShapes_13 : decode cX4_listShapes 13 = .ok (.istore_n 3, 1) := dc_62 (by decide +kernel)
theorem dX4_listShapes_14 : decode cX4_listShapes 14 = .ok (.iload_n 3, 1) := dc_29 (by decide +kernel)
theorem dX4_listShapes_15 : decode cX4_listShapes 15 = .ok (.aload_n 0, 1) := dc_42 (by decide +kernel)
theorem dX4_listShapes_16 : decode cX4_listShapes 16 = .ok (.getfield 29, 3) := dc_180 (a := 0) (b := 29) (by decide +kernel)
theorem dX4_listShapes_19 : decode cX4_listShapes 19 = .ok (.if_icmp .gt 99, 3) := dc_163 (a := 0) (b := 99) (by decide +kernel) (by decide)
theorem dX4_listShapes_22 : decode cX4_listShapes 22 = .ok (.iload_n 3, 1) := dc_29 (by decide +kernel)
theorem dX4_listShapes_23 : decode cX4_listShapes 23 = .ok (.istore 4, 2) := dc_54 (a := 4) (by decide +kernel)
theorem dX4_listShapes_25 : decode cX4_listShapes 25 = .ok (.iload 4, 2) := dc_21 (a := 4) (by decide +kernel)
theorem dX4_listShapes_27 : decode cX4_listShapes 27 = .ok (.aload_n 0, 1) := dc_42 (by decide +kernel)
theorem dX4_listShapes_28 : decode cX4_listShapes 28 = .ok (.getfield 29, 3) := dc_180 (a := 0) (b := 29) (by decide +kernel)
theorem dX4_listShapes_31 : decode cX4_listShapes 31 = .ok (.if_icmp .gt 81, 3) := dc_163 (a := 0) (b := 81) (by decide +kernel) (by decide)
theorem dX4_listShapes_34 : decode cX4_listShapes 34 = .ok (.aload_n 0, 1) := dc_42 (by decide +kernel)
theorem dX4_listShapes_35 : decode cX4_listShapes 35 = .ok (.getfield 39, 3) := dc_180 (a := 0) (b := 39) (by decide +kernel)
theorem dX4_listShapes_38 : decode cX4_listShapes 38 = .ok (.iconst 4, 1) := dc_7 (by decide +kernel)
theorem dX4_listShapes_39 : decode cX4_listShapes 39 = .ok (.iload_n 1, 1) := dc_27 (by decide +kernel)
theorem dX4_listShapes_40 : decode cX4_listShapes 40 = .ok (.imul, 1) := dc_104 (by decide +kernel)
theorem dX4_listShapes_41 : decode cX4_listShapes 41 = .ok (.iload_n 2, 1) := dc_28 (by decide +kernel)
theorem dX4_listShapes_42 : decode cX4_listShapes 42 = .ok (.iastore, 1) := dc_79 (by decide +kernel)
theorem dX4_listShapes_43 : decode cX4_listShapes 43 = .ok (.aload_n 0, 1) := dc_42 (by decide +kernel)
theorem dX4_listShapes_44 : decode cX4_listShapes 44 = .ok (.getfield 39, 3) := dc_180 (a := 0) (b := 39) (by decide +kernel)
theorem dX4_listShapes_47 : decode cX4_listShapes 47 = .ok (.iconst 4, 1) := dc_7 (by decide +kernel)
theorem dX4_listShapes_48 : decode cX4_listShapes 48 = .ok (.iload_n 1, 1) := dc_27 (by decide +kernel)
theorem dX4_listShapes_49 : decode cX4_listShapes 49 = .ok (.imul, 1) := dc_104 (by decide +kernel)
theorem dX4_listShapes_50 : decode cX4_listShapes 50 = .ok (.iconst 1, 1) := dc_4 (by decide +kernel)
theorem dX4_listShapes_51 : decode cX4_listShapes 51 = .ok (.iadd, 1) := dc_96 (by decide +kernel)
theorem dX4_listShapes_52 : decode cX4_listShapes 52 = .ok (.iload_n 3, 1) := dc_29 (by decide +kernel)
theorem dX4_listShapes_53 : decode cX4_listShapes 53 = .ok (.iastore, 1) := dc_79 (by decide +kernel)
theorem dX4_listShapes_54 : decode cX4_listShapes 54 = .ok (.aload_n 0, 1) := dc_42 (by decide +kernel)
theorem dX4_listShapes_55 : decode cX4_listShapes 55 = .ok (.getfield 39, 3) := dc_180 (a := 0) (b := 39) (by decide +kernel)
theorem dX4_listShapes_58 : decode cX4_listShapes 58 = .ok (.iconst 4, 1) := dc_7 (by decide +kernel)
theorem dX4_listShapes_59 : decode cX4_listShapes 59 = .ok (.iload_n 1, 1) := dc_27 (by decide +kernel)
theorem dX4_listShapes_60 : decode cX4_listShapes 60 = .ok (.imul, 1) := dc_104 (by decide +kernel)
theorem dX4_listShapes_61 : decode cX4_listShapes 61 = .ok (.iconst 2, 1) := dc_5 (by decide +kernel)
theorem dX4_listShapes_62 : decode cX4_listShapes 62 = .ok (.iadd, 1) := dc_96 (by decide +kernel)
theorem dX4_listShapes_63 : decode cX4_listShapes 63 = .ok (.iload 4, 2) := dc_21 (a := 4) (by decide +kernel)
theorem dX4_listShapes_65 : decode cX4_listShapes 65 = .ok (.iastore, 1) := dc_79 (by decide +kernel)
theorem dX4_listShapes_66 : decode cX4_listShapes 66 = .ok (.aload_n 0, 1) := dc_42 (by decide +kernel)
theorem dX4_listShapes_67 : decode cX4_listShapes 67 = .ok (.getfield 39, 3) := dc_180 (a := 0) (b := 39) (by decide +kernel)
theorem dX4_listShapes_70 : decode cX4_listShapes 70 = .ok (.iconst 4, 1) := dc_7 (by decide +kernel)
theorem dX4_listShapes_71 : decode cX4_listShapes 71 = .ok (.iload_n 1, 1) := dc_27 (by decide +kernel)
theorem dX4_listShapes_72 : decode cX4_listShapes 72 = .ok (.imul, 1) := dc_104 (by decide +kernel)
theorem dX4_listShapes_73 : decode cX4_listShapes 73 = .ok (.iconst 3, 1) := dc_6 (by decide +kernel)
theorem dX4_listShapes_74 : decode cX4_listShapes 74 = .ok (.iadd, 1) := dc_96 (by decide +kernel)
theorem dX4_listShapes_75 : decode cX4_listShapes 75 = .ok (.aload_n 0, 1) := dc_42 (by decide +kernel)
theorem dX4_listShapes_76 : decode cX4_listShapes 76 = .ok (.getfield 29, 3) := dc_180 (a := 0) (b := 29) (by decide +kernel)
theorem dX4_listShapes_79 : decode cX4_listShapes 79 = .ok (.iastore, 1) := dc_79 (by decide +kernel)
theorem dX4_listShapes_80 : decode cX4_listShapes 80 = .ok (.aload_n 0, 1) := dc_42 (by decide +kernel)
theorem dX4_listShapes_81 : decode cX4_listShapes 81 = .ok (.getfield 26, 3) := dc_180 (a := 0) (b := 26) (by decide +kernel)
theorem dX4_listShapes_84 : decode cX4_listShapes 84 = .ok (.iconst 0, 1) := dc_3 (by decide +kernel)
theorem dX4_listShapes_85 : decode cX4_listShapes 85 = .ok (.iconst 0, 1) := dc_3 (by decide +kernel)
theorem dX4_listShapes_86 : decode cX4_listShapes 86 = .ok (.iload_n 2, 1) := dc_28 (by decide +kernel)
theorem dX4_listShapes_87 : decode cX4_listShapes 87 = .ok (.invokestatic 75, 3) := dc_184 (a := 0) (b := 75) (by decide +kernel)
theorem dX4_listShapes_90 : decode cX4_listShapes 90 = .ok (.iconst 1, 1) := dc_4 (by decide +kernel)
theorem dX4_listShapes_91 : decode cX4_listShapes 91 = .ok (.iload_n 3, 1) := dc_29 (by decide +kernel)
theorem dX4_listShapes_92 : decode cX4_listShapes 92 = .ok (.invokestatic 75, 3) := dc_184 (a := 0) (b := 75) (by decide +kernel)
theorem dX4_listShapes_95 : decode cX4_listShapes 95 = .ok (.iconst 2, 1) := dc_5 (by decide +kernel)
theorem dX4_listShapes_96 : decode cX4_listShapes 96 = .ok (.iload 4, 2) := dc_21 (a := 4) (by decide +kernel)
theorem dX4_listShapes_98 : decode cX4_listShapes 98 = .ok (.invokestatic 75, 3) := dc_184 (a := 0) (b := 75) (by decide +kernel)
theorem dX4_listShapes_101 : decode cX4_listShapes 101 = .ok (.iload_n 1, 1) := dc_27 (by decide +kernel)
theorem dX4_listShapes_102 : decode cX4_listShapes 102 = .ok (.iastore, 1) := dc_79 (by decide +kernel)
theorem dX4_listShapes_103 : decode cX4_listShapes 103 = .ok (.iinc 1 1, 3) := dc_132 (a := 1) (b := 1) (by decide +kernel) (by decide)
theorem dX4_listShapes_106 : decode cX4_listShapes 106 = .ok (.iinc 4 1, 3) := dc_132 (a := 4) (b := 1) (by decide +kernel) (by decide)
theorem dX4_listShapes_109 : decode cX4_listShapes 109 = .ok (.goto (-84), 3) := dc_167 (a := 255) (b := 172) (by decide +kernel) (by decide)
theorem dX4_listShapes_112 : decode cX4_listShapes 112 = .ok (.iinc 3 1, 3) := dc_132 (a := 3) (b := 1) (by decide +kernel) (by decide)
theorem dX4_listShapes_115 : decode cX4_listShapes 115 = .ok (.goto (-101), 3) := dc_167 (a := 255) (b := 155) (by decide +kernel) (by decide)
theorem dX4_listShapes_118 : decode cX4_listShapes 118 = .ok (.iinc 2 1, 3) := dc_132 (a := 2) (b := 1) (by decide +kernel) (by decide)
theorem dX4_listShapes_121 : decode cX4_listShapes 121 = .ok (.goto (-117), 3) := dc_167 (a := 255) (b := 139) (by decide +kernel) (by decide)
theorem dX4_listShapes_124 : decode cX4_listShapes 124 = .ok (.return_, 1) := dc_177 (by decide +kernel)
set_option maxRecDepth 100000 in
set_option maxHeartbeats 4000000 in
theorem w_Potentials_listShapes_L25 {p : Program} {l : Launch} {e : Env} {R : Room} {s : State} {m : MethodId} {args : Array Value} {below : List Frame} {meth : Method} {c : Code} {dC : Nat → ClassId} {dI : Nat → Nat → Nat} {cs : Nat → ClassId} {ad : Nat → Nat} {A : Nat → Prop} {D0 : Nat → Nat} {S' : SS} (F : Fx p s m args meth c cX4_listShapes 5 RX4 none dC dI cs A) (hR1 : 1 ≤ R.frames) (hR2 : 22 ≤ R.locals) (K14 : Int32 → Int32 → Int32 → SS → Option (SS)) (hK14 : ∀ (v0 : Int32) (v1 : Int32) (v2 : Int32) (S : SS), K14 v0 v1 v2 S = some S' → AW p l e R s m args below meth c dC dI cs ad A D0 none S' 5 14 [(0, .ref (ad 71)), (1, .int v0), (2, .int v1), (3, .int v2)] [] S) : ∀ (n : Nat) (x1 : Int32) (x2 : Int32) (x3 : Int32) (x4 : Int32) (S : SS), f_Potentials_listShapes_L25 K14 n x1 x2 x3 x4 S = some S' → AW p l e R s m args below meth c dC dI cs ad A D0 none S' 5 25 [(0, .ref (ad 71)), (1, .int x1), (2, .int x2), (3, .int x3), (4, .int x4)] [] S := by
  have hx := F.1.1
  have hb := F.1.2.1
  intro n
  induction n with
  | zero => intro x1 x2 x3 x4 S h; cases h
  | succ n ih =>
    intro x1 x2 x3 x4 S h H locs ls w hl
    rw [f_Potentials_listShapes_L25] at h
    refine lv_iload (pc := 25) hx hb dX4_listShapes_25 (lv_at hl 4 rfl) ?_
    refine lv_aload_n (pc := 27) hx hb dX4_listShapes_27 rfl (lv_at hl 0 rfl) ?_
    refine s_getI (pc := 28) F w ds_71 (j := 5) vc_X4 vi_X4 rfl (by decide) kf_X4_29 dX4_listShapes_28 ?_
    refine lv_icmp_gt (pc := 31) (tgt := 112) hx hb dX4_listShapes_31 (by decide) (fun q => ?_) (fun q => ?_)
    · have h := ite_t q h
      refine s_nm h (fun z2 ez2 h => ?_)
      refine lv_iinc (pc := 112) (v := z2) (lv' := [(3, .int z2), (0, .ref (ad 71)), (1, .int x1), (2, .int x2), (4, .int x4)]) hx hb dX4_listShapes_112 hl (k := 3) rfl (by rw [ez2]; rfl) (by decide) rfl (fun ls hl => ?_)
      refine lv_goto (pc := 115) (tgt := 14) hx hb dX4_listShapes_115 (by decide) ?_
      exact hK14 _ _ _ _ h _ _ _ w (lv_sub hl [1, 2, 3, 0] rfl)
    · have h := ite_f q h
      refine lv_aload_n (pc := 34) hx hb dX4_listShapes_34 rfl (lv_at hl 0 rfl) ?_
      refine s_getR (pc := 35) F w 114 ds_71 (j := 8) vc_X4 vi_X4 rfl (by decide) kf_X4_39 dX4_listShapes_35 ?_
      refine lv_iconst (pc := 38) (v := 4) hx hb dX4_listShapes_38 (by decide) ?_
      refine lv_iload_n (pc := 39) hx hb dX4_listShapes_39 rfl (lv_at hl 1 rfl) ?_
      refine lv_imul (pc := 40) hx hb dX4_listShapes_40 ?_
      refine lv_iload_n (pc := 41) hx hb dX4_listShapes_41 rfl (lv_at hl 2 rfl) ?_
      refine s_iast (pc := 42) F w ds_114 h dX4_listShapes_42 (fun S3 H locs h w => ?_)
      refine lv_aload_n (pc := 43) hx hb dX4_listShapes_43 rfl (lv_at hl 0 rfl) ?_
      refine s_getR (pc := 44) F w 114 ds_71 (j := 8) vc_X4 vi_X4 rfl (by decide) kf_X4_39 dX4_listShapes_44 ?_
      refine lv_iconst (pc := 47) (v := 4) hx hb dX4_listShapes_47 (by decide) ?_
      refine lv_iload_n (pc := 48) hx hb dX4_listShapes_48 rfl (lv_at hl 1 rfl) ?_
      refine lv_imul (pc := 49) hx hb dX4_listShapes_49 ?_
      refine lv_iconst (pc := 50) (v := 1) hx hb dX4_listShapes_50 (by decide) ?_
      refine lv_iadd (pc := 51) hx hb dX4_listShapes_51 ?_
      refine lv_iload_n (pc := 52) hx hb dX4_listShapes_52 rfl (lv_at hl 3 rfl) ?_
      refine s_iast (pc := 53) F w ds_114 h dX4_listShapes_53 (fun S4 H locs h w => ?_)
      refine lv_aload_n (pc := 54) hx hb dX4_listShapes_54 rfl (lv_at hl 0 rfl) ?_
      refine s_getR (pc := 55) F w 114 ds_71 (j := 8) vc_X4 vi_X4 rfl (by decide) kf_X4_39 dX4_listShapes_55 ?_
      refine lv_iconst (pc := 58) (v := 4) hx hb dX4_listShapes_58 (by decide) ?_
      refine lv_iload_n (pc := 59) hx hb dX4_listShapes_59 rfl (lv_at hl 1 rfl) ?_
      refine lv_imul (pc := 60) hx hb dX4_listShapes_60 ?_
      refine lv_iconst (pc := 61) (v := 2) hx hb dX4_listShapes_61 (by decide) ?_
      refine lv_iadd (pc := 62) hx hb dX4_listShapes_62 ?_
      refine lv_iload (pc := 63) hx hb dX4_listShapes_63 (lv_at hl 4 rfl) ?_
      refine s_iast (pc := 65) F w ds_114 h dX4_listShapes_65 (fun S5 H locs h w => ?_)
      refine lv_aload_n (pc := 66) hx hb dX4_listShapes_66 rfl (lv_at hl 0 rfl) ?_
      refine s_getR (pc := 67) F w 114 ds_71 (j := 8) vc_X4 vi_X4 rfl (by decide) kf_X4_39 dX4_listShapes_67 ?_
      refine lv_iconst (pc := 70) (v := 4) hx hb dX4_listShapes_70 (by decide) ?_
      refine lv_iload_n (pc := 71) hx hb dX4_listShapes_71 rfl (lv_at hl 1 rfl) ?_
      refine lv_imul (pc := 72) hx hb dX4_listShapes_72 ?_
      refine lv_iconst (pc := 73) (v := 3) hx hb dX4_listShapes_73 (by decide) ?_
      refine lv_iadd (pc := 74) hx hb dX4_listShapes_74 ?_
      refine lv_aload_n (pc := 75) hx hb dX4_listShapes_75 rfl (lv_at hl 0 rfl) ?_
      refine s_getI (pc := 76) F w ds_71 (j := 5) vc_X4 vi_X4 rfl (by decide) kf_X4_29 dX4_listShapes_76 ?_
      refine s_iast (pc := 79) F w ds_114 h dX4_listShapes_79 (fun S6 H locs h w => ?_)
      refine lv_aload_n (pc := 80) hx hb dX4_listShapes_80 rfl (lv_at hl 0 rfl) ?_
      refine s_getR (pc := 81) F w 113 ds_71 (j := 4) vc_X4 vi_X4 rfl (by decide) kf_X4_26 dX4_listShapes_81 ?_
      refine lv_iconst (pc := 84) (v := 0) hx hb dX4_listShapes_84 (by decide) ?_
      refine lv_iconst (pc := 85) (v := 0) hx hb dX4_listShapes_85 (by decide) ?_
      refine lv_iload_n (pc := 86) hx hb dX4_listShapes_86 rfl (lv_at hl 2 rfl) ?_
      obtain ⟨r8, S7, hc, h⟩ := bnd_t h
      refine s_csi (pc := 87) [.int (0 : Int32), .int (0 : Int32), .int x2] (fun ad => [.int (0 : Int32), .int (0 : Int32), .int x2]) F w (m_Potentials_keyWith _ _ _ _ _ _ hc) rfl rfl hl.1 ok_X4_keyWith rfl kc_X4_keyWith kl_X4_75 ks_X4_keyWith kn_X4 ⟨Nat.le_trans (by decide) hR1, Nat.le_trans (by decide) hR2⟩ ⟨Nat.zero_le _, Nat.zero_le _⟩ (Nat.le_of_ble_eq_true rfl) dX4_listShapes_87 (fun H locs w => ?_)
      refine lv_iconst (pc := 90) (v := 1) hx hb dX4_listShapes_90 (by decide) ?_
      refine lv_iload_n (pc := 91) hx hb dX4_listShapes_91 rfl (lv_at hl 3 rfl) ?_
      obtain ⟨r10, S9, hc, h⟩ := bnd_t h
      refine s_csi (pc := 92) [.int r8, .int (1 : Int32), .int x3] (fun ad => [.int r8, .int (1 : Int32), .int x3]) F w (m_Potentials_keyWith _ _ _ _ _ _ hc) rfl rfl hl.1 ok_X4_keyWith rfl kc_X4_keyWith kl_X4_75 ks_X4_keyWith kn_X4 ⟨Nat.le_trans (by decide) hR1, Nat.le_trans (by decide) hR2⟩ ⟨Nat.zero_le _, Nat.zero_le _⟩ (Nat.le_of_ble_eq_true rfl) dX4_listShapes_92 (fun H locs w => ?_)
      refine lv_iconst (pc := 95) (v := 2) hx hb dX4_listShapes_95 (by decide) ?_
      refine lv_iload (pc := 96) hx hb dX4_listShapes_96 (lv_at hl 4 rfl) ?_
      obtain ⟨r12, S11, hc, h⟩ := bnd_t h
      refine s_csi (pc := 98) [.int r10, .int (2 : Int32), .int x4] (fun ad => [.int r10, .int (2 : Int32), .int x4]) F w (m_Potentials_keyWith _ _ _ _ _ _ hc) rfl rfl hl.1 ok_X4_keyWith rfl kc_X4_keyWith kl_X4_75 ks_X4_keyWith kn_X4 ⟨Nat.le_trans (by decide) hR1, Nat.le_trans (by decide) hR2⟩ ⟨Nat.zero_le _, Nat.zero_le _⟩ (Nat.le_of_ble_eq_true rfl) dX4_listShapes_98 (fun H locs w => ?_)
      refine lv_iload_n (pc := 101) hx hb dX4_listShapes_101 rfl (lv_at hl 1 rfl) ?_
      refine s_iast (pc := 102) F w ds_113 h dX4_listShapes_102 (fun S13 H locs h w => ?_)
      refine s_nm h (fun z14 ez14 h => ?_)
      refine lv_iinc (pc := 103) (v := z14) (lv' := [(1, .int z14), (0, .ref (ad 71)), (2, .int x2), (3, .int x3), (4, .int x4)]) hx hb dX4_listShapes_103 hl (k := 1) rfl (by rw [ez14]; rfl) (by decide) rfl (fun ls hl => ?_)
      refine s_nm h (fun z15 ez15 h => ?_)
      refine lv_iinc (pc := 106) (v := z15) (lv' := [(4, .int z15), (1, .int z14), (0, .ref (ad 71)), (2, .int x2), (3, .int x3)]) hx hb dX4_listShapes_106 hl (k := 4) rfl (by rw [ez15]; rfl) (by decide) rfl (fun ls hl => ?_)
      refine lv_goto (pc := 109) (tgt := 25) hx hb dX4_listShapes_109 (by decide) ?_
      exact ih _ _ _ _ _ h _ _ _ w (lv_sub hl [2, 1, 3, 4, 0] rfl)
set_option maxRecDepth 100000 in
set_option maxHeartbeats 4000000 in
theorem w_Potentials_listShapes_L14 {p : Program} {l : Launch} {e : Env} {R : Room} {s : State} {m : MethodId} {args : Array Value} {below : List Frame} {meth : Method} {c : Code} {dC : Nat → ClassId} {dI : Nat → Nat → Nat} {cs : Nat → ClassId} {ad : Nat → Nat} {A : Nat → Prop} {D0 : Nat → Nat} {S' : SS} (F : Fx p s m args meth c cX4_listShapes 5 RX4 none dC dI cs A) (hR1 : 1 ≤ R.frames) (hR2 : 22 ≤ R.locals) (K4 : Int32 → Int32 → SS → Option (SS)) (hK4 : ∀ (v0 : Int32) (v1 : Int32) (S : SS), K4 v0 v1 S = some S' → AW p l e R s m args below meth c dC dI cs ad A D0 none S' 5 4 [(0, .ref (ad 71)), (1, .int v0), (2, .int v1)] [] S) : ∀ (n : Nat) (x1 : Int32) (x2 : Int32) (x3 : Int32) (S : SS), f_Potentials_listShapes_L14 K4 n x1 x2 x3 S = some S' → AW p l e R s m args below meth c dC dI cs ad A D0 none S' 5 14 [(0, .ref (ad 71)), (1, .int x1), (2, .int x2), (3, .int x3)] [] S := by
  have hx := F.1.1
  have hb := F.1.2.1
  intro n
  induction n with
  | zero => intro x1 x2 x3 S h; cases h
  | succ n ih =>
    intro x1 x2 x3 S h H locs ls w hl
    rw [f_Potentials_listShapes_L14] at h
    refine lv_iload_n (pc := 14) hx hb dX4_listShapes_14 rfl (lv_at hl 3 rfl) ?_
    refine lv_aload_n (pc := 15) hx hb dX4_listShapes_15 rfl (lv_at hl 0 rfl) ?_
    refine s_getI (pc := 16) F w ds_71 (j := 5) vc_X4 vi_X4 rfl (by decide) kf_X4_29 dX4_listShapes_16 ?_
    refine lv_icmp_gt (pc := 19) (tgt := 118) hx hb dX4_listShapes_19 (by decide) (fun q => ?_) (fun q => ?_)
    · have h := ite_t q h
      refine s_nm h (fun z1 ez1 h => ?_)
      refine lv_iinc (pc := 118) (v := z1) (lv' := [(2, .int z1), (0, .ref (ad 71)), (1, .int x1), (3, .int x3)]) hx hb dX4_listShapes_118 hl (k := 2) rfl (by rw [ez1]; rfl) (by decide) rfl (fun ls hl => ?_)
      refine lv_goto (pc := 121) (tgt := 4) hx hb dX4_listShapes_121 (by decide) ?_
      exact hK4 _ _ _ h _ _ _ w (lv_sub hl [1, 2, 0] rfl)
    · have h := ite_f q h
      refine lv_iload_n (pc := 22) hx hb dX4_listShapes_22 rfl (lv_at hl 3 rfl) ?_
      refine lv_istore (pc := 23) (lv' := [(4, .int x3), (0, .ref (ad 71)), (1, .int x1), (2, .int x2), (3, .int x3)]) hx hb dX4_listShapes_23 hl (by decide) rfl (fun ls hl => ?_)
      exact w_Potentials_listShapes_L25 F (Nat.le_trans (by decide) hR1) (Nat.le_trans (by decide) hR2) _ (fun v0 v1 v2 S h => ih v0 v1 v2 S h) _ _ _ _ _ _ h _ _ _ w (lv_sub hl [1, 2, 3, 4, 0] rfl)
set_option maxRecDepth 100000 in
set_option maxHeartbeats 4000000 in
theorem w_Potentials_listShapes_L4 {p : Program} {l : Launch} {e : Env} {R : Room} {s : State} {m : MethodId} {args : Array Value} {below : List Frame} {meth : Method} {c : Code} {dC : Nat → ClassId} {dI : Nat → Nat → Nat} {cs : Nat → ClassId} {ad : Nat → Nat} {A : Nat → Prop} {D0 : Nat → Nat} {S' : SS} (F : Fx p s m args meth c cX4_listShapes 5 RX4 none dC dI cs A) (hR1 : 1 ≤ R.frames) (hR2 : 22 ≤ R.locals) : ∀ (n : Nat) (x1 : Int32) (x2 : Int32) (S : SS), f_Potentials_listShapes_L4 n x1 x2 S = some S' → AW p l e R s m args below meth c dC dI cs ad A D0 none S' 5 4 [(0, .ref (ad 71)), (1, .int x1), (2, .int x2)] [] S := by
  have hx := F.1.1
  have hb := F.1.2.1
  intro n
  induction n with
  | zero => intro x1 x2 S h; cases h
  | succ n ih =>
    intro x1 x2 S h H locs ls w hl
    rw [f_Potentials_listShapes_L4] at h
    refine lv_iload_n (pc := 4) hx hb dX4_listShapes_4 rfl (lv_at hl 2 rfl) ?_
    refine lv_aload_n (pc := 5) hx hb dX4_listShapes_5 rfl (lv_at hl 0 rfl) ?_
    refine s_getI (pc := 6) F w ds_71 (j := 5) vc_X4 vi_X4 rfl (by decide) kf_X4_29 dX4_listShapes_6 ?_
    refine lv_icmp_gt (pc := 9) (tgt := 124) hx hb dX4_listShapes_9 (by decide) (fun q => ?_) (fun q => ?_)
    · have h := ite_t q h
      exact s_vret F w h dX4_listShapes_124
    · have h := ite_f q h
      refine lv_iload_n (pc := 12) hx hb dX4_listShapes_12 rfl (lv_at hl 2 rfl) ?_
      refine lv_istore_n (pc := 13) (lv' := [(3, .int x2), (0, .ref (ad 71)), (1, .int x1), (2, .int x2)]) hx hb dX4_listShapes_13 rfl hl (by decide) rfl (fun ls hl => ?_)
      exact w_Potentials_listShapes_L14 F (Nat.le_trans (by decide) hR1) (Nat.le_trans (by decide) hR2) _ (fun v0 v1 S h => ih v0 v1 S h) _ _ _ _ _ h _ _ _ w (lv_sub hl [1, 2, 3, 0] rfl)
set_option maxRecDepth 100000 in
set_option maxHeartbeats 4000000 in
theorem m_Potentials_listShapes  (S S' : SS) (h : f_Potentials_listShapes  S = some S') : MT yX4_listShapes cX4_listShapes 5 none 1 22 (fun ad => [.ref (ad 71)]) S none S' := by
  refine MT.of RX4 (fun ad => [(0, .ref (ad 71))]) (by decide) rfl (fun _ => Nat.le_of_ble_eq_true rfl) (fun _ => rfl) ?_
  intro p l e R s m args below meth c dC dI cs ad A hR1 hR2 F H locs ls w hl
  have hx := F.1.1
  have hb := F.1.2.1
  rw [f_Potentials_listShapes] at h
  refine lv_iconst (pc := 0) (v := 0) hx hb dX4_listShapes_0 (by decide) ?_
  refine lv_istore_n (pc := 1) (lv' := [(1, .int (0 : Int32)), (0, .ref (ad 71))]) hx hb dX4_listShapes_1 rfl hl (by decide) rfl (fun ls hl => ?_)
  refine lv_iconst (pc := 2) (v := 0) hx hb dX4_listShapes_2 (by decide) ?_
  refine lv_istore_n (pc := 3) (lv' := [(2, .int (0 : Int32)), (1, .int (0 : Int32)), (0, .ref (ad 71))]) hx hb dX4_listShapes_3 rfl hl (by decide) rfl (fun ls hl => ?_)
  exact w_Potentials_listShapes_L4 F (Nat.le_trans (by decide) hR1) (Nat.le_trans (by decide) hR2) _ _ _ _ h _ _ _ w (lv_sub hl [2, 1, 0] rfl)
def f_Potentials_layOrder_L4  : Nat → Int32 → Int32 → SS → Option (SS)
  | 0, _, _, _ => none
  | n + 1, x2, x3, S =>
    if (S.1 71 5) ≤ x3 then
      some S
    else
      grd (!(decide (x3 + (1 : Int32) = 0))) (
      nm (x2 - x2 / (x3 + (1 : Int32)) * (x3 + (1 : Int32))) (fun z1 =>
      grd (!(decide (x3 + (1 : Int32) = 0))) (
      nm (x2 / (x3 + (1 : Int32))) (fun z2 =>
      grd (cpok z1 (z1 + (1 : Int32)) (x3 - z1) 5 5) (cpw S 110 110 z1.toNatClampNeg (z1 + (1 : Int32)).toNatClampNeg (x3 - z1).toNatClampNeg (fun S3 =>
      grd (inb z1 5) (wr S3 110 z1.toNatClampNeg x3 (fun S4 =>
      nm (x3 + (1 : Int32)) (fun z5 =>
      f_Potentials_layOrder_L4 n z2 z5 S4)))))))))
def f_Potentials_layOrder (a1 : Int32) (S : SS) : Option (SS) :=
  f_Potentials_layOrder_L4 NF a1 (0 : Int32) S
theorem dX4_layOrder_0 : decode cX4_layOrder 0 = .ok (.iload_n 1, 1) := dc_27 (by decide +kernel)
theorem dX4_layOrder_1 : decode cX4_layOrder 1 = .ok (.istore_n 2, 1) := dc_61 (by decide +kernel)
theorem dX4_layOrder_2 : decode cX4_layOrder 2 = .ok (.iconst 0, 1) := dc_3 (by decide +kernel)
theorem dX4_layOrder_3 : decode cX4_layOrder 3 = .ok (.istore_n 3, 1) := dc_62 (by decide +kernel)
theorem dX4_layOrder_4 : decode cX4_layOrder 4 = .ok (.iload_n 3, 1) := dc_29 (by decide +kernel)
theorem dX4_layOrder_5 : decode cX4_layOrder 5 = .ok (.aload_n 0, 1) := dc_42 (by decide +kernel)
theorem dX4_layOrder_6 : decode cX4_layOrder 6 = .ok (.getfield 29, 3) := dc_180 (a := 0) (b := 29) (by decide +kernel)
theorem dX4_layOrder_9 : decode cX4_layOrder 9 = .ok (.if_icmp .ge 51, 3) := dc_162 (a := 0) (b := 51) (by decide +kernel) (by decide)
theorem dX4_layOrder_12 : decode cX4_layOrder 12 = .ok (.iload_n 2, 1) := dc_28 (by decide +kernel)
theorem dX4_layOrder_13 : decode cX4_layOrder 13 = .ok (.iload_n 3, 1) := dc_29 (by decide +kernel)
theorem dX4_layOrder_14 : decode cX4_layOrder 14 = .ok (.iconst 1, 1) := dc_4 (by decide +kernel)
theorem dX4_layOrder_15 : decode cX4_layOrder 15 = .ok (.iadd, 1) := dc_96 (by decide +kernel)
theorem dX4_layOrder_16 : decode cX4_layOrder 16 = .ok (.irem, 1) := dc_112 (by decide +kernel)
theorem dX4_layOrder_17 : decode cX4_layOrder 17 = .ok (.istore 4, 2) := dc_54 (a := 4) (by decide +kernel)
theorem dX4_layOrder_19 : decode cX4_layOrder 19 = .ok (.iload_n 2, 1) := dc_28 (by decide +kernel)
theorem dX4_layOrder_20 : decode cX4_layOrder 20 = .ok (.iload_n 3, 1) := dc_29 (by decide +kernel)
theorem dX4_layOrder_21 : decode cX4_layOrder 21 = .ok (.iconst 1, 1) := dc_4 (by decide +kernel)
theorem dX4_layOrder_22 : decode cX4_layOrder 22 = .ok (.iadd, 1) := dc_96 (by decide +kernel)
theorem dX4_layOrder_23 : decode cX4_layOrder 23 = .ok (.idiv, 1) := dc_108 (by decide +kernel)
theorem dX4_layOrder_24 : decode cX4_layOrder 24 = .ok (.istore_n 2, 1) := dc_61 (by decide +kernel)
theorem dX4_layOrder_25 : decode cX4_layOrder 25 = .ok (.aload_n 0, 1) := dc_42 (by decide +kernel)
theorem dX4_layOrder_26 : decode cX4_layOrder 26 = .ok (.getfield 17, 3) := dc_180 (a := 0) (b := 17) (by decide +kernel)
theorem dX4_layOrder_29 : decode cX4_layOrder 29 = .ok (.iload 4, 2) := dc_21 (a := 4) (by decide +kernel)
theorem dX4_layOrder_31 : decode cX4_layOrder 31 = .ok (.aload_n 0, 1) := dc_42 (by decide +kernel)
theorem dX4_layOrder_32 : decode cX4_layOrder 32 = .ok (.getfield 17, 3) := dc_180 (a := 0) (b := 17) (by decide +kernel)
theorem dX4_layOrder_35 : decode cX4_layOrder 35 = .ok (.iload 4, 2) := dc_21 (a := 4) (by decide +kernel)
theorem dX4_layOrder_37 : decode cX4_layOrder 37 = .ok (.iconst 1, 1) := dc_4 (by decide +kernel)
theorem dX4_layOrder_38 : decode cX4_layOrder 38 = .ok (.iadd, 1) := dc_96 (by decide +kernel)
theorem dX4_layOrder_39 : decode cX4_layOrder 39 = .ok (.iload_n 3, 1) := dc_29 (by decide +kernel)
theorem dX4_layOrder_40 : decode cX4_layOrder 40 = .ok (.iload 4, 2) := dc_21 (a := 4) (by decide +kernel)
theorem dX4_layOrder_42 : decode cX4_layOrder 42 = .ok (.isub, 1) := dc_100 (by decide +kernel)
theorem dX4_layOrder_43 : decode cX4_layOrder 43 = .ok (.invokestatic 88, 3) := dc_184 (a := 0) (b := 88) (by decide +kernel)
theorem dX4_layOrder_46 : decode cX4_layOrder 46 = .ok (.aload_n 0, 1) := dc_42 (by decide +kernel)
theorem dX4_layOrder_47 : decode cX4_layOrder 47 = .ok (.getfield 17, 3) := dc_180 (a := 0) (b := 17) (by decide +kernel)
theorem dX4_layOrder_50 : decode cX4_layOrder 50 = .ok (.iload 4, 2) := dc_21 (a := 4) (by decide +kernel)
theorem dX4_layOrder_52 : decode cX4_layOrder 52 = .ok (.iload_n 3, 1) := dc_29 (by decide +kernel)
theorem dX4_layOrder_53 : decode cX4_layOrder 53 = .ok (.iastore, 1) := dc_79 (by decide +kernel)
theorem dX4_layOrder_54 : decode cX4_layOrder 54 = .ok (.iinc 3 1, 3) := dc_132 (a := 3) (b := 1) (by decide +kernel) (by decide)
theorem dX4_layOrder_57 : decode cX4_layOrder 57 = .ok (.goto (-53), 3) := dc_167 (a := 255) (b := 203) (by decide +kernel) (by decide)
theorem dX4_layOrder_60 : decode cX4_layOrder 60 = .ok (.return_, 1) := dc_177 (by decide +kernel)
set_option maxRecDepth 100000 in
set_option maxHeartbeats 4000000 in
theorem w_Potentials_layOrder_L4 {p : Program} {l : Launch} {e : Env} {R : Room} {s : State} {m : MethodId} {args : Array Value} {below : List Frame} {meth : Method} {c : Code} {dC : Nat → ClassId} {dI : Nat → Nat → Nat} {cs : Nat → ClassId} {ad : Nat → Nat} {A : Nat → Prop} {D0 : Nat → Nat} {S' : SS} (F : Fx p s m args meth c cX4_layOrder 5 RX4 none dC dI cs A) (hR1 : 1 ≤ R.frames) (hR2 : 40 ≤ R.locals) : ∀ (n : Nat) (x2 : Int32) (x3 : Int32) (S : SS), f_Potentials_layOrder_L4 n x2 x3 S = some S' → AW p l e R s m args below meth c dC dI cs ad A D0 none S' 5 4 [(0, .ref (ad 71)), (2, .int x2), (3, .int x3)] [] S := by
  have hx := F.1.1
  have hb := F.1.2.1
  intro n
  induction n with
  | zero => intro x2 x3 S h; cases h
  | succ n ih =>
    intro x2 x3 S h H locs ls w hl
    rw [f_Potentials_layOrder_L4] at h
    refine lv_iload_n (pc := 4) hx hb dX4_layOrder_4 rfl (lv_at hl 2 rfl) ?_
    refine lv_aload_n (pc := 5) hx hb dX4_layOrder_5 rfl (lv_at hl 0 rfl) ?_
    refine s_getI (pc := 6) F w ds_71 (j := 5) vc_X4 vi_X4 rfl (by decide) kf_X4_29 dX4_layOrder_6 ?_
    refine lv_icmp_ge (pc := 9) (tgt := 60) hx hb dX4_layOrder_9 (by decide) (fun q => ?_) (fun q => ?_)
    · have h := ite_t q h
      exact s_vret F w h dX4_layOrder_60
    · have h := ite_f q h
      refine lv_iload_n (pc := 12) hx hb dX4_layOrder_12 rfl (lv_at hl 1 rfl) ?_
      refine lv_iload_n (pc := 13) hx hb dX4_layOrder_13 rfl (lv_at hl 2 rfl) ?_
      refine lv_iconst (pc := 14) (v := 1) hx hb dX4_layOrder_14 (by decide) ?_
      refine lv_iadd (pc := 15) hx hb dX4_layOrder_15 ?_
      obtain ⟨hd, h⟩ := grd_t h
      refine lv_irem (pc := 16) hx hb dX4_layOrder_16 (by simpa using hd) ?_
      refine s_nm h (fun z1 ez1 h => ?_)
      rw [← ez1]
      refine lv_istore (pc := 17) (lv' := [(4, .int z1), (0, .ref (ad 71)), (2, .int x2), (3, .int x3)]) hx hb dX4_layOrder_17 hl (by decide) rfl (fun ls hl => ?_)
      refine lv_iload_n (pc := 19) hx hb dX4_layOrder_19 rfl (lv_at hl 2 rfl) ?_
      refine lv_iload_n (pc := 20) hx hb dX4_layOrder_20 rfl (lv_at hl 3 rfl) ?_
      refine lv_iconst (pc := 21) (v := 1) hx hb dX4_layOrder_21 (by decide) ?_
      refine lv_iadd (pc := 22) hx hb dX4_layOrder_22 ?_
      obtain ⟨hd, h⟩ := grd_t h
      refine lv_idiv (pc := 23) hx hb dX4_layOrder_23 (by simpa using hd) ?_
      refine s_nm h (fun z2 ez2 h => ?_)
      rw [← ez2]
      refine lv_istore_n (pc := 24) (lv' := [(2, .int z2), (4, .int z1), (0, .ref (ad 71)), (3, .int x3)]) hx hb dX4_layOrder_24 rfl hl (by decide) rfl (fun ls hl => ?_)
      refine lv_aload_n (pc := 25) hx hb dX4_layOrder_25 rfl (lv_at hl 2 rfl) ?_
      refine s_getR (pc := 26) F w 110 ds_71 (j := 1) vc_X4 vi_X4 rfl (by decide) kf_X4_17 dX4_layOrder_26 ?_
      refine lv_iload (pc := 29) hx hb dX4_layOrder_29 (lv_at hl 1 rfl) ?_
      refine lv_aload_n (pc := 31) hx hb dX4_layOrder_31 rfl (lv_at hl 2 rfl) ?_
      refine s_getR (pc := 32) F w 110 ds_71 (j := 1) vc_X4 vi_X4 rfl (by decide) kf_X4_17 dX4_layOrder_32 ?_
      refine lv_iload (pc := 35) hx hb dX4_layOrder_35 (lv_at hl 1 rfl) ?_
      refine lv_iconst (pc := 37) (v := 1) hx hb dX4_layOrder_37 (by decide) ?_
      refine lv_iadd (pc := 38) hx hb dX4_layOrder_38 ?_
      refine lv_iload_n (pc := 39) hx hb dX4_layOrder_39 rfl (lv_at hl 3 rfl) ?_
      refine lv_iload (pc := 40) hx hb dX4_layOrder_40 (lv_at hl 1 rfl) ?_
      refine lv_isub (pc := 42) hx hb dX4_layOrder_42 ?_
      refine s_copy (pc := 43) F w hl.1 ds_110 ds_110 h kl_X4_88 kx_native kx_static kx_ini (Nat.le_trans (by decide) hR1) (Nat.le_trans (Nat.le_of_ble_eq_true rfl) hR2) dX4_layOrder_43 (fun S3 H locs h w => ?_)
      refine lv_aload_n (pc := 46) hx hb dX4_layOrder_46 rfl (lv_at hl 2 rfl) ?_
      refine s_getR (pc := 47) F w 110 ds_71 (j := 1) vc_X4 vi_X4 rfl (by decide) kf_X4_17 dX4_layOrder_47 ?_
      refine lv_iload (pc := 50) hx hb dX4_layOrder_50 (lv_at hl 1 rfl) ?_
      refine lv_iload_n (pc := 52) hx hb dX4_layOrder_52 rfl (lv_at hl 3 rfl) ?_
      refine s_iast (pc := 53) F w ds_110 h dX4_layOrder_53 (fun S4 H locs h w => ?_)
      refine s_nm h (fun z5 ez5 h => ?_)
      refine lv_iinc (pc := 54) (v := z5) (lv' := [(3, .int z5), (2, .int z2), (4, .int z1), (0, .ref (ad 71))]) hx hb dX4_layOrder_54 hl (k := 3) rfl (by rw [ez5]; rfl) (by decide) rfl (fun ls hl => ?_)
      refine lv_goto (pc := 57) (tgt := 4) hx hb dX4_layOrder_57 (by decide) ?_
      exact ih _ _ _ h _ _ _ w (lv_sub hl [3, 1, 0] rfl)
set_option maxRecDepth 100000 in
set_option maxHeartbeats 4000000 in
theorem m_Potentials_layOrder (a1 : Int32) (S S' : SS) (h : f_Potentials_layOrder a1 S = some S') : MT yX4_layOrder cX4_layOrder 5 none 1 40 (fun ad => [.ref (ad 71), .int a1]) S none S' := by
  refine MT.of RX4 (fun ad => [(0, .ref (ad 71)), (1, .int a1)]) (by decide) rfl (fun _ => Nat.le_of_ble_eq_true rfl) (fun _ => rfl) ?_
  intro p l e R s m args below meth c dC dI cs ad A hR1 hR2 F H locs ls w hl
  have hx := F.1.1
  have hb := F.1.2.1
  rw [f_Potentials_layOrder] at h
  refine lv_iload_n (pc := 0) hx hb dX4_layOrder_0 rfl (lv_at hl 1 rfl) ?_
  refine lv_istore_n (pc := 1) (lv' := [(2, .int a1), (0, .ref (ad 71)), (1, .int a1)]) hx hb dX4_layOrder_1 rfl hl (by decide) rfl (fun ls hl => ?_)
  refine lv_iconst (pc := 2) (v := 0) hx hb dX4_layOrder_2 (by decide) ?_
  refine lv_istore_n (pc := 3) (lv' := [(3, .int (0 : Int32)), (2, .int a1), (0, .ref (ad 71)), (1, .int a1)]) hx hb dX4_layOrder_3 rfl hl (by decide) rfl (fun ls hl => ?_)
  exact w_Potentials_layOrder_L4 F (Nat.le_trans (by decide) hR1) (Nat.le_trans (by decide) hR2) _ _ _ _ h _ _ _ w (lv_sub hl [2, 1, 0] rfl)
def f_Potentials_orderOf_Potentials_swapped_L56  : Nat → Int32 → Int32 → SS → Option (Int32 × SS)
  | 0, _, _, _ => none
  | n + 1, x3, x4, S =>
    if x4 < 0 then
      some (x3, S)
    else
      grd (inb x4 5) (
      nm ((x3 * (x4 + (1 : Int32))) + (S.1 112 x4.toNatClampNeg)) (fun z2 =>
      nm (x4 + (-1 : Int32)) (fun z3 =>
      f_Potentials_orderOf_Potentials_swapped_L56 n z2 z3 S)))
def f_Potentials_orderOf_Potentials_swapped_L4  : Nat → Int32 → Int32 → SS → Option (Int32 × SS)
  | 0, _, _, _ => none
  | n + 1, x2, x3, S =>
    if (S.1 71 5) ≤ x3 then
      nm ((S.1 71 5) - (1 : Int32)) (fun z1 =>
      f_Potentials_orderOf_Potentials_swapped_L56 NF (0 : Int32) z1 S)
    else
      grd (inb x3 5) (
      grd (inb x3 5) (
      bnd (f_Integer_bitCount_0f7a4 (x2 &&& (((1 : Int32) <<< ((S.1 111 x3.toNatClampNeg) &&& 31)) - (1 : Int32))) S) (fun r5 S4 =>
      grd (inb (S.1 111 x3.toNatClampNeg) 5) (wr S4 112 (S.1 111 x3.toNatClampNeg).toNatClampNeg r5 (fun S6 =>
      grd (inb x3 5) (
      nm (x2 ||| ((1 : Int32) <<< ((S6.1 111 x3.toNatClampNeg) &&& 31))) (fun z7 =>
      nm (x3 + (1 : Int32)) (fun z8 =>
      f_Potentials_orderOf_Potentials_swapped_L4 n z7 z8 S6))))))))
def f_Potentials_orderOf_Potentials_swapped  (S : SS) : Option (Int32 × SS) :=
  f_Potentials_orderOf_Potentials_swapped_L4 NF (0 : Int32) (0 : Int32) S
set_option maxRecDepth 100000 in
set_option maxHeartbeats 4000000 in
theorem w_Potentials_orderOf_Potentials_swapped_L56 {p : Program} {l : Launch} {e : Env} {R : Room} {s : State} {m : MethodId} {args : Array Value} {below : List Frame} {meth : Method} {c : Code} {dC : Nat → ClassId} {dI : Nat → Nat → Nat} {cs : Nat → ClassId} {ad : Nat → Nat} {A : Nat → Prop} {D0 : Nat → Nat} {S' : SS} {r : Int32} (F : Fx p s m args meth c cX4_orderOf 5 RX4 (some .int) dC dI cs A) (hR1 : 0 ≤ R.frames) (hR2 : 0 ≤ R.locals) : ∀ (n : Nat) (x3 : Int32) (x4 : Int32) (S : SS), f_Potentials_orderOf_Potentials_swapped_L56 n x3 x4 S = some (r, S') → AW p l e R s m args below meth c dC dI cs ad A D0 (some (.int r)) S' 5 56 [(0, .ref (ad 71)), (3, .int x3), (4, .int x4)] [] S := by
  have hx := F.1.1
  have hb := F.1.2.1
  intro n
  induction n with
  | zero => intro x3 x4 S h; cases h
  | succ n ih =>
    intro x3 x4 S h H locs ls w hl
    rw [f_Potentials_orderOf_Potentials_swapped_L56] at h
    refine lv_iload (pc := 56) hx hb dX4_orderOf_56 (lv_at hl 2 rfl) ?_
    refine lv_if_lt (pc := 58) (tgt := 82) hx hb dX4_orderOf_58 (by decide) (fun q => ?_) (fun q => ?_)
    · have h := ite_t q h
      refine lv_iload_n (pc := 82) hx hb dX4_orderOf_82 rfl (lv_at hl 1 rfl) ?_
      exact s_iret F w h dX4_orderOf_83
    · have h := ite_f q h
      refine lv_iload_n (pc := 61) hx hb dX4_orderOf_61 rfl (lv_at hl 1 rfl) ?_
      refine lv_iload (pc := 62) hx hb dX4_orderOf_62 (lv_at hl 2 rfl) ?_
      refine lv_iconst (pc := 64) (v := 1) hx hb dX4_orderOf_64 (by decide) ?_
      refine lv_iadd (pc := 65) hx hb dX4_orderOf_65 ?_
      refine lv_imul (pc := 66) hx hb dX4_orderOf_66 ?_
      refine lv_aload_n (pc := 67) hx hb dX4_orderOf_67 rfl (lv_at hl 0 rfl) ?_
      refine s_getR (pc := 68) F w 112 ds_71 (j := 3) vc_X4 vi_X4 rfl (by decide) kf_X4_23 dX4_orderOf_68 ?_
      refine lv_iload (pc := 71) hx hb dX4_orderOf_71 (lv_at hl 2 rfl) ?_
      refine s_iald (pc := 73) F w ds_112 h dX4_orderOf_73 (fun h => ?_)
      refine lv_iadd (pc := 74) hx hb dX4_orderOf_74 ?_
      refine s_nm h (fun z2 ez2 h => ?_)
      rw [← ez2]
      refine lv_istore_n (pc := 75) (lv' := [(3, .int z2), (0, .ref (ad 71)), (4, .int x4)]) hx hb dX4_orderOf_75 rfl hl (by decide) rfl (fun ls hl => ?_)
      refine s_nm h (fun z3 ez3 h => ?_)
      refine lv_iinc (pc := 76) (v := z3) (lv' := [(4, .int z3), (3, .int z2), (0, .ref (ad 71))]) hx hb dX4_orderOf_76 hl (k := 2) rfl (by rw [ez3]; rfl) (by decide) rfl (fun ls hl => ?_)
      refine lv_goto (pc := 79) (tgt := 56) hx hb dX4_orderOf_79 (by decide) ?_
      exact ih _ _ _ h _ _ _ w (lv_sub hl [2, 1, 0] rfl)
set_option maxRecDepth 100000 in
set_option maxHeartbeats 4000000 in
theorem w_Potentials_orderOf_Potentials_swapped_L4 {p : Program} {l : Launch} {e : Env} {R : Room} {s : State} {m : MethodId} {args : Array Value} {below : List Frame} {meth : Method} {c : Code} {dC : Nat → ClassId} {dI : Nat → Nat → Nat} {cs : Nat → ClassId} {ad : Nat → Nat} {A : Nat → Prop} {D0 : Nat → Nat} {S' : SS} {r : Int32} (F : Fx p s m args meth c cX4_orderOf 5 RX4 (some .int) dC dI cs A) (hR1 : 1 ≤ R.frames) (hR2 : 20 ≤ R.locals) : ∀ (n : Nat) (x2 : Int32) (x3 : Int32) (S : SS), f_Potentials_orderOf_Potentials_swapped_L4 n x2 x3 S = some (r, S') → AW p l e R s m args below meth c dC dI cs ad A D0 (some (.int r)) S' 5 4 [(0, .ref (ad 71)), (1, .ref (ad 111)), (2, .int x2), (3, .int x3)] [] S := by
  have hx := F.1.1
  have hb := F.1.2.1
  intro n
  induction n with
  | zero => intro x2 x3 S h; cases h
  | succ n ih =>
    intro x2 x3 S h H locs ls w hl
    rw [f_Potentials_orderOf_Potentials_swapped_L4] at h
    refine lv_iload_n (pc := 4) hx hb dX4_orderOf_4 rfl (lv_at hl 3 rfl) ?_
    refine lv_aload_n (pc := 5) hx hb dX4_orderOf_5 rfl (lv_at hl 0 rfl) ?_
    refine s_getI (pc := 6) F w ds_71 (j := 5) vc_X4 vi_X4 rfl (by decide) kf_X4_29 dX4_orderOf_6 ?_
    refine lv_icmp_ge (pc := 9) (tgt := 46) hx hb dX4_orderOf_9 (by decide) (fun q => ?_) (fun q => ?_)
    · have h := ite_t q h
      refine lv_iconst (pc := 46) (v := 0) hx hb dX4_orderOf_46 (by decide) ?_
      refine lv_istore_n (pc := 47) (lv' := [(3, .int (0 : Int32)), (0, .ref (ad 71)), (1, .ref (ad 111)), (2, .int x2)]) hx hb dX4_orderOf_47 rfl hl (by decide) rfl (fun ls hl => ?_)
      refine lv_aload_n (pc := 48) hx hb dX4_orderOf_48 rfl (lv_at hl 1 rfl) ?_
      refine s_getI (pc := 49) F w ds_71 (j := 5) vc_X4 vi_X4 rfl (by decide) kf_X4_29 dX4_orderOf_49 ?_
      refine lv_iconst (pc := 52) (v := 1) hx hb dX4_orderOf_52 (by decide) ?_
      refine lv_isub (pc := 53) hx hb dX4_orderOf_53 ?_
      refine s_nm h (fun z1 ez1 h => ?_)
      rw [← ez1]
      refine lv_istore (pc := 54) (lv' := [(4, .int z1), (3, .int (0 : Int32)), (0, .ref (ad 71)), (1, .ref (ad 111)), (2, .int x2)]) hx hb dX4_orderOf_54 hl (by decide) rfl (fun ls hl => ?_)
      exact w_Potentials_orderOf_Potentials_swapped_L56 F (Nat.le_trans (by decide) hR1) (Nat.le_trans (by decide) hR2) _ _ _ _ h _ _ _ w (lv_sub hl [2, 1, 0] rfl)
    · have h := ite_f q h
      refine lv_aload_n (pc := 12) hx hb dX4_orderOf_12 rfl (lv_at hl 0 rfl) ?_
      refine s_getR (pc := 13) F w 112 ds_71 (j := 3) vc_X4 vi_X4 rfl (by decide) kf_X4_23 dX4_orderOf_13 ?_
      refine lv_aload_n (pc := 16) hx hb dX4_orderOf_16 rfl (lv_at hl 1 rfl) ?_
      refine lv_iload_n (pc := 17) hx hb dX4_orderOf_17 rfl (lv_at hl 3 rfl) ?_
      refine s_iald (pc := 18) F w ds_111 h dX4_orderOf_18 (fun h => ?_)
      refine lv_iload_n (pc := 19) hx hb dX4_orderOf_19 rfl (lv_at hl 2 rfl) ?_
      refine lv_iconst (pc := 20) (v := 1) hx hb dX4_orderOf_20 (by decide) ?_
      refine lv_aload_n (pc := 21) hx hb dX4_orderOf_21 rfl (lv_at hl 1 rfl) ?_
      refine lv_iload_n (pc := 22) hx hb dX4_orderOf_22 rfl (lv_at hl 3 rfl) ?_
      refine s_iald (pc := 23) F w ds_111 h dX4_orderOf_23 (fun h => ?_)
      refine lv_ishl (pc := 24) hx hb dX4_orderOf_24 ?_
      refine lv_iconst (pc := 25) (v := 1) hx hb dX4_orderOf_25 (by decide) ?_
      refine lv_isub (pc := 26) hx hb dX4_orderOf_26 ?_
      refine lv_iand (pc := 27) hx hb dX4_orderOf_27 ?_
      obtain ⟨r5, S4, hc, h⟩ := bnd_t h
      refine s_csi (pc := 28) [.int (x2 &&& (((1 : Int32) <<< ((S.1 111 x3.toNatClampNeg) &&& 31)) - (1 : Int32)))] (fun ad => [.int (x2 &&& (((1 : Int32) <<< ((S.1 111 x3.toNatClampNeg) &&& 31)) - (1 : Int32)))]) F w (m_Integer_bitCount_0f7a4 _ _ _ _ hc) rfl rfl hl.1 ok_J6_bitCount_0f7a4 rfl kc_J6_bitCount_0f7a4 kl_X4_83 ks_J6_bitCount_0f7a4 kn_J6 ⟨Nat.le_trans (by decide) hR1, Nat.le_trans (by decide) hR2⟩ ⟨Nat.zero_le _, Nat.zero_le _⟩ (Nat.le_of_ble_eq_true rfl) dX4_orderOf_28 (fun H locs w => ?_)
      refine s_iast (pc := 31) F w ds_112 h dX4_orderOf_31 (fun S6 H locs h w => ?_)
      refine lv_iload_n (pc := 32) hx hb dX4_orderOf_32 rfl (lv_at hl 2 rfl) ?_
      refine lv_iconst (pc := 33) (v := 1) hx hb dX4_orderOf_33 (by decide) ?_
      refine lv_aload_n (pc := 34) hx hb dX4_orderOf_34 rfl (lv_at hl 1 rfl) ?_
      refine lv_iload_n (pc := 35) hx hb dX4_orderOf_35 rfl (lv_at hl 3 rfl) ?_
      refine s_iald (pc := 36) F w ds_111 h dX4_orderOf_36 (fun h => ?_)
      refine lv_ishl (pc := 37) hx hb dX4_orderOf_37 ?_
      refine lv_ior (pc := 38) hx hb dX4_orderOf_38 ?_
      refine s_nm h (fun z7 ez7 h => ?_)
      rw [← ez7]
      refine lv_istore_n (pc := 39) (lv' := [(2, .int z7), (0, .ref (ad 71)), (1, .ref (ad 111)), (3, .int x3)]) hx hb dX4_orderOf_39 rfl hl (by decide) rfl (fun ls hl => ?_)
      refine s_nm h (fun z8 ez8 h => ?_)
      refine lv_iinc (pc := 40) (v := z8) (lv' := [(3, .int z8), (2, .int z7), (0, .ref (ad 71)), (1, .ref (ad 111))]) hx hb dX4_orderOf_40 hl (k := 3) rfl (by rw [ez8]; rfl) (by decide) rfl (fun ls hl => ?_)
      refine lv_goto (pc := 43) (tgt := 4) hx hb dX4_orderOf_43 (by decide) ?_
      exact ih _ _ _ h _ _ _ w (lv_sub hl [2, 3, 1, 0] rfl)
set_option maxRecDepth 100000 in
set_option maxHeartbeats 4000000 in
theorem m_Potentials_orderOf_Potentials_swapped  (S S' : SS) (r : Int32) (h : f_Potentials_orderOf_Potentials_swapped  S = some (r, S')) : MT yX4_orderOf cX4_orderOf 5 (some .int) 1 20 (fun ad => [.ref (ad 71), .ref (ad 111)]) S (some (.int r)) S' := by
  refine MT.of RX4 (fun ad => [(0, .ref (ad 71)), (1, .ref (ad 111))]) (by decide) rfl (fun _ => Nat.le_of_ble_eq_true rfl) (fun _ => rfl) ?_
  intro p l e R s m args below meth c dC dI cs ad A hR1 hR2 F H locs ls w hl
  have hx := F.1.1
  have hb := F.1.2.1
  rw [f_Potentials_orderOf_Potentials_swapped] at h
  refine lv_iconst (pc := 0) (v := 0) hx hb dX4_orderOf_0 (by decide) ?_
  refine lv_istore_n (pc := 1) (lv' := [(2, .int (0 : Int32)), (0, .ref (ad 71)), (1, .ref (ad 111))]) hx hb dX4_orderOf_1 rfl hl (by decide) rfl (fun ls hl => ?_)
  refine lv_iconst (pc := 2) (v := 0) hx hb dX4_orderOf_2 (by decide) ?_
  refine lv_istore_n (pc := 3) (lv' := [(3, .int (0 : Int32)), (2, .int (0 : Int32)), (0, .ref (ad 71)), (1, .ref (ad 111))]) hx hb dX4_orderOf_3 rfl hl (by decide) rfl (fun ls hl => ?_)
  exact w_Potentials_orderOf_Potentials_swapped_L4 F (Nat.le_trans (by decide) hR1) (Nat.le_trans (by decide) hR2) _ _ _ _ h _ _ _ w (lv_sub hl [2, 3, 1, 0] rfl)
def f_Potentials_listOrders_L35 (K27 : Int32 → Int32 → Int32 → SS → Option (SS)) : Nat → Int32 → Int32 → Int32 → Int32 → SS → Option (SS)
  | 0, _, _, _, _, _ => none
  | n + 1, x1, x2, x3, x4, S =>
    if x3 ≤ x4 then
      nm (x3 + (1 : Int32)) (fun z4 =>
      K27 x1 x2 z4 S)
    else
      grd (cpok (0 : Int32) (0 : Int32) (S.1 71 5) 5 5) (cpw S 110 111 (0 : Int32).toNatClampNeg (0 : Int32).toNatClampNeg (S.1 71 5).toNatClampNeg (fun S5 =>
      grd (cpok x3 x4 (x2 - x3) 5 5) (cpw S5 110 111 x3.toNatClampNeg x4.toNatClampNeg (x2 - x3).toNatClampNeg (fun S6 =>
      grd (cpok x4 ((x4 + x2) - x3) (x3 - x4) 5 5) (cpw S6 110 111 x4.toNatClampNeg ((x4 + x2) - x3).toNatClampNeg (x3 - x4).toNatClampNeg (fun S7 =>
      bnd (f_Potentials_swapOf x4 x3 x2 S7) (fun r9 S8 =>
      bnd (f_Potentials_orderOf_Potentials_swapped  S8) (fun r11 S10 =>
      grd (inb (((20 : Int32) * x1) + r9) (S10.2 115)) (wr S10 115 (((20 : Int32) * x1) + r9).toNatClampNeg r11 (fun S12 =>
      nm (x4 + (1 : Int32)) (fun z13 =>
      f_Potentials_listOrders_L35 K27 n x1 x2 x3 z13 S12)))))))))))
def f_Potentials_listOrders_L27 (K17 : Int32 → Int32 → SS → Option (SS)) : Nat → Int32 → Int32 → Int32 → SS → Option (SS)
  | 0, _, _, _, _ => none
  | n + 1, x1, x2, x3, S =>
    if x2 ≤ x3 then
      nm (x2 + (1 : Int32)) (fun z3 =>
      K17 x1 z3 S)
    else
      f_Potentials_listOrders_L35 (fun v0 v1 v2 S => f_Potentials_listOrders_L27 K17 n v0 v1 v2 S) NF x1 x2 x3 (0 : Int32) S
def f_Potentials_listOrders_L17 (K2 : Int32 → SS → Option (SS)) : Nat → Int32 → Int32 → SS → Option (SS)
  | 0, _, _, _ => none
  | n + 1, x1, x2, S =>
    if (S.1 71 5) < x2 then
      nm (x1 + (1 : Int32)) (fun z2 =>
      K2 z2 S)
    else
      f_Potentials_listOrders_L27 (fun v0 v1 S => f_Potentials_listOrders_L17 K2 n v0 v1 S) NF x1 x2 (1 : Int32) S
def f_Potentials_listOrders_L2  : Nat → Int32 → SS → Option (SS)
  | 0, _, _ => none
  | n + 1, x1, S =>
    if (S.1 71 6) ≤ x1 then
      some S
    else
      bndv (f_Potentials_layOrder x1 S) (fun S1 =>
      f_Potentials_listOrders_L17 (fun v0 S => f_Potentials_listOrders_L2 n v0 S) NF x1 (2 : Int32) S1)
def f_Potentials_listOrders  (S : SS) : Option (SS) :=
  f_Potentials_listOrders_L2 NF (0 : Int32) S
theorem dX4_listOrders_0 : decode cX4_listOrders 0 = .ok (.iconst 0, 1) := dc_3 (by decide +kernel)
theorem dX4_listOrders_1 : decode cX4_listOrders 1 = .ok (.istore_n 1, 1) := dc_60 (by decide +kernel)
theorem dX4_listOrders_2 : decode cX4_listOrders 2 = .ok (.iload_n 1, 1) := dc_27 (by decide +kernel)
theorem dX4_listOrders_3 : decode cX4_listOrders 3 = .ok (.aload_n 0, 1) := dc_42 (by decide +kernel)
theorem dX4_listOrders_4 : decode cX4_listOrders 4 = .ok (.getfield 33, 3) := dc_180 (a := 0) (b := 33) (by decide +kernel)
theorem dX4_listOrders_7 : decode cX4_listOrders 7 = .ok (.if_icmp .ge 140, 3) := dc_162 (a := 0) (b := 140) (by decide +kernel) (by decide)
theorem dX4_listOrders_10 : decode cX4_listOrders 10 = .ok (.aload_n 0, 1) := dc_42 (by decide +kernel)
theorem dX4_listOrders_11 : decode cX4_listOrders 11 = .ok (.iload_n 1, 1) := dc_27 (by decide +kernel)
theorem dX4_listOrders_12 : decode cX4_listOrders 12 = .ok (.invokevirtual 128, 3) := dc_182 (a := 0) (b := 128) (by decide +kernel)
theorem dX4_listOrders_15 : decode cX4_listOrders 15 = .ok (.iconst 2, 1) := dc_5 (by decide +kernel)
theorem dX4_listOrders_16 : decode cX4_listOrders 16 = .ok (.istore_n 2, 1) := dc_61 (by decide +kernel)
theorem dX4_listOrders_17 : decode cX4_listOrders 17 = .ok (.iload_n 2, 1) := dc_28 (by decide +kernel)
theorem dX4_listOrders_18 : decode cX4_listOrders 18 = .ok (.aload_n 0, 1) := dc_42 (by decide +kernel)
theorem dX4_listOrders_19 : decode cX4_listOrders 19 = .ok (.getfield 29, 3) := dc_180 (a := 0) (b := 29) (by decide +kernel)
theorem dX4_listOrders_22 : decode cX4_listOrders 22 = .ok (.if_icmp .gt 119, 3) := dc_163 (a := 0) (b := 119) (by decide +kernel) (by decide)
theorem dX4_listOrders_25 : decode cX4_listOrders 25 = .ok (.iconst 1, 1) := dc_4 (by decide +kernel)
theorem dX4_listOrders_26 : decode cX4_listOrders 26 = .ok (.istore_n 3, 1) := dc_62 (by decide +kernel)
theorem dX4_listOrders_27 : decode cX4_listOrders 27 = .ok (.iload_n 3, 1) := dc_29 (by decide +kernel)
theorem dX4_listOrders_28 : decode cX4_listOrders 28 = .ok (.iload_n 2, 1) := dc_28 (by decide +kernel)
theorem dX4_listOrders_29 : decode cX4_listOrders 29 = .ok (.if_icmp .ge 106, 3) := dc_162 (a := 0) (b := 106) (by decide +kernel) (by decide)
theorem dX4_listOrders_32 : decode cX4_listOrders 32 = .ok (.iconst 0, 1) := dc_3 (by decide +kernel)
theorem dX4_listOrders_33 : decode cX4_listOrders 33 = .ok (.istore 4, 2) := dc_54 (a := 4) (by decide +kernel)
theorem dX4_listOrders_35 : decode cX4_listOrders 35 = .ok (.iload 4, 2) := dc_21 (a := 4) (by decide +kernel)
theorem dX4_listOrders_37 : decode cX4_listOrders 37 = .ok (.iload_n 3, 1) := dc_29 (by decide +kernel)
theorem dX4_listOrders_38 : decode cX4_listOrders 38 = .ok (.if_icmp .ge 91, 3) := dc_162 (a := 0) (b := 91) (by decide +kernel) (by decide)
theorem dX4_listOrders_41 : decode cX4_listOrders 41 = .ok (.aload_n 0, 1) := dc_42 (by decide +kernel)
theorem dX4_listOrders_42 : decode cX4_listOrders 42 = .ok (.getfield 17, 3) := dc_180 (a := 0) (b := 17) (by decide +kernel)
theorem dX4_listOrders_45 : decode cX4_listOrders 45 = .ok (.iconst 0, 1) := dc_3 (by decide +kernel)
theorem dX4_listOrders_46 : decode cX4_listOrders 46 = .ok (.aload_n 0, 1) := dc_42 (by decide +kernel)
theorem dX4_listOrders_47 : decode cX4_listOrders 47 = .ok (.getfield 20, 3) := dc_180 (a := 0) (b := 20) (by decide +kernel)
theorem dX4_listOrders_50 : decode cX4_listOrders 50 = .ok (.iconst 0, 1) := dc_3 (by decide +kernel)
theorem dX4_listOrders_51 : decode cX4_listOrders 51 = .ok (.aload_n 0, 1) := dc_42 (by decide +kernel)
theorem dX4_listOrders_52 : decode cX4_listOrders 52 = .ok (.getfield 29, 3) := dc_180 (a := 0) (b := 29) (by decide +kernel)
theorem dX4_listOrders_55 : decode cX4_listOrders 55 = .ok (.invokestatic 88, 3) := dc_184 (a := 0) (b := 88) (by decide +kernel)
theorem dX4_listOrders_58 : decode cX4_listOrders 58 = .ok (.aload_n 0, 1) := dc_42 (by decide +kernel)
theorem dX4_listOrders_59 : decode cX4_listOrders 59 = .ok (.getfield 17, 3) := dc_180 (a := 0) (b := 17) (by decide +kernel)
theorem dX4_listOrders_62 : decode cX4_listOrders 62 = .ok (.iload_n 3, 1) := dc_29 (by decide +kernel)
theorem dX4_listOrders_63 : decode cX4_listOrders 63 = .ok (.aload_n 0, 1) := dc_42 (by decide +kernel)
theorem dX4_listOrders_64 : decode cX4_listOrders 64 = .ok (.getfield 20, 3) := dc_180 (a := 0) (b := 20) (by decide +kernel)
theorem dX4_listOrders_67 : decode cX4_listOrders 67 = .ok (.iload 4, 2) := dc_21 (a := 4) (by decide +kernel)
theorem dX4_listOrders_69 : decode cX4_listOrders 69 = .ok (.iload_n 2, 1) := dc_28 (by decide +kernel)
theorem dX4_listOrders_70 : decode cX4_listOrders 70 = .ok (.iload_n 3, 1) := dc_29 (by decide +kernel)
theorem dX4_listOrders_71 : decode cX4_listOrders 71 = .ok (.isub, 1) := dc_100 (by decide +kernel)
theorem dX4_listOrders_72 : decode cX4_listOrders 72 = .ok (.invokestatic 88, 3) := dc_184 (a := 0) (b := 88) (by decide +kernel)
theorem dX4_listOrders_75 : decode cX4_listOrders 75 = .ok (.aload_n 0, 1) := dc_42 (by decide +kernel)
theorem dX4_listOrders_76 : decode cX4_listOrders 76 = .ok (.getfield 17, 3) := dc_180 (a := 0) (b := 17) (by decide +kernel)
theorem dX4_listOrders_79 : decode cX4_listOrders 79 = .ok (.iload 4, 2) := dc_21 (a := 4) (by decide +kernel)
theorem dX4_listOrders_81 : decode cX4_listOrders 81 = .ok (.aload_n 0, 1) := dc_42 (by decide +kernel)
theorem dX4_listOrders_82 : decode cX4_listOrders 82 = .ok (.getfield 20, 3) := dc_180 (a := 0) (b := 20) (by decide +kernel)
theorem dX4_listOrders_85 : decode cX4_listOrders 85 = .ok (.iload 4, 2) := dc_21 (a := 4) (by decide +kernel)
theorem dX4_listOrders_87 : decode cX4_listOrders 87 = .ok (.iload_n 2, 1) := dc_28 (by decide +kernel)
theorem dX4_listOrders_88 : decode cX4_listOrders 88 = .ok (.iadd, 1) := dc_96 (by decide +kernel)
theorem dX4_listOrders_89 : decode cX4_listOrders 89 = .ok (.iload_n 3, 1) := dc_29 (by decide +kernel)
theorem dX4_listOrders_90 : decode cX4_listOrders 90 = .ok (.isub, 1) := dc_100 (by decide +kernel)
theorem dX4_listOrders_91 : decode cX4_listOrders 91 = .ok (.iload_n 3, 1) := dc_29 (by decide +kernel)
theorem dX4_listOrders_92 : decode cX4_listOrders 92 = .ok (.iload 4, 2) := dc_21 (a := 4) (by decide +kernel)
theorem dX4_listOrders_94 : decode cX4_listOrders 94 = .ok (.isub, 1) := dc_100 (by decide +kernel)
theorem dX4_listOrders_95 : decode cX4_listOrders 95 = .ok (.invokestatic 88, 3) := dc_184 (a := 0) (b := 88) (by decide +kernel)
theorem dX4_listOrders_98 : decode cX4_listOrders 98 = .ok (.aload_n 0, 1) := dc_42 (by decide +kernel)
theorem dX4_listOrders_99 : decode cX4_listOrders 99 = .ok (.getfield 42, 3) := dc_180 (a := 0) (b := 42) (by decide +kernel)
theorem dX4_listOrders_102 : decode cX4_listOrders 102 = .ok (.bipush 20, 2) := dc_16 (a := 20) (by decide +kernel) (by decide)
theorem dX4_listOrders_104 : decode cX4_listOrders 104 = .ok (.iload_n 1, 1) := dc_27 (by decide +kernel)
theorem dX4_listOrders_105 : decode cX4_listOrders 105 = .ok (.imul, 1) := dc_104 (by decide +kernel)
theorem dX4_listOrders_106 : decode cX4_listOrders 106 = .ok (.iload 4, 2) := dc_21 (a := 4) (by decide +kernel)
theorem dX4_listOrders_108 : decode cX4_listOrders 108 = .ok (.iload_n 3, 1) := dc_29 (by decide +kernel)
theorem dX4_listOrders_109 : decode cX4_listOrders 109 = .ok (.iload_n 2, 1) := dc_28 (by decide +kernel)
theorem dX4_listOrders_110 : decode cX4_listOrders 110 = .ok (.invokestatic 131, 3) := dc_184 (a := 0) (b := 131) (by decide +kernel)
theorem dX4_listOrders_113 : decode cX4_listOrders 113 = .ok (.iadd, 1) := dc_96 (by decide +kernel)
theorem dX4_listOrders_114 : decode cX4_listOrders 114 = .ok (.aload_n 0, 1) := dc_42 (by decide +kernel)
theorem dX4_listOrders_115 : decode cX4_listOrders 115 = .ok (.aload_n 0, 1) := dc_42 (by decide +kernel)
theorem dX4_listOrders_116 : decode cX4_listOrders 116 = .ok (.getfield 20, 3) := dc_180 (a := 0) (b := 20) (by decide +kernel)
theorem dX4_listOrders_119 : decode cX4_listOrders 119 = .ok (.invokevirtual 79, 3) := dc_182 (a := 0) (b := 79) (by decide +kernel)
theorem dX4_listOrders_122 : decode cX4_listOrders 122 = .ok (.iastore, 1) := dc_79 (by decide +kernel)
theorem dX4_listOrders_123 : decode cX4_listOrders 123 = .ok (.iinc 4 1, 3) := dc_132 (a := 4) (b := 1) (by decide +kernel) (by decide)
theorem dX4_listOrders_126 : decode cX4_listOrders 126 = .ok (.goto (-91), 3) := dc_167 (a := 255) (b := 165) (by decide +kernel) (by decide)
theorem dX4_listOrders_129 : decode cX4_listOrders 129 = .ok (.iinc 3 1, 3) := dc_132 (a := 3) (b := 1) (by decide +kernel) (by decide)
theorem dX4_listOrders_132 : decode cX4_listOrders 132 = .ok (.goto (-105), 3) := dc_167 (a := 255) (b := 151) (by decide +kernel) (by decide)
theorem dX4_listOrders_135 : decode cX4_listOrders 135 = .ok (.iinc 2 1, 3) := dc_132 (a := 2) (b := 1) (by decide +kernel) (by decide)
theorem dX4_listOrders_138 : decode cX4_listOrders 138 = .ok (.goto (-121), 3) := dc_167 (a := 255) (b := 135) (by decide +kernel) (by decide)
theorem dX4_listOrders_141 : decode cX4_listOrders 141 = .ok (.iinc 1 1, 3) := dc_132 (a := 1) (b := 1) (by decide +kernel) (by decide)
theorem dX4_listOrders_144 : decode cX4_listOrders 144 = .ok (.goto (-142), 3) := dc_167 (a := 255) (b := 114) (by decide +kernel) (by decide)
theorem dX4_listOrders_147 : decode cX4_listOrders 147 = .ok (.return_, 1) := dc_177 (by decide +kernel)
set_option maxRecDepth 100000 in
set_option maxHeartbeats 4000000 in
theorem w_Potentials_listOrders_L35 {p : Program} {l : Launch} {e : Env} {R : Room} {s : State} {m : MethodId} {args : Array Value} {below : List Frame} {meth : Method} {c : Code} {dC : Nat → ClassId} {dI : Nat → Nat → Nat} {cs : Nat → ClassId} {ad : Nat → Nat} {A : Nat → Prop} {D0 : Nat → Nat} {S' : SS} (F : Fx p s m args meth c cX4_listOrders 5 RX4 none dC dI cs A) (hR1 : 2 ≤ R.frames) (hR2 : 44 ≤ R.locals) (K27 : Int32 → Int32 → Int32 → SS → Option (SS)) (hK27 : ∀ (v0 : Int32) (v1 : Int32) (v2 : Int32) (S : SS), K27 v0 v1 v2 S = some S' → AW p l e R s m args below meth c dC dI cs ad A D0 none S' 5 27 [(0, .ref (ad 71)), (1, .int v0), (2, .int v1), (3, .int v2)] [] S) : ∀ (n : Nat) (x1 : Int32) (x2 : Int32) (x3 : Int32) (x4 : Int32) (S : SS), f_Potentials_listOrders_L35 K27 n x1 x2 x3 x4 S = some S' → AW p l e R s m args below meth c dC dI cs ad A D0 none S' 5 35 [(0, .ref (ad 71)), (1, .int x1), (2, .int x2), (3, .int x3), (4, .int x4)] [] S := by
  have hx := F.1.1
  have hb := F.1.2.1
  intro n
  induction n with
  | zero => intro x1 x2 x3 x4 S h; cases h
  | succ n ih =>
    intro x1 x2 x3 x4 S h H locs ls w hl
    rw [f_Potentials_listOrders_L35] at h
    refine lv_iload (pc := 35) hx hb dX4_listOrders_35 (lv_at hl 4 rfl) ?_
    refine lv_iload_n (pc := 37) hx hb dX4_listOrders_37 rfl (lv_at hl 3 rfl) ?_
    refine lv_icmp_ge (pc := 38) (tgt := 129) hx hb dX4_listOrders_38 (by decide) (fun q => ?_) (fun q => ?_)
    · have h := ite_t q h
      refine s_nm h (fun z4 ez4 h => ?_)
      refine lv_iinc (pc := 129) (v := z4) (lv' := [(3, .int z4), (0, .ref (ad 71)), (1, .int x1), (2, .int x2), (4, .int x4)]) hx hb dX4_listOrders_129 hl (k := 3) rfl (by rw [ez4]; rfl) (by decide) rfl (fun ls hl => ?_)
      refine lv_goto (pc := 132) (tgt := 27) hx hb dX4_listOrders_132 (by decide) ?_
      exact hK27 _ _ _ _ h _ _ _ w (lv_sub hl [1, 2, 3, 0] rfl)
    · have h := ite_f q h
      refine lv_aload_n (pc := 41) hx hb dX4_listOrders_41 rfl (lv_at hl 0 rfl) ?_
      refine s_getR (pc := 42) F w 110 ds_71 (j := 1) vc_X4 vi_X4 rfl (by decide) kf_X4_17 dX4_listOrders_42 ?_
      refine lv_iconst (pc := 45) (v := 0) hx hb dX4_listOrders_45 (by decide) ?_
      refine lv_aload_n (pc := 46) hx hb dX4_listOrders_46 rfl (lv_at hl 0 rfl) ?_
      refine s_getR (pc := 47) F w 111 ds_71 (j := 2) vc_X4 vi_X4 rfl (by decide) kf_X4_20 dX4_listOrders_47 ?_
      refine lv_iconst (pc := 50) (v := 0) hx hb dX4_listOrders_50 (by decide) ?_
      refine lv_aload_n (pc := 51) hx hb dX4_listOrders_51 rfl (lv_at hl 0 rfl) ?_
      refine s_getI (pc := 52) F w ds_71 (j := 5) vc_X4 vi_X4 rfl (by decide) kf_X4_29 dX4_listOrders_52 ?_
      refine s_copy (pc := 55) F w hl.1 ds_110 ds_111 h kl_X4_88 kx_native kx_static kx_ini (Nat.le_trans (by decide) hR1) (Nat.le_trans (Nat.le_of_ble_eq_true rfl) hR2) dX4_listOrders_55 (fun S5 H locs h w => ?_)
      refine lv_aload_n (pc := 58) hx hb dX4_listOrders_58 rfl (lv_at hl 0 rfl) ?_
      refine s_getR (pc := 59) F w 110 ds_71 (j := 1) vc_X4 vi_X4 rfl (by decide) kf_X4_17 dX4_listOrders_59 ?_
      refine lv_iload_n (pc := 62) hx hb dX4_listOrders_62 rfl (lv_at hl 3 rfl) ?_
      refine lv_aload_n (pc := 63) hx hb dX4_listOrders_63 rfl (lv_at hl 0 rfl) ?_
      refine s_getR (pc := 64) F w 111 ds_71 (j := 2) vc_X4 vi_X4 rfl (by decide) kf_X4_20 dX4_listOrders_64 ?_
      refine lv_iload (pc := 67) hx hb dX4_listOrders_67 (lv_at hl 4 rfl) ?_
      refine lv_iload_n (pc := 69) hx hb dX4_listOrders_69 rfl (lv_at hl 2 rfl) ?_
      refine lv_iload_n (pc := 70) hx hb dX4_listOrders_70 rfl (lv_at hl 3 rfl) ?_
      refine lv_isub (pc := 71) hx hb dX4_listOrders_71 ?_
      refine s_copy (pc := 72) F w hl.1 ds_110 ds_111 h kl_X4_88 kx_native kx_static kx_ini (Nat.le_trans (by decide) hR1) (Nat.le_trans (Nat.le_of_ble_eq_true rfl) hR2) dX4_listOrders_72 (fun S6 H locs h w => ?_)
      refine lv_aload_n (pc := 75) hx hb dX4_listOrders_75 rfl (lv_at hl 0 rfl) ?_
      refine s_getR (pc := 76) F w 110 ds_71 (j := 1) vc_X4 vi_X4 rfl (by decide) kf_X4_17 dX4_listOrders_76 ?_
      refine lv_iload (pc := 79) hx hb dX4_listOrders_79 (lv_at hl 4 rfl) ?_
      refine lv_aload_n (pc := 81) hx hb dX4_listOrders_81 rfl (lv_at hl 0 rfl) ?_
      refine s_getR (pc := 82) F w 111 ds_71 (j := 2) vc_X4 vi_X4 rfl (by decide) kf_X4_20 dX4_listOrders_82 ?_
      refine lv_iload (pc := 85) hx hb dX4_listOrders_85 (lv_at hl 4 rfl) ?_
      refine lv_iload_n (pc := 87) hx hb dX4_listOrders_87 rfl (lv_at hl 2 rfl) ?_
      refine lv_iadd (pc := 88) hx hb dX4_listOrders_88 ?_
      refine lv_iload_n (pc := 89) hx hb dX4_listOrders_89 rfl (lv_at hl 3 rfl) ?_
      refine lv_isub (pc := 90) hx hb dX4_listOrders_90 ?_
      refine lv_iload_n (pc := 91) hx hb dX4_listOrders_91 rfl (lv_at hl 3 rfl) ?_
      refine lv_iload (pc := 92) hx hb dX4_listOrders_92 (lv_at hl 4 rfl) ?_
      refine lv_isub (pc := 94) hx hb dX4_listOrders_94 ?_
      refine s_copy (pc := 95) F w hl.1 ds_110 ds_111 h kl_X4_88 kx_native kx_static kx_ini (Nat.le_trans (by decide) hR1) (Nat.le_trans (Nat.le_of_ble_eq_true rfl) hR2) dX4_listOrders_95 (fun S7 H locs h w => ?_)
      refine lv_aload_n (pc := 98) hx hb dX4_listOrders_98 rfl (lv_at hl 0 rfl) ?_
      refine s_getR (pc := 99) F w 115 ds_71 (j := 9) vc_X4 vi_X4 rfl (by decide) kf_X4_42 dX4_listOrders_99 ?_
      refine lv_bipush (pc := 102) (v := 20) hx hb dX4_listOrders_102 (by decide) ?_
      refine lv_iload_n (pc := 104) hx hb dX4_listOrders_104 rfl (lv_at hl 1 rfl) ?_
      refine lv_imul (pc := 105) hx hb dX4_listOrders_105 ?_
      refine lv_iload (pc := 106) hx hb dX4_listOrders_106 (lv_at hl 4 rfl) ?_
      refine lv_iload_n (pc := 108) hx hb dX4_listOrders_108 rfl (lv_at hl 3 rfl) ?_
      refine lv_iload_n (pc := 109) hx hb dX4_listOrders_109 rfl (lv_at hl 2 rfl) ?_
      obtain ⟨r9, S8, hc, h⟩ := bnd_t h
      refine s_csi (pc := 110) [.int x4, .int x3, .int x2] (fun ad => [.int x4, .int x3, .int x2]) F w (m_Potentials_swapOf _ _ _ _ _ _ hc) rfl rfl hl.1 ok_X4_swapOf rfl kc_X4_swapOf kl_X4_131 ks_X4_swapOf kn_X4 ⟨Nat.le_trans (by decide) hR1, Nat.le_trans (by decide) hR2⟩ ⟨Nat.zero_le _, Nat.zero_le _⟩ (Nat.le_of_ble_eq_true rfl) dX4_listOrders_110 (fun H locs w => ?_)
      refine lv_iadd (pc := 113) hx hb dX4_listOrders_113 ?_
      refine lv_aload_n (pc := 114) hx hb dX4_listOrders_114 rfl (lv_at hl 0 rfl) ?_
      refine lv_aload_n (pc := 115) hx hb dX4_listOrders_115 rfl (lv_at hl 0 rfl) ?_
      refine s_getR (pc := 116) F w 111 ds_71 (j := 2) vc_X4 vi_X4 rfl (by decide) kf_X4_20 dX4_listOrders_116 ?_
      obtain ⟨r11, S10, hc, h⟩ := bnd_t h
      refine s_cvi (pc := 119) [.ref (ad 111)] (fun ad => [.ref (ad 71), .ref (ad 111)]) F w (m_Potentials_orderOf_Potentials_swapped  _ _ _ hc) rfl rfl hl.1 ds_71 vc_X4 rfl ok_X4_orderOf rfl kc_X4_orderOf kl_X4_79 ki_X4_orderOf kv_X4_orderOf kn_X4 ⟨Nat.le_trans (by decide) hR1, Nat.le_trans (by decide) hR2⟩ ⟨Nat.zero_le _, Nat.zero_le _⟩ (Nat.le_of_ble_eq_true rfl) dX4_listOrders_119 (fun H locs w => ?_)
      refine s_iast (pc := 122) F w ds_115 h dX4_listOrders_122 (fun S12 H locs h w => ?_)
      refine s_nm h (fun z13 ez13 h => ?_)
      refine lv_iinc (pc := 123) (v := z13) (lv' := [(4, .int z13), (0, .ref (ad 71)), (1, .int x1), (2, .int x2), (3, .int x3)]) hx hb dX4_listOrders_123 hl (k := 4) rfl (by rw [ez13]; rfl) (by decide) rfl (fun ls hl => ?_)
      refine lv_goto (pc := 126) (tgt := 35) hx hb dX4_listOrders_126 (by decide) ?_
      exact ih _ _ _ _ _ h _ _ _ w (lv_sub hl [1, 2, 3, 4, 0] rfl)
set_option maxRecDepth 100000 in
set_option maxHeartbeats 4000000 in
theorem w_Potentials_listOrders_L27 {p : Program} {l : Launch} {e : Env} {R : Room} {s : State} {m : MethodId} {args : Array Value} {below : List Frame} {meth : Method} {c : Code} {dC : Nat → ClassId} {dI : Nat → Nat → Nat} {cs : Nat → ClassId} {ad : Nat → Nat} {A : Nat → Prop} {D0 : Nat → Nat} {S' : SS} (F : Fx p s m args meth c cX4_listOrders 5 RX4 none dC dI cs A) (hR1 : 2 ≤ R.frames) (hR2 : 44 ≤ R.locals) (K17 : Int32 → Int32 → SS → Option (SS)) (hK17 : ∀ (v0 : Int32) (v1 : Int32) (S : SS), K17 v0 v1 S = some S' → AW p l e R s m args below meth c dC dI cs ad A D0 none S' 5 17 [(0, .ref (ad 71)), (1, .int v0), (2, .int v1)] [] S) : ∀ (n : Nat) (x1 : Int32) (x2 : Int32) (x3 : Int32) (S : SS), f_Potentials_listOrders_L27 K17 n x1 x2 x3 S = some S' → AW p l e R s m args below meth c dC dI cs ad A D0 none S' 5 27 [(0, .ref (ad 71)), (1, .int x1), (2, .int x2), (3, .int x3)] [] S := by
  have hx := F.1.1
  have hb := F.1.2.1
  intro n
  induction n with
  | zero => intro x1 x2 x3 S h; cases h
  | succ n ih =>
    intro x1 x2 x3 S h H locs ls w hl
    rw [f_Potentials_listOrders_L27] at h
    refine lv_iload_n (pc := 27) hx hb dX4_listOrders_27 rfl (lv_at hl 3 rfl) ?_
    refine lv_iload_n (pc := 28) hx hb dX4_listOrders_28 rfl (lv_at hl 2 rfl) ?_
    refine lv_icmp_ge (pc := 29) (tgt := 135) hx hb dX4_listOrders_29 (by decide) (fun q => ?_) (fun q => ?_)
    · have h := ite_t q h
      refine s_nm h (fun z3 ez3 h => ?_)
      refine lv_iinc (pc := 135) (v := z3) (lv' := [(2, .int z3), (0, .ref (ad 71)), (1, .int x1), (3, .int x3)]) hx hb dX4_listOrders_135 hl (k := 2) rfl (by rw [ez3]; rfl) (by decide) rfl (fun ls hl => ?_)
      refine lv_goto (pc := 138) (tgt := 17) hx hb dX4_listOrders_138 (by decide) ?_
      exact hK17 _ _ _ h _ _ _ w (lv_sub hl [1, 2, 0] rfl)
    · have h := ite_f q h
      refine lv_iconst (pc := 32) (v := 0) hx hb dX4_listOrders_32 (by decide) ?_
      refine lv_istore (pc := 33) (lv' := [(4, .int (0 : Int32)), (0, .ref (ad 71)), (1, .int x1), (2, .int x2), (3, .int x3)]) hx hb dX4_listOrders_33 hl (by decide) rfl (fun ls hl => ?_)
      exact w_Potentials_listOrders_L35 F (Nat.le_trans (by decide) hR1) (Nat.le_trans (by decide) hR2) _ (fun v0 v1 v2 S h => ih v0 v1 v2 S h) _ _ _ _ _ _ h _ _ _ w (lv_sub hl [1, 2, 3, 4, 0] rfl)
set_option maxRecDepth 100000 in
set_option maxHeartbeats 4000000 in
theorem w_Potentials_listOrders_L17 {p : Program} {l : Launch} {e : Env} {R : Room} {s : State} {m : MethodId} {args : Array Value} {below : List Frame} {meth : Method} {c : Code} {dC : Nat → ClassId} {dI : Nat → Nat → Nat} {cs : Nat → ClassId} {ad : Nat → Nat} {A : Nat → Prop} {D0 : Nat → Nat} {S' : SS} (F : Fx p s m args meth c cX4_listOrders 5 RX4 none dC dI cs A) (hR1 : 2 ≤ R.frames) (hR2 : 44 ≤ R.locals) (K2 : Int32 → SS → Option (SS)) (hK2 : ∀ (v0 : Int32) (S : SS), K2 v0 S = some S' → AW p l e R s m args below meth c dC dI cs ad A D0 none S' 5 2 [(0, .ref (ad 71)), (1, .int v0)] [] S) : ∀ (n : Nat) (x1 : Int32) (x2 : Int32) (S : SS), f_Potentials_listOrders_L17 K2 n x1 x2 S = some S' → AW p l e R s m args below meth c dC dI cs ad A D0 none S' 5 17 [(0, .ref (ad 71)), (1, .int x1), (2, .int x2)] [] S := by
  have hx := F.1.1
  have hb := F.1.2.1
  intro n
  induction n with
  | zero => intro x1 x2 S h; cases h
  | succ n ih =>
    intro x1 x2 S h H locs ls w hl
    rw [f_Potentials_listOrders_L17] at h
    refine lv_iload_n (pc := 17) hx hb dX4_listOrders_17 rfl (lv_at hl 2 rfl) ?_
    refine lv_aload_n (pc := 18) hx hb dX4_listOrders_18 rfl (lv_at hl 0 rfl) ?_
    refine s_getI (pc := 19) F w ds_71 (j := 5) vc_X4 vi_X4 rfl (by decide) kf_X4_29 dX4_listOrders_19 ?_
    refine lv_icmp_gt (pc := 22) (tgt := 141) hx hb dX4_listOrders_22 (by decide) (fun q => ?_) (fun q => ?_)
    · have h := ite_t q h
      refine s_nm h (fun z2 ez2 h => ?_)
      refine lv_iinc (pc := 141) (v := z2) (lv' := [(1, .int z2), (0, .ref (ad 71)), (2, .int x2)]) hx hb dX4_listOrders_141 hl (k := 1) rfl (by rw [ez2]; rfl) (by decide) rfl (fun ls hl => ?_)
      refine lv_goto (pc := 144) (tgt := 2) hx hb dX4_listOrders_144 (by decide) ?_
      exact hK2 _ _ h _ _ _ w (lv_sub hl [1, 0] rfl)
    · have h := ite_f q h
      refine lv_iconst (pc := 25) (v := 1) hx hb dX4_listOrders_25 (by decide) ?_
      refine lv_istore_n (pc := 26) (lv' := [(3, .int (1 : Int32)), (0, .ref (ad 71)), (1, .int x1), (2, .int x2)]) hx hb dX4_listOrders_26 rfl hl (by decide) rfl (fun ls hl => ?_)
      exact w_Potentials_listOrders_L27 F (Nat.le_trans (by decide) hR1) (Nat.le_trans (by decide) hR2) _ (fun v0 v1 S h => ih v0 v1 S h) _ _ _ _ _ h _ _ _ w (lv_sub hl [1, 2, 3, 0] rfl)
set_option maxRecDepth 100000 in
set_option maxHeartbeats 4000000 in
theorem w_Potentials_listOrders_L2 {p : Program} {l : Launch} {e : Env} {R : Room} {s : State} {m : MethodId} {args : Array Value} {below : List Frame} {meth : Method} {c : Code} {dC : Nat → ClassId} {dI : Nat → Nat → Nat} {cs : Nat → ClassId} {ad : Nat → Nat} {A : Nat → Prop} {D0 : Nat → Nat} {S' : SS} (F : Fx p s m args meth c cX4_listOrders 5 RX4 none dC dI cs A) (hR1 : 2 ≤ R.frames) (hR2 : 64 ≤ R.locals) : ∀ (n : Nat) (x1 : Int32) (S : SS), f_Potentials_listOrders_L2 n x1 S = some S' → AW p l e R s m args below meth c dC dI cs ad A D0 none S' 5 2 [(0, .ref (ad 71)), (1, .int x1)] [] S := by
  have hx := F.1.1
  have hb := F.1.2.1
  intro n
  induction n with
  | zero => intro x1 S h; cases h
  | succ n ih =>
    intro x1 S h H locs ls w hl
    rw [f_Potentials_listOrders_L2] at h
    refine lv_iload_n (pc := 2) hx hb dX4_listOrders_2 rfl (lv_at hl 1 rfl) ?_
    refine lv_aload_n (pc := 3) hx hb dX4_listOrders_3 rfl (lv_at hl 0 rfl) ?_
    refine s_getI (pc := 4) F w ds_71 (j := 6) vc_X4 vi_X4 rfl (by decide) kf_X4_33 dX4_listOrders_4 ?_
    refine lv_icmp_ge (pc := 7) (tgt := 147) hx hb dX4_listOrders_7 (by decide) (fun q => ?_) (fun q => ?_)
    · have h := ite_t q h
      exact s_vret F w h dX4_listOrders_147
    · have h := ite_f q h
      refine lv_aload_n (pc := 10) hx hb dX4_listOrders_10 rfl (lv_at hl 0 rfl) ?_
      refine lv_iload_n (pc := 11) hx hb dX4_listOrders_11 rfl (lv_at hl 1 rfl) ?_
      obtain ⟨S1, hc, h⟩ := bndv_t h
      refine s_cvv (pc := 12) [.int x1] (fun ad => [.ref (ad 71), .int x1]) F w (m_Potentials_layOrder _ _ _ hc) rfl rfl hl.1 ds_71 vc_X4 rfl ok_X4_layOrder rfl kc_X4_layOrder kl_X4_128 ki_X4_layOrder kv_X4_layOrder kn_X4 ⟨Nat.le_trans (by decide) hR1, Nat.le_trans (by decide) hR2⟩ ⟨Nat.zero_le _, Nat.zero_le _⟩ (Nat.le_of_ble_eq_true rfl) dX4_listOrders_12 (fun H locs w => ?_)
      refine lv_iconst (pc := 15) (v := 2) hx hb dX4_listOrders_15 (by decide) ?_
      refine lv_istore_n (pc := 16) (lv' := [(2, .int (2 : Int32)), (0, .ref (ad 71)), (1, .int x1)]) hx hb dX4_listOrders_16 rfl hl (by decide) rfl (fun ls hl => ?_)
      exact w_Potentials_listOrders_L17 F (Nat.le_trans (by decide) hR1) (Nat.le_trans (by decide) hR2) _ (fun v0 S h => ih v0 S h) _ _ _ _ h _ _ _ w (lv_sub hl [1, 2, 0] rfl)
set_option maxRecDepth 100000 in
set_option maxHeartbeats 4000000 in
theorem m_Potentials_listOrders  (S S' : SS) (h : f_Potentials_listOrders  S = some S') : MT yX4_listOrders cX4_listOrders 5 none 2 64 (fun ad => [.ref (ad 71)]) S none S' := by
  refine MT.of RX4 (fun ad => [(0, .ref (ad 71))]) (by decide) rfl (fun _ => Nat.le_of_ble_eq_true rfl) (fun _ => rfl) ?_
  intro p l e R s m args below meth c dC dI cs ad A hR1 hR2 F H locs ls w hl
  have hx := F.1.1
  have hb := F.1.2.1
  rw [f_Potentials_listOrders] at h
  refine lv_iconst (pc := 0) (v := 0) hx hb dX4_listOrders_0 (by decide) ?_
  refine lv_istore_n (pc := 1) (lv' := [(1, .int (0 : Int32)), (0, .ref (ad 71))]) hx hb dX4_listOrders_1 rfl hl (by decide) rfl (fun ls hl => ?_)
  exact w_Potentials_listOrders_L2 F (Nat.le_trans (by decide) hR1) (Nat.le_trans (by decide) hR2) _ _ _ h _ _ _ w (lv_sub hl [1, 0] rfl)
def f_Potentials_takeWagons_L122  : Nat → Int32 → SS → Option (SS)
  | 0, _, _ => none
  | n + 1, x3, S =>
    if (S.1 71 5) < x3 then
      bndv (f_Potentials_growRows  S) (fun S4 =>
      bndv (f_Potentials_listShapes  S4) (fun S5 =>
      bndv (f_Potentials_listOrders  S5) (fun S6 =>
      some S6)))
    else
      wr S 71 6 ((S.1 71 6) * x3) (fun S7 =>
      nm (x3 + (1 : Int32)) (fun z8 =>
      f_Potentials_takeWagons_L122 n z8 S7))
def f_Potentials_takeWagons_j83  (x2 : Int32) (S : SS) : Option (SS) :=
    wr S 71 5 x2 (fun S1 =>
    wr S1 71 7 (((((S1.1 71 5) + (1 : Int32)) * ((S1.1 71 5) + (2 : Int32))) * ((S1.1 71 5) + (3 : Int32))) / (6 : Int32)) (fun S2 =>
    wr S2 71 6 (1 : Int32) (fun S3 =>
    f_Potentials_takeWagons_L122 NF (2 : Int32) S3)))
def f_Potentials_takeWagons_j59 (K4 : Int32 → Int32 → Int32 → SS → Option (SS)) (x1 : Int32) (x3 : Int32) (y0 : Int32) (y1 : Int32) (S : SS) : Option (SS) :=
    nm (y1 + y0) (fun z10 =>
    nm (x3 + (1 : Int32)) (fun z11 =>
    K4 x1 z10 z11 S))
def f_Potentials_takeWagons_j47 (K4 : Int32 → Int32 → Int32 → SS → Option (SS)) (x1 : Int32) (x2 : Int32) (x3 : Int32) (x4 : Int32) (y0 : Int32) (y1 : Int32) (S : SS) : Option (SS) :=
    grd (inb y1 10) (wr S 109 y1.toNatClampNeg y0 (fun S9 =>
    if x4 = 0 then
      f_Potentials_takeWagons_j59 K4 x1 x3 (0 : Int32) x2 S9
    else
      f_Potentials_takeWagons_j59 K4 x1 x3 (1 : Int32) x2 S9))
def f_Potentials_takeWagons_j29 (K4 : Int32 → Int32 → Int32 → SS → Option (SS)) (x1 : Int32) (x2 : Int32) (x3 : Int32) (y0 : Int32) (S : SS) : Option (SS) :=
    if y0 = 0 then
      f_Potentials_takeWagons_j47 K4 x1 x2 x3 y0 (-4 : Int32) x3 S
    else
      f_Potentials_takeWagons_j47 K4 x1 x2 x3 y0 x2 x3 S
def f_Potentials_takeWagons_j28 (K4 : Int32 → Int32 → Int32 → SS → Option (SS)) (x1 : Int32) (x2 : Int32) (x3 : Int32) (S : SS) : Option (SS) :=
    f_Potentials_takeWagons_j29 K4 x1 x2 x3 (0 : Int32) S
def f_Potentials_takeWagons_L4  : Nat → Int32 → Int32 → Int32 → SS → Option (SS)
  | 0, _, _, _, _ => none
  | n + 1, x1, x2, x3, S =>
    if (10 : Int32) ≤ x3 then
      if (S.1 71 7) ≤ 0 then
        f_Potentials_takeWagons_j83 x2 S
      else
        if x2 = (S.1 71 5) then
          some S
        else
          f_Potentials_takeWagons_j83 x2 S
    else
      if ((x1 >>> (x3 &&& 31)) &&& (1 : Int32)) = (1 : Int32) then
        if (5 : Int32) ≤ x2 then
          f_Potentials_takeWagons_j28 (fun v0 v1 v2 S => f_Potentials_takeWagons_L4 n v0 v1 v2 S) x1 x2 x3 S
        else
          f_Potentials_takeWagons_j29 (fun v0 v1 v2 S => f_Potentials_takeWagons_L4 n v0 v1 v2 S) x1 x2 x3 (1 : Int32) S
      else
        f_Potentials_takeWagons_j28 (fun v0 v1 v2 S => f_Potentials_takeWagons_L4 n v0 v1 v2 S) x1 x2 x3 S
def f_Potentials_takeWagons (a1 : Int32) (S : SS) : Option (SS) :=
  f_Potentials_takeWagons_L4 NF a1 (0 : Int32) (0 : Int32) S
theorem dX4_takeWagons_0 : decode cX4_takeWagons 0 = .ok (.iconst 0, 1) := dc_3 (by decide +kernel)
theorem dX4_takeWagons_1 : decode cX4_takeWagons 1 = .ok (.istore_n 2, 1) := dc_61 (by decide +kernel)
theorem dX4_takeWagons_2 : decode cX4_takeWagons 2 = .ok (.iconst 0, 1) := dc_3 (by decide +kernel)
theorem dX4_takeWagons_3 : decode cX4_takeWagons 3 = .ok (.istore_n 3, 1) := dc_62 (by decide +kernel)
theorem dX4_takeWagons_4 : decode cX4_takeWagons 4 = .ok (.iload_n 3, 1) := dc_29 (by decide +kernel)
theorem dX4_takeWagons_5 : decode cX4_takeWagons 5 = .ok (.bipush 10, 2) := dc_16 (a := 10) (by decide +kernel) (by decide)
theorem dX4_takeWagons_7 : decode cX4_takeWagons 7 = .ok (.if_icmp .ge 60, 3) := dc_162 (a := 0) (b := 60) (by decide +kernel) (by decide)
theorem dX4_takeWagons_10 : decode cX4_takeWagons 10 = .ok (.iload_n 1, 1) := dc_27 (by decide +kernel)
theorem dX4_takeWagons_11 : decode cX4_takeWagons 11 = .ok (.iload_n 3, 1) := dc_29 (by decide +kernel)
theorem dX4_takeWagons_12 : decode cX4_takeWagons 12 = .ok (.ishr, 1) := dc_122 (by decide +kernel)
theorem dX4_takeWagons_13 : decode cX4_takeWagons 13 = .ok (.iconst 1, 1) := dc_4 (by decide +kernel)
theorem dX4_takeWagons_14 : decode cX4_takeWagons 14 = .ok (.iand, 1) := dc_126 (by decide +kernel)
theorem dX4_takeWagons_15 : decode cX4_takeWagons 15 = .ok (.iconst 1, 1) := dc_4 (by decide +kernel)
theorem dX4_takeWagons_16 : decode cX4_takeWagons 16 = .ok (.if_icmp .ne 12, 3) := dc_160 (a := 0) (b := 12) (by decide +kernel) (by decide)
theorem dX4_takeWagons_19 : decode cX4_takeWagons 19 = .ok (.iload_n 2, 1) := dc_28 (by decide +kernel)
theorem dX4_takeWagons_20 : decode cX4_takeWagons 20 = .ok (.iconst 5, 1) := dc_8 (by decide +kernel)
theorem dX4_takeWagons_21 : decode cX4_takeWagons 21 = .ok (.if_icmp .ge 7, 3) := dc_162 (a := 0) (b := 7) (by decide +kernel) (by decide)
theorem dX4_takeWagons_24 : decode cX4_takeWagons 24 = .ok (.iconst 1, 1) := dc_4 (by decide +kernel)
theorem dX4_takeWagons_25 : decode cX4_takeWagons 25 = .ok (.goto 4, 3) := dc_167 (a := 0) (b := 4) (by decide +kernel) (by decide)
theorem dX4_takeWagons_28 : decode cX4_takeWagons 28 = .ok (.iconst 0, 1) := dc_3 (by decide +kernel)
theorem dX4_takeWagons_29 : decode cX4_takeWagons 29 = .ok (.istore 4, 2) := dc_54 (a := 4) (by decide +kernel)
theorem dX4_takeWagons_31 : decode cX4_takeWagons 31 = .ok (.aload_n 0, 1) := dc_42 (by decide +kernel)
theorem dX4_takeWagons_32 : decode cX4_takeWagons 32 = .ok (.getfield 11, 3) := dc_180 (a := 0) (b := 11) (by decide +kernel)
theorem dX4_takeWagons_35 : decode cX4_takeWagons 35 = .ok (.iload_n 3, 1) := dc_29 (by decide +kernel)
theorem dX4_takeWagons_36 : decode cX4_takeWagons 36 = .ok (.iload 4, 2) := dc_21 (a := 4) (by decide +kernel)
theorem dX4_takeWagons_38 : decode cX4_takeWagons 38 = .ok (.ifCond .eq 7, 3) := dc_153 (a := 0) (b := 7) (by decide +kernel) (by decide)
theorem dX4_takeWagons_41 : decode cX4_takeWagons 41 = .ok (.iload_n 2, 1) := dc_28 (by decide +kernel)
theorem dX4_takeWagons_42 : decode cX4_takeWagons 42 = .ok (.goto 5, 3) := dc_167 (a := 0) (b := 5) (by decide +kernel) (by decide)
theorem dX4_takeWagons_45 : decode cX4_takeWagons 45 = .ok (.bipush (-4), 2) := dc_16 (a := 252) (by decide +kernel) (by decide)
theorem dX4_takeWagons_47 : decode cX4_takeWagons 47 = .ok (.iastore, 1) := dc_79 (by decide +kernel)
theorem dX4_takeWagons_48 : decode cX4_takeWagons 48 = .ok (.iload_n 2, 1) := dc_28 (by decide +kernel)
theorem dX4_takeWagons_49 : decode cX4_takeWagons 49 = .ok (.iload 4, 2) := dc_21 (a := 4) (by decide +kernel)
theorem dX4_takeWagons_51 : decode cX4_takeWagons 51 = .ok (.ifCond .eq 7, 3) := dc_153 (a := 0) (b := 7) (by decide +kernel) (by decide)
theorem dX4_takeWagons_54 : decode cX4_takeWagons 54 = .ok (.iconst 1, 1) := dc_4 (by decide +kernel)
theorem dX4_takeWagons_55 : decode cX4_takeWagons 55 = .ok (.goto 4, 3) := dc_167 (a := 0) (b := 4) (by decide +kernel) (by decide)
theorem dX4_takeWagons_58 : decode cX4_takeWagons 58 = .ok (.iconst 0, 1) := dc_3 (by decide +kernel)
theorem dX4_takeWagons_59 : decode cX4_takeWagons 59 = .ok (.iadd, 1) := dc_96 (by decide +kernel)
theorem dX4_takeWagons_60 : decode cX4_takeWagons 60 = .ok (.istore_n 2, 1) := dc_61 (by decide +kernel)
theorem dX4_takeWagons_61 : decode cX4_takeWagons 61 = .ok (.iinc 3 1, 3) := dc_132 (a := 3) (b := 1) (by decide +kernel) (by decide)
theorem dX4_takeWagons_64 : decode cX4_takeWagons 64 = .ok (.goto (-60), 3) := dc_167 (a := 255) (b := 196) (by decide +kernel) (by decide)
theorem dX4_takeWagons_67 : decode cX4_takeWagons 67 = .ok (.aload_n 0, 1) := dc_42 (by decide +kernel)
theorem dX4_takeWagons_68 : decode cX4_takeWagons 68 = .ok (.getfield 36, 3) := dc_180 (a := 0) (b := 36) (by decide +kernel)
theorem dX4_takeWagons_71 : decode cX4_takeWagons 71 = .ok (.ifCond .le 12, 3) := dc_158 (a := 0) (b := 12) (by decide +kernel) (by decide)
theorem dX4_takeWagons_74 : decode cX4_takeWagons 74 = .ok (.iload_n 2, 1) := dc_28 (by decide +kernel)
theorem dX4_takeWagons_75 : decode cX4_takeWagons 75 = .ok (.aload_n 0, 1) := dc_42 (by decide +kernel)
theorem dX4_takeWagons_76 : decode cX4_takeWagons 76 = .ok (.getfield 29, 3) := dc_180 (a := 0) (b := 29) (by decide +kernel)
theorem dX4_takeWagons_79 : decode cX4_takeWagons 79 = .ok (.if_icmp .ne 4, 3) := dc_160 (a := 0) (b := 4) (by decide +kernel) (by decide)
theorem dX4_takeWagons_82 : decode cX4_takeWagons 82 = .ok (.return_, 1) := dc_177 (by decide +kernel)
theorem dX4_takeWagons_83 : decode cX4_takeWagons 83 = .ok (.aload_n 0, 1) := dc_42 (by decide +kernel)
theorem dX4_takeWagons_84 : decode cX4_takeWagons 84 = .ok (.iload_n 2, 1) := dc_28 (by decide +kernel)
theorem dX4_takeWagons_85 : decode cX4_takeWagons 85 = .ok (.putfield 29, 3) := dc_181 (a := 0) (b := 29) (by decide +kernel)
theorem dX4_takeWagons_88 : decode cX4_takeWagons 88 = .ok (.aload_n 0, 1) := dc_42 (by decide +kernel)
theorem dX4_takeWagons_89 : decode cX4_takeWagons 89 = .ok (.aload_n 0, 1) := dc_42 (by decide +kernel)
theorem dX4_takeWagons_90 : decode cX4_takeWagons 90 = .ok (.getfield 29, 3) := dc_180 (a := 0) (b := 29) (by decide +kernel)
theorem dX4_takeWagons_93 : decode cX4_takeWagons 93 = .ok (.iconst 1, 1) := dc_4 (by decide +kernel)
theorem dX4_takeWagons_94 : decode cX4_takeWagons 94 = .ok (.iadd, 1) := dc_96 (by decide +kernel)
theorem dX4_takeWagons_95 : decode cX4_takeWagons 95 = .ok (.aload_n 0, 1) := dc_42 (by decide +kernel)
theorem dX4_takeWagons_96 : decode cX4_takeWagons 96 = .ok (.getfield 29, 3) := dc_180 (a := 0) (b := 29) (by decide +kernel)
theorem dX4_takeWagons_99 : decode cX4_takeWagons 99 = .ok (.iconst 2, 1) := dc_5 (by decide +kernel)
theorem dX4_takeWagons_100 : decode cX4_takeWagons 100 = .ok (.iadd, 1) := dc_96 (by decide +kernel)
theorem dX4_takeWagons_101 : decode cX4_takeWagons 101 = .ok (.imul, 1) := dc_104 (by decide +kernel)
theorem dX4_takeWagons_102 : decode cX4_takeWagons 102 = .ok (.aload_n 0, 1) := dc_42 (by decide +kernel)
theorem dX4_takeWagons_103 : decode cX4_takeWagons 103 = .ok (.getfield 29, 3) := dc_180 (a := 0) (b := 29) (by decide +kernel)
theorem dX4_takeWagons_106 : decode cX4_takeWagons 106 = .ok (.iconst 3, 1) := dc_6 (by decide +kernel)
theorem dX4_takeWagons_107 : decode cX4_takeWagons 107 = .ok (.iadd, 1) := dc_96 (by decide +kernel)
theorem dX4_takeWagons_108 : decode cX4_takeWagons 108 = .ok (.imul, 1) := dc_104 (by decide +kernel)
theorem dX4_takeWagons_109 : decode cX4_takeWagons 109 = .ok (.bipush 6, 2) := dc_16 (a := 6) (by decide +kernel) (by decide)
theorem dX4_takeWagons_111 : decode cX4_takeWagons 111 = .ok (.idiv, 1) := dc_108 (by decide +kernel)
theorem dX4_takeWagons_112 : decode cX4_takeWagons 112 = .ok (.putfield 36, 3) := dc_181 (a := 0) (b := 36) (by decide +kernel)
theorem dX4_takeWagons_115 : decode cX4_takeWagons 115 = .ok (.aload_n 0, 1) := dc_42 (by decide +kernel)
theorem dX4_takeWagons_116 : decode cX4_takeWagons 116 = .ok (.iconst 1, 1) := dc_4 (by decide +kernel)
theorem dX4_takeWagons_117 : decode cX4_takeWagons 117 = .ok (.putfield 33, 3) := dc_181 (a := 0) (b := 33) (by decide +kernel)
theorem dX4_takeWagons_120 : decode cX4_takeWagons 120 = .ok (.iconst 2, 1) := dc_5 (by decide +kernel)
theorem dX4_takeWagons_121 : decode cX4_takeWagons 121 = .ok (.istore_n 3, 1) := dc_62 (by decide +kernel)
theorem dX4_takeWagons_122 : decode cX4_takeWagons 122 = .ok (.iload_n 3, 1) := dc_29 (by decide +kernel)
theorem dX4_takeWagons_123 : decode cX4_takeWagons 123 = .ok (.aload_n 0, 1) := dc_42 (by decide +kernel)
theorem dX4_takeWagons_124 : decode cX4_takeWagons 124 = .ok (.getfield 29, 3) := dc_180 (a := 0) (b := 29) (by decide +kernel)
theorem dX4_takeWagons_127 : decode cX4_takeWagons 127 = .ok (.if_icmp .gt 19, 3) := dc_163 (a := 0) (b := 19) (by decide +kernel) (by decide)
theorem dX4_takeWagons_130 : decode cX4_takeWagons 130 = .ok (.aload_n 0, 1) := dc_42 (by decide +kernel)
theorem dX4_takeWagons_131 : decode cX4_takeWagons 131 = .ok (.dup, 1) := dc_89 (by decide +kernel)
theorem dX4_takeWagons_132 : decode cX4_takeWagons 132 = .ok (.getfield 33, 3) := dc_180 (a := 0) (b := 33) (by decide +kernel)
theorem dX4_takeWagons_135 : decode cX4_takeWagons 135 = .ok (.iload_n 3, 1) := dc_29 (by decide +kernel)
theorem dX4_takeWagons_136 : decode cX4_takeWagons 136 = .ok (.imul, 1) := dc_104 (by decide +kernel)
theorem dX4_takeWagons_137 : decode cX4_takeWagons 137 = .ok (.putfield 33, 3) := dc_181 (a := 0) (b := 33) (by decide +kernel)
theorem dX4_takeWagons_140 : decode cX4_takeWagons 140 = .ok (.iinc 3 1, 3) := dc_132 (a := 3) (b := 1) (by decide +kernel) (by decide)
theorem dX4_takeWagons_143 : decode cX4_takeWagons 143 = .ok (.goto (-21), 3) := dc_167 (a := 255) (b := 235) (by decide +kernel) (by decide)
theorem dX4_takeWagons_146 : decode cX4_takeWagons 146 = .ok (.aload_n 0, 1) := dc_42 (by decide +kernel)
theorem dX4_takeWagons_147 : decode cX4_takeWagons 147 = .ok (.invokevirtual 119, 3) := dc_182 (a := 0) (b := 119) (by decide +kernel)
theorem dX4_takeWagons_150 : decode cX4_takeWagons 150 = .ok (.aload_n 0, 1) := dc_42 (by decide +kernel)
theorem dX4_takeWagons_151 : decode cX4_takeWagons 151 = .ok (.invokevirtual 122, 3) := dc_182 (a := 0) (b := 122) (by decide +kernel)
theorem dX4_takeWagons_154 : decode cX4_takeWagons 154 = .ok (.aload_n 0, 1) := dc_42 (by decide +kernel)
theorem dX4_takeWagons_155 : decode cX4_takeWagons 155 = .ok (.invokevirtual 125, 3) := dc_182 (a := 0) (b := 125) (by decide +kernel)
theorem dX4_takeWagons_158 : decode cX4_takeWagons 158 = .ok (.return_, 1) := dc_177 (by decide +kernel)
set_option maxRecDepth 100000 in
set_option maxHeartbeats 4000000 in
theorem w_Potentials_takeWagons_L122 {p : Program} {l : Launch} {e : Env} {R : Room} {s : State} {m : MethodId} {args : Array Value} {below : List Frame} {meth : Method} {c : Code} {dC : Nat → ClassId} {dI : Nat → Nat → Nat} {cs : Nat → ClassId} {ad ad0 : Nat → Nat} {A : Nat → Prop} {D0 : Nat → Nat} {S' : SS} (F : Fx p s m args meth c cX4_takeWagons 5 RX4 none dC dI cs A) (hR1 : 3 ≤ R.frames) (hR2 : 88 ≤ R.locals) (hRc : (8 * D0 200) ≤ R.cells) (hRs : (18641 * D0 200) ≤ R.slots) : ∀ (n : Nat) (x3 : Int32) (S : SS), f_Potentials_takeWagons_L122 n x3 S = some S' → AWX p l e R s m args below meth c dC dI cs ad0 ad A D0 none S' (8 * D0 200) (18641 * D0 200) 5 122 [(0, .ref (ad 71)), (3, .int x3)] [] 0 0 S := by
  have hx := F.1.1
  have hb := F.1.2.1
  intro n
  induction n with
  | zero => intro x3 S h; cases h
  | succ n ih =>
    intro x3 S h H locs ls hA w hl
    rw [f_Potentials_takeWagons_L122] at h
    refine lv_iload_n (pc := 122) hx hb dX4_takeWagons_122 rfl (lv_at hl 1 rfl) ?_
    refine lv_aload_n (pc := 123) hx hb dX4_takeWagons_123 rfl (lv_at hl 0 rfl) ?_
    refine s_getI (pc := 124) F w ds_71 (j := 5) vc_X4 vi_X4 rfl (by decide) kf_X4_29 dX4_takeWagons_124 ?_
    refine lv_icmp_gt (pc := 127) (tgt := 146) hx hb dX4_takeWagons_127 (by decide) (fun q => ?_) (fun q => ?_)
    · have h := ite_t q h
      refine lv_aload_n (pc := 146) hx hb dX4_takeWagons_146 rfl (lv_at hl 0 rfl) ?_
      obtain ⟨S4, hc, h⟩ := bndv_t h
      have hM := m_Potentials_growRows  _ _ hc
      rw [w.2.2.2] at hM
      refine s_cxv (pc := 147) [] (fun ad => [.ref (ad 71)]) F w hM rfl rfl hl.1 ds_71 vc_X4 rfl ok_X4_growRows rfl kc_X4_growRows kl_X4_119 ki_X4_growRows kv_X4_growRows kn_X4 ⟨Nat.le_trans (by decide) hR1, Nat.le_trans (by decide) hR2⟩ ⟨by rw [Nat.zero_add]; exact hRc, by rw [Nat.zero_add]; exact hRs⟩ (Nat.le_of_ble_eq_true rfl) dX4_takeWagons_147 (fun ad1 H locs hQ w => ?_)
      have hA := hA.tr hQ
      have hl : lv_has ls 5 [(0, .ref (ad1 71)), (3, .int x3)] := by rw [hQ 71 (by decide)]; exact hl
      refine lv_aload_n (pc := 150) hx hb dX4_takeWagons_150 rfl (lv_at hl 0 rfl) ?_
      obtain ⟨S5, hc, h⟩ := bndv_t h
      refine s_cvv (pc := 151) [] (fun ad => [.ref (ad 71)]) F w (m_Potentials_listShapes  _ _ hc) rfl rfl hl.1 ds_71 vc_X4 rfl ok_X4_listShapes rfl kc_X4_listShapes kl_X4_122 ki_X4_listShapes kv_X4_listShapes kn_X4 ⟨Nat.le_trans (by decide) hR1, Nat.le_trans (by decide) hR2⟩ ⟨by rw [Nat.zero_add]; exact hRc, by rw [Nat.zero_add]; exact hRs⟩ (Nat.le_of_ble_eq_true rfl) dX4_takeWagons_151 (fun H locs w => ?_)
      refine lv_aload_n (pc := 154) hx hb dX4_takeWagons_154 rfl (lv_at hl 0 rfl) ?_
      obtain ⟨S6, hc, h⟩ := bndv_t h
      refine s_cvv (pc := 155) [] (fun ad => [.ref (ad 71)]) F w (m_Potentials_listOrders  _ _ hc) rfl rfl hl.1 ds_71 vc_X4 rfl ok_X4_listOrders rfl kc_X4_listOrders kl_X4_125 ki_X4_listOrders kv_X4_listOrders kn_X4 ⟨Nat.le_trans (by decide) hR1, Nat.le_trans (by decide) hR2⟩ ⟨by rw [Nat.zero_add]; exact hRc, by rw [Nat.zero_add]; exact hRs⟩ (Nat.le_of_ble_eq_true rfl) dX4_takeWagons_155 (fun H locs w => ?_)
      exact s_vretX F w hA ⟨Nat.le_of_eq (Nat.zero_add _), Nat.le_of_eq (Nat.zero_add _)⟩ h dX4_takeWagons_158
    · have h := ite_f q h
      refine lv_aload_n (pc := 130) hx hb dX4_takeWagons_130 rfl (lv_at hl 0 rfl) ?_
      refine lv_dup (pc := 131) hx hb dX4_takeWagons_131 rfl ?_
      refine s_getI (pc := 132) F w ds_71 (j := 6) vc_X4 vi_X4 rfl (by decide) kf_X4_33 dX4_takeWagons_132 ?_
      refine lv_iload_n (pc := 135) hx hb dX4_takeWagons_135 rfl (lv_at hl 1 rfl) ?_
      refine lv_imul (pc := 136) hx hb dX4_takeWagons_136 ?_
      refine s_putI (pc := 137) F w ds_71 vc_X4 vi_X4 tyX4_ok nmX4 (j := 6) rfl (by decide) kf_X4_33 rfl pd_I h dX4_takeWagons_137 (fun S7 H locs h w => ?_)
      refine s_nm h (fun z8 ez8 h => ?_)
      refine lv_iinc (pc := 140) (v := z8) (lv' := [(3, .int z8), (0, .ref (ad 71))]) hx hb dX4_takeWagons_140 hl (k := 1) rfl (by rw [ez8]; rfl) (by decide) rfl (fun ls hl => ?_)
      refine lv_goto (pc := 143) (tgt := 122) hx hb dX4_takeWagons_143 (by decide) ?_
      exact ih _ _ h _ _ _ hA w (lv_sub hl [1, 0] rfl)
set_option maxRecDepth 100000 in
set_option maxHeartbeats 4000000 in
theorem w_Potentials_takeWagons_j83 {p : Program} {l : Launch} {e : Env} {R : Room} {s : State} {m : MethodId} {args : Array Value} {below : List Frame} {meth : Method} {c : Code} {dC : Nat → ClassId} {dI : Nat → Nat → Nat} {cs : Nat → ClassId} {ad ad0 : Nat → Nat} {A : Nat → Prop} {D0 : Nat → Nat} {S' : SS} (F : Fx p s m args meth c cX4_takeWagons 5 RX4 none dC dI cs A) (hR1 : 3 ≤ R.frames) (hR2 : 88 ≤ R.locals) (hRc : (8 * D0 200) ≤ R.cells) (hRs : (18641 * D0 200) ≤ R.slots) (x2 : Int32) (S : SS) (h : f_Potentials_takeWagons_j83 x2 S = some S') : AWX p l e R s m args below meth c dC dI cs ad0 ad A D0 none S' (8 * D0 200) (18641 * D0 200) 5 83 [(0, .ref (ad 71)), (2, .int x2)] [] 0 0 S := by
  have hx := F.1.1
  have hb := F.1.2.1
  intro H locs ls hA w hl
  rw [f_Potentials_takeWagons_j83] at h
  refine lv_aload_n (pc := 83) hx hb dX4_takeWagons_83 rfl (lv_at hl 0 rfl) ?_
  refine lv_iload_n (pc := 84) hx hb dX4_takeWagons_84 rfl (lv_at hl 1 rfl) ?_
  refine s_putI (pc := 85) F w ds_71 vc_X4 vi_X4 tyX4_ok nmX4 (j := 5) rfl (by decide) kf_X4_29 rfl pd_I h dX4_takeWagons_85 (fun S1 H locs h w => ?_)
  refine lv_aload_n (pc := 88) hx hb dX4_takeWagons_88 rfl (lv_at hl 0 rfl) ?_
  refine lv_aload_n (pc := 89) hx hb dX4_takeWagons_89 rfl (lv_at hl 0 rfl) ?_
  refine s_getI (pc := 90) F w ds_71 (j := 5) vc_X4 vi_X4 rfl (by decide) kf_X4_29 dX4_takeWagons_90 ?_
  refine lv_iconst (pc := 93) (v := 1) hx hb dX4_takeWagons_93 (by decide) ?_
  refine lv_iadd (pc := 94) hx hb dX4_takeWagons_94 ?_
  refine lv_aload_n (pc := 95) hx hb dX4_takeWagons_95 rfl (lv_at hl 0 rfl) ?_
  refine s_getI (pc := 96) F w ds_71 (j := 5) vc_X4 vi_X4 rfl (by decide) kf_X4_29 dX4_takeWagons_96 ?_
  refine lv_iconst (pc := 99) (v := 2) hx hb dX4_takeWagons_99 (by decide) ?_
  refine lv_iadd (pc := 100) hx hb dX4_takeWagons_100 ?_
  refine lv_imul (pc := 101) hx hb dX4_takeWagons_101 ?_
  refine lv_aload_n (pc := 102) hx hb dX4_takeWagons_102 rfl (lv_at hl 0 rfl) ?_
  refine s_getI (pc := 103) F w ds_71 (j := 5) vc_X4 vi_X4 rfl (by decide) kf_X4_29 dX4_takeWagons_103 ?_
  refine lv_iconst (pc := 106) (v := 3) hx hb dX4_takeWagons_106 (by decide) ?_
  refine lv_iadd (pc := 107) hx hb dX4_takeWagons_107 ?_
  refine lv_imul (pc := 108) hx hb dX4_takeWagons_108 ?_
  refine lv_bipush (pc := 109) (v := 6) hx hb dX4_takeWagons_109 (by decide) ?_
  refine lv_idiv (pc := 111) hx hb dX4_takeWagons_111 (by decide) ?_
  refine s_putI (pc := 112) F w ds_71 vc_X4 vi_X4 tyX4_ok nmX4 (j := 7) rfl (by decide) kf_X4_36 rfl pd_I h dX4_takeWagons_112 (fun S2 H locs h w => ?_)
  refine lv_aload_n (pc := 115) hx hb dX4_takeWagons_115 rfl (lv_at hl 0 rfl) ?_
  refine lv_iconst (pc := 116) (v := 1) hx hb dX4_takeWagons_116 (by decide) ?_
  refine s_putI (pc := 117) F w ds_71 vc_X4 vi_X4 tyX4_ok nmX4 (j := 6) rfl (by decide) kf_X4_33 rfl pd_I h dX4_takeWagons_117 (fun S3 H locs h w => ?_)
  refine lv_iconst (pc := 120) (v := 2) hx hb dX4_takeWagons_120 (by decide) ?_
  refine lv_istore_n (pc := 121) (lv' := [(3, .int (2 : Int32)), (0, .ref (ad 71)), (2, .int x2)]) hx hb dX4_takeWagons_121 rfl hl (by decide) rfl (fun ls hl => ?_)
  exact w_Potentials_takeWagons_L122 F (Nat.le_trans (by decide) hR1) (Nat.le_trans (by decide) hR2) hRc hRs _ _ _ h _ _ _ hA w (lv_sub hl [1, 0] rfl)
set_option maxRecDepth 100000 in
set_option maxHeartbeats 4000000 in
theorem w_Potentials_takeWagons_j59 {p : Program} {l : Launch} {e : Env} {R : Room} {s : State} {m : MethodId} {args : Array Value} {below : List Frame} {meth : Method} {c : Code} {dC : Nat → ClassId} {dI : Nat → Nat → Nat} {cs : Nat → ClassId} {ad ad0 : Nat → Nat} {A : Nat → Prop} {D0 : Nat → Nat} {S' : SS} (F : Fx p s m args meth c cX4_takeWagons 5 RX4 none dC dI cs A) (hR1 : 0 ≤ R.frames) (hR2 : 0 ≤ R.locals) (hRc : (8 * D0 200) ≤ R.cells) (hRs : (18641 * D0 200) ≤ R.slots) (K4 : Int32 → Int32 → Int32 → SS → Option (SS)) (hK4 : ∀ (v0 : Int32) (v1 : Int32) (v2 : Int32) (S : SS), K4 v0 v1 v2 S = some S' → AWX p l e R s m args below meth c dC dI cs ad0 ad A D0 none S' (8 * D0 200) (18641 * D0 200) 5 4 [(0, .ref (ad 71)), (1, .int v0), (2, .int v1), (3, .int v2)] [] 0 0 S) (x1 : Int32) (x3 : Int32) (y0 : Int32) (y1 : Int32) (S : SS) (h : f_Potentials_takeWagons_j59 K4 x1 x3 y0 y1 S = some S') : AWX p l e R s m args below meth c dC dI cs ad0 ad A D0 none S' (8 * D0 200) (18641 * D0 200) 5 59 [(0, .ref (ad 71)), (1, .int x1), (3, .int x3)] [.int y0, .int y1] 0 0 S := by
  have hx := F.1.1
  have hb := F.1.2.1
  intro H locs ls hA w hl
  rw [f_Potentials_takeWagons_j59] at h
  refine lv_iadd (pc := 59) hx hb dX4_takeWagons_59 ?_
  refine s_nm h (fun z10 ez10 h => ?_)
  rw [← ez10]
  refine lv_istore_n (pc := 60) (lv' := [(2, .int z10), (0, .ref (ad 71)), (1, .int x1), (3, .int x3)]) hx hb dX4_takeWagons_60 rfl hl (by decide) rfl (fun ls hl => ?_)
  refine s_nm h (fun z11 ez11 h => ?_)
  refine lv_iinc (pc := 61) (v := z11) (lv' := [(3, .int z11), (2, .int z10), (0, .ref (ad 71)), (1, .int x1)]) hx hb dX4_takeWagons_61 hl (k := 3) rfl (by rw [ez11]; rfl) (by decide) rfl (fun ls hl => ?_)
  refine lv_goto (pc := 64) (tgt := 4) hx hb dX4_takeWagons_64 (by decide) ?_
  exact hK4 _ _ _ _ h _ _ _ hA w (lv_sub hl [2, 3, 1, 0] rfl)
set_option maxRecDepth 100000 in
set_option maxHeartbeats 4000000 in
theorem w_Potentials_takeWagons_j47 {p : Program} {l : Launch} {e : Env} {R : Room} {s : State} {m : MethodId} {args : Array Value} {below : List Frame} {meth : Method} {c : Code} {dC : Nat → ClassId} {dI : Nat → Nat → Nat} {cs : Nat → ClassId} {ad ad0 : Nat → Nat} {A : Nat → Prop} {D0 : Nat → Nat} {S' : SS} (F : Fx p s m args meth c cX4_takeWagons 5 RX4 none dC dI cs A) (hR1 : 0 ≤ R.frames) (hR2 : 0 ≤ R.locals) (hRc : (8 * D0 200) ≤ R.cells) (hRs : (18641 * D0 200) ≤ R.slots) (K4 : Int32 → Int32 → Int32 → SS → Option (SS)) (hK4 : ∀ (v0 : Int32) (v1 : Int32) (v2 : Int32) (S : SS), K4 v0 v1 v2 S = some S' → AWX p l e R s m args below meth c dC dI cs ad0 ad A D0 none S' (8 * D0 200) (18641 * D0 200) 5 4 [(0, .ref (ad 71)), (1, .int v0), (2, .int v1), (3, .int v2)] [] 0 0 S) (x1 : Int32) (x2 : Int32) (x3 : Int32) (x4 : Int32) (y0 : Int32) (y1 : Int32) (S : SS) (h : f_Potentials_takeWagons_j47 K4 x1 x2 x3 x4 y0 y1 S = some S') : AWX p l e R s m args below meth c dC dI cs ad0 ad A D0 none S' (8 * D0 200) (18641 * D0 200) 5 47 [(0, .ref (ad 71)), (1, .int x1), (2, .int x2), (3, .int x3), (4, .int x4)] [.int y0, .int y1, .ref (ad 109)] 0 0 S := by
  have hx := F.1.1
  have hb := F.1.2.1
  intro H locs ls hA w hl
  rw [f_Potentials_takeWagons_j47] at h
  refine s_iast (pc := 47) F w ds_109 h dX4_takeWagons_47 (fun S9 H locs h w => ?_)
  refine lv_iload_n (pc := 48) hx hb dX4_takeWagons_48 rfl (lv_at hl 2 rfl) ?_
  refine lv_iload (pc := 49) hx hb dX4_takeWagons_49 (lv_at hl 4 rfl) ?_
  refine lv_if_eq (pc := 51) (tgt := 58) hx hb dX4_takeWagons_51 (by decide) (fun q => ?_) (fun q => ?_)
  · have h := ite_t q h
    refine lv_iconst (pc := 58) (v := 0) hx hb dX4_takeWagons_58 (by decide) ?_
    exact w_Potentials_takeWagons_j59 F (Nat.le_trans (by decide) hR1) (Nat.le_trans (by decide) hR2) hRc hRs _ hK4 _ _ _ _ _ h _ _ _ hA w (lv_sub hl [0, 1, 3] rfl)
  · have h := ite_f q h
    refine lv_iconst (pc := 54) (v := 1) hx hb dX4_takeWagons_54 (by decide) ?_
    refine lv_goto (pc := 55) (tgt := 59) hx hb dX4_takeWagons_55 (by decide) ?_
    exact w_Potentials_takeWagons_j59 F (Nat.le_trans (by decide) hR1) (Nat.le_trans (by decide) hR2) hRc hRs _ hK4 _ _ _ _ _ h _ _ _ hA w (lv_sub hl [0, 1, 3] rfl)
set_option maxRecDepth 100000 in
set_option maxHeartbeats 4000000 in
theorem w_Potentials_takeWagons_j29 {p : Program} {l : Launch} {e : Env} {R : Room} {s : State} {m : MethodId} {args : Array Value} {below : List Frame} {meth : Method} {c : Code} {dC : Nat → ClassId} {dI : Nat → Nat → Nat} {cs : Nat → ClassId} {ad ad0 : Nat → Nat} {A : Nat → Prop} {D0 : Nat → Nat} {S' : SS} (F : Fx p s m args meth c cX4_takeWagons 5 RX4 none dC dI cs A) (hR1 : 0 ≤ R.frames) (hR2 : 0 ≤ R.locals) (hRc : (8 * D0 200) ≤ R.cells) (hRs : (18641 * D0 200) ≤ R.slots) (K4 : Int32 → Int32 → Int32 → SS → Option (SS)) (hK4 : ∀ (v0 : Int32) (v1 : Int32) (v2 : Int32) (S : SS), K4 v0 v1 v2 S = some S' → AWX p l e R s m args below meth c dC dI cs ad0 ad A D0 none S' (8 * D0 200) (18641 * D0 200) 5 4 [(0, .ref (ad 71)), (1, .int v0), (2, .int v1), (3, .int v2)] [] 0 0 S) (x1 : Int32) (x2 : Int32) (x3 : Int32) (y0 : Int32) (S : SS) (h : f_Potentials_takeWagons_j29 K4 x1 x2 x3 y0 S = some S') : AWX p l e R s m args below meth c dC dI cs ad0 ad A D0 none S' (8 * D0 200) (18641 * D0 200) 5 29 [(0, .ref (ad 71)), (1, .int x1), (2, .int x2), (3, .int x3)] [.int y0] 0 0 S := by
  have hx := F.1.1
  have hb := F.1.2.1
  intro H locs ls hA w hl
  rw [f_Potentials_takeWagons_j29] at h
  refine lv_istore (pc := 29) (lv' := [(4, .int y0), (0, .ref (ad 71)), (1, .int x1), (2, .int x2), (3, .int x3)]) hx hb dX4_takeWagons_29 hl (by decide) rfl (fun ls hl => ?_)
  refine lv_aload_n (pc := 31) hx hb dX4_takeWagons_31 rfl (lv_at hl 1 rfl) ?_
  refine s_getR (pc := 32) F w 109 ds_71 (j := 0) vc_X4 vi_X4 rfl (by decide) kf_X4_11 dX4_takeWagons_32 ?_
  refine lv_iload_n (pc := 35) hx hb dX4_takeWagons_35 rfl (lv_at hl 4 rfl) ?_
  refine lv_iload (pc := 36) hx hb dX4_takeWagons_36 (lv_at hl 0 rfl) ?_
  refine lv_if_eq (pc := 38) (tgt := 45) hx hb dX4_takeWagons_38 (by decide) (fun q => ?_) (fun q => ?_)
  · have h := ite_t q h
    refine lv_bipush (pc := 45) (v := -4) hx hb dX4_takeWagons_45 (by decide) ?_
    exact w_Potentials_takeWagons_j47 F (Nat.le_trans (by decide) hR1) (Nat.le_trans (by decide) hR2) hRc hRs _ hK4 _ _ _ _ _ _ _ h _ _ _ hA w (lv_sub hl [1, 2, 3, 4, 0] rfl)
  · have h := ite_f q h
    refine lv_iload_n (pc := 41) hx hb dX4_takeWagons_41 rfl (lv_at hl 3 rfl) ?_
    refine lv_goto (pc := 42) (tgt := 47) hx hb dX4_takeWagons_42 (by decide) ?_
    exact w_Potentials_takeWagons_j47 F (Nat.le_trans (by decide) hR1) (Nat.le_trans (by decide) hR2) hRc hRs _ hK4 _ _ _ _ _ _ _ h _ _ _ hA w (lv_sub hl [1, 2, 3, 4, 0] rfl)
set_option maxRecDepth 100000 in
set_option maxHeartbeats 4000000 in
theorem w_Potentials_takeWagons_j28 {p : Program} {l : Launch} {e : Env} {R : Room} {s : State} {m : MethodId} {args : Array Value} {below : List Frame} {meth : Method} {c : Code} {dC : Nat → ClassId} {dI : Nat → Nat → Nat} {cs : Nat → ClassId} {ad ad0 : Nat → Nat} {A : Nat → Prop} {D0 : Nat → Nat} {S' : SS} (F : Fx p s m args meth c cX4_takeWagons 5 RX4 none dC dI cs A) (hR1 : 0 ≤ R.frames) (hR2 : 0 ≤ R.locals) (hRc : (8 * D0 200) ≤ R.cells) (hRs : (18641 * D0 200) ≤ R.slots) (K4 : Int32 → Int32 → Int32 → SS → Option (SS)) (hK4 : ∀ (v0 : Int32) (v1 : Int32) (v2 : Int32) (S : SS), K4 v0 v1 v2 S = some S' → AWX p l e R s m args below meth c dC dI cs ad0 ad A D0 none S' (8 * D0 200) (18641 * D0 200) 5 4 [(0, .ref (ad 71)), (1, .int v0), (2, .int v1), (3, .int v2)] [] 0 0 S) (x1 : Int32) (x2 : Int32) (x3 : Int32) (S : SS) (h : f_Potentials_takeWagons_j28 K4 x1 x2 x3 S = some S') : AWX p l e R s m args below meth c dC dI cs ad0 ad A D0 none S' (8 * D0 200) (18641 * D0 200) 5 28 [(0, .ref (ad 71)), (1, .int x1), (2, .int x2), (3, .int x3)] [] 0 0 S := by
  have hx := F.1.1
  have hb := F.1.2.1
  intro H locs ls hA w hl
  rw [f_Potentials_takeWagons_j28] at h
  refine lv_iconst (pc := 28) (v := 0) hx hb dX4_takeWagons_28 (by decide) ?_
  exact w_Potentials_takeWagons_j29 F (Nat.le_trans (by decide) hR1) (Nat.le_trans (by decide) hR2) hRc hRs _ hK4 _ _ _ _ _ h _ _ _ hA w (lv_sub hl [0, 1, 2, 3] rfl)
set_option maxRecDepth 100000 in
set_option maxHeartbeats 4000000 in
theorem w_Potentials_takeWagons_L4 {p : Program} {l : Launch} {e : Env} {R : Room} {s : State} {m : MethodId} {args : Array Value} {below : List Frame} {meth : Method} {c : Code} {dC : Nat → ClassId} {dI : Nat → Nat → Nat} {cs : Nat → ClassId} {ad ad0 : Nat → Nat} {A : Nat → Prop} {D0 : Nat → Nat} {S' : SS} (F : Fx p s m args meth c cX4_takeWagons 5 RX4 none dC dI cs A) (hR1 : 3 ≤ R.frames) (hR2 : 88 ≤ R.locals) (hRc : (8 * D0 200) ≤ R.cells) (hRs : (18641 * D0 200) ≤ R.slots) : ∀ (n : Nat) (x1 : Int32) (x2 : Int32) (x3 : Int32) (S : SS), f_Potentials_takeWagons_L4 n x1 x2 x3 S = some S' → AWX p l e R s m args below meth c dC dI cs ad0 ad A D0 none S' (8 * D0 200) (18641 * D0 200) 5 4 [(0, .ref (ad 71)), (1, .int x1), (2, .int x2), (3, .int x3)] [] 0 0 S := by
  have hx := F.1.1
  have hb := F.1.2.1
  intro n
  induction n with
  | zero => intro x1 x2 x3 S h; cases h
  | succ n ih =>
    intro x1 x2 x3 S h H locs ls hA w hl
    rw [f_Potentials_takeWagons_L4] at h
    refine lv_iload_n (pc := 4) hx hb dX4_takeWagons_4 rfl (lv_at hl 3 rfl) ?_
    refine lv_bipush (pc := 5) (v := 10) hx hb dX4_takeWagons_5 (by decide) ?_
    refine lv_icmp_ge (pc := 7) (tgt := 67) hx hb dX4_takeWagons_7 (by decide) (fun q => ?_) (fun q => ?_)
    · have h := ite_t q h
      refine lv_aload_n (pc := 67) hx hb dX4_takeWagons_67 rfl (lv_at hl 0 rfl) ?_
      refine s_getI (pc := 68) F w ds_71 (j := 7) vc_X4 vi_X4 rfl (by decide) kf_X4_36 dX4_takeWagons_68 ?_
      refine lv_if_le (pc := 71) (tgt := 83) hx hb dX4_takeWagons_71 (by decide) (fun q => ?_) (fun q => ?_)
      · have h := ite_t q h
        exact w_Potentials_takeWagons_j83 F (Nat.le_trans (by decide) hR1) (Nat.le_trans (by decide) hR2) hRc hRs _ _ h _ _ _ hA w (lv_sub hl [0, 2] rfl)
      · have h := ite_f q h
        refine lv_iload_n (pc := 74) hx hb dX4_takeWagons_74 rfl (lv_at hl 2 rfl) ?_
        refine lv_aload_n (pc := 75) hx hb dX4_takeWagons_75 rfl (lv_at hl 0 rfl) ?_
        refine s_getI (pc := 76) F w ds_71 (j := 5) vc_X4 vi_X4 rfl (by decide) kf_X4_29 dX4_takeWagons_76 ?_
        refine lv_icmp_ne (pc := 79) (tgt := 83) hx hb dX4_takeWagons_79 (by decide) (fun q => ?_) (fun q => ?_)
        · have h := ite_f q h
          exact w_Potentials_takeWagons_j83 F (Nat.le_trans (by decide) hR1) (Nat.le_trans (by decide) hR2) hRc hRs _ _ h _ _ _ hA w (lv_sub hl [0, 2] rfl)
        · have h := ite_t q h
          exact s_vretX F w hA ⟨Nat.zero_le _, Nat.zero_le _⟩ h dX4_takeWagons_82
    · have h := ite_f q h
      refine lv_iload_n (pc := 10) hx hb dX4_takeWagons_10 rfl (lv_at hl 1 rfl) ?_
      refine lv_iload_n (pc := 11) hx hb dX4_takeWagons_11 rfl (lv_at hl 3 rfl) ?_
      refine lv_ishr (pc := 12) hx hb dX4_takeWagons_12 ?_
      refine lv_iconst (pc := 13) (v := 1) hx hb dX4_takeWagons_13 (by decide) ?_
      refine lv_iand (pc := 14) hx hb dX4_takeWagons_14 ?_
      refine lv_iconst (pc := 15) (v := 1) hx hb dX4_takeWagons_15 (by decide) ?_
      refine lv_icmp_ne (pc := 16) (tgt := 28) hx hb dX4_takeWagons_16 (by decide) (fun q => ?_) (fun q => ?_)
      · have h := ite_f q h
        exact w_Potentials_takeWagons_j28 F (Nat.le_trans (by decide) hR1) (Nat.le_trans (by decide) hR2) hRc hRs _ (fun v0 v1 v2 S h => ih v0 v1 v2 S h) _ _ _ _ h _ _ _ hA w (lv_sub hl [0, 1, 2, 3] rfl)
      · have h := ite_t q h
        refine lv_iload_n (pc := 19) hx hb dX4_takeWagons_19 rfl (lv_at hl 2 rfl) ?_
        refine lv_iconst (pc := 20) (v := 5) hx hb dX4_takeWagons_20 (by decide) ?_
        refine lv_icmp_ge (pc := 21) (tgt := 28) hx hb dX4_takeWagons_21 (by decide) (fun q => ?_) (fun q => ?_)
        · have h := ite_t q h
          exact w_Potentials_takeWagons_j28 F (Nat.le_trans (by decide) hR1) (Nat.le_trans (by decide) hR2) hRc hRs _ (fun v0 v1 v2 S h => ih v0 v1 v2 S h) _ _ _ _ h _ _ _ hA w (lv_sub hl [0, 1, 2, 3] rfl)
        · have h := ite_f q h
          refine lv_iconst (pc := 24) (v := 1) hx hb dX4_takeWagons_24 (by decide) ?_
          refine lv_goto (pc := 25) (tgt := 29) hx hb dX4_takeWagons_25 (by decide) ?_
          exact w_Potentials_takeWagons_j29 F (Nat.le_trans (by decide) hR1) (Nat.le_trans (by decide) hR2) hRc hRs _ (fun v0 v1 v2 S h => ih v0 v1 v2 S h) _ _ _ _ _ h _ _ _ hA w (lv_sub hl [0, 1, 2, 3] rfl)
set_option maxRecDepth 100000 in
set_option maxHeartbeats 4000000 in
theorem m_Potentials_takeWagons (a1 : Int32) (S S' : SS) (h : f_Potentials_takeWagons a1 S = some S') : MX yX4_takeWagons cX4_takeWagons 5 none 3 88 (fun ad => [.ref (ad 71), .int a1]) S none S' (8 * S.2 200) (18641 * S.2 200) := by
  refine MX.of RX4 (fun ad => [(0, .ref (ad 71)), (1, .int a1)]) (by decide) rfl (fun _ => Nat.le_of_ble_eq_true rfl) (fun _ => rfl) ?_
  intro p l e R s m args below meth c dC dI cs ad A hR1 hR2 hRc hRs F H locs ls hA w hl
  have hx := F.1.1
  have hb := F.1.2.1
  rw [f_Potentials_takeWagons] at h
  refine lv_iconst (pc := 0) (v := 0) hx hb dX4_takeWagons_0 (by decide) ?_
  refine lv_istore_n (pc := 1) (lv' := [(2, .int (0 : Int32)), (0, .ref (ad 71)), (1, .int a1)]) hx hb dX4_takeWagons_1 rfl hl (by decide) rfl (fun ls hl => ?_)
  refine lv_iconst (pc := 2) (v := 0) hx hb dX4_takeWagons_2 (by decide) ?_
  refine lv_istore_n (pc := 3) (lv' := [(3, .int (0 : Int32)), (2, .int (0 : Int32)), (0, .ref (ad 71)), (1, .int a1)]) hx hb dX4_takeWagons_3 rfl hl (by decide) rfl (fun ls hl => ?_)
  exact w_Potentials_takeWagons_L4 F (Nat.le_trans (by decide) hR1) (Nat.le_trans (by decide) hR2) hRc hRs _ _ _ _ _ h _ _ _ hA w (lv_sub hl [2, 3, 1, 0] rfl)
def f_Arrays_fill_53178_Potentials_least_L5  : Nat → Int32 → Int32 → Int32 → SS → Option (SS)
  | 0, _, _, _, _ => none
  | n + 1, x1, x2, x3, S =>
    if x3 ≤ x2 then
      some S
    else
      grd (inb x2 (S.2 120)) (wr S 120 x2.toNatClampNeg x1 (fun S2 =>
      nm (x2 + (1 : Int32)) (fun z3 =>
      f_Arrays_fill_53178_Potentials_least_L5 n x1 z3 x3 S2)))
def f_Arrays_fill_53178_Potentials_least (a1 : Int32) (S : SS) : Option (SS) :=
  nm (Int32.ofNat (S.2 120)) (fun z1 =>
  f_Arrays_fill_53178_Potentials_least_L5 NF a1 (0 : Int32) z1 S)
set_option maxRecDepth 100000 in
set_option maxHeartbeats 4000000 in
theorem w_Arrays_fill_53178_Potentials_least_L5 {p : Program} {l : Launch} {e : Env} {R : Room} {s : State} {m : MethodId} {args : Array Value} {below : List Frame} {meth : Method} {c : Code} {dC : Nat → ClassId} {dI : Nat → Nat → Nat} {cs : Nat → ClassId} {ad : Nat → Nat} {A : Nat → Prop} {D0 : Nat → Nat} {S' : SS} (F : Fx p s m args meth c cJ7_fill_53178 4 RJ7 none dC dI cs A) (hR1 : 0 ≤ R.frames) (hR2 : 0 ≤ R.locals) : ∀ (n : Nat) (x1 : Int32) (x2 : Int32) (x3 : Int32) (S : SS), f_Arrays_fill_53178_Potentials_least_L5 n x1 x2 x3 S = some S' → AW p l e R s m args below meth c dC dI cs ad A D0 none S' 4 5 [(0, .ref (ad 120)), (1, .int x1), (2, .int x2), (3, .int x3)] [] S := by
  have hx := F.1.1
  have hb := F.1.2.1
  intro n
  induction n with
  | zero => intro x1 x2 x3 S h; cases h
  | succ n ih =>
    intro x1 x2 x3 S h H locs ls w hl
    rw [f_Arrays_fill_53178_Potentials_least_L5] at h
    refine lv_iload_n (pc := 5) hx hb dJ7_fill_53178_5 rfl (lv_at hl 2 rfl) ?_
    refine lv_iload_n (pc := 6) hx hb dJ7_fill_53178_6 rfl (lv_at hl 3 rfl) ?_
    refine lv_icmp_ge (pc := 7) (tgt := 20) hx hb dJ7_fill_53178_7 (by decide) (fun q => ?_) (fun q => ?_)
    · have h := ite_t q h
      exact s_vret F w h dJ7_fill_53178_20
    · have h := ite_f q h
      refine lv_aload_n (pc := 10) hx hb dJ7_fill_53178_10 rfl (lv_at hl 0 rfl) ?_
      refine lv_iload_n (pc := 11) hx hb dJ7_fill_53178_11 rfl (lv_at hl 2 rfl) ?_
      refine lv_iload_n (pc := 12) hx hb dJ7_fill_53178_12 rfl (lv_at hl 1 rfl) ?_
      refine s_iast (pc := 13) F w ds_120 h dJ7_fill_53178_13 (fun S2 H locs h w => ?_)
      refine s_nm h (fun z3 ez3 h => ?_)
      refine lv_iinc (pc := 14) (v := z3) (lv' := [(2, .int z3), (0, .ref (ad 120)), (1, .int x1), (3, .int x3)]) hx hb dJ7_fill_53178_14 hl (k := 2) rfl (by rw [ez3]; rfl) (by decide) rfl (fun ls hl => ?_)
      refine lv_goto (pc := 17) (tgt := 5) hx hb dJ7_fill_53178_17 (by decide) ?_
      exact ih _ _ _ _ h _ _ _ w (lv_sub hl [1, 2, 0, 3] rfl)
set_option maxRecDepth 100000 in
set_option maxHeartbeats 4000000 in
theorem m_Arrays_fill_53178_Potentials_least (a1 : Int32) (S S' : SS) (h : f_Arrays_fill_53178_Potentials_least a1 S = some S') : MT yJ7_fill_53178 cJ7_fill_53178 4 none 0 0 (fun ad => [.ref (ad 120), .int a1]) S none S' := by
  refine MT.ofF RJ7 (fun ad => [(0, .ref (ad 120)), (1, .int a1)]) (by decide +kernel) rfl (fun _ => Nat.le_of_ble_eq_true rfl) (fun _ => rfl) ?_
  intro p l e R s m args below meth c dC dI cs ad A hR1 hR2 F H locs ls w hl
  have hx := F.1.1
  have hb := F.1.2.1
  rw [f_Arrays_fill_53178_Potentials_least] at h
  refine lv_iconst (pc := 0) (v := 0) hx hb dJ7_fill_53178_0 (by decide) ?_
  refine lv_istore_n (pc := 1) (lv' := [(2, .int (0 : Int32)), (0, .ref (ad 120)), (1, .int a1)]) hx hb dJ7_fill_53178_1 rfl hl (by decide) rfl (fun ls hl => ?_)
  refine lv_aload_n (pc := 2) hx hb dJ7_fill_53178_2 rfl (lv_at hl 1 rfl) ?_
  refine s_alen (pc := 3) F w ds_120 dJ7_fill_53178_3 ?_
  show W _ _ _ _ _ _ _ _ _ _ _ _ _ _ _ (F0 _ _ _ (.int (Int32.ofNat (S.2 120)) :: _))
  refine s_nm h (fun z1 ez1 h => ?_)
  rw [← ez1]
  refine lv_istore_n (pc := 4) (lv' := [(3, .int z1), (2, .int (0 : Int32)), (0, .ref (ad 120)), (1, .int a1)]) hx hb dJ7_fill_53178_4 rfl hl (by decide) rfl (fun ls hl => ?_)
  exact w_Arrays_fill_53178_Potentials_least_L5 F (Nat.le_trans (by decide) hR1) (Nat.le_trans (by decide) hR2) _ _ _ _ _ h _ _ _ w (lv_sub hl [2, 3, 1, 0] rfl)
def f_Potentials_spreadFrom_goal_Plans_rooms_j188 (K105 : Int32 → Int32 → Int32 → Int32 → Int32 → SS → Option (SS)) (x4 : Int32) (x5 : Int32) (x6 : Int32) (x7 : Int32) (x8 : Int32) (S : SS) : Option (SS) :=
    nm (x8 + (1 : Int32)) (fun z20 =>
    K105 x4 x5 x6 x7 z20 S)
def f_Potentials_spreadFrom_goal_Plans_rooms_L105 (K57 : Int32 → Int32 → SS → Option (SS)) : Nat → Int32 → Int32 → Int32 → Int32 → Int32 → SS → Option (SS)
  | 0, _, _, _, _, _, _ => none
  | n + 1, x4, x5, x6, x7, x8, S =>
    grd (inb (x7 + (1 : Int32)) (S.2 116)) (
    if (S.1 116 (x7 + (1 : Int32)).toNatClampNeg) ≤ x8 then
      nm (x5 + (1 : Int32)) (fun z15 =>
      K57 x4 z15 S)
    else
      bnd (f_Potentials_rankAfter x6 x8 S) (fun r17 S16 =>
      bnd (f_Potentials_isRank r17 S16) (fun r19 S18 =>
      if r19 = 0 then
        f_Potentials_spreadFrom_goal_Plans_rooms_j188 (fun v0 v1 v2 v3 v4 S => f_Potentials_spreadFrom_goal_Plans_rooms_L105 K57 n v0 v1 v2 v3 v4 S) x4 x5 x6 x7 x8 S18
      else
        grd (inb r17 (S18.2 120)) (
        if (S18.1 120 r17.toNatClampNeg) = (-4 : Int32) then
          if (Int32.ofNat (S18.2 121)) ≤ x4 then
            f_Potentials_spreadFrom_goal_Plans_rooms_j188 (fun v0 v1 v2 v3 v4 S => f_Potentials_spreadFrom_goal_Plans_rooms_L105 K57 n v0 v1 v2 v3 v4 S) x4 x5 x6 x7 x8 S18
          else
            grd (inb x6 (S18.2 120)) (
            grd (inb r17 (S18.2 120)) (wr S18 120 r17.toNatClampNeg ((S18.1 120 x6.toNatClampNeg) + (1 : Int32)) (fun S21 =>
            grd (inb x4 (S21.2 121)) (wr S21 121 x4.toNatClampNeg r17 (fun S22 =>
            nm (x4 + (1 : Int32)) (fun z23 =>
            f_Potentials_spreadFrom_goal_Plans_rooms_j188 (fun v0 v1 v2 v3 v4 S => f_Potentials_spreadFrom_goal_Plans_rooms_L105 K57 n v0 v1 v2 v3 v4 S) z23 x5 x6 x7 x8 S22))))))
        else
          f_Potentials_spreadFrom_goal_Plans_rooms_j188 (fun v0 v1 v2 v3 v4 S => f_Potentials_spreadFrom_goal_Plans_rooms_L105 K57 n v0 v1 v2 v3 v4 S) x4 x5 x6 x7 x8 S18))))
def f_Potentials_spreadFrom_goal_Plans_rooms_L57  : Nat → Int32 → Int32 → SS → Option (SS)
  | 0, _, _, _ => none
  | n + 1, x4, x5, S =>
    if x4 ≤ x5 then
      some S
    else
      if ((S.1 71 6) * (S.1 71 7)) ≤ x5 then
        some S
      else
        grd (inb x5 (S.2 121)) (
        nm (S.1 121 x5.toNatClampNeg) (fun z12 =>
        grd (!(decide (S.1 71 7 = 0))) (
        nm (z12 - z12 / (S.1 71 7) * (S.1 71 7)) (fun z13 =>
        grd (inb z13 (S.2 116)) (
        nm (S.1 116 z13.toNatClampNeg) (fun z14 =>
        f_Potentials_spreadFrom_goal_Plans_rooms_L105 (fun v0 v1 S => f_Potentials_spreadFrom_goal_Plans_rooms_L57 n v0 v1 S) NF x4 x5 z12 z13 z14 S))))))
def f_Potentials_spreadFrom_goal_Plans_rooms  (S : SS) : Option (SS) :=
  bnd (f_Stacks_members_goal  S) (fun r2 S1 =>
  bndv (f_Potentials_takeWagons r2 S1) (fun S3 =>
  bndv (f_Potentials_listEntries_Plans_rooms  S3) (fun S4 =>
  bndv (f_Arrays_fill_53178_Potentials_least (-4 : Int32) S4) (fun S5 =>
  bnd (f_Potentials_rankOf_goal  S5) (fun r7 S6 =>
  bnd (f_Potentials_isRank r7 S6) (fun r9 S8 =>
  if r9 = 0 then
    some S8
  else
    grd (inb r7 (S8.2 120)) (wr S8 120 r7.toNatClampNeg (0 : Int32) (fun S10 =>
    grd (inb (0 : Int32) (S10.2 121)) (wr S10 121 (0 : Int32).toNatClampNeg r7 (fun S11 =>
    f_Potentials_spreadFrom_goal_Plans_rooms_L57 NF (1 : Int32) (0 : Int32) S11))))))))))
theorem dX4_spreadFrom_0 : decode cX4_spreadFrom 0 = .ok (.aload_n 0, 1) := dc_42 (by decide +kernel)
theorem dX4_spreadFrom_1 : decode cX4_spreadFrom 1 = .ok (.aload_n 1, 1) := dc_43 (by decide +kernel)
theorem dX4_spreadFrom_2 : decode cX4_spreadFrom 2 = .ok (.invokevirtual 94, 3) := dc_182 (a := 0) (b := 94) (by decide +kernel)
theorem dX4_spreadFrom_5 : decode cX4_spreadFrom 5 = .ok (.invokevirtual 98, 3) := dc_182 (a := 0) (b := 98) (by decide +kernel)
theorem dX4_spreadFrom_8 : decode cX4_spreadFrom 8 = .ok (.aload_n 0, 1) := dc_42 (by decide +kernel)
theorem dX4_spreadFrom_9 : decode cX4_spreadFrom 9 = .ok (.aload_n 2, 1) := dc_44 (by decide +kernel)
theorem dX4_spreadFrom_10 : decode cX4_spreadFrom 10 = .ok (.invokevirtual 102, 3) := dc_182 (a := 0) (b := 102) (by decide +kernel)
theorem dX4_spreadFrom_13 : decode cX4_spreadFrom 13 = .ok (.aload_n 0, 1) := dc_42 (by decide +kernel)
theorem dX4_spreadFrom_14 : decode cX4_spreadFrom 14 = .ok (.getfield 57, 3) := dc_180 (a := 0) (b := 57) (by decide +kernel)
theorem dX4_spreadFrom_17 : decode cX4_spreadFrom 17 = .ok (.bipush (-4), 2) := dc_16 (a := 252) (by decide +kernel) (by decide)
theorem dX4_spreadFrom_19 : decode cX4_spreadFrom 19 = .ok (.invokestatic 106, 3) := dc_184 (a := 0) (b := 106) (by decide +kernel)
theorem dX4_spreadFrom_22 : decode cX4_spreadFrom 22 = .ok (.aload_n 0, 1) := dc_42 (by decide +kernel)
theorem dX4_spreadFrom_23 : decode cX4_spreadFrom 23 = .ok (.aload_n 1, 1) := dc_43 (by decide +kernel)
theorem dX4_spreadFrom_24 : decode cX4_spreadFrom 24 = .ok (.invokevirtual 112, 3) := dc_182 (a := 0) (b := 112) (by decide +kernel)
theorem dX4_spreadFrom_27 : decode cX4_spreadFrom 27 = .ok (.istore_n 3, 1) := dc_62 (by decide +kernel)
theorem dX4_spreadFrom_28 : decode cX4_spreadFrom 28 = .ok (.aload_n 0, 1) := dc_42 (by decide +kernel)
theorem dX4_spreadFrom_29 : decode cX4_spreadFrom 29 = .ok (.iload_n 3, 1) := dc_29 (by decide +kernel)
theorem dX4_spreadFrom_30 : decode cX4_spreadFrom 30 = .ok (.invokevirtual 63, 3) := dc_182 (a := 0) (b := 63) (by decide +kernel)
theorem dX4_spreadFrom_33 : decode cX4_spreadFrom 33 = .ok (.ifCond .ne 4, 3) := dc_154 (a := 0) (b := 4) (by decide +kernel) (by decide)
theorem dX4_spreadFrom_36 : decode cX4_spreadFrom 36 = .ok (.return_, 1) := dc_177 (by decide +kernel)
theorem dX4_spreadFrom_37 : decode cX4_spreadFrom 37 = .ok (.aload_n 0, 1) := dc_42 (by decide +kernel)
theorem dX4_spreadFrom_38 : decode cX4_spreadFrom 38 = .ok (.getfield 57, 3) := dc_180 (a := 0) (b := 57) (by decide +kernel)
theorem dX4_spreadFrom_41 : decode cX4_spreadFrom 41 = .ok (.iload_n 3, 1) := dc_29 (by decide +kernel)
theorem dX4_spreadFrom_42 : decode cX4_spreadFrom 42 = .ok (.iconst 0, 1) := dc_3 (by decide +kernel)
theorem dX4_spreadFrom_43 : decode cX4_spreadFrom 43 = .ok (.iastore, 1) := dc_79 (by decide +kernel)
theorem dX4_spreadFrom_44 : decode cX4_spreadFrom 44 = .ok (.aload_n 0, 1) := dc_42 (by decide +kernel)
theorem dX4_spreadFrom_45 : decode cX4_spreadFrom 45 = .ok (.getfield 60, 3) := dc_180 (a := 0) (b := 60) (by decide +kernel)
theorem dX4_spreadFrom_48 : decode cX4_spreadFrom 48 = .ok (.iconst 0, 1) := dc_3 (by decide +kernel)
theorem dX4_spreadFrom_49 : decode cX4_spreadFrom 49 = .ok (.iload_n 3, 1) := dc_29 (by decide +kernel)
theorem dX4_spreadFrom_50 : decode cX4_spreadFrom 50 = .ok (.iastore, 1) := dc_79 (by decide +kernel)
theorem dX4_spreadFrom_51 : decode cX4_spreadFrom 51 = .ok (.iconst 1, 1) := dc_4 (by decide +kernel)
theorem dX4_spreadFrom_52 : decode cX4_spreadFrom 52 = .ok (.istore 4, 2) := dc_54 (a := 4) (by decide +kernel)
theorem dX4_spreadFrom_54 : decode cX4_spreadFrom 54 = .ok (.iconst 0, 1) := dc_3 (by decide +kernel)
theorem dX4_spreadFrom_55 : decode cX4_spreadFrom 55 = .ok (.istore 5, 2) := dc_54 (a := 5) (by decide +kernel)
theorem dX4_spreadFrom_57 : decode cX4_spreadFrom 57 = .ok (.iload 5, 2) := dc_21 (a := 5) (by decide +kernel)
theorem dX4_spreadFrom_59 : decode cX4_spreadFrom 59 = .ok (.iload 4, 2) := dc_21 (a := 4) (by decide +kernel)
theorem dX4_spreadFrom_61 : decode cX4_spreadFrom 61 = .ok (.if_icmp .ge 139, 3) := dc_162 (a := 0) (b := 139) (by decide +kernel) (by decide)
theorem dX4_spreadFrom_64 : decode cX4_spreadFrom 64 = .ok (.iload 5, 2) := dc_21 (a := 5) (by decide +kernel)
theorem dX4_spreadFrom_66 : decode cX4_spreadFrom 66 = .ok (.aload_n 0, 1) := dc_42 (by decide +kernel)
theorem dX4_spreadFrom_67 : decode cX4_spreadFrom 67 = .ok (.getfield 33, 3) := dc_180 (a := 0) (b := 33) (by decide +kernel)
theorem dX4_spreadFrom_70 : decode cX4_spreadFrom 70 = .ok (.aload_n 0, 1) := dc_42 (by decide +kernel)
theorem dX4_spreadFrom_71 : decode cX4_spreadFrom 71 = .ok (.getfield 36, 3) := dc_180 (a := 0) (b := 36) (by decide +kernel)
theorem dX4_spreadFrom_74 : decode cX4_spreadFrom 74 = .ok (.imul, 1) := dc_104 (by decide +kernel)
theorem dX4_spreadFrom_75 : decode cX4_spreadFrom 75 = .ok (.if_icmp .ge 125, 3) := dc_162 (a := 0) (b := 125) (by decide +kernel) (by decide)
theorem dX4_spreadFrom_78 : decode cX4_spreadFrom 78 = .ok (.aload_n 0, 1) := dc_42 (by decide +kernel)
theorem dX4_spreadFrom_79 : decode cX4_spreadFrom 79 = .ok (.getfield 60, 3) := dc_180 (a := 0) (b := 60) (by decide +kernel)
theorem dX4_spreadFrom_82 : decode cX4_spreadFrom 82 = .ok (.iload 5, 2) := dc_21 (a := 5) (by decide +kernel)
theorem dX4_spreadFrom_84 : decode cX4_spreadFrom 84 = .ok (.iaload, 1) := dc_46 (by decide +kernel)
theorem dX4_spreadFrom_85 : decode cX4_spreadFrom 85 = .ok (.istore 6, 2) := dc_54 (a := 6) (by decide +kernel)
theorem dX4_spreadFrom_87 : decode cX4_spreadFrom 87 = .ok (.iload 6, 2) := dc_21 (a := 6) (by decide +kernel)
theorem dX4_spreadFrom_89 : decode cX4_spreadFrom 89 = .ok (.aload_n 0, 1) := dc_42 (by decide +kernel)
theorem dX4_spreadFrom_90 : decode cX4_spreadFrom 90 = .ok (.getfield 36, 3) := dc_180 (a := 0) (b := 36) (by decide +kernel)
theorem dX4_spreadFrom_93 : decode cX4_spreadFrom 93 = .ok (.irem, 1) := dc_112 (by decide +kernel)
theorem dX4_spreadFrom_94 : decode cX4_spreadFrom 94 = .ok (.istore 7, 2) := dc_54 (a := 7) (by decide +kernel)
theorem dX4_spreadFrom_96 : decode cX4_spreadFrom 96 = .ok (.aload_n 0, 1) := dc_42 (by decide +kernel)
theorem dX4_spreadFrom_97 : decode cX4_spreadFrom 97 = .ok (.getfield 45, 3) := dc_180 (a := 0) (b := 45) (by decide +kernel)
theorem dX4_spreadFrom_100 : decode cX4_spreadFrom 100 = .ok (.iload 7, 2) := dc_21 (a := 7) (by decide +kernel)
theorem dX4_spreadFrom_102 : decode cX4_spreadFrom 102 = .ok (.iaload, 1) := dc_46 (by decide +kernel)
theorem dX4_spreadFrom_103 : decode cX4_spreadFrom 103 = .ok (.istore 8, 2) := dc_54 (a := 8) (by decide +kernel)
theorem dX4_spreadFrom_105 : decode cX4_spreadFrom 105 = .ok (.iload 8, 2) := dc_21 (a := 8) (by decide +kernel)
theorem dX4_spreadFrom_107 : decode cX4_spreadFrom 107 = .ok (.aload_n 0, 1) := dc_42 (by decide +kernel)
theorem dX4_spreadFrom_108 : decode cX4_spreadFrom 108 = .ok (.getfield 45, 3) := dc_180 (a := 0) (b := 45) (by decide +kernel)
theorem dX4_spreadFrom_111 : decode cX4_spreadFrom 111 = .ok (.iload 7, 2) := dc_21 (a := 7) (by decide +kernel)
theorem dX4_spreadFrom_113 : decode cX4_spreadFrom 113 = .ok (.iconst 1, 1) := dc_4 (by decide +kernel)
theorem dX4_spreadFrom_114 : decode cX4_spreadFrom 114 = .ok (.iadd, 1) := dc_96 (by decide +kernel)
theorem dX4_spreadFrom_115 : decode cX4_spreadFrom 115 = .ok (.iaload, 1) := dc_46 (by decide +kernel)
theorem dX4_spreadFrom_116 : decode cX4_spreadFrom 116 = .ok (.if_icmp .ge 78, 3) := dc_162 (a := 0) (b := 78) (by decide +kernel) (by decide)
theorem dX4_spreadFrom_119 : decode cX4_spreadFrom 119 = .ok (.aload_n 0, 1) := dc_42 (by decide +kernel)
theorem dX4_spreadFrom_120 : decode cX4_spreadFrom 120 = .ok (.iload 6, 2) := dc_21 (a := 6) (by decide +kernel)
theorem dX4_spreadFrom_122 : decode cX4_spreadFrom 122 = .ok (.iload 8, 2) := dc_21 (a := 8) (by decide +kernel)
theorem dX4_spreadFrom_124 : decode cX4_spreadFrom 124 = .ok (.invokevirtual 116, 3) := dc_182 (a := 0) (b := 116) (by decide +kernel)
theorem dX4_spreadFrom_127 : decode cX4_spreadFrom 127 = .ok (.istore 9, 2) := dc_54 (a := 9) (by decide +kernel)
theorem dX4_spreadFrom_129 : decode cX4_spreadFrom 129 = .ok (.aload_n 0, 1) := dc_42 (by decide +kernel)
theorem dX4_spreadFrom_130 : decode cX4_spreadFrom 130 = .ok (.iload 9, 2) := dc_21 (a := 9) (by decide +kernel)
theorem dX4_spreadFrom_132 : decode cX4_spreadFrom 132 = .ok (.invokevirtual 63, 3) := dc_182 (a := 0) (b := 63) (by decide +kernel)
theorem dX4_spreadFrom_135 : decode cX4_spreadFrom 135 = .ok (.ifCond .eq 53, 3) := dc_153 (a := 0) (b := 53) (by decide +kernel) (by decide)
theorem dX4_spreadFrom_138 : decode cX4_spreadFrom 138 = .ok (.aload_n 0, 1) := dc_42 (by decide +kernel)
theorem dX4_spreadFrom_139 : decode cX4_spreadFrom 139 = .ok (.getfield 57, 3) := dc_180 (a := 0) (b := 57) (by decide +kernel)
theorem dX4_spreadFrom_142 : decode cX4_spreadFrom 142 = .ok (.iload 9, 2) := dc_21 (a := 9) (by decide +kernel)
theorem dX4_spreadFrom_144 : decode cX4_spreadFrom 144 = .ok (.iaload, 1) := dc_46 (by decide +kernel)
theorem dX4_spreadFrom_145 : decode cX4_spreadFrom 145 = .ok (.bipush (-4), 2) := dc_16 (a := 252) (by decide +kernel) (by decide)
theorem dX4_spreadFrom_147 : decode cX4_spreadFrom 147 = .ok (.if_icmp .ne 41, 3) := dc_160 (a := 0) (b := 41) (by decide +kernel) (by decide)
theorem dX4_spreadFrom_150 : decode cX4_spreadFrom 150 = .ok (.iload 4, 2) := dc_21 (a := 4) (by decide +kernel)
theorem dX4_spreadFrom_152 : decode cX4_spreadFrom 152 = .ok (.aload_n 0, 1) := dc_42 (by decide +kernel)
theorem dX4_spreadFrom_153 : decode cX4_spreadFrom 153 = .ok (.getfield 60, 3) := dc_180 (a := 0) (b := 60) (by decide +kernel)
theorem dX4_spreadFrom_156 : decode cX4_spreadFrom 156 = .ok (.arraylength, 1) := dc_190 (by decide +kernel)
theorem dX4_spreadFrom_157 : decode cX4_spreadFrom 157 = .ok (.if_icmp .ge 31, 3) := dc_162 (a := 0) (b := 31) (by decide +kernel) (by decide)
theorem dX4_spreadFrom_160 : decode cX4_spreadFrom 160 = .ok (.aload_n 0, 1) := dc_42 (by decide +kernel)
theorem dX4_spreadFrom_161 : decode cX4_spreadFrom 161 = .ok (.getfield 57, 3) := dc_180 (a := 0) (b := 57) (by decide +kernel)
theorem dX4_spreadFrom_164 : decode cX4_spreadFrom 164 = .ok (.iload 9, 2) := dc_21 (a := 9) (by decide +kernel)
theorem dX4_spreadFrom_166 : decode cX4_spreadFrom 166 = .ok (.aload_n 0, 1) := dc_42 (by decide +kernel)
theorem dX4_spreadFrom_167 : decode cX4_spreadFrom 167 = .ok (.getfield 57, 3) := dc_180 (a := 0) (b := 57) (by decide +kernel)
theorem dX4_spreadFrom_170 : decode cX4_spreadFrom 170 = .ok (.iload 6, 2) := dc_21 (a := 6) (by decide +kernel)
theorem dX4_spreadFrom_172 : decode cX4_spreadFrom 172 = .ok (.iaload, 1) := dc_46 (by decide +kernel)
theorem dX4_spreadFrom_173 : decode cX4_spreadFrom 173 = .ok (.iconst 1, 1) := dc_4 (by decide +kernel)
theorem dX4_spreadFrom_174 : decode cX4_spreadFrom 174 = .ok (.iadd, 1) := dc_96 (by decide +kernel)
theorem dX4_spreadFrom_175 : decode cX4_spreadFrom 175 = .ok (.iastore, 1) := dc_79 (by decide +kernel)
theorem dX4_spreadFrom_176 : decode cX4_spreadFrom 176 = .ok (.aload_n 0, 1) := dc_42 (by decide +kernel)
theorem dX4_spreadFrom_177 : decode cX4_spreadFrom 177 = .ok (.getfield 60, 3) := dc_180 (a := 0) (b := 60) (by decide +kernel)
theorem dX4_spreadFrom_180 : decode cX4_spreadFrom 180 = .ok (.iload 4, 2) := dc_21 (a := 4) (by decide +kernel)
theorem dX4_spreadFrom_182 : decode cX4_spreadFrom 182 = .ok (.iload 9, 2) := dc_21 (a := 9) (by decide +kernel)
theorem dX4_spreadFrom_184 : decode cX4_spreadFrom 184 = .ok (.iastore, 1) := dc_79 (by decide +kernel)
theorem dX4_spreadFrom_185 : decode cX4_spreadFrom 185 = .ok (.iinc 4 1, 3) := dc_132 (a := 4) (b := 1) (by decide +kernel) (by decide)
theorem dX4_spreadFrom_188 : decode cX4_spreadFrom 188 = .ok (.iinc 8 1, 3) := dc_132 (a := 8) (b := 1) (by decide +kernel) (by decide)
theorem dX4_spreadFrom_191 : decode cX4_spreadFrom 191 = .ok (.goto (-86), 3) := dc_167 (a := 255) (b := 170) (by decide +kernel) (by decide)
theorem dX4_spreadFrom_194 : decode cX4_spreadFrom 194 = .ok (.iinc 5 1, 3) := dc_132 (a := 5) (b := 1) (by decide +kernel) (by decide)
theorem dX4_spreadFrom_197 : decode cX4_spreadFrom 197 = .ok (.goto (-140), 3) := dc_167 (a := 255) (b := 116) (by decide +kernel) (by decide)
theorem dX4_spreadFrom_200 : decode cX4_spreadFrom 200 = .ok (.return_, 1) := dc_177 (by decide +kernel)
set_option maxRecDepth 100000 in
set_option maxHeartbeats 4000000 in
theorem w_Potentials_spreadFrom_goal_Plans_rooms_j188 {p : Program} {l : Launch} {e : Env} {R : Room} {s : State} {m : MethodId} {args : Array Value} {below : List Frame} {meth : Method} {c : Code} {dC : Nat → ClassId} {dI : Nat → Nat → Nat} {cs : Nat → ClassId} {ad ad0 : Nat → Nat} {A : Nat → Prop} {D0 : Nat → Nat} {S' : SS} {mc ms : Nat} (F : Fx p s m args meth c cX4_spreadFrom 10 RX4 none dC dI cs A) (hR1 : 0 ≤ R.frames) (hR2 : 0 ≤ R.locals) (hRc : mc ≤ R.cells) (hRs : ms ≤ R.slots) (K105 : Int32 → Int32 → Int32 → Int32 → Int32 → SS → Option (SS)) (hK105 : ∀ (v0 : Int32) (v1 : Int32) (v2 : Int32) (v3 : Int32) (v4 : Int32) (S : SS), K105 v0 v1 v2 v3 v4 S = some S' → AWX p l e R s m args below meth c dC dI cs ad0 ad A D0 none S' mc ms 10 105 [(0, .ref (ad 71)), (4, .int v0), (5, .int v1), (6, .int v2), (7, .int v3), (8, .int v4)] [] (0 + mc) (0 + ms) S) (x4 : Int32) (x5 : Int32) (x6 : Int32) (x7 : Int32) (x8 : Int32) (S : SS) (h : f_Potentials_spreadFrom_goal_Plans_rooms_j188 K105 x4 x5 x6 x7 x8 S = some S') : AWX p l e R s m args below meth c dC dI cs ad0 ad A D0 none S' mc ms 10 188 [(0, .ref (ad 71)), (4, .int x4), (5, .int x5), (6, .int x6), (7, .int x7), (8, .int x8)] [] (0 + mc) (0 + ms) S := by
  have hx := F.1.1
  have hb := F.1.2.1
  intro H locs ls hA w hl
  rw [f_Potentials_spreadFrom_goal_Plans_rooms_j188] at h
  refine s_nm h (fun z20 ez20 h => ?_)
  refine lv_iinc (pc := 188) (v := z20) (lv' := [(8, .int z20), (0, .ref (ad 71)), (4, .int x4), (5, .int x5), (6, .int x6), (7, .int x7)]) hx hb dX4_spreadFrom_188 hl (k := 5) rfl (by rw [ez20]; rfl) (by decide) rfl (fun ls hl => ?_)
  refine lv_goto (pc := 191) (tgt := 105) hx hb dX4_spreadFrom_191 (by decide) ?_
  exact hK105 _ _ _ _ _ _ h _ _ _ hA w (lv_sub hl [1, 2, 3, 4, 5, 0] rfl)
set_option maxRecDepth 100000 in
set_option maxHeartbeats 4000000 in
theorem w_Potentials_spreadFrom_goal_Plans_rooms_L105 {p : Program} {l : Launch} {e : Env} {R : Room} {s : State} {m : MethodId} {args : Array Value} {below : List Frame} {meth : Method} {c : Code} {dC : Nat → ClassId} {dI : Nat → Nat → Nat} {cs : Nat → ClassId} {ad ad0 : Nat → Nat} {A : Nat → Prop} {D0 : Nat → Nat} {S' : SS} {mc ms : Nat} (F : Fx p s m args meth c cX4_spreadFrom 10 RX4 none dC dI cs A) (hR1 : 2 ≤ R.frames) (hR2 : 45 ≤ R.locals) (hRc : mc ≤ R.cells) (hRs : ms ≤ R.slots) (K57 : Int32 → Int32 → SS → Option (SS)) (hK57 : ∀ (v0 : Int32) (v1 : Int32) (S : SS), K57 v0 v1 S = some S' → AWX p l e R s m args below meth c dC dI cs ad0 ad A D0 none S' mc ms 10 57 [(0, .ref (ad 71)), (4, .int v0), (5, .int v1)] [] (0 + mc) (0 + ms) S) : ∀ (n : Nat) (x4 : Int32) (x5 : Int32) (x6 : Int32) (x7 : Int32) (x8 : Int32) (S : SS), f_Potentials_spreadFrom_goal_Plans_rooms_L105 K57 n x4 x5 x6 x7 x8 S = some S' → AWX p l e R s m args below meth c dC dI cs ad0 ad A D0 none S' mc ms 10 105 [(0, .ref (ad 71)), (4, .int x4), (5, .int x5), (6, .int x6), (7, .int x7), (8, .int x8)] [] (0 + mc) (0 + ms) S := by
  have hx := F.1.1
  have hb := F.1.2.1
  intro n
  induction n with
  | zero => intro x4 x5 x6 x7 x8 S h; cases h
  | succ n ih =>
    intro x4 x5 x6 x7 x8 S h H locs ls hA w hl
    rw [f_Potentials_spreadFrom_goal_Plans_rooms_L105] at h
    refine lv_iload (pc := 105) hx hb dX4_spreadFrom_105 (lv_at hl 5 rfl) ?_
    refine lv_aload_n (pc := 107) hx hb dX4_spreadFrom_107 rfl (lv_at hl 0 rfl) ?_
    refine s_getR (pc := 108) F w 116 ds_71 (j := 10) vc_X4 vi_X4 rfl (by decide) kf_X4_45 dX4_spreadFrom_108 ?_
    refine lv_iload (pc := 111) hx hb dX4_spreadFrom_111 (lv_at hl 4 rfl) ?_
    refine lv_iconst (pc := 113) (v := 1) hx hb dX4_spreadFrom_113 (by decide) ?_
    refine lv_iadd (pc := 114) hx hb dX4_spreadFrom_114 ?_
    refine s_iald (pc := 115) F w ds_116 h dX4_spreadFrom_115 (fun h => ?_)
    refine lv_icmp_ge (pc := 116) (tgt := 194) hx hb dX4_spreadFrom_116 (by decide) (fun q => ?_) (fun q => ?_)
    · have h := ite_t q h
      refine s_nm h (fun z15 ez15 h => ?_)
      refine lv_iinc (pc := 194) (v := z15) (lv' := [(5, .int z15), (0, .ref (ad 71)), (4, .int x4), (6, .int x6), (7, .int x7), (8, .int x8)]) hx hb dX4_spreadFrom_194 hl (k := 2) rfl (by rw [ez15]; rfl) (by decide) rfl (fun ls hl => ?_)
      refine lv_goto (pc := 197) (tgt := 57) hx hb dX4_spreadFrom_197 (by decide) ?_
      exact hK57 _ _ _ h _ _ _ hA w (lv_sub hl [1, 2, 0] rfl)
    · have h := ite_f q h
      refine lv_aload_n (pc := 119) hx hb dX4_spreadFrom_119 rfl (lv_at hl 0 rfl) ?_
      refine lv_iload (pc := 120) hx hb dX4_spreadFrom_120 (lv_at hl 3 rfl) ?_
      refine lv_iload (pc := 122) hx hb dX4_spreadFrom_122 (lv_at hl 5 rfl) ?_
      obtain ⟨r17, S16, hc, h⟩ := bnd_t h
      refine s_cvi (pc := 124) [.int x6, .int x8] (fun ad => [.ref (ad 71), .int x6, .int x8]) F w (m_Potentials_rankAfter _ _ _ _ _ hc) rfl rfl hl.1 ds_71 vc_X4 rfl ok_X4_rankAfter rfl kc_X4_rankAfter kl_X4_116 ki_X4_rankAfter kv_X4_rankAfter kn_X4 ⟨Nat.le_trans (by decide) hR1, Nat.le_trans (by decide) hR2⟩ ⟨by rw [Nat.zero_add]; exact hRc, by rw [Nat.zero_add]; exact hRs⟩ (Nat.le_of_ble_eq_true rfl) dX4_spreadFrom_124 (fun H locs w => ?_)
      refine lv_istore (pc := 127) (lv' := [(9, .int r17), (0, .ref (ad 71)), (4, .int x4), (5, .int x5), (6, .int x6), (7, .int x7), (8, .int x8)]) hx hb dX4_spreadFrom_127 hl (by decide) rfl (fun ls hl => ?_)
      refine lv_aload_n (pc := 129) hx hb dX4_spreadFrom_129 rfl (lv_at hl 1 rfl) ?_
      refine lv_iload (pc := 130) hx hb dX4_spreadFrom_130 (lv_at hl 0 rfl) ?_
      obtain ⟨r19, S18, hc, h⟩ := bnd_t h
      refine s_cvi (pc := 132) [.int r17] (fun ad => [.ref (ad 71), .int r17]) F w (m_Potentials_isRank _ _ _ _ hc) rfl rfl hl.1 ds_71 vc_X4 rfl ok_X4_isRank rfl kc_X4_isRank kl_X4_63 ki_X4_isRank kv_X4_isRank kn_X4 ⟨Nat.le_trans (by decide) hR1, Nat.le_trans (by decide) hR2⟩ ⟨by rw [Nat.zero_add]; exact hRc, by rw [Nat.zero_add]; exact hRs⟩ (Nat.le_of_ble_eq_true rfl) dX4_spreadFrom_132 (fun H locs w => ?_)
      refine lv_if_eq (pc := 135) (tgt := 188) hx hb dX4_spreadFrom_135 (by decide) (fun q => ?_) (fun q => ?_)
      · have h := ite_t q h
        exact w_Potentials_spreadFrom_goal_Plans_rooms_j188 F (Nat.le_trans (by decide) hR1) (Nat.le_trans (by decide) hR2) hRc hRs _ (fun v0 v1 v2 v3 v4 S h => ih v0 v1 v2 v3 v4 S h) _ _ _ _ _ _ h _ _ _ hA w (lv_sub hl [1, 2, 3, 4, 5, 6] rfl)
      · have h := ite_f q h
        refine lv_aload_n (pc := 138) hx hb dX4_spreadFrom_138 rfl (lv_at hl 1 rfl) ?_
        refine s_getR (pc := 139) F w 120 ds_71 (j := 14) vc_X4 vi_X4 rfl (by decide) kf_X4_57 dX4_spreadFrom_139 ?_
        refine lv_iload (pc := 142) hx hb dX4_spreadFrom_142 (lv_at hl 0 rfl) ?_
        refine s_iald (pc := 144) F w ds_120 h dX4_spreadFrom_144 (fun h => ?_)
        refine lv_bipush (pc := 145) (v := -4) hx hb dX4_spreadFrom_145 (by decide) ?_
        refine lv_icmp_ne (pc := 147) (tgt := 188) hx hb dX4_spreadFrom_147 (by decide) (fun q => ?_) (fun q => ?_)
        · have h := ite_f q h
          exact w_Potentials_spreadFrom_goal_Plans_rooms_j188 F (Nat.le_trans (by decide) hR1) (Nat.le_trans (by decide) hR2) hRc hRs _ (fun v0 v1 v2 v3 v4 S h => ih v0 v1 v2 v3 v4 S h) _ _ _ _ _ _ h _ _ _ hA w (lv_sub hl [1, 2, 3, 4, 5, 6] rfl)
        · have h := ite_t q h
          refine lv_iload (pc := 150) hx hb dX4_spreadFrom_150 (lv_at hl 2 rfl) ?_
          refine lv_aload_n (pc := 152) hx hb dX4_spreadFrom_152 rfl (lv_at hl 1 rfl) ?_
          refine s_getR (pc := 153) F w 121 ds_71 (j := 15) vc_X4 vi_X4 rfl (by decide) kf_X4_60 dX4_spreadFrom_153 ?_
          refine s_alen (pc := 156) F w ds_121 dX4_spreadFrom_156 ?_
          show W _ _ _ _ _ _ _ _ _ _ _ _ _ _ _ (F0 _ _ _ (.int (Int32.ofNat (S18.2 121)) :: _))
          refine lv_icmp_ge (pc := 157) (tgt := 188) hx hb dX4_spreadFrom_157 (by decide) (fun q => ?_) (fun q => ?_)
          · have h := ite_t q h
            exact w_Potentials_spreadFrom_goal_Plans_rooms_j188 F (Nat.le_trans (by decide) hR1) (Nat.le_trans (by decide) hR2) hRc hRs _ (fun v0 v1 v2 v3 v4 S h => ih v0 v1 v2 v3 v4 S h) _ _ _ _ _ _ h _ _ _ hA w (lv_sub hl [1, 2, 3, 4, 5, 6] rfl)
          · have h := ite_f q h
            refine lv_aload_n (pc := 160) hx hb dX4_spreadFrom_160 rfl (lv_at hl 1 rfl) ?_
            refine s_getR (pc := 161) F w 120 ds_71 (j := 14) vc_X4 vi_X4 rfl (by decide) kf_X4_57 dX4_spreadFrom_161 ?_
            refine lv_iload (pc := 164) hx hb dX4_spreadFrom_164 (lv_at hl 0 rfl) ?_
            refine lv_aload_n (pc := 166) hx hb dX4_spreadFrom_166 rfl (lv_at hl 1 rfl) ?_
            refine s_getR (pc := 167) F w 120 ds_71 (j := 14) vc_X4 vi_X4 rfl (by decide) kf_X4_57 dX4_spreadFrom_167 ?_
            refine lv_iload (pc := 170) hx hb dX4_spreadFrom_170 (lv_at hl 4 rfl) ?_
            refine s_iald (pc := 172) F w ds_120 h dX4_spreadFrom_172 (fun h => ?_)
            refine lv_iconst (pc := 173) (v := 1) hx hb dX4_spreadFrom_173 (by decide) ?_
            refine lv_iadd (pc := 174) hx hb dX4_spreadFrom_174 ?_
            refine s_iast (pc := 175) F w ds_120 h dX4_spreadFrom_175 (fun S21 H locs h w => ?_)
            refine lv_aload_n (pc := 176) hx hb dX4_spreadFrom_176 rfl (lv_at hl 1 rfl) ?_
            refine s_getR (pc := 177) F w 121 ds_71 (j := 15) vc_X4 vi_X4 rfl (by decide) kf_X4_60 dX4_spreadFrom_177 ?_
            refine lv_iload (pc := 180) hx hb dX4_spreadFrom_180 (lv_at hl 2 rfl) ?_
            refine lv_iload (pc := 182) hx hb dX4_spreadFrom_182 (lv_at hl 0 rfl) ?_
            refine s_iast (pc := 184) F w ds_121 h dX4_spreadFrom_184 (fun S22 H locs h w => ?_)
            refine s_nm h (fun z23 ez23 h => ?_)
            refine lv_iinc (pc := 185) (v := z23) (lv' := [(4, .int z23), (9, .int r17), (0, .ref (ad 71)), (5, .int x5), (6, .int x6), (7, .int x7), (8, .int x8)]) hx hb dX4_spreadFrom_185 hl (k := 2) rfl (by rw [ez23]; rfl) (by decide) rfl (fun ls hl => ?_)
            exact w_Potentials_spreadFrom_goal_Plans_rooms_j188 F (Nat.le_trans (by decide) hR1) (Nat.le_trans (by decide) hR2) hRc hRs _ (fun v0 v1 v2 v3 v4 S h => ih v0 v1 v2 v3 v4 S h) _ _ _ _ _ _ h _ _ _ hA w (lv_sub hl [2, 0, 3, 4, 5, 6] rfl)
set_option maxRecDepth 100000 in
set_option maxHeartbeats 4000000 in
theorem w_Potentials_spreadFrom_goal_Plans_rooms_L57 {p : Program} {l : Launch} {e : Env} {R : Room} {s : State} {m : MethodId} {args : Array Value} {below : List Frame} {meth : Method} {c : Code} {dC : Nat → ClassId} {dI : Nat → Nat → Nat} {cs : Nat → ClassId} {ad ad0 : Nat → Nat} {A : Nat → Prop} {D0 : Nat → Nat} {S' : SS} {mc ms : Nat} (F : Fx p s m args meth c cX4_spreadFrom 10 RX4 none dC dI cs A) (hR1 : 2 ≤ R.frames) (hR2 : 45 ≤ R.locals) (hRc : mc ≤ R.cells) (hRs : ms ≤ R.slots) : ∀ (n : Nat) (x4 : Int32) (x5 : Int32) (S : SS), f_Potentials_spreadFrom_goal_Plans_rooms_L57 n x4 x5 S = some S' → AWX p l e R s m args below meth c dC dI cs ad0 ad A D0 none S' mc ms 10 57 [(0, .ref (ad 71)), (4, .int x4), (5, .int x5)] [] (0 + mc) (0 + ms) S := by
  have hx := F.1.1
  have hb := F.1.2.1
  intro n
  induction n with
  | zero => intro x4 x5 S h; cases h
  | succ n ih =>
    intro x4 x5 S h H locs ls hA w hl
    rw [f_Potentials_spreadFrom_goal_Plans_rooms_L57] at h
    refine lv_iload (pc := 57) hx hb dX4_spreadFrom_57 (lv_at hl 2 rfl) ?_
    refine lv_iload (pc := 59) hx hb dX4_spreadFrom_59 (lv_at hl 1 rfl) ?_
    refine lv_icmp_ge (pc := 61) (tgt := 200) hx hb dX4_spreadFrom_61 (by decide) (fun q => ?_) (fun q => ?_)
    · have h := ite_t q h
      exact s_vretX F w hA ⟨Nat.le_of_eq (Nat.zero_add _), Nat.le_of_eq (Nat.zero_add _)⟩ h dX4_spreadFrom_200
    · have h := ite_f q h
      refine lv_iload (pc := 64) hx hb dX4_spreadFrom_64 (lv_at hl 2 rfl) ?_
      refine lv_aload_n (pc := 66) hx hb dX4_spreadFrom_66 rfl (lv_at hl 0 rfl) ?_
      refine s_getI (pc := 67) F w ds_71 (j := 6) vc_X4 vi_X4 rfl (by decide) kf_X4_33 dX4_spreadFrom_67 ?_
      refine lv_aload_n (pc := 70) hx hb dX4_spreadFrom_70 rfl (lv_at hl 0 rfl) ?_
      refine s_getI (pc := 71) F w ds_71 (j := 7) vc_X4 vi_X4 rfl (by decide) kf_X4_36 dX4_spreadFrom_71 ?_
      refine lv_imul (pc := 74) hx hb dX4_spreadFrom_74 ?_
      refine lv_icmp_ge (pc := 75) (tgt := 200) hx hb dX4_spreadFrom_75 (by decide) (fun q => ?_) (fun q => ?_)
      · have h := ite_t q h
        exact s_vretX F w hA ⟨Nat.le_of_eq (Nat.zero_add _), Nat.le_of_eq (Nat.zero_add _)⟩ h dX4_spreadFrom_200
      · have h := ite_f q h
        refine lv_aload_n (pc := 78) hx hb dX4_spreadFrom_78 rfl (lv_at hl 0 rfl) ?_
        refine s_getR (pc := 79) F w 121 ds_71 (j := 15) vc_X4 vi_X4 rfl (by decide) kf_X4_60 dX4_spreadFrom_79 ?_
        refine lv_iload (pc := 82) hx hb dX4_spreadFrom_82 (lv_at hl 2 rfl) ?_
        refine s_iald (pc := 84) F w ds_121 h dX4_spreadFrom_84 (fun h => ?_)
        refine s_nm h (fun z12 ez12 h => ?_)
        rw [← ez12]
        refine lv_istore (pc := 85) (lv' := [(6, .int z12), (0, .ref (ad 71)), (4, .int x4), (5, .int x5)]) hx hb dX4_spreadFrom_85 hl (by decide) rfl (fun ls hl => ?_)
        refine lv_iload (pc := 87) hx hb dX4_spreadFrom_87 (lv_at hl 0 rfl) ?_
        refine lv_aload_n (pc := 89) hx hb dX4_spreadFrom_89 rfl (lv_at hl 1 rfl) ?_
        refine s_getI (pc := 90) F w ds_71 (j := 7) vc_X4 vi_X4 rfl (by decide) kf_X4_36 dX4_spreadFrom_90 ?_
        obtain ⟨hd, h⟩ := grd_t h
        refine lv_irem (pc := 93) hx hb dX4_spreadFrom_93 (by simpa using hd) ?_
        refine s_nm h (fun z13 ez13 h => ?_)
        rw [← ez13]
        refine lv_istore (pc := 94) (lv' := [(7, .int z13), (6, .int z12), (0, .ref (ad 71)), (4, .int x4), (5, .int x5)]) hx hb dX4_spreadFrom_94 hl (by decide) rfl (fun ls hl => ?_)
        refine lv_aload_n (pc := 96) hx hb dX4_spreadFrom_96 rfl (lv_at hl 2 rfl) ?_
        refine s_getR (pc := 97) F w 116 ds_71 (j := 10) vc_X4 vi_X4 rfl (by decide) kf_X4_45 dX4_spreadFrom_97 ?_
        refine lv_iload (pc := 100) hx hb dX4_spreadFrom_100 (lv_at hl 0 rfl) ?_
        refine s_iald (pc := 102) F w ds_116 h dX4_spreadFrom_102 (fun h => ?_)
        refine s_nm h (fun z14 ez14 h => ?_)
        rw [← ez14]
        refine lv_istore (pc := 103) (lv' := [(8, .int z14), (7, .int z13), (6, .int z12), (0, .ref (ad 71)), (4, .int x4), (5, .int x5)]) hx hb dX4_spreadFrom_103 hl (by decide) rfl (fun ls hl => ?_)
        exact w_Potentials_spreadFrom_goal_Plans_rooms_L105 F (Nat.le_trans (by decide) hR1) (Nat.le_trans (by decide) hR2) hRc hRs _ (fun v0 v1 S h => ih v0 v1 S h) _ _ _ _ _ _ _ h _ _ _ hA w (lv_sub hl [3, 4, 5, 2, 1, 0] rfl)
set_option maxRecDepth 100000 in
set_option maxHeartbeats 4000000 in
theorem m_Potentials_spreadFrom_goal_Plans_rooms  (S S' : SS) (h : f_Potentials_spreadFrom_goal_Plans_rooms  S = some S') : MX yX4_spreadFrom cX4_spreadFrom 10 none 4 112 (fun ad => [.ref (ad 71), .ref (ad 73), .ref (ad 106)]) S none S' (8 * S.2 200) (18641 * S.2 200) := by
  refine MX.of RX4 (fun ad => [(0, .ref (ad 71)), (1, .ref (ad 73)), (2, .ref (ad 106))]) (by decide) rfl (fun _ => Nat.le_of_ble_eq_true rfl) (fun _ => rfl) ?_
  intro p l e R s m args below meth c dC dI cs ad A hR1 hR2 hRc hRs F H locs ls hA w hl
  have hx := F.1.1
  have hb := F.1.2.1
  rw [f_Potentials_spreadFrom_goal_Plans_rooms] at h
  refine lv_aload_n (pc := 0) hx hb dX4_spreadFrom_0 rfl (lv_at hl 0 rfl) ?_
  refine lv_aload_n (pc := 1) hx hb dX4_spreadFrom_1 rfl (lv_at hl 1 rfl) ?_
  obtain ⟨r2, S1, hc, h⟩ := bnd_t h
  refine s_cvi (pc := 2) [] (fun ad => [.ref (ad 73)]) F w (m_Stacks_members_goal  _ _ _ hc) rfl rfl hl.1 ds_73 vc_X7 rfl ok_X7_members rfl kc_X7_members kl_X4_94 ki_X7_members kv_X7_members kn_X7 ⟨Nat.le_trans (by decide) hR1, Nat.le_trans (by decide) hR2⟩ ⟨Nat.zero_le _, Nat.zero_le _⟩ (Nat.le_of_ble_eq_true rfl) dX4_spreadFrom_2 (fun H locs w => ?_)
  obtain ⟨S3, hc, h⟩ := bndv_t h
  have hM := m_Potentials_takeWagons _ _ _ hc
  rw [w.2.2.2] at hM
  refine s_cxv (pc := 5) [.int r2] (fun ad => [.ref (ad 71), .int r2]) F w hM rfl rfl hl.1 ds_71 vc_X4 rfl ok_X4_takeWagons rfl kc_X4_takeWagons kl_X4_98 ki_X4_takeWagons kv_X4_takeWagons kn_X4 ⟨Nat.le_trans (by decide) hR1, Nat.le_trans (by decide) hR2⟩ ⟨by rw [Nat.zero_add]; exact hRc, by rw [Nat.zero_add]; exact hRs⟩ (Nat.le_of_ble_eq_true rfl) dX4_spreadFrom_5 (fun ad1 H locs hQ w => ?_)
  have hA := hA.tr hQ
  have hl : lv_has ls 10 [(0, .ref (ad1 71)), (1, .ref (ad1 73)), (2, .ref (ad1 106))] := by rw [hQ 71 (by decide), hQ 73 (by decide), hQ 106 (by decide)]; exact hl
  refine lv_aload_n (pc := 8) hx hb dX4_spreadFrom_8 rfl (lv_at hl 0 rfl) ?_
  refine lv_aload_n (pc := 9) hx hb dX4_spreadFrom_9 rfl (lv_at hl 2 rfl) ?_
  obtain ⟨S4, hc, h⟩ := bndv_t h
  refine s_cvv (pc := 10) [.ref (ad1 106)] (fun ad => [.ref (ad 71), .ref (ad 106)]) F w (m_Potentials_listEntries_Plans_rooms  _ _ hc) rfl rfl hl.1 ds_71 vc_X4 rfl ok_X4_listEntries rfl kc_X4_listEntries kl_X4_102 ki_X4_listEntries kv_X4_listEntries kn_X4 ⟨Nat.le_trans (by decide) hR1, Nat.le_trans (by decide) hR2⟩ ⟨by rw [Nat.zero_add]; exact hRc, by rw [Nat.zero_add]; exact hRs⟩ (Nat.le_of_ble_eq_true rfl) dX4_spreadFrom_10 (fun H locs w => ?_)
  refine lv_aload_n (pc := 13) hx hb dX4_spreadFrom_13 rfl (lv_at hl 0 rfl) ?_
  refine s_getR (pc := 14) F w 120 ds_71 (j := 14) vc_X4 vi_X4 rfl (by decide) kf_X4_57 dX4_spreadFrom_14 ?_
  refine lv_bipush (pc := 17) (v := -4) hx hb dX4_spreadFrom_17 (by decide) ?_
  obtain ⟨S5, hc, h⟩ := bndv_t h
  refine s_csv (pc := 19) [.ref (ad1 120), .int (-4 : Int32)] (fun ad => [.ref (ad 120), .int (-4 : Int32)]) F w (m_Arrays_fill_53178_Potentials_least _ _ _ hc) rfl rfl hl.1 ok_J7_fill_53178 rfl kc_J7_fill_53178 kl_X4_106 ks_J7_fill_53178 kn_J7 ⟨Nat.le_trans (by decide) hR1, Nat.le_trans (by decide) hR2⟩ ⟨by rw [Nat.zero_add]; exact hRc, by rw [Nat.zero_add]; exact hRs⟩ (Nat.le_of_ble_eq_true rfl) dX4_spreadFrom_19 (fun H locs w => ?_)
  refine lv_aload_n (pc := 22) hx hb dX4_spreadFrom_22 rfl (lv_at hl 0 rfl) ?_
  refine lv_aload_n (pc := 23) hx hb dX4_spreadFrom_23 rfl (lv_at hl 1 rfl) ?_
  obtain ⟨r7, S6, hc, h⟩ := bnd_t h
  refine s_cvi (pc := 24) [.ref (ad1 73)] (fun ad => [.ref (ad 71), .ref (ad 73)]) F w (m_Potentials_rankOf_goal  _ _ _ hc) rfl rfl hl.1 ds_71 vc_X4 rfl ok_X4_rankOf rfl kc_X4_rankOf kl_X4_112 ki_X4_rankOf kv_X4_rankOf kn_X4 ⟨Nat.le_trans (by decide) hR1, Nat.le_trans (by decide) hR2⟩ ⟨by rw [Nat.zero_add]; exact hRc, by rw [Nat.zero_add]; exact hRs⟩ (Nat.le_of_ble_eq_true rfl) dX4_spreadFrom_24 (fun H locs w => ?_)
  refine lv_istore_n (pc := 27) (lv' := [(3, .int r7), (0, .ref (ad1 71)), (1, .ref (ad1 73)), (2, .ref (ad1 106))]) hx hb dX4_spreadFrom_27 rfl hl (by decide) rfl (fun ls hl => ?_)
  refine lv_aload_n (pc := 28) hx hb dX4_spreadFrom_28 rfl (lv_at hl 1 rfl) ?_
  refine lv_iload_n (pc := 29) hx hb dX4_spreadFrom_29 rfl (lv_at hl 0 rfl) ?_
  obtain ⟨r9, S8, hc, h⟩ := bnd_t h
  refine s_cvi (pc := 30) [.int r7] (fun ad => [.ref (ad 71), .int r7]) F w (m_Potentials_isRank _ _ _ _ hc) rfl rfl hl.1 ds_71 vc_X4 rfl ok_X4_isRank rfl kc_X4_isRank kl_X4_63 ki_X4_isRank kv_X4_isRank kn_X4 ⟨Nat.le_trans (by decide) hR1, Nat.le_trans (by decide) hR2⟩ ⟨by rw [Nat.zero_add]; exact hRc, by rw [Nat.zero_add]; exact hRs⟩ (Nat.le_of_ble_eq_true rfl) dX4_spreadFrom_30 (fun H locs w => ?_)
  refine lv_if_ne (pc := 33) (tgt := 37) hx hb dX4_spreadFrom_33 (by decide) (fun q => ?_) (fun q => ?_)
  · have h := ite_f q h
    refine lv_aload_n (pc := 37) hx hb dX4_spreadFrom_37 rfl (lv_at hl 1 rfl) ?_
    refine s_getR (pc := 38) F w 120 ds_71 (j := 14) vc_X4 vi_X4 rfl (by decide) kf_X4_57 dX4_spreadFrom_38 ?_
    refine lv_iload_n (pc := 41) hx hb dX4_spreadFrom_41 rfl (lv_at hl 0 rfl) ?_
    refine lv_iconst (pc := 42) (v := 0) hx hb dX4_spreadFrom_42 (by decide) ?_
    refine s_iast (pc := 43) F w ds_120 h dX4_spreadFrom_43 (fun S10 H locs h w => ?_)
    refine lv_aload_n (pc := 44) hx hb dX4_spreadFrom_44 rfl (lv_at hl 1 rfl) ?_
    refine s_getR (pc := 45) F w 121 ds_71 (j := 15) vc_X4 vi_X4 rfl (by decide) kf_X4_60 dX4_spreadFrom_45 ?_
    refine lv_iconst (pc := 48) (v := 0) hx hb dX4_spreadFrom_48 (by decide) ?_
    refine lv_iload_n (pc := 49) hx hb dX4_spreadFrom_49 rfl (lv_at hl 0 rfl) ?_
    refine s_iast (pc := 50) F w ds_121 h dX4_spreadFrom_50 (fun S11 H locs h w => ?_)
    refine lv_iconst (pc := 51) (v := 1) hx hb dX4_spreadFrom_51 (by decide) ?_
    refine lv_istore (pc := 52) (lv' := [(4, .int (1 : Int32)), (3, .int r7), (0, .ref (ad1 71)), (1, .ref (ad1 73)), (2, .ref (ad1 106))]) hx hb dX4_spreadFrom_52 hl (by decide) rfl (fun ls hl => ?_)
    refine lv_iconst (pc := 54) (v := 0) hx hb dX4_spreadFrom_54 (by decide) ?_
    refine lv_istore (pc := 55) (lv' := [(5, .int (0 : Int32)), (4, .int (1 : Int32)), (3, .int r7), (0, .ref (ad1 71)), (1, .ref (ad1 73)), (2, .ref (ad1 106))]) hx hb dX4_spreadFrom_55 hl (by decide) rfl (fun ls hl => ?_)
    exact w_Potentials_spreadFrom_goal_Plans_rooms_L57 F (Nat.le_trans (by decide) hR1) (Nat.le_trans (by decide) hR2) hRc hRs _ _ _ _ h _ _ _ hA w (lv_sub hl [3, 1, 0] rfl)
  · have h := ite_t q h
    exact s_vretX F w hA ⟨Nat.le_of_eq (Nat.zero_add _), Nat.le_of_eq (Nat.zero_add _)⟩ h dX4_spreadFrom_36
def f_Potentials_entryDown_L26  : Nat → Int32 → Int32 → Int32 → SS → Option (Int32 × SS)
  | 0, _, _, _, _ => none
  | n + 1, x1, x2, x3, S =>
    grd (inb (x2 + (1 : Int32)) (S.2 116)) (
    if (S.1 116 (x2 + (1 : Int32)).toNatClampNeg) ≤ x3 then
      some ((-4 : Int32), S)
    else
      bnd (f_Potentials_rankAfter x1 x3 S) (fun r5 S4 =>
      bnd (f_Potentials_of r5 S4) (fun r7 S6 =>
      bnd (f_Potentials_of x1 S6) (fun r9 S8 =>
      if r7 = (r9 - (1 : Int32)) then
        some (x3, S8)
      else
        nm (x3 + (1 : Int32)) (fun z10 =>
        f_Potentials_entryDown_L26 n x1 x2 z10 S8)))))
def f_Potentials_entryDown_j18  (x1 : Int32) (y0 : Int32) (S : SS) : Option (Int32 × SS) :=
    grd (inb y0 (S.2 116)) (
    nm (S.1 116 y0.toNatClampNeg) (fun z3 =>
    f_Potentials_entryDown_L26 NF x1 y0 z3 S))
def f_Potentials_entryDown (a1 : Int32) (S : SS) : Option (Int32 × SS) :=
  bnd (f_Potentials_isRank a1 S) (fun r2 S1 =>
  if r2 = 0 then
    f_Potentials_entryDown_j18 a1 (0 : Int32) S1
  else
    grd (!(decide (S1.1 71 7 = 0))) (
    f_Potentials_entryDown_j18 a1 (a1 - a1 / (S1.1 71 7) * (S1.1 71 7)) S1))
theorem dX4_entryDown_0 : decode cX4_entryDown 0 = .ok (.aload_n 0, 1) := dc_42 (by decide +kernel)
theorem dX4_entryDown_1 : decode cX4_entryDown 1 = .ok (.iload_n 1, 1) := dc_27 (by decide +kernel)
theorem dX4_entryDown_2 : decode cX4_entryDown 2 = .ok (.invokevirtual 63, 3) := dc_182 (a := 0) (b := 63) (by decide +kernel)
theorem dX4_entryDown_5 : decode cX4_entryDown 5 = .ok (.ifCond .eq 12, 3) := dc_153 (a := 0) (b := 12) (by decide +kernel) (by decide)
theorem dX4_entryDown_8 : decode cX4_entryDown 8 = .ok (.iload_n 1, 1) := dc_27 (by decide +kernel)
theorem dX4_entryDown_9 : decode cX4_entryDown 9 = .ok (.aload_n 0, 1) := dc_42 (by decide +kernel)
theorem dX4_entryDown_10 : decode cX4_entryDown 10 = .ok (.getfield 36, 3) := dc_180 (a := 0) (b := 36) (by decide +kernel)
theorem dX4_entryDown_13 : decode cX4_entryDown 13 = .ok (.irem, 1) := dc_112 (by decide +kernel)
theorem dX4_entryDown_14 : decode cX4_entryDown 14 = .ok (.goto 4, 3) := dc_167 (a := 0) (b := 4) (by decide +kernel) (by decide)
theorem dX4_entryDown_17 : decode cX4_entryDown 17 = .ok (.iconst 0, 1) := dc_3 (by decide +kernel)
theorem dX4_entryDown_18 : decode cX4_entryDown 18 = .ok (.istore_n 2, 1) := dc_61 (by decide +kernel)
theorem dX4_entryDown_19 : decode cX4_entryDown 19 = .ok (.aload_n 0, 1) := dc_42 (by decide +kernel)
theorem dX4_entryDown_20 : decode cX4_entryDown 20 = .ok (.getfield 45, 3) := dc_180 (a := 0) (b := 45) (by decide +kernel)
theorem dX4_entryDown_23 : decode cX4_entryDown 23 = .ok (.iload_n 2, 1) := dc_28 (by decide +kernel)
theorem dX4_entryDown_24 : decode cX4_entryDown 24 = .ok (.iaload, 1) := dc_46 (by decide +kernel)
theorem dX4_entryDown_25 : decode cX4_entryDown 25 = .ok (.istore_n 3, 1) := dc_62 (by decide +kernel)
theorem dX4_entryDown_26 : decode cX4_entryDown 26 = .ok (.iload_n 3, 1) := dc_29 (by decide +kernel)
theorem dX4_entryDown_27 : decode cX4_entryDown 27 = .ok (.aload_n 0, 1) := dc_42 (by decide +kernel)
theorem dX4_entryDown_28 : decode cX4_entryDown 28 = .ok (.getfield 45, 3) := dc_180 (a := 0) (b := 45) (by decide +kernel)
theorem dX4_entryDown_31 : decode cX4_entryDown 31 = .ok (.iload_n 2, 1) := dc_28 (by decide +kernel)
theorem dX4_entryDown_32 : decode cX4_entryDown 32 = .ok (.iconst 1, 1) := dc_4 (by decide +kernel)
theorem dX4_entryDown_33 : decode cX4_entryDown 33 = .ok (.iadd, 1) := dc_96 (by decide +kernel)
theorem dX4_entryDown_34 : decode cX4_entryDown 34 = .ok (.iaload, 1) := dc_46 (by decide +kernel)
theorem dX4_entryDown_35 : decode cX4_entryDown 35 = .ok (.if_icmp .ge 31, 3) := dc_162 (a := 0) (b := 31) (by decide +kernel) (by decide)
theorem dX4_entryDown_38 : decode cX4_entryDown 38 = .ok (.aload_n 0, 1) := dc_42 (by decide +kernel)
theorem dX4_entryDown_39 : decode cX4_entryDown 39 = .ok (.aload_n 0, 1) := dc_42 (by decide +kernel)
theorem dX4_entryDown_40 : decode cX4_entryDown 40 = .ok (.iload_n 1, 1) := dc_27 (by decide +kernel)
theorem dX4_entryDown_41 : decode cX4_entryDown 41 = .ok (.iload_n 3, 1) := dc_29 (by decide +kernel)
theorem dX4_entryDown_42 : decode cX4_entryDown 42 = .ok (.invokevirtual 116, 3) := dc_182 (a := 0) (b := 116) (by decide +kernel)
theorem dX4_entryDown_45 : decode cX4_entryDown 45 = .ok (.invokevirtual 152, 3) := dc_182 (a := 0) (b := 152) (by decide +kernel)
theorem dX4_entryDown_48 : decode cX4_entryDown 48 = .ok (.aload_n 0, 1) := dc_42 (by decide +kernel)
theorem dX4_entryDown_49 : decode cX4_entryDown 49 = .ok (.iload_n 1, 1) := dc_27 (by decide +kernel)
theorem dX4_entryDown_50 : decode cX4_entryDown 50 = .ok (.invokevirtual 152, 3) := dc_182 (a := 0) (b := 152) (by decide +kernel)
theorem dX4_entryDown_53 : decode cX4_entryDown 53 = .ok (.iconst 1, 1) := dc_4 (by decide +kernel)
theorem dX4_entryDown_54 : decode cX4_entryDown 54 = .ok (.isub, 1) := dc_100 (by decide +kernel)
theorem dX4_entryDown_55 : decode cX4_entryDown 55 = .ok (.if_icmp .ne 5, 3) := dc_160 (a := 0) (b := 5) (by decide +kernel) (by decide)
theorem dX4_entryDown_58 : decode cX4_entryDown 58 = .ok (.iload_n 3, 1) := dc_29 (by decide +kernel)
theorem dX4_entryDown_59 : decode cX4_entryDown 59 = .ok (.ireturn, 1) := dc_172 (by decide +kernel)
theorem dX4_entryDown_60 : decode cX4_entryDown 60 = .ok (.iinc 3 1, 3) := dc_132 (a := 3) (b := 1) (by decide +kernel) (by decide)
theorem dX4_entryDown_63 : decode cX4_entryDown 63 = .ok (.goto (-37), 3) := dc_167 (a := 255) (b := 219) (by decide +kernel) (by decide)
theorem dX4_entryDown_66 : decode cX4_entryDown 66 = .ok (.bipush (-4), 2) := dc_16 (a := 252) (by decide +kernel) (by decide)
theorem dX4_entryDown_68 : decode cX4_entryDown 68 = .ok (.ireturn, 1) := dc_172 (by decide +kernel)
set_option maxRecDepth 100000 in
set_option maxHeartbeats 4000000 in
theorem w_Potentials_entryDown_L26 {p : Program} {l : Launch} {e : Env} {R : Room} {s : State} {m : MethodId} {args : Array Value} {below : List Frame} {meth : Method} {c : Code} {dC : Nat → ClassId} {dI : Nat → Nat → Nat} {cs : Nat → ClassId} {ad : Nat → Nat} {A : Nat → Prop} {D0 : Nat → Nat} {S' : SS} {r : Int32} (F : Fx p s m args meth c cX4_entryDown 4 RX4 (some .int) dC dI cs A) (hR1 : 2 ≤ R.frames) (hR2 : 45 ≤ R.locals) : ∀ (n : Nat) (x1 : Int32) (x2 : Int32) (x3 : Int32) (S : SS), f_Potentials_entryDown_L26 n x1 x2 x3 S = some (r, S') → AW p l e R s m args below meth c dC dI cs ad A D0 (some (.int r)) S' 4 26 [(0, .ref (ad 71)), (1, .int x1), (2, .int x2), (3, .int x3)] [] S := by
  have hx := F.1.1
  have hb := F.1.2.1
  intro n
  induction n with
  | zero => intro x1 x2 x3 S h; cases h
  | succ n ih =>
    intro x1 x2 x3 S h H locs ls w hl
    rw [f_Potentials_entryDown_L26] at h
    refine lv_iload_n (pc := 26) hx hb dX4_entryDown_26 rfl (lv_at hl 3 rfl) ?_
    refine lv_aload_n (pc := 27) hx hb dX4_entryDown_27 rfl (lv_at hl 0 rfl) ?_
    refine s_getR (pc := 28) F w 116 ds_71 (j := 10) vc_X4 vi_X4 rfl (by decide) kf_X4_45 dX4_entryDown_28 ?_
    refine lv_iload_n (pc := 31) hx hb dX4_entryDown_31 rfl (lv_at hl 2 rfl) ?_
    refine lv_iconst (pc := 32) (v := 1) hx hb dX4_entryDown_32 (by decide) ?_
    refine lv_iadd (pc := 33) hx hb dX4_entryDown_33 ?_
    refine s_iald (pc := 34) F w ds_116 h dX4_entryDown_34 (fun h => ?_)
    refine lv_icmp_ge (pc := 35) (tgt := 66) hx hb dX4_entryDown_35 (by decide) (fun q => ?_) (fun q => ?_)
    · have h := ite_t q h
      refine lv_bipush (pc := 66) (v := -4) hx hb dX4_entryDown_66 (by decide) ?_
      exact s_iret F w h dX4_entryDown_68
    · have h := ite_f q h
      refine lv_aload_n (pc := 38) hx hb dX4_entryDown_38 rfl (lv_at hl 0 rfl) ?_
      refine lv_aload_n (pc := 39) hx hb dX4_entryDown_39 rfl (lv_at hl 0 rfl) ?_
      refine lv_iload_n (pc := 40) hx hb dX4_entryDown_40 rfl (lv_at hl 1 rfl) ?_
      refine lv_iload_n (pc := 41) hx hb dX4_entryDown_41 rfl (lv_at hl 3 rfl) ?_
      obtain ⟨r5, S4, hc, h⟩ := bnd_t h
      refine s_cvi (pc := 42) [.int x1, .int x3] (fun ad => [.ref (ad 71), .int x1, .int x3]) F w (m_Potentials_rankAfter _ _ _ _ _ hc) rfl rfl hl.1 ds_71 vc_X4 rfl ok_X4_rankAfter rfl kc_X4_rankAfter kl_X4_116 ki_X4_rankAfter kv_X4_rankAfter kn_X4 ⟨Nat.le_trans (by decide) hR1, Nat.le_trans (by decide) hR2⟩ ⟨Nat.zero_le _, Nat.zero_le _⟩ (Nat.le_of_ble_eq_true rfl) dX4_entryDown_42 (fun H locs w => ?_)
      obtain ⟨r7, S6, hc, h⟩ := bnd_t h
      refine s_cvi (pc := 45) [.int r5] (fun ad => [.ref (ad 71), .int r5]) F w (m_Potentials_of _ _ _ _ hc) rfl rfl hl.1 ds_71 vc_X4 rfl ok_X4_of rfl kc_X4_of kl_X4_152 ki_X4_of kv_X4_of kn_X4 ⟨Nat.le_trans (by decide) hR1, Nat.le_trans (by decide) hR2⟩ ⟨Nat.zero_le _, Nat.zero_le _⟩ (Nat.le_of_ble_eq_true rfl) dX4_entryDown_45 (fun H locs w => ?_)
      refine lv_aload_n (pc := 48) hx hb dX4_entryDown_48 rfl (lv_at hl 0 rfl) ?_
      refine lv_iload_n (pc := 49) hx hb dX4_entryDown_49 rfl (lv_at hl 1 rfl) ?_
      obtain ⟨r9, S8, hc, h⟩ := bnd_t h
      refine s_cvi (pc := 50) [.int x1] (fun ad => [.ref (ad 71), .int x1]) F w (m_Potentials_of _ _ _ _ hc) rfl rfl hl.1 ds_71 vc_X4 rfl ok_X4_of rfl kc_X4_of kl_X4_152 ki_X4_of kv_X4_of kn_X4 ⟨Nat.le_trans (by decide) hR1, Nat.le_trans (by decide) hR2⟩ ⟨Nat.zero_le _, Nat.zero_le _⟩ (Nat.le_of_ble_eq_true rfl) dX4_entryDown_50 (fun H locs w => ?_)
      refine lv_iconst (pc := 53) (v := 1) hx hb dX4_entryDown_53 (by decide) ?_
      refine lv_isub (pc := 54) hx hb dX4_entryDown_54 ?_
      refine lv_icmp_ne (pc := 55) (tgt := 60) hx hb dX4_entryDown_55 (by decide) (fun q => ?_) (fun q => ?_)
      · have h := ite_f q h
        refine s_nm h (fun z10 ez10 h => ?_)
        refine lv_iinc (pc := 60) (v := z10) (lv' := [(3, .int z10), (0, .ref (ad 71)), (1, .int x1), (2, .int x2)]) hx hb dX4_entryDown_60 hl (k := 3) rfl (by rw [ez10]; rfl) (by decide) rfl (fun ls hl => ?_)
        refine lv_goto (pc := 63) (tgt := 26) hx hb dX4_entryDown_63 (by decide) ?_
        exact ih _ _ _ _ h _ _ _ w (lv_sub hl [1, 2, 3, 0] rfl)
      · have h := ite_t q h
        refine lv_iload_n (pc := 58) hx hb dX4_entryDown_58 rfl (lv_at hl 3 rfl) ?_
        exact s_iret F w h dX4_entryDown_59
set_option maxRecDepth 100000 in
set_option maxHeartbeats 4000000 in
theorem w_Potentials_entryDown_j18 {p : Program} {l : Launch} {e : Env} {R : Room} {s : State} {m : MethodId} {args : Array Value} {below : List Frame} {meth : Method} {c : Code} {dC : Nat → ClassId} {dI : Nat → Nat → Nat} {cs : Nat → ClassId} {ad : Nat → Nat} {A : Nat → Prop} {D0 : Nat → Nat} {S' : SS} {r : Int32} (F : Fx p s m args meth c cX4_entryDown 4 RX4 (some .int) dC dI cs A) (hR1 : 2 ≤ R.frames) (hR2 : 45 ≤ R.locals) (x1 : Int32) (y0 : Int32) (S : SS) (h : f_Potentials_entryDown_j18 x1 y0 S = some (r, S')) : AW p l e R s m args below meth c dC dI cs ad A D0 (some (.int r)) S' 4 18 [(0, .ref (ad 71)), (1, .int x1)] [.int y0] S := by
  have hx := F.1.1
  have hb := F.1.2.1
  intro H locs ls w hl
  rw [f_Potentials_entryDown_j18] at h
  refine lv_istore_n (pc := 18) (lv' := [(2, .int y0), (0, .ref (ad 71)), (1, .int x1)]) hx hb dX4_entryDown_18 rfl hl (by decide) rfl (fun ls hl => ?_)
  refine lv_aload_n (pc := 19) hx hb dX4_entryDown_19 rfl (lv_at hl 1 rfl) ?_
  refine s_getR (pc := 20) F w 116 ds_71 (j := 10) vc_X4 vi_X4 rfl (by decide) kf_X4_45 dX4_entryDown_20 ?_
  refine lv_iload_n (pc := 23) hx hb dX4_entryDown_23 rfl (lv_at hl 0 rfl) ?_
  refine s_iald (pc := 24) F w ds_116 h dX4_entryDown_24 (fun h => ?_)
  refine s_nm h (fun z3 ez3 h => ?_)
  rw [← ez3]
  refine lv_istore_n (pc := 25) (lv' := [(3, .int z3), (2, .int y0), (0, .ref (ad 71)), (1, .int x1)]) hx hb dX4_entryDown_25 rfl hl (by decide) rfl (fun ls hl => ?_)
  exact w_Potentials_entryDown_L26 F (Nat.le_trans (by decide) hR1) (Nat.le_trans (by decide) hR2) _ _ _ _ _ h _ _ _ w (lv_sub hl [2, 3, 1, 0] rfl)
set_option maxRecDepth 100000 in
set_option maxHeartbeats 4000000 in
theorem m_Potentials_entryDown (a1 : Int32) (S S' : SS) (r : Int32) (h : f_Potentials_entryDown a1 S = some (r, S')) : MT yX4_entryDown cX4_entryDown 4 (some .int) 2 45 (fun ad => [.ref (ad 71), .int a1]) S (some (.int r)) S' := by
  refine MT.of RX4 (fun ad => [(0, .ref (ad 71)), (1, .int a1)]) (by decide) rfl (fun _ => Nat.le_of_ble_eq_true rfl) (fun _ => rfl) ?_
  intro p l e R s m args below meth c dC dI cs ad A hR1 hR2 F H locs ls w hl
  have hx := F.1.1
  have hb := F.1.2.1
  rw [f_Potentials_entryDown] at h
  refine lv_aload_n (pc := 0) hx hb dX4_entryDown_0 rfl (lv_at hl 0 rfl) ?_
  refine lv_iload_n (pc := 1) hx hb dX4_entryDown_1 rfl (lv_at hl 1 rfl) ?_
  obtain ⟨r2, S1, hc, h⟩ := bnd_t h
  refine s_cvi (pc := 2) [.int a1] (fun ad => [.ref (ad 71), .int a1]) F w (m_Potentials_isRank _ _ _ _ hc) rfl rfl hl.1 ds_71 vc_X4 rfl ok_X4_isRank rfl kc_X4_isRank kl_X4_63 ki_X4_isRank kv_X4_isRank kn_X4 ⟨Nat.le_trans (by decide) hR1, Nat.le_trans (by decide) hR2⟩ ⟨Nat.zero_le _, Nat.zero_le _⟩ (Nat.le_of_ble_eq_true rfl) dX4_entryDown_2 (fun H locs w => ?_)
  refine lv_if_eq (pc := 5) (tgt := 17) hx hb dX4_entryDown_5 (by decide) (fun q => ?_) (fun q => ?_)
  · have h := ite_t q h
    refine lv_iconst (pc := 17) (v := 0) hx hb dX4_entryDown_17 (by decide) ?_
    exact w_Potentials_entryDown_j18 F (Nat.le_trans (by decide) hR1) (Nat.le_trans (by decide) hR2) _ _ _ h _ _ _ w (lv_sub hl [0, 1] rfl)
  · have h := ite_f q h
    refine lv_iload_n (pc := 8) hx hb dX4_entryDown_8 rfl (lv_at hl 1 rfl) ?_
    refine lv_aload_n (pc := 9) hx hb dX4_entryDown_9 rfl (lv_at hl 0 rfl) ?_
    refine s_getI (pc := 10) F w ds_71 (j := 7) vc_X4 vi_X4 rfl (by decide) kf_X4_36 dX4_entryDown_10 ?_
    obtain ⟨hd, h⟩ := grd_t h
    refine lv_irem (pc := 13) hx hb dX4_entryDown_13 (by simpa using hd) ?_
    refine lv_goto (pc := 14) (tgt := 18) hx hb dX4_entryDown_14 (by decide) ?_
    exact w_Potentials_entryDown_j18 F (Nat.le_trans (by decide) hR1) (Nat.le_trans (by decide) hR2) _ _ _ h _ _ _ w (lv_sub hl [0, 1] rfl)
def f_Potentials_moveOf (a1 : Int32) (S : SS) : Option (Int32 × SS) :=
  if a1 < 0 then
    some ((-4 : Int32), S)
  else
    if a1 < (Int32.ofNat (S.2 117)) then
      grd (inb a1 (S.2 117)) (
      some (S.1 117 a1.toNatClampNeg, S))
    else
      some ((-4 : Int32), S)
theorem dX4_moveOf_0 : decode cX4_moveOf 0 = .ok (.iload_n 1, 1) := dc_27 (by decide +kernel)
theorem dX4_moveOf_1 : decode cX4_moveOf 1 = .ok (.ifCond .lt 12, 3) := dc_155 (a := 0) (b := 12) (by decide +kernel) (by decide)
theorem dX4_moveOf_4 : decode cX4_moveOf 4 = .ok (.iload_n 1, 1) := dc_27 (by decide +kernel)
theorem dX4_moveOf_5 : decode cX4_moveOf 5 = .ok (.aload_n 0, 1) := dc_42 (by decide +kernel)
theorem dX4_moveOf_6 : decode cX4_moveOf 6 = .ok (.getfield 48, 3) := dc_180 (a := 0) (b := 48) (by decide +kernel)
theorem dX4_moveOf_9 : decode cX4_moveOf 9 = .ok (.arraylength, 1) := dc_190 (by decide +kernel)
theorem dX4_moveOf_10 : decode cX4_moveOf 10 = .ok (.if_icmp .lt 8, 3) := dc_161 (a := 0) (b := 8) (by decide +kernel) (by decide)
theorem dX4_moveOf_13 : decode cX4_moveOf 13 = .ok (.bipush (-4), 2) := dc_16 (a := 252) (by decide +kernel) (by decide)
theorem dX4_moveOf_15 : decode cX4_moveOf 15 = .ok (.goto 9, 3) := dc_167 (a := 0) (b := 9) (by decide +kernel) (by decide)
theorem dX4_moveOf_18 : decode cX4_moveOf 18 = .ok (.aload_n 0, 1) := dc_42 (by decide +kernel)
theorem dX4_moveOf_19 : decode cX4_moveOf 19 = .ok (.getfield 48, 3) := dc_180 (a := 0) (b := 48) (by decide +kernel)
theorem dX4_moveOf_22 : decode cX4_moveOf 22 = .ok (.iload_n 1, 1) := dc_27 (by decide +kernel)
theorem dX4_moveOf_23 : decode cX4_moveOf 23 = .ok (.iaload, 1) := dc_46 (by decide +kernel)
theorem dX4_moveOf_24 : decode cX4_moveOf 24 = .ok (.ireturn, 1) := dc_172 (by decide +kernel)
set_option maxRecDepth 100000 in
set_option maxHeartbeats 4000000 in
theorem m_Potentials_moveOf (a1 : Int32) (S S' : SS) (r : Int32) (h : f_Potentials_moveOf a1 S = some (r, S')) : MT yX4_moveOf cX4_moveOf 2 (some .int) 0 0 (fun ad => [.ref (ad 71), .int a1]) S (some (.int r)) S' := by
  refine MT.of RX4 (fun ad => [(0, .ref (ad 71)), (1, .int a1)]) (by decide) rfl (fun _ => Nat.le_of_ble_eq_true rfl) (fun _ => rfl) ?_
  intro p l e R s m args below meth c dC dI cs ad A hR1 hR2 F H locs ls w hl
  have hx := F.1.1
  have hb := F.1.2.1
  rw [f_Potentials_moveOf] at h
  refine lv_iload_n (pc := 0) hx hb dX4_moveOf_0 rfl (lv_at hl 1 rfl) ?_
  refine lv_if_lt (pc := 1) (tgt := 13) hx hb dX4_moveOf_1 (by decide) (fun q => ?_) (fun q => ?_)
  · have h := ite_t q h
    refine lv_bipush (pc := 13) (v := -4) hx hb dX4_moveOf_13 (by decide) ?_
    refine lv_goto (pc := 15) (tgt := 24) hx hb dX4_moveOf_15 (by decide) ?_
    exact s_iret F w h dX4_moveOf_24
  · have h := ite_f q h
    refine lv_iload_n (pc := 4) hx hb dX4_moveOf_4 rfl (lv_at hl 1 rfl) ?_
    refine lv_aload_n (pc := 5) hx hb dX4_moveOf_5 rfl (lv_at hl 0 rfl) ?_
    refine s_getR (pc := 6) F w 117 ds_71 (j := 11) vc_X4 vi_X4 rfl (by decide) kf_X4_48 dX4_moveOf_6 ?_
    refine s_alen (pc := 9) F w ds_117 dX4_moveOf_9 ?_
    show W _ _ _ _ _ _ _ _ _ _ _ _ _ _ _ (F0 _ _ _ (.int (Int32.ofNat (S.2 117)) :: _))
    refine lv_icmp_lt (pc := 10) (tgt := 18) hx hb dX4_moveOf_10 (by decide) (fun q => ?_) (fun q => ?_)
    · have h := ite_t q h
      refine lv_aload_n (pc := 18) hx hb dX4_moveOf_18 rfl (lv_at hl 0 rfl) ?_
      refine s_getR (pc := 19) F w 117 ds_71 (j := 11) vc_X4 vi_X4 rfl (by decide) kf_X4_48 dX4_moveOf_19 ?_
      refine lv_iload_n (pc := 22) hx hb dX4_moveOf_22 rfl (lv_at hl 1 rfl) ?_
      refine s_iald (pc := 23) F w ds_117 h dX4_moveOf_23 (fun h => ?_)
      exact s_iret F w h dX4_moveOf_24
    · have h := ite_f q h
      refine lv_bipush (pc := 13) (v := -4) hx hb dX4_moveOf_13 (by decide) ?_
      refine lv_goto (pc := 15) (tgt := 24) hx hb dX4_moveOf_15 (by decide) ?_
      exact s_iret F w h dX4_moveOf_24
def f_Plans_makeLeast_L65  : Nat → Int32 → Int32 → SS → Option (Int32 × SS)
  | 0, _, _, _ => none
  | n + 1, x2, x3, S =>
    if x2 ≤ x3 then
      wr S 70 7 x2 (fun S8 =>
      wr S8 70 8 (1 : Int32) (fun S9 =>
      some (S9.1 70 7, S9)))
    else
      grd (inb x3 129) (
      bnd (f_Potentials_entryDown (S.1 108 x3.toNatClampNeg) S) (fun r11 S10 =>
      bnd (f_Potentials_moveOf r11 S10) (fun r13 S12 =>
      grd (inb x3 128) (wr S12 107 x3.toNatClampNeg r13 (fun S14 =>
      grd (inb x3 129) (
      bnd (f_Potentials_rankAfter (S14.1 108 x3.toNatClampNeg) r11 S14) (fun r16 S15 =>
      grd (inb (x3 + (1 : Int32)) 129) (wr S15 108 (x3 + (1 : Int32)).toNatClampNeg r16 (fun S17 =>
      nm (x3 + (1 : Int32)) (fun z18 =>
      f_Plans_makeLeast_L65 n x2 z18 S17))))))))))
def f_Plans_makeLeast  (S : SS) : Option (Int32 × SS) :=
  bndv (f_Plans_drop  S) (fun S1 =>
  bndv (f_Potentials_spreadFrom_goal_Plans_rooms  S1) (fun S2 =>
  bnd (f_Potentials_rankOf_start  S2) (fun r4 S3 =>
  bnd (f_Potentials_of r4 S3) (fun r6 S5 =>
  if r6 = (-4 : Int32) then
    some ((-4 : Int32), S5)
  else
    if r6 ≤ (128 : Int32) then
      grd (inb (0 : Int32) 129) (wr S5 108 (0 : Int32).toNatClampNeg r4 (fun S7 =>
      f_Plans_makeLeast_L65 NF r6 (0 : Int32) S7))
    else
      some ((-4 : Int32), S5)))))
theorem dX3_makeLeast_0 : decode cX3_makeLeast 0 = .ok (.aload_n 0, 1) := dc_42 (by decide +kernel)
theorem dX3_makeLeast_1 : decode cX3_makeLeast 1 = .ok (.invokevirtual 77, 3) := dc_182 (a := 0) (b := 77) (by decide +kernel)
theorem dX3_makeLeast_4 : decode cX3_makeLeast 4 = .ok (.aload_n 0, 1) := dc_42 (by decide +kernel)
theorem dX3_makeLeast_5 : decode cX3_makeLeast 5 = .ok (.getfield 31, 3) := dc_180 (a := 0) (b := 31) (by decide +kernel)
theorem dX3_makeLeast_8 : decode cX3_makeLeast 8 = .ok (.aload_n 0, 1) := dc_42 (by decide +kernel)
theorem dX3_makeLeast_9 : decode cX3_makeLeast 9 = .ok (.getfield 18, 3) := dc_180 (a := 0) (b := 18) (by decide +kernel)
theorem dX3_makeLeast_12 : decode cX3_makeLeast 12 = .ok (.aload_n 0, 1) := dc_42 (by decide +kernel)
theorem dX3_makeLeast_13 : decode cX3_makeLeast 13 = .ok (.getfield 24, 3) := dc_180 (a := 0) (b := 24) (by decide +kernel)
theorem dX3_makeLeast_16 : decode cX3_makeLeast 16 = .ok (.invokevirtual 83, 3) := dc_182 (a := 0) (b := 83) (by decide +kernel)
theorem dX3_makeLeast_19 : decode cX3_makeLeast 19 = .ok (.aload_n 0, 1) := dc_42 (by decide +kernel)
theorem dX3_makeLeast_20 : decode cX3_makeLeast 20 = .ok (.getfield 31, 3) := dc_180 (a := 0) (b := 31) (by decide +kernel)
theorem dX3_makeLeast_23 : decode cX3_makeLeast 23 = .ok (.aload_n 0, 1) := dc_42 (by decide +kernel)
theorem dX3_makeLeast_24 : decode cX3_makeLeast 24 = .ok (.getfield 12, 3) := dc_180 (a := 0) (b := 12) (by decide +kernel)
theorem dX3_makeLeast_27 : decode cX3_makeLeast 27 = .ok (.invokevirtual 87, 3) := dc_182 (a := 0) (b := 87) (by decide +kernel)
theorem dX3_makeLeast_30 : decode cX3_makeLeast 30 = .ok (.istore_n 1, 1) := dc_60 (by decide +kernel)
theorem dX3_makeLeast_31 : decode cX3_makeLeast 31 = .ok (.aload_n 0, 1) := dc_42 (by decide +kernel)
theorem dX3_makeLeast_32 : decode cX3_makeLeast 32 = .ok (.getfield 31, 3) := dc_180 (a := 0) (b := 31) (by decide +kernel)
theorem dX3_makeLeast_35 : decode cX3_makeLeast 35 = .ok (.iload_n 1, 1) := dc_27 (by decide +kernel)
theorem dX3_makeLeast_36 : decode cX3_makeLeast 36 = .ok (.invokevirtual 91, 3) := dc_182 (a := 0) (b := 91) (by decide +kernel)
theorem dX3_makeLeast_39 : decode cX3_makeLeast 39 = .ok (.istore_n 2, 1) := dc_61 (by decide +kernel)
theorem dX3_makeLeast_40 : decode cX3_makeLeast 40 = .ok (.iload_n 2, 1) := dc_28 (by decide +kernel)
theorem dX3_makeLeast_41 : decode cX3_makeLeast 41 = .ok (.bipush (-4), 2) := dc_16 (a := 252) (by decide +kernel) (by decide)
theorem dX3_makeLeast_43 : decode cX3_makeLeast 43 = .ok (.if_icmp .eq 10, 3) := dc_159 (a := 0) (b := 10) (by decide +kernel) (by decide)
theorem dX3_makeLeast_46 : decode cX3_makeLeast 46 = .ok (.iload_n 2, 1) := dc_28 (by decide +kernel)
theorem dX3_makeLeast_47 : decode cX3_makeLeast 47 = .ok (.sipush 128, 3) := dc_17 (a := 0) (b := 128) (by decide +kernel) (by decide)
theorem dX3_makeLeast_50 : decode cX3_makeLeast 50 = .ok (.if_icmp .le 6, 3) := dc_164 (a := 0) (b := 6) (by decide +kernel) (by decide)
theorem dX3_makeLeast_53 : decode cX3_makeLeast 53 = .ok (.bipush (-4), 2) := dc_16 (a := 252) (by decide +kernel) (by decide)
theorem dX3_makeLeast_55 : decode cX3_makeLeast 55 = .ok (.ireturn, 1) := dc_172 (by decide +kernel)
theorem dX3_makeLeast_56 : decode cX3_makeLeast 56 = .ok (.aload_n 0, 1) := dc_42 (by decide +kernel)
theorem dX3_makeLeast_57 : decode cX3_makeLeast 57 = .ok (.getfield 38, 3) := dc_180 (a := 0) (b := 38) (by decide +kernel)
theorem dX3_makeLeast_60 : decode cX3_makeLeast 60 = .ok (.iconst 0, 1) := dc_3 (by decide +kernel)
theorem dX3_makeLeast_61 : decode cX3_makeLeast 61 = .ok (.iload_n 1, 1) := dc_27 (by decide +kernel)
theorem dX3_makeLeast_62 : decode cX3_makeLeast 62 = .ok (.iastore, 1) := dc_79 (by decide +kernel)
theorem dX3_makeLeast_63 : decode cX3_makeLeast 63 = .ok (.iconst 0, 1) := dc_3 (by decide +kernel)
theorem dX3_makeLeast_64 : decode cX3_makeLeast 64 = .ok (.istore_n 3, 1) := dc_62 (by decide +kernel)
theorem dX3_makeLeast_65 : decode cX3_makeLeast 65 = .ok (.iload_n 3, 1) := dc_29 (by decide +kernel)
theorem dX3_makeLeast_66 : decode cX3_makeLeast 66 = .ok (.iload_n 2, 1) := dc_28 (by decide +kernel)
theorem dX3_makeLeast_67 : decode cX3_makeLeast 67 = .ok (.if_icmp .ge 62, 3) := dc_162 (a := 0) (b := 62) (by decide +kernel) (by decide)
theorem dX3_makeLeast_70 : decode cX3_makeLeast 70 = .ok (.aload_n 0, 1) := dc_42 (by decide +kernel)
theorem dX3_makeLeast_71 : decode cX3_makeLeast 71 = .ok (.getfield 31, 3) := dc_180 (a := 0) (b := 31) (by decide +kernel)
theorem dX3_makeLeast_74 : decode cX3_makeLeast 74 = .ok (.aload_n 0, 1) := dc_42 (by decide +kernel)
theorem dX3_makeLeast_75 : decode cX3_makeLeast 75 = .ok (.getfield 38, 3) := dc_180 (a := 0) (b := 38) (by decide +kernel)
theorem dX3_makeLeast_78 : decode cX3_makeLeast 78 = .ok (.iload_n 3, 1) := dc_29 (by decide +kernel)
theorem dX3_makeLeast_79 : decode cX3_makeLeast 79 = .ok (.iaload, 1) := dc_46 (by decide +kernel)
theorem dX3_makeLeast_80 : decode cX3_makeLeast 80 = .ok (.invokevirtual 94, 3) := dc_182 (a := 0) (b := 94) (by decide +kernel)
theorem dX3_makeLeast_83 : decode cX3_makeLeast 83 = .ok (.istore 4, 2) := dc_54 (a := 4) (by decide +kernel)
theorem dX3_makeLeast_85 : decode cX3_makeLeast 85 = .ok (.aload_n 0, 1) := dc_42 (by decide +kernel)
theorem dX3_makeLeast_86 : decode cX3_makeLeast 86 = .ok (.getfield 35, 3) := dc_180 (a := 0) (b := 35) (by decide +kernel)
theorem dX3_makeLeast_89 : decode cX3_makeLeast 89 = .ok (.iload_n 3, 1) := dc_29 (by decide +kernel)
theorem dX3_makeLeast_90 : decode cX3_makeLeast 90 = .ok (.aload_n 0, 1) := dc_42 (by decide +kernel)
theorem dX3_makeLeast_91 : decode cX3_makeLeast 91 = .ok (.getfield 31, 3) := dc_180 (a := 0) (b := 31) (by decide +kernel)
theorem dX3_makeLeast_94 : decode cX3_makeLeast 94 = .ok (.iload 4, 2) := dc_21 (a := 4) (by decide +kernel)
theorem dX3_makeLeast_96 : decode cX3_makeLeast 96 = .ok (.invokevirtual 97, 3) := dc_182 (a := 0) (b := 97) (by decide +kernel)
theorem dX3_makeLeast_99 : decode cX3_makeLeast 99 = .ok (.iastore, 1) := dc_79 (by decide +kernel)
theorem dX3_makeLeast_100 : decode cX3_makeLeast 100 = .ok (.aload_n 0, 1) := dc_42 (by decide +kernel)
theorem dX3_makeLeast_101 : decode cX3_makeLeast 101 = .ok (.getfield 38, 3) := dc_180 (a := 0) (b := 38) (by decide +kernel)
theorem dX3_makeLeast_104 : decode cX3_makeLeast 104 = .ok (.iload_n 3, 1) := dc_29 (by decide +kernel)
theorem dX3_makeLeast_105 : decode cX3_makeLeast 105 = .ok (.iconst 1, 1) := dc_4 (by decide +kernel)
theorem dX3_makeLeast_106 : decode cX3_makeLeast 106 = .ok (.iadd, 1) := dc_96 (by decide +kernel)
theorem dX3_makeLeast_107 : decode cX3_makeLeast 107 = .ok (.aload_n 0, 1) := dc_42 (by decide +kernel)
theorem dX3_makeLeast_108 : decode cX3_makeLeast 108 = .ok (.getfield 31, 3) := dc_180 (a := 0) (b := 31) (by decide +kernel)
theorem dX3_makeLeast_111 : decode cX3_makeLeast 111 = .ok (.aload_n 0, 1) := dc_42 (by decide +kernel)
theorem dX3_makeLeast_112 : decode cX3_makeLeast 112 = .ok (.getfield 38, 3) := dc_180 (a := 0) (b := 38) (by decide +kernel)
theorem dX3_makeLeast_115 : decode cX3_makeLeast 115 = .ok (.iload_n 3, 1) := dc_29 (by decide +kernel)
theorem dX3_makeLeast_116 : decode cX3_makeLeast 116 = .ok (.iaload, 1) := dc_46 (by decide +kernel)
theorem dX3_makeLeast_117 : decode cX3_makeLeast 117 = .ok (.iload 4, 2) := dc_21 (a := 4) (by decide +kernel)
theorem dX3_makeLeast_119 : decode cX3_makeLeast 119 = .ok (.invokevirtual 100, 3) := dc_182 (a := 0) (b := 100) (by decide +kernel)
theorem dX3_makeLeast_122 : decode cX3_makeLeast 122 = .ok (.iastore, 1) := dc_79 (by decide +kernel)
theorem dX3_makeLeast_123 : decode cX3_makeLeast 123 = .ok (.iinc 3 1, 3) := dc_132 (a := 3) (b := 1) (by decide +kernel) (by decide)
theorem dX3_makeLeast_126 : decode cX3_makeLeast 126 = .ok (.goto (-61), 3) := dc_167 (a := 255) (b := 195) (by decide +kernel) (by decide)
theorem dX3_makeLeast_129 : decode cX3_makeLeast 129 = .ok (.aload_n 0, 1) := dc_42 (by decide +kernel)
theorem dX3_makeLeast_130 : decode cX3_makeLeast 130 = .ok (.iload_n 2, 1) := dc_28 (by decide +kernel)
theorem dX3_makeLeast_131 : decode cX3_makeLeast 131 = .ok (.putfield 41, 3) := dc_181 (a := 0) (b := 41) (by decide +kernel)
theorem dX3_makeLeast_134 : decode cX3_makeLeast 134 = .ok (.aload_n 0, 1) := dc_42 (by decide +kernel)
theorem dX3_makeLeast_135 : decode cX3_makeLeast 135 = .ok (.iconst 1, 1) := dc_4 (by decide +kernel)
theorem dX3_makeLeast_136 : decode cX3_makeLeast 136 = .ok (.putfield 45, 3) := dc_181 (a := 0) (b := 45) (by decide +kernel)
theorem dX3_makeLeast_139 : decode cX3_makeLeast 139 = .ok (.aload_n 0, 1) := dc_42 (by decide +kernel)
theorem dX3_makeLeast_140 : decode cX3_makeLeast 140 = .ok (.getfield 41, 3) := dc_180 (a := 0) (b := 41) (by decide +kernel)
theorem dX3_makeLeast_143 : decode cX3_makeLeast 143 = .ok (.ireturn, 1) := dc_172 (by decide +kernel)
set_option maxRecDepth 100000 in
set_option maxHeartbeats 4000000 in
theorem w_Plans_makeLeast_L65 {p : Program} {l : Launch} {e : Env} {R : Room} {s : State} {m : MethodId} {args : Array Value} {below : List Frame} {meth : Method} {c : Code} {dC : Nat → ClassId} {dI : Nat → Nat → Nat} {cs : Nat → ClassId} {ad ad0 : Nat → Nat} {A : Nat → Prop} {D0 : Nat → Nat} {S' : SS} {mc ms : Nat} {r : Int32} (F : Fx p s m args meth c cX3_makeLeast 5 RX3 (some .int) dC dI cs A) (hR1 : 3 ≤ R.frames) (hR2 : 68 ≤ R.locals) (hRc : mc ≤ R.cells) (hRs : ms ≤ R.slots) : ∀ (n : Nat) (x2 : Int32) (x3 : Int32) (S : SS), f_Plans_makeLeast_L65 n x2 x3 S = some (r, S') → AWX p l e R s m args below meth c dC dI cs ad0 ad A D0 (some (.int r)) S' mc ms 5 65 [(0, .ref (ad 70)), (2, .int x2), (3, .int x3)] [] (0 + mc) (0 + ms) S := by
  have hx := F.1.1
  have hb := F.1.2.1
  intro n
  induction n with
  | zero => intro x2 x3 S h; cases h
  | succ n ih =>
    intro x2 x3 S h H locs ls hA w hl
    rw [f_Plans_makeLeast_L65] at h
    refine lv_iload_n (pc := 65) hx hb dX3_makeLeast_65 rfl (lv_at hl 2 rfl) ?_
    refine lv_iload_n (pc := 66) hx hb dX3_makeLeast_66 rfl (lv_at hl 1 rfl) ?_
    refine lv_icmp_ge (pc := 67) (tgt := 129) hx hb dX3_makeLeast_67 (by decide) (fun q => ?_) (fun q => ?_)
    · have h := ite_t q h
      refine lv_aload_n (pc := 129) hx hb dX3_makeLeast_129 rfl (lv_at hl 0 rfl) ?_
      refine lv_iload_n (pc := 130) hx hb dX3_makeLeast_130 rfl (lv_at hl 1 rfl) ?_
      refine s_putI (pc := 131) F w ds_70 vc_X3 vi_X3 tyX3_ok nmX3 (j := 7) rfl (by decide) kf_X3_41 rfl pd_I h dX3_makeLeast_131 (fun S8 H locs h w => ?_)
      refine lv_aload_n (pc := 134) hx hb dX3_makeLeast_134 rfl (lv_at hl 0 rfl) ?_
      refine lv_iconst (pc := 135) (v := 1) hx hb dX3_makeLeast_135 (by decide) ?_
      refine s_putI (pc := 136) F w ds_70 vc_X3 vi_X3 tyX3_ok nmX3 (j := 8) rfl (by decide) kf_X3_45 rfl pd_I h dX3_makeLeast_136 (fun S9 H locs h w => ?_)
      refine lv_aload_n (pc := 139) hx hb dX3_makeLeast_139 rfl (lv_at hl 0 rfl) ?_
      refine s_getI (pc := 140) F w ds_70 (j := 7) vc_X3 vi_X3 rfl (by decide) kf_X3_41 dX3_makeLeast_140 ?_
      exact s_iretX F w hA ⟨Nat.le_of_eq (Nat.zero_add _), Nat.le_of_eq (Nat.zero_add _)⟩ h dX3_makeLeast_143
    · have h := ite_f q h
      refine lv_aload_n (pc := 70) hx hb dX3_makeLeast_70 rfl (lv_at hl 0 rfl) ?_
      refine s_getR (pc := 71) F w 71 ds_70 (j := 4) vc_X3 vi_X3 rfl (by decide) kf_X3_31 dX3_makeLeast_71 ?_
      refine lv_aload_n (pc := 74) hx hb dX3_makeLeast_74 rfl (lv_at hl 0 rfl) ?_
      refine s_getR (pc := 75) F w 108 ds_70 (j := 6) vc_X3 vi_X3 rfl (by decide) kf_X3_38 dX3_makeLeast_75 ?_
      refine lv_iload_n (pc := 78) hx hb dX3_makeLeast_78 rfl (lv_at hl 2 rfl) ?_
      refine s_iald (pc := 79) F w ds_108 h dX3_makeLeast_79 (fun h => ?_)
      obtain ⟨r11, S10, hc, h⟩ := bnd_t h
      refine s_cvi (pc := 80) [.int (S.1 108 x3.toNatClampNeg)] (fun ad => [.ref (ad 71), .int (S.1 108 x3.toNatClampNeg)]) F w (m_Potentials_entryDown _ _ _ _ hc) rfl rfl hl.1 ds_71 vc_X4 rfl ok_X4_entryDown rfl kc_X4_entryDown kl_X3_94 ki_X4_entryDown kv_X4_entryDown kn_X4 ⟨Nat.le_trans (by decide) hR1, Nat.le_trans (by decide) hR2⟩ ⟨by rw [Nat.zero_add]; exact hRc, by rw [Nat.zero_add]; exact hRs⟩ (Nat.le_of_ble_eq_true rfl) dX3_makeLeast_80 (fun H locs w => ?_)
      refine lv_istore (pc := 83) (lv' := [(4, .int r11), (0, .ref (ad 70)), (2, .int x2), (3, .int x3)]) hx hb dX3_makeLeast_83 hl (by decide) rfl (fun ls hl => ?_)
      refine lv_aload_n (pc := 85) hx hb dX3_makeLeast_85 rfl (lv_at hl 1 rfl) ?_
      refine s_getR (pc := 86) F w 107 ds_70 (j := 5) vc_X3 vi_X3 rfl (by decide) kf_X3_35 dX3_makeLeast_86 ?_
      refine lv_iload_n (pc := 89) hx hb dX3_makeLeast_89 rfl (lv_at hl 3 rfl) ?_
      refine lv_aload_n (pc := 90) hx hb dX3_makeLeast_90 rfl (lv_at hl 1 rfl) ?_
      refine s_getR (pc := 91) F w 71 ds_70 (j := 4) vc_X3 vi_X3 rfl (by decide) kf_X3_31 dX3_makeLeast_91 ?_
      refine lv_iload (pc := 94) hx hb dX3_makeLeast_94 (lv_at hl 0 rfl) ?_
      obtain ⟨r13, S12, hc, h⟩ := bnd_t h
      refine s_cvi (pc := 96) [.int r11] (fun ad => [.ref (ad 71), .int r11]) F w (m_Potentials_moveOf _ _ _ _ hc) rfl rfl hl.1 ds_71 vc_X4 rfl ok_X4_moveOf rfl kc_X4_moveOf kl_X3_97 ki_X4_moveOf kv_X4_moveOf kn_X4 ⟨Nat.le_trans (by decide) hR1, Nat.le_trans (by decide) hR2⟩ ⟨by rw [Nat.zero_add]; exact hRc, by rw [Nat.zero_add]; exact hRs⟩ (Nat.le_of_ble_eq_true rfl) dX3_makeLeast_96 (fun H locs w => ?_)
      refine s_iast (pc := 99) F w ds_107 h dX3_makeLeast_99 (fun S14 H locs h w => ?_)
      refine lv_aload_n (pc := 100) hx hb dX3_makeLeast_100 rfl (lv_at hl 1 rfl) ?_
      refine s_getR (pc := 101) F w 108 ds_70 (j := 6) vc_X3 vi_X3 rfl (by decide) kf_X3_38 dX3_makeLeast_101 ?_
      refine lv_iload_n (pc := 104) hx hb dX3_makeLeast_104 rfl (lv_at hl 3 rfl) ?_
      refine lv_iconst (pc := 105) (v := 1) hx hb dX3_makeLeast_105 (by decide) ?_
      refine lv_iadd (pc := 106) hx hb dX3_makeLeast_106 ?_
      refine lv_aload_n (pc := 107) hx hb dX3_makeLeast_107 rfl (lv_at hl 1 rfl) ?_
      refine s_getR (pc := 108) F w 71 ds_70 (j := 4) vc_X3 vi_X3 rfl (by decide) kf_X3_31 dX3_makeLeast_108 ?_
      refine lv_aload_n (pc := 111) hx hb dX3_makeLeast_111 rfl (lv_at hl 1 rfl) ?_
      refine s_getR (pc := 112) F w 108 ds_70 (j := 6) vc_X3 vi_X3 rfl (by decide) kf_X3_38 dX3_makeLeast_112 ?_
      refine lv_iload_n (pc := 115) hx hb dX3_makeLeast_115 rfl (lv_at hl 3 rfl) ?_
      refine s_iald (pc := 116) F w ds_108 h dX3_makeLeast_116 (fun h => ?_)
      refine lv_iload (pc := 117) hx hb dX3_makeLeast_117 (lv_at hl 0 rfl) ?_
      obtain ⟨r16, S15, hc, h⟩ := bnd_t h
      refine s_cvi (pc := 119) [.int (S14.1 108 x3.toNatClampNeg), .int r11] (fun ad => [.ref (ad 71), .int (S14.1 108 x3.toNatClampNeg), .int r11]) F w (m_Potentials_rankAfter _ _ _ _ _ hc) rfl rfl hl.1 ds_71 vc_X4 rfl ok_X4_rankAfter rfl kc_X4_rankAfter kl_X3_100 ki_X4_rankAfter kv_X4_rankAfter kn_X4 ⟨Nat.le_trans (by decide) hR1, Nat.le_trans (by decide) hR2⟩ ⟨by rw [Nat.zero_add]; exact hRc, by rw [Nat.zero_add]; exact hRs⟩ (Nat.le_of_ble_eq_true rfl) dX3_makeLeast_119 (fun H locs w => ?_)
      refine s_iast (pc := 122) F w ds_108 h dX3_makeLeast_122 (fun S17 H locs h w => ?_)
      refine s_nm h (fun z18 ez18 h => ?_)
      refine lv_iinc (pc := 123) (v := z18) (lv' := [(3, .int z18), (4, .int r11), (0, .ref (ad 70)), (2, .int x2)]) hx hb dX3_makeLeast_123 hl (k := 3) rfl (by rw [ez18]; rfl) (by decide) rfl (fun ls hl => ?_)
      refine lv_goto (pc := 126) (tgt := 65) hx hb dX3_makeLeast_126 (by decide) ?_
      exact ih _ _ _ h _ _ _ hA w (lv_sub hl [2, 3, 0] rfl)
set_option maxRecDepth 100000 in
set_option maxHeartbeats 4000000 in
theorem m_Plans_makeLeast  (S S' : SS) (r : Int32) (h : f_Plans_makeLeast  S = some (r, S')) : MX yX3_makeLeast cX3_makeLeast 5 (some .int) 5 141 (fun ad => [.ref (ad 70)]) S (some (.int r)) S' (8 * S.2 200) (18641 * S.2 200) := by
  refine MX.of RX3 (fun ad => [(0, .ref (ad 70))]) (by decide) rfl (fun _ => Nat.le_of_ble_eq_true rfl) (fun _ => rfl) ?_
  intro p l e R s m args below meth c dC dI cs ad A hR1 hR2 hRc hRs F H locs ls hA w hl
  have hx := F.1.1
  have hb := F.1.2.1
  rw [f_Plans_makeLeast] at h
  refine lv_aload_n (pc := 0) hx hb dX3_makeLeast_0 rfl (lv_at hl 0 rfl) ?_
  obtain ⟨S1, hc, h⟩ := bndv_t h
  refine s_cvv (pc := 1) [] (fun ad => [.ref (ad 70)]) F w (m_Plans_drop  _ _ hc) rfl rfl hl.1 ds_70 vc_X3 rfl ok_X3_drop rfl kc_X3_drop kl_X3_77 ki_X3_drop kv_X3_drop kn_X3 ⟨Nat.le_trans (by decide) hR1, Nat.le_trans (by decide) hR2⟩ ⟨Nat.zero_le _, Nat.zero_le _⟩ (Nat.le_of_ble_eq_true rfl) dX3_makeLeast_1 (fun H locs w => ?_)
  refine lv_aload_n (pc := 4) hx hb dX3_makeLeast_4 rfl (lv_at hl 0 rfl) ?_
  refine s_getR (pc := 5) F w 71 ds_70 (j := 4) vc_X3 vi_X3 rfl (by decide) kf_X3_31 dX3_makeLeast_5 ?_
  refine lv_aload_n (pc := 8) hx hb dX3_makeLeast_8 rfl (lv_at hl 0 rfl) ?_
  refine s_getR (pc := 9) F w 73 ds_70 (j := 1) vc_X3 vi_X3 rfl (by decide) kf_X3_18 dX3_makeLeast_9 ?_
  refine lv_aload_n (pc := 12) hx hb dX3_makeLeast_12 rfl (lv_at hl 0 rfl) ?_
  refine s_getR (pc := 13) F w 106 ds_70 (j := 3) vc_X3 vi_X3 rfl (by decide) kf_X3_24 dX3_makeLeast_13 ?_
  obtain ⟨S2, hc, h⟩ := bndv_t h
  have hM := m_Potentials_spreadFrom_goal_Plans_rooms  _ _ hc
  rw [w.2.2.2] at hM
  refine s_cxv (pc := 16) [.ref (ad 73), .ref (ad 106)] (fun ad => [.ref (ad 71), .ref (ad 73), .ref (ad 106)]) F w hM rfl rfl hl.1 ds_71 vc_X4 rfl ok_X4_spreadFrom rfl kc_X4_spreadFrom kl_X3_83 ki_X4_spreadFrom kv_X4_spreadFrom kn_X4 ⟨Nat.le_trans (by decide) hR1, Nat.le_trans (by decide) hR2⟩ ⟨by rw [Nat.zero_add]; exact hRc, by rw [Nat.zero_add]; exact hRs⟩ (Nat.le_of_ble_eq_true rfl) dX3_makeLeast_16 (fun ad1 H locs hQ w => ?_)
  have hA := hA.tr hQ
  have hl : lv_has ls 5 [(0, .ref (ad1 70))] := by rw [hQ 70 (by decide)]; exact hl
  refine lv_aload_n (pc := 19) hx hb dX3_makeLeast_19 rfl (lv_at hl 0 rfl) ?_
  refine s_getR (pc := 20) F w 71 ds_70 (j := 4) vc_X3 vi_X3 rfl (by decide) kf_X3_31 dX3_makeLeast_20 ?_
  refine lv_aload_n (pc := 23) hx hb dX3_makeLeast_23 rfl (lv_at hl 0 rfl) ?_
  refine s_getR (pc := 24) F w 72 ds_70 (j := 0) vc_X3 vi_X3 rfl (by decide) kf_X3_12 dX3_makeLeast_24 ?_
  obtain ⟨r4, S3, hc, h⟩ := bnd_t h
  refine s_cvi (pc := 27) [.ref (ad1 72)] (fun ad => [.ref (ad 71), .ref (ad 72)]) F w (m_Potentials_rankOf_start  _ _ _ hc) rfl rfl hl.1 ds_71 vc_X4 rfl ok_X4_rankOf rfl kc_X4_rankOf kl_X3_87 ki_X4_rankOf kv_X4_rankOf kn_X4 ⟨Nat.le_trans (by decide) hR1, Nat.le_trans (by decide) hR2⟩ ⟨by rw [Nat.zero_add]; exact hRc, by rw [Nat.zero_add]; exact hRs⟩ (Nat.le_of_ble_eq_true rfl) dX3_makeLeast_27 (fun H locs w => ?_)
  refine lv_istore_n (pc := 30) (lv' := [(1, .int r4), (0, .ref (ad1 70))]) hx hb dX3_makeLeast_30 rfl hl (by decide) rfl (fun ls hl => ?_)
  refine lv_aload_n (pc := 31) hx hb dX3_makeLeast_31 rfl (lv_at hl 1 rfl) ?_
  refine s_getR (pc := 32) F w 71 ds_70 (j := 4) vc_X3 vi_X3 rfl (by decide) kf_X3_31 dX3_makeLeast_32 ?_
  refine lv_iload_n (pc := 35) hx hb dX3_makeLeast_35 rfl (lv_at hl 0 rfl) ?_
  obtain ⟨r6, S5, hc, h⟩ := bnd_t h
  refine s_cvi (pc := 36) [.int r4] (fun ad => [.ref (ad 71), .int r4]) F w (m_Potentials_of _ _ _ _ hc) rfl rfl hl.1 ds_71 vc_X4 rfl ok_X4_of rfl kc_X4_of kl_X3_91 ki_X4_of kv_X4_of kn_X4 ⟨Nat.le_trans (by decide) hR1, Nat.le_trans (by decide) hR2⟩ ⟨by rw [Nat.zero_add]; exact hRc, by rw [Nat.zero_add]; exact hRs⟩ (Nat.le_of_ble_eq_true rfl) dX3_makeLeast_36 (fun H locs w => ?_)
  refine lv_istore_n (pc := 39) (lv' := [(2, .int r6), (1, .int r4), (0, .ref (ad1 70))]) hx hb dX3_makeLeast_39 rfl hl (by decide) rfl (fun ls hl => ?_)
  refine lv_iload_n (pc := 40) hx hb dX3_makeLeast_40 rfl (lv_at hl 0 rfl) ?_
  refine lv_bipush (pc := 41) (v := -4) hx hb dX3_makeLeast_41 (by decide) ?_
  refine lv_icmp_eq (pc := 43) (tgt := 53) hx hb dX3_makeLeast_43 (by decide) (fun q => ?_) (fun q => ?_)
  · have h := ite_t q h
    refine lv_bipush (pc := 53) (v := -4) hx hb dX3_makeLeast_53 (by decide) ?_
    exact s_iretX F w hA ⟨Nat.le_of_eq (Nat.zero_add _), Nat.le_of_eq (Nat.zero_add _)⟩ h dX3_makeLeast_55
  · have h := ite_f q h
    refine lv_iload_n (pc := 46) hx hb dX3_makeLeast_46 rfl (lv_at hl 0 rfl) ?_
    refine lv_sipush (pc := 47) (v := 128) hx hb dX3_makeLeast_47 (by decide) ?_
    refine lv_icmp_le (pc := 50) (tgt := 56) hx hb dX3_makeLeast_50 (by decide) (fun q => ?_) (fun q => ?_)
    · have h := ite_t q h
      refine lv_aload_n (pc := 56) hx hb dX3_makeLeast_56 rfl (lv_at hl 2 rfl) ?_
      refine s_getR (pc := 57) F w 108 ds_70 (j := 6) vc_X3 vi_X3 rfl (by decide) kf_X3_38 dX3_makeLeast_57 ?_
      refine lv_iconst (pc := 60) (v := 0) hx hb dX3_makeLeast_60 (by decide) ?_
      refine lv_iload_n (pc := 61) hx hb dX3_makeLeast_61 rfl (lv_at hl 1 rfl) ?_
      refine s_iast (pc := 62) F w ds_108 h dX3_makeLeast_62 (fun S7 H locs h w => ?_)
      refine lv_iconst (pc := 63) (v := 0) hx hb dX3_makeLeast_63 (by decide) ?_
      refine lv_istore_n (pc := 64) (lv' := [(3, .int (0 : Int32)), (2, .int r6), (1, .int r4), (0, .ref (ad1 70))]) hx hb dX3_makeLeast_64 rfl hl (by decide) rfl (fun ls hl => ?_)
      exact w_Plans_makeLeast_L65 F (Nat.le_trans (by decide) hR1) (Nat.le_trans (by decide) hR2) hRc hRs _ _ _ _ h _ _ _ hA w (lv_sub hl [3, 1, 0] rfl)
    · have h := ite_f q h
      refine lv_bipush (pc := 53) (v := -4) hx hb dX3_makeLeast_53 (by decide) ?_
      exact s_iretX F w hA ⟨Nat.le_of_eq (Nat.zero_add _), Nat.le_of_eq (Nat.zero_add _)⟩ h dX3_makeLeast_55
def f_Plans_roomiest_j41 (K6 : Int32 → Int32 → Int32 → Int32 → SS → Option (Int32 × SS)) (x1 : Int32) (x2 : Int32) (x3 : Int32) (x4 : Int32) (S : SS) : Option (Int32 × SS) :=
    nm (x4 + (1 : Int32)) (fun z1 =>
    K6 x1 x2 x3 z1 S)
def f_Plans_roomiest_L6  : Nat → Int32 → Int32 → Int32 → Int32 → SS → Option (Int32 × SS)
  | 0, _, _, _, _, _ => none
  | n + 1, x1, x2, x3, x4, S =>
    if (4 : Int32) ≤ x4 then
      some (x3, S)
    else
      if x4 = x1 then
        f_Plans_roomiest_j41 (fun v0 v1 v2 v3 S => f_Plans_roomiest_L6 n v0 v1 v2 v3 S) x1 x2 x3 x4 S
      else
        if x4 = x2 then
          f_Plans_roomiest_j41 (fun v0 v1 v2 v3 S => f_Plans_roomiest_L6 n v0 v1 v2 v3 S) x1 x2 x3 x4 S
        else
          bnd (f_Plans_roomLeft x4 S) (fun r3 S2 =>
          bnd (f_Plans_roomLeft x3 S2) (fun r5 S4 =>
          if r3 ≤ r5 then
            f_Plans_roomiest_j41 (fun v0 v1 v2 v3 S => f_Plans_roomiest_L6 n v0 v1 v2 v3 S) x1 x2 x3 x4 S4
          else
            f_Plans_roomiest_j41 (fun v0 v1 v2 v3 S => f_Plans_roomiest_L6 n v0 v1 v2 v3 S) x1 x2 x4 x4 S4))
def f_Plans_roomiest (a1 : Int32) (a2 : Int32) (S : SS) : Option (Int32 × SS) :=
  f_Plans_roomiest_L6 NF a1 a2 (-4 : Int32) (0 : Int32) S
theorem dX3_roomiest_0 : decode cX3_roomiest 0 = .ok (.bipush (-4), 2) := dc_16 (a := 252) (by decide +kernel) (by decide)
theorem dX3_roomiest_2 : decode cX3_roomiest 2 = .ok (.istore_n 3, 1) := dc_62 (by decide +kernel)
theorem dX3_roomiest_3 : decode cX3_roomiest 3 = .ok (.iconst 0, 1) := dc_3 (by decide +kernel)
theorem dX3_roomiest_4 : decode cX3_roomiest 4 = .ok (.istore 4, 2) := dc_54 (a := 4) (by decide +kernel)
theorem dX3_roomiest_6 : decode cX3_roomiest 6 = .ok (.iload 4, 2) := dc_21 (a := 4) (by decide +kernel)
theorem dX3_roomiest_8 : decode cX3_roomiest 8 = .ok (.iconst 4, 1) := dc_7 (by decide +kernel)
theorem dX3_roomiest_9 : decode cX3_roomiest 9 = .ok (.if_icmp .ge 38, 3) := dc_162 (a := 0) (b := 38) (by decide +kernel) (by decide)
theorem dX3_roomiest_12 : decode cX3_roomiest 12 = .ok (.iload 4, 2) := dc_21 (a := 4) (by decide +kernel)
theorem dX3_roomiest_14 : decode cX3_roomiest 14 = .ok (.iload_n 1, 1) := dc_27 (by decide +kernel)
theorem dX3_roomiest_15 : decode cX3_roomiest 15 = .ok (.if_icmp .eq 26, 3) := dc_159 (a := 0) (b := 26) (by decide +kernel) (by decide)
theorem dX3_roomiest_18 : decode cX3_roomiest 18 = .ok (.iload 4, 2) := dc_21 (a := 4) (by decide +kernel)
theorem dX3_roomiest_20 : decode cX3_roomiest 20 = .ok (.iload_n 2, 1) := dc_28 (by decide +kernel)
theorem dX3_roomiest_21 : decode cX3_roomiest 21 = .ok (.if_icmp .eq 20, 3) := dc_159 (a := 0) (b := 20) (by decide +kernel) (by decide)
theorem dX3_roomiest_24 : decode cX3_roomiest 24 = .ok (.aload_n 0, 1) := dc_42 (by decide +kernel)
theorem dX3_roomiest_25 : decode cX3_roomiest 25 = .ok (.iload 4, 2) := dc_21 (a := 4) (by decide +kernel)
theorem dX3_roomiest_27 : decode cX3_roomiest 27 = .ok (.invokevirtual 128, 3) := dc_182 (a := 0) (b := 128) (by decide +kernel)
theorem dX3_roomiest_30 : decode cX3_roomiest 30 = .ok (.aload_n 0, 1) := dc_42 (by decide +kernel)
theorem dX3_roomiest_31 : decode cX3_roomiest 31 = .ok (.iload_n 3, 1) := dc_29 (by decide +kernel)
theorem dX3_roomiest_32 : decode cX3_roomiest 32 = .ok (.invokevirtual 128, 3) := dc_182 (a := 0) (b := 128) (by decide +kernel)
theorem dX3_roomiest_35 : decode cX3_roomiest 35 = .ok (.if_icmp .le 6, 3) := dc_164 (a := 0) (b := 6) (by decide +kernel) (by decide)
theorem dX3_roomiest_38 : decode cX3_roomiest 38 = .ok (.iload 4, 2) := dc_21 (a := 4) (by decide +kernel)
theorem dX3_roomiest_40 : decode cX3_roomiest 40 = .ok (.istore_n 3, 1) := dc_62 (by decide +kernel)
theorem dX3_roomiest_41 : decode cX3_roomiest 41 = .ok (.iinc 4 1, 3) := dc_132 (a := 4) (b := 1) (by decide +kernel) (by decide)
theorem dX3_roomiest_44 : decode cX3_roomiest 44 = .ok (.goto (-38), 3) := dc_167 (a := 255) (b := 218) (by decide +kernel) (by decide)
theorem dX3_roomiest_47 : decode cX3_roomiest 47 = .ok (.iload_n 3, 1) := dc_29 (by decide +kernel)
theorem dX3_roomiest_48 : decode cX3_roomiest 48 = .ok (.ireturn, 1) := dc_172 (by decide +kernel)
set_option maxRecDepth 100000 in
set_option maxHeartbeats 4000000 in
theorem w_Plans_roomiest_j41 {p : Program} {l : Launch} {e : Env} {R : Room} {s : State} {m : MethodId} {args : Array Value} {below : List Frame} {meth : Method} {c : Code} {dC : Nat → ClassId} {dI : Nat → Nat → Nat} {cs : Nat → ClassId} {ad : Nat → Nat} {A : Nat → Prop} {D0 : Nat → Nat} {S' : SS} {r : Int32} (F : Fx p s m args meth c cX3_roomiest 5 RX3 (some .int) dC dI cs A) (hR1 : 0 ≤ R.frames) (hR2 : 0 ≤ R.locals) (K6 : Int32 → Int32 → Int32 → Int32 → SS → Option (Int32 × SS)) (hK6 : ∀ (v0 : Int32) (v1 : Int32) (v2 : Int32) (v3 : Int32) (S : SS), K6 v0 v1 v2 v3 S = some (r, S') → AW p l e R s m args below meth c dC dI cs ad A D0 (some (.int r)) S' 5 6 [(0, .ref (ad 70)), (1, .int v0), (2, .int v1), (3, .int v2), (4, .int v3)] [] S) (x1 : Int32) (x2 : Int32) (x3 : Int32) (x4 : Int32) (S : SS) (h : f_Plans_roomiest_j41 K6 x1 x2 x3 x4 S = some (r, S')) : AW p l e R s m args below meth c dC dI cs ad A D0 (some (.int r)) S' 5 41 [(0, .ref (ad 70)), (1, .int x1), (2, .int x2), (3, .int x3), (4, .int x4)] [] S := by
  have hx := F.1.1
  have hb := F.1.2.1
  intro H locs ls w hl
  rw [f_Plans_roomiest_j41] at h
  refine s_nm h (fun z1 ez1 h => ?_)
  refine lv_iinc (pc := 41) (v := z1) (lv' := [(4, .int z1), (0, .ref (ad 70)), (1, .int x1), (2, .int x2), (3, .int x3)]) hx hb dX3_roomiest_41 hl (k := 4) rfl (by rw [ez1]; rfl) (by decide) rfl (fun ls hl => ?_)
  refine lv_goto (pc := 44) (tgt := 6) hx hb dX3_roomiest_44 (by decide) ?_
  exact hK6 _ _ _ _ _ h _ _ _ w (lv_sub hl [1, 2, 3, 4, 0] rfl)
set_option maxRecDepth 100000 in
set_option maxHeartbeats 4000000 in
theorem w_Plans_roomiest_L6 {p : Program} {l : Launch} {e : Env} {R : Room} {s : State} {m : MethodId} {args : Array Value} {below : List Frame} {meth : Method} {c : Code} {dC : Nat → ClassId} {dI : Nat → Nat → Nat} {cs : Nat → ClassId} {ad : Nat → Nat} {A : Nat → Prop} {D0 : Nat → Nat} {S' : SS} {r : Int32} (F : Fx p s m args meth c cX3_roomiest 5 RX3 (some .int) dC dI cs A) (hR1 : 2 ≤ R.frames) (hR2 : 42 ≤ R.locals) : ∀ (n : Nat) (x1 : Int32) (x2 : Int32) (x3 : Int32) (x4 : Int32) (S : SS), f_Plans_roomiest_L6 n x1 x2 x3 x4 S = some (r, S') → AW p l e R s m args below meth c dC dI cs ad A D0 (some (.int r)) S' 5 6 [(0, .ref (ad 70)), (1, .int x1), (2, .int x2), (3, .int x3), (4, .int x4)] [] S := by
  have hx := F.1.1
  have hb := F.1.2.1
  intro n
  induction n with
  | zero => intro x1 x2 x3 x4 S h; cases h
  | succ n ih =>
    intro x1 x2 x3 x4 S h H locs ls w hl
    rw [f_Plans_roomiest_L6] at h
    refine lv_iload (pc := 6) hx hb dX3_roomiest_6 (lv_at hl 4 rfl) ?_
    refine lv_iconst (pc := 8) (v := 4) hx hb dX3_roomiest_8 (by decide) ?_
    refine lv_icmp_ge (pc := 9) (tgt := 47) hx hb dX3_roomiest_9 (by decide) (fun q => ?_) (fun q => ?_)
    · have h := ite_t q h
      refine lv_iload_n (pc := 47) hx hb dX3_roomiest_47 rfl (lv_at hl 3 rfl) ?_
      exact s_iret F w h dX3_roomiest_48
    · have h := ite_f q h
      refine lv_iload (pc := 12) hx hb dX3_roomiest_12 (lv_at hl 4 rfl) ?_
      refine lv_iload_n (pc := 14) hx hb dX3_roomiest_14 rfl (lv_at hl 1 rfl) ?_
      refine lv_icmp_eq (pc := 15) (tgt := 41) hx hb dX3_roomiest_15 (by decide) (fun q => ?_) (fun q => ?_)
      · have h := ite_t q h
        exact w_Plans_roomiest_j41 F (Nat.le_trans (by decide) hR1) (Nat.le_trans (by decide) hR2) _ (fun v0 v1 v2 v3 S h => ih v0 v1 v2 v3 S h) _ _ _ _ _ h _ _ _ w (lv_sub hl [0, 1, 2, 3, 4] rfl)
      · have h := ite_f q h
        refine lv_iload (pc := 18) hx hb dX3_roomiest_18 (lv_at hl 4 rfl) ?_
        refine lv_iload_n (pc := 20) hx hb dX3_roomiest_20 rfl (lv_at hl 2 rfl) ?_
        refine lv_icmp_eq (pc := 21) (tgt := 41) hx hb dX3_roomiest_21 (by decide) (fun q => ?_) (fun q => ?_)
        · have h := ite_t q h
          exact w_Plans_roomiest_j41 F (Nat.le_trans (by decide) hR1) (Nat.le_trans (by decide) hR2) _ (fun v0 v1 v2 v3 S h => ih v0 v1 v2 v3 S h) _ _ _ _ _ h _ _ _ w (lv_sub hl [0, 1, 2, 3, 4] rfl)
        · have h := ite_f q h
          refine lv_aload_n (pc := 24) hx hb dX3_roomiest_24 rfl (lv_at hl 0 rfl) ?_
          refine lv_iload (pc := 25) hx hb dX3_roomiest_25 (lv_at hl 4 rfl) ?_
          obtain ⟨r3, S2, hc, h⟩ := bnd_t h
          refine s_cvi (pc := 27) [.int x4] (fun ad => [.ref (ad 70), .int x4]) F w (m_Plans_roomLeft _ _ _ _ hc) rfl rfl hl.1 ds_70 vc_X3 rfl ok_X3_roomLeft rfl kc_X3_roomLeft kl_X3_128 ki_X3_roomLeft kv_X3_roomLeft kn_X3 ⟨Nat.le_trans (by decide) hR1, Nat.le_trans (by decide) hR2⟩ ⟨Nat.zero_le _, Nat.zero_le _⟩ (Nat.le_of_ble_eq_true rfl) dX3_roomiest_27 (fun H locs w => ?_)
          refine lv_aload_n (pc := 30) hx hb dX3_roomiest_30 rfl (lv_at hl 0 rfl) ?_
          refine lv_iload_n (pc := 31) hx hb dX3_roomiest_31 rfl (lv_at hl 3 rfl) ?_
          obtain ⟨r5, S4, hc, h⟩ := bnd_t h
          refine s_cvi (pc := 32) [.int x3] (fun ad => [.ref (ad 70), .int x3]) F w (m_Plans_roomLeft _ _ _ _ hc) rfl rfl hl.1 ds_70 vc_X3 rfl ok_X3_roomLeft rfl kc_X3_roomLeft kl_X3_128 ki_X3_roomLeft kv_X3_roomLeft kn_X3 ⟨Nat.le_trans (by decide) hR1, Nat.le_trans (by decide) hR2⟩ ⟨Nat.zero_le _, Nat.zero_le _⟩ (Nat.le_of_ble_eq_true rfl) dX3_roomiest_32 (fun H locs w => ?_)
          refine lv_icmp_le (pc := 35) (tgt := 41) hx hb dX3_roomiest_35 (by decide) (fun q => ?_) (fun q => ?_)
          · have h := ite_t q h
            exact w_Plans_roomiest_j41 F (Nat.le_trans (by decide) hR1) (Nat.le_trans (by decide) hR2) _ (fun v0 v1 v2 v3 S h => ih v0 v1 v2 v3 S h) _ _ _ _ _ h _ _ _ w (lv_sub hl [0, 1, 2, 3, 4] rfl)
          · have h := ite_f q h
            refine lv_iload (pc := 38) hx hb dX3_roomiest_38 (lv_at hl 4 rfl) ?_
            refine lv_istore_n (pc := 40) (lv' := [(3, .int x4), (0, .ref (ad 70)), (1, .int x1), (2, .int x2), (4, .int x4)]) hx hb dX3_roomiest_40 rfl hl (by decide) rfl (fun ls hl => ?_)
            exact w_Plans_roomiest_j41 F (Nat.le_trans (by decide) hR1) (Nat.le_trans (by decide) hR2) _ (fun v0 v1 v2 v3 S h => ih v0 v1 v2 v3 S h) _ _ _ _ _ h _ _ _ w (lv_sub hl [1, 2, 3, 0, 4] rfl)
set_option maxRecDepth 100000 in
set_option maxHeartbeats 4000000 in
theorem m_Plans_roomiest (a1 : Int32) (a2 : Int32) (S S' : SS) (r : Int32) (h : f_Plans_roomiest a1 a2 S = some (r, S')) : MT yX3_roomiest cX3_roomiest 5 (some .int) 2 42 (fun ad => [.ref (ad 70), .int a1, .int a2]) S (some (.int r)) S' := by
  refine MT.of RX3 (fun ad => [(0, .ref (ad 70)), (1, .int a1), (2, .int a2)]) (by decide) rfl (fun _ => Nat.le_of_ble_eq_true rfl) (fun _ => rfl) ?_
  intro p l e R s m args below meth c dC dI cs ad A hR1 hR2 F H locs ls w hl
  have hx := F.1.1
  have hb := F.1.2.1
  rw [f_Plans_roomiest] at h
  refine lv_bipush (pc := 0) (v := -4) hx hb dX3_roomiest_0 (by decide) ?_
  refine lv_istore_n (pc := 2) (lv' := [(3, .int (-4 : Int32)), (0, .ref (ad 70)), (1, .int a1), (2, .int a2)]) hx hb dX3_roomiest_2 rfl hl (by decide) rfl (fun ls hl => ?_)
  refine lv_iconst (pc := 3) (v := 0) hx hb dX3_roomiest_3 (by decide) ?_
  refine lv_istore (pc := 4) (lv' := [(4, .int (0 : Int32)), (3, .int (-4 : Int32)), (0, .ref (ad 70)), (1, .int a1), (2, .int a2)]) hx hb dX3_roomiest_4 hl (by decide) rfl (fun ls hl => ?_)
  exact w_Plans_roomiest_L6 F (Nat.le_trans (by decide) hR1) (Nat.le_trans (by decide) hR2) _ _ _ _ _ _ h _ _ _ w (lv_sub hl [2, 3, 4, 1, 0] rfl)
def f_Plans_moveOne (a1 : Int32) (a2 : Int32) (S : SS) : Option (Int32 × SS) :=
  bnd (f_Plans_roomLeft a2 S) (fun r2 S1 =>
  if r2 < (1 : Int32) then
    some ((0 : Int32), S1)
  else
    if (S1.1 70 7) < (128 : Int32) then
      bndv (f_Stacks_shift_work a1 a2 (1 : Int32) S1) (fun S3 =>
      grd (inb (S3.1 70 7) 128) (wr S3 107 (S3.1 70 7).toNatClampNeg ((((64 : Int32) * a1) + ((16 : Int32) * a2)) + (1 : Int32)) (fun S4 =>
      wr S4 70 7 ((S4.1 70 7) + (1 : Int32)) (fun S5 =>
      some ((1 : Int32), S5)))))
    else
      some ((0 : Int32), S1))
theorem dX3_moveOne_0 : decode cX3_moveOne 0 = .ok (.aload_n 0, 1) := dc_42 (by decide +kernel)
theorem dX3_moveOne_1 : decode cX3_moveOne 1 = .ok (.iload_n 2, 1) := dc_28 (by decide +kernel)
theorem dX3_moveOne_2 : decode cX3_moveOne 2 = .ok (.invokevirtual 128, 3) := dc_182 (a := 0) (b := 128) (by decide +kernel)
theorem dX3_moveOne_5 : decode cX3_moveOne 5 = .ok (.iconst 1, 1) := dc_4 (by decide +kernel)
theorem dX3_moveOne_6 : decode cX3_moveOne 6 = .ok (.if_icmp .lt 13, 3) := dc_161 (a := 0) (b := 13) (by decide +kernel) (by decide)
theorem dX3_moveOne_9 : decode cX3_moveOne 9 = .ok (.aload_n 0, 1) := dc_42 (by decide +kernel)
theorem dX3_moveOne_10 : decode cX3_moveOne 10 = .ok (.getfield 41, 3) := dc_180 (a := 0) (b := 41) (by decide +kernel)
theorem dX3_moveOne_13 : decode cX3_moveOne 13 = .ok (.sipush 128, 3) := dc_17 (a := 0) (b := 128) (by decide +kernel) (by decide)
theorem dX3_moveOne_16 : decode cX3_moveOne 16 = .ok (.if_icmp .lt 5, 3) := dc_161 (a := 0) (b := 5) (by decide +kernel) (by decide)
theorem dX3_moveOne_19 : decode cX3_moveOne 19 = .ok (.iconst 0, 1) := dc_3 (by decide +kernel)
theorem dX3_moveOne_20 : decode cX3_moveOne 20 = .ok (.ireturn, 1) := dc_172 (by decide +kernel)
theorem dX3_moveOne_21 : decode cX3_moveOne 21 = .ok (.aload_n 0, 1) := dc_42 (by decide +kernel)
theorem dX3_moveOne_22 : decode cX3_moveOne 22 = .ok (.getfield 21, 3) := dc_180 (a := 0) (b := 21) (by decide +kernel)
theorem dX3_moveOne_25 : decode cX3_moveOne 25 = .ok (.iload_n 1, 1) := dc_27 (by decide +kernel)
theorem dX3_moveOne_26 : decode cX3_moveOne 26 = .ok (.iload_n 2, 1) := dc_28 (by decide +kernel)
theorem dX3_moveOne_27 : decode cX3_moveOne 27 = .ok (.iconst 1, 1) := dc_4 (by decide +kernel)
theorem dX3_moveOne_28 : decode cX3_moveOne 28 = .ok (.invokevirtual 131, 3) := dc_182 (a := 0) (b := 131) (by decide +kernel)
theorem dX3_moveOne_31 : decode cX3_moveOne 31 = .ok (.aload_n 0, 1) := dc_42 (by decide +kernel)
theorem dX3_moveOne_32 : decode cX3_moveOne 32 = .ok (.getfield 35, 3) := dc_180 (a := 0) (b := 35) (by decide +kernel)
theorem dX3_moveOne_35 : decode cX3_moveOne 35 = .ok (.aload_n 0, 1) := dc_42 (by decide +kernel)
theorem dX3_moveOne_36 : decode cX3_moveOne 36 = .ok (.getfield 41, 3) := dc_180 (a := 0) (b := 41) (by decide +kernel)
theorem dX3_moveOne_39 : decode cX3_moveOne 39 = .ok (.bipush 64, 2) := dc_16 (a := 64) (by decide +kernel) (by decide)
theorem dX3_moveOne_41 : decode cX3_moveOne 41 = .ok (.iload_n 1, 1) := dc_27 (by decide +kernel)
theorem dX3_moveOne_42 : decode cX3_moveOne 42 = .ok (.imul, 1) := dc_104 (by decide +kernel)
theorem dX3_moveOne_43 : decode cX3_moveOne 43 = .ok (.bipush 16, 2) := dc_16 (a := 16) (by decide +kernel) (by decide)
theorem dX3_moveOne_45 : decode cX3_moveOne 45 = .ok (.iload_n 2, 1) := dc_28 (by decide +kernel)
theorem dX3_moveOne_46 : decode cX3_moveOne 46 = .ok (.imul, 1) := dc_104 (by decide +kernel)
theorem dX3_moveOne_47 : decode cX3_moveOne 47 = .ok (.iadd, 1) := dc_96 (by decide +kernel)
theorem dX3_moveOne_48 : decode cX3_moveOne 48 = .ok (.iconst 1, 1) := dc_4 (by decide +kernel)
theorem dX3_moveOne_49 : decode cX3_moveOne 49 = .ok (.iadd, 1) := dc_96 (by decide +kernel)
theorem dX3_moveOne_50 : decode cX3_moveOne 50 = .ok (.iastore, 1) := dc_79 (by decide +kernel)
theorem dX3_moveOne_51 : decode cX3_moveOne 51 = .ok (.aload_n 0, 1) := dc_42 (by decide +kernel)
theorem dX3_moveOne_52 : decode cX3_moveOne 52 = .ok (.dup, 1) := dc_89 (by decide +kernel)
theorem dX3_moveOne_53 : decode cX3_moveOne 53 = .ok (.getfield 41, 3) := dc_180 (a := 0) (b := 41) (by decide +kernel)
theorem dX3_moveOne_56 : decode cX3_moveOne 56 = .ok (.iconst 1, 1) := dc_4 (by decide +kernel)
theorem dX3_moveOne_57 : decode cX3_moveOne 57 = .ok (.iadd, 1) := dc_96 (by decide +kernel)
theorem dX3_moveOne_58 : decode cX3_moveOne 58 = .ok (.putfield 41, 3) := dc_181 (a := 0) (b := 41) (by decide +kernel)
theorem dX3_moveOne_61 : decode cX3_moveOne 61 = .ok (.iconst 1, 1) := dc_4 (by decide +kernel)
theorem dX3_moveOne_62 : decode cX3_moveOne 62 = .ok (.ireturn, 1) := dc_172 (by decide +kernel)
set_option maxRecDepth 100000 in
set_option maxHeartbeats 4000000 in
theorem m_Plans_moveOne (a1 : Int32) (a2 : Int32) (S S' : SS) (r : Int32) (h : f_Plans_moveOne a1 a2 S = some (r, S')) : MT yX3_moveOne cX3_moveOne 3 (some .boolean) 2 64 (fun ad => [.ref (ad 70), .int a1, .int a2]) S (some (.int r)) S' := by
  refine MT.of RX3 (fun ad => [(0, .ref (ad 70)), (1, .int a1), (2, .int a2)]) (by decide) rfl (fun _ => Nat.le_of_ble_eq_true rfl) (fun _ => rfl) ?_
  intro p l e R s m args below meth c dC dI cs ad A hR1 hR2 F H locs ls w hl
  have hx := F.1.1
  have hb := F.1.2.1
  rw [f_Plans_moveOne] at h
  refine lv_aload_n (pc := 0) hx hb dX3_moveOne_0 rfl (lv_at hl 0 rfl) ?_
  refine lv_iload_n (pc := 1) hx hb dX3_moveOne_1 rfl (lv_at hl 2 rfl) ?_
  obtain ⟨r2, S1, hc, h⟩ := bnd_t h
  refine s_cvi (pc := 2) [.int a2] (fun ad => [.ref (ad 70), .int a2]) F w (m_Plans_roomLeft _ _ _ _ hc) rfl rfl hl.1 ds_70 vc_X3 rfl ok_X3_roomLeft rfl kc_X3_roomLeft kl_X3_128 ki_X3_roomLeft kv_X3_roomLeft kn_X3 ⟨Nat.le_trans (by decide) hR1, Nat.le_trans (by decide) hR2⟩ ⟨Nat.zero_le _, Nat.zero_le _⟩ (Nat.le_of_ble_eq_true rfl) dX3_moveOne_2 (fun H locs w => ?_)
  refine lv_iconst (pc := 5) (v := 1) hx hb dX3_moveOne_5 (by decide) ?_
  refine lv_icmp_lt (pc := 6) (tgt := 19) hx hb dX3_moveOne_6 (by decide) (fun q => ?_) (fun q => ?_)
  · have h := ite_t q h
    refine lv_iconst (pc := 19) (v := 0) hx hb dX3_moveOne_19 (by decide) ?_
    exact s_zretc F w rfl h dX3_moveOne_20
  · have h := ite_f q h
    refine lv_aload_n (pc := 9) hx hb dX3_moveOne_9 rfl (lv_at hl 0 rfl) ?_
    refine s_getI (pc := 10) F w ds_70 (j := 7) vc_X3 vi_X3 rfl (by decide) kf_X3_41 dX3_moveOne_10 ?_
    refine lv_sipush (pc := 13) (v := 128) hx hb dX3_moveOne_13 (by decide) ?_
    refine lv_icmp_lt (pc := 16) (tgt := 21) hx hb dX3_moveOne_16 (by decide) (fun q => ?_) (fun q => ?_)
    · have h := ite_t q h
      refine lv_aload_n (pc := 21) hx hb dX3_moveOne_21 rfl (lv_at hl 0 rfl) ?_
      refine s_getR (pc := 22) F w 74 ds_70 (j := 2) vc_X3 vi_X3 rfl (by decide) kf_X3_21 dX3_moveOne_22 ?_
      refine lv_iload_n (pc := 25) hx hb dX3_moveOne_25 rfl (lv_at hl 1 rfl) ?_
      refine lv_iload_n (pc := 26) hx hb dX3_moveOne_26 rfl (lv_at hl 2 rfl) ?_
      refine lv_iconst (pc := 27) (v := 1) hx hb dX3_moveOne_27 (by decide) ?_
      obtain ⟨S3, hc, h⟩ := bndv_t h
      refine s_cvv (pc := 28) [.int a1, .int a2, .int (1 : Int32)] (fun ad => [.ref (ad 74), .int a1, .int a2, .int (1 : Int32)]) F w (m_Stacks_shift_work _ _ _ _ _ hc) rfl rfl hl.1 ds_74 vc_X7 rfl ok_X7_shift rfl kc_X7_shift kl_X3_131 ki_X7_shift kv_X7_shift kn_X7 ⟨Nat.le_trans (by decide) hR1, Nat.le_trans (by decide) hR2⟩ ⟨Nat.zero_le _, Nat.zero_le _⟩ (Nat.le_of_ble_eq_true rfl) dX3_moveOne_28 (fun H locs w => ?_)
      refine lv_aload_n (pc := 31) hx hb dX3_moveOne_31 rfl (lv_at hl 0 rfl) ?_
      refine s_getR (pc := 32) F w 107 ds_70 (j := 5) vc_X3 vi_X3 rfl (by decide) kf_X3_35 dX3_moveOne_32 ?_
      refine lv_aload_n (pc := 35) hx hb dX3_moveOne_35 rfl (lv_at hl 0 rfl) ?_
      refine s_getI (pc := 36) F w ds_70 (j := 7) vc_X3 vi_X3 rfl (by decide) kf_X3_41 dX3_moveOne_36 ?_
      refine lv_bipush (pc := 39) (v := 64) hx hb dX3_moveOne_39 (by decide) ?_
      refine lv_iload_n (pc := 41) hx hb dX3_moveOne_41 rfl (lv_at hl 1 rfl) ?_
      refine lv_imul (pc := 42) hx hb dX3_moveOne_42 ?_
      refine lv_bipush (pc := 43) (v := 16) hx hb dX3_moveOne_43 (by decide) ?_
      refine lv_iload_n (pc := 45) hx hb dX3_moveOne_45 rfl (lv_at hl 2 rfl) ?_
      refine lv_imul (pc := 46) hx hb dX3_moveOne_46 ?_
      refine lv_iadd (pc := 47) hx hb dX3_moveOne_47 ?_
      refine lv_iconst (pc := 48) (v := 1) hx hb dX3_moveOne_48 (by decide) ?_
      refine lv_iadd (pc := 49) hx hb dX3_moveOne_49 ?_
      refine s_iast (pc := 50) F w ds_107 h dX3_moveOne_50 (fun S4 H locs h w => ?_)
      refine lv_aload_n (pc := 51) hx hb dX3_moveOne_51 rfl (lv_at hl 0 rfl) ?_
      refine lv_dup (pc := 52) hx hb dX3_moveOne_52 rfl ?_
      refine s_getI (pc := 53) F w ds_70 (j := 7) vc_X3 vi_X3 rfl (by decide) kf_X3_41 dX3_moveOne_53 ?_
      refine lv_iconst (pc := 56) (v := 1) hx hb dX3_moveOne_56 (by decide) ?_
      refine lv_iadd (pc := 57) hx hb dX3_moveOne_57 ?_
      refine s_putI (pc := 58) F w ds_70 vc_X3 vi_X3 tyX3_ok nmX3 (j := 7) rfl (by decide) kf_X3_41 rfl pd_I h dX3_moveOne_58 (fun S5 H locs h w => ?_)
      refine lv_iconst (pc := 61) (v := 1) hx hb dX3_moveOne_61 (by decide) ?_
      exact s_zretc F w rfl h dX3_moveOne_62
    · have h := ite_f q h
      refine lv_iconst (pc := 19) (v := 0) hx hb dX3_moveOne_19 (by decide) ?_
      exact s_zretc F w rfl h dX3_moveOne_20
def f_Plans_lower_L12  : Nat → Int32 → Int32 → Int32 → SS → Option (Int32 × SS)
  | 0, _, _, _, _ => none
  | n + 1, x1, x3, x4, S =>
    if x4 ≤ 0 then
      some ((1 : Int32), S)
    else
      bnd (f_Plans_roomiest x1 x3 S) (fun r5 S4 =>
      bnd (f_Plans_moveOne x1 r5 S4) (fun r7 S6 =>
      if r7 = 0 then
        some ((0 : Int32), S6)
      else
        nm (x4 + (-1 : Int32)) (fun z8 =>
        f_Plans_lower_L12 n x1 x3 z8 S6)))
def f_Plans_lower (a1 : Int32) (a2 : Int32) (a3 : Int32) (S : SS) : Option (Int32 × SS) :=
  bnd (f_Stacks_height_work a1 S) (fun r2 S1 =>
  nm (r2 - a2) (fun z3 =>
  f_Plans_lower_L12 NF a1 a3 z3 S1))
theorem dX3_lower_0 : decode cX3_lower 0 = .ok (.aload_n 0, 1) := dc_42 (by decide +kernel)
theorem dX3_lower_1 : decode cX3_lower 1 = .ok (.getfield 21, 3) := dc_180 (a := 0) (b := 21) (by decide +kernel)
theorem dX3_lower_4 : decode cX3_lower 4 = .ok (.iload_n 1, 1) := dc_27 (by decide +kernel)
theorem dX3_lower_5 : decode cX3_lower 5 = .ok (.invokevirtual 54, 3) := dc_182 (a := 0) (b := 54) (by decide +kernel)
theorem dX3_lower_8 : decode cX3_lower 8 = .ok (.iload_n 2, 1) := dc_28 (by decide +kernel)
theorem dX3_lower_9 : decode cX3_lower 9 = .ok (.isub, 1) := dc_100 (by decide +kernel)
theorem dX3_lower_10 : decode cX3_lower 10 = .ok (.istore 4, 2) := dc_54 (a := 4) (by decide +kernel)
theorem dX3_lower_12 : decode cX3_lower 12 = .ok (.iload 4, 2) := dc_21 (a := 4) (by decide +kernel)
theorem dX3_lower_14 : decode cX3_lower 14 = .ok (.ifCond .le 25, 3) := dc_158 (a := 0) (b := 25) (by decide +kernel) (by decide)
theorem dX3_lower_17 : decode cX3_lower 17 = .ok (.aload_n 0, 1) := dc_42 (by decide +kernel)
theorem dX3_lower_18 : decode cX3_lower 18 = .ok (.iload_n 1, 1) := dc_27 (by decide +kernel)
theorem dX3_lower_19 : decode cX3_lower 19 = .ok (.aload_n 0, 1) := dc_42 (by decide +kernel)
theorem dX3_lower_20 : decode cX3_lower 20 = .ok (.iload_n 1, 1) := dc_27 (by decide +kernel)
theorem dX3_lower_21 : decode cX3_lower 21 = .ok (.iload_n 3, 1) := dc_29 (by decide +kernel)
theorem dX3_lower_22 : decode cX3_lower 22 = .ok (.invokevirtual 125, 3) := dc_182 (a := 0) (b := 125) (by decide +kernel)
theorem dX3_lower_25 : decode cX3_lower 25 = .ok (.invokevirtual 121, 3) := dc_182 (a := 0) (b := 121) (by decide +kernel)
theorem dX3_lower_28 : decode cX3_lower 28 = .ok (.ifCond .ne 5, 3) := dc_154 (a := 0) (b := 5) (by decide +kernel) (by decide)
theorem dX3_lower_31 : decode cX3_lower 31 = .ok (.iconst 0, 1) := dc_3 (by decide +kernel)
theorem dX3_lower_32 : decode cX3_lower 32 = .ok (.ireturn, 1) := dc_172 (by decide +kernel)
theorem dX3_lower_33 : decode cX3_lower 33 = .ok (.iinc 4 (-1), 3) := dc_132 (a := 4) (b := 255) (by decide +kernel) (by decide)
theorem dX3_lower_36 : decode cX3_lower 36 = .ok (.goto (-24), 3) := dc_167 (a := 255) (b := 232) (by decide +kernel) (by decide)
theorem dX3_lower_39 : decode cX3_lower 39 = .ok (.iconst 1, 1) := dc_4 (by decide +kernel)
theorem dX3_lower_40 : decode cX3_lower 40 = .ok (.ireturn, 1) := dc_172 (by decide +kernel)
set_option maxRecDepth 100000 in
set_option maxHeartbeats 4000000 in
theorem w_Plans_lower_L12 {p : Program} {l : Launch} {e : Env} {R : Room} {s : State} {m : MethodId} {args : Array Value} {below : List Frame} {meth : Method} {c : Code} {dC : Nat → ClassId} {dI : Nat → Nat → Nat} {cs : Nat → ClassId} {ad : Nat → Nat} {A : Nat → Prop} {D0 : Nat → Nat} {S' : SS} {r : Int32} (F : Fx p s m args meth c cX3_lower 5 RX3 (some .boolean) dC dI cs A) (hR1 : 3 ≤ R.frames) (hR2 : 86 ≤ R.locals) : ∀ (n : Nat) (x1 : Int32) (x3 : Int32) (x4 : Int32) (S : SS), f_Plans_lower_L12 n x1 x3 x4 S = some (r, S') → AW p l e R s m args below meth c dC dI cs ad A D0 (some (.int r)) S' 5 12 [(0, .ref (ad 70)), (1, .int x1), (3, .int x3), (4, .int x4)] [] S := by
  have hx := F.1.1
  have hb := F.1.2.1
  intro n
  induction n with
  | zero => intro x1 x3 x4 S h; cases h
  | succ n ih =>
    intro x1 x3 x4 S h H locs ls w hl
    rw [f_Plans_lower_L12] at h
    refine lv_iload (pc := 12) hx hb dX3_lower_12 (lv_at hl 3 rfl) ?_
    refine lv_if_le (pc := 14) (tgt := 39) hx hb dX3_lower_14 (by decide) (fun q => ?_) (fun q => ?_)
    · have h := ite_t q h
      refine lv_iconst (pc := 39) (v := 1) hx hb dX3_lower_39 (by decide) ?_
      exact s_zretc F w rfl h dX3_lower_40
    · have h := ite_f q h
      refine lv_aload_n (pc := 17) hx hb dX3_lower_17 rfl (lv_at hl 0 rfl) ?_
      refine lv_iload_n (pc := 18) hx hb dX3_lower_18 rfl (lv_at hl 1 rfl) ?_
      refine lv_aload_n (pc := 19) hx hb dX3_lower_19 rfl (lv_at hl 0 rfl) ?_
      refine lv_iload_n (pc := 20) hx hb dX3_lower_20 rfl (lv_at hl 1 rfl) ?_
      refine lv_iload_n (pc := 21) hx hb dX3_lower_21 rfl (lv_at hl 2 rfl) ?_
      obtain ⟨r5, S4, hc, h⟩ := bnd_t h
      refine s_cvi (pc := 22) [.int x1, .int x3] (fun ad => [.ref (ad 70), .int x1, .int x3]) F w (m_Plans_roomiest _ _ _ _ _ hc) rfl rfl hl.1 ds_70 vc_X3 rfl ok_X3_roomiest rfl kc_X3_roomiest kl_X3_125 ki_X3_roomiest kv_X3_roomiest kn_X3 ⟨Nat.le_trans (by decide) hR1, Nat.le_trans (by decide) hR2⟩ ⟨Nat.zero_le _, Nat.zero_le _⟩ (Nat.le_of_ble_eq_true rfl) dX3_lower_22 (fun H locs w => ?_)
      obtain ⟨r7, S6, hc, h⟩ := bnd_t h
      refine s_cvi (pc := 25) [.int x1, .int r5] (fun ad => [.ref (ad 70), .int x1, .int r5]) F w (m_Plans_moveOne _ _ _ _ _ hc) rfl rfl hl.1 ds_70 vc_X3 rfl ok_X3_moveOne rfl kc_X3_moveOne kl_X3_121 ki_X3_moveOne kv_X3_moveOne kn_X3 ⟨Nat.le_trans (by decide) hR1, Nat.le_trans (by decide) hR2⟩ ⟨Nat.zero_le _, Nat.zero_le _⟩ (Nat.le_of_ble_eq_true rfl) dX3_lower_25 (fun H locs w => ?_)
      refine lv_if_ne (pc := 28) (tgt := 33) hx hb dX3_lower_28 (by decide) (fun q => ?_) (fun q => ?_)
      · have h := ite_f q h
        refine s_nm h (fun z8 ez8 h => ?_)
        refine lv_iinc (pc := 33) (v := z8) (lv' := [(4, .int z8), (0, .ref (ad 70)), (1, .int x1), (3, .int x3)]) hx hb dX3_lower_33 hl (k := 3) rfl (by rw [ez8]; rfl) (by decide) rfl (fun ls hl => ?_)
        refine lv_goto (pc := 36) (tgt := 12) hx hb dX3_lower_36 (by decide) ?_
        exact ih _ _ _ _ h _ _ _ w (lv_sub hl [1, 2, 3, 0] rfl)
      · have h := ite_t q h
        refine lv_iconst (pc := 31) (v := 0) hx hb dX3_lower_31 (by decide) ?_
        exact s_zretc F w rfl h dX3_lower_32
set_option maxRecDepth 100000 in
set_option maxHeartbeats 4000000 in
theorem m_Plans_lower (a1 : Int32) (a2 : Int32) (a3 : Int32) (S S' : SS) (r : Int32) (h : f_Plans_lower a1 a2 a3 S = some (r, S')) : MT yX3_lower cX3_lower 5 (some .boolean) 3 86 (fun ad => [.ref (ad 70), .int a1, .int a2, .int a3]) S (some (.int r)) S' := by
  refine MT.of RX3 (fun ad => [(0, .ref (ad 70)), (1, .int a1), (2, .int a2), (3, .int a3)]) (by decide) rfl (fun _ => Nat.le_of_ble_eq_true rfl) (fun _ => rfl) ?_
  intro p l e R s m args below meth c dC dI cs ad A hR1 hR2 F H locs ls w hl
  have hx := F.1.1
  have hb := F.1.2.1
  rw [f_Plans_lower] at h
  refine lv_aload_n (pc := 0) hx hb dX3_lower_0 rfl (lv_at hl 0 rfl) ?_
  refine s_getR (pc := 1) F w 74 ds_70 (j := 2) vc_X3 vi_X3 rfl (by decide) kf_X3_21 dX3_lower_1 ?_
  refine lv_iload_n (pc := 4) hx hb dX3_lower_4 rfl (lv_at hl 1 rfl) ?_
  obtain ⟨r2, S1, hc, h⟩ := bnd_t h
  refine s_cvi (pc := 5) [.int a1] (fun ad => [.ref (ad 74), .int a1]) F w (m_Stacks_height_work _ _ _ _ hc) rfl rfl hl.1 ds_74 vc_X7 rfl ok_X7_height rfl kc_X7_height kl_X3_54 ki_X7_height kv_X7_height kn_X7 ⟨Nat.le_trans (by decide) hR1, Nat.le_trans (by decide) hR2⟩ ⟨Nat.zero_le _, Nat.zero_le _⟩ (Nat.le_of_ble_eq_true rfl) dX3_lower_5 (fun H locs w => ?_)
  refine lv_iload_n (pc := 8) hx hb dX3_lower_8 rfl (lv_at hl 2 rfl) ?_
  refine lv_isub (pc := 9) hx hb dX3_lower_9 ?_
  refine s_nm h (fun z3 ez3 h => ?_)
  rw [← ez3]
  refine lv_istore (pc := 10) (lv' := [(4, .int z3), (0, .ref (ad 70)), (1, .int a1), (2, .int a2), (3, .int a3)]) hx hb dX3_lower_10 hl (by decide) rfl (fun ls hl => ?_)
  exact w_Plans_lower_L12 F (Nat.le_trans (by decide) hR1) (Nat.le_trans (by decide) hR2) _ _ _ _ _ h _ _ _ w (lv_sub hl [1, 2, 4, 0] rfl)
def f_Stacks_placeOn_work_L2  : Nat → Int32 → Int32 → Int32 → SS → Option (Int32 × SS)
  | 0, _, _, _, _ => none
  | n + 1, x1, x2, x3, S =>
    bnd (f_Stacks_height_work x1 S) (fun r2 S1 =>
    if r2 ≤ x3 then
      some ((-4 : Int32), S1)
    else
      bnd (f_Stacks_wagonAt_work x1 x3 S1) (fun r4 S3 =>
      if r4 = x2 then
        some (x3, S3)
      else
        nm (x3 + (1 : Int32)) (fun z5 =>
        f_Stacks_placeOn_work_L2 n x1 x2 z5 S3)))
def f_Stacks_placeOn_work (a1 : Int32) (a2 : Int32) (S : SS) : Option (Int32 × SS) :=
  f_Stacks_placeOn_work_L2 NF a1 a2 (0 : Int32) S
set_option maxRecDepth 100000 in
set_option maxHeartbeats 4000000 in
theorem w_Stacks_placeOn_work_L2 {p : Program} {l : Launch} {e : Env} {R : Room} {s : State} {m : MethodId} {args : Array Value} {below : List Frame} {meth : Method} {c : Code} {dC : Nat → ClassId} {dI : Nat → Nat → Nat} {cs : Nat → ClassId} {ad : Nat → Nat} {A : Nat → Prop} {D0 : Nat → Nat} {S' : SS} {r : Int32} (F : Fx p s m args meth c cX7_placeOn 4 RX7 (some .int) dC dI cs A) (hR1 : 1 ≤ R.frames) (hR2 : 23 ≤ R.locals) : ∀ (n : Nat) (x1 : Int32) (x2 : Int32) (x3 : Int32) (S : SS), f_Stacks_placeOn_work_L2 n x1 x2 x3 S = some (r, S') → AW p l e R s m args below meth c dC dI cs ad A D0 (some (.int r)) S' 4 2 [(0, .ref (ad 74)), (1, .int x1), (2, .int x2), (3, .int x3)] [] S := by
  have hx := F.1.1
  have hb := F.1.2.1
  intro n
  induction n with
  | zero => intro x1 x2 x3 S h; cases h
  | succ n ih =>
    intro x1 x2 x3 S h H locs ls w hl
    rw [f_Stacks_placeOn_work_L2] at h
    refine lv_iload_n (pc := 2) hx hb dX7_placeOn_2 rfl (lv_at hl 3 rfl) ?_
    refine lv_aload_n (pc := 3) hx hb dX7_placeOn_3 rfl (lv_at hl 0 rfl) ?_
    refine lv_iload_n (pc := 4) hx hb dX7_placeOn_4 rfl (lv_at hl 1 rfl) ?_
    obtain ⟨r2, S1, hc, h⟩ := bnd_t h
    refine s_cvi (pc := 5) [.int x1] (fun ad => [.ref (ad 74), .int x1]) F w (m_Stacks_height_work _ _ _ _ hc) rfl rfl hl.1 ds_74 vc_X7 rfl ok_X7_height rfl kc_X7_height kl_X7_30 ki_X7_height kv_X7_height kn_X7 ⟨Nat.le_trans (by decide) hR1, Nat.le_trans (by decide) hR2⟩ ⟨Nat.zero_le _, Nat.zero_le _⟩ (Nat.le_of_ble_eq_true rfl) dX7_placeOn_5 (fun H locs w => ?_)
    refine lv_icmp_ge (pc := 8) (tgt := 29) hx hb dX7_placeOn_8 (by decide) (fun q => ?_) (fun q => ?_)
    · have h := ite_t q h
      refine lv_bipush (pc := 29) (v := -4) hx hb dX7_placeOn_29 (by decide) ?_
      exact s_iret F w h dX7_placeOn_31
    · have h := ite_f q h
      refine lv_aload_n (pc := 11) hx hb dX7_placeOn_11 rfl (lv_at hl 0 rfl) ?_
      refine lv_iload_n (pc := 12) hx hb dX7_placeOn_12 rfl (lv_at hl 1 rfl) ?_
      refine lv_iload_n (pc := 13) hx hb dX7_placeOn_13 rfl (lv_at hl 3 rfl) ?_
      obtain ⟨r4, S3, hc, h⟩ := bnd_t h
      refine s_cvi (pc := 14) [.int x1, .int x3] (fun ad => [.ref (ad 74), .int x1, .int x3]) F w (m_Stacks_wagonAt_work _ _ _ _ _ hc) rfl rfl hl.1 ds_74 vc_X7 rfl ok_X7_wagonAt rfl kc_X7_wagonAt kl_X7_34 ki_X7_wagonAt kv_X7_wagonAt kn_X7 ⟨Nat.le_trans (by decide) hR1, Nat.le_trans (by decide) hR2⟩ ⟨Nat.zero_le _, Nat.zero_le _⟩ (Nat.le_of_ble_eq_true rfl) dX7_placeOn_14 (fun H locs w => ?_)
      refine lv_iload_n (pc := 17) hx hb dX7_placeOn_17 rfl (lv_at hl 2 rfl) ?_
      refine lv_icmp_ne (pc := 18) (tgt := 23) hx hb dX7_placeOn_18 (by decide) (fun q => ?_) (fun q => ?_)
      · have h := ite_f q h
        refine s_nm h (fun z5 ez5 h => ?_)
        refine lv_iinc (pc := 23) (v := z5) (lv' := [(3, .int z5), (0, .ref (ad 74)), (1, .int x1), (2, .int x2)]) hx hb dX7_placeOn_23 hl (k := 3) rfl (by rw [ez5]; rfl) (by decide) rfl (fun ls hl => ?_)
        refine lv_goto (pc := 26) (tgt := 2) hx hb dX7_placeOn_26 (by decide) ?_
        exact ih _ _ _ _ h _ _ _ w (lv_sub hl [1, 2, 3, 0] rfl)
      · have h := ite_t q h
        refine lv_iload_n (pc := 21) hx hb dX7_placeOn_21 rfl (lv_at hl 3 rfl) ?_
        exact s_iret F w h dX7_placeOn_22
set_option maxRecDepth 100000 in
set_option maxHeartbeats 4000000 in
theorem m_Stacks_placeOn_work (a1 : Int32) (a2 : Int32) (S S' : SS) (r : Int32) (h : f_Stacks_placeOn_work a1 a2 S = some (r, S')) : MT yX7_placeOn cX7_placeOn 4 (some .int) 1 23 (fun ad => [.ref (ad 74), .int a1, .int a2]) S (some (.int r)) S' := by
  refine MT.of RX7 (fun ad => [(0, .ref (ad 74)), (1, .int a1), (2, .int a2)]) (by decide) rfl (fun _ => Nat.le_of_ble_eq_true rfl) (fun _ => rfl) ?_
  intro p l e R s m args below meth c dC dI cs ad A hR1 hR2 F H locs ls w hl
  have hx := F.1.1
  have hb := F.1.2.1
  rw [f_Stacks_placeOn_work] at h
  refine lv_iconst (pc := 0) (v := 0) hx hb dX7_placeOn_0 (by decide) ?_
  refine lv_istore_n (pc := 1) (lv' := [(3, .int (0 : Int32)), (0, .ref (ad 74)), (1, .int a1), (2, .int a2)]) hx hb dX7_placeOn_1 rfl hl (by decide) rfl (fun ls hl => ?_)
  exact w_Stacks_placeOn_work_L2 F (Nat.le_trans (by decide) hR1) (Nat.le_trans (by decide) hR2) _ _ _ _ _ h _ _ _ w (lv_sub hl [1, 2, 3, 0] rfl)
def f_Stacks_stackOf_work_L2  : Nat → Int32 → Int32 → SS → Option (Int32 × SS)
  | 0, _, _, _ => none
  | n + 1, x1, x2, S =>
    if (4 : Int32) ≤ x2 then
      some ((-4 : Int32), S)
    else
      bnd (f_Stacks_placeOn_work x2 x1 S) (fun r2 S1 =>
      if r2 = (-4 : Int32) then
        nm (x2 + (1 : Int32)) (fun z3 =>
        f_Stacks_stackOf_work_L2 n x1 z3 S1)
      else
        some (x2, S1))
def f_Stacks_stackOf_work (a1 : Int32) (S : SS) : Option (Int32 × SS) :=
  f_Stacks_stackOf_work_L2 NF a1 (0 : Int32) S
set_option maxRecDepth 100000 in
set_option maxHeartbeats 4000000 in
theorem w_Stacks_stackOf_work_L2 {p : Program} {l : Launch} {e : Env} {R : Room} {s : State} {m : MethodId} {args : Array Value} {below : List Frame} {meth : Method} {c : Code} {dC : Nat → ClassId} {dI : Nat → Nat → Nat} {cs : Nat → ClassId} {ad : Nat → Nat} {A : Nat → Prop} {D0 : Nat → Nat} {S' : SS} {r : Int32} (F : Fx p s m args meth c cX7_stackOf 3 RX7 (some .int) dC dI cs A) (hR1 : 2 ≤ R.frames) (hR2 : 46 ≤ R.locals) : ∀ (n : Nat) (x1 : Int32) (x2 : Int32) (S : SS), f_Stacks_stackOf_work_L2 n x1 x2 S = some (r, S') → AW p l e R s m args below meth c dC dI cs ad A D0 (some (.int r)) S' 3 2 [(0, .ref (ad 74)), (1, .int x1), (2, .int x2)] [] S := by
  have hx := F.1.1
  have hb := F.1.2.1
  intro n
  induction n with
  | zero => intro x1 x2 S h; cases h
  | succ n ih =>
    intro x1 x2 S h H locs ls w hl
    rw [f_Stacks_stackOf_work_L2] at h
    refine lv_iload_n (pc := 2) hx hb dX7_stackOf_2 rfl (lv_at hl 2 rfl) ?_
    refine lv_iconst (pc := 3) (v := 4) hx hb dX7_stackOf_3 (by decide) ?_
    refine lv_icmp_ge (pc := 4) (tgt := 26) hx hb dX7_stackOf_4 (by decide) (fun q => ?_) (fun q => ?_)
    · have h := ite_t q h
      refine lv_bipush (pc := 26) (v := -4) hx hb dX7_stackOf_26 (by decide) ?_
      exact s_iret F w h dX7_stackOf_28
    · have h := ite_f q h
      refine lv_aload_n (pc := 7) hx hb dX7_stackOf_7 rfl (lv_at hl 0 rfl) ?_
      refine lv_iload_n (pc := 8) hx hb dX7_stackOf_8 rfl (lv_at hl 2 rfl) ?_
      refine lv_iload_n (pc := 9) hx hb dX7_stackOf_9 rfl (lv_at hl 1 rfl) ?_
      obtain ⟨r2, S1, hc, h⟩ := bnd_t h
      refine s_cvi (pc := 10) [.int x2, .int x1] (fun ad => [.ref (ad 74), .int x2, .int x1]) F w (m_Stacks_placeOn_work _ _ _ _ _ hc) rfl rfl hl.1 ds_74 vc_X7 rfl ok_X7_placeOn rfl kc_X7_placeOn kl_X7_38 ki_X7_placeOn kv_X7_placeOn kn_X7 ⟨Nat.le_trans (by decide) hR1, Nat.le_trans (by decide) hR2⟩ ⟨Nat.zero_le _, Nat.zero_le _⟩ (Nat.le_of_ble_eq_true rfl) dX7_stackOf_10 (fun H locs w => ?_)
      refine lv_bipush (pc := 13) (v := -4) hx hb dX7_stackOf_13 (by decide) ?_
      refine lv_icmp_eq (pc := 15) (tgt := 20) hx hb dX7_stackOf_15 (by decide) (fun q => ?_) (fun q => ?_)
      · have h := ite_t q h
        refine s_nm h (fun z3 ez3 h => ?_)
        refine lv_iinc (pc := 20) (v := z3) (lv' := [(2, .int z3), (0, .ref (ad 74)), (1, .int x1)]) hx hb dX7_stackOf_20 hl (k := 2) rfl (by rw [ez3]; rfl) (by decide) rfl (fun ls hl => ?_)
        refine lv_goto (pc := 23) (tgt := 2) hx hb dX7_stackOf_23 (by decide) ?_
        exact ih _ _ _ h _ _ _ w (lv_sub hl [1, 2, 0] rfl)
      · have h := ite_f q h
        refine lv_iload_n (pc := 18) hx hb dX7_stackOf_18 rfl (lv_at hl 2 rfl) ?_
        exact s_iret F w h dX7_stackOf_19
set_option maxRecDepth 100000 in
set_option maxHeartbeats 4000000 in
theorem m_Stacks_stackOf_work (a1 : Int32) (S S' : SS) (r : Int32) (h : f_Stacks_stackOf_work a1 S = some (r, S')) : MT yX7_stackOf cX7_stackOf 3 (some .int) 2 46 (fun ad => [.ref (ad 74), .int a1]) S (some (.int r)) S' := by
  refine MT.of RX7 (fun ad => [(0, .ref (ad 74)), (1, .int a1)]) (by decide) rfl (fun _ => Nat.le_of_ble_eq_true rfl) (fun _ => rfl) ?_
  intro p l e R s m args below meth c dC dI cs ad A hR1 hR2 F H locs ls w hl
  have hx := F.1.1
  have hb := F.1.2.1
  rw [f_Stacks_stackOf_work] at h
  refine lv_iconst (pc := 0) (v := 0) hx hb dX7_stackOf_0 (by decide) ?_
  refine lv_istore_n (pc := 1) (lv' := [(2, .int (0 : Int32)), (0, .ref (ad 74)), (1, .int a1)]) hx hb dX7_stackOf_1 rfl hl (by decide) rfl (fun ls hl => ?_)
  exact w_Stacks_stackOf_work_L2 F (Nat.le_trans (by decide) hR1) (Nat.le_trans (by decide) hR2) _ _ _ _ h _ _ _ w (lv_sub hl [1, 2, 0] rfl)
def f_Plans_bring (a1 : Int32) (a2 : Int32) (a3 : Int32) (S : SS) : Option (Int32 × SS) :=
  bnd (f_Stacks_wagonAt_work a2 a3 S) (fun r2 S1 =>
  if r2 = a1 then
    some ((1 : Int32), S1)
  else
    bnd (f_Plans_lower a2 a3 a2 S1) (fun r4 S3 =>
    if r4 = 0 then
      some ((0 : Int32), S3)
    else
      bnd (f_Stacks_stackOf_work a1 S3) (fun r6 S5 =>
      bnd (f_Stacks_placeOn_work r6 a1 S5) (fun r8 S7 =>
      bnd (f_Plans_lower r6 (r8 + (1 : Int32)) a2 S7) (fun r10 S9 =>
      if r10 = 0 then
        some ((0 : Int32), S9)
      else
        bnd (f_Plans_moveOne r6 a2 S9) (fun r12 S11 =>
        if r12 = 0 then
          some ((0 : Int32), S11)
        else
          some ((1 : Int32), S11)))))))
theorem dX3_bring_0 : decode cX3_bring 0 = .ok (.aload_n 0, 1) := dc_42 (by decide +kernel)
theorem dX3_bring_1 : decode cX3_bring 1 = .ok (.getfield 21, 3) := dc_180 (a := 0) (b := 21) (by decide +kernel)
theorem dX3_bring_4 : decode cX3_bring 4 = .ok (.iload_n 2, 1) := dc_28 (by decide +kernel)
theorem dX3_bring_5 : decode cX3_bring 5 = .ok (.iload_n 3, 1) := dc_29 (by decide +kernel)
theorem dX3_bring_6 : decode cX3_bring 6 = .ok (.invokevirtual 108, 3) := dc_182 (a := 0) (b := 108) (by decide +kernel)
theorem dX3_bring_9 : decode cX3_bring 9 = .ok (.iload_n 1, 1) := dc_27 (by decide +kernel)
theorem dX3_bring_10 : decode cX3_bring 10 = .ok (.if_icmp .ne 5, 3) := dc_160 (a := 0) (b := 5) (by decide +kernel) (by decide)
theorem dX3_bring_13 : decode cX3_bring 13 = .ok (.iconst 1, 1) := dc_4 (by decide +kernel)
theorem dX3_bring_14 : decode cX3_bring 14 = .ok (.ireturn, 1) := dc_172 (by decide +kernel)
theorem dX3_bring_15 : decode cX3_bring 15 = .ok (.aload_n 0, 1) := dc_42 (by decide +kernel)
theorem dX3_bring_16 : decode cX3_bring 16 = .ok (.iload_n 2, 1) := dc_28 (by decide +kernel)
theorem dX3_bring_17 : decode cX3_bring 17 = .ok (.iload_n 3, 1) := dc_29 (by decide +kernel)
theorem dX3_bring_18 : decode cX3_bring 18 = .ok (.iload_n 2, 1) := dc_28 (by decide +kernel)
theorem dX3_bring_19 : decode cX3_bring 19 = .ok (.invokevirtual 115, 3) := dc_182 (a := 0) (b := 115) (by decide +kernel)
theorem dX3_bring_22 : decode cX3_bring 22 = .ok (.ifCond .ne 5, 3) := dc_154 (a := 0) (b := 5) (by decide +kernel) (by decide)
theorem dX3_bring_25 : decode cX3_bring 25 = .ok (.iconst 0, 1) := dc_3 (by decide +kernel)
theorem dX3_bring_26 : decode cX3_bring 26 = .ok (.ireturn, 1) := dc_172 (by decide +kernel)
theorem dX3_bring_27 : decode cX3_bring 27 = .ok (.aload_n 0, 1) := dc_42 (by decide +kernel)
theorem dX3_bring_28 : decode cX3_bring 28 = .ok (.getfield 21, 3) := dc_180 (a := 0) (b := 21) (by decide +kernel)
theorem dX3_bring_31 : decode cX3_bring 31 = .ok (.iload_n 1, 1) := dc_27 (by decide +kernel)
theorem dX3_bring_32 : decode cX3_bring 32 = .ok (.invokevirtual 58, 3) := dc_182 (a := 0) (b := 58) (by decide +kernel)
theorem dX3_bring_35 : decode cX3_bring 35 = .ok (.istore 4, 2) := dc_54 (a := 4) (by decide +kernel)
theorem dX3_bring_37 : decode cX3_bring 37 = .ok (.aload_n 0, 1) := dc_42 (by decide +kernel)
theorem dX3_bring_38 : decode cX3_bring 38 = .ok (.iload 4, 2) := dc_21 (a := 4) (by decide +kernel)
theorem dX3_bring_40 : decode cX3_bring 40 = .ok (.aload_n 0, 1) := dc_42 (by decide +kernel)
theorem dX3_bring_41 : decode cX3_bring 41 = .ok (.getfield 21, 3) := dc_180 (a := 0) (b := 21) (by decide +kernel)
theorem dX3_bring_44 : decode cX3_bring 44 = .ok (.iload 4, 2) := dc_21 (a := 4) (by decide +kernel)
theorem dX3_bring_46 : decode cX3_bring 46 = .ok (.iload_n 1, 1) := dc_27 (by decide +kernel)
theorem dX3_bring_47 : decode cX3_bring 47 = .ok (.invokevirtual 118, 3) := dc_182 (a := 0) (b := 118) (by decide +kernel)
theorem dX3_bring_50 : decode cX3_bring 50 = .ok (.iconst 1, 1) := dc_4 (by decide +kernel)
theorem dX3_bring_51 : decode cX3_bring 51 = .ok (.iadd, 1) := dc_96 (by decide +kernel)
theorem dX3_bring_52 : decode cX3_bring 52 = .ok (.iload_n 2, 1) := dc_28 (by decide +kernel)
theorem dX3_bring_53 : decode cX3_bring 53 = .ok (.invokevirtual 115, 3) := dc_182 (a := 0) (b := 115) (by decide +kernel)
theorem dX3_bring_56 : decode cX3_bring 56 = .ok (.ifCond .eq 17, 3) := dc_153 (a := 0) (b := 17) (by decide +kernel) (by decide)
theorem dX3_bring_59 : decode cX3_bring 59 = .ok (.aload_n 0, 1) := dc_42 (by decide +kernel)
theorem dX3_bring_60 : decode cX3_bring 60 = .ok (.iload 4, 2) := dc_21 (a := 4) (by decide +kernel)
theorem dX3_bring_62 : decode cX3_bring 62 = .ok (.iload_n 2, 1) := dc_28 (by decide +kernel)
theorem dX3_bring_63 : decode cX3_bring 63 = .ok (.invokevirtual 121, 3) := dc_182 (a := 0) (b := 121) (by decide +kernel)
theorem dX3_bring_66 : decode cX3_bring 66 = .ok (.ifCond .eq 7, 3) := dc_153 (a := 0) (b := 7) (by decide +kernel) (by decide)
theorem dX3_bring_69 : decode cX3_bring 69 = .ok (.iconst 1, 1) := dc_4 (by decide +kernel)
theorem dX3_bring_70 : decode cX3_bring 70 = .ok (.goto 4, 3) := dc_167 (a := 0) (b := 4) (by decide +kernel) (by decide)
theorem dX3_bring_73 : decode cX3_bring 73 = .ok (.iconst 0, 1) := dc_3 (by decide +kernel)
theorem dX3_bring_74 : decode cX3_bring 74 = .ok (.ireturn, 1) := dc_172 (by decide +kernel)
set_option maxRecDepth 100000 in
set_option maxHeartbeats 4000000 in
theorem m_Plans_bring (a1 : Int32) (a2 : Int32) (a3 : Int32) (S S' : SS) (r : Int32) (h : f_Plans_bring a1 a2 a3 S = some (r, S')) : MT yX3_bring cX3_bring 5 (some .boolean) 4 110 (fun ad => [.ref (ad 70), .int a1, .int a2, .int a3]) S (some (.int r)) S' := by
  refine MT.of RX3 (fun ad => [(0, .ref (ad 70)), (1, .int a1), (2, .int a2), (3, .int a3)]) (by decide) rfl (fun _ => Nat.le_of_ble_eq_true rfl) (fun _ => rfl) ?_
  intro p l e R s m args below meth c dC dI cs ad A hR1 hR2 F H locs ls w hl
  have hx := F.1.1
  have hb := F.1.2.1
  rw [f_Plans_bring] at h
  refine lv_aload_n (pc := 0) hx hb dX3_bring_0 rfl (lv_at hl 0 rfl) ?_
  refine s_getR (pc := 1) F w 74 ds_70 (j := 2) vc_X3 vi_X3 rfl (by decide) kf_X3_21 dX3_bring_1 ?_
  refine lv_iload_n (pc := 4) hx hb dX3_bring_4 rfl (lv_at hl 2 rfl) ?_
  refine lv_iload_n (pc := 5) hx hb dX3_bring_5 rfl (lv_at hl 3 rfl) ?_
  obtain ⟨r2, S1, hc, h⟩ := bnd_t h
  refine s_cvi (pc := 6) [.int a2, .int a3] (fun ad => [.ref (ad 74), .int a2, .int a3]) F w (m_Stacks_wagonAt_work _ _ _ _ _ hc) rfl rfl hl.1 ds_74 vc_X7 rfl ok_X7_wagonAt rfl kc_X7_wagonAt kl_X3_108 ki_X7_wagonAt kv_X7_wagonAt kn_X7 ⟨Nat.le_trans (by decide) hR1, Nat.le_trans (by decide) hR2⟩ ⟨Nat.zero_le _, Nat.zero_le _⟩ (Nat.le_of_ble_eq_true rfl) dX3_bring_6 (fun H locs w => ?_)
  refine lv_iload_n (pc := 9) hx hb dX3_bring_9 rfl (lv_at hl 1 rfl) ?_
  refine lv_icmp_ne (pc := 10) (tgt := 15) hx hb dX3_bring_10 (by decide) (fun q => ?_) (fun q => ?_)
  · have h := ite_f q h
    refine lv_aload_n (pc := 15) hx hb dX3_bring_15 rfl (lv_at hl 0 rfl) ?_
    refine lv_iload_n (pc := 16) hx hb dX3_bring_16 rfl (lv_at hl 2 rfl) ?_
    refine lv_iload_n (pc := 17) hx hb dX3_bring_17 rfl (lv_at hl 3 rfl) ?_
    refine lv_iload_n (pc := 18) hx hb dX3_bring_18 rfl (lv_at hl 2 rfl) ?_
    obtain ⟨r4, S3, hc, h⟩ := bnd_t h
    refine s_cvi (pc := 19) [.int a2, .int a3, .int a2] (fun ad => [.ref (ad 70), .int a2, .int a3, .int a2]) F w (m_Plans_lower _ _ _ _ _ _ hc) rfl rfl hl.1 ds_70 vc_X3 rfl ok_X3_lower rfl kc_X3_lower kl_X3_115 ki_X3_lower kv_X3_lower kn_X3 ⟨Nat.le_trans (by decide) hR1, Nat.le_trans (by decide) hR2⟩ ⟨Nat.zero_le _, Nat.zero_le _⟩ (Nat.le_of_ble_eq_true rfl) dX3_bring_19 (fun H locs w => ?_)
    refine lv_if_ne (pc := 22) (tgt := 27) hx hb dX3_bring_22 (by decide) (fun q => ?_) (fun q => ?_)
    · have h := ite_f q h
      refine lv_aload_n (pc := 27) hx hb dX3_bring_27 rfl (lv_at hl 0 rfl) ?_
      refine s_getR (pc := 28) F w 74 ds_70 (j := 2) vc_X3 vi_X3 rfl (by decide) kf_X3_21 dX3_bring_28 ?_
      refine lv_iload_n (pc := 31) hx hb dX3_bring_31 rfl (lv_at hl 1 rfl) ?_
      obtain ⟨r6, S5, hc, h⟩ := bnd_t h
      refine s_cvi (pc := 32) [.int a1] (fun ad => [.ref (ad 74), .int a1]) F w (m_Stacks_stackOf_work _ _ _ _ hc) rfl rfl hl.1 ds_74 vc_X7 rfl ok_X7_stackOf rfl kc_X7_stackOf kl_X3_58 ki_X7_stackOf kv_X7_stackOf kn_X7 ⟨Nat.le_trans (by decide) hR1, Nat.le_trans (by decide) hR2⟩ ⟨Nat.zero_le _, Nat.zero_le _⟩ (Nat.le_of_ble_eq_true rfl) dX3_bring_32 (fun H locs w => ?_)
      refine lv_istore (pc := 35) (lv' := [(4, .int r6), (0, .ref (ad 70)), (1, .int a1), (2, .int a2), (3, .int a3)]) hx hb dX3_bring_35 hl (by decide) rfl (fun ls hl => ?_)
      refine lv_aload_n (pc := 37) hx hb dX3_bring_37 rfl (lv_at hl 1 rfl) ?_
      refine lv_iload (pc := 38) hx hb dX3_bring_38 (lv_at hl 0 rfl) ?_
      refine lv_aload_n (pc := 40) hx hb dX3_bring_40 rfl (lv_at hl 1 rfl) ?_
      refine s_getR (pc := 41) F w 74 ds_70 (j := 2) vc_X3 vi_X3 rfl (by decide) kf_X3_21 dX3_bring_41 ?_
      refine lv_iload (pc := 44) hx hb dX3_bring_44 (lv_at hl 0 rfl) ?_
      refine lv_iload_n (pc := 46) hx hb dX3_bring_46 rfl (lv_at hl 2 rfl) ?_
      obtain ⟨r8, S7, hc, h⟩ := bnd_t h
      refine s_cvi (pc := 47) [.int r6, .int a1] (fun ad => [.ref (ad 74), .int r6, .int a1]) F w (m_Stacks_placeOn_work _ _ _ _ _ hc) rfl rfl hl.1 ds_74 vc_X7 rfl ok_X7_placeOn rfl kc_X7_placeOn kl_X3_118 ki_X7_placeOn kv_X7_placeOn kn_X7 ⟨Nat.le_trans (by decide) hR1, Nat.le_trans (by decide) hR2⟩ ⟨Nat.zero_le _, Nat.zero_le _⟩ (Nat.le_of_ble_eq_true rfl) dX3_bring_47 (fun H locs w => ?_)
      refine lv_iconst (pc := 50) (v := 1) hx hb dX3_bring_50 (by decide) ?_
      refine lv_iadd (pc := 51) hx hb dX3_bring_51 ?_
      refine lv_iload_n (pc := 52) hx hb dX3_bring_52 rfl (lv_at hl 3 rfl) ?_
      obtain ⟨r10, S9, hc, h⟩ := bnd_t h
      refine s_cvi (pc := 53) [.int r6, .int (r8 + (1 : Int32)), .int a2] (fun ad => [.ref (ad 70), .int r6, .int (r8 + (1 : Int32)), .int a2]) F w (m_Plans_lower _ _ _ _ _ _ hc) rfl rfl hl.1 ds_70 vc_X3 rfl ok_X3_lower rfl kc_X3_lower kl_X3_115 ki_X3_lower kv_X3_lower kn_X3 ⟨Nat.le_trans (by decide) hR1, Nat.le_trans (by decide) hR2⟩ ⟨Nat.zero_le _, Nat.zero_le _⟩ (Nat.le_of_ble_eq_true rfl) dX3_bring_53 (fun H locs w => ?_)
      refine lv_if_eq (pc := 56) (tgt := 73) hx hb dX3_bring_56 (by decide) (fun q => ?_) (fun q => ?_)
      · have h := ite_t q h
        refine lv_iconst (pc := 73) (v := 0) hx hb dX3_bring_73 (by decide) ?_
        exact s_zretc F w rfl h dX3_bring_74
      · have h := ite_f q h
        refine lv_aload_n (pc := 59) hx hb dX3_bring_59 rfl (lv_at hl 1 rfl) ?_
        refine lv_iload (pc := 60) hx hb dX3_bring_60 (lv_at hl 0 rfl) ?_
        refine lv_iload_n (pc := 62) hx hb dX3_bring_62 rfl (lv_at hl 3 rfl) ?_
        obtain ⟨r12, S11, hc, h⟩ := bnd_t h
        refine s_cvi (pc := 63) [.int r6, .int a2] (fun ad => [.ref (ad 70), .int r6, .int a2]) F w (m_Plans_moveOne _ _ _ _ _ hc) rfl rfl hl.1 ds_70 vc_X3 rfl ok_X3_moveOne rfl kc_X3_moveOne kl_X3_121 ki_X3_moveOne kv_X3_moveOne kn_X3 ⟨Nat.le_trans (by decide) hR1, Nat.le_trans (by decide) hR2⟩ ⟨Nat.zero_le _, Nat.zero_le _⟩ (Nat.le_of_ble_eq_true rfl) dX3_bring_63 (fun H locs w => ?_)
        refine lv_if_eq (pc := 66) (tgt := 73) hx hb dX3_bring_66 (by decide) (fun q => ?_) (fun q => ?_)
        · have h := ite_t q h
          refine lv_iconst (pc := 73) (v := 0) hx hb dX3_bring_73 (by decide) ?_
          exact s_zretc F w rfl h dX3_bring_74
        · have h := ite_f q h
          refine lv_iconst (pc := 69) (v := 1) hx hb dX3_bring_69 (by decide) ?_
          refine lv_goto (pc := 70) (tgt := 74) hx hb dX3_bring_70 (by decide) ?_
          exact s_zretc F w rfl h dX3_bring_74
    · have h := ite_t q h
      refine lv_iconst (pc := 25) (v := 0) hx hb dX3_bring_25 (by decide) ?_
      exact s_zretc F w rfl h dX3_bring_26
  · have h := ite_t q h
    refine lv_iconst (pc := 13) (v := 1) hx hb dX3_bring_13 (by decide) ?_
    exact s_zretc F w rfl h dX3_bring_14
def f_Plans_makeByRule_L24 (K17 : Int32 → SS → Option (Int32 × SS)) : Nat → Int32 → Int32 → SS → Option (Int32 × SS)
  | 0, _, _, _ => none
  | n + 1, x1, x2, S =>
    bnd (f_Stacks_height_goal x1 S) (fun r5 S4 =>
    if r5 ≤ x2 then
      nm (x1 + (1 : Int32)) (fun z6 =>
      K17 z6 S4)
    else
      bnd (f_Stacks_wagonAt_goal x1 x2 S4) (fun r8 S7 =>
      bnd (f_Plans_bring r8 x1 x2 S7) (fun r10 S9 =>
      if r10 = 0 then
        bndv (f_Plans_drop  S9) (fun S12 =>
        some ((-4 : Int32), S12))
      else
        nm (x2 + (1 : Int32)) (fun z11 =>
        f_Plans_makeByRule_L24 K17 n x1 z11 S9))))
def f_Plans_makeByRule_L17  : Nat → Int32 → SS → Option (Int32 × SS)
  | 0, _, _ => none
  | n + 1, x1, S =>
    if (4 : Int32) ≤ x1 then
      wr S 70 8 (2 : Int32) (fun S3 =>
      some (S3.1 70 7, S3))
    else
      f_Plans_makeByRule_L24 (fun v0 S => f_Plans_makeByRule_L17 n v0 S) NF x1 (0 : Int32) S
def f_Plans_makeByRule  (S : SS) : Option (Int32 × SS) :=
  bndv (f_Plans_drop  S) (fun S1 =>
  bndv (f_Stacks_become_work_start  S1) (fun S2 =>
  f_Plans_makeByRule_L17 NF (0 : Int32) S2))
theorem dX3_makeByRule_0 : decode cX3_makeByRule 0 = .ok (.aload_n 0, 1) := dc_42 (by decide +kernel)
theorem dX3_makeByRule_1 : decode cX3_makeByRule 1 = .ok (.invokevirtual 77, 3) := dc_182 (a := 0) (b := 77) (by decide +kernel)
theorem dX3_makeByRule_4 : decode cX3_makeByRule 4 = .ok (.aload_n 0, 1) := dc_42 (by decide +kernel)
theorem dX3_makeByRule_5 : decode cX3_makeByRule 5 = .ok (.getfield 21, 3) := dc_180 (a := 0) (b := 21) (by decide +kernel)
theorem dX3_makeByRule_8 : decode cX3_makeByRule 8 = .ok (.aload_n 0, 1) := dc_42 (by decide +kernel)
theorem dX3_makeByRule_9 : decode cX3_makeByRule 9 = .ok (.getfield 12, 3) := dc_180 (a := 0) (b := 12) (by decide +kernel)
theorem dX3_makeByRule_12 : decode cX3_makeByRule 12 = .ok (.invokevirtual 104, 3) := dc_182 (a := 0) (b := 104) (by decide +kernel)
theorem dX3_makeByRule_15 : decode cX3_makeByRule 15 = .ok (.iconst 0, 1) := dc_3 (by decide +kernel)
theorem dX3_makeByRule_16 : decode cX3_makeByRule 16 = .ok (.istore_n 1, 1) := dc_60 (by decide +kernel)
theorem dX3_makeByRule_17 : decode cX3_makeByRule 17 = .ok (.iload_n 1, 1) := dc_27 (by decide +kernel)
theorem dX3_makeByRule_18 : decode cX3_makeByRule 18 = .ok (.iconst 4, 1) := dc_7 (by decide +kernel)
theorem dX3_makeByRule_19 : decode cX3_makeByRule 19 = .ok (.if_icmp .ge 54, 3) := dc_162 (a := 0) (b := 54) (by decide +kernel) (by decide)
theorem dX3_makeByRule_22 : decode cX3_makeByRule 22 = .ok (.iconst 0, 1) := dc_3 (by decide +kernel)
theorem dX3_makeByRule_23 : decode cX3_makeByRule 23 = .ok (.istore_n 2, 1) := dc_61 (by decide +kernel)
theorem dX3_makeByRule_24 : decode cX3_makeByRule 24 = .ok (.iload_n 2, 1) := dc_28 (by decide +kernel)
theorem dX3_makeByRule_25 : decode cX3_makeByRule 25 = .ok (.aload_n 0, 1) := dc_42 (by decide +kernel)
theorem dX3_makeByRule_26 : decode cX3_makeByRule 26 = .ok (.getfield 18, 3) := dc_180 (a := 0) (b := 18) (by decide +kernel)
theorem dX3_makeByRule_29 : decode cX3_makeByRule 29 = .ok (.iload_n 1, 1) := dc_27 (by decide +kernel)
theorem dX3_makeByRule_30 : decode cX3_makeByRule 30 = .ok (.invokevirtual 54, 3) := dc_182 (a := 0) (b := 54) (by decide +kernel)
theorem dX3_makeByRule_33 : decode cX3_makeByRule 33 = .ok (.if_icmp .ge 34, 3) := dc_162 (a := 0) (b := 34) (by decide +kernel) (by decide)
theorem dX3_makeByRule_36 : decode cX3_makeByRule 36 = .ok (.aload_n 0, 1) := dc_42 (by decide +kernel)
theorem dX3_makeByRule_37 : decode cX3_makeByRule 37 = .ok (.aload_n 0, 1) := dc_42 (by decide +kernel)
theorem dX3_makeByRule_38 : decode cX3_makeByRule 38 = .ok (.getfield 18, 3) := dc_180 (a := 0) (b := 18) (by decide +kernel)
theorem dX3_makeByRule_41 : decode cX3_makeByRule 41 = .ok (.iload_n 1, 1) := dc_27 (by decide +kernel)
theorem dX3_makeByRule_42 : decode cX3_makeByRule 42 = .ok (.iload_n 2, 1) := dc_28 (by decide +kernel)
theorem dX3_makeByRule_43 : decode cX3_makeByRule 43 = .ok (.invokevirtual 108, 3) := dc_182 (a := 0) (b := 108) (by decide +kernel)
theorem dX3_makeByRule_46 : decode cX3_makeByRule 46 = .ok (.iload_n 1, 1) := dc_27 (by decide +kernel)
theorem dX3_makeByRule_47 : decode cX3_makeByRule 47 = .ok (.iload_n 2, 1) := dc_28 (by decide +kernel)
theorem dX3_makeByRule_48 : decode cX3_makeByRule 48 = .ok (.invokevirtual 111, 3) := dc_182 (a := 0) (b := 111) (by decide +kernel)
theorem dX3_makeByRule_51 : decode cX3_makeByRule 51 = .ok (.ifCond .ne 10, 3) := dc_154 (a := 0) (b := 10) (by decide +kernel) (by decide)
theorem dX3_makeByRule_54 : decode cX3_makeByRule 54 = .ok (.aload_n 0, 1) := dc_42 (by decide +kernel)
theorem dX3_makeByRule_55 : decode cX3_makeByRule 55 = .ok (.invokevirtual 77, 3) := dc_182 (a := 0) (b := 77) (by decide +kernel)
theorem dX3_makeByRule_58 : decode cX3_makeByRule 58 = .ok (.bipush (-4), 2) := dc_16 (a := 252) (by decide +kernel) (by decide)
theorem dX3_makeByRule_60 : decode cX3_makeByRule 60 = .ok (.ireturn, 1) := dc_172 (by decide +kernel)
theorem dX3_makeByRule_61 : decode cX3_makeByRule 61 = .ok (.iinc 2 1, 3) := dc_132 (a := 2) (b := 1) (by decide +kernel) (by decide)
theorem dX3_makeByRule_64 : decode cX3_makeByRule 64 = .ok (.goto (-40), 3) := dc_167 (a := 255) (b := 216) (by decide +kernel) (by decide)
theorem dX3_makeByRule_67 : decode cX3_makeByRule 67 = .ok (.iinc 1 1, 3) := dc_132 (a := 1) (b := 1) (by decide +kernel) (by decide)
theorem dX3_makeByRule_70 : decode cX3_makeByRule 70 = .ok (.goto (-53), 3) := dc_167 (a := 255) (b := 203) (by decide +kernel) (by decide)
theorem dX3_makeByRule_73 : decode cX3_makeByRule 73 = .ok (.aload_n 0, 1) := dc_42 (by decide +kernel)
theorem dX3_makeByRule_74 : decode cX3_makeByRule 74 = .ok (.iconst 2, 1) := dc_5 (by decide +kernel)
theorem dX3_makeByRule_75 : decode cX3_makeByRule 75 = .ok (.putfield 45, 3) := dc_181 (a := 0) (b := 45) (by decide +kernel)
theorem dX3_makeByRule_78 : decode cX3_makeByRule 78 = .ok (.aload_n 0, 1) := dc_42 (by decide +kernel)
theorem dX3_makeByRule_79 : decode cX3_makeByRule 79 = .ok (.getfield 41, 3) := dc_180 (a := 0) (b := 41) (by decide +kernel)
theorem dX3_makeByRule_82 : decode cX3_makeByRule 82 = .ok (.ireturn, 1) := dc_172 (by decide +kernel)
set_option maxRecDepth 100000 in
set_option maxHeartbeats 4000000 in
theorem w_Plans_makeByRule_L24 {p : Program} {l : Launch} {e : Env} {R : Room} {s : State} {m : MethodId} {args : Array Value} {below : List Frame} {meth : Method} {c : Code} {dC : Nat → ClassId} {dI : Nat → Nat → Nat} {cs : Nat → ClassId} {ad : Nat → Nat} {A : Nat → Prop} {D0 : Nat → Nat} {S' : SS} {r : Int32} (F : Fx p s m args meth c cX3_makeByRule 3 RX3 (some .int) dC dI cs A) (hR1 : 5 ≤ R.frames) (hR2 : 134 ≤ R.locals) (K17 : Int32 → SS → Option (Int32 × SS)) (hK17 : ∀ (v0 : Int32) (S : SS), K17 v0 S = some (r, S') → AW p l e R s m args below meth c dC dI cs ad A D0 (some (.int r)) S' 3 17 [(0, .ref (ad 70)), (1, .int v0)] [] S) : ∀ (n : Nat) (x1 : Int32) (x2 : Int32) (S : SS), f_Plans_makeByRule_L24 K17 n x1 x2 S = some (r, S') → AW p l e R s m args below meth c dC dI cs ad A D0 (some (.int r)) S' 3 24 [(0, .ref (ad 70)), (1, .int x1), (2, .int x2)] [] S := by
  have hx := F.1.1
  have hb := F.1.2.1
  intro n
  induction n with
  | zero => intro x1 x2 S h; cases h
  | succ n ih =>
    intro x1 x2 S h H locs ls w hl
    rw [f_Plans_makeByRule_L24] at h
    refine lv_iload_n (pc := 24) hx hb dX3_makeByRule_24 rfl (lv_at hl 2 rfl) ?_
    refine lv_aload_n (pc := 25) hx hb dX3_makeByRule_25 rfl (lv_at hl 0 rfl) ?_
    refine s_getR (pc := 26) F w 73 ds_70 (j := 1) vc_X3 vi_X3 rfl (by decide) kf_X3_18 dX3_makeByRule_26 ?_
    refine lv_iload_n (pc := 29) hx hb dX3_makeByRule_29 rfl (lv_at hl 1 rfl) ?_
    obtain ⟨r5, S4, hc, h⟩ := bnd_t h
    refine s_cvi (pc := 30) [.int x1] (fun ad => [.ref (ad 73), .int x1]) F w (m_Stacks_height_goal _ _ _ _ hc) rfl rfl hl.1 ds_73 vc_X7 rfl ok_X7_height rfl kc_X7_height kl_X3_54 ki_X7_height kv_X7_height kn_X7 ⟨Nat.le_trans (by decide) hR1, Nat.le_trans (by decide) hR2⟩ ⟨Nat.zero_le _, Nat.zero_le _⟩ (Nat.le_of_ble_eq_true rfl) dX3_makeByRule_30 (fun H locs w => ?_)
    refine lv_icmp_ge (pc := 33) (tgt := 67) hx hb dX3_makeByRule_33 (by decide) (fun q => ?_) (fun q => ?_)
    · have h := ite_t q h
      refine s_nm h (fun z6 ez6 h => ?_)
      refine lv_iinc (pc := 67) (v := z6) (lv' := [(1, .int z6), (0, .ref (ad 70)), (2, .int x2)]) hx hb dX3_makeByRule_67 hl (k := 1) rfl (by rw [ez6]; rfl) (by decide) rfl (fun ls hl => ?_)
      refine lv_goto (pc := 70) (tgt := 17) hx hb dX3_makeByRule_70 (by decide) ?_
      exact hK17 _ _ h _ _ _ w (lv_sub hl [1, 0] rfl)
    · have h := ite_f q h
      refine lv_aload_n (pc := 36) hx hb dX3_makeByRule_36 rfl (lv_at hl 0 rfl) ?_
      refine lv_aload_n (pc := 37) hx hb dX3_makeByRule_37 rfl (lv_at hl 0 rfl) ?_
      refine s_getR (pc := 38) F w 73 ds_70 (j := 1) vc_X3 vi_X3 rfl (by decide) kf_X3_18 dX3_makeByRule_38 ?_
      refine lv_iload_n (pc := 41) hx hb dX3_makeByRule_41 rfl (lv_at hl 1 rfl) ?_
      refine lv_iload_n (pc := 42) hx hb dX3_makeByRule_42 rfl (lv_at hl 2 rfl) ?_
      obtain ⟨r8, S7, hc, h⟩ := bnd_t h
      refine s_cvi (pc := 43) [.int x1, .int x2] (fun ad => [.ref (ad 73), .int x1, .int x2]) F w (m_Stacks_wagonAt_goal _ _ _ _ _ hc) rfl rfl hl.1 ds_73 vc_X7 rfl ok_X7_wagonAt rfl kc_X7_wagonAt kl_X3_108 ki_X7_wagonAt kv_X7_wagonAt kn_X7 ⟨Nat.le_trans (by decide) hR1, Nat.le_trans (by decide) hR2⟩ ⟨Nat.zero_le _, Nat.zero_le _⟩ (Nat.le_of_ble_eq_true rfl) dX3_makeByRule_43 (fun H locs w => ?_)
      refine lv_iload_n (pc := 46) hx hb dX3_makeByRule_46 rfl (lv_at hl 1 rfl) ?_
      refine lv_iload_n (pc := 47) hx hb dX3_makeByRule_47 rfl (lv_at hl 2 rfl) ?_
      obtain ⟨r10, S9, hc, h⟩ := bnd_t h
      refine s_cvi (pc := 48) [.int r8, .int x1, .int x2] (fun ad => [.ref (ad 70), .int r8, .int x1, .int x2]) F w (m_Plans_bring _ _ _ _ _ _ hc) rfl rfl hl.1 ds_70 vc_X3 rfl ok_X3_bring rfl kc_X3_bring kl_X3_111 ki_X3_bring kv_X3_bring kn_X3 ⟨Nat.le_trans (by decide) hR1, Nat.le_trans (by decide) hR2⟩ ⟨Nat.zero_le _, Nat.zero_le _⟩ (Nat.le_of_ble_eq_true rfl) dX3_makeByRule_48 (fun H locs w => ?_)
      refine lv_if_ne (pc := 51) (tgt := 61) hx hb dX3_makeByRule_51 (by decide) (fun q => ?_) (fun q => ?_)
      · have h := ite_f q h
        refine s_nm h (fun z11 ez11 h => ?_)
        refine lv_iinc (pc := 61) (v := z11) (lv' := [(2, .int z11), (0, .ref (ad 70)), (1, .int x1)]) hx hb dX3_makeByRule_61 hl (k := 2) rfl (by rw [ez11]; rfl) (by decide) rfl (fun ls hl => ?_)
        refine lv_goto (pc := 64) (tgt := 24) hx hb dX3_makeByRule_64 (by decide) ?_
        exact ih _ _ _ h _ _ _ w (lv_sub hl [1, 2, 0] rfl)
      · have h := ite_t q h
        refine lv_aload_n (pc := 54) hx hb dX3_makeByRule_54 rfl (lv_at hl 0 rfl) ?_
        obtain ⟨S12, hc, h⟩ := bndv_t h
        refine s_cvv (pc := 55) [] (fun ad => [.ref (ad 70)]) F w (m_Plans_drop  _ _ hc) rfl rfl hl.1 ds_70 vc_X3 rfl ok_X3_drop rfl kc_X3_drop kl_X3_77 ki_X3_drop kv_X3_drop kn_X3 ⟨Nat.le_trans (by decide) hR1, Nat.le_trans (by decide) hR2⟩ ⟨Nat.zero_le _, Nat.zero_le _⟩ (Nat.le_of_ble_eq_true rfl) dX3_makeByRule_55 (fun H locs w => ?_)
        refine lv_bipush (pc := 58) (v := -4) hx hb dX3_makeByRule_58 (by decide) ?_
        exact s_iret F w h dX3_makeByRule_60
set_option maxRecDepth 100000 in
set_option maxHeartbeats 4000000 in
theorem w_Plans_makeByRule_L17 {p : Program} {l : Launch} {e : Env} {R : Room} {s : State} {m : MethodId} {args : Array Value} {below : List Frame} {meth : Method} {c : Code} {dC : Nat → ClassId} {dI : Nat → Nat → Nat} {cs : Nat → ClassId} {ad : Nat → Nat} {A : Nat → Prop} {D0 : Nat → Nat} {S' : SS} {r : Int32} (F : Fx p s m args meth c cX3_makeByRule 3 RX3 (some .int) dC dI cs A) (hR1 : 5 ≤ R.frames) (hR2 : 134 ≤ R.locals) : ∀ (n : Nat) (x1 : Int32) (S : SS), f_Plans_makeByRule_L17 n x1 S = some (r, S') → AW p l e R s m args below meth c dC dI cs ad A D0 (some (.int r)) S' 3 17 [(0, .ref (ad 70)), (1, .int x1)] [] S := by
  have hx := F.1.1
  have hb := F.1.2.1
  intro n
  induction n with
  | zero => intro x1 S h; cases h
  | succ n ih =>
    intro x1 S h H locs ls w hl
    rw [f_Plans_makeByRule_L17] at h
    refine lv_iload_n (pc := 17) hx hb dX3_makeByRule_17 rfl (lv_at hl 1 rfl) ?_
    refine lv_iconst (pc := 18) (v := 4) hx hb dX3_makeByRule_18 (by decide) ?_
    refine lv_icmp_ge (pc := 19) (tgt := 73) hx hb dX3_makeByRule_19 (by decide) (fun q => ?_) (fun q => ?_)
    · have h := ite_t q h
      refine lv_aload_n (pc := 73) hx hb dX3_makeByRule_73 rfl (lv_at hl 0 rfl) ?_
      refine lv_iconst (pc := 74) (v := 2) hx hb dX3_makeByRule_74 (by decide) ?_
      refine s_putI (pc := 75) F w ds_70 vc_X3 vi_X3 tyX3_ok nmX3 (j := 8) rfl (by decide) kf_X3_45 rfl pd_I h dX3_makeByRule_75 (fun S3 H locs h w => ?_)
      refine lv_aload_n (pc := 78) hx hb dX3_makeByRule_78 rfl (lv_at hl 0 rfl) ?_
      refine s_getI (pc := 79) F w ds_70 (j := 7) vc_X3 vi_X3 rfl (by decide) kf_X3_41 dX3_makeByRule_79 ?_
      exact s_iret F w h dX3_makeByRule_82
    · have h := ite_f q h
      refine lv_iconst (pc := 22) (v := 0) hx hb dX3_makeByRule_22 (by decide) ?_
      refine lv_istore_n (pc := 23) (lv' := [(2, .int (0 : Int32)), (0, .ref (ad 70)), (1, .int x1)]) hx hb dX3_makeByRule_23 rfl hl (by decide) rfl (fun ls hl => ?_)
      exact w_Plans_makeByRule_L24 F (Nat.le_trans (by decide) hR1) (Nat.le_trans (by decide) hR2) _ (fun v0 S h => ih v0 S h) _ _ _ _ h _ _ _ w (lv_sub hl [1, 2, 0] rfl)
set_option maxRecDepth 100000 in
set_option maxHeartbeats 4000000 in
theorem m_Plans_makeByRule  (S S' : SS) (r : Int32) (h : f_Plans_makeByRule  S = some (r, S')) : MT yX3_makeByRule cX3_makeByRule 3 (some .int) 5 134 (fun ad => [.ref (ad 70)]) S (some (.int r)) S' := by
  refine MT.of RX3 (fun ad => [(0, .ref (ad 70))]) (by decide) rfl (fun _ => Nat.le_of_ble_eq_true rfl) (fun _ => rfl) ?_
  intro p l e R s m args below meth c dC dI cs ad A hR1 hR2 F H locs ls w hl
  have hx := F.1.1
  have hb := F.1.2.1
  rw [f_Plans_makeByRule] at h
  refine lv_aload_n (pc := 0) hx hb dX3_makeByRule_0 rfl (lv_at hl 0 rfl) ?_
  obtain ⟨S1, hc, h⟩ := bndv_t h
  refine s_cvv (pc := 1) [] (fun ad => [.ref (ad 70)]) F w (m_Plans_drop  _ _ hc) rfl rfl hl.1 ds_70 vc_X3 rfl ok_X3_drop rfl kc_X3_drop kl_X3_77 ki_X3_drop kv_X3_drop kn_X3 ⟨Nat.le_trans (by decide) hR1, Nat.le_trans (by decide) hR2⟩ ⟨Nat.zero_le _, Nat.zero_le _⟩ (Nat.le_of_ble_eq_true rfl) dX3_makeByRule_1 (fun H locs w => ?_)
  refine lv_aload_n (pc := 4) hx hb dX3_makeByRule_4 rfl (lv_at hl 0 rfl) ?_
  refine s_getR (pc := 5) F w 74 ds_70 (j := 2) vc_X3 vi_X3 rfl (by decide) kf_X3_21 dX3_makeByRule_5 ?_
  refine lv_aload_n (pc := 8) hx hb dX3_makeByRule_8 rfl (lv_at hl 0 rfl) ?_
  refine s_getR (pc := 9) F w 72 ds_70 (j := 0) vc_X3 vi_X3 rfl (by decide) kf_X3_12 dX3_makeByRule_9 ?_
  obtain ⟨S2, hc, h⟩ := bndv_t h
  refine s_cvv (pc := 12) [.ref (ad 72)] (fun ad => [.ref (ad 74), .ref (ad 72)]) F w (m_Stacks_become_work_start  _ _ hc) rfl rfl hl.1 ds_74 vc_X7 rfl ok_X7_become rfl kc_X7_become kl_X3_104 ki_X7_become kv_X7_become kn_X7 ⟨Nat.le_trans (by decide) hR1, Nat.le_trans (by decide) hR2⟩ ⟨Nat.zero_le _, Nat.zero_le _⟩ (Nat.le_of_ble_eq_true rfl) dX3_makeByRule_12 (fun H locs w => ?_)
  refine lv_iconst (pc := 15) (v := 0) hx hb dX3_makeByRule_15 (by decide) ?_
  refine lv_istore_n (pc := 16) (lv' := [(1, .int (0 : Int32)), (0, .ref (ad 70))]) hx hb dX3_makeByRule_16 rfl hl (by decide) rfl (fun ls hl => ?_)
  exact w_Plans_makeByRule_L17 F (Nat.le_trans (by decide) hR1) (Nat.le_trans (by decide) hR2) _ _ _ h _ _ _ w (lv_sub hl [1, 0] rfl)
def f_Yard_plan (a1 : Int32) (S : SS) : Option (Int32 × SS) :=
  bnd (f_Yard_isNot a1 (0 : Int32) (1 : Int32) S) (fun r2 S1 =>
  if r2 = 0 then
    bnd (f_Plans_haveSameWagons  S1) (fun r4 S3 =>
    if r4 = 0 then
      some ((-1 : Int32), S3)
    else
      if a1 = (1 : Int32) then
        bnd (f_Plans_makeByRule  S3) (fun r10 S9 =>
        some (r10, S9))
      else
        bnd (f_Plans_isSmall  S3) (fun r6 S5 =>
        if r6 = 0 then
          some ((-1 : Int32), S5)
        else
          bnd (f_Plans_makeLeast  S5) (fun r8 S7 =>
          some (r8, S7))))
  else
    some ((-1 : Int32), S1))
theorem dX11_plan_0 : decode cX11_plan 0 = .ok (.iload_n 1, 1) := dc_27 (by decide +kernel)
theorem dX11_plan_1 : decode cX11_plan 1 = .ok (.iconst 0, 1) := dc_3 (by decide +kernel)
theorem dX11_plan_2 : decode cX11_plan 2 = .ok (.iconst 1, 1) := dc_4 (by decide +kernel)
theorem dX11_plan_3 : decode cX11_plan 3 = .ok (.invokestatic 108, 3) := dc_184 (a := 0) (b := 108) (by decide +kernel)
theorem dX11_plan_6 : decode cX11_plan 6 = .ok (.ifCond .ne 13, 3) := dc_154 (a := 0) (b := 13) (by decide +kernel) (by decide)
theorem dX11_plan_9 : decode cX11_plan 9 = .ok (.aload_n 0, 1) := dc_42 (by decide +kernel)
theorem dX11_plan_10 : decode cX11_plan 10 = .ok (.getfield 74, 3) := dc_180 (a := 0) (b := 74) (by decide +kernel)
theorem dX11_plan_13 : decode cX11_plan 13 = .ok (.invokevirtual 428, 3) := dc_182 (a := 1) (b := 172) (by decide +kernel)
theorem dX11_plan_16 : decode cX11_plan 16 = .ok (.ifCond .ne 5, 3) := dc_154 (a := 0) (b := 5) (by decide +kernel) (by decide)
theorem dX11_plan_19 : decode cX11_plan 19 = .ok (.iconst (-1), 1) := dc_2 (by decide +kernel)
theorem dX11_plan_20 : decode cX11_plan 20 = .ok (.ireturn, 1) := dc_172 (by decide +kernel)
theorem dX11_plan_21 : decode cX11_plan 21 = .ok (.iload_n 1, 1) := dc_27 (by decide +kernel)
theorem dX11_plan_22 : decode cX11_plan 22 = .ok (.iconst 1, 1) := dc_4 (by decide +kernel)
theorem dX11_plan_23 : decode cX11_plan 23 = .ok (.if_icmp .ne 11, 3) := dc_160 (a := 0) (b := 11) (by decide +kernel) (by decide)
theorem dX11_plan_26 : decode cX11_plan 26 = .ok (.aload_n 0, 1) := dc_42 (by decide +kernel)
theorem dX11_plan_27 : decode cX11_plan 27 = .ok (.getfield 74, 3) := dc_180 (a := 0) (b := 74) (by decide +kernel)
theorem dX11_plan_30 : decode cX11_plan 30 = .ok (.invokevirtual 432, 3) := dc_182 (a := 1) (b := 176) (by decide +kernel)
theorem dX11_plan_33 : decode cX11_plan 33 = .ok (.ireturn, 1) := dc_172 (by decide +kernel)
theorem dX11_plan_34 : decode cX11_plan 34 = .ok (.aload_n 0, 1) := dc_42 (by decide +kernel)
theorem dX11_plan_35 : decode cX11_plan 35 = .ok (.getfield 74, 3) := dc_180 (a := 0) (b := 74) (by decide +kernel)
theorem dX11_plan_38 : decode cX11_plan 38 = .ok (.invokevirtual 435, 3) := dc_182 (a := 1) (b := 179) (by decide +kernel)
theorem dX11_plan_41 : decode cX11_plan 41 = .ok (.ifCond .eq 13, 3) := dc_153 (a := 0) (b := 13) (by decide +kernel) (by decide)
theorem dX11_plan_44 : decode cX11_plan 44 = .ok (.aload_n 0, 1) := dc_42 (by decide +kernel)
theorem dX11_plan_45 : decode cX11_plan 45 = .ok (.getfield 74, 3) := dc_180 (a := 0) (b := 74) (by decide +kernel)
theorem dX11_plan_48 : decode cX11_plan 48 = .ok (.invokevirtual 438, 3) := dc_182 (a := 1) (b := 182) (by decide +kernel)
theorem dX11_plan_51 : decode cX11_plan 51 = .ok (.goto 4, 3) := dc_167 (a := 0) (b := 4) (by decide +kernel) (by decide)
theorem dX11_plan_54 : decode cX11_plan 54 = .ok (.iconst (-1), 1) := dc_2 (by decide +kernel)
theorem dX11_plan_55 : decode cX11_plan 55 = .ok (.ireturn, 1) := dc_172 (by decide +kernel)
set_option maxRecDepth 100000 in
set_option maxHeartbeats 4000000 in
theorem m_Yard_plan (a1 : Int32) (S S' : SS) (r : Int32) (h : f_Yard_plan a1 S = some (r, S')) : MX yX11_plan cX11_plan 2 (some .int) 6 165 (fun ad => [.ref (ad 61), .int a1]) S (some (.int r)) S' (8 * S.2 200) (18641 * S.2 200) := by
  refine MX.of RX11 (fun ad => [(0, .ref (ad 61)), (1, .int a1)]) (by decide) rfl (fun _ => Nat.le_of_ble_eq_true rfl) (fun _ => rfl) ?_
  intro p l e R s m args below meth c dC dI cs ad A hR1 hR2 hRc hRs F H locs ls hA w hl
  have hx := F.1.1
  have hb := F.1.2.1
  rw [f_Yard_plan] at h
  refine lv_iload_n (pc := 0) hx hb dX11_plan_0 rfl (lv_at hl 1 rfl) ?_
  refine lv_iconst (pc := 1) (v := 0) hx hb dX11_plan_1 (by decide) ?_
  refine lv_iconst (pc := 2) (v := 1) hx hb dX11_plan_2 (by decide) ?_
  obtain ⟨r2, S1, hc, h⟩ := bnd_t h
  refine s_csi (pc := 3) [.int a1, .int (0 : Int32), .int (1 : Int32)] (fun ad => [.int a1, .int (0 : Int32), .int (1 : Int32)]) F w (m_Yard_isNot _ _ _ _ _ _ hc) rfl rfl hl.1 ok_X11_isNot rfl kc_X11_isNot kl_X11_108 ks_X11_isNot kn_X11 ⟨Nat.le_trans (by decide) hR1, Nat.le_trans (by decide) hR2⟩ ⟨Nat.zero_le _, Nat.zero_le _⟩ (Nat.le_of_ble_eq_true rfl) dX11_plan_3 (fun H locs w => ?_)
  refine lv_if_ne (pc := 6) (tgt := 19) hx hb dX11_plan_6 (by decide) (fun q => ?_) (fun q => ?_)
  · have h := ite_f q h
    refine lv_iconst (pc := 19) (v := -1) hx hb dX11_plan_19 (by decide) ?_
    exact s_iretX F w hA ⟨Nat.zero_le _, Nat.zero_le _⟩ h dX11_plan_20
  · have h := ite_t q h
    refine lv_aload_n (pc := 9) hx hb dX11_plan_9 rfl (lv_at hl 0 rfl) ?_
    refine s_getR (pc := 10) F w 70 ds_61 (j := 8) vc_X11 vi_X11 rfl (by decide) kf_X11_74 dX11_plan_10 ?_
    obtain ⟨r4, S3, hc, h⟩ := bnd_t h
    refine s_cvi (pc := 13) [] (fun ad => [.ref (ad 70)]) F w (m_Plans_haveSameWagons  _ _ _ hc) rfl rfl hl.1 ds_70 vc_X3 rfl ok_X3_haveSameWagons rfl kc_X3_haveSameWagons kl_X11_428 ki_X3_haveSameWagons kv_X3_haveSameWagons kn_X3 ⟨Nat.le_trans (by decide) hR1, Nat.le_trans (by decide) hR2⟩ ⟨Nat.zero_le _, Nat.zero_le _⟩ (Nat.le_of_ble_eq_true rfl) dX11_plan_13 (fun H locs w => ?_)
    refine lv_if_ne (pc := 16) (tgt := 21) hx hb dX11_plan_16 (by decide) (fun q => ?_) (fun q => ?_)
    · have h := ite_f q h
      refine lv_iload_n (pc := 21) hx hb dX11_plan_21 rfl (lv_at hl 1 rfl) ?_
      refine lv_iconst (pc := 22) (v := 1) hx hb dX11_plan_22 (by decide) ?_
      refine lv_icmp_ne (pc := 23) (tgt := 34) hx hb dX11_plan_23 (by decide) (fun q => ?_) (fun q => ?_)
      · have h := ite_f q h
        refine lv_aload_n (pc := 34) hx hb dX11_plan_34 rfl (lv_at hl 0 rfl) ?_
        refine s_getR (pc := 35) F w 70 ds_61 (j := 8) vc_X11 vi_X11 rfl (by decide) kf_X11_74 dX11_plan_35 ?_
        obtain ⟨r6, S5, hc, h⟩ := bnd_t h
        refine s_cvi (pc := 38) [] (fun ad => [.ref (ad 70)]) F w (m_Plans_isSmall  _ _ _ hc) rfl rfl hl.1 ds_70 vc_X3 rfl ok_X3_isSmall rfl kc_X3_isSmall kl_X11_435 ki_X3_isSmall kv_X3_isSmall kn_X3 ⟨Nat.le_trans (by decide) hR1, Nat.le_trans (by decide) hR2⟩ ⟨Nat.zero_le _, Nat.zero_le _⟩ (Nat.le_of_ble_eq_true rfl) dX11_plan_38 (fun H locs w => ?_)
        refine lv_if_eq (pc := 41) (tgt := 54) hx hb dX11_plan_41 (by decide) (fun q => ?_) (fun q => ?_)
        · have h := ite_t q h
          refine lv_iconst (pc := 54) (v := -1) hx hb dX11_plan_54 (by decide) ?_
          exact s_iretX F w hA ⟨Nat.zero_le _, Nat.zero_le _⟩ h dX11_plan_55
        · have h := ite_f q h
          refine lv_aload_n (pc := 44) hx hb dX11_plan_44 rfl (lv_at hl 0 rfl) ?_
          refine s_getR (pc := 45) F w 70 ds_61 (j := 8) vc_X11 vi_X11 rfl (by decide) kf_X11_74 dX11_plan_45 ?_
          obtain ⟨r8, S7, hc, h⟩ := bnd_t h
          have hM := m_Plans_makeLeast  _ _ _ hc
          rw [w.2.2.2] at hM
          refine s_cxi (pc := 48) [] (fun ad => [.ref (ad 70)]) F w hM rfl rfl hl.1 ds_70 vc_X3 rfl ok_X3_makeLeast rfl kc_X3_makeLeast kl_X11_438 ki_X3_makeLeast kv_X3_makeLeast kn_X3 ⟨Nat.le_trans (by decide) hR1, Nat.le_trans (by decide) hR2⟩ ⟨by rw [Nat.zero_add]; exact hRc, by rw [Nat.zero_add]; exact hRs⟩ (Nat.le_of_ble_eq_true rfl) dX11_plan_48 (fun ad1 H locs hQ w => ?_)
          have hA := hA.tr hQ
          have hl : lv_has ls 2 [(0, .ref (ad1 61)), (1, .int a1)] := by rw [hQ 61 (by decide)]; exact hl
          refine lv_goto (pc := 51) (tgt := 55) hx hb dX11_plan_51 (by decide) ?_
          exact s_iretX F w hA ⟨Nat.le_of_eq (Nat.zero_add _), Nat.le_of_eq (Nat.zero_add _)⟩ h dX11_plan_55
      · have h := ite_t q h
        refine lv_aload_n (pc := 26) hx hb dX11_plan_26 rfl (lv_at hl 0 rfl) ?_
        refine s_getR (pc := 27) F w 70 ds_61 (j := 8) vc_X11 vi_X11 rfl (by decide) kf_X11_74 dX11_plan_27 ?_
        obtain ⟨r10, S9, hc, h⟩ := bnd_t h
        refine s_cvi (pc := 30) [] (fun ad => [.ref (ad 70)]) F w (m_Plans_makeByRule  _ _ _ hc) rfl rfl hl.1 ds_70 vc_X3 rfl ok_X3_makeByRule rfl kc_X3_makeByRule kl_X11_432 ki_X3_makeByRule kv_X3_makeByRule kn_X3 ⟨Nat.le_trans (by decide) hR1, Nat.le_trans (by decide) hR2⟩ ⟨Nat.zero_le _, Nat.zero_le _⟩ (Nat.le_of_ble_eq_true rfl) dX11_plan_30 (fun H locs w => ?_)
        exact s_iretX F w hA ⟨Nat.zero_le _, Nat.zero_le _⟩ h dX11_plan_33
    · have h := ite_t q h
      refine lv_iconst (pc := 19) (v := -1) hx hb dX11_plan_19 (by decide) ?_
      exact s_iretX F w hA ⟨Nat.zero_le _, Nat.zero_le _⟩ h dX11_plan_20
