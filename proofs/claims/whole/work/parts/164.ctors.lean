abbrev wq_X5_init (h0 : Nat)  (cs : Nat → ClassId) (q : Nat → Nat) : va_W := [(h0, .inr (5, [.ref (q 0), .ref (q 1), .int (0 : Int32), .int (0 : Int32), .int (-4 : Int32), .int (0 : Int32), .int (-4 : Int32)])), ((q 0), .inl (cs 0, (18, .inl (fun _ => 0)))), ((q 1), .inl (cs 0, (200, .inl (fun _ => 0))))]
theorem dX5_init_0 : decode cX5_init 0 = .ok (.aload_n 0, 1) := by decide +kernel
theorem dX5_init_1 : decode cX5_init 1 = .ok (.invokespecial 3, 3) := by decide +kernel
theorem dX5_init_4 : decode cX5_init 4 = .ok (.aload_n 0, 1) := by decide +kernel
theorem dX5_init_5 : decode cX5_init 5 = .ok (.bipush 18, 2) := by decide +kernel
theorem dX5_init_7 : decode cX5_init 7 = .ok (.newarray .int, 2) := by decide +kernel
theorem dX5_init_9 : decode cX5_init 9 = .ok (.putfield 11, 3) := by decide +kernel
theorem dX5_init_12 : decode cX5_init 12 = .ok (.aload_n 0, 1) := by decide +kernel
theorem dX5_init_13 : decode cX5_init 13 = .ok (.sipush 200, 3) := by decide +kernel
theorem dX5_init_16 : decode cX5_init 16 = .ok (.newarray .int, 2) := by decide +kernel
theorem dX5_init_18 : decode cX5_init 18 = .ok (.putfield 15, 3) := by decide +kernel
theorem dX5_init_21 : decode cX5_init 21 = .ok (.aload_n 0, 1) := by decide +kernel
theorem dX5_init_22 : decode cX5_init 22 = .ok (.iconst 0, 1) := by decide +kernel
theorem dX5_init_23 : decode cX5_init 23 = .ok (.putfield 18, 3) := by decide +kernel
theorem dX5_init_26 : decode cX5_init 26 = .ok (.aload_n 0, 1) := by decide +kernel
theorem dX5_init_27 : decode cX5_init 27 = .ok (.iconst 0, 1) := by decide +kernel
theorem dX5_init_28 : decode cX5_init 28 = .ok (.putfield 22, 3) := by decide +kernel
theorem dX5_init_31 : decode cX5_init 31 = .ok (.aload_n 0, 1) := by decide +kernel
theorem dX5_init_32 : decode cX5_init 32 = .ok (.bipush (-4), 2) := by decide +kernel
theorem dX5_init_34 : decode cX5_init 34 = .ok (.putfield 25, 3) := by decide +kernel
theorem dX5_init_37 : decode cX5_init 37 = .ok (.aload_n 0, 1) := by decide +kernel
theorem dX5_init_38 : decode cX5_init 38 = .ok (.iconst 0, 1) := by decide +kernel
theorem dX5_init_39 : decode cX5_init 39 = .ok (.putfield 28, 3) := by decide +kernel
theorem dX5_init_42 : decode cX5_init 42 = .ok (.aload_n 0, 1) := by decide +kernel
theorem dX5_init_43 : decode cX5_init 43 = .ok (.bipush (-4), 2) := by decide +kernel
theorem dX5_init_45 : decode cX5_init 45 = .ok (.putfield 31, 3) := by decide +kernel
theorem dX5_init_48 : decode cX5_init 48 = .ok (.return_, 1) := by decide +kernel
set_option maxRecDepth 100000 in
set_option maxHeartbeats 8000000 in
theorem c_X5_init (h0 : Nat)  : MK yX5_init cX5_init 1 1 12 2 218 [.ref h0] (fun _ => [(h0, .inr (5, [.null, .null, .int 0, .int 0, .int 0, .int 0, .int 0]))]) (wq_X5_init h0 ) := by
  refine MK.of RX5 [(0, .ref h0)] (by decide) rfl rfl (Nat.le_of_ble_eq_true rfl) rfl ?_
  intro p l e R s m args below meth c dC dI cs A H locs ls hR1 hR2 hRc hRs F hP hD hS hl
  have hx := F.1.1
  have hb := F.1.2.1
  refine lv_aload_n (pc := 0) hx hb dX5_init_0 rfl (lv_at hl 0 rfl) ?_
  refine k_obj (pc := 1) F klo_X5 kio kco hl.1 (by omega) (by omega) dX5_init_1 ?_
  refine lv_aload_n (pc := 4) hx hb dX5_init_4 rfl (lv_at hl 0 rfl) ?_
  refine lv_bipush (pc := 5) (v := 18) hx hb dX5_init_5 (by decide) ?_
  refine k_newI (pc := 7) F hP hD hS 18 kx_arr (by decide) (by decide) (by decide) (by omega) (by omega) dX5_init_7 (fun q1 H hP hD hS => ?_)
  have hP : va_P (dC, dI) vwCl [(h0, .inr (5, [.null, .null, .int 0, .int 0, .int 0, .int 0, .int 0])), (q1, .inl (cs 0, (18, .inl (fun _ => 0))))] H := hP
  have hD : va_D A [(h0, .inr (5, [.null, .null, .int 0, .int 0, .int 0, .int 0, .int 0])), (q1, .inl (cs 0, (18, .inl (fun _ => 0))))] := hD
  refine k_putF (pc := 9) F hP hD hS 0 rfl vc_X5 vi_X5 tyX5_ok nmX5 0 (by decide) kf_X5_11 rfl rfl rfl rfl (Nat.le_of_ble_eq_true rfl) dX5_init_9 (fun H locs hP hD hS => ?_)
  have hP : va_P (dC, dI) vwCl [(h0, .inr (5, [.ref q1, .null, .int 0, .int 0, .int 0, .int 0, .int 0])), (q1, .inl (cs 0, (18, .inl (fun _ => 0))))] H := hP
  have hD : va_D A [(h0, .inr (5, [.ref q1, .null, .int 0, .int 0, .int 0, .int 0, .int 0])), (q1, .inl (cs 0, (18, .inl (fun _ => 0))))] := hD
  refine lv_aload_n (pc := 12) hx hb dX5_init_12 rfl (lv_at hl 0 rfl) ?_
  refine lv_sipush (pc := 13) (v := 200) hx hb dX5_init_13 (by decide) ?_
  refine k_newI (pc := 16) F hP hD hS 200 kx_arr (by decide) (by decide) (by decide) (by omega) (by omega) dX5_init_16 (fun q2 H hP hD hS => ?_)
  have hP : va_P (dC, dI) vwCl [(h0, .inr (5, [.ref q1, .null, .int 0, .int 0, .int 0, .int 0, .int 0])), (q1, .inl (cs 0, (18, .inl (fun _ => 0)))), (q2, .inl (cs 0, (200, .inl (fun _ => 0))))] H := hP
  have hD : va_D A [(h0, .inr (5, [.ref q1, .null, .int 0, .int 0, .int 0, .int 0, .int 0])), (q1, .inl (cs 0, (18, .inl (fun _ => 0)))), (q2, .inl (cs 0, (200, .inl (fun _ => 0))))] := hD
  refine k_putF (pc := 18) F hP hD hS 0 rfl vc_X5 vi_X5 tyX5_ok nmX5 1 (by decide) kf_X5_15 rfl rfl rfl rfl (Nat.le_of_ble_eq_true rfl) dX5_init_18 (fun H locs hP hD hS => ?_)
  have hP : va_P (dC, dI) vwCl [(h0, .inr (5, [.ref q1, .ref q2, .int 0, .int 0, .int 0, .int 0, .int 0])), (q1, .inl (cs 0, (18, .inl (fun _ => 0)))), (q2, .inl (cs 0, (200, .inl (fun _ => 0))))] H := hP
  have hD : va_D A [(h0, .inr (5, [.ref q1, .ref q2, .int 0, .int 0, .int 0, .int 0, .int 0])), (q1, .inl (cs 0, (18, .inl (fun _ => 0)))), (q2, .inl (cs 0, (200, .inl (fun _ => 0))))] := hD
  refine lv_aload_n (pc := 21) hx hb dX5_init_21 rfl (lv_at hl 0 rfl) ?_
  refine lv_iconst (pc := 22) (v := 0) hx hb dX5_init_22 (by decide) ?_
  refine k_put (pc := 23) F hP hD hS 0 rfl vc_X5 vi_X5 tyX5_ok nmX5 2 (by decide) kf_X5_18 rfl rfl rfl (Nat.le_of_ble_eq_true rfl) dX5_init_23 (fun H locs hP hD hS => ?_)
  have hP : va_P (dC, dI) vwCl [(h0, .inr (5, [.ref q1, .ref q2, .int (0 : Int32), .int 0, .int 0, .int 0, .int 0])), (q1, .inl (cs 0, (18, .inl (fun _ => 0)))), (q2, .inl (cs 0, (200, .inl (fun _ => 0))))] H := hP
  have hD : va_D A [(h0, .inr (5, [.ref q1, .ref q2, .int (0 : Int32), .int 0, .int 0, .int 0, .int 0])), (q1, .inl (cs 0, (18, .inl (fun _ => 0)))), (q2, .inl (cs 0, (200, .inl (fun _ => 0))))] := hD
  refine lv_aload_n (pc := 26) hx hb dX5_init_26 rfl (lv_at hl 0 rfl) ?_
  refine lv_iconst (pc := 27) (v := 0) hx hb dX5_init_27 (by decide) ?_
  refine k_put (pc := 28) F hP hD hS 0 rfl vc_X5 vi_X5 tyX5_ok nmX5 3 (by decide) kf_X5_22 rfl rfl rfl (Nat.le_of_ble_eq_true rfl) dX5_init_28 (fun H locs hP hD hS => ?_)
  have hP : va_P (dC, dI) vwCl [(h0, .inr (5, [.ref q1, .ref q2, .int (0 : Int32), .int (0 : Int32), .int 0, .int 0, .int 0])), (q1, .inl (cs 0, (18, .inl (fun _ => 0)))), (q2, .inl (cs 0, (200, .inl (fun _ => 0))))] H := hP
  have hD : va_D A [(h0, .inr (5, [.ref q1, .ref q2, .int (0 : Int32), .int (0 : Int32), .int 0, .int 0, .int 0])), (q1, .inl (cs 0, (18, .inl (fun _ => 0)))), (q2, .inl (cs 0, (200, .inl (fun _ => 0))))] := hD
  refine lv_aload_n (pc := 31) hx hb dX5_init_31 rfl (lv_at hl 0 rfl) ?_
  refine lv_bipush (pc := 32) (v := -4) hx hb dX5_init_32 (by decide) ?_
  refine k_put (pc := 34) F hP hD hS 0 rfl vc_X5 vi_X5 tyX5_ok nmX5 4 (by decide) kf_X5_25 rfl rfl rfl (Nat.le_of_ble_eq_true rfl) dX5_init_34 (fun H locs hP hD hS => ?_)
  have hP : va_P (dC, dI) vwCl [(h0, .inr (5, [.ref q1, .ref q2, .int (0 : Int32), .int (0 : Int32), .int (-4 : Int32), .int 0, .int 0])), (q1, .inl (cs 0, (18, .inl (fun _ => 0)))), (q2, .inl (cs 0, (200, .inl (fun _ => 0))))] H := hP
  have hD : va_D A [(h0, .inr (5, [.ref q1, .ref q2, .int (0 : Int32), .int (0 : Int32), .int (-4 : Int32), .int 0, .int 0])), (q1, .inl (cs 0, (18, .inl (fun _ => 0)))), (q2, .inl (cs 0, (200, .inl (fun _ => 0))))] := hD
  refine lv_aload_n (pc := 37) hx hb dX5_init_37 rfl (lv_at hl 0 rfl) ?_
  refine lv_iconst (pc := 38) (v := 0) hx hb dX5_init_38 (by decide) ?_
  refine k_put (pc := 39) F hP hD hS 0 rfl vc_X5 vi_X5 tyX5_ok nmX5 5 (by decide) kf_X5_28 rfl rfl rfl (Nat.le_of_ble_eq_true rfl) dX5_init_39 (fun H locs hP hD hS => ?_)
  have hP : va_P (dC, dI) vwCl [(h0, .inr (5, [.ref q1, .ref q2, .int (0 : Int32), .int (0 : Int32), .int (-4 : Int32), .int (0 : Int32), .int 0])), (q1, .inl (cs 0, (18, .inl (fun _ => 0)))), (q2, .inl (cs 0, (200, .inl (fun _ => 0))))] H := hP
  have hD : va_D A [(h0, .inr (5, [.ref q1, .ref q2, .int (0 : Int32), .int (0 : Int32), .int (-4 : Int32), .int (0 : Int32), .int 0])), (q1, .inl (cs 0, (18, .inl (fun _ => 0)))), (q2, .inl (cs 0, (200, .inl (fun _ => 0))))] := hD
  refine lv_aload_n (pc := 42) hx hb dX5_init_42 rfl (lv_at hl 0 rfl) ?_
  refine lv_bipush (pc := 43) (v := -4) hx hb dX5_init_43 (by decide) ?_
  refine k_put (pc := 45) F hP hD hS 0 rfl vc_X5 vi_X5 tyX5_ok nmX5 6 (by decide) kf_X5_31 rfl rfl rfl (Nat.le_of_ble_eq_true rfl) dX5_init_45 (fun H locs hP hD hS => ?_)
  have hP : va_P (dC, dI) vwCl [(h0, .inr (5, [.ref q1, .ref q2, .int (0 : Int32), .int (0 : Int32), .int (-4 : Int32), .int (0 : Int32), .int (-4 : Int32)])), (q1, .inl (cs 0, (18, .inl (fun _ => 0)))), (q2, .inl (cs 0, (200, .inl (fun _ => 0))))] H := hP
  have hD : va_D A [(h0, .inr (5, [.ref q1, .ref q2, .int (0 : Int32), .int (0 : Int32), .int (-4 : Int32), .int (0 : Int32), .int (-4 : Int32)])), (q1, .inl (cs 0, (18, .inl (fun _ => 0)))), (q2, .inl (cs 0, (200, .inl (fun _ => 0))))] := hD
  exact k_ret (pc := 48) F (fun i => [q1, q2].getD i 0) (hP.sub [0, 1, 2] rfl) (hD.sub [0, 1, 2] (by decide) rfl) hS (by omega) (by omega) dX5_init_48
abbrev wq_X8_init (h0 : Nat)  (cs : Nat → ClassId) (q : Nat → Nat) : va_W := [(h0, .inr (8, [.ref (q 0), .int (0 : Int32)])), ((q 0), .inl (cs 0, (946, .inl (fun _ => 0))))]
theorem dX8_init_0 : decode cX8_init 0 = .ok (.aload_n 0, 1) := by decide +kernel
theorem dX8_init_1 : decode cX8_init 1 = .ok (.invokespecial 7, 3) := by decide +kernel
theorem dX8_init_4 : decode cX8_init 4 = .ok (.aload_n 0, 1) := by decide +kernel
theorem dX8_init_5 : decode cX8_init 5 = .ok (.sipush 946, 3) := by decide +kernel
theorem dX8_init_8 : decode cX8_init 8 = .ok (.newarray .int, 2) := by decide +kernel
theorem dX8_init_10 : decode cX8_init 10 = .ok (.putfield 13, 3) := by decide +kernel
theorem dX8_init_13 : decode cX8_init 13 = .ok (.aload_n 0, 1) := by decide +kernel
theorem dX8_init_14 : decode cX8_init 14 = .ok (.iconst 0, 1) := by decide +kernel
theorem dX8_init_15 : decode cX8_init 15 = .ok (.putfield 17, 3) := by decide +kernel
theorem dX8_init_18 : decode cX8_init 18 = .ok (.return_, 1) := by decide +kernel
set_option maxRecDepth 100000 in
set_option maxHeartbeats 8000000 in
theorem c_X8_init (h0 : Nat)  : MK yX8_init cX8_init 1 1 12 1 946 [.ref h0] (fun _ => [(h0, .inr (8, [.null, .int 0]))]) (wq_X8_init h0 ) := by
  refine MK.of RX8 [(0, .ref h0)] (by decide) rfl rfl (Nat.le_of_ble_eq_true rfl) rfl ?_
  intro p l e R s m args below meth c dC dI cs A H locs ls hR1 hR2 hRc hRs F hP hD hS hl
  have hx := F.1.1
  have hb := F.1.2.1
  refine lv_aload_n (pc := 0) hx hb dX8_init_0 rfl (lv_at hl 0 rfl) ?_
  refine k_obj (pc := 1) F klo_X8 kio kco hl.1 (by omega) (by omega) dX8_init_1 ?_
  refine lv_aload_n (pc := 4) hx hb dX8_init_4 rfl (lv_at hl 0 rfl) ?_
  refine lv_sipush (pc := 5) (v := 946) hx hb dX8_init_5 (by decide) ?_
  refine k_newI (pc := 8) F hP hD hS 946 kx_arr (by decide) (by decide) (by decide) (by omega) (by omega) dX8_init_8 (fun q1 H hP hD hS => ?_)
  have hP : va_P (dC, dI) vwCl [(h0, .inr (8, [.null, .int 0])), (q1, .inl (cs 0, (946, .inl (fun _ => 0))))] H := hP
  have hD : va_D A [(h0, .inr (8, [.null, .int 0])), (q1, .inl (cs 0, (946, .inl (fun _ => 0))))] := hD
  refine k_put (pc := 10) F hP hD hS 0 rfl vc_X8 vi_X8 tyX8_ok nmX8 0 (by decide) kf_X8_13 rfl rfl rfl (Nat.le_of_ble_eq_true rfl) dX8_init_10 (fun H locs hP hD hS => ?_)
  have hP : va_P (dC, dI) vwCl [(h0, .inr (8, [.ref q1, .int 0])), (q1, .inl (cs 0, (946, .inl (fun _ => 0))))] H := hP
  have hD : va_D A [(h0, .inr (8, [.ref q1, .int 0])), (q1, .inl (cs 0, (946, .inl (fun _ => 0))))] := hD
  refine lv_aload_n (pc := 13) hx hb dX8_init_13 rfl (lv_at hl 0 rfl) ?_
  refine lv_iconst (pc := 14) (v := 0) hx hb dX8_init_14 (by decide) ?_
  refine k_put (pc := 15) F hP hD hS 0 rfl vc_X8 vi_X8 tyX8_ok nmX8 1 (by decide) kf_X8_17 rfl rfl rfl (Nat.le_of_ble_eq_true rfl) dX8_init_15 (fun H locs hP hD hS => ?_)
  have hP : va_P (dC, dI) vwCl [(h0, .inr (8, [.ref q1, .int (0 : Int32)])), (q1, .inl (cs 0, (946, .inl (fun _ => 0))))] H := hP
  have hD : va_D A [(h0, .inr (8, [.ref q1, .int (0 : Int32)])), (q1, .inl (cs 0, (946, .inl (fun _ => 0))))] := hD
  exact k_ret (pc := 18) F (fun i => [q1].getD i 0) (hP.sub [0, 1] rfl) (hD.sub [0, 1] (by decide) rfl) hS (by omega) (by omega) dX8_init_18
abbrev wq_X9_init (h0 : Nat)  (cs : Nat → ClassId) (q : Nat → Nat) : va_W := [(h0, .inr (9, [.ref (q 0), .ref (q 1)])), ((q 0), .inl (cs 0, (432, .inl (fun _ => 0)))), ((q 1), .inl (cs 0, (1440, .inl (fun _ => 0))))]
theorem dX9_init_0 : decode cX9_init 0 = .ok (.aload_n 0, 1) := by decide +kernel
theorem dX9_init_1 : decode cX9_init 1 = .ok (.invokespecial 3, 3) := by decide +kernel
theorem dX9_init_4 : decode cX9_init 4 = .ok (.aload_n 0, 1) := by decide +kernel
theorem dX9_init_5 : decode cX9_init 5 = .ok (.sipush 432, 3) := by decide +kernel
theorem dX9_init_8 : decode cX9_init 8 = .ok (.newarray .int, 2) := by decide +kernel
theorem dX9_init_10 : decode cX9_init 10 = .ok (.putfield 13, 3) := by decide +kernel
theorem dX9_init_13 : decode cX9_init 13 = .ok (.aload_n 0, 1) := by decide +kernel
theorem dX9_init_14 : decode cX9_init 14 = .ok (.sipush 1440, 3) := by decide +kernel
theorem dX9_init_17 : decode cX9_init 17 = .ok (.newarray .int, 2) := by decide +kernel
theorem dX9_init_19 : decode cX9_init 19 = .ok (.putfield 17, 3) := by decide +kernel
theorem dX9_init_22 : decode cX9_init 22 = .ok (.return_, 1) := by decide +kernel
set_option maxRecDepth 100000 in
set_option maxHeartbeats 8000000 in
theorem c_X9_init (h0 : Nat)  : MK yX9_init cX9_init 1 1 12 2 1872 [.ref h0] (fun _ => [(h0, .inr (9, [.null, .null]))]) (wq_X9_init h0 ) := by
  refine MK.of RX9 [(0, .ref h0)] (by decide) rfl rfl (Nat.le_of_ble_eq_true rfl) rfl ?_
  intro p l e R s m args below meth c dC dI cs A H locs ls hR1 hR2 hRc hRs F hP hD hS hl
  have hx := F.1.1
  have hb := F.1.2.1
  refine lv_aload_n (pc := 0) hx hb dX9_init_0 rfl (lv_at hl 0 rfl) ?_
  refine k_obj (pc := 1) F klo_X9 kio kco hl.1 (by omega) (by omega) dX9_init_1 ?_
  refine lv_aload_n (pc := 4) hx hb dX9_init_4 rfl (lv_at hl 0 rfl) ?_
  refine lv_sipush (pc := 5) (v := 432) hx hb dX9_init_5 (by decide) ?_
  refine k_newI (pc := 8) F hP hD hS 432 kx_arr (by decide) (by decide) (by decide) (by omega) (by omega) dX9_init_8 (fun q1 H hP hD hS => ?_)
  have hP : va_P (dC, dI) vwCl [(h0, .inr (9, [.null, .null])), (q1, .inl (cs 0, (432, .inl (fun _ => 0))))] H := hP
  have hD : va_D A [(h0, .inr (9, [.null, .null])), (q1, .inl (cs 0, (432, .inl (fun _ => 0))))] := hD
  refine k_putF (pc := 10) F hP hD hS 0 rfl vc_X9 vi_X9 tyX9_ok nmX9 0 (by decide) kf_X9_13 rfl rfl rfl rfl (Nat.le_of_ble_eq_true rfl) dX9_init_10 (fun H locs hP hD hS => ?_)
  have hP : va_P (dC, dI) vwCl [(h0, .inr (9, [.ref q1, .null])), (q1, .inl (cs 0, (432, .inl (fun _ => 0))))] H := hP
  have hD : va_D A [(h0, .inr (9, [.ref q1, .null])), (q1, .inl (cs 0, (432, .inl (fun _ => 0))))] := hD
  refine lv_aload_n (pc := 13) hx hb dX9_init_13 rfl (lv_at hl 0 rfl) ?_
  refine lv_sipush (pc := 14) (v := 1440) hx hb dX9_init_14 (by decide) ?_
  refine k_newI (pc := 17) F hP hD hS 1440 kx_arr (by decide) (by decide) (by decide) (by omega) (by omega) dX9_init_17 (fun q2 H hP hD hS => ?_)
  have hP : va_P (dC, dI) vwCl [(h0, .inr (9, [.ref q1, .null])), (q1, .inl (cs 0, (432, .inl (fun _ => 0)))), (q2, .inl (cs 0, (1440, .inl (fun _ => 0))))] H := hP
  have hD : va_D A [(h0, .inr (9, [.ref q1, .null])), (q1, .inl (cs 0, (432, .inl (fun _ => 0)))), (q2, .inl (cs 0, (1440, .inl (fun _ => 0))))] := hD
  refine k_putF (pc := 19) F hP hD hS 0 rfl vc_X9 vi_X9 tyX9_ok nmX9 1 (by decide) kf_X9_17 rfl rfl rfl rfl (Nat.le_of_ble_eq_true rfl) dX9_init_19 (fun H locs hP hD hS => ?_)
  have hP : va_P (dC, dI) vwCl [(h0, .inr (9, [.ref q1, .ref q2])), (q1, .inl (cs 0, (432, .inl (fun _ => 0)))), (q2, .inl (cs 0, (1440, .inl (fun _ => 0))))] H := hP
  have hD : va_D A [(h0, .inr (9, [.ref q1, .ref q2])), (q1, .inl (cs 0, (432, .inl (fun _ => 0)))), (q2, .inl (cs 0, (1440, .inl (fun _ => 0))))] := hD
  exact k_ret (pc := 22) F (fun i => [q1, q2].getD i 0) (hP.sub [0, 1, 2] rfl) (hD.sub [0, 1, 2] (by decide) rfl) hS (by omega) (by omega) dX9_init_22
abbrev wq_X7_init (h0 : Nat)  (cs : Nat → ClassId) (q : Nat → Nat) : va_W := [(h0, .inr (7, [.ref (q 0), .ref (q 1)])), ((q 0), .inl (cs 0, (40, .inl (fun _ => 0)))), ((q 1), .inl (cs 0, (4, .inl (fun _ => 0))))]
theorem dX7_init_0 : decode cX7_init 0 = .ok (.aload_n 0, 1) := by decide +kernel
theorem dX7_init_1 : decode cX7_init 1 = .ok (.invokespecial 3, 3) := by decide +kernel
theorem dX7_init_4 : decode cX7_init 4 = .ok (.aload_n 0, 1) := by decide +kernel
theorem dX7_init_5 : decode cX7_init 5 = .ok (.bipush 40, 2) := by decide +kernel
theorem dX7_init_7 : decode cX7_init 7 = .ok (.newarray .int, 2) := by decide +kernel
theorem dX7_init_9 : decode cX7_init 9 = .ok (.putfield 11, 3) := by decide +kernel
theorem dX7_init_12 : decode cX7_init 12 = .ok (.aload_n 0, 1) := by decide +kernel
theorem dX7_init_13 : decode cX7_init 13 = .ok (.iconst 4, 1) := by decide +kernel
theorem dX7_init_14 : decode cX7_init 14 = .ok (.newarray .int, 2) := by decide +kernel
theorem dX7_init_16 : decode cX7_init 16 = .ok (.putfield 15, 3) := by decide +kernel
theorem dX7_init_19 : decode cX7_init 19 = .ok (.return_, 1) := by decide +kernel
set_option maxRecDepth 100000 in
set_option maxHeartbeats 8000000 in
theorem c_X7_init (h0 : Nat)  : MK yX7_init cX7_init 1 1 12 2 44 [.ref h0] (fun _ => [(h0, .inr (7, [.null, .null]))]) (wq_X7_init h0 ) := by
  refine MK.of RX7 [(0, .ref h0)] (by decide) rfl rfl (Nat.le_of_ble_eq_true rfl) rfl ?_
  intro p l e R s m args below meth c dC dI cs A H locs ls hR1 hR2 hRc hRs F hP hD hS hl
  have hx := F.1.1
  have hb := F.1.2.1
  refine lv_aload_n (pc := 0) hx hb dX7_init_0 rfl (lv_at hl 0 rfl) ?_
  refine k_obj (pc := 1) F klo_X7 kio kco hl.1 (by omega) (by omega) dX7_init_1 ?_
  refine lv_aload_n (pc := 4) hx hb dX7_init_4 rfl (lv_at hl 0 rfl) ?_
  refine lv_bipush (pc := 5) (v := 40) hx hb dX7_init_5 (by decide) ?_
  refine k_newI (pc := 7) F hP hD hS 40 kx_arr (by decide) (by decide) (by decide) (by omega) (by omega) dX7_init_7 (fun q1 H hP hD hS => ?_)
  have hP : va_P (dC, dI) vwCl [(h0, .inr (7, [.null, .null])), (q1, .inl (cs 0, (40, .inl (fun _ => 0))))] H := hP
  have hD : va_D A [(h0, .inr (7, [.null, .null])), (q1, .inl (cs 0, (40, .inl (fun _ => 0))))] := hD
  refine k_putF (pc := 9) F hP hD hS 0 rfl vc_X7 vi_X7 tyX7_ok nmX7 0 (by decide) kf_X7_11 rfl rfl rfl rfl (Nat.le_of_ble_eq_true rfl) dX7_init_9 (fun H locs hP hD hS => ?_)
  have hP : va_P (dC, dI) vwCl [(h0, .inr (7, [.ref q1, .null])), (q1, .inl (cs 0, (40, .inl (fun _ => 0))))] H := hP
  have hD : va_D A [(h0, .inr (7, [.ref q1, .null])), (q1, .inl (cs 0, (40, .inl (fun _ => 0))))] := hD
  refine lv_aload_n (pc := 12) hx hb dX7_init_12 rfl (lv_at hl 0 rfl) ?_
  refine lv_iconst (pc := 13) (v := 4) hx hb dX7_init_13 (by decide) ?_
  refine k_newI (pc := 14) F hP hD hS 4 kx_arr (by decide) (by decide) (by decide) (by omega) (by omega) dX7_init_14 (fun q2 H hP hD hS => ?_)
  have hP : va_P (dC, dI) vwCl [(h0, .inr (7, [.ref q1, .null])), (q1, .inl (cs 0, (40, .inl (fun _ => 0)))), (q2, .inl (cs 0, (4, .inl (fun _ => 0))))] H := hP
  have hD : va_D A [(h0, .inr (7, [.ref q1, .null])), (q1, .inl (cs 0, (40, .inl (fun _ => 0)))), (q2, .inl (cs 0, (4, .inl (fun _ => 0))))] := hD
  refine k_putF (pc := 16) F hP hD hS 0 rfl vc_X7 vi_X7 tyX7_ok nmX7 1 (by decide) kf_X7_15 rfl rfl rfl rfl (Nat.le_of_ble_eq_true rfl) dX7_init_16 (fun H locs hP hD hS => ?_)
  have hP : va_P (dC, dI) vwCl [(h0, .inr (7, [.ref q1, .ref q2])), (q1, .inl (cs 0, (40, .inl (fun _ => 0)))), (q2, .inl (cs 0, (4, .inl (fun _ => 0))))] H := hP
  have hD : va_D A [(h0, .inr (7, [.ref q1, .ref q2])), (q1, .inl (cs 0, (40, .inl (fun _ => 0)))), (q2, .inl (cs 0, (4, .inl (fun _ => 0))))] := hD
  exact k_ret (pc := 19) F (fun i => [q1, q2].getD i 0) (hP.sub [0, 1, 2] rfl) (hD.sub [0, 1, 2] (by decide) rfl) hS (by omega) (by omega) dX7_init_19
abbrev wq_X4_init (h0 : Nat)  (cs : Nat → ClassId) (q : Nat → Nat) : va_W := [(h0, .inr (4, [.ref (q 0), .ref (q 1), .ref (q 2), .ref (q 3), .ref (q 4), .int (0 : Int32), .int (0 : Int32), .int (0 : Int32), .ref (q 5), .ref (q 6), .ref (q 7), .ref (q 8), .ref (q 9), .ref (q 10), .ref (q 11), .ref (q 12)])), ((q 0), .inl (cs 0, (10, .inl (fun _ => 0)))), ((q 1), .inl (cs 0, (5, .inl (fun _ => 0)))), ((q 2), .inl (cs 0, (5, .inl (fun _ => 0)))), ((q 3), .inl (cs 0, (5, .inl (fun _ => 0)))), ((q 4), .inl (cs 0, (216, .inl (fun _ => 0)))), ((q 5), .inl (cs 0, (0, .inl (fun _ => 0)))), ((q 6), .inl (cs 0, (0, .inl (fun _ => 0)))), ((q 7), .inl (cs 0, (0, .inl (fun _ => 0)))), ((q 8), .inl (cs 0, (0, .inl (fun _ => 0)))), ((q 9), .inl (cs 0, (0, .inl (fun _ => 0)))), ((q 10), .inl (cs 0, (0, .inl (fun _ => 0)))), ((q 11), .inl (cs 0, (0, .inl (fun _ => 0)))), ((q 12), .inl (cs 0, (0, .inl (fun _ => 0))))]
theorem dX4_init_0 : decode cX4_init 0 = .ok (.aload_n 0, 1) := by decide +kernel
theorem dX4_init_1 : decode cX4_init 1 = .ok (.invokespecial 3, 3) := by decide +kernel
theorem dX4_init_4 : decode cX4_init 4 = .ok (.aload_n 0, 1) := by decide +kernel
theorem dX4_init_5 : decode cX4_init 5 = .ok (.bipush 10, 2) := by decide +kernel
theorem dX4_init_7 : decode cX4_init 7 = .ok (.newarray .int, 2) := by decide +kernel
theorem dX4_init_9 : decode cX4_init 9 = .ok (.putfield 11, 3) := by decide +kernel
theorem dX4_init_12 : decode cX4_init 12 = .ok (.aload_n 0, 1) := by decide +kernel
theorem dX4_init_13 : decode cX4_init 13 = .ok (.iconst 5, 1) := by decide +kernel
theorem dX4_init_14 : decode cX4_init 14 = .ok (.newarray .int, 2) := by decide +kernel
theorem dX4_init_16 : decode cX4_init 16 = .ok (.putfield 17, 3) := by decide +kernel
theorem dX4_init_19 : decode cX4_init 19 = .ok (.aload_n 0, 1) := by decide +kernel
theorem dX4_init_20 : decode cX4_init 20 = .ok (.iconst 5, 1) := by decide +kernel
theorem dX4_init_21 : decode cX4_init 21 = .ok (.newarray .int, 2) := by decide +kernel
theorem dX4_init_23 : decode cX4_init 23 = .ok (.putfield 20, 3) := by decide +kernel
theorem dX4_init_26 : decode cX4_init 26 = .ok (.aload_n 0, 1) := by decide +kernel
theorem dX4_init_27 : decode cX4_init 27 = .ok (.iconst 5, 1) := by decide +kernel
theorem dX4_init_28 : decode cX4_init 28 = .ok (.newarray .int, 2) := by decide +kernel
theorem dX4_init_30 : decode cX4_init 30 = .ok (.putfield 23, 3) := by decide +kernel
theorem dX4_init_33 : decode cX4_init 33 = .ok (.aload_n 0, 1) := by decide +kernel
theorem dX4_init_34 : decode cX4_init 34 = .ok (.sipush 216, 3) := by decide +kernel
theorem dX4_init_37 : decode cX4_init 37 = .ok (.newarray .int, 2) := by decide +kernel
theorem dX4_init_39 : decode cX4_init 39 = .ok (.putfield 26, 3) := by decide +kernel
theorem dX4_init_42 : decode cX4_init 42 = .ok (.aload_n 0, 1) := by decide +kernel
theorem dX4_init_43 : decode cX4_init 43 = .ok (.iconst 0, 1) := by decide +kernel
theorem dX4_init_44 : decode cX4_init 44 = .ok (.putfield 29, 3) := by decide +kernel
theorem dX4_init_47 : decode cX4_init 47 = .ok (.aload_n 0, 1) := by decide +kernel
theorem dX4_init_48 : decode cX4_init 48 = .ok (.iconst 0, 1) := by decide +kernel
theorem dX4_init_49 : decode cX4_init 49 = .ok (.putfield 33, 3) := by decide +kernel
theorem dX4_init_52 : decode cX4_init 52 = .ok (.aload_n 0, 1) := by decide +kernel
theorem dX4_init_53 : decode cX4_init 53 = .ok (.iconst 0, 1) := by decide +kernel
theorem dX4_init_54 : decode cX4_init 54 = .ok (.putfield 36, 3) := by decide +kernel
theorem dX4_init_57 : decode cX4_init 57 = .ok (.aload_n 0, 1) := by decide +kernel
theorem dX4_init_58 : decode cX4_init 58 = .ok (.iconst 0, 1) := by decide +kernel
theorem dX4_init_59 : decode cX4_init 59 = .ok (.newarray .int, 2) := by decide +kernel
theorem dX4_init_61 : decode cX4_init 61 = .ok (.putfield 39, 3) := by decide +kernel
theorem dX4_init_64 : decode cX4_init 64 = .ok (.aload_n 0, 1) := by decide +kernel
theorem dX4_init_65 : decode cX4_init 65 = .ok (.iconst 0, 1) := by decide +kernel
theorem dX4_init_66 : decode cX4_init 66 = .ok (.newarray .int, 2) := by decide +kernel
theorem dX4_init_68 : decode cX4_init 68 = .ok (.putfield 42, 3) := by decide +kernel
theorem dX4_init_71 : decode cX4_init 71 = .ok (.aload_n 0, 1) := by decide +kernel
theorem dX4_init_72 : decode cX4_init 72 = .ok (.iconst 0, 1) := by decide +kernel
theorem dX4_init_73 : decode cX4_init 73 = .ok (.newarray .int, 2) := by decide +kernel
theorem dX4_init_75 : decode cX4_init 75 = .ok (.putfield 45, 3) := by decide +kernel
theorem dX4_init_78 : decode cX4_init 78 = .ok (.aload_n 0, 1) := by decide +kernel
theorem dX4_init_79 : decode cX4_init 79 = .ok (.iconst 0, 1) := by decide +kernel
theorem dX4_init_80 : decode cX4_init 80 = .ok (.newarray .int, 2) := by decide +kernel
theorem dX4_init_82 : decode cX4_init 82 = .ok (.putfield 48, 3) := by decide +kernel
theorem dX4_init_85 : decode cX4_init 85 = .ok (.aload_n 0, 1) := by decide +kernel
theorem dX4_init_86 : decode cX4_init 86 = .ok (.iconst 0, 1) := by decide +kernel
theorem dX4_init_87 : decode cX4_init 87 = .ok (.newarray .int, 2) := by decide +kernel
theorem dX4_init_89 : decode cX4_init 89 = .ok (.putfield 51, 3) := by decide +kernel
theorem dX4_init_92 : decode cX4_init 92 = .ok (.aload_n 0, 1) := by decide +kernel
theorem dX4_init_93 : decode cX4_init 93 = .ok (.iconst 0, 1) := by decide +kernel
theorem dX4_init_94 : decode cX4_init 94 = .ok (.newarray .int, 2) := by decide +kernel
theorem dX4_init_96 : decode cX4_init 96 = .ok (.putfield 54, 3) := by decide +kernel
theorem dX4_init_99 : decode cX4_init 99 = .ok (.aload_n 0, 1) := by decide +kernel
theorem dX4_init_100 : decode cX4_init 100 = .ok (.iconst 0, 1) := by decide +kernel
theorem dX4_init_101 : decode cX4_init 101 = .ok (.newarray .int, 2) := by decide +kernel
theorem dX4_init_103 : decode cX4_init 103 = .ok (.putfield 57, 3) := by decide +kernel
theorem dX4_init_106 : decode cX4_init 106 = .ok (.aload_n 0, 1) := by decide +kernel
theorem dX4_init_107 : decode cX4_init 107 = .ok (.iconst 0, 1) := by decide +kernel
theorem dX4_init_108 : decode cX4_init 108 = .ok (.newarray .int, 2) := by decide +kernel
theorem dX4_init_110 : decode cX4_init 110 = .ok (.putfield 60, 3) := by decide +kernel
theorem dX4_init_113 : decode cX4_init 113 = .ok (.return_, 1) := by decide +kernel
set_option maxRecDepth 100000 in
set_option maxHeartbeats 8000000 in
theorem c_X4_init (h0 : Nat)  : MK yX4_init cX4_init 1 1 12 13 241 [.ref h0] (fun _ => [(h0, .inr (4, [.null, .null, .null, .null, .null, .int 0, .int 0, .int 0, .null, .null, .null, .null, .null, .null, .null, .null]))]) (wq_X4_init h0 ) := by
  refine MK.of RX4 [(0, .ref h0)] (by decide) rfl rfl (Nat.le_of_ble_eq_true rfl) rfl ?_
  intro p l e R s m args below meth c dC dI cs A H locs ls hR1 hR2 hRc hRs F hP hD hS hl
  have hx := F.1.1
  have hb := F.1.2.1
  refine lv_aload_n (pc := 0) hx hb dX4_init_0 rfl (lv_at hl 0 rfl) ?_
  refine k_obj (pc := 1) F klo_X4 kio kco hl.1 (by omega) (by omega) dX4_init_1 ?_
  refine lv_aload_n (pc := 4) hx hb dX4_init_4 rfl (lv_at hl 0 rfl) ?_
  refine lv_bipush (pc := 5) (v := 10) hx hb dX4_init_5 (by decide) ?_
  refine k_newI (pc := 7) F hP hD hS 10 kx_arr (by decide) (by decide) (by decide) (by omega) (by omega) dX4_init_7 (fun q1 H hP hD hS => ?_)
  have hP : va_P (dC, dI) vwCl [(h0, .inr (4, [.null, .null, .null, .null, .null, .int 0, .int 0, .int 0, .null, .null, .null, .null, .null, .null, .null, .null])), (q1, .inl (cs 0, (10, .inl (fun _ => 0))))] H := hP
  have hD : va_D A [(h0, .inr (4, [.null, .null, .null, .null, .null, .int 0, .int 0, .int 0, .null, .null, .null, .null, .null, .null, .null, .null])), (q1, .inl (cs 0, (10, .inl (fun _ => 0))))] := hD
  refine k_putF (pc := 9) F hP hD hS 0 rfl vc_X4 vi_X4 tyX4_ok nmX4 0 (by decide) kf_X4_11 rfl rfl rfl rfl (Nat.le_of_ble_eq_true rfl) dX4_init_9 (fun H locs hP hD hS => ?_)
  have hP : va_P (dC, dI) vwCl [(h0, .inr (4, [.ref q1, .null, .null, .null, .null, .int 0, .int 0, .int 0, .null, .null, .null, .null, .null, .null, .null, .null])), (q1, .inl (cs 0, (10, .inl (fun _ => 0))))] H := hP
  have hD : va_D A [(h0, .inr (4, [.ref q1, .null, .null, .null, .null, .int 0, .int 0, .int 0, .null, .null, .null, .null, .null, .null, .null, .null])), (q1, .inl (cs 0, (10, .inl (fun _ => 0))))] := hD
  refine lv_aload_n (pc := 12) hx hb dX4_init_12 rfl (lv_at hl 0 rfl) ?_
  refine lv_iconst (pc := 13) (v := 5) hx hb dX4_init_13 (by decide) ?_
  refine k_newI (pc := 14) F hP hD hS 5 kx_arr (by decide) (by decide) (by decide) (by omega) (by omega) dX4_init_14 (fun q2 H hP hD hS => ?_)
  have hP : va_P (dC, dI) vwCl [(h0, .inr (4, [.ref q1, .null, .null, .null, .null, .int 0, .int 0, .int 0, .null, .null, .null, .null, .null, .null, .null, .null])), (q1, .inl (cs 0, (10, .inl (fun _ => 0)))), (q2, .inl (cs 0, (5, .inl (fun _ => 0))))] H := hP
  have hD : va_D A [(h0, .inr (4, [.ref q1, .null, .null, .null, .null, .int 0, .int 0, .int 0, .null, .null, .null, .null, .null, .null, .null, .null])), (q1, .inl (cs 0, (10, .inl (fun _ => 0)))), (q2, .inl (cs 0, (5, .inl (fun _ => 0))))] := hD
  refine k_putF (pc := 16) F hP hD hS 0 rfl vc_X4 vi_X4 tyX4_ok nmX4 1 (by decide) kf_X4_17 rfl rfl rfl rfl (Nat.le_of_ble_eq_true rfl) dX4_init_16 (fun H locs hP hD hS => ?_)
  have hP : va_P (dC, dI) vwCl [(h0, .inr (4, [.ref q1, .ref q2, .null, .null, .null, .int 0, .int 0, .int 0, .null, .null, .null, .null, .null, .null, .null, .null])), (q1, .inl (cs 0, (10, .inl (fun _ => 0)))), (q2, .inl (cs 0, (5, .inl (fun _ => 0))))] H := hP
  have hD : va_D A [(h0, .inr (4, [.ref q1, .ref q2, .null, .null, .null, .int 0, .int 0, .int 0, .null, .null, .null, .null, .null, .null, .null, .null])), (q1, .inl (cs 0, (10, .inl (fun _ => 0)))), (q2, .inl (cs 0, (5, .inl (fun _ => 0))))] := hD
  refine lv_aload_n (pc := 19) hx hb dX4_init_19 rfl (lv_at hl 0 rfl) ?_
  refine lv_iconst (pc := 20) (v := 5) hx hb dX4_init_20 (by decide) ?_
  refine k_newI (pc := 21) F hP hD hS 5 kx_arr (by decide) (by decide) (by decide) (by omega) (by omega) dX4_init_21 (fun q3 H hP hD hS => ?_)
  have hP : va_P (dC, dI) vwCl [(h0, .inr (4, [.ref q1, .ref q2, .null, .null, .null, .int 0, .int 0, .int 0, .null, .null, .null, .null, .null, .null, .null, .null])), (q1, .inl (cs 0, (10, .inl (fun _ => 0)))), (q2, .inl (cs 0, (5, .inl (fun _ => 0)))), (q3, .inl (cs 0, (5, .inl (fun _ => 0))))] H := hP
  have hD : va_D A [(h0, .inr (4, [.ref q1, .ref q2, .null, .null, .null, .int 0, .int 0, .int 0, .null, .null, .null, .null, .null, .null, .null, .null])), (q1, .inl (cs 0, (10, .inl (fun _ => 0)))), (q2, .inl (cs 0, (5, .inl (fun _ => 0)))), (q3, .inl (cs 0, (5, .inl (fun _ => 0))))] := hD
  refine k_putF (pc := 23) F hP hD hS 0 rfl vc_X4 vi_X4 tyX4_ok nmX4 2 (by decide) kf_X4_20 rfl rfl rfl rfl (Nat.le_of_ble_eq_true rfl) dX4_init_23 (fun H locs hP hD hS => ?_)
  have hP : va_P (dC, dI) vwCl [(h0, .inr (4, [.ref q1, .ref q2, .ref q3, .null, .null, .int 0, .int 0, .int 0, .null, .null, .null, .null, .null, .null, .null, .null])), (q1, .inl (cs 0, (10, .inl (fun _ => 0)))), (q2, .inl (cs 0, (5, .inl (fun _ => 0)))), (q3, .inl (cs 0, (5, .inl (fun _ => 0))))] H := hP
  have hD : va_D A [(h0, .inr (4, [.ref q1, .ref q2, .ref q3, .null, .null, .int 0, .int 0, .int 0, .null, .null, .null, .null, .null, .null, .null, .null])), (q1, .inl (cs 0, (10, .inl (fun _ => 0)))), (q2, .inl (cs 0, (5, .inl (fun _ => 0)))), (q3, .inl (cs 0, (5, .inl (fun _ => 0))))] := hD
  refine lv_aload_n (pc := 26) hx hb dX4_init_26 rfl (lv_at hl 0 rfl) ?_
  refine lv_iconst (pc := 27) (v := 5) hx hb dX4_init_27 (by decide) ?_
  refine k_newI (pc := 28) F hP hD hS 5 kx_arr (by decide) (by decide) (by decide) (by omega) (by omega) dX4_init_28 (fun q4 H hP hD hS => ?_)
  have hP : va_P (dC, dI) vwCl [(h0, .inr (4, [.ref q1, .ref q2, .ref q3, .null, .null, .int 0, .int 0, .int 0, .null, .null, .null, .null, .null, .null, .null, .null])), (q1, .inl (cs 0, (10, .inl (fun _ => 0)))), (q2, .inl (cs 0, (5, .inl (fun _ => 0)))), (q3, .inl (cs 0, (5, .inl (fun _ => 0)))), (q4, .inl (cs 0, (5, .inl (fun _ => 0))))] H := hP
  have hD : va_D A [(h0, .inr (4, [.ref q1, .ref q2, .ref q3, .null, .null, .int 0, .int 0, .int 0, .null, .null, .null, .null, .null, .null, .null, .null])), (q1, .inl (cs 0, (10, .inl (fun _ => 0)))), (q2, .inl (cs 0, (5, .inl (fun _ => 0)))), (q3, .inl (cs 0, (5, .inl (fun _ => 0)))), (q4, .inl (cs 0, (5, .inl (fun _ => 0))))] := hD
  refine k_putF (pc := 30) F hP hD hS 0 rfl vc_X4 vi_X4 tyX4_ok nmX4 3 (by decide) kf_X4_23 rfl rfl rfl rfl (Nat.le_of_ble_eq_true rfl) dX4_init_30 (fun H locs hP hD hS => ?_)
  have hP : va_P (dC, dI) vwCl [(h0, .inr (4, [.ref q1, .ref q2, .ref q3, .ref q4, .null, .int 0, .int 0, .int 0, .null, .null, .null, .null, .null, .null, .null, .null])), (q1, .inl (cs 0, (10, .inl (fun _ => 0)))), (q2, .inl (cs 0, (5, .inl (fun _ => 0)))), (q3, .inl (cs 0, (5, .inl (fun _ => 0)))), (q4, .inl (cs 0, (5, .inl (fun _ => 0))))] H := hP
  have hD : va_D A [(h0, .inr (4, [.ref q1, .ref q2, .ref q3, .ref q4, .null, .int 0, .int 0, .int 0, .null, .null, .null, .null, .null, .null, .null, .null])), (q1, .inl (cs 0, (10, .inl (fun _ => 0)))), (q2, .inl (cs 0, (5, .inl (fun _ => 0)))), (q3, .inl (cs 0, (5, .inl (fun _ => 0)))), (q4, .inl (cs 0, (5, .inl (fun _ => 0))))] := hD
  refine lv_aload_n (pc := 33) hx hb dX4_init_33 rfl (lv_at hl 0 rfl) ?_
  refine lv_sipush (pc := 34) (v := 216) hx hb dX4_init_34 (by decide) ?_
  refine k_newI (pc := 37) F hP hD hS 216 kx_arr (by decide) (by decide) (by decide) (by omega) (by omega) dX4_init_37 (fun q5 H hP hD hS => ?_)
  have hP : va_P (dC, dI) vwCl [(h0, .inr (4, [.ref q1, .ref q2, .ref q3, .ref q4, .null, .int 0, .int 0, .int 0, .null, .null, .null, .null, .null, .null, .null, .null])), (q1, .inl (cs 0, (10, .inl (fun _ => 0)))), (q2, .inl (cs 0, (5, .inl (fun _ => 0)))), (q3, .inl (cs 0, (5, .inl (fun _ => 0)))), (q4, .inl (cs 0, (5, .inl (fun _ => 0)))), (q5, .inl (cs 0, (216, .inl (fun _ => 0))))] H := hP
  have hD : va_D A [(h0, .inr (4, [.ref q1, .ref q2, .ref q3, .ref q4, .null, .int 0, .int 0, .int 0, .null, .null, .null, .null, .null, .null, .null, .null])), (q1, .inl (cs 0, (10, .inl (fun _ => 0)))), (q2, .inl (cs 0, (5, .inl (fun _ => 0)))), (q3, .inl (cs 0, (5, .inl (fun _ => 0)))), (q4, .inl (cs 0, (5, .inl (fun _ => 0)))), (q5, .inl (cs 0, (216, .inl (fun _ => 0))))] := hD
  refine k_putF (pc := 39) F hP hD hS 0 rfl vc_X4 vi_X4 tyX4_ok nmX4 4 (by decide) kf_X4_26 rfl rfl rfl rfl (Nat.le_of_ble_eq_true rfl) dX4_init_39 (fun H locs hP hD hS => ?_)
  have hP : va_P (dC, dI) vwCl [(h0, .inr (4, [.ref q1, .ref q2, .ref q3, .ref q4, .ref q5, .int 0, .int 0, .int 0, .null, .null, .null, .null, .null, .null, .null, .null])), (q1, .inl (cs 0, (10, .inl (fun _ => 0)))), (q2, .inl (cs 0, (5, .inl (fun _ => 0)))), (q3, .inl (cs 0, (5, .inl (fun _ => 0)))), (q4, .inl (cs 0, (5, .inl (fun _ => 0)))), (q5, .inl (cs 0, (216, .inl (fun _ => 0))))] H := hP
  have hD : va_D A [(h0, .inr (4, [.ref q1, .ref q2, .ref q3, .ref q4, .ref q5, .int 0, .int 0, .int 0, .null, .null, .null, .null, .null, .null, .null, .null])), (q1, .inl (cs 0, (10, .inl (fun _ => 0)))), (q2, .inl (cs 0, (5, .inl (fun _ => 0)))), (q3, .inl (cs 0, (5, .inl (fun _ => 0)))), (q4, .inl (cs 0, (5, .inl (fun _ => 0)))), (q5, .inl (cs 0, (216, .inl (fun _ => 0))))] := hD
  refine lv_aload_n (pc := 42) hx hb dX4_init_42 rfl (lv_at hl 0 rfl) ?_
  refine lv_iconst (pc := 43) (v := 0) hx hb dX4_init_43 (by decide) ?_
  refine k_put (pc := 44) F hP hD hS 0 rfl vc_X4 vi_X4 tyX4_ok nmX4 5 (by decide) kf_X4_29 rfl rfl rfl (Nat.le_of_ble_eq_true rfl) dX4_init_44 (fun H locs hP hD hS => ?_)
  have hP : va_P (dC, dI) vwCl [(h0, .inr (4, [.ref q1, .ref q2, .ref q3, .ref q4, .ref q5, .int (0 : Int32), .int 0, .int 0, .null, .null, .null, .null, .null, .null, .null, .null])), (q1, .inl (cs 0, (10, .inl (fun _ => 0)))), (q2, .inl (cs 0, (5, .inl (fun _ => 0)))), (q3, .inl (cs 0, (5, .inl (fun _ => 0)))), (q4, .inl (cs 0, (5, .inl (fun _ => 0)))), (q5, .inl (cs 0, (216, .inl (fun _ => 0))))] H := hP
  have hD : va_D A [(h0, .inr (4, [.ref q1, .ref q2, .ref q3, .ref q4, .ref q5, .int (0 : Int32), .int 0, .int 0, .null, .null, .null, .null, .null, .null, .null, .null])), (q1, .inl (cs 0, (10, .inl (fun _ => 0)))), (q2, .inl (cs 0, (5, .inl (fun _ => 0)))), (q3, .inl (cs 0, (5, .inl (fun _ => 0)))), (q4, .inl (cs 0, (5, .inl (fun _ => 0)))), (q5, .inl (cs 0, (216, .inl (fun _ => 0))))] := hD
  refine lv_aload_n (pc := 47) hx hb dX4_init_47 rfl (lv_at hl 0 rfl) ?_
  refine lv_iconst (pc := 48) (v := 0) hx hb dX4_init_48 (by decide) ?_
  refine k_put (pc := 49) F hP hD hS 0 rfl vc_X4 vi_X4 tyX4_ok nmX4 6 (by decide) kf_X4_33 rfl rfl rfl (Nat.le_of_ble_eq_true rfl) dX4_init_49 (fun H locs hP hD hS => ?_)
  have hP : va_P (dC, dI) vwCl [(h0, .inr (4, [.ref q1, .ref q2, .ref q3, .ref q4, .ref q5, .int (0 : Int32), .int (0 : Int32), .int 0, .null, .null, .null, .null, .null, .null, .null, .null])), (q1, .inl (cs 0, (10, .inl (fun _ => 0)))), (q2, .inl (cs 0, (5, .inl (fun _ => 0)))), (q3, .inl (cs 0, (5, .inl (fun _ => 0)))), (q4, .inl (cs 0, (5, .inl (fun _ => 0)))), (q5, .inl (cs 0, (216, .inl (fun _ => 0))))] H := hP
  have hD : va_D A [(h0, .inr (4, [.ref q1, .ref q2, .ref q3, .ref q4, .ref q5, .int (0 : Int32), .int (0 : Int32), .int 0, .null, .null, .null, .null, .null, .null, .null, .null])), (q1, .inl (cs 0, (10, .inl (fun _ => 0)))), (q2, .inl (cs 0, (5, .inl (fun _ => 0)))), (q3, .inl (cs 0, (5, .inl (fun _ => 0)))), (q4, .inl (cs 0, (5, .inl (fun _ => 0)))), (q5, .inl (cs 0, (216, .inl (fun _ => 0))))] := hD
  refine lv_aload_n (pc := 52) hx hb dX4_init_52 rfl (lv_at hl 0 rfl) ?_
  refine lv_iconst (pc := 53) (v := 0) hx hb dX4_init_53 (by decide) ?_
  refine k_put (pc := 54) F hP hD hS 0 rfl vc_X4 vi_X4 tyX4_ok nmX4 7 (by decide) kf_X4_36 rfl rfl rfl (Nat.le_of_ble_eq_true rfl) dX4_init_54 (fun H locs hP hD hS => ?_)
  have hP : va_P (dC, dI) vwCl [(h0, .inr (4, [.ref q1, .ref q2, .ref q3, .ref q4, .ref q5, .int (0 : Int32), .int (0 : Int32), .int (0 : Int32), .null, .null, .null, .null, .null, .null, .null, .null])), (q1, .inl (cs 0, (10, .inl (fun _ => 0)))), (q2, .inl (cs 0, (5, .inl (fun _ => 0)))), (q3, .inl (cs 0, (5, .inl (fun _ => 0)))), (q4, .inl (cs 0, (5, .inl (fun _ => 0)))), (q5, .inl (cs 0, (216, .inl (fun _ => 0))))] H := hP
  have hD : va_D A [(h0, .inr (4, [.ref q1, .ref q2, .ref q3, .ref q4, .ref q5, .int (0 : Int32), .int (0 : Int32), .int (0 : Int32), .null, .null, .null, .null, .null, .null, .null, .null])), (q1, .inl (cs 0, (10, .inl (fun _ => 0)))), (q2, .inl (cs 0, (5, .inl (fun _ => 0)))), (q3, .inl (cs 0, (5, .inl (fun _ => 0)))), (q4, .inl (cs 0, (5, .inl (fun _ => 0)))), (q5, .inl (cs 0, (216, .inl (fun _ => 0))))] := hD
  refine lv_aload_n (pc := 57) hx hb dX4_init_57 rfl (lv_at hl 0 rfl) ?_
  refine lv_iconst (pc := 58) (v := 0) hx hb dX4_init_58 (by decide) ?_
  refine k_newI (pc := 59) F hP hD hS 0 kx_arr (by decide) (by decide) (by decide) (by omega) (by omega) dX4_init_59 (fun q6 H hP hD hS => ?_)
  have hP : va_P (dC, dI) vwCl [(h0, .inr (4, [.ref q1, .ref q2, .ref q3, .ref q4, .ref q5, .int (0 : Int32), .int (0 : Int32), .int (0 : Int32), .null, .null, .null, .null, .null, .null, .null, .null])), (q1, .inl (cs 0, (10, .inl (fun _ => 0)))), (q2, .inl (cs 0, (5, .inl (fun _ => 0)))), (q3, .inl (cs 0, (5, .inl (fun _ => 0)))), (q4, .inl (cs 0, (5, .inl (fun _ => 0)))), (q5, .inl (cs 0, (216, .inl (fun _ => 0)))), (q6, .inl (cs 0, (0, .inl (fun _ => 0))))] H := hP
  have hD : va_D A [(h0, .inr (4, [.ref q1, .ref q2, .ref q3, .ref q4, .ref q5, .int (0 : Int32), .int (0 : Int32), .int (0 : Int32), .null, .null, .null, .null, .null, .null, .null, .null])), (q1, .inl (cs 0, (10, .inl (fun _ => 0)))), (q2, .inl (cs 0, (5, .inl (fun _ => 0)))), (q3, .inl (cs 0, (5, .inl (fun _ => 0)))), (q4, .inl (cs 0, (5, .inl (fun _ => 0)))), (q5, .inl (cs 0, (216, .inl (fun _ => 0)))), (q6, .inl (cs 0, (0, .inl (fun _ => 0))))] := hD
  refine k_put (pc := 61) F hP hD hS 0 rfl vc_X4 vi_X4 tyX4_ok nmX4 8 (by decide) kf_X4_39 rfl rfl rfl (Nat.le_of_ble_eq_true rfl) dX4_init_61 (fun H locs hP hD hS => ?_)
  have hP : va_P (dC, dI) vwCl [(h0, .inr (4, [.ref q1, .ref q2, .ref q3, .ref q4, .ref q5, .int (0 : Int32), .int (0 : Int32), .int (0 : Int32), .ref q6, .null, .null, .null, .null, .null, .null, .null])), (q1, .inl (cs 0, (10, .inl (fun _ => 0)))), (q2, .inl (cs 0, (5, .inl (fun _ => 0)))), (q3, .inl (cs 0, (5, .inl (fun _ => 0)))), (q4, .inl (cs 0, (5, .inl (fun _ => 0)))), (q5, .inl (cs 0, (216, .inl (fun _ => 0)))), (q6, .inl (cs 0, (0, .inl (fun _ => 0))))] H := hP
  have hD : va_D A [(h0, .inr (4, [.ref q1, .ref q2, .ref q3, .ref q4, .ref q5, .int (0 : Int32), .int (0 : Int32), .int (0 : Int32), .ref q6, .null, .null, .null, .null, .null, .null, .null])), (q1, .inl (cs 0, (10, .inl (fun _ => 0)))), (q2, .inl (cs 0, (5, .inl (fun _ => 0)))), (q3, .inl (cs 0, (5, .inl (fun _ => 0)))), (q4, .inl (cs 0, (5, .inl (fun _ => 0)))), (q5, .inl (cs 0, (216, .inl (fun _ => 0)))), (q6, .inl (cs 0, (0, .inl (fun _ => 0))))] := hD
  refine lv_aload_n (pc := 64) hx hb dX4_init_64 rfl (lv_at hl 0 rfl) ?_
  refine lv_iconst (pc := 65) (v := 0) hx hb dX4_init_65 (by decide) ?_
  refine k_newI (pc := 66) F hP hD hS 0 kx_arr (by decide) (by decide) (by decide) (by omega) (by omega) dX4_init_66 (fun q7 H hP hD hS => ?_)
  have hP : va_P (dC, dI) vwCl [(h0, .inr (4, [.ref q1, .ref q2, .ref q3, .ref q4, .ref q5, .int (0 : Int32), .int (0 : Int32), .int (0 : Int32), .ref q6, .null, .null, .null, .null, .null, .null, .null])), (q1, .inl (cs 0, (10, .inl (fun _ => 0)))), (q2, .inl (cs 0, (5, .inl (fun _ => 0)))), (q3, .inl (cs 0, (5, .inl (fun _ => 0)))), (q4, .inl (cs 0, (5, .inl (fun _ => 0)))), (q5, .inl (cs 0, (216, .inl (fun _ => 0)))), (q6, .inl (cs 0, (0, .inl (fun _ => 0)))), (q7, .inl (cs 0, (0, .inl (fun _ => 0))))] H := hP
  have hD : va_D A [(h0, .inr (4, [.ref q1, .ref q2, .ref q3, .ref q4, .ref q5, .int (0 : Int32), .int (0 : Int32), .int (0 : Int32), .ref q6, .null, .null, .null, .null, .null, .null, .null])), (q1, .inl (cs 0, (10, .inl (fun _ => 0)))), (q2, .inl (cs 0, (5, .inl (fun _ => 0)))), (q3, .inl (cs 0, (5, .inl (fun _ => 0)))), (q4, .inl (cs 0, (5, .inl (fun _ => 0)))), (q5, .inl (cs 0, (216, .inl (fun _ => 0)))), (q6, .inl (cs 0, (0, .inl (fun _ => 0)))), (q7, .inl (cs 0, (0, .inl (fun _ => 0))))] := hD
  refine k_put (pc := 68) F hP hD hS 0 rfl vc_X4 vi_X4 tyX4_ok nmX4 9 (by decide) kf_X4_42 rfl rfl rfl (Nat.le_of_ble_eq_true rfl) dX4_init_68 (fun H locs hP hD hS => ?_)
  have hP : va_P (dC, dI) vwCl [(h0, .inr (4, [.ref q1, .ref q2, .ref q3, .ref q4, .ref q5, .int (0 : Int32), .int (0 : Int32), .int (0 : Int32), .ref q6, .ref q7, .null, .null, .null, .null, .null, .null])), (q1, .inl (cs 0, (10, .inl (fun _ => 0)))), (q2, .inl (cs 0, (5, .inl (fun _ => 0)))), (q3, .inl (cs 0, (5, .inl (fun _ => 0)))), (q4, .inl (cs 0, (5, .inl (fun _ => 0)))), (q5, .inl (cs 0, (216, .inl (fun _ => 0)))), (q6, .inl (cs 0, (0, .inl (fun _ => 0)))), (q7, .inl (cs 0, (0, .inl (fun _ => 0))))] H := hP
  have hD : va_D A [(h0, .inr (4, [.ref q1, .ref q2, .ref q3, .ref q4, .ref q5, .int (0 : Int32), .int (0 : Int32), .int (0 : Int32), .ref q6, .ref q7, .null, .null, .null, .null, .null, .null])), (q1, .inl (cs 0, (10, .inl (fun _ => 0)))), (q2, .inl (cs 0, (5, .inl (fun _ => 0)))), (q3, .inl (cs 0, (5, .inl (fun _ => 0)))), (q4, .inl (cs 0, (5, .inl (fun _ => 0)))), (q5, .inl (cs 0, (216, .inl (fun _ => 0)))), (q6, .inl (cs 0, (0, .inl (fun _ => 0)))), (q7, .inl (cs 0, (0, .inl (fun _ => 0))))] := hD
  refine lv_aload_n (pc := 71) hx hb dX4_init_71 rfl (lv_at hl 0 rfl) ?_
  refine lv_iconst (pc := 72) (v := 0) hx hb dX4_init_72 (by decide) ?_
  refine k_newI (pc := 73) F hP hD hS 0 kx_arr (by decide) (by decide) (by decide) (by omega) (by omega) dX4_init_73 (fun q8 H hP hD hS => ?_)
  have hP : va_P (dC, dI) vwCl [(h0, .inr (4, [.ref q1, .ref q2, .ref q3, .ref q4, .ref q5, .int (0 : Int32), .int (0 : Int32), .int (0 : Int32), .ref q6, .ref q7, .null, .null, .null, .null, .null, .null])), (q1, .inl (cs 0, (10, .inl (fun _ => 0)))), (q2, .inl (cs 0, (5, .inl (fun _ => 0)))), (q3, .inl (cs 0, (5, .inl (fun _ => 0)))), (q4, .inl (cs 0, (5, .inl (fun _ => 0)))), (q5, .inl (cs 0, (216, .inl (fun _ => 0)))), (q6, .inl (cs 0, (0, .inl (fun _ => 0)))), (q7, .inl (cs 0, (0, .inl (fun _ => 0)))), (q8, .inl (cs 0, (0, .inl (fun _ => 0))))] H := hP
  have hD : va_D A [(h0, .inr (4, [.ref q1, .ref q2, .ref q3, .ref q4, .ref q5, .int (0 : Int32), .int (0 : Int32), .int (0 : Int32), .ref q6, .ref q7, .null, .null, .null, .null, .null, .null])), (q1, .inl (cs 0, (10, .inl (fun _ => 0)))), (q2, .inl (cs 0, (5, .inl (fun _ => 0)))), (q3, .inl (cs 0, (5, .inl (fun _ => 0)))), (q4, .inl (cs 0, (5, .inl (fun _ => 0)))), (q5, .inl (cs 0, (216, .inl (fun _ => 0)))), (q6, .inl (cs 0, (0, .inl (fun _ => 0)))), (q7, .inl (cs 0, (0, .inl (fun _ => 0)))), (q8, .inl (cs 0, (0, .inl (fun _ => 0))))] := hD
  refine k_put (pc := 75) F hP hD hS 0 rfl vc_X4 vi_X4 tyX4_ok nmX4 10 (by decide) kf_X4_45 rfl rfl rfl (Nat.le_of_ble_eq_true rfl) dX4_init_75 (fun H locs hP hD hS => ?_)
  have hP : va_P (dC, dI) vwCl [(h0, .inr (4, [.ref q1, .ref q2, .ref q3, .ref q4, .ref q5, .int (0 : Int32), .int (0 : Int32), .int (0 : Int32), .ref q6, .ref q7, .ref q8, .null, .null, .null, .null, .null])), (q1, .inl (cs 0, (10, .inl (fun _ => 0)))), (q2, .inl (cs 0, (5, .inl (fun _ => 0)))), (q3, .inl (cs 0, (5, .inl (fun _ => 0)))), (q4, .inl (cs 0, (5, .inl (fun _ => 0)))), (q5, .inl (cs 0, (216, .inl (fun _ => 0)))), (q6, .inl (cs 0, (0, .inl (fun _ => 0)))), (q7, .inl (cs 0, (0, .inl (fun _ => 0)))), (q8, .inl (cs 0, (0, .inl (fun _ => 0))))] H := hP
  have hD : va_D A [(h0, .inr (4, [.ref q1, .ref q2, .ref q3, .ref q4, .ref q5, .int (0 : Int32), .int (0 : Int32), .int (0 : Int32), .ref q6, .ref q7, .ref q8, .null, .null, .null, .null, .null])), (q1, .inl (cs 0, (10, .inl (fun _ => 0)))), (q2, .inl (cs 0, (5, .inl (fun _ => 0)))), (q3, .inl (cs 0, (5, .inl (fun _ => 0)))), (q4, .inl (cs 0, (5, .inl (fun _ => 0)))), (q5, .inl (cs 0, (216, .inl (fun _ => 0)))), (q6, .inl (cs 0, (0, .inl (fun _ => 0)))), (q7, .inl (cs 0, (0, .inl (fun _ => 0)))), (q8, .inl (cs 0, (0, .inl (fun _ => 0))))] := hD
  refine lv_aload_n (pc := 78) hx hb dX4_init_78 rfl (lv_at hl 0 rfl) ?_
  refine lv_iconst (pc := 79) (v := 0) hx hb dX4_init_79 (by decide) ?_
  refine k_newI (pc := 80) F hP hD hS 0 kx_arr (by decide) (by decide) (by decide) (by omega) (by omega) dX4_init_80 (fun q9 H hP hD hS => ?_)
  have hP : va_P (dC, dI) vwCl [(h0, .inr (4, [.ref q1, .ref q2, .ref q3, .ref q4, .ref q5, .int (0 : Int32), .int (0 : Int32), .int (0 : Int32), .ref q6, .ref q7, .ref q8, .null, .null, .null, .null, .null])), (q1, .inl (cs 0, (10, .inl (fun _ => 0)))), (q2, .inl (cs 0, (5, .inl (fun _ => 0)))), (q3, .inl (cs 0, (5, .inl (fun _ => 0)))), (q4, .inl (cs 0, (5, .inl (fun _ => 0)))), (q5, .inl (cs 0, (216, .inl (fun _ => 0)))), (q6, .inl (cs 0, (0, .inl (fun _ => 0)))), (q7, .inl (cs 0, (0, .inl (fun _ => 0)))), (q8, .inl (cs 0, (0, .inl (fun _ => 0)))), (q9, .inl (cs 0, (0, .inl (fun _ => 0))))] H := hP
  have hD : va_D A [(h0, .inr (4, [.ref q1, .ref q2, .ref q3, .ref q4, .ref q5, .int (0 : Int32), .int (0 : Int32), .int (0 : Int32), .ref q6, .ref q7, .ref q8, .null, .null, .null, .null, .null])), (q1, .inl (cs 0, (10, .inl (fun _ => 0)))), (q2, .inl (cs 0, (5, .inl (fun _ => 0)))), (q3, .inl (cs 0, (5, .inl (fun _ => 0)))), (q4, .inl (cs 0, (5, .inl (fun _ => 0)))), (q5, .inl (cs 0, (216, .inl (fun _ => 0)))), (q6, .inl (cs 0, (0, .inl (fun _ => 0)))), (q7, .inl (cs 0, (0, .inl (fun _ => 0)))), (q8, .inl (cs 0, (0, .inl (fun _ => 0)))), (q9, .inl (cs 0, (0, .inl (fun _ => 0))))] := hD
  refine k_put (pc := 82) F hP hD hS 0 rfl vc_X4 vi_X4 tyX4_ok nmX4 11 (by decide) kf_X4_48 rfl rfl rfl (Nat.le_of_ble_eq_true rfl) dX4_init_82 (fun H locs hP hD hS => ?_)
  have hP : va_P (dC, dI) vwCl [(h0, .inr (4, [.ref q1, .ref q2, .ref q3, .ref q4, .ref q5, .int (0 : Int32), .int (0 : Int32), .int (0 : Int32), .ref q6, .ref q7, .ref q8, .ref q9, .null, .null, .null, .null])), (q1, .inl (cs 0, (10, .inl (fun _ => 0)))), (q2, .inl (cs 0, (5, .inl (fun _ => 0)))), (q3, .inl (cs 0, (5, .inl (fun _ => 0)))), (q4, .inl (cs 0, (5, .inl (fun _ => 0)))), (q5, .inl (cs 0, (216, .inl (fun _ => 0)))), (q6, .inl (cs 0, (0, .inl (fun _ => 0)))), (q7, .inl (cs 0, (0, .inl (fun _ => 0)))), (q8, .inl (cs 0, (0, .inl (fun _ => 0)))), (q9, .inl (cs 0, (0, .inl (fun _ => 0))))] H := hP
  have hD : va_D A [(h0, .inr (4, [.ref q1, .ref q2, .ref q3, .ref q4, .ref q5, .int (0 : Int32), .int (0 : Int32), .int (0 : Int32), .ref q6, .ref q7, .ref q8, .ref q9, .null, .null, .null, .null])), (q1, .inl (cs 0, (10, .inl (fun _ => 0)))), (q2, .inl (cs 0, (5, .inl (fun _ => 0)))), (q3, .inl (cs 0, (5, .inl (fun _ => 0)))), (q4, .inl (cs 0, (5, .inl (fun _ => 0)))), (q5, .inl (cs 0, (216, .inl (fun _ => 0)))), (q6, .inl (cs 0, (0, .inl (fun _ => 0)))), (q7, .inl (cs 0, (0, .inl (fun _ => 0)))), (q8, .inl (cs 0, (0, .inl (fun _ => 0)))), (q9, .inl (cs 0, (0, .inl (fun _ => 0))))] := hD
  refine lv_aload_n (pc := 85) hx hb dX4_init_85 rfl (lv_at hl 0 rfl) ?_
  refine lv_iconst (pc := 86) (v := 0) hx hb dX4_init_86 (by decide) ?_
  refine k_newI (pc := 87) F hP hD hS 0 kx_arr (by decide) (by decide) (by decide) (by omega) (by omega) dX4_init_87 (fun q10 H hP hD hS => ?_)
  have hP : va_P (dC, dI) vwCl [(h0, .inr (4, [.ref q1, .ref q2, .ref q3, .ref q4, .ref q5, .int (0 : Int32), .int (0 : Int32), .int (0 : Int32), .ref q6, .ref q7, .ref q8, .ref q9, .null, .null, .null, .null])), (q1, .inl (cs 0, (10, .inl (fun _ => 0)))), (q2, .inl (cs 0, (5, .inl (fun _ => 0)))), (q3, .inl (cs 0, (5, .inl (fun _ => 0)))), (q4, .inl (cs 0, (5, .inl (fun _ => 0)))), (q5, .inl (cs 0, (216, .inl (fun _ => 0)))), (q6, .inl (cs 0, (0, .inl (fun _ => 0)))), (q7, .inl (cs 0, (0, .inl (fun _ => 0)))), (q8, .inl (cs 0, (0, .inl (fun _ => 0)))), (q9, .inl (cs 0, (0, .inl (fun _ => 0)))), (q10, .inl (cs 0, (0, .inl (fun _ => 0))))] H := hP
  have hD : va_D A [(h0, .inr (4, [.ref q1, .ref q2, .ref q3, .ref q4, .ref q5, .int (0 : Int32), .int (0 : Int32), .int (0 : Int32), .ref q6, .ref q7, .ref q8, .ref q9, .null, .null, .null, .null])), (q1, .inl (cs 0, (10, .inl (fun _ => 0)))), (q2, .inl (cs 0, (5, .inl (fun _ => 0)))), (q3, .inl (cs 0, (5, .inl (fun _ => 0)))), (q4, .inl (cs 0, (5, .inl (fun _ => 0)))), (q5, .inl (cs 0, (216, .inl (fun _ => 0)))), (q6, .inl (cs 0, (0, .inl (fun _ => 0)))), (q7, .inl (cs 0, (0, .inl (fun _ => 0)))), (q8, .inl (cs 0, (0, .inl (fun _ => 0)))), (q9, .inl (cs 0, (0, .inl (fun _ => 0)))), (q10, .inl (cs 0, (0, .inl (fun _ => 0))))] := hD
  refine k_put (pc := 89) F hP hD hS 0 rfl vc_X4 vi_X4 tyX4_ok nmX4 12 (by decide) kf_X4_51 rfl rfl rfl (Nat.le_of_ble_eq_true rfl) dX4_init_89 (fun H locs hP hD hS => ?_)
  have hP : va_P (dC, dI) vwCl [(h0, .inr (4, [.ref q1, .ref q2, .ref q3, .ref q4, .ref q5, .int (0 : Int32), .int (0 : Int32), .int (0 : Int32), .ref q6, .ref q7, .ref q8, .ref q9, .ref q10, .null, .null, .null])), (q1, .inl (cs 0, (10, .inl (fun _ => 0)))), (q2, .inl (cs 0, (5, .inl (fun _ => 0)))), (q3, .inl (cs 0, (5, .inl (fun _ => 0)))), (q4, .inl (cs 0, (5, .inl (fun _ => 0)))), (q5, .inl (cs 0, (216, .inl (fun _ => 0)))), (q6, .inl (cs 0, (0, .inl (fun _ => 0)))), (q7, .inl (cs 0, (0, .inl (fun _ => 0)))), (q8, .inl (cs 0, (0, .inl (fun _ => 0)))), (q9, .inl (cs 0, (0, .inl (fun _ => 0)))), (q10, .inl (cs 0, (0, .inl (fun _ => 0))))] H := hP
  have hD : va_D A [(h0, .inr (4, [.ref q1, .ref q2, .ref q3, .ref q4, .ref q5, .int (0 : Int32), .int (0 : Int32), .int (0 : Int32), .ref q6, .ref q7, .ref q8, .ref q9, .ref q10, .null, .null, .null])), (q1, .inl (cs 0, (10, .inl (fun _ => 0)))), (q2, .inl (cs 0, (5, .inl (fun _ => 0)))), (q3, .inl (cs 0, (5, .inl (fun _ => 0)))), (q4, .inl (cs 0, (5, .inl (fun _ => 0)))), (q5, .inl (cs 0, (216, .inl (fun _ => 0)))), (q6, .inl (cs 0, (0, .inl (fun _ => 0)))), (q7, .inl (cs 0, (0, .inl (fun _ => 0)))), (q8, .inl (cs 0, (0, .inl (fun _ => 0)))), (q9, .inl (cs 0, (0, .inl (fun _ => 0)))), (q10, .inl (cs 0, (0, .inl (fun _ => 0))))] := hD
  refine lv_aload_n (pc := 92) hx hb dX4_init_92 rfl (lv_at hl 0 rfl) ?_
  refine lv_iconst (pc := 93) (v := 0) hx hb dX4_init_93 (by decide) ?_
  refine k_newI (pc := 94) F hP hD hS 0 kx_arr (by decide) (by decide) (by decide) (by omega) (by omega) dX4_init_94 (fun q11 H hP hD hS => ?_)
  have hP : va_P (dC, dI) vwCl [(h0, .inr (4, [.ref q1, .ref q2, .ref q3, .ref q4, .ref q5, .int (0 : Int32), .int (0 : Int32), .int (0 : Int32), .ref q6, .ref q7, .ref q8, .ref q9, .ref q10, .null, .null, .null])), (q1, .inl (cs 0, (10, .inl (fun _ => 0)))), (q2, .inl (cs 0, (5, .inl (fun _ => 0)))), (q3, .inl (cs 0, (5, .inl (fun _ => 0)))), (q4, .inl (cs 0, (5, .inl (fun _ => 0)))), (q5, .inl (cs 0, (216, .inl (fun _ => 0)))), (q6, .inl (cs 0, (0, .inl (fun _ => 0)))), (q7, .inl (cs 0, (0, .inl (fun _ => 0)))), (q8, .inl (cs 0, (0, .inl (fun _ => 0)))), (q9, .inl (cs 0, (0, .inl (fun _ => 0)))), (q10, .inl (cs 0, (0, .inl (fun _ => 0)))), (q11, .inl (cs 0, (0, .inl (fun _ => 0))))] H := hP
  have hD : va_D A [(h0, .inr (4, [.ref q1, .ref q2, .ref q3, .ref q4, .ref q5, .int (0 : Int32), .int (0 : Int32), .int (0 : Int32), .ref q6, .ref q7, .ref q8, .ref q9, .ref q10, .null, .null, .null])), (q1, .inl (cs 0, (10, .inl (fun _ => 0)))), (q2, .inl (cs 0, (5, .inl (fun _ => 0)))), (q3, .inl (cs 0, (5, .inl (fun _ => 0)))), (q4, .inl (cs 0, (5, .inl (fun _ => 0)))), (q5, .inl (cs 0, (216, .inl (fun _ => 0)))), (q6, .inl (cs 0, (0, .inl (fun _ => 0)))), (q7, .inl (cs 0, (0, .inl (fun _ => 0)))), (q8, .inl (cs 0, (0, .inl (fun _ => 0)))), (q9, .inl (cs 0, (0, .inl (fun _ => 0)))), (q10, .inl (cs 0, (0, .inl (fun _ => 0)))), (q11, .inl (cs 0, (0, .inl (fun _ => 0))))] := hD
  refine k_put (pc := 96) F hP hD hS 0 rfl vc_X4 vi_X4 tyX4_ok nmX4 13 (by decide) kf_X4_54 rfl rfl rfl (Nat.le_of_ble_eq_true rfl) dX4_init_96 (fun H locs hP hD hS => ?_)
  have hP : va_P (dC, dI) vwCl [(h0, .inr (4, [.ref q1, .ref q2, .ref q3, .ref q4, .ref q5, .int (0 : Int32), .int (0 : Int32), .int (0 : Int32), .ref q6, .ref q7, .ref q8, .ref q9, .ref q10, .ref q11, .null, .null])), (q1, .inl (cs 0, (10, .inl (fun _ => 0)))), (q2, .inl (cs 0, (5, .inl (fun _ => 0)))), (q3, .inl (cs 0, (5, .inl (fun _ => 0)))), (q4, .inl (cs 0, (5, .inl (fun _ => 0)))), (q5, .inl (cs 0, (216, .inl (fun _ => 0)))), (q6, .inl (cs 0, (0, .inl (fun _ => 0)))), (q7, .inl (cs 0, (0, .inl (fun _ => 0)))), (q8, .inl (cs 0, (0, .inl (fun _ => 0)))), (q9, .inl (cs 0, (0, .inl (fun _ => 0)))), (q10, .inl (cs 0, (0, .inl (fun _ => 0)))), (q11, .inl (cs 0, (0, .inl (fun _ => 0))))] H := hP
  have hD : va_D A [(h0, .inr (4, [.ref q1, .ref q2, .ref q3, .ref q4, .ref q5, .int (0 : Int32), .int (0 : Int32), .int (0 : Int32), .ref q6, .ref q7, .ref q8, .ref q9, .ref q10, .ref q11, .null, .null])), (q1, .inl (cs 0, (10, .inl (fun _ => 0)))), (q2, .inl (cs 0, (5, .inl (fun _ => 0)))), (q3, .inl (cs 0, (5, .inl (fun _ => 0)))), (q4, .inl (cs 0, (5, .inl (fun _ => 0)))), (q5, .inl (cs 0, (216, .inl (fun _ => 0)))), (q6, .inl (cs 0, (0, .inl (fun _ => 0)))), (q7, .inl (cs 0, (0, .inl (fun _ => 0)))), (q8, .inl (cs 0, (0, .inl (fun _ => 0)))), (q9, .inl (cs 0, (0, .inl (fun _ => 0)))), (q10, .inl (cs 0, (0, .inl (fun _ => 0)))), (q11, .inl (cs 0, (0, .inl (fun _ => 0))))] := hD
  refine lv_aload_n (pc := 99) hx hb dX4_init_99 rfl (lv_at hl 0 rfl) ?_
  refine lv_iconst (pc := 100) (v := 0) hx hb dX4_init_100 (by decide) ?_
  refine k_newI (pc := 101) F hP hD hS 0 kx_arr (by decide) (by decide) (by decide) (by omega) (by omega) dX4_init_101 (fun q12 H hP hD hS => ?_)
  have hP : va_P (dC, dI) vwCl [(h0, .inr (4, [.ref q1, .ref q2, .ref q3, .ref q4, .ref q5, .int (0 : Int32), .int (0 : Int32), .int (0 : Int32), .ref q6, .ref q7, .ref q8, .ref q9, .ref q10, .ref q11, .null, .null])), (q1, .inl (cs 0, (10, .inl (fun _ => 0)))), (q2, .inl (cs 0, (5, .inl (fun _ => 0)))), (q3, .inl (cs 0, (5, .inl (fun _ => 0)))), (q4, .inl (cs 0, (5, .inl (fun _ => 0)))), (q5, .inl (cs 0, (216, .inl (fun _ => 0)))), (q6, .inl (cs 0, (0, .inl (fun _ => 0)))), (q7, .inl (cs 0, (0, .inl (fun _ => 0)))), (q8, .inl (cs 0, (0, .inl (fun _ => 0)))), (q9, .inl (cs 0, (0, .inl (fun _ => 0)))), (q10, .inl (cs 0, (0, .inl (fun _ => 0)))), (q11, .inl (cs 0, (0, .inl (fun _ => 0)))), (q12, .inl (cs 0, (0, .inl (fun _ => 0))))] H := hP
  have hD : va_D A [(h0, .inr (4, [.ref q1, .ref q2, .ref q3, .ref q4, .ref q5, .int (0 : Int32), .int (0 : Int32), .int (0 : Int32), .ref q6, .ref q7, .ref q8, .ref q9, .ref q10, .ref q11, .null, .null])), (q1, .inl (cs 0, (10, .inl (fun _ => 0)))), (q2, .inl (cs 0, (5, .inl (fun _ => 0)))), (q3, .inl (cs 0, (5, .inl (fun _ => 0)))), (q4, .inl (cs 0, (5, .inl (fun _ => 0)))), (q5, .inl (cs 0, (216, .inl (fun _ => 0)))), (q6, .inl (cs 0, (0, .inl (fun _ => 0)))), (q7, .inl (cs 0, (0, .inl (fun _ => 0)))), (q8, .inl (cs 0, (0, .inl (fun _ => 0)))), (q9, .inl (cs 0, (0, .inl (fun _ => 0)))), (q10, .inl (cs 0, (0, .inl (fun _ => 0)))), (q11, .inl (cs 0, (0, .inl (fun _ => 0)))), (q12, .inl (cs 0, (0, .inl (fun _ => 0))))] := hD
  refine k_put (pc := 103) F hP hD hS 0 rfl vc_X4 vi_X4 tyX4_ok nmX4 14 (by decide) kf_X4_57 rfl rfl rfl (Nat.le_of_ble_eq_true rfl) dX4_init_103 (fun H locs hP hD hS => ?_)
  have hP : va_P (dC, dI) vwCl [(h0, .inr (4, [.ref q1, .ref q2, .ref q3, .ref q4, .ref q5, .int (0 : Int32), .int (0 : Int32), .int (0 : Int32), .ref q6, .ref q7, .ref q8, .ref q9, .ref q10, .ref q11, .ref q12, .null])), (q1, .inl (cs 0, (10, .inl (fun _ => 0)))), (q2, .inl (cs 0, (5, .inl (fun _ => 0)))), (q3, .inl (cs 0, (5, .inl (fun _ => 0)))), (q4, .inl (cs 0, (5, .inl (fun _ => 0)))), (q5, .inl (cs 0, (216, .inl (fun _ => 0)))), (q6, .inl (cs 0, (0, .inl (fun _ => 0)))), (q7, .inl (cs 0, (0, .inl (fun _ => 0)))), (q8, .inl (cs 0, (0, .inl (fun _ => 0)))), (q9, .inl (cs 0, (0, .inl (fun _ => 0)))), (q10, .inl (cs 0, (0, .inl (fun _ => 0)))), (q11, .inl (cs 0, (0, .inl (fun _ => 0)))), (q12, .inl (cs 0, (0, .inl (fun _ => 0))))] H := hP
  have hD : va_D A [(h0, .inr (4, [.ref q1, .ref q2, .ref q3, .ref q4, .ref q5, .int (0 : Int32), .int (0 : Int32), .int (0 : Int32), .ref q6, .ref q7, .ref q8, .ref q9, .ref q10, .ref q11, .ref q12, .null])), (q1, .inl (cs 0, (10, .inl (fun _ => 0)))), (q2, .inl (cs 0, (5, .inl (fun _ => 0)))), (q3, .inl (cs 0, (5, .inl (fun _ => 0)))), (q4, .inl (cs 0, (5, .inl (fun _ => 0)))), (q5, .inl (cs 0, (216, .inl (fun _ => 0)))), (q6, .inl (cs 0, (0, .inl (fun _ => 0)))), (q7, .inl (cs 0, (0, .inl (fun _ => 0)))), (q8, .inl (cs 0, (0, .inl (fun _ => 0)))), (q9, .inl (cs 0, (0, .inl (fun _ => 0)))), (q10, .inl (cs 0, (0, .inl (fun _ => 0)))), (q11, .inl (cs 0, (0, .inl (fun _ => 0)))), (q12, .inl (cs 0, (0, .inl (fun _ => 0))))] := hD
  refine lv_aload_n (pc := 106) hx hb dX4_init_106 rfl (lv_at hl 0 rfl) ?_
  refine lv_iconst (pc := 107) (v := 0) hx hb dX4_init_107 (by decide) ?_
  refine k_newI (pc := 108) F hP hD hS 0 kx_arr (by decide) (by decide) (by decide) (by omega) (by omega) dX4_init_108 (fun q13 H hP hD hS => ?_)
  have hP : va_P (dC, dI) vwCl [(h0, .inr (4, [.ref q1, .ref q2, .ref q3, .ref q4, .ref q5, .int (0 : Int32), .int (0 : Int32), .int (0 : Int32), .ref q6, .ref q7, .ref q8, .ref q9, .ref q10, .ref q11, .ref q12, .null])), (q1, .inl (cs 0, (10, .inl (fun _ => 0)))), (q2, .inl (cs 0, (5, .inl (fun _ => 0)))), (q3, .inl (cs 0, (5, .inl (fun _ => 0)))), (q4, .inl (cs 0, (5, .inl (fun _ => 0)))), (q5, .inl (cs 0, (216, .inl (fun _ => 0)))), (q6, .inl (cs 0, (0, .inl (fun _ => 0)))), (q7, .inl (cs 0, (0, .inl (fun _ => 0)))), (q8, .inl (cs 0, (0, .inl (fun _ => 0)))), (q9, .inl (cs 0, (0, .inl (fun _ => 0)))), (q10, .inl (cs 0, (0, .inl (fun _ => 0)))), (q11, .inl (cs 0, (0, .inl (fun _ => 0)))), (q12, .inl (cs 0, (0, .inl (fun _ => 0)))), (q13, .inl (cs 0, (0, .inl (fun _ => 0))))] H := hP
  have hD : va_D A [(h0, .inr (4, [.ref q1, .ref q2, .ref q3, .ref q4, .ref q5, .int (0 : Int32), .int (0 : Int32), .int (0 : Int32), .ref q6, .ref q7, .ref q8, .ref q9, .ref q10, .ref q11, .ref q12, .null])), (q1, .inl (cs 0, (10, .inl (fun _ => 0)))), (q2, .inl (cs 0, (5, .inl (fun _ => 0)))), (q3, .inl (cs 0, (5, .inl (fun _ => 0)))), (q4, .inl (cs 0, (5, .inl (fun _ => 0)))), (q5, .inl (cs 0, (216, .inl (fun _ => 0)))), (q6, .inl (cs 0, (0, .inl (fun _ => 0)))), (q7, .inl (cs 0, (0, .inl (fun _ => 0)))), (q8, .inl (cs 0, (0, .inl (fun _ => 0)))), (q9, .inl (cs 0, (0, .inl (fun _ => 0)))), (q10, .inl (cs 0, (0, .inl (fun _ => 0)))), (q11, .inl (cs 0, (0, .inl (fun _ => 0)))), (q12, .inl (cs 0, (0, .inl (fun _ => 0)))), (q13, .inl (cs 0, (0, .inl (fun _ => 0))))] := hD
  refine k_put (pc := 110) F hP hD hS 0 rfl vc_X4 vi_X4 tyX4_ok nmX4 15 (by decide) kf_X4_60 rfl rfl rfl (Nat.le_of_ble_eq_true rfl) dX4_init_110 (fun H locs hP hD hS => ?_)
  have hP : va_P (dC, dI) vwCl [(h0, .inr (4, [.ref q1, .ref q2, .ref q3, .ref q4, .ref q5, .int (0 : Int32), .int (0 : Int32), .int (0 : Int32), .ref q6, .ref q7, .ref q8, .ref q9, .ref q10, .ref q11, .ref q12, .ref q13])), (q1, .inl (cs 0, (10, .inl (fun _ => 0)))), (q2, .inl (cs 0, (5, .inl (fun _ => 0)))), (q3, .inl (cs 0, (5, .inl (fun _ => 0)))), (q4, .inl (cs 0, (5, .inl (fun _ => 0)))), (q5, .inl (cs 0, (216, .inl (fun _ => 0)))), (q6, .inl (cs 0, (0, .inl (fun _ => 0)))), (q7, .inl (cs 0, (0, .inl (fun _ => 0)))), (q8, .inl (cs 0, (0, .inl (fun _ => 0)))), (q9, .inl (cs 0, (0, .inl (fun _ => 0)))), (q10, .inl (cs 0, (0, .inl (fun _ => 0)))), (q11, .inl (cs 0, (0, .inl (fun _ => 0)))), (q12, .inl (cs 0, (0, .inl (fun _ => 0)))), (q13, .inl (cs 0, (0, .inl (fun _ => 0))))] H := hP
  have hD : va_D A [(h0, .inr (4, [.ref q1, .ref q2, .ref q3, .ref q4, .ref q5, .int (0 : Int32), .int (0 : Int32), .int (0 : Int32), .ref q6, .ref q7, .ref q8, .ref q9, .ref q10, .ref q11, .ref q12, .ref q13])), (q1, .inl (cs 0, (10, .inl (fun _ => 0)))), (q2, .inl (cs 0, (5, .inl (fun _ => 0)))), (q3, .inl (cs 0, (5, .inl (fun _ => 0)))), (q4, .inl (cs 0, (5, .inl (fun _ => 0)))), (q5, .inl (cs 0, (216, .inl (fun _ => 0)))), (q6, .inl (cs 0, (0, .inl (fun _ => 0)))), (q7, .inl (cs 0, (0, .inl (fun _ => 0)))), (q8, .inl (cs 0, (0, .inl (fun _ => 0)))), (q9, .inl (cs 0, (0, .inl (fun _ => 0)))), (q10, .inl (cs 0, (0, .inl (fun _ => 0)))), (q11, .inl (cs 0, (0, .inl (fun _ => 0)))), (q12, .inl (cs 0, (0, .inl (fun _ => 0)))), (q13, .inl (cs 0, (0, .inl (fun _ => 0))))] := hD
  exact k_ret (pc := 113) F (fun i => [q1, q2, q3, q4, q5, q6, q7, q8, q9, q10, q11, q12, q13].getD i 0) (hP.sub [0, 1, 2, 3, 4, 5, 6, 7, 8, 9, 10, 11, 12, 13] rfl) (hD.sub [0, 1, 2, 3, 4, 5, 6, 7, 8, 9, 10, 11, 12, 13] (by decide) rfl) hS (by omega) (by omega) dX4_init_113
abbrev wq_X2_init (h0 : Nat) (a1 : Nat) (cs : Nat → ClassId) (q : Nat → Nat) : va_W := [(h0, .inr (2, [.ref a1, .ref (q 0), .ref (q 5), .ref (q 1), .ref (q 2), .ref (q 3), .ref (q 4), .int (0 : Int32), .int (0 : Int32)])), ((q 0), .inl (cs 0, (24, .inl (fun _ => 0)))), ((q 1), .inl (cs 0, (40, .inl (fun _ => 0)))), ((q 2), .inl (cs 0, (48, .inl (fun _ => 0)))), ((q 3), .inl (cs 0, (144, .inl (fun _ => 0)))), ((q 4), .inl (cs 1, (48, .inl (fun _ => 0)))), ((q 5), .inl (cs 0, (48, .inl (fun j => if j < 48 then (-4 : Int32) else (fun _ => 0) j))))]
theorem dX2_init_0 : decode cX2_init 0 = .ok (.aload_n 0, 1) := by decide +kernel
theorem dX2_init_1 : decode cX2_init 1 = .ok (.invokespecial 5, 3) := by decide +kernel
theorem dX2_init_4 : decode cX2_init 4 = .ok (.aload_n 0, 1) := by decide +kernel
theorem dX2_init_5 : decode cX2_init 5 = .ok (.bipush 24, 2) := by decide +kernel
theorem dX2_init_7 : decode cX2_init 7 = .ok (.newarray .int, 2) := by decide +kernel
theorem dX2_init_9 : decode cX2_init 9 = .ok (.putfield 11, 3) := by decide +kernel
theorem dX2_init_12 : decode cX2_init 12 = .ok (.aload_n 0, 1) := by decide +kernel
theorem dX2_init_13 : decode cX2_init 13 = .ok (.bipush 48, 2) := by decide +kernel
theorem dX2_init_15 : decode cX2_init 15 = .ok (.newarray .int, 2) := by decide +kernel
theorem dX2_init_17 : decode cX2_init 17 = .ok (.putfield 15, 3) := by decide +kernel
theorem dX2_init_20 : decode cX2_init 20 = .ok (.aload_n 0, 1) := by decide +kernel
theorem dX2_init_21 : decode cX2_init 21 = .ok (.bipush 40, 2) := by decide +kernel
theorem dX2_init_23 : decode cX2_init 23 = .ok (.newarray .int, 2) := by decide +kernel
theorem dX2_init_25 : decode cX2_init 25 = .ok (.putfield 18, 3) := by decide +kernel
theorem dX2_init_28 : decode cX2_init 28 = .ok (.aload_n 0, 1) := by decide +kernel
theorem dX2_init_29 : decode cX2_init 29 = .ok (.bipush 48, 2) := by decide +kernel
theorem dX2_init_31 : decode cX2_init 31 = .ok (.newarray .int, 2) := by decide +kernel
theorem dX2_init_33 : decode cX2_init 33 = .ok (.putfield 21, 3) := by decide +kernel
theorem dX2_init_36 : decode cX2_init 36 = .ok (.aload_n 0, 1) := by decide +kernel
theorem dX2_init_37 : decode cX2_init 37 = .ok (.sipush 144, 3) := by decide +kernel
theorem dX2_init_40 : decode cX2_init 40 = .ok (.newarray .int, 2) := by decide +kernel
theorem dX2_init_42 : decode cX2_init 42 = .ok (.putfield 24, 3) := by decide +kernel
theorem dX2_init_45 : decode cX2_init 45 = .ok (.aload_n 0, 1) := by decide +kernel
theorem dX2_init_46 : decode cX2_init 46 = .ok (.bipush 48, 2) := by decide +kernel
theorem dX2_init_48 : decode cX2_init 48 = .ok (.newarray .boolean, 2) := by decide +kernel
theorem dX2_init_50 : decode cX2_init 50 = .ok (.putfield 27, 3) := by decide +kernel
theorem dX2_init_53 : decode cX2_init 53 = .ok (.aload_n 0, 1) := by decide +kernel
theorem dX2_init_54 : decode cX2_init 54 = .ok (.iconst 0, 1) := by decide +kernel
theorem dX2_init_55 : decode cX2_init 55 = .ok (.putfield 31, 3) := by decide +kernel
theorem dX2_init_58 : decode cX2_init 58 = .ok (.aload_n 0, 1) := by decide +kernel
theorem dX2_init_59 : decode cX2_init 59 = .ok (.iconst 0, 1) := by decide +kernel
theorem dX2_init_60 : decode cX2_init 60 = .ok (.putfield 35, 3) := by decide +kernel
theorem dX2_init_63 : decode cX2_init 63 = .ok (.aload_n 0, 1) := by decide +kernel
theorem dX2_init_64 : decode cX2_init 64 = .ok (.aload_n 1, 1) := by decide +kernel
theorem dX2_init_65 : decode cX2_init 65 = .ok (.putfield 38, 3) := by decide +kernel
theorem dX2_init_68 : decode cX2_init 68 = .ok (.aload_n 0, 1) := by decide +kernel
theorem dX2_init_69 : decode cX2_init 69 = .ok (.getfield 15, 3) := by decide +kernel
theorem dX2_init_72 : decode cX2_init 72 = .ok (.bipush (-4), 2) := by decide +kernel
theorem dX2_init_74 : decode cX2_init 74 = .ok (.invokestatic 42, 3) := by decide +kernel
theorem dX2_init_77 : decode cX2_init 77 = .ok (.return_, 1) := by decide +kernel
set_option maxRecDepth 100000 in
set_option maxHeartbeats 8000000 in
theorem c_X2_init (h0 : Nat) (a1 : Nat) : MK yX2_init cX2_init 2 1 23 6 352 [.ref h0, .ref a1] (fun _ => [(h0, .inr (2, [.null, .null, .null, .null, .null, .null, .null, .int 0, .int 0]))]) (wq_X2_init h0 a1) := by
  refine MK.of RX2 [(0, .ref h0), (1, .ref a1)] (by decide) rfl rfl (Nat.le_of_ble_eq_true rfl) rfl ?_
  intro p l e R s m args below meth c dC dI cs A H locs ls hR1 hR2 hRc hRs F hP hD hS hl
  have hx := F.1.1
  have hb := F.1.2.1
  refine lv_aload_n (pc := 0) hx hb dX2_init_0 rfl (lv_at hl 0 rfl) ?_
  refine k_obj (pc := 1) F klo_X2 kio kco hl.1 (by omega) (by omega) dX2_init_1 ?_
  refine lv_aload_n (pc := 4) hx hb dX2_init_4 rfl (lv_at hl 0 rfl) ?_
  refine lv_bipush (pc := 5) (v := 24) hx hb dX2_init_5 (by decide) ?_
  refine k_newI (pc := 7) F hP hD hS 24 kx_arr (by decide) (by decide) (by decide) (by omega) (by omega) dX2_init_7 (fun q1 H hP hD hS => ?_)
  have hP : va_P (dC, dI) vwCl [(h0, .inr (2, [.null, .null, .null, .null, .null, .null, .null, .int 0, .int 0])), (q1, .inl (cs 0, (24, .inl (fun _ => 0))))] H := hP
  have hD : va_D A [(h0, .inr (2, [.null, .null, .null, .null, .null, .null, .null, .int 0, .int 0])), (q1, .inl (cs 0, (24, .inl (fun _ => 0))))] := hD
  refine k_putF (pc := 9) F hP hD hS 0 rfl vc_X2 vi_X2 tyX2_ok nmX2 1 (by decide) kf_X2_11 rfl rfl rfl rfl (Nat.le_of_ble_eq_true rfl) dX2_init_9 (fun H locs hP hD hS => ?_)
  have hP : va_P (dC, dI) vwCl [(h0, .inr (2, [.null, .ref q1, .null, .null, .null, .null, .null, .int 0, .int 0])), (q1, .inl (cs 0, (24, .inl (fun _ => 0))))] H := hP
  have hD : va_D A [(h0, .inr (2, [.null, .ref q1, .null, .null, .null, .null, .null, .int 0, .int 0])), (q1, .inl (cs 0, (24, .inl (fun _ => 0))))] := hD
  refine lv_aload_n (pc := 12) hx hb dX2_init_12 rfl (lv_at hl 0 rfl) ?_
  refine lv_bipush (pc := 13) (v := 48) hx hb dX2_init_13 (by decide) ?_
  refine k_newI (pc := 15) F hP hD hS 48 kx_arr (by decide) (by decide) (by decide) (by omega) (by omega) dX2_init_15 (fun q2 H hP hD hS => ?_)
  have hP : va_P (dC, dI) vwCl [(h0, .inr (2, [.null, .ref q1, .null, .null, .null, .null, .null, .int 0, .int 0])), (q1, .inl (cs 0, (24, .inl (fun _ => 0)))), (q2, .inl (cs 0, (48, .inl (fun _ => 0))))] H := hP
  have hD : va_D A [(h0, .inr (2, [.null, .ref q1, .null, .null, .null, .null, .null, .int 0, .int 0])), (q1, .inl (cs 0, (24, .inl (fun _ => 0)))), (q2, .inl (cs 0, (48, .inl (fun _ => 0))))] := hD
  refine k_putF (pc := 17) F hP hD hS 0 rfl vc_X2 vi_X2 tyX2_ok nmX2 2 (by decide) kf_X2_15 rfl rfl rfl rfl (Nat.le_of_ble_eq_true rfl) dX2_init_17 (fun H locs hP hD hS => ?_)
  have hP : va_P (dC, dI) vwCl [(h0, .inr (2, [.null, .ref q1, .ref q2, .null, .null, .null, .null, .int 0, .int 0])), (q1, .inl (cs 0, (24, .inl (fun _ => 0)))), (q2, .inl (cs 0, (48, .inl (fun _ => 0))))] H := hP
  have hD : va_D A [(h0, .inr (2, [.null, .ref q1, .ref q2, .null, .null, .null, .null, .int 0, .int 0])), (q1, .inl (cs 0, (24, .inl (fun _ => 0)))), (q2, .inl (cs 0, (48, .inl (fun _ => 0))))] := hD
  refine lv_aload_n (pc := 20) hx hb dX2_init_20 rfl (lv_at hl 0 rfl) ?_
  refine lv_bipush (pc := 21) (v := 40) hx hb dX2_init_21 (by decide) ?_
  refine k_newI (pc := 23) F hP hD hS 40 kx_arr (by decide) (by decide) (by decide) (by omega) (by omega) dX2_init_23 (fun q3 H hP hD hS => ?_)
  have hP : va_P (dC, dI) vwCl [(h0, .inr (2, [.null, .ref q1, .ref q2, .null, .null, .null, .null, .int 0, .int 0])), (q1, .inl (cs 0, (24, .inl (fun _ => 0)))), (q2, .inl (cs 0, (48, .inl (fun _ => 0)))), (q3, .inl (cs 0, (40, .inl (fun _ => 0))))] H := hP
  have hD : va_D A [(h0, .inr (2, [.null, .ref q1, .ref q2, .null, .null, .null, .null, .int 0, .int 0])), (q1, .inl (cs 0, (24, .inl (fun _ => 0)))), (q2, .inl (cs 0, (48, .inl (fun _ => 0)))), (q3, .inl (cs 0, (40, .inl (fun _ => 0))))] := hD
  refine k_putF (pc := 25) F hP hD hS 0 rfl vc_X2 vi_X2 tyX2_ok nmX2 3 (by decide) kf_X2_18 rfl rfl rfl rfl (Nat.le_of_ble_eq_true rfl) dX2_init_25 (fun H locs hP hD hS => ?_)
  have hP : va_P (dC, dI) vwCl [(h0, .inr (2, [.null, .ref q1, .ref q2, .ref q3, .null, .null, .null, .int 0, .int 0])), (q1, .inl (cs 0, (24, .inl (fun _ => 0)))), (q2, .inl (cs 0, (48, .inl (fun _ => 0)))), (q3, .inl (cs 0, (40, .inl (fun _ => 0))))] H := hP
  have hD : va_D A [(h0, .inr (2, [.null, .ref q1, .ref q2, .ref q3, .null, .null, .null, .int 0, .int 0])), (q1, .inl (cs 0, (24, .inl (fun _ => 0)))), (q2, .inl (cs 0, (48, .inl (fun _ => 0)))), (q3, .inl (cs 0, (40, .inl (fun _ => 0))))] := hD
  refine lv_aload_n (pc := 28) hx hb dX2_init_28 rfl (lv_at hl 0 rfl) ?_
  refine lv_bipush (pc := 29) (v := 48) hx hb dX2_init_29 (by decide) ?_
  refine k_newI (pc := 31) F hP hD hS 48 kx_arr (by decide) (by decide) (by decide) (by omega) (by omega) dX2_init_31 (fun q4 H hP hD hS => ?_)
  have hP : va_P (dC, dI) vwCl [(h0, .inr (2, [.null, .ref q1, .ref q2, .ref q3, .null, .null, .null, .int 0, .int 0])), (q1, .inl (cs 0, (24, .inl (fun _ => 0)))), (q2, .inl (cs 0, (48, .inl (fun _ => 0)))), (q3, .inl (cs 0, (40, .inl (fun _ => 0)))), (q4, .inl (cs 0, (48, .inl (fun _ => 0))))] H := hP
  have hD : va_D A [(h0, .inr (2, [.null, .ref q1, .ref q2, .ref q3, .null, .null, .null, .int 0, .int 0])), (q1, .inl (cs 0, (24, .inl (fun _ => 0)))), (q2, .inl (cs 0, (48, .inl (fun _ => 0)))), (q3, .inl (cs 0, (40, .inl (fun _ => 0)))), (q4, .inl (cs 0, (48, .inl (fun _ => 0))))] := hD
  refine k_putF (pc := 33) F hP hD hS 0 rfl vc_X2 vi_X2 tyX2_ok nmX2 4 (by decide) kf_X2_21 rfl rfl rfl rfl (Nat.le_of_ble_eq_true rfl) dX2_init_33 (fun H locs hP hD hS => ?_)
  have hP : va_P (dC, dI) vwCl [(h0, .inr (2, [.null, .ref q1, .ref q2, .ref q3, .ref q4, .null, .null, .int 0, .int 0])), (q1, .inl (cs 0, (24, .inl (fun _ => 0)))), (q2, .inl (cs 0, (48, .inl (fun _ => 0)))), (q3, .inl (cs 0, (40, .inl (fun _ => 0)))), (q4, .inl (cs 0, (48, .inl (fun _ => 0))))] H := hP
  have hD : va_D A [(h0, .inr (2, [.null, .ref q1, .ref q2, .ref q3, .ref q4, .null, .null, .int 0, .int 0])), (q1, .inl (cs 0, (24, .inl (fun _ => 0)))), (q2, .inl (cs 0, (48, .inl (fun _ => 0)))), (q3, .inl (cs 0, (40, .inl (fun _ => 0)))), (q4, .inl (cs 0, (48, .inl (fun _ => 0))))] := hD
  refine lv_aload_n (pc := 36) hx hb dX2_init_36 rfl (lv_at hl 0 rfl) ?_
  refine lv_sipush (pc := 37) (v := 144) hx hb dX2_init_37 (by decide) ?_
  refine k_newI (pc := 40) F hP hD hS 144 kx_arr (by decide) (by decide) (by decide) (by omega) (by omega) dX2_init_40 (fun q5 H hP hD hS => ?_)
  have hP : va_P (dC, dI) vwCl [(h0, .inr (2, [.null, .ref q1, .ref q2, .ref q3, .ref q4, .null, .null, .int 0, .int 0])), (q1, .inl (cs 0, (24, .inl (fun _ => 0)))), (q2, .inl (cs 0, (48, .inl (fun _ => 0)))), (q3, .inl (cs 0, (40, .inl (fun _ => 0)))), (q4, .inl (cs 0, (48, .inl (fun _ => 0)))), (q5, .inl (cs 0, (144, .inl (fun _ => 0))))] H := hP
  have hD : va_D A [(h0, .inr (2, [.null, .ref q1, .ref q2, .ref q3, .ref q4, .null, .null, .int 0, .int 0])), (q1, .inl (cs 0, (24, .inl (fun _ => 0)))), (q2, .inl (cs 0, (48, .inl (fun _ => 0)))), (q3, .inl (cs 0, (40, .inl (fun _ => 0)))), (q4, .inl (cs 0, (48, .inl (fun _ => 0)))), (q5, .inl (cs 0, (144, .inl (fun _ => 0))))] := hD
  refine k_putF (pc := 42) F hP hD hS 0 rfl vc_X2 vi_X2 tyX2_ok nmX2 5 (by decide) kf_X2_24 rfl rfl rfl rfl (Nat.le_of_ble_eq_true rfl) dX2_init_42 (fun H locs hP hD hS => ?_)
  have hP : va_P (dC, dI) vwCl [(h0, .inr (2, [.null, .ref q1, .ref q2, .ref q3, .ref q4, .ref q5, .null, .int 0, .int 0])), (q1, .inl (cs 0, (24, .inl (fun _ => 0)))), (q2, .inl (cs 0, (48, .inl (fun _ => 0)))), (q3, .inl (cs 0, (40, .inl (fun _ => 0)))), (q4, .inl (cs 0, (48, .inl (fun _ => 0)))), (q5, .inl (cs 0, (144, .inl (fun _ => 0))))] H := hP
  have hD : va_D A [(h0, .inr (2, [.null, .ref q1, .ref q2, .ref q3, .ref q4, .ref q5, .null, .int 0, .int 0])), (q1, .inl (cs 0, (24, .inl (fun _ => 0)))), (q2, .inl (cs 0, (48, .inl (fun _ => 0)))), (q3, .inl (cs 0, (40, .inl (fun _ => 0)))), (q4, .inl (cs 0, (48, .inl (fun _ => 0)))), (q5, .inl (cs 0, (144, .inl (fun _ => 0))))] := hD
  refine lv_aload_n (pc := 45) hx hb dX2_init_45 rfl (lv_at hl 0 rfl) ?_
  refine lv_bipush (pc := 46) (v := 48) hx hb dX2_init_46 (by decide) ?_
  refine k_newZ (pc := 48) F hP hD hS 48 kx_arz (by decide) (by decide) (by decide) (by omega) (by omega) dX2_init_48 (fun q6 H hP hD hS => ?_)
  have hP : va_P (dC, dI) vwCl [(h0, .inr (2, [.null, .ref q1, .ref q2, .ref q3, .ref q4, .ref q5, .null, .int 0, .int 0])), (q1, .inl (cs 0, (24, .inl (fun _ => 0)))), (q2, .inl (cs 0, (48, .inl (fun _ => 0)))), (q3, .inl (cs 0, (40, .inl (fun _ => 0)))), (q4, .inl (cs 0, (48, .inl (fun _ => 0)))), (q5, .inl (cs 0, (144, .inl (fun _ => 0)))), (q6, .inl (cs 1, (48, .inl (fun _ => 0))))] H := hP
  have hD : va_D A [(h0, .inr (2, [.null, .ref q1, .ref q2, .ref q3, .ref q4, .ref q5, .null, .int 0, .int 0])), (q1, .inl (cs 0, (24, .inl (fun _ => 0)))), (q2, .inl (cs 0, (48, .inl (fun _ => 0)))), (q3, .inl (cs 0, (40, .inl (fun _ => 0)))), (q4, .inl (cs 0, (48, .inl (fun _ => 0)))), (q5, .inl (cs 0, (144, .inl (fun _ => 0)))), (q6, .inl (cs 1, (48, .inl (fun _ => 0))))] := hD
  refine k_putF (pc := 50) F hP hD hS 0 rfl vc_X2 vi_X2 tyX2_ok nmX2 6 (by decide) kf_X2_27 rfl rfl rfl rfl (Nat.le_of_ble_eq_true rfl) dX2_init_50 (fun H locs hP hD hS => ?_)
  have hP : va_P (dC, dI) vwCl [(h0, .inr (2, [.null, .ref q1, .ref q2, .ref q3, .ref q4, .ref q5, .ref q6, .int 0, .int 0])), (q1, .inl (cs 0, (24, .inl (fun _ => 0)))), (q2, .inl (cs 0, (48, .inl (fun _ => 0)))), (q3, .inl (cs 0, (40, .inl (fun _ => 0)))), (q4, .inl (cs 0, (48, .inl (fun _ => 0)))), (q5, .inl (cs 0, (144, .inl (fun _ => 0)))), (q6, .inl (cs 1, (48, .inl (fun _ => 0))))] H := hP
  have hD : va_D A [(h0, .inr (2, [.null, .ref q1, .ref q2, .ref q3, .ref q4, .ref q5, .ref q6, .int 0, .int 0])), (q1, .inl (cs 0, (24, .inl (fun _ => 0)))), (q2, .inl (cs 0, (48, .inl (fun _ => 0)))), (q3, .inl (cs 0, (40, .inl (fun _ => 0)))), (q4, .inl (cs 0, (48, .inl (fun _ => 0)))), (q5, .inl (cs 0, (144, .inl (fun _ => 0)))), (q6, .inl (cs 1, (48, .inl (fun _ => 0))))] := hD
  refine lv_aload_n (pc := 53) hx hb dX2_init_53 rfl (lv_at hl 0 rfl) ?_
  refine lv_iconst (pc := 54) (v := 0) hx hb dX2_init_54 (by decide) ?_
  refine k_put (pc := 55) F hP hD hS 0 rfl vc_X2 vi_X2 tyX2_ok nmX2 7 (by decide) kf_X2_31 rfl rfl rfl (Nat.le_of_ble_eq_true rfl) dX2_init_55 (fun H locs hP hD hS => ?_)
  have hP : va_P (dC, dI) vwCl [(h0, .inr (2, [.null, .ref q1, .ref q2, .ref q3, .ref q4, .ref q5, .ref q6, .int (0 : Int32), .int 0])), (q1, .inl (cs 0, (24, .inl (fun _ => 0)))), (q2, .inl (cs 0, (48, .inl (fun _ => 0)))), (q3, .inl (cs 0, (40, .inl (fun _ => 0)))), (q4, .inl (cs 0, (48, .inl (fun _ => 0)))), (q5, .inl (cs 0, (144, .inl (fun _ => 0)))), (q6, .inl (cs 1, (48, .inl (fun _ => 0))))] H := hP
  have hD : va_D A [(h0, .inr (2, [.null, .ref q1, .ref q2, .ref q3, .ref q4, .ref q5, .ref q6, .int (0 : Int32), .int 0])), (q1, .inl (cs 0, (24, .inl (fun _ => 0)))), (q2, .inl (cs 0, (48, .inl (fun _ => 0)))), (q3, .inl (cs 0, (40, .inl (fun _ => 0)))), (q4, .inl (cs 0, (48, .inl (fun _ => 0)))), (q5, .inl (cs 0, (144, .inl (fun _ => 0)))), (q6, .inl (cs 1, (48, .inl (fun _ => 0))))] := hD
  refine lv_aload_n (pc := 58) hx hb dX2_init_58 rfl (lv_at hl 0 rfl) ?_
  refine lv_iconst (pc := 59) (v := 0) hx hb dX2_init_59 (by decide) ?_
  refine k_put (pc := 60) F hP hD hS 0 rfl vc_X2 vi_X2 tyX2_ok nmX2 8 (by decide) kf_X2_35 rfl rfl rfl (Nat.le_of_ble_eq_true rfl) dX2_init_60 (fun H locs hP hD hS => ?_)
  have hP : va_P (dC, dI) vwCl [(h0, .inr (2, [.null, .ref q1, .ref q2, .ref q3, .ref q4, .ref q5, .ref q6, .int (0 : Int32), .int (0 : Int32)])), (q1, .inl (cs 0, (24, .inl (fun _ => 0)))), (q2, .inl (cs 0, (48, .inl (fun _ => 0)))), (q3, .inl (cs 0, (40, .inl (fun _ => 0)))), (q4, .inl (cs 0, (48, .inl (fun _ => 0)))), (q5, .inl (cs 0, (144, .inl (fun _ => 0)))), (q6, .inl (cs 1, (48, .inl (fun _ => 0))))] H := hP
  have hD : va_D A [(h0, .inr (2, [.null, .ref q1, .ref q2, .ref q3, .ref q4, .ref q5, .ref q6, .int (0 : Int32), .int (0 : Int32)])), (q1, .inl (cs 0, (24, .inl (fun _ => 0)))), (q2, .inl (cs 0, (48, .inl (fun _ => 0)))), (q3, .inl (cs 0, (40, .inl (fun _ => 0)))), (q4, .inl (cs 0, (48, .inl (fun _ => 0)))), (q5, .inl (cs 0, (144, .inl (fun _ => 0)))), (q6, .inl (cs 1, (48, .inl (fun _ => 0))))] := hD
  refine lv_aload_n (pc := 63) hx hb dX2_init_63 rfl (lv_at hl 0 rfl) ?_
  refine lv_aload_n (pc := 64) hx hb dX2_init_64 rfl (lv_at hl 1 rfl) ?_
  refine k_putF (pc := 65) F hP hD hS 0 rfl vc_X2 vi_X2 tyX2_ok nmX2 0 (by decide) kf_X2_38 rfl rfl rfl rfl (Nat.le_of_ble_eq_true rfl) dX2_init_65 (fun H locs hP hD hS => ?_)
  have hP : va_P (dC, dI) vwCl [(h0, .inr (2, [.ref a1, .ref q1, .ref q2, .ref q3, .ref q4, .ref q5, .ref q6, .int (0 : Int32), .int (0 : Int32)])), (q1, .inl (cs 0, (24, .inl (fun _ => 0)))), (q2, .inl (cs 0, (48, .inl (fun _ => 0)))), (q3, .inl (cs 0, (40, .inl (fun _ => 0)))), (q4, .inl (cs 0, (48, .inl (fun _ => 0)))), (q5, .inl (cs 0, (144, .inl (fun _ => 0)))), (q6, .inl (cs 1, (48, .inl (fun _ => 0))))] H := hP
  have hD : va_D A [(h0, .inr (2, [.ref a1, .ref q1, .ref q2, .ref q3, .ref q4, .ref q5, .ref q6, .int (0 : Int32), .int (0 : Int32)])), (q1, .inl (cs 0, (24, .inl (fun _ => 0)))), (q2, .inl (cs 0, (48, .inl (fun _ => 0)))), (q3, .inl (cs 0, (40, .inl (fun _ => 0)))), (q4, .inl (cs 0, (48, .inl (fun _ => 0)))), (q5, .inl (cs 0, (144, .inl (fun _ => 0)))), (q6, .inl (cs 1, (48, .inl (fun _ => 0))))] := hD
  refine lv_aload_n (pc := 68) hx hb dX2_init_68 rfl (lv_at hl 0 rfl) ?_
  refine k_get (pc := 69) F hP 0 rfl vc_X2 vi_X2 2 (by decide) kf_X2_15 (v := .ref q2) rfl dX2_init_69 ?_
  refine lv_bipush (pc := 72) (v := -4) hx hb dX2_init_72 (by decide) ?_
  refine k_stat (pc := 74) (wr := [(h0, .inr (2, [.ref a1, .ref q1, .ref q2, .ref q3, .ref q4, .ref q5, .ref q6, .int (0 : Int32), .int (0 : Int32)])), (q1, .inl (cs 0, (24, .inl (fun _ => 0)))), (q3, .inl (cs 0, (40, .inl (fun _ => 0)))), (q4, .inl (cs 0, (48, .inl (fun _ => 0)))), (q5, .inl (cs 0, (144, .inl (fun _ => 0)))), (q6, .inl (cs 1, (48, .inl (fun _ => 0))))]) [.ref q2, .int (-4 : Int32)] F hP hD hS (c_fill q2 48 (fun _ => 0) (-4 : Int32) (by decide)) [2] [0, 1, 3, 4, 5, 6] rfl rfl (by decide) rfl (by decide) (by decide) rfl hl.1 ok_J7_fill_53178 rfl kc_J7_fill_53178 kl_X2_42 ks_J7_fill_53178 kn_J7 ⟨by omega, by omega⟩ ⟨by omega, by omega⟩ (Nat.le_of_ble_eq_true rfl) dX2_init_74 (fun _ H locs hP hD hS => ?_)
  have hP : va_P (dC, dI) vwCl [(h0, .inr (2, [.ref a1, .ref q1, .ref q2, .ref q3, .ref q4, .ref q5, .ref q6, .int (0 : Int32), .int (0 : Int32)])), (q1, .inl (cs 0, (24, .inl (fun _ => 0)))), (q3, .inl (cs 0, (40, .inl (fun _ => 0)))), (q4, .inl (cs 0, (48, .inl (fun _ => 0)))), (q5, .inl (cs 0, (144, .inl (fun _ => 0)))), (q6, .inl (cs 1, (48, .inl (fun _ => 0)))), (q2, .inl (cs 0, (48, .inl (fun j => if j < 48 then (-4 : Int32) else (fun _ => 0) j))))] H := hP
  have hD : va_D A [(h0, .inr (2, [.ref a1, .ref q1, .ref q2, .ref q3, .ref q4, .ref q5, .ref q6, .int (0 : Int32), .int (0 : Int32)])), (q1, .inl (cs 0, (24, .inl (fun _ => 0)))), (q3, .inl (cs 0, (40, .inl (fun _ => 0)))), (q4, .inl (cs 0, (48, .inl (fun _ => 0)))), (q5, .inl (cs 0, (144, .inl (fun _ => 0)))), (q6, .inl (cs 1, (48, .inl (fun _ => 0)))), (q2, .inl (cs 0, (48, .inl (fun j => if j < 48 then (-4 : Int32) else (fun _ => 0) j))))] := hD
  exact k_ret (pc := 77) F (fun i => [q1, q3, q4, q5, q6, q2].getD i 0) (hP.sub [0, 1, 2, 3, 4, 5, 6] rfl) (hD.sub [0, 1, 2, 3, 4, 5, 6] (by decide) rfl) hS (by omega) (by omega) dX2_init_77
abbrev wq_X6_init (h0 : Nat) (a1 : Nat) (a2 : Nat) (a3 : Nat) (cs : Nat → ClassId) (q : Nat → Nat) : va_W := [(h0, .inr (6, [.ref a1, .ref a2, .ref a3, .ref (q 0), .ref (q 1), .ref (q 2), .ref (q 3), .ref (q 4), .int (0 : Int32)])), ((q 0), .inl (cs 0, (12, .inl (fun _ => 0)))), ((q 1), .inl (cs 0, (96, .inl (fun _ => 0)))), ((q 2), .inl (cs 0, (96, .inl (fun _ => 0)))), ((q 3), .inl (cs 0, (96, .inl (fun _ => 0)))), ((q 4), .inl (cs 0, (8, .inl (fun _ => 0))))]
theorem dX6_init_0 : decode cX6_init 0 = .ok (.aload_n 0, 1) := by decide +kernel
theorem dX6_init_1 : decode cX6_init 1 = .ok (.invokespecial 3, 3) := by decide +kernel
theorem dX6_init_4 : decode cX6_init 4 = .ok (.aload_n 0, 1) := by decide +kernel
theorem dX6_init_5 : decode cX6_init 5 = .ok (.bipush 12, 2) := by decide +kernel
theorem dX6_init_7 : decode cX6_init 7 = .ok (.newarray .int, 2) := by decide +kernel
theorem dX6_init_9 : decode cX6_init 9 = .ok (.putfield 11, 3) := by decide +kernel
theorem dX6_init_12 : decode cX6_init 12 = .ok (.aload_n 0, 1) := by decide +kernel
theorem dX6_init_13 : decode cX6_init 13 = .ok (.bipush 96, 2) := by decide +kernel
theorem dX6_init_15 : decode cX6_init 15 = .ok (.newarray .int, 2) := by decide +kernel
theorem dX6_init_17 : decode cX6_init 17 = .ok (.putfield 15, 3) := by decide +kernel
theorem dX6_init_20 : decode cX6_init 20 = .ok (.aload_n 0, 1) := by decide +kernel
theorem dX6_init_21 : decode cX6_init 21 = .ok (.bipush 96, 2) := by decide +kernel
theorem dX6_init_23 : decode cX6_init 23 = .ok (.newarray .int, 2) := by decide +kernel
theorem dX6_init_25 : decode cX6_init 25 = .ok (.putfield 18, 3) := by decide +kernel
theorem dX6_init_28 : decode cX6_init 28 = .ok (.aload_n 0, 1) := by decide +kernel
theorem dX6_init_29 : decode cX6_init 29 = .ok (.bipush 96, 2) := by decide +kernel
theorem dX6_init_31 : decode cX6_init 31 = .ok (.newarray .int, 2) := by decide +kernel
theorem dX6_init_33 : decode cX6_init 33 = .ok (.putfield 21, 3) := by decide +kernel
theorem dX6_init_36 : decode cX6_init 36 = .ok (.aload_n 0, 1) := by decide +kernel
theorem dX6_init_37 : decode cX6_init 37 = .ok (.bipush 8, 2) := by decide +kernel
theorem dX6_init_39 : decode cX6_init 39 = .ok (.newarray .int, 2) := by decide +kernel
theorem dX6_init_41 : decode cX6_init 41 = .ok (.putfield 24, 3) := by decide +kernel
theorem dX6_init_44 : decode cX6_init 44 = .ok (.aload_n 0, 1) := by decide +kernel
theorem dX6_init_45 : decode cX6_init 45 = .ok (.iconst 0, 1) := by decide +kernel
theorem dX6_init_46 : decode cX6_init 46 = .ok (.putfield 27, 3) := by decide +kernel
theorem dX6_init_49 : decode cX6_init 49 = .ok (.aload_n 0, 1) := by decide +kernel
theorem dX6_init_50 : decode cX6_init 50 = .ok (.aload_n 1, 1) := by decide +kernel
theorem dX6_init_51 : decode cX6_init 51 = .ok (.putfield 31, 3) := by decide +kernel
theorem dX6_init_54 : decode cX6_init 54 = .ok (.aload_n 0, 1) := by decide +kernel
theorem dX6_init_55 : decode cX6_init 55 = .ok (.aload_n 2, 1) := by decide +kernel
theorem dX6_init_56 : decode cX6_init 56 = .ok (.putfield 35, 3) := by decide +kernel
theorem dX6_init_59 : decode cX6_init 59 = .ok (.aload_n 0, 1) := by decide +kernel
theorem dX6_init_60 : decode cX6_init 60 = .ok (.aload_n 3, 1) := by decide +kernel
theorem dX6_init_61 : decode cX6_init 61 = .ok (.putfield 39, 3) := by decide +kernel
theorem dX6_init_64 : decode cX6_init 64 = .ok (.return_, 1) := by decide +kernel
set_option maxRecDepth 100000 in
set_option maxHeartbeats 8000000 in
theorem c_X6_init (h0 : Nat) (a1 : Nat) (a2 : Nat) (a3 : Nat) : MK yX6_init cX6_init 4 1 12 5 308 [.ref h0, .ref a1, .ref a2, .ref a3] (fun _ => [(h0, .inr (6, [.null, .null, .null, .null, .null, .null, .null, .null, .int 0]))]) (wq_X6_init h0 a1 a2 a3) := by
  refine MK.of RX6 [(0, .ref h0), (1, .ref a1), (2, .ref a2), (3, .ref a3)] (by decide) rfl rfl (Nat.le_of_ble_eq_true rfl) rfl ?_
  intro p l e R s m args below meth c dC dI cs A H locs ls hR1 hR2 hRc hRs F hP hD hS hl
  have hx := F.1.1
  have hb := F.1.2.1
  refine lv_aload_n (pc := 0) hx hb dX6_init_0 rfl (lv_at hl 0 rfl) ?_
  refine k_obj (pc := 1) F klo_X6 kio kco hl.1 (by omega) (by omega) dX6_init_1 ?_
  refine lv_aload_n (pc := 4) hx hb dX6_init_4 rfl (lv_at hl 0 rfl) ?_
  refine lv_bipush (pc := 5) (v := 12) hx hb dX6_init_5 (by decide) ?_
  refine k_newI (pc := 7) F hP hD hS 12 kx_arr (by decide) (by decide) (by decide) (by omega) (by omega) dX6_init_7 (fun q1 H hP hD hS => ?_)
  have hP : va_P (dC, dI) vwCl [(h0, .inr (6, [.null, .null, .null, .null, .null, .null, .null, .null, .int 0])), (q1, .inl (cs 0, (12, .inl (fun _ => 0))))] H := hP
  have hD : va_D A [(h0, .inr (6, [.null, .null, .null, .null, .null, .null, .null, .null, .int 0])), (q1, .inl (cs 0, (12, .inl (fun _ => 0))))] := hD
  refine k_putF (pc := 9) F hP hD hS 0 rfl vc_X6 vi_X6 tyX6_ok nmX6 3 (by decide) kf_X6_11 rfl rfl rfl rfl (Nat.le_of_ble_eq_true rfl) dX6_init_9 (fun H locs hP hD hS => ?_)
  have hP : va_P (dC, dI) vwCl [(h0, .inr (6, [.null, .null, .null, .ref q1, .null, .null, .null, .null, .int 0])), (q1, .inl (cs 0, (12, .inl (fun _ => 0))))] H := hP
  have hD : va_D A [(h0, .inr (6, [.null, .null, .null, .ref q1, .null, .null, .null, .null, .int 0])), (q1, .inl (cs 0, (12, .inl (fun _ => 0))))] := hD
  refine lv_aload_n (pc := 12) hx hb dX6_init_12 rfl (lv_at hl 0 rfl) ?_
  refine lv_bipush (pc := 13) (v := 96) hx hb dX6_init_13 (by decide) ?_
  refine k_newI (pc := 15) F hP hD hS 96 kx_arr (by decide) (by decide) (by decide) (by omega) (by omega) dX6_init_15 (fun q2 H hP hD hS => ?_)
  have hP : va_P (dC, dI) vwCl [(h0, .inr (6, [.null, .null, .null, .ref q1, .null, .null, .null, .null, .int 0])), (q1, .inl (cs 0, (12, .inl (fun _ => 0)))), (q2, .inl (cs 0, (96, .inl (fun _ => 0))))] H := hP
  have hD : va_D A [(h0, .inr (6, [.null, .null, .null, .ref q1, .null, .null, .null, .null, .int 0])), (q1, .inl (cs 0, (12, .inl (fun _ => 0)))), (q2, .inl (cs 0, (96, .inl (fun _ => 0))))] := hD
  refine k_putF (pc := 17) F hP hD hS 0 rfl vc_X6 vi_X6 tyX6_ok nmX6 4 (by decide) kf_X6_15 rfl rfl rfl rfl (Nat.le_of_ble_eq_true rfl) dX6_init_17 (fun H locs hP hD hS => ?_)
  have hP : va_P (dC, dI) vwCl [(h0, .inr (6, [.null, .null, .null, .ref q1, .ref q2, .null, .null, .null, .int 0])), (q1, .inl (cs 0, (12, .inl (fun _ => 0)))), (q2, .inl (cs 0, (96, .inl (fun _ => 0))))] H := hP
  have hD : va_D A [(h0, .inr (6, [.null, .null, .null, .ref q1, .ref q2, .null, .null, .null, .int 0])), (q1, .inl (cs 0, (12, .inl (fun _ => 0)))), (q2, .inl (cs 0, (96, .inl (fun _ => 0))))] := hD
  refine lv_aload_n (pc := 20) hx hb dX6_init_20 rfl (lv_at hl 0 rfl) ?_
  refine lv_bipush (pc := 21) (v := 96) hx hb dX6_init_21 (by decide) ?_
  refine k_newI (pc := 23) F hP hD hS 96 kx_arr (by decide) (by decide) (by decide) (by omega) (by omega) dX6_init_23 (fun q3 H hP hD hS => ?_)
  have hP : va_P (dC, dI) vwCl [(h0, .inr (6, [.null, .null, .null, .ref q1, .ref q2, .null, .null, .null, .int 0])), (q1, .inl (cs 0, (12, .inl (fun _ => 0)))), (q2, .inl (cs 0, (96, .inl (fun _ => 0)))), (q3, .inl (cs 0, (96, .inl (fun _ => 0))))] H := hP
  have hD : va_D A [(h0, .inr (6, [.null, .null, .null, .ref q1, .ref q2, .null, .null, .null, .int 0])), (q1, .inl (cs 0, (12, .inl (fun _ => 0)))), (q2, .inl (cs 0, (96, .inl (fun _ => 0)))), (q3, .inl (cs 0, (96, .inl (fun _ => 0))))] := hD
  refine k_putF (pc := 25) F hP hD hS 0 rfl vc_X6 vi_X6 tyX6_ok nmX6 5 (by decide) kf_X6_18 rfl rfl rfl rfl (Nat.le_of_ble_eq_true rfl) dX6_init_25 (fun H locs hP hD hS => ?_)
  have hP : va_P (dC, dI) vwCl [(h0, .inr (6, [.null, .null, .null, .ref q1, .ref q2, .ref q3, .null, .null, .int 0])), (q1, .inl (cs 0, (12, .inl (fun _ => 0)))), (q2, .inl (cs 0, (96, .inl (fun _ => 0)))), (q3, .inl (cs 0, (96, .inl (fun _ => 0))))] H := hP
  have hD : va_D A [(h0, .inr (6, [.null, .null, .null, .ref q1, .ref q2, .ref q3, .null, .null, .int 0])), (q1, .inl (cs 0, (12, .inl (fun _ => 0)))), (q2, .inl (cs 0, (96, .inl (fun _ => 0)))), (q3, .inl (cs 0, (96, .inl (fun _ => 0))))] := hD
  refine lv_aload_n (pc := 28) hx hb dX6_init_28 rfl (lv_at hl 0 rfl) ?_
  refine lv_bipush (pc := 29) (v := 96) hx hb dX6_init_29 (by decide) ?_
  refine k_newI (pc := 31) F hP hD hS 96 kx_arr (by decide) (by decide) (by decide) (by omega) (by omega) dX6_init_31 (fun q4 H hP hD hS => ?_)
  have hP : va_P (dC, dI) vwCl [(h0, .inr (6, [.null, .null, .null, .ref q1, .ref q2, .ref q3, .null, .null, .int 0])), (q1, .inl (cs 0, (12, .inl (fun _ => 0)))), (q2, .inl (cs 0, (96, .inl (fun _ => 0)))), (q3, .inl (cs 0, (96, .inl (fun _ => 0)))), (q4, .inl (cs 0, (96, .inl (fun _ => 0))))] H := hP
  have hD : va_D A [(h0, .inr (6, [.null, .null, .null, .ref q1, .ref q2, .ref q3, .null, .null, .int 0])), (q1, .inl (cs 0, (12, .inl (fun _ => 0)))), (q2, .inl (cs 0, (96, .inl (fun _ => 0)))), (q3, .inl (cs 0, (96, .inl (fun _ => 0)))), (q4, .inl (cs 0, (96, .inl (fun _ => 0))))] := hD
  refine k_putF (pc := 33) F hP hD hS 0 rfl vc_X6 vi_X6 tyX6_ok nmX6 6 (by decide) kf_X6_21 rfl rfl rfl rfl (Nat.le_of_ble_eq_true rfl) dX6_init_33 (fun H locs hP hD hS => ?_)
  have hP : va_P (dC, dI) vwCl [(h0, .inr (6, [.null, .null, .null, .ref q1, .ref q2, .ref q3, .ref q4, .null, .int 0])), (q1, .inl (cs 0, (12, .inl (fun _ => 0)))), (q2, .inl (cs 0, (96, .inl (fun _ => 0)))), (q3, .inl (cs 0, (96, .inl (fun _ => 0)))), (q4, .inl (cs 0, (96, .inl (fun _ => 0))))] H := hP
  have hD : va_D A [(h0, .inr (6, [.null, .null, .null, .ref q1, .ref q2, .ref q3, .ref q4, .null, .int 0])), (q1, .inl (cs 0, (12, .inl (fun _ => 0)))), (q2, .inl (cs 0, (96, .inl (fun _ => 0)))), (q3, .inl (cs 0, (96, .inl (fun _ => 0)))), (q4, .inl (cs 0, (96, .inl (fun _ => 0))))] := hD
  refine lv_aload_n (pc := 36) hx hb dX6_init_36 rfl (lv_at hl 0 rfl) ?_
  refine lv_bipush (pc := 37) (v := 8) hx hb dX6_init_37 (by decide) ?_
  refine k_newI (pc := 39) F hP hD hS 8 kx_arr (by decide) (by decide) (by decide) (by omega) (by omega) dX6_init_39 (fun q5 H hP hD hS => ?_)
  have hP : va_P (dC, dI) vwCl [(h0, .inr (6, [.null, .null, .null, .ref q1, .ref q2, .ref q3, .ref q4, .null, .int 0])), (q1, .inl (cs 0, (12, .inl (fun _ => 0)))), (q2, .inl (cs 0, (96, .inl (fun _ => 0)))), (q3, .inl (cs 0, (96, .inl (fun _ => 0)))), (q4, .inl (cs 0, (96, .inl (fun _ => 0)))), (q5, .inl (cs 0, (8, .inl (fun _ => 0))))] H := hP
  have hD : va_D A [(h0, .inr (6, [.null, .null, .null, .ref q1, .ref q2, .ref q3, .ref q4, .null, .int 0])), (q1, .inl (cs 0, (12, .inl (fun _ => 0)))), (q2, .inl (cs 0, (96, .inl (fun _ => 0)))), (q3, .inl (cs 0, (96, .inl (fun _ => 0)))), (q4, .inl (cs 0, (96, .inl (fun _ => 0)))), (q5, .inl (cs 0, (8, .inl (fun _ => 0))))] := hD
  refine k_putF (pc := 41) F hP hD hS 0 rfl vc_X6 vi_X6 tyX6_ok nmX6 7 (by decide) kf_X6_24 rfl rfl rfl rfl (Nat.le_of_ble_eq_true rfl) dX6_init_41 (fun H locs hP hD hS => ?_)
  have hP : va_P (dC, dI) vwCl [(h0, .inr (6, [.null, .null, .null, .ref q1, .ref q2, .ref q3, .ref q4, .ref q5, .int 0])), (q1, .inl (cs 0, (12, .inl (fun _ => 0)))), (q2, .inl (cs 0, (96, .inl (fun _ => 0)))), (q3, .inl (cs 0, (96, .inl (fun _ => 0)))), (q4, .inl (cs 0, (96, .inl (fun _ => 0)))), (q5, .inl (cs 0, (8, .inl (fun _ => 0))))] H := hP
  have hD : va_D A [(h0, .inr (6, [.null, .null, .null, .ref q1, .ref q2, .ref q3, .ref q4, .ref q5, .int 0])), (q1, .inl (cs 0, (12, .inl (fun _ => 0)))), (q2, .inl (cs 0, (96, .inl (fun _ => 0)))), (q3, .inl (cs 0, (96, .inl (fun _ => 0)))), (q4, .inl (cs 0, (96, .inl (fun _ => 0)))), (q5, .inl (cs 0, (8, .inl (fun _ => 0))))] := hD
  refine lv_aload_n (pc := 44) hx hb dX6_init_44 rfl (lv_at hl 0 rfl) ?_
  refine lv_iconst (pc := 45) (v := 0) hx hb dX6_init_45 (by decide) ?_
  refine k_put (pc := 46) F hP hD hS 0 rfl vc_X6 vi_X6 tyX6_ok nmX6 8 (by decide) kf_X6_27 rfl rfl rfl (Nat.le_of_ble_eq_true rfl) dX6_init_46 (fun H locs hP hD hS => ?_)
  have hP : va_P (dC, dI) vwCl [(h0, .inr (6, [.null, .null, .null, .ref q1, .ref q2, .ref q3, .ref q4, .ref q5, .int (0 : Int32)])), (q1, .inl (cs 0, (12, .inl (fun _ => 0)))), (q2, .inl (cs 0, (96, .inl (fun _ => 0)))), (q3, .inl (cs 0, (96, .inl (fun _ => 0)))), (q4, .inl (cs 0, (96, .inl (fun _ => 0)))), (q5, .inl (cs 0, (8, .inl (fun _ => 0))))] H := hP
  have hD : va_D A [(h0, .inr (6, [.null, .null, .null, .ref q1, .ref q2, .ref q3, .ref q4, .ref q5, .int (0 : Int32)])), (q1, .inl (cs 0, (12, .inl (fun _ => 0)))), (q2, .inl (cs 0, (96, .inl (fun _ => 0)))), (q3, .inl (cs 0, (96, .inl (fun _ => 0)))), (q4, .inl (cs 0, (96, .inl (fun _ => 0)))), (q5, .inl (cs 0, (8, .inl (fun _ => 0))))] := hD
  refine lv_aload_n (pc := 49) hx hb dX6_init_49 rfl (lv_at hl 0 rfl) ?_
  refine lv_aload_n (pc := 50) hx hb dX6_init_50 rfl (lv_at hl 1 rfl) ?_
  refine k_putF (pc := 51) F hP hD hS 0 rfl vc_X6 vi_X6 tyX6_ok nmX6 0 (by decide) kf_X6_31 rfl rfl rfl rfl (Nat.le_of_ble_eq_true rfl) dX6_init_51 (fun H locs hP hD hS => ?_)
  have hP : va_P (dC, dI) vwCl [(h0, .inr (6, [.ref a1, .null, .null, .ref q1, .ref q2, .ref q3, .ref q4, .ref q5, .int (0 : Int32)])), (q1, .inl (cs 0, (12, .inl (fun _ => 0)))), (q2, .inl (cs 0, (96, .inl (fun _ => 0)))), (q3, .inl (cs 0, (96, .inl (fun _ => 0)))), (q4, .inl (cs 0, (96, .inl (fun _ => 0)))), (q5, .inl (cs 0, (8, .inl (fun _ => 0))))] H := hP
  have hD : va_D A [(h0, .inr (6, [.ref a1, .null, .null, .ref q1, .ref q2, .ref q3, .ref q4, .ref q5, .int (0 : Int32)])), (q1, .inl (cs 0, (12, .inl (fun _ => 0)))), (q2, .inl (cs 0, (96, .inl (fun _ => 0)))), (q3, .inl (cs 0, (96, .inl (fun _ => 0)))), (q4, .inl (cs 0, (96, .inl (fun _ => 0)))), (q5, .inl (cs 0, (8, .inl (fun _ => 0))))] := hD
  refine lv_aload_n (pc := 54) hx hb dX6_init_54 rfl (lv_at hl 0 rfl) ?_
  refine lv_aload_n (pc := 55) hx hb dX6_init_55 rfl (lv_at hl 2 rfl) ?_
  refine k_putF (pc := 56) F hP hD hS 0 rfl vc_X6 vi_X6 tyX6_ok nmX6 1 (by decide) kf_X6_35 rfl rfl rfl rfl (Nat.le_of_ble_eq_true rfl) dX6_init_56 (fun H locs hP hD hS => ?_)
  have hP : va_P (dC, dI) vwCl [(h0, .inr (6, [.ref a1, .ref a2, .null, .ref q1, .ref q2, .ref q3, .ref q4, .ref q5, .int (0 : Int32)])), (q1, .inl (cs 0, (12, .inl (fun _ => 0)))), (q2, .inl (cs 0, (96, .inl (fun _ => 0)))), (q3, .inl (cs 0, (96, .inl (fun _ => 0)))), (q4, .inl (cs 0, (96, .inl (fun _ => 0)))), (q5, .inl (cs 0, (8, .inl (fun _ => 0))))] H := hP
  have hD : va_D A [(h0, .inr (6, [.ref a1, .ref a2, .null, .ref q1, .ref q2, .ref q3, .ref q4, .ref q5, .int (0 : Int32)])), (q1, .inl (cs 0, (12, .inl (fun _ => 0)))), (q2, .inl (cs 0, (96, .inl (fun _ => 0)))), (q3, .inl (cs 0, (96, .inl (fun _ => 0)))), (q4, .inl (cs 0, (96, .inl (fun _ => 0)))), (q5, .inl (cs 0, (8, .inl (fun _ => 0))))] := hD
  refine lv_aload_n (pc := 59) hx hb dX6_init_59 rfl (lv_at hl 0 rfl) ?_
  refine lv_aload_n (pc := 60) hx hb dX6_init_60 rfl (lv_at hl 3 rfl) ?_
  refine k_putF (pc := 61) F hP hD hS 0 rfl vc_X6 vi_X6 tyX6_ok nmX6 2 (by decide) kf_X6_39 rfl rfl rfl rfl (Nat.le_of_ble_eq_true rfl) dX6_init_61 (fun H locs hP hD hS => ?_)
  have hP : va_P (dC, dI) vwCl [(h0, .inr (6, [.ref a1, .ref a2, .ref a3, .ref q1, .ref q2, .ref q3, .ref q4, .ref q5, .int (0 : Int32)])), (q1, .inl (cs 0, (12, .inl (fun _ => 0)))), (q2, .inl (cs 0, (96, .inl (fun _ => 0)))), (q3, .inl (cs 0, (96, .inl (fun _ => 0)))), (q4, .inl (cs 0, (96, .inl (fun _ => 0)))), (q5, .inl (cs 0, (8, .inl (fun _ => 0))))] H := hP
  have hD : va_D A [(h0, .inr (6, [.ref a1, .ref a2, .ref a3, .ref q1, .ref q2, .ref q3, .ref q4, .ref q5, .int (0 : Int32)])), (q1, .inl (cs 0, (12, .inl (fun _ => 0)))), (q2, .inl (cs 0, (96, .inl (fun _ => 0)))), (q3, .inl (cs 0, (96, .inl (fun _ => 0)))), (q4, .inl (cs 0, (96, .inl (fun _ => 0)))), (q5, .inl (cs 0, (8, .inl (fun _ => 0))))] := hD
  exact k_ret (pc := 64) F (fun i => [q1, q2, q3, q4, q5].getD i 0) (hP.sub [0, 1, 2, 3, 4, 5] rfl) (hD.sub [0, 1, 2, 3, 4, 5] (by decide) rfl) hS (by omega) (by omega) dX6_init_64
abbrev wq_X10_init (h0 : Nat) (a1 : Nat) (a2 : Nat) (a3 : Nat) (cs : Nat → ClassId) (q : Nat → Nat) : va_W := [(h0, .inr (10, [.ref a1, .ref a2, .ref a3, .ref (q 0), .int (0 : Int32), .int (0 : Int32)])), ((q 0), .inl (cs 0, (72, .inl (fun _ => 0))))]
theorem dX10_init_0 : decode cX10_init 0 = .ok (.aload_n 0, 1) := by decide +kernel
theorem dX10_init_1 : decode cX10_init 1 = .ok (.invokespecial 3, 3) := by decide +kernel
theorem dX10_init_4 : decode cX10_init 4 = .ok (.aload_n 0, 1) := by decide +kernel
theorem dX10_init_5 : decode cX10_init 5 = .ok (.bipush 72, 2) := by decide +kernel
theorem dX10_init_7 : decode cX10_init 7 = .ok (.newarray .int, 2) := by decide +kernel
theorem dX10_init_9 : decode cX10_init 9 = .ok (.putfield 11, 3) := by decide +kernel
theorem dX10_init_12 : decode cX10_init 12 = .ok (.aload_n 0, 1) := by decide +kernel
theorem dX10_init_13 : decode cX10_init 13 = .ok (.iconst 0, 1) := by decide +kernel
theorem dX10_init_14 : decode cX10_init 14 = .ok (.putfield 17, 3) := by decide +kernel
theorem dX10_init_17 : decode cX10_init 17 = .ok (.aload_n 0, 1) := by decide +kernel
theorem dX10_init_18 : decode cX10_init 18 = .ok (.iconst 0, 1) := by decide +kernel
theorem dX10_init_19 : decode cX10_init 19 = .ok (.putfield 21, 3) := by decide +kernel
theorem dX10_init_22 : decode cX10_init 22 = .ok (.aload_n 0, 1) := by decide +kernel
theorem dX10_init_23 : decode cX10_init 23 = .ok (.aload_n 1, 1) := by decide +kernel
theorem dX10_init_24 : decode cX10_init 24 = .ok (.putfield 24, 3) := by decide +kernel
theorem dX10_init_27 : decode cX10_init 27 = .ok (.aload_n 0, 1) := by decide +kernel
theorem dX10_init_28 : decode cX10_init 28 = .ok (.aload_n 2, 1) := by decide +kernel
theorem dX10_init_29 : decode cX10_init 29 = .ok (.putfield 28, 3) := by decide +kernel
theorem dX10_init_32 : decode cX10_init 32 = .ok (.aload_n 0, 1) := by decide +kernel
theorem dX10_init_33 : decode cX10_init 33 = .ok (.aload_n 3, 1) := by decide +kernel
theorem dX10_init_34 : decode cX10_init 34 = .ok (.putfield 32, 3) := by decide +kernel
theorem dX10_init_37 : decode cX10_init 37 = .ok (.return_, 1) := by decide +kernel
set_option maxRecDepth 100000 in
set_option maxHeartbeats 8000000 in
theorem c_X10_init (h0 : Nat) (a1 : Nat) (a2 : Nat) (a3 : Nat) : MK yX10_init cX10_init 4 1 12 1 72 [.ref h0, .ref a1, .ref a2, .ref a3] (fun _ => [(h0, .inr (10, [.null, .null, .null, .null, .int 0, .int 0]))]) (wq_X10_init h0 a1 a2 a3) := by
  refine MK.of RX10 [(0, .ref h0), (1, .ref a1), (2, .ref a2), (3, .ref a3)] (by decide) rfl rfl (Nat.le_of_ble_eq_true rfl) rfl ?_
  intro p l e R s m args below meth c dC dI cs A H locs ls hR1 hR2 hRc hRs F hP hD hS hl
  have hx := F.1.1
  have hb := F.1.2.1
  refine lv_aload_n (pc := 0) hx hb dX10_init_0 rfl (lv_at hl 0 rfl) ?_
  refine k_obj (pc := 1) F klo_X10 kio kco hl.1 (by omega) (by omega) dX10_init_1 ?_
  refine lv_aload_n (pc := 4) hx hb dX10_init_4 rfl (lv_at hl 0 rfl) ?_
  refine lv_bipush (pc := 5) (v := 72) hx hb dX10_init_5 (by decide) ?_
  refine k_newI (pc := 7) F hP hD hS 72 kx_arr (by decide) (by decide) (by decide) (by omega) (by omega) dX10_init_7 (fun q1 H hP hD hS => ?_)
  have hP : va_P (dC, dI) vwCl [(h0, .inr (10, [.null, .null, .null, .null, .int 0, .int 0])), (q1, .inl (cs 0, (72, .inl (fun _ => 0))))] H := hP
  have hD : va_D A [(h0, .inr (10, [.null, .null, .null, .null, .int 0, .int 0])), (q1, .inl (cs 0, (72, .inl (fun _ => 0))))] := hD
  refine k_putF (pc := 9) F hP hD hS 0 rfl vc_X10 vi_X10 tyX10_ok nmX10 3 (by decide) kf_X10_11 rfl rfl rfl rfl (Nat.le_of_ble_eq_true rfl) dX10_init_9 (fun H locs hP hD hS => ?_)
  have hP : va_P (dC, dI) vwCl [(h0, .inr (10, [.null, .null, .null, .ref q1, .int 0, .int 0])), (q1, .inl (cs 0, (72, .inl (fun _ => 0))))] H := hP
  have hD : va_D A [(h0, .inr (10, [.null, .null, .null, .ref q1, .int 0, .int 0])), (q1, .inl (cs 0, (72, .inl (fun _ => 0))))] := hD
  refine lv_aload_n (pc := 12) hx hb dX10_init_12 rfl (lv_at hl 0 rfl) ?_
  refine lv_iconst (pc := 13) (v := 0) hx hb dX10_init_13 (by decide) ?_
  refine k_put (pc := 14) F hP hD hS 0 rfl vc_X10 vi_X10 tyX10_ok nmX10 4 (by decide) kf_X10_17 rfl rfl rfl (Nat.le_of_ble_eq_true rfl) dX10_init_14 (fun H locs hP hD hS => ?_)
  have hP : va_P (dC, dI) vwCl [(h0, .inr (10, [.null, .null, .null, .ref q1, .int (0 : Int32), .int 0])), (q1, .inl (cs 0, (72, .inl (fun _ => 0))))] H := hP
  have hD : va_D A [(h0, .inr (10, [.null, .null, .null, .ref q1, .int (0 : Int32), .int 0])), (q1, .inl (cs 0, (72, .inl (fun _ => 0))))] := hD
  refine lv_aload_n (pc := 17) hx hb dX10_init_17 rfl (lv_at hl 0 rfl) ?_
  refine lv_iconst (pc := 18) (v := 0) hx hb dX10_init_18 (by decide) ?_
  refine k_put (pc := 19) F hP hD hS 0 rfl vc_X10 vi_X10 tyX10_ok nmX10 5 (by decide) kf_X10_21 rfl rfl rfl (Nat.le_of_ble_eq_true rfl) dX10_init_19 (fun H locs hP hD hS => ?_)
  have hP : va_P (dC, dI) vwCl [(h0, .inr (10, [.null, .null, .null, .ref q1, .int (0 : Int32), .int (0 : Int32)])), (q1, .inl (cs 0, (72, .inl (fun _ => 0))))] H := hP
  have hD : va_D A [(h0, .inr (10, [.null, .null, .null, .ref q1, .int (0 : Int32), .int (0 : Int32)])), (q1, .inl (cs 0, (72, .inl (fun _ => 0))))] := hD
  refine lv_aload_n (pc := 22) hx hb dX10_init_22 rfl (lv_at hl 0 rfl) ?_
  refine lv_aload_n (pc := 23) hx hb dX10_init_23 rfl (lv_at hl 1 rfl) ?_
  refine k_putF (pc := 24) F hP hD hS 0 rfl vc_X10 vi_X10 tyX10_ok nmX10 0 (by decide) kf_X10_24 rfl rfl rfl rfl (Nat.le_of_ble_eq_true rfl) dX10_init_24 (fun H locs hP hD hS => ?_)
  have hP : va_P (dC, dI) vwCl [(h0, .inr (10, [.ref a1, .null, .null, .ref q1, .int (0 : Int32), .int (0 : Int32)])), (q1, .inl (cs 0, (72, .inl (fun _ => 0))))] H := hP
  have hD : va_D A [(h0, .inr (10, [.ref a1, .null, .null, .ref q1, .int (0 : Int32), .int (0 : Int32)])), (q1, .inl (cs 0, (72, .inl (fun _ => 0))))] := hD
  refine lv_aload_n (pc := 27) hx hb dX10_init_27 rfl (lv_at hl 0 rfl) ?_
  refine lv_aload_n (pc := 28) hx hb dX10_init_28 rfl (lv_at hl 2 rfl) ?_
  refine k_putF (pc := 29) F hP hD hS 0 rfl vc_X10 vi_X10 tyX10_ok nmX10 1 (by decide) kf_X10_28 rfl rfl rfl rfl (Nat.le_of_ble_eq_true rfl) dX10_init_29 (fun H locs hP hD hS => ?_)
  have hP : va_P (dC, dI) vwCl [(h0, .inr (10, [.ref a1, .ref a2, .null, .ref q1, .int (0 : Int32), .int (0 : Int32)])), (q1, .inl (cs 0, (72, .inl (fun _ => 0))))] H := hP
  have hD : va_D A [(h0, .inr (10, [.ref a1, .ref a2, .null, .ref q1, .int (0 : Int32), .int (0 : Int32)])), (q1, .inl (cs 0, (72, .inl (fun _ => 0))))] := hD
  refine lv_aload_n (pc := 32) hx hb dX10_init_32 rfl (lv_at hl 0 rfl) ?_
  refine lv_aload_n (pc := 33) hx hb dX10_init_33 rfl (lv_at hl 3 rfl) ?_
  refine k_putF (pc := 34) F hP hD hS 0 rfl vc_X10 vi_X10 tyX10_ok nmX10 2 (by decide) kf_X10_32 rfl rfl rfl rfl (Nat.le_of_ble_eq_true rfl) dX10_init_34 (fun H locs hP hD hS => ?_)
  have hP : va_P (dC, dI) vwCl [(h0, .inr (10, [.ref a1, .ref a2, .ref a3, .ref q1, .int (0 : Int32), .int (0 : Int32)])), (q1, .inl (cs 0, (72, .inl (fun _ => 0))))] H := hP
  have hD : va_D A [(h0, .inr (10, [.ref a1, .ref a2, .ref a3, .ref q1, .int (0 : Int32), .int (0 : Int32)])), (q1, .inl (cs 0, (72, .inl (fun _ => 0))))] := hD
  exact k_ret (pc := 37) F (fun i => [q1].getD i 0) (hP.sub [0, 1] rfl) (hD.sub [0, 1] (by decide) rfl) hS (by omega) (by omega) dX10_init_37
abbrev wq_X0_init (h0 : Nat) (a1 : Nat) (a2 : Nat) (a3 : Nat) (cs : Nat → ClassId) (q : Nat → Nat) : va_W := [(h0, .inr (0, [.ref a1, .ref a2, .ref a3, .ref (q 0)])), ((q 0), .inl (cs 1, (100, .inl (fun _ => 0))))]
theorem dX0_init_0 : decode cX0_init 0 = .ok (.aload_n 0, 1) := by decide +kernel
theorem dX0_init_1 : decode cX0_init 1 = .ok (.invokespecial 3, 3) := by decide +kernel
theorem dX0_init_4 : decode cX0_init 4 = .ok (.aload_n 0, 1) := by decide +kernel
theorem dX0_init_5 : decode cX0_init 5 = .ok (.bipush 100, 2) := by decide +kernel
theorem dX0_init_7 : decode cX0_init 7 = .ok (.newarray .boolean, 2) := by decide +kernel
theorem dX0_init_9 : decode cX0_init 9 = .ok (.putfield 9, 3) := by decide +kernel
theorem dX0_init_12 : decode cX0_init 12 = .ok (.aload_n 0, 1) := by decide +kernel
theorem dX0_init_13 : decode cX0_init 13 = .ok (.aload_n 1, 1) := by decide +kernel
theorem dX0_init_14 : decode cX0_init 14 = .ok (.putfield 15, 3) := by decide +kernel
theorem dX0_init_17 : decode cX0_init 17 = .ok (.aload_n 0, 1) := by decide +kernel
theorem dX0_init_18 : decode cX0_init 18 = .ok (.aload_n 2, 1) := by decide +kernel
theorem dX0_init_19 : decode cX0_init 19 = .ok (.putfield 19, 3) := by decide +kernel
theorem dX0_init_22 : decode cX0_init 22 = .ok (.aload_n 0, 1) := by decide +kernel
theorem dX0_init_23 : decode cX0_init 23 = .ok (.aload_n 3, 1) := by decide +kernel
theorem dX0_init_24 : decode cX0_init 24 = .ok (.putfield 23, 3) := by decide +kernel
theorem dX0_init_27 : decode cX0_init 27 = .ok (.return_, 1) := by decide +kernel
set_option maxRecDepth 100000 in
set_option maxHeartbeats 8000000 in
theorem c_X0_init (h0 : Nat) (a1 : Nat) (a2 : Nat) (a3 : Nat) : MK yX0_init cX0_init 4 1 12 1 100 [.ref h0, .ref a1, .ref a2, .ref a3] (fun _ => [(h0, .inr (0, [.null, .null, .null, .null]))]) (wq_X0_init h0 a1 a2 a3) := by
  refine MK.of RX0 [(0, .ref h0), (1, .ref a1), (2, .ref a2), (3, .ref a3)] (by decide) rfl rfl (Nat.le_of_ble_eq_true rfl) rfl ?_
  intro p l e R s m args below meth c dC dI cs A H locs ls hR1 hR2 hRc hRs F hP hD hS hl
  have hx := F.1.1
  have hb := F.1.2.1
  refine lv_aload_n (pc := 0) hx hb dX0_init_0 rfl (lv_at hl 0 rfl) ?_
  refine k_obj (pc := 1) F klo_X0 kio kco hl.1 (by omega) (by omega) dX0_init_1 ?_
  refine lv_aload_n (pc := 4) hx hb dX0_init_4 rfl (lv_at hl 0 rfl) ?_
  refine lv_bipush (pc := 5) (v := 100) hx hb dX0_init_5 (by decide) ?_
  refine k_newZ (pc := 7) F hP hD hS 100 kx_arz (by decide) (by decide) (by decide) (by omega) (by omega) dX0_init_7 (fun q1 H hP hD hS => ?_)
  have hP : va_P (dC, dI) vwCl [(h0, .inr (0, [.null, .null, .null, .null])), (q1, .inl (cs 1, (100, .inl (fun _ => 0))))] H := hP
  have hD : va_D A [(h0, .inr (0, [.null, .null, .null, .null])), (q1, .inl (cs 1, (100, .inl (fun _ => 0))))] := hD
  refine k_putF (pc := 9) F hP hD hS 0 rfl vc_X0 vi_X0 tyX0_ok nmX0 3 (by decide) kf_X0_9 rfl rfl rfl rfl (Nat.le_of_ble_eq_true rfl) dX0_init_9 (fun H locs hP hD hS => ?_)
  have hP : va_P (dC, dI) vwCl [(h0, .inr (0, [.null, .null, .null, .ref q1])), (q1, .inl (cs 1, (100, .inl (fun _ => 0))))] H := hP
  have hD : va_D A [(h0, .inr (0, [.null, .null, .null, .ref q1])), (q1, .inl (cs 1, (100, .inl (fun _ => 0))))] := hD
  refine lv_aload_n (pc := 12) hx hb dX0_init_12 rfl (lv_at hl 0 rfl) ?_
  refine lv_aload_n (pc := 13) hx hb dX0_init_13 rfl (lv_at hl 1 rfl) ?_
  refine k_putF (pc := 14) F hP hD hS 0 rfl vc_X0 vi_X0 tyX0_ok nmX0 0 (by decide) kf_X0_15 rfl rfl rfl rfl (Nat.le_of_ble_eq_true rfl) dX0_init_14 (fun H locs hP hD hS => ?_)
  have hP : va_P (dC, dI) vwCl [(h0, .inr (0, [.ref a1, .null, .null, .ref q1])), (q1, .inl (cs 1, (100, .inl (fun _ => 0))))] H := hP
  have hD : va_D A [(h0, .inr (0, [.ref a1, .null, .null, .ref q1])), (q1, .inl (cs 1, (100, .inl (fun _ => 0))))] := hD
  refine lv_aload_n (pc := 17) hx hb dX0_init_17 rfl (lv_at hl 0 rfl) ?_
  refine lv_aload_n (pc := 18) hx hb dX0_init_18 rfl (lv_at hl 2 rfl) ?_
  refine k_putF (pc := 19) F hP hD hS 0 rfl vc_X0 vi_X0 tyX0_ok nmX0 1 (by decide) kf_X0_19 rfl rfl rfl rfl (Nat.le_of_ble_eq_true rfl) dX0_init_19 (fun H locs hP hD hS => ?_)
  have hP : va_P (dC, dI) vwCl [(h0, .inr (0, [.ref a1, .ref a2, .null, .ref q1])), (q1, .inl (cs 1, (100, .inl (fun _ => 0))))] H := hP
  have hD : va_D A [(h0, .inr (0, [.ref a1, .ref a2, .null, .ref q1])), (q1, .inl (cs 1, (100, .inl (fun _ => 0))))] := hD
  refine lv_aload_n (pc := 22) hx hb dX0_init_22 rfl (lv_at hl 0 rfl) ?_
  refine lv_aload_n (pc := 23) hx hb dX0_init_23 rfl (lv_at hl 3 rfl) ?_
  refine k_putF (pc := 24) F hP hD hS 0 rfl vc_X0 vi_X0 tyX0_ok nmX0 2 (by decide) kf_X0_23 rfl rfl rfl rfl (Nat.le_of_ble_eq_true rfl) dX0_init_24 (fun H locs hP hD hS => ?_)
  have hP : va_P (dC, dI) vwCl [(h0, .inr (0, [.ref a1, .ref a2, .ref a3, .ref q1])), (q1, .inl (cs 1, (100, .inl (fun _ => 0))))] H := hP
  have hD : va_D A [(h0, .inr (0, [.ref a1, .ref a2, .ref a3, .ref q1])), (q1, .inl (cs 1, (100, .inl (fun _ => 0))))] := hD
  exact k_ret (pc := 27) F (fun i => [q1].getD i 0) (hP.sub [0, 1] rfl) (hD.sub [0, 1] (by decide) rfl) hS (by omega) (by omega) dX0_init_27
abbrev wq_X1_init (h0 : Nat)  (cs : Nat → ClassId) (q : Nat → Nat) : va_W := [(h0, .inr (1, [.ref ((q 0)), .ref (q 9), .ref (q 10), .int (0 : Int32), .int (0 : Int32), .int (0 : Int32), .int (0 : Int32), .int (0 : Int32)])), ((q 0), .inl (cs 2, (8, .inr (.inr (.inr (.inr (fun i => if i < 8 then some (q (i + 1)) else none))))))), ((q 1), .inl (cs 0, (946, .inl (fun _ => 0)))), ((q 2), .inl (cs 0, (946, .inl (fun _ => 0)))), ((q 3), .inl (cs 0, (946, .inl (fun _ => 0)))), ((q 4), .inl (cs 0, (946, .inl (fun _ => 0)))), ((q 5), .inl (cs 0, (946, .inl (fun _ => 0)))), ((q 6), .inl (cs 0, (946, .inl (fun _ => 0)))), ((q 7), .inl (cs 0, (946, .inl (fun _ => 0)))), ((q 8), .inl (cs 0, (946, .inl (fun _ => 0)))), ((q 9), .inl (cs 0, (40, .inl (fun _ => 0)))), ((q 10), .inl (cs 0, (40, .inl (fun _ => 0))))]
theorem dX1_init_0 : decode cX1_init 0 = .ok (.aload_n 0, 1) := by decide +kernel
theorem dX1_init_1 : decode cX1_init 1 = .ok (.invokespecial 3, 3) := by decide +kernel
theorem dX1_init_4 : decode cX1_init 4 = .ok (.aload_n 0, 1) := by decide +kernel
theorem dX1_init_5 : decode cX1_init 5 = .ok (.bipush 8, 2) := by decide +kernel
theorem dX1_init_7 : decode cX1_init 7 = .ok (.sipush 946, 3) := by decide +kernel
theorem dX1_init_10 : decode cX1_init 10 = .ok (.multianewarray 13 2, 4) := by decide +kernel
theorem dX1_init_14 : decode cX1_init 14 = .ok (.putfield 15, 3) := by decide +kernel
theorem dX1_init_17 : decode cX1_init 17 = .ok (.aload_n 0, 1) := by decide +kernel
theorem dX1_init_18 : decode cX1_init 18 = .ok (.bipush 40, 2) := by decide +kernel
theorem dX1_init_20 : decode cX1_init 20 = .ok (.newarray .int, 2) := by decide +kernel
theorem dX1_init_22 : decode cX1_init 22 = .ok (.putfield 18, 3) := by decide +kernel
theorem dX1_init_25 : decode cX1_init 25 = .ok (.aload_n 0, 1) := by decide +kernel
theorem dX1_init_26 : decode cX1_init 26 = .ok (.bipush 40, 2) := by decide +kernel
theorem dX1_init_28 : decode cX1_init 28 = .ok (.newarray .int, 2) := by decide +kernel
theorem dX1_init_30 : decode cX1_init 30 = .ok (.putfield 22, 3) := by decide +kernel
theorem dX1_init_33 : decode cX1_init 33 = .ok (.aload_n 0, 1) := by decide +kernel
theorem dX1_init_34 : decode cX1_init 34 = .ok (.iconst 0, 1) := by decide +kernel
theorem dX1_init_35 : decode cX1_init 35 = .ok (.putfield 25, 3) := by decide +kernel
theorem dX1_init_38 : decode cX1_init 38 = .ok (.aload_n 0, 1) := by decide +kernel
theorem dX1_init_39 : decode cX1_init 39 = .ok (.iconst 0, 1) := by decide +kernel
theorem dX1_init_40 : decode cX1_init 40 = .ok (.putfield 29, 3) := by decide +kernel
theorem dX1_init_43 : decode cX1_init 43 = .ok (.aload_n 0, 1) := by decide +kernel
theorem dX1_init_44 : decode cX1_init 44 = .ok (.iconst 0, 1) := by decide +kernel
theorem dX1_init_45 : decode cX1_init 45 = .ok (.putfield 32, 3) := by decide +kernel
theorem dX1_init_48 : decode cX1_init 48 = .ok (.aload_n 0, 1) := by decide +kernel
theorem dX1_init_49 : decode cX1_init 49 = .ok (.iconst 0, 1) := by decide +kernel
theorem dX1_init_50 : decode cX1_init 50 = .ok (.putfield 35, 3) := by decide +kernel
theorem dX1_init_53 : decode cX1_init 53 = .ok (.aload_n 0, 1) := by decide +kernel
theorem dX1_init_54 : decode cX1_init 54 = .ok (.iconst 0, 1) := by decide +kernel
theorem dX1_init_55 : decode cX1_init 55 = .ok (.putfield 38, 3) := by decide +kernel
theorem dX1_init_58 : decode cX1_init 58 = .ok (.return_, 1) := by decide +kernel
set_option maxRecDepth 100000 in
set_option maxHeartbeats 8000000 in
theorem c_X1_init (h0 : Nat)  : MK yX1_init cX1_init 1 1 12 11 7656 [.ref h0] (fun _ => [(h0, .inr (1, [.null, .null, .null, .int 0, .int 0, .int 0, .int 0, .int 0]))]) (wq_X1_init h0 ) := by
  refine MK.of RX1 [(0, .ref h0)] (by decide) rfl rfl (Nat.le_of_ble_eq_true rfl) rfl ?_
  intro p l e R s m args below meth c dC dI cs A H locs ls hR1 hR2 hRc hRs F hP hD hS hl
  have hx := F.1.1
  have hb := F.1.2.1
  refine lv_aload_n (pc := 0) hx hb dX1_init_0 rfl (lv_at hl 0 rfl) ?_
  refine k_obj (pc := 1) F klo_X1 kio kco hl.1 (by omega) (by omega) dX1_init_1 ?_
  refine lv_aload_n (pc := 4) hx hb dX1_init_4 rfl (lv_at hl 0 rfl) ?_
  refine lv_bipush (pc := 5) (v := 8) hx hb dX1_init_5 (by decide) ?_
  refine lv_sipush (pc := 7) (v := 946) hx hb dX1_init_7 (by decide) ?_
  refine k_kept (pc := 10) F hP hD hS 946 kcl_X1_13 (by decide) (by decide) (by decide) (by omega) (by omega) dX1_init_10 (fun q1 H hP hD hS => ?_)
  have hP : va_P (dC, dI) vwCl [(h0, .inr (1, [.null, .null, .null, .int 0, .int 0, .int 0, .int 0, .int 0])), ((q1 0), .inl (cs 2, (8, .inr (.inr (.inr (.inr (fun i => if i < 8 then some (q1 (i + 1)) else none))))))), ((q1 1), .inl (cs 0, (946, .inl (fun _ => 0)))), ((q1 2), .inl (cs 0, (946, .inl (fun _ => 0)))), ((q1 3), .inl (cs 0, (946, .inl (fun _ => 0)))), ((q1 4), .inl (cs 0, (946, .inl (fun _ => 0)))), ((q1 5), .inl (cs 0, (946, .inl (fun _ => 0)))), ((q1 6), .inl (cs 0, (946, .inl (fun _ => 0)))), ((q1 7), .inl (cs 0, (946, .inl (fun _ => 0)))), ((q1 8), .inl (cs 0, (946, .inl (fun _ => 0))))] H := hP
  have hD : va_D A [(h0, .inr (1, [.null, .null, .null, .int 0, .int 0, .int 0, .int 0, .int 0])), ((q1 0), .inl (cs 2, (8, .inr (.inr (.inr (.inr (fun i => if i < 8 then some (q1 (i + 1)) else none))))))), ((q1 1), .inl (cs 0, (946, .inl (fun _ => 0)))), ((q1 2), .inl (cs 0, (946, .inl (fun _ => 0)))), ((q1 3), .inl (cs 0, (946, .inl (fun _ => 0)))), ((q1 4), .inl (cs 0, (946, .inl (fun _ => 0)))), ((q1 5), .inl (cs 0, (946, .inl (fun _ => 0)))), ((q1 6), .inl (cs 0, (946, .inl (fun _ => 0)))), ((q1 7), .inl (cs 0, (946, .inl (fun _ => 0)))), ((q1 8), .inl (cs 0, (946, .inl (fun _ => 0))))] := hD
  refine k_putF (pc := 14) F hP hD hS 0 rfl vc_X1 vi_X1 tyX1_ok nmX1 0 (by decide) kf_X1_15 rfl rfl rfl rfl (Nat.le_of_ble_eq_true rfl) dX1_init_14 (fun H locs hP hD hS => ?_)
  have hP : va_P (dC, dI) vwCl [(h0, .inr (1, [.ref ((q1 0)), .null, .null, .int 0, .int 0, .int 0, .int 0, .int 0])), ((q1 0), .inl (cs 2, (8, .inr (.inr (.inr (.inr (fun i => if i < 8 then some (q1 (i + 1)) else none))))))), ((q1 1), .inl (cs 0, (946, .inl (fun _ => 0)))), ((q1 2), .inl (cs 0, (946, .inl (fun _ => 0)))), ((q1 3), .inl (cs 0, (946, .inl (fun _ => 0)))), ((q1 4), .inl (cs 0, (946, .inl (fun _ => 0)))), ((q1 5), .inl (cs 0, (946, .inl (fun _ => 0)))), ((q1 6), .inl (cs 0, (946, .inl (fun _ => 0)))), ((q1 7), .inl (cs 0, (946, .inl (fun _ => 0)))), ((q1 8), .inl (cs 0, (946, .inl (fun _ => 0))))] H := hP
  have hD : va_D A [(h0, .inr (1, [.ref ((q1 0)), .null, .null, .int 0, .int 0, .int 0, .int 0, .int 0])), ((q1 0), .inl (cs 2, (8, .inr (.inr (.inr (.inr (fun i => if i < 8 then some (q1 (i + 1)) else none))))))), ((q1 1), .inl (cs 0, (946, .inl (fun _ => 0)))), ((q1 2), .inl (cs 0, (946, .inl (fun _ => 0)))), ((q1 3), .inl (cs 0, (946, .inl (fun _ => 0)))), ((q1 4), .inl (cs 0, (946, .inl (fun _ => 0)))), ((q1 5), .inl (cs 0, (946, .inl (fun _ => 0)))), ((q1 6), .inl (cs 0, (946, .inl (fun _ => 0)))), ((q1 7), .inl (cs 0, (946, .inl (fun _ => 0)))), ((q1 8), .inl (cs 0, (946, .inl (fun _ => 0))))] := hD
  refine lv_aload_n (pc := 17) hx hb dX1_init_17 rfl (lv_at hl 0 rfl) ?_
  refine lv_bipush (pc := 18) (v := 40) hx hb dX1_init_18 (by decide) ?_
  refine k_newI (pc := 20) F hP hD hS 40 kx_arr (by decide) (by decide) (by decide) (by omega) (by omega) dX1_init_20 (fun q2 H hP hD hS => ?_)
  have hP : va_P (dC, dI) vwCl [(h0, .inr (1, [.ref ((q1 0)), .null, .null, .int 0, .int 0, .int 0, .int 0, .int 0])), ((q1 0), .inl (cs 2, (8, .inr (.inr (.inr (.inr (fun i => if i < 8 then some (q1 (i + 1)) else none))))))), ((q1 1), .inl (cs 0, (946, .inl (fun _ => 0)))), ((q1 2), .inl (cs 0, (946, .inl (fun _ => 0)))), ((q1 3), .inl (cs 0, (946, .inl (fun _ => 0)))), ((q1 4), .inl (cs 0, (946, .inl (fun _ => 0)))), ((q1 5), .inl (cs 0, (946, .inl (fun _ => 0)))), ((q1 6), .inl (cs 0, (946, .inl (fun _ => 0)))), ((q1 7), .inl (cs 0, (946, .inl (fun _ => 0)))), ((q1 8), .inl (cs 0, (946, .inl (fun _ => 0)))), (q2, .inl (cs 0, (40, .inl (fun _ => 0))))] H := hP
  have hD : va_D A [(h0, .inr (1, [.ref ((q1 0)), .null, .null, .int 0, .int 0, .int 0, .int 0, .int 0])), ((q1 0), .inl (cs 2, (8, .inr (.inr (.inr (.inr (fun i => if i < 8 then some (q1 (i + 1)) else none))))))), ((q1 1), .inl (cs 0, (946, .inl (fun _ => 0)))), ((q1 2), .inl (cs 0, (946, .inl (fun _ => 0)))), ((q1 3), .inl (cs 0, (946, .inl (fun _ => 0)))), ((q1 4), .inl (cs 0, (946, .inl (fun _ => 0)))), ((q1 5), .inl (cs 0, (946, .inl (fun _ => 0)))), ((q1 6), .inl (cs 0, (946, .inl (fun _ => 0)))), ((q1 7), .inl (cs 0, (946, .inl (fun _ => 0)))), ((q1 8), .inl (cs 0, (946, .inl (fun _ => 0)))), (q2, .inl (cs 0, (40, .inl (fun _ => 0))))] := hD
  refine k_putF (pc := 22) F hP hD hS 0 rfl vc_X1 vi_X1 tyX1_ok nmX1 1 (by decide) kf_X1_18 rfl rfl rfl rfl (Nat.le_of_ble_eq_true rfl) dX1_init_22 (fun H locs hP hD hS => ?_)
  have hP : va_P (dC, dI) vwCl [(h0, .inr (1, [.ref ((q1 0)), .ref q2, .null, .int 0, .int 0, .int 0, .int 0, .int 0])), ((q1 0), .inl (cs 2, (8, .inr (.inr (.inr (.inr (fun i => if i < 8 then some (q1 (i + 1)) else none))))))), ((q1 1), .inl (cs 0, (946, .inl (fun _ => 0)))), ((q1 2), .inl (cs 0, (946, .inl (fun _ => 0)))), ((q1 3), .inl (cs 0, (946, .inl (fun _ => 0)))), ((q1 4), .inl (cs 0, (946, .inl (fun _ => 0)))), ((q1 5), .inl (cs 0, (946, .inl (fun _ => 0)))), ((q1 6), .inl (cs 0, (946, .inl (fun _ => 0)))), ((q1 7), .inl (cs 0, (946, .inl (fun _ => 0)))), ((q1 8), .inl (cs 0, (946, .inl (fun _ => 0)))), (q2, .inl (cs 0, (40, .inl (fun _ => 0))))] H := hP
  have hD : va_D A [(h0, .inr (1, [.ref ((q1 0)), .ref q2, .null, .int 0, .int 0, .int 0, .int 0, .int 0])), ((q1 0), .inl (cs 2, (8, .inr (.inr (.inr (.inr (fun i => if i < 8 then some (q1 (i + 1)) else none))))))), ((q1 1), .inl (cs 0, (946, .inl (fun _ => 0)))), ((q1 2), .inl (cs 0, (946, .inl (fun _ => 0)))), ((q1 3), .inl (cs 0, (946, .inl (fun _ => 0)))), ((q1 4), .inl (cs 0, (946, .inl (fun _ => 0)))), ((q1 5), .inl (cs 0, (946, .inl (fun _ => 0)))), ((q1 6), .inl (cs 0, (946, .inl (fun _ => 0)))), ((q1 7), .inl (cs 0, (946, .inl (fun _ => 0)))), ((q1 8), .inl (cs 0, (946, .inl (fun _ => 0)))), (q2, .inl (cs 0, (40, .inl (fun _ => 0))))] := hD
  refine lv_aload_n (pc := 25) hx hb dX1_init_25 rfl (lv_at hl 0 rfl) ?_
  refine lv_bipush (pc := 26) (v := 40) hx hb dX1_init_26 (by decide) ?_
  refine k_newI (pc := 28) F hP hD hS 40 kx_arr (by decide) (by decide) (by decide) (by omega) (by omega) dX1_init_28 (fun q3 H hP hD hS => ?_)
  have hP : va_P (dC, dI) vwCl [(h0, .inr (1, [.ref ((q1 0)), .ref q2, .null, .int 0, .int 0, .int 0, .int 0, .int 0])), ((q1 0), .inl (cs 2, (8, .inr (.inr (.inr (.inr (fun i => if i < 8 then some (q1 (i + 1)) else none))))))), ((q1 1), .inl (cs 0, (946, .inl (fun _ => 0)))), ((q1 2), .inl (cs 0, (946, .inl (fun _ => 0)))), ((q1 3), .inl (cs 0, (946, .inl (fun _ => 0)))), ((q1 4), .inl (cs 0, (946, .inl (fun _ => 0)))), ((q1 5), .inl (cs 0, (946, .inl (fun _ => 0)))), ((q1 6), .inl (cs 0, (946, .inl (fun _ => 0)))), ((q1 7), .inl (cs 0, (946, .inl (fun _ => 0)))), ((q1 8), .inl (cs 0, (946, .inl (fun _ => 0)))), (q2, .inl (cs 0, (40, .inl (fun _ => 0)))), (q3, .inl (cs 0, (40, .inl (fun _ => 0))))] H := hP
  have hD : va_D A [(h0, .inr (1, [.ref ((q1 0)), .ref q2, .null, .int 0, .int 0, .int 0, .int 0, .int 0])), ((q1 0), .inl (cs 2, (8, .inr (.inr (.inr (.inr (fun i => if i < 8 then some (q1 (i + 1)) else none))))))), ((q1 1), .inl (cs 0, (946, .inl (fun _ => 0)))), ((q1 2), .inl (cs 0, (946, .inl (fun _ => 0)))), ((q1 3), .inl (cs 0, (946, .inl (fun _ => 0)))), ((q1 4), .inl (cs 0, (946, .inl (fun _ => 0)))), ((q1 5), .inl (cs 0, (946, .inl (fun _ => 0)))), ((q1 6), .inl (cs 0, (946, .inl (fun _ => 0)))), ((q1 7), .inl (cs 0, (946, .inl (fun _ => 0)))), ((q1 8), .inl (cs 0, (946, .inl (fun _ => 0)))), (q2, .inl (cs 0, (40, .inl (fun _ => 0)))), (q3, .inl (cs 0, (40, .inl (fun _ => 0))))] := hD
  refine k_putF (pc := 30) F hP hD hS 0 rfl vc_X1 vi_X1 tyX1_ok nmX1 2 (by decide) kf_X1_22 rfl rfl rfl rfl (Nat.le_of_ble_eq_true rfl) dX1_init_30 (fun H locs hP hD hS => ?_)
  have hP : va_P (dC, dI) vwCl [(h0, .inr (1, [.ref ((q1 0)), .ref q2, .ref q3, .int 0, .int 0, .int 0, .int 0, .int 0])), ((q1 0), .inl (cs 2, (8, .inr (.inr (.inr (.inr (fun i => if i < 8 then some (q1 (i + 1)) else none))))))), ((q1 1), .inl (cs 0, (946, .inl (fun _ => 0)))), ((q1 2), .inl (cs 0, (946, .inl (fun _ => 0)))), ((q1 3), .inl (cs 0, (946, .inl (fun _ => 0)))), ((q1 4), .inl (cs 0, (946, .inl (fun _ => 0)))), ((q1 5), .inl (cs 0, (946, .inl (fun _ => 0)))), ((q1 6), .inl (cs 0, (946, .inl (fun _ => 0)))), ((q1 7), .inl (cs 0, (946, .inl (fun _ => 0)))), ((q1 8), .inl (cs 0, (946, .inl (fun _ => 0)))), (q2, .inl (cs 0, (40, .inl (fun _ => 0)))), (q3, .inl (cs 0, (40, .inl (fun _ => 0))))] H := hP
  have hD : va_D A [(h0, .inr (1, [.ref ((q1 0)), .ref q2, .ref q3, .int 0, .int 0, .int 0, .int 0, .int 0])), ((q1 0), .inl (cs 2, (8, .inr (.inr (.inr (.inr (fun i => if i < 8 then some (q1 (i + 1)) else none))))))), ((q1 1), .inl (cs 0, (946, .inl (fun _ => 0)))), ((q1 2), .inl (cs 0, (946, .inl (fun _ => 0)))), ((q1 3), .inl (cs 0, (946, .inl (fun _ => 0)))), ((q1 4), .inl (cs 0, (946, .inl (fun _ => 0)))), ((q1 5), .inl (cs 0, (946, .inl (fun _ => 0)))), ((q1 6), .inl (cs 0, (946, .inl (fun _ => 0)))), ((q1 7), .inl (cs 0, (946, .inl (fun _ => 0)))), ((q1 8), .inl (cs 0, (946, .inl (fun _ => 0)))), (q2, .inl (cs 0, (40, .inl (fun _ => 0)))), (q3, .inl (cs 0, (40, .inl (fun _ => 0))))] := hD
  refine lv_aload_n (pc := 33) hx hb dX1_init_33 rfl (lv_at hl 0 rfl) ?_
  refine lv_iconst (pc := 34) (v := 0) hx hb dX1_init_34 (by decide) ?_
  refine k_put (pc := 35) F hP hD hS 0 rfl vc_X1 vi_X1 tyX1_ok nmX1 3 (by decide) kf_X1_25 rfl rfl rfl (Nat.le_of_ble_eq_true rfl) dX1_init_35 (fun H locs hP hD hS => ?_)
  have hP : va_P (dC, dI) vwCl [(h0, .inr (1, [.ref ((q1 0)), .ref q2, .ref q3, .int (0 : Int32), .int 0, .int 0, .int 0, .int 0])), ((q1 0), .inl (cs 2, (8, .inr (.inr (.inr (.inr (fun i => if i < 8 then some (q1 (i + 1)) else none))))))), ((q1 1), .inl (cs 0, (946, .inl (fun _ => 0)))), ((q1 2), .inl (cs 0, (946, .inl (fun _ => 0)))), ((q1 3), .inl (cs 0, (946, .inl (fun _ => 0)))), ((q1 4), .inl (cs 0, (946, .inl (fun _ => 0)))), ((q1 5), .inl (cs 0, (946, .inl (fun _ => 0)))), ((q1 6), .inl (cs 0, (946, .inl (fun _ => 0)))), ((q1 7), .inl (cs 0, (946, .inl (fun _ => 0)))), ((q1 8), .inl (cs 0, (946, .inl (fun _ => 0)))), (q2, .inl (cs 0, (40, .inl (fun _ => 0)))), (q3, .inl (cs 0, (40, .inl (fun _ => 0))))] H := hP
  have hD : va_D A [(h0, .inr (1, [.ref ((q1 0)), .ref q2, .ref q3, .int (0 : Int32), .int 0, .int 0, .int 0, .int 0])), ((q1 0), .inl (cs 2, (8, .inr (.inr (.inr (.inr (fun i => if i < 8 then some (q1 (i + 1)) else none))))))), ((q1 1), .inl (cs 0, (946, .inl (fun _ => 0)))), ((q1 2), .inl (cs 0, (946, .inl (fun _ => 0)))), ((q1 3), .inl (cs 0, (946, .inl (fun _ => 0)))), ((q1 4), .inl (cs 0, (946, .inl (fun _ => 0)))), ((q1 5), .inl (cs 0, (946, .inl (fun _ => 0)))), ((q1 6), .inl (cs 0, (946, .inl (fun _ => 0)))), ((q1 7), .inl (cs 0, (946, .inl (fun _ => 0)))), ((q1 8), .inl (cs 0, (946, .inl (fun _ => 0)))), (q2, .inl (cs 0, (40, .inl (fun _ => 0)))), (q3, .inl (cs 0, (40, .inl (fun _ => 0))))] := hD
  refine lv_aload_n (pc := 38) hx hb dX1_init_38 rfl (lv_at hl 0 rfl) ?_
  refine lv_iconst (pc := 39) (v := 0) hx hb dX1_init_39 (by decide) ?_
  refine k_put (pc := 40) F hP hD hS 0 rfl vc_X1 vi_X1 tyX1_ok nmX1 4 (by decide) kf_X1_29 rfl rfl rfl (Nat.le_of_ble_eq_true rfl) dX1_init_40 (fun H locs hP hD hS => ?_)
  have hP : va_P (dC, dI) vwCl [(h0, .inr (1, [.ref ((q1 0)), .ref q2, .ref q3, .int (0 : Int32), .int (0 : Int32), .int 0, .int 0, .int 0])), ((q1 0), .inl (cs 2, (8, .inr (.inr (.inr (.inr (fun i => if i < 8 then some (q1 (i + 1)) else none))))))), ((q1 1), .inl (cs 0, (946, .inl (fun _ => 0)))), ((q1 2), .inl (cs 0, (946, .inl (fun _ => 0)))), ((q1 3), .inl (cs 0, (946, .inl (fun _ => 0)))), ((q1 4), .inl (cs 0, (946, .inl (fun _ => 0)))), ((q1 5), .inl (cs 0, (946, .inl (fun _ => 0)))), ((q1 6), .inl (cs 0, (946, .inl (fun _ => 0)))), ((q1 7), .inl (cs 0, (946, .inl (fun _ => 0)))), ((q1 8), .inl (cs 0, (946, .inl (fun _ => 0)))), (q2, .inl (cs 0, (40, .inl (fun _ => 0)))), (q3, .inl (cs 0, (40, .inl (fun _ => 0))))] H := hP
  have hD : va_D A [(h0, .inr (1, [.ref ((q1 0)), .ref q2, .ref q3, .int (0 : Int32), .int (0 : Int32), .int 0, .int 0, .int 0])), ((q1 0), .inl (cs 2, (8, .inr (.inr (.inr (.inr (fun i => if i < 8 then some (q1 (i + 1)) else none))))))), ((q1 1), .inl (cs 0, (946, .inl (fun _ => 0)))), ((q1 2), .inl (cs 0, (946, .inl (fun _ => 0)))), ((q1 3), .inl (cs 0, (946, .inl (fun _ => 0)))), ((q1 4), .inl (cs 0, (946, .inl (fun _ => 0)))), ((q1 5), .inl (cs 0, (946, .inl (fun _ => 0)))), ((q1 6), .inl (cs 0, (946, .inl (fun _ => 0)))), ((q1 7), .inl (cs 0, (946, .inl (fun _ => 0)))), ((q1 8), .inl (cs 0, (946, .inl (fun _ => 0)))), (q2, .inl (cs 0, (40, .inl (fun _ => 0)))), (q3, .inl (cs 0, (40, .inl (fun _ => 0))))] := hD
  refine lv_aload_n (pc := 43) hx hb dX1_init_43 rfl (lv_at hl 0 rfl) ?_
  refine lv_iconst (pc := 44) (v := 0) hx hb dX1_init_44 (by decide) ?_
  refine k_put (pc := 45) F hP hD hS 0 rfl vc_X1 vi_X1 tyX1_ok nmX1 5 (by decide) kf_X1_32 rfl rfl rfl (Nat.le_of_ble_eq_true rfl) dX1_init_45 (fun H locs hP hD hS => ?_)
  have hP : va_P (dC, dI) vwCl [(h0, .inr (1, [.ref ((q1 0)), .ref q2, .ref q3, .int (0 : Int32), .int (0 : Int32), .int (0 : Int32), .int 0, .int 0])), ((q1 0), .inl (cs 2, (8, .inr (.inr (.inr (.inr (fun i => if i < 8 then some (q1 (i + 1)) else none))))))), ((q1 1), .inl (cs 0, (946, .inl (fun _ => 0)))), ((q1 2), .inl (cs 0, (946, .inl (fun _ => 0)))), ((q1 3), .inl (cs 0, (946, .inl (fun _ => 0)))), ((q1 4), .inl (cs 0, (946, .inl (fun _ => 0)))), ((q1 5), .inl (cs 0, (946, .inl (fun _ => 0)))), ((q1 6), .inl (cs 0, (946, .inl (fun _ => 0)))), ((q1 7), .inl (cs 0, (946, .inl (fun _ => 0)))), ((q1 8), .inl (cs 0, (946, .inl (fun _ => 0)))), (q2, .inl (cs 0, (40, .inl (fun _ => 0)))), (q3, .inl (cs 0, (40, .inl (fun _ => 0))))] H := hP
  have hD : va_D A [(h0, .inr (1, [.ref ((q1 0)), .ref q2, .ref q3, .int (0 : Int32), .int (0 : Int32), .int (0 : Int32), .int 0, .int 0])), ((q1 0), .inl (cs 2, (8, .inr (.inr (.inr (.inr (fun i => if i < 8 then some (q1 (i + 1)) else none))))))), ((q1 1), .inl (cs 0, (946, .inl (fun _ => 0)))), ((q1 2), .inl (cs 0, (946, .inl (fun _ => 0)))), ((q1 3), .inl (cs 0, (946, .inl (fun _ => 0)))), ((q1 4), .inl (cs 0, (946, .inl (fun _ => 0)))), ((q1 5), .inl (cs 0, (946, .inl (fun _ => 0)))), ((q1 6), .inl (cs 0, (946, .inl (fun _ => 0)))), ((q1 7), .inl (cs 0, (946, .inl (fun _ => 0)))), ((q1 8), .inl (cs 0, (946, .inl (fun _ => 0)))), (q2, .inl (cs 0, (40, .inl (fun _ => 0)))), (q3, .inl (cs 0, (40, .inl (fun _ => 0))))] := hD
  refine lv_aload_n (pc := 48) hx hb dX1_init_48 rfl (lv_at hl 0 rfl) ?_
  refine lv_iconst (pc := 49) (v := 0) hx hb dX1_init_49 (by decide) ?_
  refine k_put (pc := 50) F hP hD hS 0 rfl vc_X1 vi_X1 tyX1_ok nmX1 6 (by decide) kf_X1_35 rfl rfl rfl (Nat.le_of_ble_eq_true rfl) dX1_init_50 (fun H locs hP hD hS => ?_)
  have hP : va_P (dC, dI) vwCl [(h0, .inr (1, [.ref ((q1 0)), .ref q2, .ref q3, .int (0 : Int32), .int (0 : Int32), .int (0 : Int32), .int (0 : Int32), .int 0])), ((q1 0), .inl (cs 2, (8, .inr (.inr (.inr (.inr (fun i => if i < 8 then some (q1 (i + 1)) else none))))))), ((q1 1), .inl (cs 0, (946, .inl (fun _ => 0)))), ((q1 2), .inl (cs 0, (946, .inl (fun _ => 0)))), ((q1 3), .inl (cs 0, (946, .inl (fun _ => 0)))), ((q1 4), .inl (cs 0, (946, .inl (fun _ => 0)))), ((q1 5), .inl (cs 0, (946, .inl (fun _ => 0)))), ((q1 6), .inl (cs 0, (946, .inl (fun _ => 0)))), ((q1 7), .inl (cs 0, (946, .inl (fun _ => 0)))), ((q1 8), .inl (cs 0, (946, .inl (fun _ => 0)))), (q2, .inl (cs 0, (40, .inl (fun _ => 0)))), (q3, .inl (cs 0, (40, .inl (fun _ => 0))))] H := hP
  have hD : va_D A [(h0, .inr (1, [.ref ((q1 0)), .ref q2, .ref q3, .int (0 : Int32), .int (0 : Int32), .int (0 : Int32), .int (0 : Int32), .int 0])), ((q1 0), .inl (cs 2, (8, .inr (.inr (.inr (.inr (fun i => if i < 8 then some (q1 (i + 1)) else none))))))), ((q1 1), .inl (cs 0, (946, .inl (fun _ => 0)))), ((q1 2), .inl (cs 0, (946, .inl (fun _ => 0)))), ((q1 3), .inl (cs 0, (946, .inl (fun _ => 0)))), ((q1 4), .inl (cs 0, (946, .inl (fun _ => 0)))), ((q1 5), .inl (cs 0, (946, .inl (fun _ => 0)))), ((q1 6), .inl (cs 0, (946, .inl (fun _ => 0)))), ((q1 7), .inl (cs 0, (946, .inl (fun _ => 0)))), ((q1 8), .inl (cs 0, (946, .inl (fun _ => 0)))), (q2, .inl (cs 0, (40, .inl (fun _ => 0)))), (q3, .inl (cs 0, (40, .inl (fun _ => 0))))] := hD
  refine lv_aload_n (pc := 53) hx hb dX1_init_53 rfl (lv_at hl 0 rfl) ?_
  refine lv_iconst (pc := 54) (v := 0) hx hb dX1_init_54 (by decide) ?_
  refine k_put (pc := 55) F hP hD hS 0 rfl vc_X1 vi_X1 tyX1_ok nmX1 7 (by decide) kf_X1_38 rfl rfl rfl (Nat.le_of_ble_eq_true rfl) dX1_init_55 (fun H locs hP hD hS => ?_)
  have hP : va_P (dC, dI) vwCl [(h0, .inr (1, [.ref ((q1 0)), .ref q2, .ref q3, .int (0 : Int32), .int (0 : Int32), .int (0 : Int32), .int (0 : Int32), .int (0 : Int32)])), ((q1 0), .inl (cs 2, (8, .inr (.inr (.inr (.inr (fun i => if i < 8 then some (q1 (i + 1)) else none))))))), ((q1 1), .inl (cs 0, (946, .inl (fun _ => 0)))), ((q1 2), .inl (cs 0, (946, .inl (fun _ => 0)))), ((q1 3), .inl (cs 0, (946, .inl (fun _ => 0)))), ((q1 4), .inl (cs 0, (946, .inl (fun _ => 0)))), ((q1 5), .inl (cs 0, (946, .inl (fun _ => 0)))), ((q1 6), .inl (cs 0, (946, .inl (fun _ => 0)))), ((q1 7), .inl (cs 0, (946, .inl (fun _ => 0)))), ((q1 8), .inl (cs 0, (946, .inl (fun _ => 0)))), (q2, .inl (cs 0, (40, .inl (fun _ => 0)))), (q3, .inl (cs 0, (40, .inl (fun _ => 0))))] H := hP
  have hD : va_D A [(h0, .inr (1, [.ref ((q1 0)), .ref q2, .ref q3, .int (0 : Int32), .int (0 : Int32), .int (0 : Int32), .int (0 : Int32), .int (0 : Int32)])), ((q1 0), .inl (cs 2, (8, .inr (.inr (.inr (.inr (fun i => if i < 8 then some (q1 (i + 1)) else none))))))), ((q1 1), .inl (cs 0, (946, .inl (fun _ => 0)))), ((q1 2), .inl (cs 0, (946, .inl (fun _ => 0)))), ((q1 3), .inl (cs 0, (946, .inl (fun _ => 0)))), ((q1 4), .inl (cs 0, (946, .inl (fun _ => 0)))), ((q1 5), .inl (cs 0, (946, .inl (fun _ => 0)))), ((q1 6), .inl (cs 0, (946, .inl (fun _ => 0)))), ((q1 7), .inl (cs 0, (946, .inl (fun _ => 0)))), ((q1 8), .inl (cs 0, (946, .inl (fun _ => 0)))), (q2, .inl (cs 0, (40, .inl (fun _ => 0)))), (q3, .inl (cs 0, (40, .inl (fun _ => 0))))] := hD
  have eg : (fun i => if i < 8 then some ((fun i => [(q1 0), (q1 1), (q1 2), (q1 3), (q1 4), (q1 5), (q1 6), (q1 7), (q1 8), q2, q3].getD i 0) (i + 1)) else none) = ((fun i => if i < 8 then some (q1 (i + 1)) else none) : Nat → Option Nat) := by
    funext i
    match i with
    | 0 => rfl
    | 1 => rfl
    | 2 => rfl
    | 3 => rfl
    | 4 => rfl
    | 5 => rfl
    | 6 => rfl
    | 7 => rfl
    | i + 8 => rw [if_neg (by omega), if_neg (by omega)]
  have hP2 : va_P (dC, dI) vwCl [(h0, .inr (1, [.ref ((q1 0)), .ref q2, .ref q3, .int (0 : Int32), .int (0 : Int32), .int (0 : Int32), .int (0 : Int32), .int (0 : Int32)])), ((q1 0), .inl (cs 2, (8, .inr (.inr (.inr (.inr (fun i => if i < 8 then some ((fun i => [(q1 0), (q1 1), (q1 2), (q1 3), (q1 4), (q1 5), (q1 6), (q1 7), (q1 8), q2, q3].getD i 0) (i + 1)) else none))))))), ((q1 1), .inl (cs 0, (946, .inl (fun _ => 0)))), ((q1 2), .inl (cs 0, (946, .inl (fun _ => 0)))), ((q1 3), .inl (cs 0, (946, .inl (fun _ => 0)))), ((q1 4), .inl (cs 0, (946, .inl (fun _ => 0)))), ((q1 5), .inl (cs 0, (946, .inl (fun _ => 0)))), ((q1 6), .inl (cs 0, (946, .inl (fun _ => 0)))), ((q1 7), .inl (cs 0, (946, .inl (fun _ => 0)))), ((q1 8), .inl (cs 0, (946, .inl (fun _ => 0)))), (q2, .inl (cs 0, (40, .inl (fun _ => 0)))), (q3, .inl (cs 0, (40, .inl (fun _ => 0))))] H := by rw [eg]; exact hP.sub [0, 1, 2, 3, 4, 5, 6, 7, 8, 9, 10, 11] rfl
  have hD2 : va_D A [(h0, .inr (1, [.ref ((q1 0)), .ref q2, .ref q3, .int (0 : Int32), .int (0 : Int32), .int (0 : Int32), .int (0 : Int32), .int (0 : Int32)])), ((q1 0), .inl (cs 2, (8, .inr (.inr (.inr (.inr (fun i => if i < 8 then some ((fun i => [(q1 0), (q1 1), (q1 2), (q1 3), (q1 4), (q1 5), (q1 6), (q1 7), (q1 8), q2, q3].getD i 0) (i + 1)) else none))))))), ((q1 1), .inl (cs 0, (946, .inl (fun _ => 0)))), ((q1 2), .inl (cs 0, (946, .inl (fun _ => 0)))), ((q1 3), .inl (cs 0, (946, .inl (fun _ => 0)))), ((q1 4), .inl (cs 0, (946, .inl (fun _ => 0)))), ((q1 5), .inl (cs 0, (946, .inl (fun _ => 0)))), ((q1 6), .inl (cs 0, (946, .inl (fun _ => 0)))), ((q1 7), .inl (cs 0, (946, .inl (fun _ => 0)))), ((q1 8), .inl (cs 0, (946, .inl (fun _ => 0)))), (q2, .inl (cs 0, (40, .inl (fun _ => 0)))), (q3, .inl (cs 0, (40, .inl (fun _ => 0))))] := by rw [eg]; exact hD.sub [0, 1, 2, 3, 4, 5, 6, 7, 8, 9, 10, 11] (by decide) rfl
  exact k_ret (pc := 58) F (fun i => [(q1 0), (q1 1), (q1 2), (q1 3), (q1 4), (q1 5), (q1 6), (q1 7), (q1 8), q2, q3].getD i 0) hP2 hD2 hS (by omega) (by omega) dX1_init_58
