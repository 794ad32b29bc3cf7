/-! ===== printed by wip/gen: X10_joinHooks X11_coupleAhead X11_couple X12_missSide X12_wayOf X12_openLink X12_isOpen X12_sideTo X12_lineUp X12_areTogether X12_note X12_suits ===== -/
def f_X10_joinHooks (a1 : Int32) (a2 : Int32) (S : SS) : Option (SS) :=
  bndv (f_X8_set (a1 >>> ((1 : Int32) &&& 31)) ((2 : Int32) + (a1 &&& (1 : Int32))) (a2 >>> ((1 : Int32) &&& 31)) S) (fun S1 =>
  bndv (f_X8_set (a2 >>> ((1 : Int32) &&& 31)) ((2 : Int32) + (a2 &&& (1 : Int32))) (a1 >>> ((1 : Int32) &&& 31)) S1) (fun S2 =>
  bndv (f_X10_renew (a1 >>> ((1 : Int32) &&& 31)) S2) (fun S3 =>
  some S3)))
theorem dX10_joinHooks_0 : decode cX10_joinHooks 0 = .ok (.aload_n 0, 1) := by decide +kernel
theorem dX10_joinHooks_1 : decode cX10_joinHooks 1 = .ok (.getfield 24, 3) := by decide +kernel
theorem dX10_joinHooks_4 : decode cX10_joinHooks 4 = .ok (.iload_n 1, 1) := by decide +kernel
theorem dX10_joinHooks_5 : decode cX10_joinHooks 5 = .ok (.iconst 1, 1) := by decide +kernel
theorem dX10_joinHooks_6 : decode cX10_joinHooks 6 = .ok (.ishr, 1) := by decide +kernel
theorem dX10_joinHooks_7 : decode cX10_joinHooks 7 = .ok (.iconst 2, 1) := by decide +kernel
theorem dX10_joinHooks_8 : decode cX10_joinHooks 8 = .ok (.iload_n 1, 1) := by decide +kernel
theorem dX10_joinHooks_9 : decode cX10_joinHooks 9 = .ok (.iconst 1, 1) := by decide +kernel
theorem dX10_joinHooks_10 : decode cX10_joinHooks 10 = .ok (.iand, 1) := by decide +kernel
theorem dX10_joinHooks_11 : decode cX10_joinHooks 11 = .ok (.iadd, 1) := by decide +kernel
theorem dX10_joinHooks_12 : decode cX10_joinHooks 12 = .ok (.iload_n 2, 1) := by decide +kernel
theorem dX10_joinHooks_13 : decode cX10_joinHooks 13 = .ok (.iconst 1, 1) := by decide +kernel
theorem dX10_joinHooks_14 : decode cX10_joinHooks 14 = .ok (.ishr, 1) := by decide +kernel
theorem dX10_joinHooks_15 : decode cX10_joinHooks 15 = .ok (.invokevirtual 50, 3) := by decide +kernel
theorem dX10_joinHooks_18 : decode cX10_joinHooks 18 = .ok (.aload_n 0, 1) := by decide +kernel
theorem dX10_joinHooks_19 : decode cX10_joinHooks 19 = .ok (.getfield 24, 3) := by decide +kernel
theorem dX10_joinHooks_22 : decode cX10_joinHooks 22 = .ok (.iload_n 2, 1) := by decide +kernel
theorem dX10_joinHooks_23 : decode cX10_joinHooks 23 = .ok (.iconst 1, 1) := by decide +kernel
theorem dX10_joinHooks_24 : decode cX10_joinHooks 24 = .ok (.ishr, 1) := by decide +kernel
theorem dX10_joinHooks_25 : decode cX10_joinHooks 25 = .ok (.iconst 2, 1) := by decide +kernel
theorem dX10_joinHooks_26 : decode cX10_joinHooks 26 = .ok (.iload_n 2, 1) := by decide +kernel
theorem dX10_joinHooks_27 : decode cX10_joinHooks 27 = .ok (.iconst 1, 1) := by decide +kernel
theorem dX10_joinHooks_28 : decode cX10_joinHooks 28 = .ok (.iand, 1) := by decide +kernel
theorem dX10_joinHooks_29 : decode cX10_joinHooks 29 = .ok (.iadd, 1) := by decide +kernel
theorem dX10_joinHooks_30 : decode cX10_joinHooks 30 = .ok (.iload_n 1, 1) := by decide +kernel
theorem dX10_joinHooks_31 : decode cX10_joinHooks 31 = .ok (.iconst 1, 1) := by decide +kernel
theorem dX10_joinHooks_32 : decode cX10_joinHooks 32 = .ok (.ishr, 1) := by decide +kernel
theorem dX10_joinHooks_33 : decode cX10_joinHooks 33 = .ok (.invokevirtual 50, 3) := by decide +kernel
theorem dX10_joinHooks_36 : decode cX10_joinHooks 36 = .ok (.aload_n 0, 1) := by decide +kernel
theorem dX10_joinHooks_37 : decode cX10_joinHooks 37 = .ok (.iload_n 1, 1) := by decide +kernel
theorem dX10_joinHooks_38 : decode cX10_joinHooks 38 = .ok (.iconst 1, 1) := by decide +kernel
theorem dX10_joinHooks_39 : decode cX10_joinHooks 39 = .ok (.ishr, 1) := by decide +kernel
theorem dX10_joinHooks_40 : decode cX10_joinHooks 40 = .ok (.invokevirtual 83, 3) := by decide +kernel
theorem dX10_joinHooks_43 : decode cX10_joinHooks 43 = .ok (.return_, 1) := by decide +kernel
set_option maxRecDepth 100000 in
set_option maxHeartbeats 4000000 in
theorem m_X10_joinHooks (a1 : Int32) (a2 : Int32) (S S' : SS) (h : f_X10_joinHooks a1 a2 S = some S') : MT yX10_joinHooks cX10_joinHooks 3 none 4 88 (fun ad => [.ref (ad 7), .int a1, .int a2]) S none S' := by
  refine MT.of RX10 (fun ad => [(0, .ref (ad 7)), (1, .int a1), (2, .int a2)]) (by decide) rfl (fun _ => Nat.le_of_ble_eq_true rfl) (fun _ => rfl) ?_
  intro p l e R s m args below meth c dC dI cs ad A hR1 hR2 F H locs ls w hl
  have hx := F.1.1
  have hb := F.1.2.1
  rw [f_X10_joinHooks] at h
  refine lv_aload_n (pc := 0) hx hb dX10_joinHooks_0 rfl (lv_at hl 0 rfl) ?_
  refine s_getR (pc := 1) F w 2 ds_7 (j := 0) vc_X10 vi_X10 rfl (by decide) kf_X10_24 dX10_joinHooks_1 ?_
  refine lv_iload_n (pc := 4) hx hb dX10_joinHooks_4 rfl (lv_at hl 1 rfl) ?_
  refine lv_iconst (pc := 5) (v := 1) hx hb dX10_joinHooks_5 (by decide) ?_
  refine lv_ishr (pc := 6) hx hb dX10_joinHooks_6 ?_
  refine lv_iconst (pc := 7) (v := 2) hx hb dX10_joinHooks_7 (by decide) ?_
  refine lv_iload_n (pc := 8) hx hb dX10_joinHooks_8 rfl (lv_at hl 1 rfl) ?_
  refine lv_iconst (pc := 9) (v := 1) hx hb dX10_joinHooks_9 (by decide) ?_
  refine lv_iand (pc := 10) hx hb dX10_joinHooks_10 ?_
  refine lv_iadd (pc := 11) hx hb dX10_joinHooks_11 ?_
  refine lv_iload_n (pc := 12) hx hb dX10_joinHooks_12 rfl (lv_at hl 2 rfl) ?_
  refine lv_iconst (pc := 13) (v := 1) hx hb dX10_joinHooks_13 (by decide) ?_
  refine lv_ishr (pc := 14) hx hb dX10_joinHooks_14 ?_
  obtain ⟨S1, hc, h⟩ := bndv_t h
  refine s_cvv (pc := 15) [.int (a1 >>> ((1 : Int32) &&& 31)), .int ((2 : Int32) + (a1 &&& (1 : Int32))), .int (a2 >>> ((1 : Int32) &&& 31))] (fun ad => [.ref (ad 2), .int (a1 >>> ((1 : Int32) &&& 31)), .int ((2 : Int32) + (a1 &&& (1 : Int32))), .int (a2 >>> ((1 : Int32) &&& 31))]) F w (m_X8_set _ _ _ _ _ hc) rfl rfl hl.1 ds_2 vc_X8 rfl ok_X8_set rfl kc_X8_set kl_X10_50 ki_X8_set kv_X8_set kn_X8 ⟨Nat.le_trans (by decide) hR1, Nat.le_trans (by decide) hR2⟩ ⟨Nat.zero_le _, Nat.zero_le _⟩ (Nat.le_of_ble_eq_true rfl) dX10_joinHooks_15 (fun H locs w => ?_)
  refine lv_aload_n (pc := 18) hx hb dX10_joinHooks_18 rfl (lv_at hl 0 rfl) ?_
  refine s_getR (pc := 19) F w 2 ds_7 (j := 0) vc_X10 vi_X10 rfl (by decide) kf_X10_24 dX10_joinHooks_19 ?_
  refine lv_iload_n (pc := 22) hx hb dX10_joinHooks_22 rfl (lv_at hl 2 rfl) ?_
  refine lv_iconst (pc := 23) (v := 1) hx hb dX10_joinHooks_23 (by decide) ?_
  refine lv_ishr (pc := 24) hx hb dX10_joinHooks_24 ?_
  refine lv_iconst (pc := 25) (v := 2) hx hb dX10_joinHooks_25 (by decide) ?_
  refine lv_iload_n (pc := 26) hx hb dX10_joinHooks_26 rfl (lv_at hl 2 rfl) ?_
  refine lv_iconst (pc := 27) (v := 1) hx hb dX10_joinHooks_27 (by decide) ?_
  refine lv_iand (pc := 28) hx hb dX10_joinHooks_28 ?_
  refine lv_iadd (pc := 29) hx hb dX10_joinHooks_29 ?_
  refine lv_iload_n (pc := 30) hx hb dX10_joinHooks_30 rfl (lv_at hl 1 rfl) ?_
  refine lv_iconst (pc := 31) (v := 1) hx hb dX10_joinHooks_31 (by decide) ?_
  refine lv_ishr (pc := 32) hx hb dX10_joinHooks_32 ?_
  obtain ⟨S2, hc, h⟩ := bndv_t h
  refine s_cvv (pc := 33) [.int (a2 >>> ((1 : Int32) &&& 31)), .int ((2 : Int32) + (a2 &&& (1 : Int32))), .int (a1 >>> ((1 : Int32) &&& 31))] (fun ad => [.ref (ad 2), .int (a2 >>> ((1 : Int32) &&& 31)), .int ((2 : Int32) + (a2 &&& (1 : Int32))), .int (a1 >>> ((1 : Int32) &&& 31))]) F w (m_X8_set _ _ _ _ _ hc) rfl rfl hl.1 ds_2 vc_X8 rfl ok_X8_set rfl kc_X8_set kl_X10_50 ki_X8_set kv_X8_set kn_X8 ⟨Nat.le_trans (by decide) hR1, Nat.le_trans (by decide) hR2⟩ ⟨Nat.zero_le _, Nat.zero_le _⟩ (Nat.le_of_ble_eq_true rfl) dX10_joinHooks_33 (fun H locs w => ?_)
  refine lv_aload_n (pc := 36) hx hb dX10_joinHooks_36 rfl (lv_at hl 0 rfl) ?_
  refine lv_iload_n (pc := 37) hx hb dX10_joinHooks_37 rfl (lv_at hl 1 rfl) ?_
  refine lv_iconst (pc := 38) (v := 1) hx hb dX10_joinHooks_38 (by decide) ?_
  refine lv_ishr (pc := 39) hx hb dX10_joinHooks_39 ?_
  obtain ⟨S3, hc, h⟩ := bndv_t h
  refine s_cvv (pc := 40) [.int (a1 >>> ((1 : Int32) &&& 31))] (fun ad => [.ref (ad 7), .int (a1 >>> ((1 : Int32) &&& 31))]) F w (m_X10_renew _ _ _ hc) rfl rfl hl.1 ds_7 vc_X10 rfl ok_X10_renew rfl kc_X10_renew kl_X10_83 ki_X10_renew kv_X10_renew kn_X10 ⟨Nat.le_trans (by decide) hR1, Nat.le_trans (by decide) hR2⟩ ⟨Nat.zero_le _, Nat.zero_le _⟩ (Nat.le_of_ble_eq_true rfl) dX10_joinHooks_40 (fun H locs w => ?_)
  exact s_vret F w h dX10_joinHooks_43
def f_X11_coupleAhead_j108   (S : SS) : Option (Int32 × SS) :=
    bnd (f_X5_found (13 : Int32) S) (fun r14 S13 =>
    some (r14, S13))
def f_X11_coupleAhead (a1 : Int32) (a2 : Int32) (S : SS) : Option (Int32 × SS) :=
  bnd (f_X11_namedSide a1 (127 : Int32) a2 S) (fun r2 S1 =>
  if r2 = 0 then
    nm (((2 : Int32) * a1) + a2) (fun z3 =>
    bnd (f_X10_nextFrom z3 S1) (fun r5 S4 =>
    bnd (f_X10_reachFinding z3 r5 S4) (fun r7 S6 =>
    if r7 = 0 then
      bnd (f_X10_hookAt r5 S6) (fun r9 S8 =>
      nm (r9 >>> ((1 : Int32) &&& 31)) (fun z10 =>
      bnd (f_X0_suits a1 z10 S8) (fun r12 S11 =>
      if r12 = 0 then
        f_X11_coupleAhead_j108  S11
      else
        bnd (f_X0_suits z10 a1 S11) (fun r16 S15 =>
        if r16 = 0 then
          f_X11_coupleAhead_j108  S15
        else
          bndv (f_X10_joinHooks z3 r9 S15) (fun S17 =>
          some (z10, S17))))))
    else
      bnd (f_X5_found r7 S6) (fun r19 S18 =>
      some (r19, S18)))))
  else
    bnd (f_X5_found r2 S1) (fun r21 S20 =>
    some (r21, S20)))
theorem dX11_coupleAhead_0 : decode cX11_coupleAhead 0 = .ok (.aload_n 0, 1) := by decide +kernel
theorem dX11_coupleAhead_1 : decode cX11_coupleAhead 1 = .ok (.iload_n 1, 1) := by decide +kernel
theorem dX11_coupleAhead_2 : decode cX11_coupleAhead 2 = .ok (.bipush 127, 2) := by decide +kernel
theorem dX11_coupleAhead_4 : decode cX11_coupleAhead 4 = .ok (.iload_n 2, 1) := by decide +kernel
theorem dX11_coupleAhead_5 : decode cX11_coupleAhead 5 = .ok (.invokevirtual 259, 3) := by decide +kernel
theorem dX11_coupleAhead_8 : decode cX11_coupleAhead 8 = .ok (.istore_n 3, 1) := by decide +kernel
theorem dX11_coupleAhead_9 : decode cX11_coupleAhead 9 = .ok (.iload_n 3, 1) := by decide +kernel
theorem dX11_coupleAhead_10 : decode cX11_coupleAhead 10 = .ok (.ifCond .eq 12, 3) := by decide +kernel
theorem dX11_coupleAhead_13 : decode cX11_coupleAhead 13 = .ok (.aload_n 0, 1) := by decide +kernel
theorem dX11_coupleAhead_14 : decode cX11_coupleAhead 14 = .ok (.getfield 10, 3) := by decide +kernel
theorem dX11_coupleAhead_17 : decode cX11_coupleAhead 17 = .ok (.iload_n 3, 1) := by decide +kernel
theorem dX11_coupleAhead_18 : decode cX11_coupleAhead 18 = .ok (.invokevirtual 98, 3) := by decide +kernel
theorem dX11_coupleAhead_21 : decode cX11_coupleAhead 21 = .ok (.ireturn, 1) := by decide +kernel
theorem dX11_coupleAhead_22 : decode cX11_coupleAhead 22 = .ok (.iconst 2, 1) := by decide +kernel
theorem dX11_coupleAhead_23 : decode cX11_coupleAhead 23 = .ok (.iload_n 1, 1) := by decide +kernel
theorem dX11_coupleAhead_24 : decode cX11_coupleAhead 24 = .ok (.imul, 1) := by decide +kernel
theorem dX11_coupleAhead_25 : decode cX11_coupleAhead 25 = .ok (.iload_n 2, 1) := by decide +kernel
theorem dX11_coupleAhead_26 : decode cX11_coupleAhead 26 = .ok (.iadd, 1) := by decide +kernel
theorem dX11_coupleAhead_27 : decode cX11_coupleAhead 27 = .ok (.istore 4, 2) := by decide +kernel
theorem dX11_coupleAhead_29 : decode cX11_coupleAhead 29 = .ok (.aload_n 0, 1) := by decide +kernel
theorem dX11_coupleAhead_30 : decode cX11_coupleAhead 30 = .ok (.getfield 58, 3) := by decide +kernel
theorem dX11_coupleAhead_33 : decode cX11_coupleAhead 33 = .ok (.iload 4, 2) := by decide +kernel
theorem dX11_coupleAhead_35 : decode cX11_coupleAhead 35 = .ok (.invokevirtual 262, 3) := by decide +kernel
theorem dX11_coupleAhead_38 : decode cX11_coupleAhead 38 = .ok (.istore 5, 2) := by decide +kernel
theorem dX11_coupleAhead_40 : decode cX11_coupleAhead 40 = .ok (.aload_n 0, 1) := by decide +kernel
theorem dX11_coupleAhead_41 : decode cX11_coupleAhead 41 = .ok (.getfield 58, 3) := by decide +kernel
theorem dX11_coupleAhead_44 : decode cX11_coupleAhead 44 = .ok (.iload 4, 2) := by decide +kernel
theorem dX11_coupleAhead_46 : decode cX11_coupleAhead 46 = .ok (.iload 5, 2) := by decide +kernel
theorem dX11_coupleAhead_48 : decode cX11_coupleAhead 48 = .ok (.invokevirtual 265, 3) := by decide +kernel
theorem dX11_coupleAhead_51 : decode cX11_coupleAhead 51 = .ok (.istore_n 3, 1) := by decide +kernel
theorem dX11_coupleAhead_52 : decode cX11_coupleAhead 52 = .ok (.iload_n 3, 1) := by decide +kernel
theorem dX11_coupleAhead_53 : decode cX11_coupleAhead 53 = .ok (.ifCond .eq 12, 3) := by decide +kernel
theorem dX11_coupleAhead_56 : decode cX11_coupleAhead 56 = .ok (.aload_n 0, 1) := by decide +kernel
theorem dX11_coupleAhead_57 : decode cX11_coupleAhead 57 = .ok (.getfield 10, 3) := by decide +kernel
theorem dX11_coupleAhead_60 : decode cX11_coupleAhead 60 = .ok (.iload_n 3, 1) := by decide +kernel
theorem dX11_coupleAhead_61 : decode cX11_coupleAhead 61 = .ok (.invokevirtual 98, 3) := by decide +kernel
theorem dX11_coupleAhead_64 : decode cX11_coupleAhead 64 = .ok (.ireturn, 1) := by decide +kernel
theorem dX11_coupleAhead_65 : decode cX11_coupleAhead 65 = .ok (.aload_n 0, 1) := by decide +kernel
theorem dX11_coupleAhead_66 : decode cX11_coupleAhead 66 = .ok (.getfield 58, 3) := by decide +kernel
theorem dX11_coupleAhead_69 : decode cX11_coupleAhead 69 = .ok (.iload 5, 2) := by decide +kernel
theorem dX11_coupleAhead_71 : decode cX11_coupleAhead 71 = .ok (.invokevirtual 268, 3) := by decide +kernel
theorem dX11_coupleAhead_74 : decode cX11_coupleAhead 74 = .ok (.istore 6, 2) := by decide +kernel
theorem dX11_coupleAhead_76 : decode cX11_coupleAhead 76 = .ok (.iload 6, 2) := by decide +kernel
theorem dX11_coupleAhead_78 : decode cX11_coupleAhead 78 = .ok (.iconst 1, 1) := by decide +kernel
theorem dX11_coupleAhead_79 : decode cX11_coupleAhead 79 = .ok (.ishr, 1) := by decide +kernel
theorem dX11_coupleAhead_80 : decode cX11_coupleAhead 80 = .ok (.istore 7, 2) := by decide +kernel
theorem dX11_coupleAhead_82 : decode cX11_coupleAhead 82 = .ok (.aload_n 0, 1) := by decide +kernel
theorem dX11_coupleAhead_83 : decode cX11_coupleAhead 83 = .ok (.getfield 67, 3) := by decide +kernel
theorem dX11_coupleAhead_86 : decode cX11_coupleAhead 86 = .ok (.iload_n 1, 1) := by decide +kernel
theorem dX11_coupleAhead_87 : decode cX11_coupleAhead 87 = .ok (.iload 7, 2) := by decide +kernel
theorem dX11_coupleAhead_89 : decode cX11_coupleAhead 89 = .ok (.invokevirtual 271, 3) := by decide +kernel
theorem dX11_coupleAhead_92 : decode cX11_coupleAhead 92 = .ok (.ifCond .eq 16, 3) := by decide +kernel
theorem dX11_coupleAhead_95 : decode cX11_coupleAhead 95 = .ok (.aload_n 0, 1) := by decide +kernel
theorem dX11_coupleAhead_96 : decode cX11_coupleAhead 96 = .ok (.getfield 67, 3) := by decide +kernel
theorem dX11_coupleAhead_99 : decode cX11_coupleAhead 99 = .ok (.iload 7, 2) := by decide +kernel
theorem dX11_coupleAhead_101 : decode cX11_coupleAhead 101 = .ok (.iload_n 1, 1) := by decide +kernel
theorem dX11_coupleAhead_102 : decode cX11_coupleAhead 102 = .ok (.invokevirtual 271, 3) := by decide +kernel
theorem dX11_coupleAhead_105 : decode cX11_coupleAhead 105 = .ok (.ifCond .ne 13, 3) := by decide +kernel
theorem dX11_coupleAhead_108 : decode cX11_coupleAhead 108 = .ok (.aload_n 0, 1) := by decide +kernel
theorem dX11_coupleAhead_109 : decode cX11_coupleAhead 109 = .ok (.getfield 10, 3) := by decide +kernel
theorem dX11_coupleAhead_112 : decode cX11_coupleAhead 112 = .ok (.bipush 13, 2) := by decide +kernel
theorem dX11_coupleAhead_114 : decode cX11_coupleAhead 114 = .ok (.invokevirtual 98, 3) := by decide +kernel
theorem dX11_coupleAhead_117 : decode cX11_coupleAhead 117 = .ok (.ireturn, 1) := by decide +kernel
theorem dX11_coupleAhead_118 : decode cX11_coupleAhead 118 = .ok (.aload_n 0, 1) := by decide +kernel
theorem dX11_coupleAhead_119 : decode cX11_coupleAhead 119 = .ok (.getfield 58, 3) := by decide +kernel
theorem dX11_coupleAhead_122 : decode cX11_coupleAhead 122 = .ok (.iload 4, 2) := by decide +kernel
theorem dX11_coupleAhead_124 : decode cX11_coupleAhead 124 = .ok (.iload 6, 2) := by decide +kernel
theorem dX11_coupleAhead_126 : decode cX11_coupleAhead 126 = .ok (.invokevirtual 274, 3) := by decide +kernel
theorem dX11_coupleAhead_129 : decode cX11_coupleAhead 129 = .ok (.iload 7, 2) := by decide +kernel
theorem dX11_coupleAhead_131 : decode cX11_coupleAhead 131 = .ok (.ireturn, 1) := by decide +kernel
set_option maxRecDepth 100000 in
set_option maxHeartbeats 4000000 in
theorem w_X11_coupleAhead_j108 {p : Program} {l : Launch} {e : Env} {R : Room} {s : State} {m : MethodId} {args : Array Value} {below : List Frame} {meth : Method} {c : Code} {dC : Nat → ClassId} {dI : Nat → Nat → Nat} {cs : Nat → ClassId} {ad : Nat → Nat} {A : Nat → Prop} {D0 : Nat → Nat} {S' : SS} {r : Int32} (F : Fx p s m args meth c cX11_coupleAhead 8 RX11 (some .int) dC dI cs A) (hR1 : 1 ≤ R.frames) (hR2 : 21 ≤ R.locals)  (S : SS) (h : f_X11_coupleAhead_j108  S = some (r, S')) : AW p l e R s m args below meth c dC dI cs ad A D0 (some (.int r)) S' 8 108 [(0, .ref (ad 0))] [] S := by
  have hx := F.1.1
  have hb := F.1.2.1
  intro H locs ls w hl
  rw [f_X11_coupleAhead_j108] at h
  refine lv_aload_n (pc := 108) hx hb dX11_coupleAhead_108 rfl (lv_at hl 0 rfl) ?_
  refine s_getR (pc := 109) F w 1 ds_0 (j := 0) vc_X11 vi_X11 rfl (by decide) kf_X11_10 dX11_coupleAhead_109 ?_
  refine lv_bipush (pc := 112) (v := 13) hx hb dX11_coupleAhead_112 (by decide) ?_
  obtain ⟨r14, S13, hc, h⟩ := bnd_t h
  refine s_cvi (pc := 114) [.int (13 : Int32)] (fun ad => [.ref (ad 1), .int (13 : Int32)]) F w (m_X5_found _ _ _ _ hc) rfl rfl hl.1 ds_1 vc_X5 rfl ok_X5_found rfl kc_X5_found kl_X11_98 ki_X5_found kv_X5_found kn_X5 ⟨Nat.le_trans (by decide) hR1, Nat.le_trans (by decide) hR2⟩ ⟨Nat.zero_le _, Nat.zero_le _⟩ (Nat.le_of_ble_eq_true rfl) dX11_coupleAhead_114 (fun H locs w => ?_)
  exact s_iret F w h dX11_coupleAhead_117
set_option maxRecDepth 100000 in
set_option maxHeartbeats 4000000 in
theorem m_X11_coupleAhead (a1 : Int32) (a2 : Int32) (S S' : SS) (r : Int32) (h : f_X11_coupleAhead a1 a2 S = some (r, S')) : MT yX11_coupleAhead cX11_coupleAhead 8 (some .int) 5 113 (fun ad => [.ref (ad 0), .int a1, .int a2]) S (some (.int r)) S' := by
  refine MT.of RX11 (fun ad => [(0, .ref (ad 0)), (1, .int a1), (2, .int a2)]) (by decide) rfl (fun _ => Nat.le_of_ble_eq_true rfl) (fun _ => rfl) ?_
  intro p l e R s m args below meth c dC dI cs ad A hR1 hR2 F H locs ls w hl
  have hx := F.1.1
  have hb := F.1.2.1
  rw [f_X11_coupleAhead] at h
  refine lv_aload_n (pc := 0) hx hb dX11_coupleAhead_0 rfl (lv_at hl 0 rfl) ?_
  refine lv_iload_n (pc := 1) hx hb dX11_coupleAhead_1 rfl (lv_at hl 1 rfl) ?_
  refine lv_bipush (pc := 2) (v := 127) hx hb dX11_coupleAhead_2 (by decide) ?_
  refine lv_iload_n (pc := 4) hx hb dX11_coupleAhead_4 rfl (lv_at hl 2 rfl) ?_
  obtain ⟨r2, S1, hc, h⟩ := bnd_t h
  refine s_cvi (pc := 5) [.int a1, .int (127 : Int32), .int a2] (fun ad => [.ref (ad 0), .int a1, .int (127 : Int32), .int a2]) F w (m_X11_namedSide _ _ _ _ _ _ hc) rfl rfl hl.1 ds_0 vc_X11 rfl ok_X11_namedSide rfl kc_X11_namedSide kl_X11_259 ki_X11_namedSide kv_X11_namedSide kn_X11 ⟨Nat.le_trans (by decide) hR1, Nat.le_trans (by decide) hR2⟩ ⟨Nat.zero_le _, Nat.zero_le _⟩ (Nat.le_of_ble_eq_true rfl) dX11_coupleAhead_5 (fun H locs w => ?_)
  refine lv_istore_n (pc := 8) (lv' := [(3, .int r2), (0, .ref (ad 0)), (1, .int a1), (2, .int a2)]) hx hb dX11_coupleAhead_8 rfl hl (by decide) rfl (fun ls hl => ?_)
  refine lv_iload_n (pc := 9) hx hb dX11_coupleAhead_9 rfl (lv_at hl 0 rfl) ?_
  refine lv_if_eq (pc := 10) (tgt := 22) hx hb dX11_coupleAhead_10 (by decide) (fun q => ?_) (fun q => ?_)
  · have h := ite_t q h
    refine lv_iconst (pc := 22) (v := 2) hx hb dX11_coupleAhead_22 (by decide) ?_
    refine lv_iload_n (pc := 23) hx hb dX11_coupleAhead_23 rfl (lv_at hl 2 rfl) ?_
    refine lv_imul (pc := 24) hx hb dX11_coupleAhead_24 ?_
    refine lv_iload_n (pc := 25) hx hb dX11_coupleAhead_25 rfl (lv_at hl 3 rfl) ?_
    refine lv_iadd (pc := 26) hx hb dX11_coupleAhead_26 ?_
    refine s_nm h (fun z3 ez3 h => ?_)
    rw [← ez3]
    refine lv_istore (pc := 27) (lv' := [(4, .int z3), (3, .int r2), (0, .ref (ad 0)), (1, .int a1), (2, .int a2)]) hx hb dX11_coupleAhead_27 hl (by decide) rfl (fun ls hl => ?_)
    refine lv_aload_n (pc := 29) hx hb dX11_coupleAhead_29 rfl (lv_at hl 2 rfl) ?_
    refine s_getR (pc := 30) F w 7 ds_0 (j := 6) vc_X11 vi_X11 rfl (by decide) kf_X11_58 dX11_coupleAhead_30 ?_
    refine lv_iload (pc := 33) hx hb dX11_coupleAhead_33 (lv_at hl 0 rfl) ?_
    obtain ⟨r5, S4, hc, h⟩ := bnd_t h
    refine s_cvi (pc := 35) [.int z3] (fun ad => [.ref (ad 7), .int z3]) F w (m_X10_nextFrom _ _ _ _ hc) rfl rfl hl.1 ds_7 vc_X10 rfl ok_X10_nextFrom rfl kc_X10_nextFrom kl_X11_262 ki_X10_nextFrom kv_X10_nextFrom kn_X10 ⟨Nat.le_trans (by decide) hR1, Nat.le_trans (by decide) hR2⟩ ⟨Nat.zero_le _, Nat.zero_le _⟩ (Nat.le_of_ble_eq_true rfl) dX11_coupleAhead_35 (fun H locs w => ?_)
    refine lv_istore (pc := 38) (lv' := [(5, .int r5), (4, .int z3), (3, .int r2), (0, .ref (ad 0)), (1, .int a1), (2, .int a2)]) hx hb dX11_coupleAhead_38 hl (by decide) rfl (fun ls hl => ?_)
    refine lv_aload_n (pc := 40) hx hb dX11_coupleAhead_40 rfl (lv_at hl 3 rfl) ?_
    refine s_getR (pc := 41) F w 7 ds_0 (j := 6) vc_X11 vi_X11 rfl (by decide) kf_X11_58 dX11_coupleAhead_41 ?_
    refine lv_iload (pc := 44) hx hb dX11_coupleAhead_44 (lv_at hl 1 rfl) ?_
    refine lv_iload (pc := 46) hx hb dX11_coupleAhead_46 (lv_at hl 0 rfl) ?_
    obtain ⟨r7, S6, hc, h⟩ := bnd_t h
    refine s_cvi (pc := 48) [.int z3, .int r5] (fun ad => [.ref (ad 7), .int z3, .int r5]) F w (m_X10_reachFinding _ _ _ _ _ hc) rfl rfl hl.1 ds_7 vc_X10 rfl ok_X10_reachFinding rfl kc_X10_reachFinding kl_X11_265 ki_X10_reachFinding kv_X10_reachFinding kn_X10 ⟨Nat.le_trans (by decide) hR1, Nat.le_trans (by decide) hR2⟩ ⟨Nat.zero_le _, Nat.zero_le _⟩ (Nat.le_of_ble_eq_true rfl) dX11_coupleAhead_48 (fun H locs w => ?_)
    refine lv_istore_n (pc := 51) (lv' := [(3, .int r7), (5, .int r5), (4, .int z3), (0, .ref (ad 0)), (1, .int a1), (2, .int a2)]) hx hb dX11_coupleAhead_51 rfl hl (by decide) rfl (fun ls hl => ?_)
    refine lv_iload_n (pc := 52) hx hb dX11_coupleAhead_52 rfl (lv_at hl 0 rfl) ?_
    refine lv_if_eq (pc := 53) (tgt := 65) hx hb dX11_coupleAhead_53 (by decide) (fun q => ?_) (fun q => ?_)
    · have h := ite_t q h
      refine lv_aload_n (pc := 65) hx hb dX11_coupleAhead_65 rfl (lv_at hl 3 rfl) ?_
      refine s_getR (pc := 66) F w 7 ds_0 (j := 6) vc_X11 vi_X11 rfl (by decide) kf_X11_58 dX11_coupleAhead_66 ?_
      refine lv_iload (pc := 69) hx hb dX11_coupleAhead_69 (lv_at hl 1 rfl) ?_
      obtain ⟨r9, S8, hc, h⟩ := bnd_t h
      refine s_cvi (pc := 71) [.int r5] (fun ad => [.ref (ad 7), .int r5]) F w (m_X10_hookAt _ _ _ _ hc) rfl rfl hl.1 ds_7 vc_X10 rfl ok_X10_hookAt rfl kc_X10_hookAt kl_X11_268 ki_X10_hookAt kv_X10_hookAt kn_X10 ⟨Nat.le_trans (by decide) hR1, Nat.le_trans (by decide) hR2⟩ ⟨Nat.zero_le _, Nat.zero_le _⟩ (Nat.le_of_ble_eq_true rfl) dX11_coupleAhead_71 (fun H locs w => ?_)
      refine lv_istore (pc := 74) (lv' := [(6, .int r9), (3, .int r7), (5, .int r5), (4, .int z3), (0, .ref (ad 0)), (1, .int a1), (2, .int a2)]) hx hb dX11_coupleAhead_74 hl (by decide) rfl (fun ls hl => ?_)
      refine lv_iload (pc := 76) hx hb dX11_coupleAhead_76 (lv_at hl 0 rfl) ?_
      refine lv_iconst (pc := 78) (v := 1) hx hb dX11_coupleAhead_78 (by decide) ?_
      refine lv_ishr (pc := 79) hx hb dX11_coupleAhead_79 ?_
      refine s_nm h (fun z10 ez10 h => ?_)
      rw [← ez10]
      refine lv_istore (pc := 80) (lv' := [(7, .int z10), (6, .int r9), (3, .int r7), (5, .int r5), (4, .int z3), (0, .ref (ad 0)), (1, .int a1), (2, .int a2)]) hx hb dX11_coupleAhead_80 hl (by decide) rfl (fun ls hl => ?_)
      refine lv_aload_n (pc := 82) hx hb dX11_coupleAhead_82 rfl (lv_at hl 5 rfl) ?_
      refine s_getR (pc := 83) F w 8 ds_0 (j := 7) vc_X11 vi_X11 rfl (by decide) kf_X11_67 dX11_coupleAhead_83 ?_
      refine lv_iload_n (pc := 86) hx hb dX11_coupleAhead_86 rfl (lv_at hl 6 rfl) ?_
      refine lv_iload (pc := 87) hx hb dX11_coupleAhead_87 (lv_at hl 0 rfl) ?_
      obtain ⟨r12, S11, hc, h⟩ := bnd_t h
      refine s_cvi (pc := 89) [.int a1, .int z10] (fun ad => [.ref (ad 8), .int a1, .int z10]) F w (m_X0_suits _ _ _ _ _ hc) rfl rfl hl.1 ds_8 vc_X0 rfl ok_X0_suits rfl kc_X0_suits kl_X11_271 ki_X0_suits kv_X0_suits kn_X0 ⟨Nat.le_trans (by decide) hR1, Nat.le_trans (by decide) hR2⟩ ⟨Nat.zero_le _, Nat.zero_le _⟩ (Nat.le_of_ble_eq_true rfl) dX11_coupleAhead_89 (fun H locs w => ?_)
      refine lv_if_eq (pc := 92) (tgt := 108) hx hb dX11_coupleAhead_92 (by decide) (fun q => ?_) (fun q => ?_)
      · have h := ite_t q h
        exact w_X11_coupleAhead_j108 F (Nat.le_trans (by decide) hR1) (Nat.le_trans (by decide) hR2)  _ h _ _ _ w (lv_sub hl [5] rfl)
      · have h := ite_f q h
        refine lv_aload_n (pc := 95) hx hb dX11_coupleAhead_95 rfl (lv_at hl 5 rfl) ?_
        refine s_getR (pc := 96) F w 8 ds_0 (j := 7) vc_X11 vi_X11 rfl (by decide) kf_X11_67 dX11_coupleAhead_96 ?_
        refine lv_iload (pc := 99) hx hb dX11_coupleAhead_99 (lv_at hl 0 rfl) ?_
        refine lv_iload_n (pc := 101) hx hb dX11_coupleAhead_101 rfl (lv_at hl 6 rfl) ?_
        obtain ⟨r16, S15, hc, h⟩ := bnd_t h
        refine s_cvi (pc := 102) [.int z10, .int a1] (fun ad => [.ref (ad 8), .int z10, .int a1]) F w (m_X0_suits _ _ _ _ _ hc) rfl rfl hl.1 ds_8 vc_X0 rfl ok_X0_suits rfl kc_X0_suits kl_X11_271 ki_X0_suits kv_X0_suits kn_X0 ⟨Nat.le_trans (by decide) hR1, Nat.le_trans (by decide) hR2⟩ ⟨Nat.zero_le _, Nat.zero_le _⟩ (Nat.le_of_ble_eq_true rfl) dX11_coupleAhead_102 (fun H locs w => ?_)
        refine lv_if_ne (pc := 105) (tgt := 118) hx hb dX11_coupleAhead_105 (by decide) (fun q => ?_) (fun q => ?_)
        · have h := ite_f q h
          refine lv_aload_n (pc := 118) hx hb dX11_coupleAhead_118 rfl (lv_at hl 5 rfl) ?_
          refine s_getR (pc := 119) F w 7 ds_0 (j := 6) vc_X11 vi_X11 rfl (by decide) kf_X11_58 dX11_coupleAhead_119 ?_
          refine lv_iload (pc := 122) hx hb dX11_coupleAhead_122 (lv_at hl 4 rfl) ?_
          refine lv_iload (pc := 124) hx hb dX11_coupleAhead_124 (lv_at hl 1 rfl) ?_
          obtain ⟨S17, hc, h⟩ := bndv_t h
          refine s_cvv (pc := 126) [.int z3, .int r9] (fun ad => [.ref (ad 7), .int z3, .int r9]) F w (m_X10_joinHooks _ _ _ _ hc) rfl rfl hl.1 ds_7 vc_X10 rfl ok_X10_joinHooks rfl kc_X10_joinHooks kl_X11_274 ki_X10_joinHooks kv_X10_joinHooks kn_X10 ⟨Nat.le_trans (by decide) hR1, Nat.le_trans (by decide) hR2⟩ ⟨Nat.zero_le _, Nat.zero_le _⟩ (Nat.le_of_ble_eq_true rfl) dX11_coupleAhead_126 (fun H locs w => ?_)
          refine lv_iload (pc := 129) hx hb dX11_coupleAhead_129 (lv_at hl 0 rfl) ?_
          exact s_iret F w h dX11_coupleAhead_131
        · have h := ite_t q h
          exact w_X11_coupleAhead_j108 F (Nat.le_trans (by decide) hR1) (Nat.le_trans (by decide) hR2)  _ h _ _ _ w (lv_sub hl [5] rfl)
    · have h := ite_f q h
      refine lv_aload_n (pc := 56) hx hb dX11_coupleAhead_56 rfl (lv_at hl 3 rfl) ?_
      refine s_getR (pc := 57) F w 1 ds_0 (j := 0) vc_X11 vi_X11 rfl (by decide) kf_X11_10 dX11_coupleAhead_57 ?_
      refine lv_iload_n (pc := 60) hx hb dX11_coupleAhead_60 rfl (lv_at hl 0 rfl) ?_
      obtain ⟨r19, S18, hc, h⟩ := bnd_t h
      refine s_cvi (pc := 61) [.int r7] (fun ad => [.ref (ad 1), .int r7]) F w (m_X5_found _ _ _ _ hc) rfl rfl hl.1 ds_1 vc_X5 rfl ok_X5_found rfl kc_X5_found kl_X11_98 ki_X5_found kv_X5_found kn_X5 ⟨Nat.le_trans (by decide) hR1, Nat.le_trans (by decide) hR2⟩ ⟨Nat.zero_le _, Nat.zero_le _⟩ (Nat.le_of_ble_eq_true rfl) dX11_coupleAhead_61 (fun H locs w => ?_)
      exact s_iret F w h dX11_coupleAhead_64
  · have h := ite_f q h
    refine lv_aload_n (pc := 13) hx hb dX11_coupleAhead_13 rfl (lv_at hl 1 rfl) ?_
    refine s_getR (pc := 14) F w 1 ds_0 (j := 0) vc_X11 vi_X11 rfl (by decide) kf_X11_10 dX11_coupleAhead_14 ?_
    refine lv_iload_n (pc := 17) hx hb dX11_coupleAhead_17 rfl (lv_at hl 0 rfl) ?_
    obtain ⟨r21, S20, hc, h⟩ := bnd_t h
    refine s_cvi (pc := 18) [.int r2] (fun ad => [.ref (ad 1), .int r2]) F w (m_X5_found _ _ _ _ hc) rfl rfl hl.1 ds_1 vc_X5 rfl ok_X5_found rfl kc_X5_found kl_X11_98 ki_X5_found kv_X5_found kn_X5 ⟨Nat.le_trans (by decide) hR1, Nat.le_trans (by decide) hR2⟩ ⟨Nat.zero_le _, Nat.zero_le _⟩ (Nat.le_of_ble_eq_true rfl) dX11_coupleAhead_18 (fun H locs w => ?_)
    exact s_iret F w h dX11_coupleAhead_21
def f_X11_couple (a1 : Int32) (a2 : Int32) (S : SS) : Option (Int32 × SS) :=
  bndv (f_X11_beginAct  S) (fun S1 =>
  bnd (f_X11_coupleAhead a1 a2 S1) (fun r3 S2 =>
  bnd (f_X11_endAct (6 : Int32) r3 S2) (fun r5 S4 =>
  some (r5, S4))))
theorem dX11_couple_0 : decode cX11_couple 0 = .ok (.aload_n 0, 1) := by decide +kernel
theorem dX11_couple_1 : decode cX11_couple 1 = .ok (.invokevirtual 199, 3) := by decide +kernel
theorem dX11_couple_4 : decode cX11_couple 4 = .ok (.aload_n 0, 1) := by decide +kernel
theorem dX11_couple_5 : decode cX11_couple 5 = .ok (.bipush 6, 2) := by decide +kernel
theorem dX11_couple_7 : decode cX11_couple 7 = .ok (.aload_n 0, 1) := by decide +kernel
theorem dX11_couple_8 : decode cX11_couple 8 = .ok (.iload_n 1, 1) := by decide +kernel
theorem dX11_couple_9 : decode cX11_couple 9 = .ok (.iload_n 2, 1) := by decide +kernel
theorem dX11_couple_10 : decode cX11_couple 10 = .ok (.invokevirtual 220, 3) := by decide +kernel
theorem dX11_couple_13 : decode cX11_couple 13 = .ok (.invokevirtual 205, 3) := by decide +kernel
theorem dX11_couple_16 : decode cX11_couple 16 = .ok (.ireturn, 1) := by decide +kernel
set_option maxRecDepth 100000 in
set_option maxHeartbeats 4000000 in
theorem m_X11_couple (a1 : Int32) (a2 : Int32) (S S' : SS) (r : Int32) (h : f_X11_couple a1 a2 S = some (r, S')) : MT yX11_couple cX11_couple 3 (some .int) 6 140 (fun ad => [.ref (ad 0), .int a1, .int a2]) S (some (.int r)) S' := by
  refine MT.of RX11 (fun ad => [(0, .ref (ad 0)), (1, .int a1), (2, .int a2)]) (by decide) rfl (fun _ => Nat.le_of_ble_eq_true rfl) (fun _ => rfl) ?_
  intro p l e R s m args below meth c dC dI cs ad A hR1 hR2 F H locs ls w hl
  have hx := F.1.1
  have hb := F.1.2.1
  rw [f_X11_couple] at h
  refine lv_aload_n (pc := 0) hx hb dX11_couple_0 rfl (lv_at hl 0 rfl) ?_
  obtain ⟨S1, hc, h⟩ := bndv_t h
  refine s_cvv (pc := 1) [] (fun ad => [.ref (ad 0)]) F w (m_X11_beginAct  _ _ hc) rfl rfl hl.1 ds_0 vc_X11 rfl ok_X11_beginAct rfl kc_X11_beginAct kl_X11_199 ki_X11_beginAct kv_X11_beginAct kn_X11 ⟨Nat.le_trans (by decide) hR1, Nat.le_trans (by decide) hR2⟩ ⟨Nat.zero_le _, Nat.zero_le _⟩ (Nat.le_of_ble_eq_true rfl) dX11_couple_1 (fun H locs w => ?_)
  refine lv_aload_n (pc := 4) hx hb dX11_couple_4 rfl (lv_at hl 0 rfl) ?_
  refine lv_bipush (pc := 5) (v := 6) hx hb dX11_couple_5 (by decide) ?_
  refine lv_aload_n (pc := 7) hx hb dX11_couple_7 rfl (lv_at hl 0 rfl) ?_
  refine lv_iload_n (pc := 8) hx hb dX11_couple_8 rfl (lv_at hl 1 rfl) ?_
  refine lv_iload_n (pc := 9) hx hb dX11_couple_9 rfl (lv_at hl 2 rfl) ?_
  obtain ⟨r3, S2, hc, h⟩ := bnd_t h
  refine s_cvi (pc := 10) [.int a1, .int a2] (fun ad => [.ref (ad 0), .int a1, .int a2]) F w (m_X11_coupleAhead _ _ _ _ _ hc) rfl rfl hl.1 ds_0 vc_X11 rfl ok_X11_coupleAhead rfl kc_X11_coupleAhead kl_X11_220 ki_X11_coupleAhead kv_X11_coupleAhead kn_X11 ⟨Nat.le_trans (by decide) hR1, Nat.le_trans (by decide) hR2⟩ ⟨Nat.zero_le _, Nat.zero_le _⟩ (Nat.le_of_ble_eq_true rfl) dX11_couple_10 (fun H locs w => ?_)
  obtain ⟨r5, S4, hc, h⟩ := bnd_t h
  refine s_cvi (pc := 13) [.int (6 : Int32), .int r3] (fun ad => [.ref (ad 0), .int (6 : Int32), .int r3]) F w (m_X11_endAct _ _ _ _ _ hc) rfl rfl hl.1 ds_0 vc_X11 rfl ok_X11_endAct rfl kc_X11_endAct kl_X11_205 ki_X11_endAct kv_X11_endAct kn_X11 ⟨Nat.le_trans (by decide) hR1, Nat.le_trans (by decide) hR2⟩ ⟨Nat.zero_le _, Nat.zero_le _⟩ (Nat.le_of_ble_eq_true rfl) dX11_couple_13 (fun H locs w => ?_)
  exact s_iret F w h dX11_couple_16
def f_X12_missSide (a1 : Int32) (a2 : Int32) (a3 : Int32) (S : SS) : Option (Int32 × SS) :=
  bnd (f_X12_missThing a1 a2 S) (fun r2 S1 =>
  if r2 = 0 then
    bnd (f_X12_isSide a3 S1) (fun r4 S3 =>
    if r4 = 0 then
      some ((3 : Int32), S3)
    else
      some ((0 : Int32), S3))
  else
    some (r2, S1))
theorem dX12_missSide_0 : decode cX12_missSide 0 = .ok (.aload_n 0, 1) := by decide +kernel
theorem dX12_missSide_1 : decode cX12_missSide 1 = .ok (.iload_n 1, 1) := by decide +kernel
theorem dX12_missSide_2 : decode cX12_missSide 2 = .ok (.iload_n 2, 1) := by decide +kernel
theorem dX12_missSide_3 : decode cX12_missSide 3 = .ok (.invokevirtual 293, 3) := by decide +kernel
theorem dX12_missSide_6 : decode cX12_missSide 6 = .ok (.istore 4, 2) := by decide +kernel
theorem dX12_missSide_8 : decode cX12_missSide 8 = .ok (.iload 4, 2) := by decide +kernel
theorem dX12_missSide_10 : decode cX12_missSide 10 = .ok (.ifCond .eq 8, 3) := by decide +kernel
theorem dX12_missSide_13 : decode cX12_missSide 13 = .ok (.iload 4, 2) := by decide +kernel
theorem dX12_missSide_15 : decode cX12_missSide 15 = .ok (.goto 15, 3) := by decide +kernel
theorem dX12_missSide_18 : decode cX12_missSide 18 = .ok (.iload_n 3, 1) := by decide +kernel
theorem dX12_missSide_19 : decode cX12_missSide 19 = .ok (.invokestatic 232, 3) := by decide +kernel
theorem dX12_missSide_22 : decode cX12_missSide 22 = .ok (.ifCond .eq 7, 3) := by decide +kernel
theorem dX12_missSide_25 : decode cX12_missSide 25 = .ok (.iconst 0, 1) := by decide +kernel
theorem dX12_missSide_26 : decode cX12_missSide 26 = .ok (.goto 4, 3) := by decide +kernel
theorem dX12_missSide_29 : decode cX12_missSide 29 = .ok (.iconst 3, 1) := by decide +kernel
theorem dX12_missSide_30 : decode cX12_missSide 30 = .ok (.ireturn, 1) := by decide +kernel
set_option maxRecDepth 100000 in
set_option maxHeartbeats 4000000 in
theorem m_X12_missSide (a1 : Int32) (a2 : Int32) (a3 : Int32) (S S' : SS) (r : Int32) (h : f_X12_missSide a1 a2 a3 S = some (r, S')) : MT yX12_missSide cX12_missSide 5 (some .int) 2 45 (fun ad => [.ref (ad 14), .int a1, .int a2, .int a3]) S (some (.int r)) S' := by
  refine MT.of RX12 (fun ad => [(0, .ref (ad 14)), (1, .int a1), (2, .int a2), (3, .int a3)]) (by decide) rfl (fun _ => Nat.le_of_ble_eq_true rfl) (fun _ => rfl) ?_
  intro p l e R s m args below meth c dC dI cs ad A hR1 hR2 F H locs ls w hl
  have hx := F.1.1
  have hb := F.1.2.1
  rw [f_X12_missSide] at h
  refine lv_aload_n (pc := 0) hx hb dX12_missSide_0 rfl (lv_at hl 0 rfl) ?_
  refine lv_iload_n (pc := 1) hx hb dX12_missSide_1 rfl (lv_at hl 1 rfl) ?_
  refine lv_iload_n (pc := 2) hx hb dX12_missSide_2 rfl (lv_at hl 2 rfl) ?_
  obtain ⟨r2, S1, hc, h⟩ := bnd_t h
  refine s_cvi (pc := 3) [.int a1, .int a2] (fun ad => [.ref (ad 14), .int a1, .int a2]) F w (m_X12_missThing _ _ _ _ _ hc) rfl rfl hl.1 ds_14 vc_X12 rfl ok_X12_missThing rfl kc_X12_missThing kl_X12_293 ki_X12_missThing kv_X12_missThing kn_X12 ⟨Nat.le_trans (by decide) hR1, Nat.le_trans (by decide) hR2⟩ ⟨Nat.zero_le _, Nat.zero_le _⟩ (Nat.le_of_ble_eq_true rfl) dX12_missSide_3 (fun H locs w => ?_)
  refine lv_istore (pc := 6) (lv' := [(4, .int r2), (0, .ref (ad 14)), (1, .int a1), (2, .int a2), (3, .int a3)]) hx hb dX12_missSide_6 hl (by decide) rfl (fun ls hl => ?_)
  refine lv_iload (pc := 8) hx hb dX12_missSide_8 (lv_at hl 0 rfl) ?_
  refine lv_if_eq (pc := 10) (tgt := 18) hx hb dX12_missSide_10 (by decide) (fun q => ?_) (fun q => ?_)
  · have h := ite_t q h
    refine lv_iload_n (pc := 18) hx hb dX12_missSide_18 rfl (lv_at hl 4 rfl) ?_
    obtain ⟨r4, S3, hc, h⟩ := bnd_t h
    refine s_csi (pc := 19) [.int a3] (fun ad => [.int a3]) F w (m_X12_isSide _ _ _ _ hc) rfl rfl hl.1 ok_X12_isSide rfl kc_X12_isSide kl_X12_232 ks_X12_isSide kn_X12 ⟨Nat.le_trans (by decide) hR1, Nat.le_trans (by decide) hR2⟩ ⟨Nat.zero_le _, Nat.zero_le _⟩ (Nat.le_of_ble_eq_true rfl) dX12_missSide_19 (fun H locs w => ?_)
    refine lv_if_eq (pc := 22) (tgt := 29) hx hb dX12_missSide_22 (by decide) (fun q => ?_) (fun q => ?_)
    · have h := ite_t q h
      refine lv_iconst (pc := 29) (v := 3) hx hb dX12_missSide_29 (by decide) ?_
      exact s_iret F w h dX12_missSide_30
    · have h := ite_f q h
      refine lv_iconst (pc := 25) (v := 0) hx hb dX12_missSide_25 (by decide) ?_
      refine lv_goto (pc := 26) (tgt := 30) hx hb dX12_missSide_26 (by decide) ?_
      exact s_iret F w h dX12_missSide_30
  · have h := ite_f q h
    refine lv_iload (pc := 13) hx hb dX12_missSide_13 (lv_at hl 0 rfl) ?_
    refine lv_goto (pc := 15) (tgt := 30) hx hb dX12_missSide_15 (by decide) ?_
    exact s_iret F w h dX12_missSide_30
def f_X12_wayOf (a1 : Int32) (a2 : Int32) (S : SS) : Option (Int32 × SS) :=
  if a2 = 0 then
    grd (inb a1 72) (
    some (S.1 89 a1.toNatClampNeg, S))
  else
    grd (inb a1 72) (
    some ((1 : Int32) - (S.1 89 a1.toNatClampNeg), S))
theorem dX12_wayOf_0 : decode cX12_wayOf 0 = .ok (.iload_n 2, 1) := by decide +kernel
theorem dX12_wayOf_1 : decode cX12_wayOf 1 = .ok (.ifCond .ne 12, 3) := by decide +kernel
theorem dX12_wayOf_4 : decode cX12_wayOf 4 = .ok (.aload_n 0, 1) := by decide +kernel
theorem dX12_wayOf_5 : decode cX12_wayOf 5 = .ok (.getfield 81, 3) := by decide +kernel
theorem dX12_wayOf_8 : decode cX12_wayOf 8 = .ok (.iload_n 1, 1) := by decide +kernel
theorem dX12_wayOf_9 : decode cX12_wayOf 9 = .ok (.iaload, 1) := by decide +kernel
theorem dX12_wayOf_10 : decode cX12_wayOf 10 = .ok (.goto 11, 3) := by decide +kernel
theorem dX12_wayOf_13 : decode cX12_wayOf 13 = .ok (.iconst 1, 1) := by decide +kernel
theorem dX12_wayOf_14 : decode cX12_wayOf 14 = .ok (.aload_n 0, 1) := by decide +kernel
theorem dX12_wayOf_15 : decode cX12_wayOf 15 = .ok (.getfield 81, 3) := by decide +kernel
theorem dX12_wayOf_18 : decode cX12_wayOf 18 = .ok (.iload_n 1, 1) := by decide +kernel
theorem dX12_wayOf_19 : decode cX12_wayOf 19 = .ok (.iaload, 1) := by decide +kernel
theorem dX12_wayOf_20 : decode cX12_wayOf 20 = .ok (.isub, 1) := by decide +kernel
theorem dX12_wayOf_21 : decode cX12_wayOf 21 = .ok (.ireturn, 1) := by decide +kernel
set_option maxRecDepth 100000 in
set_option maxHeartbeats 4000000 in
theorem m_X12_wayOf (a1 : Int32) (a2 : Int32) (S S' : SS) (r : Int32) (h : f_X12_wayOf a1 a2 S = some (r, S')) : MT yX12_wayOf cX12_wayOf 3 (some .int) 0 0 (fun ad => [.ref (ad 14), .int a1, .int a2]) S (some (.int r)) S' := by
  refine MT.of RX12 (fun ad => [(0, .ref (ad 14)), (1, .int a1), (2, .int a2)]) (by decide) rfl (fun _ => Nat.le_of_ble_eq_true rfl) (fun _ => rfl) ?_
  intro p l e R s m args below meth c dC dI cs ad A hR1 hR2 F H locs ls w hl
  have hx := F.1.1
  have hb := F.1.2.1
  rw [f_X12_wayOf] at h
  refine lv_iload_n (pc := 0) hx hb dX12_wayOf_0 rfl (lv_at hl 2 rfl) ?_
  refine lv_if_ne (pc := 1) (tgt := 13) hx hb dX12_wayOf_1 (by decide) (fun q => ?_) (fun q => ?_)
  · have h := ite_f q h
    refine lv_iconst (pc := 13) (v := 1) hx hb dX12_wayOf_13 (by decide) ?_
    refine lv_aload_n (pc := 14) hx hb dX12_wayOf_14 rfl (lv_at hl 0 rfl) ?_
    refine s_getR (pc := 15) F w 89 ds_14 (j := 34) vc_X12 vi_X12 rfl (by decide) kf_X12_81 dX12_wayOf_15 ?_
    refine lv_iload_n (pc := 18) hx hb dX12_wayOf_18 rfl (lv_at hl 1 rfl) ?_
    refine s_iald (pc := 19) F w ds_89 h dX12_wayOf_19 (fun h => ?_)
    refine lv_isub (pc := 20) hx hb dX12_wayOf_20 ?_
    exact s_iret F w h dX12_wayOf_21
  · have h := ite_t q h
    refine lv_aload_n (pc := 4) hx hb dX12_wayOf_4 rfl (lv_at hl 0 rfl) ?_
    refine s_getR (pc := 5) F w 89 ds_14 (j := 34) vc_X12 vi_X12 rfl (by decide) kf_X12_81 dX12_wayOf_5 ?_
    refine lv_iload_n (pc := 8) hx hb dX12_wayOf_8 rfl (lv_at hl 1 rfl) ?_
    refine s_iald (pc := 9) F w ds_89 h dX12_wayOf_9 (fun h => ?_)
    refine lv_goto (pc := 10) (tgt := 21) hx hb dX12_wayOf_10 (by decide) ?_
    exact s_iret F w h dX12_wayOf_21
def f_X12_openLink_j26  (x1 : Int32) (y0 : Int32) (S : SS) : Option (Int32 × SS) :=
    grd (inb x1 48) (
    if (S.1 73 x1.toNatClampNeg) ≤ y0 then
      some ((-4 : Int32), S)
    else
      some (y0, S))
def f_X12_openLink (a1 : Int32) (S : SS) : Option (Int32 × SS) :=
  grd (inb a1 48) (
  if (S.1 72 a1.toNatClampNeg) = (-4 : Int32) then
    f_X12_openLink_j26 a1 (0 : Int32) S
  else
    grd (inb a1 48) (
    grd (inb (S.1 72 a1.toNatClampNeg) 40) (
    f_X12_openLink_j26 a1 (S.1 77 (S.1 72 a1.toNatClampNeg).toNatClampNeg) S)))
theorem dX12_openLink_0 : decode cX12_openLink 0 = .ok (.aload_n 0, 1) := by decide +kernel
theorem dX12_openLink_1 : decode cX12_openLink 1 = .ok (.getfield 30, 3) := by decide +kernel
theorem dX12_openLink_4 : decode cX12_openLink 4 = .ok (.iload_n 1, 1) := by decide +kernel
theorem dX12_openLink_5 : decode cX12_openLink 5 = .ok (.iaload, 1) := by decide +kernel
theorem dX12_openLink_6 : decode cX12_openLink 6 = .ok (.bipush (-4), 2) := by decide +kernel
theorem dX12_openLink_8 : decode cX12_openLink 8 = .ok (.if_icmp .ne 7, 3) := by decide +kernel
theorem dX12_openLink_11 : decode cX12_openLink 11 = .ok (.iconst 0, 1) := by decide +kernel
theorem dX12_openLink_12 : decode cX12_openLink 12 = .ok (.goto 14, 3) := by decide +kernel
theorem dX12_openLink_15 : decode cX12_openLink 15 = .ok (.aload_n 0, 1) := by decide +kernel
theorem dX12_openLink_16 : decode cX12_openLink 16 = .ok (.getfield 45, 3) := by decide +kernel
theorem dX12_openLink_19 : decode cX12_openLink 19 = .ok (.aload_n 0, 1) := by decide +kernel
theorem dX12_openLink_20 : decode cX12_openLink 20 = .ok (.getfield 30, 3) := by decide +kernel
theorem dX12_openLink_23 : decode cX12_openLink 23 = .ok (.iload_n 1, 1) := by decide +kernel
theorem dX12_openLink_24 : decode cX12_openLink 24 = .ok (.iaload, 1) := by decide +kernel
theorem dX12_openLink_25 : decode cX12_openLink 25 = .ok (.iaload, 1) := by decide +kernel
theorem dX12_openLink_26 : decode cX12_openLink 26 = .ok (.istore_n 2, 1) := by decide +kernel
theorem dX12_openLink_27 : decode cX12_openLink 27 = .ok (.iload_n 2, 1) := by decide +kernel
theorem dX12_openLink_28 : decode cX12_openLink 28 = .ok (.aload_n 0, 1) := by decide +kernel
theorem dX12_openLink_29 : decode cX12_openLink 29 = .ok (.getfield 33, 3) := by decide +kernel
theorem dX12_openLink_32 : decode cX12_openLink 32 = .ok (.iload_n 1, 1) := by decide +kernel
theorem dX12_openLink_33 : decode cX12_openLink 33 = .ok (.iaload, 1) := by decide +kernel
theorem dX12_openLink_34 : decode cX12_openLink 34 = .ok (.if_icmp .ge 7, 3) := by decide +kernel
theorem dX12_openLink_37 : decode cX12_openLink 37 = .ok (.iload_n 2, 1) := by decide +kernel
theorem dX12_openLink_38 : decode cX12_openLink 38 = .ok (.goto 5, 3) := by decide +kernel
theorem dX12_openLink_41 : decode cX12_openLink 41 = .ok (.bipush (-4), 2) := by decide +kernel
theorem dX12_openLink_43 : decode cX12_openLink 43 = .ok (.ireturn, 1) := by decide +kernel
set_option maxRecDepth 100000 in
set_option maxHeartbeats 4000000 in
theorem w_X12_openLink_j26 {p : Program} {l : Launch} {e : Env} {R : Room} {s : State} {m : MethodId} {args : Array Value} {below : List Frame} {meth : Method} {c : Code} {dC : Nat → ClassId} {dI : Nat → Nat → Nat} {cs : Nat → ClassId} {ad : Nat → Nat} {A : Nat → Prop} {D0 : Nat → Nat} {S' : SS} {r : Int32} (F : Fx p s m args meth c cX12_openLink 3 RX12 (some .int) dC dI cs A) (hR1 : 0 ≤ R.frames) (hR2 : 0 ≤ R.locals) (x1 : Int32) (y0 : Int32) (S : SS) (h : f_X12_openLink_j26 x1 y0 S = some (r, S')) : AW p l e R s m args below meth c dC dI cs ad A D0 (some (.int r)) S' 3 26 [(0, .ref (ad 14)), (1, .int x1)] [.int y0] S := by
  have hx := F.1.1
  have hb := F.1.2.1
  intro H locs ls w hl
  rw [f_X12_openLink_j26] at h
  refine lv_istore_n (pc := 26) (lv' := [(2, .int y0), (0, .ref (ad 14)), (1, .int x1)]) hx hb dX12_openLink_26 rfl hl (by decide) rfl (fun ls hl => ?_)
  refine lv_iload_n (pc := 27) hx hb dX12_openLink_27 rfl (lv_at hl 0 rfl) ?_
  refine lv_aload_n (pc := 28) hx hb dX12_openLink_28 rfl (lv_at hl 1 rfl) ?_
  refine s_getR (pc := 29) F w 73 ds_14 (j := 11) vc_X12 vi_X12 rfl (by decide) kf_X12_33 dX12_openLink_29 ?_
  refine lv_iload_n (pc := 32) hx hb dX12_openLink_32 rfl (lv_at hl 2 rfl) ?_
  refine s_iald (pc := 33) F w ds_73 h dX12_openLink_33 (fun h => ?_)
  refine lv_icmp_ge (pc := 34) (tgt := 41) hx hb dX12_openLink_34 (by decide) (fun q => ?_) (fun q => ?_)
  · have h := ite_t q h
    refine lv_bipush (pc := 41) (v := -4) hx hb dX12_openLink_41 (by decide) ?_
    exact s_iret F w h dX12_openLink_43
  · have h := ite_f q h
    refine lv_iload_n (pc := 37) hx hb dX12_openLink_37 rfl (lv_at hl 0 rfl) ?_
    refine lv_goto (pc := 38) (tgt := 43) hx hb dX12_openLink_38 (by decide) ?_
    exact s_iret F w h dX12_openLink_43
set_option maxRecDepth 100000 in
set_option maxHeartbeats 4000000 in
theorem m_X12_openLink (a1 : Int32) (S S' : SS) (r : Int32) (h : f_X12_openLink a1 S = some (r, S')) : MT yX12_openLink cX12_openLink 3 (some .int) 0 0 (fun ad => [.ref (ad 14), .int a1]) S (some (.int r)) S' := by
  refine MT.of RX12 (fun ad => [(0, .ref (ad 14)), (1, .int a1)]) (by decide) rfl (fun _ => Nat.le_of_ble_eq_true rfl) (fun _ => rfl) ?_
  intro p l e R s m args below meth c dC dI cs ad A hR1 hR2 F H locs ls w hl
  have hx := F.1.1
  have hb := F.1.2.1
  rw [f_X12_openLink] at h
  refine lv_aload_n (pc := 0) hx hb dX12_openLink_0 rfl (lv_at hl 0 rfl) ?_
  refine s_getR (pc := 1) F w 72 ds_14 (j := 10) vc_X12 vi_X12 rfl (by decide) kf_X12_30 dX12_openLink_1 ?_
  refine lv_iload_n (pc := 4) hx hb dX12_openLink_4 rfl (lv_at hl 1 rfl) ?_
  refine s_iald (pc := 5) F w ds_72 h dX12_openLink_5 (fun h => ?_)
  refine lv_bipush (pc := 6) (v := -4) hx hb dX12_openLink_6 (by decide) ?_
  refine lv_icmp_ne (pc := 8) (tgt := 15) hx hb dX12_openLink_8 (by decide) (fun q => ?_) (fun q => ?_)
  · have h := ite_f q h
    refine lv_aload_n (pc := 15) hx hb dX12_openLink_15 rfl (lv_at hl 0 rfl) ?_
    refine s_getR (pc := 16) F w 77 ds_14 (j := 17) vc_X12 vi_X12 rfl (by decide) kf_X12_45 dX12_openLink_16 ?_
    refine lv_aload_n (pc := 19) hx hb dX12_openLink_19 rfl (lv_at hl 0 rfl) ?_
    refine s_getR (pc := 20) F w 72 ds_14 (j := 10) vc_X12 vi_X12 rfl (by decide) kf_X12_30 dX12_openLink_20 ?_
    refine lv_iload_n (pc := 23) hx hb dX12_openLink_23 rfl (lv_at hl 1 rfl) ?_
    refine s_iald (pc := 24) F w ds_72 h dX12_openLink_24 (fun h => ?_)
    refine s_iald (pc := 25) F w ds_77 h dX12_openLink_25 (fun h => ?_)
    exact w_X12_openLink_j26 F (Nat.le_trans (by decide) hR1) (Nat.le_trans (by decide) hR2) _ _ _ h _ _ _ w (lv_sub hl [0, 1] rfl)
  · have h := ite_t q h
    refine lv_iconst (pc := 11) (v := 0) hx hb dX12_openLink_11 (by decide) ?_
    refine lv_goto (pc := 12) (tgt := 26) hx hb dX12_openLink_12 (by decide) ?_
    exact w_X12_openLink_j26 F (Nat.le_trans (by decide) hR1) (Nat.le_trans (by decide) hR2) _ _ _ h _ _ _ w (lv_sub hl [0, 1] rfl)
def f_X12_isOpen_j163  (x1 : Int32) (x2 : Int32) (y0 : Int32) (S : SS) : Option (Int32 × SS) :=
    wr S 14 28 y0 (fun S11 =>
    if (S11.1 14 26) = x1 then
      if (S11.1 14 27) = x2 then
        some ((0 : Int32), S11)
      else
        some ((1 : Int32), S11)
    else
      some ((1 : Int32), S11))
def f_X12_isOpen_j50  (x1 : Int32) (x2 : Int32) (x3 : Int32) (S : SS) : Option (Int32 × SS) :=
    nm (((2 : Int32) * x1) + x3) (fun z1 =>
    bnd (f_X12_openLink z1 S) (fun r3 S2 =>
    if r3 = (-4 : Int32) then
      some ((0 : Int32), S2)
    else
      grd (inb (((3 : Int32) * z1) + r3) 144) (
      nm (S2.1 74 (((3 : Int32) * z1) + r3).toNatClampNeg) (fun z4 =>
      bnd (f_X12_openLink z4 S2) (fun r6 S5 =>
      if r6 = (-4 : Int32) then
        some ((0 : Int32), S5)
      else
        grd (inb (((3 : Int32) * z4) + r6) 144) (
        grd (inb (((3 : Int32) * z1) + r3) 144) (
        if (S5.1 75 (((3 : Int32) * z4) + r6).toNatClampNeg) = (S5.1 75 (((3 : Int32) * z1) + r3).toNatClampNeg) then
          wr S5 14 26 (z4 / (2 : Int32)) (fun S7 =>
          bnd (f_X12_placeAtEnd z4 S7) (fun r9 S8 =>
          wr S8 14 27 r9 (fun S10 =>
          if (z4 - z4 / (2 : Int32) * (2 : Int32)) = 0 then
            f_X12_isOpen_j163 x1 x2 (1 : Int32) S10
          else
            f_X12_isOpen_j163 x1 x2 (0 : Int32) S10)))
        else
          some ((0 : Int32), S5))))))))
def f_X12_isOpen_j14  (x1 : Int32) (x2 : Int32) (x3 : Int32) (y0 : Int32) (S : SS) : Option (Int32 × SS) :=
    if y0 < 0 then
      f_X12_isOpen_j50 x1 x2 x3 S
    else
      grd (inb x1 24) (
      if (S.1 70 x1.toNatClampNeg) ≤ y0 then
        f_X12_isOpen_j50 x1 x2 x3 S
      else
        wr S 14 26 x1 (fun S12 =>
        wr S12 14 27 y0 (fun S13 =>
        wr S13 14 28 x3 (fun S14 =>
        some ((1 : Int32), S14)))))
def f_X12_isOpen (a1 : Int32) (a2 : Int32) (a3 : Int32) (S : SS) : Option (Int32 × SS) :=
  if a3 = (1 : Int32) then
    f_X12_isOpen_j14 a1 a2 a3 (a2 + (1 : Int32)) S
  else
    f_X12_isOpen_j14 a1 a2 a3 (a2 - (1 : Int32)) S
theorem dX12_isOpen_0 : decode cX12_isOpen 0 = .ok (.iload_n 3, 1) := by decide +kernel
theorem dX12_isOpen_1 : decode cX12_isOpen 1 = .ok (.iconst 1, 1) := by decide +kernel
theorem dX12_isOpen_2 : decode cX12_isOpen 2 = .ok (.if_icmp .ne 9, 3) := by decide +kernel
theorem dX12_isOpen_5 : decode cX12_isOpen 5 = .ok (.iload_n 2, 1) := by decide +kernel
theorem dX12_isOpen_6 : decode cX12_isOpen 6 = .ok (.iconst 1, 1) := by decide +kernel
theorem dX12_isOpen_7 : decode cX12_isOpen 7 = .ok (.iadd, 1) := by decide +kernel
theorem dX12_isOpen_8 : decode cX12_isOpen 8 = .ok (.goto 6, 3) := by decide +kernel
theorem dX12_isOpen_11 : decode cX12_isOpen 11 = .ok (.iload_n 2, 1) := by decide +kernel
theorem dX12_isOpen_12 : decode cX12_isOpen 12 = .ok (.iconst 1, 1) := by decide +kernel
theorem dX12_isOpen_13 : decode cX12_isOpen 13 = .ok (.isub, 1) := by decide +kernel
theorem dX12_isOpen_14 : decode cX12_isOpen 14 = .ok (.istore 4, 2) := by decide +kernel
theorem dX12_isOpen_16 : decode cX12_isOpen 16 = .ok (.iload 4, 2) := by decide +kernel
theorem dX12_isOpen_18 : decode cX12_isOpen 18 = .ok (.ifCond .lt 32, 3) := by decide +kernel
theorem dX12_isOpen_21 : decode cX12_isOpen 21 = .ok (.iload 4, 2) := by decide +kernel
theorem dX12_isOpen_23 : decode cX12_isOpen 23 = .ok (.aload_n 0, 1) := by decide +kernel
theorem dX12_isOpen_24 : decode cX12_isOpen 24 = .ok (.getfield 23, 3) := by decide +kernel
theorem dX12_isOpen_27 : decode cX12_isOpen 27 = .ok (.iload_n 1, 1) := by decide +kernel
theorem dX12_isOpen_28 : decode cX12_isOpen 28 = .ok (.iaload, 1) := by decide +kernel
theorem dX12_isOpen_29 : decode cX12_isOpen 29 = .ok (.if_icmp .ge 21, 3) := by decide +kernel
theorem dX12_isOpen_32 : decode cX12_isOpen 32 = .ok (.aload_n 0, 1) := by decide +kernel
theorem dX12_isOpen_33 : decode cX12_isOpen 33 = .ok (.iload_n 1, 1) := by decide +kernel
theorem dX12_isOpen_34 : decode cX12_isOpen 34 = .ok (.putfield 245, 3) := by decide +kernel
theorem dX12_isOpen_37 : decode cX12_isOpen 37 = .ok (.aload_n 0, 1) := by decide +kernel
theorem dX12_isOpen_38 : decode cX12_isOpen 38 = .ok (.iload 4, 2) := by decide +kernel
theorem dX12_isOpen_40 : decode cX12_isOpen 40 = .ok (.putfield 248, 3) := by decide +kernel
theorem dX12_isOpen_43 : decode cX12_isOpen 43 = .ok (.aload_n 0, 1) := by decide +kernel
theorem dX12_isOpen_44 : decode cX12_isOpen 44 = .ok (.iload_n 3, 1) := by decide +kernel
theorem dX12_isOpen_45 : decode cX12_isOpen 45 = .ok (.putfield 251, 3) := by decide +kernel
theorem dX12_isOpen_48 : decode cX12_isOpen 48 = .ok (.iconst 1, 1) := by decide +kernel
theorem dX12_isOpen_49 : decode cX12_isOpen 49 = .ok (.ireturn, 1) := by decide +kernel
theorem dX12_isOpen_50 : decode cX12_isOpen 50 = .ok (.iconst 2, 1) := by decide +kernel
theorem dX12_isOpen_51 : decode cX12_isOpen 51 = .ok (.iload_n 1, 1) := by decide +kernel
theorem dX12_isOpen_52 : decode cX12_isOpen 52 = .ok (.imul, 1) := by decide +kernel
theorem dX12_isOpen_53 : decode cX12_isOpen 53 = .ok (.iload_n 3, 1) := by decide +kernel
theorem dX12_isOpen_54 : decode cX12_isOpen 54 = .ok (.iadd, 1) := by decide +kernel
theorem dX12_isOpen_55 : decode cX12_isOpen 55 = .ok (.istore 5, 2) := by decide +kernel
theorem dX12_isOpen_57 : decode cX12_isOpen 57 = .ok (.aload_n 0, 1) := by decide +kernel
theorem dX12_isOpen_58 : decode cX12_isOpen 58 = .ok (.iload 5, 2) := by decide +kernel
theorem dX12_isOpen_60 : decode cX12_isOpen 60 = .ok (.invokevirtual 254, 3) := by decide +kernel
theorem dX12_isOpen_63 : decode cX12_isOpen 63 = .ok (.istore 6, 2) := by decide +kernel
theorem dX12_isOpen_65 : decode cX12_isOpen 65 = .ok (.iload 6, 2) := by decide +kernel
theorem dX12_isOpen_67 : decode cX12_isOpen 67 = .ok (.bipush (-4), 2) := by decide +kernel
theorem dX12_isOpen_69 : decode cX12_isOpen 69 = .ok (.if_icmp .ne 5, 3) := by decide +kernel
theorem dX12_isOpen_72 : decode cX12_isOpen 72 = .ok (.iconst 0, 1) := by decide +kernel
theorem dX12_isOpen_73 : decode cX12_isOpen 73 = .ok (.ireturn, 1) := by decide +kernel
theorem dX12_isOpen_74 : decode cX12_isOpen 74 = .ok (.aload_n 0, 1) := by decide +kernel
theorem dX12_isOpen_75 : decode cX12_isOpen 75 = .ok (.getfield 36, 3) := by decide +kernel
theorem dX12_isOpen_78 : decode cX12_isOpen 78 = .ok (.iconst 3, 1) := by decide +kernel
theorem dX12_isOpen_79 : decode cX12_isOpen 79 = .ok (.iload 5, 2) := by decide +kernel
theorem dX12_isOpen_81 : decode cX12_isOpen 81 = .ok (.imul, 1) := by decide +kernel
theorem dX12_isOpen_82 : decode cX12_isOpen 82 = .ok (.iload 6, 2) := by decide +kernel
theorem dX12_isOpen_84 : decode cX12_isOpen 84 = .ok (.iadd, 1) := by decide +kernel
theorem dX12_isOpen_85 : decode cX12_isOpen 85 = .ok (.iaload, 1) := by decide +kernel
theorem dX12_isOpen_86 : decode cX12_isOpen 86 = .ok (.istore 7, 2) := by decide +kernel
theorem dX12_isOpen_88 : decode cX12_isOpen 88 = .ok (.aload_n 0, 1) := by decide +kernel
theorem dX12_isOpen_89 : decode cX12_isOpen 89 = .ok (.iload 7, 2) := by decide +kernel
theorem dX12_isOpen_91 : decode cX12_isOpen 91 = .ok (.invokevirtual 254, 3) := by decide +kernel
theorem dX12_isOpen_94 : decode cX12_isOpen 94 = .ok (.istore 8, 2) := by decide +kernel
theorem dX12_isOpen_96 : decode cX12_isOpen 96 = .ok (.iload 8, 2) := by decide +kernel
theorem dX12_isOpen_98 : decode cX12_isOpen 98 = .ok (.bipush (-4), 2) := by decide +kernel
theorem dX12_isOpen_100 : decode cX12_isOpen 100 = .ok (.if_icmp .eq 30, 3) := by decide +kernel
theorem dX12_isOpen_103 : decode cX12_isOpen 103 = .ok (.aload_n 0, 1) := by decide +kernel
theorem dX12_isOpen_104 : decode cX12_isOpen 104 = .ok (.getfield 39, 3) := by decide +kernel
theorem dX12_isOpen_107 : decode cX12_isOpen 107 = .ok (.iconst 3, 1) := by decide +kernel
theorem dX12_isOpen_108 : decode cX12_isOpen 108 = .ok (.iload 7, 2) := by decide +kernel
theorem dX12_isOpen_110 : decode cX12_isOpen 110 = .ok (.imul, 1) := by decide +kernel
theorem dX12_isOpen_111 : decode cX12_isOpen 111 = .ok (.iload 8, 2) := by decide +kernel
theorem dX12_isOpen_113 : decode cX12_isOpen 113 = .ok (.iadd, 1) := by decide +kernel
theorem dX12_isOpen_114 : decode cX12_isOpen 114 = .ok (.iaload, 1) := by decide +kernel
theorem dX12_isOpen_115 : decode cX12_isOpen 115 = .ok (.aload_n 0, 1) := by decide +kernel
theorem dX12_isOpen_116 : decode cX12_isOpen 116 = .ok (.getfield 39, 3) := by decide +kernel
theorem dX12_isOpen_119 : decode cX12_isOpen 119 = .ok (.iconst 3, 1) := by decide +kernel
theorem dX12_isOpen_120 : decode cX12_isOpen 120 = .ok (.iload 5, 2) := by decide +kernel
theorem dX12_isOpen_122 : decode cX12_isOpen 122 = .ok (.imul, 1) := by decide +kernel
theorem dX12_isOpen_123 : decode cX12_isOpen 123 = .ok (.iload 6, 2) := by decide +kernel
theorem dX12_isOpen_125 : decode cX12_isOpen 125 = .ok (.iadd, 1) := by decide +kernel
theorem dX12_isOpen_126 : decode cX12_isOpen 126 = .ok (.iaload, 1) := by decide +kernel
theorem dX12_isOpen_127 : decode cX12_isOpen 127 = .ok (.if_icmp .eq 5, 3) := by decide +kernel
theorem dX12_isOpen_130 : decode cX12_isOpen 130 = .ok (.iconst 0, 1) := by decide +kernel
theorem dX12_isOpen_131 : decode cX12_isOpen 131 = .ok (.ireturn, 1) := by decide +kernel
theorem dX12_isOpen_132 : decode cX12_isOpen 132 = .ok (.aload_n 0, 1) := by decide +kernel
theorem dX12_isOpen_133 : decode cX12_isOpen 133 = .ok (.iload 7, 2) := by decide +kernel
theorem dX12_isOpen_135 : decode cX12_isOpen 135 = .ok (.iconst 2, 1) := by decide +kernel
theorem dX12_isOpen_136 : decode cX12_isOpen 136 = .ok (.idiv, 1) := by decide +kernel
theorem dX12_isOpen_137 : decode cX12_isOpen 137 = .ok (.putfield 245, 3) := by decide +kernel
theorem dX12_isOpen_140 : decode cX12_isOpen 140 = .ok (.aload_n 0, 1) := by decide +kernel
theorem dX12_isOpen_141 : decode cX12_isOpen 141 = .ok (.aload_n 0, 1) := by decide +kernel
theorem dX12_isOpen_142 : decode cX12_isOpen 142 = .ok (.iload 7, 2) := by decide +kernel
theorem dX12_isOpen_144 : decode cX12_isOpen 144 = .ok (.invokevirtual 257, 3) := by decide +kernel
theorem dX12_isOpen_147 : decode cX12_isOpen 147 = .ok (.putfield 248, 3) := by decide +kernel
theorem dX12_isOpen_150 : decode cX12_isOpen 150 = .ok (.aload_n 0, 1) := by decide +kernel
theorem dX12_isOpen_151 : decode cX12_isOpen 151 = .ok (.iload 7, 2) := by decide +kernel
theorem dX12_isOpen_153 : decode cX12_isOpen 153 = .ok (.iconst 2, 1) := by decide +kernel
theorem dX12_isOpen_154 : decode cX12_isOpen 154 = .ok (.irem, 1) := by decide +kernel
theorem dX12_isOpen_155 : decode cX12_isOpen 155 = .ok (.ifCond .ne 7, 3) := by decide +kernel
theorem dX12_isOpen_158 : decode cX12_isOpen 158 = .ok (.iconst 1, 1) := by decide +kernel
theorem dX12_isOpen_159 : decode cX12_isOpen 159 = .ok (.goto 4, 3) := by decide +kernel
theorem dX12_isOpen_162 : decode cX12_isOpen 162 = .ok (.iconst 0, 1) := by decide +kernel
theorem dX12_isOpen_163 : decode cX12_isOpen 163 = .ok (.putfield 251, 3) := by decide +kernel
theorem dX12_isOpen_166 : decode cX12_isOpen 166 = .ok (.aload_n 0, 1) := by decide +kernel
theorem dX12_isOpen_167 : decode cX12_isOpen 167 = .ok (.getfield 245, 3) := by decide +kernel
theorem dX12_isOpen_170 : decode cX12_isOpen 170 = .ok (.iload_n 1, 1) := by decide +kernel
theorem dX12_isOpen_171 : decode cX12_isOpen 171 = .ok (.if_icmp .ne 11, 3) := by decide +kernel
theorem dX12_isOpen_174 : decode cX12_isOpen 174 = .ok (.aload_n 0, 1) := by decide +kernel
theorem dX12_isOpen_175 : decode cX12_isOpen 175 = .ok (.getfield 248, 3) := by decide +kernel
theorem dX12_isOpen_178 : decode cX12_isOpen 178 = .ok (.iload_n 2, 1) := by decide +kernel
theorem dX12_isOpen_179 : decode cX12_isOpen 179 = .ok (.if_icmp .eq 7, 3) := by decide +kernel
theorem dX12_isOpen_182 : decode cX12_isOpen 182 = .ok (.iconst 1, 1) := by decide +kernel
theorem dX12_isOpen_183 : decode cX12_isOpen 183 = .ok (.goto 4, 3) := by decide +kernel
theorem dX12_isOpen_186 : decode cX12_isOpen 186 = .ok (.iconst 0, 1) := by decide +kernel
theorem dX12_isOpen_187 : decode cX12_isOpen 187 = .ok (.ireturn, 1) := by decide +kernel
set_option maxRecDepth 100000 in
set_option maxHeartbeats 4000000 in
theorem w_X12_isOpen_j163 {p : Program} {l : Launch} {e : Env} {R : Room} {s : State} {m : MethodId} {args : Array Value} {below : List Frame} {meth : Method} {c : Code} {dC : Nat → ClassId} {dI : Nat → Nat → Nat} {cs : Nat → ClassId} {ad : Nat → Nat} {A : Nat → Prop} {D0 : Nat → Nat} {S' : SS} {r : Int32} (F : Fx p s m args meth c cX12_isOpen 9 RX12 (some .boolean) dC dI cs A) (hR1 : 0 ≤ R.frames) (hR2 : 0 ≤ R.locals) (x1 : Int32) (x2 : Int32) (y0 : Int32) (S : SS) (h : f_X12_isOpen_j163 x1 x2 y0 S = some (r, S')) : AW p l e R s m args below meth c dC dI cs ad A D0 (some (.int r)) S' 9 163 [(0, .ref (ad 14)), (1, .int x1), (2, .int x2)] [.int y0, .ref (ad 14)] S := by
  have hx := F.1.1
  have hb := F.1.2.1
  intro H locs ls w hl
  rw [f_X12_isOpen_j163] at h
  refine s_putI (pc := 163) F w ds_14 vc_X12 vi_X12 tyX12_ok nmX12 (j := 28) rfl (by decide) kf_X12_251 rfl pd_I h dX12_isOpen_163 (fun S11 H locs h w => ?_)
  refine lv_aload_n (pc := 166) hx hb dX12_isOpen_166 rfl (lv_at hl 0 rfl) ?_
  refine s_getI (pc := 167) F w ds_14 (j := 26) vc_X12 vi_X12 rfl (by decide) kf_X12_245 dX12_isOpen_167 ?_
  refine lv_iload_n (pc := 170) hx hb dX12_isOpen_170 rfl (lv_at hl 1 rfl) ?_
  refine lv_icmp_ne (pc := 171) (tgt := 182) hx hb dX12_isOpen_171 (by decide) (fun q => ?_) (fun q => ?_)
  · have h := ite_f q h
    refine lv_iconst (pc := 182) (v := 1) hx hb dX12_isOpen_182 (by decide) ?_
    refine lv_goto (pc := 183) (tgt := 187) hx hb dX12_isOpen_183 (by decide) ?_
    exact s_zretc F w rfl h dX12_isOpen_187
  · have h := ite_t q h
    refine lv_aload_n (pc := 174) hx hb dX12_isOpen_174 rfl (lv_at hl 0 rfl) ?_
    refine s_getI (pc := 175) F w ds_14 (j := 27) vc_X12 vi_X12 rfl (by decide) kf_X12_248 dX12_isOpen_175 ?_
    refine lv_iload_n (pc := 178) hx hb dX12_isOpen_178 rfl (lv_at hl 2 rfl) ?_
    refine lv_icmp_eq (pc := 179) (tgt := 186) hx hb dX12_isOpen_179 (by decide) (fun q => ?_) (fun q => ?_)
    · have h := ite_t q h
      refine lv_iconst (pc := 186) (v := 0) hx hb dX12_isOpen_186 (by decide) ?_
      exact s_zretc F w rfl h dX12_isOpen_187
    · have h := ite_f q h
      refine lv_iconst (pc := 182) (v := 1) hx hb dX12_isOpen_182 (by decide) ?_
      refine lv_goto (pc := 183) (tgt := 187) hx hb dX12_isOpen_183 (by decide) ?_
      exact s_zretc F w rfl h dX12_isOpen_187
set_option maxRecDepth 100000 in
set_option maxHeartbeats 4000000 in
theorem w_X12_isOpen_j50 {p : Program} {l : Launch} {e : Env} {R : Room} {s : State} {m : MethodId} {args : Array Value} {below : List Frame} {meth : Method} {c : Code} {dC : Nat → ClassId} {dI : Nat → Nat → Nat} {cs : Nat → ClassId} {ad : Nat → Nat} {A : Nat → Prop} {D0 : Nat → Nat} {S' : SS} {r : Int32} (F : Fx p s m args meth c cX12_isOpen 9 RX12 (some .boolean) dC dI cs A) (hR1 : 1 ≤ R.frames) (hR2 : 22 ≤ R.locals) (x1 : Int32) (x2 : Int32) (x3 : Int32) (S : SS) (h : f_X12_isOpen_j50 x1 x2 x3 S = some (r, S')) : AW p l e R s m args below meth c dC dI cs ad A D0 (some (.int r)) S' 9 50 [(0, .ref (ad 14)), (1, .int x1), (2, .int x2), (3, .int x3)] [] S := by
  have hx := F.1.1
  have hb := F.1.2.1
  intro H locs ls w hl
  rw [f_X12_isOpen_j50] at h
  refine lv_iconst (pc := 50) (v := 2) hx hb dX12_isOpen_50 (by decide) ?_
  refine lv_iload_n (pc := 51) hx hb dX12_isOpen_51 rfl (lv_at hl 1 rfl) ?_
  refine lv_imul (pc := 52) hx hb dX12_isOpen_52 ?_
  refine lv_iload_n (pc := 53) hx hb dX12_isOpen_53 rfl (lv_at hl 3 rfl) ?_
  refine lv_iadd (pc := 54) hx hb dX12_isOpen_54 ?_
  refine s_nm h (fun z1 ez1 h => ?_)
  rw [← ez1]
  refine lv_istore (pc := 55) (lv' := [(5, .int z1), (0, .ref (ad 14)), (1, .int x1), (2, .int x2), (3, .int x3)]) hx hb dX12_isOpen_55 hl (by decide) rfl (fun ls hl => ?_)
  refine lv_aload_n (pc := 57) hx hb dX12_isOpen_57 rfl (lv_at hl 1 rfl) ?_
  refine lv_iload (pc := 58) hx hb dX12_isOpen_58 (lv_at hl 0 rfl) ?_
  obtain ⟨r3, S2, hc, h⟩ := bnd_t h
  refine s_cvi (pc := 60) [.int z1] (fun ad => [.ref (ad 14), .int z1]) F w (m_X12_openLink _ _ _ _ hc) rfl rfl hl.1 ds_14 vc_X12 rfl ok_X12_openLink rfl kc_X12_openLink kl_X12_254 ki_X12_openLink kv_X12_openLink kn_X12 ⟨Nat.le_trans (by decide) hR1, Nat.le_trans (by decide) hR2⟩ ⟨Nat.zero_le _, Nat.zero_le _⟩ (Nat.le_of_ble_eq_true rfl) dX12_isOpen_60 (fun H locs w => ?_)
  refine lv_istore (pc := 63) (lv' := [(6, .int r3), (5, .int z1), (0, .ref (ad 14)), (1, .int x1), (2, .int x2), (3, .int x3)]) hx hb dX12_isOpen_63 hl (by decide) rfl (fun ls hl => ?_)
  refine lv_iload (pc := 65) hx hb dX12_isOpen_65 (lv_at hl 0 rfl) ?_
  refine lv_bipush (pc := 67) (v := -4) hx hb dX12_isOpen_67 (by decide) ?_
  refine lv_icmp_ne (pc := 69) (tgt := 74) hx hb dX12_isOpen_69 (by decide) (fun q => ?_) (fun q => ?_)
  · have h := ite_f q h
    refine lv_aload_n (pc := 74) hx hb dX12_isOpen_74 rfl (lv_at hl 2 rfl) ?_
    refine s_getR (pc := 75) F w 74 ds_14 (j := 12) vc_X12 vi_X12 rfl (by decide) kf_X12_36 dX12_isOpen_75 ?_
    refine lv_iconst (pc := 78) (v := 3) hx hb dX12_isOpen_78 (by decide) ?_
    refine lv_iload (pc := 79) hx hb dX12_isOpen_79 (lv_at hl 1 rfl) ?_
    refine lv_imul (pc := 81) hx hb dX12_isOpen_81 ?_
    refine lv_iload (pc := 82) hx hb dX12_isOpen_82 (lv_at hl 0 rfl) ?_
    refine lv_iadd (pc := 84) hx hb dX12_isOpen_84 ?_
    refine s_iald (pc := 85) F w ds_74 h dX12_isOpen_85 (fun h => ?_)
    refine s_nm h (fun z4 ez4 h => ?_)
    rw [← ez4]
    refine lv_istore (pc := 86) (lv' := [(7, .int z4), (6, .int r3), (5, .int z1), (0, .ref (ad 14)), (1, .int x1), (2, .int x2), (3, .int x3)]) hx hb dX12_isOpen_86 hl (by decide) rfl (fun ls hl => ?_)
    refine lv_aload_n (pc := 88) hx hb dX12_isOpen_88 rfl (lv_at hl 3 rfl) ?_
    refine lv_iload (pc := 89) hx hb dX12_isOpen_89 (lv_at hl 0 rfl) ?_
    obtain ⟨r6, S5, hc, h⟩ := bnd_t h
    refine s_cvi (pc := 91) [.int z4] (fun ad => [.ref (ad 14), .int z4]) F w (m_X12_openLink _ _ _ _ hc) rfl rfl hl.1 ds_14 vc_X12 rfl ok_X12_openLink rfl kc_X12_openLink kl_X12_254 ki_X12_openLink kv_X12_openLink kn_X12 ⟨Nat.le_trans (by decide) hR1, Nat.le_trans (by decide) hR2⟩ ⟨Nat.zero_le _, Nat.zero_le _⟩ (Nat.le_of_ble_eq_true rfl) dX12_isOpen_91 (fun H locs w => ?_)
    refine lv_istore (pc := 94) (lv' := [(8, .int r6), (7, .int z4), (6, .int r3), (5, .int z1), (0, .ref (ad 14)), (1, .int x1), (2, .int x2), (3, .int x3)]) hx hb dX12_isOpen_94 hl (by decide) rfl (fun ls hl => ?_)
    refine lv_iload (pc := 96) hx hb dX12_isOpen_96 (lv_at hl 0 rfl) ?_
    refine lv_bipush (pc := 98) (v := -4) hx hb dX12_isOpen_98 (by decide) ?_
    refine lv_icmp_eq (pc := 100) (tgt := 130) hx hb dX12_isOpen_100 (by decide) (fun q => ?_) (fun q => ?_)
    · have h := ite_t q h
      refine lv_iconst (pc := 130) (v := 0) hx hb dX12_isOpen_130 (by decide) ?_
      exact s_zretc F w rfl h dX12_isOpen_131
    · have h := ite_f q h
      refine lv_aload_n (pc := 103) hx hb dX12_isOpen_103 rfl (lv_at hl 4 rfl) ?_
      refine s_getR (pc := 104) F w 75 ds_14 (j := 13) vc_X12 vi_X12 rfl (by decide) kf_X12_39 dX12_isOpen_104 ?_
      refine lv_iconst (pc := 107) (v := 3) hx hb dX12_isOpen_107 (by decide) ?_
      refine lv_iload (pc := 108) hx hb dX12_isOpen_108 (lv_at hl 1 rfl) ?_
      refine lv_imul (pc := 110) hx hb dX12_isOpen_110 ?_
      refine lv_iload (pc := 111) hx hb dX12_isOpen_111 (lv_at hl 0 rfl) ?_
      refine lv_iadd (pc := 113) hx hb dX12_isOpen_113 ?_
      refine s_iald (pc := 114) F w ds_75 h dX12_isOpen_114 (fun h => ?_)
      refine lv_aload_n (pc := 115) hx hb dX12_isOpen_115 rfl (lv_at hl 4 rfl) ?_
      refine s_getR (pc := 116) F w 75 ds_14 (j := 13) vc_X12 vi_X12 rfl (by decide) kf_X12_39 dX12_isOpen_116 ?_
      refine lv_iconst (pc := 119) (v := 3) hx hb dX12_isOpen_119 (by decide) ?_
      refine lv_iload (pc := 120) hx hb dX12_isOpen_120 (lv_at hl 3 rfl) ?_
      refine lv_imul (pc := 122) hx hb dX12_isOpen_122 ?_
      refine lv_iload (pc := 123) hx hb dX12_isOpen_123 (lv_at hl 2 rfl) ?_
      refine lv_iadd (pc := 125) hx hb dX12_isOpen_125 ?_
      refine s_iald (pc := 126) F w ds_75 h dX12_isOpen_126 (fun h => ?_)
      refine lv_icmp_eq (pc := 127) (tgt := 132) hx hb dX12_isOpen_127 (by decide) (fun q => ?_) (fun q => ?_)
      · have h := ite_t q h
        refine lv_aload_n (pc := 132) hx hb dX12_isOpen_132 rfl (lv_at hl 4 rfl) ?_
        refine lv_iload (pc := 133) hx hb dX12_isOpen_133 (lv_at hl 1 rfl) ?_
        refine lv_iconst (pc := 135) (v := 2) hx hb dX12_isOpen_135 (by decide) ?_
        refine lv_idiv (pc := 136) hx hb dX12_isOpen_136 (by decide) ?_
        refine s_putI (pc := 137) F w ds_14 vc_X12 vi_X12 tyX12_ok nmX12 (j := 26) rfl (by decide) kf_X12_245 rfl pd_I h dX12_isOpen_137 (fun S7 H locs h w => ?_)
        refine lv_aload_n (pc := 140) hx hb dX12_isOpen_140 rfl (lv_at hl 4 rfl) ?_
        refine lv_aload_n (pc := 141) hx hb dX12_isOpen_141 rfl (lv_at hl 4 rfl) ?_
        refine lv_iload (pc := 142) hx hb dX12_isOpen_142 (lv_at hl 1 rfl) ?_
        obtain ⟨r9, S8, hc, h⟩ := bnd_t h
        refine s_cvi (pc := 144) [.int z4] (fun ad => [.ref (ad 14), .int z4]) F w (m_X12_placeAtEnd _ _ _ _ hc) rfl rfl hl.1 ds_14 vc_X12 rfl ok_X12_placeAtEnd rfl kc_X12_placeAtEnd kl_X12_257 ki_X12_placeAtEnd kv_X12_placeAtEnd kn_X12 ⟨Nat.le_trans (by decide) hR1, Nat.le_trans (by decide) hR2⟩ ⟨Nat.zero_le _, Nat.zero_le _⟩ (Nat.le_of_ble_eq_true rfl) dX12_isOpen_144 (fun H locs w => ?_)
        refine s_putI (pc := 147) F w ds_14 vc_X12 vi_X12 tyX12_ok nmX12 (j := 27) rfl (by decide) kf_X12_248 rfl pd_I h dX12_isOpen_147 (fun S10 H locs h w => ?_)
        refine lv_aload_n (pc := 150) hx hb dX12_isOpen_150 rfl (lv_at hl 4 rfl) ?_
        refine lv_iload (pc := 151) hx hb dX12_isOpen_151 (lv_at hl 1 rfl) ?_
        refine lv_iconst (pc := 153) (v := 2) hx hb dX12_isOpen_153 (by decide) ?_
        refine lv_irem (pc := 154) hx hb dX12_isOpen_154 (by decide) ?_
        refine lv_if_ne (pc := 155) (tgt := 162) hx hb dX12_isOpen_155 (by decide) (fun q => ?_) (fun q => ?_)
        · have h := ite_f q h
          refine lv_iconst (pc := 162) (v := 0) hx hb dX12_isOpen_162 (by decide) ?_
          exact w_X12_isOpen_j163 F (Nat.le_trans (by decide) hR1) (Nat.le_trans (by decide) hR2) _ _ _ _ h _ _ _ w (lv_sub hl [4, 5, 6] rfl)
        · have h := ite_t q h
          refine lv_iconst (pc := 158) (v := 1) hx hb dX12_isOpen_158 (by decide) ?_
          refine lv_goto (pc := 159) (tgt := 163) hx hb dX12_isOpen_159 (by decide) ?_
          exact w_X12_isOpen_j163 F (Nat.le_trans (by decide) hR1) (Nat.le_trans (by decide) hR2) _ _ _ _ h _ _ _ w (lv_sub hl [4, 5, 6] rfl)
      · have h := ite_f q h
        refine lv_iconst (pc := 130) (v := 0) hx hb dX12_isOpen_130 (by decide) ?_
        exact s_zretc F w rfl h dX12_isOpen_131
  · have h := ite_t q h
    refine lv_iconst (pc := 72) (v := 0) hx hb dX12_isOpen_72 (by decide) ?_
    exact s_zretc F w rfl h dX12_isOpen_73
set_option maxRecDepth 100000 in
set_option maxHeartbeats 4000000 in
theorem w_X12_isOpen_j14 {p : Program} {l : Launch} {e : Env} {R : Room} {s : State} {m : MethodId} {args : Array Value} {below : List Frame} {meth : Method} {c : Code} {dC : Nat → ClassId} {dI : Nat → Nat → Nat} {cs : Nat → ClassId} {ad : Nat → Nat} {A : Nat → Prop} {D0 : Nat → Nat} {S' : SS} {r : Int32} (F : Fx p s m args meth c cX12_isOpen 9 RX12 (some .boolean) dC dI cs A) (hR1 : 1 ≤ R.frames) (hR2 : 22 ≤ R.locals) (x1 : Int32) (x2 : Int32) (x3 : Int32) (y0 : Int32) (S : SS) (h : f_X12_isOpen_j14 x1 x2 x3 y0 S = some (r, S')) : AW p l e R s m args below meth c dC dI cs ad A D0 (some (.int r)) S' 9 14 [(0, .ref (ad 14)), (1, .int x1), (2, .int x2), (3, .int x3)] [.int y0] S := by
  have hx := F.1.1
  have hb := F.1.2.1
  intro H locs ls w hl
  rw [f_X12_isOpen_j14] at h
  refine lv_istore (pc := 14) (lv' := [(4, .int y0), (0, .ref (ad 14)), (1, .int x1), (2, .int x2), (3, .int x3)]) hx hb dX12_isOpen_14 hl (by decide) rfl (fun ls hl => ?_)
  refine lv_iload (pc := 16) hx hb dX12_isOpen_16 (lv_at hl 0 rfl) ?_
  refine lv_if_lt (pc := 18) (tgt := 50) hx hb dX12_isOpen_18 (by decide) (fun q => ?_) (fun q => ?_)
  · have h := ite_t q h
    exact w_X12_isOpen_j50 F (Nat.le_trans (by decide) hR1) (Nat.le_trans (by decide) hR2) _ _ _ _ h _ _ _ w (lv_sub hl [1, 2, 3, 4] rfl)
  · have h := ite_f q h
    refine lv_iload (pc := 21) hx hb dX12_isOpen_21 (lv_at hl 0 rfl) ?_
    refine lv_aload_n (pc := 23) hx hb dX12_isOpen_23 rfl (lv_at hl 1 rfl) ?_
    refine s_getR (pc := 24) F w 70 ds_14 (j := 8) vc_X12 vi_X12 rfl (by decide) kf_X12_23 dX12_isOpen_24 ?_
    refine lv_iload_n (pc := 27) hx hb dX12_isOpen_27 rfl (lv_at hl 2 rfl) ?_
    refine s_iald (pc := 28) F w ds_70 h dX12_isOpen_28 (fun h => ?_)
    refine lv_icmp_ge (pc := 29) (tgt := 50) hx hb dX12_isOpen_29 (by decide) (fun q => ?_) (fun q => ?_)
    · have h := ite_t q h
      exact w_X12_isOpen_j50 F (Nat.le_trans (by decide) hR1) (Nat.le_trans (by decide) hR2) _ _ _ _ h _ _ _ w (lv_sub hl [1, 2, 3, 4] rfl)
    · have h := ite_f q h
      refine lv_aload_n (pc := 32) hx hb dX12_isOpen_32 rfl (lv_at hl 1 rfl) ?_
      refine lv_iload_n (pc := 33) hx hb dX12_isOpen_33 rfl (lv_at hl 2 rfl) ?_
      refine s_putI (pc := 34) F w ds_14 vc_X12 vi_X12 tyX12_ok nmX12 (j := 26) rfl (by decide) kf_X12_245 rfl pd_I h dX12_isOpen_34 (fun S12 H locs h w => ?_)
      refine lv_aload_n (pc := 37) hx hb dX12_isOpen_37 rfl (lv_at hl 1 rfl) ?_
      refine lv_iload (pc := 38) hx hb dX12_isOpen_38 (lv_at hl 0 rfl) ?_
      refine s_putI (pc := 40) F w ds_14 vc_X12 vi_X12 tyX12_ok nmX12 (j := 27) rfl (by decide) kf_X12_248 rfl pd_I h dX12_isOpen_40 (fun S13 H locs h w => ?_)
      refine lv_aload_n (pc := 43) hx hb dX12_isOpen_43 rfl (lv_at hl 1 rfl) ?_
      refine lv_iload_n (pc := 44) hx hb dX12_isOpen_44 rfl (lv_at hl 4 rfl) ?_
      refine s_putI (pc := 45) F w ds_14 vc_X12 vi_X12 tyX12_ok nmX12 (j := 28) rfl (by decide) kf_X12_251 rfl pd_I h dX12_isOpen_45 (fun S14 H locs h w => ?_)
      refine lv_iconst (pc := 48) (v := 1) hx hb dX12_isOpen_48 (by decide) ?_
      exact s_zretc F w rfl h dX12_isOpen_49
set_option maxRecDepth 100000 in
set_option maxHeartbeats 4000000 in
theorem m_X12_isOpen (a1 : Int32) (a2 : Int32) (a3 : Int32) (S S' : SS) (r : Int32) (h : f_X12_isOpen a1 a2 a3 S = some (r, S')) : MT yX12_isOpen cX12_isOpen 9 (some .boolean) 1 22 (fun ad => [.ref (ad 14), .int a1, .int a2, .int a3]) S (some (.int r)) S' := by
  refine MT.of RX12 (fun ad => [(0, .ref (ad 14)), (1, .int a1), (2, .int a2), (3, .int a3)]) (by decide) rfl (fun _ => Nat.le_of_ble_eq_true rfl) (fun _ => rfl) ?_
  intro p l e R s m args below meth c dC dI cs ad A hR1 hR2 F H locs ls w hl
  have hx := F.1.1
  have hb := F.1.2.1
  rw [f_X12_isOpen] at h
  refine lv_iload_n (pc := 0) hx hb dX12_isOpen_0 rfl (lv_at hl 3 rfl) ?_
  refine lv_iconst (pc := 1) (v := 1) hx hb dX12_isOpen_1 (by decide) ?_
  refine lv_icmp_ne (pc := 2) (tgt := 11) hx hb dX12_isOpen_2 (by decide) (fun q => ?_) (fun q => ?_)
  · have h := ite_f q h
    refine lv_iload_n (pc := 11) hx hb dX12_isOpen_11 rfl (lv_at hl 2 rfl) ?_
    refine lv_iconst (pc := 12) (v := 1) hx hb dX12_isOpen_12 (by decide) ?_
    refine lv_isub (pc := 13) hx hb dX12_isOpen_13 ?_
    exact w_X12_isOpen_j14 F (Nat.le_trans (by decide) hR1) (Nat.le_trans (by decide) hR2) _ _ _ _ _ h _ _ _ w (lv_sub hl [0, 1, 2, 3] rfl)
  · have h := ite_t q h
    refine lv_iload_n (pc := 5) hx hb dX12_isOpen_5 rfl (lv_at hl 2 rfl) ?_
    refine lv_iconst (pc := 6) (v := 1) hx hb dX12_isOpen_6 (by decide) ?_
    refine lv_iadd (pc := 7) hx hb dX12_isOpen_7 ?_
    refine lv_goto (pc := 8) (tgt := 14) hx hb dX12_isOpen_8 (by decide) ?_
    exact w_X12_isOpen_j14 F (Nat.le_trans (by decide) hR1) (Nat.le_trans (by decide) hR2) _ _ _ _ _ h _ _ _ w (lv_sub hl [0, 1, 2, 3] rfl)
def f_X12_sideTo (a1 : Int32) (a2 : Int32) (S : SS) : Option (Int32 × SS) :=
  grd (inb ((2 : Int32) * a1) 144) (
  if (S.1 90 ((2 : Int32) * a1).toNatClampNeg) = a2 then
    some ((0 : Int32), S)
  else
    some ((1 : Int32), S))
theorem dX12_sideTo_0 : decode cX12_sideTo 0 = .ok (.aload_n 0, 1) := by decide +kernel
theorem dX12_sideTo_1 : decode cX12_sideTo 1 = .ok (.getfield 84, 3) := by decide +kernel
theorem dX12_sideTo_4 : decode cX12_sideTo 4 = .ok (.iconst 2, 1) := by decide +kernel
theorem dX12_sideTo_5 : decode cX12_sideTo 5 = .ok (.iload_n 1, 1) := by decide +kernel
theorem dX12_sideTo_6 : decode cX12_sideTo 6 = .ok (.imul, 1) := by decide +kernel
theorem dX12_sideTo_7 : decode cX12_sideTo 7 = .ok (.iaload, 1) := by decide +kernel
theorem dX12_sideTo_8 : decode cX12_sideTo 8 = .ok (.iload_n 2, 1) := by decide +kernel
theorem dX12_sideTo_9 : decode cX12_sideTo 9 = .ok (.if_icmp .ne 7, 3) := by decide +kernel
theorem dX12_sideTo_12 : decode cX12_sideTo 12 = .ok (.iconst 0, 1) := by decide +kernel
theorem dX12_sideTo_13 : decode cX12_sideTo 13 = .ok (.goto 4, 3) := by decide +kernel
theorem dX12_sideTo_16 : decode cX12_sideTo 16 = .ok (.iconst 1, 1) := by decide +kernel
theorem dX12_sideTo_17 : decode cX12_sideTo 17 = .ok (.ireturn, 1) := by decide +kernel
set_option maxRecDepth 100000 in
set_option maxHeartbeats 4000000 in
theorem m_X12_sideTo (a1 : Int32) (a2 : Int32) (S S' : SS) (r : Int32) (h : f_X12_sideTo a1 a2 S = some (r, S')) : MT yX12_sideTo cX12_sideTo 3 (some .int) 0 0 (fun ad => [.ref (ad 14), .int a1, .int a2]) S (some (.int r)) S' := by
  refine MT.of RX12 (fun ad => [(0, .ref (ad 14)), (1, .int a1), (2, .int a2)]) (by decide) rfl (fun _ => Nat.le_of_ble_eq_true rfl) (fun _ => rfl) ?_
  intro p l e R s m args below meth c dC dI cs ad A hR1 hR2 F H locs ls w hl
  have hx := F.1.1
  have hb := F.1.2.1
  rw [f_X12_sideTo] at h
  refine lv_aload_n (pc := 0) hx hb dX12_sideTo_0 rfl (lv_at hl 0 rfl) ?_
  refine s_getR (pc := 1) F w 90 ds_14 (j := 35) vc_X12 vi_X12 rfl (by decide) kf_X12_84 dX12_sideTo_1 ?_
  refine lv_iconst (pc := 4) (v := 2) hx hb dX12_sideTo_4 (by decide) ?_
  refine lv_iload_n (pc := 5) hx hb dX12_sideTo_5 rfl (lv_at hl 1 rfl) ?_
  refine lv_imul (pc := 6) hx hb dX12_sideTo_6 ?_
  refine s_iald (pc := 7) F w ds_90 h dX12_sideTo_7 (fun h => ?_)
  refine lv_iload_n (pc := 8) hx hb dX12_sideTo_8 rfl (lv_at hl 2 rfl) ?_
  refine lv_icmp_ne (pc := 9) (tgt := 16) hx hb dX12_sideTo_9 (by decide) (fun q => ?_) (fun q => ?_)
  · have h := ite_f q h
    refine lv_iconst (pc := 16) (v := 1) hx hb dX12_sideTo_16 (by decide) ?_
    exact s_iret F w h dX12_sideTo_17
  · have h := ite_t q h
    refine lv_iconst (pc := 12) (v := 0) hx hb dX12_sideTo_12 (by decide) ?_
    refine lv_goto (pc := 13) (tgt := 17) hx hb dX12_sideTo_13 (by decide) ?_
    exact s_iret F w h dX12_sideTo_17
def f_X12_lineUp_L81  : Nat → Int32 → Int32 → SS → Option (SS)
  | 0, _, _, _ => none
  | n + 1, x2, x3, S =>
    grd (inb (((2 : Int32) * x2) + x3) 144) (
    if (S.1 90 (((2 : Int32) * x2) + x3).toNatClampNeg) = (-4 : Int32) then
      wr S 14 58 x3 (fun S6 =>
      some S6)
    else
      grd (inb (((2 : Int32) * x2) + x3) 144) (
      nm (S.1 90 (((2 : Int32) * x2) + x3).toNatClampNeg) (fun z7 =>
      bnd (f_X12_sideTo z7 x2 S) (fun r9 S8 =>
      nm ((1 : Int32) - r9) (fun z10 =>
      grd (inb (S8.1 14 56) 72) (wr S8 106 (S8.1 14 56).toNatClampNeg z7 (fun S11 =>
      wr S11 14 56 ((S11.1 14 56) + (1 : Int32)) (fun S12 =>
      f_X12_lineUp_L81 n z7 z10 S12))))))))
def f_X12_lineUp_L4  : Nat → Int32 → Int32 → SS → Option (SS)
  | 0, _, _, _ => none
  | n + 1, x2, x3, S =>
    grd (inb (((2 : Int32) * x2) + x3) 144) (
    if (S.1 90 (((2 : Int32) * x2) + x3).toNatClampNeg) = (-4 : Int32) then
      wr S 14 57 x3 (fun S1 =>
      wr S1 14 56 (0 : Int32) (fun S2 =>
      nm ((1 : Int32) - x3) (fun z3 =>
      grd (inb (S2.1 14 56) 72) (wr S2 106 (S2.1 14 56).toNatClampNeg x2 (fun S4 =>
      wr S4 14 56 ((S4.1 14 56) + (1 : Int32)) (fun S5 =>
      f_X12_lineUp_L81 NF x2 z3 S5))))))
    else
      grd (inb (((2 : Int32) * x2) + x3) 144) (
      nm (S.1 90 (((2 : Int32) * x2) + x3).toNatClampNeg) (fun z13 =>
      bnd (f_X12_sideTo z13 x2 S) (fun r15 S14 =>
      nm ((1 : Int32) - r15) (fun z16 =>
      f_X12_lineUp_L4 n z13 z16 S14)))))
def f_X12_lineUp (a1 : Int32) (S : SS) : Option (SS) :=
  f_X12_lineUp_L4 NF a1 (0 : Int32) S
theorem dX12_lineUp_0 : decode cX12_lineUp 0 = .ok (.iload_n 1, 1) := by decide +kernel
theorem dX12_lineUp_1 : decode cX12_lineUp 1 = .ok (.istore_n 2, 1) := by decide +kernel
theorem dX12_lineUp_2 : decode cX12_lineUp 2 = .ok (.iconst 0, 1) := by decide +kernel
theorem dX12_lineUp_3 : decode cX12_lineUp 3 = .ok (.istore_n 3, 1) := by decide +kernel
theorem dX12_lineUp_4 : decode cX12_lineUp 4 = .ok (.aload_n 0, 1) := by decide +kernel
theorem dX12_lineUp_5 : decode cX12_lineUp 5 = .ok (.getfield 84, 3) := by decide +kernel
theorem dX12_lineUp_8 : decode cX12_lineUp 8 = .ok (.iconst 2, 1) := by decide +kernel
theorem dX12_lineUp_9 : decode cX12_lineUp 9 = .ok (.iload_n 2, 1) := by decide +kernel
theorem dX12_lineUp_10 : decode cX12_lineUp 10 = .ok (.imul, 1) := by decide +kernel
theorem dX12_lineUp_11 : decode cX12_lineUp 11 = .ok (.iload_n 3, 1) := by decide +kernel
theorem dX12_lineUp_12 : decode cX12_lineUp 12 = .ok (.iadd, 1) := by decide +kernel
theorem dX12_lineUp_13 : decode cX12_lineUp 13 = .ok (.iaload, 1) := by decide +kernel
theorem dX12_lineUp_14 : decode cX12_lineUp 14 = .ok (.bipush (-4), 2) := by decide +kernel
theorem dX12_lineUp_16 : decode cX12_lineUp 16 = .ok (.if_icmp .eq 31, 3) := by decide +kernel
theorem dX12_lineUp_19 : decode cX12_lineUp 19 = .ok (.aload_n 0, 1) := by decide +kernel
theorem dX12_lineUp_20 : decode cX12_lineUp 20 = .ok (.getfield 84, 3) := by decide +kernel
theorem dX12_lineUp_23 : decode cX12_lineUp 23 = .ok (.iconst 2, 1) := by decide +kernel
theorem dX12_lineUp_24 : decode cX12_lineUp 24 = .ok (.iload_n 2, 1) := by decide +kernel
theorem dX12_lineUp_25 : decode cX12_lineUp 25 = .ok (.imul, 1) := by decide +kernel
theorem dX12_lineUp_26 : decode cX12_lineUp 26 = .ok (.iload_n 3, 1) := by decide +kernel
theorem dX12_lineUp_27 : decode cX12_lineUp 27 = .ok (.iadd, 1) := by decide +kernel
theorem dX12_lineUp_28 : decode cX12_lineUp 28 = .ok (.iaload, 1) := by decide +kernel
theorem dX12_lineUp_29 : decode cX12_lineUp 29 = .ok (.istore 4, 2) := by decide +kernel
theorem dX12_lineUp_31 : decode cX12_lineUp 31 = .ok (.iconst 1, 1) := by decide +kernel
theorem dX12_lineUp_32 : decode cX12_lineUp 32 = .ok (.aload_n 0, 1) := by decide +kernel
theorem dX12_lineUp_33 : decode cX12_lineUp 33 = .ok (.iload 4, 2) := by decide +kernel
theorem dX12_lineUp_35 : decode cX12_lineUp 35 = .ok (.iload_n 2, 1) := by decide +kernel
theorem dX12_lineUp_36 : decode cX12_lineUp 36 = .ok (.invokevirtual 313, 3) := by decide +kernel
theorem dX12_lineUp_39 : decode cX12_lineUp 39 = .ok (.isub, 1) := by decide +kernel
theorem dX12_lineUp_40 : decode cX12_lineUp 40 = .ok (.istore_n 3, 1) := by decide +kernel
theorem dX12_lineUp_41 : decode cX12_lineUp 41 = .ok (.iload 4, 2) := by decide +kernel
theorem dX12_lineUp_43 : decode cX12_lineUp 43 = .ok (.istore_n 2, 1) := by decide +kernel
theorem dX12_lineUp_44 : decode cX12_lineUp 44 = .ok (.goto (-40), 3) := by decide +kernel
theorem dX12_lineUp_47 : decode cX12_lineUp 47 = .ok (.aload_n 0, 1) := by decide +kernel
theorem dX12_lineUp_48 : decode cX12_lineUp 48 = .ok (.iload_n 3, 1) := by decide +kernel
theorem dX12_lineUp_49 : decode cX12_lineUp 49 = .ok (.putfield 316, 3) := by decide +kernel
theorem dX12_lineUp_52 : decode cX12_lineUp 52 = .ok (.aload_n 0, 1) := by decide +kernel
theorem dX12_lineUp_53 : decode cX12_lineUp 53 = .ok (.iconst 0, 1) := by decide +kernel
theorem dX12_lineUp_54 : decode cX12_lineUp 54 = .ok (.putfield 319, 3) := by decide +kernel
theorem dX12_lineUp_57 : decode cX12_lineUp 57 = .ok (.iconst 1, 1) := by decide +kernel
theorem dX12_lineUp_58 : decode cX12_lineUp 58 = .ok (.iload_n 3, 1) := by decide +kernel
theorem dX12_lineUp_59 : decode cX12_lineUp 59 = .ok (.isub, 1) := by decide +kernel
theorem dX12_lineUp_60 : decode cX12_lineUp 60 = .ok (.istore_n 3, 1) := by decide +kernel
theorem dX12_lineUp_61 : decode cX12_lineUp 61 = .ok (.aload_n 0, 1) := by decide +kernel
theorem dX12_lineUp_62 : decode cX12_lineUp 62 = .ok (.getfield 132, 3) := by decide +kernel
theorem dX12_lineUp_65 : decode cX12_lineUp 65 = .ok (.aload_n 0, 1) := by decide +kernel
theorem dX12_lineUp_66 : decode cX12_lineUp 66 = .ok (.getfield 319, 3) := by decide +kernel
theorem dX12_lineUp_69 : decode cX12_lineUp 69 = .ok (.iload_n 2, 1) := by decide +kernel
theorem dX12_lineUp_70 : decode cX12_lineUp 70 = .ok (.iastore, 1) := by decide +kernel
theorem dX12_lineUp_71 : decode cX12_lineUp 71 = .ok (.aload_n 0, 1) := by decide +kernel
theorem dX12_lineUp_72 : decode cX12_lineUp 72 = .ok (.dup, 1) := by decide +kernel
theorem dX12_lineUp_73 : decode cX12_lineUp 73 = .ok (.getfield 319, 3) := by decide +kernel
theorem dX12_lineUp_76 : decode cX12_lineUp 76 = .ok (.iconst 1, 1) := by decide +kernel
theorem dX12_lineUp_77 : decode cX12_lineUp 77 = .ok (.iadd, 1) := by decide +kernel
theorem dX12_lineUp_78 : decode cX12_lineUp 78 = .ok (.putfield 319, 3) := by decide +kernel
theorem dX12_lineUp_81 : decode cX12_lineUp 81 = .ok (.aload_n 0, 1) := by decide +kernel
theorem dX12_lineUp_82 : decode cX12_lineUp 82 = .ok (.getfield 84, 3) := by decide +kernel
theorem dX12_lineUp_85 : decode cX12_lineUp 85 = .ok (.iconst 2, 1) := by decide +kernel
theorem dX12_lineUp_86 : decode cX12_lineUp 86 = .ok (.iload_n 2, 1) := by decide +kernel
theorem dX12_lineUp_87 : decode cX12_lineUp 87 = .ok (.imul, 1) := by decide +kernel
theorem dX12_lineUp_88 : decode cX12_lineUp 88 = .ok (.iload_n 3, 1) := by decide +kernel
theorem dX12_lineUp_89 : decode cX12_lineUp 89 = .ok (.iadd, 1) := by decide +kernel
theorem dX12_lineUp_90 : decode cX12_lineUp 90 = .ok (.iaload, 1) := by decide +kernel
theorem dX12_lineUp_91 : decode cX12_lineUp 91 = .ok (.bipush (-4), 2) := by decide +kernel
theorem dX12_lineUp_93 : decode cX12_lineUp 93 = .ok (.if_icmp .eq 51, 3) := by decide +kernel
theorem dX12_lineUp_96 : decode cX12_lineUp 96 = .ok (.aload_n 0, 1) := by decide +kernel
theorem dX12_lineUp_97 : decode cX12_lineUp 97 = .ok (.getfield 84, 3) := by decide +kernel
theorem dX12_lineUp_100 : decode cX12_lineUp 100 = .ok (.iconst 2, 1) := by decide +kernel
theorem dX12_lineUp_101 : decode cX12_lineUp 101 = .ok (.iload_n 2, 1) := by decide +kernel
theorem dX12_lineUp_102 : decode cX12_lineUp 102 = .ok (.imul, 1) := by decide +kernel
theorem dX12_lineUp_103 : decode cX12_lineUp 103 = .ok (.iload_n 3, 1) := by decide +kernel
theorem dX12_lineUp_104 : decode cX12_lineUp 104 = .ok (.iadd, 1) := by decide +kernel
theorem dX12_lineUp_105 : decode cX12_lineUp 105 = .ok (.iaload, 1) := by decide +kernel
theorem dX12_lineUp_106 : decode cX12_lineUp 106 = .ok (.istore 4, 2) := by decide +kernel
theorem dX12_lineUp_108 : decode cX12_lineUp 108 = .ok (.iconst 1, 1) := by decide +kernel
theorem dX12_lineUp_109 : decode cX12_lineUp 109 = .ok (.aload_n 0, 1) := by decide +kernel
theorem dX12_lineUp_110 : decode cX12_lineUp 110 = .ok (.iload 4, 2) := by decide +kernel
theorem dX12_lineUp_112 : decode cX12_lineUp 112 = .ok (.iload_n 2, 1) := by decide +kernel
theorem dX12_lineUp_113 : decode cX12_lineUp 113 = .ok (.invokevirtual 313, 3) := by decide +kernel
theorem dX12_lineUp_116 : decode cX12_lineUp 116 = .ok (.isub, 1) := by decide +kernel
theorem dX12_lineUp_117 : decode cX12_lineUp 117 = .ok (.istore_n 3, 1) := by decide +kernel
theorem dX12_lineUp_118 : decode cX12_lineUp 118 = .ok (.iload 4, 2) := by decide +kernel
theorem dX12_lineUp_120 : decode cX12_lineUp 120 = .ok (.istore_n 2, 1) := by decide +kernel
theorem dX12_lineUp_121 : decode cX12_lineUp 121 = .ok (.aload_n 0, 1) := by decide +kernel
theorem dX12_lineUp_122 : decode cX12_lineUp 122 = .ok (.getfield 132, 3) := by decide +kernel
theorem dX12_lineUp_125 : decode cX12_lineUp 125 = .ok (.aload_n 0, 1) := by decide +kernel
theorem dX12_lineUp_126 : decode cX12_lineUp 126 = .ok (.getfield 319, 3) := by decide +kernel
theorem dX12_lineUp_129 : decode cX12_lineUp 129 = .ok (.iload_n 2, 1) := by decide +kernel
theorem dX12_lineUp_130 : decode cX12_lineUp 130 = .ok (.iastore, 1) := by decide +kernel
theorem dX12_lineUp_131 : decode cX12_lineUp 131 = .ok (.aload_n 0, 1) := by decide +kernel
theorem dX12_lineUp_132 : decode cX12_lineUp 132 = .ok (.dup, 1) := by decide +kernel
theorem dX12_lineUp_133 : decode cX12_lineUp 133 = .ok (.getfield 319, 3) := by decide +kernel
theorem dX12_lineUp_136 : decode cX12_lineUp 136 = .ok (.iconst 1, 1) := by decide +kernel
theorem dX12_lineUp_137 : decode cX12_lineUp 137 = .ok (.iadd, 1) := by decide +kernel
theorem dX12_lineUp_138 : decode cX12_lineUp 138 = .ok (.putfield 319, 3) := by decide +kernel
theorem dX12_lineUp_141 : decode cX12_lineUp 141 = .ok (.goto (-60), 3) := by decide +kernel
theorem dX12_lineUp_144 : decode cX12_lineUp 144 = .ok (.aload_n 0, 1) := by decide +kernel
theorem dX12_lineUp_145 : decode cX12_lineUp 145 = .ok (.iload_n 3, 1) := by decide +kernel
theorem dX12_lineUp_146 : decode cX12_lineUp 146 = .ok (.putfield 322, 3) := by decide +kernel
theorem dX12_lineUp_149 : decode cX12_lineUp 149 = .ok (.return_, 1) := by decide +kernel
set_option maxRecDepth 100000 in
set_option maxHeartbeats 4000000 in
theorem w_X12_lineUp_L81 {p : Program} {l : Launch} {e : Env} {R : Room} {s : State} {m : MethodId} {args : Array Value} {below : List Frame} {meth : Method} {c : Code} {dC : Nat → ClassId} {dI : Nat → Nat → Nat} {cs : Nat → ClassId} {ad : Nat → Nat} {A : Nat → Prop} {D0 : Nat → Nat} {S' : SS} (F : Fx p s m args meth c cX12_lineUp 5 RX12 none dC dI cs A) (hR1 : 1 ≤ R.frames) (hR2 : 22 ≤ R.locals) : ∀ (n : Nat) (x2 : Int32) (x3 : Int32) (S : SS), f_X12_lineUp_L81 n x2 x3 S = some S' → AW p l e R s m args below meth c dC dI cs ad A D0 none S' 5 81 [(0, .ref (ad 14)), (2, .int x2), (3, .int x3)] [] S := by
  have hx := F.1.1
  have hb := F.1.2.1
  intro n
  induction n with
  | zero => intro x2 x3 S h; cases h
  | succ n ih =>
    intro x2 x3 S h H locs ls w hl
    rw [f_X12_lineUp_L81] at h
    refine lv_aload_n (pc := 81) hx hb dX12_lineUp_81 rfl (lv_at hl 0 rfl) ?_
    refine s_getR (pc := 82) F w 90 ds_14 (j := 35) vc_X12 vi_X12 rfl (by decide) kf_X12_84 dX12_lineUp_82 ?_
    refine lv_iconst (pc := 85) (v := 2) hx hb dX12_lineUp_85 (by decide) ?_
    refine lv_iload_n (pc := 86) hx hb dX12_lineUp_86 rfl (lv_at hl 1 rfl) ?_
    refine lv_imul (pc := 87) hx hb dX12_lineUp_87 ?_
    refine lv_iload_n (pc := 88) hx hb dX12_lineUp_88 rfl (lv_at hl 2 rfl) ?_
    refine lv_iadd (pc := 89) hx hb dX12_lineUp_89 ?_
    refine s_iald (pc := 90) F w ds_90 h dX12_lineUp_90 (fun h => ?_)
    refine lv_bipush (pc := 91) (v := -4) hx hb dX12_lineUp_91 (by decide) ?_
    refine lv_icmp_eq (pc := 93) (tgt := 144) hx hb dX12_lineUp_93 (by decide) (fun q => ?_) (fun q => ?_)
    · have h := ite_t q h
      refine lv_aload_n (pc := 144) hx hb dX12_lineUp_144 rfl (lv_at hl 0 rfl) ?_
      refine lv_iload_n (pc := 145) hx hb dX12_lineUp_145 rfl (lv_at hl 2 rfl) ?_
      refine s_putI (pc := 146) F w ds_14 vc_X12 vi_X12 tyX12_ok nmX12 (j := 58) rfl (by decide) kf_X12_322 rfl pd_I h dX12_lineUp_146 (fun S6 H locs h w => ?_)
      exact s_vret F w h dX12_lineUp_149
    · have h := ite_f q h
      refine lv_aload_n (pc := 96) hx hb dX12_lineUp_96 rfl (lv_at hl 0 rfl) ?_
      refine s_getR (pc := 97) F w 90 ds_14 (j := 35) vc_X12 vi_X12 rfl (by decide) kf_X12_84 dX12_lineUp_97 ?_
      refine lv_iconst (pc := 100) (v := 2) hx hb dX12_lineUp_100 (by decide) ?_
      refine lv_iload_n (pc := 101) hx hb dX12_lineUp_101 rfl (lv_at hl 1 rfl) ?_
      refine lv_imul (pc := 102) hx hb dX12_lineUp_102 ?_
      refine lv_iload_n (pc := 103) hx hb dX12_lineUp_103 rfl (lv_at hl 2 rfl) ?_
      refine lv_iadd (pc := 104) hx hb dX12_lineUp_104 ?_
      refine s_iald (pc := 105) F w ds_90 h dX12_lineUp_105 (fun h => ?_)
      refine s_nm h (fun z7 ez7 h => ?_)
      rw [← ez7]
      refine lv_istore (pc := 106) (lv' := [(4, .int z7), (0, .ref (ad 14)), (2, .int x2), (3, .int x3)]) hx hb dX12_lineUp_106 hl (by decide) rfl (fun ls hl => ?_)
      refine lv_iconst (pc := 108) (v := 1) hx hb dX12_lineUp_108 (by decide) ?_
      refine lv_aload_n (pc := 109) hx hb dX12_lineUp_109 rfl (lv_at hl 1 rfl) ?_
      refine lv_iload (pc := 110) hx hb dX12_lineUp_110 (lv_at hl 0 rfl) ?_
      refine lv_iload_n (pc := 112) hx hb dX12_lineUp_112 rfl (lv_at hl 2 rfl) ?_
      obtain ⟨r9, S8, hc, h⟩ := bnd_t h
      refine s_cvi (pc := 113) [.int z7, .int x2] (fun ad => [.ref (ad 14), .int z7, .int x2]) F w (m_X12_sideTo _ _ _ _ _ hc) rfl rfl hl.1 ds_14 vc_X12 rfl ok_X12_sideTo rfl kc_X12_sideTo kl_X12_313 ki_X12_sideTo kv_X12_sideTo kn_X12 ⟨Nat.le_trans (by decide) hR1, Nat.le_trans (by decide) hR2⟩ ⟨Nat.zero_le _, Nat.zero_le _⟩ (Nat.le_of_ble_eq_true rfl) dX12_lineUp_113 (fun H locs w => ?_)
      refine lv_isub (pc := 116) hx hb dX12_lineUp_116 ?_
      refine s_nm h (fun z10 ez10 h => ?_)
      rw [← ez10]
      refine lv_istore_n (pc := 117) (lv' := [(3, .int z10), (4, .int z7), (0, .ref (ad 14)), (2, .int x2)]) hx hb dX12_lineUp_117 rfl hl (by decide) rfl (fun ls hl => ?_)
      refine lv_iload (pc := 118) hx hb dX12_lineUp_118 (lv_at hl 1 rfl) ?_
      refine lv_istore_n (pc := 120) (lv' := [(2, .int z7), (3, .int z10), (4, .int z7), (0, .ref (ad 14))]) hx hb dX12_lineUp_120 rfl hl (by decide) rfl (fun ls hl => ?_)
      refine lv_aload_n (pc := 121) hx hb dX12_lineUp_121 rfl (lv_at hl 3 rfl) ?_
      refine s_getR (pc := 122) F w 106 ds_14 (j := 55) vc_X12 vi_X12 rfl (by decide) kf_X12_132 dX12_lineUp_122 ?_
      refine lv_aload_n (pc := 125) hx hb dX12_lineUp_125 rfl (lv_at hl 3 rfl) ?_
      refine s_getI (pc := 126) F w ds_14 (j := 56) vc_X12 vi_X12 rfl (by decide) kf_X12_319 dX12_lineUp_126 ?_
      refine lv_iload_n (pc := 129) hx hb dX12_lineUp_129 rfl (lv_at hl 0 rfl) ?_
      refine s_iast (pc := 130) F w ds_106 h dX12_lineUp_130 (fun S11 H locs h w => ?_)
      refine lv_aload_n (pc := 131) hx hb dX12_lineUp_131 rfl (lv_at hl 3 rfl) ?_
      refine lv_dup (pc := 132) hx hb dX12_lineUp_132 rfl ?_
      refine s_getI (pc := 133) F w ds_14 (j := 56) vc_X12 vi_X12 rfl (by decide) kf_X12_319 dX12_lineUp_133 ?_
      refine lv_iconst (pc := 136) (v := 1) hx hb dX12_lineUp_136 (by decide) ?_
      refine lv_iadd (pc := 137) hx hb dX12_lineUp_137 ?_
      refine s_putI (pc := 138) F w ds_14 vc_X12 vi_X12 tyX12_ok nmX12 (j := 56) rfl (by decide) kf_X12_319 rfl pd_I h dX12_lineUp_138 (fun S12 H locs h w => ?_)
      refine lv_goto (pc := 141) (tgt := 81) hx hb dX12_lineUp_141 (by decide) ?_
      exact ih _ _ _ h _ _ _ w (lv_sub hl [3, 0, 1] rfl)
set_option maxRecDepth 100000 in
set_option maxHeartbeats 4000000 in
theorem w_X12_lineUp_L4 {p : Program} {l : Launch} {e : Env} {R : Room} {s : State} {m : MethodId} {args : Array Value} {below : List Frame} {meth : Method} {c : Code} {dC : Nat → ClassId} {dI : Nat → Nat → Nat} {cs : Nat → ClassId} {ad : Nat → Nat} {A : Nat → Prop} {D0 : Nat → Nat} {S' : SS} (F : Fx p s m args meth c cX12_lineUp 5 RX12 none dC dI cs A) (hR1 : 1 ≤ R.frames) (hR2 : 22 ≤ R.locals) : ∀ (n : Nat) (x2 : Int32) (x3 : Int32) (S : SS), f_X12_lineUp_L4 n x2 x3 S = some S' → AW p l e R s m args below meth c dC dI cs ad A D0 none S' 5 4 [(0, .ref (ad 14)), (2, .int x2), (3, .int x3)] [] S := by
  have hx := F.1.1
  have hb := F.1.2.1
  intro n
  induction n with
  | zero => intro x2 x3 S h; cases h
  | succ n ih =>
    intro x2 x3 S h H locs ls w hl
    rw [f_X12_lineUp_L4] at h
    refine lv_aload_n (pc := 4) hx hb dX12_lineUp_4 rfl (lv_at hl 0 rfl) ?_
    refine s_getR (pc := 5) F w 90 ds_14 (j := 35) vc_X12 vi_X12 rfl (by decide) kf_X12_84 dX12_lineUp_5 ?_
    refine lv_iconst (pc := 8) (v := 2) hx hb dX12_lineUp_8 (by decide) ?_
    refine lv_iload_n (pc := 9) hx hb dX12_lineUp_9 rfl (lv_at hl 1 rfl) ?_
    refine lv_imul (pc := 10) hx hb dX12_lineUp_10 ?_
    refine lv_iload_n (pc := 11) hx hb dX12_lineUp_11 rfl (lv_at hl 2 rfl) ?_
    refine lv_iadd (pc := 12) hx hb dX12_lineUp_12 ?_
    refine s_iald (pc := 13) F w ds_90 h dX12_lineUp_13 (fun h => ?_)
    refine lv_bipush (pc := 14) (v := -4) hx hb dX12_lineUp_14 (by decide) ?_
    refine lv_icmp_eq (pc := 16) (tgt := 47) hx hb dX12_lineUp_16 (by decide) (fun q => ?_) (fun q => ?_)
    · have h := ite_t q h
      refine lv_aload_n (pc := 47) hx hb dX12_lineUp_47 rfl (lv_at hl 0 rfl) ?_
      refine lv_iload_n (pc := 48) hx hb dX12_lineUp_48 rfl (lv_at hl 2 rfl) ?_
      refine s_putI (pc := 49) F w ds_14 vc_X12 vi_X12 tyX12_ok nmX12 (j := 57) rfl (by decide) kf_X12_316 rfl pd_I h dX12_lineUp_49 (fun S1 H locs h w => ?_)
      refine lv_aload_n (pc := 52) hx hb dX12_lineUp_52 rfl (lv_at hl 0 rfl) ?_
      refine lv_iconst (pc := 53) (v := 0) hx hb dX12_lineUp_53 (by decide) ?_
      refine s_putI (pc := 54) F w ds_14 vc_X12 vi_X12 tyX12_ok nmX12 (j := 56) rfl (by decide) kf_X12_319 rfl pd_I h dX12_lineUp_54 (fun S2 H locs h w => ?_)
      refine lv_iconst (pc := 57) (v := 1) hx hb dX12_lineUp_57 (by decide) ?_
      refine lv_iload_n (pc := 58) hx hb dX12_lineUp_58 rfl (lv_at hl 2 rfl) ?_
      refine lv_isub (pc := 59) hx hb dX12_lineUp_59 ?_
      refine s_nm h (fun z3 ez3 h => ?_)
      rw [← ez3]
      refine lv_istore_n (pc := 60) (lv' := [(3, .int z3), (0, .ref (ad 14)), (2, .int x2)]) hx hb dX12_lineUp_60 rfl hl (by decide) rfl (fun ls hl => ?_)
      refine lv_aload_n (pc := 61) hx hb dX12_lineUp_61 rfl (lv_at hl 1 rfl) ?_
      refine s_getR (pc := 62) F w 106 ds_14 (j := 55) vc_X12 vi_X12 rfl (by decide) kf_X12_132 dX12_lineUp_62 ?_
      refine lv_aload_n (pc := 65) hx hb dX12_lineUp_65 rfl (lv_at hl 1 rfl) ?_
      refine s_getI (pc := 66) F w ds_14 (j := 56) vc_X12 vi_X12 rfl (by decide) kf_X12_319 dX12_lineUp_66 ?_
      refine lv_iload_n (pc := 69) hx hb dX12_lineUp_69 rfl (lv_at hl 2 rfl) ?_
      refine s_iast (pc := 70) F w ds_106 h dX12_lineUp_70 (fun S4 H locs h w => ?_)
      refine lv_aload_n (pc := 71) hx hb dX12_lineUp_71 rfl (lv_at hl 1 rfl) ?_
      refine lv_dup (pc := 72) hx hb dX12_lineUp_72 rfl ?_
      refine s_getI (pc := 73) F w ds_14 (j := 56) vc_X12 vi_X12 rfl (by decide) kf_X12_319 dX12_lineUp_73 ?_
      refine lv_iconst (pc := 76) (v := 1) hx hb dX12_lineUp_76 (by decide) ?_
      refine lv_iadd (pc := 77) hx hb dX12_lineUp_77 ?_
      refine s_putI (pc := 78) F w ds_14 vc_X12 vi_X12 tyX12_ok nmX12 (j := 56) rfl (by decide) kf_X12_319 rfl pd_I h dX12_lineUp_78 (fun S5 H locs h w => ?_)
      exact w_X12_lineUp_L81 F (Nat.le_trans (by decide) hR1) (Nat.le_trans (by decide) hR2) _ _ _ _ h _ _ _ w (lv_sub hl [1, 2, 0] rfl)
    · have h := ite_f q h
      refine lv_aload_n (pc := 19) hx hb dX12_lineUp_19 rfl (lv_at hl 0 rfl) ?_
      refine s_getR (pc := 20) F w 90 ds_14 (j := 35) vc_X12 vi_X12 rfl (by decide) kf_X12_84 dX12_lineUp_20 ?_
      refine lv_iconst (pc := 23) (v := 2) hx hb dX12_lineUp_23 (by decide) ?_
      refine lv_iload_n (pc := 24) hx hb dX12_lineUp_24 rfl (lv_at hl 1 rfl) ?_
      refine lv_imul (pc := 25) hx hb dX12_lineUp_25 ?_
      refine lv_iload_n (pc := 26) hx hb dX12_lineUp_26 rfl (lv_at hl 2 rfl) ?_
      refine lv_iadd (pc := 27) hx hb dX12_lineUp_27 ?_
      refine s_iald (pc := 28) F w ds_90 h dX12_lineUp_28 (fun h => ?_)
      refine s_nm h (fun z13 ez13 h => ?_)
      rw [← ez13]
      refine lv_istore (pc := 29) (lv' := [(4, .int z13), (0, .ref (ad 14)), (2, .int x2), (3, .int x3)]) hx hb dX12_lineUp_29 hl (by decide) rfl (fun ls hl => ?_)
      refine lv_iconst (pc := 31) (v := 1) hx hb dX12_lineUp_31 (by decide) ?_
      refine lv_aload_n (pc := 32) hx hb dX12_lineUp_32 rfl (lv_at hl 1 rfl) ?_
      refine lv_iload (pc := 33) hx hb dX12_lineUp_33 (lv_at hl 0 rfl) ?_
      refine lv_iload_n (pc := 35) hx hb dX12_lineUp_35 rfl (lv_at hl 2 rfl) ?_
      obtain ⟨r15, S14, hc, h⟩ := bnd_t h
      refine s_cvi (pc := 36) [.int z13, .int x2] (fun ad => [.ref (ad 14), .int z13, .int x2]) F w (m_X12_sideTo _ _ _ _ _ hc) rfl rfl hl.1 ds_14 vc_X12 rfl ok_X12_sideTo rfl kc_X12_sideTo kl_X12_313 ki_X12_sideTo kv_X12_sideTo kn_X12 ⟨Nat.le_trans (by decide) hR1, Nat.le_trans (by decide) hR2⟩ ⟨Nat.zero_le _, Nat.zero_le _⟩ (Nat.le_of_ble_eq_true rfl) dX12_lineUp_36 (fun H locs w => ?_)
      refine lv_isub (pc := 39) hx hb dX12_lineUp_39 ?_
      refine s_nm h (fun z16 ez16 h => ?_)
      rw [← ez16]
      refine lv_istore_n (pc := 40) (lv' := [(3, .int z16), (4, .int z13), (0, .ref (ad 14)), (2, .int x2)]) hx hb dX12_lineUp_40 rfl hl (by decide) rfl (fun ls hl => ?_)
      refine lv_iload (pc := 41) hx hb dX12_lineUp_41 (lv_at hl 1 rfl) ?_
      refine lv_istore_n (pc := 43) (lv' := [(2, .int z13), (3, .int z16), (4, .int z13), (0, .ref (ad 14))]) hx hb dX12_lineUp_43 rfl hl (by decide) rfl (fun ls hl => ?_)
      refine lv_goto (pc := 44) (tgt := 4) hx hb dX12_lineUp_44 (by decide) ?_
      exact ih _ _ _ h _ _ _ w (lv_sub hl [3, 0, 1] rfl)
set_option maxRecDepth 100000 in
set_option maxHeartbeats 4000000 in
theorem m_X12_lineUp (a1 : Int32) (S S' : SS) (h : f_X12_lineUp a1 S = some S') : MT yX12_lineUp cX12_lineUp 5 none 1 22 (fun ad => [.ref (ad 14), .int a1]) S none S' := by
  refine MT.of RX12 (fun ad => [(0, .ref (ad 14)), (1, .int a1)]) (by decide) rfl (fun _ => Nat.le_of_ble_eq_true rfl) (fun _ => rfl) ?_
  intro p l e R s m args below meth c dC dI cs ad A hR1 hR2 F H locs ls w hl
  have hx := F.1.1
  have hb := F.1.2.1
  rw [f_X12_lineUp] at h
  refine lv_iload_n (pc := 0) hx hb dX12_lineUp_0 rfl (lv_at hl 1 rfl) ?_
  refine lv_istore_n (pc := 1) (lv' := [(2, .int a1), (0, .ref (ad 14)), (1, .int a1)]) hx hb dX12_lineUp_1 rfl hl (by decide) rfl (fun ls hl => ?_)
  refine lv_iconst (pc := 2) (v := 0) hx hb dX12_lineUp_2 (by decide) ?_
  refine lv_istore_n (pc := 3) (lv' := [(3, .int (0 : Int32)), (2, .int a1), (0, .ref (ad 14)), (1, .int a1)]) hx hb dX12_lineUp_3 rfl hl (by decide) rfl (fun ls hl => ?_)
  exact w_X12_lineUp_L4 F (Nat.le_trans (by decide) hR1) (Nat.le_trans (by decide) hR2) _ _ _ _ h _ _ _ w (lv_sub hl [2, 1, 0] rfl)
def f_X12_areTogether_j39 (K10 : Int32 → Int32 → Int32 → SS → Option (Int32 × SS)) (x2 : Int32) (x4 : Int32) (y0 : Int32) (S : SS) : Option (Int32 × SS) :=
    nm (x4 + (1 : Int32)) (fun z2 =>
    K10 x2 y0 z2 S)
def f_X12_areTogether_j34 (K10 : Int32 → Int32 → Int32 → SS → Option (Int32 × SS)) (x2 : Int32) (x4 : Int32) (S : SS) : Option (Int32 × SS) :=
    f_X12_areTogether_j39 K10 x2 x4 (1 : Int32) S
def f_X12_areTogether_L10  : Nat → Int32 → Int32 → Int32 → SS → Option (Int32 × SS)
  | 0, _, _, _, _ => none
  | n + 1, x2, x3, x4, S =>
    if (S.1 14 56) ≤ x4 then
      grd (isB x3) (some (x3, S))
    else
      if x3 = 0 then
        grd (inb x4 72) (
        if (S.1 106 x4.toNatClampNeg) = x2 then
          f_X12_areTogether_j34 (fun v0 v1 v2 S => f_X12_areTogether_L10 n v0 v1 v2 S) x2 x4 S
        else
          f_X12_areTogether_j39 (fun v0 v1 v2 S => f_X12_areTogether_L10 n v0 v1 v2 S) x2 x4 (0 : Int32) S)
      else
        f_X12_areTogether_j34 (fun v0 v1 v2 S => f_X12_areTogether_L10 n v0 v1 v2 S) x2 x4 S
def f_X12_areTogether (a1 : Int32) (a2 : Int32) (S : SS) : Option (Int32 × SS) :=
  bndv (f_X12_lineUp a1 S) (fun S1 =>
  f_X12_areTogether_L10 NF a2 (0 : Int32) (0 : Int32) S1)
theorem dX12_areTogether_0 : decode cX12_areTogether 0 = .ok (.aload_n 0, 1) := by decide +kernel
theorem dX12_areTogether_1 : decode cX12_areTogether 1 = .ok (.iload_n 1, 1) := by decide +kernel
theorem dX12_areTogether_2 : decode cX12_areTogether 2 = .ok (.invokevirtual 325, 3) := by decide +kernel
theorem dX12_areTogether_5 : decode cX12_areTogether 5 = .ok (.iconst 0, 1) := by decide +kernel
theorem dX12_areTogether_6 : decode cX12_areTogether 6 = .ok (.istore_n 3, 1) := by decide +kernel
theorem dX12_areTogether_7 : decode cX12_areTogether 7 = .ok (.iconst 0, 1) := by decide +kernel
theorem dX12_areTogether_8 : decode cX12_areTogether 8 = .ok (.istore 4, 2) := by decide +kernel
theorem dX12_areTogether_10 : decode cX12_areTogether 10 = .ok (.iload 4, 2) := by decide +kernel
theorem dX12_areTogether_12 : decode cX12_areTogether 12 = .ok (.aload_n 0, 1) := by decide +kernel
theorem dX12_areTogether_13 : decode cX12_areTogether 13 = .ok (.getfield 319, 3) := by decide +kernel
theorem dX12_areTogether_16 : decode cX12_areTogether 16 = .ok (.if_icmp .ge 30, 3) := by decide +kernel
theorem dX12_areTogether_19 : decode cX12_areTogether 19 = .ok (.iload_n 3, 1) := by decide +kernel
theorem dX12_areTogether_20 : decode cX12_areTogether 20 = .ok (.ifCond .ne 14, 3) := by decide +kernel
theorem dX12_areTogether_23 : decode cX12_areTogether 23 = .ok (.aload_n 0, 1) := by decide +kernel
theorem dX12_areTogether_24 : decode cX12_areTogether 24 = .ok (.getfield 132, 3) := by decide +kernel
theorem dX12_areTogether_27 : decode cX12_areTogether 27 = .ok (.iload 4, 2) := by decide +kernel
theorem dX12_areTogether_29 : decode cX12_areTogether 29 = .ok (.iaload, 1) := by decide +kernel
theorem dX12_areTogether_30 : decode cX12_areTogether 30 = .ok (.iload_n 2, 1) := by decide +kernel
theorem dX12_areTogether_31 : decode cX12_areTogether 31 = .ok (.if_icmp .ne 7, 3) := by decide +kernel
theorem dX12_areTogether_34 : decode cX12_areTogether 34 = .ok (.iconst 1, 1) := by decide +kernel
theorem dX12_areTogether_35 : decode cX12_areTogether 35 = .ok (.goto 4, 3) := by decide +kernel
theorem dX12_areTogether_38 : decode cX12_areTogether 38 = .ok (.iconst 0, 1) := by decide +kernel
theorem dX12_areTogether_39 : decode cX12_areTogether 39 = .ok (.istore_n 3, 1) := by decide +kernel
theorem dX12_areTogether_40 : decode cX12_areTogether 40 = .ok (.iinc 4 1, 3) := by decide +kernel
theorem dX12_areTogether_43 : decode cX12_areTogether 43 = .ok (.goto (-33), 3) := by decide +kernel
theorem dX12_areTogether_46 : decode cX12_areTogether 46 = .ok (.iload_n 3, 1) := by decide +kernel
theorem dX12_areTogether_47 : decode cX12_areTogether 47 = .ok (.ireturn, 1) := by decide +kernel
set_option maxRecDepth 100000 in
set_option maxHeartbeats 4000000 in
theorem w_X12_areTogether_j39 {p : Program} {l : Launch} {e : Env} {R : Room} {s : State} {m : MethodId} {args : Array Value} {below : List Frame} {meth : Method} {c : Code} {dC : Nat → ClassId} {dI : Nat → Nat → Nat} {cs : Nat → ClassId} {ad : Nat → Nat} {A : Nat → Prop} {D0 : Nat → Nat} {S' : SS} {r : Int32} (F : Fx p s m args meth c cX12_areTogether 5 RX12 (some .boolean) dC dI cs A) (hR1 : 0 ≤ R.frames) (hR2 : 0 ≤ R.locals) (K10 : Int32 → Int32 → Int32 → SS → Option (Int32 × SS)) (hK10 : ∀ (v0 : Int32) (v1 : Int32) (v2 : Int32) (S : SS), K10 v0 v1 v2 S = some (r, S') → AW p l e R s m args below meth c dC dI cs ad A D0 (some (.int r)) S' 5 10 [(0, .ref (ad 14)), (2, .int v0), (3, .int v1), (4, .int v2)] [] S) (x2 : Int32) (x4 : Int32) (y0 : Int32) (S : SS) (h : f_X12_areTogether_j39 K10 x2 x4 y0 S = some (r, S')) : AW p l e R s m args below meth c dC dI cs ad A D0 (some (.int r)) S' 5 39 [(0, .ref (ad 14)), (2, .int x2), (4, .int x4)] [.int y0] S := by
  have hx := F.1.1
  have hb := F.1.2.1
  intro H locs ls w hl
  rw [f_X12_areTogether_j39] at h
  refine lv_istore_n (pc := 39) (lv' := [(3, .int y0), (0, .ref (ad 14)), (2, .int x2), (4, .int x4)]) hx hb dX12_areTogether_39 rfl hl (by decide) rfl (fun ls hl => ?_)
  refine s_nm h (fun z2 ez2 h => ?_)
  refine lv_iinc (pc := 40) (v := z2) (lv' := [(4, .int z2), (3, .int y0), (0, .ref (ad 14)), (2, .int x2)]) hx hb dX12_areTogether_40 hl (k := 3) rfl (by rw [ez2]; rfl) (by decide) rfl (fun ls hl => ?_)
  refine lv_goto (pc := 43) (tgt := 10) hx hb dX12_areTogether_43 (by decide) ?_
  exact hK10 _ _ _ _ h _ _ _ w (lv_sub hl [2, 3, 1, 0] rfl)
set_option maxRecDepth 100000 in
set_option maxHeartbeats 4000000 in
theorem w_X12_areTogether_j34 {p : Program} {l : Launch} {e : Env} {R : Room} {s : State} {m : MethodId} {args : Array Value} {below : List Frame} {meth : Method} {c : Code} {dC : Nat → ClassId} {dI : Nat → Nat → Nat} {cs : Nat → ClassId} {ad : Nat → Nat} {A : Nat → Prop} {D0 : Nat → Nat} {S' : SS} {r : Int32} (F : Fx p s m args meth c cX12_areTogether 5 RX12 (some .boolean) dC dI cs A) (hR1 : 0 ≤ R.frames) (hR2 : 0 ≤ R.locals) (K10 : Int32 → Int32 → Int32 → SS → Option (Int32 × SS)) (hK10 : ∀ (v0 : Int32) (v1 : Int32) (v2 : Int32) (S : SS), K10 v0 v1 v2 S = some (r, S') → AW p l e R s m args below meth c dC dI cs ad A D0 (some (.int r)) S' 5 10 [(0, .ref (ad 14)), (2, .int v0), (3, .int v1), (4, .int v2)] [] S) (x2 : Int32) (x4 : Int32) (S : SS) (h : f_X12_areTogether_j34 K10 x2 x4 S = some (r, S')) : AW p l e R s m args below meth c dC dI cs ad A D0 (some (.int r)) S' 5 34 [(0, .ref (ad 14)), (2, .int x2), (4, .int x4)] [] S := by
  have hx := F.1.1
  have hb := F.1.2.1
  intro H locs ls w hl
  rw [f_X12_areTogether_j34] at h
  refine lv_iconst (pc := 34) (v := 1) hx hb dX12_areTogether_34 (by decide) ?_
  refine lv_goto (pc := 35) (tgt := 39) hx hb dX12_areTogether_35 (by decide) ?_
  exact w_X12_areTogether_j39 F (Nat.le_trans (by decide) hR1) (Nat.le_trans (by decide) hR2) _ hK10 _ _ _ _ h _ _ _ w (lv_sub hl [0, 1, 2] rfl)
set_option maxRecDepth 100000 in
set_option maxHeartbeats 4000000 in
theorem w_X12_areTogether_L10 {p : Program} {l : Launch} {e : Env} {R : Room} {s : State} {m : MethodId} {args : Array Value} {below : List Frame} {meth : Method} {c : Code} {dC : Nat → ClassId} {dI : Nat → Nat → Nat} {cs : Nat → ClassId} {ad : Nat → Nat} {A : Nat → Prop} {D0 : Nat → Nat} {S' : SS} {r : Int32} (F : Fx p s m args meth c cX12_areTogether 5 RX12 (some .boolean) dC dI cs A) (hR1 : 0 ≤ R.frames) (hR2 : 0 ≤ R.locals) : ∀ (n : Nat) (x2 : Int32) (x3 : Int32) (x4 : Int32) (S : SS), f_X12_areTogether_L10 n x2 x3 x4 S = some (r, S') → AW p l e R s m args below meth c dC dI cs ad A D0 (some (.int r)) S' 5 10 [(0, .ref (ad 14)), (2, .int x2), (3, .int x3), (4, .int x4)] [] S := by
  have hx := F.1.1
  have hb := F.1.2.1
  intro n
  induction n with
  | zero => intro x2 x3 x4 S h; cases h
  | succ n ih =>
    intro x2 x3 x4 S h H locs ls w hl
    rw [f_X12_areTogether_L10] at h
    refine lv_iload (pc := 10) hx hb dX12_areTogether_10 (lv_at hl 3 rfl) ?_
    refine lv_aload_n (pc := 12) hx hb dX12_areTogether_12 rfl (lv_at hl 0 rfl) ?_
    refine s_getI (pc := 13) F w ds_14 (j := 56) vc_X12 vi_X12 rfl (by decide) kf_X12_319 dX12_areTogether_13 ?_
    refine lv_icmp_ge (pc := 16) (tgt := 46) hx hb dX12_areTogether_16 (by decide) (fun q => ?_) (fun q => ?_)
    · have h := ite_t q h
      refine lv_iload_n (pc := 46) hx hb dX12_areTogether_46 rfl (lv_at hl 2 rfl) ?_
      exact s_zret F w h dX12_areTogether_47
    · have h := ite_f q h
      refine lv_iload_n (pc := 19) hx hb dX12_areTogether_19 rfl (lv_at hl 2 rfl) ?_
      refine lv_if_ne (pc := 20) (tgt := 34) hx hb dX12_areTogether_20 (by decide) (fun q => ?_) (fun q => ?_)
      · have h := ite_f q h
        exact w_X12_areTogether_j34 F (Nat.le_trans (by decide) hR1) (Nat.le_trans (by decide) hR2) _ (fun v0 v1 v2 S h => ih v0 v1 v2 S h) _ _ _ h _ _ _ w (lv_sub hl [0, 1, 3] rfl)
      · have h := ite_t q h
        refine lv_aload_n (pc := 23) hx hb dX12_areTogether_23 rfl (lv_at hl 0 rfl) ?_
        refine s_getR (pc := 24) F w 106 ds_14 (j := 55) vc_X12 vi_X12 rfl (by decide) kf_X12_132 dX12_areTogether_24 ?_
        refine lv_iload (pc := 27) hx hb dX12_areTogether_27 (lv_at hl 3 rfl) ?_
        refine s_iald (pc := 29) F w ds_106 h dX12_areTogether_29 (fun h => ?_)
        refine lv_iload_n (pc := 30) hx hb dX12_areTogether_30 rfl (lv_at hl 1 rfl) ?_
        refine lv_icmp_ne (pc := 31) (tgt := 38) hx hb dX12_areTogether_31 (by decide) (fun q => ?_) (fun q => ?_)
        · have h := ite_f q h
          refine lv_iconst (pc := 38) (v := 0) hx hb dX12_areTogether_38 (by decide) ?_
          exact w_X12_areTogether_j39 F (Nat.le_trans (by decide) hR1) (Nat.le_trans (by decide) hR2) _ (fun v0 v1 v2 S h => ih v0 v1 v2 S h) _ _ _ _ h _ _ _ w (lv_sub hl [0, 1, 3] rfl)
        · have h := ite_t q h
          exact w_X12_areTogether_j34 F (Nat.le_trans (by decide) hR1) (Nat.le_trans (by decide) hR2) _ (fun v0 v1 v2 S h => ih v0 v1 v2 S h) _ _ _ h _ _ _ w (lv_sub hl [0, 1, 3] rfl)
set_option maxRecDepth 100000 in
set_option maxHeartbeats 4000000 in
theorem m_X12_areTogether (a1 : Int32) (a2 : Int32) (S S' : SS) (r : Int32) (h : f_X12_areTogether a1 a2 S = some (r, S')) : MT yX12_areTogether cX12_areTogether 5 (some .boolean) 2 46 (fun ad => [.ref (ad 14), .int a1, .int a2]) S (some (.int r)) S' := by
  refine MT.of RX12 (fun ad => [(0, .ref (ad 14)), (1, .int a1), (2, .int a2)]) (by decide) rfl (fun _ => Nat.le_of_ble_eq_true rfl) (fun _ => rfl) ?_
  intro p l e R s m args below meth c dC dI cs ad A hR1 hR2 F H locs ls w hl
  have hx := F.1.1
  have hb := F.1.2.1
  rw [f_X12_areTogether] at h
  refine lv_aload_n (pc := 0) hx hb dX12_areTogether_0 rfl (lv_at hl 0 rfl) ?_
  refine lv_iload_n (pc := 1) hx hb dX12_areTogether_1 rfl (lv_at hl 1 rfl) ?_
  obtain ⟨S1, hc, h⟩ := bndv_t h
  refine s_cvv (pc := 2) [.int a1] (fun ad => [.ref (ad 14), .int a1]) F w (m_X12_lineUp _ _ _ hc) rfl rfl hl.1 ds_14 vc_X12 rfl ok_X12_lineUp rfl kc_X12_lineUp kl_X12_325 ki_X12_lineUp kv_X12_lineUp kn_X12 ⟨Nat.le_trans (by decide) hR1, Nat.le_trans (by decide) hR2⟩ ⟨Nat.zero_le _, Nat.zero_le _⟩ (Nat.le_of_ble_eq_true rfl) dX12_areTogether_2 (fun H locs w => ?_)
  refine lv_iconst (pc := 5) (v := 0) hx hb dX12_areTogether_5 (by decide) ?_
  refine lv_istore_n (pc := 6) (lv' := [(3, .int (0 : Int32)), (0, .ref (ad 14)), (1, .int a1), (2, .int a2)]) hx hb dX12_areTogether_6 rfl hl (by decide) rfl (fun ls hl => ?_)
  refine lv_iconst (pc := 7) (v := 0) hx hb dX12_areTogether_7 (by decide) ?_
  refine lv_istore (pc := 8) (lv' := [(4, .int (0 : Int32)), (3, .int (0 : Int32)), (0, .ref (ad 14)), (1, .int a1), (2, .int a2)]) hx hb dX12_areTogether_8 hl (by decide) rfl (fun ls hl => ?_)
  exact w_X12_areTogether_L10 F (Nat.le_trans (by decide) hR1) (Nat.le_trans (by decide) hR2) _ _ _ _ _ h _ _ _ w (lv_sub hl [2, 4, 1, 0] rfl)
def f_X12_note (a1 : Int32) (S : SS) : Option (SS) :=
  if (200 : Int32) ≤ (S.1 14 5) then
    some S
  else
    grd (inb (S.1 14 5) 200) (wr S 69 (S.1 14 5).toNatClampNeg a1 (fun S1 =>
    wr S1 14 5 ((S1.1 14 5) + (1 : Int32)) (fun S2 =>
    some S2)))
theorem dX12_note_0 : decode cX12_note 0 = .ok (.aload_n 0, 1) := by decide +kernel
theorem dX12_note_1 : decode cX12_note 1 = .ok (.getfield 207, 3) := by decide +kernel
theorem dX12_note_4 : decode cX12_note 4 = .ok (.sipush 200, 3) := by decide +kernel
theorem dX12_note_7 : decode cX12_note 7 = .ok (.if_icmp .ge 23, 3) := by decide +kernel
theorem dX12_note_10 : decode cX12_note 10 = .ok (.aload_n 0, 1) := by decide +kernel
theorem dX12_note_11 : decode cX12_note 11 = .ok (.getfield 20, 3) := by decide +kernel
theorem dX12_note_14 : decode cX12_note 14 = .ok (.aload_n 0, 1) := by decide +kernel
theorem dX12_note_15 : decode cX12_note 15 = .ok (.getfield 207, 3) := by decide +kernel
theorem dX12_note_18 : decode cX12_note 18 = .ok (.iload_n 1, 1) := by decide +kernel
theorem dX12_note_19 : decode cX12_note 19 = .ok (.iastore, 1) := by decide +kernel
theorem dX12_note_20 : decode cX12_note 20 = .ok (.aload_n 0, 1) := by decide +kernel
theorem dX12_note_21 : decode cX12_note 21 = .ok (.dup, 1) := by decide +kernel
theorem dX12_note_22 : decode cX12_note 22 = .ok (.getfield 207, 3) := by decide +kernel
theorem dX12_note_25 : decode cX12_note 25 = .ok (.iconst 1, 1) := by decide +kernel
theorem dX12_note_26 : decode cX12_note 26 = .ok (.iadd, 1) := by decide +kernel
theorem dX12_note_27 : decode cX12_note 27 = .ok (.putfield 207, 3) := by decide +kernel
theorem dX12_note_30 : decode cX12_note 30 = .ok (.return_, 1) := by decide +kernel
set_option maxRecDepth 100000 in
set_option maxHeartbeats 4000000 in
theorem m_X12_note (a1 : Int32) (S S' : SS) (h : f_X12_note a1 S = some S') : MT yX12_note cX12_note 2 none 0 0 (fun ad => [.ref (ad 14), .int a1]) S none S' := by
  refine MT.of RX12 (fun ad => [(0, .ref (ad 14)), (1, .int a1)]) (by decide) rfl (fun _ => Nat.le_of_ble_eq_true rfl) (fun _ => rfl) ?_
  intro p l e R s m args below meth c dC dI cs ad A hR1 hR2 F H locs ls w hl
  have hx := F.1.1
  have hb := F.1.2.1
  rw [f_X12_note] at h
  refine lv_aload_n (pc := 0) hx hb dX12_note_0 rfl (lv_at hl 0 rfl) ?_
  refine s_getI (pc := 1) F w ds_14 (j := 5) vc_X12 vi_X12 rfl (by decide) kf_X12_207 dX12_note_1 ?_
  refine lv_sipush (pc := 4) (v := 200) hx hb dX12_note_4 (by decide) ?_
  refine lv_icmp_ge (pc := 7) (tgt := 30) hx hb dX12_note_7 (by decide) (fun q => ?_) (fun q => ?_)
  · have h := ite_t q h
    exact s_vret F w h dX12_note_30
  · have h := ite_f q h
    refine lv_aload_n (pc := 10) hx hb dX12_note_10 rfl (lv_at hl 0 rfl) ?_
    refine s_getR (pc := 11) F w 69 ds_14 (j := 6) vc_X12 vi_X12 rfl (by decide) kf_X12_20 dX12_note_11 ?_
    refine lv_aload_n (pc := 14) hx hb dX12_note_14 rfl (lv_at hl 0 rfl) ?_
    refine s_getI (pc := 15) F w ds_14 (j := 5) vc_X12 vi_X12 rfl (by decide) kf_X12_207 dX12_note_15 ?_
    refine lv_iload_n (pc := 18) hx hb dX12_note_18 rfl (lv_at hl 1 rfl) ?_
    refine s_iast (pc := 19) F w ds_69 h dX12_note_19 (fun S1 H locs h w => ?_)
    refine lv_aload_n (pc := 20) hx hb dX12_note_20 rfl (lv_at hl 0 rfl) ?_
    refine lv_dup (pc := 21) hx hb dX12_note_21 rfl ?_
    refine s_getI (pc := 22) F w ds_14 (j := 5) vc_X12 vi_X12 rfl (by decide) kf_X12_207 dX12_note_22 ?_
    refine lv_iconst (pc := 25) (v := 1) hx hb dX12_note_25 (by decide) ?_
    refine lv_iadd (pc := 26) hx hb dX12_note_26 ?_
    refine s_putI (pc := 27) F w ds_14 vc_X12 vi_X12 tyX12_ok nmX12 (j := 5) rfl (by decide) kf_X12_207 rfl pd_I h dX12_note_27 (fun S2 H locs h w => ?_)
    exact s_vret F w h dX12_note_30
def f_X12_suits_j56  (x1 : Int32) (x2 : Int32) (S : SS) : Option (Int32 × SS) :=
    bndv (f_X12_note (17 : Int32) S) (fun S1 =>
    grd (inb x2 72) (
    if (5 : Int32) ≤ (S1.1 85 x2.toNatClampNeg) then
      some ((1 : Int32), S1)
    else
      grd (inb x1 72) (
      grd (inb x2 72) (
      grd (inb (((10 : Int32) * (S1.1 94 x1.toNatClampNeg)) + (S1.1 94 x2.toNatClampNeg)) 100) (
      if (S1.1 83 (((10 : Int32) * (S1.1 94 x1.toNatClampNeg)) + (S1.1 94 x2.toNatClampNeg)).toNatClampNeg) = 0 then
        some ((1 : Int32), S1)
      else
        some ((0 : Int32), S1))))))
def f_X12_suits (a1 : Int32) (a2 : Int32) (S : SS) : Option (Int32 × SS) :=
  grd (inb a1 72) (
  if (S.1 85 a1.toNatClampNeg) < (5 : Int32) then
    grd (inb a1 72) (
    if (S.1 85 a1.toNatClampNeg) = (4 : Int32) then
      bndv (f_X12_note (19 : Int32) S) (fun S2 =>
      grd (inb a2 72) (
      if (S2.1 85 a2.toNatClampNeg) = (1 : Int32) then
        some ((0 : Int32), S2)
      else
        grd (inb a2 72) (
        if (S2.1 85 a2.toNatClampNeg) = (2 : Int32) then
          some ((0 : Int32), S2)
        else
          f_X12_suits_j56 a1 a2 S2)))
    else
      f_X12_suits_j56 a1 a2 S)
  else
    bndv (f_X12_note (18 : Int32) S) (fun S3 =>
    some ((1 : Int32), S3)))
theorem dX12_suits_0 : decode cX12_suits 0 = .ok (.aload_n 0, 1) := by decide +kernel
theorem dX12_suits_1 : decode cX12_suits 1 = .ok (.getfield 69, 3) := by decide +kernel
theorem dX12_suits_4 : decode cX12_suits 4 = .ok (.iload_n 1, 1) := by decide +kernel
theorem dX12_suits_5 : decode cX12_suits 5 = .ok (.iaload, 1) := by decide +kernel
theorem dX12_suits_6 : decode cX12_suits 6 = .ok (.iconst 5, 1) := by decide +kernel
theorem dX12_suits_7 : decode cX12_suits 7 = .ok (.if_icmp .lt 11, 3) := by decide +kernel
theorem dX12_suits_10 : decode cX12_suits 10 = .ok (.aload_n 0, 1) := by decide +kernel
theorem dX12_suits_11 : decode cX12_suits 11 = .ok (.bipush 18, 2) := by decide +kernel
theorem dX12_suits_13 : decode cX12_suits 13 = .ok (.invokevirtual 296, 3) := by decide +kernel
theorem dX12_suits_16 : decode cX12_suits 16 = .ok (.iconst 1, 1) := by decide +kernel
theorem dX12_suits_17 : decode cX12_suits 17 = .ok (.ireturn, 1) := by decide +kernel
theorem dX12_suits_18 : decode cX12_suits 18 = .ok (.aload_n 0, 1) := by decide +kernel
theorem dX12_suits_19 : decode cX12_suits 19 = .ok (.getfield 69, 3) := by decide +kernel
theorem dX12_suits_22 : decode cX12_suits 22 = .ok (.iload_n 1, 1) := by decide +kernel
theorem dX12_suits_23 : decode cX12_suits 23 = .ok (.iaload, 1) := by decide +kernel
theorem dX12_suits_24 : decode cX12_suits 24 = .ok (.iconst 4, 1) := by decide +kernel
theorem dX12_suits_25 : decode cX12_suits 25 = .ok (.if_icmp .ne 31, 3) := by decide +kernel
theorem dX12_suits_28 : decode cX12_suits 28 = .ok (.aload_n 0, 1) := by decide +kernel
theorem dX12_suits_29 : decode cX12_suits 29 = .ok (.bipush 19, 2) := by decide +kernel
theorem dX12_suits_31 : decode cX12_suits 31 = .ok (.invokevirtual 296, 3) := by decide +kernel
theorem dX12_suits_34 : decode cX12_suits 34 = .ok (.aload_n 0, 1) := by decide +kernel
theorem dX12_suits_35 : decode cX12_suits 35 = .ok (.getfield 69, 3) := by decide +kernel
theorem dX12_suits_38 : decode cX12_suits 38 = .ok (.iload_n 2, 1) := by decide +kernel
theorem dX12_suits_39 : decode cX12_suits 39 = .ok (.iaload, 1) := by decide +kernel
theorem dX12_suits_40 : decode cX12_suits 40 = .ok (.iconst 1, 1) := by decide +kernel
theorem dX12_suits_41 : decode cX12_suits 41 = .ok (.if_icmp .eq 13, 3) := by decide +kernel
theorem dX12_suits_44 : decode cX12_suits 44 = .ok (.aload_n 0, 1) := by decide +kernel
theorem dX12_suits_45 : decode cX12_suits 45 = .ok (.getfield 69, 3) := by decide +kernel
theorem dX12_suits_48 : decode cX12_suits 48 = .ok (.iload_n 2, 1) := by decide +kernel
theorem dX12_suits_49 : decode cX12_suits 49 = .ok (.iaload, 1) := by decide +kernel
theorem dX12_suits_50 : decode cX12_suits 50 = .ok (.iconst 2, 1) := by decide +kernel
theorem dX12_suits_51 : decode cX12_suits 51 = .ok (.if_icmp .ne 5, 3) := by decide +kernel
theorem dX12_suits_54 : decode cX12_suits 54 = .ok (.iconst 0, 1) := by decide +kernel
theorem dX12_suits_55 : decode cX12_suits 55 = .ok (.ireturn, 1) := by decide +kernel
theorem dX12_suits_56 : decode cX12_suits 56 = .ok (.aload_n 0, 1) := by decide +kernel
theorem dX12_suits_57 : decode cX12_suits 57 = .ok (.bipush 17, 2) := by decide +kernel
theorem dX12_suits_59 : decode cX12_suits 59 = .ok (.invokevirtual 296, 3) := by decide +kernel
theorem dX12_suits_62 : decode cX12_suits 62 = .ok (.aload_n 0, 1) := by decide +kernel
theorem dX12_suits_63 : decode cX12_suits 63 = .ok (.getfield 69, 3) := by decide +kernel
theorem dX12_suits_66 : decode cX12_suits 66 = .ok (.iload_n 2, 1) := by decide +kernel
theorem dX12_suits_67 : decode cX12_suits 67 = .ok (.iaload, 1) := by decide +kernel
theorem dX12_suits_68 : decode cX12_suits 68 = .ok (.iconst 5, 1) := by decide +kernel
theorem dX12_suits_69 : decode cX12_suits 69 = .ok (.if_icmp .ge 27, 3) := by decide +kernel
theorem dX12_suits_72 : decode cX12_suits 72 = .ok (.aload_n 0, 1) := by decide +kernel
theorem dX12_suits_73 : decode cX12_suits 73 = .ok (.getfield 63, 3) := by decide +kernel
theorem dX12_suits_76 : decode cX12_suits 76 = .ok (.bipush 10, 2) := by decide +kernel
theorem dX12_suits_78 : decode cX12_suits 78 = .ok (.aload_n 0, 1) := by decide +kernel
theorem dX12_suits_79 : decode cX12_suits 79 = .ok (.getfield 96, 3) := by decide +kernel
theorem dX12_suits_82 : decode cX12_suits 82 = .ok (.iload_n 1, 1) := by decide +kernel
theorem dX12_suits_83 : decode cX12_suits 83 = .ok (.iaload, 1) := by decide +kernel
theorem dX12_suits_84 : decode cX12_suits 84 = .ok (.imul, 1) := by decide +kernel
theorem dX12_suits_85 : decode cX12_suits 85 = .ok (.aload_n 0, 1) := by decide +kernel
theorem dX12_suits_86 : decode cX12_suits 86 = .ok (.getfield 96, 3) := by decide +kernel
theorem dX12_suits_89 : decode cX12_suits 89 = .ok (.iload_n 2, 1) := by decide +kernel
theorem dX12_suits_90 : decode cX12_suits 90 = .ok (.iaload, 1) := by decide +kernel
theorem dX12_suits_91 : decode cX12_suits 91 = .ok (.iadd, 1) := by decide +kernel
theorem dX12_suits_92 : decode cX12_suits 92 = .ok (.baload, 1) := by decide +kernel
theorem dX12_suits_93 : decode cX12_suits 93 = .ok (.ifCond .ne 7, 3) := by decide +kernel
theorem dX12_suits_96 : decode cX12_suits 96 = .ok (.iconst 1, 1) := by decide +kernel
theorem dX12_suits_97 : decode cX12_suits 97 = .ok (.goto 4, 3) := by decide +kernel
theorem dX12_suits_100 : decode cX12_suits 100 = .ok (.iconst 0, 1) := by decide +kernel
theorem dX12_suits_101 : decode cX12_suits 101 = .ok (.ireturn, 1) := by decide +kernel
set_option maxRecDepth 100000 in
set_option maxHeartbeats 4000000 in
theorem w_X12_suits_j56 {p : Program} {l : Launch} {e : Env} {R : Room} {s : State} {m : MethodId} {args : Array Value} {below : List Frame} {meth : Method} {c : Code} {dC : Nat → ClassId} {dI : Nat → Nat → Nat} {cs : Nat → ClassId} {ad : Nat → Nat} {A : Nat → Prop} {D0 : Nat → Nat} {S' : SS} {r : Int32} (F : Fx p s m args meth c cX12_suits 3 RX12 (some .boolean) dC dI cs A) (hR1 : 1 ≤ R.frames) (hR2 : 21 ≤ R.locals) (x1 : Int32) (x2 : Int32) (S : SS) (h : f_X12_suits_j56 x1 x2 S = some (r, S')) : AW p l e R s m args below meth c dC dI cs ad A D0 (some (.int r)) S' 3 56 [(0, .ref (ad 14)), (1, .int x1), (2, .int x2)] [] S := by
  have hx := F.1.1
  have hb := F.1.2.1
  intro H locs ls w hl
  rw [f_X12_suits_j56] at h
  refine lv_aload_n (pc := 56) hx hb dX12_suits_56 rfl (lv_at hl 0 rfl) ?_
  refine lv_bipush (pc := 57) (v := 17) hx hb dX12_suits_57 (by decide) ?_
  obtain ⟨S1, hc, h⟩ := bndv_t h
  refine s_cvv (pc := 59) [.int (17 : Int32)] (fun ad => [.ref (ad 14), .int (17 : Int32)]) F w (m_X12_note _ _ _ hc) rfl rfl hl.1 ds_14 vc_X12 rfl ok_X12_note rfl kc_X12_note kl_X12_296 ki_X12_note kv_X12_note kn_X12 ⟨Nat.le_trans (by decide) hR1, Nat.le_trans (by decide) hR2⟩ ⟨Nat.zero_le _, Nat.zero_le _⟩ (Nat.le_of_ble_eq_true rfl) dX12_suits_59 (fun H locs w => ?_)
  refine lv_aload_n (pc := 62) hx hb dX12_suits_62 rfl (lv_at hl 0 rfl) ?_
  refine s_getR (pc := 63) F w 85 ds_14 (j := 30) vc_X12 vi_X12 rfl (by decide) kf_X12_69 dX12_suits_63 ?_
  refine lv_iload_n (pc := 66) hx hb dX12_suits_66 rfl (lv_at hl 2 rfl) ?_
  refine s_iald (pc := 67) F w ds_85 h dX12_suits_67 (fun h => ?_)
  refine lv_iconst (pc := 68) (v := 5) hx hb dX12_suits_68 (by decide) ?_
  refine lv_icmp_ge (pc := 69) (tgt := 96) hx hb dX12_suits_69 (by decide) (fun q => ?_) (fun q => ?_)
  · have h := ite_t q h
    refine lv_iconst (pc := 96) (v := 1) hx hb dX12_suits_96 (by decide) ?_
    refine lv_goto (pc := 97) (tgt := 101) hx hb dX12_suits_97 (by decide) ?_
    exact s_zretc F w rfl h dX12_suits_101
  · have h := ite_f q h
    refine lv_aload_n (pc := 72) hx hb dX12_suits_72 rfl (lv_at hl 0 rfl) ?_
    refine s_getR (pc := 73) F w 83 ds_14 (j := 24) vc_X12 vi_X12 rfl (by decide) kf_X12_63 dX12_suits_73 ?_
    refine lv_bipush (pc := 76) (v := 10) hx hb dX12_suits_76 (by decide) ?_
    refine lv_aload_n (pc := 78) hx hb dX12_suits_78 rfl (lv_at hl 0 rfl) ?_
    refine s_getR (pc := 79) F w 94 ds_14 (j := 39) vc_X12 vi_X12 rfl (by decide) kf_X12_96 dX12_suits_79 ?_
    refine lv_iload_n (pc := 82) hx hb dX12_suits_82 rfl (lv_at hl 1 rfl) ?_
    refine s_iald (pc := 83) F w ds_94 h dX12_suits_83 (fun h => ?_)
    refine lv_imul (pc := 84) hx hb dX12_suits_84 ?_
    refine lv_aload_n (pc := 85) hx hb dX12_suits_85 rfl (lv_at hl 0 rfl) ?_
    refine s_getR (pc := 86) F w 94 ds_14 (j := 39) vc_X12 vi_X12 rfl (by decide) kf_X12_96 dX12_suits_86 ?_
    refine lv_iload_n (pc := 89) hx hb dX12_suits_89 rfl (lv_at hl 2 rfl) ?_
    refine s_iald (pc := 90) F w ds_94 h dX12_suits_90 (fun h => ?_)
    refine lv_iadd (pc := 91) hx hb dX12_suits_91 ?_
    refine s_zald (pc := 92) F w ds_83 h dX12_suits_92 (fun h => ?_)
    refine lv_if_ne (pc := 93) (tgt := 100) hx hb dX12_suits_93 (by decide) (fun q => ?_) (fun q => ?_)
    · have h := ite_f q h
      refine lv_iconst (pc := 100) (v := 0) hx hb dX12_suits_100 (by decide) ?_
      exact s_zretc F w rfl h dX12_suits_101
    · have h := ite_t q h
      refine lv_iconst (pc := 96) (v := 1) hx hb dX12_suits_96 (by decide) ?_
      refine lv_goto (pc := 97) (tgt := 101) hx hb dX12_suits_97 (by decide) ?_
      exact s_zretc F w rfl h dX12_suits_101
set_option maxRecDepth 100000 in
set_option maxHeartbeats 4000000 in
theorem m_X12_suits (a1 : Int32) (a2 : Int32) (S S' : SS) (r : Int32) (h : f_X12_suits a1 a2 S = some (r, S')) : MT yX12_suits cX12_suits 3 (some .boolean) 1 21 (fun ad => [.ref (ad 14), .int a1, .int a2]) S (some (.int r)) S' := by
  refine MT.of RX12 (fun ad => [(0, .ref (ad 14)), (1, .int a1), (2, .int a2)]) (by decide) rfl (fun _ => Nat.le_of_ble_eq_true rfl) (fun _ => rfl) ?_
  intro p l e R s m args below meth c dC dI cs ad A hR1 hR2 F H locs ls w hl
  have hx := F.1.1
  have hb := F.1.2.1
  rw [f_X12_suits] at h
  refine lv_aload_n (pc := 0) hx hb dX12_suits_0 rfl (lv_at hl 0 rfl) ?_
  refine s_getR (pc := 1) F w 85 ds_14 (j := 30) vc_X12 vi_X12 rfl (by decide) kf_X12_69 dX12_suits_1 ?_
  refine lv_iload_n (pc := 4) hx hb dX12_suits_4 rfl (lv_at hl 1 rfl) ?_
  refine s_iald (pc := 5) F w ds_85 h dX12_suits_5 (fun h => ?_)
  refine lv_iconst (pc := 6) (v := 5) hx hb dX12_suits_6 (by decide) ?_
  refine lv_icmp_lt (pc := 7) (tgt := 18) hx hb dX12_suits_7 (by decide) (fun q => ?_) (fun q => ?_)
  · have h := ite_t q h
    refine lv_aload_n (pc := 18) hx hb dX12_suits_18 rfl (lv_at hl 0 rfl) ?_
    refine s_getR (pc := 19) F w 85 ds_14 (j := 30) vc_X12 vi_X12 rfl (by decide) kf_X12_69 dX12_suits_19 ?_
    refine lv_iload_n (pc := 22) hx hb dX12_suits_22 rfl (lv_at hl 1 rfl) ?_
    refine s_iald (pc := 23) F w ds_85 h dX12_suits_23 (fun h => ?_)
    refine lv_iconst (pc := 24) (v := 4) hx hb dX12_suits_24 (by decide) ?_
    refine lv_icmp_ne (pc := 25) (tgt := 56) hx hb dX12_suits_25 (by decide) (fun q => ?_) (fun q => ?_)
    · have h := ite_f q h
      exact w_X12_suits_j56 F (Nat.le_trans (by decide) hR1) (Nat.le_trans (by decide) hR2) _ _ _ h _ _ _ w (lv_sub hl [0, 1, 2] rfl)
    · have h := ite_t q h
      refine lv_aload_n (pc := 28) hx hb dX12_suits_28 rfl (lv_at hl 0 rfl) ?_
      refine lv_bipush (pc := 29) (v := 19) hx hb dX12_suits_29 (by decide) ?_
      obtain ⟨S2, hc, h⟩ := bndv_t h
      refine s_cvv (pc := 31) [.int (19 : Int32)] (fun ad => [.ref (ad 14), .int (19 : Int32)]) F w (m_X12_note _ _ _ hc) rfl rfl hl.1 ds_14 vc_X12 rfl ok_X12_note rfl kc_X12_note kl_X12_296 ki_X12_note kv_X12_note kn_X12 ⟨Nat.le_trans (by decide) hR1, Nat.le_trans (by decide) hR2⟩ ⟨Nat.zero_le _, Nat.zero_le _⟩ (Nat.le_of_ble_eq_true rfl) dX12_suits_31 (fun H locs w => ?_)
      refine lv_aload_n (pc := 34) hx hb dX12_suits_34 rfl (lv_at hl 0 rfl) ?_
      refine s_getR (pc := 35) F w 85 ds_14 (j := 30) vc_X12 vi_X12 rfl (by decide) kf_X12_69 dX12_suits_35 ?_
      refine lv_iload_n (pc := 38) hx hb dX12_suits_38 rfl (lv_at hl 2 rfl) ?_
      refine s_iald (pc := 39) F w ds_85 h dX12_suits_39 (fun h => ?_)
      refine lv_iconst (pc := 40) (v := 1) hx hb dX12_suits_40 (by decide) ?_
      refine lv_icmp_eq (pc := 41) (tgt := 54) hx hb dX12_suits_41 (by decide) (fun q => ?_) (fun q => ?_)
      · have h := ite_t q h
        refine lv_iconst (pc := 54) (v := 0) hx hb dX12_suits_54 (by decide) ?_
        exact s_zretc F w rfl h dX12_suits_55
      · have h := ite_f q h
        refine lv_aload_n (pc := 44) hx hb dX12_suits_44 rfl (lv_at hl 0 rfl) ?_
        refine s_getR (pc := 45) F w 85 ds_14 (j := 30) vc_X12 vi_X12 rfl (by decide) kf_X12_69 dX12_suits_45 ?_
        refine lv_iload_n (pc := 48) hx hb dX12_suits_48 rfl (lv_at hl 2 rfl) ?_
        refine s_iald (pc := 49) F w ds_85 h dX12_suits_49 (fun h => ?_)
        refine lv_iconst (pc := 50) (v := 2) hx hb dX12_suits_50 (by decide) ?_
        refine lv_icmp_ne (pc := 51) (tgt := 56) hx hb dX12_suits_51 (by decide) (fun q => ?_) (fun q => ?_)
        · have h := ite_f q h
          exact w_X12_suits_j56 F (Nat.le_trans (by decide) hR1) (Nat.le_trans (by decide) hR2) _ _ _ h _ _ _ w (lv_sub hl [0, 1, 2] rfl)
        · have h := ite_t q h
          refine lv_iconst (pc := 54) (v := 0) hx hb dX12_suits_54 (by decide) ?_
          exact s_zretc F w rfl h dX12_suits_55
  · have h := ite_f q h
    refine lv_aload_n (pc := 10) hx hb dX12_suits_10 rfl (lv_at hl 0 rfl) ?_
    refine lv_bipush (pc := 11) (v := 18) hx hb dX12_suits_11 (by decide) ?_
    obtain ⟨S3, hc, h⟩ := bndv_t h
    refine s_cvv (pc := 13) [.int (18 : Int32)] (fun ad => [.ref (ad 14), .int (18 : Int32)]) F w (m_X12_note _ _ _ hc) rfl rfl hl.1 ds_14 vc_X12 rfl ok_X12_note rfl kc_X12_note kl_X12_296 ki_X12_note kv_X12_note kn_X12 ⟨Nat.le_trans (by decide) hR1, Nat.le_trans (by decide) hR2⟩ ⟨Nat.zero_le _, Nat.zero_le _⟩ (Nat.le_of_ble_eq_true rfl) dX12_suits_13 (fun H locs w => ?_)
    refine lv_iconst (pc := 16) (v := 1) hx hb dX12_suits_16 (by decide) ?_
    exact s_zretc F w rfl h dX12_suits_17
