/-! ===== printed by wip/gen: X11_kickTo X11_kick X12_heavy X12_kick X8_running X8_runner X8_addDamp X10_runsOn X8_endRun X10_runAll X11_step X12_running ===== -/
def f_X11_kickTo_j109  (x1 : Int32) (x2 : Int32) (y0 : Int32) (S : SS) : Option (Int32 × SS) :=
    bndv (f_X8_beginRun x1 x2 y0 S) (fun S7 =>
    some (y0, S7))
def f_X11_kickTo_j62  (x1 : Int32) (x2 : Int32) (x3 : Int32) (S : SS) : Option (Int32 × SS) :=
    if x3 = 0 then
      bnd (f_X0_heavy x1 S) (fun r4 S3 =>
      bnd (f_J9_min_7cf53 (r4 / (40 : Int32)) (7 : Int32) S3) (fun r6 S5 =>
      if 0 ≤ r6 then
        grd (inb r6 8) (
        f_X11_kickTo_j109 x1 x2 (S5.1 15 r6.toNatClampNeg) S5)
      else
        f_X11_kickTo_j109 x1 x2 (0 : Int32) S5))
    else
      bnd (f_X5_found x3 S) (fun r9 S8 =>
      some (r9, S8))
def f_X11_kickTo_j44  (x1 : Int32) (x2 : Int32) (x3 : Int32) (S : SS) : Option (Int32 × SS) :=
    if x3 = 0 then
      bnd (f_X8_isRunning x1 S) (fun r11 S10 =>
      if r11 = 0 then
        f_X11_kickTo_j62 x1 x2 x3 S10
      else
        f_X11_kickTo_j62 x1 x2 (16 : Int32) S10)
    else
      f_X11_kickTo_j62 x1 x2 x3 S
def f_X11_kickTo_j41  (x1 : Int32) (x2 : Int32) (S : SS) : Option (Int32 × SS) :=
    f_X11_kickTo_j44 x1 x2 (14 : Int32) S
def f_X11_kickTo (a1 : Int32) (a2 : Int32) (S : SS) : Option (Int32 × SS) :=
  bnd (f_X11_namedSide a1 (31 : Int32) a2 S) (fun r2 S1 =>
  if r2 = 0 then
    bnd (f_X8_get a1 (2 : Int32) S1) (fun r13 S12 =>
    if r13 = (-4 : Int32) then
      bnd (f_X8_get a1 (3 : Int32) S12) (fun r15 S14 =>
      if r15 = (-4 : Int32) then
        f_X11_kickTo_j44 a1 a2 r2 S14
      else
        f_X11_kickTo_j41 a1 a2 S14)
    else
      f_X11_kickTo_j41 a1 a2 S12)
  else
    f_X11_kickTo_j44 a1 a2 r2 S1)
theorem dX11_kickTo_0 : decode cX11_kickTo 0 = .ok (.aload_n 0, 1) := by decide +kernel
theorem dX11_kickTo_1 : decode cX11_kickTo 1 = .ok (.iload_n 1, 1) := by decide +kernel
theorem dX11_kickTo_2 : decode cX11_kickTo 2 = .ok (.bipush 31, 2) := by decide +kernel
theorem dX11_kickTo_4 : decode cX11_kickTo 4 = .ok (.iload_n 2, 1) := by decide +kernel
theorem dX11_kickTo_5 : decode cX11_kickTo 5 = .ok (.invokevirtual 259, 3) := by decide +kernel
theorem dX11_kickTo_8 : decode cX11_kickTo 8 = .ok (.istore_n 3, 1) := by decide +kernel
theorem dX11_kickTo_9 : decode cX11_kickTo 9 = .ok (.iload_n 3, 1) := by decide +kernel
theorem dX11_kickTo_10 : decode cX11_kickTo 10 = .ok (.ifCond .ne 34, 3) := by decide +kernel
theorem dX11_kickTo_13 : decode cX11_kickTo 13 = .ok (.aload_n 0, 1) := by decide +kernel
theorem dX11_kickTo_14 : decode cX11_kickTo 14 = .ok (.getfield 19, 3) := by decide +kernel
theorem dX11_kickTo_17 : decode cX11_kickTo 17 = .ok (.iload_n 1, 1) := by decide +kernel
theorem dX11_kickTo_18 : decode cX11_kickTo 18 = .ok (.iconst 2, 1) := by decide +kernel
theorem dX11_kickTo_19 : decode cX11_kickTo 19 = .ok (.invokevirtual 253, 3) := by decide +kernel
theorem dX11_kickTo_22 : decode cX11_kickTo 22 = .ok (.bipush (-4), 2) := by decide +kernel
theorem dX11_kickTo_24 : decode cX11_kickTo 24 = .ok (.if_icmp .ne 17, 3) := by decide +kernel
theorem dX11_kickTo_27 : decode cX11_kickTo 27 = .ok (.aload_n 0, 1) := by decide +kernel
theorem dX11_kickTo_28 : decode cX11_kickTo 28 = .ok (.getfield 19, 3) := by decide +kernel
theorem dX11_kickTo_31 : decode cX11_kickTo 31 = .ok (.iload_n 1, 1) := by decide +kernel
theorem dX11_kickTo_32 : decode cX11_kickTo 32 = .ok (.iconst 3, 1) := by decide +kernel
theorem dX11_kickTo_33 : decode cX11_kickTo 33 = .ok (.invokevirtual 253, 3) := by decide +kernel
theorem dX11_kickTo_36 : decode cX11_kickTo 36 = .ok (.bipush (-4), 2) := by decide +kernel
theorem dX11_kickTo_38 : decode cX11_kickTo 38 = .ok (.if_icmp .eq 6, 3) := by decide +kernel
theorem dX11_kickTo_41 : decode cX11_kickTo 41 = .ok (.bipush 14, 2) := by decide +kernel
theorem dX11_kickTo_43 : decode cX11_kickTo 43 = .ok (.istore_n 3, 1) := by decide +kernel
theorem dX11_kickTo_44 : decode cX11_kickTo 44 = .ok (.iload_n 3, 1) := by decide +kernel
theorem dX11_kickTo_45 : decode cX11_kickTo 45 = .ok (.ifCond .ne 17, 3) := by decide +kernel
theorem dX11_kickTo_48 : decode cX11_kickTo 48 = .ok (.aload_n 0, 1) := by decide +kernel
theorem dX11_kickTo_49 : decode cX11_kickTo 49 = .ok (.getfield 19, 3) := by decide +kernel
theorem dX11_kickTo_52 : decode cX11_kickTo 52 = .ok (.iload_n 1, 1) := by decide +kernel
theorem dX11_kickTo_53 : decode cX11_kickTo 53 = .ok (.invokevirtual 308, 3) := by decide +kernel
theorem dX11_kickTo_56 : decode cX11_kickTo 56 = .ok (.ifCond .eq 6, 3) := by decide +kernel
theorem dX11_kickTo_59 : decode cX11_kickTo 59 = .ok (.bipush 16, 2) := by decide +kernel
theorem dX11_kickTo_61 : decode cX11_kickTo 61 = .ok (.istore_n 3, 1) := by decide +kernel
theorem dX11_kickTo_62 : decode cX11_kickTo 62 = .ok (.iload_n 3, 1) := by decide +kernel
theorem dX11_kickTo_63 : decode cX11_kickTo 63 = .ok (.ifCond .eq 12, 3) := by decide +kernel
theorem dX11_kickTo_66 : decode cX11_kickTo 66 = .ok (.aload_n 0, 1) := by decide +kernel
theorem dX11_kickTo_67 : decode cX11_kickTo 67 = .ok (.getfield 10, 3) := by decide +kernel
theorem dX11_kickTo_70 : decode cX11_kickTo 70 = .ok (.iload_n 3, 1) := by decide +kernel
theorem dX11_kickTo_71 : decode cX11_kickTo 71 = .ok (.invokevirtual 98, 3) := by decide +kernel
theorem dX11_kickTo_74 : decode cX11_kickTo 74 = .ok (.ireturn, 1) := by decide +kernel
theorem dX11_kickTo_75 : decode cX11_kickTo 75 = .ok (.aload_n 0, 1) := by decide +kernel
theorem dX11_kickTo_76 : decode cX11_kickTo 76 = .ok (.getfield 67, 3) := by decide +kernel
theorem dX11_kickTo_79 : decode cX11_kickTo 79 = .ok (.iload_n 1, 1) := by decide +kernel
theorem dX11_kickTo_80 : decode cX11_kickTo 80 = .ok (.invokevirtual 312, 3) := by decide +kernel
theorem dX11_kickTo_83 : decode cX11_kickTo 83 = .ok (.bipush 40, 2) := by decide +kernel
theorem dX11_kickTo_85 : decode cX11_kickTo 85 = .ok (.idiv, 1) := by decide +kernel
theorem dX11_kickTo_86 : decode cX11_kickTo 86 = .ok (.bipush 7, 2) := by decide +kernel
theorem dX11_kickTo_88 : decode cX11_kickTo 88 = .ok (.invokestatic 315, 3) := by decide +kernel
theorem dX11_kickTo_91 : decode cX11_kickTo 91 = .ok (.istore 4, 2) := by decide +kernel
theorem dX11_kickTo_93 : decode cX11_kickTo 93 = .ok (.iload 4, 2) := by decide +kernel
theorem dX11_kickTo_95 : decode cX11_kickTo 95 = .ok (.ifCond .ge 7, 3) := by decide +kernel
theorem dX11_kickTo_98 : decode cX11_kickTo 98 = .ok (.iconst 0, 1) := by decide +kernel
theorem dX11_kickTo_99 : decode cX11_kickTo 99 = .ok (.goto 10, 3) := by decide +kernel
theorem dX11_kickTo_102 : decode cX11_kickTo 102 = .ok (.aload_n 0, 1) := by decide +kernel
theorem dX11_kickTo_103 : decode cX11_kickTo 103 = .ok (.getfield 78, 3) := by decide +kernel
theorem dX11_kickTo_106 : decode cX11_kickTo 106 = .ok (.iload 4, 2) := by decide +kernel
theorem dX11_kickTo_108 : decode cX11_kickTo 108 = .ok (.iaload, 1) := by decide +kernel
theorem dX11_kickTo_109 : decode cX11_kickTo 109 = .ok (.istore 5, 2) := by decide +kernel
theorem dX11_kickTo_111 : decode cX11_kickTo 111 = .ok (.aload_n 0, 1) := by decide +kernel
theorem dX11_kickTo_112 : decode cX11_kickTo 112 = .ok (.getfield 19, 3) := by decide +kernel
theorem dX11_kickTo_115 : decode cX11_kickTo 115 = .ok (.iload_n 1, 1) := by decide +kernel
theorem dX11_kickTo_116 : decode cX11_kickTo 116 = .ok (.iload_n 2, 1) := by decide +kernel
theorem dX11_kickTo_117 : decode cX11_kickTo 117 = .ok (.iload 5, 2) := by decide +kernel
theorem dX11_kickTo_119 : decode cX11_kickTo 119 = .ok (.invokevirtual 320, 3) := by decide +kernel
theorem dX11_kickTo_122 : decode cX11_kickTo 122 = .ok (.iload 5, 2) := by decide +kernel
theorem dX11_kickTo_124 : decode cX11_kickTo 124 = .ok (.ireturn, 1) := by decide +kernel
set_option maxRecDepth 100000 in
set_option maxHeartbeats 4000000 in
theorem w_X11_kickTo_j109 {p : Program} {l : Launch} {e : Env} {R : Room} {s : State} {m : MethodId} {args : Array Value} {below : List Frame} {meth : Method} {c : Code} {dC : Nat → ClassId} {dI : Nat → Nat → Nat} {cs : Nat → ClassId} {ad : Nat → Nat} {A : Nat → Prop} {D0 : Nat → Nat} {S' : SS} {r : Int32} (F : Fx p s m args meth c cX11_kickTo 6 RX11 (some .int) dC dI cs A) (hR1 : 2 ≤ R.frames) (hR2 : 46 ≤ R.locals) (x1 : Int32) (x2 : Int32) (y0 : Int32) (S : SS) (h : f_X11_kickTo_j109 x1 x2 y0 S = some (r, S')) : AW p l e R s m args below meth c dC dI cs ad A D0 (some (.int r)) S' 6 109 [(0, .ref (ad 0)), (1, .int x1), (2, .int x2)] [.int y0] S := by
  have hx := F.1.1
  have hb := F.1.2.1
  intro H locs ls w hl
  rw [f_X11_kickTo_j109] at h
  refine lv_istore (pc := 109) (lv' := [(5, .int y0), (0, .ref (ad 0)), (1, .int x1), (2, .int x2)]) hx hb dX11_kickTo_109 hl (by decide) rfl (fun ls hl => ?_)
  refine lv_aload_n (pc := 111) hx hb dX11_kickTo_111 rfl (lv_at hl 1 rfl) ?_
  refine s_getR (pc := 112) F w 2 ds_0 (j := 1) vc_X11 vi_X11 rfl (by decide) kf_X11_19 dX11_kickTo_112 ?_
  refine lv_iload_n (pc := 115) hx hb dX11_kickTo_115 rfl (lv_at hl 2 rfl) ?_
  refine lv_iload_n (pc := 116) hx hb dX11_kickTo_116 rfl (lv_at hl 3 rfl) ?_
  refine lv_iload (pc := 117) hx hb dX11_kickTo_117 (lv_at hl 0 rfl) ?_
  obtain ⟨S7, hc, h⟩ := bndv_t h
  refine s_cvv (pc := 119) [.int x1, .int x2, .int y0] (fun ad => [.ref (ad 2), .int x1, .int x2, .int y0]) F w (m_X8_beginRun _ _ _ _ _ hc) rfl rfl hl.1 ds_2 vc_X8 rfl ok_X8_beginRun rfl kc_X8_beginRun kl_X11_320 ki_X8_beginRun kv_X8_beginRun kn_X8 ⟨Nat.le_trans (by decide) hR1, Nat.le_trans (by decide) hR2⟩ ⟨Nat.zero_le _, Nat.zero_le _⟩ (Nat.le_of_ble_eq_true rfl) dX11_kickTo_119 (fun H locs w => ?_)
  refine lv_iload (pc := 122) hx hb dX11_kickTo_122 (lv_at hl 0 rfl) ?_
  exact s_iret F w h dX11_kickTo_124
set_option maxRecDepth 100000 in
set_option maxHeartbeats 4000000 in
theorem w_X11_kickTo_j62 {p : Program} {l : Launch} {e : Env} {R : Room} {s : State} {m : MethodId} {args : Array Value} {below : List Frame} {meth : Method} {c : Code} {dC : Nat → ClassId} {dI : Nat → Nat → Nat} {cs : Nat → ClassId} {ad : Nat → Nat} {A : Nat → Prop} {D0 : Nat → Nat} {S' : SS} {r : Int32} (F : Fx p s m args meth c cX11_kickTo 6 RX11 (some .int) dC dI cs A) (hR1 : 5 ≤ R.frames) (hR2 : 108 ≤ R.locals) (x1 : Int32) (x2 : Int32) (x3 : Int32) (S : SS) (h : f_X11_kickTo_j62 x1 x2 x3 S = some (r, S')) : AW p l e R s m args below meth c dC dI cs ad A D0 (some (.int r)) S' 6 62 [(0, .ref (ad 0)), (1, .int x1), (2, .int x2), (3, .int x3)] [] S := by
  have hx := F.1.1
  have hb := F.1.2.1
  intro H locs ls w hl
  rw [f_X11_kickTo_j62] at h
  refine lv_iload_n (pc := 62) hx hb dX11_kickTo_62 rfl (lv_at hl 3 rfl) ?_
  refine lv_if_eq (pc := 63) (tgt := 75) hx hb dX11_kickTo_63 (by decide) (fun q => ?_) (fun q => ?_)
  · have h := ite_t q h
    refine lv_aload_n (pc := 75) hx hb dX11_kickTo_75 rfl (lv_at hl 0 rfl) ?_
    refine s_getR (pc := 76) F w 8 ds_0 (j := 7) vc_X11 vi_X11 rfl (by decide) kf_X11_67 dX11_kickTo_76 ?_
    refine lv_iload_n (pc := 79) hx hb dX11_kickTo_79 rfl (lv_at hl 1 rfl) ?_
    obtain ⟨r4, S3, hc, h⟩ := bnd_t h
    refine s_cvi (pc := 80) [.int x1] (fun ad => [.ref (ad 8), .int x1]) F w (m_X0_heavy _ _ _ _ hc) rfl rfl hl.1 ds_8 vc_X0 rfl ok_X0_heavy rfl kc_X0_heavy kl_X11_312 ki_X0_heavy kv_X0_heavy kn_X0 ⟨Nat.le_trans (by decide) hR1, Nat.le_trans (by decide) hR2⟩ ⟨Nat.zero_le _, Nat.zero_le _⟩ (Nat.le_of_ble_eq_true rfl) dX11_kickTo_80 (fun H locs w => ?_)
    refine lv_bipush (pc := 83) (v := 40) hx hb dX11_kickTo_83 (by decide) ?_
    refine lv_idiv (pc := 85) hx hb dX11_kickTo_85 (by decide) ?_
    refine lv_bipush (pc := 86) (v := 7) hx hb dX11_kickTo_86 (by decide) ?_
    obtain ⟨r6, S5, hc, h⟩ := bnd_t h
    refine s_csi (pc := 88) [.int (r4 / (40 : Int32)), .int (7 : Int32)] (fun ad => [.int (r4 / (40 : Int32)), .int (7 : Int32)]) F w (m_J9_min_7cf53 _ _ _ _ _ hc) rfl rfl hl.1 ok_J9_min_7cf53 rfl kc_J9_min_7cf53 kl_X11_315 ks_J9_min_7cf53 kn_J9 ⟨Nat.le_trans (by decide) hR1, Nat.le_trans (by decide) hR2⟩ ⟨Nat.zero_le _, Nat.zero_le _⟩ (Nat.le_of_ble_eq_true rfl) dX11_kickTo_88 (fun H locs w => ?_)
    refine lv_istore (pc := 91) (lv' := [(4, .int r6), (0, .ref (ad 0)), (1, .int x1), (2, .int x2), (3, .int x3)]) hx hb dX11_kickTo_91 hl (by decide) rfl (fun ls hl => ?_)
    refine lv_iload (pc := 93) hx hb dX11_kickTo_93 (lv_at hl 0 rfl) ?_
    refine lv_if_ge (pc := 95) (tgt := 102) hx hb dX11_kickTo_95 (by decide) (fun q => ?_) (fun q => ?_)
    · have h := ite_t q h
      refine lv_aload_n (pc := 102) hx hb dX11_kickTo_102 rfl (lv_at hl 1 rfl) ?_
      refine s_getR (pc := 103) F w 15 ds_0 (j := 9) vc_X11 vi_X11 rfl (by decide) kf_X11_78 dX11_kickTo_103 ?_
      refine lv_iload (pc := 106) hx hb dX11_kickTo_106 (lv_at hl 0 rfl) ?_
      refine s_iald (pc := 108) F w ds_15 h dX11_kickTo_108 (fun h => ?_)
      exact w_X11_kickTo_j109 F (Nat.le_trans (by decide) hR1) (Nat.le_trans (by decide) hR2) _ _ _ _ h _ _ _ w (lv_sub hl [1, 2, 3] rfl)
    · have h := ite_f q h
      refine lv_iconst (pc := 98) (v := 0) hx hb dX11_kickTo_98 (by decide) ?_
      refine lv_goto (pc := 99) (tgt := 109) hx hb dX11_kickTo_99 (by decide) ?_
      exact w_X11_kickTo_j109 F (Nat.le_trans (by decide) hR1) (Nat.le_trans (by decide) hR2) _ _ _ _ h _ _ _ w (lv_sub hl [1, 2, 3] rfl)
  · have h := ite_f q h
    refine lv_aload_n (pc := 66) hx hb dX11_kickTo_66 rfl (lv_at hl 0 rfl) ?_
    refine s_getR (pc := 67) F w 1 ds_0 (j := 0) vc_X11 vi_X11 rfl (by decide) kf_X11_10 dX11_kickTo_67 ?_
    refine lv_iload_n (pc := 70) hx hb dX11_kickTo_70 rfl (lv_at hl 3 rfl) ?_
    obtain ⟨r9, S8, hc, h⟩ := bnd_t h
    refine s_cvi (pc := 71) [.int x3] (fun ad => [.ref (ad 1), .int x3]) F w (m_X5_found _ _ _ _ hc) rfl rfl hl.1 ds_1 vc_X5 rfl ok_X5_found rfl kc_X5_found kl_X11_98 ki_X5_found kv_X5_found kn_X5 ⟨Nat.le_trans (by decide) hR1, Nat.le_trans (by decide) hR2⟩ ⟨Nat.zero_le _, Nat.zero_le _⟩ (Nat.le_of_ble_eq_true rfl) dX11_kickTo_71 (fun H locs w => ?_)
    exact s_iret F w h dX11_kickTo_74
set_option maxRecDepth 100000 in
set_option maxHeartbeats 4000000 in
theorem w_X11_kickTo_j44 {p : Program} {l : Launch} {e : Env} {R : Room} {s : State} {m : MethodId} {args : Array Value} {below : List Frame} {meth : Method} {c : Code} {dC : Nat → ClassId} {dI : Nat → Nat → Nat} {cs : Nat → ClassId} {ad : Nat → Nat} {A : Nat → Prop} {D0 : Nat → Nat} {S' : SS} {r : Int32} (F : Fx p s m args meth c cX11_kickTo 6 RX11 (some .int) dC dI cs A) (hR1 : 5 ≤ R.frames) (hR2 : 108 ≤ R.locals) (x1 : Int32) (x2 : Int32) (x3 : Int32) (S : SS) (h : f_X11_kickTo_j44 x1 x2 x3 S = some (r, S')) : AW p l e R s m args below meth c dC dI cs ad A D0 (some (.int r)) S' 6 44 [(0, .ref (ad 0)), (1, .int x1), (2, .int x2), (3, .int x3)] [] S := by
  have hx := F.1.1
  have hb := F.1.2.1
  intro H locs ls w hl
  rw [f_X11_kickTo_j44] at h
  refine lv_iload_n (pc := 44) hx hb dX11_kickTo_44 rfl (lv_at hl 3 rfl) ?_
  refine lv_if_ne (pc := 45) (tgt := 62) hx hb dX11_kickTo_45 (by decide) (fun q => ?_) (fun q => ?_)
  · have h := ite_f q h
    exact w_X11_kickTo_j62 F (Nat.le_trans (by decide) hR1) (Nat.le_trans (by decide) hR2) _ _ _ _ h _ _ _ w (lv_sub hl [0, 1, 2, 3] rfl)
  · have h := ite_t q h
    refine lv_aload_n (pc := 48) hx hb dX11_kickTo_48 rfl (lv_at hl 0 rfl) ?_
    refine s_getR (pc := 49) F w 2 ds_0 (j := 1) vc_X11 vi_X11 rfl (by decide) kf_X11_19 dX11_kickTo_49 ?_
    refine lv_iload_n (pc := 52) hx hb dX11_kickTo_52 rfl (lv_at hl 1 rfl) ?_
    obtain ⟨r11, S10, hc, h⟩ := bnd_t h
    refine s_cvi (pc := 53) [.int x1] (fun ad => [.ref (ad 2), .int x1]) F w (m_X8_isRunning _ _ _ _ hc) rfl rfl hl.1 ds_2 vc_X8 rfl ok_X8_isRunning rfl kc_X8_isRunning kl_X11_308 ki_X8_isRunning kv_X8_isRunning kn_X8 ⟨Nat.le_trans (by decide) hR1, Nat.le_trans (by decide) hR2⟩ ⟨Nat.zero_le _, Nat.zero_le _⟩ (Nat.le_of_ble_eq_true rfl) dX11_kickTo_53 (fun H locs w => ?_)
    refine lv_if_eq (pc := 56) (tgt := 62) hx hb dX11_kickTo_56 (by decide) (fun q => ?_) (fun q => ?_)
    · have h := ite_t q h
      exact w_X11_kickTo_j62 F (Nat.le_trans (by decide) hR1) (Nat.le_trans (by decide) hR2) _ _ _ _ h _ _ _ w (lv_sub hl [0, 1, 2, 3] rfl)
    · have h := ite_f q h
      refine lv_bipush (pc := 59) (v := 16) hx hb dX11_kickTo_59 (by decide) ?_
      refine lv_istore_n (pc := 61) (lv' := [(3, .int (16 : Int32)), (0, .ref (ad 0)), (1, .int x1), (2, .int x2)]) hx hb dX11_kickTo_61 rfl hl (by decide) rfl (fun ls hl => ?_)
      exact w_X11_kickTo_j62 F (Nat.le_trans (by decide) hR1) (Nat.le_trans (by decide) hR2) _ _ _ _ h _ _ _ w (lv_sub hl [1, 2, 3, 0] rfl)
set_option maxRecDepth 100000 in
set_option maxHeartbeats 4000000 in
theorem w_X11_kickTo_j41 {p : Program} {l : Launch} {e : Env} {R : Room} {s : State} {m : MethodId} {args : Array Value} {below : List Frame} {meth : Method} {c : Code} {dC : Nat → ClassId} {dI : Nat → Nat → Nat} {cs : Nat → ClassId} {ad : Nat → Nat} {A : Nat → Prop} {D0 : Nat → Nat} {S' : SS} {r : Int32} (F : Fx p s m args meth c cX11_kickTo 6 RX11 (some .int) dC dI cs A) (hR1 : 5 ≤ R.frames) (hR2 : 108 ≤ R.locals) (x1 : Int32) (x2 : Int32) (S : SS) (h : f_X11_kickTo_j41 x1 x2 S = some (r, S')) : AW p l e R s m args below meth c dC dI cs ad A D0 (some (.int r)) S' 6 41 [(0, .ref (ad 0)), (1, .int x1), (2, .int x2)] [] S := by
  have hx := F.1.1
  have hb := F.1.2.1
  intro H locs ls w hl
  rw [f_X11_kickTo_j41] at h
  refine lv_bipush (pc := 41) (v := 14) hx hb dX11_kickTo_41 (by decide) ?_
  refine lv_istore_n (pc := 43) (lv' := [(3, .int (14 : Int32)), (0, .ref (ad 0)), (1, .int x1), (2, .int x2)]) hx hb dX11_kickTo_43 rfl hl (by decide) rfl (fun ls hl => ?_)
  exact w_X11_kickTo_j44 F (Nat.le_trans (by decide) hR1) (Nat.le_trans (by decide) hR2) _ _ _ _ h _ _ _ w (lv_sub hl [1, 2, 3, 0] rfl)
set_option maxRecDepth 100000 in
set_option maxHeartbeats 4000000 in
theorem m_X11_kickTo (a1 : Int32) (a2 : Int32) (S S' : SS) (r : Int32) (h : f_X11_kickTo a1 a2 S = some (r, S')) : MT yX11_kickTo cX11_kickTo 6 (some .int) 5 108 (fun ad => [.ref (ad 0), .int a1, .int a2]) S (some (.int r)) S' := by
  refine MT.of RX11 (fun ad => [(0, .ref (ad 0)), (1, .int a1), (2, .int a2)]) (by decide) rfl (fun _ => Nat.le_of_ble_eq_true rfl) (fun _ => rfl) ?_
  intro p l e R s m args below meth c dC dI cs ad A hR1 hR2 F H locs ls w hl
  have hx := F.1.1
  have hb := F.1.2.1
  rw [f_X11_kickTo] at h
  refine lv_aload_n (pc := 0) hx hb dX11_kickTo_0 rfl (lv_at hl 0 rfl) ?_
  refine lv_iload_n (pc := 1) hx hb dX11_kickTo_1 rfl (lv_at hl 1 rfl) ?_
  refine lv_bipush (pc := 2) (v := 31) hx hb dX11_kickTo_2 (by decide) ?_
  refine lv_iload_n (pc := 4) hx hb dX11_kickTo_4 rfl (lv_at hl 2 rfl) ?_
  obtain ⟨r2, S1, hc, h⟩ := bnd_t h
  refine s_cvi (pc := 5) [.int a1, .int (31 : Int32), .int a2] (fun ad => [.ref (ad 0), .int a1, .int (31 : Int32), .int a2]) F w (m_X11_namedSide _ _ _ _ _ _ hc) rfl rfl hl.1 ds_0 vc_X11 rfl ok_X11_namedSide rfl kc_X11_namedSide kl_X11_259 ki_X11_namedSide kv_X11_namedSide kn_X11 ⟨Nat.le_trans (by decide) hR1, Nat.le_trans (by decide) hR2⟩ ⟨Nat.zero_le _, Nat.zero_le _⟩ (Nat.le_of_ble_eq_true rfl) dX11_kickTo_5 (fun H locs w => ?_)
  refine lv_istore_n (pc := 8) (lv' := [(3, .int r2), (0, .ref (ad 0)), (1, .int a1), (2, .int a2)]) hx hb dX11_kickTo_8 rfl hl (by decide) rfl (fun ls hl => ?_)
  refine lv_iload_n (pc := 9) hx hb dX11_kickTo_9 rfl (lv_at hl 0 rfl) ?_
  refine lv_if_ne (pc := 10) (tgt := 44) hx hb dX11_kickTo_10 (by decide) (fun q => ?_) (fun q => ?_)
  · have h := ite_f q h
    exact w_X11_kickTo_j44 F (Nat.le_trans (by decide) hR1) (Nat.le_trans (by decide) hR2) _ _ _ _ h _ _ _ w (lv_sub hl [1, 2, 3, 0] rfl)
  · have h := ite_t q h
    refine lv_aload_n (pc := 13) hx hb dX11_kickTo_13 rfl (lv_at hl 1 rfl) ?_
    refine s_getR (pc := 14) F w 2 ds_0 (j := 1) vc_X11 vi_X11 rfl (by decide) kf_X11_19 dX11_kickTo_14 ?_
    refine lv_iload_n (pc := 17) hx hb dX11_kickTo_17 rfl (lv_at hl 2 rfl) ?_
    refine lv_iconst (pc := 18) (v := 2) hx hb dX11_kickTo_18 (by decide) ?_
    obtain ⟨r13, S12, hc, h⟩ := bnd_t h
    refine s_cvi (pc := 19) [.int a1, .int (2 : Int32)] (fun ad => [.ref (ad 2), .int a1, .int (2 : Int32)]) F w (m_X8_get _ _ _ _ _ hc) rfl rfl hl.1 ds_2 vc_X8 rfl ok_X8_get rfl kc_X8_get kl_X11_253 ki_X8_get kv_X8_get kn_X8 ⟨Nat.le_trans (by decide) hR1, Nat.le_trans (by decide) hR2⟩ ⟨Nat.zero_le _, Nat.zero_le _⟩ (Nat.le_of_ble_eq_true rfl) dX11_kickTo_19 (fun H locs w => ?_)
    refine lv_bipush (pc := 22) (v := -4) hx hb dX11_kickTo_22 (by decide) ?_
    refine lv_icmp_ne (pc := 24) (tgt := 41) hx hb dX11_kickTo_24 (by decide) (fun q => ?_) (fun q => ?_)
    · have h := ite_f q h
      exact w_X11_kickTo_j41 F (Nat.le_trans (by decide) hR1) (Nat.le_trans (by decide) hR2) _ _ _ h _ _ _ w (lv_sub hl [1, 2, 3] rfl)
    · have h := ite_t q h
      refine lv_aload_n (pc := 27) hx hb dX11_kickTo_27 rfl (lv_at hl 1 rfl) ?_
      refine s_getR (pc := 28) F w 2 ds_0 (j := 1) vc_X11 vi_X11 rfl (by decide) kf_X11_19 dX11_kickTo_28 ?_
      refine lv_iload_n (pc := 31) hx hb dX11_kickTo_31 rfl (lv_at hl 2 rfl) ?_
      refine lv_iconst (pc := 32) (v := 3) hx hb dX11_kickTo_32 (by decide) ?_
      obtain ⟨r15, S14, hc, h⟩ := bnd_t h
      refine s_cvi (pc := 33) [.int a1, .int (3 : Int32)] (fun ad => [.ref (ad 2), .int a1, .int (3 : Int32)]) F w (m_X8_get _ _ _ _ _ hc) rfl rfl hl.1 ds_2 vc_X8 rfl ok_X8_get rfl kc_X8_get kl_X11_253 ki_X8_get kv_X8_get kn_X8 ⟨Nat.le_trans (by decide) hR1, Nat.le_trans (by decide) hR2⟩ ⟨Nat.zero_le _, Nat.zero_le _⟩ (Nat.le_of_ble_eq_true rfl) dX11_kickTo_33 (fun H locs w => ?_)
      refine lv_bipush (pc := 36) (v := -4) hx hb dX11_kickTo_36 (by decide) ?_
      refine lv_icmp_eq (pc := 38) (tgt := 44) hx hb dX11_kickTo_38 (by decide) (fun q => ?_) (fun q => ?_)
      · have h := ite_t q h
        exact w_X11_kickTo_j44 F (Nat.le_trans (by decide) hR1) (Nat.le_trans (by decide) hR2) _ _ _ _ h _ _ _ w (lv_sub hl [1, 2, 3, 0] rfl)
      · have h := ite_f q h
        exact w_X11_kickTo_j41 F (Nat.le_trans (by decide) hR1) (Nat.le_trans (by decide) hR2) _ _ _ h _ _ _ w (lv_sub hl [1, 2, 3] rfl)
def f_X11_kick (a1 : Int32) (a2 : Int32) (S : SS) : Option (Int32 × SS) :=
  bndv (f_X11_beginAct  S) (fun S1 =>
  bnd (f_X11_kickTo a1 a2 S1) (fun r3 S2 =>
  bnd (f_X11_endAct (9 : Int32) r3 S2) (fun r5 S4 =>
  some (r5, S4))))
theorem dX11_kick_0 : decode cX11_kick 0 = .ok (.aload_n 0, 1) := by decide +kernel
theorem dX11_kick_1 : decode cX11_kick 1 = .ok (.invokevirtual 199, 3) := by decide +kernel
theorem dX11_kick_4 : decode cX11_kick 4 = .ok (.aload_n 0, 1) := by decide +kernel
theorem dX11_kick_5 : decode cX11_kick 5 = .ok (.bipush 9, 2) := by decide +kernel
theorem dX11_kick_7 : decode cX11_kick 7 = .ok (.aload_n 0, 1) := by decide +kernel
theorem dX11_kick_8 : decode cX11_kick 8 = .ok (.iload_n 1, 1) := by decide +kernel
theorem dX11_kick_9 : decode cX11_kick 9 = .ok (.iload_n 2, 1) := by decide +kernel
theorem dX11_kick_10 : decode cX11_kick 10 = .ok (.invokevirtual 229, 3) := by decide +kernel
theorem dX11_kick_13 : decode cX11_kick 13 = .ok (.invokevirtual 205, 3) := by decide +kernel
theorem dX11_kick_16 : decode cX11_kick 16 = .ok (.ireturn, 1) := by decide +kernel
set_option maxRecDepth 100000 in
set_option maxHeartbeats 4000000 in
theorem m_X11_kick (a1 : Int32) (a2 : Int32) (S S' : SS) (r : Int32) (h : f_X11_kick a1 a2 S = some (r, S')) : MT yX11_kick cX11_kick 3 (some .int) 6 133 (fun ad => [.ref (ad 0), .int a1, .int a2]) S (some (.int r)) S' := by
  refine MT.of RX11 (fun ad => [(0, .ref (ad 0)), (1, .int a1), (2, .int a2)]) (by decide) rfl (fun _ => Nat.le_of_ble_eq_true rfl) (fun _ => rfl) ?_
  intro p l e R s m args below meth c dC dI cs ad A hR1 hR2 F H locs ls w hl
  have hx := F.1.1
  have hb := F.1.2.1
  rw [f_X11_kick] at h
  refine lv_aload_n (pc := 0) hx hb dX11_kick_0 rfl (lv_at hl 0 rfl) ?_
  obtain ⟨S1, hc, h⟩ := bndv_t h
  refine s_cvv (pc := 1) [] (fun ad => [.ref (ad 0)]) F w (m_X11_beginAct  _ _ hc) rfl rfl hl.1 ds_0 vc_X11 rfl ok_X11_beginAct rfl kc_X11_beginAct kl_X11_199 ki_X11_beginAct kv_X11_beginAct kn_X11 ⟨Nat.le_trans (by decide) hR1, Nat.le_trans (by decide) hR2⟩ ⟨Nat.zero_le _, Nat.zero_le _⟩ (Nat.le_of_ble_eq_true rfl) dX11_kick_1 (fun H locs w => ?_)
  refine lv_aload_n (pc := 4) hx hb dX11_kick_4 rfl (lv_at hl 0 rfl) ?_
  refine lv_bipush (pc := 5) (v := 9) hx hb dX11_kick_5 (by decide) ?_
  refine lv_aload_n (pc := 7) hx hb dX11_kick_7 rfl (lv_at hl 0 rfl) ?_
  refine lv_iload_n (pc := 8) hx hb dX11_kick_8 rfl (lv_at hl 1 rfl) ?_
  refine lv_iload_n (pc := 9) hx hb dX11_kick_9 rfl (lv_at hl 2 rfl) ?_
  obtain ⟨r3, S2, hc, h⟩ := bnd_t h
  refine s_cvi (pc := 10) [.int a1, .int a2] (fun ad => [.ref (ad 0), .int a1, .int a2]) F w (m_X11_kickTo _ _ _ _ _ hc) rfl rfl hl.1 ds_0 vc_X11 rfl ok_X11_kickTo rfl kc_X11_kickTo kl_X11_229 ki_X11_kickTo kv_X11_kickTo kn_X11 ⟨Nat.le_trans (by decide) hR1, Nat.le_trans (by decide) hR2⟩ ⟨Nat.zero_le _, Nat.zero_le _⟩ (Nat.le_of_ble_eq_true rfl) dX11_kick_10 (fun H locs w => ?_)
  obtain ⟨r5, S4, hc, h⟩ := bnd_t h
  refine s_cvi (pc := 13) [.int (9 : Int32), .int r3] (fun ad => [.ref (ad 0), .int (9 : Int32), .int r3]) F w (m_X11_endAct _ _ _ _ _ hc) rfl rfl hl.1 ds_0 vc_X11 rfl ok_X11_endAct rfl kc_X11_endAct kl_X11_205 ki_X11_endAct kv_X11_endAct kn_X11 ⟨Nat.le_trans (by decide) hR1, Nat.le_trans (by decide) hR2⟩ ⟨Nat.zero_le _, Nat.zero_le _⟩ (Nat.le_of_ble_eq_true rfl) dX11_kick_13 (fun H locs w => ?_)
  exact s_iret F w h dX11_kick_16
def f_X12_heavy_j16  (x1 : Int32) (S : SS) : Option (Int32 × SS) :=
    bndv (f_X12_note (12 : Int32) S) (fun S1 =>
    bnd (f_X12_weight x1 S1) (fun r3 S2 =>
    grd (inb x1 72) (
    grd (inb x1 72) (
    if (S2.1 85 x1.toNatClampNeg) = (3 : Int32) then
      some ((((2 : Int32) * r3) + (S2.1 95 x1.toNatClampNeg)) + (10 : Int32), S2)
    else
      some ((((2 : Int32) * r3) + (S2.1 95 x1.toNatClampNeg)) + (0 : Int32), S2)))))
def f_X12_heavy (a1 : Int32) (S : SS) : Option (Int32 × SS) :=
  grd (inb a1 72) (
  if (S.1 85 a1.toNatClampNeg) = (3 : Int32) then
    bndv (f_X12_note (13 : Int32) S) (fun S4 =>
    f_X12_heavy_j16 a1 S4)
  else
    f_X12_heavy_j16 a1 S)
theorem dX12_heavy_0 : decode cX12_heavy 0 = .ok (.aload_n 0, 1) := by decide +kernel
theorem dX12_heavy_1 : decode cX12_heavy 1 = .ok (.getfield 69, 3) := by decide +kernel
theorem dX12_heavy_4 : decode cX12_heavy 4 = .ok (.iload_n 1, 1) := by decide +kernel
theorem dX12_heavy_5 : decode cX12_heavy 5 = .ok (.iaload, 1) := by decide +kernel
theorem dX12_heavy_6 : decode cX12_heavy 6 = .ok (.iconst 3, 1) := by decide +kernel
theorem dX12_heavy_7 : decode cX12_heavy 7 = .ok (.if_icmp .ne 9, 3) := by decide +kernel
theorem dX12_heavy_10 : decode cX12_heavy 10 = .ok (.aload_n 0, 1) := by decide +kernel
theorem dX12_heavy_11 : decode cX12_heavy 11 = .ok (.bipush 13, 2) := by decide +kernel
theorem dX12_heavy_13 : decode cX12_heavy 13 = .ok (.invokevirtual 296, 3) := by decide +kernel
theorem dX12_heavy_16 : decode cX12_heavy 16 = .ok (.aload_n 0, 1) := by decide +kernel
theorem dX12_heavy_17 : decode cX12_heavy 17 = .ok (.bipush 12, 2) := by decide +kernel
theorem dX12_heavy_19 : decode cX12_heavy 19 = .ok (.invokevirtual 296, 3) := by decide +kernel
theorem dX12_heavy_22 : decode cX12_heavy 22 = .ok (.iconst 2, 1) := by decide +kernel
theorem dX12_heavy_23 : decode cX12_heavy 23 = .ok (.aload_n 0, 1) := by decide +kernel
theorem dX12_heavy_24 : decode cX12_heavy 24 = .ok (.iload_n 1, 1) := by decide +kernel
theorem dX12_heavy_25 : decode cX12_heavy 25 = .ok (.invokevirtual 303, 3) := by decide +kernel
theorem dX12_heavy_28 : decode cX12_heavy 28 = .ok (.imul, 1) := by decide +kernel
theorem dX12_heavy_29 : decode cX12_heavy 29 = .ok (.aload_n 0, 1) := by decide +kernel
theorem dX12_heavy_30 : decode cX12_heavy 30 = .ok (.getfield 99, 3) := by decide +kernel
theorem dX12_heavy_33 : decode cX12_heavy 33 = .ok (.iload_n 1, 1) := by decide +kernel
theorem dX12_heavy_34 : decode cX12_heavy 34 = .ok (.iaload, 1) := by decide +kernel
theorem dX12_heavy_35 : decode cX12_heavy 35 = .ok (.iadd, 1) := by decide +kernel
theorem dX12_heavy_36 : decode cX12_heavy 36 = .ok (.aload_n 0, 1) := by decide +kernel
theorem dX12_heavy_37 : decode cX12_heavy 37 = .ok (.getfield 69, 3) := by decide +kernel
theorem dX12_heavy_40 : decode cX12_heavy 40 = .ok (.iload_n 1, 1) := by decide +kernel
theorem dX12_heavy_41 : decode cX12_heavy 41 = .ok (.iaload, 1) := by decide +kernel
theorem dX12_heavy_42 : decode cX12_heavy 42 = .ok (.iconst 3, 1) := by decide +kernel
theorem dX12_heavy_43 : decode cX12_heavy 43 = .ok (.if_icmp .ne 8, 3) := by decide +kernel
theorem dX12_heavy_46 : decode cX12_heavy 46 = .ok (.bipush 10, 2) := by decide +kernel
theorem dX12_heavy_48 : decode cX12_heavy 48 = .ok (.goto 4, 3) := by decide +kernel
theorem dX12_heavy_51 : decode cX12_heavy 51 = .ok (.iconst 0, 1) := by decide +kernel
theorem dX12_heavy_52 : decode cX12_heavy 52 = .ok (.iadd, 1) := by decide +kernel
theorem dX12_heavy_53 : decode cX12_heavy 53 = .ok (.ireturn, 1) := by decide +kernel
set_option maxRecDepth 100000 in
set_option maxHeartbeats 4000000 in
theorem w_X12_heavy_j16 {p : Program} {l : Launch} {e : Env} {R : Room} {s : State} {m : MethodId} {args : Array Value} {below : List Frame} {meth : Method} {c : Code} {dC : Nat → ClassId} {dI : Nat → Nat → Nat} {cs : Nat → ClassId} {ad : Nat → Nat} {A : Nat → Prop} {D0 : Nat → Nat} {S' : SS} {r : Int32} (F : Fx p s m args meth c cX12_heavy 2 RX12 (some .int) dC dI cs A) (hR1 : 2 ≤ R.frames) (hR2 : 45 ≤ R.locals) (x1 : Int32) (S : SS) (h : f_X12_heavy_j16 x1 S = some (r, S')) : AW p l e R s m args below meth c dC dI cs ad A D0 (some (.int r)) S' 2 16 [(0, .ref (ad 14)), (1, .int x1)] [] S := by
  have hx := F.1.1
  have hb := F.1.2.1
  intro H locs ls w hl
  rw [f_X12_heavy_j16] at h
  refine lv_aload_n (pc := 16) hx hb dX12_heavy_16 rfl (lv_at hl 0 rfl) ?_
  refine lv_bipush (pc := 17) (v := 12) hx hb dX12_heavy_17 (by decide) ?_
  obtain ⟨S1, hc, h⟩ := bndv_t h
  refine s_cvv (pc := 19) [.int (12 : Int32)] (fun ad => [.ref (ad 14), .int (12 : Int32)]) F w (m_X12_note _ _ _ hc) rfl rfl hl.1 ds_14 vc_X12 rfl ok_X12_note rfl kc_X12_note kl_X12_296 ki_X12_note kv_X12_note kn_X12 ⟨Nat.le_trans (by decide) hR1, Nat.le_trans (by decide) hR2⟩ ⟨Nat.zero_le _, Nat.zero_le _⟩ (Nat.le_of_ble_eq_true rfl) dX12_heavy_19 (fun H locs w => ?_)
  refine lv_iconst (pc := 22) (v := 2) hx hb dX12_heavy_22 (by decide) ?_
  refine lv_aload_n (pc := 23) hx hb dX12_heavy_23 rfl (lv_at hl 0 rfl) ?_
  refine lv_iload_n (pc := 24) hx hb dX12_heavy_24 rfl (lv_at hl 1 rfl) ?_
  obtain ⟨r3, S2, hc, h⟩ := bnd_t h
  refine s_cvi (pc := 25) [.int x1] (fun ad => [.ref (ad 14), .int x1]) F w (m_X12_weight _ _ _ _ hc) rfl rfl hl.1 ds_14 vc_X12 rfl ok_X12_weight rfl kc_X12_weight kl_X12_303 ki_X12_weight kv_X12_weight kn_X12 ⟨Nat.le_trans (by decide) hR1, Nat.le_trans (by decide) hR2⟩ ⟨Nat.zero_le _, Nat.zero_le _⟩ (Nat.le_of_ble_eq_true rfl) dX12_heavy_25 (fun H locs w => ?_)
  refine lv_imul (pc := 28) hx hb dX12_heavy_28 ?_
  refine lv_aload_n (pc := 29) hx hb dX12_heavy_29 rfl (lv_at hl 0 rfl) ?_
  refine s_getR (pc := 30) F w 95 ds_14 (j := 40) vc_X12 vi_X12 rfl (by decide) kf_X12_99 dX12_heavy_30 ?_
  refine lv_iload_n (pc := 33) hx hb dX12_heavy_33 rfl (lv_at hl 1 rfl) ?_
  refine s_iald (pc := 34) F w ds_95 h dX12_heavy_34 (fun h => ?_)
  refine lv_iadd (pc := 35) hx hb dX12_heavy_35 ?_
  refine lv_aload_n (pc := 36) hx hb dX12_heavy_36 rfl (lv_at hl 0 rfl) ?_
  refine s_getR (pc := 37) F w 85 ds_14 (j := 30) vc_X12 vi_X12 rfl (by decide) kf_X12_69 dX12_heavy_37 ?_
  refine lv_iload_n (pc := 40) hx hb dX12_heavy_40 rfl (lv_at hl 1 rfl) ?_
  refine s_iald (pc := 41) F w ds_85 h dX12_heavy_41 (fun h => ?_)
  refine lv_iconst (pc := 42) (v := 3) hx hb dX12_heavy_42 (by decide) ?_
  refine lv_icmp_ne (pc := 43) (tgt := 51) hx hb dX12_heavy_43 (by decide) (fun q => ?_) (fun q => ?_)
  · have h := ite_f q h
    refine lv_iconst (pc := 51) (v := 0) hx hb dX12_heavy_51 (by decide) ?_
    refine lv_iadd (pc := 52) hx hb dX12_heavy_52 ?_
    exact s_iret F w h dX12_heavy_53
  · have h := ite_t q h
    refine lv_bipush (pc := 46) (v := 10) hx hb dX12_heavy_46 (by decide) ?_
    refine lv_goto (pc := 48) (tgt := 52) hx hb dX12_heavy_48 (by decide) ?_
    refine lv_iadd (pc := 52) hx hb dX12_heavy_52 ?_
    exact s_iret F w h dX12_heavy_53
set_option maxRecDepth 100000 in
set_option maxHeartbeats 4000000 in
theorem m_X12_heavy (a1 : Int32) (S S' : SS) (r : Int32) (h : f_X12_heavy a1 S = some (r, S')) : MT yX12_heavy cX12_heavy 2 (some .int) 2 45 (fun ad => [.ref (ad 14), .int a1]) S (some (.int r)) S' := by
  refine MT.of RX12 (fun ad => [(0, .ref (ad 14)), (1, .int a1)]) (by decide) rfl (fun _ => Nat.le_of_ble_eq_true rfl) (fun _ => rfl) ?_
  intro p l e R s m args below meth c dC dI cs ad A hR1 hR2 F H locs ls w hl
  have hx := F.1.1
  have hb := F.1.2.1
  rw [f_X12_heavy] at h
  refine lv_aload_n (pc := 0) hx hb dX12_heavy_0 rfl (lv_at hl 0 rfl) ?_
  refine s_getR (pc := 1) F w 85 ds_14 (j := 30) vc_X12 vi_X12 rfl (by decide) kf_X12_69 dX12_heavy_1 ?_
  refine lv_iload_n (pc := 4) hx hb dX12_heavy_4 rfl (lv_at hl 1 rfl) ?_
  refine s_iald (pc := 5) F w ds_85 h dX12_heavy_5 (fun h => ?_)
  refine lv_iconst (pc := 6) (v := 3) hx hb dX12_heavy_6 (by decide) ?_
  refine lv_icmp_ne (pc := 7) (tgt := 16) hx hb dX12_heavy_7 (by decide) (fun q => ?_) (fun q => ?_)
  · have h := ite_f q h
    exact w_X12_heavy_j16 F (Nat.le_trans (by decide) hR1) (Nat.le_trans (by decide) hR2) _ _ h _ _ _ w (lv_sub hl [0, 1] rfl)
  · have h := ite_t q h
    refine lv_aload_n (pc := 10) hx hb dX12_heavy_10 rfl (lv_at hl 0 rfl) ?_
    refine lv_bipush (pc := 11) (v := 13) hx hb dX12_heavy_11 (by decide) ?_
    obtain ⟨S4, hc, h⟩ := bndv_t h
    refine s_cvv (pc := 13) [.int (13 : Int32)] (fun ad => [.ref (ad 14), .int (13 : Int32)]) F w (m_X12_note _ _ _ hc) rfl rfl hl.1 ds_14 vc_X12 rfl ok_X12_note rfl kc_X12_note kl_X12_296 ki_X12_note kv_X12_note kn_X12 ⟨Nat.le_trans (by decide) hR1, Nat.le_trans (by decide) hR2⟩ ⟨Nat.zero_le _, Nat.zero_le _⟩ (Nat.le_of_ble_eq_true rfl) dX12_heavy_13 (fun H locs w => ?_)
    exact w_X12_heavy_j16 F (Nat.le_trans (by decide) hR1) (Nat.le_trans (by decide) hR2) _ _ h _ _ _ w (lv_sub hl [0, 1] rfl)
def f_X12_kick_j164  (x5 : Int32) (S : SS) : Option (Int32 × SS) :=
    bnd (f_X12_entered (9 : Int32) x5 S) (fun r12 S11 =>
    some (r12, S11))
def f_X12_kick_j114  (x1 : Int32) (x2 : Int32) (y0 : Int32) (S : SS) : Option (Int32 × SS) :=
    grd (inb y0 8) (
    nm (S.1 84 y0.toNatClampNeg) (fun z10 =>
    if z10 ≤ 0 then
      f_X12_kick_j164 z10 S
    else
      grd (inb x1 72) (wr S 98 x1.toNatClampNeg (vp_nar .boolean (1 : Int32)) (fun S13 =>
      grd (inb x1 72) (wr S13 97 x1.toNatClampNeg z10 (fun S14 =>
      grd (inb x1 72) (wr S14 99 x1.toNatClampNeg x2 (fun S15 =>
      wr S15 14 47 ((S15.1 14 47) + (1 : Int32)) (fun S16 =>
      grd (inb x1 72) (wr S16 100 x1.toNatClampNeg (S16.1 14 47) (fun S17 =>
      f_X12_kick_j164 z10 S17)))))))))))
def f_X12_kick_j69  (x1 : Int32) (x2 : Int32) (x3 : Int32) (S : SS) : Option (Int32 × SS) :=
    bnd (f_X12_ends x3 S) (fun r6 S5 =>
    if r6 = 0 then
      bnd (f_X12_heavy x1 S5) (fun r8 S7 =>
      nm (r8 / (40 : Int32)) (fun z9 =>
      if z9 ≤ (7 : Int32) then
        f_X12_kick_j114 x1 x2 z9 S7
      else
        f_X12_kick_j114 x1 x2 (7 : Int32) S7))
    else
      bnd (f_X12_entered (9 : Int32) (-2 : Int32) S5) (fun r19 S18 =>
      some (r19, S18)))
def f_X12_kick_j68  (x1 : Int32) (x2 : Int32) (y0 : Int32) (S : SS) : Option (Int32 × SS) :=
    f_X12_kick_j69 x1 x2 y0 S
def f_X12_kick_j48  (x1 : Int32) (x2 : Int32) (S : SS) : Option (Int32 × SS) :=
    f_X12_kick_j68 x1 x2 (14 : Int32) S
def f_X12_kick (a1 : Int32) (a2 : Int32) (S : SS) : Option (Int32 × SS) :=
  bndv (f_X12_begin  S) (fun S1 =>
  bndv (f_X12_keep  S1) (fun S2 =>
  bnd (f_X12_missSide a1 (1 : Int32) a2 S2) (fun r4 S3 =>
  if r4 = 0 then
    grd (inb ((2 : Int32) * a1) 144) (
    if (S3.1 90 ((2 : Int32) * a1).toNatClampNeg) = (-4 : Int32) then
      grd (inb (((2 : Int32) * a1) + (1 : Int32)) 144) (
      if (S3.1 90 (((2 : Int32) * a1) + (1 : Int32)).toNatClampNeg) = (-4 : Int32) then
        grd (inb a1 72) (
        if (S3.1 98 a1.toNatClampNeg) = 0 then
          f_X12_kick_j68 a1 a2 (0 : Int32) S3
        else
          f_X12_kick_j68 a1 a2 (16 : Int32) S3)
      else
        f_X12_kick_j48 a1 a2 S3)
    else
      f_X12_kick_j48 a1 a2 S3)
  else
    f_X12_kick_j69 a1 a2 r4 S3)))
theorem dX12_kick_0 : decode cX12_kick 0 = .ok (.aload_n 0, 1) := by decide +kernel
theorem dX12_kick_1 : decode cX12_kick 1 = .ok (.invokevirtual 226, 3) := by decide +kernel
theorem dX12_kick_4 : decode cX12_kick 4 = .ok (.aload_n 0, 1) := by decide +kernel
theorem dX12_kick_5 : decode cX12_kick 5 = .ok (.invokevirtual 346, 3) := by decide +kernel
theorem dX12_kick_8 : decode cX12_kick 8 = .ok (.aload_n 0, 1) := by decide +kernel
theorem dX12_kick_9 : decode cX12_kick 9 = .ok (.iload_n 1, 1) := by decide +kernel
theorem dX12_kick_10 : decode cX12_kick 10 = .ok (.iconst 1, 1) := by decide +kernel
theorem dX12_kick_11 : decode cX12_kick 11 = .ok (.iload_n 2, 1) := by decide +kernel
theorem dX12_kick_12 : decode cX12_kick 12 = .ok (.invokevirtual 364, 3) := by decide +kernel
theorem dX12_kick_15 : decode cX12_kick 15 = .ok (.istore_n 3, 1) := by decide +kernel
theorem dX12_kick_16 : decode cX12_kick 16 = .ok (.iload_n 3, 1) := by decide +kernel
theorem dX12_kick_17 : decode cX12_kick 17 = .ok (.ifCond .ne 52, 3) := by decide +kernel
theorem dX12_kick_20 : decode cX12_kick 20 = .ok (.aload_n 0, 1) := by decide +kernel
theorem dX12_kick_21 : decode cX12_kick 21 = .ok (.getfield 84, 3) := by decide +kernel
theorem dX12_kick_24 : decode cX12_kick 24 = .ok (.iconst 2, 1) := by decide +kernel
theorem dX12_kick_25 : decode cX12_kick 25 = .ok (.iload_n 1, 1) := by decide +kernel
theorem dX12_kick_26 : decode cX12_kick 26 = .ok (.imul, 1) := by decide +kernel
theorem dX12_kick_27 : decode cX12_kick 27 = .ok (.iaload, 1) := by decide +kernel
theorem dX12_kick_28 : decode cX12_kick 28 = .ok (.bipush (-4), 2) := by decide +kernel
theorem dX12_kick_30 : decode cX12_kick 30 = .ok (.if_icmp .ne 18, 3) := by decide +kernel
theorem dX12_kick_33 : decode cX12_kick 33 = .ok (.aload_n 0, 1) := by decide +kernel
theorem dX12_kick_34 : decode cX12_kick 34 = .ok (.getfield 84, 3) := by decide +kernel
theorem dX12_kick_37 : decode cX12_kick 37 = .ok (.iconst 2, 1) := by decide +kernel
theorem dX12_kick_38 : decode cX12_kick 38 = .ok (.iload_n 1, 1) := by decide +kernel
theorem dX12_kick_39 : decode cX12_kick 39 = .ok (.imul, 1) := by decide +kernel
theorem dX12_kick_40 : decode cX12_kick 40 = .ok (.iconst 1, 1) := by decide +kernel
theorem dX12_kick_41 : decode cX12_kick 41 = .ok (.iadd, 1) := by decide +kernel
theorem dX12_kick_42 : decode cX12_kick 42 = .ok (.iaload, 1) := by decide +kernel
theorem dX12_kick_43 : decode cX12_kick 43 = .ok (.bipush (-4), 2) := by decide +kernel
theorem dX12_kick_45 : decode cX12_kick 45 = .ok (.if_icmp .eq 8, 3) := by decide +kernel
theorem dX12_kick_48 : decode cX12_kick 48 = .ok (.bipush 14, 2) := by decide +kernel
theorem dX12_kick_50 : decode cX12_kick 50 = .ok (.goto 18, 3) := by decide +kernel
theorem dX12_kick_53 : decode cX12_kick 53 = .ok (.aload_n 0, 1) := by decide +kernel
theorem dX12_kick_54 : decode cX12_kick 54 = .ok (.getfield 108, 3) := by decide +kernel
theorem dX12_kick_57 : decode cX12_kick 57 = .ok (.iload_n 1, 1) := by decide +kernel
theorem dX12_kick_58 : decode cX12_kick 58 = .ok (.baload, 1) := by decide +kernel
theorem dX12_kick_59 : decode cX12_kick 59 = .ok (.ifCond .eq 8, 3) := by decide +kernel
theorem dX12_kick_62 : decode cX12_kick 62 = .ok (.bipush 16, 2) := by decide +kernel
theorem dX12_kick_64 : decode cX12_kick 64 = .ok (.goto 4, 3) := by decide +kernel
theorem dX12_kick_67 : decode cX12_kick 67 = .ok (.iconst 0, 1) := by decide +kernel
theorem dX12_kick_68 : decode cX12_kick 68 = .ok (.istore_n 3, 1) := by decide +kernel
theorem dX12_kick_69 : decode cX12_kick 69 = .ok (.aload_n 0, 1) := by decide +kernel
theorem dX12_kick_70 : decode cX12_kick 70 = .ok (.iload_n 3, 1) := by decide +kernel
theorem dX12_kick_71 : decode cX12_kick 71 = .ok (.invokevirtual 236, 3) := by decide +kernel
theorem dX12_kick_74 : decode cX12_kick 74 = .ok (.ifCond .eq 12, 3) := by decide +kernel
theorem dX12_kick_77 : decode cX12_kick 77 = .ok (.aload_n 0, 1) := by decide +kernel
theorem dX12_kick_78 : decode cX12_kick 78 = .ok (.bipush 9, 2) := by decide +kernel
theorem dX12_kick_80 : decode cX12_kick 80 = .ok (.bipush (-2), 2) := by decide +kernel
theorem dX12_kick_82 : decode cX12_kick 82 = .ok (.invokevirtual 349, 3) := by decide +kernel
theorem dX12_kick_85 : decode cX12_kick 85 = .ok (.ireturn, 1) := by decide +kernel
theorem dX12_kick_86 : decode cX12_kick 86 = .ok (.aload_n 0, 1) := by decide +kernel
theorem dX12_kick_87 : decode cX12_kick 87 = .ok (.iload_n 1, 1) := by decide +kernel
theorem dX12_kick_88 : decode cX12_kick 88 = .ok (.invokevirtual 417, 3) := by decide +kernel
theorem dX12_kick_91 : decode cX12_kick 91 = .ok (.bipush 40, 2) := by decide +kernel
theorem dX12_kick_93 : decode cX12_kick 93 = .ok (.idiv, 1) := by decide +kernel
theorem dX12_kick_94 : decode cX12_kick 94 = .ok (.istore 4, 2) := by decide +kernel
theorem dX12_kick_96 : decode cX12_kick 96 = .ok (.aload_n 0, 1) := by decide +kernel
theorem dX12_kick_97 : decode cX12_kick 97 = .ok (.getfield 66, 3) := by decide +kernel
theorem dX12_kick_100 : decode cX12_kick 100 = .ok (.iload 4, 2) := by decide +kernel
theorem dX12_kick_102 : decode cX12_kick 102 = .ok (.bipush 7, 2) := by decide +kernel
theorem dX12_kick_104 : decode cX12_kick 104 = .ok (.if_icmp .le 8, 3) := by decide +kernel
theorem dX12_kick_107 : decode cX12_kick 107 = .ok (.bipush 7, 2) := by decide +kernel
theorem dX12_kick_109 : decode cX12_kick 109 = .ok (.goto 5, 3) := by decide +kernel
theorem dX12_kick_112 : decode cX12_kick 112 = .ok (.iload 4, 2) := by decide +kernel
theorem dX12_kick_114 : decode cX12_kick 114 = .ok (.iaload, 1) := by decide +kernel
theorem dX12_kick_115 : decode cX12_kick 115 = .ok (.istore 5, 2) := by decide +kernel
theorem dX12_kick_117 : decode cX12_kick 117 = .ok (.iload 5, 2) := by decide +kernel
theorem dX12_kick_119 : decode cX12_kick 119 = .ok (.ifCond .le 45, 3) := by decide +kernel
theorem dX12_kick_122 : decode cX12_kick 122 = .ok (.aload_n 0, 1) := by decide +kernel
theorem dX12_kick_123 : decode cX12_kick 123 = .ok (.getfield 108, 3) := by decide +kernel
theorem dX12_kick_126 : decode cX12_kick 126 = .ok (.iload_n 1, 1) := by decide +kernel
theorem dX12_kick_127 : decode cX12_kick 127 = .ok (.iconst 1, 1) := by decide +kernel
theorem dX12_kick_128 : decode cX12_kick 128 = .ok (.bastore, 1) := by decide +kernel
theorem dX12_kick_129 : decode cX12_kick 129 = .ok (.aload_n 0, 1) := by decide +kernel
theorem dX12_kick_130 : decode cX12_kick 130 = .ok (.getfield 105, 3) := by decide +kernel
theorem dX12_kick_133 : decode cX12_kick 133 = .ok (.iload_n 1, 1) := by decide +kernel
theorem dX12_kick_134 : decode cX12_kick 134 = .ok (.iload 5, 2) := by decide +kernel
theorem dX12_kick_136 : decode cX12_kick 136 = .ok (.iastore, 1) := by decide +kernel
theorem dX12_kick_137 : decode cX12_kick 137 = .ok (.aload_n 0, 1) := by decide +kernel
theorem dX12_kick_138 : decode cX12_kick 138 = .ok (.getfield 111, 3) := by decide +kernel
theorem dX12_kick_141 : decode cX12_kick 141 = .ok (.iload_n 1, 1) := by decide +kernel
theorem dX12_kick_142 : decode cX12_kick 142 = .ok (.iload_n 2, 1) := by decide +kernel
theorem dX12_kick_143 : decode cX12_kick 143 = .ok (.iastore, 1) := by decide +kernel
theorem dX12_kick_144 : decode cX12_kick 144 = .ok (.aload_n 0, 1) := by decide +kernel
theorem dX12_kick_145 : decode cX12_kick 145 = .ok (.dup, 1) := by decide +kernel
theorem dX12_kick_146 : decode cX12_kick 146 = .ok (.getfield 420, 3) := by decide +kernel
theorem dX12_kick_149 : decode cX12_kick 149 = .ok (.iconst 1, 1) := by decide +kernel
theorem dX12_kick_150 : decode cX12_kick 150 = .ok (.iadd, 1) := by decide +kernel
theorem dX12_kick_151 : decode cX12_kick 151 = .ok (.putfield 420, 3) := by decide +kernel
theorem dX12_kick_154 : decode cX12_kick 154 = .ok (.aload_n 0, 1) := by decide +kernel
theorem dX12_kick_155 : decode cX12_kick 155 = .ok (.getfield 114, 3) := by decide +kernel
theorem dX12_kick_158 : decode cX12_kick 158 = .ok (.iload_n 1, 1) := by decide +kernel
theorem dX12_kick_159 : decode cX12_kick 159 = .ok (.aload_n 0, 1) := by decide +kernel
theorem dX12_kick_160 : decode cX12_kick 160 = .ok (.getfield 420, 3) := by decide +kernel
theorem dX12_kick_163 : decode cX12_kick 163 = .ok (.iastore, 1) := by decide +kernel
theorem dX12_kick_164 : decode cX12_kick 164 = .ok (.aload_n 0, 1) := by decide +kernel
theorem dX12_kick_165 : decode cX12_kick 165 = .ok (.bipush 9, 2) := by decide +kernel
theorem dX12_kick_167 : decode cX12_kick 167 = .ok (.iload 5, 2) := by decide +kernel
theorem dX12_kick_169 : decode cX12_kick 169 = .ok (.invokevirtual 349, 3) := by decide +kernel
theorem dX12_kick_172 : decode cX12_kick 172 = .ok (.ireturn, 1) := by decide +kernel
set_option maxRecDepth 100000 in
set_option maxHeartbeats 4000000 in
theorem w_X12_kick_j164 {p : Program} {l : Launch} {e : Env} {R : Room} {s : State} {m : MethodId} {args : Array Value} {below : List Frame} {meth : Method} {c : Code} {dC : Nat → ClassId} {dI : Nat → Nat → Nat} {cs : Nat → ClassId} {ad : Nat → Nat} {A : Nat → Prop} {D0 : Nat → Nat} {S' : SS} {r : Int32} (F : Fx p s m args meth c cX12_kick 6 RX12 (some .int) dC dI cs A) (hR1 : 1 ≤ R.frames) (hR2 : 22 ≤ R.locals) (x5 : Int32) (S : SS) (h : f_X12_kick_j164 x5 S = some (r, S')) : AW p l e R s m args below meth c dC dI cs ad A D0 (some (.int r)) S' 6 164 [(0, .ref (ad 14)), (5, .int x5)] [] S := by
  have hx := F.1.1
  have hb := F.1.2.1
  intro H locs ls w hl
  rw [f_X12_kick_j164] at h
  refine lv_aload_n (pc := 164) hx hb dX12_kick_164 rfl (lv_at hl 0 rfl) ?_
  refine lv_bipush (pc := 165) (v := 9) hx hb dX12_kick_165 (by decide) ?_
  refine lv_iload (pc := 167) hx hb dX12_kick_167 (lv_at hl 1 rfl) ?_
  obtain ⟨r12, S11, hc, h⟩ := bnd_t h
  refine s_cvi (pc := 169) [.int (9 : Int32), .int x5] (fun ad => [.ref (ad 14), .int (9 : Int32), .int x5]) F w (m_X12_entered _ _ _ _ _ hc) rfl rfl hl.1 ds_14 vc_X12 rfl ok_X12_entered rfl kc_X12_entered kl_X12_349 ki_X12_entered kv_X12_entered kn_X12 ⟨Nat.le_trans (by decide) hR1, Nat.le_trans (by decide) hR2⟩ ⟨Nat.zero_le _, Nat.zero_le _⟩ (Nat.le_of_ble_eq_true rfl) dX12_kick_169 (fun H locs w => ?_)
  exact s_iret F w h dX12_kick_172
set_option maxRecDepth 100000 in
set_option maxHeartbeats 4000000 in
theorem w_X12_kick_j114 {p : Program} {l : Launch} {e : Env} {R : Room} {s : State} {m : MethodId} {args : Array Value} {below : List Frame} {meth : Method} {c : Code} {dC : Nat → ClassId} {dI : Nat → Nat → Nat} {cs : Nat → ClassId} {ad : Nat → Nat} {A : Nat → Prop} {D0 : Nat → Nat} {S' : SS} {r : Int32} (F : Fx p s m args meth c cX12_kick 6 RX12 (some .int) dC dI cs A) (hR1 : 1 ≤ R.frames) (hR2 : 22 ≤ R.locals) (x1 : Int32) (x2 : Int32) (y0 : Int32) (S : SS) (h : f_X12_kick_j114 x1 x2 y0 S = some (r, S')) : AW p l e R s m args below meth c dC dI cs ad A D0 (some (.int r)) S' 6 114 [(0, .ref (ad 14)), (1, .int x1), (2, .int x2)] [.int y0, .ref (ad 84)] S := by
  have hx := F.1.1
  have hb := F.1.2.1
  intro H locs ls w hl
  rw [f_X12_kick_j114] at h
  refine s_iald (pc := 114) F w ds_84 h dX12_kick_114 (fun h => ?_)
  refine s_nm h (fun z10 ez10 h => ?_)
  rw [← ez10]
  refine lv_istore (pc := 115) (lv' := [(5, .int z10), (0, .ref (ad 14)), (1, .int x1), (2, .int x2)]) hx hb dX12_kick_115 hl (by decide) rfl (fun ls hl => ?_)
  refine lv_iload (pc := 117) hx hb dX12_kick_117 (lv_at hl 0 rfl) ?_
  refine lv_if_le (pc := 119) (tgt := 164) hx hb dX12_kick_119 (by decide) (fun q => ?_) (fun q => ?_)
  · have h := ite_t q h
    exact w_X12_kick_j164 F (Nat.le_trans (by decide) hR1) (Nat.le_trans (by decide) hR2) _ _ h _ _ _ w (lv_sub hl [1, 0] rfl)
  · have h := ite_f q h
    refine lv_aload_n (pc := 122) hx hb dX12_kick_122 rfl (lv_at hl 1 rfl) ?_
    refine s_getR (pc := 123) F w 98 ds_14 (j := 43) vc_X12 vi_X12 rfl (by decide) kf_X12_108 dX12_kick_123 ?_
    refine lv_iload_n (pc := 126) hx hb dX12_kick_126 rfl (lv_at hl 2 rfl) ?_
    refine lv_iconst (pc := 127) (v := 1) hx hb dX12_kick_127 (by decide) ?_
    refine s_zast (pc := 128) F w ds_98 h dX12_kick_128 (fun S13 H locs h w => ?_)
    refine lv_aload_n (pc := 129) hx hb dX12_kick_129 rfl (lv_at hl 1 rfl) ?_
    refine s_getR (pc := 130) F w 97 ds_14 (j := 42) vc_X12 vi_X12 rfl (by decide) kf_X12_105 dX12_kick_130 ?_
    refine lv_iload_n (pc := 133) hx hb dX12_kick_133 rfl (lv_at hl 2 rfl) ?_
    refine lv_iload (pc := 134) hx hb dX12_kick_134 (lv_at hl 0 rfl) ?_
    refine s_iast (pc := 136) F w ds_97 h dX12_kick_136 (fun S14 H locs h w => ?_)
    refine lv_aload_n (pc := 137) hx hb dX12_kick_137 rfl (lv_at hl 1 rfl) ?_
    refine s_getR (pc := 138) F w 99 ds_14 (j := 44) vc_X12 vi_X12 rfl (by decide) kf_X12_111 dX12_kick_138 ?_
    refine lv_iload_n (pc := 141) hx hb dX12_kick_141 rfl (lv_at hl 2 rfl) ?_
    refine lv_iload_n (pc := 142) hx hb dX12_kick_142 rfl (lv_at hl 3 rfl) ?_
    refine s_iast (pc := 143) F w ds_99 h dX12_kick_143 (fun S15 H locs h w => ?_)
    refine lv_aload_n (pc := 144) hx hb dX12_kick_144 rfl (lv_at hl 1 rfl) ?_
    refine lv_dup (pc := 145) hx hb dX12_kick_145 rfl ?_
    refine s_getI (pc := 146) F w ds_14 (j := 47) vc_X12 vi_X12 rfl (by decide) kf_X12_420 dX12_kick_146 ?_
    refine lv_iconst (pc := 149) (v := 1) hx hb dX12_kick_149 (by decide) ?_
    refine lv_iadd (pc := 150) hx hb dX12_kick_150 ?_
    refine s_putI (pc := 151) F w ds_14 vc_X12 vi_X12 tyX12_ok nmX12 (j := 47) rfl (by decide) kf_X12_420 rfl pd_I h dX12_kick_151 (fun S16 H locs h w => ?_)
    refine lv_aload_n (pc := 154) hx hb dX12_kick_154 rfl (lv_at hl 1 rfl) ?_
    refine s_getR (pc := 155) F w 100 ds_14 (j := 45) vc_X12 vi_X12 rfl (by decide) kf_X12_114 dX12_kick_155 ?_
    refine lv_iload_n (pc := 158) hx hb dX12_kick_158 rfl (lv_at hl 2 rfl) ?_
    refine lv_aload_n (pc := 159) hx hb dX12_kick_159 rfl (lv_at hl 1 rfl) ?_
    refine s_getI (pc := 160) F w ds_14 (j := 47) vc_X12 vi_X12 rfl (by decide) kf_X12_420 dX12_kick_160 ?_
    refine s_iast (pc := 163) F w ds_100 h dX12_kick_163 (fun S17 H locs h w => ?_)
    exact w_X12_kick_j164 F (Nat.le_trans (by decide) hR1) (Nat.le_trans (by decide) hR2) _ _ h _ _ _ w (lv_sub hl [1, 0] rfl)
set_option maxRecDepth 100000 in
set_option maxHeartbeats 4000000 in
theorem w_X12_kick_j69 {p : Program} {l : Launch} {e : Env} {R : Room} {s : State} {m : MethodId} {args : Array Value} {below : List Frame} {meth : Method} {c : Code} {dC : Nat → ClassId} {dI : Nat → Nat → Nat} {cs : Nat → ClassId} {ad : Nat → Nat} {A : Nat → Prop} {D0 : Nat → Nat} {S' : SS} {r : Int32} (F : Fx p s m args meth c cX12_kick 6 RX12 (some .int) dC dI cs A) (hR1 : 3 ≤ R.frames) (hR2 : 66 ≤ R.locals) (x1 : Int32) (x2 : Int32) (x3 : Int32) (S : SS) (h : f_X12_kick_j69 x1 x2 x3 S = some (r, S')) : AW p l e R s m args below meth c dC dI cs ad A D0 (some (.int r)) S' 6 69 [(0, .ref (ad 14)), (1, .int x1), (2, .int x2), (3, .int x3)] [] S := by
  have hx := F.1.1
  have hb := F.1.2.1
  intro H locs ls w hl
  rw [f_X12_kick_j69] at h
  refine lv_aload_n (pc := 69) hx hb dX12_kick_69 rfl (lv_at hl 0 rfl) ?_
  refine lv_iload_n (pc := 70) hx hb dX12_kick_70 rfl (lv_at hl 3 rfl) ?_
  obtain ⟨r6, S5, hc, h⟩ := bnd_t h
  refine s_cvi (pc := 71) [.int x3] (fun ad => [.ref (ad 14), .int x3]) F w (m_X12_ends _ _ _ _ hc) rfl rfl hl.1 ds_14 vc_X12 rfl ok_X12_ends rfl kc_X12_ends kl_X12_236 ki_X12_ends kv_X12_ends kn_X12 ⟨Nat.le_trans (by decide) hR1, Nat.le_trans (by decide) hR2⟩ ⟨Nat.zero_le _, Nat.zero_le _⟩ (Nat.le_of_ble_eq_true rfl) dX12_kick_71 (fun H locs w => ?_)
  refine lv_if_eq (pc := 74) (tgt := 86) hx hb dX12_kick_74 (by decide) (fun q => ?_) (fun q => ?_)
  · have h := ite_t q h
    refine lv_aload_n (pc := 86) hx hb dX12_kick_86 rfl (lv_at hl 0 rfl) ?_
    refine lv_iload_n (pc := 87) hx hb dX12_kick_87 rfl (lv_at hl 1 rfl) ?_
    obtain ⟨r8, S7, hc, h⟩ := bnd_t h
    refine s_cvi (pc := 88) [.int x1] (fun ad => [.ref (ad 14), .int x1]) F w (m_X12_heavy _ _ _ _ hc) rfl rfl hl.1 ds_14 vc_X12 rfl ok_X12_heavy rfl kc_X12_heavy kl_X12_417 ki_X12_heavy kv_X12_heavy kn_X12 ⟨Nat.le_trans (by decide) hR1, Nat.le_trans (by decide) hR2⟩ ⟨Nat.zero_le _, Nat.zero_le _⟩ (Nat.le_of_ble_eq_true rfl) dX12_kick_88 (fun H locs w => ?_)
    refine lv_bipush (pc := 91) (v := 40) hx hb dX12_kick_91 (by decide) ?_
    refine lv_idiv (pc := 93) hx hb dX12_kick_93 (by decide) ?_
    refine s_nm h (fun z9 ez9 h => ?_)
    rw [← ez9]
    refine lv_istore (pc := 94) (lv' := [(4, .int z9), (0, .ref (ad 14)), (1, .int x1), (2, .int x2), (3, .int x3)]) hx hb dX12_kick_94 hl (by decide) rfl (fun ls hl => ?_)
    refine lv_aload_n (pc := 96) hx hb dX12_kick_96 rfl (lv_at hl 1 rfl) ?_
    refine s_getR (pc := 97) F w 84 ds_14 (j := 25) vc_X12 vi_X12 rfl (by decide) kf_X12_66 dX12_kick_97 ?_
    refine lv_iload (pc := 100) hx hb dX12_kick_100 (lv_at hl 0 rfl) ?_
    refine lv_bipush (pc := 102) (v := 7) hx hb dX12_kick_102 (by decide) ?_
    refine lv_icmp_le (pc := 104) (tgt := 112) hx hb dX12_kick_104 (by decide) (fun q => ?_) (fun q => ?_)
    · have h := ite_t q h
      refine lv_iload (pc := 112) hx hb dX12_kick_112 (lv_at hl 0 rfl) ?_
      exact w_X12_kick_j114 F (Nat.le_trans (by decide) hR1) (Nat.le_trans (by decide) hR2) _ _ _ _ h _ _ _ w (lv_sub hl [1, 2, 3] rfl)
    · have h := ite_f q h
      refine lv_bipush (pc := 107) (v := 7) hx hb dX12_kick_107 (by decide) ?_
      refine lv_goto (pc := 109) (tgt := 114) hx hb dX12_kick_109 (by decide) ?_
      exact w_X12_kick_j114 F (Nat.le_trans (by decide) hR1) (Nat.le_trans (by decide) hR2) _ _ _ _ h _ _ _ w (lv_sub hl [1, 2, 3] rfl)
  · have h := ite_f q h
    refine lv_aload_n (pc := 77) hx hb dX12_kick_77 rfl (lv_at hl 0 rfl) ?_
    refine lv_bipush (pc := 78) (v := 9) hx hb dX12_kick_78 (by decide) ?_
    refine lv_bipush (pc := 80) (v := -2) hx hb dX12_kick_80 (by decide) ?_
    obtain ⟨r19, S18, hc, h⟩ := bnd_t h
    refine s_cvi (pc := 82) [.int (9 : Int32), .int (-2 : Int32)] (fun ad => [.ref (ad 14), .int (9 : Int32), .int (-2 : Int32)]) F w (m_X12_entered _ _ _ _ _ hc) rfl rfl hl.1 ds_14 vc_X12 rfl ok_X12_entered rfl kc_X12_entered kl_X12_349 ki_X12_entered kv_X12_entered kn_X12 ⟨Nat.le_trans (by decide) hR1, Nat.le_trans (by decide) hR2⟩ ⟨Nat.zero_le _, Nat.zero_le _⟩ (Nat.le_of_ble_eq_true rfl) dX12_kick_82 (fun H locs w => ?_)
    exact s_iret F w h dX12_kick_85
set_option maxRecDepth 100000 in
set_option maxHeartbeats 4000000 in
theorem w_X12_kick_j68 {p : Program} {l : Launch} {e : Env} {R : Room} {s : State} {m : MethodId} {args : Array Value} {below : List Frame} {meth : Method} {c : Code} {dC : Nat → ClassId} {dI : Nat → Nat → Nat} {cs : Nat → ClassId} {ad : Nat → Nat} {A : Nat → Prop} {D0 : Nat → Nat} {S' : SS} {r : Int32} (F : Fx p s m args meth c cX12_kick 6 RX12 (some .int) dC dI cs A) (hR1 : 3 ≤ R.frames) (hR2 : 66 ≤ R.locals) (x1 : Int32) (x2 : Int32) (y0 : Int32) (S : SS) (h : f_X12_kick_j68 x1 x2 y0 S = some (r, S')) : AW p l e R s m args below meth c dC dI cs ad A D0 (some (.int r)) S' 6 68 [(0, .ref (ad 14)), (1, .int x1), (2, .int x2)] [.int y0] S := by
  have hx := F.1.1
  have hb := F.1.2.1
  intro H locs ls w hl
  rw [f_X12_kick_j68] at h
  refine lv_istore_n (pc := 68) (lv' := [(3, .int y0), (0, .ref (ad 14)), (1, .int x1), (2, .int x2)]) hx hb dX12_kick_68 rfl hl (by decide) rfl (fun ls hl => ?_)
  exact w_X12_kick_j69 F (Nat.le_trans (by decide) hR1) (Nat.le_trans (by decide) hR2) _ _ _ _ h _ _ _ w (lv_sub hl [1, 2, 3, 0] rfl)
set_option maxRecDepth 100000 in
set_option maxHeartbeats 4000000 in
theorem w_X12_kick_j48 {p : Program} {l : Launch} {e : Env} {R : Room} {s : State} {m : MethodId} {args : Array Value} {below : List Frame} {meth : Method} {c : Code} {dC : Nat → ClassId} {dI : Nat → Nat → Nat} {cs : Nat → ClassId} {ad : Nat → Nat} {A : Nat → Prop} {D0 : Nat → Nat} {S' : SS} {r : Int32} (F : Fx p s m args meth c cX12_kick 6 RX12 (some .int) dC dI cs A) (hR1 : 3 ≤ R.frames) (hR2 : 66 ≤ R.locals) (x1 : Int32) (x2 : Int32) (S : SS) (h : f_X12_kick_j48 x1 x2 S = some (r, S')) : AW p l e R s m args below meth c dC dI cs ad A D0 (some (.int r)) S' 6 48 [(0, .ref (ad 14)), (1, .int x1), (2, .int x2)] [] S := by
  have hx := F.1.1
  have hb := F.1.2.1
  intro H locs ls w hl
  rw [f_X12_kick_j48] at h
  refine lv_bipush (pc := 48) (v := 14) hx hb dX12_kick_48 (by decide) ?_
  refine lv_goto (pc := 50) (tgt := 68) hx hb dX12_kick_50 (by decide) ?_
  exact w_X12_kick_j68 F (Nat.le_trans (by decide) hR1) (Nat.le_trans (by decide) hR2) _ _ _ _ h _ _ _ w (lv_sub hl [0, 1, 2] rfl)
set_option maxRecDepth 100000 in
set_option maxHeartbeats 4000000 in
theorem m_X12_kick (a1 : Int32) (a2 : Int32) (S S' : SS) (r : Int32) (h : f_X12_kick a1 a2 S = some (r, S')) : MT yX12_kick cX12_kick 6 (some .int) 3 69 (fun ad => [.ref (ad 14), .int a1, .int a2]) S (some (.int r)) S' := by
  refine MT.of RX12 (fun ad => [(0, .ref (ad 14)), (1, .int a1), (2, .int a2)]) (by decide) rfl (fun _ => Nat.le_of_ble_eq_true rfl) (fun _ => rfl) ?_
  intro p l e R s m args below meth c dC dI cs ad A hR1 hR2 F H locs ls w hl
  have hx := F.1.1
  have hb := F.1.2.1
  rw [f_X12_kick] at h
  refine lv_aload_n (pc := 0) hx hb dX12_kick_0 rfl (lv_at hl 0 rfl) ?_
  obtain ⟨S1, hc, h⟩ := bndv_t h
  refine s_cvv (pc := 1) [] (fun ad => [.ref (ad 14)]) F w (m_X12_begin  _ _ hc) rfl rfl hl.1 ds_14 vc_X12 rfl ok_X12_begin rfl kc_X12_begin kl_X12_226 ki_X12_begin kv_X12_begin kn_X12 ⟨Nat.le_trans (by decide) hR1, Nat.le_trans (by decide) hR2⟩ ⟨Nat.zero_le _, Nat.zero_le _⟩ (Nat.le_of_ble_eq_true rfl) dX12_kick_1 (fun H locs w => ?_)
  refine lv_aload_n (pc := 4) hx hb dX12_kick_4 rfl (lv_at hl 0 rfl) ?_
  obtain ⟨S2, hc, h⟩ := bndv_t h
  refine s_cvv (pc := 5) [] (fun ad => [.ref (ad 14)]) F w (m_X12_keep  _ _ hc) rfl rfl hl.1 ds_14 vc_X12 rfl ok_X12_keep rfl kc_X12_keep kl_X12_346 ki_X12_keep kv_X12_keep kn_X12 ⟨Nat.le_trans (by decide) hR1, Nat.le_trans (by decide) hR2⟩ ⟨Nat.zero_le _, Nat.zero_le _⟩ (Nat.le_of_ble_eq_true rfl) dX12_kick_5 (fun H locs w => ?_)
  refine lv_aload_n (pc := 8) hx hb dX12_kick_8 rfl (lv_at hl 0 rfl) ?_
  refine lv_iload_n (pc := 9) hx hb dX12_kick_9 rfl (lv_at hl 1 rfl) ?_
  refine lv_iconst (pc := 10) (v := 1) hx hb dX12_kick_10 (by decide) ?_
  refine lv_iload_n (pc := 11) hx hb dX12_kick_11 rfl (lv_at hl 2 rfl) ?_
  obtain ⟨r4, S3, hc, h⟩ := bnd_t h
  refine s_cvi (pc := 12) [.int a1, .int (1 : Int32), .int a2] (fun ad => [.ref (ad 14), .int a1, .int (1 : Int32), .int a2]) F w (m_X12_missSide _ _ _ _ _ _ hc) rfl rfl hl.1 ds_14 vc_X12 rfl ok_X12_missSide rfl kc_X12_missSide kl_X12_364 ki_X12_missSide kv_X12_missSide kn_X12 ⟨Nat.le_trans (by decide) hR1, Nat.le_trans (by decide) hR2⟩ ⟨Nat.zero_le _, Nat.zero_le _⟩ (Nat.le_of_ble_eq_true rfl) dX12_kick_12 (fun H locs w => ?_)
  refine lv_istore_n (pc := 15) (lv' := [(3, .int r4), (0, .ref (ad 14)), (1, .int a1), (2, .int a2)]) hx hb dX12_kick_15 rfl hl (by decide) rfl (fun ls hl => ?_)
  refine lv_iload_n (pc := 16) hx hb dX12_kick_16 rfl (lv_at hl 0 rfl) ?_
  refine lv_if_ne (pc := 17) (tgt := 69) hx hb dX12_kick_17 (by decide) (fun q => ?_) (fun q => ?_)
  · have h := ite_f q h
    exact w_X12_kick_j69 F (Nat.le_trans (by decide) hR1) (Nat.le_trans (by decide) hR2) _ _ _ _ h _ _ _ w (lv_sub hl [1, 2, 3, 0] rfl)
  · have h := ite_t q h
    refine lv_aload_n (pc := 20) hx hb dX12_kick_20 rfl (lv_at hl 1 rfl) ?_
    refine s_getR (pc := 21) F w 90 ds_14 (j := 35) vc_X12 vi_X12 rfl (by decide) kf_X12_84 dX12_kick_21 ?_
    refine lv_iconst (pc := 24) (v := 2) hx hb dX12_kick_24 (by decide) ?_
    refine lv_iload_n (pc := 25) hx hb dX12_kick_25 rfl (lv_at hl 2 rfl) ?_
    refine lv_imul (pc := 26) hx hb dX12_kick_26 ?_
    refine s_iald (pc := 27) F w ds_90 h dX12_kick_27 (fun h => ?_)
    refine lv_bipush (pc := 28) (v := -4) hx hb dX12_kick_28 (by decide) ?_
    refine lv_icmp_ne (pc := 30) (tgt := 48) hx hb dX12_kick_30 (by decide) (fun q => ?_) (fun q => ?_)
    · have h := ite_f q h
      exact w_X12_kick_j48 F (Nat.le_trans (by decide) hR1) (Nat.le_trans (by decide) hR2) _ _ _ h _ _ _ w (lv_sub hl [1, 2, 3] rfl)
    · have h := ite_t q h
      refine lv_aload_n (pc := 33) hx hb dX12_kick_33 rfl (lv_at hl 1 rfl) ?_
      refine s_getR (pc := 34) F w 90 ds_14 (j := 35) vc_X12 vi_X12 rfl (by decide) kf_X12_84 dX12_kick_34 ?_
      refine lv_iconst (pc := 37) (v := 2) hx hb dX12_kick_37 (by decide) ?_
      refine lv_iload_n (pc := 38) hx hb dX12_kick_38 rfl (lv_at hl 2 rfl) ?_
      refine lv_imul (pc := 39) hx hb dX12_kick_39 ?_
      refine lv_iconst (pc := 40) (v := 1) hx hb dX12_kick_40 (by decide) ?_
      refine lv_iadd (pc := 41) hx hb dX12_kick_41 ?_
      refine s_iald (pc := 42) F w ds_90 h dX12_kick_42 (fun h => ?_)
      refine lv_bipush (pc := 43) (v := -4) hx hb dX12_kick_43 (by decide) ?_
      refine lv_icmp_eq (pc := 45) (tgt := 53) hx hb dX12_kick_45 (by decide) (fun q => ?_) (fun q => ?_)
      · have h := ite_t q h
        refine lv_aload_n (pc := 53) hx hb dX12_kick_53 rfl (lv_at hl 1 rfl) ?_
        refine s_getR (pc := 54) F w 98 ds_14 (j := 43) vc_X12 vi_X12 rfl (by decide) kf_X12_108 dX12_kick_54 ?_
        refine lv_iload_n (pc := 57) hx hb dX12_kick_57 rfl (lv_at hl 2 rfl) ?_
        refine s_zald (pc := 58) F w ds_98 h dX12_kick_58 (fun h => ?_)
        refine lv_if_eq (pc := 59) (tgt := 67) hx hb dX12_kick_59 (by decide) (fun q => ?_) (fun q => ?_)
        · have h := ite_t q h
          refine lv_iconst (pc := 67) (v := 0) hx hb dX12_kick_67 (by decide) ?_
          exact w_X12_kick_j68 F (Nat.le_trans (by decide) hR1) (Nat.le_trans (by decide) hR2) _ _ _ _ h _ _ _ w (lv_sub hl [1, 2, 3] rfl)
        · have h := ite_f q h
          refine lv_bipush (pc := 62) (v := 16) hx hb dX12_kick_62 (by decide) ?_
          refine lv_goto (pc := 64) (tgt := 68) hx hb dX12_kick_64 (by decide) ?_
          exact w_X12_kick_j68 F (Nat.le_trans (by decide) hR1) (Nat.le_trans (by decide) hR2) _ _ _ _ h _ _ _ w (lv_sub hl [1, 2, 3] rfl)
      · have h := ite_f q h
        exact w_X12_kick_j48 F (Nat.le_trans (by decide) hR1) (Nat.le_trans (by decide) hR2) _ _ _ h _ _ _ w (lv_sub hl [1, 2, 3] rfl)
def f_X8_running  (S : SS) : Option (Int32 × SS) :=
  grd (inb (1 : Int32) 946) (
  some (S.1 19 (1 : Int32).toNatClampNeg, S))
theorem dX8_running_0 : decode cX8_running 0 = .ok (.aload_n 0, 1) := by decide +kernel
theorem dX8_running_1 : decode cX8_running 1 = .ok (.getfield 13, 3) := by decide +kernel
theorem dX8_running_4 : decode cX8_running 4 = .ok (.iconst 1, 1) := by decide +kernel
theorem dX8_running_5 : decode cX8_running 5 = .ok (.iaload, 1) := by decide +kernel
theorem dX8_running_6 : decode cX8_running 6 = .ok (.ireturn, 1) := by decide +kernel
set_option maxRecDepth 100000 in
set_option maxHeartbeats 4000000 in
theorem m_X8_running  (S S' : SS) (r : Int32) (h : f_X8_running  S = some (r, S')) : MT yX8_running cX8_running 1 (some .int) 0 0 (fun ad => [.ref (ad 2)]) S (some (.int r)) S' := by
  refine MT.of RX8 (fun ad => [(0, .ref (ad 2))]) (by decide) rfl (fun _ => Nat.le_of_ble_eq_true rfl) (fun _ => rfl) ?_
  intro p l e R s m args below meth c dC dI cs ad A hR1 hR2 F H locs ls w hl
  have hx := F.1.1
  have hb := F.1.2.1
  rw [f_X8_running] at h
  refine lv_aload_n (pc := 0) hx hb dX8_running_0 rfl (lv_at hl 0 rfl) ?_
  refine s_getR (pc := 1) F w 19 ds_2 (j := 0) vc_X8 vi_X8 rfl (by decide) kf_X8_13 dX8_running_1 ?_
  refine lv_iconst (pc := 4) (v := 1) hx hb dX8_running_4 (by decide) ?_
  refine s_iald (pc := 5) F w ds_19 h dX8_running_5 (fun h => ?_)
  exact s_iret F w h dX8_running_6
def f_X8_runner (a1 : Int32) (S : SS) : Option (Int32 × SS) :=
  if a1 < 0 then
    some ((-4 : Int32), S)
  else
    grd (inb (1 : Int32) 946) (
    if (S.1 19 (1 : Int32).toNatClampNeg) ≤ a1 then
      some ((-4 : Int32), S)
    else
      if a1 < (72 : Int32) then
        grd (inb ((2 : Int32) + a1) 946) (
        some (S.1 19 ((2 : Int32) + a1).toNatClampNeg, S))
      else
        some ((-4 : Int32), S))
theorem dX8_runner_0 : decode cX8_runner 0 = .ok (.iload_n 1, 1) := by decide +kernel
theorem dX8_runner_1 : decode cX8_runner 1 = .ok (.ifCond .lt 19, 3) := by decide +kernel
theorem dX8_runner_4 : decode cX8_runner 4 = .ok (.iload_n 1, 1) := by decide +kernel
theorem dX8_runner_5 : decode cX8_runner 5 = .ok (.aload_n 0, 1) := by decide +kernel
theorem dX8_runner_6 : decode cX8_runner 6 = .ok (.getfield 13, 3) := by decide +kernel
theorem dX8_runner_9 : decode cX8_runner 9 = .ok (.iconst 1, 1) := by decide +kernel
theorem dX8_runner_10 : decode cX8_runner 10 = .ok (.iaload, 1) := by decide +kernel
theorem dX8_runner_11 : decode cX8_runner 11 = .ok (.if_icmp .ge 9, 3) := by decide +kernel
theorem dX8_runner_14 : decode cX8_runner 14 = .ok (.iload_n 1, 1) := by decide +kernel
theorem dX8_runner_15 : decode cX8_runner 15 = .ok (.bipush 72, 2) := by decide +kernel
theorem dX8_runner_17 : decode cX8_runner 17 = .ok (.if_icmp .lt 8, 3) := by decide +kernel
theorem dX8_runner_20 : decode cX8_runner 20 = .ok (.bipush (-4), 2) := by decide +kernel
theorem dX8_runner_22 : decode cX8_runner 22 = .ok (.goto 11, 3) := by decide +kernel
theorem dX8_runner_25 : decode cX8_runner 25 = .ok (.aload_n 0, 1) := by decide +kernel
theorem dX8_runner_26 : decode cX8_runner 26 = .ok (.getfield 13, 3) := by decide +kernel
theorem dX8_runner_29 : decode cX8_runner 29 = .ok (.iconst 2, 1) := by decide +kernel
theorem dX8_runner_30 : decode cX8_runner 30 = .ok (.iload_n 1, 1) := by decide +kernel
theorem dX8_runner_31 : decode cX8_runner 31 = .ok (.iadd, 1) := by decide +kernel
theorem dX8_runner_32 : decode cX8_runner 32 = .ok (.iaload, 1) := by decide +kernel
theorem dX8_runner_33 : decode cX8_runner 33 = .ok (.ireturn, 1) := by decide +kernel
set_option maxRecDepth 100000 in
set_option maxHeartbeats 4000000 in
theorem m_X8_runner (a1 : Int32) (S S' : SS) (r : Int32) (h : f_X8_runner a1 S = some (r, S')) : MT yX8_runner cX8_runner 2 (some .int) 0 0 (fun ad => [.ref (ad 2), .int a1]) S (some (.int r)) S' := by
  refine MT.of RX8 (fun ad => [(0, .ref (ad 2)), (1, .int a1)]) (by decide) rfl (fun _ => Nat.le_of_ble_eq_true rfl) (fun _ => rfl) ?_
  intro p l e R s m args below meth c dC dI cs ad A hR1 hR2 F H locs ls w hl
  have hx := F.1.1
  have hb := F.1.2.1
  rw [f_X8_runner] at h
  refine lv_iload_n (pc := 0) hx hb dX8_runner_0 rfl (lv_at hl 1 rfl) ?_
  refine lv_if_lt (pc := 1) (tgt := 20) hx hb dX8_runner_1 (by decide) (fun q => ?_) (fun q => ?_)
  · have h := ite_t q h
    refine lv_bipush (pc := 20) (v := -4) hx hb dX8_runner_20 (by decide) ?_
    refine lv_goto (pc := 22) (tgt := 33) hx hb dX8_runner_22 (by decide) ?_
    exact s_iret F w h dX8_runner_33
  · have h := ite_f q h
    refine lv_iload_n (pc := 4) hx hb dX8_runner_4 rfl (lv_at hl 1 rfl) ?_
    refine lv_aload_n (pc := 5) hx hb dX8_runner_5 rfl (lv_at hl 0 rfl) ?_
    refine s_getR (pc := 6) F w 19 ds_2 (j := 0) vc_X8 vi_X8 rfl (by decide) kf_X8_13 dX8_runner_6 ?_
    refine lv_iconst (pc := 9) (v := 1) hx hb dX8_runner_9 (by decide) ?_
    refine s_iald (pc := 10) F w ds_19 h dX8_runner_10 (fun h => ?_)
    refine lv_icmp_ge (pc := 11) (tgt := 20) hx hb dX8_runner_11 (by decide) (fun q => ?_) (fun q => ?_)
    · have h := ite_t q h
      refine lv_bipush (pc := 20) (v := -4) hx hb dX8_runner_20 (by decide) ?_
      refine lv_goto (pc := 22) (tgt := 33) hx hb dX8_runner_22 (by decide) ?_
      exact s_iret F w h dX8_runner_33
    · have h := ite_f q h
      refine lv_iload_n (pc := 14) hx hb dX8_runner_14 rfl (lv_at hl 1 rfl) ?_
      refine lv_bipush (pc := 15) (v := 72) hx hb dX8_runner_15 (by decide) ?_
      refine lv_icmp_lt (pc := 17) (tgt := 25) hx hb dX8_runner_17 (by decide) (fun q => ?_) (fun q => ?_)
      · have h := ite_t q h
        refine lv_aload_n (pc := 25) hx hb dX8_runner_25 rfl (lv_at hl 0 rfl) ?_
        refine s_getR (pc := 26) F w 19 ds_2 (j := 0) vc_X8 vi_X8 rfl (by decide) kf_X8_13 dX8_runner_26 ?_
        refine lv_iconst (pc := 29) (v := 2) hx hb dX8_runner_29 (by decide) ?_
        refine lv_iload_n (pc := 30) hx hb dX8_runner_30 rfl (lv_at hl 1 rfl) ?_
        refine lv_iadd (pc := 31) hx hb dX8_runner_31 ?_
        refine s_iald (pc := 32) F w ds_19 h dX8_runner_32 (fun h => ?_)
        exact s_iret F w h dX8_runner_33
      · have h := ite_f q h
        refine lv_bipush (pc := 20) (v := -4) hx hb dX8_runner_20 (by decide) ?_
        refine lv_goto (pc := 22) (tgt := 33) hx hb dX8_runner_22 (by decide) ?_
        exact s_iret F w h dX8_runner_33
def f_X8_addDamp  (S : SS) : Option (SS) :=
  grd (inb (0 : Int32) 946) (
  grd (inb (0 : Int32) 946) (wr S 19 (0 : Int32).toNatClampNeg ((S.1 19 (0 : Int32).toNatClampNeg) + (1 : Int32)) (fun S1 =>
  some S1)))
theorem dX8_addDamp_0 : decode cX8_addDamp 0 = .ok (.aload_n 0, 1) := by decide +kernel
theorem dX8_addDamp_1 : decode cX8_addDamp 1 = .ok (.getfield 13, 3) := by decide +kernel
theorem dX8_addDamp_4 : decode cX8_addDamp 4 = .ok (.iconst 0, 1) := by decide +kernel
theorem dX8_addDamp_5 : decode cX8_addDamp 5 = .ok (.dup2, 1) := by decide +kernel
theorem dX8_addDamp_6 : decode cX8_addDamp 6 = .ok (.iaload, 1) := by decide +kernel
theorem dX8_addDamp_7 : decode cX8_addDamp 7 = .ok (.iconst 1, 1) := by decide +kernel
theorem dX8_addDamp_8 : decode cX8_addDamp 8 = .ok (.iadd, 1) := by decide +kernel
theorem dX8_addDamp_9 : decode cX8_addDamp 9 = .ok (.iastore, 1) := by decide +kernel
theorem dX8_addDamp_10 : decode cX8_addDamp 10 = .ok (.return_, 1) := by decide +kernel
set_option maxRecDepth 100000 in
set_option maxHeartbeats 4000000 in
theorem m_X8_addDamp  (S S' : SS) (h : f_X8_addDamp  S = some S') : MT yX8_addDamp cX8_addDamp 1 none 0 0 (fun ad => [.ref (ad 2)]) S none S' := by
  refine MT.of RX8 (fun ad => [(0, .ref (ad 2))]) (by decide) rfl (fun _ => Nat.le_of_ble_eq_true rfl) (fun _ => rfl) ?_
  intro p l e R s m args below meth c dC dI cs ad A hR1 hR2 F H locs ls w hl
  have hx := F.1.1
  have hb := F.1.2.1
  rw [f_X8_addDamp] at h
  refine lv_aload_n (pc := 0) hx hb dX8_addDamp_0 rfl (lv_at hl 0 rfl) ?_
  refine s_getR (pc := 1) F w 19 ds_2 (j := 0) vc_X8 vi_X8 rfl (by decide) kf_X8_13 dX8_addDamp_1 ?_
  refine lv_iconst (pc := 4) (v := 0) hx hb dX8_addDamp_4 (by decide) ?_
  refine lv_dup2_11 (pc := 5) hx hb dX8_addDamp_5 rfl rfl ?_
  refine s_iald (pc := 6) F w ds_19 h dX8_addDamp_6 (fun h => ?_)
  refine lv_iconst (pc := 7) (v := 1) hx hb dX8_addDamp_7 (by decide) ?_
  refine lv_iadd (pc := 8) hx hb dX8_addDamp_8 ?_
  refine s_iast (pc := 9) F w ds_19 h dX8_addDamp_9 (fun S1 H locs h w => ?_)
  exact s_vret F w h dX8_addDamp_10
def f_X10_runsOn_j86  (x1 : Int32) (S : SS) : Option (Int32 × SS) :=
    bnd (f_X8_get x1 (8 : Int32) S) (fun r11 S10 =>
    nm (r11 - (1 : Int32)) (fun z12 =>
    bndv (f_X8_set x1 (8 : Int32) z12 S10) (fun S13 =>
    if z12 ≤ 0 then
      some ((0 : Int32), S13)
    else
      some ((1 : Int32), S13))))
def f_X10_runsOn (a1 : Int32) (S : SS) : Option (Int32 × SS) :=
  bnd (f_X8_get a1 (9 : Int32) S) (fun r2 S1 =>
  nm (((2 : Int32) * a1) + r2) (fun z3 =>
  bnd (f_X10_nextFrom z3 S1) (fun r5 S4 =>
  if r5 = (-4 : Int32) then
    some ((0 : Int32), S4)
  else
    bnd (f_X8_standsAt (r5 >>> ((1 : Int32) &&& 31)) S4) (fun r7 S6 =>
    if r7 = (-4 : Int32) then
      bndv (f_X8_goTo z3 (r5 >>> ((1 : Int32) &&& 31)) (r5 &&& (1 : Int32)) S6) (fun S15 =>
      f_X10_runsOn_j86 a1 S15)
    else
      bnd (f_X8_isRunning r7 S6) (fun r9 S8 =>
      if r9 = 0 then
        bndv (f_X8_addDamp  S8) (fun S14 =>
        some ((0 : Int32), S14))
      else
        f_X10_runsOn_j86 a1 S8)))))
theorem dX10_runsOn_0 : decode cX10_runsOn 0 = .ok (.iconst 2, 1) := by decide +kernel
theorem dX10_runsOn_1 : decode cX10_runsOn 1 = .ok (.iload_n 1, 1) := by decide +kernel
theorem dX10_runsOn_2 : decode cX10_runsOn 2 = .ok (.imul, 1) := by decide +kernel
theorem dX10_runsOn_3 : decode cX10_runsOn 3 = .ok (.aload_n 0, 1) := by decide +kernel
theorem dX10_runsOn_4 : decode cX10_runsOn 4 = .ok (.getfield 24, 3) := by decide +kernel
theorem dX10_runsOn_7 : decode cX10_runsOn 7 = .ok (.iload_n 1, 1) := by decide +kernel
theorem dX10_runsOn_8 : decode cX10_runsOn 8 = .ok (.bipush 9, 2) := by decide +kernel
theorem dX10_runsOn_10 : decode cX10_runsOn 10 = .ok (.invokevirtual 36, 3) := by decide +kernel
theorem dX10_runsOn_13 : decode cX10_runsOn 13 = .ok (.iadd, 1) := by decide +kernel
theorem dX10_runsOn_14 : decode cX10_runsOn 14 = .ok (.istore_n 2, 1) := by decide +kernel
theorem dX10_runsOn_15 : decode cX10_runsOn 15 = .ok (.aload_n 0, 1) := by decide +kernel
theorem dX10_runsOn_16 : decode cX10_runsOn 16 = .ok (.iload_n 2, 1) := by decide +kernel
theorem dX10_runsOn_17 : decode cX10_runsOn 17 = .ok (.invokevirtual 99, 3) := by decide +kernel
theorem dX10_runsOn_20 : decode cX10_runsOn 20 = .ok (.istore_n 3, 1) := by decide +kernel
theorem dX10_runsOn_21 : decode cX10_runsOn 21 = .ok (.iload_n 3, 1) := by decide +kernel
theorem dX10_runsOn_22 : decode cX10_runsOn 22 = .ok (.bipush (-4), 2) := by decide +kernel
theorem dX10_runsOn_24 : decode cX10_runsOn 24 = .ok (.if_icmp .ne 5, 3) := by decide +kernel
theorem dX10_runsOn_27 : decode cX10_runsOn 27 = .ok (.iconst 0, 1) := by decide +kernel
theorem dX10_runsOn_28 : decode cX10_runsOn 28 = .ok (.ireturn, 1) := by decide +kernel
theorem dX10_runsOn_29 : decode cX10_runsOn 29 = .ok (.aload_n 0, 1) := by decide +kernel
theorem dX10_runsOn_30 : decode cX10_runsOn 30 = .ok (.getfield 24, 3) := by decide +kernel
theorem dX10_runsOn_33 : decode cX10_runsOn 33 = .ok (.iload_n 3, 1) := by decide +kernel
theorem dX10_runsOn_34 : decode cX10_runsOn 34 = .ok (.iconst 1, 1) := by decide +kernel
theorem dX10_runsOn_35 : decode cX10_runsOn 35 = .ok (.ishr, 1) := by decide +kernel
theorem dX10_runsOn_36 : decode cX10_runsOn 36 = .ok (.invokevirtual 62, 3) := by decide +kernel
theorem dX10_runsOn_39 : decode cX10_runsOn 39 = .ok (.istore 4, 2) := by decide +kernel
theorem dX10_runsOn_41 : decode cX10_runsOn 41 = .ok (.iload 4, 2) := by decide +kernel
theorem dX10_runsOn_43 : decode cX10_runsOn 43 = .ok (.bipush (-4), 2) := by decide +kernel
theorem dX10_runsOn_45 : decode cX10_runsOn 45 = .ok (.if_icmp .ne 20, 3) := by decide +kernel
theorem dX10_runsOn_48 : decode cX10_runsOn 48 = .ok (.aload_n 0, 1) := by decide +kernel
theorem dX10_runsOn_49 : decode cX10_runsOn 49 = .ok (.getfield 24, 3) := by decide +kernel
theorem dX10_runsOn_52 : decode cX10_runsOn 52 = .ok (.iload_n 2, 1) := by decide +kernel
theorem dX10_runsOn_53 : decode cX10_runsOn 53 = .ok (.iload_n 3, 1) := by decide +kernel
theorem dX10_runsOn_54 : decode cX10_runsOn 54 = .ok (.iconst 1, 1) := by decide +kernel
theorem dX10_runsOn_55 : decode cX10_runsOn 55 = .ok (.ishr, 1) := by decide +kernel
theorem dX10_runsOn_56 : decode cX10_runsOn 56 = .ok (.iload_n 3, 1) := by decide +kernel
theorem dX10_runsOn_57 : decode cX10_runsOn 57 = .ok (.iconst 1, 1) := by decide +kernel
theorem dX10_runsOn_58 : decode cX10_runsOn 58 = .ok (.iand, 1) := by decide +kernel
theorem dX10_runsOn_59 : decode cX10_runsOn 59 = .ok (.invokevirtual 108, 3) := by decide +kernel
theorem dX10_runsOn_62 : decode cX10_runsOn 62 = .ok (.goto 24, 3) := by decide +kernel
theorem dX10_runsOn_65 : decode cX10_runsOn 65 = .ok (.aload_n 0, 1) := by decide +kernel
theorem dX10_runsOn_66 : decode cX10_runsOn 66 = .ok (.getfield 24, 3) := by decide +kernel
theorem dX10_runsOn_69 : decode cX10_runsOn 69 = .ok (.iload 4, 2) := by decide +kernel
theorem dX10_runsOn_71 : decode cX10_runsOn 71 = .ok (.invokevirtual 69, 3) := by decide +kernel
theorem dX10_runsOn_74 : decode cX10_runsOn 74 = .ok (.ifCond .ne 12, 3) := by decide +kernel
theorem dX10_runsOn_77 : decode cX10_runsOn 77 = .ok (.aload_n 0, 1) := by decide +kernel
theorem dX10_runsOn_78 : decode cX10_runsOn 78 = .ok (.getfield 24, 3) := by decide +kernel
theorem dX10_runsOn_81 : decode cX10_runsOn 81 = .ok (.invokevirtual 134, 3) := by decide +kernel
theorem dX10_runsOn_84 : decode cX10_runsOn 84 = .ok (.iconst 0, 1) := by decide +kernel
theorem dX10_runsOn_85 : decode cX10_runsOn 85 = .ok (.ireturn, 1) := by decide +kernel
theorem dX10_runsOn_86 : decode cX10_runsOn 86 = .ok (.aload_n 0, 1) := by decide +kernel
theorem dX10_runsOn_87 : decode cX10_runsOn 87 = .ok (.getfield 24, 3) := by decide +kernel
theorem dX10_runsOn_90 : decode cX10_runsOn 90 = .ok (.iload_n 1, 1) := by decide +kernel
theorem dX10_runsOn_91 : decode cX10_runsOn 91 = .ok (.bipush 8, 2) := by decide +kernel
theorem dX10_runsOn_93 : decode cX10_runsOn 93 = .ok (.invokevirtual 36, 3) := by decide +kernel
theorem dX10_runsOn_96 : decode cX10_runsOn 96 = .ok (.iconst 1, 1) := by decide +kernel
theorem dX10_runsOn_97 : decode cX10_runsOn 97 = .ok (.isub, 1) := by decide +kernel
theorem dX10_runsOn_98 : decode cX10_runsOn 98 = .ok (.istore 5, 2) := by decide +kernel
theorem dX10_runsOn_100 : decode cX10_runsOn 100 = .ok (.aload_n 0, 1) := by decide +kernel
theorem dX10_runsOn_101 : decode cX10_runsOn 101 = .ok (.getfield 24, 3) := by decide +kernel
theorem dX10_runsOn_104 : decode cX10_runsOn 104 = .ok (.iload_n 1, 1) := by decide +kernel
theorem dX10_runsOn_105 : decode cX10_runsOn 105 = .ok (.bipush 8, 2) := by decide +kernel
theorem dX10_runsOn_107 : decode cX10_runsOn 107 = .ok (.iload 5, 2) := by decide +kernel
theorem dX10_runsOn_109 : decode cX10_runsOn 109 = .ok (.invokevirtual 50, 3) := by decide +kernel
theorem dX10_runsOn_112 : decode cX10_runsOn 112 = .ok (.iload 5, 2) := by decide +kernel
theorem dX10_runsOn_114 : decode cX10_runsOn 114 = .ok (.ifCond .le 7, 3) := by decide +kernel
theorem dX10_runsOn_117 : decode cX10_runsOn 117 = .ok (.iconst 1, 1) := by decide +kernel
theorem dX10_runsOn_118 : decode cX10_runsOn 118 = .ok (.goto 4, 3) := by decide +kernel
theorem dX10_runsOn_121 : decode cX10_runsOn 121 = .ok (.iconst 0, 1) := by decide +kernel
theorem dX10_runsOn_122 : decode cX10_runsOn 122 = .ok (.ireturn, 1) := by decide +kernel
set_option maxRecDepth 100000 in
set_option maxHeartbeats 4000000 in
theorem w_X10_runsOn_j86 {p : Program} {l : Launch} {e : Env} {R : Room} {s : State} {m : MethodId} {args : Array Value} {below : List Frame} {meth : Method} {c : Code} {dC : Nat → ClassId} {dI : Nat → Nat → Nat} {cs : Nat → ClassId} {ad : Nat → Nat} {A : Nat → Prop} {D0 : Nat → Nat} {S' : SS} {r : Int32} (F : Fx p s m args meth c cX10_runsOn 6 RX10 (some .boolean) dC dI cs A) (hR1 : 1 ≤ R.frames) (hR2 : 23 ≤ R.locals) (x1 : Int32) (S : SS) (h : f_X10_runsOn_j86 x1 S = some (r, S')) : AW p l e R s m args below meth c dC dI cs ad A D0 (some (.int r)) S' 6 86 [(0, .ref (ad 7)), (1, .int x1)] [] S := by
  have hx := F.1.1
  have hb := F.1.2.1
  intro H locs ls w hl
  rw [f_X10_runsOn_j86] at h
  refine lv_aload_n (pc := 86) hx hb dX10_runsOn_86 rfl (lv_at hl 0 rfl) ?_
  refine s_getR (pc := 87) F w 2 ds_7 (j := 0) vc_X10 vi_X10 rfl (by decide) kf_X10_24 dX10_runsOn_87 ?_
  refine lv_iload_n (pc := 90) hx hb dX10_runsOn_90 rfl (lv_at hl 1 rfl) ?_
  refine lv_bipush (pc := 91) (v := 8) hx hb dX10_runsOn_91 (by decide) ?_
  obtain ⟨r11, S10, hc, h⟩ := bnd_t h
  refine s_cvi (pc := 93) [.int x1, .int (8 : Int32)] (fun ad => [.ref (ad 2), .int x1, .int (8 : Int32)]) F w (m_X8_get _ _ _ _ _ hc) rfl rfl hl.1 ds_2 vc_X8 rfl ok_X8_get rfl kc_X8_get kl_X10_36 ki_X8_get kv_X8_get kn_X8 ⟨Nat.le_trans (by decide) hR1, Nat.le_trans (by decide) hR2⟩ ⟨Nat.zero_le _, Nat.zero_le _⟩ (Nat.le_of_ble_eq_true rfl) dX10_runsOn_93 (fun H locs w => ?_)
  refine lv_iconst (pc := 96) (v := 1) hx hb dX10_runsOn_96 (by decide) ?_
  refine lv_isub (pc := 97) hx hb dX10_runsOn_97 ?_
  refine s_nm h (fun z12 ez12 h => ?_)
  rw [← ez12]
  refine lv_istore (pc := 98) (lv' := [(5, .int z12), (0, .ref (ad 7)), (1, .int x1)]) hx hb dX10_runsOn_98 hl (by decide) rfl (fun ls hl => ?_)
  refine lv_aload_n (pc := 100) hx hb dX10_runsOn_100 rfl (lv_at hl 1 rfl) ?_
  refine s_getR (pc := 101) F w 2 ds_7 (j := 0) vc_X10 vi_X10 rfl (by decide) kf_X10_24 dX10_runsOn_101 ?_
  refine lv_iload_n (pc := 104) hx hb dX10_runsOn_104 rfl (lv_at hl 2 rfl) ?_
  refine lv_bipush (pc := 105) (v := 8) hx hb dX10_runsOn_105 (by decide) ?_
  refine lv_iload (pc := 107) hx hb dX10_runsOn_107 (lv_at hl 0 rfl) ?_
  obtain ⟨S13, hc, h⟩ := bndv_t h
  refine s_cvv (pc := 109) [.int x1, .int (8 : Int32), .int z12] (fun ad => [.ref (ad 2), .int x1, .int (8 : Int32), .int z12]) F w (m_X8_set _ _ _ _ _ hc) rfl rfl hl.1 ds_2 vc_X8 rfl ok_X8_set rfl kc_X8_set kl_X10_50 ki_X8_set kv_X8_set kn_X8 ⟨Nat.le_trans (by decide) hR1, Nat.le_trans (by decide) hR2⟩ ⟨Nat.zero_le _, Nat.zero_le _⟩ (Nat.le_of_ble_eq_true rfl) dX10_runsOn_109 (fun H locs w => ?_)
  refine lv_iload (pc := 112) hx hb dX10_runsOn_112 (lv_at hl 0 rfl) ?_
  refine lv_if_le (pc := 114) (tgt := 121) hx hb dX10_runsOn_114 (by decide) (fun q => ?_) (fun q => ?_)
  · have h := ite_t q h
    refine lv_iconst (pc := 121) (v := 0) hx hb dX10_runsOn_121 (by decide) ?_
    exact s_zretc F w rfl h dX10_runsOn_122
  · have h := ite_f q h
    refine lv_iconst (pc := 117) (v := 1) hx hb dX10_runsOn_117 (by decide) ?_
    refine lv_goto (pc := 118) (tgt := 122) hx hb dX10_runsOn_118 (by decide) ?_
    exact s_zretc F w rfl h dX10_runsOn_122
set_option maxRecDepth 100000 in
set_option maxHeartbeats 4000000 in
theorem m_X10_runsOn (a1 : Int32) (S S' : SS) (r : Int32) (h : f_X10_runsOn a1 S = some (r, S')) : MT yX10_runsOn cX10_runsOn 6 (some .boolean) 4 90 (fun ad => [.ref (ad 7), .int a1]) S (some (.int r)) S' := by
  refine MT.of RX10 (fun ad => [(0, .ref (ad 7)), (1, .int a1)]) (by decide) rfl (fun _ => Nat.le_of_ble_eq_true rfl) (fun _ => rfl) ?_
  intro p l e R s m args below meth c dC dI cs ad A hR1 hR2 F H locs ls w hl
  have hx := F.1.1
  have hb := F.1.2.1
  rw [f_X10_runsOn] at h
  refine lv_iconst (pc := 0) (v := 2) hx hb dX10_runsOn_0 (by decide) ?_
  refine lv_iload_n (pc := 1) hx hb dX10_runsOn_1 rfl (lv_at hl 1 rfl) ?_
  refine lv_imul (pc := 2) hx hb dX10_runsOn_2 ?_
  refine lv_aload_n (pc := 3) hx hb dX10_runsOn_3 rfl (lv_at hl 0 rfl) ?_
  refine s_getR (pc := 4) F w 2 ds_7 (j := 0) vc_X10 vi_X10 rfl (by decide) kf_X10_24 dX10_runsOn_4 ?_
  refine lv_iload_n (pc := 7) hx hb dX10_runsOn_7 rfl (lv_at hl 1 rfl) ?_
  refine lv_bipush (pc := 8) (v := 9) hx hb dX10_runsOn_8 (by decide) ?_
  obtain ⟨r2, S1, hc, h⟩ := bnd_t h
  refine s_cvi (pc := 10) [.int a1, .int (9 : Int32)] (fun ad => [.ref (ad 2), .int a1, .int (9 : Int32)]) F w (m_X8_get _ _ _ _ _ hc) rfl rfl hl.1 ds_2 vc_X8 rfl ok_X8_get rfl kc_X8_get kl_X10_36 ki_X8_get kv_X8_get kn_X8 ⟨Nat.le_trans (by decide) hR1, Nat.le_trans (by decide) hR2⟩ ⟨Nat.zero_le _, Nat.zero_le _⟩ (Nat.le_of_ble_eq_true rfl) dX10_runsOn_10 (fun H locs w => ?_)
  refine lv_iadd (pc := 13) hx hb dX10_runsOn_13 ?_
  refine s_nm h (fun z3 ez3 h => ?_)
  rw [← ez3]
  refine lv_istore_n (pc := 14) (lv' := [(2, .int z3), (0, .ref (ad 7)), (1, .int a1)]) hx hb dX10_runsOn_14 rfl hl (by decide) rfl (fun ls hl => ?_)
  refine lv_aload_n (pc := 15) hx hb dX10_runsOn_15 rfl (lv_at hl 1 rfl) ?_
  refine lv_iload_n (pc := 16) hx hb dX10_runsOn_16 rfl (lv_at hl 0 rfl) ?_
  obtain ⟨r5, S4, hc, h⟩ := bnd_t h
  refine s_cvi (pc := 17) [.int z3] (fun ad => [.ref (ad 7), .int z3]) F w (m_X10_nextFrom _ _ _ _ hc) rfl rfl hl.1 ds_7 vc_X10 rfl ok_X10_nextFrom rfl kc_X10_nextFrom kl_X10_99 ki_X10_nextFrom kv_X10_nextFrom kn_X10 ⟨Nat.le_trans (by decide) hR1, Nat.le_trans (by decide) hR2⟩ ⟨Nat.zero_le _, Nat.zero_le _⟩ (Nat.le_of_ble_eq_true rfl) dX10_runsOn_17 (fun H locs w => ?_)
  refine lv_istore_n (pc := 20) (lv' := [(3, .int r5), (2, .int z3), (0, .ref (ad 7)), (1, .int a1)]) hx hb dX10_runsOn_20 rfl hl (by decide) rfl (fun ls hl => ?_)
  refine lv_iload_n (pc := 21) hx hb dX10_runsOn_21 rfl (lv_at hl 0 rfl) ?_
  refine lv_bipush (pc := 22) (v := -4) hx hb dX10_runsOn_22 (by decide) ?_
  refine lv_icmp_ne (pc := 24) (tgt := 29) hx hb dX10_runsOn_24 (by decide) (fun q => ?_) (fun q => ?_)
  · have h := ite_f q h
    refine lv_aload_n (pc := 29) hx hb dX10_runsOn_29 rfl (lv_at hl 2 rfl) ?_
    refine s_getR (pc := 30) F w 2 ds_7 (j := 0) vc_X10 vi_X10 rfl (by decide) kf_X10_24 dX10_runsOn_30 ?_
    refine lv_iload_n (pc := 33) hx hb dX10_runsOn_33 rfl (lv_at hl 0 rfl) ?_
    refine lv_iconst (pc := 34) (v := 1) hx hb dX10_runsOn_34 (by decide) ?_
    refine lv_ishr (pc := 35) hx hb dX10_runsOn_35 ?_
    obtain ⟨r7, S6, hc, h⟩ := bnd_t h
    refine s_cvi (pc := 36) [.int (r5 >>> ((1 : Int32) &&& 31))] (fun ad => [.ref (ad 2), .int (r5 >>> ((1 : Int32) &&& 31))]) F w (m_X8_standsAt _ _ _ _ hc) rfl rfl hl.1 ds_2 vc_X8 rfl ok_X8_standsAt rfl kc_X8_standsAt kl_X10_62 ki_X8_standsAt kv_X8_standsAt kn_X8 ⟨Nat.le_trans (by decide) hR1, Nat.le_trans (by decide) hR2⟩ ⟨Nat.zero_le _, Nat.zero_le _⟩ (Nat.le_of_ble_eq_true rfl) dX10_runsOn_36 (fun H locs w => ?_)
    refine lv_istore (pc := 39) (lv' := [(4, .int r7), (3, .int r5), (2, .int z3), (0, .ref (ad 7)), (1, .int a1)]) hx hb dX10_runsOn_39 hl (by decide) rfl (fun ls hl => ?_)
    refine lv_iload (pc := 41) hx hb dX10_runsOn_41 (lv_at hl 0 rfl) ?_
    refine lv_bipush (pc := 43) (v := -4) hx hb dX10_runsOn_43 (by decide) ?_
    refine lv_icmp_ne (pc := 45) (tgt := 65) hx hb dX10_runsOn_45 (by decide) (fun q => ?_) (fun q => ?_)
    · have h := ite_f q h
      refine lv_aload_n (pc := 65) hx hb dX10_runsOn_65 rfl (lv_at hl 3 rfl) ?_
      refine s_getR (pc := 66) F w 2 ds_7 (j := 0) vc_X10 vi_X10 rfl (by decide) kf_X10_24 dX10_runsOn_66 ?_
      refine lv_iload (pc := 69) hx hb dX10_runsOn_69 (lv_at hl 0 rfl) ?_
      obtain ⟨r9, S8, hc, h⟩ := bnd_t h
      refine s_cvi (pc := 71) [.int r7] (fun ad => [.ref (ad 2), .int r7]) F w (m_X8_isRunning _ _ _ _ hc) rfl rfl hl.1 ds_2 vc_X8 rfl ok_X8_isRunning rfl kc_X8_isRunning kl_X10_69 ki_X8_isRunning kv_X8_isRunning kn_X8 ⟨Nat.le_trans (by decide) hR1, Nat.le_trans (by decide) hR2⟩ ⟨Nat.zero_le _, Nat.zero_le _⟩ (Nat.le_of_ble_eq_true rfl) dX10_runsOn_71 (fun H locs w => ?_)
      refine lv_if_ne (pc := 74) (tgt := 86) hx hb dX10_runsOn_74 (by decide) (fun q => ?_) (fun q => ?_)
      · have h := ite_f q h
        exact w_X10_runsOn_j86 F (Nat.le_trans (by decide) hR1) (Nat.le_trans (by decide) hR2) _ _ h _ _ _ w (lv_sub hl [3, 4] rfl)
      · have h := ite_t q h
        refine lv_aload_n (pc := 77) hx hb dX10_runsOn_77 rfl (lv_at hl 3 rfl) ?_
        refine s_getR (pc := 78) F w 2 ds_7 (j := 0) vc_X10 vi_X10 rfl (by decide) kf_X10_24 dX10_runsOn_78 ?_
        obtain ⟨S14, hc, h⟩ := bndv_t h
        refine s_cvv (pc := 81) [] (fun ad => [.ref (ad 2)]) F w (m_X8_addDamp  _ _ hc) rfl rfl hl.1 ds_2 vc_X8 rfl ok_X8_addDamp rfl kc_X8_addDamp kl_X10_134 ki_X8_addDamp kv_X8_addDamp kn_X8 ⟨Nat.le_trans (by decide) hR1, Nat.le_trans (by decide) hR2⟩ ⟨Nat.zero_le _, Nat.zero_le _⟩ (Nat.le_of_ble_eq_true rfl) dX10_runsOn_81 (fun H locs w => ?_)
        refine lv_iconst (pc := 84) (v := 0) hx hb dX10_runsOn_84 (by decide) ?_
        exact s_zretc F w rfl h dX10_runsOn_85
    · have h := ite_t q h
      refine lv_aload_n (pc := 48) hx hb dX10_runsOn_48 rfl (lv_at hl 3 rfl) ?_
      refine s_getR (pc := 49) F w 2 ds_7 (j := 0) vc_X10 vi_X10 rfl (by decide) kf_X10_24 dX10_runsOn_49 ?_
      refine lv_iload_n (pc := 52) hx hb dX10_runsOn_52 rfl (lv_at hl 2 rfl) ?_
      refine lv_iload_n (pc := 53) hx hb dX10_runsOn_53 rfl (lv_at hl 1 rfl) ?_
      refine lv_iconst (pc := 54) (v := 1) hx hb dX10_runsOn_54 (by decide) ?_
      refine lv_ishr (pc := 55) hx hb dX10_runsOn_55 ?_
      refine lv_iload_n (pc := 56) hx hb dX10_runsOn_56 rfl (lv_at hl 1 rfl) ?_
      refine lv_iconst (pc := 57) (v := 1) hx hb dX10_runsOn_57 (by decide) ?_
      refine lv_iand (pc := 58) hx hb dX10_runsOn_58 ?_
      obtain ⟨S15, hc, h⟩ := bndv_t h
      refine s_cvv (pc := 59) [.int z3, .int (r5 >>> ((1 : Int32) &&& 31)), .int (r5 &&& (1 : Int32))] (fun ad => [.ref (ad 2), .int z3, .int (r5 >>> ((1 : Int32) &&& 31)), .int (r5 &&& (1 : Int32))]) F w (m_X8_goTo _ _ _ _ _ hc) rfl rfl hl.1 ds_2 vc_X8 rfl ok_X8_goTo rfl kc_X8_goTo kl_X10_108 ki_X8_goTo kv_X8_goTo kn_X8 ⟨Nat.le_trans (by decide) hR1, Nat.le_trans (by decide) hR2⟩ ⟨Nat.zero_le _, Nat.zero_le _⟩ (Nat.le_of_ble_eq_true rfl) dX10_runsOn_59 (fun H locs w => ?_)
      refine lv_goto (pc := 62) (tgt := 86) hx hb dX10_runsOn_62 (by decide) ?_
      exact w_X10_runsOn_j86 F (Nat.le_trans (by decide) hR1) (Nat.le_trans (by decide) hR2) _ _ h _ _ _ w (lv_sub hl [3, 4] rfl)
  · have h := ite_t q h
    refine lv_iconst (pc := 27) (v := 0) hx hb dX10_runsOn_27 (by decide) ?_
    exact s_zretc F w rfl h dX10_runsOn_28
def f_X8_endRun_L39  : Nat → Int32 → SS → Option (SS)
  | 0, _, _ => none
  | n + 1, x2, S =>
    grd (inb (1 : Int32) 946) (
    if (S.1 19 (1 : Int32).toNatClampNeg) ≤ x2 then
      some S
    else
      grd (inb (((2 : Int32) + x2) + (1 : Int32)) 946) (
      grd (inb ((2 : Int32) + x2) 946) (wr S 19 ((2 : Int32) + x2).toNatClampNeg (S.1 19 (((2 : Int32) + x2) + (1 : Int32)).toNatClampNeg) (fun S5 =>
      nm (x2 + (1 : Int32)) (fun z6 =>
      f_X8_endRun_L39 n z6 S5)))))
def f_X8_endRun (a1 : Int32) (S : SS) : Option (SS) :=
  if a1 < 0 then
    some S
  else
    grd (inb (1 : Int32) 946) (
    if a1 < (S.1 19 (1 : Int32).toNatClampNeg) then
      bnd (f_X8_runner a1 S) (fun r2 S1 =>
      bndv (f_X8_set r2 (8 : Int32) (0 : Int32) S1) (fun S3 =>
      grd (inb (1 : Int32) 946) (
      grd (inb (1 : Int32) 946) (wr S3 19 (1 : Int32).toNatClampNeg ((S3.1 19 (1 : Int32).toNatClampNeg) - (1 : Int32)) (fun S4 =>
      f_X8_endRun_L39 NF a1 S4)))))
    else
      some S)
theorem dX8_endRun_0 : decode cX8_endRun 0 = .ok (.iload_n 1, 1) := by decide +kernel
theorem dX8_endRun_1 : decode cX8_endRun 1 = .ok (.ifCond .lt 13, 3) := by decide +kernel
theorem dX8_endRun_4 : decode cX8_endRun 4 = .ok (.iload_n 1, 1) := by decide +kernel
theorem dX8_endRun_5 : decode cX8_endRun 5 = .ok (.aload_n 0, 1) := by decide +kernel
theorem dX8_endRun_6 : decode cX8_endRun 6 = .ok (.getfield 13, 3) := by decide +kernel
theorem dX8_endRun_9 : decode cX8_endRun 9 = .ok (.iconst 1, 1) := by decide +kernel
theorem dX8_endRun_10 : decode cX8_endRun 10 = .ok (.iaload, 1) := by decide +kernel
theorem dX8_endRun_11 : decode cX8_endRun 11 = .ok (.if_icmp .lt 4, 3) := by decide +kernel
theorem dX8_endRun_14 : decode cX8_endRun 14 = .ok (.return_, 1) := by decide +kernel
theorem dX8_endRun_15 : decode cX8_endRun 15 = .ok (.aload_n 0, 1) := by decide +kernel
theorem dX8_endRun_16 : decode cX8_endRun 16 = .ok (.aload_n 0, 1) := by decide +kernel
theorem dX8_endRun_17 : decode cX8_endRun 17 = .ok (.iload_n 1, 1) := by decide +kernel
theorem dX8_endRun_18 : decode cX8_endRun 18 = .ok (.invokevirtual 39, 3) := by decide +kernel
theorem dX8_endRun_21 : decode cX8_endRun 21 = .ok (.bipush 8, 2) := by decide +kernel
theorem dX8_endRun_23 : decode cX8_endRun 23 = .ok (.iconst 0, 1) := by decide +kernel
theorem dX8_endRun_24 : decode cX8_endRun 24 = .ok (.invokevirtual 27, 3) := by decide +kernel
theorem dX8_endRun_27 : decode cX8_endRun 27 = .ok (.aload_n 0, 1) := by decide +kernel
theorem dX8_endRun_28 : decode cX8_endRun 28 = .ok (.getfield 13, 3) := by decide +kernel
theorem dX8_endRun_31 : decode cX8_endRun 31 = .ok (.iconst 1, 1) := by decide +kernel
theorem dX8_endRun_32 : decode cX8_endRun 32 = .ok (.dup2, 1) := by decide +kernel
theorem dX8_endRun_33 : decode cX8_endRun 33 = .ok (.iaload, 1) := by decide +kernel
theorem dX8_endRun_34 : decode cX8_endRun 34 = .ok (.iconst 1, 1) := by decide +kernel
theorem dX8_endRun_35 : decode cX8_endRun 35 = .ok (.isub, 1) := by decide +kernel
theorem dX8_endRun_36 : decode cX8_endRun 36 = .ok (.iastore, 1) := by decide +kernel
theorem dX8_endRun_37 : decode cX8_endRun 37 = .ok (.iload_n 1, 1) := by decide +kernel
theorem dX8_endRun_38 : decode cX8_endRun 38 = .ok (.istore_n 2, 1) := by decide +kernel
theorem dX8_endRun_39 : decode cX8_endRun 39 = .ok (.iload_n 2, 1) := by decide +kernel
theorem dX8_endRun_40 : decode cX8_endRun 40 = .ok (.aload_n 0, 1) := by decide +kernel
theorem dX8_endRun_41 : decode cX8_endRun 41 = .ok (.getfield 13, 3) := by decide +kernel
theorem dX8_endRun_44 : decode cX8_endRun 44 = .ok (.iconst 1, 1) := by decide +kernel
theorem dX8_endRun_45 : decode cX8_endRun 45 = .ok (.iaload, 1) := by decide +kernel
theorem dX8_endRun_46 : decode cX8_endRun 46 = .ok (.if_icmp .ge 27, 3) := by decide +kernel
theorem dX8_endRun_49 : decode cX8_endRun 49 = .ok (.aload_n 0, 1) := by decide +kernel
theorem dX8_endRun_50 : decode cX8_endRun 50 = .ok (.getfield 13, 3) := by decide +kernel
theorem dX8_endRun_53 : decode cX8_endRun 53 = .ok (.iconst 2, 1) := by decide +kernel
theorem dX8_endRun_54 : decode cX8_endRun 54 = .ok (.iload_n 2, 1) := by decide +kernel
theorem dX8_endRun_55 : decode cX8_endRun 55 = .ok (.iadd, 1) := by decide +kernel
theorem dX8_endRun_56 : decode cX8_endRun 56 = .ok (.aload_n 0, 1) := by decide +kernel
theorem dX8_endRun_57 : decode cX8_endRun 57 = .ok (.getfield 13, 3) := by decide +kernel
theorem dX8_endRun_60 : decode cX8_endRun 60 = .ok (.iconst 2, 1) := by decide +kernel
theorem dX8_endRun_61 : decode cX8_endRun 61 = .ok (.iload_n 2, 1) := by decide +kernel
theorem dX8_endRun_62 : decode cX8_endRun 62 = .ok (.iadd, 1) := by decide +kernel
theorem dX8_endRun_63 : decode cX8_endRun 63 = .ok (.iconst 1, 1) := by decide +kernel
theorem dX8_endRun_64 : decode cX8_endRun 64 = .ok (.iadd, 1) := by decide +kernel
theorem dX8_endRun_65 : decode cX8_endRun 65 = .ok (.iaload, 1) := by decide +kernel
theorem dX8_endRun_66 : decode cX8_endRun 66 = .ok (.iastore, 1) := by decide +kernel
theorem dX8_endRun_67 : decode cX8_endRun 67 = .ok (.iinc 2 1, 3) := by decide +kernel
theorem dX8_endRun_70 : decode cX8_endRun 70 = .ok (.goto (-31), 3) := by decide +kernel
theorem dX8_endRun_73 : decode cX8_endRun 73 = .ok (.return_, 1) := by decide +kernel
set_option maxRecDepth 100000 in
set_option maxHeartbeats 4000000 in
theorem w_X8_endRun_L39 {p : Program} {l : Launch} {e : Env} {R : Room} {s : State} {m : MethodId} {args : Array Value} {below : List Frame} {meth : Method} {c : Code} {dC : Nat → ClassId} {dI : Nat → Nat → Nat} {cs : Nat → ClassId} {ad : Nat → Nat} {A : Nat → Prop} {D0 : Nat → Nat} {S' : SS} (F : Fx p s m args meth c cX8_endRun 3 RX8 none dC dI cs A) (hR1 : 0 ≤ R.frames) (hR2 : 0 ≤ R.locals) : ∀ (n : Nat) (x2 : Int32) (S : SS), f_X8_endRun_L39 n x2 S = some S' → AW p l e R s m args below meth c dC dI cs ad A D0 none S' 3 39 [(0, .ref (ad 2)), (2, .int x2)] [] S := by
  have hx := F.1.1
  have hb := F.1.2.1
  intro n
  induction n with
  | zero => intro x2 S h; cases h
  | succ n ih =>
    intro x2 S h H locs ls w hl
    rw [f_X8_endRun_L39] at h
    refine lv_iload_n (pc := 39) hx hb dX8_endRun_39 rfl (lv_at hl 1 rfl) ?_
    refine lv_aload_n (pc := 40) hx hb dX8_endRun_40 rfl (lv_at hl 0 rfl) ?_
    refine s_getR (pc := 41) F w 19 ds_2 (j := 0) vc_X8 vi_X8 rfl (by decide) kf_X8_13 dX8_endRun_41 ?_
    refine lv_iconst (pc := 44) (v := 1) hx hb dX8_endRun_44 (by decide) ?_
    refine s_iald (pc := 45) F w ds_19 h dX8_endRun_45 (fun h => ?_)
    refine lv_icmp_ge (pc := 46) (tgt := 73) hx hb dX8_endRun_46 (by decide) (fun q => ?_) (fun q => ?_)
    · have h := ite_t q h
      exact s_vret F w h dX8_endRun_73
    · have h := ite_f q h
      refine lv_aload_n (pc := 49) hx hb dX8_endRun_49 rfl (lv_at hl 0 rfl) ?_
      refine s_getR (pc := 50) F w 19 ds_2 (j := 0) vc_X8 vi_X8 rfl (by decide) kf_X8_13 dX8_endRun_50 ?_
      refine lv_iconst (pc := 53) (v := 2) hx hb dX8_endRun_53 (by decide) ?_
      refine lv_iload_n (pc := 54) hx hb dX8_endRun_54 rfl (lv_at hl 1 rfl) ?_
      refine lv_iadd (pc := 55) hx hb dX8_endRun_55 ?_
      refine lv_aload_n (pc := 56) hx hb dX8_endRun_56 rfl (lv_at hl 0 rfl) ?_
      refine s_getR (pc := 57) F w 19 ds_2 (j := 0) vc_X8 vi_X8 rfl (by decide) kf_X8_13 dX8_endRun_57 ?_
      refine lv_iconst (pc := 60) (v := 2) hx hb dX8_endRun_60 (by decide) ?_
      refine lv_iload_n (pc := 61) hx hb dX8_endRun_61 rfl (lv_at hl 1 rfl) ?_
      refine lv_iadd (pc := 62) hx hb dX8_endRun_62 ?_
      refine lv_iconst (pc := 63) (v := 1) hx hb dX8_endRun_63 (by decide) ?_
      refine lv_iadd (pc := 64) hx hb dX8_endRun_64 ?_
      refine s_iald (pc := 65) F w ds_19 h dX8_endRun_65 (fun h => ?_)
      refine s_iast (pc := 66) F w ds_19 h dX8_endRun_66 (fun S5 H locs h w => ?_)
      refine s_nm h (fun z6 ez6 h => ?_)
      refine lv_iinc (pc := 67) (v := z6) (lv' := [(2, .int z6), (0, .ref (ad 2))]) hx hb dX8_endRun_67 hl (k := 1) rfl (by rw [ez6]; rfl) (by decide) rfl (fun ls hl => ?_)
      refine lv_goto (pc := 70) (tgt := 39) hx hb dX8_endRun_70 (by decide) ?_
      exact ih _ _ h _ _ _ w (lv_sub hl [1, 0] rfl)
set_option maxRecDepth 100000 in
set_option maxHeartbeats 4000000 in
theorem m_X8_endRun (a1 : Int32) (S S' : SS) (h : f_X8_endRun a1 S = some S') : MT yX8_endRun cX8_endRun 3 none 1 23 (fun ad => [.ref (ad 2), .int a1]) S none S' := by
  refine MT.of RX8 (fun ad => [(0, .ref (ad 2)), (1, .int a1)]) (by decide) rfl (fun _ => Nat.le_of_ble_eq_true rfl) (fun _ => rfl) ?_
  intro p l e R s m args below meth c dC dI cs ad A hR1 hR2 F H locs ls w hl
  have hx := F.1.1
  have hb := F.1.2.1
  rw [f_X8_endRun] at h
  refine lv_iload_n (pc := 0) hx hb dX8_endRun_0 rfl (lv_at hl 1 rfl) ?_
  refine lv_if_lt (pc := 1) (tgt := 14) hx hb dX8_endRun_1 (by decide) (fun q => ?_) (fun q => ?_)
  · have h := ite_t q h
    exact s_vret F w h dX8_endRun_14
  · have h := ite_f q h
    refine lv_iload_n (pc := 4) hx hb dX8_endRun_4 rfl (lv_at hl 1 rfl) ?_
    refine lv_aload_n (pc := 5) hx hb dX8_endRun_5 rfl (lv_at hl 0 rfl) ?_
    refine s_getR (pc := 6) F w 19 ds_2 (j := 0) vc_X8 vi_X8 rfl (by decide) kf_X8_13 dX8_endRun_6 ?_
    refine lv_iconst (pc := 9) (v := 1) hx hb dX8_endRun_9 (by decide) ?_
    refine s_iald (pc := 10) F w ds_19 h dX8_endRun_10 (fun h => ?_)
    refine lv_icmp_lt (pc := 11) (tgt := 15) hx hb dX8_endRun_11 (by decide) (fun q => ?_) (fun q => ?_)
    · have h := ite_t q h
      refine lv_aload_n (pc := 15) hx hb dX8_endRun_15 rfl (lv_at hl 0 rfl) ?_
      refine lv_aload_n (pc := 16) hx hb dX8_endRun_16 rfl (lv_at hl 0 rfl) ?_
      refine lv_iload_n (pc := 17) hx hb dX8_endRun_17 rfl (lv_at hl 1 rfl) ?_
      obtain ⟨r2, S1, hc, h⟩ := bnd_t h
      refine s_cvi (pc := 18) [.int a1] (fun ad => [.ref (ad 2), .int a1]) F w (m_X8_runner _ _ _ _ hc) rfl rfl hl.1 ds_2 vc_X8 rfl ok_X8_runner rfl kc_X8_runner kl_X8_39 ki_X8_runner kv_X8_runner kn_X8 ⟨Nat.le_trans (by decide) hR1, Nat.le_trans (by decide) hR2⟩ ⟨Nat.zero_le _, Nat.zero_le _⟩ (Nat.le_of_ble_eq_true rfl) dX8_endRun_18 (fun H locs w => ?_)
      refine lv_bipush (pc := 21) (v := 8) hx hb dX8_endRun_21 (by decide) ?_
      refine lv_iconst (pc := 23) (v := 0) hx hb dX8_endRun_23 (by decide) ?_
      obtain ⟨S3, hc, h⟩ := bndv_t h
      refine s_cvv (pc := 24) [.int r2, .int (8 : Int32), .int (0 : Int32)] (fun ad => [.ref (ad 2), .int r2, .int (8 : Int32), .int (0 : Int32)]) F w (m_X8_set _ _ _ _ _ hc) rfl rfl hl.1 ds_2 vc_X8 rfl ok_X8_set rfl kc_X8_set kl_X8_27 ki_X8_set kv_X8_set kn_X8 ⟨Nat.le_trans (by decide) hR1, Nat.le_trans (by decide) hR2⟩ ⟨Nat.zero_le _, Nat.zero_le _⟩ (Nat.le_of_ble_eq_true rfl) dX8_endRun_24 (fun H locs w => ?_)
      refine lv_aload_n (pc := 27) hx hb dX8_endRun_27 rfl (lv_at hl 0 rfl) ?_
      refine s_getR (pc := 28) F w 19 ds_2 (j := 0) vc_X8 vi_X8 rfl (by decide) kf_X8_13 dX8_endRun_28 ?_
      refine lv_iconst (pc := 31) (v := 1) hx hb dX8_endRun_31 (by decide) ?_
      refine lv_dup2_11 (pc := 32) hx hb dX8_endRun_32 rfl rfl ?_
      refine s_iald (pc := 33) F w ds_19 h dX8_endRun_33 (fun h => ?_)
      refine lv_iconst (pc := 34) (v := 1) hx hb dX8_endRun_34 (by decide) ?_
      refine lv_isub (pc := 35) hx hb dX8_endRun_35 ?_
      refine s_iast (pc := 36) F w ds_19 h dX8_endRun_36 (fun S4 H locs h w => ?_)
      refine lv_iload_n (pc := 37) hx hb dX8_endRun_37 rfl (lv_at hl 1 rfl) ?_
      refine lv_istore_n (pc := 38) (lv' := [(2, .int a1), (0, .ref (ad 2)), (1, .int a1)]) hx hb dX8_endRun_38 rfl hl (by decide) rfl (fun ls hl => ?_)
      exact w_X8_endRun_L39 F (Nat.le_trans (by decide) hR1) (Nat.le_trans (by decide) hR2) _ _ _ h _ _ _ w (lv_sub hl [1, 0] rfl)
    · have h := ite_f q h
      exact s_vret F w h dX8_endRun_14
def f_X10_runAll_j52 (K18 : Int32 → Int32 → Int32 → Int32 → SS → Option (Int32 × SS)) (x1 : Int32) (x2 : Int32) (x3 : Int32) (x4 : Int32) (S : SS) : Option (Int32 × SS) :=
    nm (x4 + (-1 : Int32)) (fun z11 =>
    K18 x1 x2 x3 z11 S)
def f_X10_runAll_L18 (K2 : Int32 → Int32 → SS → Option (Int32 × SS)) : Nat → Int32 → Int32 → Int32 → Int32 → SS → Option (Int32 × SS)
  | 0, _, _, _, _, _ => none
  | n + 1, x1, x2, x3, x4, S =>
    if x4 ≤ 0 then
      nm (x2 + (1 : Int32)) (fun z5 =>
      K2 x1 z5 S)
    else
      bnd (f_X8_runner x3 S) (fun r7 S6 =>
      bnd (f_X10_runsOn r7 S6) (fun r9 S8 =>
      if r9 = 0 then
        bndv (f_X8_endRun x3 S8) (fun S10 =>
        f_X10_runAll_j52 (fun v0 v1 v2 v3 S => f_X10_runAll_L18 K2 n v0 v1 v2 v3 S) x1 x2 x3 x4 S10)
      else
        nm (x3 + (1 : Int32)) (fun z12 =>
        f_X10_runAll_j52 (fun v0 v1 v2 v3 S => f_X10_runAll_L18 K2 n v0 v1 v2 v3 S) x1 x2 z12 x4 S8)))
def f_X10_runAll_L2  : Nat → Int32 → Int32 → SS → Option (Int32 × SS)
  | 0, _, _, _ => none
  | n + 1, x1, x2, S =>
    if x1 ≤ x2 then
      bnd (f_X8_running  S) (fun r2 S1 =>
      some (r2, S1))
    else
      bnd (f_X8_running  S) (fun r4 S3 =>
      f_X10_runAll_L18 (fun v0 v1 S => f_X10_runAll_L2 n v0 v1 S) NF x1 x2 (0 : Int32) r4 S3)
def f_X10_runAll (a1 : Int32) (S : SS) : Option (Int32 × SS) :=
  f_X10_runAll_L2 NF a1 (0 : Int32) S
theorem dX10_runAll_0 : decode cX10_runAll 0 = .ok (.iconst 0, 1) := by decide +kernel
theorem dX10_runAll_1 : decode cX10_runAll 1 = .ok (.istore_n 2, 1) := by decide +kernel
theorem dX10_runAll_2 : decode cX10_runAll 2 = .ok (.iload_n 2, 1) := by decide +kernel
theorem dX10_runAll_3 : decode cX10_runAll 3 = .ok (.iload_n 1, 1) := by decide +kernel
theorem dX10_runAll_4 : decode cX10_runAll 4 = .ok (.if_icmp .ge 60, 3) := by decide +kernel
theorem dX10_runAll_7 : decode cX10_runAll 7 = .ok (.iconst 0, 1) := by decide +kernel
theorem dX10_runAll_8 : decode cX10_runAll 8 = .ok (.istore_n 3, 1) := by decide +kernel
theorem dX10_runAll_9 : decode cX10_runAll 9 = .ok (.aload_n 0, 1) := by decide +kernel
theorem dX10_runAll_10 : decode cX10_runAll 10 = .ok (.getfield 24, 3) := by decide +kernel
theorem dX10_runAll_13 : decode cX10_runAll 13 = .ok (.invokevirtual 122, 3) := by decide +kernel
theorem dX10_runAll_16 : decode cX10_runAll 16 = .ok (.istore 4, 2) := by decide +kernel
theorem dX10_runAll_18 : decode cX10_runAll 18 = .ok (.iload 4, 2) := by decide +kernel
theorem dX10_runAll_20 : decode cX10_runAll 20 = .ok (.ifCond .le 38, 3) := by decide +kernel
theorem dX10_runAll_23 : decode cX10_runAll 23 = .ok (.aload_n 0, 1) := by decide +kernel
theorem dX10_runAll_24 : decode cX10_runAll 24 = .ok (.aload_n 0, 1) := by decide +kernel
theorem dX10_runAll_25 : decode cX10_runAll 25 = .ok (.getfield 24, 3) := by decide +kernel
theorem dX10_runAll_28 : decode cX10_runAll 28 = .ok (.iload_n 3, 1) := by decide +kernel
theorem dX10_runAll_29 : decode cX10_runAll 29 = .ok (.invokevirtual 125, 3) := by decide +kernel
theorem dX10_runAll_32 : decode cX10_runAll 32 = .ok (.invokevirtual 128, 3) := by decide +kernel
theorem dX10_runAll_35 : decode cX10_runAll 35 = .ok (.ifCond .eq 9, 3) := by decide +kernel
theorem dX10_runAll_38 : decode cX10_runAll 38 = .ok (.iinc 3 1, 3) := by decide +kernel
theorem dX10_runAll_41 : decode cX10_runAll 41 = .ok (.goto 11, 3) := by decide +kernel
theorem dX10_runAll_44 : decode cX10_runAll 44 = .ok (.aload_n 0, 1) := by decide +kernel
theorem dX10_runAll_45 : decode cX10_runAll 45 = .ok (.getfield 24, 3) := by decide +kernel
theorem dX10_runAll_48 : decode cX10_runAll 48 = .ok (.iload_n 3, 1) := by decide +kernel
theorem dX10_runAll_49 : decode cX10_runAll 49 = .ok (.invokevirtual 131, 3) := by decide +kernel
theorem dX10_runAll_52 : decode cX10_runAll 52 = .ok (.iinc 4 (-1), 3) := by decide +kernel
theorem dX10_runAll_55 : decode cX10_runAll 55 = .ok (.goto (-37), 3) := by decide +kernel
theorem dX10_runAll_58 : decode cX10_runAll 58 = .ok (.iinc 2 1, 3) := by decide +kernel
theorem dX10_runAll_61 : decode cX10_runAll 61 = .ok (.goto (-59), 3) := by decide +kernel
theorem dX10_runAll_64 : decode cX10_runAll 64 = .ok (.aload_n 0, 1) := by decide +kernel
theorem dX10_runAll_65 : decode cX10_runAll 65 = .ok (.getfield 24, 3) := by decide +kernel
theorem dX10_runAll_68 : decode cX10_runAll 68 = .ok (.invokevirtual 122, 3) := by decide +kernel
theorem dX10_runAll_71 : decode cX10_runAll 71 = .ok (.ireturn, 1) := by decide +kernel
set_option maxRecDepth 100000 in
set_option maxHeartbeats 4000000 in
theorem w_X10_runAll_j52 {p : Program} {l : Launch} {e : Env} {R : Room} {s : State} {m : MethodId} {args : Array Value} {below : List Frame} {meth : Method} {c : Code} {dC : Nat → ClassId} {dI : Nat → Nat → Nat} {cs : Nat → ClassId} {ad : Nat → Nat} {A : Nat → Prop} {D0 : Nat → Nat} {S' : SS} {r : Int32} (F : Fx p s m args meth c cX10_runAll 5 RX10 (some .int) dC dI cs A) (hR1 : 0 ≤ R.frames) (hR2 : 0 ≤ R.locals) (K18 : Int32 → Int32 → Int32 → Int32 → SS → Option (Int32 × SS)) (hK18 : ∀ (v0 : Int32) (v1 : Int32) (v2 : Int32) (v3 : Int32) (S : SS), K18 v0 v1 v2 v3 S = some (r, S') → AW p l e R s m args below meth c dC dI cs ad A D0 (some (.int r)) S' 5 18 [(0, .ref (ad 7)), (1, .int v0), (2, .int v1), (3, .int v2), (4, .int v3)] [] S) (x1 : Int32) (x2 : Int32) (x3 : Int32) (x4 : Int32) (S : SS) (h : f_X10_runAll_j52 K18 x1 x2 x3 x4 S = some (r, S')) : AW p l e R s m args below meth c dC dI cs ad A D0 (some (.int r)) S' 5 52 [(0, .ref (ad 7)), (1, .int x1), (2, .int x2), (3, .int x3), (4, .int x4)] [] S := by
  have hx := F.1.1
  have hb := F.1.2.1
  intro H locs ls w hl
  rw [f_X10_runAll_j52] at h
  refine s_nm h (fun z11 ez11 h => ?_)
  refine lv_iinc (pc := 52) (v := z11) (lv' := [(4, .int z11), (0, .ref (ad 7)), (1, .int x1), (2, .int x2), (3, .int x3)]) hx hb dX10_runAll_52 hl (k := 4) rfl (by rw [ez11]; rfl) (by decide) rfl (fun ls hl => ?_)
  refine lv_goto (pc := 55) (tgt := 18) hx hb dX10_runAll_55 (by decide) ?_
  exact hK18 _ _ _ _ _ h _ _ _ w (lv_sub hl [1, 2, 3, 4, 0] rfl)
set_option maxRecDepth 100000 in
set_option maxHeartbeats 4000000 in
theorem w_X10_runAll_L18 {p : Program} {l : Launch} {e : Env} {R : Room} {s : State} {m : MethodId} {args : Array Value} {below : List Frame} {meth : Method} {c : Code} {dC : Nat → ClassId} {dI : Nat → Nat → Nat} {cs : Nat → ClassId} {ad : Nat → Nat} {A : Nat → Prop} {D0 : Nat → Nat} {S' : SS} {r : Int32} (F : Fx p s m args meth c cX10_runAll 5 RX10 (some .int) dC dI cs A) (hR1 : 5 ≤ R.frames) (hR2 : 115 ≤ R.locals) (K2 : Int32 → Int32 → SS → Option (Int32 × SS)) (hK2 : ∀ (v0 : Int32) (v1 : Int32) (S : SS), K2 v0 v1 S = some (r, S') → AW p l e R s m args below meth c dC dI cs ad A D0 (some (.int r)) S' 5 2 [(0, .ref (ad 7)), (1, .int v0), (2, .int v1)] [] S) : ∀ (n : Nat) (x1 : Int32) (x2 : Int32) (x3 : Int32) (x4 : Int32) (S : SS), f_X10_runAll_L18 K2 n x1 x2 x3 x4 S = some (r, S') → AW p l e R s m args below meth c dC dI cs ad A D0 (some (.int r)) S' 5 18 [(0, .ref (ad 7)), (1, .int x1), (2, .int x2), (3, .int x3), (4, .int x4)] [] S := by
  have hx := F.1.1
  have hb := F.1.2.1
  intro n
  induction n with
  | zero => intro x1 x2 x3 x4 S h; cases h
  | succ n ih =>
    intro x1 x2 x3 x4 S h H locs ls w hl
    rw [f_X10_runAll_L18] at h
    refine lv_iload (pc := 18) hx hb dX10_runAll_18 (lv_at hl 4 rfl) ?_
    refine lv_if_le (pc := 20) (tgt := 58) hx hb dX10_runAll_20 (by decide) (fun q => ?_) (fun q => ?_)
    · have h := ite_t q h
      refine s_nm h (fun z5 ez5 h => ?_)
      refine lv_iinc (pc := 58) (v := z5) (lv' := [(2, .int z5), (0, .ref (ad 7)), (1, .int x1), (3, .int x3), (4, .int x4)]) hx hb dX10_runAll_58 hl (k := 2) rfl (by rw [ez5]; rfl) (by decide) rfl (fun ls hl => ?_)
      refine lv_goto (pc := 61) (tgt := 2) hx hb dX10_runAll_61 (by decide) ?_
      exact hK2 _ _ _ h _ _ _ w (lv_sub hl [1, 2, 0] rfl)
    · have h := ite_f q h
      refine lv_aload_n (pc := 23) hx hb dX10_runAll_23 rfl (lv_at hl 0 rfl) ?_
      refine lv_aload_n (pc := 24) hx hb dX10_runAll_24 rfl (lv_at hl 0 rfl) ?_
      refine s_getR (pc := 25) F w 2 ds_7 (j := 0) vc_X10 vi_X10 rfl (by decide) kf_X10_24 dX10_runAll_25 ?_
      refine lv_iload_n (pc := 28) hx hb dX10_runAll_28 rfl (lv_at hl 3 rfl) ?_
      obtain ⟨r7, S6, hc, h⟩ := bnd_t h
      refine s_cvi (pc := 29) [.int x3] (fun ad => [.ref (ad 2), .int x3]) F w (m_X8_runner _ _ _ _ hc) rfl rfl hl.1 ds_2 vc_X8 rfl ok_X8_runner rfl kc_X8_runner kl_X10_125 ki_X8_runner kv_X8_runner kn_X8 ⟨Nat.le_trans (by decide) hR1, Nat.le_trans (by decide) hR2⟩ ⟨Nat.zero_le _, Nat.zero_le _⟩ (Nat.le_of_ble_eq_true rfl) dX10_runAll_29 (fun H locs w => ?_)
      obtain ⟨r9, S8, hc, h⟩ := bnd_t h
      refine s_cvi (pc := 32) [.int r7] (fun ad => [.ref (ad 7), .int r7]) F w (m_X10_runsOn _ _ _ _ hc) rfl rfl hl.1 ds_7 vc_X10 rfl ok_X10_runsOn rfl kc_X10_runsOn kl_X10_128 ki_X10_runsOn kv_X10_runsOn kn_X10 ⟨Nat.le_trans (by decide) hR1, Nat.le_trans (by decide) hR2⟩ ⟨Nat.zero_le _, Nat.zero_le _⟩ (Nat.le_of_ble_eq_true rfl) dX10_runAll_32 (fun H locs w => ?_)
      refine lv_if_eq (pc := 35) (tgt := 44) hx hb dX10_runAll_35 (by decide) (fun q => ?_) (fun q => ?_)
      · have h := ite_t q h
        refine lv_aload_n (pc := 44) hx hb dX10_runAll_44 rfl (lv_at hl 0 rfl) ?_
        refine s_getR (pc := 45) F w 2 ds_7 (j := 0) vc_X10 vi_X10 rfl (by decide) kf_X10_24 dX10_runAll_45 ?_
        refine lv_iload_n (pc := 48) hx hb dX10_runAll_48 rfl (lv_at hl 3 rfl) ?_
        obtain ⟨S10, hc, h⟩ := bndv_t h
        refine s_cvv (pc := 49) [.int x3] (fun ad => [.ref (ad 2), .int x3]) F w (m_X8_endRun _ _ _ hc) rfl rfl hl.1 ds_2 vc_X8 rfl ok_X8_endRun rfl kc_X8_endRun kl_X10_131 ki_X8_endRun kv_X8_endRun kn_X8 ⟨Nat.le_trans (by decide) hR1, Nat.le_trans (by decide) hR2⟩ ⟨Nat.zero_le _, Nat.zero_le _⟩ (Nat.le_of_ble_eq_true rfl) dX10_runAll_49 (fun H locs w => ?_)
        exact w_X10_runAll_j52 F (Nat.le_trans (by decide) hR1) (Nat.le_trans (by decide) hR2) _ (fun v0 v1 v2 v3 S h => ih v0 v1 v2 v3 S h) _ _ _ _ _ h _ _ _ w (lv_sub hl [0, 1, 2, 3, 4] rfl)
      · have h := ite_f q h
        refine s_nm h (fun z12 ez12 h => ?_)
        refine lv_iinc (pc := 38) (v := z12) (lv' := [(3, .int z12), (0, .ref (ad 7)), (1, .int x1), (2, .int x2), (4, .int x4)]) hx hb dX10_runAll_38 hl (k := 3) rfl (by rw [ez12]; rfl) (by decide) rfl (fun ls hl => ?_)
        refine lv_goto (pc := 41) (tgt := 52) hx hb dX10_runAll_41 (by decide) ?_
        exact w_X10_runAll_j52 F (Nat.le_trans (by decide) hR1) (Nat.le_trans (by decide) hR2) _ (fun v0 v1 v2 v3 S h => ih v0 v1 v2 v3 S h) _ _ _ _ _ h _ _ _ w (lv_sub hl [1, 2, 3, 0, 4] rfl)
set_option maxRecDepth 100000 in
set_option maxHeartbeats 4000000 in
theorem w_X10_runAll_L2 {p : Program} {l : Launch} {e : Env} {R : Room} {s : State} {m : MethodId} {args : Array Value} {below : List Frame} {meth : Method} {c : Code} {dC : Nat → ClassId} {dI : Nat → Nat → Nat} {cs : Nat → ClassId} {ad : Nat → Nat} {A : Nat → Prop} {D0 : Nat → Nat} {S' : SS} {r : Int32} (F : Fx p s m args meth c cX10_runAll 5 RX10 (some .int) dC dI cs A) (hR1 : 5 ≤ R.frames) (hR2 : 115 ≤ R.locals) : ∀ (n : Nat) (x1 : Int32) (x2 : Int32) (S : SS), f_X10_runAll_L2 n x1 x2 S = some (r, S') → AW p l e R s m args below meth c dC dI cs ad A D0 (some (.int r)) S' 5 2 [(0, .ref (ad 7)), (1, .int x1), (2, .int x2)] [] S := by
  have hx := F.1.1
  have hb := F.1.2.1
  intro n
  induction n with
  | zero => intro x1 x2 S h; cases h
  | succ n ih =>
    intro x1 x2 S h H locs ls w hl
    rw [f_X10_runAll_L2] at h
    refine lv_iload_n (pc := 2) hx hb dX10_runAll_2 rfl (lv_at hl 2 rfl) ?_
    refine lv_iload_n (pc := 3) hx hb dX10_runAll_3 rfl (lv_at hl 1 rfl) ?_
    refine lv_icmp_ge (pc := 4) (tgt := 64) hx hb dX10_runAll_4 (by decide) (fun q => ?_) (fun q => ?_)
    · have h := ite_t q h
      refine lv_aload_n (pc := 64) hx hb dX10_runAll_64 rfl (lv_at hl 0 rfl) ?_
      refine s_getR (pc := 65) F w 2 ds_7 (j := 0) vc_X10 vi_X10 rfl (by decide) kf_X10_24 dX10_runAll_65 ?_
      obtain ⟨r2, S1, hc, h⟩ := bnd_t h
      refine s_cvi (pc := 68) [] (fun ad => [.ref (ad 2)]) F w (m_X8_running  _ _ _ hc) rfl rfl hl.1 ds_2 vc_X8 rfl ok_X8_running rfl kc_X8_running kl_X10_122 ki_X8_running kv_X8_running kn_X8 ⟨Nat.le_trans (by decide) hR1, Nat.le_trans (by decide) hR2⟩ ⟨Nat.zero_le _, Nat.zero_le _⟩ (Nat.le_of_ble_eq_true rfl) dX10_runAll_68 (fun H locs w => ?_)
      exact s_iret F w h dX10_runAll_71
    · have h := ite_f q h
      refine lv_iconst (pc := 7) (v := 0) hx hb dX10_runAll_7 (by decide) ?_
      refine lv_istore_n (pc := 8) (lv' := [(3, .int (0 : Int32)), (0, .ref (ad 7)), (1, .int x1), (2, .int x2)]) hx hb dX10_runAll_8 rfl hl (by decide) rfl (fun ls hl => ?_)
      refine lv_aload_n (pc := 9) hx hb dX10_runAll_9 rfl (lv_at hl 1 rfl) ?_
      refine s_getR (pc := 10) F w 2 ds_7 (j := 0) vc_X10 vi_X10 rfl (by decide) kf_X10_24 dX10_runAll_10 ?_
      obtain ⟨r4, S3, hc, h⟩ := bnd_t h
      refine s_cvi (pc := 13) [] (fun ad => [.ref (ad 2)]) F w (m_X8_running  _ _ _ hc) rfl rfl hl.1 ds_2 vc_X8 rfl ok_X8_running rfl kc_X8_running kl_X10_122 ki_X8_running kv_X8_running kn_X8 ⟨Nat.le_trans (by decide) hR1, Nat.le_trans (by decide) hR2⟩ ⟨Nat.zero_le _, Nat.zero_le _⟩ (Nat.le_of_ble_eq_true rfl) dX10_runAll_13 (fun H locs w => ?_)
      refine lv_istore (pc := 16) (lv' := [(4, .int r4), (3, .int (0 : Int32)), (0, .ref (ad 7)), (1, .int x1), (2, .int x2)]) hx hb dX10_runAll_16 hl (by decide) rfl (fun ls hl => ?_)
      exact w_X10_runAll_L18 F (Nat.le_trans (by decide) hR1) (Nat.le_trans (by decide) hR2) _ (fun v0 v1 S h => ih v0 v1 S h) _ _ _ _ _ _ h _ _ _ w (lv_sub hl [2, 3, 4, 1, 0] rfl)
set_option maxRecDepth 100000 in
set_option maxHeartbeats 4000000 in
theorem m_X10_runAll (a1 : Int32) (S S' : SS) (r : Int32) (h : f_X10_runAll a1 S = some (r, S')) : MT yX10_runAll cX10_runAll 5 (some .int) 5 115 (fun ad => [.ref (ad 7), .int a1]) S (some (.int r)) S' := by
  refine MT.of RX10 (fun ad => [(0, .ref (ad 7)), (1, .int a1)]) (by decide) rfl (fun _ => Nat.le_of_ble_eq_true rfl) (fun _ => rfl) ?_
  intro p l e R s m args below meth c dC dI cs ad A hR1 hR2 F H locs ls w hl
  have hx := F.1.1
  have hb := F.1.2.1
  rw [f_X10_runAll] at h
  refine lv_iconst (pc := 0) (v := 0) hx hb dX10_runAll_0 (by decide) ?_
  refine lv_istore_n (pc := 1) (lv' := [(2, .int (0 : Int32)), (0, .ref (ad 7)), (1, .int a1)]) hx hb dX10_runAll_1 rfl hl (by decide) rfl (fun ls hl => ?_)
  exact w_X10_runAll_L2 F (Nat.le_trans (by decide) hR1) (Nat.le_trans (by decide) hR2) _ _ _ _ h _ _ _ w (lv_sub hl [1, 2, 0] rfl)
def f_X11_step (a1 : Int32) (S : SS) : Option (Int32 × SS) :=
  bnd (f_X11_isNot a1 (1 : Int32) (50 : Int32) S) (fun r2 S1 =>
  if r2 = 0 then
    bndv (f_X1_keep  S1) (fun S3 =>
    bnd (f_X10_runAll a1 S3) (fun r5 S4 =>
    bnd (f_X11_endAct (10 : Int32) r5 S4) (fun r7 S6 =>
    some (r7, S6))))
  else
    some ((-1 : Int32), S1))
theorem dX11_step_0 : decode cX11_step 0 = .ok (.iload_n 1, 1) := by decide +kernel
theorem dX11_step_1 : decode cX11_step 1 = .ok (.iconst 1, 1) := by decide +kernel
theorem dX11_step_2 : decode cX11_step 2 = .ok (.bipush 50, 2) := by decide +kernel
theorem dX11_step_4 : decode cX11_step 4 = .ok (.invokestatic 108, 3) := by decide +kernel
theorem dX11_step_7 : decode cX11_step 7 = .ok (.ifCond .eq 5, 3) := by decide +kernel
theorem dX11_step_10 : decode cX11_step 10 = .ok (.iconst (-1), 1) := by decide +kernel
theorem dX11_step_11 : decode cX11_step 11 = .ok (.ireturn, 1) := by decide +kernel
theorem dX11_step_12 : decode cX11_step 12 = .ok (.aload_n 0, 1) := by decide +kernel
theorem dX11_step_13 : decode cX11_step 13 = .ok (.getfield 26, 3) := by decide +kernel
theorem dX11_step_16 : decode cX11_step 16 = .ok (.aload_n 0, 1) := by decide +kernel
theorem dX11_step_17 : decode cX11_step 17 = .ok (.getfield 19, 3) := by decide +kernel
theorem dX11_step_20 : decode cX11_step 20 = .ok (.invokevirtual 232, 3) := by decide +kernel
theorem dX11_step_23 : decode cX11_step 23 = .ok (.aload_n 0, 1) := by decide +kernel
theorem dX11_step_24 : decode cX11_step 24 = .ok (.bipush 10, 2) := by decide +kernel
theorem dX11_step_26 : decode cX11_step 26 = .ok (.aload_n 0, 1) := by decide +kernel
theorem dX11_step_27 : decode cX11_step 27 = .ok (.getfield 58, 3) := by decide +kernel
theorem dX11_step_30 : decode cX11_step 30 = .ok (.iload_n 1, 1) := by decide +kernel
theorem dX11_step_31 : decode cX11_step 31 = .ok (.invokevirtual 235, 3) := by decide +kernel
theorem dX11_step_34 : decode cX11_step 34 = .ok (.invokevirtual 205, 3) := by decide +kernel
theorem dX11_step_37 : decode cX11_step 37 = .ok (.ireturn, 1) := by decide +kernel
set_option maxRecDepth 100000 in
set_option maxHeartbeats 4000000 in
theorem m_X11_step (a1 : Int32) (S S' : SS) (r : Int32) (h : f_X11_step a1 S = some (r, S')) : MT yX11_step cX11_step 2 (some .int) 6 139 (fun ad => [.ref (ad 0), .int a1]) S (some (.int r)) S' := by
  refine MT.of RX11 (fun ad => [(0, .ref (ad 0)), (1, .int a1)]) (by decide) rfl (fun _ => Nat.le_of_ble_eq_true rfl) (fun _ => rfl) ?_
  intro p l e R s m args below meth c dC dI cs ad A hR1 hR2 F H locs ls w hl
  have hx := F.1.1
  have hb := F.1.2.1
  rw [f_X11_step] at h
  refine lv_iload_n (pc := 0) hx hb dX11_step_0 rfl (lv_at hl 1 rfl) ?_
  refine lv_iconst (pc := 1) (v := 1) hx hb dX11_step_1 (by decide) ?_
  refine lv_bipush (pc := 2) (v := 50) hx hb dX11_step_2 (by decide) ?_
  obtain ⟨r2, S1, hc, h⟩ := bnd_t h
  refine s_csi (pc := 4) [.int a1, .int (1 : Int32), .int (50 : Int32)] (fun ad => [.int a1, .int (1 : Int32), .int (50 : Int32)]) F w (m_X11_isNot _ _ _ _ _ _ hc) rfl rfl hl.1 ok_X11_isNot rfl kc_X11_isNot kl_X11_108 ks_X11_isNot kn_X11 ⟨Nat.le_trans (by decide) hR1, Nat.le_trans (by decide) hR2⟩ ⟨Nat.zero_le _, Nat.zero_le _⟩ (Nat.le_of_ble_eq_true rfl) dX11_step_4 (fun H locs w => ?_)
  refine lv_if_eq (pc := 7) (tgt := 12) hx hb dX11_step_7 (by decide) (fun q => ?_) (fun q => ?_)
  · have h := ite_t q h
    refine lv_aload_n (pc := 12) hx hb dX11_step_12 rfl (lv_at hl 0 rfl) ?_
    refine s_getR (pc := 13) F w 3 ds_0 (j := 2) vc_X11 vi_X11 rfl (by decide) kf_X11_26 dX11_step_13 ?_
    refine lv_aload_n (pc := 16) hx hb dX11_step_16 rfl (lv_at hl 0 rfl) ?_
    refine s_getR (pc := 17) F w 2 ds_0 (j := 1) vc_X11 vi_X11 rfl (by decide) kf_X11_19 dX11_step_17 ?_
    obtain ⟨S3, hc, h⟩ := bndv_t h
    refine s_cvv (pc := 20) [.ref (ad 2)] (fun ad => [.ref (ad 3), .ref (ad 2)]) F w (m_X1_keep  _ _ hc) rfl rfl hl.1 ds_3 vc_X1 rfl ok_X1_keep rfl kc_X1_keep kl_X11_232 ki_X1_keep kv_X1_keep kn_X1 ⟨Nat.le_trans (by decide) hR1, Nat.le_trans (by decide) hR2⟩ ⟨Nat.zero_le _, Nat.zero_le _⟩ (Nat.le_of_ble_eq_true rfl) dX11_step_20 (fun H locs w => ?_)
    refine lv_aload_n (pc := 23) hx hb dX11_step_23 rfl (lv_at hl 0 rfl) ?_
    refine lv_bipush (pc := 24) (v := 10) hx hb dX11_step_24 (by decide) ?_
    refine lv_aload_n (pc := 26) hx hb dX11_step_26 rfl (lv_at hl 0 rfl) ?_
    refine s_getR (pc := 27) F w 7 ds_0 (j := 6) vc_X11 vi_X11 rfl (by decide) kf_X11_58 dX11_step_27 ?_
    refine lv_iload_n (pc := 30) hx hb dX11_step_30 rfl (lv_at hl 1 rfl) ?_
    obtain ⟨r5, S4, hc, h⟩ := bnd_t h
    refine s_cvi (pc := 31) [.int a1] (fun ad => [.ref (ad 7), .int a1]) F w (m_X10_runAll _ _ _ _ hc) rfl rfl hl.1 ds_7 vc_X10 rfl ok_X10_runAll rfl kc_X10_runAll kl_X11_235 ki_X10_runAll kv_X10_runAll kn_X10 ⟨Nat.le_trans (by decide) hR1, Nat.le_trans (by decide) hR2⟩ ⟨Nat.zero_le _, Nat.zero_le _⟩ (Nat.le_of_ble_eq_true rfl) dX11_step_31 (fun H locs w => ?_)
    obtain ⟨r7, S6, hc, h⟩ := bnd_t h
    refine s_cvi (pc := 34) [.int (10 : Int32), .int r5] (fun ad => [.ref (ad 0), .int (10 : Int32), .int r5]) F w (m_X11_endAct _ _ _ _ _ hc) rfl rfl hl.1 ds_0 vc_X11 rfl ok_X11_endAct rfl kc_X11_endAct kl_X11_205 ki_X11_endAct kv_X11_endAct kn_X11 ⟨Nat.le_trans (by decide) hR1, Nat.le_trans (by decide) hR2⟩ ⟨Nat.zero_le _, Nat.zero_le _⟩ (Nat.le_of_ble_eq_true rfl) dX11_step_34 (fun H locs w => ?_)
    exact s_iret F w h dX11_step_37
  · have h := ite_f q h
    refine lv_iconst (pc := 10) (v := -1) hx hb dX11_step_10 (by decide) ?_
    exact s_iret F w h dX11_step_11
def f_X12_running_j36 (K4 : Int32 → Int32 → SS → Option (Int32 × SS)) (x2 : Int32) (y0 : Int32) (y1 : Int32) (S : SS) : Option (Int32 × SS) :=
    nm (y1 + y0) (fun z1 =>
    nm (x2 + (1 : Int32)) (fun z2 =>
    K4 z1 z2 S))
def f_X12_running_j35 (K4 : Int32 → Int32 → SS → Option (Int32 × SS)) (x2 : Int32) (y0 : Int32) (S : SS) : Option (Int32 × SS) :=
    f_X12_running_j36 K4 x2 (0 : Int32) y0 S
def f_X12_running_L4  : Nat → Int32 → Int32 → SS → Option (Int32 × SS)
  | 0, _, _, _ => none
  | n + 1, x1, x2, S =>
    if (S.1 14 29) ≤ x2 then
      some (x1, S)
    else
      grd (inb x2 72) (
      if (S.1 86 x2.toNatClampNeg) = 0 then
        f_X12_running_j35 (fun v0 v1 S => f_X12_running_L4 n v0 v1 S) x2 x1 S
      else
        grd (inb x2 72) (
        if (S.1 98 x2.toNatClampNeg) = 0 then
          f_X12_running_j35 (fun v0 v1 S => f_X12_running_L4 n v0 v1 S) x2 x1 S
        else
          f_X12_running_j36 (fun v0 v1 S => f_X12_running_L4 n v0 v1 S) x2 (1 : Int32) x1 S))
def f_X12_running  (S : SS) : Option (Int32 × SS) :=
  f_X12_running_L4 NF (0 : Int32) (0 : Int32) S
theorem dX12_running_0 : decode cX12_running 0 = .ok (.iconst 0, 1) := by decide +kernel
theorem dX12_running_1 : decode cX12_running 1 = .ok (.istore_n 1, 1) := by decide +kernel
theorem dX12_running_2 : decode cX12_running 2 = .ok (.iconst 0, 1) := by decide +kernel
theorem dX12_running_3 : decode cX12_running 3 = .ok (.istore_n 2, 1) := by decide +kernel
theorem dX12_running_4 : decode cX12_running 4 = .ok (.iload_n 2, 1) := by decide +kernel
theorem dX12_running_5 : decode cX12_running 5 = .ok (.aload_n 0, 1) := by decide +kernel
theorem dX12_running_6 : decode cX12_running 6 = .ok (.getfield 269, 3) := by decide +kernel
theorem dX12_running_9 : decode cX12_running 9 = .ok (.if_icmp .ge 35, 3) := by decide +kernel
theorem dX12_running_12 : decode cX12_running 12 = .ok (.iload_n 1, 1) := by decide +kernel
theorem dX12_running_13 : decode cX12_running 13 = .ok (.aload_n 0, 1) := by decide +kernel
theorem dX12_running_14 : decode cX12_running 14 = .ok (.getfield 72, 3) := by decide +kernel
theorem dX12_running_17 : decode cX12_running 17 = .ok (.iload_n 2, 1) := by decide +kernel
theorem dX12_running_18 : decode cX12_running 18 = .ok (.baload, 1) := by decide +kernel
theorem dX12_running_19 : decode cX12_running 19 = .ok (.ifCond .eq 16, 3) := by decide +kernel
theorem dX12_running_22 : decode cX12_running 22 = .ok (.aload_n 0, 1) := by decide +kernel
theorem dX12_running_23 : decode cX12_running 23 = .ok (.getfield 108, 3) := by decide +kernel
theorem dX12_running_26 : decode cX12_running 26 = .ok (.iload_n 2, 1) := by decide +kernel
theorem dX12_running_27 : decode cX12_running 27 = .ok (.baload, 1) := by decide +kernel
theorem dX12_running_28 : decode cX12_running 28 = .ok (.ifCond .eq 7, 3) := by decide +kernel
theorem dX12_running_31 : decode cX12_running 31 = .ok (.iconst 1, 1) := by decide +kernel
theorem dX12_running_32 : decode cX12_running 32 = .ok (.goto 4, 3) := by decide +kernel
theorem dX12_running_35 : decode cX12_running 35 = .ok (.iconst 0, 1) := by decide +kernel
theorem dX12_running_36 : decode cX12_running 36 = .ok (.iadd, 1) := by decide +kernel
theorem dX12_running_37 : decode cX12_running 37 = .ok (.istore_n 1, 1) := by decide +kernel
theorem dX12_running_38 : decode cX12_running 38 = .ok (.iinc 2 1, 3) := by decide +kernel
theorem dX12_running_41 : decode cX12_running 41 = .ok (.goto (-37), 3) := by decide +kernel
theorem dX12_running_44 : decode cX12_running 44 = .ok (.iload_n 1, 1) := by decide +kernel
theorem dX12_running_45 : decode cX12_running 45 = .ok (.ireturn, 1) := by decide +kernel
set_option maxRecDepth 100000 in
set_option maxHeartbeats 4000000 in
theorem w_X12_running_j36 {p : Program} {l : Launch} {e : Env} {R : Room} {s : State} {m : MethodId} {args : Array Value} {below : List Frame} {meth : Method} {c : Code} {dC : Nat → ClassId} {dI : Nat → Nat → Nat} {cs : Nat → ClassId} {ad : Nat → Nat} {A : Nat → Prop} {D0 : Nat → Nat} {S' : SS} {r : Int32} (F : Fx p s m args meth c cX12_running 3 RX12 (some .int) dC dI cs A) (hR1 : 0 ≤ R.frames) (hR2 : 0 ≤ R.locals) (K4 : Int32 → Int32 → SS → Option (Int32 × SS)) (hK4 : ∀ (v0 : Int32) (v1 : Int32) (S : SS), K4 v0 v1 S = some (r, S') → AW p l e R s m args below meth c dC dI cs ad A D0 (some (.int r)) S' 3 4 [(0, .ref (ad 14)), (1, .int v0), (2, .int v1)] [] S) (x2 : Int32) (y0 : Int32) (y1 : Int32) (S : SS) (h : f_X12_running_j36 K4 x2 y0 y1 S = some (r, S')) : AW p l e R s m args below meth c dC dI cs ad A D0 (some (.int r)) S' 3 36 [(0, .ref (ad 14)), (2, .int x2)] [.int y0, .int y1] S := by
  have hx := F.1.1
  have hb := F.1.2.1
  intro H locs ls w hl
  rw [f_X12_running_j36] at h
  refine lv_iadd (pc := 36) hx hb dX12_running_36 ?_
  refine s_nm h (fun z1 ez1 h => ?_)
  rw [← ez1]
  refine lv_istore_n (pc := 37) (lv' := [(1, .int z1), (0, .ref (ad 14)), (2, .int x2)]) hx hb dX12_running_37 rfl hl (by decide) rfl (fun ls hl => ?_)
  refine s_nm h (fun z2 ez2 h => ?_)
  refine lv_iinc (pc := 38) (v := z2) (lv' := [(2, .int z2), (1, .int z1), (0, .ref (ad 14))]) hx hb dX12_running_38 hl (k := 2) rfl (by rw [ez2]; rfl) (by decide) rfl (fun ls hl => ?_)
  refine lv_goto (pc := 41) (tgt := 4) hx hb dX12_running_41 (by decide) ?_
  exact hK4 _ _ _ h _ _ _ w (lv_sub hl [2, 1, 0] rfl)
set_option maxRecDepth 100000 in
set_option maxHeartbeats 4000000 in
theorem w_X12_running_j35 {p : Program} {l : Launch} {e : Env} {R : Room} {s : State} {m : MethodId} {args : Array Value} {below : List Frame} {meth : Method} {c : Code} {dC : Nat → ClassId} {dI : Nat → Nat → Nat} {cs : Nat → ClassId} {ad : Nat → Nat} {A : Nat → Prop} {D0 : Nat → Nat} {S' : SS} {r : Int32} (F : Fx p s m args meth c cX12_running 3 RX12 (some .int) dC dI cs A) (hR1 : 0 ≤ R.frames) (hR2 : 0 ≤ R.locals) (K4 : Int32 → Int32 → SS → Option (Int32 × SS)) (hK4 : ∀ (v0 : Int32) (v1 : Int32) (S : SS), K4 v0 v1 S = some (r, S') → AW p l e R s m args below meth c dC dI cs ad A D0 (some (.int r)) S' 3 4 [(0, .ref (ad 14)), (1, .int v0), (2, .int v1)] [] S) (x2 : Int32) (y0 : Int32) (S : SS) (h : f_X12_running_j35 K4 x2 y0 S = some (r, S')) : AW p l e R s m args below meth c dC dI cs ad A D0 (some (.int r)) S' 3 35 [(0, .ref (ad 14)), (2, .int x2)] [.int y0] S := by
  have hx := F.1.1
  have hb := F.1.2.1
  intro H locs ls w hl
  rw [f_X12_running_j35] at h
  refine lv_iconst (pc := 35) (v := 0) hx hb dX12_running_35 (by decide) ?_
  exact w_X12_running_j36 F (Nat.le_trans (by decide) hR1) (Nat.le_trans (by decide) hR2) _ hK4 _ _ _ _ h _ _ _ w (lv_sub hl [0, 1] rfl)
set_option maxRecDepth 100000 in
set_option maxHeartbeats 4000000 in
theorem w_X12_running_L4 {p : Program} {l : Launch} {e : Env} {R : Room} {s : State} {m : MethodId} {args : Array Value} {below : List Frame} {meth : Method} {c : Code} {dC : Nat → ClassId} {dI : Nat → Nat → Nat} {cs : Nat → ClassId} {ad : Nat → Nat} {A : Nat → Prop} {D0 : Nat → Nat} {S' : SS} {r : Int32} (F : Fx p s m args meth c cX12_running 3 RX12 (some .int) dC dI cs A) (hR1 : 0 ≤ R.frames) (hR2 : 0 ≤ R.locals) : ∀ (n : Nat) (x1 : Int32) (x2 : Int32) (S : SS), f_X12_running_L4 n x1 x2 S = some (r, S') → AW p l e R s m args below meth c dC dI cs ad A D0 (some (.int r)) S' 3 4 [(0, .ref (ad 14)), (1, .int x1), (2, .int x2)] [] S := by
  have hx := F.1.1
  have hb := F.1.2.1
  intro n
  induction n with
  | zero => intro x1 x2 S h; cases h
  | succ n ih =>
    intro x1 x2 S h H locs ls w hl
    rw [f_X12_running_L4] at h
    refine lv_iload_n (pc := 4) hx hb dX12_running_4 rfl (lv_at hl 2 rfl) ?_
    refine lv_aload_n (pc := 5) hx hb dX12_running_5 rfl (lv_at hl 0 rfl) ?_
    refine s_getI (pc := 6) F w ds_14 (j := 29) vc_X12 vi_X12 rfl (by decide) kf_X12_269 dX12_running_6 ?_
    refine lv_icmp_ge (pc := 9) (tgt := 44) hx hb dX12_running_9 (by decide) (fun q => ?_) (fun q => ?_)
    · have h := ite_t q h
      refine lv_iload_n (pc := 44) hx hb dX12_running_44 rfl (lv_at hl 1 rfl) ?_
      exact s_iret F w h dX12_running_45
    · have h := ite_f q h
      refine lv_iload_n (pc := 12) hx hb dX12_running_12 rfl (lv_at hl 1 rfl) ?_
      refine lv_aload_n (pc := 13) hx hb dX12_running_13 rfl (lv_at hl 0 rfl) ?_
      refine s_getR (pc := 14) F w 86 ds_14 (j := 31) vc_X12 vi_X12 rfl (by decide) kf_X12_72 dX12_running_14 ?_
      refine lv_iload_n (pc := 17) hx hb dX12_running_17 rfl (lv_at hl 2 rfl) ?_
      refine s_zald (pc := 18) F w ds_86 h dX12_running_18 (fun h => ?_)
      refine lv_if_eq (pc := 19) (tgt := 35) hx hb dX12_running_19 (by decide) (fun q => ?_) (fun q => ?_)
      · have h := ite_t q h
        exact w_X12_running_j35 F (Nat.le_trans (by decide) hR1) (Nat.le_trans (by decide) hR2) _ (fun v0 v1 S h => ih v0 v1 S h) _ _ _ h _ _ _ w (lv_sub hl [0, 2] rfl)
      · have h := ite_f q h
        refine lv_aload_n (pc := 22) hx hb dX12_running_22 rfl (lv_at hl 0 rfl) ?_
        refine s_getR (pc := 23) F w 98 ds_14 (j := 43) vc_X12 vi_X12 rfl (by decide) kf_X12_108 dX12_running_23 ?_
        refine lv_iload_n (pc := 26) hx hb dX12_running_26 rfl (lv_at hl 2 rfl) ?_
        refine s_zald (pc := 27) F w ds_98 h dX12_running_27 (fun h => ?_)
        refine lv_if_eq (pc := 28) (tgt := 35) hx hb dX12_running_28 (by decide) (fun q => ?_) (fun q => ?_)
        · have h := ite_t q h
          exact w_X12_running_j35 F (Nat.le_trans (by decide) hR1) (Nat.le_trans (by decide) hR2) _ (fun v0 v1 S h => ih v0 v1 S h) _ _ _ h _ _ _ w (lv_sub hl [0, 2] rfl)
        · have h := ite_f q h
          refine lv_iconst (pc := 31) (v := 1) hx hb dX12_running_31 (by decide) ?_
          refine lv_goto (pc := 32) (tgt := 36) hx hb dX12_running_32 (by decide) ?_
          exact w_X12_running_j36 F (Nat.le_trans (by decide) hR1) (Nat.le_trans (by decide) hR2) _ (fun v0 v1 S h => ih v0 v1 S h) _ _ _ _ h _ _ _ w (lv_sub hl [0, 2] rfl)
set_option maxRecDepth 100000 in
set_option maxHeartbeats 4000000 in
theorem m_X12_running  (S S' : SS) (r : Int32) (h : f_X12_running  S = some (r, S')) : MT yX12_running cX12_running 3 (some .int) 0 0 (fun ad => [.ref (ad 14)]) S (some (.int r)) S' := by
  refine MT.of RX12 (fun ad => [(0, .ref (ad 14))]) (by decide) rfl (fun _ => Nat.le_of_ble_eq_true rfl) (fun _ => rfl) ?_
  intro p l e R s m args below meth c dC dI cs ad A hR1 hR2 F H locs ls w hl
  have hx := F.1.1
  have hb := F.1.2.1
  rw [f_X12_running] at h
  refine lv_iconst (pc := 0) (v := 0) hx hb dX12_running_0 (by decide) ?_
  refine lv_istore_n (pc := 1) (lv' := [(1, .int (0 : Int32)), (0, .ref (ad 14))]) hx hb dX12_running_1 rfl hl (by decide) rfl (fun ls hl => ?_)
  refine lv_iconst (pc := 2) (v := 0) hx hb dX12_running_2 (by decide) ?_
  refine lv_istore_n (pc := 3) (lv' := [(2, .int (0 : Int32)), (1, .int (0 : Int32)), (0, .ref (ad 14))]) hx hb dX12_running_3 rfl hl (by decide) rfl (fun ls hl => ?_)
  exact w_X12_running_L4 F (Nat.le_trans (by decide) hR1) (Nat.le_trans (by decide) hR2) _ _ _ _ h _ _ _ w (lv_sub hl [2, 1, 0] rfl)
