/-! ===== printed by wip/gen: X12_test X2_isWayOut X10_looksOut X10_leaveFinding X11_leaveYard X11_leave X12_mayLeave X12_missLeave X12_leave X11_roll ===== -/
def f_X12_test_j150 (K119 : Int32 → Int32 → SS → Option (Int32 × SS)) (x2 : Int32) (x3 : Int32) (y0 : Int32) (y1 : Int32) (S : SS) : Option (Int32 × SS) :=
    grd (inb y1 72) (wr S 101 y1.toNatClampNeg (vp_nar .boolean y0) (fun S10 =>
    nm (x3 + (1 : Int32)) (fun z11 =>
    K119 x2 z11 S10)))
def f_X12_test_L119  : Nat → Int32 → Int32 → SS → Option (Int32 × SS)
  | 0, _, _, _ => none
  | n + 1, x2, x3, S =>
    if (S.1 14 56) ≤ x3 then
      bnd (f_X12_entered (11 : Int32) x2 S) (fun r9 S8 =>
      some (r9, S8))
    else
      grd (inb x3 72) (
      if x2 = (S.1 14 56) then
        f_X12_test_j150 (fun v0 v1 S => f_X12_test_L119 n v0 v1 S) x2 x3 (1 : Int32) (S.1 106 x3.toNatClampNeg) S
      else
        f_X12_test_j150 (fun v0 v1 S => f_X12_test_L119 n v0 v1 S) x2 x3 (0 : Int32) (S.1 106 x3.toNatClampNeg) S)
def f_X12_test_j109 (K39 : Int32 → Int32 → SS → Option (Int32 × SS)) (x3 : Int32) (y0 : Int32) (y1 : Int32) (S : SS) : Option (Int32 × SS) :=
    nm (y1 + y0) (fun z16 =>
    nm (x3 + (1 : Int32)) (fun z17 =>
    K39 z16 z17 S))
def f_X12_test_L39  : Nat → Int32 → Int32 → SS → Option (Int32 × SS)
  | 0, _, _, _ => none
  | n + 1, x2, x3, S =>
    if (S.1 14 56) ≤ x3 then
      f_X12_test_L119 NF x2 (0 : Int32) S
    else
      grd (inb x3 72) (
      bnd (f_X12_brake (S.1 106 x3.toNatClampNeg) S) (fun r13 S12 =>
      grd (inb x3 72) (
      bnd (f_X12_perAxle (S12.1 106 x3.toNatClampNeg) S12) (fun r15 S14 =>
      if (S14.1 14 54) = 0 then
        if ((2 : Int32) * r13) < r15 then
          f_X12_test_j109 (fun v0 v1 S => f_X12_test_L39 n v0 v1 S) x3 (0 : Int32) x2 S14
        else
          f_X12_test_j109 (fun v0 v1 S => f_X12_test_L39 n v0 v1 S) x3 (1 : Int32) x2 S14
      else
        bnd (f_X12_found (6 : Int32) S14) (fun r19 S18 =>
        bnd (f_X12_entered (11 : Int32) (-2 : Int32) S18) (fun r21 S20 =>
        some (r21, S20)))))))
def f_X12_test (a1 : Int32) (S : SS) : Option (Int32 × SS) :=
  bndv (f_X12_begin  S) (fun S1 =>
  bndv (f_X12_keep  S1) (fun S2 =>
  bnd (f_X12_missThing a1 (0 : Int32) S2) (fun r4 S3 =>
  bnd (f_X12_ends r4 S3) (fun r6 S5 =>
  if r6 = 0 then
    bndv (f_X12_lineUp a1 S5) (fun S7 =>
    f_X12_test_L39 NF (0 : Int32) (0 : Int32) S7)
  else
    bnd (f_X12_entered (11 : Int32) (-2 : Int32) S5) (fun r23 S22 =>
    some (r23, S22))))))
theorem dX12_test_0 : decode cX12_test 0 = .ok (.aload_n 0, 1) := by decide +kernel
theorem dX12_test_1 : decode cX12_test 1 = .ok (.invokevirtual 226, 3) := by decide +kernel
theorem dX12_test_4 : decode cX12_test 4 = .ok (.aload_n 0, 1) := by decide +kernel
theorem dX12_test_5 : decode cX12_test 5 = .ok (.invokevirtual 346, 3) := by decide +kernel
theorem dX12_test_8 : decode cX12_test 8 = .ok (.aload_n 0, 1) := by decide +kernel
theorem dX12_test_9 : decode cX12_test 9 = .ok (.aload_n 0, 1) := by decide +kernel
theorem dX12_test_10 : decode cX12_test 10 = .ok (.iload_n 1, 1) := by decide +kernel
theorem dX12_test_11 : decode cX12_test 11 = .ok (.iconst 0, 1) := by decide +kernel
theorem dX12_test_12 : decode cX12_test 12 = .ok (.invokevirtual 293, 3) := by decide +kernel
theorem dX12_test_15 : decode cX12_test 15 = .ok (.invokevirtual 236, 3) := by decide +kernel
theorem dX12_test_18 : decode cX12_test 18 = .ok (.ifCond .eq 12, 3) := by decide +kernel
theorem dX12_test_21 : decode cX12_test 21 = .ok (.aload_n 0, 1) := by decide +kernel
theorem dX12_test_22 : decode cX12_test 22 = .ok (.bipush 11, 2) := by decide +kernel
theorem dX12_test_24 : decode cX12_test 24 = .ok (.bipush (-2), 2) := by decide +kernel
theorem dX12_test_26 : decode cX12_test 26 = .ok (.invokevirtual 349, 3) := by decide +kernel
theorem dX12_test_29 : decode cX12_test 29 = .ok (.ireturn, 1) := by decide +kernel
theorem dX12_test_30 : decode cX12_test 30 = .ok (.aload_n 0, 1) := by decide +kernel
theorem dX12_test_31 : decode cX12_test 31 = .ok (.iload_n 1, 1) := by decide +kernel
theorem dX12_test_32 : decode cX12_test 32 = .ok (.invokevirtual 325, 3) := by decide +kernel
theorem dX12_test_35 : decode cX12_test 35 = .ok (.iconst 0, 1) := by decide +kernel
theorem dX12_test_36 : decode cX12_test 36 = .ok (.istore_n 2, 1) := by decide +kernel
theorem dX12_test_37 : decode cX12_test 37 = .ok (.iconst 0, 1) := by decide +kernel
theorem dX12_test_38 : decode cX12_test 38 = .ok (.istore_n 3, 1) := by decide +kernel
theorem dX12_test_39 : decode cX12_test 39 = .ok (.iload_n 3, 1) := by decide +kernel
theorem dX12_test_40 : decode cX12_test 40 = .ok (.aload_n 0, 1) := by decide +kernel
theorem dX12_test_41 : decode cX12_test 41 = .ok (.getfield 319, 3) := by decide +kernel
theorem dX12_test_44 : decode cX12_test 44 = .ok (.if_icmp .ge 73, 3) := by decide +kernel
theorem dX12_test_47 : decode cX12_test 47 = .ok (.aload_n 0, 1) := by decide +kernel
theorem dX12_test_48 : decode cX12_test 48 = .ok (.aload_n 0, 1) := by decide +kernel
theorem dX12_test_49 : decode cX12_test 49 = .ok (.getfield 132, 3) := by decide +kernel
theorem dX12_test_52 : decode cX12_test 52 = .ok (.iload_n 3, 1) := by decide +kernel
theorem dX12_test_53 : decode cX12_test 53 = .ok (.iaload, 1) := by decide +kernel
theorem dX12_test_54 : decode cX12_test 54 = .ok (.invokevirtual 435, 3) := by decide +kernel
theorem dX12_test_57 : decode cX12_test 57 = .ok (.istore 4, 2) := by decide +kernel
theorem dX12_test_59 : decode cX12_test 59 = .ok (.aload_n 0, 1) := by decide +kernel
theorem dX12_test_60 : decode cX12_test 60 = .ok (.aload_n 0, 1) := by decide +kernel
theorem dX12_test_61 : decode cX12_test 61 = .ok (.getfield 132, 3) := by decide +kernel
theorem dX12_test_64 : decode cX12_test 64 = .ok (.iload_n 3, 1) := by decide +kernel
theorem dX12_test_65 : decode cX12_test 65 = .ok (.iaload, 1) := by decide +kernel
theorem dX12_test_66 : decode cX12_test 66 = .ok (.invokevirtual 438, 3) := by decide +kernel
theorem dX12_test_69 : decode cX12_test 69 = .ok (.istore 5, 2) := by decide +kernel
theorem dX12_test_71 : decode cX12_test 71 = .ok (.aload_n 0, 1) := by decide +kernel
theorem dX12_test_72 : decode cX12_test 72 = .ok (.getfield 306, 3) := by decide +kernel
theorem dX12_test_75 : decode cX12_test 75 = .ok (.ifCond .eq 19, 3) := by decide +kernel
theorem dX12_test_78 : decode cX12_test 78 = .ok (.aload_n 0, 1) := by decide +kernel
theorem dX12_test_79 : decode cX12_test 79 = .ok (.bipush 6, 2) := by decide +kernel
theorem dX12_test_81 : decode cX12_test 81 = .ok (.invokevirtual 210, 3) := by decide +kernel
theorem dX12_test_84 : decode cX12_test 84 = .ok (.pop, 1) := by decide +kernel
theorem dX12_test_85 : decode cX12_test 85 = .ok (.aload_n 0, 1) := by decide +kernel
theorem dX12_test_86 : decode cX12_test 86 = .ok (.bipush 11, 2) := by decide +kernel
theorem dX12_test_88 : decode cX12_test 88 = .ok (.bipush (-2), 2) := by decide +kernel
theorem dX12_test_90 : decode cX12_test 90 = .ok (.invokevirtual 349, 3) := by decide +kernel
theorem dX12_test_93 : decode cX12_test 93 = .ok (.ireturn, 1) := by decide +kernel
theorem dX12_test_94 : decode cX12_test 94 = .ok (.iload_n 2, 1) := by decide +kernel
theorem dX12_test_95 : decode cX12_test 95 = .ok (.iconst 2, 1) := by decide +kernel
theorem dX12_test_96 : decode cX12_test 96 = .ok (.iload 4, 2) := by decide +kernel
theorem dX12_test_98 : decode cX12_test 98 = .ok (.imul, 1) := by decide +kernel
theorem dX12_test_99 : decode cX12_test 99 = .ok (.iload 5, 2) := by decide +kernel
theorem dX12_test_101 : decode cX12_test 101 = .ok (.if_icmp .lt 7, 3) := by decide +kernel
theorem dX12_test_104 : decode cX12_test 104 = .ok (.iconst 1, 1) := by decide +kernel
theorem dX12_test_105 : decode cX12_test 105 = .ok (.goto 4, 3) := by decide +kernel
theorem dX12_test_108 : decode cX12_test 108 = .ok (.iconst 0, 1) := by decide +kernel
theorem dX12_test_109 : decode cX12_test 109 = .ok (.iadd, 1) := by decide +kernel
theorem dX12_test_110 : decode cX12_test 110 = .ok (.istore_n 2, 1) := by decide +kernel
theorem dX12_test_111 : decode cX12_test 111 = .ok (.iinc 3 1, 3) := by decide +kernel
theorem dX12_test_114 : decode cX12_test 114 = .ok (.goto (-75), 3) := by decide +kernel
theorem dX12_test_117 : decode cX12_test 117 = .ok (.iconst 0, 1) := by decide +kernel
theorem dX12_test_118 : decode cX12_test 118 = .ok (.istore_n 3, 1) := by decide +kernel
theorem dX12_test_119 : decode cX12_test 119 = .ok (.iload_n 3, 1) := by decide +kernel
theorem dX12_test_120 : decode cX12_test 120 = .ok (.aload_n 0, 1) := by decide +kernel
theorem dX12_test_121 : decode cX12_test 121 = .ok (.getfield 319, 3) := by decide +kernel
theorem dX12_test_124 : decode cX12_test 124 = .ok (.if_icmp .ge 33, 3) := by decide +kernel
theorem dX12_test_127 : decode cX12_test 127 = .ok (.aload_n 0, 1) := by decide +kernel
theorem dX12_test_128 : decode cX12_test 128 = .ok (.getfield 117, 3) := by decide +kernel
theorem dX12_test_131 : decode cX12_test 131 = .ok (.aload_n 0, 1) := by decide +kernel
theorem dX12_test_132 : decode cX12_test 132 = .ok (.getfield 132, 3) := by decide +kernel
theorem dX12_test_135 : decode cX12_test 135 = .ok (.iload_n 3, 1) := by decide +kernel
theorem dX12_test_136 : decode cX12_test 136 = .ok (.iaload, 1) := by decide +kernel
theorem dX12_test_137 : decode cX12_test 137 = .ok (.iload_n 2, 1) := by decide +kernel
theorem dX12_test_138 : decode cX12_test 138 = .ok (.aload_n 0, 1) := by decide +kernel
theorem dX12_test_139 : decode cX12_test 139 = .ok (.getfield 319, 3) := by decide +kernel
theorem dX12_test_142 : decode cX12_test 142 = .ok (.if_icmp .ne 7, 3) := by decide +kernel
theorem dX12_test_145 : decode cX12_test 145 = .ok (.iconst 1, 1) := by decide +kernel
theorem dX12_test_146 : decode cX12_test 146 = .ok (.goto 4, 3) := by decide +kernel
theorem dX12_test_149 : decode cX12_test 149 = .ok (.iconst 0, 1) := by decide +kernel
theorem dX12_test_150 : decode cX12_test 150 = .ok (.bastore, 1) := by decide +kernel
theorem dX12_test_151 : decode cX12_test 151 = .ok (.iinc 3 1, 3) := by decide +kernel
theorem dX12_test_154 : decode cX12_test 154 = .ok (.goto (-35), 3) := by decide +kernel
theorem dX12_test_157 : decode cX12_test 157 = .ok (.aload_n 0, 1) := by decide +kernel
theorem dX12_test_158 : decode cX12_test 158 = .ok (.bipush 11, 2) := by decide +kernel
theorem dX12_test_160 : decode cX12_test 160 = .ok (.iload_n 2, 1) := by decide +kernel
theorem dX12_test_161 : decode cX12_test 161 = .ok (.invokevirtual 349, 3) := by decide +kernel
theorem dX12_test_164 : decode cX12_test 164 = .ok (.ireturn, 1) := by decide +kernel
set_option maxRecDepth 100000 in
set_option maxHeartbeats 4000000 in
theorem w_X12_test_j150 {p : Program} {l : Launch} {e : Env} {R : Room} {s : State} {m : MethodId} {args : Array Value} {below : List Frame} {meth : Method} {c : Code} {dC : Nat → ClassId} {dI : Nat → Nat → Nat} {cs : Nat → ClassId} {ad : Nat → Nat} {A : Nat → Prop} {D0 : Nat → Nat} {S' : SS} {r : Int32} (F : Fx p s m args meth c cX12_test 6 RX12 (some .int) dC dI cs A) (hR1 : 0 ≤ R.frames) (hR2 : 0 ≤ R.locals) (K119 : Int32 → Int32 → SS → Option (Int32 × SS)) (hK119 : ∀ (v0 : Int32) (v1 : Int32) (S : SS), K119 v0 v1 S = some (r, S') → AW p l e R s m args below meth c dC dI cs ad A D0 (some (.int r)) S' 6 119 [(0, .ref (ad 14)), (2, .int v0), (3, .int v1)] [] S) (x2 : Int32) (x3 : Int32) (y0 : Int32) (y1 : Int32) (S : SS) (h : f_X12_test_j150 K119 x2 x3 y0 y1 S = some (r, S')) : AW p l e R s m args below meth c dC dI cs ad A D0 (some (.int r)) S' 6 150 [(0, .ref (ad 14)), (2, .int x2), (3, .int x3)] [.int y0, .int y1, .ref (ad 101)] S := by
  have hx := F.1.1
  have hb := F.1.2.1
  intro H locs ls w hl
  rw [f_X12_test_j150] at h
  refine s_zast (pc := 150) F w ds_101 h dX12_test_150 (fun S10 H locs h w => ?_)
  refine s_nm h (fun z11 ez11 h => ?_)
  refine lv_iinc (pc := 151) (v := z11) (lv' := [(3, .int z11), (0, .ref (ad 14)), (2, .int x2)]) hx hb dX12_test_151 hl (k := 2) rfl (by rw [ez11]; rfl) (by decide) rfl (fun ls hl => ?_)
  refine lv_goto (pc := 154) (tgt := 119) hx hb dX12_test_154 (by decide) ?_
  exact hK119 _ _ _ h _ _ _ w (lv_sub hl [1, 2, 0] rfl)
set_option maxRecDepth 100000 in
set_option maxHeartbeats 4000000 in
theorem w_X12_test_L119 {p : Program} {l : Launch} {e : Env} {R : Room} {s : State} {m : MethodId} {args : Array Value} {below : List Frame} {meth : Method} {c : Code} {dC : Nat → ClassId} {dI : Nat → Nat → Nat} {cs : Nat → ClassId} {ad : Nat → Nat} {A : Nat → Prop} {D0 : Nat → Nat} {S' : SS} {r : Int32} (F : Fx p s m args meth c cX12_test 6 RX12 (some .int) dC dI cs A) (hR1 : 1 ≤ R.frames) (hR2 : 22 ≤ R.locals) : ∀ (n : Nat) (x2 : Int32) (x3 : Int32) (S : SS), f_X12_test_L119 n x2 x3 S = some (r, S') → AW p l e R s m args below meth c dC dI cs ad A D0 (some (.int r)) S' 6 119 [(0, .ref (ad 14)), (2, .int x2), (3, .int x3)] [] S := by
  have hx := F.1.1
  have hb := F.1.2.1
  intro n
  induction n with
  | zero => intro x2 x3 S h; cases h
  | succ n ih =>
    intro x2 x3 S h H locs ls w hl
    rw [f_X12_test_L119] at h
    refine lv_iload_n (pc := 119) hx hb dX12_test_119 rfl (lv_at hl 2 rfl) ?_
    refine lv_aload_n (pc := 120) hx hb dX12_test_120 rfl (lv_at hl 0 rfl) ?_
    refine s_getI (pc := 121) F w ds_14 (j := 56) vc_X12 vi_X12 rfl (by decide) kf_X12_319 dX12_test_121 ?_
    refine lv_icmp_ge (pc := 124) (tgt := 157) hx hb dX12_test_124 (by decide) (fun q => ?_) (fun q => ?_)
    · have h := ite_t q h
      refine lv_aload_n (pc := 157) hx hb dX12_test_157 rfl (lv_at hl 0 rfl) ?_
      refine lv_bipush (pc := 158) (v := 11) hx hb dX12_test_158 (by decide) ?_
      refine lv_iload_n (pc := 160) hx hb dX12_test_160 rfl (lv_at hl 1 rfl) ?_
      obtain ⟨r9, S8, hc, h⟩ := bnd_t h
      refine s_cvi (pc := 161) [.int (11 : Int32), .int x2] (fun ad => [.ref (ad 14), .int (11 : Int32), .int x2]) F w (m_X12_entered _ _ _ _ _ hc) rfl rfl hl.1 ds_14 vc_X12 rfl ok_X12_entered rfl kc_X12_entered kl_X12_349 ki_X12_entered kv_X12_entered kn_X12 ⟨Nat.le_trans (by decide) hR1, Nat.le_trans (by decide) hR2⟩ ⟨Nat.zero_le _, Nat.zero_le _⟩ (Nat.le_of_ble_eq_true rfl) dX12_test_161 (fun H locs w => ?_)
      exact s_iret F w h dX12_test_164
    · have h := ite_f q h
      refine lv_aload_n (pc := 127) hx hb dX12_test_127 rfl (lv_at hl 0 rfl) ?_
      refine s_getR (pc := 128) F w 101 ds_14 (j := 46) vc_X12 vi_X12 rfl (by decide) kf_X12_117 dX12_test_128 ?_
      refine lv_aload_n (pc := 131) hx hb dX12_test_131 rfl (lv_at hl 0 rfl) ?_
      refine s_getR (pc := 132) F w 106 ds_14 (j := 55) vc_X12 vi_X12 rfl (by decide) kf_X12_132 dX12_test_132 ?_
      refine lv_iload_n (pc := 135) hx hb dX12_test_135 rfl (lv_at hl 2 rfl) ?_
      refine s_iald (pc := 136) F w ds_106 h dX12_test_136 (fun h => ?_)
      refine lv_iload_n (pc := 137) hx hb dX12_test_137 rfl (lv_at hl 1 rfl) ?_
      refine lv_aload_n (pc := 138) hx hb dX12_test_138 rfl (lv_at hl 0 rfl) ?_
      refine s_getI (pc := 139) F w ds_14 (j := 56) vc_X12 vi_X12 rfl (by decide) kf_X12_319 dX12_test_139 ?_
      refine lv_icmp_ne (pc := 142) (tgt := 149) hx hb dX12_test_142 (by decide) (fun q => ?_) (fun q => ?_)
      · have h := ite_f q h
        refine lv_iconst (pc := 149) (v := 0) hx hb dX12_test_149 (by decide) ?_
        exact w_X12_test_j150 F (Nat.le_trans (by decide) hR1) (Nat.le_trans (by decide) hR2) _ (fun v0 v1 S h => ih v0 v1 S h) _ _ _ _ _ h _ _ _ w (lv_sub hl [0, 1, 2] rfl)
      · have h := ite_t q h
        refine lv_iconst (pc := 145) (v := 1) hx hb dX12_test_145 (by decide) ?_
        refine lv_goto (pc := 146) (tgt := 150) hx hb dX12_test_146 (by decide) ?_
        exact w_X12_test_j150 F (Nat.le_trans (by decide) hR1) (Nat.le_trans (by decide) hR2) _ (fun v0 v1 S h => ih v0 v1 S h) _ _ _ _ _ h _ _ _ w (lv_sub hl [0, 1, 2] rfl)
set_option maxRecDepth 100000 in
set_option maxHeartbeats 4000000 in
theorem w_X12_test_j109 {p : Program} {l : Launch} {e : Env} {R : Room} {s : State} {m : MethodId} {args : Array Value} {below : List Frame} {meth : Method} {c : Code} {dC : Nat → ClassId} {dI : Nat → Nat → Nat} {cs : Nat → ClassId} {ad : Nat → Nat} {A : Nat → Prop} {D0 : Nat → Nat} {S' : SS} {r : Int32} (F : Fx p s m args meth c cX12_test 6 RX12 (some .int) dC dI cs A) (hR1 : 0 ≤ R.frames) (hR2 : 0 ≤ R.locals) (K39 : Int32 → Int32 → SS → Option (Int32 × SS)) (hK39 : ∀ (v0 : Int32) (v1 : Int32) (S : SS), K39 v0 v1 S = some (r, S') → AW p l e R s m args below meth c dC dI cs ad A D0 (some (.int r)) S' 6 39 [(0, .ref (ad 14)), (2, .int v0), (3, .int v1)] [] S) (x3 : Int32) (y0 : Int32) (y1 : Int32) (S : SS) (h : f_X12_test_j109 K39 x3 y0 y1 S = some (r, S')) : AW p l e R s m args below meth c dC dI cs ad A D0 (some (.int r)) S' 6 109 [(0, .ref (ad 14)), (3, .int x3)] [.int y0, .int y1] S := by
  have hx := F.1.1
  have hb := F.1.2.1
  intro H locs ls w hl
  rw [f_X12_test_j109] at h
  refine lv_iadd (pc := 109) hx hb dX12_test_109 ?_
  refine s_nm h (fun z16 ez16 h => ?_)
  rw [← ez16]
  refine lv_istore_n (pc := 110) (lv' := [(2, .int z16), (0, .ref (ad 14)), (3, .int x3)]) hx hb dX12_test_110 rfl hl (by decide) rfl (fun ls hl => ?_)
  refine s_nm h (fun z17 ez17 h => ?_)
  refine lv_iinc (pc := 111) (v := z17) (lv' := [(3, .int z17), (2, .int z16), (0, .ref (ad 14))]) hx hb dX12_test_111 hl (k := 2) rfl (by rw [ez17]; rfl) (by decide) rfl (fun ls hl => ?_)
  refine lv_goto (pc := 114) (tgt := 39) hx hb dX12_test_114 (by decide) ?_
  exact hK39 _ _ _ h _ _ _ w (lv_sub hl [2, 1, 0] rfl)
set_option maxRecDepth 100000 in
set_option maxHeartbeats 4000000 in
theorem w_X12_test_L39 {p : Program} {l : Launch} {e : Env} {R : Room} {s : State} {m : MethodId} {args : Array Value} {below : List Frame} {meth : Method} {c : Code} {dC : Nat → ClassId} {dI : Nat → Nat → Nat} {cs : Nat → ClassId} {ad : Nat → Nat} {A : Nat → Prop} {D0 : Nat → Nat} {S' : SS} {r : Int32} (F : Fx p s m args meth c cX12_test 6 RX12 (some .int) dC dI cs A) (hR1 : 3 ≤ R.frames) (hR2 : 67 ≤ R.locals) : ∀ (n : Nat) (x2 : Int32) (x3 : Int32) (S : SS), f_X12_test_L39 n x2 x3 S = some (r, S') → AW p l e R s m args below meth c dC dI cs ad A D0 (some (.int r)) S' 6 39 [(0, .ref (ad 14)), (2, .int x2), (3, .int x3)] [] S := by
  have hx := F.1.1
  have hb := F.1.2.1
  intro n
  induction n with
  | zero => intro x2 x3 S h; cases h
  | succ n ih =>
    intro x2 x3 S h H locs ls w hl
    rw [f_X12_test_L39] at h
    refine lv_iload_n (pc := 39) hx hb dX12_test_39 rfl (lv_at hl 2 rfl) ?_
    refine lv_aload_n (pc := 40) hx hb dX12_test_40 rfl (lv_at hl 0 rfl) ?_
    refine s_getI (pc := 41) F w ds_14 (j := 56) vc_X12 vi_X12 rfl (by decide) kf_X12_319 dX12_test_41 ?_
    refine lv_icmp_ge (pc := 44) (tgt := 117) hx hb dX12_test_44 (by decide) (fun q => ?_) (fun q => ?_)
    · have h := ite_t q h
      refine lv_iconst (pc := 117) (v := 0) hx hb dX12_test_117 (by decide) ?_
      refine lv_istore_n (pc := 118) (lv' := [(3, .int (0 : Int32)), (0, .ref (ad 14)), (2, .int x2)]) hx hb dX12_test_118 rfl hl (by decide) rfl (fun ls hl => ?_)
      exact w_X12_test_L119 F (Nat.le_trans (by decide) hR1) (Nat.le_trans (by decide) hR2) _ _ _ _ h _ _ _ w (lv_sub hl [1, 2, 0] rfl)
    · have h := ite_f q h
      refine lv_aload_n (pc := 47) hx hb dX12_test_47 rfl (lv_at hl 0 rfl) ?_
      refine lv_aload_n (pc := 48) hx hb dX12_test_48 rfl (lv_at hl 0 rfl) ?_
      refine s_getR (pc := 49) F w 106 ds_14 (j := 55) vc_X12 vi_X12 rfl (by decide) kf_X12_132 dX12_test_49 ?_
      refine lv_iload_n (pc := 52) hx hb dX12_test_52 rfl (lv_at hl 2 rfl) ?_
      refine s_iald (pc := 53) F w ds_106 h dX12_test_53 (fun h => ?_)
      obtain ⟨r13, S12, hc, h⟩ := bnd_t h
      refine s_cvi (pc := 54) [.int (S.1 106 x3.toNatClampNeg)] (fun ad => [.ref (ad 14), .int (S.1 106 x3.toNatClampNeg)]) F w (m_X12_brake _ _ _ _ hc) rfl rfl hl.1 ds_14 vc_X12 rfl ok_X12_brake rfl kc_X12_brake kl_X12_435 ki_X12_brake kv_X12_brake kn_X12 ⟨Nat.le_trans (by decide) hR1, Nat.le_trans (by decide) hR2⟩ ⟨Nat.zero_le _, Nat.zero_le _⟩ (Nat.le_of_ble_eq_true rfl) dX12_test_54 (fun H locs w => ?_)
      refine lv_istore (pc := 57) (lv' := [(4, .int r13), (0, .ref (ad 14)), (2, .int x2), (3, .int x3)]) hx hb dX12_test_57 hl (by decide) rfl (fun ls hl => ?_)
      refine lv_aload_n (pc := 59) hx hb dX12_test_59 rfl (lv_at hl 1 rfl) ?_
      refine lv_aload_n (pc := 60) hx hb dX12_test_60 rfl (lv_at hl 1 rfl) ?_
      refine s_getR (pc := 61) F w 106 ds_14 (j := 55) vc_X12 vi_X12 rfl (by decide) kf_X12_132 dX12_test_61 ?_
      refine lv_iload_n (pc := 64) hx hb dX12_test_64 rfl (lv_at hl 3 rfl) ?_
      refine s_iald (pc := 65) F w ds_106 h dX12_test_65 (fun h => ?_)
      obtain ⟨r15, S14, hc, h⟩ := bnd_t h
      refine s_cvi (pc := 66) [.int (S12.1 106 x3.toNatClampNeg)] (fun ad => [.ref (ad 14), .int (S12.1 106 x3.toNatClampNeg)]) F w (m_X12_perAxle _ _ _ _ hc) rfl rfl hl.1 ds_14 vc_X12 rfl ok_X12_perAxle rfl kc_X12_perAxle kl_X12_438 ki_X12_perAxle kv_X12_perAxle kn_X12 ⟨Nat.le_trans (by decide) hR1, Nat.le_trans (by decide) hR2⟩ ⟨Nat.zero_le _, Nat.zero_le _⟩ (Nat.le_of_ble_eq_true rfl) dX12_test_66 (fun H locs w => ?_)
      refine lv_istore (pc := 69) (lv' := [(5, .int r15), (4, .int r13), (0, .ref (ad 14)), (2, .int x2), (3, .int x3)]) hx hb dX12_test_69 hl (by decide) rfl (fun ls hl => ?_)
      refine lv_aload_n (pc := 71) hx hb dX12_test_71 rfl (lv_at hl 2 rfl) ?_
      refine s_getI (pc := 72) F w ds_14 (j := 54) vc_X12 vi_X12 rfl (by decide) kf_X12_306 dX12_test_72 ?_
      refine lv_if_eq (pc := 75) (tgt := 94) hx hb dX12_test_75 (by decide) (fun q => ?_) (fun q => ?_)
      · have h := ite_t q h
        refine lv_iload_n (pc := 94) hx hb dX12_test_94 rfl (lv_at hl 3 rfl) ?_
        refine lv_iconst (pc := 95) (v := 2) hx hb dX12_test_95 (by decide) ?_
        refine lv_iload (pc := 96) hx hb dX12_test_96 (lv_at hl 1 rfl) ?_
        refine lv_imul (pc := 98) hx hb dX12_test_98 ?_
        refine lv_iload (pc := 99) hx hb dX12_test_99 (lv_at hl 0 rfl) ?_
        refine lv_icmp_lt (pc := 101) (tgt := 108) hx hb dX12_test_101 (by decide) (fun q => ?_) (fun q => ?_)
        · have h := ite_t q h
          refine lv_iconst (pc := 108) (v := 0) hx hb dX12_test_108 (by decide) ?_
          exact w_X12_test_j109 F (Nat.le_trans (by decide) hR1) (Nat.le_trans (by decide) hR2) _ (fun v0 v1 S h => ih v0 v1 S h) _ _ _ _ h _ _ _ w (lv_sub hl [2, 4] rfl)
        · have h := ite_f q h
          refine lv_iconst (pc := 104) (v := 1) hx hb dX12_test_104 (by decide) ?_
          refine lv_goto (pc := 105) (tgt := 109) hx hb dX12_test_105 (by decide) ?_
          exact w_X12_test_j109 F (Nat.le_trans (by decide) hR1) (Nat.le_trans (by decide) hR2) _ (fun v0 v1 S h => ih v0 v1 S h) _ _ _ _ h _ _ _ w (lv_sub hl [2, 4] rfl)
      · have h := ite_f q h
        refine lv_aload_n (pc := 78) hx hb dX12_test_78 rfl (lv_at hl 2 rfl) ?_
        refine lv_bipush (pc := 79) (v := 6) hx hb dX12_test_79 (by decide) ?_
        obtain ⟨r19, S18, hc, h⟩ := bnd_t h
        refine s_cvi (pc := 81) [.int (6 : Int32)] (fun ad => [.ref (ad 14), .int (6 : Int32)]) F w (m_X12_found _ _ _ _ hc) rfl rfl hl.1 ds_14 vc_X12 rfl ok_X12_found rfl kc_X12_found kl_X12_210 ki_X12_found kv_X12_found kn_X12 ⟨Nat.le_trans (by decide) hR1, Nat.le_trans (by decide) hR2⟩ ⟨Nat.zero_le _, Nat.zero_le _⟩ (Nat.le_of_ble_eq_true rfl) dX12_test_81 (fun H locs w => ?_)
        refine lv_pop (pc := 84) hx hb dX12_test_84 rfl ?_
        refine lv_aload_n (pc := 85) hx hb dX12_test_85 rfl (lv_at hl 2 rfl) ?_
        refine lv_bipush (pc := 86) (v := 11) hx hb dX12_test_86 (by decide) ?_
        refine lv_bipush (pc := 88) (v := -2) hx hb dX12_test_88 (by decide) ?_
        obtain ⟨r21, S20, hc, h⟩ := bnd_t h
        refine s_cvi (pc := 90) [.int (11 : Int32), .int (-2 : Int32)] (fun ad => [.ref (ad 14), .int (11 : Int32), .int (-2 : Int32)]) F w (m_X12_entered _ _ _ _ _ hc) rfl rfl hl.1 ds_14 vc_X12 rfl ok_X12_entered rfl kc_X12_entered kl_X12_349 ki_X12_entered kv_X12_entered kn_X12 ⟨Nat.le_trans (by decide) hR1, Nat.le_trans (by decide) hR2⟩ ⟨Nat.zero_le _, Nat.zero_le _⟩ (Nat.le_of_ble_eq_true rfl) dX12_test_90 (fun H locs w => ?_)
        exact s_iret F w h dX12_test_93
set_option maxRecDepth 100000 in
set_option maxHeartbeats 4000000 in
theorem m_X12_test (a1 : Int32) (S S' : SS) (r : Int32) (h : f_X12_test a1 S = some (r, S')) : MT yX12_test cX12_test 6 (some .int) 3 67 (fun ad => [.ref (ad 14), .int a1]) S (some (.int r)) S' := by
  refine MT.of RX12 (fun ad => [(0, .ref (ad 14)), (1, .int a1)]) (by decide) rfl (fun _ => Nat.le_of_ble_eq_true rfl) (fun _ => rfl) ?_
  intro p l e R s m args below meth c dC dI cs ad A hR1 hR2 F H locs ls w hl
  have hx := F.1.1
  have hb := F.1.2.1
  rw [f_X12_test] at h
  refine lv_aload_n (pc := 0) hx hb dX12_test_0 rfl (lv_at hl 0 rfl) ?_
  obtain ⟨S1, hc, h⟩ := bndv_t h
  refine s_cvv (pc := 1) [] (fun ad => [.ref (ad 14)]) F w (m_X12_begin  _ _ hc) rfl rfl hl.1 ds_14 vc_X12 rfl ok_X12_begin rfl kc_X12_begin kl_X12_226 ki_X12_begin kv_X12_begin kn_X12 ⟨Nat.le_trans (by decide) hR1, Nat.le_trans (by decide) hR2⟩ ⟨Nat.zero_le _, Nat.zero_le _⟩ (Nat.le_of_ble_eq_true rfl) dX12_test_1 (fun H locs w => ?_)
  refine lv_aload_n (pc := 4) hx hb dX12_test_4 rfl (lv_at hl 0 rfl) ?_
  obtain ⟨S2, hc, h⟩ := bndv_t h
  refine s_cvv (pc := 5) [] (fun ad => [.ref (ad 14)]) F w (m_X12_keep  _ _ hc) rfl rfl hl.1 ds_14 vc_X12 rfl ok_X12_keep rfl kc_X12_keep kl_X12_346 ki_X12_keep kv_X12_keep kn_X12 ⟨Nat.le_trans (by decide) hR1, Nat.le_trans (by decide) hR2⟩ ⟨Nat.zero_le _, Nat.zero_le _⟩ (Nat.le_of_ble_eq_true rfl) dX12_test_5 (fun H locs w => ?_)
  refine lv_aload_n (pc := 8) hx hb dX12_test_8 rfl (lv_at hl 0 rfl) ?_
  refine lv_aload_n (pc := 9) hx hb dX12_test_9 rfl (lv_at hl 0 rfl) ?_
  refine lv_iload_n (pc := 10) hx hb dX12_test_10 rfl (lv_at hl 1 rfl) ?_
  refine lv_iconst (pc := 11) (v := 0) hx hb dX12_test_11 (by decide) ?_
  obtain ⟨r4, S3, hc, h⟩ := bnd_t h
  refine s_cvi (pc := 12) [.int a1, .int (0 : Int32)] (fun ad => [.ref (ad 14), .int a1, .int (0 : Int32)]) F w (m_X12_missThing _ _ _ _ _ hc) rfl rfl hl.1 ds_14 vc_X12 rfl ok_X12_missThing rfl kc_X12_missThing kl_X12_293 ki_X12_missThing kv_X12_missThing kn_X12 ⟨Nat.le_trans (by decide) hR1, Nat.le_trans (by decide) hR2⟩ ⟨Nat.zero_le _, Nat.zero_le _⟩ (Nat.le_of_ble_eq_true rfl) dX12_test_12 (fun H locs w => ?_)
  obtain ⟨r6, S5, hc, h⟩ := bnd_t h
  refine s_cvi (pc := 15) [.int r4] (fun ad => [.ref (ad 14), .int r4]) F w (m_X12_ends _ _ _ _ hc) rfl rfl hl.1 ds_14 vc_X12 rfl ok_X12_ends rfl kc_X12_ends kl_X12_236 ki_X12_ends kv_X12_ends kn_X12 ⟨Nat.le_trans (by decide) hR1, Nat.le_trans (by decide) hR2⟩ ⟨Nat.zero_le _, Nat.zero_le _⟩ (Nat.le_of_ble_eq_true rfl) dX12_test_15 (fun H locs w => ?_)
  refine lv_if_eq (pc := 18) (tgt := 30) hx hb dX12_test_18 (by decide) (fun q => ?_) (fun q => ?_)
  · have h := ite_t q h
    refine lv_aload_n (pc := 30) hx hb dX12_test_30 rfl (lv_at hl 0 rfl) ?_
    refine lv_iload_n (pc := 31) hx hb dX12_test_31 rfl (lv_at hl 1 rfl) ?_
    obtain ⟨S7, hc, h⟩ := bndv_t h
    refine s_cvv (pc := 32) [.int a1] (fun ad => [.ref (ad 14), .int a1]) F w (m_X12_lineUp _ _ _ hc) rfl rfl hl.1 ds_14 vc_X12 rfl ok_X12_lineUp rfl kc_X12_lineUp kl_X12_325 ki_X12_lineUp kv_X12_lineUp kn_X12 ⟨Nat.le_trans (by decide) hR1, Nat.le_trans (by decide) hR2⟩ ⟨Nat.zero_le _, Nat.zero_le _⟩ (Nat.le_of_ble_eq_true rfl) dX12_test_32 (fun H locs w => ?_)
    refine lv_iconst (pc := 35) (v := 0) hx hb dX12_test_35 (by decide) ?_
    refine lv_istore_n (pc := 36) (lv' := [(2, .int (0 : Int32)), (0, .ref (ad 14)), (1, .int a1)]) hx hb dX12_test_36 rfl hl (by decide) rfl (fun ls hl => ?_)
    refine lv_iconst (pc := 37) (v := 0) hx hb dX12_test_37 (by decide) ?_
    refine lv_istore_n (pc := 38) (lv' := [(3, .int (0 : Int32)), (2, .int (0 : Int32)), (0, .ref (ad 14)), (1, .int a1)]) hx hb dX12_test_38 rfl hl (by decide) rfl (fun ls hl => ?_)
    exact w_X12_test_L39 F (Nat.le_trans (by decide) hR1) (Nat.le_trans (by decide) hR2) _ _ _ _ h _ _ _ w (lv_sub hl [2, 1, 0] rfl)
  · have h := ite_f q h
    refine lv_aload_n (pc := 21) hx hb dX12_test_21 rfl (lv_at hl 0 rfl) ?_
    refine lv_bipush (pc := 22) (v := 11) hx hb dX12_test_22 (by decide) ?_
    refine lv_bipush (pc := 24) (v := -2) hx hb dX12_test_24 (by decide) ?_
    obtain ⟨r23, S22, hc, h⟩ := bnd_t h
    refine s_cvi (pc := 26) [.int (11 : Int32), .int (-2 : Int32)] (fun ad => [.ref (ad 14), .int (11 : Int32), .int (-2 : Int32)]) F w (m_X12_entered _ _ _ _ _ hc) rfl rfl hl.1 ds_14 vc_X12 rfl ok_X12_entered rfl kc_X12_entered kl_X12_349 ki_X12_entered kv_X12_entered kn_X12 ⟨Nat.le_trans (by decide) hR1, Nat.le_trans (by decide) hR2⟩ ⟨Nat.zero_le _, Nat.zero_le _⟩ (Nat.le_of_ble_eq_true rfl) dX12_test_26 (fun H locs w => ?_)
    exact s_iret F w h dX12_test_29
def f_X2_isWayOut (a1 : Int32) (a2 : Int32) (S : SS) : Option (Int32 × SS) :=
  bnd (f_X2_endNextTo a1 a2 S) (fun r2 S1 =>
  bnd (f_X2_isEnd r2 S1) (fun r4 S3 =>
  if r4 = 0 then
    some ((0 : Int32), S3)
  else
    grd (inb r2 48) (
    if (S3.1 38 r2.toNatClampNeg) = 0 then
      some ((0 : Int32), S3)
    else
      some ((1 : Int32), S3))))
theorem dX2_isWayOut_0 : decode cX2_isWayOut 0 = .ok (.aload_n 0, 1) := by decide +kernel
theorem dX2_isWayOut_1 : decode cX2_isWayOut 1 = .ok (.iload_n 1, 1) := by decide +kernel
theorem dX2_isWayOut_2 : decode cX2_isWayOut 2 = .ok (.iload_n 2, 1) := by decide +kernel
theorem dX2_isWayOut_3 : decode cX2_isWayOut 3 = .ok (.invokevirtual 85, 3) := by decide +kernel
theorem dX2_isWayOut_6 : decode cX2_isWayOut 6 = .ok (.istore_n 3, 1) := by decide +kernel
theorem dX2_isWayOut_7 : decode cX2_isWayOut 7 = .ok (.iload_n 3, 1) := by decide +kernel
theorem dX2_isWayOut_8 : decode cX2_isWayOut 8 = .ok (.invokestatic 48, 3) := by decide +kernel
theorem dX2_isWayOut_11 : decode cX2_isWayOut 11 = .ok (.ifCond .eq 16, 3) := by decide +kernel
theorem dX2_isWayOut_14 : decode cX2_isWayOut 14 = .ok (.aload_n 0, 1) := by decide +kernel
theorem dX2_isWayOut_15 : decode cX2_isWayOut 15 = .ok (.getfield 27, 3) := by decide +kernel
theorem dX2_isWayOut_18 : decode cX2_isWayOut 18 = .ok (.iload_n 3, 1) := by decide +kernel
theorem dX2_isWayOut_19 : decode cX2_isWayOut 19 = .ok (.baload, 1) := by decide +kernel
theorem dX2_isWayOut_20 : decode cX2_isWayOut 20 = .ok (.ifCond .eq 7, 3) := by decide +kernel
theorem dX2_isWayOut_23 : decode cX2_isWayOut 23 = .ok (.iconst 1, 1) := by decide +kernel
theorem dX2_isWayOut_24 : decode cX2_isWayOut 24 = .ok (.goto 4, 3) := by decide +kernel
theorem dX2_isWayOut_27 : decode cX2_isWayOut 27 = .ok (.iconst 0, 1) := by decide +kernel
theorem dX2_isWayOut_28 : decode cX2_isWayOut 28 = .ok (.ireturn, 1) := by decide +kernel
set_option maxRecDepth 100000 in
set_option maxHeartbeats 4000000 in
theorem m_X2_isWayOut (a1 : Int32) (a2 : Int32) (S S' : SS) (r : Int32) (h : f_X2_isWayOut a1 a2 S = some (r, S')) : MT yX2_isWayOut cX2_isWayOut 4 (some .boolean) 2 45 (fun ad => [.ref (ad 5), .int a1, .int a2]) S (some (.int r)) S' := by
  refine MT.of RX2 (fun ad => [(0, .ref (ad 5)), (1, .int a1), (2, .int a2)]) (by decide) rfl (fun _ => Nat.le_of_ble_eq_true rfl) (fun _ => rfl) ?_
  intro p l e R s m args below meth c dC dI cs ad A hR1 hR2 F H locs ls w hl
  have hx := F.1.1
  have hb := F.1.2.1
  rw [f_X2_isWayOut] at h
  refine lv_aload_n (pc := 0) hx hb dX2_isWayOut_0 rfl (lv_at hl 0 rfl) ?_
  refine lv_iload_n (pc := 1) hx hb dX2_isWayOut_1 rfl (lv_at hl 1 rfl) ?_
  refine lv_iload_n (pc := 2) hx hb dX2_isWayOut_2 rfl (lv_at hl 2 rfl) ?_
  obtain ⟨r2, S1, hc, h⟩ := bnd_t h
  refine s_cvi (pc := 3) [.int a1, .int a2] (fun ad => [.ref (ad 5), .int a1, .int a2]) F w (m_X2_endNextTo _ _ _ _ _ hc) rfl rfl hl.1 ds_5 vc_X2 rfl ok_X2_endNextTo rfl kc_X2_endNextTo kl_X2_85 ki_X2_endNextTo kv_X2_endNextTo kn_X2 ⟨Nat.le_trans (by decide) hR1, Nat.le_trans (by decide) hR2⟩ ⟨Nat.zero_le _, Nat.zero_le _⟩ (Nat.le_of_ble_eq_true rfl) dX2_isWayOut_3 (fun H locs w => ?_)
  refine lv_istore_n (pc := 6) (lv' := [(3, .int r2), (0, .ref (ad 5)), (1, .int a1), (2, .int a2)]) hx hb dX2_isWayOut_6 rfl hl (by decide) rfl (fun ls hl => ?_)
  refine lv_iload_n (pc := 7) hx hb dX2_isWayOut_7 rfl (lv_at hl 0 rfl) ?_
  obtain ⟨r4, S3, hc, h⟩ := bnd_t h
  refine s_csi (pc := 8) [.int r2] (fun ad => [.int r2]) F w (m_X2_isEnd _ _ _ _ hc) rfl rfl hl.1 ok_X2_isEnd rfl kc_X2_isEnd kl_X2_48 ks_X2_isEnd kn_X2 ⟨Nat.le_trans (by decide) hR1, Nat.le_trans (by decide) hR2⟩ ⟨Nat.zero_le _, Nat.zero_le _⟩ (Nat.le_of_ble_eq_true rfl) dX2_isWayOut_8 (fun H locs w => ?_)
  refine lv_if_eq (pc := 11) (tgt := 27) hx hb dX2_isWayOut_11 (by decide) (fun q => ?_) (fun q => ?_)
  · have h := ite_t q h
    refine lv_iconst (pc := 27) (v := 0) hx hb dX2_isWayOut_27 (by decide) ?_
    exact s_zretc F w rfl h dX2_isWayOut_28
  · have h := ite_f q h
    refine lv_aload_n (pc := 14) hx hb dX2_isWayOut_14 rfl (lv_at hl 1 rfl) ?_
    refine s_getR (pc := 15) F w 38 ds_5 (j := 6) vc_X2 vi_X2 rfl (by decide) kf_X2_27 dX2_isWayOut_15 ?_
    refine lv_iload_n (pc := 18) hx hb dX2_isWayOut_18 rfl (lv_at hl 0 rfl) ?_
    refine s_zald (pc := 19) F w ds_38 h dX2_isWayOut_19 (fun h => ?_)
    refine lv_if_eq (pc := 20) (tgt := 27) hx hb dX2_isWayOut_20 (by decide) (fun q => ?_) (fun q => ?_)
    · have h := ite_t q h
      refine lv_iconst (pc := 27) (v := 0) hx hb dX2_isWayOut_27 (by decide) ?_
      exact s_zretc F w rfl h dX2_isWayOut_28
    · have h := ite_f q h
      refine lv_iconst (pc := 23) (v := 1) hx hb dX2_isWayOut_23 (by decide) ?_
      refine lv_goto (pc := 24) (tgt := 28) hx hb dX2_isWayOut_24 (by decide) ?_
      exact s_zretc F w rfl h dX2_isWayOut_28
def f_X10_looksOut (a1 : Int32) (S : SS) : Option (Int32 × SS) :=
  bnd (f_X8_get (a1 >>> ((1 : Int32) &&& 31)) (0 : Int32) S) (fun r2 S1 =>
  bnd (f_X8_looks a1 S1) (fun r4 S3 =>
  bnd (f_X2_isWayOut r2 r4 S3) (fun r6 S5 =>
  grd (isB r6) (some (r6, S5)))))
theorem dX10_looksOut_0 : decode cX10_looksOut 0 = .ok (.aload_n 0, 1) := by decide +kernel
theorem dX10_looksOut_1 : decode cX10_looksOut 1 = .ok (.getfield 28, 3) := by decide +kernel
theorem dX10_looksOut_4 : decode cX10_looksOut 4 = .ok (.aload_n 0, 1) := by decide +kernel
theorem dX10_looksOut_5 : decode cX10_looksOut 5 = .ok (.getfield 24, 3) := by decide +kernel
theorem dX10_looksOut_8 : decode cX10_looksOut 8 = .ok (.iload_n 1, 1) := by decide +kernel
theorem dX10_looksOut_9 : decode cX10_looksOut 9 = .ok (.iconst 1, 1) := by decide +kernel
theorem dX10_looksOut_10 : decode cX10_looksOut 10 = .ok (.ishr, 1) := by decide +kernel
theorem dX10_looksOut_11 : decode cX10_looksOut 11 = .ok (.iconst 0, 1) := by decide +kernel
theorem dX10_looksOut_12 : decode cX10_looksOut 12 = .ok (.invokevirtual 36, 3) := by decide +kernel
theorem dX10_looksOut_15 : decode cX10_looksOut 15 = .ok (.aload_n 0, 1) := by decide +kernel
theorem dX10_looksOut_16 : decode cX10_looksOut 16 = .ok (.getfield 24, 3) := by decide +kernel
theorem dX10_looksOut_19 : decode cX10_looksOut 19 = .ok (.iload_n 1, 1) := by decide +kernel
theorem dX10_looksOut_20 : decode cX10_looksOut 20 = .ok (.invokevirtual 54, 3) := by decide +kernel
theorem dX10_looksOut_23 : decode cX10_looksOut 23 = .ok (.invokevirtual 119, 3) := by decide +kernel
theorem dX10_looksOut_26 : decode cX10_looksOut 26 = .ok (.ireturn, 1) := by decide +kernel
set_option maxRecDepth 100000 in
set_option maxHeartbeats 4000000 in
theorem m_X10_looksOut (a1 : Int32) (S S' : SS) (r : Int32) (h : f_X10_looksOut a1 S = some (r, S')) : MT yX10_looksOut cX10_looksOut 2 (some .boolean) 3 68 (fun ad => [.ref (ad 7), .int a1]) S (some (.int r)) S' := by
  refine MT.of RX10 (fun ad => [(0, .ref (ad 7)), (1, .int a1)]) (by decide) rfl (fun _ => Nat.le_of_ble_eq_true rfl) (fun _ => rfl) ?_
  intro p l e R s m args below meth c dC dI cs ad A hR1 hR2 F H locs ls w hl
  have hx := F.1.1
  have hb := F.1.2.1
  rw [f_X10_looksOut] at h
  refine lv_aload_n (pc := 0) hx hb dX10_looksOut_0 rfl (lv_at hl 0 rfl) ?_
  refine s_getR (pc := 1) F w 5 ds_7 (j := 1) vc_X10 vi_X10 rfl (by decide) kf_X10_28 dX10_looksOut_1 ?_
  refine lv_aload_n (pc := 4) hx hb dX10_looksOut_4 rfl (lv_at hl 0 rfl) ?_
  refine s_getR (pc := 5) F w 2 ds_7 (j := 0) vc_X10 vi_X10 rfl (by decide) kf_X10_24 dX10_looksOut_5 ?_
  refine lv_iload_n (pc := 8) hx hb dX10_looksOut_8 rfl (lv_at hl 1 rfl) ?_
  refine lv_iconst (pc := 9) (v := 1) hx hb dX10_looksOut_9 (by decide) ?_
  refine lv_ishr (pc := 10) hx hb dX10_looksOut_10 ?_
  refine lv_iconst (pc := 11) (v := 0) hx hb dX10_looksOut_11 (by decide) ?_
  obtain ⟨r2, S1, hc, h⟩ := bnd_t h
  refine s_cvi (pc := 12) [.int (a1 >>> ((1 : Int32) &&& 31)), .int (0 : Int32)] (fun ad => [.ref (ad 2), .int (a1 >>> ((1 : Int32) &&& 31)), .int (0 : Int32)]) F w (m_X8_get _ _ _ _ _ hc) rfl rfl hl.1 ds_2 vc_X8 rfl ok_X8_get rfl kc_X8_get kl_X10_36 ki_X8_get kv_X8_get kn_X8 ⟨Nat.le_trans (by decide) hR1, Nat.le_trans (by decide) hR2⟩ ⟨Nat.zero_le _, Nat.zero_le _⟩ (Nat.le_of_ble_eq_true rfl) dX10_looksOut_12 (fun H locs w => ?_)
  refine lv_aload_n (pc := 15) hx hb dX10_looksOut_15 rfl (lv_at hl 0 rfl) ?_
  refine s_getR (pc := 16) F w 2 ds_7 (j := 0) vc_X10 vi_X10 rfl (by decide) kf_X10_24 dX10_looksOut_16 ?_
  refine lv_iload_n (pc := 19) hx hb dX10_looksOut_19 rfl (lv_at hl 1 rfl) ?_
  obtain ⟨r4, S3, hc, h⟩ := bnd_t h
  refine s_cvi (pc := 20) [.int a1] (fun ad => [.ref (ad 2), .int a1]) F w (m_X8_looks _ _ _ _ hc) rfl rfl hl.1 ds_2 vc_X8 rfl ok_X8_looks rfl kc_X8_looks kl_X10_54 ki_X8_looks kv_X8_looks kn_X8 ⟨Nat.le_trans (by decide) hR1, Nat.le_trans (by decide) hR2⟩ ⟨Nat.zero_le _, Nat.zero_le _⟩ (Nat.le_of_ble_eq_true rfl) dX10_looksOut_20 (fun H locs w => ?_)
  obtain ⟨r6, S5, hc, h⟩ := bnd_t h
  refine s_cvi (pc := 23) [.int r2, .int r4] (fun ad => [.ref (ad 5), .int r2, .int r4]) F w (m_X2_isWayOut _ _ _ _ _ hc) rfl rfl hl.1 ds_5 vc_X2 rfl ok_X2_isWayOut rfl kc_X2_isWayOut kl_X10_119 ki_X2_isWayOut kv_X2_isWayOut kn_X2 ⟨Nat.le_trans (by decide) hR1, Nat.le_trans (by decide) hR2⟩ ⟨Nat.zero_le _, Nat.zero_le _⟩ (Nat.le_of_ble_eq_true rfl) dX10_looksOut_23 (fun H locs w => ?_)
  exact s_zret F w h dX10_looksOut_26
def f_X10_leaveFinding_L2  : Nat → Int32 → SS → Option (Int32 × SS)
  | 0, _, _ => none
  | n + 1, x1, S =>
    if (S.1 7 4) ≤ x1 then
      bnd (f_X10_hookInLine (0 : Int32) S) (fun r2 S1 =>
      bnd (f_X10_looksOut r2 S1) (fun r4 S3 =>
      if r4 = 0 then
        bnd (f_X10_hookInLine ((S3.1 7 4) - (1 : Int32)) S3) (fun r6 S5 =>
        bnd (f_X10_looksOut (r6 ^^^ (1 : Int32)) S5) (fun r8 S7 =>
        if r8 = 0 then
          some ((10 : Int32), S7)
        else
          some ((0 : Int32), S7)))
      else
        some ((0 : Int32), S3)))
    else
      bnd (f_X10_inLine x1 S) (fun r10 S9 =>
      bnd (f_X8_get r10 (10 : Int32) S9) (fun r12 S11 =>
      if r12 = 0 then
        some ((17 : Int32), S11)
      else
        nm (x1 + (1 : Int32)) (fun z13 =>
        f_X10_leaveFinding_L2 n z13 S11)))
def f_X10_leaveFinding  (S : SS) : Option (Int32 × SS) :=
  f_X10_leaveFinding_L2 NF (0 : Int32) S
theorem dX10_leaveFinding_0 : decode cX10_leaveFinding 0 = .ok (.iconst 0, 1) := by decide +kernel
theorem dX10_leaveFinding_1 : decode cX10_leaveFinding 1 = .ok (.istore_n 1, 1) := by decide +kernel
theorem dX10_leaveFinding_2 : decode cX10_leaveFinding 2 = .ok (.iload_n 1, 1) := by decide +kernel
theorem dX10_leaveFinding_3 : decode cX10_leaveFinding 3 = .ok (.aload_n 0, 1) := by decide +kernel
theorem dX10_leaveFinding_4 : decode cX10_leaveFinding 4 = .ok (.getfield 17, 3) := by decide +kernel
theorem dX10_leaveFinding_7 : decode cX10_leaveFinding 7 = .ok (.if_icmp .ge 29, 3) := by decide +kernel
theorem dX10_leaveFinding_10 : decode cX10_leaveFinding 10 = .ok (.aload_n 0, 1) := by decide +kernel
theorem dX10_leaveFinding_11 : decode cX10_leaveFinding 11 = .ok (.getfield 24, 3) := by decide +kernel
theorem dX10_leaveFinding_14 : decode cX10_leaveFinding 14 = .ok (.aload_n 0, 1) := by decide +kernel
theorem dX10_leaveFinding_15 : decode cX10_leaveFinding 15 = .ok (.iload_n 1, 1) := by decide +kernel
theorem dX10_leaveFinding_16 : decode cX10_leaveFinding 16 = .ok (.invokevirtual 47, 3) := by decide +kernel
theorem dX10_leaveFinding_19 : decode cX10_leaveFinding 19 = .ok (.bipush 10, 2) := by decide +kernel
theorem dX10_leaveFinding_21 : decode cX10_leaveFinding 21 = .ok (.invokevirtual 36, 3) := by decide +kernel
theorem dX10_leaveFinding_24 : decode cX10_leaveFinding 24 = .ok (.ifCond .ne 6, 3) := by decide +kernel
theorem dX10_leaveFinding_27 : decode cX10_leaveFinding 27 = .ok (.bipush 17, 2) := by decide +kernel
theorem dX10_leaveFinding_29 : decode cX10_leaveFinding 29 = .ok (.ireturn, 1) := by decide +kernel
theorem dX10_leaveFinding_30 : decode cX10_leaveFinding 30 = .ok (.iinc 1 1, 3) := by decide +kernel
theorem dX10_leaveFinding_33 : decode cX10_leaveFinding 33 = .ok (.goto (-31), 3) := by decide +kernel
theorem dX10_leaveFinding_36 : decode cX10_leaveFinding 36 = .ok (.aload_n 0, 1) := by decide +kernel
theorem dX10_leaveFinding_37 : decode cX10_leaveFinding 37 = .ok (.aload_n 0, 1) := by decide +kernel
theorem dX10_leaveFinding_38 : decode cX10_leaveFinding 38 = .ok (.iconst 0, 1) := by decide +kernel
theorem dX10_leaveFinding_39 : decode cX10_leaveFinding 39 = .ok (.invokevirtual 44, 3) := by decide +kernel
theorem dX10_leaveFinding_42 : decode cX10_leaveFinding 42 = .ok (.invokevirtual 116, 3) := by decide +kernel
theorem dX10_leaveFinding_45 : decode cX10_leaveFinding 45 = .ok (.ifCond .ne 22, 3) := by decide +kernel
theorem dX10_leaveFinding_48 : decode cX10_leaveFinding 48 = .ok (.aload_n 0, 1) := by decide +kernel
theorem dX10_leaveFinding_49 : decode cX10_leaveFinding 49 = .ok (.aload_n 0, 1) := by decide +kernel
theorem dX10_leaveFinding_50 : decode cX10_leaveFinding 50 = .ok (.aload_n 0, 1) := by decide +kernel
theorem dX10_leaveFinding_51 : decode cX10_leaveFinding 51 = .ok (.getfield 17, 3) := by decide +kernel
theorem dX10_leaveFinding_54 : decode cX10_leaveFinding 54 = .ok (.iconst 1, 1) := by decide +kernel
theorem dX10_leaveFinding_55 : decode cX10_leaveFinding 55 = .ok (.isub, 1) := by decide +kernel
theorem dX10_leaveFinding_56 : decode cX10_leaveFinding 56 = .ok (.invokevirtual 44, 3) := by decide +kernel
theorem dX10_leaveFinding_59 : decode cX10_leaveFinding 59 = .ok (.iconst 1, 1) := by decide +kernel
theorem dX10_leaveFinding_60 : decode cX10_leaveFinding 60 = .ok (.ixor, 1) := by decide +kernel
theorem dX10_leaveFinding_61 : decode cX10_leaveFinding 61 = .ok (.invokevirtual 116, 3) := by decide +kernel
theorem dX10_leaveFinding_64 : decode cX10_leaveFinding 64 = .ok (.ifCond .eq 7, 3) := by decide +kernel
theorem dX10_leaveFinding_67 : decode cX10_leaveFinding 67 = .ok (.iconst 0, 1) := by decide +kernel
theorem dX10_leaveFinding_68 : decode cX10_leaveFinding 68 = .ok (.goto 5, 3) := by decide +kernel
theorem dX10_leaveFinding_71 : decode cX10_leaveFinding 71 = .ok (.bipush 10, 2) := by decide +kernel
theorem dX10_leaveFinding_73 : decode cX10_leaveFinding 73 = .ok (.ireturn, 1) := by decide +kernel
set_option maxRecDepth 100000 in
set_option maxHeartbeats 4000000 in
theorem w_X10_leaveFinding_L2 {p : Program} {l : Launch} {e : Env} {R : Room} {s : State} {m : MethodId} {args : Array Value} {below : List Frame} {meth : Method} {c : Code} {dC : Nat → ClassId} {dI : Nat → Nat → Nat} {cs : Nat → ClassId} {ad : Nat → Nat} {A : Nat → Prop} {D0 : Nat → Nat} {S' : SS} {r : Int32} (F : Fx p s m args meth c cX10_leaveFinding 2 RX10 (some .int) dC dI cs A) (hR1 : 4 ≤ R.frames) (hR2 : 89 ≤ R.locals) : ∀ (n : Nat) (x1 : Int32) (S : SS), f_X10_leaveFinding_L2 n x1 S = some (r, S') → AW p l e R s m args below meth c dC dI cs ad A D0 (some (.int r)) S' 2 2 [(0, .ref (ad 7)), (1, .int x1)] [] S := by
  have hx := F.1.1
  have hb := F.1.2.1
  intro n
  induction n with
  | zero => intro x1 S h; cases h
  | succ n ih =>
    intro x1 S h H locs ls w hl
    rw [f_X10_leaveFinding_L2] at h
    refine lv_iload_n (pc := 2) hx hb dX10_leaveFinding_2 rfl (lv_at hl 1 rfl) ?_
    refine lv_aload_n (pc := 3) hx hb dX10_leaveFinding_3 rfl (lv_at hl 0 rfl) ?_
    refine s_getI (pc := 4) F w ds_7 (j := 4) vc_X10 vi_X10 rfl (by decide) kf_X10_17 dX10_leaveFinding_4 ?_
    refine lv_icmp_ge (pc := 7) (tgt := 36) hx hb dX10_leaveFinding_7 (by decide) (fun q => ?_) (fun q => ?_)
    · have h := ite_t q h
      refine lv_aload_n (pc := 36) hx hb dX10_leaveFinding_36 rfl (lv_at hl 0 rfl) ?_
      refine lv_aload_n (pc := 37) hx hb dX10_leaveFinding_37 rfl (lv_at hl 0 rfl) ?_
      refine lv_iconst (pc := 38) (v := 0) hx hb dX10_leaveFinding_38 (by decide) ?_
      obtain ⟨r2, S1, hc, h⟩ := bnd_t h
      refine s_cvi (pc := 39) [.int (0 : Int32)] (fun ad => [.ref (ad 7), .int (0 : Int32)]) F w (m_X10_hookInLine _ _ _ _ hc) rfl rfl hl.1 ds_7 vc_X10 rfl ok_X10_hookInLine rfl kc_X10_hookInLine kl_X10_44 ki_X10_hookInLine kv_X10_hookInLine kn_X10 ⟨Nat.le_trans (by decide) hR1, Nat.le_trans (by decide) hR2⟩ ⟨Nat.zero_le _, Nat.zero_le _⟩ (Nat.le_of_ble_eq_true rfl) dX10_leaveFinding_39 (fun H locs w => ?_)
      obtain ⟨r4, S3, hc, h⟩ := bnd_t h
      refine s_cvi (pc := 42) [.int r2] (fun ad => [.ref (ad 7), .int r2]) F w (m_X10_looksOut _ _ _ _ hc) rfl rfl hl.1 ds_7 vc_X10 rfl ok_X10_looksOut rfl kc_X10_looksOut kl_X10_116 ki_X10_looksOut kv_X10_looksOut kn_X10 ⟨Nat.le_trans (by decide) hR1, Nat.le_trans (by decide) hR2⟩ ⟨Nat.zero_le _, Nat.zero_le _⟩ (Nat.le_of_ble_eq_true rfl) dX10_leaveFinding_42 (fun H locs w => ?_)
      refine lv_if_ne (pc := 45) (tgt := 67) hx hb dX10_leaveFinding_45 (by decide) (fun q => ?_) (fun q => ?_)
      · have h := ite_f q h
        refine lv_iconst (pc := 67) (v := 0) hx hb dX10_leaveFinding_67 (by decide) ?_
        refine lv_goto (pc := 68) (tgt := 73) hx hb dX10_leaveFinding_68 (by decide) ?_
        exact s_iret F w h dX10_leaveFinding_73
      · have h := ite_t q h
        refine lv_aload_n (pc := 48) hx hb dX10_leaveFinding_48 rfl (lv_at hl 0 rfl) ?_
        refine lv_aload_n (pc := 49) hx hb dX10_leaveFinding_49 rfl (lv_at hl 0 rfl) ?_
        refine lv_aload_n (pc := 50) hx hb dX10_leaveFinding_50 rfl (lv_at hl 0 rfl) ?_
        refine s_getI (pc := 51) F w ds_7 (j := 4) vc_X10 vi_X10 rfl (by decide) kf_X10_17 dX10_leaveFinding_51 ?_
        refine lv_iconst (pc := 54) (v := 1) hx hb dX10_leaveFinding_54 (by decide) ?_
        refine lv_isub (pc := 55) hx hb dX10_leaveFinding_55 ?_
        obtain ⟨r6, S5, hc, h⟩ := bnd_t h
        refine s_cvi (pc := 56) [.int ((S3.1 7 4) - (1 : Int32))] (fun ad => [.ref (ad 7), .int ((S3.1 7 4) - (1 : Int32))]) F w (m_X10_hookInLine _ _ _ _ hc) rfl rfl hl.1 ds_7 vc_X10 rfl ok_X10_hookInLine rfl kc_X10_hookInLine kl_X10_44 ki_X10_hookInLine kv_X10_hookInLine kn_X10 ⟨Nat.le_trans (by decide) hR1, Nat.le_trans (by decide) hR2⟩ ⟨Nat.zero_le _, Nat.zero_le _⟩ (Nat.le_of_ble_eq_true rfl) dX10_leaveFinding_56 (fun H locs w => ?_)
        refine lv_iconst (pc := 59) (v := 1) hx hb dX10_leaveFinding_59 (by decide) ?_
        refine lv_ixor (pc := 60) hx hb dX10_leaveFinding_60 ?_
        obtain ⟨r8, S7, hc, h⟩ := bnd_t h
        refine s_cvi (pc := 61) [.int (r6 ^^^ (1 : Int32))] (fun ad => [.ref (ad 7), .int (r6 ^^^ (1 : Int32))]) F w (m_X10_looksOut _ _ _ _ hc) rfl rfl hl.1 ds_7 vc_X10 rfl ok_X10_looksOut rfl kc_X10_looksOut kl_X10_116 ki_X10_looksOut kv_X10_looksOut kn_X10 ⟨Nat.le_trans (by decide) hR1, Nat.le_trans (by decide) hR2⟩ ⟨Nat.zero_le _, Nat.zero_le _⟩ (Nat.le_of_ble_eq_true rfl) dX10_leaveFinding_61 (fun H locs w => ?_)
        refine lv_if_eq (pc := 64) (tgt := 71) hx hb dX10_leaveFinding_64 (by decide) (fun q => ?_) (fun q => ?_)
        · have h := ite_t q h
          refine lv_bipush (pc := 71) (v := 10) hx hb dX10_leaveFinding_71 (by decide) ?_
          exact s_iret F w h dX10_leaveFinding_73
        · have h := ite_f q h
          refine lv_iconst (pc := 67) (v := 0) hx hb dX10_leaveFinding_67 (by decide) ?_
          refine lv_goto (pc := 68) (tgt := 73) hx hb dX10_leaveFinding_68 (by decide) ?_
          exact s_iret F w h dX10_leaveFinding_73
    · have h := ite_f q h
      refine lv_aload_n (pc := 10) hx hb dX10_leaveFinding_10 rfl (lv_at hl 0 rfl) ?_
      refine s_getR (pc := 11) F w 2 ds_7 (j := 0) vc_X10 vi_X10 rfl (by decide) kf_X10_24 dX10_leaveFinding_11 ?_
      refine lv_aload_n (pc := 14) hx hb dX10_leaveFinding_14 rfl (lv_at hl 0 rfl) ?_
      refine lv_iload_n (pc := 15) hx hb dX10_leaveFinding_15 rfl (lv_at hl 1 rfl) ?_
      obtain ⟨r10, S9, hc, h⟩ := bnd_t h
      refine s_cvi (pc := 16) [.int x1] (fun ad => [.ref (ad 7), .int x1]) F w (m_X10_inLine _ _ _ _ hc) rfl rfl hl.1 ds_7 vc_X10 rfl ok_X10_inLine rfl kc_X10_inLine kl_X10_47 ki_X10_inLine kv_X10_inLine kn_X10 ⟨Nat.le_trans (by decide) hR1, Nat.le_trans (by decide) hR2⟩ ⟨Nat.zero_le _, Nat.zero_le _⟩ (Nat.le_of_ble_eq_true rfl) dX10_leaveFinding_16 (fun H locs w => ?_)
      refine lv_bipush (pc := 19) (v := 10) hx hb dX10_leaveFinding_19 (by decide) ?_
      obtain ⟨r12, S11, hc, h⟩ := bnd_t h
      refine s_cvi (pc := 21) [.int r10, .int (10 : Int32)] (fun ad => [.ref (ad 2), .int r10, .int (10 : Int32)]) F w (m_X8_get _ _ _ _ _ hc) rfl rfl hl.1 ds_2 vc_X8 rfl ok_X8_get rfl kc_X8_get kl_X10_36 ki_X8_get kv_X8_get kn_X8 ⟨Nat.le_trans (by decide) hR1, Nat.le_trans (by decide) hR2⟩ ⟨Nat.zero_le _, Nat.zero_le _⟩ (Nat.le_of_ble_eq_true rfl) dX10_leaveFinding_21 (fun H locs w => ?_)
      refine lv_if_ne (pc := 24) (tgt := 30) hx hb dX10_leaveFinding_24 (by decide) (fun q => ?_) (fun q => ?_)
      · have h := ite_f q h
        refine s_nm h (fun z13 ez13 h => ?_)
        refine lv_iinc (pc := 30) (v := z13) (lv' := [(1, .int z13), (0, .ref (ad 7))]) hx hb dX10_leaveFinding_30 hl (k := 1) rfl (by rw [ez13]; rfl) (by decide) rfl (fun ls hl => ?_)
        refine lv_goto (pc := 33) (tgt := 2) hx hb dX10_leaveFinding_33 (by decide) ?_
        exact ih _ _ h _ _ _ w (lv_sub hl [1, 0] rfl)
      · have h := ite_t q h
        refine lv_bipush (pc := 27) (v := 17) hx hb dX10_leaveFinding_27 (by decide) ?_
        exact s_iret F w h dX10_leaveFinding_29
set_option maxRecDepth 100000 in
set_option maxHeartbeats 4000000 in
theorem m_X10_leaveFinding  (S S' : SS) (r : Int32) (h : f_X10_leaveFinding  S = some (r, S')) : MT yX10_leaveFinding cX10_leaveFinding 2 (some .int) 4 89 (fun ad => [.ref (ad 7)]) S (some (.int r)) S' := by
  refine MT.of RX10 (fun ad => [(0, .ref (ad 7))]) (by decide) rfl (fun _ => Nat.le_of_ble_eq_true rfl) (fun _ => rfl) ?_
  intro p l e R s m args below meth c dC dI cs ad A hR1 hR2 F H locs ls w hl
  have hx := F.1.1
  have hb := F.1.2.1
  rw [f_X10_leaveFinding] at h
  refine lv_iconst (pc := 0) (v := 0) hx hb dX10_leaveFinding_0 (by decide) ?_
  refine lv_istore_n (pc := 1) (lv' := [(1, .int (0 : Int32)), (0, .ref (ad 7))]) hx hb dX10_leaveFinding_1 rfl hl (by decide) rfl (fun ls hl => ?_)
  exact w_X10_leaveFinding_L2 F (Nat.le_trans (by decide) hR1) (Nat.le_trans (by decide) hR2) _ _ _ h _ _ _ w (lv_sub hl [1, 0] rfl)
def f_X11_leaveYard_j30  (x2 : Int32) (S : SS) : Option (Int32 × SS) :=
    if x2 = 0 then
      bndv (f_X10_setLine (0 : Int32) (-1 : Int32) S) (fun S3 =>
      some (S3.1 7 4, S3))
    else
      bnd (f_X5_found x2 S) (fun r5 S4 =>
      some (r5, S4))
def f_X11_leaveYard (a1 : Int32) (S : SS) : Option (Int32 × SS) :=
  bnd (f_X11_named a1 (96 : Int32) S) (fun r2 S1 =>
  if r2 = 0 then
    bndv (f_X10_lineUp ((2 : Int32) * a1) S1) (fun S6 =>
    bnd (f_X10_leaveFinding  S6) (fun r8 S7 =>
    f_X11_leaveYard_j30 r8 S7))
  else
    f_X11_leaveYard_j30 r2 S1)
theorem dX11_leaveYard_0 : decode cX11_leaveYard 0 = .ok (.aload_n 0, 1) := by decide +kernel
theorem dX11_leaveYard_1 : decode cX11_leaveYard 1 = .ok (.iload_n 1, 1) := by decide +kernel
theorem dX11_leaveYard_2 : decode cX11_leaveYard 2 = .ok (.bipush 96, 2) := by decide +kernel
theorem dX11_leaveYard_4 : decode cX11_leaveYard 4 = .ok (.invokevirtual 185, 3) := by decide +kernel
theorem dX11_leaveYard_7 : decode cX11_leaveYard 7 = .ok (.istore_n 2, 1) := by decide +kernel
theorem dX11_leaveYard_8 : decode cX11_leaveYard 8 = .ok (.iload_n 2, 1) := by decide +kernel
theorem dX11_leaveYard_9 : decode cX11_leaveYard 9 = .ok (.ifCond .ne 21, 3) := by decide +kernel
theorem dX11_leaveYard_12 : decode cX11_leaveYard 12 = .ok (.aload_n 0, 1) := by decide +kernel
theorem dX11_leaveYard_13 : decode cX11_leaveYard 13 = .ok (.getfield 58, 3) := by decide +kernel
theorem dX11_leaveYard_16 : decode cX11_leaveYard 16 = .ok (.iconst 2, 1) := by decide +kernel
theorem dX11_leaveYard_17 : decode cX11_leaveYard 17 = .ok (.iload_n 1, 1) := by decide +kernel
theorem dX11_leaveYard_18 : decode cX11_leaveYard 18 = .ok (.imul, 1) := by decide +kernel
theorem dX11_leaveYard_19 : decode cX11_leaveYard 19 = .ok (.invokevirtual 281, 3) := by decide +kernel
theorem dX11_leaveYard_22 : decode cX11_leaveYard 22 = .ok (.aload_n 0, 1) := by decide +kernel
theorem dX11_leaveYard_23 : decode cX11_leaveYard 23 = .ok (.getfield 58, 3) := by decide +kernel
theorem dX11_leaveYard_26 : decode cX11_leaveYard 26 = .ok (.invokevirtual 332, 3) := by decide +kernel
theorem dX11_leaveYard_29 : decode cX11_leaveYard 29 = .ok (.istore_n 2, 1) := by decide +kernel
theorem dX11_leaveYard_30 : decode cX11_leaveYard 30 = .ok (.iload_n 2, 1) := by decide +kernel
theorem dX11_leaveYard_31 : decode cX11_leaveYard 31 = .ok (.ifCond .eq 12, 3) := by decide +kernel
theorem dX11_leaveYard_34 : decode cX11_leaveYard 34 = .ok (.aload_n 0, 1) := by decide +kernel
theorem dX11_leaveYard_35 : decode cX11_leaveYard 35 = .ok (.getfield 10, 3) := by decide +kernel
theorem dX11_leaveYard_38 : decode cX11_leaveYard 38 = .ok (.iload_n 2, 1) := by decide +kernel
theorem dX11_leaveYard_39 : decode cX11_leaveYard 39 = .ok (.invokevirtual 98, 3) := by decide +kernel
theorem dX11_leaveYard_42 : decode cX11_leaveYard 42 = .ok (.ireturn, 1) := by decide +kernel
theorem dX11_leaveYard_43 : decode cX11_leaveYard 43 = .ok (.aload_n 0, 1) := by decide +kernel
theorem dX11_leaveYard_44 : decode cX11_leaveYard 44 = .ok (.getfield 58, 3) := by decide +kernel
theorem dX11_leaveYard_47 : decode cX11_leaveYard 47 = .ok (.iconst 0, 1) := by decide +kernel
theorem dX11_leaveYard_48 : decode cX11_leaveYard 48 = .ok (.iconst (-1), 1) := by decide +kernel
theorem dX11_leaveYard_49 : decode cX11_leaveYard 49 = .ok (.invokevirtual 329, 3) := by decide +kernel
theorem dX11_leaveYard_52 : decode cX11_leaveYard 52 = .ok (.aload_n 0, 1) := by decide +kernel
theorem dX11_leaveYard_53 : decode cX11_leaveYard 53 = .ok (.getfield 58, 3) := by decide +kernel
theorem dX11_leaveYard_56 : decode cX11_leaveYard 56 = .ok (.getfield 296, 3) := by decide +kernel
theorem dX11_leaveYard_59 : decode cX11_leaveYard 59 = .ok (.ireturn, 1) := by decide +kernel
set_option maxRecDepth 100000 in
set_option maxHeartbeats 4000000 in
theorem w_X11_leaveYard_j30 {p : Program} {l : Launch} {e : Env} {R : Room} {s : State} {m : MethodId} {args : Array Value} {below : List Frame} {meth : Method} {c : Code} {dC : Nat → ClassId} {dI : Nat → Nat → Nat} {cs : Nat → ClassId} {ad : Nat → Nat} {A : Nat → Prop} {D0 : Nat → Nat} {S' : SS} {r : Int32} (F : Fx p s m args meth c cX11_leaveYard 3 RX11 (some .int) dC dI cs A) (hR1 : 3 ≤ R.frames) (hR2 : 66 ≤ R.locals) (x2 : Int32) (S : SS) (h : f_X11_leaveYard_j30 x2 S = some (r, S')) : AW p l e R s m args below meth c dC dI cs ad A D0 (some (.int r)) S' 3 30 [(0, .ref (ad 0)), (2, .int x2)] [] S := by
  have hx := F.1.1
  have hb := F.1.2.1
  intro H locs ls w hl
  rw [f_X11_leaveYard_j30] at h
  refine lv_iload_n (pc := 30) hx hb dX11_leaveYard_30 rfl (lv_at hl 1 rfl) ?_
  refine lv_if_eq (pc := 31) (tgt := 43) hx hb dX11_leaveYard_31 (by decide) (fun q => ?_) (fun q => ?_)
  · have h := ite_t q h
    refine lv_aload_n (pc := 43) hx hb dX11_leaveYard_43 rfl (lv_at hl 0 rfl) ?_
    refine s_getR (pc := 44) F w 7 ds_0 (j := 6) vc_X11 vi_X11 rfl (by decide) kf_X11_58 dX11_leaveYard_44 ?_
    refine lv_iconst (pc := 47) (v := 0) hx hb dX11_leaveYard_47 (by decide) ?_
    refine lv_iconst (pc := 48) (v := -1) hx hb dX11_leaveYard_48 (by decide) ?_
    obtain ⟨S3, hc, h⟩ := bndv_t h
    refine s_cvv (pc := 49) [.int (0 : Int32), .int (-1 : Int32)] (fun ad => [.ref (ad 7), .int (0 : Int32), .int (-1 : Int32)]) F w (m_X10_setLine _ _ _ _ hc) rfl rfl hl.1 ds_7 vc_X10 rfl ok_X10_setLine rfl kc_X10_setLine kl_X11_329 ki_X10_setLine kv_X10_setLine kn_X10 ⟨Nat.le_trans (by decide) hR1, Nat.le_trans (by decide) hR2⟩ ⟨Nat.zero_le _, Nat.zero_le _⟩ (Nat.le_of_ble_eq_true rfl) dX11_leaveYard_49 (fun H locs w => ?_)
    refine lv_aload_n (pc := 52) hx hb dX11_leaveYard_52 rfl (lv_at hl 0 rfl) ?_
    refine s_getR (pc := 53) F w 7 ds_0 (j := 6) vc_X11 vi_X11 rfl (by decide) kf_X11_58 dX11_leaveYard_53 ?_
    refine s_getI (pc := 56) F w ds_7 (j := 4) vc_X10 vi_X10 rfl (by decide) kf_X11_296 dX11_leaveYard_56 ?_
    exact s_iret F w h dX11_leaveYard_59
  · have h := ite_f q h
    refine lv_aload_n (pc := 34) hx hb dX11_leaveYard_34 rfl (lv_at hl 0 rfl) ?_
    refine s_getR (pc := 35) F w 1 ds_0 (j := 0) vc_X11 vi_X11 rfl (by decide) kf_X11_10 dX11_leaveYard_35 ?_
    refine lv_iload_n (pc := 38) hx hb dX11_leaveYard_38 rfl (lv_at hl 1 rfl) ?_
    obtain ⟨r5, S4, hc, h⟩ := bnd_t h
    refine s_cvi (pc := 39) [.int x2] (fun ad => [.ref (ad 1), .int x2]) F w (m_X5_found _ _ _ _ hc) rfl rfl hl.1 ds_1 vc_X5 rfl ok_X5_found rfl kc_X5_found kl_X11_98 ki_X5_found kv_X5_found kn_X5 ⟨Nat.le_trans (by decide) hR1, Nat.le_trans (by decide) hR2⟩ ⟨Nat.zero_le _, Nat.zero_le _⟩ (Nat.le_of_ble_eq_true rfl) dX11_leaveYard_39 (fun H locs w => ?_)
    exact s_iret F w h dX11_leaveYard_42
set_option maxRecDepth 100000 in
set_option maxHeartbeats 4000000 in
theorem m_X11_leaveYard (a1 : Int32) (S S' : SS) (r : Int32) (h : f_X11_leaveYard a1 S = some (r, S')) : MT yX11_leaveYard cX11_leaveYard 3 (some .int) 5 110 (fun ad => [.ref (ad 0), .int a1]) S (some (.int r)) S' := by
  refine MT.of RX11 (fun ad => [(0, .ref (ad 0)), (1, .int a1)]) (by decide) rfl (fun _ => Nat.le_of_ble_eq_true rfl) (fun _ => rfl) ?_
  intro p l e R s m args below meth c dC dI cs ad A hR1 hR2 F H locs ls w hl
  have hx := F.1.1
  have hb := F.1.2.1
  rw [f_X11_leaveYard] at h
  refine lv_aload_n (pc := 0) hx hb dX11_leaveYard_0 rfl (lv_at hl 0 rfl) ?_
  refine lv_iload_n (pc := 1) hx hb dX11_leaveYard_1 rfl (lv_at hl 1 rfl) ?_
  refine lv_bipush (pc := 2) (v := 96) hx hb dX11_leaveYard_2 (by decide) ?_
  obtain ⟨r2, S1, hc, h⟩ := bnd_t h
  refine s_cvi (pc := 4) [.int a1, .int (96 : Int32)] (fun ad => [.ref (ad 0), .int a1, .int (96 : Int32)]) F w (m_X11_named _ _ _ _ _ hc) rfl rfl hl.1 ds_0 vc_X11 rfl ok_X11_named rfl kc_X11_named kl_X11_185 ki_X11_named kv_X11_named kn_X11 ⟨Nat.le_trans (by decide) hR1, Nat.le_trans (by decide) hR2⟩ ⟨Nat.zero_le _, Nat.zero_le _⟩ (Nat.le_of_ble_eq_true rfl) dX11_leaveYard_4 (fun H locs w => ?_)
  refine lv_istore_n (pc := 7) (lv' := [(2, .int r2), (0, .ref (ad 0)), (1, .int a1)]) hx hb dX11_leaveYard_7 rfl hl (by decide) rfl (fun ls hl => ?_)
  refine lv_iload_n (pc := 8) hx hb dX11_leaveYard_8 rfl (lv_at hl 0 rfl) ?_
  refine lv_if_ne (pc := 9) (tgt := 30) hx hb dX11_leaveYard_9 (by decide) (fun q => ?_) (fun q => ?_)
  · have h := ite_f q h
    exact w_X11_leaveYard_j30 F (Nat.le_trans (by decide) hR1) (Nat.le_trans (by decide) hR2) _ _ h _ _ _ w (lv_sub hl [1, 0] rfl)
  · have h := ite_t q h
    refine lv_aload_n (pc := 12) hx hb dX11_leaveYard_12 rfl (lv_at hl 1 rfl) ?_
    refine s_getR (pc := 13) F w 7 ds_0 (j := 6) vc_X11 vi_X11 rfl (by decide) kf_X11_58 dX11_leaveYard_13 ?_
    refine lv_iconst (pc := 16) (v := 2) hx hb dX11_leaveYard_16 (by decide) ?_
    refine lv_iload_n (pc := 17) hx hb dX11_leaveYard_17 rfl (lv_at hl 2 rfl) ?_
    refine lv_imul (pc := 18) hx hb dX11_leaveYard_18 ?_
    obtain ⟨S6, hc, h⟩ := bndv_t h
    refine s_cvv (pc := 19) [.int ((2 : Int32) * a1)] (fun ad => [.ref (ad 7), .int ((2 : Int32) * a1)]) F w (m_X10_lineUp _ _ _ hc) rfl rfl hl.1 ds_7 vc_X10 rfl ok_X10_lineUp rfl kc_X10_lineUp kl_X11_281 ki_X10_lineUp kv_X10_lineUp kn_X10 ⟨Nat.le_trans (by decide) hR1, Nat.le_trans (by decide) hR2⟩ ⟨Nat.zero_le _, Nat.zero_le _⟩ (Nat.le_of_ble_eq_true rfl) dX11_leaveYard_19 (fun H locs w => ?_)
    refine lv_aload_n (pc := 22) hx hb dX11_leaveYard_22 rfl (lv_at hl 1 rfl) ?_
    refine s_getR (pc := 23) F w 7 ds_0 (j := 6) vc_X11 vi_X11 rfl (by decide) kf_X11_58 dX11_leaveYard_23 ?_
    obtain ⟨r8, S7, hc, h⟩ := bnd_t h
    refine s_cvi (pc := 26) [] (fun ad => [.ref (ad 7)]) F w (m_X10_leaveFinding  _ _ _ hc) rfl rfl hl.1 ds_7 vc_X10 rfl ok_X10_leaveFinding rfl kc_X10_leaveFinding kl_X11_332 ki_X10_leaveFinding kv_X10_leaveFinding kn_X10 ⟨Nat.le_trans (by decide) hR1, Nat.le_trans (by decide) hR2⟩ ⟨Nat.zero_le _, Nat.zero_le _⟩ (Nat.le_of_ble_eq_true rfl) dX11_leaveYard_26 (fun H locs w => ?_)
    refine lv_istore_n (pc := 29) (lv' := [(2, .int r8), (0, .ref (ad 0)), (1, .int a1)]) hx hb dX11_leaveYard_29 rfl hl (by decide) rfl (fun ls hl => ?_)
    exact w_X11_leaveYard_j30 F (Nat.le_trans (by decide) hR1) (Nat.le_trans (by decide) hR2) _ _ h _ _ _ w (lv_sub hl [1, 0] rfl)
def f_X11_leave (a1 : Int32) (S : SS) : Option (Int32 × SS) :=
  bndv (f_X11_beginAct  S) (fun S1 =>
  bnd (f_X11_leaveYard a1 S1) (fun r3 S2 =>
  bnd (f_X11_endAct (12 : Int32) r3 S2) (fun r5 S4 =>
  some (r5, S4))))
theorem dX11_leave_0 : decode cX11_leave 0 = .ok (.aload_n 0, 1) := by decide +kernel
theorem dX11_leave_1 : decode cX11_leave 1 = .ok (.invokevirtual 199, 3) := by decide +kernel
theorem dX11_leave_4 : decode cX11_leave 4 = .ok (.aload_n 0, 1) := by decide +kernel
theorem dX11_leave_5 : decode cX11_leave 5 = .ok (.bipush 12, 2) := by decide +kernel
theorem dX11_leave_7 : decode cX11_leave 7 = .ok (.aload_n 0, 1) := by decide +kernel
theorem dX11_leave_8 : decode cX11_leave 8 = .ok (.iload_n 1, 1) := by decide +kernel
theorem dX11_leave_9 : decode cX11_leave 9 = .ok (.invokevirtual 241, 3) := by decide +kernel
theorem dX11_leave_12 : decode cX11_leave 12 = .ok (.invokevirtual 205, 3) := by decide +kernel
theorem dX11_leave_15 : decode cX11_leave 15 = .ok (.ireturn, 1) := by decide +kernel
set_option maxRecDepth 100000 in
set_option maxHeartbeats 4000000 in
theorem m_X11_leave (a1 : Int32) (S S' : SS) (r : Int32) (h : f_X11_leave a1 S = some (r, S')) : MT yX11_leave cX11_leave 2 (some .int) 6 132 (fun ad => [.ref (ad 0), .int a1]) S (some (.int r)) S' := by
  refine MT.of RX11 (fun ad => [(0, .ref (ad 0)), (1, .int a1)]) (by decide) rfl (fun _ => Nat.le_of_ble_eq_true rfl) (fun _ => rfl) ?_
  intro p l e R s m args below meth c dC dI cs ad A hR1 hR2 F H locs ls w hl
  have hx := F.1.1
  have hb := F.1.2.1
  rw [f_X11_leave] at h
  refine lv_aload_n (pc := 0) hx hb dX11_leave_0 rfl (lv_at hl 0 rfl) ?_
  obtain ⟨S1, hc, h⟩ := bndv_t h
  refine s_cvv (pc := 1) [] (fun ad => [.ref (ad 0)]) F w (m_X11_beginAct  _ _ hc) rfl rfl hl.1 ds_0 vc_X11 rfl ok_X11_beginAct rfl kc_X11_beginAct kl_X11_199 ki_X11_beginAct kv_X11_beginAct kn_X11 ⟨Nat.le_trans (by decide) hR1, Nat.le_trans (by decide) hR2⟩ ⟨Nat.zero_le _, Nat.zero_le _⟩ (Nat.le_of_ble_eq_true rfl) dX11_leave_1 (fun H locs w => ?_)
  refine lv_aload_n (pc := 4) hx hb dX11_leave_4 rfl (lv_at hl 0 rfl) ?_
  refine lv_bipush (pc := 5) (v := 12) hx hb dX11_leave_5 (by decide) ?_
  refine lv_aload_n (pc := 7) hx hb dX11_leave_7 rfl (lv_at hl 0 rfl) ?_
  refine lv_iload_n (pc := 8) hx hb dX11_leave_8 rfl (lv_at hl 1 rfl) ?_
  obtain ⟨r3, S2, hc, h⟩ := bnd_t h
  refine s_cvi (pc := 9) [.int a1] (fun ad => [.ref (ad 0), .int a1]) F w (m_X11_leaveYard _ _ _ _ hc) rfl rfl hl.1 ds_0 vc_X11 rfl ok_X11_leaveYard rfl kc_X11_leaveYard kl_X11_241 ki_X11_leaveYard kv_X11_leaveYard kn_X11 ⟨Nat.le_trans (by decide) hR1, Nat.le_trans (by decide) hR2⟩ ⟨Nat.zero_le _, Nat.zero_le _⟩ (Nat.le_of_ble_eq_true rfl) dX11_leave_9 (fun H locs w => ?_)
  obtain ⟨r5, S4, hc, h⟩ := bnd_t h
  refine s_cvi (pc := 12) [.int (12 : Int32), .int r3] (fun ad => [.ref (ad 0), .int (12 : Int32), .int r3]) F w (m_X11_endAct _ _ _ _ _ hc) rfl rfl hl.1 ds_0 vc_X11 rfl ok_X11_endAct rfl kc_X11_endAct kl_X11_205 ki_X11_endAct kv_X11_endAct kn_X11 ⟨Nat.le_trans (by decide) hR1, Nat.le_trans (by decide) hR2⟩ ⟨Nat.zero_le _, Nat.zero_le _⟩ (Nat.le_of_ble_eq_true rfl) dX11_leave_12 (fun H locs w => ?_)
  exact s_iret F w h dX11_leave_15
def f_X12_mayLeave (a1 : Int32) (a2 : Int32) (S : SS) : Option (Int32 × SS) :=
  grd (inb a1 72) (
  bnd (f_X12_wayOf a1 a2 S) (fun r2 S1 =>
  nm (((2 : Int32) * (S.1 87 a1.toNatClampNeg)) + r2) (fun z3 =>
  grd (inb z3 48) (
  if (S1.1 71 z3.toNatClampNeg) = 0 then
    some ((0 : Int32), S1)
  else
    grd (inb a1 72) (
    bnd (f_X12_placeAtEnd z3 S1) (fun r5 S4 =>
    if (S1.1 88 a1.toNatClampNeg) = r5 then
      some ((1 : Int32), S4)
    else
      some ((0 : Int32), S4)))))))
theorem dX12_mayLeave_0 : decode cX12_mayLeave 0 = .ok (.iconst 2, 1) := by decide +kernel
theorem dX12_mayLeave_1 : decode cX12_mayLeave 1 = .ok (.aload_n 0, 1) := by decide +kernel
theorem dX12_mayLeave_2 : decode cX12_mayLeave 2 = .ok (.getfield 75, 3) := by decide +kernel
theorem dX12_mayLeave_5 : decode cX12_mayLeave 5 = .ok (.iload_n 1, 1) := by decide +kernel
theorem dX12_mayLeave_6 : decode cX12_mayLeave 6 = .ok (.iaload, 1) := by decide +kernel
theorem dX12_mayLeave_7 : decode cX12_mayLeave 7 = .ok (.imul, 1) := by decide +kernel
theorem dX12_mayLeave_8 : decode cX12_mayLeave 8 = .ok (.aload_n 0, 1) := by decide +kernel
theorem dX12_mayLeave_9 : decode cX12_mayLeave 9 = .ok (.iload_n 1, 1) := by decide +kernel
theorem dX12_mayLeave_10 : decode cX12_mayLeave 10 = .ok (.iload_n 2, 1) := by decide +kernel
theorem dX12_mayLeave_11 : decode cX12_mayLeave 11 = .ok (.invokevirtual 368, 3) := by decide +kernel
theorem dX12_mayLeave_14 : decode cX12_mayLeave 14 = .ok (.iadd, 1) := by decide +kernel
theorem dX12_mayLeave_15 : decode cX12_mayLeave 15 = .ok (.istore_n 3, 1) := by decide +kernel
theorem dX12_mayLeave_16 : decode cX12_mayLeave 16 = .ok (.aload_n 0, 1) := by decide +kernel
theorem dX12_mayLeave_17 : decode cX12_mayLeave 17 = .ok (.getfield 26, 3) := by decide +kernel
theorem dX12_mayLeave_20 : decode cX12_mayLeave 20 = .ok (.iload_n 3, 1) := by decide +kernel
theorem dX12_mayLeave_21 : decode cX12_mayLeave 21 = .ok (.baload, 1) := by decide +kernel
theorem dX12_mayLeave_22 : decode cX12_mayLeave 22 = .ok (.ifCond .eq 21, 3) := by decide +kernel
theorem dX12_mayLeave_25 : decode cX12_mayLeave 25 = .ok (.aload_n 0, 1) := by decide +kernel
theorem dX12_mayLeave_26 : decode cX12_mayLeave 26 = .ok (.getfield 78, 3) := by decide +kernel
theorem dX12_mayLeave_29 : decode cX12_mayLeave 29 = .ok (.iload_n 1, 1) := by decide +kernel
theorem dX12_mayLeave_30 : decode cX12_mayLeave 30 = .ok (.iaload, 1) := by decide +kernel
theorem dX12_mayLeave_31 : decode cX12_mayLeave 31 = .ok (.aload_n 0, 1) := by decide +kernel
theorem dX12_mayLeave_32 : decode cX12_mayLeave 32 = .ok (.iload_n 3, 1) := by decide +kernel
theorem dX12_mayLeave_33 : decode cX12_mayLeave 33 = .ok (.invokevirtual 257, 3) := by decide +kernel
theorem dX12_mayLeave_36 : decode cX12_mayLeave 36 = .ok (.if_icmp .ne 7, 3) := by decide +kernel
theorem dX12_mayLeave_39 : decode cX12_mayLeave 39 = .ok (.iconst 1, 1) := by decide +kernel
theorem dX12_mayLeave_40 : decode cX12_mayLeave 40 = .ok (.goto 4, 3) := by decide +kernel
theorem dX12_mayLeave_43 : decode cX12_mayLeave 43 = .ok (.iconst 0, 1) := by decide +kernel
theorem dX12_mayLeave_44 : decode cX12_mayLeave 44 = .ok (.ireturn, 1) := by decide +kernel
set_option maxRecDepth 100000 in
set_option maxHeartbeats 4000000 in
theorem m_X12_mayLeave (a1 : Int32) (a2 : Int32) (S S' : SS) (r : Int32) (h : f_X12_mayLeave a1 a2 S = some (r, S')) : MT yX12_mayLeave cX12_mayLeave 4 (some .boolean) 1 22 (fun ad => [.ref (ad 14), .int a1, .int a2]) S (some (.int r)) S' := by
  refine MT.of RX12 (fun ad => [(0, .ref (ad 14)), (1, .int a1), (2, .int a2)]) (by decide) rfl (fun _ => Nat.le_of_ble_eq_true rfl) (fun _ => rfl) ?_
  intro p l e R s m args below meth c dC dI cs ad A hR1 hR2 F H locs ls w hl
  have hx := F.1.1
  have hb := F.1.2.1
  rw [f_X12_mayLeave] at h
  refine lv_iconst (pc := 0) (v := 2) hx hb dX12_mayLeave_0 (by decide) ?_
  refine lv_aload_n (pc := 1) hx hb dX12_mayLeave_1 rfl (lv_at hl 0 rfl) ?_
  refine s_getR (pc := 2) F w 87 ds_14 (j := 32) vc_X12 vi_X12 rfl (by decide) kf_X12_75 dX12_mayLeave_2 ?_
  refine lv_iload_n (pc := 5) hx hb dX12_mayLeave_5 rfl (lv_at hl 1 rfl) ?_
  refine s_iald (pc := 6) F w ds_87 h dX12_mayLeave_6 (fun h => ?_)
  refine lv_imul (pc := 7) hx hb dX12_mayLeave_7 ?_
  refine lv_aload_n (pc := 8) hx hb dX12_mayLeave_8 rfl (lv_at hl 0 rfl) ?_
  refine lv_iload_n (pc := 9) hx hb dX12_mayLeave_9 rfl (lv_at hl 1 rfl) ?_
  refine lv_iload_n (pc := 10) hx hb dX12_mayLeave_10 rfl (lv_at hl 2 rfl) ?_
  obtain ⟨r2, S1, hc, h⟩ := bnd_t h
  refine s_cvi (pc := 11) [.int a1, .int a2] (fun ad => [.ref (ad 14), .int a1, .int a2]) F w (m_X12_wayOf _ _ _ _ _ hc) rfl rfl hl.1 ds_14 vc_X12 rfl ok_X12_wayOf rfl kc_X12_wayOf kl_X12_368 ki_X12_wayOf kv_X12_wayOf kn_X12 ⟨Nat.le_trans (by decide) hR1, Nat.le_trans (by decide) hR2⟩ ⟨Nat.zero_le _, Nat.zero_le _⟩ (Nat.le_of_ble_eq_true rfl) dX12_mayLeave_11 (fun H locs w => ?_)
  refine lv_iadd (pc := 14) hx hb dX12_mayLeave_14 ?_
  refine s_nm h (fun z3 ez3 h => ?_)
  rw [← ez3]
  refine lv_istore_n (pc := 15) (lv' := [(3, .int z3), (0, .ref (ad 14)), (1, .int a1), (2, .int a2)]) hx hb dX12_mayLeave_15 rfl hl (by decide) rfl (fun ls hl => ?_)
  refine lv_aload_n (pc := 16) hx hb dX12_mayLeave_16 rfl (lv_at hl 1 rfl) ?_
  refine s_getR (pc := 17) F w 71 ds_14 (j := 9) vc_X12 vi_X12 rfl (by decide) kf_X12_26 dX12_mayLeave_17 ?_
  refine lv_iload_n (pc := 20) hx hb dX12_mayLeave_20 rfl (lv_at hl 0 rfl) ?_
  refine s_zald (pc := 21) F w ds_71 h dX12_mayLeave_21 (fun h => ?_)
  refine lv_if_eq (pc := 22) (tgt := 43) hx hb dX12_mayLeave_22 (by decide) (fun q => ?_) (fun q => ?_)
  · have h := ite_t q h
    refine lv_iconst (pc := 43) (v := 0) hx hb dX12_mayLeave_43 (by decide) ?_
    exact s_zretc F w rfl h dX12_mayLeave_44
  · have h := ite_f q h
    refine lv_aload_n (pc := 25) hx hb dX12_mayLeave_25 rfl (lv_at hl 1 rfl) ?_
    refine s_getR (pc := 26) F w 88 ds_14 (j := 33) vc_X12 vi_X12 rfl (by decide) kf_X12_78 dX12_mayLeave_26 ?_
    refine lv_iload_n (pc := 29) hx hb dX12_mayLeave_29 rfl (lv_at hl 2 rfl) ?_
    refine s_iald (pc := 30) F w ds_88 h dX12_mayLeave_30 (fun h => ?_)
    refine lv_aload_n (pc := 31) hx hb dX12_mayLeave_31 rfl (lv_at hl 1 rfl) ?_
    refine lv_iload_n (pc := 32) hx hb dX12_mayLeave_32 rfl (lv_at hl 0 rfl) ?_
    obtain ⟨r5, S4, hc, h⟩ := bnd_t h
    refine s_cvi (pc := 33) [.int z3] (fun ad => [.ref (ad 14), .int z3]) F w (m_X12_placeAtEnd _ _ _ _ hc) rfl rfl hl.1 ds_14 vc_X12 rfl ok_X12_placeAtEnd rfl kc_X12_placeAtEnd kl_X12_257 ki_X12_placeAtEnd kv_X12_placeAtEnd kn_X12 ⟨Nat.le_trans (by decide) hR1, Nat.le_trans (by decide) hR2⟩ ⟨Nat.zero_le _, Nat.zero_le _⟩ (Nat.le_of_ble_eq_true rfl) dX12_mayLeave_33 (fun H locs w => ?_)
    refine lv_icmp_ne (pc := 36) (tgt := 43) hx hb dX12_mayLeave_36 (by decide) (fun q => ?_) (fun q => ?_)
    · have h := ite_f q h
      refine lv_iconst (pc := 43) (v := 0) hx hb dX12_mayLeave_43 (by decide) ?_
      exact s_zretc F w rfl h dX12_mayLeave_44
    · have h := ite_t q h
      refine lv_iconst (pc := 39) (v := 1) hx hb dX12_mayLeave_39 (by decide) ?_
      refine lv_goto (pc := 40) (tgt := 44) hx hb dX12_mayLeave_40 (by decide) ?_
      exact s_zretc F w rfl h dX12_mayLeave_44
def f_X12_missLeave_L20  : Nat → Int32 → SS → Option (Int32 × SS)
  | 0, _, _ => none
  | n + 1, x3, S =>
    if (S.1 14 56) ≤ x3 then
      grd (inb (0 : Int32) 72) (
      bnd (f_X12_mayLeave (S.1 106 (0 : Int32).toNatClampNeg) (S.1 14 57) S) (fun r5 S4 =>
      if r5 = 0 then
        grd (inb ((S4.1 14 56) - (1 : Int32)) 72) (
        bnd (f_X12_mayLeave (S4.1 106 ((S4.1 14 56) - (1 : Int32)).toNatClampNeg) (S4.1 14 58) S4) (fun r7 S6 =>
        if r7 = 0 then
          some ((10 : Int32), S6)
        else
          some ((0 : Int32), S6)))
      else
        some ((0 : Int32), S4)))
    else
      grd (inb x3 72) (
      grd (inb (S.1 106 x3.toNatClampNeg) 72) (
      if (S.1 101 (S.1 106 x3.toNatClampNeg).toNatClampNeg) = 0 then
        some ((17 : Int32), S)
      else
        nm (x3 + (1 : Int32)) (fun z8 =>
        f_X12_missLeave_L20 n z8 S)))
def f_X12_missLeave (a1 : Int32) (S : SS) : Option (Int32 × SS) :=
  bnd (f_X12_missThing a1 (2 : Int32) S) (fun r2 S1 =>
  if r2 = 0 then
    bndv (f_X12_lineUp a1 S1) (fun S3 =>
    f_X12_missLeave_L20 NF (0 : Int32) S3)
  else
    some (r2, S1))
theorem dX12_missLeave_0 : decode cX12_missLeave 0 = .ok (.aload_n 0, 1) := by decide +kernel
theorem dX12_missLeave_1 : decode cX12_missLeave 1 = .ok (.iload_n 1, 1) := by decide +kernel
theorem dX12_missLeave_2 : decode cX12_missLeave 2 = .ok (.iconst 2, 1) := by decide +kernel
theorem dX12_missLeave_3 : decode cX12_missLeave 3 = .ok (.invokevirtual 293, 3) := by decide +kernel
theorem dX12_missLeave_6 : decode cX12_missLeave 6 = .ok (.istore_n 2, 1) := by decide +kernel
theorem dX12_missLeave_7 : decode cX12_missLeave 7 = .ok (.iload_n 2, 1) := by decide +kernel
theorem dX12_missLeave_8 : decode cX12_missLeave 8 = .ok (.ifCond .eq 5, 3) := by decide +kernel
theorem dX12_missLeave_11 : decode cX12_missLeave 11 = .ok (.iload_n 2, 1) := by decide +kernel
theorem dX12_missLeave_12 : decode cX12_missLeave 12 = .ok (.ireturn, 1) := by decide +kernel
theorem dX12_missLeave_13 : decode cX12_missLeave 13 = .ok (.aload_n 0, 1) := by decide +kernel
theorem dX12_missLeave_14 : decode cX12_missLeave 14 = .ok (.iload_n 1, 1) := by decide +kernel
theorem dX12_missLeave_15 : decode cX12_missLeave 15 = .ok (.invokevirtual 325, 3) := by decide +kernel
theorem dX12_missLeave_18 : decode cX12_missLeave 18 = .ok (.iconst 0, 1) := by decide +kernel
theorem dX12_missLeave_19 : decode cX12_missLeave 19 = .ok (.istore_n 3, 1) := by decide +kernel
theorem dX12_missLeave_20 : decode cX12_missLeave 20 = .ok (.iload_n 3, 1) := by decide +kernel
theorem dX12_missLeave_21 : decode cX12_missLeave 21 = .ok (.aload_n 0, 1) := by decide +kernel
theorem dX12_missLeave_22 : decode cX12_missLeave 22 = .ok (.getfield 319, 3) := by decide +kernel
theorem dX12_missLeave_25 : decode cX12_missLeave 25 = .ok (.if_icmp .ge 26, 3) := by decide +kernel
theorem dX12_missLeave_28 : decode cX12_missLeave 28 = .ok (.aload_n 0, 1) := by decide +kernel
theorem dX12_missLeave_29 : decode cX12_missLeave 29 = .ok (.getfield 117, 3) := by decide +kernel
theorem dX12_missLeave_32 : decode cX12_missLeave 32 = .ok (.aload_n 0, 1) := by decide +kernel
theorem dX12_missLeave_33 : decode cX12_missLeave 33 = .ok (.getfield 132, 3) := by decide +kernel
theorem dX12_missLeave_36 : decode cX12_missLeave 36 = .ok (.iload_n 3, 1) := by decide +kernel
theorem dX12_missLeave_37 : decode cX12_missLeave 37 = .ok (.iaload, 1) := by decide +kernel
theorem dX12_missLeave_38 : decode cX12_missLeave 38 = .ok (.baload, 1) := by decide +kernel
theorem dX12_missLeave_39 : decode cX12_missLeave 39 = .ok (.ifCond .ne 6, 3) := by decide +kernel
theorem dX12_missLeave_42 : decode cX12_missLeave 42 = .ok (.bipush 17, 2) := by decide +kernel
theorem dX12_missLeave_44 : decode cX12_missLeave 44 = .ok (.ireturn, 1) := by decide +kernel
theorem dX12_missLeave_45 : decode cX12_missLeave 45 = .ok (.iinc 3 1, 3) := by decide +kernel
theorem dX12_missLeave_48 : decode cX12_missLeave 48 = .ok (.goto (-28), 3) := by decide +kernel
theorem dX12_missLeave_51 : decode cX12_missLeave 51 = .ok (.aload_n 0, 1) := by decide +kernel
theorem dX12_missLeave_52 : decode cX12_missLeave 52 = .ok (.aload_n 0, 1) := by decide +kernel
theorem dX12_missLeave_53 : decode cX12_missLeave 53 = .ok (.getfield 132, 3) := by decide +kernel
theorem dX12_missLeave_56 : decode cX12_missLeave 56 = .ok (.iconst 0, 1) := by decide +kernel
theorem dX12_missLeave_57 : decode cX12_missLeave 57 = .ok (.iaload, 1) := by decide +kernel
theorem dX12_missLeave_58 : decode cX12_missLeave 58 = .ok (.aload_n 0, 1) := by decide +kernel
theorem dX12_missLeave_59 : decode cX12_missLeave 59 = .ok (.getfield 316, 3) := by decide +kernel
theorem dX12_missLeave_62 : decode cX12_missLeave 62 = .ok (.invokevirtual 441, 3) := by decide +kernel
theorem dX12_missLeave_65 : decode cX12_missLeave 65 = .ok (.ifCond .ne 25, 3) := by decide +kernel
theorem dX12_missLeave_68 : decode cX12_missLeave 68 = .ok (.aload_n 0, 1) := by decide +kernel
theorem dX12_missLeave_69 : decode cX12_missLeave 69 = .ok (.aload_n 0, 1) := by decide +kernel
theorem dX12_missLeave_70 : decode cX12_missLeave 70 = .ok (.getfield 132, 3) := by decide +kernel
theorem dX12_missLeave_73 : decode cX12_missLeave 73 = .ok (.aload_n 0, 1) := by decide +kernel
theorem dX12_missLeave_74 : decode cX12_missLeave 74 = .ok (.getfield 319, 3) := by decide +kernel
theorem dX12_missLeave_77 : decode cX12_missLeave 77 = .ok (.iconst 1, 1) := by decide +kernel
theorem dX12_missLeave_78 : decode cX12_missLeave 78 = .ok (.isub, 1) := by decide +kernel
theorem dX12_missLeave_79 : decode cX12_missLeave 79 = .ok (.iaload, 1) := by decide +kernel
theorem dX12_missLeave_80 : decode cX12_missLeave 80 = .ok (.aload_n 0, 1) := by decide +kernel
theorem dX12_missLeave_81 : decode cX12_missLeave 81 = .ok (.getfield 322, 3) := by decide +kernel
theorem dX12_missLeave_84 : decode cX12_missLeave 84 = .ok (.invokevirtual 441, 3) := by decide +kernel
theorem dX12_missLeave_87 : decode cX12_missLeave 87 = .ok (.ifCond .eq 7, 3) := by decide +kernel
theorem dX12_missLeave_90 : decode cX12_missLeave 90 = .ok (.iconst 0, 1) := by decide +kernel
theorem dX12_missLeave_91 : decode cX12_missLeave 91 = .ok (.goto 5, 3) := by decide +kernel
theorem dX12_missLeave_94 : decode cX12_missLeave 94 = .ok (.bipush 10, 2) := by decide +kernel
theorem dX12_missLeave_96 : decode cX12_missLeave 96 = .ok (.ireturn, 1) := by decide +kernel
set_option maxRecDepth 100000 in
set_option maxHeartbeats 4000000 in
theorem w_X12_missLeave_L20 {p : Program} {l : Launch} {e : Env} {R : Room} {s : State} {m : MethodId} {args : Array Value} {below : List Frame} {meth : Method} {c : Code} {dC : Nat → ClassId} {dI : Nat → Nat → Nat} {cs : Nat → ClassId} {ad : Nat → Nat} {A : Nat → Prop} {D0 : Nat → Nat} {S' : SS} {r : Int32} (F : Fx p s m args meth c cX12_missLeave 4 RX12 (some .int) dC dI cs A) (hR1 : 2 ≤ R.frames) (hR2 : 45 ≤ R.locals) : ∀ (n : Nat) (x3 : Int32) (S : SS), f_X12_missLeave_L20 n x3 S = some (r, S') → AW p l e R s m args below meth c dC dI cs ad A D0 (some (.int r)) S' 4 20 [(0, .ref (ad 14)), (3, .int x3)] [] S := by
  have hx := F.1.1
  have hb := F.1.2.1
  intro n
  induction n with
  | zero => intro x3 S h; cases h
  | succ n ih =>
    intro x3 S h H locs ls w hl
    rw [f_X12_missLeave_L20] at h
    refine lv_iload_n (pc := 20) hx hb dX12_missLeave_20 rfl (lv_at hl 1 rfl) ?_
    refine lv_aload_n (pc := 21) hx hb dX12_missLeave_21 rfl (lv_at hl 0 rfl) ?_
    refine s_getI (pc := 22) F w ds_14 (j := 56) vc_X12 vi_X12 rfl (by decide) kf_X12_319 dX12_missLeave_22 ?_
    refine lv_icmp_ge (pc := 25) (tgt := 51) hx hb dX12_missLeave_25 (by decide) (fun q => ?_) (fun q => ?_)
    · have h := ite_t q h
      refine lv_aload_n (pc := 51) hx hb dX12_missLeave_51 rfl (lv_at hl 0 rfl) ?_
      refine lv_aload_n (pc := 52) hx hb dX12_missLeave_52 rfl (lv_at hl 0 rfl) ?_
      refine s_getR (pc := 53) F w 106 ds_14 (j := 55) vc_X12 vi_X12 rfl (by decide) kf_X12_132 dX12_missLeave_53 ?_
      refine lv_iconst (pc := 56) (v := 0) hx hb dX12_missLeave_56 (by decide) ?_
      refine s_iald (pc := 57) F w ds_106 h dX12_missLeave_57 (fun h => ?_)
      refine lv_aload_n (pc := 58) hx hb dX12_missLeave_58 rfl (lv_at hl 0 rfl) ?_
      refine s_getI (pc := 59) F w ds_14 (j := 57) vc_X12 vi_X12 rfl (by decide) kf_X12_316 dX12_missLeave_59 ?_
      obtain ⟨r5, S4, hc, h⟩ := bnd_t h
      refine s_cvi (pc := 62) [.int (S.1 106 (0 : Int32).toNatClampNeg), .int (S.1 14 57)] (fun ad => [.ref (ad 14), .int (S.1 106 (0 : Int32).toNatClampNeg), .int (S.1 14 57)]) F w (m_X12_mayLeave _ _ _ _ _ hc) rfl rfl hl.1 ds_14 vc_X12 rfl ok_X12_mayLeave rfl kc_X12_mayLeave kl_X12_441 ki_X12_mayLeave kv_X12_mayLeave kn_X12 ⟨Nat.le_trans (by decide) hR1, Nat.le_trans (by decide) hR2⟩ ⟨Nat.zero_le _, Nat.zero_le _⟩ (Nat.le_of_ble_eq_true rfl) dX12_missLeave_62 (fun H locs w => ?_)
      refine lv_if_ne (pc := 65) (tgt := 90) hx hb dX12_missLeave_65 (by decide) (fun q => ?_) (fun q => ?_)
      · have h := ite_f q h
        refine lv_iconst (pc := 90) (v := 0) hx hb dX12_missLeave_90 (by decide) ?_
        refine lv_goto (pc := 91) (tgt := 96) hx hb dX12_missLeave_91 (by decide) ?_
        exact s_iret F w h dX12_missLeave_96
      · have h := ite_t q h
        refine lv_aload_n (pc := 68) hx hb dX12_missLeave_68 rfl (lv_at hl 0 rfl) ?_
        refine lv_aload_n (pc := 69) hx hb dX12_missLeave_69 rfl (lv_at hl 0 rfl) ?_
        refine s_getR (pc := 70) F w 106 ds_14 (j := 55) vc_X12 vi_X12 rfl (by decide) kf_X12_132 dX12_missLeave_70 ?_
        refine lv_aload_n (pc := 73) hx hb dX12_missLeave_73 rfl (lv_at hl 0 rfl) ?_
        refine s_getI (pc := 74) F w ds_14 (j := 56) vc_X12 vi_X12 rfl (by decide) kf_X12_319 dX12_missLeave_74 ?_
        refine lv_iconst (pc := 77) (v := 1) hx hb dX12_missLeave_77 (by decide) ?_
        refine lv_isub (pc := 78) hx hb dX12_missLeave_78 ?_
        refine s_iald (pc := 79) F w ds_106 h dX12_missLeave_79 (fun h => ?_)
        refine lv_aload_n (pc := 80) hx hb dX12_missLeave_80 rfl (lv_at hl 0 rfl) ?_
        refine s_getI (pc := 81) F w ds_14 (j := 58) vc_X12 vi_X12 rfl (by decide) kf_X12_322 dX12_missLeave_81 ?_
        obtain ⟨r7, S6, hc, h⟩ := bnd_t h
        refine s_cvi (pc := 84) [.int (S4.1 106 ((S4.1 14 56) - (1 : Int32)).toNatClampNeg), .int (S4.1 14 58)] (fun ad => [.ref (ad 14), .int (S4.1 106 ((S4.1 14 56) - (1 : Int32)).toNatClampNeg), .int (S4.1 14 58)]) F w (m_X12_mayLeave _ _ _ _ _ hc) rfl rfl hl.1 ds_14 vc_X12 rfl ok_X12_mayLeave rfl kc_X12_mayLeave kl_X12_441 ki_X12_mayLeave kv_X12_mayLeave kn_X12 ⟨Nat.le_trans (by decide) hR1, Nat.le_trans (by decide) hR2⟩ ⟨Nat.zero_le _, Nat.zero_le _⟩ (Nat.le_of_ble_eq_true rfl) dX12_missLeave_84 (fun H locs w => ?_)
        refine lv_if_eq (pc := 87) (tgt := 94) hx hb dX12_missLeave_87 (by decide) (fun q => ?_) (fun q => ?_)
        · have h := ite_t q h
          refine lv_bipush (pc := 94) (v := 10) hx hb dX12_missLeave_94 (by decide) ?_
          exact s_iret F w h dX12_missLeave_96
        · have h := ite_f q h
          refine lv_iconst (pc := 90) (v := 0) hx hb dX12_missLeave_90 (by decide) ?_
          refine lv_goto (pc := 91) (tgt := 96) hx hb dX12_missLeave_91 (by decide) ?_
          exact s_iret F w h dX12_missLeave_96
    · have h := ite_f q h
      refine lv_aload_n (pc := 28) hx hb dX12_missLeave_28 rfl (lv_at hl 0 rfl) ?_
      refine s_getR (pc := 29) F w 101 ds_14 (j := 46) vc_X12 vi_X12 rfl (by decide) kf_X12_117 dX12_missLeave_29 ?_
      refine lv_aload_n (pc := 32) hx hb dX12_missLeave_32 rfl (lv_at hl 0 rfl) ?_
      refine s_getR (pc := 33) F w 106 ds_14 (j := 55) vc_X12 vi_X12 rfl (by decide) kf_X12_132 dX12_missLeave_33 ?_
      refine lv_iload_n (pc := 36) hx hb dX12_missLeave_36 rfl (lv_at hl 1 rfl) ?_
      refine s_iald (pc := 37) F w ds_106 h dX12_missLeave_37 (fun h => ?_)
      refine s_zald (pc := 38) F w ds_101 h dX12_missLeave_38 (fun h => ?_)
      refine lv_if_ne (pc := 39) (tgt := 45) hx hb dX12_missLeave_39 (by decide) (fun q => ?_) (fun q => ?_)
      · have h := ite_f q h
        refine s_nm h (fun z8 ez8 h => ?_)
        refine lv_iinc (pc := 45) (v := z8) (lv' := [(3, .int z8), (0, .ref (ad 14))]) hx hb dX12_missLeave_45 hl (k := 1) rfl (by rw [ez8]; rfl) (by decide) rfl (fun ls hl => ?_)
        refine lv_goto (pc := 48) (tgt := 20) hx hb dX12_missLeave_48 (by decide) ?_
        exact ih _ _ h _ _ _ w (lv_sub hl [1, 0] rfl)
      · have h := ite_t q h
        refine lv_bipush (pc := 42) (v := 17) hx hb dX12_missLeave_42 (by decide) ?_
        exact s_iret F w h dX12_missLeave_44
set_option maxRecDepth 100000 in
set_option maxHeartbeats 4000000 in
theorem m_X12_missLeave (a1 : Int32) (S S' : SS) (r : Int32) (h : f_X12_missLeave a1 S = some (r, S')) : MT yX12_missLeave cX12_missLeave 4 (some .int) 2 46 (fun ad => [.ref (ad 14), .int a1]) S (some (.int r)) S' := by
  refine MT.of RX12 (fun ad => [(0, .ref (ad 14)), (1, .int a1)]) (by decide) rfl (fun _ => Nat.le_of_ble_eq_true rfl) (fun _ => rfl) ?_
  intro p l e R s m args below meth c dC dI cs ad A hR1 hR2 F H locs ls w hl
  have hx := F.1.1
  have hb := F.1.2.1
  rw [f_X12_missLeave] at h
  refine lv_aload_n (pc := 0) hx hb dX12_missLeave_0 rfl (lv_at hl 0 rfl) ?_
  refine lv_iload_n (pc := 1) hx hb dX12_missLeave_1 rfl (lv_at hl 1 rfl) ?_
  refine lv_iconst (pc := 2) (v := 2) hx hb dX12_missLeave_2 (by decide) ?_
  obtain ⟨r2, S1, hc, h⟩ := bnd_t h
  refine s_cvi (pc := 3) [.int a1, .int (2 : Int32)] (fun ad => [.ref (ad 14), .int a1, .int (2 : Int32)]) F w (m_X12_missThing _ _ _ _ _ hc) rfl rfl hl.1 ds_14 vc_X12 rfl ok_X12_missThing rfl kc_X12_missThing kl_X12_293 ki_X12_missThing kv_X12_missThing kn_X12 ⟨Nat.le_trans (by decide) hR1, Nat.le_trans (by decide) hR2⟩ ⟨Nat.zero_le _, Nat.zero_le _⟩ (Nat.le_of_ble_eq_true rfl) dX12_missLeave_3 (fun H locs w => ?_)
  refine lv_istore_n (pc := 6) (lv' := [(2, .int r2), (0, .ref (ad 14)), (1, .int a1)]) hx hb dX12_missLeave_6 rfl hl (by decide) rfl (fun ls hl => ?_)
  refine lv_iload_n (pc := 7) hx hb dX12_missLeave_7 rfl (lv_at hl 0 rfl) ?_
  refine lv_if_eq (pc := 8) (tgt := 13) hx hb dX12_missLeave_8 (by decide) (fun q => ?_) (fun q => ?_)
  · have h := ite_t q h
    refine lv_aload_n (pc := 13) hx hb dX12_missLeave_13 rfl (lv_at hl 1 rfl) ?_
    refine lv_iload_n (pc := 14) hx hb dX12_missLeave_14 rfl (lv_at hl 2 rfl) ?_
    obtain ⟨S3, hc, h⟩ := bndv_t h
    refine s_cvv (pc := 15) [.int a1] (fun ad => [.ref (ad 14), .int a1]) F w (m_X12_lineUp _ _ _ hc) rfl rfl hl.1 ds_14 vc_X12 rfl ok_X12_lineUp rfl kc_X12_lineUp kl_X12_325 ki_X12_lineUp kv_X12_lineUp kn_X12 ⟨Nat.le_trans (by decide) hR1, Nat.le_trans (by decide) hR2⟩ ⟨Nat.zero_le _, Nat.zero_le _⟩ (Nat.le_of_ble_eq_true rfl) dX12_missLeave_15 (fun H locs w => ?_)
    refine lv_iconst (pc := 18) (v := 0) hx hb dX12_missLeave_18 (by decide) ?_
    refine lv_istore_n (pc := 19) (lv' := [(3, .int (0 : Int32)), (2, .int r2), (0, .ref (ad 14)), (1, .int a1)]) hx hb dX12_missLeave_19 rfl hl (by decide) rfl (fun ls hl => ?_)
    exact w_X12_missLeave_L20 F (Nat.le_trans (by decide) hR1) (Nat.le_trans (by decide) hR2) _ _ _ h _ _ _ w (lv_sub hl [2, 0] rfl)
  · have h := ite_f q h
    refine lv_iload_n (pc := 11) hx hb dX12_missLeave_11 rfl (lv_at hl 0 rfl) ?_
    exact s_iret F w h dX12_missLeave_12
def f_X12_leave_L31  : Nat → Int32 → SS → Option (Int32 × SS)
  | 0, _, _ => none
  | n + 1, x2, S =>
    if (S.1 14 56) ≤ x2 then
      bnd (f_X12_entered (12 : Int32) (S.1 14 56) S) (fun r8 S7 =>
      some (r8, S7))
    else
      grd (inb x2 72) (
      grd (inb (S.1 106 x2.toNatClampNeg) 72) (wr S 86 (S.1 106 x2.toNatClampNeg).toNatClampNeg (vp_nar .boolean (0 : Int32)) (fun S9 =>
      nm (x2 + (1 : Int32)) (fun z10 =>
      f_X12_leave_L31 n z10 S9))))
def f_X12_leave (a1 : Int32) (S : SS) : Option (Int32 × SS) :=
  bndv (f_X12_begin  S) (fun S1 =>
  bndv (f_X12_keep  S1) (fun S2 =>
  bnd (f_X12_missLeave a1 S2) (fun r4 S3 =>
  bnd (f_X12_ends r4 S3) (fun r6 S5 =>
  if r6 = 0 then
    f_X12_leave_L31 NF (0 : Int32) S5
  else
    bnd (f_X12_entered (12 : Int32) (-2 : Int32) S5) (fun r12 S11 =>
    some (r12, S11))))))
theorem dX12_leave_0 : decode cX12_leave 0 = .ok (.aload_n 0, 1) := by decide +kernel
theorem dX12_leave_1 : decode cX12_leave 1 = .ok (.invokevirtual 226, 3) := by decide +kernel
theorem dX12_leave_4 : decode cX12_leave 4 = .ok (.aload_n 0, 1) := by decide +kernel
theorem dX12_leave_5 : decode cX12_leave 5 = .ok (.invokevirtual 346, 3) := by decide +kernel
theorem dX12_leave_8 : decode cX12_leave 8 = .ok (.aload_n 0, 1) := by decide +kernel
theorem dX12_leave_9 : decode cX12_leave 9 = .ok (.aload_n 0, 1) := by decide +kernel
theorem dX12_leave_10 : decode cX12_leave 10 = .ok (.iload_n 1, 1) := by decide +kernel
theorem dX12_leave_11 : decode cX12_leave 11 = .ok (.invokevirtual 444, 3) := by decide +kernel
theorem dX12_leave_14 : decode cX12_leave 14 = .ok (.invokevirtual 236, 3) := by decide +kernel
theorem dX12_leave_17 : decode cX12_leave 17 = .ok (.ifCond .eq 12, 3) := by decide +kernel
theorem dX12_leave_20 : decode cX12_leave 20 = .ok (.aload_n 0, 1) := by decide +kernel
theorem dX12_leave_21 : decode cX12_leave 21 = .ok (.bipush 12, 2) := by decide +kernel
theorem dX12_leave_23 : decode cX12_leave 23 = .ok (.bipush (-2), 2) := by decide +kernel
theorem dX12_leave_25 : decode cX12_leave 25 = .ok (.invokevirtual 349, 3) := by decide +kernel
theorem dX12_leave_28 : decode cX12_leave 28 = .ok (.ireturn, 1) := by decide +kernel
theorem dX12_leave_29 : decode cX12_leave 29 = .ok (.iconst 0, 1) := by decide +kernel
theorem dX12_leave_30 : decode cX12_leave 30 = .ok (.istore_n 2, 1) := by decide +kernel
theorem dX12_leave_31 : decode cX12_leave 31 = .ok (.iload_n 2, 1) := by decide +kernel
theorem dX12_leave_32 : decode cX12_leave 32 = .ok (.aload_n 0, 1) := by decide +kernel
theorem dX12_leave_33 : decode cX12_leave 33 = .ok (.getfield 319, 3) := by decide +kernel
theorem dX12_leave_36 : decode cX12_leave 36 = .ok (.if_icmp .ge 21, 3) := by decide +kernel
theorem dX12_leave_39 : decode cX12_leave 39 = .ok (.aload_n 0, 1) := by decide +kernel
theorem dX12_leave_40 : decode cX12_leave 40 = .ok (.getfield 72, 3) := by decide +kernel
theorem dX12_leave_43 : decode cX12_leave 43 = .ok (.aload_n 0, 1) := by decide +kernel
theorem dX12_leave_44 : decode cX12_leave 44 = .ok (.getfield 132, 3) := by decide +kernel
theorem dX12_leave_47 : decode cX12_leave 47 = .ok (.iload_n 2, 1) := by decide +kernel
theorem dX12_leave_48 : decode cX12_leave 48 = .ok (.iaload, 1) := by decide +kernel
theorem dX12_leave_49 : decode cX12_leave 49 = .ok (.iconst 0, 1) := by decide +kernel
theorem dX12_leave_50 : decode cX12_leave 50 = .ok (.bastore, 1) := by decide +kernel
theorem dX12_leave_51 : decode cX12_leave 51 = .ok (.iinc 2 1, 3) := by decide +kernel
theorem dX12_leave_54 : decode cX12_leave 54 = .ok (.goto (-23), 3) := by decide +kernel
theorem dX12_leave_57 : decode cX12_leave 57 = .ok (.aload_n 0, 1) := by decide +kernel
theorem dX12_leave_58 : decode cX12_leave 58 = .ok (.bipush 12, 2) := by decide +kernel
theorem dX12_leave_60 : decode cX12_leave 60 = .ok (.aload_n 0, 1) := by decide +kernel
theorem dX12_leave_61 : decode cX12_leave 61 = .ok (.getfield 319, 3) := by decide +kernel
theorem dX12_leave_64 : decode cX12_leave 64 = .ok (.invokevirtual 349, 3) := by decide +kernel
theorem dX12_leave_67 : decode cX12_leave 67 = .ok (.ireturn, 1) := by decide +kernel
set_option maxRecDepth 100000 in
set_option maxHeartbeats 4000000 in
theorem w_X12_leave_L31 {p : Program} {l : Launch} {e : Env} {R : Room} {s : State} {m : MethodId} {args : Array Value} {below : List Frame} {meth : Method} {c : Code} {dC : Nat → ClassId} {dI : Nat → Nat → Nat} {cs : Nat → ClassId} {ad : Nat → Nat} {A : Nat → Prop} {D0 : Nat → Nat} {S' : SS} {r : Int32} (F : Fx p s m args meth c cX12_leave 3 RX12 (some .int) dC dI cs A) (hR1 : 1 ≤ R.frames) (hR2 : 22 ≤ R.locals) : ∀ (n : Nat) (x2 : Int32) (S : SS), f_X12_leave_L31 n x2 S = some (r, S') → AW p l e R s m args below meth c dC dI cs ad A D0 (some (.int r)) S' 3 31 [(0, .ref (ad 14)), (2, .int x2)] [] S := by
  have hx := F.1.1
  have hb := F.1.2.1
  intro n
  induction n with
  | zero => intro x2 S h; cases h
  | succ n ih =>
    intro x2 S h H locs ls w hl
    rw [f_X12_leave_L31] at h
    refine lv_iload_n (pc := 31) hx hb dX12_leave_31 rfl (lv_at hl 1 rfl) ?_
    refine lv_aload_n (pc := 32) hx hb dX12_leave_32 rfl (lv_at hl 0 rfl) ?_
    refine s_getI (pc := 33) F w ds_14 (j := 56) vc_X12 vi_X12 rfl (by decide) kf_X12_319 dX12_leave_33 ?_
    refine lv_icmp_ge (pc := 36) (tgt := 57) hx hb dX12_leave_36 (by decide) (fun q => ?_) (fun q => ?_)
    · have h := ite_t q h
      refine lv_aload_n (pc := 57) hx hb dX12_leave_57 rfl (lv_at hl 0 rfl) ?_
      refine lv_bipush (pc := 58) (v := 12) hx hb dX12_leave_58 (by decide) ?_
      refine lv_aload_n (pc := 60) hx hb dX12_leave_60 rfl (lv_at hl 0 rfl) ?_
      refine s_getI (pc := 61) F w ds_14 (j := 56) vc_X12 vi_X12 rfl (by decide) kf_X12_319 dX12_leave_61 ?_
      obtain ⟨r8, S7, hc, h⟩ := bnd_t h
      refine s_cvi (pc := 64) [.int (12 : Int32), .int (S.1 14 56)] (fun ad => [.ref (ad 14), .int (12 : Int32), .int (S.1 14 56)]) F w (m_X12_entered _ _ _ _ _ hc) rfl rfl hl.1 ds_14 vc_X12 rfl ok_X12_entered rfl kc_X12_entered kl_X12_349 ki_X12_entered kv_X12_entered kn_X12 ⟨Nat.le_trans (by decide) hR1, Nat.le_trans (by decide) hR2⟩ ⟨Nat.zero_le _, Nat.zero_le _⟩ (Nat.le_of_ble_eq_true rfl) dX12_leave_64 (fun H locs w => ?_)
      exact s_iret F w h dX12_leave_67
    · have h := ite_f q h
      refine lv_aload_n (pc := 39) hx hb dX12_leave_39 rfl (lv_at hl 0 rfl) ?_
      refine s_getR (pc := 40) F w 86 ds_14 (j := 31) vc_X12 vi_X12 rfl (by decide) kf_X12_72 dX12_leave_40 ?_
      refine lv_aload_n (pc := 43) hx hb dX12_leave_43 rfl (lv_at hl 0 rfl) ?_
      refine s_getR (pc := 44) F w 106 ds_14 (j := 55) vc_X12 vi_X12 rfl (by decide) kf_X12_132 dX12_leave_44 ?_
      refine lv_iload_n (pc := 47) hx hb dX12_leave_47 rfl (lv_at hl 1 rfl) ?_
      refine s_iald (pc := 48) F w ds_106 h dX12_leave_48 (fun h => ?_)
      refine lv_iconst (pc := 49) (v := 0) hx hb dX12_leave_49 (by decide) ?_
      refine s_zast (pc := 50) F w ds_86 h dX12_leave_50 (fun S9 H locs h w => ?_)
      refine s_nm h (fun z10 ez10 h => ?_)
      refine lv_iinc (pc := 51) (v := z10) (lv' := [(2, .int z10), (0, .ref (ad 14))]) hx hb dX12_leave_51 hl (k := 1) rfl (by rw [ez10]; rfl) (by decide) rfl (fun ls hl => ?_)
      refine lv_goto (pc := 54) (tgt := 31) hx hb dX12_leave_54 (by decide) ?_
      exact ih _ _ h _ _ _ w (lv_sub hl [1, 0] rfl)
set_option maxRecDepth 100000 in
set_option maxHeartbeats 4000000 in
theorem m_X12_leave (a1 : Int32) (S S' : SS) (r : Int32) (h : f_X12_leave a1 S = some (r, S')) : MT yX12_leave cX12_leave 3 (some .int) 3 69 (fun ad => [.ref (ad 14), .int a1]) S (some (.int r)) S' := by
  refine MT.of RX12 (fun ad => [(0, .ref (ad 14)), (1, .int a1)]) (by decide) rfl (fun _ => Nat.le_of_ble_eq_true rfl) (fun _ => rfl) ?_
  intro p l e R s m args below meth c dC dI cs ad A hR1 hR2 F H locs ls w hl
  have hx := F.1.1
  have hb := F.1.2.1
  rw [f_X12_leave] at h
  refine lv_aload_n (pc := 0) hx hb dX12_leave_0 rfl (lv_at hl 0 rfl) ?_
  obtain ⟨S1, hc, h⟩ := bndv_t h
  refine s_cvv (pc := 1) [] (fun ad => [.ref (ad 14)]) F w (m_X12_begin  _ _ hc) rfl rfl hl.1 ds_14 vc_X12 rfl ok_X12_begin rfl kc_X12_begin kl_X12_226 ki_X12_begin kv_X12_begin kn_X12 ⟨Nat.le_trans (by decide) hR1, Nat.le_trans (by decide) hR2⟩ ⟨Nat.zero_le _, Nat.zero_le _⟩ (Nat.le_of_ble_eq_true rfl) dX12_leave_1 (fun H locs w => ?_)
  refine lv_aload_n (pc := 4) hx hb dX12_leave_4 rfl (lv_at hl 0 rfl) ?_
  obtain ⟨S2, hc, h⟩ := bndv_t h
  refine s_cvv (pc := 5) [] (fun ad => [.ref (ad 14)]) F w (m_X12_keep  _ _ hc) rfl rfl hl.1 ds_14 vc_X12 rfl ok_X12_keep rfl kc_X12_keep kl_X12_346 ki_X12_keep kv_X12_keep kn_X12 ⟨Nat.le_trans (by decide) hR1, Nat.le_trans (by decide) hR2⟩ ⟨Nat.zero_le _, Nat.zero_le _⟩ (Nat.le_of_ble_eq_true rfl) dX12_leave_5 (fun H locs w => ?_)
  refine lv_aload_n (pc := 8) hx hb dX12_leave_8 rfl (lv_at hl 0 rfl) ?_
  refine lv_aload_n (pc := 9) hx hb dX12_leave_9 rfl (lv_at hl 0 rfl) ?_
  refine lv_iload_n (pc := 10) hx hb dX12_leave_10 rfl (lv_at hl 1 rfl) ?_
  obtain ⟨r4, S3, hc, h⟩ := bnd_t h
  refine s_cvi (pc := 11) [.int a1] (fun ad => [.ref (ad 14), .int a1]) F w (m_X12_missLeave _ _ _ _ hc) rfl rfl hl.1 ds_14 vc_X12 rfl ok_X12_missLeave rfl kc_X12_missLeave kl_X12_444 ki_X12_missLeave kv_X12_missLeave kn_X12 ⟨Nat.le_trans (by decide) hR1, Nat.le_trans (by decide) hR2⟩ ⟨Nat.zero_le _, Nat.zero_le _⟩ (Nat.le_of_ble_eq_true rfl) dX12_leave_11 (fun H locs w => ?_)
  obtain ⟨r6, S5, hc, h⟩ := bnd_t h
  refine s_cvi (pc := 14) [.int r4] (fun ad => [.ref (ad 14), .int r4]) F w (m_X12_ends _ _ _ _ hc) rfl rfl hl.1 ds_14 vc_X12 rfl ok_X12_ends rfl kc_X12_ends kl_X12_236 ki_X12_ends kv_X12_ends kn_X12 ⟨Nat.le_trans (by decide) hR1, Nat.le_trans (by decide) hR2⟩ ⟨Nat.zero_le _, Nat.zero_le _⟩ (Nat.le_of_ble_eq_true rfl) dX12_leave_14 (fun H locs w => ?_)
  refine lv_if_eq (pc := 17) (tgt := 29) hx hb dX12_leave_17 (by decide) (fun q => ?_) (fun q => ?_)
  · have h := ite_t q h
    refine lv_iconst (pc := 29) (v := 0) hx hb dX12_leave_29 (by decide) ?_
    refine lv_istore_n (pc := 30) (lv' := [(2, .int (0 : Int32)), (0, .ref (ad 14)), (1, .int a1)]) hx hb dX12_leave_30 rfl hl (by decide) rfl (fun ls hl => ?_)
    exact w_X12_leave_L31 F (Nat.le_trans (by decide) hR1) (Nat.le_trans (by decide) hR2) _ _ _ h _ _ _ w (lv_sub hl [1, 0] rfl)
  · have h := ite_f q h
    refine lv_aload_n (pc := 20) hx hb dX12_leave_20 rfl (lv_at hl 0 rfl) ?_
    refine lv_bipush (pc := 21) (v := 12) hx hb dX12_leave_21 (by decide) ?_
    refine lv_bipush (pc := 23) (v := -2) hx hb dX12_leave_23 (by decide) ?_
    obtain ⟨r12, S11, hc, h⟩ := bnd_t h
    refine s_cvi (pc := 25) [.int (12 : Int32), .int (-2 : Int32)] (fun ad => [.ref (ad 14), .int (12 : Int32), .int (-2 : Int32)]) F w (m_X12_entered _ _ _ _ _ hc) rfl rfl hl.1 ds_14 vc_X12 rfl ok_X12_entered rfl kc_X12_entered kl_X12_349 ki_X12_entered kv_X12_entered kn_X12 ⟨Nat.le_trans (by decide) hR1, Nat.le_trans (by decide) hR2⟩ ⟨Nat.zero_le _, Nat.zero_le _⟩ (Nat.le_of_ble_eq_true rfl) dX12_leave_25 (fun H locs w => ?_)
    exact s_iret F w h dX12_leave_28
def f_X11_roll_j124 (K71 : Int32 → Int32 → Int32 → Int32 → SS → Option (Int32 × SS)) (x1 : Int32) (x2 : Int32) (x3 : Int32) (x5 : Int32) (x6 : Int32) (S : SS) : Option (Int32 × SS) :=
    grd (inb x5 8) (wr S 16 x5.toNatClampNeg x6 (fun S8 =>
    nm (x5 + (1 : Int32)) (fun z9 =>
    K71 x1 x2 x3 z9 S8)))
def f_X11_roll_L71  : Nat → Int32 → Int32 → Int32 → Int32 → SS → Option (Int32 × SS)
  | 0, _, _, _, _, _ => none
  | n + 1, x1, x2, x3, x5, S =>
    if x3 ≤ x5 then
      some (x3, S)
    else
      bnd (f_X2_spot x1 (x2 + x5) S) (fun r5 S4 =>
      bnd (f_X8_standsAt r5 S4) (fun r7 S6 =>
      if r7 = (-4 : Int32) then
        f_X11_roll_j124 (fun v0 v1 v2 v3 S => f_X11_roll_L71 n v0 v1 v2 v3 S) x1 x2 x3 x5 r7 S6
      else
        bnd (f_X9_isAs r7 (96 : Int32) S6) (fun r11 S10 =>
        if r11 = 0 then
          bnd (f_X5_found (4 : Int32) S10) (fun r13 S12 =>
          some (r13, S12))
        else
          f_X11_roll_j124 (fun v0 v1 v2 v3 S => f_X11_roll_L71 n v0 v1 v2 v3 S) x1 x2 x3 x5 r7 S10)))
def f_X11_roll_j53  (x1 : Int32) (x2 : Int32) (x3 : Int32) (x4 : Int32) (S : SS) : Option (Int32 × SS) :=
    if x4 = 0 then
      f_X11_roll_L71 NF x1 x2 x3 (0 : Int32) S
    else
      bnd (f_X5_found x4 S) (fun r15 S14 =>
      some (r15, S14))
def f_X11_roll_j50  (x1 : Int32) (x2 : Int32) (x3 : Int32) (S : SS) : Option (Int32 × SS) :=
    f_X11_roll_j53 x1 x2 x3 (3 : Int32) S
def f_X11_roll (a1 : Int32) (a2 : Int32) (a3 : Int32) (S : SS) : Option (Int32 × SS) :=
  bndv (f_X5_begin  S) (fun S1 =>
  bnd (f_X2_trackFinding a1 S1) (fun r3 S2 =>
  if r3 = 0 then
    if a2 < 0 then
      f_X11_roll_j50 a1 a2 a3 S2
    else
      if a3 < 0 then
        f_X11_roll_j50 a1 a2 a3 S2
      else
        if (8 : Int32) < a3 then
          f_X11_roll_j50 a1 a2 a3 S2
        else
          bnd (f_X2_placesOf a1 S2) (fun r17 S16 =>
          if a2 ≤ (r17 - a3) then
            f_X11_roll_j53 a1 a2 a3 r3 S16
          else
            f_X11_roll_j50 a1 a2 a3 S16)
  else
    f_X11_roll_j53 a1 a2 a3 r3 S2))
theorem dX11_roll_0 : decode cX11_roll 0 = .ok (.aload_n 0, 1) := by decide +kernel
theorem dX11_roll_1 : decode cX11_roll 1 = .ok (.getfield 10, 3) := by decide +kernel
theorem dX11_roll_4 : decode cX11_roll 4 = .ok (.invokevirtual 95, 3) := by decide +kernel
theorem dX11_roll_7 : decode cX11_roll 7 = .ok (.aload_n 0, 1) := by decide +kernel
theorem dX11_roll_8 : decode cX11_roll 8 = .ok (.getfield 42, 3) := by decide +kernel
theorem dX11_roll_11 : decode cX11_roll 11 = .ok (.iload_n 1, 1) := by decide +kernel
theorem dX11_roll_12 : decode cX11_roll 12 = .ok (.invokevirtual 115, 3) := by decide +kernel
theorem dX11_roll_15 : decode cX11_roll 15 = .ok (.istore 4, 2) := by decide +kernel
theorem dX11_roll_17 : decode cX11_roll 17 = .ok (.iload 4, 2) := by decide +kernel
theorem dX11_roll_19 : decode cX11_roll 19 = .ok (.ifCond .ne 34, 3) := by decide +kernel
theorem dX11_roll_22 : decode cX11_roll 22 = .ok (.iload_n 2, 1) := by decide +kernel
theorem dX11_roll_23 : decode cX11_roll 23 = .ok (.ifCond .lt 27, 3) := by decide +kernel
theorem dX11_roll_26 : decode cX11_roll 26 = .ok (.iload_n 3, 1) := by decide +kernel
theorem dX11_roll_27 : decode cX11_roll 27 = .ok (.ifCond .lt 23, 3) := by decide +kernel
theorem dX11_roll_30 : decode cX11_roll 30 = .ok (.iload_n 3, 1) := by decide +kernel
theorem dX11_roll_31 : decode cX11_roll 31 = .ok (.bipush 8, 2) := by decide +kernel
theorem dX11_roll_33 : decode cX11_roll 33 = .ok (.if_icmp .gt 17, 3) := by decide +kernel
theorem dX11_roll_36 : decode cX11_roll 36 = .ok (.iload_n 2, 1) := by decide +kernel
theorem dX11_roll_37 : decode cX11_roll 37 = .ok (.aload_n 0, 1) := by decide +kernel
theorem dX11_roll_38 : decode cX11_roll 38 = .ok (.getfield 42, 3) := by decide +kernel
theorem dX11_roll_41 : decode cX11_roll 41 = .ok (.iload_n 1, 1) := by decide +kernel
theorem dX11_roll_42 : decode cX11_roll 42 = .ok (.invokevirtual 244, 3) := by decide +kernel
theorem dX11_roll_45 : decode cX11_roll 45 = .ok (.iload_n 3, 1) := by decide +kernel
theorem dX11_roll_46 : decode cX11_roll 46 = .ok (.isub, 1) := by decide +kernel
theorem dX11_roll_47 : decode cX11_roll 47 = .ok (.if_icmp .le 6, 3) := by decide +kernel
theorem dX11_roll_50 : decode cX11_roll 50 = .ok (.iconst 3, 1) := by decide +kernel
theorem dX11_roll_51 : decode cX11_roll 51 = .ok (.istore 4, 2) := by decide +kernel
theorem dX11_roll_53 : decode cX11_roll 53 = .ok (.iload 4, 2) := by decide +kernel
theorem dX11_roll_55 : decode cX11_roll 55 = .ok (.ifCond .eq 13, 3) := by decide +kernel
theorem dX11_roll_58 : decode cX11_roll 58 = .ok (.aload_n 0, 1) := by decide +kernel
theorem dX11_roll_59 : decode cX11_roll 59 = .ok (.getfield 10, 3) := by decide +kernel
theorem dX11_roll_62 : decode cX11_roll 62 = .ok (.iload 4, 2) := by decide +kernel
theorem dX11_roll_64 : decode cX11_roll 64 = .ok (.invokevirtual 98, 3) := by decide +kernel
theorem dX11_roll_67 : decode cX11_roll 67 = .ok (.ireturn, 1) := by decide +kernel
theorem dX11_roll_68 : decode cX11_roll 68 = .ok (.iconst 0, 1) := by decide +kernel
theorem dX11_roll_69 : decode cX11_roll 69 = .ok (.istore 5, 2) := by decide +kernel
theorem dX11_roll_71 : decode cX11_roll 71 = .ok (.iload 5, 2) := by decide +kernel
theorem dX11_roll_73 : decode cX11_roll 73 = .ok (.iload_n 3, 1) := by decide +kernel
theorem dX11_roll_74 : decode cX11_roll 74 = .ok (.if_icmp .ge 65, 3) := by decide +kernel
theorem dX11_roll_77 : decode cX11_roll 77 = .ok (.aload_n 0, 1) := by decide +kernel
theorem dX11_roll_78 : decode cX11_roll 78 = .ok (.getfield 19, 3) := by decide +kernel
theorem dX11_roll_81 : decode cX11_roll 81 = .ok (.iload_n 1, 1) := by decide +kernel
theorem dX11_roll_82 : decode cX11_roll 82 = .ok (.iload_n 2, 1) := by decide +kernel
theorem dX11_roll_83 : decode cX11_roll 83 = .ok (.iload 5, 2) := by decide +kernel
theorem dX11_roll_85 : decode cX11_roll 85 = .ok (.iadd, 1) := by decide +kernel
theorem dX11_roll_86 : decode cX11_roll 86 = .ok (.invokestatic 147, 3) := by decide +kernel
theorem dX11_roll_89 : decode cX11_roll 89 = .ok (.invokevirtual 150, 3) := by decide +kernel
theorem dX11_roll_92 : decode cX11_roll 92 = .ok (.istore 6, 2) := by decide +kernel
theorem dX11_roll_94 : decode cX11_roll 94 = .ok (.iload 6, 2) := by decide +kernel
theorem dX11_roll_96 : decode cX11_roll 96 = .ok (.bipush (-4), 2) := by decide +kernel
theorem dX11_roll_98 : decode cX11_roll 98 = .ok (.if_icmp .eq 26, 3) := by decide +kernel
theorem dX11_roll_101 : decode cX11_roll 101 = .ok (.aload_n 0, 1) := by decide +kernel
theorem dX11_roll_102 : decode cX11_roll 102 = .ok (.getfield 33, 3) := by decide +kernel
theorem dX11_roll_105 : decode cX11_roll 105 = .ok (.iload 6, 2) := by decide +kernel
theorem dX11_roll_107 : decode cX11_roll 107 = .ok (.bipush 96, 2) := by decide +kernel
theorem dX11_roll_109 : decode cX11_roll 109 = .ok (.invokevirtual 247, 3) := by decide +kernel
theorem dX11_roll_112 : decode cX11_roll 112 = .ok (.ifCond .ne 12, 3) := by decide +kernel
theorem dX11_roll_115 : decode cX11_roll 115 = .ok (.aload_n 0, 1) := by decide +kernel
theorem dX11_roll_116 : decode cX11_roll 116 = .ok (.getfield 10, 3) := by decide +kernel
theorem dX11_roll_119 : decode cX11_roll 119 = .ok (.iconst 4, 1) := by decide +kernel
theorem dX11_roll_120 : decode cX11_roll 120 = .ok (.invokevirtual 98, 3) := by decide +kernel
theorem dX11_roll_123 : decode cX11_roll 123 = .ok (.ireturn, 1) := by decide +kernel
theorem dX11_roll_124 : decode cX11_roll 124 = .ok (.aload_n 0, 1) := by decide +kernel
theorem dX11_roll_125 : decode cX11_roll 125 = .ok (.getfield 82, 3) := by decide +kernel
theorem dX11_roll_128 : decode cX11_roll 128 = .ok (.iload 5, 2) := by decide +kernel
theorem dX11_roll_130 : decode cX11_roll 130 = .ok (.iload 6, 2) := by decide +kernel
theorem dX11_roll_132 : decode cX11_roll 132 = .ok (.iastore, 1) := by decide +kernel
theorem dX11_roll_133 : decode cX11_roll 133 = .ok (.iinc 5 1, 3) := by decide +kernel
theorem dX11_roll_136 : decode cX11_roll 136 = .ok (.goto (-65), 3) := by decide +kernel
theorem dX11_roll_139 : decode cX11_roll 139 = .ok (.iload_n 3, 1) := by decide +kernel
theorem dX11_roll_140 : decode cX11_roll 140 = .ok (.ireturn, 1) := by decide +kernel
set_option maxRecDepth 100000 in
set_option maxHeartbeats 4000000 in
theorem w_X11_roll_j124 {p : Program} {l : Launch} {e : Env} {R : Room} {s : State} {m : MethodId} {args : Array Value} {below : List Frame} {meth : Method} {c : Code} {dC : Nat → ClassId} {dI : Nat → Nat → Nat} {cs : Nat → ClassId} {ad : Nat → Nat} {A : Nat → Prop} {D0 : Nat → Nat} {S' : SS} {r : Int32} (F : Fx p s m args meth c cX11_roll 7 RX11 (some .int) dC dI cs A) (hR1 : 0 ≤ R.frames) (hR2 : 0 ≤ R.locals) (K71 : Int32 → Int32 → Int32 → Int32 → SS → Option (Int32 × SS)) (hK71 : ∀ (v0 : Int32) (v1 : Int32) (v2 : Int32) (v3 : Int32) (S : SS), K71 v0 v1 v2 v3 S = some (r, S') → AW p l e R s m args below meth c dC dI cs ad A D0 (some (.int r)) S' 7 71 [(0, .ref (ad 0)), (1, .int v0), (2, .int v1), (3, .int v2), (5, .int v3)] [] S) (x1 : Int32) (x2 : Int32) (x3 : Int32) (x5 : Int32) (x6 : Int32) (S : SS) (h : f_X11_roll_j124 K71 x1 x2 x3 x5 x6 S = some (r, S')) : AW p l e R s m args below meth c dC dI cs ad A D0 (some (.int r)) S' 7 124 [(0, .ref (ad 0)), (1, .int x1), (2, .int x2), (3, .int x3), (5, .int x5), (6, .int x6)] [] S := by
  have hx := F.1.1
  have hb := F.1.2.1
  intro H locs ls w hl
  rw [f_X11_roll_j124] at h
  refine lv_aload_n (pc := 124) hx hb dX11_roll_124 rfl (lv_at hl 0 rfl) ?_
  refine s_getR (pc := 125) F w 16 ds_0 (j := 10) vc_X11 vi_X11 rfl (by decide) kf_X11_82 dX11_roll_125 ?_
  refine lv_iload (pc := 128) hx hb dX11_roll_128 (lv_at hl 4 rfl) ?_
  refine lv_iload (pc := 130) hx hb dX11_roll_130 (lv_at hl 5 rfl) ?_
  refine s_iast (pc := 132) F w ds_16 h dX11_roll_132 (fun S8 H locs h w => ?_)
  refine s_nm h (fun z9 ez9 h => ?_)
  refine lv_iinc (pc := 133) (v := z9) (lv' := [(5, .int z9), (0, .ref (ad 0)), (1, .int x1), (2, .int x2), (3, .int x3), (6, .int x6)]) hx hb dX11_roll_133 hl (k := 4) rfl (by rw [ez9]; rfl) (by decide) rfl (fun ls hl => ?_)
  refine lv_goto (pc := 136) (tgt := 71) hx hb dX11_roll_136 (by decide) ?_
  exact hK71 _ _ _ _ _ h _ _ _ w (lv_sub hl [1, 2, 3, 4, 0] rfl)
set_option maxRecDepth 100000 in
set_option maxHeartbeats 4000000 in
theorem w_X11_roll_L71 {p : Program} {l : Launch} {e : Env} {R : Room} {s : State} {m : MethodId} {args : Array Value} {below : List Frame} {meth : Method} {c : Code} {dC : Nat → ClassId} {dI : Nat → Nat → Nat} {cs : Nat → ClassId} {ad : Nat → Nat} {A : Nat → Prop} {D0 : Nat → Nat} {S' : SS} {r : Int32} (F : Fx p s m args meth c cX11_roll 7 RX11 (some .int) dC dI cs A) (hR1 : 2 ≤ R.frames) (hR2 : 45 ≤ R.locals) : ∀ (n : Nat) (x1 : Int32) (x2 : Int32) (x3 : Int32) (x5 : Int32) (S : SS), f_X11_roll_L71 n x1 x2 x3 x5 S = some (r, S') → AW p l e R s m args below meth c dC dI cs ad A D0 (some (.int r)) S' 7 71 [(0, .ref (ad 0)), (1, .int x1), (2, .int x2), (3, .int x3), (5, .int x5)] [] S := by
  have hx := F.1.1
  have hb := F.1.2.1
  intro n
  induction n with
  | zero => intro x1 x2 x3 x5 S h; cases h
  | succ n ih =>
    intro x1 x2 x3 x5 S h H locs ls w hl
    rw [f_X11_roll_L71] at h
    refine lv_iload (pc := 71) hx hb dX11_roll_71 (lv_at hl 4 rfl) ?_
    refine lv_iload_n (pc := 73) hx hb dX11_roll_73 rfl (lv_at hl 3 rfl) ?_
    refine lv_icmp_ge (pc := 74) (tgt := 139) hx hb dX11_roll_74 (by decide) (fun q => ?_) (fun q => ?_)
    · have h := ite_t q h
      refine lv_iload_n (pc := 139) hx hb dX11_roll_139 rfl (lv_at hl 3 rfl) ?_
      exact s_iret F w h dX11_roll_140
    · have h := ite_f q h
      refine lv_aload_n (pc := 77) hx hb dX11_roll_77 rfl (lv_at hl 0 rfl) ?_
      refine s_getR (pc := 78) F w 2 ds_0 (j := 1) vc_X11 vi_X11 rfl (by decide) kf_X11_19 dX11_roll_78 ?_
      refine lv_iload_n (pc := 81) hx hb dX11_roll_81 rfl (lv_at hl 1 rfl) ?_
      refine lv_iload_n (pc := 82) hx hb dX11_roll_82 rfl (lv_at hl 2 rfl) ?_
      refine lv_iload (pc := 83) hx hb dX11_roll_83 (lv_at hl 4 rfl) ?_
      refine lv_iadd (pc := 85) hx hb dX11_roll_85 ?_
      obtain ⟨r5, S4, hc, h⟩ := bnd_t h
      refine s_csi (pc := 86) [.int x1, .int (x2 + x5)] (fun ad => [.int x1, .int (x2 + x5)]) F w (m_X2_spot _ _ _ _ _ hc) rfl rfl hl.1 ok_X2_spot rfl kc_X2_spot kl_X11_147 ks_X2_spot kn_X2 ⟨Nat.le_trans (by decide) hR1, Nat.le_trans (by decide) hR2⟩ ⟨Nat.zero_le _, Nat.zero_le _⟩ (Nat.le_of_ble_eq_true rfl) dX11_roll_86 (fun H locs w => ?_)
      obtain ⟨r7, S6, hc, h⟩ := bnd_t h
      refine s_cvi (pc := 89) [.int r5] (fun ad => [.ref (ad 2), .int r5]) F w (m_X8_standsAt _ _ _ _ hc) rfl rfl hl.1 ds_2 vc_X8 rfl ok_X8_standsAt rfl kc_X8_standsAt kl_X11_150 ki_X8_standsAt kv_X8_standsAt kn_X8 ⟨Nat.le_trans (by decide) hR1, Nat.le_trans (by decide) hR2⟩ ⟨Nat.zero_le _, Nat.zero_le _⟩ (Nat.le_of_ble_eq_true rfl) dX11_roll_89 (fun H locs w => ?_)
      refine lv_istore (pc := 92) (lv' := [(6, .int r7), (0, .ref (ad 0)), (1, .int x1), (2, .int x2), (3, .int x3), (5, .int x5)]) hx hb dX11_roll_92 hl (by decide) rfl (fun ls hl => ?_)
      refine lv_iload (pc := 94) hx hb dX11_roll_94 (lv_at hl 0 rfl) ?_
      refine lv_bipush (pc := 96) (v := -4) hx hb dX11_roll_96 (by decide) ?_
      refine lv_icmp_eq (pc := 98) (tgt := 124) hx hb dX11_roll_98 (by decide) (fun q => ?_) (fun q => ?_)
      · have h := ite_t q h
        exact w_X11_roll_j124 F (Nat.le_trans (by decide) hR1) (Nat.le_trans (by decide) hR2) _ (fun v0 v1 v2 v3 S h => ih v0 v1 v2 v3 S h) _ _ _ _ _ _ h _ _ _ w (lv_sub hl [1, 2, 3, 4, 5, 0] rfl)
      · have h := ite_f q h
        refine lv_aload_n (pc := 101) hx hb dX11_roll_101 rfl (lv_at hl 1 rfl) ?_
        refine s_getR (pc := 102) F w 4 ds_0 (j := 3) vc_X11 vi_X11 rfl (by decide) kf_X11_33 dX11_roll_102 ?_
        refine lv_iload (pc := 105) hx hb dX11_roll_105 (lv_at hl 0 rfl) ?_
        refine lv_bipush (pc := 107) (v := 96) hx hb dX11_roll_107 (by decide) ?_
        obtain ⟨r11, S10, hc, h⟩ := bnd_t h
        refine s_cvi (pc := 109) [.int r7, .int (96 : Int32)] (fun ad => [.ref (ad 4), .int r7, .int (96 : Int32)]) F w (m_X9_isAs _ _ _ _ _ hc) rfl rfl hl.1 ds_4 vc_X9 rfl ok_X9_isAs rfl kc_X9_isAs kl_X11_247 ki_X9_isAs kv_X9_isAs kn_X9 ⟨Nat.le_trans (by decide) hR1, Nat.le_trans (by decide) hR2⟩ ⟨Nat.zero_le _, Nat.zero_le _⟩ (Nat.le_of_ble_eq_true rfl) dX11_roll_109 (fun H locs w => ?_)
        refine lv_if_ne (pc := 112) (tgt := 124) hx hb dX11_roll_112 (by decide) (fun q => ?_) (fun q => ?_)
        · have h := ite_f q h
          exact w_X11_roll_j124 F (Nat.le_trans (by decide) hR1) (Nat.le_trans (by decide) hR2) _ (fun v0 v1 v2 v3 S h => ih v0 v1 v2 v3 S h) _ _ _ _ _ _ h _ _ _ w (lv_sub hl [1, 2, 3, 4, 5, 0] rfl)
        · have h := ite_t q h
          refine lv_aload_n (pc := 115) hx hb dX11_roll_115 rfl (lv_at hl 1 rfl) ?_
          refine s_getR (pc := 116) F w 1 ds_0 (j := 0) vc_X11 vi_X11 rfl (by decide) kf_X11_10 dX11_roll_116 ?_
          refine lv_iconst (pc := 119) (v := 4) hx hb dX11_roll_119 (by decide) ?_
          obtain ⟨r13, S12, hc, h⟩ := bnd_t h
          refine s_cvi (pc := 120) [.int (4 : Int32)] (fun ad => [.ref (ad 1), .int (4 : Int32)]) F w (m_X5_found _ _ _ _ hc) rfl rfl hl.1 ds_1 vc_X5 rfl ok_X5_found rfl kc_X5_found kl_X11_98 ki_X5_found kv_X5_found kn_X5 ⟨Nat.le_trans (by decide) hR1, Nat.le_trans (by decide) hR2⟩ ⟨Nat.zero_le _, Nat.zero_le _⟩ (Nat.le_of_ble_eq_true rfl) dX11_roll_120 (fun H locs w => ?_)
          exact s_iret F w h dX11_roll_123
set_option maxRecDepth 100000 in
set_option maxHeartbeats 4000000 in
theorem w_X11_roll_j53 {p : Program} {l : Launch} {e : Env} {R : Room} {s : State} {m : MethodId} {args : Array Value} {below : List Frame} {meth : Method} {c : Code} {dC : Nat → ClassId} {dI : Nat → Nat → Nat} {cs : Nat → ClassId} {ad : Nat → Nat} {A : Nat → Prop} {D0 : Nat → Nat} {S' : SS} {r : Int32} (F : Fx p s m args meth c cX11_roll 7 RX11 (some .int) dC dI cs A) (hR1 : 2 ≤ R.frames) (hR2 : 45 ≤ R.locals) (x1 : Int32) (x2 : Int32) (x3 : Int32) (x4 : Int32) (S : SS) (h : f_X11_roll_j53 x1 x2 x3 x4 S = some (r, S')) : AW p l e R s m args below meth c dC dI cs ad A D0 (some (.int r)) S' 7 53 [(0, .ref (ad 0)), (1, .int x1), (2, .int x2), (3, .int x3), (4, .int x4)] [] S := by
  have hx := F.1.1
  have hb := F.1.2.1
  intro H locs ls w hl
  rw [f_X11_roll_j53] at h
  refine lv_iload (pc := 53) hx hb dX11_roll_53 (lv_at hl 4 rfl) ?_
  refine lv_if_eq (pc := 55) (tgt := 68) hx hb dX11_roll_55 (by decide) (fun q => ?_) (fun q => ?_)
  · have h := ite_t q h
    refine lv_iconst (pc := 68) (v := 0) hx hb dX11_roll_68 (by decide) ?_
    refine lv_istore (pc := 69) (lv' := [(5, .int (0 : Int32)), (0, .ref (ad 0)), (1, .int x1), (2, .int x2), (3, .int x3), (4, .int x4)]) hx hb dX11_roll_69 hl (by decide) rfl (fun ls hl => ?_)
    exact w_X11_roll_L71 F (Nat.le_trans (by decide) hR1) (Nat.le_trans (by decide) hR2) _ _ _ _ _ _ h _ _ _ w (lv_sub hl [1, 2, 3, 4, 0] rfl)
  · have h := ite_f q h
    refine lv_aload_n (pc := 58) hx hb dX11_roll_58 rfl (lv_at hl 0 rfl) ?_
    refine s_getR (pc := 59) F w 1 ds_0 (j := 0) vc_X11 vi_X11 rfl (by decide) kf_X11_10 dX11_roll_59 ?_
    refine lv_iload (pc := 62) hx hb dX11_roll_62 (lv_at hl 4 rfl) ?_
    obtain ⟨r15, S14, hc, h⟩ := bnd_t h
    refine s_cvi (pc := 64) [.int x4] (fun ad => [.ref (ad 1), .int x4]) F w (m_X5_found _ _ _ _ hc) rfl rfl hl.1 ds_1 vc_X5 rfl ok_X5_found rfl kc_X5_found kl_X11_98 ki_X5_found kv_X5_found kn_X5 ⟨Nat.le_trans (by decide) hR1, Nat.le_trans (by decide) hR2⟩ ⟨Nat.zero_le _, Nat.zero_le _⟩ (Nat.le_of_ble_eq_true rfl) dX11_roll_64 (fun H locs w => ?_)
    exact s_iret F w h dX11_roll_67
set_option maxRecDepth 100000 in
set_option maxHeartbeats 4000000 in
theorem w_X11_roll_j50 {p : Program} {l : Launch} {e : Env} {R : Room} {s : State} {m : MethodId} {args : Array Value} {below : List Frame} {meth : Method} {c : Code} {dC : Nat → ClassId} {dI : Nat → Nat → Nat} {cs : Nat → ClassId} {ad : Nat → Nat} {A : Nat → Prop} {D0 : Nat → Nat} {S' : SS} {r : Int32} (F : Fx p s m args meth c cX11_roll 7 RX11 (some .int) dC dI cs A) (hR1 : 2 ≤ R.frames) (hR2 : 45 ≤ R.locals) (x1 : Int32) (x2 : Int32) (x3 : Int32) (S : SS) (h : f_X11_roll_j50 x1 x2 x3 S = some (r, S')) : AW p l e R s m args below meth c dC dI cs ad A D0 (some (.int r)) S' 7 50 [(0, .ref (ad 0)), (1, .int x1), (2, .int x2), (3, .int x3)] [] S := by
  have hx := F.1.1
  have hb := F.1.2.1
  intro H locs ls w hl
  rw [f_X11_roll_j50] at h
  refine lv_iconst (pc := 50) (v := 3) hx hb dX11_roll_50 (by decide) ?_
  refine lv_istore (pc := 51) (lv' := [(4, .int (3 : Int32)), (0, .ref (ad 0)), (1, .int x1), (2, .int x2), (3, .int x3)]) hx hb dX11_roll_51 hl (by decide) rfl (fun ls hl => ?_)
  exact w_X11_roll_j53 F (Nat.le_trans (by decide) hR1) (Nat.le_trans (by decide) hR2) _ _ _ _ _ h _ _ _ w (lv_sub hl [1, 2, 3, 4, 0] rfl)
set_option maxRecDepth 100000 in
set_option maxHeartbeats 4000000 in
theorem m_X11_roll (a1 : Int32) (a2 : Int32) (a3 : Int32) (S S' : SS) (r : Int32) (h : f_X11_roll a1 a2 a3 S = some (r, S')) : MT yX11_roll cX11_roll 7 (some .int) 2 45 (fun ad => [.ref (ad 0), .int a1, .int a2, .int a3]) S (some (.int r)) S' := by
  refine MT.of RX11 (fun ad => [(0, .ref (ad 0)), (1, .int a1), (2, .int a2), (3, .int a3)]) (by decide) rfl (fun _ => Nat.le_of_ble_eq_true rfl) (fun _ => rfl) ?_
  intro p l e R s m args below meth c dC dI cs ad A hR1 hR2 F H locs ls w hl
  have hx := F.1.1
  have hb := F.1.2.1
  rw [f_X11_roll] at h
  refine lv_aload_n (pc := 0) hx hb dX11_roll_0 rfl (lv_at hl 0 rfl) ?_
  refine s_getR (pc := 1) F w 1 ds_0 (j := 0) vc_X11 vi_X11 rfl (by decide) kf_X11_10 dX11_roll_1 ?_
  obtain ⟨S1, hc, h⟩ := bndv_t h
  refine s_cvv (pc := 4) [] (fun ad => [.ref (ad 1)]) F w (m_X5_begin  _ _ hc) rfl rfl hl.1 ds_1 vc_X5 rfl ok_X5_begin rfl kc_X5_begin kl_X11_95 ki_X5_begin kv_X5_begin kn_X5 ⟨Nat.le_trans (by decide) hR1, Nat.le_trans (by decide) hR2⟩ ⟨Nat.zero_le _, Nat.zero_le _⟩ (Nat.le_of_ble_eq_true rfl) dX11_roll_4 (fun H locs w => ?_)
  refine lv_aload_n (pc := 7) hx hb dX11_roll_7 rfl (lv_at hl 0 rfl) ?_
  refine s_getR (pc := 8) F w 5 ds_0 (j := 4) vc_X11 vi_X11 rfl (by decide) kf_X11_42 dX11_roll_8 ?_
  refine lv_iload_n (pc := 11) hx hb dX11_roll_11 rfl (lv_at hl 1 rfl) ?_
  obtain ⟨r3, S2, hc, h⟩ := bnd_t h
  refine s_cvi (pc := 12) [.int a1] (fun ad => [.ref (ad 5), .int a1]) F w (m_X2_trackFinding _ _ _ _ hc) rfl rfl hl.1 ds_5 vc_X2 rfl ok_X2_trackFinding rfl kc_X2_trackFinding kl_X11_115 ki_X2_trackFinding kv_X2_trackFinding kn_X2 ⟨Nat.le_trans (by decide) hR1, Nat.le_trans (by decide) hR2⟩ ⟨Nat.zero_le _, Nat.zero_le _⟩ (Nat.le_of_ble_eq_true rfl) dX11_roll_12 (fun H locs w => ?_)
  refine lv_istore (pc := 15) (lv' := [(4, .int r3), (0, .ref (ad 0)), (1, .int a1), (2, .int a2), (3, .int a3)]) hx hb dX11_roll_15 hl (by decide) rfl (fun ls hl => ?_)
  refine lv_iload (pc := 17) hx hb dX11_roll_17 (lv_at hl 0 rfl) ?_
  refine lv_if_ne (pc := 19) (tgt := 53) hx hb dX11_roll_19 (by decide) (fun q => ?_) (fun q => ?_)
  · have h := ite_f q h
    exact w_X11_roll_j53 F (Nat.le_trans (by decide) hR1) (Nat.le_trans (by decide) hR2) _ _ _ _ _ h _ _ _ w (lv_sub hl [1, 2, 3, 4, 0] rfl)
  · have h := ite_t q h
    refine lv_iload_n (pc := 22) hx hb dX11_roll_22 rfl (lv_at hl 3 rfl) ?_
    refine lv_if_lt (pc := 23) (tgt := 50) hx hb dX11_roll_23 (by decide) (fun q => ?_) (fun q => ?_)
    · have h := ite_t q h
      exact w_X11_roll_j50 F (Nat.le_trans (by decide) hR1) (Nat.le_trans (by decide) hR2) _ _ _ _ h _ _ _ w (lv_sub hl [1, 2, 3, 4] rfl)
    · have h := ite_f q h
      refine lv_iload_n (pc := 26) hx hb dX11_roll_26 rfl (lv_at hl 4 rfl) ?_
      refine lv_if_lt (pc := 27) (tgt := 50) hx hb dX11_roll_27 (by decide) (fun q => ?_) (fun q => ?_)
      · have h := ite_t q h
        exact w_X11_roll_j50 F (Nat.le_trans (by decide) hR1) (Nat.le_trans (by decide) hR2) _ _ _ _ h _ _ _ w (lv_sub hl [1, 2, 3, 4] rfl)
      · have h := ite_f q h
        refine lv_iload_n (pc := 30) hx hb dX11_roll_30 rfl (lv_at hl 4 rfl) ?_
        refine lv_bipush (pc := 31) (v := 8) hx hb dX11_roll_31 (by decide) ?_
        refine lv_icmp_gt (pc := 33) (tgt := 50) hx hb dX11_roll_33 (by decide) (fun q => ?_) (fun q => ?_)
        · have h := ite_t q h
          exact w_X11_roll_j50 F (Nat.le_trans (by decide) hR1) (Nat.le_trans (by decide) hR2) _ _ _ _ h _ _ _ w (lv_sub hl [1, 2, 3, 4] rfl)
        · have h := ite_f q h
          refine lv_iload_n (pc := 36) hx hb dX11_roll_36 rfl (lv_at hl 3 rfl) ?_
          refine lv_aload_n (pc := 37) hx hb dX11_roll_37 rfl (lv_at hl 1 rfl) ?_
          refine s_getR (pc := 38) F w 5 ds_0 (j := 4) vc_X11 vi_X11 rfl (by decide) kf_X11_42 dX11_roll_38 ?_
          refine lv_iload_n (pc := 41) hx hb dX11_roll_41 rfl (lv_at hl 2 rfl) ?_
          obtain ⟨r17, S16, hc, h⟩ := bnd_t h
          refine s_cvi (pc := 42) [.int a1] (fun ad => [.ref (ad 5), .int a1]) F w (m_X2_placesOf _ _ _ _ hc) rfl rfl hl.1 ds_5 vc_X2 rfl ok_X2_placesOf rfl kc_X2_placesOf kl_X11_244 ki_X2_placesOf kv_X2_placesOf kn_X2 ⟨Nat.le_trans (by decide) hR1, Nat.le_trans (by decide) hR2⟩ ⟨Nat.zero_le _, Nat.zero_le _⟩ (Nat.le_of_ble_eq_true rfl) dX11_roll_42 (fun H locs w => ?_)
          refine lv_iload_n (pc := 45) hx hb dX11_roll_45 rfl (lv_at hl 4 rfl) ?_
          refine lv_isub (pc := 46) hx hb dX11_roll_46 ?_
          refine lv_icmp_le (pc := 47) (tgt := 53) hx hb dX11_roll_47 (by decide) (fun q => ?_) (fun q => ?_)
          · have h := ite_t q h
            exact w_X11_roll_j53 F (Nat.le_trans (by decide) hR1) (Nat.le_trans (by decide) hR2) _ _ _ _ _ h _ _ _ w (lv_sub hl [1, 2, 3, 4, 0] rfl)
          · have h := ite_f q h
            exact w_X11_roll_j50 F (Nat.le_trans (by decide) hR1) (Nat.le_trans (by decide) hR2) _ _ _ _ h _ _ _ w (lv_sub hl [1, 2, 3, 4] rfl)
