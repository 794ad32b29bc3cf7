/-! ===== printed by wip/gen: M_goOn M_pull M_heavy M_kick M_running M_nextRunning M_stop M_run M_step ===== -/
def f_M_goOn_j116 (K7 : Int32 → SS → Option (SS)) (x1 : Int32) (S : SS) : Option (SS) :=
    nm (x1 + (-1 : Int32)) (fun z8 =>
    K7 z8 S)
def f_M_goOn_j39 (K7 : Int32 → SS → Option (SS)) (x1 : Int32) (x2 : Int32) (y0 : Int32) (y1 : Int32) (y2 : Int32) (S : SS) : Option (SS) :=
    grd (inb y2 72) (wr S 26 y2.toNatClampNeg (y1 - y0) (fun S3 =>
    if x1 = 0 then
      grd (inb (0 : Int32) 72) (
      bndv (f_M_place x2 (S3.1 0 26) (S3.1 0 27) (S3.1 45 (0 : Int32).toNatClampNeg) (S3.1 0 28) S3) (fun S9 =>
      f_M_goOn_j116 K7 x1 S9))
    else
      grd (inb (x1 - (1 : Int32)) 72) (
      nm (S3.1 44 (x1 - (1 : Int32)).toNatClampNeg) (fun z4 =>
      grd (inb z4 72) (
      grd (inb z4 72) (
      grd (inb x1 72) (
      grd (inb (x1 - (1 : Int32)) 72) (
      bnd (f_M_wayOf z4 (S3.1 45 (x1 - (1 : Int32)).toNatClampNeg) S3) (fun r6 S5 =>
      bndv (f_M_place x2 (S3.1 20 z4.toNatClampNeg) (S3.1 21 z4.toNatClampNeg) (S3.1 45 x1.toNatClampNeg) r6 S5) (fun S7 =>
      f_M_goOn_j116 K7 x1 S7))))))))))
def f_M_goOn_L7  : Nat → Int32 → SS → Option (SS)
  | 0, _, _ => none
  | n + 1, x1, S =>
    if x1 < 0 then
      some S
    else
      grd (inb x1 72) (
      nm (S.1 44 x1.toNatClampNeg) (fun z2 =>
      grd (inb z2 72) (
      grd (inb z2 72) (
      if (S.1 26 z2.toNatClampNeg) ≤ 0 then
        f_M_goOn_j39 (fun v0 S => f_M_goOn_L7 n v0 S) x1 z2 (0 : Int32) (S.1 26 z2.toNatClampNeg) z2 S
      else
        f_M_goOn_j39 (fun v0 S => f_M_goOn_L7 n v0 S) x1 z2 (1 : Int32) (S.1 26 z2.toNatClampNeg) z2 S))))
def f_M_goOn  (S : SS) : Option (SS) :=
  nm ((S.1 0 70) - (1 : Int32)) (fun z1 =>
  f_M_goOn_L7 NF z1 S)
theorem dX12_goOn_0 : decode cX12_goOn 0 = .ok (.aload_n 0, 1) := dc_42 (by decide +kernel)
theorem dX12_goOn_1 : decode cX12_goOn 1 = .ok (.getfield 393, 3) := dc_180 (a := 1) (b := 137) (by decide +kernel)
theorem dX12_goOn_4 : decode cX12_goOn 4 = .ok (.iconst 1, 1) := dc_4 (by decide +kernel)
theorem dX12_goOn_5 : decode cX12_goOn 5 = .ok (.isub, 1) := dc_100 (by decide +kernel)
theorem dX12_goOn_6 : decode cX12_goOn 6 = .ok (.istore_n 1, 1) := dc_60 (by decide +kernel)
theorem dX12_goOn_7 : decode cX12_goOn 7 = .ok (.iload_n 1, 1) := dc_27 (by decide +kernel)
theorem dX12_goOn_8 : decode cX12_goOn 8 = .ok (.ifCond .lt 114, 3) := dc_155 (a := 0) (b := 114) (by decide +kernel) (by decide)
theorem dX12_goOn_11 : decode cX12_goOn 11 = .ok (.aload_n 0, 1) := dc_42 (by decide +kernel)
theorem dX12_goOn_12 : decode cX12_goOn 12 = .ok (.getfield 147, 3) := dc_180 (a := 0) (b := 147) (by decide +kernel)
theorem dX12_goOn_15 : decode cX12_goOn 15 = .ok (.iload_n 1, 1) := dc_27 (by decide +kernel)
theorem dX12_goOn_16 : decode cX12_goOn 16 = .ok (.iaload, 1) := dc_46 (by decide +kernel)
theorem dX12_goOn_17 : decode cX12_goOn 17 = .ok (.istore_n 2, 1) := dc_61 (by decide +kernel)
theorem dX12_goOn_18 : decode cX12_goOn 18 = .ok (.aload_n 0, 1) := dc_42 (by decide +kernel)
theorem dX12_goOn_19 : decode cX12_goOn 19 = .ok (.getfield 93, 3) := dc_180 (a := 0) (b := 93) (by decide +kernel)
theorem dX12_goOn_22 : decode cX12_goOn 22 = .ok (.iload_n 2, 1) := dc_28 (by decide +kernel)
theorem dX12_goOn_23 : decode cX12_goOn 23 = .ok (.dup2, 1) := dc_92 (by decide +kernel)
theorem dX12_goOn_24 : decode cX12_goOn 24 = .ok (.iaload, 1) := dc_46 (by decide +kernel)
theorem dX12_goOn_25 : decode cX12_goOn 25 = .ok (.aload_n 0, 1) := dc_42 (by decide +kernel)
theorem dX12_goOn_26 : decode cX12_goOn 26 = .ok (.getfield 93, 3) := dc_180 (a := 0) (b := 93) (by decide +kernel)
theorem dX12_goOn_29 : decode cX12_goOn 29 = .ok (.iload_n 2, 1) := dc_28 (by decide +kernel)
theorem dX12_goOn_30 : decode cX12_goOn 30 = .ok (.iaload, 1) := dc_46 (by decide +kernel)
theorem dX12_goOn_31 : decode cX12_goOn 31 = .ok (.ifCond .le 7, 3) := dc_158 (a := 0) (b := 7) (by decide +kernel) (by decide)
theorem dX12_goOn_34 : decode cX12_goOn 34 = .ok (.iconst 1, 1) := dc_4 (by decide +kernel)
theorem dX12_goOn_35 : decode cX12_goOn 35 = .ok (.goto 4, 3) := dc_167 (a := 0) (b := 4) (by decide +kernel) (by decide)
theorem dX12_goOn_38 : decode cX12_goOn 38 = .ok (.iconst 0, 1) := dc_3 (by decide +kernel)
theorem dX12_goOn_39 : decode cX12_goOn 39 = .ok (.isub, 1) := dc_100 (by decide +kernel)
theorem dX12_goOn_40 : decode cX12_goOn 40 = .ok (.iastore, 1) := dc_79 (by decide +kernel)
theorem dX12_goOn_41 : decode cX12_goOn 41 = .ok (.iload_n 1, 1) := dc_27 (by decide +kernel)
theorem dX12_goOn_42 : decode cX12_goOn 42 = .ok (.ifCond .ne 29, 3) := dc_154 (a := 0) (b := 29) (by decide +kernel) (by decide)
theorem dX12_goOn_45 : decode cX12_goOn 45 = .ok (.aload_n 0, 1) := dc_42 (by decide +kernel)
theorem dX12_goOn_46 : decode cX12_goOn 46 = .ok (.iload_n 2, 1) := dc_28 (by decide +kernel)
theorem dX12_goOn_47 : decode cX12_goOn 47 = .ok (.aload_n 0, 1) := dc_42 (by decide +kernel)
theorem dX12_goOn_48 : decode cX12_goOn 48 = .ok (.getfield 245, 3) := dc_180 (a := 0) (b := 245) (by decide +kernel)
theorem dX12_goOn_51 : decode cX12_goOn 51 = .ok (.aload_n 0, 1) := dc_42 (by decide +kernel)
theorem dX12_goOn_52 : decode cX12_goOn 52 = .ok (.getfield 248, 3) := dc_180 (a := 0) (b := 248) (by decide +kernel)
theorem dX12_goOn_55 : decode cX12_goOn 55 = .ok (.aload_n 0, 1) := dc_42 (by decide +kernel)
theorem dX12_goOn_56 : decode cX12_goOn 56 = .ok (.getfield 150, 3) := dc_180 (a := 0) (b := 150) (by decide +kernel)
theorem dX12_goOn_59 : decode cX12_goOn 59 = .ok (.iconst 0, 1) := dc_3 (by decide +kernel)
theorem dX12_goOn_60 : decode cX12_goOn 60 = .ok (.iaload, 1) := dc_46 (by decide +kernel)
theorem dX12_goOn_61 : decode cX12_goOn 61 = .ok (.aload_n 0, 1) := dc_42 (by decide +kernel)
theorem dX12_goOn_62 : decode cX12_goOn 62 = .ok (.getfield 251, 3) := dc_180 (a := 0) (b := 251) (by decide +kernel)
theorem dX12_goOn_65 : decode cX12_goOn 65 = .ok (.invokevirtual 396, 3) := dc_182 (a := 1) (b := 140) (by decide +kernel)
theorem dX12_goOn_68 : decode cX12_goOn 68 = .ok (.goto 48, 3) := dc_167 (a := 0) (b := 48) (by decide +kernel) (by decide)
theorem dX12_goOn_71 : decode cX12_goOn 71 = .ok (.aload_n 0, 1) := dc_42 (by decide +kernel)
theorem dX12_goOn_72 : decode cX12_goOn 72 = .ok (.getfield 147, 3) := dc_180 (a := 0) (b := 147) (by decide +kernel)
theorem dX12_goOn_75 : decode cX12_goOn 75 = .ok (.iload_n 1, 1) := dc_27 (by decide +kernel)
theorem dX12_goOn_76 : decode cX12_goOn 76 = .ok (.iconst 1, 1) := dc_4 (by decide +kernel)
theorem dX12_goOn_77 : decode cX12_goOn 77 = .ok (.isub, 1) := dc_100 (by decide +kernel)
theorem dX12_goOn_78 : decode cX12_goOn 78 = .ok (.iaload, 1) := dc_46 (by decide +kernel)
theorem dX12_goOn_79 : decode cX12_goOn 79 = .ok (.istore_n 3, 1) := dc_62 (by decide +kernel)
theorem dX12_goOn_80 : decode cX12_goOn 80 = .ok (.aload_n 0, 1) := dc_42 (by decide +kernel)
theorem dX12_goOn_81 : decode cX12_goOn 81 = .ok (.iload_n 2, 1) := dc_28 (by decide +kernel)
theorem dX12_goOn_82 : decode cX12_goOn 82 = .ok (.aload_n 0, 1) := dc_42 (by decide +kernel)
theorem dX12_goOn_83 : decode cX12_goOn 83 = .ok (.getfield 75, 3) := dc_180 (a := 0) (b := 75) (by decide +kernel)
theorem dX12_goOn_86 : decode cX12_goOn 86 = .ok (.iload_n 3, 1) := dc_29 (by decide +kernel)
theorem dX12_goOn_87 : decode cX12_goOn 87 = .ok (.iaload, 1) := dc_46 (by decide +kernel)
theorem dX12_goOn_88 : decode cX12_goOn 88 = .ok (.aload_n 0, 1) := dc_42 (by decide +kernel)
theorem dX12_goOn_89 : decode cX12_goOn 89 = .ok (.getfield 78, 3) := dc_180 (a := 0) (b := 78) (by decide +kernel)
theorem dX12_goOn_92 : decode cX12_goOn 92 = .ok (.iload_n 3, 1) := dc_29 (by decide +kernel)
theorem dX12_goOn_93 : decode cX12_goOn 93 = .ok (.iaload, 1) := dc_46 (by decide +kernel)
theorem dX12_goOn_94 : decode cX12_goOn 94 = .ok (.aload_n 0, 1) := dc_42 (by decide +kernel)
theorem dX12_goOn_95 : decode cX12_goOn 95 = .ok (.getfield 150, 3) := dc_180 (a := 0) (b := 150) (by decide +kernel)
theorem dX12_goOn_98 : decode cX12_goOn 98 = .ok (.iload_n 1, 1) := dc_27 (by decide +kernel)
theorem dX12_goOn_99 : decode cX12_goOn 99 = .ok (.iaload, 1) := dc_46 (by decide +kernel)
theorem dX12_goOn_100 : decode cX12_goOn 100 = .ok (.aload_n 0, 1) := dc_42 (by decide +kernel)
theorem dX12_goOn_101 : decode cX12_goOn 101 = .ok (.iload_n 3, 1) := dc_29 (by decide +kernel)
theorem dX12_goOn_102 : decode cX12_goOn 102 = .ok (.aload_n 0, 1) := dc_42 (by decide +kernel)
theorem dX12_goOn_103 : decode cX12_goOn 103 = .ok (.getfield 150, 3) := dc_180 (a := 0) (b := 150) (by decide +kernel)
theorem dX12_goOn_106 : decode cX12_goOn 106 = .ok (.iload_n 1, 1) := dc_27 (by decide +kernel)
theorem dX12_goOn_107 : decode cX12_goOn 107 = .ok (.iconst 1, 1) := dc_4 (by decide +kernel)
theorem dX12_goOn_108 : decode cX12_goOn 108 = .ok (.isub, 1) := dc_100 (by decide +kernel)
theorem dX12_goOn_109 : decode cX12_goOn 109 = .ok (.iaload, 1) := dc_46 (by decide +kernel)
theorem dX12_goOn_110 : decode cX12_goOn 110 = .ok (.invokevirtual 368, 3) := dc_182 (a := 1) (b := 112) (by decide +kernel)
theorem dX12_goOn_113 : decode cX12_goOn 113 = .ok (.invokevirtual 396, 3) := dc_182 (a := 1) (b := 140) (by decide +kernel)
theorem dX12_goOn_116 : decode cX12_goOn 116 = .ok (.iinc 1 (-1), 3) := dc_132 (a := 1) (b := 255) (by decide +kernel) (by decide)
theorem dX12_goOn_119 : decode cX12_goOn 119 = .ok (.goto (-112), 3) := dc_167 (a := 255) (b := 144) (by decide +kernel) (by decide)
theorem dX12_goOn_122 : decode cX12_goOn 122 = .ok (.return_, 1) := dc_177 (by decide +kernel)
set_option maxRecDepth 100000 in
set_option maxHeartbeats 4000000 in
theorem w_M_goOn_j116 {p : Program} {l : Launch} {e : Env} {R : Room} {s : State} {m : MethodId} {args : Array Value} {below : List Frame} {meth : Method} {c : Code} {dC : Nat → ClassId} {dI : Nat → Nat → Nat} {cs : Nat → ClassId} {ad : Nat → Nat} {A : Nat → Prop} {D0 : Nat → Nat} {S' : SS} (F : Fx p s m args meth c cX12_goOn 4 RX12 none dC dI cs A) (hR1 : 0 ≤ R.frames) (hR2 : 0 ≤ R.locals) (K7 : Int32 → SS → Option (SS)) (hK7 : ∀ (v0 : Int32) (S : SS), K7 v0 S = some S' → AW p l e R s m args below meth c dC dI cs ad A D0 none S' 4 7 [(0, .ref (ad 0)), (1, .int v0)] [] S) (x1 : Int32) (S : SS) (h : f_M_goOn_j116 K7 x1 S = some S') : AW p l e R s m args below meth c dC dI cs ad A D0 none S' 4 116 [(0, .ref (ad 0)), (1, .int x1)] [] S := by
  have hx := F.1.1
  have hb := F.1.2.1
  intro H locs ls w hl
  rw [f_M_goOn_j116] at h
  refine s_nm h (fun z8 ez8 h => ?_)
  refine lv_iinc (pc := 116) (v := z8) (lv' := [(1, .int z8), (0, .ref (ad 0))]) hx hb dX12_goOn_116 hl (k := 1) rfl (by rw [ez8]; rfl) (by decide) rfl (fun ls hl => ?_)
  refine lv_goto (pc := 119) (tgt := 7) hx hb dX12_goOn_119 (by decide) ?_
  exact hK7 _ _ h _ _ _ w (lv_sub hl [1, 0] rfl)
set_option maxRecDepth 100000 in
set_option maxHeartbeats 4000000 in
theorem w_M_goOn_j39 {p : Program} {l : Launch} {e : Env} {R : Room} {s : State} {m : MethodId} {args : Array Value} {below : List Frame} {meth : Method} {c : Code} {dC : Nat → ClassId} {dI : Nat → Nat → Nat} {cs : Nat → ClassId} {ad : Nat → Nat} {A : Nat → Prop} {D0 : Nat → Nat} {S' : SS} (F : Fx p s m args meth c cX12_goOn 4 RX12 none dC dI cs A) (hR1 : 1 ≤ R.frames) (hR2 : 25 ≤ R.locals) (K7 : Int32 → SS → Option (SS)) (hK7 : ∀ (v0 : Int32) (S : SS), K7 v0 S = some S' → AW p l e R s m args below meth c dC dI cs ad A D0 none S' 4 7 [(0, .ref (ad 0)), (1, .int v0)] [] S) (x1 : Int32) (x2 : Int32) (y0 : Int32) (y1 : Int32) (y2 : Int32) (S : SS) (h : f_M_goOn_j39 K7 x1 x2 y0 y1 y2 S = some S') : AW p l e R s m args below meth c dC dI cs ad A D0 none S' 4 39 [(0, .ref (ad 0)), (1, .int x1), (2, .int x2)] [.int y0, .int y1, .int y2, .ref (ad 26)] S := by
  have hx := F.1.1
  have hb := F.1.2.1
  intro H locs ls w hl
  rw [f_M_goOn_j39] at h
  refine lv_isub (pc := 39) hx hb dX12_goOn_39 ?_
  refine s_iast (pc := 40) F w ds_26 h dX12_goOn_40 (fun S3 H locs h w => ?_)
  refine lv_iload_n (pc := 41) hx hb dX12_goOn_41 rfl (lv_at hl 1 rfl) ?_
  refine lv_if_ne (pc := 42) (tgt := 71) hx hb dX12_goOn_42 (by decide) (fun q => ?_) (fun q => ?_)
  · have h := ite_f q h
    refine lv_aload_n (pc := 71) hx hb dX12_goOn_71 rfl (lv_at hl 0 rfl) ?_
    refine s_getR (pc := 72) F w 44 ds_0 (j := 68) vc_X12 vi_X12 rfl (by decide) kf_X12_147 dX12_goOn_72 ?_
    refine lv_iload_n (pc := 75) hx hb dX12_goOn_75 rfl (lv_at hl 1 rfl) ?_
    refine lv_iconst (pc := 76) (v := 1) hx hb dX12_goOn_76 (by decide) ?_
    refine lv_isub (pc := 77) hx hb dX12_goOn_77 ?_
    refine s_iald (pc := 78) F w ds_44 h dX12_goOn_78 (fun h => ?_)
    refine s_nm h (fun z4 ez4 h => ?_)
    rw [← ez4]
    refine lv_istore_n (pc := 79) (lv' := [(3, .int z4), (0, .ref (ad 0)), (1, .int x1), (2, .int x2)]) hx hb dX12_goOn_79 rfl hl (by decide) rfl (fun ls hl => ?_)
    refine lv_aload_n (pc := 80) hx hb dX12_goOn_80 rfl (lv_at hl 1 rfl) ?_
    refine lv_iload_n (pc := 81) hx hb dX12_goOn_81 rfl (lv_at hl 3 rfl) ?_
    refine lv_aload_n (pc := 82) hx hb dX12_goOn_82 rfl (lv_at hl 1 rfl) ?_
    refine s_getR (pc := 83) F w 20 ds_0 (j := 32) vc_X12 vi_X12 rfl (by decide) kf_X12_75 dX12_goOn_83 ?_
    refine lv_iload_n (pc := 86) hx hb dX12_goOn_86 rfl (lv_at hl 0 rfl) ?_
    refine s_iald (pc := 87) F w ds_20 h dX12_goOn_87 (fun h => ?_)
    refine lv_aload_n (pc := 88) hx hb dX12_goOn_88 rfl (lv_at hl 1 rfl) ?_
    refine s_getR (pc := 89) F w 21 ds_0 (j := 33) vc_X12 vi_X12 rfl (by decide) kf_X12_78 dX12_goOn_89 ?_
    refine lv_iload_n (pc := 92) hx hb dX12_goOn_92 rfl (lv_at hl 0 rfl) ?_
    refine s_iald (pc := 93) F w ds_21 h dX12_goOn_93 (fun h => ?_)
    refine lv_aload_n (pc := 94) hx hb dX12_goOn_94 rfl (lv_at hl 1 rfl) ?_
    refine s_getR (pc := 95) F w 45 ds_0 (j := 69) vc_X12 vi_X12 rfl (by decide) kf_X12_150 dX12_goOn_95 ?_
    refine lv_iload_n (pc := 98) hx hb dX12_goOn_98 rfl (lv_at hl 2 rfl) ?_
    refine s_iald (pc := 99) F w ds_45 h dX12_goOn_99 (fun h => ?_)
    refine lv_aload_n (pc := 100) hx hb dX12_goOn_100 rfl (lv_at hl 1 rfl) ?_
    refine lv_iload_n (pc := 101) hx hb dX12_goOn_101 rfl (lv_at hl 0 rfl) ?_
    refine lv_aload_n (pc := 102) hx hb dX12_goOn_102 rfl (lv_at hl 1 rfl) ?_
    refine s_getR (pc := 103) F w 45 ds_0 (j := 69) vc_X12 vi_X12 rfl (by decide) kf_X12_150 dX12_goOn_103 ?_
    refine lv_iload_n (pc := 106) hx hb dX12_goOn_106 rfl (lv_at hl 2 rfl) ?_
    refine lv_iconst (pc := 107) (v := 1) hx hb dX12_goOn_107 (by decide) ?_
    refine lv_isub (pc := 108) hx hb dX12_goOn_108 ?_
    refine s_iald (pc := 109) F w ds_45 h dX12_goOn_109 (fun h => ?_)
    obtain ⟨r6, S5, hc, h⟩ := bnd_t h
    refine s_cvi (pc := 110) [.int z4, .int (S3.1 45 (x1 - (1 : Int32)).toNatClampNeg)] (fun ad => [.ref (ad 0), .int z4, .int (S3.1 45 (x1 - (1 : Int32)).toNatClampNeg)]) F w (m_M_wayOf _ _ _ _ _ hc) rfl rfl hl.1 ds_0 vc_X12 rfl ok_X12_wayOf rfl kc_X12_wayOf kl_X12_368 ki_X12_wayOf kv_X12_wayOf kn_X12 ⟨Nat.le_trans (by decide) hR1, Nat.le_trans (by decide) hR2⟩ ⟨Nat.zero_le _, Nat.zero_le _⟩ (Nat.le_of_ble_eq_true rfl) dX12_goOn_110 (fun H locs w => ?_)
    obtain ⟨S7, hc, h⟩ := bndv_t h
    refine s_cvv (pc := 113) [.int x2, .int (S3.1 20 z4.toNatClampNeg), .int (S3.1 21 z4.toNatClampNeg), .int (S3.1 45 x1.toNatClampNeg), .int r6] (fun ad => [.ref (ad 0), .int x2, .int (S3.1 20 z4.toNatClampNeg), .int (S3.1 21 z4.toNatClampNeg), .int (S3.1 45 x1.toNatClampNeg), .int r6]) F w (m_M_place _ _ _ _ _ _ _ hc) rfl rfl hl.1 ds_0 vc_X12 rfl ok_X12_place rfl kc_X12_place kl_X12_396 ki_X12_place kv_X12_place kn_X12 ⟨Nat.le_trans (by decide) hR1, Nat.le_trans (by decide) hR2⟩ ⟨Nat.zero_le _, Nat.zero_le _⟩ (Nat.le_of_ble_eq_true rfl) dX12_goOn_113 (fun H locs w => ?_)
    exact w_M_goOn_j116 F (Nat.le_trans (by decide) hR1) (Nat.le_trans (by decide) hR2) _ hK7 _ _ h _ _ _ w (lv_sub hl [1, 2] rfl)
  · have h := ite_t q h
    refine lv_aload_n (pc := 45) hx hb dX12_goOn_45 rfl (lv_at hl 0 rfl) ?_
    refine lv_iload_n (pc := 46) hx hb dX12_goOn_46 rfl (lv_at hl 2 rfl) ?_
    refine lv_aload_n (pc := 47) hx hb dX12_goOn_47 rfl (lv_at hl 0 rfl) ?_
    refine s_getI (pc := 48) F w ds_0 (j := 26) vc_X12 vi_X12 rfl (by decide) kf_X12_245 dX12_goOn_48 ?_
    refine lv_aload_n (pc := 51) hx hb dX12_goOn_51 rfl (lv_at hl 0 rfl) ?_
    refine s_getI (pc := 52) F w ds_0 (j := 27) vc_X12 vi_X12 rfl (by decide) kf_X12_248 dX12_goOn_52 ?_
    refine lv_aload_n (pc := 55) hx hb dX12_goOn_55 rfl (lv_at hl 0 rfl) ?_
    refine s_getR (pc := 56) F w 45 ds_0 (j := 69) vc_X12 vi_X12 rfl (by decide) kf_X12_150 dX12_goOn_56 ?_
    refine lv_iconst (pc := 59) (v := 0) hx hb dX12_goOn_59 (by decide) ?_
    refine s_iald (pc := 60) F w ds_45 h dX12_goOn_60 (fun h => ?_)
    refine lv_aload_n (pc := 61) hx hb dX12_goOn_61 rfl (lv_at hl 0 rfl) ?_
    refine s_getI (pc := 62) F w ds_0 (j := 28) vc_X12 vi_X12 rfl (by decide) kf_X12_251 dX12_goOn_62 ?_
    obtain ⟨S9, hc, h⟩ := bndv_t h
    refine s_cvv (pc := 65) [.int x2, .int (S3.1 0 26), .int (S3.1 0 27), .int (S3.1 45 (0 : Int32).toNatClampNeg), .int (S3.1 0 28)] (fun ad => [.ref (ad 0), .int x2, .int (S3.1 0 26), .int (S3.1 0 27), .int (S3.1 45 (0 : Int32).toNatClampNeg), .int (S3.1 0 28)]) F w (m_M_place _ _ _ _ _ _ _ hc) rfl rfl hl.1 ds_0 vc_X12 rfl ok_X12_place rfl kc_X12_place kl_X12_396 ki_X12_place kv_X12_place kn_X12 ⟨Nat.le_trans (by decide) hR1, Nat.le_trans (by decide) hR2⟩ ⟨Nat.zero_le _, Nat.zero_le _⟩ (Nat.le_of_ble_eq_true rfl) dX12_goOn_65 (fun H locs w => ?_)
    refine lv_goto (pc := 68) (tgt := 116) hx hb dX12_goOn_68 (by decide) ?_
    exact w_M_goOn_j116 F (Nat.le_trans (by decide) hR1) (Nat.le_trans (by decide) hR2) _ hK7 _ _ h _ _ _ w (lv_sub hl [0, 1] rfl)
set_option maxRecDepth 100000 in
set_option maxHeartbeats 4000000 in
theorem w_M_goOn_L7 {p : Program} {l : Launch} {e : Env} {R : Room} {s : State} {m : MethodId} {args : Array Value} {below : List Frame} {meth : Method} {c : Code} {dC : Nat → ClassId} {dI : Nat → Nat → Nat} {cs : Nat → ClassId} {ad : Nat → Nat} {A : Nat → Prop} {D0 : Nat → Nat} {S' : SS} (F : Fx p s m args meth c cX12_goOn 4 RX12 none dC dI cs A) (hR1 : 1 ≤ R.frames) (hR2 : 25 ≤ R.locals) : ∀ (n : Nat) (x1 : Int32) (S : SS), f_M_goOn_L7 n x1 S = some S' → AW p l e R s m args below meth c dC dI cs ad A D0 none S' 4 7 [(0, .ref (ad 0)), (1, .int x1)] [] S := by
  have hx := F.1.1
  have hb := F.1.2.1
  intro n
  induction n with
  | zero => intro x1 S h; cases h
  | succ n ih =>
    intro x1 S h H locs ls w hl
    rw [f_M_goOn_L7] at h
    refine lv_iload_n (pc := 7) hx hb dX12_goOn_7 rfl (lv_at hl 1 rfl) ?_
    refine lv_if_lt (pc := 8) (tgt := 122) hx hb dX12_goOn_8 (by decide) (fun q => ?_) (fun q => ?_)
    · have h := ite_t q h
      exact s_vret F w h dX12_goOn_122
    · have h := ite_f q h
      refine lv_aload_n (pc := 11) hx hb dX12_goOn_11 rfl (lv_at hl 0 rfl) ?_
      refine s_getR (pc := 12) F w 44 ds_0 (j := 68) vc_X12 vi_X12 rfl (by decide) kf_X12_147 dX12_goOn_12 ?_
      refine lv_iload_n (pc := 15) hx hb dX12_goOn_15 rfl (lv_at hl 1 rfl) ?_
      refine s_iald (pc := 16) F w ds_44 h dX12_goOn_16 (fun h => ?_)
      refine s_nm h (fun z2 ez2 h => ?_)
      rw [← ez2]
      refine lv_istore_n (pc := 17) (lv' := [(2, .int z2), (0, .ref (ad 0)), (1, .int x1)]) hx hb dX12_goOn_17 rfl hl (by decide) rfl (fun ls hl => ?_)
      refine lv_aload_n (pc := 18) hx hb dX12_goOn_18 rfl (lv_at hl 1 rfl) ?_
      refine s_getR (pc := 19) F w 26 ds_0 (j := 38) vc_X12 vi_X12 rfl (by decide) kf_X12_93 dX12_goOn_19 ?_
      refine lv_iload_n (pc := 22) hx hb dX12_goOn_22 rfl (lv_at hl 0 rfl) ?_
      refine lv_dup2_11 (pc := 23) hx hb dX12_goOn_23 rfl rfl ?_
      refine s_iald (pc := 24) F w ds_26 h dX12_goOn_24 (fun h => ?_)
      refine lv_aload_n (pc := 25) hx hb dX12_goOn_25 rfl (lv_at hl 1 rfl) ?_
      refine s_getR (pc := 26) F w 26 ds_0 (j := 38) vc_X12 vi_X12 rfl (by decide) kf_X12_93 dX12_goOn_26 ?_
      refine lv_iload_n (pc := 29) hx hb dX12_goOn_29 rfl (lv_at hl 0 rfl) ?_
      refine s_iald (pc := 30) F w ds_26 h dX12_goOn_30 (fun h => ?_)
      refine lv_if_le (pc := 31) (tgt := 38) hx hb dX12_goOn_31 (by decide) (fun q => ?_) (fun q => ?_)
      · have h := ite_t q h
        refine lv_iconst (pc := 38) (v := 0) hx hb dX12_goOn_38 (by decide) ?_
        exact w_M_goOn_j39 F (Nat.le_trans (by decide) hR1) (Nat.le_trans (by decide) hR2) _ (fun v0 S h => ih v0 S h) _ _ _ _ _ _ h _ _ _ w (lv_sub hl [1, 2, 0] rfl)
      · have h := ite_f q h
        refine lv_iconst (pc := 34) (v := 1) hx hb dX12_goOn_34 (by decide) ?_
        refine lv_goto (pc := 35) (tgt := 39) hx hb dX12_goOn_35 (by decide) ?_
        exact w_M_goOn_j39 F (Nat.le_trans (by decide) hR1) (Nat.le_trans (by decide) hR2) _ (fun v0 S h => ih v0 S h) _ _ _ _ _ _ h _ _ _ w (lv_sub hl [1, 2, 0] rfl)
set_option maxRecDepth 100000 in
set_option maxHeartbeats 4000000 in
theorem m_M_goOn  (S S' : SS) (h : f_M_goOn  S = some S') : MT yX12_goOn cX12_goOn 4 none 1 25 (fun ad => [.ref (ad 0)]) S none S' := by
  refine MT.of RX12 (fun ad => [(0, .ref (ad 0))]) (by decide) rfl (fun _ => Nat.le_of_ble_eq_true rfl) (fun _ => rfl) ?_
  intro p l e R s m args below meth c dC dI cs ad A hR1 hR2 F H locs ls w hl
  have hx := F.1.1
  have hb := F.1.2.1
  rw [f_M_goOn] at h
  refine lv_aload_n (pc := 0) hx hb dX12_goOn_0 rfl (lv_at hl 0 rfl) ?_
  refine s_getI (pc := 1) F w ds_0 (j := 70) vc_X12 vi_X12 rfl (by decide) kf_X12_393 dX12_goOn_1 ?_
  refine lv_iconst (pc := 4) (v := 1) hx hb dX12_goOn_4 (by decide) ?_
  refine lv_isub (pc := 5) hx hb dX12_goOn_5 ?_
  refine s_nm h (fun z1 ez1 h => ?_)
  rw [← ez1]
  refine lv_istore_n (pc := 6) (lv' := [(1, .int z1), (0, .ref (ad 0))]) hx hb dX12_goOn_6 rfl hl (by decide) rfl (fun ls hl => ?_)
  exact w_M_goOn_L7 F (Nat.le_trans (by decide) hR1) (Nat.le_trans (by decide) hR2) _ _ _ h _ _ _ w (lv_sub hl [1, 0] rfl)
def f_M_pull_L53  : Nat → Int32 → Int32 → SS → Option (Int32 × SS)
  | 0, _, _, _ => none
  | n + 1, x3, x4, S =>
    if x3 ≤ x4 then
      bnd (f_M_entered (8 : Int32) x3 S) (fun r9 S8 =>
      some (r9, S8))
    else
      bnd (f_M_missStep  S) (fun r11 S10 =>
      bnd (f_M_ends r11 S10) (fun r13 S12 =>
      if r13 = 0 then
        bndv (f_M_goOn  S12) (fun S14 =>
        wr S14 0 2 ((S14.1 0 2) + (1 : Int32)) (fun S15 =>
        nm (x4 + (1 : Int32)) (fun z16 =>
        f_M_pull_L53 n x3 z16 S15)))
      else
        bnd (f_M_entered (8 : Int32) (-2 : Int32) S12) (fun r18 S17 =>
        some (r18, S17))))
def f_M_pull (a1 : Int32) (a2 : Int32) (a3 : Int32) (S : SS) : Option (Int32 × SS) :=
  if a3 < (1 : Int32) then
    some ((-1 : Int32), S)
  else
    if a3 ≤ (200 : Int32) then
      bndv (f_M_begin  S) (fun S1 =>
      bndv (f_M_keep  S1) (fun S2 =>
      bnd (f_M_missPull a1 a2 S2) (fun r4 S3 =>
      bnd (f_M_ends r4 S3) (fun r6 S5 =>
      if r6 = 0 then
        bndv (f_M_follow a1 a2 S5) (fun S7 =>
        f_M_pull_L53 NF a3 (0 : Int32) S7)
      else
        bnd (f_M_entered (8 : Int32) (-2 : Int32) S5) (fun r20 S19 =>
        some (r20, S19))))))
    else
      some ((-1 : Int32), S)
theorem dX12_pull_0 : decode cX12_pull 0 = .ok (.iload_n 3, 1) := dc_29 (by decide +kernel)
theorem dX12_pull_1 : decode cX12_pull 1 = .ok (.iconst 1, 1) := dc_4 (by decide +kernel)
theorem dX12_pull_2 : decode cX12_pull 2 = .ok (.if_icmp .lt 10, 3) := dc_161 (a := 0) (b := 10) (by decide +kernel) (by decide)
theorem dX12_pull_5 : decode cX12_pull 5 = .ok (.iload_n 3, 1) := dc_29 (by decide +kernel)
theorem dX12_pull_6 : decode cX12_pull 6 = .ok (.sipush 200, 3) := dc_17 (a := 0) (b := 200) (by decide +kernel) (by decide)
theorem dX12_pull_9 : decode cX12_pull 9 = .ok (.if_icmp .le 5, 3) := dc_164 (a := 0) (b := 5) (by decide +kernel) (by decide)
theorem dX12_pull_12 : decode cX12_pull 12 = .ok (.iconst (-1), 1) := dc_2 (by decide +kernel)
theorem dX12_pull_13 : decode cX12_pull 13 = .ok (.ireturn, 1) := dc_172 (by decide +kernel)
theorem dX12_pull_14 : decode cX12_pull 14 = .ok (.aload_n 0, 1) := dc_42 (by decide +kernel)
theorem dX12_pull_15 : decode cX12_pull 15 = .ok (.invokevirtual 226, 3) := dc_182 (a := 0) (b := 226) (by decide +kernel)
theorem dX12_pull_18 : decode cX12_pull 18 = .ok (.aload_n 0, 1) := dc_42 (by decide +kernel)
theorem dX12_pull_19 : decode cX12_pull 19 = .ok (.invokevirtual 346, 3) := dc_182 (a := 1) (b := 90) (by decide +kernel)
theorem dX12_pull_22 : decode cX12_pull 22 = .ok (.aload_n 0, 1) := dc_42 (by decide +kernel)
theorem dX12_pull_23 : decode cX12_pull 23 = .ok (.aload_n 0, 1) := dc_42 (by decide +kernel)
theorem dX12_pull_24 : decode cX12_pull 24 = .ok (.iload_n 1, 1) := dc_27 (by decide +kernel)
theorem dX12_pull_25 : decode cX12_pull 25 = .ok (.iload_n 2, 1) := dc_28 (by decide +kernel)
theorem dX12_pull_26 : decode cX12_pull 26 = .ok (.invokevirtual 403, 3) := dc_182 (a := 1) (b := 147) (by decide +kernel)
theorem dX12_pull_29 : decode cX12_pull 29 = .ok (.invokevirtual 236, 3) := dc_182 (a := 0) (b := 236) (by decide +kernel)
theorem dX12_pull_32 : decode cX12_pull 32 = .ok (.ifCond .eq 12, 3) := dc_153 (a := 0) (b := 12) (by decide +kernel) (by decide)
theorem dX12_pull_35 : decode cX12_pull 35 = .ok (.aload_n 0, 1) := dc_42 (by decide +kernel)
theorem dX12_pull_36 : decode cX12_pull 36 = .ok (.bipush 8, 2) := dc_16 (a := 8) (by decide +kernel) (by decide)
theorem dX12_pull_38 : decode cX12_pull 38 = .ok (.bipush (-2), 2) := dc_16 (a := 254) (by decide +kernel) (by decide)
theorem dX12_pull_40 : decode cX12_pull 40 = .ok (.invokevirtual 349, 3) := dc_182 (a := 1) (b := 93) (by decide +kernel)
theorem dX12_pull_43 : decode cX12_pull 43 = .ok (.ireturn, 1) := dc_172 (by decide +kernel)
theorem dX12_pull_44 : decode cX12_pull 44 = .ok (.aload_n 0, 1) := dc_42 (by decide +kernel)
theorem dX12_pull_45 : decode cX12_pull 45 = .ok (.iload_n 1, 1) := dc_27 (by decide +kernel)
theorem dX12_pull_46 : decode cX12_pull 46 = .ok (.iload_n 2, 1) := dc_28 (by decide +kernel)
theorem dX12_pull_47 : decode cX12_pull 47 = .ok (.invokevirtual 406, 3) := dc_182 (a := 1) (b := 150) (by decide +kernel)
theorem dX12_pull_50 : decode cX12_pull 50 = .ok (.iconst 0, 1) := dc_3 (by decide +kernel)
theorem dX12_pull_51 : decode cX12_pull 51 = .ok (.istore 4, 2) := dc_54 (a := 4) (by decide +kernel)
theorem dX12_pull_53 : decode cX12_pull 53 = .ok (.iload 4, 2) := dc_21 (a := 4) (by decide +kernel)
theorem dX12_pull_55 : decode cX12_pull 55 = .ok (.iload_n 3, 1) := dc_29 (by decide +kernel)
theorem dX12_pull_56 : decode cX12_pull 56 = .ok (.if_icmp .ge 43, 3) := dc_162 (a := 0) (b := 43) (by decide +kernel) (by decide)
theorem dX12_pull_59 : decode cX12_pull 59 = .ok (.aload_n 0, 1) := dc_42 (by decide +kernel)
theorem dX12_pull_60 : decode cX12_pull 60 = .ok (.aload_n 0, 1) := dc_42 (by decide +kernel)
theorem dX12_pull_61 : decode cX12_pull 61 = .ok (.invokevirtual 410, 3) := dc_182 (a := 1) (b := 154) (by decide +kernel)
theorem dX12_pull_64 : decode cX12_pull 64 = .ok (.invokevirtual 236, 3) := dc_182 (a := 0) (b := 236) (by decide +kernel)
theorem dX12_pull_67 : decode cX12_pull 67 = .ok (.ifCond .eq 12, 3) := dc_153 (a := 0) (b := 12) (by decide +kernel) (by decide)
theorem dX12_pull_70 : decode cX12_pull 70 = .ok (.aload_n 0, 1) := dc_42 (by decide +kernel)
theorem dX12_pull_71 : decode cX12_pull 71 = .ok (.bipush 8, 2) := dc_16 (a := 8) (by decide +kernel) (by decide)
theorem dX12_pull_73 : decode cX12_pull 73 = .ok (.bipush (-2), 2) := dc_16 (a := 254) (by decide +kernel) (by decide)
theorem dX12_pull_75 : decode cX12_pull 75 = .ok (.invokevirtual 349, 3) := dc_182 (a := 1) (b := 93) (by decide +kernel)
theorem dX12_pull_78 : decode cX12_pull 78 = .ok (.ireturn, 1) := dc_172 (by decide +kernel)
theorem dX12_pull_79 : decode cX12_pull 79 = .ok (.aload_n 0, 1) := dc_42 (by decide +kernel)
theorem dX12_pull_80 : decode cX12_pull 80 = .ok (.invokevirtual 414, 3) := dc_182 (a := 1) (b := 158) (by decide +kernel)
theorem dX12_pull_83 : decode cX12_pull 83 = .ok (.aload_n 0, 1) := dc_42 (by decide +kernel)
theorem dX12_pull_84 : decode cX12_pull 84 = .ok (.dup, 1) := dc_89 (by decide +kernel)
theorem dX12_pull_85 : decode cX12_pull 85 = .ok (.getfield 204, 3) := dc_180 (a := 0) (b := 204) (by decide +kernel)
theorem dX12_pull_88 : decode cX12_pull 88 = .ok (.iconst 1, 1) := dc_4 (by decide +kernel)
theorem dX12_pull_89 : decode cX12_pull 89 = .ok (.iadd, 1) := dc_96 (by decide +kernel)
theorem dX12_pull_90 : decode cX12_pull 90 = .ok (.putfield 204, 3) := dc_181 (a := 0) (b := 204) (by decide +kernel)
theorem dX12_pull_93 : decode cX12_pull 93 = .ok (.iinc 4 1, 3) := dc_132 (a := 4) (b := 1) (by decide +kernel) (by decide)
theorem dX12_pull_96 : decode cX12_pull 96 = .ok (.goto (-43), 3) := dc_167 (a := 255) (b := 213) (by decide +kernel) (by decide)
theorem dX12_pull_99 : decode cX12_pull 99 = .ok (.aload_n 0, 1) := dc_42 (by decide +kernel)
theorem dX12_pull_100 : decode cX12_pull 100 = .ok (.bipush 8, 2) := dc_16 (a := 8) (by decide +kernel) (by decide)
theorem dX12_pull_102 : decode cX12_pull 102 = .ok (.iload_n 3, 1) := dc_29 (by decide +kernel)
theorem dX12_pull_103 : decode cX12_pull 103 = .ok (.invokevirtual 349, 3) := dc_182 (a := 1) (b := 93) (by decide +kernel)
theorem dX12_pull_106 : decode cX12_pull 106 = .ok (.ireturn, 1) := dc_172 (by decide +kernel)
set_option maxRecDepth 100000 in
set_option maxHeartbeats 4000000 in
theorem w_M_pull_L53 {p : Program} {l : Launch} {e : Env} {R : Room} {s : State} {m : MethodId} {args : Array Value} {below : List Frame} {meth : Method} {c : Code} {dC : Nat → ClassId} {dI : Nat → Nat → Nat} {cs : Nat → ClassId} {ad : Nat → Nat} {A : Nat → Prop} {D0 : Nat → Nat} {S' : SS} {r : Int32} (F : Fx p s m args meth c cX12_pull 5 RX12 (some .int) dC dI cs A) (hR1 : 3 ≤ R.frames) (hR2 : 72 ≤ R.locals) : ∀ (n : Nat) (x3 : Int32) (x4 : Int32) (S : SS), f_M_pull_L53 n x3 x4 S = some (r, S') → AW p l e R s m args below meth c dC dI cs ad A D0 (some (.int r)) S' 5 53 [(0, .ref (ad 0)), (3, .int x3), (4, .int x4)] [] S := by
  have hx := F.1.1
  have hb := F.1.2.1
  intro n
  induction n with
  | zero => intro x3 x4 S h; cases h
  | succ n ih =>
    intro x3 x4 S h H locs ls w hl
    rw [f_M_pull_L53] at h
    refine lv_iload (pc := 53) hx hb dX12_pull_53 (lv_at hl 2 rfl) ?_
    refine lv_iload_n (pc := 55) hx hb dX12_pull_55 rfl (lv_at hl 1 rfl) ?_
    refine lv_icmp_ge (pc := 56) (tgt := 99) hx hb dX12_pull_56 (by decide) (fun q => ?_) (fun q => ?_)
    · have h := ite_t q h
      refine lv_aload_n (pc := 99) hx hb dX12_pull_99 rfl (lv_at hl 0 rfl) ?_
      refine lv_bipush (pc := 100) (v := 8) hx hb dX12_pull_100 (by decide) ?_
      refine lv_iload_n (pc := 102) hx hb dX12_pull_102 rfl (lv_at hl 1 rfl) ?_
      obtain ⟨r9, S8, hc, h⟩ := bnd_t h
      refine s_cvi (pc := 103) [.int (8 : Int32), .int x3] (fun ad => [.ref (ad 0), .int (8 : Int32), .int x3]) F w (m_M_entered _ _ _ _ _ hc) rfl rfl hl.1 ds_0 vc_X12 rfl ok_X12_entered rfl kc_X12_entered kl_X12_349 ki_X12_entered kv_X12_entered kn_X12 ⟨Nat.le_trans (by decide) hR1, Nat.le_trans (by decide) hR2⟩ ⟨Nat.zero_le _, Nat.zero_le _⟩ (Nat.le_of_ble_eq_true rfl) dX12_pull_103 (fun H locs w => ?_)
      exact s_iret F w h dX12_pull_106
    · have h := ite_f q h
      refine lv_aload_n (pc := 59) hx hb dX12_pull_59 rfl (lv_at hl 0 rfl) ?_
      refine lv_aload_n (pc := 60) hx hb dX12_pull_60 rfl (lv_at hl 0 rfl) ?_
      obtain ⟨r11, S10, hc, h⟩ := bnd_t h
      refine s_cvi (pc := 61) [] (fun ad => [.ref (ad 0)]) F w (m_M_missStep  _ _ _ hc) rfl rfl hl.1 ds_0 vc_X12 rfl ok_X12_missStep rfl kc_X12_missStep kl_X12_410 ki_X12_missStep kv_X12_missStep kn_X12 ⟨Nat.le_trans (by decide) hR1, Nat.le_trans (by decide) hR2⟩ ⟨Nat.zero_le _, Nat.zero_le _⟩ (Nat.le_of_ble_eq_true rfl) dX12_pull_61 (fun H locs w => ?_)
      obtain ⟨r13, S12, hc, h⟩ := bnd_t h
      refine s_cvi (pc := 64) [.int r11] (fun ad => [.ref (ad 0), .int r11]) F w (m_M_ends _ _ _ _ hc) rfl rfl hl.1 ds_0 vc_X12 rfl ok_X12_ends rfl kc_X12_ends kl_X12_236 ki_X12_ends kv_X12_ends kn_X12 ⟨Nat.le_trans (by decide) hR1, Nat.le_trans (by decide) hR2⟩ ⟨Nat.zero_le _, Nat.zero_le _⟩ (Nat.le_of_ble_eq_true rfl) dX12_pull_64 (fun H locs w => ?_)
      refine lv_if_eq (pc := 67) (tgt := 79) hx hb dX12_pull_67 (by decide) (fun q => ?_) (fun q => ?_)
      · have h := ite_t q h
        refine lv_aload_n (pc := 79) hx hb dX12_pull_79 rfl (lv_at hl 0 rfl) ?_
        obtain ⟨S14, hc, h⟩ := bndv_t h
        refine s_cvv (pc := 80) [] (fun ad => [.ref (ad 0)]) F w (m_M_goOn  _ _ hc) rfl rfl hl.1 ds_0 vc_X12 rfl ok_X12_goOn rfl kc_X12_goOn kl_X12_414 ki_X12_goOn kv_X12_goOn kn_X12 ⟨Nat.le_trans (by decide) hR1, Nat.le_trans (by decide) hR2⟩ ⟨Nat.zero_le _, Nat.zero_le _⟩ (Nat.le_of_ble_eq_true rfl) dX12_pull_80 (fun H locs w => ?_)
        refine lv_aload_n (pc := 83) hx hb dX12_pull_83 rfl (lv_at hl 0 rfl) ?_
        refine lv_dup (pc := 84) hx hb dX12_pull_84 rfl ?_
        refine s_getI (pc := 85) F w ds_0 (j := 2) vc_X12 vi_X12 rfl (by decide) kf_X12_204 dX12_pull_85 ?_
        refine lv_iconst (pc := 88) (v := 1) hx hb dX12_pull_88 (by decide) ?_
        refine lv_iadd (pc := 89) hx hb dX12_pull_89 ?_
        refine s_putI (pc := 90) F w ds_0 vc_X12 vi_X12 tyX12_ok nmX12 (j := 2) rfl (by decide) kf_X12_204 rfl pd_I h dX12_pull_90 (fun S15 H locs h w => ?_)
        refine s_nm h (fun z16 ez16 h => ?_)
        refine lv_iinc (pc := 93) (v := z16) (lv' := [(4, .int z16), (0, .ref (ad 0)), (3, .int x3)]) hx hb dX12_pull_93 hl (k := 2) rfl (by rw [ez16]; rfl) (by decide) rfl (fun ls hl => ?_)
        refine lv_goto (pc := 96) (tgt := 53) hx hb dX12_pull_96 (by decide) ?_
        exact ih _ _ _ h _ _ _ w (lv_sub hl [1, 2, 0] rfl)
      · have h := ite_f q h
        refine lv_aload_n (pc := 70) hx hb dX12_pull_70 rfl (lv_at hl 0 rfl) ?_
        refine lv_bipush (pc := 71) (v := 8) hx hb dX12_pull_71 (by decide) ?_
        refine lv_bipush (pc := 73) (v := -2) hx hb dX12_pull_73 (by decide) ?_
        obtain ⟨r18, S17, hc, h⟩ := bnd_t h
        refine s_cvi (pc := 75) [.int (8 : Int32), .int (-2 : Int32)] (fun ad => [.ref (ad 0), .int (8 : Int32), .int (-2 : Int32)]) F w (m_M_entered _ _ _ _ _ hc) rfl rfl hl.1 ds_0 vc_X12 rfl ok_X12_entered rfl kc_X12_entered kl_X12_349 ki_X12_entered kv_X12_entered kn_X12 ⟨Nat.le_trans (by decide) hR1, Nat.le_trans (by decide) hR2⟩ ⟨Nat.zero_le _, Nat.zero_le _⟩ (Nat.le_of_ble_eq_true rfl) dX12_pull_75 (fun H locs w => ?_)
        exact s_iret F w h dX12_pull_78
set_option maxRecDepth 100000 in
set_option maxHeartbeats 4000000 in
theorem m_M_pull (a1 : Int32) (a2 : Int32) (a3 : Int32) (S S' : SS) (r : Int32) (h : f_M_pull a1 a2 a3 S = some (r, S')) : MT yX12_pull cX12_pull 5 (some .int) 4 95 (fun ad => [.ref (ad 0), .int a1, .int a2, .int a3]) S (some (.int r)) S' := by
  refine MT.of RX12 (fun ad => [(0, .ref (ad 0)), (1, .int a1), (2, .int a2), (3, .int a3)]) (by decide) rfl (fun _ => Nat.le_of_ble_eq_true rfl) (fun _ => rfl) ?_
  intro p l e R s m args below meth c dC dI cs ad A hR1 hR2 F H locs ls w hl
  have hx := F.1.1
  have hb := F.1.2.1
  rw [f_M_pull] at h
  refine lv_iload_n (pc := 0) hx hb dX12_pull_0 rfl (lv_at hl 3 rfl) ?_
  refine lv_iconst (pc := 1) (v := 1) hx hb dX12_pull_1 (by decide) ?_
  refine lv_icmp_lt (pc := 2) (tgt := 12) hx hb dX12_pull_2 (by decide) (fun q => ?_) (fun q => ?_)
  · have h := ite_t q h
    refine lv_iconst (pc := 12) (v := -1) hx hb dX12_pull_12 (by decide) ?_
    exact s_iret F w h dX12_pull_13
  · have h := ite_f q h
    refine lv_iload_n (pc := 5) hx hb dX12_pull_5 rfl (lv_at hl 3 rfl) ?_
    refine lv_sipush (pc := 6) (v := 200) hx hb dX12_pull_6 (by decide) ?_
    refine lv_icmp_le (pc := 9) (tgt := 14) hx hb dX12_pull_9 (by decide) (fun q => ?_) (fun q => ?_)
    · have h := ite_t q h
      refine lv_aload_n (pc := 14) hx hb dX12_pull_14 rfl (lv_at hl 0 rfl) ?_
      obtain ⟨S1, hc, h⟩ := bndv_t h
      refine s_cvv (pc := 15) [] (fun ad => [.ref (ad 0)]) F w (m_M_begin  _ _ hc) rfl rfl hl.1 ds_0 vc_X12 rfl ok_X12_begin rfl kc_X12_begin kl_X12_226 ki_X12_begin kv_X12_begin kn_X12 ⟨Nat.le_trans (by decide) hR1, Nat.le_trans (by decide) hR2⟩ ⟨Nat.zero_le _, Nat.zero_le _⟩ (Nat.le_of_ble_eq_true rfl) dX12_pull_15 (fun H locs w => ?_)
      refine lv_aload_n (pc := 18) hx hb dX12_pull_18 rfl (lv_at hl 0 rfl) ?_
      obtain ⟨S2, hc, h⟩ := bndv_t h
      refine s_cvv (pc := 19) [] (fun ad => [.ref (ad 0)]) F w (m_M_keep  _ _ hc) rfl rfl hl.1 ds_0 vc_X12 rfl ok_X12_keep rfl kc_X12_keep kl_X12_346 ki_X12_keep kv_X12_keep kn_X12 ⟨Nat.le_trans (by decide) hR1, Nat.le_trans (by decide) hR2⟩ ⟨Nat.zero_le _, Nat.zero_le _⟩ (Nat.le_of_ble_eq_true rfl) dX12_pull_19 (fun H locs w => ?_)
      refine lv_aload_n (pc := 22) hx hb dX12_pull_22 rfl (lv_at hl 0 rfl) ?_
      refine lv_aload_n (pc := 23) hx hb dX12_pull_23 rfl (lv_at hl 0 rfl) ?_
      refine lv_iload_n (pc := 24) hx hb dX12_pull_24 rfl (lv_at hl 1 rfl) ?_
      refine lv_iload_n (pc := 25) hx hb dX12_pull_25 rfl (lv_at hl 2 rfl) ?_
      obtain ⟨r4, S3, hc, h⟩ := bnd_t h
      refine s_cvi (pc := 26) [.int a1, .int a2] (fun ad => [.ref (ad 0), .int a1, .int a2]) F w (m_M_missPull _ _ _ _ _ hc) rfl rfl hl.1 ds_0 vc_X12 rfl ok_X12_missPull rfl kc_X12_missPull kl_X12_403 ki_X12_missPull kv_X12_missPull kn_X12 ⟨Nat.le_trans (by decide) hR1, Nat.le_trans (by decide) hR2⟩ ⟨Nat.zero_le _, Nat.zero_le _⟩ (Nat.le_of_ble_eq_true rfl) dX12_pull_26 (fun H locs w => ?_)
      obtain ⟨r6, S5, hc, h⟩ := bnd_t h
      refine s_cvi (pc := 29) [.int r4] (fun ad => [.ref (ad 0), .int r4]) F w (m_M_ends _ _ _ _ hc) rfl rfl hl.1 ds_0 vc_X12 rfl ok_X12_ends rfl kc_X12_ends kl_X12_236 ki_X12_ends kv_X12_ends kn_X12 ⟨Nat.le_trans (by decide) hR1, Nat.le_trans (by decide) hR2⟩ ⟨Nat.zero_le _, Nat.zero_le _⟩ (Nat.le_of_ble_eq_true rfl) dX12_pull_29 (fun H locs w => ?_)
      refine lv_if_eq (pc := 32) (tgt := 44) hx hb dX12_pull_32 (by decide) (fun q => ?_) (fun q => ?_)
      · have h := ite_t q h
        refine lv_aload_n (pc := 44) hx hb dX12_pull_44 rfl (lv_at hl 0 rfl) ?_
        refine lv_iload_n (pc := 45) hx hb dX12_pull_45 rfl (lv_at hl 1 rfl) ?_
        refine lv_iload_n (pc := 46) hx hb dX12_pull_46 rfl (lv_at hl 2 rfl) ?_
        obtain ⟨S7, hc, h⟩ := bndv_t h
        refine s_cvv (pc := 47) [.int a1, .int a2] (fun ad => [.ref (ad 0), .int a1, .int a2]) F w (m_M_follow _ _ _ _ hc) rfl rfl hl.1 ds_0 vc_X12 rfl ok_X12_follow rfl kc_X12_follow kl_X12_406 ki_X12_follow kv_X12_follow kn_X12 ⟨Nat.le_trans (by decide) hR1, Nat.le_trans (by decide) hR2⟩ ⟨Nat.zero_le _, Nat.zero_le _⟩ (Nat.le_of_ble_eq_true rfl) dX12_pull_47 (fun H locs w => ?_)
        refine lv_iconst (pc := 50) (v := 0) hx hb dX12_pull_50 (by decide) ?_
        refine lv_istore (pc := 51) (lv' := [(4, .int (0 : Int32)), (0, .ref (ad 0)), (1, .int a1), (2, .int a2), (3, .int a3)]) hx hb dX12_pull_51 hl (by decide) rfl (fun ls hl => ?_)
        exact w_M_pull_L53 F (Nat.le_trans (by decide) hR1) (Nat.le_trans (by decide) hR2) _ _ _ _ h _ _ _ w (lv_sub hl [1, 4, 0] rfl)
      · have h := ite_f q h
        refine lv_aload_n (pc := 35) hx hb dX12_pull_35 rfl (lv_at hl 0 rfl) ?_
        refine lv_bipush (pc := 36) (v := 8) hx hb dX12_pull_36 (by decide) ?_
        refine lv_bipush (pc := 38) (v := -2) hx hb dX12_pull_38 (by decide) ?_
        obtain ⟨r20, S19, hc, h⟩ := bnd_t h
        refine s_cvi (pc := 40) [.int (8 : Int32), .int (-2 : Int32)] (fun ad => [.ref (ad 0), .int (8 : Int32), .int (-2 : Int32)]) F w (m_M_entered _ _ _ _ _ hc) rfl rfl hl.1 ds_0 vc_X12 rfl ok_X12_entered rfl kc_X12_entered kl_X12_349 ki_X12_entered kv_X12_entered kn_X12 ⟨Nat.le_trans (by decide) hR1, Nat.le_trans (by decide) hR2⟩ ⟨Nat.zero_le _, Nat.zero_le _⟩ (Nat.le_of_ble_eq_true rfl) dX12_pull_40 (fun H locs w => ?_)
        exact s_iret F w h dX12_pull_43
    · have h := ite_f q h
      refine lv_iconst (pc := 12) (v := -1) hx hb dX12_pull_12 (by decide) ?_
      exact s_iret F w h dX12_pull_13
def f_M_heavy_j16  (x1 : Int32) (S : SS) : Option (Int32 × SS) :=
    bndv (f_M_note (12 : Int32) S) (fun S1 =>
    bnd (f_M_weight x1 S1) (fun r3 S2 =>
    grd (inb x1 72) (
    grd (inb x1 72) (
    if (S2.1 18 x1.toNatClampNeg) = (3 : Int32) then
      some ((((2 : Int32) * r3) + (S2.1 28 x1.toNatClampNeg)) + (10 : Int32), S2)
    else
      some ((((2 : Int32) * r3) + (S2.1 28 x1.toNatClampNeg)) + (0 : Int32), S2)))))
def f_M_heavy (a1 : Int32) (S : SS) : Option (Int32 × SS) :=
  grd (inb a1 72) (
  if (S.1 18 a1.toNatClampNeg) = (3 : Int32) then
    bndv (f_M_note (13 : Int32) S) (fun S4 =>
    f_M_heavy_j16 a1 S4)
  else
    f_M_heavy_j16 a1 S)
theorem dX12_heavy_0 : decode cX12_heavy 0 = .ok (.aload_n 0, 1) := dc_42 (by decide +kernel)
theorem dX12_heavy_1 : decode cX12_heavy 1 = .ok (.getfield 69, 3) := dc_180 (a := 0) (b := 69) (by decide +kernel)
theorem dX12_heavy_4 : decode cX12_heavy 4 = .ok (.iload_n 1, 1) := dc_27 (by decide +kernel)
theorem dX12_heavy_5 : decode cX12_heavy 5 = .ok (.iaload, 1) := dc_46 (by decide +kernel)
theorem dX12_heavy_6 : decode cX12_heavy 6 = .ok (.iconst 3, 1) := dc_6 (by decide +kernel)
theorem dX12_heavy_7 : decode cX12_heavy 7 = .ok (.if_icmp .ne 9, 3) := dc_160 (a := 0) (b := 9) (by decide +kernel) (by decide)
theorem dX12_heavy_10 : decode cX12_heavy 10 = .ok (.aload_n 0, 1) := dc_42 (by decide +kernel)
theorem dX12_heavy_11 : decode cX12_heavy 11 = .ok (.bipush 13, 2) := dc_16 (a := 13) (by decide +kernel) (by decide)
theorem dX12_heavy_13 : decode cX12_heavy 13 = .ok (.invokevirtual 296, 3) := dc_182 (a := 1) (b := 40) (by decide +kernel)
theorem dX12_heavy_16 : decode cX12_heavy 16 = .ok (.aload_n 0, 1) := dc_42 (by decide +kernel)
theorem dX12_heavy_17 : decode cX12_heavy 17 = .ok (.bipush 12, 2) := dc_16 (a := 12) (by decide +kernel) (by decide)
theorem dX12_heavy_19 : decode cX12_heavy 19 = .ok (.invokevirtual 296, 3) := dc_182 (a := 1) (b := 40) (by decide +kernel)
theorem dX12_heavy_22 : decode cX12_heavy 22 = .ok (.iconst 2, 1) := dc_5 (by decide +kernel)
theorem dX12_heavy_23 : decode cX12_heavy 23 = .ok (.aload_n 0, 1) := dc_42 (by decide +kernel)
theorem dX12_heavy_24 : decode cX12_heavy 24 = .ok (.iload_n 1, 1) := dc_27 (by decide +kernel)
theorem dX12_heavy_25 : decode cX12_heavy 25 = .ok (.invokevirtual 303, 3) := dc_182 (a := 1) (b := 47) (by decide +kernel)
theorem dX12_heavy_28 : decode cX12_heavy 28 = .ok (.imul, 1) := dc_104 (by decide +kernel)
theorem dX12_heavy_29 : decode cX12_heavy 29 = .ok (.aload_n 0, 1) := dc_42 (by decide +kernel)
theorem dX12_heavy_30 : decode cX12_heavy 30 = .ok (.getfield 99, 3) := dc_180 (a := 0) (b := 99) (by decide +kernel)
theorem dX12_heavy_33 : decode cX12_heavy 33 = .ok (.iload_n 1, 1) := dc_27 (by decide +kernel)
theorem dX12_heavy_34 : decode cX12_heavy 34 = .ok (.iaload, 1) := dc_46 (by decide +kernel)
theorem dX12_heavy_35 : decode cX12_heavy 35 = .ok (.iadd, 1) := dc_96 (by decide +kernel)
theorem dX12_heavy_36 : decode cX12_heavy 36 = .ok (.aload_n 0, 1) := dc_42 (by decide +kernel)
theorem dX12_heavy_37 : decode cX12_heavy 37 = .ok (.getfield 69, 3) := dc_180 (a := 0) (b := 69) (by decide +kernel)
theorem dX12_heavy_40 : decode cX12_heavy 40 = .ok (.iload_n 1, 1) := dc_27 (by decide +kernel)
theorem dX12_heavy_41 : decode cX12_heavy 41 = .ok (.iaload, 1) := dc_46 (by decide +kernel)
theorem dX12_heavy_42 : decode cX12_heavy 42 = .ok (.iconst 3, 1) := dc_6 (by decide +kernel)
theorem dX12_heavy_43 : decode cX12_heavy 43 = .ok (.if_icmp .ne 8, 3) := dc_160 (a := 0) (b := 8) (by decide +kernel) (by decide)
theorem dX12_heavy_46 : decode cX12_heavy 46 = .ok (.bipush 10, 2) := dc_16 (a := 10) (by decide +kernel) (by decide)
theorem dX12_heavy_48 : decode cX12_heavy 48 = .ok (.goto 4, 3) := dc_167 (a := 0) (b := 4) (by decide +kernel) (by decide)
theorem dX12_heavy_51 : decode cX12_heavy 51 = .ok (.iconst 0, 1) := dc_3 (by decide +kernel)
theorem dX12_heavy_52 : decode cX12_heavy 52 = .ok (.iadd, 1) := dc_96 (by decide +kernel)
theorem dX12_heavy_53 : decode cX12_heavy 53 = .ok (.ireturn, 1) := dc_172 (by decide +kernel)
set_option maxRecDepth 100000 in
set_option maxHeartbeats 4000000 in
theorem w_M_heavy_j16 {p : Program} {l : Launch} {e : Env} {R : Room} {s : State} {m : MethodId} {args : Array Value} {below : List Frame} {meth : Method} {c : Code} {dC : Nat → ClassId} {dI : Nat → Nat → Nat} {cs : Nat → ClassId} {ad : Nat → Nat} {A : Nat → Prop} {D0 : Nat → Nat} {S' : SS} {r : Int32} (F : Fx p s m args meth c cX12_heavy 2 RX12 (some .int) dC dI cs A) (hR1 : 2 ≤ R.frames) (hR2 : 45 ≤ R.locals) (x1 : Int32) (S : SS) (h : f_M_heavy_j16 x1 S = some (r, S')) : AW p l e R s m args below meth c dC dI cs ad A D0 (some (.int r)) S' 2 16 [(0, .ref (ad 0)), (1, .int x1)] [] S := by
  have hx := F.1.1
  have hb := F.1.2.1
  intro H locs ls w hl
  rw [f_M_heavy_j16] at h
  refine lv_aload_n (pc := 16) hx hb dX12_heavy_16 rfl (lv_at hl 0 rfl) ?_
  refine lv_bipush (pc := 17) (v := 12) hx hb dX12_heavy_17 (by decide) ?_
  obtain ⟨S1, hc, h⟩ := bndv_t h
  refine s_cvv (pc := 19) [.int (12 : Int32)] (fun ad => [.ref (ad 0), .int (12 : Int32)]) F w (m_M_note _ _ _ hc) rfl rfl hl.1 ds_0 vc_X12 rfl ok_X12_note rfl kc_X12_note kl_X12_296 ki_X12_note kv_X12_note kn_X12 ⟨Nat.le_trans (by decide) hR1, Nat.le_trans (by decide) hR2⟩ ⟨Nat.zero_le _, Nat.zero_le _⟩ (Nat.le_of_ble_eq_true rfl) dX12_heavy_19 (fun H locs w => ?_)
  refine lv_iconst (pc := 22) (v := 2) hx hb dX12_heavy_22 (by decide) ?_
  refine lv_aload_n (pc := 23) hx hb dX12_heavy_23 rfl (lv_at hl 0 rfl) ?_
  refine lv_iload_n (pc := 24) hx hb dX12_heavy_24 rfl (lv_at hl 1 rfl) ?_
  obtain ⟨r3, S2, hc, h⟩ := bnd_t h
  refine s_cvi (pc := 25) [.int x1] (fun ad => [.ref (ad 0), .int x1]) F w (m_M_weight _ _ _ _ hc) rfl rfl hl.1 ds_0 vc_X12 rfl ok_X12_weight rfl kc_X12_weight kl_X12_303 ki_X12_weight kv_X12_weight kn_X12 ⟨Nat.le_trans (by decide) hR1, Nat.le_trans (by decide) hR2⟩ ⟨Nat.zero_le _, Nat.zero_le _⟩ (Nat.le_of_ble_eq_true rfl) dX12_heavy_25 (fun H locs w => ?_)
  refine lv_imul (pc := 28) hx hb dX12_heavy_28 ?_
  refine lv_aload_n (pc := 29) hx hb dX12_heavy_29 rfl (lv_at hl 0 rfl) ?_
  refine s_getR (pc := 30) F w 28 ds_0 (j := 40) vc_X12 vi_X12 rfl (by decide) kf_X12_99 dX12_heavy_30 ?_
  refine lv_iload_n (pc := 33) hx hb dX12_heavy_33 rfl (lv_at hl 1 rfl) ?_
  refine s_iald (pc := 34) F w ds_28 h dX12_heavy_34 (fun h => ?_)
  refine lv_iadd (pc := 35) hx hb dX12_heavy_35 ?_
  refine lv_aload_n (pc := 36) hx hb dX12_heavy_36 rfl (lv_at hl 0 rfl) ?_
  refine s_getR (pc := 37) F w 18 ds_0 (j := 30) vc_X12 vi_X12 rfl (by decide) kf_X12_69 dX12_heavy_37 ?_
  refine lv_iload_n (pc := 40) hx hb dX12_heavy_40 rfl (lv_at hl 1 rfl) ?_
  refine s_iald (pc := 41) F w ds_18 h dX12_heavy_41 (fun h => ?_)
  refine lv_iconst (pc := 42) (v := 3) hx hb dX12_heavy_42 (by decide) ?_
  refine lv_icmp_ne (pc := 43) (tgt := 51) hx hb dX12_heavy_43 (by decide) (fun q => ?_) (fun q => ?_)
  · have h := ite_f q h
    refine lv_iconst (pc := 51) (v := 0) hx hb dX12_heavy_51 (by decide) ?_
    refine lv_iadd (pc := 52) hx hb dX12_heavy_52 ?_
    exact s_iret F w h dX12_heavy_53
  · have h := ite_t q h
    refine lv_bipush (pc := 46) (v := 10) hx hb dX12_heavy_46 (by decide) ?_
    refine lv_goto (pc := 48) (tgt := 52) hx hb dX12_heavy_48 (by decide) ?_
    refine lv_iadd (pc := 52) hx hb dX12_heavy_52 ?_
    exact s_iret F w h dX12_heavy_53
set_option maxRecDepth 100000 in
set_option maxHeartbeats 4000000 in
theorem m_M_heavy (a1 : Int32) (S S' : SS) (r : Int32) (h : f_M_heavy a1 S = some (r, S')) : MT yX12_heavy cX12_heavy 2 (some .int) 2 45 (fun ad => [.ref (ad 0), .int a1]) S (some (.int r)) S' := by
  refine MT.of RX12 (fun ad => [(0, .ref (ad 0)), (1, .int a1)]) (by decide) rfl (fun _ => Nat.le_of_ble_eq_true rfl) (fun _ => rfl) ?_
  intro p l e R s m args below meth c dC dI cs ad A hR1 hR2 F H locs ls w hl
  have hx := F.1.1
  have hb := F.1.2.1
  rw [f_M_heavy] at h
  refine lv_aload_n (pc := 0) hx hb dX12_heavy_0 rfl (lv_at hl 0 rfl) ?_
  refine s_getR (pc := 1) F w 18 ds_0 (j := 30) vc_X12 vi_X12 rfl (by decide) kf_X12_69 dX12_heavy_1 ?_
  refine lv_iload_n (pc := 4) hx hb dX12_heavy_4 rfl (lv_at hl 1 rfl) ?_
  refine s_iald (pc := 5) F w ds_18 h dX12_heavy_5 (fun h => ?_)
  refine lv_iconst (pc := 6) (v := 3) hx hb dX12_heavy_6 (by decide) ?_
  refine lv_icmp_ne (pc := 7) (tgt := 16) hx hb dX12_heavy_7 (by decide) (fun q => ?_) (fun q => ?_)
  · have h := ite_f q h
    exact w_M_heavy_j16 F (Nat.le_trans (by decide) hR1) (Nat.le_trans (by decide) hR2) _ _ h _ _ _ w (lv_sub hl [0, 1] rfl)
  · have h := ite_t q h
    refine lv_aload_n (pc := 10) hx hb dX12_heavy_10 rfl (lv_at hl 0 rfl) ?_
    refine lv_bipush (pc := 11) (v := 13) hx hb dX12_heavy_11 (by decide) ?_
    obtain ⟨S4, hc, h⟩ := bndv_t h
    refine s_cvv (pc := 13) [.int (13 : Int32)] (fun ad => [.ref (ad 0), .int (13 : Int32)]) F w (m_M_note _ _ _ hc) rfl rfl hl.1 ds_0 vc_X12 rfl ok_X12_note rfl kc_X12_note kl_X12_296 ki_X12_note kv_X12_note kn_X12 ⟨Nat.le_trans (by decide) hR1, Nat.le_trans (by decide) hR2⟩ ⟨Nat.zero_le _, Nat.zero_le _⟩ (Nat.le_of_ble_eq_true rfl) dX12_heavy_13 (fun H locs w => ?_)
    exact w_M_heavy_j16 F (Nat.le_trans (by decide) hR1) (Nat.le_trans (by decide) hR2) _ _ h _ _ _ w (lv_sub hl [0, 1] rfl)
def f_M_kick_j164  (x5 : Int32) (S : SS) : Option (Int32 × SS) :=
    bnd (f_M_entered (9 : Int32) x5 S) (fun r12 S11 =>
    some (r12, S11))
def f_M_kick_j114  (x1 : Int32) (x2 : Int32) (y0 : Int32) (S : SS) : Option (Int32 × SS) :=
    grd (inb y0 8) (
    nm (S.1 17 y0.toNatClampNeg) (fun z10 =>
    if z10 ≤ 0 then
      f_M_kick_j164 z10 S
    else
      grd (inb x1 72) (wr S 31 x1.toNatClampNeg (vp_nar .boolean (1 : Int32)) (fun S13 =>
      grd (inb x1 72) (wr S13 30 x1.toNatClampNeg z10 (fun S14 =>
      grd (inb x1 72) (wr S14 32 x1.toNatClampNeg x2 (fun S15 =>
      wr S15 0 47 ((S15.1 0 47) + (1 : Int32)) (fun S16 =>
      grd (inb x1 72) (wr S16 33 x1.toNatClampNeg (S16.1 0 47) (fun S17 =>
      f_M_kick_j164 z10 S17)))))))))))
def f_M_kick_j69  (x1 : Int32) (x2 : Int32) (x3 : Int32) (S : SS) : Option (Int32 × SS) :=
    bnd (f_M_ends x3 S) (fun r6 S5 =>
    if r6 = 0 then
      bnd (f_M_heavy x1 S5) (fun r8 S7 =>
      nm (r8 / (40 : Int32)) (fun z9 =>
      if z9 ≤ (7 : Int32) then
        f_M_kick_j114 x1 x2 z9 S7
      else
        f_M_kick_j114 x1 x2 (7 : Int32) S7))
    else
      bnd (f_M_entered (9 : Int32) (-2 : Int32) S5) (fun r19 S18 =>
      some (r19, S18)))
def f_M_kick_j68  (x1 : Int32) (x2 : Int32) (y0 : Int32) (S : SS) : Option (Int32 × SS) :=
    f_M_kick_j69 x1 x2 y0 S
def f_M_kick_j48  (x1 : Int32) (x2 : Int32) (S : SS) : Option (Int32 × SS) :=
    f_M_kick_j68 x1 x2 (14 : Int32) S
def f_M_kick (a1 : Int32) (a2 : Int32) (S : SS) : Option (Int32 × SS) :=
  bndv (f_M_begin  S) (fun S1 =>
  bndv (f_M_keep  S1) (fun S2 =>
  bnd (f_M_missSide a1 (1 : Int32) a2 S2) (fun r4 S3 =>
  if r4 = 0 then
    grd (inb ((2 : Int32) * a1) 144) (
    if (S3.1 23 ((2 : Int32) * a1).toNatClampNeg) = (-4 : Int32) then
      grd (inb (((2 : Int32) * a1) + (1 : Int32)) 144) (
      if (S3.1 23 (((2 : Int32) * a1) + (1 : Int32)).toNatClampNeg) = (-4 : Int32) then
        grd (inb a1 72) (
        if (S3.1 31 a1.toNatClampNeg) = 0 then
          f_M_kick_j68 a1 a2 (0 : Int32) S3
        else
          f_M_kick_j68 a1 a2 (16 : Int32) S3)
      else
        f_M_kick_j48 a1 a2 S3)
    else
      f_M_kick_j48 a1 a2 S3)
  else
    f_M_kick_j69 a1 a2 r4 S3)))
theorem dX12_kick_0 : decode cX12_kick 0 = .ok (.aload_n 0, 1) := dc_42 (by decide +kernel)
theorem dX12_kick_1 : decode cX12_kick 1 = .ok (.invokevirtual 226, 3) := dc_182 (a := 0) (b := 226) (by decide +kernel)
theorem dX12_kick_4 : decode cX12_kick 4 = .ok (.aload_n 0, 1) := dc_42 (by decide +kernel)
theorem dX12_kick_5 : decode cX12_kick 5 = .ok (.invokevirtual 346, 3) := dc_182 (a := 1) (b := 90) (by decide +kernel)
theorem dX12_kick_8 : decode cX12_kick 8 = .ok (.aload_n 0, 1) := dc_42 (by decide +kernel)
theorem dX12_kick_9 : decode cX12_kick 9 = .ok (.iload_n 1, 1) := dc_27 (by decide +kernel)
theorem dX12_kick_10 : decode cX12_kick 10 = .ok (.iconst 1, 1) := dc_4 (by decide +kernel)
theorem dX12_kick_11 : decode cX12_kick 11 = .ok (.iload_n 2, 1) := dc_28 (by decide +kernel)
theorem dX12_kick_12 : decode cX12_kick 12 = .ok (.invokevirtual 364, 3) := dc_182 (a := 1) (b := 108) (by decide +kernel)
theorem dX12_kick_15 : decode cX12_kick 15 = .ok (.istore_n 3, 1) := dc_62 (by decide +kernel)
theorem dX12_kick_16 : decode cX12_kick 16 = .ok (.iload_n 3, 1) := dc_29 (by decide +kernel)
theorem dX12_kick_17 : decode cX12_kick 17 = .ok (.ifCond .ne 52, 3) := dc_154 (a := 0) (b := 52) (by decide +kernel) (by decide)
theorem dX12_kick_20 : decode cX12_kick 20 = .ok (.aload_n 0, 1) := dc_42 (by decide +kernel)
theorem dX12_kick_21 : decode cX12_kick 21 = .ok (.getfield 84, 3) := dc_180 (a := 0) (b := 84) (by decide +kernel)
theorem dX12_kick_24 : decode cX12_kick 24 = .ok (.iconst 2, 1) := dc_5 (by decide +kernel)
theorem dX12_kick_25 : decode cX12_kick 25 = .ok (.iload_n 1, 1) := dc_27 (by decide +kernel)
theorem dX12_kick_26 : decode cX12_kick 26 = .ok (.imul, 1) := dc_104 (by decide +kernel)
theorem dX12_kick_27 : decode cX12_kick 27 = .ok (.iaload, 1) := dc_46 (by decide +kernel)
theorem dX12_kick_28 : decode cX12_kick 28 = .ok (.bipush (-4), 2) := dc_16 (a := 252) (by decide +kernel) (by decide)
theorem dX12_kick_30 : decode cX12_kick 30 = .ok (.if_icmp .ne 18, 3) := dc_160 (a := 0) (b := 18) (by decide +kernel) (by decide)
theorem dX12_kick_33 : decode cX12_kick 33 = .ok (.aload_n 0, 1) := dc_42 (by decide +kernel)
theorem dX12_kick_34 : decode cX12_kick 34 = .ok (.getfield 84, 3) := dc_180 (a := 0) (b := 84) (by decide +kernel)
theorem dX12_kick_37 : decode cX12_kick 37 = .ok (.iconst 2, 1) := dc_5 (by decide +kernel)
theorem dX12_kick_38 : decode cX12_kick 38 = .ok (.iload_n 1, 1) := dc_27 (by decide +kernel)
theorem dX12_kick_39 : decode cX12_kick 39 = .ok (.imul, 1) := dc_104 (by decide +kernel)
theorem dX12_kick_40 : decode cX12_kick 40 = .ok (.iconst 1, 1) := dc_4 (by decide +kernel)
theorem dX12_kick_41 : decode cX12_kick 41 = .ok (.iadd, 1) := dc_96 (by decide +kernel)
theorem dX12_kick_42 : decode cX12_kick 42 = .ok (.iaload, 1) := dc_46 (by decide +kernel)
theorem dX12_kick_43 : decode cX12_kick 43 = .ok (.bipush (-4), 2) := dc_16 (a := 252) (by decide +kernel) (by decide)
theorem dX12_kick_45 : decode cX12_kick 45 = .ok (.if_icmp .eq 8, 3) := dc_159 (a := 0) (b := 8) (by decide +kernel) (by decide)
theorem dX12_kick_48 : decode cX12_kick 48 = .ok (.bipush 14, 2) := dc_16 (a := 14) (by decide +kernel) (by decide)
theorem dX12_kick_50 : decode cX12_kick 50 = .ok (.goto 18, 3) := dc_167 (a := 0) (b := 18) (by decide +kernel) (by decide)
theorem dX12_kick_53 : decode cX12_kick 53 = .ok (.aload_n 0, 1) := dc_42 (by decide +kernel)
theorem dX12_kick_54 : decode cX12_kick 54 = .ok (.getfield 108, 3) := dc_180 (a := 0) (b := 108) (by decide +kernel)
theorem dX12_kick_57 : decode cX12_kick 57 = .ok (.iload_n 1, 1) := dc_27 (by decide +kernel)
theorem dX12_kick_58 : decode cX12_kick 58 = .ok (.baload, 1) := dc_51 (by decide +kernel)
theorem dX12_kick_59 : decode cX12_kick 59 = .ok (.ifCond .eq 8, 3) := dc_153 (a := 0) (b := 8) (by decide +kernel) (by decide)
theorem dX12_kick_62 : decode cX12_kick 62 = .ok (.bipush 16, 2) := dc_16 (a := 16) (by decide +kernel) (by decide)
theorem dX12_kick_64 : decode cX12_kick 64 = .ok (.goto 4, 3) := dc_167 (a := 0) (b := 4) (by decide +kernel) (by decide)
theorem dX12_kick_67 : decode cX12_kick 67 = .ok (.iconst 0, 1) := dc_3 (by decide +kernel)
theorem dX12_kick_68 : decode cX12_kick 68 = .ok (.istore_n 3, 1) := dc_62 (by decide +kernel)
theorem dX12_kick_69 : decode cX12_kick 69 = .ok (.aload_n 0, 1) := dc_42 (by decide +kernel)
theorem dX12_kick_70 : decode cX12_kick 70 = .ok (.iload_n 3, 1) := dc_29 (by decide +kernel)
theorem dX12_kick_71 : decode cX12_kick 71 = .ok (.invokevirtual 236, 3) := dc_182 (a := 0) (b := 236) (by decide +kernel)
theorem dX12_kick_74 : decode cX12_kick 74 = .ok (.ifCond .eq 12, 3) := dc_153 (a := 0) (b := 12) (by decide +kernel) (by decide)
theorem dX12_kick_77 : decode cX12_kick 77 = .ok (.aload_n 0, 1) := dc_42 (by decide +kernel)
theorem dX12_kick_78 : decode cX12_kick 78 = .ok (.bipush 9, 2) := dc_16 (a := 9) (by decide +kernel) (by decide)
theorem dX12_kick_80 : decode cX12_kick 80 = .ok (.bipush (-2), 2) := dc_16 (a := 254) (by decide +kernel) (by decide)
theorem dX12_kick_82 : decode cX12_kick 82 = .ok (.invokevirtual 349, 3) := dc_182 (a := 1) (b := 93) (by decide +kernel)
theorem dX12_kick_85 : decode cX12_kick 85 = .ok (.ireturn, 1) := dc_172 (by decide +kernel)
theorem dX12_kick_86 : decode cX12_kick 86 = .ok (.aload_n 0, 1) := dc_42 (by decide +kernel)
theorem dX12_kick_87 : decode cX12_kick 87 = .ok (.iload_n 1, 1) := dc_27 (by decide +kernel)
theorem dX12_kick_88 : decode cX12_kick 88 = .ok (.invokevirtual 417, 3) := dc_182 (a := 1) (b := 161) (by decide +kernel)
theorem dX12_kick_91 : decode cX12_kick 91 = .ok (.bipush 40, 2) := dc_16 (a := 40) (by decide +kernel) (by decide)
theorem dX12_kick_93 : decode cX12_kick 93 = .ok (.idiv, 1) := dc_108 (by decide +kernel)
theorem dX12_kick_94 : decode cX12_kick 94 = .ok (.istore 4, 2) := dc_54 (a := 4) (by decide +kernel)
theorem dX12_kick_96 : decode cX12_kick 96 = .ok (.aload_n 0, 1) := dc_42 (by decide +kernel)
theorem dX12_kick_97 : decode cX12_kick 97 = .ok (.getfield 66, 3) := dc_180 (a := 0) (b := 66) (by decide +kernel)
theorem dX12_kick_100 : decode cX12_kick 100 = .ok (.iload 4, 2) := dc_21 (a := 4) (by decide +kernel)
theorem dX12_kick_102 : decode cX12_kick 102 = .ok (.bipush 7, 2) := dc_16 (a := 7) (by decide +kernel) (by decide)
theorem dX12_kick_104 : decode cX12_kick 104 = .ok (.if_icmp .le 8, 3) := dc_164 (a := 0) (b := 8) (by decide +kernel) (by decide)
theorem dX12_kick_107 : decode cX12_kick 107 = .ok (.bipush 7, 2) := dc_16 (a := 7) (by decide +kernel) (by decide)
theorem dX12_kick_109 : decode cX12_kick 109 = .ok (.goto 5, 3) := dc_167 (a := 0) (b := 5) (by decide +kernel) (by decide)
theorem dX12_kick_112 : decode cX12_kick 112 = .ok (.iload 4, 2) := dc_21 (a := 4) (by decide +kernel)
theorem dX12_kick_114 : decode cX12_kick 114 = .ok (.iaload, 1) := dc_46 (by decide +kernel)
theorem dX12_kick_115 : decode cX12_kick 115 = .ok (.istore 5, 2) := dc_54 (a := 5) (by decide +kernel)
theorem dX12_kick_117 : decode cX12_kick 117 = .ok (.iload 5, 2) := dc_21 (a := 5) (by decide +kernel)
theorem dX12_kick_119 : decode cX12_kick 119 = .ok (.ifCond .le 45, 3) := dc_158 (a := 0) (b := 45) (by decide +kernel) (by decide)
theorem dX12_kick_122 : decode cX12_kick 122 = .ok (.aload_n 0, 1) := dc_42 (by decide +kernel)
theorem dX12_kick_123 : decode cX12_kick 123 = .ok (.getfield 108, 3) := dc_180 (a := 0) (b := 108) (by decide +kernel)
theorem dX12_kick_126 : decode cX12_kick 126 = .ok (.iload_n 1, 1) := dc_27 (by decide +kernel)
theorem dX12_kick_127 : decode cX12_kick 127 = .ok (.iconst 1, 1) := dc_4 (by decide +kernel)
theorem dX12_kick_128 : decode cX12_kick 128 = .ok (.bastore, 1) := dc_84 (by decide +kernel)
theorem dX12_kick_129 : decode cX12_kick 129 = .ok (.aload_n 0, 1) := dc_42 (by decide +kernel)
theorem dX12_kick_130 : decode cX12_kick 130 = .ok (.getfield 105, 3) := dc_180 (a := 0) (b := 105) (by decide +kernel)
theorem dX12_kick_133 : decode cX12_kick 133 = .ok (.iload_n 1, 1) := dc_27 (by decide +kernel)
theorem dX12_kick_134 : decode cX12_kick 134 = .ok (.iload 5, 2) := dc_21 (a := 5) (by decide +kernel)
theorem dX12_kick_136 : decode cX12_kick 136 = .ok (.iastore, 1) := dc_79 (by decide +kernel)
theorem dX12_kick_137 : decode cX12_kick 137 = .ok (.aload_n 0, 1) := dc_42 (by decide +kernel)
theorem dX12_kick_138 : decode cX12_kick 138 = .ok (.getfield 111, 3) := dc_180 (a := 0) (b := 111) (by decide +kernel)
theorem dX12_kick_141 : decode cX12_kick 141 = .ok (.iload_n 1, 1) := dc_27 (by decide +kernel)
theorem dX12_kick_142 : decode cX12_kick 142 = .ok (.iload_n 2, 1) := dc_28 (by decide +kernel)
theorem dX12_kick_143 : decode cX12_kick 143 = .ok (.iastore, 1) := dc_79 (by decide +kernel)
theorem dX12_kick_144 : decode cX12_kick 144 = .ok (.aload_n 0, 1) := dc_42 (by decide +kernel)
theorem dX12_kick_145 : decode cX12_kick 145 = .ok (.dup, 1) := dc_89 (by decide +kernel)
theorem dX12_kick_146 : decode cX12_kick 146 = .ok (.getfield 420, 3) := dc_180 (a := 1) (b := 164) (by decide +kernel)
theorem dX12_kick_149 : decode cX12_kick 149 = .ok (.iconst 1, 1) := dc_4 (by decide +kernel)
theorem dX12_kick_150 : decode cX12_kick 150 = .ok (.iadd, 1) := dc_96 (by decide +kernel)
theorem dX12_kick_151 : decode cX12_kick 151 = .ok (.putfield 420, 3) := dc_181 (a := 1) (b := 164) (by decide +kernel)
theorem dX12_kick_154 : decode cX12_kick 154 = .ok (.aload_n 0, 1) := dc_42 (by decide +kernel)
theorem dX12_kick_155 : decode cX12_kick 155 = .ok (.getfield 114, 3) := dc_180 (a := 0) (b := 114) (by decide +kernel)
theorem dX12_kick_158 : decode cX12_kick 158 = .ok (.iload_n 1, 1) := dc_27 (by decide +kernel)
theorem dX12_kick_159 : decode cX12_kick 159 = .ok (.aload_n 0, 1) := dc_42 (by decide +kernel)
theorem dX12_kick_160 : decode cX12_kick 160 = .ok (.getfield 420, 3) := dc_180 (a := 1) (b := 164) (by decide +kernel)
theorem dX12_kick_163 : decode cX12_kick 163 = .ok (.iastore, 1) := dc_79 (by decide +kernel)
theorem dX12_kick_164 : decode cX12_kick 164 = .ok (.aload_n 0, 1) := dc_42 (by decide +kernel)
theorem dX12_kick_165 : decode cX12_kick 165 = .ok (.bipush 9, 2) := dc_16 (a := 9) (by decide +kernel) (by decide)
theorem dX12_kick_167 : decode cX12_kick 167 = .ok (.iload 5, 2) := dc_21 (a := 5) (by decide +kernel)
theorem dX12_kick_169 : decode cX12_kick 169 = .ok (.invokevirtual 349, 3) := dc_182 (a := 1) (b := 93) (by decide +kernel)
theorem dX12_kick_172 : decode cX12_kick 172 = .ok (.ireturn, 1) := dc_172 (by decide +kernel)
set_option maxRecDepth 100000 in
set_option maxHeartbeats 4000000 in
theorem w_M_kick_j164 {p : Program} {l : Launch} {e : Env} {R : Room} {s : State} {m : MethodId} {args : Array Value} {below : List Frame} {meth : Method} {c : Code} {dC : Nat → ClassId} {dI : Nat → Nat → Nat} {cs : Nat → ClassId} {ad : Nat → Nat} {A : Nat → Prop} {D0 : Nat → Nat} {S' : SS} {r : Int32} (F : Fx p s m args meth c cX12_kick 6 RX12 (some .int) dC dI cs A) (hR1 : 1 ≤ R.frames) (hR2 : 22 ≤ R.locals) (x5 : Int32) (S : SS) (h : f_M_kick_j164 x5 S = some (r, S')) : AW p l e R s m args below meth c dC dI cs ad A D0 (some (.int r)) S' 6 164 [(0, .ref (ad 0)), (5, .int x5)] [] S := by
  have hx := F.1.1
  have hb := F.1.2.1
  intro H locs ls w hl
  rw [f_M_kick_j164] at h
  refine lv_aload_n (pc := 164) hx hb dX12_kick_164 rfl (lv_at hl 0 rfl) ?_
  refine lv_bipush (pc := 165) (v := 9) hx hb dX12_kick_165 (by decide) ?_
  refine lv_iload (pc := 167) hx hb dX12_kick_167 (lv_at hl 1 rfl) ?_
  obtain ⟨r12, S11, hc, h⟩ := bnd_t h
  refine s_cvi (pc := 169) [.int (9 : Int32), .int x5] (fun ad => [.ref (ad 0), .int (9 : Int32), .int x5]) F w (m_M_entered _ _ _ _ _ hc) rfl rfl hl.1 ds_0 vc_X12 rfl ok_X12_entered rfl kc_X12_entered kl_X12_349 ki_X12_entered kv_X12_entered kn_X12 ⟨Nat.le_trans (by decide) hR1, Nat.le_trans (by decide) hR2⟩ ⟨Nat.zero_le _, Nat.zero_le _⟩ (Nat.le_of_ble_eq_true rfl) dX12_kick_169 (fun H locs w => ?_)
  exact s_iret F w h dX12_kick_172
set_option maxRecDepth 100000 in
set_option maxHeartbeats 4000000 in
theorem w_M_kick_j114 {p : Program} {l : Launch} {e : Env} {R : Room} {s : State} {m : MethodId} {args : Array Value} {below : List Frame} {meth : Method} {c : Code} {dC : Nat → ClassId} {dI : Nat → Nat → Nat} {cs : Nat → ClassId} {ad : Nat → Nat} {A : Nat → Prop} {D0 : Nat → Nat} {S' : SS} {r : Int32} (F : Fx p s m args meth c cX12_kick 6 RX12 (some .int) dC dI cs A) (hR1 : 1 ≤ R.frames) (hR2 : 22 ≤ R.locals) (x1 : Int32) (x2 : Int32) (y0 : Int32) (S : SS) (h : f_M_kick_j114 x1 x2 y0 S = some (r, S')) : AW p l e R s m args below meth c dC dI cs ad A D0 (some (.int r)) S' 6 114 [(0, .ref (ad 0)), (1, .int x1), (2, .int x2)] [.int y0, .ref (ad 17)] S := by
  have hx := F.1.1
  have hb := F.1.2.1
  intro H locs ls w hl
  rw [f_M_kick_j114] at h
  refine s_iald (pc := 114) F w ds_17 h dX12_kick_114 (fun h => ?_)
  refine s_nm h (fun z10 ez10 h => ?_)
  rw [← ez10]
  refine lv_istore (pc := 115) (lv' := [(5, .int z10), (0, .ref (ad 0)), (1, .int x1), (2, .int x2)]) hx hb dX12_kick_115 hl (by decide) rfl (fun ls hl => ?_)
  refine lv_iload (pc := 117) hx hb dX12_kick_117 (lv_at hl 0 rfl) ?_
  refine lv_if_le (pc := 119) (tgt := 164) hx hb dX12_kick_119 (by decide) (fun q => ?_) (fun q => ?_)
  · have h := ite_t q h
    exact w_M_kick_j164 F (Nat.le_trans (by decide) hR1) (Nat.le_trans (by decide) hR2) _ _ h _ _ _ w (lv_sub hl [1, 0] rfl)
  · have h := ite_f q h
    refine lv_aload_n (pc := 122) hx hb dX12_kick_122 rfl (lv_at hl 1 rfl) ?_
    refine s_getR (pc := 123) F w 31 ds_0 (j := 43) vc_X12 vi_X12 rfl (by decide) kf_X12_108 dX12_kick_123 ?_
    refine lv_iload_n (pc := 126) hx hb dX12_kick_126 rfl (lv_at hl 2 rfl) ?_
    refine lv_iconst (pc := 127) (v := 1) hx hb dX12_kick_127 (by decide) ?_
    refine s_zast (pc := 128) F w ds_31 h dX12_kick_128 (fun S13 H locs h w => ?_)
    refine lv_aload_n (pc := 129) hx hb dX12_kick_129 rfl (lv_at hl 1 rfl) ?_
    refine s_getR (pc := 130) F w 30 ds_0 (j := 42) vc_X12 vi_X12 rfl (by decide) kf_X12_105 dX12_kick_130 ?_
    refine lv_iload_n (pc := 133) hx hb dX12_kick_133 rfl (lv_at hl 2 rfl) ?_
    refine lv_iload (pc := 134) hx hb dX12_kick_134 (lv_at hl 0 rfl) ?_
    refine s_iast (pc := 136) F w ds_30 h dX12_kick_136 (fun S14 H locs h w => ?_)
    refine lv_aload_n (pc := 137) hx hb dX12_kick_137 rfl (lv_at hl 1 rfl) ?_
    refine s_getR (pc := 138) F w 32 ds_0 (j := 44) vc_X12 vi_X12 rfl (by decide) kf_X12_111 dX12_kick_138 ?_
    refine lv_iload_n (pc := 141) hx hb dX12_kick_141 rfl (lv_at hl 2 rfl) ?_
    refine lv_iload_n (pc := 142) hx hb dX12_kick_142 rfl (lv_at hl 3 rfl) ?_
    refine s_iast (pc := 143) F w ds_32 h dX12_kick_143 (fun S15 H locs h w => ?_)
    refine lv_aload_n (pc := 144) hx hb dX12_kick_144 rfl (lv_at hl 1 rfl) ?_
    refine lv_dup (pc := 145) hx hb dX12_kick_145 rfl ?_
    refine s_getI (pc := 146) F w ds_0 (j := 47) vc_X12 vi_X12 rfl (by decide) kf_X12_420 dX12_kick_146 ?_
    refine lv_iconst (pc := 149) (v := 1) hx hb dX12_kick_149 (by decide) ?_
    refine lv_iadd (pc := 150) hx hb dX12_kick_150 ?_
    refine s_putI (pc := 151) F w ds_0 vc_X12 vi_X12 tyX12_ok nmX12 (j := 47) rfl (by decide) kf_X12_420 rfl pd_I h dX12_kick_151 (fun S16 H locs h w => ?_)
    refine lv_aload_n (pc := 154) hx hb dX12_kick_154 rfl (lv_at hl 1 rfl) ?_
    refine s_getR (pc := 155) F w 33 ds_0 (j := 45) vc_X12 vi_X12 rfl (by decide) kf_X12_114 dX12_kick_155 ?_
    refine lv_iload_n (pc := 158) hx hb dX12_kick_158 rfl (lv_at hl 2 rfl) ?_
    refine lv_aload_n (pc := 159) hx hb dX12_kick_159 rfl (lv_at hl 1 rfl) ?_
    refine s_getI (pc := 160) F w ds_0 (j := 47) vc_X12 vi_X12 rfl (by decide) kf_X12_420 dX12_kick_160 ?_
    refine s_iast (pc := 163) F w ds_33 h dX12_kick_163 (fun S17 H locs h w => ?_)
    exact w_M_kick_j164 F (Nat.le_trans (by decide) hR1) (Nat.le_trans (by decide) hR2) _ _ h _ _ _ w (lv_sub hl [1, 0] rfl)
set_option maxRecDepth 100000 in
set_option maxHeartbeats 4000000 in
theorem w_M_kick_j69 {p : Program} {l : Launch} {e : Env} {R : Room} {s : State} {m : MethodId} {args : Array Value} {below : List Frame} {meth : Method} {c : Code} {dC : Nat → ClassId} {dI : Nat → Nat → Nat} {cs : Nat → ClassId} {ad : Nat → Nat} {A : Nat → Prop} {D0 : Nat → Nat} {S' : SS} {r : Int32} (F : Fx p s m args meth c cX12_kick 6 RX12 (some .int) dC dI cs A) (hR1 : 3 ≤ R.frames) (hR2 : 66 ≤ R.locals) (x1 : Int32) (x2 : Int32) (x3 : Int32) (S : SS) (h : f_M_kick_j69 x1 x2 x3 S = some (r, S')) : AW p l e R s m args below meth c dC dI cs ad A D0 (some (.int r)) S' 6 69 [(0, .ref (ad 0)), (1, .int x1), (2, .int x2), (3, .int x3)] [] S := by
  have hx := F.1.1
  have hb := F.1.2.1
  intro H locs ls w hl
  rw [f_M_kick_j69] at h
  refine lv_aload_n (pc := 69) hx hb dX12_kick_69 rfl (lv_at hl 0 rfl) ?_
  refine lv_iload_n (pc := 70) hx hb dX12_kick_70 rfl (lv_at hl 3 rfl) ?_
  obtain ⟨r6, S5, hc, h⟩ := bnd_t h
  refine s_cvi (pc := 71) [.int x3] (fun ad => [.ref (ad 0), .int x3]) F w (m_M_ends _ _ _ _ hc) rfl rfl hl.1 ds_0 vc_X12 rfl ok_X12_ends rfl kc_X12_ends kl_X12_236 ki_X12_ends kv_X12_ends kn_X12 ⟨Nat.le_trans (by decide) hR1, Nat.le_trans (by decide) hR2⟩ ⟨Nat.zero_le _, Nat.zero_le _⟩ (Nat.le_of_ble_eq_true rfl) dX12_kick_71 (fun H locs w => ?_)
  refine lv_if_eq (pc := 74) (tgt := 86) hx hb dX12_kick_74 (by decide) (fun q => ?_) (fun q => ?_)
  · have h := ite_t q h
    refine lv_aload_n (pc := 86) hx hb dX12_kick_86 rfl (lv_at hl 0 rfl) ?_
    refine lv_iload_n (pc := 87) hx hb dX12_kick_87 rfl (lv_at hl 1 rfl) ?_
    obtain ⟨r8, S7, hc, h⟩ := bnd_t h
    refine s_cvi (pc := 88) [.int x1] (fun ad => [.ref (ad 0), .int x1]) F w (m_M_heavy _ _ _ _ hc) rfl rfl hl.1 ds_0 vc_X12 rfl ok_X12_heavy rfl kc_X12_heavy kl_X12_417 ki_X12_heavy kv_X12_heavy kn_X12 ⟨Nat.le_trans (by decide) hR1, Nat.le_trans (by decide) hR2⟩ ⟨Nat.zero_le _, Nat.zero_le _⟩ (Nat.le_of_ble_eq_true rfl) dX12_kick_88 (fun H locs w => ?_)
    refine lv_bipush (pc := 91) (v := 40) hx hb dX12_kick_91 (by decide) ?_
    refine lv_idiv (pc := 93) hx hb dX12_kick_93 (by decide) ?_
    refine s_nm h (fun z9 ez9 h => ?_)
    rw [← ez9]
    refine lv_istore (pc := 94) (lv' := [(4, .int z9), (0, .ref (ad 0)), (1, .int x1), (2, .int x2), (3, .int x3)]) hx hb dX12_kick_94 hl (by decide) rfl (fun ls hl => ?_)
    refine lv_aload_n (pc := 96) hx hb dX12_kick_96 rfl (lv_at hl 1 rfl) ?_
    refine s_getR (pc := 97) F w 17 ds_0 (j := 25) vc_X12 vi_X12 rfl (by decide) kf_X12_66 dX12_kick_97 ?_
    refine lv_iload (pc := 100) hx hb dX12_kick_100 (lv_at hl 0 rfl) ?_
    refine lv_bipush (pc := 102) (v := 7) hx hb dX12_kick_102 (by decide) ?_
    refine lv_icmp_le (pc := 104) (tgt := 112) hx hb dX12_kick_104 (by decide) (fun q => ?_) (fun q => ?_)
    · have h := ite_t q h
      refine lv_iload (pc := 112) hx hb dX12_kick_112 (lv_at hl 0 rfl) ?_
      exact w_M_kick_j114 F (Nat.le_trans (by decide) hR1) (Nat.le_trans (by decide) hR2) _ _ _ _ h _ _ _ w (lv_sub hl [1, 2, 3] rfl)
    · have h := ite_f q h
      refine lv_bipush (pc := 107) (v := 7) hx hb dX12_kick_107 (by decide) ?_
      refine lv_goto (pc := 109) (tgt := 114) hx hb dX12_kick_109 (by decide) ?_
      exact w_M_kick_j114 F (Nat.le_trans (by decide) hR1) (Nat.le_trans (by decide) hR2) _ _ _ _ h _ _ _ w (lv_sub hl [1, 2, 3] rfl)
  · have h := ite_f q h
    refine lv_aload_n (pc := 77) hx hb dX12_kick_77 rfl (lv_at hl 0 rfl) ?_
    refine lv_bipush (pc := 78) (v := 9) hx hb dX12_kick_78 (by decide) ?_
    refine lv_bipush (pc := 80) (v := -2) hx hb dX12_kick_80 (by decide) ?_
    obtain ⟨r19, S18, hc, h⟩ := bnd_t h
    refine s_cvi (pc := 82) [.int (9 : Int32), .int (-2 : Int32)] (fun ad => [.ref (ad 0), .int (9 : Int32), .int (-2 : Int32)]) F w (m_M_entered _ _ _ _ _ hc) rfl rfl hl.1 ds_0 vc_X12 rfl ok_X12_entered rfl kc_X12_entered kl_X12_349 ki_X12_entered kv_X12_entered kn_X12 ⟨Nat.le_trans (by decide) hR1, Nat.le_trans (by decide) hR2⟩ ⟨Nat.zero_le _, Nat.zero_le _⟩ (Nat.le_of_ble_eq_true rfl) dX12_kick_82 (fun H locs w => ?_)
    exact s_iret F w h dX12_kick_85
set_option maxRecDepth 100000 in
set_option maxHeartbeats 4000000 in
theorem w_M_kick_j68 {p : Program} {l : Launch} {e : Env} {R : Room} {s : State} {m : MethodId} {args : Array Value} {below : List Frame} {meth : Method} {c : Code} {dC : Nat → ClassId} {dI : Nat → Nat → Nat} {cs : Nat → ClassId} {ad : Nat → Nat} {A : Nat → Prop} {D0 : Nat → Nat} {S' : SS} {r : Int32} (F : Fx p s m args meth c cX12_kick 6 RX12 (some .int) dC dI cs A) (hR1 : 3 ≤ R.frames) (hR2 : 66 ≤ R.locals) (x1 : Int32) (x2 : Int32) (y0 : Int32) (S : SS) (h : f_M_kick_j68 x1 x2 y0 S = some (r, S')) : AW p l e R s m args below meth c dC dI cs ad A D0 (some (.int r)) S' 6 68 [(0, .ref (ad 0)), (1, .int x1), (2, .int x2)] [.int y0] S := by
  have hx := F.1.1
  have hb := F.1.2.1
  intro H locs ls w hl
  rw [f_M_kick_j68] at h
  refine lv_istore_n (pc := 68) (lv' := [(3, .int y0), (0, .ref (ad 0)), (1, .int x1), (2, .int x2)]) hx hb dX12_kick_68 rfl hl (by decide) rfl (fun ls hl => ?_)
  exact w_M_kick_j69 F (Nat.le_trans (by decide) hR1) (Nat.le_trans (by decide) hR2) _ _ _ _ h _ _ _ w (lv_sub hl [1, 2, 3, 0] rfl)
set_option maxRecDepth 100000 in
set_option maxHeartbeats 4000000 in
theorem w_M_kick_j48 {p : Program} {l : Launch} {e : Env} {R : Room} {s : State} {m : MethodId} {args : Array Value} {below : List Frame} {meth : Method} {c : Code} {dC : Nat → ClassId} {dI : Nat → Nat → Nat} {cs : Nat → ClassId} {ad : Nat → Nat} {A : Nat → Prop} {D0 : Nat → Nat} {S' : SS} {r : Int32} (F : Fx p s m args meth c cX12_kick 6 RX12 (some .int) dC dI cs A) (hR1 : 3 ≤ R.frames) (hR2 : 66 ≤ R.locals) (x1 : Int32) (x2 : Int32) (S : SS) (h : f_M_kick_j48 x1 x2 S = some (r, S')) : AW p l e R s m args below meth c dC dI cs ad A D0 (some (.int r)) S' 6 48 [(0, .ref (ad 0)), (1, .int x1), (2, .int x2)] [] S := by
  have hx := F.1.1
  have hb := F.1.2.1
  intro H locs ls w hl
  rw [f_M_kick_j48] at h
  refine lv_bipush (pc := 48) (v := 14) hx hb dX12_kick_48 (by decide) ?_
  refine lv_goto (pc := 50) (tgt := 68) hx hb dX12_kick_50 (by decide) ?_
  exact w_M_kick_j68 F (Nat.le_trans (by decide) hR1) (Nat.le_trans (by decide) hR2) _ _ _ _ h _ _ _ w (lv_sub hl [0, 1, 2] rfl)
set_option maxRecDepth 100000 in
set_option maxHeartbeats 4000000 in
theorem m_M_kick (a1 : Int32) (a2 : Int32) (S S' : SS) (r : Int32) (h : f_M_kick a1 a2 S = some (r, S')) : MT yX12_kick cX12_kick 6 (some .int) 3 69 (fun ad => [.ref (ad 0), .int a1, .int a2]) S (some (.int r)) S' := by
  refine MT.of RX12 (fun ad => [(0, .ref (ad 0)), (1, .int a1), (2, .int a2)]) (by decide) rfl (fun _ => Nat.le_of_ble_eq_true rfl) (fun _ => rfl) ?_
  intro p l e R s m args below meth c dC dI cs ad A hR1 hR2 F H locs ls w hl
  have hx := F.1.1
  have hb := F.1.2.1
  rw [f_M_kick] at h
  refine lv_aload_n (pc := 0) hx hb dX12_kick_0 rfl (lv_at hl 0 rfl) ?_
  obtain ⟨S1, hc, h⟩ := bndv_t h
  refine s_cvv (pc := 1) [] (fun ad => [.ref (ad 0)]) F w (m_M_begin  _ _ hc) rfl rfl hl.1 ds_0 vc_X12 rfl ok_X12_begin rfl kc_X12_begin kl_X12_226 ki_X12_begin kv_X12_begin kn_X12 ⟨Nat.le_trans (by decide) hR1, Nat.le_trans (by decide) hR2⟩ ⟨Nat.zero_le _, Nat.zero_le _⟩ (Nat.le_of_ble_eq_true rfl) dX12_kick_1 (fun H locs w => ?_)
  refine lv_aload_n (pc := 4) hx hb dX12_kick_4 rfl (lv_at hl 0 rfl) ?_
  obtain ⟨S2, hc, h⟩ := bndv_t h
  refine s_cvv (pc := 5) [] (fun ad => [.ref (ad 0)]) F w (m_M_keep  _ _ hc) rfl rfl hl.1 ds_0 vc_X12 rfl ok_X12_keep rfl kc_X12_keep kl_X12_346 ki_X12_keep kv_X12_keep kn_X12 ⟨Nat.le_trans (by decide) hR1, Nat.le_trans (by decide) hR2⟩ ⟨Nat.zero_le _, Nat.zero_le _⟩ (Nat.le_of_ble_eq_true rfl) dX12_kick_5 (fun H locs w => ?_)
  refine lv_aload_n (pc := 8) hx hb dX12_kick_8 rfl (lv_at hl 0 rfl) ?_
  refine lv_iload_n (pc := 9) hx hb dX12_kick_9 rfl (lv_at hl 1 rfl) ?_
  refine lv_iconst (pc := 10) (v := 1) hx hb dX12_kick_10 (by decide) ?_
  refine lv_iload_n (pc := 11) hx hb dX12_kick_11 rfl (lv_at hl 2 rfl) ?_
  obtain ⟨r4, S3, hc, h⟩ := bnd_t h
  refine s_cvi (pc := 12) [.int a1, .int (1 : Int32), .int a2] (fun ad => [.ref (ad 0), .int a1, .int (1 : Int32), .int a2]) F w (m_M_missSide _ _ _ _ _ _ hc) rfl rfl hl.1 ds_0 vc_X12 rfl ok_X12_missSide rfl kc_X12_missSide kl_X12_364 ki_X12_missSide kv_X12_missSide kn_X12 ⟨Nat.le_trans (by decide) hR1, Nat.le_trans (by decide) hR2⟩ ⟨Nat.zero_le _, Nat.zero_le _⟩ (Nat.le_of_ble_eq_true rfl) dX12_kick_12 (fun H locs w => ?_)
  refine lv_istore_n (pc := 15) (lv' := [(3, .int r4), (0, .ref (ad 0)), (1, .int a1), (2, .int a2)]) hx hb dX12_kick_15 rfl hl (by decide) rfl (fun ls hl => ?_)
  refine lv_iload_n (pc := 16) hx hb dX12_kick_16 rfl (lv_at hl 0 rfl) ?_
  refine lv_if_ne (pc := 17) (tgt := 69) hx hb dX12_kick_17 (by decide) (fun q => ?_) (fun q => ?_)
  · have h := ite_f q h
    exact w_M_kick_j69 F (Nat.le_trans (by decide) hR1) (Nat.le_trans (by decide) hR2) _ _ _ _ h _ _ _ w (lv_sub hl [1, 2, 3, 0] rfl)
  · have h := ite_t q h
    refine lv_aload_n (pc := 20) hx hb dX12_kick_20 rfl (lv_at hl 1 rfl) ?_
    refine s_getR (pc := 21) F w 23 ds_0 (j := 35) vc_X12 vi_X12 rfl (by decide) kf_X12_84 dX12_kick_21 ?_
    refine lv_iconst (pc := 24) (v := 2) hx hb dX12_kick_24 (by decide) ?_
    refine lv_iload_n (pc := 25) hx hb dX12_kick_25 rfl (lv_at hl 2 rfl) ?_
    refine lv_imul (pc := 26) hx hb dX12_kick_26 ?_
    refine s_iald (pc := 27) F w ds_23 h dX12_kick_27 (fun h => ?_)
    refine lv_bipush (pc := 28) (v := -4) hx hb dX12_kick_28 (by decide) ?_
    refine lv_icmp_ne (pc := 30) (tgt := 48) hx hb dX12_kick_30 (by decide) (fun q => ?_) (fun q => ?_)
    · have h := ite_f q h
      exact w_M_kick_j48 F (Nat.le_trans (by decide) hR1) (Nat.le_trans (by decide) hR2) _ _ _ h _ _ _ w (lv_sub hl [1, 2, 3] rfl)
    · have h := ite_t q h
      refine lv_aload_n (pc := 33) hx hb dX12_kick_33 rfl (lv_at hl 1 rfl) ?_
      refine s_getR (pc := 34) F w 23 ds_0 (j := 35) vc_X12 vi_X12 rfl (by decide) kf_X12_84 dX12_kick_34 ?_
      refine lv_iconst (pc := 37) (v := 2) hx hb dX12_kick_37 (by decide) ?_
      refine lv_iload_n (pc := 38) hx hb dX12_kick_38 rfl (lv_at hl 2 rfl) ?_
      refine lv_imul (pc := 39) hx hb dX12_kick_39 ?_
      refine lv_iconst (pc := 40) (v := 1) hx hb dX12_kick_40 (by decide) ?_
      refine lv_iadd (pc := 41) hx hb dX12_kick_41 ?_
      refine s_iald (pc := 42) F w ds_23 h dX12_kick_42 (fun h => ?_)
      refine lv_bipush (pc := 43) (v := -4) hx hb dX12_kick_43 (by decide) ?_
      refine lv_icmp_eq (pc := 45) (tgt := 53) hx hb dX12_kick_45 (by decide) (fun q => ?_) (fun q => ?_)
      · have h := ite_t q h
        refine lv_aload_n (pc := 53) hx hb dX12_kick_53 rfl (lv_at hl 1 rfl) ?_
        refine s_getR (pc := 54) F w 31 ds_0 (j := 43) vc_X12 vi_X12 rfl (by decide) kf_X12_108 dX12_kick_54 ?_
        refine lv_iload_n (pc := 57) hx hb dX12_kick_57 rfl (lv_at hl 2 rfl) ?_
        refine s_zald (pc := 58) F w ds_31 h dX12_kick_58 (fun h => ?_)
        refine lv_if_eq (pc := 59) (tgt := 67) hx hb dX12_kick_59 (by decide) (fun q => ?_) (fun q => ?_)
        · have h := ite_t q h
          refine lv_iconst (pc := 67) (v := 0) hx hb dX12_kick_67 (by decide) ?_
          exact w_M_kick_j68 F (Nat.le_trans (by decide) hR1) (Nat.le_trans (by decide) hR2) _ _ _ _ h _ _ _ w (lv_sub hl [1, 2, 3] rfl)
        · have h := ite_f q h
          refine lv_bipush (pc := 62) (v := 16) hx hb dX12_kick_62 (by decide) ?_
          refine lv_goto (pc := 64) (tgt := 68) hx hb dX12_kick_64 (by decide) ?_
          exact w_M_kick_j68 F (Nat.le_trans (by decide) hR1) (Nat.le_trans (by decide) hR2) _ _ _ _ h _ _ _ w (lv_sub hl [1, 2, 3] rfl)
      · have h := ite_f q h
        exact w_M_kick_j48 F (Nat.le_trans (by decide) hR1) (Nat.le_trans (by decide) hR2) _ _ _ h _ _ _ w (lv_sub hl [1, 2, 3] rfl)
def f_M_running_j36 (K4 : Int32 → Int32 → SS → Option (Int32 × SS)) (x2 : Int32) (y0 : Int32) (y1 : Int32) (S : SS) : Option (Int32 × SS) :=
    nm (y1 + y0) (fun z1 =>
    nm (x2 + (1 : Int32)) (fun z2 =>
    K4 z1 z2 S))
def f_M_running_j35 (K4 : Int32 → Int32 → SS → Option (Int32 × SS)) (x2 : Int32) (y0 : Int32) (S : SS) : Option (Int32 × SS) :=
    f_M_running_j36 K4 x2 (0 : Int32) y0 S
def f_M_running_L4  : Nat → Int32 → Int32 → SS → Option (Int32 × SS)
  | 0, _, _, _ => none
  | n + 1, x1, x2, S =>
    if (S.1 0 29) ≤ x2 then
      some (x1, S)
    else
      grd (inb x2 72) (
      if (S.1 19 x2.toNatClampNeg) = 0 then
        f_M_running_j35 (fun v0 v1 S => f_M_running_L4 n v0 v1 S) x2 x1 S
      else
        grd (inb x2 72) (
        if (S.1 31 x2.toNatClampNeg) = 0 then
          f_M_running_j35 (fun v0 v1 S => f_M_running_L4 n v0 v1 S) x2 x1 S
        else
          f_M_running_j36 (fun v0 v1 S => f_M_running_L4 n v0 v1 S) x2 (1 : Int32) x1 S))
def f_M_running  (S : SS) : Option (Int32 × SS) :=
  f_M_running_L4 NF (0 : Int32) (0 : Int32) S
theorem dX12_running_0 : decode cX12_running 0 = .ok (.iconst 0, 1) := dc_3 (by decide +kernel)
theorem dX12_running_1 : decode cX12_running 1 = .ok (.istore_n 1, 1) := dc_60 (by decide +kernel)
theorem dX12_running_2 : decode cX12_running 2 = .ok (.iconst 0, 1) := dc_3 (by decide +kernel)
theorem dX12_running_3 : decode cX12_running 3 = .ok (.istore_n 2, 1) := dc_61 (by decide +kernel)
theorem dX12_running_4 : decode cX12_running 4 = .ok (.iload_n 2, 1) := dc_28 (by decide +kernel)
theorem dX12_running_5 : decode cX12_running 5 = .ok (.aload_n 0, 1) := dc_42 (by decide +kernel)
theorem dX12_running_6 : decode cX12_running 6 = .ok (.getfield 269, 3) := dc_180 (a := 1) (b := 13) (by decide +kernel)
theorem dX12_running_9 : decode cX12_running 9 = .ok (.if_icmp .ge 35, 3) := dc_162 (a := 0) (b := 35) (by decide +kernel) (by decide)
theorem dX12_running_12 : decode cX12_running 12 = .ok (.iload_n 1, 1) := dc_27 (by decide +kernel)
theorem dX12_running_13 : decode cX12_running 13 = .ok (.aload_n 0, 1) := dc_42 (by decide +kernel)
theorem dX12_running_14 : decode cX12_running 14 = .ok (.getfield 72, 3) := dc_180 (a := 0) (b := 72) (by decide +kernel)
theorem dX12_running_17 : decode cX12_running 17 = .ok (.iload_n 2, 1) := dc_28 (by decide +kernel)
theorem dX12_running_18 : decode cX12_running 18 = .ok (.baload, 1) := dc_51 (by decide +kernel)
theorem dX12_running_19 : decode cX12_running 19 = .ok (.ifCond .eq 16, 3) := dc_153 (a := 0) (b := 16) (by decide +kernel) (by decide)
theorem dX12_running_22 : decode cX12_running 22 = .ok (.aload_n 0, 1) := dc_42 (by decide +kernel)
theorem dX12_running_23 : decode cX12_running 23 = .ok (.getfield 108, 3) := dc_180 (a := 0) (b := 108) (by decide +kernel)
theorem dX12_running_26 : decode cX12_running 26 = .ok (.iload_n 2, 1) := dc_28 (by decide +kernel)
theorem dX12_running_27 : decode cX12_running 27 = .ok (.baload, 1) := dc_51 (by decide +kernel)
theorem dX12_running_28 : decode cX12_running 28 = .ok (.ifCond .eq 7, 3) := dc_153 (a := 0) (b := 7) (by decide +kernel) (by decide)
theorem dX12_running_31 : decode cX12_running 31 = .ok (.iconst 1, 1) := dc_4 (by decide +kernel)
theorem dX12_running_32 : decode cX12_running 32 = .ok (.goto 4, 3) := dc_167 (a := 0) (b := 4) (by decide +kernel) (by decide)
theorem dX12_running_35 : decode cX12_running 35 = .ok (.iconst 0, 1) := dc_3 (by decide +kernel)
theorem dX12_running_36 : decode cX12_running 36 = .ok (.iadd, 1) := dc_96 (by decide +kernel)
theorem dX12_running_37 : decode cX12_running 37 = .ok (.istore_n 1, 1) := dc_60 (by decide +kernel)
theorem dX12_running_38 : decode cX12_running 38 = .ok (.iinc 2 1, 3) := dc_132 (a := 2) (b := 1) (by decide +kernel) (by decide)
theorem dX12_running_41 : decode cX12_running 41 = .ok (.goto (-37), 3) := dc_167 (a := 255) (b := 219) (by decide +kernel) (by decide)
theorem dX12_running_44 : decode cX12_running 44 = .ok (.iload_n 1, 1) := dc_27 (by decide +kernel)
theorem dX12_running_45 : decode cX12_running 45 = .ok (.ireturn, 1) := dc_172 (by decide +kernel)
set_option maxRecDepth 100000 in
set_option maxHeartbeats 4000000 in
theorem w_M_running_j36 {p : Program} {l : Launch} {e : Env} {R : Room} {s : State} {m : MethodId} {args : Array Value} {below : List Frame} {meth : Method} {c : Code} {dC : Nat → ClassId} {dI : Nat → Nat → Nat} {cs : Nat → ClassId} {ad : Nat → Nat} {A : Nat → Prop} {D0 : Nat → Nat} {S' : SS} {r : Int32} (F : Fx p s m args meth c cX12_running 3 RX12 (some .int) dC dI cs A) (hR1 : 0 ≤ R.frames) (hR2 : 0 ≤ R.locals) (K4 : Int32 → Int32 → SS → Option (Int32 × SS)) (hK4 : ∀ (v0 : Int32) (v1 : Int32) (S : SS), K4 v0 v1 S = some (r, S') → AW p l e R s m args below meth c dC dI cs ad A D0 (some (.int r)) S' 3 4 [(0, .ref (ad 0)), (1, .int v0), (2, .int v1)] [] S) (x2 : Int32) (y0 : Int32) (y1 : Int32) (S : SS) (h : f_M_running_j36 K4 x2 y0 y1 S = some (r, S')) : AW p l e R s m args below meth c dC dI cs ad A D0 (some (.int r)) S' 3 36 [(0, .ref (ad 0)), (2, .int x2)] [.int y0, .int y1] S := by
  have hx := F.1.1
  have hb := F.1.2.1
  intro H locs ls w hl
  rw [f_M_running_j36] at h
  refine lv_iadd (pc := 36) hx hb dX12_running_36 ?_
  refine s_nm h (fun z1 ez1 h => ?_)
  rw [← ez1]
  refine lv_istore_n (pc := 37) (lv' := [(1, .int z1), (0, .ref (ad 0)), (2, .int x2)]) hx hb dX12_running_37 rfl hl (by decide) rfl (fun ls hl => ?_)
  refine s_nm h (fun z2 ez2 h => ?_)
  refine lv_iinc (pc := 38) (v := z2) (lv' := [(2, .int z2), (1, .int z1), (0, .ref (ad 0))]) hx hb dX12_running_38 hl (k := 2) rfl (by rw [ez2]; rfl) (by decide) rfl (fun ls hl => ?_)
  refine lv_goto (pc := 41) (tgt := 4) hx hb dX12_running_41 (by decide) ?_
  exact hK4 _ _ _ h _ _ _ w (lv_sub hl [2, 1, 0] rfl)
set_option maxRecDepth 100000 in
set_option maxHeartbeats 4000000 in
theorem w_M_running_j35 {p : Program} {l : Launch} {e : Env} {R : Room} {s : State} {m : MethodId} {args : Array Value} {below : List Frame} {meth : Method} {c : Code} {dC : Nat → ClassId} {dI : Nat → Nat → Nat} {cs : Nat → ClassId} {ad : Nat → Nat} {A : Nat → Prop} {D0 : Nat → Nat} {S' : SS} {r : Int32} (F : Fx p s m args meth c cX12_running 3 RX12 (some .int) dC dI cs A) (hR1 : 0 ≤ R.frames) (hR2 : 0 ≤ R.locals) (K4 : Int32 → Int32 → SS → Option (Int32 × SS)) (hK4 : ∀ (v0 : Int32) (v1 : Int32) (S : SS), K4 v0 v1 S = some (r, S') → AW p l e R s m args below meth c dC dI cs ad A D0 (some (.int r)) S' 3 4 [(0, .ref (ad 0)), (1, .int v0), (2, .int v1)] [] S) (x2 : Int32) (y0 : Int32) (S : SS) (h : f_M_running_j35 K4 x2 y0 S = some (r, S')) : AW p l e R s m args below meth c dC dI cs ad A D0 (some (.int r)) S' 3 35 [(0, .ref (ad 0)), (2, .int x2)] [.int y0] S := by
  have hx := F.1.1
  have hb := F.1.2.1
  intro H locs ls w hl
  rw [f_M_running_j35] at h
  refine lv_iconst (pc := 35) (v := 0) hx hb dX12_running_35 (by decide) ?_
  exact w_M_running_j36 F (Nat.le_trans (by decide) hR1) (Nat.le_trans (by decide) hR2) _ hK4 _ _ _ _ h _ _ _ w (lv_sub hl [0, 1] rfl)
set_option maxRecDepth 100000 in
set_option maxHeartbeats 4000000 in
theorem w_M_running_L4 {p : Program} {l : Launch} {e : Env} {R : Room} {s : State} {m : MethodId} {args : Array Value} {below : List Frame} {meth : Method} {c : Code} {dC : Nat → ClassId} {dI : Nat → Nat → Nat} {cs : Nat → ClassId} {ad : Nat → Nat} {A : Nat → Prop} {D0 : Nat → Nat} {S' : SS} {r : Int32} (F : Fx p s m args meth c cX12_running 3 RX12 (some .int) dC dI cs A) (hR1 : 0 ≤ R.frames) (hR2 : 0 ≤ R.locals) : ∀ (n : Nat) (x1 : Int32) (x2 : Int32) (S : SS), f_M_running_L4 n x1 x2 S = some (r, S') → AW p l e R s m args below meth c dC dI cs ad A D0 (some (.int r)) S' 3 4 [(0, .ref (ad 0)), (1, .int x1), (2, .int x2)] [] S := by
  have hx := F.1.1
  have hb := F.1.2.1
  intro n
  induction n with
  | zero => intro x1 x2 S h; cases h
  | succ n ih =>
    intro x1 x2 S h H locs ls w hl
    rw [f_M_running_L4] at h
    refine lv_iload_n (pc := 4) hx hb dX12_running_4 rfl (lv_at hl 2 rfl) ?_
    refine lv_aload_n (pc := 5) hx hb dX12_running_5 rfl (lv_at hl 0 rfl) ?_
    refine s_getI (pc := 6) F w ds_0 (j := 29) vc_X12 vi_X12 rfl (by decide) kf_X12_269 dX12_running_6 ?_
    refine lv_icmp_ge (pc := 9) (tgt := 44) hx hb dX12_running_9 (by decide) (fun q => ?_) (fun q => ?_)
    · have h := ite_t q h
      refine lv_iload_n (pc := 44) hx hb dX12_running_44 rfl (lv_at hl 1 rfl) ?_
      exact s_iret F w h dX12_running_45
    · have h := ite_f q h
      refine lv_iload_n (pc := 12) hx hb dX12_running_12 rfl (lv_at hl 1 rfl) ?_
      refine lv_aload_n (pc := 13) hx hb dX12_running_13 rfl (lv_at hl 0 rfl) ?_
      refine s_getR (pc := 14) F w 19 ds_0 (j := 31) vc_X12 vi_X12 rfl (by decide) kf_X12_72 dX12_running_14 ?_
      refine lv_iload_n (pc := 17) hx hb dX12_running_17 rfl (lv_at hl 2 rfl) ?_
      refine s_zald (pc := 18) F w ds_19 h dX12_running_18 (fun h => ?_)
      refine lv_if_eq (pc := 19) (tgt := 35) hx hb dX12_running_19 (by decide) (fun q => ?_) (fun q => ?_)
      · have h := ite_t q h
        exact w_M_running_j35 F (Nat.le_trans (by decide) hR1) (Nat.le_trans (by decide) hR2) _ (fun v0 v1 S h => ih v0 v1 S h) _ _ _ h _ _ _ w (lv_sub hl [0, 2] rfl)
      · have h := ite_f q h
        refine lv_aload_n (pc := 22) hx hb dX12_running_22 rfl (lv_at hl 0 rfl) ?_
        refine s_getR (pc := 23) F w 31 ds_0 (j := 43) vc_X12 vi_X12 rfl (by decide) kf_X12_108 dX12_running_23 ?_
        refine lv_iload_n (pc := 26) hx hb dX12_running_26 rfl (lv_at hl 2 rfl) ?_
        refine s_zald (pc := 27) F w ds_31 h dX12_running_27 (fun h => ?_)
        refine lv_if_eq (pc := 28) (tgt := 35) hx hb dX12_running_28 (by decide) (fun q => ?_) (fun q => ?_)
        · have h := ite_t q h
          exact w_M_running_j35 F (Nat.le_trans (by decide) hR1) (Nat.le_trans (by decide) hR2) _ (fun v0 v1 S h => ih v0 v1 S h) _ _ _ h _ _ _ w (lv_sub hl [0, 2] rfl)
        · have h := ite_f q h
          refine lv_iconst (pc := 31) (v := 1) hx hb dX12_running_31 (by decide) ?_
          refine lv_goto (pc := 32) (tgt := 36) hx hb dX12_running_32 (by decide) ?_
          exact w_M_running_j36 F (Nat.le_trans (by decide) hR1) (Nat.le_trans (by decide) hR2) _ (fun v0 v1 S h => ih v0 v1 S h) _ _ _ _ h _ _ _ w (lv_sub hl [0, 2] rfl)
set_option maxRecDepth 100000 in
set_option maxHeartbeats 4000000 in
theorem m_M_running  (S S' : SS) (r : Int32) (h : f_M_running  S = some (r, S')) : MT yX12_running cX12_running 3 (some .int) 0 0 (fun ad => [.ref (ad 0)]) S (some (.int r)) S' := by
  refine MT.of RX12 (fun ad => [(0, .ref (ad 0))]) (by decide) rfl (fun _ => Nat.le_of_ble_eq_true rfl) (fun _ => rfl) ?_
  intro p l e R s m args below meth c dC dI cs ad A hR1 hR2 F H locs ls w hl
  have hx := F.1.1
  have hb := F.1.2.1
  rw [f_M_running] at h
  refine lv_iconst (pc := 0) (v := 0) hx hb dX12_running_0 (by decide) ?_
  refine lv_istore_n (pc := 1) (lv' := [(1, .int (0 : Int32)), (0, .ref (ad 0))]) hx hb dX12_running_1 rfl hl (by decide) rfl (fun ls hl => ?_)
  refine lv_iconst (pc := 2) (v := 0) hx hb dX12_running_2 (by decide) ?_
  refine lv_istore_n (pc := 3) (lv' := [(2, .int (0 : Int32)), (1, .int (0 : Int32)), (0, .ref (ad 0))]) hx hb dX12_running_3 rfl hl (by decide) rfl (fun ls hl => ?_)
  exact w_M_running_L4 F (Nat.le_trans (by decide) hR1) (Nat.le_trans (by decide) hR2) _ _ _ _ h _ _ _ w (lv_sub hl [2, 1, 0] rfl)
def f_M_nextRunning_j64 (K5 : Int32 → Int32 → Int32 → SS → Option (Int32 × SS)) (x1 : Int32) (x2 : Int32) (x3 : Int32) (S : SS) : Option (Int32 × SS) :=
    nm (x3 + (1 : Int32)) (fun z1 =>
    K5 x1 x2 z1 S)
def f_M_nextRunning_j62 (K5 : Int32 → Int32 → Int32 → SS → Option (Int32 × SS)) (x1 : Int32) (x3 : Int32) (S : SS) : Option (Int32 × SS) :=
    f_M_nextRunning_j64 K5 x1 x3 x3 S
def f_M_nextRunning_L5  : Nat → Int32 → Int32 → Int32 → SS → Option (Int32 × SS)
  | 0, _, _, _, _ => none
  | n + 1, x1, x2, x3, S =>
    if (S.1 0 29) ≤ x3 then
      some (x2, S)
    else
      grd (inb x3 72) (
      if (S.1 19 x3.toNatClampNeg) = 0 then
        f_M_nextRunning_j64 (fun v0 v1 v2 S => f_M_nextRunning_L5 n v0 v1 v2 S) x1 x2 x3 S
      else
        grd (inb x3 72) (
        if (S.1 31 x3.toNatClampNeg) = 0 then
          f_M_nextRunning_j64 (fun v0 v1 v2 S => f_M_nextRunning_L5 n v0 v1 v2 S) x1 x2 x3 S
        else
          grd (inb x3 72) (
          if (S.1 33 x3.toNatClampNeg) ≤ x1 then
            f_M_nextRunning_j64 (fun v0 v1 v2 S => f_M_nextRunning_L5 n v0 v1 v2 S) x1 x2 x3 S
          else
            if x2 = (-4 : Int32) then
              f_M_nextRunning_j62 (fun v0 v1 v2 S => f_M_nextRunning_L5 n v0 v1 v2 S) x1 x3 S
            else
              grd (inb x3 72) (
              grd (inb x2 72) (
              if (S.1 33 x2.toNatClampNeg) ≤ (S.1 33 x3.toNatClampNeg) then
                f_M_nextRunning_j64 (fun v0 v1 v2 S => f_M_nextRunning_L5 n v0 v1 v2 S) x1 x2 x3 S
              else
                f_M_nextRunning_j62 (fun v0 v1 v2 S => f_M_nextRunning_L5 n v0 v1 v2 S) x1 x3 S)))))
def f_M_nextRunning (a1 : Int32) (S : SS) : Option (Int32 × SS) :=
  f_M_nextRunning_L5 NF a1 (-4 : Int32) (0 : Int32) S
theorem dX12_nextRunning_0 : decode cX12_nextRunning 0 = .ok (.bipush (-4), 2) := dc_16 (a := 252) (by decide +kernel) (by decide)
theorem dX12_nextRunning_2 : decode cX12_nextRunning 2 = .ok (.istore_n 2, 1) := dc_61 (by decide +kernel)
theorem dX12_nextRunning_3 : decode cX12_nextRunning 3 = .ok (.iconst 0, 1) := dc_3 (by decide +kernel)
theorem dX12_nextRunning_4 : decode cX12_nextRunning 4 = .ok (.istore_n 3, 1) := dc_62 (by decide +kernel)
theorem dX12_nextRunning_5 : decode cX12_nextRunning 5 = .ok (.iload_n 3, 1) := dc_29 (by decide +kernel)
theorem dX12_nextRunning_6 : decode cX12_nextRunning 6 = .ok (.aload_n 0, 1) := dc_42 (by decide +kernel)
theorem dX12_nextRunning_7 : decode cX12_nextRunning 7 = .ok (.getfield 269, 3) := dc_180 (a := 1) (b := 13) (by decide +kernel)
theorem dX12_nextRunning_10 : decode cX12_nextRunning 10 = .ok (.if_icmp .ge 60, 3) := dc_162 (a := 0) (b := 60) (by decide +kernel) (by decide)
theorem dX12_nextRunning_13 : decode cX12_nextRunning 13 = .ok (.aload_n 0, 1) := dc_42 (by decide +kernel)
theorem dX12_nextRunning_14 : decode cX12_nextRunning 14 = .ok (.getfield 72, 3) := dc_180 (a := 0) (b := 72) (by decide +kernel)
theorem dX12_nextRunning_17 : decode cX12_nextRunning 17 = .ok (.iload_n 3, 1) := dc_29 (by decide +kernel)
theorem dX12_nextRunning_18 : decode cX12_nextRunning 18 = .ok (.baload, 1) := dc_51 (by decide +kernel)
theorem dX12_nextRunning_19 : decode cX12_nextRunning 19 = .ok (.ifCond .eq 45, 3) := dc_153 (a := 0) (b := 45) (by decide +kernel) (by decide)
theorem dX12_nextRunning_22 : decode cX12_nextRunning 22 = .ok (.aload_n 0, 1) := dc_42 (by decide +kernel)
theorem dX12_nextRunning_23 : decode cX12_nextRunning 23 = .ok (.getfield 108, 3) := dc_180 (a := 0) (b := 108) (by decide +kernel)
theorem dX12_nextRunning_26 : decode cX12_nextRunning 26 = .ok (.iload_n 3, 1) := dc_29 (by decide +kernel)
theorem dX12_nextRunning_27 : decode cX12_nextRunning 27 = .ok (.baload, 1) := dc_51 (by decide +kernel)
theorem dX12_nextRunning_28 : decode cX12_nextRunning 28 = .ok (.ifCond .eq 36, 3) := dc_153 (a := 0) (b := 36) (by decide +kernel) (by decide)
theorem dX12_nextRunning_31 : decode cX12_nextRunning 31 = .ok (.aload_n 0, 1) := dc_42 (by decide +kernel)
theorem dX12_nextRunning_32 : decode cX12_nextRunning 32 = .ok (.getfield 114, 3) := dc_180 (a := 0) (b := 114) (by decide +kernel)
theorem dX12_nextRunning_35 : decode cX12_nextRunning 35 = .ok (.iload_n 3, 1) := dc_29 (by decide +kernel)
theorem dX12_nextRunning_36 : decode cX12_nextRunning 36 = .ok (.iaload, 1) := dc_46 (by decide +kernel)
theorem dX12_nextRunning_37 : decode cX12_nextRunning 37 = .ok (.iload_n 1, 1) := dc_27 (by decide +kernel)
theorem dX12_nextRunning_38 : decode cX12_nextRunning 38 = .ok (.if_icmp .le 26, 3) := dc_164 (a := 0) (b := 26) (by decide +kernel) (by decide)
theorem dX12_nextRunning_41 : decode cX12_nextRunning 41 = .ok (.iload_n 2, 1) := dc_28 (by decide +kernel)
theorem dX12_nextRunning_42 : decode cX12_nextRunning 42 = .ok (.bipush (-4), 2) := dc_16 (a := 252) (by decide +kernel) (by decide)
theorem dX12_nextRunning_44 : decode cX12_nextRunning 44 = .ok (.if_icmp .eq 18, 3) := dc_159 (a := 0) (b := 18) (by decide +kernel) (by decide)
theorem dX12_nextRunning_47 : decode cX12_nextRunning 47 = .ok (.aload_n 0, 1) := dc_42 (by decide +kernel)
theorem dX12_nextRunning_48 : decode cX12_nextRunning 48 = .ok (.getfield 114, 3) := dc_180 (a := 0) (b := 114) (by decide +kernel)
theorem dX12_nextRunning_51 : decode cX12_nextRunning 51 = .ok (.iload_n 3, 1) := dc_29 (by decide +kernel)
theorem dX12_nextRunning_52 : decode cX12_nextRunning 52 = .ok (.iaload, 1) := dc_46 (by decide +kernel)
theorem dX12_nextRunning_53 : decode cX12_nextRunning 53 = .ok (.aload_n 0, 1) := dc_42 (by decide +kernel)
theorem dX12_nextRunning_54 : decode cX12_nextRunning 54 = .ok (.getfield 114, 3) := dc_180 (a := 0) (b := 114) (by decide +kernel)
theorem dX12_nextRunning_57 : decode cX12_nextRunning 57 = .ok (.iload_n 2, 1) := dc_28 (by decide +kernel)
theorem dX12_nextRunning_58 : decode cX12_nextRunning 58 = .ok (.iaload, 1) := dc_46 (by decide +kernel)
theorem dX12_nextRunning_59 : decode cX12_nextRunning 59 = .ok (.if_icmp .ge 5, 3) := dc_162 (a := 0) (b := 5) (by decide +kernel) (by decide)
theorem dX12_nextRunning_62 : decode cX12_nextRunning 62 = .ok (.iload_n 3, 1) := dc_29 (by decide +kernel)
theorem dX12_nextRunning_63 : decode cX12_nextRunning 63 = .ok (.istore_n 2, 1) := dc_61 (by decide +kernel)
theorem dX12_nextRunning_64 : decode cX12_nextRunning 64 = .ok (.iinc 3 1, 3) := dc_132 (a := 3) (b := 1) (by decide +kernel) (by decide)
theorem dX12_nextRunning_67 : decode cX12_nextRunning 67 = .ok (.goto (-62), 3) := dc_167 (a := 255) (b := 194) (by decide +kernel) (by decide)
theorem dX12_nextRunning_70 : decode cX12_nextRunning 70 = .ok (.iload_n 2, 1) := dc_28 (by decide +kernel)
theorem dX12_nextRunning_71 : decode cX12_nextRunning 71 = .ok (.ireturn, 1) := dc_172 (by decide +kernel)
set_option maxRecDepth 100000 in
set_option maxHeartbeats 4000000 in
theorem w_M_nextRunning_j64 {p : Program} {l : Launch} {e : Env} {R : Room} {s : State} {m : MethodId} {args : Array Value} {below : List Frame} {meth : Method} {c : Code} {dC : Nat → ClassId} {dI : Nat → Nat → Nat} {cs : Nat → ClassId} {ad : Nat → Nat} {A : Nat → Prop} {D0 : Nat → Nat} {S' : SS} {r : Int32} (F : Fx p s m args meth c cX12_nextRunning 4 RX12 (some .int) dC dI cs A) (hR1 : 0 ≤ R.frames) (hR2 : 0 ≤ R.locals) (K5 : Int32 → Int32 → Int32 → SS → Option (Int32 × SS)) (hK5 : ∀ (v0 : Int32) (v1 : Int32) (v2 : Int32) (S : SS), K5 v0 v1 v2 S = some (r, S') → AW p l e R s m args below meth c dC dI cs ad A D0 (some (.int r)) S' 4 5 [(0, .ref (ad 0)), (1, .int v0), (2, .int v1), (3, .int v2)] [] S) (x1 : Int32) (x2 : Int32) (x3 : Int32) (S : SS) (h : f_M_nextRunning_j64 K5 x1 x2 x3 S = some (r, S')) : AW p l e R s m args below meth c dC dI cs ad A D0 (some (.int r)) S' 4 64 [(0, .ref (ad 0)), (1, .int x1), (2, .int x2), (3, .int x3)] [] S := by
  have hx := F.1.1
  have hb := F.1.2.1
  intro H locs ls w hl
  rw [f_M_nextRunning_j64] at h
  refine s_nm h (fun z1 ez1 h => ?_)
  refine lv_iinc (pc := 64) (v := z1) (lv' := [(3, .int z1), (0, .ref (ad 0)), (1, .int x1), (2, .int x2)]) hx hb dX12_nextRunning_64 hl (k := 3) rfl (by rw [ez1]; rfl) (by decide) rfl (fun ls hl => ?_)
  refine lv_goto (pc := 67) (tgt := 5) hx hb dX12_nextRunning_67 (by decide) ?_
  exact hK5 _ _ _ _ h _ _ _ w (lv_sub hl [1, 2, 3, 0] rfl)
set_option maxRecDepth 100000 in
set_option maxHeartbeats 4000000 in
theorem w_M_nextRunning_j62 {p : Program} {l : Launch} {e : Env} {R : Room} {s : State} {m : MethodId} {args : Array Value} {below : List Frame} {meth : Method} {c : Code} {dC : Nat → ClassId} {dI : Nat → Nat → Nat} {cs : Nat → ClassId} {ad : Nat → Nat} {A : Nat → Prop} {D0 : Nat → Nat} {S' : SS} {r : Int32} (F : Fx p s m args meth c cX12_nextRunning 4 RX12 (some .int) dC dI cs A) (hR1 : 0 ≤ R.frames) (hR2 : 0 ≤ R.locals) (K5 : Int32 → Int32 → Int32 → SS → Option (Int32 × SS)) (hK5 : ∀ (v0 : Int32) (v1 : Int32) (v2 : Int32) (S : SS), K5 v0 v1 v2 S = some (r, S') → AW p l e R s m args below meth c dC dI cs ad A D0 (some (.int r)) S' 4 5 [(0, .ref (ad 0)), (1, .int v0), (2, .int v1), (3, .int v2)] [] S) (x1 : Int32) (x3 : Int32) (S : SS) (h : f_M_nextRunning_j62 K5 x1 x3 S = some (r, S')) : AW p l e R s m args below meth c dC dI cs ad A D0 (some (.int r)) S' 4 62 [(0, .ref (ad 0)), (1, .int x1), (3, .int x3)] [] S := by
  have hx := F.1.1
  have hb := F.1.2.1
  intro H locs ls w hl
  rw [f_M_nextRunning_j62] at h
  refine lv_iload_n (pc := 62) hx hb dX12_nextRunning_62 rfl (lv_at hl 2 rfl) ?_
  refine lv_istore_n (pc := 63) (lv' := [(2, .int x3), (0, .ref (ad 0)), (1, .int x1), (3, .int x3)]) hx hb dX12_nextRunning_63 rfl hl (by decide) rfl (fun ls hl => ?_)
  exact w_M_nextRunning_j64 F (Nat.le_trans (by decide) hR1) (Nat.le_trans (by decide) hR2) _ hK5 _ _ _ _ h _ _ _ w (lv_sub hl [1, 2, 0, 3] rfl)
set_option maxRecDepth 100000 in
set_option maxHeartbeats 4000000 in
theorem w_M_nextRunning_L5 {p : Program} {l : Launch} {e : Env} {R : Room} {s : State} {m : MethodId} {args : Array Value} {below : List Frame} {meth : Method} {c : Code} {dC : Nat → ClassId} {dI : Nat → Nat → Nat} {cs : Nat → ClassId} {ad : Nat → Nat} {A : Nat → Prop} {D0 : Nat → Nat} {S' : SS} {r : Int32} (F : Fx p s m args meth c cX12_nextRunning 4 RX12 (some .int) dC dI cs A) (hR1 : 0 ≤ R.frames) (hR2 : 0 ≤ R.locals) : ∀ (n : Nat) (x1 : Int32) (x2 : Int32) (x3 : Int32) (S : SS), f_M_nextRunning_L5 n x1 x2 x3 S = some (r, S') → AW p l e R s m args below meth c dC dI cs ad A D0 (some (.int r)) S' 4 5 [(0, .ref (ad 0)), (1, .int x1), (2, .int x2), (3, .int x3)] [] S := by
  have hx := F.1.1
  have hb := F.1.2.1
  intro n
  induction n with
  | zero => intro x1 x2 x3 S h; cases h
  | succ n ih =>
    intro x1 x2 x3 S h H locs ls w hl
    rw [f_M_nextRunning_L5] at h
    refine lv_iload_n (pc := 5) hx hb dX12_nextRunning_5 rfl (lv_at hl 3 rfl) ?_
    refine lv_aload_n (pc := 6) hx hb dX12_nextRunning_6 rfl (lv_at hl 0 rfl) ?_
    refine s_getI (pc := 7) F w ds_0 (j := 29) vc_X12 vi_X12 rfl (by decide) kf_X12_269 dX12_nextRunning_7 ?_
    refine lv_icmp_ge (pc := 10) (tgt := 70) hx hb dX12_nextRunning_10 (by decide) (fun q => ?_) (fun q => ?_)
    · have h := ite_t q h
      refine lv_iload_n (pc := 70) hx hb dX12_nextRunning_70 rfl (lv_at hl 2 rfl) ?_
      exact s_iret F w h dX12_nextRunning_71
    · have h := ite_f q h
      refine lv_aload_n (pc := 13) hx hb dX12_nextRunning_13 rfl (lv_at hl 0 rfl) ?_
      refine s_getR (pc := 14) F w 19 ds_0 (j := 31) vc_X12 vi_X12 rfl (by decide) kf_X12_72 dX12_nextRunning_14 ?_
      refine lv_iload_n (pc := 17) hx hb dX12_nextRunning_17 rfl (lv_at hl 3 rfl) ?_
      refine s_zald (pc := 18) F w ds_19 h dX12_nextRunning_18 (fun h => ?_)
      refine lv_if_eq (pc := 19) (tgt := 64) hx hb dX12_nextRunning_19 (by decide) (fun q => ?_) (fun q => ?_)
      · have h := ite_t q h
        exact w_M_nextRunning_j64 F (Nat.le_trans (by decide) hR1) (Nat.le_trans (by decide) hR2) _ (fun v0 v1 v2 S h => ih v0 v1 v2 S h) _ _ _ _ h _ _ _ w (lv_sub hl [0, 1, 2, 3] rfl)
      · have h := ite_f q h
        refine lv_aload_n (pc := 22) hx hb dX12_nextRunning_22 rfl (lv_at hl 0 rfl) ?_
        refine s_getR (pc := 23) F w 31 ds_0 (j := 43) vc_X12 vi_X12 rfl (by decide) kf_X12_108 dX12_nextRunning_23 ?_
        refine lv_iload_n (pc := 26) hx hb dX12_nextRunning_26 rfl (lv_at hl 3 rfl) ?_
        refine s_zald (pc := 27) F w ds_31 h dX12_nextRunning_27 (fun h => ?_)
        refine lv_if_eq (pc := 28) (tgt := 64) hx hb dX12_nextRunning_28 (by decide) (fun q => ?_) (fun q => ?_)
        · have h := ite_t q h
          exact w_M_nextRunning_j64 F (Nat.le_trans (by decide) hR1) (Nat.le_trans (by decide) hR2) _ (fun v0 v1 v2 S h => ih v0 v1 v2 S h) _ _ _ _ h _ _ _ w (lv_sub hl [0, 1, 2, 3] rfl)
        · have h := ite_f q h
          refine lv_aload_n (pc := 31) hx hb dX12_nextRunning_31 rfl (lv_at hl 0 rfl) ?_
          refine s_getR (pc := 32) F w 33 ds_0 (j := 45) vc_X12 vi_X12 rfl (by decide) kf_X12_114 dX12_nextRunning_32 ?_
          refine lv_iload_n (pc := 35) hx hb dX12_nextRunning_35 rfl (lv_at hl 3 rfl) ?_
          refine s_iald (pc := 36) F w ds_33 h dX12_nextRunning_36 (fun h => ?_)
          refine lv_iload_n (pc := 37) hx hb dX12_nextRunning_37 rfl (lv_at hl 1 rfl) ?_
          refine lv_icmp_le (pc := 38) (tgt := 64) hx hb dX12_nextRunning_38 (by decide) (fun q => ?_) (fun q => ?_)
          · have h := ite_t q h
            exact w_M_nextRunning_j64 F (Nat.le_trans (by decide) hR1) (Nat.le_trans (by decide) hR2) _ (fun v0 v1 v2 S h => ih v0 v1 v2 S h) _ _ _ _ h _ _ _ w (lv_sub hl [0, 1, 2, 3] rfl)
          · have h := ite_f q h
            refine lv_iload_n (pc := 41) hx hb dX12_nextRunning_41 rfl (lv_at hl 2 rfl) ?_
            refine lv_bipush (pc := 42) (v := -4) hx hb dX12_nextRunning_42 (by decide) ?_
            refine lv_icmp_eq (pc := 44) (tgt := 62) hx hb dX12_nextRunning_44 (by decide) (fun q => ?_) (fun q => ?_)
            · have h := ite_t q h
              exact w_M_nextRunning_j62 F (Nat.le_trans (by decide) hR1) (Nat.le_trans (by decide) hR2) _ (fun v0 v1 v2 S h => ih v0 v1 v2 S h) _ _ _ h _ _ _ w (lv_sub hl [0, 1, 3] rfl)
            · have h := ite_f q h
              refine lv_aload_n (pc := 47) hx hb dX12_nextRunning_47 rfl (lv_at hl 0 rfl) ?_
              refine s_getR (pc := 48) F w 33 ds_0 (j := 45) vc_X12 vi_X12 rfl (by decide) kf_X12_114 dX12_nextRunning_48 ?_
              refine lv_iload_n (pc := 51) hx hb dX12_nextRunning_51 rfl (lv_at hl 3 rfl) ?_
              refine s_iald (pc := 52) F w ds_33 h dX12_nextRunning_52 (fun h => ?_)
              refine lv_aload_n (pc := 53) hx hb dX12_nextRunning_53 rfl (lv_at hl 0 rfl) ?_
              refine s_getR (pc := 54) F w 33 ds_0 (j := 45) vc_X12 vi_X12 rfl (by decide) kf_X12_114 dX12_nextRunning_54 ?_
              refine lv_iload_n (pc := 57) hx hb dX12_nextRunning_57 rfl (lv_at hl 2 rfl) ?_
              refine s_iald (pc := 58) F w ds_33 h dX12_nextRunning_58 (fun h => ?_)
              refine lv_icmp_ge (pc := 59) (tgt := 64) hx hb dX12_nextRunning_59 (by decide) (fun q => ?_) (fun q => ?_)
              · have h := ite_t q h
                exact w_M_nextRunning_j64 F (Nat.le_trans (by decide) hR1) (Nat.le_trans (by decide) hR2) _ (fun v0 v1 v2 S h => ih v0 v1 v2 S h) _ _ _ _ h _ _ _ w (lv_sub hl [0, 1, 2, 3] rfl)
              · have h := ite_f q h
                exact w_M_nextRunning_j62 F (Nat.le_trans (by decide) hR1) (Nat.le_trans (by decide) hR2) _ (fun v0 v1 v2 S h => ih v0 v1 v2 S h) _ _ _ h _ _ _ w (lv_sub hl [0, 1, 3] rfl)
set_option maxRecDepth 100000 in
set_option maxHeartbeats 4000000 in
theorem m_M_nextRunning (a1 : Int32) (S S' : SS) (r : Int32) (h : f_M_nextRunning a1 S = some (r, S')) : MT yX12_nextRunning cX12_nextRunning 4 (some .int) 0 0 (fun ad => [.ref (ad 0), .int a1]) S (some (.int r)) S' := by
  refine MT.of RX12 (fun ad => [(0, .ref (ad 0)), (1, .int a1)]) (by decide) rfl (fun _ => Nat.le_of_ble_eq_true rfl) (fun _ => rfl) ?_
  intro p l e R s m args below meth c dC dI cs ad A hR1 hR2 F H locs ls w hl
  have hx := F.1.1
  have hb := F.1.2.1
  rw [f_M_nextRunning] at h
  refine lv_bipush (pc := 0) (v := -4) hx hb dX12_nextRunning_0 (by decide) ?_
  refine lv_istore_n (pc := 2) (lv' := [(2, .int (-4 : Int32)), (0, .ref (ad 0)), (1, .int a1)]) hx hb dX12_nextRunning_2 rfl hl (by decide) rfl (fun ls hl => ?_)
  refine lv_iconst (pc := 3) (v := 0) hx hb dX12_nextRunning_3 (by decide) ?_
  refine lv_istore_n (pc := 4) (lv' := [(3, .int (0 : Int32)), (2, .int (-4 : Int32)), (0, .ref (ad 0)), (1, .int a1)]) hx hb dX12_nextRunning_4 rfl hl (by decide) rfl (fun ls hl => ?_)
  exact w_M_nextRunning_L5 F (Nat.le_trans (by decide) hR1) (Nat.le_trans (by decide) hR2) _ _ _ _ _ h _ _ _ w (lv_sub hl [2, 3, 1, 0] rfl)
def f_M_stop (a1 : Int32) (S : SS) : Option (SS) :=
  grd (inb a1 72) (wr S 31 a1.toNatClampNeg (vp_nar .boolean (0 : Int32)) (fun S1 =>
  grd (inb a1 72) (wr S1 30 a1.toNatClampNeg (0 : Int32) (fun S2 =>
  some S2))))
theorem dX12_stop_0 : decode cX12_stop 0 = .ok (.aload_n 0, 1) := dc_42 (by decide +kernel)
theorem dX12_stop_1 : decode cX12_stop 1 = .ok (.getfield 108, 3) := dc_180 (a := 0) (b := 108) (by decide +kernel)
theorem dX12_stop_4 : decode cX12_stop 4 = .ok (.iload_n 1, 1) := dc_27 (by decide +kernel)
theorem dX12_stop_5 : decode cX12_stop 5 = .ok (.iconst 0, 1) := dc_3 (by decide +kernel)
theorem dX12_stop_6 : decode cX12_stop 6 = .ok (.bastore, 1) := dc_84 (by decide +kernel)
theorem dX12_stop_7 : decode cX12_stop 7 = .ok (.aload_n 0, 1) := dc_42 (by decide +kernel)
theorem dX12_stop_8 : decode cX12_stop 8 = .ok (.getfield 105, 3) := dc_180 (a := 0) (b := 105) (by decide +kernel)
theorem dX12_stop_11 : decode cX12_stop 11 = .ok (.iload_n 1, 1) := dc_27 (by decide +kernel)
theorem dX12_stop_12 : decode cX12_stop 12 = .ok (.iconst 0, 1) := dc_3 (by decide +kernel)
theorem dX12_stop_13 : decode cX12_stop 13 = .ok (.iastore, 1) := dc_79 (by decide +kernel)
theorem dX12_stop_14 : decode cX12_stop 14 = .ok (.return_, 1) := dc_177 (by decide +kernel)
set_option maxRecDepth 100000 in
set_option maxHeartbeats 4000000 in
theorem m_M_stop (a1 : Int32) (S S' : SS) (h : f_M_stop a1 S = some S') : MT yX12_stop cX12_stop 2 none 0 0 (fun ad => [.ref (ad 0), .int a1]) S none S' := by
  refine MT.of RX12 (fun ad => [(0, .ref (ad 0)), (1, .int a1)]) (by decide) rfl (fun _ => Nat.le_of_ble_eq_true rfl) (fun _ => rfl) ?_
  intro p l e R s m args below meth c dC dI cs ad A hR1 hR2 F H locs ls w hl
  have hx := F.1.1
  have hb := F.1.2.1
  rw [f_M_stop] at h
  refine lv_aload_n (pc := 0) hx hb dX12_stop_0 rfl (lv_at hl 0 rfl) ?_
  refine s_getR (pc := 1) F w 31 ds_0 (j := 43) vc_X12 vi_X12 rfl (by decide) kf_X12_108 dX12_stop_1 ?_
  refine lv_iload_n (pc := 4) hx hb dX12_stop_4 rfl (lv_at hl 1 rfl) ?_
  refine lv_iconst (pc := 5) (v := 0) hx hb dX12_stop_5 (by decide) ?_
  refine s_zast (pc := 6) F w ds_31 h dX12_stop_6 (fun S1 H locs h w => ?_)
  refine lv_aload_n (pc := 7) hx hb dX12_stop_7 rfl (lv_at hl 0 rfl) ?_
  refine s_getR (pc := 8) F w 30 ds_0 (j := 42) vc_X12 vi_X12 rfl (by decide) kf_X12_105 dX12_stop_8 ?_
  refine lv_iload_n (pc := 11) hx hb dX12_stop_11 rfl (lv_at hl 1 rfl) ?_
  refine lv_iconst (pc := 12) (v := 0) hx hb dX12_stop_12 (by decide) ?_
  refine s_iast (pc := 13) F w ds_30 h dX12_stop_13 (fun S2 H locs h w => ?_)
  exact s_vret F w h dX12_stop_14
def f_M_run_j109  (x1 : Int32) (S : SS) : Option (SS) :=
    grd (inb x1 72) (
    grd (inb x1 72) (wr S 30 x1.toNatClampNeg ((S.1 30 x1.toNatClampNeg) - (1 : Int32)) (fun S7 =>
    grd (inb x1 72) (
    if (S7.1 30 x1.toNatClampNeg) = 0 then
      bndv (f_M_stop x1 S7) (fun S8 =>
      some S8)
    else
      some S7))))
def f_M_run_j80  (x1 : Int32) (x2 : Int32) (S : SS) : Option (SS) :=
    if x2 = (-4 : Int32) then
      grd (inb x1 72) (
      bndv (f_M_place x1 (S.1 0 26) (S.1 0 27) (S.1 32 x1.toNatClampNeg) (S.1 0 28) S) (fun S9 =>
      f_M_run_j109 x1 S9))
    else
      f_M_run_j109 x1 S
def f_M_run (a1 : Int32) (S : SS) : Option (SS) :=
  grd (inb a1 72) (
  grd (inb a1 72) (
  grd (inb a1 72) (
  bnd (f_M_wayOf a1 (S.1 32 a1.toNatClampNeg) S) (fun r2 S1 =>
  bnd (f_M_isOpen (S.1 20 a1.toNatClampNeg) (S.1 21 a1.toNatClampNeg) r2 S1) (fun r4 S3 =>
  if r4 = 0 then
    bndv (f_M_stop a1 S3) (fun S12 =>
    some S12)
  else
    bnd (f_M_standing (S3.1 0 26) (S3.1 0 27) S3) (fun r6 S5 =>
    if r6 = (-4 : Int32) then
      f_M_run_j80 a1 r6 S5
    else
      grd (inb r6 72) (
      if (S5.1 31 r6.toNatClampNeg) = 0 then
        bndv (f_M_stop a1 S5) (fun S10 =>
        wr S10 0 48 ((S10.1 0 48) + (1 : Int32)) (fun S11 =>
        some S11))
      else
        f_M_run_j80 a1 r6 S5)))))))
theorem dX12_run_0 : decode cX12_run 0 = .ok (.aload_n 0, 1) := dc_42 (by decide +kernel)
theorem dX12_run_1 : decode cX12_run 1 = .ok (.aload_n 0, 1) := dc_42 (by decide +kernel)
theorem dX12_run_2 : decode cX12_run 2 = .ok (.getfield 75, 3) := dc_180 (a := 0) (b := 75) (by decide +kernel)
theorem dX12_run_5 : decode cX12_run 5 = .ok (.iload_n 1, 1) := dc_27 (by decide +kernel)
theorem dX12_run_6 : decode cX12_run 6 = .ok (.iaload, 1) := dc_46 (by decide +kernel)
theorem dX12_run_7 : decode cX12_run 7 = .ok (.aload_n 0, 1) := dc_42 (by decide +kernel)
theorem dX12_run_8 : decode cX12_run 8 = .ok (.getfield 78, 3) := dc_180 (a := 0) (b := 78) (by decide +kernel)
theorem dX12_run_11 : decode cX12_run 11 = .ok (.iload_n 1, 1) := dc_27 (by decide +kernel)
theorem dX12_run_12 : decode cX12_run 12 = .ok (.iaload, 1) := dc_46 (by decide +kernel)
theorem dX12_run_13 : decode cX12_run 13 = .ok (.aload_n 0, 1) := dc_42 (by decide +kernel)
theorem dX12_run_14 : decode cX12_run 14 = .ok (.iload_n 1, 1) := dc_27 (by decide +kernel)
theorem dX12_run_15 : decode cX12_run 15 = .ok (.aload_n 0, 1) := dc_42 (by decide +kernel)
theorem dX12_run_16 : decode cX12_run 16 = .ok (.getfield 111, 3) := dc_180 (a := 0) (b := 111) (by decide +kernel)
theorem dX12_run_19 : decode cX12_run 19 = .ok (.iload_n 1, 1) := dc_27 (by decide +kernel)
theorem dX12_run_20 : decode cX12_run 20 = .ok (.iaload, 1) := dc_46 (by decide +kernel)
theorem dX12_run_21 : decode cX12_run 21 = .ok (.invokevirtual 368, 3) := dc_182 (a := 1) (b := 112) (by decide +kernel)
theorem dX12_run_24 : decode cX12_run 24 = .ok (.invokevirtual 371, 3) := dc_182 (a := 1) (b := 115) (by decide +kernel)
theorem dX12_run_27 : decode cX12_run 27 = .ok (.ifCond .ne 9, 3) := dc_154 (a := 0) (b := 9) (by decide +kernel) (by decide)
theorem dX12_run_30 : decode cX12_run 30 = .ok (.aload_n 0, 1) := dc_42 (by decide +kernel)
theorem dX12_run_31 : decode cX12_run 31 = .ok (.iload_n 1, 1) := dc_27 (by decide +kernel)
theorem dX12_run_32 : decode cX12_run 32 = .ok (.invokevirtual 423, 3) := dc_182 (a := 1) (b := 167) (by decide +kernel)
theorem dX12_run_35 : decode cX12_run 35 = .ok (.return_, 1) := dc_177 (by decide +kernel)
theorem dX12_run_36 : decode cX12_run 36 = .ok (.aload_n 0, 1) := dc_42 (by decide +kernel)
theorem dX12_run_37 : decode cX12_run 37 = .ok (.aload_n 0, 1) := dc_42 (by decide +kernel)
theorem dX12_run_38 : decode cX12_run 38 = .ok (.getfield 245, 3) := dc_180 (a := 0) (b := 245) (by decide +kernel)
theorem dX12_run_41 : decode cX12_run 41 = .ok (.aload_n 0, 1) := dc_42 (by decide +kernel)
theorem dX12_run_42 : decode cX12_run 42 = .ok (.getfield 248, 3) := dc_180 (a := 0) (b := 248) (by decide +kernel)
theorem dX12_run_45 : decode cX12_run 45 = .ok (.invokevirtual 279, 3) := dc_182 (a := 1) (b := 23) (by decide +kernel)
theorem dX12_run_48 : decode cX12_run 48 = .ok (.istore_n 2, 1) := dc_61 (by decide +kernel)
theorem dX12_run_49 : decode cX12_run 49 = .ok (.iload_n 2, 1) := dc_28 (by decide +kernel)
theorem dX12_run_50 : decode cX12_run 50 = .ok (.bipush (-4), 2) := dc_16 (a := 252) (by decide +kernel) (by decide)
theorem dX12_run_52 : decode cX12_run 52 = .ok (.if_icmp .eq 28, 3) := dc_159 (a := 0) (b := 28) (by decide +kernel) (by decide)
theorem dX12_run_55 : decode cX12_run 55 = .ok (.aload_n 0, 1) := dc_42 (by decide +kernel)
theorem dX12_run_56 : decode cX12_run 56 = .ok (.getfield 108, 3) := dc_180 (a := 0) (b := 108) (by decide +kernel)
theorem dX12_run_59 : decode cX12_run 59 = .ok (.iload_n 2, 1) := dc_28 (by decide +kernel)
theorem dX12_run_60 : decode cX12_run 60 = .ok (.baload, 1) := dc_51 (by decide +kernel)
theorem dX12_run_61 : decode cX12_run 61 = .ok (.ifCond .ne 19, 3) := dc_154 (a := 0) (b := 19) (by decide +kernel) (by decide)
theorem dX12_run_64 : decode cX12_run 64 = .ok (.aload_n 0, 1) := dc_42 (by decide +kernel)
theorem dX12_run_65 : decode cX12_run 65 = .ok (.iload_n 1, 1) := dc_27 (by decide +kernel)
theorem dX12_run_66 : decode cX12_run 66 = .ok (.invokevirtual 423, 3) := dc_182 (a := 1) (b := 167) (by decide +kernel)
theorem dX12_run_69 : decode cX12_run 69 = .ok (.aload_n 0, 1) := dc_42 (by decide +kernel)
theorem dX12_run_70 : decode cX12_run 70 = .ok (.dup, 1) := dc_89 (by decide +kernel)
theorem dX12_run_71 : decode cX12_run 71 = .ok (.getfield 334, 3) := dc_180 (a := 1) (b := 78) (by decide +kernel)
theorem dX12_run_74 : decode cX12_run 74 = .ok (.iconst 1, 1) := dc_4 (by decide +kernel)
theorem dX12_run_75 : decode cX12_run 75 = .ok (.iadd, 1) := dc_96 (by decide +kernel)
theorem dX12_run_76 : decode cX12_run 76 = .ok (.putfield 334, 3) := dc_181 (a := 1) (b := 78) (by decide +kernel)
theorem dX12_run_79 : decode cX12_run 79 = .ok (.return_, 1) := dc_177 (by decide +kernel)
theorem dX12_run_80 : decode cX12_run 80 = .ok (.iload_n 2, 1) := dc_28 (by decide +kernel)
theorem dX12_run_81 : decode cX12_run 81 = .ok (.bipush (-4), 2) := dc_16 (a := 252) (by decide +kernel) (by decide)
theorem dX12_run_83 : decode cX12_run 83 = .ok (.if_icmp .ne 26, 3) := dc_160 (a := 0) (b := 26) (by decide +kernel) (by decide)
theorem dX12_run_86 : decode cX12_run 86 = .ok (.aload_n 0, 1) := dc_42 (by decide +kernel)
theorem dX12_run_87 : decode cX12_run 87 = .ok (.iload_n 1, 1) := dc_27 (by decide +kernel)
theorem dX12_run_88 : decode cX12_run 88 = .ok (.aload_n 0, 1) := dc_42 (by decide +kernel)
theorem dX12_run_89 : decode cX12_run 89 = .ok (.getfield 245, 3) := dc_180 (a := 0) (b := 245) (by decide +kernel)
theorem dX12_run_92 : decode cX12_run 92 = .ok (.aload_n 0, 1) := dc_42 (by decide +kernel)
theorem dX12_run_93 : decode cX12_run 93 = .ok (.getfield 248, 3) := dc_180 (a := 0) (b := 248) (by decide +kernel)
theorem dX12_run_96 : decode cX12_run 96 = .ok (.aload_n 0, 1) := dc_42 (by decide +kernel)
theorem dX12_run_97 : decode cX12_run 97 = .ok (.getfield 111, 3) := dc_180 (a := 0) (b := 111) (by decide +kernel)
theorem dX12_run_100 : decode cX12_run 100 = .ok (.iload_n 1, 1) := dc_27 (by decide +kernel)
theorem dX12_run_101 : decode cX12_run 101 = .ok (.iaload, 1) := dc_46 (by decide +kernel)
theorem dX12_run_102 : decode cX12_run 102 = .ok (.aload_n 0, 1) := dc_42 (by decide +kernel)
theorem dX12_run_103 : decode cX12_run 103 = .ok (.getfield 251, 3) := dc_180 (a := 0) (b := 251) (by decide +kernel)
theorem dX12_run_106 : decode cX12_run 106 = .ok (.invokevirtual 396, 3) := dc_182 (a := 1) (b := 140) (by decide +kernel)
theorem dX12_run_109 : decode cX12_run 109 = .ok (.aload_n 0, 1) := dc_42 (by decide +kernel)
theorem dX12_run_110 : decode cX12_run 110 = .ok (.getfield 105, 3) := dc_180 (a := 0) (b := 105) (by decide +kernel)
theorem dX12_run_113 : decode cX12_run 113 = .ok (.iload_n 1, 1) := dc_27 (by decide +kernel)
theorem dX12_run_114 : decode cX12_run 114 = .ok (.dup2, 1) := dc_92 (by decide +kernel)
theorem dX12_run_115 : decode cX12_run 115 = .ok (.iaload, 1) := dc_46 (by decide +kernel)
theorem dX12_run_116 : decode cX12_run 116 = .ok (.iconst 1, 1) := dc_4 (by decide +kernel)
theorem dX12_run_117 : decode cX12_run 117 = .ok (.isub, 1) := dc_100 (by decide +kernel)
theorem dX12_run_118 : decode cX12_run 118 = .ok (.iastore, 1) := dc_79 (by decide +kernel)
theorem dX12_run_119 : decode cX12_run 119 = .ok (.aload_n 0, 1) := dc_42 (by decide +kernel)
theorem dX12_run_120 : decode cX12_run 120 = .ok (.getfield 105, 3) := dc_180 (a := 0) (b := 105) (by decide +kernel)
theorem dX12_run_123 : decode cX12_run 123 = .ok (.iload_n 1, 1) := dc_27 (by decide +kernel)
theorem dX12_run_124 : decode cX12_run 124 = .ok (.iaload, 1) := dc_46 (by decide +kernel)
theorem dX12_run_125 : decode cX12_run 125 = .ok (.ifCond .ne 8, 3) := dc_154 (a := 0) (b := 8) (by decide +kernel) (by decide)
theorem dX12_run_128 : decode cX12_run 128 = .ok (.aload_n 0, 1) := dc_42 (by decide +kernel)
theorem dX12_run_129 : decode cX12_run 129 = .ok (.iload_n 1, 1) := dc_27 (by decide +kernel)
theorem dX12_run_130 : decode cX12_run 130 = .ok (.invokevirtual 423, 3) := dc_182 (a := 1) (b := 167) (by decide +kernel)
theorem dX12_run_133 : decode cX12_run 133 = .ok (.return_, 1) := dc_177 (by decide +kernel)
set_option maxRecDepth 100000 in
set_option maxHeartbeats 4000000 in
theorem w_M_run_j109 {p : Program} {l : Launch} {e : Env} {R : Room} {s : State} {m : MethodId} {args : Array Value} {below : List Frame} {meth : Method} {c : Code} {dC : Nat → ClassId} {dI : Nat → Nat → Nat} {cs : Nat → ClassId} {ad : Nat → Nat} {A : Nat → Prop} {D0 : Nat → Nat} {S' : SS} (F : Fx p s m args meth c cX12_run 3 RX12 none dC dI cs A) (hR1 : 1 ≤ R.frames) (hR2 : 21 ≤ R.locals) (x1 : Int32) (S : SS) (h : f_M_run_j109 x1 S = some S') : AW p l e R s m args below meth c dC dI cs ad A D0 none S' 3 109 [(0, .ref (ad 0)), (1, .int x1)] [] S := by
  have hx := F.1.1
  have hb := F.1.2.1
  intro H locs ls w hl
  rw [f_M_run_j109] at h
  refine lv_aload_n (pc := 109) hx hb dX12_run_109 rfl (lv_at hl 0 rfl) ?_
  refine s_getR (pc := 110) F w 30 ds_0 (j := 42) vc_X12 vi_X12 rfl (by decide) kf_X12_105 dX12_run_110 ?_
  refine lv_iload_n (pc := 113) hx hb dX12_run_113 rfl (lv_at hl 1 rfl) ?_
  refine lv_dup2_11 (pc := 114) hx hb dX12_run_114 rfl rfl ?_
  refine s_iald (pc := 115) F w ds_30 h dX12_run_115 (fun h => ?_)
  refine lv_iconst (pc := 116) (v := 1) hx hb dX12_run_116 (by decide) ?_
  refine lv_isub (pc := 117) hx hb dX12_run_117 ?_
  refine s_iast (pc := 118) F w ds_30 h dX12_run_118 (fun S7 H locs h w => ?_)
  refine lv_aload_n (pc := 119) hx hb dX12_run_119 rfl (lv_at hl 0 rfl) ?_
  refine s_getR (pc := 120) F w 30 ds_0 (j := 42) vc_X12 vi_X12 rfl (by decide) kf_X12_105 dX12_run_120 ?_
  refine lv_iload_n (pc := 123) hx hb dX12_run_123 rfl (lv_at hl 1 rfl) ?_
  refine s_iald (pc := 124) F w ds_30 h dX12_run_124 (fun h => ?_)
  refine lv_if_ne (pc := 125) (tgt := 133) hx hb dX12_run_125 (by decide) (fun q => ?_) (fun q => ?_)
  · have h := ite_f q h
    exact s_vret F w h dX12_run_133
  · have h := ite_t q h
    refine lv_aload_n (pc := 128) hx hb dX12_run_128 rfl (lv_at hl 0 rfl) ?_
    refine lv_iload_n (pc := 129) hx hb dX12_run_129 rfl (lv_at hl 1 rfl) ?_
    obtain ⟨S8, hc, h⟩ := bndv_t h
    refine s_cvv (pc := 130) [.int x1] (fun ad => [.ref (ad 0), .int x1]) F w (m_M_stop _ _ _ hc) rfl rfl hl.1 ds_0 vc_X12 rfl ok_X12_stop rfl kc_X12_stop kl_X12_423 ki_X12_stop kv_X12_stop kn_X12 ⟨Nat.le_trans (by decide) hR1, Nat.le_trans (by decide) hR2⟩ ⟨Nat.zero_le _, Nat.zero_le _⟩ (Nat.le_of_ble_eq_true rfl) dX12_run_130 (fun H locs w => ?_)
    exact s_vret F w h dX12_run_133
set_option maxRecDepth 100000 in
set_option maxHeartbeats 4000000 in
theorem w_M_run_j80 {p : Program} {l : Launch} {e : Env} {R : Room} {s : State} {m : MethodId} {args : Array Value} {below : List Frame} {meth : Method} {c : Code} {dC : Nat → ClassId} {dI : Nat → Nat → Nat} {cs : Nat → ClassId} {ad : Nat → Nat} {A : Nat → Prop} {D0 : Nat → Nat} {S' : SS} (F : Fx p s m args meth c cX12_run 3 RX12 none dC dI cs A) (hR1 : 1 ≤ R.frames) (hR2 : 25 ≤ R.locals) (x1 : Int32) (x2 : Int32) (S : SS) (h : f_M_run_j80 x1 x2 S = some S') : AW p l e R s m args below meth c dC dI cs ad A D0 none S' 3 80 [(0, .ref (ad 0)), (1, .int x1), (2, .int x2)] [] S := by
  have hx := F.1.1
  have hb := F.1.2.1
  intro H locs ls w hl
  rw [f_M_run_j80] at h
  refine lv_iload_n (pc := 80) hx hb dX12_run_80 rfl (lv_at hl 2 rfl) ?_
  refine lv_bipush (pc := 81) (v := -4) hx hb dX12_run_81 (by decide) ?_
  refine lv_icmp_ne (pc := 83) (tgt := 109) hx hb dX12_run_83 (by decide) (fun q => ?_) (fun q => ?_)
  · have h := ite_f q h
    exact w_M_run_j109 F (Nat.le_trans (by decide) hR1) (Nat.le_trans (by decide) hR2) _ _ h _ _ _ w (lv_sub hl [0, 1] rfl)
  · have h := ite_t q h
    refine lv_aload_n (pc := 86) hx hb dX12_run_86 rfl (lv_at hl 0 rfl) ?_
    refine lv_iload_n (pc := 87) hx hb dX12_run_87 rfl (lv_at hl 1 rfl) ?_
    refine lv_aload_n (pc := 88) hx hb dX12_run_88 rfl (lv_at hl 0 rfl) ?_
    refine s_getI (pc := 89) F w ds_0 (j := 26) vc_X12 vi_X12 rfl (by decide) kf_X12_245 dX12_run_89 ?_
    refine lv_aload_n (pc := 92) hx hb dX12_run_92 rfl (lv_at hl 0 rfl) ?_
    refine s_getI (pc := 93) F w ds_0 (j := 27) vc_X12 vi_X12 rfl (by decide) kf_X12_248 dX12_run_93 ?_
    refine lv_aload_n (pc := 96) hx hb dX12_run_96 rfl (lv_at hl 0 rfl) ?_
    refine s_getR (pc := 97) F w 32 ds_0 (j := 44) vc_X12 vi_X12 rfl (by decide) kf_X12_111 dX12_run_97 ?_
    refine lv_iload_n (pc := 100) hx hb dX12_run_100 rfl (lv_at hl 1 rfl) ?_
    refine s_iald (pc := 101) F w ds_32 h dX12_run_101 (fun h => ?_)
    refine lv_aload_n (pc := 102) hx hb dX12_run_102 rfl (lv_at hl 0 rfl) ?_
    refine s_getI (pc := 103) F w ds_0 (j := 28) vc_X12 vi_X12 rfl (by decide) kf_X12_251 dX12_run_103 ?_
    obtain ⟨S9, hc, h⟩ := bndv_t h
    refine s_cvv (pc := 106) [.int x1, .int (S.1 0 26), .int (S.1 0 27), .int (S.1 32 x1.toNatClampNeg), .int (S.1 0 28)] (fun ad => [.ref (ad 0), .int x1, .int (S.1 0 26), .int (S.1 0 27), .int (S.1 32 x1.toNatClampNeg), .int (S.1 0 28)]) F w (m_M_place _ _ _ _ _ _ _ hc) rfl rfl hl.1 ds_0 vc_X12 rfl ok_X12_place rfl kc_X12_place kl_X12_396 ki_X12_place kv_X12_place kn_X12 ⟨Nat.le_trans (by decide) hR1, Nat.le_trans (by decide) hR2⟩ ⟨Nat.zero_le _, Nat.zero_le _⟩ (Nat.le_of_ble_eq_true rfl) dX12_run_106 (fun H locs w => ?_)
    exact w_M_run_j109 F (Nat.le_trans (by decide) hR1) (Nat.le_trans (by decide) hR2) _ _ h _ _ _ w (lv_sub hl [0, 1] rfl)
set_option maxRecDepth 100000 in
set_option maxHeartbeats 4000000 in
theorem m_M_run (a1 : Int32) (S S' : SS) (h : f_M_run a1 S = some S') : MT yX12_run cX12_run 3 none 2 50 (fun ad => [.ref (ad 0), .int a1]) S none S' := by
  refine MT.of RX12 (fun ad => [(0, .ref (ad 0)), (1, .int a1)]) (by decide) rfl (fun _ => Nat.le_of_ble_eq_true rfl) (fun _ => rfl) ?_
  intro p l e R s m args below meth c dC dI cs ad A hR1 hR2 F H locs ls w hl
  have hx := F.1.1
  have hb := F.1.2.1
  rw [f_M_run] at h
  refine lv_aload_n (pc := 0) hx hb dX12_run_0 rfl (lv_at hl 0 rfl) ?_
  refine lv_aload_n (pc := 1) hx hb dX12_run_1 rfl (lv_at hl 0 rfl) ?_
  refine s_getR (pc := 2) F w 20 ds_0 (j := 32) vc_X12 vi_X12 rfl (by decide) kf_X12_75 dX12_run_2 ?_
  refine lv_iload_n (pc := 5) hx hb dX12_run_5 rfl (lv_at hl 1 rfl) ?_
  refine s_iald (pc := 6) F w ds_20 h dX12_run_6 (fun h => ?_)
  refine lv_aload_n (pc := 7) hx hb dX12_run_7 rfl (lv_at hl 0 rfl) ?_
  refine s_getR (pc := 8) F w 21 ds_0 (j := 33) vc_X12 vi_X12 rfl (by decide) kf_X12_78 dX12_run_8 ?_
  refine lv_iload_n (pc := 11) hx hb dX12_run_11 rfl (lv_at hl 1 rfl) ?_
  refine s_iald (pc := 12) F w ds_21 h dX12_run_12 (fun h => ?_)
  refine lv_aload_n (pc := 13) hx hb dX12_run_13 rfl (lv_at hl 0 rfl) ?_
  refine lv_iload_n (pc := 14) hx hb dX12_run_14 rfl (lv_at hl 1 rfl) ?_
  refine lv_aload_n (pc := 15) hx hb dX12_run_15 rfl (lv_at hl 0 rfl) ?_
  refine s_getR (pc := 16) F w 32 ds_0 (j := 44) vc_X12 vi_X12 rfl (by decide) kf_X12_111 dX12_run_16 ?_
  refine lv_iload_n (pc := 19) hx hb dX12_run_19 rfl (lv_at hl 1 rfl) ?_
  refine s_iald (pc := 20) F w ds_32 h dX12_run_20 (fun h => ?_)
  obtain ⟨r2, S1, hc, h⟩ := bnd_t h
  refine s_cvi (pc := 21) [.int a1, .int (S.1 32 a1.toNatClampNeg)] (fun ad => [.ref (ad 0), .int a1, .int (S.1 32 a1.toNatClampNeg)]) F w (m_M_wayOf _ _ _ _ _ hc) rfl rfl hl.1 ds_0 vc_X12 rfl ok_X12_wayOf rfl kc_X12_wayOf kl_X12_368 ki_X12_wayOf kv_X12_wayOf kn_X12 ⟨Nat.le_trans (by decide) hR1, Nat.le_trans (by decide) hR2⟩ ⟨Nat.zero_le _, Nat.zero_le _⟩ (Nat.le_of_ble_eq_true rfl) dX12_run_21 (fun H locs w => ?_)
  obtain ⟨r4, S3, hc, h⟩ := bnd_t h
  refine s_cvi (pc := 24) [.int (S.1 20 a1.toNatClampNeg), .int (S.1 21 a1.toNatClampNeg), .int r2] (fun ad => [.ref (ad 0), .int (S.1 20 a1.toNatClampNeg), .int (S.1 21 a1.toNatClampNeg), .int r2]) F w (m_M_isOpen _ _ _ _ _ _ hc) rfl rfl hl.1 ds_0 vc_X12 rfl ok_X12_isOpen rfl kc_X12_isOpen kl_X12_371 ki_X12_isOpen kv_X12_isOpen kn_X12 ⟨Nat.le_trans (by decide) hR1, Nat.le_trans (by decide) hR2⟩ ⟨Nat.zero_le _, Nat.zero_le _⟩ (Nat.le_of_ble_eq_true rfl) dX12_run_24 (fun H locs w => ?_)
  refine lv_if_ne (pc := 27) (tgt := 36) hx hb dX12_run_27 (by decide) (fun q => ?_) (fun q => ?_)
  · have h := ite_f q h
    refine lv_aload_n (pc := 36) hx hb dX12_run_36 rfl (lv_at hl 0 rfl) ?_
    refine lv_aload_n (pc := 37) hx hb dX12_run_37 rfl (lv_at hl 0 rfl) ?_
    refine s_getI (pc := 38) F w ds_0 (j := 26) vc_X12 vi_X12 rfl (by decide) kf_X12_245 dX12_run_38 ?_
    refine lv_aload_n (pc := 41) hx hb dX12_run_41 rfl (lv_at hl 0 rfl) ?_
    refine s_getI (pc := 42) F w ds_0 (j := 27) vc_X12 vi_X12 rfl (by decide) kf_X12_248 dX12_run_42 ?_
    obtain ⟨r6, S5, hc, h⟩ := bnd_t h
    refine s_cvi (pc := 45) [.int (S3.1 0 26), .int (S3.1 0 27)] (fun ad => [.ref (ad 0), .int (S3.1 0 26), .int (S3.1 0 27)]) F w (m_M_standing _ _ _ _ _ hc) rfl rfl hl.1 ds_0 vc_X12 rfl ok_X12_standing rfl kc_X12_standing kl_X12_279 ki_X12_standing kv_X12_standing kn_X12 ⟨Nat.le_trans (by decide) hR1, Nat.le_trans (by decide) hR2⟩ ⟨Nat.zero_le _, Nat.zero_le _⟩ (Nat.le_of_ble_eq_true rfl) dX12_run_45 (fun H locs w => ?_)
    refine lv_istore_n (pc := 48) (lv' := [(2, .int r6), (0, .ref (ad 0)), (1, .int a1)]) hx hb dX12_run_48 rfl hl (by decide) rfl (fun ls hl => ?_)
    refine lv_iload_n (pc := 49) hx hb dX12_run_49 rfl (lv_at hl 0 rfl) ?_
    refine lv_bipush (pc := 50) (v := -4) hx hb dX12_run_50 (by decide) ?_
    refine lv_icmp_eq (pc := 52) (tgt := 80) hx hb dX12_run_52 (by decide) (fun q => ?_) (fun q => ?_)
    · have h := ite_t q h
      exact w_M_run_j80 F (Nat.le_trans (by decide) hR1) (Nat.le_trans (by decide) hR2) _ _ _ h _ _ _ w (lv_sub hl [1, 2, 0] rfl)
    · have h := ite_f q h
      refine lv_aload_n (pc := 55) hx hb dX12_run_55 rfl (lv_at hl 1 rfl) ?_
      refine s_getR (pc := 56) F w 31 ds_0 (j := 43) vc_X12 vi_X12 rfl (by decide) kf_X12_108 dX12_run_56 ?_
      refine lv_iload_n (pc := 59) hx hb dX12_run_59 rfl (lv_at hl 0 rfl) ?_
      refine s_zald (pc := 60) F w ds_31 h dX12_run_60 (fun h => ?_)
      refine lv_if_ne (pc := 61) (tgt := 80) hx hb dX12_run_61 (by decide) (fun q => ?_) (fun q => ?_)
      · have h := ite_f q h
        exact w_M_run_j80 F (Nat.le_trans (by decide) hR1) (Nat.le_trans (by decide) hR2) _ _ _ h _ _ _ w (lv_sub hl [1, 2, 0] rfl)
      · have h := ite_t q h
        refine lv_aload_n (pc := 64) hx hb dX12_run_64 rfl (lv_at hl 1 rfl) ?_
        refine lv_iload_n (pc := 65) hx hb dX12_run_65 rfl (lv_at hl 2 rfl) ?_
        obtain ⟨S10, hc, h⟩ := bndv_t h
        refine s_cvv (pc := 66) [.int a1] (fun ad => [.ref (ad 0), .int a1]) F w (m_M_stop _ _ _ hc) rfl rfl hl.1 ds_0 vc_X12 rfl ok_X12_stop rfl kc_X12_stop kl_X12_423 ki_X12_stop kv_X12_stop kn_X12 ⟨Nat.le_trans (by decide) hR1, Nat.le_trans (by decide) hR2⟩ ⟨Nat.zero_le _, Nat.zero_le _⟩ (Nat.le_of_ble_eq_true rfl) dX12_run_66 (fun H locs w => ?_)
        refine lv_aload_n (pc := 69) hx hb dX12_run_69 rfl (lv_at hl 1 rfl) ?_
        refine lv_dup (pc := 70) hx hb dX12_run_70 rfl ?_
        refine s_getI (pc := 71) F w ds_0 (j := 48) vc_X12 vi_X12 rfl (by decide) kf_X12_334 dX12_run_71 ?_
        refine lv_iconst (pc := 74) (v := 1) hx hb dX12_run_74 (by decide) ?_
        refine lv_iadd (pc := 75) hx hb dX12_run_75 ?_
        refine s_putI (pc := 76) F w ds_0 vc_X12 vi_X12 tyX12_ok nmX12 (j := 48) rfl (by decide) kf_X12_334 rfl pd_I h dX12_run_76 (fun S11 H locs h w => ?_)
        exact s_vret F w h dX12_run_79
  · have h := ite_t q h
    refine lv_aload_n (pc := 30) hx hb dX12_run_30 rfl (lv_at hl 0 rfl) ?_
    refine lv_iload_n (pc := 31) hx hb dX12_run_31 rfl (lv_at hl 1 rfl) ?_
    obtain ⟨S12, hc, h⟩ := bndv_t h
    refine s_cvv (pc := 32) [.int a1] (fun ad => [.ref (ad 0), .int a1]) F w (m_M_stop _ _ _ hc) rfl rfl hl.1 ds_0 vc_X12 rfl ok_X12_stop rfl kc_X12_stop kl_X12_423 ki_X12_stop kv_X12_stop kn_X12 ⟨Nat.le_trans (by decide) hR1, Nat.le_trans (by decide) hR2⟩ ⟨Nat.zero_le _, Nat.zero_le _⟩ (Nat.le_of_ble_eq_true rfl) dX12_run_32 (fun H locs w => ?_)
    exact s_vret F w h dX12_run_35
def f_M_step_L30 (K19 : Int32 → Int32 → SS → Option (Int32 × SS)) : Nat → Int32 → Int32 → Int32 → SS → Option (Int32 × SS)
  | 0, _, _, _, _ => none
  | n + 1, x1, x2, x3, S =>
    if x3 = (-4 : Int32) then
      nm (x2 + (1 : Int32)) (fun z8 =>
      K19 x1 z8 S)
    else
      grd (inb x3 72) (
      nm (S.1 33 x3.toNatClampNeg) (fun z9 =>
      bndv (f_M_run x3 S) (fun S10 =>
      bnd (f_M_nextRunning z9 S10) (fun r12 S11 =>
      f_M_step_L30 K19 n x1 x2 r12 S11))))
def f_M_step_L19  : Nat → Int32 → Int32 → SS → Option (Int32 × SS)
  | 0, _, _, _ => none
  | n + 1, x1, x2, S =>
    if x1 ≤ x2 then
      bnd (f_M_running  S) (fun r3 S2 =>
      bnd (f_M_entered (10 : Int32) r3 S2) (fun r5 S4 =>
      some (r5, S4)))
    else
      bnd (f_M_nextRunning (0 : Int32) S) (fun r7 S6 =>
      f_M_step_L30 (fun v0 v1 S => f_M_step_L19 n v0 v1 S) NF x1 x2 r7 S6)
def f_M_step (a1 : Int32) (S : SS) : Option (Int32 × SS) :=
  if a1 < (1 : Int32) then
    some ((-1 : Int32), S)
  else
    if a1 ≤ (50 : Int32) then
      bndv (f_M_keep  S) (fun S1 =>
      f_M_step_L19 NF a1 (0 : Int32) S1)
    else
      some ((-1 : Int32), S)
theorem dX12_step_0 : decode cX12_step 0 = .ok (.iload_n 1, 1) := dc_27 (by decide +kernel)
theorem dX12_step_1 : decode cX12_step 1 = .ok (.iconst 1, 1) := dc_4 (by decide +kernel)
theorem dX12_step_2 : decode cX12_step 2 = .ok (.if_icmp .lt 9, 3) := dc_161 (a := 0) (b := 9) (by decide +kernel) (by decide)
theorem dX12_step_5 : decode cX12_step 5 = .ok (.iload_n 1, 1) := dc_27 (by decide +kernel)
theorem dX12_step_6 : decode cX12_step 6 = .ok (.bipush 50, 2) := dc_16 (a := 50) (by decide +kernel) (by decide)
theorem dX12_step_8 : decode cX12_step 8 = .ok (.if_icmp .le 5, 3) := dc_164 (a := 0) (b := 5) (by decide +kernel) (by decide)
theorem dX12_step_11 : decode cX12_step 11 = .ok (.iconst (-1), 1) := dc_2 (by decide +kernel)
theorem dX12_step_12 : decode cX12_step 12 = .ok (.ireturn, 1) := dc_172 (by decide +kernel)
theorem dX12_step_13 : decode cX12_step 13 = .ok (.aload_n 0, 1) := dc_42 (by decide +kernel)
theorem dX12_step_14 : decode cX12_step 14 = .ok (.invokevirtual 346, 3) := dc_182 (a := 1) (b := 90) (by decide +kernel)
theorem dX12_step_17 : decode cX12_step 17 = .ok (.iconst 0, 1) := dc_3 (by decide +kernel)
theorem dX12_step_18 : decode cX12_step 18 = .ok (.istore_n 2, 1) := dc_61 (by decide +kernel)
theorem dX12_step_19 : decode cX12_step 19 = .ok (.iload_n 2, 1) := dc_28 (by decide +kernel)
theorem dX12_step_20 : decode cX12_step 20 = .ok (.iload_n 1, 1) := dc_27 (by decide +kernel)
theorem dX12_step_21 : decode cX12_step 21 = .ok (.if_icmp .ge 44, 3) := dc_162 (a := 0) (b := 44) (by decide +kernel) (by decide)
theorem dX12_step_24 : decode cX12_step 24 = .ok (.aload_n 0, 1) := dc_42 (by decide +kernel)
theorem dX12_step_25 : decode cX12_step 25 = .ok (.iconst 0, 1) := dc_3 (by decide +kernel)
theorem dX12_step_26 : decode cX12_step 26 = .ok (.invokevirtual 426, 3) := dc_182 (a := 1) (b := 170) (by decide +kernel)
theorem dX12_step_29 : decode cX12_step 29 = .ok (.istore_n 3, 1) := dc_62 (by decide +kernel)
theorem dX12_step_30 : decode cX12_step 30 = .ok (.iload_n 3, 1) := dc_29 (by decide +kernel)
theorem dX12_step_31 : decode cX12_step 31 = .ok (.bipush (-4), 2) := dc_16 (a := 252) (by decide +kernel) (by decide)
theorem dX12_step_33 : decode cX12_step 33 = .ok (.if_icmp .eq 26, 3) := dc_159 (a := 0) (b := 26) (by decide +kernel) (by decide)
theorem dX12_step_36 : decode cX12_step 36 = .ok (.aload_n 0, 1) := dc_42 (by decide +kernel)
theorem dX12_step_37 : decode cX12_step 37 = .ok (.getfield 114, 3) := dc_180 (a := 0) (b := 114) (by decide +kernel)
theorem dX12_step_40 : decode cX12_step 40 = .ok (.iload_n 3, 1) := dc_29 (by decide +kernel)
theorem dX12_step_41 : decode cX12_step 41 = .ok (.iaload, 1) := dc_46 (by decide +kernel)
theorem dX12_step_42 : decode cX12_step 42 = .ok (.istore 4, 2) := dc_54 (a := 4) (by decide +kernel)
theorem dX12_step_44 : decode cX12_step 44 = .ok (.aload_n 0, 1) := dc_42 (by decide +kernel)
theorem dX12_step_45 : decode cX12_step 45 = .ok (.iload_n 3, 1) := dc_29 (by decide +kernel)
theorem dX12_step_46 : decode cX12_step 46 = .ok (.invokevirtual 429, 3) := dc_182 (a := 1) (b := 173) (by decide +kernel)
theorem dX12_step_49 : decode cX12_step 49 = .ok (.aload_n 0, 1) := dc_42 (by decide +kernel)
theorem dX12_step_50 : decode cX12_step 50 = .ok (.iload 4, 2) := dc_21 (a := 4) (by decide +kernel)
theorem dX12_step_52 : decode cX12_step 52 = .ok (.invokevirtual 426, 3) := dc_182 (a := 1) (b := 170) (by decide +kernel)
theorem dX12_step_55 : decode cX12_step 55 = .ok (.istore_n 3, 1) := dc_62 (by decide +kernel)
theorem dX12_step_56 : decode cX12_step 56 = .ok (.goto (-26), 3) := dc_167 (a := 255) (b := 230) (by decide +kernel) (by decide)
theorem dX12_step_59 : decode cX12_step 59 = .ok (.iinc 2 1, 3) := dc_132 (a := 2) (b := 1) (by decide +kernel) (by decide)
theorem dX12_step_62 : decode cX12_step 62 = .ok (.goto (-43), 3) := dc_167 (a := 255) (b := 213) (by decide +kernel) (by decide)
theorem dX12_step_65 : decode cX12_step 65 = .ok (.aload_n 0, 1) := dc_42 (by decide +kernel)
theorem dX12_step_66 : decode cX12_step 66 = .ok (.bipush 10, 2) := dc_16 (a := 10) (by decide +kernel) (by decide)
theorem dX12_step_68 : decode cX12_step 68 = .ok (.aload_n 0, 1) := dc_42 (by decide +kernel)
theorem dX12_step_69 : decode cX12_step 69 = .ok (.invokevirtual 432, 3) := dc_182 (a := 1) (b := 176) (by decide +kernel)
theorem dX12_step_72 : decode cX12_step 72 = .ok (.invokevirtual 349, 3) := dc_182 (a := 1) (b := 93) (by decide +kernel)
theorem dX12_step_75 : decode cX12_step 75 = .ok (.ireturn, 1) := dc_172 (by decide +kernel)
set_option maxRecDepth 100000 in
set_option maxHeartbeats 4000000 in
theorem w_M_step_L30 {p : Program} {l : Launch} {e : Env} {R : Room} {s : State} {m : MethodId} {args : Array Value} {below : List Frame} {meth : Method} {c : Code} {dC : Nat → ClassId} {dI : Nat → Nat → Nat} {cs : Nat → ClassId} {ad : Nat → Nat} {A : Nat → Prop} {D0 : Nat → Nat} {S' : SS} {r : Int32} (F : Fx p s m args meth c cX12_step 5 RX12 (some .int) dC dI cs A) (hR1 : 3 ≤ R.frames) (hR2 : 72 ≤ R.locals) (K19 : Int32 → Int32 → SS → Option (Int32 × SS)) (hK19 : ∀ (v0 : Int32) (v1 : Int32) (S : SS), K19 v0 v1 S = some (r, S') → AW p l e R s m args below meth c dC dI cs ad A D0 (some (.int r)) S' 5 19 [(0, .ref (ad 0)), (1, .int v0), (2, .int v1)] [] S) : ∀ (n : Nat) (x1 : Int32) (x2 : Int32) (x3 : Int32) (S : SS), f_M_step_L30 K19 n x1 x2 x3 S = some (r, S') → AW p l e R s m args below meth c dC dI cs ad A D0 (some (.int r)) S' 5 30 [(0, .ref (ad 0)), (1, .int x1), (2, .int x2), (3, .int x3)] [] S := by
  have hx := F.1.1
  have hb := F.1.2.1
  intro n
  induction n with
  | zero => intro x1 x2 x3 S h; cases h
  | succ n ih =>
    intro x1 x2 x3 S h H locs ls w hl
    rw [f_M_step_L30] at h
    refine lv_iload_n (pc := 30) hx hb dX12_step_30 rfl (lv_at hl 3 rfl) ?_
    refine lv_bipush (pc := 31) (v := -4) hx hb dX12_step_31 (by decide) ?_
    refine lv_icmp_eq (pc := 33) (tgt := 59) hx hb dX12_step_33 (by decide) (fun q => ?_) (fun q => ?_)
    · have h := ite_t q h
      refine s_nm h (fun z8 ez8 h => ?_)
      refine lv_iinc (pc := 59) (v := z8) (lv' := [(2, .int z8), (0, .ref (ad 0)), (1, .int x1), (3, .int x3)]) hx hb dX12_step_59 hl (k := 2) rfl (by rw [ez8]; rfl) (by decide) rfl (fun ls hl => ?_)
      refine lv_goto (pc := 62) (tgt := 19) hx hb dX12_step_62 (by decide) ?_
      exact hK19 _ _ _ h _ _ _ w (lv_sub hl [1, 2, 0] rfl)
    · have h := ite_f q h
      refine lv_aload_n (pc := 36) hx hb dX12_step_36 rfl (lv_at hl 0 rfl) ?_
      refine s_getR (pc := 37) F w 33 ds_0 (j := 45) vc_X12 vi_X12 rfl (by decide) kf_X12_114 dX12_step_37 ?_
      refine lv_iload_n (pc := 40) hx hb dX12_step_40 rfl (lv_at hl 3 rfl) ?_
      refine s_iald (pc := 41) F w ds_33 h dX12_step_41 (fun h => ?_)
      refine s_nm h (fun z9 ez9 h => ?_)
      rw [← ez9]
      refine lv_istore (pc := 42) (lv' := [(4, .int z9), (0, .ref (ad 0)), (1, .int x1), (2, .int x2), (3, .int x3)]) hx hb dX12_step_42 hl (by decide) rfl (fun ls hl => ?_)
      refine lv_aload_n (pc := 44) hx hb dX12_step_44 rfl (lv_at hl 1 rfl) ?_
      refine lv_iload_n (pc := 45) hx hb dX12_step_45 rfl (lv_at hl 4 rfl) ?_
      obtain ⟨S10, hc, h⟩ := bndv_t h
      refine s_cvv (pc := 46) [.int x3] (fun ad => [.ref (ad 0), .int x3]) F w (m_M_run _ _ _ hc) rfl rfl hl.1 ds_0 vc_X12 rfl ok_X12_run rfl kc_X12_run kl_X12_429 ki_X12_run kv_X12_run kn_X12 ⟨Nat.le_trans (by decide) hR1, Nat.le_trans (by decide) hR2⟩ ⟨Nat.zero_le _, Nat.zero_le _⟩ (Nat.le_of_ble_eq_true rfl) dX12_step_46 (fun H locs w => ?_)
      refine lv_aload_n (pc := 49) hx hb dX12_step_49 rfl (lv_at hl 1 rfl) ?_
      refine lv_iload (pc := 50) hx hb dX12_step_50 (lv_at hl 0 rfl) ?_
      obtain ⟨r12, S11, hc, h⟩ := bnd_t h
      refine s_cvi (pc := 52) [.int z9] (fun ad => [.ref (ad 0), .int z9]) F w (m_M_nextRunning _ _ _ _ hc) rfl rfl hl.1 ds_0 vc_X12 rfl ok_X12_nextRunning rfl kc_X12_nextRunning kl_X12_426 ki_X12_nextRunning kv_X12_nextRunning kn_X12 ⟨Nat.le_trans (by decide) hR1, Nat.le_trans (by decide) hR2⟩ ⟨Nat.zero_le _, Nat.zero_le _⟩ (Nat.le_of_ble_eq_true rfl) dX12_step_52 (fun H locs w => ?_)
      refine lv_istore_n (pc := 55) (lv' := [(3, .int r12), (4, .int z9), (0, .ref (ad 0)), (1, .int x1), (2, .int x2)]) hx hb dX12_step_55 rfl hl (by decide) rfl (fun ls hl => ?_)
      refine lv_goto (pc := 56) (tgt := 30) hx hb dX12_step_56 (by decide) ?_
      exact ih _ _ _ _ h _ _ _ w (lv_sub hl [2, 3, 4, 0] rfl)
set_option maxRecDepth 100000 in
set_option maxHeartbeats 4000000 in
theorem w_M_step_L19 {p : Program} {l : Launch} {e : Env} {R : Room} {s : State} {m : MethodId} {args : Array Value} {below : List Frame} {meth : Method} {c : Code} {dC : Nat → ClassId} {dI : Nat → Nat → Nat} {cs : Nat → ClassId} {ad : Nat → Nat} {A : Nat → Prop} {D0 : Nat → Nat} {S' : SS} {r : Int32} (F : Fx p s m args meth c cX12_step 5 RX12 (some .int) dC dI cs A) (hR1 : 3 ≤ R.frames) (hR2 : 72 ≤ R.locals) : ∀ (n : Nat) (x1 : Int32) (x2 : Int32) (S : SS), f_M_step_L19 n x1 x2 S = some (r, S') → AW p l e R s m args below meth c dC dI cs ad A D0 (some (.int r)) S' 5 19 [(0, .ref (ad 0)), (1, .int x1), (2, .int x2)] [] S := by
  have hx := F.1.1
  have hb := F.1.2.1
  intro n
  induction n with
  | zero => intro x1 x2 S h; cases h
  | succ n ih =>
    intro x1 x2 S h H locs ls w hl
    rw [f_M_step_L19] at h
    refine lv_iload_n (pc := 19) hx hb dX12_step_19 rfl (lv_at hl 2 rfl) ?_
    refine lv_iload_n (pc := 20) hx hb dX12_step_20 rfl (lv_at hl 1 rfl) ?_
    refine lv_icmp_ge (pc := 21) (tgt := 65) hx hb dX12_step_21 (by decide) (fun q => ?_) (fun q => ?_)
    · have h := ite_t q h
      refine lv_aload_n (pc := 65) hx hb dX12_step_65 rfl (lv_at hl 0 rfl) ?_
      refine lv_bipush (pc := 66) (v := 10) hx hb dX12_step_66 (by decide) ?_
      refine lv_aload_n (pc := 68) hx hb dX12_step_68 rfl (lv_at hl 0 rfl) ?_
      obtain ⟨r3, S2, hc, h⟩ := bnd_t h
      refine s_cvi (pc := 69) [] (fun ad => [.ref (ad 0)]) F w (m_M_running  _ _ _ hc) rfl rfl hl.1 ds_0 vc_X12 rfl ok_X12_running rfl kc_X12_running kl_X12_432 ki_X12_running kv_X12_running kn_X12 ⟨Nat.le_trans (by decide) hR1, Nat.le_trans (by decide) hR2⟩ ⟨Nat.zero_le _, Nat.zero_le _⟩ (Nat.le_of_ble_eq_true rfl) dX12_step_69 (fun H locs w => ?_)
      obtain ⟨r5, S4, hc, h⟩ := bnd_t h
      refine s_cvi (pc := 72) [.int (10 : Int32), .int r3] (fun ad => [.ref (ad 0), .int (10 : Int32), .int r3]) F w (m_M_entered _ _ _ _ _ hc) rfl rfl hl.1 ds_0 vc_X12 rfl ok_X12_entered rfl kc_X12_entered kl_X12_349 ki_X12_entered kv_X12_entered kn_X12 ⟨Nat.le_trans (by decide) hR1, Nat.le_trans (by decide) hR2⟩ ⟨Nat.zero_le _, Nat.zero_le _⟩ (Nat.le_of_ble_eq_true rfl) dX12_step_72 (fun H locs w => ?_)
      exact s_iret F w h dX12_step_75
    · have h := ite_f q h
      refine lv_aload_n (pc := 24) hx hb dX12_step_24 rfl (lv_at hl 0 rfl) ?_
      refine lv_iconst (pc := 25) (v := 0) hx hb dX12_step_25 (by decide) ?_
      obtain ⟨r7, S6, hc, h⟩ := bnd_t h
      refine s_cvi (pc := 26) [.int (0 : Int32)] (fun ad => [.ref (ad 0), .int (0 : Int32)]) F w (m_M_nextRunning _ _ _ _ hc) rfl rfl hl.1 ds_0 vc_X12 rfl ok_X12_nextRunning rfl kc_X12_nextRunning kl_X12_426 ki_X12_nextRunning kv_X12_nextRunning kn_X12 ⟨Nat.le_trans (by decide) hR1, Nat.le_trans (by decide) hR2⟩ ⟨Nat.zero_le _, Nat.zero_le _⟩ (Nat.le_of_ble_eq_true rfl) dX12_step_26 (fun H locs w => ?_)
      refine lv_istore_n (pc := 29) (lv' := [(3, .int r7), (0, .ref (ad 0)), (1, .int x1), (2, .int x2)]) hx hb dX12_step_29 rfl hl (by decide) rfl (fun ls hl => ?_)
      exact w_M_step_L30 F (Nat.le_trans (by decide) hR1) (Nat.le_trans (by decide) hR2) _ (fun v0 v1 S h => ih v0 v1 S h) _ _ _ _ _ h _ _ _ w (lv_sub hl [1, 2, 3, 0] rfl)
set_option maxRecDepth 100000 in
set_option maxHeartbeats 4000000 in
theorem m_M_step (a1 : Int32) (S S' : SS) (r : Int32) (h : f_M_step a1 S = some (r, S')) : MT yX12_step cX12_step 5 (some .int) 3 72 (fun ad => [.ref (ad 0), .int a1]) S (some (.int r)) S' := by
  refine MT.of RX12 (fun ad => [(0, .ref (ad 0)), (1, .int a1)]) (by decide) rfl (fun _ => Nat.le_of_ble_eq_true rfl) (fun _ => rfl) ?_
  intro p l e R s m args below meth c dC dI cs ad A hR1 hR2 F H locs ls w hl
  have hx := F.1.1
  have hb := F.1.2.1
  rw [f_M_step] at h
  refine lv_iload_n (pc := 0) hx hb dX12_step_0 rfl (lv_at hl 1 rfl) ?_
  refine lv_iconst (pc := 1) (v := 1) hx hb dX12_step_1 (by decide) ?_
  refine lv_icmp_lt (pc := 2) (tgt := 11) hx hb dX12_step_2 (by decide) (fun q => ?_) (fun q => ?_)
  · have h := ite_t q h
    refine lv_iconst (pc := 11) (v := -1) hx hb dX12_step_11 (by decide) ?_
    exact s_iret F w h dX12_step_12
  · have h := ite_f q h
    refine lv_iload_n (pc := 5) hx hb dX12_step_5 rfl (lv_at hl 1 rfl) ?_
    refine lv_bipush (pc := 6) (v := 50) hx hb dX12_step_6 (by decide) ?_
    refine lv_icmp_le (pc := 8) (tgt := 13) hx hb dX12_step_8 (by decide) (fun q => ?_) (fun q => ?_)
    · have h := ite_t q h
      refine lv_aload_n (pc := 13) hx hb dX12_step_13 rfl (lv_at hl 0 rfl) ?_
      obtain ⟨S1, hc, h⟩ := bndv_t h
      refine s_cvv (pc := 14) [] (fun ad => [.ref (ad 0)]) F w (m_M_keep  _ _ hc) rfl rfl hl.1 ds_0 vc_X12 rfl ok_X12_keep rfl kc_X12_keep kl_X12_346 ki_X12_keep kv_X12_keep kn_X12 ⟨Nat.le_trans (by decide) hR1, Nat.le_trans (by decide) hR2⟩ ⟨Nat.zero_le _, Nat.zero_le _⟩ (Nat.le_of_ble_eq_true rfl) dX12_step_14 (fun H locs w => ?_)
      refine lv_iconst (pc := 17) (v := 0) hx hb dX12_step_17 (by decide) ?_
      refine lv_istore_n (pc := 18) (lv' := [(2, .int (0 : Int32)), (0, .ref (ad 0)), (1, .int a1)]) hx hb dX12_step_18 rfl hl (by decide) rfl (fun ls hl => ?_)
      exact w_M_step_L19 F (Nat.le_trans (by decide) hR1) (Nat.le_trans (by decide) hR2) _ _ _ _ h _ _ _ w (lv_sub hl [1, 2, 0] rfl)
    · have h := ite_f q h
      refine lv_iconst (pc := 11) (v := -1) hx hb dX12_step_11 (by decide) ?_
      exact s_iret F w h dX12_step_12
