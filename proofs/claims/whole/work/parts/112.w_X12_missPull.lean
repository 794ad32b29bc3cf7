/-! ===== printed by wip/gen: X12_missPull X12_follow X12_missStep X12_place X12_goOn X12_pull X0_heavy X8_beginRun ===== -/
def f_X12_missPull_j103 (K62 : Int32 → Int32 → Int32 → SS → Option (Int32 × SS)) (x4 : Int32) (x5 : Int32) (x6 : Int32) (S : SS) : Option (Int32 × SS) :=
    nm (x6 + (1 : Int32)) (fun z4 =>
    K62 x4 x5 z4 S)
def f_X12_missPull_L62  : Nat → Int32 → Int32 → Int32 → SS → Option (Int32 × SS)
  | 0, _, _, _, _ => none
  | n + 1, x4, x5, x6, S =>
    if (S.1 14 56) ≤ x6 then
      if x4 ≤ ((20 : Int32) * x5) then
        some ((0 : Int32), S)
      else
        some ((15 : Int32), S)
    else
      grd (inb x6 72) (
      grd (inb (S.1 106 x6.toNatClampNeg) 72) (
      if (S.1 85 (S.1 106 x6.toNatClampNeg).toNatClampNeg) < (5 : Int32) then
        f_X12_missPull_j103 (fun v0 v1 v2 S => f_X12_missPull_L62 n v0 v1 v2 S) x4 x5 x6 S
      else
        grd (inb x6 72) (
        bnd (f_X12_pulls (S.1 106 x6.toNatClampNeg) S) (fun r6 S5 =>
        nm (x5 + r6) (fun z7 =>
        f_X12_missPull_j103 (fun v0 v1 v2 S => f_X12_missPull_L62 n v0 v1 v2 S) x4 z7 x6 S5)))))
def f_X12_missPull_L28  : Nat → Int32 → Int32 → Int32 → SS → Option (Int32 × SS)
  | 0, _, _, _, _ => none
  | n + 1, x4, x5, x6, S =>
    if (S.1 14 56) ≤ x6 then
      f_X12_missPull_L62 NF x4 x5 (0 : Int32) S
    else
      grd (inb x6 72) (
      bnd (f_X12_weight (S.1 106 x6.toNatClampNeg) S) (fun r9 S8 =>
      nm (x4 + r9) (fun z10 =>
      nm (x6 + (1 : Int32)) (fun z11 =>
      f_X12_missPull_L28 n z10 x5 z11 S8))))
def f_X12_missPull (a1 : Int32) (a2 : Int32) (S : SS) : Option (Int32 × SS) :=
  bnd (f_X12_missSide a1 (2 : Int32) a2 S) (fun r2 S1 =>
  if r2 = 0 then
    bndv (f_X12_lineUp a1 S1) (fun S3 =>
    f_X12_missPull_L28 NF (0 : Int32) (0 : Int32) (0 : Int32) S3)
  else
    some (r2, S1))
theorem dX12_missPull_0 : decode cX12_missPull 0 = .ok (.aload_n 0, 1) := by decide +kernel
theorem dX12_missPull_1 : decode cX12_missPull 1 = .ok (.iload_n 1, 1) := by decide +kernel
theorem dX12_missPull_2 : decode cX12_missPull 2 = .ok (.iconst 2, 1) := by decide +kernel
theorem dX12_missPull_3 : decode cX12_missPull 3 = .ok (.iload_n 2, 1) := by decide +kernel
theorem dX12_missPull_4 : decode cX12_missPull 4 = .ok (.invokevirtual 364, 3) := by decide +kernel
theorem dX12_missPull_7 : decode cX12_missPull 7 = .ok (.istore_n 3, 1) := by decide +kernel
theorem dX12_missPull_8 : decode cX12_missPull 8 = .ok (.iload_n 3, 1) := by decide +kernel
theorem dX12_missPull_9 : decode cX12_missPull 9 = .ok (.ifCond .eq 5, 3) := by decide +kernel
theorem dX12_missPull_12 : decode cX12_missPull 12 = .ok (.iload_n 3, 1) := by decide +kernel
theorem dX12_missPull_13 : decode cX12_missPull 13 = .ok (.ireturn, 1) := by decide +kernel
theorem dX12_missPull_14 : decode cX12_missPull 14 = .ok (.aload_n 0, 1) := by decide +kernel
theorem dX12_missPull_15 : decode cX12_missPull 15 = .ok (.iload_n 1, 1) := by decide +kernel
theorem dX12_missPull_16 : decode cX12_missPull 16 = .ok (.invokevirtual 325, 3) := by decide +kernel
theorem dX12_missPull_19 : decode cX12_missPull 19 = .ok (.iconst 0, 1) := by decide +kernel
theorem dX12_missPull_20 : decode cX12_missPull 20 = .ok (.istore 4, 2) := by decide +kernel
theorem dX12_missPull_22 : decode cX12_missPull 22 = .ok (.iconst 0, 1) := by decide +kernel
theorem dX12_missPull_23 : decode cX12_missPull 23 = .ok (.istore 5, 2) := by decide +kernel
theorem dX12_missPull_25 : decode cX12_missPull 25 = .ok (.iconst 0, 1) := by decide +kernel
theorem dX12_missPull_26 : decode cX12_missPull 26 = .ok (.istore 6, 2) := by decide +kernel
theorem dX12_missPull_28 : decode cX12_missPull 28 = .ok (.iload 6, 2) := by decide +kernel
theorem dX12_missPull_30 : decode cX12_missPull 30 = .ok (.aload_n 0, 1) := by decide +kernel
theorem dX12_missPull_31 : decode cX12_missPull 31 = .ok (.getfield 319, 3) := by decide +kernel
theorem dX12_missPull_34 : decode cX12_missPull 34 = .ok (.if_icmp .ge 25, 3) := by decide +kernel
theorem dX12_missPull_37 : decode cX12_missPull 37 = .ok (.iload 4, 2) := by decide +kernel
theorem dX12_missPull_39 : decode cX12_missPull 39 = .ok (.aload_n 0, 1) := by decide +kernel
theorem dX12_missPull_40 : decode cX12_missPull 40 = .ok (.aload_n 0, 1) := by decide +kernel
theorem dX12_missPull_41 : decode cX12_missPull 41 = .ok (.getfield 132, 3) := by decide +kernel
theorem dX12_missPull_44 : decode cX12_missPull 44 = .ok (.iload 6, 2) := by decide +kernel
theorem dX12_missPull_46 : decode cX12_missPull 46 = .ok (.iaload, 1) := by decide +kernel
theorem dX12_missPull_47 : decode cX12_missPull 47 = .ok (.invokevirtual 303, 3) := by decide +kernel
theorem dX12_missPull_50 : decode cX12_missPull 50 = .ok (.iadd, 1) := by decide +kernel
theorem dX12_missPull_51 : decode cX12_missPull 51 = .ok (.istore 4, 2) := by decide +kernel
theorem dX12_missPull_53 : decode cX12_missPull 53 = .ok (.iinc 6 1, 3) := by decide +kernel
theorem dX12_missPull_56 : decode cX12_missPull 56 = .ok (.goto (-28), 3) := by decide +kernel
theorem dX12_missPull_59 : decode cX12_missPull 59 = .ok (.iconst 0, 1) := by decide +kernel
theorem dX12_missPull_60 : decode cX12_missPull 60 = .ok (.istore 6, 2) := by decide +kernel
theorem dX12_missPull_62 : decode cX12_missPull 62 = .ok (.iload 6, 2) := by decide +kernel
theorem dX12_missPull_64 : decode cX12_missPull 64 = .ok (.aload_n 0, 1) := by decide +kernel
theorem dX12_missPull_65 : decode cX12_missPull 65 = .ok (.getfield 319, 3) := by decide +kernel
theorem dX12_missPull_68 : decode cX12_missPull 68 = .ok (.if_icmp .ge 41, 3) := by decide +kernel
theorem dX12_missPull_71 : decode cX12_missPull 71 = .ok (.aload_n 0, 1) := by decide +kernel
theorem dX12_missPull_72 : decode cX12_missPull 72 = .ok (.getfield 69, 3) := by decide +kernel
theorem dX12_missPull_75 : decode cX12_missPull 75 = .ok (.aload_n 0, 1) := by decide +kernel
theorem dX12_missPull_76 : decode cX12_missPull 76 = .ok (.getfield 132, 3) := by decide +kernel
theorem dX12_missPull_79 : decode cX12_missPull 79 = .ok (.iload 6, 2) := by decide +kernel
theorem dX12_missPull_81 : decode cX12_missPull 81 = .ok (.iaload, 1) := by decide +kernel
theorem dX12_missPull_82 : decode cX12_missPull 82 = .ok (.iaload, 1) := by decide +kernel
theorem dX12_missPull_83 : decode cX12_missPull 83 = .ok (.iconst 5, 1) := by decide +kernel
theorem dX12_missPull_84 : decode cX12_missPull 84 = .ok (.if_icmp .lt 19, 3) := by decide +kernel
theorem dX12_missPull_87 : decode cX12_missPull 87 = .ok (.iload 5, 2) := by decide +kernel
theorem dX12_missPull_89 : decode cX12_missPull 89 = .ok (.aload_n 0, 1) := by decide +kernel
theorem dX12_missPull_90 : decode cX12_missPull 90 = .ok (.aload_n 0, 1) := by decide +kernel
theorem dX12_missPull_91 : decode cX12_missPull 91 = .ok (.getfield 132, 3) := by decide +kernel
theorem dX12_missPull_94 : decode cX12_missPull 94 = .ok (.iload 6, 2) := by decide +kernel
theorem dX12_missPull_96 : decode cX12_missPull 96 = .ok (.iaload, 1) := by decide +kernel
theorem dX12_missPull_97 : decode cX12_missPull 97 = .ok (.invokevirtual 400, 3) := by decide +kernel
theorem dX12_missPull_100 : decode cX12_missPull 100 = .ok (.iadd, 1) := by decide +kernel
theorem dX12_missPull_101 : decode cX12_missPull 101 = .ok (.istore 5, 2) := by decide +kernel
theorem dX12_missPull_103 : decode cX12_missPull 103 = .ok (.iinc 6 1, 3) := by decide +kernel
theorem dX12_missPull_106 : decode cX12_missPull 106 = .ok (.goto (-44), 3) := by decide +kernel
theorem dX12_missPull_109 : decode cX12_missPull 109 = .ok (.iload 4, 2) := by decide +kernel
theorem dX12_missPull_111 : decode cX12_missPull 111 = .ok (.bipush 20, 2) := by decide +kernel
theorem dX12_missPull_113 : decode cX12_missPull 113 = .ok (.iload 5, 2) := by decide +kernel
theorem dX12_missPull_115 : decode cX12_missPull 115 = .ok (.imul, 1) := by decide +kernel
theorem dX12_missPull_116 : decode cX12_missPull 116 = .ok (.if_icmp .le 8, 3) := by decide +kernel
theorem dX12_missPull_119 : decode cX12_missPull 119 = .ok (.bipush 15, 2) := by decide +kernel
theorem dX12_missPull_121 : decode cX12_missPull 121 = .ok (.goto 4, 3) := by decide +kernel
theorem dX12_missPull_124 : decode cX12_missPull 124 = .ok (.iconst 0, 1) := by decide +kernel
theorem dX12_missPull_125 : decode cX12_missPull 125 = .ok (.ireturn, 1) := by decide +kernel
set_option maxRecDepth 100000 in
set_option maxHeartbeats 4000000 in
theorem w_X12_missPull_j103 {p : Program} {l : Launch} {e : Env} {R : Room} {s : State} {m : MethodId} {args : Array Value} {below : List Frame} {meth : Method} {c : Code} {dC : Nat → ClassId} {dI : Nat → Nat → Nat} {cs : Nat → ClassId} {ad : Nat → Nat} {A : Nat → Prop} {D0 : Nat → Nat} {S' : SS} {r : Int32} (F : Fx p s m args meth c cX12_missPull 7 RX12 (some .int) dC dI cs A) (hR1 : 0 ≤ R.frames) (hR2 : 0 ≤ R.locals) (K62 : Int32 → Int32 → Int32 → SS → Option (Int32 × SS)) (hK62 : ∀ (v0 : Int32) (v1 : Int32) (v2 : Int32) (S : SS), K62 v0 v1 v2 S = some (r, S') → AW p l e R s m args below meth c dC dI cs ad A D0 (some (.int r)) S' 7 62 [(0, .ref (ad 14)), (4, .int v0), (5, .int v1), (6, .int v2)] [] S) (x4 : Int32) (x5 : Int32) (x6 : Int32) (S : SS) (h : f_X12_missPull_j103 K62 x4 x5 x6 S = some (r, S')) : AW p l e R s m args below meth c dC dI cs ad A D0 (some (.int r)) S' 7 103 [(0, .ref (ad 14)), (4, .int x4), (5, .int x5), (6, .int x6)] [] S := by
  have hx := F.1.1
  have hb := F.1.2.1
  intro H locs ls w hl
  rw [f_X12_missPull_j103] at h
  refine s_nm h (fun z4 ez4 h => ?_)
  refine lv_iinc (pc := 103) (v := z4) (lv' := [(6, .int z4), (0, .ref (ad 14)), (4, .int x4), (5, .int x5)]) hx hb dX12_missPull_103 hl (k := 3) rfl (by rw [ez4]; rfl) (by decide) rfl (fun ls hl => ?_)
  refine lv_goto (pc := 106) (tgt := 62) hx hb dX12_missPull_106 (by decide) ?_
  exact hK62 _ _ _ _ h _ _ _ w (lv_sub hl [1, 2, 3, 0] rfl)
set_option maxRecDepth 100000 in
set_option maxHeartbeats 4000000 in
theorem w_X12_missPull_L62 {p : Program} {l : Launch} {e : Env} {R : Room} {s : State} {m : MethodId} {args : Array Value} {below : List Frame} {meth : Method} {c : Code} {dC : Nat → ClassId} {dI : Nat → Nat → Nat} {cs : Nat → ClassId} {ad : Nat → Nat} {A : Nat → Prop} {D0 : Nat → Nat} {S' : SS} {r : Int32} (F : Fx p s m args meth c cX12_missPull 7 RX12 (some .int) dC dI cs A) (hR1 : 2 ≤ R.frames) (hR2 : 45 ≤ R.locals) : ∀ (n : Nat) (x4 : Int32) (x5 : Int32) (x6 : Int32) (S : SS), f_X12_missPull_L62 n x4 x5 x6 S = some (r, S') → AW p l e R s m args below meth c dC dI cs ad A D0 (some (.int r)) S' 7 62 [(0, .ref (ad 14)), (4, .int x4), (5, .int x5), (6, .int x6)] [] S := by
  have hx := F.1.1
  have hb := F.1.2.1
  intro n
  induction n with
  | zero => intro x4 x5 x6 S h; cases h
  | succ n ih =>
    intro x4 x5 x6 S h H locs ls w hl
    rw [f_X12_missPull_L62] at h
    refine lv_iload (pc := 62) hx hb dX12_missPull_62 (lv_at hl 3 rfl) ?_
    refine lv_aload_n (pc := 64) hx hb dX12_missPull_64 rfl (lv_at hl 0 rfl) ?_
    refine s_getI (pc := 65) F w ds_14 (j := 56) vc_X12 vi_X12 rfl (by decide) kf_X12_319 dX12_missPull_65 ?_
    refine lv_icmp_ge (pc := 68) (tgt := 109) hx hb dX12_missPull_68 (by decide) (fun q => ?_) (fun q => ?_)
    · have h := ite_t q h
      refine lv_iload (pc := 109) hx hb dX12_missPull_109 (lv_at hl 1 rfl) ?_
      refine lv_bipush (pc := 111) (v := 20) hx hb dX12_missPull_111 (by decide) ?_
      refine lv_iload (pc := 113) hx hb dX12_missPull_113 (lv_at hl 2 rfl) ?_
      refine lv_imul (pc := 115) hx hb dX12_missPull_115 ?_
      refine lv_icmp_le (pc := 116) (tgt := 124) hx hb dX12_missPull_116 (by decide) (fun q => ?_) (fun q => ?_)
      · have h := ite_t q h
        refine lv_iconst (pc := 124) (v := 0) hx hb dX12_missPull_124 (by decide) ?_
        exact s_iret F w h dX12_missPull_125
      · have h := ite_f q h
        refine lv_bipush (pc := 119) (v := 15) hx hb dX12_missPull_119 (by decide) ?_
        refine lv_goto (pc := 121) (tgt := 125) hx hb dX12_missPull_121 (by decide) ?_
        exact s_iret F w h dX12_missPull_125
    · have h := ite_f q h
      refine lv_aload_n (pc := 71) hx hb dX12_missPull_71 rfl (lv_at hl 0 rfl) ?_
      refine s_getR (pc := 72) F w 85 ds_14 (j := 30) vc_X12 vi_X12 rfl (by decide) kf_X12_69 dX12_missPull_72 ?_
      refine lv_aload_n (pc := 75) hx hb dX12_missPull_75 rfl (lv_at hl 0 rfl) ?_
      refine s_getR (pc := 76) F w 106 ds_14 (j := 55) vc_X12 vi_X12 rfl (by decide) kf_X12_132 dX12_missPull_76 ?_
      refine lv_iload (pc := 79) hx hb dX12_missPull_79 (lv_at hl 3 rfl) ?_
      refine s_iald (pc := 81) F w ds_106 h dX12_missPull_81 (fun h => ?_)
      refine s_iald (pc := 82) F w ds_85 h dX12_missPull_82 (fun h => ?_)
      refine lv_iconst (pc := 83) (v := 5) hx hb dX12_missPull_83 (by decide) ?_
      refine lv_icmp_lt (pc := 84) (tgt := 103) hx hb dX12_missPull_84 (by decide) (fun q => ?_) (fun q => ?_)
      · have h := ite_t q h
        exact w_X12_missPull_j103 F (Nat.le_trans (by decide) hR1) (Nat.le_trans (by decide) hR2) _ (fun v0 v1 v2 S h => ih v0 v1 v2 S h) _ _ _ _ h _ _ _ w (lv_sub hl [0, 1, 2, 3] rfl)
      · have h := ite_f q h
        refine lv_iload (pc := 87) hx hb dX12_missPull_87 (lv_at hl 2 rfl) ?_
        refine lv_aload_n (pc := 89) hx hb dX12_missPull_89 rfl (lv_at hl 0 rfl) ?_
        refine lv_aload_n (pc := 90) hx hb dX12_missPull_90 rfl (lv_at hl 0 rfl) ?_
        refine s_getR (pc := 91) F w 106 ds_14 (j := 55) vc_X12 vi_X12 rfl (by decide) kf_X12_132 dX12_missPull_91 ?_
        refine lv_iload (pc := 94) hx hb dX12_missPull_94 (lv_at hl 3 rfl) ?_
        refine s_iald (pc := 96) F w ds_106 h dX12_missPull_96 (fun h => ?_)
        obtain ⟨r6, S5, hc, h⟩ := bnd_t h
        refine s_cvi (pc := 97) [.int (S.1 106 x6.toNatClampNeg)] (fun ad => [.ref (ad 14), .int (S.1 106 x6.toNatClampNeg)]) F w (m_X12_pulls _ _ _ _ hc) rfl rfl hl.1 ds_14 vc_X12 rfl ok_X12_pulls rfl kc_X12_pulls kl_X12_400 ki_X12_pulls kv_X12_pulls kn_X12 ⟨Nat.le_trans (by decide) hR1, Nat.le_trans (by decide) hR2⟩ ⟨Nat.zero_le _, Nat.zero_le _⟩ (Nat.le_of_ble_eq_true rfl) dX12_missPull_97 (fun H locs w => ?_)
        refine lv_iadd (pc := 100) hx hb dX12_missPull_100 ?_
        refine s_nm h (fun z7 ez7 h => ?_)
        rw [← ez7]
        refine lv_istore (pc := 101) (lv' := [(5, .int z7), (0, .ref (ad 14)), (4, .int x4), (6, .int x6)]) hx hb dX12_missPull_101 hl (by decide) rfl (fun ls hl => ?_)
        exact w_X12_missPull_j103 F (Nat.le_trans (by decide) hR1) (Nat.le_trans (by decide) hR2) _ (fun v0 v1 v2 S h => ih v0 v1 v2 S h) _ _ _ _ h _ _ _ w (lv_sub hl [1, 2, 0, 3] rfl)
set_option maxRecDepth 100000 in
set_option maxHeartbeats 4000000 in
theorem w_X12_missPull_L28 {p : Program} {l : Launch} {e : Env} {R : Room} {s : State} {m : MethodId} {args : Array Value} {below : List Frame} {meth : Method} {c : Code} {dC : Nat → ClassId} {dI : Nat → Nat → Nat} {cs : Nat → ClassId} {ad : Nat → Nat} {A : Nat → Prop} {D0 : Nat → Nat} {S' : SS} {r : Int32} (F : Fx p s m args meth c cX12_missPull 7 RX12 (some .int) dC dI cs A) (hR1 : 2 ≤ R.frames) (hR2 : 45 ≤ R.locals) : ∀ (n : Nat) (x4 : Int32) (x5 : Int32) (x6 : Int32) (S : SS), f_X12_missPull_L28 n x4 x5 x6 S = some (r, S') → AW p l e R s m args below meth c dC dI cs ad A D0 (some (.int r)) S' 7 28 [(0, .ref (ad 14)), (4, .int x4), (5, .int x5), (6, .int x6)] [] S := by
  have hx := F.1.1
  have hb := F.1.2.1
  intro n
  induction n with
  | zero => intro x4 x5 x6 S h; cases h
  | succ n ih =>
    intro x4 x5 x6 S h H locs ls w hl
    rw [f_X12_missPull_L28] at h
    refine lv_iload (pc := 28) hx hb dX12_missPull_28 (lv_at hl 3 rfl) ?_
    refine lv_aload_n (pc := 30) hx hb dX12_missPull_30 rfl (lv_at hl 0 rfl) ?_
    refine s_getI (pc := 31) F w ds_14 (j := 56) vc_X12 vi_X12 rfl (by decide) kf_X12_319 dX12_missPull_31 ?_
    refine lv_icmp_ge (pc := 34) (tgt := 59) hx hb dX12_missPull_34 (by decide) (fun q => ?_) (fun q => ?_)
    · have h := ite_t q h
      refine lv_iconst (pc := 59) (v := 0) hx hb dX12_missPull_59 (by decide) ?_
      refine lv_istore (pc := 60) (lv' := [(6, .int (0 : Int32)), (0, .ref (ad 14)), (4, .int x4), (5, .int x5)]) hx hb dX12_missPull_60 hl (by decide) rfl (fun ls hl => ?_)
      exact w_X12_missPull_L62 F (Nat.le_trans (by decide) hR1) (Nat.le_trans (by decide) hR2) _ _ _ _ _ h _ _ _ w (lv_sub hl [1, 2, 3, 0] rfl)
    · have h := ite_f q h
      refine lv_iload (pc := 37) hx hb dX12_missPull_37 (lv_at hl 1 rfl) ?_
      refine lv_aload_n (pc := 39) hx hb dX12_missPull_39 rfl (lv_at hl 0 rfl) ?_
      refine lv_aload_n (pc := 40) hx hb dX12_missPull_40 rfl (lv_at hl 0 rfl) ?_
      refine s_getR (pc := 41) F w 106 ds_14 (j := 55) vc_X12 vi_X12 rfl (by decide) kf_X12_132 dX12_missPull_41 ?_
      refine lv_iload (pc := 44) hx hb dX12_missPull_44 (lv_at hl 3 rfl) ?_
      refine s_iald (pc := 46) F w ds_106 h dX12_missPull_46 (fun h => ?_)
      obtain ⟨r9, S8, hc, h⟩ := bnd_t h
      refine s_cvi (pc := 47) [.int (S.1 106 x6.toNatClampNeg)] (fun ad => [.ref (ad 14), .int (S.1 106 x6.toNatClampNeg)]) F w (m_X12_weight _ _ _ _ hc) rfl rfl hl.1 ds_14 vc_X12 rfl ok_X12_weight rfl kc_X12_weight kl_X12_303 ki_X12_weight kv_X12_weight kn_X12 ⟨Nat.le_trans (by decide) hR1, Nat.le_trans (by decide) hR2⟩ ⟨Nat.zero_le _, Nat.zero_le _⟩ (Nat.le_of_ble_eq_true rfl) dX12_missPull_47 (fun H locs w => ?_)
      refine lv_iadd (pc := 50) hx hb dX12_missPull_50 ?_
      refine s_nm h (fun z10 ez10 h => ?_)
      rw [← ez10]
      refine lv_istore (pc := 51) (lv' := [(4, .int z10), (0, .ref (ad 14)), (5, .int x5), (6, .int x6)]) hx hb dX12_missPull_51 hl (by decide) rfl (fun ls hl => ?_)
      refine s_nm h (fun z11 ez11 h => ?_)
      refine lv_iinc (pc := 53) (v := z11) (lv' := [(6, .int z11), (4, .int z10), (0, .ref (ad 14)), (5, .int x5)]) hx hb dX12_missPull_53 hl (k := 3) rfl (by rw [ez11]; rfl) (by decide) rfl (fun ls hl => ?_)
      refine lv_goto (pc := 56) (tgt := 28) hx hb dX12_missPull_56 (by decide) ?_
      exact ih _ _ _ _ h _ _ _ w (lv_sub hl [2, 1, 3, 0] rfl)
set_option maxRecDepth 100000 in
set_option maxHeartbeats 4000000 in
theorem m_X12_missPull (a1 : Int32) (a2 : Int32) (S S' : SS) (r : Int32) (h : f_X12_missPull a1 a2 S = some (r, S')) : MT yX12_missPull cX12_missPull 7 (some .int) 3 69 (fun ad => [.ref (ad 14), .int a1, .int a2]) S (some (.int r)) S' := by
  refine MT.of RX12 (fun ad => [(0, .ref (ad 14)), (1, .int a1), (2, .int a2)]) (by decide) rfl (fun _ => Nat.le_of_ble_eq_true rfl) (fun _ => rfl) ?_
  intro p l e R s m args below meth c dC dI cs ad A hR1 hR2 F H locs ls w hl
  have hx := F.1.1
  have hb := F.1.2.1
  rw [f_X12_missPull] at h
  refine lv_aload_n (pc := 0) hx hb dX12_missPull_0 rfl (lv_at hl 0 rfl) ?_
  refine lv_iload_n (pc := 1) hx hb dX12_missPull_1 rfl (lv_at hl 1 rfl) ?_
  refine lv_iconst (pc := 2) (v := 2) hx hb dX12_missPull_2 (by decide) ?_
  refine lv_iload_n (pc := 3) hx hb dX12_missPull_3 rfl (lv_at hl 2 rfl) ?_
  obtain ⟨r2, S1, hc, h⟩ := bnd_t h
  refine s_cvi (pc := 4) [.int a1, .int (2 : Int32), .int a2] (fun ad => [.ref (ad 14), .int a1, .int (2 : Int32), .int a2]) F w (m_X12_missSide _ _ _ _ _ _ hc) rfl rfl hl.1 ds_14 vc_X12 rfl ok_X12_missSide rfl kc_X12_missSide kl_X12_364 ki_X12_missSide kv_X12_missSide kn_X12 ⟨Nat.le_trans (by decide) hR1, Nat.le_trans (by decide) hR2⟩ ⟨Nat.zero_le _, Nat.zero_le _⟩ (Nat.le_of_ble_eq_true rfl) dX12_missPull_4 (fun H locs w => ?_)
  refine lv_istore_n (pc := 7) (lv' := [(3, .int r2), (0, .ref (ad 14)), (1, .int a1), (2, .int a2)]) hx hb dX12_missPull_7 rfl hl (by decide) rfl (fun ls hl => ?_)
  refine lv_iload_n (pc := 8) hx hb dX12_missPull_8 rfl (lv_at hl 0 rfl) ?_
  refine lv_if_eq (pc := 9) (tgt := 14) hx hb dX12_missPull_9 (by decide) (fun q => ?_) (fun q => ?_)
  · have h := ite_t q h
    refine lv_aload_n (pc := 14) hx hb dX12_missPull_14 rfl (lv_at hl 1 rfl) ?_
    refine lv_iload_n (pc := 15) hx hb dX12_missPull_15 rfl (lv_at hl 2 rfl) ?_
    obtain ⟨S3, hc, h⟩ := bndv_t h
    refine s_cvv (pc := 16) [.int a1] (fun ad => [.ref (ad 14), .int a1]) F w (m_X12_lineUp _ _ _ hc) rfl rfl hl.1 ds_14 vc_X12 rfl ok_X12_lineUp rfl kc_X12_lineUp kl_X12_325 ki_X12_lineUp kv_X12_lineUp kn_X12 ⟨Nat.le_trans (by decide) hR1, Nat.le_trans (by decide) hR2⟩ ⟨Nat.zero_le _, Nat.zero_le _⟩ (Nat.le_of_ble_eq_true rfl) dX12_missPull_16 (fun H locs w => ?_)
    refine lv_iconst (pc := 19) (v := 0) hx hb dX12_missPull_19 (by decide) ?_
    refine lv_istore (pc := 20) (lv' := [(4, .int (0 : Int32)), (3, .int r2), (0, .ref (ad 14)), (1, .int a1), (2, .int a2)]) hx hb dX12_missPull_20 hl (by decide) rfl (fun ls hl => ?_)
    refine lv_iconst (pc := 22) (v := 0) hx hb dX12_missPull_22 (by decide) ?_
    refine lv_istore (pc := 23) (lv' := [(5, .int (0 : Int32)), (4, .int (0 : Int32)), (3, .int r2), (0, .ref (ad 14)), (1, .int a1), (2, .int a2)]) hx hb dX12_missPull_23 hl (by decide) rfl (fun ls hl => ?_)
    refine lv_iconst (pc := 25) (v := 0) hx hb dX12_missPull_25 (by decide) ?_
    refine lv_istore (pc := 26) (lv' := [(6, .int (0 : Int32)), (5, .int (0 : Int32)), (4, .int (0 : Int32)), (3, .int r2), (0, .ref (ad 14)), (1, .int a1), (2, .int a2)]) hx hb dX12_missPull_26 hl (by decide) rfl (fun ls hl => ?_)
    exact w_X12_missPull_L28 F (Nat.le_trans (by decide) hR1) (Nat.le_trans (by decide) hR2) _ _ _ _ _ h _ _ _ w (lv_sub hl [4, 2, 1, 0] rfl)
  · have h := ite_f q h
    refine lv_iload_n (pc := 12) hx hb dX12_missPull_12 rfl (lv_at hl 0 rfl) ?_
    exact s_iret F w h dX12_missPull_13
def f_X12_follow_L71  : Nat → Int32 → Int32 → SS → Option (SS)
  | 0, _, _, _ => none
  | n + 1, x3, x4, S =>
    grd (inb ((((2 : Int32) * x3) + (1 : Int32)) - x4) 144) (
    if (S.1 90 ((((2 : Int32) * x3) + (1 : Int32)) - x4).toNatClampNeg) = (-4 : Int32) then
      some S
    else
      grd (inb ((((2 : Int32) * x3) + (1 : Int32)) - x4) 144) (
      nm (S.1 90 ((((2 : Int32) * x3) + (1 : Int32)) - x4).toNatClampNeg) (fun z4 =>
      bnd (f_X12_sideTo z4 x3 S) (fun r6 S5 =>
      grd (inb (S5.1 14 70) 72) (wr S5 111 (S5.1 14 70).toNatClampNeg z4 (fun S7 =>
      grd (inb (S7.1 14 70) 72) (wr S7 112 (S7.1 14 70).toNatClampNeg r6 (fun S8 =>
      wr S8 14 70 ((S8.1 14 70) + (1 : Int32)) (fun S9 =>
      f_X12_follow_L71 n z4 r6 S9)))))))))
def f_X12_follow_L5  : Nat → Int32 → Int32 → SS → Option (SS)
  | 0, _, _, _ => none
  | n + 1, x3, x4, S =>
    grd (inb (((2 : Int32) * x3) + x4) 144) (
    if (S.1 90 (((2 : Int32) * x3) + x4).toNatClampNeg) = (-4 : Int32) then
      grd (inb (0 : Int32) 72) (wr S 111 (0 : Int32).toNatClampNeg x3 (fun S1 =>
      grd (inb (0 : Int32) 72) (wr S1 112 (0 : Int32).toNatClampNeg x4 (fun S2 =>
      wr S2 14 70 (1 : Int32) (fun S3 =>
      f_X12_follow_L71 NF x3 x4 S3)))))
    else
      grd (inb (((2 : Int32) * x3) + x4) 144) (
      nm (S.1 90 (((2 : Int32) * x3) + x4).toNatClampNeg) (fun z10 =>
      bnd (f_X12_sideTo z10 x3 S) (fun r12 S11 =>
      nm ((1 : Int32) - r12) (fun z13 =>
      f_X12_follow_L5 n z10 z13 S11)))))
def f_X12_follow (a1 : Int32) (a2 : Int32) (S : SS) : Option (SS) :=
  f_X12_follow_L5 NF a1 a2 S
theorem dX12_follow_0 : decode cX12_follow 0 = .ok (.iload_n 1, 1) := by decide +kernel
theorem dX12_follow_1 : decode cX12_follow 1 = .ok (.istore_n 3, 1) := by decide +kernel
theorem dX12_follow_2 : decode cX12_follow 2 = .ok (.iload_n 2, 1) := by decide +kernel
theorem dX12_follow_3 : decode cX12_follow 3 = .ok (.istore 4, 2) := by decide +kernel
theorem dX12_follow_5 : decode cX12_follow 5 = .ok (.aload_n 0, 1) := by decide +kernel
theorem dX12_follow_6 : decode cX12_follow 6 = .ok (.getfield 84, 3) := by decide +kernel
theorem dX12_follow_9 : decode cX12_follow 9 = .ok (.iconst 2, 1) := by decide +kernel
theorem dX12_follow_10 : decode cX12_follow 10 = .ok (.iload_n 3, 1) := by decide +kernel
theorem dX12_follow_11 : decode cX12_follow 11 = .ok (.imul, 1) := by decide +kernel
theorem dX12_follow_12 : decode cX12_follow 12 = .ok (.iload 4, 2) := by decide +kernel
theorem dX12_follow_14 : decode cX12_follow 14 = .ok (.iadd, 1) := by decide +kernel
theorem dX12_follow_15 : decode cX12_follow 15 = .ok (.iaload, 1) := by decide +kernel
theorem dX12_follow_16 : decode cX12_follow 16 = .ok (.bipush (-4), 2) := by decide +kernel
theorem dX12_follow_18 : decode cX12_follow 18 = .ok (.if_icmp .eq 33, 3) := by decide +kernel
theorem dX12_follow_21 : decode cX12_follow 21 = .ok (.aload_n 0, 1) := by decide +kernel
theorem dX12_follow_22 : decode cX12_follow 22 = .ok (.getfield 84, 3) := by decide +kernel
theorem dX12_follow_25 : decode cX12_follow 25 = .ok (.iconst 2, 1) := by decide +kernel
theorem dX12_follow_26 : decode cX12_follow 26 = .ok (.iload_n 3, 1) := by decide +kernel
theorem dX12_follow_27 : decode cX12_follow 27 = .ok (.imul, 1) := by decide +kernel
theorem dX12_follow_28 : decode cX12_follow 28 = .ok (.iload 4, 2) := by decide +kernel
theorem dX12_follow_30 : decode cX12_follow 30 = .ok (.iadd, 1) := by decide +kernel
theorem dX12_follow_31 : decode cX12_follow 31 = .ok (.iaload, 1) := by decide +kernel
theorem dX12_follow_32 : decode cX12_follow 32 = .ok (.istore 5, 2) := by decide +kernel
theorem dX12_follow_34 : decode cX12_follow 34 = .ok (.iconst 1, 1) := by decide +kernel
theorem dX12_follow_35 : decode cX12_follow 35 = .ok (.aload_n 0, 1) := by decide +kernel
theorem dX12_follow_36 : decode cX12_follow 36 = .ok (.iload 5, 2) := by decide +kernel
theorem dX12_follow_38 : decode cX12_follow 38 = .ok (.iload_n 3, 1) := by decide +kernel
theorem dX12_follow_39 : decode cX12_follow 39 = .ok (.invokevirtual 313, 3) := by decide +kernel
theorem dX12_follow_42 : decode cX12_follow 42 = .ok (.isub, 1) := by decide +kernel
theorem dX12_follow_43 : decode cX12_follow 43 = .ok (.istore 4, 2) := by decide +kernel
theorem dX12_follow_45 : decode cX12_follow 45 = .ok (.iload 5, 2) := by decide +kernel
theorem dX12_follow_47 : decode cX12_follow 47 = .ok (.istore_n 3, 1) := by decide +kernel
theorem dX12_follow_48 : decode cX12_follow 48 = .ok (.goto (-43), 3) := by decide +kernel
theorem dX12_follow_51 : decode cX12_follow 51 = .ok (.aload_n 0, 1) := by decide +kernel
theorem dX12_follow_52 : decode cX12_follow 52 = .ok (.getfield 147, 3) := by decide +kernel
theorem dX12_follow_55 : decode cX12_follow 55 = .ok (.iconst 0, 1) := by decide +kernel
theorem dX12_follow_56 : decode cX12_follow 56 = .ok (.iload_n 3, 1) := by decide +kernel
theorem dX12_follow_57 : decode cX12_follow 57 = .ok (.iastore, 1) := by decide +kernel
theorem dX12_follow_58 : decode cX12_follow 58 = .ok (.aload_n 0, 1) := by decide +kernel
theorem dX12_follow_59 : decode cX12_follow 59 = .ok (.getfield 150, 3) := by decide +kernel
theorem dX12_follow_62 : decode cX12_follow 62 = .ok (.iconst 0, 1) := by decide +kernel
theorem dX12_follow_63 : decode cX12_follow 63 = .ok (.iload 4, 2) := by decide +kernel
theorem dX12_follow_65 : decode cX12_follow 65 = .ok (.iastore, 1) := by decide +kernel
theorem dX12_follow_66 : decode cX12_follow 66 = .ok (.aload_n 0, 1) := by decide +kernel
theorem dX12_follow_67 : decode cX12_follow 67 = .ok (.iconst 1, 1) := by decide +kernel
theorem dX12_follow_68 : decode cX12_follow 68 = .ok (.putfield 393, 3) := by decide +kernel
theorem dX12_follow_71 : decode cX12_follow 71 = .ok (.aload_n 0, 1) := by decide +kernel
theorem dX12_follow_72 : decode cX12_follow 72 = .ok (.getfield 84, 3) := by decide +kernel
theorem dX12_follow_75 : decode cX12_follow 75 = .ok (.iconst 2, 1) := by decide +kernel
theorem dX12_follow_76 : decode cX12_follow 76 = .ok (.iload_n 3, 1) := by decide +kernel
theorem dX12_follow_77 : decode cX12_follow 77 = .ok (.imul, 1) := by decide +kernel
theorem dX12_follow_78 : decode cX12_follow 78 = .ok (.iconst 1, 1) := by decide +kernel
theorem dX12_follow_79 : decode cX12_follow 79 = .ok (.iadd, 1) := by decide +kernel
theorem dX12_follow_80 : decode cX12_follow 80 = .ok (.iload 4, 2) := by decide +kernel
theorem dX12_follow_82 : decode cX12_follow 82 = .ok (.isub, 1) := by decide +kernel
theorem dX12_follow_83 : decode cX12_follow 83 = .ok (.iaload, 1) := by decide +kernel
theorem dX12_follow_84 : decode cX12_follow 84 = .ok (.bipush (-4), 2) := by decide +kernel
theorem dX12_follow_86 : decode cX12_follow 86 = .ok (.if_icmp .eq 64, 3) := by decide +kernel
theorem dX12_follow_89 : decode cX12_follow 89 = .ok (.aload_n 0, 1) := by decide +kernel
theorem dX12_follow_90 : decode cX12_follow 90 = .ok (.getfield 84, 3) := by decide +kernel
theorem dX12_follow_93 : decode cX12_follow 93 = .ok (.iconst 2, 1) := by decide +kernel
theorem dX12_follow_94 : decode cX12_follow 94 = .ok (.iload_n 3, 1) := by decide +kernel
theorem dX12_follow_95 : decode cX12_follow 95 = .ok (.imul, 1) := by decide +kernel
theorem dX12_follow_96 : decode cX12_follow 96 = .ok (.iconst 1, 1) := by decide +kernel
theorem dX12_follow_97 : decode cX12_follow 97 = .ok (.iadd, 1) := by decide +kernel
theorem dX12_follow_98 : decode cX12_follow 98 = .ok (.iload 4, 2) := by decide +kernel
theorem dX12_follow_100 : decode cX12_follow 100 = .ok (.isub, 1) := by decide +kernel
theorem dX12_follow_101 : decode cX12_follow 101 = .ok (.iaload, 1) := by decide +kernel
theorem dX12_follow_102 : decode cX12_follow 102 = .ok (.istore 5, 2) := by decide +kernel
theorem dX12_follow_104 : decode cX12_follow 104 = .ok (.aload_n 0, 1) := by decide +kernel
theorem dX12_follow_105 : decode cX12_follow 105 = .ok (.iload 5, 2) := by decide +kernel
theorem dX12_follow_107 : decode cX12_follow 107 = .ok (.iload_n 3, 1) := by decide +kernel
theorem dX12_follow_108 : decode cX12_follow 108 = .ok (.invokevirtual 313, 3) := by decide +kernel
theorem dX12_follow_111 : decode cX12_follow 111 = .ok (.istore 4, 2) := by decide +kernel
theorem dX12_follow_113 : decode cX12_follow 113 = .ok (.iload 5, 2) := by decide +kernel
theorem dX12_follow_115 : decode cX12_follow 115 = .ok (.istore_n 3, 1) := by decide +kernel
theorem dX12_follow_116 : decode cX12_follow 116 = .ok (.aload_n 0, 1) := by decide +kernel
theorem dX12_follow_117 : decode cX12_follow 117 = .ok (.getfield 147, 3) := by decide +kernel
theorem dX12_follow_120 : decode cX12_follow 120 = .ok (.aload_n 0, 1) := by decide +kernel
theorem dX12_follow_121 : decode cX12_follow 121 = .ok (.getfield 393, 3) := by decide +kernel
theorem dX12_follow_124 : decode cX12_follow 124 = .ok (.iload_n 3, 1) := by decide +kernel
theorem dX12_follow_125 : decode cX12_follow 125 = .ok (.iastore, 1) := by decide +kernel
theorem dX12_follow_126 : decode cX12_follow 126 = .ok (.aload_n 0, 1) := by decide +kernel
theorem dX12_follow_127 : decode cX12_follow 127 = .ok (.getfield 150, 3) := by decide +kernel
theorem dX12_follow_130 : decode cX12_follow 130 = .ok (.aload_n 0, 1) := by decide +kernel
theorem dX12_follow_131 : decode cX12_follow 131 = .ok (.getfield 393, 3) := by decide +kernel
theorem dX12_follow_134 : decode cX12_follow 134 = .ok (.iload 4, 2) := by decide +kernel
theorem dX12_follow_136 : decode cX12_follow 136 = .ok (.iastore, 1) := by decide +kernel
theorem dX12_follow_137 : decode cX12_follow 137 = .ok (.aload_n 0, 1) := by decide +kernel
theorem dX12_follow_138 : decode cX12_follow 138 = .ok (.dup, 1) := by decide +kernel
theorem dX12_follow_139 : decode cX12_follow 139 = .ok (.getfield 393, 3) := by decide +kernel
theorem dX12_follow_142 : decode cX12_follow 142 = .ok (.iconst 1, 1) := by decide +kernel
theorem dX12_follow_143 : decode cX12_follow 143 = .ok (.iadd, 1) := by decide +kernel
theorem dX12_follow_144 : decode cX12_follow 144 = .ok (.putfield 393, 3) := by decide +kernel
theorem dX12_follow_147 : decode cX12_follow 147 = .ok (.goto (-76), 3) := by decide +kernel
theorem dX12_follow_150 : decode cX12_follow 150 = .ok (.return_, 1) := by decide +kernel
set_option maxRecDepth 100000 in
set_option maxHeartbeats 4000000 in
theorem w_X12_follow_L71 {p : Program} {l : Launch} {e : Env} {R : Room} {s : State} {m : MethodId} {args : Array Value} {below : List Frame} {meth : Method} {c : Code} {dC : Nat → ClassId} {dI : Nat → Nat → Nat} {cs : Nat → ClassId} {ad : Nat → Nat} {A : Nat → Prop} {D0 : Nat → Nat} {S' : SS} (F : Fx p s m args meth c cX12_follow 6 RX12 none dC dI cs A) (hR1 : 1 ≤ R.frames) (hR2 : 22 ≤ R.locals) : ∀ (n : Nat) (x3 : Int32) (x4 : Int32) (S : SS), f_X12_follow_L71 n x3 x4 S = some S' → AW p l e R s m args below meth c dC dI cs ad A D0 none S' 6 71 [(0, .ref (ad 14)), (3, .int x3), (4, .int x4)] [] S := by
  have hx := F.1.1
  have hb := F.1.2.1
  intro n
  induction n with
  | zero => intro x3 x4 S h; cases h
  | succ n ih =>
    intro x3 x4 S h H locs ls w hl
    rw [f_X12_follow_L71] at h
    refine lv_aload_n (pc := 71) hx hb dX12_follow_71 rfl (lv_at hl 0 rfl) ?_
    refine s_getR (pc := 72) F w 90 ds_14 (j := 35) vc_X12 vi_X12 rfl (by decide) kf_X12_84 dX12_follow_72 ?_
    refine lv_iconst (pc := 75) (v := 2) hx hb dX12_follow_75 (by decide) ?_
    refine lv_iload_n (pc := 76) hx hb dX12_follow_76 rfl (lv_at hl 1 rfl) ?_
    refine lv_imul (pc := 77) hx hb dX12_follow_77 ?_
    refine lv_iconst (pc := 78) (v := 1) hx hb dX12_follow_78 (by decide) ?_
    refine lv_iadd (pc := 79) hx hb dX12_follow_79 ?_
    refine lv_iload (pc := 80) hx hb dX12_follow_80 (lv_at hl 2 rfl) ?_
    refine lv_isub (pc := 82) hx hb dX12_follow_82 ?_
    refine s_iald (pc := 83) F w ds_90 h dX12_follow_83 (fun h => ?_)
    refine lv_bipush (pc := 84) (v := -4) hx hb dX12_follow_84 (by decide) ?_
    refine lv_icmp_eq (pc := 86) (tgt := 150) hx hb dX12_follow_86 (by decide) (fun q => ?_) (fun q => ?_)
    · have h := ite_t q h
      exact s_vret F w h dX12_follow_150
    · have h := ite_f q h
      refine lv_aload_n (pc := 89) hx hb dX12_follow_89 rfl (lv_at hl 0 rfl) ?_
      refine s_getR (pc := 90) F w 90 ds_14 (j := 35) vc_X12 vi_X12 rfl (by decide) kf_X12_84 dX12_follow_90 ?_
      refine lv_iconst (pc := 93) (v := 2) hx hb dX12_follow_93 (by decide) ?_
      refine lv_iload_n (pc := 94) hx hb dX12_follow_94 rfl (lv_at hl 1 rfl) ?_
      refine lv_imul (pc := 95) hx hb dX12_follow_95 ?_
      refine lv_iconst (pc := 96) (v := 1) hx hb dX12_follow_96 (by decide) ?_
      refine lv_iadd (pc := 97) hx hb dX12_follow_97 ?_
      refine lv_iload (pc := 98) hx hb dX12_follow_98 (lv_at hl 2 rfl) ?_
      refine lv_isub (pc := 100) hx hb dX12_follow_100 ?_
      refine s_iald (pc := 101) F w ds_90 h dX12_follow_101 (fun h => ?_)
      refine s_nm h (fun z4 ez4 h => ?_)
      rw [← ez4]
      refine lv_istore (pc := 102) (lv' := [(5, .int z4), (0, .ref (ad 14)), (3, .int x3), (4, .int x4)]) hx hb dX12_follow_102 hl (by decide) rfl (fun ls hl => ?_)
      refine lv_aload_n (pc := 104) hx hb dX12_follow_104 rfl (lv_at hl 1 rfl) ?_
      refine lv_iload (pc := 105) hx hb dX12_follow_105 (lv_at hl 0 rfl) ?_
      refine lv_iload_n (pc := 107) hx hb dX12_follow_107 rfl (lv_at hl 2 rfl) ?_
      obtain ⟨r6, S5, hc, h⟩ := bnd_t h
      refine s_cvi (pc := 108) [.int z4, .int x3] (fun ad => [.ref (ad 14), .int z4, .int x3]) F w (m_X12_sideTo _ _ _ _ _ hc) rfl rfl hl.1 ds_14 vc_X12 rfl ok_X12_sideTo rfl kc_X12_sideTo kl_X12_313 ki_X12_sideTo kv_X12_sideTo kn_X12 ⟨Nat.le_trans (by decide) hR1, Nat.le_trans (by decide) hR2⟩ ⟨Nat.zero_le _, Nat.zero_le _⟩ (Nat.le_of_ble_eq_true rfl) dX12_follow_108 (fun H locs w => ?_)
      refine lv_istore (pc := 111) (lv' := [(4, .int r6), (5, .int z4), (0, .ref (ad 14)), (3, .int x3)]) hx hb dX12_follow_111 hl (by decide) rfl (fun ls hl => ?_)
      refine lv_iload (pc := 113) hx hb dX12_follow_113 (lv_at hl 1 rfl) ?_
      refine lv_istore_n (pc := 115) (lv' := [(3, .int z4), (4, .int r6), (5, .int z4), (0, .ref (ad 14))]) hx hb dX12_follow_115 rfl hl (by decide) rfl (fun ls hl => ?_)
      refine lv_aload_n (pc := 116) hx hb dX12_follow_116 rfl (lv_at hl 3 rfl) ?_
      refine s_getR (pc := 117) F w 111 ds_14 (j := 68) vc_X12 vi_X12 rfl (by decide) kf_X12_147 dX12_follow_117 ?_
      refine lv_aload_n (pc := 120) hx hb dX12_follow_120 rfl (lv_at hl 3 rfl) ?_
      refine s_getI (pc := 121) F w ds_14 (j := 70) vc_X12 vi_X12 rfl (by decide) kf_X12_393 dX12_follow_121 ?_
      refine lv_iload_n (pc := 124) hx hb dX12_follow_124 rfl (lv_at hl 0 rfl) ?_
      refine s_iast (pc := 125) F w ds_111 h dX12_follow_125 (fun S7 H locs h w => ?_)
      refine lv_aload_n (pc := 126) hx hb dX12_follow_126 rfl (lv_at hl 3 rfl) ?_
      refine s_getR (pc := 127) F w 112 ds_14 (j := 69) vc_X12 vi_X12 rfl (by decide) kf_X12_150 dX12_follow_127 ?_
      refine lv_aload_n (pc := 130) hx hb dX12_follow_130 rfl (lv_at hl 3 rfl) ?_
      refine s_getI (pc := 131) F w ds_14 (j := 70) vc_X12 vi_X12 rfl (by decide) kf_X12_393 dX12_follow_131 ?_
      refine lv_iload (pc := 134) hx hb dX12_follow_134 (lv_at hl 1 rfl) ?_
      refine s_iast (pc := 136) F w ds_112 h dX12_follow_136 (fun S8 H locs h w => ?_)
      refine lv_aload_n (pc := 137) hx hb dX12_follow_137 rfl (lv_at hl 3 rfl) ?_
      refine lv_dup (pc := 138) hx hb dX12_follow_138 rfl ?_
      refine s_getI (pc := 139) F w ds_14 (j := 70) vc_X12 vi_X12 rfl (by decide) kf_X12_393 dX12_follow_139 ?_
      refine lv_iconst (pc := 142) (v := 1) hx hb dX12_follow_142 (by decide) ?_
      refine lv_iadd (pc := 143) hx hb dX12_follow_143 ?_
      refine s_putI (pc := 144) F w ds_14 vc_X12 vi_X12 tyX12_ok nmX12 (j := 70) rfl (by decide) kf_X12_393 rfl pd_I h dX12_follow_144 (fun S9 H locs h w => ?_)
      refine lv_goto (pc := 147) (tgt := 71) hx hb dX12_follow_147 (by decide) ?_
      exact ih _ _ _ h _ _ _ w (lv_sub hl [3, 0, 1] rfl)
set_option maxRecDepth 100000 in
set_option maxHeartbeats 4000000 in
theorem w_X12_follow_L5 {p : Program} {l : Launch} {e : Env} {R : Room} {s : State} {m : MethodId} {args : Array Value} {below : List Frame} {meth : Method} {c : Code} {dC : Nat → ClassId} {dI : Nat → Nat → Nat} {cs : Nat → ClassId} {ad : Nat → Nat} {A : Nat → Prop} {D0 : Nat → Nat} {S' : SS} (F : Fx p s m args meth c cX12_follow 6 RX12 none dC dI cs A) (hR1 : 1 ≤ R.frames) (hR2 : 22 ≤ R.locals) : ∀ (n : Nat) (x3 : Int32) (x4 : Int32) (S : SS), f_X12_follow_L5 n x3 x4 S = some S' → AW p l e R s m args below meth c dC dI cs ad A D0 none S' 6 5 [(0, .ref (ad 14)), (3, .int x3), (4, .int x4)] [] S := by
  have hx := F.1.1
  have hb := F.1.2.1
  intro n
  induction n with
  | zero => intro x3 x4 S h; cases h
  | succ n ih =>
    intro x3 x4 S h H locs ls w hl
    rw [f_X12_follow_L5] at h
    refine lv_aload_n (pc := 5) hx hb dX12_follow_5 rfl (lv_at hl 0 rfl) ?_
    refine s_getR (pc := 6) F w 90 ds_14 (j := 35) vc_X12 vi_X12 rfl (by decide) kf_X12_84 dX12_follow_6 ?_
    refine lv_iconst (pc := 9) (v := 2) hx hb dX12_follow_9 (by decide) ?_
    refine lv_iload_n (pc := 10) hx hb dX12_follow_10 rfl (lv_at hl 1 rfl) ?_
    refine lv_imul (pc := 11) hx hb dX12_follow_11 ?_
    refine lv_iload (pc := 12) hx hb dX12_follow_12 (lv_at hl 2 rfl) ?_
    refine lv_iadd (pc := 14) hx hb dX12_follow_14 ?_
    refine s_iald (pc := 15) F w ds_90 h dX12_follow_15 (fun h => ?_)
    refine lv_bipush (pc := 16) (v := -4) hx hb dX12_follow_16 (by decide) ?_
    refine lv_icmp_eq (pc := 18) (tgt := 51) hx hb dX12_follow_18 (by decide) (fun q => ?_) (fun q => ?_)
    · have h := ite_t q h
      refine lv_aload_n (pc := 51) hx hb dX12_follow_51 rfl (lv_at hl 0 rfl) ?_
      refine s_getR (pc := 52) F w 111 ds_14 (j := 68) vc_X12 vi_X12 rfl (by decide) kf_X12_147 dX12_follow_52 ?_
      refine lv_iconst (pc := 55) (v := 0) hx hb dX12_follow_55 (by decide) ?_
      refine lv_iload_n (pc := 56) hx hb dX12_follow_56 rfl (lv_at hl 1 rfl) ?_
      refine s_iast (pc := 57) F w ds_111 h dX12_follow_57 (fun S1 H locs h w => ?_)
      refine lv_aload_n (pc := 58) hx hb dX12_follow_58 rfl (lv_at hl 0 rfl) ?_
      refine s_getR (pc := 59) F w 112 ds_14 (j := 69) vc_X12 vi_X12 rfl (by decide) kf_X12_150 dX12_follow_59 ?_
      refine lv_iconst (pc := 62) (v := 0) hx hb dX12_follow_62 (by decide) ?_
      refine lv_iload (pc := 63) hx hb dX12_follow_63 (lv_at hl 2 rfl) ?_
      refine s_iast (pc := 65) F w ds_112 h dX12_follow_65 (fun S2 H locs h w => ?_)
      refine lv_aload_n (pc := 66) hx hb dX12_follow_66 rfl (lv_at hl 0 rfl) ?_
      refine lv_iconst (pc := 67) (v := 1) hx hb dX12_follow_67 (by decide) ?_
      refine s_putI (pc := 68) F w ds_14 vc_X12 vi_X12 tyX12_ok nmX12 (j := 70) rfl (by decide) kf_X12_393 rfl pd_I h dX12_follow_68 (fun S3 H locs h w => ?_)
      exact w_X12_follow_L71 F (Nat.le_trans (by decide) hR1) (Nat.le_trans (by decide) hR2) _ _ _ _ h _ _ _ w (lv_sub hl [0, 1, 2] rfl)
    · have h := ite_f q h
      refine lv_aload_n (pc := 21) hx hb dX12_follow_21 rfl (lv_at hl 0 rfl) ?_
      refine s_getR (pc := 22) F w 90 ds_14 (j := 35) vc_X12 vi_X12 rfl (by decide) kf_X12_84 dX12_follow_22 ?_
      refine lv_iconst (pc := 25) (v := 2) hx hb dX12_follow_25 (by decide) ?_
      refine lv_iload_n (pc := 26) hx hb dX12_follow_26 rfl (lv_at hl 1 rfl) ?_
      refine lv_imul (pc := 27) hx hb dX12_follow_27 ?_
      refine lv_iload (pc := 28) hx hb dX12_follow_28 (lv_at hl 2 rfl) ?_
      refine lv_iadd (pc := 30) hx hb dX12_follow_30 ?_
      refine s_iald (pc := 31) F w ds_90 h dX12_follow_31 (fun h => ?_)
      refine s_nm h (fun z10 ez10 h => ?_)
      rw [← ez10]
      refine lv_istore (pc := 32) (lv' := [(5, .int z10), (0, .ref (ad 14)), (3, .int x3), (4, .int x4)]) hx hb dX12_follow_32 hl (by decide) rfl (fun ls hl => ?_)
      refine lv_iconst (pc := 34) (v := 1) hx hb dX12_follow_34 (by decide) ?_
      refine lv_aload_n (pc := 35) hx hb dX12_follow_35 rfl (lv_at hl 1 rfl) ?_
      refine lv_iload (pc := 36) hx hb dX12_follow_36 (lv_at hl 0 rfl) ?_
      refine lv_iload_n (pc := 38) hx hb dX12_follow_38 rfl (lv_at hl 2 rfl) ?_
      obtain ⟨r12, S11, hc, h⟩ := bnd_t h
      refine s_cvi (pc := 39) [.int z10, .int x3] (fun ad => [.ref (ad 14), .int z10, .int x3]) F w (m_X12_sideTo _ _ _ _ _ hc) rfl rfl hl.1 ds_14 vc_X12 rfl ok_X12_sideTo rfl kc_X12_sideTo kl_X12_313 ki_X12_sideTo kv_X12_sideTo kn_X12 ⟨Nat.le_trans (by decide) hR1, Nat.le_trans (by decide) hR2⟩ ⟨Nat.zero_le _, Nat.zero_le _⟩ (Nat.le_of_ble_eq_true rfl) dX12_follow_39 (fun H locs w => ?_)
      refine lv_isub (pc := 42) hx hb dX12_follow_42 ?_
      refine s_nm h (fun z13 ez13 h => ?_)
      rw [← ez13]
      refine lv_istore (pc := 43) (lv' := [(4, .int z13), (5, .int z10), (0, .ref (ad 14)), (3, .int x3)]) hx hb dX12_follow_43 hl (by decide) rfl (fun ls hl => ?_)
      refine lv_iload (pc := 45) hx hb dX12_follow_45 (lv_at hl 1 rfl) ?_
      refine lv_istore_n (pc := 47) (lv' := [(3, .int z10), (4, .int z13), (5, .int z10), (0, .ref (ad 14))]) hx hb dX12_follow_47 rfl hl (by decide) rfl (fun ls hl => ?_)
      refine lv_goto (pc := 48) (tgt := 5) hx hb dX12_follow_48 (by decide) ?_
      exact ih _ _ _ h _ _ _ w (lv_sub hl [3, 0, 1] rfl)
set_option maxRecDepth 100000 in
set_option maxHeartbeats 4000000 in
theorem m_X12_follow (a1 : Int32) (a2 : Int32) (S S' : SS) (h : f_X12_follow a1 a2 S = some S') : MT yX12_follow cX12_follow 6 none 1 22 (fun ad => [.ref (ad 14), .int a1, .int a2]) S none S' := by
  refine MT.of RX12 (fun ad => [(0, .ref (ad 14)), (1, .int a1), (2, .int a2)]) (by decide) rfl (fun _ => Nat.le_of_ble_eq_true rfl) (fun _ => rfl) ?_
  intro p l e R s m args below meth c dC dI cs ad A hR1 hR2 F H locs ls w hl
  have hx := F.1.1
  have hb := F.1.2.1
  rw [f_X12_follow] at h
  refine lv_iload_n (pc := 0) hx hb dX12_follow_0 rfl (lv_at hl 1 rfl) ?_
  refine lv_istore_n (pc := 1) (lv' := [(3, .int a1), (0, .ref (ad 14)), (1, .int a1), (2, .int a2)]) hx hb dX12_follow_1 rfl hl (by decide) rfl (fun ls hl => ?_)
  refine lv_iload_n (pc := 2) hx hb dX12_follow_2 rfl (lv_at hl 3 rfl) ?_
  refine lv_istore (pc := 3) (lv' := [(4, .int a2), (3, .int a1), (0, .ref (ad 14)), (1, .int a1), (2, .int a2)]) hx hb dX12_follow_3 hl (by decide) rfl (fun ls hl => ?_)
  exact w_X12_follow_L5 F (Nat.le_trans (by decide) hR1) (Nat.le_trans (by decide) hR2) _ _ _ _ h _ _ _ w (lv_sub hl [2, 1, 0] rfl)
def f_X12_missStep_L62  : Nat → Int32 → SS → Option (Int32 × SS)
  | 0, _, _ => none
  | n + 1, x2, S =>
    if (S.1 14 70) ≤ x2 then
      some ((0 : Int32), S)
    else
      grd (inb x2 72) (
      grd (inb (S.1 111 x2.toNatClampNeg) 72) (
      if (S.1 93 (S.1 111 x2.toNatClampNeg).toNatClampNeg) = (1 : Int32) then
        grd (inb x2 72) (
        bnd (f_X12_raised (S.1 111 x2.toNatClampNeg) S) (fun r10 S9 =>
        some (r10, S9)))
      else
        nm (x2 + (1 : Int32)) (fun z8 =>
        f_X12_missStep_L62 n z8 S)))
def f_X12_missStep  (S : SS) : Option (Int32 × SS) :=
  grd (inb (0 : Int32) 72) (
  nm (S.1 111 (0 : Int32).toNatClampNeg) (fun z1 =>
  grd (inb z1 72) (
  grd (inb z1 72) (
  grd (inb (0 : Int32) 72) (
  bnd (f_X12_wayOf z1 (S.1 112 (0 : Int32).toNatClampNeg) S) (fun r3 S2 =>
  bnd (f_X12_isOpen (S.1 87 z1.toNatClampNeg) (S.1 88 z1.toNatClampNeg) r3 S2) (fun r5 S4 =>
  if r5 = 0 then
    some ((10 : Int32), S4)
  else
    bnd (f_X12_standing (S4.1 14 26) (S4.1 14 27) S4) (fun r7 S6 =>
    if r7 = (-4 : Int32) then
      f_X12_missStep_L62 NF (0 : Int32) S6
    else
      some ((9 : Int32), S6)))))))))
theorem dX12_missStep_0 : decode cX12_missStep 0 = .ok (.aload_n 0, 1) := by decide +kernel
theorem dX12_missStep_1 : decode cX12_missStep 1 = .ok (.getfield 147, 3) := by decide +kernel
theorem dX12_missStep_4 : decode cX12_missStep 4 = .ok (.iconst 0, 1) := by decide +kernel
theorem dX12_missStep_5 : decode cX12_missStep 5 = .ok (.iaload, 1) := by decide +kernel
theorem dX12_missStep_6 : decode cX12_missStep 6 = .ok (.istore_n 1, 1) := by decide +kernel
theorem dX12_missStep_7 : decode cX12_missStep 7 = .ok (.aload_n 0, 1) := by decide +kernel
theorem dX12_missStep_8 : decode cX12_missStep 8 = .ok (.aload_n 0, 1) := by decide +kernel
theorem dX12_missStep_9 : decode cX12_missStep 9 = .ok (.getfield 75, 3) := by decide +kernel
theorem dX12_missStep_12 : decode cX12_missStep 12 = .ok (.iload_n 1, 1) := by decide +kernel
theorem dX12_missStep_13 : decode cX12_missStep 13 = .ok (.iaload, 1) := by decide +kernel
theorem dX12_missStep_14 : decode cX12_missStep 14 = .ok (.aload_n 0, 1) := by decide +kernel
theorem dX12_missStep_15 : decode cX12_missStep 15 = .ok (.getfield 78, 3) := by decide +kernel
theorem dX12_missStep_18 : decode cX12_missStep 18 = .ok (.iload_n 1, 1) := by decide +kernel
theorem dX12_missStep_19 : decode cX12_missStep 19 = .ok (.iaload, 1) := by decide +kernel
theorem dX12_missStep_20 : decode cX12_missStep 20 = .ok (.aload_n 0, 1) := by decide +kernel
theorem dX12_missStep_21 : decode cX12_missStep 21 = .ok (.iload_n 1, 1) := by decide +kernel
theorem dX12_missStep_22 : decode cX12_missStep 22 = .ok (.aload_n 0, 1) := by decide +kernel
theorem dX12_missStep_23 : decode cX12_missStep 23 = .ok (.getfield 150, 3) := by decide +kernel
theorem dX12_missStep_26 : decode cX12_missStep 26 = .ok (.iconst 0, 1) := by decide +kernel
theorem dX12_missStep_27 : decode cX12_missStep 27 = .ok (.iaload, 1) := by decide +kernel
theorem dX12_missStep_28 : decode cX12_missStep 28 = .ok (.invokevirtual 368, 3) := by decide +kernel
theorem dX12_missStep_31 : decode cX12_missStep 31 = .ok (.invokevirtual 371, 3) := by decide +kernel
theorem dX12_missStep_34 : decode cX12_missStep 34 = .ok (.ifCond .ne 6, 3) := by decide +kernel
theorem dX12_missStep_37 : decode cX12_missStep 37 = .ok (.bipush 10, 2) := by decide +kernel
theorem dX12_missStep_39 : decode cX12_missStep 39 = .ok (.ireturn, 1) := by decide +kernel
theorem dX12_missStep_40 : decode cX12_missStep 40 = .ok (.aload_n 0, 1) := by decide +kernel
theorem dX12_missStep_41 : decode cX12_missStep 41 = .ok (.aload_n 0, 1) := by decide +kernel
theorem dX12_missStep_42 : decode cX12_missStep 42 = .ok (.getfield 245, 3) := by decide +kernel
theorem dX12_missStep_45 : decode cX12_missStep 45 = .ok (.aload_n 0, 1) := by decide +kernel
theorem dX12_missStep_46 : decode cX12_missStep 46 = .ok (.getfield 248, 3) := by decide +kernel
theorem dX12_missStep_49 : decode cX12_missStep 49 = .ok (.invokevirtual 279, 3) := by decide +kernel
theorem dX12_missStep_52 : decode cX12_missStep 52 = .ok (.bipush (-4), 2) := by decide +kernel
theorem dX12_missStep_54 : decode cX12_missStep 54 = .ok (.if_icmp .eq 6, 3) := by decide +kernel
theorem dX12_missStep_57 : decode cX12_missStep 57 = .ok (.bipush 9, 2) := by decide +kernel
theorem dX12_missStep_59 : decode cX12_missStep 59 = .ok (.ireturn, 1) := by decide +kernel
theorem dX12_missStep_60 : decode cX12_missStep 60 = .ok (.iconst 0, 1) := by decide +kernel
theorem dX12_missStep_61 : decode cX12_missStep 61 = .ok (.istore_n 2, 1) := by decide +kernel
theorem dX12_missStep_62 : decode cX12_missStep 62 = .ok (.iload_n 2, 1) := by decide +kernel
theorem dX12_missStep_63 : decode cX12_missStep 63 = .ok (.aload_n 0, 1) := by decide +kernel
theorem dX12_missStep_64 : decode cX12_missStep 64 = .ok (.getfield 393, 3) := by decide +kernel
theorem dX12_missStep_67 : decode cX12_missStep 67 = .ok (.if_icmp .ge 35, 3) := by decide +kernel
theorem dX12_missStep_70 : decode cX12_missStep 70 = .ok (.aload_n 0, 1) := by decide +kernel
theorem dX12_missStep_71 : decode cX12_missStep 71 = .ok (.getfield 93, 3) := by decide +kernel
theorem dX12_missStep_74 : decode cX12_missStep 74 = .ok (.aload_n 0, 1) := by decide +kernel
theorem dX12_missStep_75 : decode cX12_missStep 75 = .ok (.getfield 147, 3) := by decide +kernel
theorem dX12_missStep_78 : decode cX12_missStep 78 = .ok (.iload_n 2, 1) := by decide +kernel
theorem dX12_missStep_79 : decode cX12_missStep 79 = .ok (.iaload, 1) := by decide +kernel
theorem dX12_missStep_80 : decode cX12_missStep 80 = .ok (.iaload, 1) := by decide +kernel
theorem dX12_missStep_81 : decode cX12_missStep 81 = .ok (.iconst 1, 1) := by decide +kernel
theorem dX12_missStep_82 : decode cX12_missStep 82 = .ok (.if_icmp .ne 14, 3) := by decide +kernel
theorem dX12_missStep_85 : decode cX12_missStep 85 = .ok (.aload_n 0, 1) := by decide +kernel
theorem dX12_missStep_86 : decode cX12_missStep 86 = .ok (.aload_n 0, 1) := by decide +kernel
theorem dX12_missStep_87 : decode cX12_missStep 87 = .ok (.getfield 147, 3) := by decide +kernel
theorem dX12_missStep_90 : decode cX12_missStep 90 = .ok (.iload_n 2, 1) := by decide +kernel
theorem dX12_missStep_91 : decode cX12_missStep 91 = .ok (.iaload, 1) := by decide +kernel
theorem dX12_missStep_92 : decode cX12_missStep 92 = .ok (.invokevirtual 352, 3) := by decide +kernel
theorem dX12_missStep_95 : decode cX12_missStep 95 = .ok (.ireturn, 1) := by decide +kernel
theorem dX12_missStep_96 : decode cX12_missStep 96 = .ok (.iinc 2 1, 3) := by decide +kernel
theorem dX12_missStep_99 : decode cX12_missStep 99 = .ok (.goto (-37), 3) := by decide +kernel
theorem dX12_missStep_102 : decode cX12_missStep 102 = .ok (.iconst 0, 1) := by decide +kernel
theorem dX12_missStep_103 : decode cX12_missStep 103 = .ok (.ireturn, 1) := by decide +kernel
set_option maxRecDepth 100000 in
set_option maxHeartbeats 4000000 in
theorem w_X12_missStep_L62 {p : Program} {l : Launch} {e : Env} {R : Room} {s : State} {m : MethodId} {args : Array Value} {below : List Frame} {meth : Method} {c : Code} {dC : Nat → ClassId} {dI : Nat → Nat → Nat} {cs : Nat → ClassId} {ad : Nat → Nat} {A : Nat → Prop} {D0 : Nat → Nat} {S' : SS} {r : Int32} (F : Fx p s m args meth c cX12_missStep 3 RX12 (some .int) dC dI cs A) (hR1 : 1 ≤ R.frames) (hR2 : 21 ≤ R.locals) : ∀ (n : Nat) (x2 : Int32) (S : SS), f_X12_missStep_L62 n x2 S = some (r, S') → AW p l e R s m args below meth c dC dI cs ad A D0 (some (.int r)) S' 3 62 [(0, .ref (ad 14)), (2, .int x2)] [] S := by
  have hx := F.1.1
  have hb := F.1.2.1
  intro n
  induction n with
  | zero => intro x2 S h; cases h
  | succ n ih =>
    intro x2 S h H locs ls w hl
    rw [f_X12_missStep_L62] at h
    refine lv_iload_n (pc := 62) hx hb dX12_missStep_62 rfl (lv_at hl 1 rfl) ?_
    refine lv_aload_n (pc := 63) hx hb dX12_missStep_63 rfl (lv_at hl 0 rfl) ?_
    refine s_getI (pc := 64) F w ds_14 (j := 70) vc_X12 vi_X12 rfl (by decide) kf_X12_393 dX12_missStep_64 ?_
    refine lv_icmp_ge (pc := 67) (tgt := 102) hx hb dX12_missStep_67 (by decide) (fun q => ?_) (fun q => ?_)
    · have h := ite_t q h
      refine lv_iconst (pc := 102) (v := 0) hx hb dX12_missStep_102 (by decide) ?_
      exact s_iret F w h dX12_missStep_103
    · have h := ite_f q h
      refine lv_aload_n (pc := 70) hx hb dX12_missStep_70 rfl (lv_at hl 0 rfl) ?_
      refine s_getR (pc := 71) F w 93 ds_14 (j := 38) vc_X12 vi_X12 rfl (by decide) kf_X12_93 dX12_missStep_71 ?_
      refine lv_aload_n (pc := 74) hx hb dX12_missStep_74 rfl (lv_at hl 0 rfl) ?_
      refine s_getR (pc := 75) F w 111 ds_14 (j := 68) vc_X12 vi_X12 rfl (by decide) kf_X12_147 dX12_missStep_75 ?_
      refine lv_iload_n (pc := 78) hx hb dX12_missStep_78 rfl (lv_at hl 1 rfl) ?_
      refine s_iald (pc := 79) F w ds_111 h dX12_missStep_79 (fun h => ?_)
      refine s_iald (pc := 80) F w ds_93 h dX12_missStep_80 (fun h => ?_)
      refine lv_iconst (pc := 81) (v := 1) hx hb dX12_missStep_81 (by decide) ?_
      refine lv_icmp_ne (pc := 82) (tgt := 96) hx hb dX12_missStep_82 (by decide) (fun q => ?_) (fun q => ?_)
      · have h := ite_f q h
        refine s_nm h (fun z8 ez8 h => ?_)
        refine lv_iinc (pc := 96) (v := z8) (lv' := [(2, .int z8), (0, .ref (ad 14))]) hx hb dX12_missStep_96 hl (k := 1) rfl (by rw [ez8]; rfl) (by decide) rfl (fun ls hl => ?_)
        refine lv_goto (pc := 99) (tgt := 62) hx hb dX12_missStep_99 (by decide) ?_
        exact ih _ _ h _ _ _ w (lv_sub hl [1, 0] rfl)
      · have h := ite_t q h
        refine lv_aload_n (pc := 85) hx hb dX12_missStep_85 rfl (lv_at hl 0 rfl) ?_
        refine lv_aload_n (pc := 86) hx hb dX12_missStep_86 rfl (lv_at hl 0 rfl) ?_
        refine s_getR (pc := 87) F w 111 ds_14 (j := 68) vc_X12 vi_X12 rfl (by decide) kf_X12_147 dX12_missStep_87 ?_
        refine lv_iload_n (pc := 90) hx hb dX12_missStep_90 rfl (lv_at hl 1 rfl) ?_
        refine s_iald (pc := 91) F w ds_111 h dX12_missStep_91 (fun h => ?_)
        obtain ⟨r10, S9, hc, h⟩ := bnd_t h
        refine s_cvi (pc := 92) [.int (S.1 111 x2.toNatClampNeg)] (fun ad => [.ref (ad 14), .int (S.1 111 x2.toNatClampNeg)]) F w (m_X12_raised _ _ _ _ hc) rfl rfl hl.1 ds_14 vc_X12 rfl ok_X12_raised rfl kc_X12_raised kl_X12_352 ki_X12_raised kv_X12_raised kn_X12 ⟨Nat.le_trans (by decide) hR1, Nat.le_trans (by decide) hR2⟩ ⟨Nat.zero_le _, Nat.zero_le _⟩ (Nat.le_of_ble_eq_true rfl) dX12_missStep_92 (fun H locs w => ?_)
        exact s_iret F w h dX12_missStep_95
set_option maxRecDepth 100000 in
set_option maxHeartbeats 4000000 in
theorem m_X12_missStep  (S S' : SS) (r : Int32) (h : f_X12_missStep  S = some (r, S')) : MT yX12_missStep cX12_missStep 3 (some .int) 2 50 (fun ad => [.ref (ad 14)]) S (some (.int r)) S' := by
  refine MT.of RX12 (fun ad => [(0, .ref (ad 14))]) (by decide) rfl (fun _ => Nat.le_of_ble_eq_true rfl) (fun _ => rfl) ?_
  intro p l e R s m args below meth c dC dI cs ad A hR1 hR2 F H locs ls w hl
  have hx := F.1.1
  have hb := F.1.2.1
  rw [f_X12_missStep] at h
  refine lv_aload_n (pc := 0) hx hb dX12_missStep_0 rfl (lv_at hl 0 rfl) ?_
  refine s_getR (pc := 1) F w 111 ds_14 (j := 68) vc_X12 vi_X12 rfl (by decide) kf_X12_147 dX12_missStep_1 ?_
  refine lv_iconst (pc := 4) (v := 0) hx hb dX12_missStep_4 (by decide) ?_
  refine s_iald (pc := 5) F w ds_111 h dX12_missStep_5 (fun h => ?_)
  refine s_nm h (fun z1 ez1 h => ?_)
  rw [← ez1]
  refine lv_istore_n (pc := 6) (lv' := [(1, .int z1), (0, .ref (ad 14))]) hx hb dX12_missStep_6 rfl hl (by decide) rfl (fun ls hl => ?_)
  refine lv_aload_n (pc := 7) hx hb dX12_missStep_7 rfl (lv_at hl 1 rfl) ?_
  refine lv_aload_n (pc := 8) hx hb dX12_missStep_8 rfl (lv_at hl 1 rfl) ?_
  refine s_getR (pc := 9) F w 87 ds_14 (j := 32) vc_X12 vi_X12 rfl (by decide) kf_X12_75 dX12_missStep_9 ?_
  refine lv_iload_n (pc := 12) hx hb dX12_missStep_12 rfl (lv_at hl 0 rfl) ?_
  refine s_iald (pc := 13) F w ds_87 h dX12_missStep_13 (fun h => ?_)
  refine lv_aload_n (pc := 14) hx hb dX12_missStep_14 rfl (lv_at hl 1 rfl) ?_
  refine s_getR (pc := 15) F w 88 ds_14 (j := 33) vc_X12 vi_X12 rfl (by decide) kf_X12_78 dX12_missStep_15 ?_
  refine lv_iload_n (pc := 18) hx hb dX12_missStep_18 rfl (lv_at hl 0 rfl) ?_
  refine s_iald (pc := 19) F w ds_88 h dX12_missStep_19 (fun h => ?_)
  refine lv_aload_n (pc := 20) hx hb dX12_missStep_20 rfl (lv_at hl 1 rfl) ?_
  refine lv_iload_n (pc := 21) hx hb dX12_missStep_21 rfl (lv_at hl 0 rfl) ?_
  refine lv_aload_n (pc := 22) hx hb dX12_missStep_22 rfl (lv_at hl 1 rfl) ?_
  refine s_getR (pc := 23) F w 112 ds_14 (j := 69) vc_X12 vi_X12 rfl (by decide) kf_X12_150 dX12_missStep_23 ?_
  refine lv_iconst (pc := 26) (v := 0) hx hb dX12_missStep_26 (by decide) ?_
  refine s_iald (pc := 27) F w ds_112 h dX12_missStep_27 (fun h => ?_)
  obtain ⟨r3, S2, hc, h⟩ := bnd_t h
  refine s_cvi (pc := 28) [.int z1, .int (S.1 112 (0 : Int32).toNatClampNeg)] (fun ad => [.ref (ad 14), .int z1, .int (S.1 112 (0 : Int32).toNatClampNeg)]) F w (m_X12_wayOf _ _ _ _ _ hc) rfl rfl hl.1 ds_14 vc_X12 rfl ok_X12_wayOf rfl kc_X12_wayOf kl_X12_368 ki_X12_wayOf kv_X12_wayOf kn_X12 ⟨Nat.le_trans (by decide) hR1, Nat.le_trans (by decide) hR2⟩ ⟨Nat.zero_le _, Nat.zero_le _⟩ (Nat.le_of_ble_eq_true rfl) dX12_missStep_28 (fun H locs w => ?_)
  obtain ⟨r5, S4, hc, h⟩ := bnd_t h
  refine s_cvi (pc := 31) [.int (S.1 87 z1.toNatClampNeg), .int (S.1 88 z1.toNatClampNeg), .int r3] (fun ad => [.ref (ad 14), .int (S.1 87 z1.toNatClampNeg), .int (S.1 88 z1.toNatClampNeg), .int r3]) F w (m_X12_isOpen _ _ _ _ _ _ hc) rfl rfl hl.1 ds_14 vc_X12 rfl ok_X12_isOpen rfl kc_X12_isOpen kl_X12_371 ki_X12_isOpen kv_X12_isOpen kn_X12 ⟨Nat.le_trans (by decide) hR1, Nat.le_trans (by decide) hR2⟩ ⟨Nat.zero_le _, Nat.zero_le _⟩ (Nat.le_of_ble_eq_true rfl) dX12_missStep_31 (fun H locs w => ?_)
  refine lv_if_ne (pc := 34) (tgt := 40) hx hb dX12_missStep_34 (by decide) (fun q => ?_) (fun q => ?_)
  · have h := ite_f q h
    refine lv_aload_n (pc := 40) hx hb dX12_missStep_40 rfl (lv_at hl 1 rfl) ?_
    refine lv_aload_n (pc := 41) hx hb dX12_missStep_41 rfl (lv_at hl 1 rfl) ?_
    refine s_getI (pc := 42) F w ds_14 (j := 26) vc_X12 vi_X12 rfl (by decide) kf_X12_245 dX12_missStep_42 ?_
    refine lv_aload_n (pc := 45) hx hb dX12_missStep_45 rfl (lv_at hl 1 rfl) ?_
    refine s_getI (pc := 46) F w ds_14 (j := 27) vc_X12 vi_X12 rfl (by decide) kf_X12_248 dX12_missStep_46 ?_
    obtain ⟨r7, S6, hc, h⟩ := bnd_t h
    refine s_cvi (pc := 49) [.int (S4.1 14 26), .int (S4.1 14 27)] (fun ad => [.ref (ad 14), .int (S4.1 14 26), .int (S4.1 14 27)]) F w (m_X12_standing _ _ _ _ _ hc) rfl rfl hl.1 ds_14 vc_X12 rfl ok_X12_standing rfl kc_X12_standing kl_X12_279 ki_X12_standing kv_X12_standing kn_X12 ⟨Nat.le_trans (by decide) hR1, Nat.le_trans (by decide) hR2⟩ ⟨Nat.zero_le _, Nat.zero_le _⟩ (Nat.le_of_ble_eq_true rfl) dX12_missStep_49 (fun H locs w => ?_)
    refine lv_bipush (pc := 52) (v := -4) hx hb dX12_missStep_52 (by decide) ?_
    refine lv_icmp_eq (pc := 54) (tgt := 60) hx hb dX12_missStep_54 (by decide) (fun q => ?_) (fun q => ?_)
    · have h := ite_t q h
      refine lv_iconst (pc := 60) (v := 0) hx hb dX12_missStep_60 (by decide) ?_
      refine lv_istore_n (pc := 61) (lv' := [(2, .int (0 : Int32)), (1, .int z1), (0, .ref (ad 14))]) hx hb dX12_missStep_61 rfl hl (by decide) rfl (fun ls hl => ?_)
      exact w_X12_missStep_L62 F (Nat.le_trans (by decide) hR1) (Nat.le_trans (by decide) hR2) _ _ _ h _ _ _ w (lv_sub hl [2, 0] rfl)
    · have h := ite_f q h
      refine lv_bipush (pc := 57) (v := 9) hx hb dX12_missStep_57 (by decide) ?_
      exact s_iret F w h dX12_missStep_59
  · have h := ite_t q h
    refine lv_bipush (pc := 37) (v := 10) hx hb dX12_missStep_37 (by decide) ?_
    exact s_iret F w h dX12_missStep_39
def f_X12_place (a1 : Int32) (a2 : Int32) (a3 : Int32) (a4 : Int32) (a5 : Int32) (S : SS) : Option (SS) :=
  grd (inb a1 72) (wr S 87 a1.toNatClampNeg a2 (fun S1 =>
  grd (inb a1 72) (wr S1 88 a1.toNatClampNeg a3 (fun S2 =>
  if a4 = 0 then
    grd (inb a1 72) (wr S2 89 a1.toNatClampNeg a5 (fun S4 =>
    some S4))
  else
    grd (inb a1 72) (wr S2 89 a1.toNatClampNeg ((1 : Int32) - a5) (fun S3 =>
    some S3))))))
theorem dX12_place_0 : decode cX12_place 0 = .ok (.aload_n 0, 1) := by decide +kernel
theorem dX12_place_1 : decode cX12_place 1 = .ok (.getfield 75, 3) := by decide +kernel
theorem dX12_place_4 : decode cX12_place 4 = .ok (.iload_n 1, 1) := by decide +kernel
theorem dX12_place_5 : decode cX12_place 5 = .ok (.iload_n 2, 1) := by decide +kernel
theorem dX12_place_6 : decode cX12_place 6 = .ok (.iastore, 1) := by decide +kernel
theorem dX12_place_7 : decode cX12_place 7 = .ok (.aload_n 0, 1) := by decide +kernel
theorem dX12_place_8 : decode cX12_place 8 = .ok (.getfield 78, 3) := by decide +kernel
theorem dX12_place_11 : decode cX12_place 11 = .ok (.iload_n 1, 1) := by decide +kernel
theorem dX12_place_12 : decode cX12_place 12 = .ok (.iload_n 3, 1) := by decide +kernel
theorem dX12_place_13 : decode cX12_place 13 = .ok (.iastore, 1) := by decide +kernel
theorem dX12_place_14 : decode cX12_place 14 = .ok (.aload_n 0, 1) := by decide +kernel
theorem dX12_place_15 : decode cX12_place 15 = .ok (.getfield 81, 3) := by decide +kernel
theorem dX12_place_18 : decode cX12_place 18 = .ok (.iload_n 1, 1) := by decide +kernel
theorem dX12_place_19 : decode cX12_place 19 = .ok (.iload 4, 2) := by decide +kernel
theorem dX12_place_21 : decode cX12_place 21 = .ok (.ifCond .ne 8, 3) := by decide +kernel
theorem dX12_place_24 : decode cX12_place 24 = .ok (.iload 5, 2) := by decide +kernel
theorem dX12_place_26 : decode cX12_place 26 = .ok (.goto 7, 3) := by decide +kernel
theorem dX12_place_29 : decode cX12_place 29 = .ok (.iconst 1, 1) := by decide +kernel
theorem dX12_place_30 : decode cX12_place 30 = .ok (.iload 5, 2) := by decide +kernel
theorem dX12_place_32 : decode cX12_place 32 = .ok (.isub, 1) := by decide +kernel
theorem dX12_place_33 : decode cX12_place 33 = .ok (.iastore, 1) := by decide +kernel
theorem dX12_place_34 : decode cX12_place 34 = .ok (.return_, 1) := by decide +kernel
set_option maxRecDepth 100000 in
set_option maxHeartbeats 4000000 in
theorem m_X12_place (a1 : Int32) (a2 : Int32) (a3 : Int32) (a4 : Int32) (a5 : Int32) (S S' : SS) (h : f_X12_place a1 a2 a3 a4 a5 S = some S') : MT yX12_place cX12_place 6 none 0 0 (fun ad => [.ref (ad 14), .int a1, .int a2, .int a3, .int a4, .int a5]) S none S' := by
  refine MT.of RX12 (fun ad => [(0, .ref (ad 14)), (1, .int a1), (2, .int a2), (3, .int a3), (4, .int a4), (5, .int a5)]) (by decide) rfl (fun _ => Nat.le_of_ble_eq_true rfl) (fun _ => rfl) ?_
  intro p l e R s m args below meth c dC dI cs ad A hR1 hR2 F H locs ls w hl
  have hx := F.1.1
  have hb := F.1.2.1
  rw [f_X12_place] at h
  refine lv_aload_n (pc := 0) hx hb dX12_place_0 rfl (lv_at hl 0 rfl) ?_
  refine s_getR (pc := 1) F w 87 ds_14 (j := 32) vc_X12 vi_X12 rfl (by decide) kf_X12_75 dX12_place_1 ?_
  refine lv_iload_n (pc := 4) hx hb dX12_place_4 rfl (lv_at hl 1 rfl) ?_
  refine lv_iload_n (pc := 5) hx hb dX12_place_5 rfl (lv_at hl 2 rfl) ?_
  refine s_iast (pc := 6) F w ds_87 h dX12_place_6 (fun S1 H locs h w => ?_)
  refine lv_aload_n (pc := 7) hx hb dX12_place_7 rfl (lv_at hl 0 rfl) ?_
  refine s_getR (pc := 8) F w 88 ds_14 (j := 33) vc_X12 vi_X12 rfl (by decide) kf_X12_78 dX12_place_8 ?_
  refine lv_iload_n (pc := 11) hx hb dX12_place_11 rfl (lv_at hl 1 rfl) ?_
  refine lv_iload_n (pc := 12) hx hb dX12_place_12 rfl (lv_at hl 3 rfl) ?_
  refine s_iast (pc := 13) F w ds_88 h dX12_place_13 (fun S2 H locs h w => ?_)
  refine lv_aload_n (pc := 14) hx hb dX12_place_14 rfl (lv_at hl 0 rfl) ?_
  refine s_getR (pc := 15) F w 89 ds_14 (j := 34) vc_X12 vi_X12 rfl (by decide) kf_X12_81 dX12_place_15 ?_
  refine lv_iload_n (pc := 18) hx hb dX12_place_18 rfl (lv_at hl 1 rfl) ?_
  refine lv_iload (pc := 19) hx hb dX12_place_19 (lv_at hl 4 rfl) ?_
  refine lv_if_ne (pc := 21) (tgt := 29) hx hb dX12_place_21 (by decide) (fun q => ?_) (fun q => ?_)
  · have h := ite_f q h
    refine lv_iconst (pc := 29) (v := 1) hx hb dX12_place_29 (by decide) ?_
    refine lv_iload (pc := 30) hx hb dX12_place_30 (lv_at hl 5 rfl) ?_
    refine lv_isub (pc := 32) hx hb dX12_place_32 ?_
    refine s_iast (pc := 33) F w ds_89 h dX12_place_33 (fun S3 H locs h w => ?_)
    exact s_vret F w h dX12_place_34
  · have h := ite_t q h
    refine lv_iload (pc := 24) hx hb dX12_place_24 (lv_at hl 5 rfl) ?_
    refine lv_goto (pc := 26) (tgt := 33) hx hb dX12_place_26 (by decide) ?_
    refine s_iast (pc := 33) F w ds_89 h dX12_place_33 (fun S4 H locs h w => ?_)
    exact s_vret F w h dX12_place_34
def f_X12_goOn_j116 (K7 : Int32 → SS → Option (SS)) (x1 : Int32) (S : SS) : Option (SS) :=
    nm (x1 + (-1 : Int32)) (fun z8 =>
    K7 z8 S)
def f_X12_goOn_j39 (K7 : Int32 → SS → Option (SS)) (x1 : Int32) (x2 : Int32) (y0 : Int32) (y1 : Int32) (y2 : Int32) (S : SS) : Option (SS) :=
    grd (inb y2 72) (wr S 93 y2.toNatClampNeg (y1 - y0) (fun S3 =>
    if x1 = 0 then
      grd (inb (0 : Int32) 72) (
      bndv (f_X12_place x2 (S3.1 14 26) (S3.1 14 27) (S3.1 112 (0 : Int32).toNatClampNeg) (S3.1 14 28) S3) (fun S9 =>
      f_X12_goOn_j116 K7 x1 S9))
    else
      grd (inb (x1 - (1 : Int32)) 72) (
      nm (S3.1 111 (x1 - (1 : Int32)).toNatClampNeg) (fun z4 =>
      grd (inb z4 72) (
      grd (inb z4 72) (
      grd (inb x1 72) (
      grd (inb (x1 - (1 : Int32)) 72) (
      bnd (f_X12_wayOf z4 (S3.1 112 (x1 - (1 : Int32)).toNatClampNeg) S3) (fun r6 S5 =>
      bndv (f_X12_place x2 (S3.1 87 z4.toNatClampNeg) (S3.1 88 z4.toNatClampNeg) (S3.1 112 x1.toNatClampNeg) r6 S5) (fun S7 =>
      f_X12_goOn_j116 K7 x1 S7))))))))))
def f_X12_goOn_L7  : Nat → Int32 → SS → Option (SS)
  | 0, _, _ => none
  | n + 1, x1, S =>
    if x1 < 0 then
      some S
    else
      grd (inb x1 72) (
      nm (S.1 111 x1.toNatClampNeg) (fun z2 =>
      grd (inb z2 72) (
      grd (inb z2 72) (
      if (S.1 93 z2.toNatClampNeg) ≤ 0 then
        f_X12_goOn_j39 (fun v0 S => f_X12_goOn_L7 n v0 S) x1 z2 (0 : Int32) (S.1 93 z2.toNatClampNeg) z2 S
      else
        f_X12_goOn_j39 (fun v0 S => f_X12_goOn_L7 n v0 S) x1 z2 (1 : Int32) (S.1 93 z2.toNatClampNeg) z2 S))))
def f_X12_goOn  (S : SS) : Option (SS) :=
  nm ((S.1 14 70) - (1 : Int32)) (fun z1 =>
  f_X12_goOn_L7 NF z1 S)
theorem dX12_goOn_0 : decode cX12_goOn 0 = .ok (.aload_n 0, 1) := by decide +kernel
theorem dX12_goOn_1 : decode cX12_goOn 1 = .ok (.getfield 393, 3) := by decide +kernel
theorem dX12_goOn_4 : decode cX12_goOn 4 = .ok (.iconst 1, 1) := by decide +kernel
theorem dX12_goOn_5 : decode cX12_goOn 5 = .ok (.isub, 1) := by decide +kernel
theorem dX12_goOn_6 : decode cX12_goOn 6 = .ok (.istore_n 1, 1) := by decide +kernel
theorem dX12_goOn_7 : decode cX12_goOn 7 = .ok (.iload_n 1, 1) := by decide +kernel
theorem dX12_goOn_8 : decode cX12_goOn 8 = .ok (.ifCond .lt 114, 3) := by decide +kernel
theorem dX12_goOn_11 : decode cX12_goOn 11 = .ok (.aload_n 0, 1) := by decide +kernel
theorem dX12_goOn_12 : decode cX12_goOn 12 = .ok (.getfield 147, 3) := by decide +kernel
theorem dX12_goOn_15 : decode cX12_goOn 15 = .ok (.iload_n 1, 1) := by decide +kernel
theorem dX12_goOn_16 : decode cX12_goOn 16 = .ok (.iaload, 1) := by decide +kernel
theorem dX12_goOn_17 : decode cX12_goOn 17 = .ok (.istore_n 2, 1) := by decide +kernel
theorem dX12_goOn_18 : decode cX12_goOn 18 = .ok (.aload_n 0, 1) := by decide +kernel
theorem dX12_goOn_19 : decode cX12_goOn 19 = .ok (.getfield 93, 3) := by decide +kernel
theorem dX12_goOn_22 : decode cX12_goOn 22 = .ok (.iload_n 2, 1) := by decide +kernel
theorem dX12_goOn_23 : decode cX12_goOn 23 = .ok (.dup2, 1) := by decide +kernel
theorem dX12_goOn_24 : decode cX12_goOn 24 = .ok (.iaload, 1) := by decide +kernel
theorem dX12_goOn_25 : decode cX12_goOn 25 = .ok (.aload_n 0, 1) := by decide +kernel
theorem dX12_goOn_26 : decode cX12_goOn 26 = .ok (.getfield 93, 3) := by decide +kernel
theorem dX12_goOn_29 : decode cX12_goOn 29 = .ok (.iload_n 2, 1) := by decide +kernel
theorem dX12_goOn_30 : decode cX12_goOn 30 = .ok (.iaload, 1) := by decide +kernel
theorem dX12_goOn_31 : decode cX12_goOn 31 = .ok (.ifCond .le 7, 3) := by decide +kernel
theorem dX12_goOn_34 : decode cX12_goOn 34 = .ok (.iconst 1, 1) := by decide +kernel
theorem dX12_goOn_35 : decode cX12_goOn 35 = .ok (.goto 4, 3) := by decide +kernel
theorem dX12_goOn_38 : decode cX12_goOn 38 = .ok (.iconst 0, 1) := by decide +kernel
theorem dX12_goOn_39 : decode cX12_goOn 39 = .ok (.isub, 1) := by decide +kernel
theorem dX12_goOn_40 : decode cX12_goOn 40 = .ok (.iastore, 1) := by decide +kernel
theorem dX12_goOn_41 : decode cX12_goOn 41 = .ok (.iload_n 1, 1) := by decide +kernel
theorem dX12_goOn_42 : decode cX12_goOn 42 = .ok (.ifCond .ne 29, 3) := by decide +kernel
theorem dX12_goOn_45 : decode cX12_goOn 45 = .ok (.aload_n 0, 1) := by decide +kernel
theorem dX12_goOn_46 : decode cX12_goOn 46 = .ok (.iload_n 2, 1) := by decide +kernel
theorem dX12_goOn_47 : decode cX12_goOn 47 = .ok (.aload_n 0, 1) := by decide +kernel
theorem dX12_goOn_48 : decode cX12_goOn 48 = .ok (.getfield 245, 3) := by decide +kernel
theorem dX12_goOn_51 : decode cX12_goOn 51 = .ok (.aload_n 0, 1) := by decide +kernel
theorem dX12_goOn_52 : decode cX12_goOn 52 = .ok (.getfield 248, 3) := by decide +kernel
theorem dX12_goOn_55 : decode cX12_goOn 55 = .ok (.aload_n 0, 1) := by decide +kernel
theorem dX12_goOn_56 : decode cX12_goOn 56 = .ok (.getfield 150, 3) := by decide +kernel
theorem dX12_goOn_59 : decode cX12_goOn 59 = .ok (.iconst 0, 1) := by decide +kernel
theorem dX12_goOn_60 : decode cX12_goOn 60 = .ok (.iaload, 1) := by decide +kernel
theorem dX12_goOn_61 : decode cX12_goOn 61 = .ok (.aload_n 0, 1) := by decide +kernel
theorem dX12_goOn_62 : decode cX12_goOn 62 = .ok (.getfield 251, 3) := by decide +kernel
theorem dX12_goOn_65 : decode cX12_goOn 65 = .ok (.invokevirtual 396, 3) := by decide +kernel
theorem dX12_goOn_68 : decode cX12_goOn 68 = .ok (.goto 48, 3) := by decide +kernel
theorem dX12_goOn_71 : decode cX12_goOn 71 = .ok (.aload_n 0, 1) := by decide +kernel
theorem dX12_goOn_72 : decode cX12_goOn 72 = .ok (.getfield 147, 3) := by decide +kernel
theorem dX12_goOn_75 : decode cX12_goOn 75 = .ok (.iload_n 1, 1) := by decide +kernel
theorem dX12_goOn_76 : decode cX12_goOn 76 = .ok (.iconst 1, 1) := by decide +kernel
theorem dX12_goOn_77 : decode cX12_goOn 77 = .ok (.isub, 1) := by decide +kernel
theorem dX12_goOn_78 : decode cX12_goOn 78 = .ok (.iaload, 1) := by decide +kernel
theorem dX12_goOn_79 : decode cX12_goOn 79 = .ok (.istore_n 3, 1) := by decide +kernel
theorem dX12_goOn_80 : decode cX12_goOn 80 = .ok (.aload_n 0, 1) := by decide +kernel
theorem dX12_goOn_81 : decode cX12_goOn 81 = .ok (.iload_n 2, 1) := by decide +kernel
theorem dX12_goOn_82 : decode cX12_goOn 82 = .ok (.aload_n 0, 1) := by decide +kernel
theorem dX12_goOn_83 : decode cX12_goOn 83 = .ok (.getfield 75, 3) := by decide +kernel
theorem dX12_goOn_86 : decode cX12_goOn 86 = .ok (.iload_n 3, 1) := by decide +kernel
theorem dX12_goOn_87 : decode cX12_goOn 87 = .ok (.iaload, 1) := by decide +kernel
theorem dX12_goOn_88 : decode cX12_goOn 88 = .ok (.aload_n 0, 1) := by decide +kernel
theorem dX12_goOn_89 : decode cX12_goOn 89 = .ok (.getfield 78, 3) := by decide +kernel
theorem dX12_goOn_92 : decode cX12_goOn 92 = .ok (.iload_n 3, 1) := by decide +kernel
theorem dX12_goOn_93 : decode cX12_goOn 93 = .ok (.iaload, 1) := by decide +kernel
theorem dX12_goOn_94 : decode cX12_goOn 94 = .ok (.aload_n 0, 1) := by decide +kernel
theorem dX12_goOn_95 : decode cX12_goOn 95 = .ok (.getfield 150, 3) := by decide +kernel
theorem dX12_goOn_98 : decode cX12_goOn 98 = .ok (.iload_n 1, 1) := by decide +kernel
theorem dX12_goOn_99 : decode cX12_goOn 99 = .ok (.iaload, 1) := by decide +kernel
theorem dX12_goOn_100 : decode cX12_goOn 100 = .ok (.aload_n 0, 1) := by decide +kernel
theorem dX12_goOn_101 : decode cX12_goOn 101 = .ok (.iload_n 3, 1) := by decide +kernel
theorem dX12_goOn_102 : decode cX12_goOn 102 = .ok (.aload_n 0, 1) := by decide +kernel
theorem dX12_goOn_103 : decode cX12_goOn 103 = .ok (.getfield 150, 3) := by decide +kernel
theorem dX12_goOn_106 : decode cX12_goOn 106 = .ok (.iload_n 1, 1) := by decide +kernel
theorem dX12_goOn_107 : decode cX12_goOn 107 = .ok (.iconst 1, 1) := by decide +kernel
theorem dX12_goOn_108 : decode cX12_goOn 108 = .ok (.isub, 1) := by decide +kernel
theorem dX12_goOn_109 : decode cX12_goOn 109 = .ok (.iaload, 1) := by decide +kernel
theorem dX12_goOn_110 : decode cX12_goOn 110 = .ok (.invokevirtual 368, 3) := by decide +kernel
theorem dX12_goOn_113 : decode cX12_goOn 113 = .ok (.invokevirtual 396, 3) := by decide +kernel
theorem dX12_goOn_116 : decode cX12_goOn 116 = .ok (.iinc 1 (-1), 3) := by decide +kernel
theorem dX12_goOn_119 : decode cX12_goOn 119 = .ok (.goto (-112), 3) := by decide +kernel
theorem dX12_goOn_122 : decode cX12_goOn 122 = .ok (.return_, 1) := by decide +kernel
set_option maxRecDepth 100000 in
set_option maxHeartbeats 4000000 in
theorem w_X12_goOn_j116 {p : Program} {l : Launch} {e : Env} {R : Room} {s : State} {m : MethodId} {args : Array Value} {below : List Frame} {meth : Method} {c : Code} {dC : Nat → ClassId} {dI : Nat → Nat → Nat} {cs : Nat → ClassId} {ad : Nat → Nat} {A : Nat → Prop} {D0 : Nat → Nat} {S' : SS} (F : Fx p s m args meth c cX12_goOn 4 RX12 none dC dI cs A) (hR1 : 0 ≤ R.frames) (hR2 : 0 ≤ R.locals) (K7 : Int32 → SS → Option (SS)) (hK7 : ∀ (v0 : Int32) (S : SS), K7 v0 S = some S' → AW p l e R s m args below meth c dC dI cs ad A D0 none S' 4 7 [(0, .ref (ad 14)), (1, .int v0)] [] S) (x1 : Int32) (S : SS) (h : f_X12_goOn_j116 K7 x1 S = some S') : AW p l e R s m args below meth c dC dI cs ad A D0 none S' 4 116 [(0, .ref (ad 14)), (1, .int x1)] [] S := by
  have hx := F.1.1
  have hb := F.1.2.1
  intro H locs ls w hl
  rw [f_X12_goOn_j116] at h
  refine s_nm h (fun z8 ez8 h => ?_)
  refine lv_iinc (pc := 116) (v := z8) (lv' := [(1, .int z8), (0, .ref (ad 14))]) hx hb dX12_goOn_116 hl (k := 1) rfl (by rw [ez8]; rfl) (by decide) rfl (fun ls hl => ?_)
  refine lv_goto (pc := 119) (tgt := 7) hx hb dX12_goOn_119 (by decide) ?_
  exact hK7 _ _ h _ _ _ w (lv_sub hl [1, 0] rfl)
set_option maxRecDepth 100000 in
set_option maxHeartbeats 4000000 in
theorem w_X12_goOn_j39 {p : Program} {l : Launch} {e : Env} {R : Room} {s : State} {m : MethodId} {args : Array Value} {below : List Frame} {meth : Method} {c : Code} {dC : Nat → ClassId} {dI : Nat → Nat → Nat} {cs : Nat → ClassId} {ad : Nat → Nat} {A : Nat → Prop} {D0 : Nat → Nat} {S' : SS} (F : Fx p s m args meth c cX12_goOn 4 RX12 none dC dI cs A) (hR1 : 1 ≤ R.frames) (hR2 : 25 ≤ R.locals) (K7 : Int32 → SS → Option (SS)) (hK7 : ∀ (v0 : Int32) (S : SS), K7 v0 S = some S' → AW p l e R s m args below meth c dC dI cs ad A D0 none S' 4 7 [(0, .ref (ad 14)), (1, .int v0)] [] S) (x1 : Int32) (x2 : Int32) (y0 : Int32) (y1 : Int32) (y2 : Int32) (S : SS) (h : f_X12_goOn_j39 K7 x1 x2 y0 y1 y2 S = some S') : AW p l e R s m args below meth c dC dI cs ad A D0 none S' 4 39 [(0, .ref (ad 14)), (1, .int x1), (2, .int x2)] [.int y0, .int y1, .int y2, .ref (ad 93)] S := by
  have hx := F.1.1
  have hb := F.1.2.1
  intro H locs ls w hl
  rw [f_X12_goOn_j39] at h
  refine lv_isub (pc := 39) hx hb dX12_goOn_39 ?_
  refine s_iast (pc := 40) F w ds_93 h dX12_goOn_40 (fun S3 H locs h w => ?_)
  refine lv_iload_n (pc := 41) hx hb dX12_goOn_41 rfl (lv_at hl 1 rfl) ?_
  refine lv_if_ne (pc := 42) (tgt := 71) hx hb dX12_goOn_42 (by decide) (fun q => ?_) (fun q => ?_)
  · have h := ite_f q h
    refine lv_aload_n (pc := 71) hx hb dX12_goOn_71 rfl (lv_at hl 0 rfl) ?_
    refine s_getR (pc := 72) F w 111 ds_14 (j := 68) vc_X12 vi_X12 rfl (by decide) kf_X12_147 dX12_goOn_72 ?_
    refine lv_iload_n (pc := 75) hx hb dX12_goOn_75 rfl (lv_at hl 1 rfl) ?_
    refine lv_iconst (pc := 76) (v := 1) hx hb dX12_goOn_76 (by decide) ?_
    refine lv_isub (pc := 77) hx hb dX12_goOn_77 ?_
    refine s_iald (pc := 78) F w ds_111 h dX12_goOn_78 (fun h => ?_)
    refine s_nm h (fun z4 ez4 h => ?_)
    rw [← ez4]
    refine lv_istore_n (pc := 79) (lv' := [(3, .int z4), (0, .ref (ad 14)), (1, .int x1), (2, .int x2)]) hx hb dX12_goOn_79 rfl hl (by decide) rfl (fun ls hl => ?_)
    refine lv_aload_n (pc := 80) hx hb dX12_goOn_80 rfl (lv_at hl 1 rfl) ?_
    refine lv_iload_n (pc := 81) hx hb dX12_goOn_81 rfl (lv_at hl 3 rfl) ?_
    refine lv_aload_n (pc := 82) hx hb dX12_goOn_82 rfl (lv_at hl 1 rfl) ?_
    refine s_getR (pc := 83) F w 87 ds_14 (j := 32) vc_X12 vi_X12 rfl (by decide) kf_X12_75 dX12_goOn_83 ?_
    refine lv_iload_n (pc := 86) hx hb dX12_goOn_86 rfl (lv_at hl 0 rfl) ?_
    refine s_iald (pc := 87) F w ds_87 h dX12_goOn_87 (fun h => ?_)
    refine lv_aload_n (pc := 88) hx hb dX12_goOn_88 rfl (lv_at hl 1 rfl) ?_
    refine s_getR (pc := 89) F w 88 ds_14 (j := 33) vc_X12 vi_X12 rfl (by decide) kf_X12_78 dX12_goOn_89 ?_
    refine lv_iload_n (pc := 92) hx hb dX12_goOn_92 rfl (lv_at hl 0 rfl) ?_
    refine s_iald (pc := 93) F w ds_88 h dX12_goOn_93 (fun h => ?_)
    refine lv_aload_n (pc := 94) hx hb dX12_goOn_94 rfl (lv_at hl 1 rfl) ?_
    refine s_getR (pc := 95) F w 112 ds_14 (j := 69) vc_X12 vi_X12 rfl (by decide) kf_X12_150 dX12_goOn_95 ?_
    refine lv_iload_n (pc := 98) hx hb dX12_goOn_98 rfl (lv_at hl 2 rfl) ?_
    refine s_iald (pc := 99) F w ds_112 h dX12_goOn_99 (fun h => ?_)
    refine lv_aload_n (pc := 100) hx hb dX12_goOn_100 rfl (lv_at hl 1 rfl) ?_
    refine lv_iload_n (pc := 101) hx hb dX12_goOn_101 rfl (lv_at hl 0 rfl) ?_
    refine lv_aload_n (pc := 102) hx hb dX12_goOn_102 rfl (lv_at hl 1 rfl) ?_
    refine s_getR (pc := 103) F w 112 ds_14 (j := 69) vc_X12 vi_X12 rfl (by decide) kf_X12_150 dX12_goOn_103 ?_
    refine lv_iload_n (pc := 106) hx hb dX12_goOn_106 rfl (lv_at hl 2 rfl) ?_
    refine lv_iconst (pc := 107) (v := 1) hx hb dX12_goOn_107 (by decide) ?_
    refine lv_isub (pc := 108) hx hb dX12_goOn_108 ?_
    refine s_iald (pc := 109) F w ds_112 h dX12_goOn_109 (fun h => ?_)
    obtain ⟨r6, S5, hc, h⟩ := bnd_t h
    refine s_cvi (pc := 110) [.int z4, .int (S3.1 112 (x1 - (1 : Int32)).toNatClampNeg)] (fun ad => [.ref (ad 14), .int z4, .int (S3.1 112 (x1 - (1 : Int32)).toNatClampNeg)]) F w (m_X12_wayOf _ _ _ _ _ hc) rfl rfl hl.1 ds_14 vc_X12 rfl ok_X12_wayOf rfl kc_X12_wayOf kl_X12_368 ki_X12_wayOf kv_X12_wayOf kn_X12 ⟨Nat.le_trans (by decide) hR1, Nat.le_trans (by decide) hR2⟩ ⟨Nat.zero_le _, Nat.zero_le _⟩ (Nat.le_of_ble_eq_true rfl) dX12_goOn_110 (fun H locs w => ?_)
    obtain ⟨S7, hc, h⟩ := bndv_t h
    refine s_cvv (pc := 113) [.int x2, .int (S3.1 87 z4.toNatClampNeg), .int (S3.1 88 z4.toNatClampNeg), .int (S3.1 112 x1.toNatClampNeg), .int r6] (fun ad => [.ref (ad 14), .int x2, .int (S3.1 87 z4.toNatClampNeg), .int (S3.1 88 z4.toNatClampNeg), .int (S3.1 112 x1.toNatClampNeg), .int r6]) F w (m_X12_place _ _ _ _ _ _ _ hc) rfl rfl hl.1 ds_14 vc_X12 rfl ok_X12_place rfl kc_X12_place kl_X12_396 ki_X12_place kv_X12_place kn_X12 ⟨Nat.le_trans (by decide) hR1, Nat.le_trans (by decide) hR2⟩ ⟨Nat.zero_le _, Nat.zero_le _⟩ (Nat.le_of_ble_eq_true rfl) dX12_goOn_113 (fun H locs w => ?_)
    exact w_X12_goOn_j116 F (Nat.le_trans (by decide) hR1) (Nat.le_trans (by decide) hR2) _ hK7 _ _ h _ _ _ w (lv_sub hl [1, 2] rfl)
  · have h := ite_t q h
    refine lv_aload_n (pc := 45) hx hb dX12_goOn_45 rfl (lv_at hl 0 rfl) ?_
    refine lv_iload_n (pc := 46) hx hb dX12_goOn_46 rfl (lv_at hl 2 rfl) ?_
    refine lv_aload_n (pc := 47) hx hb dX12_goOn_47 rfl (lv_at hl 0 rfl) ?_
    refine s_getI (pc := 48) F w ds_14 (j := 26) vc_X12 vi_X12 rfl (by decide) kf_X12_245 dX12_goOn_48 ?_
    refine lv_aload_n (pc := 51) hx hb dX12_goOn_51 rfl (lv_at hl 0 rfl) ?_
    refine s_getI (pc := 52) F w ds_14 (j := 27) vc_X12 vi_X12 rfl (by decide) kf_X12_248 dX12_goOn_52 ?_
    refine lv_aload_n (pc := 55) hx hb dX12_goOn_55 rfl (lv_at hl 0 rfl) ?_
    refine s_getR (pc := 56) F w 112 ds_14 (j := 69) vc_X12 vi_X12 rfl (by decide) kf_X12_150 dX12_goOn_56 ?_
    refine lv_iconst (pc := 59) (v := 0) hx hb dX12_goOn_59 (by decide) ?_
    refine s_iald (pc := 60) F w ds_112 h dX12_goOn_60 (fun h => ?_)
    refine lv_aload_n (pc := 61) hx hb dX12_goOn_61 rfl (lv_at hl 0 rfl) ?_
    refine s_getI (pc := 62) F w ds_14 (j := 28) vc_X12 vi_X12 rfl (by decide) kf_X12_251 dX12_goOn_62 ?_
    obtain ⟨S9, hc, h⟩ := bndv_t h
    refine s_cvv (pc := 65) [.int x2, .int (S3.1 14 26), .int (S3.1 14 27), .int (S3.1 112 (0 : Int32).toNatClampNeg), .int (S3.1 14 28)] (fun ad => [.ref (ad 14), .int x2, .int (S3.1 14 26), .int (S3.1 14 27), .int (S3.1 112 (0 : Int32).toNatClampNeg), .int (S3.1 14 28)]) F w (m_X12_place _ _ _ _ _ _ _ hc) rfl rfl hl.1 ds_14 vc_X12 rfl ok_X12_place rfl kc_X12_place kl_X12_396 ki_X12_place kv_X12_place kn_X12 ⟨Nat.le_trans (by decide) hR1, Nat.le_trans (by decide) hR2⟩ ⟨Nat.zero_le _, Nat.zero_le _⟩ (Nat.le_of_ble_eq_true rfl) dX12_goOn_65 (fun H locs w => ?_)
    refine lv_goto (pc := 68) (tgt := 116) hx hb dX12_goOn_68 (by decide) ?_
    exact w_X12_goOn_j116 F (Nat.le_trans (by decide) hR1) (Nat.le_trans (by decide) hR2) _ hK7 _ _ h _ _ _ w (lv_sub hl [0, 1] rfl)
set_option maxRecDepth 100000 in
set_option maxHeartbeats 4000000 in
theorem w_X12_goOn_L7 {p : Program} {l : Launch} {e : Env} {R : Room} {s : State} {m : MethodId} {args : Array Value} {below : List Frame} {meth : Method} {c : Code} {dC : Nat → ClassId} {dI : Nat → Nat → Nat} {cs : Nat → ClassId} {ad : Nat → Nat} {A : Nat → Prop} {D0 : Nat → Nat} {S' : SS} (F : Fx p s m args meth c cX12_goOn 4 RX12 none dC dI cs A) (hR1 : 1 ≤ R.frames) (hR2 : 25 ≤ R.locals) : ∀ (n : Nat) (x1 : Int32) (S : SS), f_X12_goOn_L7 n x1 S = some S' → AW p l e R s m args below meth c dC dI cs ad A D0 none S' 4 7 [(0, .ref (ad 14)), (1, .int x1)] [] S := by
  have hx := F.1.1
  have hb := F.1.2.1
  intro n
  induction n with
  | zero => intro x1 S h; cases h
  | succ n ih =>
    intro x1 S h H locs ls w hl
    rw [f_X12_goOn_L7] at h
    refine lv_iload_n (pc := 7) hx hb dX12_goOn_7 rfl (lv_at hl 1 rfl) ?_
    refine lv_if_lt (pc := 8) (tgt := 122) hx hb dX12_goOn_8 (by decide) (fun q => ?_) (fun q => ?_)
    · have h := ite_t q h
      exact s_vret F w h dX12_goOn_122
    · have h := ite_f q h
      refine lv_aload_n (pc := 11) hx hb dX12_goOn_11 rfl (lv_at hl 0 rfl) ?_
      refine s_getR (pc := 12) F w 111 ds_14 (j := 68) vc_X12 vi_X12 rfl (by decide) kf_X12_147 dX12_goOn_12 ?_
      refine lv_iload_n (pc := 15) hx hb dX12_goOn_15 rfl (lv_at hl 1 rfl) ?_
      refine s_iald (pc := 16) F w ds_111 h dX12_goOn_16 (fun h => ?_)
      refine s_nm h (fun z2 ez2 h => ?_)
      rw [← ez2]
      refine lv_istore_n (pc := 17) (lv' := [(2, .int z2), (0, .ref (ad 14)), (1, .int x1)]) hx hb dX12_goOn_17 rfl hl (by decide) rfl (fun ls hl => ?_)
      refine lv_aload_n (pc := 18) hx hb dX12_goOn_18 rfl (lv_at hl 1 rfl) ?_
      refine s_getR (pc := 19) F w 93 ds_14 (j := 38) vc_X12 vi_X12 rfl (by decide) kf_X12_93 dX12_goOn_19 ?_
      refine lv_iload_n (pc := 22) hx hb dX12_goOn_22 rfl (lv_at hl 0 rfl) ?_
      refine lv_dup2_11 (pc := 23) hx hb dX12_goOn_23 rfl rfl ?_
      refine s_iald (pc := 24) F w ds_93 h dX12_goOn_24 (fun h => ?_)
      refine lv_aload_n (pc := 25) hx hb dX12_goOn_25 rfl (lv_at hl 1 rfl) ?_
      refine s_getR (pc := 26) F w 93 ds_14 (j := 38) vc_X12 vi_X12 rfl (by decide) kf_X12_93 dX12_goOn_26 ?_
      refine lv_iload_n (pc := 29) hx hb dX12_goOn_29 rfl (lv_at hl 0 rfl) ?_
      refine s_iald (pc := 30) F w ds_93 h dX12_goOn_30 (fun h => ?_)
      refine lv_if_le (pc := 31) (tgt := 38) hx hb dX12_goOn_31 (by decide) (fun q => ?_) (fun q => ?_)
      · have h := ite_t q h
        refine lv_iconst (pc := 38) (v := 0) hx hb dX12_goOn_38 (by decide) ?_
        exact w_X12_goOn_j39 F (Nat.le_trans (by decide) hR1) (Nat.le_trans (by decide) hR2) _ (fun v0 S h => ih v0 S h) _ _ _ _ _ _ h _ _ _ w (lv_sub hl [1, 2, 0] rfl)
      · have h := ite_f q h
        refine lv_iconst (pc := 34) (v := 1) hx hb dX12_goOn_34 (by decide) ?_
        refine lv_goto (pc := 35) (tgt := 39) hx hb dX12_goOn_35 (by decide) ?_
        exact w_X12_goOn_j39 F (Nat.le_trans (by decide) hR1) (Nat.le_trans (by decide) hR2) _ (fun v0 S h => ih v0 S h) _ _ _ _ _ _ h _ _ _ w (lv_sub hl [1, 2, 0] rfl)
set_option maxRecDepth 100000 in
set_option maxHeartbeats 4000000 in
theorem m_X12_goOn  (S S' : SS) (h : f_X12_goOn  S = some S') : MT yX12_goOn cX12_goOn 4 none 1 25 (fun ad => [.ref (ad 14)]) S none S' := by
  refine MT.of RX12 (fun ad => [(0, .ref (ad 14))]) (by decide) rfl (fun _ => Nat.le_of_ble_eq_true rfl) (fun _ => rfl) ?_
  intro p l e R s m args below meth c dC dI cs ad A hR1 hR2 F H locs ls w hl
  have hx := F.1.1
  have hb := F.1.2.1
  rw [f_X12_goOn] at h
  refine lv_aload_n (pc := 0) hx hb dX12_goOn_0 rfl (lv_at hl 0 rfl) ?_
  refine s_getI (pc := 1) F w ds_14 (j := 70) vc_X12 vi_X12 rfl (by decide) kf_X12_393 dX12_goOn_1 ?_
  refine lv_iconst (pc := 4) (v := 1) hx hb dX12_goOn_4 (by decide) ?_
  refine lv_isub (pc := 5) hx hb dX12_goOn_5 ?_
  refine s_nm h (fun z1 ez1 h => ?_)
  rw [← ez1]
  refine lv_istore_n (pc := 6) (lv' := [(1, .int z1), (0, .ref (ad 14))]) hx hb dX12_goOn_6 rfl hl (by decide) rfl (fun ls hl => ?_)
  exact w_X12_goOn_L7 F (Nat.le_trans (by decide) hR1) (Nat.le_trans (by decide) hR2) _ _ _ h _ _ _ w (lv_sub hl [1, 0] rfl)
def f_X12_pull_L53  : Nat → Int32 → Int32 → SS → Option (Int32 × SS)
  | 0, _, _, _ => none
  | n + 1, x3, x4, S =>
    if x3 ≤ x4 then
      bnd (f_X12_entered (8 : Int32) x3 S) (fun r9 S8 =>
      some (r9, S8))
    else
      bnd (f_X12_missStep  S) (fun r11 S10 =>
      bnd (f_X12_ends r11 S10) (fun r13 S12 =>
      if r13 = 0 then
        bndv (f_X12_goOn  S12) (fun S14 =>
        wr S14 14 2 ((S14.1 14 2) + (1 : Int32)) (fun S15 =>
        nm (x4 + (1 : Int32)) (fun z16 =>
        f_X12_pull_L53 n x3 z16 S15)))
      else
        bnd (f_X12_entered (8 : Int32) (-2 : Int32) S12) (fun r18 S17 =>
        some (r18, S17))))
def f_X12_pull (a1 : Int32) (a2 : Int32) (a3 : Int32) (S : SS) : Option (Int32 × SS) :=
  if a3 < (1 : Int32) then
    some ((-1 : Int32), S)
  else
    if a3 ≤ (200 : Int32) then
      bndv (f_X12_begin  S) (fun S1 =>
      bndv (f_X12_keep  S1) (fun S2 =>
      bnd (f_X12_missPull a1 a2 S2) (fun r4 S3 =>
      bnd (f_X12_ends r4 S3) (fun r6 S5 =>
      if r6 = 0 then
        bndv (f_X12_follow a1 a2 S5) (fun S7 =>
        f_X12_pull_L53 NF a3 (0 : Int32) S7)
      else
        bnd (f_X12_entered (8 : Int32) (-2 : Int32) S5) (fun r20 S19 =>
        some (r20, S19))))))
    else
      some ((-1 : Int32), S)
theorem dX12_pull_0 : decode cX12_pull 0 = .ok (.iload_n 3, 1) := by decide +kernel
theorem dX12_pull_1 : decode cX12_pull 1 = .ok (.iconst 1, 1) := by decide +kernel
theorem dX12_pull_2 : decode cX12_pull 2 = .ok (.if_icmp .lt 10, 3) := by decide +kernel
theorem dX12_pull_5 : decode cX12_pull 5 = .ok (.iload_n 3, 1) := by decide +kernel
theorem dX12_pull_6 : decode cX12_pull 6 = .ok (.sipush 200, 3) := by decide +kernel
theorem dX12_pull_9 : decode cX12_pull 9 = .ok (.if_icmp .le 5, 3) := by decide +kernel
theorem dX12_pull_12 : decode cX12_pull 12 = .ok (.iconst (-1), 1) := by decide +kernel
theorem dX12_pull_13 : decode cX12_pull 13 = .ok (.ireturn, 1) := by decide +kernel
theorem dX12_pull_14 : decode cX12_pull 14 = .ok (.aload_n 0, 1) := by decide +kernel
theorem dX12_pull_15 : decode cX12_pull 15 = .ok (.invokevirtual 226, 3) := by decide +kernel
theorem dX12_pull_18 : decode cX12_pull 18 = .ok (.aload_n 0, 1) := by decide +kernel
theorem dX12_pull_19 : decode cX12_pull 19 = .ok (.invokevirtual 346, 3) := by decide +kernel
theorem dX12_pull_22 : decode cX12_pull 22 = .ok (.aload_n 0, 1) := by decide +kernel
theorem dX12_pull_23 : decode cX12_pull 23 = .ok (.aload_n 0, 1) := by decide +kernel
theorem dX12_pull_24 : decode cX12_pull 24 = .ok (.iload_n 1, 1) := by decide +kernel
theorem dX12_pull_25 : decode cX12_pull 25 = .ok (.iload_n 2, 1) := by decide +kernel
theorem dX12_pull_26 : decode cX12_pull 26 = .ok (.invokevirtual 403, 3) := by decide +kernel
theorem dX12_pull_29 : decode cX12_pull 29 = .ok (.invokevirtual 236, 3) := by decide +kernel
theorem dX12_pull_32 : decode cX12_pull 32 = .ok (.ifCond .eq 12, 3) := by decide +kernel
theorem dX12_pull_35 : decode cX12_pull 35 = .ok (.aload_n 0, 1) := by decide +kernel
theorem dX12_pull_36 : decode cX12_pull 36 = .ok (.bipush 8, 2) := by decide +kernel
theorem dX12_pull_38 : decode cX12_pull 38 = .ok (.bipush (-2), 2) := by decide +kernel
theorem dX12_pull_40 : decode cX12_pull 40 = .ok (.invokevirtual 349, 3) := by decide +kernel
theorem dX12_pull_43 : decode cX12_pull 43 = .ok (.ireturn, 1) := by decide +kernel
theorem dX12_pull_44 : decode cX12_pull 44 = .ok (.aload_n 0, 1) := by decide +kernel
theorem dX12_pull_45 : decode cX12_pull 45 = .ok (.iload_n 1, 1) := by decide +kernel
theorem dX12_pull_46 : decode cX12_pull 46 = .ok (.iload_n 2, 1) := by decide +kernel
theorem dX12_pull_47 : decode cX12_pull 47 = .ok (.invokevirtual 406, 3) := by decide +kernel
theorem dX12_pull_50 : decode cX12_pull 50 = .ok (.iconst 0, 1) := by decide +kernel
theorem dX12_pull_51 : decode cX12_pull 51 = .ok (.istore 4, 2) := by decide +kernel
theorem dX12_pull_53 : decode cX12_pull 53 = .ok (.iload 4, 2) := by decide +kernel
theorem dX12_pull_55 : decode cX12_pull 55 = .ok (.iload_n 3, 1) := by decide +kernel
theorem dX12_pull_56 : decode cX12_pull 56 = .ok (.if_icmp .ge 43, 3) := by decide +kernel
theorem dX12_pull_59 : decode cX12_pull 59 = .ok (.aload_n 0, 1) := by decide +kernel
theorem dX12_pull_60 : decode cX12_pull 60 = .ok (.aload_n 0, 1) := by decide +kernel
theorem dX12_pull_61 : decode cX12_pull 61 = .ok (.invokevirtual 410, 3) := by decide +kernel
theorem dX12_pull_64 : decode cX12_pull 64 = .ok (.invokevirtual 236, 3) := by decide +kernel
theorem dX12_pull_67 : decode cX12_pull 67 = .ok (.ifCond .eq 12, 3) := by decide +kernel
theorem dX12_pull_70 : decode cX12_pull 70 = .ok (.aload_n 0, 1) := by decide +kernel
theorem dX12_pull_71 : decode cX12_pull 71 = .ok (.bipush 8, 2) := by decide +kernel
theorem dX12_pull_73 : decode cX12_pull 73 = .ok (.bipush (-2), 2) := by decide +kernel
theorem dX12_pull_75 : decode cX12_pull 75 = .ok (.invokevirtual 349, 3) := by decide +kernel
theorem dX12_pull_78 : decode cX12_pull 78 = .ok (.ireturn, 1) := by decide +kernel
theorem dX12_pull_79 : decode cX12_pull 79 = .ok (.aload_n 0, 1) := by decide +kernel
theorem dX12_pull_80 : decode cX12_pull 80 = .ok (.invokevirtual 414, 3) := by decide +kernel
theorem dX12_pull_83 : decode cX12_pull 83 = .ok (.aload_n 0, 1) := by decide +kernel
theorem dX12_pull_84 : decode cX12_pull 84 = .ok (.dup, 1) := by decide +kernel
theorem dX12_pull_85 : decode cX12_pull 85 = .ok (.getfield 204, 3) := by decide +kernel
theorem dX12_pull_88 : decode cX12_pull 88 = .ok (.iconst 1, 1) := by decide +kernel
theorem dX12_pull_89 : decode cX12_pull 89 = .ok (.iadd, 1) := by decide +kernel
theorem dX12_pull_90 : decode cX12_pull 90 = .ok (.putfield 204, 3) := by decide +kernel
theorem dX12_pull_93 : decode cX12_pull 93 = .ok (.iinc 4 1, 3) := by decide +kernel
theorem dX12_pull_96 : decode cX12_pull 96 = .ok (.goto (-43), 3) := by decide +kernel
theorem dX12_pull_99 : decode cX12_pull 99 = .ok (.aload_n 0, 1) := by decide +kernel
theorem dX12_pull_100 : decode cX12_pull 100 = .ok (.bipush 8, 2) := by decide +kernel
theorem dX12_pull_102 : decode cX12_pull 102 = .ok (.iload_n 3, 1) := by decide +kernel
theorem dX12_pull_103 : decode cX12_pull 103 = .ok (.invokevirtual 349, 3) := by decide +kernel
theorem dX12_pull_106 : decode cX12_pull 106 = .ok (.ireturn, 1) := by decide +kernel
set_option maxRecDepth 100000 in
set_option maxHeartbeats 4000000 in
theorem w_X12_pull_L53 {p : Program} {l : Launch} {e : Env} {R : Room} {s : State} {m : MethodId} {args : Array Value} {below : List Frame} {meth : Method} {c : Code} {dC : Nat → ClassId} {dI : Nat → Nat → Nat} {cs : Nat → ClassId} {ad : Nat → Nat} {A : Nat → Prop} {D0 : Nat → Nat} {S' : SS} {r : Int32} (F : Fx p s m args meth c cX12_pull 5 RX12 (some .int) dC dI cs A) (hR1 : 3 ≤ R.frames) (hR2 : 72 ≤ R.locals) : ∀ (n : Nat) (x3 : Int32) (x4 : Int32) (S : SS), f_X12_pull_L53 n x3 x4 S = some (r, S') → AW p l e R s m args below meth c dC dI cs ad A D0 (some (.int r)) S' 5 53 [(0, .ref (ad 14)), (3, .int x3), (4, .int x4)] [] S := by
  have hx := F.1.1
  have hb := F.1.2.1
  intro n
  induction n with
  | zero => intro x3 x4 S h; cases h
  | succ n ih =>
    intro x3 x4 S h H locs ls w hl
    rw [f_X12_pull_L53] at h
    refine lv_iload (pc := 53) hx hb dX12_pull_53 (lv_at hl 2 rfl) ?_
    refine lv_iload_n (pc := 55) hx hb dX12_pull_55 rfl (lv_at hl 1 rfl) ?_
    refine lv_icmp_ge (pc := 56) (tgt := 99) hx hb dX12_pull_56 (by decide) (fun q => ?_) (fun q => ?_)
    · have h := ite_t q h
      refine lv_aload_n (pc := 99) hx hb dX12_pull_99 rfl (lv_at hl 0 rfl) ?_
      refine lv_bipush (pc := 100) (v := 8) hx hb dX12_pull_100 (by decide) ?_
      refine lv_iload_n (pc := 102) hx hb dX12_pull_102 rfl (lv_at hl 1 rfl) ?_
      obtain ⟨r9, S8, hc, h⟩ := bnd_t h
      refine s_cvi (pc := 103) [.int (8 : Int32), .int x3] (fun ad => [.ref (ad 14), .int (8 : Int32), .int x3]) F w (m_X12_entered _ _ _ _ _ hc) rfl rfl hl.1 ds_14 vc_X12 rfl ok_X12_entered rfl kc_X12_entered kl_X12_349 ki_X12_entered kv_X12_entered kn_X12 ⟨Nat.le_trans (by decide) hR1, Nat.le_trans (by decide) hR2⟩ ⟨Nat.zero_le _, Nat.zero_le _⟩ (Nat.le_of_ble_eq_true rfl) dX12_pull_103 (fun H locs w => ?_)
      exact s_iret F w h dX12_pull_106
    · have h := ite_f q h
      refine lv_aload_n (pc := 59) hx hb dX12_pull_59 rfl (lv_at hl 0 rfl) ?_
      refine lv_aload_n (pc := 60) hx hb dX12_pull_60 rfl (lv_at hl 0 rfl) ?_
      obtain ⟨r11, S10, hc, h⟩ := bnd_t h
      refine s_cvi (pc := 61) [] (fun ad => [.ref (ad 14)]) F w (m_X12_missStep  _ _ _ hc) rfl rfl hl.1 ds_14 vc_X12 rfl ok_X12_missStep rfl kc_X12_missStep kl_X12_410 ki_X12_missStep kv_X12_missStep kn_X12 ⟨Nat.le_trans (by decide) hR1, Nat.le_trans (by decide) hR2⟩ ⟨Nat.zero_le _, Nat.zero_le _⟩ (Nat.le_of_ble_eq_true rfl) dX12_pull_61 (fun H locs w => ?_)
      obtain ⟨r13, S12, hc, h⟩ := bnd_t h
      refine s_cvi (pc := 64) [.int r11] (fun ad => [.ref (ad 14), .int r11]) F w (m_X12_ends _ _ _ _ hc) rfl rfl hl.1 ds_14 vc_X12 rfl ok_X12_ends rfl kc_X12_ends kl_X12_236 ki_X12_ends kv_X12_ends kn_X12 ⟨Nat.le_trans (by decide) hR1, Nat.le_trans (by decide) hR2⟩ ⟨Nat.zero_le _, Nat.zero_le _⟩ (Nat.le_of_ble_eq_true rfl) dX12_pull_64 (fun H locs w => ?_)
      refine lv_if_eq (pc := 67) (tgt := 79) hx hb dX12_pull_67 (by decide) (fun q => ?_) (fun q => ?_)
      · have h := ite_t q h
        refine lv_aload_n (pc := 79) hx hb dX12_pull_79 rfl (lv_at hl 0 rfl) ?_
        obtain ⟨S14, hc, h⟩ := bndv_t h
        refine s_cvv (pc := 80) [] (fun ad => [.ref (ad 14)]) F w (m_X12_goOn  _ _ hc) rfl rfl hl.1 ds_14 vc_X12 rfl ok_X12_goOn rfl kc_X12_goOn kl_X12_414 ki_X12_goOn kv_X12_goOn kn_X12 ⟨Nat.le_trans (by decide) hR1, Nat.le_trans (by decide) hR2⟩ ⟨Nat.zero_le _, Nat.zero_le _⟩ (Nat.le_of_ble_eq_true rfl) dX12_pull_80 (fun H locs w => ?_)
        refine lv_aload_n (pc := 83) hx hb dX12_pull_83 rfl (lv_at hl 0 rfl) ?_
        refine lv_dup (pc := 84) hx hb dX12_pull_84 rfl ?_
        refine s_getI (pc := 85) F w ds_14 (j := 2) vc_X12 vi_X12 rfl (by decide) kf_X12_204 dX12_pull_85 ?_
        refine lv_iconst (pc := 88) (v := 1) hx hb dX12_pull_88 (by decide) ?_
        refine lv_iadd (pc := 89) hx hb dX12_pull_89 ?_
        refine s_putI (pc := 90) F w ds_14 vc_X12 vi_X12 tyX12_ok nmX12 (j := 2) rfl (by decide) kf_X12_204 rfl pd_I h dX12_pull_90 (fun S15 H locs h w => ?_)
        refine s_nm h (fun z16 ez16 h => ?_)
        refine lv_iinc (pc := 93) (v := z16) (lv' := [(4, .int z16), (0, .ref (ad 14)), (3, .int x3)]) hx hb dX12_pull_93 hl (k := 2) rfl (by rw [ez16]; rfl) (by decide) rfl (fun ls hl => ?_)
        refine lv_goto (pc := 96) (tgt := 53) hx hb dX12_pull_96 (by decide) ?_
        exact ih _ _ _ h _ _ _ w (lv_sub hl [1, 2, 0] rfl)
      · have h := ite_f q h
        refine lv_aload_n (pc := 70) hx hb dX12_pull_70 rfl (lv_at hl 0 rfl) ?_
        refine lv_bipush (pc := 71) (v := 8) hx hb dX12_pull_71 (by decide) ?_
        refine lv_bipush (pc := 73) (v := -2) hx hb dX12_pull_73 (by decide) ?_
        obtain ⟨r18, S17, hc, h⟩ := bnd_t h
        refine s_cvi (pc := 75) [.int (8 : Int32), .int (-2 : Int32)] (fun ad => [.ref (ad 14), .int (8 : Int32), .int (-2 : Int32)]) F w (m_X12_entered _ _ _ _ _ hc) rfl rfl hl.1 ds_14 vc_X12 rfl ok_X12_entered rfl kc_X12_entered kl_X12_349 ki_X12_entered kv_X12_entered kn_X12 ⟨Nat.le_trans (by decide) hR1, Nat.le_trans (by decide) hR2⟩ ⟨Nat.zero_le _, Nat.zero_le _⟩ (Nat.le_of_ble_eq_true rfl) dX12_pull_75 (fun H locs w => ?_)
        exact s_iret F w h dX12_pull_78
set_option maxRecDepth 100000 in
set_option maxHeartbeats 4000000 in
theorem m_X12_pull (a1 : Int32) (a2 : Int32) (a3 : Int32) (S S' : SS) (r : Int32) (h : f_X12_pull a1 a2 a3 S = some (r, S')) : MT yX12_pull cX12_pull 5 (some .int) 4 95 (fun ad => [.ref (ad 14), .int a1, .int a2, .int a3]) S (some (.int r)) S' := by
  refine MT.of RX12 (fun ad => [(0, .ref (ad 14)), (1, .int a1), (2, .int a2), (3, .int a3)]) (by decide) rfl (fun _ => Nat.le_of_ble_eq_true rfl) (fun _ => rfl) ?_
  intro p l e R s m args below meth c dC dI cs ad A hR1 hR2 F H locs ls w hl
  have hx := F.1.1
  have hb := F.1.2.1
  rw [f_X12_pull] at h
  refine lv_iload_n (pc := 0) hx hb dX12_pull_0 rfl (lv_at hl 3 rfl) ?_
  refine lv_iconst (pc := 1) (v := 1) hx hb dX12_pull_1 (by decide) ?_
  refine lv_icmp_lt (pc := 2) (tgt := 12) hx hb dX12_pull_2 (by decide) (fun q => ?_) (fun q => ?_)
  · have h := ite_t q h
    refine lv_iconst (pc := 12) (v := -1) hx hb dX12_pull_12 (by decide) ?_
    exact s_iret F w h dX12_pull_13
  · have h := ite_f q h
    refine lv_iload_n (pc := 5) hx hb dX12_pull_5 rfl (lv_at hl 3 rfl) ?_
    refine lv_sipush (pc := 6) (v := 200) hx hb dX12_pull_6 (by decide) ?_
    refine lv_icmp_le (pc := 9) (tgt := 14) hx hb dX12_pull_9 (by decide) (fun q => ?_) (fun q => ?_)
    · have h := ite_t q h
      refine lv_aload_n (pc := 14) hx hb dX12_pull_14 rfl (lv_at hl 0 rfl) ?_
      obtain ⟨S1, hc, h⟩ := bndv_t h
      refine s_cvv (pc := 15) [] (fun ad => [.ref (ad 14)]) F w (m_X12_begin  _ _ hc) rfl rfl hl.1 ds_14 vc_X12 rfl ok_X12_begin rfl kc_X12_begin kl_X12_226 ki_X12_begin kv_X12_begin kn_X12 ⟨Nat.le_trans (by decide) hR1, Nat.le_trans (by decide) hR2⟩ ⟨Nat.zero_le _, Nat.zero_le _⟩ (Nat.le_of_ble_eq_true rfl) dX12_pull_15 (fun H locs w => ?_)
      refine lv_aload_n (pc := 18) hx hb dX12_pull_18 rfl (lv_at hl 0 rfl) ?_
      obtain ⟨S2, hc, h⟩ := bndv_t h
      refine s_cvv (pc := 19) [] (fun ad => [.ref (ad 14)]) F w (m_X12_keep  _ _ hc) rfl rfl hl.1 ds_14 vc_X12 rfl ok_X12_keep rfl kc_X12_keep kl_X12_346 ki_X12_keep kv_X12_keep kn_X12 ⟨Nat.le_trans (by decide) hR1, Nat.le_trans (by decide) hR2⟩ ⟨Nat.zero_le _, Nat.zero_le _⟩ (Nat.le_of_ble_eq_true rfl) dX12_pull_19 (fun H locs w => ?_)
      refine lv_aload_n (pc := 22) hx hb dX12_pull_22 rfl (lv_at hl 0 rfl) ?_
      refine lv_aload_n (pc := 23) hx hb dX12_pull_23 rfl (lv_at hl 0 rfl) ?_
      refine lv_iload_n (pc := 24) hx hb dX12_pull_24 rfl (lv_at hl 1 rfl) ?_
      refine lv_iload_n (pc := 25) hx hb dX12_pull_25 rfl (lv_at hl 2 rfl) ?_
      obtain ⟨r4, S3, hc, h⟩ := bnd_t h
      refine s_cvi (pc := 26) [.int a1, .int a2] (fun ad => [.ref (ad 14), .int a1, .int a2]) F w (m_X12_missPull _ _ _ _ _ hc) rfl rfl hl.1 ds_14 vc_X12 rfl ok_X12_missPull rfl kc_X12_missPull kl_X12_403 ki_X12_missPull kv_X12_missPull kn_X12 ⟨Nat.le_trans (by decide) hR1, Nat.le_trans (by decide) hR2⟩ ⟨Nat.zero_le _, Nat.zero_le _⟩ (Nat.le_of_ble_eq_true rfl) dX12_pull_26 (fun H locs w => ?_)
      obtain ⟨r6, S5, hc, h⟩ := bnd_t h
      refine s_cvi (pc := 29) [.int r4] (fun ad => [.ref (ad 14), .int r4]) F w (m_X12_ends _ _ _ _ hc) rfl rfl hl.1 ds_14 vc_X12 rfl ok_X12_ends rfl kc_X12_ends kl_X12_236 ki_X12_ends kv_X12_ends kn_X12 ⟨Nat.le_trans (by decide) hR1, Nat.le_trans (by decide) hR2⟩ ⟨Nat.zero_le _, Nat.zero_le _⟩ (Nat.le_of_ble_eq_true rfl) dX12_pull_29 (fun H locs w => ?_)
      refine lv_if_eq (pc := 32) (tgt := 44) hx hb dX12_pull_32 (by decide) (fun q => ?_) (fun q => ?_)
      · have h := ite_t q h
        refine lv_aload_n (pc := 44) hx hb dX12_pull_44 rfl (lv_at hl 0 rfl) ?_
        refine lv_iload_n (pc := 45) hx hb dX12_pull_45 rfl (lv_at hl 1 rfl) ?_
        refine lv_iload_n (pc := 46) hx hb dX12_pull_46 rfl (lv_at hl 2 rfl) ?_
        obtain ⟨S7, hc, h⟩ := bndv_t h
        refine s_cvv (pc := 47) [.int a1, .int a2] (fun ad => [.ref (ad 14), .int a1, .int a2]) F w (m_X12_follow _ _ _ _ hc) rfl rfl hl.1 ds_14 vc_X12 rfl ok_X12_follow rfl kc_X12_follow kl_X12_406 ki_X12_follow kv_X12_follow kn_X12 ⟨Nat.le_trans (by decide) hR1, Nat.le_trans (by decide) hR2⟩ ⟨Nat.zero_le _, Nat.zero_le _⟩ (Nat.le_of_ble_eq_true rfl) dX12_pull_47 (fun H locs w => ?_)
        refine lv_iconst (pc := 50) (v := 0) hx hb dX12_pull_50 (by decide) ?_
        refine lv_istore (pc := 51) (lv' := [(4, .int (0 : Int32)), (0, .ref (ad 14)), (1, .int a1), (2, .int a2), (3, .int a3)]) hx hb dX12_pull_51 hl (by decide) rfl (fun ls hl => ?_)
        exact w_X12_pull_L53 F (Nat.le_trans (by decide) hR1) (Nat.le_trans (by decide) hR2) _ _ _ _ h _ _ _ w (lv_sub hl [1, 4, 0] rfl)
      · have h := ite_f q h
        refine lv_aload_n (pc := 35) hx hb dX12_pull_35 rfl (lv_at hl 0 rfl) ?_
        refine lv_bipush (pc := 36) (v := 8) hx hb dX12_pull_36 (by decide) ?_
        refine lv_bipush (pc := 38) (v := -2) hx hb dX12_pull_38 (by decide) ?_
        obtain ⟨r20, S19, hc, h⟩ := bnd_t h
        refine s_cvi (pc := 40) [.int (8 : Int32), .int (-2 : Int32)] (fun ad => [.ref (ad 14), .int (8 : Int32), .int (-2 : Int32)]) F w (m_X12_entered _ _ _ _ _ hc) rfl rfl hl.1 ds_14 vc_X12 rfl ok_X12_entered rfl kc_X12_entered kl_X12_349 ki_X12_entered kv_X12_entered kn_X12 ⟨Nat.le_trans (by decide) hR1, Nat.le_trans (by decide) hR2⟩ ⟨Nat.zero_le _, Nat.zero_le _⟩ (Nat.le_of_ble_eq_true rfl) dX12_pull_40 (fun H locs w => ?_)
        exact s_iret F w h dX12_pull_43
    · have h := ite_f q h
      refine lv_iconst (pc := 12) (v := -1) hx hb dX12_pull_12 (by decide) ?_
      exact s_iret F w h dX12_pull_13
def f_X0_heavy_j28  (x1 : Int32) (x2 : Int32) (S : SS) : Option (Int32 × SS) :=
    bndv (f_X5_beginBody (12 : Int32) S) (fun S3 =>
    bnd (f_X0_weight x1 S3) (fun r5 S4 =>
    bnd (f_X9_get x1 (1 : Int32) S4) (fun r7 S6 =>
    nm (((2 : Int32) * r5) + r7) (fun z8 =>
    if x2 = 0 then
      some (z8, S6)
    else
      some (z8 + (10 : Int32), S6)))))
def f_X0_heavy_j14  (x1 : Int32) (y0 : Int32) (S : SS) : Option (Int32 × SS) :=
    if y0 = 0 then
      f_X0_heavy_j28 x1 y0 S
    else
      bndv (f_X5_beginBody (13 : Int32) S) (fun S9 =>
      f_X0_heavy_j28 x1 y0 S9)
def f_X0_heavy (a1 : Int32) (S : SS) : Option (Int32 × SS) :=
  bnd (f_X0_kindOf a1 S) (fun r2 S1 =>
  if r2 = (3 : Int32) then
    f_X0_heavy_j14 a1 (1 : Int32) S1
  else
    f_X0_heavy_j14 a1 (0 : Int32) S1)
theorem dX0_heavy_0 : decode cX0_heavy 0 = .ok (.aload_n 0, 1) := by decide +kernel
theorem dX0_heavy_1 : decode cX0_heavy 1 = .ok (.iload_n 1, 1) := by decide +kernel
theorem dX0_heavy_2 : decode cX0_heavy 2 = .ok (.invokevirtual 33, 3) := by decide +kernel
theorem dX0_heavy_5 : decode cX0_heavy 5 = .ok (.iconst 3, 1) := by decide +kernel
theorem dX0_heavy_6 : decode cX0_heavy 6 = .ok (.if_icmp .ne 7, 3) := by decide +kernel
theorem dX0_heavy_9 : decode cX0_heavy 9 = .ok (.iconst 1, 1) := by decide +kernel
theorem dX0_heavy_10 : decode cX0_heavy 10 = .ok (.goto 4, 3) := by decide +kernel
theorem dX0_heavy_13 : decode cX0_heavy 13 = .ok (.iconst 0, 1) := by decide +kernel
theorem dX0_heavy_14 : decode cX0_heavy 14 = .ok (.istore_n 2, 1) := by decide +kernel
theorem dX0_heavy_15 : decode cX0_heavy 15 = .ok (.iload_n 2, 1) := by decide +kernel
theorem dX0_heavy_16 : decode cX0_heavy 16 = .ok (.ifCond .eq 12, 3) := by decide +kernel
theorem dX0_heavy_19 : decode cX0_heavy 19 = .ok (.aload_n 0, 1) := by decide +kernel
theorem dX0_heavy_20 : decode cX0_heavy 20 = .ok (.getfield 23, 3) := by decide +kernel
theorem dX0_heavy_23 : decode cX0_heavy 23 = .ok (.bipush 13, 2) := by decide +kernel
theorem dX0_heavy_25 : decode cX0_heavy 25 = .ok (.invokevirtual 40, 3) := by decide +kernel
theorem dX0_heavy_28 : decode cX0_heavy 28 = .ok (.aload_n 0, 1) := by decide +kernel
theorem dX0_heavy_29 : decode cX0_heavy 29 = .ok (.getfield 23, 3) := by decide +kernel
theorem dX0_heavy_32 : decode cX0_heavy 32 = .ok (.bipush 12, 2) := by decide +kernel
theorem dX0_heavy_34 : decode cX0_heavy 34 = .ok (.invokevirtual 40, 3) := by decide +kernel
theorem dX0_heavy_37 : decode cX0_heavy 37 = .ok (.iconst 2, 1) := by decide +kernel
theorem dX0_heavy_38 : decode cX0_heavy 38 = .ok (.aload_n 0, 1) := by decide +kernel
theorem dX0_heavy_39 : decode cX0_heavy 39 = .ok (.iload_n 1, 1) := by decide +kernel
theorem dX0_heavy_40 : decode cX0_heavy 40 = .ok (.invokevirtual 56, 3) := by decide +kernel
theorem dX0_heavy_43 : decode cX0_heavy 43 = .ok (.imul, 1) := by decide +kernel
theorem dX0_heavy_44 : decode cX0_heavy 44 = .ok (.aload_n 0, 1) := by decide +kernel
theorem dX0_heavy_45 : decode cX0_heavy 45 = .ok (.getfield 19, 3) := by decide +kernel
theorem dX0_heavy_48 : decode cX0_heavy 48 = .ok (.iload_n 1, 1) := by decide +kernel
theorem dX0_heavy_49 : decode cX0_heavy 49 = .ok (.iconst 1, 1) := by decide +kernel
theorem dX0_heavy_50 : decode cX0_heavy 50 = .ok (.invokevirtual 29, 3) := by decide +kernel
theorem dX0_heavy_53 : decode cX0_heavy 53 = .ok (.iadd, 1) := by decide +kernel
theorem dX0_heavy_54 : decode cX0_heavy 54 = .ok (.istore_n 3, 1) := by decide +kernel
theorem dX0_heavy_55 : decode cX0_heavy 55 = .ok (.iload_n 2, 1) := by decide +kernel
theorem dX0_heavy_56 : decode cX0_heavy 56 = .ok (.ifCond .eq 10, 3) := by decide +kernel
theorem dX0_heavy_59 : decode cX0_heavy 59 = .ok (.iload_n 3, 1) := by decide +kernel
theorem dX0_heavy_60 : decode cX0_heavy 60 = .ok (.bipush 10, 2) := by decide +kernel
theorem dX0_heavy_62 : decode cX0_heavy 62 = .ok (.iadd, 1) := by decide +kernel
theorem dX0_heavy_63 : decode cX0_heavy 63 = .ok (.goto 4, 3) := by decide +kernel
theorem dX0_heavy_66 : decode cX0_heavy 66 = .ok (.iload_n 3, 1) := by decide +kernel
theorem dX0_heavy_67 : decode cX0_heavy 67 = .ok (.ireturn, 1) := by decide +kernel
set_option maxRecDepth 100000 in
set_option maxHeartbeats 4000000 in
theorem w_X0_heavy_j28 {p : Program} {l : Launch} {e : Env} {R : Room} {s : State} {m : MethodId} {args : Array Value} {below : List Frame} {meth : Method} {c : Code} {dC : Nat → ClassId} {dI : Nat → Nat → Nat} {cs : Nat → ClassId} {ad : Nat → Nat} {A : Nat → Prop} {D0 : Nat → Nat} {S' : SS} {r : Int32} (F : Fx p s m args meth c cX0_heavy 4 RX0 (some .int) dC dI cs A) (hR1 : 4 ≤ R.frames) (hR2 : 85 ≤ R.locals) (x1 : Int32) (x2 : Int32) (S : SS) (h : f_X0_heavy_j28 x1 x2 S = some (r, S')) : AW p l e R s m args below meth c dC dI cs ad A D0 (some (.int r)) S' 4 28 [(0, .ref (ad 8)), (1, .int x1), (2, .int x2)] [] S := by
  have hx := F.1.1
  have hb := F.1.2.1
  intro H locs ls w hl
  rw [f_X0_heavy_j28] at h
  refine lv_aload_n (pc := 28) hx hb dX0_heavy_28 rfl (lv_at hl 0 rfl) ?_
  refine s_getR (pc := 29) F w 1 ds_8 (j := 2) vc_X0 vi_X0 rfl (by decide) kf_X0_23 dX0_heavy_29 ?_
  refine lv_bipush (pc := 32) (v := 12) hx hb dX0_heavy_32 (by decide) ?_
  obtain ⟨S3, hc, h⟩ := bndv_t h
  refine s_cvv (pc := 34) [.int (12 : Int32)] (fun ad => [.ref (ad 1), .int (12 : Int32)]) F w (m_X5_beginBody _ _ _ hc) rfl rfl hl.1 ds_1 vc_X5 rfl ok_X5_beginBody rfl kc_X5_beginBody kl_X0_40 ki_X5_beginBody kv_X5_beginBody kn_X5 ⟨Nat.le_trans (by decide) hR1, Nat.le_trans (by decide) hR2⟩ ⟨Nat.zero_le _, Nat.zero_le _⟩ (Nat.le_of_ble_eq_true rfl) dX0_heavy_34 (fun H locs w => ?_)
  refine lv_iconst (pc := 37) (v := 2) hx hb dX0_heavy_37 (by decide) ?_
  refine lv_aload_n (pc := 38) hx hb dX0_heavy_38 rfl (lv_at hl 0 rfl) ?_
  refine lv_iload_n (pc := 39) hx hb dX0_heavy_39 rfl (lv_at hl 1 rfl) ?_
  obtain ⟨r5, S4, hc, h⟩ := bnd_t h
  refine s_cvi (pc := 40) [.int x1] (fun ad => [.ref (ad 8), .int x1]) F w (m_X0_weight _ _ _ _ hc) rfl rfl hl.1 ds_8 vc_X0 rfl ok_X0_weight rfl kc_X0_weight kl_X0_56 ki_X0_weight kv_X0_weight kn_X0 ⟨Nat.le_trans (by decide) hR1, Nat.le_trans (by decide) hR2⟩ ⟨Nat.zero_le _, Nat.zero_le _⟩ (Nat.le_of_ble_eq_true rfl) dX0_heavy_40 (fun H locs w => ?_)
  refine lv_imul (pc := 43) hx hb dX0_heavy_43 ?_
  refine lv_aload_n (pc := 44) hx hb dX0_heavy_44 rfl (lv_at hl 0 rfl) ?_
  refine s_getR (pc := 45) F w 4 ds_8 (j := 1) vc_X0 vi_X0 rfl (by decide) kf_X0_19 dX0_heavy_45 ?_
  refine lv_iload_n (pc := 48) hx hb dX0_heavy_48 rfl (lv_at hl 1 rfl) ?_
  refine lv_iconst (pc := 49) (v := 1) hx hb dX0_heavy_49 (by decide) ?_
  obtain ⟨r7, S6, hc, h⟩ := bnd_t h
  refine s_cvi (pc := 50) [.int x1, .int (1 : Int32)] (fun ad => [.ref (ad 4), .int x1, .int (1 : Int32)]) F w (m_X9_get _ _ _ _ _ hc) rfl rfl hl.1 ds_4 vc_X9 rfl ok_X9_get rfl kc_X9_get kl_X0_29 ki_X9_get kv_X9_get kn_X9 ⟨Nat.le_trans (by decide) hR1, Nat.le_trans (by decide) hR2⟩ ⟨Nat.zero_le _, Nat.zero_le _⟩ (Nat.le_of_ble_eq_true rfl) dX0_heavy_50 (fun H locs w => ?_)
  refine lv_iadd (pc := 53) hx hb dX0_heavy_53 ?_
  refine s_nm h (fun z8 ez8 h => ?_)
  rw [← ez8]
  refine lv_istore_n (pc := 54) (lv' := [(3, .int z8), (0, .ref (ad 8)), (1, .int x1), (2, .int x2)]) hx hb dX0_heavy_54 rfl hl (by decide) rfl (fun ls hl => ?_)
  refine lv_iload_n (pc := 55) hx hb dX0_heavy_55 rfl (lv_at hl 3 rfl) ?_
  refine lv_if_eq (pc := 56) (tgt := 66) hx hb dX0_heavy_56 (by decide) (fun q => ?_) (fun q => ?_)
  · have h := ite_t q h
    refine lv_iload_n (pc := 66) hx hb dX0_heavy_66 rfl (lv_at hl 0 rfl) ?_
    exact s_iret F w h dX0_heavy_67
  · have h := ite_f q h
    refine lv_iload_n (pc := 59) hx hb dX0_heavy_59 rfl (lv_at hl 0 rfl) ?_
    refine lv_bipush (pc := 60) (v := 10) hx hb dX0_heavy_60 (by decide) ?_
    refine lv_iadd (pc := 62) hx hb dX0_heavy_62 ?_
    refine lv_goto (pc := 63) (tgt := 67) hx hb dX0_heavy_63 (by decide) ?_
    exact s_iret F w h dX0_heavy_67
set_option maxRecDepth 100000 in
set_option maxHeartbeats 4000000 in
theorem w_X0_heavy_j14 {p : Program} {l : Launch} {e : Env} {R : Room} {s : State} {m : MethodId} {args : Array Value} {below : List Frame} {meth : Method} {c : Code} {dC : Nat → ClassId} {dI : Nat → Nat → Nat} {cs : Nat → ClassId} {ad : Nat → Nat} {A : Nat → Prop} {D0 : Nat → Nat} {S' : SS} {r : Int32} (F : Fx p s m args meth c cX0_heavy 4 RX0 (some .int) dC dI cs A) (hR1 : 4 ≤ R.frames) (hR2 : 85 ≤ R.locals) (x1 : Int32) (y0 : Int32) (S : SS) (h : f_X0_heavy_j14 x1 y0 S = some (r, S')) : AW p l e R s m args below meth c dC dI cs ad A D0 (some (.int r)) S' 4 14 [(0, .ref (ad 8)), (1, .int x1)] [.int y0] S := by
  have hx := F.1.1
  have hb := F.1.2.1
  intro H locs ls w hl
  rw [f_X0_heavy_j14] at h
  refine lv_istore_n (pc := 14) (lv' := [(2, .int y0), (0, .ref (ad 8)), (1, .int x1)]) hx hb dX0_heavy_14 rfl hl (by decide) rfl (fun ls hl => ?_)
  refine lv_iload_n (pc := 15) hx hb dX0_heavy_15 rfl (lv_at hl 0 rfl) ?_
  refine lv_if_eq (pc := 16) (tgt := 28) hx hb dX0_heavy_16 (by decide) (fun q => ?_) (fun q => ?_)
  · have h := ite_t q h
    exact w_X0_heavy_j28 F (Nat.le_trans (by decide) hR1) (Nat.le_trans (by decide) hR2) _ _ _ h _ _ _ w (lv_sub hl [1, 2, 0] rfl)
  · have h := ite_f q h
    refine lv_aload_n (pc := 19) hx hb dX0_heavy_19 rfl (lv_at hl 1 rfl) ?_
    refine s_getR (pc := 20) F w 1 ds_8 (j := 2) vc_X0 vi_X0 rfl (by decide) kf_X0_23 dX0_heavy_20 ?_
    refine lv_bipush (pc := 23) (v := 13) hx hb dX0_heavy_23 (by decide) ?_
    obtain ⟨S9, hc, h⟩ := bndv_t h
    refine s_cvv (pc := 25) [.int (13 : Int32)] (fun ad => [.ref (ad 1), .int (13 : Int32)]) F w (m_X5_beginBody _ _ _ hc) rfl rfl hl.1 ds_1 vc_X5 rfl ok_X5_beginBody rfl kc_X5_beginBody kl_X0_40 ki_X5_beginBody kv_X5_beginBody kn_X5 ⟨Nat.le_trans (by decide) hR1, Nat.le_trans (by decide) hR2⟩ ⟨Nat.zero_le _, Nat.zero_le _⟩ (Nat.le_of_ble_eq_true rfl) dX0_heavy_25 (fun H locs w => ?_)
    exact w_X0_heavy_j28 F (Nat.le_trans (by decide) hR1) (Nat.le_trans (by decide) hR2) _ _ _ h _ _ _ w (lv_sub hl [1, 2, 0] rfl)
set_option maxRecDepth 100000 in
set_option maxHeartbeats 4000000 in
theorem m_X0_heavy (a1 : Int32) (S S' : SS) (r : Int32) (h : f_X0_heavy a1 S = some (r, S')) : MT yX0_heavy cX0_heavy 4 (some .int) 4 85 (fun ad => [.ref (ad 8), .int a1]) S (some (.int r)) S' := by
  refine MT.of RX0 (fun ad => [(0, .ref (ad 8)), (1, .int a1)]) (by decide) rfl (fun _ => Nat.le_of_ble_eq_true rfl) (fun _ => rfl) ?_
  intro p l e R s m args below meth c dC dI cs ad A hR1 hR2 F H locs ls w hl
  have hx := F.1.1
  have hb := F.1.2.1
  rw [f_X0_heavy] at h
  refine lv_aload_n (pc := 0) hx hb dX0_heavy_0 rfl (lv_at hl 0 rfl) ?_
  refine lv_iload_n (pc := 1) hx hb dX0_heavy_1 rfl (lv_at hl 1 rfl) ?_
  obtain ⟨r2, S1, hc, h⟩ := bnd_t h
  refine s_cvi (pc := 2) [.int a1] (fun ad => [.ref (ad 8), .int a1]) F w (m_X0_kindOf _ _ _ _ hc) rfl rfl hl.1 ds_8 vc_X0 rfl ok_X0_kindOf rfl kc_X0_kindOf kl_X0_33 ki_X0_kindOf kv_X0_kindOf kn_X0 ⟨Nat.le_trans (by decide) hR1, Nat.le_trans (by decide) hR2⟩ ⟨Nat.zero_le _, Nat.zero_le _⟩ (Nat.le_of_ble_eq_true rfl) dX0_heavy_2 (fun H locs w => ?_)
  refine lv_iconst (pc := 5) (v := 3) hx hb dX0_heavy_5 (by decide) ?_
  refine lv_icmp_ne (pc := 6) (tgt := 13) hx hb dX0_heavy_6 (by decide) (fun q => ?_) (fun q => ?_)
  · have h := ite_f q h
    refine lv_iconst (pc := 13) (v := 0) hx hb dX0_heavy_13 (by decide) ?_
    exact w_X0_heavy_j14 F (Nat.le_trans (by decide) hR1) (Nat.le_trans (by decide) hR2) _ _ _ h _ _ _ w (lv_sub hl [0, 1] rfl)
  · have h := ite_t q h
    refine lv_iconst (pc := 9) (v := 1) hx hb dX0_heavy_9 (by decide) ?_
    refine lv_goto (pc := 10) (tgt := 14) hx hb dX0_heavy_10 (by decide) ?_
    exact w_X0_heavy_j14 F (Nat.le_trans (by decide) hR1) (Nat.le_trans (by decide) hR2) _ _ _ h _ _ _ w (lv_sub hl [0, 1] rfl)
def f_X8_beginRun (a1 : Int32) (a2 : Int32) (a3 : Int32) (S : SS) : Option (SS) :=
  if a3 ≤ 0 then
    some S
  else
    grd (inb (1 : Int32) 946) (
    if (S.1 19 (1 : Int32).toNatClampNeg) < (72 : Int32) then
      bndv (f_X8_set a1 (8 : Int32) a3 S) (fun S1 =>
      bndv (f_X8_set a1 (9 : Int32) a2 S1) (fun S2 =>
      grd (inb (1 : Int32) 946) (
      grd (inb ((2 : Int32) + (S2.1 19 (1 : Int32).toNatClampNeg)) 946) (wr S2 19 ((2 : Int32) + (S2.1 19 (1 : Int32).toNatClampNeg)).toNatClampNeg a1 (fun S3 =>
      grd (inb (1 : Int32) 946) (
      grd (inb (1 : Int32) 946) (wr S3 19 (1 : Int32).toNatClampNeg ((S3.1 19 (1 : Int32).toNatClampNeg) + (1 : Int32)) (fun S4 =>
      some S4))))))))
    else
      some S)
theorem dX8_beginRun_0 : decode cX8_beginRun 0 = .ok (.iload_n 3, 1) := by decide +kernel
theorem dX8_beginRun_1 : decode cX8_beginRun 1 = .ok (.ifCond .le 14, 3) := by decide +kernel
theorem dX8_beginRun_4 : decode cX8_beginRun 4 = .ok (.aload_n 0, 1) := by decide +kernel
theorem dX8_beginRun_5 : decode cX8_beginRun 5 = .ok (.getfield 13, 3) := by decide +kernel
theorem dX8_beginRun_8 : decode cX8_beginRun 8 = .ok (.iconst 1, 1) := by decide +kernel
theorem dX8_beginRun_9 : decode cX8_beginRun 9 = .ok (.iaload, 1) := by decide +kernel
theorem dX8_beginRun_10 : decode cX8_beginRun 10 = .ok (.bipush 72, 2) := by decide +kernel
theorem dX8_beginRun_12 : decode cX8_beginRun 12 = .ok (.if_icmp .lt 4, 3) := by decide +kernel
theorem dX8_beginRun_15 : decode cX8_beginRun 15 = .ok (.return_, 1) := by decide +kernel
theorem dX8_beginRun_16 : decode cX8_beginRun 16 = .ok (.aload_n 0, 1) := by decide +kernel
theorem dX8_beginRun_17 : decode cX8_beginRun 17 = .ok (.iload_n 1, 1) := by decide +kernel
theorem dX8_beginRun_18 : decode cX8_beginRun 18 = .ok (.bipush 8, 2) := by decide +kernel
theorem dX8_beginRun_20 : decode cX8_beginRun 20 = .ok (.iload_n 3, 1) := by decide +kernel
theorem dX8_beginRun_21 : decode cX8_beginRun 21 = .ok (.invokevirtual 27, 3) := by decide +kernel
theorem dX8_beginRun_24 : decode cX8_beginRun 24 = .ok (.aload_n 0, 1) := by decide +kernel
theorem dX8_beginRun_25 : decode cX8_beginRun 25 = .ok (.iload_n 1, 1) := by decide +kernel
theorem dX8_beginRun_26 : decode cX8_beginRun 26 = .ok (.bipush 9, 2) := by decide +kernel
theorem dX8_beginRun_28 : decode cX8_beginRun 28 = .ok (.iload_n 2, 1) := by decide +kernel
theorem dX8_beginRun_29 : decode cX8_beginRun 29 = .ok (.invokevirtual 27, 3) := by decide +kernel
theorem dX8_beginRun_32 : decode cX8_beginRun 32 = .ok (.aload_n 0, 1) := by decide +kernel
theorem dX8_beginRun_33 : decode cX8_beginRun 33 = .ok (.getfield 13, 3) := by decide +kernel
theorem dX8_beginRun_36 : decode cX8_beginRun 36 = .ok (.iconst 2, 1) := by decide +kernel
theorem dX8_beginRun_37 : decode cX8_beginRun 37 = .ok (.aload_n 0, 1) := by decide +kernel
theorem dX8_beginRun_38 : decode cX8_beginRun 38 = .ok (.getfield 13, 3) := by decide +kernel
theorem dX8_beginRun_41 : decode cX8_beginRun 41 = .ok (.iconst 1, 1) := by decide +kernel
theorem dX8_beginRun_42 : decode cX8_beginRun 42 = .ok (.iaload, 1) := by decide +kernel
theorem dX8_beginRun_43 : decode cX8_beginRun 43 = .ok (.iadd, 1) := by decide +kernel
theorem dX8_beginRun_44 : decode cX8_beginRun 44 = .ok (.iload_n 1, 1) := by decide +kernel
theorem dX8_beginRun_45 : decode cX8_beginRun 45 = .ok (.iastore, 1) := by decide +kernel
theorem dX8_beginRun_46 : decode cX8_beginRun 46 = .ok (.aload_n 0, 1) := by decide +kernel
theorem dX8_beginRun_47 : decode cX8_beginRun 47 = .ok (.getfield 13, 3) := by decide +kernel
theorem dX8_beginRun_50 : decode cX8_beginRun 50 = .ok (.iconst 1, 1) := by decide +kernel
theorem dX8_beginRun_51 : decode cX8_beginRun 51 = .ok (.dup2, 1) := by decide +kernel
theorem dX8_beginRun_52 : decode cX8_beginRun 52 = .ok (.iaload, 1) := by decide +kernel
theorem dX8_beginRun_53 : decode cX8_beginRun 53 = .ok (.iconst 1, 1) := by decide +kernel
theorem dX8_beginRun_54 : decode cX8_beginRun 54 = .ok (.iadd, 1) := by decide +kernel
theorem dX8_beginRun_55 : decode cX8_beginRun 55 = .ok (.iastore, 1) := by decide +kernel
theorem dX8_beginRun_56 : decode cX8_beginRun 56 = .ok (.return_, 1) := by decide +kernel
set_option maxRecDepth 100000 in
set_option maxHeartbeats 4000000 in
theorem m_X8_beginRun (a1 : Int32) (a2 : Int32) (a3 : Int32) (S S' : SS) (h : f_X8_beginRun a1 a2 a3 S = some S') : MT yX8_beginRun cX8_beginRun 4 none 1 23 (fun ad => [.ref (ad 2), .int a1, .int a2, .int a3]) S none S' := by
  refine MT.of RX8 (fun ad => [(0, .ref (ad 2)), (1, .int a1), (2, .int a2), (3, .int a3)]) (by decide) rfl (fun _ => Nat.le_of_ble_eq_true rfl) (fun _ => rfl) ?_
  intro p l e R s m args below meth c dC dI cs ad A hR1 hR2 F H locs ls w hl
  have hx := F.1.1
  have hb := F.1.2.1
  rw [f_X8_beginRun] at h
  refine lv_iload_n (pc := 0) hx hb dX8_beginRun_0 rfl (lv_at hl 3 rfl) ?_
  refine lv_if_le (pc := 1) (tgt := 15) hx hb dX8_beginRun_1 (by decide) (fun q => ?_) (fun q => ?_)
  · have h := ite_t q h
    exact s_vret F w h dX8_beginRun_15
  · have h := ite_f q h
    refine lv_aload_n (pc := 4) hx hb dX8_beginRun_4 rfl (lv_at hl 0 rfl) ?_
    refine s_getR (pc := 5) F w 19 ds_2 (j := 0) vc_X8 vi_X8 rfl (by decide) kf_X8_13 dX8_beginRun_5 ?_
    refine lv_iconst (pc := 8) (v := 1) hx hb dX8_beginRun_8 (by decide) ?_
    refine s_iald (pc := 9) F w ds_19 h dX8_beginRun_9 (fun h => ?_)
    refine lv_bipush (pc := 10) (v := 72) hx hb dX8_beginRun_10 (by decide) ?_
    refine lv_icmp_lt (pc := 12) (tgt := 16) hx hb dX8_beginRun_12 (by decide) (fun q => ?_) (fun q => ?_)
    · have h := ite_t q h
      refine lv_aload_n (pc := 16) hx hb dX8_beginRun_16 rfl (lv_at hl 0 rfl) ?_
      refine lv_iload_n (pc := 17) hx hb dX8_beginRun_17 rfl (lv_at hl 1 rfl) ?_
      refine lv_bipush (pc := 18) (v := 8) hx hb dX8_beginRun_18 (by decide) ?_
      refine lv_iload_n (pc := 20) hx hb dX8_beginRun_20 rfl (lv_at hl 3 rfl) ?_
      obtain ⟨S1, hc, h⟩ := bndv_t h
      refine s_cvv (pc := 21) [.int a1, .int (8 : Int32), .int a3] (fun ad => [.ref (ad 2), .int a1, .int (8 : Int32), .int a3]) F w (m_X8_set _ _ _ _ _ hc) rfl rfl hl.1 ds_2 vc_X8 rfl ok_X8_set rfl kc_X8_set kl_X8_27 ki_X8_set kv_X8_set kn_X8 ⟨Nat.le_trans (by decide) hR1, Nat.le_trans (by decide) hR2⟩ ⟨Nat.zero_le _, Nat.zero_le _⟩ (Nat.le_of_ble_eq_true rfl) dX8_beginRun_21 (fun H locs w => ?_)
      refine lv_aload_n (pc := 24) hx hb dX8_beginRun_24 rfl (lv_at hl 0 rfl) ?_
      refine lv_iload_n (pc := 25) hx hb dX8_beginRun_25 rfl (lv_at hl 1 rfl) ?_
      refine lv_bipush (pc := 26) (v := 9) hx hb dX8_beginRun_26 (by decide) ?_
      refine lv_iload_n (pc := 28) hx hb dX8_beginRun_28 rfl (lv_at hl 2 rfl) ?_
      obtain ⟨S2, hc, h⟩ := bndv_t h
      refine s_cvv (pc := 29) [.int a1, .int (9 : Int32), .int a2] (fun ad => [.ref (ad 2), .int a1, .int (9 : Int32), .int a2]) F w (m_X8_set _ _ _ _ _ hc) rfl rfl hl.1 ds_2 vc_X8 rfl ok_X8_set rfl kc_X8_set kl_X8_27 ki_X8_set kv_X8_set kn_X8 ⟨Nat.le_trans (by decide) hR1, Nat.le_trans (by decide) hR2⟩ ⟨Nat.zero_le _, Nat.zero_le _⟩ (Nat.le_of_ble_eq_true rfl) dX8_beginRun_29 (fun H locs w => ?_)
      refine lv_aload_n (pc := 32) hx hb dX8_beginRun_32 rfl (lv_at hl 0 rfl) ?_
      refine s_getR (pc := 33) F w 19 ds_2 (j := 0) vc_X8 vi_X8 rfl (by decide) kf_X8_13 dX8_beginRun_33 ?_
      refine lv_iconst (pc := 36) (v := 2) hx hb dX8_beginRun_36 (by decide) ?_
      refine lv_aload_n (pc := 37) hx hb dX8_beginRun_37 rfl (lv_at hl 0 rfl) ?_
      refine s_getR (pc := 38) F w 19 ds_2 (j := 0) vc_X8 vi_X8 rfl (by decide) kf_X8_13 dX8_beginRun_38 ?_
      refine lv_iconst (pc := 41) (v := 1) hx hb dX8_beginRun_41 (by decide) ?_
      refine s_iald (pc := 42) F w ds_19 h dX8_beginRun_42 (fun h => ?_)
      refine lv_iadd (pc := 43) hx hb dX8_beginRun_43 ?_
      refine lv_iload_n (pc := 44) hx hb dX8_beginRun_44 rfl (lv_at hl 1 rfl) ?_
      refine s_iast (pc := 45) F w ds_19 h dX8_beginRun_45 (fun S3 H locs h w => ?_)
      refine lv_aload_n (pc := 46) hx hb dX8_beginRun_46 rfl (lv_at hl 0 rfl) ?_
      refine s_getR (pc := 47) F w 19 ds_2 (j := 0) vc_X8 vi_X8 rfl (by decide) kf_X8_13 dX8_beginRun_47 ?_
      refine lv_iconst (pc := 50) (v := 1) hx hb dX8_beginRun_50 (by decide) ?_
      refine lv_dup2_11 (pc := 51) hx hb dX8_beginRun_51 rfl rfl ?_
      refine s_iald (pc := 52) F w ds_19 h dX8_beginRun_52 (fun h => ?_)
      refine lv_iconst (pc := 53) (v := 1) hx hb dX8_beginRun_53 (by decide) ?_
      refine lv_iadd (pc := 54) hx hb dX8_beginRun_54 ?_
      refine s_iast (pc := 55) F w ds_19 h dX8_beginRun_55 (fun S4 H locs h w => ?_)
      exact s_vret F w h dX8_beginRun_56
    · have h := ite_f q h
      exact s_vret F w h dX8_beginRun_15
