/-! ===== printed by wip/gen: X12_nextRunning X12_stop X12_run X12_step X0_flatBrake X0_engineBrake X0_brake X0_perAxle X11_testAll X11_test X12_brake X12_perAxle ===== -/
def f_X12_nextRunning_j64 (K5 : Int32 → Int32 → Int32 → SS → Option (Int32 × SS)) (x1 : Int32) (x2 : Int32) (x3 : Int32) (S : SS) : Option (Int32 × SS) :=
    nm (x3 + (1 : Int32)) (fun z1 =>
    K5 x1 x2 z1 S)
def f_X12_nextRunning_j62 (K5 : Int32 → Int32 → Int32 → SS → Option (Int32 × SS)) (x1 : Int32) (x3 : Int32) (S : SS) : Option (Int32 × SS) :=
    f_X12_nextRunning_j64 K5 x1 x3 x3 S
def f_X12_nextRunning_L5  : Nat → Int32 → Int32 → Int32 → SS → Option (Int32 × SS)
  | 0, _, _, _, _ => none
  | n + 1, x1, x2, x3, S =>
    if (S.1 14 29) ≤ x3 then
      some (x2, S)
    else
      grd (inb x3 72) (
      if (S.1 86 x3.toNatClampNeg) = 0 then
        f_X12_nextRunning_j64 (fun v0 v1 v2 S => f_X12_nextRunning_L5 n v0 v1 v2 S) x1 x2 x3 S
      else
        grd (inb x3 72) (
        if (S.1 98 x3.toNatClampNeg) = 0 then
          f_X12_nextRunning_j64 (fun v0 v1 v2 S => f_X12_nextRunning_L5 n v0 v1 v2 S) x1 x2 x3 S
        else
          grd (inb x3 72) (
          if (S.1 100 x3.toNatClampNeg) ≤ x1 then
            f_X12_nextRunning_j64 (fun v0 v1 v2 S => f_X12_nextRunning_L5 n v0 v1 v2 S) x1 x2 x3 S
          else
            if x2 = (-4 : Int32) then
              f_X12_nextRunning_j62 (fun v0 v1 v2 S => f_X12_nextRunning_L5 n v0 v1 v2 S) x1 x3 S
            else
              grd (inb x3 72) (
              grd (inb x2 72) (
              if (S.1 100 x2.toNatClampNeg) ≤ (S.1 100 x3.toNatClampNeg) then
                f_X12_nextRunning_j64 (fun v0 v1 v2 S => f_X12_nextRunning_L5 n v0 v1 v2 S) x1 x2 x3 S
              else
                f_X12_nextRunning_j62 (fun v0 v1 v2 S => f_X12_nextRunning_L5 n v0 v1 v2 S) x1 x3 S)))))
def f_X12_nextRunning (a1 : Int32) (S : SS) : Option (Int32 × SS) :=
  f_X12_nextRunning_L5 NF a1 (-4 : Int32) (0 : Int32) S
theorem dX12_nextRunning_0 : decode cX12_nextRunning 0 = .ok (.bipush (-4), 2) := by decide +kernel
theorem dX12_nextRunning_2 : decode cX12_nextRunning 2 = .ok (.istore_n 2, 1) := by decide +kernel
theorem dX12_nextRunning_3 : decode cX12_nextRunning 3 = .ok (.iconst 0, 1) := by decide +kernel
theorem dX12_nextRunning_4 : decode cX12_nextRunning 4 = .ok (.istore_n 3, 1) := by decide +kernel
theorem dX12_nextRunning_5 : decode cX12_nextRunning 5 = .ok (.iload_n 3, 1) := by decide +kernel
theorem dX12_nextRunning_6 : decode cX12_nextRunning 6 = .ok (.aload_n 0, 1) := by decide +kernel
theorem dX12_nextRunning_7 : decode cX12_nextRunning 7 = .ok (.getfield 269, 3) := by decide +kernel
theorem dX12_nextRunning_10 : decode cX12_nextRunning 10 = .ok (.if_icmp .ge 60, 3) := by decide +kernel
theorem dX12_nextRunning_13 : decode cX12_nextRunning 13 = .ok (.aload_n 0, 1) := by decide +kernel
theorem dX12_nextRunning_14 : decode cX12_nextRunning 14 = .ok (.getfield 72, 3) := by decide +kernel
theorem dX12_nextRunning_17 : decode cX12_nextRunning 17 = .ok (.iload_n 3, 1) := by decide +kernel
theorem dX12_nextRunning_18 : decode cX12_nextRunning 18 = .ok (.baload, 1) := by decide +kernel
theorem dX12_nextRunning_19 : decode cX12_nextRunning 19 = .ok (.ifCond .eq 45, 3) := by decide +kernel
theorem dX12_nextRunning_22 : decode cX12_nextRunning 22 = .ok (.aload_n 0, 1) := by decide +kernel
theorem dX12_nextRunning_23 : decode cX12_nextRunning 23 = .ok (.getfield 108, 3) := by decide +kernel
theorem dX12_nextRunning_26 : decode cX12_nextRunning 26 = .ok (.iload_n 3, 1) := by decide +kernel
theorem dX12_nextRunning_27 : decode cX12_nextRunning 27 = .ok (.baload, 1) := by decide +kernel
theorem dX12_nextRunning_28 : decode cX12_nextRunning 28 = .ok (.ifCond .eq 36, 3) := by decide +kernel
theorem dX12_nextRunning_31 : decode cX12_nextRunning 31 = .ok (.aload_n 0, 1) := by decide +kernel
theorem dX12_nextRunning_32 : decode cX12_nextRunning 32 = .ok (.getfield 114, 3) := by decide +kernel
theorem dX12_nextRunning_35 : decode cX12_nextRunning 35 = .ok (.iload_n 3, 1) := by decide +kernel
theorem dX12_nextRunning_36 : decode cX12_nextRunning 36 = .ok (.iaload, 1) := by decide +kernel
theorem dX12_nextRunning_37 : decode cX12_nextRunning 37 = .ok (.iload_n 1, 1) := by decide +kernel
theorem dX12_nextRunning_38 : decode cX12_nextRunning 38 = .ok (.if_icmp .le 26, 3) := by decide +kernel
theorem dX12_nextRunning_41 : decode cX12_nextRunning 41 = .ok (.iload_n 2, 1) := by decide +kernel
theorem dX12_nextRunning_42 : decode cX12_nextRunning 42 = .ok (.bipush (-4), 2) := by decide +kernel
theorem dX12_nextRunning_44 : decode cX12_nextRunning 44 = .ok (.if_icmp .eq 18, 3) := by decide +kernel
theorem dX12_nextRunning_47 : decode cX12_nextRunning 47 = .ok (.aload_n 0, 1) := by decide +kernel
theorem dX12_nextRunning_48 : decode cX12_nextRunning 48 = .ok (.getfield 114, 3) := by decide +kernel
theorem dX12_nextRunning_51 : decode cX12_nextRunning 51 = .ok (.iload_n 3, 1) := by decide +kernel
theorem dX12_nextRunning_52 : decode cX12_nextRunning 52 = .ok (.iaload, 1) := by decide +kernel
theorem dX12_nextRunning_53 : decode cX12_nextRunning 53 = .ok (.aload_n 0, 1) := by decide +kernel
theorem dX12_nextRunning_54 : decode cX12_nextRunning 54 = .ok (.getfield 114, 3) := by decide +kernel
theorem dX12_nextRunning_57 : decode cX12_nextRunning 57 = .ok (.iload_n 2, 1) := by decide +kernel
theorem dX12_nextRunning_58 : decode cX12_nextRunning 58 = .ok (.iaload, 1) := by decide +kernel
theorem dX12_nextRunning_59 : decode cX12_nextRunning 59 = .ok (.if_icmp .ge 5, 3) := by decide +kernel
theorem dX12_nextRunning_62 : decode cX12_nextRunning 62 = .ok (.iload_n 3, 1) := by decide +kernel
theorem dX12_nextRunning_63 : decode cX12_nextRunning 63 = .ok (.istore_n 2, 1) := by decide +kernel
theorem dX12_nextRunning_64 : decode cX12_nextRunning 64 = .ok (.iinc 3 1, 3) := by decide +kernel
theorem dX12_nextRunning_67 : decode cX12_nextRunning 67 = .ok (.goto (-62), 3) := by decide +kernel
theorem dX12_nextRunning_70 : decode cX12_nextRunning 70 = .ok (.iload_n 2, 1) := by decide +kernel
theorem dX12_nextRunning_71 : decode cX12_nextRunning 71 = .ok (.ireturn, 1) := by decide +kernel
set_option maxRecDepth 100000 in
set_option maxHeartbeats 4000000 in
theorem w_X12_nextRunning_j64 {p : Program} {l : Launch} {e : Env} {R : Room} {s : State} {m : MethodId} {args : Array Value} {below : List Frame} {meth : Method} {c : Code} {dC : Nat → ClassId} {dI : Nat → Nat → Nat} {cs : Nat → ClassId} {ad : Nat → Nat} {A : Nat → Prop} {D0 : Nat → Nat} {S' : SS} {r : Int32} (F : Fx p s m args meth c cX12_nextRunning 4 RX12 (some .int) dC dI cs A) (hR1 : 0 ≤ R.frames) (hR2 : 0 ≤ R.locals) (K5 : Int32 → Int32 → Int32 → SS → Option (Int32 × SS)) (hK5 : ∀ (v0 : Int32) (v1 : Int32) (v2 : Int32) (S : SS), K5 v0 v1 v2 S = some (r, S') → AW p l e R s m args below meth c dC dI cs ad A D0 (some (.int r)) S' 4 5 [(0, .ref (ad 14)), (1, .int v0), (2, .int v1), (3, .int v2)] [] S) (x1 : Int32) (x2 : Int32) (x3 : Int32) (S : SS) (h : f_X12_nextRunning_j64 K5 x1 x2 x3 S = some (r, S')) : AW p l e R s m args below meth c dC dI cs ad A D0 (some (.int r)) S' 4 64 [(0, .ref (ad 14)), (1, .int x1), (2, .int x2), (3, .int x3)] [] S := by
  have hx := F.1.1
  have hb := F.1.2.1
  intro H locs ls w hl
  rw [f_X12_nextRunning_j64] at h
  refine s_nm h (fun z1 ez1 h => ?_)
  refine lv_iinc (pc := 64) (v := z1) (lv' := [(3, .int z1), (0, .ref (ad 14)), (1, .int x1), (2, .int x2)]) hx hb dX12_nextRunning_64 hl (k := 3) rfl (by rw [ez1]; rfl) (by decide) rfl (fun ls hl => ?_)
  refine lv_goto (pc := 67) (tgt := 5) hx hb dX12_nextRunning_67 (by decide) ?_
  exact hK5 _ _ _ _ h _ _ _ w (lv_sub hl [1, 2, 3, 0] rfl)
set_option maxRecDepth 100000 in
set_option maxHeartbeats 4000000 in
theorem w_X12_nextRunning_j62 {p : Program} {l : Launch} {e : Env} {R : Room} {s : State} {m : MethodId} {args : Array Value} {below : List Frame} {meth : Method} {c : Code} {dC : Nat → ClassId} {dI : Nat → Nat → Nat} {cs : Nat → ClassId} {ad : Nat → Nat} {A : Nat → Prop} {D0 : Nat → Nat} {S' : SS} {r : Int32} (F : Fx p s m args meth c cX12_nextRunning 4 RX12 (some .int) dC dI cs A) (hR1 : 0 ≤ R.frames) (hR2 : 0 ≤ R.locals) (K5 : Int32 → Int32 → Int32 → SS → Option (Int32 × SS)) (hK5 : ∀ (v0 : Int32) (v1 : Int32) (v2 : Int32) (S : SS), K5 v0 v1 v2 S = some (r, S') → AW p l e R s m args below meth c dC dI cs ad A D0 (some (.int r)) S' 4 5 [(0, .ref (ad 14)), (1, .int v0), (2, .int v1), (3, .int v2)] [] S) (x1 : Int32) (x3 : Int32) (S : SS) (h : f_X12_nextRunning_j62 K5 x1 x3 S = some (r, S')) : AW p l e R s m args below meth c dC dI cs ad A D0 (some (.int r)) S' 4 62 [(0, .ref (ad 14)), (1, .int x1), (3, .int x3)] [] S := by
  have hx := F.1.1
  have hb := F.1.2.1
  intro H locs ls w hl
  rw [f_X12_nextRunning_j62] at h
  refine lv_iload_n (pc := 62) hx hb dX12_nextRunning_62 rfl (lv_at hl 2 rfl) ?_
  refine lv_istore_n (pc := 63) (lv' := [(2, .int x3), (0, .ref (ad 14)), (1, .int x1), (3, .int x3)]) hx hb dX12_nextRunning_63 rfl hl (by decide) rfl (fun ls hl => ?_)
  exact w_X12_nextRunning_j64 F (Nat.le_trans (by decide) hR1) (Nat.le_trans (by decide) hR2) _ hK5 _ _ _ _ h _ _ _ w (lv_sub hl [1, 2, 0, 3] rfl)
set_option maxRecDepth 100000 in
set_option maxHeartbeats 4000000 in
theorem w_X12_nextRunning_L5 {p : Program} {l : Launch} {e : Env} {R : Room} {s : State} {m : MethodId} {args : Array Value} {below : List Frame} {meth : Method} {c : Code} {dC : Nat → ClassId} {dI : Nat → Nat → Nat} {cs : Nat → ClassId} {ad : Nat → Nat} {A : Nat → Prop} {D0 : Nat → Nat} {S' : SS} {r : Int32} (F : Fx p s m args meth c cX12_nextRunning 4 RX12 (some .int) dC dI cs A) (hR1 : 0 ≤ R.frames) (hR2 : 0 ≤ R.locals) : ∀ (n : Nat) (x1 : Int32) (x2 : Int32) (x3 : Int32) (S : SS), f_X12_nextRunning_L5 n x1 x2 x3 S = some (r, S') → AW p l e R s m args below meth c dC dI cs ad A D0 (some (.int r)) S' 4 5 [(0, .ref (ad 14)), (1, .int x1), (2, .int x2), (3, .int x3)] [] S := by
  have hx := F.1.1
  have hb := F.1.2.1
  intro n
  induction n with
  | zero => intro x1 x2 x3 S h; cases h
  | succ n ih =>
    intro x1 x2 x3 S h H locs ls w hl
    rw [f_X12_nextRunning_L5] at h
    refine lv_iload_n (pc := 5) hx hb dX12_nextRunning_5 rfl (lv_at hl 3 rfl) ?_
    refine lv_aload_n (pc := 6) hx hb dX12_nextRunning_6 rfl (lv_at hl 0 rfl) ?_
    refine s_getI (pc := 7) F w ds_14 (j := 29) vc_X12 vi_X12 rfl (by decide) kf_X12_269 dX12_nextRunning_7 ?_
    refine lv_icmp_ge (pc := 10) (tgt := 70) hx hb dX12_nextRunning_10 (by decide) (fun q => ?_) (fun q => ?_)
    · have h := ite_t q h
      refine lv_iload_n (pc := 70) hx hb dX12_nextRunning_70 rfl (lv_at hl 2 rfl) ?_
      exact s_iret F w h dX12_nextRunning_71
    · have h := ite_f q h
      refine lv_aload_n (pc := 13) hx hb dX12_nextRunning_13 rfl (lv_at hl 0 rfl) ?_
      refine s_getR (pc := 14) F w 86 ds_14 (j := 31) vc_X12 vi_X12 rfl (by decide) kf_X12_72 dX12_nextRunning_14 ?_
      refine lv_iload_n (pc := 17) hx hb dX12_nextRunning_17 rfl (lv_at hl 3 rfl) ?_
      refine s_zald (pc := 18) F w ds_86 h dX12_nextRunning_18 (fun h => ?_)
      refine lv_if_eq (pc := 19) (tgt := 64) hx hb dX12_nextRunning_19 (by decide) (fun q => ?_) (fun q => ?_)
      · have h := ite_t q h
        exact w_X12_nextRunning_j64 F (Nat.le_trans (by decide) hR1) (Nat.le_trans (by decide) hR2) _ (fun v0 v1 v2 S h => ih v0 v1 v2 S h) _ _ _ _ h _ _ _ w (lv_sub hl [0, 1, 2, 3] rfl)
      · have h := ite_f q h
        refine lv_aload_n (pc := 22) hx hb dX12_nextRunning_22 rfl (lv_at hl 0 rfl) ?_
        refine s_getR (pc := 23) F w 98 ds_14 (j := 43) vc_X12 vi_X12 rfl (by decide) kf_X12_108 dX12_nextRunning_23 ?_
        refine lv_iload_n (pc := 26) hx hb dX12_nextRunning_26 rfl (lv_at hl 3 rfl) ?_
        refine s_zald (pc := 27) F w ds_98 h dX12_nextRunning_27 (fun h => ?_)
        refine lv_if_eq (pc := 28) (tgt := 64) hx hb dX12_nextRunning_28 (by decide) (fun q => ?_) (fun q => ?_)
        · have h := ite_t q h
          exact w_X12_nextRunning_j64 F (Nat.le_trans (by decide) hR1) (Nat.le_trans (by decide) hR2) _ (fun v0 v1 v2 S h => ih v0 v1 v2 S h) _ _ _ _ h _ _ _ w (lv_sub hl [0, 1, 2, 3] rfl)
        · have h := ite_f q h
          refine lv_aload_n (pc := 31) hx hb dX12_nextRunning_31 rfl (lv_at hl 0 rfl) ?_
          refine s_getR (pc := 32) F w 100 ds_14 (j := 45) vc_X12 vi_X12 rfl (by decide) kf_X12_114 dX12_nextRunning_32 ?_
          refine lv_iload_n (pc := 35) hx hb dX12_nextRunning_35 rfl (lv_at hl 3 rfl) ?_
          refine s_iald (pc := 36) F w ds_100 h dX12_nextRunning_36 (fun h => ?_)
          refine lv_iload_n (pc := 37) hx hb dX12_nextRunning_37 rfl (lv_at hl 1 rfl) ?_
          refine lv_icmp_le (pc := 38) (tgt := 64) hx hb dX12_nextRunning_38 (by decide) (fun q => ?_) (fun q => ?_)
          · have h := ite_t q h
            exact w_X12_nextRunning_j64 F (Nat.le_trans (by decide) hR1) (Nat.le_trans (by decide) hR2) _ (fun v0 v1 v2 S h => ih v0 v1 v2 S h) _ _ _ _ h _ _ _ w (lv_sub hl [0, 1, 2, 3] rfl)
          · have h := ite_f q h
            refine lv_iload_n (pc := 41) hx hb dX12_nextRunning_41 rfl (lv_at hl 2 rfl) ?_
            refine lv_bipush (pc := 42) (v := -4) hx hb dX12_nextRunning_42 (by decide) ?_
            refine lv_icmp_eq (pc := 44) (tgt := 62) hx hb dX12_nextRunning_44 (by decide) (fun q => ?_) (fun q => ?_)
            · have h := ite_t q h
              exact w_X12_nextRunning_j62 F (Nat.le_trans (by decide) hR1) (Nat.le_trans (by decide) hR2) _ (fun v0 v1 v2 S h => ih v0 v1 v2 S h) _ _ _ h _ _ _ w (lv_sub hl [0, 1, 3] rfl)
            · have h := ite_f q h
              refine lv_aload_n (pc := 47) hx hb dX12_nextRunning_47 rfl (lv_at hl 0 rfl) ?_
              refine s_getR (pc := 48) F w 100 ds_14 (j := 45) vc_X12 vi_X12 rfl (by decide) kf_X12_114 dX12_nextRunning_48 ?_
              refine lv_iload_n (pc := 51) hx hb dX12_nextRunning_51 rfl (lv_at hl 3 rfl) ?_
              refine s_iald (pc := 52) F w ds_100 h dX12_nextRunning_52 (fun h => ?_)
              refine lv_aload_n (pc := 53) hx hb dX12_nextRunning_53 rfl (lv_at hl 0 rfl) ?_
              refine s_getR (pc := 54) F w 100 ds_14 (j := 45) vc_X12 vi_X12 rfl (by decide) kf_X12_114 dX12_nextRunning_54 ?_
              refine lv_iload_n (pc := 57) hx hb dX12_nextRunning_57 rfl (lv_at hl 2 rfl) ?_
              refine s_iald (pc := 58) F w ds_100 h dX12_nextRunning_58 (fun h => ?_)
              refine lv_icmp_ge (pc := 59) (tgt := 64) hx hb dX12_nextRunning_59 (by decide) (fun q => ?_) (fun q => ?_)
              · have h := ite_t q h
                exact w_X12_nextRunning_j64 F (Nat.le_trans (by decide) hR1) (Nat.le_trans (by decide) hR2) _ (fun v0 v1 v2 S h => ih v0 v1 v2 S h) _ _ _ _ h _ _ _ w (lv_sub hl [0, 1, 2, 3] rfl)
              · have h := ite_f q h
                exact w_X12_nextRunning_j62 F (Nat.le_trans (by decide) hR1) (Nat.le_trans (by decide) hR2) _ (fun v0 v1 v2 S h => ih v0 v1 v2 S h) _ _ _ h _ _ _ w (lv_sub hl [0, 1, 3] rfl)
set_option maxRecDepth 100000 in
set_option maxHeartbeats 4000000 in
theorem m_X12_nextRunning (a1 : Int32) (S S' : SS) (r : Int32) (h : f_X12_nextRunning a1 S = some (r, S')) : MT yX12_nextRunning cX12_nextRunning 4 (some .int) 0 0 (fun ad => [.ref (ad 14), .int a1]) S (some (.int r)) S' := by
  refine MT.of RX12 (fun ad => [(0, .ref (ad 14)), (1, .int a1)]) (by decide) rfl (fun _ => Nat.le_of_ble_eq_true rfl) (fun _ => rfl) ?_
  intro p l e R s m args below meth c dC dI cs ad A hR1 hR2 F H locs ls w hl
  have hx := F.1.1
  have hb := F.1.2.1
  rw [f_X12_nextRunning] at h
  refine lv_bipush (pc := 0) (v := -4) hx hb dX12_nextRunning_0 (by decide) ?_
  refine lv_istore_n (pc := 2) (lv' := [(2, .int (-4 : Int32)), (0, .ref (ad 14)), (1, .int a1)]) hx hb dX12_nextRunning_2 rfl hl (by decide) rfl (fun ls hl => ?_)
  refine lv_iconst (pc := 3) (v := 0) hx hb dX12_nextRunning_3 (by decide) ?_
  refine lv_istore_n (pc := 4) (lv' := [(3, .int (0 : Int32)), (2, .int (-4 : Int32)), (0, .ref (ad 14)), (1, .int a1)]) hx hb dX12_nextRunning_4 rfl hl (by decide) rfl (fun ls hl => ?_)
  exact w_X12_nextRunning_L5 F (Nat.le_trans (by decide) hR1) (Nat.le_trans (by decide) hR2) _ _ _ _ _ h _ _ _ w (lv_sub hl [2, 3, 1, 0] rfl)
def f_X12_stop (a1 : Int32) (S : SS) : Option (SS) :=
  grd (inb a1 72) (wr S 98 a1.toNatClampNeg (vp_nar .boolean (0 : Int32)) (fun S1 =>
  grd (inb a1 72) (wr S1 97 a1.toNatClampNeg (0 : Int32) (fun S2 =>
  some S2))))
theorem dX12_stop_0 : decode cX12_stop 0 = .ok (.aload_n 0, 1) := by decide +kernel
theorem dX12_stop_1 : decode cX12_stop 1 = .ok (.getfield 108, 3) := by decide +kernel
theorem dX12_stop_4 : decode cX12_stop 4 = .ok (.iload_n 1, 1) := by decide +kernel
theorem dX12_stop_5 : decode cX12_stop 5 = .ok (.iconst 0, 1) := by decide +kernel
theorem dX12_stop_6 : decode cX12_stop 6 = .ok (.bastore, 1) := by decide +kernel
theorem dX12_stop_7 : decode cX12_stop 7 = .ok (.aload_n 0, 1) := by decide +kernel
theorem dX12_stop_8 : decode cX12_stop 8 = .ok (.getfield 105, 3) := by decide +kernel
theorem dX12_stop_11 : decode cX12_stop 11 = .ok (.iload_n 1, 1) := by decide +kernel
theorem dX12_stop_12 : decode cX12_stop 12 = .ok (.iconst 0, 1) := by decide +kernel
theorem dX12_stop_13 : decode cX12_stop 13 = .ok (.iastore, 1) := by decide +kernel
theorem dX12_stop_14 : decode cX12_stop 14 = .ok (.return_, 1) := by decide +kernel
set_option maxRecDepth 100000 in
set_option maxHeartbeats 4000000 in
theorem m_X12_stop (a1 : Int32) (S S' : SS) (h : f_X12_stop a1 S = some S') : MT yX12_stop cX12_stop 2 none 0 0 (fun ad => [.ref (ad 14), .int a1]) S none S' := by
  refine MT.of RX12 (fun ad => [(0, .ref (ad 14)), (1, .int a1)]) (by decide) rfl (fun _ => Nat.le_of_ble_eq_true rfl) (fun _ => rfl) ?_
  intro p l e R s m args below meth c dC dI cs ad A hR1 hR2 F H locs ls w hl
  have hx := F.1.1
  have hb := F.1.2.1
  rw [f_X12_stop] at h
  refine lv_aload_n (pc := 0) hx hb dX12_stop_0 rfl (lv_at hl 0 rfl) ?_
  refine s_getR (pc := 1) F w 98 ds_14 (j := 43) vc_X12 vi_X12 rfl (by decide) kf_X12_108 dX12_stop_1 ?_
  refine lv_iload_n (pc := 4) hx hb dX12_stop_4 rfl (lv_at hl 1 rfl) ?_
  refine lv_iconst (pc := 5) (v := 0) hx hb dX12_stop_5 (by decide) ?_
  refine s_zast (pc := 6) F w ds_98 h dX12_stop_6 (fun S1 H locs h w => ?_)
  refine lv_aload_n (pc := 7) hx hb dX12_stop_7 rfl (lv_at hl 0 rfl) ?_
  refine s_getR (pc := 8) F w 97 ds_14 (j := 42) vc_X12 vi_X12 rfl (by decide) kf_X12_105 dX12_stop_8 ?_
  refine lv_iload_n (pc := 11) hx hb dX12_stop_11 rfl (lv_at hl 1 rfl) ?_
  refine lv_iconst (pc := 12) (v := 0) hx hb dX12_stop_12 (by decide) ?_
  refine s_iast (pc := 13) F w ds_97 h dX12_stop_13 (fun S2 H locs h w => ?_)
  exact s_vret F w h dX12_stop_14
def f_X12_run_j109  (x1 : Int32) (S : SS) : Option (SS) :=
    grd (inb x1 72) (
    grd (inb x1 72) (wr S 97 x1.toNatClampNeg ((S.1 97 x1.toNatClampNeg) - (1 : Int32)) (fun S7 =>
    grd (inb x1 72) (
    if (S7.1 97 x1.toNatClampNeg) = 0 then
      bndv (f_X12_stop x1 S7) (fun S8 =>
      some S8)
    else
      some S7))))
def f_X12_run_j80  (x1 : Int32) (x2 : Int32) (S : SS) : Option (SS) :=
    if x2 = (-4 : Int32) then
      grd (inb x1 72) (
      bndv (f_X12_place x1 (S.1 14 26) (S.1 14 27) (S.1 99 x1.toNatClampNeg) (S.1 14 28) S) (fun S9 =>
      f_X12_run_j109 x1 S9))
    else
      f_X12_run_j109 x1 S
def f_X12_run (a1 : Int32) (S : SS) : Option (SS) :=
  grd (inb a1 72) (
  grd (inb a1 72) (
  grd (inb a1 72) (
  bnd (f_X12_wayOf a1 (S.1 99 a1.toNatClampNeg) S) (fun r2 S1 =>
  bnd (f_X12_isOpen (S.1 87 a1.toNatClampNeg) (S.1 88 a1.toNatClampNeg) r2 S1) (fun r4 S3 =>
  if r4 = 0 then
    bndv (f_X12_stop a1 S3) (fun S12 =>
    some S12)
  else
    bnd (f_X12_standing (S3.1 14 26) (S3.1 14 27) S3) (fun r6 S5 =>
    if r6 = (-4 : Int32) then
      f_X12_run_j80 a1 r6 S5
    else
      grd (inb r6 72) (
      if (S5.1 98 r6.toNatClampNeg) = 0 then
        bndv (f_X12_stop a1 S5) (fun S10 =>
        wr S10 14 48 ((S10.1 14 48) + (1 : Int32)) (fun S11 =>
        some S11))
      else
        f_X12_run_j80 a1 r6 S5)))))))
theorem dX12_run_0 : decode cX12_run 0 = .ok (.aload_n 0, 1) := by decide +kernel
theorem dX12_run_1 : decode cX12_run 1 = .ok (.aload_n 0, 1) := by decide +kernel
theorem dX12_run_2 : decode cX12_run 2 = .ok (.getfield 75, 3) := by decide +kernel
theorem dX12_run_5 : decode cX12_run 5 = .ok (.iload_n 1, 1) := by decide +kernel
theorem dX12_run_6 : decode cX12_run 6 = .ok (.iaload, 1) := by decide +kernel
theorem dX12_run_7 : decode cX12_run 7 = .ok (.aload_n 0, 1) := by decide +kernel
theorem dX12_run_8 : decode cX12_run 8 = .ok (.getfield 78, 3) := by decide +kernel
theorem dX12_run_11 : decode cX12_run 11 = .ok (.iload_n 1, 1) := by decide +kernel
theorem dX12_run_12 : decode cX12_run 12 = .ok (.iaload, 1) := by decide +kernel
theorem dX12_run_13 : decode cX12_run 13 = .ok (.aload_n 0, 1) := by decide +kernel
theorem dX12_run_14 : decode cX12_run 14 = .ok (.iload_n 1, 1) := by decide +kernel
theorem dX12_run_15 : decode cX12_run 15 = .ok (.aload_n 0, 1) := by decide +kernel
theorem dX12_run_16 : decode cX12_run 16 = .ok (.getfield 111, 3) := by decide +kernel
theorem dX12_run_19 : decode cX12_run 19 = .ok (.iload_n 1, 1) := by decide +kernel
theorem dX12_run_20 : decode cX12_run 20 = .ok (.iaload, 1) := by decide +kernel
theorem dX12_run_21 : decode cX12_run 21 = .ok (.invokevirtual 368, 3) := by decide +kernel
theorem dX12_run_24 : decode cX12_run 24 = .ok (.invokevirtual 371, 3) := by decide +kernel
theorem dX12_run_27 : decode cX12_run 27 = .ok (.ifCond .ne 9, 3) := by decide +kernel
theorem dX12_run_30 : decode cX12_run 30 = .ok (.aload_n 0, 1) := by decide +kernel
theorem dX12_run_31 : decode cX12_run 31 = .ok (.iload_n 1, 1) := by decide +kernel
theorem dX12_run_32 : decode cX12_run 32 = .ok (.invokevirtual 423, 3) := by decide +kernel
theorem dX12_run_35 : decode cX12_run 35 = .ok (.return_, 1) := by decide +kernel
theorem dX12_run_36 : decode cX12_run 36 = .ok (.aload_n 0, 1) := by decide +kernel
theorem dX12_run_37 : decode cX12_run 37 = .ok (.aload_n 0, 1) := by decide +kernel
theorem dX12_run_38 : decode cX12_run 38 = .ok (.getfield 245, 3) := by decide +kernel
theorem dX12_run_41 : decode cX12_run 41 = .ok (.aload_n 0, 1) := by decide +kernel
theorem dX12_run_42 : decode cX12_run 42 = .ok (.getfield 248, 3) := by decide +kernel
theorem dX12_run_45 : decode cX12_run 45 = .ok (.invokevirtual 279, 3) := by decide +kernel
theorem dX12_run_48 : decode cX12_run 48 = .ok (.istore_n 2, 1) := by decide +kernel
theorem dX12_run_49 : decode cX12_run 49 = .ok (.iload_n 2, 1) := by decide +kernel
theorem dX12_run_50 : decode cX12_run 50 = .ok (.bipush (-4), 2) := by decide +kernel
theorem dX12_run_52 : decode cX12_run 52 = .ok (.if_icmp .eq 28, 3) := by decide +kernel
theorem dX12_run_55 : decode cX12_run 55 = .ok (.aload_n 0, 1) := by decide +kernel
theorem dX12_run_56 : decode cX12_run 56 = .ok (.getfield 108, 3) := by decide +kernel
theorem dX12_run_59 : decode cX12_run 59 = .ok (.iload_n 2, 1) := by decide +kernel
theorem dX12_run_60 : decode cX12_run 60 = .ok (.baload, 1) := by decide +kernel
theorem dX12_run_61 : decode cX12_run 61 = .ok (.ifCond .ne 19, 3) := by decide +kernel
theorem dX12_run_64 : decode cX12_run 64 = .ok (.aload_n 0, 1) := by decide +kernel
theorem dX12_run_65 : decode cX12_run 65 = .ok (.iload_n 1, 1) := by decide +kernel
theorem dX12_run_66 : decode cX12_run 66 = .ok (.invokevirtual 423, 3) := by decide +kernel
theorem dX12_run_69 : decode cX12_run 69 = .ok (.aload_n 0, 1) := by decide +kernel
theorem dX12_run_70 : decode cX12_run 70 = .ok (.dup, 1) := by decide +kernel
theorem dX12_run_71 : decode cX12_run 71 = .ok (.getfield 334, 3) := by decide +kernel
theorem dX12_run_74 : decode cX12_run 74 = .ok (.iconst 1, 1) := by decide +kernel
theorem dX12_run_75 : decode cX12_run 75 = .ok (.iadd, 1) := by decide +kernel
theorem dX12_run_76 : decode cX12_run 76 = .ok (.putfield 334, 3) := by decide +kernel
theorem dX12_run_79 : decode cX12_run 79 = .ok (.return_, 1) := by decide +kernel
theorem dX12_run_80 : decode cX12_run 80 = .ok (.iload_n 2, 1) := by decide +kernel
theorem dX12_run_81 : decode cX12_run 81 = .ok (.bipush (-4), 2) := by decide +kernel
theorem dX12_run_83 : decode cX12_run 83 = .ok (.if_icmp .ne 26, 3) := by decide +kernel
theorem dX12_run_86 : decode cX12_run 86 = .ok (.aload_n 0, 1) := by decide +kernel
theorem dX12_run_87 : decode cX12_run 87 = .ok (.iload_n 1, 1) := by decide +kernel
theorem dX12_run_88 : decode cX12_run 88 = .ok (.aload_n 0, 1) := by decide +kernel
theorem dX12_run_89 : decode cX12_run 89 = .ok (.getfield 245, 3) := by decide +kernel
theorem dX12_run_92 : decode cX12_run 92 = .ok (.aload_n 0, 1) := by decide +kernel
theorem dX12_run_93 : decode cX12_run 93 = .ok (.getfield 248, 3) := by decide +kernel
theorem dX12_run_96 : decode cX12_run 96 = .ok (.aload_n 0, 1) := by decide +kernel
theorem dX12_run_97 : decode cX12_run 97 = .ok (.getfield 111, 3) := by decide +kernel
theorem dX12_run_100 : decode cX12_run 100 = .ok (.iload_n 1, 1) := by decide +kernel
theorem dX12_run_101 : decode cX12_run 101 = .ok (.iaload, 1) := by decide +kernel
theorem dX12_run_102 : decode cX12_run 102 = .ok (.aload_n 0, 1) := by decide +kernel
theorem dX12_run_103 : decode cX12_run 103 = .ok (.getfield 251, 3) := by decide +kernel
theorem dX12_run_106 : decode cX12_run 106 = .ok (.invokevirtual 396, 3) := by decide +kernel
theorem dX12_run_109 : decode cX12_run 109 = .ok (.aload_n 0, 1) := by decide +kernel
theorem dX12_run_110 : decode cX12_run 110 = .ok (.getfield 105, 3) := by decide +kernel
theorem dX12_run_113 : decode cX12_run 113 = .ok (.iload_n 1, 1) := by decide +kernel
theorem dX12_run_114 : decode cX12_run 114 = .ok (.dup2, 1) := by decide +kernel
theorem dX12_run_115 : decode cX12_run 115 = .ok (.iaload, 1) := by decide +kernel
theorem dX12_run_116 : decode cX12_run 116 = .ok (.iconst 1, 1) := by decide +kernel
theorem dX12_run_117 : decode cX12_run 117 = .ok (.isub, 1) := by decide +kernel
theorem dX12_run_118 : decode cX12_run 118 = .ok (.iastore, 1) := by decide +kernel
theorem dX12_run_119 : decode cX12_run 119 = .ok (.aload_n 0, 1) := by decide +kernel
theorem dX12_run_120 : decode cX12_run 120 = .ok (.getfield 105, 3) := by decide +kernel
theorem dX12_run_123 : decode cX12_run 123 = .ok (.iload_n 1, 1) := by decide +kernel
theorem dX12_run_124 : decode cX12_run 124 = .ok (.iaload, 1) := by decide +kernel
theorem dX12_run_125 : decode cX12_run 125 = .ok (.ifCond .ne 8, 3) := by decide +kernel
theorem dX12_run_128 : decode cX12_run 128 = .ok (.aload_n 0, 1) := by decide +kernel
theorem dX12_run_129 : decode cX12_run 129 = .ok (.iload_n 1, 1) := by decide +kernel
theorem dX12_run_130 : decode cX12_run 130 = .ok (.invokevirtual 423, 3) := by decide +kernel
theorem dX12_run_133 : decode cX12_run 133 = .ok (.return_, 1) := by decide +kernel
set_option maxRecDepth 100000 in
set_option maxHeartbeats 4000000 in
theorem w_X12_run_j109 {p : Program} {l : Launch} {e : Env} {R : Room} {s : State} {m : MethodId} {args : Array Value} {below : List Frame} {meth : Method} {c : Code} {dC : Nat → ClassId} {dI : Nat → Nat → Nat} {cs : Nat → ClassId} {ad : Nat → Nat} {A : Nat → Prop} {D0 : Nat → Nat} {S' : SS} (F : Fx p s m args meth c cX12_run 3 RX12 none dC dI cs A) (hR1 : 1 ≤ R.frames) (hR2 : 21 ≤ R.locals) (x1 : Int32) (S : SS) (h : f_X12_run_j109 x1 S = some S') : AW p l e R s m args below meth c dC dI cs ad A D0 none S' 3 109 [(0, .ref (ad 14)), (1, .int x1)] [] S := by
  have hx := F.1.1
  have hb := F.1.2.1
  intro H locs ls w hl
  rw [f_X12_run_j109] at h
  refine lv_aload_n (pc := 109) hx hb dX12_run_109 rfl (lv_at hl 0 rfl) ?_
  refine s_getR (pc := 110) F w 97 ds_14 (j := 42) vc_X12 vi_X12 rfl (by decide) kf_X12_105 dX12_run_110 ?_
  refine lv_iload_n (pc := 113) hx hb dX12_run_113 rfl (lv_at hl 1 rfl) ?_
  refine lv_dup2_11 (pc := 114) hx hb dX12_run_114 rfl rfl ?_
  refine s_iald (pc := 115) F w ds_97 h dX12_run_115 (fun h => ?_)
  refine lv_iconst (pc := 116) (v := 1) hx hb dX12_run_116 (by decide) ?_
  refine lv_isub (pc := 117) hx hb dX12_run_117 ?_
  refine s_iast (pc := 118) F w ds_97 h dX12_run_118 (fun S7 H locs h w => ?_)
  refine lv_aload_n (pc := 119) hx hb dX12_run_119 rfl (lv_at hl 0 rfl) ?_
  refine s_getR (pc := 120) F w 97 ds_14 (j := 42) vc_X12 vi_X12 rfl (by decide) kf_X12_105 dX12_run_120 ?_
  refine lv_iload_n (pc := 123) hx hb dX12_run_123 rfl (lv_at hl 1 rfl) ?_
  refine s_iald (pc := 124) F w ds_97 h dX12_run_124 (fun h => ?_)
  refine lv_if_ne (pc := 125) (tgt := 133) hx hb dX12_run_125 (by decide) (fun q => ?_) (fun q => ?_)
  · have h := ite_f q h
    exact s_vret F w h dX12_run_133
  · have h := ite_t q h
    refine lv_aload_n (pc := 128) hx hb dX12_run_128 rfl (lv_at hl 0 rfl) ?_
    refine lv_iload_n (pc := 129) hx hb dX12_run_129 rfl (lv_at hl 1 rfl) ?_
    obtain ⟨S8, hc, h⟩ := bndv_t h
    refine s_cvv (pc := 130) [.int x1] (fun ad => [.ref (ad 14), .int x1]) F w (m_X12_stop _ _ _ hc) rfl rfl hl.1 ds_14 vc_X12 rfl ok_X12_stop rfl kc_X12_stop kl_X12_423 ki_X12_stop kv_X12_stop kn_X12 ⟨Nat.le_trans (by decide) hR1, Nat.le_trans (by decide) hR2⟩ ⟨Nat.zero_le _, Nat.zero_le _⟩ (Nat.le_of_ble_eq_true rfl) dX12_run_130 (fun H locs w => ?_)
    exact s_vret F w h dX12_run_133
set_option maxRecDepth 100000 in
set_option maxHeartbeats 4000000 in
theorem w_X12_run_j80 {p : Program} {l : Launch} {e : Env} {R : Room} {s : State} {m : MethodId} {args : Array Value} {below : List Frame} {meth : Method} {c : Code} {dC : Nat → ClassId} {dI : Nat → Nat → Nat} {cs : Nat → ClassId} {ad : Nat → Nat} {A : Nat → Prop} {D0 : Nat → Nat} {S' : SS} (F : Fx p s m args meth c cX12_run 3 RX12 none dC dI cs A) (hR1 : 1 ≤ R.frames) (hR2 : 25 ≤ R.locals) (x1 : Int32) (x2 : Int32) (S : SS) (h : f_X12_run_j80 x1 x2 S = some S') : AW p l e R s m args below meth c dC dI cs ad A D0 none S' 3 80 [(0, .ref (ad 14)), (1, .int x1), (2, .int x2)] [] S := by
  have hx := F.1.1
  have hb := F.1.2.1
  intro H locs ls w hl
  rw [f_X12_run_j80] at h
  refine lv_iload_n (pc := 80) hx hb dX12_run_80 rfl (lv_at hl 2 rfl) ?_
  refine lv_bipush (pc := 81) (v := -4) hx hb dX12_run_81 (by decide) ?_
  refine lv_icmp_ne (pc := 83) (tgt := 109) hx hb dX12_run_83 (by decide) (fun q => ?_) (fun q => ?_)
  · have h := ite_f q h
    exact w_X12_run_j109 F (Nat.le_trans (by decide) hR1) (Nat.le_trans (by decide) hR2) _ _ h _ _ _ w (lv_sub hl [0, 1] rfl)
  · have h := ite_t q h
    refine lv_aload_n (pc := 86) hx hb dX12_run_86 rfl (lv_at hl 0 rfl) ?_
    refine lv_iload_n (pc := 87) hx hb dX12_run_87 rfl (lv_at hl 1 rfl) ?_
    refine lv_aload_n (pc := 88) hx hb dX12_run_88 rfl (lv_at hl 0 rfl) ?_
    refine s_getI (pc := 89) F w ds_14 (j := 26) vc_X12 vi_X12 rfl (by decide) kf_X12_245 dX12_run_89 ?_
    refine lv_aload_n (pc := 92) hx hb dX12_run_92 rfl (lv_at hl 0 rfl) ?_
    refine s_getI (pc := 93) F w ds_14 (j := 27) vc_X12 vi_X12 rfl (by decide) kf_X12_248 dX12_run_93 ?_
    refine lv_aload_n (pc := 96) hx hb dX12_run_96 rfl (lv_at hl 0 rfl) ?_
    refine s_getR (pc := 97) F w 99 ds_14 (j := 44) vc_X12 vi_X12 rfl (by decide) kf_X12_111 dX12_run_97 ?_
    refine lv_iload_n (pc := 100) hx hb dX12_run_100 rfl (lv_at hl 1 rfl) ?_
    refine s_iald (pc := 101) F w ds_99 h dX12_run_101 (fun h => ?_)
    refine lv_aload_n (pc := 102) hx hb dX12_run_102 rfl (lv_at hl 0 rfl) ?_
    refine s_getI (pc := 103) F w ds_14 (j := 28) vc_X12 vi_X12 rfl (by decide) kf_X12_251 dX12_run_103 ?_
    obtain ⟨S9, hc, h⟩ := bndv_t h
    refine s_cvv (pc := 106) [.int x1, .int (S.1 14 26), .int (S.1 14 27), .int (S.1 99 x1.toNatClampNeg), .int (S.1 14 28)] (fun ad => [.ref (ad 14), .int x1, .int (S.1 14 26), .int (S.1 14 27), .int (S.1 99 x1.toNatClampNeg), .int (S.1 14 28)]) F w (m_X12_place _ _ _ _ _ _ _ hc) rfl rfl hl.1 ds_14 vc_X12 rfl ok_X12_place rfl kc_X12_place kl_X12_396 ki_X12_place kv_X12_place kn_X12 ⟨Nat.le_trans (by decide) hR1, Nat.le_trans (by decide) hR2⟩ ⟨Nat.zero_le _, Nat.zero_le _⟩ (Nat.le_of_ble_eq_true rfl) dX12_run_106 (fun H locs w => ?_)
    exact w_X12_run_j109 F (Nat.le_trans (by decide) hR1) (Nat.le_trans (by decide) hR2) _ _ h _ _ _ w (lv_sub hl [0, 1] rfl)
set_option maxRecDepth 100000 in
set_option maxHeartbeats 4000000 in
theorem m_X12_run (a1 : Int32) (S S' : SS) (h : f_X12_run a1 S = some S') : MT yX12_run cX12_run 3 none 2 50 (fun ad => [.ref (ad 14), .int a1]) S none S' := by
  refine MT.of RX12 (fun ad => [(0, .ref (ad 14)), (1, .int a1)]) (by decide) rfl (fun _ => Nat.le_of_ble_eq_true rfl) (fun _ => rfl) ?_
  intro p l e R s m args below meth c dC dI cs ad A hR1 hR2 F H locs ls w hl
  have hx := F.1.1
  have hb := F.1.2.1
  rw [f_X12_run] at h
  refine lv_aload_n (pc := 0) hx hb dX12_run_0 rfl (lv_at hl 0 rfl) ?_
  refine lv_aload_n (pc := 1) hx hb dX12_run_1 rfl (lv_at hl 0 rfl) ?_
  refine s_getR (pc := 2) F w 87 ds_14 (j := 32) vc_X12 vi_X12 rfl (by decide) kf_X12_75 dX12_run_2 ?_
  refine lv_iload_n (pc := 5) hx hb dX12_run_5 rfl (lv_at hl 1 rfl) ?_
  refine s_iald (pc := 6) F w ds_87 h dX12_run_6 (fun h => ?_)
  refine lv_aload_n (pc := 7) hx hb dX12_run_7 rfl (lv_at hl 0 rfl) ?_
  refine s_getR (pc := 8) F w 88 ds_14 (j := 33) vc_X12 vi_X12 rfl (by decide) kf_X12_78 dX12_run_8 ?_
  refine lv_iload_n (pc := 11) hx hb dX12_run_11 rfl (lv_at hl 1 rfl) ?_
  refine s_iald (pc := 12) F w ds_88 h dX12_run_12 (fun h => ?_)
  refine lv_aload_n (pc := 13) hx hb dX12_run_13 rfl (lv_at hl 0 rfl) ?_
  refine lv_iload_n (pc := 14) hx hb dX12_run_14 rfl (lv_at hl 1 rfl) ?_
  refine lv_aload_n (pc := 15) hx hb dX12_run_15 rfl (lv_at hl 0 rfl) ?_
  refine s_getR (pc := 16) F w 99 ds_14 (j := 44) vc_X12 vi_X12 rfl (by decide) kf_X12_111 dX12_run_16 ?_
  refine lv_iload_n (pc := 19) hx hb dX12_run_19 rfl (lv_at hl 1 rfl) ?_
  refine s_iald (pc := 20) F w ds_99 h dX12_run_20 (fun h => ?_)
  obtain ⟨r2, S1, hc, h⟩ := bnd_t h
  refine s_cvi (pc := 21) [.int a1, .int (S.1 99 a1.toNatClampNeg)] (fun ad => [.ref (ad 14), .int a1, .int (S.1 99 a1.toNatClampNeg)]) F w (m_X12_wayOf _ _ _ _ _ hc) rfl rfl hl.1 ds_14 vc_X12 rfl ok_X12_wayOf rfl kc_X12_wayOf kl_X12_368 ki_X12_wayOf kv_X12_wayOf kn_X12 ⟨Nat.le_trans (by decide) hR1, Nat.le_trans (by decide) hR2⟩ ⟨Nat.zero_le _, Nat.zero_le _⟩ (Nat.le_of_ble_eq_true rfl) dX12_run_21 (fun H locs w => ?_)
  obtain ⟨r4, S3, hc, h⟩ := bnd_t h
  refine s_cvi (pc := 24) [.int (S.1 87 a1.toNatClampNeg), .int (S.1 88 a1.toNatClampNeg), .int r2] (fun ad => [.ref (ad 14), .int (S.1 87 a1.toNatClampNeg), .int (S.1 88 a1.toNatClampNeg), .int r2]) F w (m_X12_isOpen _ _ _ _ _ _ hc) rfl rfl hl.1 ds_14 vc_X12 rfl ok_X12_isOpen rfl kc_X12_isOpen kl_X12_371 ki_X12_isOpen kv_X12_isOpen kn_X12 ⟨Nat.le_trans (by decide) hR1, Nat.le_trans (by decide) hR2⟩ ⟨Nat.zero_le _, Nat.zero_le _⟩ (Nat.le_of_ble_eq_true rfl) dX12_run_24 (fun H locs w => ?_)
  refine lv_if_ne (pc := 27) (tgt := 36) hx hb dX12_run_27 (by decide) (fun q => ?_) (fun q => ?_)
  · have h := ite_f q h
    refine lv_aload_n (pc := 36) hx hb dX12_run_36 rfl (lv_at hl 0 rfl) ?_
    refine lv_aload_n (pc := 37) hx hb dX12_run_37 rfl (lv_at hl 0 rfl) ?_
    refine s_getI (pc := 38) F w ds_14 (j := 26) vc_X12 vi_X12 rfl (by decide) kf_X12_245 dX12_run_38 ?_
    refine lv_aload_n (pc := 41) hx hb dX12_run_41 rfl (lv_at hl 0 rfl) ?_
    refine s_getI (pc := 42) F w ds_14 (j := 27) vc_X12 vi_X12 rfl (by decide) kf_X12_248 dX12_run_42 ?_
    obtain ⟨r6, S5, hc, h⟩ := bnd_t h
    refine s_cvi (pc := 45) [.int (S3.1 14 26), .int (S3.1 14 27)] (fun ad => [.ref (ad 14), .int (S3.1 14 26), .int (S3.1 14 27)]) F w (m_X12_standing _ _ _ _ _ hc) rfl rfl hl.1 ds_14 vc_X12 rfl ok_X12_standing rfl kc_X12_standing kl_X12_279 ki_X12_standing kv_X12_standing kn_X12 ⟨Nat.le_trans (by decide) hR1, Nat.le_trans (by decide) hR2⟩ ⟨Nat.zero_le _, Nat.zero_le _⟩ (Nat.le_of_ble_eq_true rfl) dX12_run_45 (fun H locs w => ?_)
    refine lv_istore_n (pc := 48) (lv' := [(2, .int r6), (0, .ref (ad 14)), (1, .int a1)]) hx hb dX12_run_48 rfl hl (by decide) rfl (fun ls hl => ?_)
    refine lv_iload_n (pc := 49) hx hb dX12_run_49 rfl (lv_at hl 0 rfl) ?_
    refine lv_bipush (pc := 50) (v := -4) hx hb dX12_run_50 (by decide) ?_
    refine lv_icmp_eq (pc := 52) (tgt := 80) hx hb dX12_run_52 (by decide) (fun q => ?_) (fun q => ?_)
    · have h := ite_t q h
      exact w_X12_run_j80 F (Nat.le_trans (by decide) hR1) (Nat.le_trans (by decide) hR2) _ _ _ h _ _ _ w (lv_sub hl [1, 2, 0] rfl)
    · have h := ite_f q h
      refine lv_aload_n (pc := 55) hx hb dX12_run_55 rfl (lv_at hl 1 rfl) ?_
      refine s_getR (pc := 56) F w 98 ds_14 (j := 43) vc_X12 vi_X12 rfl (by decide) kf_X12_108 dX12_run_56 ?_
      refine lv_iload_n (pc := 59) hx hb dX12_run_59 rfl (lv_at hl 0 rfl) ?_
      refine s_zald (pc := 60) F w ds_98 h dX12_run_60 (fun h => ?_)
      refine lv_if_ne (pc := 61) (tgt := 80) hx hb dX12_run_61 (by decide) (fun q => ?_) (fun q => ?_)
      · have h := ite_f q h
        exact w_X12_run_j80 F (Nat.le_trans (by decide) hR1) (Nat.le_trans (by decide) hR2) _ _ _ h _ _ _ w (lv_sub hl [1, 2, 0] rfl)
      · have h := ite_t q h
        refine lv_aload_n (pc := 64) hx hb dX12_run_64 rfl (lv_at hl 1 rfl) ?_
        refine lv_iload_n (pc := 65) hx hb dX12_run_65 rfl (lv_at hl 2 rfl) ?_
        obtain ⟨S10, hc, h⟩ := bndv_t h
        refine s_cvv (pc := 66) [.int a1] (fun ad => [.ref (ad 14), .int a1]) F w (m_X12_stop _ _ _ hc) rfl rfl hl.1 ds_14 vc_X12 rfl ok_X12_stop rfl kc_X12_stop kl_X12_423 ki_X12_stop kv_X12_stop kn_X12 ⟨Nat.le_trans (by decide) hR1, Nat.le_trans (by decide) hR2⟩ ⟨Nat.zero_le _, Nat.zero_le _⟩ (Nat.le_of_ble_eq_true rfl) dX12_run_66 (fun H locs w => ?_)
        refine lv_aload_n (pc := 69) hx hb dX12_run_69 rfl (lv_at hl 1 rfl) ?_
        refine lv_dup (pc := 70) hx hb dX12_run_70 rfl ?_
        refine s_getI (pc := 71) F w ds_14 (j := 48) vc_X12 vi_X12 rfl (by decide) kf_X12_334 dX12_run_71 ?_
        refine lv_iconst (pc := 74) (v := 1) hx hb dX12_run_74 (by decide) ?_
        refine lv_iadd (pc := 75) hx hb dX12_run_75 ?_
        refine s_putI (pc := 76) F w ds_14 vc_X12 vi_X12 tyX12_ok nmX12 (j := 48) rfl (by decide) kf_X12_334 rfl pd_I h dX12_run_76 (fun S11 H locs h w => ?_)
        exact s_vret F w h dX12_run_79
  · have h := ite_t q h
    refine lv_aload_n (pc := 30) hx hb dX12_run_30 rfl (lv_at hl 0 rfl) ?_
    refine lv_iload_n (pc := 31) hx hb dX12_run_31 rfl (lv_at hl 1 rfl) ?_
    obtain ⟨S12, hc, h⟩ := bndv_t h
    refine s_cvv (pc := 32) [.int a1] (fun ad => [.ref (ad 14), .int a1]) F w (m_X12_stop _ _ _ hc) rfl rfl hl.1 ds_14 vc_X12 rfl ok_X12_stop rfl kc_X12_stop kl_X12_423 ki_X12_stop kv_X12_stop kn_X12 ⟨Nat.le_trans (by decide) hR1, Nat.le_trans (by decide) hR2⟩ ⟨Nat.zero_le _, Nat.zero_le _⟩ (Nat.le_of_ble_eq_true rfl) dX12_run_32 (fun H locs w => ?_)
    exact s_vret F w h dX12_run_35
def f_X12_step_L30 (K19 : Int32 → Int32 → SS → Option (Int32 × SS)) : Nat → Int32 → Int32 → Int32 → SS → Option (Int32 × SS)
  | 0, _, _, _, _ => none
  | n + 1, x1, x2, x3, S =>
    if x3 = (-4 : Int32) then
      nm (x2 + (1 : Int32)) (fun z8 =>
      K19 x1 z8 S)
    else
      grd (inb x3 72) (
      nm (S.1 100 x3.toNatClampNeg) (fun z9 =>
      bndv (f_X12_run x3 S) (fun S10 =>
      bnd (f_X12_nextRunning z9 S10) (fun r12 S11 =>
      f_X12_step_L30 K19 n x1 x2 r12 S11))))
def f_X12_step_L19  : Nat → Int32 → Int32 → SS → Option (Int32 × SS)
  | 0, _, _, _ => none
  | n + 1, x1, x2, S =>
    if x1 ≤ x2 then
      bnd (f_X12_running  S) (fun r3 S2 =>
      bnd (f_X12_entered (10 : Int32) r3 S2) (fun r5 S4 =>
      some (r5, S4)))
    else
      bnd (f_X12_nextRunning (0 : Int32) S) (fun r7 S6 =>
      f_X12_step_L30 (fun v0 v1 S => f_X12_step_L19 n v0 v1 S) NF x1 x2 r7 S6)
def f_X12_step (a1 : Int32) (S : SS) : Option (Int32 × SS) :=
  if a1 < (1 : Int32) then
    some ((-1 : Int32), S)
  else
    if a1 ≤ (50 : Int32) then
      bndv (f_X12_keep  S) (fun S1 =>
      f_X12_step_L19 NF a1 (0 : Int32) S1)
    else
      some ((-1 : Int32), S)
theorem dX12_step_0 : decode cX12_step 0 = .ok (.iload_n 1, 1) := by decide +kernel
theorem dX12_step_1 : decode cX12_step 1 = .ok (.iconst 1, 1) := by decide +kernel
theorem dX12_step_2 : decode cX12_step 2 = .ok (.if_icmp .lt 9, 3) := by decide +kernel
theorem dX12_step_5 : decode cX12_step 5 = .ok (.iload_n 1, 1) := by decide +kernel
theorem dX12_step_6 : decode cX12_step 6 = .ok (.bipush 50, 2) := by decide +kernel
theorem dX12_step_8 : decode cX12_step 8 = .ok (.if_icmp .le 5, 3) := by decide +kernel
theorem dX12_step_11 : decode cX12_step 11 = .ok (.iconst (-1), 1) := by decide +kernel
theorem dX12_step_12 : decode cX12_step 12 = .ok (.ireturn, 1) := by decide +kernel
theorem dX12_step_13 : decode cX12_step 13 = .ok (.aload_n 0, 1) := by decide +kernel
theorem dX12_step_14 : decode cX12_step 14 = .ok (.invokevirtual 346, 3) := by decide +kernel
theorem dX12_step_17 : decode cX12_step 17 = .ok (.iconst 0, 1) := by decide +kernel
theorem dX12_step_18 : decode cX12_step 18 = .ok (.istore_n 2, 1) := by decide +kernel
theorem dX12_step_19 : decode cX12_step 19 = .ok (.iload_n 2, 1) := by decide +kernel
theorem dX12_step_20 : decode cX12_step 20 = .ok (.iload_n 1, 1) := by decide +kernel
theorem dX12_step_21 : decode cX12_step 21 = .ok (.if_icmp .ge 44, 3) := by decide +kernel
theorem dX12_step_24 : decode cX12_step 24 = .ok (.aload_n 0, 1) := by decide +kernel
theorem dX12_step_25 : decode cX12_step 25 = .ok (.iconst 0, 1) := by decide +kernel
theorem dX12_step_26 : decode cX12_step 26 = .ok (.invokevirtual 426, 3) := by decide +kernel
theorem dX12_step_29 : decode cX12_step 29 = .ok (.istore_n 3, 1) := by decide +kernel
theorem dX12_step_30 : decode cX12_step 30 = .ok (.iload_n 3, 1) := by decide +kernel
theorem dX12_step_31 : decode cX12_step 31 = .ok (.bipush (-4), 2) := by decide +kernel
theorem dX12_step_33 : decode cX12_step 33 = .ok (.if_icmp .eq 26, 3) := by decide +kernel
theorem dX12_step_36 : decode cX12_step 36 = .ok (.aload_n 0, 1) := by decide +kernel
theorem dX12_step_37 : decode cX12_step 37 = .ok (.getfield 114, 3) := by decide +kernel
theorem dX12_step_40 : decode cX12_step 40 = .ok (.iload_n 3, 1) := by decide +kernel
theorem dX12_step_41 : decode cX12_step 41 = .ok (.iaload, 1) := by decide +kernel
theorem dX12_step_42 : decode cX12_step 42 = .ok (.istore 4, 2) := by decide +kernel
theorem dX12_step_44 : decode cX12_step 44 = .ok (.aload_n 0, 1) := by decide +kernel
theorem dX12_step_45 : decode cX12_step 45 = .ok (.iload_n 3, 1) := by decide +kernel
theorem dX12_step_46 : decode cX12_step 46 = .ok (.invokevirtual 429, 3) := by decide +kernel
theorem dX12_step_49 : decode cX12_step 49 = .ok (.aload_n 0, 1) := by decide +kernel
theorem dX12_step_50 : decode cX12_step 50 = .ok (.iload 4, 2) := by decide +kernel
theorem dX12_step_52 : decode cX12_step 52 = .ok (.invokevirtual 426, 3) := by decide +kernel
theorem dX12_step_55 : decode cX12_step 55 = .ok (.istore_n 3, 1) := by decide +kernel
theorem dX12_step_56 : decode cX12_step 56 = .ok (.goto (-26), 3) := by decide +kernel
theorem dX12_step_59 : decode cX12_step 59 = .ok (.iinc 2 1, 3) := by decide +kernel
theorem dX12_step_62 : decode cX12_step 62 = .ok (.goto (-43), 3) := by decide +kernel
theorem dX12_step_65 : decode cX12_step 65 = .ok (.aload_n 0, 1) := by decide +kernel
theorem dX12_step_66 : decode cX12_step 66 = .ok (.bipush 10, 2) := by decide +kernel
theorem dX12_step_68 : decode cX12_step 68 = .ok (.aload_n 0, 1) := by decide +kernel
theorem dX12_step_69 : decode cX12_step 69 = .ok (.invokevirtual 432, 3) := by decide +kernel
theorem dX12_step_72 : decode cX12_step 72 = .ok (.invokevirtual 349, 3) := by decide +kernel
theorem dX12_step_75 : decode cX12_step 75 = .ok (.ireturn, 1) := by decide +kernel
set_option maxRecDepth 100000 in
set_option maxHeartbeats 4000000 in
theorem w_X12_step_L30 {p : Program} {l : Launch} {e : Env} {R : Room} {s : State} {m : MethodId} {args : Array Value} {below : List Frame} {meth : Method} {c : Code} {dC : Nat → ClassId} {dI : Nat → Nat → Nat} {cs : Nat → ClassId} {ad : Nat → Nat} {A : Nat → Prop} {D0 : Nat → Nat} {S' : SS} {r : Int32} (F : Fx p s m args meth c cX12_step 5 RX12 (some .int) dC dI cs A) (hR1 : 3 ≤ R.frames) (hR2 : 72 ≤ R.locals) (K19 : Int32 → Int32 → SS → Option (Int32 × SS)) (hK19 : ∀ (v0 : Int32) (v1 : Int32) (S : SS), K19 v0 v1 S = some (r, S') → AW p l e R s m args below meth c dC dI cs ad A D0 (some (.int r)) S' 5 19 [(0, .ref (ad 14)), (1, .int v0), (2, .int v1)] [] S) : ∀ (n : Nat) (x1 : Int32) (x2 : Int32) (x3 : Int32) (S : SS), f_X12_step_L30 K19 n x1 x2 x3 S = some (r, S') → AW p l e R s m args below meth c dC dI cs ad A D0 (some (.int r)) S' 5 30 [(0, .ref (ad 14)), (1, .int x1), (2, .int x2), (3, .int x3)] [] S := by
  have hx := F.1.1
  have hb := F.1.2.1
  intro n
  induction n with
  | zero => intro x1 x2 x3 S h; cases h
  | succ n ih =>
    intro x1 x2 x3 S h H locs ls w hl
    rw [f_X12_step_L30] at h
    refine lv_iload_n (pc := 30) hx hb dX12_step_30 rfl (lv_at hl 3 rfl) ?_
    refine lv_bipush (pc := 31) (v := -4) hx hb dX12_step_31 (by decide) ?_
    refine lv_icmp_eq (pc := 33) (tgt := 59) hx hb dX12_step_33 (by decide) (fun q => ?_) (fun q => ?_)
    · have h := ite_t q h
      refine s_nm h (fun z8 ez8 h => ?_)
      refine lv_iinc (pc := 59) (v := z8) (lv' := [(2, .int z8), (0, .ref (ad 14)), (1, .int x1), (3, .int x3)]) hx hb dX12_step_59 hl (k := 2) rfl (by rw [ez8]; rfl) (by decide) rfl (fun ls hl => ?_)
      refine lv_goto (pc := 62) (tgt := 19) hx hb dX12_step_62 (by decide) ?_
      exact hK19 _ _ _ h _ _ _ w (lv_sub hl [1, 2, 0] rfl)
    · have h := ite_f q h
      refine lv_aload_n (pc := 36) hx hb dX12_step_36 rfl (lv_at hl 0 rfl) ?_
      refine s_getR (pc := 37) F w 100 ds_14 (j := 45) vc_X12 vi_X12 rfl (by decide) kf_X12_114 dX12_step_37 ?_
      refine lv_iload_n (pc := 40) hx hb dX12_step_40 rfl (lv_at hl 3 rfl) ?_
      refine s_iald (pc := 41) F w ds_100 h dX12_step_41 (fun h => ?_)
      refine s_nm h (fun z9 ez9 h => ?_)
      rw [← ez9]
      refine lv_istore (pc := 42) (lv' := [(4, .int z9), (0, .ref (ad 14)), (1, .int x1), (2, .int x2), (3, .int x3)]) hx hb dX12_step_42 hl (by decide) rfl (fun ls hl => ?_)
      refine lv_aload_n (pc := 44) hx hb dX12_step_44 rfl (lv_at hl 1 rfl) ?_
      refine lv_iload_n (pc := 45) hx hb dX12_step_45 rfl (lv_at hl 4 rfl) ?_
      obtain ⟨S10, hc, h⟩ := bndv_t h
      refine s_cvv (pc := 46) [.int x3] (fun ad => [.ref (ad 14), .int x3]) F w (m_X12_run _ _ _ hc) rfl rfl hl.1 ds_14 vc_X12 rfl ok_X12_run rfl kc_X12_run kl_X12_429 ki_X12_run kv_X12_run kn_X12 ⟨Nat.le_trans (by decide) hR1, Nat.le_trans (by decide) hR2⟩ ⟨Nat.zero_le _, Nat.zero_le _⟩ (Nat.le_of_ble_eq_true rfl) dX12_step_46 (fun H locs w => ?_)
      refine lv_aload_n (pc := 49) hx hb dX12_step_49 rfl (lv_at hl 1 rfl) ?_
      refine lv_iload (pc := 50) hx hb dX12_step_50 (lv_at hl 0 rfl) ?_
      obtain ⟨r12, S11, hc, h⟩ := bnd_t h
      refine s_cvi (pc := 52) [.int z9] (fun ad => [.ref (ad 14), .int z9]) F w (m_X12_nextRunning _ _ _ _ hc) rfl rfl hl.1 ds_14 vc_X12 rfl ok_X12_nextRunning rfl kc_X12_nextRunning kl_X12_426 ki_X12_nextRunning kv_X12_nextRunning kn_X12 ⟨Nat.le_trans (by decide) hR1, Nat.le_trans (by decide) hR2⟩ ⟨Nat.zero_le _, Nat.zero_le _⟩ (Nat.le_of_ble_eq_true rfl) dX12_step_52 (fun H locs w => ?_)
      refine lv_istore_n (pc := 55) (lv' := [(3, .int r12), (4, .int z9), (0, .ref (ad 14)), (1, .int x1), (2, .int x2)]) hx hb dX12_step_55 rfl hl (by decide) rfl (fun ls hl => ?_)
      refine lv_goto (pc := 56) (tgt := 30) hx hb dX12_step_56 (by decide) ?_
      exact ih _ _ _ _ h _ _ _ w (lv_sub hl [2, 3, 4, 0] rfl)
set_option maxRecDepth 100000 in
set_option maxHeartbeats 4000000 in
theorem w_X12_step_L19 {p : Program} {l : Launch} {e : Env} {R : Room} {s : State} {m : MethodId} {args : Array Value} {below : List Frame} {meth : Method} {c : Code} {dC : Nat → ClassId} {dI : Nat → Nat → Nat} {cs : Nat → ClassId} {ad : Nat → Nat} {A : Nat → Prop} {D0 : Nat → Nat} {S' : SS} {r : Int32} (F : Fx p s m args meth c cX12_step 5 RX12 (some .int) dC dI cs A) (hR1 : 3 ≤ R.frames) (hR2 : 72 ≤ R.locals) : ∀ (n : Nat) (x1 : Int32) (x2 : Int32) (S : SS), f_X12_step_L19 n x1 x2 S = some (r, S') → AW p l e R s m args below meth c dC dI cs ad A D0 (some (.int r)) S' 5 19 [(0, .ref (ad 14)), (1, .int x1), (2, .int x2)] [] S := by
  have hx := F.1.1
  have hb := F.1.2.1
  intro n
  induction n with
  | zero => intro x1 x2 S h; cases h
  | succ n ih =>
    intro x1 x2 S h H locs ls w hl
    rw [f_X12_step_L19] at h
    refine lv_iload_n (pc := 19) hx hb dX12_step_19 rfl (lv_at hl 2 rfl) ?_
    refine lv_iload_n (pc := 20) hx hb dX12_step_20 rfl (lv_at hl 1 rfl) ?_
    refine lv_icmp_ge (pc := 21) (tgt := 65) hx hb dX12_step_21 (by decide) (fun q => ?_) (fun q => ?_)
    · have h := ite_t q h
      refine lv_aload_n (pc := 65) hx hb dX12_step_65 rfl (lv_at hl 0 rfl) ?_
      refine lv_bipush (pc := 66) (v := 10) hx hb dX12_step_66 (by decide) ?_
      refine lv_aload_n (pc := 68) hx hb dX12_step_68 rfl (lv_at hl 0 rfl) ?_
      obtain ⟨r3, S2, hc, h⟩ := bnd_t h
      refine s_cvi (pc := 69) [] (fun ad => [.ref (ad 14)]) F w (m_X12_running  _ _ _ hc) rfl rfl hl.1 ds_14 vc_X12 rfl ok_X12_running rfl kc_X12_running kl_X12_432 ki_X12_running kv_X12_running kn_X12 ⟨Nat.le_trans (by decide) hR1, Nat.le_trans (by decide) hR2⟩ ⟨Nat.zero_le _, Nat.zero_le _⟩ (Nat.le_of_ble_eq_true rfl) dX12_step_69 (fun H locs w => ?_)
      obtain ⟨r5, S4, hc, h⟩ := bnd_t h
      refine s_cvi (pc := 72) [.int (10 : Int32), .int r3] (fun ad => [.ref (ad 14), .int (10 : Int32), .int r3]) F w (m_X12_entered _ _ _ _ _ hc) rfl rfl hl.1 ds_14 vc_X12 rfl ok_X12_entered rfl kc_X12_entered kl_X12_349 ki_X12_entered kv_X12_entered kn_X12 ⟨Nat.le_trans (by decide) hR1, Nat.le_trans (by decide) hR2⟩ ⟨Nat.zero_le _, Nat.zero_le _⟩ (Nat.le_of_ble_eq_true rfl) dX12_step_72 (fun H locs w => ?_)
      exact s_iret F w h dX12_step_75
    · have h := ite_f q h
      refine lv_aload_n (pc := 24) hx hb dX12_step_24 rfl (lv_at hl 0 rfl) ?_
      refine lv_iconst (pc := 25) (v := 0) hx hb dX12_step_25 (by decide) ?_
      obtain ⟨r7, S6, hc, h⟩ := bnd_t h
      refine s_cvi (pc := 26) [.int (0 : Int32)] (fun ad => [.ref (ad 14), .int (0 : Int32)]) F w (m_X12_nextRunning _ _ _ _ hc) rfl rfl hl.1 ds_14 vc_X12 rfl ok_X12_nextRunning rfl kc_X12_nextRunning kl_X12_426 ki_X12_nextRunning kv_X12_nextRunning kn_X12 ⟨Nat.le_trans (by decide) hR1, Nat.le_trans (by decide) hR2⟩ ⟨Nat.zero_le _, Nat.zero_le _⟩ (Nat.le_of_ble_eq_true rfl) dX12_step_26 (fun H locs w => ?_)
      refine lv_istore_n (pc := 29) (lv' := [(3, .int r7), (0, .ref (ad 14)), (1, .int x1), (2, .int x2)]) hx hb dX12_step_29 rfl hl (by decide) rfl (fun ls hl => ?_)
      exact w_X12_step_L30 F (Nat.le_trans (by decide) hR1) (Nat.le_trans (by decide) hR2) _ (fun v0 v1 S h => ih v0 v1 S h) _ _ _ _ _ h _ _ _ w (lv_sub hl [1, 2, 3, 0] rfl)
set_option maxRecDepth 100000 in
set_option maxHeartbeats 4000000 in
theorem m_X12_step (a1 : Int32) (S S' : SS) (r : Int32) (h : f_X12_step a1 S = some (r, S')) : MT yX12_step cX12_step 5 (some .int) 3 72 (fun ad => [.ref (ad 14), .int a1]) S (some (.int r)) S' := by
  refine MT.of RX12 (fun ad => [(0, .ref (ad 14)), (1, .int a1)]) (by decide) rfl (fun _ => Nat.le_of_ble_eq_true rfl) (fun _ => rfl) ?_
  intro p l e R s m args below meth c dC dI cs ad A hR1 hR2 F H locs ls w hl
  have hx := F.1.1
  have hb := F.1.2.1
  rw [f_X12_step] at h
  refine lv_iload_n (pc := 0) hx hb dX12_step_0 rfl (lv_at hl 1 rfl) ?_
  refine lv_iconst (pc := 1) (v := 1) hx hb dX12_step_1 (by decide) ?_
  refine lv_icmp_lt (pc := 2) (tgt := 11) hx hb dX12_step_2 (by decide) (fun q => ?_) (fun q => ?_)
  · have h := ite_t q h
    refine lv_iconst (pc := 11) (v := -1) hx hb dX12_step_11 (by decide) ?_
    exact s_iret F w h dX12_step_12
  · have h := ite_f q h
    refine lv_iload_n (pc := 5) hx hb dX12_step_5 rfl (lv_at hl 1 rfl) ?_
    refine lv_bipush (pc := 6) (v := 50) hx hb dX12_step_6 (by decide) ?_
    refine lv_icmp_le (pc := 8) (tgt := 13) hx hb dX12_step_8 (by decide) (fun q => ?_) (fun q => ?_)
    · have h := ite_t q h
      refine lv_aload_n (pc := 13) hx hb dX12_step_13 rfl (lv_at hl 0 rfl) ?_
      obtain ⟨S1, hc, h⟩ := bndv_t h
      refine s_cvv (pc := 14) [] (fun ad => [.ref (ad 14)]) F w (m_X12_keep  _ _ hc) rfl rfl hl.1 ds_14 vc_X12 rfl ok_X12_keep rfl kc_X12_keep kl_X12_346 ki_X12_keep kv_X12_keep kn_X12 ⟨Nat.le_trans (by decide) hR1, Nat.le_trans (by decide) hR2⟩ ⟨Nat.zero_le _, Nat.zero_le _⟩ (Nat.le_of_ble_eq_true rfl) dX12_step_14 (fun H locs w => ?_)
      refine lv_iconst (pc := 17) (v := 0) hx hb dX12_step_17 (by decide) ?_
      refine lv_istore_n (pc := 18) (lv' := [(2, .int (0 : Int32)), (0, .ref (ad 14)), (1, .int a1)]) hx hb dX12_step_18 rfl hl (by decide) rfl (fun ls hl => ?_)
      exact w_X12_step_L19 F (Nat.le_trans (by decide) hR1) (Nat.le_trans (by decide) hR2) _ _ _ _ h _ _ _ w (lv_sub hl [1, 2, 0] rfl)
    · have h := ite_f q h
      refine lv_iconst (pc := 11) (v := -1) hx hb dX12_step_11 (by decide) ?_
      exact s_iret F w h dX12_step_12
def f_X0_flatBrake (a1 : Int32) (S : SS) : Option (Int32 × SS) :=
  bndv (f_X5_beginBody (6 : Int32) S) (fun S1 =>
  some ((4 : Int32) * a1, S1))
theorem dX0_flatBrake_0 : decode cX0_flatBrake 0 = .ok (.aload_n 0, 1) := by decide +kernel
theorem dX0_flatBrake_1 : decode cX0_flatBrake 1 = .ok (.getfield 23, 3) := by decide +kernel
theorem dX0_flatBrake_4 : decode cX0_flatBrake 4 = .ok (.bipush 6, 2) := by decide +kernel
theorem dX0_flatBrake_6 : decode cX0_flatBrake 6 = .ok (.invokevirtual 40, 3) := by decide +kernel
theorem dX0_flatBrake_9 : decode cX0_flatBrake 9 = .ok (.iconst 4, 1) := by decide +kernel
theorem dX0_flatBrake_10 : decode cX0_flatBrake 10 = .ok (.iload_n 1, 1) := by decide +kernel
theorem dX0_flatBrake_11 : decode cX0_flatBrake 11 = .ok (.imul, 1) := by decide +kernel
theorem dX0_flatBrake_12 : decode cX0_flatBrake 12 = .ok (.ireturn, 1) := by decide +kernel
set_option maxRecDepth 100000 in
set_option maxHeartbeats 4000000 in
theorem m_X0_flatBrake (a1 : Int32) (S S' : SS) (r : Int32) (h : f_X0_flatBrake a1 S = some (r, S')) : MT yX0_flatBrake cX0_flatBrake 2 (some .int) 1 21 (fun ad => [.ref (ad 8), .int a1]) S (some (.int r)) S' := by
  refine MT.of RX0 (fun ad => [(0, .ref (ad 8)), (1, .int a1)]) (by decide) rfl (fun _ => Nat.le_of_ble_eq_true rfl) (fun _ => rfl) ?_
  intro p l e R s m args below meth c dC dI cs ad A hR1 hR2 F H locs ls w hl
  have hx := F.1.1
  have hb := F.1.2.1
  rw [f_X0_flatBrake] at h
  refine lv_aload_n (pc := 0) hx hb dX0_flatBrake_0 rfl (lv_at hl 0 rfl) ?_
  refine s_getR (pc := 1) F w 1 ds_8 (j := 2) vc_X0 vi_X0 rfl (by decide) kf_X0_23 dX0_flatBrake_1 ?_
  refine lv_bipush (pc := 4) (v := 6) hx hb dX0_flatBrake_4 (by decide) ?_
  obtain ⟨S1, hc, h⟩ := bndv_t h
  refine s_cvv (pc := 6) [.int (6 : Int32)] (fun ad => [.ref (ad 1), .int (6 : Int32)]) F w (m_X5_beginBody _ _ _ hc) rfl rfl hl.1 ds_1 vc_X5 rfl ok_X5_beginBody rfl kc_X5_beginBody kl_X0_40 ki_X5_beginBody kv_X5_beginBody kn_X5 ⟨Nat.le_trans (by decide) hR1, Nat.le_trans (by decide) hR2⟩ ⟨Nat.zero_le _, Nat.zero_le _⟩ (Nat.le_of_ble_eq_true rfl) dX0_flatBrake_6 (fun H locs w => ?_)
  refine lv_iconst (pc := 9) (v := 4) hx hb dX0_flatBrake_9 (by decide) ?_
  refine lv_iload_n (pc := 10) hx hb dX0_flatBrake_10 rfl (lv_at hl 1 rfl) ?_
  refine lv_imul (pc := 11) hx hb dX0_flatBrake_11 ?_
  exact s_iret F w h dX0_flatBrake_12
def f_X0_engineBrake  (S : SS) : Option (Int32 × SS) :=
  bndv (f_X5_beginBody (10 : Int32) S) (fun S1 =>
  some ((30 : Int32), S1))
theorem dX0_engineBrake_0 : decode cX0_engineBrake 0 = .ok (.aload_n 0, 1) := by decide +kernel
theorem dX0_engineBrake_1 : decode cX0_engineBrake 1 = .ok (.getfield 23, 3) := by decide +kernel
theorem dX0_engineBrake_4 : decode cX0_engineBrake 4 = .ok (.bipush 10, 2) := by decide +kernel
theorem dX0_engineBrake_6 : decode cX0_engineBrake 6 = .ok (.invokevirtual 40, 3) := by decide +kernel
theorem dX0_engineBrake_9 : decode cX0_engineBrake 9 = .ok (.bipush 30, 2) := by decide +kernel
theorem dX0_engineBrake_11 : decode cX0_engineBrake 11 = .ok (.ireturn, 1) := by decide +kernel
set_option maxRecDepth 100000 in
set_option maxHeartbeats 4000000 in
theorem m_X0_engineBrake  (S S' : SS) (r : Int32) (h : f_X0_engineBrake  S = some (r, S')) : MT yX0_engineBrake cX0_engineBrake 1 (some .int) 1 21 (fun ad => [.ref (ad 8)]) S (some (.int r)) S' := by
  refine MT.of RX0 (fun ad => [(0, .ref (ad 8))]) (by decide) rfl (fun _ => Nat.le_of_ble_eq_true rfl) (fun _ => rfl) ?_
  intro p l e R s m args below meth c dC dI cs ad A hR1 hR2 F H locs ls w hl
  have hx := F.1.1
  have hb := F.1.2.1
  rw [f_X0_engineBrake] at h
  refine lv_aload_n (pc := 0) hx hb dX0_engineBrake_0 rfl (lv_at hl 0 rfl) ?_
  refine s_getR (pc := 1) F w 1 ds_8 (j := 2) vc_X0 vi_X0 rfl (by decide) kf_X0_23 dX0_engineBrake_1 ?_
  refine lv_bipush (pc := 4) (v := 10) hx hb dX0_engineBrake_4 (by decide) ?_
  obtain ⟨S1, hc, h⟩ := bndv_t h
  refine s_cvv (pc := 6) [.int (10 : Int32)] (fun ad => [.ref (ad 1), .int (10 : Int32)]) F w (m_X5_beginBody _ _ _ hc) rfl rfl hl.1 ds_1 vc_X5 rfl ok_X5_beginBody rfl kc_X5_beginBody kl_X0_40 ki_X5_beginBody kv_X5_beginBody kn_X5 ⟨Nat.le_trans (by decide) hR1, Nat.le_trans (by decide) hR2⟩ ⟨Nat.zero_le _, Nat.zero_le _⟩ (Nat.le_of_ble_eq_true rfl) dX0_engineBrake_6 (fun H locs w => ?_)
  refine lv_bipush (pc := 9) (v := 30) hx hb dX0_engineBrake_9 (by decide) ?_
  exact s_iret F w h dX0_engineBrake_11
def f_X0_brake (a1 : Int32) (S : SS) : Option (Int32 × SS) :=
  bnd (f_X9_get a1 (1 : Int32) S) (fun r2 S1 =>
  bnd (f_X0_kindOf a1 S1) (fun r4 S3 =>
  if r4 = (2 : Int32) then
    bndv (f_X5_beginBody (7 : Int32) S3) (fun S5 =>
    bnd (f_X0_flatBrake r2 S5) (fun r7 S6 =>
    some (r7 + (2 : Int32), S6)))
  else
  if r4 = (3 : Int32) then
    bndv (f_X5_beginBody (8 : Int32) S3) (fun S8 =>
    some ((3 : Int32) * r2, S8))
  else
  if r4 = (4 : Int32) then
    bndv (f_X5_beginBody (9 : Int32) S3) (fun S9 =>
    some (r2, S9))
  else
  if r4 = (5 : Int32) then
    bnd (f_X0_engineBrake  S3) (fun r11 S10 =>
    some (r11, S10))
  else
  if r4 = (6 : Int32) then
    bndv (f_X5_beginBody (11 : Int32) S3) (fun S12 =>
    bnd (f_X0_engineBrake  S12) (fun r14 S13 =>
    some (r14 + (5 : Int32), S13)))
  else
  bnd (f_X0_flatBrake r2 S3) (fun r16 S15 =>
  some (r16, S15))))
theorem dX0_brake_0 : decode cX0_brake 0 = .ok (.aload_n 0, 1) := by decide +kernel
theorem dX0_brake_1 : decode cX0_brake 1 = .ok (.getfield 19, 3) := by decide +kernel
theorem dX0_brake_4 : decode cX0_brake 4 = .ok (.iload_n 1, 1) := by decide +kernel
theorem dX0_brake_5 : decode cX0_brake 5 = .ok (.iconst 1, 1) := by decide +kernel
theorem dX0_brake_6 : decode cX0_brake 6 = .ok (.invokevirtual 29, 3) := by decide +kernel
theorem dX0_brake_9 : decode cX0_brake 9 = .ok (.istore_n 2, 1) := by decide +kernel
theorem dX0_brake_10 : decode cX0_brake 10 = .ok (.aload_n 0, 1) := by decide +kernel
theorem dX0_brake_11 : decode cX0_brake 11 = .ok (.iload_n 1, 1) := by decide +kernel
theorem dX0_brake_12 : decode cX0_brake 12 = .ok (.invokevirtual 33, 3) := by decide +kernel
theorem dX0_brake_15 : decode cX0_brake 15 = .ok (.tableswitch 95 2 6 #[33, 50, 63, 74, 79], 33) := by decide +kernel
theorem dX0_brake_48 : decode cX0_brake 48 = .ok (.aload_n 0, 1) := by decide +kernel
theorem dX0_brake_49 : decode cX0_brake 49 = .ok (.getfield 23, 3) := by decide +kernel
theorem dX0_brake_52 : decode cX0_brake 52 = .ok (.bipush 7, 2) := by decide +kernel
theorem dX0_brake_54 : decode cX0_brake 54 = .ok (.invokevirtual 40, 3) := by decide +kernel
theorem dX0_brake_57 : decode cX0_brake 57 = .ok (.aload_n 0, 1) := by decide +kernel
theorem dX0_brake_58 : decode cX0_brake 58 = .ok (.iload_n 2, 1) := by decide +kernel
theorem dX0_brake_59 : decode cX0_brake 59 = .ok (.invokevirtual 49, 3) := by decide +kernel
theorem dX0_brake_62 : decode cX0_brake 62 = .ok (.iconst 2, 1) := by decide +kernel
theorem dX0_brake_63 : decode cX0_brake 63 = .ok (.iadd, 1) := by decide +kernel
theorem dX0_brake_64 : decode cX0_brake 64 = .ok (.ireturn, 1) := by decide +kernel
theorem dX0_brake_65 : decode cX0_brake 65 = .ok (.aload_n 0, 1) := by decide +kernel
theorem dX0_brake_66 : decode cX0_brake 66 = .ok (.getfield 23, 3) := by decide +kernel
theorem dX0_brake_69 : decode cX0_brake 69 = .ok (.bipush 8, 2) := by decide +kernel
theorem dX0_brake_71 : decode cX0_brake 71 = .ok (.invokevirtual 40, 3) := by decide +kernel
theorem dX0_brake_74 : decode cX0_brake 74 = .ok (.iconst 3, 1) := by decide +kernel
theorem dX0_brake_75 : decode cX0_brake 75 = .ok (.iload_n 2, 1) := by decide +kernel
theorem dX0_brake_76 : decode cX0_brake 76 = .ok (.imul, 1) := by decide +kernel
theorem dX0_brake_77 : decode cX0_brake 77 = .ok (.ireturn, 1) := by decide +kernel
theorem dX0_brake_78 : decode cX0_brake 78 = .ok (.aload_n 0, 1) := by decide +kernel
theorem dX0_brake_79 : decode cX0_brake 79 = .ok (.getfield 23, 3) := by decide +kernel
theorem dX0_brake_82 : decode cX0_brake 82 = .ok (.bipush 9, 2) := by decide +kernel
theorem dX0_brake_84 : decode cX0_brake 84 = .ok (.invokevirtual 40, 3) := by decide +kernel
theorem dX0_brake_87 : decode cX0_brake 87 = .ok (.iload_n 2, 1) := by decide +kernel
theorem dX0_brake_88 : decode cX0_brake 88 = .ok (.ireturn, 1) := by decide +kernel
theorem dX0_brake_89 : decode cX0_brake 89 = .ok (.aload_n 0, 1) := by decide +kernel
theorem dX0_brake_90 : decode cX0_brake 90 = .ok (.invokevirtual 52, 3) := by decide +kernel
theorem dX0_brake_93 : decode cX0_brake 93 = .ok (.ireturn, 1) := by decide +kernel
theorem dX0_brake_94 : decode cX0_brake 94 = .ok (.aload_n 0, 1) := by decide +kernel
theorem dX0_brake_95 : decode cX0_brake 95 = .ok (.getfield 23, 3) := by decide +kernel
theorem dX0_brake_98 : decode cX0_brake 98 = .ok (.bipush 11, 2) := by decide +kernel
theorem dX0_brake_100 : decode cX0_brake 100 = .ok (.invokevirtual 40, 3) := by decide +kernel
theorem dX0_brake_103 : decode cX0_brake 103 = .ok (.aload_n 0, 1) := by decide +kernel
theorem dX0_brake_104 : decode cX0_brake 104 = .ok (.invokevirtual 52, 3) := by decide +kernel
theorem dX0_brake_107 : decode cX0_brake 107 = .ok (.iconst 5, 1) := by decide +kernel
theorem dX0_brake_108 : decode cX0_brake 108 = .ok (.iadd, 1) := by decide +kernel
theorem dX0_brake_109 : decode cX0_brake 109 = .ok (.ireturn, 1) := by decide +kernel
theorem dX0_brake_110 : decode cX0_brake 110 = .ok (.aload_n 0, 1) := by decide +kernel
theorem dX0_brake_111 : decode cX0_brake 111 = .ok (.iload_n 2, 1) := by decide +kernel
theorem dX0_brake_112 : decode cX0_brake 112 = .ok (.invokevirtual 49, 3) := by decide +kernel
theorem dX0_brake_115 : decode cX0_brake 115 = .ok (.ireturn, 1) := by decide +kernel
set_option maxRecDepth 100000 in
set_option maxHeartbeats 4000000 in
theorem m_X0_brake (a1 : Int32) (S S' : SS) (r : Int32) (h : f_X0_brake a1 S = some (r, S')) : MT yX0_brake cX0_brake 3 (some .int) 2 43 (fun ad => [.ref (ad 8), .int a1]) S (some (.int r)) S' := by
  refine MT.of RX0 (fun ad => [(0, .ref (ad 8)), (1, .int a1)]) (by decide) rfl (fun _ => Nat.le_of_ble_eq_true rfl) (fun _ => rfl) ?_
  intro p l e R s m args below meth c dC dI cs ad A hR1 hR2 F H locs ls w hl
  have hx := F.1.1
  have hb := F.1.2.1
  rw [f_X0_brake] at h
  refine lv_aload_n (pc := 0) hx hb dX0_brake_0 rfl (lv_at hl 0 rfl) ?_
  refine s_getR (pc := 1) F w 4 ds_8 (j := 1) vc_X0 vi_X0 rfl (by decide) kf_X0_19 dX0_brake_1 ?_
  refine lv_iload_n (pc := 4) hx hb dX0_brake_4 rfl (lv_at hl 1 rfl) ?_
  refine lv_iconst (pc := 5) (v := 1) hx hb dX0_brake_5 (by decide) ?_
  obtain ⟨r2, S1, hc, h⟩ := bnd_t h
  refine s_cvi (pc := 6) [.int a1, .int (1 : Int32)] (fun ad => [.ref (ad 4), .int a1, .int (1 : Int32)]) F w (m_X9_get _ _ _ _ _ hc) rfl rfl hl.1 ds_4 vc_X9 rfl ok_X9_get rfl kc_X9_get kl_X0_29 ki_X9_get kv_X9_get kn_X9 ⟨Nat.le_trans (by decide) hR1, Nat.le_trans (by decide) hR2⟩ ⟨Nat.zero_le _, Nat.zero_le _⟩ (Nat.le_of_ble_eq_true rfl) dX0_brake_6 (fun H locs w => ?_)
  refine lv_istore_n (pc := 9) (lv' := [(2, .int r2), (0, .ref (ad 8)), (1, .int a1)]) hx hb dX0_brake_9 rfl hl (by decide) rfl (fun ls hl => ?_)
  refine lv_aload_n (pc := 10) hx hb dX0_brake_10 rfl (lv_at hl 1 rfl) ?_
  refine lv_iload_n (pc := 11) hx hb dX0_brake_11 rfl (lv_at hl 2 rfl) ?_
  obtain ⟨r4, S3, hc, h⟩ := bnd_t h
  refine s_cvi (pc := 12) [.int a1] (fun ad => [.ref (ad 8), .int a1]) F w (m_X0_kindOf _ _ _ _ hc) rfl rfl hl.1 ds_8 vc_X0 rfl ok_X0_kindOf rfl kc_X0_kindOf kl_X0_33 ki_X0_kindOf kv_X0_kindOf kn_X0 ⟨Nat.le_trans (by decide) hR1, Nat.le_trans (by decide) hR2⟩ ⟨Nat.zero_le _, Nat.zero_le _⟩ (Nat.le_of_ble_eq_true rfl) dX0_brake_12 (fun H locs w => ?_)
  rcases Decidable.em (r4 = (2 : Int32)) with q2 | q2
  · refine lv_tableIn (pc := 15) (tgt := 48) (off := 33) hx hb dX0_brake_15 (by rw [q2]; decide) (by rw [q2]; decide) (by rw [q2]; rfl) (by decide) ?_
    have h := ite_t q2 h
    refine lv_aload_n (pc := 48) hx hb dX0_brake_48 rfl (lv_at hl 1 rfl) ?_
    refine s_getR (pc := 49) F w 1 ds_8 (j := 2) vc_X0 vi_X0 rfl (by decide) kf_X0_23 dX0_brake_49 ?_
    refine lv_bipush (pc := 52) (v := 7) hx hb dX0_brake_52 (by decide) ?_
    obtain ⟨S5, hc, h⟩ := bndv_t h
    refine s_cvv (pc := 54) [.int (7 : Int32)] (fun ad => [.ref (ad 1), .int (7 : Int32)]) F w (m_X5_beginBody _ _ _ hc) rfl rfl hl.1 ds_1 vc_X5 rfl ok_X5_beginBody rfl kc_X5_beginBody kl_X0_40 ki_X5_beginBody kv_X5_beginBody kn_X5 ⟨Nat.le_trans (by decide) hR1, Nat.le_trans (by decide) hR2⟩ ⟨Nat.zero_le _, Nat.zero_le _⟩ (Nat.le_of_ble_eq_true rfl) dX0_brake_54 (fun H locs w => ?_)
    refine lv_aload_n (pc := 57) hx hb dX0_brake_57 rfl (lv_at hl 1 rfl) ?_
    refine lv_iload_n (pc := 58) hx hb dX0_brake_58 rfl (lv_at hl 0 rfl) ?_
    obtain ⟨r7, S6, hc, h⟩ := bnd_t h
    refine s_cvi (pc := 59) [.int r2] (fun ad => [.ref (ad 8), .int r2]) F w (m_X0_flatBrake _ _ _ _ hc) rfl rfl hl.1 ds_8 vc_X0 rfl ok_X0_flatBrake rfl kc_X0_flatBrake kl_X0_49 ki_X0_flatBrake kv_X0_flatBrake kn_X0 ⟨Nat.le_trans (by decide) hR1, Nat.le_trans (by decide) hR2⟩ ⟨Nat.zero_le _, Nat.zero_le _⟩ (Nat.le_of_ble_eq_true rfl) dX0_brake_59 (fun H locs w => ?_)
    refine lv_iconst (pc := 62) (v := 2) hx hb dX0_brake_62 (by decide) ?_
    refine lv_iadd (pc := 63) hx hb dX0_brake_63 ?_
    exact s_iret F w h dX0_brake_64
  have h := ite_f q2 h
  rcases Decidable.em (r4 = (3 : Int32)) with q3 | q3
  · refine lv_tableIn (pc := 15) (tgt := 65) (off := 50) hx hb dX0_brake_15 (by rw [q3]; decide) (by rw [q3]; decide) (by rw [q3]; rfl) (by decide) ?_
    have h := ite_t q3 h
    refine lv_aload_n (pc := 65) hx hb dX0_brake_65 rfl (lv_at hl 1 rfl) ?_
    refine s_getR (pc := 66) F w 1 ds_8 (j := 2) vc_X0 vi_X0 rfl (by decide) kf_X0_23 dX0_brake_66 ?_
    refine lv_bipush (pc := 69) (v := 8) hx hb dX0_brake_69 (by decide) ?_
    obtain ⟨S8, hc, h⟩ := bndv_t h
    refine s_cvv (pc := 71) [.int (8 : Int32)] (fun ad => [.ref (ad 1), .int (8 : Int32)]) F w (m_X5_beginBody _ _ _ hc) rfl rfl hl.1 ds_1 vc_X5 rfl ok_X5_beginBody rfl kc_X5_beginBody kl_X0_40 ki_X5_beginBody kv_X5_beginBody kn_X5 ⟨Nat.le_trans (by decide) hR1, Nat.le_trans (by decide) hR2⟩ ⟨Nat.zero_le _, Nat.zero_le _⟩ (Nat.le_of_ble_eq_true rfl) dX0_brake_71 (fun H locs w => ?_)
    refine lv_iconst (pc := 74) (v := 3) hx hb dX0_brake_74 (by decide) ?_
    refine lv_iload_n (pc := 75) hx hb dX0_brake_75 rfl (lv_at hl 0 rfl) ?_
    refine lv_imul (pc := 76) hx hb dX0_brake_76 ?_
    exact s_iret F w h dX0_brake_77
  have h := ite_f q3 h
  rcases Decidable.em (r4 = (4 : Int32)) with q4 | q4
  · refine lv_tableIn (pc := 15) (tgt := 78) (off := 63) hx hb dX0_brake_15 (by rw [q4]; decide) (by rw [q4]; decide) (by rw [q4]; rfl) (by decide) ?_
    have h := ite_t q4 h
    refine lv_aload_n (pc := 78) hx hb dX0_brake_78 rfl (lv_at hl 1 rfl) ?_
    refine s_getR (pc := 79) F w 1 ds_8 (j := 2) vc_X0 vi_X0 rfl (by decide) kf_X0_23 dX0_brake_79 ?_
    refine lv_bipush (pc := 82) (v := 9) hx hb dX0_brake_82 (by decide) ?_
    obtain ⟨S9, hc, h⟩ := bndv_t h
    refine s_cvv (pc := 84) [.int (9 : Int32)] (fun ad => [.ref (ad 1), .int (9 : Int32)]) F w (m_X5_beginBody _ _ _ hc) rfl rfl hl.1 ds_1 vc_X5 rfl ok_X5_beginBody rfl kc_X5_beginBody kl_X0_40 ki_X5_beginBody kv_X5_beginBody kn_X5 ⟨Nat.le_trans (by decide) hR1, Nat.le_trans (by decide) hR2⟩ ⟨Nat.zero_le _, Nat.zero_le _⟩ (Nat.le_of_ble_eq_true rfl) dX0_brake_84 (fun H locs w => ?_)
    refine lv_iload_n (pc := 87) hx hb dX0_brake_87 rfl (lv_at hl 0 rfl) ?_
    exact s_iret F w h dX0_brake_88
  have h := ite_f q4 h
  rcases Decidable.em (r4 = (5 : Int32)) with q5 | q5
  · refine lv_tableIn (pc := 15) (tgt := 89) (off := 74) hx hb dX0_brake_15 (by rw [q5]; decide) (by rw [q5]; decide) (by rw [q5]; rfl) (by decide) ?_
    have h := ite_t q5 h
    refine lv_aload_n (pc := 89) hx hb dX0_brake_89 rfl (lv_at hl 1 rfl) ?_
    obtain ⟨r11, S10, hc, h⟩ := bnd_t h
    refine s_cvi (pc := 90) [] (fun ad => [.ref (ad 8)]) F w (m_X0_engineBrake  _ _ _ hc) rfl rfl hl.1 ds_8 vc_X0 rfl ok_X0_engineBrake rfl kc_X0_engineBrake kl_X0_52 ki_X0_engineBrake kv_X0_engineBrake kn_X0 ⟨Nat.le_trans (by decide) hR1, Nat.le_trans (by decide) hR2⟩ ⟨Nat.zero_le _, Nat.zero_le _⟩ (Nat.le_of_ble_eq_true rfl) dX0_brake_90 (fun H locs w => ?_)
    exact s_iret F w h dX0_brake_93
  have h := ite_f q5 h
  rcases Decidable.em (r4 = (6 : Int32)) with q6 | q6
  · refine lv_tableIn (pc := 15) (tgt := 94) (off := 79) hx hb dX0_brake_15 (by rw [q6]; decide) (by rw [q6]; decide) (by rw [q6]; rfl) (by decide) ?_
    have h := ite_t q6 h
    refine lv_aload_n (pc := 94) hx hb dX0_brake_94 rfl (lv_at hl 1 rfl) ?_
    refine s_getR (pc := 95) F w 1 ds_8 (j := 2) vc_X0 vi_X0 rfl (by decide) kf_X0_23 dX0_brake_95 ?_
    refine lv_bipush (pc := 98) (v := 11) hx hb dX0_brake_98 (by decide) ?_
    obtain ⟨S12, hc, h⟩ := bndv_t h
    refine s_cvv (pc := 100) [.int (11 : Int32)] (fun ad => [.ref (ad 1), .int (11 : Int32)]) F w (m_X5_beginBody _ _ _ hc) rfl rfl hl.1 ds_1 vc_X5 rfl ok_X5_beginBody rfl kc_X5_beginBody kl_X0_40 ki_X5_beginBody kv_X5_beginBody kn_X5 ⟨Nat.le_trans (by decide) hR1, Nat.le_trans (by decide) hR2⟩ ⟨Nat.zero_le _, Nat.zero_le _⟩ (Nat.le_of_ble_eq_true rfl) dX0_brake_100 (fun H locs w => ?_)
    refine lv_aload_n (pc := 103) hx hb dX0_brake_103 rfl (lv_at hl 1 rfl) ?_
    obtain ⟨r14, S13, hc, h⟩ := bnd_t h
    refine s_cvi (pc := 104) [] (fun ad => [.ref (ad 8)]) F w (m_X0_engineBrake  _ _ _ hc) rfl rfl hl.1 ds_8 vc_X0 rfl ok_X0_engineBrake rfl kc_X0_engineBrake kl_X0_52 ki_X0_engineBrake kv_X0_engineBrake kn_X0 ⟨Nat.le_trans (by decide) hR1, Nat.le_trans (by decide) hR2⟩ ⟨Nat.zero_le _, Nat.zero_le _⟩ (Nat.le_of_ble_eq_true rfl) dX0_brake_104 (fun H locs w => ?_)
    refine lv_iconst (pc := 107) (v := 5) hx hb dX0_brake_107 (by decide) ?_
    refine lv_iadd (pc := 108) hx hb dX0_brake_108 ?_
    exact s_iret F w h dX0_brake_109
  have h := ite_f q6 h
  refine lv_tableOut (pc := 15) (tgt := 110) hx hb dX0_brake_15 (by have zq2 := i32ne q2 (show ((2 : Int32)).toInt = 2 by decide); have zq3 := i32ne q3 (show ((3 : Int32)).toInt = 3 by decide); have zq4 := i32ne q4 (show ((4 : Int32)).toInt = 4 by decide); have zq5 := i32ne q5 (show ((5 : Int32)).toInt = 5 by decide); have zq6 := i32ne q6 (show ((6 : Int32)).toInt = 6 by decide); omega) (by decide) ?_
  refine lv_aload_n (pc := 110) hx hb dX0_brake_110 rfl (lv_at hl 1 rfl) ?_
  refine lv_iload_n (pc := 111) hx hb dX0_brake_111 rfl (lv_at hl 0 rfl) ?_
  obtain ⟨r16, S15, hc, h⟩ := bnd_t h
  refine s_cvi (pc := 112) [.int r2] (fun ad => [.ref (ad 8), .int r2]) F w (m_X0_flatBrake _ _ _ _ hc) rfl rfl hl.1 ds_8 vc_X0 rfl ok_X0_flatBrake rfl kc_X0_flatBrake kl_X0_49 ki_X0_flatBrake kv_X0_flatBrake kn_X0 ⟨Nat.le_trans (by decide) hR1, Nat.le_trans (by decide) hR2⟩ ⟨Nat.zero_le _, Nat.zero_le _⟩ (Nat.le_of_ble_eq_true rfl) dX0_brake_112 (fun H locs w => ?_)
  exact s_iret F w h dX0_brake_115
def f_X0_perAxle (a1 : Int32) (S : SS) : Option (Int32 × SS) :=
  bndv (f_X5_beginBody (14 : Int32) S) (fun S1 =>
  bnd (f_X0_weight a1 S1) (fun r3 S2 =>
  bnd (f_X9_get a1 (1 : Int32) S2) (fun r5 S4 =>
  if 0 < r5 then
    grd (!(decide (r5 = 0))) (
    some (r3 / r5, S4))
  else
    some ((-4 : Int32), S4))))
theorem dX0_perAxle_0 : decode cX0_perAxle 0 = .ok (.aload_n 0, 1) := by decide +kernel
theorem dX0_perAxle_1 : decode cX0_perAxle 1 = .ok (.getfield 23, 3) := by decide +kernel
theorem dX0_perAxle_4 : decode cX0_perAxle 4 = .ok (.bipush 14, 2) := by decide +kernel
theorem dX0_perAxle_6 : decode cX0_perAxle 6 = .ok (.invokevirtual 40, 3) := by decide +kernel
theorem dX0_perAxle_9 : decode cX0_perAxle 9 = .ok (.aload_n 0, 1) := by decide +kernel
theorem dX0_perAxle_10 : decode cX0_perAxle 10 = .ok (.iload_n 1, 1) := by decide +kernel
theorem dX0_perAxle_11 : decode cX0_perAxle 11 = .ok (.invokevirtual 56, 3) := by decide +kernel
theorem dX0_perAxle_14 : decode cX0_perAxle 14 = .ok (.istore_n 2, 1) := by decide +kernel
theorem dX0_perAxle_15 : decode cX0_perAxle 15 = .ok (.aload_n 0, 1) := by decide +kernel
theorem dX0_perAxle_16 : decode cX0_perAxle 16 = .ok (.getfield 19, 3) := by decide +kernel
theorem dX0_perAxle_19 : decode cX0_perAxle 19 = .ok (.iload_n 1, 1) := by decide +kernel
theorem dX0_perAxle_20 : decode cX0_perAxle 20 = .ok (.iconst 1, 1) := by decide +kernel
theorem dX0_perAxle_21 : decode cX0_perAxle 21 = .ok (.invokevirtual 29, 3) := by decide +kernel
theorem dX0_perAxle_24 : decode cX0_perAxle 24 = .ok (.istore_n 3, 1) := by decide +kernel
theorem dX0_perAxle_25 : decode cX0_perAxle 25 = .ok (.iload_n 3, 1) := by decide +kernel
theorem dX0_perAxle_26 : decode cX0_perAxle 26 = .ok (.ifCond .gt 8, 3) := by decide +kernel
theorem dX0_perAxle_29 : decode cX0_perAxle 29 = .ok (.bipush (-4), 2) := by decide +kernel
theorem dX0_perAxle_31 : decode cX0_perAxle 31 = .ok (.goto 6, 3) := by decide +kernel
theorem dX0_perAxle_34 : decode cX0_perAxle 34 = .ok (.iload_n 2, 1) := by decide +kernel
theorem dX0_perAxle_35 : decode cX0_perAxle 35 = .ok (.iload_n 3, 1) := by decide +kernel
theorem dX0_perAxle_36 : decode cX0_perAxle 36 = .ok (.idiv, 1) := by decide +kernel
theorem dX0_perAxle_37 : decode cX0_perAxle 37 = .ok (.ireturn, 1) := by decide +kernel
set_option maxRecDepth 100000 in
set_option maxHeartbeats 4000000 in
theorem m_X0_perAxle (a1 : Int32) (S S' : SS) (r : Int32) (h : f_X0_perAxle a1 S = some (r, S')) : MT yX0_perAxle cX0_perAxle 4 (some .int) 4 85 (fun ad => [.ref (ad 8), .int a1]) S (some (.int r)) S' := by
  refine MT.of RX0 (fun ad => [(0, .ref (ad 8)), (1, .int a1)]) (by decide) rfl (fun _ => Nat.le_of_ble_eq_true rfl) (fun _ => rfl) ?_
  intro p l e R s m args below meth c dC dI cs ad A hR1 hR2 F H locs ls w hl
  have hx := F.1.1
  have hb := F.1.2.1
  rw [f_X0_perAxle] at h
  refine lv_aload_n (pc := 0) hx hb dX0_perAxle_0 rfl (lv_at hl 0 rfl) ?_
  refine s_getR (pc := 1) F w 1 ds_8 (j := 2) vc_X0 vi_X0 rfl (by decide) kf_X0_23 dX0_perAxle_1 ?_
  refine lv_bipush (pc := 4) (v := 14) hx hb dX0_perAxle_4 (by decide) ?_
  obtain ⟨S1, hc, h⟩ := bndv_t h
  refine s_cvv (pc := 6) [.int (14 : Int32)] (fun ad => [.ref (ad 1), .int (14 : Int32)]) F w (m_X5_beginBody _ _ _ hc) rfl rfl hl.1 ds_1 vc_X5 rfl ok_X5_beginBody rfl kc_X5_beginBody kl_X0_40 ki_X5_beginBody kv_X5_beginBody kn_X5 ⟨Nat.le_trans (by decide) hR1, Nat.le_trans (by decide) hR2⟩ ⟨Nat.zero_le _, Nat.zero_le _⟩ (Nat.le_of_ble_eq_true rfl) dX0_perAxle_6 (fun H locs w => ?_)
  refine lv_aload_n (pc := 9) hx hb dX0_perAxle_9 rfl (lv_at hl 0 rfl) ?_
  refine lv_iload_n (pc := 10) hx hb dX0_perAxle_10 rfl (lv_at hl 1 rfl) ?_
  obtain ⟨r3, S2, hc, h⟩ := bnd_t h
  refine s_cvi (pc := 11) [.int a1] (fun ad => [.ref (ad 8), .int a1]) F w (m_X0_weight _ _ _ _ hc) rfl rfl hl.1 ds_8 vc_X0 rfl ok_X0_weight rfl kc_X0_weight kl_X0_56 ki_X0_weight kv_X0_weight kn_X0 ⟨Nat.le_trans (by decide) hR1, Nat.le_trans (by decide) hR2⟩ ⟨Nat.zero_le _, Nat.zero_le _⟩ (Nat.le_of_ble_eq_true rfl) dX0_perAxle_11 (fun H locs w => ?_)
  refine lv_istore_n (pc := 14) (lv' := [(2, .int r3), (0, .ref (ad 8)), (1, .int a1)]) hx hb dX0_perAxle_14 rfl hl (by decide) rfl (fun ls hl => ?_)
  refine lv_aload_n (pc := 15) hx hb dX0_perAxle_15 rfl (lv_at hl 1 rfl) ?_
  refine s_getR (pc := 16) F w 4 ds_8 (j := 1) vc_X0 vi_X0 rfl (by decide) kf_X0_19 dX0_perAxle_16 ?_
  refine lv_iload_n (pc := 19) hx hb dX0_perAxle_19 rfl (lv_at hl 2 rfl) ?_
  refine lv_iconst (pc := 20) (v := 1) hx hb dX0_perAxle_20 (by decide) ?_
  obtain ⟨r5, S4, hc, h⟩ := bnd_t h
  refine s_cvi (pc := 21) [.int a1, .int (1 : Int32)] (fun ad => [.ref (ad 4), .int a1, .int (1 : Int32)]) F w (m_X9_get _ _ _ _ _ hc) rfl rfl hl.1 ds_4 vc_X9 rfl ok_X9_get rfl kc_X9_get kl_X0_29 ki_X9_get kv_X9_get kn_X9 ⟨Nat.le_trans (by decide) hR1, Nat.le_trans (by decide) hR2⟩ ⟨Nat.zero_le _, Nat.zero_le _⟩ (Nat.le_of_ble_eq_true rfl) dX0_perAxle_21 (fun H locs w => ?_)
  refine lv_istore_n (pc := 24) (lv' := [(3, .int r5), (2, .int r3), (0, .ref (ad 8)), (1, .int a1)]) hx hb dX0_perAxle_24 rfl hl (by decide) rfl (fun ls hl => ?_)
  refine lv_iload_n (pc := 25) hx hb dX0_perAxle_25 rfl (lv_at hl 0 rfl) ?_
  refine lv_if_gt (pc := 26) (tgt := 34) hx hb dX0_perAxle_26 (by decide) (fun q => ?_) (fun q => ?_)
  · have h := ite_t q h
    refine lv_iload_n (pc := 34) hx hb dX0_perAxle_34 rfl (lv_at hl 1 rfl) ?_
    refine lv_iload_n (pc := 35) hx hb dX0_perAxle_35 rfl (lv_at hl 0 rfl) ?_
    obtain ⟨hd, h⟩ := grd_t h
    refine lv_idiv (pc := 36) hx hb dX0_perAxle_36 (by simpa using hd) ?_
    exact s_iret F w h dX0_perAxle_37
  · have h := ite_f q h
    refine lv_bipush (pc := 29) (v := -4) hx hb dX0_perAxle_29 (by decide) ?_
    refine lv_goto (pc := 31) (tgt := 37) hx hb dX0_perAxle_31 (by decide) ?_
    exact s_iret F w h dX0_perAxle_37
def f_X11_testAll_j113 (K36 : Int32 → Int32 → SS → Option (Int32 × SS)) (x3 : Int32) (x4 : Int32) (S : SS) : Option (Int32 × SS) :=
    nm (x4 + (1 : Int32)) (fun z14 =>
    K36 x3 z14 S)
def f_X11_testAll_L36  : Nat → Int32 → Int32 → SS → Option (Int32 × SS)
  | 0, _, _, _ => none
  | n + 1, x3, x4, S =>
    if (S.1 7 4) ≤ x4 then
      if x3 = (S.1 7 4) then
        bndv (f_X10_setLine (10 : Int32) (1 : Int32) S) (fun S5 =>
        some (x3, S5))
      else
        bndv (f_X10_setLine (10 : Int32) (0 : Int32) S) (fun S4 =>
        some (x3, S4))
    else
      bnd (f_X10_inLine x4 S) (fun r7 S6 =>
      bnd (f_X0_brake r7 S6) (fun r9 S8 =>
      bnd (f_X10_inLine x4 S8) (fun r11 S10 =>
      bnd (f_X0_perAxle r11 S10) (fun r13 S12 =>
      if r13 = (-4 : Int32) then
        bnd (f_X5_found (6 : Int32) S12) (fun r17 S16 =>
        some (r17, S16))
      else
        if ((2 : Int32) * r9) < r13 then
          f_X11_testAll_j113 (fun v0 v1 S => f_X11_testAll_L36 n v0 v1 S) x3 x4 S12
        else
          nm (x3 + (1 : Int32)) (fun z15 =>
          f_X11_testAll_j113 (fun v0 v1 S => f_X11_testAll_L36 n v0 v1 S) z15 x4 S12)))))
def f_X11_testAll (a1 : Int32) (S : SS) : Option (Int32 × SS) :=
  bnd (f_X11_named a1 (127 : Int32) S) (fun r2 S1 =>
  if r2 = 0 then
    bndv (f_X10_lineUp ((2 : Int32) * a1) S1) (fun S3 =>
    f_X11_testAll_L36 NF (0 : Int32) (0 : Int32) S3)
  else
    bnd (f_X5_found r2 S1) (fun r19 S18 =>
    some (r19, S18)))
theorem dX11_testAll_0 : decode cX11_testAll 0 = .ok (.aload_n 0, 1) := by decide +kernel
theorem dX11_testAll_1 : decode cX11_testAll 1 = .ok (.iload_n 1, 1) := by decide +kernel
theorem dX11_testAll_2 : decode cX11_testAll 2 = .ok (.bipush 127, 2) := by decide +kernel
theorem dX11_testAll_4 : decode cX11_testAll 4 = .ok (.invokevirtual 185, 3) := by decide +kernel
theorem dX11_testAll_7 : decode cX11_testAll 7 = .ok (.istore_n 2, 1) := by decide +kernel
theorem dX11_testAll_8 : decode cX11_testAll 8 = .ok (.iload_n 2, 1) := by decide +kernel
theorem dX11_testAll_9 : decode cX11_testAll 9 = .ok (.ifCond .eq 12, 3) := by decide +kernel
theorem dX11_testAll_12 : decode cX11_testAll 12 = .ok (.aload_n 0, 1) := by decide +kernel
theorem dX11_testAll_13 : decode cX11_testAll 13 = .ok (.getfield 10, 3) := by decide +kernel
theorem dX11_testAll_16 : decode cX11_testAll 16 = .ok (.iload_n 2, 1) := by decide +kernel
theorem dX11_testAll_17 : decode cX11_testAll 17 = .ok (.invokevirtual 98, 3) := by decide +kernel
theorem dX11_testAll_20 : decode cX11_testAll 20 = .ok (.ireturn, 1) := by decide +kernel
theorem dX11_testAll_21 : decode cX11_testAll 21 = .ok (.aload_n 0, 1) := by decide +kernel
theorem dX11_testAll_22 : decode cX11_testAll 22 = .ok (.getfield 58, 3) := by decide +kernel
theorem dX11_testAll_25 : decode cX11_testAll 25 = .ok (.iconst 2, 1) := by decide +kernel
theorem dX11_testAll_26 : decode cX11_testAll 26 = .ok (.iload_n 1, 1) := by decide +kernel
theorem dX11_testAll_27 : decode cX11_testAll 27 = .ok (.imul, 1) := by decide +kernel
theorem dX11_testAll_28 : decode cX11_testAll 28 = .ok (.invokevirtual 281, 3) := by decide +kernel
theorem dX11_testAll_31 : decode cX11_testAll 31 = .ok (.iconst 0, 1) := by decide +kernel
theorem dX11_testAll_32 : decode cX11_testAll 32 = .ok (.istore_n 3, 1) := by decide +kernel
theorem dX11_testAll_33 : decode cX11_testAll 33 = .ok (.iconst 0, 1) := by decide +kernel
theorem dX11_testAll_34 : decode cX11_testAll 34 = .ok (.istore 4, 2) := by decide +kernel
theorem dX11_testAll_36 : decode cX11_testAll 36 = .ok (.iload 4, 2) := by decide +kernel
theorem dX11_testAll_38 : decode cX11_testAll 38 = .ok (.aload_n 0, 1) := by decide +kernel
theorem dX11_testAll_39 : decode cX11_testAll 39 = .ok (.getfield 58, 3) := by decide +kernel
theorem dX11_testAll_42 : decode cX11_testAll 42 = .ok (.getfield 296, 3) := by decide +kernel
theorem dX11_testAll_45 : decode cX11_testAll 45 = .ok (.if_icmp .ge 74, 3) := by decide +kernel
theorem dX11_testAll_48 : decode cX11_testAll 48 = .ok (.aload_n 0, 1) := by decide +kernel
theorem dX11_testAll_49 : decode cX11_testAll 49 = .ok (.getfield 67, 3) := by decide +kernel
theorem dX11_testAll_52 : decode cX11_testAll 52 = .ok (.aload_n 0, 1) := by decide +kernel
theorem dX11_testAll_53 : decode cX11_testAll 53 = .ok (.getfield 58, 3) := by decide +kernel
theorem dX11_testAll_56 : decode cX11_testAll 56 = .ok (.iload 4, 2) := by decide +kernel
theorem dX11_testAll_58 : decode cX11_testAll 58 = .ok (.invokevirtual 299, 3) := by decide +kernel
theorem dX11_testAll_61 : decode cX11_testAll 61 = .ok (.invokevirtual 323, 3) := by decide +kernel
theorem dX11_testAll_64 : decode cX11_testAll 64 = .ok (.istore 5, 2) := by decide +kernel
theorem dX11_testAll_66 : decode cX11_testAll 66 = .ok (.aload_n 0, 1) := by decide +kernel
theorem dX11_testAll_67 : decode cX11_testAll 67 = .ok (.getfield 67, 3) := by decide +kernel
theorem dX11_testAll_70 : decode cX11_testAll 70 = .ok (.aload_n 0, 1) := by decide +kernel
theorem dX11_testAll_71 : decode cX11_testAll 71 = .ok (.getfield 58, 3) := by decide +kernel
theorem dX11_testAll_74 : decode cX11_testAll 74 = .ok (.iload 4, 2) := by decide +kernel
theorem dX11_testAll_76 : decode cX11_testAll 76 = .ok (.invokevirtual 299, 3) := by decide +kernel
theorem dX11_testAll_79 : decode cX11_testAll 79 = .ok (.invokevirtual 326, 3) := by decide +kernel
theorem dX11_testAll_82 : decode cX11_testAll 82 = .ok (.istore 6, 2) := by decide +kernel
theorem dX11_testAll_84 : decode cX11_testAll 84 = .ok (.iload 6, 2) := by decide +kernel
theorem dX11_testAll_86 : decode cX11_testAll 86 = .ok (.bipush (-4), 2) := by decide +kernel
theorem dX11_testAll_88 : decode cX11_testAll 88 = .ok (.if_icmp .ne 13, 3) := by decide +kernel
theorem dX11_testAll_91 : decode cX11_testAll 91 = .ok (.aload_n 0, 1) := by decide +kernel
theorem dX11_testAll_92 : decode cX11_testAll 92 = .ok (.getfield 10, 3) := by decide +kernel
theorem dX11_testAll_95 : decode cX11_testAll 95 = .ok (.bipush 6, 2) := by decide +kernel
theorem dX11_testAll_97 : decode cX11_testAll 97 = .ok (.invokevirtual 98, 3) := by decide +kernel
theorem dX11_testAll_100 : decode cX11_testAll 100 = .ok (.ireturn, 1) := by decide +kernel
theorem dX11_testAll_101 : decode cX11_testAll 101 = .ok (.iconst 2, 1) := by decide +kernel
theorem dX11_testAll_102 : decode cX11_testAll 102 = .ok (.iload 5, 2) := by decide +kernel
theorem dX11_testAll_104 : decode cX11_testAll 104 = .ok (.imul, 1) := by decide +kernel
theorem dX11_testAll_105 : decode cX11_testAll 105 = .ok (.iload 6, 2) := by decide +kernel
theorem dX11_testAll_107 : decode cX11_testAll 107 = .ok (.if_icmp .lt 6, 3) := by decide +kernel
theorem dX11_testAll_110 : decode cX11_testAll 110 = .ok (.iinc 3 1, 3) := by decide +kernel
theorem dX11_testAll_113 : decode cX11_testAll 113 = .ok (.iinc 4 1, 3) := by decide +kernel
theorem dX11_testAll_116 : decode cX11_testAll 116 = .ok (.goto (-80), 3) := by decide +kernel
theorem dX11_testAll_119 : decode cX11_testAll 119 = .ok (.aload_n 0, 1) := by decide +kernel
theorem dX11_testAll_120 : decode cX11_testAll 120 = .ok (.getfield 58, 3) := by decide +kernel
theorem dX11_testAll_123 : decode cX11_testAll 123 = .ok (.bipush 10, 2) := by decide +kernel
theorem dX11_testAll_125 : decode cX11_testAll 125 = .ok (.iload_n 3, 1) := by decide +kernel
theorem dX11_testAll_126 : decode cX11_testAll 126 = .ok (.aload_n 0, 1) := by decide +kernel
theorem dX11_testAll_127 : decode cX11_testAll 127 = .ok (.getfield 58, 3) := by decide +kernel
theorem dX11_testAll_130 : decode cX11_testAll 130 = .ok (.getfield 296, 3) := by decide +kernel
theorem dX11_testAll_133 : decode cX11_testAll 133 = .ok (.if_icmp .ne 7, 3) := by decide +kernel
theorem dX11_testAll_136 : decode cX11_testAll 136 = .ok (.iconst 1, 1) := by decide +kernel
theorem dX11_testAll_137 : decode cX11_testAll 137 = .ok (.goto 4, 3) := by decide +kernel
theorem dX11_testAll_140 : decode cX11_testAll 140 = .ok (.iconst 0, 1) := by decide +kernel
theorem dX11_testAll_141 : decode cX11_testAll 141 = .ok (.invokevirtual 329, 3) := by decide +kernel
theorem dX11_testAll_144 : decode cX11_testAll 144 = .ok (.iload_n 3, 1) := by decide +kernel
theorem dX11_testAll_145 : decode cX11_testAll 145 = .ok (.ireturn, 1) := by decide +kernel
set_option maxRecDepth 100000 in
set_option maxHeartbeats 4000000 in
theorem w_X11_testAll_j113 {p : Program} {l : Launch} {e : Env} {R : Room} {s : State} {m : MethodId} {args : Array Value} {below : List Frame} {meth : Method} {c : Code} {dC : Nat → ClassId} {dI : Nat → Nat → Nat} {cs : Nat → ClassId} {ad : Nat → Nat} {A : Nat → Prop} {D0 : Nat → Nat} {S' : SS} {r : Int32} (F : Fx p s m args meth c cX11_testAll 7 RX11 (some .int) dC dI cs A) (hR1 : 0 ≤ R.frames) (hR2 : 0 ≤ R.locals) (K36 : Int32 → Int32 → SS → Option (Int32 × SS)) (hK36 : ∀ (v0 : Int32) (v1 : Int32) (S : SS), K36 v0 v1 S = some (r, S') → AW p l e R s m args below meth c dC dI cs ad A D0 (some (.int r)) S' 7 36 [(0, .ref (ad 0)), (3, .int v0), (4, .int v1)] [] S) (x3 : Int32) (x4 : Int32) (S : SS) (h : f_X11_testAll_j113 K36 x3 x4 S = some (r, S')) : AW p l e R s m args below meth c dC dI cs ad A D0 (some (.int r)) S' 7 113 [(0, .ref (ad 0)), (3, .int x3), (4, .int x4)] [] S := by
  have hx := F.1.1
  have hb := F.1.2.1
  intro H locs ls w hl
  rw [f_X11_testAll_j113] at h
  refine s_nm h (fun z14 ez14 h => ?_)
  refine lv_iinc (pc := 113) (v := z14) (lv' := [(4, .int z14), (0, .ref (ad 0)), (3, .int x3)]) hx hb dX11_testAll_113 hl (k := 2) rfl (by rw [ez14]; rfl) (by decide) rfl (fun ls hl => ?_)
  refine lv_goto (pc := 116) (tgt := 36) hx hb dX11_testAll_116 (by decide) ?_
  exact hK36 _ _ _ h _ _ _ w (lv_sub hl [1, 2, 0] rfl)
set_option maxRecDepth 100000 in
set_option maxHeartbeats 4000000 in
theorem w_X11_testAll_L36 {p : Program} {l : Launch} {e : Env} {R : Room} {s : State} {m : MethodId} {args : Array Value} {below : List Frame} {meth : Method} {c : Code} {dC : Nat → ClassId} {dI : Nat → Nat → Nat} {cs : Nat → ClassId} {ad : Nat → Nat} {A : Nat → Prop} {D0 : Nat → Nat} {S' : SS} {r : Int32} (F : Fx p s m args meth c cX11_testAll 7 RX11 (some .int) dC dI cs A) (hR1 : 5 ≤ R.frames) (hR2 : 108 ≤ R.locals) : ∀ (n : Nat) (x3 : Int32) (x4 : Int32) (S : SS), f_X11_testAll_L36 n x3 x4 S = some (r, S') → AW p l e R s m args below meth c dC dI cs ad A D0 (some (.int r)) S' 7 36 [(0, .ref (ad 0)), (3, .int x3), (4, .int x4)] [] S := by
  have hx := F.1.1
  have hb := F.1.2.1
  intro n
  induction n with
  | zero => intro x3 x4 S h; cases h
  | succ n ih =>
    intro x3 x4 S h H locs ls w hl
    rw [f_X11_testAll_L36] at h
    refine lv_iload (pc := 36) hx hb dX11_testAll_36 (lv_at hl 2 rfl) ?_
    refine lv_aload_n (pc := 38) hx hb dX11_testAll_38 rfl (lv_at hl 0 rfl) ?_
    refine s_getR (pc := 39) F w 7 ds_0 (j := 6) vc_X11 vi_X11 rfl (by decide) kf_X11_58 dX11_testAll_39 ?_
    refine s_getI (pc := 42) F w ds_7 (j := 4) vc_X10 vi_X10 rfl (by decide) kf_X11_296 dX11_testAll_42 ?_
    refine lv_icmp_ge (pc := 45) (tgt := 119) hx hb dX11_testAll_45 (by decide) (fun q => ?_) (fun q => ?_)
    · have h := ite_t q h
      refine lv_aload_n (pc := 119) hx hb dX11_testAll_119 rfl (lv_at hl 0 rfl) ?_
      refine s_getR (pc := 120) F w 7 ds_0 (j := 6) vc_X11 vi_X11 rfl (by decide) kf_X11_58 dX11_testAll_120 ?_
      refine lv_bipush (pc := 123) (v := 10) hx hb dX11_testAll_123 (by decide) ?_
      refine lv_iload_n (pc := 125) hx hb dX11_testAll_125 rfl (lv_at hl 1 rfl) ?_
      refine lv_aload_n (pc := 126) hx hb dX11_testAll_126 rfl (lv_at hl 0 rfl) ?_
      refine s_getR (pc := 127) F w 7 ds_0 (j := 6) vc_X11 vi_X11 rfl (by decide) kf_X11_58 dX11_testAll_127 ?_
      refine s_getI (pc := 130) F w ds_7 (j := 4) vc_X10 vi_X10 rfl (by decide) kf_X11_296 dX11_testAll_130 ?_
      refine lv_icmp_ne (pc := 133) (tgt := 140) hx hb dX11_testAll_133 (by decide) (fun q => ?_) (fun q => ?_)
      · have h := ite_f q h
        refine lv_iconst (pc := 140) (v := 0) hx hb dX11_testAll_140 (by decide) ?_
        obtain ⟨S4, hc, h⟩ := bndv_t h
        refine s_cvv (pc := 141) [.int (10 : Int32), .int (0 : Int32)] (fun ad => [.ref (ad 7), .int (10 : Int32), .int (0 : Int32)]) F w (m_X10_setLine _ _ _ _ hc) rfl rfl hl.1 ds_7 vc_X10 rfl ok_X10_setLine rfl kc_X10_setLine kl_X11_329 ki_X10_setLine kv_X10_setLine kn_X10 ⟨Nat.le_trans (by decide) hR1, Nat.le_trans (by decide) hR2⟩ ⟨Nat.zero_le _, Nat.zero_le _⟩ (Nat.le_of_ble_eq_true rfl) dX11_testAll_141 (fun H locs w => ?_)
        refine lv_iload_n (pc := 144) hx hb dX11_testAll_144 rfl (lv_at hl 1 rfl) ?_
        exact s_iret F w h dX11_testAll_145
      · have h := ite_t q h
        refine lv_iconst (pc := 136) (v := 1) hx hb dX11_testAll_136 (by decide) ?_
        refine lv_goto (pc := 137) (tgt := 141) hx hb dX11_testAll_137 (by decide) ?_
        obtain ⟨S5, hc, h⟩ := bndv_t h
        refine s_cvv (pc := 141) [.int (10 : Int32), .int (1 : Int32)] (fun ad => [.ref (ad 7), .int (10 : Int32), .int (1 : Int32)]) F w (m_X10_setLine _ _ _ _ hc) rfl rfl hl.1 ds_7 vc_X10 rfl ok_X10_setLine rfl kc_X10_setLine kl_X11_329 ki_X10_setLine kv_X10_setLine kn_X10 ⟨Nat.le_trans (by decide) hR1, Nat.le_trans (by decide) hR2⟩ ⟨Nat.zero_le _, Nat.zero_le _⟩ (Nat.le_of_ble_eq_true rfl) dX11_testAll_141 (fun H locs w => ?_)
        refine lv_iload_n (pc := 144) hx hb dX11_testAll_144 rfl (lv_at hl 1 rfl) ?_
        exact s_iret F w h dX11_testAll_145
    · have h := ite_f q h
      refine lv_aload_n (pc := 48) hx hb dX11_testAll_48 rfl (lv_at hl 0 rfl) ?_
      refine s_getR (pc := 49) F w 8 ds_0 (j := 7) vc_X11 vi_X11 rfl (by decide) kf_X11_67 dX11_testAll_49 ?_
      refine lv_aload_n (pc := 52) hx hb dX11_testAll_52 rfl (lv_at hl 0 rfl) ?_
      refine s_getR (pc := 53) F w 7 ds_0 (j := 6) vc_X11 vi_X11 rfl (by decide) kf_X11_58 dX11_testAll_53 ?_
      refine lv_iload (pc := 56) hx hb dX11_testAll_56 (lv_at hl 2 rfl) ?_
      obtain ⟨r7, S6, hc, h⟩ := bnd_t h
      refine s_cvi (pc := 58) [.int x4] (fun ad => [.ref (ad 7), .int x4]) F w (m_X10_inLine _ _ _ _ hc) rfl rfl hl.1 ds_7 vc_X10 rfl ok_X10_inLine rfl kc_X10_inLine kl_X11_299 ki_X10_inLine kv_X10_inLine kn_X10 ⟨Nat.le_trans (by decide) hR1, Nat.le_trans (by decide) hR2⟩ ⟨Nat.zero_le _, Nat.zero_le _⟩ (Nat.le_of_ble_eq_true rfl) dX11_testAll_58 (fun H locs w => ?_)
      obtain ⟨r9, S8, hc, h⟩ := bnd_t h
      refine s_cvi (pc := 61) [.int r7] (fun ad => [.ref (ad 8), .int r7]) F w (m_X0_brake _ _ _ _ hc) rfl rfl hl.1 ds_8 vc_X0 rfl ok_X0_brake rfl kc_X0_brake kl_X11_323 ki_X0_brake kv_X0_brake kn_X0 ⟨Nat.le_trans (by decide) hR1, Nat.le_trans (by decide) hR2⟩ ⟨Nat.zero_le _, Nat.zero_le _⟩ (Nat.le_of_ble_eq_true rfl) dX11_testAll_61 (fun H locs w => ?_)
      refine lv_istore (pc := 64) (lv' := [(5, .int r9), (0, .ref (ad 0)), (3, .int x3), (4, .int x4)]) hx hb dX11_testAll_64 hl (by decide) rfl (fun ls hl => ?_)
      refine lv_aload_n (pc := 66) hx hb dX11_testAll_66 rfl (lv_at hl 1 rfl) ?_
      refine s_getR (pc := 67) F w 8 ds_0 (j := 7) vc_X11 vi_X11 rfl (by decide) kf_X11_67 dX11_testAll_67 ?_
      refine lv_aload_n (pc := 70) hx hb dX11_testAll_70 rfl (lv_at hl 1 rfl) ?_
      refine s_getR (pc := 71) F w 7 ds_0 (j := 6) vc_X11 vi_X11 rfl (by decide) kf_X11_58 dX11_testAll_71 ?_
      refine lv_iload (pc := 74) hx hb dX11_testAll_74 (lv_at hl 3 rfl) ?_
      obtain ⟨r11, S10, hc, h⟩ := bnd_t h
      refine s_cvi (pc := 76) [.int x4] (fun ad => [.ref (ad 7), .int x4]) F w (m_X10_inLine _ _ _ _ hc) rfl rfl hl.1 ds_7 vc_X10 rfl ok_X10_inLine rfl kc_X10_inLine kl_X11_299 ki_X10_inLine kv_X10_inLine kn_X10 ⟨Nat.le_trans (by decide) hR1, Nat.le_trans (by decide) hR2⟩ ⟨Nat.zero_le _, Nat.zero_le _⟩ (Nat.le_of_ble_eq_true rfl) dX11_testAll_76 (fun H locs w => ?_)
      obtain ⟨r13, S12, hc, h⟩ := bnd_t h
      refine s_cvi (pc := 79) [.int r11] (fun ad => [.ref (ad 8), .int r11]) F w (m_X0_perAxle _ _ _ _ hc) rfl rfl hl.1 ds_8 vc_X0 rfl ok_X0_perAxle rfl kc_X0_perAxle kl_X11_326 ki_X0_perAxle kv_X0_perAxle kn_X0 ⟨Nat.le_trans (by decide) hR1, Nat.le_trans (by decide) hR2⟩ ⟨Nat.zero_le _, Nat.zero_le _⟩ (Nat.le_of_ble_eq_true rfl) dX11_testAll_79 (fun H locs w => ?_)
      refine lv_istore (pc := 82) (lv' := [(6, .int r13), (5, .int r9), (0, .ref (ad 0)), (3, .int x3), (4, .int x4)]) hx hb dX11_testAll_82 hl (by decide) rfl (fun ls hl => ?_)
      refine lv_iload (pc := 84) hx hb dX11_testAll_84 (lv_at hl 0 rfl) ?_
      refine lv_bipush (pc := 86) (v := -4) hx hb dX11_testAll_86 (by decide) ?_
      refine lv_icmp_ne (pc := 88) (tgt := 101) hx hb dX11_testAll_88 (by decide) (fun q => ?_) (fun q => ?_)
      · have h := ite_f q h
        refine lv_iconst (pc := 101) (v := 2) hx hb dX11_testAll_101 (by decide) ?_
        refine lv_iload (pc := 102) hx hb dX11_testAll_102 (lv_at hl 1 rfl) ?_
        refine lv_imul (pc := 104) hx hb dX11_testAll_104 ?_
        refine lv_iload (pc := 105) hx hb dX11_testAll_105 (lv_at hl 0 rfl) ?_
        refine lv_icmp_lt (pc := 107) (tgt := 113) hx hb dX11_testAll_107 (by decide) (fun q => ?_) (fun q => ?_)
        · have h := ite_t q h
          exact w_X11_testAll_j113 F (Nat.le_trans (by decide) hR1) (Nat.le_trans (by decide) hR2) _ (fun v0 v1 S h => ih v0 v1 S h) _ _ _ h _ _ _ w (lv_sub hl [2, 3, 4] rfl)
        · have h := ite_f q h
          refine s_nm h (fun z15 ez15 h => ?_)
          refine lv_iinc (pc := 110) (v := z15) (lv' := [(3, .int z15), (6, .int r13), (5, .int r9), (0, .ref (ad 0)), (4, .int x4)]) hx hb dX11_testAll_110 hl (k := 3) rfl (by rw [ez15]; rfl) (by decide) rfl (fun ls hl => ?_)
          exact w_X11_testAll_j113 F (Nat.le_trans (by decide) hR1) (Nat.le_trans (by decide) hR2) _ (fun v0 v1 S h => ih v0 v1 S h) _ _ _ h _ _ _ w (lv_sub hl [3, 0, 4] rfl)
      · have h := ite_t q h
        refine lv_aload_n (pc := 91) hx hb dX11_testAll_91 rfl (lv_at hl 2 rfl) ?_
        refine s_getR (pc := 92) F w 1 ds_0 (j := 0) vc_X11 vi_X11 rfl (by decide) kf_X11_10 dX11_testAll_92 ?_
        refine lv_bipush (pc := 95) (v := 6) hx hb dX11_testAll_95 (by decide) ?_
        obtain ⟨r17, S16, hc, h⟩ := bnd_t h
        refine s_cvi (pc := 97) [.int (6 : Int32)] (fun ad => [.ref (ad 1), .int (6 : Int32)]) F w (m_X5_found _ _ _ _ hc) rfl rfl hl.1 ds_1 vc_X5 rfl ok_X5_found rfl kc_X5_found kl_X11_98 ki_X5_found kv_X5_found kn_X5 ⟨Nat.le_trans (by decide) hR1, Nat.le_trans (by decide) hR2⟩ ⟨Nat.zero_le _, Nat.zero_le _⟩ (Nat.le_of_ble_eq_true rfl) dX11_testAll_97 (fun H locs w => ?_)
        exact s_iret F w h dX11_testAll_100
set_option maxRecDepth 100000 in
set_option maxHeartbeats 4000000 in
theorem m_X11_testAll (a1 : Int32) (S S' : SS) (r : Int32) (h : f_X11_testAll a1 S = some (r, S')) : MT yX11_testAll cX11_testAll 7 (some .int) 5 108 (fun ad => [.ref (ad 0), .int a1]) S (some (.int r)) S' := by
  refine MT.of RX11 (fun ad => [(0, .ref (ad 0)), (1, .int a1)]) (by decide) rfl (fun _ => Nat.le_of_ble_eq_true rfl) (fun _ => rfl) ?_
  intro p l e R s m args below meth c dC dI cs ad A hR1 hR2 F H locs ls w hl
  have hx := F.1.1
  have hb := F.1.2.1
  rw [f_X11_testAll] at h
  refine lv_aload_n (pc := 0) hx hb dX11_testAll_0 rfl (lv_at hl 0 rfl) ?_
  refine lv_iload_n (pc := 1) hx hb dX11_testAll_1 rfl (lv_at hl 1 rfl) ?_
  refine lv_bipush (pc := 2) (v := 127) hx hb dX11_testAll_2 (by decide) ?_
  obtain ⟨r2, S1, hc, h⟩ := bnd_t h
  refine s_cvi (pc := 4) [.int a1, .int (127 : Int32)] (fun ad => [.ref (ad 0), .int a1, .int (127 : Int32)]) F w (m_X11_named _ _ _ _ _ hc) rfl rfl hl.1 ds_0 vc_X11 rfl ok_X11_named rfl kc_X11_named kl_X11_185 ki_X11_named kv_X11_named kn_X11 ⟨Nat.le_trans (by decide) hR1, Nat.le_trans (by decide) hR2⟩ ⟨Nat.zero_le _, Nat.zero_le _⟩ (Nat.le_of_ble_eq_true rfl) dX11_testAll_4 (fun H locs w => ?_)
  refine lv_istore_n (pc := 7) (lv' := [(2, .int r2), (0, .ref (ad 0)), (1, .int a1)]) hx hb dX11_testAll_7 rfl hl (by decide) rfl (fun ls hl => ?_)
  refine lv_iload_n (pc := 8) hx hb dX11_testAll_8 rfl (lv_at hl 0 rfl) ?_
  refine lv_if_eq (pc := 9) (tgt := 21) hx hb dX11_testAll_9 (by decide) (fun q => ?_) (fun q => ?_)
  · have h := ite_t q h
    refine lv_aload_n (pc := 21) hx hb dX11_testAll_21 rfl (lv_at hl 1 rfl) ?_
    refine s_getR (pc := 22) F w 7 ds_0 (j := 6) vc_X11 vi_X11 rfl (by decide) kf_X11_58 dX11_testAll_22 ?_
    refine lv_iconst (pc := 25) (v := 2) hx hb dX11_testAll_25 (by decide) ?_
    refine lv_iload_n (pc := 26) hx hb dX11_testAll_26 rfl (lv_at hl 2 rfl) ?_
    refine lv_imul (pc := 27) hx hb dX11_testAll_27 ?_
    obtain ⟨S3, hc, h⟩ := bndv_t h
    refine s_cvv (pc := 28) [.int ((2 : Int32) * a1)] (fun ad => [.ref (ad 7), .int ((2 : Int32) * a1)]) F w (m_X10_lineUp _ _ _ hc) rfl rfl hl.1 ds_7 vc_X10 rfl ok_X10_lineUp rfl kc_X10_lineUp kl_X11_281 ki_X10_lineUp kv_X10_lineUp kn_X10 ⟨Nat.le_trans (by decide) hR1, Nat.le_trans (by decide) hR2⟩ ⟨Nat.zero_le _, Nat.zero_le _⟩ (Nat.le_of_ble_eq_true rfl) dX11_testAll_28 (fun H locs w => ?_)
    refine lv_iconst (pc := 31) (v := 0) hx hb dX11_testAll_31 (by decide) ?_
    refine lv_istore_n (pc := 32) (lv' := [(3, .int (0 : Int32)), (2, .int r2), (0, .ref (ad 0)), (1, .int a1)]) hx hb dX11_testAll_32 rfl hl (by decide) rfl (fun ls hl => ?_)
    refine lv_iconst (pc := 33) (v := 0) hx hb dX11_testAll_33 (by decide) ?_
    refine lv_istore (pc := 34) (lv' := [(4, .int (0 : Int32)), (3, .int (0 : Int32)), (2, .int r2), (0, .ref (ad 0)), (1, .int a1)]) hx hb dX11_testAll_34 hl (by decide) rfl (fun ls hl => ?_)
    exact w_X11_testAll_L36 F (Nat.le_trans (by decide) hR1) (Nat.le_trans (by decide) hR2) _ _ _ _ h _ _ _ w (lv_sub hl [3, 1, 0] rfl)
  · have h := ite_f q h
    refine lv_aload_n (pc := 12) hx hb dX11_testAll_12 rfl (lv_at hl 1 rfl) ?_
    refine s_getR (pc := 13) F w 1 ds_0 (j := 0) vc_X11 vi_X11 rfl (by decide) kf_X11_10 dX11_testAll_13 ?_
    refine lv_iload_n (pc := 16) hx hb dX11_testAll_16 rfl (lv_at hl 0 rfl) ?_
    obtain ⟨r19, S18, hc, h⟩ := bnd_t h
    refine s_cvi (pc := 17) [.int r2] (fun ad => [.ref (ad 1), .int r2]) F w (m_X5_found _ _ _ _ hc) rfl rfl hl.1 ds_1 vc_X5 rfl ok_X5_found rfl kc_X5_found kl_X11_98 ki_X5_found kv_X5_found kn_X5 ⟨Nat.le_trans (by decide) hR1, Nat.le_trans (by decide) hR2⟩ ⟨Nat.zero_le _, Nat.zero_le _⟩ (Nat.le_of_ble_eq_true rfl) dX11_testAll_17 (fun H locs w => ?_)
    exact s_iret F w h dX11_testAll_20
def f_X11_test (a1 : Int32) (S : SS) : Option (Int32 × SS) :=
  bndv (f_X11_beginAct  S) (fun S1 =>
  bnd (f_X11_testAll a1 S1) (fun r3 S2 =>
  bnd (f_X11_endAct (11 : Int32) r3 S2) (fun r5 S4 =>
  some (r5, S4))))
theorem dX11_test_0 : decode cX11_test 0 = .ok (.aload_n 0, 1) := by decide +kernel
theorem dX11_test_1 : decode cX11_test 1 = .ok (.invokevirtual 199, 3) := by decide +kernel
theorem dX11_test_4 : decode cX11_test 4 = .ok (.aload_n 0, 1) := by decide +kernel
theorem dX11_test_5 : decode cX11_test 5 = .ok (.bipush 11, 2) := by decide +kernel
theorem dX11_test_7 : decode cX11_test 7 = .ok (.aload_n 0, 1) := by decide +kernel
theorem dX11_test_8 : decode cX11_test 8 = .ok (.iload_n 1, 1) := by decide +kernel
theorem dX11_test_9 : decode cX11_test 9 = .ok (.invokevirtual 238, 3) := by decide +kernel
theorem dX11_test_12 : decode cX11_test 12 = .ok (.invokevirtual 205, 3) := by decide +kernel
theorem dX11_test_15 : decode cX11_test 15 = .ok (.ireturn, 1) := by decide +kernel
set_option maxRecDepth 100000 in
set_option maxHeartbeats 4000000 in
theorem m_X11_test (a1 : Int32) (S S' : SS) (r : Int32) (h : f_X11_test a1 S = some (r, S')) : MT yX11_test cX11_test 2 (some .int) 6 134 (fun ad => [.ref (ad 0), .int a1]) S (some (.int r)) S' := by
  refine MT.of RX11 (fun ad => [(0, .ref (ad 0)), (1, .int a1)]) (by decide) rfl (fun _ => Nat.le_of_ble_eq_true rfl) (fun _ => rfl) ?_
  intro p l e R s m args below meth c dC dI cs ad A hR1 hR2 F H locs ls w hl
  have hx := F.1.1
  have hb := F.1.2.1
  rw [f_X11_test] at h
  refine lv_aload_n (pc := 0) hx hb dX11_test_0 rfl (lv_at hl 0 rfl) ?_
  obtain ⟨S1, hc, h⟩ := bndv_t h
  refine s_cvv (pc := 1) [] (fun ad => [.ref (ad 0)]) F w (m_X11_beginAct  _ _ hc) rfl rfl hl.1 ds_0 vc_X11 rfl ok_X11_beginAct rfl kc_X11_beginAct kl_X11_199 ki_X11_beginAct kv_X11_beginAct kn_X11 ⟨Nat.le_trans (by decide) hR1, Nat.le_trans (by decide) hR2⟩ ⟨Nat.zero_le _, Nat.zero_le _⟩ (Nat.le_of_ble_eq_true rfl) dX11_test_1 (fun H locs w => ?_)
  refine lv_aload_n (pc := 4) hx hb dX11_test_4 rfl (lv_at hl 0 rfl) ?_
  refine lv_bipush (pc := 5) (v := 11) hx hb dX11_test_5 (by decide) ?_
  refine lv_aload_n (pc := 7) hx hb dX11_test_7 rfl (lv_at hl 0 rfl) ?_
  refine lv_iload_n (pc := 8) hx hb dX11_test_8 rfl (lv_at hl 1 rfl) ?_
  obtain ⟨r3, S2, hc, h⟩ := bnd_t h
  refine s_cvi (pc := 9) [.int a1] (fun ad => [.ref (ad 0), .int a1]) F w (m_X11_testAll _ _ _ _ hc) rfl rfl hl.1 ds_0 vc_X11 rfl ok_X11_testAll rfl kc_X11_testAll kl_X11_238 ki_X11_testAll kv_X11_testAll kn_X11 ⟨Nat.le_trans (by decide) hR1, Nat.le_trans (by decide) hR2⟩ ⟨Nat.zero_le _, Nat.zero_le _⟩ (Nat.le_of_ble_eq_true rfl) dX11_test_9 (fun H locs w => ?_)
  obtain ⟨r5, S4, hc, h⟩ := bnd_t h
  refine s_cvi (pc := 12) [.int (11 : Int32), .int r3] (fun ad => [.ref (ad 0), .int (11 : Int32), .int r3]) F w (m_X11_endAct _ _ _ _ _ hc) rfl rfl hl.1 ds_0 vc_X11 rfl ok_X11_endAct rfl kc_X11_endAct kl_X11_205 ki_X11_endAct kv_X11_endAct kn_X11 ⟨Nat.le_trans (by decide) hR1, Nat.le_trans (by decide) hR2⟩ ⟨Nat.zero_le _, Nat.zero_le _⟩ (Nat.le_of_ble_eq_true rfl) dX11_test_12 (fun H locs w => ?_)
  exact s_iret F w h dX11_test_15
def f_X12_brake (a1 : Int32) (S : SS) : Option (Int32 × SS) :=
  grd (inb a1 72) (
  if (S.1 85 a1.toNatClampNeg) = (0 : Int32) then
    bndv (f_X12_note (6 : Int32) S) (fun S1 =>
    grd (inb a1 72) (
    some ((4 : Int32) * (S1.1 95 a1.toNatClampNeg), S1)))
  else
  if (S.1 85 a1.toNatClampNeg) = (1 : Int32) then
    bndv (f_X12_note (6 : Int32) S) (fun S2 =>
    grd (inb a1 72) (
    some ((4 : Int32) * (S2.1 95 a1.toNatClampNeg), S2)))
  else
  if (S.1 85 a1.toNatClampNeg) = (2 : Int32) then
    bndv (f_X12_note (7 : Int32) S) (fun S3 =>
    bndv (f_X12_note (6 : Int32) S3) (fun S4 =>
    grd (inb a1 72) (
    some (((4 : Int32) * (S4.1 95 a1.toNatClampNeg)) + (2 : Int32), S4))))
  else
  if (S.1 85 a1.toNatClampNeg) = (3 : Int32) then
    bndv (f_X12_note (8 : Int32) S) (fun S5 =>
    grd (inb a1 72) (
    some ((3 : Int32) * (S5.1 95 a1.toNatClampNeg), S5)))
  else
  if (S.1 85 a1.toNatClampNeg) = (4 : Int32) then
    bndv (f_X12_note (9 : Int32) S) (fun S6 =>
    grd (inb a1 72) (
    some (S6.1 95 a1.toNatClampNeg, S6)))
  else
  if (S.1 85 a1.toNatClampNeg) = (5 : Int32) then
    bndv (f_X12_note (10 : Int32) S) (fun S7 =>
    some ((30 : Int32), S7))
  else
  bndv (f_X12_note (11 : Int32) S) (fun S8 =>
  bndv (f_X12_note (10 : Int32) S8) (fun S9 =>
  some ((35 : Int32), S9))))
theorem dX12_brake_0 : decode cX12_brake 0 = .ok (.aload_n 0, 1) := by decide +kernel
theorem dX12_brake_1 : decode cX12_brake 1 = .ok (.getfield 69, 3) := by decide +kernel
theorem dX12_brake_4 : decode cX12_brake 4 = .ok (.iload_n 1, 1) := by decide +kernel
theorem dX12_brake_5 : decode cX12_brake 5 = .ok (.iaload, 1) := by decide +kernel
theorem dX12_brake_6 : decode cX12_brake 6 = .ok (.tableswitch 113 0 5 #[38, 38, 53, 76, 91, 104], 38) := by decide +kernel
theorem dX12_brake_44 : decode cX12_brake 44 = .ok (.aload_n 0, 1) := by decide +kernel
theorem dX12_brake_45 : decode cX12_brake 45 = .ok (.bipush 6, 2) := by decide +kernel
theorem dX12_brake_47 : decode cX12_brake 47 = .ok (.invokevirtual 296, 3) := by decide +kernel
theorem dX12_brake_50 : decode cX12_brake 50 = .ok (.iconst 4, 1) := by decide +kernel
theorem dX12_brake_51 : decode cX12_brake 51 = .ok (.aload_n 0, 1) := by decide +kernel
theorem dX12_brake_52 : decode cX12_brake 52 = .ok (.getfield 99, 3) := by decide +kernel
theorem dX12_brake_55 : decode cX12_brake 55 = .ok (.iload_n 1, 1) := by decide +kernel
theorem dX12_brake_56 : decode cX12_brake 56 = .ok (.iaload, 1) := by decide +kernel
theorem dX12_brake_57 : decode cX12_brake 57 = .ok (.imul, 1) := by decide +kernel
theorem dX12_brake_58 : decode cX12_brake 58 = .ok (.ireturn, 1) := by decide +kernel
theorem dX12_brake_59 : decode cX12_brake 59 = .ok (.aload_n 0, 1) := by decide +kernel
theorem dX12_brake_60 : decode cX12_brake 60 = .ok (.bipush 7, 2) := by decide +kernel
theorem dX12_brake_62 : decode cX12_brake 62 = .ok (.invokevirtual 296, 3) := by decide +kernel
theorem dX12_brake_65 : decode cX12_brake 65 = .ok (.aload_n 0, 1) := by decide +kernel
theorem dX12_brake_66 : decode cX12_brake 66 = .ok (.bipush 6, 2) := by decide +kernel
theorem dX12_brake_68 : decode cX12_brake 68 = .ok (.invokevirtual 296, 3) := by decide +kernel
theorem dX12_brake_71 : decode cX12_brake 71 = .ok (.iconst 4, 1) := by decide +kernel
theorem dX12_brake_72 : decode cX12_brake 72 = .ok (.aload_n 0, 1) := by decide +kernel
theorem dX12_brake_73 : decode cX12_brake 73 = .ok (.getfield 99, 3) := by decide +kernel
theorem dX12_brake_76 : decode cX12_brake 76 = .ok (.iload_n 1, 1) := by decide +kernel
theorem dX12_brake_77 : decode cX12_brake 77 = .ok (.iaload, 1) := by decide +kernel
theorem dX12_brake_78 : decode cX12_brake 78 = .ok (.imul, 1) := by decide +kernel
theorem dX12_brake_79 : decode cX12_brake 79 = .ok (.iconst 2, 1) := by decide +kernel
theorem dX12_brake_80 : decode cX12_brake 80 = .ok (.iadd, 1) := by decide +kernel
theorem dX12_brake_81 : decode cX12_brake 81 = .ok (.ireturn, 1) := by decide +kernel
theorem dX12_brake_82 : decode cX12_brake 82 = .ok (.aload_n 0, 1) := by decide +kernel
theorem dX12_brake_83 : decode cX12_brake 83 = .ok (.bipush 8, 2) := by decide +kernel
theorem dX12_brake_85 : decode cX12_brake 85 = .ok (.invokevirtual 296, 3) := by decide +kernel
theorem dX12_brake_88 : decode cX12_brake 88 = .ok (.iconst 3, 1) := by decide +kernel
theorem dX12_brake_89 : decode cX12_brake 89 = .ok (.aload_n 0, 1) := by decide +kernel
theorem dX12_brake_90 : decode cX12_brake 90 = .ok (.getfield 99, 3) := by decide +kernel
theorem dX12_brake_93 : decode cX12_brake 93 = .ok (.iload_n 1, 1) := by decide +kernel
theorem dX12_brake_94 : decode cX12_brake 94 = .ok (.iaload, 1) := by decide +kernel
theorem dX12_brake_95 : decode cX12_brake 95 = .ok (.imul, 1) := by decide +kernel
theorem dX12_brake_96 : decode cX12_brake 96 = .ok (.ireturn, 1) := by decide +kernel
theorem dX12_brake_97 : decode cX12_brake 97 = .ok (.aload_n 0, 1) := by decide +kernel
theorem dX12_brake_98 : decode cX12_brake 98 = .ok (.bipush 9, 2) := by decide +kernel
theorem dX12_brake_100 : decode cX12_brake 100 = .ok (.invokevirtual 296, 3) := by decide +kernel
theorem dX12_brake_103 : decode cX12_brake 103 = .ok (.aload_n 0, 1) := by decide +kernel
theorem dX12_brake_104 : decode cX12_brake 104 = .ok (.getfield 99, 3) := by decide +kernel
theorem dX12_brake_107 : decode cX12_brake 107 = .ok (.iload_n 1, 1) := by decide +kernel
theorem dX12_brake_108 : decode cX12_brake 108 = .ok (.iaload, 1) := by decide +kernel
theorem dX12_brake_109 : decode cX12_brake 109 = .ok (.ireturn, 1) := by decide +kernel
theorem dX12_brake_110 : decode cX12_brake 110 = .ok (.aload_n 0, 1) := by decide +kernel
theorem dX12_brake_111 : decode cX12_brake 111 = .ok (.bipush 10, 2) := by decide +kernel
theorem dX12_brake_113 : decode cX12_brake 113 = .ok (.invokevirtual 296, 3) := by decide +kernel
theorem dX12_brake_116 : decode cX12_brake 116 = .ok (.bipush 30, 2) := by decide +kernel
theorem dX12_brake_118 : decode cX12_brake 118 = .ok (.ireturn, 1) := by decide +kernel
theorem dX12_brake_119 : decode cX12_brake 119 = .ok (.aload_n 0, 1) := by decide +kernel
theorem dX12_brake_120 : decode cX12_brake 120 = .ok (.bipush 11, 2) := by decide +kernel
theorem dX12_brake_122 : decode cX12_brake 122 = .ok (.invokevirtual 296, 3) := by decide +kernel
theorem dX12_brake_125 : decode cX12_brake 125 = .ok (.aload_n 0, 1) := by decide +kernel
theorem dX12_brake_126 : decode cX12_brake 126 = .ok (.bipush 10, 2) := by decide +kernel
theorem dX12_brake_128 : decode cX12_brake 128 = .ok (.invokevirtual 296, 3) := by decide +kernel
theorem dX12_brake_131 : decode cX12_brake 131 = .ok (.bipush 35, 2) := by decide +kernel
theorem dX12_brake_133 : decode cX12_brake 133 = .ok (.ireturn, 1) := by decide +kernel
set_option maxRecDepth 100000 in
set_option maxHeartbeats 4000000 in
theorem m_X12_brake (a1 : Int32) (S S' : SS) (r : Int32) (h : f_X12_brake a1 S = some (r, S')) : MT yX12_brake cX12_brake 2 (some .int) 1 21 (fun ad => [.ref (ad 14), .int a1]) S (some (.int r)) S' := by
  refine MT.of RX12 (fun ad => [(0, .ref (ad 14)), (1, .int a1)]) (by decide) rfl (fun _ => Nat.le_of_ble_eq_true rfl) (fun _ => rfl) ?_
  intro p l e R s m args below meth c dC dI cs ad A hR1 hR2 F H locs ls w hl
  have hx := F.1.1
  have hb := F.1.2.1
  rw [f_X12_brake] at h
  refine lv_aload_n (pc := 0) hx hb dX12_brake_0 rfl (lv_at hl 0 rfl) ?_
  refine s_getR (pc := 1) F w 85 ds_14 (j := 30) vc_X12 vi_X12 rfl (by decide) kf_X12_69 dX12_brake_1 ?_
  refine lv_iload_n (pc := 4) hx hb dX12_brake_4 rfl (lv_at hl 1 rfl) ?_
  refine s_iald (pc := 5) F w ds_85 h dX12_brake_5 (fun h => ?_)
  rcases Decidable.em (S.1 85 a1.toNatClampNeg = (0 : Int32)) with q0 | q0
  · refine lv_tableIn (pc := 6) (tgt := 44) (off := 38) hx hb dX12_brake_6 (by rw [q0]; decide) (by rw [q0]; decide) (by rw [q0]; rfl) (by decide) ?_
    have h := ite_t q0 h
    refine lv_aload_n (pc := 44) hx hb dX12_brake_44 rfl (lv_at hl 0 rfl) ?_
    refine lv_bipush (pc := 45) (v := 6) hx hb dX12_brake_45 (by decide) ?_
    obtain ⟨S1, hc, h⟩ := bndv_t h
    refine s_cvv (pc := 47) [.int (6 : Int32)] (fun ad => [.ref (ad 14), .int (6 : Int32)]) F w (m_X12_note _ _ _ hc) rfl rfl hl.1 ds_14 vc_X12 rfl ok_X12_note rfl kc_X12_note kl_X12_296 ki_X12_note kv_X12_note kn_X12 ⟨Nat.le_trans (by decide) hR1, Nat.le_trans (by decide) hR2⟩ ⟨Nat.zero_le _, Nat.zero_le _⟩ (Nat.le_of_ble_eq_true rfl) dX12_brake_47 (fun H locs w => ?_)
    refine lv_iconst (pc := 50) (v := 4) hx hb dX12_brake_50 (by decide) ?_
    refine lv_aload_n (pc := 51) hx hb dX12_brake_51 rfl (lv_at hl 0 rfl) ?_
    refine s_getR (pc := 52) F w 95 ds_14 (j := 40) vc_X12 vi_X12 rfl (by decide) kf_X12_99 dX12_brake_52 ?_
    refine lv_iload_n (pc := 55) hx hb dX12_brake_55 rfl (lv_at hl 1 rfl) ?_
    refine s_iald (pc := 56) F w ds_95 h dX12_brake_56 (fun h => ?_)
    refine lv_imul (pc := 57) hx hb dX12_brake_57 ?_
    exact s_iret F w h dX12_brake_58
  have h := ite_f q0 h
  rcases Decidable.em (S.1 85 a1.toNatClampNeg = (1 : Int32)) with q1 | q1
  · refine lv_tableIn (pc := 6) (tgt := 44) (off := 38) hx hb dX12_brake_6 (by rw [q1]; decide) (by rw [q1]; decide) (by rw [q1]; rfl) (by decide) ?_
    have h := ite_t q1 h
    refine lv_aload_n (pc := 44) hx hb dX12_brake_44 rfl (lv_at hl 0 rfl) ?_
    refine lv_bipush (pc := 45) (v := 6) hx hb dX12_brake_45 (by decide) ?_
    obtain ⟨S2, hc, h⟩ := bndv_t h
    refine s_cvv (pc := 47) [.int (6 : Int32)] (fun ad => [.ref (ad 14), .int (6 : Int32)]) F w (m_X12_note _ _ _ hc) rfl rfl hl.1 ds_14 vc_X12 rfl ok_X12_note rfl kc_X12_note kl_X12_296 ki_X12_note kv_X12_note kn_X12 ⟨Nat.le_trans (by decide) hR1, Nat.le_trans (by decide) hR2⟩ ⟨Nat.zero_le _, Nat.zero_le _⟩ (Nat.le_of_ble_eq_true rfl) dX12_brake_47 (fun H locs w => ?_)
    refine lv_iconst (pc := 50) (v := 4) hx hb dX12_brake_50 (by decide) ?_
    refine lv_aload_n (pc := 51) hx hb dX12_brake_51 rfl (lv_at hl 0 rfl) ?_
    refine s_getR (pc := 52) F w 95 ds_14 (j := 40) vc_X12 vi_X12 rfl (by decide) kf_X12_99 dX12_brake_52 ?_
    refine lv_iload_n (pc := 55) hx hb dX12_brake_55 rfl (lv_at hl 1 rfl) ?_
    refine s_iald (pc := 56) F w ds_95 h dX12_brake_56 (fun h => ?_)
    refine lv_imul (pc := 57) hx hb dX12_brake_57 ?_
    exact s_iret F w h dX12_brake_58
  have h := ite_f q1 h
  rcases Decidable.em (S.1 85 a1.toNatClampNeg = (2 : Int32)) with q2 | q2
  · refine lv_tableIn (pc := 6) (tgt := 59) (off := 53) hx hb dX12_brake_6 (by rw [q2]; decide) (by rw [q2]; decide) (by rw [q2]; rfl) (by decide) ?_
    have h := ite_t q2 h
    refine lv_aload_n (pc := 59) hx hb dX12_brake_59 rfl (lv_at hl 0 rfl) ?_
    refine lv_bipush (pc := 60) (v := 7) hx hb dX12_brake_60 (by decide) ?_
    obtain ⟨S3, hc, h⟩ := bndv_t h
    refine s_cvv (pc := 62) [.int (7 : Int32)] (fun ad => [.ref (ad 14), .int (7 : Int32)]) F w (m_X12_note _ _ _ hc) rfl rfl hl.1 ds_14 vc_X12 rfl ok_X12_note rfl kc_X12_note kl_X12_296 ki_X12_note kv_X12_note kn_X12 ⟨Nat.le_trans (by decide) hR1, Nat.le_trans (by decide) hR2⟩ ⟨Nat.zero_le _, Nat.zero_le _⟩ (Nat.le_of_ble_eq_true rfl) dX12_brake_62 (fun H locs w => ?_)
    refine lv_aload_n (pc := 65) hx hb dX12_brake_65 rfl (lv_at hl 0 rfl) ?_
    refine lv_bipush (pc := 66) (v := 6) hx hb dX12_brake_66 (by decide) ?_
    obtain ⟨S4, hc, h⟩ := bndv_t h
    refine s_cvv (pc := 68) [.int (6 : Int32)] (fun ad => [.ref (ad 14), .int (6 : Int32)]) F w (m_X12_note _ _ _ hc) rfl rfl hl.1 ds_14 vc_X12 rfl ok_X12_note rfl kc_X12_note kl_X12_296 ki_X12_note kv_X12_note kn_X12 ⟨Nat.le_trans (by decide) hR1, Nat.le_trans (by decide) hR2⟩ ⟨Nat.zero_le _, Nat.zero_le _⟩ (Nat.le_of_ble_eq_true rfl) dX12_brake_68 (fun H locs w => ?_)
    refine lv_iconst (pc := 71) (v := 4) hx hb dX12_brake_71 (by decide) ?_
    refine lv_aload_n (pc := 72) hx hb dX12_brake_72 rfl (lv_at hl 0 rfl) ?_
    refine s_getR (pc := 73) F w 95 ds_14 (j := 40) vc_X12 vi_X12 rfl (by decide) kf_X12_99 dX12_brake_73 ?_
    refine lv_iload_n (pc := 76) hx hb dX12_brake_76 rfl (lv_at hl 1 rfl) ?_
    refine s_iald (pc := 77) F w ds_95 h dX12_brake_77 (fun h => ?_)
    refine lv_imul (pc := 78) hx hb dX12_brake_78 ?_
    refine lv_iconst (pc := 79) (v := 2) hx hb dX12_brake_79 (by decide) ?_
    refine lv_iadd (pc := 80) hx hb dX12_brake_80 ?_
    exact s_iret F w h dX12_brake_81
  have h := ite_f q2 h
  rcases Decidable.em (S.1 85 a1.toNatClampNeg = (3 : Int32)) with q3 | q3
  · refine lv_tableIn (pc := 6) (tgt := 82) (off := 76) hx hb dX12_brake_6 (by rw [q3]; decide) (by rw [q3]; decide) (by rw [q3]; rfl) (by decide) ?_
    have h := ite_t q3 h
    refine lv_aload_n (pc := 82) hx hb dX12_brake_82 rfl (lv_at hl 0 rfl) ?_
    refine lv_bipush (pc := 83) (v := 8) hx hb dX12_brake_83 (by decide) ?_
    obtain ⟨S5, hc, h⟩ := bndv_t h
    refine s_cvv (pc := 85) [.int (8 : Int32)] (fun ad => [.ref (ad 14), .int (8 : Int32)]) F w (m_X12_note _ _ _ hc) rfl rfl hl.1 ds_14 vc_X12 rfl ok_X12_note rfl kc_X12_note kl_X12_296 ki_X12_note kv_X12_note kn_X12 ⟨Nat.le_trans (by decide) hR1, Nat.le_trans (by decide) hR2⟩ ⟨Nat.zero_le _, Nat.zero_le _⟩ (Nat.le_of_ble_eq_true rfl) dX12_brake_85 (fun H locs w => ?_)
    refine lv_iconst (pc := 88) (v := 3) hx hb dX12_brake_88 (by decide) ?_
    refine lv_aload_n (pc := 89) hx hb dX12_brake_89 rfl (lv_at hl 0 rfl) ?_
    refine s_getR (pc := 90) F w 95 ds_14 (j := 40) vc_X12 vi_X12 rfl (by decide) kf_X12_99 dX12_brake_90 ?_
    refine lv_iload_n (pc := 93) hx hb dX12_brake_93 rfl (lv_at hl 1 rfl) ?_
    refine s_iald (pc := 94) F w ds_95 h dX12_brake_94 (fun h => ?_)
    refine lv_imul (pc := 95) hx hb dX12_brake_95 ?_
    exact s_iret F w h dX12_brake_96
  have h := ite_f q3 h
  rcases Decidable.em (S.1 85 a1.toNatClampNeg = (4 : Int32)) with q4 | q4
  · refine lv_tableIn (pc := 6) (tgt := 97) (off := 91) hx hb dX12_brake_6 (by rw [q4]; decide) (by rw [q4]; decide) (by rw [q4]; rfl) (by decide) ?_
    have h := ite_t q4 h
    refine lv_aload_n (pc := 97) hx hb dX12_brake_97 rfl (lv_at hl 0 rfl) ?_
    refine lv_bipush (pc := 98) (v := 9) hx hb dX12_brake_98 (by decide) ?_
    obtain ⟨S6, hc, h⟩ := bndv_t h
    refine s_cvv (pc := 100) [.int (9 : Int32)] (fun ad => [.ref (ad 14), .int (9 : Int32)]) F w (m_X12_note _ _ _ hc) rfl rfl hl.1 ds_14 vc_X12 rfl ok_X12_note rfl kc_X12_note kl_X12_296 ki_X12_note kv_X12_note kn_X12 ⟨Nat.le_trans (by decide) hR1, Nat.le_trans (by decide) hR2⟩ ⟨Nat.zero_le _, Nat.zero_le _⟩ (Nat.le_of_ble_eq_true rfl) dX12_brake_100 (fun H locs w => ?_)
    refine lv_aload_n (pc := 103) hx hb dX12_brake_103 rfl (lv_at hl 0 rfl) ?_
    refine s_getR (pc := 104) F w 95 ds_14 (j := 40) vc_X12 vi_X12 rfl (by decide) kf_X12_99 dX12_brake_104 ?_
    refine lv_iload_n (pc := 107) hx hb dX12_brake_107 rfl (lv_at hl 1 rfl) ?_
    refine s_iald (pc := 108) F w ds_95 h dX12_brake_108 (fun h => ?_)
    exact s_iret F w h dX12_brake_109
  have h := ite_f q4 h
  rcases Decidable.em (S.1 85 a1.toNatClampNeg = (5 : Int32)) with q5 | q5
  · refine lv_tableIn (pc := 6) (tgt := 110) (off := 104) hx hb dX12_brake_6 (by rw [q5]; decide) (by rw [q5]; decide) (by rw [q5]; rfl) (by decide) ?_
    have h := ite_t q5 h
    refine lv_aload_n (pc := 110) hx hb dX12_brake_110 rfl (lv_at hl 0 rfl) ?_
    refine lv_bipush (pc := 111) (v := 10) hx hb dX12_brake_111 (by decide) ?_
    obtain ⟨S7, hc, h⟩ := bndv_t h
    refine s_cvv (pc := 113) [.int (10 : Int32)] (fun ad => [.ref (ad 14), .int (10 : Int32)]) F w (m_X12_note _ _ _ hc) rfl rfl hl.1 ds_14 vc_X12 rfl ok_X12_note rfl kc_X12_note kl_X12_296 ki_X12_note kv_X12_note kn_X12 ⟨Nat.le_trans (by decide) hR1, Nat.le_trans (by decide) hR2⟩ ⟨Nat.zero_le _, Nat.zero_le _⟩ (Nat.le_of_ble_eq_true rfl) dX12_brake_113 (fun H locs w => ?_)
    refine lv_bipush (pc := 116) (v := 30) hx hb dX12_brake_116 (by decide) ?_
    exact s_iret F w h dX12_brake_118
  have h := ite_f q5 h
  refine lv_tableOut (pc := 6) (tgt := 119) hx hb dX12_brake_6 (by have zq0 := i32ne q0 (show ((0 : Int32)).toInt = 0 by decide); have zq1 := i32ne q1 (show ((1 : Int32)).toInt = 1 by decide); have zq2 := i32ne q2 (show ((2 : Int32)).toInt = 2 by decide); have zq3 := i32ne q3 (show ((3 : Int32)).toInt = 3 by decide); have zq4 := i32ne q4 (show ((4 : Int32)).toInt = 4 by decide); have zq5 := i32ne q5 (show ((5 : Int32)).toInt = 5 by decide); omega) (by decide) ?_
  refine lv_aload_n (pc := 119) hx hb dX12_brake_119 rfl (lv_at hl 0 rfl) ?_
  refine lv_bipush (pc := 120) (v := 11) hx hb dX12_brake_120 (by decide) ?_
  obtain ⟨S8, hc, h⟩ := bndv_t h
  refine s_cvv (pc := 122) [.int (11 : Int32)] (fun ad => [.ref (ad 14), .int (11 : Int32)]) F w (m_X12_note _ _ _ hc) rfl rfl hl.1 ds_14 vc_X12 rfl ok_X12_note rfl kc_X12_note kl_X12_296 ki_X12_note kv_X12_note kn_X12 ⟨Nat.le_trans (by decide) hR1, Nat.le_trans (by decide) hR2⟩ ⟨Nat.zero_le _, Nat.zero_le _⟩ (Nat.le_of_ble_eq_true rfl) dX12_brake_122 (fun H locs w => ?_)
  refine lv_aload_n (pc := 125) hx hb dX12_brake_125 rfl (lv_at hl 0 rfl) ?_
  refine lv_bipush (pc := 126) (v := 10) hx hb dX12_brake_126 (by decide) ?_
  obtain ⟨S9, hc, h⟩ := bndv_t h
  refine s_cvv (pc := 128) [.int (10 : Int32)] (fun ad => [.ref (ad 14), .int (10 : Int32)]) F w (m_X12_note _ _ _ hc) rfl rfl hl.1 ds_14 vc_X12 rfl ok_X12_note rfl kc_X12_note kl_X12_296 ki_X12_note kv_X12_note kn_X12 ⟨Nat.le_trans (by decide) hR1, Nat.le_trans (by decide) hR2⟩ ⟨Nat.zero_le _, Nat.zero_le _⟩ (Nat.le_of_ble_eq_true rfl) dX12_brake_128 (fun H locs w => ?_)
  refine lv_bipush (pc := 131) (v := 35) hx hb dX12_brake_131 (by decide) ?_
  exact s_iret F w h dX12_brake_133
def f_X12_perAxle_j27  (x1 : Int32) (x2 : Int32) (y0 : Int32) (S : SS) : Option (Int32 × SS) :=
    grd (isB y0) (wr S 14 54 y0 (fun S4 =>
    if (S4.1 14 54) = 0 then
      grd (inb x1 72) (
      grd (!(decide (S4.1 95 x1.toNatClampNeg = 0))) (
      some (x2 / (S4.1 95 x1.toNatClampNeg), S4)))
    else
      some ((0 : Int32), S4)))
def f_X12_perAxle (a1 : Int32) (S : SS) : Option (Int32 × SS) :=
  bndv (f_X12_note (14 : Int32) S) (fun S1 =>
  bnd (f_X12_weight a1 S1) (fun r3 S2 =>
  grd (inb a1 72) (
  if (S2.1 95 a1.toNatClampNeg) = 0 then
    f_X12_perAxle_j27 a1 r3 (1 : Int32) S2
  else
    f_X12_perAxle_j27 a1 r3 (0 : Int32) S2)))
theorem dX12_perAxle_0 : decode cX12_perAxle 0 = .ok (.aload_n 0, 1) := by decide +kernel
theorem dX12_perAxle_1 : decode cX12_perAxle 1 = .ok (.bipush 14, 2) := by decide +kernel
theorem dX12_perAxle_3 : decode cX12_perAxle 3 = .ok (.invokevirtual 296, 3) := by decide +kernel
theorem dX12_perAxle_6 : decode cX12_perAxle 6 = .ok (.aload_n 0, 1) := by decide +kernel
theorem dX12_perAxle_7 : decode cX12_perAxle 7 = .ok (.iload_n 1, 1) := by decide +kernel
theorem dX12_perAxle_8 : decode cX12_perAxle 8 = .ok (.invokevirtual 303, 3) := by decide +kernel
theorem dX12_perAxle_11 : decode cX12_perAxle 11 = .ok (.istore_n 2, 1) := by decide +kernel
theorem dX12_perAxle_12 : decode cX12_perAxle 12 = .ok (.aload_n 0, 1) := by decide +kernel
theorem dX12_perAxle_13 : decode cX12_perAxle 13 = .ok (.aload_n 0, 1) := by decide +kernel
theorem dX12_perAxle_14 : decode cX12_perAxle 14 = .ok (.getfield 99, 3) := by decide +kernel
theorem dX12_perAxle_17 : decode cX12_perAxle 17 = .ok (.iload_n 1, 1) := by decide +kernel
theorem dX12_perAxle_18 : decode cX12_perAxle 18 = .ok (.iaload, 1) := by decide +kernel
theorem dX12_perAxle_19 : decode cX12_perAxle 19 = .ok (.ifCond .ne 7, 3) := by decide +kernel
theorem dX12_perAxle_22 : decode cX12_perAxle 22 = .ok (.iconst 1, 1) := by decide +kernel
theorem dX12_perAxle_23 : decode cX12_perAxle 23 = .ok (.goto 4, 3) := by decide +kernel
theorem dX12_perAxle_26 : decode cX12_perAxle 26 = .ok (.iconst 0, 1) := by decide +kernel
theorem dX12_perAxle_27 : decode cX12_perAxle 27 = .ok (.putfield 306, 3) := by decide +kernel
theorem dX12_perAxle_30 : decode cX12_perAxle 30 = .ok (.aload_n 0, 1) := by decide +kernel
theorem dX12_perAxle_31 : decode cX12_perAxle 31 = .ok (.getfield 306, 3) := by decide +kernel
theorem dX12_perAxle_34 : decode cX12_perAxle 34 = .ok (.ifCond .eq 7, 3) := by decide +kernel
theorem dX12_perAxle_37 : decode cX12_perAxle 37 = .ok (.iconst 0, 1) := by decide +kernel
theorem dX12_perAxle_38 : decode cX12_perAxle 38 = .ok (.goto 11, 3) := by decide +kernel
theorem dX12_perAxle_41 : decode cX12_perAxle 41 = .ok (.iload_n 2, 1) := by decide +kernel
theorem dX12_perAxle_42 : decode cX12_perAxle 42 = .ok (.aload_n 0, 1) := by decide +kernel
theorem dX12_perAxle_43 : decode cX12_perAxle 43 = .ok (.getfield 99, 3) := by decide +kernel
theorem dX12_perAxle_46 : decode cX12_perAxle 46 = .ok (.iload_n 1, 1) := by decide +kernel
theorem dX12_perAxle_47 : decode cX12_perAxle 47 = .ok (.iaload, 1) := by decide +kernel
theorem dX12_perAxle_48 : decode cX12_perAxle 48 = .ok (.idiv, 1) := by decide +kernel
theorem dX12_perAxle_49 : decode cX12_perAxle 49 = .ok (.ireturn, 1) := by decide +kernel
set_option maxRecDepth 100000 in
set_option maxHeartbeats 4000000 in
theorem w_X12_perAxle_j27 {p : Program} {l : Launch} {e : Env} {R : Room} {s : State} {m : MethodId} {args : Array Value} {below : List Frame} {meth : Method} {c : Code} {dC : Nat → ClassId} {dI : Nat → Nat → Nat} {cs : Nat → ClassId} {ad : Nat → Nat} {A : Nat → Prop} {D0 : Nat → Nat} {S' : SS} {r : Int32} (F : Fx p s m args meth c cX12_perAxle 3 RX12 (some .int) dC dI cs A) (hR1 : 0 ≤ R.frames) (hR2 : 0 ≤ R.locals) (x1 : Int32) (x2 : Int32) (y0 : Int32) (S : SS) (h : f_X12_perAxle_j27 x1 x2 y0 S = some (r, S')) : AW p l e R s m args below meth c dC dI cs ad A D0 (some (.int r)) S' 3 27 [(0, .ref (ad 14)), (1, .int x1), (2, .int x2)] [.int y0, .ref (ad 14)] S := by
  have hx := F.1.1
  have hb := F.1.2.1
  intro H locs ls w hl
  rw [f_X12_perAxle_j27] at h
  refine s_putZ (pc := 27) F w ds_14 vc_X12 vi_X12 tyX12_ok nmX12 (j := 54) rfl (by decide) kf_X12_306 rfl pd_Z h dX12_perAxle_27 (fun S4 H locs h w => ?_)
  refine lv_aload_n (pc := 30) hx hb dX12_perAxle_30 rfl (lv_at hl 0 rfl) ?_
  refine s_getI (pc := 31) F w ds_14 (j := 54) vc_X12 vi_X12 rfl (by decide) kf_X12_306 dX12_perAxle_31 ?_
  refine lv_if_eq (pc := 34) (tgt := 41) hx hb dX12_perAxle_34 (by decide) (fun q => ?_) (fun q => ?_)
  · have h := ite_t q h
    refine lv_iload_n (pc := 41) hx hb dX12_perAxle_41 rfl (lv_at hl 2 rfl) ?_
    refine lv_aload_n (pc := 42) hx hb dX12_perAxle_42 rfl (lv_at hl 0 rfl) ?_
    refine s_getR (pc := 43) F w 95 ds_14 (j := 40) vc_X12 vi_X12 rfl (by decide) kf_X12_99 dX12_perAxle_43 ?_
    refine lv_iload_n (pc := 46) hx hb dX12_perAxle_46 rfl (lv_at hl 1 rfl) ?_
    refine s_iald (pc := 47) F w ds_95 h dX12_perAxle_47 (fun h => ?_)
    obtain ⟨hd, h⟩ := grd_t h
    refine lv_idiv (pc := 48) hx hb dX12_perAxle_48 (by simpa using hd) ?_
    exact s_iret F w h dX12_perAxle_49
  · have h := ite_f q h
    refine lv_iconst (pc := 37) (v := 0) hx hb dX12_perAxle_37 (by decide) ?_
    refine lv_goto (pc := 38) (tgt := 49) hx hb dX12_perAxle_38 (by decide) ?_
    exact s_iret F w h dX12_perAxle_49
set_option maxRecDepth 100000 in
set_option maxHeartbeats 4000000 in
theorem m_X12_perAxle (a1 : Int32) (S S' : SS) (r : Int32) (h : f_X12_perAxle a1 S = some (r, S')) : MT yX12_perAxle cX12_perAxle 3 (some .int) 2 45 (fun ad => [.ref (ad 14), .int a1]) S (some (.int r)) S' := by
  refine MT.of RX12 (fun ad => [(0, .ref (ad 14)), (1, .int a1)]) (by decide) rfl (fun _ => Nat.le_of_ble_eq_true rfl) (fun _ => rfl) ?_
  intro p l e R s m args below meth c dC dI cs ad A hR1 hR2 F H locs ls w hl
  have hx := F.1.1
  have hb := F.1.2.1
  rw [f_X12_perAxle] at h
  refine lv_aload_n (pc := 0) hx hb dX12_perAxle_0 rfl (lv_at hl 0 rfl) ?_
  refine lv_bipush (pc := 1) (v := 14) hx hb dX12_perAxle_1 (by decide) ?_
  obtain ⟨S1, hc, h⟩ := bndv_t h
  refine s_cvv (pc := 3) [.int (14 : Int32)] (fun ad => [.ref (ad 14), .int (14 : Int32)]) F w (m_X12_note _ _ _ hc) rfl rfl hl.1 ds_14 vc_X12 rfl ok_X12_note rfl kc_X12_note kl_X12_296 ki_X12_note kv_X12_note kn_X12 ⟨Nat.le_trans (by decide) hR1, Nat.le_trans (by decide) hR2⟩ ⟨Nat.zero_le _, Nat.zero_le _⟩ (Nat.le_of_ble_eq_true rfl) dX12_perAxle_3 (fun H locs w => ?_)
  refine lv_aload_n (pc := 6) hx hb dX12_perAxle_6 rfl (lv_at hl 0 rfl) ?_
  refine lv_iload_n (pc := 7) hx hb dX12_perAxle_7 rfl (lv_at hl 1 rfl) ?_
  obtain ⟨r3, S2, hc, h⟩ := bnd_t h
  refine s_cvi (pc := 8) [.int a1] (fun ad => [.ref (ad 14), .int a1]) F w (m_X12_weight _ _ _ _ hc) rfl rfl hl.1 ds_14 vc_X12 rfl ok_X12_weight rfl kc_X12_weight kl_X12_303 ki_X12_weight kv_X12_weight kn_X12 ⟨Nat.le_trans (by decide) hR1, Nat.le_trans (by decide) hR2⟩ ⟨Nat.zero_le _, Nat.zero_le _⟩ (Nat.le_of_ble_eq_true rfl) dX12_perAxle_8 (fun H locs w => ?_)
  refine lv_istore_n (pc := 11) (lv' := [(2, .int r3), (0, .ref (ad 14)), (1, .int a1)]) hx hb dX12_perAxle_11 rfl hl (by decide) rfl (fun ls hl => ?_)
  refine lv_aload_n (pc := 12) hx hb dX12_perAxle_12 rfl (lv_at hl 1 rfl) ?_
  refine lv_aload_n (pc := 13) hx hb dX12_perAxle_13 rfl (lv_at hl 1 rfl) ?_
  refine s_getR (pc := 14) F w 95 ds_14 (j := 40) vc_X12 vi_X12 rfl (by decide) kf_X12_99 dX12_perAxle_14 ?_
  refine lv_iload_n (pc := 17) hx hb dX12_perAxle_17 rfl (lv_at hl 2 rfl) ?_
  refine s_iald (pc := 18) F w ds_95 h dX12_perAxle_18 (fun h => ?_)
  refine lv_if_ne (pc := 19) (tgt := 26) hx hb dX12_perAxle_19 (by decide) (fun q => ?_) (fun q => ?_)
  · have h := ite_f q h
    refine lv_iconst (pc := 26) (v := 0) hx hb dX12_perAxle_26 (by decide) ?_
    exact w_X12_perAxle_j27 F (Nat.le_trans (by decide) hR1) (Nat.le_trans (by decide) hR2) _ _ _ _ h _ _ _ w (lv_sub hl [1, 2, 0] rfl)
  · have h := ite_t q h
    refine lv_iconst (pc := 22) (v := 1) hx hb dX12_perAxle_22 (by decide) ?_
    refine lv_goto (pc := 23) (tgt := 27) hx hb dX12_perAxle_23 (by decide) ?_
    exact w_X12_perAxle_j27 F (Nat.le_trans (by decide) hR1) (Nat.le_trans (by decide) hR2) _ _ _ _ h _ _ _ w (lv_sub hl [1, 2, 0] rfl)
