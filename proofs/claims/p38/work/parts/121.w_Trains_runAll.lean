/-! ===== printed by wip/gen: Trains_runAll Yard_step Bodies_flatBrake Bodies_engineBrake Bodies_brake Bodies_perAxle Yard_testAll Yard_test Layout_isWayOut Trains_looksOut Trains_leaveFinding Yard_leaveYard Yard_leave Yard_roll ===== -/
def f_Trains_runAll_j52 (K18 : Int32 → Int32 → Int32 → Int32 → SS → Option (Int32 × SS)) (x1 : Int32) (x2 : Int32) (x3 : Int32) (x4 : Int32) (S : SS) : Option (Int32 × SS) :=
    nm (x4 + (-1 : Int32)) (fun z11 =>
    K18 x1 x2 x3 z11 S)
def f_Trains_runAll_L18 (K2 : Int32 → Int32 → SS → Option (Int32 × SS)) : Nat → Int32 → Int32 → Int32 → Int32 → SS → Option (Int32 × SS)
  | 0, _, _, _, _, _ => none
  | n + 1, x1, x2, x3, x4, S =>
    if x4 ≤ 0 then
      nm (x2 + (1 : Int32)) (fun z5 =>
      K2 x1 z5 S)
    else
      bnd (f_State_runner x3 S) (fun r7 S6 =>
      bnd (f_Trains_runsOn r7 S6) (fun r9 S8 =>
      if r9 = 0 then
        bndv (f_State_endRun x3 S8) (fun S10 =>
        f_Trains_runAll_j52 (fun v0 v1 v2 v3 S => f_Trains_runAll_L18 K2 n v0 v1 v2 v3 S) x1 x2 x3 x4 S10)
      else
        nm (x3 + (1 : Int32)) (fun z12 =>
        f_Trains_runAll_j52 (fun v0 v1 v2 v3 S => f_Trains_runAll_L18 K2 n v0 v1 v2 v3 S) x1 x2 z12 x4 S8)))
def f_Trains_runAll_L2  : Nat → Int32 → Int32 → SS → Option (Int32 × SS)
  | 0, _, _, _ => none
  | n + 1, x1, x2, S =>
    if x1 ≤ x2 then
      bnd (f_State_running  S) (fun r2 S1 =>
      some (r2, S1))
    else
      bnd (f_State_running  S) (fun r4 S3 =>
      f_Trains_runAll_L18 (fun v0 v1 S => f_Trains_runAll_L2 n v0 v1 S) NF x1 x2 (0 : Int32) r4 S3)
def f_Trains_runAll (a1 : Int32) (S : SS) : Option (Int32 × SS) :=
  f_Trains_runAll_L2 NF a1 (0 : Int32) S
theorem dX10_runAll_0 : decode cX10_runAll 0 = .ok (.iconst 0, 1) := dc_3 (by decide +kernel)
theorem dX10_runAll_1 : decode cX10_runAll 1 = .ok (.istore_n 2, 1) := dc_61 (by decide +kernel)
theorem dX10_runAll_2 : decode cX10_runAll 2 = .ok (.iload_n 2, 1) := dc_28 (by decide +kernel)
theorem dX10_runAll_3 : decode cX10_runAll 3 = .ok (.iload_n 1, 1) := dc_27 (by decide +kernel)
theorem dX10_runAll_4 : decode cX10_runAll 4 = .ok (.if_icmp .ge 60, 3) := dc_162 (a := 0) (b := 60) (by decide +kernel) (by decide)
theorem dX10_runAll_7 : decode cX10_runAll 7 = .ok (.iconst 0, 1) := dc_3 (by decide +kernel)
theorem dX10_runAll_8 : decode cX10_runAll 8 = .ok (.istore_n 3, 1) := dc_62 (by decide +kernel)
theorem dX10_runAll_9 : decode cX10_runAll 9 = .ok (.aload_n 0, 1) := dc_42 (by decide +kernel)
theorem dX10_runAll_10 : decode cX10_runAll 10 = .ok (.getfield 24, 3) := dc_180 (a := 0) (b := 24) (by decide +kernel)
theorem dX10_runAll_13 : decode cX10_runAll 13 = .ok (.invokevirtual 122, 3) := dc_182 (a := 0) (b := 122) (by decide +kernel)
theorem dX10_runAll_16 : decode cX10_runAll 16 = .ok (.istore 4, 2) := dc_54 (a := 4) (by decide +kernel)
theorem dX10_runAll_18 : decode cX10_runAll 18 = .ok (.iload 4, 2) := dc_21 (a := 4) (by decide +kernel)
theorem dX10_runAll_20 : decode cX10_runAll 20 = .ok (.ifCond .le 38, 3) := dc_158 (a := 0) (b := 38) (by decide +kernel) (by decide)
theorem dX10_runAll_23 : decode cX10_runAll 23 = .ok (.aload_n 0, 1) := dc_42 (by decide +kernel)
theorem dX10_runAll_24 : decode cX10_runAll 24 = .ok (.aload_n 0, 1) := dc_42 (by decide +kernel)
theorem dX10_runAll_25 : decode cX10_runAll 25 = .ok (.getfield 24, 3) := dc_180 (a := 0) (b := 24) (by decide +kernel)
theorem dX10_runAll_28 : decode cX10_runAll 28 = .ok (.iload_n 3, 1) := dc_29 (by decide +kernel)
theorem dX10_runAll_29 : decode cX10_runAll 29 = .ok (.invokevirtual 125, 3) := dc_182 (a := 0) (b := 125) (by decide +kernel)
theorem dX10_runAll_32 : decode cX10_runAll 32 = .ok (.invokevirtual 128, 3) := dc_182 (a := 0) (b := 128) (by decide +kernel)
theorem dX10_runAll_35 : decode cX10_runAll 35 = .ok (.ifCond .eq 9, 3) := dc_153 (a := 0) (b := 9) (by decide +kernel) (by decide)
theorem dX10_runAll_38 : decode cX10_runAll 38 = .ok (.iinc 3 1, 3) := dc_132 (a := 3) (b := 1) (by decide +kernel) (by decide)
theorem dX10_runAll_41 : decode cX10_runAll 41 = .ok (.goto 11, 3) := dc_167 (a := 0) (b := 11) (by decide +kernel) (by decide)
theorem dX10_runAll_44 : decode cX10_runAll 44 = .ok (.aload_n 0, 1) := dc_42 (by decide +kernel)
theorem dX10_runAll_45 : decode cX10_runAll 45 = .ok (.getfield 24, 3) := dc_180 (a := 0) (b := 24) (by decide +kernel)
theorem dX10_runAll_48 : decode cX10_runAll 48 = .ok (.iload_n 3, 1) := dc_29 (by decide +kernel)
theorem dX10_runAll_49 : decode cX10_runAll 49 = .ok (.invokevirtual 131, 3) := dc_182 (a := 0) (b := 131) (by decide +kernel)
theorem dX10_runAll_52 : decode cX10_runAll 52 = .ok (.iinc 4 (-1), 3) := dc_132 (a := 4) (b := 255) (by decide +kernel) (by decide)
theorem dX10_runAll_55 : decode cX10_runAll 55 = .ok (.goto (-37), 3) := dc_167 (a := 255) (b := 219) (by decide +kernel) (by decide)
theorem dX10_runAll_58 : decode cX10_runAll 58 = .ok (.iinc 2 1, 3) := dc_132 (a := 2) (b := 1) (by decide +kernel) (by decide)
theorem dX10_runAll_61 : decode cX10_runAll 61 = .ok (.goto (-59), 3) := dc_167 (a := 255) (b := 197) (by decide +kernel) (by decide)
theorem dX10_runAll_64 : decode cX10_runAll 64 = .ok (.aload_n 0, 1) := dc_42 (by decide +kernel)
theorem dX10_runAll_65 : decode cX10_runAll 65 = .ok (.getfield 24, 3) := dc_180 (a := 0) (b := 24) (by decide +kernel)
theorem dX10_runAll_68 : decode cX10_runAll 68 = .ok (.invokevirtual 122, 3) := dc_182 (a := 0) (b := 122) (by decide +kernel)
theorem dX10_runAll_71 : decode cX10_runAll 71 = .ok (.ireturn, 1) := dc_172 (by decide +kernel)
set_option maxRecDepth 100000 in
set_option maxHeartbeats 4000000 in
theorem w_Trains_runAll_j52 {p : Program} {l : Launch} {e : Env} {R : Room} {s : State} {m : MethodId} {args : Array Value} {below : List Frame} {meth : Method} {c : Code} {dC : Nat → ClassId} {dI : Nat → Nat → Nat} {cs : Nat → ClassId} {ad : Nat → Nat} {A : Nat → Prop} {D0 : Nat → Nat} {S' : SS} {r : Int32} (F : Fx p s m args meth c cX10_runAll 5 RX10 (some .int) dC dI cs A) (hR1 : 0 ≤ R.frames) (hR2 : 0 ≤ R.locals) (K18 : Int32 → Int32 → Int32 → Int32 → SS → Option (Int32 × SS)) (hK18 : ∀ (v0 : Int32) (v1 : Int32) (v2 : Int32) (v3 : Int32) (S : SS), K18 v0 v1 v2 v3 S = some (r, S') → AW p l e R s m args below meth c dC dI cs ad A D0 (some (.int r)) S' 5 18 [(0, .ref (ad 68)), (1, .int v0), (2, .int v1), (3, .int v2), (4, .int v3)] [] S) (x1 : Int32) (x2 : Int32) (x3 : Int32) (x4 : Int32) (S : SS) (h : f_Trains_runAll_j52 K18 x1 x2 x3 x4 S = some (r, S')) : AW p l e R s m args below meth c dC dI cs ad A D0 (some (.int r)) S' 5 52 [(0, .ref (ad 68)), (1, .int x1), (2, .int x2), (3, .int x3), (4, .int x4)] [] S := by
  have hx := F.1.1
  have hb := F.1.2.1
  intro H locs ls w hl
  rw [f_Trains_runAll_j52] at h
  refine s_nm h (fun z11 ez11 h => ?_)
  refine lv_iinc (pc := 52) (v := z11) (lv' := [(4, .int z11), (0, .ref (ad 68)), (1, .int x1), (2, .int x2), (3, .int x3)]) hx hb dX10_runAll_52 hl (k := 4) rfl (by rw [ez11]; rfl) (by decide) rfl (fun ls hl => ?_)
  refine lv_goto (pc := 55) (tgt := 18) hx hb dX10_runAll_55 (by decide) ?_
  exact hK18 _ _ _ _ _ h _ _ _ w (lv_sub hl [1, 2, 3, 4, 0] rfl)
set_option maxRecDepth 100000 in
set_option maxHeartbeats 4000000 in
theorem w_Trains_runAll_L18 {p : Program} {l : Launch} {e : Env} {R : Room} {s : State} {m : MethodId} {args : Array Value} {below : List Frame} {meth : Method} {c : Code} {dC : Nat → ClassId} {dI : Nat → Nat → Nat} {cs : Nat → ClassId} {ad : Nat → Nat} {A : Nat → Prop} {D0 : Nat → Nat} {S' : SS} {r : Int32} (F : Fx p s m args meth c cX10_runAll 5 RX10 (some .int) dC dI cs A) (hR1 : 5 ≤ R.frames) (hR2 : 115 ≤ R.locals) (K2 : Int32 → Int32 → SS → Option (Int32 × SS)) (hK2 : ∀ (v0 : Int32) (v1 : Int32) (S : SS), K2 v0 v1 S = some (r, S') → AW p l e R s m args below meth c dC dI cs ad A D0 (some (.int r)) S' 5 2 [(0, .ref (ad 68)), (1, .int v0), (2, .int v1)] [] S) : ∀ (n : Nat) (x1 : Int32) (x2 : Int32) (x3 : Int32) (x4 : Int32) (S : SS), f_Trains_runAll_L18 K2 n x1 x2 x3 x4 S = some (r, S') → AW p l e R s m args below meth c dC dI cs ad A D0 (some (.int r)) S' 5 18 [(0, .ref (ad 68)), (1, .int x1), (2, .int x2), (3, .int x3), (4, .int x4)] [] S := by
  have hx := F.1.1
  have hb := F.1.2.1
  intro n
  induction n with
  | zero => intro x1 x2 x3 x4 S h; cases h
  | succ n ih =>
    intro x1 x2 x3 x4 S h H locs ls w hl
    rw [f_Trains_runAll_L18] at h
    refine lv_iload (pc := 18) hx hb dX10_runAll_18 (lv_at hl 4 rfl) ?_
    refine lv_if_le (pc := 20) (tgt := 58) hx hb dX10_runAll_20 (by decide) (fun q => ?_) (fun q => ?_)
    · have h := ite_t q h
      refine s_nm h (fun z5 ez5 h => ?_)
      refine lv_iinc (pc := 58) (v := z5) (lv' := [(2, .int z5), (0, .ref (ad 68)), (1, .int x1), (3, .int x3), (4, .int x4)]) hx hb dX10_runAll_58 hl (k := 2) rfl (by rw [ez5]; rfl) (by decide) rfl (fun ls hl => ?_)
      refine lv_goto (pc := 61) (tgt := 2) hx hb dX10_runAll_61 (by decide) ?_
      exact hK2 _ _ _ h _ _ _ w (lv_sub hl [1, 2, 0] rfl)
    · have h := ite_f q h
      refine lv_aload_n (pc := 23) hx hb dX10_runAll_23 rfl (lv_at hl 0 rfl) ?_
      refine lv_aload_n (pc := 24) hx hb dX10_runAll_24 rfl (lv_at hl 0 rfl) ?_
      refine s_getR (pc := 25) F w 63 ds_68 (j := 0) vc_X10 vi_X10 rfl (by decide) kf_X10_24 dX10_runAll_25 ?_
      refine lv_iload_n (pc := 28) hx hb dX10_runAll_28 rfl (lv_at hl 3 rfl) ?_
      obtain ⟨r7, S6, hc, h⟩ := bnd_t h
      refine s_cvi (pc := 29) [.int x3] (fun ad => [.ref (ad 63), .int x3]) F w (m_State_runner _ _ _ _ hc) rfl rfl hl.1 ds_63 vc_X8 rfl ok_X8_runner rfl kc_X8_runner kl_X10_125 ki_X8_runner kv_X8_runner kn_X8 ⟨Nat.le_trans (by decide) hR1, Nat.le_trans (by decide) hR2⟩ ⟨Nat.zero_le _, Nat.zero_le _⟩ (Nat.le_of_ble_eq_true rfl) dX10_runAll_29 (fun H locs w => ?_)
      obtain ⟨r9, S8, hc, h⟩ := bnd_t h
      refine s_cvi (pc := 32) [.int r7] (fun ad => [.ref (ad 68), .int r7]) F w (m_Trains_runsOn _ _ _ _ hc) rfl rfl hl.1 ds_68 vc_X10 rfl ok_X10_runsOn rfl kc_X10_runsOn kl_X10_128 ki_X10_runsOn kv_X10_runsOn kn_X10 ⟨Nat.le_trans (by decide) hR1, Nat.le_trans (by decide) hR2⟩ ⟨Nat.zero_le _, Nat.zero_le _⟩ (Nat.le_of_ble_eq_true rfl) dX10_runAll_32 (fun H locs w => ?_)
      refine lv_if_eq (pc := 35) (tgt := 44) hx hb dX10_runAll_35 (by decide) (fun q => ?_) (fun q => ?_)
      · have h := ite_t q h
        refine lv_aload_n (pc := 44) hx hb dX10_runAll_44 rfl (lv_at hl 0 rfl) ?_
        refine s_getR (pc := 45) F w 63 ds_68 (j := 0) vc_X10 vi_X10 rfl (by decide) kf_X10_24 dX10_runAll_45 ?_
        refine lv_iload_n (pc := 48) hx hb dX10_runAll_48 rfl (lv_at hl 3 rfl) ?_
        obtain ⟨S10, hc, h⟩ := bndv_t h
        refine s_cvv (pc := 49) [.int x3] (fun ad => [.ref (ad 63), .int x3]) F w (m_State_endRun _ _ _ hc) rfl rfl hl.1 ds_63 vc_X8 rfl ok_X8_endRun rfl kc_X8_endRun kl_X10_131 ki_X8_endRun kv_X8_endRun kn_X8 ⟨Nat.le_trans (by decide) hR1, Nat.le_trans (by decide) hR2⟩ ⟨Nat.zero_le _, Nat.zero_le _⟩ (Nat.le_of_ble_eq_true rfl) dX10_runAll_49 (fun H locs w => ?_)
        exact w_Trains_runAll_j52 F (Nat.le_trans (by decide) hR1) (Nat.le_trans (by decide) hR2) _ (fun v0 v1 v2 v3 S h => ih v0 v1 v2 v3 S h) _ _ _ _ _ h _ _ _ w (lv_sub hl [0, 1, 2, 3, 4] rfl)
      · have h := ite_f q h
        refine s_nm h (fun z12 ez12 h => ?_)
        refine lv_iinc (pc := 38) (v := z12) (lv' := [(3, .int z12), (0, .ref (ad 68)), (1, .int x1), (2, .int x2), (4, .int x4)]) hx hb dX10_runAll_38 hl (k := 3) rfl (by rw [ez12]; rfl) (by decide) rfl (fun ls hl => ?_)
        refine lv_goto (pc := 41) (tgt := 52) hx hb dX10_runAll_41 (by decide) ?_
        exact w_Trains_runAll_j52 F (Nat.le_trans (by decide) hR1) (Nat.le_trans (by decide) hR2) _ (fun v0 v1 v2 v3 S h => ih v0 v1 v2 v3 S h) _ _ _ _ _ h _ _ _ w (lv_sub hl [1, 2, 3, 0, 4] rfl)
set_option maxRecDepth 100000 in
set_option maxHeartbeats 4000000 in
theorem w_Trains_runAll_L2 {p : Program} {l : Launch} {e : Env} {R : Room} {s : State} {m : MethodId} {args : Array Value} {below : List Frame} {meth : Method} {c : Code} {dC : Nat → ClassId} {dI : Nat → Nat → Nat} {cs : Nat → ClassId} {ad : Nat → Nat} {A : Nat → Prop} {D0 : Nat → Nat} {S' : SS} {r : Int32} (F : Fx p s m args meth c cX10_runAll 5 RX10 (some .int) dC dI cs A) (hR1 : 5 ≤ R.frames) (hR2 : 115 ≤ R.locals) : ∀ (n : Nat) (x1 : Int32) (x2 : Int32) (S : SS), f_Trains_runAll_L2 n x1 x2 S = some (r, S') → AW p l e R s m args below meth c dC dI cs ad A D0 (some (.int r)) S' 5 2 [(0, .ref (ad 68)), (1, .int x1), (2, .int x2)] [] S := by
  have hx := F.1.1
  have hb := F.1.2.1
  intro n
  induction n with
  | zero => intro x1 x2 S h; cases h
  | succ n ih =>
    intro x1 x2 S h H locs ls w hl
    rw [f_Trains_runAll_L2] at h
    refine lv_iload_n (pc := 2) hx hb dX10_runAll_2 rfl (lv_at hl 2 rfl) ?_
    refine lv_iload_n (pc := 3) hx hb dX10_runAll_3 rfl (lv_at hl 1 rfl) ?_
    refine lv_icmp_ge (pc := 4) (tgt := 64) hx hb dX10_runAll_4 (by decide) (fun q => ?_) (fun q => ?_)
    · have h := ite_t q h
      refine lv_aload_n (pc := 64) hx hb dX10_runAll_64 rfl (lv_at hl 0 rfl) ?_
      refine s_getR (pc := 65) F w 63 ds_68 (j := 0) vc_X10 vi_X10 rfl (by decide) kf_X10_24 dX10_runAll_65 ?_
      obtain ⟨r2, S1, hc, h⟩ := bnd_t h
      refine s_cvi (pc := 68) [] (fun ad => [.ref (ad 63)]) F w (m_State_running  _ _ _ hc) rfl rfl hl.1 ds_63 vc_X8 rfl ok_X8_running rfl kc_X8_running kl_X10_122 ki_X8_running kv_X8_running kn_X8 ⟨Nat.le_trans (by decide) hR1, Nat.le_trans (by decide) hR2⟩ ⟨Nat.zero_le _, Nat.zero_le _⟩ (Nat.le_of_ble_eq_true rfl) dX10_runAll_68 (fun H locs w => ?_)
      exact s_iret F w h dX10_runAll_71
    · have h := ite_f q h
      refine lv_iconst (pc := 7) (v := 0) hx hb dX10_runAll_7 (by decide) ?_
      refine lv_istore_n (pc := 8) (lv' := [(3, .int (0 : Int32)), (0, .ref (ad 68)), (1, .int x1), (2, .int x2)]) hx hb dX10_runAll_8 rfl hl (by decide) rfl (fun ls hl => ?_)
      refine lv_aload_n (pc := 9) hx hb dX10_runAll_9 rfl (lv_at hl 1 rfl) ?_
      refine s_getR (pc := 10) F w 63 ds_68 (j := 0) vc_X10 vi_X10 rfl (by decide) kf_X10_24 dX10_runAll_10 ?_
      obtain ⟨r4, S3, hc, h⟩ := bnd_t h
      refine s_cvi (pc := 13) [] (fun ad => [.ref (ad 63)]) F w (m_State_running  _ _ _ hc) rfl rfl hl.1 ds_63 vc_X8 rfl ok_X8_running rfl kc_X8_running kl_X10_122 ki_X8_running kv_X8_running kn_X8 ⟨Nat.le_trans (by decide) hR1, Nat.le_trans (by decide) hR2⟩ ⟨Nat.zero_le _, Nat.zero_le _⟩ (Nat.le_of_ble_eq_true rfl) dX10_runAll_13 (fun H locs w => ?_)
      refine lv_istore (pc := 16) (lv' := [(4, .int r4), (3, .int (0 : Int32)), (0, .ref (ad 68)), (1, .int x1), (2, .int x2)]) hx hb dX10_runAll_16 hl (by decide) rfl (fun ls hl => ?_)
      exact w_Trains_runAll_L18 F (Nat.le_trans (by decide) hR1) (Nat.le_trans (by decide) hR2) _ (fun v0 v1 S h => ih v0 v1 S h) _ _ _ _ _ _ h _ _ _ w (lv_sub hl [2, 3, 4, 1, 0] rfl)
set_option maxRecDepth 100000 in
set_option maxHeartbeats 4000000 in
theorem m_Trains_runAll (a1 : Int32) (S S' : SS) (r : Int32) (h : f_Trains_runAll a1 S = some (r, S')) : MT yX10_runAll cX10_runAll 5 (some .int) 5 115 (fun ad => [.ref (ad 68), .int a1]) S (some (.int r)) S' := by
  refine MT.of RX10 (fun ad => [(0, .ref (ad 68)), (1, .int a1)]) (by decide) rfl (fun _ => Nat.le_of_ble_eq_true rfl) (fun _ => rfl) ?_
  intro p l e R s m args below meth c dC dI cs ad A hR1 hR2 F H locs ls w hl
  have hx := F.1.1
  have hb := F.1.2.1
  rw [f_Trains_runAll] at h
  refine lv_iconst (pc := 0) (v := 0) hx hb dX10_runAll_0 (by decide) ?_
  refine lv_istore_n (pc := 1) (lv' := [(2, .int (0 : Int32)), (0, .ref (ad 68)), (1, .int a1)]) hx hb dX10_runAll_1 rfl hl (by decide) rfl (fun ls hl => ?_)
  exact w_Trains_runAll_L2 F (Nat.le_trans (by decide) hR1) (Nat.le_trans (by decide) hR2) _ _ _ _ h _ _ _ w (lv_sub hl [1, 2, 0] rfl)
def f_Yard_step (a1 : Int32) (S : SS) : Option (Int32 × SS) :=
  bnd (f_Yard_isNot a1 (1 : Int32) (50 : Int32) S) (fun r2 S1 =>
  if r2 = 0 then
    bndv (f_History_keep  S1) (fun S3 =>
    bnd (f_Trains_runAll a1 S3) (fun r5 S4 =>
    bnd (f_Yard_endAct (10 : Int32) r5 S4) (fun r7 S6 =>
    some (r7, S6))))
  else
    some ((-1 : Int32), S1))
theorem dX11_step_0 : decode cX11_step 0 = .ok (.iload_n 1, 1) := dc_27 (by decide +kernel)
theorem dX11_step_1 : decode cX11_step 1 = .ok (.iconst 1, 1) := dc_4 (by decide +kernel)
theorem dX11_step_2 : decode cX11_step 2 = .ok (.bipush 50, 2) := dc_16 (a := 50) (by decide +kernel) (by decide)
theorem dX11_step_4 : decode cX11_step 4 = .ok (.invokestatic 108, 3) := dc_184 (a := 0) (b := 108) (by decide +kernel)
theorem dX11_step_7 : decode cX11_step 7 = .ok (.ifCond .eq 5, 3) := dc_153 (a := 0) (b := 5) (by decide +kernel) (by decide)
theorem dX11_step_10 : decode cX11_step 10 = .ok (.iconst (-1), 1) := dc_2 (by decide +kernel)
theorem dX11_step_11 : decode cX11_step 11 = .ok (.ireturn, 1) := dc_172 (by decide +kernel)
theorem dX11_step_12 : decode cX11_step 12 = .ok (.aload_n 0, 1) := dc_42 (by decide +kernel)
theorem dX11_step_13 : decode cX11_step 13 = .ok (.getfield 26, 3) := dc_180 (a := 0) (b := 26) (by decide +kernel)
theorem dX11_step_16 : decode cX11_step 16 = .ok (.aload_n 0, 1) := dc_42 (by decide +kernel)
theorem dX11_step_17 : decode cX11_step 17 = .ok (.getfield 19, 3) := dc_180 (a := 0) (b := 19) (by decide +kernel)
theorem dX11_step_20 : decode cX11_step 20 = .ok (.invokevirtual 232, 3) := dc_182 (a := 0) (b := 232) (by decide +kernel)
theorem dX11_step_23 : decode cX11_step 23 = .ok (.aload_n 0, 1) := dc_42 (by decide +kernel)
theorem dX11_step_24 : decode cX11_step 24 = .ok (.bipush 10, 2) := dc_16 (a := 10) (by decide +kernel) (by decide)
theorem dX11_step_26 : decode cX11_step 26 = .ok (.aload_n 0, 1) := dc_42 (by decide +kernel)
theorem dX11_step_27 : decode cX11_step 27 = .ok (.getfield 58, 3) := dc_180 (a := 0) (b := 58) (by decide +kernel)
theorem dX11_step_30 : decode cX11_step 30 = .ok (.iload_n 1, 1) := dc_27 (by decide +kernel)
theorem dX11_step_31 : decode cX11_step 31 = .ok (.invokevirtual 235, 3) := dc_182 (a := 0) (b := 235) (by decide +kernel)
theorem dX11_step_34 : decode cX11_step 34 = .ok (.invokevirtual 205, 3) := dc_182 (a := 0) (b := 205) (by decide +kernel)
theorem dX11_step_37 : decode cX11_step 37 = .ok (.ireturn, 1) := dc_172 (by decide +kernel)
set_option maxRecDepth 100000 in
set_option maxHeartbeats 4000000 in
theorem m_Yard_step (a1 : Int32) (S S' : SS) (r : Int32) (h : f_Yard_step a1 S = some (r, S')) : MT yX11_step cX11_step 2 (some .int) 6 139 (fun ad => [.ref (ad 61), .int a1]) S (some (.int r)) S' := by
  refine MT.of RX11 (fun ad => [(0, .ref (ad 61)), (1, .int a1)]) (by decide) rfl (fun _ => Nat.le_of_ble_eq_true rfl) (fun _ => rfl) ?_
  intro p l e R s m args below meth c dC dI cs ad A hR1 hR2 F H locs ls w hl
  have hx := F.1.1
  have hb := F.1.2.1
  rw [f_Yard_step] at h
  refine lv_iload_n (pc := 0) hx hb dX11_step_0 rfl (lv_at hl 1 rfl) ?_
  refine lv_iconst (pc := 1) (v := 1) hx hb dX11_step_1 (by decide) ?_
  refine lv_bipush (pc := 2) (v := 50) hx hb dX11_step_2 (by decide) ?_
  obtain ⟨r2, S1, hc, h⟩ := bnd_t h
  refine s_csi (pc := 4) [.int a1, .int (1 : Int32), .int (50 : Int32)] (fun ad => [.int a1, .int (1 : Int32), .int (50 : Int32)]) F w (m_Yard_isNot _ _ _ _ _ _ hc) rfl rfl hl.1 ok_X11_isNot rfl kc_X11_isNot kl_X11_108 ks_X11_isNot kn_X11 ⟨Nat.le_trans (by decide) hR1, Nat.le_trans (by decide) hR2⟩ ⟨Nat.zero_le _, Nat.zero_le _⟩ (Nat.le_of_ble_eq_true rfl) dX11_step_4 (fun H locs w => ?_)
  refine lv_if_eq (pc := 7) (tgt := 12) hx hb dX11_step_7 (by decide) (fun q => ?_) (fun q => ?_)
  · have h := ite_t q h
    refine lv_aload_n (pc := 12) hx hb dX11_step_12 rfl (lv_at hl 0 rfl) ?_
    refine s_getR (pc := 13) F w 64 ds_61 (j := 2) vc_X11 vi_X11 rfl (by decide) kf_X11_26 dX11_step_13 ?_
    refine lv_aload_n (pc := 16) hx hb dX11_step_16 rfl (lv_at hl 0 rfl) ?_
    refine s_getR (pc := 17) F w 63 ds_61 (j := 1) vc_X11 vi_X11 rfl (by decide) kf_X11_19 dX11_step_17 ?_
    obtain ⟨S3, hc, h⟩ := bndv_t h
    refine s_cvv (pc := 20) [.ref (ad 63)] (fun ad => [.ref (ad 64), .ref (ad 63)]) F w (m_History_keep  _ _ hc) rfl rfl hl.1 ds_64 vc_X1 rfl ok_X1_keep rfl kc_X1_keep kl_X11_232 ki_X1_keep kv_X1_keep kn_X1 ⟨Nat.le_trans (by decide) hR1, Nat.le_trans (by decide) hR2⟩ ⟨Nat.zero_le _, Nat.zero_le _⟩ (Nat.le_of_ble_eq_true rfl) dX11_step_20 (fun H locs w => ?_)
    refine lv_aload_n (pc := 23) hx hb dX11_step_23 rfl (lv_at hl 0 rfl) ?_
    refine lv_bipush (pc := 24) (v := 10) hx hb dX11_step_24 (by decide) ?_
    refine lv_aload_n (pc := 26) hx hb dX11_step_26 rfl (lv_at hl 0 rfl) ?_
    refine s_getR (pc := 27) F w 68 ds_61 (j := 6) vc_X11 vi_X11 rfl (by decide) kf_X11_58 dX11_step_27 ?_
    refine lv_iload_n (pc := 30) hx hb dX11_step_30 rfl (lv_at hl 1 rfl) ?_
    obtain ⟨r5, S4, hc, h⟩ := bnd_t h
    refine s_cvi (pc := 31) [.int a1] (fun ad => [.ref (ad 68), .int a1]) F w (m_Trains_runAll _ _ _ _ hc) rfl rfl hl.1 ds_68 vc_X10 rfl ok_X10_runAll rfl kc_X10_runAll kl_X11_235 ki_X10_runAll kv_X10_runAll kn_X10 ⟨Nat.le_trans (by decide) hR1, Nat.le_trans (by decide) hR2⟩ ⟨Nat.zero_le _, Nat.zero_le _⟩ (Nat.le_of_ble_eq_true rfl) dX11_step_31 (fun H locs w => ?_)
    obtain ⟨r7, S6, hc, h⟩ := bnd_t h
    refine s_cvi (pc := 34) [.int (10 : Int32), .int r5] (fun ad => [.ref (ad 61), .int (10 : Int32), .int r5]) F w (m_Yard_endAct _ _ _ _ _ hc) rfl rfl hl.1 ds_61 vc_X11 rfl ok_X11_endAct rfl kc_X11_endAct kl_X11_205 ki_X11_endAct kv_X11_endAct kn_X11 ⟨Nat.le_trans (by decide) hR1, Nat.le_trans (by decide) hR2⟩ ⟨Nat.zero_le _, Nat.zero_le _⟩ (Nat.le_of_ble_eq_true rfl) dX11_step_34 (fun H locs w => ?_)
    exact s_iret F w h dX11_step_37
  · have h := ite_f q h
    refine lv_iconst (pc := 10) (v := -1) hx hb dX11_step_10 (by decide) ?_
    exact s_iret F w h dX11_step_11
def f_Bodies_flatBrake (a1 : Int32) (S : SS) : Option (Int32 × SS) :=
  bndv (f_Report_beginBody (6 : Int32) S) (fun S1 =>
  some ((4 : Int32) * a1, S1))
theorem dX0_flatBrake_0 : decode cX0_flatBrake 0 = .ok (.aload_n 0, 1) := dc_42 (by decide +kernel)
theorem dX0_flatBrake_1 : decode cX0_flatBrake 1 = .ok (.getfield 23, 3) := dc_180 (a := 0) (b := 23) (by decide +kernel)
theorem dX0_flatBrake_4 : decode cX0_flatBrake 4 = .ok (.bipush 6, 2) := dc_16 (a := 6) (by decide +kernel) (by decide)
theorem dX0_flatBrake_6 : decode cX0_flatBrake 6 = .ok (.invokevirtual 40, 3) := dc_182 (a := 0) (b := 40) (by decide +kernel)
theorem dX0_flatBrake_9 : decode cX0_flatBrake 9 = .ok (.iconst 4, 1) := dc_7 (by decide +kernel)
theorem dX0_flatBrake_10 : decode cX0_flatBrake 10 = .ok (.iload_n 1, 1) := dc_27 (by decide +kernel)
theorem dX0_flatBrake_11 : decode cX0_flatBrake 11 = .ok (.imul, 1) := dc_104 (by decide +kernel)
theorem dX0_flatBrake_12 : decode cX0_flatBrake 12 = .ok (.ireturn, 1) := dc_172 (by decide +kernel)
set_option maxRecDepth 100000 in
set_option maxHeartbeats 4000000 in
theorem m_Bodies_flatBrake (a1 : Int32) (S S' : SS) (r : Int32) (h : f_Bodies_flatBrake a1 S = some (r, S')) : MT yX0_flatBrake cX0_flatBrake 2 (some .int) 1 21 (fun ad => [.ref (ad 69), .int a1]) S (some (.int r)) S' := by
  refine MT.of RX0 (fun ad => [(0, .ref (ad 69)), (1, .int a1)]) (by decide) rfl (fun _ => Nat.le_of_ble_eq_true rfl) (fun _ => rfl) ?_
  intro p l e R s m args below meth c dC dI cs ad A hR1 hR2 F H locs ls w hl
  have hx := F.1.1
  have hb := F.1.2.1
  rw [f_Bodies_flatBrake] at h
  refine lv_aload_n (pc := 0) hx hb dX0_flatBrake_0 rfl (lv_at hl 0 rfl) ?_
  refine s_getR (pc := 1) F w 62 ds_69 (j := 2) vc_X0 vi_X0 rfl (by decide) kf_X0_23 dX0_flatBrake_1 ?_
  refine lv_bipush (pc := 4) (v := 6) hx hb dX0_flatBrake_4 (by decide) ?_
  obtain ⟨S1, hc, h⟩ := bndv_t h
  refine s_cvv (pc := 6) [.int (6 : Int32)] (fun ad => [.ref (ad 62), .int (6 : Int32)]) F w (m_Report_beginBody _ _ _ hc) rfl rfl hl.1 ds_62 vc_X5 rfl ok_X5_beginBody rfl kc_X5_beginBody kl_X0_40 ki_X5_beginBody kv_X5_beginBody kn_X5 ⟨Nat.le_trans (by decide) hR1, Nat.le_trans (by decide) hR2⟩ ⟨Nat.zero_le _, Nat.zero_le _⟩ (Nat.le_of_ble_eq_true rfl) dX0_flatBrake_6 (fun H locs w => ?_)
  refine lv_iconst (pc := 9) (v := 4) hx hb dX0_flatBrake_9 (by decide) ?_
  refine lv_iload_n (pc := 10) hx hb dX0_flatBrake_10 rfl (lv_at hl 1 rfl) ?_
  refine lv_imul (pc := 11) hx hb dX0_flatBrake_11 ?_
  exact s_iret F w h dX0_flatBrake_12
def f_Bodies_engineBrake  (S : SS) : Option (Int32 × SS) :=
  bndv (f_Report_beginBody (10 : Int32) S) (fun S1 =>
  some ((30 : Int32), S1))
theorem dX0_engineBrake_0 : decode cX0_engineBrake 0 = .ok (.aload_n 0, 1) := dc_42 (by decide +kernel)
theorem dX0_engineBrake_1 : decode cX0_engineBrake 1 = .ok (.getfield 23, 3) := dc_180 (a := 0) (b := 23) (by decide +kernel)
theorem dX0_engineBrake_4 : decode cX0_engineBrake 4 = .ok (.bipush 10, 2) := dc_16 (a := 10) (by decide +kernel) (by decide)
theorem dX0_engineBrake_6 : decode cX0_engineBrake 6 = .ok (.invokevirtual 40, 3) := dc_182 (a := 0) (b := 40) (by decide +kernel)
theorem dX0_engineBrake_9 : decode cX0_engineBrake 9 = .ok (.bipush 30, 2) := dc_16 (a := 30) (by decide +kernel) (by decide)
theorem dX0_engineBrake_11 : decode cX0_engineBrake 11 = .ok (.ireturn, 1) := dc_172 (by decide +kernel)
set_option maxRecDepth 100000 in
set_option maxHeartbeats 4000000 in
theorem m_Bodies_engineBrake  (S S' : SS) (r : Int32) (h : f_Bodies_engineBrake  S = some (r, S')) : MT yX0_engineBrake cX0_engineBrake 1 (some .int) 1 21 (fun ad => [.ref (ad 69)]) S (some (.int r)) S' := by
  refine MT.of RX0 (fun ad => [(0, .ref (ad 69))]) (by decide) rfl (fun _ => Nat.le_of_ble_eq_true rfl) (fun _ => rfl) ?_
  intro p l e R s m args below meth c dC dI cs ad A hR1 hR2 F H locs ls w hl
  have hx := F.1.1
  have hb := F.1.2.1
  rw [f_Bodies_engineBrake] at h
  refine lv_aload_n (pc := 0) hx hb dX0_engineBrake_0 rfl (lv_at hl 0 rfl) ?_
  refine s_getR (pc := 1) F w 62 ds_69 (j := 2) vc_X0 vi_X0 rfl (by decide) kf_X0_23 dX0_engineBrake_1 ?_
  refine lv_bipush (pc := 4) (v := 10) hx hb dX0_engineBrake_4 (by decide) ?_
  obtain ⟨S1, hc, h⟩ := bndv_t h
  refine s_cvv (pc := 6) [.int (10 : Int32)] (fun ad => [.ref (ad 62), .int (10 : Int32)]) F w (m_Report_beginBody _ _ _ hc) rfl rfl hl.1 ds_62 vc_X5 rfl ok_X5_beginBody rfl kc_X5_beginBody kl_X0_40 ki_X5_beginBody kv_X5_beginBody kn_X5 ⟨Nat.le_trans (by decide) hR1, Nat.le_trans (by decide) hR2⟩ ⟨Nat.zero_le _, Nat.zero_le _⟩ (Nat.le_of_ble_eq_true rfl) dX0_engineBrake_6 (fun H locs w => ?_)
  refine lv_bipush (pc := 9) (v := 30) hx hb dX0_engineBrake_9 (by decide) ?_
  exact s_iret F w h dX0_engineBrake_11
def f_Bodies_brake (a1 : Int32) (S : SS) : Option (Int32 × SS) :=
  bnd (f_Stock_get a1 (1 : Int32) S) (fun r2 S1 =>
  bnd (f_Bodies_kindOf a1 S1) (fun r4 S3 =>
  if r4 = (2 : Int32) then
    bndv (f_Report_beginBody (7 : Int32) S3) (fun S5 =>
    bnd (f_Bodies_flatBrake r2 S5) (fun r7 S6 =>
    some (r7 + (2 : Int32), S6)))
  else
  if r4 = (3 : Int32) then
    bndv (f_Report_beginBody (8 : Int32) S3) (fun S8 =>
    some ((3 : Int32) * r2, S8))
  else
  if r4 = (4 : Int32) then
    bndv (f_Report_beginBody (9 : Int32) S3) (fun S9 =>
    some (r2, S9))
  else
  if r4 = (5 : Int32) then
    bnd (f_Bodies_engineBrake  S3) (fun r11 S10 =>
    some (r11, S10))
  else
  if r4 = (6 : Int32) then
    bndv (f_Report_beginBody (11 : Int32) S3) (fun S12 =>
    bnd (f_Bodies_engineBrake  S12) (fun r14 S13 =>
    some (r14 + (5 : Int32), S13)))
  else
  bnd (f_Bodies_flatBrake r2 S3) (fun r16 S15 =>
  some (r16, S15))))
theorem dX0_brake_0 : decode cX0_brake 0 = .ok (.aload_n 0, 1) := dc_42 (by decide +kernel)
theorem dX0_brake_1 : decode cX0_brake 1 = .ok (.getfield 19, 3) := dc_180 (a := 0) (b := 19) (by decide +kernel)
theorem dX0_brake_4 : decode cX0_brake 4 = .ok (.iload_n 1, 1) := dc_27 (by decide +kernel)
theorem dX0_brake_5 : decode cX0_brake 5 = .ok (.iconst 1, 1) := dc_4 (by decide +kernel)
theorem dX0_brake_6 : decode cX0_brake 6 = .ok (.invokevirtual 29, 3) := dc_182 (a := 0) (b := 29) (by decide +kernel)
theorem dX0_brake_9 : decode cX0_brake 9 = .ok (.istore_n 2, 1) := dc_61 (by decide +kernel)
theorem dX0_brake_10 : decode cX0_brake 10 = .ok (.aload_n 0, 1) := dc_42 (by decide +kernel)
theorem dX0_brake_11 : decode cX0_brake 11 = .ok (.iload_n 1, 1) := dc_27 (by decide +kernel)
theorem dX0_brake_12 : decode cX0_brake 12 = .ok (.invokevirtual 33, 3) := dc_182 (a := 0) (b := 33) (by decide +kernel)
theorem dX0_brake_15 : decode cX0_brake 15 = .ok (.tableswitch 95 2 6 #[33, 50, 63, 74, 79], 33) := by decide +kernel
theorem dX0_brake_48 : decode cX0_brake 48 = .ok (.aload_n 0, 1) := dc_42 (by decide +kernel)
theorem dX0_brake_49 : decode cX0_brake 49 = .ok (.getfield 23, 3) := dc_180 (a := 0) (b := 23) (by decide +kernel)
theorem dX0_brake_52 : decode cX0_brake 52 = .ok (.bipush 7, 2) := dc_16 (a := 7) (by decide +kernel) (by decide)
theorem dX0_brake_54 : decode cX0_brake 54 = .ok (.invokevirtual 40, 3) := dc_182 (a := 0) (b := 40) (by decide +kernel)
theorem dX0_brake_57 : decode cX0_brake 57 = .ok (.aload_n 0, 1) := dc_42 (by decide +kernel)
theorem dX0_brake_58 : decode cX0_brake 58 = .ok (.iload_n 2, 1) := dc_28 (by decide +kernel)
theorem dX0_brake_59 : decode cX0_brake 59 = .ok (.invokevirtual 49, 3) := dc_182 (a := 0) (b := 49) (by decide +kernel)
theorem dX0_brake_62 : decode cX0_brake 62 = .ok (.iconst 2, 1) := dc_5 (by decide +kernel)
theorem dX0_brake_63 : decode cX0_brake 63 = .ok (.iadd, 1) := dc_96 (by decide +kernel)
theorem dX0_brake_64 : decode cX0_brake 64 = .ok (.ireturn, 1) := dc_172 (by decide +kernel)
theorem dX0_brake_65 : decode cX0_brake 65 = .ok (.aload_n 0, 1) := dc_42 (by decide +kernel)
theorem dX0_brake_66 : decode cX0_brake 66 = .ok (.getfield 23, 3) := dc_180 (a := 0) (b := 23) (by decide +kernel)
theorem dX0_brake_69 : decode cX0_brake 69 = .ok (.bipush 8, 2) := dc_16 (a := 8) (by decide +kernel) (by decide)
theorem dX0_brake_71 : decode cX0_brake 71 = .ok (.invokevirtual 40, 3) := dc_182 (a := 0) (b := 40) (by decide +kernel)
theorem dX0_brake_74 : decode cX0_brake 74 = .ok (.iconst 3, 1) := dc_6 (by decide +kernel)
theorem dX0_brake_75 : decode cX0_brake 75 = .ok (.iload_n 2, 1) := dc_28 (by decide +kernel)
theorem dX0_brake_76 : decode cX0_brake 76 = .ok (.imul, 1) := dc_104 (by decide +kernel)
theorem dX0_brake_77 : decode cX0_brake 77 = .ok (.ireturn, 1) := dc_172 (by decide +kernel)
theorem dX0_brake_78 : decode cX0_brake 78 = .ok (.aload_n 0, 1) := dc_42 (by decide +kernel)
theorem dX0_brake_79 : decode cX0_brake 79 = .ok (.getfield 23, 3) := dc_180 (a := 0) (b := 23) (by decide +kernel)
theorem dX0_brake_82 : decode cX0_brake 82 = .ok (.bipush 9, 2) := dc_16 (a := 9) (by decide +kernel) (by decide)
theorem dX0_brake_84 : decode cX0_brake 84 = .ok (.invokevirtual 40, 3) := dc_182 (a := 0) (b := 40) (by decide +kernel)
theorem dX0_brake_87 : decode cX0_brake 87 = .ok (.iload_n 2, 1) := dc_28 (by decide +kernel)
theorem dX0_brake_88 : decode cX0_brake 88 = .ok (.ireturn, 1) := dc_172 (by decide +kernel)
theorem dX0_brake_89 : decode cX0_brake 89 = .ok (.aload_n 0, 1) := dc_42 (by decide +kernel)
theorem dX0_brake_90 : decode cX0_brake 90 = .ok (.invokevirtual 52, 3) := dc_182 (a := 0) (b := 52) (by decide +kernel)
theorem dX0_brake_93 : decode cX0_brake 93 = .ok (.ireturn, 1) := dc_172 (by decide +kernel)
theorem dX0_brake_94 : decode cX0_brake 94 = .ok (.aload_n 0, 1) := dc_42 (by decide +kernel)
theorem dX0_brake_95 : decode cX0_brake 95 = .ok (.getfield 23, 3) := dc_180 (a := 0) (b := 23) (by decide +kernel)
theorem dX0_brake_98 : decode cX0_brake 98 = .ok (.bipush 11, 2) := dc_16 (a := 11) (by decide +kernel) (by decide)
theorem dX0_brake_100 : decode cX0_brake 100 = .ok (.invokevirtual 40, 3) := dc_182 (a := 0) (b := 40) (by decide +kernel)
theorem dX0_brake_103 : decode cX0_brake 103 = .ok (.aload_n 0, 1) := dc_42 (by decide +kernel)
theorem dX0_brake_104 : decode cX0_brake 104 = .ok (.invokevirtual 52, 3) := dc_182 (a := 0) (b := 52) (by decide +kernel)
theorem dX0_brake_107 : decode cX0_brake 107 = .ok (.iconst 5, 1) := dc_8 (by decide +kernel)
theorem dX0_brake_108 : decode cX0_brake 108 = .ok (.iadd, 1) := dc_96 (by decide +kernel)
theorem dX0_brake_109 : decode cX0_brake 109 = .ok (.ireturn, 1) := dc_172 (by decide +kernel)
theorem dX0_brake_110 : decode cX0_brake 110 = .ok (.aload_n 0, 1) := dc_42 (by decide +kernel)
theorem dX0_brake_111 : decode cX0_brake 111 = .ok (.iload_n 2, 1) := dc_28 (by decide +kernel)
theorem dX0_brake_112 : decode cX0_brake 112 = .ok (.invokevirtual 49, 3) := dc_182 (a := 0) (b := 49) (by decide +kernel)
theorem dX0_brake_115 : decode cX0_brake 115 = .ok (.ireturn, 1) := dc_172 (by decide +kernel)
set_option maxRecDepth 100000 in
set_option maxHeartbeats 4000000 in
theorem m_Bodies_brake (a1 : Int32) (S S' : SS) (r : Int32) (h : f_Bodies_brake a1 S = some (r, S')) : MT yX0_brake cX0_brake 3 (some .int) 2 43 (fun ad => [.ref (ad 69), .int a1]) S (some (.int r)) S' := by
  refine MT.of RX0 (fun ad => [(0, .ref (ad 69)), (1, .int a1)]) (by decide) rfl (fun _ => Nat.le_of_ble_eq_true rfl) (fun _ => rfl) ?_
  intro p l e R s m args below meth c dC dI cs ad A hR1 hR2 F H locs ls w hl
  have hx := F.1.1
  have hb := F.1.2.1
  rw [f_Bodies_brake] at h
  refine lv_aload_n (pc := 0) hx hb dX0_brake_0 rfl (lv_at hl 0 rfl) ?_
  refine s_getR (pc := 1) F w 65 ds_69 (j := 1) vc_X0 vi_X0 rfl (by decide) kf_X0_19 dX0_brake_1 ?_
  refine lv_iload_n (pc := 4) hx hb dX0_brake_4 rfl (lv_at hl 1 rfl) ?_
  refine lv_iconst (pc := 5) (v := 1) hx hb dX0_brake_5 (by decide) ?_
  obtain ⟨r2, S1, hc, h⟩ := bnd_t h
  refine s_cvi (pc := 6) [.int a1, .int (1 : Int32)] (fun ad => [.ref (ad 65), .int a1, .int (1 : Int32)]) F w (m_Stock_get _ _ _ _ _ hc) rfl rfl hl.1 ds_65 vc_X9 rfl ok_X9_get rfl kc_X9_get kl_X0_29 ki_X9_get kv_X9_get kn_X9 ⟨Nat.le_trans (by decide) hR1, Nat.le_trans (by decide) hR2⟩ ⟨Nat.zero_le _, Nat.zero_le _⟩ (Nat.le_of_ble_eq_true rfl) dX0_brake_6 (fun H locs w => ?_)
  refine lv_istore_n (pc := 9) (lv' := [(2, .int r2), (0, .ref (ad 69)), (1, .int a1)]) hx hb dX0_brake_9 rfl hl (by decide) rfl (fun ls hl => ?_)
  refine lv_aload_n (pc := 10) hx hb dX0_brake_10 rfl (lv_at hl 1 rfl) ?_
  refine lv_iload_n (pc := 11) hx hb dX0_brake_11 rfl (lv_at hl 2 rfl) ?_
  obtain ⟨r4, S3, hc, h⟩ := bnd_t h
  refine s_cvi (pc := 12) [.int a1] (fun ad => [.ref (ad 69), .int a1]) F w (m_Bodies_kindOf _ _ _ _ hc) rfl rfl hl.1 ds_69 vc_X0 rfl ok_X0_kindOf rfl kc_X0_kindOf kl_X0_33 ki_X0_kindOf kv_X0_kindOf kn_X0 ⟨Nat.le_trans (by decide) hR1, Nat.le_trans (by decide) hR2⟩ ⟨Nat.zero_le _, Nat.zero_le _⟩ (Nat.le_of_ble_eq_true rfl) dX0_brake_12 (fun H locs w => ?_)
  rcases Decidable.em (r4 = (2 : Int32)) with q2 | q2
  · refine lv_tableIn (pc := 15) (tgt := 48) (off := 33) hx hb dX0_brake_15 (by rw [q2]; decide) (by rw [q2]; decide) (by rw [q2]; rfl) (by decide) ?_
    have h := ite_t q2 h
    refine lv_aload_n (pc := 48) hx hb dX0_brake_48 rfl (lv_at hl 1 rfl) ?_
    refine s_getR (pc := 49) F w 62 ds_69 (j := 2) vc_X0 vi_X0 rfl (by decide) kf_X0_23 dX0_brake_49 ?_
    refine lv_bipush (pc := 52) (v := 7) hx hb dX0_brake_52 (by decide) ?_
    obtain ⟨S5, hc, h⟩ := bndv_t h
    refine s_cvv (pc := 54) [.int (7 : Int32)] (fun ad => [.ref (ad 62), .int (7 : Int32)]) F w (m_Report_beginBody _ _ _ hc) rfl rfl hl.1 ds_62 vc_X5 rfl ok_X5_beginBody rfl kc_X5_beginBody kl_X0_40 ki_X5_beginBody kv_X5_beginBody kn_X5 ⟨Nat.le_trans (by decide) hR1, Nat.le_trans (by decide) hR2⟩ ⟨Nat.zero_le _, Nat.zero_le _⟩ (Nat.le_of_ble_eq_true rfl) dX0_brake_54 (fun H locs w => ?_)
    refine lv_aload_n (pc := 57) hx hb dX0_brake_57 rfl (lv_at hl 1 rfl) ?_
    refine lv_iload_n (pc := 58) hx hb dX0_brake_58 rfl (lv_at hl 0 rfl) ?_
    obtain ⟨r7, S6, hc, h⟩ := bnd_t h
    refine s_cvi (pc := 59) [.int r2] (fun ad => [.ref (ad 69), .int r2]) F w (m_Bodies_flatBrake _ _ _ _ hc) rfl rfl hl.1 ds_69 vc_X0 rfl ok_X0_flatBrake rfl kc_X0_flatBrake kl_X0_49 ki_X0_flatBrake kv_X0_flatBrake kn_X0 ⟨Nat.le_trans (by decide) hR1, Nat.le_trans (by decide) hR2⟩ ⟨Nat.zero_le _, Nat.zero_le _⟩ (Nat.le_of_ble_eq_true rfl) dX0_brake_59 (fun H locs w => ?_)
    refine lv_iconst (pc := 62) (v := 2) hx hb dX0_brake_62 (by decide) ?_
    refine lv_iadd (pc := 63) hx hb dX0_brake_63 ?_
    exact s_iret F w h dX0_brake_64
  have h := ite_f q2 h
  rcases Decidable.em (r4 = (3 : Int32)) with q3 | q3
  · refine lv_tableIn (pc := 15) (tgt := 65) (off := 50) hx hb dX0_brake_15 (by rw [q3]; decide) (by rw [q3]; decide) (by rw [q3]; rfl) (by decide) ?_
    have h := ite_t q3 h
    refine lv_aload_n (pc := 65) hx hb dX0_brake_65 rfl (lv_at hl 1 rfl) ?_
    refine s_getR (pc := 66) F w 62 ds_69 (j := 2) vc_X0 vi_X0 rfl (by decide) kf_X0_23 dX0_brake_66 ?_
    refine lv_bipush (pc := 69) (v := 8) hx hb dX0_brake_69 (by decide) ?_
    obtain ⟨S8, hc, h⟩ := bndv_t h
    refine s_cvv (pc := 71) [.int (8 : Int32)] (fun ad => [.ref (ad 62), .int (8 : Int32)]) F w (m_Report_beginBody _ _ _ hc) rfl rfl hl.1 ds_62 vc_X5 rfl ok_X5_beginBody rfl kc_X5_beginBody kl_X0_40 ki_X5_beginBody kv_X5_beginBody kn_X5 ⟨Nat.le_trans (by decide) hR1, Nat.le_trans (by decide) hR2⟩ ⟨Nat.zero_le _, Nat.zero_le _⟩ (Nat.le_of_ble_eq_true rfl) dX0_brake_71 (fun H locs w => ?_)
    refine lv_iconst (pc := 74) (v := 3) hx hb dX0_brake_74 (by decide) ?_
    refine lv_iload_n (pc := 75) hx hb dX0_brake_75 rfl (lv_at hl 0 rfl) ?_
    refine lv_imul (pc := 76) hx hb dX0_brake_76 ?_
    exact s_iret F w h dX0_brake_77
  have h := ite_f q3 h
  rcases Decidable.em (r4 = (4 : Int32)) with q4 | q4
  · refine lv_tableIn (pc := 15) (tgt := 78) (off := 63) hx hb dX0_brake_15 (by rw [q4]; decide) (by rw [q4]; decide) (by rw [q4]; rfl) (by decide) ?_
    have h := ite_t q4 h
    refine lv_aload_n (pc := 78) hx hb dX0_brake_78 rfl (lv_at hl 1 rfl) ?_
    refine s_getR (pc := 79) F w 62 ds_69 (j := 2) vc_X0 vi_X0 rfl (by decide) kf_X0_23 dX0_brake_79 ?_
    refine lv_bipush (pc := 82) (v := 9) hx hb dX0_brake_82 (by decide) ?_
    obtain ⟨S9, hc, h⟩ := bndv_t h
    refine s_cvv (pc := 84) [.int (9 : Int32)] (fun ad => [.ref (ad 62), .int (9 : Int32)]) F w (m_Report_beginBody _ _ _ hc) rfl rfl hl.1 ds_62 vc_X5 rfl ok_X5_beginBody rfl kc_X5_beginBody kl_X0_40 ki_X5_beginBody kv_X5_beginBody kn_X5 ⟨Nat.le_trans (by decide) hR1, Nat.le_trans (by decide) hR2⟩ ⟨Nat.zero_le _, Nat.zero_le _⟩ (Nat.le_of_ble_eq_true rfl) dX0_brake_84 (fun H locs w => ?_)
    refine lv_iload_n (pc := 87) hx hb dX0_brake_87 rfl (lv_at hl 0 rfl) ?_
    exact s_iret F w h dX0_brake_88
  have h := ite_f q4 h
  rcases Decidable.em (r4 = (5 : Int32)) with q5 | q5
  · refine lv_tableIn (pc := 15) (tgt := 89) (off := 74) hx hb dX0_brake_15 (by rw [q5]; decide) (by rw [q5]; decide) (by rw [q5]; rfl) (by decide) ?_
    have h := ite_t q5 h
    refine lv_aload_n (pc := 89) hx hb dX0_brake_89 rfl (lv_at hl 1 rfl) ?_
    obtain ⟨r11, S10, hc, h⟩ := bnd_t h
    refine s_cvi (pc := 90) [] (fun ad => [.ref (ad 69)]) F w (m_Bodies_engineBrake  _ _ _ hc) rfl rfl hl.1 ds_69 vc_X0 rfl ok_X0_engineBrake rfl kc_X0_engineBrake kl_X0_52 ki_X0_engineBrake kv_X0_engineBrake kn_X0 ⟨Nat.le_trans (by decide) hR1, Nat.le_trans (by decide) hR2⟩ ⟨Nat.zero_le _, Nat.zero_le _⟩ (Nat.le_of_ble_eq_true rfl) dX0_brake_90 (fun H locs w => ?_)
    exact s_iret F w h dX0_brake_93
  have h := ite_f q5 h
  rcases Decidable.em (r4 = (6 : Int32)) with q6 | q6
  · refine lv_tableIn (pc := 15) (tgt := 94) (off := 79) hx hb dX0_brake_15 (by rw [q6]; decide) (by rw [q6]; decide) (by rw [q6]; rfl) (by decide) ?_
    have h := ite_t q6 h
    refine lv_aload_n (pc := 94) hx hb dX0_brake_94 rfl (lv_at hl 1 rfl) ?_
    refine s_getR (pc := 95) F w 62 ds_69 (j := 2) vc_X0 vi_X0 rfl (by decide) kf_X0_23 dX0_brake_95 ?_
    refine lv_bipush (pc := 98) (v := 11) hx hb dX0_brake_98 (by decide) ?_
    obtain ⟨S12, hc, h⟩ := bndv_t h
    refine s_cvv (pc := 100) [.int (11 : Int32)] (fun ad => [.ref (ad 62), .int (11 : Int32)]) F w (m_Report_beginBody _ _ _ hc) rfl rfl hl.1 ds_62 vc_X5 rfl ok_X5_beginBody rfl kc_X5_beginBody kl_X0_40 ki_X5_beginBody kv_X5_beginBody kn_X5 ⟨Nat.le_trans (by decide) hR1, Nat.le_trans (by decide) hR2⟩ ⟨Nat.zero_le _, Nat.zero_le _⟩ (Nat.le_of_ble_eq_true rfl) dX0_brake_100 (fun H locs w => ?_)
    refine lv_aload_n (pc := 103) hx hb dX0_brake_103 rfl (lv_at hl 1 rfl) ?_
    obtain ⟨r14, S13, hc, h⟩ := bnd_t h
    refine s_cvi (pc := 104) [] (fun ad => [.ref (ad 69)]) F w (m_Bodies_engineBrake  _ _ _ hc) rfl rfl hl.1 ds_69 vc_X0 rfl ok_X0_engineBrake rfl kc_X0_engineBrake kl_X0_52 ki_X0_engineBrake kv_X0_engineBrake kn_X0 ⟨Nat.le_trans (by decide) hR1, Nat.le_trans (by decide) hR2⟩ ⟨Nat.zero_le _, Nat.zero_le _⟩ (Nat.le_of_ble_eq_true rfl) dX0_brake_104 (fun H locs w => ?_)
    refine lv_iconst (pc := 107) (v := 5) hx hb dX0_brake_107 (by decide) ?_
    refine lv_iadd (pc := 108) hx hb dX0_brake_108 ?_
    exact s_iret F w h dX0_brake_109
  have h := ite_f q6 h
  refine lv_tableOut (pc := 15) (tgt := 110) hx hb dX0_brake_15 (by have zq2 := i32ne q2 (show ((2 : Int32)).toInt = 2 by decide); have zq3 := i32ne q3 (show ((3 : Int32)).toInt = 3 by decide); have zq4 := i32ne q4 (show ((4 : Int32)).toInt = 4 by decide); have zq5 := i32ne q5 (show ((5 : Int32)).toInt = 5 by decide); have zq6 := i32ne q6 (show ((6 : Int32)).toInt = 6 by decide); omega) (by decide) ?_
  refine lv_aload_n (pc := 110) hx hb dX0_brake_110 rfl (lv_at hl 1 rfl) ?_
  refine lv_iload_n (pc := 111) hx hb dX0_brake_111 rfl (lv_at hl 0 rfl) ?_
  obtain ⟨r16, S15, hc, h⟩ := bnd_t h
  refine s_cvi (pc := 112) [.int r2] (fun ad => [.ref (ad 69), .int r2]) F w (m_Bodies_flatBrake _ _ _ _ hc) rfl rfl hl.1 ds_69 vc_X0 rfl ok_X0_flatBrake rfl kc_X0_flatBrake kl_X0_49 ki_X0_flatBrake kv_X0_flatBrake kn_X0 ⟨Nat.le_trans (by decide) hR1, Nat.le_trans (by decide) hR2⟩ ⟨Nat.zero_le _, Nat.zero_le _⟩ (Nat.le_of_ble_eq_true rfl) dX0_brake_112 (fun H locs w => ?_)
  exact s_iret F w h dX0_brake_115
def f_Bodies_perAxle (a1 : Int32) (S : SS) : Option (Int32 × SS) :=
  bndv (f_Report_beginBody (14 : Int32) S) (fun S1 =>
  bnd (f_Bodies_weight a1 S1) (fun r3 S2 =>
  bnd (f_Stock_get a1 (1 : Int32) S2) (fun r5 S4 =>
  if 0 < r5 then
    grd (!(decide (r5 = 0))) (
    some (r3 / r5, S4))
  else
    some ((-4 : Int32), S4))))
theorem dX0_perAxle_0 : decode cX0_perAxle 0 = .ok (.aload_n 0, 1) := dc_42 (by decide +kernel)
theorem dX0_perAxle_1 : decode cX0_perAxle 1 = .ok (.getfield 23, 3) := dc_180 (a := 0) (b := 23) (by decide +kernel)
theorem dX0_perAxle_4 : decode cX0_perAxle 4 = .ok (.bipush 14, 2) := dc_16 (a := 14) (by decide +kernel) (by decide)
theorem dX0_perAxle_6 : decode cX0_perAxle 6 = .ok (.invokevirtual 40, 3) := dc_182 (a := 0) (b := 40) (by decide +kernel)
theorem dX0_perAxle_9 : decode cX0_perAxle 9 = .ok (.aload_n 0, 1) := dc_42 (by decide +kernel)
theorem dX0_perAxle_10 : decode cX0_perAxle 10 = .ok (.iload_n 1, 1) := dc_27 (by decide +kernel)
theorem dX0_perAxle_11 : decode cX0_perAxle 11 = .ok (.invokevirtual 56, 3) := dc_182 (a := 0) (b := 56) (by decide +kernel)
theorem dX0_perAxle_14 : decode cX0_perAxle 14 = .ok (.istore_n 2, 1) := dc_61 (by decide +kernel)
theorem dX0_perAxle_15 : decode cX0_perAxle 15 = .ok (.aload_n 0, 1) := dc_42 (by decide +kernel)
theorem dX0_perAxle_16 : decode cX0_perAxle 16 = .ok (.getfield 19, 3) := dc_180 (a := 0) (b := 19) (by decide +kernel)
theorem dX0_perAxle_19 : decode cX0_perAxle 19 = .ok (.iload_n 1, 1) := dc_27 (by decide +kernel)
theorem dX0_perAxle_20 : decode cX0_perAxle 20 = .ok (.iconst 1, 1) := dc_4 (by decide +kernel)
theorem dX0_perAxle_21 : decode cX0_perAxle 21 = .ok (.invokevirtual 29, 3) := dc_182 (a := 0) (b := 29) (by decide +kernel)
theorem dX0_perAxle_24 : decode cX0_perAxle 24 = .ok (.istore_n 3, 1) := dc_62 (by decide +kernel)
theorem dX0_perAxle_25 : decode cX0_perAxle 25 = .ok (.iload_n 3, 1) := dc_29 (by decide +kernel)
theorem dX0_perAxle_26 : decode cX0_perAxle 26 = .ok (.ifCond .gt 8, 3) := dc_157 (a := 0) (b := 8) (by decide +kernel) (by decide)
theorem dX0_perAxle_29 : decode cX0_perAxle 29 = .ok (.bipush (-4), 2) := dc_16 (a := 252) (by decide +kernel) (by decide)
theorem dX0_perAxle_31 : decode cX0_perAxle 31 = .ok (.goto 6, 3) := dc_167 (a := 0) (b := 6) (by decide +kernel) (by decide)
theorem dX0_perAxle_34 : decode cX0_perAxle 34 = .ok (.iload_n 2, 1) := dc_28 (by decide +kernel)
theorem dX0_perAxle_35 : decode cX0_perAxle 35 = .ok (.iload_n 3, 1) := dc_29 (by decide +kernel)
theorem dX0_perAxle_36 : decode cX0_perAxle 36 = .ok (.idiv, 1) := dc_108 (by decide +kernel)
theorem dX0_perAxle_37 : decode cX0_perAxle 37 = .ok (.ireturn, 1) := dc_172 (by decide +kernel)
set_option maxRecDepth 100000 in
set_option maxHeartbeats 4000000 in
theorem m_Bodies_perAxle (a1 : Int32) (S S' : SS) (r : Int32) (h : f_Bodies_perAxle a1 S = some (r, S')) : MT yX0_perAxle cX0_perAxle 4 (some .int) 4 85 (fun ad => [.ref (ad 69), .int a1]) S (some (.int r)) S' := by
  refine MT.of RX0 (fun ad => [(0, .ref (ad 69)), (1, .int a1)]) (by decide) rfl (fun _ => Nat.le_of_ble_eq_true rfl) (fun _ => rfl) ?_
  intro p l e R s m args below meth c dC dI cs ad A hR1 hR2 F H locs ls w hl
  have hx := F.1.1
  have hb := F.1.2.1
  rw [f_Bodies_perAxle] at h
  refine lv_aload_n (pc := 0) hx hb dX0_perAxle_0 rfl (lv_at hl 0 rfl) ?_
  refine s_getR (pc := 1) F w 62 ds_69 (j := 2) vc_X0 vi_X0 rfl (by decide) kf_X0_23 dX0_perAxle_1 ?_
  refine lv_bipush (pc := 4) (v := 14) hx hb dX0_perAxle_4 (by decide) ?_
  obtain ⟨S1, hc, h⟩ := bndv_t h
  refine s_cvv (pc := 6) [.int (14 : Int32)] (fun ad => [.ref (ad 62), .int (14 : Int32)]) F w (m_Report_beginBody _ _ _ hc) rfl rfl hl.1 ds_62 vc_X5 rfl ok_X5_beginBody rfl kc_X5_beginBody kl_X0_40 ki_X5_beginBody kv_X5_beginBody kn_X5 ⟨Nat.le_trans (by decide) hR1, Nat.le_trans (by decide) hR2⟩ ⟨Nat.zero_le _, Nat.zero_le _⟩ (Nat.le_of_ble_eq_true rfl) dX0_perAxle_6 (fun H locs w => ?_)
  refine lv_aload_n (pc := 9) hx hb dX0_perAxle_9 rfl (lv_at hl 0 rfl) ?_
  refine lv_iload_n (pc := 10) hx hb dX0_perAxle_10 rfl (lv_at hl 1 rfl) ?_
  obtain ⟨r3, S2, hc, h⟩ := bnd_t h
  refine s_cvi (pc := 11) [.int a1] (fun ad => [.ref (ad 69), .int a1]) F w (m_Bodies_weight _ _ _ _ hc) rfl rfl hl.1 ds_69 vc_X0 rfl ok_X0_weight rfl kc_X0_weight kl_X0_56 ki_X0_weight kv_X0_weight kn_X0 ⟨Nat.le_trans (by decide) hR1, Nat.le_trans (by decide) hR2⟩ ⟨Nat.zero_le _, Nat.zero_le _⟩ (Nat.le_of_ble_eq_true rfl) dX0_perAxle_11 (fun H locs w => ?_)
  refine lv_istore_n (pc := 14) (lv' := [(2, .int r3), (0, .ref (ad 69)), (1, .int a1)]) hx hb dX0_perAxle_14 rfl hl (by decide) rfl (fun ls hl => ?_)
  refine lv_aload_n (pc := 15) hx hb dX0_perAxle_15 rfl (lv_at hl 1 rfl) ?_
  refine s_getR (pc := 16) F w 65 ds_69 (j := 1) vc_X0 vi_X0 rfl (by decide) kf_X0_19 dX0_perAxle_16 ?_
  refine lv_iload_n (pc := 19) hx hb dX0_perAxle_19 rfl (lv_at hl 2 rfl) ?_
  refine lv_iconst (pc := 20) (v := 1) hx hb dX0_perAxle_20 (by decide) ?_
  obtain ⟨r5, S4, hc, h⟩ := bnd_t h
  refine s_cvi (pc := 21) [.int a1, .int (1 : Int32)] (fun ad => [.ref (ad 65), .int a1, .int (1 : Int32)]) F w (m_Stock_get _ _ _ _ _ hc) rfl rfl hl.1 ds_65 vc_X9 rfl ok_X9_get rfl kc_X9_get kl_X0_29 ki_X9_get kv_X9_get kn_X9 ⟨Nat.le_trans (by decide) hR1, Nat.le_trans (by decide) hR2⟩ ⟨Nat.zero_le _, Nat.zero_le _⟩ (Nat.le_of_ble_eq_true rfl) dX0_perAxle_21 (fun H locs w => ?_)
  refine lv_istore_n (pc := 24) (lv' := [(3, .int r5), (2, .int r3), (0, .ref (ad 69)), (1, .int a1)]) hx hb dX0_perAxle_24 rfl hl (by decide) rfl (fun ls hl => ?_)
  refine lv_iload_n (pc := 25) hx hb dX0_perAxle_25 rfl (lv_at hl 0 rfl) ?_
  refine lv_if_gt (pc := 26) (tgt := 34) hx hb dX0_perAxle_26 (by decide) (fun q => ?_) (fun q => ?_)
  · have h := ite_t q h
    refine lv_iload_n (pc := 34) hx hb dX0_perAxle_34 rfl (lv_at hl 1 rfl) ?_
    refine lv_iload_n (pc := 35) hx hb dX0_perAxle_35 rfl (lv_at hl 0 rfl) ?_
    obtain ⟨hd, h⟩ := grd_t h
    refine lv_idiv (pc := 36) hx hb dX0_perAxle_36 (by simpa using hd) ?_
    exact s_iret F w h dX0_perAxle_37
  · have h := ite_f q h
    refine lv_bipush (pc := 29) (v := -4) hx hb dX0_perAxle_29 (by decide) ?_
    refine lv_goto (pc := 31) (tgt := 37) hx hb dX0_perAxle_31 (by decide) ?_
    exact s_iret F w h dX0_perAxle_37
def f_Yard_testAll_j113 (K36 : Int32 → Int32 → SS → Option (Int32 × SS)) (x3 : Int32) (x4 : Int32) (S : SS) : Option (Int32 × SS) :=
    nm (x4 + (1 : Int32)) (fun z14 =>
    K36 x3 z14 S)
def f_Yard_testAll_L36  : Nat → Int32 → Int32 → SS → Option (Int32 × SS)
  | 0, _, _, _ => none
  | n + 1, x3, x4, S =>
    if (S.1 68 4) ≤ x4 then
      if x3 = (S.1 68 4) then
        bndv (f_Trains_setLine (10 : Int32) (1 : Int32) S) (fun S5 =>
        some (x3, S5))
      else
        bndv (f_Trains_setLine (10 : Int32) (0 : Int32) S) (fun S4 =>
        some (x3, S4))
    else
      bnd (f_Trains_inLine x4 S) (fun r7 S6 =>
      bnd (f_Bodies_brake r7 S6) (fun r9 S8 =>
      bnd (f_Trains_inLine x4 S8) (fun r11 S10 =>
      bnd (f_Bodies_perAxle r11 S10) (fun r13 S12 =>
      if r13 = (-4 : Int32) then
        bnd (f_Report_found (6 : Int32) S12) (fun r17 S16 =>
        some (r17, S16))
      else
        if ((2 : Int32) * r9) < r13 then
          f_Yard_testAll_j113 (fun v0 v1 S => f_Yard_testAll_L36 n v0 v1 S) x3 x4 S12
        else
          nm (x3 + (1 : Int32)) (fun z15 =>
          f_Yard_testAll_j113 (fun v0 v1 S => f_Yard_testAll_L36 n v0 v1 S) z15 x4 S12)))))
def f_Yard_testAll (a1 : Int32) (S : SS) : Option (Int32 × SS) :=
  bnd (f_Yard_named a1 (127 : Int32) S) (fun r2 S1 =>
  if r2 = 0 then
    bndv (f_Trains_lineUp ((2 : Int32) * a1) S1) (fun S3 =>
    f_Yard_testAll_L36 NF (0 : Int32) (0 : Int32) S3)
  else
    bnd (f_Report_found r2 S1) (fun r19 S18 =>
    some (r19, S18)))
theorem dX11_testAll_0 : decode cX11_testAll 0 = .ok (.aload_n 0, 1) := dc_42 (by decide +kernel)
theorem dX11_testAll_1 : decode cX11_testAll 1 = .ok (.iload_n 1, 1) := dc_27 (by decide +kernel)
theorem dX11_testAll_2 : decode cX11_testAll 2 = .ok (.bipush 127, 2) := dc_16 (a := 127) (by decide +kernel) (by decide)
theorem dX11_testAll_4 : decode cX11_testAll 4 = .ok (.invokevirtual 185, 3) := dc_182 (a := 0) (b := 185) (by decide +kernel)
theorem dX11_testAll_7 : decode cX11_testAll 7 = .ok (.istore_n 2, 1) := dc_61 (by decide +kernel)
theorem dX11_testAll_8 : decode cX11_testAll 8 = .ok (.iload_n 2, 1) := dc_28 (by decide +kernel)
theorem dX11_testAll_9 : decode cX11_testAll 9 = .ok (.ifCond .eq 12, 3) := dc_153 (a := 0) (b := 12) (by decide +kernel) (by decide)
theorem dX11_testAll_12 : decode cX11_testAll 12 = .ok (.aload_n 0, 1) := dc_42 (by decide +kernel)
theorem dX11_testAll_13 : decode cX11_testAll 13 = .ok (.getfield 10, 3) := dc_180 (a := 0) (b := 10) (by decide +kernel)
theorem dX11_testAll_16 : decode cX11_testAll 16 = .ok (.iload_n 2, 1) := dc_28 (by decide +kernel)
theorem dX11_testAll_17 : decode cX11_testAll 17 = .ok (.invokevirtual 98, 3) := dc_182 (a := 0) (b := 98) (by decide +kernel)
theorem dX11_testAll_20 : decode cX11_testAll 20 = .ok (.ireturn, 1) := dc_172 (by decide +kernel)
theorem dX11_testAll_21 : decode cX11_testAll 21 = .ok (.aload_n 0, 1) := dc_42 (by decide +kernel)
theorem dX11_testAll_22 : decode cX11_testAll 22 = .ok (.getfield 58, 3) := dc_180 (a := 0) (b := 58) (by decide +kernel)
theorem dX11_testAll_25 : decode cX11_testAll 25 = .ok (.iconst 2, 1) := dc_5 (by decide +kernel)
theorem dX11_testAll_26 : decode cX11_testAll 26 = .ok (.iload_n 1, 1) := dc_27 (by decide +kernel)
theorem dX11_testAll_27 : decode cX11_testAll 27 = .ok (.imul, 1) := dc_104 (by decide +kernel)
theorem dX11_testAll_28 : decode cX11_testAll 28 = .ok (.invokevirtual 281, 3) := dc_182 (a := 1) (b := 25) (by decide +kernel)
theorem dX11_testAll_31 : decode cX11_testAll 31 = .ok (.iconst 0, 1) := dc_3 (by decide +kernel)
theorem dX11_testAll_32 : decode cX11_testAll 32 = .ok (.istore_n 3, 1) := dc_62 (by decide +kernel)
theorem dX11_testAll_33 : decode cX11_testAll 33 = .ok (.iconst 0, 1) := dc_3 (by decide +kernel)
theorem dX11_testAll_34 : decode cX11_testAll 34 = .ok (.istore 4, 2) := dc_54 (a := 4) (by decide +kernel)
theorem dX11_testAll_36 : decode cX11_testAll 36 = .ok (.iload 4, 2) := dc_21 (a := 4) (by decide +kernel)
theorem dX11_testAll_38 : decode cX11_testAll 38 = .ok (.aload_n 0, 1) := dc_42 (by decide +kernel)
theorem dX11_testAll_39 : decode cX11_testAll 39 = .ok (.getfield 58, 3) := dc_180 (a := 0) (b := 58) (by decide +kernel)
theorem dX11_testAll_42 : decode cX11_testAll 42 = .ok (.getfield 296, 3) := dc_180 (a := 1) (b := 40) (by decide +kernel)
theorem dX11_testAll_45 : decode cX11_testAll 45 = .ok (.if_icmp .ge 74, 3) := dc_162 (a := 0) (b := 74) (by decide +kernel) (by decide)
theorem dX11_testAll_48 : decode cX11_testAll 48 = .ok (.aload_n 0, 1) := dc_42 (by decide +kernel)
theorem dX11_testAll_49 : decode cX11_testAll 49 = .ok (.getfield 67, 3) := dc_180 (a := 0) (b := 67) (by decide +kernel)
theorem dX11_testAll_52 : decode cX11_testAll 52 = .ok (.aload_n 0, 1) := dc_42 (by decide +kernel)
theorem dX11_testAll_53 : decode cX11_testAll 53 = .ok (.getfield 58, 3) := dc_180 (a := 0) (b := 58) (by decide +kernel)
theorem dX11_testAll_56 : decode cX11_testAll 56 = .ok (.iload 4, 2) := dc_21 (a := 4) (by decide +kernel)
theorem dX11_testAll_58 : decode cX11_testAll 58 = .ok (.invokevirtual 299, 3) := dc_182 (a := 1) (b := 43) (by decide +kernel)
theorem dX11_testAll_61 : decode cX11_testAll 61 = .ok (.invokevirtual 323, 3) := dc_182 (a := 1) (b := 67) (by decide +kernel)
theorem dX11_testAll_64 : decode cX11_testAll 64 = .ok (.istore 5, 2) := dc_54 (a := 5) (by decide +kernel)
theorem dX11_testAll_66 : decode cX11_testAll 66 = .ok (.aload_n 0, 1) := dc_42 (by decide +kernel)
theorem dX11_testAll_67 : decode cX11_testAll 67 = .ok (.getfield 67, 3) := dc_180 (a := 0) (b := 67) (by decide +kernel)
theorem dX11_testAll_70 : decode cX11_testAll 70 = .ok (.aload_n 0, 1) := dc_42 (by decide +kernel)
theorem dX11_testAll_71 : decode cX11_testAll 71 = .ok (.getfield 58, 3) := dc_180 (a := 0) (b := 58) (by decide +kernel)
theorem dX11_testAll_74 : decode cX11_testAll 74 = .ok (.iload 4, 2) := dc_21 (a := 4) (by decide +kernel)
theorem dX11_testAll_76 : decode cX11_testAll 76 = .ok (.invokevirtual 299, 3) := dc_182 (a := 1) (b := 43) (by decide +kernel)
theorem dX11_testAll_79 : decode cX11_testAll 79 = .ok (.invokevirtual 326, 3) := dc_182 (a := 1) (b := 70) (by decide +kernel)
theorem dX11_testAll_82 : decode cX11_testAll 82 = .ok (.istore 6, 2) := dc_54 (a := 6) (by decide +kernel)
theorem dX11_testAll_84 : decode cX11_testAll 84 = .ok (.iload 6, 2) := dc_21 (a := 6) (by decide +kernel)
theorem dX11_testAll_86 : decode cX11_testAll 86 = .ok (.bipush (-4), 2) := dc_16 (a := 252) (by decide +kernel) (by decide)
theorem dX11_testAll_88 : decode cX11_testAll 88 = .ok (.if_icmp .ne 13, 3) := dc_160 (a := 0) (b := 13) (by decide +kernel) (by decide)
theorem dX11_testAll_91 : decode cX11_testAll 91 = .ok (.aload_n 0, 1) := dc_42 (by decide +kernel)
theorem dX11_testAll_92 : decode cX11_testAll 92 = .ok (.getfield 10, 3) := dc_180 (a := 0) (b := 10) (by decide +kernel)
theorem dX11_testAll_95 : decode cX11_testAll 95 = .ok (.bipush 6, 2) := dc_16 (a := 6) (by decide +kernel) (by decide)
theorem dX11_testAll_97 : decode cX11_testAll 97 = .ok (.invokevirtual 98, 3) := dc_182 (a := 0) (b := 98) (by decide +kernel)
theorem dX11_testAll_100 : decode cX11_testAll 100 = .ok (.ireturn, 1) := dc_172 (by decide +kernel)
theorem dX11_testAll_101 : decode cX11_testAll 101 = .ok (.iconst 2, 1) := dc_5 (by decide +kernel)
theorem dX11_testAll_102 : decode cX11_testAll 102 = .ok (.iload 5, 2) := dc_21 (a := 5) (by decide +kernel)
theorem dX11_testAll_104 : decode cX11_testAll 104 = .ok (.imul, 1) := dc_104 (by decide +kernel)
theorem dX11_testAll_105 : decode cX11_testAll 105 = .ok (.iload 6, 2) := dc_21 (a := 6) (by decide +kernel)
theorem dX11_testAll_107 : decode cX11_testAll 107 = .ok (.if_icmp .lt 6, 3) := dc_161 (a := 0) (b := 6) (by decide +kernel) (by decide)
theorem dX11_testAll_110 : decode cX11_testAll 110 = .ok (.iinc 3 1, 3) := dc_132 (a := 3) (b := 1) (by decide +kernel) (by decide)
theorem dX11_testAll_113 : decode cX11_testAll 113 = .ok (.iinc 4 1, 3) := dc_132 (a := 4) (b := 1) (by decide +kernel) (by decide)
theorem dX11_testAll_116 : decode cX11_testAll 116 = .ok (.goto (-80), 3) := dc_167 (a := 255) (b := 176) (by decide +kernel) (by decide)
theorem dX11_testAll_119 : decode cX11_testAll 119 = .ok (.aload_n 0, 1) := dc_42 (by decide +kernel)
theorem dX11_testAll_120 : decode cX11_testAll 120 = .ok (.getfield 58, 3) := dc_180 (a := 0) (b := 58) (by decide +kernel)
theorem dX11_testAll_123 : decode cX11_testAll 123 = .ok (.bipush 10, 2) := dc_16 (a := 10) (by decide +kernel) (by decide)
theorem dX11_testAll_125 : decode cX11_testAll 125 = .ok (.iload_n 3, 1) := dc_29 (by decide +kernel)
theorem dX11_testAll_126 : decode cX11_testAll 126 = .ok (.aload_n 0, 1) := dc_42 (by decide +kernel)
theorem dX11_testAll_127 : decode cX11_testAll 127 = .ok (.getfield 58, 3) := dc_180 (a := 0) (b := 58) (by decide +kernel)
theorem dX11_testAll_130 : decode cX11_testAll 130 = .ok (.getfield 296, 3) := dc_180 (a := 1) (b := 40) (by decide +kernel)
theorem dX11_testAll_133 : decode cX11_testAll 133 = .ok (.if_icmp .ne 7, 3) := dc_160 (a := 0) (b := 7) (by decide +kernel) (by decide)
theorem dX11_testAll_136 : decode cX11_testAll 136 = .ok (.iconst 1, 1) := dc_4 (by decide +kernel)
theorem dX11_testAll_137 : decode cX11_testAll 137 = .ok (.goto 4, 3) := dc_167 (a := 0) (b := 4) (by decide +kernel) (by decide)
theorem dX11_testAll_140 : decode cX11_testAll 140 = .ok (.iconst 0, 1) := dc_3 (by decide +kernel)
theorem dX11_testAll_141 : decode cX11_testAll 141 = .ok (.invokevirtual 329, 3) := dc_182 (a := 1) (b := 73) (by decide +kernel)
theorem dX11_testAll_144 : decode cX11_testAll 144 = .ok (.iload_n 3, 1) := dc_29 (by decide +kernel)
theorem dX11_testAll_145 : decode cX11_testAll 145 = .ok (.ireturn, 1) := dc_172 (by decide +kernel)
set_option maxRecDepth 100000 in
set_option maxHeartbeats 4000000 in
theorem w_Yard_testAll_j113 {p : Program} {l : Launch} {e : Env} {R : Room} {s : State} {m : MethodId} {args : Array Value} {below : List Frame} {meth : Method} {c : Code} {dC : Nat → ClassId} {dI : Nat → Nat → Nat} {cs : Nat → ClassId} {ad : Nat → Nat} {A : Nat → Prop} {D0 : Nat → Nat} {S' : SS} {r : Int32} (F : Fx p s m args meth c cX11_testAll 7 RX11 (some .int) dC dI cs A) (hR1 : 0 ≤ R.frames) (hR2 : 0 ≤ R.locals) (K36 : Int32 → Int32 → SS → Option (Int32 × SS)) (hK36 : ∀ (v0 : Int32) (v1 : Int32) (S : SS), K36 v0 v1 S = some (r, S') → AW p l e R s m args below meth c dC dI cs ad A D0 (some (.int r)) S' 7 36 [(0, .ref (ad 61)), (3, .int v0), (4, .int v1)] [] S) (x3 : Int32) (x4 : Int32) (S : SS) (h : f_Yard_testAll_j113 K36 x3 x4 S = some (r, S')) : AW p l e R s m args below meth c dC dI cs ad A D0 (some (.int r)) S' 7 113 [(0, .ref (ad 61)), (3, .int x3), (4, .int x4)] [] S := by
  have hx := F.1.1
  have hb := F.1.2.1
  intro H locs ls w hl
  rw [f_Yard_testAll_j113] at h
  refine s_nm h (fun z14 ez14 h => ?_)
  refine lv_iinc (pc := 113) (v := z14) (lv' := [(4, .int z14), (0, .ref (ad 61)), (3, .int x3)]) hx hb dX11_testAll_113 hl (k := 2) rfl (by rw [ez14]; rfl) (by decide) rfl (fun ls hl => ?_)
  refine lv_goto (pc := 116) (tgt := 36) hx hb dX11_testAll_116 (by decide) ?_
  exact hK36 _ _ _ h _ _ _ w (lv_sub hl [1, 2, 0] rfl)
set_option maxRecDepth 100000 in
set_option maxHeartbeats 4000000 in
theorem w_Yard_testAll_L36 {p : Program} {l : Launch} {e : Env} {R : Room} {s : State} {m : MethodId} {args : Array Value} {below : List Frame} {meth : Method} {c : Code} {dC : Nat → ClassId} {dI : Nat → Nat → Nat} {cs : Nat → ClassId} {ad : Nat → Nat} {A : Nat → Prop} {D0 : Nat → Nat} {S' : SS} {r : Int32} (F : Fx p s m args meth c cX11_testAll 7 RX11 (some .int) dC dI cs A) (hR1 : 5 ≤ R.frames) (hR2 : 108 ≤ R.locals) : ∀ (n : Nat) (x3 : Int32) (x4 : Int32) (S : SS), f_Yard_testAll_L36 n x3 x4 S = some (r, S') → AW p l e R s m args below meth c dC dI cs ad A D0 (some (.int r)) S' 7 36 [(0, .ref (ad 61)), (3, .int x3), (4, .int x4)] [] S := by
  have hx := F.1.1
  have hb := F.1.2.1
  intro n
  induction n with
  | zero => intro x3 x4 S h; cases h
  | succ n ih =>
    intro x3 x4 S h H locs ls w hl
    rw [f_Yard_testAll_L36] at h
    refine lv_iload (pc := 36) hx hb dX11_testAll_36 (lv_at hl 2 rfl) ?_
    refine lv_aload_n (pc := 38) hx hb dX11_testAll_38 rfl (lv_at hl 0 rfl) ?_
    refine s_getR (pc := 39) F w 68 ds_61 (j := 6) vc_X11 vi_X11 rfl (by decide) kf_X11_58 dX11_testAll_39 ?_
    refine s_getI (pc := 42) F w ds_68 (j := 4) vc_X10 vi_X10 rfl (by decide) kf_X11_296 dX11_testAll_42 ?_
    refine lv_icmp_ge (pc := 45) (tgt := 119) hx hb dX11_testAll_45 (by decide) (fun q => ?_) (fun q => ?_)
    · have h := ite_t q h
      refine lv_aload_n (pc := 119) hx hb dX11_testAll_119 rfl (lv_at hl 0 rfl) ?_
      refine s_getR (pc := 120) F w 68 ds_61 (j := 6) vc_X11 vi_X11 rfl (by decide) kf_X11_58 dX11_testAll_120 ?_
      refine lv_bipush (pc := 123) (v := 10) hx hb dX11_testAll_123 (by decide) ?_
      refine lv_iload_n (pc := 125) hx hb dX11_testAll_125 rfl (lv_at hl 1 rfl) ?_
      refine lv_aload_n (pc := 126) hx hb dX11_testAll_126 rfl (lv_at hl 0 rfl) ?_
      refine s_getR (pc := 127) F w 68 ds_61 (j := 6) vc_X11 vi_X11 rfl (by decide) kf_X11_58 dX11_testAll_127 ?_
      refine s_getI (pc := 130) F w ds_68 (j := 4) vc_X10 vi_X10 rfl (by decide) kf_X11_296 dX11_testAll_130 ?_
      refine lv_icmp_ne (pc := 133) (tgt := 140) hx hb dX11_testAll_133 (by decide) (fun q => ?_) (fun q => ?_)
      · have h := ite_f q h
        refine lv_iconst (pc := 140) (v := 0) hx hb dX11_testAll_140 (by decide) ?_
        obtain ⟨S4, hc, h⟩ := bndv_t h
        refine s_cvv (pc := 141) [.int (10 : Int32), .int (0 : Int32)] (fun ad => [.ref (ad 68), .int (10 : Int32), .int (0 : Int32)]) F w (m_Trains_setLine _ _ _ _ hc) rfl rfl hl.1 ds_68 vc_X10 rfl ok_X10_setLine rfl kc_X10_setLine kl_X11_329 ki_X10_setLine kv_X10_setLine kn_X10 ⟨Nat.le_trans (by decide) hR1, Nat.le_trans (by decide) hR2⟩ ⟨Nat.zero_le _, Nat.zero_le _⟩ (Nat.le_of_ble_eq_true rfl) dX11_testAll_141 (fun H locs w => ?_)
        refine lv_iload_n (pc := 144) hx hb dX11_testAll_144 rfl (lv_at hl 1 rfl) ?_
        exact s_iret F w h dX11_testAll_145
      · have h := ite_t q h
        refine lv_iconst (pc := 136) (v := 1) hx hb dX11_testAll_136 (by decide) ?_
        refine lv_goto (pc := 137) (tgt := 141) hx hb dX11_testAll_137 (by decide) ?_
        obtain ⟨S5, hc, h⟩ := bndv_t h
        refine s_cvv (pc := 141) [.int (10 : Int32), .int (1 : Int32)] (fun ad => [.ref (ad 68), .int (10 : Int32), .int (1 : Int32)]) F w (m_Trains_setLine _ _ _ _ hc) rfl rfl hl.1 ds_68 vc_X10 rfl ok_X10_setLine rfl kc_X10_setLine kl_X11_329 ki_X10_setLine kv_X10_setLine kn_X10 ⟨Nat.le_trans (by decide) hR1, Nat.le_trans (by decide) hR2⟩ ⟨Nat.zero_le _, Nat.zero_le _⟩ (Nat.le_of_ble_eq_true rfl) dX11_testAll_141 (fun H locs w => ?_)
        refine lv_iload_n (pc := 144) hx hb dX11_testAll_144 rfl (lv_at hl 1 rfl) ?_
        exact s_iret F w h dX11_testAll_145
    · have h := ite_f q h
      refine lv_aload_n (pc := 48) hx hb dX11_testAll_48 rfl (lv_at hl 0 rfl) ?_
      refine s_getR (pc := 49) F w 69 ds_61 (j := 7) vc_X11 vi_X11 rfl (by decide) kf_X11_67 dX11_testAll_49 ?_
      refine lv_aload_n (pc := 52) hx hb dX11_testAll_52 rfl (lv_at hl 0 rfl) ?_
      refine s_getR (pc := 53) F w 68 ds_61 (j := 6) vc_X11 vi_X11 rfl (by decide) kf_X11_58 dX11_testAll_53 ?_
      refine lv_iload (pc := 56) hx hb dX11_testAll_56 (lv_at hl 2 rfl) ?_
      obtain ⟨r7, S6, hc, h⟩ := bnd_t h
      refine s_cvi (pc := 58) [.int x4] (fun ad => [.ref (ad 68), .int x4]) F w (m_Trains_inLine _ _ _ _ hc) rfl rfl hl.1 ds_68 vc_X10 rfl ok_X10_inLine rfl kc_X10_inLine kl_X11_299 ki_X10_inLine kv_X10_inLine kn_X10 ⟨Nat.le_trans (by decide) hR1, Nat.le_trans (by decide) hR2⟩ ⟨Nat.zero_le _, Nat.zero_le _⟩ (Nat.le_of_ble_eq_true rfl) dX11_testAll_58 (fun H locs w => ?_)
      obtain ⟨r9, S8, hc, h⟩ := bnd_t h
      refine s_cvi (pc := 61) [.int r7] (fun ad => [.ref (ad 69), .int r7]) F w (m_Bodies_brake _ _ _ _ hc) rfl rfl hl.1 ds_69 vc_X0 rfl ok_X0_brake rfl kc_X0_brake kl_X11_323 ki_X0_brake kv_X0_brake kn_X0 ⟨Nat.le_trans (by decide) hR1, Nat.le_trans (by decide) hR2⟩ ⟨Nat.zero_le _, Nat.zero_le _⟩ (Nat.le_of_ble_eq_true rfl) dX11_testAll_61 (fun H locs w => ?_)
      refine lv_istore (pc := 64) (lv' := [(5, .int r9), (0, .ref (ad 61)), (3, .int x3), (4, .int x4)]) hx hb dX11_testAll_64 hl (by decide) rfl (fun ls hl => ?_)
      refine lv_aload_n (pc := 66) hx hb dX11_testAll_66 rfl (lv_at hl 1 rfl) ?_
      refine s_getR (pc := 67) F w 69 ds_61 (j := 7) vc_X11 vi_X11 rfl (by decide) kf_X11_67 dX11_testAll_67 ?_
      refine lv_aload_n (pc := 70) hx hb dX11_testAll_70 rfl (lv_at hl 1 rfl) ?_
      refine s_getR (pc := 71) F w 68 ds_61 (j := 6) vc_X11 vi_X11 rfl (by decide) kf_X11_58 dX11_testAll_71 ?_
      refine lv_iload (pc := 74) hx hb dX11_testAll_74 (lv_at hl 3 rfl) ?_
      obtain ⟨r11, S10, hc, h⟩ := bnd_t h
      refine s_cvi (pc := 76) [.int x4] (fun ad => [.ref (ad 68), .int x4]) F w (m_Trains_inLine _ _ _ _ hc) rfl rfl hl.1 ds_68 vc_X10 rfl ok_X10_inLine rfl kc_X10_inLine kl_X11_299 ki_X10_inLine kv_X10_inLine kn_X10 ⟨Nat.le_trans (by decide) hR1, Nat.le_trans (by decide) hR2⟩ ⟨Nat.zero_le _, Nat.zero_le _⟩ (Nat.le_of_ble_eq_true rfl) dX11_testAll_76 (fun H locs w => ?_)
      obtain ⟨r13, S12, hc, h⟩ := bnd_t h
      refine s_cvi (pc := 79) [.int r11] (fun ad => [.ref (ad 69), .int r11]) F w (m_Bodies_perAxle _ _ _ _ hc) rfl rfl hl.1 ds_69 vc_X0 rfl ok_X0_perAxle rfl kc_X0_perAxle kl_X11_326 ki_X0_perAxle kv_X0_perAxle kn_X0 ⟨Nat.le_trans (by decide) hR1, Nat.le_trans (by decide) hR2⟩ ⟨Nat.zero_le _, Nat.zero_le _⟩ (Nat.le_of_ble_eq_true rfl) dX11_testAll_79 (fun H locs w => ?_)
      refine lv_istore (pc := 82) (lv' := [(6, .int r13), (5, .int r9), (0, .ref (ad 61)), (3, .int x3), (4, .int x4)]) hx hb dX11_testAll_82 hl (by decide) rfl (fun ls hl => ?_)
      refine lv_iload (pc := 84) hx hb dX11_testAll_84 (lv_at hl 0 rfl) ?_
      refine lv_bipush (pc := 86) (v := -4) hx hb dX11_testAll_86 (by decide) ?_
      refine lv_icmp_ne (pc := 88) (tgt := 101) hx hb dX11_testAll_88 (by decide) (fun q => ?_) (fun q => ?_)
      · have h := ite_f q h
        refine lv_iconst (pc := 101) (v := 2) hx hb dX11_testAll_101 (by decide) ?_
        refine lv_iload (pc := 102) hx hb dX11_testAll_102 (lv_at hl 1 rfl) ?_
        refine lv_imul (pc := 104) hx hb dX11_testAll_104 ?_
        refine lv_iload (pc := 105) hx hb dX11_testAll_105 (lv_at hl 0 rfl) ?_
        refine lv_icmp_lt (pc := 107) (tgt := 113) hx hb dX11_testAll_107 (by decide) (fun q => ?_) (fun q => ?_)
        · have h := ite_t q h
          exact w_Yard_testAll_j113 F (Nat.le_trans (by decide) hR1) (Nat.le_trans (by decide) hR2) _ (fun v0 v1 S h => ih v0 v1 S h) _ _ _ h _ _ _ w (lv_sub hl [2, 3, 4] rfl)
        · have h := ite_f q h
          refine s_nm h (fun z15 ez15 h => ?_)
          refine lv_iinc (pc := 110) (v := z15) (lv' := [(3, .int z15), (6, .int r13), (5, .int r9), (0, .ref (ad 61)), (4, .int x4)]) hx hb dX11_testAll_110 hl (k := 3) rfl (by rw [ez15]; rfl) (by decide) rfl (fun ls hl => ?_)
          exact w_Yard_testAll_j113 F (Nat.le_trans (by decide) hR1) (Nat.le_trans (by decide) hR2) _ (fun v0 v1 S h => ih v0 v1 S h) _ _ _ h _ _ _ w (lv_sub hl [3, 0, 4] rfl)
      · have h := ite_t q h
        refine lv_aload_n (pc := 91) hx hb dX11_testAll_91 rfl (lv_at hl 2 rfl) ?_
        refine s_getR (pc := 92) F w 62 ds_61 (j := 0) vc_X11 vi_X11 rfl (by decide) kf_X11_10 dX11_testAll_92 ?_
        refine lv_bipush (pc := 95) (v := 6) hx hb dX11_testAll_95 (by decide) ?_
        obtain ⟨r17, S16, hc, h⟩ := bnd_t h
        refine s_cvi (pc := 97) [.int (6 : Int32)] (fun ad => [.ref (ad 62), .int (6 : Int32)]) F w (m_Report_found _ _ _ _ hc) rfl rfl hl.1 ds_62 vc_X5 rfl ok_X5_found rfl kc_X5_found kl_X11_98 ki_X5_found kv_X5_found kn_X5 ⟨Nat.le_trans (by decide) hR1, Nat.le_trans (by decide) hR2⟩ ⟨Nat.zero_le _, Nat.zero_le _⟩ (Nat.le_of_ble_eq_true rfl) dX11_testAll_97 (fun H locs w => ?_)
        exact s_iret F w h dX11_testAll_100
set_option maxRecDepth 100000 in
set_option maxHeartbeats 4000000 in
theorem m_Yard_testAll (a1 : Int32) (S S' : SS) (r : Int32) (h : f_Yard_testAll a1 S = some (r, S')) : MT yX11_testAll cX11_testAll 7 (some .int) 5 108 (fun ad => [.ref (ad 61), .int a1]) S (some (.int r)) S' := by
  refine MT.of RX11 (fun ad => [(0, .ref (ad 61)), (1, .int a1)]) (by decide) rfl (fun _ => Nat.le_of_ble_eq_true rfl) (fun _ => rfl) ?_
  intro p l e R s m args below meth c dC dI cs ad A hR1 hR2 F H locs ls w hl
  have hx := F.1.1
  have hb := F.1.2.1
  rw [f_Yard_testAll] at h
  refine lv_aload_n (pc := 0) hx hb dX11_testAll_0 rfl (lv_at hl 0 rfl) ?_
  refine lv_iload_n (pc := 1) hx hb dX11_testAll_1 rfl (lv_at hl 1 rfl) ?_
  refine lv_bipush (pc := 2) (v := 127) hx hb dX11_testAll_2 (by decide) ?_
  obtain ⟨r2, S1, hc, h⟩ := bnd_t h
  refine s_cvi (pc := 4) [.int a1, .int (127 : Int32)] (fun ad => [.ref (ad 61), .int a1, .int (127 : Int32)]) F w (m_Yard_named _ _ _ _ _ hc) rfl rfl hl.1 ds_61 vc_X11 rfl ok_X11_named rfl kc_X11_named kl_X11_185 ki_X11_named kv_X11_named kn_X11 ⟨Nat.le_trans (by decide) hR1, Nat.le_trans (by decide) hR2⟩ ⟨Nat.zero_le _, Nat.zero_le _⟩ (Nat.le_of_ble_eq_true rfl) dX11_testAll_4 (fun H locs w => ?_)
  refine lv_istore_n (pc := 7) (lv' := [(2, .int r2), (0, .ref (ad 61)), (1, .int a1)]) hx hb dX11_testAll_7 rfl hl (by decide) rfl (fun ls hl => ?_)
  refine lv_iload_n (pc := 8) hx hb dX11_testAll_8 rfl (lv_at hl 0 rfl) ?_
  refine lv_if_eq (pc := 9) (tgt := 21) hx hb dX11_testAll_9 (by decide) (fun q => ?_) (fun q => ?_)
  · have h := ite_t q h
    refine lv_aload_n (pc := 21) hx hb dX11_testAll_21 rfl (lv_at hl 1 rfl) ?_
    refine s_getR (pc := 22) F w 68 ds_61 (j := 6) vc_X11 vi_X11 rfl (by decide) kf_X11_58 dX11_testAll_22 ?_
    refine lv_iconst (pc := 25) (v := 2) hx hb dX11_testAll_25 (by decide) ?_
    refine lv_iload_n (pc := 26) hx hb dX11_testAll_26 rfl (lv_at hl 2 rfl) ?_
    refine lv_imul (pc := 27) hx hb dX11_testAll_27 ?_
    obtain ⟨S3, hc, h⟩ := bndv_t h
    refine s_cvv (pc := 28) [.int ((2 : Int32) * a1)] (fun ad => [.ref (ad 68), .int ((2 : Int32) * a1)]) F w (m_Trains_lineUp _ _ _ hc) rfl rfl hl.1 ds_68 vc_X10 rfl ok_X10_lineUp rfl kc_X10_lineUp kl_X11_281 ki_X10_lineUp kv_X10_lineUp kn_X10 ⟨Nat.le_trans (by decide) hR1, Nat.le_trans (by decide) hR2⟩ ⟨Nat.zero_le _, Nat.zero_le _⟩ (Nat.le_of_ble_eq_true rfl) dX11_testAll_28 (fun H locs w => ?_)
    refine lv_iconst (pc := 31) (v := 0) hx hb dX11_testAll_31 (by decide) ?_
    refine lv_istore_n (pc := 32) (lv' := [(3, .int (0 : Int32)), (2, .int r2), (0, .ref (ad 61)), (1, .int a1)]) hx hb dX11_testAll_32 rfl hl (by decide) rfl (fun ls hl => ?_)
    refine lv_iconst (pc := 33) (v := 0) hx hb dX11_testAll_33 (by decide) ?_
    refine lv_istore (pc := 34) (lv' := [(4, .int (0 : Int32)), (3, .int (0 : Int32)), (2, .int r2), (0, .ref (ad 61)), (1, .int a1)]) hx hb dX11_testAll_34 hl (by decide) rfl (fun ls hl => ?_)
    exact w_Yard_testAll_L36 F (Nat.le_trans (by decide) hR1) (Nat.le_trans (by decide) hR2) _ _ _ _ h _ _ _ w (lv_sub hl [3, 1, 0] rfl)
  · have h := ite_f q h
    refine lv_aload_n (pc := 12) hx hb dX11_testAll_12 rfl (lv_at hl 1 rfl) ?_
    refine s_getR (pc := 13) F w 62 ds_61 (j := 0) vc_X11 vi_X11 rfl (by decide) kf_X11_10 dX11_testAll_13 ?_
    refine lv_iload_n (pc := 16) hx hb dX11_testAll_16 rfl (lv_at hl 0 rfl) ?_
    obtain ⟨r19, S18, hc, h⟩ := bnd_t h
    refine s_cvi (pc := 17) [.int r2] (fun ad => [.ref (ad 62), .int r2]) F w (m_Report_found _ _ _ _ hc) rfl rfl hl.1 ds_62 vc_X5 rfl ok_X5_found rfl kc_X5_found kl_X11_98 ki_X5_found kv_X5_found kn_X5 ⟨Nat.le_trans (by decide) hR1, Nat.le_trans (by decide) hR2⟩ ⟨Nat.zero_le _, Nat.zero_le _⟩ (Nat.le_of_ble_eq_true rfl) dX11_testAll_17 (fun H locs w => ?_)
    exact s_iret F w h dX11_testAll_20
def f_Yard_test (a1 : Int32) (S : SS) : Option (Int32 × SS) :=
  bndv (f_Yard_beginAct  S) (fun S1 =>
  bnd (f_Yard_testAll a1 S1) (fun r3 S2 =>
  bnd (f_Yard_endAct (11 : Int32) r3 S2) (fun r5 S4 =>
  some (r5, S4))))
theorem dX11_test_0 : decode cX11_test 0 = .ok (.aload_n 0, 1) := dc_42 (by decide +kernel)
theorem dX11_test_1 : decode cX11_test 1 = .ok (.invokevirtual 199, 3) := dc_182 (a := 0) (b := 199) (by decide +kernel)
theorem dX11_test_4 : decode cX11_test 4 = .ok (.aload_n 0, 1) := dc_42 (by decide +kernel)
theorem dX11_test_5 : decode cX11_test 5 = .ok (.bipush 11, 2) := dc_16 (a := 11) (by decide +kernel) (by decide)
theorem dX11_test_7 : decode cX11_test 7 = .ok (.aload_n 0, 1) := dc_42 (by decide +kernel)
theorem dX11_test_8 : decode cX11_test 8 = .ok (.iload_n 1, 1) := dc_27 (by decide +kernel)
theorem dX11_test_9 : decode cX11_test 9 = .ok (.invokevirtual 238, 3) := dc_182 (a := 0) (b := 238) (by decide +kernel)
theorem dX11_test_12 : decode cX11_test 12 = .ok (.invokevirtual 205, 3) := dc_182 (a := 0) (b := 205) (by decide +kernel)
theorem dX11_test_15 : decode cX11_test 15 = .ok (.ireturn, 1) := dc_172 (by decide +kernel)
set_option maxRecDepth 100000 in
set_option maxHeartbeats 4000000 in
theorem m_Yard_test (a1 : Int32) (S S' : SS) (r : Int32) (h : f_Yard_test a1 S = some (r, S')) : MT yX11_test cX11_test 2 (some .int) 6 134 (fun ad => [.ref (ad 61), .int a1]) S (some (.int r)) S' := by
  refine MT.of RX11 (fun ad => [(0, .ref (ad 61)), (1, .int a1)]) (by decide) rfl (fun _ => Nat.le_of_ble_eq_true rfl) (fun _ => rfl) ?_
  intro p l e R s m args below meth c dC dI cs ad A hR1 hR2 F H locs ls w hl
  have hx := F.1.1
  have hb := F.1.2.1
  rw [f_Yard_test] at h
  refine lv_aload_n (pc := 0) hx hb dX11_test_0 rfl (lv_at hl 0 rfl) ?_
  obtain ⟨S1, hc, h⟩ := bndv_t h
  refine s_cvv (pc := 1) [] (fun ad => [.ref (ad 61)]) F w (m_Yard_beginAct  _ _ hc) rfl rfl hl.1 ds_61 vc_X11 rfl ok_X11_beginAct rfl kc_X11_beginAct kl_X11_199 ki_X11_beginAct kv_X11_beginAct kn_X11 ⟨Nat.le_trans (by decide) hR1, Nat.le_trans (by decide) hR2⟩ ⟨Nat.zero_le _, Nat.zero_le _⟩ (Nat.le_of_ble_eq_true rfl) dX11_test_1 (fun H locs w => ?_)
  refine lv_aload_n (pc := 4) hx hb dX11_test_4 rfl (lv_at hl 0 rfl) ?_
  refine lv_bipush (pc := 5) (v := 11) hx hb dX11_test_5 (by decide) ?_
  refine lv_aload_n (pc := 7) hx hb dX11_test_7 rfl (lv_at hl 0 rfl) ?_
  refine lv_iload_n (pc := 8) hx hb dX11_test_8 rfl (lv_at hl 1 rfl) ?_
  obtain ⟨r3, S2, hc, h⟩ := bnd_t h
  refine s_cvi (pc := 9) [.int a1] (fun ad => [.ref (ad 61), .int a1]) F w (m_Yard_testAll _ _ _ _ hc) rfl rfl hl.1 ds_61 vc_X11 rfl ok_X11_testAll rfl kc_X11_testAll kl_X11_238 ki_X11_testAll kv_X11_testAll kn_X11 ⟨Nat.le_trans (by decide) hR1, Nat.le_trans (by decide) hR2⟩ ⟨Nat.zero_le _, Nat.zero_le _⟩ (Nat.le_of_ble_eq_true rfl) dX11_test_9 (fun H locs w => ?_)
  obtain ⟨r5, S4, hc, h⟩ := bnd_t h
  refine s_cvi (pc := 12) [.int (11 : Int32), .int r3] (fun ad => [.ref (ad 61), .int (11 : Int32), .int r3]) F w (m_Yard_endAct _ _ _ _ _ hc) rfl rfl hl.1 ds_61 vc_X11 rfl ok_X11_endAct rfl kc_X11_endAct kl_X11_205 ki_X11_endAct kv_X11_endAct kn_X11 ⟨Nat.le_trans (by decide) hR1, Nat.le_trans (by decide) hR2⟩ ⟨Nat.zero_le _, Nat.zero_le _⟩ (Nat.le_of_ble_eq_true rfl) dX11_test_12 (fun H locs w => ?_)
  exact s_iret F w h dX11_test_15
def f_Layout_isWayOut (a1 : Int32) (a2 : Int32) (S : SS) : Option (Int32 × SS) :=
  bnd (f_Layout_endNextTo a1 a2 S) (fun r2 S1 =>
  bnd (f_Layout_isEnd r2 S1) (fun r4 S3 =>
  if r4 = 0 then
    some ((0 : Int32), S3)
  else
    grd (inb r2 48) (
    if (S3.1 98 r2.toNatClampNeg) = 0 then
      some ((0 : Int32), S3)
    else
      some ((1 : Int32), S3))))
theorem dX2_isWayOut_0 : decode cX2_isWayOut 0 = .ok (.aload_n 0, 1) := dc_42 (by decide +kernel)
theorem dX2_isWayOut_1 : decode cX2_isWayOut 1 = .ok (.iload_n 1, 1) := dc_27 (by decide +kernel)
theorem dX2_isWayOut_2 : decode cX2_isWayOut 2 = .ok (.iload_n 2, 1) := dc_28 (by decide +kernel)
theorem dX2_isWayOut_3 : decode cX2_isWayOut 3 = .ok (.invokevirtual 85, 3) := dc_182 (a := 0) (b := 85) (by decide +kernel)
theorem dX2_isWayOut_6 : decode cX2_isWayOut 6 = .ok (.istore_n 3, 1) := dc_62 (by decide +kernel)
theorem dX2_isWayOut_7 : decode cX2_isWayOut 7 = .ok (.iload_n 3, 1) := dc_29 (by decide +kernel)
theorem dX2_isWayOut_8 : decode cX2_isWayOut 8 = .ok (.invokestatic 48, 3) := dc_184 (a := 0) (b := 48) (by decide +kernel)
theorem dX2_isWayOut_11 : decode cX2_isWayOut 11 = .ok (.ifCond .eq 16, 3) := dc_153 (a := 0) (b := 16) (by decide +kernel) (by decide)
theorem dX2_isWayOut_14 : decode cX2_isWayOut 14 = .ok (.aload_n 0, 1) := dc_42 (by decide +kernel)
theorem dX2_isWayOut_15 : decode cX2_isWayOut 15 = .ok (.getfield 27, 3) := dc_180 (a := 0) (b := 27) (by decide +kernel)
theorem dX2_isWayOut_18 : decode cX2_isWayOut 18 = .ok (.iload_n 3, 1) := dc_29 (by decide +kernel)
theorem dX2_isWayOut_19 : decode cX2_isWayOut 19 = .ok (.baload, 1) := dc_51 (by decide +kernel)
theorem dX2_isWayOut_20 : decode cX2_isWayOut 20 = .ok (.ifCond .eq 7, 3) := dc_153 (a := 0) (b := 7) (by decide +kernel) (by decide)
theorem dX2_isWayOut_23 : decode cX2_isWayOut 23 = .ok (.iconst 1, 1) := dc_4 (by decide +kernel)
theorem dX2_isWayOut_24 : decode cX2_isWayOut 24 = .ok (.goto 4, 3) := dc_167 (a := 0) (b := 4) (by decide +kernel) (by decide)
theorem dX2_isWayOut_27 : decode cX2_isWayOut 27 = .ok (.iconst 0, 1) := dc_3 (by decide +kernel)
theorem dX2_isWayOut_28 : decode cX2_isWayOut 28 = .ok (.ireturn, 1) := dc_172 (by decide +kernel)
set_option maxRecDepth 100000 in
set_option maxHeartbeats 4000000 in
theorem m_Layout_isWayOut (a1 : Int32) (a2 : Int32) (S S' : SS) (r : Int32) (h : f_Layout_isWayOut a1 a2 S = some (r, S')) : MT yX2_isWayOut cX2_isWayOut 4 (some .boolean) 2 45 (fun ad => [.ref (ad 66), .int a1, .int a2]) S (some (.int r)) S' := by
  refine MT.of RX2 (fun ad => [(0, .ref (ad 66)), (1, .int a1), (2, .int a2)]) (by decide) rfl (fun _ => Nat.le_of_ble_eq_true rfl) (fun _ => rfl) ?_
  intro p l e R s m args below meth c dC dI cs ad A hR1 hR2 F H locs ls w hl
  have hx := F.1.1
  have hb := F.1.2.1
  rw [f_Layout_isWayOut] at h
  refine lv_aload_n (pc := 0) hx hb dX2_isWayOut_0 rfl (lv_at hl 0 rfl) ?_
  refine lv_iload_n (pc := 1) hx hb dX2_isWayOut_1 rfl (lv_at hl 1 rfl) ?_
  refine lv_iload_n (pc := 2) hx hb dX2_isWayOut_2 rfl (lv_at hl 2 rfl) ?_
  obtain ⟨r2, S1, hc, h⟩ := bnd_t h
  refine s_cvi (pc := 3) [.int a1, .int a2] (fun ad => [.ref (ad 66), .int a1, .int a2]) F w (m_Layout_endNextTo _ _ _ _ _ hc) rfl rfl hl.1 ds_66 vc_X2 rfl ok_X2_endNextTo rfl kc_X2_endNextTo kl_X2_85 ki_X2_endNextTo kv_X2_endNextTo kn_X2 ⟨Nat.le_trans (by decide) hR1, Nat.le_trans (by decide) hR2⟩ ⟨Nat.zero_le _, Nat.zero_le _⟩ (Nat.le_of_ble_eq_true rfl) dX2_isWayOut_3 (fun H locs w => ?_)
  refine lv_istore_n (pc := 6) (lv' := [(3, .int r2), (0, .ref (ad 66)), (1, .int a1), (2, .int a2)]) hx hb dX2_isWayOut_6 rfl hl (by decide) rfl (fun ls hl => ?_)
  refine lv_iload_n (pc := 7) hx hb dX2_isWayOut_7 rfl (lv_at hl 0 rfl) ?_
  obtain ⟨r4, S3, hc, h⟩ := bnd_t h
  refine s_csi (pc := 8) [.int r2] (fun ad => [.int r2]) F w (m_Layout_isEnd _ _ _ _ hc) rfl rfl hl.1 ok_X2_isEnd rfl kc_X2_isEnd kl_X2_48 ks_X2_isEnd kn_X2 ⟨Nat.le_trans (by decide) hR1, Nat.le_trans (by decide) hR2⟩ ⟨Nat.zero_le _, Nat.zero_le _⟩ (Nat.le_of_ble_eq_true rfl) dX2_isWayOut_8 (fun H locs w => ?_)
  refine lv_if_eq (pc := 11) (tgt := 27) hx hb dX2_isWayOut_11 (by decide) (fun q => ?_) (fun q => ?_)
  · have h := ite_t q h
    refine lv_iconst (pc := 27) (v := 0) hx hb dX2_isWayOut_27 (by decide) ?_
    exact s_zretc F w rfl h dX2_isWayOut_28
  · have h := ite_f q h
    refine lv_aload_n (pc := 14) hx hb dX2_isWayOut_14 rfl (lv_at hl 1 rfl) ?_
    refine s_getR (pc := 15) F w 98 ds_66 (j := 6) vc_X2 vi_X2 rfl (by decide) kf_X2_27 dX2_isWayOut_15 ?_
    refine lv_iload_n (pc := 18) hx hb dX2_isWayOut_18 rfl (lv_at hl 0 rfl) ?_
    refine s_zald (pc := 19) F w ds_98 h dX2_isWayOut_19 (fun h => ?_)
    refine lv_if_eq (pc := 20) (tgt := 27) hx hb dX2_isWayOut_20 (by decide) (fun q => ?_) (fun q => ?_)
    · have h := ite_t q h
      refine lv_iconst (pc := 27) (v := 0) hx hb dX2_isWayOut_27 (by decide) ?_
      exact s_zretc F w rfl h dX2_isWayOut_28
    · have h := ite_f q h
      refine lv_iconst (pc := 23) (v := 1) hx hb dX2_isWayOut_23 (by decide) ?_
      refine lv_goto (pc := 24) (tgt := 28) hx hb dX2_isWayOut_24 (by decide) ?_
      exact s_zretc F w rfl h dX2_isWayOut_28
def f_Trains_looksOut (a1 : Int32) (S : SS) : Option (Int32 × SS) :=
  bnd (f_State_get (a1 >>> ((1 : Int32) &&& 31)) (0 : Int32) S) (fun r2 S1 =>
  bnd (f_State_looks a1 S1) (fun r4 S3 =>
  bnd (f_Layout_isWayOut r2 r4 S3) (fun r6 S5 =>
  grd (isB r6) (some (r6, S5)))))
theorem dX10_looksOut_0 : decode cX10_looksOut 0 = .ok (.aload_n 0, 1) := dc_42 (by decide +kernel)
theorem dX10_looksOut_1 : decode cX10_looksOut 1 = .ok (.getfield 28, 3) := dc_180 (a := 0) (b := 28) (by decide +kernel)
theorem dX10_looksOut_4 : decode cX10_looksOut 4 = .ok (.aload_n 0, 1) := dc_42 (by decide +kernel)
theorem dX10_looksOut_5 : decode cX10_looksOut 5 = .ok (.getfield 24, 3) := dc_180 (a := 0) (b := 24) (by decide +kernel)
theorem dX10_looksOut_8 : decode cX10_looksOut 8 = .ok (.iload_n 1, 1) := dc_27 (by decide +kernel)
theorem dX10_looksOut_9 : decode cX10_looksOut 9 = .ok (.iconst 1, 1) := dc_4 (by decide +kernel)
theorem dX10_looksOut_10 : decode cX10_looksOut 10 = .ok (.ishr, 1) := dc_122 (by decide +kernel)
theorem dX10_looksOut_11 : decode cX10_looksOut 11 = .ok (.iconst 0, 1) := dc_3 (by decide +kernel)
theorem dX10_looksOut_12 : decode cX10_looksOut 12 = .ok (.invokevirtual 36, 3) := dc_182 (a := 0) (b := 36) (by decide +kernel)
theorem dX10_looksOut_15 : decode cX10_looksOut 15 = .ok (.aload_n 0, 1) := dc_42 (by decide +kernel)
theorem dX10_looksOut_16 : decode cX10_looksOut 16 = .ok (.getfield 24, 3) := dc_180 (a := 0) (b := 24) (by decide +kernel)
theorem dX10_looksOut_19 : decode cX10_looksOut 19 = .ok (.iload_n 1, 1) := dc_27 (by decide +kernel)
theorem dX10_looksOut_20 : decode cX10_looksOut 20 = .ok (.invokevirtual 54, 3) := dc_182 (a := 0) (b := 54) (by decide +kernel)
theorem dX10_looksOut_23 : decode cX10_looksOut 23 = .ok (.invokevirtual 119, 3) := dc_182 (a := 0) (b := 119) (by decide +kernel)
theorem dX10_looksOut_26 : decode cX10_looksOut 26 = .ok (.ireturn, 1) := dc_172 (by decide +kernel)
set_option maxRecDepth 100000 in
set_option maxHeartbeats 4000000 in
theorem m_Trains_looksOut (a1 : Int32) (S S' : SS) (r : Int32) (h : f_Trains_looksOut a1 S = some (r, S')) : MT yX10_looksOut cX10_looksOut 2 (some .boolean) 3 68 (fun ad => [.ref (ad 68), .int a1]) S (some (.int r)) S' := by
  refine MT.of RX10 (fun ad => [(0, .ref (ad 68)), (1, .int a1)]) (by decide) rfl (fun _ => Nat.le_of_ble_eq_true rfl) (fun _ => rfl) ?_
  intro p l e R s m args below meth c dC dI cs ad A hR1 hR2 F H locs ls w hl
  have hx := F.1.1
  have hb := F.1.2.1
  rw [f_Trains_looksOut] at h
  refine lv_aload_n (pc := 0) hx hb dX10_looksOut_0 rfl (lv_at hl 0 rfl) ?_
  refine s_getR (pc := 1) F w 66 ds_68 (j := 1) vc_X10 vi_X10 rfl (by decide) kf_X10_28 dX10_looksOut_1 ?_
  refine lv_aload_n (pc := 4) hx hb dX10_looksOut_4 rfl (lv_at hl 0 rfl) ?_
  refine s_getR (pc := 5) F w 63 ds_68 (j := 0) vc_X10 vi_X10 rfl (by decide) kf_X10_24 dX10_looksOut_5 ?_
  refine lv_iload_n (pc := 8) hx hb dX10_looksOut_8 rfl (lv_at hl 1 rfl) ?_
  refine lv_iconst (pc := 9) (v := 1) hx hb dX10_looksOut_9 (by decide) ?_
  refine lv_ishr (pc := 10) hx hb dX10_looksOut_10 ?_
  refine lv_iconst (pc := 11) (v := 0) hx hb dX10_looksOut_11 (by decide) ?_
  obtain ⟨r2, S1, hc, h⟩ := bnd_t h
  refine s_cvi (pc := 12) [.int (a1 >>> ((1 : Int32) &&& 31)), .int (0 : Int32)] (fun ad => [.ref (ad 63), .int (a1 >>> ((1 : Int32) &&& 31)), .int (0 : Int32)]) F w (m_State_get _ _ _ _ _ hc) rfl rfl hl.1 ds_63 vc_X8 rfl ok_X8_get rfl kc_X8_get kl_X10_36 ki_X8_get kv_X8_get kn_X8 ⟨Nat.le_trans (by decide) hR1, Nat.le_trans (by decide) hR2⟩ ⟨Nat.zero_le _, Nat.zero_le _⟩ (Nat.le_of_ble_eq_true rfl) dX10_looksOut_12 (fun H locs w => ?_)
  refine lv_aload_n (pc := 15) hx hb dX10_looksOut_15 rfl (lv_at hl 0 rfl) ?_
  refine s_getR (pc := 16) F w 63 ds_68 (j := 0) vc_X10 vi_X10 rfl (by decide) kf_X10_24 dX10_looksOut_16 ?_
  refine lv_iload_n (pc := 19) hx hb dX10_looksOut_19 rfl (lv_at hl 1 rfl) ?_
  obtain ⟨r4, S3, hc, h⟩ := bnd_t h
  refine s_cvi (pc := 20) [.int a1] (fun ad => [.ref (ad 63), .int a1]) F w (m_State_looks _ _ _ _ hc) rfl rfl hl.1 ds_63 vc_X8 rfl ok_X8_looks rfl kc_X8_looks kl_X10_54 ki_X8_looks kv_X8_looks kn_X8 ⟨Nat.le_trans (by decide) hR1, Nat.le_trans (by decide) hR2⟩ ⟨Nat.zero_le _, Nat.zero_le _⟩ (Nat.le_of_ble_eq_true rfl) dX10_looksOut_20 (fun H locs w => ?_)
  obtain ⟨r6, S5, hc, h⟩ := bnd_t h
  refine s_cvi (pc := 23) [.int r2, .int r4] (fun ad => [.ref (ad 66), .int r2, .int r4]) F w (m_Layout_isWayOut _ _ _ _ _ hc) rfl rfl hl.1 ds_66 vc_X2 rfl ok_X2_isWayOut rfl kc_X2_isWayOut kl_X10_119 ki_X2_isWayOut kv_X2_isWayOut kn_X2 ⟨Nat.le_trans (by decide) hR1, Nat.le_trans (by decide) hR2⟩ ⟨Nat.zero_le _, Nat.zero_le _⟩ (Nat.le_of_ble_eq_true rfl) dX10_looksOut_23 (fun H locs w => ?_)
  exact s_zret F w h dX10_looksOut_26
def f_Trains_leaveFinding_L2  : Nat → Int32 → SS → Option (Int32 × SS)
  | 0, _, _ => none
  | n + 1, x1, S =>
    if (S.1 68 4) ≤ x1 then
      bnd (f_Trains_hookInLine (0 : Int32) S) (fun r2 S1 =>
      bnd (f_Trains_looksOut r2 S1) (fun r4 S3 =>
      if r4 = 0 then
        bnd (f_Trains_hookInLine ((S3.1 68 4) - (1 : Int32)) S3) (fun r6 S5 =>
        bnd (f_Trains_looksOut (r6 ^^^ (1 : Int32)) S5) (fun r8 S7 =>
        if r8 = 0 then
          some ((10 : Int32), S7)
        else
          some ((0 : Int32), S7)))
      else
        some ((0 : Int32), S3)))
    else
      bnd (f_Trains_inLine x1 S) (fun r10 S9 =>
      bnd (f_State_get r10 (10 : Int32) S9) (fun r12 S11 =>
      if r12 = 0 then
        some ((17 : Int32), S11)
      else
        nm (x1 + (1 : Int32)) (fun z13 =>
        f_Trains_leaveFinding_L2 n z13 S11)))
def f_Trains_leaveFinding  (S : SS) : Option (Int32 × SS) :=
  f_Trains_leaveFinding_L2 NF (0 : Int32) S
theorem dX10_leaveFinding_0 : decode cX10_leaveFinding 0 = .ok (.iconst 0, 1) := dc_3 (by decide +kernel)
theorem dX10_leaveFinding_1 : decode cX10_leaveFinding 1 = .ok (.istore_n 1, 1) := dc_60 (by decide +kernel)
theorem dX10_leaveFinding_2 : decode cX10_leaveFinding 2 = .ok (.iload_n 1, 1) := dc_27 (by decide +kernel)
theorem dX10_leaveFinding_3 : decode cX10_leaveFinding 3 = .ok (.aload_n 0, 1) := dc_42 (by decide +kernel)
theorem dX10_leaveFinding_4 : decode cX10_leaveFinding 4 = .ok (.getfield 17, 3) := dc_180 (a := 0) (b := 17) (by decide +kernel)
theorem dX10_leaveFinding_7 : decode cX10_leaveFinding 7 = .ok (.if_icmp .ge 29, 3) := dc_162 (a := 0) (b := 29) (by decide +kernel) (by decide)
theorem dX10_leaveFinding_10 : decode cX10_leaveFinding 10 = .ok (.aload_n 0, 1) := dc_42 (by decide +kernel)
theorem dX10_leaveFinding_11 : decode cX10_leaveFinding 11 = .ok (.getfield 24, 3) := dc_180 (a := 0) (b := 24) (by decide +kernel)
theorem dX10_leaveFinding_14 : decode cX10_leaveFinding 14 = .ok (.aload_n 0, 1) := dc_42 (by decide +kernel)
theorem dX10_leaveFinding_15 : decode cX10_leaveFinding 15 = .ok (.iload_n 1, 1) := dc_27 (by decide +kernel)
theorem dX10_leaveFinding_16 : decode cX10_leaveFinding 16 = .ok (.invokevirtual 47, 3) := dc_182 (a := 0) (b := 47) (by decide +kernel)
theorem dX10_leaveFinding_19 : decode cX10_leaveFinding 19 = .ok (.bipush 10, 2) := dc_16 (a := 10) (by decide +kernel) (by decide)
theorem dX10_leaveFinding_21 : decode cX10_leaveFinding 21 = .ok (.invokevirtual 36, 3) := dc_182 (a := 0) (b := 36) (by decide +kernel)
theorem dX10_leaveFinding_24 : decode cX10_leaveFinding 24 = .ok (.ifCond .ne 6, 3) := dc_154 (a := 0) (b := 6) (by decide +kernel) (by decide)
theorem dX10_leaveFinding_27 : decode cX10_leaveFinding 27 = .ok (.bipush 17, 2) := dc_16 (a := 17) (by decide +kernel) (by decide)
theorem dX10_leaveFinding_29 : decode cX10_leaveFinding 29 = .ok (.ireturn, 1) := dc_172 (by decide +kernel)
theorem dX10_leaveFinding_30 : decode cX10_leaveFinding 30 = .ok (.iinc 1 1, 3) := dc_132 (a := 1) (b := 1) (by decide +kernel) (by decide)
theorem dX10_leaveFinding_33 : decode cX10_leaveFinding 33 = .ok (.goto (-31), 3) := dc_167 (a := 255) (b := 225) (by decide +kernel) (by decide)
theorem dX10_leaveFinding_36 : decode cX10_leaveFinding 36 = .ok (.aload_n 0, 1) := dc_42 (by decide +kernel)
theorem dX10_leaveFinding_37 : decode cX10_leaveFinding 37 = .ok (.aload_n 0, 1) := dc_42 (by decide +kernel)
theorem dX10_leaveFinding_38 : decode cX10_leaveFinding 38 = .ok (.iconst 0, 1) := dc_3 (by decide +kernel)
theorem dX10_leaveFinding_39 : decode cX10_leaveFinding 39 = .ok (.invokevirtual 44, 3) := dc_182 (a := 0) (b := 44) (by decide +kernel)
theorem dX10_leaveFinding_42 : decode cX10_leaveFinding 42 = .ok (.invokevirtual 116, 3) := dc_182 (a := 0) (b := 116) (by decide +kernel)
theorem dX10_leaveFinding_45 : decode cX10_leaveFinding 45 = .ok (.ifCond .ne 22, 3) := dc_154 (a := 0) (b := 22) (by decide +kernel) (by decide)
theorem dX10_leaveFinding_48 : decode cX10_leaveFinding 48 = .ok (.aload_n 0, 1) := dc_42 (by decide +kernel)
theorem dX10_leaveFinding_49 : decode cX10_leaveFinding 49 = .ok (.aload_n 0, 1) := dc_42 (by decide +kernel)
theorem dX10_leaveFinding_50 : decode cX10_leaveFinding 50 = .ok (.aload_n 0, 1) := dc_42 (by decide +kernel)
theorem dX10_leaveFinding_51 : decode cX10_leaveFinding 51 = .ok (.getfield 17, 3) := dc_180 (a := 0) (b := 17) (by decide +kernel)
theorem dX10_leaveFinding_54 : decode cX10_leaveFinding 54 = .ok (.iconst 1, 1) := dc_4 (by decide +kernel)
theorem dX10_leaveFinding_55 : decode cX10_leaveFinding 55 = .ok (.isub, 1) := dc_100 (by decide +kernel)
theorem dX10_leaveFinding_56 : decode cX10_leaveFinding 56 = .ok (.invokevirtual 44, 3) := dc_182 (a := 0) (b := 44) (by decide +kernel)
theorem dX10_leaveFinding_59 : decode cX10_leaveFinding 59 = .ok (.iconst 1, 1) := dc_4 (by decide +kernel)
theorem dX10_leaveFinding_60 : decode cX10_leaveFinding 60 = .ok (.ixor, 1) := dc_130 (by decide +kernel)
theorem dX10_leaveFinding_61 : decode cX10_leaveFinding 61 = .ok (.invokevirtual 116, 3) := dc_182 (a := 0) (b := 116) (by decide +kernel)
theorem dX10_leaveFinding_64 : decode cX10_leaveFinding 64 = .ok (.ifCond .eq 7, 3) := dc_153 (a := 0) (b := 7) (by decide +kernel) (by decide)
theorem dX10_leaveFinding_67 : decode cX10_leaveFinding 67 = .ok (.iconst 0, 1) := dc_3 (by decide +kernel)
theorem dX10_leaveFinding_68 : decode cX10_leaveFinding 68 = .ok (.goto 5, 3) := dc_167 (a := 0) (b := 5) (by decide +kernel) (by decide)
theorem dX10_leaveFinding_71 : decode cX10_leaveFinding 71 = .ok (.bipush 10, 2) := dc_16 (a := 10) (by decide +kernel) (by decide)
theorem dX10_leaveFinding_73 : decode cX10_leaveFinding 73 = .ok (.ireturn, 1) := dc_172 (by decide +kernel)
set_option maxRecDepth 100000 in
set_option maxHeartbeats 4000000 in
theorem w_Trains_leaveFinding_L2 {p : Program} {l : Launch} {e : Env} {R : Room} {s : State} {m : MethodId} {args : Array Value} {below : List Frame} {meth : Method} {c : Code} {dC : Nat → ClassId} {dI : Nat → Nat → Nat} {cs : Nat → ClassId} {ad : Nat → Nat} {A : Nat → Prop} {D0 : Nat → Nat} {S' : SS} {r : Int32} (F : Fx p s m args meth c cX10_leaveFinding 2 RX10 (some .int) dC dI cs A) (hR1 : 4 ≤ R.frames) (hR2 : 89 ≤ R.locals) : ∀ (n : Nat) (x1 : Int32) (S : SS), f_Trains_leaveFinding_L2 n x1 S = some (r, S') → AW p l e R s m args below meth c dC dI cs ad A D0 (some (.int r)) S' 2 2 [(0, .ref (ad 68)), (1, .int x1)] [] S := by
  have hx := F.1.1
  have hb := F.1.2.1
  intro n
  induction n with
  | zero => intro x1 S h; cases h
  | succ n ih =>
    intro x1 S h H locs ls w hl
    rw [f_Trains_leaveFinding_L2] at h
    refine lv_iload_n (pc := 2) hx hb dX10_leaveFinding_2 rfl (lv_at hl 1 rfl) ?_
    refine lv_aload_n (pc := 3) hx hb dX10_leaveFinding_3 rfl (lv_at hl 0 rfl) ?_
    refine s_getI (pc := 4) F w ds_68 (j := 4) vc_X10 vi_X10 rfl (by decide) kf_X10_17 dX10_leaveFinding_4 ?_
    refine lv_icmp_ge (pc := 7) (tgt := 36) hx hb dX10_leaveFinding_7 (by decide) (fun q => ?_) (fun q => ?_)
    · have h := ite_t q h
      refine lv_aload_n (pc := 36) hx hb dX10_leaveFinding_36 rfl (lv_at hl 0 rfl) ?_
      refine lv_aload_n (pc := 37) hx hb dX10_leaveFinding_37 rfl (lv_at hl 0 rfl) ?_
      refine lv_iconst (pc := 38) (v := 0) hx hb dX10_leaveFinding_38 (by decide) ?_
      obtain ⟨r2, S1, hc, h⟩ := bnd_t h
      refine s_cvi (pc := 39) [.int (0 : Int32)] (fun ad => [.ref (ad 68), .int (0 : Int32)]) F w (m_Trains_hookInLine _ _ _ _ hc) rfl rfl hl.1 ds_68 vc_X10 rfl ok_X10_hookInLine rfl kc_X10_hookInLine kl_X10_44 ki_X10_hookInLine kv_X10_hookInLine kn_X10 ⟨Nat.le_trans (by decide) hR1, Nat.le_trans (by decide) hR2⟩ ⟨Nat.zero_le _, Nat.zero_le _⟩ (Nat.le_of_ble_eq_true rfl) dX10_leaveFinding_39 (fun H locs w => ?_)
      obtain ⟨r4, S3, hc, h⟩ := bnd_t h
      refine s_cvi (pc := 42) [.int r2] (fun ad => [.ref (ad 68), .int r2]) F w (m_Trains_looksOut _ _ _ _ hc) rfl rfl hl.1 ds_68 vc_X10 rfl ok_X10_looksOut rfl kc_X10_looksOut kl_X10_116 ki_X10_looksOut kv_X10_looksOut kn_X10 ⟨Nat.le_trans (by decide) hR1, Nat.le_trans (by decide) hR2⟩ ⟨Nat.zero_le _, Nat.zero_le _⟩ (Nat.le_of_ble_eq_true rfl) dX10_leaveFinding_42 (fun H locs w => ?_)
      refine lv_if_ne (pc := 45) (tgt := 67) hx hb dX10_leaveFinding_45 (by decide) (fun q => ?_) (fun q => ?_)
      · have h := ite_f q h
        refine lv_iconst (pc := 67) (v := 0) hx hb dX10_leaveFinding_67 (by decide) ?_
        refine lv_goto (pc := 68) (tgt := 73) hx hb dX10_leaveFinding_68 (by decide) ?_
        exact s_iret F w h dX10_leaveFinding_73
      · have h := ite_t q h
        refine lv_aload_n (pc := 48) hx hb dX10_leaveFinding_48 rfl (lv_at hl 0 rfl) ?_
        refine lv_aload_n (pc := 49) hx hb dX10_leaveFinding_49 rfl (lv_at hl 0 rfl) ?_
        refine lv_aload_n (pc := 50) hx hb dX10_leaveFinding_50 rfl (lv_at hl 0 rfl) ?_
        refine s_getI (pc := 51) F w ds_68 (j := 4) vc_X10 vi_X10 rfl (by decide) kf_X10_17 dX10_leaveFinding_51 ?_
        refine lv_iconst (pc := 54) (v := 1) hx hb dX10_leaveFinding_54 (by decide) ?_
        refine lv_isub (pc := 55) hx hb dX10_leaveFinding_55 ?_
        obtain ⟨r6, S5, hc, h⟩ := bnd_t h
        refine s_cvi (pc := 56) [.int ((S3.1 68 4) - (1 : Int32))] (fun ad => [.ref (ad 68), .int ((S3.1 68 4) - (1 : Int32))]) F w (m_Trains_hookInLine _ _ _ _ hc) rfl rfl hl.1 ds_68 vc_X10 rfl ok_X10_hookInLine rfl kc_X10_hookInLine kl_X10_44 ki_X10_hookInLine kv_X10_hookInLine kn_X10 ⟨Nat.le_trans (by decide) hR1, Nat.le_trans (by decide) hR2⟩ ⟨Nat.zero_le _, Nat.zero_le _⟩ (Nat.le_of_ble_eq_true rfl) dX10_leaveFinding_56 (fun H locs w => ?_)
        refine lv_iconst (pc := 59) (v := 1) hx hb dX10_leaveFinding_59 (by decide) ?_
        refine lv_ixor (pc := 60) hx hb dX10_leaveFinding_60 ?_
        obtain ⟨r8, S7, hc, h⟩ := bnd_t h
        refine s_cvi (pc := 61) [.int (r6 ^^^ (1 : Int32))] (fun ad => [.ref (ad 68), .int (r6 ^^^ (1 : Int32))]) F w (m_Trains_looksOut _ _ _ _ hc) rfl rfl hl.1 ds_68 vc_X10 rfl ok_X10_looksOut rfl kc_X10_looksOut kl_X10_116 ki_X10_looksOut kv_X10_looksOut kn_X10 ⟨Nat.le_trans (by decide) hR1, Nat.le_trans (by decide) hR2⟩ ⟨Nat.zero_le _, Nat.zero_le _⟩ (Nat.le_of_ble_eq_true rfl) dX10_leaveFinding_61 (fun H locs w => ?_)
        refine lv_if_eq (pc := 64) (tgt := 71) hx hb dX10_leaveFinding_64 (by decide) (fun q => ?_) (fun q => ?_)
        · have h := ite_t q h
          refine lv_bipush (pc := 71) (v := 10) hx hb dX10_leaveFinding_71 (by decide) ?_
          exact s_iret F w h dX10_leaveFinding_73
        · have h := ite_f q h
          refine lv_iconst (pc := 67) (v := 0) hx hb dX10_leaveFinding_67 (by decide) ?_
          refine lv_goto (pc := 68) (tgt := 73) hx hb dX10_leaveFinding_68 (by decide) ?_
          exact s_iret F w h dX10_leaveFinding_73
    · have h := ite_f q h
      refine lv_aload_n (pc := 10) hx hb dX10_leaveFinding_10 rfl (lv_at hl 0 rfl) ?_
      refine s_getR (pc := 11) F w 63 ds_68 (j := 0) vc_X10 vi_X10 rfl (by decide) kf_X10_24 dX10_leaveFinding_11 ?_
      refine lv_aload_n (pc := 14) hx hb dX10_leaveFinding_14 rfl (lv_at hl 0 rfl) ?_
      refine lv_iload_n (pc := 15) hx hb dX10_leaveFinding_15 rfl (lv_at hl 1 rfl) ?_
      obtain ⟨r10, S9, hc, h⟩ := bnd_t h
      refine s_cvi (pc := 16) [.int x1] (fun ad => [.ref (ad 68), .int x1]) F w (m_Trains_inLine _ _ _ _ hc) rfl rfl hl.1 ds_68 vc_X10 rfl ok_X10_inLine rfl kc_X10_inLine kl_X10_47 ki_X10_inLine kv_X10_inLine kn_X10 ⟨Nat.le_trans (by decide) hR1, Nat.le_trans (by decide) hR2⟩ ⟨Nat.zero_le _, Nat.zero_le _⟩ (Nat.le_of_ble_eq_true rfl) dX10_leaveFinding_16 (fun H locs w => ?_)
      refine lv_bipush (pc := 19) (v := 10) hx hb dX10_leaveFinding_19 (by decide) ?_
      obtain ⟨r12, S11, hc, h⟩ := bnd_t h
      refine s_cvi (pc := 21) [.int r10, .int (10 : Int32)] (fun ad => [.ref (ad 63), .int r10, .int (10 : Int32)]) F w (m_State_get _ _ _ _ _ hc) rfl rfl hl.1 ds_63 vc_X8 rfl ok_X8_get rfl kc_X8_get kl_X10_36 ki_X8_get kv_X8_get kn_X8 ⟨Nat.le_trans (by decide) hR1, Nat.le_trans (by decide) hR2⟩ ⟨Nat.zero_le _, Nat.zero_le _⟩ (Nat.le_of_ble_eq_true rfl) dX10_leaveFinding_21 (fun H locs w => ?_)
      refine lv_if_ne (pc := 24) (tgt := 30) hx hb dX10_leaveFinding_24 (by decide) (fun q => ?_) (fun q => ?_)
      · have h := ite_f q h
        refine s_nm h (fun z13 ez13 h => ?_)
        refine lv_iinc (pc := 30) (v := z13) (lv' := [(1, .int z13), (0, .ref (ad 68))]) hx hb dX10_leaveFinding_30 hl (k := 1) rfl (by rw [ez13]; rfl) (by decide) rfl (fun ls hl => ?_)
        refine lv_goto (pc := 33) (tgt := 2) hx hb dX10_leaveFinding_33 (by decide) ?_
        exact ih _ _ h _ _ _ w (lv_sub hl [1, 0] rfl)
      · have h := ite_t q h
        refine lv_bipush (pc := 27) (v := 17) hx hb dX10_leaveFinding_27 (by decide) ?_
        exact s_iret F w h dX10_leaveFinding_29
set_option maxRecDepth 100000 in
set_option maxHeartbeats 4000000 in
theorem m_Trains_leaveFinding  (S S' : SS) (r : Int32) (h : f_Trains_leaveFinding  S = some (r, S')) : MT yX10_leaveFinding cX10_leaveFinding 2 (some .int) 4 89 (fun ad => [.ref (ad 68)]) S (some (.int r)) S' := by
  refine MT.of RX10 (fun ad => [(0, .ref (ad 68))]) (by decide) rfl (fun _ => Nat.le_of_ble_eq_true rfl) (fun _ => rfl) ?_
  intro p l e R s m args below meth c dC dI cs ad A hR1 hR2 F H locs ls w hl
  have hx := F.1.1
  have hb := F.1.2.1
  rw [f_Trains_leaveFinding] at h
  refine lv_iconst (pc := 0) (v := 0) hx hb dX10_leaveFinding_0 (by decide) ?_
  refine lv_istore_n (pc := 1) (lv' := [(1, .int (0 : Int32)), (0, .ref (ad 68))]) hx hb dX10_leaveFinding_1 rfl hl (by decide) rfl (fun ls hl => ?_)
  exact w_Trains_leaveFinding_L2 F (Nat.le_trans (by decide) hR1) (Nat.le_trans (by decide) hR2) _ _ _ h _ _ _ w (lv_sub hl [1, 0] rfl)
def f_Yard_leaveYard_j30  (x2 : Int32) (S : SS) : Option (Int32 × SS) :=
    if x2 = 0 then
      bndv (f_Trains_setLine (0 : Int32) (-1 : Int32) S) (fun S3 =>
      some (S3.1 68 4, S3))
    else
      bnd (f_Report_found x2 S) (fun r5 S4 =>
      some (r5, S4))
def f_Yard_leaveYard (a1 : Int32) (S : SS) : Option (Int32 × SS) :=
  bnd (f_Yard_named a1 (96 : Int32) S) (fun r2 S1 =>
  if r2 = 0 then
    bndv (f_Trains_lineUp ((2 : Int32) * a1) S1) (fun S6 =>
    bnd (f_Trains_leaveFinding  S6) (fun r8 S7 =>
    f_Yard_leaveYard_j30 r8 S7))
  else
    f_Yard_leaveYard_j30 r2 S1)
theorem dX11_leaveYard_0 : decode cX11_leaveYard 0 = .ok (.aload_n 0, 1) := dc_42 (by decide +kernel)
theorem dX11_leaveYard_1 : decode cX11_leaveYard 1 = .ok (.iload_n 1, 1) := dc_27 (by decide +kernel)
theorem dX11_leaveYard_2 : decode cX11_leaveYard 2 = .ok (.bipush 96, 2) := dc_16 (a := 96) (by decide +kernel) (by decide)
theorem dX11_leaveYard_4 : decode cX11_leaveYard 4 = .ok (.invokevirtual 185, 3) := dc_182 (a := 0) (b := 185) (by decide +kernel)
theorem dX11_leaveYard_7 : decode cX11_leaveYard 7 = .ok (.istore_n 2, 1) := dc_61 (by decide +kernel)
theorem dX11_leaveYard_8 : decode cX11_leaveYard 8 = .ok (.iload_n 2, 1) := dc_28 (by decide +kernel)
theorem dX11_leaveYard_9 : decode cX11_leaveYard 9 = .ok (.ifCond .ne 21, 3) := dc_154 (a := 0) (b := 21) (by decide +kernel) (by decide)
theorem dX11_leaveYard_12 : decode cX11_leaveYard 12 = .ok (.aload_n 0, 1) := dc_42 (by decide +kernel)
theorem dX11_leaveYard_13 : decode cX11_leaveYard 13 = .ok (.getfield 58, 3) := dc_180 (a := 0) (b := 58) (by decide +kernel)
theorem dX11_leaveYard_16 : decode cX11_leaveYard 16 = .ok (.iconst 2, 1) := dc_5 (by decide +kernel)
theorem dX11_leaveYard_17 : decode cX11_leaveYard 17 = .ok (.iload_n 1, 1) := dc_27 (by decide +kernel)
theorem dX11_leaveYard_18 : decode cX11_leaveYard 18 = .ok (.imul, 1) := dc_104 (by decide +kernel)
theorem dX11_leaveYard_19 : decode cX11_leaveYard 19 = .ok (.invokevirtual 281, 3) := dc_182 (a := 1) (b := 25) (by decide +kernel)
theorem dX11_leaveYard_22 : decode cX11_leaveYard 22 = .ok (.aload_n 0, 1) := dc_42 (by decide +kernel)
theorem dX11_leaveYard_23 : decode cX11_leaveYard 23 = .ok (.getfield 58, 3) := dc_180 (a := 0) (b := 58) (by decide +kernel)
theorem dX11_leaveYard_26 : decode cX11_leaveYard 26 = .ok (.invokevirtual 332, 3) := dc_182 (a := 1) (b := 76) (by decide +kernel)
theorem dX11_leaveYard_29 : decode cX11_leaveYard 29 = .ok (.istore_n 2, 1) := dc_61 (by decide +kernel)
theorem dX11_leaveYard_30 : decode cX11_leaveYard 30 = .ok (.iload_n 2, 1) := dc_28 (by decide +kernel)
theorem dX11_leaveYard_31 : decode cX11_leaveYard 31 = .ok (.ifCond .eq 12, 3) := dc_153 (a := 0) (b := 12) (by decide +kernel) (by decide)
theorem dX11_leaveYard_34 : decode cX11_leaveYard 34 = .ok (.aload_n 0, 1) := dc_42 (by decide +kernel)
theorem dX11_leaveYard_35 : decode cX11_leaveYard 35 = .ok (.getfield 10, 3) := dc_180 (a := 0) (b := 10) (by decide +kernel)
theorem dX11_leaveYard_38 : decode cX11_leaveYard 38 = .ok (.iload_n 2, 1) := dc_28 (by decide +kernel)
theorem dX11_leaveYard_39 : decode cX11_leaveYard 39 = .ok (.invokevirtual 98, 3) := dc_182 (a := 0) (b := 98) (by decide +kernel)
theorem dX11_leaveYard_42 : decode cX11_leaveYard 42 = .ok (.ireturn, 1) := dc_172 (by decide +kernel)
theorem dX11_leaveYard_43 : decode cX11_leaveYard 43 = .ok (.aload_n 0, 1) := dc_42 (by decide +kernel)
theorem dX11_leaveYard_44 : decode cX11_leaveYard 44 = .ok (.getfield 58, 3) := dc_180 (a := 0) (b := 58) (by decide +kernel)
theorem dX11_leaveYard_47 : decode cX11_leaveYard 47 = .ok (.iconst 0, 1) := dc_3 (by decide +kernel)
theorem dX11_leaveYard_48 : decode cX11_leaveYard 48 = .ok (.iconst (-1), 1) := dc_2 (by decide +kernel)
theorem dX11_leaveYard_49 : decode cX11_leaveYard 49 = .ok (.invokevirtual 329, 3) := dc_182 (a := 1) (b := 73) (by decide +kernel)
theorem dX11_leaveYard_52 : decode cX11_leaveYard 52 = .ok (.aload_n 0, 1) := dc_42 (by decide +kernel)
theorem dX11_leaveYard_53 : decode cX11_leaveYard 53 = .ok (.getfield 58, 3) := dc_180 (a := 0) (b := 58) (by decide +kernel)
theorem dX11_leaveYard_56 : decode cX11_leaveYard 56 = .ok (.getfield 296, 3) := dc_180 (a := 1) (b := 40) (by decide +kernel)
theorem dX11_leaveYard_59 : decode cX11_leaveYard 59 = .ok (.ireturn, 1) := dc_172 (by decide +kernel)
set_option maxRecDepth 100000 in
set_option maxHeartbeats 4000000 in
theorem w_Yard_leaveYard_j30 {p : Program} {l : Launch} {e : Env} {R : Room} {s : State} {m : MethodId} {args : Array Value} {below : List Frame} {meth : Method} {c : Code} {dC : Nat → ClassId} {dI : Nat → Nat → Nat} {cs : Nat → ClassId} {ad : Nat → Nat} {A : Nat → Prop} {D0 : Nat → Nat} {S' : SS} {r : Int32} (F : Fx p s m args meth c cX11_leaveYard 3 RX11 (some .int) dC dI cs A) (hR1 : 3 ≤ R.frames) (hR2 : 66 ≤ R.locals) (x2 : Int32) (S : SS) (h : f_Yard_leaveYard_j30 x2 S = some (r, S')) : AW p l e R s m args below meth c dC dI cs ad A D0 (some (.int r)) S' 3 30 [(0, .ref (ad 61)), (2, .int x2)] [] S := by
  have hx := F.1.1
  have hb := F.1.2.1
  intro H locs ls w hl
  rw [f_Yard_leaveYard_j30] at h
  refine lv_iload_n (pc := 30) hx hb dX11_leaveYard_30 rfl (lv_at hl 1 rfl) ?_
  refine lv_if_eq (pc := 31) (tgt := 43) hx hb dX11_leaveYard_31 (by decide) (fun q => ?_) (fun q => ?_)
  · have h := ite_t q h
    refine lv_aload_n (pc := 43) hx hb dX11_leaveYard_43 rfl (lv_at hl 0 rfl) ?_
    refine s_getR (pc := 44) F w 68 ds_61 (j := 6) vc_X11 vi_X11 rfl (by decide) kf_X11_58 dX11_leaveYard_44 ?_
    refine lv_iconst (pc := 47) (v := 0) hx hb dX11_leaveYard_47 (by decide) ?_
    refine lv_iconst (pc := 48) (v := -1) hx hb dX11_leaveYard_48 (by decide) ?_
    obtain ⟨S3, hc, h⟩ := bndv_t h
    refine s_cvv (pc := 49) [.int (0 : Int32), .int (-1 : Int32)] (fun ad => [.ref (ad 68), .int (0 : Int32), .int (-1 : Int32)]) F w (m_Trains_setLine _ _ _ _ hc) rfl rfl hl.1 ds_68 vc_X10 rfl ok_X10_setLine rfl kc_X10_setLine kl_X11_329 ki_X10_setLine kv_X10_setLine kn_X10 ⟨Nat.le_trans (by decide) hR1, Nat.le_trans (by decide) hR2⟩ ⟨Nat.zero_le _, Nat.zero_le _⟩ (Nat.le_of_ble_eq_true rfl) dX11_leaveYard_49 (fun H locs w => ?_)
    refine lv_aload_n (pc := 52) hx hb dX11_leaveYard_52 rfl (lv_at hl 0 rfl) ?_
    refine s_getR (pc := 53) F w 68 ds_61 (j := 6) vc_X11 vi_X11 rfl (by decide) kf_X11_58 dX11_leaveYard_53 ?_
    refine s_getI (pc := 56) F w ds_68 (j := 4) vc_X10 vi_X10 rfl (by decide) kf_X11_296 dX11_leaveYard_56 ?_
    exact s_iret F w h dX11_leaveYard_59
  · have h := ite_f q h
    refine lv_aload_n (pc := 34) hx hb dX11_leaveYard_34 rfl (lv_at hl 0 rfl) ?_
    refine s_getR (pc := 35) F w 62 ds_61 (j := 0) vc_X11 vi_X11 rfl (by decide) kf_X11_10 dX11_leaveYard_35 ?_
    refine lv_iload_n (pc := 38) hx hb dX11_leaveYard_38 rfl (lv_at hl 1 rfl) ?_
    obtain ⟨r5, S4, hc, h⟩ := bnd_t h
    refine s_cvi (pc := 39) [.int x2] (fun ad => [.ref (ad 62), .int x2]) F w (m_Report_found _ _ _ _ hc) rfl rfl hl.1 ds_62 vc_X5 rfl ok_X5_found rfl kc_X5_found kl_X11_98 ki_X5_found kv_X5_found kn_X5 ⟨Nat.le_trans (by decide) hR1, Nat.le_trans (by decide) hR2⟩ ⟨Nat.zero_le _, Nat.zero_le _⟩ (Nat.le_of_ble_eq_true rfl) dX11_leaveYard_39 (fun H locs w => ?_)
    exact s_iret F w h dX11_leaveYard_42
set_option maxRecDepth 100000 in
set_option maxHeartbeats 4000000 in
theorem m_Yard_leaveYard (a1 : Int32) (S S' : SS) (r : Int32) (h : f_Yard_leaveYard a1 S = some (r, S')) : MT yX11_leaveYard cX11_leaveYard 3 (some .int) 5 110 (fun ad => [.ref (ad 61), .int a1]) S (some (.int r)) S' := by
  refine MT.of RX11 (fun ad => [(0, .ref (ad 61)), (1, .int a1)]) (by decide) rfl (fun _ => Nat.le_of_ble_eq_true rfl) (fun _ => rfl) ?_
  intro p l e R s m args below meth c dC dI cs ad A hR1 hR2 F H locs ls w hl
  have hx := F.1.1
  have hb := F.1.2.1
  rw [f_Yard_leaveYard] at h
  refine lv_aload_n (pc := 0) hx hb dX11_leaveYard_0 rfl (lv_at hl 0 rfl) ?_
  refine lv_iload_n (pc := 1) hx hb dX11_leaveYard_1 rfl (lv_at hl 1 rfl) ?_
  refine lv_bipush (pc := 2) (v := 96) hx hb dX11_leaveYard_2 (by decide) ?_
  obtain ⟨r2, S1, hc, h⟩ := bnd_t h
  refine s_cvi (pc := 4) [.int a1, .int (96 : Int32)] (fun ad => [.ref (ad 61), .int a1, .int (96 : Int32)]) F w (m_Yard_named _ _ _ _ _ hc) rfl rfl hl.1 ds_61 vc_X11 rfl ok_X11_named rfl kc_X11_named kl_X11_185 ki_X11_named kv_X11_named kn_X11 ⟨Nat.le_trans (by decide) hR1, Nat.le_trans (by decide) hR2⟩ ⟨Nat.zero_le _, Nat.zero_le _⟩ (Nat.le_of_ble_eq_true rfl) dX11_leaveYard_4 (fun H locs w => ?_)
  refine lv_istore_n (pc := 7) (lv' := [(2, .int r2), (0, .ref (ad 61)), (1, .int a1)]) hx hb dX11_leaveYard_7 rfl hl (by decide) rfl (fun ls hl => ?_)
  refine lv_iload_n (pc := 8) hx hb dX11_leaveYard_8 rfl (lv_at hl 0 rfl) ?_
  refine lv_if_ne (pc := 9) (tgt := 30) hx hb dX11_leaveYard_9 (by decide) (fun q => ?_) (fun q => ?_)
  · have h := ite_f q h
    exact w_Yard_leaveYard_j30 F (Nat.le_trans (by decide) hR1) (Nat.le_trans (by decide) hR2) _ _ h _ _ _ w (lv_sub hl [1, 0] rfl)
  · have h := ite_t q h
    refine lv_aload_n (pc := 12) hx hb dX11_leaveYard_12 rfl (lv_at hl 1 rfl) ?_
    refine s_getR (pc := 13) F w 68 ds_61 (j := 6) vc_X11 vi_X11 rfl (by decide) kf_X11_58 dX11_leaveYard_13 ?_
    refine lv_iconst (pc := 16) (v := 2) hx hb dX11_leaveYard_16 (by decide) ?_
    refine lv_iload_n (pc := 17) hx hb dX11_leaveYard_17 rfl (lv_at hl 2 rfl) ?_
    refine lv_imul (pc := 18) hx hb dX11_leaveYard_18 ?_
    obtain ⟨S6, hc, h⟩ := bndv_t h
    refine s_cvv (pc := 19) [.int ((2 : Int32) * a1)] (fun ad => [.ref (ad 68), .int ((2 : Int32) * a1)]) F w (m_Trains_lineUp _ _ _ hc) rfl rfl hl.1 ds_68 vc_X10 rfl ok_X10_lineUp rfl kc_X10_lineUp kl_X11_281 ki_X10_lineUp kv_X10_lineUp kn_X10 ⟨Nat.le_trans (by decide) hR1, Nat.le_trans (by decide) hR2⟩ ⟨Nat.zero_le _, Nat.zero_le _⟩ (Nat.le_of_ble_eq_true rfl) dX11_leaveYard_19 (fun H locs w => ?_)
    refine lv_aload_n (pc := 22) hx hb dX11_leaveYard_22 rfl (lv_at hl 1 rfl) ?_
    refine s_getR (pc := 23) F w 68 ds_61 (j := 6) vc_X11 vi_X11 rfl (by decide) kf_X11_58 dX11_leaveYard_23 ?_
    obtain ⟨r8, S7, hc, h⟩ := bnd_t h
    refine s_cvi (pc := 26) [] (fun ad => [.ref (ad 68)]) F w (m_Trains_leaveFinding  _ _ _ hc) rfl rfl hl.1 ds_68 vc_X10 rfl ok_X10_leaveFinding rfl kc_X10_leaveFinding kl_X11_332 ki_X10_leaveFinding kv_X10_leaveFinding kn_X10 ⟨Nat.le_trans (by decide) hR1, Nat.le_trans (by decide) hR2⟩ ⟨Nat.zero_le _, Nat.zero_le _⟩ (Nat.le_of_ble_eq_true rfl) dX11_leaveYard_26 (fun H locs w => ?_)
    refine lv_istore_n (pc := 29) (lv' := [(2, .int r8), (0, .ref (ad 61)), (1, .int a1)]) hx hb dX11_leaveYard_29 rfl hl (by decide) rfl (fun ls hl => ?_)
    exact w_Yard_leaveYard_j30 F (Nat.le_trans (by decide) hR1) (Nat.le_trans (by decide) hR2) _ _ h _ _ _ w (lv_sub hl [1, 0] rfl)
def f_Yard_leave (a1 : Int32) (S : SS) : Option (Int32 × SS) :=
  bndv (f_Yard_beginAct  S) (fun S1 =>
  bnd (f_Yard_leaveYard a1 S1) (fun r3 S2 =>
  bnd (f_Yard_endAct (12 : Int32) r3 S2) (fun r5 S4 =>
  some (r5, S4))))
theorem dX11_leave_0 : decode cX11_leave 0 = .ok (.aload_n 0, 1) := dc_42 (by decide +kernel)
theorem dX11_leave_1 : decode cX11_leave 1 = .ok (.invokevirtual 199, 3) := dc_182 (a := 0) (b := 199) (by decide +kernel)
theorem dX11_leave_4 : decode cX11_leave 4 = .ok (.aload_n 0, 1) := dc_42 (by decide +kernel)
theorem dX11_leave_5 : decode cX11_leave 5 = .ok (.bipush 12, 2) := dc_16 (a := 12) (by decide +kernel) (by decide)
theorem dX11_leave_7 : decode cX11_leave 7 = .ok (.aload_n 0, 1) := dc_42 (by decide +kernel)
theorem dX11_leave_8 : decode cX11_leave 8 = .ok (.iload_n 1, 1) := dc_27 (by decide +kernel)
theorem dX11_leave_9 : decode cX11_leave 9 = .ok (.invokevirtual 241, 3) := dc_182 (a := 0) (b := 241) (by decide +kernel)
theorem dX11_leave_12 : decode cX11_leave 12 = .ok (.invokevirtual 205, 3) := dc_182 (a := 0) (b := 205) (by decide +kernel)
theorem dX11_leave_15 : decode cX11_leave 15 = .ok (.ireturn, 1) := dc_172 (by decide +kernel)
set_option maxRecDepth 100000 in
set_option maxHeartbeats 4000000 in
theorem m_Yard_leave (a1 : Int32) (S S' : SS) (r : Int32) (h : f_Yard_leave a1 S = some (r, S')) : MT yX11_leave cX11_leave 2 (some .int) 6 132 (fun ad => [.ref (ad 61), .int a1]) S (some (.int r)) S' := by
  refine MT.of RX11 (fun ad => [(0, .ref (ad 61)), (1, .int a1)]) (by decide) rfl (fun _ => Nat.le_of_ble_eq_true rfl) (fun _ => rfl) ?_
  intro p l e R s m args below meth c dC dI cs ad A hR1 hR2 F H locs ls w hl
  have hx := F.1.1
  have hb := F.1.2.1
  rw [f_Yard_leave] at h
  refine lv_aload_n (pc := 0) hx hb dX11_leave_0 rfl (lv_at hl 0 rfl) ?_
  obtain ⟨S1, hc, h⟩ := bndv_t h
  refine s_cvv (pc := 1) [] (fun ad => [.ref (ad 61)]) F w (m_Yard_beginAct  _ _ hc) rfl rfl hl.1 ds_61 vc_X11 rfl ok_X11_beginAct rfl kc_X11_beginAct kl_X11_199 ki_X11_beginAct kv_X11_beginAct kn_X11 ⟨Nat.le_trans (by decide) hR1, Nat.le_trans (by decide) hR2⟩ ⟨Nat.zero_le _, Nat.zero_le _⟩ (Nat.le_of_ble_eq_true rfl) dX11_leave_1 (fun H locs w => ?_)
  refine lv_aload_n (pc := 4) hx hb dX11_leave_4 rfl (lv_at hl 0 rfl) ?_
  refine lv_bipush (pc := 5) (v := 12) hx hb dX11_leave_5 (by decide) ?_
  refine lv_aload_n (pc := 7) hx hb dX11_leave_7 rfl (lv_at hl 0 rfl) ?_
  refine lv_iload_n (pc := 8) hx hb dX11_leave_8 rfl (lv_at hl 1 rfl) ?_
  obtain ⟨r3, S2, hc, h⟩ := bnd_t h
  refine s_cvi (pc := 9) [.int a1] (fun ad => [.ref (ad 61), .int a1]) F w (m_Yard_leaveYard _ _ _ _ hc) rfl rfl hl.1 ds_61 vc_X11 rfl ok_X11_leaveYard rfl kc_X11_leaveYard kl_X11_241 ki_X11_leaveYard kv_X11_leaveYard kn_X11 ⟨Nat.le_trans (by decide) hR1, Nat.le_trans (by decide) hR2⟩ ⟨Nat.zero_le _, Nat.zero_le _⟩ (Nat.le_of_ble_eq_true rfl) dX11_leave_9 (fun H locs w => ?_)
  obtain ⟨r5, S4, hc, h⟩ := bnd_t h
  refine s_cvi (pc := 12) [.int (12 : Int32), .int r3] (fun ad => [.ref (ad 61), .int (12 : Int32), .int r3]) F w (m_Yard_endAct _ _ _ _ _ hc) rfl rfl hl.1 ds_61 vc_X11 rfl ok_X11_endAct rfl kc_X11_endAct kl_X11_205 ki_X11_endAct kv_X11_endAct kn_X11 ⟨Nat.le_trans (by decide) hR1, Nat.le_trans (by decide) hR2⟩ ⟨Nat.zero_le _, Nat.zero_le _⟩ (Nat.le_of_ble_eq_true rfl) dX11_leave_12 (fun H locs w => ?_)
  exact s_iret F w h dX11_leave_15
def f_Yard_roll_j124 (K71 : Int32 → Int32 → Int32 → Int32 → SS → Option (Int32 × SS)) (x1 : Int32) (x2 : Int32) (x3 : Int32) (x5 : Int32) (x6 : Int32) (S : SS) : Option (Int32 × SS) :=
    grd (inb x5 8) (wr S 76 x5.toNatClampNeg x6 (fun S8 =>
    nm (x5 + (1 : Int32)) (fun z9 =>
    K71 x1 x2 x3 z9 S8)))
def f_Yard_roll_L71  : Nat → Int32 → Int32 → Int32 → Int32 → SS → Option (Int32 × SS)
  | 0, _, _, _, _, _ => none
  | n + 1, x1, x2, x3, x5, S =>
    if x3 ≤ x5 then
      some (x3, S)
    else
      bnd (f_Layout_spot x1 (x2 + x5) S) (fun r5 S4 =>
      bnd (f_State_standsAt r5 S4) (fun r7 S6 =>
      if r7 = (-4 : Int32) then
        f_Yard_roll_j124 (fun v0 v1 v2 v3 S => f_Yard_roll_L71 n v0 v1 v2 v3 S) x1 x2 x3 x5 r7 S6
      else
        bnd (f_Stock_isAs r7 (96 : Int32) S6) (fun r11 S10 =>
        if r11 = 0 then
          bnd (f_Report_found (4 : Int32) S10) (fun r13 S12 =>
          some (r13, S12))
        else
          f_Yard_roll_j124 (fun v0 v1 v2 v3 S => f_Yard_roll_L71 n v0 v1 v2 v3 S) x1 x2 x3 x5 r7 S10)))
def f_Yard_roll_j53  (x1 : Int32) (x2 : Int32) (x3 : Int32) (x4 : Int32) (S : SS) : Option (Int32 × SS) :=
    if x4 = 0 then
      f_Yard_roll_L71 NF x1 x2 x3 (0 : Int32) S
    else
      bnd (f_Report_found x4 S) (fun r15 S14 =>
      some (r15, S14))
def f_Yard_roll_j50  (x1 : Int32) (x2 : Int32) (x3 : Int32) (S : SS) : Option (Int32 × SS) :=
    f_Yard_roll_j53 x1 x2 x3 (3 : Int32) S
def f_Yard_roll (a1 : Int32) (a2 : Int32) (a3 : Int32) (S : SS) : Option (Int32 × SS) :=
  bndv (f_Report_begin  S) (fun S1 =>
  bnd (f_Layout_trackFinding a1 S1) (fun r3 S2 =>
  if r3 = 0 then
    if a2 < 0 then
      f_Yard_roll_j50 a1 a2 a3 S2
    else
      if a3 < 0 then
        f_Yard_roll_j50 a1 a2 a3 S2
      else
        if (8 : Int32) < a3 then
          f_Yard_roll_j50 a1 a2 a3 S2
        else
          bnd (f_Layout_placesOf a1 S2) (fun r17 S16 =>
          if a2 ≤ (r17 - a3) then
            f_Yard_roll_j53 a1 a2 a3 r3 S16
          else
            f_Yard_roll_j50 a1 a2 a3 S16)
  else
    f_Yard_roll_j53 a1 a2 a3 r3 S2))
theorem dX11_roll_0 : decode cX11_roll 0 = .ok (.aload_n 0, 1) := dc_42 (by decide +kernel)
theorem dX11_roll_1 : decode cX11_roll 1 = .ok (.getfield 10, 3) := dc_180 (a := 0) (b := 10) (by decide +kernel)
theorem dX11_roll_4 : decode cX11_roll 4 = .ok (.invokevirtual 95, 3) := dc_182 (a := 0) (b := 95) (by decide +kernel)
theorem dX11_roll_7 : decode cX11_roll 7 = .ok (.aload_n 0, 1) := dc_42 (by decide +kernel)
theorem dX11_roll_8 : decode cX11_roll 8 = .ok (.getfield 42, 3) := dc_180 (a := 0) (b := 42) (by decide +kernel)
theorem dX11_roll_11 : decode cX11_roll 11 = .ok (.iload_n 1, 1) := dc_27 (by decide +kernel)
theorem dX11_roll_12 : decode cX11_roll 12 = .ok (.invokevirtual 115, 3) := dc_182 (a := 0) (b := 115) (by decide +kernel)
theorem dX11_roll_15 : decode cX11_roll 15 = .ok (.istore 4, 2) := dc_54 (a := 4) (by decide +kernel)
theorem dX11_roll_17 : decode cX11_roll 17 = .ok (.iload 4, 2) := dc_21 (a := 4) (by decide +kernel)
theorem dX11_roll_19 : decode cX11_roll 19 = .ok (.ifCond .ne 34, 3) := dc_154 (a := 0) (b := 34) (by decide +kernel) (by decide)
theorem dX11_roll_22 : decode cX11_roll 22 = .ok (.iload_n 2, 1) := dc_28 (by decide +kernel)
theorem dX11_roll_23 : decode cX11_roll 23 = .ok (.ifCond .lt 27, 3) := dc_155 (a := 0) (b := 27) (by decide +kernel) (by decide)
theorem dX11_roll_26 : decode cX11_roll 26 = .ok (.iload_n 3, 1) := dc_29 (by decide +kernel)
theorem dX11_roll_27 : decode cX11_roll 27 = .ok (.ifCond .lt 23, 3) := dc_155 (a := 0) (b := 23) (by decide +kernel) (by decide)
theorem dX11_roll_30 : decode cX11_roll 30 = .ok (.iload_n 3, 1) := dc_29 (by decide +kernel)
theorem dX11_roll_31 : decode cX11_roll 31 = .ok (.bipush 8, 2) := dc_16 (a := 8) (by decide +kernel) (by decide)
theorem dX11_roll_33 : decode cX11_roll 33 = .ok (.if_icmp .gt 17, 3) := dc_163 (a := 0) (b := 17) (by decide +kernel) (by decide)
theorem dX11_roll_36 : decode cX11_roll 36 = .ok (.iload_n 2, 1) := dc_28 (by decide +kernel)
theorem dX11_roll_37 : decode cX11_roll 37 = .ok (.aload_n 0, 1) := dc_42 (by decide +kernel)
theorem dX11_roll_38 : decode cX11_roll 38 = .ok (.getfield 42, 3) := dc_180 (a := 0) (b := 42) (by decide +kernel)
theorem dX11_roll_41 : decode cX11_roll 41 = .ok (.iload_n 1, 1) := dc_27 (by decide +kernel)
theorem dX11_roll_42 : decode cX11_roll 42 = .ok (.invokevirtual 244, 3) := dc_182 (a := 0) (b := 244) (by decide +kernel)
theorem dX11_roll_45 : decode cX11_roll 45 = .ok (.iload_n 3, 1) := dc_29 (by decide +kernel)
theorem dX11_roll_46 : decode cX11_roll 46 = .ok (.isub, 1) := dc_100 (by decide +kernel)
theorem dX11_roll_47 : decode cX11_roll 47 = .ok (.if_icmp .le 6, 3) := dc_164 (a := 0) (b := 6) (by decide +kernel) (by decide)
theorem dX11_roll_50 : decode cX11_roll 50 = .ok (.iconst 3, 1) := dc_6 (by decide +kernel)
theorem dX11_roll_51 : decode cX11_roll 51 = .ok (.istore 4, 2) := dc_54 (a := 4) (by decide +kernel)
theorem dX11_roll_53 : decode cX11_roll 53 = .ok (.iload 4, 2) := dc_21 (a := 4) (by decide +kernel)
theorem dX11_roll_55 : decode cX11_roll 55 = .ok (.ifCond .eq 13, 3) := dc_153 (a := 0) (b := 13) (by decide +kernel) (by decide)
theorem dX11_roll_58 : decode cX11_roll 58 = .ok (.aload_n 0, 1) := dc_42 (by decide +kernel)
theorem dX11_roll_59 : decode cX11_roll 59 = .ok (.getfield 10, 3) := dc_180 (a := 0) (b := 10) (by decide +kernel)
theorem dX11_roll_62 : decode cX11_roll 62 = .ok (.iload 4, 2) := dc_21 (a := 4) (by decide +kernel)
theorem dX11_roll_64 : decode cX11_roll 64 = .ok (.invokevirtual 98, 3) := dc_182 (a := 0) (b := 98) (by decide +kernel)
theorem dX11_roll_67 : decode cX11_roll 67 = .ok (.ireturn, 1) := dc_172 (by decide +kernel)
theorem dX11_roll_68 : decode cX11_roll 68 = .ok (.iconst 0, 1) := dc_3 (by decide +kernel)
theorem dX11_roll_69 : decode cX11_roll 69 = .ok (.istore 5, 2) := dc_54 (a := 5) (by decide +kernel)
theorem dX11_roll_71 : decode cX11_roll 71 = .ok (.iload 5, 2) := dc_21 (a := 5) (by decide +kernel)
theorem dX11_roll_73 : decode cX11_roll 73 = .ok (.iload_n 3, 1) := dc_29 (by decide +kernel)
theorem dX11_roll_74 : decode cX11_roll 74 = .ok (.if_icmp .ge 65, 3) := dc_162 (a := 0) (b := 65) (by decide +kernel) (by decide)
theorem dX11_roll_77 : decode cX11_roll 77 = .ok (.aload_n 0, 1) := dc_42 (by decide +kernel)
theorem dX11_roll_78 : decode cX11_roll 78 = .ok (.getfield 19, 3) := dc_180 (a := 0) (b := 19) (by decide +kernel)
theorem dX11_roll_81 : decode cX11_roll 81 = .ok (.iload_n 1, 1) := dc_27 (by decide +kernel)
theorem dX11_roll_82 : decode cX11_roll 82 = .ok (.iload_n 2, 1) := dc_28 (by decide +kernel)
theorem dX11_roll_83 : decode cX11_roll 83 = .ok (.iload 5, 2) := dc_21 (a := 5) (by decide +kernel)
theorem dX11_roll_85 : decode cX11_roll 85 = .ok (.iadd, 1) := dc_96 (by decide +kernel)
theorem dX11_roll_86 : decode cX11_roll 86 = .ok (.invokestatic 147, 3) := dc_184 (a := 0) (b := 147) (by decide +kernel)
theorem dX11_roll_89 : decode cX11_roll 89 = .ok (.invokevirtual 150, 3) := dc_182 (a := 0) (b := 150) (by decide +kernel)
theorem dX11_roll_92 : decode cX11_roll 92 = .ok (.istore 6, 2) := dc_54 (a := 6) (by decide +kernel)
theorem dX11_roll_94 : decode cX11_roll 94 = .ok (.iload 6, 2) := dc_21 (a := 6) (by decide +kernel)
theorem dX11_roll_96 : decode cX11_roll 96 = .ok (.bipush (-4), 2) := dc_16 (a := 252) (by decide +kernel) (by decide)
theorem dX11_roll_98 : decode cX11_roll 98 = .ok (.if_icmp .eq 26, 3) := dc_159 (a := 0) (b := 26) (by decide +kernel) (by decide)
theorem dX11_roll_101 : decode cX11_roll 101 = .ok (.aload_n 0, 1) := dc_42 (by decide +kernel)
theorem dX11_roll_102 : decode cX11_roll 102 = .ok (.getfield 33, 3) := dc_180 (a := 0) (b := 33) (by decide +kernel)
theorem dX11_roll_105 : decode cX11_roll 105 = .ok (.iload 6, 2) := dc_21 (a := 6) (by decide +kernel)
theorem dX11_roll_107 : decode cX11_roll 107 = .ok (.bipush 96, 2) := dc_16 (a := 96) (by decide +kernel) (by decide)
theorem dX11_roll_109 : decode cX11_roll 109 = .ok (.invokevirtual 247, 3) := dc_182 (a := 0) (b := 247) (by decide +kernel)
theorem dX11_roll_112 : decode cX11_roll 112 = .ok (.ifCond .ne 12, 3) := dc_154 (a := 0) (b := 12) (by decide +kernel) (by decide)
theorem dX11_roll_115 : decode cX11_roll 115 = .ok (.aload_n 0, 1) := dc_42 (by decide +kernel)
theorem dX11_roll_116 : decode cX11_roll 116 = .ok (.getfield 10, 3) := dc_180 (a := 0) (b := 10) (by decide +kernel)
theorem dX11_roll_119 : decode cX11_roll 119 = .ok (.iconst 4, 1) := dc_7 (by decide +kernel)
theorem dX11_roll_120 : decode cX11_roll 120 = .ok (.invokevirtual 98, 3) := dc_182 (a := 0) (b := 98) (by decide +kernel)
theorem dX11_roll_123 : decode cX11_roll 123 = .ok (.ireturn, 1) := dc_172 (by decide +kernel)
theorem dX11_roll_124 : decode cX11_roll 124 = .ok (.aload_n 0, 1) := dc_42 (by decide +kernel)
theorem dX11_roll_125 : decode cX11_roll 125 = .ok (.getfield 82, 3) := dc_180 (a := 0) (b := 82) (by decide +kernel)
theorem dX11_roll_128 : decode cX11_roll 128 = .ok (.iload 5, 2) := dc_21 (a := 5) (by decide +kernel)
theorem dX11_roll_130 : decode cX11_roll 130 = .ok (.iload 6, 2) := dc_21 (a := 6) (by decide +kernel)
theorem dX11_roll_132 : decode cX11_roll 132 = .ok (.iastore, 1) := dc_79 (by decide +kernel)
theorem dX11_roll_133 : decode cX11_roll 133 = .ok (.iinc 5 1, 3) := dc_132 (a := 5) (b := 1) (by decide +kernel) (by decide)
theorem dX11_roll_136 : decode cX11_roll 136 = .ok (.goto (-65), 3) := dc_167 (a := 255) (b := 191) (by decide +kernel) (by decide)
theorem dX11_roll_139 : decode cX11_roll 139 = .ok (.iload_n 3, 1) := dc_29 (by decide +kernel)
theorem dX11_roll_140 : decode cX11_roll 140 = .ok (.ireturn, 1) := dc_172 (by decide +kernel)
set_option maxRecDepth 100000 in
set_option maxHeartbeats 4000000 in
theorem w_Yard_roll_j124 {p : Program} {l : Launch} {e : Env} {R : Room} {s : State} {m : MethodId} {args : Array Value} {below : List Frame} {meth : Method} {c : Code} {dC : Nat → ClassId} {dI : Nat → Nat → Nat} {cs : Nat → ClassId} {ad : Nat → Nat} {A : Nat → Prop} {D0 : Nat → Nat} {S' : SS} {r : Int32} (F : Fx p s m args meth c cX11_roll 7 RX11 (some .int) dC dI cs A) (hR1 : 0 ≤ R.frames) (hR2 : 0 ≤ R.locals) (K71 : Int32 → Int32 → Int32 → Int32 → SS → Option (Int32 × SS)) (hK71 : ∀ (v0 : Int32) (v1 : Int32) (v2 : Int32) (v3 : Int32) (S : SS), K71 v0 v1 v2 v3 S = some (r, S') → AW p l e R s m args below meth c dC dI cs ad A D0 (some (.int r)) S' 7 71 [(0, .ref (ad 61)), (1, .int v0), (2, .int v1), (3, .int v2), (5, .int v3)] [] S) (x1 : Int32) (x2 : Int32) (x3 : Int32) (x5 : Int32) (x6 : Int32) (S : SS) (h : f_Yard_roll_j124 K71 x1 x2 x3 x5 x6 S = some (r, S')) : AW p l e R s m args below meth c dC dI cs ad A D0 (some (.int r)) S' 7 124 [(0, .ref (ad 61)), (1, .int x1), (2, .int x2), (3, .int x3), (5, .int x5), (6, .int x6)] [] S := by
  have hx := F.1.1
  have hb := F.1.2.1
  intro H locs ls w hl
  rw [f_Yard_roll_j124] at h
  refine lv_aload_n (pc := 124) hx hb dX11_roll_124 rfl (lv_at hl 0 rfl) ?_
  refine s_getR (pc := 125) F w 76 ds_61 (j := 10) vc_X11 vi_X11 rfl (by decide) kf_X11_82 dX11_roll_125 ?_
  refine lv_iload (pc := 128) hx hb dX11_roll_128 (lv_at hl 4 rfl) ?_
  refine lv_iload (pc := 130) hx hb dX11_roll_130 (lv_at hl 5 rfl) ?_
  refine s_iast (pc := 132) F w ds_76 h dX11_roll_132 (fun S8 H locs h w => ?_)
  refine s_nm h (fun z9 ez9 h => ?_)
  refine lv_iinc (pc := 133) (v := z9) (lv' := [(5, .int z9), (0, .ref (ad 61)), (1, .int x1), (2, .int x2), (3, .int x3), (6, .int x6)]) hx hb dX11_roll_133 hl (k := 4) rfl (by rw [ez9]; rfl) (by decide) rfl (fun ls hl => ?_)
  refine lv_goto (pc := 136) (tgt := 71) hx hb dX11_roll_136 (by decide) ?_
  exact hK71 _ _ _ _ _ h _ _ _ w (lv_sub hl [1, 2, 3, 4, 0] rfl)
set_option maxRecDepth 100000 in
set_option maxHeartbeats 4000000 in
theorem w_Yard_roll_L71 {p : Program} {l : Launch} {e : Env} {R : Room} {s : State} {m : MethodId} {args : Array Value} {below : List Frame} {meth : Method} {c : Code} {dC : Nat → ClassId} {dI : Nat → Nat → Nat} {cs : Nat → ClassId} {ad : Nat → Nat} {A : Nat → Prop} {D0 : Nat → Nat} {S' : SS} {r : Int32} (F : Fx p s m args meth c cX11_roll 7 RX11 (some .int) dC dI cs A) (hR1 : 2 ≤ R.frames) (hR2 : 45 ≤ R.locals) : ∀ (n : Nat) (x1 : Int32) (x2 : Int32) (x3 : Int32) (x5 : Int32) (S : SS), f_Yard_roll_L71 n x1 x2 x3 x5 S = some (r, S') → AW p l e R s m args below meth c dC dI cs ad A D0 (some (.int r)) S' 7 71 [(0, .ref (ad 61)), (1, .int x1), (2, .int x2), (3, .int x3), (5, .int x5)] [] S := by
  have hx := F.1.1
  have hb := F.1.2.1
  intro n
  induction n with
  | zero => intro x1 x2 x3 x5 S h; cases h
  | succ n ih =>
    intro x1 x2 x3 x5 S h H locs ls w hl
    rw [f_Yard_roll_L71] at h
    refine lv_iload (pc := 71) hx hb dX11_roll_71 (lv_at hl 4 rfl) ?_
    refine lv_iload_n (pc := 73) hx hb dX11_roll_73 rfl (lv_at hl 3 rfl) ?_
    refine lv_icmp_ge (pc := 74) (tgt := 139) hx hb dX11_roll_74 (by decide) (fun q => ?_) (fun q => ?_)
    · have h := ite_t q h
      refine lv_iload_n (pc := 139) hx hb dX11_roll_139 rfl (lv_at hl 3 rfl) ?_
      exact s_iret F w h dX11_roll_140
    · have h := ite_f q h
      refine lv_aload_n (pc := 77) hx hb dX11_roll_77 rfl (lv_at hl 0 rfl) ?_
      refine s_getR (pc := 78) F w 63 ds_61 (j := 1) vc_X11 vi_X11 rfl (by decide) kf_X11_19 dX11_roll_78 ?_
      refine lv_iload_n (pc := 81) hx hb dX11_roll_81 rfl (lv_at hl 1 rfl) ?_
      refine lv_iload_n (pc := 82) hx hb dX11_roll_82 rfl (lv_at hl 2 rfl) ?_
      refine lv_iload (pc := 83) hx hb dX11_roll_83 (lv_at hl 4 rfl) ?_
      refine lv_iadd (pc := 85) hx hb dX11_roll_85 ?_
      obtain ⟨r5, S4, hc, h⟩ := bnd_t h
      refine s_csi (pc := 86) [.int x1, .int (x2 + x5)] (fun ad => [.int x1, .int (x2 + x5)]) F w (m_Layout_spot _ _ _ _ _ hc) rfl rfl hl.1 ok_X2_spot rfl kc_X2_spot kl_X11_147 ks_X2_spot kn_X2 ⟨Nat.le_trans (by decide) hR1, Nat.le_trans (by decide) hR2⟩ ⟨Nat.zero_le _, Nat.zero_le _⟩ (Nat.le_of_ble_eq_true rfl) dX11_roll_86 (fun H locs w => ?_)
      obtain ⟨r7, S6, hc, h⟩ := bnd_t h
      refine s_cvi (pc := 89) [.int r5] (fun ad => [.ref (ad 63), .int r5]) F w (m_State_standsAt _ _ _ _ hc) rfl rfl hl.1 ds_63 vc_X8 rfl ok_X8_standsAt rfl kc_X8_standsAt kl_X11_150 ki_X8_standsAt kv_X8_standsAt kn_X8 ⟨Nat.le_trans (by decide) hR1, Nat.le_trans (by decide) hR2⟩ ⟨Nat.zero_le _, Nat.zero_le _⟩ (Nat.le_of_ble_eq_true rfl) dX11_roll_89 (fun H locs w => ?_)
      refine lv_istore (pc := 92) (lv' := [(6, .int r7), (0, .ref (ad 61)), (1, .int x1), (2, .int x2), (3, .int x3), (5, .int x5)]) hx hb dX11_roll_92 hl (by decide) rfl (fun ls hl => ?_)
      refine lv_iload (pc := 94) hx hb dX11_roll_94 (lv_at hl 0 rfl) ?_
      refine lv_bipush (pc := 96) (v := -4) hx hb dX11_roll_96 (by decide) ?_
      refine lv_icmp_eq (pc := 98) (tgt := 124) hx hb dX11_roll_98 (by decide) (fun q => ?_) (fun q => ?_)
      · have h := ite_t q h
        exact w_Yard_roll_j124 F (Nat.le_trans (by decide) hR1) (Nat.le_trans (by decide) hR2) _ (fun v0 v1 v2 v3 S h => ih v0 v1 v2 v3 S h) _ _ _ _ _ _ h _ _ _ w (lv_sub hl [1, 2, 3, 4, 5, 0] rfl)
      · have h := ite_f q h
        refine lv_aload_n (pc := 101) hx hb dX11_roll_101 rfl (lv_at hl 1 rfl) ?_
        refine s_getR (pc := 102) F w 65 ds_61 (j := 3) vc_X11 vi_X11 rfl (by decide) kf_X11_33 dX11_roll_102 ?_
        refine lv_iload (pc := 105) hx hb dX11_roll_105 (lv_at hl 0 rfl) ?_
        refine lv_bipush (pc := 107) (v := 96) hx hb dX11_roll_107 (by decide) ?_
        obtain ⟨r11, S10, hc, h⟩ := bnd_t h
        refine s_cvi (pc := 109) [.int r7, .int (96 : Int32)] (fun ad => [.ref (ad 65), .int r7, .int (96 : Int32)]) F w (m_Stock_isAs _ _ _ _ _ hc) rfl rfl hl.1 ds_65 vc_X9 rfl ok_X9_isAs rfl kc_X9_isAs kl_X11_247 ki_X9_isAs kv_X9_isAs kn_X9 ⟨Nat.le_trans (by decide) hR1, Nat.le_trans (by decide) hR2⟩ ⟨Nat.zero_le _, Nat.zero_le _⟩ (Nat.le_of_ble_eq_true rfl) dX11_roll_109 (fun H locs w => ?_)
        refine lv_if_ne (pc := 112) (tgt := 124) hx hb dX11_roll_112 (by decide) (fun q => ?_) (fun q => ?_)
        · have h := ite_f q h
          exact w_Yard_roll_j124 F (Nat.le_trans (by decide) hR1) (Nat.le_trans (by decide) hR2) _ (fun v0 v1 v2 v3 S h => ih v0 v1 v2 v3 S h) _ _ _ _ _ _ h _ _ _ w (lv_sub hl [1, 2, 3, 4, 5, 0] rfl)
        · have h := ite_t q h
          refine lv_aload_n (pc := 115) hx hb dX11_roll_115 rfl (lv_at hl 1 rfl) ?_
          refine s_getR (pc := 116) F w 62 ds_61 (j := 0) vc_X11 vi_X11 rfl (by decide) kf_X11_10 dX11_roll_116 ?_
          refine lv_iconst (pc := 119) (v := 4) hx hb dX11_roll_119 (by decide) ?_
          obtain ⟨r13, S12, hc, h⟩ := bnd_t h
          refine s_cvi (pc := 120) [.int (4 : Int32)] (fun ad => [.ref (ad 62), .int (4 : Int32)]) F w (m_Report_found _ _ _ _ hc) rfl rfl hl.1 ds_62 vc_X5 rfl ok_X5_found rfl kc_X5_found kl_X11_98 ki_X5_found kv_X5_found kn_X5 ⟨Nat.le_trans (by decide) hR1, Nat.le_trans (by decide) hR2⟩ ⟨Nat.zero_le _, Nat.zero_le _⟩ (Nat.le_of_ble_eq_true rfl) dX11_roll_120 (fun H locs w => ?_)
          exact s_iret F w h dX11_roll_123
set_option maxRecDepth 100000 in
set_option maxHeartbeats 4000000 in
theorem w_Yard_roll_j53 {p : Program} {l : Launch} {e : Env} {R : Room} {s : State} {m : MethodId} {args : Array Value} {below : List Frame} {meth : Method} {c : Code} {dC : Nat → ClassId} {dI : Nat → Nat → Nat} {cs : Nat → ClassId} {ad : Nat → Nat} {A : Nat → Prop} {D0 : Nat → Nat} {S' : SS} {r : Int32} (F : Fx p s m args meth c cX11_roll 7 RX11 (some .int) dC dI cs A) (hR1 : 2 ≤ R.frames) (hR2 : 45 ≤ R.locals) (x1 : Int32) (x2 : Int32) (x3 : Int32) (x4 : Int32) (S : SS) (h : f_Yard_roll_j53 x1 x2 x3 x4 S = some (r, S')) : AW p l e R s m args below meth c dC dI cs ad A D0 (some (.int r)) S' 7 53 [(0, .ref (ad 61)), (1, .int x1), (2, .int x2), (3, .int x3), (4, .int x4)] [] S := by
  have hx := F.1.1
  have hb := F.1.2.1
  intro H locs ls w hl
  rw [f_Yard_roll_j53] at h
  refine lv_iload (pc := 53) hx hb dX11_roll_53 (lv_at hl 4 rfl) ?_
  refine lv_if_eq (pc := 55) (tgt := 68) hx hb dX11_roll_55 (by decide) (fun q => ?_) (fun q => ?_)
  · have h := ite_t q h
    refine lv_iconst (pc := 68) (v := 0) hx hb dX11_roll_68 (by decide) ?_
    refine lv_istore (pc := 69) (lv' := [(5, .int (0 : Int32)), (0, .ref (ad 61)), (1, .int x1), (2, .int x2), (3, .int x3), (4, .int x4)]) hx hb dX11_roll_69 hl (by decide) rfl (fun ls hl => ?_)
    exact w_Yard_roll_L71 F (Nat.le_trans (by decide) hR1) (Nat.le_trans (by decide) hR2) _ _ _ _ _ _ h _ _ _ w (lv_sub hl [1, 2, 3, 4, 0] rfl)
  · have h := ite_f q h
    refine lv_aload_n (pc := 58) hx hb dX11_roll_58 rfl (lv_at hl 0 rfl) ?_
    refine s_getR (pc := 59) F w 62 ds_61 (j := 0) vc_X11 vi_X11 rfl (by decide) kf_X11_10 dX11_roll_59 ?_
    refine lv_iload (pc := 62) hx hb dX11_roll_62 (lv_at hl 4 rfl) ?_
    obtain ⟨r15, S14, hc, h⟩ := bnd_t h
    refine s_cvi (pc := 64) [.int x4] (fun ad => [.ref (ad 62), .int x4]) F w (m_Report_found _ _ _ _ hc) rfl rfl hl.1 ds_62 vc_X5 rfl ok_X5_found rfl kc_X5_found kl_X11_98 ki_X5_found kv_X5_found kn_X5 ⟨Nat.le_trans (by decide) hR1, Nat.le_trans (by decide) hR2⟩ ⟨Nat.zero_le _, Nat.zero_le _⟩ (Nat.le_of_ble_eq_true rfl) dX11_roll_64 (fun H locs w => ?_)
    exact s_iret F w h dX11_roll_67
set_option maxRecDepth 100000 in
set_option maxHeartbeats 4000000 in
theorem w_Yard_roll_j50 {p : Program} {l : Launch} {e : Env} {R : Room} {s : State} {m : MethodId} {args : Array Value} {below : List Frame} {meth : Method} {c : Code} {dC : Nat → ClassId} {dI : Nat → Nat → Nat} {cs : Nat → ClassId} {ad : Nat → Nat} {A : Nat → Prop} {D0 : Nat → Nat} {S' : SS} {r : Int32} (F : Fx p s m args meth c cX11_roll 7 RX11 (some .int) dC dI cs A) (hR1 : 2 ≤ R.frames) (hR2 : 45 ≤ R.locals) (x1 : Int32) (x2 : Int32) (x3 : Int32) (S : SS) (h : f_Yard_roll_j50 x1 x2 x3 S = some (r, S')) : AW p l e R s m args below meth c dC dI cs ad A D0 (some (.int r)) S' 7 50 [(0, .ref (ad 61)), (1, .int x1), (2, .int x2), (3, .int x3)] [] S := by
  have hx := F.1.1
  have hb := F.1.2.1
  intro H locs ls w hl
  rw [f_Yard_roll_j50] at h
  refine lv_iconst (pc := 50) (v := 3) hx hb dX11_roll_50 (by decide) ?_
  refine lv_istore (pc := 51) (lv' := [(4, .int (3 : Int32)), (0, .ref (ad 61)), (1, .int x1), (2, .int x2), (3, .int x3)]) hx hb dX11_roll_51 hl (by decide) rfl (fun ls hl => ?_)
  exact w_Yard_roll_j53 F (Nat.le_trans (by decide) hR1) (Nat.le_trans (by decide) hR2) _ _ _ _ _ h _ _ _ w (lv_sub hl [1, 2, 3, 4, 0] rfl)
set_option maxRecDepth 100000 in
set_option maxHeartbeats 4000000 in
theorem m_Yard_roll (a1 : Int32) (a2 : Int32) (a3 : Int32) (S S' : SS) (r : Int32) (h : f_Yard_roll a1 a2 a3 S = some (r, S')) : MT yX11_roll cX11_roll 7 (some .int) 2 45 (fun ad => [.ref (ad 61), .int a1, .int a2, .int a3]) S (some (.int r)) S' := by
  refine MT.of RX11 (fun ad => [(0, .ref (ad 61)), (1, .int a1), (2, .int a2), (3, .int a3)]) (by decide) rfl (fun _ => Nat.le_of_ble_eq_true rfl) (fun _ => rfl) ?_
  intro p l e R s m args below meth c dC dI cs ad A hR1 hR2 F H locs ls w hl
  have hx := F.1.1
  have hb := F.1.2.1
  rw [f_Yard_roll] at h
  refine lv_aload_n (pc := 0) hx hb dX11_roll_0 rfl (lv_at hl 0 rfl) ?_
  refine s_getR (pc := 1) F w 62 ds_61 (j := 0) vc_X11 vi_X11 rfl (by decide) kf_X11_10 dX11_roll_1 ?_
  obtain ⟨S1, hc, h⟩ := bndv_t h
  refine s_cvv (pc := 4) [] (fun ad => [.ref (ad 62)]) F w (m_Report_begin  _ _ hc) rfl rfl hl.1 ds_62 vc_X5 rfl ok_X5_begin rfl kc_X5_begin kl_X11_95 ki_X5_begin kv_X5_begin kn_X5 ⟨Nat.le_trans (by decide) hR1, Nat.le_trans (by decide) hR2⟩ ⟨Nat.zero_le _, Nat.zero_le _⟩ (Nat.le_of_ble_eq_true rfl) dX11_roll_4 (fun H locs w => ?_)
  refine lv_aload_n (pc := 7) hx hb dX11_roll_7 rfl (lv_at hl 0 rfl) ?_
  refine s_getR (pc := 8) F w 66 ds_61 (j := 4) vc_X11 vi_X11 rfl (by decide) kf_X11_42 dX11_roll_8 ?_
  refine lv_iload_n (pc := 11) hx hb dX11_roll_11 rfl (lv_at hl 1 rfl) ?_
  obtain ⟨r3, S2, hc, h⟩ := bnd_t h
  refine s_cvi (pc := 12) [.int a1] (fun ad => [.ref (ad 66), .int a1]) F w (m_Layout_trackFinding _ _ _ _ hc) rfl rfl hl.1 ds_66 vc_X2 rfl ok_X2_trackFinding rfl kc_X2_trackFinding kl_X11_115 ki_X2_trackFinding kv_X2_trackFinding kn_X2 ⟨Nat.le_trans (by decide) hR1, Nat.le_trans (by decide) hR2⟩ ⟨Nat.zero_le _, Nat.zero_le _⟩ (Nat.le_of_ble_eq_true rfl) dX11_roll_12 (fun H locs w => ?_)
  refine lv_istore (pc := 15) (lv' := [(4, .int r3), (0, .ref (ad 61)), (1, .int a1), (2, .int a2), (3, .int a3)]) hx hb dX11_roll_15 hl (by decide) rfl (fun ls hl => ?_)
  refine lv_iload (pc := 17) hx hb dX11_roll_17 (lv_at hl 0 rfl) ?_
  refine lv_if_ne (pc := 19) (tgt := 53) hx hb dX11_roll_19 (by decide) (fun q => ?_) (fun q => ?_)
  · have h := ite_f q h
    exact w_Yard_roll_j53 F (Nat.le_trans (by decide) hR1) (Nat.le_trans (by decide) hR2) _ _ _ _ _ h _ _ _ w (lv_sub hl [1, 2, 3, 4, 0] rfl)
  · have h := ite_t q h
    refine lv_iload_n (pc := 22) hx hb dX11_roll_22 rfl (lv_at hl 3 rfl) ?_
    refine lv_if_lt (pc := 23) (tgt := 50) hx hb dX11_roll_23 (by decide) (fun q => ?_) (fun q => ?_)
    · have h := ite_t q h
      exact w_Yard_roll_j50 F (Nat.le_trans (by decide) hR1) (Nat.le_trans (by decide) hR2) _ _ _ _ h _ _ _ w (lv_sub hl [1, 2, 3, 4] rfl)
    · have h := ite_f q h
      refine lv_iload_n (pc := 26) hx hb dX11_roll_26 rfl (lv_at hl 4 rfl) ?_
      refine lv_if_lt (pc := 27) (tgt := 50) hx hb dX11_roll_27 (by decide) (fun q => ?_) (fun q => ?_)
      · have h := ite_t q h
        exact w_Yard_roll_j50 F (Nat.le_trans (by decide) hR1) (Nat.le_trans (by decide) hR2) _ _ _ _ h _ _ _ w (lv_sub hl [1, 2, 3, 4] rfl)
      · have h := ite_f q h
        refine lv_iload_n (pc := 30) hx hb dX11_roll_30 rfl (lv_at hl 4 rfl) ?_
        refine lv_bipush (pc := 31) (v := 8) hx hb dX11_roll_31 (by decide) ?_
        refine lv_icmp_gt (pc := 33) (tgt := 50) hx hb dX11_roll_33 (by decide) (fun q => ?_) (fun q => ?_)
        · have h := ite_t q h
          exact w_Yard_roll_j50 F (Nat.le_trans (by decide) hR1) (Nat.le_trans (by decide) hR2) _ _ _ _ h _ _ _ w (lv_sub hl [1, 2, 3, 4] rfl)
        · have h := ite_f q h
          refine lv_iload_n (pc := 36) hx hb dX11_roll_36 rfl (lv_at hl 3 rfl) ?_
          refine lv_aload_n (pc := 37) hx hb dX11_roll_37 rfl (lv_at hl 1 rfl) ?_
          refine s_getR (pc := 38) F w 66 ds_61 (j := 4) vc_X11 vi_X11 rfl (by decide) kf_X11_42 dX11_roll_38 ?_
          refine lv_iload_n (pc := 41) hx hb dX11_roll_41 rfl (lv_at hl 2 rfl) ?_
          obtain ⟨r17, S16, hc, h⟩ := bnd_t h
          refine s_cvi (pc := 42) [.int a1] (fun ad => [.ref (ad 66), .int a1]) F w (m_Layout_placesOf _ _ _ _ hc) rfl rfl hl.1 ds_66 vc_X2 rfl ok_X2_placesOf rfl kc_X2_placesOf kl_X11_244 ki_X2_placesOf kv_X2_placesOf kn_X2 ⟨Nat.le_trans (by decide) hR1, Nat.le_trans (by decide) hR2⟩ ⟨Nat.zero_le _, Nat.zero_le _⟩ (Nat.le_of_ble_eq_true rfl) dX11_roll_42 (fun H locs w => ?_)
          refine lv_iload_n (pc := 45) hx hb dX11_roll_45 rfl (lv_at hl 4 rfl) ?_
          refine lv_isub (pc := 46) hx hb dX11_roll_46 ?_
          refine lv_icmp_le (pc := 47) (tgt := 53) hx hb dX11_roll_47 (by decide) (fun q => ?_) (fun q => ?_)
          · have h := ite_t q h
            exact w_Yard_roll_j53 F (Nat.le_trans (by decide) hR1) (Nat.le_trans (by decide) hR2) _ _ _ _ _ h _ _ _ w (lv_sub hl [1, 2, 3, 4, 0] rfl)
          · have h := ite_f q h
            exact w_Yard_roll_j50 F (Nat.le_trans (by decide) hR1) (Nat.le_trans (by decide) hR2) _ _ _ _ h _ _ _ w (lv_sub hl [1, 2, 3, 4] rfl)
