/-! ===== printed by wip/gen: X0_pulls X11_linePulls X8_goTo J9_max_7cf53 X10_moveLine X10_stepLine X11_pullBy X11_pull X12_hasEngine X12_pulls X12_loaded X12_weight ===== -/
def f_X0_pulls_j43  (x1 : Int32) (S : SS) : Option (Int32 × SS) :=
    bnd (f_X0_enginePulls x1 S) (fun r7 S6 =>
    some (r7, S6))
def f_X0_pulls (a1 : Int32) (S : SS) : Option (Int32 × SS) :=
  bnd (f_X0_kindOf a1 S) (fun r2 S1 =>
  if r2 = (6 : Int32) then
    bndv (f_X5_beginBody (16 : Int32) S1) (fun S3 =>
    bnd (f_X0_isFed a1 (0 : Int32) S3) (fun r5 S4 =>
    if r5 = 0 then
      bnd (f_X0_isFed a1 (1 : Int32) S4) (fun r9 S8 =>
      if r9 = 0 then
        some ((0 : Int32), S8)
      else
        f_X0_pulls_j43 a1 S8)
    else
      f_X0_pulls_j43 a1 S4))
  else
    bnd (f_X0_enginePulls a1 S1) (fun r11 S10 =>
    some (r11, S10)))
theorem dX0_pulls_0 : decode cX0_pulls 0 = .ok (.aload_n 0, 1) := by decide +kernel
theorem dX0_pulls_1 : decode cX0_pulls 1 = .ok (.iload_n 1, 1) := by decide +kernel
theorem dX0_pulls_2 : decode cX0_pulls 2 = .ok (.invokevirtual 33, 3) := by decide +kernel
theorem dX0_pulls_5 : decode cX0_pulls 5 = .ok (.bipush 6, 2) := by decide +kernel
theorem dX0_pulls_7 : decode cX0_pulls 7 = .ok (.if_icmp .eq 9, 3) := by decide +kernel
theorem dX0_pulls_10 : decode cX0_pulls 10 = .ok (.aload_n 0, 1) := by decide +kernel
theorem dX0_pulls_11 : decode cX0_pulls 11 = .ok (.iload_n 1, 1) := by decide +kernel
theorem dX0_pulls_12 : decode cX0_pulls 12 = .ok (.invokevirtual 59, 3) := by decide +kernel
theorem dX0_pulls_15 : decode cX0_pulls 15 = .ok (.ireturn, 1) := by decide +kernel
theorem dX0_pulls_16 : decode cX0_pulls 16 = .ok (.aload_n 0, 1) := by decide +kernel
theorem dX0_pulls_17 : decode cX0_pulls 17 = .ok (.getfield 23, 3) := by decide +kernel
theorem dX0_pulls_20 : decode cX0_pulls 20 = .ok (.bipush 16, 2) := by decide +kernel
theorem dX0_pulls_22 : decode cX0_pulls 22 = .ok (.invokevirtual 40, 3) := by decide +kernel
theorem dX0_pulls_25 : decode cX0_pulls 25 = .ok (.aload_n 0, 1) := by decide +kernel
theorem dX0_pulls_26 : decode cX0_pulls 26 = .ok (.iload_n 1, 1) := by decide +kernel
theorem dX0_pulls_27 : decode cX0_pulls 27 = .ok (.iconst 0, 1) := by decide +kernel
theorem dX0_pulls_28 : decode cX0_pulls 28 = .ok (.invokevirtual 62, 3) := by decide +kernel
theorem dX0_pulls_31 : decode cX0_pulls 31 = .ok (.ifCond .ne 12, 3) := by decide +kernel
theorem dX0_pulls_34 : decode cX0_pulls 34 = .ok (.aload_n 0, 1) := by decide +kernel
theorem dX0_pulls_35 : decode cX0_pulls 35 = .ok (.iload_n 1, 1) := by decide +kernel
theorem dX0_pulls_36 : decode cX0_pulls 36 = .ok (.iconst 1, 1) := by decide +kernel
theorem dX0_pulls_37 : decode cX0_pulls 37 = .ok (.invokevirtual 62, 3) := by decide +kernel
theorem dX0_pulls_40 : decode cX0_pulls 40 = .ok (.ifCond .eq 11, 3) := by decide +kernel
theorem dX0_pulls_43 : decode cX0_pulls 43 = .ok (.aload_n 0, 1) := by decide +kernel
theorem dX0_pulls_44 : decode cX0_pulls 44 = .ok (.iload_n 1, 1) := by decide +kernel
theorem dX0_pulls_45 : decode cX0_pulls 45 = .ok (.invokevirtual 59, 3) := by decide +kernel
theorem dX0_pulls_48 : decode cX0_pulls 48 = .ok (.goto 4, 3) := by decide +kernel
theorem dX0_pulls_51 : decode cX0_pulls 51 = .ok (.iconst 0, 1) := by decide +kernel
theorem dX0_pulls_52 : decode cX0_pulls 52 = .ok (.ireturn, 1) := by decide +kernel
set_option maxRecDepth 100000 in
set_option maxHeartbeats 4000000 in
theorem w_X0_pulls_j43 {p : Program} {l : Launch} {e : Env} {R : Room} {s : State} {m : MethodId} {args : Array Value} {below : List Frame} {meth : Method} {c : Code} {dC : Nat → ClassId} {dI : Nat → Nat → Nat} {cs : Nat → ClassId} {ad : Nat → Nat} {A : Nat → Prop} {D0 : Nat → Nat} {S' : SS} {r : Int32} (F : Fx p s m args meth c cX0_pulls 2 RX0 (some .int) dC dI cs A) (hR1 : 2 ≤ R.frames) (hR2 : 43 ≤ R.locals) (x1 : Int32) (S : SS) (h : f_X0_pulls_j43 x1 S = some (r, S')) : AW p l e R s m args below meth c dC dI cs ad A D0 (some (.int r)) S' 2 43 [(0, .ref (ad 8)), (1, .int x1)] [] S := by
  have hx := F.1.1
  have hb := F.1.2.1
  intro H locs ls w hl
  rw [f_X0_pulls_j43] at h
  refine lv_aload_n (pc := 43) hx hb dX0_pulls_43 rfl (lv_at hl 0 rfl) ?_
  refine lv_iload_n (pc := 44) hx hb dX0_pulls_44 rfl (lv_at hl 1 rfl) ?_
  obtain ⟨r7, S6, hc, h⟩ := bnd_t h
  refine s_cvi (pc := 45) [.int x1] (fun ad => [.ref (ad 8), .int x1]) F w (m_X0_enginePulls _ _ _ _ hc) rfl rfl hl.1 ds_8 vc_X0 rfl ok_X0_enginePulls rfl kc_X0_enginePulls kl_X0_59 ki_X0_enginePulls kv_X0_enginePulls kn_X0 ⟨Nat.le_trans (by decide) hR1, Nat.le_trans (by decide) hR2⟩ ⟨Nat.zero_le _, Nat.zero_le _⟩ (Nat.le_of_ble_eq_true rfl) dX0_pulls_45 (fun H locs w => ?_)
  refine lv_goto (pc := 48) (tgt := 52) hx hb dX0_pulls_48 (by decide) ?_
  exact s_iret F w h dX0_pulls_52
set_option maxRecDepth 100000 in
set_option maxHeartbeats 4000000 in
theorem m_X0_pulls (a1 : Int32) (S S' : SS) (r : Int32) (h : f_X0_pulls a1 S = some (r, S')) : MT yX0_pulls cX0_pulls 2 (some .int) 3 65 (fun ad => [.ref (ad 8), .int a1]) S (some (.int r)) S' := by
  refine MT.of RX0 (fun ad => [(0, .ref (ad 8)), (1, .int a1)]) (by decide) rfl (fun _ => Nat.le_of_ble_eq_true rfl) (fun _ => rfl) ?_
  intro p l e R s m args below meth c dC dI cs ad A hR1 hR2 F H locs ls w hl
  have hx := F.1.1
  have hb := F.1.2.1
  rw [f_X0_pulls] at h
  refine lv_aload_n (pc := 0) hx hb dX0_pulls_0 rfl (lv_at hl 0 rfl) ?_
  refine lv_iload_n (pc := 1) hx hb dX0_pulls_1 rfl (lv_at hl 1 rfl) ?_
  obtain ⟨r2, S1, hc, h⟩ := bnd_t h
  refine s_cvi (pc := 2) [.int a1] (fun ad => [.ref (ad 8), .int a1]) F w (m_X0_kindOf _ _ _ _ hc) rfl rfl hl.1 ds_8 vc_X0 rfl ok_X0_kindOf rfl kc_X0_kindOf kl_X0_33 ki_X0_kindOf kv_X0_kindOf kn_X0 ⟨Nat.le_trans (by decide) hR1, Nat.le_trans (by decide) hR2⟩ ⟨Nat.zero_le _, Nat.zero_le _⟩ (Nat.le_of_ble_eq_true rfl) dX0_pulls_2 (fun H locs w => ?_)
  refine lv_bipush (pc := 5) (v := 6) hx hb dX0_pulls_5 (by decide) ?_
  refine lv_icmp_eq (pc := 7) (tgt := 16) hx hb dX0_pulls_7 (by decide) (fun q => ?_) (fun q => ?_)
  · have h := ite_t q h
    refine lv_aload_n (pc := 16) hx hb dX0_pulls_16 rfl (lv_at hl 0 rfl) ?_
    refine s_getR (pc := 17) F w 1 ds_8 (j := 2) vc_X0 vi_X0 rfl (by decide) kf_X0_23 dX0_pulls_17 ?_
    refine lv_bipush (pc := 20) (v := 16) hx hb dX0_pulls_20 (by decide) ?_
    obtain ⟨S3, hc, h⟩ := bndv_t h
    refine s_cvv (pc := 22) [.int (16 : Int32)] (fun ad => [.ref (ad 1), .int (16 : Int32)]) F w (m_X5_beginBody _ _ _ hc) rfl rfl hl.1 ds_1 vc_X5 rfl ok_X5_beginBody rfl kc_X5_beginBody kl_X0_40 ki_X5_beginBody kv_X5_beginBody kn_X5 ⟨Nat.le_trans (by decide) hR1, Nat.le_trans (by decide) hR2⟩ ⟨Nat.zero_le _, Nat.zero_le _⟩ (Nat.le_of_ble_eq_true rfl) dX0_pulls_22 (fun H locs w => ?_)
    refine lv_aload_n (pc := 25) hx hb dX0_pulls_25 rfl (lv_at hl 0 rfl) ?_
    refine lv_iload_n (pc := 26) hx hb dX0_pulls_26 rfl (lv_at hl 1 rfl) ?_
    refine lv_iconst (pc := 27) (v := 0) hx hb dX0_pulls_27 (by decide) ?_
    obtain ⟨r5, S4, hc, h⟩ := bnd_t h
    refine s_cvi (pc := 28) [.int a1, .int (0 : Int32)] (fun ad => [.ref (ad 8), .int a1, .int (0 : Int32)]) F w (m_X0_isFed _ _ _ _ _ hc) rfl rfl hl.1 ds_8 vc_X0 rfl ok_X0_isFed rfl kc_X0_isFed kl_X0_62 ki_X0_isFed kv_X0_isFed kn_X0 ⟨Nat.le_trans (by decide) hR1, Nat.le_trans (by decide) hR2⟩ ⟨Nat.zero_le _, Nat.zero_le _⟩ (Nat.le_of_ble_eq_true rfl) dX0_pulls_28 (fun H locs w => ?_)
    refine lv_if_ne (pc := 31) (tgt := 43) hx hb dX0_pulls_31 (by decide) (fun q => ?_) (fun q => ?_)
    · have h := ite_f q h
      exact w_X0_pulls_j43 F (Nat.le_trans (by decide) hR1) (Nat.le_trans (by decide) hR2) _ _ h _ _ _ w (lv_sub hl [0, 1] rfl)
    · have h := ite_t q h
      refine lv_aload_n (pc := 34) hx hb dX0_pulls_34 rfl (lv_at hl 0 rfl) ?_
      refine lv_iload_n (pc := 35) hx hb dX0_pulls_35 rfl (lv_at hl 1 rfl) ?_
      refine lv_iconst (pc := 36) (v := 1) hx hb dX0_pulls_36 (by decide) ?_
      obtain ⟨r9, S8, hc, h⟩ := bnd_t h
      refine s_cvi (pc := 37) [.int a1, .int (1 : Int32)] (fun ad => [.ref (ad 8), .int a1, .int (1 : Int32)]) F w (m_X0_isFed _ _ _ _ _ hc) rfl rfl hl.1 ds_8 vc_X0 rfl ok_X0_isFed rfl kc_X0_isFed kl_X0_62 ki_X0_isFed kv_X0_isFed kn_X0 ⟨Nat.le_trans (by decide) hR1, Nat.le_trans (by decide) hR2⟩ ⟨Nat.zero_le _, Nat.zero_le _⟩ (Nat.le_of_ble_eq_true rfl) dX0_pulls_37 (fun H locs w => ?_)
      refine lv_if_eq (pc := 40) (tgt := 51) hx hb dX0_pulls_40 (by decide) (fun q => ?_) (fun q => ?_)
      · have h := ite_t q h
        refine lv_iconst (pc := 51) (v := 0) hx hb dX0_pulls_51 (by decide) ?_
        exact s_iret F w h dX0_pulls_52
      · have h := ite_f q h
        exact w_X0_pulls_j43 F (Nat.le_trans (by decide) hR1) (Nat.le_trans (by decide) hR2) _ _ h _ _ _ w (lv_sub hl [0, 1] rfl)
  · have h := ite_f q h
    refine lv_aload_n (pc := 10) hx hb dX0_pulls_10 rfl (lv_at hl 0 rfl) ?_
    refine lv_iload_n (pc := 11) hx hb dX0_pulls_11 rfl (lv_at hl 1 rfl) ?_
    obtain ⟨r11, S10, hc, h⟩ := bnd_t h
    refine s_cvi (pc := 12) [.int a1] (fun ad => [.ref (ad 8), .int a1]) F w (m_X0_enginePulls _ _ _ _ hc) rfl rfl hl.1 ds_8 vc_X0 rfl ok_X0_enginePulls rfl kc_X0_enginePulls kl_X0_59 ki_X0_enginePulls kv_X0_enginePulls kn_X0 ⟨Nat.le_trans (by decide) hR1, Nat.le_trans (by decide) hR2⟩ ⟨Nat.zero_le _, Nat.zero_le _⟩ (Nat.le_of_ble_eq_true rfl) dX0_pulls_12 (fun H locs w => ?_)
    exact s_iret F w h dX0_pulls_15
def f_X11_linePulls_j53 (K4 : Int32 → Int32 → SS → Option (Int32 × SS)) (x1 : Int32) (x2 : Int32) (S : SS) : Option (Int32 × SS) :=
    nm (x2 + (1 : Int32)) (fun z5 =>
    K4 x1 z5 S)
def f_X11_linePulls_L4  : Nat → Int32 → Int32 → SS → Option (Int32 × SS)
  | 0, _, _, _ => none
  | n + 1, x1, x2, S =>
    if (S.1 7 4) ≤ x2 then
      some (x1, S)
    else
      bnd (f_X10_inLine x2 S) (fun r2 S1 =>
      bnd (f_X9_isAs r2 (96 : Int32) S1) (fun r4 S3 =>
      if r4 = 0 then
        f_X11_linePulls_j53 (fun v0 v1 S => f_X11_linePulls_L4 n v0 v1 S) x1 x2 S3
      else
        bnd (f_X10_inLine x2 S3) (fun r7 S6 =>
        bnd (f_X0_pulls r7 S6) (fun r9 S8 =>
        nm (x1 + r9) (fun z10 =>
        f_X11_linePulls_j53 (fun v0 v1 S => f_X11_linePulls_L4 n v0 v1 S) z10 x2 S8)))))
def f_X11_linePulls  (S : SS) : Option (Int32 × SS) :=
  f_X11_linePulls_L4 NF (0 : Int32) (0 : Int32) S
theorem dX11_linePulls_0 : decode cX11_linePulls 0 = .ok (.iconst 0, 1) := by decide +kernel
theorem dX11_linePulls_1 : decode cX11_linePulls 1 = .ok (.istore_n 1, 1) := by decide +kernel
theorem dX11_linePulls_2 : decode cX11_linePulls 2 = .ok (.iconst 0, 1) := by decide +kernel
theorem dX11_linePulls_3 : decode cX11_linePulls 3 = .ok (.istore_n 2, 1) := by decide +kernel
theorem dX11_linePulls_4 : decode cX11_linePulls 4 = .ok (.iload_n 2, 1) := by decide +kernel
theorem dX11_linePulls_5 : decode cX11_linePulls 5 = .ok (.aload_n 0, 1) := by decide +kernel
theorem dX11_linePulls_6 : decode cX11_linePulls 6 = .ok (.getfield 58, 3) := by decide +kernel
theorem dX11_linePulls_9 : decode cX11_linePulls 9 = .ok (.getfield 296, 3) := by decide +kernel
theorem dX11_linePulls_12 : decode cX11_linePulls 12 = .ok (.if_icmp .ge 47, 3) := by decide +kernel
theorem dX11_linePulls_15 : decode cX11_linePulls 15 = .ok (.aload_n 0, 1) := by decide +kernel
theorem dX11_linePulls_16 : decode cX11_linePulls 16 = .ok (.getfield 33, 3) := by decide +kernel
theorem dX11_linePulls_19 : decode cX11_linePulls 19 = .ok (.aload_n 0, 1) := by decide +kernel
theorem dX11_linePulls_20 : decode cX11_linePulls 20 = .ok (.getfield 58, 3) := by decide +kernel
theorem dX11_linePulls_23 : decode cX11_linePulls 23 = .ok (.iload_n 2, 1) := by decide +kernel
theorem dX11_linePulls_24 : decode cX11_linePulls 24 = .ok (.invokevirtual 299, 3) := by decide +kernel
theorem dX11_linePulls_27 : decode cX11_linePulls 27 = .ok (.bipush 96, 2) := by decide +kernel
theorem dX11_linePulls_29 : decode cX11_linePulls 29 = .ok (.invokevirtual 247, 3) := by decide +kernel
theorem dX11_linePulls_32 : decode cX11_linePulls 32 = .ok (.ifCond .eq 21, 3) := by decide +kernel
theorem dX11_linePulls_35 : decode cX11_linePulls 35 = .ok (.iload_n 1, 1) := by decide +kernel
theorem dX11_linePulls_36 : decode cX11_linePulls 36 = .ok (.aload_n 0, 1) := by decide +kernel
theorem dX11_linePulls_37 : decode cX11_linePulls 37 = .ok (.getfield 67, 3) := by decide +kernel
theorem dX11_linePulls_40 : decode cX11_linePulls 40 = .ok (.aload_n 0, 1) := by decide +kernel
theorem dX11_linePulls_41 : decode cX11_linePulls 41 = .ok (.getfield 58, 3) := by decide +kernel
theorem dX11_linePulls_44 : decode cX11_linePulls 44 = .ok (.iload_n 2, 1) := by decide +kernel
theorem dX11_linePulls_45 : decode cX11_linePulls 45 = .ok (.invokevirtual 299, 3) := by decide +kernel
theorem dX11_linePulls_48 : decode cX11_linePulls 48 = .ok (.invokevirtual 305, 3) := by decide +kernel
theorem dX11_linePulls_51 : decode cX11_linePulls 51 = .ok (.iadd, 1) := by decide +kernel
theorem dX11_linePulls_52 : decode cX11_linePulls 52 = .ok (.istore_n 1, 1) := by decide +kernel
theorem dX11_linePulls_53 : decode cX11_linePulls 53 = .ok (.iinc 2 1, 3) := by decide +kernel
theorem dX11_linePulls_56 : decode cX11_linePulls 56 = .ok (.goto (-52), 3) := by decide +kernel
theorem dX11_linePulls_59 : decode cX11_linePulls 59 = .ok (.iload_n 1, 1) := by decide +kernel
theorem dX11_linePulls_60 : decode cX11_linePulls 60 = .ok (.ireturn, 1) := by decide +kernel
set_option maxRecDepth 100000 in
set_option maxHeartbeats 4000000 in
theorem w_X11_linePulls_j53 {p : Program} {l : Launch} {e : Env} {R : Room} {s : State} {m : MethodId} {args : Array Value} {below : List Frame} {meth : Method} {c : Code} {dC : Nat → ClassId} {dI : Nat → Nat → Nat} {cs : Nat → ClassId} {ad : Nat → Nat} {A : Nat → Prop} {D0 : Nat → Nat} {S' : SS} {r : Int32} (F : Fx p s m args meth c cX11_linePulls 3 RX11 (some .int) dC dI cs A) (hR1 : 0 ≤ R.frames) (hR2 : 0 ≤ R.locals) (K4 : Int32 → Int32 → SS → Option (Int32 × SS)) (hK4 : ∀ (v0 : Int32) (v1 : Int32) (S : SS), K4 v0 v1 S = some (r, S') → AW p l e R s m args below meth c dC dI cs ad A D0 (some (.int r)) S' 3 4 [(0, .ref (ad 0)), (1, .int v0), (2, .int v1)] [] S) (x1 : Int32) (x2 : Int32) (S : SS) (h : f_X11_linePulls_j53 K4 x1 x2 S = some (r, S')) : AW p l e R s m args below meth c dC dI cs ad A D0 (some (.int r)) S' 3 53 [(0, .ref (ad 0)), (1, .int x1), (2, .int x2)] [] S := by
  have hx := F.1.1
  have hb := F.1.2.1
  intro H locs ls w hl
  rw [f_X11_linePulls_j53] at h
  refine s_nm h (fun z5 ez5 h => ?_)
  refine lv_iinc (pc := 53) (v := z5) (lv' := [(2, .int z5), (0, .ref (ad 0)), (1, .int x1)]) hx hb dX11_linePulls_53 hl (k := 2) rfl (by rw [ez5]; rfl) (by decide) rfl (fun ls hl => ?_)
  refine lv_goto (pc := 56) (tgt := 4) hx hb dX11_linePulls_56 (by decide) ?_
  exact hK4 _ _ _ h _ _ _ w (lv_sub hl [1, 2, 0] rfl)
set_option maxRecDepth 100000 in
set_option maxHeartbeats 4000000 in
theorem w_X11_linePulls_L4 {p : Program} {l : Launch} {e : Env} {R : Room} {s : State} {m : MethodId} {args : Array Value} {below : List Frame} {meth : Method} {c : Code} {dC : Nat → ClassId} {dI : Nat → Nat → Nat} {cs : Nat → ClassId} {ad : Nat → Nat} {A : Nat → Prop} {D0 : Nat → Nat} {S' : SS} {r : Int32} (F : Fx p s m args meth c cX11_linePulls 3 RX11 (some .int) dC dI cs A) (hR1 : 4 ≤ R.frames) (hR2 : 86 ≤ R.locals) : ∀ (n : Nat) (x1 : Int32) (x2 : Int32) (S : SS), f_X11_linePulls_L4 n x1 x2 S = some (r, S') → AW p l e R s m args below meth c dC dI cs ad A D0 (some (.int r)) S' 3 4 [(0, .ref (ad 0)), (1, .int x1), (2, .int x2)] [] S := by
  have hx := F.1.1
  have hb := F.1.2.1
  intro n
  induction n with
  | zero => intro x1 x2 S h; cases h
  | succ n ih =>
    intro x1 x2 S h H locs ls w hl
    rw [f_X11_linePulls_L4] at h
    refine lv_iload_n (pc := 4) hx hb dX11_linePulls_4 rfl (lv_at hl 2 rfl) ?_
    refine lv_aload_n (pc := 5) hx hb dX11_linePulls_5 rfl (lv_at hl 0 rfl) ?_
    refine s_getR (pc := 6) F w 7 ds_0 (j := 6) vc_X11 vi_X11 rfl (by decide) kf_X11_58 dX11_linePulls_6 ?_
    refine s_getI (pc := 9) F w ds_7 (j := 4) vc_X10 vi_X10 rfl (by decide) kf_X11_296 dX11_linePulls_9 ?_
    refine lv_icmp_ge (pc := 12) (tgt := 59) hx hb dX11_linePulls_12 (by decide) (fun q => ?_) (fun q => ?_)
    · have h := ite_t q h
      refine lv_iload_n (pc := 59) hx hb dX11_linePulls_59 rfl (lv_at hl 1 rfl) ?_
      exact s_iret F w h dX11_linePulls_60
    · have h := ite_f q h
      refine lv_aload_n (pc := 15) hx hb dX11_linePulls_15 rfl (lv_at hl 0 rfl) ?_
      refine s_getR (pc := 16) F w 4 ds_0 (j := 3) vc_X11 vi_X11 rfl (by decide) kf_X11_33 dX11_linePulls_16 ?_
      refine lv_aload_n (pc := 19) hx hb dX11_linePulls_19 rfl (lv_at hl 0 rfl) ?_
      refine s_getR (pc := 20) F w 7 ds_0 (j := 6) vc_X11 vi_X11 rfl (by decide) kf_X11_58 dX11_linePulls_20 ?_
      refine lv_iload_n (pc := 23) hx hb dX11_linePulls_23 rfl (lv_at hl 2 rfl) ?_
      obtain ⟨r2, S1, hc, h⟩ := bnd_t h
      refine s_cvi (pc := 24) [.int x2] (fun ad => [.ref (ad 7), .int x2]) F w (m_X10_inLine _ _ _ _ hc) rfl rfl hl.1 ds_7 vc_X10 rfl ok_X10_inLine rfl kc_X10_inLine kl_X11_299 ki_X10_inLine kv_X10_inLine kn_X10 ⟨Nat.le_trans (by decide) hR1, Nat.le_trans (by decide) hR2⟩ ⟨Nat.zero_le _, Nat.zero_le _⟩ (Nat.le_of_ble_eq_true rfl) dX11_linePulls_24 (fun H locs w => ?_)
      refine lv_bipush (pc := 27) (v := 96) hx hb dX11_linePulls_27 (by decide) ?_
      obtain ⟨r4, S3, hc, h⟩ := bnd_t h
      refine s_cvi (pc := 29) [.int r2, .int (96 : Int32)] (fun ad => [.ref (ad 4), .int r2, .int (96 : Int32)]) F w (m_X9_isAs _ _ _ _ _ hc) rfl rfl hl.1 ds_4 vc_X9 rfl ok_X9_isAs rfl kc_X9_isAs kl_X11_247 ki_X9_isAs kv_X9_isAs kn_X9 ⟨Nat.le_trans (by decide) hR1, Nat.le_trans (by decide) hR2⟩ ⟨Nat.zero_le _, Nat.zero_le _⟩ (Nat.le_of_ble_eq_true rfl) dX11_linePulls_29 (fun H locs w => ?_)
      refine lv_if_eq (pc := 32) (tgt := 53) hx hb dX11_linePulls_32 (by decide) (fun q => ?_) (fun q => ?_)
      · have h := ite_t q h
        exact w_X11_linePulls_j53 F (Nat.le_trans (by decide) hR1) (Nat.le_trans (by decide) hR2) _ (fun v0 v1 S h => ih v0 v1 S h) _ _ _ h _ _ _ w (lv_sub hl [0, 1, 2] rfl)
      · have h := ite_f q h
        refine lv_iload_n (pc := 35) hx hb dX11_linePulls_35 rfl (lv_at hl 1 rfl) ?_
        refine lv_aload_n (pc := 36) hx hb dX11_linePulls_36 rfl (lv_at hl 0 rfl) ?_
        refine s_getR (pc := 37) F w 8 ds_0 (j := 7) vc_X11 vi_X11 rfl (by decide) kf_X11_67 dX11_linePulls_37 ?_
        refine lv_aload_n (pc := 40) hx hb dX11_linePulls_40 rfl (lv_at hl 0 rfl) ?_
        refine s_getR (pc := 41) F w 7 ds_0 (j := 6) vc_X11 vi_X11 rfl (by decide) kf_X11_58 dX11_linePulls_41 ?_
        refine lv_iload_n (pc := 44) hx hb dX11_linePulls_44 rfl (lv_at hl 2 rfl) ?_
        obtain ⟨r7, S6, hc, h⟩ := bnd_t h
        refine s_cvi (pc := 45) [.int x2] (fun ad => [.ref (ad 7), .int x2]) F w (m_X10_inLine _ _ _ _ hc) rfl rfl hl.1 ds_7 vc_X10 rfl ok_X10_inLine rfl kc_X10_inLine kl_X11_299 ki_X10_inLine kv_X10_inLine kn_X10 ⟨Nat.le_trans (by decide) hR1, Nat.le_trans (by decide) hR2⟩ ⟨Nat.zero_le _, Nat.zero_le _⟩ (Nat.le_of_ble_eq_true rfl) dX11_linePulls_45 (fun H locs w => ?_)
        obtain ⟨r9, S8, hc, h⟩ := bnd_t h
        refine s_cvi (pc := 48) [.int r7] (fun ad => [.ref (ad 8), .int r7]) F w (m_X0_pulls _ _ _ _ hc) rfl rfl hl.1 ds_8 vc_X0 rfl ok_X0_pulls rfl kc_X0_pulls kl_X11_305 ki_X0_pulls kv_X0_pulls kn_X0 ⟨Nat.le_trans (by decide) hR1, Nat.le_trans (by decide) hR2⟩ ⟨Nat.zero_le _, Nat.zero_le _⟩ (Nat.le_of_ble_eq_true rfl) dX11_linePulls_48 (fun H locs w => ?_)
        refine lv_iadd (pc := 51) hx hb dX11_linePulls_51 ?_
        refine s_nm h (fun z10 ez10 h => ?_)
        rw [← ez10]
        refine lv_istore_n (pc := 52) (lv' := [(1, .int z10), (0, .ref (ad 0)), (2, .int x2)]) hx hb dX11_linePulls_52 rfl hl (by decide) rfl (fun ls hl => ?_)
        exact w_X11_linePulls_j53 F (Nat.le_trans (by decide) hR1) (Nat.le_trans (by decide) hR2) _ (fun v0 v1 S h => ih v0 v1 S h) _ _ _ h _ _ _ w (lv_sub hl [1, 0, 2] rfl)
set_option maxRecDepth 100000 in
set_option maxHeartbeats 4000000 in
theorem m_X11_linePulls  (S S' : SS) (r : Int32) (h : f_X11_linePulls  S = some (r, S')) : MT yX11_linePulls cX11_linePulls 3 (some .int) 4 86 (fun ad => [.ref (ad 0)]) S (some (.int r)) S' := by
  refine MT.of RX11 (fun ad => [(0, .ref (ad 0))]) (by decide) rfl (fun _ => Nat.le_of_ble_eq_true rfl) (fun _ => rfl) ?_
  intro p l e R s m args below meth c dC dI cs ad A hR1 hR2 F H locs ls w hl
  have hx := F.1.1
  have hb := F.1.2.1
  rw [f_X11_linePulls] at h
  refine lv_iconst (pc := 0) (v := 0) hx hb dX11_linePulls_0 (by decide) ?_
  refine lv_istore_n (pc := 1) (lv' := [(1, .int (0 : Int32)), (0, .ref (ad 0))]) hx hb dX11_linePulls_1 rfl hl (by decide) rfl (fun ls hl => ?_)
  refine lv_iconst (pc := 2) (v := 0) hx hb dX11_linePulls_2 (by decide) ?_
  refine lv_istore_n (pc := 3) (lv' := [(2, .int (0 : Int32)), (1, .int (0 : Int32)), (0, .ref (ad 0))]) hx hb dX11_linePulls_3 rfl hl (by decide) rfl (fun ls hl => ?_)
  exact w_X11_linePulls_L4 F (Nat.le_trans (by decide) hR1) (Nat.le_trans (by decide) hR2) _ _ _ _ h _ _ _ w (lv_sub hl [2, 1, 0] rfl)
def f_X8_goTo (a1 : Int32) (a2 : Int32) (a3 : Int32) (S : SS) : Option (SS) :=
  bndv (f_X8_set (a1 >>> ((1 : Int32) &&& 31)) (0 : Int32) a2 S) (fun S1 =>
  bndv (f_X8_set (a1 >>> ((1 : Int32) &&& 31)) (1 : Int32) (a3 ^^^ (a1 &&& (1 : Int32))) S1) (fun S2 =>
  some S2))
theorem dX8_goTo_0 : decode cX8_goTo 0 = .ok (.aload_n 0, 1) := by decide +kernel
theorem dX8_goTo_1 : decode cX8_goTo 1 = .ok (.iload_n 1, 1) := by decide +kernel
theorem dX8_goTo_2 : decode cX8_goTo 2 = .ok (.iconst 1, 1) := by decide +kernel
theorem dX8_goTo_3 : decode cX8_goTo 3 = .ok (.ishr, 1) := by decide +kernel
theorem dX8_goTo_4 : decode cX8_goTo 4 = .ok (.iconst 0, 1) := by decide +kernel
theorem dX8_goTo_5 : decode cX8_goTo 5 = .ok (.iload_n 2, 1) := by decide +kernel
theorem dX8_goTo_6 : decode cX8_goTo 6 = .ok (.invokevirtual 27, 3) := by decide +kernel
theorem dX8_goTo_9 : decode cX8_goTo 9 = .ok (.aload_n 0, 1) := by decide +kernel
theorem dX8_goTo_10 : decode cX8_goTo 10 = .ok (.iload_n 1, 1) := by decide +kernel
theorem dX8_goTo_11 : decode cX8_goTo 11 = .ok (.iconst 1, 1) := by decide +kernel
theorem dX8_goTo_12 : decode cX8_goTo 12 = .ok (.ishr, 1) := by decide +kernel
theorem dX8_goTo_13 : decode cX8_goTo 13 = .ok (.iconst 1, 1) := by decide +kernel
theorem dX8_goTo_14 : decode cX8_goTo 14 = .ok (.iload_n 3, 1) := by decide +kernel
theorem dX8_goTo_15 : decode cX8_goTo 15 = .ok (.iload_n 1, 1) := by decide +kernel
theorem dX8_goTo_16 : decode cX8_goTo 16 = .ok (.iconst 1, 1) := by decide +kernel
theorem dX8_goTo_17 : decode cX8_goTo 17 = .ok (.iand, 1) := by decide +kernel
theorem dX8_goTo_18 : decode cX8_goTo 18 = .ok (.ixor, 1) := by decide +kernel
theorem dX8_goTo_19 : decode cX8_goTo 19 = .ok (.invokevirtual 27, 3) := by decide +kernel
theorem dX8_goTo_22 : decode cX8_goTo 22 = .ok (.return_, 1) := by decide +kernel
set_option maxRecDepth 100000 in
set_option maxHeartbeats 4000000 in
theorem m_X8_goTo (a1 : Int32) (a2 : Int32) (a3 : Int32) (S S' : SS) (h : f_X8_goTo a1 a2 a3 S = some S') : MT yX8_goTo cX8_goTo 4 none 1 23 (fun ad => [.ref (ad 2), .int a1, .int a2, .int a3]) S none S' := by
  refine MT.of RX8 (fun ad => [(0, .ref (ad 2)), (1, .int a1), (2, .int a2), (3, .int a3)]) (by decide) rfl (fun _ => Nat.le_of_ble_eq_true rfl) (fun _ => rfl) ?_
  intro p l e R s m args below meth c dC dI cs ad A hR1 hR2 F H locs ls w hl
  have hx := F.1.1
  have hb := F.1.2.1
  rw [f_X8_goTo] at h
  refine lv_aload_n (pc := 0) hx hb dX8_goTo_0 rfl (lv_at hl 0 rfl) ?_
  refine lv_iload_n (pc := 1) hx hb dX8_goTo_1 rfl (lv_at hl 1 rfl) ?_
  refine lv_iconst (pc := 2) (v := 1) hx hb dX8_goTo_2 (by decide) ?_
  refine lv_ishr (pc := 3) hx hb dX8_goTo_3 ?_
  refine lv_iconst (pc := 4) (v := 0) hx hb dX8_goTo_4 (by decide) ?_
  refine lv_iload_n (pc := 5) hx hb dX8_goTo_5 rfl (lv_at hl 2 rfl) ?_
  obtain ⟨S1, hc, h⟩ := bndv_t h
  refine s_cvv (pc := 6) [.int (a1 >>> ((1 : Int32) &&& 31)), .int (0 : Int32), .int a2] (fun ad => [.ref (ad 2), .int (a1 >>> ((1 : Int32) &&& 31)), .int (0 : Int32), .int a2]) F w (m_X8_set _ _ _ _ _ hc) rfl rfl hl.1 ds_2 vc_X8 rfl ok_X8_set rfl kc_X8_set kl_X8_27 ki_X8_set kv_X8_set kn_X8 ⟨Nat.le_trans (by decide) hR1, Nat.le_trans (by decide) hR2⟩ ⟨Nat.zero_le _, Nat.zero_le _⟩ (Nat.le_of_ble_eq_true rfl) dX8_goTo_6 (fun H locs w => ?_)
  refine lv_aload_n (pc := 9) hx hb dX8_goTo_9 rfl (lv_at hl 0 rfl) ?_
  refine lv_iload_n (pc := 10) hx hb dX8_goTo_10 rfl (lv_at hl 1 rfl) ?_
  refine lv_iconst (pc := 11) (v := 1) hx hb dX8_goTo_11 (by decide) ?_
  refine lv_ishr (pc := 12) hx hb dX8_goTo_12 ?_
  refine lv_iconst (pc := 13) (v := 1) hx hb dX8_goTo_13 (by decide) ?_
  refine lv_iload_n (pc := 14) hx hb dX8_goTo_14 rfl (lv_at hl 3 rfl) ?_
  refine lv_iload_n (pc := 15) hx hb dX8_goTo_15 rfl (lv_at hl 1 rfl) ?_
  refine lv_iconst (pc := 16) (v := 1) hx hb dX8_goTo_16 (by decide) ?_
  refine lv_iand (pc := 17) hx hb dX8_goTo_17 ?_
  refine lv_ixor (pc := 18) hx hb dX8_goTo_18 ?_
  obtain ⟨S2, hc, h⟩ := bndv_t h
  refine s_cvv (pc := 19) [.int (a1 >>> ((1 : Int32) &&& 31)), .int (1 : Int32), .int (a3 ^^^ (a1 &&& (1 : Int32)))] (fun ad => [.ref (ad 2), .int (a1 >>> ((1 : Int32) &&& 31)), .int (1 : Int32), .int (a3 ^^^ (a1 &&& (1 : Int32)))]) F w (m_X8_set _ _ _ _ _ hc) rfl rfl hl.1 ds_2 vc_X8 rfl ok_X8_set rfl kc_X8_set kl_X8_27 ki_X8_set kv_X8_set kn_X8 ⟨Nat.le_trans (by decide) hR1, Nat.le_trans (by decide) hR2⟩ ⟨Nat.zero_le _, Nat.zero_le _⟩ (Nat.le_of_ble_eq_true rfl) dX8_goTo_19 (fun H locs w => ?_)
  exact s_vret F w h dX8_goTo_22
def f_J9_max_7cf53 (a0 : Int32) (a1 : Int32) (S : SS) : Option (Int32 × SS) :=
  if a0 < a1 then
    some (a1, S)
  else
    some (a0, S)
theorem dJ9_max_7cf53_0 : decode cJ9_max_7cf53 0 = .ok (.iload_n 0, 1) := by decide +kernel
theorem dJ9_max_7cf53_1 : decode cJ9_max_7cf53 1 = .ok (.iload_n 1, 1) := by decide +kernel
theorem dJ9_max_7cf53_2 : decode cJ9_max_7cf53 2 = .ok (.if_icmp .lt 7, 3) := by decide +kernel
theorem dJ9_max_7cf53_5 : decode cJ9_max_7cf53 5 = .ok (.iload_n 0, 1) := by decide +kernel
theorem dJ9_max_7cf53_6 : decode cJ9_max_7cf53 6 = .ok (.goto 4, 3) := by decide +kernel
theorem dJ9_max_7cf53_9 : decode cJ9_max_7cf53 9 = .ok (.iload_n 1, 1) := by decide +kernel
theorem dJ9_max_7cf53_10 : decode cJ9_max_7cf53 10 = .ok (.ireturn, 1) := by decide +kernel
set_option maxRecDepth 100000 in
set_option maxHeartbeats 4000000 in
theorem m_J9_max_7cf53 (a0 : Int32) (a1 : Int32) (S S' : SS) (r : Int32) (h : f_J9_max_7cf53 a0 a1 S = some (r, S')) : MT yJ9_max_7cf53 cJ9_max_7cf53 2 (some .int) 0 0 (fun ad => [.int a0, .int a1]) S (some (.int r)) S' := by
  refine MT.ofF RJ9 (fun ad => [(0, .int a0), (1, .int a1)]) (by decide +kernel) rfl (fun _ => Nat.le_of_ble_eq_true rfl) (fun _ => rfl) ?_
  intro p l e R s m args below meth c dC dI cs ad A hR1 hR2 F H locs ls w hl
  have hx := F.1.1
  have hb := F.1.2.1
  rw [f_J9_max_7cf53] at h
  refine lv_iload_n (pc := 0) hx hb dJ9_max_7cf53_0 rfl (lv_at hl 0 rfl) ?_
  refine lv_iload_n (pc := 1) hx hb dJ9_max_7cf53_1 rfl (lv_at hl 1 rfl) ?_
  refine lv_icmp_lt (pc := 2) (tgt := 9) hx hb dJ9_max_7cf53_2 (by decide) (fun q => ?_) (fun q => ?_)
  · have h := ite_t q h
    refine lv_iload_n (pc := 9) hx hb dJ9_max_7cf53_9 rfl (lv_at hl 1 rfl) ?_
    exact s_iret F w h dJ9_max_7cf53_10
  · have h := ite_f q h
    refine lv_iload_n (pc := 5) hx hb dJ9_max_7cf53_5 rfl (lv_at hl 0 rfl) ?_
    refine lv_goto (pc := 6) (tgt := 10) hx hb dJ9_max_7cf53_6 (by decide) ?_
    exact s_iret F w h dJ9_max_7cf53_10
def f_X10_moveLine_L11  : Nat → Int32 → Int32 → Int32 → SS → Option (SS)
  | 0, _, _, _, _ => none
  | n + 1, x2, x3, x4, S =>
    if (S.1 7 4) ≤ x4 then
      some S
    else
      bnd (f_X10_hookInLine x4 S) (fun r4 S3 =>
      bnd (f_X8_get (r4 >>> ((1 : Int32) &&& 31)) (0 : Int32) S3) (fun r6 S5 =>
      bnd (f_X8_looks r4 S5) (fun r8 S7 =>
      bndv (f_X8_goTo r4 x2 x3 S7) (fun S9 =>
      bnd (f_X8_get (r4 >>> ((1 : Int32) &&& 31)) (6 : Int32) S9) (fun r11 S10 =>
      bnd (f_J9_max_7cf53 (r11 - (1 : Int32)) (0 : Int32) S10) (fun r13 S12 =>
      bndv (f_X8_set (r4 >>> ((1 : Int32) &&& 31)) (6 : Int32) r13 S12) (fun S14 =>
      nm (x4 + (1 : Int32)) (fun z15 =>
      f_X10_moveLine_L11 n r6 r8 z15 S14))))))))
def f_X10_moveLine (a1 : Int32) (S : SS) : Option (SS) :=
  nm (a1 >>> ((1 : Int32) &&& 31)) (fun z1 =>
  nm (a1 &&& (1 : Int32)) (fun z2 =>
  f_X10_moveLine_L11 NF z1 z2 (0 : Int32) S))
theorem dX10_moveLine_0 : decode cX10_moveLine 0 = .ok (.iload_n 1, 1) := by decide +kernel
theorem dX10_moveLine_1 : decode cX10_moveLine 1 = .ok (.iconst 1, 1) := by decide +kernel
theorem dX10_moveLine_2 : decode cX10_moveLine 2 = .ok (.ishr, 1) := by decide +kernel
theorem dX10_moveLine_3 : decode cX10_moveLine 3 = .ok (.istore_n 2, 1) := by decide +kernel
theorem dX10_moveLine_4 : decode cX10_moveLine 4 = .ok (.iload_n 1, 1) := by decide +kernel
theorem dX10_moveLine_5 : decode cX10_moveLine 5 = .ok (.iconst 1, 1) := by decide +kernel
theorem dX10_moveLine_6 : decode cX10_moveLine 6 = .ok (.iand, 1) := by decide +kernel
theorem dX10_moveLine_7 : decode cX10_moveLine 7 = .ok (.istore_n 3, 1) := by decide +kernel
theorem dX10_moveLine_8 : decode cX10_moveLine 8 = .ok (.iconst 0, 1) := by decide +kernel
theorem dX10_moveLine_9 : decode cX10_moveLine 9 = .ok (.istore 4, 2) := by decide +kernel
theorem dX10_moveLine_11 : decode cX10_moveLine 11 = .ok (.iload 4, 2) := by decide +kernel
theorem dX10_moveLine_13 : decode cX10_moveLine 13 = .ok (.aload_n 0, 1) := by decide +kernel
theorem dX10_moveLine_14 : decode cX10_moveLine 14 = .ok (.getfield 17, 3) := by decide +kernel
theorem dX10_moveLine_17 : decode cX10_moveLine 17 = .ok (.if_icmp .ge 91, 3) := by decide +kernel
theorem dX10_moveLine_20 : decode cX10_moveLine 20 = .ok (.aload_n 0, 1) := by decide +kernel
theorem dX10_moveLine_21 : decode cX10_moveLine 21 = .ok (.iload 4, 2) := by decide +kernel
theorem dX10_moveLine_23 : decode cX10_moveLine 23 = .ok (.invokevirtual 44, 3) := by decide +kernel
theorem dX10_moveLine_26 : decode cX10_moveLine 26 = .ok (.istore 5, 2) := by decide +kernel
theorem dX10_moveLine_28 : decode cX10_moveLine 28 = .ok (.aload_n 0, 1) := by decide +kernel
theorem dX10_moveLine_29 : decode cX10_moveLine 29 = .ok (.getfield 24, 3) := by decide +kernel
theorem dX10_moveLine_32 : decode cX10_moveLine 32 = .ok (.iload 5, 2) := by decide +kernel
theorem dX10_moveLine_34 : decode cX10_moveLine 34 = .ok (.iconst 1, 1) := by decide +kernel
theorem dX10_moveLine_35 : decode cX10_moveLine 35 = .ok (.ishr, 1) := by decide +kernel
theorem dX10_moveLine_36 : decode cX10_moveLine 36 = .ok (.iconst 0, 1) := by decide +kernel
theorem dX10_moveLine_37 : decode cX10_moveLine 37 = .ok (.invokevirtual 36, 3) := by decide +kernel
theorem dX10_moveLine_40 : decode cX10_moveLine 40 = .ok (.istore 6, 2) := by decide +kernel
theorem dX10_moveLine_42 : decode cX10_moveLine 42 = .ok (.aload_n 0, 1) := by decide +kernel
theorem dX10_moveLine_43 : decode cX10_moveLine 43 = .ok (.getfield 24, 3) := by decide +kernel
theorem dX10_moveLine_46 : decode cX10_moveLine 46 = .ok (.iload 5, 2) := by decide +kernel
theorem dX10_moveLine_48 : decode cX10_moveLine 48 = .ok (.invokevirtual 54, 3) := by decide +kernel
theorem dX10_moveLine_51 : decode cX10_moveLine 51 = .ok (.istore 7, 2) := by decide +kernel
theorem dX10_moveLine_53 : decode cX10_moveLine 53 = .ok (.aload_n 0, 1) := by decide +kernel
theorem dX10_moveLine_54 : decode cX10_moveLine 54 = .ok (.getfield 24, 3) := by decide +kernel
theorem dX10_moveLine_57 : decode cX10_moveLine 57 = .ok (.iload 5, 2) := by decide +kernel
theorem dX10_moveLine_59 : decode cX10_moveLine 59 = .ok (.iload_n 2, 1) := by decide +kernel
theorem dX10_moveLine_60 : decode cX10_moveLine 60 = .ok (.iload_n 3, 1) := by decide +kernel
theorem dX10_moveLine_61 : decode cX10_moveLine 61 = .ok (.invokevirtual 108, 3) := by decide +kernel
theorem dX10_moveLine_64 : decode cX10_moveLine 64 = .ok (.aload_n 0, 1) := by decide +kernel
theorem dX10_moveLine_65 : decode cX10_moveLine 65 = .ok (.getfield 24, 3) := by decide +kernel
theorem dX10_moveLine_68 : decode cX10_moveLine 68 = .ok (.iload 5, 2) := by decide +kernel
theorem dX10_moveLine_70 : decode cX10_moveLine 70 = .ok (.iconst 1, 1) := by decide +kernel
theorem dX10_moveLine_71 : decode cX10_moveLine 71 = .ok (.ishr, 1) := by decide +kernel
theorem dX10_moveLine_72 : decode cX10_moveLine 72 = .ok (.bipush 6, 2) := by decide +kernel
theorem dX10_moveLine_74 : decode cX10_moveLine 74 = .ok (.aload_n 0, 1) := by decide +kernel
theorem dX10_moveLine_75 : decode cX10_moveLine 75 = .ok (.getfield 24, 3) := by decide +kernel
theorem dX10_moveLine_78 : decode cX10_moveLine 78 = .ok (.iload 5, 2) := by decide +kernel
theorem dX10_moveLine_80 : decode cX10_moveLine 80 = .ok (.iconst 1, 1) := by decide +kernel
theorem dX10_moveLine_81 : decode cX10_moveLine 81 = .ok (.ishr, 1) := by decide +kernel
theorem dX10_moveLine_82 : decode cX10_moveLine 82 = .ok (.bipush 6, 2) := by decide +kernel
theorem dX10_moveLine_84 : decode cX10_moveLine 84 = .ok (.invokevirtual 36, 3) := by decide +kernel
theorem dX10_moveLine_87 : decode cX10_moveLine 87 = .ok (.iconst 1, 1) := by decide +kernel
theorem dX10_moveLine_88 : decode cX10_moveLine 88 = .ok (.isub, 1) := by decide +kernel
theorem dX10_moveLine_89 : decode cX10_moveLine 89 = .ok (.iconst 0, 1) := by decide +kernel
theorem dX10_moveLine_90 : decode cX10_moveLine 90 = .ok (.invokestatic 111, 3) := by decide +kernel
theorem dX10_moveLine_93 : decode cX10_moveLine 93 = .ok (.invokevirtual 50, 3) := by decide +kernel
theorem dX10_moveLine_96 : decode cX10_moveLine 96 = .ok (.iload 6, 2) := by decide +kernel
theorem dX10_moveLine_98 : decode cX10_moveLine 98 = .ok (.istore_n 2, 1) := by decide +kernel
theorem dX10_moveLine_99 : decode cX10_moveLine 99 = .ok (.iload 7, 2) := by decide +kernel
theorem dX10_moveLine_101 : decode cX10_moveLine 101 = .ok (.istore_n 3, 1) := by decide +kernel
theorem dX10_moveLine_102 : decode cX10_moveLine 102 = .ok (.iinc 4 1, 3) := by decide +kernel
theorem dX10_moveLine_105 : decode cX10_moveLine 105 = .ok (.goto (-94), 3) := by decide +kernel
theorem dX10_moveLine_108 : decode cX10_moveLine 108 = .ok (.return_, 1) := by decide +kernel
set_option maxRecDepth 100000 in
set_option maxHeartbeats 4000000 in
theorem w_X10_moveLine_L11 {p : Program} {l : Launch} {e : Env} {R : Room} {s : State} {m : MethodId} {args : Array Value} {below : List Frame} {meth : Method} {c : Code} {dC : Nat → ClassId} {dI : Nat → Nat → Nat} {cs : Nat → ClassId} {ad : Nat → Nat} {A : Nat → Prop} {D0 : Nat → Nat} {S' : SS} (F : Fx p s m args meth c cX10_moveLine 8 RX10 none dC dI cs A) (hR1 : 2 ≤ R.frames) (hR2 : 46 ≤ R.locals) : ∀ (n : Nat) (x2 : Int32) (x3 : Int32) (x4 : Int32) (S : SS), f_X10_moveLine_L11 n x2 x3 x4 S = some S' → AW p l e R s m args below meth c dC dI cs ad A D0 none S' 8 11 [(0, .ref (ad 7)), (2, .int x2), (3, .int x3), (4, .int x4)] [] S := by
  have hx := F.1.1
  have hb := F.1.2.1
  intro n
  induction n with
  | zero => intro x2 x3 x4 S h; cases h
  | succ n ih =>
    intro x2 x3 x4 S h H locs ls w hl
    rw [f_X10_moveLine_L11] at h
    refine lv_iload (pc := 11) hx hb dX10_moveLine_11 (lv_at hl 3 rfl) ?_
    refine lv_aload_n (pc := 13) hx hb dX10_moveLine_13 rfl (lv_at hl 0 rfl) ?_
    refine s_getI (pc := 14) F w ds_7 (j := 4) vc_X10 vi_X10 rfl (by decide) kf_X10_17 dX10_moveLine_14 ?_
    refine lv_icmp_ge (pc := 17) (tgt := 108) hx hb dX10_moveLine_17 (by decide) (fun q => ?_) (fun q => ?_)
    · have h := ite_t q h
      exact s_vret F w h dX10_moveLine_108
    · have h := ite_f q h
      refine lv_aload_n (pc := 20) hx hb dX10_moveLine_20 rfl (lv_at hl 0 rfl) ?_
      refine lv_iload (pc := 21) hx hb dX10_moveLine_21 (lv_at hl 3 rfl) ?_
      obtain ⟨r4, S3, hc, h⟩ := bnd_t h
      refine s_cvi (pc := 23) [.int x4] (fun ad => [.ref (ad 7), .int x4]) F w (m_X10_hookInLine _ _ _ _ hc) rfl rfl hl.1 ds_7 vc_X10 rfl ok_X10_hookInLine rfl kc_X10_hookInLine kl_X10_44 ki_X10_hookInLine kv_X10_hookInLine kn_X10 ⟨Nat.le_trans (by decide) hR1, Nat.le_trans (by decide) hR2⟩ ⟨Nat.zero_le _, Nat.zero_le _⟩ (Nat.le_of_ble_eq_true rfl) dX10_moveLine_23 (fun H locs w => ?_)
      refine lv_istore (pc := 26) (lv' := [(5, .int r4), (0, .ref (ad 7)), (2, .int x2), (3, .int x3), (4, .int x4)]) hx hb dX10_moveLine_26 hl (by decide) rfl (fun ls hl => ?_)
      refine lv_aload_n (pc := 28) hx hb dX10_moveLine_28 rfl (lv_at hl 1 rfl) ?_
      refine s_getR (pc := 29) F w 2 ds_7 (j := 0) vc_X10 vi_X10 rfl (by decide) kf_X10_24 dX10_moveLine_29 ?_
      refine lv_iload (pc := 32) hx hb dX10_moveLine_32 (lv_at hl 0 rfl) ?_
      refine lv_iconst (pc := 34) (v := 1) hx hb dX10_moveLine_34 (by decide) ?_
      refine lv_ishr (pc := 35) hx hb dX10_moveLine_35 ?_
      refine lv_iconst (pc := 36) (v := 0) hx hb dX10_moveLine_36 (by decide) ?_
      obtain ⟨r6, S5, hc, h⟩ := bnd_t h
      refine s_cvi (pc := 37) [.int (r4 >>> ((1 : Int32) &&& 31)), .int (0 : Int32)] (fun ad => [.ref (ad 2), .int (r4 >>> ((1 : Int32) &&& 31)), .int (0 : Int32)]) F w (m_X8_get _ _ _ _ _ hc) rfl rfl hl.1 ds_2 vc_X8 rfl ok_X8_get rfl kc_X8_get kl_X10_36 ki_X8_get kv_X8_get kn_X8 ⟨Nat.le_trans (by decide) hR1, Nat.le_trans (by decide) hR2⟩ ⟨Nat.zero_le _, Nat.zero_le _⟩ (Nat.le_of_ble_eq_true rfl) dX10_moveLine_37 (fun H locs w => ?_)
      refine lv_istore (pc := 40) (lv' := [(6, .int r6), (5, .int r4), (0, .ref (ad 7)), (2, .int x2), (3, .int x3), (4, .int x4)]) hx hb dX10_moveLine_40 hl (by decide) rfl (fun ls hl => ?_)
      refine lv_aload_n (pc := 42) hx hb dX10_moveLine_42 rfl (lv_at hl 2 rfl) ?_
      refine s_getR (pc := 43) F w 2 ds_7 (j := 0) vc_X10 vi_X10 rfl (by decide) kf_X10_24 dX10_moveLine_43 ?_
      refine lv_iload (pc := 46) hx hb dX10_moveLine_46 (lv_at hl 1 rfl) ?_
      obtain ⟨r8, S7, hc, h⟩ := bnd_t h
      refine s_cvi (pc := 48) [.int r4] (fun ad => [.ref (ad 2), .int r4]) F w (m_X8_looks _ _ _ _ hc) rfl rfl hl.1 ds_2 vc_X8 rfl ok_X8_looks rfl kc_X8_looks kl_X10_54 ki_X8_looks kv_X8_looks kn_X8 ⟨Nat.le_trans (by decide) hR1, Nat.le_trans (by decide) hR2⟩ ⟨Nat.zero_le _, Nat.zero_le _⟩ (Nat.le_of_ble_eq_true rfl) dX10_moveLine_48 (fun H locs w => ?_)
      refine lv_istore (pc := 51) (lv' := [(7, .int r8), (6, .int r6), (5, .int r4), (0, .ref (ad 7)), (2, .int x2), (3, .int x3), (4, .int x4)]) hx hb dX10_moveLine_51 hl (by decide) rfl (fun ls hl => ?_)
      refine lv_aload_n (pc := 53) hx hb dX10_moveLine_53 rfl (lv_at hl 3 rfl) ?_
      refine s_getR (pc := 54) F w 2 ds_7 (j := 0) vc_X10 vi_X10 rfl (by decide) kf_X10_24 dX10_moveLine_54 ?_
      refine lv_iload (pc := 57) hx hb dX10_moveLine_57 (lv_at hl 2 rfl) ?_
      refine lv_iload_n (pc := 59) hx hb dX10_moveLine_59 rfl (lv_at hl 4 rfl) ?_
      refine lv_iload_n (pc := 60) hx hb dX10_moveLine_60 rfl (lv_at hl 5 rfl) ?_
      obtain ⟨S9, hc, h⟩ := bndv_t h
      refine s_cvv (pc := 61) [.int r4, .int x2, .int x3] (fun ad => [.ref (ad 2), .int r4, .int x2, .int x3]) F w (m_X8_goTo _ _ _ _ _ hc) rfl rfl hl.1 ds_2 vc_X8 rfl ok_X8_goTo rfl kc_X8_goTo kl_X10_108 ki_X8_goTo kv_X8_goTo kn_X8 ⟨Nat.le_trans (by decide) hR1, Nat.le_trans (by decide) hR2⟩ ⟨Nat.zero_le _, Nat.zero_le _⟩ (Nat.le_of_ble_eq_true rfl) dX10_moveLine_61 (fun H locs w => ?_)
      refine lv_aload_n (pc := 64) hx hb dX10_moveLine_64 rfl (lv_at hl 3 rfl) ?_
      refine s_getR (pc := 65) F w 2 ds_7 (j := 0) vc_X10 vi_X10 rfl (by decide) kf_X10_24 dX10_moveLine_65 ?_
      refine lv_iload (pc := 68) hx hb dX10_moveLine_68 (lv_at hl 2 rfl) ?_
      refine lv_iconst (pc := 70) (v := 1) hx hb dX10_moveLine_70 (by decide) ?_
      refine lv_ishr (pc := 71) hx hb dX10_moveLine_71 ?_
      refine lv_bipush (pc := 72) (v := 6) hx hb dX10_moveLine_72 (by decide) ?_
      refine lv_aload_n (pc := 74) hx hb dX10_moveLine_74 rfl (lv_at hl 3 rfl) ?_
      refine s_getR (pc := 75) F w 2 ds_7 (j := 0) vc_X10 vi_X10 rfl (by decide) kf_X10_24 dX10_moveLine_75 ?_
      refine lv_iload (pc := 78) hx hb dX10_moveLine_78 (lv_at hl 2 rfl) ?_
      refine lv_iconst (pc := 80) (v := 1) hx hb dX10_moveLine_80 (by decide) ?_
      refine lv_ishr (pc := 81) hx hb dX10_moveLine_81 ?_
      refine lv_bipush (pc := 82) (v := 6) hx hb dX10_moveLine_82 (by decide) ?_
      obtain ⟨r11, S10, hc, h⟩ := bnd_t h
      refine s_cvi (pc := 84) [.int (r4 >>> ((1 : Int32) &&& 31)), .int (6 : Int32)] (fun ad => [.ref (ad 2), .int (r4 >>> ((1 : Int32) &&& 31)), .int (6 : Int32)]) F w (m_X8_get _ _ _ _ _ hc) rfl rfl hl.1 ds_2 vc_X8 rfl ok_X8_get rfl kc_X8_get kl_X10_36 ki_X8_get kv_X8_get kn_X8 ⟨Nat.le_trans (by decide) hR1, Nat.le_trans (by decide) hR2⟩ ⟨Nat.zero_le _, Nat.zero_le _⟩ (Nat.le_of_ble_eq_true rfl) dX10_moveLine_84 (fun H locs w => ?_)
      refine lv_iconst (pc := 87) (v := 1) hx hb dX10_moveLine_87 (by decide) ?_
      refine lv_isub (pc := 88) hx hb dX10_moveLine_88 ?_
      refine lv_iconst (pc := 89) (v := 0) hx hb dX10_moveLine_89 (by decide) ?_
      obtain ⟨r13, S12, hc, h⟩ := bnd_t h
      refine s_csi (pc := 90) [.int (r11 - (1 : Int32)), .int (0 : Int32)] (fun ad => [.int (r11 - (1 : Int32)), .int (0 : Int32)]) F w (m_J9_max_7cf53 _ _ _ _ _ hc) rfl rfl hl.1 ok_J9_max_7cf53 rfl kc_J9_max_7cf53 kl_X10_111 ks_J9_max_7cf53 kn_J9 ⟨Nat.le_trans (by decide) hR1, Nat.le_trans (by decide) hR2⟩ ⟨Nat.zero_le _, Nat.zero_le _⟩ (Nat.le_of_ble_eq_true rfl) dX10_moveLine_90 (fun H locs w => ?_)
      obtain ⟨S14, hc, h⟩ := bndv_t h
      refine s_cvv (pc := 93) [.int (r4 >>> ((1 : Int32) &&& 31)), .int (6 : Int32), .int r13] (fun ad => [.ref (ad 2), .int (r4 >>> ((1 : Int32) &&& 31)), .int (6 : Int32), .int r13]) F w (m_X8_set _ _ _ _ _ hc) rfl rfl hl.1 ds_2 vc_X8 rfl ok_X8_set rfl kc_X8_set kl_X10_50 ki_X8_set kv_X8_set kn_X8 ⟨Nat.le_trans (by decide) hR1, Nat.le_trans (by decide) hR2⟩ ⟨Nat.zero_le _, Nat.zero_le _⟩ (Nat.le_of_ble_eq_true rfl) dX10_moveLine_93 (fun H locs w => ?_)
      refine lv_iload (pc := 96) hx hb dX10_moveLine_96 (lv_at hl 1 rfl) ?_
      refine lv_istore_n (pc := 98) (lv' := [(2, .int r6), (7, .int r8), (6, .int r6), (5, .int r4), (0, .ref (ad 7)), (3, .int x3), (4, .int x4)]) hx hb dX10_moveLine_98 rfl hl (by decide) rfl (fun ls hl => ?_)
      refine lv_iload (pc := 99) hx hb dX10_moveLine_99 (lv_at hl 1 rfl) ?_
      refine lv_istore_n (pc := 101) (lv' := [(3, .int r8), (2, .int r6), (7, .int r8), (6, .int r6), (5, .int r4), (0, .ref (ad 7)), (4, .int x4)]) hx hb dX10_moveLine_101 rfl hl (by decide) rfl (fun ls hl => ?_)
      refine s_nm h (fun z15 ez15 h => ?_)
      refine lv_iinc (pc := 102) (v := z15) (lv' := [(4, .int z15), (3, .int r8), (2, .int r6), (7, .int r8), (6, .int r6), (5, .int r4), (0, .ref (ad 7))]) hx hb dX10_moveLine_102 hl (k := 6) rfl (by rw [ez15]; rfl) (by decide) rfl (fun ls hl => ?_)
      refine lv_goto (pc := 105) (tgt := 11) hx hb dX10_moveLine_105 (by decide) ?_
      exact ih _ _ _ _ h _ _ _ w (lv_sub hl [6, 2, 1, 0] rfl)
set_option maxRecDepth 100000 in
set_option maxHeartbeats 4000000 in
theorem m_X10_moveLine (a1 : Int32) (S S' : SS) (h : f_X10_moveLine a1 S = some S') : MT yX10_moveLine cX10_moveLine 8 none 2 46 (fun ad => [.ref (ad 7), .int a1]) S none S' := by
  refine MT.of RX10 (fun ad => [(0, .ref (ad 7)), (1, .int a1)]) (by decide) rfl (fun _ => Nat.le_of_ble_eq_true rfl) (fun _ => rfl) ?_
  intro p l e R s m args below meth c dC dI cs ad A hR1 hR2 F H locs ls w hl
  have hx := F.1.1
  have hb := F.1.2.1
  rw [f_X10_moveLine] at h
  refine lv_iload_n (pc := 0) hx hb dX10_moveLine_0 rfl (lv_at hl 1 rfl) ?_
  refine lv_iconst (pc := 1) (v := 1) hx hb dX10_moveLine_1 (by decide) ?_
  refine lv_ishr (pc := 2) hx hb dX10_moveLine_2 ?_
  refine s_nm h (fun z1 ez1 h => ?_)
  rw [← ez1]
  refine lv_istore_n (pc := 3) (lv' := [(2, .int z1), (0, .ref (ad 7)), (1, .int a1)]) hx hb dX10_moveLine_3 rfl hl (by decide) rfl (fun ls hl => ?_)
  refine lv_iload_n (pc := 4) hx hb dX10_moveLine_4 rfl (lv_at hl 2 rfl) ?_
  refine lv_iconst (pc := 5) (v := 1) hx hb dX10_moveLine_5 (by decide) ?_
  refine lv_iand (pc := 6) hx hb dX10_moveLine_6 ?_
  refine s_nm h (fun z2 ez2 h => ?_)
  rw [← ez2]
  refine lv_istore_n (pc := 7) (lv' := [(3, .int z2), (2, .int z1), (0, .ref (ad 7)), (1, .int a1)]) hx hb dX10_moveLine_7 rfl hl (by decide) rfl (fun ls hl => ?_)
  refine lv_iconst (pc := 8) (v := 0) hx hb dX10_moveLine_8 (by decide) ?_
  refine lv_istore (pc := 9) (lv' := [(4, .int (0 : Int32)), (3, .int z2), (2, .int z1), (0, .ref (ad 7)), (1, .int a1)]) hx hb dX10_moveLine_9 hl (by decide) rfl (fun ls hl => ?_)
  exact w_X10_moveLine_L11 F (Nat.le_trans (by decide) hR1) (Nat.le_trans (by decide) hR2) _ _ _ _ _ h _ _ _ w (lv_sub hl [3, 2, 1, 0] rfl)
def f_X10_stepLine_L39  : Nat → Int32 → Int32 → SS → Option (Int32 × SS)
  | 0, _, _, _ => none
  | n + 1, x1, x2, S =>
    if (S.1 7 4) ≤ x2 then
      bndv (f_X10_moveLine x1 S) (fun S7 =>
      some ((0 : Int32), S7))
    else
      bnd (f_X10_inLine x2 S) (fun r9 S8 =>
      bnd (f_X8_get r9 (6 : Int32) S8) (fun r11 S10 =>
      if r11 = (1 : Int32) then
        bnd (f_X10_inLine x2 S10) (fun r14 S13 =>
        bnd (f_X10_raiseFinding r14 S13) (fun r16 S15 =>
        some (r16, S15)))
      else
        nm (x2 + (1 : Int32)) (fun z12 =>
        f_X10_stepLine_L39 n x1 z12 S10)))
def f_X10_stepLine  (S : SS) : Option (Int32 × SS) :=
  bnd (f_X10_hookInLine (0 : Int32) S) (fun r2 S1 =>
  bnd (f_X10_nextFrom r2 S1) (fun r4 S3 =>
  if r4 = (-4 : Int32) then
    some ((10 : Int32), S3)
  else
    bnd (f_X8_standsAt (r4 >>> ((1 : Int32) &&& 31)) S3) (fun r6 S5 =>
    if r6 = (-4 : Int32) then
      f_X10_stepLine_L39 NF r4 (0 : Int32) S5
    else
      some ((9 : Int32), S5))))
theorem dX10_stepLine_0 : decode cX10_stepLine 0 = .ok (.aload_n 0, 1) := by decide +kernel
theorem dX10_stepLine_1 : decode cX10_stepLine 1 = .ok (.aload_n 0, 1) := by decide +kernel
theorem dX10_stepLine_2 : decode cX10_stepLine 2 = .ok (.iconst 0, 1) := by decide +kernel
theorem dX10_stepLine_3 : decode cX10_stepLine 3 = .ok (.invokevirtual 44, 3) := by decide +kernel
theorem dX10_stepLine_6 : decode cX10_stepLine 6 = .ok (.invokevirtual 99, 3) := by decide +kernel
theorem dX10_stepLine_9 : decode cX10_stepLine 9 = .ok (.istore_n 1, 1) := by decide +kernel
theorem dX10_stepLine_10 : decode cX10_stepLine 10 = .ok (.iload_n 1, 1) := by decide +kernel
theorem dX10_stepLine_11 : decode cX10_stepLine 11 = .ok (.bipush (-4), 2) := by decide +kernel
theorem dX10_stepLine_13 : decode cX10_stepLine 13 = .ok (.if_icmp .ne 6, 3) := by decide +kernel
theorem dX10_stepLine_16 : decode cX10_stepLine 16 = .ok (.bipush 10, 2) := by decide +kernel
theorem dX10_stepLine_18 : decode cX10_stepLine 18 = .ok (.ireturn, 1) := by decide +kernel
theorem dX10_stepLine_19 : decode cX10_stepLine 19 = .ok (.aload_n 0, 1) := by decide +kernel
theorem dX10_stepLine_20 : decode cX10_stepLine 20 = .ok (.getfield 24, 3) := by decide +kernel
theorem dX10_stepLine_23 : decode cX10_stepLine 23 = .ok (.iload_n 1, 1) := by decide +kernel
theorem dX10_stepLine_24 : decode cX10_stepLine 24 = .ok (.iconst 1, 1) := by decide +kernel
theorem dX10_stepLine_25 : decode cX10_stepLine 25 = .ok (.ishr, 1) := by decide +kernel
theorem dX10_stepLine_26 : decode cX10_stepLine 26 = .ok (.invokevirtual 62, 3) := by decide +kernel
theorem dX10_stepLine_29 : decode cX10_stepLine 29 = .ok (.bipush (-4), 2) := by decide +kernel
theorem dX10_stepLine_31 : decode cX10_stepLine 31 = .ok (.if_icmp .eq 6, 3) := by decide +kernel
theorem dX10_stepLine_34 : decode cX10_stepLine 34 = .ok (.bipush 9, 2) := by decide +kernel
theorem dX10_stepLine_36 : decode cX10_stepLine 36 = .ok (.ireturn, 1) := by decide +kernel
theorem dX10_stepLine_37 : decode cX10_stepLine 37 = .ok (.iconst 0, 1) := by decide +kernel
theorem dX10_stepLine_38 : decode cX10_stepLine 38 = .ok (.istore_n 2, 1) := by decide +kernel
theorem dX10_stepLine_39 : decode cX10_stepLine 39 = .ok (.iload_n 2, 1) := by decide +kernel
theorem dX10_stepLine_40 : decode cX10_stepLine 40 = .ok (.aload_n 0, 1) := by decide +kernel
theorem dX10_stepLine_41 : decode cX10_stepLine 41 = .ok (.getfield 17, 3) := by decide +kernel
theorem dX10_stepLine_44 : decode cX10_stepLine 44 = .ok (.if_icmp .ge 37, 3) := by decide +kernel
theorem dX10_stepLine_47 : decode cX10_stepLine 47 = .ok (.aload_n 0, 1) := by decide +kernel
theorem dX10_stepLine_48 : decode cX10_stepLine 48 = .ok (.getfield 24, 3) := by decide +kernel
theorem dX10_stepLine_51 : decode cX10_stepLine 51 = .ok (.aload_n 0, 1) := by decide +kernel
theorem dX10_stepLine_52 : decode cX10_stepLine 52 = .ok (.iload_n 2, 1) := by decide +kernel
theorem dX10_stepLine_53 : decode cX10_stepLine 53 = .ok (.invokevirtual 47, 3) := by decide +kernel
theorem dX10_stepLine_56 : decode cX10_stepLine 56 = .ok (.bipush 6, 2) := by decide +kernel
theorem dX10_stepLine_58 : decode cX10_stepLine 58 = .ok (.invokevirtual 36, 3) := by decide +kernel
theorem dX10_stepLine_61 : decode cX10_stepLine 61 = .ok (.iconst 1, 1) := by decide +kernel
theorem dX10_stepLine_62 : decode cX10_stepLine 62 = .ok (.if_icmp .ne 13, 3) := by decide +kernel
theorem dX10_stepLine_65 : decode cX10_stepLine 65 = .ok (.aload_n 0, 1) := by decide +kernel
theorem dX10_stepLine_66 : decode cX10_stepLine 66 = .ok (.aload_n 0, 1) := by decide +kernel
theorem dX10_stepLine_67 : decode cX10_stepLine 67 = .ok (.iload_n 2, 1) := by decide +kernel
theorem dX10_stepLine_68 : decode cX10_stepLine 68 = .ok (.invokevirtual 47, 3) := by decide +kernel
theorem dX10_stepLine_71 : decode cX10_stepLine 71 = .ok (.invokevirtual 102, 3) := by decide +kernel
theorem dX10_stepLine_74 : decode cX10_stepLine 74 = .ok (.ireturn, 1) := by decide +kernel
theorem dX10_stepLine_75 : decode cX10_stepLine 75 = .ok (.iinc 2 1, 3) := by decide +kernel
theorem dX10_stepLine_78 : decode cX10_stepLine 78 = .ok (.goto (-39), 3) := by decide +kernel
theorem dX10_stepLine_81 : decode cX10_stepLine 81 = .ok (.aload_n 0, 1) := by decide +kernel
theorem dX10_stepLine_82 : decode cX10_stepLine 82 = .ok (.iload_n 1, 1) := by decide +kernel
theorem dX10_stepLine_83 : decode cX10_stepLine 83 = .ok (.invokevirtual 105, 3) := by decide +kernel
theorem dX10_stepLine_86 : decode cX10_stepLine 86 = .ok (.iconst 0, 1) := by decide +kernel
theorem dX10_stepLine_87 : decode cX10_stepLine 87 = .ok (.ireturn, 1) := by decide +kernel
set_option maxRecDepth 100000 in
set_option maxHeartbeats 4000000 in
theorem w_X10_stepLine_L39 {p : Program} {l : Launch} {e : Env} {R : Room} {s : State} {m : MethodId} {args : Array Value} {below : List Frame} {meth : Method} {c : Code} {dC : Nat → ClassId} {dI : Nat → Nat → Nat} {cs : Nat → ClassId} {ad : Nat → Nat} {A : Nat → Prop} {D0 : Nat → Nat} {S' : SS} {r : Int32} (F : Fx p s m args meth c cX10_stepLine 3 RX10 (some .int) dC dI cs A) (hR1 : 3 ≤ R.frames) (hR2 : 73 ≤ R.locals) : ∀ (n : Nat) (x1 : Int32) (x2 : Int32) (S : SS), f_X10_stepLine_L39 n x1 x2 S = some (r, S') → AW p l e R s m args below meth c dC dI cs ad A D0 (some (.int r)) S' 3 39 [(0, .ref (ad 7)), (1, .int x1), (2, .int x2)] [] S := by
  have hx := F.1.1
  have hb := F.1.2.1
  intro n
  induction n with
  | zero => intro x1 x2 S h; cases h
  | succ n ih =>
    intro x1 x2 S h H locs ls w hl
    rw [f_X10_stepLine_L39] at h
    refine lv_iload_n (pc := 39) hx hb dX10_stepLine_39 rfl (lv_at hl 2 rfl) ?_
    refine lv_aload_n (pc := 40) hx hb dX10_stepLine_40 rfl (lv_at hl 0 rfl) ?_
    refine s_getI (pc := 41) F w ds_7 (j := 4) vc_X10 vi_X10 rfl (by decide) kf_X10_17 dX10_stepLine_41 ?_
    refine lv_icmp_ge (pc := 44) (tgt := 81) hx hb dX10_stepLine_44 (by decide) (fun q => ?_) (fun q => ?_)
    · have h := ite_t q h
      refine lv_aload_n (pc := 81) hx hb dX10_stepLine_81 rfl (lv_at hl 0 rfl) ?_
      refine lv_iload_n (pc := 82) hx hb dX10_stepLine_82 rfl (lv_at hl 1 rfl) ?_
      obtain ⟨S7, hc, h⟩ := bndv_t h
      refine s_cvv (pc := 83) [.int x1] (fun ad => [.ref (ad 7), .int x1]) F w (m_X10_moveLine _ _ _ hc) rfl rfl hl.1 ds_7 vc_X10 rfl ok_X10_moveLine rfl kc_X10_moveLine kl_X10_105 ki_X10_moveLine kv_X10_moveLine kn_X10 ⟨Nat.le_trans (by decide) hR1, Nat.le_trans (by decide) hR2⟩ ⟨Nat.zero_le _, Nat.zero_le _⟩ (Nat.le_of_ble_eq_true rfl) dX10_stepLine_83 (fun H locs w => ?_)
      refine lv_iconst (pc := 86) (v := 0) hx hb dX10_stepLine_86 (by decide) ?_
      exact s_iret F w h dX10_stepLine_87
    · have h := ite_f q h
      refine lv_aload_n (pc := 47) hx hb dX10_stepLine_47 rfl (lv_at hl 0 rfl) ?_
      refine s_getR (pc := 48) F w 2 ds_7 (j := 0) vc_X10 vi_X10 rfl (by decide) kf_X10_24 dX10_stepLine_48 ?_
      refine lv_aload_n (pc := 51) hx hb dX10_stepLine_51 rfl (lv_at hl 0 rfl) ?_
      refine lv_iload_n (pc := 52) hx hb dX10_stepLine_52 rfl (lv_at hl 2 rfl) ?_
      obtain ⟨r9, S8, hc, h⟩ := bnd_t h
      refine s_cvi (pc := 53) [.int x2] (fun ad => [.ref (ad 7), .int x2]) F w (m_X10_inLine _ _ _ _ hc) rfl rfl hl.1 ds_7 vc_X10 rfl ok_X10_inLine rfl kc_X10_inLine kl_X10_47 ki_X10_inLine kv_X10_inLine kn_X10 ⟨Nat.le_trans (by decide) hR1, Nat.le_trans (by decide) hR2⟩ ⟨Nat.zero_le _, Nat.zero_le _⟩ (Nat.le_of_ble_eq_true rfl) dX10_stepLine_53 (fun H locs w => ?_)
      refine lv_bipush (pc := 56) (v := 6) hx hb dX10_stepLine_56 (by decide) ?_
      obtain ⟨r11, S10, hc, h⟩ := bnd_t h
      refine s_cvi (pc := 58) [.int r9, .int (6 : Int32)] (fun ad => [.ref (ad 2), .int r9, .int (6 : Int32)]) F w (m_X8_get _ _ _ _ _ hc) rfl rfl hl.1 ds_2 vc_X8 rfl ok_X8_get rfl kc_X8_get kl_X10_36 ki_X8_get kv_X8_get kn_X8 ⟨Nat.le_trans (by decide) hR1, Nat.le_trans (by decide) hR2⟩ ⟨Nat.zero_le _, Nat.zero_le _⟩ (Nat.le_of_ble_eq_true rfl) dX10_stepLine_58 (fun H locs w => ?_)
      refine lv_iconst (pc := 61) (v := 1) hx hb dX10_stepLine_61 (by decide) ?_
      refine lv_icmp_ne (pc := 62) (tgt := 75) hx hb dX10_stepLine_62 (by decide) (fun q => ?_) (fun q => ?_)
      · have h := ite_f q h
        refine s_nm h (fun z12 ez12 h => ?_)
        refine lv_iinc (pc := 75) (v := z12) (lv' := [(2, .int z12), (0, .ref (ad 7)), (1, .int x1)]) hx hb dX10_stepLine_75 hl (k := 2) rfl (by rw [ez12]; rfl) (by decide) rfl (fun ls hl => ?_)
        refine lv_goto (pc := 78) (tgt := 39) hx hb dX10_stepLine_78 (by decide) ?_
        exact ih _ _ _ h _ _ _ w (lv_sub hl [1, 2, 0] rfl)
      · have h := ite_t q h
        refine lv_aload_n (pc := 65) hx hb dX10_stepLine_65 rfl (lv_at hl 0 rfl) ?_
        refine lv_aload_n (pc := 66) hx hb dX10_stepLine_66 rfl (lv_at hl 0 rfl) ?_
        refine lv_iload_n (pc := 67) hx hb dX10_stepLine_67 rfl (lv_at hl 2 rfl) ?_
        obtain ⟨r14, S13, hc, h⟩ := bnd_t h
        refine s_cvi (pc := 68) [.int x2] (fun ad => [.ref (ad 7), .int x2]) F w (m_X10_inLine _ _ _ _ hc) rfl rfl hl.1 ds_7 vc_X10 rfl ok_X10_inLine rfl kc_X10_inLine kl_X10_47 ki_X10_inLine kv_X10_inLine kn_X10 ⟨Nat.le_trans (by decide) hR1, Nat.le_trans (by decide) hR2⟩ ⟨Nat.zero_le _, Nat.zero_le _⟩ (Nat.le_of_ble_eq_true rfl) dX10_stepLine_68 (fun H locs w => ?_)
        obtain ⟨r16, S15, hc, h⟩ := bnd_t h
        refine s_cvi (pc := 71) [.int r14] (fun ad => [.ref (ad 7), .int r14]) F w (m_X10_raiseFinding _ _ _ _ hc) rfl rfl hl.1 ds_7 vc_X10 rfl ok_X10_raiseFinding rfl kc_X10_raiseFinding kl_X10_102 ki_X10_raiseFinding kv_X10_raiseFinding kn_X10 ⟨Nat.le_trans (by decide) hR1, Nat.le_trans (by decide) hR2⟩ ⟨Nat.zero_le _, Nat.zero_le _⟩ (Nat.le_of_ble_eq_true rfl) dX10_stepLine_71 (fun H locs w => ?_)
        exact s_iret F w h dX10_stepLine_74
set_option maxRecDepth 100000 in
set_option maxHeartbeats 4000000 in
theorem m_X10_stepLine  (S S' : SS) (r : Int32) (h : f_X10_stepLine  S = some (r, S')) : MT yX10_stepLine cX10_stepLine 3 (some .int) 4 90 (fun ad => [.ref (ad 7)]) S (some (.int r)) S' := by
  refine MT.of RX10 (fun ad => [(0, .ref (ad 7))]) (by decide) rfl (fun _ => Nat.le_of_ble_eq_true rfl) (fun _ => rfl) ?_
  intro p l e R s m args below meth c dC dI cs ad A hR1 hR2 F H locs ls w hl
  have hx := F.1.1
  have hb := F.1.2.1
  rw [f_X10_stepLine] at h
  refine lv_aload_n (pc := 0) hx hb dX10_stepLine_0 rfl (lv_at hl 0 rfl) ?_
  refine lv_aload_n (pc := 1) hx hb dX10_stepLine_1 rfl (lv_at hl 0 rfl) ?_
  refine lv_iconst (pc := 2) (v := 0) hx hb dX10_stepLine_2 (by decide) ?_
  obtain ⟨r2, S1, hc, h⟩ := bnd_t h
  refine s_cvi (pc := 3) [.int (0 : Int32)] (fun ad => [.ref (ad 7), .int (0 : Int32)]) F w (m_X10_hookInLine _ _ _ _ hc) rfl rfl hl.1 ds_7 vc_X10 rfl ok_X10_hookInLine rfl kc_X10_hookInLine kl_X10_44 ki_X10_hookInLine kv_X10_hookInLine kn_X10 ⟨Nat.le_trans (by decide) hR1, Nat.le_trans (by decide) hR2⟩ ⟨Nat.zero_le _, Nat.zero_le _⟩ (Nat.le_of_ble_eq_true rfl) dX10_stepLine_3 (fun H locs w => ?_)
  obtain ⟨r4, S3, hc, h⟩ := bnd_t h
  refine s_cvi (pc := 6) [.int r2] (fun ad => [.ref (ad 7), .int r2]) F w (m_X10_nextFrom _ _ _ _ hc) rfl rfl hl.1 ds_7 vc_X10 rfl ok_X10_nextFrom rfl kc_X10_nextFrom kl_X10_99 ki_X10_nextFrom kv_X10_nextFrom kn_X10 ⟨Nat.le_trans (by decide) hR1, Nat.le_trans (by decide) hR2⟩ ⟨Nat.zero_le _, Nat.zero_le _⟩ (Nat.le_of_ble_eq_true rfl) dX10_stepLine_6 (fun H locs w => ?_)
  refine lv_istore_n (pc := 9) (lv' := [(1, .int r4), (0, .ref (ad 7))]) hx hb dX10_stepLine_9 rfl hl (by decide) rfl (fun ls hl => ?_)
  refine lv_iload_n (pc := 10) hx hb dX10_stepLine_10 rfl (lv_at hl 0 rfl) ?_
  refine lv_bipush (pc := 11) (v := -4) hx hb dX10_stepLine_11 (by decide) ?_
  refine lv_icmp_ne (pc := 13) (tgt := 19) hx hb dX10_stepLine_13 (by decide) (fun q => ?_) (fun q => ?_)
  · have h := ite_f q h
    refine lv_aload_n (pc := 19) hx hb dX10_stepLine_19 rfl (lv_at hl 1 rfl) ?_
    refine s_getR (pc := 20) F w 2 ds_7 (j := 0) vc_X10 vi_X10 rfl (by decide) kf_X10_24 dX10_stepLine_20 ?_
    refine lv_iload_n (pc := 23) hx hb dX10_stepLine_23 rfl (lv_at hl 0 rfl) ?_
    refine lv_iconst (pc := 24) (v := 1) hx hb dX10_stepLine_24 (by decide) ?_
    refine lv_ishr (pc := 25) hx hb dX10_stepLine_25 ?_
    obtain ⟨r6, S5, hc, h⟩ := bnd_t h
    refine s_cvi (pc := 26) [.int (r4 >>> ((1 : Int32) &&& 31))] (fun ad => [.ref (ad 2), .int (r4 >>> ((1 : Int32) &&& 31))]) F w (m_X8_standsAt _ _ _ _ hc) rfl rfl hl.1 ds_2 vc_X8 rfl ok_X8_standsAt rfl kc_X8_standsAt kl_X10_62 ki_X8_standsAt kv_X8_standsAt kn_X8 ⟨Nat.le_trans (by decide) hR1, Nat.le_trans (by decide) hR2⟩ ⟨Nat.zero_le _, Nat.zero_le _⟩ (Nat.le_of_ble_eq_true rfl) dX10_stepLine_26 (fun H locs w => ?_)
    refine lv_bipush (pc := 29) (v := -4) hx hb dX10_stepLine_29 (by decide) ?_
    refine lv_icmp_eq (pc := 31) (tgt := 37) hx hb dX10_stepLine_31 (by decide) (fun q => ?_) (fun q => ?_)
    · have h := ite_t q h
      refine lv_iconst (pc := 37) (v := 0) hx hb dX10_stepLine_37 (by decide) ?_
      refine lv_istore_n (pc := 38) (lv' := [(2, .int (0 : Int32)), (1, .int r4), (0, .ref (ad 7))]) hx hb dX10_stepLine_38 rfl hl (by decide) rfl (fun ls hl => ?_)
      exact w_X10_stepLine_L39 F (Nat.le_trans (by decide) hR1) (Nat.le_trans (by decide) hR2) _ _ _ _ h _ _ _ w (lv_sub hl [2, 1, 0] rfl)
    · have h := ite_f q h
      refine lv_bipush (pc := 34) (v := 9) hx hb dX10_stepLine_34 (by decide) ?_
      exact s_iret F w h dX10_stepLine_36
  · have h := ite_t q h
    refine lv_bipush (pc := 16) (v := 10) hx hb dX10_stepLine_16 (by decide) ?_
    exact s_iret F w h dX10_stepLine_18
def f_X11_pullBy_L78  : Nat → Int32 → Int32 → SS → Option (Int32 × SS)
  | 0, _, _, _ => none
  | n + 1, x3, x6, S =>
    if x3 ≤ x6 then
      some (x3, S)
    else
      bnd (f_X10_stepLine  S) (fun r10 S9 =>
      if r10 = 0 then
        wr S9 1 5 ((S9.1 1 5) + (1 : Int32)) (fun S11 =>
        nm (x6 + (1 : Int32)) (fun z12 =>
        f_X11_pullBy_L78 n x3 z12 S11))
      else
        bnd (f_X5_found r10 S9) (fun r14 S13 =>
        some (r14, S13)))
def f_X11_pullBy (a1 : Int32) (a2 : Int32) (a3 : Int32) (S : SS) : Option (Int32 × SS) :=
  bnd (f_X11_namedSide a1 (96 : Int32) a2 S) (fun r2 S1 =>
  if r2 = 0 then
    bndv (f_X10_lineUp ((2 : Int32) * a1) S1) (fun S3 =>
    bnd (f_X11_lineWeight  S3) (fun r5 S4 =>
    bnd (f_X11_linePulls  S4) (fun r7 S6 =>
    if r5 ≤ ((20 : Int32) * r7) then
      bndv (f_X10_lineUp (((2 : Int32) * a1) + a2) S6) (fun S8 =>
      f_X11_pullBy_L78 NF a3 (0 : Int32) S8)
    else
      bnd (f_X5_found (15 : Int32) S6) (fun r16 S15 =>
      some (r16, S15)))))
  else
    bnd (f_X5_found r2 S1) (fun r18 S17 =>
    some (r18, S17)))
theorem dX11_pullBy_0 : decode cX11_pullBy 0 = .ok (.aload_n 0, 1) := by decide +kernel
theorem dX11_pullBy_1 : decode cX11_pullBy 1 = .ok (.iload_n 1, 1) := by decide +kernel
theorem dX11_pullBy_2 : decode cX11_pullBy 2 = .ok (.bipush 96, 2) := by decide +kernel
theorem dX11_pullBy_4 : decode cX11_pullBy 4 = .ok (.iload_n 2, 1) := by decide +kernel
theorem dX11_pullBy_5 : decode cX11_pullBy 5 = .ok (.invokevirtual 259, 3) := by decide +kernel
theorem dX11_pullBy_8 : decode cX11_pullBy 8 = .ok (.istore 4, 2) := by decide +kernel
theorem dX11_pullBy_10 : decode cX11_pullBy 10 = .ok (.iload 4, 2) := by decide +kernel
theorem dX11_pullBy_12 : decode cX11_pullBy 12 = .ok (.ifCond .eq 13, 3) := by decide +kernel
theorem dX11_pullBy_15 : decode cX11_pullBy 15 = .ok (.aload_n 0, 1) := by decide +kernel
theorem dX11_pullBy_16 : decode cX11_pullBy 16 = .ok (.getfield 10, 3) := by decide +kernel
theorem dX11_pullBy_19 : decode cX11_pullBy 19 = .ok (.iload 4, 2) := by decide +kernel
theorem dX11_pullBy_21 : decode cX11_pullBy 21 = .ok (.invokevirtual 98, 3) := by decide +kernel
theorem dX11_pullBy_24 : decode cX11_pullBy 24 = .ok (.ireturn, 1) := by decide +kernel
theorem dX11_pullBy_25 : decode cX11_pullBy 25 = .ok (.aload_n 0, 1) := by decide +kernel
theorem dX11_pullBy_26 : decode cX11_pullBy 26 = .ok (.getfield 58, 3) := by decide +kernel
theorem dX11_pullBy_29 : decode cX11_pullBy 29 = .ok (.iconst 2, 1) := by decide +kernel
theorem dX11_pullBy_30 : decode cX11_pullBy 30 = .ok (.iload_n 1, 1) := by decide +kernel
theorem dX11_pullBy_31 : decode cX11_pullBy 31 = .ok (.imul, 1) := by decide +kernel
theorem dX11_pullBy_32 : decode cX11_pullBy 32 = .ok (.invokevirtual 281, 3) := by decide +kernel
theorem dX11_pullBy_35 : decode cX11_pullBy 35 = .ok (.aload_n 0, 1) := by decide +kernel
theorem dX11_pullBy_36 : decode cX11_pullBy 36 = .ok (.invokevirtual 284, 3) := by decide +kernel
theorem dX11_pullBy_39 : decode cX11_pullBy 39 = .ok (.istore 5, 2) := by decide +kernel
theorem dX11_pullBy_41 : decode cX11_pullBy 41 = .ok (.iload 5, 2) := by decide +kernel
theorem dX11_pullBy_43 : decode cX11_pullBy 43 = .ok (.bipush 20, 2) := by decide +kernel
theorem dX11_pullBy_45 : decode cX11_pullBy 45 = .ok (.aload_n 0, 1) := by decide +kernel
theorem dX11_pullBy_46 : decode cX11_pullBy 46 = .ok (.invokevirtual 287, 3) := by decide +kernel
theorem dX11_pullBy_49 : decode cX11_pullBy 49 = .ok (.imul, 1) := by decide +kernel
theorem dX11_pullBy_50 : decode cX11_pullBy 50 = .ok (.if_icmp .le 13, 3) := by decide +kernel
theorem dX11_pullBy_53 : decode cX11_pullBy 53 = .ok (.aload_n 0, 1) := by decide +kernel
theorem dX11_pullBy_54 : decode cX11_pullBy 54 = .ok (.getfield 10, 3) := by decide +kernel
theorem dX11_pullBy_57 : decode cX11_pullBy 57 = .ok (.bipush 15, 2) := by decide +kernel
theorem dX11_pullBy_59 : decode cX11_pullBy 59 = .ok (.invokevirtual 98, 3) := by decide +kernel
theorem dX11_pullBy_62 : decode cX11_pullBy 62 = .ok (.ireturn, 1) := by decide +kernel
theorem dX11_pullBy_63 : decode cX11_pullBy 63 = .ok (.aload_n 0, 1) := by decide +kernel
theorem dX11_pullBy_64 : decode cX11_pullBy 64 = .ok (.getfield 58, 3) := by decide +kernel
theorem dX11_pullBy_67 : decode cX11_pullBy 67 = .ok (.iconst 2, 1) := by decide +kernel
theorem dX11_pullBy_68 : decode cX11_pullBy 68 = .ok (.iload_n 1, 1) := by decide +kernel
theorem dX11_pullBy_69 : decode cX11_pullBy 69 = .ok (.imul, 1) := by decide +kernel
theorem dX11_pullBy_70 : decode cX11_pullBy 70 = .ok (.iload_n 2, 1) := by decide +kernel
theorem dX11_pullBy_71 : decode cX11_pullBy 71 = .ok (.iadd, 1) := by decide +kernel
theorem dX11_pullBy_72 : decode cX11_pullBy 72 = .ok (.invokevirtual 281, 3) := by decide +kernel
theorem dX11_pullBy_75 : decode cX11_pullBy 75 = .ok (.iconst 0, 1) := by decide +kernel
theorem dX11_pullBy_76 : decode cX11_pullBy 76 = .ok (.istore 6, 2) := by decide +kernel
theorem dX11_pullBy_78 : decode cX11_pullBy 78 = .ok (.iload 6, 2) := by decide +kernel
theorem dX11_pullBy_80 : decode cX11_pullBy 80 = .ok (.iload_n 3, 1) := by decide +kernel
theorem dX11_pullBy_81 : decode cX11_pullBy 81 = .ok (.if_icmp .ge 46, 3) := by decide +kernel
theorem dX11_pullBy_84 : decode cX11_pullBy 84 = .ok (.aload_n 0, 1) := by decide +kernel
theorem dX11_pullBy_85 : decode cX11_pullBy 85 = .ok (.getfield 58, 3) := by decide +kernel
theorem dX11_pullBy_88 : decode cX11_pullBy 88 = .ok (.invokevirtual 290, 3) := by decide +kernel
theorem dX11_pullBy_91 : decode cX11_pullBy 91 = .ok (.istore 4, 2) := by decide +kernel
theorem dX11_pullBy_93 : decode cX11_pullBy 93 = .ok (.iload 4, 2) := by decide +kernel
theorem dX11_pullBy_95 : decode cX11_pullBy 95 = .ok (.ifCond .eq 13, 3) := by decide +kernel
theorem dX11_pullBy_98 : decode cX11_pullBy 98 = .ok (.aload_n 0, 1) := by decide +kernel
theorem dX11_pullBy_99 : decode cX11_pullBy 99 = .ok (.getfield 10, 3) := by decide +kernel
theorem dX11_pullBy_102 : decode cX11_pullBy 102 = .ok (.iload 4, 2) := by decide +kernel
theorem dX11_pullBy_104 : decode cX11_pullBy 104 = .ok (.invokevirtual 98, 3) := by decide +kernel
theorem dX11_pullBy_107 : decode cX11_pullBy 107 = .ok (.ireturn, 1) := by decide +kernel
theorem dX11_pullBy_108 : decode cX11_pullBy 108 = .ok (.aload_n 0, 1) := by decide +kernel
theorem dX11_pullBy_109 : decode cX11_pullBy 109 = .ok (.getfield 10, 3) := by decide +kernel
theorem dX11_pullBy_112 : decode cX11_pullBy 112 = .ok (.dup, 1) := by decide +kernel
theorem dX11_pullBy_113 : decode cX11_pullBy 113 = .ok (.getfield 293, 3) := by decide +kernel
theorem dX11_pullBy_116 : decode cX11_pullBy 116 = .ok (.iconst 1, 1) := by decide +kernel
theorem dX11_pullBy_117 : decode cX11_pullBy 117 = .ok (.iadd, 1) := by decide +kernel
theorem dX11_pullBy_118 : decode cX11_pullBy 118 = .ok (.putfield 293, 3) := by decide +kernel
theorem dX11_pullBy_121 : decode cX11_pullBy 121 = .ok (.iinc 6 1, 3) := by decide +kernel
theorem dX11_pullBy_124 : decode cX11_pullBy 124 = .ok (.goto (-46), 3) := by decide +kernel
theorem dX11_pullBy_127 : decode cX11_pullBy 127 = .ok (.iload_n 3, 1) := by decide +kernel
theorem dX11_pullBy_128 : decode cX11_pullBy 128 = .ok (.ireturn, 1) := by decide +kernel
set_option maxRecDepth 100000 in
set_option maxHeartbeats 4000000 in
theorem w_X11_pullBy_L78 {p : Program} {l : Launch} {e : Env} {R : Room} {s : State} {m : MethodId} {args : Array Value} {below : List Frame} {meth : Method} {c : Code} {dC : Nat → ClassId} {dI : Nat → Nat → Nat} {cs : Nat → ClassId} {ad : Nat → Nat} {A : Nat → Prop} {D0 : Nat → Nat} {S' : SS} {r : Int32} (F : Fx p s m args meth c cX11_pullBy 7 RX11 (some .int) dC dI cs A) (hR1 : 5 ≤ R.frames) (hR2 : 112 ≤ R.locals) : ∀ (n : Nat) (x3 : Int32) (x6 : Int32) (S : SS), f_X11_pullBy_L78 n x3 x6 S = some (r, S') → AW p l e R s m args below meth c dC dI cs ad A D0 (some (.int r)) S' 7 78 [(0, .ref (ad 0)), (3, .int x3), (6, .int x6)] [] S := by
  have hx := F.1.1
  have hb := F.1.2.1
  intro n
  induction n with
  | zero => intro x3 x6 S h; cases h
  | succ n ih =>
    intro x3 x6 S h H locs ls w hl
    rw [f_X11_pullBy_L78] at h
    refine lv_iload (pc := 78) hx hb dX11_pullBy_78 (lv_at hl 2 rfl) ?_
    refine lv_iload_n (pc := 80) hx hb dX11_pullBy_80 rfl (lv_at hl 1 rfl) ?_
    refine lv_icmp_ge (pc := 81) (tgt := 127) hx hb dX11_pullBy_81 (by decide) (fun q => ?_) (fun q => ?_)
    · have h := ite_t q h
      refine lv_iload_n (pc := 127) hx hb dX11_pullBy_127 rfl (lv_at hl 1 rfl) ?_
      exact s_iret F w h dX11_pullBy_128
    · have h := ite_f q h
      refine lv_aload_n (pc := 84) hx hb dX11_pullBy_84 rfl (lv_at hl 0 rfl) ?_
      refine s_getR (pc := 85) F w 7 ds_0 (j := 6) vc_X11 vi_X11 rfl (by decide) kf_X11_58 dX11_pullBy_85 ?_
      obtain ⟨r10, S9, hc, h⟩ := bnd_t h
      refine s_cvi (pc := 88) [] (fun ad => [.ref (ad 7)]) F w (m_X10_stepLine  _ _ _ hc) rfl rfl hl.1 ds_7 vc_X10 rfl ok_X10_stepLine rfl kc_X10_stepLine kl_X11_290 ki_X10_stepLine kv_X10_stepLine kn_X10 ⟨Nat.le_trans (by decide) hR1, Nat.le_trans (by decide) hR2⟩ ⟨Nat.zero_le _, Nat.zero_le _⟩ (Nat.le_of_ble_eq_true rfl) dX11_pullBy_88 (fun H locs w => ?_)
      refine lv_istore (pc := 91) (lv' := [(4, .int r10), (0, .ref (ad 0)), (3, .int x3), (6, .int x6)]) hx hb dX11_pullBy_91 hl (by decide) rfl (fun ls hl => ?_)
      refine lv_iload (pc := 93) hx hb dX11_pullBy_93 (lv_at hl 0 rfl) ?_
      refine lv_if_eq (pc := 95) (tgt := 108) hx hb dX11_pullBy_95 (by decide) (fun q => ?_) (fun q => ?_)
      · have h := ite_t q h
        refine lv_aload_n (pc := 108) hx hb dX11_pullBy_108 rfl (lv_at hl 1 rfl) ?_
        refine s_getR (pc := 109) F w 1 ds_0 (j := 0) vc_X11 vi_X11 rfl (by decide) kf_X11_10 dX11_pullBy_109 ?_
        refine lv_dup (pc := 112) hx hb dX11_pullBy_112 rfl ?_
        refine s_getI (pc := 113) F w ds_1 (j := 5) vc_X5 vi_X5 rfl (by decide) kf_X11_293 dX11_pullBy_113 ?_
        refine lv_iconst (pc := 116) (v := 1) hx hb dX11_pullBy_116 (by decide) ?_
        refine lv_iadd (pc := 117) hx hb dX11_pullBy_117 ?_
        refine s_putI (pc := 118) F w ds_1 vc_X5 vi_X5 tyX5_ok nmX5 (j := 5) rfl (by decide) kf_X11_293 rfl pd_I h dX11_pullBy_118 (fun S11 H locs h w => ?_)
        refine s_nm h (fun z12 ez12 h => ?_)
        refine lv_iinc (pc := 121) (v := z12) (lv' := [(6, .int z12), (4, .int r10), (0, .ref (ad 0)), (3, .int x3)]) hx hb dX11_pullBy_121 hl (k := 3) rfl (by rw [ez12]; rfl) (by decide) rfl (fun ls hl => ?_)
        refine lv_goto (pc := 124) (tgt := 78) hx hb dX11_pullBy_124 (by decide) ?_
        exact ih _ _ _ h _ _ _ w (lv_sub hl [2, 3, 0] rfl)
      · have h := ite_f q h
        refine lv_aload_n (pc := 98) hx hb dX11_pullBy_98 rfl (lv_at hl 1 rfl) ?_
        refine s_getR (pc := 99) F w 1 ds_0 (j := 0) vc_X11 vi_X11 rfl (by decide) kf_X11_10 dX11_pullBy_99 ?_
        refine lv_iload (pc := 102) hx hb dX11_pullBy_102 (lv_at hl 0 rfl) ?_
        obtain ⟨r14, S13, hc, h⟩ := bnd_t h
        refine s_cvi (pc := 104) [.int r10] (fun ad => [.ref (ad 1), .int r10]) F w (m_X5_found _ _ _ _ hc) rfl rfl hl.1 ds_1 vc_X5 rfl ok_X5_found rfl kc_X5_found kl_X11_98 ki_X5_found kv_X5_found kn_X5 ⟨Nat.le_trans (by decide) hR1, Nat.le_trans (by decide) hR2⟩ ⟨Nat.zero_le _, Nat.zero_le _⟩ (Nat.le_of_ble_eq_true rfl) dX11_pullBy_104 (fun H locs w => ?_)
        exact s_iret F w h dX11_pullBy_107
set_option maxRecDepth 100000 in
set_option maxHeartbeats 4000000 in
theorem m_X11_pullBy (a1 : Int32) (a2 : Int32) (a3 : Int32) (S S' : SS) (r : Int32) (h : f_X11_pullBy a1 a2 a3 S = some (r, S')) : MT yX11_pullBy cX11_pullBy 7 (some .int) 5 112 (fun ad => [.ref (ad 0), .int a1, .int a2, .int a3]) S (some (.int r)) S' := by
  refine MT.of RX11 (fun ad => [(0, .ref (ad 0)), (1, .int a1), (2, .int a2), (3, .int a3)]) (by decide) rfl (fun _ => Nat.le_of_ble_eq_true rfl) (fun _ => rfl) ?_
  intro p l e R s m args below meth c dC dI cs ad A hR1 hR2 F H locs ls w hl
  have hx := F.1.1
  have hb := F.1.2.1
  rw [f_X11_pullBy] at h
  refine lv_aload_n (pc := 0) hx hb dX11_pullBy_0 rfl (lv_at hl 0 rfl) ?_
  refine lv_iload_n (pc := 1) hx hb dX11_pullBy_1 rfl (lv_at hl 1 rfl) ?_
  refine lv_bipush (pc := 2) (v := 96) hx hb dX11_pullBy_2 (by decide) ?_
  refine lv_iload_n (pc := 4) hx hb dX11_pullBy_4 rfl (lv_at hl 2 rfl) ?_
  obtain ⟨r2, S1, hc, h⟩ := bnd_t h
  refine s_cvi (pc := 5) [.int a1, .int (96 : Int32), .int a2] (fun ad => [.ref (ad 0), .int a1, .int (96 : Int32), .int a2]) F w (m_X11_namedSide _ _ _ _ _ _ hc) rfl rfl hl.1 ds_0 vc_X11 rfl ok_X11_namedSide rfl kc_X11_namedSide kl_X11_259 ki_X11_namedSide kv_X11_namedSide kn_X11 ⟨Nat.le_trans (by decide) hR1, Nat.le_trans (by decide) hR2⟩ ⟨Nat.zero_le _, Nat.zero_le _⟩ (Nat.le_of_ble_eq_true rfl) dX11_pullBy_5 (fun H locs w => ?_)
  refine lv_istore (pc := 8) (lv' := [(4, .int r2), (0, .ref (ad 0)), (1, .int a1), (2, .int a2), (3, .int a3)]) hx hb dX11_pullBy_8 hl (by decide) rfl (fun ls hl => ?_)
  refine lv_iload (pc := 10) hx hb dX11_pullBy_10 (lv_at hl 0 rfl) ?_
  refine lv_if_eq (pc := 12) (tgt := 25) hx hb dX11_pullBy_12 (by decide) (fun q => ?_) (fun q => ?_)
  · have h := ite_t q h
    refine lv_aload_n (pc := 25) hx hb dX11_pullBy_25 rfl (lv_at hl 1 rfl) ?_
    refine s_getR (pc := 26) F w 7 ds_0 (j := 6) vc_X11 vi_X11 rfl (by decide) kf_X11_58 dX11_pullBy_26 ?_
    refine lv_iconst (pc := 29) (v := 2) hx hb dX11_pullBy_29 (by decide) ?_
    refine lv_iload_n (pc := 30) hx hb dX11_pullBy_30 rfl (lv_at hl 2 rfl) ?_
    refine lv_imul (pc := 31) hx hb dX11_pullBy_31 ?_
    obtain ⟨S3, hc, h⟩ := bndv_t h
    refine s_cvv (pc := 32) [.int ((2 : Int32) * a1)] (fun ad => [.ref (ad 7), .int ((2 : Int32) * a1)]) F w (m_X10_lineUp _ _ _ hc) rfl rfl hl.1 ds_7 vc_X10 rfl ok_X10_lineUp rfl kc_X10_lineUp kl_X11_281 ki_X10_lineUp kv_X10_lineUp kn_X10 ⟨Nat.le_trans (by decide) hR1, Nat.le_trans (by decide) hR2⟩ ⟨Nat.zero_le _, Nat.zero_le _⟩ (Nat.le_of_ble_eq_true rfl) dX11_pullBy_32 (fun H locs w => ?_)
    refine lv_aload_n (pc := 35) hx hb dX11_pullBy_35 rfl (lv_at hl 1 rfl) ?_
    obtain ⟨r5, S4, hc, h⟩ := bnd_t h
    refine s_cvi (pc := 36) [] (fun ad => [.ref (ad 0)]) F w (m_X11_lineWeight  _ _ _ hc) rfl rfl hl.1 ds_0 vc_X11 rfl ok_X11_lineWeight rfl kc_X11_lineWeight kl_X11_284 ki_X11_lineWeight kv_X11_lineWeight kn_X11 ⟨Nat.le_trans (by decide) hR1, Nat.le_trans (by decide) hR2⟩ ⟨Nat.zero_le _, Nat.zero_le _⟩ (Nat.le_of_ble_eq_true rfl) dX11_pullBy_36 (fun H locs w => ?_)
    refine lv_istore (pc := 39) (lv' := [(5, .int r5), (4, .int r2), (0, .ref (ad 0)), (1, .int a1), (2, .int a2), (3, .int a3)]) hx hb dX11_pullBy_39 hl (by decide) rfl (fun ls hl => ?_)
    refine lv_iload (pc := 41) hx hb dX11_pullBy_41 (lv_at hl 0 rfl) ?_
    refine lv_bipush (pc := 43) (v := 20) hx hb dX11_pullBy_43 (by decide) ?_
    refine lv_aload_n (pc := 45) hx hb dX11_pullBy_45 rfl (lv_at hl 2 rfl) ?_
    obtain ⟨r7, S6, hc, h⟩ := bnd_t h
    refine s_cvi (pc := 46) [] (fun ad => [.ref (ad 0)]) F w (m_X11_linePulls  _ _ _ hc) rfl rfl hl.1 ds_0 vc_X11 rfl ok_X11_linePulls rfl kc_X11_linePulls kl_X11_287 ki_X11_linePulls kv_X11_linePulls kn_X11 ⟨Nat.le_trans (by decide) hR1, Nat.le_trans (by decide) hR2⟩ ⟨Nat.zero_le _, Nat.zero_le _⟩ (Nat.le_of_ble_eq_true rfl) dX11_pullBy_46 (fun H locs w => ?_)
    refine lv_imul (pc := 49) hx hb dX11_pullBy_49 ?_
    refine lv_icmp_le (pc := 50) (tgt := 63) hx hb dX11_pullBy_50 (by decide) (fun q => ?_) (fun q => ?_)
    · have h := ite_t q h
      refine lv_aload_n (pc := 63) hx hb dX11_pullBy_63 rfl (lv_at hl 2 rfl) ?_
      refine s_getR (pc := 64) F w 7 ds_0 (j := 6) vc_X11 vi_X11 rfl (by decide) kf_X11_58 dX11_pullBy_64 ?_
      refine lv_iconst (pc := 67) (v := 2) hx hb dX11_pullBy_67 (by decide) ?_
      refine lv_iload_n (pc := 68) hx hb dX11_pullBy_68 rfl (lv_at hl 3 rfl) ?_
      refine lv_imul (pc := 69) hx hb dX11_pullBy_69 ?_
      refine lv_iload_n (pc := 70) hx hb dX11_pullBy_70 rfl (lv_at hl 4 rfl) ?_
      refine lv_iadd (pc := 71) hx hb dX11_pullBy_71 ?_
      obtain ⟨S8, hc, h⟩ := bndv_t h
      refine s_cvv (pc := 72) [.int (((2 : Int32) * a1) + a2)] (fun ad => [.ref (ad 7), .int (((2 : Int32) * a1) + a2)]) F w (m_X10_lineUp _ _ _ hc) rfl rfl hl.1 ds_7 vc_X10 rfl ok_X10_lineUp rfl kc_X10_lineUp kl_X11_281 ki_X10_lineUp kv_X10_lineUp kn_X10 ⟨Nat.le_trans (by decide) hR1, Nat.le_trans (by decide) hR2⟩ ⟨Nat.zero_le _, Nat.zero_le _⟩ (Nat.le_of_ble_eq_true rfl) dX11_pullBy_72 (fun H locs w => ?_)
      refine lv_iconst (pc := 75) (v := 0) hx hb dX11_pullBy_75 (by decide) ?_
      refine lv_istore (pc := 76) (lv' := [(6, .int (0 : Int32)), (5, .int r5), (4, .int r2), (0, .ref (ad 0)), (1, .int a1), (2, .int a2), (3, .int a3)]) hx hb dX11_pullBy_76 hl (by decide) rfl (fun ls hl => ?_)
      exact w_X11_pullBy_L78 F (Nat.le_trans (by decide) hR1) (Nat.le_trans (by decide) hR2) _ _ _ _ h _ _ _ w (lv_sub hl [3, 6, 0] rfl)
    · have h := ite_f q h
      refine lv_aload_n (pc := 53) hx hb dX11_pullBy_53 rfl (lv_at hl 2 rfl) ?_
      refine s_getR (pc := 54) F w 1 ds_0 (j := 0) vc_X11 vi_X11 rfl (by decide) kf_X11_10 dX11_pullBy_54 ?_
      refine lv_bipush (pc := 57) (v := 15) hx hb dX11_pullBy_57 (by decide) ?_
      obtain ⟨r16, S15, hc, h⟩ := bnd_t h
      refine s_cvi (pc := 59) [.int (15 : Int32)] (fun ad => [.ref (ad 1), .int (15 : Int32)]) F w (m_X5_found _ _ _ _ hc) rfl rfl hl.1 ds_1 vc_X5 rfl ok_X5_found rfl kc_X5_found kl_X11_98 ki_X5_found kv_X5_found kn_X5 ⟨Nat.le_trans (by decide) hR1, Nat.le_trans (by decide) hR2⟩ ⟨Nat.zero_le _, Nat.zero_le _⟩ (Nat.le_of_ble_eq_true rfl) dX11_pullBy_59 (fun H locs w => ?_)
      exact s_iret F w h dX11_pullBy_62
  · have h := ite_f q h
    refine lv_aload_n (pc := 15) hx hb dX11_pullBy_15 rfl (lv_at hl 1 rfl) ?_
    refine s_getR (pc := 16) F w 1 ds_0 (j := 0) vc_X11 vi_X11 rfl (by decide) kf_X11_10 dX11_pullBy_16 ?_
    refine lv_iload (pc := 19) hx hb dX11_pullBy_19 (lv_at hl 0 rfl) ?_
    obtain ⟨r18, S17, hc, h⟩ := bnd_t h
    refine s_cvi (pc := 21) [.int r2] (fun ad => [.ref (ad 1), .int r2]) F w (m_X5_found _ _ _ _ hc) rfl rfl hl.1 ds_1 vc_X5 rfl ok_X5_found rfl kc_X5_found kl_X11_98 ki_X5_found kv_X5_found kn_X5 ⟨Nat.le_trans (by decide) hR1, Nat.le_trans (by decide) hR2⟩ ⟨Nat.zero_le _, Nat.zero_le _⟩ (Nat.le_of_ble_eq_true rfl) dX11_pullBy_21 (fun H locs w => ?_)
    exact s_iret F w h dX11_pullBy_24
def f_X11_pull (a1 : Int32) (a2 : Int32) (a3 : Int32) (S : SS) : Option (Int32 × SS) :=
  bnd (f_X11_isNot a3 (1 : Int32) (200 : Int32) S) (fun r2 S1 =>
  if r2 = 0 then
    bndv (f_X11_beginAct  S1) (fun S3 =>
    bnd (f_X11_pullBy a1 a2 a3 S3) (fun r5 S4 =>
    bnd (f_X11_endAct (8 : Int32) r5 S4) (fun r7 S6 =>
    some (r7, S6))))
  else
    some ((-1 : Int32), S1))
theorem dX11_pull_0 : decode cX11_pull 0 = .ok (.iload_n 3, 1) := by decide +kernel
theorem dX11_pull_1 : decode cX11_pull 1 = .ok (.iconst 1, 1) := by decide +kernel
theorem dX11_pull_2 : decode cX11_pull 2 = .ok (.sipush 200, 3) := by decide +kernel
theorem dX11_pull_5 : decode cX11_pull 5 = .ok (.invokestatic 108, 3) := by decide +kernel
theorem dX11_pull_8 : decode cX11_pull 8 = .ok (.ifCond .eq 5, 3) := by decide +kernel
theorem dX11_pull_11 : decode cX11_pull 11 = .ok (.iconst (-1), 1) := by decide +kernel
theorem dX11_pull_12 : decode cX11_pull 12 = .ok (.ireturn, 1) := by decide +kernel
theorem dX11_pull_13 : decode cX11_pull 13 = .ok (.aload_n 0, 1) := by decide +kernel
theorem dX11_pull_14 : decode cX11_pull 14 = .ok (.invokevirtual 199, 3) := by decide +kernel
theorem dX11_pull_17 : decode cX11_pull 17 = .ok (.aload_n 0, 1) := by decide +kernel
theorem dX11_pull_18 : decode cX11_pull 18 = .ok (.bipush 8, 2) := by decide +kernel
theorem dX11_pull_20 : decode cX11_pull 20 = .ok (.aload_n 0, 1) := by decide +kernel
theorem dX11_pull_21 : decode cX11_pull 21 = .ok (.iload_n 1, 1) := by decide +kernel
theorem dX11_pull_22 : decode cX11_pull 22 = .ok (.iload_n 2, 1) := by decide +kernel
theorem dX11_pull_23 : decode cX11_pull 23 = .ok (.iload_n 3, 1) := by decide +kernel
theorem dX11_pull_24 : decode cX11_pull 24 = .ok (.invokevirtual 226, 3) := by decide +kernel
theorem dX11_pull_27 : decode cX11_pull 27 = .ok (.invokevirtual 205, 3) := by decide +kernel
theorem dX11_pull_30 : decode cX11_pull 30 = .ok (.ireturn, 1) := by decide +kernel
set_option maxRecDepth 100000 in
set_option maxHeartbeats 4000000 in
theorem m_X11_pull (a1 : Int32) (a2 : Int32) (a3 : Int32) (S S' : SS) (r : Int32) (h : f_X11_pull a1 a2 a3 S = some (r, S')) : MT yX11_pull cX11_pull 4 (some .int) 6 138 (fun ad => [.ref (ad 0), .int a1, .int a2, .int a3]) S (some (.int r)) S' := by
  refine MT.of RX11 (fun ad => [(0, .ref (ad 0)), (1, .int a1), (2, .int a2), (3, .int a3)]) (by decide) rfl (fun _ => Nat.le_of_ble_eq_true rfl) (fun _ => rfl) ?_
  intro p l e R s m args below meth c dC dI cs ad A hR1 hR2 F H locs ls w hl
  have hx := F.1.1
  have hb := F.1.2.1
  rw [f_X11_pull] at h
  refine lv_iload_n (pc := 0) hx hb dX11_pull_0 rfl (lv_at hl 3 rfl) ?_
  refine lv_iconst (pc := 1) (v := 1) hx hb dX11_pull_1 (by decide) ?_
  refine lv_sipush (pc := 2) (v := 200) hx hb dX11_pull_2 (by decide) ?_
  obtain ⟨r2, S1, hc, h⟩ := bnd_t h
  refine s_csi (pc := 5) [.int a3, .int (1 : Int32), .int (200 : Int32)] (fun ad => [.int a3, .int (1 : Int32), .int (200 : Int32)]) F w (m_X11_isNot _ _ _ _ _ _ hc) rfl rfl hl.1 ok_X11_isNot rfl kc_X11_isNot kl_X11_108 ks_X11_isNot kn_X11 ⟨Nat.le_trans (by decide) hR1, Nat.le_trans (by decide) hR2⟩ ⟨Nat.zero_le _, Nat.zero_le _⟩ (Nat.le_of_ble_eq_true rfl) dX11_pull_5 (fun H locs w => ?_)
  refine lv_if_eq (pc := 8) (tgt := 13) hx hb dX11_pull_8 (by decide) (fun q => ?_) (fun q => ?_)
  · have h := ite_t q h
    refine lv_aload_n (pc := 13) hx hb dX11_pull_13 rfl (lv_at hl 0 rfl) ?_
    obtain ⟨S3, hc, h⟩ := bndv_t h
    refine s_cvv (pc := 14) [] (fun ad => [.ref (ad 0)]) F w (m_X11_beginAct  _ _ hc) rfl rfl hl.1 ds_0 vc_X11 rfl ok_X11_beginAct rfl kc_X11_beginAct kl_X11_199 ki_X11_beginAct kv_X11_beginAct kn_X11 ⟨Nat.le_trans (by decide) hR1, Nat.le_trans (by decide) hR2⟩ ⟨Nat.zero_le _, Nat.zero_le _⟩ (Nat.le_of_ble_eq_true rfl) dX11_pull_14 (fun H locs w => ?_)
    refine lv_aload_n (pc := 17) hx hb dX11_pull_17 rfl (lv_at hl 0 rfl) ?_
    refine lv_bipush (pc := 18) (v := 8) hx hb dX11_pull_18 (by decide) ?_
    refine lv_aload_n (pc := 20) hx hb dX11_pull_20 rfl (lv_at hl 0 rfl) ?_
    refine lv_iload_n (pc := 21) hx hb dX11_pull_21 rfl (lv_at hl 1 rfl) ?_
    refine lv_iload_n (pc := 22) hx hb dX11_pull_22 rfl (lv_at hl 2 rfl) ?_
    refine lv_iload_n (pc := 23) hx hb dX11_pull_23 rfl (lv_at hl 3 rfl) ?_
    obtain ⟨r5, S4, hc, h⟩ := bnd_t h
    refine s_cvi (pc := 24) [.int a1, .int a2, .int a3] (fun ad => [.ref (ad 0), .int a1, .int a2, .int a3]) F w (m_X11_pullBy _ _ _ _ _ _ hc) rfl rfl hl.1 ds_0 vc_X11 rfl ok_X11_pullBy rfl kc_X11_pullBy kl_X11_226 ki_X11_pullBy kv_X11_pullBy kn_X11 ⟨Nat.le_trans (by decide) hR1, Nat.le_trans (by decide) hR2⟩ ⟨Nat.zero_le _, Nat.zero_le _⟩ (Nat.le_of_ble_eq_true rfl) dX11_pull_24 (fun H locs w => ?_)
    obtain ⟨r7, S6, hc, h⟩ := bnd_t h
    refine s_cvi (pc := 27) [.int (8 : Int32), .int r5] (fun ad => [.ref (ad 0), .int (8 : Int32), .int r5]) F w (m_X11_endAct _ _ _ _ _ hc) rfl rfl hl.1 ds_0 vc_X11 rfl ok_X11_endAct rfl kc_X11_endAct kl_X11_205 ki_X11_endAct kv_X11_endAct kn_X11 ⟨Nat.le_trans (by decide) hR1, Nat.le_trans (by decide) hR2⟩ ⟨Nat.zero_le _, Nat.zero_le _⟩ (Nat.le_of_ble_eq_true rfl) dX11_pull_27 (fun H locs w => ?_)
    exact s_iret F w h dX11_pull_30
  · have h := ite_f q h
    refine lv_iconst (pc := 11) (v := -1) hx hb dX11_pull_11 (by decide) ?_
    exact s_iret F w h dX11_pull_12
def f_X12_hasEngine_j48 (K4 : Int32 → Int32 → Int32 → SS → Option (Int32 × SS)) (x1 : Int32) (x3 : Int32) (y0 : Int32) (S : SS) : Option (Int32 × SS) :=
    nm (x3 + (1 : Int32)) (fun z2 =>
    K4 x1 y0 z2 S)
def f_X12_hasEngine_j43 (K4 : Int32 → Int32 → Int32 → SS → Option (Int32 × SS)) (x1 : Int32) (x3 : Int32) (S : SS) : Option (Int32 × SS) :=
    f_X12_hasEngine_j48 K4 x1 x3 (1 : Int32) S
def f_X12_hasEngine_j47 (K4 : Int32 → Int32 → Int32 → SS → Option (Int32 × SS)) (x1 : Int32) (x3 : Int32) (S : SS) : Option (Int32 × SS) :=
    f_X12_hasEngine_j48 K4 x1 x3 (0 : Int32) S
def f_X12_hasEngine_L4  : Nat → Int32 → Int32 → Int32 → SS → Option (Int32 × SS)
  | 0, _, _, _, _ => none
  | n + 1, x1, x2, x3, S =>
    if (2 : Int32) ≤ x3 then
      grd (isB x2) (some (x2, S))
    else
      grd (inb (((2 : Int32) * x1) + x3) 144) (
      nm (S.1 90 (((2 : Int32) * x1) + x3).toNatClampNeg) (fun z1 =>
      if x2 = 0 then
        if z1 = (-4 : Int32) then
          f_X12_hasEngine_j47 (fun v0 v1 v2 S => f_X12_hasEngine_L4 n v0 v1 v2 S) x1 x3 S
        else
          grd (inb z1 72) (
          if (S.1 85 z1.toNatClampNeg) = (5 : Int32) then
            f_X12_hasEngine_j43 (fun v0 v1 v2 S => f_X12_hasEngine_L4 n v0 v1 v2 S) x1 x3 S
          else
            f_X12_hasEngine_j47 (fun v0 v1 v2 S => f_X12_hasEngine_L4 n v0 v1 v2 S) x1 x3 S)
      else
        f_X12_hasEngine_j43 (fun v0 v1 v2 S => f_X12_hasEngine_L4 n v0 v1 v2 S) x1 x3 S))
def f_X12_hasEngine (a1 : Int32) (S : SS) : Option (Int32 × SS) :=
  f_X12_hasEngine_L4 NF a1 (0 : Int32) (0 : Int32) S
theorem dX12_hasEngine_0 : decode cX12_hasEngine 0 = .ok (.iconst 0, 1) := by decide +kernel
theorem dX12_hasEngine_1 : decode cX12_hasEngine 1 = .ok (.istore_n 2, 1) := by decide +kernel
theorem dX12_hasEngine_2 : decode cX12_hasEngine 2 = .ok (.iconst 0, 1) := by decide +kernel
theorem dX12_hasEngine_3 : decode cX12_hasEngine 3 = .ok (.istore_n 3, 1) := by decide +kernel
theorem dX12_hasEngine_4 : decode cX12_hasEngine 4 = .ok (.iload_n 3, 1) := by decide +kernel
theorem dX12_hasEngine_5 : decode cX12_hasEngine 5 = .ok (.iconst 2, 1) := by decide +kernel
theorem dX12_hasEngine_6 : decode cX12_hasEngine 6 = .ok (.if_icmp .ge 49, 3) := by decide +kernel
theorem dX12_hasEngine_9 : decode cX12_hasEngine 9 = .ok (.aload_n 0, 1) := by decide +kernel
theorem dX12_hasEngine_10 : decode cX12_hasEngine 10 = .ok (.getfield 84, 3) := by decide +kernel
theorem dX12_hasEngine_13 : decode cX12_hasEngine 13 = .ok (.iconst 2, 1) := by decide +kernel
theorem dX12_hasEngine_14 : decode cX12_hasEngine 14 = .ok (.iload_n 1, 1) := by decide +kernel
theorem dX12_hasEngine_15 : decode cX12_hasEngine 15 = .ok (.imul, 1) := by decide +kernel
theorem dX12_hasEngine_16 : decode cX12_hasEngine 16 = .ok (.iload_n 3, 1) := by decide +kernel
theorem dX12_hasEngine_17 : decode cX12_hasEngine 17 = .ok (.iadd, 1) := by decide +kernel
theorem dX12_hasEngine_18 : decode cX12_hasEngine 18 = .ok (.iaload, 1) := by decide +kernel
theorem dX12_hasEngine_19 : decode cX12_hasEngine 19 = .ok (.istore 4, 2) := by decide +kernel
theorem dX12_hasEngine_21 : decode cX12_hasEngine 21 = .ok (.iload_n 2, 1) := by decide +kernel
theorem dX12_hasEngine_22 : decode cX12_hasEngine 22 = .ok (.ifCond .ne 21, 3) := by decide +kernel
theorem dX12_hasEngine_25 : decode cX12_hasEngine 25 = .ok (.iload 4, 2) := by decide +kernel
theorem dX12_hasEngine_27 : decode cX12_hasEngine 27 = .ok (.bipush (-4), 2) := by decide +kernel
theorem dX12_hasEngine_29 : decode cX12_hasEngine 29 = .ok (.if_icmp .eq 18, 3) := by decide +kernel
theorem dX12_hasEngine_32 : decode cX12_hasEngine 32 = .ok (.aload_n 0, 1) := by decide +kernel
theorem dX12_hasEngine_33 : decode cX12_hasEngine 33 = .ok (.getfield 69, 3) := by decide +kernel
theorem dX12_hasEngine_36 : decode cX12_hasEngine 36 = .ok (.iload 4, 2) := by decide +kernel
theorem dX12_hasEngine_38 : decode cX12_hasEngine 38 = .ok (.iaload, 1) := by decide +kernel
theorem dX12_hasEngine_39 : decode cX12_hasEngine 39 = .ok (.iconst 5, 1) := by decide +kernel
theorem dX12_hasEngine_40 : decode cX12_hasEngine 40 = .ok (.if_icmp .ne 7, 3) := by decide +kernel
theorem dX12_hasEngine_43 : decode cX12_hasEngine 43 = .ok (.iconst 1, 1) := by decide +kernel
theorem dX12_hasEngine_44 : decode cX12_hasEngine 44 = .ok (.goto 4, 3) := by decide +kernel
theorem dX12_hasEngine_47 : decode cX12_hasEngine 47 = .ok (.iconst 0, 1) := by decide +kernel
theorem dX12_hasEngine_48 : decode cX12_hasEngine 48 = .ok (.istore_n 2, 1) := by decide +kernel
theorem dX12_hasEngine_49 : decode cX12_hasEngine 49 = .ok (.iinc 3 1, 3) := by decide +kernel
theorem dX12_hasEngine_52 : decode cX12_hasEngine 52 = .ok (.goto (-48), 3) := by decide +kernel
theorem dX12_hasEngine_55 : decode cX12_hasEngine 55 = .ok (.iload_n 2, 1) := by decide +kernel
theorem dX12_hasEngine_56 : decode cX12_hasEngine 56 = .ok (.ireturn, 1) := by decide +kernel
set_option maxRecDepth 100000 in
set_option maxHeartbeats 4000000 in
theorem w_X12_hasEngine_j48 {p : Program} {l : Launch} {e : Env} {R : Room} {s : State} {m : MethodId} {args : Array Value} {below : List Frame} {meth : Method} {c : Code} {dC : Nat → ClassId} {dI : Nat → Nat → Nat} {cs : Nat → ClassId} {ad : Nat → Nat} {A : Nat → Prop} {D0 : Nat → Nat} {S' : SS} {r : Int32} (F : Fx p s m args meth c cX12_hasEngine 5 RX12 (some .boolean) dC dI cs A) (hR1 : 0 ≤ R.frames) (hR2 : 0 ≤ R.locals) (K4 : Int32 → Int32 → Int32 → SS → Option (Int32 × SS)) (hK4 : ∀ (v0 : Int32) (v1 : Int32) (v2 : Int32) (S : SS), K4 v0 v1 v2 S = some (r, S') → AW p l e R s m args below meth c dC dI cs ad A D0 (some (.int r)) S' 5 4 [(0, .ref (ad 14)), (1, .int v0), (2, .int v1), (3, .int v2)] [] S) (x1 : Int32) (x3 : Int32) (y0 : Int32) (S : SS) (h : f_X12_hasEngine_j48 K4 x1 x3 y0 S = some (r, S')) : AW p l e R s m args below meth c dC dI cs ad A D0 (some (.int r)) S' 5 48 [(0, .ref (ad 14)), (1, .int x1), (3, .int x3)] [.int y0] S := by
  have hx := F.1.1
  have hb := F.1.2.1
  intro H locs ls w hl
  rw [f_X12_hasEngine_j48] at h
  refine lv_istore_n (pc := 48) (lv' := [(2, .int y0), (0, .ref (ad 14)), (1, .int x1), (3, .int x3)]) hx hb dX12_hasEngine_48 rfl hl (by decide) rfl (fun ls hl => ?_)
  refine s_nm h (fun z2 ez2 h => ?_)
  refine lv_iinc (pc := 49) (v := z2) (lv' := [(3, .int z2), (2, .int y0), (0, .ref (ad 14)), (1, .int x1)]) hx hb dX12_hasEngine_49 hl (k := 3) rfl (by rw [ez2]; rfl) (by decide) rfl (fun ls hl => ?_)
  refine lv_goto (pc := 52) (tgt := 4) hx hb dX12_hasEngine_52 (by decide) ?_
  exact hK4 _ _ _ _ h _ _ _ w (lv_sub hl [2, 3, 1, 0] rfl)
set_option maxRecDepth 100000 in
set_option maxHeartbeats 4000000 in
theorem w_X12_hasEngine_j43 {p : Program} {l : Launch} {e : Env} {R : Room} {s : State} {m : MethodId} {args : Array Value} {below : List Frame} {meth : Method} {c : Code} {dC : Nat → ClassId} {dI : Nat → Nat → Nat} {cs : Nat → ClassId} {ad : Nat → Nat} {A : Nat → Prop} {D0 : Nat → Nat} {S' : SS} {r : Int32} (F : Fx p s m args meth c cX12_hasEngine 5 RX12 (some .boolean) dC dI cs A) (hR1 : 0 ≤ R.frames) (hR2 : 0 ≤ R.locals) (K4 : Int32 → Int32 → Int32 → SS → Option (Int32 × SS)) (hK4 : ∀ (v0 : Int32) (v1 : Int32) (v2 : Int32) (S : SS), K4 v0 v1 v2 S = some (r, S') → AW p l e R s m args below meth c dC dI cs ad A D0 (some (.int r)) S' 5 4 [(0, .ref (ad 14)), (1, .int v0), (2, .int v1), (3, .int v2)] [] S) (x1 : Int32) (x3 : Int32) (S : SS) (h : f_X12_hasEngine_j43 K4 x1 x3 S = some (r, S')) : AW p l e R s m args below meth c dC dI cs ad A D0 (some (.int r)) S' 5 43 [(0, .ref (ad 14)), (1, .int x1), (3, .int x3)] [] S := by
  have hx := F.1.1
  have hb := F.1.2.1
  intro H locs ls w hl
  rw [f_X12_hasEngine_j43] at h
  refine lv_iconst (pc := 43) (v := 1) hx hb dX12_hasEngine_43 (by decide) ?_
  refine lv_goto (pc := 44) (tgt := 48) hx hb dX12_hasEngine_44 (by decide) ?_
  exact w_X12_hasEngine_j48 F (Nat.le_trans (by decide) hR1) (Nat.le_trans (by decide) hR2) _ hK4 _ _ _ _ h _ _ _ w (lv_sub hl [0, 1, 2] rfl)
set_option maxRecDepth 100000 in
set_option maxHeartbeats 4000000 in
theorem w_X12_hasEngine_j47 {p : Program} {l : Launch} {e : Env} {R : Room} {s : State} {m : MethodId} {args : Array Value} {below : List Frame} {meth : Method} {c : Code} {dC : Nat → ClassId} {dI : Nat → Nat → Nat} {cs : Nat → ClassId} {ad : Nat → Nat} {A : Nat → Prop} {D0 : Nat → Nat} {S' : SS} {r : Int32} (F : Fx p s m args meth c cX12_hasEngine 5 RX12 (some .boolean) dC dI cs A) (hR1 : 0 ≤ R.frames) (hR2 : 0 ≤ R.locals) (K4 : Int32 → Int32 → Int32 → SS → Option (Int32 × SS)) (hK4 : ∀ (v0 : Int32) (v1 : Int32) (v2 : Int32) (S : SS), K4 v0 v1 v2 S = some (r, S') → AW p l e R s m args below meth c dC dI cs ad A D0 (some (.int r)) S' 5 4 [(0, .ref (ad 14)), (1, .int v0), (2, .int v1), (3, .int v2)] [] S) (x1 : Int32) (x3 : Int32) (S : SS) (h : f_X12_hasEngine_j47 K4 x1 x3 S = some (r, S')) : AW p l e R s m args below meth c dC dI cs ad A D0 (some (.int r)) S' 5 47 [(0, .ref (ad 14)), (1, .int x1), (3, .int x3)] [] S := by
  have hx := F.1.1
  have hb := F.1.2.1
  intro H locs ls w hl
  rw [f_X12_hasEngine_j47] at h
  refine lv_iconst (pc := 47) (v := 0) hx hb dX12_hasEngine_47 (by decide) ?_
  exact w_X12_hasEngine_j48 F (Nat.le_trans (by decide) hR1) (Nat.le_trans (by decide) hR2) _ hK4 _ _ _ _ h _ _ _ w (lv_sub hl [0, 1, 2] rfl)
set_option maxRecDepth 100000 in
set_option maxHeartbeats 4000000 in
theorem w_X12_hasEngine_L4 {p : Program} {l : Launch} {e : Env} {R : Room} {s : State} {m : MethodId} {args : Array Value} {below : List Frame} {meth : Method} {c : Code} {dC : Nat → ClassId} {dI : Nat → Nat → Nat} {cs : Nat → ClassId} {ad : Nat → Nat} {A : Nat → Prop} {D0 : Nat → Nat} {S' : SS} {r : Int32} (F : Fx p s m args meth c cX12_hasEngine 5 RX12 (some .boolean) dC dI cs A) (hR1 : 0 ≤ R.frames) (hR2 : 0 ≤ R.locals) : ∀ (n : Nat) (x1 : Int32) (x2 : Int32) (x3 : Int32) (S : SS), f_X12_hasEngine_L4 n x1 x2 x3 S = some (r, S') → AW p l e R s m args below meth c dC dI cs ad A D0 (some (.int r)) S' 5 4 [(0, .ref (ad 14)), (1, .int x1), (2, .int x2), (3, .int x3)] [] S := by
  have hx := F.1.1
  have hb := F.1.2.1
  intro n
  induction n with
  | zero => intro x1 x2 x3 S h; cases h
  | succ n ih =>
    intro x1 x2 x3 S h H locs ls w hl
    rw [f_X12_hasEngine_L4] at h
    refine lv_iload_n (pc := 4) hx hb dX12_hasEngine_4 rfl (lv_at hl 3 rfl) ?_
    refine lv_iconst (pc := 5) (v := 2) hx hb dX12_hasEngine_5 (by decide) ?_
    refine lv_icmp_ge (pc := 6) (tgt := 55) hx hb dX12_hasEngine_6 (by decide) (fun q => ?_) (fun q => ?_)
    · have h := ite_t q h
      refine lv_iload_n (pc := 55) hx hb dX12_hasEngine_55 rfl (lv_at hl 2 rfl) ?_
      exact s_zret F w h dX12_hasEngine_56
    · have h := ite_f q h
      refine lv_aload_n (pc := 9) hx hb dX12_hasEngine_9 rfl (lv_at hl 0 rfl) ?_
      refine s_getR (pc := 10) F w 90 ds_14 (j := 35) vc_X12 vi_X12 rfl (by decide) kf_X12_84 dX12_hasEngine_10 ?_
      refine lv_iconst (pc := 13) (v := 2) hx hb dX12_hasEngine_13 (by decide) ?_
      refine lv_iload_n (pc := 14) hx hb dX12_hasEngine_14 rfl (lv_at hl 1 rfl) ?_
      refine lv_imul (pc := 15) hx hb dX12_hasEngine_15 ?_
      refine lv_iload_n (pc := 16) hx hb dX12_hasEngine_16 rfl (lv_at hl 3 rfl) ?_
      refine lv_iadd (pc := 17) hx hb dX12_hasEngine_17 ?_
      refine s_iald (pc := 18) F w ds_90 h dX12_hasEngine_18 (fun h => ?_)
      refine s_nm h (fun z1 ez1 h => ?_)
      rw [← ez1]
      refine lv_istore (pc := 19) (lv' := [(4, .int z1), (0, .ref (ad 14)), (1, .int x1), (2, .int x2), (3, .int x3)]) hx hb dX12_hasEngine_19 hl (by decide) rfl (fun ls hl => ?_)
      refine lv_iload_n (pc := 21) hx hb dX12_hasEngine_21 rfl (lv_at hl 3 rfl) ?_
      refine lv_if_ne (pc := 22) (tgt := 43) hx hb dX12_hasEngine_22 (by decide) (fun q => ?_) (fun q => ?_)
      · have h := ite_f q h
        exact w_X12_hasEngine_j43 F (Nat.le_trans (by decide) hR1) (Nat.le_trans (by decide) hR2) _ (fun v0 v1 v2 S h => ih v0 v1 v2 S h) _ _ _ h _ _ _ w (lv_sub hl [1, 2, 4] rfl)
      · have h := ite_t q h
        refine lv_iload (pc := 25) hx hb dX12_hasEngine_25 (lv_at hl 0 rfl) ?_
        refine lv_bipush (pc := 27) (v := -4) hx hb dX12_hasEngine_27 (by decide) ?_
        refine lv_icmp_eq (pc := 29) (tgt := 47) hx hb dX12_hasEngine_29 (by decide) (fun q => ?_) (fun q => ?_)
        · have h := ite_t q h
          exact w_X12_hasEngine_j47 F (Nat.le_trans (by decide) hR1) (Nat.le_trans (by decide) hR2) _ (fun v0 v1 v2 S h => ih v0 v1 v2 S h) _ _ _ h _ _ _ w (lv_sub hl [1, 2, 4] rfl)
        · have h := ite_f q h
          refine lv_aload_n (pc := 32) hx hb dX12_hasEngine_32 rfl (lv_at hl 1 rfl) ?_
          refine s_getR (pc := 33) F w 85 ds_14 (j := 30) vc_X12 vi_X12 rfl (by decide) kf_X12_69 dX12_hasEngine_33 ?_
          refine lv_iload (pc := 36) hx hb dX12_hasEngine_36 (lv_at hl 0 rfl) ?_
          refine s_iald (pc := 38) F w ds_85 h dX12_hasEngine_38 (fun h => ?_)
          refine lv_iconst (pc := 39) (v := 5) hx hb dX12_hasEngine_39 (by decide) ?_
          refine lv_icmp_ne (pc := 40) (tgt := 47) hx hb dX12_hasEngine_40 (by decide) (fun q => ?_) (fun q => ?_)
          · have h := ite_f q h
            exact w_X12_hasEngine_j47 F (Nat.le_trans (by decide) hR1) (Nat.le_trans (by decide) hR2) _ (fun v0 v1 v2 S h => ih v0 v1 v2 S h) _ _ _ h _ _ _ w (lv_sub hl [1, 2, 4] rfl)
          · have h := ite_t q h
            exact w_X12_hasEngine_j43 F (Nat.le_trans (by decide) hR1) (Nat.le_trans (by decide) hR2) _ (fun v0 v1 v2 S h => ih v0 v1 v2 S h) _ _ _ h _ _ _ w (lv_sub hl [1, 2, 4] rfl)
set_option maxRecDepth 100000 in
set_option maxHeartbeats 4000000 in
theorem m_X12_hasEngine (a1 : Int32) (S S' : SS) (r : Int32) (h : f_X12_hasEngine a1 S = some (r, S')) : MT yX12_hasEngine cX12_hasEngine 5 (some .boolean) 0 0 (fun ad => [.ref (ad 14), .int a1]) S (some (.int r)) S' := by
  refine MT.of RX12 (fun ad => [(0, .ref (ad 14)), (1, .int a1)]) (by decide) rfl (fun _ => Nat.le_of_ble_eq_true rfl) (fun _ => rfl) ?_
  intro p l e R s m args below meth c dC dI cs ad A hR1 hR2 F H locs ls w hl
  have hx := F.1.1
  have hb := F.1.2.1
  rw [f_X12_hasEngine] at h
  refine lv_iconst (pc := 0) (v := 0) hx hb dX12_hasEngine_0 (by decide) ?_
  refine lv_istore_n (pc := 1) (lv' := [(2, .int (0 : Int32)), (0, .ref (ad 14)), (1, .int a1)]) hx hb dX12_hasEngine_1 rfl hl (by decide) rfl (fun ls hl => ?_)
  refine lv_iconst (pc := 2) (v := 0) hx hb dX12_hasEngine_2 (by decide) ?_
  refine lv_istore_n (pc := 3) (lv' := [(3, .int (0 : Int32)), (2, .int (0 : Int32)), (0, .ref (ad 14)), (1, .int a1)]) hx hb dX12_hasEngine_3 rfl hl (by decide) rfl (fun ls hl => ?_)
  exact w_X12_hasEngine_L4 F (Nat.le_trans (by decide) hR1) (Nat.le_trans (by decide) hR2) _ _ _ _ _ h _ _ _ w (lv_sub hl [2, 3, 1, 0] rfl)
def f_X12_pulls_j27  (x1 : Int32) (S : SS) : Option (Int32 × SS) :=
    bndv (f_X12_note (15 : Int32) S) (fun S1 =>
    grd (inb x1 72) (
    some (S1.1 96 x1.toNatClampNeg, S1)))
def f_X12_pulls (a1 : Int32) (S : SS) : Option (Int32 × SS) :=
  grd (inb a1 72) (
  if (S.1 85 a1.toNatClampNeg) = (6 : Int32) then
    bndv (f_X12_note (16 : Int32) S) (fun S2 =>
    bnd (f_X12_hasEngine a1 S2) (fun r4 S3 =>
    if r4 = 0 then
      some ((0 : Int32), S3)
    else
      f_X12_pulls_j27 a1 S3))
  else
    f_X12_pulls_j27 a1 S)
theorem dX12_pulls_0 : decode cX12_pulls 0 = .ok (.aload_n 0, 1) := by decide +kernel
theorem dX12_pulls_1 : decode cX12_pulls 1 = .ok (.getfield 69, 3) := by decide +kernel
theorem dX12_pulls_4 : decode cX12_pulls 4 = .ok (.iload_n 1, 1) := by decide +kernel
theorem dX12_pulls_5 : decode cX12_pulls 5 = .ok (.iaload, 1) := by decide +kernel
theorem dX12_pulls_6 : decode cX12_pulls 6 = .ok (.bipush 6, 2) := by decide +kernel
theorem dX12_pulls_8 : decode cX12_pulls 8 = .ok (.if_icmp .ne 19, 3) := by decide +kernel
theorem dX12_pulls_11 : decode cX12_pulls 11 = .ok (.aload_n 0, 1) := by decide +kernel
theorem dX12_pulls_12 : decode cX12_pulls 12 = .ok (.bipush 16, 2) := by decide +kernel
theorem dX12_pulls_14 : decode cX12_pulls 14 = .ok (.invokevirtual 296, 3) := by decide +kernel
theorem dX12_pulls_17 : decode cX12_pulls 17 = .ok (.aload_n 0, 1) := by decide +kernel
theorem dX12_pulls_18 : decode cX12_pulls 18 = .ok (.iload_n 1, 1) := by decide +kernel
theorem dX12_pulls_19 : decode cX12_pulls 19 = .ok (.invokevirtual 310, 3) := by decide +kernel
theorem dX12_pulls_22 : decode cX12_pulls 22 = .ok (.ifCond .ne 5, 3) := by decide +kernel
theorem dX12_pulls_25 : decode cX12_pulls 25 = .ok (.iconst 0, 1) := by decide +kernel
theorem dX12_pulls_26 : decode cX12_pulls 26 = .ok (.ireturn, 1) := by decide +kernel
theorem dX12_pulls_27 : decode cX12_pulls 27 = .ok (.aload_n 0, 1) := by decide +kernel
theorem dX12_pulls_28 : decode cX12_pulls 28 = .ok (.bipush 15, 2) := by decide +kernel
theorem dX12_pulls_30 : decode cX12_pulls 30 = .ok (.invokevirtual 296, 3) := by decide +kernel
theorem dX12_pulls_33 : decode cX12_pulls 33 = .ok (.aload_n 0, 1) := by decide +kernel
theorem dX12_pulls_34 : decode cX12_pulls 34 = .ok (.getfield 102, 3) := by decide +kernel
theorem dX12_pulls_37 : decode cX12_pulls 37 = .ok (.iload_n 1, 1) := by decide +kernel
theorem dX12_pulls_38 : decode cX12_pulls 38 = .ok (.iaload, 1) := by decide +kernel
theorem dX12_pulls_39 : decode cX12_pulls 39 = .ok (.ireturn, 1) := by decide +kernel
set_option maxRecDepth 100000 in
set_option maxHeartbeats 4000000 in
theorem w_X12_pulls_j27 {p : Program} {l : Launch} {e : Env} {R : Room} {s : State} {m : MethodId} {args : Array Value} {below : List Frame} {meth : Method} {c : Code} {dC : Nat → ClassId} {dI : Nat → Nat → Nat} {cs : Nat → ClassId} {ad : Nat → Nat} {A : Nat → Prop} {D0 : Nat → Nat} {S' : SS} {r : Int32} (F : Fx p s m args meth c cX12_pulls 2 RX12 (some .int) dC dI cs A) (hR1 : 1 ≤ R.frames) (hR2 : 21 ≤ R.locals) (x1 : Int32) (S : SS) (h : f_X12_pulls_j27 x1 S = some (r, S')) : AW p l e R s m args below meth c dC dI cs ad A D0 (some (.int r)) S' 2 27 [(0, .ref (ad 14)), (1, .int x1)] [] S := by
  have hx := F.1.1
  have hb := F.1.2.1
  intro H locs ls w hl
  rw [f_X12_pulls_j27] at h
  refine lv_aload_n (pc := 27) hx hb dX12_pulls_27 rfl (lv_at hl 0 rfl) ?_
  refine lv_bipush (pc := 28) (v := 15) hx hb dX12_pulls_28 (by decide) ?_
  obtain ⟨S1, hc, h⟩ := bndv_t h
  refine s_cvv (pc := 30) [.int (15 : Int32)] (fun ad => [.ref (ad 14), .int (15 : Int32)]) F w (m_X12_note _ _ _ hc) rfl rfl hl.1 ds_14 vc_X12 rfl ok_X12_note rfl kc_X12_note kl_X12_296 ki_X12_note kv_X12_note kn_X12 ⟨Nat.le_trans (by decide) hR1, Nat.le_trans (by decide) hR2⟩ ⟨Nat.zero_le _, Nat.zero_le _⟩ (Nat.le_of_ble_eq_true rfl) dX12_pulls_30 (fun H locs w => ?_)
  refine lv_aload_n (pc := 33) hx hb dX12_pulls_33 rfl (lv_at hl 0 rfl) ?_
  refine s_getR (pc := 34) F w 96 ds_14 (j := 41) vc_X12 vi_X12 rfl (by decide) kf_X12_102 dX12_pulls_34 ?_
  refine lv_iload_n (pc := 37) hx hb dX12_pulls_37 rfl (lv_at hl 1 rfl) ?_
  refine s_iald (pc := 38) F w ds_96 h dX12_pulls_38 (fun h => ?_)
  exact s_iret F w h dX12_pulls_39
set_option maxRecDepth 100000 in
set_option maxHeartbeats 4000000 in
theorem m_X12_pulls (a1 : Int32) (S S' : SS) (r : Int32) (h : f_X12_pulls a1 S = some (r, S')) : MT yX12_pulls cX12_pulls 2 (some .int) 1 24 (fun ad => [.ref (ad 14), .int a1]) S (some (.int r)) S' := by
  refine MT.of RX12 (fun ad => [(0, .ref (ad 14)), (1, .int a1)]) (by decide) rfl (fun _ => Nat.le_of_ble_eq_true rfl) (fun _ => rfl) ?_
  intro p l e R s m args below meth c dC dI cs ad A hR1 hR2 F H locs ls w hl
  have hx := F.1.1
  have hb := F.1.2.1
  rw [f_X12_pulls] at h
  refine lv_aload_n (pc := 0) hx hb dX12_pulls_0 rfl (lv_at hl 0 rfl) ?_
  refine s_getR (pc := 1) F w 85 ds_14 (j := 30) vc_X12 vi_X12 rfl (by decide) kf_X12_69 dX12_pulls_1 ?_
  refine lv_iload_n (pc := 4) hx hb dX12_pulls_4 rfl (lv_at hl 1 rfl) ?_
  refine s_iald (pc := 5) F w ds_85 h dX12_pulls_5 (fun h => ?_)
  refine lv_bipush (pc := 6) (v := 6) hx hb dX12_pulls_6 (by decide) ?_
  refine lv_icmp_ne (pc := 8) (tgt := 27) hx hb dX12_pulls_8 (by decide) (fun q => ?_) (fun q => ?_)
  · have h := ite_f q h
    exact w_X12_pulls_j27 F (Nat.le_trans (by decide) hR1) (Nat.le_trans (by decide) hR2) _ _ h _ _ _ w (lv_sub hl [0, 1] rfl)
  · have h := ite_t q h
    refine lv_aload_n (pc := 11) hx hb dX12_pulls_11 rfl (lv_at hl 0 rfl) ?_
    refine lv_bipush (pc := 12) (v := 16) hx hb dX12_pulls_12 (by decide) ?_
    obtain ⟨S2, hc, h⟩ := bndv_t h
    refine s_cvv (pc := 14) [.int (16 : Int32)] (fun ad => [.ref (ad 14), .int (16 : Int32)]) F w (m_X12_note _ _ _ hc) rfl rfl hl.1 ds_14 vc_X12 rfl ok_X12_note rfl kc_X12_note kl_X12_296 ki_X12_note kv_X12_note kn_X12 ⟨Nat.le_trans (by decide) hR1, Nat.le_trans (by decide) hR2⟩ ⟨Nat.zero_le _, Nat.zero_le _⟩ (Nat.le_of_ble_eq_true rfl) dX12_pulls_14 (fun H locs w => ?_)
    refine lv_aload_n (pc := 17) hx hb dX12_pulls_17 rfl (lv_at hl 0 rfl) ?_
    refine lv_iload_n (pc := 18) hx hb dX12_pulls_18 rfl (lv_at hl 1 rfl) ?_
    obtain ⟨r4, S3, hc, h⟩ := bnd_t h
    refine s_cvi (pc := 19) [.int a1] (fun ad => [.ref (ad 14), .int a1]) F w (m_X12_hasEngine _ _ _ _ hc) rfl rfl hl.1 ds_14 vc_X12 rfl ok_X12_hasEngine rfl kc_X12_hasEngine kl_X12_310 ki_X12_hasEngine kv_X12_hasEngine kn_X12 ⟨Nat.le_trans (by decide) hR1, Nat.le_trans (by decide) hR2⟩ ⟨Nat.zero_le _, Nat.zero_le _⟩ (Nat.le_of_ble_eq_true rfl) dX12_pulls_19 (fun H locs w => ?_)
    refine lv_if_ne (pc := 22) (tgt := 27) hx hb dX12_pulls_22 (by decide) (fun q => ?_) (fun q => ?_)
    · have h := ite_f q h
      exact w_X12_pulls_j27 F (Nat.le_trans (by decide) hR1) (Nat.le_trans (by decide) hR2) _ _ h _ _ _ w (lv_sub hl [0, 1] rfl)
    · have h := ite_t q h
      refine lv_iconst (pc := 25) (v := 0) hx hb dX12_pulls_25 (by decide) ?_
      exact s_iret F w h dX12_pulls_26
def f_X12_loaded_L9  : Nat → Int32 → Int32 → Int32 → SS → Option (Int32 × SS)
  | 0, _, _, _, _ => none
  | n + 1, x1, x2, x3, S =>
    grd (inb x1 72) (
    if (S.1 102 x1.toNatClampNeg) ≤ x3 then
      some (x2, S)
    else
      grd (inb (((20 : Int32) * x1) + x3) 1440) (
      nm (x2 + (S.1 104 (((20 : Int32) * x1) + x3).toNatClampNeg)) (fun z2 =>
      nm (x3 + (1 : Int32)) (fun z3 =>
      f_X12_loaded_L9 n x1 z2 z3 S))))
def f_X12_loaded (a1 : Int32) (S : SS) : Option (Int32 × SS) :=
  grd (inb a1 72) (
  nm (S.1 96 a1.toNatClampNeg) (fun z1 =>
  f_X12_loaded_L9 NF a1 z1 (0 : Int32) S))
theorem dX12_loaded_0 : decode cX12_loaded 0 = .ok (.aload_n 0, 1) := by decide +kernel
theorem dX12_loaded_1 : decode cX12_loaded 1 = .ok (.getfield 102, 3) := by decide +kernel
theorem dX12_loaded_4 : decode cX12_loaded 4 = .ok (.iload_n 1, 1) := by decide +kernel
theorem dX12_loaded_5 : decode cX12_loaded 5 = .ok (.iaload, 1) := by decide +kernel
theorem dX12_loaded_6 : decode cX12_loaded 6 = .ok (.istore_n 2, 1) := by decide +kernel
theorem dX12_loaded_7 : decode cX12_loaded 7 = .ok (.iconst 0, 1) := by decide +kernel
theorem dX12_loaded_8 : decode cX12_loaded 8 = .ok (.istore_n 3, 1) := by decide +kernel
theorem dX12_loaded_9 : decode cX12_loaded 9 = .ok (.iload_n 3, 1) := by decide +kernel
theorem dX12_loaded_10 : decode cX12_loaded 10 = .ok (.aload_n 0, 1) := by decide +kernel
theorem dX12_loaded_11 : decode cX12_loaded 11 = .ok (.getfield 120, 3) := by decide +kernel
theorem dX12_loaded_14 : decode cX12_loaded 14 = .ok (.iload_n 1, 1) := by decide +kernel
theorem dX12_loaded_15 : decode cX12_loaded 15 = .ok (.iaload, 1) := by decide +kernel
theorem dX12_loaded_16 : decode cX12_loaded 16 = .ok (.if_icmp .ge 23, 3) := by decide +kernel
theorem dX12_loaded_19 : decode cX12_loaded 19 = .ok (.iload_n 2, 1) := by decide +kernel
theorem dX12_loaded_20 : decode cX12_loaded 20 = .ok (.aload_n 0, 1) := by decide +kernel
theorem dX12_loaded_21 : decode cX12_loaded 21 = .ok (.getfield 126, 3) := by decide +kernel
theorem dX12_loaded_24 : decode cX12_loaded 24 = .ok (.bipush 20, 2) := by decide +kernel
theorem dX12_loaded_26 : decode cX12_loaded 26 = .ok (.iload_n 1, 1) := by decide +kernel
theorem dX12_loaded_27 : decode cX12_loaded 27 = .ok (.imul, 1) := by decide +kernel
theorem dX12_loaded_28 : decode cX12_loaded 28 = .ok (.iload_n 3, 1) := by decide +kernel
theorem dX12_loaded_29 : decode cX12_loaded 29 = .ok (.iadd, 1) := by decide +kernel
theorem dX12_loaded_30 : decode cX12_loaded 30 = .ok (.iaload, 1) := by decide +kernel
theorem dX12_loaded_31 : decode cX12_loaded 31 = .ok (.iadd, 1) := by decide +kernel
theorem dX12_loaded_32 : decode cX12_loaded 32 = .ok (.istore_n 2, 1) := by decide +kernel
theorem dX12_loaded_33 : decode cX12_loaded 33 = .ok (.iinc 3 1, 3) := by decide +kernel
theorem dX12_loaded_36 : decode cX12_loaded 36 = .ok (.goto (-27), 3) := by decide +kernel
theorem dX12_loaded_39 : decode cX12_loaded 39 = .ok (.iload_n 2, 1) := by decide +kernel
theorem dX12_loaded_40 : decode cX12_loaded 40 = .ok (.ireturn, 1) := by decide +kernel
set_option maxRecDepth 100000 in
set_option maxHeartbeats 4000000 in
theorem w_X12_loaded_L9 {p : Program} {l : Launch} {e : Env} {R : Room} {s : State} {m : MethodId} {args : Array Value} {below : List Frame} {meth : Method} {c : Code} {dC : Nat → ClassId} {dI : Nat → Nat → Nat} {cs : Nat → ClassId} {ad : Nat → Nat} {A : Nat → Prop} {D0 : Nat → Nat} {S' : SS} {r : Int32} (F : Fx p s m args meth c cX12_loaded 4 RX12 (some .int) dC dI cs A) (hR1 : 0 ≤ R.frames) (hR2 : 0 ≤ R.locals) : ∀ (n : Nat) (x1 : Int32) (x2 : Int32) (x3 : Int32) (S : SS), f_X12_loaded_L9 n x1 x2 x3 S = some (r, S') → AW p l e R s m args below meth c dC dI cs ad A D0 (some (.int r)) S' 4 9 [(0, .ref (ad 14)), (1, .int x1), (2, .int x2), (3, .int x3)] [] S := by
  have hx := F.1.1
  have hb := F.1.2.1
  intro n
  induction n with
  | zero => intro x1 x2 x3 S h; cases h
  | succ n ih =>
    intro x1 x2 x3 S h H locs ls w hl
    rw [f_X12_loaded_L9] at h
    refine lv_iload_n (pc := 9) hx hb dX12_loaded_9 rfl (lv_at hl 3 rfl) ?_
    refine lv_aload_n (pc := 10) hx hb dX12_loaded_10 rfl (lv_at hl 0 rfl) ?_
    refine s_getR (pc := 11) F w 102 ds_14 (j := 50) vc_X12 vi_X12 rfl (by decide) kf_X12_120 dX12_loaded_11 ?_
    refine lv_iload_n (pc := 14) hx hb dX12_loaded_14 rfl (lv_at hl 1 rfl) ?_
    refine s_iald (pc := 15) F w ds_102 h dX12_loaded_15 (fun h => ?_)
    refine lv_icmp_ge (pc := 16) (tgt := 39) hx hb dX12_loaded_16 (by decide) (fun q => ?_) (fun q => ?_)
    · have h := ite_t q h
      refine lv_iload_n (pc := 39) hx hb dX12_loaded_39 rfl (lv_at hl 2 rfl) ?_
      exact s_iret F w h dX12_loaded_40
    · have h := ite_f q h
      refine lv_iload_n (pc := 19) hx hb dX12_loaded_19 rfl (lv_at hl 2 rfl) ?_
      refine lv_aload_n (pc := 20) hx hb dX12_loaded_20 rfl (lv_at hl 0 rfl) ?_
      refine s_getR (pc := 21) F w 104 ds_14 (j := 52) vc_X12 vi_X12 rfl (by decide) kf_X12_126 dX12_loaded_21 ?_
      refine lv_bipush (pc := 24) (v := 20) hx hb dX12_loaded_24 (by decide) ?_
      refine lv_iload_n (pc := 26) hx hb dX12_loaded_26 rfl (lv_at hl 1 rfl) ?_
      refine lv_imul (pc := 27) hx hb dX12_loaded_27 ?_
      refine lv_iload_n (pc := 28) hx hb dX12_loaded_28 rfl (lv_at hl 3 rfl) ?_
      refine lv_iadd (pc := 29) hx hb dX12_loaded_29 ?_
      refine s_iald (pc := 30) F w ds_104 h dX12_loaded_30 (fun h => ?_)
      refine lv_iadd (pc := 31) hx hb dX12_loaded_31 ?_
      refine s_nm h (fun z2 ez2 h => ?_)
      rw [← ez2]
      refine lv_istore_n (pc := 32) (lv' := [(2, .int z2), (0, .ref (ad 14)), (1, .int x1), (3, .int x3)]) hx hb dX12_loaded_32 rfl hl (by decide) rfl (fun ls hl => ?_)
      refine s_nm h (fun z3 ez3 h => ?_)
      refine lv_iinc (pc := 33) (v := z3) (lv' := [(3, .int z3), (2, .int z2), (0, .ref (ad 14)), (1, .int x1)]) hx hb dX12_loaded_33 hl (k := 3) rfl (by rw [ez3]; rfl) (by decide) rfl (fun ls hl => ?_)
      refine lv_goto (pc := 36) (tgt := 9) hx hb dX12_loaded_36 (by decide) ?_
      exact ih _ _ _ _ h _ _ _ w (lv_sub hl [2, 3, 1, 0] rfl)
set_option maxRecDepth 100000 in
set_option maxHeartbeats 4000000 in
theorem m_X12_loaded (a1 : Int32) (S S' : SS) (r : Int32) (h : f_X12_loaded a1 S = some (r, S')) : MT yX12_loaded cX12_loaded 4 (some .int) 0 0 (fun ad => [.ref (ad 14), .int a1]) S (some (.int r)) S' := by
  refine MT.of RX12 (fun ad => [(0, .ref (ad 14)), (1, .int a1)]) (by decide) rfl (fun _ => Nat.le_of_ble_eq_true rfl) (fun _ => rfl) ?_
  intro p l e R s m args below meth c dC dI cs ad A hR1 hR2 F H locs ls w hl
  have hx := F.1.1
  have hb := F.1.2.1
  rw [f_X12_loaded] at h
  refine lv_aload_n (pc := 0) hx hb dX12_loaded_0 rfl (lv_at hl 0 rfl) ?_
  refine s_getR (pc := 1) F w 96 ds_14 (j := 41) vc_X12 vi_X12 rfl (by decide) kf_X12_102 dX12_loaded_1 ?_
  refine lv_iload_n (pc := 4) hx hb dX12_loaded_4 rfl (lv_at hl 1 rfl) ?_
  refine s_iald (pc := 5) F w ds_96 h dX12_loaded_5 (fun h => ?_)
  refine s_nm h (fun z1 ez1 h => ?_)
  rw [← ez1]
  refine lv_istore_n (pc := 6) (lv' := [(2, .int z1), (0, .ref (ad 14)), (1, .int a1)]) hx hb dX12_loaded_6 rfl hl (by decide) rfl (fun ls hl => ?_)
  refine lv_iconst (pc := 7) (v := 0) hx hb dX12_loaded_7 (by decide) ?_
  refine lv_istore_n (pc := 8) (lv' := [(3, .int (0 : Int32)), (2, .int z1), (0, .ref (ad 14)), (1, .int a1)]) hx hb dX12_loaded_8 rfl hl (by decide) rfl (fun ls hl => ?_)
  exact w_X12_loaded_L9 F (Nat.le_trans (by decide) hR1) (Nat.le_trans (by decide) hR2) _ _ _ _ _ h _ _ _ w (lv_sub hl [2, 3, 1, 0] rfl)
def f_X12_weight_j21  (x1 : Int32) (y0 : Int32) (S : SS) : Option (Int32 × SS) :=
    grd (inb x1 72) (
    if (S.1 85 x1.toNatClampNeg) = (0 : Int32) then
      bndv (f_X12_note (1 : Int32) S) (fun S1 =>
      bnd (f_X12_loaded x1 S1) (fun r3 S2 =>
      some (r3, S2)))
    else
    if (S.1 85 x1.toNatClampNeg) = (1 : Int32) then
      bndv (f_X12_note (2 : Int32) S) (fun S4 =>
      bndv (f_X12_note (1 : Int32) S4) (fun S5 =>
      bnd (f_X12_loaded x1 S5) (fun r7 S6 =>
      some (r7 + y0, S6))))
    else
    if (S.1 85 x1.toNatClampNeg) = (2 : Int32) then
      bndv (f_X12_note (3 : Int32) S) (fun S8 =>
      bndv (f_X12_note (2 : Int32) S8) (fun S9 =>
      bndv (f_X12_note (1 : Int32) S9) (fun S10 =>
      bnd (f_X12_loaded x1 S10) (fun r12 S11 =>
      some ((r12 + y0) + (5 : Int32), S11)))))
    else
    if (S.1 85 x1.toNatClampNeg) = (3 : Int32) then
      bndv (f_X12_note (1 : Int32) S) (fun S13 =>
      bnd (f_X12_loaded x1 S13) (fun r15 S14 =>
      some (r15, S14)))
    else
    if (S.1 85 x1.toNatClampNeg) = (4 : Int32) then
      bndv (f_X12_note (4 : Int32) S) (fun S16 =>
      grd (inb x1 72) (
      some (S16.1 96 x1.toNatClampNeg, S16)))
    else
    bndv (f_X12_note (5 : Int32) S) (fun S17 =>
    grd (inb x1 72) (
    some ((80 : Int32) + (S17.1 96 x1.toNatClampNeg), S17))))
def f_X12_weight (a1 : Int32) (S : SS) : Option (Int32 × SS) :=
  grd (inb a1 72) (
  if (S.1 102 a1.toNatClampNeg) = (-4 : Int32) then
    f_X12_weight_j21 a1 (0 : Int32) S
  else
    grd (inb a1 72) (
    f_X12_weight_j21 a1 (S.1 102 a1.toNatClampNeg) S))
theorem dX12_weight_0 : decode cX12_weight 0 = .ok (.aload_n 0, 1) := by decide +kernel
theorem dX12_weight_1 : decode cX12_weight 1 = .ok (.getfield 120, 3) := by decide +kernel
theorem dX12_weight_4 : decode cX12_weight 4 = .ok (.iload_n 1, 1) := by decide +kernel
theorem dX12_weight_5 : decode cX12_weight 5 = .ok (.iaload, 1) := by decide +kernel
theorem dX12_weight_6 : decode cX12_weight 6 = .ok (.bipush (-4), 2) := by decide +kernel
theorem dX12_weight_8 : decode cX12_weight 8 = .ok (.if_icmp .ne 7, 3) := by decide +kernel
theorem dX12_weight_11 : decode cX12_weight 11 = .ok (.iconst 0, 1) := by decide +kernel
theorem dX12_weight_12 : decode cX12_weight 12 = .ok (.goto 9, 3) := by decide +kernel
theorem dX12_weight_15 : decode cX12_weight 15 = .ok (.aload_n 0, 1) := by decide +kernel
theorem dX12_weight_16 : decode cX12_weight 16 = .ok (.getfield 120, 3) := by decide +kernel
theorem dX12_weight_19 : decode cX12_weight 19 = .ok (.iload_n 1, 1) := by decide +kernel
theorem dX12_weight_20 : decode cX12_weight 20 = .ok (.iaload, 1) := by decide +kernel
theorem dX12_weight_21 : decode cX12_weight 21 = .ok (.istore_n 2, 1) := by decide +kernel
theorem dX12_weight_22 : decode cX12_weight 22 = .ok (.aload_n 0, 1) := by decide +kernel
theorem dX12_weight_23 : decode cX12_weight 23 = .ok (.getfield 69, 3) := by decide +kernel
theorem dX12_weight_26 : decode cX12_weight 26 = .ok (.iload_n 1, 1) := by decide +kernel
theorem dX12_weight_27 : decode cX12_weight 27 = .ok (.iaload, 1) := by decide +kernel
theorem dX12_weight_28 : decode cX12_weight 28 = .ok (.tableswitch 102 0 4 #[36, 47, 65, 36, 90], 36) := by decide +kernel
theorem dX12_weight_64 : decode cX12_weight 64 = .ok (.aload_n 0, 1) := by decide +kernel
theorem dX12_weight_65 : decode cX12_weight 65 = .ok (.iconst 1, 1) := by decide +kernel
theorem dX12_weight_66 : decode cX12_weight 66 = .ok (.invokevirtual 296, 3) := by decide +kernel
theorem dX12_weight_69 : decode cX12_weight 69 = .ok (.aload_n 0, 1) := by decide +kernel
theorem dX12_weight_70 : decode cX12_weight 70 = .ok (.iload_n 1, 1) := by decide +kernel
theorem dX12_weight_71 : decode cX12_weight 71 = .ok (.invokevirtual 300, 3) := by decide +kernel
theorem dX12_weight_74 : decode cX12_weight 74 = .ok (.ireturn, 1) := by decide +kernel
theorem dX12_weight_75 : decode cX12_weight 75 = .ok (.aload_n 0, 1) := by decide +kernel
theorem dX12_weight_76 : decode cX12_weight 76 = .ok (.iconst 2, 1) := by decide +kernel
theorem dX12_weight_77 : decode cX12_weight 77 = .ok (.invokevirtual 296, 3) := by decide +kernel
theorem dX12_weight_80 : decode cX12_weight 80 = .ok (.aload_n 0, 1) := by decide +kernel
theorem dX12_weight_81 : decode cX12_weight 81 = .ok (.iconst 1, 1) := by decide +kernel
theorem dX12_weight_82 : decode cX12_weight 82 = .ok (.invokevirtual 296, 3) := by decide +kernel
theorem dX12_weight_85 : decode cX12_weight 85 = .ok (.aload_n 0, 1) := by decide +kernel
theorem dX12_weight_86 : decode cX12_weight 86 = .ok (.iload_n 1, 1) := by decide +kernel
theorem dX12_weight_87 : decode cX12_weight 87 = .ok (.invokevirtual 300, 3) := by decide +kernel
theorem dX12_weight_90 : decode cX12_weight 90 = .ok (.iload_n 2, 1) := by decide +kernel
theorem dX12_weight_91 : decode cX12_weight 91 = .ok (.iadd, 1) := by decide +kernel
theorem dX12_weight_92 : decode cX12_weight 92 = .ok (.ireturn, 1) := by decide +kernel
theorem dX12_weight_93 : decode cX12_weight 93 = .ok (.aload_n 0, 1) := by decide +kernel
theorem dX12_weight_94 : decode cX12_weight 94 = .ok (.iconst 3, 1) := by decide +kernel
theorem dX12_weight_95 : decode cX12_weight 95 = .ok (.invokevirtual 296, 3) := by decide +kernel
theorem dX12_weight_98 : decode cX12_weight 98 = .ok (.aload_n 0, 1) := by decide +kernel
theorem dX12_weight_99 : decode cX12_weight 99 = .ok (.iconst 2, 1) := by decide +kernel
theorem dX12_weight_100 : decode cX12_weight 100 = .ok (.invokevirtual 296, 3) := by decide +kernel
theorem dX12_weight_103 : decode cX12_weight 103 = .ok (.aload_n 0, 1) := by decide +kernel
theorem dX12_weight_104 : decode cX12_weight 104 = .ok (.iconst 1, 1) := by decide +kernel
theorem dX12_weight_105 : decode cX12_weight 105 = .ok (.invokevirtual 296, 3) := by decide +kernel
theorem dX12_weight_108 : decode cX12_weight 108 = .ok (.aload_n 0, 1) := by decide +kernel
theorem dX12_weight_109 : decode cX12_weight 109 = .ok (.iload_n 1, 1) := by decide +kernel
theorem dX12_weight_110 : decode cX12_weight 110 = .ok (.invokevirtual 300, 3) := by decide +kernel
theorem dX12_weight_113 : decode cX12_weight 113 = .ok (.iload_n 2, 1) := by decide +kernel
theorem dX12_weight_114 : decode cX12_weight 114 = .ok (.iadd, 1) := by decide +kernel
theorem dX12_weight_115 : decode cX12_weight 115 = .ok (.iconst 5, 1) := by decide +kernel
theorem dX12_weight_116 : decode cX12_weight 116 = .ok (.iadd, 1) := by decide +kernel
theorem dX12_weight_117 : decode cX12_weight 117 = .ok (.ireturn, 1) := by decide +kernel
theorem dX12_weight_118 : decode cX12_weight 118 = .ok (.aload_n 0, 1) := by decide +kernel
theorem dX12_weight_119 : decode cX12_weight 119 = .ok (.iconst 4, 1) := by decide +kernel
theorem dX12_weight_120 : decode cX12_weight 120 = .ok (.invokevirtual 296, 3) := by decide +kernel
theorem dX12_weight_123 : decode cX12_weight 123 = .ok (.aload_n 0, 1) := by decide +kernel
theorem dX12_weight_124 : decode cX12_weight 124 = .ok (.getfield 102, 3) := by decide +kernel
theorem dX12_weight_127 : decode cX12_weight 127 = .ok (.iload_n 1, 1) := by decide +kernel
theorem dX12_weight_128 : decode cX12_weight 128 = .ok (.iaload, 1) := by decide +kernel
theorem dX12_weight_129 : decode cX12_weight 129 = .ok (.ireturn, 1) := by decide +kernel
theorem dX12_weight_130 : decode cX12_weight 130 = .ok (.aload_n 0, 1) := by decide +kernel
theorem dX12_weight_131 : decode cX12_weight 131 = .ok (.iconst 5, 1) := by decide +kernel
theorem dX12_weight_132 : decode cX12_weight 132 = .ok (.invokevirtual 296, 3) := by decide +kernel
theorem dX12_weight_135 : decode cX12_weight 135 = .ok (.bipush 80, 2) := by decide +kernel
theorem dX12_weight_137 : decode cX12_weight 137 = .ok (.aload_n 0, 1) := by decide +kernel
theorem dX12_weight_138 : decode cX12_weight 138 = .ok (.getfield 102, 3) := by decide +kernel
theorem dX12_weight_141 : decode cX12_weight 141 = .ok (.iload_n 1, 1) := by decide +kernel
theorem dX12_weight_142 : decode cX12_weight 142 = .ok (.iaload, 1) := by decide +kernel
theorem dX12_weight_143 : decode cX12_weight 143 = .ok (.iadd, 1) := by decide +kernel
theorem dX12_weight_144 : decode cX12_weight 144 = .ok (.ireturn, 1) := by decide +kernel
set_option maxRecDepth 100000 in
set_option maxHeartbeats 4000000 in
theorem w_X12_weight_j21 {p : Program} {l : Launch} {e : Env} {R : Room} {s : State} {m : MethodId} {args : Array Value} {below : List Frame} {meth : Method} {c : Code} {dC : Nat → ClassId} {dI : Nat → Nat → Nat} {cs : Nat → ClassId} {ad : Nat → Nat} {A : Nat → Prop} {D0 : Nat → Nat} {S' : SS} {r : Int32} (F : Fx p s m args meth c cX12_weight 3 RX12 (some .int) dC dI cs A) (hR1 : 1 ≤ R.frames) (hR2 : 23 ≤ R.locals) (x1 : Int32) (y0 : Int32) (S : SS) (h : f_X12_weight_j21 x1 y0 S = some (r, S')) : AW p l e R s m args below meth c dC dI cs ad A D0 (some (.int r)) S' 3 21 [(0, .ref (ad 14)), (1, .int x1)] [.int y0] S := by
  have hx := F.1.1
  have hb := F.1.2.1
  intro H locs ls w hl
  rw [f_X12_weight_j21] at h
  refine lv_istore_n (pc := 21) (lv' := [(2, .int y0), (0, .ref (ad 14)), (1, .int x1)]) hx hb dX12_weight_21 rfl hl (by decide) rfl (fun ls hl => ?_)
  refine lv_aload_n (pc := 22) hx hb dX12_weight_22 rfl (lv_at hl 1 rfl) ?_
  refine s_getR (pc := 23) F w 85 ds_14 (j := 30) vc_X12 vi_X12 rfl (by decide) kf_X12_69 dX12_weight_23 ?_
  refine lv_iload_n (pc := 26) hx hb dX12_weight_26 rfl (lv_at hl 2 rfl) ?_
  refine s_iald (pc := 27) F w ds_85 h dX12_weight_27 (fun h => ?_)
  rcases Decidable.em (S.1 85 x1.toNatClampNeg = (0 : Int32)) with q0 | q0
  · refine lv_tableIn (pc := 28) (tgt := 64) (off := 36) hx hb dX12_weight_28 (by rw [q0]; decide) (by rw [q0]; decide) (by rw [q0]; rfl) (by decide) ?_
    have h := ite_t q0 h
    refine lv_aload_n (pc := 64) hx hb dX12_weight_64 rfl (lv_at hl 1 rfl) ?_
    refine lv_iconst (pc := 65) (v := 1) hx hb dX12_weight_65 (by decide) ?_
    obtain ⟨S1, hc, h⟩ := bndv_t h
    refine s_cvv (pc := 66) [.int (1 : Int32)] (fun ad => [.ref (ad 14), .int (1 : Int32)]) F w (m_X12_note _ _ _ hc) rfl rfl hl.1 ds_14 vc_X12 rfl ok_X12_note rfl kc_X12_note kl_X12_296 ki_X12_note kv_X12_note kn_X12 ⟨Nat.le_trans (by decide) hR1, Nat.le_trans (by decide) hR2⟩ ⟨Nat.zero_le _, Nat.zero_le _⟩ (Nat.le_of_ble_eq_true rfl) dX12_weight_66 (fun H locs w => ?_)
    refine lv_aload_n (pc := 69) hx hb dX12_weight_69 rfl (lv_at hl 1 rfl) ?_
    refine lv_iload_n (pc := 70) hx hb dX12_weight_70 rfl (lv_at hl 2 rfl) ?_
    obtain ⟨r3, S2, hc, h⟩ := bnd_t h
    refine s_cvi (pc := 71) [.int x1] (fun ad => [.ref (ad 14), .int x1]) F w (m_X12_loaded _ _ _ _ hc) rfl rfl hl.1 ds_14 vc_X12 rfl ok_X12_loaded rfl kc_X12_loaded kl_X12_300 ki_X12_loaded kv_X12_loaded kn_X12 ⟨Nat.le_trans (by decide) hR1, Nat.le_trans (by decide) hR2⟩ ⟨Nat.zero_le _, Nat.zero_le _⟩ (Nat.le_of_ble_eq_true rfl) dX12_weight_71 (fun H locs w => ?_)
    exact s_iret F w h dX12_weight_74
  have h := ite_f q0 h
  rcases Decidable.em (S.1 85 x1.toNatClampNeg = (1 : Int32)) with q1 | q1
  · refine lv_tableIn (pc := 28) (tgt := 75) (off := 47) hx hb dX12_weight_28 (by rw [q1]; decide) (by rw [q1]; decide) (by rw [q1]; rfl) (by decide) ?_
    have h := ite_t q1 h
    refine lv_aload_n (pc := 75) hx hb dX12_weight_75 rfl (lv_at hl 1 rfl) ?_
    refine lv_iconst (pc := 76) (v := 2) hx hb dX12_weight_76 (by decide) ?_
    obtain ⟨S4, hc, h⟩ := bndv_t h
    refine s_cvv (pc := 77) [.int (2 : Int32)] (fun ad => [.ref (ad 14), .int (2 : Int32)]) F w (m_X12_note _ _ _ hc) rfl rfl hl.1 ds_14 vc_X12 rfl ok_X12_note rfl kc_X12_note kl_X12_296 ki_X12_note kv_X12_note kn_X12 ⟨Nat.le_trans (by decide) hR1, Nat.le_trans (by decide) hR2⟩ ⟨Nat.zero_le _, Nat.zero_le _⟩ (Nat.le_of_ble_eq_true rfl) dX12_weight_77 (fun H locs w => ?_)
    refine lv_aload_n (pc := 80) hx hb dX12_weight_80 rfl (lv_at hl 1 rfl) ?_
    refine lv_iconst (pc := 81) (v := 1) hx hb dX12_weight_81 (by decide) ?_
    obtain ⟨S5, hc, h⟩ := bndv_t h
    refine s_cvv (pc := 82) [.int (1 : Int32)] (fun ad => [.ref (ad 14), .int (1 : Int32)]) F w (m_X12_note _ _ _ hc) rfl rfl hl.1 ds_14 vc_X12 rfl ok_X12_note rfl kc_X12_note kl_X12_296 ki_X12_note kv_X12_note kn_X12 ⟨Nat.le_trans (by decide) hR1, Nat.le_trans (by decide) hR2⟩ ⟨Nat.zero_le _, Nat.zero_le _⟩ (Nat.le_of_ble_eq_true rfl) dX12_weight_82 (fun H locs w => ?_)
    refine lv_aload_n (pc := 85) hx hb dX12_weight_85 rfl (lv_at hl 1 rfl) ?_
    refine lv_iload_n (pc := 86) hx hb dX12_weight_86 rfl (lv_at hl 2 rfl) ?_
    obtain ⟨r7, S6, hc, h⟩ := bnd_t h
    refine s_cvi (pc := 87) [.int x1] (fun ad => [.ref (ad 14), .int x1]) F w (m_X12_loaded _ _ _ _ hc) rfl rfl hl.1 ds_14 vc_X12 rfl ok_X12_loaded rfl kc_X12_loaded kl_X12_300 ki_X12_loaded kv_X12_loaded kn_X12 ⟨Nat.le_trans (by decide) hR1, Nat.le_trans (by decide) hR2⟩ ⟨Nat.zero_le _, Nat.zero_le _⟩ (Nat.le_of_ble_eq_true rfl) dX12_weight_87 (fun H locs w => ?_)
    refine lv_iload_n (pc := 90) hx hb dX12_weight_90 rfl (lv_at hl 0 rfl) ?_
    refine lv_iadd (pc := 91) hx hb dX12_weight_91 ?_
    exact s_iret F w h dX12_weight_92
  have h := ite_f q1 h
  rcases Decidable.em (S.1 85 x1.toNatClampNeg = (2 : Int32)) with q2 | q2
  · refine lv_tableIn (pc := 28) (tgt := 93) (off := 65) hx hb dX12_weight_28 (by rw [q2]; decide) (by rw [q2]; decide) (by rw [q2]; rfl) (by decide) ?_
    have h := ite_t q2 h
    refine lv_aload_n (pc := 93) hx hb dX12_weight_93 rfl (lv_at hl 1 rfl) ?_
    refine lv_iconst (pc := 94) (v := 3) hx hb dX12_weight_94 (by decide) ?_
    obtain ⟨S8, hc, h⟩ := bndv_t h
    refine s_cvv (pc := 95) [.int (3 : Int32)] (fun ad => [.ref (ad 14), .int (3 : Int32)]) F w (m_X12_note _ _ _ hc) rfl rfl hl.1 ds_14 vc_X12 rfl ok_X12_note rfl kc_X12_note kl_X12_296 ki_X12_note kv_X12_note kn_X12 ⟨Nat.le_trans (by decide) hR1, Nat.le_trans (by decide) hR2⟩ ⟨Nat.zero_le _, Nat.zero_le _⟩ (Nat.le_of_ble_eq_true rfl) dX12_weight_95 (fun H locs w => ?_)
    refine lv_aload_n (pc := 98) hx hb dX12_weight_98 rfl (lv_at hl 1 rfl) ?_
    refine lv_iconst (pc := 99) (v := 2) hx hb dX12_weight_99 (by decide) ?_
    obtain ⟨S9, hc, h⟩ := bndv_t h
    refine s_cvv (pc := 100) [.int (2 : Int32)] (fun ad => [.ref (ad 14), .int (2 : Int32)]) F w (m_X12_note _ _ _ hc) rfl rfl hl.1 ds_14 vc_X12 rfl ok_X12_note rfl kc_X12_note kl_X12_296 ki_X12_note kv_X12_note kn_X12 ⟨Nat.le_trans (by decide) hR1, Nat.le_trans (by decide) hR2⟩ ⟨Nat.zero_le _, Nat.zero_le _⟩ (Nat.le_of_ble_eq_true rfl) dX12_weight_100 (fun H locs w => ?_)
    refine lv_aload_n (pc := 103) hx hb dX12_weight_103 rfl (lv_at hl 1 rfl) ?_
    refine lv_iconst (pc := 104) (v := 1) hx hb dX12_weight_104 (by decide) ?_
    obtain ⟨S10, hc, h⟩ := bndv_t h
    refine s_cvv (pc := 105) [.int (1 : Int32)] (fun ad => [.ref (ad 14), .int (1 : Int32)]) F w (m_X12_note _ _ _ hc) rfl rfl hl.1 ds_14 vc_X12 rfl ok_X12_note rfl kc_X12_note kl_X12_296 ki_X12_note kv_X12_note kn_X12 ⟨Nat.le_trans (by decide) hR1, Nat.le_trans (by decide) hR2⟩ ⟨Nat.zero_le _, Nat.zero_le _⟩ (Nat.le_of_ble_eq_true rfl) dX12_weight_105 (fun H locs w => ?_)
    refine lv_aload_n (pc := 108) hx hb dX12_weight_108 rfl (lv_at hl 1 rfl) ?_
    refine lv_iload_n (pc := 109) hx hb dX12_weight_109 rfl (lv_at hl 2 rfl) ?_
    obtain ⟨r12, S11, hc, h⟩ := bnd_t h
    refine s_cvi (pc := 110) [.int x1] (fun ad => [.ref (ad 14), .int x1]) F w (m_X12_loaded _ _ _ _ hc) rfl rfl hl.1 ds_14 vc_X12 rfl ok_X12_loaded rfl kc_X12_loaded kl_X12_300 ki_X12_loaded kv_X12_loaded kn_X12 ⟨Nat.le_trans (by decide) hR1, Nat.le_trans (by decide) hR2⟩ ⟨Nat.zero_le _, Nat.zero_le _⟩ (Nat.le_of_ble_eq_true rfl) dX12_weight_110 (fun H locs w => ?_)
    refine lv_iload_n (pc := 113) hx hb dX12_weight_113 rfl (lv_at hl 0 rfl) ?_
    refine lv_iadd (pc := 114) hx hb dX12_weight_114 ?_
    refine lv_iconst (pc := 115) (v := 5) hx hb dX12_weight_115 (by decide) ?_
    refine lv_iadd (pc := 116) hx hb dX12_weight_116 ?_
    exact s_iret F w h dX12_weight_117
  have h := ite_f q2 h
  rcases Decidable.em (S.1 85 x1.toNatClampNeg = (3 : Int32)) with q3 | q3
  · refine lv_tableIn (pc := 28) (tgt := 64) (off := 36) hx hb dX12_weight_28 (by rw [q3]; decide) (by rw [q3]; decide) (by rw [q3]; rfl) (by decide) ?_
    have h := ite_t q3 h
    refine lv_aload_n (pc := 64) hx hb dX12_weight_64 rfl (lv_at hl 1 rfl) ?_
    refine lv_iconst (pc := 65) (v := 1) hx hb dX12_weight_65 (by decide) ?_
    obtain ⟨S13, hc, h⟩ := bndv_t h
    refine s_cvv (pc := 66) [.int (1 : Int32)] (fun ad => [.ref (ad 14), .int (1 : Int32)]) F w (m_X12_note _ _ _ hc) rfl rfl hl.1 ds_14 vc_X12 rfl ok_X12_note rfl kc_X12_note kl_X12_296 ki_X12_note kv_X12_note kn_X12 ⟨Nat.le_trans (by decide) hR1, Nat.le_trans (by decide) hR2⟩ ⟨Nat.zero_le _, Nat.zero_le _⟩ (Nat.le_of_ble_eq_true rfl) dX12_weight_66 (fun H locs w => ?_)
    refine lv_aload_n (pc := 69) hx hb dX12_weight_69 rfl (lv_at hl 1 rfl) ?_
    refine lv_iload_n (pc := 70) hx hb dX12_weight_70 rfl (lv_at hl 2 rfl) ?_
    obtain ⟨r15, S14, hc, h⟩ := bnd_t h
    refine s_cvi (pc := 71) [.int x1] (fun ad => [.ref (ad 14), .int x1]) F w (m_X12_loaded _ _ _ _ hc) rfl rfl hl.1 ds_14 vc_X12 rfl ok_X12_loaded rfl kc_X12_loaded kl_X12_300 ki_X12_loaded kv_X12_loaded kn_X12 ⟨Nat.le_trans (by decide) hR1, Nat.le_trans (by decide) hR2⟩ ⟨Nat.zero_le _, Nat.zero_le _⟩ (Nat.le_of_ble_eq_true rfl) dX12_weight_71 (fun H locs w => ?_)
    exact s_iret F w h dX12_weight_74
  have h := ite_f q3 h
  rcases Decidable.em (S.1 85 x1.toNatClampNeg = (4 : Int32)) with q4 | q4
  · refine lv_tableIn (pc := 28) (tgt := 118) (off := 90) hx hb dX12_weight_28 (by rw [q4]; decide) (by rw [q4]; decide) (by rw [q4]; rfl) (by decide) ?_
    have h := ite_t q4 h
    refine lv_aload_n (pc := 118) hx hb dX12_weight_118 rfl (lv_at hl 1 rfl) ?_
    refine lv_iconst (pc := 119) (v := 4) hx hb dX12_weight_119 (by decide) ?_
    obtain ⟨S16, hc, h⟩ := bndv_t h
    refine s_cvv (pc := 120) [.int (4 : Int32)] (fun ad => [.ref (ad 14), .int (4 : Int32)]) F w (m_X12_note _ _ _ hc) rfl rfl hl.1 ds_14 vc_X12 rfl ok_X12_note rfl kc_X12_note kl_X12_296 ki_X12_note kv_X12_note kn_X12 ⟨Nat.le_trans (by decide) hR1, Nat.le_trans (by decide) hR2⟩ ⟨Nat.zero_le _, Nat.zero_le _⟩ (Nat.le_of_ble_eq_true rfl) dX12_weight_120 (fun H locs w => ?_)
    refine lv_aload_n (pc := 123) hx hb dX12_weight_123 rfl (lv_at hl 1 rfl) ?_
    refine s_getR (pc := 124) F w 96 ds_14 (j := 41) vc_X12 vi_X12 rfl (by decide) kf_X12_102 dX12_weight_124 ?_
    refine lv_iload_n (pc := 127) hx hb dX12_weight_127 rfl (lv_at hl 2 rfl) ?_
    refine s_iald (pc := 128) F w ds_96 h dX12_weight_128 (fun h => ?_)
    exact s_iret F w h dX12_weight_129
  have h := ite_f q4 h
  refine lv_tableOut (pc := 28) (tgt := 130) hx hb dX12_weight_28 (by have zq0 := i32ne q0 (show ((0 : Int32)).toInt = 0 by decide); have zq1 := i32ne q1 (show ((1 : Int32)).toInt = 1 by decide); have zq2 := i32ne q2 (show ((2 : Int32)).toInt = 2 by decide); have zq3 := i32ne q3 (show ((3 : Int32)).toInt = 3 by decide); have zq4 := i32ne q4 (show ((4 : Int32)).toInt = 4 by decide); omega) (by decide) ?_
  refine lv_aload_n (pc := 130) hx hb dX12_weight_130 rfl (lv_at hl 1 rfl) ?_
  refine lv_iconst (pc := 131) (v := 5) hx hb dX12_weight_131 (by decide) ?_
  obtain ⟨S17, hc, h⟩ := bndv_t h
  refine s_cvv (pc := 132) [.int (5 : Int32)] (fun ad => [.ref (ad 14), .int (5 : Int32)]) F w (m_X12_note _ _ _ hc) rfl rfl hl.1 ds_14 vc_X12 rfl ok_X12_note rfl kc_X12_note kl_X12_296 ki_X12_note kv_X12_note kn_X12 ⟨Nat.le_trans (by decide) hR1, Nat.le_trans (by decide) hR2⟩ ⟨Nat.zero_le _, Nat.zero_le _⟩ (Nat.le_of_ble_eq_true rfl) dX12_weight_132 (fun H locs w => ?_)
  refine lv_bipush (pc := 135) (v := 80) hx hb dX12_weight_135 (by decide) ?_
  refine lv_aload_n (pc := 137) hx hb dX12_weight_137 rfl (lv_at hl 1 rfl) ?_
  refine s_getR (pc := 138) F w 96 ds_14 (j := 41) vc_X12 vi_X12 rfl (by decide) kf_X12_102 dX12_weight_138 ?_
  refine lv_iload_n (pc := 141) hx hb dX12_weight_141 rfl (lv_at hl 2 rfl) ?_
  refine s_iald (pc := 142) F w ds_96 h dX12_weight_142 (fun h => ?_)
  refine lv_iadd (pc := 143) hx hb dX12_weight_143 ?_
  exact s_iret F w h dX12_weight_144
set_option maxRecDepth 100000 in
set_option maxHeartbeats 4000000 in
theorem m_X12_weight (a1 : Int32) (S S' : SS) (r : Int32) (h : f_X12_weight a1 S = some (r, S')) : MT yX12_weight cX12_weight 3 (some .int) 1 23 (fun ad => [.ref (ad 14), .int a1]) S (some (.int r)) S' := by
  refine MT.of RX12 (fun ad => [(0, .ref (ad 14)), (1, .int a1)]) (by decide) rfl (fun _ => Nat.le_of_ble_eq_true rfl) (fun _ => rfl) ?_
  intro p l e R s m args below meth c dC dI cs ad A hR1 hR2 F H locs ls w hl
  have hx := F.1.1
  have hb := F.1.2.1
  rw [f_X12_weight] at h
  refine lv_aload_n (pc := 0) hx hb dX12_weight_0 rfl (lv_at hl 0 rfl) ?_
  refine s_getR (pc := 1) F w 102 ds_14 (j := 50) vc_X12 vi_X12 rfl (by decide) kf_X12_120 dX12_weight_1 ?_
  refine lv_iload_n (pc := 4) hx hb dX12_weight_4 rfl (lv_at hl 1 rfl) ?_
  refine s_iald (pc := 5) F w ds_102 h dX12_weight_5 (fun h => ?_)
  refine lv_bipush (pc := 6) (v := -4) hx hb dX12_weight_6 (by decide) ?_
  refine lv_icmp_ne (pc := 8) (tgt := 15) hx hb dX12_weight_8 (by decide) (fun q => ?_) (fun q => ?_)
  · have h := ite_f q h
    refine lv_aload_n (pc := 15) hx hb dX12_weight_15 rfl (lv_at hl 0 rfl) ?_
    refine s_getR (pc := 16) F w 102 ds_14 (j := 50) vc_X12 vi_X12 rfl (by decide) kf_X12_120 dX12_weight_16 ?_
    refine lv_iload_n (pc := 19) hx hb dX12_weight_19 rfl (lv_at hl 1 rfl) ?_
    refine s_iald (pc := 20) F w ds_102 h dX12_weight_20 (fun h => ?_)
    exact w_X12_weight_j21 F (Nat.le_trans (by decide) hR1) (Nat.le_trans (by decide) hR2) _ _ _ h _ _ _ w (lv_sub hl [0, 1] rfl)
  · have h := ite_t q h
    refine lv_iconst (pc := 11) (v := 0) hx hb dX12_weight_11 (by decide) ?_
    refine lv_goto (pc := 12) (tgt := 21) hx hb dX12_weight_12 (by decide) ?_
    exact w_X12_weight_j21 F (Nat.le_trans (by decide) hR1) (Nat.le_trans (by decide) hR2) _ _ _ h _ _ _ w (lv_sub hl [0, 1] rfl)
