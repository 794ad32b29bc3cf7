/-! ===== printed by wip/gen: X12_share X11_consist X12_consist X11_finding X12_finding X8_damps X8_there X5_ever X11_count X12_count X5_bodyAt X11_trace X12_trace ===== -/
def f_X12_share_L32  : Nat → Int32 → Int32 → Int32 → SS → Option (Int32 × SS)
  | 0, _, _, _, _ => none
  | n + 1, x2, x3, x4, S =>
    if (S.1 14 56) ≤ x4 then
      if x3 = 0 then
        bnd (f_X12_found (6 : Int32) S) (fun r8 S7 =>
        some (r8, S7))
      else
        grd (!(decide (x3 = 0))) (
        some (((100 : Int32) * x2) / x3, S))
    else
      grd (inb x4 72) (
      bnd (f_X12_brake (S.1 106 x4.toNatClampNeg) S) (fun r10 S9 =>
      nm (x2 + r10) (fun z11 =>
      grd (inb x4 72) (
      grd (inb (S9.1 106 x4.toNatClampNeg) 72) (
      nm (x3 + (S9.1 95 (S9.1 106 x4.toNatClampNeg).toNatClampNeg)) (fun z12 =>
      nm (x4 + (1 : Int32)) (fun z13 =>
      f_X12_share_L32 n z11 z12 z13 S9)))))))
def f_X12_share (a1 : Int32) (S : SS) : Option (Int32 × SS) :=
  bndv (f_X12_begin  S) (fun S1 =>
  bnd (f_X12_missThing a1 (0 : Int32) S1) (fun r3 S2 =>
  bnd (f_X12_ends r3 S2) (fun r5 S4 =>
  if r5 = 0 then
    bndv (f_X12_lineUp a1 S4) (fun S6 =>
    f_X12_share_L32 NF (0 : Int32) (0 : Int32) (0 : Int32) S6)
  else
    some ((-2 : Int32), S4))))
theorem dX12_share_0 : decode cX12_share 0 = .ok (.aload_n 0, 1) := by decide +kernel
theorem dX12_share_1 : decode cX12_share 1 = .ok (.invokevirtual 226, 3) := by decide +kernel
theorem dX12_share_4 : decode cX12_share 4 = .ok (.aload_n 0, 1) := by decide +kernel
theorem dX12_share_5 : decode cX12_share 5 = .ok (.aload_n 0, 1) := by decide +kernel
theorem dX12_share_6 : decode cX12_share 6 = .ok (.iload_n 1, 1) := by decide +kernel
theorem dX12_share_7 : decode cX12_share 7 = .ok (.iconst 0, 1) := by decide +kernel
theorem dX12_share_8 : decode cX12_share 8 = .ok (.invokevirtual 293, 3) := by decide +kernel
theorem dX12_share_11 : decode cX12_share 11 = .ok (.invokevirtual 236, 3) := by decide +kernel
theorem dX12_share_14 : decode cX12_share 14 = .ok (.ifCond .eq 6, 3) := by decide +kernel
theorem dX12_share_17 : decode cX12_share 17 = .ok (.bipush (-2), 2) := by decide +kernel
theorem dX12_share_19 : decode cX12_share 19 = .ok (.ireturn, 1) := by decide +kernel
theorem dX12_share_20 : decode cX12_share 20 = .ok (.aload_n 0, 1) := by decide +kernel
theorem dX12_share_21 : decode cX12_share 21 = .ok (.iload_n 1, 1) := by decide +kernel
theorem dX12_share_22 : decode cX12_share 22 = .ok (.invokevirtual 325, 3) := by decide +kernel
theorem dX12_share_25 : decode cX12_share 25 = .ok (.iconst 0, 1) := by decide +kernel
theorem dX12_share_26 : decode cX12_share 26 = .ok (.istore_n 2, 1) := by decide +kernel
theorem dX12_share_27 : decode cX12_share 27 = .ok (.iconst 0, 1) := by decide +kernel
theorem dX12_share_28 : decode cX12_share 28 = .ok (.istore_n 3, 1) := by decide +kernel
theorem dX12_share_29 : decode cX12_share 29 = .ok (.iconst 0, 1) := by decide +kernel
theorem dX12_share_30 : decode cX12_share 30 = .ok (.istore 4, 2) := by decide +kernel
theorem dX12_share_32 : decode cX12_share 32 = .ok (.iload 4, 2) := by decide +kernel
theorem dX12_share_34 : decode cX12_share 34 = .ok (.aload_n 0, 1) := by decide +kernel
theorem dX12_share_35 : decode cX12_share 35 = .ok (.getfield 319, 3) := by decide +kernel
theorem dX12_share_38 : decode cX12_share 38 = .ok (.if_icmp .ge 38, 3) := by decide +kernel
theorem dX12_share_41 : decode cX12_share 41 = .ok (.iload_n 2, 1) := by decide +kernel
theorem dX12_share_42 : decode cX12_share 42 = .ok (.aload_n 0, 1) := by decide +kernel
theorem dX12_share_43 : decode cX12_share 43 = .ok (.aload_n 0, 1) := by decide +kernel
theorem dX12_share_44 : decode cX12_share 44 = .ok (.getfield 132, 3) := by decide +kernel
theorem dX12_share_47 : decode cX12_share 47 = .ok (.iload 4, 2) := by decide +kernel
theorem dX12_share_49 : decode cX12_share 49 = .ok (.iaload, 1) := by decide +kernel
theorem dX12_share_50 : decode cX12_share 50 = .ok (.invokevirtual 435, 3) := by decide +kernel
theorem dX12_share_53 : decode cX12_share 53 = .ok (.iadd, 1) := by decide +kernel
theorem dX12_share_54 : decode cX12_share 54 = .ok (.istore_n 2, 1) := by decide +kernel
theorem dX12_share_55 : decode cX12_share 55 = .ok (.iload_n 3, 1) := by decide +kernel
theorem dX12_share_56 : decode cX12_share 56 = .ok (.aload_n 0, 1) := by decide +kernel
theorem dX12_share_57 : decode cX12_share 57 = .ok (.getfield 99, 3) := by decide +kernel
theorem dX12_share_60 : decode cX12_share 60 = .ok (.aload_n 0, 1) := by decide +kernel
theorem dX12_share_61 : decode cX12_share 61 = .ok (.getfield 132, 3) := by decide +kernel
theorem dX12_share_64 : decode cX12_share 64 = .ok (.iload 4, 2) := by decide +kernel
theorem dX12_share_66 : decode cX12_share 66 = .ok (.iaload, 1) := by decide +kernel
theorem dX12_share_67 : decode cX12_share 67 = .ok (.iaload, 1) := by decide +kernel
theorem dX12_share_68 : decode cX12_share 68 = .ok (.iadd, 1) := by decide +kernel
theorem dX12_share_69 : decode cX12_share 69 = .ok (.istore_n 3, 1) := by decide +kernel
theorem dX12_share_70 : decode cX12_share 70 = .ok (.iinc 4 1, 3) := by decide +kernel
theorem dX12_share_73 : decode cX12_share 73 = .ok (.goto (-41), 3) := by decide +kernel
theorem dX12_share_76 : decode cX12_share 76 = .ok (.iload_n 3, 1) := by decide +kernel
theorem dX12_share_77 : decode cX12_share 77 = .ok (.ifCond .ne 12, 3) := by decide +kernel
theorem dX12_share_80 : decode cX12_share 80 = .ok (.aload_n 0, 1) := by decide +kernel
theorem dX12_share_81 : decode cX12_share 81 = .ok (.bipush 6, 2) := by decide +kernel
theorem dX12_share_83 : decode cX12_share 83 = .ok (.invokevirtual 210, 3) := by decide +kernel
theorem dX12_share_86 : decode cX12_share 86 = .ok (.goto 9, 3) := by decide +kernel
theorem dX12_share_89 : decode cX12_share 89 = .ok (.bipush 100, 2) := by decide +kernel
theorem dX12_share_91 : decode cX12_share 91 = .ok (.iload_n 2, 1) := by decide +kernel
theorem dX12_share_92 : decode cX12_share 92 = .ok (.imul, 1) := by decide +kernel
theorem dX12_share_93 : decode cX12_share 93 = .ok (.iload_n 3, 1) := by decide +kernel
theorem dX12_share_94 : decode cX12_share 94 = .ok (.idiv, 1) := by decide +kernel
theorem dX12_share_95 : decode cX12_share 95 = .ok (.ireturn, 1) := by decide +kernel
set_option maxRecDepth 100000 in
set_option maxHeartbeats 4000000 in
theorem w_X12_share_L32 {p : Program} {l : Launch} {e : Env} {R : Room} {s : State} {m : MethodId} {args : Array Value} {below : List Frame} {meth : Method} {c : Code} {dC : Nat → ClassId} {dI : Nat → Nat → Nat} {cs : Nat → ClassId} {ad : Nat → Nat} {A : Nat → Prop} {D0 : Nat → Nat} {S' : SS} {r : Int32} (F : Fx p s m args meth c cX12_share 5 RX12 (some .int) dC dI cs A) (hR1 : 2 ≤ R.frames) (hR2 : 42 ≤ R.locals) : ∀ (n : Nat) (x2 : Int32) (x3 : Int32) (x4 : Int32) (S : SS), f_X12_share_L32 n x2 x3 x4 S = some (r, S') → AW p l e R s m args below meth c dC dI cs ad A D0 (some (.int r)) S' 5 32 [(0, .ref (ad 14)), (2, .int x2), (3, .int x3), (4, .int x4)] [] S := by
  have hx := F.1.1
  have hb := F.1.2.1
  intro n
  induction n with
  | zero => intro x2 x3 x4 S h; cases h
  | succ n ih =>
    intro x2 x3 x4 S h H locs ls w hl
    rw [f_X12_share_L32] at h
    refine lv_iload (pc := 32) hx hb dX12_share_32 (lv_at hl 3 rfl) ?_
    refine lv_aload_n (pc := 34) hx hb dX12_share_34 rfl (lv_at hl 0 rfl) ?_
    refine s_getI (pc := 35) F w ds_14 (j := 56) vc_X12 vi_X12 rfl (by decide) kf_X12_319 dX12_share_35 ?_
    refine lv_icmp_ge (pc := 38) (tgt := 76) hx hb dX12_share_38 (by decide) (fun q => ?_) (fun q => ?_)
    · have h := ite_t q h
      refine lv_iload_n (pc := 76) hx hb dX12_share_76 rfl (lv_at hl 2 rfl) ?_
      refine lv_if_ne (pc := 77) (tgt := 89) hx hb dX12_share_77 (by decide) (fun q => ?_) (fun q => ?_)
      · have h := ite_f q h
        refine lv_bipush (pc := 89) (v := 100) hx hb dX12_share_89 (by decide) ?_
        refine lv_iload_n (pc := 91) hx hb dX12_share_91 rfl (lv_at hl 1 rfl) ?_
        refine lv_imul (pc := 92) hx hb dX12_share_92 ?_
        refine lv_iload_n (pc := 93) hx hb dX12_share_93 rfl (lv_at hl 2 rfl) ?_
        obtain ⟨hd, h⟩ := grd_t h
        refine lv_idiv (pc := 94) hx hb dX12_share_94 (by simpa using hd) ?_
        exact s_iret F w h dX12_share_95
      · have h := ite_t q h
        refine lv_aload_n (pc := 80) hx hb dX12_share_80 rfl (lv_at hl 0 rfl) ?_
        refine lv_bipush (pc := 81) (v := 6) hx hb dX12_share_81 (by decide) ?_
        obtain ⟨r8, S7, hc, h⟩ := bnd_t h
        refine s_cvi (pc := 83) [.int (6 : Int32)] (fun ad => [.ref (ad 14), .int (6 : Int32)]) F w (m_X12_found _ _ _ _ hc) rfl rfl hl.1 ds_14 vc_X12 rfl ok_X12_found rfl kc_X12_found kl_X12_210 ki_X12_found kv_X12_found kn_X12 ⟨Nat.le_trans (by decide) hR1, Nat.le_trans (by decide) hR2⟩ ⟨Nat.zero_le _, Nat.zero_le _⟩ (Nat.le_of_ble_eq_true rfl) dX12_share_83 (fun H locs w => ?_)
        refine lv_goto (pc := 86) (tgt := 95) hx hb dX12_share_86 (by decide) ?_
        exact s_iret F w h dX12_share_95
    · have h := ite_f q h
      refine lv_iload_n (pc := 41) hx hb dX12_share_41 rfl (lv_at hl 1 rfl) ?_
      refine lv_aload_n (pc := 42) hx hb dX12_share_42 rfl (lv_at hl 0 rfl) ?_
      refine lv_aload_n (pc := 43) hx hb dX12_share_43 rfl (lv_at hl 0 rfl) ?_
      refine s_getR (pc := 44) F w 106 ds_14 (j := 55) vc_X12 vi_X12 rfl (by decide) kf_X12_132 dX12_share_44 ?_
      refine lv_iload (pc := 47) hx hb dX12_share_47 (lv_at hl 3 rfl) ?_
      refine s_iald (pc := 49) F w ds_106 h dX12_share_49 (fun h => ?_)
      obtain ⟨r10, S9, hc, h⟩ := bnd_t h
      refine s_cvi (pc := 50) [.int (S.1 106 x4.toNatClampNeg)] (fun ad => [.ref (ad 14), .int (S.1 106 x4.toNatClampNeg)]) F w (m_X12_brake _ _ _ _ hc) rfl rfl hl.1 ds_14 vc_X12 rfl ok_X12_brake rfl kc_X12_brake kl_X12_435 ki_X12_brake kv_X12_brake kn_X12 ⟨Nat.le_trans (by decide) hR1, Nat.le_trans (by decide) hR2⟩ ⟨Nat.zero_le _, Nat.zero_le _⟩ (Nat.le_of_ble_eq_true rfl) dX12_share_50 (fun H locs w => ?_)
      refine lv_iadd (pc := 53) hx hb dX12_share_53 ?_
      refine s_nm h (fun z11 ez11 h => ?_)
      rw [← ez11]
      refine lv_istore_n (pc := 54) (lv' := [(2, .int z11), (0, .ref (ad 14)), (3, .int x3), (4, .int x4)]) hx hb dX12_share_54 rfl hl (by decide) rfl (fun ls hl => ?_)
      refine lv_iload_n (pc := 55) hx hb dX12_share_55 rfl (lv_at hl 2 rfl) ?_
      refine lv_aload_n (pc := 56) hx hb dX12_share_56 rfl (lv_at hl 1 rfl) ?_
      refine s_getR (pc := 57) F w 95 ds_14 (j := 40) vc_X12 vi_X12 rfl (by decide) kf_X12_99 dX12_share_57 ?_
      refine lv_aload_n (pc := 60) hx hb dX12_share_60 rfl (lv_at hl 1 rfl) ?_
      refine s_getR (pc := 61) F w 106 ds_14 (j := 55) vc_X12 vi_X12 rfl (by decide) kf_X12_132 dX12_share_61 ?_
      refine lv_iload (pc := 64) hx hb dX12_share_64 (lv_at hl 3 rfl) ?_
      refine s_iald (pc := 66) F w ds_106 h dX12_share_66 (fun h => ?_)
      refine s_iald (pc := 67) F w ds_95 h dX12_share_67 (fun h => ?_)
      refine lv_iadd (pc := 68) hx hb dX12_share_68 ?_
      refine s_nm h (fun z12 ez12 h => ?_)
      rw [← ez12]
      refine lv_istore_n (pc := 69) (lv' := [(3, .int z12), (2, .int z11), (0, .ref (ad 14)), (4, .int x4)]) hx hb dX12_share_69 rfl hl (by decide) rfl (fun ls hl => ?_)
      refine s_nm h (fun z13 ez13 h => ?_)
      refine lv_iinc (pc := 70) (v := z13) (lv' := [(4, .int z13), (3, .int z12), (2, .int z11), (0, .ref (ad 14))]) hx hb dX12_share_70 hl (k := 3) rfl (by rw [ez13]; rfl) (by decide) rfl (fun ls hl => ?_)
      refine lv_goto (pc := 73) (tgt := 32) hx hb dX12_share_73 (by decide) ?_
      exact ih _ _ _ _ h _ _ _ w (lv_sub hl [3, 2, 1, 0] rfl)
set_option maxRecDepth 100000 in
set_option maxHeartbeats 4000000 in
theorem m_X12_share (a1 : Int32) (S S' : SS) (r : Int32) (h : f_X12_share a1 S = some (r, S')) : MT yX12_share cX12_share 5 (some .int) 2 46 (fun ad => [.ref (ad 14), .int a1]) S (some (.int r)) S' := by
  refine MT.of RX12 (fun ad => [(0, .ref (ad 14)), (1, .int a1)]) (by decide) rfl (fun _ => Nat.le_of_ble_eq_true rfl) (fun _ => rfl) ?_
  intro p l e R s m args below meth c dC dI cs ad A hR1 hR2 F H locs ls w hl
  have hx := F.1.1
  have hb := F.1.2.1
  rw [f_X12_share] at h
  refine lv_aload_n (pc := 0) hx hb dX12_share_0 rfl (lv_at hl 0 rfl) ?_
  obtain ⟨S1, hc, h⟩ := bndv_t h
  refine s_cvv (pc := 1) [] (fun ad => [.ref (ad 14)]) F w (m_X12_begin  _ _ hc) rfl rfl hl.1 ds_14 vc_X12 rfl ok_X12_begin rfl kc_X12_begin kl_X12_226 ki_X12_begin kv_X12_begin kn_X12 ⟨Nat.le_trans (by decide) hR1, Nat.le_trans (by decide) hR2⟩ ⟨Nat.zero_le _, Nat.zero_le _⟩ (Nat.le_of_ble_eq_true rfl) dX12_share_1 (fun H locs w => ?_)
  refine lv_aload_n (pc := 4) hx hb dX12_share_4 rfl (lv_at hl 0 rfl) ?_
  refine lv_aload_n (pc := 5) hx hb dX12_share_5 rfl (lv_at hl 0 rfl) ?_
  refine lv_iload_n (pc := 6) hx hb dX12_share_6 rfl (lv_at hl 1 rfl) ?_
  refine lv_iconst (pc := 7) (v := 0) hx hb dX12_share_7 (by decide) ?_
  obtain ⟨r3, S2, hc, h⟩ := bnd_t h
  refine s_cvi (pc := 8) [.int a1, .int (0 : Int32)] (fun ad => [.ref (ad 14), .int a1, .int (0 : Int32)]) F w (m_X12_missThing _ _ _ _ _ hc) rfl rfl hl.1 ds_14 vc_X12 rfl ok_X12_missThing rfl kc_X12_missThing kl_X12_293 ki_X12_missThing kv_X12_missThing kn_X12 ⟨Nat.le_trans (by decide) hR1, Nat.le_trans (by decide) hR2⟩ ⟨Nat.zero_le _, Nat.zero_le _⟩ (Nat.le_of_ble_eq_true rfl) dX12_share_8 (fun H locs w => ?_)
  obtain ⟨r5, S4, hc, h⟩ := bnd_t h
  refine s_cvi (pc := 11) [.int r3] (fun ad => [.ref (ad 14), .int r3]) F w (m_X12_ends _ _ _ _ hc) rfl rfl hl.1 ds_14 vc_X12 rfl ok_X12_ends rfl kc_X12_ends kl_X12_236 ki_X12_ends kv_X12_ends kn_X12 ⟨Nat.le_trans (by decide) hR1, Nat.le_trans (by decide) hR2⟩ ⟨Nat.zero_le _, Nat.zero_le _⟩ (Nat.le_of_ble_eq_true rfl) dX12_share_11 (fun H locs w => ?_)
  refine lv_if_eq (pc := 14) (tgt := 20) hx hb dX12_share_14 (by decide) (fun q => ?_) (fun q => ?_)
  · have h := ite_t q h
    refine lv_aload_n (pc := 20) hx hb dX12_share_20 rfl (lv_at hl 0 rfl) ?_
    refine lv_iload_n (pc := 21) hx hb dX12_share_21 rfl (lv_at hl 1 rfl) ?_
    obtain ⟨S6, hc, h⟩ := bndv_t h
    refine s_cvv (pc := 22) [.int a1] (fun ad => [.ref (ad 14), .int a1]) F w (m_X12_lineUp _ _ _ hc) rfl rfl hl.1 ds_14 vc_X12 rfl ok_X12_lineUp rfl kc_X12_lineUp kl_X12_325 ki_X12_lineUp kv_X12_lineUp kn_X12 ⟨Nat.le_trans (by decide) hR1, Nat.le_trans (by decide) hR2⟩ ⟨Nat.zero_le _, Nat.zero_le _⟩ (Nat.le_of_ble_eq_true rfl) dX12_share_22 (fun H locs w => ?_)
    refine lv_iconst (pc := 25) (v := 0) hx hb dX12_share_25 (by decide) ?_
    refine lv_istore_n (pc := 26) (lv' := [(2, .int (0 : Int32)), (0, .ref (ad 14)), (1, .int a1)]) hx hb dX12_share_26 rfl hl (by decide) rfl (fun ls hl => ?_)
    refine lv_iconst (pc := 27) (v := 0) hx hb dX12_share_27 (by decide) ?_
    refine lv_istore_n (pc := 28) (lv' := [(3, .int (0 : Int32)), (2, .int (0 : Int32)), (0, .ref (ad 14)), (1, .int a1)]) hx hb dX12_share_28 rfl hl (by decide) rfl (fun ls hl => ?_)
    refine lv_iconst (pc := 29) (v := 0) hx hb dX12_share_29 (by decide) ?_
    refine lv_istore (pc := 30) (lv' := [(4, .int (0 : Int32)), (3, .int (0 : Int32)), (2, .int (0 : Int32)), (0, .ref (ad 14)), (1, .int a1)]) hx hb dX12_share_30 hl (by decide) rfl (fun ls hl => ?_)
    exact w_X12_share_L32 F (Nat.le_trans (by decide) hR1) (Nat.le_trans (by decide) hR2) _ _ _ _ _ h _ _ _ w (lv_sub hl [3, 2, 1, 0] rfl)
  · have h := ite_f q h
    refine lv_bipush (pc := 17) (v := -2) hx hb dX12_share_17 (by decide) ?_
    exact s_iret F w h dX12_share_19
def f_X11_consist (a1 : Int32) (a2 : Int32) (S : SS) : Option (Int32 × SS) :=
  if 0 ≤ a2 then
    bndv (f_X5_begin  S) (fun S1 =>
    bnd (f_X11_named a1 (127 : Int32) S1) (fun r3 S2 =>
    if r3 = 0 then
      bndv (f_X10_lineUp ((2 : Int32) * a1) S2) (fun S4 =>
      bnd (f_X10_inLine a2 S4) (fun r6 S5 =>
      some (r6, S5)))
    else
      bnd (f_X5_found r3 S2) (fun r8 S7 =>
      some (r8, S7))))
  else
    some ((-1 : Int32), S)
theorem dX11_consist_0 : decode cX11_consist 0 = .ok (.iload_n 2, 1) := by decide +kernel
theorem dX11_consist_1 : decode cX11_consist 1 = .ok (.ifCond .ge 5, 3) := by decide +kernel
theorem dX11_consist_4 : decode cX11_consist 4 = .ok (.iconst (-1), 1) := by decide +kernel
theorem dX11_consist_5 : decode cX11_consist 5 = .ok (.ireturn, 1) := by decide +kernel
theorem dX11_consist_6 : decode cX11_consist 6 = .ok (.aload_n 0, 1) := by decide +kernel
theorem dX11_consist_7 : decode cX11_consist 7 = .ok (.getfield 10, 3) := by decide +kernel
theorem dX11_consist_10 : decode cX11_consist 10 = .ok (.invokevirtual 95, 3) := by decide +kernel
theorem dX11_consist_13 : decode cX11_consist 13 = .ok (.aload_n 0, 1) := by decide +kernel
theorem dX11_consist_14 : decode cX11_consist 14 = .ok (.iload_n 1, 1) := by decide +kernel
theorem dX11_consist_15 : decode cX11_consist 15 = .ok (.bipush 127, 2) := by decide +kernel
theorem dX11_consist_17 : decode cX11_consist 17 = .ok (.invokevirtual 185, 3) := by decide +kernel
theorem dX11_consist_20 : decode cX11_consist 20 = .ok (.istore_n 3, 1) := by decide +kernel
theorem dX11_consist_21 : decode cX11_consist 21 = .ok (.iload_n 3, 1) := by decide +kernel
theorem dX11_consist_22 : decode cX11_consist 22 = .ok (.ifCond .eq 12, 3) := by decide +kernel
theorem dX11_consist_25 : decode cX11_consist 25 = .ok (.aload_n 0, 1) := by decide +kernel
theorem dX11_consist_26 : decode cX11_consist 26 = .ok (.getfield 10, 3) := by decide +kernel
theorem dX11_consist_29 : decode cX11_consist 29 = .ok (.iload_n 3, 1) := by decide +kernel
theorem dX11_consist_30 : decode cX11_consist 30 = .ok (.invokevirtual 98, 3) := by decide +kernel
theorem dX11_consist_33 : decode cX11_consist 33 = .ok (.ireturn, 1) := by decide +kernel
theorem dX11_consist_34 : decode cX11_consist 34 = .ok (.aload_n 0, 1) := by decide +kernel
theorem dX11_consist_35 : decode cX11_consist 35 = .ok (.getfield 58, 3) := by decide +kernel
theorem dX11_consist_38 : decode cX11_consist 38 = .ok (.iconst 2, 1) := by decide +kernel
theorem dX11_consist_39 : decode cX11_consist 39 = .ok (.iload_n 1, 1) := by decide +kernel
theorem dX11_consist_40 : decode cX11_consist 40 = .ok (.imul, 1) := by decide +kernel
theorem dX11_consist_41 : decode cX11_consist 41 = .ok (.invokevirtual 281, 3) := by decide +kernel
theorem dX11_consist_44 : decode cX11_consist 44 = .ok (.aload_n 0, 1) := by decide +kernel
theorem dX11_consist_45 : decode cX11_consist 45 = .ok (.getfield 58, 3) := by decide +kernel
theorem dX11_consist_48 : decode cX11_consist 48 = .ok (.iload_n 2, 1) := by decide +kernel
theorem dX11_consist_49 : decode cX11_consist 49 = .ok (.invokevirtual 299, 3) := by decide +kernel
theorem dX11_consist_52 : decode cX11_consist 52 = .ok (.ireturn, 1) := by decide +kernel
set_option maxRecDepth 100000 in
set_option maxHeartbeats 4000000 in
theorem m_X11_consist (a1 : Int32) (a2 : Int32) (S S' : SS) (r : Int32) (h : f_X11_consist a1 a2 S = some (r, S')) : MT yX11_consist cX11_consist 4 (some .int) 3 67 (fun ad => [.ref (ad 0), .int a1, .int a2]) S (some (.int r)) S' := by
  refine MT.of RX11 (fun ad => [(0, .ref (ad 0)), (1, .int a1), (2, .int a2)]) (by decide) rfl (fun _ => Nat.le_of_ble_eq_true rfl) (fun _ => rfl) ?_
  intro p l e R s m args below meth c dC dI cs ad A hR1 hR2 F H locs ls w hl
  have hx := F.1.1
  have hb := F.1.2.1
  rw [f_X11_consist] at h
  refine lv_iload_n (pc := 0) hx hb dX11_consist_0 rfl (lv_at hl 2 rfl) ?_
  refine lv_if_ge (pc := 1) (tgt := 6) hx hb dX11_consist_1 (by decide) (fun q => ?_) (fun q => ?_)
  · have h := ite_t q h
    refine lv_aload_n (pc := 6) hx hb dX11_consist_6 rfl (lv_at hl 0 rfl) ?_
    refine s_getR (pc := 7) F w 1 ds_0 (j := 0) vc_X11 vi_X11 rfl (by decide) kf_X11_10 dX11_consist_7 ?_
    obtain ⟨S1, hc, h⟩ := bndv_t h
    refine s_cvv (pc := 10) [] (fun ad => [.ref (ad 1)]) F w (m_X5_begin  _ _ hc) rfl rfl hl.1 ds_1 vc_X5 rfl ok_X5_begin rfl kc_X5_begin kl_X11_95 ki_X5_begin kv_X5_begin kn_X5 ⟨Nat.le_trans (by decide) hR1, Nat.le_trans (by decide) hR2⟩ ⟨Nat.zero_le _, Nat.zero_le _⟩ (Nat.le_of_ble_eq_true rfl) dX11_consist_10 (fun H locs w => ?_)
    refine lv_aload_n (pc := 13) hx hb dX11_consist_13 rfl (lv_at hl 0 rfl) ?_
    refine lv_iload_n (pc := 14) hx hb dX11_consist_14 rfl (lv_at hl 1 rfl) ?_
    refine lv_bipush (pc := 15) (v := 127) hx hb dX11_consist_15 (by decide) ?_
    obtain ⟨r3, S2, hc, h⟩ := bnd_t h
    refine s_cvi (pc := 17) [.int a1, .int (127 : Int32)] (fun ad => [.ref (ad 0), .int a1, .int (127 : Int32)]) F w (m_X11_named _ _ _ _ _ hc) rfl rfl hl.1 ds_0 vc_X11 rfl ok_X11_named rfl kc_X11_named kl_X11_185 ki_X11_named kv_X11_named kn_X11 ⟨Nat.le_trans (by decide) hR1, Nat.le_trans (by decide) hR2⟩ ⟨Nat.zero_le _, Nat.zero_le _⟩ (Nat.le_of_ble_eq_true rfl) dX11_consist_17 (fun H locs w => ?_)
    refine lv_istore_n (pc := 20) (lv' := [(3, .int r3), (0, .ref (ad 0)), (1, .int a1), (2, .int a2)]) hx hb dX11_consist_20 rfl hl (by decide) rfl (fun ls hl => ?_)
    refine lv_iload_n (pc := 21) hx hb dX11_consist_21 rfl (lv_at hl 0 rfl) ?_
    refine lv_if_eq (pc := 22) (tgt := 34) hx hb dX11_consist_22 (by decide) (fun q => ?_) (fun q => ?_)
    · have h := ite_t q h
      refine lv_aload_n (pc := 34) hx hb dX11_consist_34 rfl (lv_at hl 1 rfl) ?_
      refine s_getR (pc := 35) F w 7 ds_0 (j := 6) vc_X11 vi_X11 rfl (by decide) kf_X11_58 dX11_consist_35 ?_
      refine lv_iconst (pc := 38) (v := 2) hx hb dX11_consist_38 (by decide) ?_
      refine lv_iload_n (pc := 39) hx hb dX11_consist_39 rfl (lv_at hl 2 rfl) ?_
      refine lv_imul (pc := 40) hx hb dX11_consist_40 ?_
      obtain ⟨S4, hc, h⟩ := bndv_t h
      refine s_cvv (pc := 41) [.int ((2 : Int32) * a1)] (fun ad => [.ref (ad 7), .int ((2 : Int32) * a1)]) F w (m_X10_lineUp _ _ _ hc) rfl rfl hl.1 ds_7 vc_X10 rfl ok_X10_lineUp rfl kc_X10_lineUp kl_X11_281 ki_X10_lineUp kv_X10_lineUp kn_X10 ⟨Nat.le_trans (by decide) hR1, Nat.le_trans (by decide) hR2⟩ ⟨Nat.zero_le _, Nat.zero_le _⟩ (Nat.le_of_ble_eq_true rfl) dX11_consist_41 (fun H locs w => ?_)
      refine lv_aload_n (pc := 44) hx hb dX11_consist_44 rfl (lv_at hl 1 rfl) ?_
      refine s_getR (pc := 45) F w 7 ds_0 (j := 6) vc_X11 vi_X11 rfl (by decide) kf_X11_58 dX11_consist_45 ?_
      refine lv_iload_n (pc := 48) hx hb dX11_consist_48 rfl (lv_at hl 3 rfl) ?_
      obtain ⟨r6, S5, hc, h⟩ := bnd_t h
      refine s_cvi (pc := 49) [.int a2] (fun ad => [.ref (ad 7), .int a2]) F w (m_X10_inLine _ _ _ _ hc) rfl rfl hl.1 ds_7 vc_X10 rfl ok_X10_inLine rfl kc_X10_inLine kl_X11_299 ki_X10_inLine kv_X10_inLine kn_X10 ⟨Nat.le_trans (by decide) hR1, Nat.le_trans (by decide) hR2⟩ ⟨Nat.zero_le _, Nat.zero_le _⟩ (Nat.le_of_ble_eq_true rfl) dX11_consist_49 (fun H locs w => ?_)
      exact s_iret F w h dX11_consist_52
    · have h := ite_f q h
      refine lv_aload_n (pc := 25) hx hb dX11_consist_25 rfl (lv_at hl 1 rfl) ?_
      refine s_getR (pc := 26) F w 1 ds_0 (j := 0) vc_X11 vi_X11 rfl (by decide) kf_X11_10 dX11_consist_26 ?_
      refine lv_iload_n (pc := 29) hx hb dX11_consist_29 rfl (lv_at hl 0 rfl) ?_
      obtain ⟨r8, S7, hc, h⟩ := bnd_t h
      refine s_cvi (pc := 30) [.int r3] (fun ad => [.ref (ad 1), .int r3]) F w (m_X5_found _ _ _ _ hc) rfl rfl hl.1 ds_1 vc_X5 rfl ok_X5_found rfl kc_X5_found kl_X11_98 ki_X5_found kv_X5_found kn_X5 ⟨Nat.le_trans (by decide) hR1, Nat.le_trans (by decide) hR2⟩ ⟨Nat.zero_le _, Nat.zero_le _⟩ (Nat.le_of_ble_eq_true rfl) dX11_consist_30 (fun H locs w => ?_)
      exact s_iret F w h dX11_consist_33
  · have h := ite_f q h
    refine lv_iconst (pc := 4) (v := -1) hx hb dX11_consist_4 (by decide) ?_
    exact s_iret F w h dX11_consist_5
def f_X12_consist (a1 : Int32) (a2 : Int32) (S : SS) : Option (Int32 × SS) :=
  if 0 ≤ a2 then
    bndv (f_X12_begin  S) (fun S1 =>
    bnd (f_X12_missThing a1 (0 : Int32) S1) (fun r3 S2 =>
    bnd (f_X12_ends r3 S2) (fun r5 S4 =>
    if r5 = 0 then
      bndv (f_X12_lineUp a1 S4) (fun S6 =>
      if (S6.1 14 56) ≤ a2 then
        some ((-4 : Int32), S6)
      else
        grd (inb a2 72) (
        some (S6.1 106 a2.toNatClampNeg, S6)))
    else
      some ((-2 : Int32), S4))))
  else
    some ((-1 : Int32), S)
theorem dX12_consist_0 : decode cX12_consist 0 = .ok (.iload_n 2, 1) := by decide +kernel
theorem dX12_consist_1 : decode cX12_consist 1 = .ok (.ifCond .ge 5, 3) := by decide +kernel
theorem dX12_consist_4 : decode cX12_consist 4 = .ok (.iconst (-1), 1) := by decide +kernel
theorem dX12_consist_5 : decode cX12_consist 5 = .ok (.ireturn, 1) := by decide +kernel
theorem dX12_consist_6 : decode cX12_consist 6 = .ok (.aload_n 0, 1) := by decide +kernel
theorem dX12_consist_7 : decode cX12_consist 7 = .ok (.invokevirtual 226, 3) := by decide +kernel
theorem dX12_consist_10 : decode cX12_consist 10 = .ok (.aload_n 0, 1) := by decide +kernel
theorem dX12_consist_11 : decode cX12_consist 11 = .ok (.aload_n 0, 1) := by decide +kernel
theorem dX12_consist_12 : decode cX12_consist 12 = .ok (.iload_n 1, 1) := by decide +kernel
theorem dX12_consist_13 : decode cX12_consist 13 = .ok (.iconst 0, 1) := by decide +kernel
theorem dX12_consist_14 : decode cX12_consist 14 = .ok (.invokevirtual 293, 3) := by decide +kernel
theorem dX12_consist_17 : decode cX12_consist 17 = .ok (.invokevirtual 236, 3) := by decide +kernel
theorem dX12_consist_20 : decode cX12_consist 20 = .ok (.ifCond .eq 6, 3) := by decide +kernel
theorem dX12_consist_23 : decode cX12_consist 23 = .ok (.bipush (-2), 2) := by decide +kernel
theorem dX12_consist_25 : decode cX12_consist 25 = .ok (.ireturn, 1) := by decide +kernel
theorem dX12_consist_26 : decode cX12_consist 26 = .ok (.aload_n 0, 1) := by decide +kernel
theorem dX12_consist_27 : decode cX12_consist 27 = .ok (.iload_n 1, 1) := by decide +kernel
theorem dX12_consist_28 : decode cX12_consist 28 = .ok (.invokevirtual 325, 3) := by decide +kernel
theorem dX12_consist_31 : decode cX12_consist 31 = .ok (.iload_n 2, 1) := by decide +kernel
theorem dX12_consist_32 : decode cX12_consist 32 = .ok (.aload_n 0, 1) := by decide +kernel
theorem dX12_consist_33 : decode cX12_consist 33 = .ok (.getfield 319, 3) := by decide +kernel
theorem dX12_consist_36 : decode cX12_consist 36 = .ok (.if_icmp .ge 12, 3) := by decide +kernel
theorem dX12_consist_39 : decode cX12_consist 39 = .ok (.aload_n 0, 1) := by decide +kernel
theorem dX12_consist_40 : decode cX12_consist 40 = .ok (.getfield 132, 3) := by decide +kernel
theorem dX12_consist_43 : decode cX12_consist 43 = .ok (.iload_n 2, 1) := by decide +kernel
theorem dX12_consist_44 : decode cX12_consist 44 = .ok (.iaload, 1) := by decide +kernel
theorem dX12_consist_45 : decode cX12_consist 45 = .ok (.goto 5, 3) := by decide +kernel
theorem dX12_consist_48 : decode cX12_consist 48 = .ok (.bipush (-4), 2) := by decide +kernel
theorem dX12_consist_50 : decode cX12_consist 50 = .ok (.ireturn, 1) := by decide +kernel
set_option maxRecDepth 100000 in
set_option maxHeartbeats 4000000 in
theorem m_X12_consist (a1 : Int32) (a2 : Int32) (S S' : SS) (r : Int32) (h : f_X12_consist a1 a2 S = some (r, S')) : MT yX12_consist cX12_consist 3 (some .int) 2 46 (fun ad => [.ref (ad 14), .int a1, .int a2]) S (some (.int r)) S' := by
  refine MT.of RX12 (fun ad => [(0, .ref (ad 14)), (1, .int a1), (2, .int a2)]) (by decide) rfl (fun _ => Nat.le_of_ble_eq_true rfl) (fun _ => rfl) ?_
  intro p l e R s m args below meth c dC dI cs ad A hR1 hR2 F H locs ls w hl
  have hx := F.1.1
  have hb := F.1.2.1
  rw [f_X12_consist] at h
  refine lv_iload_n (pc := 0) hx hb dX12_consist_0 rfl (lv_at hl 2 rfl) ?_
  refine lv_if_ge (pc := 1) (tgt := 6) hx hb dX12_consist_1 (by decide) (fun q => ?_) (fun q => ?_)
  · have h := ite_t q h
    refine lv_aload_n (pc := 6) hx hb dX12_consist_6 rfl (lv_at hl 0 rfl) ?_
    obtain ⟨S1, hc, h⟩ := bndv_t h
    refine s_cvv (pc := 7) [] (fun ad => [.ref (ad 14)]) F w (m_X12_begin  _ _ hc) rfl rfl hl.1 ds_14 vc_X12 rfl ok_X12_begin rfl kc_X12_begin kl_X12_226 ki_X12_begin kv_X12_begin kn_X12 ⟨Nat.le_trans (by decide) hR1, Nat.le_trans (by decide) hR2⟩ ⟨Nat.zero_le _, Nat.zero_le _⟩ (Nat.le_of_ble_eq_true rfl) dX12_consist_7 (fun H locs w => ?_)
    refine lv_aload_n (pc := 10) hx hb dX12_consist_10 rfl (lv_at hl 0 rfl) ?_
    refine lv_aload_n (pc := 11) hx hb dX12_consist_11 rfl (lv_at hl 0 rfl) ?_
    refine lv_iload_n (pc := 12) hx hb dX12_consist_12 rfl (lv_at hl 1 rfl) ?_
    refine lv_iconst (pc := 13) (v := 0) hx hb dX12_consist_13 (by decide) ?_
    obtain ⟨r3, S2, hc, h⟩ := bnd_t h
    refine s_cvi (pc := 14) [.int a1, .int (0 : Int32)] (fun ad => [.ref (ad 14), .int a1, .int (0 : Int32)]) F w (m_X12_missThing _ _ _ _ _ hc) rfl rfl hl.1 ds_14 vc_X12 rfl ok_X12_missThing rfl kc_X12_missThing kl_X12_293 ki_X12_missThing kv_X12_missThing kn_X12 ⟨Nat.le_trans (by decide) hR1, Nat.le_trans (by decide) hR2⟩ ⟨Nat.zero_le _, Nat.zero_le _⟩ (Nat.le_of_ble_eq_true rfl) dX12_consist_14 (fun H locs w => ?_)
    obtain ⟨r5, S4, hc, h⟩ := bnd_t h
    refine s_cvi (pc := 17) [.int r3] (fun ad => [.ref (ad 14), .int r3]) F w (m_X12_ends _ _ _ _ hc) rfl rfl hl.1 ds_14 vc_X12 rfl ok_X12_ends rfl kc_X12_ends kl_X12_236 ki_X12_ends kv_X12_ends kn_X12 ⟨Nat.le_trans (by decide) hR1, Nat.le_trans (by decide) hR2⟩ ⟨Nat.zero_le _, Nat.zero_le _⟩ (Nat.le_of_ble_eq_true rfl) dX12_consist_17 (fun H locs w => ?_)
    refine lv_if_eq (pc := 20) (tgt := 26) hx hb dX12_consist_20 (by decide) (fun q => ?_) (fun q => ?_)
    · have h := ite_t q h
      refine lv_aload_n (pc := 26) hx hb dX12_consist_26 rfl (lv_at hl 0 rfl) ?_
      refine lv_iload_n (pc := 27) hx hb dX12_consist_27 rfl (lv_at hl 1 rfl) ?_
      obtain ⟨S6, hc, h⟩ := bndv_t h
      refine s_cvv (pc := 28) [.int a1] (fun ad => [.ref (ad 14), .int a1]) F w (m_X12_lineUp _ _ _ hc) rfl rfl hl.1 ds_14 vc_X12 rfl ok_X12_lineUp rfl kc_X12_lineUp kl_X12_325 ki_X12_lineUp kv_X12_lineUp kn_X12 ⟨Nat.le_trans (by decide) hR1, Nat.le_trans (by decide) hR2⟩ ⟨Nat.zero_le _, Nat.zero_le _⟩ (Nat.le_of_ble_eq_true rfl) dX12_consist_28 (fun H locs w => ?_)
      refine lv_iload_n (pc := 31) hx hb dX12_consist_31 rfl (lv_at hl 2 rfl) ?_
      refine lv_aload_n (pc := 32) hx hb dX12_consist_32 rfl (lv_at hl 0 rfl) ?_
      refine s_getI (pc := 33) F w ds_14 (j := 56) vc_X12 vi_X12 rfl (by decide) kf_X12_319 dX12_consist_33 ?_
      refine lv_icmp_ge (pc := 36) (tgt := 48) hx hb dX12_consist_36 (by decide) (fun q => ?_) (fun q => ?_)
      · have h := ite_t q h
        refine lv_bipush (pc := 48) (v := -4) hx hb dX12_consist_48 (by decide) ?_
        exact s_iret F w h dX12_consist_50
      · have h := ite_f q h
        refine lv_aload_n (pc := 39) hx hb dX12_consist_39 rfl (lv_at hl 0 rfl) ?_
        refine s_getR (pc := 40) F w 106 ds_14 (j := 55) vc_X12 vi_X12 rfl (by decide) kf_X12_132 dX12_consist_40 ?_
        refine lv_iload_n (pc := 43) hx hb dX12_consist_43 rfl (lv_at hl 2 rfl) ?_
        refine s_iald (pc := 44) F w ds_106 h dX12_consist_44 (fun h => ?_)
        refine lv_goto (pc := 45) (tgt := 50) hx hb dX12_consist_45 (by decide) ?_
        exact s_iret F w h dX12_consist_50
    · have h := ite_f q h
      refine lv_bipush (pc := 23) (v := -2) hx hb dX12_consist_23 (by decide) ?_
      exact s_iret F w h dX12_consist_25
  · have h := ite_f q h
    refine lv_iconst (pc := 4) (v := -1) hx hb dX12_consist_4 (by decide) ?_
    exact s_iret F w h dX12_consist_5
def f_X11_finding (a1 : Int32) (S : SS) : Option (Int32 × SS) :=
  if a1 = (0 : Int32) then
    some (S.1 1 3, S)
  else
  if a1 = (1 : Int32) then
    some (S.1 1 4, S)
  else
  if a1 = (2 : Int32) then
    some (S.1 1 5, S)
  else
  if a1 = (3 : Int32) then
    some (S.1 1 6, S)
  else
  some ((-1 : Int32), S)
theorem dX11_finding_0 : decode cX11_finding 0 = .ok (.iload_n 1, 1) := by decide +kernel
theorem dX11_finding_1 : decode cX11_finding 1 = .ok (.tableswitch 63 0 3 #[31, 39, 47, 55], 31) := by decide +kernel
theorem dX11_finding_32 : decode cX11_finding 32 = .ok (.aload_n 0, 1) := by decide +kernel
theorem dX11_finding_33 : decode cX11_finding 33 = .ok (.getfield 10, 3) := by decide +kernel
theorem dX11_finding_36 : decode cX11_finding 36 = .ok (.getfield 363, 3) := by decide +kernel
theorem dX11_finding_39 : decode cX11_finding 39 = .ok (.ireturn, 1) := by decide +kernel
theorem dX11_finding_40 : decode cX11_finding 40 = .ok (.aload_n 0, 1) := by decide +kernel
theorem dX11_finding_41 : decode cX11_finding 41 = .ok (.getfield 10, 3) := by decide +kernel
theorem dX11_finding_44 : decode cX11_finding 44 = .ok (.getfield 366, 3) := by decide +kernel
theorem dX11_finding_47 : decode cX11_finding 47 = .ok (.ireturn, 1) := by decide +kernel
theorem dX11_finding_48 : decode cX11_finding 48 = .ok (.aload_n 0, 1) := by decide +kernel
theorem dX11_finding_49 : decode cX11_finding 49 = .ok (.getfield 10, 3) := by decide +kernel
theorem dX11_finding_52 : decode cX11_finding 52 = .ok (.getfield 293, 3) := by decide +kernel
theorem dX11_finding_55 : decode cX11_finding 55 = .ok (.ireturn, 1) := by decide +kernel
theorem dX11_finding_56 : decode cX11_finding 56 = .ok (.aload_n 0, 1) := by decide +kernel
theorem dX11_finding_57 : decode cX11_finding 57 = .ok (.getfield 10, 3) := by decide +kernel
theorem dX11_finding_60 : decode cX11_finding 60 = .ok (.getfield 369, 3) := by decide +kernel
theorem dX11_finding_63 : decode cX11_finding 63 = .ok (.ireturn, 1) := by decide +kernel
theorem dX11_finding_64 : decode cX11_finding 64 = .ok (.iconst (-1), 1) := by decide +kernel
theorem dX11_finding_65 : decode cX11_finding 65 = .ok (.ireturn, 1) := by decide +kernel
set_option maxRecDepth 100000 in
set_option maxHeartbeats 4000000 in
theorem m_X11_finding (a1 : Int32) (S S' : SS) (r : Int32) (h : f_X11_finding a1 S = some (r, S')) : MT yX11_finding cX11_finding 2 (some .int) 0 0 (fun ad => [.ref (ad 0), .int a1]) S (some (.int r)) S' := by
  refine MT.of RX11 (fun ad => [(0, .ref (ad 0)), (1, .int a1)]) (by decide) rfl (fun _ => Nat.le_of_ble_eq_true rfl) (fun _ => rfl) ?_
  intro p l e R s m args below meth c dC dI cs ad A hR1 hR2 F H locs ls w hl
  have hx := F.1.1
  have hb := F.1.2.1
  rw [f_X11_finding] at h
  refine lv_iload_n (pc := 0) hx hb dX11_finding_0 rfl (lv_at hl 1 rfl) ?_
  rcases Decidable.em (a1 = (0 : Int32)) with q0 | q0
  · refine lv_tableIn (pc := 1) (tgt := 32) (off := 31) hx hb dX11_finding_1 (by rw [q0]; decide) (by rw [q0]; decide) (by rw [q0]; rfl) (by decide) ?_
    have h := ite_t q0 h
    refine lv_aload_n (pc := 32) hx hb dX11_finding_32 rfl (lv_at hl 0 rfl) ?_
    refine s_getR (pc := 33) F w 1 ds_0 (j := 0) vc_X11 vi_X11 rfl (by decide) kf_X11_10 dX11_finding_33 ?_
    refine s_getI (pc := 36) F w ds_1 (j := 3) vc_X5 vi_X5 rfl (by decide) kf_X11_363 dX11_finding_36 ?_
    exact s_iret F w h dX11_finding_39
  have h := ite_f q0 h
  rcases Decidable.em (a1 = (1 : Int32)) with q1 | q1
  · refine lv_tableIn (pc := 1) (tgt := 40) (off := 39) hx hb dX11_finding_1 (by rw [q1]; decide) (by rw [q1]; decide) (by rw [q1]; rfl) (by decide) ?_
    have h := ite_t q1 h
    refine lv_aload_n (pc := 40) hx hb dX11_finding_40 rfl (lv_at hl 0 rfl) ?_
    refine s_getR (pc := 41) F w 1 ds_0 (j := 0) vc_X11 vi_X11 rfl (by decide) kf_X11_10 dX11_finding_41 ?_
    refine s_getI (pc := 44) F w ds_1 (j := 4) vc_X5 vi_X5 rfl (by decide) kf_X11_366 dX11_finding_44 ?_
    exact s_iret F w h dX11_finding_47
  have h := ite_f q1 h
  rcases Decidable.em (a1 = (2 : Int32)) with q2 | q2
  · refine lv_tableIn (pc := 1) (tgt := 48) (off := 47) hx hb dX11_finding_1 (by rw [q2]; decide) (by rw [q2]; decide) (by rw [q2]; rfl) (by decide) ?_
    have h := ite_t q2 h
    refine lv_aload_n (pc := 48) hx hb dX11_finding_48 rfl (lv_at hl 0 rfl) ?_
    refine s_getR (pc := 49) F w 1 ds_0 (j := 0) vc_X11 vi_X11 rfl (by decide) kf_X11_10 dX11_finding_49 ?_
    refine s_getI (pc := 52) F w ds_1 (j := 5) vc_X5 vi_X5 rfl (by decide) kf_X11_293 dX11_finding_52 ?_
    exact s_iret F w h dX11_finding_55
  have h := ite_f q2 h
  rcases Decidable.em (a1 = (3 : Int32)) with q3 | q3
  · refine lv_tableIn (pc := 1) (tgt := 56) (off := 55) hx hb dX11_finding_1 (by rw [q3]; decide) (by rw [q3]; decide) (by rw [q3]; rfl) (by decide) ?_
    have h := ite_t q3 h
    refine lv_aload_n (pc := 56) hx hb dX11_finding_56 rfl (lv_at hl 0 rfl) ?_
    refine s_getR (pc := 57) F w 1 ds_0 (j := 0) vc_X11 vi_X11 rfl (by decide) kf_X11_10 dX11_finding_57 ?_
    refine s_getI (pc := 60) F w ds_1 (j := 6) vc_X5 vi_X5 rfl (by decide) kf_X11_369 dX11_finding_60 ?_
    exact s_iret F w h dX11_finding_63
  have h := ite_f q3 h
  refine lv_tableOut (pc := 1) (tgt := 64) hx hb dX11_finding_1 (by have zq0 := i32ne q0 (show ((0 : Int32)).toInt = 0 by decide); have zq1 := i32ne q1 (show ((1 : Int32)).toInt = 1 by decide); have zq2 := i32ne q2 (show ((2 : Int32)).toInt = 2 by decide); have zq3 := i32ne q3 (show ((3 : Int32)).toInt = 3 by decide); omega) (by decide) ?_
  refine lv_iconst (pc := 64) (v := -1) hx hb dX11_finding_64 (by decide) ?_
  exact s_iret F w h dX11_finding_65
def f_X12_finding (a1 : Int32) (S : SS) : Option (Int32 × SS) :=
  if a1 = 0 then
    some (S.1 14 0, S)
  else
    if a1 = (1 : Int32) then
      some (S.1 14 1, S)
    else
      if a1 = (2 : Int32) then
        some (S.1 14 2, S)
      else
        if a1 = (3 : Int32) then
          some (S.1 14 3, S)
        else
          some ((-1 : Int32), S)
theorem dX12_finding_0 : decode cX12_finding 0 = .ok (.iload_n 1, 1) := by decide +kernel
theorem dX12_finding_1 : decode cX12_finding 1 = .ok (.ifCond .ne 10, 3) := by decide +kernel
theorem dX12_finding_4 : decode cX12_finding 4 = .ok (.aload_n 0, 1) := by decide +kernel
theorem dX12_finding_5 : decode cX12_finding 5 = .ok (.getfield 201, 3) := by decide +kernel
theorem dX12_finding_8 : decode cX12_finding 8 = .ok (.goto 40, 3) := by decide +kernel
theorem dX12_finding_11 : decode cX12_finding 11 = .ok (.iload_n 1, 1) := by decide +kernel
theorem dX12_finding_12 : decode cX12_finding 12 = .ok (.iconst 1, 1) := by decide +kernel
theorem dX12_finding_13 : decode cX12_finding 13 = .ok (.if_icmp .ne 10, 3) := by decide +kernel
theorem dX12_finding_16 : decode cX12_finding 16 = .ok (.aload_n 0, 1) := by decide +kernel
theorem dX12_finding_17 : decode cX12_finding 17 = .ok (.getfield 9, 3) := by decide +kernel
theorem dX12_finding_20 : decode cX12_finding 20 = .ok (.goto 28, 3) := by decide +kernel
theorem dX12_finding_23 : decode cX12_finding 23 = .ok (.iload_n 1, 1) := by decide +kernel
theorem dX12_finding_24 : decode cX12_finding 24 = .ok (.iconst 2, 1) := by decide +kernel
theorem dX12_finding_25 : decode cX12_finding 25 = .ok (.if_icmp .ne 10, 3) := by decide +kernel
theorem dX12_finding_28 : decode cX12_finding 28 = .ok (.aload_n 0, 1) := by decide +kernel
theorem dX12_finding_29 : decode cX12_finding 29 = .ok (.getfield 204, 3) := by decide +kernel
theorem dX12_finding_32 : decode cX12_finding 32 = .ok (.goto 16, 3) := by decide +kernel
theorem dX12_finding_35 : decode cX12_finding 35 = .ok (.iload_n 1, 1) := by decide +kernel
theorem dX12_finding_36 : decode cX12_finding 36 = .ok (.iconst 3, 1) := by decide +kernel
theorem dX12_finding_37 : decode cX12_finding 37 = .ok (.if_icmp .ne 10, 3) := by decide +kernel
theorem dX12_finding_40 : decode cX12_finding 40 = .ok (.aload_n 0, 1) := by decide +kernel
theorem dX12_finding_41 : decode cX12_finding 41 = .ok (.getfield 13, 3) := by decide +kernel
theorem dX12_finding_44 : decode cX12_finding 44 = .ok (.goto 4, 3) := by decide +kernel
theorem dX12_finding_47 : decode cX12_finding 47 = .ok (.iconst (-1), 1) := by decide +kernel
theorem dX12_finding_48 : decode cX12_finding 48 = .ok (.ireturn, 1) := by decide +kernel
set_option maxRecDepth 100000 in
set_option maxHeartbeats 4000000 in
theorem m_X12_finding (a1 : Int32) (S S' : SS) (r : Int32) (h : f_X12_finding a1 S = some (r, S')) : MT yX12_finding cX12_finding 2 (some .int) 0 0 (fun ad => [.ref (ad 14), .int a1]) S (some (.int r)) S' := by
  refine MT.of RX12 (fun ad => [(0, .ref (ad 14)), (1, .int a1)]) (by decide) rfl (fun _ => Nat.le_of_ble_eq_true rfl) (fun _ => rfl) ?_
  intro p l e R s m args below meth c dC dI cs ad A hR1 hR2 F H locs ls w hl
  have hx := F.1.1
  have hb := F.1.2.1
  rw [f_X12_finding] at h
  refine lv_iload_n (pc := 0) hx hb dX12_finding_0 rfl (lv_at hl 1 rfl) ?_
  refine lv_if_ne (pc := 1) (tgt := 11) hx hb dX12_finding_1 (by decide) (fun q => ?_) (fun q => ?_)
  · have h := ite_f q h
    refine lv_iload_n (pc := 11) hx hb dX12_finding_11 rfl (lv_at hl 1 rfl) ?_
    refine lv_iconst (pc := 12) (v := 1) hx hb dX12_finding_12 (by decide) ?_
    refine lv_icmp_ne (pc := 13) (tgt := 23) hx hb dX12_finding_13 (by decide) (fun q => ?_) (fun q => ?_)
    · have h := ite_f q h
      refine lv_iload_n (pc := 23) hx hb dX12_finding_23 rfl (lv_at hl 1 rfl) ?_
      refine lv_iconst (pc := 24) (v := 2) hx hb dX12_finding_24 (by decide) ?_
      refine lv_icmp_ne (pc := 25) (tgt := 35) hx hb dX12_finding_25 (by decide) (fun q => ?_) (fun q => ?_)
      · have h := ite_f q h
        refine lv_iload_n (pc := 35) hx hb dX12_finding_35 rfl (lv_at hl 1 rfl) ?_
        refine lv_iconst (pc := 36) (v := 3) hx hb dX12_finding_36 (by decide) ?_
        refine lv_icmp_ne (pc := 37) (tgt := 47) hx hb dX12_finding_37 (by decide) (fun q => ?_) (fun q => ?_)
        · have h := ite_f q h
          refine lv_iconst (pc := 47) (v := -1) hx hb dX12_finding_47 (by decide) ?_
          exact s_iret F w h dX12_finding_48
        · have h := ite_t q h
          refine lv_aload_n (pc := 40) hx hb dX12_finding_40 rfl (lv_at hl 0 rfl) ?_
          refine s_getI (pc := 41) F w ds_14 (j := 3) vc_X12 vi_X12 rfl (by decide) kf_X12_13 dX12_finding_41 ?_
          refine lv_goto (pc := 44) (tgt := 48) hx hb dX12_finding_44 (by decide) ?_
          exact s_iret F w h dX12_finding_48
      · have h := ite_t q h
        refine lv_aload_n (pc := 28) hx hb dX12_finding_28 rfl (lv_at hl 0 rfl) ?_
        refine s_getI (pc := 29) F w ds_14 (j := 2) vc_X12 vi_X12 rfl (by decide) kf_X12_204 dX12_finding_29 ?_
        refine lv_goto (pc := 32) (tgt := 48) hx hb dX12_finding_32 (by decide) ?_
        exact s_iret F w h dX12_finding_48
    · have h := ite_t q h
      refine lv_aload_n (pc := 16) hx hb dX12_finding_16 rfl (lv_at hl 0 rfl) ?_
      refine s_getI (pc := 17) F w ds_14 (j := 1) vc_X12 vi_X12 rfl (by decide) kf_X12_9 dX12_finding_17 ?_
      refine lv_goto (pc := 20) (tgt := 48) hx hb dX12_finding_20 (by decide) ?_
      exact s_iret F w h dX12_finding_48
  · have h := ite_t q h
    refine lv_aload_n (pc := 4) hx hb dX12_finding_4 rfl (lv_at hl 0 rfl) ?_
    refine s_getI (pc := 5) F w ds_14 (j := 0) vc_X12 vi_X12 rfl (by decide) kf_X12_201 dX12_finding_5 ?_
    refine lv_goto (pc := 8) (tgt := 48) hx hb dX12_finding_8 (by decide) ?_
    exact s_iret F w h dX12_finding_48
def f_X8_damps  (S : SS) : Option (Int32 × SS) :=
  grd (inb (0 : Int32) 946) (
  some (S.1 19 (0 : Int32).toNatClampNeg, S))
theorem dX8_damps_0 : decode cX8_damps 0 = .ok (.aload_n 0, 1) := by decide +kernel
theorem dX8_damps_1 : decode cX8_damps 1 = .ok (.getfield 13, 3) := by decide +kernel
theorem dX8_damps_4 : decode cX8_damps 4 = .ok (.iconst 0, 1) := by decide +kernel
theorem dX8_damps_5 : decode cX8_damps 5 = .ok (.iaload, 1) := by decide +kernel
theorem dX8_damps_6 : decode cX8_damps 6 = .ok (.ireturn, 1) := by decide +kernel
set_option maxRecDepth 100000 in
set_option maxHeartbeats 4000000 in
theorem m_X8_damps  (S S' : SS) (r : Int32) (h : f_X8_damps  S = some (r, S')) : MT yX8_damps cX8_damps 1 (some .int) 0 0 (fun ad => [.ref (ad 2)]) S (some (.int r)) S' := by
  refine MT.of RX8 (fun ad => [(0, .ref (ad 2))]) (by decide) rfl (fun _ => Nat.le_of_ble_eq_true rfl) (fun _ => rfl) ?_
  intro p l e R s m args below meth c dC dI cs ad A hR1 hR2 F H locs ls w hl
  have hx := F.1.1
  have hb := F.1.2.1
  rw [f_X8_damps] at h
  refine lv_aload_n (pc := 0) hx hb dX8_damps_0 rfl (lv_at hl 0 rfl) ?_
  refine s_getR (pc := 1) F w 19 ds_2 (j := 0) vc_X8 vi_X8 rfl (by decide) kf_X8_13 dX8_damps_1 ?_
  refine lv_iconst (pc := 4) (v := 0) hx hb dX8_damps_4 (by decide) ?_
  refine s_iald (pc := 5) F w ds_19 h dX8_damps_5 (fun h => ?_)
  exact s_iret F w h dX8_damps_6
def f_X8_there_j23 (K4 : Int32 → Int32 → SS → Option (Int32 × SS)) (x1 : Int32) (x2 : Int32) (S : SS) : Option (Int32 × SS) :=
    nm (x2 + (1 : Int32)) (fun z3 =>
    K4 x1 z3 S)
def f_X8_there_L4  : Nat → Int32 → Int32 → SS → Option (Int32 × SS)
  | 0, _, _, _ => none
  | n + 1, x1, x2, S =>
    if (S.1 2 1) ≤ x2 then
      some (x1, S)
    else
      bnd (f_X8_isThere x2 S) (fun r2 S1 =>
      if r2 = 0 then
        f_X8_there_j23 (fun v0 v1 S => f_X8_there_L4 n v0 v1 S) x1 x2 S1
      else
        nm (x1 + (1 : Int32)) (fun z4 =>
        f_X8_there_j23 (fun v0 v1 S => f_X8_there_L4 n v0 v1 S) z4 x2 S1))
def f_X8_there  (S : SS) : Option (Int32 × SS) :=
  f_X8_there_L4 NF (0 : Int32) (0 : Int32) S
theorem dX8_there_0 : decode cX8_there 0 = .ok (.iconst 0, 1) := by decide +kernel
theorem dX8_there_1 : decode cX8_there 1 = .ok (.istore_n 1, 1) := by decide +kernel
theorem dX8_there_2 : decode cX8_there 2 = .ok (.iconst 0, 1) := by decide +kernel
theorem dX8_there_3 : decode cX8_there 3 = .ok (.istore_n 2, 1) := by decide +kernel
theorem dX8_there_4 : decode cX8_there 4 = .ok (.iload_n 2, 1) := by decide +kernel
theorem dX8_there_5 : decode cX8_there 5 = .ok (.aload_n 0, 1) := by decide +kernel
theorem dX8_there_6 : decode cX8_there 6 = .ok (.getfield 17, 3) := by decide +kernel
theorem dX8_there_9 : decode cX8_there 9 = .ok (.if_icmp .ge 20, 3) := by decide +kernel
theorem dX8_there_12 : decode cX8_there 12 = .ok (.aload_n 0, 1) := by decide +kernel
theorem dX8_there_13 : decode cX8_there 13 = .ok (.iload_n 2, 1) := by decide +kernel
theorem dX8_there_14 : decode cX8_there 14 = .ok (.invokevirtual 35, 3) := by decide +kernel
theorem dX8_there_17 : decode cX8_there 17 = .ok (.ifCond .eq 6, 3) := by decide +kernel
theorem dX8_there_20 : decode cX8_there 20 = .ok (.iinc 1 1, 3) := by decide +kernel
theorem dX8_there_23 : decode cX8_there 23 = .ok (.iinc 2 1, 3) := by decide +kernel
theorem dX8_there_26 : decode cX8_there 26 = .ok (.goto (-22), 3) := by decide +kernel
theorem dX8_there_29 : decode cX8_there 29 = .ok (.iload_n 1, 1) := by decide +kernel
theorem dX8_there_30 : decode cX8_there 30 = .ok (.ireturn, 1) := by decide +kernel
set_option maxRecDepth 100000 in
set_option maxHeartbeats 4000000 in
theorem w_X8_there_j23 {p : Program} {l : Launch} {e : Env} {R : Room} {s : State} {m : MethodId} {args : Array Value} {below : List Frame} {meth : Method} {c : Code} {dC : Nat → ClassId} {dI : Nat → Nat → Nat} {cs : Nat → ClassId} {ad : Nat → Nat} {A : Nat → Prop} {D0 : Nat → Nat} {S' : SS} {r : Int32} (F : Fx p s m args meth c cX8_there 3 RX8 (some .int) dC dI cs A) (hR1 : 0 ≤ R.frames) (hR2 : 0 ≤ R.locals) (K4 : Int32 → Int32 → SS → Option (Int32 × SS)) (hK4 : ∀ (v0 : Int32) (v1 : Int32) (S : SS), K4 v0 v1 S = some (r, S') → AW p l e R s m args below meth c dC dI cs ad A D0 (some (.int r)) S' 3 4 [(0, .ref (ad 2)), (1, .int v0), (2, .int v1)] [] S) (x1 : Int32) (x2 : Int32) (S : SS) (h : f_X8_there_j23 K4 x1 x2 S = some (r, S')) : AW p l e R s m args below meth c dC dI cs ad A D0 (some (.int r)) S' 3 23 [(0, .ref (ad 2)), (1, .int x1), (2, .int x2)] [] S := by
  have hx := F.1.1
  have hb := F.1.2.1
  intro H locs ls w hl
  rw [f_X8_there_j23] at h
  refine s_nm h (fun z3 ez3 h => ?_)
  refine lv_iinc (pc := 23) (v := z3) (lv' := [(2, .int z3), (0, .ref (ad 2)), (1, .int x1)]) hx hb dX8_there_23 hl (k := 2) rfl (by rw [ez3]; rfl) (by decide) rfl (fun ls hl => ?_)
  refine lv_goto (pc := 26) (tgt := 4) hx hb dX8_there_26 (by decide) ?_
  exact hK4 _ _ _ h _ _ _ w (lv_sub hl [1, 2, 0] rfl)
set_option maxRecDepth 100000 in
set_option maxHeartbeats 4000000 in
theorem w_X8_there_L4 {p : Program} {l : Launch} {e : Env} {R : Room} {s : State} {m : MethodId} {args : Array Value} {below : List Frame} {meth : Method} {c : Code} {dC : Nat → ClassId} {dI : Nat → Nat → Nat} {cs : Nat → ClassId} {ad : Nat → Nat} {A : Nat → Prop} {D0 : Nat → Nat} {S' : SS} {r : Int32} (F : Fx p s m args meth c cX8_there 3 RX8 (some .int) dC dI cs A) (hR1 : 2 ≤ R.frames) (hR2 : 43 ≤ R.locals) : ∀ (n : Nat) (x1 : Int32) (x2 : Int32) (S : SS), f_X8_there_L4 n x1 x2 S = some (r, S') → AW p l e R s m args below meth c dC dI cs ad A D0 (some (.int r)) S' 3 4 [(0, .ref (ad 2)), (1, .int x1), (2, .int x2)] [] S := by
  have hx := F.1.1
  have hb := F.1.2.1
  intro n
  induction n with
  | zero => intro x1 x2 S h; cases h
  | succ n ih =>
    intro x1 x2 S h H locs ls w hl
    rw [f_X8_there_L4] at h
    refine lv_iload_n (pc := 4) hx hb dX8_there_4 rfl (lv_at hl 2 rfl) ?_
    refine lv_aload_n (pc := 5) hx hb dX8_there_5 rfl (lv_at hl 0 rfl) ?_
    refine s_getI (pc := 6) F w ds_2 (j := 1) vc_X8 vi_X8 rfl (by decide) kf_X8_17 dX8_there_6 ?_
    refine lv_icmp_ge (pc := 9) (tgt := 29) hx hb dX8_there_9 (by decide) (fun q => ?_) (fun q => ?_)
    · have h := ite_t q h
      refine lv_iload_n (pc := 29) hx hb dX8_there_29 rfl (lv_at hl 1 rfl) ?_
      exact s_iret F w h dX8_there_30
    · have h := ite_f q h
      refine lv_aload_n (pc := 12) hx hb dX8_there_12 rfl (lv_at hl 0 rfl) ?_
      refine lv_iload_n (pc := 13) hx hb dX8_there_13 rfl (lv_at hl 2 rfl) ?_
      obtain ⟨r2, S1, hc, h⟩ := bnd_t h
      refine s_cvi (pc := 14) [.int x2] (fun ad => [.ref (ad 2), .int x2]) F w (m_X8_isThere _ _ _ _ hc) rfl rfl hl.1 ds_2 vc_X8 rfl ok_X8_isThere rfl kc_X8_isThere kl_X8_35 ki_X8_isThere kv_X8_isThere kn_X8 ⟨Nat.le_trans (by decide) hR1, Nat.le_trans (by decide) hR2⟩ ⟨Nat.zero_le _, Nat.zero_le _⟩ (Nat.le_of_ble_eq_true rfl) dX8_there_14 (fun H locs w => ?_)
      refine lv_if_eq (pc := 17) (tgt := 23) hx hb dX8_there_17 (by decide) (fun q => ?_) (fun q => ?_)
      · have h := ite_t q h
        exact w_X8_there_j23 F (Nat.le_trans (by decide) hR1) (Nat.le_trans (by decide) hR2) _ (fun v0 v1 S h => ih v0 v1 S h) _ _ _ h _ _ _ w (lv_sub hl [0, 1, 2] rfl)
      · have h := ite_f q h
        refine s_nm h (fun z4 ez4 h => ?_)
        refine lv_iinc (pc := 20) (v := z4) (lv' := [(1, .int z4), (0, .ref (ad 2)), (2, .int x2)]) hx hb dX8_there_20 hl (k := 1) rfl (by rw [ez4]; rfl) (by decide) rfl (fun ls hl => ?_)
        exact w_X8_there_j23 F (Nat.le_trans (by decide) hR1) (Nat.le_trans (by decide) hR2) _ (fun v0 v1 S h => ih v0 v1 S h) _ _ _ h _ _ _ w (lv_sub hl [1, 0, 2] rfl)
set_option maxRecDepth 100000 in
set_option maxHeartbeats 4000000 in
theorem m_X8_there  (S S' : SS) (r : Int32) (h : f_X8_there  S = some (r, S')) : MT yX8_there cX8_there 3 (some .int) 2 43 (fun ad => [.ref (ad 2)]) S (some (.int r)) S' := by
  refine MT.of RX8 (fun ad => [(0, .ref (ad 2))]) (by decide) rfl (fun _ => Nat.le_of_ble_eq_true rfl) (fun _ => rfl) ?_
  intro p l e R s m args below meth c dC dI cs ad A hR1 hR2 F H locs ls w hl
  have hx := F.1.1
  have hb := F.1.2.1
  rw [f_X8_there] at h
  refine lv_iconst (pc := 0) (v := 0) hx hb dX8_there_0 (by decide) ?_
  refine lv_istore_n (pc := 1) (lv' := [(1, .int (0 : Int32)), (0, .ref (ad 2))]) hx hb dX8_there_1 rfl hl (by decide) rfl (fun ls hl => ?_)
  refine lv_iconst (pc := 2) (v := 0) hx hb dX8_there_2 (by decide) ?_
  refine lv_istore_n (pc := 3) (lv' := [(2, .int (0 : Int32)), (1, .int (0 : Int32)), (0, .ref (ad 2))]) hx hb dX8_there_3 rfl hl (by decide) rfl (fun ls hl => ?_)
  exact w_X8_there_L4 F (Nat.le_trans (by decide) hR1) (Nat.le_trans (by decide) hR2) _ _ _ _ h _ _ _ w (lv_sub hl [2, 1, 0] rfl)
def f_X5_ever (a1 : Int32) (S : SS) : Option (Int32 × SS) :=
  if a1 < (1 : Int32) then
    some ((-1 : Int32), S)
  else
    if a1 ≤ (17 : Int32) then
      grd (inb a1 18) (
      some (S.1 17 a1.toNatClampNeg, S))
    else
      some ((-1 : Int32), S)
theorem dX5_ever_0 : decode cX5_ever 0 = .ok (.iload_n 1, 1) := by decide +kernel
theorem dX5_ever_1 : decode cX5_ever 1 = .ok (.iconst 1, 1) := by decide +kernel
theorem dX5_ever_2 : decode cX5_ever 2 = .ok (.if_icmp .lt 9, 3) := by decide +kernel
theorem dX5_ever_5 : decode cX5_ever 5 = .ok (.iload_n 1, 1) := by decide +kernel
theorem dX5_ever_6 : decode cX5_ever 6 = .ok (.bipush 17, 2) := by decide +kernel
theorem dX5_ever_8 : decode cX5_ever 8 = .ok (.if_icmp .le 7, 3) := by decide +kernel
theorem dX5_ever_11 : decode cX5_ever 11 = .ok (.iconst (-1), 1) := by decide +kernel
theorem dX5_ever_12 : decode cX5_ever 12 = .ok (.goto 9, 3) := by decide +kernel
theorem dX5_ever_15 : decode cX5_ever 15 = .ok (.aload_n 0, 1) := by decide +kernel
theorem dX5_ever_16 : decode cX5_ever 16 = .ok (.getfield 11, 3) := by decide +kernel
theorem dX5_ever_19 : decode cX5_ever 19 = .ok (.iload_n 1, 1) := by decide +kernel
theorem dX5_ever_20 : decode cX5_ever 20 = .ok (.iaload, 1) := by decide +kernel
theorem dX5_ever_21 : decode cX5_ever 21 = .ok (.ireturn, 1) := by decide +kernel
set_option maxRecDepth 100000 in
set_option maxHeartbeats 4000000 in
theorem m_X5_ever (a1 : Int32) (S S' : SS) (r : Int32) (h : f_X5_ever a1 S = some (r, S')) : MT yX5_ever cX5_ever 2 (some .int) 0 0 (fun ad => [.ref (ad 1), .int a1]) S (some (.int r)) S' := by
  refine MT.of RX5 (fun ad => [(0, .ref (ad 1)), (1, .int a1)]) (by decide) rfl (fun _ => Nat.le_of_ble_eq_true rfl) (fun _ => rfl) ?_
  intro p l e R s m args below meth c dC dI cs ad A hR1 hR2 F H locs ls w hl
  have hx := F.1.1
  have hb := F.1.2.1
  rw [f_X5_ever] at h
  refine lv_iload_n (pc := 0) hx hb dX5_ever_0 rfl (lv_at hl 1 rfl) ?_
  refine lv_iconst (pc := 1) (v := 1) hx hb dX5_ever_1 (by decide) ?_
  refine lv_icmp_lt (pc := 2) (tgt := 11) hx hb dX5_ever_2 (by decide) (fun q => ?_) (fun q => ?_)
  · have h := ite_t q h
    refine lv_iconst (pc := 11) (v := -1) hx hb dX5_ever_11 (by decide) ?_
    refine lv_goto (pc := 12) (tgt := 21) hx hb dX5_ever_12 (by decide) ?_
    exact s_iret F w h dX5_ever_21
  · have h := ite_f q h
    refine lv_iload_n (pc := 5) hx hb dX5_ever_5 rfl (lv_at hl 1 rfl) ?_
    refine lv_bipush (pc := 6) (v := 17) hx hb dX5_ever_6 (by decide) ?_
    refine lv_icmp_le (pc := 8) (tgt := 15) hx hb dX5_ever_8 (by decide) (fun q => ?_) (fun q => ?_)
    · have h := ite_t q h
      refine lv_aload_n (pc := 15) hx hb dX5_ever_15 rfl (lv_at hl 0 rfl) ?_
      refine s_getR (pc := 16) F w 17 ds_1 (j := 0) vc_X5 vi_X5 rfl (by decide) kf_X5_11 dX5_ever_16 ?_
      refine lv_iload_n (pc := 19) hx hb dX5_ever_19 rfl (lv_at hl 1 rfl) ?_
      refine s_iald (pc := 20) F w ds_17 h dX5_ever_20 (fun h => ?_)
      exact s_iret F w h dX5_ever_21
    · have h := ite_f q h
      refine lv_iconst (pc := 11) (v := -1) hx hb dX5_ever_11 (by decide) ?_
      refine lv_goto (pc := 12) (tgt := 21) hx hb dX5_ever_12 (by decide) ?_
      exact s_iret F w h dX5_ever_21
def f_X11_count (a1 : Int32) (S : SS) : Option (Int32 × SS) :=
  if a1 = (-9 : Int32) then
    some (S.1 3 7, S)
  else
  if a1 = (-8 : Int32) then
    some (S.1 3 6, S)
  else
  if a1 = (-7 : Int32) then
    some (S.1 6 8, S)
  else
  if a1 = (-6 : Int32) then
    some (S.1 5 8, S)
  else
  if a1 = (-5 : Int32) then
    some (S.1 7 5, S)
  else
  if a1 = (-4 : Int32) then
    bnd (f_X8_damps  S) (fun r2 S1 =>
    some (r2, S1))
  else
  if a1 = (-3 : Int32) then
    bnd (f_X8_running  S) (fun r4 S3 =>
    some (r4, S3))
  else
  if a1 = (-2 : Int32) then
    bnd (f_X8_there  S) (fun r6 S5 =>
    some (r6, S5))
  else
  if a1 = (-1 : Int32) then
    some (S.1 2 1, S)
  else
  if a1 = (0 : Int32) then
    some (S.1 5 7, S)
  else
  bnd (f_X5_ever a1 S) (fun r8 S7 =>
  some (r8, S7))
theorem dX11_count_0 : decode cX11_count 0 = .ok (.iload_n 1, 1) := by decide +kernel
theorem dX11_count_1 : decode cX11_count 1 = .ok (.tableswitch 135 (-9) 0 #[127, 119, 111, 103, 95, 87, 79, 71, 63, 55], 55) := by decide +kernel
theorem dX11_count_56 : decode cX11_count 56 = .ok (.aload_n 0, 1) := by decide +kernel
theorem dX11_count_57 : decode cX11_count 57 = .ok (.getfield 42, 3) := by decide +kernel
theorem dX11_count_60 : decode cX11_count 60 = .ok (.getfield 91, 3) := by decide +kernel
theorem dX11_count_63 : decode cX11_count 63 = .ok (.ireturn, 1) := by decide +kernel
theorem dX11_count_64 : decode cX11_count 64 = .ok (.aload_n 0, 1) := by decide +kernel
theorem dX11_count_65 : decode cX11_count 65 = .ok (.getfield 19, 3) := by decide +kernel
theorem dX11_count_68 : decode cX11_count 68 = .ok (.getfield 140, 3) := by decide +kernel
theorem dX11_count_71 : decode cX11_count 71 = .ok (.ireturn, 1) := by decide +kernel
theorem dX11_count_72 : decode cX11_count 72 = .ok (.aload_n 0, 1) := by decide +kernel
theorem dX11_count_73 : decode cX11_count 73 = .ok (.getfield 19, 3) := by decide +kernel
theorem dX11_count_76 : decode cX11_count 76 = .ok (.invokevirtual 371, 3) := by decide +kernel
theorem dX11_count_79 : decode cX11_count 79 = .ok (.ireturn, 1) := by decide +kernel
theorem dX11_count_80 : decode cX11_count 80 = .ok (.aload_n 0, 1) := by decide +kernel
theorem dX11_count_81 : decode cX11_count 81 = .ok (.getfield 19, 3) := by decide +kernel
theorem dX11_count_84 : decode cX11_count 84 = .ok (.invokevirtual 374, 3) := by decide +kernel
theorem dX11_count_87 : decode cX11_count 87 = .ok (.ireturn, 1) := by decide +kernel
theorem dX11_count_88 : decode cX11_count 88 = .ok (.aload_n 0, 1) := by decide +kernel
theorem dX11_count_89 : decode cX11_count 89 = .ok (.getfield 19, 3) := by decide +kernel
theorem dX11_count_92 : decode cX11_count 92 = .ok (.invokevirtual 377, 3) := by decide +kernel
theorem dX11_count_95 : decode cX11_count 95 = .ok (.ireturn, 1) := by decide +kernel
theorem dX11_count_96 : decode cX11_count 96 = .ok (.aload_n 0, 1) := by decide +kernel
theorem dX11_count_97 : decode cX11_count 97 = .ok (.getfield 58, 3) := by decide +kernel
theorem dX11_count_100 : decode cX11_count 100 = .ok (.getfield 380, 3) := by decide +kernel
theorem dX11_count_103 : decode cX11_count 103 = .ok (.ireturn, 1) := by decide +kernel
theorem dX11_count_104 : decode cX11_count 104 = .ok (.aload_n 0, 1) := by decide +kernel
theorem dX11_count_105 : decode cX11_count 105 = .ok (.getfield 42, 3) := by decide +kernel
theorem dX11_count_108 : decode cX11_count 108 = .ok (.getfield 112, 3) := by decide +kernel
theorem dX11_count_111 : decode cX11_count 111 = .ok (.ireturn, 1) := by decide +kernel
theorem dX11_count_112 : decode cX11_count 112 = .ok (.aload_n 0, 1) := by decide +kernel
theorem dX11_count_113 : decode cX11_count 113 = .ok (.getfield 51, 3) := by decide +kernel
theorem dX11_count_116 : decode cX11_count 116 = .ok (.getfield 168, 3) := by decide +kernel
theorem dX11_count_119 : decode cX11_count 119 = .ok (.ireturn, 1) := by decide +kernel
theorem dX11_count_120 : decode cX11_count 120 = .ok (.aload_n 0, 1) := by decide +kernel
theorem dX11_count_121 : decode cX11_count 121 = .ok (.getfield 26, 3) := by decide +kernel
theorem dX11_count_124 : decode cX11_count 124 = .ok (.getfield 383, 3) := by decide +kernel
theorem dX11_count_127 : decode cX11_count 127 = .ok (.ireturn, 1) := by decide +kernel
theorem dX11_count_128 : decode cX11_count 128 = .ok (.aload_n 0, 1) := by decide +kernel
theorem dX11_count_129 : decode cX11_count 129 = .ok (.getfield 26, 3) := by decide +kernel
theorem dX11_count_132 : decode cX11_count 132 = .ok (.getfield 386, 3) := by decide +kernel
theorem dX11_count_135 : decode cX11_count 135 = .ok (.ireturn, 1) := by decide +kernel
theorem dX11_count_136 : decode cX11_count 136 = .ok (.aload_n 0, 1) := by decide +kernel
theorem dX11_count_137 : decode cX11_count 137 = .ok (.getfield 10, 3) := by decide +kernel
theorem dX11_count_140 : decode cX11_count 140 = .ok (.iload_n 1, 1) := by decide +kernel
theorem dX11_count_141 : decode cX11_count 141 = .ok (.invokevirtual 389, 3) := by decide +kernel
theorem dX11_count_144 : decode cX11_count 144 = .ok (.ireturn, 1) := by decide +kernel
set_option maxRecDepth 100000 in
set_option maxHeartbeats 4000000 in
theorem m_X11_count (a1 : Int32) (S S' : SS) (r : Int32) (h : f_X11_count a1 S = some (r, S')) : MT yX11_count cX11_count 2 (some .int) 3 65 (fun ad => [.ref (ad 0), .int a1]) S (some (.int r)) S' := by
  refine MT.of RX11 (fun ad => [(0, .ref (ad 0)), (1, .int a1)]) (by decide) rfl (fun _ => Nat.le_of_ble_eq_true rfl) (fun _ => rfl) ?_
  intro p l e R s m args below meth c dC dI cs ad A hR1 hR2 F H locs ls w hl
  have hx := F.1.1
  have hb := F.1.2.1
  rw [f_X11_count] at h
  refine lv_iload_n (pc := 0) hx hb dX11_count_0 rfl (lv_at hl 1 rfl) ?_
  rcases Decidable.em (a1 = (-9 : Int32)) with qm9 | qm9
  · refine lv_tableIn (pc := 1) (tgt := 128) (off := 127) hx hb dX11_count_1 (by rw [qm9]; decide) (by rw [qm9]; decide) (by rw [qm9]; rfl) (by decide) ?_
    have h := ite_t qm9 h
    refine lv_aload_n (pc := 128) hx hb dX11_count_128 rfl (lv_at hl 0 rfl) ?_
    refine s_getR (pc := 129) F w 3 ds_0 (j := 2) vc_X11 vi_X11 rfl (by decide) kf_X11_26 dX11_count_129 ?_
    refine s_getI (pc := 132) F w ds_3 (j := 7) vc_X1 vi_X1 rfl (by decide) kf_X11_386 dX11_count_132 ?_
    exact s_iret F w h dX11_count_135
  have h := ite_f qm9 h
  rcases Decidable.em (a1 = (-8 : Int32)) with qm8 | qm8
  · refine lv_tableIn (pc := 1) (tgt := 120) (off := 119) hx hb dX11_count_1 (by rw [qm8]; decide) (by rw [qm8]; decide) (by rw [qm8]; rfl) (by decide) ?_
    have h := ite_t qm8 h
    refine lv_aload_n (pc := 120) hx hb dX11_count_120 rfl (lv_at hl 0 rfl) ?_
    refine s_getR (pc := 121) F w 3 ds_0 (j := 2) vc_X11 vi_X11 rfl (by decide) kf_X11_26 dX11_count_121 ?_
    refine s_getI (pc := 124) F w ds_3 (j := 6) vc_X1 vi_X1 rfl (by decide) kf_X11_383 dX11_count_124 ?_
    exact s_iret F w h dX11_count_127
  have h := ite_f qm8 h
  rcases Decidable.em (a1 = (-7 : Int32)) with qm7 | qm7
  · refine lv_tableIn (pc := 1) (tgt := 112) (off := 111) hx hb dX11_count_1 (by rw [qm7]; decide) (by rw [qm7]; decide) (by rw [qm7]; rfl) (by decide) ?_
    have h := ite_t qm7 h
    refine lv_aload_n (pc := 112) hx hb dX11_count_112 rfl (lv_at hl 0 rfl) ?_
    refine s_getR (pc := 113) F w 6 ds_0 (j := 5) vc_X11 vi_X11 rfl (by decide) kf_X11_51 dX11_count_113 ?_
    refine s_getI (pc := 116) F w ds_6 (j := 8) vc_X6 vi_X6 rfl (by decide) kf_X11_168 dX11_count_116 ?_
    exact s_iret F w h dX11_count_119
  have h := ite_f qm7 h
  rcases Decidable.em (a1 = (-6 : Int32)) with qm6 | qm6
  · refine lv_tableIn (pc := 1) (tgt := 104) (off := 103) hx hb dX11_count_1 (by rw [qm6]; decide) (by rw [qm6]; decide) (by rw [qm6]; rfl) (by decide) ?_
    have h := ite_t qm6 h
    refine lv_aload_n (pc := 104) hx hb dX11_count_104 rfl (lv_at hl 0 rfl) ?_
    refine s_getR (pc := 105) F w 5 ds_0 (j := 4) vc_X11 vi_X11 rfl (by decide) kf_X11_42 dX11_count_105 ?_
    refine s_getI (pc := 108) F w ds_5 (j := 8) vc_X2 vi_X2 rfl (by decide) kf_X11_112 dX11_count_108 ?_
    exact s_iret F w h dX11_count_111
  have h := ite_f qm6 h
  rcases Decidable.em (a1 = (-5 : Int32)) with qm5 | qm5
  · refine lv_tableIn (pc := 1) (tgt := 96) (off := 95) hx hb dX11_count_1 (by rw [qm5]; decide) (by rw [qm5]; decide) (by rw [qm5]; rfl) (by decide) ?_
    have h := ite_t qm5 h
    refine lv_aload_n (pc := 96) hx hb dX11_count_96 rfl (lv_at hl 0 rfl) ?_
    refine s_getR (pc := 97) F w 7 ds_0 (j := 6) vc_X11 vi_X11 rfl (by decide) kf_X11_58 dX11_count_97 ?_
    refine s_getI (pc := 100) F w ds_7 (j := 5) vc_X10 vi_X10 rfl (by decide) kf_X11_380 dX11_count_100 ?_
    exact s_iret F w h dX11_count_103
  have h := ite_f qm5 h
  rcases Decidable.em (a1 = (-4 : Int32)) with qm4 | qm4
  · refine lv_tableIn (pc := 1) (tgt := 88) (off := 87) hx hb dX11_count_1 (by rw [qm4]; decide) (by rw [qm4]; decide) (by rw [qm4]; rfl) (by decide) ?_
    have h := ite_t qm4 h
    refine lv_aload_n (pc := 88) hx hb dX11_count_88 rfl (lv_at hl 0 rfl) ?_
    refine s_getR (pc := 89) F w 2 ds_0 (j := 1) vc_X11 vi_X11 rfl (by decide) kf_X11_19 dX11_count_89 ?_
    obtain ⟨r2, S1, hc, h⟩ := bnd_t h
    refine s_cvi (pc := 92) [] (fun ad => [.ref (ad 2)]) F w (m_X8_damps  _ _ _ hc) rfl rfl hl.1 ds_2 vc_X8 rfl ok_X8_damps rfl kc_X8_damps kl_X11_377 ki_X8_damps kv_X8_damps kn_X8 ⟨Nat.le_trans (by decide) hR1, Nat.le_trans (by decide) hR2⟩ ⟨Nat.zero_le _, Nat.zero_le _⟩ (Nat.le_of_ble_eq_true rfl) dX11_count_92 (fun H locs w => ?_)
    exact s_iret F w h dX11_count_95
  have h := ite_f qm4 h
  rcases Decidable.em (a1 = (-3 : Int32)) with qm3 | qm3
  · refine lv_tableIn (pc := 1) (tgt := 80) (off := 79) hx hb dX11_count_1 (by rw [qm3]; decide) (by rw [qm3]; decide) (by rw [qm3]; rfl) (by decide) ?_
    have h := ite_t qm3 h
    refine lv_aload_n (pc := 80) hx hb dX11_count_80 rfl (lv_at hl 0 rfl) ?_
    refine s_getR (pc := 81) F w 2 ds_0 (j := 1) vc_X11 vi_X11 rfl (by decide) kf_X11_19 dX11_count_81 ?_
    obtain ⟨r4, S3, hc, h⟩ := bnd_t h
    refine s_cvi (pc := 84) [] (fun ad => [.ref (ad 2)]) F w (m_X8_running  _ _ _ hc) rfl rfl hl.1 ds_2 vc_X8 rfl ok_X8_running rfl kc_X8_running kl_X11_374 ki_X8_running kv_X8_running kn_X8 ⟨Nat.le_trans (by decide) hR1, Nat.le_trans (by decide) hR2⟩ ⟨Nat.zero_le _, Nat.zero_le _⟩ (Nat.le_of_ble_eq_true rfl) dX11_count_84 (fun H locs w => ?_)
    exact s_iret F w h dX11_count_87
  have h := ite_f qm3 h
  rcases Decidable.em (a1 = (-2 : Int32)) with qm2 | qm2
  · refine lv_tableIn (pc := 1) (tgt := 72) (off := 71) hx hb dX11_count_1 (by rw [qm2]; decide) (by rw [qm2]; decide) (by rw [qm2]; rfl) (by decide) ?_
    have h := ite_t qm2 h
    refine lv_aload_n (pc := 72) hx hb dX11_count_72 rfl (lv_at hl 0 rfl) ?_
    refine s_getR (pc := 73) F w 2 ds_0 (j := 1) vc_X11 vi_X11 rfl (by decide) kf_X11_19 dX11_count_73 ?_
    obtain ⟨r6, S5, hc, h⟩ := bnd_t h
    refine s_cvi (pc := 76) [] (fun ad => [.ref (ad 2)]) F w (m_X8_there  _ _ _ hc) rfl rfl hl.1 ds_2 vc_X8 rfl ok_X8_there rfl kc_X8_there kl_X11_371 ki_X8_there kv_X8_there kn_X8 ⟨Nat.le_trans (by decide) hR1, Nat.le_trans (by decide) hR2⟩ ⟨Nat.zero_le _, Nat.zero_le _⟩ (Nat.le_of_ble_eq_true rfl) dX11_count_76 (fun H locs w => ?_)
    exact s_iret F w h dX11_count_79
  have h := ite_f qm2 h
  rcases Decidable.em (a1 = (-1 : Int32)) with qm1 | qm1
  · refine lv_tableIn (pc := 1) (tgt := 64) (off := 63) hx hb dX11_count_1 (by rw [qm1]; decide) (by rw [qm1]; decide) (by rw [qm1]; rfl) (by decide) ?_
    have h := ite_t qm1 h
    refine lv_aload_n (pc := 64) hx hb dX11_count_64 rfl (lv_at hl 0 rfl) ?_
    refine s_getR (pc := 65) F w 2 ds_0 (j := 1) vc_X11 vi_X11 rfl (by decide) kf_X11_19 dX11_count_65 ?_
    refine s_getI (pc := 68) F w ds_2 (j := 1) vc_X8 vi_X8 rfl (by decide) kf_X11_140 dX11_count_68 ?_
    exact s_iret F w h dX11_count_71
  have h := ite_f qm1 h
  rcases Decidable.em (a1 = (0 : Int32)) with q0 | q0
  · refine lv_tableIn (pc := 1) (tgt := 56) (off := 55) hx hb dX11_count_1 (by rw [q0]; decide) (by rw [q0]; decide) (by rw [q0]; rfl) (by decide) ?_
    have h := ite_t q0 h
    refine lv_aload_n (pc := 56) hx hb dX11_count_56 rfl (lv_at hl 0 rfl) ?_
    refine s_getR (pc := 57) F w 5 ds_0 (j := 4) vc_X11 vi_X11 rfl (by decide) kf_X11_42 dX11_count_57 ?_
    refine s_getI (pc := 60) F w ds_5 (j := 7) vc_X2 vi_X2 rfl (by decide) kf_X11_91 dX11_count_60 ?_
    exact s_iret F w h dX11_count_63
  have h := ite_f q0 h
  refine lv_tableOut (pc := 1) (tgt := 136) hx hb dX11_count_1 (by have zqm9 := i32ne qm9 (show ((-9 : Int32)).toInt = (-9) by decide); have zqm8 := i32ne qm8 (show ((-8 : Int32)).toInt = (-8) by decide); have zqm7 := i32ne qm7 (show ((-7 : Int32)).toInt = (-7) by decide); have zqm6 := i32ne qm6 (show ((-6 : Int32)).toInt = (-6) by decide); have zqm5 := i32ne qm5 (show ((-5 : Int32)).toInt = (-5) by decide); have zqm4 := i32ne qm4 (show ((-4 : Int32)).toInt = (-4) by decide); have zqm3 := i32ne qm3 (show ((-3 : Int32)).toInt = (-3) by decide); have zqm2 := i32ne qm2 (show ((-2 : Int32)).toInt = (-2) by decide); have zqm1 := i32ne qm1 (show ((-1 : Int32)).toInt = (-1) by decide); have zq0 := i32ne q0 (show ((0 : Int32)).toInt = 0 by decide); omega) (by decide) ?_
  refine lv_aload_n (pc := 136) hx hb dX11_count_136 rfl (lv_at hl 0 rfl) ?_
  refine s_getR (pc := 137) F w 1 ds_0 (j := 0) vc_X11 vi_X11 rfl (by decide) kf_X11_10 dX11_count_137 ?_
  refine lv_iload_n (pc := 140) hx hb dX11_count_140 rfl (lv_at hl 1 rfl) ?_
  obtain ⟨r8, S7, hc, h⟩ := bnd_t h
  refine s_cvi (pc := 141) [.int a1] (fun ad => [.ref (ad 1), .int a1]) F w (m_X5_ever _ _ _ _ hc) rfl rfl hl.1 ds_1 vc_X5 rfl ok_X5_ever rfl kc_X5_ever kl_X11_389 ki_X5_ever kv_X5_ever kn_X5 ⟨Nat.le_trans (by decide) hR1, Nat.le_trans (by decide) hR2⟩ ⟨Nat.zero_le _, Nat.zero_le _⟩ (Nat.le_of_ble_eq_true rfl) dX11_count_141 (fun H locs w => ?_)
  exact s_iret F w h dX11_count_144
def f_X12_count_j111 (K88 : Int32 → Int32 → SS → Option (Int32 × SS)) (x3 : Int32) (y0 : Int32) (y1 : Int32) (S : SS) : Option (Int32 × SS) :=
    nm (y1 + y0) (fun z3 =>
    nm (x3 + (1 : Int32)) (fun z4 =>
    K88 z3 z4 S))
def f_X12_count_L88  : Nat → Int32 → Int32 → SS → Option (Int32 × SS)
  | 0, _, _, _ => none
  | n + 1, x2, x3, S =>
    if (S.1 14 29) ≤ x3 then
      some (x2, S)
    else
      grd (inb x3 72) (
      if (S.1 86 x3.toNatClampNeg) = 0 then
        f_X12_count_j111 (fun v0 v1 S => f_X12_count_L88 n v0 v1 S) x3 (0 : Int32) x2 S
      else
        f_X12_count_j111 (fun v0 v1 S => f_X12_count_L88 n v0 v1 S) x3 (1 : Int32) x2 S)
def f_X12_count_j18  (x1 : Int32) (S : SS) : Option (Int32 × SS) :=
    if x1 = (-9 : Int32) then
      some (S.1 14 61, S)
    else
    if x1 = (-8 : Int32) then
      some (S.1 14 60, S)
    else
    if x1 = (-7 : Int32) then
      some (S.1 14 19, S)
    else
    if x1 = (-6 : Int32) then
      some (S.1 14 15, S)
    else
    if x1 = (-5 : Int32) then
      some (S.1 14 49, S)
    else
    if x1 = (-4 : Int32) then
      some (S.1 14 48, S)
    else
    if x1 = (-3 : Int32) then
      bnd (f_X12_running  S) (fun r2 S1 =>
      some (r2, S1))
    else
    if x1 = (-2 : Int32) then
      f_X12_count_L88 NF (0 : Int32) (0 : Int32) S
    else
    if x1 = (-1 : Int32) then
      some (S.1 14 29, S)
    else
    if x1 = (0 : Int32) then
      some (S.1 14 7, S)
    else
    some ((-1 : Int32), S)
def f_X12_count (a1 : Int32) (S : SS) : Option (Int32 × SS) :=
  if a1 < (1 : Int32) then
    f_X12_count_j18 a1 S
  else
    if (17 : Int32) < a1 then
      f_X12_count_j18 a1 S
    else
      grd (inb a1 18) (
      some (S.1 68 a1.toNatClampNeg, S))
theorem dX12_count_0 : decode cX12_count 0 = .ok (.iload_n 1, 1) := by decide +kernel
theorem dX12_count_1 : decode cX12_count 1 = .ok (.iconst 1, 1) := by decide +kernel
theorem dX12_count_2 : decode cX12_count 2 = .ok (.if_icmp .lt 16, 3) := by decide +kernel
theorem dX12_count_5 : decode cX12_count 5 = .ok (.iload_n 1, 1) := by decide +kernel
theorem dX12_count_6 : decode cX12_count 6 = .ok (.bipush 17, 2) := by decide +kernel
theorem dX12_count_8 : decode cX12_count 8 = .ok (.if_icmp .gt 10, 3) := by decide +kernel
theorem dX12_count_11 : decode cX12_count 11 = .ok (.aload_n 0, 1) := by decide +kernel
theorem dX12_count_12 : decode cX12_count 12 = .ok (.getfield 16, 3) := by decide +kernel
theorem dX12_count_15 : decode cX12_count 15 = .ok (.iload_n 1, 1) := by decide +kernel
theorem dX12_count_16 : decode cX12_count 16 = .ok (.iaload, 1) := by decide +kernel
theorem dX12_count_17 : decode cX12_count 17 = .ok (.ireturn, 1) := by decide +kernel
theorem dX12_count_18 : decode cX12_count 18 = .ok (.iconst 0, 1) := by decide +kernel
theorem dX12_count_19 : decode cX12_count 19 = .ok (.istore_n 2, 1) := by decide +kernel
theorem dX12_count_20 : decode cX12_count 20 = .ok (.iload_n 1, 1) := by decide +kernel
theorem dX12_count_21 : decode cX12_count 21 = .ok (.tableswitch 135 (-9) 0 #[130, 125, 120, 115, 110, 105, 100, 65, 60, 55], 55) := by decide +kernel
theorem dX12_count_76 : decode cX12_count 76 = .ok (.aload_n 0, 1) := by decide +kernel
theorem dX12_count_77 : decode cX12_count 77 = .ok (.getfield 214, 3) := by decide +kernel
theorem dX12_count_80 : decode cX12_count 80 = .ok (.ireturn, 1) := by decide +kernel
theorem dX12_count_81 : decode cX12_count 81 = .ok (.aload_n 0, 1) := by decide +kernel
theorem dX12_count_82 : decode cX12_count 82 = .ok (.getfield 269, 3) := by decide +kernel
theorem dX12_count_85 : decode cX12_count 85 = .ok (.ireturn, 1) := by decide +kernel
theorem dX12_count_86 : decode cX12_count 86 = .ok (.iconst 0, 1) := by decide +kernel
theorem dX12_count_87 : decode cX12_count 87 = .ok (.istore_n 3, 1) := by decide +kernel
theorem dX12_count_88 : decode cX12_count 88 = .ok (.iload_n 3, 1) := by decide +kernel
theorem dX12_count_89 : decode cX12_count 89 = .ok (.aload_n 0, 1) := by decide +kernel
theorem dX12_count_90 : decode cX12_count 90 = .ok (.getfield 269, 3) := by decide +kernel
theorem dX12_count_93 : decode cX12_count 93 = .ok (.if_icmp .ge 26, 3) := by decide +kernel
theorem dX12_count_96 : decode cX12_count 96 = .ok (.iload_n 2, 1) := by decide +kernel
theorem dX12_count_97 : decode cX12_count 97 = .ok (.aload_n 0, 1) := by decide +kernel
theorem dX12_count_98 : decode cX12_count 98 = .ok (.getfield 72, 3) := by decide +kernel
theorem dX12_count_101 : decode cX12_count 101 = .ok (.iload_n 3, 1) := by decide +kernel
theorem dX12_count_102 : decode cX12_count 102 = .ok (.baload, 1) := by decide +kernel
theorem dX12_count_103 : decode cX12_count 103 = .ok (.ifCond .eq 7, 3) := by decide +kernel
theorem dX12_count_106 : decode cX12_count 106 = .ok (.iconst 1, 1) := by decide +kernel
theorem dX12_count_107 : decode cX12_count 107 = .ok (.goto 4, 3) := by decide +kernel
theorem dX12_count_110 : decode cX12_count 110 = .ok (.iconst 0, 1) := by decide +kernel
theorem dX12_count_111 : decode cX12_count 111 = .ok (.iadd, 1) := by decide +kernel
theorem dX12_count_112 : decode cX12_count 112 = .ok (.istore_n 2, 1) := by decide +kernel
theorem dX12_count_113 : decode cX12_count 113 = .ok (.iinc 3 1, 3) := by decide +kernel
theorem dX12_count_116 : decode cX12_count 116 = .ok (.goto (-28), 3) := by decide +kernel
theorem dX12_count_119 : decode cX12_count 119 = .ok (.iload_n 2, 1) := by decide +kernel
theorem dX12_count_120 : decode cX12_count 120 = .ok (.ireturn, 1) := by decide +kernel
theorem dX12_count_121 : decode cX12_count 121 = .ok (.aload_n 0, 1) := by decide +kernel
theorem dX12_count_122 : decode cX12_count 122 = .ok (.invokevirtual 432, 3) := by decide +kernel
theorem dX12_count_125 : decode cX12_count 125 = .ok (.ireturn, 1) := by decide +kernel
theorem dX12_count_126 : decode cX12_count 126 = .ok (.aload_n 0, 1) := by decide +kernel
theorem dX12_count_127 : decode cX12_count 127 = .ok (.getfield 334, 3) := by decide +kernel
theorem dX12_count_130 : decode cX12_count 130 = .ok (.ireturn, 1) := by decide +kernel
theorem dX12_count_131 : decode cX12_count 131 = .ok (.aload_n 0, 1) := by decide +kernel
theorem dX12_count_132 : decode cX12_count 132 = .ok (.getfield 272, 3) := by decide +kernel
theorem dX12_count_135 : decode cX12_count 135 = .ok (.ireturn, 1) := by decide +kernel
theorem dX12_count_136 : decode cX12_count 136 = .ok (.aload_n 0, 1) := by decide +kernel
theorem dX12_count_137 : decode cX12_count 137 = .ok (.getfield 217, 3) := by decide +kernel
theorem dX12_count_140 : decode cX12_count 140 = .ok (.ireturn, 1) := by decide +kernel
theorem dX12_count_141 : decode cX12_count 141 = .ok (.aload_n 0, 1) := by decide +kernel
theorem dX12_count_142 : decode cX12_count 142 = .ok (.getfield 220, 3) := by decide +kernel
theorem dX12_count_145 : decode cX12_count 145 = .ok (.ireturn, 1) := by decide +kernel
theorem dX12_count_146 : decode cX12_count 146 = .ok (.aload_n 0, 1) := by decide +kernel
theorem dX12_count_147 : decode cX12_count 147 = .ok (.getfield 328, 3) := by decide +kernel
theorem dX12_count_150 : decode cX12_count 150 = .ok (.ireturn, 1) := by decide +kernel
theorem dX12_count_151 : decode cX12_count 151 = .ok (.aload_n 0, 1) := by decide +kernel
theorem dX12_count_152 : decode cX12_count 152 = .ok (.getfield 331, 3) := by decide +kernel
theorem dX12_count_155 : decode cX12_count 155 = .ok (.ireturn, 1) := by decide +kernel
theorem dX12_count_156 : decode cX12_count 156 = .ok (.iconst (-1), 1) := by decide +kernel
theorem dX12_count_157 : decode cX12_count 157 = .ok (.ireturn, 1) := by decide +kernel
set_option maxRecDepth 100000 in
set_option maxHeartbeats 4000000 in
theorem w_X12_count_j111 {p : Program} {l : Launch} {e : Env} {R : Room} {s : State} {m : MethodId} {args : Array Value} {below : List Frame} {meth : Method} {c : Code} {dC : Nat → ClassId} {dI : Nat → Nat → Nat} {cs : Nat → ClassId} {ad : Nat → Nat} {A : Nat → Prop} {D0 : Nat → Nat} {S' : SS} {r : Int32} (F : Fx p s m args meth c cX12_count 4 RX12 (some .int) dC dI cs A) (hR1 : 0 ≤ R.frames) (hR2 : 0 ≤ R.locals) (K88 : Int32 → Int32 → SS → Option (Int32 × SS)) (hK88 : ∀ (v0 : Int32) (v1 : Int32) (S : SS), K88 v0 v1 S = some (r, S') → AW p l e R s m args below meth c dC dI cs ad A D0 (some (.int r)) S' 4 88 [(0, .ref (ad 14)), (2, .int v0), (3, .int v1)] [] S) (x3 : Int32) (y0 : Int32) (y1 : Int32) (S : SS) (h : f_X12_count_j111 K88 x3 y0 y1 S = some (r, S')) : AW p l e R s m args below meth c dC dI cs ad A D0 (some (.int r)) S' 4 111 [(0, .ref (ad 14)), (3, .int x3)] [.int y0, .int y1] S := by
  have hx := F.1.1
  have hb := F.1.2.1
  intro H locs ls w hl
  rw [f_X12_count_j111] at h
  refine lv_iadd (pc := 111) hx hb dX12_count_111 ?_
  refine s_nm h (fun z3 ez3 h => ?_)
  rw [← ez3]
  refine lv_istore_n (pc := 112) (lv' := [(2, .int z3), (0, .ref (ad 14)), (3, .int x3)]) hx hb dX12_count_112 rfl hl (by decide) rfl (fun ls hl => ?_)
  refine s_nm h (fun z4 ez4 h => ?_)
  refine lv_iinc (pc := 113) (v := z4) (lv' := [(3, .int z4), (2, .int z3), (0, .ref (ad 14))]) hx hb dX12_count_113 hl (k := 2) rfl (by rw [ez4]; rfl) (by decide) rfl (fun ls hl => ?_)
  refine lv_goto (pc := 116) (tgt := 88) hx hb dX12_count_116 (by decide) ?_
  exact hK88 _ _ _ h _ _ _ w (lv_sub hl [2, 1, 0] rfl)
set_option maxRecDepth 100000 in
set_option maxHeartbeats 4000000 in
theorem w_X12_count_L88 {p : Program} {l : Launch} {e : Env} {R : Room} {s : State} {m : MethodId} {args : Array Value} {below : List Frame} {meth : Method} {c : Code} {dC : Nat → ClassId} {dI : Nat → Nat → Nat} {cs : Nat → ClassId} {ad : Nat → Nat} {A : Nat → Prop} {D0 : Nat → Nat} {S' : SS} {r : Int32} (F : Fx p s m args meth c cX12_count 4 RX12 (some .int) dC dI cs A) (hR1 : 0 ≤ R.frames) (hR2 : 0 ≤ R.locals) : ∀ (n : Nat) (x2 : Int32) (x3 : Int32) (S : SS), f_X12_count_L88 n x2 x3 S = some (r, S') → AW p l e R s m args below meth c dC dI cs ad A D0 (some (.int r)) S' 4 88 [(0, .ref (ad 14)), (2, .int x2), (3, .int x3)] [] S := by
  have hx := F.1.1
  have hb := F.1.2.1
  intro n
  induction n with
  | zero => intro x2 x3 S h; cases h
  | succ n ih =>
    intro x2 x3 S h H locs ls w hl
    rw [f_X12_count_L88] at h
    refine lv_iload_n (pc := 88) hx hb dX12_count_88 rfl (lv_at hl 2 rfl) ?_
    refine lv_aload_n (pc := 89) hx hb dX12_count_89 rfl (lv_at hl 0 rfl) ?_
    refine s_getI (pc := 90) F w ds_14 (j := 29) vc_X12 vi_X12 rfl (by decide) kf_X12_269 dX12_count_90 ?_
    refine lv_icmp_ge (pc := 93) (tgt := 119) hx hb dX12_count_93 (by decide) (fun q => ?_) (fun q => ?_)
    · have h := ite_t q h
      refine lv_iload_n (pc := 119) hx hb dX12_count_119 rfl (lv_at hl 1 rfl) ?_
      exact s_iret F w h dX12_count_120
    · have h := ite_f q h
      refine lv_iload_n (pc := 96) hx hb dX12_count_96 rfl (lv_at hl 1 rfl) ?_
      refine lv_aload_n (pc := 97) hx hb dX12_count_97 rfl (lv_at hl 0 rfl) ?_
      refine s_getR (pc := 98) F w 86 ds_14 (j := 31) vc_X12 vi_X12 rfl (by decide) kf_X12_72 dX12_count_98 ?_
      refine lv_iload_n (pc := 101) hx hb dX12_count_101 rfl (lv_at hl 2 rfl) ?_
      refine s_zald (pc := 102) F w ds_86 h dX12_count_102 (fun h => ?_)
      refine lv_if_eq (pc := 103) (tgt := 110) hx hb dX12_count_103 (by decide) (fun q => ?_) (fun q => ?_)
      · have h := ite_t q h
        refine lv_iconst (pc := 110) (v := 0) hx hb dX12_count_110 (by decide) ?_
        exact w_X12_count_j111 F (Nat.le_trans (by decide) hR1) (Nat.le_trans (by decide) hR2) _ (fun v0 v1 S h => ih v0 v1 S h) _ _ _ _ h _ _ _ w (lv_sub hl [0, 2] rfl)
      · have h := ite_f q h
        refine lv_iconst (pc := 106) (v := 1) hx hb dX12_count_106 (by decide) ?_
        refine lv_goto (pc := 107) (tgt := 111) hx hb dX12_count_107 (by decide) ?_
        exact w_X12_count_j111 F (Nat.le_trans (by decide) hR1) (Nat.le_trans (by decide) hR2) _ (fun v0 v1 S h => ih v0 v1 S h) _ _ _ _ h _ _ _ w (lv_sub hl [0, 2] rfl)
set_option maxRecDepth 100000 in
set_option maxHeartbeats 4000000 in
theorem w_X12_count_j18 {p : Program} {l : Launch} {e : Env} {R : Room} {s : State} {m : MethodId} {args : Array Value} {below : List Frame} {meth : Method} {c : Code} {dC : Nat → ClassId} {dI : Nat → Nat → Nat} {cs : Nat → ClassId} {ad : Nat → Nat} {A : Nat → Prop} {D0 : Nat → Nat} {S' : SS} {r : Int32} (F : Fx p s m args meth c cX12_count 4 RX12 (some .int) dC dI cs A) (hR1 : 1 ≤ R.frames) (hR2 : 22 ≤ R.locals) (x1 : Int32) (S : SS) (h : f_X12_count_j18 x1 S = some (r, S')) : AW p l e R s m args below meth c dC dI cs ad A D0 (some (.int r)) S' 4 18 [(0, .ref (ad 14)), (1, .int x1)] [] S := by
  have hx := F.1.1
  have hb := F.1.2.1
  intro H locs ls w hl
  rw [f_X12_count_j18] at h
  refine lv_iconst (pc := 18) (v := 0) hx hb dX12_count_18 (by decide) ?_
  refine lv_istore_n (pc := 19) (lv' := [(2, .int (0 : Int32)), (0, .ref (ad 14)), (1, .int x1)]) hx hb dX12_count_19 rfl hl (by decide) rfl (fun ls hl => ?_)
  refine lv_iload_n (pc := 20) hx hb dX12_count_20 rfl (lv_at hl 2 rfl) ?_
  rcases Decidable.em (x1 = (-9 : Int32)) with qm9 | qm9
  · refine lv_tableIn (pc := 21) (tgt := 151) (off := 130) hx hb dX12_count_21 (by rw [qm9]; decide) (by rw [qm9]; decide) (by rw [qm9]; rfl) (by decide) ?_
    have h := ite_t qm9 h
    refine lv_aload_n (pc := 151) hx hb dX12_count_151 rfl (lv_at hl 1 rfl) ?_
    refine s_getI (pc := 152) F w ds_14 (j := 61) vc_X12 vi_X12 rfl (by decide) kf_X12_331 dX12_count_152 ?_
    exact s_iret F w h dX12_count_155
  have h := ite_f qm9 h
  rcases Decidable.em (x1 = (-8 : Int32)) with qm8 | qm8
  · refine lv_tableIn (pc := 21) (tgt := 146) (off := 125) hx hb dX12_count_21 (by rw [qm8]; decide) (by rw [qm8]; decide) (by rw [qm8]; rfl) (by decide) ?_
    have h := ite_t qm8 h
    refine lv_aload_n (pc := 146) hx hb dX12_count_146 rfl (lv_at hl 1 rfl) ?_
    refine s_getI (pc := 147) F w ds_14 (j := 60) vc_X12 vi_X12 rfl (by decide) kf_X12_328 dX12_count_147 ?_
    exact s_iret F w h dX12_count_150
  have h := ite_f qm8 h
  rcases Decidable.em (x1 = (-7 : Int32)) with qm7 | qm7
  · refine lv_tableIn (pc := 21) (tgt := 141) (off := 120) hx hb dX12_count_21 (by rw [qm7]; decide) (by rw [qm7]; decide) (by rw [qm7]; rfl) (by decide) ?_
    have h := ite_t qm7 h
    refine lv_aload_n (pc := 141) hx hb dX12_count_141 rfl (lv_at hl 1 rfl) ?_
    refine s_getI (pc := 142) F w ds_14 (j := 19) vc_X12 vi_X12 rfl (by decide) kf_X12_220 dX12_count_142 ?_
    exact s_iret F w h dX12_count_145
  have h := ite_f qm7 h
  rcases Decidable.em (x1 = (-6 : Int32)) with qm6 | qm6
  · refine lv_tableIn (pc := 21) (tgt := 136) (off := 115) hx hb dX12_count_21 (by rw [qm6]; decide) (by rw [qm6]; decide) (by rw [qm6]; rfl) (by decide) ?_
    have h := ite_t qm6 h
    refine lv_aload_n (pc := 136) hx hb dX12_count_136 rfl (lv_at hl 1 rfl) ?_
    refine s_getI (pc := 137) F w ds_14 (j := 15) vc_X12 vi_X12 rfl (by decide) kf_X12_217 dX12_count_137 ?_
    exact s_iret F w h dX12_count_140
  have h := ite_f qm6 h
  rcases Decidable.em (x1 = (-5 : Int32)) with qm5 | qm5
  · refine lv_tableIn (pc := 21) (tgt := 131) (off := 110) hx hb dX12_count_21 (by rw [qm5]; decide) (by rw [qm5]; decide) (by rw [qm5]; rfl) (by decide) ?_
    have h := ite_t qm5 h
    refine lv_aload_n (pc := 131) hx hb dX12_count_131 rfl (lv_at hl 1 rfl) ?_
    refine s_getI (pc := 132) F w ds_14 (j := 49) vc_X12 vi_X12 rfl (by decide) kf_X12_272 dX12_count_132 ?_
    exact s_iret F w h dX12_count_135
  have h := ite_f qm5 h
  rcases Decidable.em (x1 = (-4 : Int32)) with qm4 | qm4
  · refine lv_tableIn (pc := 21) (tgt := 126) (off := 105) hx hb dX12_count_21 (by rw [qm4]; decide) (by rw [qm4]; decide) (by rw [qm4]; rfl) (by decide) ?_
    have h := ite_t qm4 h
    refine lv_aload_n (pc := 126) hx hb dX12_count_126 rfl (lv_at hl 1 rfl) ?_
    refine s_getI (pc := 127) F w ds_14 (j := 48) vc_X12 vi_X12 rfl (by decide) kf_X12_334 dX12_count_127 ?_
    exact s_iret F w h dX12_count_130
  have h := ite_f qm4 h
  rcases Decidable.em (x1 = (-3 : Int32)) with qm3 | qm3
  · refine lv_tableIn (pc := 21) (tgt := 121) (off := 100) hx hb dX12_count_21 (by rw [qm3]; decide) (by rw [qm3]; decide) (by rw [qm3]; rfl) (by decide) ?_
    have h := ite_t qm3 h
    refine lv_aload_n (pc := 121) hx hb dX12_count_121 rfl (lv_at hl 1 rfl) ?_
    obtain ⟨r2, S1, hc, h⟩ := bnd_t h
    refine s_cvi (pc := 122) [] (fun ad => [.ref (ad 14)]) F w (m_X12_running  _ _ _ hc) rfl rfl hl.1 ds_14 vc_X12 rfl ok_X12_running rfl kc_X12_running kl_X12_432 ki_X12_running kv_X12_running kn_X12 ⟨Nat.le_trans (by decide) hR1, Nat.le_trans (by decide) hR2⟩ ⟨Nat.zero_le _, Nat.zero_le _⟩ (Nat.le_of_ble_eq_true rfl) dX12_count_122 (fun H locs w => ?_)
    exact s_iret F w h dX12_count_125
  have h := ite_f qm3 h
  rcases Decidable.em (x1 = (-2 : Int32)) with qm2 | qm2
  · refine lv_tableIn (pc := 21) (tgt := 86) (off := 65) hx hb dX12_count_21 (by rw [qm2]; decide) (by rw [qm2]; decide) (by rw [qm2]; rfl) (by decide) ?_
    have h := ite_t qm2 h
    refine lv_iconst (pc := 86) (v := 0) hx hb dX12_count_86 (by decide) ?_
    refine lv_istore_n (pc := 87) (lv' := [(3, .int (0 : Int32)), (2, .int (0 : Int32)), (0, .ref (ad 14)), (1, .int x1)]) hx hb dX12_count_87 rfl hl (by decide) rfl (fun ls hl => ?_)
    exact w_X12_count_L88 F (Nat.le_trans (by decide) hR1) (Nat.le_trans (by decide) hR2) _ _ _ _ h _ _ _ w (lv_sub hl [2, 1, 0] rfl)
  have h := ite_f qm2 h
  rcases Decidable.em (x1 = (-1 : Int32)) with qm1 | qm1
  · refine lv_tableIn (pc := 21) (tgt := 81) (off := 60) hx hb dX12_count_21 (by rw [qm1]; decide) (by rw [qm1]; decide) (by rw [qm1]; rfl) (by decide) ?_
    have h := ite_t qm1 h
    refine lv_aload_n (pc := 81) hx hb dX12_count_81 rfl (lv_at hl 1 rfl) ?_
    refine s_getI (pc := 82) F w ds_14 (j := 29) vc_X12 vi_X12 rfl (by decide) kf_X12_269 dX12_count_82 ?_
    exact s_iret F w h dX12_count_85
  have h := ite_f qm1 h
  rcases Decidable.em (x1 = (0 : Int32)) with q0 | q0
  · refine lv_tableIn (pc := 21) (tgt := 76) (off := 55) hx hb dX12_count_21 (by rw [q0]; decide) (by rw [q0]; decide) (by rw [q0]; rfl) (by decide) ?_
    have h := ite_t q0 h
    refine lv_aload_n (pc := 76) hx hb dX12_count_76 rfl (lv_at hl 1 rfl) ?_
    refine s_getI (pc := 77) F w ds_14 (j := 7) vc_X12 vi_X12 rfl (by decide) kf_X12_214 dX12_count_77 ?_
    exact s_iret F w h dX12_count_80
  have h := ite_f q0 h
  refine lv_tableOut (pc := 21) (tgt := 156) hx hb dX12_count_21 (by have zqm9 := i32ne qm9 (show ((-9 : Int32)).toInt = (-9) by decide); have zqm8 := i32ne qm8 (show ((-8 : Int32)).toInt = (-8) by decide); have zqm7 := i32ne qm7 (show ((-7 : Int32)).toInt = (-7) by decide); have zqm6 := i32ne qm6 (show ((-6 : Int32)).toInt = (-6) by decide); have zqm5 := i32ne qm5 (show ((-5 : Int32)).toInt = (-5) by decide); have zqm4 := i32ne qm4 (show ((-4 : Int32)).toInt = (-4) by decide); have zqm3 := i32ne qm3 (show ((-3 : Int32)).toInt = (-3) by decide); have zqm2 := i32ne qm2 (show ((-2 : Int32)).toInt = (-2) by decide); have zqm1 := i32ne qm1 (show ((-1 : Int32)).toInt = (-1) by decide); have zq0 := i32ne q0 (show ((0 : Int32)).toInt = 0 by decide); omega) (by decide) ?_
  refine lv_iconst (pc := 156) (v := -1) hx hb dX12_count_156 (by decide) ?_
  exact s_iret F w h dX12_count_157
set_option maxRecDepth 100000 in
set_option maxHeartbeats 4000000 in
theorem m_X12_count (a1 : Int32) (S S' : SS) (r : Int32) (h : f_X12_count a1 S = some (r, S')) : MT yX12_count cX12_count 4 (some .int) 1 22 (fun ad => [.ref (ad 14), .int a1]) S (some (.int r)) S' := by
  refine MT.of RX12 (fun ad => [(0, .ref (ad 14)), (1, .int a1)]) (by decide) rfl (fun _ => Nat.le_of_ble_eq_true rfl) (fun _ => rfl) ?_
  intro p l e R s m args below meth c dC dI cs ad A hR1 hR2 F H locs ls w hl
  have hx := F.1.1
  have hb := F.1.2.1
  rw [f_X12_count] at h
  refine lv_iload_n (pc := 0) hx hb dX12_count_0 rfl (lv_at hl 1 rfl) ?_
  refine lv_iconst (pc := 1) (v := 1) hx hb dX12_count_1 (by decide) ?_
  refine lv_icmp_lt (pc := 2) (tgt := 18) hx hb dX12_count_2 (by decide) (fun q => ?_) (fun q => ?_)
  · have h := ite_t q h
    exact w_X12_count_j18 F (Nat.le_trans (by decide) hR1) (Nat.le_trans (by decide) hR2) _ _ h _ _ _ w (lv_sub hl [0, 1] rfl)
  · have h := ite_f q h
    refine lv_iload_n (pc := 5) hx hb dX12_count_5 rfl (lv_at hl 1 rfl) ?_
    refine lv_bipush (pc := 6) (v := 17) hx hb dX12_count_6 (by decide) ?_
    refine lv_icmp_gt (pc := 8) (tgt := 18) hx hb dX12_count_8 (by decide) (fun q => ?_) (fun q => ?_)
    · have h := ite_t q h
      exact w_X12_count_j18 F (Nat.le_trans (by decide) hR1) (Nat.le_trans (by decide) hR2) _ _ h _ _ _ w (lv_sub hl [0, 1] rfl)
    · have h := ite_f q h
      refine lv_aload_n (pc := 11) hx hb dX12_count_11 rfl (lv_at hl 0 rfl) ?_
      refine s_getR (pc := 12) F w 68 ds_14 (j := 4) vc_X12 vi_X12 rfl (by decide) kf_X12_16 dX12_count_12 ?_
      refine lv_iload_n (pc := 15) hx hb dX12_count_15 rfl (lv_at hl 1 rfl) ?_
      refine s_iald (pc := 16) F w ds_68 h dX12_count_16 (fun h => ?_)
      exact s_iret F w h dX12_count_17
def f_X5_bodyAt (a1 : Int32) (S : SS) : Option (Int32 × SS) :=
  if a1 < 0 then
    some ((-4 : Int32), S)
  else
    if (S.1 1 2) ≤ a1 then
      some ((-4 : Int32), S)
    else
      if a1 < (200 : Int32) then
        grd (inb a1 200) (
        some (S.1 18 a1.toNatClampNeg, S))
      else
        some ((-4 : Int32), S)
theorem dX5_bodyAt_0 : decode cX5_bodyAt 0 = .ok (.iload_n 1, 1) := by decide +kernel
theorem dX5_bodyAt_1 : decode cX5_bodyAt 1 = .ok (.ifCond .lt 18, 3) := by decide +kernel
theorem dX5_bodyAt_4 : decode cX5_bodyAt 4 = .ok (.iload_n 1, 1) := by decide +kernel
theorem dX5_bodyAt_5 : decode cX5_bodyAt 5 = .ok (.aload_n 0, 1) := by decide +kernel
theorem dX5_bodyAt_6 : decode cX5_bodyAt 6 = .ok (.getfield 18, 3) := by decide +kernel
theorem dX5_bodyAt_9 : decode cX5_bodyAt 9 = .ok (.if_icmp .ge 10, 3) := by decide +kernel
theorem dX5_bodyAt_12 : decode cX5_bodyAt 12 = .ok (.iload_n 1, 1) := by decide +kernel
theorem dX5_bodyAt_13 : decode cX5_bodyAt 13 = .ok (.sipush 200, 3) := by decide +kernel
theorem dX5_bodyAt_16 : decode cX5_bodyAt 16 = .ok (.if_icmp .lt 8, 3) := by decide +kernel
theorem dX5_bodyAt_19 : decode cX5_bodyAt 19 = .ok (.bipush (-4), 2) := by decide +kernel
theorem dX5_bodyAt_21 : decode cX5_bodyAt 21 = .ok (.goto 9, 3) := by decide +kernel
theorem dX5_bodyAt_24 : decode cX5_bodyAt 24 = .ok (.aload_n 0, 1) := by decide +kernel
theorem dX5_bodyAt_25 : decode cX5_bodyAt 25 = .ok (.getfield 15, 3) := by decide +kernel
theorem dX5_bodyAt_28 : decode cX5_bodyAt 28 = .ok (.iload_n 1, 1) := by decide +kernel
theorem dX5_bodyAt_29 : decode cX5_bodyAt 29 = .ok (.iaload, 1) := by decide +kernel
theorem dX5_bodyAt_30 : decode cX5_bodyAt 30 = .ok (.ireturn, 1) := by decide +kernel
set_option maxRecDepth 100000 in
set_option maxHeartbeats 4000000 in
theorem m_X5_bodyAt (a1 : Int32) (S S' : SS) (r : Int32) (h : f_X5_bodyAt a1 S = some (r, S')) : MT yX5_bodyAt cX5_bodyAt 2 (some .int) 0 0 (fun ad => [.ref (ad 1), .int a1]) S (some (.int r)) S' := by
  refine MT.of RX5 (fun ad => [(0, .ref (ad 1)), (1, .int a1)]) (by decide) rfl (fun _ => Nat.le_of_ble_eq_true rfl) (fun _ => rfl) ?_
  intro p l e R s m args below meth c dC dI cs ad A hR1 hR2 F H locs ls w hl
  have hx := F.1.1
  have hb := F.1.2.1
  rw [f_X5_bodyAt] at h
  refine lv_iload_n (pc := 0) hx hb dX5_bodyAt_0 rfl (lv_at hl 1 rfl) ?_
  refine lv_if_lt (pc := 1) (tgt := 19) hx hb dX5_bodyAt_1 (by decide) (fun q => ?_) (fun q => ?_)
  · have h := ite_t q h
    refine lv_bipush (pc := 19) (v := -4) hx hb dX5_bodyAt_19 (by decide) ?_
    refine lv_goto (pc := 21) (tgt := 30) hx hb dX5_bodyAt_21 (by decide) ?_
    exact s_iret F w h dX5_bodyAt_30
  · have h := ite_f q h
    refine lv_iload_n (pc := 4) hx hb dX5_bodyAt_4 rfl (lv_at hl 1 rfl) ?_
    refine lv_aload_n (pc := 5) hx hb dX5_bodyAt_5 rfl (lv_at hl 0 rfl) ?_
    refine s_getI (pc := 6) F w ds_1 (j := 2) vc_X5 vi_X5 rfl (by decide) kf_X5_18 dX5_bodyAt_6 ?_
    refine lv_icmp_ge (pc := 9) (tgt := 19) hx hb dX5_bodyAt_9 (by decide) (fun q => ?_) (fun q => ?_)
    · have h := ite_t q h
      refine lv_bipush (pc := 19) (v := -4) hx hb dX5_bodyAt_19 (by decide) ?_
      refine lv_goto (pc := 21) (tgt := 30) hx hb dX5_bodyAt_21 (by decide) ?_
      exact s_iret F w h dX5_bodyAt_30
    · have h := ite_f q h
      refine lv_iload_n (pc := 12) hx hb dX5_bodyAt_12 rfl (lv_at hl 1 rfl) ?_
      refine lv_sipush (pc := 13) (v := 200) hx hb dX5_bodyAt_13 (by decide) ?_
      refine lv_icmp_lt (pc := 16) (tgt := 24) hx hb dX5_bodyAt_16 (by decide) (fun q => ?_) (fun q => ?_)
      · have h := ite_t q h
        refine lv_aload_n (pc := 24) hx hb dX5_bodyAt_24 rfl (lv_at hl 0 rfl) ?_
        refine s_getR (pc := 25) F w 18 ds_1 (j := 1) vc_X5 vi_X5 rfl (by decide) kf_X5_15 dX5_bodyAt_25 ?_
        refine lv_iload_n (pc := 28) hx hb dX5_bodyAt_28 rfl (lv_at hl 1 rfl) ?_
        refine s_iald (pc := 29) F w ds_18 h dX5_bodyAt_29 (fun h => ?_)
        exact s_iret F w h dX5_bodyAt_30
      · have h := ite_f q h
        refine lv_bipush (pc := 19) (v := -4) hx hb dX5_bodyAt_19 (by decide) ?_
        refine lv_goto (pc := 21) (tgt := 30) hx hb dX5_bodyAt_21 (by decide) ?_
        exact s_iret F w h dX5_bodyAt_30
def f_X11_trace (a1 : Int32) (S : SS) : Option (Int32 × SS) :=
  if 0 ≤ a1 then
    bnd (f_X5_bodyAt a1 S) (fun r2 S1 =>
    some (r2, S1))
  else
    some ((-1 : Int32), S)
theorem dX11_trace_0 : decode cX11_trace 0 = .ok (.iload_n 1, 1) := by decide +kernel
theorem dX11_trace_1 : decode cX11_trace 1 = .ok (.ifCond .ge 7, 3) := by decide +kernel
theorem dX11_trace_4 : decode cX11_trace 4 = .ok (.iconst (-1), 1) := by decide +kernel
theorem dX11_trace_5 : decode cX11_trace 5 = .ok (.goto 11, 3) := by decide +kernel
theorem dX11_trace_8 : decode cX11_trace 8 = .ok (.aload_n 0, 1) := by decide +kernel
theorem dX11_trace_9 : decode cX11_trace 9 = .ok (.getfield 10, 3) := by decide +kernel
theorem dX11_trace_12 : decode cX11_trace 12 = .ok (.iload_n 1, 1) := by decide +kernel
theorem dX11_trace_13 : decode cX11_trace 13 = .ok (.invokevirtual 392, 3) := by decide +kernel
theorem dX11_trace_16 : decode cX11_trace 16 = .ok (.ireturn, 1) := by decide +kernel
set_option maxRecDepth 100000 in
set_option maxHeartbeats 4000000 in
theorem m_X11_trace (a1 : Int32) (S S' : SS) (r : Int32) (h : f_X11_trace a1 S = some (r, S')) : MT yX11_trace cX11_trace 2 (some .int) 1 21 (fun ad => [.ref (ad 0), .int a1]) S (some (.int r)) S' := by
  refine MT.of RX11 (fun ad => [(0, .ref (ad 0)), (1, .int a1)]) (by decide) rfl (fun _ => Nat.le_of_ble_eq_true rfl) (fun _ => rfl) ?_
  intro p l e R s m args below meth c dC dI cs ad A hR1 hR2 F H locs ls w hl
  have hx := F.1.1
  have hb := F.1.2.1
  rw [f_X11_trace] at h
  refine lv_iload_n (pc := 0) hx hb dX11_trace_0 rfl (lv_at hl 1 rfl) ?_
  refine lv_if_ge (pc := 1) (tgt := 8) hx hb dX11_trace_1 (by decide) (fun q => ?_) (fun q => ?_)
  · have h := ite_t q h
    refine lv_aload_n (pc := 8) hx hb dX11_trace_8 rfl (lv_at hl 0 rfl) ?_
    refine s_getR (pc := 9) F w 1 ds_0 (j := 0) vc_X11 vi_X11 rfl (by decide) kf_X11_10 dX11_trace_9 ?_
    refine lv_iload_n (pc := 12) hx hb dX11_trace_12 rfl (lv_at hl 1 rfl) ?_
    obtain ⟨r2, S1, hc, h⟩ := bnd_t h
    refine s_cvi (pc := 13) [.int a1] (fun ad => [.ref (ad 1), .int a1]) F w (m_X5_bodyAt _ _ _ _ hc) rfl rfl hl.1 ds_1 vc_X5 rfl ok_X5_bodyAt rfl kc_X5_bodyAt kl_X11_392 ki_X5_bodyAt kv_X5_bodyAt kn_X5 ⟨Nat.le_trans (by decide) hR1, Nat.le_trans (by decide) hR2⟩ ⟨Nat.zero_le _, Nat.zero_le _⟩ (Nat.le_of_ble_eq_true rfl) dX11_trace_13 (fun H locs w => ?_)
    exact s_iret F w h dX11_trace_16
  · have h := ite_f q h
    refine lv_iconst (pc := 4) (v := -1) hx hb dX11_trace_4 (by decide) ?_
    refine lv_goto (pc := 5) (tgt := 16) hx hb dX11_trace_5 (by decide) ?_
    exact s_iret F w h dX11_trace_16
def f_X12_trace (a1 : Int32) (S : SS) : Option (Int32 × SS) :=
  if 0 ≤ a1 then
    if (S.1 14 5) ≤ a1 then
      some ((-4 : Int32), S)
    else
      grd (inb a1 200) (
      some (S.1 69 a1.toNatClampNeg, S))
  else
    some ((-1 : Int32), S)
theorem dX12_trace_0 : decode cX12_trace 0 = .ok (.iload_n 1, 1) := by decide +kernel
theorem dX12_trace_1 : decode cX12_trace 1 = .ok (.ifCond .ge 7, 3) := by decide +kernel
theorem dX12_trace_4 : decode cX12_trace 4 = .ok (.iconst (-1), 1) := by decide +kernel
theorem dX12_trace_5 : decode cX12_trace 5 = .ok (.goto 22, 3) := by decide +kernel
theorem dX12_trace_8 : decode cX12_trace 8 = .ok (.iload_n 1, 1) := by decide +kernel
theorem dX12_trace_9 : decode cX12_trace 9 = .ok (.aload_n 0, 1) := by decide +kernel
theorem dX12_trace_10 : decode cX12_trace 10 = .ok (.getfield 207, 3) := by decide +kernel
theorem dX12_trace_13 : decode cX12_trace 13 = .ok (.if_icmp .ge 12, 3) := by decide +kernel
theorem dX12_trace_16 : decode cX12_trace 16 = .ok (.aload_n 0, 1) := by decide +kernel
theorem dX12_trace_17 : decode cX12_trace 17 = .ok (.getfield 20, 3) := by decide +kernel
theorem dX12_trace_20 : decode cX12_trace 20 = .ok (.iload_n 1, 1) := by decide +kernel
theorem dX12_trace_21 : decode cX12_trace 21 = .ok (.iaload, 1) := by decide +kernel
theorem dX12_trace_22 : decode cX12_trace 22 = .ok (.goto 5, 3) := by decide +kernel
theorem dX12_trace_25 : decode cX12_trace 25 = .ok (.bipush (-4), 2) := by decide +kernel
theorem dX12_trace_27 : decode cX12_trace 27 = .ok (.ireturn, 1) := by decide +kernel
set_option maxRecDepth 100000 in
set_option maxHeartbeats 4000000 in
theorem m_X12_trace (a1 : Int32) (S S' : SS) (r : Int32) (h : f_X12_trace a1 S = some (r, S')) : MT yX12_trace cX12_trace 2 (some .int) 0 0 (fun ad => [.ref (ad 14), .int a1]) S (some (.int r)) S' := by
  refine MT.of RX12 (fun ad => [(0, .ref (ad 14)), (1, .int a1)]) (by decide) rfl (fun _ => Nat.le_of_ble_eq_true rfl) (fun _ => rfl) ?_
  intro p l e R s m args below meth c dC dI cs ad A hR1 hR2 F H locs ls w hl
  have hx := F.1.1
  have hb := F.1.2.1
  rw [f_X12_trace] at h
  refine lv_iload_n (pc := 0) hx hb dX12_trace_0 rfl (lv_at hl 1 rfl) ?_
  refine lv_if_ge (pc := 1) (tgt := 8) hx hb dX12_trace_1 (by decide) (fun q => ?_) (fun q => ?_)
  · have h := ite_t q h
    refine lv_iload_n (pc := 8) hx hb dX12_trace_8 rfl (lv_at hl 1 rfl) ?_
    refine lv_aload_n (pc := 9) hx hb dX12_trace_9 rfl (lv_at hl 0 rfl) ?_
    refine s_getI (pc := 10) F w ds_14 (j := 5) vc_X12 vi_X12 rfl (by decide) kf_X12_207 dX12_trace_10 ?_
    refine lv_icmp_ge (pc := 13) (tgt := 25) hx hb dX12_trace_13 (by decide) (fun q => ?_) (fun q => ?_)
    · have h := ite_t q h
      refine lv_bipush (pc := 25) (v := -4) hx hb dX12_trace_25 (by decide) ?_
      exact s_iret F w h dX12_trace_27
    · have h := ite_f q h
      refine lv_aload_n (pc := 16) hx hb dX12_trace_16 rfl (lv_at hl 0 rfl) ?_
      refine s_getR (pc := 17) F w 69 ds_14 (j := 6) vc_X12 vi_X12 rfl (by decide) kf_X12_20 dX12_trace_17 ?_
      refine lv_iload_n (pc := 20) hx hb dX12_trace_20 rfl (lv_at hl 1 rfl) ?_
      refine s_iald (pc := 21) F w ds_69 h dX12_trace_21 (fun h => ?_)
      refine lv_goto (pc := 22) (tgt := 27) hx hb dX12_trace_22 (by decide) ?_
      exact s_iret F w h dX12_trace_27
  · have h := ite_f q h
    refine lv_iconst (pc := 4) (v := -1) hx hb dX12_trace_4 (by decide) ?_
    refine lv_goto (pc := 5) (tgt := 27) hx hb dX12_trace_5 (by decide) ?_
    exact s_iret F w h dX12_trace_27
