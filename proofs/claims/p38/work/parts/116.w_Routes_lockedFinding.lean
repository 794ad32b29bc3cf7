/-! ===== printed by wip/gen: Routes_lockedFinding Routes_entryFinding Layout_pointFinding Yard_via Stock_get Stock_isAs State_isThere Yard_named Stock_putPiece Stock_newLoad Yard_load Stock_setPiece Stock_pieceFinding Yard_piece History_border State_usedCells History_keep Yard_beginAct Yard_change Math_min_7cf53 History_write Yard_endAct ===== -/
def f_Routes_lockedFinding (a1 : Int32) (S : SS) : Option (Int32 × SS) :=
  wr S 62 6 a1 (fun S1 =>
  some ((11 : Int32), S1))
theorem dX6_lockedFinding_0 : decode cX6_lockedFinding 0 = .ok (.aload_n 0, 1) := dc_42 (by decide +kernel)
theorem dX6_lockedFinding_1 : decode cX6_lockedFinding 1 = .ok (.getfield 39, 3) := dc_180 (a := 0) (b := 39) (by decide +kernel)
theorem dX6_lockedFinding_4 : decode cX6_lockedFinding 4 = .ok (.iload_n 1, 1) := dc_27 (by decide +kernel)
theorem dX6_lockedFinding_5 : decode cX6_lockedFinding 5 = .ok (.putfield 63, 3) := dc_181 (a := 0) (b := 63) (by decide +kernel)
theorem dX6_lockedFinding_8 : decode cX6_lockedFinding 8 = .ok (.bipush 11, 2) := dc_16 (a := 11) (by decide +kernel) (by decide)
theorem dX6_lockedFinding_10 : decode cX6_lockedFinding 10 = .ok (.ireturn, 1) := dc_172 (by decide +kernel)
set_option maxRecDepth 100000 in
set_option maxHeartbeats 4000000 in
theorem m_Routes_lockedFinding (a1 : Int32) (S S' : SS) (r : Int32) (h : f_Routes_lockedFinding a1 S = some (r, S')) : MT yX6_lockedFinding cX6_lockedFinding 2 (some .int) 0 0 (fun ad => [.ref (ad 67), .int a1]) S (some (.int r)) S' := by
  refine MT.of RX6 (fun ad => [(0, .ref (ad 67)), (1, .int a1)]) (by decide) rfl (fun _ => Nat.le_of_ble_eq_true rfl) (fun _ => rfl) ?_
  intro p l e R s m args below meth c dC dI cs ad A hR1 hR2 F H locs ls w hl
  have hx := F.1.1
  have hb := F.1.2.1
  rw [f_Routes_lockedFinding] at h
  refine lv_aload_n (pc := 0) hx hb dX6_lockedFinding_0 rfl (lv_at hl 0 rfl) ?_
  refine s_getR (pc := 1) F w 62 ds_67 (j := 2) vc_X6 vi_X6 rfl (by decide) kf_X6_39 dX6_lockedFinding_1 ?_
  refine lv_iload_n (pc := 4) hx hb dX6_lockedFinding_4 rfl (lv_at hl 1 rfl) ?_
  refine s_putI (pc := 5) F w ds_62 vc_X5 vi_X5 tyX5_ok nmX5 (j := 6) rfl (by decide) kf_X6_63 rfl pd_I h dX6_lockedFinding_5 (fun S1 H locs h w => ?_)
  refine lv_bipush (pc := 8) (v := 11) hx hb dX6_lockedFinding_8 (by decide) ?_
  exact s_iret F w h dX6_lockedFinding_10
def f_Routes_entryFinding_L15  : Nat → Int32 → Int32 → Int32 → Int32 → Int32 → SS → Option (Int32 × SS)
  | 0, _, _, _, _, _, _ => none
  | n + 1, x1, x2, x3, x4, x5, S =>
    if (x3 + x4) ≤ x5 then
      if x4 < (8 : Int32) then
        bnd (f_Routes_lockedBy x1 S) (fun r5 S4 =>
        if r5 = 0 then
          some ((0 : Int32), S4)
        else
          bnd (f_Routes_lockedFinding x1 S4) (fun r7 S6 =>
          some (r7, S6)))
      else
        some ((9 : Int32), S)
    else
      grd (inb x5 96) (
      if (S.1 100 x5.toNatClampNeg) = x2 then
        some ((9 : Int32), S)
      else
        nm (x5 + (1 : Int32)) (fun z8 =>
        f_Routes_entryFinding_L15 n x1 x2 x3 x4 z8 S))
def f_Routes_entryFinding (a1 : Int32) (a2 : Int32) (S : SS) : Option (Int32 × SS) :=
  nm ((8 : Int32) * a1) (fun z1 =>
  bnd (f_Routes_entriesOf a1 S) (fun r3 S2 =>
  f_Routes_entryFinding_L15 NF a1 a2 z1 r3 z1 S2))
theorem dX6_entryFinding_0 : decode cX6_entryFinding 0 = .ok (.bipush 8, 2) := dc_16 (a := 8) (by decide +kernel) (by decide)
theorem dX6_entryFinding_2 : decode cX6_entryFinding 2 = .ok (.iload_n 1, 1) := dc_27 (by decide +kernel)
theorem dX6_entryFinding_3 : decode cX6_entryFinding 3 = .ok (.imul, 1) := dc_104 (by decide +kernel)
theorem dX6_entryFinding_4 : decode cX6_entryFinding 4 = .ok (.istore_n 3, 1) := dc_62 (by decide +kernel)
theorem dX6_entryFinding_5 : decode cX6_entryFinding 5 = .ok (.aload_n 0, 1) := dc_42 (by decide +kernel)
theorem dX6_entryFinding_6 : decode cX6_entryFinding 6 = .ok (.iload_n 1, 1) := dc_27 (by decide +kernel)
theorem dX6_entryFinding_7 : decode cX6_entryFinding 7 = .ok (.invokevirtual 43, 3) := dc_182 (a := 0) (b := 43) (by decide +kernel)
theorem dX6_entryFinding_10 : decode cX6_entryFinding 10 = .ok (.istore 4, 2) := dc_54 (a := 4) (by decide +kernel)
theorem dX6_entryFinding_12 : decode cX6_entryFinding 12 = .ok (.iload_n 3, 1) := dc_29 (by decide +kernel)
theorem dX6_entryFinding_13 : decode cX6_entryFinding 13 = .ok (.istore 5, 2) := dc_54 (a := 5) (by decide +kernel)
theorem dX6_entryFinding_15 : decode cX6_entryFinding 15 = .ok (.iload 5, 2) := dc_21 (a := 5) (by decide +kernel)
theorem dX6_entryFinding_17 : decode cX6_entryFinding 17 = .ok (.iload_n 3, 1) := dc_29 (by decide +kernel)
theorem dX6_entryFinding_18 : decode cX6_entryFinding 18 = .ok (.iload 4, 2) := dc_21 (a := 4) (by decide +kernel)
theorem dX6_entryFinding_20 : decode cX6_entryFinding 20 = .ok (.iadd, 1) := dc_96 (by decide +kernel)
theorem dX6_entryFinding_21 : decode cX6_entryFinding 21 = .ok (.if_icmp .ge 23, 3) := dc_162 (a := 0) (b := 23) (by decide +kernel) (by decide)
theorem dX6_entryFinding_24 : decode cX6_entryFinding 24 = .ok (.aload_n 0, 1) := dc_42 (by decide +kernel)
theorem dX6_entryFinding_25 : decode cX6_entryFinding 25 = .ok (.getfield 15, 3) := dc_180 (a := 0) (b := 15) (by decide +kernel)
theorem dX6_entryFinding_28 : decode cX6_entryFinding 28 = .ok (.iload 5, 2) := dc_21 (a := 5) (by decide +kernel)
theorem dX6_entryFinding_30 : decode cX6_entryFinding 30 = .ok (.iaload, 1) := dc_46 (by decide +kernel)
theorem dX6_entryFinding_31 : decode cX6_entryFinding 31 = .ok (.iload_n 2, 1) := dc_28 (by decide +kernel)
theorem dX6_entryFinding_32 : decode cX6_entryFinding 32 = .ok (.if_icmp .ne 6, 3) := dc_160 (a := 0) (b := 6) (by decide +kernel) (by decide)
theorem dX6_entryFinding_35 : decode cX6_entryFinding 35 = .ok (.bipush 9, 2) := dc_16 (a := 9) (by decide +kernel) (by decide)
theorem dX6_entryFinding_37 : decode cX6_entryFinding 37 = .ok (.ireturn, 1) := dc_172 (by decide +kernel)
theorem dX6_entryFinding_38 : decode cX6_entryFinding 38 = .ok (.iinc 5 1, 3) := dc_132 (a := 5) (b := 1) (by decide +kernel) (by decide)
theorem dX6_entryFinding_41 : decode cX6_entryFinding 41 = .ok (.goto (-26), 3) := dc_167 (a := 255) (b := 230) (by decide +kernel) (by decide)
theorem dX6_entryFinding_44 : decode cX6_entryFinding 44 = .ok (.iload 4, 2) := dc_21 (a := 4) (by decide +kernel)
theorem dX6_entryFinding_46 : decode cX6_entryFinding 46 = .ok (.bipush 8, 2) := dc_16 (a := 8) (by decide +kernel) (by decide)
theorem dX6_entryFinding_48 : decode cX6_entryFinding 48 = .ok (.if_icmp .lt 6, 3) := dc_161 (a := 0) (b := 6) (by decide +kernel) (by decide)
theorem dX6_entryFinding_51 : decode cX6_entryFinding 51 = .ok (.bipush 9, 2) := dc_16 (a := 9) (by decide +kernel) (by decide)
theorem dX6_entryFinding_53 : decode cX6_entryFinding 53 = .ok (.ireturn, 1) := dc_172 (by decide +kernel)
theorem dX6_entryFinding_54 : decode cX6_entryFinding 54 = .ok (.aload_n 0, 1) := dc_42 (by decide +kernel)
theorem dX6_entryFinding_55 : decode cX6_entryFinding 55 = .ok (.iload_n 1, 1) := dc_27 (by decide +kernel)
theorem dX6_entryFinding_56 : decode cX6_entryFinding 56 = .ok (.invokevirtual 47, 3) := dc_182 (a := 0) (b := 47) (by decide +kernel)
theorem dX6_entryFinding_59 : decode cX6_entryFinding 59 = .ok (.ifCond .ne 7, 3) := dc_154 (a := 0) (b := 7) (by decide +kernel) (by decide)
theorem dX6_entryFinding_62 : decode cX6_entryFinding 62 = .ok (.iconst 0, 1) := dc_3 (by decide +kernel)
theorem dX6_entryFinding_63 : decode cX6_entryFinding 63 = .ok (.goto 8, 3) := dc_167 (a := 0) (b := 8) (by decide +kernel) (by decide)
theorem dX6_entryFinding_66 : decode cX6_entryFinding 66 = .ok (.aload_n 0, 1) := dc_42 (by decide +kernel)
theorem dX6_entryFinding_67 : decode cX6_entryFinding 67 = .ok (.iload_n 1, 1) := dc_27 (by decide +kernel)
theorem dX6_entryFinding_68 : decode cX6_entryFinding 68 = .ok (.invokevirtual 50, 3) := dc_182 (a := 0) (b := 50) (by decide +kernel)
theorem dX6_entryFinding_71 : decode cX6_entryFinding 71 = .ok (.ireturn, 1) := dc_172 (by decide +kernel)
set_option maxRecDepth 100000 in
set_option maxHeartbeats 4000000 in
theorem w_Routes_entryFinding_L15 {p : Program} {l : Launch} {e : Env} {R : Room} {s : State} {m : MethodId} {args : Array Value} {below : List Frame} {meth : Method} {c : Code} {dC : Nat → ClassId} {dI : Nat → Nat → Nat} {cs : Nat → ClassId} {ad : Nat → Nat} {A : Nat → Prop} {D0 : Nat → Nat} {S' : SS} {r : Int32} (F : Fx p s m args meth c cX6_entryFinding 6 RX6 (some .int) dC dI cs A) (hR1 : 2 ≤ R.frames) (hR2 : 44 ≤ R.locals) : ∀ (n : Nat) (x1 : Int32) (x2 : Int32) (x3 : Int32) (x4 : Int32) (x5 : Int32) (S : SS), f_Routes_entryFinding_L15 n x1 x2 x3 x4 x5 S = some (r, S') → AW p l e R s m args below meth c dC dI cs ad A D0 (some (.int r)) S' 6 15 [(0, .ref (ad 67)), (1, .int x1), (2, .int x2), (3, .int x3), (4, .int x4), (5, .int x5)] [] S := by
  have hx := F.1.1
  have hb := F.1.2.1
  intro n
  induction n with
  | zero => intro x1 x2 x3 x4 x5 S h; cases h
  | succ n ih =>
    intro x1 x2 x3 x4 x5 S h H locs ls w hl
    rw [f_Routes_entryFinding_L15] at h
    refine lv_iload (pc := 15) hx hb dX6_entryFinding_15 (lv_at hl 5 rfl) ?_
    refine lv_iload_n (pc := 17) hx hb dX6_entryFinding_17 rfl (lv_at hl 3 rfl) ?_
    refine lv_iload (pc := 18) hx hb dX6_entryFinding_18 (lv_at hl 4 rfl) ?_
    refine lv_iadd (pc := 20) hx hb dX6_entryFinding_20 ?_
    refine lv_icmp_ge (pc := 21) (tgt := 44) hx hb dX6_entryFinding_21 (by decide) (fun q => ?_) (fun q => ?_)
    · have h := ite_t q h
      refine lv_iload (pc := 44) hx hb dX6_entryFinding_44 (lv_at hl 4 rfl) ?_
      refine lv_bipush (pc := 46) (v := 8) hx hb dX6_entryFinding_46 (by decide) ?_
      refine lv_icmp_lt (pc := 48) (tgt := 54) hx hb dX6_entryFinding_48 (by decide) (fun q => ?_) (fun q => ?_)
      · have h := ite_t q h
        refine lv_aload_n (pc := 54) hx hb dX6_entryFinding_54 rfl (lv_at hl 0 rfl) ?_
        refine lv_iload_n (pc := 55) hx hb dX6_entryFinding_55 rfl (lv_at hl 1 rfl) ?_
        obtain ⟨r5, S4, hc, h⟩ := bnd_t h
        refine s_cvi (pc := 56) [.int x1] (fun ad => [.ref (ad 67), .int x1]) F w (m_Routes_lockedBy _ _ _ _ hc) rfl rfl hl.1 ds_67 vc_X6 rfl ok_X6_lockedBy rfl kc_X6_lockedBy kl_X6_47 ki_X6_lockedBy kv_X6_lockedBy kn_X6 ⟨Nat.le_trans (by decide) hR1, Nat.le_trans (by decide) hR2⟩ ⟨Nat.zero_le _, Nat.zero_le _⟩ (Nat.le_of_ble_eq_true rfl) dX6_entryFinding_56 (fun H locs w => ?_)
        refine lv_if_ne (pc := 59) (tgt := 66) hx hb dX6_entryFinding_59 (by decide) (fun q => ?_) (fun q => ?_)
        · have h := ite_f q h
          refine lv_aload_n (pc := 66) hx hb dX6_entryFinding_66 rfl (lv_at hl 0 rfl) ?_
          refine lv_iload_n (pc := 67) hx hb dX6_entryFinding_67 rfl (lv_at hl 1 rfl) ?_
          obtain ⟨r7, S6, hc, h⟩ := bnd_t h
          refine s_cvi (pc := 68) [.int x1] (fun ad => [.ref (ad 67), .int x1]) F w (m_Routes_lockedFinding _ _ _ _ hc) rfl rfl hl.1 ds_67 vc_X6 rfl ok_X6_lockedFinding rfl kc_X6_lockedFinding kl_X6_50 ki_X6_lockedFinding kv_X6_lockedFinding kn_X6 ⟨Nat.le_trans (by decide) hR1, Nat.le_trans (by decide) hR2⟩ ⟨Nat.zero_le _, Nat.zero_le _⟩ (Nat.le_of_ble_eq_true rfl) dX6_entryFinding_68 (fun H locs w => ?_)
          exact s_iret F w h dX6_entryFinding_71
        · have h := ite_t q h
          refine lv_iconst (pc := 62) (v := 0) hx hb dX6_entryFinding_62 (by decide) ?_
          refine lv_goto (pc := 63) (tgt := 71) hx hb dX6_entryFinding_63 (by decide) ?_
          exact s_iret F w h dX6_entryFinding_71
      · have h := ite_f q h
        refine lv_bipush (pc := 51) (v := 9) hx hb dX6_entryFinding_51 (by decide) ?_
        exact s_iret F w h dX6_entryFinding_53
    · have h := ite_f q h
      refine lv_aload_n (pc := 24) hx hb dX6_entryFinding_24 rfl (lv_at hl 0 rfl) ?_
      refine s_getR (pc := 25) F w 100 ds_67 (j := 4) vc_X6 vi_X6 rfl (by decide) kf_X6_15 dX6_entryFinding_25 ?_
      refine lv_iload (pc := 28) hx hb dX6_entryFinding_28 (lv_at hl 5 rfl) ?_
      refine s_iald (pc := 30) F w ds_100 h dX6_entryFinding_30 (fun h => ?_)
      refine lv_iload_n (pc := 31) hx hb dX6_entryFinding_31 rfl (lv_at hl 2 rfl) ?_
      refine lv_icmp_ne (pc := 32) (tgt := 38) hx hb dX6_entryFinding_32 (by decide) (fun q => ?_) (fun q => ?_)
      · have h := ite_f q h
        refine s_nm h (fun z8 ez8 h => ?_)
        refine lv_iinc (pc := 38) (v := z8) (lv' := [(5, .int z8), (0, .ref (ad 67)), (1, .int x1), (2, .int x2), (3, .int x3), (4, .int x4)]) hx hb dX6_entryFinding_38 hl (k := 5) rfl (by rw [ez8]; rfl) (by decide) rfl (fun ls hl => ?_)
        refine lv_goto (pc := 41) (tgt := 15) hx hb dX6_entryFinding_41 (by decide) ?_
        exact ih _ _ _ _ _ _ h _ _ _ w (lv_sub hl [1, 2, 3, 4, 5, 0] rfl)
      · have h := ite_t q h
        refine lv_bipush (pc := 35) (v := 9) hx hb dX6_entryFinding_35 (by decide) ?_
        exact s_iret F w h dX6_entryFinding_37
set_option maxRecDepth 100000 in
set_option maxHeartbeats 4000000 in
theorem m_Routes_entryFinding (a1 : Int32) (a2 : Int32) (S S' : SS) (r : Int32) (h : f_Routes_entryFinding a1 a2 S = some (r, S')) : MT yX6_entryFinding cX6_entryFinding 6 (some .int) 2 44 (fun ad => [.ref (ad 67), .int a1, .int a2]) S (some (.int r)) S' := by
  refine MT.of RX6 (fun ad => [(0, .ref (ad 67)), (1, .int a1), (2, .int a2)]) (by decide) rfl (fun _ => Nat.le_of_ble_eq_true rfl) (fun _ => rfl) ?_
  intro p l e R s m args below meth c dC dI cs ad A hR1 hR2 F H locs ls w hl
  have hx := F.1.1
  have hb := F.1.2.1
  rw [f_Routes_entryFinding] at h
  refine lv_bipush (pc := 0) (v := 8) hx hb dX6_entryFinding_0 (by decide) ?_
  refine lv_iload_n (pc := 2) hx hb dX6_entryFinding_2 rfl (lv_at hl 1 rfl) ?_
  refine lv_imul (pc := 3) hx hb dX6_entryFinding_3 ?_
  refine s_nm h (fun z1 ez1 h => ?_)
  rw [← ez1]
  refine lv_istore_n (pc := 4) (lv' := [(3, .int z1), (0, .ref (ad 67)), (1, .int a1), (2, .int a2)]) hx hb dX6_entryFinding_4 rfl hl (by decide) rfl (fun ls hl => ?_)
  refine lv_aload_n (pc := 5) hx hb dX6_entryFinding_5 rfl (lv_at hl 1 rfl) ?_
  refine lv_iload_n (pc := 6) hx hb dX6_entryFinding_6 rfl (lv_at hl 2 rfl) ?_
  obtain ⟨r3, S2, hc, h⟩ := bnd_t h
  refine s_cvi (pc := 7) [.int a1] (fun ad => [.ref (ad 67), .int a1]) F w (m_Routes_entriesOf _ _ _ _ hc) rfl rfl hl.1 ds_67 vc_X6 rfl ok_X6_entriesOf rfl kc_X6_entriesOf kl_X6_43 ki_X6_entriesOf kv_X6_entriesOf kn_X6 ⟨Nat.le_trans (by decide) hR1, Nat.le_trans (by decide) hR2⟩ ⟨Nat.zero_le _, Nat.zero_le _⟩ (Nat.le_of_ble_eq_true rfl) dX6_entryFinding_7 (fun H locs w => ?_)
  refine lv_istore (pc := 10) (lv' := [(4, .int r3), (3, .int z1), (0, .ref (ad 67)), (1, .int a1), (2, .int a2)]) hx hb dX6_entryFinding_10 hl (by decide) rfl (fun ls hl => ?_)
  refine lv_iload_n (pc := 12) hx hb dX6_entryFinding_12 rfl (lv_at hl 1 rfl) ?_
  refine lv_istore (pc := 13) (lv' := [(5, .int z1), (4, .int r3), (3, .int z1), (0, .ref (ad 67)), (1, .int a1), (2, .int a2)]) hx hb dX6_entryFinding_13 hl (by decide) rfl (fun ls hl => ?_)
  exact w_Routes_entryFinding_L15 F (Nat.le_trans (by decide) hR1) (Nat.le_trans (by decide) hR2) _ _ _ _ _ _ _ h _ _ _ w (lv_sub hl [3, 4, 5, 2, 1, 0] rfl)
def f_Layout_pointFinding (a1 : Int32) (S : SS) : Option (Int32 × SS) :=
  if a1 < 0 then
    some ((3 : Int32), S)
  else
    if a1 < (40 : Int32) then
      if (S.1 66 8) ≤ a1 then
        some ((1 : Int32), S)
      else
        some ((0 : Int32), S)
    else
      some ((3 : Int32), S)
theorem dX2_pointFinding_0 : decode cX2_pointFinding 0 = .ok (.iload_n 1, 1) := dc_27 (by decide +kernel)
theorem dX2_pointFinding_1 : decode cX2_pointFinding 1 = .ok (.ifCond .lt 9, 3) := dc_155 (a := 0) (b := 9) (by decide +kernel) (by decide)
theorem dX2_pointFinding_4 : decode cX2_pointFinding 4 = .ok (.iload_n 1, 1) := dc_27 (by decide +kernel)
theorem dX2_pointFinding_5 : decode cX2_pointFinding 5 = .ok (.bipush 40, 2) := dc_16 (a := 40) (by decide +kernel) (by decide)
theorem dX2_pointFinding_7 : decode cX2_pointFinding 7 = .ok (.if_icmp .lt 5, 3) := dc_161 (a := 0) (b := 5) (by decide +kernel) (by decide)
theorem dX2_pointFinding_10 : decode cX2_pointFinding 10 = .ok (.iconst 3, 1) := dc_6 (by decide +kernel)
theorem dX2_pointFinding_11 : decode cX2_pointFinding 11 = .ok (.ireturn, 1) := dc_172 (by decide +kernel)
theorem dX2_pointFinding_12 : decode cX2_pointFinding 12 = .ok (.iload_n 1, 1) := dc_27 (by decide +kernel)
theorem dX2_pointFinding_13 : decode cX2_pointFinding 13 = .ok (.aload_n 0, 1) := dc_42 (by decide +kernel)
theorem dX2_pointFinding_14 : decode cX2_pointFinding 14 = .ok (.getfield 35, 3) := dc_180 (a := 0) (b := 35) (by decide +kernel)
theorem dX2_pointFinding_17 : decode cX2_pointFinding 17 = .ok (.if_icmp .ge 7, 3) := dc_162 (a := 0) (b := 7) (by decide +kernel) (by decide)
theorem dX2_pointFinding_20 : decode cX2_pointFinding 20 = .ok (.iconst 0, 1) := dc_3 (by decide +kernel)
theorem dX2_pointFinding_21 : decode cX2_pointFinding 21 = .ok (.goto 4, 3) := dc_167 (a := 0) (b := 4) (by decide +kernel) (by decide)
theorem dX2_pointFinding_24 : decode cX2_pointFinding 24 = .ok (.iconst 1, 1) := dc_4 (by decide +kernel)
theorem dX2_pointFinding_25 : decode cX2_pointFinding 25 = .ok (.ireturn, 1) := dc_172 (by decide +kernel)
set_option maxRecDepth 100000 in
set_option maxHeartbeats 4000000 in
theorem m_Layout_pointFinding (a1 : Int32) (S S' : SS) (r : Int32) (h : f_Layout_pointFinding a1 S = some (r, S')) : MT yX2_pointFinding cX2_pointFinding 2 (some .int) 0 0 (fun ad => [.ref (ad 66), .int a1]) S (some (.int r)) S' := by
  refine MT.of RX2 (fun ad => [(0, .ref (ad 66)), (1, .int a1)]) (by decide) rfl (fun _ => Nat.le_of_ble_eq_true rfl) (fun _ => rfl) ?_
  intro p l e R s m args below meth c dC dI cs ad A hR1 hR2 F H locs ls w hl
  have hx := F.1.1
  have hb := F.1.2.1
  rw [f_Layout_pointFinding] at h
  refine lv_iload_n (pc := 0) hx hb dX2_pointFinding_0 rfl (lv_at hl 1 rfl) ?_
  refine lv_if_lt (pc := 1) (tgt := 10) hx hb dX2_pointFinding_1 (by decide) (fun q => ?_) (fun q => ?_)
  · have h := ite_t q h
    refine lv_iconst (pc := 10) (v := 3) hx hb dX2_pointFinding_10 (by decide) ?_
    exact s_iret F w h dX2_pointFinding_11
  · have h := ite_f q h
    refine lv_iload_n (pc := 4) hx hb dX2_pointFinding_4 rfl (lv_at hl 1 rfl) ?_
    refine lv_bipush (pc := 5) (v := 40) hx hb dX2_pointFinding_5 (by decide) ?_
    refine lv_icmp_lt (pc := 7) (tgt := 12) hx hb dX2_pointFinding_7 (by decide) (fun q => ?_) (fun q => ?_)
    · have h := ite_t q h
      refine lv_iload_n (pc := 12) hx hb dX2_pointFinding_12 rfl (lv_at hl 1 rfl) ?_
      refine lv_aload_n (pc := 13) hx hb dX2_pointFinding_13 rfl (lv_at hl 0 rfl) ?_
      refine s_getI (pc := 14) F w ds_66 (j := 8) vc_X2 vi_X2 rfl (by decide) kf_X2_35 dX2_pointFinding_14 ?_
      refine lv_icmp_ge (pc := 17) (tgt := 24) hx hb dX2_pointFinding_17 (by decide) (fun q => ?_) (fun q => ?_)
      · have h := ite_t q h
        refine lv_iconst (pc := 24) (v := 1) hx hb dX2_pointFinding_24 (by decide) ?_
        exact s_iret F w h dX2_pointFinding_25
      · have h := ite_f q h
        refine lv_iconst (pc := 20) (v := 0) hx hb dX2_pointFinding_20 (by decide) ?_
        refine lv_goto (pc := 21) (tgt := 25) hx hb dX2_pointFinding_21 (by decide) ?_
        exact s_iret F w h dX2_pointFinding_25
    · have h := ite_f q h
      refine lv_iconst (pc := 10) (v := 3) hx hb dX2_pointFinding_10 (by decide) ?_
      exact s_iret F w h dX2_pointFinding_11
def f_Yard_via_j70  (x1 : Int32) (x2 : Int32) (x3 : Int32) (x4 : Int32) (x5 : Int32) (S : SS) : Option (Int32 × SS) :=
    if x5 = 0 then
      bndv (f_History_forget  S) (fun S8 =>
      bnd (f_Routes_addEntry x1 x2 x3 x4 S8) (fun r10 S9 =>
      some (r10, S9)))
    else
      bnd (f_Report_found x5 S) (fun r12 S11 =>
      some (r12, S11))
def f_Yard_via_j54  (x1 : Int32) (x2 : Int32) (x3 : Int32) (x4 : Int32) (x5 : Int32) (S : SS) : Option (Int32 × SS) :=
    if x5 = 0 then
      bnd (f_Routes_entryFinding x1 x2 S) (fun r14 S13 =>
      f_Yard_via_j70 x1 x2 x3 x4 r14 S13)
    else
      f_Yard_via_j70 x1 x2 x3 x4 x5 S
def f_Yard_via (a1 : Int32) (a2 : Int32) (a3 : Int32) (a4 : Int32) (S : SS) : Option (Int32 × SS) :=
  bnd (f_Yard_isNot a3 (0 : Int32) (2 : Int32) S) (fun r2 S1 =>
  if r2 = 0 then
    bnd (f_Yard_isNot a4 (0 : Int32) (99 : Int32) S1) (fun r4 S3 =>
    if r4 = 0 then
      bndv (f_Report_begin  S3) (fun S5 =>
      bnd (f_Routes_routeFinding a1 S5) (fun r7 S6 =>
      if r7 = 0 then
        bnd (f_Layout_pointFinding a2 S6) (fun r16 S15 =>
        f_Yard_via_j54 a1 a2 a3 a4 r16 S15)
      else
        f_Yard_via_j54 a1 a2 a3 a4 r7 S6))
    else
      some ((-1 : Int32), S3))
  else
    some ((-1 : Int32), S1))
theorem dX11_via_0 : decode cX11_via 0 = .ok (.iload_n 3, 1) := dc_29 (by decide +kernel)
theorem dX11_via_1 : decode cX11_via 1 = .ok (.iconst 0, 1) := dc_3 (by decide +kernel)
theorem dX11_via_2 : decode cX11_via 2 = .ok (.iconst 2, 1) := dc_5 (by decide +kernel)
theorem dX11_via_3 : decode cX11_via 3 = .ok (.invokestatic 108, 3) := dc_184 (a := 0) (b := 108) (by decide +kernel)
theorem dX11_via_6 : decode cX11_via 6 = .ok (.ifCond .ne 14, 3) := dc_154 (a := 0) (b := 14) (by decide +kernel) (by decide)
theorem dX11_via_9 : decode cX11_via 9 = .ok (.iload 4, 2) := dc_21 (a := 4) (by decide +kernel)
theorem dX11_via_11 : decode cX11_via 11 = .ok (.iconst 0, 1) := dc_3 (by decide +kernel)
theorem dX11_via_12 : decode cX11_via 12 = .ok (.bipush 99, 2) := dc_16 (a := 99) (by decide +kernel) (by decide)
theorem dX11_via_14 : decode cX11_via 14 = .ok (.invokestatic 108, 3) := dc_184 (a := 0) (b := 108) (by decide +kernel)
theorem dX11_via_17 : decode cX11_via 17 = .ok (.ifCond .eq 5, 3) := dc_153 (a := 0) (b := 5) (by decide +kernel) (by decide)
theorem dX11_via_20 : decode cX11_via 20 = .ok (.iconst (-1), 1) := dc_2 (by decide +kernel)
theorem dX11_via_21 : decode cX11_via 21 = .ok (.ireturn, 1) := dc_172 (by decide +kernel)
theorem dX11_via_22 : decode cX11_via 22 = .ok (.aload_n 0, 1) := dc_42 (by decide +kernel)
theorem dX11_via_23 : decode cX11_via 23 = .ok (.getfield 10, 3) := dc_180 (a := 0) (b := 10) (by decide +kernel)
theorem dX11_via_26 : decode cX11_via 26 = .ok (.invokevirtual 95, 3) := dc_182 (a := 0) (b := 95) (by decide +kernel)
theorem dX11_via_29 : decode cX11_via 29 = .ok (.aload_n 0, 1) := dc_42 (by decide +kernel)
theorem dX11_via_30 : decode cX11_via 30 = .ok (.getfield 51, 3) := dc_180 (a := 0) (b := 51) (by decide +kernel)
theorem dX11_via_33 : decode cX11_via 33 = .ok (.iload_n 1, 1) := dc_27 (by decide +kernel)
theorem dX11_via_34 : decode cX11_via 34 = .ok (.invokevirtual 172, 3) := dc_182 (a := 0) (b := 172) (by decide +kernel)
theorem dX11_via_37 : decode cX11_via 37 = .ok (.istore 5, 2) := dc_54 (a := 5) (by decide +kernel)
theorem dX11_via_39 : decode cX11_via 39 = .ok (.iload 5, 2) := dc_21 (a := 5) (by decide +kernel)
theorem dX11_via_41 : decode cX11_via 41 = .ok (.ifCond .ne 13, 3) := dc_154 (a := 0) (b := 13) (by decide +kernel) (by decide)
theorem dX11_via_44 : decode cX11_via 44 = .ok (.aload_n 0, 1) := dc_42 (by decide +kernel)
theorem dX11_via_45 : decode cX11_via 45 = .ok (.getfield 42, 3) := dc_180 (a := 0) (b := 42) (by decide +kernel)
theorem dX11_via_48 : decode cX11_via 48 = .ok (.iload_n 2, 1) := dc_28 (by decide +kernel)
theorem dX11_via_49 : decode cX11_via 49 = .ok (.invokevirtual 175, 3) := dc_182 (a := 0) (b := 175) (by decide +kernel)
theorem dX11_via_52 : decode cX11_via 52 = .ok (.istore 5, 2) := dc_54 (a := 5) (by decide +kernel)
theorem dX11_via_54 : decode cX11_via 54 = .ok (.iload 5, 2) := dc_21 (a := 5) (by decide +kernel)
theorem dX11_via_56 : decode cX11_via 56 = .ok (.ifCond .ne 14, 3) := dc_154 (a := 0) (b := 14) (by decide +kernel) (by decide)
theorem dX11_via_59 : decode cX11_via 59 = .ok (.aload_n 0, 1) := dc_42 (by decide +kernel)
theorem dX11_via_60 : decode cX11_via 60 = .ok (.getfield 51, 3) := dc_180 (a := 0) (b := 51) (by decide +kernel)
theorem dX11_via_63 : decode cX11_via 63 = .ok (.iload_n 1, 1) := dc_27 (by decide +kernel)
theorem dX11_via_64 : decode cX11_via 64 = .ok (.iload_n 2, 1) := dc_28 (by decide +kernel)
theorem dX11_via_65 : decode cX11_via 65 = .ok (.invokevirtual 178, 3) := dc_182 (a := 0) (b := 178) (by decide +kernel)
theorem dX11_via_68 : decode cX11_via 68 = .ok (.istore 5, 2) := dc_54 (a := 5) (by decide +kernel)
theorem dX11_via_70 : decode cX11_via 70 = .ok (.iload 5, 2) := dc_21 (a := 5) (by decide +kernel)
theorem dX11_via_72 : decode cX11_via 72 = .ok (.ifCond .eq 13, 3) := dc_153 (a := 0) (b := 13) (by decide +kernel) (by decide)
theorem dX11_via_75 : decode cX11_via 75 = .ok (.aload_n 0, 1) := dc_42 (by decide +kernel)
theorem dX11_via_76 : decode cX11_via 76 = .ok (.getfield 10, 3) := dc_180 (a := 0) (b := 10) (by decide +kernel)
theorem dX11_via_79 : decode cX11_via 79 = .ok (.iload 5, 2) := dc_21 (a := 5) (by decide +kernel)
theorem dX11_via_81 : decode cX11_via 81 = .ok (.invokevirtual 98, 3) := dc_182 (a := 0) (b := 98) (by decide +kernel)
theorem dX11_via_84 : decode cX11_via 84 = .ok (.ireturn, 1) := dc_172 (by decide +kernel)
theorem dX11_via_85 : decode cX11_via 85 = .ok (.aload_n 0, 1) := dc_42 (by decide +kernel)
theorem dX11_via_86 : decode cX11_via 86 = .ok (.getfield 26, 3) := dc_180 (a := 0) (b := 26) (by decide +kernel)
theorem dX11_via_89 : decode cX11_via 89 = .ok (.invokevirtual 102, 3) := dc_182 (a := 0) (b := 102) (by decide +kernel)
theorem dX11_via_92 : decode cX11_via 92 = .ok (.aload_n 0, 1) := dc_42 (by decide +kernel)
theorem dX11_via_93 : decode cX11_via 93 = .ok (.getfield 51, 3) := dc_180 (a := 0) (b := 51) (by decide +kernel)
theorem dX11_via_96 : decode cX11_via 96 = .ok (.iload_n 1, 1) := dc_27 (by decide +kernel)
theorem dX11_via_97 : decode cX11_via 97 = .ok (.iload_n 2, 1) := dc_28 (by decide +kernel)
theorem dX11_via_98 : decode cX11_via 98 = .ok (.iload_n 3, 1) := dc_29 (by decide +kernel)
theorem dX11_via_99 : decode cX11_via 99 = .ok (.iload 4, 2) := dc_21 (a := 4) (by decide +kernel)
theorem dX11_via_101 : decode cX11_via 101 = .ok (.invokevirtual 181, 3) := dc_182 (a := 0) (b := 181) (by decide +kernel)
theorem dX11_via_104 : decode cX11_via 104 = .ok (.ireturn, 1) := dc_172 (by decide +kernel)
set_option maxRecDepth 100000 in
set_option maxHeartbeats 4000000 in
theorem w_Yard_via_j70 {p : Program} {l : Launch} {e : Env} {R : Room} {s : State} {m : MethodId} {args : Array Value} {below : List Frame} {meth : Method} {c : Code} {dC : Nat → ClassId} {dI : Nat → Nat → Nat} {cs : Nat → ClassId} {ad : Nat → Nat} {A : Nat → Prop} {D0 : Nat → Nat} {S' : SS} {r : Int32} (F : Fx p s m args meth c cX11_via 6 RX11 (some .int) dC dI cs A) (hR1 : 2 ≤ R.frames) (hR2 : 51 ≤ R.locals) (x1 : Int32) (x2 : Int32) (x3 : Int32) (x4 : Int32) (x5 : Int32) (S : SS) (h : f_Yard_via_j70 x1 x2 x3 x4 x5 S = some (r, S')) : AW p l e R s m args below meth c dC dI cs ad A D0 (some (.int r)) S' 6 70 [(0, .ref (ad 61)), (1, .int x1), (2, .int x2), (3, .int x3), (4, .int x4), (5, .int x5)] [] S := by
  have hx := F.1.1
  have hb := F.1.2.1
  intro H locs ls w hl
  rw [f_Yard_via_j70] at h
  refine lv_iload (pc := 70) hx hb dX11_via_70 (lv_at hl 5 rfl) ?_
  refine lv_if_eq (pc := 72) (tgt := 85) hx hb dX11_via_72 (by decide) (fun q => ?_) (fun q => ?_)
  · have h := ite_t q h
    refine lv_aload_n (pc := 85) hx hb dX11_via_85 rfl (lv_at hl 0 rfl) ?_
    refine s_getR (pc := 86) F w 64 ds_61 (j := 2) vc_X11 vi_X11 rfl (by decide) kf_X11_26 dX11_via_86 ?_
    obtain ⟨S8, hc, h⟩ := bndv_t h
    refine s_cvv (pc := 89) [] (fun ad => [.ref (ad 64)]) F w (m_History_forget  _ _ hc) rfl rfl hl.1 ds_64 vc_X1 rfl ok_X1_forget rfl kc_X1_forget kl_X11_102 ki_X1_forget kv_X1_forget kn_X1 ⟨Nat.le_trans (by decide) hR1, Nat.le_trans (by decide) hR2⟩ ⟨Nat.zero_le _, Nat.zero_le _⟩ (Nat.le_of_ble_eq_true rfl) dX11_via_89 (fun H locs w => ?_)
    refine lv_aload_n (pc := 92) hx hb dX11_via_92 rfl (lv_at hl 0 rfl) ?_
    refine s_getR (pc := 93) F w 67 ds_61 (j := 5) vc_X11 vi_X11 rfl (by decide) kf_X11_51 dX11_via_93 ?_
    refine lv_iload_n (pc := 96) hx hb dX11_via_96 rfl (lv_at hl 1 rfl) ?_
    refine lv_iload_n (pc := 97) hx hb dX11_via_97 rfl (lv_at hl 2 rfl) ?_
    refine lv_iload_n (pc := 98) hx hb dX11_via_98 rfl (lv_at hl 3 rfl) ?_
    refine lv_iload (pc := 99) hx hb dX11_via_99 (lv_at hl 4 rfl) ?_
    obtain ⟨r10, S9, hc, h⟩ := bnd_t h
    refine s_cvi (pc := 101) [.int x1, .int x2, .int x3, .int x4] (fun ad => [.ref (ad 67), .int x1, .int x2, .int x3, .int x4]) F w (m_Routes_addEntry _ _ _ _ _ _ _ hc) rfl rfl hl.1 ds_67 vc_X6 rfl ok_X6_addEntry rfl kc_X6_addEntry kl_X11_181 ki_X6_addEntry kv_X6_addEntry kn_X6 ⟨Nat.le_trans (by decide) hR1, Nat.le_trans (by decide) hR2⟩ ⟨Nat.zero_le _, Nat.zero_le _⟩ (Nat.le_of_ble_eq_true rfl) dX11_via_101 (fun H locs w => ?_)
    exact s_iret F w h dX11_via_104
  · have h := ite_f q h
    refine lv_aload_n (pc := 75) hx hb dX11_via_75 rfl (lv_at hl 0 rfl) ?_
    refine s_getR (pc := 76) F w 62 ds_61 (j := 0) vc_X11 vi_X11 rfl (by decide) kf_X11_10 dX11_via_76 ?_
    refine lv_iload (pc := 79) hx hb dX11_via_79 (lv_at hl 5 rfl) ?_
    obtain ⟨r12, S11, hc, h⟩ := bnd_t h
    refine s_cvi (pc := 81) [.int x5] (fun ad => [.ref (ad 62), .int x5]) F w (m_Report_found _ _ _ _ hc) rfl rfl hl.1 ds_62 vc_X5 rfl ok_X5_found rfl kc_X5_found kl_X11_98 ki_X5_found kv_X5_found kn_X5 ⟨Nat.le_trans (by decide) hR1, Nat.le_trans (by decide) hR2⟩ ⟨Nat.zero_le _, Nat.zero_le _⟩ (Nat.le_of_ble_eq_true rfl) dX11_via_81 (fun H locs w => ?_)
    exact s_iret F w h dX11_via_84
set_option maxRecDepth 100000 in
set_option maxHeartbeats 4000000 in
theorem w_Yard_via_j54 {p : Program} {l : Launch} {e : Env} {R : Room} {s : State} {m : MethodId} {args : Array Value} {below : List Frame} {meth : Method} {c : Code} {dC : Nat → ClassId} {dI : Nat → Nat → Nat} {cs : Nat → ClassId} {ad : Nat → Nat} {A : Nat → Prop} {D0 : Nat → Nat} {S' : SS} {r : Int32} (F : Fx p s m args meth c cX11_via 6 RX11 (some .int) dC dI cs A) (hR1 : 3 ≤ R.frames) (hR2 : 69 ≤ R.locals) (x1 : Int32) (x2 : Int32) (x3 : Int32) (x4 : Int32) (x5 : Int32) (S : SS) (h : f_Yard_via_j54 x1 x2 x3 x4 x5 S = some (r, S')) : AW p l e R s m args below meth c dC dI cs ad A D0 (some (.int r)) S' 6 54 [(0, .ref (ad 61)), (1, .int x1), (2, .int x2), (3, .int x3), (4, .int x4), (5, .int x5)] [] S := by
  have hx := F.1.1
  have hb := F.1.2.1
  intro H locs ls w hl
  rw [f_Yard_via_j54] at h
  refine lv_iload (pc := 54) hx hb dX11_via_54 (lv_at hl 5 rfl) ?_
  refine lv_if_ne (pc := 56) (tgt := 70) hx hb dX11_via_56 (by decide) (fun q => ?_) (fun q => ?_)
  · have h := ite_f q h
    exact w_Yard_via_j70 F (Nat.le_trans (by decide) hR1) (Nat.le_trans (by decide) hR2) _ _ _ _ _ _ h _ _ _ w (lv_sub hl [0, 1, 2, 3, 4, 5] rfl)
  · have h := ite_t q h
    refine lv_aload_n (pc := 59) hx hb dX11_via_59 rfl (lv_at hl 0 rfl) ?_
    refine s_getR (pc := 60) F w 67 ds_61 (j := 5) vc_X11 vi_X11 rfl (by decide) kf_X11_51 dX11_via_60 ?_
    refine lv_iload_n (pc := 63) hx hb dX11_via_63 rfl (lv_at hl 1 rfl) ?_
    refine lv_iload_n (pc := 64) hx hb dX11_via_64 rfl (lv_at hl 2 rfl) ?_
    obtain ⟨r14, S13, hc, h⟩ := bnd_t h
    refine s_cvi (pc := 65) [.int x1, .int x2] (fun ad => [.ref (ad 67), .int x1, .int x2]) F w (m_Routes_entryFinding _ _ _ _ _ hc) rfl rfl hl.1 ds_67 vc_X6 rfl ok_X6_entryFinding rfl kc_X6_entryFinding kl_X11_178 ki_X6_entryFinding kv_X6_entryFinding kn_X6 ⟨Nat.le_trans (by decide) hR1, Nat.le_trans (by decide) hR2⟩ ⟨Nat.zero_le _, Nat.zero_le _⟩ (Nat.le_of_ble_eq_true rfl) dX11_via_65 (fun H locs w => ?_)
    refine lv_istore (pc := 68) (lv' := [(5, .int r14), (0, .ref (ad 61)), (1, .int x1), (2, .int x2), (3, .int x3), (4, .int x4)]) hx hb dX11_via_68 hl (by decide) rfl (fun ls hl => ?_)
    exact w_Yard_via_j70 F (Nat.le_trans (by decide) hR1) (Nat.le_trans (by decide) hR2) _ _ _ _ _ _ h _ _ _ w (lv_sub hl [1, 2, 3, 4, 5, 0] rfl)
set_option maxRecDepth 100000 in
set_option maxHeartbeats 4000000 in
theorem m_Yard_via (a1 : Int32) (a2 : Int32) (a3 : Int32) (a4 : Int32) (S S' : SS) (r : Int32) (h : f_Yard_via a1 a2 a3 a4 S = some (r, S')) : MT yX11_via cX11_via 6 (some .int) 3 69 (fun ad => [.ref (ad 61), .int a1, .int a2, .int a3, .int a4]) S (some (.int r)) S' := by
  refine MT.of RX11 (fun ad => [(0, .ref (ad 61)), (1, .int a1), (2, .int a2), (3, .int a3), (4, .int a4)]) (by decide) rfl (fun _ => Nat.le_of_ble_eq_true rfl) (fun _ => rfl) ?_
  intro p l e R s m args below meth c dC dI cs ad A hR1 hR2 F H locs ls w hl
  have hx := F.1.1
  have hb := F.1.2.1
  rw [f_Yard_via] at h
  refine lv_iload_n (pc := 0) hx hb dX11_via_0 rfl (lv_at hl 3 rfl) ?_
  refine lv_iconst (pc := 1) (v := 0) hx hb dX11_via_1 (by decide) ?_
  refine lv_iconst (pc := 2) (v := 2) hx hb dX11_via_2 (by decide) ?_
  obtain ⟨r2, S1, hc, h⟩ := bnd_t h
  refine s_csi (pc := 3) [.int a3, .int (0 : Int32), .int (2 : Int32)] (fun ad => [.int a3, .int (0 : Int32), .int (2 : Int32)]) F w (m_Yard_isNot _ _ _ _ _ _ hc) rfl rfl hl.1 ok_X11_isNot rfl kc_X11_isNot kl_X11_108 ks_X11_isNot kn_X11 ⟨Nat.le_trans (by decide) hR1, Nat.le_trans (by decide) hR2⟩ ⟨Nat.zero_le _, Nat.zero_le _⟩ (Nat.le_of_ble_eq_true rfl) dX11_via_3 (fun H locs w => ?_)
  refine lv_if_ne (pc := 6) (tgt := 20) hx hb dX11_via_6 (by decide) (fun q => ?_) (fun q => ?_)
  · have h := ite_f q h
    refine lv_iconst (pc := 20) (v := -1) hx hb dX11_via_20 (by decide) ?_
    exact s_iret F w h dX11_via_21
  · have h := ite_t q h
    refine lv_iload (pc := 9) hx hb dX11_via_9 (lv_at hl 4 rfl) ?_
    refine lv_iconst (pc := 11) (v := 0) hx hb dX11_via_11 (by decide) ?_
    refine lv_bipush (pc := 12) (v := 99) hx hb dX11_via_12 (by decide) ?_
    obtain ⟨r4, S3, hc, h⟩ := bnd_t h
    refine s_csi (pc := 14) [.int a4, .int (0 : Int32), .int (99 : Int32)] (fun ad => [.int a4, .int (0 : Int32), .int (99 : Int32)]) F w (m_Yard_isNot _ _ _ _ _ _ hc) rfl rfl hl.1 ok_X11_isNot rfl kc_X11_isNot kl_X11_108 ks_X11_isNot kn_X11 ⟨Nat.le_trans (by decide) hR1, Nat.le_trans (by decide) hR2⟩ ⟨Nat.zero_le _, Nat.zero_le _⟩ (Nat.le_of_ble_eq_true rfl) dX11_via_14 (fun H locs w => ?_)
    refine lv_if_eq (pc := 17) (tgt := 22) hx hb dX11_via_17 (by decide) (fun q => ?_) (fun q => ?_)
    · have h := ite_t q h
      refine lv_aload_n (pc := 22) hx hb dX11_via_22 rfl (lv_at hl 0 rfl) ?_
      refine s_getR (pc := 23) F w 62 ds_61 (j := 0) vc_X11 vi_X11 rfl (by decide) kf_X11_10 dX11_via_23 ?_
      obtain ⟨S5, hc, h⟩ := bndv_t h
      refine s_cvv (pc := 26) [] (fun ad => [.ref (ad 62)]) F w (m_Report_begin  _ _ hc) rfl rfl hl.1 ds_62 vc_X5 rfl ok_X5_begin rfl kc_X5_begin kl_X11_95 ki_X5_begin kv_X5_begin kn_X5 ⟨Nat.le_trans (by decide) hR1, Nat.le_trans (by decide) hR2⟩ ⟨Nat.zero_le _, Nat.zero_le _⟩ (Nat.le_of_ble_eq_true rfl) dX11_via_26 (fun H locs w => ?_)
      refine lv_aload_n (pc := 29) hx hb dX11_via_29 rfl (lv_at hl 0 rfl) ?_
      refine s_getR (pc := 30) F w 67 ds_61 (j := 5) vc_X11 vi_X11 rfl (by decide) kf_X11_51 dX11_via_30 ?_
      refine lv_iload_n (pc := 33) hx hb dX11_via_33 rfl (lv_at hl 1 rfl) ?_
      obtain ⟨r7, S6, hc, h⟩ := bnd_t h
      refine s_cvi (pc := 34) [.int a1] (fun ad => [.ref (ad 67), .int a1]) F w (m_Routes_routeFinding _ _ _ _ hc) rfl rfl hl.1 ds_67 vc_X6 rfl ok_X6_routeFinding rfl kc_X6_routeFinding kl_X11_172 ki_X6_routeFinding kv_X6_routeFinding kn_X6 ⟨Nat.le_trans (by decide) hR1, Nat.le_trans (by decide) hR2⟩ ⟨Nat.zero_le _, Nat.zero_le _⟩ (Nat.le_of_ble_eq_true rfl) dX11_via_34 (fun H locs w => ?_)
      refine lv_istore (pc := 37) (lv' := [(5, .int r7), (0, .ref (ad 61)), (1, .int a1), (2, .int a2), (3, .int a3), (4, .int a4)]) hx hb dX11_via_37 hl (by decide) rfl (fun ls hl => ?_)
      refine lv_iload (pc := 39) hx hb dX11_via_39 (lv_at hl 0 rfl) ?_
      refine lv_if_ne (pc := 41) (tgt := 54) hx hb dX11_via_41 (by decide) (fun q => ?_) (fun q => ?_)
      · have h := ite_f q h
        exact w_Yard_via_j54 F (Nat.le_trans (by decide) hR1) (Nat.le_trans (by decide) hR2) _ _ _ _ _ _ h _ _ _ w (lv_sub hl [1, 2, 3, 4, 5, 0] rfl)
      · have h := ite_t q h
        refine lv_aload_n (pc := 44) hx hb dX11_via_44 rfl (lv_at hl 1 rfl) ?_
        refine s_getR (pc := 45) F w 66 ds_61 (j := 4) vc_X11 vi_X11 rfl (by decide) kf_X11_42 dX11_via_45 ?_
        refine lv_iload_n (pc := 48) hx hb dX11_via_48 rfl (lv_at hl 3 rfl) ?_
        obtain ⟨r16, S15, hc, h⟩ := bnd_t h
        refine s_cvi (pc := 49) [.int a2] (fun ad => [.ref (ad 66), .int a2]) F w (m_Layout_pointFinding _ _ _ _ hc) rfl rfl hl.1 ds_66 vc_X2 rfl ok_X2_pointFinding rfl kc_X2_pointFinding kl_X11_175 ki_X2_pointFinding kv_X2_pointFinding kn_X2 ⟨Nat.le_trans (by decide) hR1, Nat.le_trans (by decide) hR2⟩ ⟨Nat.zero_le _, Nat.zero_le _⟩ (Nat.le_of_ble_eq_true rfl) dX11_via_49 (fun H locs w => ?_)
        refine lv_istore (pc := 52) (lv' := [(5, .int r16), (0, .ref (ad 61)), (1, .int a1), (2, .int a2), (3, .int a3), (4, .int a4)]) hx hb dX11_via_52 hl (by decide) rfl (fun ls hl => ?_)
        exact w_Yard_via_j54 F (Nat.le_trans (by decide) hR1) (Nat.le_trans (by decide) hR2) _ _ _ _ _ _ h _ _ _ w (lv_sub hl [1, 2, 3, 4, 5, 0] rfl)
    · have h := ite_f q h
      refine lv_iconst (pc := 20) (v := -1) hx hb dX11_via_20 (by decide) ?_
      exact s_iret F w h dX11_via_21
def f_Stock_get (a1 : Int32) (a2 : Int32) (S : SS) : Option (Int32 × SS) :=
  if a1 < 0 then
    some ((-4 : Int32), S)
  else
    if (72 : Int32) ≤ a1 then
      some ((-4 : Int32), S)
    else
      grd (inb (((6 : Int32) * a1) + a2) 432) (
      some (S.1 91 (((6 : Int32) * a1) + a2).toNatClampNeg, S))
theorem dX9_get_0 : decode cX9_get 0 = .ok (.iload_n 1, 1) := dc_27 (by decide +kernel)
theorem dX9_get_1 : decode cX9_get 1 = .ok (.ifCond .lt 23, 3) := dc_155 (a := 0) (b := 23) (by decide +kernel) (by decide)
theorem dX9_get_4 : decode cX9_get 4 = .ok (.iload_n 1, 1) := dc_27 (by decide +kernel)
theorem dX9_get_5 : decode cX9_get 5 = .ok (.bipush 72, 2) := dc_16 (a := 72) (by decide +kernel) (by decide)
theorem dX9_get_7 : decode cX9_get 7 = .ok (.if_icmp .ge 17, 3) := dc_162 (a := 0) (b := 17) (by decide +kernel) (by decide)
theorem dX9_get_10 : decode cX9_get 10 = .ok (.aload_n 0, 1) := dc_42 (by decide +kernel)
theorem dX9_get_11 : decode cX9_get 11 = .ok (.getfield 13, 3) := dc_180 (a := 0) (b := 13) (by decide +kernel)
theorem dX9_get_14 : decode cX9_get 14 = .ok (.bipush 6, 2) := dc_16 (a := 6) (by decide +kernel) (by decide)
theorem dX9_get_16 : decode cX9_get 16 = .ok (.iload_n 1, 1) := dc_27 (by decide +kernel)
theorem dX9_get_17 : decode cX9_get 17 = .ok (.imul, 1) := dc_104 (by decide +kernel)
theorem dX9_get_18 : decode cX9_get 18 = .ok (.iload_n 2, 1) := dc_28 (by decide +kernel)
theorem dX9_get_19 : decode cX9_get 19 = .ok (.iadd, 1) := dc_96 (by decide +kernel)
theorem dX9_get_20 : decode cX9_get 20 = .ok (.iaload, 1) := dc_46 (by decide +kernel)
theorem dX9_get_21 : decode cX9_get 21 = .ok (.goto 5, 3) := dc_167 (a := 0) (b := 5) (by decide +kernel) (by decide)
theorem dX9_get_24 : decode cX9_get 24 = .ok (.bipush (-4), 2) := dc_16 (a := 252) (by decide +kernel) (by decide)
theorem dX9_get_26 : decode cX9_get 26 = .ok (.ireturn, 1) := dc_172 (by decide +kernel)
set_option maxRecDepth 100000 in
set_option maxHeartbeats 4000000 in
theorem m_Stock_get (a1 : Int32) (a2 : Int32) (S S' : SS) (r : Int32) (h : f_Stock_get a1 a2 S = some (r, S')) : MT yX9_get cX9_get 3 (some .int) 0 0 (fun ad => [.ref (ad 65), .int a1, .int a2]) S (some (.int r)) S' := by
  refine MT.of RX9 (fun ad => [(0, .ref (ad 65)), (1, .int a1), (2, .int a2)]) (by decide) rfl (fun _ => Nat.le_of_ble_eq_true rfl) (fun _ => rfl) ?_
  intro p l e R s m args below meth c dC dI cs ad A hR1 hR2 F H locs ls w hl
  have hx := F.1.1
  have hb := F.1.2.1
  rw [f_Stock_get] at h
  refine lv_iload_n (pc := 0) hx hb dX9_get_0 rfl (lv_at hl 1 rfl) ?_
  refine lv_if_lt (pc := 1) (tgt := 24) hx hb dX9_get_1 (by decide) (fun q => ?_) (fun q => ?_)
  · have h := ite_t q h
    refine lv_bipush (pc := 24) (v := -4) hx hb dX9_get_24 (by decide) ?_
    exact s_iret F w h dX9_get_26
  · have h := ite_f q h
    refine lv_iload_n (pc := 4) hx hb dX9_get_4 rfl (lv_at hl 1 rfl) ?_
    refine lv_bipush (pc := 5) (v := 72) hx hb dX9_get_5 (by decide) ?_
    refine lv_icmp_ge (pc := 7) (tgt := 24) hx hb dX9_get_7 (by decide) (fun q => ?_) (fun q => ?_)
    · have h := ite_t q h
      refine lv_bipush (pc := 24) (v := -4) hx hb dX9_get_24 (by decide) ?_
      exact s_iret F w h dX9_get_26
    · have h := ite_f q h
      refine lv_aload_n (pc := 10) hx hb dX9_get_10 rfl (lv_at hl 0 rfl) ?_
      refine s_getR (pc := 11) F w 91 ds_65 (j := 0) vc_X9 vi_X9 rfl (by decide) kf_X9_13 dX9_get_11 ?_
      refine lv_bipush (pc := 14) (v := 6) hx hb dX9_get_14 (by decide) ?_
      refine lv_iload_n (pc := 16) hx hb dX9_get_16 rfl (lv_at hl 1 rfl) ?_
      refine lv_imul (pc := 17) hx hb dX9_get_17 ?_
      refine lv_iload_n (pc := 18) hx hb dX9_get_18 rfl (lv_at hl 2 rfl) ?_
      refine lv_iadd (pc := 19) hx hb dX9_get_19 ?_
      refine s_iald (pc := 20) F w ds_91 h dX9_get_20 (fun h => ?_)
      refine lv_goto (pc := 21) (tgt := 26) hx hb dX9_get_21 (by decide) ?_
      exact s_iret F w h dX9_get_26
def f_Stock_isAs (a1 : Int32) (a2 : Int32) (S : SS) : Option (Int32 × SS) :=
  bnd (f_Stock_get a1 (0 : Int32) S) (fun r2 S1 =>
  if r2 < 0 then
    some ((0 : Int32), S1)
  else
    if ((a2 >>> (r2 &&& 31)) &&& (1 : Int32)) = (1 : Int32) then
      some ((1 : Int32), S1)
    else
      some ((0 : Int32), S1))
theorem dX9_isAs_0 : decode cX9_isAs 0 = .ok (.aload_n 0, 1) := dc_42 (by decide +kernel)
theorem dX9_isAs_1 : decode cX9_isAs 1 = .ok (.iload_n 1, 1) := dc_27 (by decide +kernel)
theorem dX9_isAs_2 : decode cX9_isAs 2 = .ok (.iconst 0, 1) := dc_3 (by decide +kernel)
theorem dX9_isAs_3 : decode cX9_isAs 3 = .ok (.invokevirtual 24, 3) := dc_182 (a := 0) (b := 24) (by decide +kernel)
theorem dX9_isAs_6 : decode cX9_isAs 6 = .ok (.istore_n 3, 1) := dc_62 (by decide +kernel)
theorem dX9_isAs_7 : decode cX9_isAs 7 = .ok (.iload_n 3, 1) := dc_29 (by decide +kernel)
theorem dX9_isAs_8 : decode cX9_isAs 8 = .ok (.ifCond .lt 16, 3) := dc_155 (a := 0) (b := 16) (by decide +kernel) (by decide)
theorem dX9_isAs_11 : decode cX9_isAs 11 = .ok (.iload_n 2, 1) := dc_28 (by decide +kernel)
theorem dX9_isAs_12 : decode cX9_isAs 12 = .ok (.iload_n 3, 1) := dc_29 (by decide +kernel)
theorem dX9_isAs_13 : decode cX9_isAs 13 = .ok (.ishr, 1) := dc_122 (by decide +kernel)
theorem dX9_isAs_14 : decode cX9_isAs 14 = .ok (.iconst 1, 1) := dc_4 (by decide +kernel)
theorem dX9_isAs_15 : decode cX9_isAs 15 = .ok (.iand, 1) := dc_126 (by decide +kernel)
theorem dX9_isAs_16 : decode cX9_isAs 16 = .ok (.iconst 1, 1) := dc_4 (by decide +kernel)
theorem dX9_isAs_17 : decode cX9_isAs 17 = .ok (.if_icmp .ne 7, 3) := dc_160 (a := 0) (b := 7) (by decide +kernel) (by decide)
theorem dX9_isAs_20 : decode cX9_isAs 20 = .ok (.iconst 1, 1) := dc_4 (by decide +kernel)
theorem dX9_isAs_21 : decode cX9_isAs 21 = .ok (.goto 4, 3) := dc_167 (a := 0) (b := 4) (by decide +kernel) (by decide)
theorem dX9_isAs_24 : decode cX9_isAs 24 = .ok (.iconst 0, 1) := dc_3 (by decide +kernel)
theorem dX9_isAs_25 : decode cX9_isAs 25 = .ok (.ireturn, 1) := dc_172 (by decide +kernel)
set_option maxRecDepth 100000 in
set_option maxHeartbeats 4000000 in
theorem m_Stock_isAs (a1 : Int32) (a2 : Int32) (S S' : SS) (r : Int32) (h : f_Stock_isAs a1 a2 S = some (r, S')) : MT yX9_isAs cX9_isAs 4 (some .boolean) 1 22 (fun ad => [.ref (ad 65), .int a1, .int a2]) S (some (.int r)) S' := by
  refine MT.of RX9 (fun ad => [(0, .ref (ad 65)), (1, .int a1), (2, .int a2)]) (by decide) rfl (fun _ => Nat.le_of_ble_eq_true rfl) (fun _ => rfl) ?_
  intro p l e R s m args below meth c dC dI cs ad A hR1 hR2 F H locs ls w hl
  have hx := F.1.1
  have hb := F.1.2.1
  rw [f_Stock_isAs] at h
  refine lv_aload_n (pc := 0) hx hb dX9_isAs_0 rfl (lv_at hl 0 rfl) ?_
  refine lv_iload_n (pc := 1) hx hb dX9_isAs_1 rfl (lv_at hl 1 rfl) ?_
  refine lv_iconst (pc := 2) (v := 0) hx hb dX9_isAs_2 (by decide) ?_
  obtain ⟨r2, S1, hc, h⟩ := bnd_t h
  refine s_cvi (pc := 3) [.int a1, .int (0 : Int32)] (fun ad => [.ref (ad 65), .int a1, .int (0 : Int32)]) F w (m_Stock_get _ _ _ _ _ hc) rfl rfl hl.1 ds_65 vc_X9 rfl ok_X9_get rfl kc_X9_get kl_X9_24 ki_X9_get kv_X9_get kn_X9 ⟨Nat.le_trans (by decide) hR1, Nat.le_trans (by decide) hR2⟩ ⟨Nat.zero_le _, Nat.zero_le _⟩ (Nat.le_of_ble_eq_true rfl) dX9_isAs_3 (fun H locs w => ?_)
  refine lv_istore_n (pc := 6) (lv' := [(3, .int r2), (0, .ref (ad 65)), (1, .int a1), (2, .int a2)]) hx hb dX9_isAs_6 rfl hl (by decide) rfl (fun ls hl => ?_)
  refine lv_iload_n (pc := 7) hx hb dX9_isAs_7 rfl (lv_at hl 0 rfl) ?_
  refine lv_if_lt (pc := 8) (tgt := 24) hx hb dX9_isAs_8 (by decide) (fun q => ?_) (fun q => ?_)
  · have h := ite_t q h
    refine lv_iconst (pc := 24) (v := 0) hx hb dX9_isAs_24 (by decide) ?_
    exact s_zretc F w rfl h dX9_isAs_25
  · have h := ite_f q h
    refine lv_iload_n (pc := 11) hx hb dX9_isAs_11 rfl (lv_at hl 3 rfl) ?_
    refine lv_iload_n (pc := 12) hx hb dX9_isAs_12 rfl (lv_at hl 0 rfl) ?_
    refine lv_ishr (pc := 13) hx hb dX9_isAs_13 ?_
    refine lv_iconst (pc := 14) (v := 1) hx hb dX9_isAs_14 (by decide) ?_
    refine lv_iand (pc := 15) hx hb dX9_isAs_15 ?_
    refine lv_iconst (pc := 16) (v := 1) hx hb dX9_isAs_16 (by decide) ?_
    refine lv_icmp_ne (pc := 17) (tgt := 24) hx hb dX9_isAs_17 (by decide) (fun q => ?_) (fun q => ?_)
    · have h := ite_f q h
      refine lv_iconst (pc := 24) (v := 0) hx hb dX9_isAs_24 (by decide) ?_
      exact s_zretc F w rfl h dX9_isAs_25
    · have h := ite_t q h
      refine lv_iconst (pc := 20) (v := 1) hx hb dX9_isAs_20 (by decide) ?_
      refine lv_goto (pc := 21) (tgt := 25) hx hb dX9_isAs_21 (by decide) ?_
      exact s_zretc F w rfl h dX9_isAs_25
def f_State_isThere (a1 : Int32) (S : SS) : Option (Int32 × SS) :=
  bnd (f_State_get a1 (0 : Int32) S) (fun r2 S1 =>
  if r2 < 0 then
    some ((0 : Int32), S1)
  else
    some ((1 : Int32), S1))
theorem dX8_isThere_0 : decode cX8_isThere 0 = .ok (.aload_n 0, 1) := dc_42 (by decide +kernel)
theorem dX8_isThere_1 : decode cX8_isThere 1 = .ok (.iload_n 1, 1) := dc_27 (by decide +kernel)
theorem dX8_isThere_2 : decode cX8_isThere 2 = .ok (.iconst 0, 1) := dc_3 (by decide +kernel)
theorem dX8_isThere_3 : decode cX8_isThere 3 = .ok (.invokevirtual 31, 3) := dc_182 (a := 0) (b := 31) (by decide +kernel)
theorem dX8_isThere_6 : decode cX8_isThere 6 = .ok (.ifCond .lt 7, 3) := dc_155 (a := 0) (b := 7) (by decide +kernel) (by decide)
theorem dX8_isThere_9 : decode cX8_isThere 9 = .ok (.iconst 1, 1) := dc_4 (by decide +kernel)
theorem dX8_isThere_10 : decode cX8_isThere 10 = .ok (.goto 4, 3) := dc_167 (a := 0) (b := 4) (by decide +kernel) (by decide)
theorem dX8_isThere_13 : decode cX8_isThere 13 = .ok (.iconst 0, 1) := dc_3 (by decide +kernel)
theorem dX8_isThere_14 : decode cX8_isThere 14 = .ok (.ireturn, 1) := dc_172 (by decide +kernel)
set_option maxRecDepth 100000 in
set_option maxHeartbeats 4000000 in
theorem m_State_isThere (a1 : Int32) (S S' : SS) (r : Int32) (h : f_State_isThere a1 S = some (r, S')) : MT yX8_isThere cX8_isThere 2 (some .boolean) 1 22 (fun ad => [.ref (ad 63), .int a1]) S (some (.int r)) S' := by
  refine MT.of RX8 (fun ad => [(0, .ref (ad 63)), (1, .int a1)]) (by decide) rfl (fun _ => Nat.le_of_ble_eq_true rfl) (fun _ => rfl) ?_
  intro p l e R s m args below meth c dC dI cs ad A hR1 hR2 F H locs ls w hl
  have hx := F.1.1
  have hb := F.1.2.1
  rw [f_State_isThere] at h
  refine lv_aload_n (pc := 0) hx hb dX8_isThere_0 rfl (lv_at hl 0 rfl) ?_
  refine lv_iload_n (pc := 1) hx hb dX8_isThere_1 rfl (lv_at hl 1 rfl) ?_
  refine lv_iconst (pc := 2) (v := 0) hx hb dX8_isThere_2 (by decide) ?_
  obtain ⟨r2, S1, hc, h⟩ := bnd_t h
  refine s_cvi (pc := 3) [.int a1, .int (0 : Int32)] (fun ad => [.ref (ad 63), .int a1, .int (0 : Int32)]) F w (m_State_get _ _ _ _ _ hc) rfl rfl hl.1 ds_63 vc_X8 rfl ok_X8_get rfl kc_X8_get kl_X8_31 ki_X8_get kv_X8_get kn_X8 ⟨Nat.le_trans (by decide) hR1, Nat.le_trans (by decide) hR2⟩ ⟨Nat.zero_le _, Nat.zero_le _⟩ (Nat.le_of_ble_eq_true rfl) dX8_isThere_3 (fun H locs w => ?_)
  refine lv_if_lt (pc := 6) (tgt := 13) hx hb dX8_isThere_6 (by decide) (fun q => ?_) (fun q => ?_)
  · have h := ite_t q h
    refine lv_iconst (pc := 13) (v := 0) hx hb dX8_isThere_13 (by decide) ?_
    exact s_zretc F w rfl h dX8_isThere_14
  · have h := ite_f q h
    refine lv_iconst (pc := 9) (v := 1) hx hb dX8_isThere_9 (by decide) ?_
    refine lv_goto (pc := 10) (tgt := 14) hx hb dX8_isThere_10 (by decide) ?_
    exact s_zretc F w rfl h dX8_isThere_14
def f_Yard_named (a1 : Int32) (a2 : Int32) (S : SS) : Option (Int32 × SS) :=
  bnd (f_Yard_isNot a1 (0 : Int32) (71 : Int32) S) (fun r2 S1 =>
  if r2 = 0 then
    if a1 < (S1.1 63 1) then
      bnd (f_Stock_isAs a1 a2 S1) (fun r4 S3 =>
      if r4 = 0 then
        some ((2 : Int32), S3)
      else
        bnd (f_State_isThere a1 S3) (fun r6 S5 =>
        if r6 = 0 then
          some ((1 : Int32), S5)
        else
          some ((0 : Int32), S5)))
    else
      some ((1 : Int32), S1)
  else
    some ((3 : Int32), S1))
theorem dX11_named_0 : decode cX11_named 0 = .ok (.iload_n 1, 1) := dc_27 (by decide +kernel)
theorem dX11_named_1 : decode cX11_named 1 = .ok (.iconst 0, 1) := dc_3 (by decide +kernel)
theorem dX11_named_2 : decode cX11_named 2 = .ok (.bipush 71, 2) := dc_16 (a := 71) (by decide +kernel) (by decide)
theorem dX11_named_4 : decode cX11_named 4 = .ok (.invokestatic 108, 3) := dc_184 (a := 0) (b := 108) (by decide +kernel)
theorem dX11_named_7 : decode cX11_named 7 = .ok (.ifCond .eq 5, 3) := dc_153 (a := 0) (b := 5) (by decide +kernel) (by decide)
theorem dX11_named_10 : decode cX11_named 10 = .ok (.iconst 3, 1) := dc_6 (by decide +kernel)
theorem dX11_named_11 : decode cX11_named 11 = .ok (.ireturn, 1) := dc_172 (by decide +kernel)
theorem dX11_named_12 : decode cX11_named 12 = .ok (.iload_n 1, 1) := dc_27 (by decide +kernel)
theorem dX11_named_13 : decode cX11_named 13 = .ok (.aload_n 0, 1) := dc_42 (by decide +kernel)
theorem dX11_named_14 : decode cX11_named 14 = .ok (.getfield 19, 3) := dc_180 (a := 0) (b := 19) (by decide +kernel)
theorem dX11_named_17 : decode cX11_named 17 = .ok (.getfield 140, 3) := dc_180 (a := 0) (b := 140) (by decide +kernel)
theorem dX11_named_20 : decode cX11_named 20 = .ok (.if_icmp .lt 5, 3) := dc_161 (a := 0) (b := 5) (by decide +kernel) (by decide)
theorem dX11_named_23 : decode cX11_named 23 = .ok (.iconst 1, 1) := dc_4 (by decide +kernel)
theorem dX11_named_24 : decode cX11_named 24 = .ok (.ireturn, 1) := dc_172 (by decide +kernel)
theorem dX11_named_25 : decode cX11_named 25 = .ok (.aload_n 0, 1) := dc_42 (by decide +kernel)
theorem dX11_named_26 : decode cX11_named 26 = .ok (.getfield 33, 3) := dc_180 (a := 0) (b := 33) (by decide +kernel)
theorem dX11_named_29 : decode cX11_named 29 = .ok (.iload_n 1, 1) := dc_27 (by decide +kernel)
theorem dX11_named_30 : decode cX11_named 30 = .ok (.iload_n 2, 1) := dc_28 (by decide +kernel)
theorem dX11_named_31 : decode cX11_named 31 = .ok (.invokevirtual 247, 3) := dc_182 (a := 0) (b := 247) (by decide +kernel)
theorem dX11_named_34 : decode cX11_named 34 = .ok (.ifCond .ne 5, 3) := dc_154 (a := 0) (b := 5) (by decide +kernel) (by decide)
theorem dX11_named_37 : decode cX11_named 37 = .ok (.iconst 2, 1) := dc_5 (by decide +kernel)
theorem dX11_named_38 : decode cX11_named 38 = .ok (.ireturn, 1) := dc_172 (by decide +kernel)
theorem dX11_named_39 : decode cX11_named 39 = .ok (.aload_n 0, 1) := dc_42 (by decide +kernel)
theorem dX11_named_40 : decode cX11_named 40 = .ok (.getfield 19, 3) := dc_180 (a := 0) (b := 19) (by decide +kernel)
theorem dX11_named_43 : decode cX11_named 43 = .ok (.iload_n 1, 1) := dc_27 (by decide +kernel)
theorem dX11_named_44 : decode cX11_named 44 = .ok (.invokevirtual 410, 3) := dc_182 (a := 1) (b := 154) (by decide +kernel)
theorem dX11_named_47 : decode cX11_named 47 = .ok (.ifCond .eq 7, 3) := dc_153 (a := 0) (b := 7) (by decide +kernel) (by decide)
theorem dX11_named_50 : decode cX11_named 50 = .ok (.iconst 0, 1) := dc_3 (by decide +kernel)
theorem dX11_named_51 : decode cX11_named 51 = .ok (.goto 4, 3) := dc_167 (a := 0) (b := 4) (by decide +kernel) (by decide)
theorem dX11_named_54 : decode cX11_named 54 = .ok (.iconst 1, 1) := dc_4 (by decide +kernel)
theorem dX11_named_55 : decode cX11_named 55 = .ok (.ireturn, 1) := dc_172 (by decide +kernel)
set_option maxRecDepth 100000 in
set_option maxHeartbeats 4000000 in
theorem m_Yard_named (a1 : Int32) (a2 : Int32) (S S' : SS) (r : Int32) (h : f_Yard_named a1 a2 S = some (r, S')) : MT yX11_named cX11_named 3 (some .int) 2 45 (fun ad => [.ref (ad 61), .int a1, .int a2]) S (some (.int r)) S' := by
  refine MT.of RX11 (fun ad => [(0, .ref (ad 61)), (1, .int a1), (2, .int a2)]) (by decide) rfl (fun _ => Nat.le_of_ble_eq_true rfl) (fun _ => rfl) ?_
  intro p l e R s m args below meth c dC dI cs ad A hR1 hR2 F H locs ls w hl
  have hx := F.1.1
  have hb := F.1.2.1
  rw [f_Yard_named] at h
  refine lv_iload_n (pc := 0) hx hb dX11_named_0 rfl (lv_at hl 1 rfl) ?_
  refine lv_iconst (pc := 1) (v := 0) hx hb dX11_named_1 (by decide) ?_
  refine lv_bipush (pc := 2) (v := 71) hx hb dX11_named_2 (by decide) ?_
  obtain ⟨r2, S1, hc, h⟩ := bnd_t h
  refine s_csi (pc := 4) [.int a1, .int (0 : Int32), .int (71 : Int32)] (fun ad => [.int a1, .int (0 : Int32), .int (71 : Int32)]) F w (m_Yard_isNot _ _ _ _ _ _ hc) rfl rfl hl.1 ok_X11_isNot rfl kc_X11_isNot kl_X11_108 ks_X11_isNot kn_X11 ⟨Nat.le_trans (by decide) hR1, Nat.le_trans (by decide) hR2⟩ ⟨Nat.zero_le _, Nat.zero_le _⟩ (Nat.le_of_ble_eq_true rfl) dX11_named_4 (fun H locs w => ?_)
  refine lv_if_eq (pc := 7) (tgt := 12) hx hb dX11_named_7 (by decide) (fun q => ?_) (fun q => ?_)
  · have h := ite_t q h
    refine lv_iload_n (pc := 12) hx hb dX11_named_12 rfl (lv_at hl 1 rfl) ?_
    refine lv_aload_n (pc := 13) hx hb dX11_named_13 rfl (lv_at hl 0 rfl) ?_
    refine s_getR (pc := 14) F w 63 ds_61 (j := 1) vc_X11 vi_X11 rfl (by decide) kf_X11_19 dX11_named_14 ?_
    refine s_getI (pc := 17) F w ds_63 (j := 1) vc_X8 vi_X8 rfl (by decide) kf_X11_140 dX11_named_17 ?_
    refine lv_icmp_lt (pc := 20) (tgt := 25) hx hb dX11_named_20 (by decide) (fun q => ?_) (fun q => ?_)
    · have h := ite_t q h
      refine lv_aload_n (pc := 25) hx hb dX11_named_25 rfl (lv_at hl 0 rfl) ?_
      refine s_getR (pc := 26) F w 65 ds_61 (j := 3) vc_X11 vi_X11 rfl (by decide) kf_X11_33 dX11_named_26 ?_
      refine lv_iload_n (pc := 29) hx hb dX11_named_29 rfl (lv_at hl 1 rfl) ?_
      refine lv_iload_n (pc := 30) hx hb dX11_named_30 rfl (lv_at hl 2 rfl) ?_
      obtain ⟨r4, S3, hc, h⟩ := bnd_t h
      refine s_cvi (pc := 31) [.int a1, .int a2] (fun ad => [.ref (ad 65), .int a1, .int a2]) F w (m_Stock_isAs _ _ _ _ _ hc) rfl rfl hl.1 ds_65 vc_X9 rfl ok_X9_isAs rfl kc_X9_isAs kl_X11_247 ki_X9_isAs kv_X9_isAs kn_X9 ⟨Nat.le_trans (by decide) hR1, Nat.le_trans (by decide) hR2⟩ ⟨Nat.zero_le _, Nat.zero_le _⟩ (Nat.le_of_ble_eq_true rfl) dX11_named_31 (fun H locs w => ?_)
      refine lv_if_ne (pc := 34) (tgt := 39) hx hb dX11_named_34 (by decide) (fun q => ?_) (fun q => ?_)
      · have h := ite_f q h
        refine lv_aload_n (pc := 39) hx hb dX11_named_39 rfl (lv_at hl 0 rfl) ?_
        refine s_getR (pc := 40) F w 63 ds_61 (j := 1) vc_X11 vi_X11 rfl (by decide) kf_X11_19 dX11_named_40 ?_
        refine lv_iload_n (pc := 43) hx hb dX11_named_43 rfl (lv_at hl 1 rfl) ?_
        obtain ⟨r6, S5, hc, h⟩ := bnd_t h
        refine s_cvi (pc := 44) [.int a1] (fun ad => [.ref (ad 63), .int a1]) F w (m_State_isThere _ _ _ _ hc) rfl rfl hl.1 ds_63 vc_X8 rfl ok_X8_isThere rfl kc_X8_isThere kl_X11_410 ki_X8_isThere kv_X8_isThere kn_X8 ⟨Nat.le_trans (by decide) hR1, Nat.le_trans (by decide) hR2⟩ ⟨Nat.zero_le _, Nat.zero_le _⟩ (Nat.le_of_ble_eq_true rfl) dX11_named_44 (fun H locs w => ?_)
        refine lv_if_eq (pc := 47) (tgt := 54) hx hb dX11_named_47 (by decide) (fun q => ?_) (fun q => ?_)
        · have h := ite_t q h
          refine lv_iconst (pc := 54) (v := 1) hx hb dX11_named_54 (by decide) ?_
          exact s_iret F w h dX11_named_55
        · have h := ite_f q h
          refine lv_iconst (pc := 50) (v := 0) hx hb dX11_named_50 (by decide) ?_
          refine lv_goto (pc := 51) (tgt := 55) hx hb dX11_named_51 (by decide) ?_
          exact s_iret F w h dX11_named_55
      · have h := ite_t q h
        refine lv_iconst (pc := 37) (v := 2) hx hb dX11_named_37 (by decide) ?_
        exact s_iret F w h dX11_named_38
    · have h := ite_f q h
      refine lv_iconst (pc := 23) (v := 1) hx hb dX11_named_23 (by decide) ?_
      exact s_iret F w h dX11_named_24
  · have h := ite_f q h
    refine lv_iconst (pc := 10) (v := 3) hx hb dX11_named_10 (by decide) ?_
    exact s_iret F w h dX11_named_11
def f_Stock_putPiece (a1 : Int32) (a2 : Int32) (a3 : Int32) (S : SS) : Option (Int32 × SS) :=
  if a1 < 0 then
    some (a3, S)
  else
    if (72 : Int32) ≤ a1 then
      some (a3, S)
    else
      if a2 < 0 then
        some (a3, S)
      else
        if a2 < (20 : Int32) then
          grd (inb (((20 : Int32) * a1) + a2) 1440) (
          nm (S.1 92 (((20 : Int32) * a1) + a2).toNatClampNeg) (fun z1 =>
          grd (inb (((20 : Int32) * a1) + a2) 1440) (wr S 92 (((20 : Int32) * a1) + a2).toNatClampNeg a3 (fun S2 =>
          some (z1, S2)))))
        else
          some (a3, S)
theorem dX9_putPiece_0 : decode cX9_putPiece 0 = .ok (.iload_n 1, 1) := dc_27 (by decide +kernel)
theorem dX9_putPiece_1 : decode cX9_putPiece 1 = .ok (.ifCond .lt 19, 3) := dc_155 (a := 0) (b := 19) (by decide +kernel) (by decide)
theorem dX9_putPiece_4 : decode cX9_putPiece 4 = .ok (.iload_n 1, 1) := dc_27 (by decide +kernel)
theorem dX9_putPiece_5 : decode cX9_putPiece 5 = .ok (.bipush 72, 2) := dc_16 (a := 72) (by decide +kernel) (by decide)
theorem dX9_putPiece_7 : decode cX9_putPiece 7 = .ok (.if_icmp .ge 13, 3) := dc_162 (a := 0) (b := 13) (by decide +kernel) (by decide)
theorem dX9_putPiece_10 : decode cX9_putPiece 10 = .ok (.iload_n 2, 1) := dc_28 (by decide +kernel)
theorem dX9_putPiece_11 : decode cX9_putPiece 11 = .ok (.ifCond .lt 9, 3) := dc_155 (a := 0) (b := 9) (by decide +kernel) (by decide)
theorem dX9_putPiece_14 : decode cX9_putPiece 14 = .ok (.iload_n 2, 1) := dc_28 (by decide +kernel)
theorem dX9_putPiece_15 : decode cX9_putPiece 15 = .ok (.bipush 20, 2) := dc_16 (a := 20) (by decide +kernel) (by decide)
theorem dX9_putPiece_17 : decode cX9_putPiece 17 = .ok (.if_icmp .lt 5, 3) := dc_161 (a := 0) (b := 5) (by decide +kernel) (by decide)
theorem dX9_putPiece_20 : decode cX9_putPiece 20 = .ok (.iload_n 3, 1) := dc_29 (by decide +kernel)
theorem dX9_putPiece_21 : decode cX9_putPiece 21 = .ok (.ireturn, 1) := dc_172 (by decide +kernel)
theorem dX9_putPiece_22 : decode cX9_putPiece 22 = .ok (.aload_n 0, 1) := dc_42 (by decide +kernel)
theorem dX9_putPiece_23 : decode cX9_putPiece 23 = .ok (.getfield 17, 3) := dc_180 (a := 0) (b := 17) (by decide +kernel)
theorem dX9_putPiece_26 : decode cX9_putPiece 26 = .ok (.bipush 20, 2) := dc_16 (a := 20) (by decide +kernel) (by decide)
theorem dX9_putPiece_28 : decode cX9_putPiece 28 = .ok (.iload_n 1, 1) := dc_27 (by decide +kernel)
theorem dX9_putPiece_29 : decode cX9_putPiece 29 = .ok (.imul, 1) := dc_104 (by decide +kernel)
theorem dX9_putPiece_30 : decode cX9_putPiece 30 = .ok (.iload_n 2, 1) := dc_28 (by decide +kernel)
theorem dX9_putPiece_31 : decode cX9_putPiece 31 = .ok (.iadd, 1) := dc_96 (by decide +kernel)
theorem dX9_putPiece_32 : decode cX9_putPiece 32 = .ok (.iaload, 1) := dc_46 (by decide +kernel)
theorem dX9_putPiece_33 : decode cX9_putPiece 33 = .ok (.istore 4, 2) := dc_54 (a := 4) (by decide +kernel)
theorem dX9_putPiece_35 : decode cX9_putPiece 35 = .ok (.aload_n 0, 1) := dc_42 (by decide +kernel)
theorem dX9_putPiece_36 : decode cX9_putPiece 36 = .ok (.getfield 17, 3) := dc_180 (a := 0) (b := 17) (by decide +kernel)
theorem dX9_putPiece_39 : decode cX9_putPiece 39 = .ok (.bipush 20, 2) := dc_16 (a := 20) (by decide +kernel) (by decide)
theorem dX9_putPiece_41 : decode cX9_putPiece 41 = .ok (.iload_n 1, 1) := dc_27 (by decide +kernel)
theorem dX9_putPiece_42 : decode cX9_putPiece 42 = .ok (.imul, 1) := dc_104 (by decide +kernel)
theorem dX9_putPiece_43 : decode cX9_putPiece 43 = .ok (.iload_n 2, 1) := dc_28 (by decide +kernel)
theorem dX9_putPiece_44 : decode cX9_putPiece 44 = .ok (.iadd, 1) := dc_96 (by decide +kernel)
theorem dX9_putPiece_45 : decode cX9_putPiece 45 = .ok (.iload_n 3, 1) := dc_29 (by decide +kernel)
theorem dX9_putPiece_46 : decode cX9_putPiece 46 = .ok (.iastore, 1) := dc_79 (by decide +kernel)
theorem dX9_putPiece_47 : decode cX9_putPiece 47 = .ok (.iload 4, 2) := dc_21 (a := 4) (by decide +kernel)
theorem dX9_putPiece_49 : decode cX9_putPiece 49 = .ok (.ireturn, 1) := dc_172 (by decide +kernel)
set_option maxRecDepth 100000 in
set_option maxHeartbeats 4000000 in
theorem m_Stock_putPiece (a1 : Int32) (a2 : Int32) (a3 : Int32) (S S' : SS) (r : Int32) (h : f_Stock_putPiece a1 a2 a3 S = some (r, S')) : MT yX9_putPiece cX9_putPiece 5 (some .int) 0 0 (fun ad => [.ref (ad 65), .int a1, .int a2, .int a3]) S (some (.int r)) S' := by
  refine MT.of RX9 (fun ad => [(0, .ref (ad 65)), (1, .int a1), (2, .int a2), (3, .int a3)]) (by decide) rfl (fun _ => Nat.le_of_ble_eq_true rfl) (fun _ => rfl) ?_
  intro p l e R s m args below meth c dC dI cs ad A hR1 hR2 F H locs ls w hl
  have hx := F.1.1
  have hb := F.1.2.1
  rw [f_Stock_putPiece] at h
  refine lv_iload_n (pc := 0) hx hb dX9_putPiece_0 rfl (lv_at hl 1 rfl) ?_
  refine lv_if_lt (pc := 1) (tgt := 20) hx hb dX9_putPiece_1 (by decide) (fun q => ?_) (fun q => ?_)
  · have h := ite_t q h
    refine lv_iload_n (pc := 20) hx hb dX9_putPiece_20 rfl (lv_at hl 3 rfl) ?_
    exact s_iret F w h dX9_putPiece_21
  · have h := ite_f q h
    refine lv_iload_n (pc := 4) hx hb dX9_putPiece_4 rfl (lv_at hl 1 rfl) ?_
    refine lv_bipush (pc := 5) (v := 72) hx hb dX9_putPiece_5 (by decide) ?_
    refine lv_icmp_ge (pc := 7) (tgt := 20) hx hb dX9_putPiece_7 (by decide) (fun q => ?_) (fun q => ?_)
    · have h := ite_t q h
      refine lv_iload_n (pc := 20) hx hb dX9_putPiece_20 rfl (lv_at hl 3 rfl) ?_
      exact s_iret F w h dX9_putPiece_21
    · have h := ite_f q h
      refine lv_iload_n (pc := 10) hx hb dX9_putPiece_10 rfl (lv_at hl 2 rfl) ?_
      refine lv_if_lt (pc := 11) (tgt := 20) hx hb dX9_putPiece_11 (by decide) (fun q => ?_) (fun q => ?_)
      · have h := ite_t q h
        refine lv_iload_n (pc := 20) hx hb dX9_putPiece_20 rfl (lv_at hl 3 rfl) ?_
        exact s_iret F w h dX9_putPiece_21
      · have h := ite_f q h
        refine lv_iload_n (pc := 14) hx hb dX9_putPiece_14 rfl (lv_at hl 2 rfl) ?_
        refine lv_bipush (pc := 15) (v := 20) hx hb dX9_putPiece_15 (by decide) ?_
        refine lv_icmp_lt (pc := 17) (tgt := 22) hx hb dX9_putPiece_17 (by decide) (fun q => ?_) (fun q => ?_)
        · have h := ite_t q h
          refine lv_aload_n (pc := 22) hx hb dX9_putPiece_22 rfl (lv_at hl 0 rfl) ?_
          refine s_getR (pc := 23) F w 92 ds_65 (j := 1) vc_X9 vi_X9 rfl (by decide) kf_X9_17 dX9_putPiece_23 ?_
          refine lv_bipush (pc := 26) (v := 20) hx hb dX9_putPiece_26 (by decide) ?_
          refine lv_iload_n (pc := 28) hx hb dX9_putPiece_28 rfl (lv_at hl 1 rfl) ?_
          refine lv_imul (pc := 29) hx hb dX9_putPiece_29 ?_
          refine lv_iload_n (pc := 30) hx hb dX9_putPiece_30 rfl (lv_at hl 2 rfl) ?_
          refine lv_iadd (pc := 31) hx hb dX9_putPiece_31 ?_
          refine s_iald (pc := 32) F w ds_92 h dX9_putPiece_32 (fun h => ?_)
          refine s_nm h (fun z1 ez1 h => ?_)
          rw [← ez1]
          refine lv_istore (pc := 33) (lv' := [(4, .int z1), (0, .ref (ad 65)), (1, .int a1), (2, .int a2), (3, .int a3)]) hx hb dX9_putPiece_33 hl (by decide) rfl (fun ls hl => ?_)
          refine lv_aload_n (pc := 35) hx hb dX9_putPiece_35 rfl (lv_at hl 1 rfl) ?_
          refine s_getR (pc := 36) F w 92 ds_65 (j := 1) vc_X9 vi_X9 rfl (by decide) kf_X9_17 dX9_putPiece_36 ?_
          refine lv_bipush (pc := 39) (v := 20) hx hb dX9_putPiece_39 (by decide) ?_
          refine lv_iload_n (pc := 41) hx hb dX9_putPiece_41 rfl (lv_at hl 2 rfl) ?_
          refine lv_imul (pc := 42) hx hb dX9_putPiece_42 ?_
          refine lv_iload_n (pc := 43) hx hb dX9_putPiece_43 rfl (lv_at hl 3 rfl) ?_
          refine lv_iadd (pc := 44) hx hb dX9_putPiece_44 ?_
          refine lv_iload_n (pc := 45) hx hb dX9_putPiece_45 rfl (lv_at hl 4 rfl) ?_
          refine s_iast (pc := 46) F w ds_92 h dX9_putPiece_46 (fun S2 H locs h w => ?_)
          refine lv_iload (pc := 47) hx hb dX9_putPiece_47 (lv_at hl 0 rfl) ?_
          exact s_iret F w h dX9_putPiece_49
        · have h := ite_f q h
          refine lv_iload_n (pc := 20) hx hb dX9_putPiece_20 rfl (lv_at hl 3 rfl) ?_
          exact s_iret F w h dX9_putPiece_21
def f_Stock_newLoad_L24  : Nat → Int32 → Int32 → Int32 → SS → Option (SS)
  | 0, _, _, _, _ => none
  | n + 1, x1, x3, x4, S =>
    if x3 ≤ x4 then
      some S
    else
      bnd (f_Stock_putPiece x1 x4 (0 : Int32) S) (fun r5 S4 =>
      nm (x4 + (1 : Int32)) (fun z6 =>
      f_Stock_newLoad_L24 n x1 x3 z6 S4))
def f_Stock_newLoad (a1 : Int32) (a2 : Int32) (a3 : Int32) (S : SS) : Option (SS) :=
  bndv (f_Stock_set a1 (3 : Int32) a2 S) (fun S1 =>
  bndv (f_Stock_set a1 (4 : Int32) a3 S1) (fun S2 =>
  bndv (f_Stock_set a1 (5 : Int32) (0 : Int32) S2) (fun S3 =>
  f_Stock_newLoad_L24 NF a1 a3 (0 : Int32) S3)))
theorem dX9_newLoad_0 : decode cX9_newLoad 0 = .ok (.aload_n 0, 1) := dc_42 (by decide +kernel)
theorem dX9_newLoad_1 : decode cX9_newLoad 1 = .ok (.iload_n 1, 1) := dc_27 (by decide +kernel)
theorem dX9_newLoad_2 : decode cX9_newLoad 2 = .ok (.iconst 3, 1) := dc_6 (by decide +kernel)
theorem dX9_newLoad_3 : decode cX9_newLoad 3 = .ok (.iload_n 2, 1) := dc_28 (by decide +kernel)
theorem dX9_newLoad_4 : decode cX9_newLoad 4 = .ok (.invokevirtual 20, 3) := dc_182 (a := 0) (b := 20) (by decide +kernel)
theorem dX9_newLoad_7 : decode cX9_newLoad 7 = .ok (.aload_n 0, 1) := dc_42 (by decide +kernel)
theorem dX9_newLoad_8 : decode cX9_newLoad 8 = .ok (.iload_n 1, 1) := dc_27 (by decide +kernel)
theorem dX9_newLoad_9 : decode cX9_newLoad 9 = .ok (.iconst 4, 1) := dc_7 (by decide +kernel)
theorem dX9_newLoad_10 : decode cX9_newLoad 10 = .ok (.iload_n 3, 1) := dc_29 (by decide +kernel)
theorem dX9_newLoad_11 : decode cX9_newLoad 11 = .ok (.invokevirtual 20, 3) := dc_182 (a := 0) (b := 20) (by decide +kernel)
theorem dX9_newLoad_14 : decode cX9_newLoad 14 = .ok (.aload_n 0, 1) := dc_42 (by decide +kernel)
theorem dX9_newLoad_15 : decode cX9_newLoad 15 = .ok (.iload_n 1, 1) := dc_27 (by decide +kernel)
theorem dX9_newLoad_16 : decode cX9_newLoad 16 = .ok (.iconst 5, 1) := dc_8 (by decide +kernel)
theorem dX9_newLoad_17 : decode cX9_newLoad 17 = .ok (.iconst 0, 1) := dc_3 (by decide +kernel)
theorem dX9_newLoad_18 : decode cX9_newLoad 18 = .ok (.invokevirtual 20, 3) := dc_182 (a := 0) (b := 20) (by decide +kernel)
theorem dX9_newLoad_21 : decode cX9_newLoad 21 = .ok (.iconst 0, 1) := dc_3 (by decide +kernel)
theorem dX9_newLoad_22 : decode cX9_newLoad 22 = .ok (.istore 4, 2) := dc_54 (a := 4) (by decide +kernel)
theorem dX9_newLoad_24 : decode cX9_newLoad 24 = .ok (.iload 4, 2) := dc_21 (a := 4) (by decide +kernel)
theorem dX9_newLoad_26 : decode cX9_newLoad 26 = .ok (.iload_n 3, 1) := dc_29 (by decide +kernel)
theorem dX9_newLoad_27 : decode cX9_newLoad 27 = .ok (.if_icmp .ge 18, 3) := dc_162 (a := 0) (b := 18) (by decide +kernel) (by decide)
theorem dX9_newLoad_30 : decode cX9_newLoad 30 = .ok (.aload_n 0, 1) := dc_42 (by decide +kernel)
theorem dX9_newLoad_31 : decode cX9_newLoad 31 = .ok (.iload_n 1, 1) := dc_27 (by decide +kernel)
theorem dX9_newLoad_32 : decode cX9_newLoad 32 = .ok (.iload 4, 2) := dc_21 (a := 4) (by decide +kernel)
theorem dX9_newLoad_34 : decode cX9_newLoad 34 = .ok (.iconst 0, 1) := dc_3 (by decide +kernel)
theorem dX9_newLoad_35 : decode cX9_newLoad 35 = .ok (.invokevirtual 28, 3) := dc_182 (a := 0) (b := 28) (by decide +kernel)
theorem dX9_newLoad_38 : decode cX9_newLoad 38 = .ok (.pop, 1) := dc_87 (by decide +kernel)
theorem dX9_newLoad_39 : decode cX9_newLoad 39 = .ok (.iinc 4 1, 3) := dc_132 (a := 4) (b := 1) (by decide +kernel) (by decide)
theorem dX9_newLoad_42 : decode cX9_newLoad 42 = .ok (.goto (-18), 3) := dc_167 (a := 255) (b := 238) (by decide +kernel) (by decide)
theorem dX9_newLoad_45 : decode cX9_newLoad 45 = .ok (.return_, 1) := dc_177 (by decide +kernel)
set_option maxRecDepth 100000 in
set_option maxHeartbeats 4000000 in
theorem w_Stock_newLoad_L24 {p : Program} {l : Launch} {e : Env} {R : Room} {s : State} {m : MethodId} {args : Array Value} {below : List Frame} {meth : Method} {c : Code} {dC : Nat → ClassId} {dI : Nat → Nat → Nat} {cs : Nat → ClassId} {ad : Nat → Nat} {A : Nat → Prop} {D0 : Nat → Nat} {S' : SS} (F : Fx p s m args meth c cX9_newLoad 5 RX9 none dC dI cs A) (hR1 : 1 ≤ R.frames) (hR2 : 24 ≤ R.locals) : ∀ (n : Nat) (x1 : Int32) (x3 : Int32) (x4 : Int32) (S : SS), f_Stock_newLoad_L24 n x1 x3 x4 S = some S' → AW p l e R s m args below meth c dC dI cs ad A D0 none S' 5 24 [(0, .ref (ad 65)), (1, .int x1), (3, .int x3), (4, .int x4)] [] S := by
  have hx := F.1.1
  have hb := F.1.2.1
  intro n
  induction n with
  | zero => intro x1 x3 x4 S h; cases h
  | succ n ih =>
    intro x1 x3 x4 S h H locs ls w hl
    rw [f_Stock_newLoad_L24] at h
    refine lv_iload (pc := 24) hx hb dX9_newLoad_24 (lv_at hl 3 rfl) ?_
    refine lv_iload_n (pc := 26) hx hb dX9_newLoad_26 rfl (lv_at hl 2 rfl) ?_
    refine lv_icmp_ge (pc := 27) (tgt := 45) hx hb dX9_newLoad_27 (by decide) (fun q => ?_) (fun q => ?_)
    · have h := ite_t q h
      exact s_vret F w h dX9_newLoad_45
    · have h := ite_f q h
      refine lv_aload_n (pc := 30) hx hb dX9_newLoad_30 rfl (lv_at hl 0 rfl) ?_
      refine lv_iload_n (pc := 31) hx hb dX9_newLoad_31 rfl (lv_at hl 1 rfl) ?_
      refine lv_iload (pc := 32) hx hb dX9_newLoad_32 (lv_at hl 3 rfl) ?_
      refine lv_iconst (pc := 34) (v := 0) hx hb dX9_newLoad_34 (by decide) ?_
      obtain ⟨r5, S4, hc, h⟩ := bnd_t h
      refine s_cvi (pc := 35) [.int x1, .int x4, .int (0 : Int32)] (fun ad => [.ref (ad 65), .int x1, .int x4, .int (0 : Int32)]) F w (m_Stock_putPiece _ _ _ _ _ _ hc) rfl rfl hl.1 ds_65 vc_X9 rfl ok_X9_putPiece rfl kc_X9_putPiece kl_X9_28 ki_X9_putPiece kv_X9_putPiece kn_X9 ⟨Nat.le_trans (by decide) hR1, Nat.le_trans (by decide) hR2⟩ ⟨Nat.zero_le _, Nat.zero_le _⟩ (Nat.le_of_ble_eq_true rfl) dX9_newLoad_35 (fun H locs w => ?_)
      refine lv_pop (pc := 38) hx hb dX9_newLoad_38 rfl ?_
      refine s_nm h (fun z6 ez6 h => ?_)
      refine lv_iinc (pc := 39) (v := z6) (lv' := [(4, .int z6), (0, .ref (ad 65)), (1, .int x1), (3, .int x3)]) hx hb dX9_newLoad_39 hl (k := 3) rfl (by rw [ez6]; rfl) (by decide) rfl (fun ls hl => ?_)
      refine lv_goto (pc := 42) (tgt := 24) hx hb dX9_newLoad_42 (by decide) ?_
      exact ih _ _ _ _ h _ _ _ w (lv_sub hl [1, 2, 3, 0] rfl)
set_option maxRecDepth 100000 in
set_option maxHeartbeats 4000000 in
theorem m_Stock_newLoad (a1 : Int32) (a2 : Int32) (a3 : Int32) (S S' : SS) (h : f_Stock_newLoad a1 a2 a3 S = some S') : MT yX9_newLoad cX9_newLoad 5 none 1 24 (fun ad => [.ref (ad 65), .int a1, .int a2, .int a3]) S none S' := by
  refine MT.of RX9 (fun ad => [(0, .ref (ad 65)), (1, .int a1), (2, .int a2), (3, .int a3)]) (by decide) rfl (fun _ => Nat.le_of_ble_eq_true rfl) (fun _ => rfl) ?_
  intro p l e R s m args below meth c dC dI cs ad A hR1 hR2 F H locs ls w hl
  have hx := F.1.1
  have hb := F.1.2.1
  rw [f_Stock_newLoad] at h
  refine lv_aload_n (pc := 0) hx hb dX9_newLoad_0 rfl (lv_at hl 0 rfl) ?_
  refine lv_iload_n (pc := 1) hx hb dX9_newLoad_1 rfl (lv_at hl 1 rfl) ?_
  refine lv_iconst (pc := 2) (v := 3) hx hb dX9_newLoad_2 (by decide) ?_
  refine lv_iload_n (pc := 3) hx hb dX9_newLoad_3 rfl (lv_at hl 2 rfl) ?_
  obtain ⟨S1, hc, h⟩ := bndv_t h
  refine s_cvv (pc := 4) [.int a1, .int (3 : Int32), .int a2] (fun ad => [.ref (ad 65), .int a1, .int (3 : Int32), .int a2]) F w (m_Stock_set _ _ _ _ _ hc) rfl rfl hl.1 ds_65 vc_X9 rfl ok_X9_set rfl kc_X9_set kl_X9_20 ki_X9_set kv_X9_set kn_X9 ⟨Nat.le_trans (by decide) hR1, Nat.le_trans (by decide) hR2⟩ ⟨Nat.zero_le _, Nat.zero_le _⟩ (Nat.le_of_ble_eq_true rfl) dX9_newLoad_4 (fun H locs w => ?_)
  refine lv_aload_n (pc := 7) hx hb dX9_newLoad_7 rfl (lv_at hl 0 rfl) ?_
  refine lv_iload_n (pc := 8) hx hb dX9_newLoad_8 rfl (lv_at hl 1 rfl) ?_
  refine lv_iconst (pc := 9) (v := 4) hx hb dX9_newLoad_9 (by decide) ?_
  refine lv_iload_n (pc := 10) hx hb dX9_newLoad_10 rfl (lv_at hl 3 rfl) ?_
  obtain ⟨S2, hc, h⟩ := bndv_t h
  refine s_cvv (pc := 11) [.int a1, .int (4 : Int32), .int a3] (fun ad => [.ref (ad 65), .int a1, .int (4 : Int32), .int a3]) F w (m_Stock_set _ _ _ _ _ hc) rfl rfl hl.1 ds_65 vc_X9 rfl ok_X9_set rfl kc_X9_set kl_X9_20 ki_X9_set kv_X9_set kn_X9 ⟨Nat.le_trans (by decide) hR1, Nat.le_trans (by decide) hR2⟩ ⟨Nat.zero_le _, Nat.zero_le _⟩ (Nat.le_of_ble_eq_true rfl) dX9_newLoad_11 (fun H locs w => ?_)
  refine lv_aload_n (pc := 14) hx hb dX9_newLoad_14 rfl (lv_at hl 0 rfl) ?_
  refine lv_iload_n (pc := 15) hx hb dX9_newLoad_15 rfl (lv_at hl 1 rfl) ?_
  refine lv_iconst (pc := 16) (v := 5) hx hb dX9_newLoad_16 (by decide) ?_
  refine lv_iconst (pc := 17) (v := 0) hx hb dX9_newLoad_17 (by decide) ?_
  obtain ⟨S3, hc, h⟩ := bndv_t h
  refine s_cvv (pc := 18) [.int a1, .int (5 : Int32), .int (0 : Int32)] (fun ad => [.ref (ad 65), .int a1, .int (5 : Int32), .int (0 : Int32)]) F w (m_Stock_set _ _ _ _ _ hc) rfl rfl hl.1 ds_65 vc_X9 rfl ok_X9_set rfl kc_X9_set kl_X9_20 ki_X9_set kv_X9_set kn_X9 ⟨Nat.le_trans (by decide) hR1, Nat.le_trans (by decide) hR2⟩ ⟨Nat.zero_le _, Nat.zero_le _⟩ (Nat.le_of_ble_eq_true rfl) dX9_newLoad_18 (fun H locs w => ?_)
  refine lv_iconst (pc := 21) (v := 0) hx hb dX9_newLoad_21 (by decide) ?_
  refine lv_istore (pc := 22) (lv' := [(4, .int (0 : Int32)), (0, .ref (ad 65)), (1, .int a1), (2, .int a2), (3, .int a3)]) hx hb dX9_newLoad_22 hl (by decide) rfl (fun ls hl => ?_)
  exact w_Stock_newLoad_L24 F (Nat.le_trans (by decide) hR1) (Nat.le_trans (by decide) hR2) _ _ _ _ _ h _ _ _ w (lv_sub hl [1, 2, 4, 0] rfl)
def f_Yard_load_j45  (x1 : Int32) (x2 : Int32) (x3 : Int32) (x4 : Int32) (S : SS) : Option (Int32 × SS) :=
    if x4 = 0 then
      bndv (f_Stock_newLoad x1 x2 x3 S) (fun S6 =>
      some (x3, S6))
    else
      bnd (f_Report_found x4 S) (fun r8 S7 =>
      some (r8, S7))
def f_Yard_load (a1 : Int32) (a2 : Int32) (a3 : Int32) (S : SS) : Option (Int32 × SS) :=
  bnd (f_Yard_isNot a2 (0 : Int32) (1 : Int32) S) (fun r2 S1 =>
  if r2 = 0 then
    if a3 ≤ (20 : Int32) then
      bndv (f_Report_begin  S1) (fun S3 =>
      bnd (f_Yard_named a1 (31 : Int32) S3) (fun r5 S4 =>
      if r5 = 0 then
        if 0 ≤ a3 then
          f_Yard_load_j45 a1 a2 a3 r5 S4
        else
          f_Yard_load_j45 a1 a2 a3 (5 : Int32) S4
      else
        f_Yard_load_j45 a1 a2 a3 r5 S4))
    else
      some ((-1 : Int32), S1)
  else
    some ((-1 : Int32), S1))
theorem dX11_load_0 : decode cX11_load 0 = .ok (.iload_n 2, 1) := dc_28 (by decide +kernel)
theorem dX11_load_1 : decode cX11_load 1 = .ok (.iconst 0, 1) := dc_3 (by decide +kernel)
theorem dX11_load_2 : decode cX11_load 2 = .ok (.iconst 1, 1) := dc_4 (by decide +kernel)
theorem dX11_load_3 : decode cX11_load 3 = .ok (.invokestatic 108, 3) := dc_184 (a := 0) (b := 108) (by decide +kernel)
theorem dX11_load_6 : decode cX11_load 6 = .ok (.ifCond .ne 9, 3) := dc_154 (a := 0) (b := 9) (by decide +kernel) (by decide)
theorem dX11_load_9 : decode cX11_load 9 = .ok (.iload_n 3, 1) := dc_29 (by decide +kernel)
theorem dX11_load_10 : decode cX11_load 10 = .ok (.bipush 20, 2) := dc_16 (a := 20) (by decide +kernel) (by decide)
theorem dX11_load_12 : decode cX11_load 12 = .ok (.if_icmp .le 5, 3) := dc_164 (a := 0) (b := 5) (by decide +kernel) (by decide)
theorem dX11_load_15 : decode cX11_load 15 = .ok (.iconst (-1), 1) := dc_2 (by decide +kernel)
theorem dX11_load_16 : decode cX11_load 16 = .ok (.ireturn, 1) := dc_172 (by decide +kernel)
theorem dX11_load_17 : decode cX11_load 17 = .ok (.aload_n 0, 1) := dc_42 (by decide +kernel)
theorem dX11_load_18 : decode cX11_load 18 = .ok (.getfield 10, 3) := dc_180 (a := 0) (b := 10) (by decide +kernel)
theorem dX11_load_21 : decode cX11_load 21 = .ok (.invokevirtual 95, 3) := dc_182 (a := 0) (b := 95) (by decide +kernel)
theorem dX11_load_24 : decode cX11_load 24 = .ok (.aload_n 0, 1) := dc_42 (by decide +kernel)
theorem dX11_load_25 : decode cX11_load 25 = .ok (.iload_n 1, 1) := dc_27 (by decide +kernel)
theorem dX11_load_26 : decode cX11_load 26 = .ok (.bipush 31, 2) := dc_16 (a := 31) (by decide +kernel) (by decide)
theorem dX11_load_28 : decode cX11_load 28 = .ok (.invokevirtual 185, 3) := dc_182 (a := 0) (b := 185) (by decide +kernel)
theorem dX11_load_31 : decode cX11_load 31 = .ok (.istore 4, 2) := dc_54 (a := 4) (by decide +kernel)
theorem dX11_load_33 : decode cX11_load 33 = .ok (.iload 4, 2) := dc_21 (a := 4) (by decide +kernel)
theorem dX11_load_35 : decode cX11_load 35 = .ok (.ifCond .ne 10, 3) := dc_154 (a := 0) (b := 10) (by decide +kernel) (by decide)
theorem dX11_load_38 : decode cX11_load 38 = .ok (.iload_n 3, 1) := dc_29 (by decide +kernel)
theorem dX11_load_39 : decode cX11_load 39 = .ok (.ifCond .ge 6, 3) := dc_156 (a := 0) (b := 6) (by decide +kernel) (by decide)
theorem dX11_load_42 : decode cX11_load 42 = .ok (.iconst 5, 1) := dc_8 (by decide +kernel)
theorem dX11_load_43 : decode cX11_load 43 = .ok (.istore 4, 2) := dc_54 (a := 4) (by decide +kernel)
theorem dX11_load_45 : decode cX11_load 45 = .ok (.iload 4, 2) := dc_21 (a := 4) (by decide +kernel)
theorem dX11_load_47 : decode cX11_load 47 = .ok (.ifCond .eq 13, 3) := dc_153 (a := 0) (b := 13) (by decide +kernel) (by decide)
theorem dX11_load_50 : decode cX11_load 50 = .ok (.aload_n 0, 1) := dc_42 (by decide +kernel)
theorem dX11_load_51 : decode cX11_load 51 = .ok (.getfield 10, 3) := dc_180 (a := 0) (b := 10) (by decide +kernel)
theorem dX11_load_54 : decode cX11_load 54 = .ok (.iload 4, 2) := dc_21 (a := 4) (by decide +kernel)
theorem dX11_load_56 : decode cX11_load 56 = .ok (.invokevirtual 98, 3) := dc_182 (a := 0) (b := 98) (by decide +kernel)
theorem dX11_load_59 : decode cX11_load 59 = .ok (.ireturn, 1) := dc_172 (by decide +kernel)
theorem dX11_load_60 : decode cX11_load 60 = .ok (.aload_n 0, 1) := dc_42 (by decide +kernel)
theorem dX11_load_61 : decode cX11_load 61 = .ok (.getfield 33, 3) := dc_180 (a := 0) (b := 33) (by decide +kernel)
theorem dX11_load_64 : decode cX11_load 64 = .ok (.iload_n 1, 1) := dc_27 (by decide +kernel)
theorem dX11_load_65 : decode cX11_load 65 = .ok (.iload_n 2, 1) := dc_28 (by decide +kernel)
theorem dX11_load_66 : decode cX11_load 66 = .ok (.iload_n 3, 1) := dc_29 (by decide +kernel)
theorem dX11_load_67 : decode cX11_load 67 = .ok (.invokevirtual 188, 3) := dc_182 (a := 0) (b := 188) (by decide +kernel)
theorem dX11_load_70 : decode cX11_load 70 = .ok (.iload_n 3, 1) := dc_29 (by decide +kernel)
theorem dX11_load_71 : decode cX11_load 71 = .ok (.ireturn, 1) := dc_172 (by decide +kernel)
set_option maxRecDepth 100000 in
set_option maxHeartbeats 4000000 in
theorem w_Yard_load_j45 {p : Program} {l : Launch} {e : Env} {R : Room} {s : State} {m : MethodId} {args : Array Value} {below : List Frame} {meth : Method} {c : Code} {dC : Nat → ClassId} {dI : Nat → Nat → Nat} {cs : Nat → ClassId} {ad : Nat → Nat} {A : Nat → Prop} {D0 : Nat → Nat} {S' : SS} {r : Int32} (F : Fx p s m args meth c cX11_load 5 RX11 (some .int) dC dI cs A) (hR1 : 2 ≤ R.frames) (hR2 : 48 ≤ R.locals) (x1 : Int32) (x2 : Int32) (x3 : Int32) (x4 : Int32) (S : SS) (h : f_Yard_load_j45 x1 x2 x3 x4 S = some (r, S')) : AW p l e R s m args below meth c dC dI cs ad A D0 (some (.int r)) S' 5 45 [(0, .ref (ad 61)), (1, .int x1), (2, .int x2), (3, .int x3), (4, .int x4)] [] S := by
  have hx := F.1.1
  have hb := F.1.2.1
  intro H locs ls w hl
  rw [f_Yard_load_j45] at h
  refine lv_iload (pc := 45) hx hb dX11_load_45 (lv_at hl 4 rfl) ?_
  refine lv_if_eq (pc := 47) (tgt := 60) hx hb dX11_load_47 (by decide) (fun q => ?_) (fun q => ?_)
  · have h := ite_t q h
    refine lv_aload_n (pc := 60) hx hb dX11_load_60 rfl (lv_at hl 0 rfl) ?_
    refine s_getR (pc := 61) F w 65 ds_61 (j := 3) vc_X11 vi_X11 rfl (by decide) kf_X11_33 dX11_load_61 ?_
    refine lv_iload_n (pc := 64) hx hb dX11_load_64 rfl (lv_at hl 1 rfl) ?_
    refine lv_iload_n (pc := 65) hx hb dX11_load_65 rfl (lv_at hl 2 rfl) ?_
    refine lv_iload_n (pc := 66) hx hb dX11_load_66 rfl (lv_at hl 3 rfl) ?_
    obtain ⟨S6, hc, h⟩ := bndv_t h
    refine s_cvv (pc := 67) [.int x1, .int x2, .int x3] (fun ad => [.ref (ad 65), .int x1, .int x2, .int x3]) F w (m_Stock_newLoad _ _ _ _ _ hc) rfl rfl hl.1 ds_65 vc_X9 rfl ok_X9_newLoad rfl kc_X9_newLoad kl_X11_188 ki_X9_newLoad kv_X9_newLoad kn_X9 ⟨Nat.le_trans (by decide) hR1, Nat.le_trans (by decide) hR2⟩ ⟨Nat.zero_le _, Nat.zero_le _⟩ (Nat.le_of_ble_eq_true rfl) dX11_load_67 (fun H locs w => ?_)
    refine lv_iload_n (pc := 70) hx hb dX11_load_70 rfl (lv_at hl 3 rfl) ?_
    exact s_iret F w h dX11_load_71
  · have h := ite_f q h
    refine lv_aload_n (pc := 50) hx hb dX11_load_50 rfl (lv_at hl 0 rfl) ?_
    refine s_getR (pc := 51) F w 62 ds_61 (j := 0) vc_X11 vi_X11 rfl (by decide) kf_X11_10 dX11_load_51 ?_
    refine lv_iload (pc := 54) hx hb dX11_load_54 (lv_at hl 4 rfl) ?_
    obtain ⟨r8, S7, hc, h⟩ := bnd_t h
    refine s_cvi (pc := 56) [.int x4] (fun ad => [.ref (ad 62), .int x4]) F w (m_Report_found _ _ _ _ hc) rfl rfl hl.1 ds_62 vc_X5 rfl ok_X5_found rfl kc_X5_found kl_X11_98 ki_X5_found kv_X5_found kn_X5 ⟨Nat.le_trans (by decide) hR1, Nat.le_trans (by decide) hR2⟩ ⟨Nat.zero_le _, Nat.zero_le _⟩ (Nat.le_of_ble_eq_true rfl) dX11_load_56 (fun H locs w => ?_)
    exact s_iret F w h dX11_load_59
set_option maxRecDepth 100000 in
set_option maxHeartbeats 4000000 in
theorem m_Yard_load (a1 : Int32) (a2 : Int32) (a3 : Int32) (S S' : SS) (r : Int32) (h : f_Yard_load a1 a2 a3 S = some (r, S')) : MT yX11_load cX11_load 5 (some .int) 3 67 (fun ad => [.ref (ad 61), .int a1, .int a2, .int a3]) S (some (.int r)) S' := by
  refine MT.of RX11 (fun ad => [(0, .ref (ad 61)), (1, .int a1), (2, .int a2), (3, .int a3)]) (by decide) rfl (fun _ => Nat.le_of_ble_eq_true rfl) (fun _ => rfl) ?_
  intro p l e R s m args below meth c dC dI cs ad A hR1 hR2 F H locs ls w hl
  have hx := F.1.1
  have hb := F.1.2.1
  rw [f_Yard_load] at h
  refine lv_iload_n (pc := 0) hx hb dX11_load_0 rfl (lv_at hl 2 rfl) ?_
  refine lv_iconst (pc := 1) (v := 0) hx hb dX11_load_1 (by decide) ?_
  refine lv_iconst (pc := 2) (v := 1) hx hb dX11_load_2 (by decide) ?_
  obtain ⟨r2, S1, hc, h⟩ := bnd_t h
  refine s_csi (pc := 3) [.int a2, .int (0 : Int32), .int (1 : Int32)] (fun ad => [.int a2, .int (0 : Int32), .int (1 : Int32)]) F w (m_Yard_isNot _ _ _ _ _ _ hc) rfl rfl hl.1 ok_X11_isNot rfl kc_X11_isNot kl_X11_108 ks_X11_isNot kn_X11 ⟨Nat.le_trans (by decide) hR1, Nat.le_trans (by decide) hR2⟩ ⟨Nat.zero_le _, Nat.zero_le _⟩ (Nat.le_of_ble_eq_true rfl) dX11_load_3 (fun H locs w => ?_)
  refine lv_if_ne (pc := 6) (tgt := 15) hx hb dX11_load_6 (by decide) (fun q => ?_) (fun q => ?_)
  · have h := ite_f q h
    refine lv_iconst (pc := 15) (v := -1) hx hb dX11_load_15 (by decide) ?_
    exact s_iret F w h dX11_load_16
  · have h := ite_t q h
    refine lv_iload_n (pc := 9) hx hb dX11_load_9 rfl (lv_at hl 3 rfl) ?_
    refine lv_bipush (pc := 10) (v := 20) hx hb dX11_load_10 (by decide) ?_
    refine lv_icmp_le (pc := 12) (tgt := 17) hx hb dX11_load_12 (by decide) (fun q => ?_) (fun q => ?_)
    · have h := ite_t q h
      refine lv_aload_n (pc := 17) hx hb dX11_load_17 rfl (lv_at hl 0 rfl) ?_
      refine s_getR (pc := 18) F w 62 ds_61 (j := 0) vc_X11 vi_X11 rfl (by decide) kf_X11_10 dX11_load_18 ?_
      obtain ⟨S3, hc, h⟩ := bndv_t h
      refine s_cvv (pc := 21) [] (fun ad => [.ref (ad 62)]) F w (m_Report_begin  _ _ hc) rfl rfl hl.1 ds_62 vc_X5 rfl ok_X5_begin rfl kc_X5_begin kl_X11_95 ki_X5_begin kv_X5_begin kn_X5 ⟨Nat.le_trans (by decide) hR1, Nat.le_trans (by decide) hR2⟩ ⟨Nat.zero_le _, Nat.zero_le _⟩ (Nat.le_of_ble_eq_true rfl) dX11_load_21 (fun H locs w => ?_)
      refine lv_aload_n (pc := 24) hx hb dX11_load_24 rfl (lv_at hl 0 rfl) ?_
      refine lv_iload_n (pc := 25) hx hb dX11_load_25 rfl (lv_at hl 1 rfl) ?_
      refine lv_bipush (pc := 26) (v := 31) hx hb dX11_load_26 (by decide) ?_
      obtain ⟨r5, S4, hc, h⟩ := bnd_t h
      refine s_cvi (pc := 28) [.int a1, .int (31 : Int32)] (fun ad => [.ref (ad 61), .int a1, .int (31 : Int32)]) F w (m_Yard_named _ _ _ _ _ hc) rfl rfl hl.1 ds_61 vc_X11 rfl ok_X11_named rfl kc_X11_named kl_X11_185 ki_X11_named kv_X11_named kn_X11 ⟨Nat.le_trans (by decide) hR1, Nat.le_trans (by decide) hR2⟩ ⟨Nat.zero_le _, Nat.zero_le _⟩ (Nat.le_of_ble_eq_true rfl) dX11_load_28 (fun H locs w => ?_)
      refine lv_istore (pc := 31) (lv' := [(4, .int r5), (0, .ref (ad 61)), (1, .int a1), (2, .int a2), (3, .int a3)]) hx hb dX11_load_31 hl (by decide) rfl (fun ls hl => ?_)
      refine lv_iload (pc := 33) hx hb dX11_load_33 (lv_at hl 0 rfl) ?_
      refine lv_if_ne (pc := 35) (tgt := 45) hx hb dX11_load_35 (by decide) (fun q => ?_) (fun q => ?_)
      · have h := ite_f q h
        exact w_Yard_load_j45 F (Nat.le_trans (by decide) hR1) (Nat.le_trans (by decide) hR2) _ _ _ _ _ h _ _ _ w (lv_sub hl [1, 2, 3, 4, 0] rfl)
      · have h := ite_t q h
        refine lv_iload_n (pc := 38) hx hb dX11_load_38 rfl (lv_at hl 4 rfl) ?_
        refine lv_if_ge (pc := 39) (tgt := 45) hx hb dX11_load_39 (by decide) (fun q => ?_) (fun q => ?_)
        · have h := ite_t q h
          exact w_Yard_load_j45 F (Nat.le_trans (by decide) hR1) (Nat.le_trans (by decide) hR2) _ _ _ _ _ h _ _ _ w (lv_sub hl [1, 2, 3, 4, 0] rfl)
        · have h := ite_f q h
          refine lv_iconst (pc := 42) (v := 5) hx hb dX11_load_42 (by decide) ?_
          refine lv_istore (pc := 43) (lv' := [(4, .int (5 : Int32)), (0, .ref (ad 61)), (1, .int a1), (2, .int a2), (3, .int a3)]) hx hb dX11_load_43 hl (by decide) rfl (fun ls hl => ?_)
          exact w_Yard_load_j45 F (Nat.le_trans (by decide) hR1) (Nat.le_trans (by decide) hR2) _ _ _ _ _ h _ _ _ w (lv_sub hl [1, 2, 3, 4, 0] rfl)
    · have h := ite_f q h
      refine lv_iconst (pc := 15) (v := -1) hx hb dX11_load_15 (by decide) ?_
      exact s_iret F w h dX11_load_16
def f_Stock_setPiece (a1 : Int32) (a2 : Int32) (a3 : Int32) (S : SS) : Option (SS) :=
  bnd (f_Stock_putPiece a1 a2 a3 S) (fun r2 S1 =>
  bnd (f_Stock_get a1 (5 : Int32) S1) (fun r4 S3 =>
  bndv (f_Stock_set a1 (5 : Int32) ((r4 - r2) + a3) S3) (fun S5 =>
  some S5)))
theorem dX9_setPiece_0 : decode cX9_setPiece 0 = .ok (.aload_n 0, 1) := dc_42 (by decide +kernel)
theorem dX9_setPiece_1 : decode cX9_setPiece 1 = .ok (.iload_n 1, 1) := dc_27 (by decide +kernel)
theorem dX9_setPiece_2 : decode cX9_setPiece 2 = .ok (.iload_n 2, 1) := dc_28 (by decide +kernel)
theorem dX9_setPiece_3 : decode cX9_setPiece 3 = .ok (.iload_n 3, 1) := dc_29 (by decide +kernel)
theorem dX9_setPiece_4 : decode cX9_setPiece 4 = .ok (.invokevirtual 28, 3) := dc_182 (a := 0) (b := 28) (by decide +kernel)
theorem dX9_setPiece_7 : decode cX9_setPiece 7 = .ok (.istore 4, 2) := dc_54 (a := 4) (by decide +kernel)
theorem dX9_setPiece_9 : decode cX9_setPiece 9 = .ok (.aload_n 0, 1) := dc_42 (by decide +kernel)
theorem dX9_setPiece_10 : decode cX9_setPiece 10 = .ok (.iload_n 1, 1) := dc_27 (by decide +kernel)
theorem dX9_setPiece_11 : decode cX9_setPiece 11 = .ok (.iconst 5, 1) := dc_8 (by decide +kernel)
theorem dX9_setPiece_12 : decode cX9_setPiece 12 = .ok (.aload_n 0, 1) := dc_42 (by decide +kernel)
theorem dX9_setPiece_13 : decode cX9_setPiece 13 = .ok (.iload_n 1, 1) := dc_27 (by decide +kernel)
theorem dX9_setPiece_14 : decode cX9_setPiece 14 = .ok (.iconst 5, 1) := dc_8 (by decide +kernel)
theorem dX9_setPiece_15 : decode cX9_setPiece 15 = .ok (.invokevirtual 24, 3) := dc_182 (a := 0) (b := 24) (by decide +kernel)
theorem dX9_setPiece_18 : decode cX9_setPiece 18 = .ok (.iload 4, 2) := dc_21 (a := 4) (by decide +kernel)
theorem dX9_setPiece_20 : decode cX9_setPiece 20 = .ok (.isub, 1) := dc_100 (by decide +kernel)
theorem dX9_setPiece_21 : decode cX9_setPiece 21 = .ok (.iload_n 3, 1) := dc_29 (by decide +kernel)
theorem dX9_setPiece_22 : decode cX9_setPiece 22 = .ok (.iadd, 1) := dc_96 (by decide +kernel)
theorem dX9_setPiece_23 : decode cX9_setPiece 23 = .ok (.invokevirtual 20, 3) := dc_182 (a := 0) (b := 20) (by decide +kernel)
theorem dX9_setPiece_26 : decode cX9_setPiece 26 = .ok (.return_, 1) := dc_177 (by decide +kernel)
set_option maxRecDepth 100000 in
set_option maxHeartbeats 4000000 in
theorem m_Stock_setPiece (a1 : Int32) (a2 : Int32) (a3 : Int32) (S S' : SS) (h : f_Stock_setPiece a1 a2 a3 S = some S') : MT yX9_setPiece cX9_setPiece 5 none 1 24 (fun ad => [.ref (ad 65), .int a1, .int a2, .int a3]) S none S' := by
  refine MT.of RX9 (fun ad => [(0, .ref (ad 65)), (1, .int a1), (2, .int a2), (3, .int a3)]) (by decide) rfl (fun _ => Nat.le_of_ble_eq_true rfl) (fun _ => rfl) ?_
  intro p l e R s m args below meth c dC dI cs ad A hR1 hR2 F H locs ls w hl
  have hx := F.1.1
  have hb := F.1.2.1
  rw [f_Stock_setPiece] at h
  refine lv_aload_n (pc := 0) hx hb dX9_setPiece_0 rfl (lv_at hl 0 rfl) ?_
  refine lv_iload_n (pc := 1) hx hb dX9_setPiece_1 rfl (lv_at hl 1 rfl) ?_
  refine lv_iload_n (pc := 2) hx hb dX9_setPiece_2 rfl (lv_at hl 2 rfl) ?_
  refine lv_iload_n (pc := 3) hx hb dX9_setPiece_3 rfl (lv_at hl 3 rfl) ?_
  obtain ⟨r2, S1, hc, h⟩ := bnd_t h
  refine s_cvi (pc := 4) [.int a1, .int a2, .int a3] (fun ad => [.ref (ad 65), .int a1, .int a2, .int a3]) F w (m_Stock_putPiece _ _ _ _ _ _ hc) rfl rfl hl.1 ds_65 vc_X9 rfl ok_X9_putPiece rfl kc_X9_putPiece kl_X9_28 ki_X9_putPiece kv_X9_putPiece kn_X9 ⟨Nat.le_trans (by decide) hR1, Nat.le_trans (by decide) hR2⟩ ⟨Nat.zero_le _, Nat.zero_le _⟩ (Nat.le_of_ble_eq_true rfl) dX9_setPiece_4 (fun H locs w => ?_)
  refine lv_istore (pc := 7) (lv' := [(4, .int r2), (0, .ref (ad 65)), (1, .int a1), (2, .int a2), (3, .int a3)]) hx hb dX9_setPiece_7 hl (by decide) rfl (fun ls hl => ?_)
  refine lv_aload_n (pc := 9) hx hb dX9_setPiece_9 rfl (lv_at hl 1 rfl) ?_
  refine lv_iload_n (pc := 10) hx hb dX9_setPiece_10 rfl (lv_at hl 2 rfl) ?_
  refine lv_iconst (pc := 11) (v := 5) hx hb dX9_setPiece_11 (by decide) ?_
  refine lv_aload_n (pc := 12) hx hb dX9_setPiece_12 rfl (lv_at hl 1 rfl) ?_
  refine lv_iload_n (pc := 13) hx hb dX9_setPiece_13 rfl (lv_at hl 2 rfl) ?_
  refine lv_iconst (pc := 14) (v := 5) hx hb dX9_setPiece_14 (by decide) ?_
  obtain ⟨r4, S3, hc, h⟩ := bnd_t h
  refine s_cvi (pc := 15) [.int a1, .int (5 : Int32)] (fun ad => [.ref (ad 65), .int a1, .int (5 : Int32)]) F w (m_Stock_get _ _ _ _ _ hc) rfl rfl hl.1 ds_65 vc_X9 rfl ok_X9_get rfl kc_X9_get kl_X9_24 ki_X9_get kv_X9_get kn_X9 ⟨Nat.le_trans (by decide) hR1, Nat.le_trans (by decide) hR2⟩ ⟨Nat.zero_le _, Nat.zero_le _⟩ (Nat.le_of_ble_eq_true rfl) dX9_setPiece_15 (fun H locs w => ?_)
  refine lv_iload (pc := 18) hx hb dX9_setPiece_18 (lv_at hl 0 rfl) ?_
  refine lv_isub (pc := 20) hx hb dX9_setPiece_20 ?_
  refine lv_iload_n (pc := 21) hx hb dX9_setPiece_21 rfl (lv_at hl 4 rfl) ?_
  refine lv_iadd (pc := 22) hx hb dX9_setPiece_22 ?_
  obtain ⟨S5, hc, h⟩ := bndv_t h
  refine s_cvv (pc := 23) [.int a1, .int (5 : Int32), .int ((r4 - r2) + a3)] (fun ad => [.ref (ad 65), .int a1, .int (5 : Int32), .int ((r4 - r2) + a3)]) F w (m_Stock_set _ _ _ _ _ hc) rfl rfl hl.1 ds_65 vc_X9 rfl ok_X9_set rfl kc_X9_set kl_X9_20 ki_X9_set kv_X9_set kn_X9 ⟨Nat.le_trans (by decide) hR1, Nat.le_trans (by decide) hR2⟩ ⟨Nat.zero_le _, Nat.zero_le _⟩ (Nat.le_of_ble_eq_true rfl) dX9_setPiece_23 (fun H locs w => ?_)
  exact s_vret F w h dX9_setPiece_26
def f_Stock_pieceFinding (a1 : Int32) (a2 : Int32) (a3 : Int32) (S : SS) : Option (Int32 × SS) :=
  bnd (f_Stock_get a1 (3 : Int32) S) (fun r2 S1 =>
  if r2 = (-4 : Int32) then
    some ((1 : Int32), S1)
  else
    if r2 = a3 then
      if a2 < 0 then
        some ((3 : Int32), S1)
      else
        bnd (f_Stock_get a1 (4 : Int32) S1) (fun r4 S3 =>
        if a2 < r4 then
          some ((0 : Int32), S3)
        else
          some ((3 : Int32), S3))
    else
      some ((2 : Int32), S1))
theorem dX9_pieceFinding_0 : decode cX9_pieceFinding 0 = .ok (.aload_n 0, 1) := dc_42 (by decide +kernel)
theorem dX9_pieceFinding_1 : decode cX9_pieceFinding 1 = .ok (.iload_n 1, 1) := dc_27 (by decide +kernel)
theorem dX9_pieceFinding_2 : decode cX9_pieceFinding 2 = .ok (.iconst 3, 1) := dc_6 (by decide +kernel)
theorem dX9_pieceFinding_3 : decode cX9_pieceFinding 3 = .ok (.invokevirtual 24, 3) := dc_182 (a := 0) (b := 24) (by decide +kernel)
theorem dX9_pieceFinding_6 : decode cX9_pieceFinding 6 = .ok (.istore 4, 2) := dc_54 (a := 4) (by decide +kernel)
theorem dX9_pieceFinding_8 : decode cX9_pieceFinding 8 = .ok (.iload 4, 2) := dc_21 (a := 4) (by decide +kernel)
theorem dX9_pieceFinding_10 : decode cX9_pieceFinding 10 = .ok (.bipush (-4), 2) := dc_16 (a := 252) (by decide +kernel) (by decide)
theorem dX9_pieceFinding_12 : decode cX9_pieceFinding 12 = .ok (.if_icmp .ne 5, 3) := dc_160 (a := 0) (b := 5) (by decide +kernel) (by decide)
theorem dX9_pieceFinding_15 : decode cX9_pieceFinding 15 = .ok (.iconst 1, 1) := dc_4 (by decide +kernel)
theorem dX9_pieceFinding_16 : decode cX9_pieceFinding 16 = .ok (.ireturn, 1) := dc_172 (by decide +kernel)
theorem dX9_pieceFinding_17 : decode cX9_pieceFinding 17 = .ok (.iload 4, 2) := dc_21 (a := 4) (by decide +kernel)
theorem dX9_pieceFinding_19 : decode cX9_pieceFinding 19 = .ok (.iload_n 3, 1) := dc_29 (by decide +kernel)
theorem dX9_pieceFinding_20 : decode cX9_pieceFinding 20 = .ok (.if_icmp .eq 5, 3) := dc_159 (a := 0) (b := 5) (by decide +kernel) (by decide)
theorem dX9_pieceFinding_23 : decode cX9_pieceFinding 23 = .ok (.iconst 2, 1) := dc_5 (by decide +kernel)
theorem dX9_pieceFinding_24 : decode cX9_pieceFinding 24 = .ok (.ireturn, 1) := dc_172 (by decide +kernel)
theorem dX9_pieceFinding_25 : decode cX9_pieceFinding 25 = .ok (.iload_n 2, 1) := dc_28 (by decide +kernel)
theorem dX9_pieceFinding_26 : decode cX9_pieceFinding 26 = .ok (.ifCond .lt 13, 3) := dc_155 (a := 0) (b := 13) (by decide +kernel) (by decide)
theorem dX9_pieceFinding_29 : decode cX9_pieceFinding 29 = .ok (.iload_n 2, 1) := dc_28 (by decide +kernel)
theorem dX9_pieceFinding_30 : decode cX9_pieceFinding 30 = .ok (.aload_n 0, 1) := dc_42 (by decide +kernel)
theorem dX9_pieceFinding_31 : decode cX9_pieceFinding 31 = .ok (.iload_n 1, 1) := dc_27 (by decide +kernel)
theorem dX9_pieceFinding_32 : decode cX9_pieceFinding 32 = .ok (.iconst 4, 1) := dc_7 (by decide +kernel)
theorem dX9_pieceFinding_33 : decode cX9_pieceFinding 33 = .ok (.invokevirtual 24, 3) := dc_182 (a := 0) (b := 24) (by decide +kernel)
theorem dX9_pieceFinding_36 : decode cX9_pieceFinding 36 = .ok (.if_icmp .lt 7, 3) := dc_161 (a := 0) (b := 7) (by decide +kernel) (by decide)
theorem dX9_pieceFinding_39 : decode cX9_pieceFinding 39 = .ok (.iconst 3, 1) := dc_6 (by decide +kernel)
theorem dX9_pieceFinding_40 : decode cX9_pieceFinding 40 = .ok (.goto 4, 3) := dc_167 (a := 0) (b := 4) (by decide +kernel) (by decide)
theorem dX9_pieceFinding_43 : decode cX9_pieceFinding 43 = .ok (.iconst 0, 1) := dc_3 (by decide +kernel)
theorem dX9_pieceFinding_44 : decode cX9_pieceFinding 44 = .ok (.ireturn, 1) := dc_172 (by decide +kernel)
set_option maxRecDepth 100000 in
set_option maxHeartbeats 4000000 in
theorem m_Stock_pieceFinding (a1 : Int32) (a2 : Int32) (a3 : Int32) (S S' : SS) (r : Int32) (h : f_Stock_pieceFinding a1 a2 a3 S = some (r, S')) : MT yX9_pieceFinding cX9_pieceFinding 5 (some .int) 1 22 (fun ad => [.ref (ad 65), .int a1, .int a2, .int a3]) S (some (.int r)) S' := by
  refine MT.of RX9 (fun ad => [(0, .ref (ad 65)), (1, .int a1), (2, .int a2), (3, .int a3)]) (by decide) rfl (fun _ => Nat.le_of_ble_eq_true rfl) (fun _ => rfl) ?_
  intro p l e R s m args below meth c dC dI cs ad A hR1 hR2 F H locs ls w hl
  have hx := F.1.1
  have hb := F.1.2.1
  rw [f_Stock_pieceFinding] at h
  refine lv_aload_n (pc := 0) hx hb dX9_pieceFinding_0 rfl (lv_at hl 0 rfl) ?_
  refine lv_iload_n (pc := 1) hx hb dX9_pieceFinding_1 rfl (lv_at hl 1 rfl) ?_
  refine lv_iconst (pc := 2) (v := 3) hx hb dX9_pieceFinding_2 (by decide) ?_
  obtain ⟨r2, S1, hc, h⟩ := bnd_t h
  refine s_cvi (pc := 3) [.int a1, .int (3 : Int32)] (fun ad => [.ref (ad 65), .int a1, .int (3 : Int32)]) F w (m_Stock_get _ _ _ _ _ hc) rfl rfl hl.1 ds_65 vc_X9 rfl ok_X9_get rfl kc_X9_get kl_X9_24 ki_X9_get kv_X9_get kn_X9 ⟨Nat.le_trans (by decide) hR1, Nat.le_trans (by decide) hR2⟩ ⟨Nat.zero_le _, Nat.zero_le _⟩ (Nat.le_of_ble_eq_true rfl) dX9_pieceFinding_3 (fun H locs w => ?_)
  refine lv_istore (pc := 6) (lv' := [(4, .int r2), (0, .ref (ad 65)), (1, .int a1), (2, .int a2), (3, .int a3)]) hx hb dX9_pieceFinding_6 hl (by decide) rfl (fun ls hl => ?_)
  refine lv_iload (pc := 8) hx hb dX9_pieceFinding_8 (lv_at hl 0 rfl) ?_
  refine lv_bipush (pc := 10) (v := -4) hx hb dX9_pieceFinding_10 (by decide) ?_
  refine lv_icmp_ne (pc := 12) (tgt := 17) hx hb dX9_pieceFinding_12 (by decide) (fun q => ?_) (fun q => ?_)
  · have h := ite_f q h
    refine lv_iload (pc := 17) hx hb dX9_pieceFinding_17 (lv_at hl 0 rfl) ?_
    refine lv_iload_n (pc := 19) hx hb dX9_pieceFinding_19 rfl (lv_at hl 4 rfl) ?_
    refine lv_icmp_eq (pc := 20) (tgt := 25) hx hb dX9_pieceFinding_20 (by decide) (fun q => ?_) (fun q => ?_)
    · have h := ite_t q h
      refine lv_iload_n (pc := 25) hx hb dX9_pieceFinding_25 rfl (lv_at hl 3 rfl) ?_
      refine lv_if_lt (pc := 26) (tgt := 39) hx hb dX9_pieceFinding_26 (by decide) (fun q => ?_) (fun q => ?_)
      · have h := ite_t q h
        refine lv_iconst (pc := 39) (v := 3) hx hb dX9_pieceFinding_39 (by decide) ?_
        refine lv_goto (pc := 40) (tgt := 44) hx hb dX9_pieceFinding_40 (by decide) ?_
        exact s_iret F w h dX9_pieceFinding_44
      · have h := ite_f q h
        refine lv_iload_n (pc := 29) hx hb dX9_pieceFinding_29 rfl (lv_at hl 3 rfl) ?_
        refine lv_aload_n (pc := 30) hx hb dX9_pieceFinding_30 rfl (lv_at hl 1 rfl) ?_
        refine lv_iload_n (pc := 31) hx hb dX9_pieceFinding_31 rfl (lv_at hl 2 rfl) ?_
        refine lv_iconst (pc := 32) (v := 4) hx hb dX9_pieceFinding_32 (by decide) ?_
        obtain ⟨r4, S3, hc, h⟩ := bnd_t h
        refine s_cvi (pc := 33) [.int a1, .int (4 : Int32)] (fun ad => [.ref (ad 65), .int a1, .int (4 : Int32)]) F w (m_Stock_get _ _ _ _ _ hc) rfl rfl hl.1 ds_65 vc_X9 rfl ok_X9_get rfl kc_X9_get kl_X9_24 ki_X9_get kv_X9_get kn_X9 ⟨Nat.le_trans (by decide) hR1, Nat.le_trans (by decide) hR2⟩ ⟨Nat.zero_le _, Nat.zero_le _⟩ (Nat.le_of_ble_eq_true rfl) dX9_pieceFinding_33 (fun H locs w => ?_)
        refine lv_icmp_lt (pc := 36) (tgt := 43) hx hb dX9_pieceFinding_36 (by decide) (fun q => ?_) (fun q => ?_)
        · have h := ite_t q h
          refine lv_iconst (pc := 43) (v := 0) hx hb dX9_pieceFinding_43 (by decide) ?_
          exact s_iret F w h dX9_pieceFinding_44
        · have h := ite_f q h
          refine lv_iconst (pc := 39) (v := 3) hx hb dX9_pieceFinding_39 (by decide) ?_
          refine lv_goto (pc := 40) (tgt := 44) hx hb dX9_pieceFinding_40 (by decide) ?_
          exact s_iret F w h dX9_pieceFinding_44
    · have h := ite_f q h
      refine lv_iconst (pc := 23) (v := 2) hx hb dX9_pieceFinding_23 (by decide) ?_
      exact s_iret F w h dX9_pieceFinding_24
  · have h := ite_t q h
    refine lv_iconst (pc := 15) (v := 1) hx hb dX9_pieceFinding_15 (by decide) ?_
    exact s_iret F w h dX9_pieceFinding_16
def f_Yard_piece_j55  (x1 : Int32) (x2 : Int32) (x4 : Int32) (x5 : Int32) (S : SS) : Option (Int32 × SS) :=
    if x5 = 0 then
      bndv (f_Stock_setPiece x1 x2 x4 S) (fun S8 =>
      some ((1 : Int32), S8))
    else
      bnd (f_Report_found x5 S) (fun r10 S9 =>
      some (r10, S9))
def f_Yard_piece (a1 : Int32) (a2 : Int32) (a3 : Int32) (a4 : Int32) (S : SS) : Option (Int32 × SS) :=
  bnd (f_Yard_isNot a3 (0 : Int32) (1 : Int32) S) (fun r2 S1 =>
  if r2 = 0 then
    bnd (f_Yard_isNot a4 (0 : Int32) (120 : Int32) S1) (fun r4 S3 =>
    if r4 = 0 then
      bndv (f_Report_begin  S3) (fun S5 =>
      bnd (f_Yard_named a1 (31 : Int32) S5) (fun r7 S6 =>
      if r7 = 0 then
        bnd (f_Stock_pieceFinding a1 a2 a3 S6) (fun r12 S11 =>
        f_Yard_piece_j55 a1 a2 a4 r12 S11)
      else
        f_Yard_piece_j55 a1 a2 a4 r7 S6))
    else
      some ((-1 : Int32), S3))
  else
    some ((-1 : Int32), S1))
theorem dX11_piece_0 : decode cX11_piece 0 = .ok (.iload_n 3, 1) := dc_29 (by decide +kernel)
theorem dX11_piece_1 : decode cX11_piece 1 = .ok (.iconst 0, 1) := dc_3 (by decide +kernel)
theorem dX11_piece_2 : decode cX11_piece 2 = .ok (.iconst 1, 1) := dc_4 (by decide +kernel)
theorem dX11_piece_3 : decode cX11_piece 3 = .ok (.invokestatic 108, 3) := dc_184 (a := 0) (b := 108) (by decide +kernel)
theorem dX11_piece_6 : decode cX11_piece 6 = .ok (.ifCond .ne 14, 3) := dc_154 (a := 0) (b := 14) (by decide +kernel) (by decide)
theorem dX11_piece_9 : decode cX11_piece 9 = .ok (.iload 4, 2) := dc_21 (a := 4) (by decide +kernel)
theorem dX11_piece_11 : decode cX11_piece 11 = .ok (.iconst 0, 1) := dc_3 (by decide +kernel)
theorem dX11_piece_12 : decode cX11_piece 12 = .ok (.bipush 120, 2) := dc_16 (a := 120) (by decide +kernel) (by decide)
theorem dX11_piece_14 : decode cX11_piece 14 = .ok (.invokestatic 108, 3) := dc_184 (a := 0) (b := 108) (by decide +kernel)
theorem dX11_piece_17 : decode cX11_piece 17 = .ok (.ifCond .eq 5, 3) := dc_153 (a := 0) (b := 5) (by decide +kernel) (by decide)
theorem dX11_piece_20 : decode cX11_piece 20 = .ok (.iconst (-1), 1) := dc_2 (by decide +kernel)
theorem dX11_piece_21 : decode cX11_piece 21 = .ok (.ireturn, 1) := dc_172 (by decide +kernel)
theorem dX11_piece_22 : decode cX11_piece 22 = .ok (.aload_n 0, 1) := dc_42 (by decide +kernel)
theorem dX11_piece_23 : decode cX11_piece 23 = .ok (.getfield 10, 3) := dc_180 (a := 0) (b := 10) (by decide +kernel)
theorem dX11_piece_26 : decode cX11_piece 26 = .ok (.invokevirtual 95, 3) := dc_182 (a := 0) (b := 95) (by decide +kernel)
theorem dX11_piece_29 : decode cX11_piece 29 = .ok (.aload_n 0, 1) := dc_42 (by decide +kernel)
theorem dX11_piece_30 : decode cX11_piece 30 = .ok (.iload_n 1, 1) := dc_27 (by decide +kernel)
theorem dX11_piece_31 : decode cX11_piece 31 = .ok (.bipush 31, 2) := dc_16 (a := 31) (by decide +kernel) (by decide)
theorem dX11_piece_33 : decode cX11_piece 33 = .ok (.invokevirtual 185, 3) := dc_182 (a := 0) (b := 185) (by decide +kernel)
theorem dX11_piece_36 : decode cX11_piece 36 = .ok (.istore 5, 2) := dc_54 (a := 5) (by decide +kernel)
theorem dX11_piece_38 : decode cX11_piece 38 = .ok (.iload 5, 2) := dc_21 (a := 5) (by decide +kernel)
theorem dX11_piece_40 : decode cX11_piece 40 = .ok (.ifCond .ne 15, 3) := dc_154 (a := 0) (b := 15) (by decide +kernel) (by decide)
theorem dX11_piece_43 : decode cX11_piece 43 = .ok (.aload_n 0, 1) := dc_42 (by decide +kernel)
theorem dX11_piece_44 : decode cX11_piece 44 = .ok (.getfield 33, 3) := dc_180 (a := 0) (b := 33) (by decide +kernel)
theorem dX11_piece_47 : decode cX11_piece 47 = .ok (.iload_n 1, 1) := dc_27 (by decide +kernel)
theorem dX11_piece_48 : decode cX11_piece 48 = .ok (.iload_n 2, 1) := dc_28 (by decide +kernel)
theorem dX11_piece_49 : decode cX11_piece 49 = .ok (.iload_n 3, 1) := dc_29 (by decide +kernel)
theorem dX11_piece_50 : decode cX11_piece 50 = .ok (.invokevirtual 192, 3) := dc_182 (a := 0) (b := 192) (by decide +kernel)
theorem dX11_piece_53 : decode cX11_piece 53 = .ok (.istore 5, 2) := dc_54 (a := 5) (by decide +kernel)
theorem dX11_piece_55 : decode cX11_piece 55 = .ok (.iload 5, 2) := dc_21 (a := 5) (by decide +kernel)
theorem dX11_piece_57 : decode cX11_piece 57 = .ok (.ifCond .eq 13, 3) := dc_153 (a := 0) (b := 13) (by decide +kernel) (by decide)
theorem dX11_piece_60 : decode cX11_piece 60 = .ok (.aload_n 0, 1) := dc_42 (by decide +kernel)
theorem dX11_piece_61 : decode cX11_piece 61 = .ok (.getfield 10, 3) := dc_180 (a := 0) (b := 10) (by decide +kernel)
theorem dX11_piece_64 : decode cX11_piece 64 = .ok (.iload 5, 2) := dc_21 (a := 5) (by decide +kernel)
theorem dX11_piece_66 : decode cX11_piece 66 = .ok (.invokevirtual 98, 3) := dc_182 (a := 0) (b := 98) (by decide +kernel)
theorem dX11_piece_69 : decode cX11_piece 69 = .ok (.ireturn, 1) := dc_172 (by decide +kernel)
theorem dX11_piece_70 : decode cX11_piece 70 = .ok (.aload_n 0, 1) := dc_42 (by decide +kernel)
theorem dX11_piece_71 : decode cX11_piece 71 = .ok (.getfield 33, 3) := dc_180 (a := 0) (b := 33) (by decide +kernel)
theorem dX11_piece_74 : decode cX11_piece 74 = .ok (.iload_n 1, 1) := dc_27 (by decide +kernel)
theorem dX11_piece_75 : decode cX11_piece 75 = .ok (.iload_n 2, 1) := dc_28 (by decide +kernel)
theorem dX11_piece_76 : decode cX11_piece 76 = .ok (.iload 4, 2) := dc_21 (a := 4) (by decide +kernel)
theorem dX11_piece_78 : decode cX11_piece 78 = .ok (.invokevirtual 196, 3) := dc_182 (a := 0) (b := 196) (by decide +kernel)
theorem dX11_piece_81 : decode cX11_piece 81 = .ok (.iconst 1, 1) := dc_4 (by decide +kernel)
theorem dX11_piece_82 : decode cX11_piece 82 = .ok (.ireturn, 1) := dc_172 (by decide +kernel)
set_option maxRecDepth 100000 in
set_option maxHeartbeats 4000000 in
theorem w_Yard_piece_j55 {p : Program} {l : Launch} {e : Env} {R : Room} {s : State} {m : MethodId} {args : Array Value} {below : List Frame} {meth : Method} {c : Code} {dC : Nat → ClassId} {dI : Nat → Nat → Nat} {cs : Nat → ClassId} {ad : Nat → Nat} {A : Nat → Prop} {D0 : Nat → Nat} {S' : SS} {r : Int32} (F : Fx p s m args meth c cX11_piece 6 RX11 (some .int) dC dI cs A) (hR1 : 2 ≤ R.frames) (hR2 : 48 ≤ R.locals) (x1 : Int32) (x2 : Int32) (x4 : Int32) (x5 : Int32) (S : SS) (h : f_Yard_piece_j55 x1 x2 x4 x5 S = some (r, S')) : AW p l e R s m args below meth c dC dI cs ad A D0 (some (.int r)) S' 6 55 [(0, .ref (ad 61)), (1, .int x1), (2, .int x2), (4, .int x4), (5, .int x5)] [] S := by
  have hx := F.1.1
  have hb := F.1.2.1
  intro H locs ls w hl
  rw [f_Yard_piece_j55] at h
  refine lv_iload (pc := 55) hx hb dX11_piece_55 (lv_at hl 4 rfl) ?_
  refine lv_if_eq (pc := 57) (tgt := 70) hx hb dX11_piece_57 (by decide) (fun q => ?_) (fun q => ?_)
  · have h := ite_t q h
    refine lv_aload_n (pc := 70) hx hb dX11_piece_70 rfl (lv_at hl 0 rfl) ?_
    refine s_getR (pc := 71) F w 65 ds_61 (j := 3) vc_X11 vi_X11 rfl (by decide) kf_X11_33 dX11_piece_71 ?_
    refine lv_iload_n (pc := 74) hx hb dX11_piece_74 rfl (lv_at hl 1 rfl) ?_
    refine lv_iload_n (pc := 75) hx hb dX11_piece_75 rfl (lv_at hl 2 rfl) ?_
    refine lv_iload (pc := 76) hx hb dX11_piece_76 (lv_at hl 3 rfl) ?_
    obtain ⟨S8, hc, h⟩ := bndv_t h
    refine s_cvv (pc := 78) [.int x1, .int x2, .int x4] (fun ad => [.ref (ad 65), .int x1, .int x2, .int x4]) F w (m_Stock_setPiece _ _ _ _ _ hc) rfl rfl hl.1 ds_65 vc_X9 rfl ok_X9_setPiece rfl kc_X9_setPiece kl_X11_196 ki_X9_setPiece kv_X9_setPiece kn_X9 ⟨Nat.le_trans (by decide) hR1, Nat.le_trans (by decide) hR2⟩ ⟨Nat.zero_le _, Nat.zero_le _⟩ (Nat.le_of_ble_eq_true rfl) dX11_piece_78 (fun H locs w => ?_)
    refine lv_iconst (pc := 81) (v := 1) hx hb dX11_piece_81 (by decide) ?_
    exact s_iret F w h dX11_piece_82
  · have h := ite_f q h
    refine lv_aload_n (pc := 60) hx hb dX11_piece_60 rfl (lv_at hl 0 rfl) ?_
    refine s_getR (pc := 61) F w 62 ds_61 (j := 0) vc_X11 vi_X11 rfl (by decide) kf_X11_10 dX11_piece_61 ?_
    refine lv_iload (pc := 64) hx hb dX11_piece_64 (lv_at hl 4 rfl) ?_
    obtain ⟨r10, S9, hc, h⟩ := bnd_t h
    refine s_cvi (pc := 66) [.int x5] (fun ad => [.ref (ad 62), .int x5]) F w (m_Report_found _ _ _ _ hc) rfl rfl hl.1 ds_62 vc_X5 rfl ok_X5_found rfl kc_X5_found kl_X11_98 ki_X5_found kv_X5_found kn_X5 ⟨Nat.le_trans (by decide) hR1, Nat.le_trans (by decide) hR2⟩ ⟨Nat.zero_le _, Nat.zero_le _⟩ (Nat.le_of_ble_eq_true rfl) dX11_piece_66 (fun H locs w => ?_)
    exact s_iret F w h dX11_piece_69
set_option maxRecDepth 100000 in
set_option maxHeartbeats 4000000 in
theorem m_Yard_piece (a1 : Int32) (a2 : Int32) (a3 : Int32) (a4 : Int32) (S S' : SS) (r : Int32) (h : f_Yard_piece a1 a2 a3 a4 S = some (r, S')) : MT yX11_piece cX11_piece 6 (some .int) 3 67 (fun ad => [.ref (ad 61), .int a1, .int a2, .int a3, .int a4]) S (some (.int r)) S' := by
  refine MT.of RX11 (fun ad => [(0, .ref (ad 61)), (1, .int a1), (2, .int a2), (3, .int a3), (4, .int a4)]) (by decide) rfl (fun _ => Nat.le_of_ble_eq_true rfl) (fun _ => rfl) ?_
  intro p l e R s m args below meth c dC dI cs ad A hR1 hR2 F H locs ls w hl
  have hx := F.1.1
  have hb := F.1.2.1
  rw [f_Yard_piece] at h
  refine lv_iload_n (pc := 0) hx hb dX11_piece_0 rfl (lv_at hl 3 rfl) ?_
  refine lv_iconst (pc := 1) (v := 0) hx hb dX11_piece_1 (by decide) ?_
  refine lv_iconst (pc := 2) (v := 1) hx hb dX11_piece_2 (by decide) ?_
  obtain ⟨r2, S1, hc, h⟩ := bnd_t h
  refine s_csi (pc := 3) [.int a3, .int (0 : Int32), .int (1 : Int32)] (fun ad => [.int a3, .int (0 : Int32), .int (1 : Int32)]) F w (m_Yard_isNot _ _ _ _ _ _ hc) rfl rfl hl.1 ok_X11_isNot rfl kc_X11_isNot kl_X11_108 ks_X11_isNot kn_X11 ⟨Nat.le_trans (by decide) hR1, Nat.le_trans (by decide) hR2⟩ ⟨Nat.zero_le _, Nat.zero_le _⟩ (Nat.le_of_ble_eq_true rfl) dX11_piece_3 (fun H locs w => ?_)
  refine lv_if_ne (pc := 6) (tgt := 20) hx hb dX11_piece_6 (by decide) (fun q => ?_) (fun q => ?_)
  · have h := ite_f q h
    refine lv_iconst (pc := 20) (v := -1) hx hb dX11_piece_20 (by decide) ?_
    exact s_iret F w h dX11_piece_21
  · have h := ite_t q h
    refine lv_iload (pc := 9) hx hb dX11_piece_9 (lv_at hl 4 rfl) ?_
    refine lv_iconst (pc := 11) (v := 0) hx hb dX11_piece_11 (by decide) ?_
    refine lv_bipush (pc := 12) (v := 120) hx hb dX11_piece_12 (by decide) ?_
    obtain ⟨r4, S3, hc, h⟩ := bnd_t h
    refine s_csi (pc := 14) [.int a4, .int (0 : Int32), .int (120 : Int32)] (fun ad => [.int a4, .int (0 : Int32), .int (120 : Int32)]) F w (m_Yard_isNot _ _ _ _ _ _ hc) rfl rfl hl.1 ok_X11_isNot rfl kc_X11_isNot kl_X11_108 ks_X11_isNot kn_X11 ⟨Nat.le_trans (by decide) hR1, Nat.le_trans (by decide) hR2⟩ ⟨Nat.zero_le _, Nat.zero_le _⟩ (Nat.le_of_ble_eq_true rfl) dX11_piece_14 (fun H locs w => ?_)
    refine lv_if_eq (pc := 17) (tgt := 22) hx hb dX11_piece_17 (by decide) (fun q => ?_) (fun q => ?_)
    · have h := ite_t q h
      refine lv_aload_n (pc := 22) hx hb dX11_piece_22 rfl (lv_at hl 0 rfl) ?_
      refine s_getR (pc := 23) F w 62 ds_61 (j := 0) vc_X11 vi_X11 rfl (by decide) kf_X11_10 dX11_piece_23 ?_
      obtain ⟨S5, hc, h⟩ := bndv_t h
      refine s_cvv (pc := 26) [] (fun ad => [.ref (ad 62)]) F w (m_Report_begin  _ _ hc) rfl rfl hl.1 ds_62 vc_X5 rfl ok_X5_begin rfl kc_X5_begin kl_X11_95 ki_X5_begin kv_X5_begin kn_X5 ⟨Nat.le_trans (by decide) hR1, Nat.le_trans (by decide) hR2⟩ ⟨Nat.zero_le _, Nat.zero_le _⟩ (Nat.le_of_ble_eq_true rfl) dX11_piece_26 (fun H locs w => ?_)
      refine lv_aload_n (pc := 29) hx hb dX11_piece_29 rfl (lv_at hl 0 rfl) ?_
      refine lv_iload_n (pc := 30) hx hb dX11_piece_30 rfl (lv_at hl 1 rfl) ?_
      refine lv_bipush (pc := 31) (v := 31) hx hb dX11_piece_31 (by decide) ?_
      obtain ⟨r7, S6, hc, h⟩ := bnd_t h
      refine s_cvi (pc := 33) [.int a1, .int (31 : Int32)] (fun ad => [.ref (ad 61), .int a1, .int (31 : Int32)]) F w (m_Yard_named _ _ _ _ _ hc) rfl rfl hl.1 ds_61 vc_X11 rfl ok_X11_named rfl kc_X11_named kl_X11_185 ki_X11_named kv_X11_named kn_X11 ⟨Nat.le_trans (by decide) hR1, Nat.le_trans (by decide) hR2⟩ ⟨Nat.zero_le _, Nat.zero_le _⟩ (Nat.le_of_ble_eq_true rfl) dX11_piece_33 (fun H locs w => ?_)
      refine lv_istore (pc := 36) (lv' := [(5, .int r7), (0, .ref (ad 61)), (1, .int a1), (2, .int a2), (3, .int a3), (4, .int a4)]) hx hb dX11_piece_36 hl (by decide) rfl (fun ls hl => ?_)
      refine lv_iload (pc := 38) hx hb dX11_piece_38 (lv_at hl 0 rfl) ?_
      refine lv_if_ne (pc := 40) (tgt := 55) hx hb dX11_piece_40 (by decide) (fun q => ?_) (fun q => ?_)
      · have h := ite_f q h
        exact w_Yard_piece_j55 F (Nat.le_trans (by decide) hR1) (Nat.le_trans (by decide) hR2) _ _ _ _ _ h _ _ _ w (lv_sub hl [1, 2, 3, 5, 0] rfl)
      · have h := ite_t q h
        refine lv_aload_n (pc := 43) hx hb dX11_piece_43 rfl (lv_at hl 1 rfl) ?_
        refine s_getR (pc := 44) F w 65 ds_61 (j := 3) vc_X11 vi_X11 rfl (by decide) kf_X11_33 dX11_piece_44 ?_
        refine lv_iload_n (pc := 47) hx hb dX11_piece_47 rfl (lv_at hl 2 rfl) ?_
        refine lv_iload_n (pc := 48) hx hb dX11_piece_48 rfl (lv_at hl 3 rfl) ?_
        refine lv_iload_n (pc := 49) hx hb dX11_piece_49 rfl (lv_at hl 4 rfl) ?_
        obtain ⟨r12, S11, hc, h⟩ := bnd_t h
        refine s_cvi (pc := 50) [.int a1, .int a2, .int a3] (fun ad => [.ref (ad 65), .int a1, .int a2, .int a3]) F w (m_Stock_pieceFinding _ _ _ _ _ _ hc) rfl rfl hl.1 ds_65 vc_X9 rfl ok_X9_pieceFinding rfl kc_X9_pieceFinding kl_X11_192 ki_X9_pieceFinding kv_X9_pieceFinding kn_X9 ⟨Nat.le_trans (by decide) hR1, Nat.le_trans (by decide) hR2⟩ ⟨Nat.zero_le _, Nat.zero_le _⟩ (Nat.le_of_ble_eq_true rfl) dX11_piece_50 (fun H locs w => ?_)
        refine lv_istore (pc := 53) (lv' := [(5, .int r12), (0, .ref (ad 61)), (1, .int a1), (2, .int a2), (3, .int a3), (4, .int a4)]) hx hb dX11_piece_53 hl (by decide) rfl (fun ls hl => ?_)
        exact w_Yard_piece_j55 F (Nat.le_trans (by decide) hR1) (Nat.le_trans (by decide) hR2) _ _ _ _ _ h _ _ _ w (lv_sub hl [1, 2, 3, 5, 0] rfl)
    · have h := ite_f q h
      refine lv_iconst (pc := 20) (v := -1) hx hb dX11_piece_20 (by decide) ?_
      exact s_iret F w h dX11_piece_21
def f_History_border  (S : SS) : Option (Int32 × SS) :=
  some (((S.1 64 3) + (S.1 64 6)) - ((S.1 64 3) + (S.1 64 6)) / (8 : Int32) * (8 : Int32), S)
theorem dX1_border_0 : decode cX1_border 0 = .ok (.aload_n 0, 1) := dc_42 (by decide +kernel)
theorem dX1_border_1 : decode cX1_border 1 = .ok (.getfield 25, 3) := dc_180 (a := 0) (b := 25) (by decide +kernel)
theorem dX1_border_4 : decode cX1_border 4 = .ok (.aload_n 0, 1) := dc_42 (by decide +kernel)
theorem dX1_border_5 : decode cX1_border 5 = .ok (.getfield 35, 3) := dc_180 (a := 0) (b := 35) (by decide +kernel)
theorem dX1_border_8 : decode cX1_border 8 = .ok (.iadd, 1) := dc_96 (by decide +kernel)
theorem dX1_border_9 : decode cX1_border 9 = .ok (.bipush 8, 2) := dc_16 (a := 8) (by decide +kernel) (by decide)
theorem dX1_border_11 : decode cX1_border 11 = .ok (.irem, 1) := dc_112 (by decide +kernel)
theorem dX1_border_12 : decode cX1_border 12 = .ok (.ireturn, 1) := dc_172 (by decide +kernel)
set_option maxRecDepth 100000 in
set_option maxHeartbeats 4000000 in
theorem m_History_border  (S S' : SS) (r : Int32) (h : f_History_border  S = some (r, S')) : MT yX1_border cX1_border 1 (some .int) 0 0 (fun ad => [.ref (ad 64)]) S (some (.int r)) S' := by
  refine MT.of RX1 (fun ad => [(0, .ref (ad 64))]) (by decide) rfl (fun _ => Nat.le_of_ble_eq_true rfl) (fun _ => rfl) ?_
  intro p l e R s m args below meth c dC dI cs ad A hR1 hR2 F H locs ls w hl
  have hx := F.1.1
  have hb := F.1.2.1
  rw [f_History_border] at h
  refine lv_aload_n (pc := 0) hx hb dX1_border_0 rfl (lv_at hl 0 rfl) ?_
  refine s_getI (pc := 1) F w ds_64 (j := 3) vc_X1 vi_X1 rfl (by decide) kf_X1_25 dX1_border_1 ?_
  refine lv_aload_n (pc := 4) hx hb dX1_border_4 rfl (lv_at hl 0 rfl) ?_
  refine s_getI (pc := 5) F w ds_64 (j := 6) vc_X1 vi_X1 rfl (by decide) kf_X1_35 dX1_border_5 ?_
  refine lv_iadd (pc := 8) hx hb dX1_border_8 ?_
  refine lv_bipush (pc := 9) (v := 8) hx hb dX1_border_9 (by decide) ?_
  refine lv_irem (pc := 11) hx hb dX1_border_11 (by decide) ?_
  exact s_iret F w h dX1_border_12
def f_State_usedCells  (S : SS) : Option (Int32 × SS) :=
  some ((154 : Int32) + ((11 : Int32) * (S.1 63 1)), S)
theorem dX8_usedCells_0 : decode cX8_usedCells 0 = .ok (.sipush 154, 3) := dc_17 (a := 0) (b := 154) (by decide +kernel) (by decide)
theorem dX8_usedCells_3 : decode cX8_usedCells 3 = .ok (.bipush 11, 2) := dc_16 (a := 11) (by decide +kernel) (by decide)
theorem dX8_usedCells_5 : decode cX8_usedCells 5 = .ok (.aload_n 0, 1) := dc_42 (by decide +kernel)
theorem dX8_usedCells_6 : decode cX8_usedCells 6 = .ok (.getfield 17, 3) := dc_180 (a := 0) (b := 17) (by decide +kernel)
theorem dX8_usedCells_9 : decode cX8_usedCells 9 = .ok (.imul, 1) := dc_104 (by decide +kernel)
theorem dX8_usedCells_10 : decode cX8_usedCells 10 = .ok (.iadd, 1) := dc_96 (by decide +kernel)
theorem dX8_usedCells_11 : decode cX8_usedCells 11 = .ok (.ireturn, 1) := dc_172 (by decide +kernel)
set_option maxRecDepth 100000 in
set_option maxHeartbeats 4000000 in
theorem m_State_usedCells  (S S' : SS) (r : Int32) (h : f_State_usedCells  S = some (r, S')) : MT yX8_usedCells cX8_usedCells 1 (some .int) 0 0 (fun ad => [.ref (ad 63)]) S (some (.int r)) S' := by
  refine MT.of RX8 (fun ad => [(0, .ref (ad 63))]) (by decide) rfl (fun _ => Nat.le_of_ble_eq_true rfl) (fun _ => rfl) ?_
  intro p l e R s m args below meth c dC dI cs ad A hR1 hR2 F H locs ls w hl
  have hx := F.1.1
  have hb := F.1.2.1
  rw [f_State_usedCells] at h
  refine lv_sipush (pc := 0) (v := 154) hx hb dX8_usedCells_0 (by decide) ?_
  refine lv_bipush (pc := 3) (v := 11) hx hb dX8_usedCells_3 (by decide) ?_
  refine lv_aload_n (pc := 5) hx hb dX8_usedCells_5 rfl (lv_at hl 0 rfl) ?_
  refine s_getI (pc := 6) F w ds_63 (j := 1) vc_X8 vi_X8 rfl (by decide) kf_X8_17 dX8_usedCells_6 ?_
  refine lv_imul (pc := 9) hx hb dX8_usedCells_9 ?_
  refine lv_iadd (pc := 10) hx hb dX8_usedCells_10 ?_
  exact s_iret F w h dX8_usedCells_11
def f_History_keep_j33   (S : SS) : Option (SS) :=
    bnd (f_History_border  S) (fun r3 S2 =>
    grd (inb r3 8) (
    bnd (f_State_usedCells  S2) (fun r5 S4 =>
    grd (cpok (0 : Int32) (0 : Int32) r5 946 946) (cpw S4 79 (kb + r3.toNatClampNeg) (0 : Int32).toNatClampNeg (0 : Int32).toNatClampNeg r5.toNatClampNeg (fun S6 =>
    wr S6 64 6 ((S6.1 64 6) + (1 : Int32)) (fun S7 =>
    some S7))))))
def f_History_keep  (S : SS) : Option (SS) :=
  wr S 64 7 (0 : Int32) (fun S1 =>
  if (S1.1 64 6) < (8 : Int32) then
    f_History_keep_j33  S1
  else
    wr S1 64 3 (((S1.1 64 3) + (1 : Int32)) - ((S1.1 64 3) + (1 : Int32)) / (8 : Int32) * (8 : Int32)) (fun S8 =>
    wr S8 64 6 (7 : Int32) (fun S9 =>
    f_History_keep_j33  S9)))
theorem dX1_keep_0 : decode cX1_keep 0 = .ok (.aload_n 0, 1) := dc_42 (by decide +kernel)
theorem dX1_keep_1 : decode cX1_keep 1 = .ok (.iconst 0, 1) := dc_3 (by decide +kernel)
theorem dX1_keep_2 : decode cX1_keep 2 = .ok (.putfield 38, 3) := dc_181 (a := 0) (b := 38) (by decide +kernel)
theorem dX1_keep_5 : decode cX1_keep 5 = .ok (.aload_n 0, 1) := dc_42 (by decide +kernel)
theorem dX1_keep_6 : decode cX1_keep 6 = .ok (.getfield 35, 3) := dc_180 (a := 0) (b := 35) (by decide +kernel)
theorem dX1_keep_9 : decode cX1_keep 9 = .ok (.bipush 8, 2) := dc_16 (a := 8) (by decide +kernel) (by decide)
theorem dX1_keep_11 : decode cX1_keep 11 = .ok (.if_icmp .lt 22, 3) := dc_161 (a := 0) (b := 22) (by decide +kernel) (by decide)
theorem dX1_keep_14 : decode cX1_keep 14 = .ok (.aload_n 0, 1) := dc_42 (by decide +kernel)
theorem dX1_keep_15 : decode cX1_keep 15 = .ok (.aload_n 0, 1) := dc_42 (by decide +kernel)
theorem dX1_keep_16 : decode cX1_keep 16 = .ok (.getfield 25, 3) := dc_180 (a := 0) (b := 25) (by decide +kernel)
theorem dX1_keep_19 : decode cX1_keep 19 = .ok (.iconst 1, 1) := dc_4 (by decide +kernel)
theorem dX1_keep_20 : decode cX1_keep 20 = .ok (.iadd, 1) := dc_96 (by decide +kernel)
theorem dX1_keep_21 : decode cX1_keep 21 = .ok (.bipush 8, 2) := dc_16 (a := 8) (by decide +kernel) (by decide)
theorem dX1_keep_23 : decode cX1_keep 23 = .ok (.irem, 1) := dc_112 (by decide +kernel)
theorem dX1_keep_24 : decode cX1_keep 24 = .ok (.putfield 25, 3) := dc_181 (a := 0) (b := 25) (by decide +kernel)
theorem dX1_keep_27 : decode cX1_keep 27 = .ok (.aload_n 0, 1) := dc_42 (by decide +kernel)
theorem dX1_keep_28 : decode cX1_keep 28 = .ok (.bipush 7, 2) := dc_16 (a := 7) (by decide +kernel) (by decide)
theorem dX1_keep_30 : decode cX1_keep 30 = .ok (.putfield 35, 3) := dc_181 (a := 0) (b := 35) (by decide +kernel)
theorem dX1_keep_33 : decode cX1_keep 33 = .ok (.aload_n 1, 1) := dc_43 (by decide +kernel)
theorem dX1_keep_34 : decode cX1_keep 34 = .ok (.getfield 41, 3) := dc_180 (a := 0) (b := 41) (by decide +kernel)
theorem dX1_keep_37 : decode cX1_keep 37 = .ok (.iconst 0, 1) := dc_3 (by decide +kernel)
theorem dX1_keep_38 : decode cX1_keep 38 = .ok (.aload_n 0, 1) := dc_42 (by decide +kernel)
theorem dX1_keep_39 : decode cX1_keep 39 = .ok (.getfield 15, 3) := dc_180 (a := 0) (b := 15) (by decide +kernel)
theorem dX1_keep_42 : decode cX1_keep 42 = .ok (.aload_n 0, 1) := dc_42 (by decide +kernel)
theorem dX1_keep_43 : decode cX1_keep 43 = .ok (.invokevirtual 44, 3) := dc_182 (a := 0) (b := 44) (by decide +kernel)
theorem dX1_keep_46 : decode cX1_keep 46 = .ok (.aaload, 1) := dc_50 (by decide +kernel)
theorem dX1_keep_47 : decode cX1_keep 47 = .ok (.iconst 0, 1) := dc_3 (by decide +kernel)
theorem dX1_keep_48 : decode cX1_keep 48 = .ok (.aload_n 1, 1) := dc_43 (by decide +kernel)
theorem dX1_keep_49 : decode cX1_keep 49 = .ok (.invokevirtual 48, 3) := dc_182 (a := 0) (b := 48) (by decide +kernel)
theorem dX1_keep_52 : decode cX1_keep 52 = .ok (.invokestatic 51, 3) := dc_184 (a := 0) (b := 51) (by decide +kernel)
theorem dX1_keep_55 : decode cX1_keep 55 = .ok (.aload_n 0, 1) := dc_42 (by decide +kernel)
theorem dX1_keep_56 : decode cX1_keep 56 = .ok (.dup, 1) := dc_89 (by decide +kernel)
theorem dX1_keep_57 : decode cX1_keep 57 = .ok (.getfield 35, 3) := dc_180 (a := 0) (b := 35) (by decide +kernel)
theorem dX1_keep_60 : decode cX1_keep 60 = .ok (.iconst 1, 1) := dc_4 (by decide +kernel)
theorem dX1_keep_61 : decode cX1_keep 61 = .ok (.iadd, 1) := dc_96 (by decide +kernel)
theorem dX1_keep_62 : decode cX1_keep 62 = .ok (.putfield 35, 3) := dc_181 (a := 0) (b := 35) (by decide +kernel)
theorem dX1_keep_65 : decode cX1_keep 65 = .ok (.return_, 1) := dc_177 (by decide +kernel)
set_option maxRecDepth 100000 in
set_option maxHeartbeats 4000000 in
theorem w_History_keep_j33 {p : Program} {l : Launch} {e : Env} {R : Room} {s : State} {m : MethodId} {args : Array Value} {below : List Frame} {meth : Method} {c : Code} {dC : Nat → ClassId} {dI : Nat → Nat → Nat} {cs : Nat → ClassId} {ad : Nat → Nat} {A : Nat → Prop} {D0 : Nat → Nat} {S' : SS} (F : Fx p s m args meth c cX1_keep 2 RX1 none dC dI cs A) (hR1 : 1 ≤ R.frames) (hR2 : 40 ≤ R.locals)  (S : SS) (h : f_History_keep_j33  S = some S') : AW p l e R s m args below meth c dC dI cs ad A D0 none S' 2 33 [(0, .ref (ad 64)), (1, .ref (ad 63))] [] S := by
  have hx := F.1.1
  have hb := F.1.2.1
  intro H locs ls w hl
  rw [f_History_keep_j33] at h
  refine lv_aload_n (pc := 33) hx hb dX1_keep_33 rfl (lv_at hl 1 rfl) ?_
  refine s_getR (pc := 34) F w 79 ds_63 (j := 0) vc_X8 vi_X8 rfl (by decide) kf_X1_41 dX1_keep_34 ?_
  refine lv_iconst (pc := 37) (v := 0) hx hb dX1_keep_37 (by decide) ?_
  refine lv_aload_n (pc := 38) hx hb dX1_keep_38 rfl (lv_at hl 0 rfl) ?_
  refine s_getR (pc := 39) F w 80 ds_64 (j := 0) vc_X1 vi_X1 rfl (by decide) kf_X1_15 dX1_keep_39 ?_
  refine lv_aload_n (pc := 42) hx hb dX1_keep_42 rfl (lv_at hl 0 rfl) ?_
  obtain ⟨r3, S2, hc, h⟩ := bnd_t h
  refine s_cvi (pc := 43) [] (fun ad => [.ref (ad 64)]) F w (m_History_border  _ _ _ hc) rfl rfl hl.1 ds_64 vc_X1 rfl ok_X1_border rfl kc_X1_border kl_X1_44 ki_X1_border kv_X1_border kn_X1 ⟨Nat.le_trans (by decide) hR1, Nat.le_trans (by decide) hR2⟩ ⟨Nat.zero_le _, Nat.zero_le _⟩ (Nat.le_of_ble_eq_true rfl) dX1_keep_43 (fun H locs w => ?_)
  refine s_aald (pc := 46) F w ds_80 h dX1_keep_46 (fun hi h => ?_)
  refine lv_iconst (pc := 47) (v := 0) hx hb dX1_keep_47 (by decide) ?_
  refine lv_aload_n (pc := 48) hx hb dX1_keep_48 rfl (lv_at hl 1 rfl) ?_
  obtain ⟨r5, S4, hc, h⟩ := bnd_t h
  refine s_cvi (pc := 49) [] (fun ad => [.ref (ad 63)]) F w (m_State_usedCells  _ _ _ hc) rfl rfl hl.1 ds_63 vc_X8 rfl ok_X8_usedCells rfl kc_X8_usedCells kl_X1_48 ki_X8_usedCells kv_X8_usedCells kn_X8 ⟨Nat.le_trans (by decide) hR1, Nat.le_trans (by decide) hR2⟩ ⟨Nat.zero_le _, Nat.zero_le _⟩ (Nat.le_of_ble_eq_true rfl) dX1_keep_49 (fun H locs w => ?_)
  refine s_copy (pc := 52) F w hl.1 ds_79 (ds_kept hi) h kl_X1_51 kx_native kx_static kx_ini (Nat.le_trans (by decide) hR1) (Nat.le_trans (Nat.le_of_ble_eq_true rfl) hR2) dX1_keep_52 (fun S6 H locs h w => ?_)
  refine lv_aload_n (pc := 55) hx hb dX1_keep_55 rfl (lv_at hl 0 rfl) ?_
  refine lv_dup (pc := 56) hx hb dX1_keep_56 rfl ?_
  refine s_getI (pc := 57) F w ds_64 (j := 6) vc_X1 vi_X1 rfl (by decide) kf_X1_35 dX1_keep_57 ?_
  refine lv_iconst (pc := 60) (v := 1) hx hb dX1_keep_60 (by decide) ?_
  refine lv_iadd (pc := 61) hx hb dX1_keep_61 ?_
  refine s_putI (pc := 62) F w ds_64 vc_X1 vi_X1 tyX1_ok nmX1 (j := 6) rfl (by decide) kf_X1_35 rfl pd_I h dX1_keep_62 (fun S7 H locs h w => ?_)
  exact s_vret F w h dX1_keep_65
set_option maxRecDepth 100000 in
set_option maxHeartbeats 4000000 in
theorem m_History_keep  (S S' : SS) (h : f_History_keep  S = some S') : MT yX1_keep cX1_keep 2 none 1 40 (fun ad => [.ref (ad 64), .ref (ad 63)]) S none S' := by
  refine MT.of RX1 (fun ad => [(0, .ref (ad 64)), (1, .ref (ad 63))]) (by decide) rfl (fun _ => Nat.le_of_ble_eq_true rfl) (fun _ => rfl) ?_
  intro p l e R s m args below meth c dC dI cs ad A hR1 hR2 F H locs ls w hl
  have hx := F.1.1
  have hb := F.1.2.1
  rw [f_History_keep] at h
  refine lv_aload_n (pc := 0) hx hb dX1_keep_0 rfl (lv_at hl 0 rfl) ?_
  refine lv_iconst (pc := 1) (v := 0) hx hb dX1_keep_1 (by decide) ?_
  refine s_putI (pc := 2) F w ds_64 vc_X1 vi_X1 tyX1_ok nmX1 (j := 7) rfl (by decide) kf_X1_38 rfl pd_I h dX1_keep_2 (fun S1 H locs h w => ?_)
  refine lv_aload_n (pc := 5) hx hb dX1_keep_5 rfl (lv_at hl 0 rfl) ?_
  refine s_getI (pc := 6) F w ds_64 (j := 6) vc_X1 vi_X1 rfl (by decide) kf_X1_35 dX1_keep_6 ?_
  refine lv_bipush (pc := 9) (v := 8) hx hb dX1_keep_9 (by decide) ?_
  refine lv_icmp_lt (pc := 11) (tgt := 33) hx hb dX1_keep_11 (by decide) (fun q => ?_) (fun q => ?_)
  · have h := ite_t q h
    exact w_History_keep_j33 F (Nat.le_trans (by decide) hR1) (Nat.le_trans (by decide) hR2)  _ h _ _ _ w (lv_sub hl [0, 1] rfl)
  · have h := ite_f q h
    refine lv_aload_n (pc := 14) hx hb dX1_keep_14 rfl (lv_at hl 0 rfl) ?_
    refine lv_aload_n (pc := 15) hx hb dX1_keep_15 rfl (lv_at hl 0 rfl) ?_
    refine s_getI (pc := 16) F w ds_64 (j := 3) vc_X1 vi_X1 rfl (by decide) kf_X1_25 dX1_keep_16 ?_
    refine lv_iconst (pc := 19) (v := 1) hx hb dX1_keep_19 (by decide) ?_
    refine lv_iadd (pc := 20) hx hb dX1_keep_20 ?_
    refine lv_bipush (pc := 21) (v := 8) hx hb dX1_keep_21 (by decide) ?_
    refine lv_irem (pc := 23) hx hb dX1_keep_23 (by decide) ?_
    refine s_putI (pc := 24) F w ds_64 vc_X1 vi_X1 tyX1_ok nmX1 (j := 3) rfl (by decide) kf_X1_25 rfl pd_I h dX1_keep_24 (fun S8 H locs h w => ?_)
    refine lv_aload_n (pc := 27) hx hb dX1_keep_27 rfl (lv_at hl 0 rfl) ?_
    refine lv_bipush (pc := 28) (v := 7) hx hb dX1_keep_28 (by decide) ?_
    refine s_putI (pc := 30) F w ds_64 vc_X1 vi_X1 tyX1_ok nmX1 (j := 6) rfl (by decide) kf_X1_35 rfl pd_I h dX1_keep_30 (fun S9 H locs h w => ?_)
    exact w_History_keep_j33 F (Nat.le_trans (by decide) hR1) (Nat.le_trans (by decide) hR2)  _ h _ _ _ w (lv_sub hl [0, 1] rfl)
def f_Yard_beginAct  (S : SS) : Option (SS) :=
  bndv (f_Report_begin  S) (fun S1 =>
  bndv (f_History_keep  S1) (fun S2 =>
  some S2))
theorem dX11_beginAct_0 : decode cX11_beginAct 0 = .ok (.aload_n 0, 1) := dc_42 (by decide +kernel)
theorem dX11_beginAct_1 : decode cX11_beginAct 1 = .ok (.getfield 10, 3) := dc_180 (a := 0) (b := 10) (by decide +kernel)
theorem dX11_beginAct_4 : decode cX11_beginAct 4 = .ok (.invokevirtual 95, 3) := dc_182 (a := 0) (b := 95) (by decide +kernel)
theorem dX11_beginAct_7 : decode cX11_beginAct 7 = .ok (.aload_n 0, 1) := dc_42 (by decide +kernel)
theorem dX11_beginAct_8 : decode cX11_beginAct 8 = .ok (.getfield 26, 3) := dc_180 (a := 0) (b := 26) (by decide +kernel)
theorem dX11_beginAct_11 : decode cX11_beginAct 11 = .ok (.aload_n 0, 1) := dc_42 (by decide +kernel)
theorem dX11_beginAct_12 : decode cX11_beginAct 12 = .ok (.getfield 19, 3) := dc_180 (a := 0) (b := 19) (by decide +kernel)
theorem dX11_beginAct_15 : decode cX11_beginAct 15 = .ok (.invokevirtual 232, 3) := dc_182 (a := 0) (b := 232) (by decide +kernel)
theorem dX11_beginAct_18 : decode cX11_beginAct 18 = .ok (.return_, 1) := dc_177 (by decide +kernel)
set_option maxRecDepth 100000 in
set_option maxHeartbeats 4000000 in
theorem m_Yard_beginAct  (S S' : SS) (h : f_Yard_beginAct  S = some S') : MT yX11_beginAct cX11_beginAct 1 none 2 61 (fun ad => [.ref (ad 61)]) S none S' := by
  refine MT.of RX11 (fun ad => [(0, .ref (ad 61))]) (by decide) rfl (fun _ => Nat.le_of_ble_eq_true rfl) (fun _ => rfl) ?_
  intro p l e R s m args below meth c dC dI cs ad A hR1 hR2 F H locs ls w hl
  have hx := F.1.1
  have hb := F.1.2.1
  rw [f_Yard_beginAct] at h
  refine lv_aload_n (pc := 0) hx hb dX11_beginAct_0 rfl (lv_at hl 0 rfl) ?_
  refine s_getR (pc := 1) F w 62 ds_61 (j := 0) vc_X11 vi_X11 rfl (by decide) kf_X11_10 dX11_beginAct_1 ?_
  obtain ⟨S1, hc, h⟩ := bndv_t h
  refine s_cvv (pc := 4) [] (fun ad => [.ref (ad 62)]) F w (m_Report_begin  _ _ hc) rfl rfl hl.1 ds_62 vc_X5 rfl ok_X5_begin rfl kc_X5_begin kl_X11_95 ki_X5_begin kv_X5_begin kn_X5 ⟨Nat.le_trans (by decide) hR1, Nat.le_trans (by decide) hR2⟩ ⟨Nat.zero_le _, Nat.zero_le _⟩ (Nat.le_of_ble_eq_true rfl) dX11_beginAct_4 (fun H locs w => ?_)
  refine lv_aload_n (pc := 7) hx hb dX11_beginAct_7 rfl (lv_at hl 0 rfl) ?_
  refine s_getR (pc := 8) F w 64 ds_61 (j := 2) vc_X11 vi_X11 rfl (by decide) kf_X11_26 dX11_beginAct_8 ?_
  refine lv_aload_n (pc := 11) hx hb dX11_beginAct_11 rfl (lv_at hl 0 rfl) ?_
  refine s_getR (pc := 12) F w 63 ds_61 (j := 1) vc_X11 vi_X11 rfl (by decide) kf_X11_19 dX11_beginAct_12 ?_
  obtain ⟨S2, hc, h⟩ := bndv_t h
  refine s_cvv (pc := 15) [.ref (ad 63)] (fun ad => [.ref (ad 64), .ref (ad 63)]) F w (m_History_keep  _ _ hc) rfl rfl hl.1 ds_64 vc_X1 rfl ok_X1_keep rfl kc_X1_keep kl_X11_232 ki_X1_keep kv_X1_keep kn_X1 ⟨Nat.le_trans (by decide) hR1, Nat.le_trans (by decide) hR2⟩ ⟨Nat.zero_le _, Nat.zero_le _⟩ (Nat.le_of_ble_eq_true rfl) dX11_beginAct_15 (fun H locs w => ?_)
  exact s_vret F w h dX11_beginAct_18
def f_Yard_change (a1 : Int32) (a2 : Int32) (a3 : Int32) (a4 : Int32) (S : SS) : Option (Int32 × SS) :=
  bnd (f_Yard_named a1 a2 S) (fun r2 S1 =>
  if r2 = 0 then
    bnd (f_State_get a1 a3 S1) (fun r4 S3 =>
    bndv (f_State_set a1 a3 a4 S3) (fun S5 =>
    some (r4, S5)))
  else
    bnd (f_Report_found r2 S1) (fun r7 S6 =>
    some (r7, S6)))
theorem dX11_change_0 : decode cX11_change 0 = .ok (.aload_n 0, 1) := dc_42 (by decide +kernel)
theorem dX11_change_1 : decode cX11_change 1 = .ok (.iload_n 1, 1) := dc_27 (by decide +kernel)
theorem dX11_change_2 : decode cX11_change 2 = .ok (.iload_n 2, 1) := dc_28 (by decide +kernel)
theorem dX11_change_3 : decode cX11_change 3 = .ok (.invokevirtual 185, 3) := dc_182 (a := 0) (b := 185) (by decide +kernel)
theorem dX11_change_6 : decode cX11_change 6 = .ok (.istore 5, 2) := dc_54 (a := 5) (by decide +kernel)
theorem dX11_change_8 : decode cX11_change 8 = .ok (.iload 5, 2) := dc_21 (a := 5) (by decide +kernel)
theorem dX11_change_10 : decode cX11_change 10 = .ok (.ifCond .eq 13, 3) := dc_153 (a := 0) (b := 13) (by decide +kernel) (by decide)
theorem dX11_change_13 : decode cX11_change 13 = .ok (.aload_n 0, 1) := dc_42 (by decide +kernel)
theorem dX11_change_14 : decode cX11_change 14 = .ok (.getfield 10, 3) := dc_180 (a := 0) (b := 10) (by decide +kernel)
theorem dX11_change_17 : decode cX11_change 17 = .ok (.iload 5, 2) := dc_21 (a := 5) (by decide +kernel)
theorem dX11_change_19 : decode cX11_change 19 = .ok (.invokevirtual 98, 3) := dc_182 (a := 0) (b := 98) (by decide +kernel)
theorem dX11_change_22 : decode cX11_change 22 = .ok (.ireturn, 1) := dc_172 (by decide +kernel)
theorem dX11_change_23 : decode cX11_change 23 = .ok (.aload_n 0, 1) := dc_42 (by decide +kernel)
theorem dX11_change_24 : decode cX11_change 24 = .ok (.getfield 19, 3) := dc_180 (a := 0) (b := 19) (by decide +kernel)
theorem dX11_change_27 : decode cX11_change 27 = .ok (.iload_n 1, 1) := dc_27 (by decide +kernel)
theorem dX11_change_28 : decode cX11_change 28 = .ok (.iload_n 3, 1) := dc_29 (by decide +kernel)
theorem dX11_change_29 : decode cX11_change 29 = .ok (.invokevirtual 253, 3) := dc_182 (a := 0) (b := 253) (by decide +kernel)
theorem dX11_change_32 : decode cX11_change 32 = .ok (.istore 6, 2) := dc_54 (a := 6) (by decide +kernel)
theorem dX11_change_34 : decode cX11_change 34 = .ok (.aload_n 0, 1) := dc_42 (by decide +kernel)
theorem dX11_change_35 : decode cX11_change 35 = .ok (.getfield 19, 3) := dc_180 (a := 0) (b := 19) (by decide +kernel)
theorem dX11_change_38 : decode cX11_change 38 = .ok (.iload_n 1, 1) := dc_27 (by decide +kernel)
theorem dX11_change_39 : decode cX11_change 39 = .ok (.iload_n 3, 1) := dc_29 (by decide +kernel)
theorem dX11_change_40 : decode cX11_change 40 = .ok (.iload 4, 2) := dc_21 (a := 4) (by decide +kernel)
theorem dX11_change_42 : decode cX11_change 42 = .ok (.invokevirtual 256, 3) := dc_182 (a := 1) (b := 0) (by decide +kernel)
theorem dX11_change_45 : decode cX11_change 45 = .ok (.iload 6, 2) := dc_21 (a := 6) (by decide +kernel)
theorem dX11_change_47 : decode cX11_change 47 = .ok (.ireturn, 1) := dc_172 (by decide +kernel)
set_option maxRecDepth 100000 in
set_option maxHeartbeats 4000000 in
theorem m_Yard_change (a1 : Int32) (a2 : Int32) (a3 : Int32) (a4 : Int32) (S S' : SS) (r : Int32) (h : f_Yard_change a1 a2 a3 a4 S = some (r, S')) : MT yX11_change cX11_change 7 (some .int) 3 67 (fun ad => [.ref (ad 61), .int a1, .int a2, .int a3, .int a4]) S (some (.int r)) S' := by
  refine MT.of RX11 (fun ad => [(0, .ref (ad 61)), (1, .int a1), (2, .int a2), (3, .int a3), (4, .int a4)]) (by decide) rfl (fun _ => Nat.le_of_ble_eq_true rfl) (fun _ => rfl) ?_
  intro p l e R s m args below meth c dC dI cs ad A hR1 hR2 F H locs ls w hl
  have hx := F.1.1
  have hb := F.1.2.1
  rw [f_Yard_change] at h
  refine lv_aload_n (pc := 0) hx hb dX11_change_0 rfl (lv_at hl 0 rfl) ?_
  refine lv_iload_n (pc := 1) hx hb dX11_change_1 rfl (lv_at hl 1 rfl) ?_
  refine lv_iload_n (pc := 2) hx hb dX11_change_2 rfl (lv_at hl 2 rfl) ?_
  obtain ⟨r2, S1, hc, h⟩ := bnd_t h
  refine s_cvi (pc := 3) [.int a1, .int a2] (fun ad => [.ref (ad 61), .int a1, .int a2]) F w (m_Yard_named _ _ _ _ _ hc) rfl rfl hl.1 ds_61 vc_X11 rfl ok_X11_named rfl kc_X11_named kl_X11_185 ki_X11_named kv_X11_named kn_X11 ⟨Nat.le_trans (by decide) hR1, Nat.le_trans (by decide) hR2⟩ ⟨Nat.zero_le _, Nat.zero_le _⟩ (Nat.le_of_ble_eq_true rfl) dX11_change_3 (fun H locs w => ?_)
  refine lv_istore (pc := 6) (lv' := [(5, .int r2), (0, .ref (ad 61)), (1, .int a1), (2, .int a2), (3, .int a3), (4, .int a4)]) hx hb dX11_change_6 hl (by decide) rfl (fun ls hl => ?_)
  refine lv_iload (pc := 8) hx hb dX11_change_8 (lv_at hl 0 rfl) ?_
  refine lv_if_eq (pc := 10) (tgt := 23) hx hb dX11_change_10 (by decide) (fun q => ?_) (fun q => ?_)
  · have h := ite_t q h
    refine lv_aload_n (pc := 23) hx hb dX11_change_23 rfl (lv_at hl 1 rfl) ?_
    refine s_getR (pc := 24) F w 63 ds_61 (j := 1) vc_X11 vi_X11 rfl (by decide) kf_X11_19 dX11_change_24 ?_
    refine lv_iload_n (pc := 27) hx hb dX11_change_27 rfl (lv_at hl 2 rfl) ?_
    refine lv_iload_n (pc := 28) hx hb dX11_change_28 rfl (lv_at hl 4 rfl) ?_
    obtain ⟨r4, S3, hc, h⟩ := bnd_t h
    refine s_cvi (pc := 29) [.int a1, .int a3] (fun ad => [.ref (ad 63), .int a1, .int a3]) F w (m_State_get _ _ _ _ _ hc) rfl rfl hl.1 ds_63 vc_X8 rfl ok_X8_get rfl kc_X8_get kl_X11_253 ki_X8_get kv_X8_get kn_X8 ⟨Nat.le_trans (by decide) hR1, Nat.le_trans (by decide) hR2⟩ ⟨Nat.zero_le _, Nat.zero_le _⟩ (Nat.le_of_ble_eq_true rfl) dX11_change_29 (fun H locs w => ?_)
    refine lv_istore (pc := 32) (lv' := [(6, .int r4), (5, .int r2), (0, .ref (ad 61)), (1, .int a1), (2, .int a2), (3, .int a3), (4, .int a4)]) hx hb dX11_change_32 hl (by decide) rfl (fun ls hl => ?_)
    refine lv_aload_n (pc := 34) hx hb dX11_change_34 rfl (lv_at hl 2 rfl) ?_
    refine s_getR (pc := 35) F w 63 ds_61 (j := 1) vc_X11 vi_X11 rfl (by decide) kf_X11_19 dX11_change_35 ?_
    refine lv_iload_n (pc := 38) hx hb dX11_change_38 rfl (lv_at hl 3 rfl) ?_
    refine lv_iload_n (pc := 39) hx hb dX11_change_39 rfl (lv_at hl 5 rfl) ?_
    refine lv_iload (pc := 40) hx hb dX11_change_40 (lv_at hl 6 rfl) ?_
    obtain ⟨S5, hc, h⟩ := bndv_t h
    refine s_cvv (pc := 42) [.int a1, .int a3, .int a4] (fun ad => [.ref (ad 63), .int a1, .int a3, .int a4]) F w (m_State_set _ _ _ _ _ hc) rfl rfl hl.1 ds_63 vc_X8 rfl ok_X8_set rfl kc_X8_set kl_X11_256 ki_X8_set kv_X8_set kn_X8 ⟨Nat.le_trans (by decide) hR1, Nat.le_trans (by decide) hR2⟩ ⟨Nat.zero_le _, Nat.zero_le _⟩ (Nat.le_of_ble_eq_true rfl) dX11_change_42 (fun H locs w => ?_)
    refine lv_iload (pc := 45) hx hb dX11_change_45 (lv_at hl 0 rfl) ?_
    exact s_iret F w h dX11_change_47
  · have h := ite_f q h
    refine lv_aload_n (pc := 13) hx hb dX11_change_13 rfl (lv_at hl 1 rfl) ?_
    refine s_getR (pc := 14) F w 62 ds_61 (j := 0) vc_X11 vi_X11 rfl (by decide) kf_X11_10 dX11_change_14 ?_
    refine lv_iload (pc := 17) hx hb dX11_change_17 (lv_at hl 0 rfl) ?_
    obtain ⟨r7, S6, hc, h⟩ := bnd_t h
    refine s_cvi (pc := 19) [.int r2] (fun ad => [.ref (ad 62), .int r2]) F w (m_Report_found _ _ _ _ hc) rfl rfl hl.1 ds_62 vc_X5 rfl ok_X5_found rfl kc_X5_found kl_X11_98 ki_X5_found kv_X5_found kn_X5 ⟨Nat.le_trans (by decide) hR1, Nat.le_trans (by decide) hR2⟩ ⟨Nat.zero_le _, Nat.zero_le _⟩ (Nat.le_of_ble_eq_true rfl) dX11_change_19 (fun H locs w => ?_)
    exact s_iret F w h dX11_change_22
def f_Math_min_7cf53 (a0 : Int32) (a1 : Int32) (S : SS) : Option (Int32 × SS) :=
  if a1 < a0 then
    some (a1, S)
  else
    some (a0, S)
theorem dJ9_min_7cf53_0 : decode cJ9_min_7cf53 0 = .ok (.iload_n 0, 1) := dc_26 (by decide +kernel)
theorem dJ9_min_7cf53_1 : decode cJ9_min_7cf53 1 = .ok (.iload_n 1, 1) := dc_27 (by decide +kernel)
theorem dJ9_min_7cf53_2 : decode cJ9_min_7cf53 2 = .ok (.if_icmp .gt 7, 3) := dc_163 (a := 0) (b := 7) (by decide +kernel) (by decide)
theorem dJ9_min_7cf53_5 : decode cJ9_min_7cf53 5 = .ok (.iload_n 0, 1) := dc_26 (by decide +kernel)
theorem dJ9_min_7cf53_6 : decode cJ9_min_7cf53 6 = .ok (.goto 4, 3) := dc_167 (a := 0) (b := 4) (by decide +kernel) (by decide)
theorem dJ9_min_7cf53_9 : decode cJ9_min_7cf53 9 = .ok (.iload_n 1, 1) := dc_27 (by decide +kernel)
theorem dJ9_min_7cf53_10 : decode cJ9_min_7cf53 10 = .ok (.ireturn, 1) := dc_172 (by decide +kernel)
set_option maxRecDepth 100000 in
set_option maxHeartbeats 4000000 in
theorem m_Math_min_7cf53 (a0 : Int32) (a1 : Int32) (S S' : SS) (r : Int32) (h : f_Math_min_7cf53 a0 a1 S = some (r, S')) : MT yJ9_min_7cf53 cJ9_min_7cf53 2 (some .int) 0 0 (fun ad => [.int a0, .int a1]) S (some (.int r)) S' := by
  refine MT.ofF RJ9 (fun ad => [(0, .int a0), (1, .int a1)]) (by decide +kernel) rfl (fun _ => Nat.le_of_ble_eq_true rfl) (fun _ => rfl) ?_
  intro p l e R s m args below meth c dC dI cs ad A hR1 hR2 F H locs ls w hl
  have hx := F.1.1
  have hb := F.1.2.1
  rw [f_Math_min_7cf53] at h
  refine lv_iload_n (pc := 0) hx hb dJ9_min_7cf53_0 rfl (lv_at hl 0 rfl) ?_
  refine lv_iload_n (pc := 1) hx hb dJ9_min_7cf53_1 rfl (lv_at hl 1 rfl) ?_
  refine lv_icmp_gt (pc := 2) (tgt := 9) hx hb dJ9_min_7cf53_2 (by decide) (fun q => ?_) (fun q => ?_)
  · have h := ite_t q h
    refine lv_iload_n (pc := 9) hx hb dJ9_min_7cf53_9 rfl (lv_at hl 1 rfl) ?_
    exact s_iret F w h dJ9_min_7cf53_10
  · have h := ite_f q h
    refine lv_iload_n (pc := 5) hx hb dJ9_min_7cf53_5 rfl (lv_at hl 0 rfl) ?_
    refine lv_goto (pc := 6) (tgt := 10) hx hb dJ9_min_7cf53_6 (by decide) ?_
    exact s_iret F w h dJ9_min_7cf53_10
def f_History_write (a1 : Int32) (a2 : Int32) (S : SS) : Option (SS) :=
  wr S 64 4 (((S.1 64 4) + (1 : Int32)) - ((S.1 64 4) + (1 : Int32)) / (40 : Int32) * (40 : Int32)) (fun S1 =>
  grd (inb (S1.1 64 4) 40) (wr S1 89 (S1.1 64 4).toNatClampNeg a1 (fun S2 =>
  grd (inb (S2.1 64 4) 40) (wr S2 90 (S2.1 64 4).toNatClampNeg a2 (fun S3 =>
  bnd (f_Math_min_7cf53 ((S3.1 64 5) + (1 : Int32)) (40 : Int32) S3) (fun r5 S4 =>
  wr S4 64 5 r5 (fun S6 =>
  some S6)))))))
theorem dX1_write_0 : decode cX1_write 0 = .ok (.aload_n 0, 1) := dc_42 (by decide +kernel)
theorem dX1_write_1 : decode cX1_write 1 = .ok (.aload_n 0, 1) := dc_42 (by decide +kernel)
theorem dX1_write_2 : decode cX1_write 2 = .ok (.getfield 29, 3) := dc_180 (a := 0) (b := 29) (by decide +kernel)
theorem dX1_write_5 : decode cX1_write 5 = .ok (.iconst 1, 1) := dc_4 (by decide +kernel)
theorem dX1_write_6 : decode cX1_write 6 = .ok (.iadd, 1) := dc_96 (by decide +kernel)
theorem dX1_write_7 : decode cX1_write 7 = .ok (.bipush 40, 2) := dc_16 (a := 40) (by decide +kernel) (by decide)
theorem dX1_write_9 : decode cX1_write 9 = .ok (.irem, 1) := dc_112 (by decide +kernel)
theorem dX1_write_10 : decode cX1_write 10 = .ok (.putfield 29, 3) := dc_181 (a := 0) (b := 29) (by decide +kernel)
theorem dX1_write_13 : decode cX1_write 13 = .ok (.aload_n 0, 1) := dc_42 (by decide +kernel)
theorem dX1_write_14 : decode cX1_write 14 = .ok (.getfield 18, 3) := dc_180 (a := 0) (b := 18) (by decide +kernel)
theorem dX1_write_17 : decode cX1_write 17 = .ok (.aload_n 0, 1) := dc_42 (by decide +kernel)
theorem dX1_write_18 : decode cX1_write 18 = .ok (.getfield 29, 3) := dc_180 (a := 0) (b := 29) (by decide +kernel)
theorem dX1_write_21 : decode cX1_write 21 = .ok (.iload_n 1, 1) := dc_27 (by decide +kernel)
theorem dX1_write_22 : decode cX1_write 22 = .ok (.iastore, 1) := dc_79 (by decide +kernel)
theorem dX1_write_23 : decode cX1_write 23 = .ok (.aload_n 0, 1) := dc_42 (by decide +kernel)
theorem dX1_write_24 : decode cX1_write 24 = .ok (.getfield 22, 3) := dc_180 (a := 0) (b := 22) (by decide +kernel)
theorem dX1_write_27 : decode cX1_write 27 = .ok (.aload_n 0, 1) := dc_42 (by decide +kernel)
theorem dX1_write_28 : decode cX1_write 28 = .ok (.getfield 29, 3) := dc_180 (a := 0) (b := 29) (by decide +kernel)
theorem dX1_write_31 : decode cX1_write 31 = .ok (.iload_n 2, 1) := dc_28 (by decide +kernel)
theorem dX1_write_32 : decode cX1_write 32 = .ok (.iastore, 1) := dc_79 (by decide +kernel)
theorem dX1_write_33 : decode cX1_write 33 = .ok (.aload_n 0, 1) := dc_42 (by decide +kernel)
theorem dX1_write_34 : decode cX1_write 34 = .ok (.aload_n 0, 1) := dc_42 (by decide +kernel)
theorem dX1_write_35 : decode cX1_write 35 = .ok (.getfield 32, 3) := dc_180 (a := 0) (b := 32) (by decide +kernel)
theorem dX1_write_38 : decode cX1_write 38 = .ok (.iconst 1, 1) := dc_4 (by decide +kernel)
theorem dX1_write_39 : decode cX1_write 39 = .ok (.iadd, 1) := dc_96 (by decide +kernel)
theorem dX1_write_40 : decode cX1_write 40 = .ok (.bipush 40, 2) := dc_16 (a := 40) (by decide +kernel) (by decide)
theorem dX1_write_42 : decode cX1_write 42 = .ok (.invokestatic 61, 3) := dc_184 (a := 0) (b := 61) (by decide +kernel)
theorem dX1_write_45 : decode cX1_write 45 = .ok (.putfield 32, 3) := dc_181 (a := 0) (b := 32) (by decide +kernel)
theorem dX1_write_48 : decode cX1_write 48 = .ok (.return_, 1) := dc_177 (by decide +kernel)
set_option maxRecDepth 100000 in
set_option maxHeartbeats 4000000 in
theorem m_History_write (a1 : Int32) (a2 : Int32) (S S' : SS) (h : f_History_write a1 a2 S = some S') : MT yX1_write cX1_write 3 none 1 21 (fun ad => [.ref (ad 64), .int a1, .int a2]) S none S' := by
  refine MT.of RX1 (fun ad => [(0, .ref (ad 64)), (1, .int a1), (2, .int a2)]) (by decide) rfl (fun _ => Nat.le_of_ble_eq_true rfl) (fun _ => rfl) ?_
  intro p l e R s m args below meth c dC dI cs ad A hR1 hR2 F H locs ls w hl
  have hx := F.1.1
  have hb := F.1.2.1
  rw [f_History_write] at h
  refine lv_aload_n (pc := 0) hx hb dX1_write_0 rfl (lv_at hl 0 rfl) ?_
  refine lv_aload_n (pc := 1) hx hb dX1_write_1 rfl (lv_at hl 0 rfl) ?_
  refine s_getI (pc := 2) F w ds_64 (j := 4) vc_X1 vi_X1 rfl (by decide) kf_X1_29 dX1_write_2 ?_
  refine lv_iconst (pc := 5) (v := 1) hx hb dX1_write_5 (by decide) ?_
  refine lv_iadd (pc := 6) hx hb dX1_write_6 ?_
  refine lv_bipush (pc := 7) (v := 40) hx hb dX1_write_7 (by decide) ?_
  refine lv_irem (pc := 9) hx hb dX1_write_9 (by decide) ?_
  refine s_putI (pc := 10) F w ds_64 vc_X1 vi_X1 tyX1_ok nmX1 (j := 4) rfl (by decide) kf_X1_29 rfl pd_I h dX1_write_10 (fun S1 H locs h w => ?_)
  refine lv_aload_n (pc := 13) hx hb dX1_write_13 rfl (lv_at hl 0 rfl) ?_
  refine s_getR (pc := 14) F w 89 ds_64 (j := 1) vc_X1 vi_X1 rfl (by decide) kf_X1_18 dX1_write_14 ?_
  refine lv_aload_n (pc := 17) hx hb dX1_write_17 rfl (lv_at hl 0 rfl) ?_
  refine s_getI (pc := 18) F w ds_64 (j := 4) vc_X1 vi_X1 rfl (by decide) kf_X1_29 dX1_write_18 ?_
  refine lv_iload_n (pc := 21) hx hb dX1_write_21 rfl (lv_at hl 1 rfl) ?_
  refine s_iast (pc := 22) F w ds_89 h dX1_write_22 (fun S2 H locs h w => ?_)
  refine lv_aload_n (pc := 23) hx hb dX1_write_23 rfl (lv_at hl 0 rfl) ?_
  refine s_getR (pc := 24) F w 90 ds_64 (j := 2) vc_X1 vi_X1 rfl (by decide) kf_X1_22 dX1_write_24 ?_
  refine lv_aload_n (pc := 27) hx hb dX1_write_27 rfl (lv_at hl 0 rfl) ?_
  refine s_getI (pc := 28) F w ds_64 (j := 4) vc_X1 vi_X1 rfl (by decide) kf_X1_29 dX1_write_28 ?_
  refine lv_iload_n (pc := 31) hx hb dX1_write_31 rfl (lv_at hl 2 rfl) ?_
  refine s_iast (pc := 32) F w ds_90 h dX1_write_32 (fun S3 H locs h w => ?_)
  refine lv_aload_n (pc := 33) hx hb dX1_write_33 rfl (lv_at hl 0 rfl) ?_
  refine lv_aload_n (pc := 34) hx hb dX1_write_34 rfl (lv_at hl 0 rfl) ?_
  refine s_getI (pc := 35) F w ds_64 (j := 5) vc_X1 vi_X1 rfl (by decide) kf_X1_32 dX1_write_35 ?_
  refine lv_iconst (pc := 38) (v := 1) hx hb dX1_write_38 (by decide) ?_
  refine lv_iadd (pc := 39) hx hb dX1_write_39 ?_
  refine lv_bipush (pc := 40) (v := 40) hx hb dX1_write_40 (by decide) ?_
  obtain ⟨r5, S4, hc, h⟩ := bnd_t h
  refine s_csi (pc := 42) [.int ((S3.1 64 5) + (1 : Int32)), .int (40 : Int32)] (fun ad => [.int ((S3.1 64 5) + (1 : Int32)), .int (40 : Int32)]) F w (m_Math_min_7cf53 _ _ _ _ _ hc) rfl rfl hl.1 ok_J9_min_7cf53 rfl kc_J9_min_7cf53 kl_X1_61 ks_J9_min_7cf53 kn_J9 ⟨Nat.le_trans (by decide) hR1, Nat.le_trans (by decide) hR2⟩ ⟨Nat.zero_le _, Nat.zero_le _⟩ (Nat.le_of_ble_eq_true rfl) dX1_write_42 (fun H locs w => ?_)
  refine s_putI (pc := 45) F w ds_64 vc_X1 vi_X1 tyX1_ok nmX1 (j := 5) rfl (by decide) kf_X1_32 rfl pd_I h dX1_write_45 (fun S6 H locs h w => ?_)
  exact s_vret F w h dX1_write_48
def f_Yard_endAct (a1 : Int32) (a2 : Int32) (S : SS) : Option (Int32 × SS) :=
  bndv (f_History_write a1 a2 S) (fun S1 =>
  some (a2, S1))
theorem dX11_endAct_0 : decode cX11_endAct 0 = .ok (.aload_n 0, 1) := dc_42 (by decide +kernel)
theorem dX11_endAct_1 : decode cX11_endAct 1 = .ok (.getfield 26, 3) := dc_180 (a := 0) (b := 26) (by decide +kernel)
theorem dX11_endAct_4 : decode cX11_endAct 4 = .ok (.iload_n 1, 1) := dc_27 (by decide +kernel)
theorem dX11_endAct_5 : decode cX11_endAct 5 = .ok (.iload_n 2, 1) := dc_28 (by decide +kernel)
theorem dX11_endAct_6 : decode cX11_endAct 6 = .ok (.invokevirtual 250, 3) := dc_182 (a := 0) (b := 250) (by decide +kernel)
theorem dX11_endAct_9 : decode cX11_endAct 9 = .ok (.iload_n 2, 1) := dc_28 (by decide +kernel)
theorem dX11_endAct_10 : decode cX11_endAct 10 = .ok (.ireturn, 1) := dc_172 (by decide +kernel)
set_option maxRecDepth 100000 in
set_option maxHeartbeats 4000000 in
theorem m_Yard_endAct (a1 : Int32) (a2 : Int32) (S S' : SS) (r : Int32) (h : f_Yard_endAct a1 a2 S = some (r, S')) : MT yX11_endAct cX11_endAct 3 (some .int) 2 43 (fun ad => [.ref (ad 61), .int a1, .int a2]) S (some (.int r)) S' := by
  refine MT.of RX11 (fun ad => [(0, .ref (ad 61)), (1, .int a1), (2, .int a2)]) (by decide) rfl (fun _ => Nat.le_of_ble_eq_true rfl) (fun _ => rfl) ?_
  intro p l e R s m args below meth c dC dI cs ad A hR1 hR2 F H locs ls w hl
  have hx := F.1.1
  have hb := F.1.2.1
  rw [f_Yard_endAct] at h
  refine lv_aload_n (pc := 0) hx hb dX11_endAct_0 rfl (lv_at hl 0 rfl) ?_
  refine s_getR (pc := 1) F w 64 ds_61 (j := 2) vc_X11 vi_X11 rfl (by decide) kf_X11_26 dX11_endAct_1 ?_
  refine lv_iload_n (pc := 4) hx hb dX11_endAct_4 rfl (lv_at hl 1 rfl) ?_
  refine lv_iload_n (pc := 5) hx hb dX11_endAct_5 rfl (lv_at hl 2 rfl) ?_
  obtain ⟨S1, hc, h⟩ := bndv_t h
  refine s_cvv (pc := 6) [.int a1, .int a2] (fun ad => [.ref (ad 64), .int a1, .int a2]) F w (m_History_write _ _ _ _ hc) rfl rfl hl.1 ds_64 vc_X1 rfl ok_X1_write rfl kc_X1_write kl_X11_250 ki_X1_write kv_X1_write kn_X1 ⟨Nat.le_trans (by decide) hR1, Nat.le_trans (by decide) hR2⟩ ⟨Nat.zero_le _, Nat.zero_le _⟩ (Nat.le_of_ble_eq_true rfl) dX11_endAct_6 (fun H locs w => ?_)
  refine lv_iload_n (pc := 9) hx hb dX11_endAct_9 rfl (lv_at hl 2 rfl) ?_
  exact s_iret F w h dX11_endAct_10
