/-! ===== printed by wip/gen: Potentials_rankOf_start Potentials_endIn Potentials_heightIn Potentials_shapeAfter Potentials_swapOf Potentials_swapBy Potentials_listEntries_Plans_rooms Potentials_rankAfter Potentials_isProved Potentials_prove_Plans_rooms Plans_holds Yard_check ===== -/
def f_Potentials_rankOf_start_L16 (K7 : Int32 → Int32 → Int32 → SS → Option (Int32 × SS)) : Nat → Int32 → Int32 → Int32 → Int32 → SS → Option (Int32 × SS)
  | 0, _, _, _, _, _ => none
  | n + 1, x2, x3, x4, x5, S =>
    bnd (f_Stacks_height_start x4 S) (fun r4 S3 =>
    if r4 ≤ x5 then
      bnd (f_Potentials_keyWith x3 x4 x2 S3) (fun r6 S5 =>
      nm (x4 + (1 : Int32)) (fun z7 =>
      K7 x2 r6 z7 S5))
    else
      bnd (f_Stacks_wagonAt_start x4 x5 S3) (fun r9 S8 =>
      if r9 < 0 then
        some ((-4 : Int32), S8)
      else
        if (10 : Int32) ≤ r9 then
          some ((-4 : Int32), S8)
        else
          grd (inb r9 10) (
          if (S8.1 109 r9.toNatClampNeg) = (-4 : Int32) then
            some ((-4 : Int32), S8)
          else
            if x2 < (S8.1 71 5) then
              grd (inb r9 10) (
              grd (inb x2 5) (wr S8 110 x2.toNatClampNeg (S8.1 109 r9.toNatClampNeg) (fun S10 =>
              nm (x2 + (1 : Int32)) (fun z11 =>
              nm (x5 + (1 : Int32)) (fun z12 =>
              f_Potentials_rankOf_start_L16 K7 n z11 x3 x4 z12 S10)))))
            else
              some ((-4 : Int32), S8))))
def f_Potentials_rankOf_start_L7  : Nat → Int32 → Int32 → Int32 → SS → Option (Int32 × SS)
  | 0, _, _, _, _ => none
  | n + 1, x2, x3, x4, S =>
    if (4 : Int32) ≤ x4 then
      if x2 = (S.1 71 5) then
        bnd (f_Potentials_orderOf_Potentials_sequence  S) (fun r2 S1 =>
        grd (inb x3 216) (
        some ((r2 * (S1.1 71 7)) + (S1.1 113 x3.toNatClampNeg), S1)))
      else
        some ((-4 : Int32), S)
    else
      f_Potentials_rankOf_start_L16 (fun v0 v1 v2 S => f_Potentials_rankOf_start_L7 n v0 v1 v2 S) NF x2 x3 x4 (0 : Int32) S
def f_Potentials_rankOf_start  (S : SS) : Option (Int32 × SS) :=
  f_Potentials_rankOf_start_L7 NF (0 : Int32) (0 : Int32) (0 : Int32) S
set_option maxRecDepth 100000 in
set_option maxHeartbeats 4000000 in
theorem w_Potentials_rankOf_start_L16 {p : Program} {l : Launch} {e : Env} {R : Room} {s : State} {m : MethodId} {args : Array Value} {below : List Frame} {meth : Method} {c : Code} {dC : Nat → ClassId} {dI : Nat → Nat → Nat} {cs : Nat → ClassId} {ad : Nat → Nat} {A : Nat → Prop} {D0 : Nat → Nat} {S' : SS} {r : Int32} (F : Fx p s m args meth c cX4_rankOf 7 RX4 (some .int) dC dI cs A) (hR1 : 1 ≤ R.frames) (hR2 : 23 ≤ R.locals) (K7 : Int32 → Int32 → Int32 → SS → Option (Int32 × SS)) (hK7 : ∀ (v0 : Int32) (v1 : Int32) (v2 : Int32) (S : SS), K7 v0 v1 v2 S = some (r, S') → AW p l e R s m args below meth c dC dI cs ad A D0 (some (.int r)) S' 7 7 [(0, .ref (ad 71)), (1, .ref (ad 72)), (2, .int v0), (3, .int v1), (4, .int v2)] [] S) : ∀ (n : Nat) (x2 : Int32) (x3 : Int32) (x4 : Int32) (x5 : Int32) (S : SS), f_Potentials_rankOf_start_L16 K7 n x2 x3 x4 x5 S = some (r, S') → AW p l e R s m args below meth c dC dI cs ad A D0 (some (.int r)) S' 7 16 [(0, .ref (ad 71)), (1, .ref (ad 72)), (2, .int x2), (3, .int x3), (4, .int x4), (5, .int x5)] [] S := by
  have hx := F.1.1
  have hb := F.1.2.1
  intro n
  induction n with
  | zero => intro x2 x3 x4 x5 S h; cases h
  | succ n ih =>
    intro x2 x3 x4 x5 S h H locs ls w hl
    rw [f_Potentials_rankOf_start_L16] at h
    refine lv_iload (pc := 16) hx hb dX4_rankOf_16 (lv_at hl 5 rfl) ?_
    refine lv_aload_n (pc := 18) hx hb dX4_rankOf_18 rfl (lv_at hl 1 rfl) ?_
    refine lv_iload (pc := 19) hx hb dX4_rankOf_19 (lv_at hl 4 rfl) ?_
    obtain ⟨r4, S3, hc, h⟩ := bnd_t h
    refine s_cvi (pc := 21) [.int x4] (fun ad => [.ref (ad 72), .int x4]) F w (m_Stacks_height_start _ _ _ _ hc) rfl rfl hl.1 ds_72 vc_X7 rfl ok_X7_height rfl kc_X7_height kl_X4_67 ki_X7_height kv_X7_height kn_X7 ⟨Nat.le_trans (by decide) hR1, Nat.le_trans (by decide) hR2⟩ ⟨Nat.zero_le _, Nat.zero_le _⟩ (Nat.le_of_ble_eq_true rfl) dX4_rankOf_21 (fun H locs w => ?_)
    refine lv_icmp_ge (pc := 24) (tgt := 94) hx hb dX4_rankOf_24 (by decide) (fun q => ?_) (fun q => ?_)
    · have h := ite_t q h
      refine lv_iload_n (pc := 94) hx hb dX4_rankOf_94 rfl (lv_at hl 3 rfl) ?_
      refine lv_iload (pc := 95) hx hb dX4_rankOf_95 (lv_at hl 4 rfl) ?_
      refine lv_iload_n (pc := 97) hx hb dX4_rankOf_97 rfl (lv_at hl 2 rfl) ?_
      obtain ⟨r6, S5, hc, h⟩ := bnd_t h
      refine s_csi (pc := 98) [.int x3, .int x4, .int x2] (fun ad => [.int x3, .int x4, .int x2]) F w (m_Potentials_keyWith _ _ _ _ _ _ hc) rfl rfl hl.1 ok_X4_keyWith rfl kc_X4_keyWith kl_X4_75 ks_X4_keyWith kn_X4 ⟨Nat.le_trans (by decide) hR1, Nat.le_trans (by decide) hR2⟩ ⟨Nat.zero_le _, Nat.zero_le _⟩ (Nat.le_of_ble_eq_true rfl) dX4_rankOf_98 (fun H locs w => ?_)
      refine lv_istore_n (pc := 101) (lv' := [(3, .int r6), (0, .ref (ad 71)), (1, .ref (ad 72)), (2, .int x2), (4, .int x4), (5, .int x5)]) hx hb dX4_rankOf_101 rfl hl (by decide) rfl (fun ls hl => ?_)
      refine s_nm h (fun z7 ez7 h => ?_)
      refine lv_iinc (pc := 102) (v := z7) (lv' := [(4, .int z7), (3, .int r6), (0, .ref (ad 71)), (1, .ref (ad 72)), (2, .int x2), (5, .int x5)]) hx hb dX4_rankOf_102 hl (k := 4) rfl (by rw [ez7]; rfl) (by decide) rfl (fun ls hl => ?_)
      refine lv_goto (pc := 105) (tgt := 7) hx hb dX4_rankOf_105 (by decide) ?_
      exact hK7 _ _ _ _ h _ _ _ w (lv_sub hl [2, 3, 4, 1, 0] rfl)
    · have h := ite_f q h
      refine lv_aload_n (pc := 27) hx hb dX4_rankOf_27 rfl (lv_at hl 1 rfl) ?_
      refine lv_iload (pc := 28) hx hb dX4_rankOf_28 (lv_at hl 4 rfl) ?_
      refine lv_iload (pc := 30) hx hb dX4_rankOf_30 (lv_at hl 5 rfl) ?_
      obtain ⟨r9, S8, hc, h⟩ := bnd_t h
      refine s_cvi (pc := 32) [.int x4, .int x5] (fun ad => [.ref (ad 72), .int x4, .int x5]) F w (m_Stacks_wagonAt_start _ _ _ _ _ hc) rfl rfl hl.1 ds_72 vc_X7 rfl ok_X7_wagonAt rfl kc_X7_wagonAt kl_X4_71 ki_X7_wagonAt kv_X7_wagonAt kn_X7 ⟨Nat.le_trans (by decide) hR1, Nat.le_trans (by decide) hR2⟩ ⟨Nat.zero_le _, Nat.zero_le _⟩ (Nat.le_of_ble_eq_true rfl) dX4_rankOf_32 (fun H locs w => ?_)
      refine lv_istore (pc := 35) (lv' := [(6, .int r9), (0, .ref (ad 71)), (1, .ref (ad 72)), (2, .int x2), (3, .int x3), (4, .int x4), (5, .int x5)]) hx hb dX4_rankOf_35 hl (by decide) rfl (fun ls hl => ?_)
      refine lv_iload (pc := 37) hx hb dX4_rankOf_37 (lv_at hl 0 rfl) ?_
      refine lv_if_lt (pc := 39) (tgt := 69) hx hb dX4_rankOf_39 (by decide) (fun q => ?_) (fun q => ?_)
      · have h := ite_t q h
        refine lv_bipush (pc := 69) (v := -4) hx hb dX4_rankOf_69 (by decide) ?_
        exact s_iret F w h dX4_rankOf_71
      · have h := ite_f q h
        refine lv_iload (pc := 42) hx hb dX4_rankOf_42 (lv_at hl 0 rfl) ?_
        refine lv_bipush (pc := 44) (v := 10) hx hb dX4_rankOf_44 (by decide) ?_
        refine lv_icmp_ge (pc := 46) (tgt := 69) hx hb dX4_rankOf_46 (by decide) (fun q => ?_) (fun q => ?_)
        · have h := ite_t q h
          refine lv_bipush (pc := 69) (v := -4) hx hb dX4_rankOf_69 (by decide) ?_
          exact s_iret F w h dX4_rankOf_71
        · have h := ite_f q h
          refine lv_aload_n (pc := 49) hx hb dX4_rankOf_49 rfl (lv_at hl 1 rfl) ?_
          refine s_getR (pc := 50) F w 109 ds_71 (j := 0) vc_X4 vi_X4 rfl (by decide) kf_X4_11 dX4_rankOf_50 ?_
          refine lv_iload (pc := 53) hx hb dX4_rankOf_53 (lv_at hl 0 rfl) ?_
          refine s_iald (pc := 55) F w ds_109 h dX4_rankOf_55 (fun h => ?_)
          refine lv_bipush (pc := 56) (v := -4) hx hb dX4_rankOf_56 (by decide) ?_
          refine lv_icmp_eq (pc := 58) (tgt := 69) hx hb dX4_rankOf_58 (by decide) (fun q => ?_) (fun q => ?_)
          · have h := ite_t q h
            refine lv_bipush (pc := 69) (v := -4) hx hb dX4_rankOf_69 (by decide) ?_
            exact s_iret F w h dX4_rankOf_71
          · have h := ite_f q h
            refine lv_iload_n (pc := 61) hx hb dX4_rankOf_61 rfl (lv_at hl 3 rfl) ?_
            refine lv_aload_n (pc := 62) hx hb dX4_rankOf_62 rfl (lv_at hl 1 rfl) ?_
            refine s_getI (pc := 63) F w ds_71 (j := 5) vc_X4 vi_X4 rfl (by decide) kf_X4_29 dX4_rankOf_63 ?_
            refine lv_icmp_lt (pc := 66) (tgt := 72) hx hb dX4_rankOf_66 (by decide) (fun q => ?_) (fun q => ?_)
            · have h := ite_t q h
              refine lv_aload_n (pc := 72) hx hb dX4_rankOf_72 rfl (lv_at hl 1 rfl) ?_
              refine s_getR (pc := 73) F w 110 ds_71 (j := 1) vc_X4 vi_X4 rfl (by decide) kf_X4_17 dX4_rankOf_73 ?_
              refine lv_iload_n (pc := 76) hx hb dX4_rankOf_76 rfl (lv_at hl 3 rfl) ?_
              refine lv_aload_n (pc := 77) hx hb dX4_rankOf_77 rfl (lv_at hl 1 rfl) ?_
              refine s_getR (pc := 78) F w 109 ds_71 (j := 0) vc_X4 vi_X4 rfl (by decide) kf_X4_11 dX4_rankOf_78 ?_
              refine lv_iload (pc := 81) hx hb dX4_rankOf_81 (lv_at hl 0 rfl) ?_
              refine s_iald (pc := 83) F w ds_109 h dX4_rankOf_83 (fun h => ?_)
              refine s_iast (pc := 84) F w ds_110 h dX4_rankOf_84 (fun S10 H locs h w => ?_)
              refine s_nm h (fun z11 ez11 h => ?_)
              refine lv_iinc (pc := 85) (v := z11) (lv' := [(2, .int z11), (6, .int r9), (0, .ref (ad 71)), (1, .ref (ad 72)), (3, .int x3), (4, .int x4), (5, .int x5)]) hx hb dX4_rankOf_85 hl (k := 3) rfl (by rw [ez11]; rfl) (by decide) rfl (fun ls hl => ?_)
              refine s_nm h (fun z12 ez12 h => ?_)
              refine lv_iinc (pc := 88) (v := z12) (lv' := [(5, .int z12), (2, .int z11), (6, .int r9), (0, .ref (ad 71)), (1, .ref (ad 72)), (3, .int x3), (4, .int x4)]) hx hb dX4_rankOf_88 hl (k := 6) rfl (by rw [ez12]; rfl) (by decide) rfl (fun ls hl => ?_)
              refine lv_goto (pc := 91) (tgt := 16) hx hb dX4_rankOf_91 (by decide) ?_
              exact ih _ _ _ _ _ h _ _ _ w (lv_sub hl [3, 4, 1, 5, 6, 0] rfl)
            · have h := ite_f q h
              refine lv_bipush (pc := 69) (v := -4) hx hb dX4_rankOf_69 (by decide) ?_
              exact s_iret F w h dX4_rankOf_71
set_option maxRecDepth 100000 in
set_option maxHeartbeats 4000000 in
theorem w_Potentials_rankOf_start_L7 {p : Program} {l : Launch} {e : Env} {R : Room} {s : State} {m : MethodId} {args : Array Value} {below : List Frame} {meth : Method} {c : Code} {dC : Nat → ClassId} {dI : Nat → Nat → Nat} {cs : Nat → ClassId} {ad : Nat → Nat} {A : Nat → Prop} {D0 : Nat → Nat} {S' : SS} {r : Int32} (F : Fx p s m args meth c cX4_rankOf 7 RX4 (some .int) dC dI cs A) (hR1 : 2 ≤ R.frames) (hR2 : 44 ≤ R.locals) : ∀ (n : Nat) (x2 : Int32) (x3 : Int32) (x4 : Int32) (S : SS), f_Potentials_rankOf_start_L7 n x2 x3 x4 S = some (r, S') → AW p l e R s m args below meth c dC dI cs ad A D0 (some (.int r)) S' 7 7 [(0, .ref (ad 71)), (1, .ref (ad 72)), (2, .int x2), (3, .int x3), (4, .int x4)] [] S := by
  have hx := F.1.1
  have hb := F.1.2.1
  intro n
  induction n with
  | zero => intro x2 x3 x4 S h; cases h
  | succ n ih =>
    intro x2 x3 x4 S h H locs ls w hl
    rw [f_Potentials_rankOf_start_L7] at h
    refine lv_iload (pc := 7) hx hb dX4_rankOf_7 (lv_at hl 4 rfl) ?_
    refine lv_iconst (pc := 9) (v := 4) hx hb dX4_rankOf_9 (by decide) ?_
    refine lv_icmp_ge (pc := 10) (tgt := 108) hx hb dX4_rankOf_10 (by decide) (fun q => ?_) (fun q => ?_)
    · have h := ite_t q h
      refine lv_iload_n (pc := 108) hx hb dX4_rankOf_108 rfl (lv_at hl 2 rfl) ?_
      refine lv_aload_n (pc := 109) hx hb dX4_rankOf_109 rfl (lv_at hl 0 rfl) ?_
      refine s_getI (pc := 110) F w ds_71 (j := 5) vc_X4 vi_X4 rfl (by decide) kf_X4_29 dX4_rankOf_110 ?_
      refine lv_icmp_ne (pc := 113) (tgt := 139) hx hb dX4_rankOf_113 (by decide) (fun q => ?_) (fun q => ?_)
      · have h := ite_f q h
        refine lv_bipush (pc := 139) (v := -4) hx hb dX4_rankOf_139 (by decide) ?_
        exact s_iret F w h dX4_rankOf_141
      · have h := ite_t q h
        refine lv_aload_n (pc := 116) hx hb dX4_rankOf_116 rfl (lv_at hl 0 rfl) ?_
        refine lv_aload_n (pc := 117) hx hb dX4_rankOf_117 rfl (lv_at hl 0 rfl) ?_
        refine s_getR (pc := 118) F w 110 ds_71 (j := 1) vc_X4 vi_X4 rfl (by decide) kf_X4_17 dX4_rankOf_118 ?_
        obtain ⟨r2, S1, hc, h⟩ := bnd_t h
        refine s_cvi (pc := 121) [.ref (ad 110)] (fun ad => [.ref (ad 71), .ref (ad 110)]) F w (m_Potentials_orderOf_Potentials_sequence  _ _ _ hc) rfl rfl hl.1 ds_71 vc_X4 rfl ok_X4_orderOf rfl kc_X4_orderOf kl_X4_79 ki_X4_orderOf kv_X4_orderOf kn_X4 ⟨Nat.le_trans (by decide) hR1, Nat.le_trans (by decide) hR2⟩ ⟨Nat.zero_le _, Nat.zero_le _⟩ (Nat.le_of_ble_eq_true rfl) dX4_rankOf_121 (fun H locs w => ?_)
        refine lv_aload_n (pc := 124) hx hb dX4_rankOf_124 rfl (lv_at hl 0 rfl) ?_
        refine s_getI (pc := 125) F w ds_71 (j := 7) vc_X4 vi_X4 rfl (by decide) kf_X4_36 dX4_rankOf_125 ?_
        refine lv_imul (pc := 128) hx hb dX4_rankOf_128 ?_
        refine lv_aload_n (pc := 129) hx hb dX4_rankOf_129 rfl (lv_at hl 0 rfl) ?_
        refine s_getR (pc := 130) F w 113 ds_71 (j := 4) vc_X4 vi_X4 rfl (by decide) kf_X4_26 dX4_rankOf_130 ?_
        refine lv_iload_n (pc := 133) hx hb dX4_rankOf_133 rfl (lv_at hl 3 rfl) ?_
        refine s_iald (pc := 134) F w ds_113 h dX4_rankOf_134 (fun h => ?_)
        refine lv_iadd (pc := 135) hx hb dX4_rankOf_135 ?_
        refine lv_goto (pc := 136) (tgt := 141) hx hb dX4_rankOf_136 (by decide) ?_
        exact s_iret F w h dX4_rankOf_141
    · have h := ite_f q h
      refine lv_iconst (pc := 13) (v := 0) hx hb dX4_rankOf_13 (by decide) ?_
      refine lv_istore (pc := 14) (lv' := [(5, .int (0 : Int32)), (0, .ref (ad 71)), (1, .ref (ad 72)), (2, .int x2), (3, .int x3), (4, .int x4)]) hx hb dX4_rankOf_14 hl (by decide) rfl (fun ls hl => ?_)
      exact w_Potentials_rankOf_start_L16 F (Nat.le_trans (by decide) hR1) (Nat.le_trans (by decide) hR2) _ (fun v0 v1 v2 S h => ih v0 v1 v2 S h) _ _ _ _ _ _ h _ _ _ w (lv_sub hl [1, 2, 3, 4, 5, 0] rfl)
set_option maxRecDepth 100000 in
set_option maxHeartbeats 4000000 in
theorem m_Potentials_rankOf_start  (S S' : SS) (r : Int32) (h : f_Potentials_rankOf_start  S = some (r, S')) : MT yX4_rankOf cX4_rankOf 7 (some .int) 2 44 (fun ad => [.ref (ad 71), .ref (ad 72)]) S (some (.int r)) S' := by
  refine MT.of RX4 (fun ad => [(0, .ref (ad 71)), (1, .ref (ad 72))]) (by decide) rfl (fun _ => Nat.le_of_ble_eq_true rfl) (fun _ => rfl) ?_
  intro p l e R s m args below meth c dC dI cs ad A hR1 hR2 F H locs ls w hl
  have hx := F.1.1
  have hb := F.1.2.1
  rw [f_Potentials_rankOf_start] at h
  refine lv_iconst (pc := 0) (v := 0) hx hb dX4_rankOf_0 (by decide) ?_
  refine lv_istore_n (pc := 1) (lv' := [(2, .int (0 : Int32)), (0, .ref (ad 71)), (1, .ref (ad 72))]) hx hb dX4_rankOf_1 rfl hl (by decide) rfl (fun ls hl => ?_)
  refine lv_iconst (pc := 2) (v := 0) hx hb dX4_rankOf_2 (by decide) ?_
  refine lv_istore_n (pc := 3) (lv' := [(3, .int (0 : Int32)), (2, .int (0 : Int32)), (0, .ref (ad 71)), (1, .ref (ad 72))]) hx hb dX4_rankOf_3 rfl hl (by decide) rfl (fun ls hl => ?_)
  refine lv_iconst (pc := 4) (v := 0) hx hb dX4_rankOf_4 (by decide) ?_
  refine lv_istore (pc := 5) (lv' := [(4, .int (0 : Int32)), (3, .int (0 : Int32)), (2, .int (0 : Int32)), (0, .ref (ad 71)), (1, .ref (ad 72))]) hx hb dX4_rankOf_5 hl (by decide) rfl (fun ls hl => ?_)
  exact w_Potentials_rankOf_start_L7 F (Nat.le_trans (by decide) hR1) (Nat.le_trans (by decide) hR2) _ _ _ _ _ h _ _ _ w (lv_sub hl [3, 4, 2, 1, 0] rfl)
def f_Potentials_endIn (a1 : Int32) (a2 : Int32) (S : SS) : Option (Int32 × SS) :=
  if 0 ≤ a2 then
    grd (inb (((4 : Int32) * a1) + a2) (S.2 114)) (
    some (S.1 114 (((4 : Int32) * a1) + a2).toNatClampNeg, S))
  else
    some ((0 : Int32), S)
theorem dX4_endIn_0 : decode cX4_endIn 0 = .ok (.iload_n 2, 1) := dc_28 (by decide +kernel)
theorem dX4_endIn_1 : decode cX4_endIn 1 = .ok (.ifCond .ge 7, 3) := dc_156 (a := 0) (b := 7) (by decide +kernel) (by decide)
theorem dX4_endIn_4 : decode cX4_endIn 4 = .ok (.iconst 0, 1) := dc_3 (by decide +kernel)
theorem dX4_endIn_5 : decode cX4_endIn 5 = .ok (.goto 13, 3) := dc_167 (a := 0) (b := 13) (by decide +kernel) (by decide)
theorem dX4_endIn_8 : decode cX4_endIn 8 = .ok (.aload_n 0, 1) := dc_42 (by decide +kernel)
theorem dX4_endIn_9 : decode cX4_endIn 9 = .ok (.getfield 39, 3) := dc_180 (a := 0) (b := 39) (by decide +kernel)
theorem dX4_endIn_12 : decode cX4_endIn 12 = .ok (.iconst 4, 1) := dc_7 (by decide +kernel)
theorem dX4_endIn_13 : decode cX4_endIn 13 = .ok (.iload_n 1, 1) := dc_27 (by decide +kernel)
theorem dX4_endIn_14 : decode cX4_endIn 14 = .ok (.imul, 1) := dc_104 (by decide +kernel)
theorem dX4_endIn_15 : decode cX4_endIn 15 = .ok (.iload_n 2, 1) := dc_28 (by decide +kernel)
theorem dX4_endIn_16 : decode cX4_endIn 16 = .ok (.iadd, 1) := dc_96 (by decide +kernel)
theorem dX4_endIn_17 : decode cX4_endIn 17 = .ok (.iaload, 1) := dc_46 (by decide +kernel)
theorem dX4_endIn_18 : decode cX4_endIn 18 = .ok (.ireturn, 1) := dc_172 (by decide +kernel)
set_option maxRecDepth 100000 in
set_option maxHeartbeats 4000000 in
theorem m_Potentials_endIn (a1 : Int32) (a2 : Int32) (S S' : SS) (r : Int32) (h : f_Potentials_endIn a1 a2 S = some (r, S')) : MT yX4_endIn cX4_endIn 3 (some .int) 0 0 (fun ad => [.ref (ad 71), .int a1, .int a2]) S (some (.int r)) S' := by
  refine MT.of RX4 (fun ad => [(0, .ref (ad 71)), (1, .int a1), (2, .int a2)]) (by decide) rfl (fun _ => Nat.le_of_ble_eq_true rfl) (fun _ => rfl) ?_
  intro p l e R s m args below meth c dC dI cs ad A hR1 hR2 F H locs ls w hl
  have hx := F.1.1
  have hb := F.1.2.1
  rw [f_Potentials_endIn] at h
  refine lv_iload_n (pc := 0) hx hb dX4_endIn_0 rfl (lv_at hl 2 rfl) ?_
  refine lv_if_ge (pc := 1) (tgt := 8) hx hb dX4_endIn_1 (by decide) (fun q => ?_) (fun q => ?_)
  · have h := ite_t q h
    refine lv_aload_n (pc := 8) hx hb dX4_endIn_8 rfl (lv_at hl 0 rfl) ?_
    refine s_getR (pc := 9) F w 114 ds_71 (j := 8) vc_X4 vi_X4 rfl (by decide) kf_X4_39 dX4_endIn_9 ?_
    refine lv_iconst (pc := 12) (v := 4) hx hb dX4_endIn_12 (by decide) ?_
    refine lv_iload_n (pc := 13) hx hb dX4_endIn_13 rfl (lv_at hl 1 rfl) ?_
    refine lv_imul (pc := 14) hx hb dX4_endIn_14 ?_
    refine lv_iload_n (pc := 15) hx hb dX4_endIn_15 rfl (lv_at hl 2 rfl) ?_
    refine lv_iadd (pc := 16) hx hb dX4_endIn_16 ?_
    refine s_iald (pc := 17) F w ds_114 h dX4_endIn_17 (fun h => ?_)
    exact s_iret F w h dX4_endIn_18
  · have h := ite_f q h
    refine lv_iconst (pc := 4) (v := 0) hx hb dX4_endIn_4 (by decide) ?_
    refine lv_goto (pc := 5) (tgt := 18) hx hb dX4_endIn_5 (by decide) ?_
    exact s_iret F w h dX4_endIn_18
def f_Potentials_heightIn (a1 : Int32) (a2 : Int32) (S : SS) : Option (Int32 × SS) :=
  bnd (f_Potentials_endIn a1 a2 S) (fun r2 S1 =>
  bnd (f_Potentials_endIn a1 (a2 - (1 : Int32)) S1) (fun r4 S3 =>
  some (r2 - r4, S3)))
theorem dX4_heightIn_0 : decode cX4_heightIn 0 = .ok (.aload_n 0, 1) := dc_42 (by decide +kernel)
theorem dX4_heightIn_1 : decode cX4_heightIn 1 = .ok (.iload_n 1, 1) := dc_27 (by decide +kernel)
theorem dX4_heightIn_2 : decode cX4_heightIn 2 = .ok (.iload_n 2, 1) := dc_28 (by decide +kernel)
theorem dX4_heightIn_3 : decode cX4_heightIn 3 = .ok (.invokevirtual 149, 3) := dc_182 (a := 0) (b := 149) (by decide +kernel)
theorem dX4_heightIn_6 : decode cX4_heightIn 6 = .ok (.aload_n 0, 1) := dc_42 (by decide +kernel)
theorem dX4_heightIn_7 : decode cX4_heightIn 7 = .ok (.iload_n 1, 1) := dc_27 (by decide +kernel)
theorem dX4_heightIn_8 : decode cX4_heightIn 8 = .ok (.iload_n 2, 1) := dc_28 (by decide +kernel)
theorem dX4_heightIn_9 : decode cX4_heightIn 9 = .ok (.iconst 1, 1) := dc_4 (by decide +kernel)
theorem dX4_heightIn_10 : decode cX4_heightIn 10 = .ok (.isub, 1) := dc_100 (by decide +kernel)
theorem dX4_heightIn_11 : decode cX4_heightIn 11 = .ok (.invokevirtual 149, 3) := dc_182 (a := 0) (b := 149) (by decide +kernel)
theorem dX4_heightIn_14 : decode cX4_heightIn 14 = .ok (.isub, 1) := dc_100 (by decide +kernel)
theorem dX4_heightIn_15 : decode cX4_heightIn 15 = .ok (.ireturn, 1) := dc_172 (by decide +kernel)
set_option maxRecDepth 100000 in
set_option maxHeartbeats 4000000 in
theorem m_Potentials_heightIn (a1 : Int32) (a2 : Int32) (S S' : SS) (r : Int32) (h : f_Potentials_heightIn a1 a2 S = some (r, S')) : MT yX4_heightIn cX4_heightIn 3 (some .int) 1 22 (fun ad => [.ref (ad 71), .int a1, .int a2]) S (some (.int r)) S' := by
  refine MT.of RX4 (fun ad => [(0, .ref (ad 71)), (1, .int a1), (2, .int a2)]) (by decide) rfl (fun _ => Nat.le_of_ble_eq_true rfl) (fun _ => rfl) ?_
  intro p l e R s m args below meth c dC dI cs ad A hR1 hR2 F H locs ls w hl
  have hx := F.1.1
  have hb := F.1.2.1
  rw [f_Potentials_heightIn] at h
  refine lv_aload_n (pc := 0) hx hb dX4_heightIn_0 rfl (lv_at hl 0 rfl) ?_
  refine lv_iload_n (pc := 1) hx hb dX4_heightIn_1 rfl (lv_at hl 1 rfl) ?_
  refine lv_iload_n (pc := 2) hx hb dX4_heightIn_2 rfl (lv_at hl 2 rfl) ?_
  obtain ⟨r2, S1, hc, h⟩ := bnd_t h
  refine s_cvi (pc := 3) [.int a1, .int a2] (fun ad => [.ref (ad 71), .int a1, .int a2]) F w (m_Potentials_endIn _ _ _ _ _ hc) rfl rfl hl.1 ds_71 vc_X4 rfl ok_X4_endIn rfl kc_X4_endIn kl_X4_149 ki_X4_endIn kv_X4_endIn kn_X4 ⟨Nat.le_trans (by decide) hR1, Nat.le_trans (by decide) hR2⟩ ⟨Nat.zero_le _, Nat.zero_le _⟩ (Nat.le_of_ble_eq_true rfl) dX4_heightIn_3 (fun H locs w => ?_)
  refine lv_aload_n (pc := 6) hx hb dX4_heightIn_6 rfl (lv_at hl 0 rfl) ?_
  refine lv_iload_n (pc := 7) hx hb dX4_heightIn_7 rfl (lv_at hl 1 rfl) ?_
  refine lv_iload_n (pc := 8) hx hb dX4_heightIn_8 rfl (lv_at hl 2 rfl) ?_
  refine lv_iconst (pc := 9) (v := 1) hx hb dX4_heightIn_9 (by decide) ?_
  refine lv_isub (pc := 10) hx hb dX4_heightIn_10 ?_
  obtain ⟨r4, S3, hc, h⟩ := bnd_t h
  refine s_cvi (pc := 11) [.int a1, .int (a2 - (1 : Int32))] (fun ad => [.ref (ad 71), .int a1, .int (a2 - (1 : Int32))]) F w (m_Potentials_endIn _ _ _ _ _ hc) rfl rfl hl.1 ds_71 vc_X4 rfl ok_X4_endIn rfl kc_X4_endIn kl_X4_149 ki_X4_endIn kv_X4_endIn kn_X4 ⟨Nat.le_trans (by decide) hR1, Nat.le_trans (by decide) hR2⟩ ⟨Nat.zero_le _, Nat.zero_le _⟩ (Nat.le_of_ble_eq_true rfl) dX4_heightIn_11 (fun H locs w => ?_)
  refine lv_isub (pc := 14) hx hb dX4_heightIn_14 ?_
  exact s_iret F w h dX4_heightIn_15
def f_Potentials_shapeAfter_j50 (K6 : Int32 → Int32 → Int32 → Int32 → Int32 → Int32 → SS → Option (Int32 × SS)) (x1 : Int32) (x2 : Int32) (x3 : Int32) (x4 : Int32) (x5 : Int32) (x6 : Int32) (x7 : Int32) (y0 : Int32) (S : SS) : Option (Int32 × SS) :=
    bnd (f_Potentials_endIn x1 x6 S) (fun r2 S1 =>
    bnd (f_Potentials_keyWith x5 x6 ((r2 - x7) + y0) S1) (fun r4 S3 =>
    nm (x6 + (1 : Int32)) (fun z5 =>
    K6 x1 x2 x3 x4 r4 z5 S3)))
def f_Potentials_shapeAfter_j49 (K6 : Int32 → Int32 → Int32 → Int32 → Int32 → Int32 → SS → Option (Int32 × SS)) (x1 : Int32) (x2 : Int32) (x3 : Int32) (x4 : Int32) (x5 : Int32) (x6 : Int32) (x7 : Int32) (S : SS) : Option (Int32 × SS) :=
    f_Potentials_shapeAfter_j50 K6 x1 x2 x3 x4 x5 x6 x7 (0 : Int32) S
def f_Potentials_shapeAfter_j30 (K6 : Int32 → Int32 → Int32 → Int32 → Int32 → Int32 → SS → Option (Int32 × SS)) (x1 : Int32) (x2 : Int32) (x3 : Int32) (x4 : Int32) (x5 : Int32) (x6 : Int32) (y0 : Int32) (S : SS) : Option (Int32 × SS) :=
    if x6 < x3 then
      f_Potentials_shapeAfter_j49 K6 x1 x2 x3 x4 x5 x6 y0 S
    else
      if x2 ≤ x6 then
        f_Potentials_shapeAfter_j49 K6 x1 x2 x3 x4 x5 x6 y0 S
      else
        f_Potentials_shapeAfter_j50 K6 x1 x2 x3 x4 x5 x6 y0 x4 S
def f_Potentials_shapeAfter_j29 (K6 : Int32 → Int32 → Int32 → Int32 → Int32 → Int32 → SS → Option (Int32 × SS)) (x1 : Int32) (x2 : Int32) (x3 : Int32) (x4 : Int32) (x5 : Int32) (x6 : Int32) (S : SS) : Option (Int32 × SS) :=
    f_Potentials_shapeAfter_j30 K6 x1 x2 x3 x4 x5 x6 (0 : Int32) S
def f_Potentials_shapeAfter_L6  : Nat → Int32 → Int32 → Int32 → Int32 → Int32 → Int32 → SS → Option (Int32 × SS)
  | 0, _, _, _, _, _, _, _ => none
  | n + 1, x1, x2, x3, x4, x5, x6, S =>
    if (4 : Int32) ≤ x6 then
      grd (inb x5 216) (
      some (S.1 113 x5.toNatClampNeg, S))
    else
      if x6 < x2 then
        f_Potentials_shapeAfter_j29 (fun v0 v1 v2 v3 v4 v5 S => f_Potentials_shapeAfter_L6 n v0 v1 v2 v3 v4 v5 S) x1 x2 x3 x4 x5 x6 S
      else
        if x3 ≤ x6 then
          f_Potentials_shapeAfter_j29 (fun v0 v1 v2 v3 v4 v5 S => f_Potentials_shapeAfter_L6 n v0 v1 v2 v3 v4 v5 S) x1 x2 x3 x4 x5 x6 S
        else
          f_Potentials_shapeAfter_j30 (fun v0 v1 v2 v3 v4 v5 S => f_Potentials_shapeAfter_L6 n v0 v1 v2 v3 v4 v5 S) x1 x2 x3 x4 x5 x6 x4 S
def f_Potentials_shapeAfter (a1 : Int32) (a2 : Int32) (a3 : Int32) (a4 : Int32) (S : SS) : Option (Int32 × SS) :=
  f_Potentials_shapeAfter_L6 NF a1 a2 a3 a4 (0 : Int32) (0 : Int32) S
theorem dX4_shapeAfter_0 : decode cX4_shapeAfter 0 = .ok (.iconst 0, 1) := dc_3 (by decide +kernel)
theorem dX4_shapeAfter_1 : decode cX4_shapeAfter 1 = .ok (.istore 5, 2) := dc_54 (a := 5) (by decide +kernel)
theorem dX4_shapeAfter_3 : decode cX4_shapeAfter 3 = .ok (.iconst 0, 1) := dc_3 (by decide +kernel)
theorem dX4_shapeAfter_4 : decode cX4_shapeAfter 4 = .ok (.istore 6, 2) := dc_54 (a := 6) (by decide +kernel)
theorem dX4_shapeAfter_6 : decode cX4_shapeAfter 6 = .ok (.iload 6, 2) := dc_21 (a := 6) (by decide +kernel)
theorem dX4_shapeAfter_8 : decode cX4_shapeAfter 8 = .ok (.iconst 4, 1) := dc_7 (by decide +kernel)
theorem dX4_shapeAfter_9 : decode cX4_shapeAfter 9 = .ok (.if_icmp .ge 71, 3) := dc_162 (a := 0) (b := 71) (by decide +kernel) (by decide)
theorem dX4_shapeAfter_12 : decode cX4_shapeAfter 12 = .ok (.iload_n 2, 1) := dc_28 (by decide +kernel)
theorem dX4_shapeAfter_13 : decode cX4_shapeAfter 13 = .ok (.iload 6, 2) := dc_21 (a := 6) (by decide +kernel)
theorem dX4_shapeAfter_15 : decode cX4_shapeAfter 15 = .ok (.if_icmp .gt 14, 3) := dc_163 (a := 0) (b := 14) (by decide +kernel) (by decide)
theorem dX4_shapeAfter_18 : decode cX4_shapeAfter 18 = .ok (.iload 6, 2) := dc_21 (a := 6) (by decide +kernel)
theorem dX4_shapeAfter_20 : decode cX4_shapeAfter 20 = .ok (.iload_n 3, 1) := dc_29 (by decide +kernel)
theorem dX4_shapeAfter_21 : decode cX4_shapeAfter 21 = .ok (.if_icmp .ge 8, 3) := dc_162 (a := 0) (b := 8) (by decide +kernel) (by decide)
theorem dX4_shapeAfter_24 : decode cX4_shapeAfter 24 = .ok (.iload 4, 2) := dc_21 (a := 4) (by decide +kernel)
theorem dX4_shapeAfter_26 : decode cX4_shapeAfter 26 = .ok (.goto 4, 3) := dc_167 (a := 0) (b := 4) (by decide +kernel) (by decide)
theorem dX4_shapeAfter_29 : decode cX4_shapeAfter 29 = .ok (.iconst 0, 1) := dc_3 (by decide +kernel)
theorem dX4_shapeAfter_30 : decode cX4_shapeAfter 30 = .ok (.istore 7, 2) := dc_54 (a := 7) (by decide +kernel)
theorem dX4_shapeAfter_32 : decode cX4_shapeAfter 32 = .ok (.iload_n 3, 1) := dc_29 (by decide +kernel)
theorem dX4_shapeAfter_33 : decode cX4_shapeAfter 33 = .ok (.iload 6, 2) := dc_21 (a := 6) (by decide +kernel)
theorem dX4_shapeAfter_35 : decode cX4_shapeAfter 35 = .ok (.if_icmp .gt 14, 3) := dc_163 (a := 0) (b := 14) (by decide +kernel) (by decide)
theorem dX4_shapeAfter_38 : decode cX4_shapeAfter 38 = .ok (.iload 6, 2) := dc_21 (a := 6) (by decide +kernel)
theorem dX4_shapeAfter_40 : decode cX4_shapeAfter 40 = .ok (.iload_n 2, 1) := dc_28 (by decide +kernel)
theorem dX4_shapeAfter_41 : decode cX4_shapeAfter 41 = .ok (.if_icmp .ge 8, 3) := dc_162 (a := 0) (b := 8) (by decide +kernel) (by decide)
theorem dX4_shapeAfter_44 : decode cX4_shapeAfter 44 = .ok (.iload 4, 2) := dc_21 (a := 4) (by decide +kernel)
theorem dX4_shapeAfter_46 : decode cX4_shapeAfter 46 = .ok (.goto 4, 3) := dc_167 (a := 0) (b := 4) (by decide +kernel) (by decide)
theorem dX4_shapeAfter_49 : decode cX4_shapeAfter 49 = .ok (.iconst 0, 1) := dc_3 (by decide +kernel)
theorem dX4_shapeAfter_50 : decode cX4_shapeAfter 50 = .ok (.istore 8, 2) := dc_54 (a := 8) (by decide +kernel)
theorem dX4_shapeAfter_52 : decode cX4_shapeAfter 52 = .ok (.iload 5, 2) := dc_21 (a := 5) (by decide +kernel)
theorem dX4_shapeAfter_54 : decode cX4_shapeAfter 54 = .ok (.iload 6, 2) := dc_21 (a := 6) (by decide +kernel)
theorem dX4_shapeAfter_56 : decode cX4_shapeAfter 56 = .ok (.aload_n 0, 1) := dc_42 (by decide +kernel)
theorem dX4_shapeAfter_57 : decode cX4_shapeAfter 57 = .ok (.iload_n 1, 1) := dc_27 (by decide +kernel)
theorem dX4_shapeAfter_58 : decode cX4_shapeAfter 58 = .ok (.iload 6, 2) := dc_21 (a := 6) (by decide +kernel)
theorem dX4_shapeAfter_60 : decode cX4_shapeAfter 60 = .ok (.invokevirtual 149, 3) := dc_182 (a := 0) (b := 149) (by decide +kernel)
theorem dX4_shapeAfter_63 : decode cX4_shapeAfter 63 = .ok (.iload 7, 2) := dc_21 (a := 7) (by decide +kernel)
theorem dX4_shapeAfter_65 : decode cX4_shapeAfter 65 = .ok (.isub, 1) := dc_100 (by decide +kernel)
theorem dX4_shapeAfter_66 : decode cX4_shapeAfter 66 = .ok (.iload 8, 2) := dc_21 (a := 8) (by decide +kernel)
theorem dX4_shapeAfter_68 : decode cX4_shapeAfter 68 = .ok (.iadd, 1) := dc_96 (by decide +kernel)
theorem dX4_shapeAfter_69 : decode cX4_shapeAfter 69 = .ok (.invokestatic 75, 3) := dc_184 (a := 0) (b := 75) (by decide +kernel)
theorem dX4_shapeAfter_72 : decode cX4_shapeAfter 72 = .ok (.istore 5, 2) := dc_54 (a := 5) (by decide +kernel)
theorem dX4_shapeAfter_74 : decode cX4_shapeAfter 74 = .ok (.iinc 6 1, 3) := dc_132 (a := 6) (b := 1) (by decide +kernel) (by decide)
theorem dX4_shapeAfter_77 : decode cX4_shapeAfter 77 = .ok (.goto (-71), 3) := dc_167 (a := 255) (b := 185) (by decide +kernel) (by decide)
theorem dX4_shapeAfter_80 : decode cX4_shapeAfter 80 = .ok (.aload_n 0, 1) := dc_42 (by decide +kernel)
theorem dX4_shapeAfter_81 : decode cX4_shapeAfter 81 = .ok (.getfield 26, 3) := dc_180 (a := 0) (b := 26) (by decide +kernel)
theorem dX4_shapeAfter_84 : decode cX4_shapeAfter 84 = .ok (.iload 5, 2) := dc_21 (a := 5) (by decide +kernel)
theorem dX4_shapeAfter_86 : decode cX4_shapeAfter 86 = .ok (.iaload, 1) := dc_46 (by decide +kernel)
theorem dX4_shapeAfter_87 : decode cX4_shapeAfter 87 = .ok (.ireturn, 1) := dc_172 (by decide +kernel)
set_option maxRecDepth 100000 in
set_option maxHeartbeats 4000000 in
theorem w_Potentials_shapeAfter_j50 {p : Program} {l : Launch} {e : Env} {R : Room} {s : State} {m : MethodId} {args : Array Value} {below : List Frame} {meth : Method} {c : Code} {dC : Nat → ClassId} {dI : Nat → Nat → Nat} {cs : Nat → ClassId} {ad : Nat → Nat} {A : Nat → Prop} {D0 : Nat → Nat} {S' : SS} {r : Int32} (F : Fx p s m args meth c cX4_shapeAfter 9 RX4 (some .int) dC dI cs A) (hR1 : 1 ≤ R.frames) (hR2 : 22 ≤ R.locals) (K6 : Int32 → Int32 → Int32 → Int32 → Int32 → Int32 → SS → Option (Int32 × SS)) (hK6 : ∀ (v0 : Int32) (v1 : Int32) (v2 : Int32) (v3 : Int32) (v4 : Int32) (v5 : Int32) (S : SS), K6 v0 v1 v2 v3 v4 v5 S = some (r, S') → AW p l e R s m args below meth c dC dI cs ad A D0 (some (.int r)) S' 9 6 [(0, .ref (ad 71)), (1, .int v0), (2, .int v1), (3, .int v2), (4, .int v3), (5, .int v4), (6, .int v5)] [] S) (x1 : Int32) (x2 : Int32) (x3 : Int32) (x4 : Int32) (x5 : Int32) (x6 : Int32) (x7 : Int32) (y0 : Int32) (S : SS) (h : f_Potentials_shapeAfter_j50 K6 x1 x2 x3 x4 x5 x6 x7 y0 S = some (r, S')) : AW p l e R s m args below meth c dC dI cs ad A D0 (some (.int r)) S' 9 50 [(0, .ref (ad 71)), (1, .int x1), (2, .int x2), (3, .int x3), (4, .int x4), (5, .int x5), (6, .int x6), (7, .int x7)] [.int y0] S := by
  have hx := F.1.1
  have hb := F.1.2.1
  intro H locs ls w hl
  rw [f_Potentials_shapeAfter_j50] at h
  refine lv_istore (pc := 50) (lv' := [(8, .int y0), (0, .ref (ad 71)), (1, .int x1), (2, .int x2), (3, .int x3), (4, .int x4), (5, .int x5), (6, .int x6), (7, .int x7)]) hx hb dX4_shapeAfter_50 hl (by decide) rfl (fun ls hl => ?_)
  refine lv_iload (pc := 52) hx hb dX4_shapeAfter_52 (lv_at hl 6 rfl) ?_
  refine lv_iload (pc := 54) hx hb dX4_shapeAfter_54 (lv_at hl 7 rfl) ?_
  refine lv_aload_n (pc := 56) hx hb dX4_shapeAfter_56 rfl (lv_at hl 1 rfl) ?_
  refine lv_iload_n (pc := 57) hx hb dX4_shapeAfter_57 rfl (lv_at hl 2 rfl) ?_
  refine lv_iload (pc := 58) hx hb dX4_shapeAfter_58 (lv_at hl 7 rfl) ?_
  obtain ⟨r2, S1, hc, h⟩ := bnd_t h
  refine s_cvi (pc := 60) [.int x1, .int x6] (fun ad => [.ref (ad 71), .int x1, .int x6]) F w (m_Potentials_endIn _ _ _ _ _ hc) rfl rfl hl.1 ds_71 vc_X4 rfl ok_X4_endIn rfl kc_X4_endIn kl_X4_149 ki_X4_endIn kv_X4_endIn kn_X4 ⟨Nat.le_trans (by decide) hR1, Nat.le_trans (by decide) hR2⟩ ⟨Nat.zero_le _, Nat.zero_le _⟩ (Nat.le_of_ble_eq_true rfl) dX4_shapeAfter_60 (fun H locs w => ?_)
  refine lv_iload (pc := 63) hx hb dX4_shapeAfter_63 (lv_at hl 8 rfl) ?_
  refine lv_isub (pc := 65) hx hb dX4_shapeAfter_65 ?_
  refine lv_iload (pc := 66) hx hb dX4_shapeAfter_66 (lv_at hl 0 rfl) ?_
  refine lv_iadd (pc := 68) hx hb dX4_shapeAfter_68 ?_
  obtain ⟨r4, S3, hc, h⟩ := bnd_t h
  refine s_csi (pc := 69) [.int x5, .int x6, .int ((r2 - x7) + y0)] (fun ad => [.int x5, .int x6, .int ((r2 - x7) + y0)]) F w (m_Potentials_keyWith _ _ _ _ _ _ hc) rfl rfl hl.1 ok_X4_keyWith rfl kc_X4_keyWith kl_X4_75 ks_X4_keyWith kn_X4 ⟨Nat.le_trans (by decide) hR1, Nat.le_trans (by decide) hR2⟩ ⟨Nat.zero_le _, Nat.zero_le _⟩ (Nat.le_of_ble_eq_true rfl) dX4_shapeAfter_69 (fun H locs w => ?_)
  refine lv_istore (pc := 72) (lv' := [(5, .int r4), (8, .int y0), (0, .ref (ad 71)), (1, .int x1), (2, .int x2), (3, .int x3), (4, .int x4), (6, .int x6), (7, .int x7)]) hx hb dX4_shapeAfter_72 hl (by decide) rfl (fun ls hl => ?_)
  refine s_nm h (fun z5 ez5 h => ?_)
  refine lv_iinc (pc := 74) (v := z5) (lv' := [(6, .int z5), (5, .int r4), (8, .int y0), (0, .ref (ad 71)), (1, .int x1), (2, .int x2), (3, .int x3), (4, .int x4), (7, .int x7)]) hx hb dX4_shapeAfter_74 hl (k := 7) rfl (by rw [ez5]; rfl) (by decide) rfl (fun ls hl => ?_)
  refine lv_goto (pc := 77) (tgt := 6) hx hb dX4_shapeAfter_77 (by decide) ?_
  exact hK6 _ _ _ _ _ _ _ h _ _ _ w (lv_sub hl [3, 4, 5, 6, 7, 1, 0] rfl)
set_option maxRecDepth 100000 in
set_option maxHeartbeats 4000000 in
theorem w_Potentials_shapeAfter_j49 {p : Program} {l : Launch} {e : Env} {R : Room} {s : State} {m : MethodId} {args : Array Value} {below : List Frame} {meth : Method} {c : Code} {dC : Nat → ClassId} {dI : Nat → Nat → Nat} {cs : Nat → ClassId} {ad : Nat → Nat} {A : Nat → Prop} {D0 : Nat → Nat} {S' : SS} {r : Int32} (F : Fx p s m args meth c cX4_shapeAfter 9 RX4 (some .int) dC dI cs A) (hR1 : 1 ≤ R.frames) (hR2 : 22 ≤ R.locals) (K6 : Int32 → Int32 → Int32 → Int32 → Int32 → Int32 → SS → Option (Int32 × SS)) (hK6 : ∀ (v0 : Int32) (v1 : Int32) (v2 : Int32) (v3 : Int32) (v4 : Int32) (v5 : Int32) (S : SS), K6 v0 v1 v2 v3 v4 v5 S = some (r, S') → AW p l e R s m args below meth c dC dI cs ad A D0 (some (.int r)) S' 9 6 [(0, .ref (ad 71)), (1, .int v0), (2, .int v1), (3, .int v2), (4, .int v3), (5, .int v4), (6, .int v5)] [] S) (x1 : Int32) (x2 : Int32) (x3 : Int32) (x4 : Int32) (x5 : Int32) (x6 : Int32) (x7 : Int32) (S : SS) (h : f_Potentials_shapeAfter_j49 K6 x1 x2 x3 x4 x5 x6 x7 S = some (r, S')) : AW p l e R s m args below meth c dC dI cs ad A D0 (some (.int r)) S' 9 49 [(0, .ref (ad 71)), (1, .int x1), (2, .int x2), (3, .int x3), (4, .int x4), (5, .int x5), (6, .int x6), (7, .int x7)] [] S := by
  have hx := F.1.1
  have hb := F.1.2.1
  intro H locs ls w hl
  rw [f_Potentials_shapeAfter_j49] at h
  refine lv_iconst (pc := 49) (v := 0) hx hb dX4_shapeAfter_49 (by decide) ?_
  exact w_Potentials_shapeAfter_j50 F (Nat.le_trans (by decide) hR1) (Nat.le_trans (by decide) hR2) _ hK6 _ _ _ _ _ _ _ _ _ h _ _ _ w (lv_sub hl [0, 1, 2, 3, 4, 5, 6, 7] rfl)
set_option maxRecDepth 100000 in
set_option maxHeartbeats 4000000 in
theorem w_Potentials_shapeAfter_j30 {p : Program} {l : Launch} {e : Env} {R : Room} {s : State} {m : MethodId} {args : Array Value} {below : List Frame} {meth : Method} {c : Code} {dC : Nat → ClassId} {dI : Nat → Nat → Nat} {cs : Nat → ClassId} {ad : Nat → Nat} {A : Nat → Prop} {D0 : Nat → Nat} {S' : SS} {r : Int32} (F : Fx p s m args meth c cX4_shapeAfter 9 RX4 (some .int) dC dI cs A) (hR1 : 1 ≤ R.frames) (hR2 : 22 ≤ R.locals) (K6 : Int32 → Int32 → Int32 → Int32 → Int32 → Int32 → SS → Option (Int32 × SS)) (hK6 : ∀ (v0 : Int32) (v1 : Int32) (v2 : Int32) (v3 : Int32) (v4 : Int32) (v5 : Int32) (S : SS), K6 v0 v1 v2 v3 v4 v5 S = some (r, S') → AW p l e R s m args below meth c dC dI cs ad A D0 (some (.int r)) S' 9 6 [(0, .ref (ad 71)), (1, .int v0), (2, .int v1), (3, .int v2), (4, .int v3), (5, .int v4), (6, .int v5)] [] S) (x1 : Int32) (x2 : Int32) (x3 : Int32) (x4 : Int32) (x5 : Int32) (x6 : Int32) (y0 : Int32) (S : SS) (h : f_Potentials_shapeAfter_j30 K6 x1 x2 x3 x4 x5 x6 y0 S = some (r, S')) : AW p l e R s m args below meth c dC dI cs ad A D0 (some (.int r)) S' 9 30 [(0, .ref (ad 71)), (1, .int x1), (2, .int x2), (3, .int x3), (4, .int x4), (5, .int x5), (6, .int x6)] [.int y0] S := by
  have hx := F.1.1
  have hb := F.1.2.1
  intro H locs ls w hl
  rw [f_Potentials_shapeAfter_j30] at h
  refine lv_istore (pc := 30) (lv' := [(7, .int y0), (0, .ref (ad 71)), (1, .int x1), (2, .int x2), (3, .int x3), (4, .int x4), (5, .int x5), (6, .int x6)]) hx hb dX4_shapeAfter_30 hl (by decide) rfl (fun ls hl => ?_)
  refine lv_iload_n (pc := 32) hx hb dX4_shapeAfter_32 rfl (lv_at hl 4 rfl) ?_
  refine lv_iload (pc := 33) hx hb dX4_shapeAfter_33 (lv_at hl 7 rfl) ?_
  refine lv_icmp_gt (pc := 35) (tgt := 49) hx hb dX4_shapeAfter_35 (by decide) (fun q => ?_) (fun q => ?_)
  · have h := ite_t q h
    exact w_Potentials_shapeAfter_j49 F (Nat.le_trans (by decide) hR1) (Nat.le_trans (by decide) hR2) _ hK6 _ _ _ _ _ _ _ _ h _ _ _ w (lv_sub hl [1, 2, 3, 4, 5, 6, 7, 0] rfl)
  · have h := ite_f q h
    refine lv_iload (pc := 38) hx hb dX4_shapeAfter_38 (lv_at hl 7 rfl) ?_
    refine lv_iload_n (pc := 40) hx hb dX4_shapeAfter_40 rfl (lv_at hl 3 rfl) ?_
    refine lv_icmp_ge (pc := 41) (tgt := 49) hx hb dX4_shapeAfter_41 (by decide) (fun q => ?_) (fun q => ?_)
    · have h := ite_t q h
      exact w_Potentials_shapeAfter_j49 F (Nat.le_trans (by decide) hR1) (Nat.le_trans (by decide) hR2) _ hK6 _ _ _ _ _ _ _ _ h _ _ _ w (lv_sub hl [1, 2, 3, 4, 5, 6, 7, 0] rfl)
    · have h := ite_f q h
      refine lv_iload (pc := 44) hx hb dX4_shapeAfter_44 (lv_at hl 5 rfl) ?_
      refine lv_goto (pc := 46) (tgt := 50) hx hb dX4_shapeAfter_46 (by decide) ?_
      exact w_Potentials_shapeAfter_j50 F (Nat.le_trans (by decide) hR1) (Nat.le_trans (by decide) hR2) _ hK6 _ _ _ _ _ _ _ _ _ h _ _ _ w (lv_sub hl [1, 2, 3, 4, 5, 6, 7, 0] rfl)
set_option maxRecDepth 100000 in
set_option maxHeartbeats 4000000 in
theorem w_Potentials_shapeAfter_j29 {p : Program} {l : Launch} {e : Env} {R : Room} {s : State} {m : MethodId} {args : Array Value} {below : List Frame} {meth : Method} {c : Code} {dC : Nat → ClassId} {dI : Nat → Nat → Nat} {cs : Nat → ClassId} {ad : Nat → Nat} {A : Nat → Prop} {D0 : Nat → Nat} {S' : SS} {r : Int32} (F : Fx p s m args meth c cX4_shapeAfter 9 RX4 (some .int) dC dI cs A) (hR1 : 1 ≤ R.frames) (hR2 : 22 ≤ R.locals) (K6 : Int32 → Int32 → Int32 → Int32 → Int32 → Int32 → SS → Option (Int32 × SS)) (hK6 : ∀ (v0 : Int32) (v1 : Int32) (v2 : Int32) (v3 : Int32) (v4 : Int32) (v5 : Int32) (S : SS), K6 v0 v1 v2 v3 v4 v5 S = some (r, S') → AW p l e R s m args below meth c dC dI cs ad A D0 (some (.int r)) S' 9 6 [(0, .ref (ad 71)), (1, .int v0), (2, .int v1), (3, .int v2), (4, .int v3), (5, .int v4), (6, .int v5)] [] S) (x1 : Int32) (x2 : Int32) (x3 : Int32) (x4 : Int32) (x5 : Int32) (x6 : Int32) (S : SS) (h : f_Potentials_shapeAfter_j29 K6 x1 x2 x3 x4 x5 x6 S = some (r, S')) : AW p l e R s m args below meth c dC dI cs ad A D0 (some (.int r)) S' 9 29 [(0, .ref (ad 71)), (1, .int x1), (2, .int x2), (3, .int x3), (4, .int x4), (5, .int x5), (6, .int x6)] [] S := by
  have hx := F.1.1
  have hb := F.1.2.1
  intro H locs ls w hl
  rw [f_Potentials_shapeAfter_j29] at h
  refine lv_iconst (pc := 29) (v := 0) hx hb dX4_shapeAfter_29 (by decide) ?_
  exact w_Potentials_shapeAfter_j30 F (Nat.le_trans (by decide) hR1) (Nat.le_trans (by decide) hR2) _ hK6 _ _ _ _ _ _ _ _ h _ _ _ w (lv_sub hl [0, 1, 2, 3, 4, 5, 6] rfl)
set_option maxRecDepth 100000 in
set_option maxHeartbeats 4000000 in
theorem w_Potentials_shapeAfter_L6 {p : Program} {l : Launch} {e : Env} {R : Room} {s : State} {m : MethodId} {args : Array Value} {below : List Frame} {meth : Method} {c : Code} {dC : Nat → ClassId} {dI : Nat → Nat → Nat} {cs : Nat → ClassId} {ad : Nat → Nat} {A : Nat → Prop} {D0 : Nat → Nat} {S' : SS} {r : Int32} (F : Fx p s m args meth c cX4_shapeAfter 9 RX4 (some .int) dC dI cs A) (hR1 : 1 ≤ R.frames) (hR2 : 22 ≤ R.locals) : ∀ (n : Nat) (x1 : Int32) (x2 : Int32) (x3 : Int32) (x4 : Int32) (x5 : Int32) (x6 : Int32) (S : SS), f_Potentials_shapeAfter_L6 n x1 x2 x3 x4 x5 x6 S = some (r, S') → AW p l e R s m args below meth c dC dI cs ad A D0 (some (.int r)) S' 9 6 [(0, .ref (ad 71)), (1, .int x1), (2, .int x2), (3, .int x3), (4, .int x4), (5, .int x5), (6, .int x6)] [] S := by
  have hx := F.1.1
  have hb := F.1.2.1
  intro n
  induction n with
  | zero => intro x1 x2 x3 x4 x5 x6 S h; cases h
  | succ n ih =>
    intro x1 x2 x3 x4 x5 x6 S h H locs ls w hl
    rw [f_Potentials_shapeAfter_L6] at h
    refine lv_iload (pc := 6) hx hb dX4_shapeAfter_6 (lv_at hl 6 rfl) ?_
    refine lv_iconst (pc := 8) (v := 4) hx hb dX4_shapeAfter_8 (by decide) ?_
    refine lv_icmp_ge (pc := 9) (tgt := 80) hx hb dX4_shapeAfter_9 (by decide) (fun q => ?_) (fun q => ?_)
    · have h := ite_t q h
      refine lv_aload_n (pc := 80) hx hb dX4_shapeAfter_80 rfl (lv_at hl 0 rfl) ?_
      refine s_getR (pc := 81) F w 113 ds_71 (j := 4) vc_X4 vi_X4 rfl (by decide) kf_X4_26 dX4_shapeAfter_81 ?_
      refine lv_iload (pc := 84) hx hb dX4_shapeAfter_84 (lv_at hl 5 rfl) ?_
      refine s_iald (pc := 86) F w ds_113 h dX4_shapeAfter_86 (fun h => ?_)
      exact s_iret F w h dX4_shapeAfter_87
    · have h := ite_f q h
      refine lv_iload_n (pc := 12) hx hb dX4_shapeAfter_12 rfl (lv_at hl 2 rfl) ?_
      refine lv_iload (pc := 13) hx hb dX4_shapeAfter_13 (lv_at hl 6 rfl) ?_
      refine lv_icmp_gt (pc := 15) (tgt := 29) hx hb dX4_shapeAfter_15 (by decide) (fun q => ?_) (fun q => ?_)
      · have h := ite_t q h
        exact w_Potentials_shapeAfter_j29 F (Nat.le_trans (by decide) hR1) (Nat.le_trans (by decide) hR2) _ (fun v0 v1 v2 v3 v4 v5 S h => ih v0 v1 v2 v3 v4 v5 S h) _ _ _ _ _ _ _ h _ _ _ w (lv_sub hl [0, 1, 2, 3, 4, 5, 6] rfl)
      · have h := ite_f q h
        refine lv_iload (pc := 18) hx hb dX4_shapeAfter_18 (lv_at hl 6 rfl) ?_
        refine lv_iload_n (pc := 20) hx hb dX4_shapeAfter_20 rfl (lv_at hl 3 rfl) ?_
        refine lv_icmp_ge (pc := 21) (tgt := 29) hx hb dX4_shapeAfter_21 (by decide) (fun q => ?_) (fun q => ?_)
        · have h := ite_t q h
          exact w_Potentials_shapeAfter_j29 F (Nat.le_trans (by decide) hR1) (Nat.le_trans (by decide) hR2) _ (fun v0 v1 v2 v3 v4 v5 S h => ih v0 v1 v2 v3 v4 v5 S h) _ _ _ _ _ _ _ h _ _ _ w (lv_sub hl [0, 1, 2, 3, 4, 5, 6] rfl)
        · have h := ite_f q h
          refine lv_iload (pc := 24) hx hb dX4_shapeAfter_24 (lv_at hl 4 rfl) ?_
          refine lv_goto (pc := 26) (tgt := 30) hx hb dX4_shapeAfter_26 (by decide) ?_
          exact w_Potentials_shapeAfter_j30 F (Nat.le_trans (by decide) hR1) (Nat.le_trans (by decide) hR2) _ (fun v0 v1 v2 v3 v4 v5 S h => ih v0 v1 v2 v3 v4 v5 S h) _ _ _ _ _ _ _ _ h _ _ _ w (lv_sub hl [0, 1, 2, 3, 4, 5, 6] rfl)
set_option maxRecDepth 100000 in
set_option maxHeartbeats 4000000 in
theorem m_Potentials_shapeAfter (a1 : Int32) (a2 : Int32) (a3 : Int32) (a4 : Int32) (S S' : SS) (r : Int32) (h : f_Potentials_shapeAfter a1 a2 a3 a4 S = some (r, S')) : MT yX4_shapeAfter cX4_shapeAfter 9 (some .int) 1 22 (fun ad => [.ref (ad 71), .int a1, .int a2, .int a3, .int a4]) S (some (.int r)) S' := by
  refine MT.of RX4 (fun ad => [(0, .ref (ad 71)), (1, .int a1), (2, .int a2), (3, .int a3), (4, .int a4)]) (by decide) rfl (fun _ => Nat.le_of_ble_eq_true rfl) (fun _ => rfl) ?_
  intro p l e R s m args below meth c dC dI cs ad A hR1 hR2 F H locs ls w hl
  have hx := F.1.1
  have hb := F.1.2.1
  rw [f_Potentials_shapeAfter] at h
  refine lv_iconst (pc := 0) (v := 0) hx hb dX4_shapeAfter_0 (by decide) ?_
  refine lv_istore (pc := 1) (lv' := [(5, .int (0 : Int32)), (0, .ref (ad 71)), (1, .int a1), (2, .int a2), (3, .int a3), (4, .int a4)]) hx hb dX4_shapeAfter_1 hl (by decide) rfl (fun ls hl => ?_)
  refine lv_iconst (pc := 3) (v := 0) hx hb dX4_shapeAfter_3 (by decide) ?_
  refine lv_istore (pc := 4) (lv' := [(6, .int (0 : Int32)), (5, .int (0 : Int32)), (0, .ref (ad 71)), (1, .int a1), (2, .int a2), (3, .int a3), (4, .int a4)]) hx hb dX4_shapeAfter_4 hl (by decide) rfl (fun ls hl => ?_)
  exact w_Potentials_shapeAfter_L6 F (Nat.le_trans (by decide) hR1) (Nat.le_trans (by decide) hR2) _ _ _ _ _ _ _ _ h _ _ _ w (lv_sub hl [2, 3, 4, 5, 6, 1, 0] rfl)
def f_Potentials_swapOf (a0 : Int32) (a1 : Int32) (a2 : Int32) (S : SS) : Option (Int32 × SS) :=
  if a1 ≤ a0 then
    some ((-4 : Int32), S)
  else
    if a2 ≤ a1 then
      some ((-4 : Int32), S)
    else
      some (((((a2 * (a2 - (1 : Int32))) * (a2 - (2 : Int32))) / (6 : Int32)) + ((a1 * (a1 - (1 : Int32))) / (2 : Int32))) + a0, S)
theorem dX4_swapOf_0 : decode cX4_swapOf 0 = .ok (.iload_n 0, 1) := dc_26 (by decide +kernel)
theorem dX4_swapOf_1 : decode cX4_swapOf 1 = .ok (.iload_n 1, 1) := dc_27 (by decide +kernel)
theorem dX4_swapOf_2 : decode cX4_swapOf 2 = .ok (.if_icmp .ge 33, 3) := dc_162 (a := 0) (b := 33) (by decide +kernel) (by decide)
theorem dX4_swapOf_5 : decode cX4_swapOf 5 = .ok (.iload_n 1, 1) := dc_27 (by decide +kernel)
theorem dX4_swapOf_6 : decode cX4_swapOf 6 = .ok (.iload_n 2, 1) := dc_28 (by decide +kernel)
theorem dX4_swapOf_7 : decode cX4_swapOf 7 = .ok (.if_icmp .ge 28, 3) := dc_162 (a := 0) (b := 28) (by decide +kernel) (by decide)
theorem dX4_swapOf_10 : decode cX4_swapOf 10 = .ok (.iload_n 2, 1) := dc_28 (by decide +kernel)
theorem dX4_swapOf_11 : decode cX4_swapOf 11 = .ok (.iload_n 2, 1) := dc_28 (by decide +kernel)
theorem dX4_swapOf_12 : decode cX4_swapOf 12 = .ok (.iconst 1, 1) := dc_4 (by decide +kernel)
theorem dX4_swapOf_13 : decode cX4_swapOf 13 = .ok (.isub, 1) := dc_100 (by decide +kernel)
theorem dX4_swapOf_14 : decode cX4_swapOf 14 = .ok (.imul, 1) := dc_104 (by decide +kernel)
theorem dX4_swapOf_15 : decode cX4_swapOf 15 = .ok (.iload_n 2, 1) := dc_28 (by decide +kernel)
theorem dX4_swapOf_16 : decode cX4_swapOf 16 = .ok (.iconst 2, 1) := dc_5 (by decide +kernel)
theorem dX4_swapOf_17 : decode cX4_swapOf 17 = .ok (.isub, 1) := dc_100 (by decide +kernel)
theorem dX4_swapOf_18 : decode cX4_swapOf 18 = .ok (.imul, 1) := dc_104 (by decide +kernel)
theorem dX4_swapOf_19 : decode cX4_swapOf 19 = .ok (.bipush 6, 2) := dc_16 (a := 6) (by decide +kernel) (by decide)
theorem dX4_swapOf_21 : decode cX4_swapOf 21 = .ok (.idiv, 1) := dc_108 (by decide +kernel)
theorem dX4_swapOf_22 : decode cX4_swapOf 22 = .ok (.iload_n 1, 1) := dc_27 (by decide +kernel)
theorem dX4_swapOf_23 : decode cX4_swapOf 23 = .ok (.iload_n 1, 1) := dc_27 (by decide +kernel)
theorem dX4_swapOf_24 : decode cX4_swapOf 24 = .ok (.iconst 1, 1) := dc_4 (by decide +kernel)
theorem dX4_swapOf_25 : decode cX4_swapOf 25 = .ok (.isub, 1) := dc_100 (by decide +kernel)
theorem dX4_swapOf_26 : decode cX4_swapOf 26 = .ok (.imul, 1) := dc_104 (by decide +kernel)
theorem dX4_swapOf_27 : decode cX4_swapOf 27 = .ok (.iconst 2, 1) := dc_5 (by decide +kernel)
theorem dX4_swapOf_28 : decode cX4_swapOf 28 = .ok (.idiv, 1) := dc_108 (by decide +kernel)
theorem dX4_swapOf_29 : decode cX4_swapOf 29 = .ok (.iadd, 1) := dc_96 (by decide +kernel)
theorem dX4_swapOf_30 : decode cX4_swapOf 30 = .ok (.iload_n 0, 1) := dc_26 (by decide +kernel)
theorem dX4_swapOf_31 : decode cX4_swapOf 31 = .ok (.iadd, 1) := dc_96 (by decide +kernel)
theorem dX4_swapOf_32 : decode cX4_swapOf 32 = .ok (.goto 5, 3) := dc_167 (a := 0) (b := 5) (by decide +kernel) (by decide)
theorem dX4_swapOf_35 : decode cX4_swapOf 35 = .ok (.bipush (-4), 2) := dc_16 (a := 252) (by decide +kernel) (by decide)
theorem dX4_swapOf_37 : decode cX4_swapOf 37 = .ok (.ireturn, 1) := dc_172 (by decide +kernel)
set_option maxRecDepth 100000 in
set_option maxHeartbeats 4000000 in
theorem m_Potentials_swapOf (a0 : Int32) (a1 : Int32) (a2 : Int32) (S S' : SS) (r : Int32) (h : f_Potentials_swapOf a0 a1 a2 S = some (r, S')) : MT yX4_swapOf cX4_swapOf 3 (some .int) 0 0 (fun ad => [.int a0, .int a1, .int a2]) S (some (.int r)) S' := by
  refine MT.of RX4 (fun ad => [(0, .int a0), (1, .int a1), (2, .int a2)]) (by decide) rfl (fun _ => Nat.le_of_ble_eq_true rfl) (fun _ => rfl) ?_
  intro p l e R s m args below meth c dC dI cs ad A hR1 hR2 F H locs ls w hl
  have hx := F.1.1
  have hb := F.1.2.1
  rw [f_Potentials_swapOf] at h
  refine lv_iload_n (pc := 0) hx hb dX4_swapOf_0 rfl (lv_at hl 0 rfl) ?_
  refine lv_iload_n (pc := 1) hx hb dX4_swapOf_1 rfl (lv_at hl 1 rfl) ?_
  refine lv_icmp_ge (pc := 2) (tgt := 35) hx hb dX4_swapOf_2 (by decide) (fun q => ?_) (fun q => ?_)
  · have h := ite_t q h
    refine lv_bipush (pc := 35) (v := -4) hx hb dX4_swapOf_35 (by decide) ?_
    exact s_iret F w h dX4_swapOf_37
  · have h := ite_f q h
    refine lv_iload_n (pc := 5) hx hb dX4_swapOf_5 rfl (lv_at hl 1 rfl) ?_
    refine lv_iload_n (pc := 6) hx hb dX4_swapOf_6 rfl (lv_at hl 2 rfl) ?_
    refine lv_icmp_ge (pc := 7) (tgt := 35) hx hb dX4_swapOf_7 (by decide) (fun q => ?_) (fun q => ?_)
    · have h := ite_t q h
      refine lv_bipush (pc := 35) (v := -4) hx hb dX4_swapOf_35 (by decide) ?_
      exact s_iret F w h dX4_swapOf_37
    · have h := ite_f q h
      refine lv_iload_n (pc := 10) hx hb dX4_swapOf_10 rfl (lv_at hl 2 rfl) ?_
      refine lv_iload_n (pc := 11) hx hb dX4_swapOf_11 rfl (lv_at hl 2 rfl) ?_
      refine lv_iconst (pc := 12) (v := 1) hx hb dX4_swapOf_12 (by decide) ?_
      refine lv_isub (pc := 13) hx hb dX4_swapOf_13 ?_
      refine lv_imul (pc := 14) hx hb dX4_swapOf_14 ?_
      refine lv_iload_n (pc := 15) hx hb dX4_swapOf_15 rfl (lv_at hl 2 rfl) ?_
      refine lv_iconst (pc := 16) (v := 2) hx hb dX4_swapOf_16 (by decide) ?_
      refine lv_isub (pc := 17) hx hb dX4_swapOf_17 ?_
      refine lv_imul (pc := 18) hx hb dX4_swapOf_18 ?_
      refine lv_bipush (pc := 19) (v := 6) hx hb dX4_swapOf_19 (by decide) ?_
      refine lv_idiv (pc := 21) hx hb dX4_swapOf_21 (by decide) ?_
      refine lv_iload_n (pc := 22) hx hb dX4_swapOf_22 rfl (lv_at hl 1 rfl) ?_
      refine lv_iload_n (pc := 23) hx hb dX4_swapOf_23 rfl (lv_at hl 1 rfl) ?_
      refine lv_iconst (pc := 24) (v := 1) hx hb dX4_swapOf_24 (by decide) ?_
      refine lv_isub (pc := 25) hx hb dX4_swapOf_25 ?_
      refine lv_imul (pc := 26) hx hb dX4_swapOf_26 ?_
      refine lv_iconst (pc := 27) (v := 2) hx hb dX4_swapOf_27 (by decide) ?_
      refine lv_idiv (pc := 28) hx hb dX4_swapOf_28 (by decide) ?_
      refine lv_iadd (pc := 29) hx hb dX4_swapOf_29 ?_
      refine lv_iload_n (pc := 30) hx hb dX4_swapOf_30 rfl (lv_at hl 0 rfl) ?_
      refine lv_iadd (pc := 31) hx hb dX4_swapOf_31 ?_
      refine lv_goto (pc := 32) (tgt := 37) hx hb dX4_swapOf_32 (by decide) ?_
      exact s_iret F w h dX4_swapOf_37
def f_Potentials_swapBy (a1 : Int32) (a2 : Int32) (a3 : Int32) (a4 : Int32) (S : SS) : Option (Int32 × SS) :=
  bnd (f_Potentials_endIn a1 a2 S) (fun r2 S1 =>
  if a3 ≤ a2 then
    bnd (f_Potentials_endIn a1 a3 S1) (fun r4 S3 =>
    bnd (f_Potentials_swapOf r4 (r2 - a4) r2 S3) (fun r6 S5 =>
    some (r6, S5)))
  else
    bnd (f_Potentials_endIn a1 a3 S1) (fun r8 S7 =>
    bnd (f_Potentials_swapOf (r2 - a4) r2 r8 S7) (fun r10 S9 =>
    some (r10, S9))))
theorem dX4_swapBy_0 : decode cX4_swapBy 0 = .ok (.aload_n 0, 1) := dc_42 (by decide +kernel)
theorem dX4_swapBy_1 : decode cX4_swapBy 1 = .ok (.iload_n 1, 1) := dc_27 (by decide +kernel)
theorem dX4_swapBy_2 : decode cX4_swapBy 2 = .ok (.iload_n 2, 1) := dc_28 (by decide +kernel)
theorem dX4_swapBy_3 : decode cX4_swapBy 3 = .ok (.invokevirtual 149, 3) := dc_182 (a := 0) (b := 149) (by decide +kernel)
theorem dX4_swapBy_6 : decode cX4_swapBy 6 = .ok (.istore 5, 2) := dc_54 (a := 5) (by decide +kernel)
theorem dX4_swapBy_8 : decode cX4_swapBy 8 = .ok (.iload_n 2, 1) := dc_28 (by decide +kernel)
theorem dX4_swapBy_9 : decode cX4_swapBy 9 = .ok (.iload_n 3, 1) := dc_29 (by decide +kernel)
theorem dX4_swapBy_10 : decode cX4_swapBy 10 = .ok (.if_icmp .ge 22, 3) := dc_162 (a := 0) (b := 22) (by decide +kernel) (by decide)
theorem dX4_swapBy_13 : decode cX4_swapBy 13 = .ok (.iload 5, 2) := dc_21 (a := 5) (by decide +kernel)
theorem dX4_swapBy_15 : decode cX4_swapBy 15 = .ok (.iload 4, 2) := dc_21 (a := 4) (by decide +kernel)
theorem dX4_swapBy_17 : decode cX4_swapBy 17 = .ok (.isub, 1) := dc_100 (by decide +kernel)
theorem dX4_swapBy_18 : decode cX4_swapBy 18 = .ok (.iload 5, 2) := dc_21 (a := 5) (by decide +kernel)
theorem dX4_swapBy_20 : decode cX4_swapBy 20 = .ok (.aload_n 0, 1) := dc_42 (by decide +kernel)
theorem dX4_swapBy_21 : decode cX4_swapBy 21 = .ok (.iload_n 1, 1) := dc_27 (by decide +kernel)
theorem dX4_swapBy_22 : decode cX4_swapBy 22 = .ok (.iload_n 3, 1) := dc_29 (by decide +kernel)
theorem dX4_swapBy_23 : decode cX4_swapBy 23 = .ok (.invokevirtual 149, 3) := dc_182 (a := 0) (b := 149) (by decide +kernel)
theorem dX4_swapBy_26 : decode cX4_swapBy 26 = .ok (.invokestatic 131, 3) := dc_184 (a := 0) (b := 131) (by decide +kernel)
theorem dX4_swapBy_29 : decode cX4_swapBy 29 = .ok (.goto 19, 3) := dc_167 (a := 0) (b := 19) (by decide +kernel) (by decide)
theorem dX4_swapBy_32 : decode cX4_swapBy 32 = .ok (.aload_n 0, 1) := dc_42 (by decide +kernel)
theorem dX4_swapBy_33 : decode cX4_swapBy 33 = .ok (.iload_n 1, 1) := dc_27 (by decide +kernel)
theorem dX4_swapBy_34 : decode cX4_swapBy 34 = .ok (.iload_n 3, 1) := dc_29 (by decide +kernel)
theorem dX4_swapBy_35 : decode cX4_swapBy 35 = .ok (.invokevirtual 149, 3) := dc_182 (a := 0) (b := 149) (by decide +kernel)
theorem dX4_swapBy_38 : decode cX4_swapBy 38 = .ok (.iload 5, 2) := dc_21 (a := 5) (by decide +kernel)
theorem dX4_swapBy_40 : decode cX4_swapBy 40 = .ok (.iload 4, 2) := dc_21 (a := 4) (by decide +kernel)
theorem dX4_swapBy_42 : decode cX4_swapBy 42 = .ok (.isub, 1) := dc_100 (by decide +kernel)
theorem dX4_swapBy_43 : decode cX4_swapBy 43 = .ok (.iload 5, 2) := dc_21 (a := 5) (by decide +kernel)
theorem dX4_swapBy_45 : decode cX4_swapBy 45 = .ok (.invokestatic 131, 3) := dc_184 (a := 0) (b := 131) (by decide +kernel)
theorem dX4_swapBy_48 : decode cX4_swapBy 48 = .ok (.ireturn, 1) := dc_172 (by decide +kernel)
set_option maxRecDepth 100000 in
set_option maxHeartbeats 4000000 in
theorem m_Potentials_swapBy (a1 : Int32) (a2 : Int32) (a3 : Int32) (a4 : Int32) (S S' : SS) (r : Int32) (h : f_Potentials_swapBy a1 a2 a3 a4 S = some (r, S')) : MT yX4_swapBy cX4_swapBy 6 (some .int) 1 22 (fun ad => [.ref (ad 71), .int a1, .int a2, .int a3, .int a4]) S (some (.int r)) S' := by
  refine MT.of RX4 (fun ad => [(0, .ref (ad 71)), (1, .int a1), (2, .int a2), (3, .int a3), (4, .int a4)]) (by decide) rfl (fun _ => Nat.le_of_ble_eq_true rfl) (fun _ => rfl) ?_
  intro p l e R s m args below meth c dC dI cs ad A hR1 hR2 F H locs ls w hl
  have hx := F.1.1
  have hb := F.1.2.1
  rw [f_Potentials_swapBy] at h
  refine lv_aload_n (pc := 0) hx hb dX4_swapBy_0 rfl (lv_at hl 0 rfl) ?_
  refine lv_iload_n (pc := 1) hx hb dX4_swapBy_1 rfl (lv_at hl 1 rfl) ?_
  refine lv_iload_n (pc := 2) hx hb dX4_swapBy_2 rfl (lv_at hl 2 rfl) ?_
  obtain ⟨r2, S1, hc, h⟩ := bnd_t h
  refine s_cvi (pc := 3) [.int a1, .int a2] (fun ad => [.ref (ad 71), .int a1, .int a2]) F w (m_Potentials_endIn _ _ _ _ _ hc) rfl rfl hl.1 ds_71 vc_X4 rfl ok_X4_endIn rfl kc_X4_endIn kl_X4_149 ki_X4_endIn kv_X4_endIn kn_X4 ⟨Nat.le_trans (by decide) hR1, Nat.le_trans (by decide) hR2⟩ ⟨Nat.zero_le _, Nat.zero_le _⟩ (Nat.le_of_ble_eq_true rfl) dX4_swapBy_3 (fun H locs w => ?_)
  refine lv_istore (pc := 6) (lv' := [(5, .int r2), (0, .ref (ad 71)), (1, .int a1), (2, .int a2), (3, .int a3), (4, .int a4)]) hx hb dX4_swapBy_6 hl (by decide) rfl (fun ls hl => ?_)
  refine lv_iload_n (pc := 8) hx hb dX4_swapBy_8 rfl (lv_at hl 3 rfl) ?_
  refine lv_iload_n (pc := 9) hx hb dX4_swapBy_9 rfl (lv_at hl 4 rfl) ?_
  refine lv_icmp_ge (pc := 10) (tgt := 32) hx hb dX4_swapBy_10 (by decide) (fun q => ?_) (fun q => ?_)
  · have h := ite_t q h
    refine lv_aload_n (pc := 32) hx hb dX4_swapBy_32 rfl (lv_at hl 1 rfl) ?_
    refine lv_iload_n (pc := 33) hx hb dX4_swapBy_33 rfl (lv_at hl 2 rfl) ?_
    refine lv_iload_n (pc := 34) hx hb dX4_swapBy_34 rfl (lv_at hl 4 rfl) ?_
    obtain ⟨r4, S3, hc, h⟩ := bnd_t h
    refine s_cvi (pc := 35) [.int a1, .int a3] (fun ad => [.ref (ad 71), .int a1, .int a3]) F w (m_Potentials_endIn _ _ _ _ _ hc) rfl rfl hl.1 ds_71 vc_X4 rfl ok_X4_endIn rfl kc_X4_endIn kl_X4_149 ki_X4_endIn kv_X4_endIn kn_X4 ⟨Nat.le_trans (by decide) hR1, Nat.le_trans (by decide) hR2⟩ ⟨Nat.zero_le _, Nat.zero_le _⟩ (Nat.le_of_ble_eq_true rfl) dX4_swapBy_35 (fun H locs w => ?_)
    refine lv_iload (pc := 38) hx hb dX4_swapBy_38 (lv_at hl 0 rfl) ?_
    refine lv_iload (pc := 40) hx hb dX4_swapBy_40 (lv_at hl 5 rfl) ?_
    refine lv_isub (pc := 42) hx hb dX4_swapBy_42 ?_
    refine lv_iload (pc := 43) hx hb dX4_swapBy_43 (lv_at hl 0 rfl) ?_
    obtain ⟨r6, S5, hc, h⟩ := bnd_t h
    refine s_csi (pc := 45) [.int r4, .int (r2 - a4), .int r2] (fun ad => [.int r4, .int (r2 - a4), .int r2]) F w (m_Potentials_swapOf _ _ _ _ _ _ hc) rfl rfl hl.1 ok_X4_swapOf rfl kc_X4_swapOf kl_X4_131 ks_X4_swapOf kn_X4 ⟨Nat.le_trans (by decide) hR1, Nat.le_trans (by decide) hR2⟩ ⟨Nat.zero_le _, Nat.zero_le _⟩ (Nat.le_of_ble_eq_true rfl) dX4_swapBy_45 (fun H locs w => ?_)
    exact s_iret F w h dX4_swapBy_48
  · have h := ite_f q h
    refine lv_iload (pc := 13) hx hb dX4_swapBy_13 (lv_at hl 0 rfl) ?_
    refine lv_iload (pc := 15) hx hb dX4_swapBy_15 (lv_at hl 5 rfl) ?_
    refine lv_isub (pc := 17) hx hb dX4_swapBy_17 ?_
    refine lv_iload (pc := 18) hx hb dX4_swapBy_18 (lv_at hl 0 rfl) ?_
    refine lv_aload_n (pc := 20) hx hb dX4_swapBy_20 rfl (lv_at hl 1 rfl) ?_
    refine lv_iload_n (pc := 21) hx hb dX4_swapBy_21 rfl (lv_at hl 2 rfl) ?_
    refine lv_iload_n (pc := 22) hx hb dX4_swapBy_22 rfl (lv_at hl 4 rfl) ?_
    obtain ⟨r8, S7, hc, h⟩ := bnd_t h
    refine s_cvi (pc := 23) [.int a1, .int a3] (fun ad => [.ref (ad 71), .int a1, .int a3]) F w (m_Potentials_endIn _ _ _ _ _ hc) rfl rfl hl.1 ds_71 vc_X4 rfl ok_X4_endIn rfl kc_X4_endIn kl_X4_149 ki_X4_endIn kv_X4_endIn kn_X4 ⟨Nat.le_trans (by decide) hR1, Nat.le_trans (by decide) hR2⟩ ⟨Nat.zero_le _, Nat.zero_le _⟩ (Nat.le_of_ble_eq_true rfl) dX4_swapBy_23 (fun H locs w => ?_)
    obtain ⟨r10, S9, hc, h⟩ := bnd_t h
    refine s_csi (pc := 26) [.int (r2 - a4), .int r2, .int r8] (fun ad => [.int (r2 - a4), .int r2, .int r8]) F w (m_Potentials_swapOf _ _ _ _ _ _ hc) rfl rfl hl.1 ok_X4_swapOf rfl kc_X4_swapOf kl_X4_131 ks_X4_swapOf kn_X4 ⟨Nat.le_trans (by decide) hR1, Nat.le_trans (by decide) hR2⟩ ⟨Nat.zero_le _, Nat.zero_le _⟩ (Nat.le_of_ble_eq_true rfl) dX4_swapBy_26 (fun H locs w => ?_)
    refine lv_goto (pc := 29) (tgt := 48) hx hb dX4_swapBy_29 (by decide) ?_
    exact s_iret F w h dX4_swapBy_48
def f_Potentials_listEntries_Plans_rooms_L75 (K31 : Int32 → Int32 → Int32 → Int32 → SS → Option (SS)) : Nat → Int32 → Int32 → Int32 → Int32 → Int32 → Int32 → SS → Option (SS)
  | 0, _, _, _, _, _, _, _ => none
  | n + 1, x2, x3, x4, x5, x6, x7, S =>
    if x6 < x7 then
      nm (x5 + (1 : Int32)) (fun z11 =>
      K31 x2 x3 x4 z11 S)
    else
      grd (inb x2 (S.2 117)) (wr S 117 x2.toNatClampNeg ((((64 : Int32) * x4) + ((16 : Int32) * x5)) + x7) (fun S12 =>
      bnd (f_Potentials_shapeAfter x3 x4 x5 x7 S12) (fun r14 S13 =>
      grd (inb x2 (S13.2 118)) (wr S13 118 x2.toNatClampNeg r14 (fun S15 =>
      bnd (f_Potentials_swapBy x3 x4 x5 x7 S15) (fun r17 S16 =>
      grd (inb x2 (S16.2 119)) (wr S16 119 x2.toNatClampNeg r17 (fun S18 =>
      nm (x2 + (1 : Int32)) (fun z19 =>
      nm (x7 + (1 : Int32)) (fun z20 =>
      f_Potentials_listEntries_Plans_rooms_L75 K31 n z19 x3 x4 x5 x6 z20 S18))))))))))
def f_Potentials_listEntries_Plans_rooms_j70 (K31 : Int32 → Int32 → Int32 → Int32 → SS → Option (SS)) (x2 : Int32) (x3 : Int32) (x4 : Int32) (x5 : Int32) (y0 : Int32) (S : SS) : Option (SS) :=
    f_Potentials_listEntries_Plans_rooms_L75 K31 NF x2 x3 x4 x5 y0 (1 : Int32) S
def f_Potentials_listEntries_Plans_rooms_L31 (K22 : Int32 → Int32 → Int32 → SS → Option (SS)) : Nat → Int32 → Int32 → Int32 → Int32 → SS → Option (SS)
  | 0, _, _, _, _, _ => none
  | n + 1, x2, x3, x4, x5, S =>
    if (4 : Int32) ≤ x5 then
      nm (x4 + (1 : Int32)) (fun z4 =>
      K22 x2 x3 z4 S)
    else
      if x4 = x5 then
        f_Potentials_listEntries_Plans_rooms_j70 (fun v0 v1 v2 v3 S => f_Potentials_listEntries_Plans_rooms_L31 K22 n v0 v1 v2 v3 S) x2 x3 x4 x5 (0 : Int32) S
      else
        bnd (f_Potentials_heightIn x3 x4 S) (fun r6 S5 =>
        grd (inb x5 4) (
        bnd (f_Potentials_heightIn x3 x5 S5) (fun r8 S7 =>
        bnd (f_Math_min_7cf53 r6 ((S5.1 106 x5.toNatClampNeg) - r8) S7) (fun r10 S9 =>
        f_Potentials_listEntries_Plans_rooms_j70 (fun v0 v1 v2 v3 S => f_Potentials_listEntries_Plans_rooms_L31 K22 n v0 v1 v2 v3 S) x2 x3 x4 x5 r10 S9))))
def f_Potentials_listEntries_Plans_rooms_L22 (K4 : Int32 → Int32 → SS → Option (SS)) : Nat → Int32 → Int32 → Int32 → SS → Option (SS)
  | 0, _, _, _, _ => none
  | n + 1, x2, x3, x4, S =>
    if (4 : Int32) ≤ x4 then
      nm (x3 + (1 : Int32)) (fun z3 =>
      K4 x2 z3 S)
    else
      f_Potentials_listEntries_Plans_rooms_L31 (fun v0 v1 v2 S => f_Potentials_listEntries_Plans_rooms_L22 K4 n v0 v1 v2 S) NF x2 x3 x4 (0 : Int32) S
def f_Potentials_listEntries_Plans_rooms_L4  : Nat → Int32 → Int32 → SS → Option (SS)
  | 0, _, _, _ => none
  | n + 1, x2, x3, S =>
    if (S.1 71 7) ≤ x3 then
      grd (inb (S.1 71 7) (S.2 116)) (wr S 116 (S.1 71 7).toNatClampNeg x2 (fun S1 =>
      some S1))
    else
      grd (inb x3 (S.2 116)) (wr S 116 x3.toNatClampNeg x2 (fun S2 =>
      f_Potentials_listEntries_Plans_rooms_L22 (fun v0 v1 S => f_Potentials_listEntries_Plans_rooms_L4 n v0 v1 S) NF x2 x3 (0 : Int32) S2))
def f_Potentials_listEntries_Plans_rooms  (S : SS) : Option (SS) :=
  f_Potentials_listEntries_Plans_rooms_L4 NF (0 : Int32) (0 : Int32) S
theorem dX4_listEntries_0 : decode cX4_listEntries 0 = .ok (.iconst 0, 1) := dc_3 (by decide +kernel)
theorem dX4_listEntries_1 : decode cX4_listEntries 1 = .ok (.istore_n 2, 1) := dc_61 (by decide +kernel)
theorem dX4_listEntries_2 : decode cX4_listEntries 2 = .ok (.iconst 0, 1) := dc_3 (by decide +kernel)
theorem dX4_listEntries_3 : decode cX4_listEntries 3 = .ok (.istore_n 3, 1) := dc_62 (by decide +kernel)
theorem dX4_listEntries_4 : decode cX4_listEntries 4 = .ok (.iload_n 3, 1) := dc_29 (by decide +kernel)
theorem dX4_listEntries_5 : decode cX4_listEntries 5 = .ok (.aload_n 0, 1) := dc_42 (by decide +kernel)
theorem dX4_listEntries_6 : decode cX4_listEntries 6 = .ok (.getfield 36, 3) := dc_180 (a := 0) (b := 36) (by decide +kernel)
theorem dX4_listEntries_9 : decode cX4_listEntries 9 = .ok (.if_icmp .ge 154, 3) := dc_162 (a := 0) (b := 154) (by decide +kernel) (by decide)
theorem dX4_listEntries_12 : decode cX4_listEntries 12 = .ok (.aload_n 0, 1) := dc_42 (by decide +kernel)
theorem dX4_listEntries_13 : decode cX4_listEntries 13 = .ok (.getfield 45, 3) := dc_180 (a := 0) (b := 45) (by decide +kernel)
theorem dX4_listEntries_16 : decode cX4_listEntries 16 = .ok (.iload_n 3, 1) := dc_29 (by decide +kernel)
theorem dX4_listEntries_17 : decode cX4_listEntries 17 = .ok (.iload_n 2, 1) := dc_28 (by decide +kernel)
theorem dX4_listEntries_18 : decode cX4_listEntries 18 = .ok (.iastore, 1) := dc_79 (by decide +kernel)
theorem dX4_listEntries_19 : decode cX4_listEntries 19 = .ok (.iconst 0, 1) := dc_3 (by decide +kernel)
theorem dX4_listEntries_20 : decode cX4_listEntries 20 = .ok (.istore 4, 2) := dc_54 (a := 4) (by decide +kernel)
theorem dX4_listEntries_22 : decode cX4_listEntries 22 = .ok (.iload 4, 2) := dc_21 (a := 4) (by decide +kernel)
theorem dX4_listEntries_24 : decode cX4_listEntries 24 = .ok (.iconst 4, 1) := dc_7 (by decide +kernel)
theorem dX4_listEntries_25 : decode cX4_listEntries 25 = .ok (.if_icmp .ge 132, 3) := dc_162 (a := 0) (b := 132) (by decide +kernel) (by decide)
theorem dX4_listEntries_28 : decode cX4_listEntries 28 = .ok (.iconst 0, 1) := dc_3 (by decide +kernel)
theorem dX4_listEntries_29 : decode cX4_listEntries 29 = .ok (.istore 5, 2) := dc_54 (a := 5) (by decide +kernel)
theorem dX4_listEntries_31 : decode cX4_listEntries 31 = .ok (.iload 5, 2) := dc_21 (a := 5) (by decide +kernel)
theorem dX4_listEntries_33 : decode cX4_listEntries 33 = .ok (.iconst 4, 1) := dc_7 (by decide +kernel)
theorem dX4_listEntries_34 : decode cX4_listEntries 34 = .ok (.if_icmp .ge 117, 3) := dc_162 (a := 0) (b := 117) (by decide +kernel) (by decide)
theorem dX4_listEntries_37 : decode cX4_listEntries 37 = .ok (.iload 4, 2) := dc_21 (a := 4) (by decide +kernel)
theorem dX4_listEntries_39 : decode cX4_listEntries 39 = .ok (.iload 5, 2) := dc_21 (a := 5) (by decide +kernel)
theorem dX4_listEntries_41 : decode cX4_listEntries 41 = .ok (.if_icmp .ne 7, 3) := dc_160 (a := 0) (b := 7) (by decide +kernel) (by decide)
theorem dX4_listEntries_44 : decode cX4_listEntries 44 = .ok (.iconst 0, 1) := dc_3 (by decide +kernel)
theorem dX4_listEntries_45 : decode cX4_listEntries 45 = .ok (.goto 25, 3) := dc_167 (a := 0) (b := 25) (by decide +kernel) (by decide)
theorem dX4_listEntries_48 : decode cX4_listEntries 48 = .ok (.aload_n 0, 1) := dc_42 (by decide +kernel)
theorem dX4_listEntries_49 : decode cX4_listEntries 49 = .ok (.iload_n 3, 1) := dc_29 (by decide +kernel)
theorem dX4_listEntries_50 : decode cX4_listEntries 50 = .ok (.iload 4, 2) := dc_21 (a := 4) (by decide +kernel)
theorem dX4_listEntries_52 : decode cX4_listEntries 52 = .ok (.invokevirtual 134, 3) := dc_182 (a := 0) (b := 134) (by decide +kernel)
theorem dX4_listEntries_55 : decode cX4_listEntries 55 = .ok (.aload_n 1, 1) := dc_43 (by decide +kernel)
theorem dX4_listEntries_56 : decode cX4_listEntries 56 = .ok (.iload 5, 2) := dc_21 (a := 5) (by decide +kernel)
theorem dX4_listEntries_58 : decode cX4_listEntries 58 = .ok (.iaload, 1) := dc_46 (by decide +kernel)
theorem dX4_listEntries_59 : decode cX4_listEntries 59 = .ok (.aload_n 0, 1) := dc_42 (by decide +kernel)
theorem dX4_listEntries_60 : decode cX4_listEntries 60 = .ok (.iload_n 3, 1) := dc_29 (by decide +kernel)
theorem dX4_listEntries_61 : decode cX4_listEntries 61 = .ok (.iload 5, 2) := dc_21 (a := 5) (by decide +kernel)
theorem dX4_listEntries_63 : decode cX4_listEntries 63 = .ok (.invokevirtual 134, 3) := dc_182 (a := 0) (b := 134) (by decide +kernel)
theorem dX4_listEntries_66 : decode cX4_listEntries 66 = .ok (.isub, 1) := dc_100 (by decide +kernel)
theorem dX4_listEntries_67 : decode cX4_listEntries 67 = .ok (.invokestatic 137, 3) := dc_184 (a := 0) (b := 137) (by decide +kernel)
theorem dX4_listEntries_70 : decode cX4_listEntries 70 = .ok (.istore 6, 2) := dc_54 (a := 6) (by decide +kernel)
theorem dX4_listEntries_72 : decode cX4_listEntries 72 = .ok (.iconst 1, 1) := dc_4 (by decide +kernel)
theorem dX4_listEntries_73 : decode cX4_listEntries 73 = .ok (.istore 7, 2) := dc_54 (a := 7) (by decide +kernel)
theorem dX4_listEntries_75 : decode cX4_listEntries 75 = .ok (.iload 7, 2) := dc_21 (a := 7) (by decide +kernel)
theorem dX4_listEntries_77 : decode cX4_listEntries 77 = .ok (.iload 6, 2) := dc_21 (a := 6) (by decide +kernel)
theorem dX4_listEntries_79 : decode cX4_listEntries 79 = .ok (.if_icmp .gt 66, 3) := dc_163 (a := 0) (b := 66) (by decide +kernel) (by decide)
theorem dX4_listEntries_82 : decode cX4_listEntries 82 = .ok (.aload_n 0, 1) := dc_42 (by decide +kernel)
theorem dX4_listEntries_83 : decode cX4_listEntries 83 = .ok (.getfield 48, 3) := dc_180 (a := 0) (b := 48) (by decide +kernel)
theorem dX4_listEntries_86 : decode cX4_listEntries 86 = .ok (.iload_n 2, 1) := dc_28 (by decide +kernel)
theorem dX4_listEntries_87 : decode cX4_listEntries 87 = .ok (.bipush 64, 2) := dc_16 (a := 64) (by decide +kernel) (by decide)
theorem dX4_listEntries_89 : decode cX4_listEntries 89 = .ok (.iload 4, 2) := dc_21 (a := 4) (by decide +kernel)
theorem dX4_listEntries_91 : decode cX4_listEntries 91 = .ok (.imul, 1) := dc_104 (by decide +kernel)
theorem dX4_listEntries_92 : decode cX4_listEntries 92 = .ok (.bipush 16, 2) := dc_16 (a := 16) (by decide +kernel) (by decide)
theorem dX4_listEntries_94 : decode cX4_listEntries 94 = .ok (.iload 5, 2) := dc_21 (a := 5) (by decide +kernel)
theorem dX4_listEntries_96 : decode cX4_listEntries 96 = .ok (.imul, 1) := dc_104 (by decide +kernel)
theorem dX4_listEntries_97 : decode cX4_listEntries 97 = .ok (.iadd, 1) := dc_96 (by decide +kernel)
theorem dX4_listEntries_98 : decode cX4_listEntries 98 = .ok (.iload 7, 2) := dc_21 (a := 7) (by decide +kernel)
theorem dX4_listEntries_100 : decode cX4_listEntries 100 = .ok (.iadd, 1) := dc_96 (by decide +kernel)
theorem dX4_listEntries_101 : decode cX4_listEntries 101 = .ok (.iastore, 1) := dc_79 (by decide +kernel)
theorem dX4_listEntries_102 : decode cX4_listEntries 102 = .ok (.aload_n 0, 1) := dc_42 (by decide +kernel)
theorem dX4_listEntries_103 : decode cX4_listEntries 103 = .ok (.getfield 51, 3) := dc_180 (a := 0) (b := 51) (by decide +kernel)
theorem dX4_listEntries_106 : decode cX4_listEntries 106 = .ok (.iload_n 2, 1) := dc_28 (by decide +kernel)
theorem dX4_listEntries_107 : decode cX4_listEntries 107 = .ok (.aload_n 0, 1) := dc_42 (by decide +kernel)
theorem dX4_listEntries_108 : decode cX4_listEntries 108 = .ok (.iload_n 3, 1) := dc_29 (by decide +kernel)
theorem dX4_listEntries_109 : decode cX4_listEntries 109 = .ok (.iload 4, 2) := dc_21 (a := 4) (by decide +kernel)
theorem dX4_listEntries_111 : decode cX4_listEntries 111 = .ok (.iload 5, 2) := dc_21 (a := 5) (by decide +kernel)
theorem dX4_listEntries_113 : decode cX4_listEntries 113 = .ok (.iload 7, 2) := dc_21 (a := 7) (by decide +kernel)
theorem dX4_listEntries_115 : decode cX4_listEntries 115 = .ok (.invokevirtual 142, 3) := dc_182 (a := 0) (b := 142) (by decide +kernel)
theorem dX4_listEntries_118 : decode cX4_listEntries 118 = .ok (.iastore, 1) := dc_79 (by decide +kernel)
theorem dX4_listEntries_119 : decode cX4_listEntries 119 = .ok (.aload_n 0, 1) := dc_42 (by decide +kernel)
theorem dX4_listEntries_120 : decode cX4_listEntries 120 = .ok (.getfield 54, 3) := dc_180 (a := 0) (b := 54) (by decide +kernel)
theorem dX4_listEntries_123 : decode cX4_listEntries 123 = .ok (.iload_n 2, 1) := dc_28 (by decide +kernel)
theorem dX4_listEntries_124 : decode cX4_listEntries 124 = .ok (.aload_n 0, 1) := dc_42 (by decide +kernel)
theorem dX4_listEntries_125 : decode cX4_listEntries 125 = .ok (.iload_n 3, 1) := dc_29 (by decide +kernel)
theorem dX4_listEntries_126 : decode cX4_listEntries 126 = .ok (.iload 4, 2) := dc_21 (a := 4) (by decide +kernel)
theorem dX4_listEntries_128 : decode cX4_listEntries 128 = .ok (.iload 5, 2) := dc_21 (a := 5) (by decide +kernel)
theorem dX4_listEntries_130 : decode cX4_listEntries 130 = .ok (.iload 7, 2) := dc_21 (a := 7) (by decide +kernel)
theorem dX4_listEntries_132 : decode cX4_listEntries 132 = .ok (.invokevirtual 146, 3) := dc_182 (a := 0) (b := 146) (by decide +kernel)
theorem dX4_listEntries_135 : decode cX4_listEntries 135 = .ok (.iastore, 1) := dc_79 (by decide +kernel)
theorem dX4_listEntries_136 : decode cX4_listEntries 136 = .ok (.iinc 2 1, 3) := dc_132 (a := 2) (b := 1) (by decide +kernel) (by decide)
theorem dX4_listEntries_139 : decode cX4_listEntries 139 = .ok (.iinc 7 1, 3) := dc_132 (a := 7) (b := 1) (by decide +kernel) (by decide)
theorem dX4_listEntries_142 : decode cX4_listEntries 142 = .ok (.goto (-67), 3) := dc_167 (a := 255) (b := 189) (by decide +kernel) (by decide)
theorem dX4_listEntries_145 : decode cX4_listEntries 145 = .ok (.iinc 5 1, 3) := dc_132 (a := 5) (b := 1) (by decide +kernel) (by decide)
theorem dX4_listEntries_148 : decode cX4_listEntries 148 = .ok (.goto (-117), 3) := dc_167 (a := 255) (b := 139) (by decide +kernel) (by decide)
theorem dX4_listEntries_151 : decode cX4_listEntries 151 = .ok (.iinc 4 1, 3) := dc_132 (a := 4) (b := 1) (by decide +kernel) (by decide)
theorem dX4_listEntries_154 : decode cX4_listEntries 154 = .ok (.goto (-132), 3) := dc_167 (a := 255) (b := 124) (by decide +kernel) (by decide)
theorem dX4_listEntries_157 : decode cX4_listEntries 157 = .ok (.iinc 3 1, 3) := dc_132 (a := 3) (b := 1) (by decide +kernel) (by decide)
theorem dX4_listEntries_160 : decode cX4_listEntries 160 = .ok (.goto (-156), 3) := dc_167 (a := 255) (b := 100) (by decide +kernel) (by decide)
theorem dX4_listEntries_163 : decode cX4_listEntries 163 = .ok (.aload_n 0, 1) := dc_42 (by decide +kernel)
theorem dX4_listEntries_164 : decode cX4_listEntries 164 = .ok (.getfield 45, 3) := dc_180 (a := 0) (b := 45) (by decide +kernel)
theorem dX4_listEntries_167 : decode cX4_listEntries 167 = .ok (.aload_n 0, 1) := dc_42 (by decide +kernel)
theorem dX4_listEntries_168 : decode cX4_listEntries 168 = .ok (.getfield 36, 3) := dc_180 (a := 0) (b := 36) (by decide +kernel)
theorem dX4_listEntries_171 : decode cX4_listEntries 171 = .ok (.iload_n 2, 1) := dc_28 (by decide +kernel)
theorem dX4_listEntries_172 : decode cX4_listEntries 172 = .ok (.iastore, 1) := dc_79 (by decide +kernel)
theorem dX4_listEntries_173 : decode cX4_listEntries 173 = .ok (.return_, 1) := dc_177 (by decide +kernel)
set_option maxRecDepth 100000 in
set_option maxHeartbeats 4000000 in
theorem w_Potentials_listEntries_Plans_rooms_L75 {p : Program} {l : Launch} {e : Env} {R : Room} {s : State} {m : MethodId} {args : Array Value} {below : List Frame} {meth : Method} {c : Code} {dC : Nat → ClassId} {dI : Nat → Nat → Nat} {cs : Nat → ClassId} {ad : Nat → Nat} {A : Nat → Prop} {D0 : Nat → Nat} {S' : SS} (F : Fx p s m args meth c cX4_listEntries 8 RX4 none dC dI cs A) (hR1 : 2 ≤ R.frames) (hR2 : 50 ≤ R.locals) (K31 : Int32 → Int32 → Int32 → Int32 → SS → Option (SS)) (hK31 : ∀ (v0 : Int32) (v1 : Int32) (v2 : Int32) (v3 : Int32) (S : SS), K31 v0 v1 v2 v3 S = some S' → AW p l e R s m args below meth c dC dI cs ad A D0 none S' 8 31 [(0, .ref (ad 71)), (1, .ref (ad 106)), (2, .int v0), (3, .int v1), (4, .int v2), (5, .int v3)] [] S) : ∀ (n : Nat) (x2 : Int32) (x3 : Int32) (x4 : Int32) (x5 : Int32) (x6 : Int32) (x7 : Int32) (S : SS), f_Potentials_listEntries_Plans_rooms_L75 K31 n x2 x3 x4 x5 x6 x7 S = some S' → AW p l e R s m args below meth c dC dI cs ad A D0 none S' 8 75 [(0, .ref (ad 71)), (1, .ref (ad 106)), (2, .int x2), (3, .int x3), (4, .int x4), (5, .int x5), (6, .int x6), (7, .int x7)] [] S := by
  have hx := F.1.1
  have hb := F.1.2.1
  intro n
  induction n with
  | zero => intro x2 x3 x4 x5 x6 x7 S h; cases h
  | succ n ih =>
    intro x2 x3 x4 x5 x6 x7 S h H locs ls w hl
    rw [f_Potentials_listEntries_Plans_rooms_L75] at h
    refine lv_iload (pc := 75) hx hb dX4_listEntries_75 (lv_at hl 7 rfl) ?_
    refine lv_iload (pc := 77) hx hb dX4_listEntries_77 (lv_at hl 6 rfl) ?_
    refine lv_icmp_gt (pc := 79) (tgt := 145) hx hb dX4_listEntries_79 (by decide) (fun q => ?_) (fun q => ?_)
    · have h := ite_t q h
      refine s_nm h (fun z11 ez11 h => ?_)
      refine lv_iinc (pc := 145) (v := z11) (lv' := [(5, .int z11), (0, .ref (ad 71)), (1, .ref (ad 106)), (2, .int x2), (3, .int x3), (4, .int x4), (6, .int x6), (7, .int x7)]) hx hb dX4_listEntries_145 hl (k := 5) rfl (by rw [ez11]; rfl) (by decide) rfl (fun ls hl => ?_)
      refine lv_goto (pc := 148) (tgt := 31) hx hb dX4_listEntries_148 (by decide) ?_
      exact hK31 _ _ _ _ _ h _ _ _ w (lv_sub hl [1, 2, 3, 4, 5, 0] rfl)
    · have h := ite_f q h
      refine lv_aload_n (pc := 82) hx hb dX4_listEntries_82 rfl (lv_at hl 0 rfl) ?_
      refine s_getR (pc := 83) F w 117 ds_71 (j := 11) vc_X4 vi_X4 rfl (by decide) kf_X4_48 dX4_listEntries_83 ?_
      refine lv_iload_n (pc := 86) hx hb dX4_listEntries_86 rfl (lv_at hl 2 rfl) ?_
      refine lv_bipush (pc := 87) (v := 64) hx hb dX4_listEntries_87 (by decide) ?_
      refine lv_iload (pc := 89) hx hb dX4_listEntries_89 (lv_at hl 4 rfl) ?_
      refine lv_imul (pc := 91) hx hb dX4_listEntries_91 ?_
      refine lv_bipush (pc := 92) (v := 16) hx hb dX4_listEntries_92 (by decide) ?_
      refine lv_iload (pc := 94) hx hb dX4_listEntries_94 (lv_at hl 5 rfl) ?_
      refine lv_imul (pc := 96) hx hb dX4_listEntries_96 ?_
      refine lv_iadd (pc := 97) hx hb dX4_listEntries_97 ?_
      refine lv_iload (pc := 98) hx hb dX4_listEntries_98 (lv_at hl 7 rfl) ?_
      refine lv_iadd (pc := 100) hx hb dX4_listEntries_100 ?_
      refine s_iast (pc := 101) F w ds_117 h dX4_listEntries_101 (fun S12 H locs h w => ?_)
      refine lv_aload_n (pc := 102) hx hb dX4_listEntries_102 rfl (lv_at hl 0 rfl) ?_
      refine s_getR (pc := 103) F w 118 ds_71 (j := 12) vc_X4 vi_X4 rfl (by decide) kf_X4_51 dX4_listEntries_103 ?_
      refine lv_iload_n (pc := 106) hx hb dX4_listEntries_106 rfl (lv_at hl 2 rfl) ?_
      refine lv_aload_n (pc := 107) hx hb dX4_listEntries_107 rfl (lv_at hl 0 rfl) ?_
      refine lv_iload_n (pc := 108) hx hb dX4_listEntries_108 rfl (lv_at hl 3 rfl) ?_
      refine lv_iload (pc := 109) hx hb dX4_listEntries_109 (lv_at hl 4 rfl) ?_
      refine lv_iload (pc := 111) hx hb dX4_listEntries_111 (lv_at hl 5 rfl) ?_
      refine lv_iload (pc := 113) hx hb dX4_listEntries_113 (lv_at hl 7 rfl) ?_
      obtain ⟨r14, S13, hc, h⟩ := bnd_t h
      refine s_cvi (pc := 115) [.int x3, .int x4, .int x5, .int x7] (fun ad => [.ref (ad 71), .int x3, .int x4, .int x5, .int x7]) F w (m_Potentials_shapeAfter _ _ _ _ _ _ _ hc) rfl rfl hl.1 ds_71 vc_X4 rfl ok_X4_shapeAfter rfl kc_X4_shapeAfter kl_X4_142 ki_X4_shapeAfter kv_X4_shapeAfter kn_X4 ⟨Nat.le_trans (by decide) hR1, Nat.le_trans (by decide) hR2⟩ ⟨Nat.zero_le _, Nat.zero_le _⟩ (Nat.le_of_ble_eq_true rfl) dX4_listEntries_115 (fun H locs w => ?_)
      refine s_iast (pc := 118) F w ds_118 h dX4_listEntries_118 (fun S15 H locs h w => ?_)
      refine lv_aload_n (pc := 119) hx hb dX4_listEntries_119 rfl (lv_at hl 0 rfl) ?_
      refine s_getR (pc := 120) F w 119 ds_71 (j := 13) vc_X4 vi_X4 rfl (by decide) kf_X4_54 dX4_listEntries_120 ?_
      refine lv_iload_n (pc := 123) hx hb dX4_listEntries_123 rfl (lv_at hl 2 rfl) ?_
      refine lv_aload_n (pc := 124) hx hb dX4_listEntries_124 rfl (lv_at hl 0 rfl) ?_
      refine lv_iload_n (pc := 125) hx hb dX4_listEntries_125 rfl (lv_at hl 3 rfl) ?_
      refine lv_iload (pc := 126) hx hb dX4_listEntries_126 (lv_at hl 4 rfl) ?_
      refine lv_iload (pc := 128) hx hb dX4_listEntries_128 (lv_at hl 5 rfl) ?_
      refine lv_iload (pc := 130) hx hb dX4_listEntries_130 (lv_at hl 7 rfl) ?_
      obtain ⟨r17, S16, hc, h⟩ := bnd_t h
      refine s_cvi (pc := 132) [.int x3, .int x4, .int x5, .int x7] (fun ad => [.ref (ad 71), .int x3, .int x4, .int x5, .int x7]) F w (m_Potentials_swapBy _ _ _ _ _ _ _ hc) rfl rfl hl.1 ds_71 vc_X4 rfl ok_X4_swapBy rfl kc_X4_swapBy kl_X4_146 ki_X4_swapBy kv_X4_swapBy kn_X4 ⟨Nat.le_trans (by decide) hR1, Nat.le_trans (by decide) hR2⟩ ⟨Nat.zero_le _, Nat.zero_le _⟩ (Nat.le_of_ble_eq_true rfl) dX4_listEntries_132 (fun H locs w => ?_)
      refine s_iast (pc := 135) F w ds_119 h dX4_listEntries_135 (fun S18 H locs h w => ?_)
      refine s_nm h (fun z19 ez19 h => ?_)
      refine lv_iinc (pc := 136) (v := z19) (lv' := [(2, .int z19), (0, .ref (ad 71)), (1, .ref (ad 106)), (3, .int x3), (4, .int x4), (5, .int x5), (6, .int x6), (7, .int x7)]) hx hb dX4_listEntries_136 hl (k := 2) rfl (by rw [ez19]; rfl) (by decide) rfl (fun ls hl => ?_)
      refine s_nm h (fun z20 ez20 h => ?_)
      refine lv_iinc (pc := 139) (v := z20) (lv' := [(7, .int z20), (2, .int z19), (0, .ref (ad 71)), (1, .ref (ad 106)), (3, .int x3), (4, .int x4), (5, .int x5), (6, .int x6)]) hx hb dX4_listEntries_139 hl (k := 7) rfl (by rw [ez20]; rfl) (by decide) rfl (fun ls hl => ?_)
      refine lv_goto (pc := 142) (tgt := 75) hx hb dX4_listEntries_142 (by decide) ?_
      exact ih _ _ _ _ _ _ _ h _ _ _ w (lv_sub hl [2, 3, 1, 4, 5, 6, 7, 0] rfl)
set_option maxRecDepth 100000 in
set_option maxHeartbeats 4000000 in
theorem w_Potentials_listEntries_Plans_rooms_j70 {p : Program} {l : Launch} {e : Env} {R : Room} {s : State} {m : MethodId} {args : Array Value} {below : List Frame} {meth : Method} {c : Code} {dC : Nat → ClassId} {dI : Nat → Nat → Nat} {cs : Nat → ClassId} {ad : Nat → Nat} {A : Nat → Prop} {D0 : Nat → Nat} {S' : SS} (F : Fx p s m args meth c cX4_listEntries 8 RX4 none dC dI cs A) (hR1 : 2 ≤ R.frames) (hR2 : 50 ≤ R.locals) (K31 : Int32 → Int32 → Int32 → Int32 → SS → Option (SS)) (hK31 : ∀ (v0 : Int32) (v1 : Int32) (v2 : Int32) (v3 : Int32) (S : SS), K31 v0 v1 v2 v3 S = some S' → AW p l e R s m args below meth c dC dI cs ad A D0 none S' 8 31 [(0, .ref (ad 71)), (1, .ref (ad 106)), (2, .int v0), (3, .int v1), (4, .int v2), (5, .int v3)] [] S) (x2 : Int32) (x3 : Int32) (x4 : Int32) (x5 : Int32) (y0 : Int32) (S : SS) (h : f_Potentials_listEntries_Plans_rooms_j70 K31 x2 x3 x4 x5 y0 S = some S') : AW p l e R s m args below meth c dC dI cs ad A D0 none S' 8 70 [(0, .ref (ad 71)), (1, .ref (ad 106)), (2, .int x2), (3, .int x3), (4, .int x4), (5, .int x5)] [.int y0] S := by
  have hx := F.1.1
  have hb := F.1.2.1
  intro H locs ls w hl
  rw [f_Potentials_listEntries_Plans_rooms_j70] at h
  refine lv_istore (pc := 70) (lv' := [(6, .int y0), (0, .ref (ad 71)), (1, .ref (ad 106)), (2, .int x2), (3, .int x3), (4, .int x4), (5, .int x5)]) hx hb dX4_listEntries_70 hl (by decide) rfl (fun ls hl => ?_)
  refine lv_iconst (pc := 72) (v := 1) hx hb dX4_listEntries_72 (by decide) ?_
  refine lv_istore (pc := 73) (lv' := [(7, .int (1 : Int32)), (6, .int y0), (0, .ref (ad 71)), (1, .ref (ad 106)), (2, .int x2), (3, .int x3), (4, .int x4), (5, .int x5)]) hx hb dX4_listEntries_73 hl (by decide) rfl (fun ls hl => ?_)
  exact w_Potentials_listEntries_Plans_rooms_L75 F (Nat.le_trans (by decide) hR1) (Nat.le_trans (by decide) hR2) _ hK31 _ _ _ _ _ _ _ _ h _ _ _ w (lv_sub hl [2, 3, 4, 5, 6, 7, 1, 0] rfl)
set_option maxRecDepth 100000 in
set_option maxHeartbeats 4000000 in
theorem w_Potentials_listEntries_Plans_rooms_L31 {p : Program} {l : Launch} {e : Env} {R : Room} {s : State} {m : MethodId} {args : Array Value} {below : List Frame} {meth : Method} {c : Code} {dC : Nat → ClassId} {dI : Nat → Nat → Nat} {cs : Nat → ClassId} {ad : Nat → Nat} {A : Nat → Prop} {D0 : Nat → Nat} {S' : SS} (F : Fx p s m args meth c cX4_listEntries 8 RX4 none dC dI cs A) (hR1 : 2 ≤ R.frames) (hR2 : 50 ≤ R.locals) (K22 : Int32 → Int32 → Int32 → SS → Option (SS)) (hK22 : ∀ (v0 : Int32) (v1 : Int32) (v2 : Int32) (S : SS), K22 v0 v1 v2 S = some S' → AW p l e R s m args below meth c dC dI cs ad A D0 none S' 8 22 [(0, .ref (ad 71)), (1, .ref (ad 106)), (2, .int v0), (3, .int v1), (4, .int v2)] [] S) : ∀ (n : Nat) (x2 : Int32) (x3 : Int32) (x4 : Int32) (x5 : Int32) (S : SS), f_Potentials_listEntries_Plans_rooms_L31 K22 n x2 x3 x4 x5 S = some S' → AW p l e R s m args below meth c dC dI cs ad A D0 none S' 8 31 [(0, .ref (ad 71)), (1, .ref (ad 106)), (2, .int x2), (3, .int x3), (4, .int x4), (5, .int x5)] [] S := by
  have hx := F.1.1
  have hb := F.1.2.1
  intro n
  induction n with
  | zero => intro x2 x3 x4 x5 S h; cases h
  | succ n ih =>
    intro x2 x3 x4 x5 S h H locs ls w hl
    rw [f_Potentials_listEntries_Plans_rooms_L31] at h
    refine lv_iload (pc := 31) hx hb dX4_listEntries_31 (lv_at hl 5 rfl) ?_
    refine lv_iconst (pc := 33) (v := 4) hx hb dX4_listEntries_33 (by decide) ?_
    refine lv_icmp_ge (pc := 34) (tgt := 151) hx hb dX4_listEntries_34 (by decide) (fun q => ?_) (fun q => ?_)
    · have h := ite_t q h
      refine s_nm h (fun z4 ez4 h => ?_)
      refine lv_iinc (pc := 151) (v := z4) (lv' := [(4, .int z4), (0, .ref (ad 71)), (1, .ref (ad 106)), (2, .int x2), (3, .int x3), (5, .int x5)]) hx hb dX4_listEntries_151 hl (k := 4) rfl (by rw [ez4]; rfl) (by decide) rfl (fun ls hl => ?_)
      refine lv_goto (pc := 154) (tgt := 22) hx hb dX4_listEntries_154 (by decide) ?_
      exact hK22 _ _ _ _ h _ _ _ w (lv_sub hl [1, 2, 3, 4, 0] rfl)
    · have h := ite_f q h
      refine lv_iload (pc := 37) hx hb dX4_listEntries_37 (lv_at hl 4 rfl) ?_
      refine lv_iload (pc := 39) hx hb dX4_listEntries_39 (lv_at hl 5 rfl) ?_
      refine lv_icmp_ne (pc := 41) (tgt := 48) hx hb dX4_listEntries_41 (by decide) (fun q => ?_) (fun q => ?_)
      · have h := ite_f q h
        refine lv_aload_n (pc := 48) hx hb dX4_listEntries_48 rfl (lv_at hl 0 rfl) ?_
        refine lv_iload_n (pc := 49) hx hb dX4_listEntries_49 rfl (lv_at hl 3 rfl) ?_
        refine lv_iload (pc := 50) hx hb dX4_listEntries_50 (lv_at hl 4 rfl) ?_
        obtain ⟨r6, S5, hc, h⟩ := bnd_t h
        refine s_cvi (pc := 52) [.int x3, .int x4] (fun ad => [.ref (ad 71), .int x3, .int x4]) F w (m_Potentials_heightIn _ _ _ _ _ hc) rfl rfl hl.1 ds_71 vc_X4 rfl ok_X4_heightIn rfl kc_X4_heightIn kl_X4_134 ki_X4_heightIn kv_X4_heightIn kn_X4 ⟨Nat.le_trans (by decide) hR1, Nat.le_trans (by decide) hR2⟩ ⟨Nat.zero_le _, Nat.zero_le _⟩ (Nat.le_of_ble_eq_true rfl) dX4_listEntries_52 (fun H locs w => ?_)
        refine lv_aload_n (pc := 55) hx hb dX4_listEntries_55 rfl (lv_at hl 1 rfl) ?_
        refine lv_iload (pc := 56) hx hb dX4_listEntries_56 (lv_at hl 5 rfl) ?_
        refine s_iald (pc := 58) F w ds_106 h dX4_listEntries_58 (fun h => ?_)
        refine lv_aload_n (pc := 59) hx hb dX4_listEntries_59 rfl (lv_at hl 0 rfl) ?_
        refine lv_iload_n (pc := 60) hx hb dX4_listEntries_60 rfl (lv_at hl 3 rfl) ?_
        refine lv_iload (pc := 61) hx hb dX4_listEntries_61 (lv_at hl 5 rfl) ?_
        obtain ⟨r8, S7, hc, h⟩ := bnd_t h
        refine s_cvi (pc := 63) [.int x3, .int x5] (fun ad => [.ref (ad 71), .int x3, .int x5]) F w (m_Potentials_heightIn _ _ _ _ _ hc) rfl rfl hl.1 ds_71 vc_X4 rfl ok_X4_heightIn rfl kc_X4_heightIn kl_X4_134 ki_X4_heightIn kv_X4_heightIn kn_X4 ⟨Nat.le_trans (by decide) hR1, Nat.le_trans (by decide) hR2⟩ ⟨Nat.zero_le _, Nat.zero_le _⟩ (Nat.le_of_ble_eq_true rfl) dX4_listEntries_63 (fun H locs w => ?_)
        refine lv_isub (pc := 66) hx hb dX4_listEntries_66 ?_
        obtain ⟨r10, S9, hc, h⟩ := bnd_t h
        refine s_csi (pc := 67) [.int r6, .int ((S5.1 106 x5.toNatClampNeg) - r8)] (fun ad => [.int r6, .int ((S5.1 106 x5.toNatClampNeg) - r8)]) F w (m_Math_min_7cf53 _ _ _ _ _ hc) rfl rfl hl.1 ok_J9_min_7cf53 rfl kc_J9_min_7cf53 kl_X4_137 ks_J9_min_7cf53 kn_J9 ⟨Nat.le_trans (by decide) hR1, Nat.le_trans (by decide) hR2⟩ ⟨Nat.zero_le _, Nat.zero_le _⟩ (Nat.le_of_ble_eq_true rfl) dX4_listEntries_67 (fun H locs w => ?_)
        exact w_Potentials_listEntries_Plans_rooms_j70 F (Nat.le_trans (by decide) hR1) (Nat.le_trans (by decide) hR2) _ (fun v0 v1 v2 v3 S h => ih v0 v1 v2 v3 S h) _ _ _ _ _ _ h _ _ _ w (lv_sub hl [0, 1, 2, 3, 4, 5] rfl)
      · have h := ite_t q h
        refine lv_iconst (pc := 44) (v := 0) hx hb dX4_listEntries_44 (by decide) ?_
        refine lv_goto (pc := 45) (tgt := 70) hx hb dX4_listEntries_45 (by decide) ?_
        exact w_Potentials_listEntries_Plans_rooms_j70 F (Nat.le_trans (by decide) hR1) (Nat.le_trans (by decide) hR2) _ (fun v0 v1 v2 v3 S h => ih v0 v1 v2 v3 S h) _ _ _ _ _ _ h _ _ _ w (lv_sub hl [0, 1, 2, 3, 4, 5] rfl)
set_option maxRecDepth 100000 in
set_option maxHeartbeats 4000000 in
theorem w_Potentials_listEntries_Plans_rooms_L22 {p : Program} {l : Launch} {e : Env} {R : Room} {s : State} {m : MethodId} {args : Array Value} {below : List Frame} {meth : Method} {c : Code} {dC : Nat → ClassId} {dI : Nat → Nat → Nat} {cs : Nat → ClassId} {ad : Nat → Nat} {A : Nat → Prop} {D0 : Nat → Nat} {S' : SS} (F : Fx p s m args meth c cX4_listEntries 8 RX4 none dC dI cs A) (hR1 : 2 ≤ R.frames) (hR2 : 50 ≤ R.locals) (K4 : Int32 → Int32 → SS → Option (SS)) (hK4 : ∀ (v0 : Int32) (v1 : Int32) (S : SS), K4 v0 v1 S = some S' → AW p l e R s m args below meth c dC dI cs ad A D0 none S' 8 4 [(0, .ref (ad 71)), (1, .ref (ad 106)), (2, .int v0), (3, .int v1)] [] S) : ∀ (n : Nat) (x2 : Int32) (x3 : Int32) (x4 : Int32) (S : SS), f_Potentials_listEntries_Plans_rooms_L22 K4 n x2 x3 x4 S = some S' → AW p l e R s m args below meth c dC dI cs ad A D0 none S' 8 22 [(0, .ref (ad 71)), (1, .ref (ad 106)), (2, .int x2), (3, .int x3), (4, .int x4)] [] S := by
  have hx := F.1.1
  have hb := F.1.2.1
  intro n
  induction n with
  | zero => intro x2 x3 x4 S h; cases h
  | succ n ih =>
    intro x2 x3 x4 S h H locs ls w hl
    rw [f_Potentials_listEntries_Plans_rooms_L22] at h
    refine lv_iload (pc := 22) hx hb dX4_listEntries_22 (lv_at hl 4 rfl) ?_
    refine lv_iconst (pc := 24) (v := 4) hx hb dX4_listEntries_24 (by decide) ?_
    refine lv_icmp_ge (pc := 25) (tgt := 157) hx hb dX4_listEntries_25 (by decide) (fun q => ?_) (fun q => ?_)
    · have h := ite_t q h
      refine s_nm h (fun z3 ez3 h => ?_)
      refine lv_iinc (pc := 157) (v := z3) (lv' := [(3, .int z3), (0, .ref (ad 71)), (1, .ref (ad 106)), (2, .int x2), (4, .int x4)]) hx hb dX4_listEntries_157 hl (k := 3) rfl (by rw [ez3]; rfl) (by decide) rfl (fun ls hl => ?_)
      refine lv_goto (pc := 160) (tgt := 4) hx hb dX4_listEntries_160 (by decide) ?_
      exact hK4 _ _ _ h _ _ _ w (lv_sub hl [1, 2, 3, 0] rfl)
    · have h := ite_f q h
      refine lv_iconst (pc := 28) (v := 0) hx hb dX4_listEntries_28 (by decide) ?_
      refine lv_istore (pc := 29) (lv' := [(5, .int (0 : Int32)), (0, .ref (ad 71)), (1, .ref (ad 106)), (2, .int x2), (3, .int x3), (4, .int x4)]) hx hb dX4_listEntries_29 hl (by decide) rfl (fun ls hl => ?_)
      exact w_Potentials_listEntries_Plans_rooms_L31 F (Nat.le_trans (by decide) hR1) (Nat.le_trans (by decide) hR2) _ (fun v0 v1 v2 S h => ih v0 v1 v2 S h) _ _ _ _ _ _ h _ _ _ w (lv_sub hl [1, 2, 3, 4, 5, 0] rfl)
set_option maxRecDepth 100000 in
set_option maxHeartbeats 4000000 in
theorem w_Potentials_listEntries_Plans_rooms_L4 {p : Program} {l : Launch} {e : Env} {R : Room} {s : State} {m : MethodId} {args : Array Value} {below : List Frame} {meth : Method} {c : Code} {dC : Nat → ClassId} {dI : Nat → Nat → Nat} {cs : Nat → ClassId} {ad : Nat → Nat} {A : Nat → Prop} {D0 : Nat → Nat} {S' : SS} (F : Fx p s m args meth c cX4_listEntries 8 RX4 none dC dI cs A) (hR1 : 2 ≤ R.frames) (hR2 : 50 ≤ R.locals) : ∀ (n : Nat) (x2 : Int32) (x3 : Int32) (S : SS), f_Potentials_listEntries_Plans_rooms_L4 n x2 x3 S = some S' → AW p l e R s m args below meth c dC dI cs ad A D0 none S' 8 4 [(0, .ref (ad 71)), (1, .ref (ad 106)), (2, .int x2), (3, .int x3)] [] S := by
  have hx := F.1.1
  have hb := F.1.2.1
  intro n
  induction n with
  | zero => intro x2 x3 S h; cases h
  | succ n ih =>
    intro x2 x3 S h H locs ls w hl
    rw [f_Potentials_listEntries_Plans_rooms_L4] at h
    refine lv_iload_n (pc := 4) hx hb dX4_listEntries_4 rfl (lv_at hl 3 rfl) ?_
    refine lv_aload_n (pc := 5) hx hb dX4_listEntries_5 rfl (lv_at hl 0 rfl) ?_
    refine s_getI (pc := 6) F w ds_71 (j := 7) vc_X4 vi_X4 rfl (by decide) kf_X4_36 dX4_listEntries_6 ?_
    refine lv_icmp_ge (pc := 9) (tgt := 163) hx hb dX4_listEntries_9 (by decide) (fun q => ?_) (fun q => ?_)
    · have h := ite_t q h
      refine lv_aload_n (pc := 163) hx hb dX4_listEntries_163 rfl (lv_at hl 0 rfl) ?_
      refine s_getR (pc := 164) F w 116 ds_71 (j := 10) vc_X4 vi_X4 rfl (by decide) kf_X4_45 dX4_listEntries_164 ?_
      refine lv_aload_n (pc := 167) hx hb dX4_listEntries_167 rfl (lv_at hl 0 rfl) ?_
      refine s_getI (pc := 168) F w ds_71 (j := 7) vc_X4 vi_X4 rfl (by decide) kf_X4_36 dX4_listEntries_168 ?_
      refine lv_iload_n (pc := 171) hx hb dX4_listEntries_171 rfl (lv_at hl 2 rfl) ?_
      refine s_iast (pc := 172) F w ds_116 h dX4_listEntries_172 (fun S1 H locs h w => ?_)
      exact s_vret F w h dX4_listEntries_173
    · have h := ite_f q h
      refine lv_aload_n (pc := 12) hx hb dX4_listEntries_12 rfl (lv_at hl 0 rfl) ?_
      refine s_getR (pc := 13) F w 116 ds_71 (j := 10) vc_X4 vi_X4 rfl (by decide) kf_X4_45 dX4_listEntries_13 ?_
      refine lv_iload_n (pc := 16) hx hb dX4_listEntries_16 rfl (lv_at hl 3 rfl) ?_
      refine lv_iload_n (pc := 17) hx hb dX4_listEntries_17 rfl (lv_at hl 2 rfl) ?_
      refine s_iast (pc := 18) F w ds_116 h dX4_listEntries_18 (fun S2 H locs h w => ?_)
      refine lv_iconst (pc := 19) (v := 0) hx hb dX4_listEntries_19 (by decide) ?_
      refine lv_istore (pc := 20) (lv' := [(4, .int (0 : Int32)), (0, .ref (ad 71)), (1, .ref (ad 106)), (2, .int x2), (3, .int x3)]) hx hb dX4_listEntries_20 hl (by decide) rfl (fun ls hl => ?_)
      exact w_Potentials_listEntries_Plans_rooms_L22 F (Nat.le_trans (by decide) hR1) (Nat.le_trans (by decide) hR2) _ (fun v0 v1 S h => ih v0 v1 S h) _ _ _ _ _ h _ _ _ w (lv_sub hl [1, 2, 3, 4, 0] rfl)
set_option maxRecDepth 100000 in
set_option maxHeartbeats 4000000 in
theorem m_Potentials_listEntries_Plans_rooms  (S S' : SS) (h : f_Potentials_listEntries_Plans_rooms  S = some S') : MT yX4_listEntries cX4_listEntries 8 none 2 50 (fun ad => [.ref (ad 71), .ref (ad 106)]) S none S' := by
  refine MT.of RX4 (fun ad => [(0, .ref (ad 71)), (1, .ref (ad 106))]) (by decide) rfl (fun _ => Nat.le_of_ble_eq_true rfl) (fun _ => rfl) ?_
  intro p l e R s m args below meth c dC dI cs ad A hR1 hR2 F H locs ls w hl
  have hx := F.1.1
  have hb := F.1.2.1
  rw [f_Potentials_listEntries_Plans_rooms] at h
  refine lv_iconst (pc := 0) (v := 0) hx hb dX4_listEntries_0 (by decide) ?_
  refine lv_istore_n (pc := 1) (lv' := [(2, .int (0 : Int32)), (0, .ref (ad 71)), (1, .ref (ad 106))]) hx hb dX4_listEntries_1 rfl hl (by decide) rfl (fun ls hl => ?_)
  refine lv_iconst (pc := 2) (v := 0) hx hb dX4_listEntries_2 (by decide) ?_
  refine lv_istore_n (pc := 3) (lv' := [(3, .int (0 : Int32)), (2, .int (0 : Int32)), (0, .ref (ad 71)), (1, .ref (ad 106))]) hx hb dX4_listEntries_3 rfl hl (by decide) rfl (fun ls hl => ?_)
  exact w_Potentials_listEntries_Plans_rooms_L4 F (Nat.le_trans (by decide) hR1) (Nat.le_trans (by decide) hR2) _ _ _ _ h _ _ _ w (lv_sub hl [2, 3, 1, 0] rfl)
def f_Potentials_rankAfter_j62  (x2 : Int32) (y0 : Int32) (S : SS) : Option (Int32 × SS) :=
    grd (inb x2 (S.2 118)) (
    some ((y0 * (S.1 71 7)) + (S.1 118 x2.toNatClampNeg), S))
def f_Potentials_rankAfter (a1 : Int32) (a2 : Int32) (S : SS) : Option (Int32 × SS) :=
  bnd (f_Potentials_isRank a1 S) (fun r2 S1 =>
  if r2 = 0 then
    some ((-4 : Int32), S1)
  else
    if a2 < 0 then
      some ((-4 : Int32), S1)
    else
      if a2 < (Int32.ofNat (S1.2 117)) then
        grd (!(decide (S1.1 71 7 = 0))) (
        nm (a1 / (S1.1 71 7)) (fun z3 =>
        grd (inb a2 (S1.2 119)) (
        nm (S1.1 119 a2.toNatClampNeg) (fun z4 =>
        if z4 = (-4 : Int32) then
          f_Potentials_rankAfter_j62 a2 z3 S1
        else
          grd (inb (((20 : Int32) * z3) + z4) (S1.2 115)) (
          f_Potentials_rankAfter_j62 a2 (S1.1 115 (((20 : Int32) * z3) + z4).toNatClampNeg) S1)))))
      else
        some ((-4 : Int32), S1))
theorem dX4_rankAfter_0 : decode cX4_rankAfter 0 = .ok (.aload_n 0, 1) := dc_42 (by decide +kernel)
theorem dX4_rankAfter_1 : decode cX4_rankAfter 1 = .ok (.iload_n 1, 1) := dc_27 (by decide +kernel)
theorem dX4_rankAfter_2 : decode cX4_rankAfter 2 = .ok (.invokevirtual 63, 3) := dc_182 (a := 0) (b := 63) (by decide +kernel)
theorem dX4_rankAfter_5 : decode cX4_rankAfter 5 = .ok (.ifCond .eq 16, 3) := dc_153 (a := 0) (b := 16) (by decide +kernel) (by decide)
theorem dX4_rankAfter_8 : decode cX4_rankAfter 8 = .ok (.iload_n 2, 1) := dc_28 (by decide +kernel)
theorem dX4_rankAfter_9 : decode cX4_rankAfter 9 = .ok (.ifCond .lt 12, 3) := dc_155 (a := 0) (b := 12) (by decide +kernel) (by decide)
theorem dX4_rankAfter_12 : decode cX4_rankAfter 12 = .ok (.iload_n 2, 1) := dc_28 (by decide +kernel)
theorem dX4_rankAfter_13 : decode cX4_rankAfter 13 = .ok (.aload_n 0, 1) := dc_42 (by decide +kernel)
theorem dX4_rankAfter_14 : decode cX4_rankAfter 14 = .ok (.getfield 48, 3) := dc_180 (a := 0) (b := 48) (by decide +kernel)
theorem dX4_rankAfter_17 : decode cX4_rankAfter 17 = .ok (.arraylength, 1) := dc_190 (by decide +kernel)
theorem dX4_rankAfter_18 : decode cX4_rankAfter 18 = .ok (.if_icmp .lt 6, 3) := dc_161 (a := 0) (b := 6) (by decide +kernel) (by decide)
theorem dX4_rankAfter_21 : decode cX4_rankAfter 21 = .ok (.bipush (-4), 2) := dc_16 (a := 252) (by decide +kernel) (by decide)
theorem dX4_rankAfter_23 : decode cX4_rankAfter 23 = .ok (.ireturn, 1) := dc_172 (by decide +kernel)
theorem dX4_rankAfter_24 : decode cX4_rankAfter 24 = .ok (.iload_n 1, 1) := dc_27 (by decide +kernel)
theorem dX4_rankAfter_25 : decode cX4_rankAfter 25 = .ok (.aload_n 0, 1) := dc_42 (by decide +kernel)
theorem dX4_rankAfter_26 : decode cX4_rankAfter 26 = .ok (.getfield 36, 3) := dc_180 (a := 0) (b := 36) (by decide +kernel)
theorem dX4_rankAfter_29 : decode cX4_rankAfter 29 = .ok (.idiv, 1) := dc_108 (by decide +kernel)
theorem dX4_rankAfter_30 : decode cX4_rankAfter 30 = .ok (.istore_n 3, 1) := dc_62 (by decide +kernel)
theorem dX4_rankAfter_31 : decode cX4_rankAfter 31 = .ok (.aload_n 0, 1) := dc_42 (by decide +kernel)
theorem dX4_rankAfter_32 : decode cX4_rankAfter 32 = .ok (.getfield 54, 3) := dc_180 (a := 0) (b := 54) (by decide +kernel)
theorem dX4_rankAfter_35 : decode cX4_rankAfter 35 = .ok (.iload_n 2, 1) := dc_28 (by decide +kernel)
theorem dX4_rankAfter_36 : decode cX4_rankAfter 36 = .ok (.iaload, 1) := dc_46 (by decide +kernel)
theorem dX4_rankAfter_37 : decode cX4_rankAfter 37 = .ok (.istore 4, 2) := dc_54 (a := 4) (by decide +kernel)
theorem dX4_rankAfter_39 : decode cX4_rankAfter 39 = .ok (.iload 4, 2) := dc_21 (a := 4) (by decide +kernel)
theorem dX4_rankAfter_41 : decode cX4_rankAfter 41 = .ok (.bipush (-4), 2) := dc_16 (a := 252) (by decide +kernel) (by decide)
theorem dX4_rankAfter_43 : decode cX4_rankAfter 43 = .ok (.if_icmp .ne 7, 3) := dc_160 (a := 0) (b := 7) (by decide +kernel) (by decide)
theorem dX4_rankAfter_46 : decode cX4_rankAfter 46 = .ok (.iload_n 3, 1) := dc_29 (by decide +kernel)
theorem dX4_rankAfter_47 : decode cX4_rankAfter 47 = .ok (.goto 15, 3) := dc_167 (a := 0) (b := 15) (by decide +kernel) (by decide)
theorem dX4_rankAfter_50 : decode cX4_rankAfter 50 = .ok (.aload_n 0, 1) := dc_42 (by decide +kernel)
theorem dX4_rankAfter_51 : decode cX4_rankAfter 51 = .ok (.getfield 42, 3) := dc_180 (a := 0) (b := 42) (by decide +kernel)
theorem dX4_rankAfter_54 : decode cX4_rankAfter 54 = .ok (.bipush 20, 2) := dc_16 (a := 20) (by decide +kernel) (by decide)
theorem dX4_rankAfter_56 : decode cX4_rankAfter 56 = .ok (.iload_n 3, 1) := dc_29 (by decide +kernel)
theorem dX4_rankAfter_57 : decode cX4_rankAfter 57 = .ok (.imul, 1) := dc_104 (by decide +kernel)
theorem dX4_rankAfter_58 : decode cX4_rankAfter 58 = .ok (.iload 4, 2) := dc_21 (a := 4) (by decide +kernel)
theorem dX4_rankAfter_60 : decode cX4_rankAfter 60 = .ok (.iadd, 1) := dc_96 (by decide +kernel)
theorem dX4_rankAfter_61 : decode cX4_rankAfter 61 = .ok (.iaload, 1) := dc_46 (by decide +kernel)
theorem dX4_rankAfter_62 : decode cX4_rankAfter 62 = .ok (.aload_n 0, 1) := dc_42 (by decide +kernel)
theorem dX4_rankAfter_63 : decode cX4_rankAfter 63 = .ok (.getfield 36, 3) := dc_180 (a := 0) (b := 36) (by decide +kernel)
theorem dX4_rankAfter_66 : decode cX4_rankAfter 66 = .ok (.imul, 1) := dc_104 (by decide +kernel)
theorem dX4_rankAfter_67 : decode cX4_rankAfter 67 = .ok (.aload_n 0, 1) := dc_42 (by decide +kernel)
theorem dX4_rankAfter_68 : decode cX4_rankAfter 68 = .ok (.getfield 51, 3) := dc_180 (a := 0) (b := 51) (by decide +kernel)
theorem dX4_rankAfter_71 : decode cX4_rankAfter 71 = .ok (.iload_n 2, 1) := dc_28 (by decide +kernel)
theorem dX4_rankAfter_72 : decode cX4_rankAfter 72 = .ok (.iaload, 1) := dc_46 (by decide +kernel)
theorem dX4_rankAfter_73 : decode cX4_rankAfter 73 = .ok (.iadd, 1) := dc_96 (by decide +kernel)
theorem dX4_rankAfter_74 : decode cX4_rankAfter 74 = .ok (.ireturn, 1) := dc_172 (by decide +kernel)
set_option maxRecDepth 100000 in
set_option maxHeartbeats 4000000 in
theorem w_Potentials_rankAfter_j62 {p : Program} {l : Launch} {e : Env} {R : Room} {s : State} {m : MethodId} {args : Array Value} {below : List Frame} {meth : Method} {c : Code} {dC : Nat → ClassId} {dI : Nat → Nat → Nat} {cs : Nat → ClassId} {ad : Nat → Nat} {A : Nat → Prop} {D0 : Nat → Nat} {S' : SS} {r : Int32} (F : Fx p s m args meth c cX4_rankAfter 5 RX4 (some .int) dC dI cs A) (hR1 : 0 ≤ R.frames) (hR2 : 0 ≤ R.locals) (x2 : Int32) (y0 : Int32) (S : SS) (h : f_Potentials_rankAfter_j62 x2 y0 S = some (r, S')) : AW p l e R s m args below meth c dC dI cs ad A D0 (some (.int r)) S' 5 62 [(0, .ref (ad 71)), (2, .int x2)] [.int y0] S := by
  have hx := F.1.1
  have hb := F.1.2.1
  intro H locs ls w hl
  rw [f_Potentials_rankAfter_j62] at h
  refine lv_aload_n (pc := 62) hx hb dX4_rankAfter_62 rfl (lv_at hl 0 rfl) ?_
  refine s_getI (pc := 63) F w ds_71 (j := 7) vc_X4 vi_X4 rfl (by decide) kf_X4_36 dX4_rankAfter_63 ?_
  refine lv_imul (pc := 66) hx hb dX4_rankAfter_66 ?_
  refine lv_aload_n (pc := 67) hx hb dX4_rankAfter_67 rfl (lv_at hl 0 rfl) ?_
  refine s_getR (pc := 68) F w 118 ds_71 (j := 12) vc_X4 vi_X4 rfl (by decide) kf_X4_51 dX4_rankAfter_68 ?_
  refine lv_iload_n (pc := 71) hx hb dX4_rankAfter_71 rfl (lv_at hl 1 rfl) ?_
  refine s_iald (pc := 72) F w ds_118 h dX4_rankAfter_72 (fun h => ?_)
  refine lv_iadd (pc := 73) hx hb dX4_rankAfter_73 ?_
  exact s_iret F w h dX4_rankAfter_74
set_option maxRecDepth 100000 in
set_option maxHeartbeats 4000000 in
theorem m_Potentials_rankAfter (a1 : Int32) (a2 : Int32) (S S' : SS) (r : Int32) (h : f_Potentials_rankAfter a1 a2 S = some (r, S')) : MT yX4_rankAfter cX4_rankAfter 5 (some .int) 1 21 (fun ad => [.ref (ad 71), .int a1, .int a2]) S (some (.int r)) S' := by
  refine MT.of RX4 (fun ad => [(0, .ref (ad 71)), (1, .int a1), (2, .int a2)]) (by decide) rfl (fun _ => Nat.le_of_ble_eq_true rfl) (fun _ => rfl) ?_
  intro p l e R s m args below meth c dC dI cs ad A hR1 hR2 F H locs ls w hl
  have hx := F.1.1
  have hb := F.1.2.1
  rw [f_Potentials_rankAfter] at h
  refine lv_aload_n (pc := 0) hx hb dX4_rankAfter_0 rfl (lv_at hl 0 rfl) ?_
  refine lv_iload_n (pc := 1) hx hb dX4_rankAfter_1 rfl (lv_at hl 1 rfl) ?_
  obtain ⟨r2, S1, hc, h⟩ := bnd_t h
  refine s_cvi (pc := 2) [.int a1] (fun ad => [.ref (ad 71), .int a1]) F w (m_Potentials_isRank _ _ _ _ hc) rfl rfl hl.1 ds_71 vc_X4 rfl ok_X4_isRank rfl kc_X4_isRank kl_X4_63 ki_X4_isRank kv_X4_isRank kn_X4 ⟨Nat.le_trans (by decide) hR1, Nat.le_trans (by decide) hR2⟩ ⟨Nat.zero_le _, Nat.zero_le _⟩ (Nat.le_of_ble_eq_true rfl) dX4_rankAfter_2 (fun H locs w => ?_)
  refine lv_if_eq (pc := 5) (tgt := 21) hx hb dX4_rankAfter_5 (by decide) (fun q => ?_) (fun q => ?_)
  · have h := ite_t q h
    refine lv_bipush (pc := 21) (v := -4) hx hb dX4_rankAfter_21 (by decide) ?_
    exact s_iret F w h dX4_rankAfter_23
  · have h := ite_f q h
    refine lv_iload_n (pc := 8) hx hb dX4_rankAfter_8 rfl (lv_at hl 2 rfl) ?_
    refine lv_if_lt (pc := 9) (tgt := 21) hx hb dX4_rankAfter_9 (by decide) (fun q => ?_) (fun q => ?_)
    · have h := ite_t q h
      refine lv_bipush (pc := 21) (v := -4) hx hb dX4_rankAfter_21 (by decide) ?_
      exact s_iret F w h dX4_rankAfter_23
    · have h := ite_f q h
      refine lv_iload_n (pc := 12) hx hb dX4_rankAfter_12 rfl (lv_at hl 2 rfl) ?_
      refine lv_aload_n (pc := 13) hx hb dX4_rankAfter_13 rfl (lv_at hl 0 rfl) ?_
      refine s_getR (pc := 14) F w 117 ds_71 (j := 11) vc_X4 vi_X4 rfl (by decide) kf_X4_48 dX4_rankAfter_14 ?_
      refine s_alen (pc := 17) F w ds_117 dX4_rankAfter_17 ?_
      show W _ _ _ _ _ _ _ _ _ _ _ _ _ _ _ (F0 _ _ _ (.int (Int32.ofNat (S1.2 117)) :: _))
      refine lv_icmp_lt (pc := 18) (tgt := 24) hx hb dX4_rankAfter_18 (by decide) (fun q => ?_) (fun q => ?_)
      · have h := ite_t q h
        refine lv_iload_n (pc := 24) hx hb dX4_rankAfter_24 rfl (lv_at hl 1 rfl) ?_
        refine lv_aload_n (pc := 25) hx hb dX4_rankAfter_25 rfl (lv_at hl 0 rfl) ?_
        refine s_getI (pc := 26) F w ds_71 (j := 7) vc_X4 vi_X4 rfl (by decide) kf_X4_36 dX4_rankAfter_26 ?_
        obtain ⟨hd, h⟩ := grd_t h
        refine lv_idiv (pc := 29) hx hb dX4_rankAfter_29 (by simpa using hd) ?_
        refine s_nm h (fun z3 ez3 h => ?_)
        rw [← ez3]
        refine lv_istore_n (pc := 30) (lv' := [(3, .int z3), (0, .ref (ad 71)), (1, .int a1), (2, .int a2)]) hx hb dX4_rankAfter_30 rfl hl (by decide) rfl (fun ls hl => ?_)
        refine lv_aload_n (pc := 31) hx hb dX4_rankAfter_31 rfl (lv_at hl 1 rfl) ?_
        refine s_getR (pc := 32) F w 119 ds_71 (j := 13) vc_X4 vi_X4 rfl (by decide) kf_X4_54 dX4_rankAfter_32 ?_
        refine lv_iload_n (pc := 35) hx hb dX4_rankAfter_35 rfl (lv_at hl 3 rfl) ?_
        refine s_iald (pc := 36) F w ds_119 h dX4_rankAfter_36 (fun h => ?_)
        refine s_nm h (fun z4 ez4 h => ?_)
        rw [← ez4]
        refine lv_istore (pc := 37) (lv' := [(4, .int z4), (3, .int z3), (0, .ref (ad 71)), (1, .int a1), (2, .int a2)]) hx hb dX4_rankAfter_37 hl (by decide) rfl (fun ls hl => ?_)
        refine lv_iload (pc := 39) hx hb dX4_rankAfter_39 (lv_at hl 0 rfl) ?_
        refine lv_bipush (pc := 41) (v := -4) hx hb dX4_rankAfter_41 (by decide) ?_
        refine lv_icmp_ne (pc := 43) (tgt := 50) hx hb dX4_rankAfter_43 (by decide) (fun q => ?_) (fun q => ?_)
        · have h := ite_f q h
          refine lv_aload_n (pc := 50) hx hb dX4_rankAfter_50 rfl (lv_at hl 2 rfl) ?_
          refine s_getR (pc := 51) F w 115 ds_71 (j := 9) vc_X4 vi_X4 rfl (by decide) kf_X4_42 dX4_rankAfter_51 ?_
          refine lv_bipush (pc := 54) (v := 20) hx hb dX4_rankAfter_54 (by decide) ?_
          refine lv_iload_n (pc := 56) hx hb dX4_rankAfter_56 rfl (lv_at hl 1 rfl) ?_
          refine lv_imul (pc := 57) hx hb dX4_rankAfter_57 ?_
          refine lv_iload (pc := 58) hx hb dX4_rankAfter_58 (lv_at hl 0 rfl) ?_
          refine lv_iadd (pc := 60) hx hb dX4_rankAfter_60 ?_
          refine s_iald (pc := 61) F w ds_115 h dX4_rankAfter_61 (fun h => ?_)
          exact w_Potentials_rankAfter_j62 F (Nat.le_trans (by decide) hR1) (Nat.le_trans (by decide) hR2) _ _ _ h _ _ _ w (lv_sub hl [2, 4] rfl)
        · have h := ite_t q h
          refine lv_iload_n (pc := 46) hx hb dX4_rankAfter_46 rfl (lv_at hl 1 rfl) ?_
          refine lv_goto (pc := 47) (tgt := 62) hx hb dX4_rankAfter_47 (by decide) ?_
          exact w_Potentials_rankAfter_j62 F (Nat.le_trans (by decide) hR1) (Nat.le_trans (by decide) hR2) _ _ _ h _ _ _ w (lv_sub hl [2, 4] rfl)
      · have h := ite_f q h
        refine lv_bipush (pc := 21) (v := -4) hx hb dX4_rankAfter_21 (by decide) ?_
        exact s_iret F w h dX4_rankAfter_23
def f_Potentials_isProved_L14  : Nat → Int32 → Int32 → Int32 → SS → Option (Int32 × SS)
  | 0, _, _, _, _ => none
  | n + 1, x1, x2, x3, S =>
    grd (inb (x2 + (1 : Int32)) (S.2 116)) (
    if (S.1 116 (x2 + (1 : Int32)).toNatClampNeg) ≤ x3 then
      some ((1 : Int32), S)
    else
      bnd (f_Potentials_rankAfter x1 x3 S) (fun r4 S3 =>
      bnd (f_Potentials_of r4 S3) (fun r6 S5 =>
      if r6 = (-4 : Int32) then
        some ((0 : Int32), S5)
      else
        grd (inb x1 (S5.2 120)) (
        if ((S5.1 120 x1.toNatClampNeg) - (1 : Int32)) ≤ r6 then
          nm (x3 + (1 : Int32)) (fun z7 =>
          f_Potentials_isProved_L14 n x1 x2 z7 S5)
        else
          some ((0 : Int32), S5)))))
def f_Potentials_isProved (a1 : Int32) (S : SS) : Option (Int32 × SS) :=
  grd (!(decide (S.1 71 7 = 0))) (
  nm (a1 - a1 / (S.1 71 7) * (S.1 71 7)) (fun z1 =>
  grd (inb z1 (S.2 116)) (
  nm (S.1 116 z1.toNatClampNeg) (fun z2 =>
  f_Potentials_isProved_L14 NF a1 z1 z2 S))))
theorem dX4_isProved_0 : decode cX4_isProved 0 = .ok (.iload_n 1, 1) := dc_27 (by decide +kernel)
theorem dX4_isProved_1 : decode cX4_isProved 1 = .ok (.aload_n 0, 1) := dc_42 (by decide +kernel)
theorem dX4_isProved_2 : decode cX4_isProved 2 = .ok (.getfield 36, 3) := dc_180 (a := 0) (b := 36) (by decide +kernel)
theorem dX4_isProved_5 : decode cX4_isProved 5 = .ok (.irem, 1) := dc_112 (by decide +kernel)
theorem dX4_isProved_6 : decode cX4_isProved 6 = .ok (.istore_n 2, 1) := dc_61 (by decide +kernel)
theorem dX4_isProved_7 : decode cX4_isProved 7 = .ok (.aload_n 0, 1) := dc_42 (by decide +kernel)
theorem dX4_isProved_8 : decode cX4_isProved 8 = .ok (.getfield 45, 3) := dc_180 (a := 0) (b := 45) (by decide +kernel)
theorem dX4_isProved_11 : decode cX4_isProved 11 = .ok (.iload_n 2, 1) := dc_28 (by decide +kernel)
theorem dX4_isProved_12 : decode cX4_isProved 12 = .ok (.iaload, 1) := dc_46 (by decide +kernel)
theorem dX4_isProved_13 : decode cX4_isProved 13 = .ok (.istore_n 3, 1) := dc_62 (by decide +kernel)
theorem dX4_isProved_14 : decode cX4_isProved 14 = .ok (.iload_n 3, 1) := dc_29 (by decide +kernel)
theorem dX4_isProved_15 : decode cX4_isProved 15 = .ok (.aload_n 0, 1) := dc_42 (by decide +kernel)
theorem dX4_isProved_16 : decode cX4_isProved 16 = .ok (.getfield 45, 3) := dc_180 (a := 0) (b := 45) (by decide +kernel)
theorem dX4_isProved_19 : decode cX4_isProved 19 = .ok (.iload_n 2, 1) := dc_28 (by decide +kernel)
theorem dX4_isProved_20 : decode cX4_isProved 20 = .ok (.iconst 1, 1) := dc_4 (by decide +kernel)
theorem dX4_isProved_21 : decode cX4_isProved 21 = .ok (.iadd, 1) := dc_96 (by decide +kernel)
theorem dX4_isProved_22 : decode cX4_isProved 22 = .ok (.iaload, 1) := dc_46 (by decide +kernel)
theorem dX4_isProved_23 : decode cX4_isProved 23 = .ok (.if_icmp .ge 43, 3) := dc_162 (a := 0) (b := 43) (by decide +kernel) (by decide)
theorem dX4_isProved_26 : decode cX4_isProved 26 = .ok (.aload_n 0, 1) := dc_42 (by decide +kernel)
theorem dX4_isProved_27 : decode cX4_isProved 27 = .ok (.aload_n 0, 1) := dc_42 (by decide +kernel)
theorem dX4_isProved_28 : decode cX4_isProved 28 = .ok (.iload_n 1, 1) := dc_27 (by decide +kernel)
theorem dX4_isProved_29 : decode cX4_isProved 29 = .ok (.iload_n 3, 1) := dc_29 (by decide +kernel)
theorem dX4_isProved_30 : decode cX4_isProved 30 = .ok (.invokevirtual 116, 3) := dc_182 (a := 0) (b := 116) (by decide +kernel)
theorem dX4_isProved_33 : decode cX4_isProved 33 = .ok (.invokevirtual 152, 3) := dc_182 (a := 0) (b := 152) (by decide +kernel)
theorem dX4_isProved_36 : decode cX4_isProved 36 = .ok (.istore 4, 2) := dc_54 (a := 4) (by decide +kernel)
theorem dX4_isProved_38 : decode cX4_isProved 38 = .ok (.iload 4, 2) := dc_21 (a := 4) (by decide +kernel)
theorem dX4_isProved_40 : decode cX4_isProved 40 = .ok (.bipush (-4), 2) := dc_16 (a := 252) (by decide +kernel) (by decide)
theorem dX4_isProved_42 : decode cX4_isProved 42 = .ok (.if_icmp .eq 16, 3) := dc_159 (a := 0) (b := 16) (by decide +kernel) (by decide)
theorem dX4_isProved_45 : decode cX4_isProved 45 = .ok (.iload 4, 2) := dc_21 (a := 4) (by decide +kernel)
theorem dX4_isProved_47 : decode cX4_isProved 47 = .ok (.aload_n 0, 1) := dc_42 (by decide +kernel)
theorem dX4_isProved_48 : decode cX4_isProved 48 = .ok (.getfield 57, 3) := dc_180 (a := 0) (b := 57) (by decide +kernel)
theorem dX4_isProved_51 : decode cX4_isProved 51 = .ok (.iload_n 1, 1) := dc_27 (by decide +kernel)
theorem dX4_isProved_52 : decode cX4_isProved 52 = .ok (.iaload, 1) := dc_46 (by decide +kernel)
theorem dX4_isProved_53 : decode cX4_isProved 53 = .ok (.iconst 1, 1) := dc_4 (by decide +kernel)
theorem dX4_isProved_54 : decode cX4_isProved 54 = .ok (.isub, 1) := dc_100 (by decide +kernel)
theorem dX4_isProved_55 : decode cX4_isProved 55 = .ok (.if_icmp .ge 5, 3) := dc_162 (a := 0) (b := 5) (by decide +kernel) (by decide)
theorem dX4_isProved_58 : decode cX4_isProved 58 = .ok (.iconst 0, 1) := dc_3 (by decide +kernel)
theorem dX4_isProved_59 : decode cX4_isProved 59 = .ok (.ireturn, 1) := dc_172 (by decide +kernel)
theorem dX4_isProved_60 : decode cX4_isProved 60 = .ok (.iinc 3 1, 3) := dc_132 (a := 3) (b := 1) (by decide +kernel) (by decide)
theorem dX4_isProved_63 : decode cX4_isProved 63 = .ok (.goto (-49), 3) := dc_167 (a := 255) (b := 207) (by decide +kernel) (by decide)
theorem dX4_isProved_66 : decode cX4_isProved 66 = .ok (.iconst 1, 1) := dc_4 (by decide +kernel)
theorem dX4_isProved_67 : decode cX4_isProved 67 = .ok (.ireturn, 1) := dc_172 (by decide +kernel)
set_option maxRecDepth 100000 in
set_option maxHeartbeats 4000000 in
theorem w_Potentials_isProved_L14 {p : Program} {l : Launch} {e : Env} {R : Room} {s : State} {m : MethodId} {args : Array Value} {below : List Frame} {meth : Method} {c : Code} {dC : Nat → ClassId} {dI : Nat → Nat → Nat} {cs : Nat → ClassId} {ad : Nat → Nat} {A : Nat → Prop} {D0 : Nat → Nat} {S' : SS} {r : Int32} (F : Fx p s m args meth c cX4_isProved 5 RX4 (some .boolean) dC dI cs A) (hR1 : 2 ≤ R.frames) (hR2 : 45 ≤ R.locals) : ∀ (n : Nat) (x1 : Int32) (x2 : Int32) (x3 : Int32) (S : SS), f_Potentials_isProved_L14 n x1 x2 x3 S = some (r, S') → AW p l e R s m args below meth c dC dI cs ad A D0 (some (.int r)) S' 5 14 [(0, .ref (ad 71)), (1, .int x1), (2, .int x2), (3, .int x3)] [] S := by
  have hx := F.1.1
  have hb := F.1.2.1
  intro n
  induction n with
  | zero => intro x1 x2 x3 S h; cases h
  | succ n ih =>
    intro x1 x2 x3 S h H locs ls w hl
    rw [f_Potentials_isProved_L14] at h
    refine lv_iload_n (pc := 14) hx hb dX4_isProved_14 rfl (lv_at hl 3 rfl) ?_
    refine lv_aload_n (pc := 15) hx hb dX4_isProved_15 rfl (lv_at hl 0 rfl) ?_
    refine s_getR (pc := 16) F w 116 ds_71 (j := 10) vc_X4 vi_X4 rfl (by decide) kf_X4_45 dX4_isProved_16 ?_
    refine lv_iload_n (pc := 19) hx hb dX4_isProved_19 rfl (lv_at hl 2 rfl) ?_
    refine lv_iconst (pc := 20) (v := 1) hx hb dX4_isProved_20 (by decide) ?_
    refine lv_iadd (pc := 21) hx hb dX4_isProved_21 ?_
    refine s_iald (pc := 22) F w ds_116 h dX4_isProved_22 (fun h => ?_)
    refine lv_icmp_ge (pc := 23) (tgt := 66) hx hb dX4_isProved_23 (by decide) (fun q => ?_) (fun q => ?_)
    · have h := ite_t q h
      refine lv_iconst (pc := 66) (v := 1) hx hb dX4_isProved_66 (by decide) ?_
      exact s_zretc F w rfl h dX4_isProved_67
    · have h := ite_f q h
      refine lv_aload_n (pc := 26) hx hb dX4_isProved_26 rfl (lv_at hl 0 rfl) ?_
      refine lv_aload_n (pc := 27) hx hb dX4_isProved_27 rfl (lv_at hl 0 rfl) ?_
      refine lv_iload_n (pc := 28) hx hb dX4_isProved_28 rfl (lv_at hl 1 rfl) ?_
      refine lv_iload_n (pc := 29) hx hb dX4_isProved_29 rfl (lv_at hl 3 rfl) ?_
      obtain ⟨r4, S3, hc, h⟩ := bnd_t h
      refine s_cvi (pc := 30) [.int x1, .int x3] (fun ad => [.ref (ad 71), .int x1, .int x3]) F w (m_Potentials_rankAfter _ _ _ _ _ hc) rfl rfl hl.1 ds_71 vc_X4 rfl ok_X4_rankAfter rfl kc_X4_rankAfter kl_X4_116 ki_X4_rankAfter kv_X4_rankAfter kn_X4 ⟨Nat.le_trans (by decide) hR1, Nat.le_trans (by decide) hR2⟩ ⟨Nat.zero_le _, Nat.zero_le _⟩ (Nat.le_of_ble_eq_true rfl) dX4_isProved_30 (fun H locs w => ?_)
      obtain ⟨r6, S5, hc, h⟩ := bnd_t h
      refine s_cvi (pc := 33) [.int r4] (fun ad => [.ref (ad 71), .int r4]) F w (m_Potentials_of _ _ _ _ hc) rfl rfl hl.1 ds_71 vc_X4 rfl ok_X4_of rfl kc_X4_of kl_X4_152 ki_X4_of kv_X4_of kn_X4 ⟨Nat.le_trans (by decide) hR1, Nat.le_trans (by decide) hR2⟩ ⟨Nat.zero_le _, Nat.zero_le _⟩ (Nat.le_of_ble_eq_true rfl) dX4_isProved_33 (fun H locs w => ?_)
      refine lv_istore (pc := 36) (lv' := [(4, .int r6), (0, .ref (ad 71)), (1, .int x1), (2, .int x2), (3, .int x3)]) hx hb dX4_isProved_36 hl (by decide) rfl (fun ls hl => ?_)
      refine lv_iload (pc := 38) hx hb dX4_isProved_38 (lv_at hl 0 rfl) ?_
      refine lv_bipush (pc := 40) (v := -4) hx hb dX4_isProved_40 (by decide) ?_
      refine lv_icmp_eq (pc := 42) (tgt := 58) hx hb dX4_isProved_42 (by decide) (fun q => ?_) (fun q => ?_)
      · have h := ite_t q h
        refine lv_iconst (pc := 58) (v := 0) hx hb dX4_isProved_58 (by decide) ?_
        exact s_zretc F w rfl h dX4_isProved_59
      · have h := ite_f q h
        refine lv_iload (pc := 45) hx hb dX4_isProved_45 (lv_at hl 0 rfl) ?_
        refine lv_aload_n (pc := 47) hx hb dX4_isProved_47 rfl (lv_at hl 1 rfl) ?_
        refine s_getR (pc := 48) F w 120 ds_71 (j := 14) vc_X4 vi_X4 rfl (by decide) kf_X4_57 dX4_isProved_48 ?_
        refine lv_iload_n (pc := 51) hx hb dX4_isProved_51 rfl (lv_at hl 2 rfl) ?_
        refine s_iald (pc := 52) F w ds_120 h dX4_isProved_52 (fun h => ?_)
        refine lv_iconst (pc := 53) (v := 1) hx hb dX4_isProved_53 (by decide) ?_
        refine lv_isub (pc := 54) hx hb dX4_isProved_54 ?_
        refine lv_icmp_ge (pc := 55) (tgt := 60) hx hb dX4_isProved_55 (by decide) (fun q => ?_) (fun q => ?_)
        · have h := ite_t q h
          refine s_nm h (fun z7 ez7 h => ?_)
          refine lv_iinc (pc := 60) (v := z7) (lv' := [(3, .int z7), (4, .int r6), (0, .ref (ad 71)), (1, .int x1), (2, .int x2)]) hx hb dX4_isProved_60 hl (k := 4) rfl (by rw [ez7]; rfl) (by decide) rfl (fun ls hl => ?_)
          refine lv_goto (pc := 63) (tgt := 14) hx hb dX4_isProved_63 (by decide) ?_
          exact ih _ _ _ _ h _ _ _ w (lv_sub hl [2, 3, 4, 0] rfl)
        · have h := ite_f q h
          refine lv_iconst (pc := 58) (v := 0) hx hb dX4_isProved_58 (by decide) ?_
          exact s_zretc F w rfl h dX4_isProved_59
set_option maxRecDepth 100000 in
set_option maxHeartbeats 4000000 in
theorem m_Potentials_isProved (a1 : Int32) (S S' : SS) (r : Int32) (h : f_Potentials_isProved a1 S = some (r, S')) : MT yX4_isProved cX4_isProved 5 (some .boolean) 2 45 (fun ad => [.ref (ad 71), .int a1]) S (some (.int r)) S' := by
  refine MT.of RX4 (fun ad => [(0, .ref (ad 71)), (1, .int a1)]) (by decide) rfl (fun _ => Nat.le_of_ble_eq_true rfl) (fun _ => rfl) ?_
  intro p l e R s m args below meth c dC dI cs ad A hR1 hR2 F H locs ls w hl
  have hx := F.1.1
  have hb := F.1.2.1
  rw [f_Potentials_isProved] at h
  refine lv_iload_n (pc := 0) hx hb dX4_isProved_0 rfl (lv_at hl 1 rfl) ?_
  refine lv_aload_n (pc := 1) hx hb dX4_isProved_1 rfl (lv_at hl 0 rfl) ?_
  refine s_getI (pc := 2) F w ds_71 (j := 7) vc_X4 vi_X4 rfl (by decide) kf_X4_36 dX4_isProved_2 ?_
  obtain ⟨hd, h⟩ := grd_t h
  refine lv_irem (pc := 5) hx hb dX4_isProved_5 (by simpa using hd) ?_
  refine s_nm h (fun z1 ez1 h => ?_)
  rw [← ez1]
  refine lv_istore_n (pc := 6) (lv' := [(2, .int z1), (0, .ref (ad 71)), (1, .int a1)]) hx hb dX4_isProved_6 rfl hl (by decide) rfl (fun ls hl => ?_)
  refine lv_aload_n (pc := 7) hx hb dX4_isProved_7 rfl (lv_at hl 1 rfl) ?_
  refine s_getR (pc := 8) F w 116 ds_71 (j := 10) vc_X4 vi_X4 rfl (by decide) kf_X4_45 dX4_isProved_8 ?_
  refine lv_iload_n (pc := 11) hx hb dX4_isProved_11 rfl (lv_at hl 0 rfl) ?_
  refine s_iald (pc := 12) F w ds_116 h dX4_isProved_12 (fun h => ?_)
  refine s_nm h (fun z2 ez2 h => ?_)
  rw [← ez2]
  refine lv_istore_n (pc := 13) (lv' := [(3, .int z2), (2, .int z1), (0, .ref (ad 71)), (1, .int a1)]) hx hb dX4_isProved_13 rfl hl (by decide) rfl (fun ls hl => ?_)
  exact w_Potentials_isProved_L14 F (Nat.le_trans (by decide) hR1) (Nat.le_trans (by decide) hR2) _ _ _ _ _ h _ _ _ w (lv_sub hl [2, 3, 1, 0] rfl)
def f_Potentials_prove_Plans_rooms_j41 (K7 : Int32 → SS → Option (Int32 × SS)) (x2 : Int32) (S : SS) : Option (Int32 × SS) :=
    nm (x2 + (1 : Int32)) (fun z2 =>
    K7 z2 S)
def f_Potentials_prove_Plans_rooms_L7  : Nat → Int32 → SS → Option (Int32 × SS)
  | 0, _, _ => none
  | n + 1, x2, S =>
    if ((S.1 71 6) * (S.1 71 7)) ≤ x2 then
      some ((1 : Int32), S)
    else
      grd (inb x2 (S.2 120)) (
      if (S.1 120 x2.toNatClampNeg) = (-4 : Int32) then
        f_Potentials_prove_Plans_rooms_j41 (fun v0 S => f_Potentials_prove_Plans_rooms_L7 n v0 S) x2 S
      else
        bnd (f_Potentials_isProved x2 S) (fun r4 S3 =>
        if r4 = 0 then
          some ((0 : Int32), S3)
        else
          f_Potentials_prove_Plans_rooms_j41 (fun v0 S => f_Potentials_prove_Plans_rooms_L7 n v0 S) x2 S3))
def f_Potentials_prove_Plans_rooms  (S : SS) : Option (Int32 × SS) :=
  bndv (f_Potentials_listEntries_Plans_rooms  S) (fun S1 =>
  f_Potentials_prove_Plans_rooms_L7 NF (0 : Int32) S1)
theorem dX4_prove_0 : decode cX4_prove 0 = .ok (.aload_n 0, 1) := dc_42 (by decide +kernel)
theorem dX4_prove_1 : decode cX4_prove 1 = .ok (.aload_n 1, 1) := dc_43 (by decide +kernel)
theorem dX4_prove_2 : decode cX4_prove 2 = .ok (.invokevirtual 102, 3) := dc_182 (a := 0) (b := 102) (by decide +kernel)
theorem dX4_prove_5 : decode cX4_prove 5 = .ok (.iconst 0, 1) := dc_3 (by decide +kernel)
theorem dX4_prove_6 : decode cX4_prove 6 = .ok (.istore_n 2, 1) := dc_61 (by decide +kernel)
theorem dX4_prove_7 : decode cX4_prove 7 = .ok (.iload_n 2, 1) := dc_28 (by decide +kernel)
theorem dX4_prove_8 : decode cX4_prove 8 = .ok (.aload_n 0, 1) := dc_42 (by decide +kernel)
theorem dX4_prove_9 : decode cX4_prove 9 = .ok (.getfield 33, 3) := dc_180 (a := 0) (b := 33) (by decide +kernel)
theorem dX4_prove_12 : decode cX4_prove 12 = .ok (.aload_n 0, 1) := dc_42 (by decide +kernel)
theorem dX4_prove_13 : decode cX4_prove 13 = .ok (.getfield 36, 3) := dc_180 (a := 0) (b := 36) (by decide +kernel)
theorem dX4_prove_16 : decode cX4_prove 16 = .ok (.imul, 1) := dc_104 (by decide +kernel)
theorem dX4_prove_17 : decode cX4_prove 17 = .ok (.if_icmp .ge 30, 3) := dc_162 (a := 0) (b := 30) (by decide +kernel) (by decide)
theorem dX4_prove_20 : decode cX4_prove 20 = .ok (.aload_n 0, 1) := dc_42 (by decide +kernel)
theorem dX4_prove_21 : decode cX4_prove 21 = .ok (.getfield 57, 3) := dc_180 (a := 0) (b := 57) (by decide +kernel)
theorem dX4_prove_24 : decode cX4_prove 24 = .ok (.iload_n 2, 1) := dc_28 (by decide +kernel)
theorem dX4_prove_25 : decode cX4_prove 25 = .ok (.iaload, 1) := dc_46 (by decide +kernel)
theorem dX4_prove_26 : decode cX4_prove 26 = .ok (.bipush (-4), 2) := dc_16 (a := 252) (by decide +kernel) (by decide)
theorem dX4_prove_28 : decode cX4_prove 28 = .ok (.if_icmp .eq 13, 3) := dc_159 (a := 0) (b := 13) (by decide +kernel) (by decide)
theorem dX4_prove_31 : decode cX4_prove 31 = .ok (.aload_n 0, 1) := dc_42 (by decide +kernel)
theorem dX4_prove_32 : decode cX4_prove 32 = .ok (.iload_n 2, 1) := dc_28 (by decide +kernel)
theorem dX4_prove_33 : decode cX4_prove 33 = .ok (.invokevirtual 155, 3) := dc_182 (a := 0) (b := 155) (by decide +kernel)
theorem dX4_prove_36 : decode cX4_prove 36 = .ok (.ifCond .ne 5, 3) := dc_154 (a := 0) (b := 5) (by decide +kernel) (by decide)
theorem dX4_prove_39 : decode cX4_prove 39 = .ok (.iconst 0, 1) := dc_3 (by decide +kernel)
theorem dX4_prove_40 : decode cX4_prove 40 = .ok (.ireturn, 1) := dc_172 (by decide +kernel)
theorem dX4_prove_41 : decode cX4_prove 41 = .ok (.iinc 2 1, 3) := dc_132 (a := 2) (b := 1) (by decide +kernel) (by decide)
theorem dX4_prove_44 : decode cX4_prove 44 = .ok (.goto (-37), 3) := dc_167 (a := 255) (b := 219) (by decide +kernel) (by decide)
theorem dX4_prove_47 : decode cX4_prove 47 = .ok (.iconst 1, 1) := dc_4 (by decide +kernel)
theorem dX4_prove_48 : decode cX4_prove 48 = .ok (.ireturn, 1) := dc_172 (by decide +kernel)
set_option maxRecDepth 100000 in
set_option maxHeartbeats 4000000 in
theorem w_Potentials_prove_Plans_rooms_j41 {p : Program} {l : Launch} {e : Env} {R : Room} {s : State} {m : MethodId} {args : Array Value} {below : List Frame} {meth : Method} {c : Code} {dC : Nat → ClassId} {dI : Nat → Nat → Nat} {cs : Nat → ClassId} {ad : Nat → Nat} {A : Nat → Prop} {D0 : Nat → Nat} {S' : SS} {r : Int32} (F : Fx p s m args meth c cX4_prove 3 RX4 (some .boolean) dC dI cs A) (hR1 : 0 ≤ R.frames) (hR2 : 0 ≤ R.locals) (K7 : Int32 → SS → Option (Int32 × SS)) (hK7 : ∀ (v0 : Int32) (S : SS), K7 v0 S = some (r, S') → AW p l e R s m args below meth c dC dI cs ad A D0 (some (.int r)) S' 3 7 [(0, .ref (ad 71)), (2, .int v0)] [] S) (x2 : Int32) (S : SS) (h : f_Potentials_prove_Plans_rooms_j41 K7 x2 S = some (r, S')) : AW p l e R s m args below meth c dC dI cs ad A D0 (some (.int r)) S' 3 41 [(0, .ref (ad 71)), (2, .int x2)] [] S := by
  have hx := F.1.1
  have hb := F.1.2.1
  intro H locs ls w hl
  rw [f_Potentials_prove_Plans_rooms_j41] at h
  refine s_nm h (fun z2 ez2 h => ?_)
  refine lv_iinc (pc := 41) (v := z2) (lv' := [(2, .int z2), (0, .ref (ad 71))]) hx hb dX4_prove_41 hl (k := 1) rfl (by rw [ez2]; rfl) (by decide) rfl (fun ls hl => ?_)
  refine lv_goto (pc := 44) (tgt := 7) hx hb dX4_prove_44 (by decide) ?_
  exact hK7 _ _ h _ _ _ w (lv_sub hl [1, 0] rfl)
set_option maxRecDepth 100000 in
set_option maxHeartbeats 4000000 in
theorem w_Potentials_prove_Plans_rooms_L7 {p : Program} {l : Launch} {e : Env} {R : Room} {s : State} {m : MethodId} {args : Array Value} {below : List Frame} {meth : Method} {c : Code} {dC : Nat → ClassId} {dI : Nat → Nat → Nat} {cs : Nat → ClassId} {ad : Nat → Nat} {A : Nat → Prop} {D0 : Nat → Nat} {S' : SS} {r : Int32} (F : Fx p s m args meth c cX4_prove 3 RX4 (some .boolean) dC dI cs A) (hR1 : 3 ≤ R.frames) (hR2 : 69 ≤ R.locals) : ∀ (n : Nat) (x2 : Int32) (S : SS), f_Potentials_prove_Plans_rooms_L7 n x2 S = some (r, S') → AW p l e R s m args below meth c dC dI cs ad A D0 (some (.int r)) S' 3 7 [(0, .ref (ad 71)), (2, .int x2)] [] S := by
  have hx := F.1.1
  have hb := F.1.2.1
  intro n
  induction n with
  | zero => intro x2 S h; cases h
  | succ n ih =>
    intro x2 S h H locs ls w hl
    rw [f_Potentials_prove_Plans_rooms_L7] at h
    refine lv_iload_n (pc := 7) hx hb dX4_prove_7 rfl (lv_at hl 1 rfl) ?_
    refine lv_aload_n (pc := 8) hx hb dX4_prove_8 rfl (lv_at hl 0 rfl) ?_
    refine s_getI (pc := 9) F w ds_71 (j := 6) vc_X4 vi_X4 rfl (by decide) kf_X4_33 dX4_prove_9 ?_
    refine lv_aload_n (pc := 12) hx hb dX4_prove_12 rfl (lv_at hl 0 rfl) ?_
    refine s_getI (pc := 13) F w ds_71 (j := 7) vc_X4 vi_X4 rfl (by decide) kf_X4_36 dX4_prove_13 ?_
    refine lv_imul (pc := 16) hx hb dX4_prove_16 ?_
    refine lv_icmp_ge (pc := 17) (tgt := 47) hx hb dX4_prove_17 (by decide) (fun q => ?_) (fun q => ?_)
    · have h := ite_t q h
      refine lv_iconst (pc := 47) (v := 1) hx hb dX4_prove_47 (by decide) ?_
      exact s_zretc F w rfl h dX4_prove_48
    · have h := ite_f q h
      refine lv_aload_n (pc := 20) hx hb dX4_prove_20 rfl (lv_at hl 0 rfl) ?_
      refine s_getR (pc := 21) F w 120 ds_71 (j := 14) vc_X4 vi_X4 rfl (by decide) kf_X4_57 dX4_prove_21 ?_
      refine lv_iload_n (pc := 24) hx hb dX4_prove_24 rfl (lv_at hl 1 rfl) ?_
      refine s_iald (pc := 25) F w ds_120 h dX4_prove_25 (fun h => ?_)
      refine lv_bipush (pc := 26) (v := -4) hx hb dX4_prove_26 (by decide) ?_
      refine lv_icmp_eq (pc := 28) (tgt := 41) hx hb dX4_prove_28 (by decide) (fun q => ?_) (fun q => ?_)
      · have h := ite_t q h
        exact w_Potentials_prove_Plans_rooms_j41 F (Nat.le_trans (by decide) hR1) (Nat.le_trans (by decide) hR2) _ (fun v0 S h => ih v0 S h) _ _ h _ _ _ w (lv_sub hl [0, 1] rfl)
      · have h := ite_f q h
        refine lv_aload_n (pc := 31) hx hb dX4_prove_31 rfl (lv_at hl 0 rfl) ?_
        refine lv_iload_n (pc := 32) hx hb dX4_prove_32 rfl (lv_at hl 1 rfl) ?_
        obtain ⟨r4, S3, hc, h⟩ := bnd_t h
        refine s_cvi (pc := 33) [.int x2] (fun ad => [.ref (ad 71), .int x2]) F w (m_Potentials_isProved _ _ _ _ hc) rfl rfl hl.1 ds_71 vc_X4 rfl ok_X4_isProved rfl kc_X4_isProved kl_X4_155 ki_X4_isProved kv_X4_isProved kn_X4 ⟨Nat.le_trans (by decide) hR1, Nat.le_trans (by decide) hR2⟩ ⟨Nat.zero_le _, Nat.zero_le _⟩ (Nat.le_of_ble_eq_true rfl) dX4_prove_33 (fun H locs w => ?_)
        refine lv_if_ne (pc := 36) (tgt := 41) hx hb dX4_prove_36 (by decide) (fun q => ?_) (fun q => ?_)
        · have h := ite_f q h
          exact w_Potentials_prove_Plans_rooms_j41 F (Nat.le_trans (by decide) hR1) (Nat.le_trans (by decide) hR2) _ (fun v0 S h => ih v0 S h) _ _ h _ _ _ w (lv_sub hl [0, 1] rfl)
        · have h := ite_t q h
          refine lv_iconst (pc := 39) (v := 0) hx hb dX4_prove_39 (by decide) ?_
          exact s_zretc F w rfl h dX4_prove_40
set_option maxRecDepth 100000 in
set_option maxHeartbeats 4000000 in
theorem m_Potentials_prove_Plans_rooms  (S S' : SS) (r : Int32) (h : f_Potentials_prove_Plans_rooms  S = some (r, S')) : MT yX4_prove cX4_prove 3 (some .boolean) 3 77 (fun ad => [.ref (ad 71), .ref (ad 106)]) S (some (.int r)) S' := by
  refine MT.of RX4 (fun ad => [(0, .ref (ad 71)), (1, .ref (ad 106))]) (by decide) rfl (fun _ => Nat.le_of_ble_eq_true rfl) (fun _ => rfl) ?_
  intro p l e R s m args below meth c dC dI cs ad A hR1 hR2 F H locs ls w hl
  have hx := F.1.1
  have hb := F.1.2.1
  rw [f_Potentials_prove_Plans_rooms] at h
  refine lv_aload_n (pc := 0) hx hb dX4_prove_0 rfl (lv_at hl 0 rfl) ?_
  refine lv_aload_n (pc := 1) hx hb dX4_prove_1 rfl (lv_at hl 1 rfl) ?_
  obtain ⟨S1, hc, h⟩ := bndv_t h
  refine s_cvv (pc := 2) [.ref (ad 106)] (fun ad => [.ref (ad 71), .ref (ad 106)]) F w (m_Potentials_listEntries_Plans_rooms  _ _ hc) rfl rfl hl.1 ds_71 vc_X4 rfl ok_X4_listEntries rfl kc_X4_listEntries kl_X4_102 ki_X4_listEntries kv_X4_listEntries kn_X4 ⟨Nat.le_trans (by decide) hR1, Nat.le_trans (by decide) hR2⟩ ⟨Nat.zero_le _, Nat.zero_le _⟩ (Nat.le_of_ble_eq_true rfl) dX4_prove_2 (fun H locs w => ?_)
  refine lv_iconst (pc := 5) (v := 0) hx hb dX4_prove_5 (by decide) ?_
  refine lv_istore_n (pc := 6) (lv' := [(2, .int (0 : Int32)), (0, .ref (ad 71)), (1, .ref (ad 106))]) hx hb dX4_prove_6 rfl hl (by decide) rfl (fun ls hl => ?_)
  exact w_Potentials_prove_Plans_rooms_L7 F (Nat.le_trans (by decide) hR1) (Nat.le_trans (by decide) hR2) _ _ _ h _ _ _ w (lv_sub hl [1, 0] rfl)
def f_Plans_holds  (S : SS) : Option (Int32 × SS) :=
  if (S.1 70 8) = 0 then
    some ((0 : Int32), S)
  else
    bnd (f_Plans_leadsToGoal  S) (fun r2 S1 =>
    if r2 = 0 then
      some ((0 : Int32), S1)
    else
      if (S1.1 70 8) = (2 : Int32) then
        some ((1 : Int32), S1)
      else
        bnd (f_Potentials_rankOf_goal  S1) (fun r4 S3 =>
        bnd (f_Potentials_of r4 S3) (fun r6 S5 =>
        if r6 = 0 then
          bnd (f_Potentials_rankOf_start  S5) (fun r8 S7 =>
          bnd (f_Potentials_of r8 S7) (fun r10 S9 =>
          if r10 = (S9.1 70 7) then
            bnd (f_Potentials_prove_Plans_rooms  S9) (fun r12 S11 =>
            if r12 = 0 then
              some ((0 : Int32), S11)
            else
              some ((1 : Int32), S11))
          else
            some ((0 : Int32), S9)))
        else
          some ((0 : Int32), S5))))
theorem dX3_holds_0 : decode cX3_holds 0 = .ok (.aload_n 0, 1) := dc_42 (by decide +kernel)
theorem dX3_holds_1 : decode cX3_holds 1 = .ok (.getfield 45, 3) := dc_180 (a := 0) (b := 45) (by decide +kernel)
theorem dX3_holds_4 : decode cX3_holds 4 = .ok (.ifCond .eq 10, 3) := dc_153 (a := 0) (b := 10) (by decide +kernel) (by decide)
theorem dX3_holds_7 : decode cX3_holds 7 = .ok (.aload_n 0, 1) := dc_42 (by decide +kernel)
theorem dX3_holds_8 : decode cX3_holds 8 = .ok (.invokevirtual 145, 3) := dc_182 (a := 0) (b := 145) (by decide +kernel)
theorem dX3_holds_11 : decode cX3_holds 11 = .ok (.ifCond .ne 5, 3) := dc_154 (a := 0) (b := 5) (by decide +kernel) (by decide)
theorem dX3_holds_14 : decode cX3_holds 14 = .ok (.iconst 0, 1) := dc_3 (by decide +kernel)
theorem dX3_holds_15 : decode cX3_holds 15 = .ok (.ireturn, 1) := dc_172 (by decide +kernel)
theorem dX3_holds_16 : decode cX3_holds 16 = .ok (.aload_n 0, 1) := dc_42 (by decide +kernel)
theorem dX3_holds_17 : decode cX3_holds 17 = .ok (.getfield 45, 3) := dc_180 (a := 0) (b := 45) (by decide +kernel)
theorem dX3_holds_20 : decode cX3_holds 20 = .ok (.iconst 2, 1) := dc_5 (by decide +kernel)
theorem dX3_holds_21 : decode cX3_holds 21 = .ok (.if_icmp .eq 63, 3) := dc_159 (a := 0) (b := 63) (by decide +kernel) (by decide)
theorem dX3_holds_24 : decode cX3_holds 24 = .ok (.aload_n 0, 1) := dc_42 (by decide +kernel)
theorem dX3_holds_25 : decode cX3_holds 25 = .ok (.getfield 31, 3) := dc_180 (a := 0) (b := 31) (by decide +kernel)
theorem dX3_holds_28 : decode cX3_holds 28 = .ok (.aload_n 0, 1) := dc_42 (by decide +kernel)
theorem dX3_holds_29 : decode cX3_holds 29 = .ok (.getfield 31, 3) := dc_180 (a := 0) (b := 31) (by decide +kernel)
theorem dX3_holds_32 : decode cX3_holds 32 = .ok (.aload_n 0, 1) := dc_42 (by decide +kernel)
theorem dX3_holds_33 : decode cX3_holds 33 = .ok (.getfield 18, 3) := dc_180 (a := 0) (b := 18) (by decide +kernel)
theorem dX3_holds_36 : decode cX3_holds 36 = .ok (.invokevirtual 87, 3) := dc_182 (a := 0) (b := 87) (by decide +kernel)
theorem dX3_holds_39 : decode cX3_holds 39 = .ok (.invokevirtual 91, 3) := dc_182 (a := 0) (b := 91) (by decide +kernel)
theorem dX3_holds_42 : decode cX3_holds 42 = .ok (.ifCond .ne 46, 3) := dc_154 (a := 0) (b := 46) (by decide +kernel) (by decide)
theorem dX3_holds_45 : decode cX3_holds 45 = .ok (.aload_n 0, 1) := dc_42 (by decide +kernel)
theorem dX3_holds_46 : decode cX3_holds 46 = .ok (.getfield 31, 3) := dc_180 (a := 0) (b := 31) (by decide +kernel)
theorem dX3_holds_49 : decode cX3_holds 49 = .ok (.aload_n 0, 1) := dc_42 (by decide +kernel)
theorem dX3_holds_50 : decode cX3_holds 50 = .ok (.getfield 31, 3) := dc_180 (a := 0) (b := 31) (by decide +kernel)
theorem dX3_holds_53 : decode cX3_holds 53 = .ok (.aload_n 0, 1) := dc_42 (by decide +kernel)
theorem dX3_holds_54 : decode cX3_holds 54 = .ok (.getfield 12, 3) := dc_180 (a := 0) (b := 12) (by decide +kernel)
theorem dX3_holds_57 : decode cX3_holds 57 = .ok (.invokevirtual 87, 3) := dc_182 (a := 0) (b := 87) (by decide +kernel)
theorem dX3_holds_60 : decode cX3_holds 60 = .ok (.invokevirtual 91, 3) := dc_182 (a := 0) (b := 91) (by decide +kernel)
theorem dX3_holds_63 : decode cX3_holds 63 = .ok (.aload_n 0, 1) := dc_42 (by decide +kernel)
theorem dX3_holds_64 : decode cX3_holds 64 = .ok (.getfield 41, 3) := dc_180 (a := 0) (b := 41) (by decide +kernel)
theorem dX3_holds_67 : decode cX3_holds 67 = .ok (.if_icmp .ne 21, 3) := dc_160 (a := 0) (b := 21) (by decide +kernel) (by decide)
theorem dX3_holds_70 : decode cX3_holds 70 = .ok (.aload_n 0, 1) := dc_42 (by decide +kernel)
theorem dX3_holds_71 : decode cX3_holds 71 = .ok (.getfield 31, 3) := dc_180 (a := 0) (b := 31) (by decide +kernel)
theorem dX3_holds_74 : decode cX3_holds 74 = .ok (.aload_n 0, 1) := dc_42 (by decide +kernel)
theorem dX3_holds_75 : decode cX3_holds 75 = .ok (.getfield 24, 3) := dc_180 (a := 0) (b := 24) (by decide +kernel)
theorem dX3_holds_78 : decode cX3_holds 78 = .ok (.invokevirtual 149, 3) := dc_182 (a := 0) (b := 149) (by decide +kernel)
theorem dX3_holds_81 : decode cX3_holds 81 = .ok (.ifCond .eq 7, 3) := dc_153 (a := 0) (b := 7) (by decide +kernel) (by decide)
theorem dX3_holds_84 : decode cX3_holds 84 = .ok (.iconst 1, 1) := dc_4 (by decide +kernel)
theorem dX3_holds_85 : decode cX3_holds 85 = .ok (.goto 4, 3) := dc_167 (a := 0) (b := 4) (by decide +kernel) (by decide)
theorem dX3_holds_88 : decode cX3_holds 88 = .ok (.iconst 0, 1) := dc_3 (by decide +kernel)
theorem dX3_holds_89 : decode cX3_holds 89 = .ok (.ireturn, 1) := dc_172 (by decide +kernel)
set_option maxRecDepth 100000 in
set_option maxHeartbeats 4000000 in
theorem m_Plans_holds  (S S' : SS) (r : Int32) (h : f_Plans_holds  S = some (r, S')) : MT yX3_holds cX3_holds 1 (some .boolean) 4 99 (fun ad => [.ref (ad 70)]) S (some (.int r)) S' := by
  refine MT.of RX3 (fun ad => [(0, .ref (ad 70))]) (by decide) rfl (fun _ => Nat.le_of_ble_eq_true rfl) (fun _ => rfl) ?_
  intro p l e R s m args below meth c dC dI cs ad A hR1 hR2 F H locs ls w hl
  have hx := F.1.1
  have hb := F.1.2.1
  rw [f_Plans_holds] at h
  refine lv_aload_n (pc := 0) hx hb dX3_holds_0 rfl (lv_at hl 0 rfl) ?_
  refine s_getI (pc := 1) F w ds_70 (j := 8) vc_X3 vi_X3 rfl (by decide) kf_X3_45 dX3_holds_1 ?_
  refine lv_if_eq (pc := 4) (tgt := 14) hx hb dX3_holds_4 (by decide) (fun q => ?_) (fun q => ?_)
  · have h := ite_t q h
    refine lv_iconst (pc := 14) (v := 0) hx hb dX3_holds_14 (by decide) ?_
    exact s_zretc F w rfl h dX3_holds_15
  · have h := ite_f q h
    refine lv_aload_n (pc := 7) hx hb dX3_holds_7 rfl (lv_at hl 0 rfl) ?_
    obtain ⟨r2, S1, hc, h⟩ := bnd_t h
    refine s_cvi (pc := 8) [] (fun ad => [.ref (ad 70)]) F w (m_Plans_leadsToGoal  _ _ _ hc) rfl rfl hl.1 ds_70 vc_X3 rfl ok_X3_leadsToGoal rfl kc_X3_leadsToGoal kl_X3_145 ki_X3_leadsToGoal kv_X3_leadsToGoal kn_X3 ⟨Nat.le_trans (by decide) hR1, Nat.le_trans (by decide) hR2⟩ ⟨Nat.zero_le _, Nat.zero_le _⟩ (Nat.le_of_ble_eq_true rfl) dX3_holds_8 (fun H locs w => ?_)
    refine lv_if_ne (pc := 11) (tgt := 16) hx hb dX3_holds_11 (by decide) (fun q => ?_) (fun q => ?_)
    · have h := ite_f q h
      refine lv_aload_n (pc := 16) hx hb dX3_holds_16 rfl (lv_at hl 0 rfl) ?_
      refine s_getI (pc := 17) F w ds_70 (j := 8) vc_X3 vi_X3 rfl (by decide) kf_X3_45 dX3_holds_17 ?_
      refine lv_iconst (pc := 20) (v := 2) hx hb dX3_holds_20 (by decide) ?_
      refine lv_icmp_eq (pc := 21) (tgt := 84) hx hb dX3_holds_21 (by decide) (fun q => ?_) (fun q => ?_)
      · have h := ite_t q h
        refine lv_iconst (pc := 84) (v := 1) hx hb dX3_holds_84 (by decide) ?_
        refine lv_goto (pc := 85) (tgt := 89) hx hb dX3_holds_85 (by decide) ?_
        exact s_zretc F w rfl h dX3_holds_89
      · have h := ite_f q h
        refine lv_aload_n (pc := 24) hx hb dX3_holds_24 rfl (lv_at hl 0 rfl) ?_
        refine s_getR (pc := 25) F w 71 ds_70 (j := 4) vc_X3 vi_X3 rfl (by decide) kf_X3_31 dX3_holds_25 ?_
        refine lv_aload_n (pc := 28) hx hb dX3_holds_28 rfl (lv_at hl 0 rfl) ?_
        refine s_getR (pc := 29) F w 71 ds_70 (j := 4) vc_X3 vi_X3 rfl (by decide) kf_X3_31 dX3_holds_29 ?_
        refine lv_aload_n (pc := 32) hx hb dX3_holds_32 rfl (lv_at hl 0 rfl) ?_
        refine s_getR (pc := 33) F w 73 ds_70 (j := 1) vc_X3 vi_X3 rfl (by decide) kf_X3_18 dX3_holds_33 ?_
        obtain ⟨r4, S3, hc, h⟩ := bnd_t h
        refine s_cvi (pc := 36) [.ref (ad 73)] (fun ad => [.ref (ad 71), .ref (ad 73)]) F w (m_Potentials_rankOf_goal  _ _ _ hc) rfl rfl hl.1 ds_71 vc_X4 rfl ok_X4_rankOf rfl kc_X4_rankOf kl_X3_87 ki_X4_rankOf kv_X4_rankOf kn_X4 ⟨Nat.le_trans (by decide) hR1, Nat.le_trans (by decide) hR2⟩ ⟨Nat.zero_le _, Nat.zero_le _⟩ (Nat.le_of_ble_eq_true rfl) dX3_holds_36 (fun H locs w => ?_)
        obtain ⟨r6, S5, hc, h⟩ := bnd_t h
        refine s_cvi (pc := 39) [.int r4] (fun ad => [.ref (ad 71), .int r4]) F w (m_Potentials_of _ _ _ _ hc) rfl rfl hl.1 ds_71 vc_X4 rfl ok_X4_of rfl kc_X4_of kl_X3_91 ki_X4_of kv_X4_of kn_X4 ⟨Nat.le_trans (by decide) hR1, Nat.le_trans (by decide) hR2⟩ ⟨Nat.zero_le _, Nat.zero_le _⟩ (Nat.le_of_ble_eq_true rfl) dX3_holds_39 (fun H locs w => ?_)
        refine lv_if_ne (pc := 42) (tgt := 88) hx hb dX3_holds_42 (by decide) (fun q => ?_) (fun q => ?_)
        · have h := ite_f q h
          refine lv_iconst (pc := 88) (v := 0) hx hb dX3_holds_88 (by decide) ?_
          exact s_zretc F w rfl h dX3_holds_89
        · have h := ite_t q h
          refine lv_aload_n (pc := 45) hx hb dX3_holds_45 rfl (lv_at hl 0 rfl) ?_
          refine s_getR (pc := 46) F w 71 ds_70 (j := 4) vc_X3 vi_X3 rfl (by decide) kf_X3_31 dX3_holds_46 ?_
          refine lv_aload_n (pc := 49) hx hb dX3_holds_49 rfl (lv_at hl 0 rfl) ?_
          refine s_getR (pc := 50) F w 71 ds_70 (j := 4) vc_X3 vi_X3 rfl (by decide) kf_X3_31 dX3_holds_50 ?_
          refine lv_aload_n (pc := 53) hx hb dX3_holds_53 rfl (lv_at hl 0 rfl) ?_
          refine s_getR (pc := 54) F w 72 ds_70 (j := 0) vc_X3 vi_X3 rfl (by decide) kf_X3_12 dX3_holds_54 ?_
          obtain ⟨r8, S7, hc, h⟩ := bnd_t h
          refine s_cvi (pc := 57) [.ref (ad 72)] (fun ad => [.ref (ad 71), .ref (ad 72)]) F w (m_Potentials_rankOf_start  _ _ _ hc) rfl rfl hl.1 ds_71 vc_X4 rfl ok_X4_rankOf rfl kc_X4_rankOf kl_X3_87 ki_X4_rankOf kv_X4_rankOf kn_X4 ⟨Nat.le_trans (by decide) hR1, Nat.le_trans (by decide) hR2⟩ ⟨Nat.zero_le _, Nat.zero_le _⟩ (Nat.le_of_ble_eq_true rfl) dX3_holds_57 (fun H locs w => ?_)
          obtain ⟨r10, S9, hc, h⟩ := bnd_t h
          refine s_cvi (pc := 60) [.int r8] (fun ad => [.ref (ad 71), .int r8]) F w (m_Potentials_of _ _ _ _ hc) rfl rfl hl.1 ds_71 vc_X4 rfl ok_X4_of rfl kc_X4_of kl_X3_91 ki_X4_of kv_X4_of kn_X4 ⟨Nat.le_trans (by decide) hR1, Nat.le_trans (by decide) hR2⟩ ⟨Nat.zero_le _, Nat.zero_le _⟩ (Nat.le_of_ble_eq_true rfl) dX3_holds_60 (fun H locs w => ?_)
          refine lv_aload_n (pc := 63) hx hb dX3_holds_63 rfl (lv_at hl 0 rfl) ?_
          refine s_getI (pc := 64) F w ds_70 (j := 7) vc_X3 vi_X3 rfl (by decide) kf_X3_41 dX3_holds_64 ?_
          refine lv_icmp_ne (pc := 67) (tgt := 88) hx hb dX3_holds_67 (by decide) (fun q => ?_) (fun q => ?_)
          · have h := ite_f q h
            refine lv_iconst (pc := 88) (v := 0) hx hb dX3_holds_88 (by decide) ?_
            exact s_zretc F w rfl h dX3_holds_89
          · have h := ite_t q h
            refine lv_aload_n (pc := 70) hx hb dX3_holds_70 rfl (lv_at hl 0 rfl) ?_
            refine s_getR (pc := 71) F w 71 ds_70 (j := 4) vc_X3 vi_X3 rfl (by decide) kf_X3_31 dX3_holds_71 ?_
            refine lv_aload_n (pc := 74) hx hb dX3_holds_74 rfl (lv_at hl 0 rfl) ?_
            refine s_getR (pc := 75) F w 106 ds_70 (j := 3) vc_X3 vi_X3 rfl (by decide) kf_X3_24 dX3_holds_75 ?_
            obtain ⟨r12, S11, hc, h⟩ := bnd_t h
            refine s_cvi (pc := 78) [.ref (ad 106)] (fun ad => [.ref (ad 71), .ref (ad 106)]) F w (m_Potentials_prove_Plans_rooms  _ _ _ hc) rfl rfl hl.1 ds_71 vc_X4 rfl ok_X4_prove rfl kc_X4_prove kl_X3_149 ki_X4_prove kv_X4_prove kn_X4 ⟨Nat.le_trans (by decide) hR1, Nat.le_trans (by decide) hR2⟩ ⟨Nat.zero_le _, Nat.zero_le _⟩ (Nat.le_of_ble_eq_true rfl) dX3_holds_78 (fun H locs w => ?_)
            refine lv_if_eq (pc := 81) (tgt := 88) hx hb dX3_holds_81 (by decide) (fun q => ?_) (fun q => ?_)
            · have h := ite_t q h
              refine lv_iconst (pc := 88) (v := 0) hx hb dX3_holds_88 (by decide) ?_
              exact s_zretc F w rfl h dX3_holds_89
            · have h := ite_f q h
              refine lv_iconst (pc := 84) (v := 1) hx hb dX3_holds_84 (by decide) ?_
              refine lv_goto (pc := 85) (tgt := 89) hx hb dX3_holds_85 (by decide) ?_
              exact s_zretc F w rfl h dX3_holds_89
    · have h := ite_t q h
      refine lv_iconst (pc := 14) (v := 0) hx hb dX3_holds_14 (by decide) ?_
      exact s_zretc F w rfl h dX3_holds_15
def f_Yard_check  (S : SS) : Option (Int32 × SS) :=
  bnd (f_Plans_holds  S) (fun r2 S1 =>
  if r2 = 0 then
    some ((0 : Int32), S1)
  else
    some ((1 : Int32), S1))
theorem dX11_check_0 : decode cX11_check 0 = .ok (.aload_n 0, 1) := dc_42 (by decide +kernel)
theorem dX11_check_1 : decode cX11_check 1 = .ok (.getfield 74, 3) := dc_180 (a := 0) (b := 74) (by decide +kernel)
theorem dX11_check_4 : decode cX11_check 4 = .ok (.invokevirtual 453, 3) := dc_182 (a := 1) (b := 197) (by decide +kernel)
theorem dX11_check_7 : decode cX11_check 7 = .ok (.ifCond .eq 7, 3) := dc_153 (a := 0) (b := 7) (by decide +kernel) (by decide)
theorem dX11_check_10 : decode cX11_check 10 = .ok (.iconst 1, 1) := dc_4 (by decide +kernel)
theorem dX11_check_11 : decode cX11_check 11 = .ok (.goto 4, 3) := dc_167 (a := 0) (b := 4) (by decide +kernel) (by decide)
theorem dX11_check_14 : decode cX11_check 14 = .ok (.iconst 0, 1) := dc_3 (by decide +kernel)
theorem dX11_check_15 : decode cX11_check 15 = .ok (.ireturn, 1) := dc_172 (by decide +kernel)
set_option maxRecDepth 100000 in
set_option maxHeartbeats 4000000 in
theorem m_Yard_check  (S S' : SS) (r : Int32) (h : f_Yard_check  S = some (r, S')) : MT yX11_check cX11_check 1 (some .int) 5 119 (fun ad => [.ref (ad 61)]) S (some (.int r)) S' := by
  refine MT.of RX11 (fun ad => [(0, .ref (ad 61))]) (by decide) rfl (fun _ => Nat.le_of_ble_eq_true rfl) (fun _ => rfl) ?_
  intro p l e R s m args below meth c dC dI cs ad A hR1 hR2 F H locs ls w hl
  have hx := F.1.1
  have hb := F.1.2.1
  rw [f_Yard_check] at h
  refine lv_aload_n (pc := 0) hx hb dX11_check_0 rfl (lv_at hl 0 rfl) ?_
  refine s_getR (pc := 1) F w 70 ds_61 (j := 8) vc_X11 vi_X11 rfl (by decide) kf_X11_74 dX11_check_1 ?_
  obtain ⟨r2, S1, hc, h⟩ := bnd_t h
  refine s_cvi (pc := 4) [] (fun ad => [.ref (ad 70)]) F w (m_Plans_holds  _ _ _ hc) rfl rfl hl.1 ds_70 vc_X3 rfl ok_X3_holds rfl kc_X3_holds kl_X11_453 ki_X3_holds kv_X3_holds kn_X3 ⟨Nat.le_trans (by decide) hR1, Nat.le_trans (by decide) hR2⟩ ⟨Nat.zero_le _, Nat.zero_le _⟩ (Nat.le_of_ble_eq_true rfl) dX11_check_4 (fun H locs w => ?_)
  refine lv_if_eq (pc := 7) (tgt := 14) hx hb dX11_check_7 (by decide) (fun q => ?_) (fun q => ?_)
  · have h := ite_t q h
    refine lv_iconst (pc := 14) (v := 0) hx hb dX11_check_14 (by decide) ?_
    exact s_iret F w h dX11_check_15
  · have h := ite_f q h
    refine lv_iconst (pc := 10) (v := 1) hx hb dX11_check_10 (by decide) ?_
    refine lv_goto (pc := 11) (tgt := 15) hx hb dX11_check_11 (by decide) ?_
    exact s_iret F w h dX11_check_15
