/-! ===== printed by wip/gen: X4_orderOf_Potentials_sequence X4_keyWith X4_rankOf_goal X4_rankOf_start X4_endIn X4_heightIn X4_shapeAfter X4_swapOf X4_swapBy X4_listEntries_Plans_rooms X4_rankAfter ===== -/
def f_X4_orderOf_Potentials_sequence_L56  : Nat → Int32 → Int32 → SS → Option (Int32 × SS)
  | 0, _, _, _ => none
  | n + 1, x3, x4, S =>
    if x4 < 0 then
      some (x3, S)
    else
      grd (inb x4 5) (
      nm ((x3 * (x4 + (1 : Int32))) + (S.1 52 x4.toNatClampNeg)) (fun z2 =>
      nm (x4 + (-1 : Int32)) (fun z3 =>
      f_X4_orderOf_Potentials_sequence_L56 n z2 z3 S)))
def f_X4_orderOf_Potentials_sequence_L4  : Nat → Int32 → Int32 → SS → Option (Int32 × SS)
  | 0, _, _, _ => none
  | n + 1, x2, x3, S =>
    if (S.1 10 5) ≤ x3 then
      nm ((S.1 10 5) - (1 : Int32)) (fun z1 =>
      f_X4_orderOf_Potentials_sequence_L56 NF (0 : Int32) z1 S)
    else
      grd (inb x3 5) (
      grd (inb x3 5) (
      bnd (f_J6_bitCount_0f7a4 (x2 &&& (((1 : Int32) <<< ((S.1 50 x3.toNatClampNeg) &&& 31)) - (1 : Int32))) S) (fun r5 S4 =>
      grd (inb (S.1 50 x3.toNatClampNeg) 5) (wr S4 52 (S.1 50 x3.toNatClampNeg).toNatClampNeg r5 (fun S6 =>
      grd (inb x3 5) (
      nm (x2 ||| ((1 : Int32) <<< ((S6.1 50 x3.toNatClampNeg) &&& 31))) (fun z7 =>
      nm (x3 + (1 : Int32)) (fun z8 =>
      f_X4_orderOf_Potentials_sequence_L4 n z7 z8 S6))))))))
def f_X4_orderOf_Potentials_sequence  (S : SS) : Option (Int32 × SS) :=
  f_X4_orderOf_Potentials_sequence_L4 NF (0 : Int32) (0 : Int32) S
theorem dX4_orderOf_0 : decode cX4_orderOf 0 = .ok (.iconst 0, 1) := by decide +kernel
theorem dX4_orderOf_1 : decode cX4_orderOf 1 = .ok (.istore_n 2, 1) := by decide +kernel
theorem dX4_orderOf_2 : decode cX4_orderOf 2 = .ok (.iconst 0, 1) := by decide +kernel
theorem dX4_orderOf_3 : decode cX4_orderOf 3 = .ok (.istore_n 3, 1) := by decide +kernel
theorem dX4_orderOf_4 : decode cX4_orderOf 4 = .ok (.iload_n 3, 1) := by decide +kernel
theorem dX4_orderOf_5 : decode cX4_orderOf 5 = .ok (.aload_n 0, 1) := by decide +kernel
theorem dX4_orderOf_6 : decode cX4_orderOf 6 = .ok (.getfield 29, 3) := by decide +kernel
theorem dX4_orderOf_9 : decode cX4_orderOf 9 = .ok (.if_icmp .ge 37, 3) := by decide +kernel
theorem dX4_orderOf_12 : decode cX4_orderOf 12 = .ok (.aload_n 0, 1) := by decide +kernel
theorem dX4_orderOf_13 : decode cX4_orderOf 13 = .ok (.getfield 23, 3) := by decide +kernel
theorem dX4_orderOf_16 : decode cX4_orderOf 16 = .ok (.aload_n 1, 1) := by decide +kernel
theorem dX4_orderOf_17 : decode cX4_orderOf 17 = .ok (.iload_n 3, 1) := by decide +kernel
theorem dX4_orderOf_18 : decode cX4_orderOf 18 = .ok (.iaload, 1) := by decide +kernel
theorem dX4_orderOf_19 : decode cX4_orderOf 19 = .ok (.iload_n 2, 1) := by decide +kernel
theorem dX4_orderOf_20 : decode cX4_orderOf 20 = .ok (.iconst 1, 1) := by decide +kernel
theorem dX4_orderOf_21 : decode cX4_orderOf 21 = .ok (.aload_n 1, 1) := by decide +kernel
theorem dX4_orderOf_22 : decode cX4_orderOf 22 = .ok (.iload_n 3, 1) := by decide +kernel
theorem dX4_orderOf_23 : decode cX4_orderOf 23 = .ok (.iaload, 1) := by decide +kernel
theorem dX4_orderOf_24 : decode cX4_orderOf 24 = .ok (.ishl, 1) := by decide +kernel
theorem dX4_orderOf_25 : decode cX4_orderOf 25 = .ok (.iconst 1, 1) := by decide +kernel
theorem dX4_orderOf_26 : decode cX4_orderOf 26 = .ok (.isub, 1) := by decide +kernel
theorem dX4_orderOf_27 : decode cX4_orderOf 27 = .ok (.iand, 1) := by decide +kernel
theorem dX4_orderOf_28 : decode cX4_orderOf 28 = .ok (.invokestatic 83, 3) := by decide +kernel
theorem dX4_orderOf_31 : decode cX4_orderOf 31 = .ok (.iastore, 1) := by decide +kernel
theorem dX4_orderOf_32 : decode cX4_orderOf 32 = .ok (.iload_n 2, 1) := by decide +kernel
theorem dX4_orderOf_33 : decode cX4_orderOf 33 = .ok (.iconst 1, 1) := by decide +kernel
theorem dX4_orderOf_34 : decode cX4_orderOf 34 = .ok (.aload_n 1, 1) := by decide +kernel
theorem dX4_orderOf_35 : decode cX4_orderOf 35 = .ok (.iload_n 3, 1) := by decide +kernel
theorem dX4_orderOf_36 : decode cX4_orderOf 36 = .ok (.iaload, 1) := by decide +kernel
theorem dX4_orderOf_37 : decode cX4_orderOf 37 = .ok (.ishl, 1) := by decide +kernel
theorem dX4_orderOf_38 : decode cX4_orderOf 38 = .ok (.ior, 1) := by decide +kernel
theorem dX4_orderOf_39 : decode cX4_orderOf 39 = .ok (.istore_n 2, 1) := by decide +kernel
theorem dX4_orderOf_40 : decode cX4_orderOf 40 = .ok (.iinc 3 1, 3) := by decide +kernel
theorem dX4_orderOf_43 : decode cX4_orderOf 43 = .ok (.goto (-39), 3) := by decide +kernel
theorem dX4_orderOf_46 : decode cX4_orderOf 46 = .ok (.iconst 0, 1) := by decide +kernel
theorem dX4_orderOf_47 : decode cX4_orderOf 47 = .ok (.istore_n 3, 1) := by decide +kernel
theorem dX4_orderOf_48 : decode cX4_orderOf 48 = .ok (.aload_n 0, 1) := by decide +kernel
theorem dX4_orderOf_49 : decode cX4_orderOf 49 = .ok (.getfield 29, 3) := by decide +kernel
theorem dX4_orderOf_52 : decode cX4_orderOf 52 = .ok (.iconst 1, 1) := by decide +kernel
theorem dX4_orderOf_53 : decode cX4_orderOf 53 = .ok (.isub, 1) := by decide +kernel
theorem dX4_orderOf_54 : decode cX4_orderOf 54 = .ok (.istore 4, 2) := by decide +kernel
theorem dX4_orderOf_56 : decode cX4_orderOf 56 = .ok (.iload 4, 2) := by decide +kernel
theorem dX4_orderOf_58 : decode cX4_orderOf 58 = .ok (.ifCond .lt 24, 3) := by decide +kernel
theorem dX4_orderOf_61 : decode cX4_orderOf 61 = .ok (.iload_n 3, 1) := by decide +kernel
theorem dX4_orderOf_62 : decode cX4_orderOf 62 = .ok (.iload 4, 2) := by decide +kernel
theorem dX4_orderOf_64 : decode cX4_orderOf 64 = .ok (.iconst 1, 1) := by decide +kernel
theorem dX4_orderOf_65 : decode cX4_orderOf 65 = .ok (.iadd, 1) := by decide +kernel
theorem dX4_orderOf_66 : decode cX4_orderOf 66 = .ok (.imul, 1) := by decide +kernel
theorem dX4_orderOf_67 : decode cX4_orderOf 67 = .ok (.aload_n 0, 1) := by decide +kernel
theorem dX4_orderOf_68 : decode cX4_orderOf 68 = .ok (.getfield 23, 3) := by decide +kernel
theorem dX4_orderOf_71 : decode cX4_orderOf 71 = .ok (.iload 4, 2) := by decide +kernel
theorem dX4_orderOf_73 : decode cX4_orderOf 73 = .ok (.iaload, 1) := by decide +kernel
theorem dX4_orderOf_74 : decode cX4_orderOf 74 = .ok (.iadd, 1) := by decide +kernel
theorem dX4_orderOf_75 : decode cX4_orderOf 75 = .ok (.istore_n 3, 1) := by decide +kernel
theorem dX4_orderOf_76 : decode cX4_orderOf 76 = .ok (.iinc 4 (-1), 3) := by decide +kernel
theorem dX4_orderOf_79 : decode cX4_orderOf 79 = .ok (.goto (-23), 3) := by decide +kernel
theorem dX4_orderOf_82 : decode cX4_orderOf 82 = .ok (.iload_n 3, 1) := by decide +kernel
theorem dX4_orderOf_83 : decode cX4_orderOf 83 = .ok (.ireturn, 1) := by decide +kernel
set_option maxRecDepth 100000 in
set_option maxHeartbeats 4000000 in
theorem w_X4_orderOf_Potentials_sequence_L56 {p : Program} {l : Launch} {e : Env} {R : Room} {s : State} {m : MethodId} {args : Array Value} {below : List Frame} {meth : Method} {c : Code} {dC : Nat → ClassId} {dI : Nat → Nat → Nat} {cs : Nat → ClassId} {ad : Nat → Nat} {A : Nat → Prop} {D0 : Nat → Nat} {S' : SS} {r : Int32} (F : Fx p s m args meth c cX4_orderOf 5 RX4 (some .int) dC dI cs A) (hR1 : 0 ≤ R.frames) (hR2 : 0 ≤ R.locals) : ∀ (n : Nat) (x3 : Int32) (x4 : Int32) (S : SS), f_X4_orderOf_Potentials_sequence_L56 n x3 x4 S = some (r, S') → AW p l e R s m args below meth c dC dI cs ad A D0 (some (.int r)) S' 5 56 [(0, .ref (ad 10)), (3, .int x3), (4, .int x4)] [] S := by
  have hx := F.1.1
  have hb := F.1.2.1
  intro n
  induction n with
  | zero => intro x3 x4 S h; cases h
  | succ n ih =>
    intro x3 x4 S h H locs ls w hl
    rw [f_X4_orderOf_Potentials_sequence_L56] at h
    refine lv_iload (pc := 56) hx hb dX4_orderOf_56 (lv_at hl 2 rfl) ?_
    refine lv_if_lt (pc := 58) (tgt := 82) hx hb dX4_orderOf_58 (by decide) (fun q => ?_) (fun q => ?_)
    · have h := ite_t q h
      refine lv_iload_n (pc := 82) hx hb dX4_orderOf_82 rfl (lv_at hl 1 rfl) ?_
      exact s_iret F w h dX4_orderOf_83
    · have h := ite_f q h
      refine lv_iload_n (pc := 61) hx hb dX4_orderOf_61 rfl (lv_at hl 1 rfl) ?_
      refine lv_iload (pc := 62) hx hb dX4_orderOf_62 (lv_at hl 2 rfl) ?_
      refine lv_iconst (pc := 64) (v := 1) hx hb dX4_orderOf_64 (by decide) ?_
      refine lv_iadd (pc := 65) hx hb dX4_orderOf_65 ?_
      refine lv_imul (pc := 66) hx hb dX4_orderOf_66 ?_
      refine lv_aload_n (pc := 67) hx hb dX4_orderOf_67 rfl (lv_at hl 0 rfl) ?_
      refine s_getR (pc := 68) F w 52 ds_10 (j := 3) vc_X4 vi_X4 rfl (by decide) kf_X4_23 dX4_orderOf_68 ?_
      refine lv_iload (pc := 71) hx hb dX4_orderOf_71 (lv_at hl 2 rfl) ?_
      refine s_iald (pc := 73) F w ds_52 h dX4_orderOf_73 (fun h => ?_)
      refine lv_iadd (pc := 74) hx hb dX4_orderOf_74 ?_
      refine s_nm h (fun z2 ez2 h => ?_)
      rw [← ez2]
      refine lv_istore_n (pc := 75) (lv' := [(3, .int z2), (0, .ref (ad 10)), (4, .int x4)]) hx hb dX4_orderOf_75 rfl hl (by decide) rfl (fun ls hl => ?_)
      refine s_nm h (fun z3 ez3 h => ?_)
      refine lv_iinc (pc := 76) (v := z3) (lv' := [(4, .int z3), (3, .int z2), (0, .ref (ad 10))]) hx hb dX4_orderOf_76 hl (k := 2) rfl (by rw [ez3]; rfl) (by decide) rfl (fun ls hl => ?_)
      refine lv_goto (pc := 79) (tgt := 56) hx hb dX4_orderOf_79 (by decide) ?_
      exact ih _ _ _ h _ _ _ w (lv_sub hl [2, 1, 0] rfl)
set_option maxRecDepth 100000 in
set_option maxHeartbeats 4000000 in
theorem w_X4_orderOf_Potentials_sequence_L4 {p : Program} {l : Launch} {e : Env} {R : Room} {s : State} {m : MethodId} {args : Array Value} {below : List Frame} {meth : Method} {c : Code} {dC : Nat → ClassId} {dI : Nat → Nat → Nat} {cs : Nat → ClassId} {ad : Nat → Nat} {A : Nat → Prop} {D0 : Nat → Nat} {S' : SS} {r : Int32} (F : Fx p s m args meth c cX4_orderOf 5 RX4 (some .int) dC dI cs A) (hR1 : 1 ≤ R.frames) (hR2 : 20 ≤ R.locals) : ∀ (n : Nat) (x2 : Int32) (x3 : Int32) (S : SS), f_X4_orderOf_Potentials_sequence_L4 n x2 x3 S = some (r, S') → AW p l e R s m args below meth c dC dI cs ad A D0 (some (.int r)) S' 5 4 [(0, .ref (ad 10)), (1, .ref (ad 50)), (2, .int x2), (3, .int x3)] [] S := by
  have hx := F.1.1
  have hb := F.1.2.1
  intro n
  induction n with
  | zero => intro x2 x3 S h; cases h
  | succ n ih =>
    intro x2 x3 S h H locs ls w hl
    rw [f_X4_orderOf_Potentials_sequence_L4] at h
    refine lv_iload_n (pc := 4) hx hb dX4_orderOf_4 rfl (lv_at hl 3 rfl) ?_
    refine lv_aload_n (pc := 5) hx hb dX4_orderOf_5 rfl (lv_at hl 0 rfl) ?_
    refine s_getI (pc := 6) F w ds_10 (j := 5) vc_X4 vi_X4 rfl (by decide) kf_X4_29 dX4_orderOf_6 ?_
    refine lv_icmp_ge (pc := 9) (tgt := 46) hx hb dX4_orderOf_9 (by decide) (fun q => ?_) (fun q => ?_)
    · have h := ite_t q h
      refine lv_iconst (pc := 46) (v := 0) hx hb dX4_orderOf_46 (by decide) ?_
      refine lv_istore_n (pc := 47) (lv' := [(3, .int (0 : Int32)), (0, .ref (ad 10)), (1, .ref (ad 50)), (2, .int x2)]) hx hb dX4_orderOf_47 rfl hl (by decide) rfl (fun ls hl => ?_)
      refine lv_aload_n (pc := 48) hx hb dX4_orderOf_48 rfl (lv_at hl 1 rfl) ?_
      refine s_getI (pc := 49) F w ds_10 (j := 5) vc_X4 vi_X4 rfl (by decide) kf_X4_29 dX4_orderOf_49 ?_
      refine lv_iconst (pc := 52) (v := 1) hx hb dX4_orderOf_52 (by decide) ?_
      refine lv_isub (pc := 53) hx hb dX4_orderOf_53 ?_
      refine s_nm h (fun z1 ez1 h => ?_)
      rw [← ez1]
      refine lv_istore (pc := 54) (lv' := [(4, .int z1), (3, .int (0 : Int32)), (0, .ref (ad 10)), (1, .ref (ad 50)), (2, .int x2)]) hx hb dX4_orderOf_54 hl (by decide) rfl (fun ls hl => ?_)
      exact w_X4_orderOf_Potentials_sequence_L56 F (Nat.le_trans (by decide) hR1) (Nat.le_trans (by decide) hR2) _ _ _ _ h _ _ _ w (lv_sub hl [2, 1, 0] rfl)
    · have h := ite_f q h
      refine lv_aload_n (pc := 12) hx hb dX4_orderOf_12 rfl (lv_at hl 0 rfl) ?_
      refine s_getR (pc := 13) F w 52 ds_10 (j := 3) vc_X4 vi_X4 rfl (by decide) kf_X4_23 dX4_orderOf_13 ?_
      refine lv_aload_n (pc := 16) hx hb dX4_orderOf_16 rfl (lv_at hl 1 rfl) ?_
      refine lv_iload_n (pc := 17) hx hb dX4_orderOf_17 rfl (lv_at hl 3 rfl) ?_
      refine s_iald (pc := 18) F w ds_50 h dX4_orderOf_18 (fun h => ?_)
      refine lv_iload_n (pc := 19) hx hb dX4_orderOf_19 rfl (lv_at hl 2 rfl) ?_
      refine lv_iconst (pc := 20) (v := 1) hx hb dX4_orderOf_20 (by decide) ?_
      refine lv_aload_n (pc := 21) hx hb dX4_orderOf_21 rfl (lv_at hl 1 rfl) ?_
      refine lv_iload_n (pc := 22) hx hb dX4_orderOf_22 rfl (lv_at hl 3 rfl) ?_
      refine s_iald (pc := 23) F w ds_50 h dX4_orderOf_23 (fun h => ?_)
      refine lv_ishl (pc := 24) hx hb dX4_orderOf_24 ?_
      refine lv_iconst (pc := 25) (v := 1) hx hb dX4_orderOf_25 (by decide) ?_
      refine lv_isub (pc := 26) hx hb dX4_orderOf_26 ?_
      refine lv_iand (pc := 27) hx hb dX4_orderOf_27 ?_
      obtain ⟨r5, S4, hc, h⟩ := bnd_t h
      refine s_csi (pc := 28) [.int (x2 &&& (((1 : Int32) <<< ((S.1 50 x3.toNatClampNeg) &&& 31)) - (1 : Int32)))] (fun ad => [.int (x2 &&& (((1 : Int32) <<< ((S.1 50 x3.toNatClampNeg) &&& 31)) - (1 : Int32)))]) F w (m_J6_bitCount_0f7a4 _ _ _ _ hc) rfl rfl hl.1 ok_J6_bitCount_0f7a4 rfl kc_J6_bitCount_0f7a4 kl_X4_83 ks_J6_bitCount_0f7a4 kn_J6 ⟨Nat.le_trans (by decide) hR1, Nat.le_trans (by decide) hR2⟩ ⟨Nat.zero_le _, Nat.zero_le _⟩ (Nat.le_of_ble_eq_true rfl) dX4_orderOf_28 (fun H locs w => ?_)
      refine s_iast (pc := 31) F w ds_52 h dX4_orderOf_31 (fun S6 H locs h w => ?_)
      refine lv_iload_n (pc := 32) hx hb dX4_orderOf_32 rfl (lv_at hl 2 rfl) ?_
      refine lv_iconst (pc := 33) (v := 1) hx hb dX4_orderOf_33 (by decide) ?_
      refine lv_aload_n (pc := 34) hx hb dX4_orderOf_34 rfl (lv_at hl 1 rfl) ?_
      refine lv_iload_n (pc := 35) hx hb dX4_orderOf_35 rfl (lv_at hl 3 rfl) ?_
      refine s_iald (pc := 36) F w ds_50 h dX4_orderOf_36 (fun h => ?_)
      refine lv_ishl (pc := 37) hx hb dX4_orderOf_37 ?_
      refine lv_ior (pc := 38) hx hb dX4_orderOf_38 ?_
      refine s_nm h (fun z7 ez7 h => ?_)
      rw [← ez7]
      refine lv_istore_n (pc := 39) (lv' := [(2, .int z7), (0, .ref (ad 10)), (1, .ref (ad 50)), (3, .int x3)]) hx hb dX4_orderOf_39 rfl hl (by decide) rfl (fun ls hl => ?_)
      refine s_nm h (fun z8 ez8 h => ?_)
      refine lv_iinc (pc := 40) (v := z8) (lv' := [(3, .int z8), (2, .int z7), (0, .ref (ad 10)), (1, .ref (ad 50))]) hx hb dX4_orderOf_40 hl (k := 3) rfl (by rw [ez8]; rfl) (by decide) rfl (fun ls hl => ?_)
      refine lv_goto (pc := 43) (tgt := 4) hx hb dX4_orderOf_43 (by decide) ?_
      exact ih _ _ _ h _ _ _ w (lv_sub hl [2, 3, 1, 0] rfl)
set_option maxRecDepth 100000 in
set_option maxHeartbeats 4000000 in
theorem m_X4_orderOf_Potentials_sequence  (S S' : SS) (r : Int32) (h : f_X4_orderOf_Potentials_sequence  S = some (r, S')) : MT yX4_orderOf cX4_orderOf 5 (some .int) 1 20 (fun ad => [.ref (ad 10), .ref (ad 50)]) S (some (.int r)) S' := by
  refine MT.of RX4 (fun ad => [(0, .ref (ad 10)), (1, .ref (ad 50))]) (by decide) rfl (fun _ => Nat.le_of_ble_eq_true rfl) (fun _ => rfl) ?_
  intro p l e R s m args below meth c dC dI cs ad A hR1 hR2 F H locs ls w hl
  have hx := F.1.1
  have hb := F.1.2.1
  rw [f_X4_orderOf_Potentials_sequence] at h
  refine lv_iconst (pc := 0) (v := 0) hx hb dX4_orderOf_0 (by decide) ?_
  refine lv_istore_n (pc := 1) (lv' := [(2, .int (0 : Int32)), (0, .ref (ad 10)), (1, .ref (ad 50))]) hx hb dX4_orderOf_1 rfl hl (by decide) rfl (fun ls hl => ?_)
  refine lv_iconst (pc := 2) (v := 0) hx hb dX4_orderOf_2 (by decide) ?_
  refine lv_istore_n (pc := 3) (lv' := [(3, .int (0 : Int32)), (2, .int (0 : Int32)), (0, .ref (ad 10)), (1, .ref (ad 50))]) hx hb dX4_orderOf_3 rfl hl (by decide) rfl (fun ls hl => ?_)
  exact w_X4_orderOf_Potentials_sequence_L4 F (Nat.le_trans (by decide) hR1) (Nat.le_trans (by decide) hR2) _ _ _ _ h _ _ _ w (lv_sub hl [2, 3, 1, 0] rfl)
def f_X4_keyWith (a0 : Int32) (a1 : Int32) (a2 : Int32) (S : SS) : Option (Int32 × SS) :=
  if (3 : Int32) ≤ a1 then
    some (a0, S)
  else
    some (((6 : Int32) * a0) + a2, S)
theorem dX4_keyWith_0 : decode cX4_keyWith 0 = .ok (.iload_n 1, 1) := by decide +kernel
theorem dX4_keyWith_1 : decode cX4_keyWith 1 = .ok (.iconst 3, 1) := by decide +kernel
theorem dX4_keyWith_2 : decode cX4_keyWith 2 = .ok (.if_icmp .ge 12, 3) := by decide +kernel
theorem dX4_keyWith_5 : decode cX4_keyWith 5 = .ok (.bipush 6, 2) := by decide +kernel
theorem dX4_keyWith_7 : decode cX4_keyWith 7 = .ok (.iload_n 0, 1) := by decide +kernel
theorem dX4_keyWith_8 : decode cX4_keyWith 8 = .ok (.imul, 1) := by decide +kernel
theorem dX4_keyWith_9 : decode cX4_keyWith 9 = .ok (.iload_n 2, 1) := by decide +kernel
theorem dX4_keyWith_10 : decode cX4_keyWith 10 = .ok (.iadd, 1) := by decide +kernel
theorem dX4_keyWith_11 : decode cX4_keyWith 11 = .ok (.goto 4, 3) := by decide +kernel
theorem dX4_keyWith_14 : decode cX4_keyWith 14 = .ok (.iload_n 0, 1) := by decide +kernel
theorem dX4_keyWith_15 : decode cX4_keyWith 15 = .ok (.ireturn, 1) := by decide +kernel
set_option maxRecDepth 100000 in
set_option maxHeartbeats 4000000 in
theorem m_X4_keyWith (a0 : Int32) (a1 : Int32) (a2 : Int32) (S S' : SS) (r : Int32) (h : f_X4_keyWith a0 a1 a2 S = some (r, S')) : MT yX4_keyWith cX4_keyWith 3 (some .int) 0 0 (fun ad => [.int a0, .int a1, .int a2]) S (some (.int r)) S' := by
  refine MT.of RX4 (fun ad => [(0, .int a0), (1, .int a1), (2, .int a2)]) (by decide) rfl (fun _ => Nat.le_of_ble_eq_true rfl) (fun _ => rfl) ?_
  intro p l e R s m args below meth c dC dI cs ad A hR1 hR2 F H locs ls w hl
  have hx := F.1.1
  have hb := F.1.2.1
  rw [f_X4_keyWith] at h
  refine lv_iload_n (pc := 0) hx hb dX4_keyWith_0 rfl (lv_at hl 1 rfl) ?_
  refine lv_iconst (pc := 1) (v := 3) hx hb dX4_keyWith_1 (by decide) ?_
  refine lv_icmp_ge (pc := 2) (tgt := 14) hx hb dX4_keyWith_2 (by decide) (fun q => ?_) (fun q => ?_)
  · have h := ite_t q h
    refine lv_iload_n (pc := 14) hx hb dX4_keyWith_14 rfl (lv_at hl 0 rfl) ?_
    exact s_iret F w h dX4_keyWith_15
  · have h := ite_f q h
    refine lv_bipush (pc := 5) (v := 6) hx hb dX4_keyWith_5 (by decide) ?_
    refine lv_iload_n (pc := 7) hx hb dX4_keyWith_7 rfl (lv_at hl 0 rfl) ?_
    refine lv_imul (pc := 8) hx hb dX4_keyWith_8 ?_
    refine lv_iload_n (pc := 9) hx hb dX4_keyWith_9 rfl (lv_at hl 2 rfl) ?_
    refine lv_iadd (pc := 10) hx hb dX4_keyWith_10 ?_
    refine lv_goto (pc := 11) (tgt := 15) hx hb dX4_keyWith_11 (by decide) ?_
    exact s_iret F w h dX4_keyWith_15
def f_X4_rankOf_goal_L16 (K7 : Int32 → Int32 → Int32 → SS → Option (Int32 × SS)) : Nat → Int32 → Int32 → Int32 → Int32 → SS → Option (Int32 × SS)
  | 0, _, _, _, _, _ => none
  | n + 1, x2, x3, x4, x5, S =>
    bnd (f_X7_height_goal x4 S) (fun r4 S3 =>
    if r4 ≤ x5 then
      bnd (f_X4_keyWith x3 x4 x2 S3) (fun r6 S5 =>
      nm (x4 + (1 : Int32)) (fun z7 =>
      K7 x2 r6 z7 S5))
    else
      bnd (f_X7_wagonAt_goal x4 x5 S3) (fun r9 S8 =>
      if r9 < 0 then
        some ((-4 : Int32), S8)
      else
        if (10 : Int32) ≤ r9 then
          some ((-4 : Int32), S8)
        else
          grd (inb r9 10) (
          if (S8.1 49 r9.toNatClampNeg) = (-4 : Int32) then
            some ((-4 : Int32), S8)
          else
            if x2 < (S8.1 10 5) then
              grd (inb r9 10) (
              grd (inb x2 5) (wr S8 50 x2.toNatClampNeg (S8.1 49 r9.toNatClampNeg) (fun S10 =>
              nm (x2 + (1 : Int32)) (fun z11 =>
              nm (x5 + (1 : Int32)) (fun z12 =>
              f_X4_rankOf_goal_L16 K7 n z11 x3 x4 z12 S10)))))
            else
              some ((-4 : Int32), S8))))
def f_X4_rankOf_goal_L7  : Nat → Int32 → Int32 → Int32 → SS → Option (Int32 × SS)
  | 0, _, _, _, _ => none
  | n + 1, x2, x3, x4, S =>
    if (4 : Int32) ≤ x4 then
      if x2 = (S.1 10 5) then
        bnd (f_X4_orderOf_Potentials_sequence  S) (fun r2 S1 =>
        grd (inb x3 216) (
        some ((r2 * (S1.1 10 7)) + (S1.1 53 x3.toNatClampNeg), S1)))
      else
        some ((-4 : Int32), S)
    else
      f_X4_rankOf_goal_L16 (fun v0 v1 v2 S => f_X4_rankOf_goal_L7 n v0 v1 v2 S) NF x2 x3 x4 (0 : Int32) S
def f_X4_rankOf_goal  (S : SS) : Option (Int32 × SS) :=
  f_X4_rankOf_goal_L7 NF (0 : Int32) (0 : Int32) (0 : Int32) S
theorem dX4_rankOf_0 : decode cX4_rankOf 0 = .ok (.iconst 0, 1) := by decide +kernel
theorem dX4_rankOf_1 : decode cX4_rankOf 1 = .ok (.istore_n 2, 1) := by decide +kernel
theorem dX4_rankOf_2 : decode cX4_rankOf 2 = .ok (.iconst 0, 1) := by decide +kernel
theorem dX4_rankOf_3 : decode cX4_rankOf 3 = .ok (.istore_n 3, 1) := by decide +kernel
theorem dX4_rankOf_4 : decode cX4_rankOf 4 = .ok (.iconst 0, 1) := by decide +kernel
theorem dX4_rankOf_5 : decode cX4_rankOf 5 = .ok (.istore 4, 2) := by decide +kernel
theorem dX4_rankOf_7 : decode cX4_rankOf 7 = .ok (.iload 4, 2) := by decide +kernel
theorem dX4_rankOf_9 : decode cX4_rankOf 9 = .ok (.iconst 4, 1) := by decide +kernel
theorem dX4_rankOf_10 : decode cX4_rankOf 10 = .ok (.if_icmp .ge 98, 3) := by decide +kernel
theorem dX4_rankOf_13 : decode cX4_rankOf 13 = .ok (.iconst 0, 1) := by decide +kernel
theorem dX4_rankOf_14 : decode cX4_rankOf 14 = .ok (.istore 5, 2) := by decide +kernel
theorem dX4_rankOf_16 : decode cX4_rankOf 16 = .ok (.iload 5, 2) := by decide +kernel
theorem dX4_rankOf_18 : decode cX4_rankOf 18 = .ok (.aload_n 1, 1) := by decide +kernel
theorem dX4_rankOf_19 : decode cX4_rankOf 19 = .ok (.iload 4, 2) := by decide +kernel
theorem dX4_rankOf_21 : decode cX4_rankOf 21 = .ok (.invokevirtual 67, 3) := by decide +kernel
theorem dX4_rankOf_24 : decode cX4_rankOf 24 = .ok (.if_icmp .ge 70, 3) := by decide +kernel
theorem dX4_rankOf_27 : decode cX4_rankOf 27 = .ok (.aload_n 1, 1) := by decide +kernel
theorem dX4_rankOf_28 : decode cX4_rankOf 28 = .ok (.iload 4, 2) := by decide +kernel
theorem dX4_rankOf_30 : decode cX4_rankOf 30 = .ok (.iload 5, 2) := by decide +kernel
theorem dX4_rankOf_32 : decode cX4_rankOf 32 = .ok (.invokevirtual 71, 3) := by decide +kernel
theorem dX4_rankOf_35 : decode cX4_rankOf 35 = .ok (.istore 6, 2) := by decide +kernel
theorem dX4_rankOf_37 : decode cX4_rankOf 37 = .ok (.iload 6, 2) := by decide +kernel
theorem dX4_rankOf_39 : decode cX4_rankOf 39 = .ok (.ifCond .lt 30, 3) := by decide +kernel
theorem dX4_rankOf_42 : decode cX4_rankOf 42 = .ok (.iload 6, 2) := by decide +kernel
theorem dX4_rankOf_44 : decode cX4_rankOf 44 = .ok (.bipush 10, 2) := by decide +kernel
theorem dX4_rankOf_46 : decode cX4_rankOf 46 = .ok (.if_icmp .ge 23, 3) := by decide +kernel
theorem dX4_rankOf_49 : decode cX4_rankOf 49 = .ok (.aload_n 0, 1) := by decide +kernel
theorem dX4_rankOf_50 : decode cX4_rankOf 50 = .ok (.getfield 11, 3) := by decide +kernel
theorem dX4_rankOf_53 : decode cX4_rankOf 53 = .ok (.iload 6, 2) := by decide +kernel
theorem dX4_rankOf_55 : decode cX4_rankOf 55 = .ok (.iaload, 1) := by decide +kernel
theorem dX4_rankOf_56 : decode cX4_rankOf 56 = .ok (.bipush (-4), 2) := by decide +kernel
theorem dX4_rankOf_58 : decode cX4_rankOf 58 = .ok (.if_icmp .eq 11, 3) := by decide +kernel
theorem dX4_rankOf_61 : decode cX4_rankOf 61 = .ok (.iload_n 2, 1) := by decide +kernel
theorem dX4_rankOf_62 : decode cX4_rankOf 62 = .ok (.aload_n 0, 1) := by decide +kernel
theorem dX4_rankOf_63 : decode cX4_rankOf 63 = .ok (.getfield 29, 3) := by decide +kernel
theorem dX4_rankOf_66 : decode cX4_rankOf 66 = .ok (.if_icmp .lt 6, 3) := by decide +kernel
theorem dX4_rankOf_69 : decode cX4_rankOf 69 = .ok (.bipush (-4), 2) := by decide +kernel
theorem dX4_rankOf_71 : decode cX4_rankOf 71 = .ok (.ireturn, 1) := by decide +kernel
theorem dX4_rankOf_72 : decode cX4_rankOf 72 = .ok (.aload_n 0, 1) := by decide +kernel
theorem dX4_rankOf_73 : decode cX4_rankOf 73 = .ok (.getfield 17, 3) := by decide +kernel
theorem dX4_rankOf_76 : decode cX4_rankOf 76 = .ok (.iload_n 2, 1) := by decide +kernel
theorem dX4_rankOf_77 : decode cX4_rankOf 77 = .ok (.aload_n 0, 1) := by decide +kernel
theorem dX4_rankOf_78 : decode cX4_rankOf 78 = .ok (.getfield 11, 3) := by decide +kernel
theorem dX4_rankOf_81 : decode cX4_rankOf 81 = .ok (.iload 6, 2) := by decide +kernel
theorem dX4_rankOf_83 : decode cX4_rankOf 83 = .ok (.iaload, 1) := by decide +kernel
theorem dX4_rankOf_84 : decode cX4_rankOf 84 = .ok (.iastore, 1) := by decide +kernel
theorem dX4_rankOf_85 : decode cX4_rankOf 85 = .ok (.iinc 2 1, 3) := by decide +kernel
theorem dX4_rankOf_88 : decode cX4_rankOf 88 = .ok (.iinc 5 1, 3) := by decide +kernel
theorem dX4_rankOf_91 : decode cX4_rankOf 91 = .ok (.goto (-75), 3) := by decide +kernel
theorem dX4_rankOf_94 : decode cX4_rankOf 94 = .ok (.iload_n 3, 1) := by decide +kernel
theorem dX4_rankOf_95 : decode cX4_rankOf 95 = .ok (.iload 4, 2) := by decide +kernel
theorem dX4_rankOf_97 : decode cX4_rankOf 97 = .ok (.iload_n 2, 1) := by decide +kernel
theorem dX4_rankOf_98 : decode cX4_rankOf 98 = .ok (.invokestatic 75, 3) := by decide +kernel
theorem dX4_rankOf_101 : decode cX4_rankOf 101 = .ok (.istore_n 3, 1) := by decide +kernel
theorem dX4_rankOf_102 : decode cX4_rankOf 102 = .ok (.iinc 4 1, 3) := by decide +kernel
theorem dX4_rankOf_105 : decode cX4_rankOf 105 = .ok (.goto (-98), 3) := by decide +kernel
theorem dX4_rankOf_108 : decode cX4_rankOf 108 = .ok (.iload_n 2, 1) := by decide +kernel
theorem dX4_rankOf_109 : decode cX4_rankOf 109 = .ok (.aload_n 0, 1) := by decide +kernel
theorem dX4_rankOf_110 : decode cX4_rankOf 110 = .ok (.getfield 29, 3) := by decide +kernel
theorem dX4_rankOf_113 : decode cX4_rankOf 113 = .ok (.if_icmp .ne 26, 3) := by decide +kernel
theorem dX4_rankOf_116 : decode cX4_rankOf 116 = .ok (.aload_n 0, 1) := by decide +kernel
theorem dX4_rankOf_117 : decode cX4_rankOf 117 = .ok (.aload_n 0, 1) := by decide +kernel
theorem dX4_rankOf_118 : decode cX4_rankOf 118 = .ok (.getfield 17, 3) := by decide +kernel
theorem dX4_rankOf_121 : decode cX4_rankOf 121 = .ok (.invokevirtual 79, 3) := by decide +kernel
theorem dX4_rankOf_124 : decode cX4_rankOf 124 = .ok (.aload_n 0, 1) := by decide +kernel
theorem dX4_rankOf_125 : decode cX4_rankOf 125 = .ok (.getfield 36, 3) := by decide +kernel
theorem dX4_rankOf_128 : decode cX4_rankOf 128 = .ok (.imul, 1) := by decide +kernel
theorem dX4_rankOf_129 : decode cX4_rankOf 129 = .ok (.aload_n 0, 1) := by decide +kernel
theorem dX4_rankOf_130 : decode cX4_rankOf 130 = .ok (.getfield 26, 3) := by decide +kernel
theorem dX4_rankOf_133 : decode cX4_rankOf 133 = .ok (.iload_n 3, 1) := by decide +kernel
theorem dX4_rankOf_134 : decode cX4_rankOf 134 = .ok (.iaload, 1) := by decide +kernel
theorem dX4_rankOf_135 : decode cX4_rankOf 135 = .ok (.iadd, 1) := by decide +kernel
theorem dX4_rankOf_136 : decode cX4_rankOf 136 = .ok (.goto 5, 3) := by decide +kernel
theorem dX4_rankOf_139 : decode cX4_rankOf 139 = .ok (.bipush (-4), 2) := by decide +kernel
theorem dX4_rankOf_141 : decode cX4_rankOf 141 = .ok (.ireturn, 1) := by decide +kernel
set_option maxRecDepth 100000 in
set_option maxHeartbeats 4000000 in
theorem w_X4_rankOf_goal_L16 {p : Program} {l : Launch} {e : Env} {R : Room} {s : State} {m : MethodId} {args : Array Value} {below : List Frame} {meth : Method} {c : Code} {dC : Nat → ClassId} {dI : Nat → Nat → Nat} {cs : Nat → ClassId} {ad : Nat → Nat} {A : Nat → Prop} {D0 : Nat → Nat} {S' : SS} {r : Int32} (F : Fx p s m args meth c cX4_rankOf 7 RX4 (some .int) dC dI cs A) (hR1 : 1 ≤ R.frames) (hR2 : 23 ≤ R.locals) (K7 : Int32 → Int32 → Int32 → SS → Option (Int32 × SS)) (hK7 : ∀ (v0 : Int32) (v1 : Int32) (v2 : Int32) (S : SS), K7 v0 v1 v2 S = some (r, S') → AW p l e R s m args below meth c dC dI cs ad A D0 (some (.int r)) S' 7 7 [(0, .ref (ad 10)), (1, .ref (ad 12)), (2, .int v0), (3, .int v1), (4, .int v2)] [] S) : ∀ (n : Nat) (x2 : Int32) (x3 : Int32) (x4 : Int32) (x5 : Int32) (S : SS), f_X4_rankOf_goal_L16 K7 n x2 x3 x4 x5 S = some (r, S') → AW p l e R s m args below meth c dC dI cs ad A D0 (some (.int r)) S' 7 16 [(0, .ref (ad 10)), (1, .ref (ad 12)), (2, .int x2), (3, .int x3), (4, .int x4), (5, .int x5)] [] S := by
  have hx := F.1.1
  have hb := F.1.2.1
  intro n
  induction n with
  | zero => intro x2 x3 x4 x5 S h; cases h
  | succ n ih =>
    intro x2 x3 x4 x5 S h H locs ls w hl
    rw [f_X4_rankOf_goal_L16] at h
    refine lv_iload (pc := 16) hx hb dX4_rankOf_16 (lv_at hl 5 rfl) ?_
    refine lv_aload_n (pc := 18) hx hb dX4_rankOf_18 rfl (lv_at hl 1 rfl) ?_
    refine lv_iload (pc := 19) hx hb dX4_rankOf_19 (lv_at hl 4 rfl) ?_
    obtain ⟨r4, S3, hc, h⟩ := bnd_t h
    refine s_cvi (pc := 21) [.int x4] (fun ad => [.ref (ad 12), .int x4]) F w (m_X7_height_goal _ _ _ _ hc) rfl rfl hl.1 ds_12 vc_X7 rfl ok_X7_height rfl kc_X7_height kl_X4_67 ki_X7_height kv_X7_height kn_X7 ⟨Nat.le_trans (by decide) hR1, Nat.le_trans (by decide) hR2⟩ ⟨Nat.zero_le _, Nat.zero_le _⟩ (Nat.le_of_ble_eq_true rfl) dX4_rankOf_21 (fun H locs w => ?_)
    refine lv_icmp_ge (pc := 24) (tgt := 94) hx hb dX4_rankOf_24 (by decide) (fun q => ?_) (fun q => ?_)
    · have h := ite_t q h
      refine lv_iload_n (pc := 94) hx hb dX4_rankOf_94 rfl (lv_at hl 3 rfl) ?_
      refine lv_iload (pc := 95) hx hb dX4_rankOf_95 (lv_at hl 4 rfl) ?_
      refine lv_iload_n (pc := 97) hx hb dX4_rankOf_97 rfl (lv_at hl 2 rfl) ?_
      obtain ⟨r6, S5, hc, h⟩ := bnd_t h
      refine s_csi (pc := 98) [.int x3, .int x4, .int x2] (fun ad => [.int x3, .int x4, .int x2]) F w (m_X4_keyWith _ _ _ _ _ _ hc) rfl rfl hl.1 ok_X4_keyWith rfl kc_X4_keyWith kl_X4_75 ks_X4_keyWith kn_X4 ⟨Nat.le_trans (by decide) hR1, Nat.le_trans (by decide) hR2⟩ ⟨Nat.zero_le _, Nat.zero_le _⟩ (Nat.le_of_ble_eq_true rfl) dX4_rankOf_98 (fun H locs w => ?_)
      refine lv_istore_n (pc := 101) (lv' := [(3, .int r6), (0, .ref (ad 10)), (1, .ref (ad 12)), (2, .int x2), (4, .int x4), (5, .int x5)]) hx hb dX4_rankOf_101 rfl hl (by decide) rfl (fun ls hl => ?_)
      refine s_nm h (fun z7 ez7 h => ?_)
      refine lv_iinc (pc := 102) (v := z7) (lv' := [(4, .int z7), (3, .int r6), (0, .ref (ad 10)), (1, .ref (ad 12)), (2, .int x2), (5, .int x5)]) hx hb dX4_rankOf_102 hl (k := 4) rfl (by rw [ez7]; rfl) (by decide) rfl (fun ls hl => ?_)
      refine lv_goto (pc := 105) (tgt := 7) hx hb dX4_rankOf_105 (by decide) ?_
      exact hK7 _ _ _ _ h _ _ _ w (lv_sub hl [2, 3, 4, 1, 0] rfl)
    · have h := ite_f q h
      refine lv_aload_n (pc := 27) hx hb dX4_rankOf_27 rfl (lv_at hl 1 rfl) ?_
      refine lv_iload (pc := 28) hx hb dX4_rankOf_28 (lv_at hl 4 rfl) ?_
      refine lv_iload (pc := 30) hx hb dX4_rankOf_30 (lv_at hl 5 rfl) ?_
      obtain ⟨r9, S8, hc, h⟩ := bnd_t h
      refine s_cvi (pc := 32) [.int x4, .int x5] (fun ad => [.ref (ad 12), .int x4, .int x5]) F w (m_X7_wagonAt_goal _ _ _ _ _ hc) rfl rfl hl.1 ds_12 vc_X7 rfl ok_X7_wagonAt rfl kc_X7_wagonAt kl_X4_71 ki_X7_wagonAt kv_X7_wagonAt kn_X7 ⟨Nat.le_trans (by decide) hR1, Nat.le_trans (by decide) hR2⟩ ⟨Nat.zero_le _, Nat.zero_le _⟩ (Nat.le_of_ble_eq_true rfl) dX4_rankOf_32 (fun H locs w => ?_)
      refine lv_istore (pc := 35) (lv' := [(6, .int r9), (0, .ref (ad 10)), (1, .ref (ad 12)), (2, .int x2), (3, .int x3), (4, .int x4), (5, .int x5)]) hx hb dX4_rankOf_35 hl (by decide) rfl (fun ls hl => ?_)
      refine lv_iload (pc := 37) hx hb dX4_rankOf_37 (lv_at hl 0 rfl) ?_
      refine lv_if_lt (pc := 39) (tgt := 69) hx hb dX4_rankOf_39 (by decide) (fun q => ?_) (fun q => ?_)
      · have h := ite_t q h
        refine lv_bipush (pc := 69) (v := -4) hx hb dX4_rankOf_69 (by decide) ?_
        exact s_iret F w h dX4_rankOf_71
      · have h := ite_f q h
        refine lv_iload (pc := 42) hx hb dX4_rankOf_42 (lv_at hl 0 rfl) ?_
        refine lv_bipush (pc := 44) (v := 10) hx hb dX4_rankOf_44 (by decide) ?_
        refine lv_icmp_ge (pc := 46) (tgt := 69) hx hb dX4_rankOf_46 (by decide) (fun q => ?_) (fun q => ?_)
        · have h := ite_t q h
          refine lv_bipush (pc := 69) (v := -4) hx hb dX4_rankOf_69 (by decide) ?_
          exact s_iret F w h dX4_rankOf_71
        · have h := ite_f q h
          refine lv_aload_n (pc := 49) hx hb dX4_rankOf_49 rfl (lv_at hl 1 rfl) ?_
          refine s_getR (pc := 50) F w 49 ds_10 (j := 0) vc_X4 vi_X4 rfl (by decide) kf_X4_11 dX4_rankOf_50 ?_
          refine lv_iload (pc := 53) hx hb dX4_rankOf_53 (lv_at hl 0 rfl) ?_
          refine s_iald (pc := 55) F w ds_49 h dX4_rankOf_55 (fun h => ?_)
          refine lv_bipush (pc := 56) (v := -4) hx hb dX4_rankOf_56 (by decide) ?_
          refine lv_icmp_eq (pc := 58) (tgt := 69) hx hb dX4_rankOf_58 (by decide) (fun q => ?_) (fun q => ?_)
          · have h := ite_t q h
            refine lv_bipush (pc := 69) (v := -4) hx hb dX4_rankOf_69 (by decide) ?_
            exact s_iret F w h dX4_rankOf_71
          · have h := ite_f q h
            refine lv_iload_n (pc := 61) hx hb dX4_rankOf_61 rfl (lv_at hl 3 rfl) ?_
            refine lv_aload_n (pc := 62) hx hb dX4_rankOf_62 rfl (lv_at hl 1 rfl) ?_
            refine s_getI (pc := 63) F w ds_10 (j := 5) vc_X4 vi_X4 rfl (by decide) kf_X4_29 dX4_rankOf_63 ?_
            refine lv_icmp_lt (pc := 66) (tgt := 72) hx hb dX4_rankOf_66 (by decide) (fun q => ?_) (fun q => ?_)
            · have h := ite_t q h
              refine lv_aload_n (pc := 72) hx hb dX4_rankOf_72 rfl (lv_at hl 1 rfl) ?_
              refine s_getR (pc := 73) F w 50 ds_10 (j := 1) vc_X4 vi_X4 rfl (by decide) kf_X4_17 dX4_rankOf_73 ?_
              refine lv_iload_n (pc := 76) hx hb dX4_rankOf_76 rfl (lv_at hl 3 rfl) ?_
              refine lv_aload_n (pc := 77) hx hb dX4_rankOf_77 rfl (lv_at hl 1 rfl) ?_
              refine s_getR (pc := 78) F w 49 ds_10 (j := 0) vc_X4 vi_X4 rfl (by decide) kf_X4_11 dX4_rankOf_78 ?_
              refine lv_iload (pc := 81) hx hb dX4_rankOf_81 (lv_at hl 0 rfl) ?_
              refine s_iald (pc := 83) F w ds_49 h dX4_rankOf_83 (fun h => ?_)
              refine s_iast (pc := 84) F w ds_50 h dX4_rankOf_84 (fun S10 H locs h w => ?_)
              refine s_nm h (fun z11 ez11 h => ?_)
              refine lv_iinc (pc := 85) (v := z11) (lv' := [(2, .int z11), (6, .int r9), (0, .ref (ad 10)), (1, .ref (ad 12)), (3, .int x3), (4, .int x4), (5, .int x5)]) hx hb dX4_rankOf_85 hl (k := 3) rfl (by rw [ez11]; rfl) (by decide) rfl (fun ls hl => ?_)
              refine s_nm h (fun z12 ez12 h => ?_)
              refine lv_iinc (pc := 88) (v := z12) (lv' := [(5, .int z12), (2, .int z11), (6, .int r9), (0, .ref (ad 10)), (1, .ref (ad 12)), (3, .int x3), (4, .int x4)]) hx hb dX4_rankOf_88 hl (k := 6) rfl (by rw [ez12]; rfl) (by decide) rfl (fun ls hl => ?_)
              refine lv_goto (pc := 91) (tgt := 16) hx hb dX4_rankOf_91 (by decide) ?_
              exact ih _ _ _ _ _ h _ _ _ w (lv_sub hl [3, 4, 1, 5, 6, 0] rfl)
            · have h := ite_f q h
              refine lv_bipush (pc := 69) (v := -4) hx hb dX4_rankOf_69 (by decide) ?_
              exact s_iret F w h dX4_rankOf_71
set_option maxRecDepth 100000 in
set_option maxHeartbeats 4000000 in
theorem w_X4_rankOf_goal_L7 {p : Program} {l : Launch} {e : Env} {R : Room} {s : State} {m : MethodId} {args : Array Value} {below : List Frame} {meth : Method} {c : Code} {dC : Nat → ClassId} {dI : Nat → Nat → Nat} {cs : Nat → ClassId} {ad : Nat → Nat} {A : Nat → Prop} {D0 : Nat → Nat} {S' : SS} {r : Int32} (F : Fx p s m args meth c cX4_rankOf 7 RX4 (some .int) dC dI cs A) (hR1 : 2 ≤ R.frames) (hR2 : 44 ≤ R.locals) : ∀ (n : Nat) (x2 : Int32) (x3 : Int32) (x4 : Int32) (S : SS), f_X4_rankOf_goal_L7 n x2 x3 x4 S = some (r, S') → AW p l e R s m args below meth c dC dI cs ad A D0 (some (.int r)) S' 7 7 [(0, .ref (ad 10)), (1, .ref (ad 12)), (2, .int x2), (3, .int x3), (4, .int x4)] [] S := by
  have hx := F.1.1
  have hb := F.1.2.1
  intro n
  induction n with
  | zero => intro x2 x3 x4 S h; cases h
  | succ n ih =>
    intro x2 x3 x4 S h H locs ls w hl
    rw [f_X4_rankOf_goal_L7] at h
    refine lv_iload (pc := 7) hx hb dX4_rankOf_7 (lv_at hl 4 rfl) ?_
    refine lv_iconst (pc := 9) (v := 4) hx hb dX4_rankOf_9 (by decide) ?_
    refine lv_icmp_ge (pc := 10) (tgt := 108) hx hb dX4_rankOf_10 (by decide) (fun q => ?_) (fun q => ?_)
    · have h := ite_t q h
      refine lv_iload_n (pc := 108) hx hb dX4_rankOf_108 rfl (lv_at hl 2 rfl) ?_
      refine lv_aload_n (pc := 109) hx hb dX4_rankOf_109 rfl (lv_at hl 0 rfl) ?_
      refine s_getI (pc := 110) F w ds_10 (j := 5) vc_X4 vi_X4 rfl (by decide) kf_X4_29 dX4_rankOf_110 ?_
      refine lv_icmp_ne (pc := 113) (tgt := 139) hx hb dX4_rankOf_113 (by decide) (fun q => ?_) (fun q => ?_)
      · have h := ite_f q h
        refine lv_bipush (pc := 139) (v := -4) hx hb dX4_rankOf_139 (by decide) ?_
        exact s_iret F w h dX4_rankOf_141
      · have h := ite_t q h
        refine lv_aload_n (pc := 116) hx hb dX4_rankOf_116 rfl (lv_at hl 0 rfl) ?_
        refine lv_aload_n (pc := 117) hx hb dX4_rankOf_117 rfl (lv_at hl 0 rfl) ?_
        refine s_getR (pc := 118) F w 50 ds_10 (j := 1) vc_X4 vi_X4 rfl (by decide) kf_X4_17 dX4_rankOf_118 ?_
        obtain ⟨r2, S1, hc, h⟩ := bnd_t h
        refine s_cvi (pc := 121) [.ref (ad 50)] (fun ad => [.ref (ad 10), .ref (ad 50)]) F w (m_X4_orderOf_Potentials_sequence  _ _ _ hc) rfl rfl hl.1 ds_10 vc_X4 rfl ok_X4_orderOf rfl kc_X4_orderOf kl_X4_79 ki_X4_orderOf kv_X4_orderOf kn_X4 ⟨Nat.le_trans (by decide) hR1, Nat.le_trans (by decide) hR2⟩ ⟨Nat.zero_le _, Nat.zero_le _⟩ (Nat.le_of_ble_eq_true rfl) dX4_rankOf_121 (fun H locs w => ?_)
        refine lv_aload_n (pc := 124) hx hb dX4_rankOf_124 rfl (lv_at hl 0 rfl) ?_
        refine s_getI (pc := 125) F w ds_10 (j := 7) vc_X4 vi_X4 rfl (by decide) kf_X4_36 dX4_rankOf_125 ?_
        refine lv_imul (pc := 128) hx hb dX4_rankOf_128 ?_
        refine lv_aload_n (pc := 129) hx hb dX4_rankOf_129 rfl (lv_at hl 0 rfl) ?_
        refine s_getR (pc := 130) F w 53 ds_10 (j := 4) vc_X4 vi_X4 rfl (by decide) kf_X4_26 dX4_rankOf_130 ?_
        refine lv_iload_n (pc := 133) hx hb dX4_rankOf_133 rfl (lv_at hl 3 rfl) ?_
        refine s_iald (pc := 134) F w ds_53 h dX4_rankOf_134 (fun h => ?_)
        refine lv_iadd (pc := 135) hx hb dX4_rankOf_135 ?_
        refine lv_goto (pc := 136) (tgt := 141) hx hb dX4_rankOf_136 (by decide) ?_
        exact s_iret F w h dX4_rankOf_141
    · have h := ite_f q h
      refine lv_iconst (pc := 13) (v := 0) hx hb dX4_rankOf_13 (by decide) ?_
      refine lv_istore (pc := 14) (lv' := [(5, .int (0 : Int32)), (0, .ref (ad 10)), (1, .ref (ad 12)), (2, .int x2), (3, .int x3), (4, .int x4)]) hx hb dX4_rankOf_14 hl (by decide) rfl (fun ls hl => ?_)
      exact w_X4_rankOf_goal_L16 F (Nat.le_trans (by decide) hR1) (Nat.le_trans (by decide) hR2) _ (fun v0 v1 v2 S h => ih v0 v1 v2 S h) _ _ _ _ _ _ h _ _ _ w (lv_sub hl [1, 2, 3, 4, 5, 0] rfl)
set_option maxRecDepth 100000 in
set_option maxHeartbeats 4000000 in
theorem m_X4_rankOf_goal  (S S' : SS) (r : Int32) (h : f_X4_rankOf_goal  S = some (r, S')) : MT yX4_rankOf cX4_rankOf 7 (some .int) 2 44 (fun ad => [.ref (ad 10), .ref (ad 12)]) S (some (.int r)) S' := by
  refine MT.of RX4 (fun ad => [(0, .ref (ad 10)), (1, .ref (ad 12))]) (by decide) rfl (fun _ => Nat.le_of_ble_eq_true rfl) (fun _ => rfl) ?_
  intro p l e R s m args below meth c dC dI cs ad A hR1 hR2 F H locs ls w hl
  have hx := F.1.1
  have hb := F.1.2.1
  rw [f_X4_rankOf_goal] at h
  refine lv_iconst (pc := 0) (v := 0) hx hb dX4_rankOf_0 (by decide) ?_
  refine lv_istore_n (pc := 1) (lv' := [(2, .int (0 : Int32)), (0, .ref (ad 10)), (1, .ref (ad 12))]) hx hb dX4_rankOf_1 rfl hl (by decide) rfl (fun ls hl => ?_)
  refine lv_iconst (pc := 2) (v := 0) hx hb dX4_rankOf_2 (by decide) ?_
  refine lv_istore_n (pc := 3) (lv' := [(3, .int (0 : Int32)), (2, .int (0 : Int32)), (0, .ref (ad 10)), (1, .ref (ad 12))]) hx hb dX4_rankOf_3 rfl hl (by decide) rfl (fun ls hl => ?_)
  refine lv_iconst (pc := 4) (v := 0) hx hb dX4_rankOf_4 (by decide) ?_
  refine lv_istore (pc := 5) (lv' := [(4, .int (0 : Int32)), (3, .int (0 : Int32)), (2, .int (0 : Int32)), (0, .ref (ad 10)), (1, .ref (ad 12))]) hx hb dX4_rankOf_5 hl (by decide) rfl (fun ls hl => ?_)
  exact w_X4_rankOf_goal_L7 F (Nat.le_trans (by decide) hR1) (Nat.le_trans (by decide) hR2) _ _ _ _ _ h _ _ _ w (lv_sub hl [3, 4, 2, 1, 0] rfl)
def f_X4_rankOf_start_L16 (K7 : Int32 → Int32 → Int32 → SS → Option (Int32 × SS)) : Nat → Int32 → Int32 → Int32 → Int32 → SS → Option (Int32 × SS)
  | 0, _, _, _, _, _ => none
  | n + 1, x2, x3, x4, x5, S =>
    bnd (f_X7_height_start x4 S) (fun r4 S3 =>
    if r4 ≤ x5 then
      bnd (f_X4_keyWith x3 x4 x2 S3) (fun r6 S5 =>
      nm (x4 + (1 : Int32)) (fun z7 =>
      K7 x2 r6 z7 S5))
    else
      bnd (f_X7_wagonAt_start x4 x5 S3) (fun r9 S8 =>
      if r9 < 0 then
        some ((-4 : Int32), S8)
      else
        if (10 : Int32) ≤ r9 then
          some ((-4 : Int32), S8)
        else
          grd (inb r9 10) (
          if (S8.1 49 r9.toNatClampNeg) = (-4 : Int32) then
            some ((-4 : Int32), S8)
          else
            if x2 < (S8.1 10 5) then
              grd (inb r9 10) (
              grd (inb x2 5) (wr S8 50 x2.toNatClampNeg (S8.1 49 r9.toNatClampNeg) (fun S10 =>
              nm (x2 + (1 : Int32)) (fun z11 =>
              nm (x5 + (1 : Int32)) (fun z12 =>
              f_X4_rankOf_start_L16 K7 n z11 x3 x4 z12 S10)))))
            else
              some ((-4 : Int32), S8))))
def f_X4_rankOf_start_L7  : Nat → Int32 → Int32 → Int32 → SS → Option (Int32 × SS)
  | 0, _, _, _, _ => none
  | n + 1, x2, x3, x4, S =>
    if (4 : Int32) ≤ x4 then
      if x2 = (S.1 10 5) then
        bnd (f_X4_orderOf_Potentials_sequence  S) (fun r2 S1 =>
        grd (inb x3 216) (
        some ((r2 * (S1.1 10 7)) + (S1.1 53 x3.toNatClampNeg), S1)))
      else
        some ((-4 : Int32), S)
    else
      f_X4_rankOf_start_L16 (fun v0 v1 v2 S => f_X4_rankOf_start_L7 n v0 v1 v2 S) NF x2 x3 x4 (0 : Int32) S
def f_X4_rankOf_start  (S : SS) : Option (Int32 × SS) :=
  f_X4_rankOf_start_L7 NF (0 : Int32) (0 : Int32) (0 : Int32) S
set_option maxRecDepth 100000 in
set_option maxHeartbeats 4000000 in
theorem w_X4_rankOf_start_L16 {p : Program} {l : Launch} {e : Env} {R : Room} {s : State} {m : MethodId} {args : Array Value} {below : List Frame} {meth : Method} {c : Code} {dC : Nat → ClassId} {dI : Nat → Nat → Nat} {cs : Nat → ClassId} {ad : Nat → Nat} {A : Nat → Prop} {D0 : Nat → Nat} {S' : SS} {r : Int32} (F : Fx p s m args meth c cX4_rankOf 7 RX4 (some .int) dC dI cs A) (hR1 : 1 ≤ R.frames) (hR2 : 23 ≤ R.locals) (K7 : Int32 → Int32 → Int32 → SS → Option (Int32 × SS)) (hK7 : ∀ (v0 : Int32) (v1 : Int32) (v2 : Int32) (S : SS), K7 v0 v1 v2 S = some (r, S') → AW p l e R s m args below meth c dC dI cs ad A D0 (some (.int r)) S' 7 7 [(0, .ref (ad 10)), (1, .ref (ad 11)), (2, .int v0), (3, .int v1), (4, .int v2)] [] S) : ∀ (n : Nat) (x2 : Int32) (x3 : Int32) (x4 : Int32) (x5 : Int32) (S : SS), f_X4_rankOf_start_L16 K7 n x2 x3 x4 x5 S = some (r, S') → AW p l e R s m args below meth c dC dI cs ad A D0 (some (.int r)) S' 7 16 [(0, .ref (ad 10)), (1, .ref (ad 11)), (2, .int x2), (3, .int x3), (4, .int x4), (5, .int x5)] [] S := by
  have hx := F.1.1
  have hb := F.1.2.1
  intro n
  induction n with
  | zero => intro x2 x3 x4 x5 S h; cases h
  | succ n ih =>
    intro x2 x3 x4 x5 S h H locs ls w hl
    rw [f_X4_rankOf_start_L16] at h
    refine lv_iload (pc := 16) hx hb dX4_rankOf_16 (lv_at hl 5 rfl) ?_
    refine lv_aload_n (pc := 18) hx hb dX4_rankOf_18 rfl (lv_at hl 1 rfl) ?_
    refine lv_iload (pc := 19) hx hb dX4_rankOf_19 (lv_at hl 4 rfl) ?_
    obtain ⟨r4, S3, hc, h⟩ := bnd_t h
    refine s_cvi (pc := 21) [.int x4] (fun ad => [.ref (ad 11), .int x4]) F w (m_X7_height_start _ _ _ _ hc) rfl rfl hl.1 ds_11 vc_X7 rfl ok_X7_height rfl kc_X7_height kl_X4_67 ki_X7_height kv_X7_height kn_X7 ⟨Nat.le_trans (by decide) hR1, Nat.le_trans (by decide) hR2⟩ ⟨Nat.zero_le _, Nat.zero_le _⟩ (Nat.le_of_ble_eq_true rfl) dX4_rankOf_21 (fun H locs w => ?_)
    refine lv_icmp_ge (pc := 24) (tgt := 94) hx hb dX4_rankOf_24 (by decide) (fun q => ?_) (fun q => ?_)
    · have h := ite_t q h
      refine lv_iload_n (pc := 94) hx hb dX4_rankOf_94 rfl (lv_at hl 3 rfl) ?_
      refine lv_iload (pc := 95) hx hb dX4_rankOf_95 (lv_at hl 4 rfl) ?_
      refine lv_iload_n (pc := 97) hx hb dX4_rankOf_97 rfl (lv_at hl 2 rfl) ?_
      obtain ⟨r6, S5, hc, h⟩ := bnd_t h
      refine s_csi (pc := 98) [.int x3, .int x4, .int x2] (fun ad => [.int x3, .int x4, .int x2]) F w (m_X4_keyWith _ _ _ _ _ _ hc) rfl rfl hl.1 ok_X4_keyWith rfl kc_X4_keyWith kl_X4_75 ks_X4_keyWith kn_X4 ⟨Nat.le_trans (by decide) hR1, Nat.le_trans (by decide) hR2⟩ ⟨Nat.zero_le _, Nat.zero_le _⟩ (Nat.le_of_ble_eq_true rfl) dX4_rankOf_98 (fun H locs w => ?_)
      refine lv_istore_n (pc := 101) (lv' := [(3, .int r6), (0, .ref (ad 10)), (1, .ref (ad 11)), (2, .int x2), (4, .int x4), (5, .int x5)]) hx hb dX4_rankOf_101 rfl hl (by decide) rfl (fun ls hl => ?_)
      refine s_nm h (fun z7 ez7 h => ?_)
      refine lv_iinc (pc := 102) (v := z7) (lv' := [(4, .int z7), (3, .int r6), (0, .ref (ad 10)), (1, .ref (ad 11)), (2, .int x2), (5, .int x5)]) hx hb dX4_rankOf_102 hl (k := 4) rfl (by rw [ez7]; rfl) (by decide) rfl (fun ls hl => ?_)
      refine lv_goto (pc := 105) (tgt := 7) hx hb dX4_rankOf_105 (by decide) ?_
      exact hK7 _ _ _ _ h _ _ _ w (lv_sub hl [2, 3, 4, 1, 0] rfl)
    · have h := ite_f q h
      refine lv_aload_n (pc := 27) hx hb dX4_rankOf_27 rfl (lv_at hl 1 rfl) ?_
      refine lv_iload (pc := 28) hx hb dX4_rankOf_28 (lv_at hl 4 rfl) ?_
      refine lv_iload (pc := 30) hx hb dX4_rankOf_30 (lv_at hl 5 rfl) ?_
      obtain ⟨r9, S8, hc, h⟩ := bnd_t h
      refine s_cvi (pc := 32) [.int x4, .int x5] (fun ad => [.ref (ad 11), .int x4, .int x5]) F w (m_X7_wagonAt_start _ _ _ _ _ hc) rfl rfl hl.1 ds_11 vc_X7 rfl ok_X7_wagonAt rfl kc_X7_wagonAt kl_X4_71 ki_X7_wagonAt kv_X7_wagonAt kn_X7 ⟨Nat.le_trans (by decide) hR1, Nat.le_trans (by decide) hR2⟩ ⟨Nat.zero_le _, Nat.zero_le _⟩ (Nat.le_of_ble_eq_true rfl) dX4_rankOf_32 (fun H locs w => ?_)
      refine lv_istore (pc := 35) (lv' := [(6, .int r9), (0, .ref (ad 10)), (1, .ref (ad 11)), (2, .int x2), (3, .int x3), (4, .int x4), (5, .int x5)]) hx hb dX4_rankOf_35 hl (by decide) rfl (fun ls hl => ?_)
      refine lv_iload (pc := 37) hx hb dX4_rankOf_37 (lv_at hl 0 rfl) ?_
      refine lv_if_lt (pc := 39) (tgt := 69) hx hb dX4_rankOf_39 (by decide) (fun q => ?_) (fun q => ?_)
      · have h := ite_t q h
        refine lv_bipush (pc := 69) (v := -4) hx hb dX4_rankOf_69 (by decide) ?_
        exact s_iret F w h dX4_rankOf_71
      · have h := ite_f q h
        refine lv_iload (pc := 42) hx hb dX4_rankOf_42 (lv_at hl 0 rfl) ?_
        refine lv_bipush (pc := 44) (v := 10) hx hb dX4_rankOf_44 (by decide) ?_
        refine lv_icmp_ge (pc := 46) (tgt := 69) hx hb dX4_rankOf_46 (by decide) (fun q => ?_) (fun q => ?_)
        · have h := ite_t q h
          refine lv_bipush (pc := 69) (v := -4) hx hb dX4_rankOf_69 (by decide) ?_
          exact s_iret F w h dX4_rankOf_71
        · have h := ite_f q h
          refine lv_aload_n (pc := 49) hx hb dX4_rankOf_49 rfl (lv_at hl 1 rfl) ?_
          refine s_getR (pc := 50) F w 49 ds_10 (j := 0) vc_X4 vi_X4 rfl (by decide) kf_X4_11 dX4_rankOf_50 ?_
          refine lv_iload (pc := 53) hx hb dX4_rankOf_53 (lv_at hl 0 rfl) ?_
          refine s_iald (pc := 55) F w ds_49 h dX4_rankOf_55 (fun h => ?_)
          refine lv_bipush (pc := 56) (v := -4) hx hb dX4_rankOf_56 (by decide) ?_
          refine lv_icmp_eq (pc := 58) (tgt := 69) hx hb dX4_rankOf_58 (by decide) (fun q => ?_) (fun q => ?_)
          · have h := ite_t q h
            refine lv_bipush (pc := 69) (v := -4) hx hb dX4_rankOf_69 (by decide) ?_
            exact s_iret F w h dX4_rankOf_71
          · have h := ite_f q h
            refine lv_iload_n (pc := 61) hx hb dX4_rankOf_61 rfl (lv_at hl 3 rfl) ?_
            refine lv_aload_n (pc := 62) hx hb dX4_rankOf_62 rfl (lv_at hl 1 rfl) ?_
            refine s_getI (pc := 63) F w ds_10 (j := 5) vc_X4 vi_X4 rfl (by decide) kf_X4_29 dX4_rankOf_63 ?_
            refine lv_icmp_lt (pc := 66) (tgt := 72) hx hb dX4_rankOf_66 (by decide) (fun q => ?_) (fun q => ?_)
            · have h := ite_t q h
              refine lv_aload_n (pc := 72) hx hb dX4_rankOf_72 rfl (lv_at hl 1 rfl) ?_
              refine s_getR (pc := 73) F w 50 ds_10 (j := 1) vc_X4 vi_X4 rfl (by decide) kf_X4_17 dX4_rankOf_73 ?_
              refine lv_iload_n (pc := 76) hx hb dX4_rankOf_76 rfl (lv_at hl 3 rfl) ?_
              refine lv_aload_n (pc := 77) hx hb dX4_rankOf_77 rfl (lv_at hl 1 rfl) ?_
              refine s_getR (pc := 78) F w 49 ds_10 (j := 0) vc_X4 vi_X4 rfl (by decide) kf_X4_11 dX4_rankOf_78 ?_
              refine lv_iload (pc := 81) hx hb dX4_rankOf_81 (lv_at hl 0 rfl) ?_
              refine s_iald (pc := 83) F w ds_49 h dX4_rankOf_83 (fun h => ?_)
              refine s_iast (pc := 84) F w ds_50 h dX4_rankOf_84 (fun S10 H locs h w => ?_)
              refine s_nm h (fun z11 ez11 h => ?_)
              refine lv_iinc (pc := 85) (v := z11) (lv' := [(2, .int z11), (6, .int r9), (0, .ref (ad 10)), (1, .ref (ad 11)), (3, .int x3), (4, .int x4), (5, .int x5)]) hx hb dX4_rankOf_85 hl (k := 3) rfl (by rw [ez11]; rfl) (by decide) rfl (fun ls hl => ?_)
              refine s_nm h (fun z12 ez12 h => ?_)
              refine lv_iinc (pc := 88) (v := z12) (lv' := [(5, .int z12), (2, .int z11), (6, .int r9), (0, .ref (ad 10)), (1, .ref (ad 11)), (3, .int x3), (4, .int x4)]) hx hb dX4_rankOf_88 hl (k := 6) rfl (by rw [ez12]; rfl) (by decide) rfl (fun ls hl => ?_)
              refine lv_goto (pc := 91) (tgt := 16) hx hb dX4_rankOf_91 (by decide) ?_
              exact ih _ _ _ _ _ h _ _ _ w (lv_sub hl [3, 4, 1, 5, 6, 0] rfl)
            · have h := ite_f q h
              refine lv_bipush (pc := 69) (v := -4) hx hb dX4_rankOf_69 (by decide) ?_
              exact s_iret F w h dX4_rankOf_71
set_option maxRecDepth 100000 in
set_option maxHeartbeats 4000000 in
theorem w_X4_rankOf_start_L7 {p : Program} {l : Launch} {e : Env} {R : Room} {s : State} {m : MethodId} {args : Array Value} {below : List Frame} {meth : Method} {c : Code} {dC : Nat → ClassId} {dI : Nat → Nat → Nat} {cs : Nat → ClassId} {ad : Nat → Nat} {A : Nat → Prop} {D0 : Nat → Nat} {S' : SS} {r : Int32} (F : Fx p s m args meth c cX4_rankOf 7 RX4 (some .int) dC dI cs A) (hR1 : 2 ≤ R.frames) (hR2 : 44 ≤ R.locals) : ∀ (n : Nat) (x2 : Int32) (x3 : Int32) (x4 : Int32) (S : SS), f_X4_rankOf_start_L7 n x2 x3 x4 S = some (r, S') → AW p l e R s m args below meth c dC dI cs ad A D0 (some (.int r)) S' 7 7 [(0, .ref (ad 10)), (1, .ref (ad 11)), (2, .int x2), (3, .int x3), (4, .int x4)] [] S := by
  have hx := F.1.1
  have hb := F.1.2.1
  intro n
  induction n with
  | zero => intro x2 x3 x4 S h; cases h
  | succ n ih =>
    intro x2 x3 x4 S h H locs ls w hl
    rw [f_X4_rankOf_start_L7] at h
    refine lv_iload (pc := 7) hx hb dX4_rankOf_7 (lv_at hl 4 rfl) ?_
    refine lv_iconst (pc := 9) (v := 4) hx hb dX4_rankOf_9 (by decide) ?_
    refine lv_icmp_ge (pc := 10) (tgt := 108) hx hb dX4_rankOf_10 (by decide) (fun q => ?_) (fun q => ?_)
    · have h := ite_t q h
      refine lv_iload_n (pc := 108) hx hb dX4_rankOf_108 rfl (lv_at hl 2 rfl) ?_
      refine lv_aload_n (pc := 109) hx hb dX4_rankOf_109 rfl (lv_at hl 0 rfl) ?_
      refine s_getI (pc := 110) F w ds_10 (j := 5) vc_X4 vi_X4 rfl (by decide) kf_X4_29 dX4_rankOf_110 ?_
      refine lv_icmp_ne (pc := 113) (tgt := 139) hx hb dX4_rankOf_113 (by decide) (fun q => ?_) (fun q => ?_)
      · have h := ite_f q h
        refine lv_bipush (pc := 139) (v := -4) hx hb dX4_rankOf_139 (by decide) ?_
        exact s_iret F w h dX4_rankOf_141
      · have h := ite_t q h
        refine lv_aload_n (pc := 116) hx hb dX4_rankOf_116 rfl (lv_at hl 0 rfl) ?_
        refine lv_aload_n (pc := 117) hx hb dX4_rankOf_117 rfl (lv_at hl 0 rfl) ?_
        refine s_getR (pc := 118) F w 50 ds_10 (j := 1) vc_X4 vi_X4 rfl (by decide) kf_X4_17 dX4_rankOf_118 ?_
        obtain ⟨r2, S1, hc, h⟩ := bnd_t h
        refine s_cvi (pc := 121) [.ref (ad 50)] (fun ad => [.ref (ad 10), .ref (ad 50)]) F w (m_X4_orderOf_Potentials_sequence  _ _ _ hc) rfl rfl hl.1 ds_10 vc_X4 rfl ok_X4_orderOf rfl kc_X4_orderOf kl_X4_79 ki_X4_orderOf kv_X4_orderOf kn_X4 ⟨Nat.le_trans (by decide) hR1, Nat.le_trans (by decide) hR2⟩ ⟨Nat.zero_le _, Nat.zero_le _⟩ (Nat.le_of_ble_eq_true rfl) dX4_rankOf_121 (fun H locs w => ?_)
        refine lv_aload_n (pc := 124) hx hb dX4_rankOf_124 rfl (lv_at hl 0 rfl) ?_
        refine s_getI (pc := 125) F w ds_10 (j := 7) vc_X4 vi_X4 rfl (by decide) kf_X4_36 dX4_rankOf_125 ?_
        refine lv_imul (pc := 128) hx hb dX4_rankOf_128 ?_
        refine lv_aload_n (pc := 129) hx hb dX4_rankOf_129 rfl (lv_at hl 0 rfl) ?_
        refine s_getR (pc := 130) F w 53 ds_10 (j := 4) vc_X4 vi_X4 rfl (by decide) kf_X4_26 dX4_rankOf_130 ?_
        refine lv_iload_n (pc := 133) hx hb dX4_rankOf_133 rfl (lv_at hl 3 rfl) ?_
        refine s_iald (pc := 134) F w ds_53 h dX4_rankOf_134 (fun h => ?_)
        refine lv_iadd (pc := 135) hx hb dX4_rankOf_135 ?_
        refine lv_goto (pc := 136) (tgt := 141) hx hb dX4_rankOf_136 (by decide) ?_
        exact s_iret F w h dX4_rankOf_141
    · have h := ite_f q h
      refine lv_iconst (pc := 13) (v := 0) hx hb dX4_rankOf_13 (by decide) ?_
      refine lv_istore (pc := 14) (lv' := [(5, .int (0 : Int32)), (0, .ref (ad 10)), (1, .ref (ad 11)), (2, .int x2), (3, .int x3), (4, .int x4)]) hx hb dX4_rankOf_14 hl (by decide) rfl (fun ls hl => ?_)
      exact w_X4_rankOf_start_L16 F (Nat.le_trans (by decide) hR1) (Nat.le_trans (by decide) hR2) _ (fun v0 v1 v2 S h => ih v0 v1 v2 S h) _ _ _ _ _ _ h _ _ _ w (lv_sub hl [1, 2, 3, 4, 5, 0] rfl)
set_option maxRecDepth 100000 in
set_option maxHeartbeats 4000000 in
theorem m_X4_rankOf_start  (S S' : SS) (r : Int32) (h : f_X4_rankOf_start  S = some (r, S')) : MT yX4_rankOf cX4_rankOf 7 (some .int) 2 44 (fun ad => [.ref (ad 10), .ref (ad 11)]) S (some (.int r)) S' := by
  refine MT.of RX4 (fun ad => [(0, .ref (ad 10)), (1, .ref (ad 11))]) (by decide) rfl (fun _ => Nat.le_of_ble_eq_true rfl) (fun _ => rfl) ?_
  intro p l e R s m args below meth c dC dI cs ad A hR1 hR2 F H locs ls w hl
  have hx := F.1.1
  have hb := F.1.2.1
  rw [f_X4_rankOf_start] at h
  refine lv_iconst (pc := 0) (v := 0) hx hb dX4_rankOf_0 (by decide) ?_
  refine lv_istore_n (pc := 1) (lv' := [(2, .int (0 : Int32)), (0, .ref (ad 10)), (1, .ref (ad 11))]) hx hb dX4_rankOf_1 rfl hl (by decide) rfl (fun ls hl => ?_)
  refine lv_iconst (pc := 2) (v := 0) hx hb dX4_rankOf_2 (by decide) ?_
  refine lv_istore_n (pc := 3) (lv' := [(3, .int (0 : Int32)), (2, .int (0 : Int32)), (0, .ref (ad 10)), (1, .ref (ad 11))]) hx hb dX4_rankOf_3 rfl hl (by decide) rfl (fun ls hl => ?_)
  refine lv_iconst (pc := 4) (v := 0) hx hb dX4_rankOf_4 (by decide) ?_
  refine lv_istore (pc := 5) (lv' := [(4, .int (0 : Int32)), (3, .int (0 : Int32)), (2, .int (0 : Int32)), (0, .ref (ad 10)), (1, .ref (ad 11))]) hx hb dX4_rankOf_5 hl (by decide) rfl (fun ls hl => ?_)
  exact w_X4_rankOf_start_L7 F (Nat.le_trans (by decide) hR1) (Nat.le_trans (by decide) hR2) _ _ _ _ _ h _ _ _ w (lv_sub hl [3, 4, 2, 1, 0] rfl)
def f_X4_endIn (a1 : Int32) (a2 : Int32) (S : SS) : Option (Int32 × SS) :=
  if 0 ≤ a2 then
    grd (inb (((4 : Int32) * a1) + a2) (S.2 54)) (
    some (S.1 54 (((4 : Int32) * a1) + a2).toNatClampNeg, S))
  else
    some ((0 : Int32), S)
theorem dX4_endIn_0 : decode cX4_endIn 0 = .ok (.iload_n 2, 1) := by decide +kernel
theorem dX4_endIn_1 : decode cX4_endIn 1 = .ok (.ifCond .ge 7, 3) := by decide +kernel
theorem dX4_endIn_4 : decode cX4_endIn 4 = .ok (.iconst 0, 1) := by decide +kernel
theorem dX4_endIn_5 : decode cX4_endIn 5 = .ok (.goto 13, 3) := by decide +kernel
theorem dX4_endIn_8 : decode cX4_endIn 8 = .ok (.aload_n 0, 1) := by decide +kernel
theorem dX4_endIn_9 : decode cX4_endIn 9 = .ok (.getfield 39, 3) := by decide +kernel
theorem dX4_endIn_12 : decode cX4_endIn 12 = .ok (.iconst 4, 1) := by decide +kernel
theorem dX4_endIn_13 : decode cX4_endIn 13 = .ok (.iload_n 1, 1) := by decide +kernel
theorem dX4_endIn_14 : decode cX4_endIn 14 = .ok (.imul, 1) := by decide +kernel
theorem dX4_endIn_15 : decode cX4_endIn 15 = .ok (.iload_n 2, 1) := by decide +kernel
theorem dX4_endIn_16 : decode cX4_endIn 16 = .ok (.iadd, 1) := by decide +kernel
theorem dX4_endIn_17 : decode cX4_endIn 17 = .ok (.iaload, 1) := by decide +kernel
theorem dX4_endIn_18 : decode cX4_endIn 18 = .ok (.ireturn, 1) := by decide +kernel
set_option maxRecDepth 100000 in
set_option maxHeartbeats 4000000 in
theorem m_X4_endIn (a1 : Int32) (a2 : Int32) (S S' : SS) (r : Int32) (h : f_X4_endIn a1 a2 S = some (r, S')) : MT yX4_endIn cX4_endIn 3 (some .int) 0 0 (fun ad => [.ref (ad 10), .int a1, .int a2]) S (some (.int r)) S' := by
  refine MT.of RX4 (fun ad => [(0, .ref (ad 10)), (1, .int a1), (2, .int a2)]) (by decide) rfl (fun _ => Nat.le_of_ble_eq_true rfl) (fun _ => rfl) ?_
  intro p l e R s m args below meth c dC dI cs ad A hR1 hR2 F H locs ls w hl
  have hx := F.1.1
  have hb := F.1.2.1
  rw [f_X4_endIn] at h
  refine lv_iload_n (pc := 0) hx hb dX4_endIn_0 rfl (lv_at hl 2 rfl) ?_
  refine lv_if_ge (pc := 1) (tgt := 8) hx hb dX4_endIn_1 (by decide) (fun q => ?_) (fun q => ?_)
  · have h := ite_t q h
    refine lv_aload_n (pc := 8) hx hb dX4_endIn_8 rfl (lv_at hl 0 rfl) ?_
    refine s_getR (pc := 9) F w 54 ds_10 (j := 8) vc_X4 vi_X4 rfl (by decide) kf_X4_39 dX4_endIn_9 ?_
    refine lv_iconst (pc := 12) (v := 4) hx hb dX4_endIn_12 (by decide) ?_
    refine lv_iload_n (pc := 13) hx hb dX4_endIn_13 rfl (lv_at hl 1 rfl) ?_
    refine lv_imul (pc := 14) hx hb dX4_endIn_14 ?_
    refine lv_iload_n (pc := 15) hx hb dX4_endIn_15 rfl (lv_at hl 2 rfl) ?_
    refine lv_iadd (pc := 16) hx hb dX4_endIn_16 ?_
    refine s_iald (pc := 17) F w ds_54 h dX4_endIn_17 (fun h => ?_)
    exact s_iret F w h dX4_endIn_18
  · have h := ite_f q h
    refine lv_iconst (pc := 4) (v := 0) hx hb dX4_endIn_4 (by decide) ?_
    refine lv_goto (pc := 5) (tgt := 18) hx hb dX4_endIn_5 (by decide) ?_
    exact s_iret F w h dX4_endIn_18
def f_X4_heightIn (a1 : Int32) (a2 : Int32) (S : SS) : Option (Int32 × SS) :=
  bnd (f_X4_endIn a1 a2 S) (fun r2 S1 =>
  bnd (f_X4_endIn a1 (a2 - (1 : Int32)) S1) (fun r4 S3 =>
  some (r2 - r4, S3)))
theorem dX4_heightIn_0 : decode cX4_heightIn 0 = .ok (.aload_n 0, 1) := by decide +kernel
theorem dX4_heightIn_1 : decode cX4_heightIn 1 = .ok (.iload_n 1, 1) := by decide +kernel
theorem dX4_heightIn_2 : decode cX4_heightIn 2 = .ok (.iload_n 2, 1) := by decide +kernel
theorem dX4_heightIn_3 : decode cX4_heightIn 3 = .ok (.invokevirtual 149, 3) := by decide +kernel
theorem dX4_heightIn_6 : decode cX4_heightIn 6 = .ok (.aload_n 0, 1) := by decide +kernel
theorem dX4_heightIn_7 : decode cX4_heightIn 7 = .ok (.iload_n 1, 1) := by decide +kernel
theorem dX4_heightIn_8 : decode cX4_heightIn 8 = .ok (.iload_n 2, 1) := by decide +kernel
theorem dX4_heightIn_9 : decode cX4_heightIn 9 = .ok (.iconst 1, 1) := by decide +kernel
theorem dX4_heightIn_10 : decode cX4_heightIn 10 = .ok (.isub, 1) := by decide +kernel
theorem dX4_heightIn_11 : decode cX4_heightIn 11 = .ok (.invokevirtual 149, 3) := by decide +kernel
theorem dX4_heightIn_14 : decode cX4_heightIn 14 = .ok (.isub, 1) := by decide +kernel
theorem dX4_heightIn_15 : decode cX4_heightIn 15 = .ok (.ireturn, 1) := by decide +kernel
set_option maxRecDepth 100000 in
set_option maxHeartbeats 4000000 in
theorem m_X4_heightIn (a1 : Int32) (a2 : Int32) (S S' : SS) (r : Int32) (h : f_X4_heightIn a1 a2 S = some (r, S')) : MT yX4_heightIn cX4_heightIn 3 (some .int) 1 22 (fun ad => [.ref (ad 10), .int a1, .int a2]) S (some (.int r)) S' := by
  refine MT.of RX4 (fun ad => [(0, .ref (ad 10)), (1, .int a1), (2, .int a2)]) (by decide) rfl (fun _ => Nat.le_of_ble_eq_true rfl) (fun _ => rfl) ?_
  intro p l e R s m args below meth c dC dI cs ad A hR1 hR2 F H locs ls w hl
  have hx := F.1.1
  have hb := F.1.2.1
  rw [f_X4_heightIn] at h
  refine lv_aload_n (pc := 0) hx hb dX4_heightIn_0 rfl (lv_at hl 0 rfl) ?_
  refine lv_iload_n (pc := 1) hx hb dX4_heightIn_1 rfl (lv_at hl 1 rfl) ?_
  refine lv_iload_n (pc := 2) hx hb dX4_heightIn_2 rfl (lv_at hl 2 rfl) ?_
  obtain ⟨r2, S1, hc, h⟩ := bnd_t h
  refine s_cvi (pc := 3) [.int a1, .int a2] (fun ad => [.ref (ad 10), .int a1, .int a2]) F w (m_X4_endIn _ _ _ _ _ hc) rfl rfl hl.1 ds_10 vc_X4 rfl ok_X4_endIn rfl kc_X4_endIn kl_X4_149 ki_X4_endIn kv_X4_endIn kn_X4 ⟨Nat.le_trans (by decide) hR1, Nat.le_trans (by decide) hR2⟩ ⟨Nat.zero_le _, Nat.zero_le _⟩ (Nat.le_of_ble_eq_true rfl) dX4_heightIn_3 (fun H locs w => ?_)
  refine lv_aload_n (pc := 6) hx hb dX4_heightIn_6 rfl (lv_at hl 0 rfl) ?_
  refine lv_iload_n (pc := 7) hx hb dX4_heightIn_7 rfl (lv_at hl 1 rfl) ?_
  refine lv_iload_n (pc := 8) hx hb dX4_heightIn_8 rfl (lv_at hl 2 rfl) ?_
  refine lv_iconst (pc := 9) (v := 1) hx hb dX4_heightIn_9 (by decide) ?_
  refine lv_isub (pc := 10) hx hb dX4_heightIn_10 ?_
  obtain ⟨r4, S3, hc, h⟩ := bnd_t h
  refine s_cvi (pc := 11) [.int a1, .int (a2 - (1 : Int32))] (fun ad => [.ref (ad 10), .int a1, .int (a2 - (1 : Int32))]) F w (m_X4_endIn _ _ _ _ _ hc) rfl rfl hl.1 ds_10 vc_X4 rfl ok_X4_endIn rfl kc_X4_endIn kl_X4_149 ki_X4_endIn kv_X4_endIn kn_X4 ⟨Nat.le_trans (by decide) hR1, Nat.le_trans (by decide) hR2⟩ ⟨Nat.zero_le _, Nat.zero_le _⟩ (Nat.le_of_ble_eq_true rfl) dX4_heightIn_11 (fun H locs w => ?_)
  refine lv_isub (pc := 14) hx hb dX4_heightIn_14 ?_
  exact s_iret F w h dX4_heightIn_15
def f_X4_shapeAfter_j50 (K6 : Int32 → Int32 → Int32 → Int32 → Int32 → Int32 → SS → Option (Int32 × SS)) (x1 : Int32) (x2 : Int32) (x3 : Int32) (x4 : Int32) (x5 : Int32) (x6 : Int32) (x7 : Int32) (y0 : Int32) (S : SS) : Option (Int32 × SS) :=
    bnd (f_X4_endIn x1 x6 S) (fun r2 S1 =>
    bnd (f_X4_keyWith x5 x6 ((r2 - x7) + y0) S1) (fun r4 S3 =>
    nm (x6 + (1 : Int32)) (fun z5 =>
    K6 x1 x2 x3 x4 r4 z5 S3)))
def f_X4_shapeAfter_j49 (K6 : Int32 → Int32 → Int32 → Int32 → Int32 → Int32 → SS → Option (Int32 × SS)) (x1 : Int32) (x2 : Int32) (x3 : Int32) (x4 : Int32) (x5 : Int32) (x6 : Int32) (x7 : Int32) (S : SS) : Option (Int32 × SS) :=
    f_X4_shapeAfter_j50 K6 x1 x2 x3 x4 x5 x6 x7 (0 : Int32) S
def f_X4_shapeAfter_j30 (K6 : Int32 → Int32 → Int32 → Int32 → Int32 → Int32 → SS → Option (Int32 × SS)) (x1 : Int32) (x2 : Int32) (x3 : Int32) (x4 : Int32) (x5 : Int32) (x6 : Int32) (y0 : Int32) (S : SS) : Option (Int32 × SS) :=
    if x6 < x3 then
      f_X4_shapeAfter_j49 K6 x1 x2 x3 x4 x5 x6 y0 S
    else
      if x2 ≤ x6 then
        f_X4_shapeAfter_j49 K6 x1 x2 x3 x4 x5 x6 y0 S
      else
        f_X4_shapeAfter_j50 K6 x1 x2 x3 x4 x5 x6 y0 x4 S
def f_X4_shapeAfter_j29 (K6 : Int32 → Int32 → Int32 → Int32 → Int32 → Int32 → SS → Option (Int32 × SS)) (x1 : Int32) (x2 : Int32) (x3 : Int32) (x4 : Int32) (x5 : Int32) (x6 : Int32) (S : SS) : Option (Int32 × SS) :=
    f_X4_shapeAfter_j30 K6 x1 x2 x3 x4 x5 x6 (0 : Int32) S
def f_X4_shapeAfter_L6  : Nat → Int32 → Int32 → Int32 → Int32 → Int32 → Int32 → SS → Option (Int32 × SS)
  | 0, _, _, _, _, _, _, _ => none
  | n + 1, x1, x2, x3, x4, x5, x6, S =>
    if (4 : Int32) ≤ x6 then
      grd (inb x5 216) (
      some (S.1 53 x5.toNatClampNeg, S))
    else
      if x6 < x2 then
        f_X4_shapeAfter_j29 (fun v0 v1 v2 v3 v4 v5 S => f_X4_shapeAfter_L6 n v0 v1 v2 v3 v4 v5 S) x1 x2 x3 x4 x5 x6 S
      else
        if x3 ≤ x6 then
          f_X4_shapeAfter_j29 (fun v0 v1 v2 v3 v4 v5 S => f_X4_shapeAfter_L6 n v0 v1 v2 v3 v4 v5 S) x1 x2 x3 x4 x5 x6 S
        else
          f_X4_shapeAfter_j30 (fun v0 v1 v2 v3 v4 v5 S => f_X4_shapeAfter_L6 n v0 v1 v2 v3 v4 v5 S) x1 x2 x3 x4 x5 x6 x4 S
def f_X4_shapeAfter (a1 : Int32) (a2 : Int32) (a3 : Int32) (a4 : Int32) (S : SS) : Option (Int32 × SS) :=
  f_X4_shapeAfter_L6 NF a1 a2 a3 a4 (0 : Int32) (0 : Int32) S
theorem dX4_shapeAfter_0 : decode cX4_shapeAfter 0 = .ok (.iconst 0, 1) := by decide +kernel
theorem dX4_shapeAfter_1 : decode cX4_shapeAfter 1 = .ok (.istore 5, 2) := by decide +kernel
theorem dX4_shapeAfter_3 : decode cX4_shapeAfter 3 = .ok (.iconst 0, 1) := by decide +kernel
theorem dX4_shapeAfter_4 : decode cX4_shapeAfter 4 = .ok (.istore 6, 2) := by decide +kernel
theorem dX4_shapeAfter_6 : decode cX4_shapeAfter 6 = .ok (.iload 6, 2) := by decide +kernel
theorem dX4_shapeAfter_8 : decode cX4_shapeAfter 8 = .ok (.iconst 4, 1) := by decide +kernel
theorem dX4_shapeAfter_9 : decode cX4_shapeAfter 9 = .ok (.if_icmp .ge 71, 3) := by decide +kernel
theorem dX4_shapeAfter_12 : decode cX4_shapeAfter 12 = .ok (.iload_n 2, 1) := by decide +kernel
theorem dX4_shapeAfter_13 : decode cX4_shapeAfter 13 = .ok (.iload 6, 2) := by decide +kernel
theorem dX4_shapeAfter_15 : decode cX4_shapeAfter 15 = .ok (.if_icmp .gt 14, 3) := by decide +kernel
theorem dX4_shapeAfter_18 : decode cX4_shapeAfter 18 = .ok (.iload 6, 2) := by decide +kernel
theorem dX4_shapeAfter_20 : decode cX4_shapeAfter 20 = .ok (.iload_n 3, 1) := by decide +kernel
theorem dX4_shapeAfter_21 : decode cX4_shapeAfter 21 = .ok (.if_icmp .ge 8, 3) := by decide +kernel
theorem dX4_shapeAfter_24 : decode cX4_shapeAfter 24 = .ok (.iload 4, 2) := by decide +kernel
theorem dX4_shapeAfter_26 : decode cX4_shapeAfter 26 = .ok (.goto 4, 3) := by decide +kernel
theorem dX4_shapeAfter_29 : decode cX4_shapeAfter 29 = .ok (.iconst 0, 1) := by decide +kernel
theorem dX4_shapeAfter_30 : decode cX4_shapeAfter 30 = .ok (.istore 7, 2) := by decide +kernel
theorem dX4_shapeAfter_32 : decode cX4_shapeAfter 32 = .ok (.iload_n 3, 1) := by decide +kernel
theorem dX4_shapeAfter_33 : decode cX4_shapeAfter 33 = .ok (.iload 6, 2) := by decide +kernel
theorem dX4_shapeAfter_35 : decode cX4_shapeAfter 35 = .ok (.if_icmp .gt 14, 3) := by decide +kernel
theorem dX4_shapeAfter_38 : decode cX4_shapeAfter 38 = .ok (.iload 6, 2) := by decide +kernel
theorem dX4_shapeAfter_40 : decode cX4_shapeAfter 40 = .ok (.iload_n 2, 1) := by decide +kernel
theorem dX4_shapeAfter_41 : decode cX4_shapeAfter 41 = .ok (.if_icmp .ge 8, 3) := by decide +kernel
theorem dX4_shapeAfter_44 : decode cX4_shapeAfter 44 = .ok (.iload 4, 2) := by decide +kernel
theorem dX4_shapeAfter_46 : decode cX4_shapeAfter 46 = .ok (.goto 4, 3) := by decide +kernel
theorem dX4_shapeAfter_49 : decode cX4_shapeAfter 49 = .ok (.iconst 0, 1) := by decide +kernel
theorem dX4_shapeAfter_50 : decode cX4_shapeAfter 50 = .ok (.istore 8, 2) := by decide +kernel
theorem dX4_shapeAfter_52 : decode cX4_shapeAfter 52 = .ok (.iload 5, 2) := by decide +kernel
theorem dX4_shapeAfter_54 : decode cX4_shapeAfter 54 = .ok (.iload 6, 2) := by decide +kernel
theorem dX4_shapeAfter_56 : decode cX4_shapeAfter 56 = .ok (.aload_n 0, 1) := by decide +kernel
theorem dX4_shapeAfter_57 : decode cX4_shapeAfter 57 = .ok (.iload_n 1, 1) := by decide +kernel
theorem dX4_shapeAfter_58 : decode cX4_shapeAfter 58 = .ok (.iload 6, 2) := by decide +kernel
theorem dX4_shapeAfter_60 : decode cX4_shapeAfter 60 = .ok (.invokevirtual 149, 3) := by decide +kernel
theorem dX4_shapeAfter_63 : decode cX4_shapeAfter 63 = .ok (.iload 7, 2) := by decide +kernel
theorem dX4_shapeAfter_65 : decode cX4_shapeAfter 65 = .ok (.isub, 1) := by decide +kernel
theorem dX4_shapeAfter_66 : decode cX4_shapeAfter 66 = .ok (.iload 8, 2) := by decide +kernel
theorem dX4_shapeAfter_68 : decode cX4_shapeAfter 68 = .ok (.iadd, 1) := by decide +kernel
theorem dX4_shapeAfter_69 : decode cX4_shapeAfter 69 = .ok (.invokestatic 75, 3) := by decide +kernel
theorem dX4_shapeAfter_72 : decode cX4_shapeAfter 72 = .ok (.istore 5, 2) := by decide +kernel
theorem dX4_shapeAfter_74 : decode cX4_shapeAfter 74 = .ok (.iinc 6 1, 3) := by decide +kernel
theorem dX4_shapeAfter_77 : decode cX4_shapeAfter 77 = .ok (.goto (-71), 3) := by decide +kernel
theorem dX4_shapeAfter_80 : decode cX4_shapeAfter 80 = .ok (.aload_n 0, 1) := by decide +kernel
theorem dX4_shapeAfter_81 : decode cX4_shapeAfter 81 = .ok (.getfield 26, 3) := by decide +kernel
theorem dX4_shapeAfter_84 : decode cX4_shapeAfter 84 = .ok (.iload 5, 2) := by decide +kernel
theorem dX4_shapeAfter_86 : decode cX4_shapeAfter 86 = .ok (.iaload, 1) := by decide +kernel
theorem dX4_shapeAfter_87 : decode cX4_shapeAfter 87 = .ok (.ireturn, 1) := by decide +kernel
set_option maxRecDepth 100000 in
set_option maxHeartbeats 4000000 in
theorem w_X4_shapeAfter_j50 {p : Program} {l : Launch} {e : Env} {R : Room} {s : State} {m : MethodId} {args : Array Value} {below : List Frame} {meth : Method} {c : Code} {dC : Nat → ClassId} {dI : Nat → Nat → Nat} {cs : Nat → ClassId} {ad : Nat → Nat} {A : Nat → Prop} {D0 : Nat → Nat} {S' : SS} {r : Int32} (F : Fx p s m args meth c cX4_shapeAfter 9 RX4 (some .int) dC dI cs A) (hR1 : 1 ≤ R.frames) (hR2 : 22 ≤ R.locals) (K6 : Int32 → Int32 → Int32 → Int32 → Int32 → Int32 → SS → Option (Int32 × SS)) (hK6 : ∀ (v0 : Int32) (v1 : Int32) (v2 : Int32) (v3 : Int32) (v4 : Int32) (v5 : Int32) (S : SS), K6 v0 v1 v2 v3 v4 v5 S = some (r, S') → AW p l e R s m args below meth c dC dI cs ad A D0 (some (.int r)) S' 9 6 [(0, .ref (ad 10)), (1, .int v0), (2, .int v1), (3, .int v2), (4, .int v3), (5, .int v4), (6, .int v5)] [] S) (x1 : Int32) (x2 : Int32) (x3 : Int32) (x4 : Int32) (x5 : Int32) (x6 : Int32) (x7 : Int32) (y0 : Int32) (S : SS) (h : f_X4_shapeAfter_j50 K6 x1 x2 x3 x4 x5 x6 x7 y0 S = some (r, S')) : AW p l e R s m args below meth c dC dI cs ad A D0 (some (.int r)) S' 9 50 [(0, .ref (ad 10)), (1, .int x1), (2, .int x2), (3, .int x3), (4, .int x4), (5, .int x5), (6, .int x6), (7, .int x7)] [.int y0] S := by
  have hx := F.1.1
  have hb := F.1.2.1
  intro H locs ls w hl
  rw [f_X4_shapeAfter_j50] at h
  refine lv_istore (pc := 50) (lv' := [(8, .int y0), (0, .ref (ad 10)), (1, .int x1), (2, .int x2), (3, .int x3), (4, .int x4), (5, .int x5), (6, .int x6), (7, .int x7)]) hx hb dX4_shapeAfter_50 hl (by decide) rfl (fun ls hl => ?_)
  refine lv_iload (pc := 52) hx hb dX4_shapeAfter_52 (lv_at hl 6 rfl) ?_
  refine lv_iload (pc := 54) hx hb dX4_shapeAfter_54 (lv_at hl 7 rfl) ?_
  refine lv_aload_n (pc := 56) hx hb dX4_shapeAfter_56 rfl (lv_at hl 1 rfl) ?_
  refine lv_iload_n (pc := 57) hx hb dX4_shapeAfter_57 rfl (lv_at hl 2 rfl) ?_
  refine lv_iload (pc := 58) hx hb dX4_shapeAfter_58 (lv_at hl 7 rfl) ?_
  obtain ⟨r2, S1, hc, h⟩ := bnd_t h
  refine s_cvi (pc := 60) [.int x1, .int x6] (fun ad => [.ref (ad 10), .int x1, .int x6]) F w (m_X4_endIn _ _ _ _ _ hc) rfl rfl hl.1 ds_10 vc_X4 rfl ok_X4_endIn rfl kc_X4_endIn kl_X4_149 ki_X4_endIn kv_X4_endIn kn_X4 ⟨Nat.le_trans (by decide) hR1, Nat.le_trans (by decide) hR2⟩ ⟨Nat.zero_le _, Nat.zero_le _⟩ (Nat.le_of_ble_eq_true rfl) dX4_shapeAfter_60 (fun H locs w => ?_)
  refine lv_iload (pc := 63) hx hb dX4_shapeAfter_63 (lv_at hl 8 rfl) ?_
  refine lv_isub (pc := 65) hx hb dX4_shapeAfter_65 ?_
  refine lv_iload (pc := 66) hx hb dX4_shapeAfter_66 (lv_at hl 0 rfl) ?_
  refine lv_iadd (pc := 68) hx hb dX4_shapeAfter_68 ?_
  obtain ⟨r4, S3, hc, h⟩ := bnd_t h
  refine s_csi (pc := 69) [.int x5, .int x6, .int ((r2 - x7) + y0)] (fun ad => [.int x5, .int x6, .int ((r2 - x7) + y0)]) F w (m_X4_keyWith _ _ _ _ _ _ hc) rfl rfl hl.1 ok_X4_keyWith rfl kc_X4_keyWith kl_X4_75 ks_X4_keyWith kn_X4 ⟨Nat.le_trans (by decide) hR1, Nat.le_trans (by decide) hR2⟩ ⟨Nat.zero_le _, Nat.zero_le _⟩ (Nat.le_of_ble_eq_true rfl) dX4_shapeAfter_69 (fun H locs w => ?_)
  refine lv_istore (pc := 72) (lv' := [(5, .int r4), (8, .int y0), (0, .ref (ad 10)), (1, .int x1), (2, .int x2), (3, .int x3), (4, .int x4), (6, .int x6), (7, .int x7)]) hx hb dX4_shapeAfter_72 hl (by decide) rfl (fun ls hl => ?_)
  refine s_nm h (fun z5 ez5 h => ?_)
  refine lv_iinc (pc := 74) (v := z5) (lv' := [(6, .int z5), (5, .int r4), (8, .int y0), (0, .ref (ad 10)), (1, .int x1), (2, .int x2), (3, .int x3), (4, .int x4), (7, .int x7)]) hx hb dX4_shapeAfter_74 hl (k := 7) rfl (by rw [ez5]; rfl) (by decide) rfl (fun ls hl => ?_)
  refine lv_goto (pc := 77) (tgt := 6) hx hb dX4_shapeAfter_77 (by decide) ?_
  exact hK6 _ _ _ _ _ _ _ h _ _ _ w (lv_sub hl [3, 4, 5, 6, 7, 1, 0] rfl)
set_option maxRecDepth 100000 in
set_option maxHeartbeats 4000000 in
theorem w_X4_shapeAfter_j49 {p : Program} {l : Launch} {e : Env} {R : Room} {s : State} {m : MethodId} {args : Array Value} {below : List Frame} {meth : Method} {c : Code} {dC : Nat → ClassId} {dI : Nat → Nat → Nat} {cs : Nat → ClassId} {ad : Nat → Nat} {A : Nat → Prop} {D0 : Nat → Nat} {S' : SS} {r : Int32} (F : Fx p s m args meth c cX4_shapeAfter 9 RX4 (some .int) dC dI cs A) (hR1 : 1 ≤ R.frames) (hR2 : 22 ≤ R.locals) (K6 : Int32 → Int32 → Int32 → Int32 → Int32 → Int32 → SS → Option (Int32 × SS)) (hK6 : ∀ (v0 : Int32) (v1 : Int32) (v2 : Int32) (v3 : Int32) (v4 : Int32) (v5 : Int32) (S : SS), K6 v0 v1 v2 v3 v4 v5 S = some (r, S') → AW p l e R s m args below meth c dC dI cs ad A D0 (some (.int r)) S' 9 6 [(0, .ref (ad 10)), (1, .int v0), (2, .int v1), (3, .int v2), (4, .int v3), (5, .int v4), (6, .int v5)] [] S) (x1 : Int32) (x2 : Int32) (x3 : Int32) (x4 : Int32) (x5 : Int32) (x6 : Int32) (x7 : Int32) (S : SS) (h : f_X4_shapeAfter_j49 K6 x1 x2 x3 x4 x5 x6 x7 S = some (r, S')) : AW p l e R s m args below meth c dC dI cs ad A D0 (some (.int r)) S' 9 49 [(0, .ref (ad 10)), (1, .int x1), (2, .int x2), (3, .int x3), (4, .int x4), (5, .int x5), (6, .int x6), (7, .int x7)] [] S := by
  have hx := F.1.1
  have hb := F.1.2.1
  intro H locs ls w hl
  rw [f_X4_shapeAfter_j49] at h
  refine lv_iconst (pc := 49) (v := 0) hx hb dX4_shapeAfter_49 (by decide) ?_
  exact w_X4_shapeAfter_j50 F (Nat.le_trans (by decide) hR1) (Nat.le_trans (by decide) hR2) _ hK6 _ _ _ _ _ _ _ _ _ h _ _ _ w (lv_sub hl [0, 1, 2, 3, 4, 5, 6, 7] rfl)
set_option maxRecDepth 100000 in
set_option maxHeartbeats 4000000 in
theorem w_X4_shapeAfter_j30 {p : Program} {l : Launch} {e : Env} {R : Room} {s : State} {m : MethodId} {args : Array Value} {below : List Frame} {meth : Method} {c : Code} {dC : Nat → ClassId} {dI : Nat → Nat → Nat} {cs : Nat → ClassId} {ad : Nat → Nat} {A : Nat → Prop} {D0 : Nat → Nat} {S' : SS} {r : Int32} (F : Fx p s m args meth c cX4_shapeAfter 9 RX4 (some .int) dC dI cs A) (hR1 : 1 ≤ R.frames) (hR2 : 22 ≤ R.locals) (K6 : Int32 → Int32 → Int32 → Int32 → Int32 → Int32 → SS → Option (Int32 × SS)) (hK6 : ∀ (v0 : Int32) (v1 : Int32) (v2 : Int32) (v3 : Int32) (v4 : Int32) (v5 : Int32) (S : SS), K6 v0 v1 v2 v3 v4 v5 S = some (r, S') → AW p l e R s m args below meth c dC dI cs ad A D0 (some (.int r)) S' 9 6 [(0, .ref (ad 10)), (1, .int v0), (2, .int v1), (3, .int v2), (4, .int v3), (5, .int v4), (6, .int v5)] [] S) (x1 : Int32) (x2 : Int32) (x3 : Int32) (x4 : Int32) (x5 : Int32) (x6 : Int32) (y0 : Int32) (S : SS) (h : f_X4_shapeAfter_j30 K6 x1 x2 x3 x4 x5 x6 y0 S = some (r, S')) : AW p l e R s m args below meth c dC dI cs ad A D0 (some (.int r)) S' 9 30 [(0, .ref (ad 10)), (1, .int x1), (2, .int x2), (3, .int x3), (4, .int x4), (5, .int x5), (6, .int x6)] [.int y0] S := by
  have hx := F.1.1
  have hb := F.1.2.1
  intro H locs ls w hl
  rw [f_X4_shapeAfter_j30] at h
  refine lv_istore (pc := 30) (lv' := [(7, .int y0), (0, .ref (ad 10)), (1, .int x1), (2, .int x2), (3, .int x3), (4, .int x4), (5, .int x5), (6, .int x6)]) hx hb dX4_shapeAfter_30 hl (by decide) rfl (fun ls hl => ?_)
  refine lv_iload_n (pc := 32) hx hb dX4_shapeAfter_32 rfl (lv_at hl 4 rfl) ?_
  refine lv_iload (pc := 33) hx hb dX4_shapeAfter_33 (lv_at hl 7 rfl) ?_
  refine lv_icmp_gt (pc := 35) (tgt := 49) hx hb dX4_shapeAfter_35 (by decide) (fun q => ?_) (fun q => ?_)
  · have h := ite_t q h
    exact w_X4_shapeAfter_j49 F (Nat.le_trans (by decide) hR1) (Nat.le_trans (by decide) hR2) _ hK6 _ _ _ _ _ _ _ _ h _ _ _ w (lv_sub hl [1, 2, 3, 4, 5, 6, 7, 0] rfl)
  · have h := ite_f q h
    refine lv_iload (pc := 38) hx hb dX4_shapeAfter_38 (lv_at hl 7 rfl) ?_
    refine lv_iload_n (pc := 40) hx hb dX4_shapeAfter_40 rfl (lv_at hl 3 rfl) ?_
    refine lv_icmp_ge (pc := 41) (tgt := 49) hx hb dX4_shapeAfter_41 (by decide) (fun q => ?_) (fun q => ?_)
    · have h := ite_t q h
      exact w_X4_shapeAfter_j49 F (Nat.le_trans (by decide) hR1) (Nat.le_trans (by decide) hR2) _ hK6 _ _ _ _ _ _ _ _ h _ _ _ w (lv_sub hl [1, 2, 3, 4, 5, 6, 7, 0] rfl)
    · have h := ite_f q h
      refine lv_iload (pc := 44) hx hb dX4_shapeAfter_44 (lv_at hl 5 rfl) ?_
      refine lv_goto (pc := 46) (tgt := 50) hx hb dX4_shapeAfter_46 (by decide) ?_
      exact w_X4_shapeAfter_j50 F (Nat.le_trans (by decide) hR1) (Nat.le_trans (by decide) hR2) _ hK6 _ _ _ _ _ _ _ _ _ h _ _ _ w (lv_sub hl [1, 2, 3, 4, 5, 6, 7, 0] rfl)
set_option maxRecDepth 100000 in
set_option maxHeartbeats 4000000 in
theorem w_X4_shapeAfter_j29 {p : Program} {l : Launch} {e : Env} {R : Room} {s : State} {m : MethodId} {args : Array Value} {below : List Frame} {meth : Method} {c : Code} {dC : Nat → ClassId} {dI : Nat → Nat → Nat} {cs : Nat → ClassId} {ad : Nat → Nat} {A : Nat → Prop} {D0 : Nat → Nat} {S' : SS} {r : Int32} (F : Fx p s m args meth c cX4_shapeAfter 9 RX4 (some .int) dC dI cs A) (hR1 : 1 ≤ R.frames) (hR2 : 22 ≤ R.locals) (K6 : Int32 → Int32 → Int32 → Int32 → Int32 → Int32 → SS → Option (Int32 × SS)) (hK6 : ∀ (v0 : Int32) (v1 : Int32) (v2 : Int32) (v3 : Int32) (v4 : Int32) (v5 : Int32) (S : SS), K6 v0 v1 v2 v3 v4 v5 S = some (r, S') → AW p l e R s m args below meth c dC dI cs ad A D0 (some (.int r)) S' 9 6 [(0, .ref (ad 10)), (1, .int v0), (2, .int v1), (3, .int v2), (4, .int v3), (5, .int v4), (6, .int v5)] [] S) (x1 : Int32) (x2 : Int32) (x3 : Int32) (x4 : Int32) (x5 : Int32) (x6 : Int32) (S : SS) (h : f_X4_shapeAfter_j29 K6 x1 x2 x3 x4 x5 x6 S = some (r, S')) : AW p l e R s m args below meth c dC dI cs ad A D0 (some (.int r)) S' 9 29 [(0, .ref (ad 10)), (1, .int x1), (2, .int x2), (3, .int x3), (4, .int x4), (5, .int x5), (6, .int x6)] [] S := by
  have hx := F.1.1
  have hb := F.1.2.1
  intro H locs ls w hl
  rw [f_X4_shapeAfter_j29] at h
  refine lv_iconst (pc := 29) (v := 0) hx hb dX4_shapeAfter_29 (by decide) ?_
  exact w_X4_shapeAfter_j30 F (Nat.le_trans (by decide) hR1) (Nat.le_trans (by decide) hR2) _ hK6 _ _ _ _ _ _ _ _ h _ _ _ w (lv_sub hl [0, 1, 2, 3, 4, 5, 6] rfl)
set_option maxRecDepth 100000 in
set_option maxHeartbeats 4000000 in
theorem w_X4_shapeAfter_L6 {p : Program} {l : Launch} {e : Env} {R : Room} {s : State} {m : MethodId} {args : Array Value} {below : List Frame} {meth : Method} {c : Code} {dC : Nat → ClassId} {dI : Nat → Nat → Nat} {cs : Nat → ClassId} {ad : Nat → Nat} {A : Nat → Prop} {D0 : Nat → Nat} {S' : SS} {r : Int32} (F : Fx p s m args meth c cX4_shapeAfter 9 RX4 (some .int) dC dI cs A) (hR1 : 1 ≤ R.frames) (hR2 : 22 ≤ R.locals) : ∀ (n : Nat) (x1 : Int32) (x2 : Int32) (x3 : Int32) (x4 : Int32) (x5 : Int32) (x6 : Int32) (S : SS), f_X4_shapeAfter_L6 n x1 x2 x3 x4 x5 x6 S = some (r, S') → AW p l e R s m args below meth c dC dI cs ad A D0 (some (.int r)) S' 9 6 [(0, .ref (ad 10)), (1, .int x1), (2, .int x2), (3, .int x3), (4, .int x4), (5, .int x5), (6, .int x6)] [] S := by
  have hx := F.1.1
  have hb := F.1.2.1
  intro n
  induction n with
  | zero => intro x1 x2 x3 x4 x5 x6 S h; cases h
  | succ n ih =>
    intro x1 x2 x3 x4 x5 x6 S h H locs ls w hl
    rw [f_X4_shapeAfter_L6] at h
    refine lv_iload (pc := 6) hx hb dX4_shapeAfter_6 (lv_at hl 6 rfl) ?_
    refine lv_iconst (pc := 8) (v := 4) hx hb dX4_shapeAfter_8 (by decide) ?_
    refine lv_icmp_ge (pc := 9) (tgt := 80) hx hb dX4_shapeAfter_9 (by decide) (fun q => ?_) (fun q => ?_)
    · have h := ite_t q h
      refine lv_aload_n (pc := 80) hx hb dX4_shapeAfter_80 rfl (lv_at hl 0 rfl) ?_
      refine s_getR (pc := 81) F w 53 ds_10 (j := 4) vc_X4 vi_X4 rfl (by decide) kf_X4_26 dX4_shapeAfter_81 ?_
      refine lv_iload (pc := 84) hx hb dX4_shapeAfter_84 (lv_at hl 5 rfl) ?_
      refine s_iald (pc := 86) F w ds_53 h dX4_shapeAfter_86 (fun h => ?_)
      exact s_iret F w h dX4_shapeAfter_87
    · have h := ite_f q h
      refine lv_iload_n (pc := 12) hx hb dX4_shapeAfter_12 rfl (lv_at hl 2 rfl) ?_
      refine lv_iload (pc := 13) hx hb dX4_shapeAfter_13 (lv_at hl 6 rfl) ?_
      refine lv_icmp_gt (pc := 15) (tgt := 29) hx hb dX4_shapeAfter_15 (by decide) (fun q => ?_) (fun q => ?_)
      · have h := ite_t q h
        exact w_X4_shapeAfter_j29 F (Nat.le_trans (by decide) hR1) (Nat.le_trans (by decide) hR2) _ (fun v0 v1 v2 v3 v4 v5 S h => ih v0 v1 v2 v3 v4 v5 S h) _ _ _ _ _ _ _ h _ _ _ w (lv_sub hl [0, 1, 2, 3, 4, 5, 6] rfl)
      · have h := ite_f q h
        refine lv_iload (pc := 18) hx hb dX4_shapeAfter_18 (lv_at hl 6 rfl) ?_
        refine lv_iload_n (pc := 20) hx hb dX4_shapeAfter_20 rfl (lv_at hl 3 rfl) ?_
        refine lv_icmp_ge (pc := 21) (tgt := 29) hx hb dX4_shapeAfter_21 (by decide) (fun q => ?_) (fun q => ?_)
        · have h := ite_t q h
          exact w_X4_shapeAfter_j29 F (Nat.le_trans (by decide) hR1) (Nat.le_trans (by decide) hR2) _ (fun v0 v1 v2 v3 v4 v5 S h => ih v0 v1 v2 v3 v4 v5 S h) _ _ _ _ _ _ _ h _ _ _ w (lv_sub hl [0, 1, 2, 3, 4, 5, 6] rfl)
        · have h := ite_f q h
          refine lv_iload (pc := 24) hx hb dX4_shapeAfter_24 (lv_at hl 4 rfl) ?_
          refine lv_goto (pc := 26) (tgt := 30) hx hb dX4_shapeAfter_26 (by decide) ?_
          exact w_X4_shapeAfter_j30 F (Nat.le_trans (by decide) hR1) (Nat.le_trans (by decide) hR2) _ (fun v0 v1 v2 v3 v4 v5 S h => ih v0 v1 v2 v3 v4 v5 S h) _ _ _ _ _ _ _ _ h _ _ _ w (lv_sub hl [0, 1, 2, 3, 4, 5, 6] rfl)
set_option maxRecDepth 100000 in
set_option maxHeartbeats 4000000 in
theorem m_X4_shapeAfter (a1 : Int32) (a2 : Int32) (a3 : Int32) (a4 : Int32) (S S' : SS) (r : Int32) (h : f_X4_shapeAfter a1 a2 a3 a4 S = some (r, S')) : MT yX4_shapeAfter cX4_shapeAfter 9 (some .int) 1 22 (fun ad => [.ref (ad 10), .int a1, .int a2, .int a3, .int a4]) S (some (.int r)) S' := by
  refine MT.of RX4 (fun ad => [(0, .ref (ad 10)), (1, .int a1), (2, .int a2), (3, .int a3), (4, .int a4)]) (by decide) rfl (fun _ => Nat.le_of_ble_eq_true rfl) (fun _ => rfl) ?_
  intro p l e R s m args below meth c dC dI cs ad A hR1 hR2 F H locs ls w hl
  have hx := F.1.1
  have hb := F.1.2.1
  rw [f_X4_shapeAfter] at h
  refine lv_iconst (pc := 0) (v := 0) hx hb dX4_shapeAfter_0 (by decide) ?_
  refine lv_istore (pc := 1) (lv' := [(5, .int (0 : Int32)), (0, .ref (ad 10)), (1, .int a1), (2, .int a2), (3, .int a3), (4, .int a4)]) hx hb dX4_shapeAfter_1 hl (by decide) rfl (fun ls hl => ?_)
  refine lv_iconst (pc := 3) (v := 0) hx hb dX4_shapeAfter_3 (by decide) ?_
  refine lv_istore (pc := 4) (lv' := [(6, .int (0 : Int32)), (5, .int (0 : Int32)), (0, .ref (ad 10)), (1, .int a1), (2, .int a2), (3, .int a3), (4, .int a4)]) hx hb dX4_shapeAfter_4 hl (by decide) rfl (fun ls hl => ?_)
  exact w_X4_shapeAfter_L6 F (Nat.le_trans (by decide) hR1) (Nat.le_trans (by decide) hR2) _ _ _ _ _ _ _ _ h _ _ _ w (lv_sub hl [2, 3, 4, 5, 6, 1, 0] rfl)
def f_X4_swapOf (a0 : Int32) (a1 : Int32) (a2 : Int32) (S : SS) : Option (Int32 × SS) :=
  if a1 ≤ a0 then
    some ((-4 : Int32), S)
  else
    if a2 ≤ a1 then
      some ((-4 : Int32), S)
    else
      some (((((a2 * (a2 - (1 : Int32))) * (a2 - (2 : Int32))) / (6 : Int32)) + ((a1 * (a1 - (1 : Int32))) / (2 : Int32))) + a0, S)
theorem dX4_swapOf_0 : decode cX4_swapOf 0 = .ok (.iload_n 0, 1) := by decide +kernel
theorem dX4_swapOf_1 : decode cX4_swapOf 1 = .ok (.iload_n 1, 1) := by decide +kernel
theorem dX4_swapOf_2 : decode cX4_swapOf 2 = .ok (.if_icmp .ge 33, 3) := by decide +kernel
theorem dX4_swapOf_5 : decode cX4_swapOf 5 = .ok (.iload_n 1, 1) := by decide +kernel
theorem dX4_swapOf_6 : decode cX4_swapOf 6 = .ok (.iload_n 2, 1) := by decide +kernel
theorem dX4_swapOf_7 : decode cX4_swapOf 7 = .ok (.if_icmp .ge 28, 3) := by decide +kernel
theorem dX4_swapOf_10 : decode cX4_swapOf 10 = .ok (.iload_n 2, 1) := by decide +kernel
theorem dX4_swapOf_11 : decode cX4_swapOf 11 = .ok (.iload_n 2, 1) := by decide +kernel
theorem dX4_swapOf_12 : decode cX4_swapOf 12 = .ok (.iconst 1, 1) := by decide +kernel
theorem dX4_swapOf_13 : decode cX4_swapOf 13 = .ok (.isub, 1) := by decide +kernel
theorem dX4_swapOf_14 : decode cX4_swapOf 14 = .ok (.imul, 1) := by decide +kernel
theorem dX4_swapOf_15 : decode cX4_swapOf 15 = .ok (.iload_n 2, 1) := by decide +kernel
theorem dX4_swapOf_16 : decode cX4_swapOf 16 = .ok (.iconst 2, 1) := by decide +kernel
theorem dX4_swapOf_17 : decode cX4_swapOf 17 = .ok (.isub, 1) := by decide +kernel
theorem dX4_swapOf_18 : decode cX4_swapOf 18 = .ok (.imul, 1) := by decide +kernel
theorem dX4_swapOf_19 : decode cX4_swapOf 19 = .ok (.bipush 6, 2) := by decide +kernel
theorem dX4_swapOf_21 : decode cX4_swapOf 21 = .ok (.idiv, 1) := by decide +kernel
theorem dX4_swapOf_22 : decode cX4_swapOf 22 = .ok (.iload_n 1, 1) := by decide +kernel
theorem dX4_swapOf_23 : decode cX4_swapOf 23 = .ok (.iload_n 1, 1) := by decide +kernel
theorem dX4_swapOf_24 : decode cX4_swapOf 24 = .ok (.iconst 1, 1) := by decide +kernel
theorem dX4_swapOf_25 : decode cX4_swapOf 25 = .ok (.isub, 1) := by decide +kernel
theorem dX4_swapOf_26 : decode cX4_swapOf 26 = .ok (.imul, 1) := by decide +kernel
theorem dX4_swapOf_27 : decode cX4_swapOf 27 = .ok (.iconst 2, 1) := by decide +kernel
theorem dX4_swapOf_28 : decode cX4_swapOf 28 = .ok (.idiv, 1) := by decide +kernel
theorem dX4_swapOf_29 : decode cX4_swapOf 29 = .ok (.iadd, 1) := by decide +kernel
theorem dX4_swapOf_30 : decode cX4_swapOf 30 = .ok (.iload_n 0, 1) := by decide +kernel
theorem dX4_swapOf_31 : decode cX4_swapOf 31 = .ok (.iadd, 1) := by decide +kernel
theorem dX4_swapOf_32 : decode cX4_swapOf 32 = .ok (.goto 5, 3) := by decide +kernel
theorem dX4_swapOf_35 : decode cX4_swapOf 35 = .ok (.bipush (-4), 2) := by decide +kernel
theorem dX4_swapOf_37 : decode cX4_swapOf 37 = .ok (.ireturn, 1) := by decide +kernel
set_option maxRecDepth 100000 in
set_option maxHeartbeats 4000000 in
theorem m_X4_swapOf (a0 : Int32) (a1 : Int32) (a2 : Int32) (S S' : SS) (r : Int32) (h : f_X4_swapOf a0 a1 a2 S = some (r, S')) : MT yX4_swapOf cX4_swapOf 3 (some .int) 0 0 (fun ad => [.int a0, .int a1, .int a2]) S (some (.int r)) S' := by
  refine MT.of RX4 (fun ad => [(0, .int a0), (1, .int a1), (2, .int a2)]) (by decide) rfl (fun _ => Nat.le_of_ble_eq_true rfl) (fun _ => rfl) ?_
  intro p l e R s m args below meth c dC dI cs ad A hR1 hR2 F H locs ls w hl
  have hx := F.1.1
  have hb := F.1.2.1
  rw [f_X4_swapOf] at h
  refine lv_iload_n (pc := 0) hx hb dX4_swapOf_0 rfl (lv_at hl 0 rfl) ?_
  refine lv_iload_n (pc := 1) hx hb dX4_swapOf_1 rfl (lv_at hl 1 rfl) ?_
  refine lv_icmp_ge (pc := 2) (tgt := 35) hx hb dX4_swapOf_2 (by decide) (fun q => ?_) (fun q => ?_)
  · have h := ite_t q h
    refine lv_bipush (pc := 35) (v := -4) hx hb dX4_swapOf_35 (by decide) ?_
    exact s_iret F w h dX4_swapOf_37
  · have h := ite_f q h
    refine lv_iload_n (pc := 5) hx hb dX4_swapOf_5 rfl (lv_at hl 1 rfl) ?_
    refine lv_iload_n (pc := 6) hx hb dX4_swapOf_6 rfl (lv_at hl 2 rfl) ?_
    refine lv_icmp_ge (pc := 7) (tgt := 35) hx hb dX4_swapOf_7 (by decide) (fun q => ?_) (fun q => ?_)
    · have h := ite_t q h
      refine lv_bipush (pc := 35) (v := -4) hx hb dX4_swapOf_35 (by decide) ?_
      exact s_iret F w h dX4_swapOf_37
    · have h := ite_f q h
      refine lv_iload_n (pc := 10) hx hb dX4_swapOf_10 rfl (lv_at hl 2 rfl) ?_
      refine lv_iload_n (pc := 11) hx hb dX4_swapOf_11 rfl (lv_at hl 2 rfl) ?_
      refine lv_iconst (pc := 12) (v := 1) hx hb dX4_swapOf_12 (by decide) ?_
      refine lv_isub (pc := 13) hx hb dX4_swapOf_13 ?_
      refine lv_imul (pc := 14) hx hb dX4_swapOf_14 ?_
      refine lv_iload_n (pc := 15) hx hb dX4_swapOf_15 rfl (lv_at hl 2 rfl) ?_
      refine lv_iconst (pc := 16) (v := 2) hx hb dX4_swapOf_16 (by decide) ?_
      refine lv_isub (pc := 17) hx hb dX4_swapOf_17 ?_
      refine lv_imul (pc := 18) hx hb dX4_swapOf_18 ?_
      refine lv_bipush (pc := 19) (v := 6) hx hb dX4_swapOf_19 (by decide) ?_
      refine lv_idiv (pc := 21) hx hb dX4_swapOf_21 (by decide) ?_
      refine lv_iload_n (pc := 22) hx hb dX4_swapOf_22 rfl (lv_at hl 1 rfl) ?_
      refine lv_iload_n (pc := 23) hx hb dX4_swapOf_23 rfl (lv_at hl 1 rfl) ?_
      refine lv_iconst (pc := 24) (v := 1) hx hb dX4_swapOf_24 (by decide) ?_
      refine lv_isub (pc := 25) hx hb dX4_swapOf_25 ?_
      refine lv_imul (pc := 26) hx hb dX4_swapOf_26 ?_
      refine lv_iconst (pc := 27) (v := 2) hx hb dX4_swapOf_27 (by decide) ?_
      refine lv_idiv (pc := 28) hx hb dX4_swapOf_28 (by decide) ?_
      refine lv_iadd (pc := 29) hx hb dX4_swapOf_29 ?_
      refine lv_iload_n (pc := 30) hx hb dX4_swapOf_30 rfl (lv_at hl 0 rfl) ?_
      refine lv_iadd (pc := 31) hx hb dX4_swapOf_31 ?_
      refine lv_goto (pc := 32) (tgt := 37) hx hb dX4_swapOf_32 (by decide) ?_
      exact s_iret F w h dX4_swapOf_37
def f_X4_swapBy (a1 : Int32) (a2 : Int32) (a3 : Int32) (a4 : Int32) (S : SS) : Option (Int32 × SS) :=
  bnd (f_X4_endIn a1 a2 S) (fun r2 S1 =>
  if a3 ≤ a2 then
    bnd (f_X4_endIn a1 a3 S1) (fun r4 S3 =>
    bnd (f_X4_swapOf r4 (r2 - a4) r2 S3) (fun r6 S5 =>
    some (r6, S5)))
  else
    bnd (f_X4_endIn a1 a3 S1) (fun r8 S7 =>
    bnd (f_X4_swapOf (r2 - a4) r2 r8 S7) (fun r10 S9 =>
    some (r10, S9))))
theorem dX4_swapBy_0 : decode cX4_swapBy 0 = .ok (.aload_n 0, 1) := by decide +kernel
theorem dX4_swapBy_1 : decode cX4_swapBy 1 = .ok (.iload_n 1, 1) := by decide +kernel
theorem dX4_swapBy_2 : decode cX4_swapBy 2 = .ok (.iload_n 2, 1) := by decide +kernel
theorem dX4_swapBy_3 : decode cX4_swapBy 3 = .ok (.invokevirtual 149, 3) := by decide +kernel
theorem dX4_swapBy_6 : decode cX4_swapBy 6 = .ok (.istore 5, 2) := by decide +kernel
theorem dX4_swapBy_8 : decode cX4_swapBy 8 = .ok (.iload_n 2, 1) := by decide +kernel
theorem dX4_swapBy_9 : decode cX4_swapBy 9 = .ok (.iload_n 3, 1) := by decide +kernel
theorem dX4_swapBy_10 : decode cX4_swapBy 10 = .ok (.if_icmp .ge 22, 3) := by decide +kernel
theorem dX4_swapBy_13 : decode cX4_swapBy 13 = .ok (.iload 5, 2) := by decide +kernel
theorem dX4_swapBy_15 : decode cX4_swapBy 15 = .ok (.iload 4, 2) := by decide +kernel
theorem dX4_swapBy_17 : decode cX4_swapBy 17 = .ok (.isub, 1) := by decide +kernel
theorem dX4_swapBy_18 : decode cX4_swapBy 18 = .ok (.iload 5, 2) := by decide +kernel
theorem dX4_swapBy_20 : decode cX4_swapBy 20 = .ok (.aload_n 0, 1) := by decide +kernel
theorem dX4_swapBy_21 : decode cX4_swapBy 21 = .ok (.iload_n 1, 1) := by decide +kernel
theorem dX4_swapBy_22 : decode cX4_swapBy 22 = .ok (.iload_n 3, 1) := by decide +kernel
theorem dX4_swapBy_23 : decode cX4_swapBy 23 = .ok (.invokevirtual 149, 3) := by decide +kernel
theorem dX4_swapBy_26 : decode cX4_swapBy 26 = .ok (.invokestatic 131, 3) := by decide +kernel
theorem dX4_swapBy_29 : decode cX4_swapBy 29 = .ok (.goto 19, 3) := by decide +kernel
theorem dX4_swapBy_32 : decode cX4_swapBy 32 = .ok (.aload_n 0, 1) := by decide +kernel
theorem dX4_swapBy_33 : decode cX4_swapBy 33 = .ok (.iload_n 1, 1) := by decide +kernel
theorem dX4_swapBy_34 : decode cX4_swapBy 34 = .ok (.iload_n 3, 1) := by decide +kernel
theorem dX4_swapBy_35 : decode cX4_swapBy 35 = .ok (.invokevirtual 149, 3) := by decide +kernel
theorem dX4_swapBy_38 : decode cX4_swapBy 38 = .ok (.iload 5, 2) := by decide +kernel
theorem dX4_swapBy_40 : decode cX4_swapBy 40 = .ok (.iload 4, 2) := by decide +kernel
theorem dX4_swapBy_42 : decode cX4_swapBy 42 = .ok (.isub, 1) := by decide +kernel
theorem dX4_swapBy_43 : decode cX4_swapBy 43 = .ok (.iload 5, 2) := by decide +kernel
theorem dX4_swapBy_45 : decode cX4_swapBy 45 = .ok (.invokestatic 131, 3) := by decide +kernel
theorem dX4_swapBy_48 : decode cX4_swapBy 48 = .ok (.ireturn, 1) := by decide +kernel
set_option maxRecDepth 100000 in
set_option maxHeartbeats 4000000 in
theorem m_X4_swapBy (a1 : Int32) (a2 : Int32) (a3 : Int32) (a4 : Int32) (S S' : SS) (r : Int32) (h : f_X4_swapBy a1 a2 a3 a4 S = some (r, S')) : MT yX4_swapBy cX4_swapBy 6 (some .int) 1 22 (fun ad => [.ref (ad 10), .int a1, .int a2, .int a3, .int a4]) S (some (.int r)) S' := by
  refine MT.of RX4 (fun ad => [(0, .ref (ad 10)), (1, .int a1), (2, .int a2), (3, .int a3), (4, .int a4)]) (by decide) rfl (fun _ => Nat.le_of_ble_eq_true rfl) (fun _ => rfl) ?_
  intro p l e R s m args below meth c dC dI cs ad A hR1 hR2 F H locs ls w hl
  have hx := F.1.1
  have hb := F.1.2.1
  rw [f_X4_swapBy] at h
  refine lv_aload_n (pc := 0) hx hb dX4_swapBy_0 rfl (lv_at hl 0 rfl) ?_
  refine lv_iload_n (pc := 1) hx hb dX4_swapBy_1 rfl (lv_at hl 1 rfl) ?_
  refine lv_iload_n (pc := 2) hx hb dX4_swapBy_2 rfl (lv_at hl 2 rfl) ?_
  obtain ⟨r2, S1, hc, h⟩ := bnd_t h
  refine s_cvi (pc := 3) [.int a1, .int a2] (fun ad => [.ref (ad 10), .int a1, .int a2]) F w (m_X4_endIn _ _ _ _ _ hc) rfl rfl hl.1 ds_10 vc_X4 rfl ok_X4_endIn rfl kc_X4_endIn kl_X4_149 ki_X4_endIn kv_X4_endIn kn_X4 ⟨Nat.le_trans (by decide) hR1, Nat.le_trans (by decide) hR2⟩ ⟨Nat.zero_le _, Nat.zero_le _⟩ (Nat.le_of_ble_eq_true rfl) dX4_swapBy_3 (fun H locs w => ?_)
  refine lv_istore (pc := 6) (lv' := [(5, .int r2), (0, .ref (ad 10)), (1, .int a1), (2, .int a2), (3, .int a3), (4, .int a4)]) hx hb dX4_swapBy_6 hl (by decide) rfl (fun ls hl => ?_)
  refine lv_iload_n (pc := 8) hx hb dX4_swapBy_8 rfl (lv_at hl 3 rfl) ?_
  refine lv_iload_n (pc := 9) hx hb dX4_swapBy_9 rfl (lv_at hl 4 rfl) ?_
  refine lv_icmp_ge (pc := 10) (tgt := 32) hx hb dX4_swapBy_10 (by decide) (fun q => ?_) (fun q => ?_)
  · have h := ite_t q h
    refine lv_aload_n (pc := 32) hx hb dX4_swapBy_32 rfl (lv_at hl 1 rfl) ?_
    refine lv_iload_n (pc := 33) hx hb dX4_swapBy_33 rfl (lv_at hl 2 rfl) ?_
    refine lv_iload_n (pc := 34) hx hb dX4_swapBy_34 rfl (lv_at hl 4 rfl) ?_
    obtain ⟨r4, S3, hc, h⟩ := bnd_t h
    refine s_cvi (pc := 35) [.int a1, .int a3] (fun ad => [.ref (ad 10), .int a1, .int a3]) F w (m_X4_endIn _ _ _ _ _ hc) rfl rfl hl.1 ds_10 vc_X4 rfl ok_X4_endIn rfl kc_X4_endIn kl_X4_149 ki_X4_endIn kv_X4_endIn kn_X4 ⟨Nat.le_trans (by decide) hR1, Nat.le_trans (by decide) hR2⟩ ⟨Nat.zero_le _, Nat.zero_le _⟩ (Nat.le_of_ble_eq_true rfl) dX4_swapBy_35 (fun H locs w => ?_)
    refine lv_iload (pc := 38) hx hb dX4_swapBy_38 (lv_at hl 0 rfl) ?_
    refine lv_iload (pc := 40) hx hb dX4_swapBy_40 (lv_at hl 5 rfl) ?_
    refine lv_isub (pc := 42) hx hb dX4_swapBy_42 ?_
    refine lv_iload (pc := 43) hx hb dX4_swapBy_43 (lv_at hl 0 rfl) ?_
    obtain ⟨r6, S5, hc, h⟩ := bnd_t h
    refine s_csi (pc := 45) [.int r4, .int (r2 - a4), .int r2] (fun ad => [.int r4, .int (r2 - a4), .int r2]) F w (m_X4_swapOf _ _ _ _ _ _ hc) rfl rfl hl.1 ok_X4_swapOf rfl kc_X4_swapOf kl_X4_131 ks_X4_swapOf kn_X4 ⟨Nat.le_trans (by decide) hR1, Nat.le_trans (by decide) hR2⟩ ⟨Nat.zero_le _, Nat.zero_le _⟩ (Nat.le_of_ble_eq_true rfl) dX4_swapBy_45 (fun H locs w => ?_)
    exact s_iret F w h dX4_swapBy_48
  · have h := ite_f q h
    refine lv_iload (pc := 13) hx hb dX4_swapBy_13 (lv_at hl 0 rfl) ?_
    refine lv_iload (pc := 15) hx hb dX4_swapBy_15 (lv_at hl 5 rfl) ?_
    refine lv_isub (pc := 17) hx hb dX4_swapBy_17 ?_
    refine lv_iload (pc := 18) hx hb dX4_swapBy_18 (lv_at hl 0 rfl) ?_
    refine lv_aload_n (pc := 20) hx hb dX4_swapBy_20 rfl (lv_at hl 1 rfl) ?_
    refine lv_iload_n (pc := 21) hx hb dX4_swapBy_21 rfl (lv_at hl 2 rfl) ?_
    refine lv_iload_n (pc := 22) hx hb dX4_swapBy_22 rfl (lv_at hl 4 rfl) ?_
    obtain ⟨r8, S7, hc, h⟩ := bnd_t h
    refine s_cvi (pc := 23) [.int a1, .int a3] (fun ad => [.ref (ad 10), .int a1, .int a3]) F w (m_X4_endIn _ _ _ _ _ hc) rfl rfl hl.1 ds_10 vc_X4 rfl ok_X4_endIn rfl kc_X4_endIn kl_X4_149 ki_X4_endIn kv_X4_endIn kn_X4 ⟨Nat.le_trans (by decide) hR1, Nat.le_trans (by decide) hR2⟩ ⟨Nat.zero_le _, Nat.zero_le _⟩ (Nat.le_of_ble_eq_true rfl) dX4_swapBy_23 (fun H locs w => ?_)
    obtain ⟨r10, S9, hc, h⟩ := bnd_t h
    refine s_csi (pc := 26) [.int (r2 - a4), .int r2, .int r8] (fun ad => [.int (r2 - a4), .int r2, .int r8]) F w (m_X4_swapOf _ _ _ _ _ _ hc) rfl rfl hl.1 ok_X4_swapOf rfl kc_X4_swapOf kl_X4_131 ks_X4_swapOf kn_X4 ⟨Nat.le_trans (by decide) hR1, Nat.le_trans (by decide) hR2⟩ ⟨Nat.zero_le _, Nat.zero_le _⟩ (Nat.le_of_ble_eq_true rfl) dX4_swapBy_26 (fun H locs w => ?_)
    refine lv_goto (pc := 29) (tgt := 48) hx hb dX4_swapBy_29 (by decide) ?_
    exact s_iret F w h dX4_swapBy_48
def f_X4_listEntries_Plans_rooms_L75 (K31 : Int32 → Int32 → Int32 → Int32 → SS → Option (SS)) : Nat → Int32 → Int32 → Int32 → Int32 → Int32 → Int32 → SS → Option (SS)
  | 0, _, _, _, _, _, _, _ => none
  | n + 1, x2, x3, x4, x5, x6, x7, S =>
    if x6 < x7 then
      nm (x5 + (1 : Int32)) (fun z11 =>
      K31 x2 x3 x4 z11 S)
    else
      grd (inb x2 (S.2 57)) (wr S 57 x2.toNatClampNeg ((((64 : Int32) * x4) + ((16 : Int32) * x5)) + x7) (fun S12 =>
      bnd (f_X4_shapeAfter x3 x4 x5 x7 S12) (fun r14 S13 =>
      grd (inb x2 (S13.2 58)) (wr S13 58 x2.toNatClampNeg r14 (fun S15 =>
      bnd (f_X4_swapBy x3 x4 x5 x7 S15) (fun r17 S16 =>
      grd (inb x2 (S16.2 59)) (wr S16 59 x2.toNatClampNeg r17 (fun S18 =>
      nm (x2 + (1 : Int32)) (fun z19 =>
      nm (x7 + (1 : Int32)) (fun z20 =>
      f_X4_listEntries_Plans_rooms_L75 K31 n z19 x3 x4 x5 x6 z20 S18))))))))))
def f_X4_listEntries_Plans_rooms_j70 (K31 : Int32 → Int32 → Int32 → Int32 → SS → Option (SS)) (x2 : Int32) (x3 : Int32) (x4 : Int32) (x5 : Int32) (y0 : Int32) (S : SS) : Option (SS) :=
    f_X4_listEntries_Plans_rooms_L75 K31 NF x2 x3 x4 x5 y0 (1 : Int32) S
def f_X4_listEntries_Plans_rooms_L31 (K22 : Int32 → Int32 → Int32 → SS → Option (SS)) : Nat → Int32 → Int32 → Int32 → Int32 → SS → Option (SS)
  | 0, _, _, _, _, _ => none
  | n + 1, x2, x3, x4, x5, S =>
    if (4 : Int32) ≤ x5 then
      nm (x4 + (1 : Int32)) (fun z4 =>
      K22 x2 x3 z4 S)
    else
      if x4 = x5 then
        f_X4_listEntries_Plans_rooms_j70 (fun v0 v1 v2 v3 S => f_X4_listEntries_Plans_rooms_L31 K22 n v0 v1 v2 v3 S) x2 x3 x4 x5 (0 : Int32) S
      else
        bnd (f_X4_heightIn x3 x4 S) (fun r6 S5 =>
        grd (inb x5 4) (
        bnd (f_X4_heightIn x3 x5 S5) (fun r8 S7 =>
        bnd (f_J9_min_7cf53 r6 ((S5.1 46 x5.toNatClampNeg) - r8) S7) (fun r10 S9 =>
        f_X4_listEntries_Plans_rooms_j70 (fun v0 v1 v2 v3 S => f_X4_listEntries_Plans_rooms_L31 K22 n v0 v1 v2 v3 S) x2 x3 x4 x5 r10 S9))))
def f_X4_listEntries_Plans_rooms_L22 (K4 : Int32 → Int32 → SS → Option (SS)) : Nat → Int32 → Int32 → Int32 → SS → Option (SS)
  | 0, _, _, _, _ => none
  | n + 1, x2, x3, x4, S =>
    if (4 : Int32) ≤ x4 then
      nm (x3 + (1 : Int32)) (fun z3 =>
      K4 x2 z3 S)
    else
      f_X4_listEntries_Plans_rooms_L31 (fun v0 v1 v2 S => f_X4_listEntries_Plans_rooms_L22 K4 n v0 v1 v2 S) NF x2 x3 x4 (0 : Int32) S
def f_X4_listEntries_Plans_rooms_L4  : Nat → Int32 → Int32 → SS → Option (SS)
  | 0, _, _, _ => none
  | n + 1, x2, x3, S =>
    if (S.1 10 7) ≤ x3 then
      grd (inb (S.1 10 7) (S.2 56)) (wr S 56 (S.1 10 7).toNatClampNeg x2 (fun S1 =>
      some S1))
    else
      grd (inb x3 (S.2 56)) (wr S 56 x3.toNatClampNeg x2 (fun S2 =>
      f_X4_listEntries_Plans_rooms_L22 (fun v0 v1 S => f_X4_listEntries_Plans_rooms_L4 n v0 v1 S) NF x2 x3 (0 : Int32) S2))
def f_X4_listEntries_Plans_rooms  (S : SS) : Option (SS) :=
  f_X4_listEntries_Plans_rooms_L4 NF (0 : Int32) (0 : Int32) S
theorem dX4_listEntries_0 : decode cX4_listEntries 0 = .ok (.iconst 0, 1) := by decide +kernel
theorem dX4_listEntries_1 : decode cX4_listEntries 1 = .ok (.istore_n 2, 1) := by decide +kernel
theorem dX4_listEntries_2 : decode cX4_listEntries 2 = .ok (.iconst 0, 1) := by decide +kernel
theorem dX4_listEntries_3 : decode cX4_listEntries 3 = .ok (.istore_n 3, 1) := by decide +kernel
theorem dX4_listEntries_4 : decode cX4_listEntries 4 = .ok (.iload_n 3, 1) := by decide +kernel
theorem dX4_listEntries_5 : decode cX4_listEntries 5 = .ok (.aload_n 0, 1) := by decide +kernel
theorem dX4_listEntries_6 : decode cX4_listEntries 6 = .ok (.getfield 36, 3) := by decide +kernel
theorem dX4_listEntries_9 : decode cX4_listEntries 9 = .ok (.if_icmp .ge 154, 3) := by decide +kernel
theorem dX4_listEntries_12 : decode cX4_listEntries 12 = .ok (.aload_n 0, 1) := by decide +kernel
theorem dX4_listEntries_13 : decode cX4_listEntries 13 = .ok (.getfield 45, 3) := by decide +kernel
theorem dX4_listEntries_16 : decode cX4_listEntries 16 = .ok (.iload_n 3, 1) := by decide +kernel
theorem dX4_listEntries_17 : decode cX4_listEntries 17 = .ok (.iload_n 2, 1) := by decide +kernel
theorem dX4_listEntries_18 : decode cX4_listEntries 18 = .ok (.iastore, 1) := by decide +kernel
theorem dX4_listEntries_19 : decode cX4_listEntries 19 = .ok (.iconst 0, 1) := by decide +kernel
theorem dX4_listEntries_20 : decode cX4_listEntries 20 = .ok (.istore 4, 2) := by decide +kernel
theorem dX4_listEntries_22 : decode cX4_listEntries 22 = .ok (.iload 4, 2) := by decide +kernel
theorem dX4_listEntries_24 : decode cX4_listEntries 24 = .ok (.iconst 4, 1) := by decide +kernel
theorem dX4_listEntries_25 : decode cX4_listEntries 25 = .ok (.if_icmp .ge 132, 3) := by decide +kernel
theorem dX4_listEntries_28 : decode cX4_listEntries 28 = .ok (.iconst 0, 1) := by decide +kernel
theorem dX4_listEntries_29 : decode cX4_listEntries 29 = .ok (.istore 5, 2) := by decide +kernel
theorem dX4_listEntries_31 : decode cX4_listEntries 31 = .ok (.iload 5, 2) := by decide +kernel
theorem dX4_listEntries_33 : decode cX4_listEntries 33 = .ok (.iconst 4, 1) := by decide +kernel
theorem dX4_listEntries_34 : decode cX4_listEntries 34 = .ok (.if_icmp .ge 117, 3) := by decide +kernel
theorem dX4_listEntries_37 : decode cX4_listEntries 37 = .ok (.iload 4, 2) := by decide +kernel
theorem dX4_listEntries_39 : decode cX4_listEntries 39 = .ok (.iload 5, 2) := by decide +kernel
theorem dX4_listEntries_41 : decode cX4_listEntries 41 = .ok (.if_icmp .ne 7, 3) := by decide +kernel
theorem dX4_listEntries_44 : decode cX4_listEntries 44 = .ok (.iconst 0, 1) := by decide +kernel
theorem dX4_listEntries_45 : decode cX4_listEntries 45 = .ok (.goto 25, 3) := by decide +kernel
theorem dX4_listEntries_48 : decode cX4_listEntries 48 = .ok (.aload_n 0, 1) := by decide +kernel
theorem dX4_listEntries_49 : decode cX4_listEntries 49 = .ok (.iload_n 3, 1) := by decide +kernel
theorem dX4_listEntries_50 : decode cX4_listEntries 50 = .ok (.iload 4, 2) := by decide +kernel
theorem dX4_listEntries_52 : decode cX4_listEntries 52 = .ok (.invokevirtual 134, 3) := by decide +kernel
theorem dX4_listEntries_55 : decode cX4_listEntries 55 = .ok (.aload_n 1, 1) := by decide +kernel
theorem dX4_listEntries_56 : decode cX4_listEntries 56 = .ok (.iload 5, 2) := by decide +kernel
theorem dX4_listEntries_58 : decode cX4_listEntries 58 = .ok (.iaload, 1) := by decide +kernel
theorem dX4_listEntries_59 : decode cX4_listEntries 59 = .ok (.aload_n 0, 1) := by decide +kernel
theorem dX4_listEntries_60 : decode cX4_listEntries 60 = .ok (.iload_n 3, 1) := by decide +kernel
theorem dX4_listEntries_61 : decode cX4_listEntries 61 = .ok (.iload 5, 2) := by decide +kernel
theorem dX4_listEntries_63 : decode cX4_listEntries 63 = .ok (.invokevirtual 134, 3) := by decide +kernel
theorem dX4_listEntries_66 : decode cX4_listEntries 66 = .ok (.isub, 1) := by decide +kernel
theorem dX4_listEntries_67 : decode cX4_listEntries 67 = .ok (.invokestatic 137, 3) := by decide +kernel
theorem dX4_listEntries_70 : decode cX4_listEntries 70 = .ok (.istore 6, 2) := by decide +kernel
theorem dX4_listEntries_72 : decode cX4_listEntries 72 = .ok (.iconst 1, 1) := by decide +kernel
theorem dX4_listEntries_73 : decode cX4_listEntries 73 = .ok (.istore 7, 2) := by decide +kernel
theorem dX4_listEntries_75 : decode cX4_listEntries 75 = .ok (.iload 7, 2) := by decide +kernel
theorem dX4_listEntries_77 : decode cX4_listEntries 77 = .ok (.iload 6, 2) := by decide +kernel
theorem dX4_listEntries_79 : decode cX4_listEntries 79 = .ok (.if_icmp .gt 66, 3) := by decide +kernel
theorem dX4_listEntries_82 : decode cX4_listEntries 82 = .ok (.aload_n 0, 1) := by decide +kernel
theorem dX4_listEntries_83 : decode cX4_listEntries 83 = .ok (.getfield 48, 3) := by decide +kernel
theorem dX4_listEntries_86 : decode cX4_listEntries 86 = .ok (.iload_n 2, 1) := by decide +kernel
theorem dX4_listEntries_87 : decode cX4_listEntries 87 = .ok (.bipush 64, 2) := by decide +kernel
theorem dX4_listEntries_89 : decode cX4_listEntries 89 = .ok (.iload 4, 2) := by decide +kernel
theorem dX4_listEntries_91 : decode cX4_listEntries 91 = .ok (.imul, 1) := by decide +kernel
theorem dX4_listEntries_92 : decode cX4_listEntries 92 = .ok (.bipush 16, 2) := by decide +kernel
theorem dX4_listEntries_94 : decode cX4_listEntries 94 = .ok (.iload 5, 2) := by decide +kernel
theorem dX4_listEntries_96 : decode cX4_listEntries 96 = .ok (.imul, 1) := by decide +kernel
theorem dX4_listEntries_97 : decode cX4_listEntries 97 = .ok (.iadd, 1) := by decide +kernel
theorem dX4_listEntries_98 : decode cX4_listEntries 98 = .ok (.iload 7, 2) := by decide +kernel
theorem dX4_listEntries_100 : decode cX4_listEntries 100 = .ok (.iadd, 1) := by decide +kernel
theorem dX4_listEntries_101 : decode cX4_listEntries 101 = .ok (.iastore, 1) := by decide +kernel
theorem dX4_listEntries_102 : decode cX4_listEntries 102 = .ok (.aload_n 0, 1) := by decide +kernel
theorem dX4_listEntries_103 : decode cX4_listEntries 103 = .ok (.getfield 51, 3) := by decide +kernel
theorem dX4_listEntries_106 : decode cX4_listEntries 106 = .ok (.iload_n 2, 1) := by decide +kernel
theorem dX4_listEntries_107 : decode cX4_listEntries 107 = .ok (.aload_n 0, 1) := by decide +kernel
theorem dX4_listEntries_108 : decode cX4_listEntries 108 = .ok (.iload_n 3, 1) := by decide +kernel
theorem dX4_listEntries_109 : decode cX4_listEntries 109 = .ok (.iload 4, 2) := by decide +kernel
theorem dX4_listEntries_111 : decode cX4_listEntries 111 = .ok (.iload 5, 2) := by decide +kernel
theorem dX4_listEntries_113 : decode cX4_listEntries 113 = .ok (.iload 7, 2) := by decide +kernel
theorem dX4_listEntries_115 : decode cX4_listEntries 115 = .ok (.invokevirtual 142, 3) := by decide +kernel
theorem dX4_listEntries_118 : decode cX4_listEntries 118 = .ok (.iastore, 1) := by decide +kernel
theorem dX4_listEntries_119 : decode cX4_listEntries 119 = .ok (.aload_n 0, 1) := by decide +kernel
theorem dX4_listEntries_120 : decode cX4_listEntries 120 = .ok (.getfield 54, 3) := by decide +kernel
theorem dX4_listEntries_123 : decode cX4_listEntries 123 = .ok (.iload_n 2, 1) := by decide +kernel
theorem dX4_listEntries_124 : decode cX4_listEntries 124 = .ok (.aload_n 0, 1) := by decide +kernel
theorem dX4_listEntries_125 : decode cX4_listEntries 125 = .ok (.iload_n 3, 1) := by decide +kernel
theorem dX4_listEntries_126 : decode cX4_listEntries 126 = .ok (.iload 4, 2) := by decide +kernel
theorem dX4_listEntries_128 : decode cX4_listEntries 128 = .ok (.iload 5, 2) := by decide +kernel
theorem dX4_listEntries_130 : decode cX4_listEntries 130 = .ok (.iload 7, 2) := by decide +kernel
theorem dX4_listEntries_132 : decode cX4_listEntries 132 = .ok (.invokevirtual 146, 3) := by decide +kernel
theorem dX4_listEntries_135 : decode cX4_listEntries 135 = .ok (.iastore, 1) := by decide +kernel
theorem dX4_listEntries_136 : decode cX4_listEntries 136 = .ok (.iinc 2 1, 3) := by decide +kernel
theorem dX4_listEntries_139 : decode cX4_listEntries 139 = .ok (.iinc 7 1, 3) := by decide +kernel
theorem dX4_listEntries_142 : decode cX4_listEntries 142 = .ok (.goto (-67), 3) := by decide +kernel
theorem dX4_listEntries_145 : decode cX4_listEntries 145 = .ok (.iinc 5 1, 3) := by decide +kernel
theorem dX4_listEntries_148 : decode cX4_listEntries 148 = .ok (.goto (-117), 3) := by decide +kernel
theorem dX4_listEntries_151 : decode cX4_listEntries 151 = .ok (.iinc 4 1, 3) := by decide +kernel
theorem dX4_listEntries_154 : decode cX4_listEntries 154 = .ok (.goto (-132), 3) := by decide +kernel
theorem dX4_listEntries_157 : decode cX4_listEntries 157 = .ok (.iinc 3 1, 3) := by decide +kernel
theorem dX4_listEntries_160 : decode cX4_listEntries 160 = .ok (.goto (-156), 3) := by decide +kernel
theorem dX4_listEntries_163 : decode cX4_listEntries 163 = .ok (.aload_n 0, 1) := by decide +kernel
theorem dX4_listEntries_164 : decode cX4_listEntries 164 = .ok (.getfield 45, 3) := by decide +kernel
theorem dX4_listEntries_167 : decode cX4_listEntries 167 = .ok (.aload_n 0, 1) := by decide +kernel
theorem dX4_listEntries_168 : decode cX4_listEntries 168 = .ok (.getfield 36, 3) := by decide +kernel
theorem dX4_listEntries_171 : decode cX4_listEntries 171 = .ok (.iload_n 2, 1) := by decide +kernel
theorem dX4_listEntries_172 : decode cX4_listEntries 172 = .ok (.iastore, 1) := by decide +kernel
theorem dX4_listEntries_173 : decode cX4_listEntries 173 = .ok (.return_, 1) := by decide +kernel
set_option maxRecDepth 100000 in
set_option maxHeartbeats 4000000 in
theorem w_X4_listEntries_Plans_rooms_L75 {p : Program} {l : Launch} {e : Env} {R : Room} {s : State} {m : MethodId} {args : Array Value} {below : List Frame} {meth : Method} {c : Code} {dC : Nat → ClassId} {dI : Nat → Nat → Nat} {cs : Nat → ClassId} {ad : Nat → Nat} {A : Nat → Prop} {D0 : Nat → Nat} {S' : SS} (F : Fx p s m args meth c cX4_listEntries 8 RX4 none dC dI cs A) (hR1 : 2 ≤ R.frames) (hR2 : 50 ≤ R.locals) (K31 : Int32 → Int32 → Int32 → Int32 → SS → Option (SS)) (hK31 : ∀ (v0 : Int32) (v1 : Int32) (v2 : Int32) (v3 : Int32) (S : SS), K31 v0 v1 v2 v3 S = some S' → AW p l e R s m args below meth c dC dI cs ad A D0 none S' 8 31 [(0, .ref (ad 10)), (1, .ref (ad 46)), (2, .int v0), (3, .int v1), (4, .int v2), (5, .int v3)] [] S) : ∀ (n : Nat) (x2 : Int32) (x3 : Int32) (x4 : Int32) (x5 : Int32) (x6 : Int32) (x7 : Int32) (S : SS), f_X4_listEntries_Plans_rooms_L75 K31 n x2 x3 x4 x5 x6 x7 S = some S' → AW p l e R s m args below meth c dC dI cs ad A D0 none S' 8 75 [(0, .ref (ad 10)), (1, .ref (ad 46)), (2, .int x2), (3, .int x3), (4, .int x4), (5, .int x5), (6, .int x6), (7, .int x7)] [] S := by
  have hx := F.1.1
  have hb := F.1.2.1
  intro n
  induction n with
  | zero => intro x2 x3 x4 x5 x6 x7 S h; cases h
  | succ n ih =>
    intro x2 x3 x4 x5 x6 x7 S h H locs ls w hl
    rw [f_X4_listEntries_Plans_rooms_L75] at h
    refine lv_iload (pc := 75) hx hb dX4_listEntries_75 (lv_at hl 7 rfl) ?_
    refine lv_iload (pc := 77) hx hb dX4_listEntries_77 (lv_at hl 6 rfl) ?_
    refine lv_icmp_gt (pc := 79) (tgt := 145) hx hb dX4_listEntries_79 (by decide) (fun q => ?_) (fun q => ?_)
    · have h := ite_t q h
      refine s_nm h (fun z11 ez11 h => ?_)
      refine lv_iinc (pc := 145) (v := z11) (lv' := [(5, .int z11), (0, .ref (ad 10)), (1, .ref (ad 46)), (2, .int x2), (3, .int x3), (4, .int x4), (6, .int x6), (7, .int x7)]) hx hb dX4_listEntries_145 hl (k := 5) rfl (by rw [ez11]; rfl) (by decide) rfl (fun ls hl => ?_)
      refine lv_goto (pc := 148) (tgt := 31) hx hb dX4_listEntries_148 (by decide) ?_
      exact hK31 _ _ _ _ _ h _ _ _ w (lv_sub hl [1, 2, 3, 4, 5, 0] rfl)
    · have h := ite_f q h
      refine lv_aload_n (pc := 82) hx hb dX4_listEntries_82 rfl (lv_at hl 0 rfl) ?_
      refine s_getR (pc := 83) F w 57 ds_10 (j := 11) vc_X4 vi_X4 rfl (by decide) kf_X4_48 dX4_listEntries_83 ?_
      refine lv_iload_n (pc := 86) hx hb dX4_listEntries_86 rfl (lv_at hl 2 rfl) ?_
      refine lv_bipush (pc := 87) (v := 64) hx hb dX4_listEntries_87 (by decide) ?_
      refine lv_iload (pc := 89) hx hb dX4_listEntries_89 (lv_at hl 4 rfl) ?_
      refine lv_imul (pc := 91) hx hb dX4_listEntries_91 ?_
      refine lv_bipush (pc := 92) (v := 16) hx hb dX4_listEntries_92 (by decide) ?_
      refine lv_iload (pc := 94) hx hb dX4_listEntries_94 (lv_at hl 5 rfl) ?_
      refine lv_imul (pc := 96) hx hb dX4_listEntries_96 ?_
      refine lv_iadd (pc := 97) hx hb dX4_listEntries_97 ?_
      refine lv_iload (pc := 98) hx hb dX4_listEntries_98 (lv_at hl 7 rfl) ?_
      refine lv_iadd (pc := 100) hx hb dX4_listEntries_100 ?_
      refine s_iast (pc := 101) F w ds_57 h dX4_listEntries_101 (fun S12 H locs h w => ?_)
      refine lv_aload_n (pc := 102) hx hb dX4_listEntries_102 rfl (lv_at hl 0 rfl) ?_
      refine s_getR (pc := 103) F w 58 ds_10 (j := 12) vc_X4 vi_X4 rfl (by decide) kf_X4_51 dX4_listEntries_103 ?_
      refine lv_iload_n (pc := 106) hx hb dX4_listEntries_106 rfl (lv_at hl 2 rfl) ?_
      refine lv_aload_n (pc := 107) hx hb dX4_listEntries_107 rfl (lv_at hl 0 rfl) ?_
      refine lv_iload_n (pc := 108) hx hb dX4_listEntries_108 rfl (lv_at hl 3 rfl) ?_
      refine lv_iload (pc := 109) hx hb dX4_listEntries_109 (lv_at hl 4 rfl) ?_
      refine lv_iload (pc := 111) hx hb dX4_listEntries_111 (lv_at hl 5 rfl) ?_
      refine lv_iload (pc := 113) hx hb dX4_listEntries_113 (lv_at hl 7 rfl) ?_
      obtain ⟨r14, S13, hc, h⟩ := bnd_t h
      refine s_cvi (pc := 115) [.int x3, .int x4, .int x5, .int x7] (fun ad => [.ref (ad 10), .int x3, .int x4, .int x5, .int x7]) F w (m_X4_shapeAfter _ _ _ _ _ _ _ hc) rfl rfl hl.1 ds_10 vc_X4 rfl ok_X4_shapeAfter rfl kc_X4_shapeAfter kl_X4_142 ki_X4_shapeAfter kv_X4_shapeAfter kn_X4 ⟨Nat.le_trans (by decide) hR1, Nat.le_trans (by decide) hR2⟩ ⟨Nat.zero_le _, Nat.zero_le _⟩ (Nat.le_of_ble_eq_true rfl) dX4_listEntries_115 (fun H locs w => ?_)
      refine s_iast (pc := 118) F w ds_58 h dX4_listEntries_118 (fun S15 H locs h w => ?_)
      refine lv_aload_n (pc := 119) hx hb dX4_listEntries_119 rfl (lv_at hl 0 rfl) ?_
      refine s_getR (pc := 120) F w 59 ds_10 (j := 13) vc_X4 vi_X4 rfl (by decide) kf_X4_54 dX4_listEntries_120 ?_
      refine lv_iload_n (pc := 123) hx hb dX4_listEntries_123 rfl (lv_at hl 2 rfl) ?_
      refine lv_aload_n (pc := 124) hx hb dX4_listEntries_124 rfl (lv_at hl 0 rfl) ?_
      refine lv_iload_n (pc := 125) hx hb dX4_listEntries_125 rfl (lv_at hl 3 rfl) ?_
      refine lv_iload (pc := 126) hx hb dX4_listEntries_126 (lv_at hl 4 rfl) ?_
      refine lv_iload (pc := 128) hx hb dX4_listEntries_128 (lv_at hl 5 rfl) ?_
      refine lv_iload (pc := 130) hx hb dX4_listEntries_130 (lv_at hl 7 rfl) ?_
      obtain ⟨r17, S16, hc, h⟩ := bnd_t h
      refine s_cvi (pc := 132) [.int x3, .int x4, .int x5, .int x7] (fun ad => [.ref (ad 10), .int x3, .int x4, .int x5, .int x7]) F w (m_X4_swapBy _ _ _ _ _ _ _ hc) rfl rfl hl.1 ds_10 vc_X4 rfl ok_X4_swapBy rfl kc_X4_swapBy kl_X4_146 ki_X4_swapBy kv_X4_swapBy kn_X4 ⟨Nat.le_trans (by decide) hR1, Nat.le_trans (by decide) hR2⟩ ⟨Nat.zero_le _, Nat.zero_le _⟩ (Nat.le_of_ble_eq_true rfl) dX4_listEntries_132 (fun H locs w => ?_)
      refine s_iast (pc := 135) F w ds_59 h dX4_listEntries_135 (fun S18 H locs h w => ?_)
      refine s_nm h (fun z19 ez19 h => ?_)
      refine lv_iinc (pc := 136) (v := z19) (lv' := [(2, .int z19), (0, .ref (ad 10)), (1, .ref (ad 46)), (3, .int x3), (4, .int x4), (5, .int x5), (6, .int x6), (7, .int x7)]) hx hb dX4_listEntries_136 hl (k := 2) rfl (by rw [ez19]; rfl) (by decide) rfl (fun ls hl => ?_)
      refine s_nm h (fun z20 ez20 h => ?_)
      refine lv_iinc (pc := 139) (v := z20) (lv' := [(7, .int z20), (2, .int z19), (0, .ref (ad 10)), (1, .ref (ad 46)), (3, .int x3), (4, .int x4), (5, .int x5), (6, .int x6)]) hx hb dX4_listEntries_139 hl (k := 7) rfl (by rw [ez20]; rfl) (by decide) rfl (fun ls hl => ?_)
      refine lv_goto (pc := 142) (tgt := 75) hx hb dX4_listEntries_142 (by decide) ?_
      exact ih _ _ _ _ _ _ _ h _ _ _ w (lv_sub hl [2, 3, 1, 4, 5, 6, 7, 0] rfl)
set_option maxRecDepth 100000 in
set_option maxHeartbeats 4000000 in
theorem w_X4_listEntries_Plans_rooms_j70 {p : Program} {l : Launch} {e : Env} {R : Room} {s : State} {m : MethodId} {args : Array Value} {below : List Frame} {meth : Method} {c : Code} {dC : Nat → ClassId} {dI : Nat → Nat → Nat} {cs : Nat → ClassId} {ad : Nat → Nat} {A : Nat → Prop} {D0 : Nat → Nat} {S' : SS} (F : Fx p s m args meth c cX4_listEntries 8 RX4 none dC dI cs A) (hR1 : 2 ≤ R.frames) (hR2 : 50 ≤ R.locals) (K31 : Int32 → Int32 → Int32 → Int32 → SS → Option (SS)) (hK31 : ∀ (v0 : Int32) (v1 : Int32) (v2 : Int32) (v3 : Int32) (S : SS), K31 v0 v1 v2 v3 S = some S' → AW p l e R s m args below meth c dC dI cs ad A D0 none S' 8 31 [(0, .ref (ad 10)), (1, .ref (ad 46)), (2, .int v0), (3, .int v1), (4, .int v2), (5, .int v3)] [] S) (x2 : Int32) (x3 : Int32) (x4 : Int32) (x5 : Int32) (y0 : Int32) (S : SS) (h : f_X4_listEntries_Plans_rooms_j70 K31 x2 x3 x4 x5 y0 S = some S') : AW p l e R s m args below meth c dC dI cs ad A D0 none S' 8 70 [(0, .ref (ad 10)), (1, .ref (ad 46)), (2, .int x2), (3, .int x3), (4, .int x4), (5, .int x5)] [.int y0] S := by
  have hx := F.1.1
  have hb := F.1.2.1
  intro H locs ls w hl
  rw [f_X4_listEntries_Plans_rooms_j70] at h
  refine lv_istore (pc := 70) (lv' := [(6, .int y0), (0, .ref (ad 10)), (1, .ref (ad 46)), (2, .int x2), (3, .int x3), (4, .int x4), (5, .int x5)]) hx hb dX4_listEntries_70 hl (by decide) rfl (fun ls hl => ?_)
  refine lv_iconst (pc := 72) (v := 1) hx hb dX4_listEntries_72 (by decide) ?_
  refine lv_istore (pc := 73) (lv' := [(7, .int (1 : Int32)), (6, .int y0), (0, .ref (ad 10)), (1, .ref (ad 46)), (2, .int x2), (3, .int x3), (4, .int x4), (5, .int x5)]) hx hb dX4_listEntries_73 hl (by decide) rfl (fun ls hl => ?_)
  exact w_X4_listEntries_Plans_rooms_L75 F (Nat.le_trans (by decide) hR1) (Nat.le_trans (by decide) hR2) _ hK31 _ _ _ _ _ _ _ _ h _ _ _ w (lv_sub hl [2, 3, 4, 5, 6, 7, 1, 0] rfl)
set_option maxRecDepth 100000 in
set_option maxHeartbeats 4000000 in
theorem w_X4_listEntries_Plans_rooms_L31 {p : Program} {l : Launch} {e : Env} {R : Room} {s : State} {m : MethodId} {args : Array Value} {below : List Frame} {meth : Method} {c : Code} {dC : Nat → ClassId} {dI : Nat → Nat → Nat} {cs : Nat → ClassId} {ad : Nat → Nat} {A : Nat → Prop} {D0 : Nat → Nat} {S' : SS} (F : Fx p s m args meth c cX4_listEntries 8 RX4 none dC dI cs A) (hR1 : 2 ≤ R.frames) (hR2 : 50 ≤ R.locals) (K22 : Int32 → Int32 → Int32 → SS → Option (SS)) (hK22 : ∀ (v0 : Int32) (v1 : Int32) (v2 : Int32) (S : SS), K22 v0 v1 v2 S = some S' → AW p l e R s m args below meth c dC dI cs ad A D0 none S' 8 22 [(0, .ref (ad 10)), (1, .ref (ad 46)), (2, .int v0), (3, .int v1), (4, .int v2)] [] S) : ∀ (n : Nat) (x2 : Int32) (x3 : Int32) (x4 : Int32) (x5 : Int32) (S : SS), f_X4_listEntries_Plans_rooms_L31 K22 n x2 x3 x4 x5 S = some S' → AW p l e R s m args below meth c dC dI cs ad A D0 none S' 8 31 [(0, .ref (ad 10)), (1, .ref (ad 46)), (2, .int x2), (3, .int x3), (4, .int x4), (5, .int x5)] [] S := by
  have hx := F.1.1
  have hb := F.1.2.1
  intro n
  induction n with
  | zero => intro x2 x3 x4 x5 S h; cases h
  | succ n ih =>
    intro x2 x3 x4 x5 S h H locs ls w hl
    rw [f_X4_listEntries_Plans_rooms_L31] at h
    refine lv_iload (pc := 31) hx hb dX4_listEntries_31 (lv_at hl 5 rfl) ?_
    refine lv_iconst (pc := 33) (v := 4) hx hb dX4_listEntries_33 (by decide) ?_
    refine lv_icmp_ge (pc := 34) (tgt := 151) hx hb dX4_listEntries_34 (by decide) (fun q => ?_) (fun q => ?_)
    · have h := ite_t q h
      refine s_nm h (fun z4 ez4 h => ?_)
      refine lv_iinc (pc := 151) (v := z4) (lv' := [(4, .int z4), (0, .ref (ad 10)), (1, .ref (ad 46)), (2, .int x2), (3, .int x3), (5, .int x5)]) hx hb dX4_listEntries_151 hl (k := 4) rfl (by rw [ez4]; rfl) (by decide) rfl (fun ls hl => ?_)
      refine lv_goto (pc := 154) (tgt := 22) hx hb dX4_listEntries_154 (by decide) ?_
      exact hK22 _ _ _ _ h _ _ _ w (lv_sub hl [1, 2, 3, 4, 0] rfl)
    · have h := ite_f q h
      refine lv_iload (pc := 37) hx hb dX4_listEntries_37 (lv_at hl 4 rfl) ?_
      refine lv_iload (pc := 39) hx hb dX4_listEntries_39 (lv_at hl 5 rfl) ?_
      refine lv_icmp_ne (pc := 41) (tgt := 48) hx hb dX4_listEntries_41 (by decide) (fun q => ?_) (fun q => ?_)
      · have h := ite_f q h
        refine lv_aload_n (pc := 48) hx hb dX4_listEntries_48 rfl (lv_at hl 0 rfl) ?_
        refine lv_iload_n (pc := 49) hx hb dX4_listEntries_49 rfl (lv_at hl 3 rfl) ?_
        refine lv_iload (pc := 50) hx hb dX4_listEntries_50 (lv_at hl 4 rfl) ?_
        obtain ⟨r6, S5, hc, h⟩ := bnd_t h
        refine s_cvi (pc := 52) [.int x3, .int x4] (fun ad => [.ref (ad 10), .int x3, .int x4]) F w (m_X4_heightIn _ _ _ _ _ hc) rfl rfl hl.1 ds_10 vc_X4 rfl ok_X4_heightIn rfl kc_X4_heightIn kl_X4_134 ki_X4_heightIn kv_X4_heightIn kn_X4 ⟨Nat.le_trans (by decide) hR1, Nat.le_trans (by decide) hR2⟩ ⟨Nat.zero_le _, Nat.zero_le _⟩ (Nat.le_of_ble_eq_true rfl) dX4_listEntries_52 (fun H locs w => ?_)
        refine lv_aload_n (pc := 55) hx hb dX4_listEntries_55 rfl (lv_at hl 1 rfl) ?_
        refine lv_iload (pc := 56) hx hb dX4_listEntries_56 (lv_at hl 5 rfl) ?_
        refine s_iald (pc := 58) F w ds_46 h dX4_listEntries_58 (fun h => ?_)
        refine lv_aload_n (pc := 59) hx hb dX4_listEntries_59 rfl (lv_at hl 0 rfl) ?_
        refine lv_iload_n (pc := 60) hx hb dX4_listEntries_60 rfl (lv_at hl 3 rfl) ?_
        refine lv_iload (pc := 61) hx hb dX4_listEntries_61 (lv_at hl 5 rfl) ?_
        obtain ⟨r8, S7, hc, h⟩ := bnd_t h
        refine s_cvi (pc := 63) [.int x3, .int x5] (fun ad => [.ref (ad 10), .int x3, .int x5]) F w (m_X4_heightIn _ _ _ _ _ hc) rfl rfl hl.1 ds_10 vc_X4 rfl ok_X4_heightIn rfl kc_X4_heightIn kl_X4_134 ki_X4_heightIn kv_X4_heightIn kn_X4 ⟨Nat.le_trans (by decide) hR1, Nat.le_trans (by decide) hR2⟩ ⟨Nat.zero_le _, Nat.zero_le _⟩ (Nat.le_of_ble_eq_true rfl) dX4_listEntries_63 (fun H locs w => ?_)
        refine lv_isub (pc := 66) hx hb dX4_listEntries_66 ?_
        obtain ⟨r10, S9, hc, h⟩ := bnd_t h
        refine s_csi (pc := 67) [.int r6, .int ((S5.1 46 x5.toNatClampNeg) - r8)] (fun ad => [.int r6, .int ((S5.1 46 x5.toNatClampNeg) - r8)]) F w (m_J9_min_7cf53 _ _ _ _ _ hc) rfl rfl hl.1 ok_J9_min_7cf53 rfl kc_J9_min_7cf53 kl_X4_137 ks_J9_min_7cf53 kn_J9 ⟨Nat.le_trans (by decide) hR1, Nat.le_trans (by decide) hR2⟩ ⟨Nat.zero_le _, Nat.zero_le _⟩ (Nat.le_of_ble_eq_true rfl) dX4_listEntries_67 (fun H locs w => ?_)
        exact w_X4_listEntries_Plans_rooms_j70 F (Nat.le_trans (by decide) hR1) (Nat.le_trans (by decide) hR2) _ (fun v0 v1 v2 v3 S h => ih v0 v1 v2 v3 S h) _ _ _ _ _ _ h _ _ _ w (lv_sub hl [0, 1, 2, 3, 4, 5] rfl)
      · have h := ite_t q h
        refine lv_iconst (pc := 44) (v := 0) hx hb dX4_listEntries_44 (by decide) ?_
        refine lv_goto (pc := 45) (tgt := 70) hx hb dX4_listEntries_45 (by decide) ?_
        exact w_X4_listEntries_Plans_rooms_j70 F (Nat.le_trans (by decide) hR1) (Nat.le_trans (by decide) hR2) _ (fun v0 v1 v2 v3 S h => ih v0 v1 v2 v3 S h) _ _ _ _ _ _ h _ _ _ w (lv_sub hl [0, 1, 2, 3, 4, 5] rfl)
set_option maxRecDepth 100000 in
set_option maxHeartbeats 4000000 in
theorem w_X4_listEntries_Plans_rooms_L22 {p : Program} {l : Launch} {e : Env} {R : Room} {s : State} {m : MethodId} {args : Array Value} {below : List Frame} {meth : Method} {c : Code} {dC : Nat → ClassId} {dI : Nat → Nat → Nat} {cs : Nat → ClassId} {ad : Nat → Nat} {A : Nat → Prop} {D0 : Nat → Nat} {S' : SS} (F : Fx p s m args meth c cX4_listEntries 8 RX4 none dC dI cs A) (hR1 : 2 ≤ R.frames) (hR2 : 50 ≤ R.locals) (K4 : Int32 → Int32 → SS → Option (SS)) (hK4 : ∀ (v0 : Int32) (v1 : Int32) (S : SS), K4 v0 v1 S = some S' → AW p l e R s m args below meth c dC dI cs ad A D0 none S' 8 4 [(0, .ref (ad 10)), (1, .ref (ad 46)), (2, .int v0), (3, .int v1)] [] S) : ∀ (n : Nat) (x2 : Int32) (x3 : Int32) (x4 : Int32) (S : SS), f_X4_listEntries_Plans_rooms_L22 K4 n x2 x3 x4 S = some S' → AW p l e R s m args below meth c dC dI cs ad A D0 none S' 8 22 [(0, .ref (ad 10)), (1, .ref (ad 46)), (2, .int x2), (3, .int x3), (4, .int x4)] [] S := by
  have hx := F.1.1
  have hb := F.1.2.1
  intro n
  induction n with
  | zero => intro x2 x3 x4 S h; cases h
  | succ n ih =>
    intro x2 x3 x4 S h H locs ls w hl
    rw [f_X4_listEntries_Plans_rooms_L22] at h
    refine lv_iload (pc := 22) hx hb dX4_listEntries_22 (lv_at hl 4 rfl) ?_
    refine lv_iconst (pc := 24) (v := 4) hx hb dX4_listEntries_24 (by decide) ?_
    refine lv_icmp_ge (pc := 25) (tgt := 157) hx hb dX4_listEntries_25 (by decide) (fun q => ?_) (fun q => ?_)
    · have h := ite_t q h
      refine s_nm h (fun z3 ez3 h => ?_)
      refine lv_iinc (pc := 157) (v := z3) (lv' := [(3, .int z3), (0, .ref (ad 10)), (1, .ref (ad 46)), (2, .int x2), (4, .int x4)]) hx hb dX4_listEntries_157 hl (k := 3) rfl (by rw [ez3]; rfl) (by decide) rfl (fun ls hl => ?_)
      refine lv_goto (pc := 160) (tgt := 4) hx hb dX4_listEntries_160 (by decide) ?_
      exact hK4 _ _ _ h _ _ _ w (lv_sub hl [1, 2, 3, 0] rfl)
    · have h := ite_f q h
      refine lv_iconst (pc := 28) (v := 0) hx hb dX4_listEntries_28 (by decide) ?_
      refine lv_istore (pc := 29) (lv' := [(5, .int (0 : Int32)), (0, .ref (ad 10)), (1, .ref (ad 46)), (2, .int x2), (3, .int x3), (4, .int x4)]) hx hb dX4_listEntries_29 hl (by decide) rfl (fun ls hl => ?_)
      exact w_X4_listEntries_Plans_rooms_L31 F (Nat.le_trans (by decide) hR1) (Nat.le_trans (by decide) hR2) _ (fun v0 v1 v2 S h => ih v0 v1 v2 S h) _ _ _ _ _ _ h _ _ _ w (lv_sub hl [1, 2, 3, 4, 5, 0] rfl)
set_option maxRecDepth 100000 in
set_option maxHeartbeats 4000000 in
theorem w_X4_listEntries_Plans_rooms_L4 {p : Program} {l : Launch} {e : Env} {R : Room} {s : State} {m : MethodId} {args : Array Value} {below : List Frame} {meth : Method} {c : Code} {dC : Nat → ClassId} {dI : Nat → Nat → Nat} {cs : Nat → ClassId} {ad : Nat → Nat} {A : Nat → Prop} {D0 : Nat → Nat} {S' : SS} (F : Fx p s m args meth c cX4_listEntries 8 RX4 none dC dI cs A) (hR1 : 2 ≤ R.frames) (hR2 : 50 ≤ R.locals) : ∀ (n : Nat) (x2 : Int32) (x3 : Int32) (S : SS), f_X4_listEntries_Plans_rooms_L4 n x2 x3 S = some S' → AW p l e R s m args below meth c dC dI cs ad A D0 none S' 8 4 [(0, .ref (ad 10)), (1, .ref (ad 46)), (2, .int x2), (3, .int x3)] [] S := by
  have hx := F.1.1
  have hb := F.1.2.1
  intro n
  induction n with
  | zero => intro x2 x3 S h; cases h
  | succ n ih =>
    intro x2 x3 S h H locs ls w hl
    rw [f_X4_listEntries_Plans_rooms_L4] at h
    refine lv_iload_n (pc := 4) hx hb dX4_listEntries_4 rfl (lv_at hl 3 rfl) ?_
    refine lv_aload_n (pc := 5) hx hb dX4_listEntries_5 rfl (lv_at hl 0 rfl) ?_
    refine s_getI (pc := 6) F w ds_10 (j := 7) vc_X4 vi_X4 rfl (by decide) kf_X4_36 dX4_listEntries_6 ?_
    refine lv_icmp_ge (pc := 9) (tgt := 163) hx hb dX4_listEntries_9 (by decide) (fun q => ?_) (fun q => ?_)
    · have h := ite_t q h
      refine lv_aload_n (pc := 163) hx hb dX4_listEntries_163 rfl (lv_at hl 0 rfl) ?_
      refine s_getR (pc := 164) F w 56 ds_10 (j := 10) vc_X4 vi_X4 rfl (by decide) kf_X4_45 dX4_listEntries_164 ?_
      refine lv_aload_n (pc := 167) hx hb dX4_listEntries_167 rfl (lv_at hl 0 rfl) ?_
      refine s_getI (pc := 168) F w ds_10 (j := 7) vc_X4 vi_X4 rfl (by decide) kf_X4_36 dX4_listEntries_168 ?_
      refine lv_iload_n (pc := 171) hx hb dX4_listEntries_171 rfl (lv_at hl 2 rfl) ?_
      refine s_iast (pc := 172) F w ds_56 h dX4_listEntries_172 (fun S1 H locs h w => ?_)
      exact s_vret F w h dX4_listEntries_173
    · have h := ite_f q h
      refine lv_aload_n (pc := 12) hx hb dX4_listEntries_12 rfl (lv_at hl 0 rfl) ?_
      refine s_getR (pc := 13) F w 56 ds_10 (j := 10) vc_X4 vi_X4 rfl (by decide) kf_X4_45 dX4_listEntries_13 ?_
      refine lv_iload_n (pc := 16) hx hb dX4_listEntries_16 rfl (lv_at hl 3 rfl) ?_
      refine lv_iload_n (pc := 17) hx hb dX4_listEntries_17 rfl (lv_at hl 2 rfl) ?_
      refine s_iast (pc := 18) F w ds_56 h dX4_listEntries_18 (fun S2 H locs h w => ?_)
      refine lv_iconst (pc := 19) (v := 0) hx hb dX4_listEntries_19 (by decide) ?_
      refine lv_istore (pc := 20) (lv' := [(4, .int (0 : Int32)), (0, .ref (ad 10)), (1, .ref (ad 46)), (2, .int x2), (3, .int x3)]) hx hb dX4_listEntries_20 hl (by decide) rfl (fun ls hl => ?_)
      exact w_X4_listEntries_Plans_rooms_L22 F (Nat.le_trans (by decide) hR1) (Nat.le_trans (by decide) hR2) _ (fun v0 v1 S h => ih v0 v1 S h) _ _ _ _ _ h _ _ _ w (lv_sub hl [1, 2, 3, 4, 0] rfl)
set_option maxRecDepth 100000 in
set_option maxHeartbeats 4000000 in
theorem m_X4_listEntries_Plans_rooms  (S S' : SS) (h : f_X4_listEntries_Plans_rooms  S = some S') : MT yX4_listEntries cX4_listEntries 8 none 2 50 (fun ad => [.ref (ad 10), .ref (ad 46)]) S none S' := by
  refine MT.of RX4 (fun ad => [(0, .ref (ad 10)), (1, .ref (ad 46))]) (by decide) rfl (fun _ => Nat.le_of_ble_eq_true rfl) (fun _ => rfl) ?_
  intro p l e R s m args below meth c dC dI cs ad A hR1 hR2 F H locs ls w hl
  have hx := F.1.1
  have hb := F.1.2.1
  rw [f_X4_listEntries_Plans_rooms] at h
  refine lv_iconst (pc := 0) (v := 0) hx hb dX4_listEntries_0 (by decide) ?_
  refine lv_istore_n (pc := 1) (lv' := [(2, .int (0 : Int32)), (0, .ref (ad 10)), (1, .ref (ad 46))]) hx hb dX4_listEntries_1 rfl hl (by decide) rfl (fun ls hl => ?_)
  refine lv_iconst (pc := 2) (v := 0) hx hb dX4_listEntries_2 (by decide) ?_
  refine lv_istore_n (pc := 3) (lv' := [(3, .int (0 : Int32)), (2, .int (0 : Int32)), (0, .ref (ad 10)), (1, .ref (ad 46))]) hx hb dX4_listEntries_3 rfl hl (by decide) rfl (fun ls hl => ?_)
  exact w_X4_listEntries_Plans_rooms_L4 F (Nat.le_trans (by decide) hR1) (Nat.le_trans (by decide) hR2) _ _ _ _ h _ _ _ w (lv_sub hl [2, 3, 1, 0] rfl)
def f_X4_rankAfter_j62  (x2 : Int32) (y0 : Int32) (S : SS) : Option (Int32 × SS) :=
    grd (inb x2 (S.2 58)) (
    some ((y0 * (S.1 10 7)) + (S.1 58 x2.toNatClampNeg), S))
def f_X4_rankAfter (a1 : Int32) (a2 : Int32) (S : SS) : Option (Int32 × SS) :=
  bnd (f_X4_isRank a1 S) (fun r2 S1 =>
  if r2 = 0 then
    some ((-4 : Int32), S1)
  else
    if a2 < 0 then
      some ((-4 : Int32), S1)
    else
      if a2 < (Int32.ofNat (S1.2 57)) then
        grd (!(decide (S1.1 10 7 = 0))) (
        nm (a1 / (S1.1 10 7)) (fun z3 =>
        grd (inb a2 (S1.2 59)) (
        nm (S1.1 59 a2.toNatClampNeg) (fun z4 =>
        if z4 = (-4 : Int32) then
          f_X4_rankAfter_j62 a2 z3 S1
        else
          grd (inb (((20 : Int32) * z3) + z4) (S1.2 55)) (
          f_X4_rankAfter_j62 a2 (S1.1 55 (((20 : Int32) * z3) + z4).toNatClampNeg) S1)))))
      else
        some ((-4 : Int32), S1))
theorem dX4_rankAfter_0 : decode cX4_rankAfter 0 = .ok (.aload_n 0, 1) := by decide +kernel
theorem dX4_rankAfter_1 : decode cX4_rankAfter 1 = .ok (.iload_n 1, 1) := by decide +kernel
theorem dX4_rankAfter_2 : decode cX4_rankAfter 2 = .ok (.invokevirtual 63, 3) := by decide +kernel
theorem dX4_rankAfter_5 : decode cX4_rankAfter 5 = .ok (.ifCond .eq 16, 3) := by decide +kernel
theorem dX4_rankAfter_8 : decode cX4_rankAfter 8 = .ok (.iload_n 2, 1) := by decide +kernel
theorem dX4_rankAfter_9 : decode cX4_rankAfter 9 = .ok (.ifCond .lt 12, 3) := by decide +kernel
theorem dX4_rankAfter_12 : decode cX4_rankAfter 12 = .ok (.iload_n 2, 1) := by decide +kernel
theorem dX4_rankAfter_13 : decode cX4_rankAfter 13 = .ok (.aload_n 0, 1) := by decide +kernel
theorem dX4_rankAfter_14 : decode cX4_rankAfter 14 = .ok (.getfield 48, 3) := by decide +kernel
theorem dX4_rankAfter_17 : decode cX4_rankAfter 17 = .ok (.arraylength, 1) := by decide +kernel
theorem dX4_rankAfter_18 : decode cX4_rankAfter 18 = .ok (.if_icmp .lt 6, 3) := by decide +kernel
theorem dX4_rankAfter_21 : decode cX4_rankAfter 21 = .ok (.bipush (-4), 2) := by decide +kernel
theorem dX4_rankAfter_23 : decode cX4_rankAfter 23 = .ok (.ireturn, 1) := by decide +kernel
theorem dX4_rankAfter_24 : decode cX4_rankAfter 24 = .ok (.iload_n 1, 1) := by decide +kernel
theorem dX4_rankAfter_25 : decode cX4_rankAfter 25 = .ok (.aload_n 0, 1) := by decide +kernel
theorem dX4_rankAfter_26 : decode cX4_rankAfter 26 = .ok (.getfield 36, 3) := by decide +kernel
theorem dX4_rankAfter_29 : decode cX4_rankAfter 29 = .ok (.idiv, 1) := by decide +kernel
theorem dX4_rankAfter_30 : decode cX4_rankAfter 30 = .ok (.istore_n 3, 1) := by decide +kernel
theorem dX4_rankAfter_31 : decode cX4_rankAfter 31 = .ok (.aload_n 0, 1) := by decide +kernel
theorem dX4_rankAfter_32 : decode cX4_rankAfter 32 = .ok (.getfield 54, 3) := by decide +kernel
theorem dX4_rankAfter_35 : decode cX4_rankAfter 35 = .ok (.iload_n 2, 1) := by decide +kernel
theorem dX4_rankAfter_36 : decode cX4_rankAfter 36 = .ok (.iaload, 1) := by decide +kernel
theorem dX4_rankAfter_37 : decode cX4_rankAfter 37 = .ok (.istore 4, 2) := by decide +kernel
theorem dX4_rankAfter_39 : decode cX4_rankAfter 39 = .ok (.iload 4, 2) := by decide +kernel
theorem dX4_rankAfter_41 : decode cX4_rankAfter 41 = .ok (.bipush (-4), 2) := by decide +kernel
theorem dX4_rankAfter_43 : decode cX4_rankAfter 43 = .ok (.if_icmp .ne 7, 3) := by decide +kernel
theorem dX4_rankAfter_46 : decode cX4_rankAfter 46 = .ok (.iload_n 3, 1) := by decide +kernel
theorem dX4_rankAfter_47 : decode cX4_rankAfter 47 = .ok (.goto 15, 3) := by decide +kernel
theorem dX4_rankAfter_50 : decode cX4_rankAfter 50 = .ok (.aload_n 0, 1) := by decide +kernel
theorem dX4_rankAfter_51 : decode cX4_rankAfter 51 = .ok (.getfield 42, 3) := by decide +kernel
theorem dX4_rankAfter_54 : decode cX4_rankAfter 54 = .ok (.bipush 20, 2) := by decide +kernel
theorem dX4_rankAfter_56 : decode cX4_rankAfter 56 = .ok (.iload_n 3, 1) := by decide +kernel
theorem dX4_rankAfter_57 : decode cX4_rankAfter 57 = .ok (.imul, 1) := by decide +kernel
theorem dX4_rankAfter_58 : decode cX4_rankAfter 58 = .ok (.iload 4, 2) := by decide +kernel
theorem dX4_rankAfter_60 : decode cX4_rankAfter 60 = .ok (.iadd, 1) := by decide +kernel
theorem dX4_rankAfter_61 : decode cX4_rankAfter 61 = .ok (.iaload, 1) := by decide +kernel
theorem dX4_rankAfter_62 : decode cX4_rankAfter 62 = .ok (.aload_n 0, 1) := by decide +kernel
theorem dX4_rankAfter_63 : decode cX4_rankAfter 63 = .ok (.getfield 36, 3) := by decide +kernel
theorem dX4_rankAfter_66 : decode cX4_rankAfter 66 = .ok (.imul, 1) := by decide +kernel
theorem dX4_rankAfter_67 : decode cX4_rankAfter 67 = .ok (.aload_n 0, 1) := by decide +kernel
theorem dX4_rankAfter_68 : decode cX4_rankAfter 68 = .ok (.getfield 51, 3) := by decide +kernel
theorem dX4_rankAfter_71 : decode cX4_rankAfter 71 = .ok (.iload_n 2, 1) := by decide +kernel
theorem dX4_rankAfter_72 : decode cX4_rankAfter 72 = .ok (.iaload, 1) := by decide +kernel
theorem dX4_rankAfter_73 : decode cX4_rankAfter 73 = .ok (.iadd, 1) := by decide +kernel
theorem dX4_rankAfter_74 : decode cX4_rankAfter 74 = .ok (.ireturn, 1) := by decide +kernel
set_option maxRecDepth 100000 in
set_option maxHeartbeats 4000000 in
theorem w_X4_rankAfter_j62 {p : Program} {l : Launch} {e : Env} {R : Room} {s : State} {m : MethodId} {args : Array Value} {below : List Frame} {meth : Method} {c : Code} {dC : Nat → ClassId} {dI : Nat → Nat → Nat} {cs : Nat → ClassId} {ad : Nat → Nat} {A : Nat → Prop} {D0 : Nat → Nat} {S' : SS} {r : Int32} (F : Fx p s m args meth c cX4_rankAfter 5 RX4 (some .int) dC dI cs A) (hR1 : 0 ≤ R.frames) (hR2 : 0 ≤ R.locals) (x2 : Int32) (y0 : Int32) (S : SS) (h : f_X4_rankAfter_j62 x2 y0 S = some (r, S')) : AW p l e R s m args below meth c dC dI cs ad A D0 (some (.int r)) S' 5 62 [(0, .ref (ad 10)), (2, .int x2)] [.int y0] S := by
  have hx := F.1.1
  have hb := F.1.2.1
  intro H locs ls w hl
  rw [f_X4_rankAfter_j62] at h
  refine lv_aload_n (pc := 62) hx hb dX4_rankAfter_62 rfl (lv_at hl 0 rfl) ?_
  refine s_getI (pc := 63) F w ds_10 (j := 7) vc_X4 vi_X4 rfl (by decide) kf_X4_36 dX4_rankAfter_63 ?_
  refine lv_imul (pc := 66) hx hb dX4_rankAfter_66 ?_
  refine lv_aload_n (pc := 67) hx hb dX4_rankAfter_67 rfl (lv_at hl 0 rfl) ?_
  refine s_getR (pc := 68) F w 58 ds_10 (j := 12) vc_X4 vi_X4 rfl (by decide) kf_X4_51 dX4_rankAfter_68 ?_
  refine lv_iload_n (pc := 71) hx hb dX4_rankAfter_71 rfl (lv_at hl 1 rfl) ?_
  refine s_iald (pc := 72) F w ds_58 h dX4_rankAfter_72 (fun h => ?_)
  refine lv_iadd (pc := 73) hx hb dX4_rankAfter_73 ?_
  exact s_iret F w h dX4_rankAfter_74
set_option maxRecDepth 100000 in
set_option maxHeartbeats 4000000 in
theorem m_X4_rankAfter (a1 : Int32) (a2 : Int32) (S S' : SS) (r : Int32) (h : f_X4_rankAfter a1 a2 S = some (r, S')) : MT yX4_rankAfter cX4_rankAfter 5 (some .int) 1 21 (fun ad => [.ref (ad 10), .int a1, .int a2]) S (some (.int r)) S' := by
  refine MT.of RX4 (fun ad => [(0, .ref (ad 10)), (1, .int a1), (2, .int a2)]) (by decide) rfl (fun _ => Nat.le_of_ble_eq_true rfl) (fun _ => rfl) ?_
  intro p l e R s m args below meth c dC dI cs ad A hR1 hR2 F H locs ls w hl
  have hx := F.1.1
  have hb := F.1.2.1
  rw [f_X4_rankAfter] at h
  refine lv_aload_n (pc := 0) hx hb dX4_rankAfter_0 rfl (lv_at hl 0 rfl) ?_
  refine lv_iload_n (pc := 1) hx hb dX4_rankAfter_1 rfl (lv_at hl 1 rfl) ?_
  obtain ⟨r2, S1, hc, h⟩ := bnd_t h
  refine s_cvi (pc := 2) [.int a1] (fun ad => [.ref (ad 10), .int a1]) F w (m_X4_isRank _ _ _ _ hc) rfl rfl hl.1 ds_10 vc_X4 rfl ok_X4_isRank rfl kc_X4_isRank kl_X4_63 ki_X4_isRank kv_X4_isRank kn_X4 ⟨Nat.le_trans (by decide) hR1, Nat.le_trans (by decide) hR2⟩ ⟨Nat.zero_le _, Nat.zero_le _⟩ (Nat.le_of_ble_eq_true rfl) dX4_rankAfter_2 (fun H locs w => ?_)
  refine lv_if_eq (pc := 5) (tgt := 21) hx hb dX4_rankAfter_5 (by decide) (fun q => ?_) (fun q => ?_)
  · have h := ite_t q h
    refine lv_bipush (pc := 21) (v := -4) hx hb dX4_rankAfter_21 (by decide) ?_
    exact s_iret F w h dX4_rankAfter_23
  · have h := ite_f q h
    refine lv_iload_n (pc := 8) hx hb dX4_rankAfter_8 rfl (lv_at hl 2 rfl) ?_
    refine lv_if_lt (pc := 9) (tgt := 21) hx hb dX4_rankAfter_9 (by decide) (fun q => ?_) (fun q => ?_)
    · have h := ite_t q h
      refine lv_bipush (pc := 21) (v := -4) hx hb dX4_rankAfter_21 (by decide) ?_
      exact s_iret F w h dX4_rankAfter_23
    · have h := ite_f q h
      refine lv_iload_n (pc := 12) hx hb dX4_rankAfter_12 rfl (lv_at hl 2 rfl) ?_
      refine lv_aload_n (pc := 13) hx hb dX4_rankAfter_13 rfl (lv_at hl 0 rfl) ?_
      refine s_getR (pc := 14) F w 57 ds_10 (j := 11) vc_X4 vi_X4 rfl (by decide) kf_X4_48 dX4_rankAfter_14 ?_
      refine s_alen (pc := 17) F w ds_57 dX4_rankAfter_17 ?_
      show W _ _ _ _ _ _ _ _ _ _ _ _ _ _ _ (F0 _ _ _ (.int (Int32.ofNat (_)) :: _))
      refine lv_icmp_lt (pc := 18) (tgt := 24) hx hb dX4_rankAfter_18 (by decide) (fun q => ?_) (fun q => ?_)
      · have h := ite_t q h
        refine lv_iload_n (pc := 24) hx hb dX4_rankAfter_24 rfl (lv_at hl 1 rfl) ?_
        refine lv_aload_n (pc := 25) hx hb dX4_rankAfter_25 rfl (lv_at hl 0 rfl) ?_
        refine s_getI (pc := 26) F w ds_10 (j := 7) vc_X4 vi_X4 rfl (by decide) kf_X4_36 dX4_rankAfter_26 ?_
        obtain ⟨hd, h⟩ := grd_t h
        refine lv_idiv (pc := 29) hx hb dX4_rankAfter_29 (by simpa using hd) ?_
        refine s_nm h (fun z3 ez3 h => ?_)
        rw [← ez3]
        refine lv_istore_n (pc := 30) (lv' := [(3, .int z3), (0, .ref (ad 10)), (1, .int a1), (2, .int a2)]) hx hb dX4_rankAfter_30 rfl hl (by decide) rfl (fun ls hl => ?_)
        refine lv_aload_n (pc := 31) hx hb dX4_rankAfter_31 rfl (lv_at hl 1 rfl) ?_
        refine s_getR (pc := 32) F w 59 ds_10 (j := 13) vc_X4 vi_X4 rfl (by decide) kf_X4_54 dX4_rankAfter_32 ?_
        refine lv_iload_n (pc := 35) hx hb dX4_rankAfter_35 rfl (lv_at hl 3 rfl) ?_
        refine s_iald (pc := 36) F w ds_59 h dX4_rankAfter_36 (fun h => ?_)
        refine s_nm h (fun z4 ez4 h => ?_)
        rw [← ez4]
        refine lv_istore (pc := 37) (lv' := [(4, .int z4), (3, .int z3), (0, .ref (ad 10)), (1, .int a1), (2, .int a2)]) hx hb dX4_rankAfter_37 hl (by decide) rfl (fun ls hl => ?_)
        refine lv_iload (pc := 39) hx hb dX4_rankAfter_39 (lv_at hl 0 rfl) ?_
        refine lv_bipush (pc := 41) (v := -4) hx hb dX4_rankAfter_41 (by decide) ?_
        refine lv_icmp_ne (pc := 43) (tgt := 50) hx hb dX4_rankAfter_43 (by decide) (fun q => ?_) (fun q => ?_)
        · have h := ite_f q h
          refine lv_aload_n (pc := 50) hx hb dX4_rankAfter_50 rfl (lv_at hl 2 rfl) ?_
          refine s_getR (pc := 51) F w 55 ds_10 (j := 9) vc_X4 vi_X4 rfl (by decide) kf_X4_42 dX4_rankAfter_51 ?_
          refine lv_bipush (pc := 54) (v := 20) hx hb dX4_rankAfter_54 (by decide) ?_
          refine lv_iload_n (pc := 56) hx hb dX4_rankAfter_56 rfl (lv_at hl 1 rfl) ?_
          refine lv_imul (pc := 57) hx hb dX4_rankAfter_57 ?_
          refine lv_iload (pc := 58) hx hb dX4_rankAfter_58 (lv_at hl 0 rfl) ?_
          refine lv_iadd (pc := 60) hx hb dX4_rankAfter_60 ?_
          refine s_iald (pc := 61) F w ds_55 h dX4_rankAfter_61 (fun h => ?_)
          exact w_X4_rankAfter_j62 F (Nat.le_trans (by decide) hR1) (Nat.le_trans (by decide) hR2) _ _ _ h _ _ _ w (lv_sub hl [2, 4] rfl)
        · have h := ite_t q h
          refine lv_iload_n (pc := 46) hx hb dX4_rankAfter_46 rfl (lv_at hl 1 rfl) ?_
          refine lv_goto (pc := 47) (tgt := 62) hx hb dX4_rankAfter_47 (by decide) ?_
          exact w_X4_rankAfter_j62 F (Nat.le_trans (by decide) hR1) (Nat.le_trans (by decide) hR2) _ _ _ h _ _ _ w (lv_sub hl [2, 4] rfl)
      · have h := ite_f q h
        refine lv_bipush (pc := 21) (v := -4) hx hb dX4_rankAfter_21 (by decide) ?_
        exact s_iret F w h dX4_rankAfter_23
