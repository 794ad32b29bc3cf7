/-! ===== printed by wip/gen: X12_take X12_sumOf_Model_many X12_rankOf X12_code X12_decode X12_mayMove X12_shift ===== -/
def f_X12_take_j83 (K34 : Int32 → Int32 → Int32 → SS → Option (SS)) (x1 : Int32) (x2 : Int32) (x3 : Int32) (y0 : Int32) (y1 : Int32) (S : SS) : Option (SS) :=
    grd (inb y1 40) (wr S 124 y1.toNatClampNeg y0 (fun S3 =>
    nm (x3 + (1 : Int32)) (fun z4 =>
    K34 x1 x2 z4 S3)))
def f_X12_take_L34 (K2 : Int32 → Int32 → SS → Option (SS)) : Nat → Int32 → Int32 → Int32 → SS → Option (SS)
  | 0, _, _, _, _ => none
  | n + 1, x1, x2, x3, S =>
    grd (inb x2 4) (
    if (S.1 125 x2.toNatClampNeg) ≤ x3 then
      nm (x2 + (1 : Int32)) (fun z2 =>
      K2 x1 z2 S)
    else
      if x1 = 0 then
        grd (inb (((10 : Int32) * x2) + x3) 40) (
        f_X12_take_j83 (fun v0 v1 v2 S => f_X12_take_L34 K2 n v0 v1 v2 S) x1 x2 x3 (S.1 115 (((10 : Int32) * x2) + x3).toNatClampNeg) (((10 : Int32) * x2) + x3) S)
      else
        grd (inb (((10 : Int32) * x2) + x3) 40) (
        f_X12_take_j83 (fun v0 v1 v2 S => f_X12_take_L34 K2 n v0 v1 v2 S) x1 x2 x3 (S.1 117 (((10 : Int32) * x2) + x3).toNatClampNeg) (((10 : Int32) * x2) + x3) S))
def f_X12_take_j31 (K2 : Int32 → Int32 → SS → Option (SS)) (x1 : Int32) (x2 : Int32) (y0 : Int32) (y1 : Int32) (S : SS) : Option (SS) :=
    grd (inb y1 4) (wr S 125 y1.toNatClampNeg y0 (fun S1 =>
    f_X12_take_L34 K2 NF x1 x2 (0 : Int32) S1))
def f_X12_take_L2  : Nat → Int32 → Int32 → SS → Option (SS)
  | 0, _, _, _ => none
  | n + 1, x1, x2, S =>
    if (4 : Int32) ≤ x2 then
      some S
    else
      if x1 = 0 then
        grd (inb x2 4) (
        f_X12_take_j31 (fun v0 v1 S => f_X12_take_L2 n v0 v1 S) x1 x2 (S.1 114 x2.toNatClampNeg) x2 S)
      else
        grd (inb x2 4) (
        f_X12_take_j31 (fun v0 v1 S => f_X12_take_L2 n v0 v1 S) x1 x2 (S.1 116 x2.toNatClampNeg) x2 S)
def f_X12_take (a1 : Int32) (S : SS) : Option (SS) :=
  f_X12_take_L2 NF a1 (0 : Int32) S
theorem dX12_take_0 : decode cX12_take 0 = .ok (.iconst 0, 1) := by decide +kernel
theorem dX12_take_1 : decode cX12_take 1 = .ok (.istore_n 2, 1) := by decide +kernel
theorem dX12_take_2 : decode cX12_take 2 = .ok (.iload_n 2, 1) := by decide +kernel
theorem dX12_take_3 : decode cX12_take 3 = .ok (.iconst 4, 1) := by decide +kernel
theorem dX12_take_4 : decode cX12_take 4 = .ok (.if_icmp .ge 92, 3) := by decide +kernel
theorem dX12_take_7 : decode cX12_take 7 = .ok (.aload_n 0, 1) := by decide +kernel
theorem dX12_take_8 : decode cX12_take 8 = .ok (.getfield 192, 3) := by decide +kernel
theorem dX12_take_11 : decode cX12_take 11 = .ok (.iload_n 2, 1) := by decide +kernel
theorem dX12_take_12 : decode cX12_take 12 = .ok (.iload_n 1, 1) := by decide +kernel
theorem dX12_take_13 : decode cX12_take 13 = .ok (.ifCond .eq 12, 3) := by decide +kernel
theorem dX12_take_16 : decode cX12_take 16 = .ok (.aload_n 0, 1) := by decide +kernel
theorem dX12_take_17 : decode cX12_take 17 = .ok (.getfield 162, 3) := by decide +kernel
theorem dX12_take_20 : decode cX12_take 20 = .ok (.iload_n 2, 1) := by decide +kernel
theorem dX12_take_21 : decode cX12_take 21 = .ok (.iaload, 1) := by decide +kernel
theorem dX12_take_22 : decode cX12_take 22 = .ok (.goto 9, 3) := by decide +kernel
theorem dX12_take_25 : decode cX12_take 25 = .ok (.aload_n 0, 1) := by decide +kernel
theorem dX12_take_26 : decode cX12_take 26 = .ok (.getfield 156, 3) := by decide +kernel
theorem dX12_take_29 : decode cX12_take 29 = .ok (.iload_n 2, 1) := by decide +kernel
theorem dX12_take_30 : decode cX12_take 30 = .ok (.iaload, 1) := by decide +kernel
theorem dX12_take_31 : decode cX12_take 31 = .ok (.iastore, 1) := by decide +kernel
theorem dX12_take_32 : decode cX12_take 32 = .ok (.iconst 0, 1) := by decide +kernel
theorem dX12_take_33 : decode cX12_take 33 = .ok (.istore_n 3, 1) := by decide +kernel
theorem dX12_take_34 : decode cX12_take 34 = .ok (.iload_n 3, 1) := by decide +kernel
theorem dX12_take_35 : decode cX12_take 35 = .ok (.aload_n 0, 1) := by decide +kernel
theorem dX12_take_36 : decode cX12_take 36 = .ok (.getfield 192, 3) := by decide +kernel
theorem dX12_take_39 : decode cX12_take 39 = .ok (.iload_n 2, 1) := by decide +kernel
theorem dX12_take_40 : decode cX12_take 40 = .ok (.iaload, 1) := by decide +kernel
theorem dX12_take_41 : decode cX12_take 41 = .ok (.if_icmp .ge 49, 3) := by decide +kernel
theorem dX12_take_44 : decode cX12_take 44 = .ok (.aload_n 0, 1) := by decide +kernel
theorem dX12_take_45 : decode cX12_take 45 = .ok (.getfield 189, 3) := by decide +kernel
theorem dX12_take_48 : decode cX12_take 48 = .ok (.bipush 10, 2) := by decide +kernel
theorem dX12_take_50 : decode cX12_take 50 = .ok (.iload_n 2, 1) := by decide +kernel
theorem dX12_take_51 : decode cX12_take 51 = .ok (.imul, 1) := by decide +kernel
theorem dX12_take_52 : decode cX12_take 52 = .ok (.iload_n 3, 1) := by decide +kernel
theorem dX12_take_53 : decode cX12_take 53 = .ok (.iadd, 1) := by decide +kernel
theorem dX12_take_54 : decode cX12_take 54 = .ok (.iload_n 1, 1) := by decide +kernel
theorem dX12_take_55 : decode cX12_take 55 = .ok (.ifCond .eq 17, 3) := by decide +kernel
theorem dX12_take_58 : decode cX12_take 58 = .ok (.aload_n 0, 1) := by decide +kernel
theorem dX12_take_59 : decode cX12_take 59 = .ok (.getfield 165, 3) := by decide +kernel
theorem dX12_take_62 : decode cX12_take 62 = .ok (.bipush 10, 2) := by decide +kernel
theorem dX12_take_64 : decode cX12_take 64 = .ok (.iload_n 2, 1) := by decide +kernel
theorem dX12_take_65 : decode cX12_take 65 = .ok (.imul, 1) := by decide +kernel
theorem dX12_take_66 : decode cX12_take 66 = .ok (.iload_n 3, 1) := by decide +kernel
theorem dX12_take_67 : decode cX12_take 67 = .ok (.iadd, 1) := by decide +kernel
theorem dX12_take_68 : decode cX12_take 68 = .ok (.iaload, 1) := by decide +kernel
theorem dX12_take_69 : decode cX12_take 69 = .ok (.goto 14, 3) := by decide +kernel
theorem dX12_take_72 : decode cX12_take 72 = .ok (.aload_n 0, 1) := by decide +kernel
theorem dX12_take_73 : decode cX12_take 73 = .ok (.getfield 159, 3) := by decide +kernel
theorem dX12_take_76 : decode cX12_take 76 = .ok (.bipush 10, 2) := by decide +kernel
theorem dX12_take_78 : decode cX12_take 78 = .ok (.iload_n 2, 1) := by decide +kernel
theorem dX12_take_79 : decode cX12_take 79 = .ok (.imul, 1) := by decide +kernel
theorem dX12_take_80 : decode cX12_take 80 = .ok (.iload_n 3, 1) := by decide +kernel
theorem dX12_take_81 : decode cX12_take 81 = .ok (.iadd, 1) := by decide +kernel
theorem dX12_take_82 : decode cX12_take 82 = .ok (.iaload, 1) := by decide +kernel
theorem dX12_take_83 : decode cX12_take 83 = .ok (.iastore, 1) := by decide +kernel
theorem dX12_take_84 : decode cX12_take 84 = .ok (.iinc 3 1, 3) := by decide +kernel
theorem dX12_take_87 : decode cX12_take 87 = .ok (.goto (-53), 3) := by decide +kernel
theorem dX12_take_90 : decode cX12_take 90 = .ok (.iinc 2 1, 3) := by decide +kernel
theorem dX12_take_93 : decode cX12_take 93 = .ok (.goto (-91), 3) := by decide +kernel
theorem dX12_take_96 : decode cX12_take 96 = .ok (.return_, 1) := by decide +kernel
set_option maxRecDepth 100000 in
set_option maxHeartbeats 4000000 in
theorem w_X12_take_j83 {p : Program} {l : Launch} {e : Env} {R : Room} {s : State} {m : MethodId} {args : Array Value} {below : List Frame} {meth : Method} {c : Code} {dC : Nat → ClassId} {dI : Nat → Nat → Nat} {cs : Nat → ClassId} {ad : Nat → Nat} {A : Nat → Prop} {D0 : Nat → Nat} {S' : SS} (F : Fx p s m args meth c cX12_take 4 RX12 none dC dI cs A) (hR1 : 0 ≤ R.frames) (hR2 : 0 ≤ R.locals) (K34 : Int32 → Int32 → Int32 → SS → Option (SS)) (hK34 : ∀ (v0 : Int32) (v1 : Int32) (v2 : Int32) (S : SS), K34 v0 v1 v2 S = some S' → AW p l e R s m args below meth c dC dI cs ad A D0 none S' 4 34 [(0, .ref (ad 14)), (1, .int v0), (2, .int v1), (3, .int v2)] [] S) (x1 : Int32) (x2 : Int32) (x3 : Int32) (y0 : Int32) (y1 : Int32) (S : SS) (h : f_X12_take_j83 K34 x1 x2 x3 y0 y1 S = some S') : AW p l e R s m args below meth c dC dI cs ad A D0 none S' 4 83 [(0, .ref (ad 14)), (1, .int x1), (2, .int x2), (3, .int x3)] [.int y0, .int y1, .ref (ad 124)] S := by
  have hx := F.1.1
  have hb := F.1.2.1
  intro H locs ls w hl
  rw [f_X12_take_j83] at h
  refine s_iast (pc := 83) F w ds_124 h dX12_take_83 (fun S3 H locs h w => ?_)
  refine s_nm h (fun z4 ez4 h => ?_)
  refine lv_iinc (pc := 84) (v := z4) (lv' := [(3, .int z4), (0, .ref (ad 14)), (1, .int x1), (2, .int x2)]) hx hb dX12_take_84 hl (k := 3) rfl (by rw [ez4]; rfl) (by decide) rfl (fun ls hl => ?_)
  refine lv_goto (pc := 87) (tgt := 34) hx hb dX12_take_87 (by decide) ?_
  exact hK34 _ _ _ _ h _ _ _ w (lv_sub hl [1, 2, 3, 0] rfl)
set_option maxRecDepth 100000 in
set_option maxHeartbeats 4000000 in
theorem w_X12_take_L34 {p : Program} {l : Launch} {e : Env} {R : Room} {s : State} {m : MethodId} {args : Array Value} {below : List Frame} {meth : Method} {c : Code} {dC : Nat → ClassId} {dI : Nat → Nat → Nat} {cs : Nat → ClassId} {ad : Nat → Nat} {A : Nat → Prop} {D0 : Nat → Nat} {S' : SS} (F : Fx p s m args meth c cX12_take 4 RX12 none dC dI cs A) (hR1 : 0 ≤ R.frames) (hR2 : 0 ≤ R.locals) (K2 : Int32 → Int32 → SS → Option (SS)) (hK2 : ∀ (v0 : Int32) (v1 : Int32) (S : SS), K2 v0 v1 S = some S' → AW p l e R s m args below meth c dC dI cs ad A D0 none S' 4 2 [(0, .ref (ad 14)), (1, .int v0), (2, .int v1)] [] S) : ∀ (n : Nat) (x1 : Int32) (x2 : Int32) (x3 : Int32) (S : SS), f_X12_take_L34 K2 n x1 x2 x3 S = some S' → AW p l e R s m args below meth c dC dI cs ad A D0 none S' 4 34 [(0, .ref (ad 14)), (1, .int x1), (2, .int x2), (3, .int x3)] [] S := by
  have hx := F.1.1
  have hb := F.1.2.1
  intro n
  induction n with
  | zero => intro x1 x2 x3 S h; cases h
  | succ n ih =>
    intro x1 x2 x3 S h H locs ls w hl
    rw [f_X12_take_L34] at h
    refine lv_iload_n (pc := 34) hx hb dX12_take_34 rfl (lv_at hl 3 rfl) ?_
    refine lv_aload_n (pc := 35) hx hb dX12_take_35 rfl (lv_at hl 0 rfl) ?_
    refine s_getR (pc := 36) F w 125 ds_14 (j := 86) vc_X12 vi_X12 rfl (by decide) kf_X12_192 dX12_take_36 ?_
    refine lv_iload_n (pc := 39) hx hb dX12_take_39 rfl (lv_at hl 2 rfl) ?_
    refine s_iald (pc := 40) F w ds_125 h dX12_take_40 (fun h => ?_)
    refine lv_icmp_ge (pc := 41) (tgt := 90) hx hb dX12_take_41 (by decide) (fun q => ?_) (fun q => ?_)
    · have h := ite_t q h
      refine s_nm h (fun z2 ez2 h => ?_)
      refine lv_iinc (pc := 90) (v := z2) (lv' := [(2, .int z2), (0, .ref (ad 14)), (1, .int x1), (3, .int x3)]) hx hb dX12_take_90 hl (k := 2) rfl (by rw [ez2]; rfl) (by decide) rfl (fun ls hl => ?_)
      refine lv_goto (pc := 93) (tgt := 2) hx hb dX12_take_93 (by decide) ?_
      exact hK2 _ _ _ h _ _ _ w (lv_sub hl [1, 2, 0] rfl)
    · have h := ite_f q h
      refine lv_aload_n (pc := 44) hx hb dX12_take_44 rfl (lv_at hl 0 rfl) ?_
      refine s_getR (pc := 45) F w 124 ds_14 (j := 85) vc_X12 vi_X12 rfl (by decide) kf_X12_189 dX12_take_45 ?_
      refine lv_bipush (pc := 48) (v := 10) hx hb dX12_take_48 (by decide) ?_
      refine lv_iload_n (pc := 50) hx hb dX12_take_50 rfl (lv_at hl 2 rfl) ?_
      refine lv_imul (pc := 51) hx hb dX12_take_51 ?_
      refine lv_iload_n (pc := 52) hx hb dX12_take_52 rfl (lv_at hl 3 rfl) ?_
      refine lv_iadd (pc := 53) hx hb dX12_take_53 ?_
      refine lv_iload_n (pc := 54) hx hb dX12_take_54 rfl (lv_at hl 1 rfl) ?_
      refine lv_if_eq (pc := 55) (tgt := 72) hx hb dX12_take_55 (by decide) (fun q => ?_) (fun q => ?_)
      · have h := ite_t q h
        refine lv_aload_n (pc := 72) hx hb dX12_take_72 rfl (lv_at hl 0 rfl) ?_
        refine s_getR (pc := 73) F w 115 ds_14 (j := 73) vc_X12 vi_X12 rfl (by decide) kf_X12_159 dX12_take_73 ?_
        refine lv_bipush (pc := 76) (v := 10) hx hb dX12_take_76 (by decide) ?_
        refine lv_iload_n (pc := 78) hx hb dX12_take_78 rfl (lv_at hl 2 rfl) ?_
        refine lv_imul (pc := 79) hx hb dX12_take_79 ?_
        refine lv_iload_n (pc := 80) hx hb dX12_take_80 rfl (lv_at hl 3 rfl) ?_
        refine lv_iadd (pc := 81) hx hb dX12_take_81 ?_
        refine s_iald (pc := 82) F w ds_115 h dX12_take_82 (fun h => ?_)
        exact w_X12_take_j83 F (Nat.le_trans (by decide) hR1) (Nat.le_trans (by decide) hR2) _ (fun v0 v1 v2 S h => ih v0 v1 v2 S h) _ _ _ _ _ _ h _ _ _ w (lv_sub hl [0, 1, 2, 3] rfl)
      · have h := ite_f q h
        refine lv_aload_n (pc := 58) hx hb dX12_take_58 rfl (lv_at hl 0 rfl) ?_
        refine s_getR (pc := 59) F w 117 ds_14 (j := 75) vc_X12 vi_X12 rfl (by decide) kf_X12_165 dX12_take_59 ?_
        refine lv_bipush (pc := 62) (v := 10) hx hb dX12_take_62 (by decide) ?_
        refine lv_iload_n (pc := 64) hx hb dX12_take_64 rfl (lv_at hl 2 rfl) ?_
        refine lv_imul (pc := 65) hx hb dX12_take_65 ?_
        refine lv_iload_n (pc := 66) hx hb dX12_take_66 rfl (lv_at hl 3 rfl) ?_
        refine lv_iadd (pc := 67) hx hb dX12_take_67 ?_
        refine s_iald (pc := 68) F w ds_117 h dX12_take_68 (fun h => ?_)
        refine lv_goto (pc := 69) (tgt := 83) hx hb dX12_take_69 (by decide) ?_
        exact w_X12_take_j83 F (Nat.le_trans (by decide) hR1) (Nat.le_trans (by decide) hR2) _ (fun v0 v1 v2 S h => ih v0 v1 v2 S h) _ _ _ _ _ _ h _ _ _ w (lv_sub hl [0, 1, 2, 3] rfl)
set_option maxRecDepth 100000 in
set_option maxHeartbeats 4000000 in
theorem w_X12_take_j31 {p : Program} {l : Launch} {e : Env} {R : Room} {s : State} {m : MethodId} {args : Array Value} {below : List Frame} {meth : Method} {c : Code} {dC : Nat → ClassId} {dI : Nat → Nat → Nat} {cs : Nat → ClassId} {ad : Nat → Nat} {A : Nat → Prop} {D0 : Nat → Nat} {S' : SS} (F : Fx p s m args meth c cX12_take 4 RX12 none dC dI cs A) (hR1 : 0 ≤ R.frames) (hR2 : 0 ≤ R.locals) (K2 : Int32 → Int32 → SS → Option (SS)) (hK2 : ∀ (v0 : Int32) (v1 : Int32) (S : SS), K2 v0 v1 S = some S' → AW p l e R s m args below meth c dC dI cs ad A D0 none S' 4 2 [(0, .ref (ad 14)), (1, .int v0), (2, .int v1)] [] S) (x1 : Int32) (x2 : Int32) (y0 : Int32) (y1 : Int32) (S : SS) (h : f_X12_take_j31 K2 x1 x2 y0 y1 S = some S') : AW p l e R s m args below meth c dC dI cs ad A D0 none S' 4 31 [(0, .ref (ad 14)), (1, .int x1), (2, .int x2)] [.int y0, .int y1, .ref (ad 125)] S := by
  have hx := F.1.1
  have hb := F.1.2.1
  intro H locs ls w hl
  rw [f_X12_take_j31] at h
  refine s_iast (pc := 31) F w ds_125 h dX12_take_31 (fun S1 H locs h w => ?_)
  refine lv_iconst (pc := 32) (v := 0) hx hb dX12_take_32 (by decide) ?_
  refine lv_istore_n (pc := 33) (lv' := [(3, .int (0 : Int32)), (0, .ref (ad 14)), (1, .int x1), (2, .int x2)]) hx hb dX12_take_33 rfl hl (by decide) rfl (fun ls hl => ?_)
  exact w_X12_take_L34 F (Nat.le_trans (by decide) hR1) (Nat.le_trans (by decide) hR2) _ hK2 _ _ _ _ _ h _ _ _ w (lv_sub hl [1, 2, 3, 0] rfl)
set_option maxRecDepth 100000 in
set_option maxHeartbeats 4000000 in
theorem w_X12_take_L2 {p : Program} {l : Launch} {e : Env} {R : Room} {s : State} {m : MethodId} {args : Array Value} {below : List Frame} {meth : Method} {c : Code} {dC : Nat → ClassId} {dI : Nat → Nat → Nat} {cs : Nat → ClassId} {ad : Nat → Nat} {A : Nat → Prop} {D0 : Nat → Nat} {S' : SS} (F : Fx p s m args meth c cX12_take 4 RX12 none dC dI cs A) (hR1 : 0 ≤ R.frames) (hR2 : 0 ≤ R.locals) : ∀ (n : Nat) (x1 : Int32) (x2 : Int32) (S : SS), f_X12_take_L2 n x1 x2 S = some S' → AW p l e R s m args below meth c dC dI cs ad A D0 none S' 4 2 [(0, .ref (ad 14)), (1, .int x1), (2, .int x2)] [] S := by
  have hx := F.1.1
  have hb := F.1.2.1
  intro n
  induction n with
  | zero => intro x1 x2 S h; cases h
  | succ n ih =>
    intro x1 x2 S h H locs ls w hl
    rw [f_X12_take_L2] at h
    refine lv_iload_n (pc := 2) hx hb dX12_take_2 rfl (lv_at hl 2 rfl) ?_
    refine lv_iconst (pc := 3) (v := 4) hx hb dX12_take_3 (by decide) ?_
    refine lv_icmp_ge (pc := 4) (tgt := 96) hx hb dX12_take_4 (by decide) (fun q => ?_) (fun q => ?_)
    · have h := ite_t q h
      exact s_vret F w h dX12_take_96
    · have h := ite_f q h
      refine lv_aload_n (pc := 7) hx hb dX12_take_7 rfl (lv_at hl 0 rfl) ?_
      refine s_getR (pc := 8) F w 125 ds_14 (j := 86) vc_X12 vi_X12 rfl (by decide) kf_X12_192 dX12_take_8 ?_
      refine lv_iload_n (pc := 11) hx hb dX12_take_11 rfl (lv_at hl 2 rfl) ?_
      refine lv_iload_n (pc := 12) hx hb dX12_take_12 rfl (lv_at hl 1 rfl) ?_
      refine lv_if_eq (pc := 13) (tgt := 25) hx hb dX12_take_13 (by decide) (fun q => ?_) (fun q => ?_)
      · have h := ite_t q h
        refine lv_aload_n (pc := 25) hx hb dX12_take_25 rfl (lv_at hl 0 rfl) ?_
        refine s_getR (pc := 26) F w 114 ds_14 (j := 72) vc_X12 vi_X12 rfl (by decide) kf_X12_156 dX12_take_26 ?_
        refine lv_iload_n (pc := 29) hx hb dX12_take_29 rfl (lv_at hl 2 rfl) ?_
        refine s_iald (pc := 30) F w ds_114 h dX12_take_30 (fun h => ?_)
        exact w_X12_take_j31 F (Nat.le_trans (by decide) hR1) (Nat.le_trans (by decide) hR2) _ (fun v0 v1 S h => ih v0 v1 S h) _ _ _ _ _ h _ _ _ w (lv_sub hl [0, 1, 2] rfl)
      · have h := ite_f q h
        refine lv_aload_n (pc := 16) hx hb dX12_take_16 rfl (lv_at hl 0 rfl) ?_
        refine s_getR (pc := 17) F w 116 ds_14 (j := 74) vc_X12 vi_X12 rfl (by decide) kf_X12_162 dX12_take_17 ?_
        refine lv_iload_n (pc := 20) hx hb dX12_take_20 rfl (lv_at hl 2 rfl) ?_
        refine s_iald (pc := 21) F w ds_116 h dX12_take_21 (fun h => ?_)
        refine lv_goto (pc := 22) (tgt := 31) hx hb dX12_take_22 (by decide) ?_
        exact w_X12_take_j31 F (Nat.le_trans (by decide) hR1) (Nat.le_trans (by decide) hR2) _ (fun v0 v1 S h => ih v0 v1 S h) _ _ _ _ _ h _ _ _ w (lv_sub hl [0, 1, 2] rfl)
set_option maxRecDepth 100000 in
set_option maxHeartbeats 4000000 in
theorem m_X12_take (a1 : Int32) (S S' : SS) (h : f_X12_take a1 S = some S') : MT yX12_take cX12_take 4 none 0 0 (fun ad => [.ref (ad 14), .int a1]) S none S' := by
  refine MT.of RX12 (fun ad => [(0, .ref (ad 14)), (1, .int a1)]) (by decide) rfl (fun _ => Nat.le_of_ble_eq_true rfl) (fun _ => rfl) ?_
  intro p l e R s m args below meth c dC dI cs ad A hR1 hR2 F H locs ls w hl
  have hx := F.1.1
  have hb := F.1.2.1
  rw [f_X12_take] at h
  refine lv_iconst (pc := 0) (v := 0) hx hb dX12_take_0 (by decide) ?_
  refine lv_istore_n (pc := 1) (lv' := [(2, .int (0 : Int32)), (0, .ref (ad 14)), (1, .int a1)]) hx hb dX12_take_1 rfl hl (by decide) rfl (fun ls hl => ?_)
  exact w_X12_take_L2 F (Nat.le_trans (by decide) hR1) (Nat.le_trans (by decide) hR2) _ _ _ _ h _ _ _ w (lv_sub hl [1, 2, 0] rfl)
def f_X12_sumOf_Model_many  (S : SS) : Option (Int32 × SS) :=
  grd (inb (0 : Int32) 4) (
  grd (inb (1 : Int32) 4) (
  grd (inb (2 : Int32) 4) (
  grd (inb (3 : Int32) 4) (
  some ((((S.1 125 (0 : Int32).toNatClampNeg) + (S.1 125 (1 : Int32).toNatClampNeg)) + (S.1 125 (2 : Int32).toNatClampNeg)) + (S.1 125 (3 : Int32).toNatClampNeg), S)))))
set_option maxRecDepth 100000 in
set_option maxHeartbeats 4000000 in
theorem m_X12_sumOf_Model_many  (S S' : SS) (r : Int32) (h : f_X12_sumOf_Model_many  S = some (r, S')) : MT yX12_sumOf cX12_sumOf 1 (some .int) 0 0 (fun ad => [.ref (ad 125)]) S (some (.int r)) S' := by
  refine MT.of RX12 (fun ad => [(0, .ref (ad 125))]) (by decide) rfl (fun _ => Nat.le_of_ble_eq_true rfl) (fun _ => rfl) ?_
  intro p l e R s m args below meth c dC dI cs ad A hR1 hR2 F H locs ls w hl
  have hx := F.1.1
  have hb := F.1.2.1
  rw [f_X12_sumOf_Model_many] at h
  refine lv_aload_n (pc := 0) hx hb dX12_sumOf_0 rfl (lv_at hl 0 rfl) ?_
  refine lv_iconst (pc := 1) (v := 0) hx hb dX12_sumOf_1 (by decide) ?_
  refine s_iald (pc := 2) F w ds_125 h dX12_sumOf_2 (fun h => ?_)
  refine lv_aload_n (pc := 3) hx hb dX12_sumOf_3 rfl (lv_at hl 0 rfl) ?_
  refine lv_iconst (pc := 4) (v := 1) hx hb dX12_sumOf_4 (by decide) ?_
  refine s_iald (pc := 5) F w ds_125 h dX12_sumOf_5 (fun h => ?_)
  refine lv_iadd (pc := 6) hx hb dX12_sumOf_6 ?_
  refine lv_aload_n (pc := 7) hx hb dX12_sumOf_7 rfl (lv_at hl 0 rfl) ?_
  refine lv_iconst (pc := 8) (v := 2) hx hb dX12_sumOf_8 (by decide) ?_
  refine s_iald (pc := 9) F w ds_125 h dX12_sumOf_9 (fun h => ?_)
  refine lv_iadd (pc := 10) hx hb dX12_sumOf_10 ?_
  refine lv_aload_n (pc := 11) hx hb dX12_sumOf_11 rfl (lv_at hl 0 rfl) ?_
  refine lv_iconst (pc := 12) (v := 3) hx hb dX12_sumOf_12 (by decide) ?_
  refine s_iald (pc := 13) F w ds_125 h dX12_sumOf_13 (fun h => ?_)
  refine lv_iadd (pc := 14) hx hb dX12_sumOf_14 ?_
  exact s_iret F w h dX12_sumOf_15
def f_X12_rankOf_j26  (x2 : Int32) (S : SS) : Option (Int32 × SS) :=
    if (S.1 14 81) ≤ x2 then
      some ((-4 : Int32), S)
    else
      some (x2, S)
def f_X12_rankOf_L2  : Nat → Int32 → Int32 → SS → Option (Int32 × SS)
  | 0, _, _, _ => none
  | n + 1, x1, x2, S =>
    if (S.1 14 81) ≤ x2 then
      f_X12_rankOf_j26 x2 S
    else
      grd (inb x2 10) (
      if (S.1 121 x2.toNatClampNeg) = x1 then
        f_X12_rankOf_j26 x2 S
      else
        nm (x2 + (1 : Int32)) (fun z1 =>
        f_X12_rankOf_L2 n x1 z1 S))
def f_X12_rankOf (a1 : Int32) (S : SS) : Option (Int32 × SS) :=
  f_X12_rankOf_L2 NF a1 (0 : Int32) S
theorem dX12_rankOf_0 : decode cX12_rankOf 0 = .ok (.iconst 0, 1) := by decide +kernel
theorem dX12_rankOf_1 : decode cX12_rankOf 1 = .ok (.istore_n 2, 1) := by decide +kernel
theorem dX12_rankOf_2 : decode cX12_rankOf 2 = .ok (.iload_n 2, 1) := by decide +kernel
theorem dX12_rankOf_3 : decode cX12_rankOf 3 = .ok (.aload_n 0, 1) := by decide +kernel
theorem dX12_rankOf_4 : decode cX12_rankOf 4 = .ok (.getfield 466, 3) := by decide +kernel
theorem dX12_rankOf_7 : decode cX12_rankOf 7 = .ok (.if_icmp .ge 19, 3) := by decide +kernel
theorem dX12_rankOf_10 : decode cX12_rankOf 10 = .ok (.aload_n 0, 1) := by decide +kernel
theorem dX12_rankOf_11 : decode cX12_rankOf 11 = .ok (.getfield 180, 3) := by decide +kernel
theorem dX12_rankOf_14 : decode cX12_rankOf 14 = .ok (.iload_n 2, 1) := by decide +kernel
theorem dX12_rankOf_15 : decode cX12_rankOf 15 = .ok (.iaload, 1) := by decide +kernel
theorem dX12_rankOf_16 : decode cX12_rankOf 16 = .ok (.iload_n 1, 1) := by decide +kernel
theorem dX12_rankOf_17 : decode cX12_rankOf 17 = .ok (.if_icmp .eq 9, 3) := by decide +kernel
theorem dX12_rankOf_20 : decode cX12_rankOf 20 = .ok (.iinc 2 1, 3) := by decide +kernel
theorem dX12_rankOf_23 : decode cX12_rankOf 23 = .ok (.goto (-21), 3) := by decide +kernel
theorem dX12_rankOf_26 : decode cX12_rankOf 26 = .ok (.iload_n 2, 1) := by decide +kernel
theorem dX12_rankOf_27 : decode cX12_rankOf 27 = .ok (.aload_n 0, 1) := by decide +kernel
theorem dX12_rankOf_28 : decode cX12_rankOf 28 = .ok (.getfield 466, 3) := by decide +kernel
theorem dX12_rankOf_31 : decode cX12_rankOf 31 = .ok (.if_icmp .ge 7, 3) := by decide +kernel
theorem dX12_rankOf_34 : decode cX12_rankOf 34 = .ok (.iload_n 2, 1) := by decide +kernel
theorem dX12_rankOf_35 : decode cX12_rankOf 35 = .ok (.goto 5, 3) := by decide +kernel
theorem dX12_rankOf_38 : decode cX12_rankOf 38 = .ok (.bipush (-4), 2) := by decide +kernel
theorem dX12_rankOf_40 : decode cX12_rankOf 40 = .ok (.ireturn, 1) := by decide +kernel
set_option maxRecDepth 100000 in
set_option maxHeartbeats 4000000 in
theorem w_X12_rankOf_j26 {p : Program} {l : Launch} {e : Env} {R : Room} {s : State} {m : MethodId} {args : Array Value} {below : List Frame} {meth : Method} {c : Code} {dC : Nat → ClassId} {dI : Nat → Nat → Nat} {cs : Nat → ClassId} {ad : Nat → Nat} {A : Nat → Prop} {D0 : Nat → Nat} {S' : SS} {r : Int32} (F : Fx p s m args meth c cX12_rankOf 3 RX12 (some .int) dC dI cs A) (hR1 : 0 ≤ R.frames) (hR2 : 0 ≤ R.locals) (x2 : Int32) (S : SS) (h : f_X12_rankOf_j26 x2 S = some (r, S')) : AW p l e R s m args below meth c dC dI cs ad A D0 (some (.int r)) S' 3 26 [(0, .ref (ad 14)), (2, .int x2)] [] S := by
  have hx := F.1.1
  have hb := F.1.2.1
  intro H locs ls w hl
  rw [f_X12_rankOf_j26] at h
  refine lv_iload_n (pc := 26) hx hb dX12_rankOf_26 rfl (lv_at hl 1 rfl) ?_
  refine lv_aload_n (pc := 27) hx hb dX12_rankOf_27 rfl (lv_at hl 0 rfl) ?_
  refine s_getI (pc := 28) F w ds_14 (j := 81) vc_X12 vi_X12 rfl (by decide) kf_X12_466 dX12_rankOf_28 ?_
  refine lv_icmp_ge (pc := 31) (tgt := 38) hx hb dX12_rankOf_31 (by decide) (fun q => ?_) (fun q => ?_)
  · have h := ite_t q h
    refine lv_bipush (pc := 38) (v := -4) hx hb dX12_rankOf_38 (by decide) ?_
    exact s_iret F w h dX12_rankOf_40
  · have h := ite_f q h
    refine lv_iload_n (pc := 34) hx hb dX12_rankOf_34 rfl (lv_at hl 1 rfl) ?_
    refine lv_goto (pc := 35) (tgt := 40) hx hb dX12_rankOf_35 (by decide) ?_
    exact s_iret F w h dX12_rankOf_40
set_option maxRecDepth 100000 in
set_option maxHeartbeats 4000000 in
theorem w_X12_rankOf_L2 {p : Program} {l : Launch} {e : Env} {R : Room} {s : State} {m : MethodId} {args : Array Value} {below : List Frame} {meth : Method} {c : Code} {dC : Nat → ClassId} {dI : Nat → Nat → Nat} {cs : Nat → ClassId} {ad : Nat → Nat} {A : Nat → Prop} {D0 : Nat → Nat} {S' : SS} {r : Int32} (F : Fx p s m args meth c cX12_rankOf 3 RX12 (some .int) dC dI cs A) (hR1 : 0 ≤ R.frames) (hR2 : 0 ≤ R.locals) : ∀ (n : Nat) (x1 : Int32) (x2 : Int32) (S : SS), f_X12_rankOf_L2 n x1 x2 S = some (r, S') → AW p l e R s m args below meth c dC dI cs ad A D0 (some (.int r)) S' 3 2 [(0, .ref (ad 14)), (1, .int x1), (2, .int x2)] [] S := by
  have hx := F.1.1
  have hb := F.1.2.1
  intro n
  induction n with
  | zero => intro x1 x2 S h; cases h
  | succ n ih =>
    intro x1 x2 S h H locs ls w hl
    rw [f_X12_rankOf_L2] at h
    refine lv_iload_n (pc := 2) hx hb dX12_rankOf_2 rfl (lv_at hl 2 rfl) ?_
    refine lv_aload_n (pc := 3) hx hb dX12_rankOf_3 rfl (lv_at hl 0 rfl) ?_
    refine s_getI (pc := 4) F w ds_14 (j := 81) vc_X12 vi_X12 rfl (by decide) kf_X12_466 dX12_rankOf_4 ?_
    refine lv_icmp_ge (pc := 7) (tgt := 26) hx hb dX12_rankOf_7 (by decide) (fun q => ?_) (fun q => ?_)
    · have h := ite_t q h
      exact w_X12_rankOf_j26 F (Nat.le_trans (by decide) hR1) (Nat.le_trans (by decide) hR2) _ _ h _ _ _ w (lv_sub hl [0, 2] rfl)
    · have h := ite_f q h
      refine lv_aload_n (pc := 10) hx hb dX12_rankOf_10 rfl (lv_at hl 0 rfl) ?_
      refine s_getR (pc := 11) F w 121 ds_14 (j := 82) vc_X12 vi_X12 rfl (by decide) kf_X12_180 dX12_rankOf_11 ?_
      refine lv_iload_n (pc := 14) hx hb dX12_rankOf_14 rfl (lv_at hl 2 rfl) ?_
      refine s_iald (pc := 15) F w ds_121 h dX12_rankOf_15 (fun h => ?_)
      refine lv_iload_n (pc := 16) hx hb dX12_rankOf_16 rfl (lv_at hl 1 rfl) ?_
      refine lv_icmp_eq (pc := 17) (tgt := 26) hx hb dX12_rankOf_17 (by decide) (fun q => ?_) (fun q => ?_)
      · have h := ite_t q h
        exact w_X12_rankOf_j26 F (Nat.le_trans (by decide) hR1) (Nat.le_trans (by decide) hR2) _ _ h _ _ _ w (lv_sub hl [0, 2] rfl)
      · have h := ite_f q h
        refine s_nm h (fun z1 ez1 h => ?_)
        refine lv_iinc (pc := 20) (v := z1) (lv' := [(2, .int z1), (0, .ref (ad 14)), (1, .int x1)]) hx hb dX12_rankOf_20 hl (k := 2) rfl (by rw [ez1]; rfl) (by decide) rfl (fun ls hl => ?_)
        refine lv_goto (pc := 23) (tgt := 2) hx hb dX12_rankOf_23 (by decide) ?_
        exact ih _ _ _ h _ _ _ w (lv_sub hl [1, 2, 0] rfl)
set_option maxRecDepth 100000 in
set_option maxHeartbeats 4000000 in
theorem m_X12_rankOf (a1 : Int32) (S S' : SS) (r : Int32) (h : f_X12_rankOf a1 S = some (r, S')) : MT yX12_rankOf cX12_rankOf 3 (some .int) 0 0 (fun ad => [.ref (ad 14), .int a1]) S (some (.int r)) S' := by
  refine MT.of RX12 (fun ad => [(0, .ref (ad 14)), (1, .int a1)]) (by decide) rfl (fun _ => Nat.le_of_ble_eq_true rfl) (fun _ => rfl) ?_
  intro p l e R s m args below meth c dC dI cs ad A hR1 hR2 F H locs ls w hl
  have hx := F.1.1
  have hb := F.1.2.1
  rw [f_X12_rankOf] at h
  refine lv_iconst (pc := 0) (v := 0) hx hb dX12_rankOf_0 (by decide) ?_
  refine lv_istore_n (pc := 1) (lv' := [(2, .int (0 : Int32)), (0, .ref (ad 14)), (1, .int a1)]) hx hb dX12_rankOf_1 rfl hl (by decide) rfl (fun ls hl => ?_)
  exact w_X12_rankOf_L2 F (Nat.le_trans (by decide) hR1) (Nat.le_trans (by decide) hR2) _ _ _ _ h _ _ _ w (lv_sub hl [1, 2, 0] rfl)
def f_X12_code_j134 (K105 : Int32 → Int32 → Int32 → Int32 → Int32 → SS → Option (Int32 × SS)) (x1 : Int32) (x2 : Int32) (x3 : Int32) (x5 : Int32) (y0 : Int32) (y1 : Int32) (S : SS) : Option (Int32 × SS) :=
    nm (y1 + y0) (fun z6 =>
    nm (x5 + (1 : Int32)) (fun z7 =>
    K105 x1 x2 x3 z6 z7 S))
def f_X12_code_L105 (K92 : Int32 → Int32 → Int32 → SS → Option (Int32 × SS)) : Nat → Int32 → Int32 → Int32 → Int32 → Int32 → SS → Option (Int32 × SS)
  | 0, _, _, _, _, _, _ => none
  | n + 1, x1, x2, x3, x4, x5, S =>
    if x1 ≤ x5 then
      nm ((x2 * (x1 - x3)) + x4) (fun z4 =>
      nm (x3 + (1 : Int32)) (fun z5 =>
      K92 x1 z4 z5 S))
    else
      grd (inb x5 5) (
      grd (inb x3 5) (
      if (S.1 126 x3.toNatClampNeg) ≤ (S.1 126 x5.toNatClampNeg) then
        f_X12_code_j134 (fun v0 v1 v2 v3 v4 S => f_X12_code_L105 K92 n v0 v1 v2 v3 v4 S) x1 x2 x3 x5 (0 : Int32) x4 S
      else
        f_X12_code_j134 (fun v0 v1 v2 v3 v4 S => f_X12_code_L105 K92 n v0 v1 v2 v3 v4 S) x1 x2 x3 x5 (1 : Int32) x4 S))
def f_X12_code_L92  : Nat → Int32 → Int32 → Int32 → SS → Option (Int32 × SS)
  | 0, _, _, _, _ => none
  | n + 1, x1, x2, x3, S =>
    if x1 ≤ x3 then
      grd (inb (0 : Int32) 4) (
      grd (inb (1 : Int32) 4) (
      grd (inb (2 : Int32) 4) (
      some ((((x2 * (216 : Int32)) + ((S.1 125 (0 : Int32).toNatClampNeg) * (36 : Int32))) + ((S.1 125 (1 : Int32).toNatClampNeg) * (6 : Int32))) + (S.1 125 (2 : Int32).toNatClampNeg), S))))
    else
      nm (x3 + (1 : Int32)) (fun z3 =>
      f_X12_code_L105 (fun v0 v1 v2 S => f_X12_code_L92 n v0 v1 v2 S) NF x1 x2 x3 (0 : Int32) z3 S)
def f_X12_code_L28 (K21 : Int32 → Int32 → SS → Option (Int32 × SS)) : Nat → Int32 → Int32 → Int32 → SS → Option (Int32 × SS)
  | 0, _, _, _, _ => none
  | n + 1, x1, x2, x3, S =>
    grd (inb x2 4) (
    if (S.1 125 x2.toNatClampNeg) ≤ x3 then
      nm (x2 + (1 : Int32)) (fun z8 =>
      K21 x1 z8 S)
    else
      grd (inb (((10 : Int32) * x2) + x3) 40) (
      bnd (f_X12_rankOf (S.1 124 (((10 : Int32) * x2) + x3).toNatClampNeg) S) (fun r10 S9 =>
      grd (inb x1 5) (wr S9 126 x1.toNatClampNeg r10 (fun S11 =>
      grd (inb x1 5) (
      if (S11.1 126 x1.toNatClampNeg) = (-4 : Int32) then
        some ((-4 : Int32), S11)
      else
        nm (x1 + (1 : Int32)) (fun z12 =>
        nm (x3 + (1 : Int32)) (fun z13 =>
        f_X12_code_L28 K21 n z12 x2 z13 S11))))))))
def f_X12_code_L21  : Nat → Int32 → Int32 → SS → Option (Int32 × SS)
  | 0, _, _, _ => none
  | n + 1, x1, x2, S =>
    if (4 : Int32) ≤ x2 then
      f_X12_code_L92 NF x1 (0 : Int32) (0 : Int32) S
    else
      f_X12_code_L28 (fun v0 v1 S => f_X12_code_L21 n v0 v1 S) NF x1 x2 (0 : Int32) S
def f_X12_code  (S : SS) : Option (Int32 × SS) :=
  bnd (f_X12_sumOf_Model_many  S) (fun r2 S1 =>
  if r2 = (S1.1 14 81) then
    f_X12_code_L21 NF (0 : Int32) (0 : Int32) S1
  else
    some ((-4 : Int32), S1))
theorem dX12_code_0 : decode cX12_code 0 = .ok (.aload_n 0, 1) := by decide +kernel
theorem dX12_code_1 : decode cX12_code 1 = .ok (.getfield 192, 3) := by decide +kernel
theorem dX12_code_4 : decode cX12_code 4 = .ok (.invokestatic 459, 3) := by decide +kernel
theorem dX12_code_7 : decode cX12_code 7 = .ok (.aload_n 0, 1) := by decide +kernel
theorem dX12_code_8 : decode cX12_code 8 = .ok (.getfield 466, 3) := by decide +kernel
theorem dX12_code_11 : decode cX12_code 11 = .ok (.if_icmp .eq 6, 3) := by decide +kernel
theorem dX12_code_14 : decode cX12_code 14 = .ok (.bipush (-4), 2) := by decide +kernel
theorem dX12_code_16 : decode cX12_code 16 = .ok (.ireturn, 1) := by decide +kernel
theorem dX12_code_17 : decode cX12_code 17 = .ok (.iconst 0, 1) := by decide +kernel
theorem dX12_code_18 : decode cX12_code 18 = .ok (.istore_n 1, 1) := by decide +kernel
theorem dX12_code_19 : decode cX12_code 19 = .ok (.iconst 0, 1) := by decide +kernel
theorem dX12_code_20 : decode cX12_code 20 = .ok (.istore_n 2, 1) := by decide +kernel
theorem dX12_code_21 : decode cX12_code 21 = .ok (.iload_n 2, 1) := by decide +kernel
theorem dX12_code_22 : decode cX12_code 22 = .ok (.iconst 4, 1) := by decide +kernel
theorem dX12_code_23 : decode cX12_code 23 = .ok (.if_icmp .ge 65, 3) := by decide +kernel
theorem dX12_code_26 : decode cX12_code 26 = .ok (.iconst 0, 1) := by decide +kernel
theorem dX12_code_27 : decode cX12_code 27 = .ok (.istore_n 3, 1) := by decide +kernel
theorem dX12_code_28 : decode cX12_code 28 = .ok (.iload_n 3, 1) := by decide +kernel
theorem dX12_code_29 : decode cX12_code 29 = .ok (.aload_n 0, 1) := by decide +kernel
theorem dX12_code_30 : decode cX12_code 30 = .ok (.getfield 192, 3) := by decide +kernel
theorem dX12_code_33 : decode cX12_code 33 = .ok (.iload_n 2, 1) := by decide +kernel
theorem dX12_code_34 : decode cX12_code 34 = .ok (.iaload, 1) := by decide +kernel
theorem dX12_code_35 : decode cX12_code 35 = .ok (.if_icmp .ge 47, 3) := by decide +kernel
theorem dX12_code_38 : decode cX12_code 38 = .ok (.aload_n 0, 1) := by decide +kernel
theorem dX12_code_39 : decode cX12_code 39 = .ok (.getfield 195, 3) := by decide +kernel
theorem dX12_code_42 : decode cX12_code 42 = .ok (.iload_n 1, 1) := by decide +kernel
theorem dX12_code_43 : decode cX12_code 43 = .ok (.aload_n 0, 1) := by decide +kernel
theorem dX12_code_44 : decode cX12_code 44 = .ok (.aload_n 0, 1) := by decide +kernel
theorem dX12_code_45 : decode cX12_code 45 = .ok (.getfield 189, 3) := by decide +kernel
theorem dX12_code_48 : decode cX12_code 48 = .ok (.bipush 10, 2) := by decide +kernel
theorem dX12_code_50 : decode cX12_code 50 = .ok (.iload_n 2, 1) := by decide +kernel
theorem dX12_code_51 : decode cX12_code 51 = .ok (.imul, 1) := by decide +kernel
theorem dX12_code_52 : decode cX12_code 52 = .ok (.iload_n 3, 1) := by decide +kernel
theorem dX12_code_53 : decode cX12_code 53 = .ok (.iadd, 1) := by decide +kernel
theorem dX12_code_54 : decode cX12_code 54 = .ok (.iaload, 1) := by decide +kernel
theorem dX12_code_55 : decode cX12_code 55 = .ok (.invokevirtual 469, 3) := by decide +kernel
theorem dX12_code_58 : decode cX12_code 58 = .ok (.iastore, 1) := by decide +kernel
theorem dX12_code_59 : decode cX12_code 59 = .ok (.aload_n 0, 1) := by decide +kernel
theorem dX12_code_60 : decode cX12_code 60 = .ok (.getfield 195, 3) := by decide +kernel
theorem dX12_code_63 : decode cX12_code 63 = .ok (.iload_n 1, 1) := by decide +kernel
theorem dX12_code_64 : decode cX12_code 64 = .ok (.iaload, 1) := by decide +kernel
theorem dX12_code_65 : decode cX12_code 65 = .ok (.bipush (-4), 2) := by decide +kernel
theorem dX12_code_67 : decode cX12_code 67 = .ok (.if_icmp .ne 6, 3) := by decide +kernel
theorem dX12_code_70 : decode cX12_code 70 = .ok (.bipush (-4), 2) := by decide +kernel
theorem dX12_code_72 : decode cX12_code 72 = .ok (.ireturn, 1) := by decide +kernel
theorem dX12_code_73 : decode cX12_code 73 = .ok (.iinc 1 1, 3) := by decide +kernel
theorem dX12_code_76 : decode cX12_code 76 = .ok (.iinc 3 1, 3) := by decide +kernel
theorem dX12_code_79 : decode cX12_code 79 = .ok (.goto (-51), 3) := by decide +kernel
theorem dX12_code_82 : decode cX12_code 82 = .ok (.iinc 2 1, 3) := by decide +kernel
theorem dX12_code_85 : decode cX12_code 85 = .ok (.goto (-64), 3) := by decide +kernel
theorem dX12_code_88 : decode cX12_code 88 = .ok (.iconst 0, 1) := by decide +kernel
theorem dX12_code_89 : decode cX12_code 89 = .ok (.istore_n 2, 1) := by decide +kernel
theorem dX12_code_90 : decode cX12_code 90 = .ok (.iconst 0, 1) := by decide +kernel
theorem dX12_code_91 : decode cX12_code 91 = .ok (.istore_n 3, 1) := by decide +kernel
theorem dX12_code_92 : decode cX12_code 92 = .ok (.iload_n 3, 1) := by decide +kernel
theorem dX12_code_93 : decode cX12_code 93 = .ok (.iload_n 1, 1) := by decide +kernel
theorem dX12_code_94 : decode cX12_code 94 = .ok (.if_icmp .ge 64, 3) := by decide +kernel
theorem dX12_code_97 : decode cX12_code 97 = .ok (.iconst 0, 1) := by decide +kernel
theorem dX12_code_98 : decode cX12_code 98 = .ok (.istore 4, 2) := by decide +kernel
theorem dX12_code_100 : decode cX12_code 100 = .ok (.iload_n 3, 1) := by decide +kernel
theorem dX12_code_101 : decode cX12_code 101 = .ok (.iconst 1, 1) := by decide +kernel
theorem dX12_code_102 : decode cX12_code 102 = .ok (.iadd, 1) := by decide +kernel
theorem dX12_code_103 : decode cX12_code 103 = .ok (.istore 5, 2) := by decide +kernel
theorem dX12_code_105 : decode cX12_code 105 = .ok (.iload 5, 2) := by decide +kernel
theorem dX12_code_107 : decode cX12_code 107 = .ok (.iload_n 1, 1) := by decide +kernel
theorem dX12_code_108 : decode cX12_code 108 = .ok (.if_icmp .ge 35, 3) := by decide +kernel
theorem dX12_code_111 : decode cX12_code 111 = .ok (.iload 4, 2) := by decide +kernel
theorem dX12_code_113 : decode cX12_code 113 = .ok (.aload_n 0, 1) := by decide +kernel
theorem dX12_code_114 : decode cX12_code 114 = .ok (.getfield 195, 3) := by decide +kernel
theorem dX12_code_117 : decode cX12_code 117 = .ok (.iload 5, 2) := by decide +kernel
theorem dX12_code_119 : decode cX12_code 119 = .ok (.iaload, 1) := by decide +kernel
theorem dX12_code_120 : decode cX12_code 120 = .ok (.aload_n 0, 1) := by decide +kernel
theorem dX12_code_121 : decode cX12_code 121 = .ok (.getfield 195, 3) := by decide +kernel
theorem dX12_code_124 : decode cX12_code 124 = .ok (.iload_n 3, 1) := by decide +kernel
theorem dX12_code_125 : decode cX12_code 125 = .ok (.iaload, 1) := by decide +kernel
theorem dX12_code_126 : decode cX12_code 126 = .ok (.if_icmp .ge 7, 3) := by decide +kernel
theorem dX12_code_129 : decode cX12_code 129 = .ok (.iconst 1, 1) := by decide +kernel
theorem dX12_code_130 : decode cX12_code 130 = .ok (.goto 4, 3) := by decide +kernel
theorem dX12_code_133 : decode cX12_code 133 = .ok (.iconst 0, 1) := by decide +kernel
theorem dX12_code_134 : decode cX12_code 134 = .ok (.iadd, 1) := by decide +kernel
theorem dX12_code_135 : decode cX12_code 135 = .ok (.istore 4, 2) := by decide +kernel
theorem dX12_code_137 : decode cX12_code 137 = .ok (.iinc 5 1, 3) := by decide +kernel
theorem dX12_code_140 : decode cX12_code 140 = .ok (.goto (-35), 3) := by decide +kernel
theorem dX12_code_143 : decode cX12_code 143 = .ok (.iload_n 2, 1) := by decide +kernel
theorem dX12_code_144 : decode cX12_code 144 = .ok (.iload_n 1, 1) := by decide +kernel
theorem dX12_code_145 : decode cX12_code 145 = .ok (.iload_n 3, 1) := by decide +kernel
theorem dX12_code_146 : decode cX12_code 146 = .ok (.isub, 1) := by decide +kernel
theorem dX12_code_147 : decode cX12_code 147 = .ok (.imul, 1) := by decide +kernel
theorem dX12_code_148 : decode cX12_code 148 = .ok (.iload 4, 2) := by decide +kernel
theorem dX12_code_150 : decode cX12_code 150 = .ok (.iadd, 1) := by decide +kernel
theorem dX12_code_151 : decode cX12_code 151 = .ok (.istore_n 2, 1) := by decide +kernel
theorem dX12_code_152 : decode cX12_code 152 = .ok (.iinc 3 1, 3) := by decide +kernel
theorem dX12_code_155 : decode cX12_code 155 = .ok (.goto (-63), 3) := by decide +kernel
theorem dX12_code_158 : decode cX12_code 158 = .ok (.iload_n 2, 1) := by decide +kernel
theorem dX12_code_159 : decode cX12_code 159 = .ok (.sipush 216, 3) := by decide +kernel
theorem dX12_code_162 : decode cX12_code 162 = .ok (.imul, 1) := by decide +kernel
theorem dX12_code_163 : decode cX12_code 163 = .ok (.aload_n 0, 1) := by decide +kernel
theorem dX12_code_164 : decode cX12_code 164 = .ok (.getfield 192, 3) := by decide +kernel
theorem dX12_code_167 : decode cX12_code 167 = .ok (.iconst 0, 1) := by decide +kernel
theorem dX12_code_168 : decode cX12_code 168 = .ok (.iaload, 1) := by decide +kernel
theorem dX12_code_169 : decode cX12_code 169 = .ok (.bipush 36, 2) := by decide +kernel
theorem dX12_code_171 : decode cX12_code 171 = .ok (.imul, 1) := by decide +kernel
theorem dX12_code_172 : decode cX12_code 172 = .ok (.iadd, 1) := by decide +kernel
theorem dX12_code_173 : decode cX12_code 173 = .ok (.aload_n 0, 1) := by decide +kernel
theorem dX12_code_174 : decode cX12_code 174 = .ok (.getfield 192, 3) := by decide +kernel
theorem dX12_code_177 : decode cX12_code 177 = .ok (.iconst 1, 1) := by decide +kernel
theorem dX12_code_178 : decode cX12_code 178 = .ok (.iaload, 1) := by decide +kernel
theorem dX12_code_179 : decode cX12_code 179 = .ok (.bipush 6, 2) := by decide +kernel
theorem dX12_code_181 : decode cX12_code 181 = .ok (.imul, 1) := by decide +kernel
theorem dX12_code_182 : decode cX12_code 182 = .ok (.iadd, 1) := by decide +kernel
theorem dX12_code_183 : decode cX12_code 183 = .ok (.aload_n 0, 1) := by decide +kernel
theorem dX12_code_184 : decode cX12_code 184 = .ok (.getfield 192, 3) := by decide +kernel
theorem dX12_code_187 : decode cX12_code 187 = .ok (.iconst 2, 1) := by decide +kernel
theorem dX12_code_188 : decode cX12_code 188 = .ok (.iaload, 1) := by decide +kernel
theorem dX12_code_189 : decode cX12_code 189 = .ok (.iadd, 1) := by decide +kernel
theorem dX12_code_190 : decode cX12_code 190 = .ok (.ireturn, 1) := by decide +kernel
set_option maxRecDepth 100000 in
set_option maxHeartbeats 4000000 in
theorem w_X12_code_j134 {p : Program} {l : Launch} {e : Env} {R : Room} {s : State} {m : MethodId} {args : Array Value} {below : List Frame} {meth : Method} {c : Code} {dC : Nat → ClassId} {dI : Nat → Nat → Nat} {cs : Nat → ClassId} {ad : Nat → Nat} {A : Nat → Prop} {D0 : Nat → Nat} {S' : SS} {r : Int32} (F : Fx p s m args meth c cX12_code 6 RX12 (some .int) dC dI cs A) (hR1 : 0 ≤ R.frames) (hR2 : 0 ≤ R.locals) (K105 : Int32 → Int32 → Int32 → Int32 → Int32 → SS → Option (Int32 × SS)) (hK105 : ∀ (v0 : Int32) (v1 : Int32) (v2 : Int32) (v3 : Int32) (v4 : Int32) (S : SS), K105 v0 v1 v2 v3 v4 S = some (r, S') → AW p l e R s m args below meth c dC dI cs ad A D0 (some (.int r)) S' 6 105 [(0, .ref (ad 14)), (1, .int v0), (2, .int v1), (3, .int v2), (4, .int v3), (5, .int v4)] [] S) (x1 : Int32) (x2 : Int32) (x3 : Int32) (x5 : Int32) (y0 : Int32) (y1 : Int32) (S : SS) (h : f_X12_code_j134 K105 x1 x2 x3 x5 y0 y1 S = some (r, S')) : AW p l e R s m args below meth c dC dI cs ad A D0 (some (.int r)) S' 6 134 [(0, .ref (ad 14)), (1, .int x1), (2, .int x2), (3, .int x3), (5, .int x5)] [.int y0, .int y1] S := by
  have hx := F.1.1
  have hb := F.1.2.1
  intro H locs ls w hl
  rw [f_X12_code_j134] at h
  refine lv_iadd (pc := 134) hx hb dX12_code_134 ?_
  refine s_nm h (fun z6 ez6 h => ?_)
  rw [← ez6]
  refine lv_istore (pc := 135) (lv' := [(4, .int z6), (0, .ref (ad 14)), (1, .int x1), (2, .int x2), (3, .int x3), (5, .int x5)]) hx hb dX12_code_135 hl (by decide) rfl (fun ls hl => ?_)
  refine s_nm h (fun z7 ez7 h => ?_)
  refine lv_iinc (pc := 137) (v := z7) (lv' := [(5, .int z7), (4, .int z6), (0, .ref (ad 14)), (1, .int x1), (2, .int x2), (3, .int x3)]) hx hb dX12_code_137 hl (k := 5) rfl (by rw [ez7]; rfl) (by decide) rfl (fun ls hl => ?_)
  refine lv_goto (pc := 140) (tgt := 105) hx hb dX12_code_140 (by decide) ?_
  exact hK105 _ _ _ _ _ _ h _ _ _ w (lv_sub hl [2, 3, 4, 5, 1, 0] rfl)
set_option maxRecDepth 100000 in
set_option maxHeartbeats 4000000 in
theorem w_X12_code_L105 {p : Program} {l : Launch} {e : Env} {R : Room} {s : State} {m : MethodId} {args : Array Value} {below : List Frame} {meth : Method} {c : Code} {dC : Nat → ClassId} {dI : Nat → Nat → Nat} {cs : Nat → ClassId} {ad : Nat → Nat} {A : Nat → Prop} {D0 : Nat → Nat} {S' : SS} {r : Int32} (F : Fx p s m args meth c cX12_code 6 RX12 (some .int) dC dI cs A) (hR1 : 0 ≤ R.frames) (hR2 : 0 ≤ R.locals) (K92 : Int32 → Int32 → Int32 → SS → Option (Int32 × SS)) (hK92 : ∀ (v0 : Int32) (v1 : Int32) (v2 : Int32) (S : SS), K92 v0 v1 v2 S = some (r, S') → AW p l e R s m args below meth c dC dI cs ad A D0 (some (.int r)) S' 6 92 [(0, .ref (ad 14)), (1, .int v0), (2, .int v1), (3, .int v2)] [] S) : ∀ (n : Nat) (x1 : Int32) (x2 : Int32) (x3 : Int32) (x4 : Int32) (x5 : Int32) (S : SS), f_X12_code_L105 K92 n x1 x2 x3 x4 x5 S = some (r, S') → AW p l e R s m args below meth c dC dI cs ad A D0 (some (.int r)) S' 6 105 [(0, .ref (ad 14)), (1, .int x1), (2, .int x2), (3, .int x3), (4, .int x4), (5, .int x5)] [] S := by
  have hx := F.1.1
  have hb := F.1.2.1
  intro n
  induction n with
  | zero => intro x1 x2 x3 x4 x5 S h; cases h
  | succ n ih =>
    intro x1 x2 x3 x4 x5 S h H locs ls w hl
    rw [f_X12_code_L105] at h
    refine lv_iload (pc := 105) hx hb dX12_code_105 (lv_at hl 5 rfl) ?_
    refine lv_iload_n (pc := 107) hx hb dX12_code_107 rfl (lv_at hl 1 rfl) ?_
    refine lv_icmp_ge (pc := 108) (tgt := 143) hx hb dX12_code_108 (by decide) (fun q => ?_) (fun q => ?_)
    · have h := ite_t q h
      refine lv_iload_n (pc := 143) hx hb dX12_code_143 rfl (lv_at hl 2 rfl) ?_
      refine lv_iload_n (pc := 144) hx hb dX12_code_144 rfl (lv_at hl 1 rfl) ?_
      refine lv_iload_n (pc := 145) hx hb dX12_code_145 rfl (lv_at hl 3 rfl) ?_
      refine lv_isub (pc := 146) hx hb dX12_code_146 ?_
      refine lv_imul (pc := 147) hx hb dX12_code_147 ?_
      refine lv_iload (pc := 148) hx hb dX12_code_148 (lv_at hl 4 rfl) ?_
      refine lv_iadd (pc := 150) hx hb dX12_code_150 ?_
      refine s_nm h (fun z4 ez4 h => ?_)
      rw [← ez4]
      refine lv_istore_n (pc := 151) (lv' := [(2, .int z4), (0, .ref (ad 14)), (1, .int x1), (3, .int x3), (4, .int x4), (5, .int x5)]) hx hb dX12_code_151 rfl hl (by decide) rfl (fun ls hl => ?_)
      refine s_nm h (fun z5 ez5 h => ?_)
      refine lv_iinc (pc := 152) (v := z5) (lv' := [(3, .int z5), (2, .int z4), (0, .ref (ad 14)), (1, .int x1), (4, .int x4), (5, .int x5)]) hx hb dX12_code_152 hl (k := 3) rfl (by rw [ez5]; rfl) (by decide) rfl (fun ls hl => ?_)
      refine lv_goto (pc := 155) (tgt := 92) hx hb dX12_code_155 (by decide) ?_
      exact hK92 _ _ _ _ h _ _ _ w (lv_sub hl [2, 3, 1, 0] rfl)
    · have h := ite_f q h
      refine lv_iload (pc := 111) hx hb dX12_code_111 (lv_at hl 4 rfl) ?_
      refine lv_aload_n (pc := 113) hx hb dX12_code_113 rfl (lv_at hl 0 rfl) ?_
      refine s_getR (pc := 114) F w 126 ds_14 (j := 87) vc_X12 vi_X12 rfl (by decide) kf_X12_195 dX12_code_114 ?_
      refine lv_iload (pc := 117) hx hb dX12_code_117 (lv_at hl 5 rfl) ?_
      refine s_iald (pc := 119) F w ds_126 h dX12_code_119 (fun h => ?_)
      refine lv_aload_n (pc := 120) hx hb dX12_code_120 rfl (lv_at hl 0 rfl) ?_
      refine s_getR (pc := 121) F w 126 ds_14 (j := 87) vc_X12 vi_X12 rfl (by decide) kf_X12_195 dX12_code_121 ?_
      refine lv_iload_n (pc := 124) hx hb dX12_code_124 rfl (lv_at hl 3 rfl) ?_
      refine s_iald (pc := 125) F w ds_126 h dX12_code_125 (fun h => ?_)
      refine lv_icmp_ge (pc := 126) (tgt := 133) hx hb dX12_code_126 (by decide) (fun q => ?_) (fun q => ?_)
      · have h := ite_t q h
        refine lv_iconst (pc := 133) (v := 0) hx hb dX12_code_133 (by decide) ?_
        exact w_X12_code_j134 F (Nat.le_trans (by decide) hR1) (Nat.le_trans (by decide) hR2) _ (fun v0 v1 v2 v3 v4 S h => ih v0 v1 v2 v3 v4 S h) _ _ _ _ _ _ _ h _ _ _ w (lv_sub hl [0, 1, 2, 3, 5] rfl)
      · have h := ite_f q h
        refine lv_iconst (pc := 129) (v := 1) hx hb dX12_code_129 (by decide) ?_
        refine lv_goto (pc := 130) (tgt := 134) hx hb dX12_code_130 (by decide) ?_
        exact w_X12_code_j134 F (Nat.le_trans (by decide) hR1) (Nat.le_trans (by decide) hR2) _ (fun v0 v1 v2 v3 v4 S h => ih v0 v1 v2 v3 v4 S h) _ _ _ _ _ _ _ h _ _ _ w (lv_sub hl [0, 1, 2, 3, 5] rfl)
set_option maxRecDepth 100000 in
set_option maxHeartbeats 4000000 in
theorem w_X12_code_L92 {p : Program} {l : Launch} {e : Env} {R : Room} {s : State} {m : MethodId} {args : Array Value} {below : List Frame} {meth : Method} {c : Code} {dC : Nat → ClassId} {dI : Nat → Nat → Nat} {cs : Nat → ClassId} {ad : Nat → Nat} {A : Nat → Prop} {D0 : Nat → Nat} {S' : SS} {r : Int32} (F : Fx p s m args meth c cX12_code 6 RX12 (some .int) dC dI cs A) (hR1 : 0 ≤ R.frames) (hR2 : 0 ≤ R.locals) : ∀ (n : Nat) (x1 : Int32) (x2 : Int32) (x3 : Int32) (S : SS), f_X12_code_L92 n x1 x2 x3 S = some (r, S') → AW p l e R s m args below meth c dC dI cs ad A D0 (some (.int r)) S' 6 92 [(0, .ref (ad 14)), (1, .int x1), (2, .int x2), (3, .int x3)] [] S := by
  have hx := F.1.1
  have hb := F.1.2.1
  intro n
  induction n with
  | zero => intro x1 x2 x3 S h; cases h
  | succ n ih =>
    intro x1 x2 x3 S h H locs ls w hl
    rw [f_X12_code_L92] at h
    refine lv_iload_n (pc := 92) hx hb dX12_code_92 rfl (lv_at hl 3 rfl) ?_
    refine lv_iload_n (pc := 93) hx hb dX12_code_93 rfl (lv_at hl 1 rfl) ?_
    refine lv_icmp_ge (pc := 94) (tgt := 158) hx hb dX12_code_94 (by decide) (fun q => ?_) (fun q => ?_)
    · have h := ite_t q h
      refine lv_iload_n (pc := 158) hx hb dX12_code_158 rfl (lv_at hl 2 rfl) ?_
      refine lv_sipush (pc := 159) (v := 216) hx hb dX12_code_159 (by decide) ?_
      refine lv_imul (pc := 162) hx hb dX12_code_162 ?_
      refine lv_aload_n (pc := 163) hx hb dX12_code_163 rfl (lv_at hl 0 rfl) ?_
      refine s_getR (pc := 164) F w 125 ds_14 (j := 86) vc_X12 vi_X12 rfl (by decide) kf_X12_192 dX12_code_164 ?_
      refine lv_iconst (pc := 167) (v := 0) hx hb dX12_code_167 (by decide) ?_
      refine s_iald (pc := 168) F w ds_125 h dX12_code_168 (fun h => ?_)
      refine lv_bipush (pc := 169) (v := 36) hx hb dX12_code_169 (by decide) ?_
      refine lv_imul (pc := 171) hx hb dX12_code_171 ?_
      refine lv_iadd (pc := 172) hx hb dX12_code_172 ?_
      refine lv_aload_n (pc := 173) hx hb dX12_code_173 rfl (lv_at hl 0 rfl) ?_
      refine s_getR (pc := 174) F w 125 ds_14 (j := 86) vc_X12 vi_X12 rfl (by decide) kf_X12_192 dX12_code_174 ?_
      refine lv_iconst (pc := 177) (v := 1) hx hb dX12_code_177 (by decide) ?_
      refine s_iald (pc := 178) F w ds_125 h dX12_code_178 (fun h => ?_)
      refine lv_bipush (pc := 179) (v := 6) hx hb dX12_code_179 (by decide) ?_
      refine lv_imul (pc := 181) hx hb dX12_code_181 ?_
      refine lv_iadd (pc := 182) hx hb dX12_code_182 ?_
      refine lv_aload_n (pc := 183) hx hb dX12_code_183 rfl (lv_at hl 0 rfl) ?_
      refine s_getR (pc := 184) F w 125 ds_14 (j := 86) vc_X12 vi_X12 rfl (by decide) kf_X12_192 dX12_code_184 ?_
      refine lv_iconst (pc := 187) (v := 2) hx hb dX12_code_187 (by decide) ?_
      refine s_iald (pc := 188) F w ds_125 h dX12_code_188 (fun h => ?_)
      refine lv_iadd (pc := 189) hx hb dX12_code_189 ?_
      exact s_iret F w h dX12_code_190
    · have h := ite_f q h
      refine lv_iconst (pc := 97) (v := 0) hx hb dX12_code_97 (by decide) ?_
      refine lv_istore (pc := 98) (lv' := [(4, .int (0 : Int32)), (0, .ref (ad 14)), (1, .int x1), (2, .int x2), (3, .int x3)]) hx hb dX12_code_98 hl (by decide) rfl (fun ls hl => ?_)
      refine lv_iload_n (pc := 100) hx hb dX12_code_100 rfl (lv_at hl 4 rfl) ?_
      refine lv_iconst (pc := 101) (v := 1) hx hb dX12_code_101 (by decide) ?_
      refine lv_iadd (pc := 102) hx hb dX12_code_102 ?_
      refine s_nm h (fun z3 ez3 h => ?_)
      rw [← ez3]
      refine lv_istore (pc := 103) (lv' := [(5, .int z3), (4, .int (0 : Int32)), (0, .ref (ad 14)), (1, .int x1), (2, .int x2), (3, .int x3)]) hx hb dX12_code_103 hl (by decide) rfl (fun ls hl => ?_)
      exact w_X12_code_L105 F (Nat.le_trans (by decide) hR1) (Nat.le_trans (by decide) hR2) _ (fun v0 v1 v2 S h => ih v0 v1 v2 S h) _ _ _ _ _ _ _ h _ _ _ w (lv_sub hl [2, 3, 4, 5, 1, 0] rfl)
set_option maxRecDepth 100000 in
set_option maxHeartbeats 4000000 in
theorem w_X12_code_L28 {p : Program} {l : Launch} {e : Env} {R : Room} {s : State} {m : MethodId} {args : Array Value} {below : List Frame} {meth : Method} {c : Code} {dC : Nat → ClassId} {dI : Nat → Nat → Nat} {cs : Nat → ClassId} {ad : Nat → Nat} {A : Nat → Prop} {D0 : Nat → Nat} {S' : SS} {r : Int32} (F : Fx p s m args meth c cX12_code 6 RX12 (some .int) dC dI cs A) (hR1 : 1 ≤ R.frames) (hR2 : 22 ≤ R.locals) (K21 : Int32 → Int32 → SS → Option (Int32 × SS)) (hK21 : ∀ (v0 : Int32) (v1 : Int32) (S : SS), K21 v0 v1 S = some (r, S') → AW p l e R s m args below meth c dC dI cs ad A D0 (some (.int r)) S' 6 21 [(0, .ref (ad 14)), (1, .int v0), (2, .int v1)] [] S) : ∀ (n : Nat) (x1 : Int32) (x2 : Int32) (x3 : Int32) (S : SS), f_X12_code_L28 K21 n x1 x2 x3 S = some (r, S') → AW p l e R s m args below meth c dC dI cs ad A D0 (some (.int r)) S' 6 28 [(0, .ref (ad 14)), (1, .int x1), (2, .int x2), (3, .int x3)] [] S := by
  have hx := F.1.1
  have hb := F.1.2.1
  intro n
  induction n with
  | zero => intro x1 x2 x3 S h; cases h
  | succ n ih =>
    intro x1 x2 x3 S h H locs ls w hl
    rw [f_X12_code_L28] at h
    refine lv_iload_n (pc := 28) hx hb dX12_code_28 rfl (lv_at hl 3 rfl) ?_
    refine lv_aload_n (pc := 29) hx hb dX12_code_29 rfl (lv_at hl 0 rfl) ?_
    refine s_getR (pc := 30) F w 125 ds_14 (j := 86) vc_X12 vi_X12 rfl (by decide) kf_X12_192 dX12_code_30 ?_
    refine lv_iload_n (pc := 33) hx hb dX12_code_33 rfl (lv_at hl 2 rfl) ?_
    refine s_iald (pc := 34) F w ds_125 h dX12_code_34 (fun h => ?_)
    refine lv_icmp_ge (pc := 35) (tgt := 82) hx hb dX12_code_35 (by decide) (fun q => ?_) (fun q => ?_)
    · have h := ite_t q h
      refine s_nm h (fun z8 ez8 h => ?_)
      refine lv_iinc (pc := 82) (v := z8) (lv' := [(2, .int z8), (0, .ref (ad 14)), (1, .int x1), (3, .int x3)]) hx hb dX12_code_82 hl (k := 2) rfl (by rw [ez8]; rfl) (by decide) rfl (fun ls hl => ?_)
      refine lv_goto (pc := 85) (tgt := 21) hx hb dX12_code_85 (by decide) ?_
      exact hK21 _ _ _ h _ _ _ w (lv_sub hl [1, 2, 0] rfl)
    · have h := ite_f q h
      refine lv_aload_n (pc := 38) hx hb dX12_code_38 rfl (lv_at hl 0 rfl) ?_
      refine s_getR (pc := 39) F w 126 ds_14 (j := 87) vc_X12 vi_X12 rfl (by decide) kf_X12_195 dX12_code_39 ?_
      refine lv_iload_n (pc := 42) hx hb dX12_code_42 rfl (lv_at hl 1 rfl) ?_
      refine lv_aload_n (pc := 43) hx hb dX12_code_43 rfl (lv_at hl 0 rfl) ?_
      refine lv_aload_n (pc := 44) hx hb dX12_code_44 rfl (lv_at hl 0 rfl) ?_
      refine s_getR (pc := 45) F w 124 ds_14 (j := 85) vc_X12 vi_X12 rfl (by decide) kf_X12_189 dX12_code_45 ?_
      refine lv_bipush (pc := 48) (v := 10) hx hb dX12_code_48 (by decide) ?_
      refine lv_iload_n (pc := 50) hx hb dX12_code_50 rfl (lv_at hl 2 rfl) ?_
      refine lv_imul (pc := 51) hx hb dX12_code_51 ?_
      refine lv_iload_n (pc := 52) hx hb dX12_code_52 rfl (lv_at hl 3 rfl) ?_
      refine lv_iadd (pc := 53) hx hb dX12_code_53 ?_
      refine s_iald (pc := 54) F w ds_124 h dX12_code_54 (fun h => ?_)
      obtain ⟨r10, S9, hc, h⟩ := bnd_t h
      refine s_cvi (pc := 55) [.int (S.1 124 (((10 : Int32) * x2) + x3).toNatClampNeg)] (fun ad => [.ref (ad 14), .int (S.1 124 (((10 : Int32) * x2) + x3).toNatClampNeg)]) F w (m_X12_rankOf _ _ _ _ hc) rfl rfl hl.1 ds_14 vc_X12 rfl ok_X12_rankOf rfl kc_X12_rankOf kl_X12_469 ki_X12_rankOf kv_X12_rankOf kn_X12 ⟨Nat.le_trans (by decide) hR1, Nat.le_trans (by decide) hR2⟩ ⟨Nat.zero_le _, Nat.zero_le _⟩ (Nat.le_of_ble_eq_true rfl) dX12_code_55 (fun H locs w => ?_)
      refine s_iast (pc := 58) F w ds_126 h dX12_code_58 (fun S11 H locs h w => ?_)
      refine lv_aload_n (pc := 59) hx hb dX12_code_59 rfl (lv_at hl 0 rfl) ?_
      refine s_getR (pc := 60) F w 126 ds_14 (j := 87) vc_X12 vi_X12 rfl (by decide) kf_X12_195 dX12_code_60 ?_
      refine lv_iload_n (pc := 63) hx hb dX12_code_63 rfl (lv_at hl 1 rfl) ?_
      refine s_iald (pc := 64) F w ds_126 h dX12_code_64 (fun h => ?_)
      refine lv_bipush (pc := 65) (v := -4) hx hb dX12_code_65 (by decide) ?_
      refine lv_icmp_ne (pc := 67) (tgt := 73) hx hb dX12_code_67 (by decide) (fun q => ?_) (fun q => ?_)
      · have h := ite_f q h
        refine s_nm h (fun z12 ez12 h => ?_)
        refine lv_iinc (pc := 73) (v := z12) (lv' := [(1, .int z12), (0, .ref (ad 14)), (2, .int x2), (3, .int x3)]) hx hb dX12_code_73 hl (k := 1) rfl (by rw [ez12]; rfl) (by decide) rfl (fun ls hl => ?_)
        refine s_nm h (fun z13 ez13 h => ?_)
        refine lv_iinc (pc := 76) (v := z13) (lv' := [(3, .int z13), (1, .int z12), (0, .ref (ad 14)), (2, .int x2)]) hx hb dX12_code_76 hl (k := 3) rfl (by rw [ez13]; rfl) (by decide) rfl (fun ls hl => ?_)
        refine lv_goto (pc := 79) (tgt := 28) hx hb dX12_code_79 (by decide) ?_
        exact ih _ _ _ _ h _ _ _ w (lv_sub hl [2, 1, 3, 0] rfl)
      · have h := ite_t q h
        refine lv_bipush (pc := 70) (v := -4) hx hb dX12_code_70 (by decide) ?_
        exact s_iret F w h dX12_code_72
set_option maxRecDepth 100000 in
set_option maxHeartbeats 4000000 in
theorem w_X12_code_L21 {p : Program} {l : Launch} {e : Env} {R : Room} {s : State} {m : MethodId} {args : Array Value} {below : List Frame} {meth : Method} {c : Code} {dC : Nat → ClassId} {dI : Nat → Nat → Nat} {cs : Nat → ClassId} {ad : Nat → Nat} {A : Nat → Prop} {D0 : Nat → Nat} {S' : SS} {r : Int32} (F : Fx p s m args meth c cX12_code 6 RX12 (some .int) dC dI cs A) (hR1 : 1 ≤ R.frames) (hR2 : 22 ≤ R.locals) : ∀ (n : Nat) (x1 : Int32) (x2 : Int32) (S : SS), f_X12_code_L21 n x1 x2 S = some (r, S') → AW p l e R s m args below meth c dC dI cs ad A D0 (some (.int r)) S' 6 21 [(0, .ref (ad 14)), (1, .int x1), (2, .int x2)] [] S := by
  have hx := F.1.1
  have hb := F.1.2.1
  intro n
  induction n with
  | zero => intro x1 x2 S h; cases h
  | succ n ih =>
    intro x1 x2 S h H locs ls w hl
    rw [f_X12_code_L21] at h
    refine lv_iload_n (pc := 21) hx hb dX12_code_21 rfl (lv_at hl 2 rfl) ?_
    refine lv_iconst (pc := 22) (v := 4) hx hb dX12_code_22 (by decide) ?_
    refine lv_icmp_ge (pc := 23) (tgt := 88) hx hb dX12_code_23 (by decide) (fun q => ?_) (fun q => ?_)
    · have h := ite_t q h
      refine lv_iconst (pc := 88) (v := 0) hx hb dX12_code_88 (by decide) ?_
      refine lv_istore_n (pc := 89) (lv' := [(2, .int (0 : Int32)), (0, .ref (ad 14)), (1, .int x1)]) hx hb dX12_code_89 rfl hl (by decide) rfl (fun ls hl => ?_)
      refine lv_iconst (pc := 90) (v := 0) hx hb dX12_code_90 (by decide) ?_
      refine lv_istore_n (pc := 91) (lv' := [(3, .int (0 : Int32)), (2, .int (0 : Int32)), (0, .ref (ad 14)), (1, .int x1)]) hx hb dX12_code_91 rfl hl (by decide) rfl (fun ls hl => ?_)
      exact w_X12_code_L92 F (Nat.le_trans (by decide) hR1) (Nat.le_trans (by decide) hR2) _ _ _ _ _ h _ _ _ w (lv_sub hl [2, 3, 1, 0] rfl)
    · have h := ite_f q h
      refine lv_iconst (pc := 26) (v := 0) hx hb dX12_code_26 (by decide) ?_
      refine lv_istore_n (pc := 27) (lv' := [(3, .int (0 : Int32)), (0, .ref (ad 14)), (1, .int x1), (2, .int x2)]) hx hb dX12_code_27 rfl hl (by decide) rfl (fun ls hl => ?_)
      exact w_X12_code_L28 F (Nat.le_trans (by decide) hR1) (Nat.le_trans (by decide) hR2) _ (fun v0 v1 S h => ih v0 v1 S h) _ _ _ _ _ h _ _ _ w (lv_sub hl [1, 2, 3, 0] rfl)
set_option maxRecDepth 100000 in
set_option maxHeartbeats 4000000 in
theorem m_X12_code  (S S' : SS) (r : Int32) (h : f_X12_code  S = some (r, S')) : MT yX12_code cX12_code 6 (some .int) 1 22 (fun ad => [.ref (ad 14)]) S (some (.int r)) S' := by
  refine MT.of RX12 (fun ad => [(0, .ref (ad 14))]) (by decide) rfl (fun _ => Nat.le_of_ble_eq_true rfl) (fun _ => rfl) ?_
  intro p l e R s m args below meth c dC dI cs ad A hR1 hR2 F H locs ls w hl
  have hx := F.1.1
  have hb := F.1.2.1
  rw [f_X12_code] at h
  refine lv_aload_n (pc := 0) hx hb dX12_code_0 rfl (lv_at hl 0 rfl) ?_
  refine s_getR (pc := 1) F w 125 ds_14 (j := 86) vc_X12 vi_X12 rfl (by decide) kf_X12_192 dX12_code_1 ?_
  obtain ⟨r2, S1, hc, h⟩ := bnd_t h
  refine s_csi (pc := 4) [.ref (ad 125)] (fun ad => [.ref (ad 125)]) F w (m_X12_sumOf_Model_many  _ _ _ hc) rfl rfl hl.1 ok_X12_sumOf rfl kc_X12_sumOf kl_X12_459 ks_X12_sumOf kn_X12 ⟨Nat.le_trans (by decide) hR1, Nat.le_trans (by decide) hR2⟩ ⟨Nat.zero_le _, Nat.zero_le _⟩ (Nat.le_of_ble_eq_true rfl) dX12_code_4 (fun H locs w => ?_)
  refine lv_aload_n (pc := 7) hx hb dX12_code_7 rfl (lv_at hl 0 rfl) ?_
  refine s_getI (pc := 8) F w ds_14 (j := 81) vc_X12 vi_X12 rfl (by decide) kf_X12_466 dX12_code_8 ?_
  refine lv_icmp_eq (pc := 11) (tgt := 17) hx hb dX12_code_11 (by decide) (fun q => ?_) (fun q => ?_)
  · have h := ite_t q h
    refine lv_iconst (pc := 17) (v := 0) hx hb dX12_code_17 (by decide) ?_
    refine lv_istore_n (pc := 18) (lv' := [(1, .int (0 : Int32)), (0, .ref (ad 14))]) hx hb dX12_code_18 rfl hl (by decide) rfl (fun ls hl => ?_)
    refine lv_iconst (pc := 19) (v := 0) hx hb dX12_code_19 (by decide) ?_
    refine lv_istore_n (pc := 20) (lv' := [(2, .int (0 : Int32)), (1, .int (0 : Int32)), (0, .ref (ad 14))]) hx hb dX12_code_20 rfl hl (by decide) rfl (fun ls hl => ?_)
    exact w_X12_code_L21 F (Nat.le_trans (by decide) hR1) (Nat.le_trans (by decide) hR2) _ _ _ _ h _ _ _ w (lv_sub hl [2, 1, 0] rfl)
  · have h := ite_f q h
    refine lv_bipush (pc := 14) (v := -4) hx hb dX12_code_14 (by decide) ?_
    exact s_iret F w h dX12_code_16
def f_X12_decode_j188 (K154 : Int32 → Int32 → Int32 → Int32 → Int32 → Int32 → SS → Option (SS)) (x4 : Int32) (x5 : Int32) (x6 : Int32) (x7 : Int32) (x9 : Int32) (y0 : Int32) (y1 : Int32) (S : SS) : Option (SS) :=
    nm (y1 - y0) (fun z9 =>
    nm (x9 + (1 : Int32)) (fun z10 =>
    K154 x4 x5 x6 x7 z9 z10 S))
def f_X12_decode_j170 (K154 : Int32 → Int32 → Int32 → Int32 → Int32 → Int32 → SS → Option (SS)) (x4 : Int32) (x5 : Int32) (x6 : Int32) (x7 : Int32) (x8 : Int32) (x9 : Int32) (S : SS) : Option (SS) :=
    if ((x4 >>> (x9 &&& 31)) &&& (1 : Int32)) = (1 : Int32) then
      f_X12_decode_j188 K154 x4 x5 x6 x7 x9 (0 : Int32) x8 S
    else
      f_X12_decode_j188 K154 x4 x5 x6 x7 x9 (1 : Int32) x8 S
def f_X12_decode_L206 (K133 : Int32 → Int32 → Int32 → Int32 → SS → Option (SS)) : Nat → Int32 → Int32 → Int32 → Int32 → Int32 → SS → Option (SS)
  | 0, _, _, _, _, _, _ => none
  | n + 1, x4, x5, x6, x7, x9, S =>
    grd (inb x5 4) (
    if x6 = (S.1 125 x5.toNatClampNeg) then
      nm (x5 + (1 : Int32)) (fun z15 =>
      f_X12_decode_L206 K133 n x4 z15 (0 : Int32) x7 x9 S)
    else
      grd (inb x9 10) (
      grd (inb (((10 : Int32) * x5) + x6) 40) (wr S 124 (((10 : Int32) * x5) + x6).toNatClampNeg (S.1 121 x9.toNatClampNeg) (fun S12 =>
      nm (x6 + (1 : Int32)) (fun z13 =>
      nm (x7 + (1 : Int32)) (fun z14 =>
      K133 x4 x5 z13 z14 S12))))))
def f_X12_decode_L154 (K133 : Int32 → Int32 → Int32 → Int32 → SS → Option (SS)) : Nat → Int32 → Int32 → Int32 → Int32 → Int32 → Int32 → SS → Option (SS)
  | 0, _, _, _, _, _, _, _ => none
  | n + 1, x4, x5, x6, x7, x8, x9, S =>
    if ((x4 >>> (x9 &&& 31)) &&& (1 : Int32)) = (1 : Int32) then
      f_X12_decode_j170 (fun v0 v1 v2 v3 v4 v5 S => f_X12_decode_L154 K133 n v0 v1 v2 v3 v4 v5 S) x4 x5 x6 x7 x8 x9 S
    else
      if x8 ≤ 0 then
        nm (x4 ||| ((1 : Int32) <<< (x9 &&& 31))) (fun z11 =>
        f_X12_decode_L206 K133 NF z11 x5 x6 x7 x9 S)
      else
        f_X12_decode_j170 (fun v0 v1 v2 v3 v4 v5 S => f_X12_decode_L154 K133 n v0 v1 v2 v3 v4 v5 S) x4 x5 x6 x7 x8 x9 S
def f_X12_decode_L133  : Nat → Int32 → Int32 → Int32 → Int32 → SS → Option (SS)
  | 0, _, _, _, _, _ => none
  | n + 1, x4, x5, x6, x7, S =>
    if (S.1 14 81) ≤ x7 then
      some S
    else
      grd (inb x7 5) (
      nm (S.1 126 x7.toNatClampNeg) (fun z8 =>
      f_X12_decode_L154 (fun v0 v1 v2 v3 S => f_X12_decode_L133 n v0 v1 v2 v3 S) NF x4 x5 x6 x7 z8 (0 : Int32) S))
def f_X12_decode_L84  : Nat → Int32 → Int32 → SS → Option (SS)
  | 0, _, _, _ => none
  | n + 1, x3, x4, S =>
    if x4 < 0 then
      f_X12_decode_L133 NF (0 : Int32) (0 : Int32) (0 : Int32) (0 : Int32) S
    else
      grd (!(decide ((S.1 14 81) - x4 = 0))) (
      grd (inb x4 5) (wr S 126 x4.toNatClampNeg (x3 - x3 / ((S.1 14 81) - x4) * ((S.1 14 81) - x4)) (fun S16 =>
      grd (!(decide ((S16.1 14 81) - x4 = 0))) (
      nm (x3 / ((S16.1 14 81) - x4)) (fun z17 =>
      nm (x4 + (-1 : Int32)) (fun z18 =>
      f_X12_decode_L84 n z17 z18 S16))))))
def f_X12_decode (a1 : Int32) (S : SS) : Option (SS) :=
  nm (a1 - a1 / (216 : Int32) * (216 : Int32)) (fun z1 =>
  grd (inb (0 : Int32) 4) (wr S 125 (0 : Int32).toNatClampNeg (z1 / (36 : Int32)) (fun S2 =>
  grd (inb (1 : Int32) 4) (wr S2 125 (1 : Int32).toNatClampNeg ((z1 / (6 : Int32)) - (z1 / (6 : Int32)) / (6 : Int32) * (6 : Int32)) (fun S3 =>
  grd (inb (2 : Int32) 4) (wr S3 125 (2 : Int32).toNatClampNeg (z1 - z1 / (6 : Int32) * (6 : Int32)) (fun S4 =>
  grd (inb (0 : Int32) 4) (
  grd (inb (1 : Int32) 4) (
  grd (inb (2 : Int32) 4) (
  grd (inb (3 : Int32) 4) (wr S4 125 (3 : Int32).toNatClampNeg ((((S4.1 14 81) - (S4.1 125 (0 : Int32).toNatClampNeg)) - (S4.1 125 (1 : Int32).toNatClampNeg)) - (S4.1 125 (2 : Int32).toNatClampNeg)) (fun S5 =>
  nm (a1 / (216 : Int32)) (fun z6 =>
  nm ((S5.1 14 81) - (1 : Int32)) (fun z7 =>
  f_X12_decode_L84 NF z6 z7 S5))))))))))))))
theorem dX12_decode_0 : decode cX12_decode 0 = .ok (.iload_n 1, 1) := by decide +kernel
theorem dX12_decode_1 : decode cX12_decode 1 = .ok (.sipush 216, 3) := by decide +kernel
theorem dX12_decode_4 : decode cX12_decode 4 = .ok (.irem, 1) := by decide +kernel
theorem dX12_decode_5 : decode cX12_decode 5 = .ok (.istore_n 2, 1) := by decide +kernel
theorem dX12_decode_6 : decode cX12_decode 6 = .ok (.aload_n 0, 1) := by decide +kernel
theorem dX12_decode_7 : decode cX12_decode 7 = .ok (.getfield 192, 3) := by decide +kernel
theorem dX12_decode_10 : decode cX12_decode 10 = .ok (.iconst 0, 1) := by decide +kernel
theorem dX12_decode_11 : decode cX12_decode 11 = .ok (.iload_n 2, 1) := by decide +kernel
theorem dX12_decode_12 : decode cX12_decode 12 = .ok (.bipush 36, 2) := by decide +kernel
theorem dX12_decode_14 : decode cX12_decode 14 = .ok (.idiv, 1) := by decide +kernel
theorem dX12_decode_15 : decode cX12_decode 15 = .ok (.iastore, 1) := by decide +kernel
theorem dX12_decode_16 : decode cX12_decode 16 = .ok (.aload_n 0, 1) := by decide +kernel
theorem dX12_decode_17 : decode cX12_decode 17 = .ok (.getfield 192, 3) := by decide +kernel
theorem dX12_decode_20 : decode cX12_decode 20 = .ok (.iconst 1, 1) := by decide +kernel
theorem dX12_decode_21 : decode cX12_decode 21 = .ok (.iload_n 2, 1) := by decide +kernel
theorem dX12_decode_22 : decode cX12_decode 22 = .ok (.bipush 6, 2) := by decide +kernel
theorem dX12_decode_24 : decode cX12_decode 24 = .ok (.idiv, 1) := by decide +kernel
theorem dX12_decode_25 : decode cX12_decode 25 = .ok (.bipush 6, 2) := by decide +kernel
theorem dX12_decode_27 : decode cX12_decode 27 = .ok (.irem, 1) := by decide +kernel
theorem dX12_decode_28 : decode cX12_decode 28 = .ok (.iastore, 1) := by decide +kernel
theorem dX12_decode_29 : decode cX12_decode 29 = .ok (.aload_n 0, 1) := by decide +kernel
theorem dX12_decode_30 : decode cX12_decode 30 = .ok (.getfield 192, 3) := by decide +kernel
theorem dX12_decode_33 : decode cX12_decode 33 = .ok (.iconst 2, 1) := by decide +kernel
theorem dX12_decode_34 : decode cX12_decode 34 = .ok (.iload_n 2, 1) := by decide +kernel
theorem dX12_decode_35 : decode cX12_decode 35 = .ok (.bipush 6, 2) := by decide +kernel
theorem dX12_decode_37 : decode cX12_decode 37 = .ok (.irem, 1) := by decide +kernel
theorem dX12_decode_38 : decode cX12_decode 38 = .ok (.iastore, 1) := by decide +kernel
theorem dX12_decode_39 : decode cX12_decode 39 = .ok (.aload_n 0, 1) := by decide +kernel
theorem dX12_decode_40 : decode cX12_decode 40 = .ok (.getfield 192, 3) := by decide +kernel
theorem dX12_decode_43 : decode cX12_decode 43 = .ok (.iconst 3, 1) := by decide +kernel
theorem dX12_decode_44 : decode cX12_decode 44 = .ok (.aload_n 0, 1) := by decide +kernel
theorem dX12_decode_45 : decode cX12_decode 45 = .ok (.getfield 466, 3) := by decide +kernel
theorem dX12_decode_48 : decode cX12_decode 48 = .ok (.aload_n 0, 1) := by decide +kernel
theorem dX12_decode_49 : decode cX12_decode 49 = .ok (.getfield 192, 3) := by decide +kernel
theorem dX12_decode_52 : decode cX12_decode 52 = .ok (.iconst 0, 1) := by decide +kernel
theorem dX12_decode_53 : decode cX12_decode 53 = .ok (.iaload, 1) := by decide +kernel
theorem dX12_decode_54 : decode cX12_decode 54 = .ok (.isub, 1) := by decide +kernel
theorem dX12_decode_55 : decode cX12_decode 55 = .ok (.aload_n 0, 1) := by decide +kernel
theorem dX12_decode_56 : decode cX12_decode 56 = .ok (.getfield 192, 3) := by decide +kernel
theorem dX12_decode_59 : decode cX12_decode 59 = .ok (.iconst 1, 1) := by decide +kernel
theorem dX12_decode_60 : decode cX12_decode 60 = .ok (.iaload, 1) := by decide +kernel
theorem dX12_decode_61 : decode cX12_decode 61 = .ok (.isub, 1) := by decide +kernel
theorem dX12_decode_62 : decode cX12_decode 62 = .ok (.aload_n 0, 1) := by decide +kernel
theorem dX12_decode_63 : decode cX12_decode 63 = .ok (.getfield 192, 3) := by decide +kernel
theorem dX12_decode_66 : decode cX12_decode 66 = .ok (.iconst 2, 1) := by decide +kernel
theorem dX12_decode_67 : decode cX12_decode 67 = .ok (.iaload, 1) := by decide +kernel
theorem dX12_decode_68 : decode cX12_decode 68 = .ok (.isub, 1) := by decide +kernel
theorem dX12_decode_69 : decode cX12_decode 69 = .ok (.iastore, 1) := by decide +kernel
theorem dX12_decode_70 : decode cX12_decode 70 = .ok (.iload_n 1, 1) := by decide +kernel
theorem dX12_decode_71 : decode cX12_decode 71 = .ok (.sipush 216, 3) := by decide +kernel
theorem dX12_decode_74 : decode cX12_decode 74 = .ok (.idiv, 1) := by decide +kernel
theorem dX12_decode_75 : decode cX12_decode 75 = .ok (.istore_n 3, 1) := by decide +kernel
theorem dX12_decode_76 : decode cX12_decode 76 = .ok (.aload_n 0, 1) := by decide +kernel
theorem dX12_decode_77 : decode cX12_decode 77 = .ok (.getfield 466, 3) := by decide +kernel
theorem dX12_decode_80 : decode cX12_decode 80 = .ok (.iconst 1, 1) := by decide +kernel
theorem dX12_decode_81 : decode cX12_decode 81 = .ok (.isub, 1) := by decide +kernel
theorem dX12_decode_82 : decode cX12_decode 82 = .ok (.istore 4, 2) := by decide +kernel
theorem dX12_decode_84 : decode cX12_decode 84 = .ok (.iload 4, 2) := by decide +kernel
theorem dX12_decode_86 : decode cX12_decode 86 = .ok (.ifCond .lt 35, 3) := by decide +kernel
theorem dX12_decode_89 : decode cX12_decode 89 = .ok (.aload_n 0, 1) := by decide +kernel
theorem dX12_decode_90 : decode cX12_decode 90 = .ok (.getfield 195, 3) := by decide +kernel
theorem dX12_decode_93 : decode cX12_decode 93 = .ok (.iload 4, 2) := by decide +kernel
theorem dX12_decode_95 : decode cX12_decode 95 = .ok (.iload_n 3, 1) := by decide +kernel
theorem dX12_decode_96 : decode cX12_decode 96 = .ok (.aload_n 0, 1) := by decide +kernel
theorem dX12_decode_97 : decode cX12_decode 97 = .ok (.getfield 466, 3) := by decide +kernel
theorem dX12_decode_100 : decode cX12_decode 100 = .ok (.iload 4, 2) := by decide +kernel
theorem dX12_decode_102 : decode cX12_decode 102 = .ok (.isub, 1) := by decide +kernel
theorem dX12_decode_103 : decode cX12_decode 103 = .ok (.irem, 1) := by decide +kernel
theorem dX12_decode_104 : decode cX12_decode 104 = .ok (.iastore, 1) := by decide +kernel
theorem dX12_decode_105 : decode cX12_decode 105 = .ok (.iload_n 3, 1) := by decide +kernel
theorem dX12_decode_106 : decode cX12_decode 106 = .ok (.aload_n 0, 1) := by decide +kernel
theorem dX12_decode_107 : decode cX12_decode 107 = .ok (.getfield 466, 3) := by decide +kernel
theorem dX12_decode_110 : decode cX12_decode 110 = .ok (.iload 4, 2) := by decide +kernel
theorem dX12_decode_112 : decode cX12_decode 112 = .ok (.isub, 1) := by decide +kernel
theorem dX12_decode_113 : decode cX12_decode 113 = .ok (.idiv, 1) := by decide +kernel
theorem dX12_decode_114 : decode cX12_decode 114 = .ok (.istore_n 3, 1) := by decide +kernel
theorem dX12_decode_115 : decode cX12_decode 115 = .ok (.iinc 4 (-1), 3) := by decide +kernel
theorem dX12_decode_118 : decode cX12_decode 118 = .ok (.goto (-34), 3) := by decide +kernel
theorem dX12_decode_121 : decode cX12_decode 121 = .ok (.iconst 0, 1) := by decide +kernel
theorem dX12_decode_122 : decode cX12_decode 122 = .ok (.istore 4, 2) := by decide +kernel
theorem dX12_decode_124 : decode cX12_decode 124 = .ok (.iconst 0, 1) := by decide +kernel
theorem dX12_decode_125 : decode cX12_decode 125 = .ok (.istore 5, 2) := by decide +kernel
theorem dX12_decode_127 : decode cX12_decode 127 = .ok (.iconst 0, 1) := by decide +kernel
theorem dX12_decode_128 : decode cX12_decode 128 = .ok (.istore 6, 2) := by decide +kernel
theorem dX12_decode_130 : decode cX12_decode 130 = .ok (.iconst 0, 1) := by decide +kernel
theorem dX12_decode_131 : decode cX12_decode 131 = .ok (.istore 7, 2) := by decide +kernel
theorem dX12_decode_133 : decode cX12_decode 133 = .ok (.iload 7, 2) := by decide +kernel
theorem dX12_decode_135 : decode cX12_decode 135 = .ok (.aload_n 0, 1) := by decide +kernel
theorem dX12_decode_136 : decode cX12_decode 136 = .ok (.getfield 466, 3) := by decide +kernel
theorem dX12_decode_139 : decode cX12_decode 139 = .ok (.if_icmp .ge 117, 3) := by decide +kernel
theorem dX12_decode_142 : decode cX12_decode 142 = .ok (.aload_n 0, 1) := by decide +kernel
theorem dX12_decode_143 : decode cX12_decode 143 = .ok (.getfield 195, 3) := by decide +kernel
theorem dX12_decode_146 : decode cX12_decode 146 = .ok (.iload 7, 2) := by decide +kernel
theorem dX12_decode_148 : decode cX12_decode 148 = .ok (.iaload, 1) := by decide +kernel
theorem dX12_decode_149 : decode cX12_decode 149 = .ok (.istore 8, 2) := by decide +kernel
theorem dX12_decode_151 : decode cX12_decode 151 = .ok (.iconst 0, 1) := by decide +kernel
theorem dX12_decode_152 : decode cX12_decode 152 = .ok (.istore 9, 2) := by decide +kernel
theorem dX12_decode_154 : decode cX12_decode 154 = .ok (.iload 4, 2) := by decide +kernel
theorem dX12_decode_156 : decode cX12_decode 156 = .ok (.iload 9, 2) := by decide +kernel
theorem dX12_decode_158 : decode cX12_decode 158 = .ok (.ishr, 1) := by decide +kernel
theorem dX12_decode_159 : decode cX12_decode 159 = .ok (.iconst 1, 1) := by decide +kernel
theorem dX12_decode_160 : decode cX12_decode 160 = .ok (.iand, 1) := by decide +kernel
theorem dX12_decode_161 : decode cX12_decode 161 = .ok (.iconst 1, 1) := by decide +kernel
theorem dX12_decode_162 : decode cX12_decode 162 = .ok (.if_icmp .eq 8, 3) := by decide +kernel
theorem dX12_decode_165 : decode cX12_decode 165 = .ok (.iload 8, 2) := by decide +kernel
theorem dX12_decode_167 : decode cX12_decode 167 = .ok (.ifCond .le 30, 3) := by decide +kernel
theorem dX12_decode_170 : decode cX12_decode 170 = .ok (.iload 8, 2) := by decide +kernel
theorem dX12_decode_172 : decode cX12_decode 172 = .ok (.iload 4, 2) := by decide +kernel
theorem dX12_decode_174 : decode cX12_decode 174 = .ok (.iload 9, 2) := by decide +kernel
theorem dX12_decode_176 : decode cX12_decode 176 = .ok (.ishr, 1) := by decide +kernel
theorem dX12_decode_177 : decode cX12_decode 177 = .ok (.iconst 1, 1) := by decide +kernel
theorem dX12_decode_178 : decode cX12_decode 178 = .ok (.iand, 1) := by decide +kernel
theorem dX12_decode_179 : decode cX12_decode 179 = .ok (.iconst 1, 1) := by decide +kernel
theorem dX12_decode_180 : decode cX12_decode 180 = .ok (.if_icmp .ne 7, 3) := by decide +kernel
theorem dX12_decode_183 : decode cX12_decode 183 = .ok (.iconst 0, 1) := by decide +kernel
theorem dX12_decode_184 : decode cX12_decode 184 = .ok (.goto 4, 3) := by decide +kernel
theorem dX12_decode_187 : decode cX12_decode 187 = .ok (.iconst 1, 1) := by decide +kernel
theorem dX12_decode_188 : decode cX12_decode 188 = .ok (.isub, 1) := by decide +kernel
theorem dX12_decode_189 : decode cX12_decode 189 = .ok (.istore 8, 2) := by decide +kernel
theorem dX12_decode_191 : decode cX12_decode 191 = .ok (.iinc 9 1, 3) := by decide +kernel
theorem dX12_decode_194 : decode cX12_decode 194 = .ok (.goto (-40), 3) := by decide +kernel
theorem dX12_decode_197 : decode cX12_decode 197 = .ok (.iload 4, 2) := by decide +kernel
theorem dX12_decode_199 : decode cX12_decode 199 = .ok (.iconst 1, 1) := by decide +kernel
theorem dX12_decode_200 : decode cX12_decode 200 = .ok (.iload 9, 2) := by decide +kernel
theorem dX12_decode_202 : decode cX12_decode 202 = .ok (.ishl, 1) := by decide +kernel
theorem dX12_decode_203 : decode cX12_decode 203 = .ok (.ior, 1) := by decide +kernel
theorem dX12_decode_204 : decode cX12_decode 204 = .ok (.istore 4, 2) := by decide +kernel
theorem dX12_decode_206 : decode cX12_decode 206 = .ok (.iload 6, 2) := by decide +kernel
theorem dX12_decode_208 : decode cX12_decode 208 = .ok (.aload_n 0, 1) := by decide +kernel
theorem dX12_decode_209 : decode cX12_decode 209 = .ok (.getfield 192, 3) := by decide +kernel
theorem dX12_decode_212 : decode cX12_decode 212 = .ok (.iload 5, 2) := by decide +kernel
theorem dX12_decode_214 : decode cX12_decode 214 = .ok (.iaload, 1) := by decide +kernel
theorem dX12_decode_215 : decode cX12_decode 215 = .ok (.if_icmp .ne 12, 3) := by decide +kernel
theorem dX12_decode_218 : decode cX12_decode 218 = .ok (.iinc 5 1, 3) := by decide +kernel
theorem dX12_decode_221 : decode cX12_decode 221 = .ok (.iconst 0, 1) := by decide +kernel
theorem dX12_decode_222 : decode cX12_decode 222 = .ok (.istore 6, 2) := by decide +kernel
theorem dX12_decode_224 : decode cX12_decode 224 = .ok (.goto (-18), 3) := by decide +kernel
theorem dX12_decode_227 : decode cX12_decode 227 = .ok (.aload_n 0, 1) := by decide +kernel
theorem dX12_decode_228 : decode cX12_decode 228 = .ok (.getfield 189, 3) := by decide +kernel
theorem dX12_decode_231 : decode cX12_decode 231 = .ok (.bipush 10, 2) := by decide +kernel
theorem dX12_decode_233 : decode cX12_decode 233 = .ok (.iload 5, 2) := by decide +kernel
theorem dX12_decode_235 : decode cX12_decode 235 = .ok (.imul, 1) := by decide +kernel
theorem dX12_decode_236 : decode cX12_decode 236 = .ok (.iload 6, 2) := by decide +kernel
theorem dX12_decode_238 : decode cX12_decode 238 = .ok (.iadd, 1) := by decide +kernel
theorem dX12_decode_239 : decode cX12_decode 239 = .ok (.aload_n 0, 1) := by decide +kernel
theorem dX12_decode_240 : decode cX12_decode 240 = .ok (.getfield 180, 3) := by decide +kernel
theorem dX12_decode_243 : decode cX12_decode 243 = .ok (.iload 9, 2) := by decide +kernel
theorem dX12_decode_245 : decode cX12_decode 245 = .ok (.iaload, 1) := by decide +kernel
theorem dX12_decode_246 : decode cX12_decode 246 = .ok (.iastore, 1) := by decide +kernel
theorem dX12_decode_247 : decode cX12_decode 247 = .ok (.iinc 6 1, 3) := by decide +kernel
theorem dX12_decode_250 : decode cX12_decode 250 = .ok (.iinc 7 1, 3) := by decide +kernel
theorem dX12_decode_253 : decode cX12_decode 253 = .ok (.goto (-120), 3) := by decide +kernel
theorem dX12_decode_256 : decode cX12_decode 256 = .ok (.return_, 1) := by decide +kernel
set_option maxRecDepth 100000 in
set_option maxHeartbeats 4000000 in
theorem w_X12_decode_j188 {p : Program} {l : Launch} {e : Env} {R : Room} {s : State} {m : MethodId} {args : Array Value} {below : List Frame} {meth : Method} {c : Code} {dC : Nat → ClassId} {dI : Nat → Nat → Nat} {cs : Nat → ClassId} {ad : Nat → Nat} {A : Nat → Prop} {D0 : Nat → Nat} {S' : SS} (F : Fx p s m args meth c cX12_decode 10 RX12 none dC dI cs A) (hR1 : 0 ≤ R.frames) (hR2 : 0 ≤ R.locals) (K154 : Int32 → Int32 → Int32 → Int32 → Int32 → Int32 → SS → Option (SS)) (hK154 : ∀ (v0 : Int32) (v1 : Int32) (v2 : Int32) (v3 : Int32) (v4 : Int32) (v5 : Int32) (S : SS), K154 v0 v1 v2 v3 v4 v5 S = some S' → AW p l e R s m args below meth c dC dI cs ad A D0 none S' 10 154 [(0, .ref (ad 14)), (4, .int v0), (5, .int v1), (6, .int v2), (7, .int v3), (8, .int v4), (9, .int v5)] [] S) (x4 : Int32) (x5 : Int32) (x6 : Int32) (x7 : Int32) (x9 : Int32) (y0 : Int32) (y1 : Int32) (S : SS) (h : f_X12_decode_j188 K154 x4 x5 x6 x7 x9 y0 y1 S = some S') : AW p l e R s m args below meth c dC dI cs ad A D0 none S' 10 188 [(0, .ref (ad 14)), (4, .int x4), (5, .int x5), (6, .int x6), (7, .int x7), (9, .int x9)] [.int y0, .int y1] S := by
  have hx := F.1.1
  have hb := F.1.2.1
  intro H locs ls w hl
  rw [f_X12_decode_j188] at h
  refine lv_isub (pc := 188) hx hb dX12_decode_188 ?_
  refine s_nm h (fun z9 ez9 h => ?_)
  rw [← ez9]
  refine lv_istore (pc := 189) (lv' := [(8, .int z9), (0, .ref (ad 14)), (4, .int x4), (5, .int x5), (6, .int x6), (7, .int x7), (9, .int x9)]) hx hb dX12_decode_189 hl (by decide) rfl (fun ls hl => ?_)
  refine s_nm h (fun z10 ez10 h => ?_)
  refine lv_iinc (pc := 191) (v := z10) (lv' := [(9, .int z10), (8, .int z9), (0, .ref (ad 14)), (4, .int x4), (5, .int x5), (6, .int x6), (7, .int x7)]) hx hb dX12_decode_191 hl (k := 6) rfl (by rw [ez10]; rfl) (by decide) rfl (fun ls hl => ?_)
  refine lv_goto (pc := 194) (tgt := 154) hx hb dX12_decode_194 (by decide) ?_
  exact hK154 _ _ _ _ _ _ _ h _ _ _ w (lv_sub hl [2, 3, 4, 5, 6, 1, 0] rfl)
set_option maxRecDepth 100000 in
set_option maxHeartbeats 4000000 in
theorem w_X12_decode_j170 {p : Program} {l : Launch} {e : Env} {R : Room} {s : State} {m : MethodId} {args : Array Value} {below : List Frame} {meth : Method} {c : Code} {dC : Nat → ClassId} {dI : Nat → Nat → Nat} {cs : Nat → ClassId} {ad : Nat → Nat} {A : Nat → Prop} {D0 : Nat → Nat} {S' : SS} (F : Fx p s m args meth c cX12_decode 10 RX12 none dC dI cs A) (hR1 : 0 ≤ R.frames) (hR2 : 0 ≤ R.locals) (K154 : Int32 → Int32 → Int32 → Int32 → Int32 → Int32 → SS → Option (SS)) (hK154 : ∀ (v0 : Int32) (v1 : Int32) (v2 : Int32) (v3 : Int32) (v4 : Int32) (v5 : Int32) (S : SS), K154 v0 v1 v2 v3 v4 v5 S = some S' → AW p l e R s m args below meth c dC dI cs ad A D0 none S' 10 154 [(0, .ref (ad 14)), (4, .int v0), (5, .int v1), (6, .int v2), (7, .int v3), (8, .int v4), (9, .int v5)] [] S) (x4 : Int32) (x5 : Int32) (x6 : Int32) (x7 : Int32) (x8 : Int32) (x9 : Int32) (S : SS) (h : f_X12_decode_j170 K154 x4 x5 x6 x7 x8 x9 S = some S') : AW p l e R s m args below meth c dC dI cs ad A D0 none S' 10 170 [(0, .ref (ad 14)), (4, .int x4), (5, .int x5), (6, .int x6), (7, .int x7), (8, .int x8), (9, .int x9)] [] S := by
  have hx := F.1.1
  have hb := F.1.2.1
  intro H locs ls w hl
  rw [f_X12_decode_j170] at h
  refine lv_iload (pc := 170) hx hb dX12_decode_170 (lv_at hl 5 rfl) ?_
  refine lv_iload (pc := 172) hx hb dX12_decode_172 (lv_at hl 1 rfl) ?_
  refine lv_iload (pc := 174) hx hb dX12_decode_174 (lv_at hl 6 rfl) ?_
  refine lv_ishr (pc := 176) hx hb dX12_decode_176 ?_
  refine lv_iconst (pc := 177) (v := 1) hx hb dX12_decode_177 (by decide) ?_
  refine lv_iand (pc := 178) hx hb dX12_decode_178 ?_
  refine lv_iconst (pc := 179) (v := 1) hx hb dX12_decode_179 (by decide) ?_
  refine lv_icmp_ne (pc := 180) (tgt := 187) hx hb dX12_decode_180 (by decide) (fun q => ?_) (fun q => ?_)
  · have h := ite_f q h
    refine lv_iconst (pc := 187) (v := 1) hx hb dX12_decode_187 (by decide) ?_
    exact w_X12_decode_j188 F (Nat.le_trans (by decide) hR1) (Nat.le_trans (by decide) hR2) _ hK154 _ _ _ _ _ _ _ _ h _ _ _ w (lv_sub hl [0, 1, 2, 3, 4, 6] rfl)
  · have h := ite_t q h
    refine lv_iconst (pc := 183) (v := 0) hx hb dX12_decode_183 (by decide) ?_
    refine lv_goto (pc := 184) (tgt := 188) hx hb dX12_decode_184 (by decide) ?_
    exact w_X12_decode_j188 F (Nat.le_trans (by decide) hR1) (Nat.le_trans (by decide) hR2) _ hK154 _ _ _ _ _ _ _ _ h _ _ _ w (lv_sub hl [0, 1, 2, 3, 4, 6] rfl)
set_option maxRecDepth 100000 in
set_option maxHeartbeats 4000000 in
theorem w_X12_decode_L206 {p : Program} {l : Launch} {e : Env} {R : Room} {s : State} {m : MethodId} {args : Array Value} {below : List Frame} {meth : Method} {c : Code} {dC : Nat → ClassId} {dI : Nat → Nat → Nat} {cs : Nat → ClassId} {ad : Nat → Nat} {A : Nat → Prop} {D0 : Nat → Nat} {S' : SS} (F : Fx p s m args meth c cX12_decode 10 RX12 none dC dI cs A) (hR1 : 0 ≤ R.frames) (hR2 : 0 ≤ R.locals) (K133 : Int32 → Int32 → Int32 → Int32 → SS → Option (SS)) (hK133 : ∀ (v0 : Int32) (v1 : Int32) (v2 : Int32) (v3 : Int32) (S : SS), K133 v0 v1 v2 v3 S = some S' → AW p l e R s m args below meth c dC dI cs ad A D0 none S' 10 133 [(0, .ref (ad 14)), (4, .int v0), (5, .int v1), (6, .int v2), (7, .int v3)] [] S) : ∀ (n : Nat) (x4 : Int32) (x5 : Int32) (x6 : Int32) (x7 : Int32) (x9 : Int32) (S : SS), f_X12_decode_L206 K133 n x4 x5 x6 x7 x9 S = some S' → AW p l e R s m args below meth c dC dI cs ad A D0 none S' 10 206 [(0, .ref (ad 14)), (4, .int x4), (5, .int x5), (6, .int x6), (7, .int x7), (9, .int x9)] [] S := by
  have hx := F.1.1
  have hb := F.1.2.1
  intro n
  induction n with
  | zero => intro x4 x5 x6 x7 x9 S h; cases h
  | succ n ih =>
    intro x4 x5 x6 x7 x9 S h H locs ls w hl
    rw [f_X12_decode_L206] at h
    refine lv_iload (pc := 206) hx hb dX12_decode_206 (lv_at hl 3 rfl) ?_
    refine lv_aload_n (pc := 208) hx hb dX12_decode_208 rfl (lv_at hl 0 rfl) ?_
    refine s_getR (pc := 209) F w 125 ds_14 (j := 86) vc_X12 vi_X12 rfl (by decide) kf_X12_192 dX12_decode_209 ?_
    refine lv_iload (pc := 212) hx hb dX12_decode_212 (lv_at hl 2 rfl) ?_
    refine s_iald (pc := 214) F w ds_125 h dX12_decode_214 (fun h => ?_)
    refine lv_icmp_ne (pc := 215) (tgt := 227) hx hb dX12_decode_215 (by decide) (fun q => ?_) (fun q => ?_)
    · have h := ite_f q h
      refine lv_aload_n (pc := 227) hx hb dX12_decode_227 rfl (lv_at hl 0 rfl) ?_
      refine s_getR (pc := 228) F w 124 ds_14 (j := 85) vc_X12 vi_X12 rfl (by decide) kf_X12_189 dX12_decode_228 ?_
      refine lv_bipush (pc := 231) (v := 10) hx hb dX12_decode_231 (by decide) ?_
      refine lv_iload (pc := 233) hx hb dX12_decode_233 (lv_at hl 2 rfl) ?_
      refine lv_imul (pc := 235) hx hb dX12_decode_235 ?_
      refine lv_iload (pc := 236) hx hb dX12_decode_236 (lv_at hl 3 rfl) ?_
      refine lv_iadd (pc := 238) hx hb dX12_decode_238 ?_
      refine lv_aload_n (pc := 239) hx hb dX12_decode_239 rfl (lv_at hl 0 rfl) ?_
      refine s_getR (pc := 240) F w 121 ds_14 (j := 82) vc_X12 vi_X12 rfl (by decide) kf_X12_180 dX12_decode_240 ?_
      refine lv_iload (pc := 243) hx hb dX12_decode_243 (lv_at hl 5 rfl) ?_
      refine s_iald (pc := 245) F w ds_121 h dX12_decode_245 (fun h => ?_)
      refine s_iast (pc := 246) F w ds_124 h dX12_decode_246 (fun S12 H locs h w => ?_)
      refine s_nm h (fun z13 ez13 h => ?_)
      refine lv_iinc (pc := 247) (v := z13) (lv' := [(6, .int z13), (0, .ref (ad 14)), (4, .int x4), (5, .int x5), (7, .int x7), (9, .int x9)]) hx hb dX12_decode_247 hl (k := 3) rfl (by rw [ez13]; rfl) (by decide) rfl (fun ls hl => ?_)
      refine s_nm h (fun z14 ez14 h => ?_)
      refine lv_iinc (pc := 250) (v := z14) (lv' := [(7, .int z14), (6, .int z13), (0, .ref (ad 14)), (4, .int x4), (5, .int x5), (9, .int x9)]) hx hb dX12_decode_250 hl (k := 4) rfl (by rw [ez14]; rfl) (by decide) rfl (fun ls hl => ?_)
      refine lv_goto (pc := 253) (tgt := 133) hx hb dX12_decode_253 (by decide) ?_
      exact hK133 _ _ _ _ _ h _ _ _ w (lv_sub hl [2, 3, 4, 1, 0] rfl)
    · have h := ite_t q h
      refine s_nm h (fun z15 ez15 h => ?_)
      refine lv_iinc (pc := 218) (v := z15) (lv' := [(5, .int z15), (0, .ref (ad 14)), (4, .int x4), (6, .int x6), (7, .int x7), (9, .int x9)]) hx hb dX12_decode_218 hl (k := 2) rfl (by rw [ez15]; rfl) (by decide) rfl (fun ls hl => ?_)
      refine lv_iconst (pc := 221) (v := 0) hx hb dX12_decode_221 (by decide) ?_
      refine lv_istore (pc := 222) (lv' := [(6, .int (0 : Int32)), (5, .int z15), (0, .ref (ad 14)), (4, .int x4), (7, .int x7), (9, .int x9)]) hx hb dX12_decode_222 hl (by decide) rfl (fun ls hl => ?_)
      refine lv_goto (pc := 224) (tgt := 206) hx hb dX12_decode_224 (by decide) ?_
      exact ih _ _ _ _ _ _ h _ _ _ w (lv_sub hl [2, 3, 1, 0, 4, 5] rfl)
set_option maxRecDepth 100000 in
set_option maxHeartbeats 4000000 in
theorem w_X12_decode_L154 {p : Program} {l : Launch} {e : Env} {R : Room} {s : State} {m : MethodId} {args : Array Value} {below : List Frame} {meth : Method} {c : Code} {dC : Nat → ClassId} {dI : Nat → Nat → Nat} {cs : Nat → ClassId} {ad : Nat → Nat} {A : Nat → Prop} {D0 : Nat → Nat} {S' : SS} (F : Fx p s m args meth c cX12_decode 10 RX12 none dC dI cs A) (hR1 : 0 ≤ R.frames) (hR2 : 0 ≤ R.locals) (K133 : Int32 → Int32 → Int32 → Int32 → SS → Option (SS)) (hK133 : ∀ (v0 : Int32) (v1 : Int32) (v2 : Int32) (v3 : Int32) (S : SS), K133 v0 v1 v2 v3 S = some S' → AW p l e R s m args below meth c dC dI cs ad A D0 none S' 10 133 [(0, .ref (ad 14)), (4, .int v0), (5, .int v1), (6, .int v2), (7, .int v3)] [] S) : ∀ (n : Nat) (x4 : Int32) (x5 : Int32) (x6 : Int32) (x7 : Int32) (x8 : Int32) (x9 : Int32) (S : SS), f_X12_decode_L154 K133 n x4 x5 x6 x7 x8 x9 S = some S' → AW p l e R s m args below meth c dC dI cs ad A D0 none S' 10 154 [(0, .ref (ad 14)), (4, .int x4), (5, .int x5), (6, .int x6), (7, .int x7), (8, .int x8), (9, .int x9)] [] S := by
  have hx := F.1.1
  have hb := F.1.2.1
  intro n
  induction n with
  | zero => intro x4 x5 x6 x7 x8 x9 S h; cases h
  | succ n ih =>
    intro x4 x5 x6 x7 x8 x9 S h H locs ls w hl
    rw [f_X12_decode_L154] at h
    refine lv_iload (pc := 154) hx hb dX12_decode_154 (lv_at hl 1 rfl) ?_
    refine lv_iload (pc := 156) hx hb dX12_decode_156 (lv_at hl 6 rfl) ?_
    refine lv_ishr (pc := 158) hx hb dX12_decode_158 ?_
    refine lv_iconst (pc := 159) (v := 1) hx hb dX12_decode_159 (by decide) ?_
    refine lv_iand (pc := 160) hx hb dX12_decode_160 ?_
    refine lv_iconst (pc := 161) (v := 1) hx hb dX12_decode_161 (by decide) ?_
    refine lv_icmp_eq (pc := 162) (tgt := 170) hx hb dX12_decode_162 (by decide) (fun q => ?_) (fun q => ?_)
    · have h := ite_t q h
      exact w_X12_decode_j170 F (Nat.le_trans (by decide) hR1) (Nat.le_trans (by decide) hR2) _ (fun v0 v1 v2 v3 v4 v5 S h => ih v0 v1 v2 v3 v4 v5 S h) _ _ _ _ _ _ _ h _ _ _ w (lv_sub hl [0, 1, 2, 3, 4, 5, 6] rfl)
    · have h := ite_f q h
      refine lv_iload (pc := 165) hx hb dX12_decode_165 (lv_at hl 5 rfl) ?_
      refine lv_if_le (pc := 167) (tgt := 197) hx hb dX12_decode_167 (by decide) (fun q => ?_) (fun q => ?_)
      · have h := ite_t q h
        refine lv_iload (pc := 197) hx hb dX12_decode_197 (lv_at hl 1 rfl) ?_
        refine lv_iconst (pc := 199) (v := 1) hx hb dX12_decode_199 (by decide) ?_
        refine lv_iload (pc := 200) hx hb dX12_decode_200 (lv_at hl 6 rfl) ?_
        refine lv_ishl (pc := 202) hx hb dX12_decode_202 ?_
        refine lv_ior (pc := 203) hx hb dX12_decode_203 ?_
        refine s_nm h (fun z11 ez11 h => ?_)
        rw [← ez11]
        refine lv_istore (pc := 204) (lv' := [(4, .int z11), (0, .ref (ad 14)), (5, .int x5), (6, .int x6), (7, .int x7), (8, .int x8), (9, .int x9)]) hx hb dX12_decode_204 hl (by decide) rfl (fun ls hl => ?_)
        exact w_X12_decode_L206 F (Nat.le_trans (by decide) hR1) (Nat.le_trans (by decide) hR2) _ hK133 _ _ _ _ _ _ _ h _ _ _ w (lv_sub hl [1, 0, 2, 3, 4, 6] rfl)
      · have h := ite_f q h
        exact w_X12_decode_j170 F (Nat.le_trans (by decide) hR1) (Nat.le_trans (by decide) hR2) _ (fun v0 v1 v2 v3 v4 v5 S h => ih v0 v1 v2 v3 v4 v5 S h) _ _ _ _ _ _ _ h _ _ _ w (lv_sub hl [0, 1, 2, 3, 4, 5, 6] rfl)
set_option maxRecDepth 100000 in
set_option maxHeartbeats 4000000 in
theorem w_X12_decode_L133 {p : Program} {l : Launch} {e : Env} {R : Room} {s : State} {m : MethodId} {args : Array Value} {below : List Frame} {meth : Method} {c : Code} {dC : Nat → ClassId} {dI : Nat → Nat → Nat} {cs : Nat → ClassId} {ad : Nat → Nat} {A : Nat → Prop} {D0 : Nat → Nat} {S' : SS} (F : Fx p s m args meth c cX12_decode 10 RX12 none dC dI cs A) (hR1 : 0 ≤ R.frames) (hR2 : 0 ≤ R.locals) : ∀ (n : Nat) (x4 : Int32) (x5 : Int32) (x6 : Int32) (x7 : Int32) (S : SS), f_X12_decode_L133 n x4 x5 x6 x7 S = some S' → AW p l e R s m args below meth c dC dI cs ad A D0 none S' 10 133 [(0, .ref (ad 14)), (4, .int x4), (5, .int x5), (6, .int x6), (7, .int x7)] [] S := by
  have hx := F.1.1
  have hb := F.1.2.1
  intro n
  induction n with
  | zero => intro x4 x5 x6 x7 S h; cases h
  | succ n ih =>
    intro x4 x5 x6 x7 S h H locs ls w hl
    rw [f_X12_decode_L133] at h
    refine lv_iload (pc := 133) hx hb dX12_decode_133 (lv_at hl 4 rfl) ?_
    refine lv_aload_n (pc := 135) hx hb dX12_decode_135 rfl (lv_at hl 0 rfl) ?_
    refine s_getI (pc := 136) F w ds_14 (j := 81) vc_X12 vi_X12 rfl (by decide) kf_X12_466 dX12_decode_136 ?_
    refine lv_icmp_ge (pc := 139) (tgt := 256) hx hb dX12_decode_139 (by decide) (fun q => ?_) (fun q => ?_)
    · have h := ite_t q h
      exact s_vret F w h dX12_decode_256
    · have h := ite_f q h
      refine lv_aload_n (pc := 142) hx hb dX12_decode_142 rfl (lv_at hl 0 rfl) ?_
      refine s_getR (pc := 143) F w 126 ds_14 (j := 87) vc_X12 vi_X12 rfl (by decide) kf_X12_195 dX12_decode_143 ?_
      refine lv_iload (pc := 146) hx hb dX12_decode_146 (lv_at hl 4 rfl) ?_
      refine s_iald (pc := 148) F w ds_126 h dX12_decode_148 (fun h => ?_)
      refine s_nm h (fun z8 ez8 h => ?_)
      rw [← ez8]
      refine lv_istore (pc := 149) (lv' := [(8, .int z8), (0, .ref (ad 14)), (4, .int x4), (5, .int x5), (6, .int x6), (7, .int x7)]) hx hb dX12_decode_149 hl (by decide) rfl (fun ls hl => ?_)
      refine lv_iconst (pc := 151) (v := 0) hx hb dX12_decode_151 (by decide) ?_
      refine lv_istore (pc := 152) (lv' := [(9, .int (0 : Int32)), (8, .int z8), (0, .ref (ad 14)), (4, .int x4), (5, .int x5), (6, .int x6), (7, .int x7)]) hx hb dX12_decode_152 hl (by decide) rfl (fun ls hl => ?_)
      exact w_X12_decode_L154 F (Nat.le_trans (by decide) hR1) (Nat.le_trans (by decide) hR2) _ (fun v0 v1 v2 v3 S h => ih v0 v1 v2 v3 S h) _ _ _ _ _ _ _ _ h _ _ _ w (lv_sub hl [2, 3, 4, 5, 6, 1, 0] rfl)
set_option maxRecDepth 100000 in
set_option maxHeartbeats 4000000 in
theorem w_X12_decode_L84 {p : Program} {l : Launch} {e : Env} {R : Room} {s : State} {m : MethodId} {args : Array Value} {below : List Frame} {meth : Method} {c : Code} {dC : Nat → ClassId} {dI : Nat → Nat → Nat} {cs : Nat → ClassId} {ad : Nat → Nat} {A : Nat → Prop} {D0 : Nat → Nat} {S' : SS} (F : Fx p s m args meth c cX12_decode 10 RX12 none dC dI cs A) (hR1 : 0 ≤ R.frames) (hR2 : 0 ≤ R.locals) : ∀ (n : Nat) (x3 : Int32) (x4 : Int32) (S : SS), f_X12_decode_L84 n x3 x4 S = some S' → AW p l e R s m args below meth c dC dI cs ad A D0 none S' 10 84 [(0, .ref (ad 14)), (3, .int x3), (4, .int x4)] [] S := by
  have hx := F.1.1
  have hb := F.1.2.1
  intro n
  induction n with
  | zero => intro x3 x4 S h; cases h
  | succ n ih =>
    intro x3 x4 S h H locs ls w hl
    rw [f_X12_decode_L84] at h
    refine lv_iload (pc := 84) hx hb dX12_decode_84 (lv_at hl 2 rfl) ?_
    refine lv_if_lt (pc := 86) (tgt := 121) hx hb dX12_decode_86 (by decide) (fun q => ?_) (fun q => ?_)
    · have h := ite_t q h
      refine lv_iconst (pc := 121) (v := 0) hx hb dX12_decode_121 (by decide) ?_
      refine lv_istore (pc := 122) (lv' := [(4, .int (0 : Int32)), (0, .ref (ad 14)), (3, .int x3)]) hx hb dX12_decode_122 hl (by decide) rfl (fun ls hl => ?_)
      refine lv_iconst (pc := 124) (v := 0) hx hb dX12_decode_124 (by decide) ?_
      refine lv_istore (pc := 125) (lv' := [(5, .int (0 : Int32)), (4, .int (0 : Int32)), (0, .ref (ad 14)), (3, .int x3)]) hx hb dX12_decode_125 hl (by decide) rfl (fun ls hl => ?_)
      refine lv_iconst (pc := 127) (v := 0) hx hb dX12_decode_127 (by decide) ?_
      refine lv_istore (pc := 128) (lv' := [(6, .int (0 : Int32)), (5, .int (0 : Int32)), (4, .int (0 : Int32)), (0, .ref (ad 14)), (3, .int x3)]) hx hb dX12_decode_128 hl (by decide) rfl (fun ls hl => ?_)
      refine lv_iconst (pc := 130) (v := 0) hx hb dX12_decode_130 (by decide) ?_
      refine lv_istore (pc := 131) (lv' := [(7, .int (0 : Int32)), (6, .int (0 : Int32)), (5, .int (0 : Int32)), (4, .int (0 : Int32)), (0, .ref (ad 14)), (3, .int x3)]) hx hb dX12_decode_131 hl (by decide) rfl (fun ls hl => ?_)
      exact w_X12_decode_L133 F (Nat.le_trans (by decide) hR1) (Nat.le_trans (by decide) hR2) _ _ _ _ _ _ h _ _ _ w (lv_sub hl [4, 3, 2, 1, 0] rfl)
    · have h := ite_f q h
      refine lv_aload_n (pc := 89) hx hb dX12_decode_89 rfl (lv_at hl 0 rfl) ?_
      refine s_getR (pc := 90) F w 126 ds_14 (j := 87) vc_X12 vi_X12 rfl (by decide) kf_X12_195 dX12_decode_90 ?_
      refine lv_iload (pc := 93) hx hb dX12_decode_93 (lv_at hl 2 rfl) ?_
      refine lv_iload_n (pc := 95) hx hb dX12_decode_95 rfl (lv_at hl 1 rfl) ?_
      refine lv_aload_n (pc := 96) hx hb dX12_decode_96 rfl (lv_at hl 0 rfl) ?_
      refine s_getI (pc := 97) F w ds_14 (j := 81) vc_X12 vi_X12 rfl (by decide) kf_X12_466 dX12_decode_97 ?_
      refine lv_iload (pc := 100) hx hb dX12_decode_100 (lv_at hl 2 rfl) ?_
      refine lv_isub (pc := 102) hx hb dX12_decode_102 ?_
      obtain ⟨hd, h⟩ := grd_t h
      refine lv_irem (pc := 103) hx hb dX12_decode_103 (by simpa using hd) ?_
      refine s_iast (pc := 104) F w ds_126 h dX12_decode_104 (fun S16 H locs h w => ?_)
      refine lv_iload_n (pc := 105) hx hb dX12_decode_105 rfl (lv_at hl 1 rfl) ?_
      refine lv_aload_n (pc := 106) hx hb dX12_decode_106 rfl (lv_at hl 0 rfl) ?_
      refine s_getI (pc := 107) F w ds_14 (j := 81) vc_X12 vi_X12 rfl (by decide) kf_X12_466 dX12_decode_107 ?_
      refine lv_iload (pc := 110) hx hb dX12_decode_110 (lv_at hl 2 rfl) ?_
      refine lv_isub (pc := 112) hx hb dX12_decode_112 ?_
      obtain ⟨hd, h⟩ := grd_t h
      refine lv_idiv (pc := 113) hx hb dX12_decode_113 (by simpa using hd) ?_
      refine s_nm h (fun z17 ez17 h => ?_)
      rw [← ez17]
      refine lv_istore_n (pc := 114) (lv' := [(3, .int z17), (0, .ref (ad 14)), (4, .int x4)]) hx hb dX12_decode_114 rfl hl (by decide) rfl (fun ls hl => ?_)
      refine s_nm h (fun z18 ez18 h => ?_)
      refine lv_iinc (pc := 115) (v := z18) (lv' := [(4, .int z18), (3, .int z17), (0, .ref (ad 14))]) hx hb dX12_decode_115 hl (k := 2) rfl (by rw [ez18]; rfl) (by decide) rfl (fun ls hl => ?_)
      refine lv_goto (pc := 118) (tgt := 84) hx hb dX12_decode_118 (by decide) ?_
      exact ih _ _ _ h _ _ _ w (lv_sub hl [2, 1, 0] rfl)
set_option maxRecDepth 100000 in
set_option maxHeartbeats 4000000 in
theorem m_X12_decode (a1 : Int32) (S S' : SS) (h : f_X12_decode a1 S = some S') : MT yX12_decode cX12_decode 10 none 0 0 (fun ad => [.ref (ad 14), .int a1]) S none S' := by
  refine MT.of RX12 (fun ad => [(0, .ref (ad 14)), (1, .int a1)]) (by decide) rfl (fun _ => Nat.le_of_ble_eq_true rfl) (fun _ => rfl) ?_
  intro p l e R s m args below meth c dC dI cs ad A hR1 hR2 F H locs ls w hl
  have hx := F.1.1
  have hb := F.1.2.1
  rw [f_X12_decode] at h
  refine lv_iload_n (pc := 0) hx hb dX12_decode_0 rfl (lv_at hl 1 rfl) ?_
  refine lv_sipush (pc := 1) (v := 216) hx hb dX12_decode_1 (by decide) ?_
  refine lv_irem (pc := 4) hx hb dX12_decode_4 (by decide) ?_
  refine s_nm h (fun z1 ez1 h => ?_)
  rw [← ez1]
  refine lv_istore_n (pc := 5) (lv' := [(2, .int z1), (0, .ref (ad 14)), (1, .int a1)]) hx hb dX12_decode_5 rfl hl (by decide) rfl (fun ls hl => ?_)
  refine lv_aload_n (pc := 6) hx hb dX12_decode_6 rfl (lv_at hl 1 rfl) ?_
  refine s_getR (pc := 7) F w 125 ds_14 (j := 86) vc_X12 vi_X12 rfl (by decide) kf_X12_192 dX12_decode_7 ?_
  refine lv_iconst (pc := 10) (v := 0) hx hb dX12_decode_10 (by decide) ?_
  refine lv_iload_n (pc := 11) hx hb dX12_decode_11 rfl (lv_at hl 0 rfl) ?_
  refine lv_bipush (pc := 12) (v := 36) hx hb dX12_decode_12 (by decide) ?_
  refine lv_idiv (pc := 14) hx hb dX12_decode_14 (by decide) ?_
  refine s_iast (pc := 15) F w ds_125 h dX12_decode_15 (fun S2 H locs h w => ?_)
  refine lv_aload_n (pc := 16) hx hb dX12_decode_16 rfl (lv_at hl 1 rfl) ?_
  refine s_getR (pc := 17) F w 125 ds_14 (j := 86) vc_X12 vi_X12 rfl (by decide) kf_X12_192 dX12_decode_17 ?_
  refine lv_iconst (pc := 20) (v := 1) hx hb dX12_decode_20 (by decide) ?_
  refine lv_iload_n (pc := 21) hx hb dX12_decode_21 rfl (lv_at hl 0 rfl) ?_
  refine lv_bipush (pc := 22) (v := 6) hx hb dX12_decode_22 (by decide) ?_
  refine lv_idiv (pc := 24) hx hb dX12_decode_24 (by decide) ?_
  refine lv_bipush (pc := 25) (v := 6) hx hb dX12_decode_25 (by decide) ?_
  refine lv_irem (pc := 27) hx hb dX12_decode_27 (by decide) ?_
  refine s_iast (pc := 28) F w ds_125 h dX12_decode_28 (fun S3 H locs h w => ?_)
  refine lv_aload_n (pc := 29) hx hb dX12_decode_29 rfl (lv_at hl 1 rfl) ?_
  refine s_getR (pc := 30) F w 125 ds_14 (j := 86) vc_X12 vi_X12 rfl (by decide) kf_X12_192 dX12_decode_30 ?_
  refine lv_iconst (pc := 33) (v := 2) hx hb dX12_decode_33 (by decide) ?_
  refine lv_iload_n (pc := 34) hx hb dX12_decode_34 rfl (lv_at hl 0 rfl) ?_
  refine lv_bipush (pc := 35) (v := 6) hx hb dX12_decode_35 (by decide) ?_
  refine lv_irem (pc := 37) hx hb dX12_decode_37 (by decide) ?_
  refine s_iast (pc := 38) F w ds_125 h dX12_decode_38 (fun S4 H locs h w => ?_)
  refine lv_aload_n (pc := 39) hx hb dX12_decode_39 rfl (lv_at hl 1 rfl) ?_
  refine s_getR (pc := 40) F w 125 ds_14 (j := 86) vc_X12 vi_X12 rfl (by decide) kf_X12_192 dX12_decode_40 ?_
  refine lv_iconst (pc := 43) (v := 3) hx hb dX12_decode_43 (by decide) ?_
  refine lv_aload_n (pc := 44) hx hb dX12_decode_44 rfl (lv_at hl 1 rfl) ?_
  refine s_getI (pc := 45) F w ds_14 (j := 81) vc_X12 vi_X12 rfl (by decide) kf_X12_466 dX12_decode_45 ?_
  refine lv_aload_n (pc := 48) hx hb dX12_decode_48 rfl (lv_at hl 1 rfl) ?_
  refine s_getR (pc := 49) F w 125 ds_14 (j := 86) vc_X12 vi_X12 rfl (by decide) kf_X12_192 dX12_decode_49 ?_
  refine lv_iconst (pc := 52) (v := 0) hx hb dX12_decode_52 (by decide) ?_
  refine s_iald (pc := 53) F w ds_125 h dX12_decode_53 (fun h => ?_)
  refine lv_isub (pc := 54) hx hb dX12_decode_54 ?_
  refine lv_aload_n (pc := 55) hx hb dX12_decode_55 rfl (lv_at hl 1 rfl) ?_
  refine s_getR (pc := 56) F w 125 ds_14 (j := 86) vc_X12 vi_X12 rfl (by decide) kf_X12_192 dX12_decode_56 ?_
  refine lv_iconst (pc := 59) (v := 1) hx hb dX12_decode_59 (by decide) ?_
  refine s_iald (pc := 60) F w ds_125 h dX12_decode_60 (fun h => ?_)
  refine lv_isub (pc := 61) hx hb dX12_decode_61 ?_
  refine lv_aload_n (pc := 62) hx hb dX12_decode_62 rfl (lv_at hl 1 rfl) ?_
  refine s_getR (pc := 63) F w 125 ds_14 (j := 86) vc_X12 vi_X12 rfl (by decide) kf_X12_192 dX12_decode_63 ?_
  refine lv_iconst (pc := 66) (v := 2) hx hb dX12_decode_66 (by decide) ?_
  refine s_iald (pc := 67) F w ds_125 h dX12_decode_67 (fun h => ?_)
  refine lv_isub (pc := 68) hx hb dX12_decode_68 ?_
  refine s_iast (pc := 69) F w ds_125 h dX12_decode_69 (fun S5 H locs h w => ?_)
  refine lv_iload_n (pc := 70) hx hb dX12_decode_70 rfl (lv_at hl 2 rfl) ?_
  refine lv_sipush (pc := 71) (v := 216) hx hb dX12_decode_71 (by decide) ?_
  refine lv_idiv (pc := 74) hx hb dX12_decode_74 (by decide) ?_
  refine s_nm h (fun z6 ez6 h => ?_)
  rw [← ez6]
  refine lv_istore_n (pc := 75) (lv' := [(3, .int z6), (2, .int z1), (0, .ref (ad 14)), (1, .int a1)]) hx hb dX12_decode_75 rfl hl (by decide) rfl (fun ls hl => ?_)
  refine lv_aload_n (pc := 76) hx hb dX12_decode_76 rfl (lv_at hl 2 rfl) ?_
  refine s_getI (pc := 77) F w ds_14 (j := 81) vc_X12 vi_X12 rfl (by decide) kf_X12_466 dX12_decode_77 ?_
  refine lv_iconst (pc := 80) (v := 1) hx hb dX12_decode_80 (by decide) ?_
  refine lv_isub (pc := 81) hx hb dX12_decode_81 ?_
  refine s_nm h (fun z7 ez7 h => ?_)
  rw [← ez7]
  refine lv_istore (pc := 82) (lv' := [(4, .int z7), (3, .int z6), (2, .int z1), (0, .ref (ad 14)), (1, .int a1)]) hx hb dX12_decode_82 hl (by decide) rfl (fun ls hl => ?_)
  exact w_X12_decode_L84 F (Nat.le_trans (by decide) hR1) (Nat.le_trans (by decide) hR2) _ _ _ _ h _ _ _ w (lv_sub hl [3, 1, 0] rfl)
def f_X12_mayMove (a1 : Int32) (a2 : Int32) (a3 : Int32) (S : SS) : Option (Int32 × SS) :=
  if a1 = a2 then
    some ((0 : Int32), S)
  else
    if a3 < (1 : Int32) then
      some ((0 : Int32), S)
    else
      grd (inb a1 4) (
      if (S.1 125 a1.toNatClampNeg) < a3 then
        some ((0 : Int32), S)
      else
        grd (inb a2 4) (
        grd (inb a2 4) (
        if (S.1 113 a2.toNatClampNeg) < ((S.1 125 a2.toNatClampNeg) + a3) then
          some ((0 : Int32), S)
        else
          some ((1 : Int32), S))))
theorem dX12_mayMove_0 : decode cX12_mayMove 0 = .ok (.iload_n 1, 1) := by decide +kernel
theorem dX12_mayMove_1 : decode cX12_mayMove 1 = .ok (.iload_n 2, 1) := by decide +kernel
theorem dX12_mayMove_2 : decode cX12_mayMove 2 = .ok (.if_icmp .eq 39, 3) := by decide +kernel
theorem dX12_mayMove_5 : decode cX12_mayMove 5 = .ok (.iload_n 3, 1) := by decide +kernel
theorem dX12_mayMove_6 : decode cX12_mayMove 6 = .ok (.iconst 1, 1) := by decide +kernel
theorem dX12_mayMove_7 : decode cX12_mayMove 7 = .ok (.if_icmp .lt 34, 3) := by decide +kernel
theorem dX12_mayMove_10 : decode cX12_mayMove 10 = .ok (.iload_n 3, 1) := by decide +kernel
theorem dX12_mayMove_11 : decode cX12_mayMove 11 = .ok (.aload_n 0, 1) := by decide +kernel
theorem dX12_mayMove_12 : decode cX12_mayMove 12 = .ok (.getfield 192, 3) := by decide +kernel
theorem dX12_mayMove_15 : decode cX12_mayMove 15 = .ok (.iload_n 1, 1) := by decide +kernel
theorem dX12_mayMove_16 : decode cX12_mayMove 16 = .ok (.iaload, 1) := by decide +kernel
theorem dX12_mayMove_17 : decode cX12_mayMove 17 = .ok (.if_icmp .gt 24, 3) := by decide +kernel
theorem dX12_mayMove_20 : decode cX12_mayMove 20 = .ok (.aload_n 0, 1) := by decide +kernel
theorem dX12_mayMove_21 : decode cX12_mayMove 21 = .ok (.getfield 192, 3) := by decide +kernel
theorem dX12_mayMove_24 : decode cX12_mayMove 24 = .ok (.iload_n 2, 1) := by decide +kernel
theorem dX12_mayMove_25 : decode cX12_mayMove 25 = .ok (.iaload, 1) := by decide +kernel
theorem dX12_mayMove_26 : decode cX12_mayMove 26 = .ok (.iload_n 3, 1) := by decide +kernel
theorem dX12_mayMove_27 : decode cX12_mayMove 27 = .ok (.iadd, 1) := by decide +kernel
theorem dX12_mayMove_28 : decode cX12_mayMove 28 = .ok (.aload_n 0, 1) := by decide +kernel
theorem dX12_mayMove_29 : decode cX12_mayMove 29 = .ok (.getfield 153, 3) := by decide +kernel
theorem dX12_mayMove_32 : decode cX12_mayMove 32 = .ok (.iload_n 2, 1) := by decide +kernel
theorem dX12_mayMove_33 : decode cX12_mayMove 33 = .ok (.iaload, 1) := by decide +kernel
theorem dX12_mayMove_34 : decode cX12_mayMove 34 = .ok (.if_icmp .gt 7, 3) := by decide +kernel
theorem dX12_mayMove_37 : decode cX12_mayMove 37 = .ok (.iconst 1, 1) := by decide +kernel
theorem dX12_mayMove_38 : decode cX12_mayMove 38 = .ok (.goto 4, 3) := by decide +kernel
theorem dX12_mayMove_41 : decode cX12_mayMove 41 = .ok (.iconst 0, 1) := by decide +kernel
theorem dX12_mayMove_42 : decode cX12_mayMove 42 = .ok (.ireturn, 1) := by decide +kernel
set_option maxRecDepth 100000 in
set_option maxHeartbeats 4000000 in
theorem m_X12_mayMove (a1 : Int32) (a2 : Int32) (a3 : Int32) (S S' : SS) (r : Int32) (h : f_X12_mayMove a1 a2 a3 S = some (r, S')) : MT yX12_mayMove cX12_mayMove 4 (some .boolean) 0 0 (fun ad => [.ref (ad 14), .int a1, .int a2, .int a3]) S (some (.int r)) S' := by
  refine MT.of RX12 (fun ad => [(0, .ref (ad 14)), (1, .int a1), (2, .int a2), (3, .int a3)]) (by decide) rfl (fun _ => Nat.le_of_ble_eq_true rfl) (fun _ => rfl) ?_
  intro p l e R s m args below meth c dC dI cs ad A hR1 hR2 F H locs ls w hl
  have hx := F.1.1
  have hb := F.1.2.1
  rw [f_X12_mayMove] at h
  refine lv_iload_n (pc := 0) hx hb dX12_mayMove_0 rfl (lv_at hl 1 rfl) ?_
  refine lv_iload_n (pc := 1) hx hb dX12_mayMove_1 rfl (lv_at hl 2 rfl) ?_
  refine lv_icmp_eq (pc := 2) (tgt := 41) hx hb dX12_mayMove_2 (by decide) (fun q => ?_) (fun q => ?_)
  · have h := ite_t q h
    refine lv_iconst (pc := 41) (v := 0) hx hb dX12_mayMove_41 (by decide) ?_
    exact s_zretc F w rfl h dX12_mayMove_42
  · have h := ite_f q h
    refine lv_iload_n (pc := 5) hx hb dX12_mayMove_5 rfl (lv_at hl 3 rfl) ?_
    refine lv_iconst (pc := 6) (v := 1) hx hb dX12_mayMove_6 (by decide) ?_
    refine lv_icmp_lt (pc := 7) (tgt := 41) hx hb dX12_mayMove_7 (by decide) (fun q => ?_) (fun q => ?_)
    · have h := ite_t q h
      refine lv_iconst (pc := 41) (v := 0) hx hb dX12_mayMove_41 (by decide) ?_
      exact s_zretc F w rfl h dX12_mayMove_42
    · have h := ite_f q h
      refine lv_iload_n (pc := 10) hx hb dX12_mayMove_10 rfl (lv_at hl 3 rfl) ?_
      refine lv_aload_n (pc := 11) hx hb dX12_mayMove_11 rfl (lv_at hl 0 rfl) ?_
      refine s_getR (pc := 12) F w 125 ds_14 (j := 86) vc_X12 vi_X12 rfl (by decide) kf_X12_192 dX12_mayMove_12 ?_
      refine lv_iload_n (pc := 15) hx hb dX12_mayMove_15 rfl (lv_at hl 1 rfl) ?_
      refine s_iald (pc := 16) F w ds_125 h dX12_mayMove_16 (fun h => ?_)
      refine lv_icmp_gt (pc := 17) (tgt := 41) hx hb dX12_mayMove_17 (by decide) (fun q => ?_) (fun q => ?_)
      · have h := ite_t q h
        refine lv_iconst (pc := 41) (v := 0) hx hb dX12_mayMove_41 (by decide) ?_
        exact s_zretc F w rfl h dX12_mayMove_42
      · have h := ite_f q h
        refine lv_aload_n (pc := 20) hx hb dX12_mayMove_20 rfl (lv_at hl 0 rfl) ?_
        refine s_getR (pc := 21) F w 125 ds_14 (j := 86) vc_X12 vi_X12 rfl (by decide) kf_X12_192 dX12_mayMove_21 ?_
        refine lv_iload_n (pc := 24) hx hb dX12_mayMove_24 rfl (lv_at hl 2 rfl) ?_
        refine s_iald (pc := 25) F w ds_125 h dX12_mayMove_25 (fun h => ?_)
        refine lv_iload_n (pc := 26) hx hb dX12_mayMove_26 rfl (lv_at hl 3 rfl) ?_
        refine lv_iadd (pc := 27) hx hb dX12_mayMove_27 ?_
        refine lv_aload_n (pc := 28) hx hb dX12_mayMove_28 rfl (lv_at hl 0 rfl) ?_
        refine s_getR (pc := 29) F w 113 ds_14 (j := 71) vc_X12 vi_X12 rfl (by decide) kf_X12_153 dX12_mayMove_29 ?_
        refine lv_iload_n (pc := 32) hx hb dX12_mayMove_32 rfl (lv_at hl 2 rfl) ?_
        refine s_iald (pc := 33) F w ds_113 h dX12_mayMove_33 (fun h => ?_)
        refine lv_icmp_gt (pc := 34) (tgt := 41) hx hb dX12_mayMove_34 (by decide) (fun q => ?_) (fun q => ?_)
        · have h := ite_t q h
          refine lv_iconst (pc := 41) (v := 0) hx hb dX12_mayMove_41 (by decide) ?_
          exact s_zretc F w rfl h dX12_mayMove_42
        · have h := ite_f q h
          refine lv_iconst (pc := 37) (v := 1) hx hb dX12_mayMove_37 (by decide) ?_
          refine lv_goto (pc := 38) (tgt := 42) hx hb dX12_mayMove_38 (by decide) ?_
          exact s_zretc F w rfl h dX12_mayMove_42
def f_X12_shift_L3  : Nat → Int32 → Int32 → Int32 → Int32 → SS → Option (SS)
  | 0, _, _, _, _, _ => none
  | n + 1, x1, x2, x3, x4, S =>
    if x3 ≤ x4 then
      grd (inb x1 4) (
      grd (inb x1 4) (wr S 125 x1.toNatClampNeg ((S.1 125 x1.toNatClampNeg) - x3) (fun S1 =>
      grd (inb x2 4) (
      grd (inb x2 4) (wr S1 125 x2.toNatClampNeg ((S1.1 125 x2.toNatClampNeg) + x3) (fun S2 =>
      some S2))))))
    else
      grd (inb x2 4) (
      grd (inb x1 4) (
      grd (inb (((((10 : Int32) * x1) + (S.1 125 x1.toNatClampNeg)) - x3) + x4) 40) (
      grd (inb ((((10 : Int32) * x2) + (S.1 125 x2.toNatClampNeg)) + x4) 40) (wr S 124 ((((10 : Int32) * x2) + (S.1 125 x2.toNatClampNeg)) + x4).toNatClampNeg (S.1 124 (((((10 : Int32) * x1) + (S.1 125 x1.toNatClampNeg)) - x3) + x4).toNatClampNeg) (fun S3 =>
      nm (x4 + (1 : Int32)) (fun z4 =>
      f_X12_shift_L3 n x1 x2 x3 z4 S3))))))
def f_X12_shift (a1 : Int32) (a2 : Int32) (a3 : Int32) (S : SS) : Option (SS) :=
  f_X12_shift_L3 NF a1 a2 a3 (0 : Int32) S
theorem dX12_shift_0 : decode cX12_shift 0 = .ok (.iconst 0, 1) := by decide +kernel
theorem dX12_shift_1 : decode cX12_shift 1 = .ok (.istore 4, 2) := by decide +kernel
theorem dX12_shift_3 : decode cX12_shift 3 = .ok (.iload 4, 2) := by decide +kernel
theorem dX12_shift_5 : decode cX12_shift 5 = .ok (.iload_n 3, 1) := by decide +kernel
theorem dX12_shift_6 : decode cX12_shift 6 = .ok (.if_icmp .ge 49, 3) := by decide +kernel
theorem dX12_shift_9 : decode cX12_shift 9 = .ok (.aload_n 0, 1) := by decide +kernel
theorem dX12_shift_10 : decode cX12_shift 10 = .ok (.getfield 189, 3) := by decide +kernel
theorem dX12_shift_13 : decode cX12_shift 13 = .ok (.bipush 10, 2) := by decide +kernel
theorem dX12_shift_15 : decode cX12_shift 15 = .ok (.iload_n 2, 1) := by decide +kernel
theorem dX12_shift_16 : decode cX12_shift 16 = .ok (.imul, 1) := by decide +kernel
theorem dX12_shift_17 : decode cX12_shift 17 = .ok (.aload_n 0, 1) := by decide +kernel
theorem dX12_shift_18 : decode cX12_shift 18 = .ok (.getfield 192, 3) := by decide +kernel
theorem dX12_shift_21 : decode cX12_shift 21 = .ok (.iload_n 2, 1) := by decide +kernel
theorem dX12_shift_22 : decode cX12_shift 22 = .ok (.iaload, 1) := by decide +kernel
theorem dX12_shift_23 : decode cX12_shift 23 = .ok (.iadd, 1) := by decide +kernel
theorem dX12_shift_24 : decode cX12_shift 24 = .ok (.iload 4, 2) := by decide +kernel
theorem dX12_shift_26 : decode cX12_shift 26 = .ok (.iadd, 1) := by decide +kernel
theorem dX12_shift_27 : decode cX12_shift 27 = .ok (.aload_n 0, 1) := by decide +kernel
theorem dX12_shift_28 : decode cX12_shift 28 = .ok (.getfield 189, 3) := by decide +kernel
theorem dX12_shift_31 : decode cX12_shift 31 = .ok (.bipush 10, 2) := by decide +kernel
theorem dX12_shift_33 : decode cX12_shift 33 = .ok (.iload_n 1, 1) := by decide +kernel
theorem dX12_shift_34 : decode cX12_shift 34 = .ok (.imul, 1) := by decide +kernel
theorem dX12_shift_35 : decode cX12_shift 35 = .ok (.aload_n 0, 1) := by decide +kernel
theorem dX12_shift_36 : decode cX12_shift 36 = .ok (.getfield 192, 3) := by decide +kernel
theorem dX12_shift_39 : decode cX12_shift 39 = .ok (.iload_n 1, 1) := by decide +kernel
theorem dX12_shift_40 : decode cX12_shift 40 = .ok (.iaload, 1) := by decide +kernel
theorem dX12_shift_41 : decode cX12_shift 41 = .ok (.iadd, 1) := by decide +kernel
theorem dX12_shift_42 : decode cX12_shift 42 = .ok (.iload_n 3, 1) := by decide +kernel
theorem dX12_shift_43 : decode cX12_shift 43 = .ok (.isub, 1) := by decide +kernel
theorem dX12_shift_44 : decode cX12_shift 44 = .ok (.iload 4, 2) := by decide +kernel
theorem dX12_shift_46 : decode cX12_shift 46 = .ok (.iadd, 1) := by decide +kernel
theorem dX12_shift_47 : decode cX12_shift 47 = .ok (.iaload, 1) := by decide +kernel
theorem dX12_shift_48 : decode cX12_shift 48 = .ok (.iastore, 1) := by decide +kernel
theorem dX12_shift_49 : decode cX12_shift 49 = .ok (.iinc 4 1, 3) := by decide +kernel
theorem dX12_shift_52 : decode cX12_shift 52 = .ok (.goto (-49), 3) := by decide +kernel
theorem dX12_shift_55 : decode cX12_shift 55 = .ok (.aload_n 0, 1) := by decide +kernel
theorem dX12_shift_56 : decode cX12_shift 56 = .ok (.getfield 192, 3) := by decide +kernel
theorem dX12_shift_59 : decode cX12_shift 59 = .ok (.iload_n 1, 1) := by decide +kernel
theorem dX12_shift_60 : decode cX12_shift 60 = .ok (.dup2, 1) := by decide +kernel
theorem dX12_shift_61 : decode cX12_shift 61 = .ok (.iaload, 1) := by decide +kernel
theorem dX12_shift_62 : decode cX12_shift 62 = .ok (.iload_n 3, 1) := by decide +kernel
theorem dX12_shift_63 : decode cX12_shift 63 = .ok (.isub, 1) := by decide +kernel
theorem dX12_shift_64 : decode cX12_shift 64 = .ok (.iastore, 1) := by decide +kernel
theorem dX12_shift_65 : decode cX12_shift 65 = .ok (.aload_n 0, 1) := by decide +kernel
theorem dX12_shift_66 : decode cX12_shift 66 = .ok (.getfield 192, 3) := by decide +kernel
theorem dX12_shift_69 : decode cX12_shift 69 = .ok (.iload_n 2, 1) := by decide +kernel
theorem dX12_shift_70 : decode cX12_shift 70 = .ok (.dup2, 1) := by decide +kernel
theorem dX12_shift_71 : decode cX12_shift 71 = .ok (.iaload, 1) := by decide +kernel
theorem dX12_shift_72 : decode cX12_shift 72 = .ok (.iload_n 3, 1) := by decide +kernel
theorem dX12_shift_73 : decode cX12_shift 73 = .ok (.iadd, 1) := by decide +kernel
theorem dX12_shift_74 : decode cX12_shift 74 = .ok (.iastore, 1) := by decide +kernel
theorem dX12_shift_75 : decode cX12_shift 75 = .ok (.return_, 1) := by decide +kernel
set_option maxRecDepth 100000 in
set_option maxHeartbeats 4000000 in
theorem w_X12_shift_L3 {p : Program} {l : Launch} {e : Env} {R : Room} {s : State} {m : MethodId} {args : Array Value} {below : List Frame} {meth : Method} {c : Code} {dC : Nat → ClassId} {dI : Nat → Nat → Nat} {cs : Nat → ClassId} {ad : Nat → Nat} {A : Nat → Prop} {D0 : Nat → Nat} {S' : SS} (F : Fx p s m args meth c cX12_shift 5 RX12 none dC dI cs A) (hR1 : 0 ≤ R.frames) (hR2 : 0 ≤ R.locals) : ∀ (n : Nat) (x1 : Int32) (x2 : Int32) (x3 : Int32) (x4 : Int32) (S : SS), f_X12_shift_L3 n x1 x2 x3 x4 S = some S' → AW p l e R s m args below meth c dC dI cs ad A D0 none S' 5 3 [(0, .ref (ad 14)), (1, .int x1), (2, .int x2), (3, .int x3), (4, .int x4)] [] S := by
  have hx := F.1.1
  have hb := F.1.2.1
  intro n
  induction n with
  | zero => intro x1 x2 x3 x4 S h; cases h
  | succ n ih =>
    intro x1 x2 x3 x4 S h H locs ls w hl
    rw [f_X12_shift_L3] at h
    refine lv_iload (pc := 3) hx hb dX12_shift_3 (lv_at hl 4 rfl) ?_
    refine lv_iload_n (pc := 5) hx hb dX12_shift_5 rfl (lv_at hl 3 rfl) ?_
    refine lv_icmp_ge (pc := 6) (tgt := 55) hx hb dX12_shift_6 (by decide) (fun q => ?_) (fun q => ?_)
    · have h := ite_t q h
      refine lv_aload_n (pc := 55) hx hb dX12_shift_55 rfl (lv_at hl 0 rfl) ?_
      refine s_getR (pc := 56) F w 125 ds_14 (j := 86) vc_X12 vi_X12 rfl (by decide) kf_X12_192 dX12_shift_56 ?_
      refine lv_iload_n (pc := 59) hx hb dX12_shift_59 rfl (lv_at hl 1 rfl) ?_
      refine lv_dup2_11 (pc := 60) hx hb dX12_shift_60 rfl rfl ?_
      refine s_iald (pc := 61) F w ds_125 h dX12_shift_61 (fun h => ?_)
      refine lv_iload_n (pc := 62) hx hb dX12_shift_62 rfl (lv_at hl 3 rfl) ?_
      refine lv_isub (pc := 63) hx hb dX12_shift_63 ?_
      refine s_iast (pc := 64) F w ds_125 h dX12_shift_64 (fun S1 H locs h w => ?_)
      refine lv_aload_n (pc := 65) hx hb dX12_shift_65 rfl (lv_at hl 0 rfl) ?_
      refine s_getR (pc := 66) F w 125 ds_14 (j := 86) vc_X12 vi_X12 rfl (by decide) kf_X12_192 dX12_shift_66 ?_
      refine lv_iload_n (pc := 69) hx hb dX12_shift_69 rfl (lv_at hl 2 rfl) ?_
      refine lv_dup2_11 (pc := 70) hx hb dX12_shift_70 rfl rfl ?_
      refine s_iald (pc := 71) F w ds_125 h dX12_shift_71 (fun h => ?_)
      refine lv_iload_n (pc := 72) hx hb dX12_shift_72 rfl (lv_at hl 3 rfl) ?_
      refine lv_iadd (pc := 73) hx hb dX12_shift_73 ?_
      refine s_iast (pc := 74) F w ds_125 h dX12_shift_74 (fun S2 H locs h w => ?_)
      exact s_vret F w h dX12_shift_75
    · have h := ite_f q h
      refine lv_aload_n (pc := 9) hx hb dX12_shift_9 rfl (lv_at hl 0 rfl) ?_
      refine s_getR (pc := 10) F w 124 ds_14 (j := 85) vc_X12 vi_X12 rfl (by decide) kf_X12_189 dX12_shift_10 ?_
      refine lv_bipush (pc := 13) (v := 10) hx hb dX12_shift_13 (by decide) ?_
      refine lv_iload_n (pc := 15) hx hb dX12_shift_15 rfl (lv_at hl 2 rfl) ?_
      refine lv_imul (pc := 16) hx hb dX12_shift_16 ?_
      refine lv_aload_n (pc := 17) hx hb dX12_shift_17 rfl (lv_at hl 0 rfl) ?_
      refine s_getR (pc := 18) F w 125 ds_14 (j := 86) vc_X12 vi_X12 rfl (by decide) kf_X12_192 dX12_shift_18 ?_
      refine lv_iload_n (pc := 21) hx hb dX12_shift_21 rfl (lv_at hl 2 rfl) ?_
      refine s_iald (pc := 22) F w ds_125 h dX12_shift_22 (fun h => ?_)
      refine lv_iadd (pc := 23) hx hb dX12_shift_23 ?_
      refine lv_iload (pc := 24) hx hb dX12_shift_24 (lv_at hl 4 rfl) ?_
      refine lv_iadd (pc := 26) hx hb dX12_shift_26 ?_
      refine lv_aload_n (pc := 27) hx hb dX12_shift_27 rfl (lv_at hl 0 rfl) ?_
      refine s_getR (pc := 28) F w 124 ds_14 (j := 85) vc_X12 vi_X12 rfl (by decide) kf_X12_189 dX12_shift_28 ?_
      refine lv_bipush (pc := 31) (v := 10) hx hb dX12_shift_31 (by decide) ?_
      refine lv_iload_n (pc := 33) hx hb dX12_shift_33 rfl (lv_at hl 1 rfl) ?_
      refine lv_imul (pc := 34) hx hb dX12_shift_34 ?_
      refine lv_aload_n (pc := 35) hx hb dX12_shift_35 rfl (lv_at hl 0 rfl) ?_
      refine s_getR (pc := 36) F w 125 ds_14 (j := 86) vc_X12 vi_X12 rfl (by decide) kf_X12_192 dX12_shift_36 ?_
      refine lv_iload_n (pc := 39) hx hb dX12_shift_39 rfl (lv_at hl 1 rfl) ?_
      refine s_iald (pc := 40) F w ds_125 h dX12_shift_40 (fun h => ?_)
      refine lv_iadd (pc := 41) hx hb dX12_shift_41 ?_
      refine lv_iload_n (pc := 42) hx hb dX12_shift_42 rfl (lv_at hl 3 rfl) ?_
      refine lv_isub (pc := 43) hx hb dX12_shift_43 ?_
      refine lv_iload (pc := 44) hx hb dX12_shift_44 (lv_at hl 4 rfl) ?_
      refine lv_iadd (pc := 46) hx hb dX12_shift_46 ?_
      refine s_iald (pc := 47) F w ds_124 h dX12_shift_47 (fun h => ?_)
      refine s_iast (pc := 48) F w ds_124 h dX12_shift_48 (fun S3 H locs h w => ?_)
      refine s_nm h (fun z4 ez4 h => ?_)
      refine lv_iinc (pc := 49) (v := z4) (lv' := [(4, .int z4), (0, .ref (ad 14)), (1, .int x1), (2, .int x2), (3, .int x3)]) hx hb dX12_shift_49 hl (k := 4) rfl (by rw [ez4]; rfl) (by decide) rfl (fun ls hl => ?_)
      refine lv_goto (pc := 52) (tgt := 3) hx hb dX12_shift_52 (by decide) ?_
      exact ih _ _ _ _ _ h _ _ _ w (lv_sub hl [1, 2, 3, 4, 0] rfl)
set_option maxRecDepth 100000 in
set_option maxHeartbeats 4000000 in
theorem m_X12_shift (a1 : Int32) (a2 : Int32) (a3 : Int32) (S S' : SS) (h : f_X12_shift a1 a2 a3 S = some S') : MT yX12_shift cX12_shift 5 none 0 0 (fun ad => [.ref (ad 14), .int a1, .int a2, .int a3]) S none S' := by
  refine MT.of RX12 (fun ad => [(0, .ref (ad 14)), (1, .int a1), (2, .int a2), (3, .int a3)]) (by decide) rfl (fun _ => Nat.le_of_ble_eq_true rfl) (fun _ => rfl) ?_
  intro p l e R s m args below meth c dC dI cs ad A hR1 hR2 F H locs ls w hl
  have hx := F.1.1
  have hb := F.1.2.1
  rw [f_X12_shift] at h
  refine lv_iconst (pc := 0) (v := 0) hx hb dX12_shift_0 (by decide) ?_
  refine lv_istore (pc := 1) (lv' := [(4, .int (0 : Int32)), (0, .ref (ad 14)), (1, .int a1), (2, .int a2), (3, .int a3)]) hx hb dX12_shift_1 hl (by decide) rfl (fun ls hl => ?_)
  exact w_X12_shift_L3 F (Nat.le_trans (by decide) hR1) (Nat.le_trans (by decide) hR2) _ _ _ _ _ _ h _ _ _ w (lv_sub hl [1, 2, 3, 4, 0] rfl)
