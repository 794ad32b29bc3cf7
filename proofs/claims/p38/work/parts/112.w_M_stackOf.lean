/-! ===== printed by wip/gen: M_stackOf M_carries M_widest M_byRule M_plan M_move M_under_M_startMany_M_startOn M_under_M_goalMany_M_goalOn ===== -/
def f_M_stackOf_j45 (K13 : Int32 → Int32 → Int32 → Int32 → SS → Option (Int32 × SS)) (x1 : Int32) (x3 : Int32) (x4 : Int32) (y0 : Int32) (S : SS) : Option (Int32 × SS) :=
    nm (x4 + (1 : Int32)) (fun z2 =>
    K13 x1 y0 x3 z2 S)
def f_M_stackOf_L13 (K5 : Int32 → Int32 → Int32 → SS → Option (Int32 × SS)) : Nat → Int32 → Int32 → Int32 → Int32 → SS → Option (Int32 × SS)
  | 0, _, _, _, _, _ => none
  | n + 1, x1, x2, x3, x4, S =>
    grd (inb x3 4) (
    if (S.1 58 x3.toNatClampNeg) ≤ x4 then
      nm (x3 + (1 : Int32)) (fun z1 =>
      K5 x1 x2 z1 S)
    else
      grd (inb (((10 : Int32) * x3) + x4) 40) (
      if (S.1 57 (((10 : Int32) * x3) + x4).toNatClampNeg) = x1 then
        f_M_stackOf_j45 (fun v0 v1 v2 v3 S => f_M_stackOf_L13 K5 n v0 v1 v2 v3 S) x1 x3 x4 x3 S
      else
        f_M_stackOf_j45 (fun v0 v1 v2 v3 S => f_M_stackOf_L13 K5 n v0 v1 v2 v3 S) x1 x3 x4 x2 S))
def f_M_stackOf_L5  : Nat → Int32 → Int32 → Int32 → SS → Option (Int32 × SS)
  | 0, _, _, _, _ => none
  | n + 1, x1, x2, x3, S =>
    if (4 : Int32) ≤ x3 then
      some (x2, S)
    else
      f_M_stackOf_L13 (fun v0 v1 v2 S => f_M_stackOf_L5 n v0 v1 v2 S) NF x1 x2 x3 (0 : Int32) S
def f_M_stackOf (a1 : Int32) (S : SS) : Option (Int32 × SS) :=
  f_M_stackOf_L5 NF a1 (-4 : Int32) (0 : Int32) S
theorem dX12_stackOf_0 : decode cX12_stackOf 0 = .ok (.bipush (-4), 2) := dc_16 (a := 252) (by decide +kernel) (by decide)
theorem dX12_stackOf_2 : decode cX12_stackOf 2 = .ok (.istore_n 2, 1) := dc_61 (by decide +kernel)
theorem dX12_stackOf_3 : decode cX12_stackOf 3 = .ok (.iconst 0, 1) := dc_3 (by decide +kernel)
theorem dX12_stackOf_4 : decode cX12_stackOf 4 = .ok (.istore_n 3, 1) := dc_62 (by decide +kernel)
theorem dX12_stackOf_5 : decode cX12_stackOf 5 = .ok (.iload_n 3, 1) := dc_29 (by decide +kernel)
theorem dX12_stackOf_6 : decode cX12_stackOf 6 = .ok (.iconst 4, 1) := dc_7 (by decide +kernel)
theorem dX12_stackOf_7 : decode cX12_stackOf 7 = .ok (.if_icmp .ge 51, 3) := dc_162 (a := 0) (b := 51) (by decide +kernel) (by decide)
theorem dX12_stackOf_10 : decode cX12_stackOf 10 = .ok (.iconst 0, 1) := dc_3 (by decide +kernel)
theorem dX12_stackOf_11 : decode cX12_stackOf 11 = .ok (.istore 4, 2) := dc_54 (a := 4) (by decide +kernel)
theorem dX12_stackOf_13 : decode cX12_stackOf 13 = .ok (.iload 4, 2) := dc_21 (a := 4) (by decide +kernel)
theorem dX12_stackOf_15 : decode cX12_stackOf 15 = .ok (.aload_n 0, 1) := dc_42 (by decide +kernel)
theorem dX12_stackOf_16 : decode cX12_stackOf 16 = .ok (.getfield 192, 3) := dc_180 (a := 0) (b := 192) (by decide +kernel)
theorem dX12_stackOf_19 : decode cX12_stackOf 19 = .ok (.iload_n 3, 1) := dc_29 (by decide +kernel)
theorem dX12_stackOf_20 : decode cX12_stackOf 20 = .ok (.iaload, 1) := dc_46 (by decide +kernel)
theorem dX12_stackOf_21 : decode cX12_stackOf 21 = .ok (.if_icmp .ge 31, 3) := dc_162 (a := 0) (b := 31) (by decide +kernel) (by decide)
theorem dX12_stackOf_24 : decode cX12_stackOf 24 = .ok (.aload_n 0, 1) := dc_42 (by decide +kernel)
theorem dX12_stackOf_25 : decode cX12_stackOf 25 = .ok (.getfield 189, 3) := dc_180 (a := 0) (b := 189) (by decide +kernel)
theorem dX12_stackOf_28 : decode cX12_stackOf 28 = .ok (.bipush 10, 2) := dc_16 (a := 10) (by decide +kernel) (by decide)
theorem dX12_stackOf_30 : decode cX12_stackOf 30 = .ok (.iload_n 3, 1) := dc_29 (by decide +kernel)
theorem dX12_stackOf_31 : decode cX12_stackOf 31 = .ok (.imul, 1) := dc_104 (by decide +kernel)
theorem dX12_stackOf_32 : decode cX12_stackOf 32 = .ok (.iload 4, 2) := dc_21 (a := 4) (by decide +kernel)
theorem dX12_stackOf_34 : decode cX12_stackOf 34 = .ok (.iadd, 1) := dc_96 (by decide +kernel)
theorem dX12_stackOf_35 : decode cX12_stackOf 35 = .ok (.iaload, 1) := dc_46 (by decide +kernel)
theorem dX12_stackOf_36 : decode cX12_stackOf 36 = .ok (.iload_n 1, 1) := dc_27 (by decide +kernel)
theorem dX12_stackOf_37 : decode cX12_stackOf 37 = .ok (.if_icmp .ne 7, 3) := dc_160 (a := 0) (b := 7) (by decide +kernel) (by decide)
theorem dX12_stackOf_40 : decode cX12_stackOf 40 = .ok (.iload_n 3, 1) := dc_29 (by decide +kernel)
theorem dX12_stackOf_41 : decode cX12_stackOf 41 = .ok (.goto 4, 3) := dc_167 (a := 0) (b := 4) (by decide +kernel) (by decide)
theorem dX12_stackOf_44 : decode cX12_stackOf 44 = .ok (.iload_n 2, 1) := dc_28 (by decide +kernel)
theorem dX12_stackOf_45 : decode cX12_stackOf 45 = .ok (.istore_n 2, 1) := dc_61 (by decide +kernel)
theorem dX12_stackOf_46 : decode cX12_stackOf 46 = .ok (.iinc 4 1, 3) := dc_132 (a := 4) (b := 1) (by decide +kernel) (by decide)
theorem dX12_stackOf_49 : decode cX12_stackOf 49 = .ok (.goto (-36), 3) := dc_167 (a := 255) (b := 220) (by decide +kernel) (by decide)
theorem dX12_stackOf_52 : decode cX12_stackOf 52 = .ok (.iinc 3 1, 3) := dc_132 (a := 3) (b := 1) (by decide +kernel) (by decide)
theorem dX12_stackOf_55 : decode cX12_stackOf 55 = .ok (.goto (-50), 3) := dc_167 (a := 255) (b := 206) (by decide +kernel) (by decide)
theorem dX12_stackOf_58 : decode cX12_stackOf 58 = .ok (.iload_n 2, 1) := dc_28 (by decide +kernel)
theorem dX12_stackOf_59 : decode cX12_stackOf 59 = .ok (.ireturn, 1) := dc_172 (by decide +kernel)
set_option maxRecDepth 100000 in
set_option maxHeartbeats 4000000 in
theorem w_M_stackOf_j45 {p : Program} {l : Launch} {e : Env} {R : Room} {s : State} {m : MethodId} {args : Array Value} {below : List Frame} {meth : Method} {c : Code} {dC : Nat → ClassId} {dI : Nat → Nat → Nat} {cs : Nat → ClassId} {ad : Nat → Nat} {A : Nat → Prop} {D0 : Nat → Nat} {S' : SS} {r : Int32} (F : Fx p s m args meth c cX12_stackOf 5 RX12 (some .int) dC dI cs A) (hR1 : 0 ≤ R.frames) (hR2 : 0 ≤ R.locals) (K13 : Int32 → Int32 → Int32 → Int32 → SS → Option (Int32 × SS)) (hK13 : ∀ (v0 : Int32) (v1 : Int32) (v2 : Int32) (v3 : Int32) (S : SS), K13 v0 v1 v2 v3 S = some (r, S') → AW p l e R s m args below meth c dC dI cs ad A D0 (some (.int r)) S' 5 13 [(0, .ref (ad 0)), (1, .int v0), (2, .int v1), (3, .int v2), (4, .int v3)] [] S) (x1 : Int32) (x3 : Int32) (x4 : Int32) (y0 : Int32) (S : SS) (h : f_M_stackOf_j45 K13 x1 x3 x4 y0 S = some (r, S')) : AW p l e R s m args below meth c dC dI cs ad A D0 (some (.int r)) S' 5 45 [(0, .ref (ad 0)), (1, .int x1), (3, .int x3), (4, .int x4)] [.int y0] S := by
  have hx := F.1.1
  have hb := F.1.2.1
  intro H locs ls w hl
  rw [f_M_stackOf_j45] at h
  refine lv_istore_n (pc := 45) (lv' := [(2, .int y0), (0, .ref (ad 0)), (1, .int x1), (3, .int x3), (4, .int x4)]) hx hb dX12_stackOf_45 rfl hl (by decide) rfl (fun ls hl => ?_)
  refine s_nm h (fun z2 ez2 h => ?_)
  refine lv_iinc (pc := 46) (v := z2) (lv' := [(4, .int z2), (2, .int y0), (0, .ref (ad 0)), (1, .int x1), (3, .int x3)]) hx hb dX12_stackOf_46 hl (k := 4) rfl (by rw [ez2]; rfl) (by decide) rfl (fun ls hl => ?_)
  refine lv_goto (pc := 49) (tgt := 13) hx hb dX12_stackOf_49 (by decide) ?_
  exact hK13 _ _ _ _ _ h _ _ _ w (lv_sub hl [2, 3, 1, 4, 0] rfl)
set_option maxRecDepth 100000 in
set_option maxHeartbeats 4000000 in
theorem w_M_stackOf_L13 {p : Program} {l : Launch} {e : Env} {R : Room} {s : State} {m : MethodId} {args : Array Value} {below : List Frame} {meth : Method} {c : Code} {dC : Nat → ClassId} {dI : Nat → Nat → Nat} {cs : Nat → ClassId} {ad : Nat → Nat} {A : Nat → Prop} {D0 : Nat → Nat} {S' : SS} {r : Int32} (F : Fx p s m args meth c cX12_stackOf 5 RX12 (some .int) dC dI cs A) (hR1 : 0 ≤ R.frames) (hR2 : 0 ≤ R.locals) (K5 : Int32 → Int32 → Int32 → SS → Option (Int32 × SS)) (hK5 : ∀ (v0 : Int32) (v1 : Int32) (v2 : Int32) (S : SS), K5 v0 v1 v2 S = some (r, S') → AW p l e R s m args below meth c dC dI cs ad A D0 (some (.int r)) S' 5 5 [(0, .ref (ad 0)), (1, .int v0), (2, .int v1), (3, .int v2)] [] S) : ∀ (n : Nat) (x1 : Int32) (x2 : Int32) (x3 : Int32) (x4 : Int32) (S : SS), f_M_stackOf_L13 K5 n x1 x2 x3 x4 S = some (r, S') → AW p l e R s m args below meth c dC dI cs ad A D0 (some (.int r)) S' 5 13 [(0, .ref (ad 0)), (1, .int x1), (2, .int x2), (3, .int x3), (4, .int x4)] [] S := by
  have hx := F.1.1
  have hb := F.1.2.1
  intro n
  induction n with
  | zero => intro x1 x2 x3 x4 S h; cases h
  | succ n ih =>
    intro x1 x2 x3 x4 S h H locs ls w hl
    rw [f_M_stackOf_L13] at h
    refine lv_iload (pc := 13) hx hb dX12_stackOf_13 (lv_at hl 4 rfl) ?_
    refine lv_aload_n (pc := 15) hx hb dX12_stackOf_15 rfl (lv_at hl 0 rfl) ?_
    refine s_getR (pc := 16) F w 58 ds_0 (j := 86) vc_X12 vi_X12 rfl (by decide) kf_X12_192 dX12_stackOf_16 ?_
    refine lv_iload_n (pc := 19) hx hb dX12_stackOf_19 rfl (lv_at hl 3 rfl) ?_
    refine s_iald (pc := 20) F w ds_58 h dX12_stackOf_20 (fun h => ?_)
    refine lv_icmp_ge (pc := 21) (tgt := 52) hx hb dX12_stackOf_21 (by decide) (fun q => ?_) (fun q => ?_)
    · have h := ite_t q h
      refine s_nm h (fun z1 ez1 h => ?_)
      refine lv_iinc (pc := 52) (v := z1) (lv' := [(3, .int z1), (0, .ref (ad 0)), (1, .int x1), (2, .int x2), (4, .int x4)]) hx hb dX12_stackOf_52 hl (k := 3) rfl (by rw [ez1]; rfl) (by decide) rfl (fun ls hl => ?_)
      refine lv_goto (pc := 55) (tgt := 5) hx hb dX12_stackOf_55 (by decide) ?_
      exact hK5 _ _ _ _ h _ _ _ w (lv_sub hl [1, 2, 3, 0] rfl)
    · have h := ite_f q h
      refine lv_aload_n (pc := 24) hx hb dX12_stackOf_24 rfl (lv_at hl 0 rfl) ?_
      refine s_getR (pc := 25) F w 57 ds_0 (j := 85) vc_X12 vi_X12 rfl (by decide) kf_X12_189 dX12_stackOf_25 ?_
      refine lv_bipush (pc := 28) (v := 10) hx hb dX12_stackOf_28 (by decide) ?_
      refine lv_iload_n (pc := 30) hx hb dX12_stackOf_30 rfl (lv_at hl 3 rfl) ?_
      refine lv_imul (pc := 31) hx hb dX12_stackOf_31 ?_
      refine lv_iload (pc := 32) hx hb dX12_stackOf_32 (lv_at hl 4 rfl) ?_
      refine lv_iadd (pc := 34) hx hb dX12_stackOf_34 ?_
      refine s_iald (pc := 35) F w ds_57 h dX12_stackOf_35 (fun h => ?_)
      refine lv_iload_n (pc := 36) hx hb dX12_stackOf_36 rfl (lv_at hl 1 rfl) ?_
      refine lv_icmp_ne (pc := 37) (tgt := 44) hx hb dX12_stackOf_37 (by decide) (fun q => ?_) (fun q => ?_)
      · have h := ite_f q h
        refine lv_iload_n (pc := 44) hx hb dX12_stackOf_44 rfl (lv_at hl 2 rfl) ?_
        exact w_M_stackOf_j45 F (Nat.le_trans (by decide) hR1) (Nat.le_trans (by decide) hR2) _ (fun v0 v1 v2 v3 S h => ih v0 v1 v2 v3 S h) _ _ _ _ _ h _ _ _ w (lv_sub hl [0, 1, 3, 4] rfl)
      · have h := ite_t q h
        refine lv_iload_n (pc := 40) hx hb dX12_stackOf_40 rfl (lv_at hl 3 rfl) ?_
        refine lv_goto (pc := 41) (tgt := 45) hx hb dX12_stackOf_41 (by decide) ?_
        exact w_M_stackOf_j45 F (Nat.le_trans (by decide) hR1) (Nat.le_trans (by decide) hR2) _ (fun v0 v1 v2 v3 S h => ih v0 v1 v2 v3 S h) _ _ _ _ _ h _ _ _ w (lv_sub hl [0, 1, 3, 4] rfl)
set_option maxRecDepth 100000 in
set_option maxHeartbeats 4000000 in
theorem w_M_stackOf_L5 {p : Program} {l : Launch} {e : Env} {R : Room} {s : State} {m : MethodId} {args : Array Value} {below : List Frame} {meth : Method} {c : Code} {dC : Nat → ClassId} {dI : Nat → Nat → Nat} {cs : Nat → ClassId} {ad : Nat → Nat} {A : Nat → Prop} {D0 : Nat → Nat} {S' : SS} {r : Int32} (F : Fx p s m args meth c cX12_stackOf 5 RX12 (some .int) dC dI cs A) (hR1 : 0 ≤ R.frames) (hR2 : 0 ≤ R.locals) : ∀ (n : Nat) (x1 : Int32) (x2 : Int32) (x3 : Int32) (S : SS), f_M_stackOf_L5 n x1 x2 x3 S = some (r, S') → AW p l e R s m args below meth c dC dI cs ad A D0 (some (.int r)) S' 5 5 [(0, .ref (ad 0)), (1, .int x1), (2, .int x2), (3, .int x3)] [] S := by
  have hx := F.1.1
  have hb := F.1.2.1
  intro n
  induction n with
  | zero => intro x1 x2 x3 S h; cases h
  | succ n ih =>
    intro x1 x2 x3 S h H locs ls w hl
    rw [f_M_stackOf_L5] at h
    refine lv_iload_n (pc := 5) hx hb dX12_stackOf_5 rfl (lv_at hl 3 rfl) ?_
    refine lv_iconst (pc := 6) (v := 4) hx hb dX12_stackOf_6 (by decide) ?_
    refine lv_icmp_ge (pc := 7) (tgt := 58) hx hb dX12_stackOf_7 (by decide) (fun q => ?_) (fun q => ?_)
    · have h := ite_t q h
      refine lv_iload_n (pc := 58) hx hb dX12_stackOf_58 rfl (lv_at hl 2 rfl) ?_
      exact s_iret F w h dX12_stackOf_59
    · have h := ite_f q h
      refine lv_iconst (pc := 10) (v := 0) hx hb dX12_stackOf_10 (by decide) ?_
      refine lv_istore (pc := 11) (lv' := [(4, .int (0 : Int32)), (0, .ref (ad 0)), (1, .int x1), (2, .int x2), (3, .int x3)]) hx hb dX12_stackOf_11 hl (by decide) rfl (fun ls hl => ?_)
      exact w_M_stackOf_L13 F (Nat.le_trans (by decide) hR1) (Nat.le_trans (by decide) hR2) _ (fun v0 v1 v2 S h => ih v0 v1 v2 S h) _ _ _ _ _ _ h _ _ _ w (lv_sub hl [1, 2, 3, 4, 0] rfl)
set_option maxRecDepth 100000 in
set_option maxHeartbeats 4000000 in
theorem m_M_stackOf (a1 : Int32) (S S' : SS) (r : Int32) (h : f_M_stackOf a1 S = some (r, S')) : MT yX12_stackOf cX12_stackOf 5 (some .int) 0 0 (fun ad => [.ref (ad 0), .int a1]) S (some (.int r)) S' := by
  refine MT.of RX12 (fun ad => [(0, .ref (ad 0)), (1, .int a1)]) (by decide) rfl (fun _ => Nat.le_of_ble_eq_true rfl) (fun _ => rfl) ?_
  intro p l e R s m args below meth c dC dI cs ad A hR1 hR2 F H locs ls w hl
  have hx := F.1.1
  have hb := F.1.2.1
  rw [f_M_stackOf] at h
  refine lv_bipush (pc := 0) (v := -4) hx hb dX12_stackOf_0 (by decide) ?_
  refine lv_istore_n (pc := 2) (lv' := [(2, .int (-4 : Int32)), (0, .ref (ad 0)), (1, .int a1)]) hx hb dX12_stackOf_2 rfl hl (by decide) rfl (fun ls hl => ?_)
  refine lv_iconst (pc := 3) (v := 0) hx hb dX12_stackOf_3 (by decide) ?_
  refine lv_istore_n (pc := 4) (lv' := [(3, .int (0 : Int32)), (2, .int (-4 : Int32)), (0, .ref (ad 0)), (1, .int a1)]) hx hb dX12_stackOf_4 rfl hl (by decide) rfl (fun ls hl => ?_)
  exact w_M_stackOf_L5 F (Nat.le_trans (by decide) hR1) (Nat.le_trans (by decide) hR2) _ _ _ _ _ h _ _ _ w (lv_sub hl [2, 3, 1, 0] rfl)
def f_M_carries (a1 : Int32) (a2 : Int32) (S : SS) : Option (Int32 × SS) :=
  if a2 = (-4 : Int32) then
    some ((0 : Int32), S)
  else
    bnd (f_M_mayMove a1 a2 (1 : Int32) S) (fun r2 S1 =>
    if r2 = 0 then
      some ((0 : Int32), S1)
    else
      grd (inb (S1.1 0 77) 400) (wr S1 51 (S1.1 0 77).toNatClampNeg a1 (fun S3 =>
      grd (inb (S3.1 0 77) 400) (wr S3 52 (S3.1 0 77).toNatClampNeg a2 (fun S4 =>
      grd (inb (S4.1 0 77) 400) (wr S4 53 (S4.1 0 77).toNatClampNeg (1 : Int32) (fun S5 =>
      wr S5 0 77 ((S5.1 0 77) + (1 : Int32)) (fun S6 =>
      bndv (f_M_shift a1 a2 (1 : Int32) S6) (fun S7 =>
      some ((1 : Int32), S7))))))))))
theorem dX12_carries_0 : decode cX12_carries 0 = .ok (.iload_n 2, 1) := dc_28 (by decide +kernel)
theorem dX12_carries_1 : decode cX12_carries 1 = .ok (.bipush (-4), 2) := dc_16 (a := 252) (by decide +kernel) (by decide)
theorem dX12_carries_3 : decode cX12_carries 3 = .ok (.if_icmp .eq 13, 3) := dc_159 (a := 0) (b := 13) (by decide +kernel) (by decide)
theorem dX12_carries_6 : decode cX12_carries 6 = .ok (.aload_n 0, 1) := dc_42 (by decide +kernel)
theorem dX12_carries_7 : decode cX12_carries 7 = .ok (.iload_n 1, 1) := dc_27 (by decide +kernel)
theorem dX12_carries_8 : decode cX12_carries 8 = .ok (.iload_n 2, 1) := dc_28 (by decide +kernel)
theorem dX12_carries_9 : decode cX12_carries 9 = .ok (.iconst 1, 1) := dc_4 (by decide +kernel)
theorem dX12_carries_10 : decode cX12_carries 10 = .ok (.invokevirtual 482, 3) := dc_182 (a := 1) (b := 226) (by decide +kernel)
theorem dX12_carries_13 : decode cX12_carries 13 = .ok (.ifCond .ne 5, 3) := dc_154 (a := 0) (b := 5) (by decide +kernel) (by decide)
theorem dX12_carries_16 : decode cX12_carries 16 = .ok (.iconst 0, 1) := dc_3 (by decide +kernel)
theorem dX12_carries_17 : decode cX12_carries 17 = .ok (.ireturn, 1) := dc_172 (by decide +kernel)
theorem dX12_carries_18 : decode cX12_carries 18 = .ok (.aload_n 0, 1) := dc_42 (by decide +kernel)
theorem dX12_carries_19 : decode cX12_carries 19 = .ok (.getfield 171, 3) := dc_180 (a := 0) (b := 171) (by decide +kernel)
theorem dX12_carries_22 : decode cX12_carries 22 = .ok (.aload_n 0, 1) := dc_42 (by decide +kernel)
theorem dX12_carries_23 : decode cX12_carries 23 = .ok (.getfield 463, 3) := dc_180 (a := 1) (b := 207) (by decide +kernel)
theorem dX12_carries_26 : decode cX12_carries 26 = .ok (.iload_n 1, 1) := dc_27 (by decide +kernel)
theorem dX12_carries_27 : decode cX12_carries 27 = .ok (.iastore, 1) := dc_79 (by decide +kernel)
theorem dX12_carries_28 : decode cX12_carries 28 = .ok (.aload_n 0, 1) := dc_42 (by decide +kernel)
theorem dX12_carries_29 : decode cX12_carries 29 = .ok (.getfield 174, 3) := dc_180 (a := 0) (b := 174) (by decide +kernel)
theorem dX12_carries_32 : decode cX12_carries 32 = .ok (.aload_n 0, 1) := dc_42 (by decide +kernel)
theorem dX12_carries_33 : decode cX12_carries 33 = .ok (.getfield 463, 3) := dc_180 (a := 1) (b := 207) (by decide +kernel)
theorem dX12_carries_36 : decode cX12_carries 36 = .ok (.iload_n 2, 1) := dc_28 (by decide +kernel)
theorem dX12_carries_37 : decode cX12_carries 37 = .ok (.iastore, 1) := dc_79 (by decide +kernel)
theorem dX12_carries_38 : decode cX12_carries 38 = .ok (.aload_n 0, 1) := dc_42 (by decide +kernel)
theorem dX12_carries_39 : decode cX12_carries 39 = .ok (.getfield 177, 3) := dc_180 (a := 0) (b := 177) (by decide +kernel)
theorem dX12_carries_42 : decode cX12_carries 42 = .ok (.aload_n 0, 1) := dc_42 (by decide +kernel)
theorem dX12_carries_43 : decode cX12_carries 43 = .ok (.getfield 463, 3) := dc_180 (a := 1) (b := 207) (by decide +kernel)
theorem dX12_carries_46 : decode cX12_carries 46 = .ok (.iconst 1, 1) := dc_4 (by decide +kernel)
theorem dX12_carries_47 : decode cX12_carries 47 = .ok (.iastore, 1) := dc_79 (by decide +kernel)
theorem dX12_carries_48 : decode cX12_carries 48 = .ok (.aload_n 0, 1) := dc_42 (by decide +kernel)
theorem dX12_carries_49 : decode cX12_carries 49 = .ok (.dup, 1) := dc_89 (by decide +kernel)
theorem dX12_carries_50 : decode cX12_carries 50 = .ok (.getfield 463, 3) := dc_180 (a := 1) (b := 207) (by decide +kernel)
theorem dX12_carries_53 : decode cX12_carries 53 = .ok (.iconst 1, 1) := dc_4 (by decide +kernel)
theorem dX12_carries_54 : decode cX12_carries 54 = .ok (.iadd, 1) := dc_96 (by decide +kernel)
theorem dX12_carries_55 : decode cX12_carries 55 = .ok (.putfield 463, 3) := dc_181 (a := 1) (b := 207) (by decide +kernel)
theorem dX12_carries_58 : decode cX12_carries 58 = .ok (.aload_n 0, 1) := dc_42 (by decide +kernel)
theorem dX12_carries_59 : decode cX12_carries 59 = .ok (.iload_n 1, 1) := dc_27 (by decide +kernel)
theorem dX12_carries_60 : decode cX12_carries 60 = .ok (.iload_n 2, 1) := dc_28 (by decide +kernel)
theorem dX12_carries_61 : decode cX12_carries 61 = .ok (.iconst 1, 1) := dc_4 (by decide +kernel)
theorem dX12_carries_62 : decode cX12_carries 62 = .ok (.invokevirtual 485, 3) := dc_182 (a := 1) (b := 229) (by decide +kernel)
theorem dX12_carries_65 : decode cX12_carries 65 = .ok (.iconst 1, 1) := dc_4 (by decide +kernel)
theorem dX12_carries_66 : decode cX12_carries 66 = .ok (.ireturn, 1) := dc_172 (by decide +kernel)
set_option maxRecDepth 100000 in
set_option maxHeartbeats 4000000 in
theorem m_M_carries (a1 : Int32) (a2 : Int32) (S S' : SS) (r : Int32) (h : f_M_carries a1 a2 S = some (r, S')) : MT yX12_carries cX12_carries 3 (some .boolean) 1 24 (fun ad => [.ref (ad 0), .int a1, .int a2]) S (some (.int r)) S' := by
  refine MT.of RX12 (fun ad => [(0, .ref (ad 0)), (1, .int a1), (2, .int a2)]) (by decide) rfl (fun _ => Nat.le_of_ble_eq_true rfl) (fun _ => rfl) ?_
  intro p l e R s m args below meth c dC dI cs ad A hR1 hR2 F H locs ls w hl
  have hx := F.1.1
  have hb := F.1.2.1
  rw [f_M_carries] at h
  refine lv_iload_n (pc := 0) hx hb dX12_carries_0 rfl (lv_at hl 2 rfl) ?_
  refine lv_bipush (pc := 1) (v := -4) hx hb dX12_carries_1 (by decide) ?_
  refine lv_icmp_eq (pc := 3) (tgt := 16) hx hb dX12_carries_3 (by decide) (fun q => ?_) (fun q => ?_)
  · have h := ite_t q h
    refine lv_iconst (pc := 16) (v := 0) hx hb dX12_carries_16 (by decide) ?_
    exact s_zretc F w rfl h dX12_carries_17
  · have h := ite_f q h
    refine lv_aload_n (pc := 6) hx hb dX12_carries_6 rfl (lv_at hl 0 rfl) ?_
    refine lv_iload_n (pc := 7) hx hb dX12_carries_7 rfl (lv_at hl 1 rfl) ?_
    refine lv_iload_n (pc := 8) hx hb dX12_carries_8 rfl (lv_at hl 2 rfl) ?_
    refine lv_iconst (pc := 9) (v := 1) hx hb dX12_carries_9 (by decide) ?_
    obtain ⟨r2, S1, hc, h⟩ := bnd_t h
    refine s_cvi (pc := 10) [.int a1, .int a2, .int (1 : Int32)] (fun ad => [.ref (ad 0), .int a1, .int a2, .int (1 : Int32)]) F w (m_M_mayMove _ _ _ _ _ _ hc) rfl rfl hl.1 ds_0 vc_X12 rfl ok_X12_mayMove rfl kc_X12_mayMove kl_X12_482 ki_X12_mayMove kv_X12_mayMove kn_X12 ⟨Nat.le_trans (by decide) hR1, Nat.le_trans (by decide) hR2⟩ ⟨Nat.zero_le _, Nat.zero_le _⟩ (Nat.le_of_ble_eq_true rfl) dX12_carries_10 (fun H locs w => ?_)
    refine lv_if_ne (pc := 13) (tgt := 18) hx hb dX12_carries_13 (by decide) (fun q => ?_) (fun q => ?_)
    · have h := ite_f q h
      refine lv_aload_n (pc := 18) hx hb dX12_carries_18 rfl (lv_at hl 0 rfl) ?_
      refine s_getR (pc := 19) F w 51 ds_0 (j := 78) vc_X12 vi_X12 rfl (by decide) kf_X12_171 dX12_carries_19 ?_
      refine lv_aload_n (pc := 22) hx hb dX12_carries_22 rfl (lv_at hl 0 rfl) ?_
      refine s_getI (pc := 23) F w ds_0 (j := 77) vc_X12 vi_X12 rfl (by decide) kf_X12_463 dX12_carries_23 ?_
      refine lv_iload_n (pc := 26) hx hb dX12_carries_26 rfl (lv_at hl 1 rfl) ?_
      refine s_iast (pc := 27) F w ds_51 h dX12_carries_27 (fun S3 H locs h w => ?_)
      refine lv_aload_n (pc := 28) hx hb dX12_carries_28 rfl (lv_at hl 0 rfl) ?_
      refine s_getR (pc := 29) F w 52 ds_0 (j := 79) vc_X12 vi_X12 rfl (by decide) kf_X12_174 dX12_carries_29 ?_
      refine lv_aload_n (pc := 32) hx hb dX12_carries_32 rfl (lv_at hl 0 rfl) ?_
      refine s_getI (pc := 33) F w ds_0 (j := 77) vc_X12 vi_X12 rfl (by decide) kf_X12_463 dX12_carries_33 ?_
      refine lv_iload_n (pc := 36) hx hb dX12_carries_36 rfl (lv_at hl 2 rfl) ?_
      refine s_iast (pc := 37) F w ds_52 h dX12_carries_37 (fun S4 H locs h w => ?_)
      refine lv_aload_n (pc := 38) hx hb dX12_carries_38 rfl (lv_at hl 0 rfl) ?_
      refine s_getR (pc := 39) F w 53 ds_0 (j := 80) vc_X12 vi_X12 rfl (by decide) kf_X12_177 dX12_carries_39 ?_
      refine lv_aload_n (pc := 42) hx hb dX12_carries_42 rfl (lv_at hl 0 rfl) ?_
      refine s_getI (pc := 43) F w ds_0 (j := 77) vc_X12 vi_X12 rfl (by decide) kf_X12_463 dX12_carries_43 ?_
      refine lv_iconst (pc := 46) (v := 1) hx hb dX12_carries_46 (by decide) ?_
      refine s_iast (pc := 47) F w ds_53 h dX12_carries_47 (fun S5 H locs h w => ?_)
      refine lv_aload_n (pc := 48) hx hb dX12_carries_48 rfl (lv_at hl 0 rfl) ?_
      refine lv_dup (pc := 49) hx hb dX12_carries_49 rfl ?_
      refine s_getI (pc := 50) F w ds_0 (j := 77) vc_X12 vi_X12 rfl (by decide) kf_X12_463 dX12_carries_50 ?_
      refine lv_iconst (pc := 53) (v := 1) hx hb dX12_carries_53 (by decide) ?_
      refine lv_iadd (pc := 54) hx hb dX12_carries_54 ?_
      refine s_putI (pc := 55) F w ds_0 vc_X12 vi_X12 tyX12_ok nmX12 (j := 77) rfl (by decide) kf_X12_463 rfl pd_I h dX12_carries_55 (fun S6 H locs h w => ?_)
      refine lv_aload_n (pc := 58) hx hb dX12_carries_58 rfl (lv_at hl 0 rfl) ?_
      refine lv_iload_n (pc := 59) hx hb dX12_carries_59 rfl (lv_at hl 1 rfl) ?_
      refine lv_iload_n (pc := 60) hx hb dX12_carries_60 rfl (lv_at hl 2 rfl) ?_
      refine lv_iconst (pc := 61) (v := 1) hx hb dX12_carries_61 (by decide) ?_
      obtain ⟨S7, hc, h⟩ := bndv_t h
      refine s_cvv (pc := 62) [.int a1, .int a2, .int (1 : Int32)] (fun ad => [.ref (ad 0), .int a1, .int a2, .int (1 : Int32)]) F w (m_M_shift _ _ _ _ _ hc) rfl rfl hl.1 ds_0 vc_X12 rfl ok_X12_shift rfl kc_X12_shift kl_X12_485 ki_X12_shift kv_X12_shift kn_X12 ⟨Nat.le_trans (by decide) hR1, Nat.le_trans (by decide) hR2⟩ ⟨Nat.zero_le _, Nat.zero_le _⟩ (Nat.le_of_ble_eq_true rfl) dX12_carries_62 (fun H locs w => ?_)
      refine lv_iconst (pc := 65) (v := 1) hx hb dX12_carries_65 (by decide) ?_
      exact s_zretc F w rfl h dX12_carries_66
    · have h := ite_t q h
      refine lv_iconst (pc := 16) (v := 0) hx hb dX12_carries_16 (by decide) ?_
      exact s_zretc F w rfl h dX12_carries_17
def f_M_widest_j84 (K6 : Int32 → Int32 → Int32 → Int32 → SS → Option (Int32 × SS)) (x1 : Int32) (x2 : Int32) (x3 : Int32) (x4 : Int32) (S : SS) : Option (Int32 × SS) :=
    nm (x4 + (1 : Int32)) (fun z1 =>
    K6 x1 x2 x3 z1 S)
def f_M_widest_j81 (K6 : Int32 → Int32 → Int32 → Int32 → SS → Option (Int32 × SS)) (x1 : Int32) (x2 : Int32) (x4 : Int32) (S : SS) : Option (Int32 × SS) :=
    f_M_widest_j84 K6 x1 x2 x4 x4 S
def f_M_widest_L6  : Nat → Int32 → Int32 → Int32 → Int32 → SS → Option (Int32 × SS)
  | 0, _, _, _, _, _ => none
  | n + 1, x1, x2, x3, x4, S =>
    if (4 : Int32) ≤ x4 then
      some (x3, S)
    else
      if x4 = x1 then
        f_M_widest_j84 (fun v0 v1 v2 v3 S => f_M_widest_L6 n v0 v1 v2 v3 S) x1 x2 x3 x4 S
      else
        if x4 = x2 then
          f_M_widest_j84 (fun v0 v1 v2 v3 S => f_M_widest_L6 n v0 v1 v2 v3 S) x1 x2 x3 x4 S
        else
          grd (inb x4 4) (
          grd (inb x4 4) (
          if (S.1 58 x4.toNatClampNeg) < (S.1 46 x4.toNatClampNeg) then
            if x3 = (-4 : Int32) then
              f_M_widest_j81 (fun v0 v1 v2 v3 S => f_M_widest_L6 n v0 v1 v2 v3 S) x1 x2 x4 S
            else
              grd (inb x4 4) (
              grd (inb x4 4) (
              grd (inb x3 4) (
              grd (inb x3 4) (
              if ((S.1 46 x4.toNatClampNeg) - (S.1 58 x4.toNatClampNeg)) ≤ ((S.1 46 x3.toNatClampNeg) - (S.1 58 x3.toNatClampNeg)) then
                f_M_widest_j84 (fun v0 v1 v2 v3 S => f_M_widest_L6 n v0 v1 v2 v3 S) x1 x2 x3 x4 S
              else
                f_M_widest_j81 (fun v0 v1 v2 v3 S => f_M_widest_L6 n v0 v1 v2 v3 S) x1 x2 x4 S))))
          else
            f_M_widest_j84 (fun v0 v1 v2 v3 S => f_M_widest_L6 n v0 v1 v2 v3 S) x1 x2 x3 x4 S))
def f_M_widest (a1 : Int32) (a2 : Int32) (S : SS) : Option (Int32 × SS) :=
  f_M_widest_L6 NF a1 a2 (-4 : Int32) (0 : Int32) S
theorem dX12_widest_0 : decode cX12_widest 0 = .ok (.bipush (-4), 2) := dc_16 (a := 252) (by decide +kernel) (by decide)
theorem dX12_widest_2 : decode cX12_widest 2 = .ok (.istore_n 3, 1) := dc_62 (by decide +kernel)
theorem dX12_widest_3 : decode cX12_widest 3 = .ok (.iconst 0, 1) := dc_3 (by decide +kernel)
theorem dX12_widest_4 : decode cX12_widest 4 = .ok (.istore 4, 2) := dc_54 (a := 4) (by decide +kernel)
theorem dX12_widest_6 : decode cX12_widest 6 = .ok (.iload 4, 2) := dc_21 (a := 4) (by decide +kernel)
theorem dX12_widest_8 : decode cX12_widest 8 = .ok (.iconst 4, 1) := dc_7 (by decide +kernel)
theorem dX12_widest_9 : decode cX12_widest 9 = .ok (.if_icmp .ge 81, 3) := dc_162 (a := 0) (b := 81) (by decide +kernel) (by decide)
theorem dX12_widest_12 : decode cX12_widest 12 = .ok (.iload 4, 2) := dc_21 (a := 4) (by decide +kernel)
theorem dX12_widest_14 : decode cX12_widest 14 = .ok (.iload_n 1, 1) := dc_27 (by decide +kernel)
theorem dX12_widest_15 : decode cX12_widest 15 = .ok (.if_icmp .eq 69, 3) := dc_159 (a := 0) (b := 69) (by decide +kernel) (by decide)
theorem dX12_widest_18 : decode cX12_widest 18 = .ok (.iload 4, 2) := dc_21 (a := 4) (by decide +kernel)
theorem dX12_widest_20 : decode cX12_widest 20 = .ok (.iload_n 2, 1) := dc_28 (by decide +kernel)
theorem dX12_widest_21 : decode cX12_widest 21 = .ok (.if_icmp .eq 63, 3) := dc_159 (a := 0) (b := 63) (by decide +kernel) (by decide)
theorem dX12_widest_24 : decode cX12_widest 24 = .ok (.aload_n 0, 1) := dc_42 (by decide +kernel)
theorem dX12_widest_25 : decode cX12_widest 25 = .ok (.getfield 192, 3) := dc_180 (a := 0) (b := 192) (by decide +kernel)
theorem dX12_widest_28 : decode cX12_widest 28 = .ok (.iload 4, 2) := dc_21 (a := 4) (by decide +kernel)
theorem dX12_widest_30 : decode cX12_widest 30 = .ok (.iaload, 1) := dc_46 (by decide +kernel)
theorem dX12_widest_31 : decode cX12_widest 31 = .ok (.aload_n 0, 1) := dc_42 (by decide +kernel)
theorem dX12_widest_32 : decode cX12_widest 32 = .ok (.getfield 153, 3) := dc_180 (a := 0) (b := 153) (by decide +kernel)
theorem dX12_widest_35 : decode cX12_widest 35 = .ok (.iload 4, 2) := dc_21 (a := 4) (by decide +kernel)
theorem dX12_widest_37 : decode cX12_widest 37 = .ok (.iaload, 1) := dc_46 (by decide +kernel)
theorem dX12_widest_38 : decode cX12_widest 38 = .ok (.if_icmp .lt 6, 3) := dc_161 (a := 0) (b := 6) (by decide +kernel) (by decide)
theorem dX12_widest_41 : decode cX12_widest 41 = .ok (.goto 43, 3) := dc_167 (a := 0) (b := 43) (by decide +kernel) (by decide)
theorem dX12_widest_44 : decode cX12_widest 44 = .ok (.iload_n 3, 1) := dc_29 (by decide +kernel)
theorem dX12_widest_45 : decode cX12_widest 45 = .ok (.bipush (-4), 2) := dc_16 (a := 252) (by decide +kernel) (by decide)
theorem dX12_widest_47 : decode cX12_widest 47 = .ok (.if_icmp .eq 34, 3) := dc_159 (a := 0) (b := 34) (by decide +kernel) (by decide)
theorem dX12_widest_50 : decode cX12_widest 50 = .ok (.aload_n 0, 1) := dc_42 (by decide +kernel)
theorem dX12_widest_51 : decode cX12_widest 51 = .ok (.getfield 153, 3) := dc_180 (a := 0) (b := 153) (by decide +kernel)
theorem dX12_widest_54 : decode cX12_widest 54 = .ok (.iload 4, 2) := dc_21 (a := 4) (by decide +kernel)
theorem dX12_widest_56 : decode cX12_widest 56 = .ok (.iaload, 1) := dc_46 (by decide +kernel)
theorem dX12_widest_57 : decode cX12_widest 57 = .ok (.aload_n 0, 1) := dc_42 (by decide +kernel)
theorem dX12_widest_58 : decode cX12_widest 58 = .ok (.getfield 192, 3) := dc_180 (a := 0) (b := 192) (by decide +kernel)
theorem dX12_widest_61 : decode cX12_widest 61 = .ok (.iload 4, 2) := dc_21 (a := 4) (by decide +kernel)
theorem dX12_widest_63 : decode cX12_widest 63 = .ok (.iaload, 1) := dc_46 (by decide +kernel)
theorem dX12_widest_64 : decode cX12_widest 64 = .ok (.isub, 1) := dc_100 (by decide +kernel)
theorem dX12_widest_65 : decode cX12_widest 65 = .ok (.aload_n 0, 1) := dc_42 (by decide +kernel)
theorem dX12_widest_66 : decode cX12_widest 66 = .ok (.getfield 153, 3) := dc_180 (a := 0) (b := 153) (by decide +kernel)
theorem dX12_widest_69 : decode cX12_widest 69 = .ok (.iload_n 3, 1) := dc_29 (by decide +kernel)
theorem dX12_widest_70 : decode cX12_widest 70 = .ok (.iaload, 1) := dc_46 (by decide +kernel)
theorem dX12_widest_71 : decode cX12_widest 71 = .ok (.aload_n 0, 1) := dc_42 (by decide +kernel)
theorem dX12_widest_72 : decode cX12_widest 72 = .ok (.getfield 192, 3) := dc_180 (a := 0) (b := 192) (by decide +kernel)
theorem dX12_widest_75 : decode cX12_widest 75 = .ok (.iload_n 3, 1) := dc_29 (by decide +kernel)
theorem dX12_widest_76 : decode cX12_widest 76 = .ok (.iaload, 1) := dc_46 (by decide +kernel)
theorem dX12_widest_77 : decode cX12_widest 77 = .ok (.isub, 1) := dc_100 (by decide +kernel)
theorem dX12_widest_78 : decode cX12_widest 78 = .ok (.if_icmp .le 6, 3) := dc_164 (a := 0) (b := 6) (by decide +kernel) (by decide)
theorem dX12_widest_81 : decode cX12_widest 81 = .ok (.iload 4, 2) := dc_21 (a := 4) (by decide +kernel)
theorem dX12_widest_83 : decode cX12_widest 83 = .ok (.istore_n 3, 1) := dc_62 (by decide +kernel)
theorem dX12_widest_84 : decode cX12_widest 84 = .ok (.iinc 4 1, 3) := dc_132 (a := 4) (b := 1) (by decide +kernel) (by decide)
theorem dX12_widest_87 : decode cX12_widest 87 = .ok (.goto (-81), 3) := dc_167 (a := 255) (b := 175) (by decide +kernel) (by decide)
theorem dX12_widest_90 : decode cX12_widest 90 = .ok (.iload_n 3, 1) := dc_29 (by decide +kernel)
theorem dX12_widest_91 : decode cX12_widest 91 = .ok (.ireturn, 1) := dc_172 (by decide +kernel)
set_option maxRecDepth 100000 in
set_option maxHeartbeats 4000000 in
theorem w_M_widest_j84 {p : Program} {l : Launch} {e : Env} {R : Room} {s : State} {m : MethodId} {args : Array Value} {below : List Frame} {meth : Method} {c : Code} {dC : Nat → ClassId} {dI : Nat → Nat → Nat} {cs : Nat → ClassId} {ad : Nat → Nat} {A : Nat → Prop} {D0 : Nat → Nat} {S' : SS} {r : Int32} (F : Fx p s m args meth c cX12_widest 5 RX12 (some .int) dC dI cs A) (hR1 : 0 ≤ R.frames) (hR2 : 0 ≤ R.locals) (K6 : Int32 → Int32 → Int32 → Int32 → SS → Option (Int32 × SS)) (hK6 : ∀ (v0 : Int32) (v1 : Int32) (v2 : Int32) (v3 : Int32) (S : SS), K6 v0 v1 v2 v3 S = some (r, S') → AW p l e R s m args below meth c dC dI cs ad A D0 (some (.int r)) S' 5 6 [(0, .ref (ad 0)), (1, .int v0), (2, .int v1), (3, .int v2), (4, .int v3)] [] S) (x1 : Int32) (x2 : Int32) (x3 : Int32) (x4 : Int32) (S : SS) (h : f_M_widest_j84 K6 x1 x2 x3 x4 S = some (r, S')) : AW p l e R s m args below meth c dC dI cs ad A D0 (some (.int r)) S' 5 84 [(0, .ref (ad 0)), (1, .int x1), (2, .int x2), (3, .int x3), (4, .int x4)] [] S := by
  have hx := F.1.1
  have hb := F.1.2.1
  intro H locs ls w hl
  rw [f_M_widest_j84] at h
  refine s_nm h (fun z1 ez1 h => ?_)
  refine lv_iinc (pc := 84) (v := z1) (lv' := [(4, .int z1), (0, .ref (ad 0)), (1, .int x1), (2, .int x2), (3, .int x3)]) hx hb dX12_widest_84 hl (k := 4) rfl (by rw [ez1]; rfl) (by decide) rfl (fun ls hl => ?_)
  refine lv_goto (pc := 87) (tgt := 6) hx hb dX12_widest_87 (by decide) ?_
  exact hK6 _ _ _ _ _ h _ _ _ w (lv_sub hl [1, 2, 3, 4, 0] rfl)
set_option maxRecDepth 100000 in
set_option maxHeartbeats 4000000 in
theorem w_M_widest_j81 {p : Program} {l : Launch} {e : Env} {R : Room} {s : State} {m : MethodId} {args : Array Value} {below : List Frame} {meth : Method} {c : Code} {dC : Nat → ClassId} {dI : Nat → Nat → Nat} {cs : Nat → ClassId} {ad : Nat → Nat} {A : Nat → Prop} {D0 : Nat → Nat} {S' : SS} {r : Int32} (F : Fx p s m args meth c cX12_widest 5 RX12 (some .int) dC dI cs A) (hR1 : 0 ≤ R.frames) (hR2 : 0 ≤ R.locals) (K6 : Int32 → Int32 → Int32 → Int32 → SS → Option (Int32 × SS)) (hK6 : ∀ (v0 : Int32) (v1 : Int32) (v2 : Int32) (v3 : Int32) (S : SS), K6 v0 v1 v2 v3 S = some (r, S') → AW p l e R s m args below meth c dC dI cs ad A D0 (some (.int r)) S' 5 6 [(0, .ref (ad 0)), (1, .int v0), (2, .int v1), (3, .int v2), (4, .int v3)] [] S) (x1 : Int32) (x2 : Int32) (x4 : Int32) (S : SS) (h : f_M_widest_j81 K6 x1 x2 x4 S = some (r, S')) : AW p l e R s m args below meth c dC dI cs ad A D0 (some (.int r)) S' 5 81 [(0, .ref (ad 0)), (1, .int x1), (2, .int x2), (4, .int x4)] [] S := by
  have hx := F.1.1
  have hb := F.1.2.1
  intro H locs ls w hl
  rw [f_M_widest_j81] at h
  refine lv_iload (pc := 81) hx hb dX12_widest_81 (lv_at hl 3 rfl) ?_
  refine lv_istore_n (pc := 83) (lv' := [(3, .int x4), (0, .ref (ad 0)), (1, .int x1), (2, .int x2), (4, .int x4)]) hx hb dX12_widest_83 rfl hl (by decide) rfl (fun ls hl => ?_)
  exact w_M_widest_j84 F (Nat.le_trans (by decide) hR1) (Nat.le_trans (by decide) hR2) _ hK6 _ _ _ _ _ h _ _ _ w (lv_sub hl [1, 2, 3, 0, 4] rfl)
set_option maxRecDepth 100000 in
set_option maxHeartbeats 4000000 in
theorem w_M_widest_L6 {p : Program} {l : Launch} {e : Env} {R : Room} {s : State} {m : MethodId} {args : Array Value} {below : List Frame} {meth : Method} {c : Code} {dC : Nat → ClassId} {dI : Nat → Nat → Nat} {cs : Nat → ClassId} {ad : Nat → Nat} {A : Nat → Prop} {D0 : Nat → Nat} {S' : SS} {r : Int32} (F : Fx p s m args meth c cX12_widest 5 RX12 (some .int) dC dI cs A) (hR1 : 0 ≤ R.frames) (hR2 : 0 ≤ R.locals) : ∀ (n : Nat) (x1 : Int32) (x2 : Int32) (x3 : Int32) (x4 : Int32) (S : SS), f_M_widest_L6 n x1 x2 x3 x4 S = some (r, S') → AW p l e R s m args below meth c dC dI cs ad A D0 (some (.int r)) S' 5 6 [(0, .ref (ad 0)), (1, .int x1), (2, .int x2), (3, .int x3), (4, .int x4)] [] S := by
  have hx := F.1.1
  have hb := F.1.2.1
  intro n
  induction n with
  | zero => intro x1 x2 x3 x4 S h; cases h
  | succ n ih =>
    intro x1 x2 x3 x4 S h H locs ls w hl
    rw [f_M_widest_L6] at h
    refine lv_iload (pc := 6) hx hb dX12_widest_6 (lv_at hl 4 rfl) ?_
    refine lv_iconst (pc := 8) (v := 4) hx hb dX12_widest_8 (by decide) ?_
    refine lv_icmp_ge (pc := 9) (tgt := 90) hx hb dX12_widest_9 (by decide) (fun q => ?_) (fun q => ?_)
    · have h := ite_t q h
      refine lv_iload_n (pc := 90) hx hb dX12_widest_90 rfl (lv_at hl 3 rfl) ?_
      exact s_iret F w h dX12_widest_91
    · have h := ite_f q h
      refine lv_iload (pc := 12) hx hb dX12_widest_12 (lv_at hl 4 rfl) ?_
      refine lv_iload_n (pc := 14) hx hb dX12_widest_14 rfl (lv_at hl 1 rfl) ?_
      refine lv_icmp_eq (pc := 15) (tgt := 84) hx hb dX12_widest_15 (by decide) (fun q => ?_) (fun q => ?_)
      · have h := ite_t q h
        exact w_M_widest_j84 F (Nat.le_trans (by decide) hR1) (Nat.le_trans (by decide) hR2) _ (fun v0 v1 v2 v3 S h => ih v0 v1 v2 v3 S h) _ _ _ _ _ h _ _ _ w (lv_sub hl [0, 1, 2, 3, 4] rfl)
      · have h := ite_f q h
        refine lv_iload (pc := 18) hx hb dX12_widest_18 (lv_at hl 4 rfl) ?_
        refine lv_iload_n (pc := 20) hx hb dX12_widest_20 rfl (lv_at hl 2 rfl) ?_
        refine lv_icmp_eq (pc := 21) (tgt := 84) hx hb dX12_widest_21 (by decide) (fun q => ?_) (fun q => ?_)
        · have h := ite_t q h
          exact w_M_widest_j84 F (Nat.le_trans (by decide) hR1) (Nat.le_trans (by decide) hR2) _ (fun v0 v1 v2 v3 S h => ih v0 v1 v2 v3 S h) _ _ _ _ _ h _ _ _ w (lv_sub hl [0, 1, 2, 3, 4] rfl)
        · have h := ite_f q h
          refine lv_aload_n (pc := 24) hx hb dX12_widest_24 rfl (lv_at hl 0 rfl) ?_
          refine s_getR (pc := 25) F w 58 ds_0 (j := 86) vc_X12 vi_X12 rfl (by decide) kf_X12_192 dX12_widest_25 ?_
          refine lv_iload (pc := 28) hx hb dX12_widest_28 (lv_at hl 4 rfl) ?_
          refine s_iald (pc := 30) F w ds_58 h dX12_widest_30 (fun h => ?_)
          refine lv_aload_n (pc := 31) hx hb dX12_widest_31 rfl (lv_at hl 0 rfl) ?_
          refine s_getR (pc := 32) F w 46 ds_0 (j := 71) vc_X12 vi_X12 rfl (by decide) kf_X12_153 dX12_widest_32 ?_
          refine lv_iload (pc := 35) hx hb dX12_widest_35 (lv_at hl 4 rfl) ?_
          refine s_iald (pc := 37) F w ds_46 h dX12_widest_37 (fun h => ?_)
          refine lv_icmp_lt (pc := 38) (tgt := 44) hx hb dX12_widest_38 (by decide) (fun q => ?_) (fun q => ?_)
          · have h := ite_t q h
            refine lv_iload_n (pc := 44) hx hb dX12_widest_44 rfl (lv_at hl 3 rfl) ?_
            refine lv_bipush (pc := 45) (v := -4) hx hb dX12_widest_45 (by decide) ?_
            refine lv_icmp_eq (pc := 47) (tgt := 81) hx hb dX12_widest_47 (by decide) (fun q => ?_) (fun q => ?_)
            · have h := ite_t q h
              exact w_M_widest_j81 F (Nat.le_trans (by decide) hR1) (Nat.le_trans (by decide) hR2) _ (fun v0 v1 v2 v3 S h => ih v0 v1 v2 v3 S h) _ _ _ _ h _ _ _ w (lv_sub hl [0, 1, 2, 4] rfl)
            · have h := ite_f q h
              refine lv_aload_n (pc := 50) hx hb dX12_widest_50 rfl (lv_at hl 0 rfl) ?_
              refine s_getR (pc := 51) F w 46 ds_0 (j := 71) vc_X12 vi_X12 rfl (by decide) kf_X12_153 dX12_widest_51 ?_
              refine lv_iload (pc := 54) hx hb dX12_widest_54 (lv_at hl 4 rfl) ?_
              refine s_iald (pc := 56) F w ds_46 h dX12_widest_56 (fun h => ?_)
              refine lv_aload_n (pc := 57) hx hb dX12_widest_57 rfl (lv_at hl 0 rfl) ?_
              refine s_getR (pc := 58) F w 58 ds_0 (j := 86) vc_X12 vi_X12 rfl (by decide) kf_X12_192 dX12_widest_58 ?_
              refine lv_iload (pc := 61) hx hb dX12_widest_61 (lv_at hl 4 rfl) ?_
              refine s_iald (pc := 63) F w ds_58 h dX12_widest_63 (fun h => ?_)
              refine lv_isub (pc := 64) hx hb dX12_widest_64 ?_
              refine lv_aload_n (pc := 65) hx hb dX12_widest_65 rfl (lv_at hl 0 rfl) ?_
              refine s_getR (pc := 66) F w 46 ds_0 (j := 71) vc_X12 vi_X12 rfl (by decide) kf_X12_153 dX12_widest_66 ?_
              refine lv_iload_n (pc := 69) hx hb dX12_widest_69 rfl (lv_at hl 3 rfl) ?_
              refine s_iald (pc := 70) F w ds_46 h dX12_widest_70 (fun h => ?_)
              refine lv_aload_n (pc := 71) hx hb dX12_widest_71 rfl (lv_at hl 0 rfl) ?_
              refine s_getR (pc := 72) F w 58 ds_0 (j := 86) vc_X12 vi_X12 rfl (by decide) kf_X12_192 dX12_widest_72 ?_
              refine lv_iload_n (pc := 75) hx hb dX12_widest_75 rfl (lv_at hl 3 rfl) ?_
              refine s_iald (pc := 76) F w ds_58 h dX12_widest_76 (fun h => ?_)
              refine lv_isub (pc := 77) hx hb dX12_widest_77 ?_
              refine lv_icmp_le (pc := 78) (tgt := 84) hx hb dX12_widest_78 (by decide) (fun q => ?_) (fun q => ?_)
              · have h := ite_t q h
                exact w_M_widest_j84 F (Nat.le_trans (by decide) hR1) (Nat.le_trans (by decide) hR2) _ (fun v0 v1 v2 v3 S h => ih v0 v1 v2 v3 S h) _ _ _ _ _ h _ _ _ w (lv_sub hl [0, 1, 2, 3, 4] rfl)
              · have h := ite_f q h
                exact w_M_widest_j81 F (Nat.le_trans (by decide) hR1) (Nat.le_trans (by decide) hR2) _ (fun v0 v1 v2 v3 S h => ih v0 v1 v2 v3 S h) _ _ _ _ h _ _ _ w (lv_sub hl [0, 1, 2, 4] rfl)
          · have h := ite_f q h
            refine lv_goto (pc := 41) (tgt := 84) hx hb dX12_widest_41 (by decide) ?_
            exact w_M_widest_j84 F (Nat.le_trans (by decide) hR1) (Nat.le_trans (by decide) hR2) _ (fun v0 v1 v2 v3 S h => ih v0 v1 v2 v3 S h) _ _ _ _ _ h _ _ _ w (lv_sub hl [0, 1, 2, 3, 4] rfl)
set_option maxRecDepth 100000 in
set_option maxHeartbeats 4000000 in
theorem m_M_widest (a1 : Int32) (a2 : Int32) (S S' : SS) (r : Int32) (h : f_M_widest a1 a2 S = some (r, S')) : MT yX12_widest cX12_widest 5 (some .int) 0 0 (fun ad => [.ref (ad 0), .int a1, .int a2]) S (some (.int r)) S' := by
  refine MT.of RX12 (fun ad => [(0, .ref (ad 0)), (1, .int a1), (2, .int a2)]) (by decide) rfl (fun _ => Nat.le_of_ble_eq_true rfl) (fun _ => rfl) ?_
  intro p l e R s m args below meth c dC dI cs ad A hR1 hR2 F H locs ls w hl
  have hx := F.1.1
  have hb := F.1.2.1
  rw [f_M_widest] at h
  refine lv_bipush (pc := 0) (v := -4) hx hb dX12_widest_0 (by decide) ?_
  refine lv_istore_n (pc := 2) (lv' := [(3, .int (-4 : Int32)), (0, .ref (ad 0)), (1, .int a1), (2, .int a2)]) hx hb dX12_widest_2 rfl hl (by decide) rfl (fun ls hl => ?_)
  refine lv_iconst (pc := 3) (v := 0) hx hb dX12_widest_3 (by decide) ?_
  refine lv_istore (pc := 4) (lv' := [(4, .int (0 : Int32)), (3, .int (-4 : Int32)), (0, .ref (ad 0)), (1, .int a1), (2, .int a2)]) hx hb dX12_widest_4 hl (by decide) rfl (fun ls hl => ?_)
  exact w_M_widest_L6 F (Nat.le_trans (by decide) hR1) (Nat.le_trans (by decide) hR2) _ _ _ _ _ _ h _ _ _ w (lv_sub hl [2, 3, 4, 1, 0] rfl)
def f_M_byRule_j156 (K19 : Int32 → Int32 → SS → Option (Int32 × SS)) (x1 : Int32) (x2 : Int32) (S : SS) : Option (Int32 × SS) :=
    nm (x2 + (1 : Int32)) (fun z9 =>
    K19 x1 z9 S)
def f_M_byRule_L102 (K19 : Int32 → Int32 → SS → Option (Int32 × SS)) : Nat → Int32 → Int32 → Int32 → Int32 → SS → Option (Int32 × SS)
  | 0, _, _, _, _, _ => none
  | n + 1, x1, x2, x3, x4, S =>
    grd (inb x4 4) (
    grd (inb ((((10 : Int32) * x4) + (S.1 58 x4.toNatClampNeg)) - (1 : Int32)) 40) (
    if (S.1 57 ((((10 : Int32) * x4) + (S.1 58 x4.toNatClampNeg)) - (1 : Int32)).toNatClampNeg) = x3 then
      bnd (f_M_carries x4 x1 S) (fun r8 S7 =>
      if r8 = 0 then
        some ((0 : Int32), S7)
      else
        f_M_byRule_j156 K19 x1 x2 S7)
    else
      bnd (f_M_widest x1 x4 S) (fun r11 S10 =>
      bnd (f_M_carries x4 r11 S10) (fun r13 S12 =>
      if r13 = 0 then
        some ((0 : Int32), S12)
      else
        f_M_byRule_L102 K19 n x1 x2 x3 x4 S12))))
def f_M_byRule_L69 (K19 : Int32 → Int32 → SS → Option (Int32 × SS)) : Nat → Int32 → Int32 → Int32 → SS → Option (Int32 × SS)
  | 0, _, _, _, _ => none
  | n + 1, x1, x2, x3, S =>
    grd (inb x1 4) (
    if (S.1 58 x1.toNatClampNeg) ≤ x2 then
      bnd (f_M_stackOf x3 S) (fun r6 S5 =>
      f_M_byRule_L102 K19 NF x1 x2 x3 r6 S5)
    else
      bnd (f_M_widest x1 x1 S) (fun r15 S14 =>
      bnd (f_M_carries x1 r15 S14) (fun r17 S16 =>
      if r17 = 0 then
        some ((0 : Int32), S16)
      else
        f_M_byRule_L69 K19 n x1 x2 x3 S16)))
def f_M_byRule_L19 (K12 : Int32 → SS → Option (Int32 × SS)) : Nat → Int32 → Int32 → SS → Option (Int32 × SS)
  | 0, _, _, _ => none
  | n + 1, x1, x2, S =>
    grd (inb x1 4) (
    if (S.1 49 x1.toNatClampNeg) ≤ x2 then
      nm (x1 + (1 : Int32)) (fun z3 =>
      K12 z3 S)
    else
      grd (inb (((10 : Int32) * x1) + x2) 40) (
      nm (S.1 50 (((10 : Int32) * x1) + x2).toNatClampNeg) (fun z4 =>
      grd (inb x1 4) (
      if (S.1 58 x1.toNatClampNeg) ≤ x2 then
        f_M_byRule_L69 (fun v0 v1 S => f_M_byRule_L19 K12 n v0 v1 S) NF x1 x2 z4 S
      else
        grd (inb (((10 : Int32) * x1) + x2) 40) (
        if (S.1 57 (((10 : Int32) * x1) + x2).toNatClampNeg) = z4 then
          f_M_byRule_j156 (fun v0 v1 S => f_M_byRule_L19 K12 n v0 v1 S) x1 x2 S
        else
          f_M_byRule_L69 (fun v0 v1 S => f_M_byRule_L19 K12 n v0 v1 S) NF x1 x2 z4 S)))))
def f_M_byRule_L12  : Nat → Int32 → SS → Option (Int32 × SS)
  | 0, _, _ => none
  | n + 1, x1, S =>
    if (4 : Int32) ≤ x1 then
      some ((1 : Int32), S)
    else
      f_M_byRule_L19 (fun v0 S => f_M_byRule_L12 n v0 S) NF x1 (0 : Int32) S
def f_M_byRule  (S : SS) : Option (Int32 × SS) :=
  wr S 0 77 (0 : Int32) (fun S1 =>
  bndv (f_M_take (0 : Int32) S1) (fun S2 =>
  f_M_byRule_L12 NF (0 : Int32) S2))
theorem dX12_byRule_0 : decode cX12_byRule 0 = .ok (.aload_n 0, 1) := dc_42 (by decide +kernel)
theorem dX12_byRule_1 : decode cX12_byRule 1 = .ok (.iconst 0, 1) := dc_3 (by decide +kernel)
theorem dX12_byRule_2 : decode cX12_byRule 2 = .ok (.putfield 463, 3) := dc_181 (a := 1) (b := 207) (by decide +kernel)
theorem dX12_byRule_5 : decode cX12_byRule 5 = .ok (.aload_n 0, 1) := dc_42 (by decide +kernel)
theorem dX12_byRule_6 : decode cX12_byRule 6 = .ok (.iconst 0, 1) := dc_3 (by decide +kernel)
theorem dX12_byRule_7 : decode cX12_byRule 7 = .ok (.invokevirtual 472, 3) := dc_182 (a := 1) (b := 216) (by decide +kernel)
theorem dX12_byRule_10 : decode cX12_byRule 10 = .ok (.iconst 0, 1) := dc_3 (by decide +kernel)
theorem dX12_byRule_11 : decode cX12_byRule 11 = .ok (.istore_n 1, 1) := dc_60 (by decide +kernel)
theorem dX12_byRule_12 : decode cX12_byRule 12 = .ok (.iload_n 1, 1) := dc_27 (by decide +kernel)
theorem dX12_byRule_13 : decode cX12_byRule 13 = .ok (.iconst 4, 1) := dc_7 (by decide +kernel)
theorem dX12_byRule_14 : decode cX12_byRule 14 = .ok (.if_icmp .ge 154, 3) := dc_162 (a := 0) (b := 154) (by decide +kernel) (by decide)
theorem dX12_byRule_17 : decode cX12_byRule 17 = .ok (.iconst 0, 1) := dc_3 (by decide +kernel)
theorem dX12_byRule_18 : decode cX12_byRule 18 = .ok (.istore_n 2, 1) := dc_61 (by decide +kernel)
theorem dX12_byRule_19 : decode cX12_byRule 19 = .ok (.iload_n 2, 1) := dc_28 (by decide +kernel)
theorem dX12_byRule_20 : decode cX12_byRule 20 = .ok (.aload_n 0, 1) := dc_42 (by decide +kernel)
theorem dX12_byRule_21 : decode cX12_byRule 21 = .ok (.getfield 162, 3) := dc_180 (a := 0) (b := 162) (by decide +kernel)
theorem dX12_byRule_24 : decode cX12_byRule 24 = .ok (.iload_n 1, 1) := dc_27 (by decide +kernel)
theorem dX12_byRule_25 : decode cX12_byRule 25 = .ok (.iaload, 1) := dc_46 (by decide +kernel)
theorem dX12_byRule_26 : decode cX12_byRule 26 = .ok (.if_icmp .ge 136, 3) := dc_162 (a := 0) (b := 136) (by decide +kernel) (by decide)
theorem dX12_byRule_29 : decode cX12_byRule 29 = .ok (.aload_n 0, 1) := dc_42 (by decide +kernel)
theorem dX12_byRule_30 : decode cX12_byRule 30 = .ok (.getfield 165, 3) := dc_180 (a := 0) (b := 165) (by decide +kernel)
theorem dX12_byRule_33 : decode cX12_byRule 33 = .ok (.bipush 10, 2) := dc_16 (a := 10) (by decide +kernel) (by decide)
theorem dX12_byRule_35 : decode cX12_byRule 35 = .ok (.iload_n 1, 1) := dc_27 (by decide +kernel)
theorem dX12_byRule_36 : decode cX12_byRule 36 = .ok (.imul, 1) := dc_104 (by decide +kernel)
theorem dX12_byRule_37 : decode cX12_byRule 37 = .ok (.iload_n 2, 1) := dc_28 (by decide +kernel)
theorem dX12_byRule_38 : decode cX12_byRule 38 = .ok (.iadd, 1) := dc_96 (by decide +kernel)
theorem dX12_byRule_39 : decode cX12_byRule 39 = .ok (.iaload, 1) := dc_46 (by decide +kernel)
theorem dX12_byRule_40 : decode cX12_byRule 40 = .ok (.istore_n 3, 1) := dc_62 (by decide +kernel)
theorem dX12_byRule_41 : decode cX12_byRule 41 = .ok (.aload_n 0, 1) := dc_42 (by decide +kernel)
theorem dX12_byRule_42 : decode cX12_byRule 42 = .ok (.getfield 192, 3) := dc_180 (a := 0) (b := 192) (by decide +kernel)
theorem dX12_byRule_45 : decode cX12_byRule 45 = .ok (.iload_n 1, 1) := dc_27 (by decide +kernel)
theorem dX12_byRule_46 : decode cX12_byRule 46 = .ok (.iaload, 1) := dc_46 (by decide +kernel)
theorem dX12_byRule_47 : decode cX12_byRule 47 = .ok (.iload_n 2, 1) := dc_28 (by decide +kernel)
theorem dX12_byRule_48 : decode cX12_byRule 48 = .ok (.if_icmp .le 21, 3) := dc_164 (a := 0) (b := 21) (by decide +kernel) (by decide)
theorem dX12_byRule_51 : decode cX12_byRule 51 = .ok (.aload_n 0, 1) := dc_42 (by decide +kernel)
theorem dX12_byRule_52 : decode cX12_byRule 52 = .ok (.getfield 189, 3) := dc_180 (a := 0) (b := 189) (by decide +kernel)
theorem dX12_byRule_55 : decode cX12_byRule 55 = .ok (.bipush 10, 2) := dc_16 (a := 10) (by decide +kernel) (by decide)
theorem dX12_byRule_57 : decode cX12_byRule 57 = .ok (.iload_n 1, 1) := dc_27 (by decide +kernel)
theorem dX12_byRule_58 : decode cX12_byRule 58 = .ok (.imul, 1) := dc_104 (by decide +kernel)
theorem dX12_byRule_59 : decode cX12_byRule 59 = .ok (.iload_n 2, 1) := dc_28 (by decide +kernel)
theorem dX12_byRule_60 : decode cX12_byRule 60 = .ok (.iadd, 1) := dc_96 (by decide +kernel)
theorem dX12_byRule_61 : decode cX12_byRule 61 = .ok (.iaload, 1) := dc_46 (by decide +kernel)
theorem dX12_byRule_62 : decode cX12_byRule 62 = .ok (.iload_n 3, 1) := dc_29 (by decide +kernel)
theorem dX12_byRule_63 : decode cX12_byRule 63 = .ok (.if_icmp .ne 6, 3) := dc_160 (a := 0) (b := 6) (by decide +kernel) (by decide)
theorem dX12_byRule_66 : decode cX12_byRule 66 = .ok (.goto 90, 3) := dc_167 (a := 0) (b := 90) (by decide +kernel) (by decide)
theorem dX12_byRule_69 : decode cX12_byRule 69 = .ok (.aload_n 0, 1) := dc_42 (by decide +kernel)
theorem dX12_byRule_70 : decode cX12_byRule 70 = .ok (.getfield 192, 3) := dc_180 (a := 0) (b := 192) (by decide +kernel)
theorem dX12_byRule_73 : decode cX12_byRule 73 = .ok (.iload_n 1, 1) := dc_27 (by decide +kernel)
theorem dX12_byRule_74 : decode cX12_byRule 74 = .ok (.iaload, 1) := dc_46 (by decide +kernel)
theorem dX12_byRule_75 : decode cX12_byRule 75 = .ok (.iload_n 2, 1) := dc_28 (by decide +kernel)
theorem dX12_byRule_76 : decode cX12_byRule 76 = .ok (.if_icmp .le 19, 3) := dc_164 (a := 0) (b := 19) (by decide +kernel) (by decide)
theorem dX12_byRule_79 : decode cX12_byRule 79 = .ok (.aload_n 0, 1) := dc_42 (by decide +kernel)
theorem dX12_byRule_80 : decode cX12_byRule 80 = .ok (.iload_n 1, 1) := dc_27 (by decide +kernel)
theorem dX12_byRule_81 : decode cX12_byRule 81 = .ok (.aload_n 0, 1) := dc_42 (by decide +kernel)
theorem dX12_byRule_82 : decode cX12_byRule 82 = .ok (.iload_n 1, 1) := dc_27 (by decide +kernel)
theorem dX12_byRule_83 : decode cX12_byRule 83 = .ok (.iload_n 1, 1) := dc_27 (by decide +kernel)
theorem dX12_byRule_84 : decode cX12_byRule 84 = .ok (.invokevirtual 493, 3) := dc_182 (a := 1) (b := 237) (by decide +kernel)
theorem dX12_byRule_87 : decode cX12_byRule 87 = .ok (.invokevirtual 496, 3) := dc_182 (a := 1) (b := 240) (by decide +kernel)
theorem dX12_byRule_90 : decode cX12_byRule 90 = .ok (.ifCond .ne (-21), 3) := dc_154 (a := 255) (b := 235) (by decide +kernel) (by decide)
theorem dX12_byRule_93 : decode cX12_byRule 93 = .ok (.iconst 0, 1) := dc_3 (by decide +kernel)
theorem dX12_byRule_94 : decode cX12_byRule 94 = .ok (.ireturn, 1) := dc_172 (by decide +kernel)
theorem dX12_byRule_95 : decode cX12_byRule 95 = .ok (.aload_n 0, 1) := dc_42 (by decide +kernel)
theorem dX12_byRule_96 : decode cX12_byRule 96 = .ok (.iload_n 3, 1) := dc_29 (by decide +kernel)
theorem dX12_byRule_97 : decode cX12_byRule 97 = .ok (.invokevirtual 499, 3) := dc_182 (a := 1) (b := 243) (by decide +kernel)
theorem dX12_byRule_100 : decode cX12_byRule 100 = .ok (.istore 4, 2) := dc_54 (a := 4) (by decide +kernel)
theorem dX12_byRule_102 : decode cX12_byRule 102 = .ok (.aload_n 0, 1) := dc_42 (by decide +kernel)
theorem dX12_byRule_103 : decode cX12_byRule 103 = .ok (.getfield 189, 3) := dc_180 (a := 0) (b := 189) (by decide +kernel)
theorem dX12_byRule_106 : decode cX12_byRule 106 = .ok (.bipush 10, 2) := dc_16 (a := 10) (by decide +kernel) (by decide)
theorem dX12_byRule_108 : decode cX12_byRule 108 = .ok (.iload 4, 2) := dc_21 (a := 4) (by decide +kernel)
theorem dX12_byRule_110 : decode cX12_byRule 110 = .ok (.imul, 1) := dc_104 (by decide +kernel)
theorem dX12_byRule_111 : decode cX12_byRule 111 = .ok (.aload_n 0, 1) := dc_42 (by decide +kernel)
theorem dX12_byRule_112 : decode cX12_byRule 112 = .ok (.getfield 192, 3) := dc_180 (a := 0) (b := 192) (by decide +kernel)
theorem dX12_byRule_115 : decode cX12_byRule 115 = .ok (.iload 4, 2) := dc_21 (a := 4) (by decide +kernel)
theorem dX12_byRule_117 : decode cX12_byRule 117 = .ok (.iaload, 1) := dc_46 (by decide +kernel)
theorem dX12_byRule_118 : decode cX12_byRule 118 = .ok (.iadd, 1) := dc_96 (by decide +kernel)
theorem dX12_byRule_119 : decode cX12_byRule 119 = .ok (.iconst 1, 1) := dc_4 (by decide +kernel)
theorem dX12_byRule_120 : decode cX12_byRule 120 = .ok (.isub, 1) := dc_100 (by decide +kernel)
theorem dX12_byRule_121 : decode cX12_byRule 121 = .ok (.iaload, 1) := dc_46 (by decide +kernel)
theorem dX12_byRule_122 : decode cX12_byRule 122 = .ok (.iload_n 3, 1) := dc_29 (by decide +kernel)
theorem dX12_byRule_123 : decode cX12_byRule 123 = .ok (.if_icmp .eq 21, 3) := dc_159 (a := 0) (b := 21) (by decide +kernel) (by decide)
theorem dX12_byRule_126 : decode cX12_byRule 126 = .ok (.aload_n 0, 1) := dc_42 (by decide +kernel)
theorem dX12_byRule_127 : decode cX12_byRule 127 = .ok (.iload 4, 2) := dc_21 (a := 4) (by decide +kernel)
theorem dX12_byRule_129 : decode cX12_byRule 129 = .ok (.aload_n 0, 1) := dc_42 (by decide +kernel)
theorem dX12_byRule_130 : decode cX12_byRule 130 = .ok (.iload_n 1, 1) := dc_27 (by decide +kernel)
theorem dX12_byRule_131 : decode cX12_byRule 131 = .ok (.iload 4, 2) := dc_21 (a := 4) (by decide +kernel)
theorem dX12_byRule_133 : decode cX12_byRule 133 = .ok (.invokevirtual 493, 3) := dc_182 (a := 1) (b := 237) (by decide +kernel)
theorem dX12_byRule_136 : decode cX12_byRule 136 = .ok (.invokevirtual 496, 3) := dc_182 (a := 1) (b := 240) (by decide +kernel)
theorem dX12_byRule_139 : decode cX12_byRule 139 = .ok (.ifCond .ne (-37), 3) := dc_154 (a := 255) (b := 219) (by decide +kernel) (by decide)
theorem dX12_byRule_142 : decode cX12_byRule 142 = .ok (.iconst 0, 1) := dc_3 (by decide +kernel)
theorem dX12_byRule_143 : decode cX12_byRule 143 = .ok (.ireturn, 1) := dc_172 (by decide +kernel)
theorem dX12_byRule_144 : decode cX12_byRule 144 = .ok (.aload_n 0, 1) := dc_42 (by decide +kernel)
theorem dX12_byRule_145 : decode cX12_byRule 145 = .ok (.iload 4, 2) := dc_21 (a := 4) (by decide +kernel)
theorem dX12_byRule_147 : decode cX12_byRule 147 = .ok (.iload_n 1, 1) := dc_27 (by decide +kernel)
theorem dX12_byRule_148 : decode cX12_byRule 148 = .ok (.invokevirtual 496, 3) := dc_182 (a := 1) (b := 240) (by decide +kernel)
theorem dX12_byRule_151 : decode cX12_byRule 151 = .ok (.ifCond .ne 5, 3) := dc_154 (a := 0) (b := 5) (by decide +kernel) (by decide)
theorem dX12_byRule_154 : decode cX12_byRule 154 = .ok (.iconst 0, 1) := dc_3 (by decide +kernel)
theorem dX12_byRule_155 : decode cX12_byRule 155 = .ok (.ireturn, 1) := dc_172 (by decide +kernel)
theorem dX12_byRule_156 : decode cX12_byRule 156 = .ok (.iinc 2 1, 3) := dc_132 (a := 2) (b := 1) (by decide +kernel) (by decide)
theorem dX12_byRule_159 : decode cX12_byRule 159 = .ok (.goto (-140), 3) := dc_167 (a := 255) (b := 116) (by decide +kernel) (by decide)
theorem dX12_byRule_162 : decode cX12_byRule 162 = .ok (.iinc 1 1, 3) := dc_132 (a := 1) (b := 1) (by decide +kernel) (by decide)
theorem dX12_byRule_165 : decode cX12_byRule 165 = .ok (.goto (-153), 3) := dc_167 (a := 255) (b := 103) (by decide +kernel) (by decide)
theorem dX12_byRule_168 : decode cX12_byRule 168 = .ok (.iconst 1, 1) := dc_4 (by decide +kernel)
theorem dX12_byRule_169 : decode cX12_byRule 169 = .ok (.ireturn, 1) := dc_172 (by decide +kernel)
set_option maxRecDepth 100000 in
set_option maxHeartbeats 4000000 in
theorem w_M_byRule_j156 {p : Program} {l : Launch} {e : Env} {R : Room} {s : State} {m : MethodId} {args : Array Value} {below : List Frame} {meth : Method} {c : Code} {dC : Nat → ClassId} {dI : Nat → Nat → Nat} {cs : Nat → ClassId} {ad : Nat → Nat} {A : Nat → Prop} {D0 : Nat → Nat} {S' : SS} {r : Int32} (F : Fx p s m args meth c cX12_byRule 5 RX12 (some .boolean) dC dI cs A) (hR1 : 0 ≤ R.frames) (hR2 : 0 ≤ R.locals) (K19 : Int32 → Int32 → SS → Option (Int32 × SS)) (hK19 : ∀ (v0 : Int32) (v1 : Int32) (S : SS), K19 v0 v1 S = some (r, S') → AW p l e R s m args below meth c dC dI cs ad A D0 (some (.int r)) S' 5 19 [(0, .ref (ad 0)), (1, .int v0), (2, .int v1)] [] S) (x1 : Int32) (x2 : Int32) (S : SS) (h : f_M_byRule_j156 K19 x1 x2 S = some (r, S')) : AW p l e R s m args below meth c dC dI cs ad A D0 (some (.int r)) S' 5 156 [(0, .ref (ad 0)), (1, .int x1), (2, .int x2)] [] S := by
  have hx := F.1.1
  have hb := F.1.2.1
  intro H locs ls w hl
  rw [f_M_byRule_j156] at h
  refine s_nm h (fun z9 ez9 h => ?_)
  refine lv_iinc (pc := 156) (v := z9) (lv' := [(2, .int z9), (0, .ref (ad 0)), (1, .int x1)]) hx hb dX12_byRule_156 hl (k := 2) rfl (by rw [ez9]; rfl) (by decide) rfl (fun ls hl => ?_)
  refine lv_goto (pc := 159) (tgt := 19) hx hb dX12_byRule_159 (by decide) ?_
  exact hK19 _ _ _ h _ _ _ w (lv_sub hl [1, 2, 0] rfl)
set_option maxRecDepth 100000 in
set_option maxHeartbeats 4000000 in
theorem w_M_byRule_L102 {p : Program} {l : Launch} {e : Env} {R : Room} {s : State} {m : MethodId} {args : Array Value} {below : List Frame} {meth : Method} {c : Code} {dC : Nat → ClassId} {dI : Nat → Nat → Nat} {cs : Nat → ClassId} {ad : Nat → Nat} {A : Nat → Prop} {D0 : Nat → Nat} {S' : SS} {r : Int32} (F : Fx p s m args meth c cX12_byRule 5 RX12 (some .boolean) dC dI cs A) (hR1 : 2 ≤ R.frames) (hR2 : 46 ≤ R.locals) (K19 : Int32 → Int32 → SS → Option (Int32 × SS)) (hK19 : ∀ (v0 : Int32) (v1 : Int32) (S : SS), K19 v0 v1 S = some (r, S') → AW p l e R s m args below meth c dC dI cs ad A D0 (some (.int r)) S' 5 19 [(0, .ref (ad 0)), (1, .int v0), (2, .int v1)] [] S) : ∀ (n : Nat) (x1 : Int32) (x2 : Int32) (x3 : Int32) (x4 : Int32) (S : SS), f_M_byRule_L102 K19 n x1 x2 x3 x4 S = some (r, S') → AW p l e R s m args below meth c dC dI cs ad A D0 (some (.int r)) S' 5 102 [(0, .ref (ad 0)), (1, .int x1), (2, .int x2), (3, .int x3), (4, .int x4)] [] S := by
  have hx := F.1.1
  have hb := F.1.2.1
  intro n
  induction n with
  | zero => intro x1 x2 x3 x4 S h; cases h
  | succ n ih =>
    intro x1 x2 x3 x4 S h H locs ls w hl
    rw [f_M_byRule_L102] at h
    refine lv_aload_n (pc := 102) hx hb dX12_byRule_102 rfl (lv_at hl 0 rfl) ?_
    refine s_getR (pc := 103) F w 57 ds_0 (j := 85) vc_X12 vi_X12 rfl (by decide) kf_X12_189 dX12_byRule_103 ?_
    refine lv_bipush (pc := 106) (v := 10) hx hb dX12_byRule_106 (by decide) ?_
    refine lv_iload (pc := 108) hx hb dX12_byRule_108 (lv_at hl 4 rfl) ?_
    refine lv_imul (pc := 110) hx hb dX12_byRule_110 ?_
    refine lv_aload_n (pc := 111) hx hb dX12_byRule_111 rfl (lv_at hl 0 rfl) ?_
    refine s_getR (pc := 112) F w 58 ds_0 (j := 86) vc_X12 vi_X12 rfl (by decide) kf_X12_192 dX12_byRule_112 ?_
    refine lv_iload (pc := 115) hx hb dX12_byRule_115 (lv_at hl 4 rfl) ?_
    refine s_iald (pc := 117) F w ds_58 h dX12_byRule_117 (fun h => ?_)
    refine lv_iadd (pc := 118) hx hb dX12_byRule_118 ?_
    refine lv_iconst (pc := 119) (v := 1) hx hb dX12_byRule_119 (by decide) ?_
    refine lv_isub (pc := 120) hx hb dX12_byRule_120 ?_
    refine s_iald (pc := 121) F w ds_57 h dX12_byRule_121 (fun h => ?_)
    refine lv_iload_n (pc := 122) hx hb dX12_byRule_122 rfl (lv_at hl 3 rfl) ?_
    refine lv_icmp_eq (pc := 123) (tgt := 144) hx hb dX12_byRule_123 (by decide) (fun q => ?_) (fun q => ?_)
    · have h := ite_t q h
      refine lv_aload_n (pc := 144) hx hb dX12_byRule_144 rfl (lv_at hl 0 rfl) ?_
      refine lv_iload (pc := 145) hx hb dX12_byRule_145 (lv_at hl 4 rfl) ?_
      refine lv_iload_n (pc := 147) hx hb dX12_byRule_147 rfl (lv_at hl 1 rfl) ?_
      obtain ⟨r8, S7, hc, h⟩ := bnd_t h
      refine s_cvi (pc := 148) [.int x4, .int x1] (fun ad => [.ref (ad 0), .int x4, .int x1]) F w (m_M_carries _ _ _ _ _ hc) rfl rfl hl.1 ds_0 vc_X12 rfl ok_X12_carries rfl kc_X12_carries kl_X12_496 ki_X12_carries kv_X12_carries kn_X12 ⟨Nat.le_trans (by decide) hR1, Nat.le_trans (by decide) hR2⟩ ⟨Nat.zero_le _, Nat.zero_le _⟩ (Nat.le_of_ble_eq_true rfl) dX12_byRule_148 (fun H locs w => ?_)
      refine lv_if_ne (pc := 151) (tgt := 156) hx hb dX12_byRule_151 (by decide) (fun q => ?_) (fun q => ?_)
      · have h := ite_f q h
        exact w_M_byRule_j156 F (Nat.le_trans (by decide) hR1) (Nat.le_trans (by decide) hR2) _ hK19 _ _ _ h _ _ _ w (lv_sub hl [0, 1, 2] rfl)
      · have h := ite_t q h
        refine lv_iconst (pc := 154) (v := 0) hx hb dX12_byRule_154 (by decide) ?_
        exact s_zretc F w rfl h dX12_byRule_155
    · have h := ite_f q h
      refine lv_aload_n (pc := 126) hx hb dX12_byRule_126 rfl (lv_at hl 0 rfl) ?_
      refine lv_iload (pc := 127) hx hb dX12_byRule_127 (lv_at hl 4 rfl) ?_
      refine lv_aload_n (pc := 129) hx hb dX12_byRule_129 rfl (lv_at hl 0 rfl) ?_
      refine lv_iload_n (pc := 130) hx hb dX12_byRule_130 rfl (lv_at hl 1 rfl) ?_
      refine lv_iload (pc := 131) hx hb dX12_byRule_131 (lv_at hl 4 rfl) ?_
      obtain ⟨r11, S10, hc, h⟩ := bnd_t h
      refine s_cvi (pc := 133) [.int x1, .int x4] (fun ad => [.ref (ad 0), .int x1, .int x4]) F w (m_M_widest _ _ _ _ _ hc) rfl rfl hl.1 ds_0 vc_X12 rfl ok_X12_widest rfl kc_X12_widest kl_X12_493 ki_X12_widest kv_X12_widest kn_X12 ⟨Nat.le_trans (by decide) hR1, Nat.le_trans (by decide) hR2⟩ ⟨Nat.zero_le _, Nat.zero_le _⟩ (Nat.le_of_ble_eq_true rfl) dX12_byRule_133 (fun H locs w => ?_)
      obtain ⟨r13, S12, hc, h⟩ := bnd_t h
      refine s_cvi (pc := 136) [.int x4, .int r11] (fun ad => [.ref (ad 0), .int x4, .int r11]) F w (m_M_carries _ _ _ _ _ hc) rfl rfl hl.1 ds_0 vc_X12 rfl ok_X12_carries rfl kc_X12_carries kl_X12_496 ki_X12_carries kv_X12_carries kn_X12 ⟨Nat.le_trans (by decide) hR1, Nat.le_trans (by decide) hR2⟩ ⟨Nat.zero_le _, Nat.zero_le _⟩ (Nat.le_of_ble_eq_true rfl) dX12_byRule_136 (fun H locs w => ?_)
      refine lv_if_ne (pc := 139) (tgt := 102) hx hb dX12_byRule_139 (by decide) (fun q => ?_) (fun q => ?_)
      · have h := ite_f q h
        exact ih _ _ _ _ _ h _ _ _ w (lv_sub hl [0, 1, 2, 3, 4] rfl)
      · have h := ite_t q h
        refine lv_iconst (pc := 142) (v := 0) hx hb dX12_byRule_142 (by decide) ?_
        exact s_zretc F w rfl h dX12_byRule_143
set_option maxRecDepth 100000 in
set_option maxHeartbeats 4000000 in
theorem w_M_byRule_L69 {p : Program} {l : Launch} {e : Env} {R : Room} {s : State} {m : MethodId} {args : Array Value} {below : List Frame} {meth : Method} {c : Code} {dC : Nat → ClassId} {dI : Nat → Nat → Nat} {cs : Nat → ClassId} {ad : Nat → Nat} {A : Nat → Prop} {D0 : Nat → Nat} {S' : SS} {r : Int32} (F : Fx p s m args meth c cX12_byRule 5 RX12 (some .boolean) dC dI cs A) (hR1 : 2 ≤ R.frames) (hR2 : 46 ≤ R.locals) (K19 : Int32 → Int32 → SS → Option (Int32 × SS)) (hK19 : ∀ (v0 : Int32) (v1 : Int32) (S : SS), K19 v0 v1 S = some (r, S') → AW p l e R s m args below meth c dC dI cs ad A D0 (some (.int r)) S' 5 19 [(0, .ref (ad 0)), (1, .int v0), (2, .int v1)] [] S) : ∀ (n : Nat) (x1 : Int32) (x2 : Int32) (x3 : Int32) (S : SS), f_M_byRule_L69 K19 n x1 x2 x3 S = some (r, S') → AW p l e R s m args below meth c dC dI cs ad A D0 (some (.int r)) S' 5 69 [(0, .ref (ad 0)), (1, .int x1), (2, .int x2), (3, .int x3)] [] S := by
  have hx := F.1.1
  have hb := F.1.2.1
  intro n
  induction n with
  | zero => intro x1 x2 x3 S h; cases h
  | succ n ih =>
    intro x1 x2 x3 S h H locs ls w hl
    rw [f_M_byRule_L69] at h
    refine lv_aload_n (pc := 69) hx hb dX12_byRule_69 rfl (lv_at hl 0 rfl) ?_
    refine s_getR (pc := 70) F w 58 ds_0 (j := 86) vc_X12 vi_X12 rfl (by decide) kf_X12_192 dX12_byRule_70 ?_
    refine lv_iload_n (pc := 73) hx hb dX12_byRule_73 rfl (lv_at hl 1 rfl) ?_
    refine s_iald (pc := 74) F w ds_58 h dX12_byRule_74 (fun h => ?_)
    refine lv_iload_n (pc := 75) hx hb dX12_byRule_75 rfl (lv_at hl 2 rfl) ?_
    refine lv_icmp_le (pc := 76) (tgt := 95) hx hb dX12_byRule_76 (by decide) (fun q => ?_) (fun q => ?_)
    · have h := ite_t q h
      refine lv_aload_n (pc := 95) hx hb dX12_byRule_95 rfl (lv_at hl 0 rfl) ?_
      refine lv_iload_n (pc := 96) hx hb dX12_byRule_96 rfl (lv_at hl 3 rfl) ?_
      obtain ⟨r6, S5, hc, h⟩ := bnd_t h
      refine s_cvi (pc := 97) [.int x3] (fun ad => [.ref (ad 0), .int x3]) F w (m_M_stackOf _ _ _ _ hc) rfl rfl hl.1 ds_0 vc_X12 rfl ok_X12_stackOf rfl kc_X12_stackOf kl_X12_499 ki_X12_stackOf kv_X12_stackOf kn_X12 ⟨Nat.le_trans (by decide) hR1, Nat.le_trans (by decide) hR2⟩ ⟨Nat.zero_le _, Nat.zero_le _⟩ (Nat.le_of_ble_eq_true rfl) dX12_byRule_97 (fun H locs w => ?_)
      refine lv_istore (pc := 100) (lv' := [(4, .int r6), (0, .ref (ad 0)), (1, .int x1), (2, .int x2), (3, .int x3)]) hx hb dX12_byRule_100 hl (by decide) rfl (fun ls hl => ?_)
      exact w_M_byRule_L102 F (Nat.le_trans (by decide) hR1) (Nat.le_trans (by decide) hR2) _ hK19 _ _ _ _ _ _ h _ _ _ w (lv_sub hl [1, 2, 3, 4, 0] rfl)
    · have h := ite_f q h
      refine lv_aload_n (pc := 79) hx hb dX12_byRule_79 rfl (lv_at hl 0 rfl) ?_
      refine lv_iload_n (pc := 80) hx hb dX12_byRule_80 rfl (lv_at hl 1 rfl) ?_
      refine lv_aload_n (pc := 81) hx hb dX12_byRule_81 rfl (lv_at hl 0 rfl) ?_
      refine lv_iload_n (pc := 82) hx hb dX12_byRule_82 rfl (lv_at hl 1 rfl) ?_
      refine lv_iload_n (pc := 83) hx hb dX12_byRule_83 rfl (lv_at hl 1 rfl) ?_
      obtain ⟨r15, S14, hc, h⟩ := bnd_t h
      refine s_cvi (pc := 84) [.int x1, .int x1] (fun ad => [.ref (ad 0), .int x1, .int x1]) F w (m_M_widest _ _ _ _ _ hc) rfl rfl hl.1 ds_0 vc_X12 rfl ok_X12_widest rfl kc_X12_widest kl_X12_493 ki_X12_widest kv_X12_widest kn_X12 ⟨Nat.le_trans (by decide) hR1, Nat.le_trans (by decide) hR2⟩ ⟨Nat.zero_le _, Nat.zero_le _⟩ (Nat.le_of_ble_eq_true rfl) dX12_byRule_84 (fun H locs w => ?_)
      obtain ⟨r17, S16, hc, h⟩ := bnd_t h
      refine s_cvi (pc := 87) [.int x1, .int r15] (fun ad => [.ref (ad 0), .int x1, .int r15]) F w (m_M_carries _ _ _ _ _ hc) rfl rfl hl.1 ds_0 vc_X12 rfl ok_X12_carries rfl kc_X12_carries kl_X12_496 ki_X12_carries kv_X12_carries kn_X12 ⟨Nat.le_trans (by decide) hR1, Nat.le_trans (by decide) hR2⟩ ⟨Nat.zero_le _, Nat.zero_le _⟩ (Nat.le_of_ble_eq_true rfl) dX12_byRule_87 (fun H locs w => ?_)
      refine lv_if_ne (pc := 90) (tgt := 69) hx hb dX12_byRule_90 (by decide) (fun q => ?_) (fun q => ?_)
      · have h := ite_f q h
        exact ih _ _ _ _ h _ _ _ w (lv_sub hl [0, 1, 2, 3] rfl)
      · have h := ite_t q h
        refine lv_iconst (pc := 93) (v := 0) hx hb dX12_byRule_93 (by decide) ?_
        exact s_zretc F w rfl h dX12_byRule_94
set_option maxRecDepth 100000 in
set_option maxHeartbeats 4000000 in
theorem w_M_byRule_L19 {p : Program} {l : Launch} {e : Env} {R : Room} {s : State} {m : MethodId} {args : Array Value} {below : List Frame} {meth : Method} {c : Code} {dC : Nat → ClassId} {dI : Nat → Nat → Nat} {cs : Nat → ClassId} {ad : Nat → Nat} {A : Nat → Prop} {D0 : Nat → Nat} {S' : SS} {r : Int32} (F : Fx p s m args meth c cX12_byRule 5 RX12 (some .boolean) dC dI cs A) (hR1 : 2 ≤ R.frames) (hR2 : 46 ≤ R.locals) (K12 : Int32 → SS → Option (Int32 × SS)) (hK12 : ∀ (v0 : Int32) (S : SS), K12 v0 S = some (r, S') → AW p l e R s m args below meth c dC dI cs ad A D0 (some (.int r)) S' 5 12 [(0, .ref (ad 0)), (1, .int v0)] [] S) : ∀ (n : Nat) (x1 : Int32) (x2 : Int32) (S : SS), f_M_byRule_L19 K12 n x1 x2 S = some (r, S') → AW p l e R s m args below meth c dC dI cs ad A D0 (some (.int r)) S' 5 19 [(0, .ref (ad 0)), (1, .int x1), (2, .int x2)] [] S := by
  have hx := F.1.1
  have hb := F.1.2.1
  intro n
  induction n with
  | zero => intro x1 x2 S h; cases h
  | succ n ih =>
    intro x1 x2 S h H locs ls w hl
    rw [f_M_byRule_L19] at h
    refine lv_iload_n (pc := 19) hx hb dX12_byRule_19 rfl (lv_at hl 2 rfl) ?_
    refine lv_aload_n (pc := 20) hx hb dX12_byRule_20 rfl (lv_at hl 0 rfl) ?_
    refine s_getR (pc := 21) F w 49 ds_0 (j := 74) vc_X12 vi_X12 rfl (by decide) kf_X12_162 dX12_byRule_21 ?_
    refine lv_iload_n (pc := 24) hx hb dX12_byRule_24 rfl (lv_at hl 1 rfl) ?_
    refine s_iald (pc := 25) F w ds_49 h dX12_byRule_25 (fun h => ?_)
    refine lv_icmp_ge (pc := 26) (tgt := 162) hx hb dX12_byRule_26 (by decide) (fun q => ?_) (fun q => ?_)
    · have h := ite_t q h
      refine s_nm h (fun z3 ez3 h => ?_)
      refine lv_iinc (pc := 162) (v := z3) (lv' := [(1, .int z3), (0, .ref (ad 0)), (2, .int x2)]) hx hb dX12_byRule_162 hl (k := 1) rfl (by rw [ez3]; rfl) (by decide) rfl (fun ls hl => ?_)
      refine lv_goto (pc := 165) (tgt := 12) hx hb dX12_byRule_165 (by decide) ?_
      exact hK12 _ _ h _ _ _ w (lv_sub hl [1, 0] rfl)
    · have h := ite_f q h
      refine lv_aload_n (pc := 29) hx hb dX12_byRule_29 rfl (lv_at hl 0 rfl) ?_
      refine s_getR (pc := 30) F w 50 ds_0 (j := 75) vc_X12 vi_X12 rfl (by decide) kf_X12_165 dX12_byRule_30 ?_
      refine lv_bipush (pc := 33) (v := 10) hx hb dX12_byRule_33 (by decide) ?_
      refine lv_iload_n (pc := 35) hx hb dX12_byRule_35 rfl (lv_at hl 1 rfl) ?_
      refine lv_imul (pc := 36) hx hb dX12_byRule_36 ?_
      refine lv_iload_n (pc := 37) hx hb dX12_byRule_37 rfl (lv_at hl 2 rfl) ?_
      refine lv_iadd (pc := 38) hx hb dX12_byRule_38 ?_
      refine s_iald (pc := 39) F w ds_50 h dX12_byRule_39 (fun h => ?_)
      refine s_nm h (fun z4 ez4 h => ?_)
      rw [← ez4]
      refine lv_istore_n (pc := 40) (lv' := [(3, .int z4), (0, .ref (ad 0)), (1, .int x1), (2, .int x2)]) hx hb dX12_byRule_40 rfl hl (by decide) rfl (fun ls hl => ?_)
      refine lv_aload_n (pc := 41) hx hb dX12_byRule_41 rfl (lv_at hl 1 rfl) ?_
      refine s_getR (pc := 42) F w 58 ds_0 (j := 86) vc_X12 vi_X12 rfl (by decide) kf_X12_192 dX12_byRule_42 ?_
      refine lv_iload_n (pc := 45) hx hb dX12_byRule_45 rfl (lv_at hl 2 rfl) ?_
      refine s_iald (pc := 46) F w ds_58 h dX12_byRule_46 (fun h => ?_)
      refine lv_iload_n (pc := 47) hx hb dX12_byRule_47 rfl (lv_at hl 3 rfl) ?_
      refine lv_icmp_le (pc := 48) (tgt := 69) hx hb dX12_byRule_48 (by decide) (fun q => ?_) (fun q => ?_)
      · have h := ite_t q h
        exact w_M_byRule_L69 F (Nat.le_trans (by decide) hR1) (Nat.le_trans (by decide) hR2) _ (fun v0 v1 S h => ih v0 v1 S h) _ _ _ _ _ h _ _ _ w (lv_sub hl [1, 2, 3, 0] rfl)
      · have h := ite_f q h
        refine lv_aload_n (pc := 51) hx hb dX12_byRule_51 rfl (lv_at hl 1 rfl) ?_
        refine s_getR (pc := 52) F w 57 ds_0 (j := 85) vc_X12 vi_X12 rfl (by decide) kf_X12_189 dX12_byRule_52 ?_
        refine lv_bipush (pc := 55) (v := 10) hx hb dX12_byRule_55 (by decide) ?_
        refine lv_iload_n (pc := 57) hx hb dX12_byRule_57 rfl (lv_at hl 2 rfl) ?_
        refine lv_imul (pc := 58) hx hb dX12_byRule_58 ?_
        refine lv_iload_n (pc := 59) hx hb dX12_byRule_59 rfl (lv_at hl 3 rfl) ?_
        refine lv_iadd (pc := 60) hx hb dX12_byRule_60 ?_
        refine s_iald (pc := 61) F w ds_57 h dX12_byRule_61 (fun h => ?_)
        refine lv_iload_n (pc := 62) hx hb dX12_byRule_62 rfl (lv_at hl 0 rfl) ?_
        refine lv_icmp_ne (pc := 63) (tgt := 69) hx hb dX12_byRule_63 (by decide) (fun q => ?_) (fun q => ?_)
        · have h := ite_f q h
          exact w_M_byRule_L69 F (Nat.le_trans (by decide) hR1) (Nat.le_trans (by decide) hR2) _ (fun v0 v1 S h => ih v0 v1 S h) _ _ _ _ _ h _ _ _ w (lv_sub hl [1, 2, 3, 0] rfl)
        · have h := ite_t q h
          refine lv_goto (pc := 66) (tgt := 156) hx hb dX12_byRule_66 (by decide) ?_
          exact w_M_byRule_j156 F (Nat.le_trans (by decide) hR1) (Nat.le_trans (by decide) hR2) _ (fun v0 v1 S h => ih v0 v1 S h) _ _ _ h _ _ _ w (lv_sub hl [1, 2, 3] rfl)
set_option maxRecDepth 100000 in
set_option maxHeartbeats 4000000 in
theorem w_M_byRule_L12 {p : Program} {l : Launch} {e : Env} {R : Room} {s : State} {m : MethodId} {args : Array Value} {below : List Frame} {meth : Method} {c : Code} {dC : Nat → ClassId} {dI : Nat → Nat → Nat} {cs : Nat → ClassId} {ad : Nat → Nat} {A : Nat → Prop} {D0 : Nat → Nat} {S' : SS} {r : Int32} (F : Fx p s m args meth c cX12_byRule 5 RX12 (some .boolean) dC dI cs A) (hR1 : 2 ≤ R.frames) (hR2 : 46 ≤ R.locals) : ∀ (n : Nat) (x1 : Int32) (S : SS), f_M_byRule_L12 n x1 S = some (r, S') → AW p l e R s m args below meth c dC dI cs ad A D0 (some (.int r)) S' 5 12 [(0, .ref (ad 0)), (1, .int x1)] [] S := by
  have hx := F.1.1
  have hb := F.1.2.1
  intro n
  induction n with
  | zero => intro x1 S h; cases h
  | succ n ih =>
    intro x1 S h H locs ls w hl
    rw [f_M_byRule_L12] at h
    refine lv_iload_n (pc := 12) hx hb dX12_byRule_12 rfl (lv_at hl 1 rfl) ?_
    refine lv_iconst (pc := 13) (v := 4) hx hb dX12_byRule_13 (by decide) ?_
    refine lv_icmp_ge (pc := 14) (tgt := 168) hx hb dX12_byRule_14 (by decide) (fun q => ?_) (fun q => ?_)
    · have h := ite_t q h
      refine lv_iconst (pc := 168) (v := 1) hx hb dX12_byRule_168 (by decide) ?_
      exact s_zretc F w rfl h dX12_byRule_169
    · have h := ite_f q h
      refine lv_iconst (pc := 17) (v := 0) hx hb dX12_byRule_17 (by decide) ?_
      refine lv_istore_n (pc := 18) (lv' := [(2, .int (0 : Int32)), (0, .ref (ad 0)), (1, .int x1)]) hx hb dX12_byRule_18 rfl hl (by decide) rfl (fun ls hl => ?_)
      exact w_M_byRule_L19 F (Nat.le_trans (by decide) hR1) (Nat.le_trans (by decide) hR2) _ (fun v0 S h => ih v0 S h) _ _ _ _ h _ _ _ w (lv_sub hl [1, 2, 0] rfl)
set_option maxRecDepth 100000 in
set_option maxHeartbeats 4000000 in
theorem m_M_byRule  (S S' : SS) (r : Int32) (h : f_M_byRule  S = some (r, S')) : MT yX12_byRule cX12_byRule 5 (some .boolean) 2 46 (fun ad => [.ref (ad 0)]) S (some (.int r)) S' := by
  refine MT.of RX12 (fun ad => [(0, .ref (ad 0))]) (by decide) rfl (fun _ => Nat.le_of_ble_eq_true rfl) (fun _ => rfl) ?_
  intro p l e R s m args below meth c dC dI cs ad A hR1 hR2 F H locs ls w hl
  have hx := F.1.1
  have hb := F.1.2.1
  rw [f_M_byRule] at h
  refine lv_aload_n (pc := 0) hx hb dX12_byRule_0 rfl (lv_at hl 0 rfl) ?_
  refine lv_iconst (pc := 1) (v := 0) hx hb dX12_byRule_1 (by decide) ?_
  refine s_putI (pc := 2) F w ds_0 vc_X12 vi_X12 tyX12_ok nmX12 (j := 77) rfl (by decide) kf_X12_463 rfl pd_I h dX12_byRule_2 (fun S1 H locs h w => ?_)
  refine lv_aload_n (pc := 5) hx hb dX12_byRule_5 rfl (lv_at hl 0 rfl) ?_
  refine lv_iconst (pc := 6) (v := 0) hx hb dX12_byRule_6 (by decide) ?_
  obtain ⟨S2, hc, h⟩ := bndv_t h
  refine s_cvv (pc := 7) [.int (0 : Int32)] (fun ad => [.ref (ad 0), .int (0 : Int32)]) F w (m_M_take _ _ _ hc) rfl rfl hl.1 ds_0 vc_X12 rfl ok_X12_take rfl kc_X12_take kl_X12_472 ki_X12_take kv_X12_take kn_X12 ⟨Nat.le_trans (by decide) hR1, Nat.le_trans (by decide) hR2⟩ ⟨Nat.zero_le _, Nat.zero_le _⟩ (Nat.le_of_ble_eq_true rfl) dX12_byRule_7 (fun H locs w => ?_)
  refine lv_iconst (pc := 10) (v := 0) hx hb dX12_byRule_10 (by decide) ?_
  refine lv_istore_n (pc := 11) (lv' := [(1, .int (0 : Int32)), (0, .ref (ad 0))]) hx hb dX12_byRule_11 rfl hl (by decide) rfl (fun ls hl => ?_)
  exact w_M_byRule_L12 F (Nat.le_trans (by decide) hR1) (Nat.le_trans (by decide) hR2) _ _ _ h _ _ _ w (lv_sub hl [1, 0] rfl)
def f_M_plan_j76  (x2 : Int32) (y0 : Int32) (S : SS) : Option (Int32 × SS) :=
    wr S 0 76 y0 (fun S14 =>
    if x2 = 0 then
      some ((-4 : Int32), S14)
    else
      some (S14.1 0 77, S14))
def f_M_plan_j62  (x2 : Int32) (y0 : Int32) (S : SS) : Option (Int32 × SS) :=
    wr S 0 77 y0 (fun S13 =>
    if x2 = 0 then
      f_M_plan_j76 x2 (-4 : Int32) S13
    else
      f_M_plan_j76 x2 (1 : Int32) S13)
def f_M_plan_j33  (x1 : Int32) (S : SS) : Option (Int32 × SS) :=
    wr S 0 76 (-4 : Int32) (fun S3 =>
    if x1 = (1 : Int32) then
      bnd (f_M_byRule  S3) (fun r12 S11 =>
      if r12 = 0 then
        f_M_plan_j62 r12 (0 : Int32) S11
      else
        f_M_plan_j62 r12 (S11.1 0 77) S11)
    else
      bndv (f_M_measure  S3) (fun S4 =>
      bndv (f_M_take (0 : Int32) S4) (fun S5 =>
      bnd (f_M_code  S5) (fun r7 S6 =>
      wr S6 0 77 (0 : Int32) (fun S8 =>
      grd (inb r7 25920) (
      if 0 ≤ (S8.1 55 r7.toNatClampNeg) then
        bndv (f_M_wander r7 S8) (fun S9 =>
        wr S9 0 76 (0 : Int32) (fun S10 =>
        some (S10.1 0 77, S10)))
      else
        some ((-4 : Int32), S8)))))))
def f_M_plan (a1 : Int32) (S : SS) : Option (Int32 × SS) :=
  if a1 < 0 then
    some ((-1 : Int32), S)
  else
    if (1 : Int32) < a1 then
      some ((-1 : Int32), S)
    else
      bnd (f_M_areSame  S) (fun r2 S1 =>
      if r2 = 0 then
        some ((-1 : Int32), S1)
      else
        if a1 = 0 then
          bnd (f_M_sumOf_M_startMany  S1) (fun r16 S15 =>
          if r16 ≤ (5 : Int32) then
            f_M_plan_j33 a1 S15
          else
            some ((-1 : Int32), S15))
        else
          f_M_plan_j33 a1 S1)
theorem dX12_plan_0 : decode cX12_plan 0 = .ok (.iload_n 1, 1) := dc_27 (by decide +kernel)
theorem dX12_plan_1 : decode cX12_plan 1 = .ok (.ifCond .lt 30, 3) := dc_155 (a := 0) (b := 30) (by decide +kernel) (by decide)
theorem dX12_plan_4 : decode cX12_plan 4 = .ok (.iload_n 1, 1) := dc_27 (by decide +kernel)
theorem dX12_plan_5 : decode cX12_plan 5 = .ok (.iconst 1, 1) := dc_4 (by decide +kernel)
theorem dX12_plan_6 : decode cX12_plan 6 = .ok (.if_icmp .gt 25, 3) := dc_163 (a := 0) (b := 25) (by decide +kernel) (by decide)
theorem dX12_plan_9 : decode cX12_plan 9 = .ok (.aload_n 0, 1) := dc_42 (by decide +kernel)
theorem dX12_plan_10 : decode cX12_plan 10 = .ok (.invokevirtual 502, 3) := dc_182 (a := 1) (b := 246) (by decide +kernel)
theorem dX12_plan_13 : decode cX12_plan 13 = .ok (.ifCond .eq 18, 3) := dc_153 (a := 0) (b := 18) (by decide +kernel) (by decide)
theorem dX12_plan_16 : decode cX12_plan 16 = .ok (.iload_n 1, 1) := dc_27 (by decide +kernel)
theorem dX12_plan_17 : decode cX12_plan 17 = .ok (.ifCond .ne 16, 3) := dc_154 (a := 0) (b := 16) (by decide +kernel) (by decide)
theorem dX12_plan_20 : decode cX12_plan 20 = .ok (.aload_n 0, 1) := dc_42 (by decide +kernel)
theorem dX12_plan_21 : decode cX12_plan 21 = .ok (.getfield 156, 3) := dc_180 (a := 0) (b := 156) (by decide +kernel)
theorem dX12_plan_24 : decode cX12_plan 24 = .ok (.invokestatic 459, 3) := dc_184 (a := 1) (b := 203) (by decide +kernel)
theorem dX12_plan_27 : decode cX12_plan 27 = .ok (.iconst 5, 1) := dc_8 (by decide +kernel)
theorem dX12_plan_28 : decode cX12_plan 28 = .ok (.if_icmp .le 5, 3) := dc_164 (a := 0) (b := 5) (by decide +kernel) (by decide)
theorem dX12_plan_31 : decode cX12_plan 31 = .ok (.iconst (-1), 1) := dc_2 (by decide +kernel)
theorem dX12_plan_32 : decode cX12_plan 32 = .ok (.ireturn, 1) := dc_172 (by decide +kernel)
theorem dX12_plan_33 : decode cX12_plan 33 = .ok (.aload_n 0, 1) := dc_42 (by decide +kernel)
theorem dX12_plan_34 : decode cX12_plan 34 = .ok (.bipush (-4), 2) := dc_16 (a := 252) (by decide +kernel) (by decide)
theorem dX12_plan_36 : decode cX12_plan 36 = .ok (.putfield 168, 3) := dc_181 (a := 0) (b := 168) (by decide +kernel)
theorem dX12_plan_39 : decode cX12_plan 39 = .ok (.iload_n 1, 1) := dc_27 (by decide +kernel)
theorem dX12_plan_40 : decode cX12_plan 40 = .ok (.iconst 1, 1) := dc_4 (by decide +kernel)
theorem dX12_plan_41 : decode cX12_plan 41 = .ok (.if_icmp .ne 52, 3) := dc_160 (a := 0) (b := 52) (by decide +kernel) (by decide)
theorem dX12_plan_44 : decode cX12_plan 44 = .ok (.aload_n 0, 1) := dc_42 (by decide +kernel)
theorem dX12_plan_45 : decode cX12_plan 45 = .ok (.invokevirtual 506, 3) := dc_182 (a := 1) (b := 250) (by decide +kernel)
theorem dX12_plan_48 : decode cX12_plan 48 = .ok (.istore_n 2, 1) := dc_61 (by decide +kernel)
theorem dX12_plan_49 : decode cX12_plan 49 = .ok (.aload_n 0, 1) := dc_42 (by decide +kernel)
theorem dX12_plan_50 : decode cX12_plan 50 = .ok (.iload_n 2, 1) := dc_28 (by decide +kernel)
theorem dX12_plan_51 : decode cX12_plan 51 = .ok (.ifCond .eq 10, 3) := dc_153 (a := 0) (b := 10) (by decide +kernel) (by decide)
theorem dX12_plan_54 : decode cX12_plan 54 = .ok (.aload_n 0, 1) := dc_42 (by decide +kernel)
theorem dX12_plan_55 : decode cX12_plan 55 = .ok (.getfield 463, 3) := dc_180 (a := 1) (b := 207) (by decide +kernel)
theorem dX12_plan_58 : decode cX12_plan 58 = .ok (.goto 4, 3) := dc_167 (a := 0) (b := 4) (by decide +kernel) (by decide)
theorem dX12_plan_61 : decode cX12_plan 61 = .ok (.iconst 0, 1) := dc_3 (by decide +kernel)
theorem dX12_plan_62 : decode cX12_plan 62 = .ok (.putfield 463, 3) := dc_181 (a := 1) (b := 207) (by decide +kernel)
theorem dX12_plan_65 : decode cX12_plan 65 = .ok (.aload_n 0, 1) := dc_42 (by decide +kernel)
theorem dX12_plan_66 : decode cX12_plan 66 = .ok (.iload_n 2, 1) := dc_28 (by decide +kernel)
theorem dX12_plan_67 : decode cX12_plan 67 = .ok (.ifCond .eq 7, 3) := dc_153 (a := 0) (b := 7) (by decide +kernel) (by decide)
theorem dX12_plan_70 : decode cX12_plan 70 = .ok (.iconst 1, 1) := dc_4 (by decide +kernel)
theorem dX12_plan_71 : decode cX12_plan 71 = .ok (.goto 5, 3) := dc_167 (a := 0) (b := 5) (by decide +kernel) (by decide)
theorem dX12_plan_74 : decode cX12_plan 74 = .ok (.bipush (-4), 2) := dc_16 (a := 252) (by decide +kernel) (by decide)
theorem dX12_plan_76 : decode cX12_plan 76 = .ok (.putfield 168, 3) := dc_181 (a := 0) (b := 168) (by decide +kernel)
theorem dX12_plan_79 : decode cX12_plan 79 = .ok (.iload_n 2, 1) := dc_28 (by decide +kernel)
theorem dX12_plan_80 : decode cX12_plan 80 = .ok (.ifCond .eq 10, 3) := dc_153 (a := 0) (b := 10) (by decide +kernel) (by decide)
theorem dX12_plan_83 : decode cX12_plan 83 = .ok (.aload_n 0, 1) := dc_42 (by decide +kernel)
theorem dX12_plan_84 : decode cX12_plan 84 = .ok (.getfield 463, 3) := dc_180 (a := 1) (b := 207) (by decide +kernel)
theorem dX12_plan_87 : decode cX12_plan 87 = .ok (.goto 5, 3) := dc_167 (a := 0) (b := 5) (by decide +kernel) (by decide)
theorem dX12_plan_90 : decode cX12_plan 90 = .ok (.bipush (-4), 2) := dc_16 (a := 252) (by decide +kernel) (by decide)
theorem dX12_plan_92 : decode cX12_plan 92 = .ok (.ireturn, 1) := dc_172 (by decide +kernel)
theorem dX12_plan_93 : decode cX12_plan 93 = .ok (.aload_n 0, 1) := dc_42 (by decide +kernel)
theorem dX12_plan_94 : decode cX12_plan 94 = .ok (.invokevirtual 509, 3) := dc_182 (a := 1) (b := 253) (by decide +kernel)
theorem dX12_plan_97 : decode cX12_plan 97 = .ok (.aload_n 0, 1) := dc_42 (by decide +kernel)
theorem dX12_plan_98 : decode cX12_plan 98 = .ok (.iconst 0, 1) := dc_3 (by decide +kernel)
theorem dX12_plan_99 : decode cX12_plan 99 = .ok (.invokevirtual 472, 3) := dc_182 (a := 1) (b := 216) (by decide +kernel)
theorem dX12_plan_102 : decode cX12_plan 102 = .ok (.aload_n 0, 1) := dc_42 (by decide +kernel)
theorem dX12_plan_103 : decode cX12_plan 103 = .ok (.invokevirtual 476, 3) := dc_182 (a := 1) (b := 220) (by decide +kernel)
theorem dX12_plan_106 : decode cX12_plan 106 = .ok (.istore_n 2, 1) := dc_61 (by decide +kernel)
theorem dX12_plan_107 : decode cX12_plan 107 = .ok (.aload_n 0, 1) := dc_42 (by decide +kernel)
theorem dX12_plan_108 : decode cX12_plan 108 = .ok (.iconst 0, 1) := dc_3 (by decide +kernel)
theorem dX12_plan_109 : decode cX12_plan 109 = .ok (.putfield 463, 3) := dc_181 (a := 1) (b := 207) (by decide +kernel)
theorem dX12_plan_112 : decode cX12_plan 112 = .ok (.aload_n 0, 1) := dc_42 (by decide +kernel)
theorem dX12_plan_113 : decode cX12_plan 113 = .ok (.getfield 183, 3) := dc_180 (a := 0) (b := 183) (by decide +kernel)
theorem dX12_plan_116 : decode cX12_plan 116 = .ok (.iload_n 2, 1) := dc_28 (by decide +kernel)
theorem dX12_plan_117 : decode cX12_plan 117 = .ok (.iaload, 1) := dc_46 (by decide +kernel)
theorem dX12_plan_118 : decode cX12_plan 118 = .ok (.ifCond .ge 6, 3) := dc_156 (a := 0) (b := 6) (by decide +kernel) (by decide)
theorem dX12_plan_121 : decode cX12_plan 121 = .ok (.bipush (-4), 2) := dc_16 (a := 252) (by decide +kernel) (by decide)
theorem dX12_plan_123 : decode cX12_plan 123 = .ok (.ireturn, 1) := dc_172 (by decide +kernel)
theorem dX12_plan_124 : decode cX12_plan 124 = .ok (.aload_n 0, 1) := dc_42 (by decide +kernel)
theorem dX12_plan_125 : decode cX12_plan 125 = .ok (.iload_n 2, 1) := dc_28 (by decide +kernel)
theorem dX12_plan_126 : decode cX12_plan 126 = .ok (.invokevirtual 512, 3) := dc_182 (a := 2) (b := 0) (by decide +kernel)
theorem dX12_plan_129 : decode cX12_plan 129 = .ok (.aload_n 0, 1) := dc_42 (by decide +kernel)
theorem dX12_plan_130 : decode cX12_plan 130 = .ok (.iconst 0, 1) := dc_3 (by decide +kernel)
theorem dX12_plan_131 : decode cX12_plan 131 = .ok (.putfield 168, 3) := dc_181 (a := 0) (b := 168) (by decide +kernel)
theorem dX12_plan_134 : decode cX12_plan 134 = .ok (.aload_n 0, 1) := dc_42 (by decide +kernel)
theorem dX12_plan_135 : decode cX12_plan 135 = .ok (.getfield 463, 3) := dc_180 (a := 1) (b := 207) (by decide +kernel)
theorem dX12_plan_138 : decode cX12_plan 138 = .ok (.ireturn, 1) := dc_172 (by decide +kernel)
set_option maxRecDepth 100000 in
set_option maxHeartbeats 4000000 in
theorem w_M_plan_j76 {p : Program} {l : Launch} {e : Env} {R : Room} {s : State} {m : MethodId} {args : Array Value} {below : List Frame} {meth : Method} {c : Code} {dC : Nat → ClassId} {dI : Nat → Nat → Nat} {cs : Nat → ClassId} {ad : Nat → Nat} {A : Nat → Prop} {D0 : Nat → Nat} {S' : SS} {r : Int32} (F : Fx p s m args meth c cX12_plan 3 RX12 (some .int) dC dI cs A) (hR1 : 0 ≤ R.frames) (hR2 : 0 ≤ R.locals) (x2 : Int32) (y0 : Int32) (S : SS) (h : f_M_plan_j76 x2 y0 S = some (r, S')) : AW p l e R s m args below meth c dC dI cs ad A D0 (some (.int r)) S' 3 76 [(0, .ref (ad 0)), (2, .int x2)] [.int y0, .ref (ad 0)] S := by
  have hx := F.1.1
  have hb := F.1.2.1
  intro H locs ls w hl
  rw [f_M_plan_j76] at h
  refine s_putI (pc := 76) F w ds_0 vc_X12 vi_X12 tyX12_ok nmX12 (j := 76) rfl (by decide) kf_X12_168 rfl pd_I h dX12_plan_76 (fun S14 H locs h w => ?_)
  refine lv_iload_n (pc := 79) hx hb dX12_plan_79 rfl (lv_at hl 1 rfl) ?_
  refine lv_if_eq (pc := 80) (tgt := 90) hx hb dX12_plan_80 (by decide) (fun q => ?_) (fun q => ?_)
  · have h := ite_t q h
    refine lv_bipush (pc := 90) (v := -4) hx hb dX12_plan_90 (by decide) ?_
    exact s_iret F w h dX12_plan_92
  · have h := ite_f q h
    refine lv_aload_n (pc := 83) hx hb dX12_plan_83 rfl (lv_at hl 0 rfl) ?_
    refine s_getI (pc := 84) F w ds_0 (j := 77) vc_X12 vi_X12 rfl (by decide) kf_X12_463 dX12_plan_84 ?_
    refine lv_goto (pc := 87) (tgt := 92) hx hb dX12_plan_87 (by decide) ?_
    exact s_iret F w h dX12_plan_92
set_option maxRecDepth 100000 in
set_option maxHeartbeats 4000000 in
theorem w_M_plan_j62 {p : Program} {l : Launch} {e : Env} {R : Room} {s : State} {m : MethodId} {args : Array Value} {below : List Frame} {meth : Method} {c : Code} {dC : Nat → ClassId} {dI : Nat → Nat → Nat} {cs : Nat → ClassId} {ad : Nat → Nat} {A : Nat → Prop} {D0 : Nat → Nat} {S' : SS} {r : Int32} (F : Fx p s m args meth c cX12_plan 3 RX12 (some .int) dC dI cs A) (hR1 : 0 ≤ R.frames) (hR2 : 0 ≤ R.locals) (x2 : Int32) (y0 : Int32) (S : SS) (h : f_M_plan_j62 x2 y0 S = some (r, S')) : AW p l e R s m args below meth c dC dI cs ad A D0 (some (.int r)) S' 3 62 [(0, .ref (ad 0)), (2, .int x2)] [.int y0, .ref (ad 0)] S := by
  have hx := F.1.1
  have hb := F.1.2.1
  intro H locs ls w hl
  rw [f_M_plan_j62] at h
  refine s_putI (pc := 62) F w ds_0 vc_X12 vi_X12 tyX12_ok nmX12 (j := 77) rfl (by decide) kf_X12_463 rfl pd_I h dX12_plan_62 (fun S13 H locs h w => ?_)
  refine lv_aload_n (pc := 65) hx hb dX12_plan_65 rfl (lv_at hl 0 rfl) ?_
  refine lv_iload_n (pc := 66) hx hb dX12_plan_66 rfl (lv_at hl 1 rfl) ?_
  refine lv_if_eq (pc := 67) (tgt := 74) hx hb dX12_plan_67 (by decide) (fun q => ?_) (fun q => ?_)
  · have h := ite_t q h
    refine lv_bipush (pc := 74) (v := -4) hx hb dX12_plan_74 (by decide) ?_
    exact w_M_plan_j76 F (Nat.le_trans (by decide) hR1) (Nat.le_trans (by decide) hR2) _ _ _ h _ _ _ w (lv_sub hl [0, 1] rfl)
  · have h := ite_f q h
    refine lv_iconst (pc := 70) (v := 1) hx hb dX12_plan_70 (by decide) ?_
    refine lv_goto (pc := 71) (tgt := 76) hx hb dX12_plan_71 (by decide) ?_
    exact w_M_plan_j76 F (Nat.le_trans (by decide) hR1) (Nat.le_trans (by decide) hR2) _ _ _ h _ _ _ w (lv_sub hl [0, 1] rfl)
set_option maxRecDepth 100000 in
set_option maxHeartbeats 4000000 in
theorem w_M_plan_j33 {p : Program} {l : Launch} {e : Env} {R : Room} {s : State} {m : MethodId} {args : Array Value} {below : List Frame} {meth : Method} {c : Code} {dC : Nat → ClassId} {dI : Nat → Nat → Nat} {cs : Nat → ClassId} {ad : Nat → Nat} {A : Nat → Prop} {D0 : Nat → Nat} {S' : SS} {r : Int32} (F : Fx p s m args meth c cX12_plan 3 RX12 (some .int) dC dI cs A) (hR1 : 4 ≤ R.frames) (hR2 : 94 ≤ R.locals) (x1 : Int32) (S : SS) (h : f_M_plan_j33 x1 S = some (r, S')) : AW p l e R s m args below meth c dC dI cs ad A D0 (some (.int r)) S' 3 33 [(0, .ref (ad 0)), (1, .int x1)] [] S := by
  have hx := F.1.1
  have hb := F.1.2.1
  intro H locs ls w hl
  rw [f_M_plan_j33] at h
  refine lv_aload_n (pc := 33) hx hb dX12_plan_33 rfl (lv_at hl 0 rfl) ?_
  refine lv_bipush (pc := 34) (v := -4) hx hb dX12_plan_34 (by decide) ?_
  refine s_putI (pc := 36) F w ds_0 vc_X12 vi_X12 tyX12_ok nmX12 (j := 76) rfl (by decide) kf_X12_168 rfl pd_I h dX12_plan_36 (fun S3 H locs h w => ?_)
  refine lv_iload_n (pc := 39) hx hb dX12_plan_39 rfl (lv_at hl 1 rfl) ?_
  refine lv_iconst (pc := 40) (v := 1) hx hb dX12_plan_40 (by decide) ?_
  refine lv_icmp_ne (pc := 41) (tgt := 93) hx hb dX12_plan_41 (by decide) (fun q => ?_) (fun q => ?_)
  · have h := ite_f q h
    refine lv_aload_n (pc := 93) hx hb dX12_plan_93 rfl (lv_at hl 0 rfl) ?_
    obtain ⟨S4, hc, h⟩ := bndv_t h
    refine s_cvv (pc := 94) [] (fun ad => [.ref (ad 0)]) F w (m_M_measure  _ _ hc) rfl rfl hl.1 ds_0 vc_X12 rfl ok_X12_measure rfl kc_X12_measure kl_X12_509 ki_X12_measure kv_X12_measure kn_X12 ⟨Nat.le_trans (by decide) hR1, Nat.le_trans (by decide) hR2⟩ ⟨Nat.zero_le _, Nat.zero_le _⟩ (Nat.le_of_ble_eq_true rfl) dX12_plan_94 (fun H locs w => ?_)
    refine lv_aload_n (pc := 97) hx hb dX12_plan_97 rfl (lv_at hl 0 rfl) ?_
    refine lv_iconst (pc := 98) (v := 0) hx hb dX12_plan_98 (by decide) ?_
    obtain ⟨S5, hc, h⟩ := bndv_t h
    refine s_cvv (pc := 99) [.int (0 : Int32)] (fun ad => [.ref (ad 0), .int (0 : Int32)]) F w (m_M_take _ _ _ hc) rfl rfl hl.1 ds_0 vc_X12 rfl ok_X12_take rfl kc_X12_take kl_X12_472 ki_X12_take kv_X12_take kn_X12 ⟨Nat.le_trans (by decide) hR1, Nat.le_trans (by decide) hR2⟩ ⟨Nat.zero_le _, Nat.zero_le _⟩ (Nat.le_of_ble_eq_true rfl) dX12_plan_99 (fun H locs w => ?_)
    refine lv_aload_n (pc := 102) hx hb dX12_plan_102 rfl (lv_at hl 0 rfl) ?_
    obtain ⟨r7, S6, hc, h⟩ := bnd_t h
    refine s_cvi (pc := 103) [] (fun ad => [.ref (ad 0)]) F w (m_M_code  _ _ _ hc) rfl rfl hl.1 ds_0 vc_X12 rfl ok_X12_code rfl kc_X12_code kl_X12_476 ki_X12_code kv_X12_code kn_X12 ⟨Nat.le_trans (by decide) hR1, Nat.le_trans (by decide) hR2⟩ ⟨Nat.zero_le _, Nat.zero_le _⟩ (Nat.le_of_ble_eq_true rfl) dX12_plan_103 (fun H locs w => ?_)
    refine lv_istore_n (pc := 106) (lv' := [(2, .int r7), (0, .ref (ad 0)), (1, .int x1)]) hx hb dX12_plan_106 rfl hl (by decide) rfl (fun ls hl => ?_)
    refine lv_aload_n (pc := 107) hx hb dX12_plan_107 rfl (lv_at hl 1 rfl) ?_
    refine lv_iconst (pc := 108) (v := 0) hx hb dX12_plan_108 (by decide) ?_
    refine s_putI (pc := 109) F w ds_0 vc_X12 vi_X12 tyX12_ok nmX12 (j := 77) rfl (by decide) kf_X12_463 rfl pd_I h dX12_plan_109 (fun S8 H locs h w => ?_)
    refine lv_aload_n (pc := 112) hx hb dX12_plan_112 rfl (lv_at hl 1 rfl) ?_
    refine s_getR (pc := 113) F w 55 ds_0 (j := 83) vc_X12 vi_X12 rfl (by decide) kf_X12_183 dX12_plan_113 ?_
    refine lv_iload_n (pc := 116) hx hb dX12_plan_116 rfl (lv_at hl 0 rfl) ?_
    refine s_iald (pc := 117) F w ds_55 h dX12_plan_117 (fun h => ?_)
    refine lv_if_ge (pc := 118) (tgt := 124) hx hb dX12_plan_118 (by decide) (fun q => ?_) (fun q => ?_)
    · have h := ite_t q h
      refine lv_aload_n (pc := 124) hx hb dX12_plan_124 rfl (lv_at hl 1 rfl) ?_
      refine lv_iload_n (pc := 125) hx hb dX12_plan_125 rfl (lv_at hl 0 rfl) ?_
      obtain ⟨S9, hc, h⟩ := bndv_t h
      refine s_cvv (pc := 126) [.int r7] (fun ad => [.ref (ad 0), .int r7]) F w (m_M_wander _ _ _ hc) rfl rfl hl.1 ds_0 vc_X12 rfl ok_X12_wander rfl kc_X12_wander kl_X12_512 ki_X12_wander kv_X12_wander kn_X12 ⟨Nat.le_trans (by decide) hR1, Nat.le_trans (by decide) hR2⟩ ⟨Nat.zero_le _, Nat.zero_le _⟩ (Nat.le_of_ble_eq_true rfl) dX12_plan_126 (fun H locs w => ?_)
      refine lv_aload_n (pc := 129) hx hb dX12_plan_129 rfl (lv_at hl 1 rfl) ?_
      refine lv_iconst (pc := 130) (v := 0) hx hb dX12_plan_130 (by decide) ?_
      refine s_putI (pc := 131) F w ds_0 vc_X12 vi_X12 tyX12_ok nmX12 (j := 76) rfl (by decide) kf_X12_168 rfl pd_I h dX12_plan_131 (fun S10 H locs h w => ?_)
      refine lv_aload_n (pc := 134) hx hb dX12_plan_134 rfl (lv_at hl 1 rfl) ?_
      refine s_getI (pc := 135) F w ds_0 (j := 77) vc_X12 vi_X12 rfl (by decide) kf_X12_463 dX12_plan_135 ?_
      exact s_iret F w h dX12_plan_138
    · have h := ite_f q h
      refine lv_bipush (pc := 121) (v := -4) hx hb dX12_plan_121 (by decide) ?_
      exact s_iret F w h dX12_plan_123
  · have h := ite_t q h
    refine lv_aload_n (pc := 44) hx hb dX12_plan_44 rfl (lv_at hl 0 rfl) ?_
    obtain ⟨r12, S11, hc, h⟩ := bnd_t h
    refine s_cvi (pc := 45) [] (fun ad => [.ref (ad 0)]) F w (m_M_byRule  _ _ _ hc) rfl rfl hl.1 ds_0 vc_X12 rfl ok_X12_byRule rfl kc_X12_byRule kl_X12_506 ki_X12_byRule kv_X12_byRule kn_X12 ⟨Nat.le_trans (by decide) hR1, Nat.le_trans (by decide) hR2⟩ ⟨Nat.zero_le _, Nat.zero_le _⟩ (Nat.le_of_ble_eq_true rfl) dX12_plan_45 (fun H locs w => ?_)
    refine lv_istore_n (pc := 48) (lv' := [(2, .int r12), (0, .ref (ad 0)), (1, .int x1)]) hx hb dX12_plan_48 rfl hl (by decide) rfl (fun ls hl => ?_)
    refine lv_aload_n (pc := 49) hx hb dX12_plan_49 rfl (lv_at hl 1 rfl) ?_
    refine lv_iload_n (pc := 50) hx hb dX12_plan_50 rfl (lv_at hl 0 rfl) ?_
    refine lv_if_eq (pc := 51) (tgt := 61) hx hb dX12_plan_51 (by decide) (fun q => ?_) (fun q => ?_)
    · have h := ite_t q h
      refine lv_iconst (pc := 61) (v := 0) hx hb dX12_plan_61 (by decide) ?_
      exact w_M_plan_j62 F (Nat.le_trans (by decide) hR1) (Nat.le_trans (by decide) hR2) _ _ _ h _ _ _ w (lv_sub hl [1, 0] rfl)
    · have h := ite_f q h
      refine lv_aload_n (pc := 54) hx hb dX12_plan_54 rfl (lv_at hl 1 rfl) ?_
      refine s_getI (pc := 55) F w ds_0 (j := 77) vc_X12 vi_X12 rfl (by decide) kf_X12_463 dX12_plan_55 ?_
      refine lv_goto (pc := 58) (tgt := 62) hx hb dX12_plan_58 (by decide) ?_
      exact w_M_plan_j62 F (Nat.le_trans (by decide) hR1) (Nat.le_trans (by decide) hR2) _ _ _ h _ _ _ w (lv_sub hl [1, 0] rfl)
set_option maxRecDepth 100000 in
set_option maxHeartbeats 4000000 in
theorem m_M_plan (a1 : Int32) (S S' : SS) (r : Int32) (h : f_M_plan a1 S = some (r, S')) : MT yX12_plan cX12_plan 3 (some .int) 4 94 (fun ad => [.ref (ad 0), .int a1]) S (some (.int r)) S' := by
  refine MT.of RX12 (fun ad => [(0, .ref (ad 0)), (1, .int a1)]) (by decide) rfl (fun _ => Nat.le_of_ble_eq_true rfl) (fun _ => rfl) ?_
  intro p l e R s m args below meth c dC dI cs ad A hR1 hR2 F H locs ls w hl
  have hx := F.1.1
  have hb := F.1.2.1
  rw [f_M_plan] at h
  refine lv_iload_n (pc := 0) hx hb dX12_plan_0 rfl (lv_at hl 1 rfl) ?_
  refine lv_if_lt (pc := 1) (tgt := 31) hx hb dX12_plan_1 (by decide) (fun q => ?_) (fun q => ?_)
  · have h := ite_t q h
    refine lv_iconst (pc := 31) (v := -1) hx hb dX12_plan_31 (by decide) ?_
    exact s_iret F w h dX12_plan_32
  · have h := ite_f q h
    refine lv_iload_n (pc := 4) hx hb dX12_plan_4 rfl (lv_at hl 1 rfl) ?_
    refine lv_iconst (pc := 5) (v := 1) hx hb dX12_plan_5 (by decide) ?_
    refine lv_icmp_gt (pc := 6) (tgt := 31) hx hb dX12_plan_6 (by decide) (fun q => ?_) (fun q => ?_)
    · have h := ite_t q h
      refine lv_iconst (pc := 31) (v := -1) hx hb dX12_plan_31 (by decide) ?_
      exact s_iret F w h dX12_plan_32
    · have h := ite_f q h
      refine lv_aload_n (pc := 9) hx hb dX12_plan_9 rfl (lv_at hl 0 rfl) ?_
      obtain ⟨r2, S1, hc, h⟩ := bnd_t h
      refine s_cvi (pc := 10) [] (fun ad => [.ref (ad 0)]) F w (m_M_areSame  _ _ _ hc) rfl rfl hl.1 ds_0 vc_X12 rfl ok_X12_areSame rfl kc_X12_areSame kl_X12_502 ki_X12_areSame kv_X12_areSame kn_X12 ⟨Nat.le_trans (by decide) hR1, Nat.le_trans (by decide) hR2⟩ ⟨Nat.zero_le _, Nat.zero_le _⟩ (Nat.le_of_ble_eq_true rfl) dX12_plan_10 (fun H locs w => ?_)
      refine lv_if_eq (pc := 13) (tgt := 31) hx hb dX12_plan_13 (by decide) (fun q => ?_) (fun q => ?_)
      · have h := ite_t q h
        refine lv_iconst (pc := 31) (v := -1) hx hb dX12_plan_31 (by decide) ?_
        exact s_iret F w h dX12_plan_32
      · have h := ite_f q h
        refine lv_iload_n (pc := 16) hx hb dX12_plan_16 rfl (lv_at hl 1 rfl) ?_
        refine lv_if_ne (pc := 17) (tgt := 33) hx hb dX12_plan_17 (by decide) (fun q => ?_) (fun q => ?_)
        · have h := ite_f q h
          exact w_M_plan_j33 F (Nat.le_trans (by decide) hR1) (Nat.le_trans (by decide) hR2) _ _ h _ _ _ w (lv_sub hl [0, 1] rfl)
        · have h := ite_t q h
          refine lv_aload_n (pc := 20) hx hb dX12_plan_20 rfl (lv_at hl 0 rfl) ?_
          refine s_getR (pc := 21) F w 47 ds_0 (j := 72) vc_X12 vi_X12 rfl (by decide) kf_X12_156 dX12_plan_21 ?_
          obtain ⟨r16, S15, hc, h⟩ := bnd_t h
          refine s_csi (pc := 24) [.ref (ad 47)] (fun ad => [.ref (ad 47)]) F w (m_M_sumOf_M_startMany  _ _ _ hc) rfl rfl hl.1 ok_X12_sumOf rfl kc_X12_sumOf kl_X12_459 ks_X12_sumOf kn_X12 ⟨Nat.le_trans (by decide) hR1, Nat.le_trans (by decide) hR2⟩ ⟨Nat.zero_le _, Nat.zero_le _⟩ (Nat.le_of_ble_eq_true rfl) dX12_plan_24 (fun H locs w => ?_)
          refine lv_iconst (pc := 27) (v := 5) hx hb dX12_plan_27 (by decide) ?_
          refine lv_icmp_le (pc := 28) (tgt := 33) hx hb dX12_plan_28 (by decide) (fun q => ?_) (fun q => ?_)
          · have h := ite_t q h
            exact w_M_plan_j33 F (Nat.le_trans (by decide) hR1) (Nat.le_trans (by decide) hR2) _ _ h _ _ _ w (lv_sub hl [0, 1] rfl)
          · have h := ite_f q h
            refine lv_iconst (pc := 31) (v := -1) hx hb dX12_plan_31 (by decide) ?_
            exact s_iret F w h dX12_plan_32
def f_M_move (a1 : Int32) (a2 : Int32) (S : SS) : Option (Int32 × SS) :=
  if a1 < 0 then
    some ((-1 : Int32), S)
  else
    if a2 < 0 then
      some ((-1 : Int32), S)
    else
      if a2 ≤ (2 : Int32) then
        if (S.1 0 76) = (-4 : Int32) then
          some ((-4 : Int32), S)
        else
          if a1 < (S.1 0 77) then
            if a2 = 0 then
              grd (inb a1 400) (
              some (S.1 51 a1.toNatClampNeg, S))
            else
              if a2 = (1 : Int32) then
                grd (inb a1 400) (
                some (S.1 52 a1.toNatClampNeg, S))
              else
                grd (inb a1 400) (
                some (S.1 53 a1.toNatClampNeg, S))
          else
            some ((-4 : Int32), S)
      else
        some ((-1 : Int32), S)
theorem dX12_move_0 : decode cX12_move 0 = .ok (.iload_n 1, 1) := dc_27 (by decide +kernel)
theorem dX12_move_1 : decode cX12_move 1 = .ok (.ifCond .lt 12, 3) := dc_155 (a := 0) (b := 12) (by decide +kernel) (by decide)
theorem dX12_move_4 : decode cX12_move 4 = .ok (.iload_n 2, 1) := dc_28 (by decide +kernel)
theorem dX12_move_5 : decode cX12_move 5 = .ok (.ifCond .lt 8, 3) := dc_155 (a := 0) (b := 8) (by decide +kernel) (by decide)
theorem dX12_move_8 : decode cX12_move 8 = .ok (.iload_n 2, 1) := dc_28 (by decide +kernel)
theorem dX12_move_9 : decode cX12_move 9 = .ok (.iconst 2, 1) := dc_5 (by decide +kernel)
theorem dX12_move_10 : decode cX12_move 10 = .ok (.if_icmp .le 5, 3) := dc_164 (a := 0) (b := 5) (by decide +kernel) (by decide)
theorem dX12_move_13 : decode cX12_move 13 = .ok (.iconst (-1), 1) := dc_2 (by decide +kernel)
theorem dX12_move_14 : decode cX12_move 14 = .ok (.ireturn, 1) := dc_172 (by decide +kernel)
theorem dX12_move_15 : decode cX12_move 15 = .ok (.aload_n 0, 1) := dc_42 (by decide +kernel)
theorem dX12_move_16 : decode cX12_move 16 = .ok (.getfield 168, 3) := dc_180 (a := 0) (b := 168) (by decide +kernel)
theorem dX12_move_19 : decode cX12_move 19 = .ok (.bipush (-4), 2) := dc_16 (a := 252) (by decide +kernel) (by decide)
theorem dX12_move_21 : decode cX12_move 21 = .ok (.if_icmp .eq 11, 3) := dc_159 (a := 0) (b := 11) (by decide +kernel) (by decide)
theorem dX12_move_24 : decode cX12_move 24 = .ok (.iload_n 1, 1) := dc_27 (by decide +kernel)
theorem dX12_move_25 : decode cX12_move 25 = .ok (.aload_n 0, 1) := dc_42 (by decide +kernel)
theorem dX12_move_26 : decode cX12_move 26 = .ok (.getfield 463, 3) := dc_180 (a := 1) (b := 207) (by decide +kernel)
theorem dX12_move_29 : decode cX12_move 29 = .ok (.if_icmp .lt 6, 3) := dc_161 (a := 0) (b := 6) (by decide +kernel) (by decide)
theorem dX12_move_32 : decode cX12_move 32 = .ok (.bipush (-4), 2) := dc_16 (a := 252) (by decide +kernel) (by decide)
theorem dX12_move_34 : decode cX12_move 34 = .ok (.ireturn, 1) := dc_172 (by decide +kernel)
theorem dX12_move_35 : decode cX12_move 35 = .ok (.iload_n 2, 1) := dc_28 (by decide +kernel)
theorem dX12_move_36 : decode cX12_move 36 = .ok (.ifCond .ne 12, 3) := dc_154 (a := 0) (b := 12) (by decide +kernel) (by decide)
theorem dX12_move_39 : decode cX12_move 39 = .ok (.aload_n 0, 1) := dc_42 (by decide +kernel)
theorem dX12_move_40 : decode cX12_move 40 = .ok (.getfield 171, 3) := dc_180 (a := 0) (b := 171) (by decide +kernel)
theorem dX12_move_43 : decode cX12_move 43 = .ok (.iload_n 1, 1) := dc_27 (by decide +kernel)
theorem dX12_move_44 : decode cX12_move 44 = .ok (.iaload, 1) := dc_46 (by decide +kernel)
theorem dX12_move_45 : decode cX12_move 45 = .ok (.goto 23, 3) := dc_167 (a := 0) (b := 23) (by decide +kernel) (by decide)
theorem dX12_move_48 : decode cX12_move 48 = .ok (.iload_n 2, 1) := dc_28 (by decide +kernel)
theorem dX12_move_49 : decode cX12_move 49 = .ok (.iconst 1, 1) := dc_4 (by decide +kernel)
theorem dX12_move_50 : decode cX12_move 50 = .ok (.if_icmp .ne 12, 3) := dc_160 (a := 0) (b := 12) (by decide +kernel) (by decide)
theorem dX12_move_53 : decode cX12_move 53 = .ok (.aload_n 0, 1) := dc_42 (by decide +kernel)
theorem dX12_move_54 : decode cX12_move 54 = .ok (.getfield 174, 3) := dc_180 (a := 0) (b := 174) (by decide +kernel)
theorem dX12_move_57 : decode cX12_move 57 = .ok (.iload_n 1, 1) := dc_27 (by decide +kernel)
theorem dX12_move_58 : decode cX12_move 58 = .ok (.iaload, 1) := dc_46 (by decide +kernel)
theorem dX12_move_59 : decode cX12_move 59 = .ok (.goto 9, 3) := dc_167 (a := 0) (b := 9) (by decide +kernel) (by decide)
theorem dX12_move_62 : decode cX12_move 62 = .ok (.aload_n 0, 1) := dc_42 (by decide +kernel)
theorem dX12_move_63 : decode cX12_move 63 = .ok (.getfield 177, 3) := dc_180 (a := 0) (b := 177) (by decide +kernel)
theorem dX12_move_66 : decode cX12_move 66 = .ok (.iload_n 1, 1) := dc_27 (by decide +kernel)
theorem dX12_move_67 : decode cX12_move 67 = .ok (.iaload, 1) := dc_46 (by decide +kernel)
theorem dX12_move_68 : decode cX12_move 68 = .ok (.ireturn, 1) := dc_172 (by decide +kernel)
set_option maxRecDepth 100000 in
set_option maxHeartbeats 4000000 in
theorem m_M_move (a1 : Int32) (a2 : Int32) (S S' : SS) (r : Int32) (h : f_M_move a1 a2 S = some (r, S')) : MT yX12_move cX12_move 3 (some .int) 0 0 (fun ad => [.ref (ad 0), .int a1, .int a2]) S (some (.int r)) S' := by
  refine MT.of RX12 (fun ad => [(0, .ref (ad 0)), (1, .int a1), (2, .int a2)]) (by decide) rfl (fun _ => Nat.le_of_ble_eq_true rfl) (fun _ => rfl) ?_
  intro p l e R s m args below meth c dC dI cs ad A hR1 hR2 F H locs ls w hl
  have hx := F.1.1
  have hb := F.1.2.1
  rw [f_M_move] at h
  refine lv_iload_n (pc := 0) hx hb dX12_move_0 rfl (lv_at hl 1 rfl) ?_
  refine lv_if_lt (pc := 1) (tgt := 13) hx hb dX12_move_1 (by decide) (fun q => ?_) (fun q => ?_)
  · have h := ite_t q h
    refine lv_iconst (pc := 13) (v := -1) hx hb dX12_move_13 (by decide) ?_
    exact s_iret F w h dX12_move_14
  · have h := ite_f q h
    refine lv_iload_n (pc := 4) hx hb dX12_move_4 rfl (lv_at hl 2 rfl) ?_
    refine lv_if_lt (pc := 5) (tgt := 13) hx hb dX12_move_5 (by decide) (fun q => ?_) (fun q => ?_)
    · have h := ite_t q h
      refine lv_iconst (pc := 13) (v := -1) hx hb dX12_move_13 (by decide) ?_
      exact s_iret F w h dX12_move_14
    · have h := ite_f q h
      refine lv_iload_n (pc := 8) hx hb dX12_move_8 rfl (lv_at hl 2 rfl) ?_
      refine lv_iconst (pc := 9) (v := 2) hx hb dX12_move_9 (by decide) ?_
      refine lv_icmp_le (pc := 10) (tgt := 15) hx hb dX12_move_10 (by decide) (fun q => ?_) (fun q => ?_)
      · have h := ite_t q h
        refine lv_aload_n (pc := 15) hx hb dX12_move_15 rfl (lv_at hl 0 rfl) ?_
        refine s_getI (pc := 16) F w ds_0 (j := 76) vc_X12 vi_X12 rfl (by decide) kf_X12_168 dX12_move_16 ?_
        refine lv_bipush (pc := 19) (v := -4) hx hb dX12_move_19 (by decide) ?_
        refine lv_icmp_eq (pc := 21) (tgt := 32) hx hb dX12_move_21 (by decide) (fun q => ?_) (fun q => ?_)
        · have h := ite_t q h
          refine lv_bipush (pc := 32) (v := -4) hx hb dX12_move_32 (by decide) ?_
          exact s_iret F w h dX12_move_34
        · have h := ite_f q h
          refine lv_iload_n (pc := 24) hx hb dX12_move_24 rfl (lv_at hl 1 rfl) ?_
          refine lv_aload_n (pc := 25) hx hb dX12_move_25 rfl (lv_at hl 0 rfl) ?_
          refine s_getI (pc := 26) F w ds_0 (j := 77) vc_X12 vi_X12 rfl (by decide) kf_X12_463 dX12_move_26 ?_
          refine lv_icmp_lt (pc := 29) (tgt := 35) hx hb dX12_move_29 (by decide) (fun q => ?_) (fun q => ?_)
          · have h := ite_t q h
            refine lv_iload_n (pc := 35) hx hb dX12_move_35 rfl (lv_at hl 2 rfl) ?_
            refine lv_if_ne (pc := 36) (tgt := 48) hx hb dX12_move_36 (by decide) (fun q => ?_) (fun q => ?_)
            · have h := ite_f q h
              refine lv_iload_n (pc := 48) hx hb dX12_move_48 rfl (lv_at hl 2 rfl) ?_
              refine lv_iconst (pc := 49) (v := 1) hx hb dX12_move_49 (by decide) ?_
              refine lv_icmp_ne (pc := 50) (tgt := 62) hx hb dX12_move_50 (by decide) (fun q => ?_) (fun q => ?_)
              · have h := ite_f q h
                refine lv_aload_n (pc := 62) hx hb dX12_move_62 rfl (lv_at hl 0 rfl) ?_
                refine s_getR (pc := 63) F w 53 ds_0 (j := 80) vc_X12 vi_X12 rfl (by decide) kf_X12_177 dX12_move_63 ?_
                refine lv_iload_n (pc := 66) hx hb dX12_move_66 rfl (lv_at hl 1 rfl) ?_
                refine s_iald (pc := 67) F w ds_53 h dX12_move_67 (fun h => ?_)
                exact s_iret F w h dX12_move_68
              · have h := ite_t q h
                refine lv_aload_n (pc := 53) hx hb dX12_move_53 rfl (lv_at hl 0 rfl) ?_
                refine s_getR (pc := 54) F w 52 ds_0 (j := 79) vc_X12 vi_X12 rfl (by decide) kf_X12_174 dX12_move_54 ?_
                refine lv_iload_n (pc := 57) hx hb dX12_move_57 rfl (lv_at hl 1 rfl) ?_
                refine s_iald (pc := 58) F w ds_52 h dX12_move_58 (fun h => ?_)
                refine lv_goto (pc := 59) (tgt := 68) hx hb dX12_move_59 (by decide) ?_
                exact s_iret F w h dX12_move_68
            · have h := ite_t q h
              refine lv_aload_n (pc := 39) hx hb dX12_move_39 rfl (lv_at hl 0 rfl) ?_
              refine s_getR (pc := 40) F w 51 ds_0 (j := 78) vc_X12 vi_X12 rfl (by decide) kf_X12_171 dX12_move_40 ?_
              refine lv_iload_n (pc := 43) hx hb dX12_move_43 rfl (lv_at hl 1 rfl) ?_
              refine s_iald (pc := 44) F w ds_51 h dX12_move_44 (fun h => ?_)
              refine lv_goto (pc := 45) (tgt := 68) hx hb dX12_move_45 (by decide) ?_
              exact s_iret F w h dX12_move_68
          · have h := ite_f q h
            refine lv_bipush (pc := 32) (v := -4) hx hb dX12_move_32 (by decide) ?_
            exact s_iret F w h dX12_move_34
      · have h := ite_f q h
        refine lv_iconst (pc := 13) (v := -1) hx hb dX12_move_13 (by decide) ?_
        exact s_iret F w h dX12_move_14
def f_M_under_M_startMany_M_startOn_j64 (K15 : Int32 → Int32 → Int32 → Int32 → SS → Option (Int32 × SS)) (x2 : Int32) (x3 : Int32) (x4 : Int32) (x5 : Int32) (S : SS) : Option (Int32 × SS) :=
    nm (x5 + (1 : Int32)) (fun z2 =>
    K15 x2 x3 x4 z2 S)
def f_M_under_M_startMany_M_startOn_j63 (K15 : Int32 → Int32 → Int32 → Int32 → SS → Option (Int32 × SS)) (x2 : Int32) (x4 : Int32) (x5 : Int32) (y0 : Int32) (S : SS) : Option (Int32 × SS) :=
    f_M_under_M_startMany_M_startOn_j64 K15 x2 y0 x4 x5 S
def f_M_under_M_startMany_M_startOn_L15 (K6 : Int32 → Int32 → Int32 → SS → Option (Int32 × SS)) : Nat → Int32 → Int32 → Int32 → Int32 → SS → Option (Int32 × SS)
  | 0, _, _, _, _, _ => none
  | n + 1, x2, x3, x4, x5, S =>
    grd (inb x4 4) (
    if (S.1 47 x4.toNatClampNeg) ≤ x5 then
      nm (x4 + (1 : Int32)) (fun z1 =>
      K6 x2 x3 z1 S)
    else
      grd (inb (((10 : Int32) * x4) + x5) 40) (
      if (S.1 48 (((10 : Int32) * x4) + x5).toNatClampNeg) = x2 then
        if x5 = 0 then
          f_M_under_M_startMany_M_startOn_j63 (fun v0 v1 v2 v3 S => f_M_under_M_startMany_M_startOn_L15 K6 n v0 v1 v2 v3 S) x2 x4 x5 ((100 : Int32) + x4) S
        else
          grd (inb ((((10 : Int32) * x4) + x5) - (1 : Int32)) 40) (
          f_M_under_M_startMany_M_startOn_j63 (fun v0 v1 v2 v3 S => f_M_under_M_startMany_M_startOn_L15 K6 n v0 v1 v2 v3 S) x2 x4 x5 (S.1 48 ((((10 : Int32) * x4) + x5) - (1 : Int32)).toNatClampNeg) S)
      else
        f_M_under_M_startMany_M_startOn_j64 (fun v0 v1 v2 v3 S => f_M_under_M_startMany_M_startOn_L15 K6 n v0 v1 v2 v3 S) x2 x3 x4 x5 S))
def f_M_under_M_startMany_M_startOn_L6  : Nat → Int32 → Int32 → Int32 → SS → Option (Int32 × SS)
  | 0, _, _, _, _ => none
  | n + 1, x2, x3, x4, S =>
    if (4 : Int32) ≤ x4 then
      some (x3, S)
    else
      f_M_under_M_startMany_M_startOn_L15 (fun v0 v1 v2 S => f_M_under_M_startMany_M_startOn_L6 n v0 v1 v2 S) NF x2 x3 x4 (0 : Int32) S
def f_M_under_M_startMany_M_startOn (a2 : Int32) (S : SS) : Option (Int32 × SS) :=
  f_M_under_M_startMany_M_startOn_L6 NF a2 (-4 : Int32) (0 : Int32) S
theorem dX12_under_0 : decode cX12_under 0 = .ok (.bipush (-4), 2) := dc_16 (a := 252) (by decide +kernel) (by decide)
theorem dX12_under_2 : decode cX12_under 2 = .ok (.istore_n 3, 1) := dc_62 (by decide +kernel)
theorem dX12_under_3 : decode cX12_under 3 = .ok (.iconst 0, 1) := dc_3 (by decide +kernel)
theorem dX12_under_4 : decode cX12_under 4 = .ok (.istore 4, 2) := dc_54 (a := 4) (by decide +kernel)
theorem dX12_under_6 : decode cX12_under 6 = .ok (.iload 4, 2) := dc_21 (a := 4) (by decide +kernel)
theorem dX12_under_8 : decode cX12_under 8 = .ok (.iconst 4, 1) := dc_7 (by decide +kernel)
theorem dX12_under_9 : decode cX12_under 9 = .ok (.if_icmp .ge 67, 3) := dc_162 (a := 0) (b := 67) (by decide +kernel) (by decide)
theorem dX12_under_12 : decode cX12_under 12 = .ok (.iconst 0, 1) := dc_3 (by decide +kernel)
theorem dX12_under_13 : decode cX12_under 13 = .ok (.istore 5, 2) := dc_54 (a := 5) (by decide +kernel)
theorem dX12_under_15 : decode cX12_under 15 = .ok (.iload 5, 2) := dc_21 (a := 5) (by decide +kernel)
theorem dX12_under_17 : decode cX12_under 17 = .ok (.aload_n 0, 1) := dc_42 (by decide +kernel)
theorem dX12_under_18 : decode cX12_under 18 = .ok (.iload 4, 2) := dc_21 (a := 4) (by decide +kernel)
theorem dX12_under_20 : decode cX12_under 20 = .ok (.iaload, 1) := dc_46 (by decide +kernel)
theorem dX12_under_21 : decode cX12_under 21 = .ok (.if_icmp .ge 49, 3) := dc_162 (a := 0) (b := 49) (by decide +kernel) (by decide)
theorem dX12_under_24 : decode cX12_under 24 = .ok (.aload_n 1, 1) := dc_43 (by decide +kernel)
theorem dX12_under_25 : decode cX12_under 25 = .ok (.bipush 10, 2) := dc_16 (a := 10) (by decide +kernel) (by decide)
theorem dX12_under_27 : decode cX12_under 27 = .ok (.iload 4, 2) := dc_21 (a := 4) (by decide +kernel)
theorem dX12_under_29 : decode cX12_under 29 = .ok (.imul, 1) := dc_104 (by decide +kernel)
theorem dX12_under_30 : decode cX12_under 30 = .ok (.iload 5, 2) := dc_21 (a := 5) (by decide +kernel)
theorem dX12_under_32 : decode cX12_under 32 = .ok (.iadd, 1) := dc_96 (by decide +kernel)
theorem dX12_under_33 : decode cX12_under 33 = .ok (.iaload, 1) := dc_46 (by decide +kernel)
theorem dX12_under_34 : decode cX12_under 34 = .ok (.iload_n 2, 1) := dc_28 (by decide +kernel)
theorem dX12_under_35 : decode cX12_under 35 = .ok (.if_icmp .ne 29, 3) := dc_160 (a := 0) (b := 29) (by decide +kernel) (by decide)
theorem dX12_under_38 : decode cX12_under 38 = .ok (.iload 5, 2) := dc_21 (a := 5) (by decide +kernel)
theorem dX12_under_40 : decode cX12_under 40 = .ok (.ifCond .ne 11, 3) := dc_154 (a := 0) (b := 11) (by decide +kernel) (by decide)
theorem dX12_under_43 : decode cX12_under 43 = .ok (.bipush 100, 2) := dc_16 (a := 100) (by decide +kernel) (by decide)
theorem dX12_under_45 : decode cX12_under 45 = .ok (.iload 4, 2) := dc_21 (a := 4) (by decide +kernel)
theorem dX12_under_47 : decode cX12_under 47 = .ok (.iadd, 1) := dc_96 (by decide +kernel)
theorem dX12_under_48 : decode cX12_under 48 = .ok (.goto 15, 3) := dc_167 (a := 0) (b := 15) (by decide +kernel) (by decide)
theorem dX12_under_51 : decode cX12_under 51 = .ok (.aload_n 1, 1) := dc_43 (by decide +kernel)
theorem dX12_under_52 : decode cX12_under 52 = .ok (.bipush 10, 2) := dc_16 (a := 10) (by decide +kernel) (by decide)
theorem dX12_under_54 : decode cX12_under 54 = .ok (.iload 4, 2) := dc_21 (a := 4) (by decide +kernel)
theorem dX12_under_56 : decode cX12_under 56 = .ok (.imul, 1) := dc_104 (by decide +kernel)
theorem dX12_under_57 : decode cX12_under 57 = .ok (.iload 5, 2) := dc_21 (a := 5) (by decide +kernel)
theorem dX12_under_59 : decode cX12_under 59 = .ok (.iadd, 1) := dc_96 (by decide +kernel)
theorem dX12_under_60 : decode cX12_under 60 = .ok (.iconst 1, 1) := dc_4 (by decide +kernel)
theorem dX12_under_61 : decode cX12_under 61 = .ok (.isub, 1) := dc_100 (by decide +kernel)
theorem dX12_under_62 : decode cX12_under 62 = .ok (.iaload, 1) := dc_46 (by decide +kernel)
theorem dX12_under_63 : decode cX12_under 63 = .ok (.istore_n 3, 1) := dc_62 (by decide +kernel)
theorem dX12_under_64 : decode cX12_under 64 = .ok (.iinc 5 1, 3) := dc_132 (a := 5) (b := 1) (by decide +kernel) (by decide)
theorem dX12_under_67 : decode cX12_under 67 = .ok (.goto (-52), 3) := dc_167 (a := 255) (b := 204) (by decide +kernel) (by decide)
theorem dX12_under_70 : decode cX12_under 70 = .ok (.iinc 4 1, 3) := dc_132 (a := 4) (b := 1) (by decide +kernel) (by decide)
theorem dX12_under_73 : decode cX12_under 73 = .ok (.goto (-67), 3) := dc_167 (a := 255) (b := 189) (by decide +kernel) (by decide)
theorem dX12_under_76 : decode cX12_under 76 = .ok (.iload_n 3, 1) := dc_29 (by decide +kernel)
theorem dX12_under_77 : decode cX12_under 77 = .ok (.ireturn, 1) := dc_172 (by decide +kernel)
set_option maxRecDepth 100000 in
set_option maxHeartbeats 4000000 in
theorem w_M_under_M_startMany_M_startOn_j64 {p : Program} {l : Launch} {e : Env} {R : Room} {s : State} {m : MethodId} {args : Array Value} {below : List Frame} {meth : Method} {c : Code} {dC : Nat → ClassId} {dI : Nat → Nat → Nat} {cs : Nat → ClassId} {ad : Nat → Nat} {A : Nat → Prop} {D0 : Nat → Nat} {S' : SS} {r : Int32} (F : Fx p s m args meth c cX12_under 6 RX12 (some .int) dC dI cs A) (hR1 : 0 ≤ R.frames) (hR2 : 0 ≤ R.locals) (K15 : Int32 → Int32 → Int32 → Int32 → SS → Option (Int32 × SS)) (hK15 : ∀ (v0 : Int32) (v1 : Int32) (v2 : Int32) (v3 : Int32) (S : SS), K15 v0 v1 v2 v3 S = some (r, S') → AW p l e R s m args below meth c dC dI cs ad A D0 (some (.int r)) S' 6 15 [(0, .ref (ad 47)), (1, .ref (ad 48)), (2, .int v0), (3, .int v1), (4, .int v2), (5, .int v3)] [] S) (x2 : Int32) (x3 : Int32) (x4 : Int32) (x5 : Int32) (S : SS) (h : f_M_under_M_startMany_M_startOn_j64 K15 x2 x3 x4 x5 S = some (r, S')) : AW p l e R s m args below meth c dC dI cs ad A D0 (some (.int r)) S' 6 64 [(0, .ref (ad 47)), (1, .ref (ad 48)), (2, .int x2), (3, .int x3), (4, .int x4), (5, .int x5)] [] S := by
  have hx := F.1.1
  have hb := F.1.2.1
  intro H locs ls w hl
  rw [f_M_under_M_startMany_M_startOn_j64] at h
  refine s_nm h (fun z2 ez2 h => ?_)
  refine lv_iinc (pc := 64) (v := z2) (lv' := [(5, .int z2), (0, .ref (ad 47)), (1, .ref (ad 48)), (2, .int x2), (3, .int x3), (4, .int x4)]) hx hb dX12_under_64 hl (k := 5) rfl (by rw [ez2]; rfl) (by decide) rfl (fun ls hl => ?_)
  refine lv_goto (pc := 67) (tgt := 15) hx hb dX12_under_67 (by decide) ?_
  exact hK15 _ _ _ _ _ h _ _ _ w (lv_sub hl [1, 2, 3, 4, 5, 0] rfl)
set_option maxRecDepth 100000 in
set_option maxHeartbeats 4000000 in
theorem w_M_under_M_startMany_M_startOn_j63 {p : Program} {l : Launch} {e : Env} {R : Room} {s : State} {m : MethodId} {args : Array Value} {below : List Frame} {meth : Method} {c : Code} {dC : Nat → ClassId} {dI : Nat → Nat → Nat} {cs : Nat → ClassId} {ad : Nat → Nat} {A : Nat → Prop} {D0 : Nat → Nat} {S' : SS} {r : Int32} (F : Fx p s m args meth c cX12_under 6 RX12 (some .int) dC dI cs A) (hR1 : 0 ≤ R.frames) (hR2 : 0 ≤ R.locals) (K15 : Int32 → Int32 → Int32 → Int32 → SS → Option (Int32 × SS)) (hK15 : ∀ (v0 : Int32) (v1 : Int32) (v2 : Int32) (v3 : Int32) (S : SS), K15 v0 v1 v2 v3 S = some (r, S') → AW p l e R s m args below meth c dC dI cs ad A D0 (some (.int r)) S' 6 15 [(0, .ref (ad 47)), (1, .ref (ad 48)), (2, .int v0), (3, .int v1), (4, .int v2), (5, .int v3)] [] S) (x2 : Int32) (x4 : Int32) (x5 : Int32) (y0 : Int32) (S : SS) (h : f_M_under_M_startMany_M_startOn_j63 K15 x2 x4 x5 y0 S = some (r, S')) : AW p l e R s m args below meth c dC dI cs ad A D0 (some (.int r)) S' 6 63 [(0, .ref (ad 47)), (1, .ref (ad 48)), (2, .int x2), (4, .int x4), (5, .int x5)] [.int y0] S := by
  have hx := F.1.1
  have hb := F.1.2.1
  intro H locs ls w hl
  rw [f_M_under_M_startMany_M_startOn_j63] at h
  refine lv_istore_n (pc := 63) (lv' := [(3, .int y0), (0, .ref (ad 47)), (1, .ref (ad 48)), (2, .int x2), (4, .int x4), (5, .int x5)]) hx hb dX12_under_63 rfl hl (by decide) rfl (fun ls hl => ?_)
  exact w_M_under_M_startMany_M_startOn_j64 F (Nat.le_trans (by decide) hR1) (Nat.le_trans (by decide) hR2) _ hK15 _ _ _ _ _ h _ _ _ w (lv_sub hl [1, 2, 3, 0, 4, 5] rfl)
set_option maxRecDepth 100000 in
set_option maxHeartbeats 4000000 in
theorem w_M_under_M_startMany_M_startOn_L15 {p : Program} {l : Launch} {e : Env} {R : Room} {s : State} {m : MethodId} {args : Array Value} {below : List Frame} {meth : Method} {c : Code} {dC : Nat → ClassId} {dI : Nat → Nat → Nat} {cs : Nat → ClassId} {ad : Nat → Nat} {A : Nat → Prop} {D0 : Nat → Nat} {S' : SS} {r : Int32} (F : Fx p s m args meth c cX12_under 6 RX12 (some .int) dC dI cs A) (hR1 : 0 ≤ R.frames) (hR2 : 0 ≤ R.locals) (K6 : Int32 → Int32 → Int32 → SS → Option (Int32 × SS)) (hK6 : ∀ (v0 : Int32) (v1 : Int32) (v2 : Int32) (S : SS), K6 v0 v1 v2 S = some (r, S') → AW p l e R s m args below meth c dC dI cs ad A D0 (some (.int r)) S' 6 6 [(0, .ref (ad 47)), (1, .ref (ad 48)), (2, .int v0), (3, .int v1), (4, .int v2)] [] S) : ∀ (n : Nat) (x2 : Int32) (x3 : Int32) (x4 : Int32) (x5 : Int32) (S : SS), f_M_under_M_startMany_M_startOn_L15 K6 n x2 x3 x4 x5 S = some (r, S') → AW p l e R s m args below meth c dC dI cs ad A D0 (some (.int r)) S' 6 15 [(0, .ref (ad 47)), (1, .ref (ad 48)), (2, .int x2), (3, .int x3), (4, .int x4), (5, .int x5)] [] S := by
  have hx := F.1.1
  have hb := F.1.2.1
  intro n
  induction n with
  | zero => intro x2 x3 x4 x5 S h; cases h
  | succ n ih =>
    intro x2 x3 x4 x5 S h H locs ls w hl
    rw [f_M_under_M_startMany_M_startOn_L15] at h
    refine lv_iload (pc := 15) hx hb dX12_under_15 (lv_at hl 5 rfl) ?_
    refine lv_aload_n (pc := 17) hx hb dX12_under_17 rfl (lv_at hl 0 rfl) ?_
    refine lv_iload (pc := 18) hx hb dX12_under_18 (lv_at hl 4 rfl) ?_
    refine s_iald (pc := 20) F w ds_47 h dX12_under_20 (fun h => ?_)
    refine lv_icmp_ge (pc := 21) (tgt := 70) hx hb dX12_under_21 (by decide) (fun q => ?_) (fun q => ?_)
    · have h := ite_t q h
      refine s_nm h (fun z1 ez1 h => ?_)
      refine lv_iinc (pc := 70) (v := z1) (lv' := [(4, .int z1), (0, .ref (ad 47)), (1, .ref (ad 48)), (2, .int x2), (3, .int x3), (5, .int x5)]) hx hb dX12_under_70 hl (k := 4) rfl (by rw [ez1]; rfl) (by decide) rfl (fun ls hl => ?_)
      refine lv_goto (pc := 73) (tgt := 6) hx hb dX12_under_73 (by decide) ?_
      exact hK6 _ _ _ _ h _ _ _ w (lv_sub hl [1, 2, 3, 4, 0] rfl)
    · have h := ite_f q h
      refine lv_aload_n (pc := 24) hx hb dX12_under_24 rfl (lv_at hl 1 rfl) ?_
      refine lv_bipush (pc := 25) (v := 10) hx hb dX12_under_25 (by decide) ?_
      refine lv_iload (pc := 27) hx hb dX12_under_27 (lv_at hl 4 rfl) ?_
      refine lv_imul (pc := 29) hx hb dX12_under_29 ?_
      refine lv_iload (pc := 30) hx hb dX12_under_30 (lv_at hl 5 rfl) ?_
      refine lv_iadd (pc := 32) hx hb dX12_under_32 ?_
      refine s_iald (pc := 33) F w ds_48 h dX12_under_33 (fun h => ?_)
      refine lv_iload_n (pc := 34) hx hb dX12_under_34 rfl (lv_at hl 2 rfl) ?_
      refine lv_icmp_ne (pc := 35) (tgt := 64) hx hb dX12_under_35 (by decide) (fun q => ?_) (fun q => ?_)
      · have h := ite_f q h
        exact w_M_under_M_startMany_M_startOn_j64 F (Nat.le_trans (by decide) hR1) (Nat.le_trans (by decide) hR2) _ (fun v0 v1 v2 v3 S h => ih v0 v1 v2 v3 S h) _ _ _ _ _ h _ _ _ w (lv_sub hl [0, 1, 2, 3, 4, 5] rfl)
      · have h := ite_t q h
        refine lv_iload (pc := 38) hx hb dX12_under_38 (lv_at hl 5 rfl) ?_
        refine lv_if_ne (pc := 40) (tgt := 51) hx hb dX12_under_40 (by decide) (fun q => ?_) (fun q => ?_)
        · have h := ite_f q h
          refine lv_aload_n (pc := 51) hx hb dX12_under_51 rfl (lv_at hl 1 rfl) ?_
          refine lv_bipush (pc := 52) (v := 10) hx hb dX12_under_52 (by decide) ?_
          refine lv_iload (pc := 54) hx hb dX12_under_54 (lv_at hl 4 rfl) ?_
          refine lv_imul (pc := 56) hx hb dX12_under_56 ?_
          refine lv_iload (pc := 57) hx hb dX12_under_57 (lv_at hl 5 rfl) ?_
          refine lv_iadd (pc := 59) hx hb dX12_under_59 ?_
          refine lv_iconst (pc := 60) (v := 1) hx hb dX12_under_60 (by decide) ?_
          refine lv_isub (pc := 61) hx hb dX12_under_61 ?_
          refine s_iald (pc := 62) F w ds_48 h dX12_under_62 (fun h => ?_)
          exact w_M_under_M_startMany_M_startOn_j63 F (Nat.le_trans (by decide) hR1) (Nat.le_trans (by decide) hR2) _ (fun v0 v1 v2 v3 S h => ih v0 v1 v2 v3 S h) _ _ _ _ _ h _ _ _ w (lv_sub hl [0, 1, 2, 4, 5] rfl)
        · have h := ite_t q h
          refine lv_bipush (pc := 43) (v := 100) hx hb dX12_under_43 (by decide) ?_
          refine lv_iload (pc := 45) hx hb dX12_under_45 (lv_at hl 4 rfl) ?_
          refine lv_iadd (pc := 47) hx hb dX12_under_47 ?_
          refine lv_goto (pc := 48) (tgt := 63) hx hb dX12_under_48 (by decide) ?_
          exact w_M_under_M_startMany_M_startOn_j63 F (Nat.le_trans (by decide) hR1) (Nat.le_trans (by decide) hR2) _ (fun v0 v1 v2 v3 S h => ih v0 v1 v2 v3 S h) _ _ _ _ _ h _ _ _ w (lv_sub hl [0, 1, 2, 4, 5] rfl)
set_option maxRecDepth 100000 in
set_option maxHeartbeats 4000000 in
theorem w_M_under_M_startMany_M_startOn_L6 {p : Program} {l : Launch} {e : Env} {R : Room} {s : State} {m : MethodId} {args : Array Value} {below : List Frame} {meth : Method} {c : Code} {dC : Nat → ClassId} {dI : Nat → Nat → Nat} {cs : Nat → ClassId} {ad : Nat → Nat} {A : Nat → Prop} {D0 : Nat → Nat} {S' : SS} {r : Int32} (F : Fx p s m args meth c cX12_under 6 RX12 (some .int) dC dI cs A) (hR1 : 0 ≤ R.frames) (hR2 : 0 ≤ R.locals) : ∀ (n : Nat) (x2 : Int32) (x3 : Int32) (x4 : Int32) (S : SS), f_M_under_M_startMany_M_startOn_L6 n x2 x3 x4 S = some (r, S') → AW p l e R s m args below meth c dC dI cs ad A D0 (some (.int r)) S' 6 6 [(0, .ref (ad 47)), (1, .ref (ad 48)), (2, .int x2), (3, .int x3), (4, .int x4)] [] S := by
  have hx := F.1.1
  have hb := F.1.2.1
  intro n
  induction n with
  | zero => intro x2 x3 x4 S h; cases h
  | succ n ih =>
    intro x2 x3 x4 S h H locs ls w hl
    rw [f_M_under_M_startMany_M_startOn_L6] at h
    refine lv_iload (pc := 6) hx hb dX12_under_6 (lv_at hl 4 rfl) ?_
    refine lv_iconst (pc := 8) (v := 4) hx hb dX12_under_8 (by decide) ?_
    refine lv_icmp_ge (pc := 9) (tgt := 76) hx hb dX12_under_9 (by decide) (fun q => ?_) (fun q => ?_)
    · have h := ite_t q h
      refine lv_iload_n (pc := 76) hx hb dX12_under_76 rfl (lv_at hl 3 rfl) ?_
      exact s_iret F w h dX12_under_77
    · have h := ite_f q h
      refine lv_iconst (pc := 12) (v := 0) hx hb dX12_under_12 (by decide) ?_
      refine lv_istore (pc := 13) (lv' := [(5, .int (0 : Int32)), (0, .ref (ad 47)), (1, .ref (ad 48)), (2, .int x2), (3, .int x3), (4, .int x4)]) hx hb dX12_under_13 hl (by decide) rfl (fun ls hl => ?_)
      exact w_M_under_M_startMany_M_startOn_L15 F (Nat.le_trans (by decide) hR1) (Nat.le_trans (by decide) hR2) _ (fun v0 v1 v2 S h => ih v0 v1 v2 S h) _ _ _ _ _ _ h _ _ _ w (lv_sub hl [1, 2, 3, 4, 5, 0] rfl)
set_option maxRecDepth 100000 in
set_option maxHeartbeats 4000000 in
theorem m_M_under_M_startMany_M_startOn (a2 : Int32) (S S' : SS) (r : Int32) (h : f_M_under_M_startMany_M_startOn a2 S = some (r, S')) : MT yX12_under cX12_under 6 (some .int) 0 0 (fun ad => [.ref (ad 47), .ref (ad 48), .int a2]) S (some (.int r)) S' := by
  refine MT.of RX12 (fun ad => [(0, .ref (ad 47)), (1, .ref (ad 48)), (2, .int a2)]) (by decide) rfl (fun _ => Nat.le_of_ble_eq_true rfl) (fun _ => rfl) ?_
  intro p l e R s m args below meth c dC dI cs ad A hR1 hR2 F H locs ls w hl
  have hx := F.1.1
  have hb := F.1.2.1
  rw [f_M_under_M_startMany_M_startOn] at h
  refine lv_bipush (pc := 0) (v := -4) hx hb dX12_under_0 (by decide) ?_
  refine lv_istore_n (pc := 2) (lv' := [(3, .int (-4 : Int32)), (0, .ref (ad 47)), (1, .ref (ad 48)), (2, .int a2)]) hx hb dX12_under_2 rfl hl (by decide) rfl (fun ls hl => ?_)
  refine lv_iconst (pc := 3) (v := 0) hx hb dX12_under_3 (by decide) ?_
  refine lv_istore (pc := 4) (lv' := [(4, .int (0 : Int32)), (3, .int (-4 : Int32)), (0, .ref (ad 47)), (1, .ref (ad 48)), (2, .int a2)]) hx hb dX12_under_4 hl (by decide) rfl (fun ls hl => ?_)
  exact w_M_under_M_startMany_M_startOn_L6 F (Nat.le_trans (by decide) hR1) (Nat.le_trans (by decide) hR2) _ _ _ _ _ h _ _ _ w (lv_sub hl [2, 3, 4, 1, 0] rfl)
def f_M_under_M_goalMany_M_goalOn_j64 (K15 : Int32 → Int32 → Int32 → Int32 → SS → Option (Int32 × SS)) (x2 : Int32) (x3 : Int32) (x4 : Int32) (x5 : Int32) (S : SS) : Option (Int32 × SS) :=
    nm (x5 + (1 : Int32)) (fun z2 =>
    K15 x2 x3 x4 z2 S)
def f_M_under_M_goalMany_M_goalOn_j63 (K15 : Int32 → Int32 → Int32 → Int32 → SS → Option (Int32 × SS)) (x2 : Int32) (x4 : Int32) (x5 : Int32) (y0 : Int32) (S : SS) : Option (Int32 × SS) :=
    f_M_under_M_goalMany_M_goalOn_j64 K15 x2 y0 x4 x5 S
def f_M_under_M_goalMany_M_goalOn_L15 (K6 : Int32 → Int32 → Int32 → SS → Option (Int32 × SS)) : Nat → Int32 → Int32 → Int32 → Int32 → SS → Option (Int32 × SS)
  | 0, _, _, _, _, _ => none
  | n + 1, x2, x3, x4, x5, S =>
    grd (inb x4 4) (
    if (S.1 49 x4.toNatClampNeg) ≤ x5 then
      nm (x4 + (1 : Int32)) (fun z1 =>
      K6 x2 x3 z1 S)
    else
      grd (inb (((10 : Int32) * x4) + x5) 40) (
      if (S.1 50 (((10 : Int32) * x4) + x5).toNatClampNeg) = x2 then
        if x5 = 0 then
          f_M_under_M_goalMany_M_goalOn_j63 (fun v0 v1 v2 v3 S => f_M_under_M_goalMany_M_goalOn_L15 K6 n v0 v1 v2 v3 S) x2 x4 x5 ((100 : Int32) + x4) S
        else
          grd (inb ((((10 : Int32) * x4) + x5) - (1 : Int32)) 40) (
          f_M_under_M_goalMany_M_goalOn_j63 (fun v0 v1 v2 v3 S => f_M_under_M_goalMany_M_goalOn_L15 K6 n v0 v1 v2 v3 S) x2 x4 x5 (S.1 50 ((((10 : Int32) * x4) + x5) - (1 : Int32)).toNatClampNeg) S)
      else
        f_M_under_M_goalMany_M_goalOn_j64 (fun v0 v1 v2 v3 S => f_M_under_M_goalMany_M_goalOn_L15 K6 n v0 v1 v2 v3 S) x2 x3 x4 x5 S))
def f_M_under_M_goalMany_M_goalOn_L6  : Nat → Int32 → Int32 → Int32 → SS → Option (Int32 × SS)
  | 0, _, _, _, _ => none
  | n + 1, x2, x3, x4, S =>
    if (4 : Int32) ≤ x4 then
      some (x3, S)
    else
      f_M_under_M_goalMany_M_goalOn_L15 (fun v0 v1 v2 S => f_M_under_M_goalMany_M_goalOn_L6 n v0 v1 v2 S) NF x2 x3 x4 (0 : Int32) S
def f_M_under_M_goalMany_M_goalOn (a2 : Int32) (S : SS) : Option (Int32 × SS) :=
  f_M_under_M_goalMany_M_goalOn_L6 NF a2 (-4 : Int32) (0 : Int32) S
set_option maxRecDepth 100000 in
set_option maxHeartbeats 4000000 in
theorem w_M_under_M_goalMany_M_goalOn_j64 {p : Program} {l : Launch} {e : Env} {R : Room} {s : State} {m : MethodId} {args : Array Value} {below : List Frame} {meth : Method} {c : Code} {dC : Nat → ClassId} {dI : Nat → Nat → Nat} {cs : Nat → ClassId} {ad : Nat → Nat} {A : Nat → Prop} {D0 : Nat → Nat} {S' : SS} {r : Int32} (F : Fx p s m args meth c cX12_under 6 RX12 (some .int) dC dI cs A) (hR1 : 0 ≤ R.frames) (hR2 : 0 ≤ R.locals) (K15 : Int32 → Int32 → Int32 → Int32 → SS → Option (Int32 × SS)) (hK15 : ∀ (v0 : Int32) (v1 : Int32) (v2 : Int32) (v3 : Int32) (S : SS), K15 v0 v1 v2 v3 S = some (r, S') → AW p l e R s m args below meth c dC dI cs ad A D0 (some (.int r)) S' 6 15 [(0, .ref (ad 49)), (1, .ref (ad 50)), (2, .int v0), (3, .int v1), (4, .int v2), (5, .int v3)] [] S) (x2 : Int32) (x3 : Int32) (x4 : Int32) (x5 : Int32) (S : SS) (h : f_M_under_M_goalMany_M_goalOn_j64 K15 x2 x3 x4 x5 S = some (r, S')) : AW p l e R s m args below meth c dC dI cs ad A D0 (some (.int r)) S' 6 64 [(0, .ref (ad 49)), (1, .ref (ad 50)), (2, .int x2), (3, .int x3), (4, .int x4), (5, .int x5)] [] S := by
  have hx := F.1.1
  have hb := F.1.2.1
  intro H locs ls w hl
  rw [f_M_under_M_goalMany_M_goalOn_j64] at h
  refine s_nm h (fun z2 ez2 h => ?_)
  refine lv_iinc (pc := 64) (v := z2) (lv' := [(5, .int z2), (0, .ref (ad 49)), (1, .ref (ad 50)), (2, .int x2), (3, .int x3), (4, .int x4)]) hx hb dX12_under_64 hl (k := 5) rfl (by rw [ez2]; rfl) (by decide) rfl (fun ls hl => ?_)
  refine lv_goto (pc := 67) (tgt := 15) hx hb dX12_under_67 (by decide) ?_
  exact hK15 _ _ _ _ _ h _ _ _ w (lv_sub hl [1, 2, 3, 4, 5, 0] rfl)
set_option maxRecDepth 100000 in
set_option maxHeartbeats 4000000 in
theorem w_M_under_M_goalMany_M_goalOn_j63 {p : Program} {l : Launch} {e : Env} {R : Room} {s : State} {m : MethodId} {args : Array Value} {below : List Frame} {meth : Method} {c : Code} {dC : Nat → ClassId} {dI : Nat → Nat → Nat} {cs : Nat → ClassId} {ad : Nat → Nat} {A : Nat → Prop} {D0 : Nat → Nat} {S' : SS} {r : Int32} (F : Fx p s m args meth c cX12_under 6 RX12 (some .int) dC dI cs A) (hR1 : 0 ≤ R.frames) (hR2 : 0 ≤ R.locals) (K15 : Int32 → Int32 → Int32 → Int32 → SS → Option (Int32 × SS)) (hK15 : ∀ (v0 : Int32) (v1 : Int32) (v2 : Int32) (v3 : Int32) (S : SS), K15 v0 v1 v2 v3 S = some (r, S') → AW p l e R s m args below meth c dC dI cs ad A D0 (some (.int r)) S' 6 15 [(0, .ref (ad 49)), (1, .ref (ad 50)), (2, .int v0), (3, .int v1), (4, .int v2), (5, .int v3)] [] S) (x2 : Int32) (x4 : Int32) (x5 : Int32) (y0 : Int32) (S : SS) (h : f_M_under_M_goalMany_M_goalOn_j63 K15 x2 x4 x5 y0 S = some (r, S')) : AW p l e R s m args below meth c dC dI cs ad A D0 (some (.int r)) S' 6 63 [(0, .ref (ad 49)), (1, .ref (ad 50)), (2, .int x2), (4, .int x4), (5, .int x5)] [.int y0] S := by
  have hx := F.1.1
  have hb := F.1.2.1
  intro H locs ls w hl
  rw [f_M_under_M_goalMany_M_goalOn_j63] at h
  refine lv_istore_n (pc := 63) (lv' := [(3, .int y0), (0, .ref (ad 49)), (1, .ref (ad 50)), (2, .int x2), (4, .int x4), (5, .int x5)]) hx hb dX12_under_63 rfl hl (by decide) rfl (fun ls hl => ?_)
  exact w_M_under_M_goalMany_M_goalOn_j64 F (Nat.le_trans (by decide) hR1) (Nat.le_trans (by decide) hR2) _ hK15 _ _ _ _ _ h _ _ _ w (lv_sub hl [1, 2, 3, 0, 4, 5] rfl)
set_option maxRecDepth 100000 in
set_option maxHeartbeats 4000000 in
theorem w_M_under_M_goalMany_M_goalOn_L15 {p : Program} {l : Launch} {e : Env} {R : Room} {s : State} {m : MethodId} {args : Array Value} {below : List Frame} {meth : Method} {c : Code} {dC : Nat → ClassId} {dI : Nat → Nat → Nat} {cs : Nat → ClassId} {ad : Nat → Nat} {A : Nat → Prop} {D0 : Nat → Nat} {S' : SS} {r : Int32} (F : Fx p s m args meth c cX12_under 6 RX12 (some .int) dC dI cs A) (hR1 : 0 ≤ R.frames) (hR2 : 0 ≤ R.locals) (K6 : Int32 → Int32 → Int32 → SS → Option (Int32 × SS)) (hK6 : ∀ (v0 : Int32) (v1 : Int32) (v2 : Int32) (S : SS), K6 v0 v1 v2 S = some (r, S') → AW p l e R s m args below meth c dC dI cs ad A D0 (some (.int r)) S' 6 6 [(0, .ref (ad 49)), (1, .ref (ad 50)), (2, .int v0), (3, .int v1), (4, .int v2)] [] S) : ∀ (n : Nat) (x2 : Int32) (x3 : Int32) (x4 : Int32) (x5 : Int32) (S : SS), f_M_under_M_goalMany_M_goalOn_L15 K6 n x2 x3 x4 x5 S = some (r, S') → AW p l e R s m args below meth c dC dI cs ad A D0 (some (.int r)) S' 6 15 [(0, .ref (ad 49)), (1, .ref (ad 50)), (2, .int x2), (3, .int x3), (4, .int x4), (5, .int x5)] [] S := by
  have hx := F.1.1
  have hb := F.1.2.1
  intro n
  induction n with
  | zero => intro x2 x3 x4 x5 S h; cases h
  | succ n ih =>
    intro x2 x3 x4 x5 S h H locs ls w hl
    rw [f_M_under_M_goalMany_M_goalOn_L15] at h
    refine lv_iload (pc := 15) hx hb dX12_under_15 (lv_at hl 5 rfl) ?_
    refine lv_aload_n (pc := 17) hx hb dX12_under_17 rfl (lv_at hl 0 rfl) ?_
    refine lv_iload (pc := 18) hx hb dX12_under_18 (lv_at hl 4 rfl) ?_
    refine s_iald (pc := 20) F w ds_49 h dX12_under_20 (fun h => ?_)
    refine lv_icmp_ge (pc := 21) (tgt := 70) hx hb dX12_under_21 (by decide) (fun q => ?_) (fun q => ?_)
    · have h := ite_t q h
      refine s_nm h (fun z1 ez1 h => ?_)
      refine lv_iinc (pc := 70) (v := z1) (lv' := [(4, .int z1), (0, .ref (ad 49)), (1, .ref (ad 50)), (2, .int x2), (3, .int x3), (5, .int x5)]) hx hb dX12_under_70 hl (k := 4) rfl (by rw [ez1]; rfl) (by decide) rfl (fun ls hl => ?_)
      refine lv_goto (pc := 73) (tgt := 6) hx hb dX12_under_73 (by decide) ?_
      exact hK6 _ _ _ _ h _ _ _ w (lv_sub hl [1, 2, 3, 4, 0] rfl)
    · have h := ite_f q h
      refine lv_aload_n (pc := 24) hx hb dX12_under_24 rfl (lv_at hl 1 rfl) ?_
      refine lv_bipush (pc := 25) (v := 10) hx hb dX12_under_25 (by decide) ?_
      refine lv_iload (pc := 27) hx hb dX12_under_27 (lv_at hl 4 rfl) ?_
      refine lv_imul (pc := 29) hx hb dX12_under_29 ?_
      refine lv_iload (pc := 30) hx hb dX12_under_30 (lv_at hl 5 rfl) ?_
      refine lv_iadd (pc := 32) hx hb dX12_under_32 ?_
      refine s_iald (pc := 33) F w ds_50 h dX12_under_33 (fun h => ?_)
      refine lv_iload_n (pc := 34) hx hb dX12_under_34 rfl (lv_at hl 2 rfl) ?_
      refine lv_icmp_ne (pc := 35) (tgt := 64) hx hb dX12_under_35 (by decide) (fun q => ?_) (fun q => ?_)
      · have h := ite_f q h
        exact w_M_under_M_goalMany_M_goalOn_j64 F (Nat.le_trans (by decide) hR1) (Nat.le_trans (by decide) hR2) _ (fun v0 v1 v2 v3 S h => ih v0 v1 v2 v3 S h) _ _ _ _ _ h _ _ _ w (lv_sub hl [0, 1, 2, 3, 4, 5] rfl)
      · have h := ite_t q h
        refine lv_iload (pc := 38) hx hb dX12_under_38 (lv_at hl 5 rfl) ?_
        refine lv_if_ne (pc := 40) (tgt := 51) hx hb dX12_under_40 (by decide) (fun q => ?_) (fun q => ?_)
        · have h := ite_f q h
          refine lv_aload_n (pc := 51) hx hb dX12_under_51 rfl (lv_at hl 1 rfl) ?_
          refine lv_bipush (pc := 52) (v := 10) hx hb dX12_under_52 (by decide) ?_
          refine lv_iload (pc := 54) hx hb dX12_under_54 (lv_at hl 4 rfl) ?_
          refine lv_imul (pc := 56) hx hb dX12_under_56 ?_
          refine lv_iload (pc := 57) hx hb dX12_under_57 (lv_at hl 5 rfl) ?_
          refine lv_iadd (pc := 59) hx hb dX12_under_59 ?_
          refine lv_iconst (pc := 60) (v := 1) hx hb dX12_under_60 (by decide) ?_
          refine lv_isub (pc := 61) hx hb dX12_under_61 ?_
          refine s_iald (pc := 62) F w ds_50 h dX12_under_62 (fun h => ?_)
          exact w_M_under_M_goalMany_M_goalOn_j63 F (Nat.le_trans (by decide) hR1) (Nat.le_trans (by decide) hR2) _ (fun v0 v1 v2 v3 S h => ih v0 v1 v2 v3 S h) _ _ _ _ _ h _ _ _ w (lv_sub hl [0, 1, 2, 4, 5] rfl)
        · have h := ite_t q h
          refine lv_bipush (pc := 43) (v := 100) hx hb dX12_under_43 (by decide) ?_
          refine lv_iload (pc := 45) hx hb dX12_under_45 (lv_at hl 4 rfl) ?_
          refine lv_iadd (pc := 47) hx hb dX12_under_47 ?_
          refine lv_goto (pc := 48) (tgt := 63) hx hb dX12_under_48 (by decide) ?_
          exact w_M_under_M_goalMany_M_goalOn_j63 F (Nat.le_trans (by decide) hR1) (Nat.le_trans (by decide) hR2) _ (fun v0 v1 v2 v3 S h => ih v0 v1 v2 v3 S h) _ _ _ _ _ h _ _ _ w (lv_sub hl [0, 1, 2, 4, 5] rfl)
set_option maxRecDepth 100000 in
set_option maxHeartbeats 4000000 in
theorem w_M_under_M_goalMany_M_goalOn_L6 {p : Program} {l : Launch} {e : Env} {R : Room} {s : State} {m : MethodId} {args : Array Value} {below : List Frame} {meth : Method} {c : Code} {dC : Nat → ClassId} {dI : Nat → Nat → Nat} {cs : Nat → ClassId} {ad : Nat → Nat} {A : Nat → Prop} {D0 : Nat → Nat} {S' : SS} {r : Int32} (F : Fx p s m args meth c cX12_under 6 RX12 (some .int) dC dI cs A) (hR1 : 0 ≤ R.frames) (hR2 : 0 ≤ R.locals) : ∀ (n : Nat) (x2 : Int32) (x3 : Int32) (x4 : Int32) (S : SS), f_M_under_M_goalMany_M_goalOn_L6 n x2 x3 x4 S = some (r, S') → AW p l e R s m args below meth c dC dI cs ad A D0 (some (.int r)) S' 6 6 [(0, .ref (ad 49)), (1, .ref (ad 50)), (2, .int x2), (3, .int x3), (4, .int x4)] [] S := by
  have hx := F.1.1
  have hb := F.1.2.1
  intro n
  induction n with
  | zero => intro x2 x3 x4 S h; cases h
  | succ n ih =>
    intro x2 x3 x4 S h H locs ls w hl
    rw [f_M_under_M_goalMany_M_goalOn_L6] at h
    refine lv_iload (pc := 6) hx hb dX12_under_6 (lv_at hl 4 rfl) ?_
    refine lv_iconst (pc := 8) (v := 4) hx hb dX12_under_8 (by decide) ?_
    refine lv_icmp_ge (pc := 9) (tgt := 76) hx hb dX12_under_9 (by decide) (fun q => ?_) (fun q => ?_)
    · have h := ite_t q h
      refine lv_iload_n (pc := 76) hx hb dX12_under_76 rfl (lv_at hl 3 rfl) ?_
      exact s_iret F w h dX12_under_77
    · have h := ite_f q h
      refine lv_iconst (pc := 12) (v := 0) hx hb dX12_under_12 (by decide) ?_
      refine lv_istore (pc := 13) (lv' := [(5, .int (0 : Int32)), (0, .ref (ad 49)), (1, .ref (ad 50)), (2, .int x2), (3, .int x3), (4, .int x4)]) hx hb dX12_under_13 hl (by decide) rfl (fun ls hl => ?_)
      exact w_M_under_M_goalMany_M_goalOn_L15 F (Nat.le_trans (by decide) hR1) (Nat.le_trans (by decide) hR2) _ (fun v0 v1 v2 S h => ih v0 v1 v2 S h) _ _ _ _ _ _ h _ _ _ w (lv_sub hl [1, 2, 3, 4, 5, 0] rfl)
set_option maxRecDepth 100000 in
set_option maxHeartbeats 4000000 in
theorem m_M_under_M_goalMany_M_goalOn (a2 : Int32) (S S' : SS) (r : Int32) (h : f_M_under_M_goalMany_M_goalOn a2 S = some (r, S')) : MT yX12_under cX12_under 6 (some .int) 0 0 (fun ad => [.ref (ad 49), .ref (ad 50), .int a2]) S (some (.int r)) S' := by
  refine MT.of RX12 (fun ad => [(0, .ref (ad 49)), (1, .ref (ad 50)), (2, .int a2)]) (by decide) rfl (fun _ => Nat.le_of_ble_eq_true rfl) (fun _ => rfl) ?_
  intro p l e R s m args below meth c dC dI cs ad A hR1 hR2 F H locs ls w hl
  have hx := F.1.1
  have hb := F.1.2.1
  rw [f_M_under_M_goalMany_M_goalOn] at h
  refine lv_bipush (pc := 0) (v := -4) hx hb dX12_under_0 (by decide) ?_
  refine lv_istore_n (pc := 2) (lv' := [(3, .int (-4 : Int32)), (0, .ref (ad 49)), (1, .ref (ad 50)), (2, .int a2)]) hx hb dX12_under_2 rfl hl (by decide) rfl (fun ls hl => ?_)
  refine lv_iconst (pc := 3) (v := 0) hx hb dX12_under_3 (by decide) ?_
  refine lv_istore (pc := 4) (lv' := [(4, .int (0 : Int32)), (3, .int (-4 : Int32)), (0, .ref (ad 49)), (1, .ref (ad 50)), (2, .int a2)]) hx hb dX12_under_4 hl (by decide) rfl (fun ls hl => ?_)
  exact w_M_under_M_goalMany_M_goalOn_L6 F (Nat.le_trans (by decide) hR1) (Nat.le_trans (by decide) hR2) _ _ _ _ _ h _ _ _ w (lv_sub hl [2, 3, 4, 1, 0] rfl)
