/-! ===== printed by wip/gen: M_laid_M_startMany_M_startOn M_has_M_goalMany_M_goalOn M_laid_M_goalMany_M_goalOn M_lay M_sumOf_M_startMany M_wipe M_areSame M_take M_sumOf_M_many M_rankOf M_code ===== -/
def f_M_laid_M_startMany_M_startOn (a3 : Int32) (a4 : Int32) (S : SS) : Option (Int32 × SS) :=
  if a3 < 0 then
    some ((-1 : Int32), S)
  else
    if (4 : Int32) ≤ a3 then
      some ((-1 : Int32), S)
    else
      if a4 < 0 then
        some ((-1 : Int32), S)
      else
        if (10 : Int32) ≤ a4 then
          some ((-1 : Int32), S)
        else
          bnd (f_M_has_M_startMany_M_startOn a4 S) (fun r2 S1 =>
          if r2 = 0 then
            grd (inb a3 4) (
            grd (inb a3 4) (
            if (S1.1 47 a3.toNatClampNeg) = (S1.1 46 a3.toNatClampNeg) then
              some ((-1 : Int32), S1)
            else
              grd (inb a3 4) (
              grd (inb (((10 : Int32) * a3) + (S1.1 47 a3.toNatClampNeg)) 40) (wr S1 48 (((10 : Int32) * a3) + (S1.1 47 a3.toNatClampNeg)).toNatClampNeg a4 (fun S3 =>
              grd (inb a3 4) (
              grd (inb a3 4) (wr S3 47 a3.toNatClampNeg ((S3.1 47 a3.toNatClampNeg) + (1 : Int32)) (fun S4 =>
              grd (inb a3 4) (
              some (S4.1 47 a3.toNatClampNeg, S4))))))))))
          else
            some ((-1 : Int32), S1))
theorem dX12_laid_0 : decode cX12_laid 0 = .ok (.iload_n 3, 1) := dc_29 (by decide +kernel)
theorem dX12_laid_1 : decode cX12_laid 1 = .ok (.ifCond .lt 42, 3) := dc_155 (a := 0) (b := 42) (by decide +kernel) (by decide)
theorem dX12_laid_4 : decode cX12_laid 4 = .ok (.iload_n 3, 1) := dc_29 (by decide +kernel)
theorem dX12_laid_5 : decode cX12_laid 5 = .ok (.iconst 4, 1) := dc_7 (by decide +kernel)
theorem dX12_laid_6 : decode cX12_laid 6 = .ok (.if_icmp .ge 37, 3) := dc_162 (a := 0) (b := 37) (by decide +kernel) (by decide)
theorem dX12_laid_9 : decode cX12_laid 9 = .ok (.iload 4, 2) := dc_21 (a := 4) (by decide +kernel)
theorem dX12_laid_11 : decode cX12_laid 11 = .ok (.ifCond .lt 32, 3) := dc_155 (a := 0) (b := 32) (by decide +kernel) (by decide)
theorem dX12_laid_14 : decode cX12_laid 14 = .ok (.iload 4, 2) := dc_21 (a := 4) (by decide +kernel)
theorem dX12_laid_16 : decode cX12_laid 16 = .ok (.bipush 10, 2) := dc_16 (a := 10) (by decide +kernel) (by decide)
theorem dX12_laid_18 : decode cX12_laid 18 = .ok (.if_icmp .ge 25, 3) := dc_162 (a := 0) (b := 25) (by decide +kernel) (by decide)
theorem dX12_laid_21 : decode cX12_laid 21 = .ok (.aload_n 1, 1) := dc_43 (by decide +kernel)
theorem dX12_laid_22 : decode cX12_laid 22 = .ok (.aload_n 2, 1) := dc_44 (by decide +kernel)
theorem dX12_laid_23 : decode cX12_laid 23 = .ok (.iload 4, 2) := dc_21 (a := 4) (by decide +kernel)
theorem dX12_laid_25 : decode cX12_laid 25 = .ok (.invokestatic 451, 3) := dc_184 (a := 1) (b := 195) (by decide +kernel)
theorem dX12_laid_28 : decode cX12_laid 28 = .ok (.ifCond .ne 15, 3) := dc_154 (a := 0) (b := 15) (by decide +kernel) (by decide)
theorem dX12_laid_31 : decode cX12_laid 31 = .ok (.aload_n 1, 1) := dc_43 (by decide +kernel)
theorem dX12_laid_32 : decode cX12_laid 32 = .ok (.iload_n 3, 1) := dc_29 (by decide +kernel)
theorem dX12_laid_33 : decode cX12_laid 33 = .ok (.iaload, 1) := dc_46 (by decide +kernel)
theorem dX12_laid_34 : decode cX12_laid 34 = .ok (.aload_n 0, 1) := dc_42 (by decide +kernel)
theorem dX12_laid_35 : decode cX12_laid 35 = .ok (.getfield 153, 3) := dc_180 (a := 0) (b := 153) (by decide +kernel)
theorem dX12_laid_38 : decode cX12_laid 38 = .ok (.iload_n 3, 1) := dc_29 (by decide +kernel)
theorem dX12_laid_39 : decode cX12_laid 39 = .ok (.iaload, 1) := dc_46 (by decide +kernel)
theorem dX12_laid_40 : decode cX12_laid 40 = .ok (.if_icmp .ne 5, 3) := dc_160 (a := 0) (b := 5) (by decide +kernel) (by decide)
theorem dX12_laid_43 : decode cX12_laid 43 = .ok (.iconst (-1), 1) := dc_2 (by decide +kernel)
theorem dX12_laid_44 : decode cX12_laid 44 = .ok (.ireturn, 1) := dc_172 (by decide +kernel)
theorem dX12_laid_45 : decode cX12_laid 45 = .ok (.aload_n 2, 1) := dc_44 (by decide +kernel)
theorem dX12_laid_46 : decode cX12_laid 46 = .ok (.bipush 10, 2) := dc_16 (a := 10) (by decide +kernel) (by decide)
theorem dX12_laid_48 : decode cX12_laid 48 = .ok (.iload_n 3, 1) := dc_29 (by decide +kernel)
theorem dX12_laid_49 : decode cX12_laid 49 = .ok (.imul, 1) := dc_104 (by decide +kernel)
theorem dX12_laid_50 : decode cX12_laid 50 = .ok (.aload_n 1, 1) := dc_43 (by decide +kernel)
theorem dX12_laid_51 : decode cX12_laid 51 = .ok (.iload_n 3, 1) := dc_29 (by decide +kernel)
theorem dX12_laid_52 : decode cX12_laid 52 = .ok (.iaload, 1) := dc_46 (by decide +kernel)
theorem dX12_laid_53 : decode cX12_laid 53 = .ok (.iadd, 1) := dc_96 (by decide +kernel)
theorem dX12_laid_54 : decode cX12_laid 54 = .ok (.iload 4, 2) := dc_21 (a := 4) (by decide +kernel)
theorem dX12_laid_56 : decode cX12_laid 56 = .ok (.iastore, 1) := dc_79 (by decide +kernel)
theorem dX12_laid_57 : decode cX12_laid 57 = .ok (.aload_n 1, 1) := dc_43 (by decide +kernel)
theorem dX12_laid_58 : decode cX12_laid 58 = .ok (.iload_n 3, 1) := dc_29 (by decide +kernel)
theorem dX12_laid_59 : decode cX12_laid 59 = .ok (.dup2, 1) := dc_92 (by decide +kernel)
theorem dX12_laid_60 : decode cX12_laid 60 = .ok (.iaload, 1) := dc_46 (by decide +kernel)
theorem dX12_laid_61 : decode cX12_laid 61 = .ok (.iconst 1, 1) := dc_4 (by decide +kernel)
theorem dX12_laid_62 : decode cX12_laid 62 = .ok (.iadd, 1) := dc_96 (by decide +kernel)
theorem dX12_laid_63 : decode cX12_laid 63 = .ok (.iastore, 1) := dc_79 (by decide +kernel)
theorem dX12_laid_64 : decode cX12_laid 64 = .ok (.aload_n 1, 1) := dc_43 (by decide +kernel)
theorem dX12_laid_65 : decode cX12_laid 65 = .ok (.iload_n 3, 1) := dc_29 (by decide +kernel)
theorem dX12_laid_66 : decode cX12_laid 66 = .ok (.iaload, 1) := dc_46 (by decide +kernel)
theorem dX12_laid_67 : decode cX12_laid 67 = .ok (.ireturn, 1) := dc_172 (by decide +kernel)
set_option maxRecDepth 100000 in
set_option maxHeartbeats 4000000 in
theorem m_M_laid_M_startMany_M_startOn (a3 : Int32) (a4 : Int32) (S S' : SS) (r : Int32) (h : f_M_laid_M_startMany_M_startOn a3 a4 S = some (r, S')) : MT yX12_laid cX12_laid 5 (some .int) 1 25 (fun ad => [.ref (ad 0), .ref (ad 47), .ref (ad 48), .int a3, .int a4]) S (some (.int r)) S' := by
  refine MT.of RX12 (fun ad => [(0, .ref (ad 0)), (1, .ref (ad 47)), (2, .ref (ad 48)), (3, .int a3), (4, .int a4)]) (by decide) rfl (fun _ => Nat.le_of_ble_eq_true rfl) (fun _ => rfl) ?_
  intro p l e R s m args below meth c dC dI cs ad A hR1 hR2 F H locs ls w hl
  have hx := F.1.1
  have hb := F.1.2.1
  rw [f_M_laid_M_startMany_M_startOn] at h
  refine lv_iload_n (pc := 0) hx hb dX12_laid_0 rfl (lv_at hl 3 rfl) ?_
  refine lv_if_lt (pc := 1) (tgt := 43) hx hb dX12_laid_1 (by decide) (fun q => ?_) (fun q => ?_)
  · have h := ite_t q h
    refine lv_iconst (pc := 43) (v := -1) hx hb dX12_laid_43 (by decide) ?_
    exact s_iret F w h dX12_laid_44
  · have h := ite_f q h
    refine lv_iload_n (pc := 4) hx hb dX12_laid_4 rfl (lv_at hl 3 rfl) ?_
    refine lv_iconst (pc := 5) (v := 4) hx hb dX12_laid_5 (by decide) ?_
    refine lv_icmp_ge (pc := 6) (tgt := 43) hx hb dX12_laid_6 (by decide) (fun q => ?_) (fun q => ?_)
    · have h := ite_t q h
      refine lv_iconst (pc := 43) (v := -1) hx hb dX12_laid_43 (by decide) ?_
      exact s_iret F w h dX12_laid_44
    · have h := ite_f q h
      refine lv_iload (pc := 9) hx hb dX12_laid_9 (lv_at hl 4 rfl) ?_
      refine lv_if_lt (pc := 11) (tgt := 43) hx hb dX12_laid_11 (by decide) (fun q => ?_) (fun q => ?_)
      · have h := ite_t q h
        refine lv_iconst (pc := 43) (v := -1) hx hb dX12_laid_43 (by decide) ?_
        exact s_iret F w h dX12_laid_44
      · have h := ite_f q h
        refine lv_iload (pc := 14) hx hb dX12_laid_14 (lv_at hl 4 rfl) ?_
        refine lv_bipush (pc := 16) (v := 10) hx hb dX12_laid_16 (by decide) ?_
        refine lv_icmp_ge (pc := 18) (tgt := 43) hx hb dX12_laid_18 (by decide) (fun q => ?_) (fun q => ?_)
        · have h := ite_t q h
          refine lv_iconst (pc := 43) (v := -1) hx hb dX12_laid_43 (by decide) ?_
          exact s_iret F w h dX12_laid_44
        · have h := ite_f q h
          refine lv_aload_n (pc := 21) hx hb dX12_laid_21 rfl (lv_at hl 1 rfl) ?_
          refine lv_aload_n (pc := 22) hx hb dX12_laid_22 rfl (lv_at hl 2 rfl) ?_
          refine lv_iload (pc := 23) hx hb dX12_laid_23 (lv_at hl 4 rfl) ?_
          obtain ⟨r2, S1, hc, h⟩ := bnd_t h
          refine s_csi (pc := 25) [.ref (ad 47), .ref (ad 48), .int a4] (fun ad => [.ref (ad 47), .ref (ad 48), .int a4]) F w (m_M_has_M_startMany_M_startOn _ _ _ _ hc) rfl rfl hl.1 ok_X12_has rfl kc_X12_has kl_X12_451 ks_X12_has kn_X12 ⟨Nat.le_trans (by decide) hR1, Nat.le_trans (by decide) hR2⟩ ⟨Nat.zero_le _, Nat.zero_le _⟩ (Nat.le_of_ble_eq_true rfl) dX12_laid_25 (fun H locs w => ?_)
          refine lv_if_ne (pc := 28) (tgt := 43) hx hb dX12_laid_28 (by decide) (fun q => ?_) (fun q => ?_)
          · have h := ite_f q h
            refine lv_iconst (pc := 43) (v := -1) hx hb dX12_laid_43 (by decide) ?_
            exact s_iret F w h dX12_laid_44
          · have h := ite_t q h
            refine lv_aload_n (pc := 31) hx hb dX12_laid_31 rfl (lv_at hl 1 rfl) ?_
            refine lv_iload_n (pc := 32) hx hb dX12_laid_32 rfl (lv_at hl 3 rfl) ?_
            refine s_iald (pc := 33) F w ds_47 h dX12_laid_33 (fun h => ?_)
            refine lv_aload_n (pc := 34) hx hb dX12_laid_34 rfl (lv_at hl 0 rfl) ?_
            refine s_getR (pc := 35) F w 46 ds_0 (j := 71) vc_X12 vi_X12 rfl (by decide) kf_X12_153 dX12_laid_35 ?_
            refine lv_iload_n (pc := 38) hx hb dX12_laid_38 rfl (lv_at hl 3 rfl) ?_
            refine s_iald (pc := 39) F w ds_46 h dX12_laid_39 (fun h => ?_)
            refine lv_icmp_ne (pc := 40) (tgt := 45) hx hb dX12_laid_40 (by decide) (fun q => ?_) (fun q => ?_)
            · have h := ite_f q h
              refine lv_aload_n (pc := 45) hx hb dX12_laid_45 rfl (lv_at hl 2 rfl) ?_
              refine lv_bipush (pc := 46) (v := 10) hx hb dX12_laid_46 (by decide) ?_
              refine lv_iload_n (pc := 48) hx hb dX12_laid_48 rfl (lv_at hl 3 rfl) ?_
              refine lv_imul (pc := 49) hx hb dX12_laid_49 ?_
              refine lv_aload_n (pc := 50) hx hb dX12_laid_50 rfl (lv_at hl 1 rfl) ?_
              refine lv_iload_n (pc := 51) hx hb dX12_laid_51 rfl (lv_at hl 3 rfl) ?_
              refine s_iald (pc := 52) F w ds_47 h dX12_laid_52 (fun h => ?_)
              refine lv_iadd (pc := 53) hx hb dX12_laid_53 ?_
              refine lv_iload (pc := 54) hx hb dX12_laid_54 (lv_at hl 4 rfl) ?_
              refine s_iast (pc := 56) F w ds_48 h dX12_laid_56 (fun S3 H locs h w => ?_)
              refine lv_aload_n (pc := 57) hx hb dX12_laid_57 rfl (lv_at hl 1 rfl) ?_
              refine lv_iload_n (pc := 58) hx hb dX12_laid_58 rfl (lv_at hl 3 rfl) ?_
              refine lv_dup2_11 (pc := 59) hx hb dX12_laid_59 rfl rfl ?_
              refine s_iald (pc := 60) F w ds_47 h dX12_laid_60 (fun h => ?_)
              refine lv_iconst (pc := 61) (v := 1) hx hb dX12_laid_61 (by decide) ?_
              refine lv_iadd (pc := 62) hx hb dX12_laid_62 ?_
              refine s_iast (pc := 63) F w ds_47 h dX12_laid_63 (fun S4 H locs h w => ?_)
              refine lv_aload_n (pc := 64) hx hb dX12_laid_64 rfl (lv_at hl 1 rfl) ?_
              refine lv_iload_n (pc := 65) hx hb dX12_laid_65 rfl (lv_at hl 3 rfl) ?_
              refine s_iald (pc := 66) F w ds_47 h dX12_laid_66 (fun h => ?_)
              exact s_iret F w h dX12_laid_67
            · have h := ite_t q h
              refine lv_iconst (pc := 43) (v := -1) hx hb dX12_laid_43 (by decide) ?_
              exact s_iret F w h dX12_laid_44
def f_M_has_M_goalMany_M_goalOn_j46 (K14 : Int32 → Int32 → Int32 → Int32 → SS → Option (Int32 × SS)) (x2 : Int32) (x4 : Int32) (x5 : Int32) (y0 : Int32) (S : SS) : Option (Int32 × SS) :=
    nm (x5 + (1 : Int32)) (fun z2 =>
    K14 x2 y0 x4 z2 S)
def f_M_has_M_goalMany_M_goalOn_j41 (K14 : Int32 → Int32 → Int32 → Int32 → SS → Option (Int32 × SS)) (x2 : Int32) (x4 : Int32) (x5 : Int32) (S : SS) : Option (Int32 × SS) :=
    f_M_has_M_goalMany_M_goalOn_j46 K14 x2 x4 x5 (1 : Int32) S
def f_M_has_M_goalMany_M_goalOn_L14 (K5 : Int32 → Int32 → Int32 → SS → Option (Int32 × SS)) : Nat → Int32 → Int32 → Int32 → Int32 → SS → Option (Int32 × SS)
  | 0, _, _, _, _, _ => none
  | n + 1, x2, x3, x4, x5, S =>
    grd (inb x4 4) (
    if (S.1 49 x4.toNatClampNeg) ≤ x5 then
      nm (x4 + (1 : Int32)) (fun z1 =>
      K5 x2 x3 z1 S)
    else
      if x3 = 0 then
        grd (inb (((10 : Int32) * x4) + x5) 40) (
        if (S.1 50 (((10 : Int32) * x4) + x5).toNatClampNeg) = x2 then
          f_M_has_M_goalMany_M_goalOn_j41 (fun v0 v1 v2 v3 S => f_M_has_M_goalMany_M_goalOn_L14 K5 n v0 v1 v2 v3 S) x2 x4 x5 S
        else
          f_M_has_M_goalMany_M_goalOn_j46 (fun v0 v1 v2 v3 S => f_M_has_M_goalMany_M_goalOn_L14 K5 n v0 v1 v2 v3 S) x2 x4 x5 (0 : Int32) S)
      else
        f_M_has_M_goalMany_M_goalOn_j41 (fun v0 v1 v2 v3 S => f_M_has_M_goalMany_M_goalOn_L14 K5 n v0 v1 v2 v3 S) x2 x4 x5 S)
def f_M_has_M_goalMany_M_goalOn_L5  : Nat → Int32 → Int32 → Int32 → SS → Option (Int32 × SS)
  | 0, _, _, _, _ => none
  | n + 1, x2, x3, x4, S =>
    if (4 : Int32) ≤ x4 then
      grd (isB x3) (some (x3, S))
    else
      f_M_has_M_goalMany_M_goalOn_L14 (fun v0 v1 v2 S => f_M_has_M_goalMany_M_goalOn_L5 n v0 v1 v2 S) NF x2 x3 x4 (0 : Int32) S
def f_M_has_M_goalMany_M_goalOn (a2 : Int32) (S : SS) : Option (Int32 × SS) :=
  f_M_has_M_goalMany_M_goalOn_L5 NF a2 (0 : Int32) (0 : Int32) S
set_option maxRecDepth 100000 in
set_option maxHeartbeats 4000000 in
theorem w_M_has_M_goalMany_M_goalOn_j46 {p : Program} {l : Launch} {e : Env} {R : Room} {s : State} {m : MethodId} {args : Array Value} {below : List Frame} {meth : Method} {c : Code} {dC : Nat → ClassId} {dI : Nat → Nat → Nat} {cs : Nat → ClassId} {ad : Nat → Nat} {A : Nat → Prop} {D0 : Nat → Nat} {S' : SS} {r : Int32} (F : Fx p s m args meth c cX12_has 6 RX12 (some .boolean) dC dI cs A) (hR1 : 0 ≤ R.frames) (hR2 : 0 ≤ R.locals) (K14 : Int32 → Int32 → Int32 → Int32 → SS → Option (Int32 × SS)) (hK14 : ∀ (v0 : Int32) (v1 : Int32) (v2 : Int32) (v3 : Int32) (S : SS), K14 v0 v1 v2 v3 S = some (r, S') → AW p l e R s m args below meth c dC dI cs ad A D0 (some (.int r)) S' 6 14 [(0, .ref (ad 49)), (1, .ref (ad 50)), (2, .int v0), (3, .int v1), (4, .int v2), (5, .int v3)] [] S) (x2 : Int32) (x4 : Int32) (x5 : Int32) (y0 : Int32) (S : SS) (h : f_M_has_M_goalMany_M_goalOn_j46 K14 x2 x4 x5 y0 S = some (r, S')) : AW p l e R s m args below meth c dC dI cs ad A D0 (some (.int r)) S' 6 46 [(0, .ref (ad 49)), (1, .ref (ad 50)), (2, .int x2), (4, .int x4), (5, .int x5)] [.int y0] S := by
  have hx := F.1.1
  have hb := F.1.2.1
  intro H locs ls w hl
  rw [f_M_has_M_goalMany_M_goalOn_j46] at h
  refine lv_istore_n (pc := 46) (lv' := [(3, .int y0), (0, .ref (ad 49)), (1, .ref (ad 50)), (2, .int x2), (4, .int x4), (5, .int x5)]) hx hb dX12_has_46 rfl hl (by decide) rfl (fun ls hl => ?_)
  refine s_nm h (fun z2 ez2 h => ?_)
  refine lv_iinc (pc := 47) (v := z2) (lv' := [(5, .int z2), (3, .int y0), (0, .ref (ad 49)), (1, .ref (ad 50)), (2, .int x2), (4, .int x4)]) hx hb dX12_has_47 hl (k := 5) rfl (by rw [ez2]; rfl) (by decide) rfl (fun ls hl => ?_)
  refine lv_goto (pc := 50) (tgt := 14) hx hb dX12_has_50 (by decide) ?_
  exact hK14 _ _ _ _ _ h _ _ _ w (lv_sub hl [2, 3, 4, 1, 5, 0] rfl)
set_option maxRecDepth 100000 in
set_option maxHeartbeats 4000000 in
theorem w_M_has_M_goalMany_M_goalOn_j41 {p : Program} {l : Launch} {e : Env} {R : Room} {s : State} {m : MethodId} {args : Array Value} {below : List Frame} {meth : Method} {c : Code} {dC : Nat → ClassId} {dI : Nat → Nat → Nat} {cs : Nat → ClassId} {ad : Nat → Nat} {A : Nat → Prop} {D0 : Nat → Nat} {S' : SS} {r : Int32} (F : Fx p s m args meth c cX12_has 6 RX12 (some .boolean) dC dI cs A) (hR1 : 0 ≤ R.frames) (hR2 : 0 ≤ R.locals) (K14 : Int32 → Int32 → Int32 → Int32 → SS → Option (Int32 × SS)) (hK14 : ∀ (v0 : Int32) (v1 : Int32) (v2 : Int32) (v3 : Int32) (S : SS), K14 v0 v1 v2 v3 S = some (r, S') → AW p l e R s m args below meth c dC dI cs ad A D0 (some (.int r)) S' 6 14 [(0, .ref (ad 49)), (1, .ref (ad 50)), (2, .int v0), (3, .int v1), (4, .int v2), (5, .int v3)] [] S) (x2 : Int32) (x4 : Int32) (x5 : Int32) (S : SS) (h : f_M_has_M_goalMany_M_goalOn_j41 K14 x2 x4 x5 S = some (r, S')) : AW p l e R s m args below meth c dC dI cs ad A D0 (some (.int r)) S' 6 41 [(0, .ref (ad 49)), (1, .ref (ad 50)), (2, .int x2), (4, .int x4), (5, .int x5)] [] S := by
  have hx := F.1.1
  have hb := F.1.2.1
  intro H locs ls w hl
  rw [f_M_has_M_goalMany_M_goalOn_j41] at h
  refine lv_iconst (pc := 41) (v := 1) hx hb dX12_has_41 (by decide) ?_
  refine lv_goto (pc := 42) (tgt := 46) hx hb dX12_has_42 (by decide) ?_
  exact w_M_has_M_goalMany_M_goalOn_j46 F (Nat.le_trans (by decide) hR1) (Nat.le_trans (by decide) hR2) _ hK14 _ _ _ _ _ h _ _ _ w (lv_sub hl [0, 1, 2, 3, 4] rfl)
set_option maxRecDepth 100000 in
set_option maxHeartbeats 4000000 in
theorem w_M_has_M_goalMany_M_goalOn_L14 {p : Program} {l : Launch} {e : Env} {R : Room} {s : State} {m : MethodId} {args : Array Value} {below : List Frame} {meth : Method} {c : Code} {dC : Nat → ClassId} {dI : Nat → Nat → Nat} {cs : Nat → ClassId} {ad : Nat → Nat} {A : Nat → Prop} {D0 : Nat → Nat} {S' : SS} {r : Int32} (F : Fx p s m args meth c cX12_has 6 RX12 (some .boolean) dC dI cs A) (hR1 : 0 ≤ R.frames) (hR2 : 0 ≤ R.locals) (K5 : Int32 → Int32 → Int32 → SS → Option (Int32 × SS)) (hK5 : ∀ (v0 : Int32) (v1 : Int32) (v2 : Int32) (S : SS), K5 v0 v1 v2 S = some (r, S') → AW p l e R s m args below meth c dC dI cs ad A D0 (some (.int r)) S' 6 5 [(0, .ref (ad 49)), (1, .ref (ad 50)), (2, .int v0), (3, .int v1), (4, .int v2)] [] S) : ∀ (n : Nat) (x2 : Int32) (x3 : Int32) (x4 : Int32) (x5 : Int32) (S : SS), f_M_has_M_goalMany_M_goalOn_L14 K5 n x2 x3 x4 x5 S = some (r, S') → AW p l e R s m args below meth c dC dI cs ad A D0 (some (.int r)) S' 6 14 [(0, .ref (ad 49)), (1, .ref (ad 50)), (2, .int x2), (3, .int x3), (4, .int x4), (5, .int x5)] [] S := by
  have hx := F.1.1
  have hb := F.1.2.1
  intro n
  induction n with
  | zero => intro x2 x3 x4 x5 S h; cases h
  | succ n ih =>
    intro x2 x3 x4 x5 S h H locs ls w hl
    rw [f_M_has_M_goalMany_M_goalOn_L14] at h
    refine lv_iload (pc := 14) hx hb dX12_has_14 (lv_at hl 5 rfl) ?_
    refine lv_aload_n (pc := 16) hx hb dX12_has_16 rfl (lv_at hl 0 rfl) ?_
    refine lv_iload (pc := 17) hx hb dX12_has_17 (lv_at hl 4 rfl) ?_
    refine s_iald (pc := 19) F w ds_49 h dX12_has_19 (fun h => ?_)
    refine lv_icmp_ge (pc := 20) (tgt := 53) hx hb dX12_has_20 (by decide) (fun q => ?_) (fun q => ?_)
    · have h := ite_t q h
      refine s_nm h (fun z1 ez1 h => ?_)
      refine lv_iinc (pc := 53) (v := z1) (lv' := [(4, .int z1), (0, .ref (ad 49)), (1, .ref (ad 50)), (2, .int x2), (3, .int x3), (5, .int x5)]) hx hb dX12_has_53 hl (k := 4) rfl (by rw [ez1]; rfl) (by decide) rfl (fun ls hl => ?_)
      refine lv_goto (pc := 56) (tgt := 5) hx hb dX12_has_56 (by decide) ?_
      exact hK5 _ _ _ _ h _ _ _ w (lv_sub hl [1, 2, 3, 4, 0] rfl)
    · have h := ite_f q h
      refine lv_iload_n (pc := 23) hx hb dX12_has_23 rfl (lv_at hl 3 rfl) ?_
      refine lv_if_ne (pc := 24) (tgt := 41) hx hb dX12_has_24 (by decide) (fun q => ?_) (fun q => ?_)
      · have h := ite_f q h
        exact w_M_has_M_goalMany_M_goalOn_j41 F (Nat.le_trans (by decide) hR1) (Nat.le_trans (by decide) hR2) _ (fun v0 v1 v2 v3 S h => ih v0 v1 v2 v3 S h) _ _ _ _ h _ _ _ w (lv_sub hl [0, 1, 2, 4, 5] rfl)
      · have h := ite_t q h
        refine lv_aload_n (pc := 27) hx hb dX12_has_27 rfl (lv_at hl 1 rfl) ?_
        refine lv_bipush (pc := 28) (v := 10) hx hb dX12_has_28 (by decide) ?_
        refine lv_iload (pc := 30) hx hb dX12_has_30 (lv_at hl 4 rfl) ?_
        refine lv_imul (pc := 32) hx hb dX12_has_32 ?_
        refine lv_iload (pc := 33) hx hb dX12_has_33 (lv_at hl 5 rfl) ?_
        refine lv_iadd (pc := 35) hx hb dX12_has_35 ?_
        refine s_iald (pc := 36) F w ds_50 h dX12_has_36 (fun h => ?_)
        refine lv_iload_n (pc := 37) hx hb dX12_has_37 rfl (lv_at hl 2 rfl) ?_
        refine lv_icmp_ne (pc := 38) (tgt := 45) hx hb dX12_has_38 (by decide) (fun q => ?_) (fun q => ?_)
        · have h := ite_f q h
          refine lv_iconst (pc := 45) (v := 0) hx hb dX12_has_45 (by decide) ?_
          exact w_M_has_M_goalMany_M_goalOn_j46 F (Nat.le_trans (by decide) hR1) (Nat.le_trans (by decide) hR2) _ (fun v0 v1 v2 v3 S h => ih v0 v1 v2 v3 S h) _ _ _ _ _ h _ _ _ w (lv_sub hl [0, 1, 2, 4, 5] rfl)
        · have h := ite_t q h
          exact w_M_has_M_goalMany_M_goalOn_j41 F (Nat.le_trans (by decide) hR1) (Nat.le_trans (by decide) hR2) _ (fun v0 v1 v2 v3 S h => ih v0 v1 v2 v3 S h) _ _ _ _ h _ _ _ w (lv_sub hl [0, 1, 2, 4, 5] rfl)
set_option maxRecDepth 100000 in
set_option maxHeartbeats 4000000 in
theorem w_M_has_M_goalMany_M_goalOn_L5 {p : Program} {l : Launch} {e : Env} {R : Room} {s : State} {m : MethodId} {args : Array Value} {below : List Frame} {meth : Method} {c : Code} {dC : Nat → ClassId} {dI : Nat → Nat → Nat} {cs : Nat → ClassId} {ad : Nat → Nat} {A : Nat → Prop} {D0 : Nat → Nat} {S' : SS} {r : Int32} (F : Fx p s m args meth c cX12_has 6 RX12 (some .boolean) dC dI cs A) (hR1 : 0 ≤ R.frames) (hR2 : 0 ≤ R.locals) : ∀ (n : Nat) (x2 : Int32) (x3 : Int32) (x4 : Int32) (S : SS), f_M_has_M_goalMany_M_goalOn_L5 n x2 x3 x4 S = some (r, S') → AW p l e R s m args below meth c dC dI cs ad A D0 (some (.int r)) S' 6 5 [(0, .ref (ad 49)), (1, .ref (ad 50)), (2, .int x2), (3, .int x3), (4, .int x4)] [] S := by
  have hx := F.1.1
  have hb := F.1.2.1
  intro n
  induction n with
  | zero => intro x2 x3 x4 S h; cases h
  | succ n ih =>
    intro x2 x3 x4 S h H locs ls w hl
    rw [f_M_has_M_goalMany_M_goalOn_L5] at h
    refine lv_iload (pc := 5) hx hb dX12_has_5 (lv_at hl 4 rfl) ?_
    refine lv_iconst (pc := 7) (v := 4) hx hb dX12_has_7 (by decide) ?_
    refine lv_icmp_ge (pc := 8) (tgt := 59) hx hb dX12_has_8 (by decide) (fun q => ?_) (fun q => ?_)
    · have h := ite_t q h
      refine lv_iload_n (pc := 59) hx hb dX12_has_59 rfl (lv_at hl 3 rfl) ?_
      exact s_zret F w h dX12_has_60
    · have h := ite_f q h
      refine lv_iconst (pc := 11) (v := 0) hx hb dX12_has_11 (by decide) ?_
      refine lv_istore (pc := 12) (lv' := [(5, .int (0 : Int32)), (0, .ref (ad 49)), (1, .ref (ad 50)), (2, .int x2), (3, .int x3), (4, .int x4)]) hx hb dX12_has_12 hl (by decide) rfl (fun ls hl => ?_)
      exact w_M_has_M_goalMany_M_goalOn_L14 F (Nat.le_trans (by decide) hR1) (Nat.le_trans (by decide) hR2) _ (fun v0 v1 v2 S h => ih v0 v1 v2 S h) _ _ _ _ _ _ h _ _ _ w (lv_sub hl [1, 2, 3, 4, 5, 0] rfl)
set_option maxRecDepth 100000 in
set_option maxHeartbeats 4000000 in
theorem m_M_has_M_goalMany_M_goalOn (a2 : Int32) (S S' : SS) (r : Int32) (h : f_M_has_M_goalMany_M_goalOn a2 S = some (r, S')) : MT yX12_has cX12_has 6 (some .boolean) 0 0 (fun ad => [.ref (ad 49), .ref (ad 50), .int a2]) S (some (.int r)) S' := by
  refine MT.of RX12 (fun ad => [(0, .ref (ad 49)), (1, .ref (ad 50)), (2, .int a2)]) (by decide) rfl (fun _ => Nat.le_of_ble_eq_true rfl) (fun _ => rfl) ?_
  intro p l e R s m args below meth c dC dI cs ad A hR1 hR2 F H locs ls w hl
  have hx := F.1.1
  have hb := F.1.2.1
  rw [f_M_has_M_goalMany_M_goalOn] at h
  refine lv_iconst (pc := 0) (v := 0) hx hb dX12_has_0 (by decide) ?_
  refine lv_istore_n (pc := 1) (lv' := [(3, .int (0 : Int32)), (0, .ref (ad 49)), (1, .ref (ad 50)), (2, .int a2)]) hx hb dX12_has_1 rfl hl (by decide) rfl (fun ls hl => ?_)
  refine lv_iconst (pc := 2) (v := 0) hx hb dX12_has_2 (by decide) ?_
  refine lv_istore (pc := 3) (lv' := [(4, .int (0 : Int32)), (3, .int (0 : Int32)), (0, .ref (ad 49)), (1, .ref (ad 50)), (2, .int a2)]) hx hb dX12_has_3 hl (by decide) rfl (fun ls hl => ?_)
  exact w_M_has_M_goalMany_M_goalOn_L5 F (Nat.le_trans (by decide) hR1) (Nat.le_trans (by decide) hR2) _ _ _ _ _ h _ _ _ w (lv_sub hl [2, 3, 4, 1, 0] rfl)
def f_M_laid_M_goalMany_M_goalOn (a3 : Int32) (a4 : Int32) (S : SS) : Option (Int32 × SS) :=
  if a3 < 0 then
    some ((-1 : Int32), S)
  else
    if (4 : Int32) ≤ a3 then
      some ((-1 : Int32), S)
    else
      if a4 < 0 then
        some ((-1 : Int32), S)
      else
        if (10 : Int32) ≤ a4 then
          some ((-1 : Int32), S)
        else
          bnd (f_M_has_M_goalMany_M_goalOn a4 S) (fun r2 S1 =>
          if r2 = 0 then
            grd (inb a3 4) (
            grd (inb a3 4) (
            if (S1.1 49 a3.toNatClampNeg) = (S1.1 46 a3.toNatClampNeg) then
              some ((-1 : Int32), S1)
            else
              grd (inb a3 4) (
              grd (inb (((10 : Int32) * a3) + (S1.1 49 a3.toNatClampNeg)) 40) (wr S1 50 (((10 : Int32) * a3) + (S1.1 49 a3.toNatClampNeg)).toNatClampNeg a4 (fun S3 =>
              grd (inb a3 4) (
              grd (inb a3 4) (wr S3 49 a3.toNatClampNeg ((S3.1 49 a3.toNatClampNeg) + (1 : Int32)) (fun S4 =>
              grd (inb a3 4) (
              some (S4.1 49 a3.toNatClampNeg, S4))))))))))
          else
            some ((-1 : Int32), S1))
set_option maxRecDepth 100000 in
set_option maxHeartbeats 4000000 in
theorem m_M_laid_M_goalMany_M_goalOn (a3 : Int32) (a4 : Int32) (S S' : SS) (r : Int32) (h : f_M_laid_M_goalMany_M_goalOn a3 a4 S = some (r, S')) : MT yX12_laid cX12_laid 5 (some .int) 1 25 (fun ad => [.ref (ad 0), .ref (ad 49), .ref (ad 50), .int a3, .int a4]) S (some (.int r)) S' := by
  refine MT.of RX12 (fun ad => [(0, .ref (ad 0)), (1, .ref (ad 49)), (2, .ref (ad 50)), (3, .int a3), (4, .int a4)]) (by decide) rfl (fun _ => Nat.le_of_ble_eq_true rfl) (fun _ => rfl) ?_
  intro p l e R s m args below meth c dC dI cs ad A hR1 hR2 F H locs ls w hl
  have hx := F.1.1
  have hb := F.1.2.1
  rw [f_M_laid_M_goalMany_M_goalOn] at h
  refine lv_iload_n (pc := 0) hx hb dX12_laid_0 rfl (lv_at hl 3 rfl) ?_
  refine lv_if_lt (pc := 1) (tgt := 43) hx hb dX12_laid_1 (by decide) (fun q => ?_) (fun q => ?_)
  · have h := ite_t q h
    refine lv_iconst (pc := 43) (v := -1) hx hb dX12_laid_43 (by decide) ?_
    exact s_iret F w h dX12_laid_44
  · have h := ite_f q h
    refine lv_iload_n (pc := 4) hx hb dX12_laid_4 rfl (lv_at hl 3 rfl) ?_
    refine lv_iconst (pc := 5) (v := 4) hx hb dX12_laid_5 (by decide) ?_
    refine lv_icmp_ge (pc := 6) (tgt := 43) hx hb dX12_laid_6 (by decide) (fun q => ?_) (fun q => ?_)
    · have h := ite_t q h
      refine lv_iconst (pc := 43) (v := -1) hx hb dX12_laid_43 (by decide) ?_
      exact s_iret F w h dX12_laid_44
    · have h := ite_f q h
      refine lv_iload (pc := 9) hx hb dX12_laid_9 (lv_at hl 4 rfl) ?_
      refine lv_if_lt (pc := 11) (tgt := 43) hx hb dX12_laid_11 (by decide) (fun q => ?_) (fun q => ?_)
      · have h := ite_t q h
        refine lv_iconst (pc := 43) (v := -1) hx hb dX12_laid_43 (by decide) ?_
        exact s_iret F w h dX12_laid_44
      · have h := ite_f q h
        refine lv_iload (pc := 14) hx hb dX12_laid_14 (lv_at hl 4 rfl) ?_
        refine lv_bipush (pc := 16) (v := 10) hx hb dX12_laid_16 (by decide) ?_
        refine lv_icmp_ge (pc := 18) (tgt := 43) hx hb dX12_laid_18 (by decide) (fun q => ?_) (fun q => ?_)
        · have h := ite_t q h
          refine lv_iconst (pc := 43) (v := -1) hx hb dX12_laid_43 (by decide) ?_
          exact s_iret F w h dX12_laid_44
        · have h := ite_f q h
          refine lv_aload_n (pc := 21) hx hb dX12_laid_21 rfl (lv_at hl 1 rfl) ?_
          refine lv_aload_n (pc := 22) hx hb dX12_laid_22 rfl (lv_at hl 2 rfl) ?_
          refine lv_iload (pc := 23) hx hb dX12_laid_23 (lv_at hl 4 rfl) ?_
          obtain ⟨r2, S1, hc, h⟩ := bnd_t h
          refine s_csi (pc := 25) [.ref (ad 49), .ref (ad 50), .int a4] (fun ad => [.ref (ad 49), .ref (ad 50), .int a4]) F w (m_M_has_M_goalMany_M_goalOn _ _ _ _ hc) rfl rfl hl.1 ok_X12_has rfl kc_X12_has kl_X12_451 ks_X12_has kn_X12 ⟨Nat.le_trans (by decide) hR1, Nat.le_trans (by decide) hR2⟩ ⟨Nat.zero_le _, Nat.zero_le _⟩ (Nat.le_of_ble_eq_true rfl) dX12_laid_25 (fun H locs w => ?_)
          refine lv_if_ne (pc := 28) (tgt := 43) hx hb dX12_laid_28 (by decide) (fun q => ?_) (fun q => ?_)
          · have h := ite_f q h
            refine lv_iconst (pc := 43) (v := -1) hx hb dX12_laid_43 (by decide) ?_
            exact s_iret F w h dX12_laid_44
          · have h := ite_t q h
            refine lv_aload_n (pc := 31) hx hb dX12_laid_31 rfl (lv_at hl 1 rfl) ?_
            refine lv_iload_n (pc := 32) hx hb dX12_laid_32 rfl (lv_at hl 3 rfl) ?_
            refine s_iald (pc := 33) F w ds_49 h dX12_laid_33 (fun h => ?_)
            refine lv_aload_n (pc := 34) hx hb dX12_laid_34 rfl (lv_at hl 0 rfl) ?_
            refine s_getR (pc := 35) F w 46 ds_0 (j := 71) vc_X12 vi_X12 rfl (by decide) kf_X12_153 dX12_laid_35 ?_
            refine lv_iload_n (pc := 38) hx hb dX12_laid_38 rfl (lv_at hl 3 rfl) ?_
            refine s_iald (pc := 39) F w ds_46 h dX12_laid_39 (fun h => ?_)
            refine lv_icmp_ne (pc := 40) (tgt := 45) hx hb dX12_laid_40 (by decide) (fun q => ?_) (fun q => ?_)
            · have h := ite_f q h
              refine lv_aload_n (pc := 45) hx hb dX12_laid_45 rfl (lv_at hl 2 rfl) ?_
              refine lv_bipush (pc := 46) (v := 10) hx hb dX12_laid_46 (by decide) ?_
              refine lv_iload_n (pc := 48) hx hb dX12_laid_48 rfl (lv_at hl 3 rfl) ?_
              refine lv_imul (pc := 49) hx hb dX12_laid_49 ?_
              refine lv_aload_n (pc := 50) hx hb dX12_laid_50 rfl (lv_at hl 1 rfl) ?_
              refine lv_iload_n (pc := 51) hx hb dX12_laid_51 rfl (lv_at hl 3 rfl) ?_
              refine s_iald (pc := 52) F w ds_49 h dX12_laid_52 (fun h => ?_)
              refine lv_iadd (pc := 53) hx hb dX12_laid_53 ?_
              refine lv_iload (pc := 54) hx hb dX12_laid_54 (lv_at hl 4 rfl) ?_
              refine s_iast (pc := 56) F w ds_50 h dX12_laid_56 (fun S3 H locs h w => ?_)
              refine lv_aload_n (pc := 57) hx hb dX12_laid_57 rfl (lv_at hl 1 rfl) ?_
              refine lv_iload_n (pc := 58) hx hb dX12_laid_58 rfl (lv_at hl 3 rfl) ?_
              refine lv_dup2_11 (pc := 59) hx hb dX12_laid_59 rfl rfl ?_
              refine s_iald (pc := 60) F w ds_49 h dX12_laid_60 (fun h => ?_)
              refine lv_iconst (pc := 61) (v := 1) hx hb dX12_laid_61 (by decide) ?_
              refine lv_iadd (pc := 62) hx hb dX12_laid_62 ?_
              refine s_iast (pc := 63) F w ds_49 h dX12_laid_63 (fun S4 H locs h w => ?_)
              refine lv_aload_n (pc := 64) hx hb dX12_laid_64 rfl (lv_at hl 1 rfl) ?_
              refine lv_iload_n (pc := 65) hx hb dX12_laid_65 rfl (lv_at hl 3 rfl) ?_
              refine s_iald (pc := 66) F w ds_49 h dX12_laid_66 (fun h => ?_)
              exact s_iret F w h dX12_laid_67
            · have h := ite_t q h
              refine lv_iconst (pc := 43) (v := -1) hx hb dX12_laid_43 (by decide) ?_
              exact s_iret F w h dX12_laid_44
def f_M_lay (a1 : Int32) (a2 : Int32) (a3 : Int32) (S : SS) : Option (Int32 × SS) :=
  if a1 = 0 then
    bnd (f_M_laid_M_startMany_M_startOn a2 a3 S) (fun r2 S1 =>
    some (r2, S1))
  else
    bnd (f_M_laid_M_goalMany_M_goalOn a2 a3 S) (fun r4 S3 =>
    some (r4, S3))
theorem dX12_lay_0 : decode cX12_lay 0 = .ok (.iload_n 1, 1) := dc_27 (by decide +kernel)
theorem dX12_lay_1 : decode cX12_lay 1 = .ok (.ifCond .eq 20, 3) := dc_153 (a := 0) (b := 20) (by decide +kernel) (by decide)
theorem dX12_lay_4 : decode cX12_lay 4 = .ok (.aload_n 0, 1) := dc_42 (by decide +kernel)
theorem dX12_lay_5 : decode cX12_lay 5 = .ok (.aload_n 0, 1) := dc_42 (by decide +kernel)
theorem dX12_lay_6 : decode cX12_lay 6 = .ok (.getfield 162, 3) := dc_180 (a := 0) (b := 162) (by decide +kernel)
theorem dX12_lay_9 : decode cX12_lay 9 = .ok (.aload_n 0, 1) := dc_42 (by decide +kernel)
theorem dX12_lay_10 : decode cX12_lay 10 = .ok (.getfield 165, 3) := dc_180 (a := 0) (b := 165) (by decide +kernel)
theorem dX12_lay_13 : decode cX12_lay 13 = .ok (.iload_n 2, 1) := dc_28 (by decide +kernel)
theorem dX12_lay_14 : decode cX12_lay 14 = .ok (.iload_n 3, 1) := dc_29 (by decide +kernel)
theorem dX12_lay_15 : decode cX12_lay 15 = .ok (.invokevirtual 455, 3) := dc_182 (a := 1) (b := 199) (by decide +kernel)
theorem dX12_lay_18 : decode cX12_lay 18 = .ok (.goto 17, 3) := dc_167 (a := 0) (b := 17) (by decide +kernel) (by decide)
theorem dX12_lay_21 : decode cX12_lay 21 = .ok (.aload_n 0, 1) := dc_42 (by decide +kernel)
theorem dX12_lay_22 : decode cX12_lay 22 = .ok (.aload_n 0, 1) := dc_42 (by decide +kernel)
theorem dX12_lay_23 : decode cX12_lay 23 = .ok (.getfield 156, 3) := dc_180 (a := 0) (b := 156) (by decide +kernel)
theorem dX12_lay_26 : decode cX12_lay 26 = .ok (.aload_n 0, 1) := dc_42 (by decide +kernel)
theorem dX12_lay_27 : decode cX12_lay 27 = .ok (.getfield 159, 3) := dc_180 (a := 0) (b := 159) (by decide +kernel)
theorem dX12_lay_30 : decode cX12_lay 30 = .ok (.iload_n 2, 1) := dc_28 (by decide +kernel)
theorem dX12_lay_31 : decode cX12_lay 31 = .ok (.iload_n 3, 1) := dc_29 (by decide +kernel)
theorem dX12_lay_32 : decode cX12_lay 32 = .ok (.invokevirtual 455, 3) := dc_182 (a := 1) (b := 199) (by decide +kernel)
theorem dX12_lay_35 : decode cX12_lay 35 = .ok (.ireturn, 1) := dc_172 (by decide +kernel)
set_option maxRecDepth 100000 in
set_option maxHeartbeats 4000000 in
theorem m_M_lay (a1 : Int32) (a2 : Int32) (a3 : Int32) (S S' : SS) (r : Int32) (h : f_M_lay a1 a2 a3 S = some (r, S')) : MT yX12_lay cX12_lay 4 (some .int) 2 49 (fun ad => [.ref (ad 0), .int a1, .int a2, .int a3]) S (some (.int r)) S' := by
  refine MT.of RX12 (fun ad => [(0, .ref (ad 0)), (1, .int a1), (2, .int a2), (3, .int a3)]) (by decide) rfl (fun _ => Nat.le_of_ble_eq_true rfl) (fun _ => rfl) ?_
  intro p l e R s m args below meth c dC dI cs ad A hR1 hR2 F H locs ls w hl
  have hx := F.1.1
  have hb := F.1.2.1
  rw [f_M_lay] at h
  refine lv_iload_n (pc := 0) hx hb dX12_lay_0 rfl (lv_at hl 1 rfl) ?_
  refine lv_if_eq (pc := 1) (tgt := 21) hx hb dX12_lay_1 (by decide) (fun q => ?_) (fun q => ?_)
  · have h := ite_t q h
    refine lv_aload_n (pc := 21) hx hb dX12_lay_21 rfl (lv_at hl 0 rfl) ?_
    refine lv_aload_n (pc := 22) hx hb dX12_lay_22 rfl (lv_at hl 0 rfl) ?_
    refine s_getR (pc := 23) F w 47 ds_0 (j := 72) vc_X12 vi_X12 rfl (by decide) kf_X12_156 dX12_lay_23 ?_
    refine lv_aload_n (pc := 26) hx hb dX12_lay_26 rfl (lv_at hl 0 rfl) ?_
    refine s_getR (pc := 27) F w 48 ds_0 (j := 73) vc_X12 vi_X12 rfl (by decide) kf_X12_159 dX12_lay_27 ?_
    refine lv_iload_n (pc := 30) hx hb dX12_lay_30 rfl (lv_at hl 2 rfl) ?_
    refine lv_iload_n (pc := 31) hx hb dX12_lay_31 rfl (lv_at hl 3 rfl) ?_
    obtain ⟨r2, S1, hc, h⟩ := bnd_t h
    refine s_cvi (pc := 32) [.ref (ad 47), .ref (ad 48), .int a2, .int a3] (fun ad => [.ref (ad 0), .ref (ad 47), .ref (ad 48), .int a2, .int a3]) F w (m_M_laid_M_startMany_M_startOn _ _ _ _ _ hc) rfl rfl hl.1 ds_0 vc_X12 rfl ok_X12_laid rfl kc_X12_laid kl_X12_455 ki_X12_laid kv_X12_laid kn_X12 ⟨Nat.le_trans (by decide) hR1, Nat.le_trans (by decide) hR2⟩ ⟨Nat.zero_le _, Nat.zero_le _⟩ (Nat.le_of_ble_eq_true rfl) dX12_lay_32 (fun H locs w => ?_)
    exact s_iret F w h dX12_lay_35
  · have h := ite_f q h
    refine lv_aload_n (pc := 4) hx hb dX12_lay_4 rfl (lv_at hl 0 rfl) ?_
    refine lv_aload_n (pc := 5) hx hb dX12_lay_5 rfl (lv_at hl 0 rfl) ?_
    refine s_getR (pc := 6) F w 49 ds_0 (j := 74) vc_X12 vi_X12 rfl (by decide) kf_X12_162 dX12_lay_6 ?_
    refine lv_aload_n (pc := 9) hx hb dX12_lay_9 rfl (lv_at hl 0 rfl) ?_
    refine s_getR (pc := 10) F w 50 ds_0 (j := 75) vc_X12 vi_X12 rfl (by decide) kf_X12_165 dX12_lay_10 ?_
    refine lv_iload_n (pc := 13) hx hb dX12_lay_13 rfl (lv_at hl 2 rfl) ?_
    refine lv_iload_n (pc := 14) hx hb dX12_lay_14 rfl (lv_at hl 3 rfl) ?_
    obtain ⟨r4, S3, hc, h⟩ := bnd_t h
    refine s_cvi (pc := 15) [.ref (ad 49), .ref (ad 50), .int a2, .int a3] (fun ad => [.ref (ad 0), .ref (ad 49), .ref (ad 50), .int a2, .int a3]) F w (m_M_laid_M_goalMany_M_goalOn _ _ _ _ _ hc) rfl rfl hl.1 ds_0 vc_X12 rfl ok_X12_laid rfl kc_X12_laid kl_X12_455 ki_X12_laid kv_X12_laid kn_X12 ⟨Nat.le_trans (by decide) hR1, Nat.le_trans (by decide) hR2⟩ ⟨Nat.zero_le _, Nat.zero_le _⟩ (Nat.le_of_ble_eq_true rfl) dX12_lay_15 (fun H locs w => ?_)
    refine lv_goto (pc := 18) (tgt := 35) hx hb dX12_lay_18 (by decide) ?_
    exact s_iret F w h dX12_lay_35
def f_M_sumOf_M_startMany  (S : SS) : Option (Int32 × SS) :=
  grd (inb (0 : Int32) 4) (
  grd (inb (1 : Int32) 4) (
  grd (inb (2 : Int32) 4) (
  grd (inb (3 : Int32) 4) (
  some ((((S.1 47 (0 : Int32).toNatClampNeg) + (S.1 47 (1 : Int32).toNatClampNeg)) + (S.1 47 (2 : Int32).toNatClampNeg)) + (S.1 47 (3 : Int32).toNatClampNeg), S)))))
theorem dX12_sumOf_0 : decode cX12_sumOf 0 = .ok (.aload_n 0, 1) := dc_42 (by decide +kernel)
theorem dX12_sumOf_1 : decode cX12_sumOf 1 = .ok (.iconst 0, 1) := dc_3 (by decide +kernel)
theorem dX12_sumOf_2 : decode cX12_sumOf 2 = .ok (.iaload, 1) := dc_46 (by decide +kernel)
theorem dX12_sumOf_3 : decode cX12_sumOf 3 = .ok (.aload_n 0, 1) := dc_42 (by decide +kernel)
theorem dX12_sumOf_4 : decode cX12_sumOf 4 = .ok (.iconst 1, 1) := dc_4 (by decide +kernel)
theorem dX12_sumOf_5 : decode cX12_sumOf 5 = .ok (.iaload, 1) := dc_46 (by decide +kernel)
theorem dX12_sumOf_6 : decode cX12_sumOf 6 = .ok (.iadd, 1) := dc_96 (by decide +kernel)
theorem dX12_sumOf_7 : decode cX12_sumOf 7 = .ok (.aload_n 0, 1) := dc_42 (by decide +kernel)
theorem dX12_sumOf_8 : decode cX12_sumOf 8 = .ok (.iconst 2, 1) := dc_5 (by decide +kernel)
theorem dX12_sumOf_9 : decode cX12_sumOf 9 = .ok (.iaload, 1) := dc_46 (by decide +kernel)
theorem dX12_sumOf_10 : decode cX12_sumOf 10 = .ok (.iadd, 1) := dc_96 (by decide +kernel)
theorem dX12_sumOf_11 : decode cX12_sumOf 11 = .ok (.aload_n 0, 1) := dc_42 (by decide +kernel)
theorem dX12_sumOf_12 : decode cX12_sumOf 12 = .ok (.iconst 3, 1) := dc_6 (by decide +kernel)
theorem dX12_sumOf_13 : decode cX12_sumOf 13 = .ok (.iaload, 1) := dc_46 (by decide +kernel)
theorem dX12_sumOf_14 : decode cX12_sumOf 14 = .ok (.iadd, 1) := dc_96 (by decide +kernel)
theorem dX12_sumOf_15 : decode cX12_sumOf 15 = .ok (.ireturn, 1) := dc_172 (by decide +kernel)
set_option maxRecDepth 100000 in
set_option maxHeartbeats 4000000 in
theorem m_M_sumOf_M_startMany  (S S' : SS) (r : Int32) (h : f_M_sumOf_M_startMany  S = some (r, S')) : MT yX12_sumOf cX12_sumOf 1 (some .int) 0 0 (fun ad => [.ref (ad 47)]) S (some (.int r)) S' := by
  refine MT.of RX12 (fun ad => [(0, .ref (ad 47))]) (by decide) rfl (fun _ => Nat.le_of_ble_eq_true rfl) (fun _ => rfl) ?_
  intro p l e R s m args below meth c dC dI cs ad A hR1 hR2 F H locs ls w hl
  have hx := F.1.1
  have hb := F.1.2.1
  rw [f_M_sumOf_M_startMany] at h
  refine lv_aload_n (pc := 0) hx hb dX12_sumOf_0 rfl (lv_at hl 0 rfl) ?_
  refine lv_iconst (pc := 1) (v := 0) hx hb dX12_sumOf_1 (by decide) ?_
  refine s_iald (pc := 2) F w ds_47 h dX12_sumOf_2 (fun h => ?_)
  refine lv_aload_n (pc := 3) hx hb dX12_sumOf_3 rfl (lv_at hl 0 rfl) ?_
  refine lv_iconst (pc := 4) (v := 1) hx hb dX12_sumOf_4 (by decide) ?_
  refine s_iald (pc := 5) F w ds_47 h dX12_sumOf_5 (fun h => ?_)
  refine lv_iadd (pc := 6) hx hb dX12_sumOf_6 ?_
  refine lv_aload_n (pc := 7) hx hb dX12_sumOf_7 rfl (lv_at hl 0 rfl) ?_
  refine lv_iconst (pc := 8) (v := 2) hx hb dX12_sumOf_8 (by decide) ?_
  refine s_iald (pc := 9) F w ds_47 h dX12_sumOf_9 (fun h => ?_)
  refine lv_iadd (pc := 10) hx hb dX12_sumOf_10 ?_
  refine lv_aload_n (pc := 11) hx hb dX12_sumOf_11 rfl (lv_at hl 0 rfl) ?_
  refine lv_iconst (pc := 12) (v := 3) hx hb dX12_sumOf_12 (by decide) ?_
  refine s_iald (pc := 13) F w ds_47 h dX12_sumOf_13 (fun h => ?_)
  refine lv_iadd (pc := 14) hx hb dX12_sumOf_14 ?_
  exact s_iret F w h dX12_sumOf_15
def f_M_wipe_L10  : Nat → Int32 → Int32 → SS → Option (Int32 × SS)
  | 0, _, _, _ => none
  | n + 1, x1, x2, S =>
    if (4 : Int32) ≤ x2 then
      wr S 0 76 (-4 : Int32) (fun S3 =>
      wr S3 0 77 (0 : Int32) (fun S4 =>
      some (x1, S4)))
    else
      grd (inb x2 4) (wr S 47 x2.toNatClampNeg (0 : Int32) (fun S5 =>
      grd (inb x2 4) (wr S5 49 x2.toNatClampNeg (0 : Int32) (fun S6 =>
      nm (x2 + (1 : Int32)) (fun z7 =>
      f_M_wipe_L10 n x1 z7 S6)))))
def f_M_wipe  (S : SS) : Option (Int32 × SS) :=
  bnd (f_M_sumOf_M_startMany  S) (fun r2 S1 =>
  f_M_wipe_L10 NF r2 (0 : Int32) S1)
theorem dX12_wipe_0 : decode cX12_wipe 0 = .ok (.aload_n 0, 1) := dc_42 (by decide +kernel)
theorem dX12_wipe_1 : decode cX12_wipe 1 = .ok (.getfield 156, 3) := dc_180 (a := 0) (b := 156) (by decide +kernel)
theorem dX12_wipe_4 : decode cX12_wipe 4 = .ok (.invokestatic 459, 3) := dc_184 (a := 1) (b := 203) (by decide +kernel)
theorem dX12_wipe_7 : decode cX12_wipe 7 = .ok (.istore_n 1, 1) := dc_60 (by decide +kernel)
theorem dX12_wipe_8 : decode cX12_wipe 8 = .ok (.iconst 0, 1) := dc_3 (by decide +kernel)
theorem dX12_wipe_9 : decode cX12_wipe 9 = .ok (.istore_n 2, 1) := dc_61 (by decide +kernel)
theorem dX12_wipe_10 : decode cX12_wipe 10 = .ok (.iload_n 2, 1) := dc_28 (by decide +kernel)
theorem dX12_wipe_11 : decode cX12_wipe 11 = .ok (.iconst 4, 1) := dc_7 (by decide +kernel)
theorem dX12_wipe_12 : decode cX12_wipe 12 = .ok (.if_icmp .ge 23, 3) := dc_162 (a := 0) (b := 23) (by decide +kernel) (by decide)
theorem dX12_wipe_15 : decode cX12_wipe 15 = .ok (.aload_n 0, 1) := dc_42 (by decide +kernel)
theorem dX12_wipe_16 : decode cX12_wipe 16 = .ok (.getfield 156, 3) := dc_180 (a := 0) (b := 156) (by decide +kernel)
theorem dX12_wipe_19 : decode cX12_wipe 19 = .ok (.iload_n 2, 1) := dc_28 (by decide +kernel)
theorem dX12_wipe_20 : decode cX12_wipe 20 = .ok (.iconst 0, 1) := dc_3 (by decide +kernel)
theorem dX12_wipe_21 : decode cX12_wipe 21 = .ok (.iastore, 1) := dc_79 (by decide +kernel)
theorem dX12_wipe_22 : decode cX12_wipe 22 = .ok (.aload_n 0, 1) := dc_42 (by decide +kernel)
theorem dX12_wipe_23 : decode cX12_wipe 23 = .ok (.getfield 162, 3) := dc_180 (a := 0) (b := 162) (by decide +kernel)
theorem dX12_wipe_26 : decode cX12_wipe 26 = .ok (.iload_n 2, 1) := dc_28 (by decide +kernel)
theorem dX12_wipe_27 : decode cX12_wipe 27 = .ok (.iconst 0, 1) := dc_3 (by decide +kernel)
theorem dX12_wipe_28 : decode cX12_wipe 28 = .ok (.iastore, 1) := dc_79 (by decide +kernel)
theorem dX12_wipe_29 : decode cX12_wipe 29 = .ok (.iinc 2 1, 3) := dc_132 (a := 2) (b := 1) (by decide +kernel) (by decide)
theorem dX12_wipe_32 : decode cX12_wipe 32 = .ok (.goto (-22), 3) := dc_167 (a := 255) (b := 234) (by decide +kernel) (by decide)
theorem dX12_wipe_35 : decode cX12_wipe 35 = .ok (.aload_n 0, 1) := dc_42 (by decide +kernel)
theorem dX12_wipe_36 : decode cX12_wipe 36 = .ok (.bipush (-4), 2) := dc_16 (a := 252) (by decide +kernel) (by decide)
theorem dX12_wipe_38 : decode cX12_wipe 38 = .ok (.putfield 168, 3) := dc_181 (a := 0) (b := 168) (by decide +kernel)
theorem dX12_wipe_41 : decode cX12_wipe 41 = .ok (.aload_n 0, 1) := dc_42 (by decide +kernel)
theorem dX12_wipe_42 : decode cX12_wipe 42 = .ok (.iconst 0, 1) := dc_3 (by decide +kernel)
theorem dX12_wipe_43 : decode cX12_wipe 43 = .ok (.putfield 463, 3) := dc_181 (a := 1) (b := 207) (by decide +kernel)
theorem dX12_wipe_46 : decode cX12_wipe 46 = .ok (.iload_n 1, 1) := dc_27 (by decide +kernel)
theorem dX12_wipe_47 : decode cX12_wipe 47 = .ok (.ireturn, 1) := dc_172 (by decide +kernel)
set_option maxRecDepth 100000 in
set_option maxHeartbeats 4000000 in
theorem w_M_wipe_L10 {p : Program} {l : Launch} {e : Env} {R : Room} {s : State} {m : MethodId} {args : Array Value} {below : List Frame} {meth : Method} {c : Code} {dC : Nat → ClassId} {dI : Nat → Nat → Nat} {cs : Nat → ClassId} {ad : Nat → Nat} {A : Nat → Prop} {D0 : Nat → Nat} {S' : SS} {r : Int32} (F : Fx p s m args meth c cX12_wipe 3 RX12 (some .int) dC dI cs A) (hR1 : 0 ≤ R.frames) (hR2 : 0 ≤ R.locals) : ∀ (n : Nat) (x1 : Int32) (x2 : Int32) (S : SS), f_M_wipe_L10 n x1 x2 S = some (r, S') → AW p l e R s m args below meth c dC dI cs ad A D0 (some (.int r)) S' 3 10 [(0, .ref (ad 0)), (1, .int x1), (2, .int x2)] [] S := by
  have hx := F.1.1
  have hb := F.1.2.1
  intro n
  induction n with
  | zero => intro x1 x2 S h; cases h
  | succ n ih =>
    intro x1 x2 S h H locs ls w hl
    rw [f_M_wipe_L10] at h
    refine lv_iload_n (pc := 10) hx hb dX12_wipe_10 rfl (lv_at hl 2 rfl) ?_
    refine lv_iconst (pc := 11) (v := 4) hx hb dX12_wipe_11 (by decide) ?_
    refine lv_icmp_ge (pc := 12) (tgt := 35) hx hb dX12_wipe_12 (by decide) (fun q => ?_) (fun q => ?_)
    · have h := ite_t q h
      refine lv_aload_n (pc := 35) hx hb dX12_wipe_35 rfl (lv_at hl 0 rfl) ?_
      refine lv_bipush (pc := 36) (v := -4) hx hb dX12_wipe_36 (by decide) ?_
      refine s_putI (pc := 38) F w ds_0 vc_X12 vi_X12 tyX12_ok nmX12 (j := 76) rfl (by decide) kf_X12_168 rfl pd_I h dX12_wipe_38 (fun S3 H locs h w => ?_)
      refine lv_aload_n (pc := 41) hx hb dX12_wipe_41 rfl (lv_at hl 0 rfl) ?_
      refine lv_iconst (pc := 42) (v := 0) hx hb dX12_wipe_42 (by decide) ?_
      refine s_putI (pc := 43) F w ds_0 vc_X12 vi_X12 tyX12_ok nmX12 (j := 77) rfl (by decide) kf_X12_463 rfl pd_I h dX12_wipe_43 (fun S4 H locs h w => ?_)
      refine lv_iload_n (pc := 46) hx hb dX12_wipe_46 rfl (lv_at hl 1 rfl) ?_
      exact s_iret F w h dX12_wipe_47
    · have h := ite_f q h
      refine lv_aload_n (pc := 15) hx hb dX12_wipe_15 rfl (lv_at hl 0 rfl) ?_
      refine s_getR (pc := 16) F w 47 ds_0 (j := 72) vc_X12 vi_X12 rfl (by decide) kf_X12_156 dX12_wipe_16 ?_
      refine lv_iload_n (pc := 19) hx hb dX12_wipe_19 rfl (lv_at hl 2 rfl) ?_
      refine lv_iconst (pc := 20) (v := 0) hx hb dX12_wipe_20 (by decide) ?_
      refine s_iast (pc := 21) F w ds_47 h dX12_wipe_21 (fun S5 H locs h w => ?_)
      refine lv_aload_n (pc := 22) hx hb dX12_wipe_22 rfl (lv_at hl 0 rfl) ?_
      refine s_getR (pc := 23) F w 49 ds_0 (j := 74) vc_X12 vi_X12 rfl (by decide) kf_X12_162 dX12_wipe_23 ?_
      refine lv_iload_n (pc := 26) hx hb dX12_wipe_26 rfl (lv_at hl 2 rfl) ?_
      refine lv_iconst (pc := 27) (v := 0) hx hb dX12_wipe_27 (by decide) ?_
      refine s_iast (pc := 28) F w ds_49 h dX12_wipe_28 (fun S6 H locs h w => ?_)
      refine s_nm h (fun z7 ez7 h => ?_)
      refine lv_iinc (pc := 29) (v := z7) (lv' := [(2, .int z7), (0, .ref (ad 0)), (1, .int x1)]) hx hb dX12_wipe_29 hl (k := 2) rfl (by rw [ez7]; rfl) (by decide) rfl (fun ls hl => ?_)
      refine lv_goto (pc := 32) (tgt := 10) hx hb dX12_wipe_32 (by decide) ?_
      exact ih _ _ _ h _ _ _ w (lv_sub hl [1, 2, 0] rfl)
set_option maxRecDepth 100000 in
set_option maxHeartbeats 4000000 in
theorem m_M_wipe  (S S' : SS) (r : Int32) (h : f_M_wipe  S = some (r, S')) : MT yX12_wipe cX12_wipe 3 (some .int) 1 20 (fun ad => [.ref (ad 0)]) S (some (.int r)) S' := by
  refine MT.of RX12 (fun ad => [(0, .ref (ad 0))]) (by decide) rfl (fun _ => Nat.le_of_ble_eq_true rfl) (fun _ => rfl) ?_
  intro p l e R s m args below meth c dC dI cs ad A hR1 hR2 F H locs ls w hl
  have hx := F.1.1
  have hb := F.1.2.1
  rw [f_M_wipe] at h
  refine lv_aload_n (pc := 0) hx hb dX12_wipe_0 rfl (lv_at hl 0 rfl) ?_
  refine s_getR (pc := 1) F w 47 ds_0 (j := 72) vc_X12 vi_X12 rfl (by decide) kf_X12_156 dX12_wipe_1 ?_
  obtain ⟨r2, S1, hc, h⟩ := bnd_t h
  refine s_csi (pc := 4) [.ref (ad 47)] (fun ad => [.ref (ad 47)]) F w (m_M_sumOf_M_startMany  _ _ _ hc) rfl rfl hl.1 ok_X12_sumOf rfl kc_X12_sumOf kl_X12_459 ks_X12_sumOf kn_X12 ⟨Nat.le_trans (by decide) hR1, Nat.le_trans (by decide) hR2⟩ ⟨Nat.zero_le _, Nat.zero_le _⟩ (Nat.le_of_ble_eq_true rfl) dX12_wipe_4 (fun H locs w => ?_)
  refine lv_istore_n (pc := 7) (lv' := [(1, .int r2), (0, .ref (ad 0))]) hx hb dX12_wipe_7 rfl hl (by decide) rfl (fun ls hl => ?_)
  refine lv_iconst (pc := 8) (v := 0) hx hb dX12_wipe_8 (by decide) ?_
  refine lv_istore_n (pc := 9) (lv' := [(2, .int (0 : Int32)), (1, .int r2), (0, .ref (ad 0))]) hx hb dX12_wipe_9 rfl hl (by decide) rfl (fun ls hl => ?_)
  exact w_M_wipe_L10 F (Nat.le_trans (by decide) hR1) (Nat.le_trans (by decide) hR2) _ _ _ _ h _ _ _ w (lv_sub hl [2, 1, 0] rfl)
def f_M_areSame_j46 (K4 : Int32 → Int32 → SS → Option (Int32 × SS)) (x2 : Int32) (y0 : Int32) (S : SS) : Option (Int32 × SS) :=
    nm (x2 + (1 : Int32)) (fun z1 =>
    K4 y0 z1 S)
def f_M_areSame_j45 (K4 : Int32 → Int32 → SS → Option (Int32 × SS)) (x2 : Int32) (S : SS) : Option (Int32 × SS) :=
    f_M_areSame_j46 K4 x2 (0 : Int32) S
def f_M_areSame_L4  : Nat → Int32 → Int32 → SS → Option (Int32 × SS)
  | 0, _, _, _ => none
  | n + 1, x1, x2, S =>
    if (10 : Int32) ≤ x2 then
      grd (isB x1) (some (x1, S))
    else
      if x1 = 0 then
        f_M_areSame_j45 (fun v0 v1 S => f_M_areSame_L4 n v0 v1 S) x2 S
      else
        bnd (f_M_has_M_startMany_M_startOn x2 S) (fun r3 S2 =>
        bnd (f_M_has_M_goalMany_M_goalOn x2 S2) (fun r5 S4 =>
        if r3 = r5 then
          f_M_areSame_j46 (fun v0 v1 S => f_M_areSame_L4 n v0 v1 S) x2 (1 : Int32) S4
        else
          f_M_areSame_j45 (fun v0 v1 S => f_M_areSame_L4 n v0 v1 S) x2 S4))
def f_M_areSame  (S : SS) : Option (Int32 × SS) :=
  f_M_areSame_L4 NF (1 : Int32) (0 : Int32) S
theorem dX12_areSame_0 : decode cX12_areSame 0 = .ok (.iconst 1, 1) := dc_4 (by decide +kernel)
theorem dX12_areSame_1 : decode cX12_areSame 1 = .ok (.istore_n 1, 1) := dc_60 (by decide +kernel)
theorem dX12_areSame_2 : decode cX12_areSame 2 = .ok (.iconst 0, 1) := dc_3 (by decide +kernel)
theorem dX12_areSame_3 : decode cX12_areSame 3 = .ok (.istore_n 2, 1) := dc_61 (by decide +kernel)
theorem dX12_areSame_4 : decode cX12_areSame 4 = .ok (.iload_n 2, 1) := dc_28 (by decide +kernel)
theorem dX12_areSame_5 : decode cX12_areSame 5 = .ok (.bipush 10, 2) := dc_16 (a := 10) (by decide +kernel) (by decide)
theorem dX12_areSame_7 : decode cX12_areSame 7 = .ok (.if_icmp .ge 46, 3) := dc_162 (a := 0) (b := 46) (by decide +kernel) (by decide)
theorem dX12_areSame_10 : decode cX12_areSame 10 = .ok (.iload_n 1, 1) := dc_27 (by decide +kernel)
theorem dX12_areSame_11 : decode cX12_areSame 11 = .ok (.ifCond .eq 34, 3) := dc_153 (a := 0) (b := 34) (by decide +kernel) (by decide)
theorem dX12_areSame_14 : decode cX12_areSame 14 = .ok (.aload_n 0, 1) := dc_42 (by decide +kernel)
theorem dX12_areSame_15 : decode cX12_areSame 15 = .ok (.getfield 156, 3) := dc_180 (a := 0) (b := 156) (by decide +kernel)
theorem dX12_areSame_18 : decode cX12_areSame 18 = .ok (.aload_n 0, 1) := dc_42 (by decide +kernel)
theorem dX12_areSame_19 : decode cX12_areSame 19 = .ok (.getfield 159, 3) := dc_180 (a := 0) (b := 159) (by decide +kernel)
theorem dX12_areSame_22 : decode cX12_areSame 22 = .ok (.iload_n 2, 1) := dc_28 (by decide +kernel)
theorem dX12_areSame_23 : decode cX12_areSame 23 = .ok (.invokestatic 451, 3) := dc_184 (a := 1) (b := 195) (by decide +kernel)
theorem dX12_areSame_26 : decode cX12_areSame 26 = .ok (.aload_n 0, 1) := dc_42 (by decide +kernel)
theorem dX12_areSame_27 : decode cX12_areSame 27 = .ok (.getfield 162, 3) := dc_180 (a := 0) (b := 162) (by decide +kernel)
theorem dX12_areSame_30 : decode cX12_areSame 30 = .ok (.aload_n 0, 1) := dc_42 (by decide +kernel)
theorem dX12_areSame_31 : decode cX12_areSame 31 = .ok (.getfield 165, 3) := dc_180 (a := 0) (b := 165) (by decide +kernel)
theorem dX12_areSame_34 : decode cX12_areSame 34 = .ok (.iload_n 2, 1) := dc_28 (by decide +kernel)
theorem dX12_areSame_35 : decode cX12_areSame 35 = .ok (.invokestatic 451, 3) := dc_184 (a := 1) (b := 195) (by decide +kernel)
theorem dX12_areSame_38 : decode cX12_areSame 38 = .ok (.if_icmp .ne 7, 3) := dc_160 (a := 0) (b := 7) (by decide +kernel) (by decide)
theorem dX12_areSame_41 : decode cX12_areSame 41 = .ok (.iconst 1, 1) := dc_4 (by decide +kernel)
theorem dX12_areSame_42 : decode cX12_areSame 42 = .ok (.goto 4, 3) := dc_167 (a := 0) (b := 4) (by decide +kernel) (by decide)
theorem dX12_areSame_45 : decode cX12_areSame 45 = .ok (.iconst 0, 1) := dc_3 (by decide +kernel)
theorem dX12_areSame_46 : decode cX12_areSame 46 = .ok (.istore_n 1, 1) := dc_60 (by decide +kernel)
theorem dX12_areSame_47 : decode cX12_areSame 47 = .ok (.iinc 2 1, 3) := dc_132 (a := 2) (b := 1) (by decide +kernel) (by decide)
theorem dX12_areSame_50 : decode cX12_areSame 50 = .ok (.goto (-46), 3) := dc_167 (a := 255) (b := 210) (by decide +kernel) (by decide)
theorem dX12_areSame_53 : decode cX12_areSame 53 = .ok (.iload_n 1, 1) := dc_27 (by decide +kernel)
theorem dX12_areSame_54 : decode cX12_areSame 54 = .ok (.ireturn, 1) := dc_172 (by decide +kernel)
set_option maxRecDepth 100000 in
set_option maxHeartbeats 4000000 in
theorem w_M_areSame_j46 {p : Program} {l : Launch} {e : Env} {R : Room} {s : State} {m : MethodId} {args : Array Value} {below : List Frame} {meth : Method} {c : Code} {dC : Nat → ClassId} {dI : Nat → Nat → Nat} {cs : Nat → ClassId} {ad : Nat → Nat} {A : Nat → Prop} {D0 : Nat → Nat} {S' : SS} {r : Int32} (F : Fx p s m args meth c cX12_areSame 3 RX12 (some .boolean) dC dI cs A) (hR1 : 0 ≤ R.frames) (hR2 : 0 ≤ R.locals) (K4 : Int32 → Int32 → SS → Option (Int32 × SS)) (hK4 : ∀ (v0 : Int32) (v1 : Int32) (S : SS), K4 v0 v1 S = some (r, S') → AW p l e R s m args below meth c dC dI cs ad A D0 (some (.int r)) S' 3 4 [(0, .ref (ad 0)), (1, .int v0), (2, .int v1)] [] S) (x2 : Int32) (y0 : Int32) (S : SS) (h : f_M_areSame_j46 K4 x2 y0 S = some (r, S')) : AW p l e R s m args below meth c dC dI cs ad A D0 (some (.int r)) S' 3 46 [(0, .ref (ad 0)), (2, .int x2)] [.int y0] S := by
  have hx := F.1.1
  have hb := F.1.2.1
  intro H locs ls w hl
  rw [f_M_areSame_j46] at h
  refine lv_istore_n (pc := 46) (lv' := [(1, .int y0), (0, .ref (ad 0)), (2, .int x2)]) hx hb dX12_areSame_46 rfl hl (by decide) rfl (fun ls hl => ?_)
  refine s_nm h (fun z1 ez1 h => ?_)
  refine lv_iinc (pc := 47) (v := z1) (lv' := [(2, .int z1), (1, .int y0), (0, .ref (ad 0))]) hx hb dX12_areSame_47 hl (k := 2) rfl (by rw [ez1]; rfl) (by decide) rfl (fun ls hl => ?_)
  refine lv_goto (pc := 50) (tgt := 4) hx hb dX12_areSame_50 (by decide) ?_
  exact hK4 _ _ _ h _ _ _ w (lv_sub hl [2, 1, 0] rfl)
set_option maxRecDepth 100000 in
set_option maxHeartbeats 4000000 in
theorem w_M_areSame_j45 {p : Program} {l : Launch} {e : Env} {R : Room} {s : State} {m : MethodId} {args : Array Value} {below : List Frame} {meth : Method} {c : Code} {dC : Nat → ClassId} {dI : Nat → Nat → Nat} {cs : Nat → ClassId} {ad : Nat → Nat} {A : Nat → Prop} {D0 : Nat → Nat} {S' : SS} {r : Int32} (F : Fx p s m args meth c cX12_areSame 3 RX12 (some .boolean) dC dI cs A) (hR1 : 0 ≤ R.frames) (hR2 : 0 ≤ R.locals) (K4 : Int32 → Int32 → SS → Option (Int32 × SS)) (hK4 : ∀ (v0 : Int32) (v1 : Int32) (S : SS), K4 v0 v1 S = some (r, S') → AW p l e R s m args below meth c dC dI cs ad A D0 (some (.int r)) S' 3 4 [(0, .ref (ad 0)), (1, .int v0), (2, .int v1)] [] S) (x2 : Int32) (S : SS) (h : f_M_areSame_j45 K4 x2 S = some (r, S')) : AW p l e R s m args below meth c dC dI cs ad A D0 (some (.int r)) S' 3 45 [(0, .ref (ad 0)), (2, .int x2)] [] S := by
  have hx := F.1.1
  have hb := F.1.2.1
  intro H locs ls w hl
  rw [f_M_areSame_j45] at h
  refine lv_iconst (pc := 45) (v := 0) hx hb dX12_areSame_45 (by decide) ?_
  exact w_M_areSame_j46 F (Nat.le_trans (by decide) hR1) (Nat.le_trans (by decide) hR2) _ hK4 _ _ _ h _ _ _ w (lv_sub hl [0, 1] rfl)
set_option maxRecDepth 100000 in
set_option maxHeartbeats 4000000 in
theorem w_M_areSame_L4 {p : Program} {l : Launch} {e : Env} {R : Room} {s : State} {m : MethodId} {args : Array Value} {below : List Frame} {meth : Method} {c : Code} {dC : Nat → ClassId} {dI : Nat → Nat → Nat} {cs : Nat → ClassId} {ad : Nat → Nat} {A : Nat → Prop} {D0 : Nat → Nat} {S' : SS} {r : Int32} (F : Fx p s m args meth c cX12_areSame 3 RX12 (some .boolean) dC dI cs A) (hR1 : 1 ≤ R.frames) (hR2 : 25 ≤ R.locals) : ∀ (n : Nat) (x1 : Int32) (x2 : Int32) (S : SS), f_M_areSame_L4 n x1 x2 S = some (r, S') → AW p l e R s m args below meth c dC dI cs ad A D0 (some (.int r)) S' 3 4 [(0, .ref (ad 0)), (1, .int x1), (2, .int x2)] [] S := by
  have hx := F.1.1
  have hb := F.1.2.1
  intro n
  induction n with
  | zero => intro x1 x2 S h; cases h
  | succ n ih =>
    intro x1 x2 S h H locs ls w hl
    rw [f_M_areSame_L4] at h
    refine lv_iload_n (pc := 4) hx hb dX12_areSame_4 rfl (lv_at hl 2 rfl) ?_
    refine lv_bipush (pc := 5) (v := 10) hx hb dX12_areSame_5 (by decide) ?_
    refine lv_icmp_ge (pc := 7) (tgt := 53) hx hb dX12_areSame_7 (by decide) (fun q => ?_) (fun q => ?_)
    · have h := ite_t q h
      refine lv_iload_n (pc := 53) hx hb dX12_areSame_53 rfl (lv_at hl 1 rfl) ?_
      exact s_zret F w h dX12_areSame_54
    · have h := ite_f q h
      refine lv_iload_n (pc := 10) hx hb dX12_areSame_10 rfl (lv_at hl 1 rfl) ?_
      refine lv_if_eq (pc := 11) (tgt := 45) hx hb dX12_areSame_11 (by decide) (fun q => ?_) (fun q => ?_)
      · have h := ite_t q h
        exact w_M_areSame_j45 F (Nat.le_trans (by decide) hR1) (Nat.le_trans (by decide) hR2) _ (fun v0 v1 S h => ih v0 v1 S h) _ _ h _ _ _ w (lv_sub hl [0, 2] rfl)
      · have h := ite_f q h
        refine lv_aload_n (pc := 14) hx hb dX12_areSame_14 rfl (lv_at hl 0 rfl) ?_
        refine s_getR (pc := 15) F w 47 ds_0 (j := 72) vc_X12 vi_X12 rfl (by decide) kf_X12_156 dX12_areSame_15 ?_
        refine lv_aload_n (pc := 18) hx hb dX12_areSame_18 rfl (lv_at hl 0 rfl) ?_
        refine s_getR (pc := 19) F w 48 ds_0 (j := 73) vc_X12 vi_X12 rfl (by decide) kf_X12_159 dX12_areSame_19 ?_
        refine lv_iload_n (pc := 22) hx hb dX12_areSame_22 rfl (lv_at hl 2 rfl) ?_
        obtain ⟨r3, S2, hc, h⟩ := bnd_t h
        refine s_csi (pc := 23) [.ref (ad 47), .ref (ad 48), .int x2] (fun ad => [.ref (ad 47), .ref (ad 48), .int x2]) F w (m_M_has_M_startMany_M_startOn _ _ _ _ hc) rfl rfl hl.1 ok_X12_has rfl kc_X12_has kl_X12_451 ks_X12_has kn_X12 ⟨Nat.le_trans (by decide) hR1, Nat.le_trans (by decide) hR2⟩ ⟨Nat.zero_le _, Nat.zero_le _⟩ (Nat.le_of_ble_eq_true rfl) dX12_areSame_23 (fun H locs w => ?_)
        refine lv_aload_n (pc := 26) hx hb dX12_areSame_26 rfl (lv_at hl 0 rfl) ?_
        refine s_getR (pc := 27) F w 49 ds_0 (j := 74) vc_X12 vi_X12 rfl (by decide) kf_X12_162 dX12_areSame_27 ?_
        refine lv_aload_n (pc := 30) hx hb dX12_areSame_30 rfl (lv_at hl 0 rfl) ?_
        refine s_getR (pc := 31) F w 50 ds_0 (j := 75) vc_X12 vi_X12 rfl (by decide) kf_X12_165 dX12_areSame_31 ?_
        refine lv_iload_n (pc := 34) hx hb dX12_areSame_34 rfl (lv_at hl 2 rfl) ?_
        obtain ⟨r5, S4, hc, h⟩ := bnd_t h
        refine s_csi (pc := 35) [.ref (ad 49), .ref (ad 50), .int x2] (fun ad => [.ref (ad 49), .ref (ad 50), .int x2]) F w (m_M_has_M_goalMany_M_goalOn _ _ _ _ hc) rfl rfl hl.1 ok_X12_has rfl kc_X12_has kl_X12_451 ks_X12_has kn_X12 ⟨Nat.le_trans (by decide) hR1, Nat.le_trans (by decide) hR2⟩ ⟨Nat.zero_le _, Nat.zero_le _⟩ (Nat.le_of_ble_eq_true rfl) dX12_areSame_35 (fun H locs w => ?_)
        refine lv_icmp_ne (pc := 38) (tgt := 45) hx hb dX12_areSame_38 (by decide) (fun q => ?_) (fun q => ?_)
        · have h := ite_f q h
          exact w_M_areSame_j45 F (Nat.le_trans (by decide) hR1) (Nat.le_trans (by decide) hR2) _ (fun v0 v1 S h => ih v0 v1 S h) _ _ h _ _ _ w (lv_sub hl [0, 2] rfl)
        · have h := ite_t q h
          refine lv_iconst (pc := 41) (v := 1) hx hb dX12_areSame_41 (by decide) ?_
          refine lv_goto (pc := 42) (tgt := 46) hx hb dX12_areSame_42 (by decide) ?_
          exact w_M_areSame_j46 F (Nat.le_trans (by decide) hR1) (Nat.le_trans (by decide) hR2) _ (fun v0 v1 S h => ih v0 v1 S h) _ _ _ h _ _ _ w (lv_sub hl [0, 2] rfl)
set_option maxRecDepth 100000 in
set_option maxHeartbeats 4000000 in
theorem m_M_areSame  (S S' : SS) (r : Int32) (h : f_M_areSame  S = some (r, S')) : MT yX12_areSame cX12_areSame 3 (some .boolean) 1 25 (fun ad => [.ref (ad 0)]) S (some (.int r)) S' := by
  refine MT.of RX12 (fun ad => [(0, .ref (ad 0))]) (by decide) rfl (fun _ => Nat.le_of_ble_eq_true rfl) (fun _ => rfl) ?_
  intro p l e R s m args below meth c dC dI cs ad A hR1 hR2 F H locs ls w hl
  have hx := F.1.1
  have hb := F.1.2.1
  rw [f_M_areSame] at h
  refine lv_iconst (pc := 0) (v := 1) hx hb dX12_areSame_0 (by decide) ?_
  refine lv_istore_n (pc := 1) (lv' := [(1, .int (1 : Int32)), (0, .ref (ad 0))]) hx hb dX12_areSame_1 rfl hl (by decide) rfl (fun ls hl => ?_)
  refine lv_iconst (pc := 2) (v := 0) hx hb dX12_areSame_2 (by decide) ?_
  refine lv_istore_n (pc := 3) (lv' := [(2, .int (0 : Int32)), (1, .int (1 : Int32)), (0, .ref (ad 0))]) hx hb dX12_areSame_3 rfl hl (by decide) rfl (fun ls hl => ?_)
  exact w_M_areSame_L4 F (Nat.le_trans (by decide) hR1) (Nat.le_trans (by decide) hR2) _ _ _ _ h _ _ _ w (lv_sub hl [2, 1, 0] rfl)
def f_M_take_j83 (K34 : Int32 → Int32 → Int32 → SS → Option (SS)) (x1 : Int32) (x2 : Int32) (x3 : Int32) (y0 : Int32) (y1 : Int32) (S : SS) : Option (SS) :=
    grd (inb y1 40) (wr S 57 y1.toNatClampNeg y0 (fun S3 =>
    nm (x3 + (1 : Int32)) (fun z4 =>
    K34 x1 x2 z4 S3)))
def f_M_take_L34 (K2 : Int32 → Int32 → SS → Option (SS)) : Nat → Int32 → Int32 → Int32 → SS → Option (SS)
  | 0, _, _, _, _ => none
  | n + 1, x1, x2, x3, S =>
    grd (inb x2 4) (
    if (S.1 58 x2.toNatClampNeg) ≤ x3 then
      nm (x2 + (1 : Int32)) (fun z2 =>
      K2 x1 z2 S)
    else
      if x1 = 0 then
        grd (inb (((10 : Int32) * x2) + x3) 40) (
        f_M_take_j83 (fun v0 v1 v2 S => f_M_take_L34 K2 n v0 v1 v2 S) x1 x2 x3 (S.1 48 (((10 : Int32) * x2) + x3).toNatClampNeg) (((10 : Int32) * x2) + x3) S)
      else
        grd (inb (((10 : Int32) * x2) + x3) 40) (
        f_M_take_j83 (fun v0 v1 v2 S => f_M_take_L34 K2 n v0 v1 v2 S) x1 x2 x3 (S.1 50 (((10 : Int32) * x2) + x3).toNatClampNeg) (((10 : Int32) * x2) + x3) S))
def f_M_take_j31 (K2 : Int32 → Int32 → SS → Option (SS)) (x1 : Int32) (x2 : Int32) (y0 : Int32) (y1 : Int32) (S : SS) : Option (SS) :=
    grd (inb y1 4) (wr S 58 y1.toNatClampNeg y0 (fun S1 =>
    f_M_take_L34 K2 NF x1 x2 (0 : Int32) S1))
def f_M_take_L2  : Nat → Int32 → Int32 → SS → Option (SS)
  | 0, _, _, _ => none
  | n + 1, x1, x2, S =>
    if (4 : Int32) ≤ x2 then
      some S
    else
      if x1 = 0 then
        grd (inb x2 4) (
        f_M_take_j31 (fun v0 v1 S => f_M_take_L2 n v0 v1 S) x1 x2 (S.1 47 x2.toNatClampNeg) x2 S)
      else
        grd (inb x2 4) (
        f_M_take_j31 (fun v0 v1 S => f_M_take_L2 n v0 v1 S) x1 x2 (S.1 49 x2.toNatClampNeg) x2 S)
def f_M_take (a1 : Int32) (S : SS) : Option (SS) :=
  f_M_take_L2 NF a1 (0 : Int32) S
theorem dX12_take_0 : decode cX12_take 0 = .ok (.iconst 0, 1) := dc_3 (by decide +kernel)
theorem dX12_take_1 : decode cX12_take 1 = .ok (.istore_n 2, 1) := dc_61 (by decide +kernel)
theorem dX12_take_2 : decode cX12_take 2 = .ok (.iload_n 2, 1) := dc_28 (by decide +kernel)
theorem dX12_take_3 : decode cX12_take 3 = .ok (.iconst 4, 1) := dc_7 (by decide +kernel)
theorem dX12_take_4 : decode cX12_take 4 = .ok (.if_icmp .ge 92, 3) := dc_162 (a := 0) (b := 92) (by decide +kernel) (by decide)
theorem dX12_take_7 : decode cX12_take 7 = .ok (.aload_n 0, 1) := dc_42 (by decide +kernel)
theorem dX12_take_8 : decode cX12_take 8 = .ok (.getfield 192, 3) := dc_180 (a := 0) (b := 192) (by decide +kernel)
theorem dX12_take_11 : decode cX12_take 11 = .ok (.iload_n 2, 1) := dc_28 (by decide +kernel)
theorem dX12_take_12 : decode cX12_take 12 = .ok (.iload_n 1, 1) := dc_27 (by decide +kernel)
theorem dX12_take_13 : decode cX12_take 13 = .ok (.ifCond .eq 12, 3) := dc_153 (a := 0) (b := 12) (by decide +kernel) (by decide)
theorem dX12_take_16 : decode cX12_take 16 = .ok (.aload_n 0, 1) := dc_42 (by decide +kernel)
theorem dX12_take_17 : decode cX12_take 17 = .ok (.getfield 162, 3) := dc_180 (a := 0) (b := 162) (by decide +kernel)
theorem dX12_take_20 : decode cX12_take 20 = .ok (.iload_n 2, 1) := dc_28 (by decide +kernel)
theorem dX12_take_21 : decode cX12_take 21 = .ok (.iaload, 1) := dc_46 (by decide +kernel)
theorem dX12_take_22 : decode cX12_take 22 = .ok (.goto 9, 3) := dc_167 (a := 0) (b := 9) (by decide +kernel) (by decide)
theorem dX12_take_25 : decode cX12_take 25 = .ok (.aload_n 0, 1) := dc_42 (by decide +kernel)
theorem dX12_take_26 : decode cX12_take 26 = .ok (.getfield 156, 3) := dc_180 (a := 0) (b := 156) (by decide +kernel)
theorem dX12_take_29 : decode cX12_take 29 = .ok (.iload_n 2, 1) := dc_28 (by decide +kernel)
theorem dX12_take_30 : decode cX12_take 30 = .ok (.iaload, 1) := dc_46 (by decide +kernel)
theorem dX12_take_31 : decode cX12_take 31 = .ok (.iastore, 1) := dc_79 (by decide +kernel)
theorem dX12_take_32 : decode cX12_take 32 = .ok (.iconst 0, 1) := dc_3 (by decide +kernel)
theorem dX12_take_33 : decode cX12_take 33 = .ok (.istore_n 3, 1) := dc_62 (by decide +kernel)
theorem dX12_take_34 : decode cX12_take 34 = .ok (.iload_n 3, 1) := dc_29 (by decide +kernel)
theorem dX12_take_35 : decode cX12_take 35 = .ok (.aload_n 0, 1) := dc_42 (by decide +kernel)
theorem dX12_take_36 : decode cX12_take 36 = .ok (.getfield 192, 3) := dc_180 (a := 0) (b := 192) (by decide +kernel)
theorem dX12_take_39 : decode cX12_take 39 = .ok (.iload_n 2, 1) := dc_28 (by decide +kernel)
theorem dX12_take_40 : decode cX12_take 40 = .ok (.iaload, 1) := dc_46 (by decide +kernel)
theorem dX12_take_41 : decode cX12_take 41 = .ok (.if_icmp .ge 49, 3) := dc_162 (a := 0) (b := 49) (by decide +kernel) (by decide)
theorem dX12_take_44 : decode cX12_take 44 = .ok (.aload_n 0, 1) := dc_42 (by decide +kernel)
theorem dX12_take_45 : decode cX12_take 45 = .ok (.getfield 189, 3) := dc_180 (a := 0) (b := 189) (by decide +kernel)
theorem dX12_take_48 : decode cX12_take 48 = .ok (.bipush 10, 2) := dc_16 (a := 10) (by decide +kernel) (by decide)
theorem dX12_take_50 : decode cX12_take 50 = .ok (.iload_n 2, 1) := dc_28 (by decide +kernel)
theorem dX12_take_51 : decode cX12_take 51 = .ok (.imul, 1) := dc_104 (by decide +kernel)
theorem dX12_take_52 : decode cX12_take 52 = .ok (.iload_n 3, 1) := dc_29 (by decide +kernel)
theorem dX12_take_53 : decode cX12_take 53 = .ok (.iadd, 1) := dc_96 (by decide +kernel)
theorem dX12_take_54 : decode cX12_take 54 = .ok (.iload_n 1, 1) := dc_27 (by decide +kernel)
theorem dX12_take_55 : decode cX12_take 55 = .ok (.ifCond .eq 17, 3) := dc_153 (a := 0) (b := 17) (by decide +kernel) (by decide)
theorem dX12_take_58 : decode cX12_take 58 = .ok (.aload_n 0, 1) := dc_42 (by decide +kernel)
theorem dX12_take_59 : decode cX12_take 59 = .ok (.getfield 165, 3) := dc_180 (a := 0) (b := 165) (by decide +kernel)
theorem dX12_take_62 : decode cX12_take 62 = .ok (.bipush 10, 2) := dc_16 (a := 10) (by decide +kernel) (by decide)
theorem dX12_take_64 : decode cX12_take 64 = .ok (.iload_n 2, 1) := dc_28 (by decide +kernel)
theorem dX12_take_65 : decode cX12_take 65 = .ok (.imul, 1) := dc_104 (by decide +kernel)
theorem dX12_take_66 : decode cX12_take 66 = .ok (.iload_n 3, 1) := dc_29 (by decide +kernel)
theorem dX12_take_67 : decode cX12_take 67 = .ok (.iadd, 1) := dc_96 (by decide +kernel)
theorem dX12_take_68 : decode cX12_take 68 = .ok (.iaload, 1) := dc_46 (by decide +kernel)
theorem dX12_take_69 : decode cX12_take 69 = .ok (.goto 14, 3) := dc_167 (a := 0) (b := 14) (by decide +kernel) (by decide)
theorem dX12_take_72 : decode cX12_take 72 = .ok (.aload_n 0, 1) := dc_42 (by decide +kernel)
theorem dX12_take_73 : decode cX12_take 73 = .ok (.getfield 159, 3) := dc_180 (a := 0) (b := 159) (by decide +kernel)
theorem dX12_take_76 : decode cX12_take 76 = .ok (.bipush 10, 2) := dc_16 (a := 10) (by decide +kernel) (by decide)
theorem dX12_take_78 : decode cX12_take 78 = .ok (.iload_n 2, 1) := dc_28 (by decide +kernel)
theorem dX12_take_79 : decode cX12_take 79 = .ok (.imul, 1) := dc_104 (by decide +kernel)
theorem dX12_take_80 : decode cX12_take 80 = .ok (.iload_n 3, 1) := dc_29 (by decide +kernel)
theorem dX12_take_81 : decode cX12_take 81 = .ok (.iadd, 1) := dc_96 (by decide +kernel)
theorem dX12_take_82 : decode cX12_take 82 = .ok (.iaload, 1) := dc_46 (by decide +kernel)
theorem dX12_take_83 : decode cX12_take 83 = .ok (.iastore, 1) := dc_79 (by decide +kernel)
theorem dX12_take_84 : decode cX12_take 84 = .ok (.iinc 3 1, 3) := dc_132 (a := 3) (b := 1) (by decide +kernel) (by decide)
theorem dX12_take_87 : decode cX12_take 87 = .ok (.goto (-53), 3) := dc_167 (a := 255) (b := 203) (by decide +kernel) (by decide)
theorem dX12_take_90 : decode cX12_take 90 = .ok (.iinc 2 1, 3) := dc_132 (a := 2) (b := 1) (by decide +kernel) (by decide)
theorem dX12_take_93 : decode cX12_take 93 = .ok (.goto (-91), 3) := dc_167 (a := 255) (b := 165) (by decide +kernel) (by decide)
theorem dX12_take_96 : decode cX12_take 96 = .ok (.return_, 1) := dc_177 (by decide +kernel)
set_option maxRecDepth 100000 in
set_option maxHeartbeats 4000000 in
theorem w_M_take_j83 {p : Program} {l : Launch} {e : Env} {R : Room} {s : State} {m : MethodId} {args : Array Value} {below : List Frame} {meth : Method} {c : Code} {dC : Nat → ClassId} {dI : Nat → Nat → Nat} {cs : Nat → ClassId} {ad : Nat → Nat} {A : Nat → Prop} {D0 : Nat → Nat} {S' : SS} (F : Fx p s m args meth c cX12_take 4 RX12 none dC dI cs A) (hR1 : 0 ≤ R.frames) (hR2 : 0 ≤ R.locals) (K34 : Int32 → Int32 → Int32 → SS → Option (SS)) (hK34 : ∀ (v0 : Int32) (v1 : Int32) (v2 : Int32) (S : SS), K34 v0 v1 v2 S = some S' → AW p l e R s m args below meth c dC dI cs ad A D0 none S' 4 34 [(0, .ref (ad 0)), (1, .int v0), (2, .int v1), (3, .int v2)] [] S) (x1 : Int32) (x2 : Int32) (x3 : Int32) (y0 : Int32) (y1 : Int32) (S : SS) (h : f_M_take_j83 K34 x1 x2 x3 y0 y1 S = some S') : AW p l e R s m args below meth c dC dI cs ad A D0 none S' 4 83 [(0, .ref (ad 0)), (1, .int x1), (2, .int x2), (3, .int x3)] [.int y0, .int y1, .ref (ad 57)] S := by
  have hx := F.1.1
  have hb := F.1.2.1
  intro H locs ls w hl
  rw [f_M_take_j83] at h
  refine s_iast (pc := 83) F w ds_57 h dX12_take_83 (fun S3 H locs h w => ?_)
  refine s_nm h (fun z4 ez4 h => ?_)
  refine lv_iinc (pc := 84) (v := z4) (lv' := [(3, .int z4), (0, .ref (ad 0)), (1, .int x1), (2, .int x2)]) hx hb dX12_take_84 hl (k := 3) rfl (by rw [ez4]; rfl) (by decide) rfl (fun ls hl => ?_)
  refine lv_goto (pc := 87) (tgt := 34) hx hb dX12_take_87 (by decide) ?_
  exact hK34 _ _ _ _ h _ _ _ w (lv_sub hl [1, 2, 3, 0] rfl)
set_option maxRecDepth 100000 in
set_option maxHeartbeats 4000000 in
theorem w_M_take_L34 {p : Program} {l : Launch} {e : Env} {R : Room} {s : State} {m : MethodId} {args : Array Value} {below : List Frame} {meth : Method} {c : Code} {dC : Nat → ClassId} {dI : Nat → Nat → Nat} {cs : Nat → ClassId} {ad : Nat → Nat} {A : Nat → Prop} {D0 : Nat → Nat} {S' : SS} (F : Fx p s m args meth c cX12_take 4 RX12 none dC dI cs A) (hR1 : 0 ≤ R.frames) (hR2 : 0 ≤ R.locals) (K2 : Int32 → Int32 → SS → Option (SS)) (hK2 : ∀ (v0 : Int32) (v1 : Int32) (S : SS), K2 v0 v1 S = some S' → AW p l e R s m args below meth c dC dI cs ad A D0 none S' 4 2 [(0, .ref (ad 0)), (1, .int v0), (2, .int v1)] [] S) : ∀ (n : Nat) (x1 : Int32) (x2 : Int32) (x3 : Int32) (S : SS), f_M_take_L34 K2 n x1 x2 x3 S = some S' → AW p l e R s m args below meth c dC dI cs ad A D0 none S' 4 34 [(0, .ref (ad 0)), (1, .int x1), (2, .int x2), (3, .int x3)] [] S := by
  have hx := F.1.1
  have hb := F.1.2.1
  intro n
  induction n with
  | zero => intro x1 x2 x3 S h; cases h
  | succ n ih =>
    intro x1 x2 x3 S h H locs ls w hl
    rw [f_M_take_L34] at h
    refine lv_iload_n (pc := 34) hx hb dX12_take_34 rfl (lv_at hl 3 rfl) ?_
    refine lv_aload_n (pc := 35) hx hb dX12_take_35 rfl (lv_at hl 0 rfl) ?_
    refine s_getR (pc := 36) F w 58 ds_0 (j := 86) vc_X12 vi_X12 rfl (by decide) kf_X12_192 dX12_take_36 ?_
    refine lv_iload_n (pc := 39) hx hb dX12_take_39 rfl (lv_at hl 2 rfl) ?_
    refine s_iald (pc := 40) F w ds_58 h dX12_take_40 (fun h => ?_)
    refine lv_icmp_ge (pc := 41) (tgt := 90) hx hb dX12_take_41 (by decide) (fun q => ?_) (fun q => ?_)
    · have h := ite_t q h
      refine s_nm h (fun z2 ez2 h => ?_)
      refine lv_iinc (pc := 90) (v := z2) (lv' := [(2, .int z2), (0, .ref (ad 0)), (1, .int x1), (3, .int x3)]) hx hb dX12_take_90 hl (k := 2) rfl (by rw [ez2]; rfl) (by decide) rfl (fun ls hl => ?_)
      refine lv_goto (pc := 93) (tgt := 2) hx hb dX12_take_93 (by decide) ?_
      exact hK2 _ _ _ h _ _ _ w (lv_sub hl [1, 2, 0] rfl)
    · have h := ite_f q h
      refine lv_aload_n (pc := 44) hx hb dX12_take_44 rfl (lv_at hl 0 rfl) ?_
      refine s_getR (pc := 45) F w 57 ds_0 (j := 85) vc_X12 vi_X12 rfl (by decide) kf_X12_189 dX12_take_45 ?_
      refine lv_bipush (pc := 48) (v := 10) hx hb dX12_take_48 (by decide) ?_
      refine lv_iload_n (pc := 50) hx hb dX12_take_50 rfl (lv_at hl 2 rfl) ?_
      refine lv_imul (pc := 51) hx hb dX12_take_51 ?_
      refine lv_iload_n (pc := 52) hx hb dX12_take_52 rfl (lv_at hl 3 rfl) ?_
      refine lv_iadd (pc := 53) hx hb dX12_take_53 ?_
      refine lv_iload_n (pc := 54) hx hb dX12_take_54 rfl (lv_at hl 1 rfl) ?_
      refine lv_if_eq (pc := 55) (tgt := 72) hx hb dX12_take_55 (by decide) (fun q => ?_) (fun q => ?_)
      · have h := ite_t q h
        refine lv_aload_n (pc := 72) hx hb dX12_take_72 rfl (lv_at hl 0 rfl) ?_
        refine s_getR (pc := 73) F w 48 ds_0 (j := 73) vc_X12 vi_X12 rfl (by decide) kf_X12_159 dX12_take_73 ?_
        refine lv_bipush (pc := 76) (v := 10) hx hb dX12_take_76 (by decide) ?_
        refine lv_iload_n (pc := 78) hx hb dX12_take_78 rfl (lv_at hl 2 rfl) ?_
        refine lv_imul (pc := 79) hx hb dX12_take_79 ?_
        refine lv_iload_n (pc := 80) hx hb dX12_take_80 rfl (lv_at hl 3 rfl) ?_
        refine lv_iadd (pc := 81) hx hb dX12_take_81 ?_
        refine s_iald (pc := 82) F w ds_48 h dX12_take_82 (fun h => ?_)
        exact w_M_take_j83 F (Nat.le_trans (by decide) hR1) (Nat.le_trans (by decide) hR2) _ (fun v0 v1 v2 S h => ih v0 v1 v2 S h) _ _ _ _ _ _ h _ _ _ w (lv_sub hl [0, 1, 2, 3] rfl)
      · have h := ite_f q h
        refine lv_aload_n (pc := 58) hx hb dX12_take_58 rfl (lv_at hl 0 rfl) ?_
        refine s_getR (pc := 59) F w 50 ds_0 (j := 75) vc_X12 vi_X12 rfl (by decide) kf_X12_165 dX12_take_59 ?_
        refine lv_bipush (pc := 62) (v := 10) hx hb dX12_take_62 (by decide) ?_
        refine lv_iload_n (pc := 64) hx hb dX12_take_64 rfl (lv_at hl 2 rfl) ?_
        refine lv_imul (pc := 65) hx hb dX12_take_65 ?_
        refine lv_iload_n (pc := 66) hx hb dX12_take_66 rfl (lv_at hl 3 rfl) ?_
        refine lv_iadd (pc := 67) hx hb dX12_take_67 ?_
        refine s_iald (pc := 68) F w ds_50 h dX12_take_68 (fun h => ?_)
        refine lv_goto (pc := 69) (tgt := 83) hx hb dX12_take_69 (by decide) ?_
        exact w_M_take_j83 F (Nat.le_trans (by decide) hR1) (Nat.le_trans (by decide) hR2) _ (fun v0 v1 v2 S h => ih v0 v1 v2 S h) _ _ _ _ _ _ h _ _ _ w (lv_sub hl [0, 1, 2, 3] rfl)
set_option maxRecDepth 100000 in
set_option maxHeartbeats 4000000 in
theorem w_M_take_j31 {p : Program} {l : Launch} {e : Env} {R : Room} {s : State} {m : MethodId} {args : Array Value} {below : List Frame} {meth : Method} {c : Code} {dC : Nat → ClassId} {dI : Nat → Nat → Nat} {cs : Nat → ClassId} {ad : Nat → Nat} {A : Nat → Prop} {D0 : Nat → Nat} {S' : SS} (F : Fx p s m args meth c cX12_take 4 RX12 none dC dI cs A) (hR1 : 0 ≤ R.frames) (hR2 : 0 ≤ R.locals) (K2 : Int32 → Int32 → SS → Option (SS)) (hK2 : ∀ (v0 : Int32) (v1 : Int32) (S : SS), K2 v0 v1 S = some S' → AW p l e R s m args below meth c dC dI cs ad A D0 none S' 4 2 [(0, .ref (ad 0)), (1, .int v0), (2, .int v1)] [] S) (x1 : Int32) (x2 : Int32) (y0 : Int32) (y1 : Int32) (S : SS) (h : f_M_take_j31 K2 x1 x2 y0 y1 S = some S') : AW p l e R s m args below meth c dC dI cs ad A D0 none S' 4 31 [(0, .ref (ad 0)), (1, .int x1), (2, .int x2)] [.int y0, .int y1, .ref (ad 58)] S := by
  have hx := F.1.1
  have hb := F.1.2.1
  intro H locs ls w hl
  rw [f_M_take_j31] at h
  refine s_iast (pc := 31) F w ds_58 h dX12_take_31 (fun S1 H locs h w => ?_)
  refine lv_iconst (pc := 32) (v := 0) hx hb dX12_take_32 (by decide) ?_
  refine lv_istore_n (pc := 33) (lv' := [(3, .int (0 : Int32)), (0, .ref (ad 0)), (1, .int x1), (2, .int x2)]) hx hb dX12_take_33 rfl hl (by decide) rfl (fun ls hl => ?_)
  exact w_M_take_L34 F (Nat.le_trans (by decide) hR1) (Nat.le_trans (by decide) hR2) _ hK2 _ _ _ _ _ h _ _ _ w (lv_sub hl [1, 2, 3, 0] rfl)
set_option maxRecDepth 100000 in
set_option maxHeartbeats 4000000 in
theorem w_M_take_L2 {p : Program} {l : Launch} {e : Env} {R : Room} {s : State} {m : MethodId} {args : Array Value} {below : List Frame} {meth : Method} {c : Code} {dC : Nat → ClassId} {dI : Nat → Nat → Nat} {cs : Nat → ClassId} {ad : Nat → Nat} {A : Nat → Prop} {D0 : Nat → Nat} {S' : SS} (F : Fx p s m args meth c cX12_take 4 RX12 none dC dI cs A) (hR1 : 0 ≤ R.frames) (hR2 : 0 ≤ R.locals) : ∀ (n : Nat) (x1 : Int32) (x2 : Int32) (S : SS), f_M_take_L2 n x1 x2 S = some S' → AW p l e R s m args below meth c dC dI cs ad A D0 none S' 4 2 [(0, .ref (ad 0)), (1, .int x1), (2, .int x2)] [] S := by
  have hx := F.1.1
  have hb := F.1.2.1
  intro n
  induction n with
  | zero => intro x1 x2 S h; cases h
  | succ n ih =>
    intro x1 x2 S h H locs ls w hl
    rw [f_M_take_L2] at h
    refine lv_iload_n (pc := 2) hx hb dX12_take_2 rfl (lv_at hl 2 rfl) ?_
    refine lv_iconst (pc := 3) (v := 4) hx hb dX12_take_3 (by decide) ?_
    refine lv_icmp_ge (pc := 4) (tgt := 96) hx hb dX12_take_4 (by decide) (fun q => ?_) (fun q => ?_)
    · have h := ite_t q h
      exact s_vret F w h dX12_take_96
    · have h := ite_f q h
      refine lv_aload_n (pc := 7) hx hb dX12_take_7 rfl (lv_at hl 0 rfl) ?_
      refine s_getR (pc := 8) F w 58 ds_0 (j := 86) vc_X12 vi_X12 rfl (by decide) kf_X12_192 dX12_take_8 ?_
      refine lv_iload_n (pc := 11) hx hb dX12_take_11 rfl (lv_at hl 2 rfl) ?_
      refine lv_iload_n (pc := 12) hx hb dX12_take_12 rfl (lv_at hl 1 rfl) ?_
      refine lv_if_eq (pc := 13) (tgt := 25) hx hb dX12_take_13 (by decide) (fun q => ?_) (fun q => ?_)
      · have h := ite_t q h
        refine lv_aload_n (pc := 25) hx hb dX12_take_25 rfl (lv_at hl 0 rfl) ?_
        refine s_getR (pc := 26) F w 47 ds_0 (j := 72) vc_X12 vi_X12 rfl (by decide) kf_X12_156 dX12_take_26 ?_
        refine lv_iload_n (pc := 29) hx hb dX12_take_29 rfl (lv_at hl 2 rfl) ?_
        refine s_iald (pc := 30) F w ds_47 h dX12_take_30 (fun h => ?_)
        exact w_M_take_j31 F (Nat.le_trans (by decide) hR1) (Nat.le_trans (by decide) hR2) _ (fun v0 v1 S h => ih v0 v1 S h) _ _ _ _ _ h _ _ _ w (lv_sub hl [0, 1, 2] rfl)
      · have h := ite_f q h
        refine lv_aload_n (pc := 16) hx hb dX12_take_16 rfl (lv_at hl 0 rfl) ?_
        refine s_getR (pc := 17) F w 49 ds_0 (j := 74) vc_X12 vi_X12 rfl (by decide) kf_X12_162 dX12_take_17 ?_
        refine lv_iload_n (pc := 20) hx hb dX12_take_20 rfl (lv_at hl 2 rfl) ?_
        refine s_iald (pc := 21) F w ds_49 h dX12_take_21 (fun h => ?_)
        refine lv_goto (pc := 22) (tgt := 31) hx hb dX12_take_22 (by decide) ?_
        exact w_M_take_j31 F (Nat.le_trans (by decide) hR1) (Nat.le_trans (by decide) hR2) _ (fun v0 v1 S h => ih v0 v1 S h) _ _ _ _ _ h _ _ _ w (lv_sub hl [0, 1, 2] rfl)
set_option maxRecDepth 100000 in
set_option maxHeartbeats 4000000 in
theorem m_M_take (a1 : Int32) (S S' : SS) (h : f_M_take a1 S = some S') : MT yX12_take cX12_take 4 none 0 0 (fun ad => [.ref (ad 0), .int a1]) S none S' := by
  refine MT.of RX12 (fun ad => [(0, .ref (ad 0)), (1, .int a1)]) (by decide) rfl (fun _ => Nat.le_of_ble_eq_true rfl) (fun _ => rfl) ?_
  intro p l e R s m args below meth c dC dI cs ad A hR1 hR2 F H locs ls w hl
  have hx := F.1.1
  have hb := F.1.2.1
  rw [f_M_take] at h
  refine lv_iconst (pc := 0) (v := 0) hx hb dX12_take_0 (by decide) ?_
  refine lv_istore_n (pc := 1) (lv' := [(2, .int (0 : Int32)), (0, .ref (ad 0)), (1, .int a1)]) hx hb dX12_take_1 rfl hl (by decide) rfl (fun ls hl => ?_)
  exact w_M_take_L2 F (Nat.le_trans (by decide) hR1) (Nat.le_trans (by decide) hR2) _ _ _ _ h _ _ _ w (lv_sub hl [1, 2, 0] rfl)
def f_M_sumOf_M_many  (S : SS) : Option (Int32 × SS) :=
  grd (inb (0 : Int32) 4) (
  grd (inb (1 : Int32) 4) (
  grd (inb (2 : Int32) 4) (
  grd (inb (3 : Int32) 4) (
  some ((((S.1 58 (0 : Int32).toNatClampNeg) + (S.1 58 (1 : Int32).toNatClampNeg)) + (S.1 58 (2 : Int32).toNatClampNeg)) + (S.1 58 (3 : Int32).toNatClampNeg), S)))))
set_option maxRecDepth 100000 in
set_option maxHeartbeats 4000000 in
theorem m_M_sumOf_M_many  (S S' : SS) (r : Int32) (h : f_M_sumOf_M_many  S = some (r, S')) : MT yX12_sumOf cX12_sumOf 1 (some .int) 0 0 (fun ad => [.ref (ad 58)]) S (some (.int r)) S' := by
  refine MT.of RX12 (fun ad => [(0, .ref (ad 58))]) (by decide) rfl (fun _ => Nat.le_of_ble_eq_true rfl) (fun _ => rfl) ?_
  intro p l e R s m args below meth c dC dI cs ad A hR1 hR2 F H locs ls w hl
  have hx := F.1.1
  have hb := F.1.2.1
  rw [f_M_sumOf_M_many] at h
  refine lv_aload_n (pc := 0) hx hb dX12_sumOf_0 rfl (lv_at hl 0 rfl) ?_
  refine lv_iconst (pc := 1) (v := 0) hx hb dX12_sumOf_1 (by decide) ?_
  refine s_iald (pc := 2) F w ds_58 h dX12_sumOf_2 (fun h => ?_)
  refine lv_aload_n (pc := 3) hx hb dX12_sumOf_3 rfl (lv_at hl 0 rfl) ?_
  refine lv_iconst (pc := 4) (v := 1) hx hb dX12_sumOf_4 (by decide) ?_
  refine s_iald (pc := 5) F w ds_58 h dX12_sumOf_5 (fun h => ?_)
  refine lv_iadd (pc := 6) hx hb dX12_sumOf_6 ?_
  refine lv_aload_n (pc := 7) hx hb dX12_sumOf_7 rfl (lv_at hl 0 rfl) ?_
  refine lv_iconst (pc := 8) (v := 2) hx hb dX12_sumOf_8 (by decide) ?_
  refine s_iald (pc := 9) F w ds_58 h dX12_sumOf_9 (fun h => ?_)
  refine lv_iadd (pc := 10) hx hb dX12_sumOf_10 ?_
  refine lv_aload_n (pc := 11) hx hb dX12_sumOf_11 rfl (lv_at hl 0 rfl) ?_
  refine lv_iconst (pc := 12) (v := 3) hx hb dX12_sumOf_12 (by decide) ?_
  refine s_iald (pc := 13) F w ds_58 h dX12_sumOf_13 (fun h => ?_)
  refine lv_iadd (pc := 14) hx hb dX12_sumOf_14 ?_
  exact s_iret F w h dX12_sumOf_15
def f_M_rankOf_j26  (x2 : Int32) (S : SS) : Option (Int32 × SS) :=
    if (S.1 0 81) ≤ x2 then
      some ((-4 : Int32), S)
    else
      some (x2, S)
def f_M_rankOf_L2  : Nat → Int32 → Int32 → SS → Option (Int32 × SS)
  | 0, _, _, _ => none
  | n + 1, x1, x2, S =>
    if (S.1 0 81) ≤ x2 then
      f_M_rankOf_j26 x2 S
    else
      grd (inb x2 10) (
      if (S.1 54 x2.toNatClampNeg) = x1 then
        f_M_rankOf_j26 x2 S
      else
        nm (x2 + (1 : Int32)) (fun z1 =>
        f_M_rankOf_L2 n x1 z1 S))
def f_M_rankOf (a1 : Int32) (S : SS) : Option (Int32 × SS) :=
  f_M_rankOf_L2 NF a1 (0 : Int32) S
theorem dX12_rankOf_0 : decode cX12_rankOf 0 = .ok (.iconst 0, 1) := dc_3 (by decide +kernel)
theorem dX12_rankOf_1 : decode cX12_rankOf 1 = .ok (.istore_n 2, 1) := dc_61 (by decide +kernel)
theorem dX12_rankOf_2 : decode cX12_rankOf 2 = .ok (.iload_n 2, 1) := dc_28 (by decide +kernel)
theorem dX12_rankOf_3 : decode cX12_rankOf 3 = .ok (.aload_n 0, 1) := dc_42 (by decide +kernel)
theorem dX12_rankOf_4 : decode cX12_rankOf 4 = .ok (.getfield 466, 3) := dc_180 (a := 1) (b := 210) (by decide +kernel)
theorem dX12_rankOf_7 : decode cX12_rankOf 7 = .ok (.if_icmp .ge 19, 3) := dc_162 (a := 0) (b := 19) (by decide +kernel) (by decide)
theorem dX12_rankOf_10 : decode cX12_rankOf 10 = .ok (.aload_n 0, 1) := dc_42 (by decide +kernel)
theorem dX12_rankOf_11 : decode cX12_rankOf 11 = .ok (.getfield 180, 3) := dc_180 (a := 0) (b := 180) (by decide +kernel)
theorem dX12_rankOf_14 : decode cX12_rankOf 14 = .ok (.iload_n 2, 1) := dc_28 (by decide +kernel)
theorem dX12_rankOf_15 : decode cX12_rankOf 15 = .ok (.iaload, 1) := dc_46 (by decide +kernel)
theorem dX12_rankOf_16 : decode cX12_rankOf 16 = .ok (.iload_n 1, 1) := dc_27 (by decide +kernel)
theorem dX12_rankOf_17 : decode cX12_rankOf 17 = .ok (.if_icmp .eq 9, 3) := dc_159 (a := 0) (b := 9) (by decide +kernel) (by decide)
theorem dX12_rankOf_20 : decode cX12_rankOf 20 = .ok (.iinc 2 1, 3) := dc_132 (a := 2) (b := 1) (by decide +kernel) (by decide)
theorem dX12_rankOf_23 : decode cX12_rankOf 23 = .ok (.goto (-21), 3) := dc_167 (a := 255) (b := 235) (by decide +kernel) (by decide)
theorem dX12_rankOf_26 : decode cX12_rankOf 26 = .ok (.iload_n 2, 1) := dc_28 (by decide +kernel)
theorem dX12_rankOf_27 : decode cX12_rankOf 27 = .ok (.aload_n 0, 1) := dc_42 (by decide +kernel)
theorem dX12_rankOf_28 : decode cX12_rankOf 28 = .ok (.getfield 466, 3) := dc_180 (a := 1) (b := 210) (by decide +kernel)
theorem dX12_rankOf_31 : decode cX12_rankOf 31 = .ok (.if_icmp .ge 7, 3) := dc_162 (a := 0) (b := 7) (by decide +kernel) (by decide)
theorem dX12_rankOf_34 : decode cX12_rankOf 34 = .ok (.iload_n 2, 1) := dc_28 (by decide +kernel)
theorem dX12_rankOf_35 : decode cX12_rankOf 35 = .ok (.goto 5, 3) := dc_167 (a := 0) (b := 5) (by decide +kernel) (by decide)
theorem dX12_rankOf_38 : decode cX12_rankOf 38 = .ok (.bipush (-4), 2) := dc_16 (a := 252) (by decide +kernel) (by decide)
theorem dX12_rankOf_40 : decode cX12_rankOf 40 = .ok (.ireturn, 1) := dc_172 (by decide +kernel)
set_option maxRecDepth 100000 in
set_option maxHeartbeats 4000000 in
theorem w_M_rankOf_j26 {p : Program} {l : Launch} {e : Env} {R : Room} {s : State} {m : MethodId} {args : Array Value} {below : List Frame} {meth : Method} {c : Code} {dC : Nat → ClassId} {dI : Nat → Nat → Nat} {cs : Nat → ClassId} {ad : Nat → Nat} {A : Nat → Prop} {D0 : Nat → Nat} {S' : SS} {r : Int32} (F : Fx p s m args meth c cX12_rankOf 3 RX12 (some .int) dC dI cs A) (hR1 : 0 ≤ R.frames) (hR2 : 0 ≤ R.locals) (x2 : Int32) (S : SS) (h : f_M_rankOf_j26 x2 S = some (r, S')) : AW p l e R s m args below meth c dC dI cs ad A D0 (some (.int r)) S' 3 26 [(0, .ref (ad 0)), (2, .int x2)] [] S := by
  have hx := F.1.1
  have hb := F.1.2.1
  intro H locs ls w hl
  rw [f_M_rankOf_j26] at h
  refine lv_iload_n (pc := 26) hx hb dX12_rankOf_26 rfl (lv_at hl 1 rfl) ?_
  refine lv_aload_n (pc := 27) hx hb dX12_rankOf_27 rfl (lv_at hl 0 rfl) ?_
  refine s_getI (pc := 28) F w ds_0 (j := 81) vc_X12 vi_X12 rfl (by decide) kf_X12_466 dX12_rankOf_28 ?_
  refine lv_icmp_ge (pc := 31) (tgt := 38) hx hb dX12_rankOf_31 (by decide) (fun q => ?_) (fun q => ?_)
  · have h := ite_t q h
    refine lv_bipush (pc := 38) (v := -4) hx hb dX12_rankOf_38 (by decide) ?_
    exact s_iret F w h dX12_rankOf_40
  · have h := ite_f q h
    refine lv_iload_n (pc := 34) hx hb dX12_rankOf_34 rfl (lv_at hl 1 rfl) ?_
    refine lv_goto (pc := 35) (tgt := 40) hx hb dX12_rankOf_35 (by decide) ?_
    exact s_iret F w h dX12_rankOf_40
set_option maxRecDepth 100000 in
set_option maxHeartbeats 4000000 in
theorem w_M_rankOf_L2 {p : Program} {l : Launch} {e : Env} {R : Room} {s : State} {m : MethodId} {args : Array Value} {below : List Frame} {meth : Method} {c : Code} {dC : Nat → ClassId} {dI : Nat → Nat → Nat} {cs : Nat → ClassId} {ad : Nat → Nat} {A : Nat → Prop} {D0 : Nat → Nat} {S' : SS} {r : Int32} (F : Fx p s m args meth c cX12_rankOf 3 RX12 (some .int) dC dI cs A) (hR1 : 0 ≤ R.frames) (hR2 : 0 ≤ R.locals) : ∀ (n : Nat) (x1 : Int32) (x2 : Int32) (S : SS), f_M_rankOf_L2 n x1 x2 S = some (r, S') → AW p l e R s m args below meth c dC dI cs ad A D0 (some (.int r)) S' 3 2 [(0, .ref (ad 0)), (1, .int x1), (2, .int x2)] [] S := by
  have hx := F.1.1
  have hb := F.1.2.1
  intro n
  induction n with
  | zero => intro x1 x2 S h; cases h
  | succ n ih =>
    intro x1 x2 S h H locs ls w hl
    rw [f_M_rankOf_L2] at h
    refine lv_iload_n (pc := 2) hx hb dX12_rankOf_2 rfl (lv_at hl 2 rfl) ?_
    refine lv_aload_n (pc := 3) hx hb dX12_rankOf_3 rfl (lv_at hl 0 rfl) ?_
    refine s_getI (pc := 4) F w ds_0 (j := 81) vc_X12 vi_X12 rfl (by decide) kf_X12_466 dX12_rankOf_4 ?_
    refine lv_icmp_ge (pc := 7) (tgt := 26) hx hb dX12_rankOf_7 (by decide) (fun q => ?_) (fun q => ?_)
    · have h := ite_t q h
      exact w_M_rankOf_j26 F (Nat.le_trans (by decide) hR1) (Nat.le_trans (by decide) hR2) _ _ h _ _ _ w (lv_sub hl [0, 2] rfl)
    · have h := ite_f q h
      refine lv_aload_n (pc := 10) hx hb dX12_rankOf_10 rfl (lv_at hl 0 rfl) ?_
      refine s_getR (pc := 11) F w 54 ds_0 (j := 82) vc_X12 vi_X12 rfl (by decide) kf_X12_180 dX12_rankOf_11 ?_
      refine lv_iload_n (pc := 14) hx hb dX12_rankOf_14 rfl (lv_at hl 2 rfl) ?_
      refine s_iald (pc := 15) F w ds_54 h dX12_rankOf_15 (fun h => ?_)
      refine lv_iload_n (pc := 16) hx hb dX12_rankOf_16 rfl (lv_at hl 1 rfl) ?_
      refine lv_icmp_eq (pc := 17) (tgt := 26) hx hb dX12_rankOf_17 (by decide) (fun q => ?_) (fun q => ?_)
      · have h := ite_t q h
        exact w_M_rankOf_j26 F (Nat.le_trans (by decide) hR1) (Nat.le_trans (by decide) hR2) _ _ h _ _ _ w (lv_sub hl [0, 2] rfl)
      · have h := ite_f q h
        refine s_nm h (fun z1 ez1 h => ?_)
        refine lv_iinc (pc := 20) (v := z1) (lv' := [(2, .int z1), (0, .ref (ad 0)), (1, .int x1)]) hx hb dX12_rankOf_20 hl (k := 2) rfl (by rw [ez1]; rfl) (by decide) rfl (fun ls hl => ?_)
        refine lv_goto (pc := 23) (tgt := 2) hx hb dX12_rankOf_23 (by decide) ?_
        exact ih _ _ _ h _ _ _ w (lv_sub hl [1, 2, 0] rfl)
set_option maxRecDepth 100000 in
set_option maxHeartbeats 4000000 in
theorem m_M_rankOf (a1 : Int32) (S S' : SS) (r : Int32) (h : f_M_rankOf a1 S = some (r, S')) : MT yX12_rankOf cX12_rankOf 3 (some .int) 0 0 (fun ad => [.ref (ad 0), .int a1]) S (some (.int r)) S' := by
  refine MT.of RX12 (fun ad => [(0, .ref (ad 0)), (1, .int a1)]) (by decide) rfl (fun _ => Nat.le_of_ble_eq_true rfl) (fun _ => rfl) ?_
  intro p l e R s m args below meth c dC dI cs ad A hR1 hR2 F H locs ls w hl
  have hx := F.1.1
  have hb := F.1.2.1
  rw [f_M_rankOf] at h
  refine lv_iconst (pc := 0) (v := 0) hx hb dX12_rankOf_0 (by decide) ?_
  refine lv_istore_n (pc := 1) (lv' := [(2, .int (0 : Int32)), (0, .ref (ad 0)), (1, .int a1)]) hx hb dX12_rankOf_1 rfl hl (by decide) rfl (fun ls hl => ?_)
  exact w_M_rankOf_L2 F (Nat.le_trans (by decide) hR1) (Nat.le_trans (by decide) hR2) _ _ _ _ h _ _ _ w (lv_sub hl [1, 2, 0] rfl)
def f_M_code_j134 (K105 : Int32 → Int32 → Int32 → Int32 → Int32 → SS → Option (Int32 × SS)) (x1 : Int32) (x2 : Int32) (x3 : Int32) (x5 : Int32) (y0 : Int32) (y1 : Int32) (S : SS) : Option (Int32 × SS) :=
    nm (y1 + y0) (fun z6 =>
    nm (x5 + (1 : Int32)) (fun z7 =>
    K105 x1 x2 x3 z6 z7 S))
def f_M_code_L105 (K92 : Int32 → Int32 → Int32 → SS → Option (Int32 × SS)) : Nat → Int32 → Int32 → Int32 → Int32 → Int32 → SS → Option (Int32 × SS)
  | 0, _, _, _, _, _, _ => none
  | n + 1, x1, x2, x3, x4, x5, S =>
    if x1 ≤ x5 then
      nm ((x2 * (x1 - x3)) + x4) (fun z4 =>
      nm (x3 + (1 : Int32)) (fun z5 =>
      K92 x1 z4 z5 S))
    else
      grd (inb x5 5) (
      grd (inb x3 5) (
      if (S.1 59 x3.toNatClampNeg) ≤ (S.1 59 x5.toNatClampNeg) then
        f_M_code_j134 (fun v0 v1 v2 v3 v4 S => f_M_code_L105 K92 n v0 v1 v2 v3 v4 S) x1 x2 x3 x5 (0 : Int32) x4 S
      else
        f_M_code_j134 (fun v0 v1 v2 v3 v4 S => f_M_code_L105 K92 n v0 v1 v2 v3 v4 S) x1 x2 x3 x5 (1 : Int32) x4 S))
def f_M_code_L92  : Nat → Int32 → Int32 → Int32 → SS → Option (Int32 × SS)
  | 0, _, _, _, _ => none
  | n + 1, x1, x2, x3, S =>
    if x1 ≤ x3 then
      grd (inb (0 : Int32) 4) (
      grd (inb (1 : Int32) 4) (
      grd (inb (2 : Int32) 4) (
      some ((((x2 * (216 : Int32)) + ((S.1 58 (0 : Int32).toNatClampNeg) * (36 : Int32))) + ((S.1 58 (1 : Int32).toNatClampNeg) * (6 : Int32))) + (S.1 58 (2 : Int32).toNatClampNeg), S))))
    else
      nm (x3 + (1 : Int32)) (fun z3 =>
      f_M_code_L105 (fun v0 v1 v2 S => f_M_code_L92 n v0 v1 v2 S) NF x1 x2 x3 (0 : Int32) z3 S)
def f_M_code_L28 (K21 : Int32 → Int32 → SS → Option (Int32 × SS)) : Nat → Int32 → Int32 → Int32 → SS → Option (Int32 × SS)
  | 0, _, _, _, _ => none
  | n + 1, x1, x2, x3, S =>
    grd (inb x2 4) (
    if (S.1 58 x2.toNatClampNeg) ≤ x3 then
      nm (x2 + (1 : Int32)) (fun z8 =>
      K21 x1 z8 S)
    else
      grd (inb (((10 : Int32) * x2) + x3) 40) (
      bnd (f_M_rankOf (S.1 57 (((10 : Int32) * x2) + x3).toNatClampNeg) S) (fun r10 S9 =>
      grd (inb x1 5) (wr S9 59 x1.toNatClampNeg r10 (fun S11 =>
      grd (inb x1 5) (
      if (S11.1 59 x1.toNatClampNeg) = (-4 : Int32) then
        some ((-4 : Int32), S11)
      else
        nm (x1 + (1 : Int32)) (fun z12 =>
        nm (x3 + (1 : Int32)) (fun z13 =>
        f_M_code_L28 K21 n z12 x2 z13 S11))))))))
def f_M_code_L21  : Nat → Int32 → Int32 → SS → Option (Int32 × SS)
  | 0, _, _, _ => none
  | n + 1, x1, x2, S =>
    if (4 : Int32) ≤ x2 then
      f_M_code_L92 NF x1 (0 : Int32) (0 : Int32) S
    else
      f_M_code_L28 (fun v0 v1 S => f_M_code_L21 n v0 v1 S) NF x1 x2 (0 : Int32) S
def f_M_code  (S : SS) : Option (Int32 × SS) :=
  bnd (f_M_sumOf_M_many  S) (fun r2 S1 =>
  if r2 = (S1.1 0 81) then
    f_M_code_L21 NF (0 : Int32) (0 : Int32) S1
  else
    some ((-4 : Int32), S1))
theorem dX12_code_0 : decode cX12_code 0 = .ok (.aload_n 0, 1) := dc_42 (by decide +kernel)
theorem dX12_code_1 : decode cX12_code 1 = .ok (.getfield 192, 3) := dc_180 (a := 0) (b := 192) (by decide +kernel)
theorem dX12_code_4 : decode cX12_code 4 = .ok (.invokestatic 459, 3) := dc_184 (a := 1) (b := 203) (by decide +kernel)
theorem dX12_code_7 : decode cX12_code 7 = .ok (.aload_n 0, 1) := dc_42 (by decide +kernel)
theorem dX12_code_8 : decode cX12_code 8 = .ok (.getfield 466, 3) := dc_180 (a := 1) (b := 210) (by decide +kernel)
theorem dX12_code_11 : decode cX12_code 11 = .ok (.if_icmp .eq 6, 3) := dc_159 (a := 0) (b := 6) (by decide +kernel) (by decide)
theorem dX12_code_14 : decode cX12_code 14 = .ok (.bipush (-4), 2) := dc_16 (a := 252) (by decide +kernel) (by decide)
theorem dX12_code_16 : decode cX12_code 16 = .ok (.ireturn, 1) := dc_172 (by decide +kernel)
theorem dX12_code_17 : decode cX12_code 17 = .ok (.iconst 0, 1) := dc_3 (by decide +kernel)
theorem dX12_code_18 : decode cX12_code 18 = .ok (.istore_n 1, 1) := dc_60 (by decide +kernel)
theorem dX12_code_19 : decode cX12_code 19 = .ok (.iconst 0, 1) := dc_3 (by decide +kernel)
theorem dX12_code_20 : decode cX12_code 20 = .ok (.istore_n 2, 1) := dc_61 (by decide +kernel)
theorem dX12_code_21 : decode cX12_code 21 = .ok (.iload_n 2, 1) := dc_28 (by decide +kernel)
theorem dX12_code_22 : decode cX12_code 22 = .ok (.iconst 4, 1) := dc_7 (by decide +kernel)
theorem dX12_code_23 : decode cX12_code 23 = .ok (.if_icmp .ge 65, 3) := dc_162 (a := 0) (b := 65) (by decide +kernel) (by decide)
theorem dX12_code_26 : decode cX12_code 26 = .ok (.iconst 0, 1) := dc_3 (by decide +kernel)
theorem dX12_code_27 : decode cX12_code 27 = .ok (.istore_n 3, 1) := dc_62 (by decide +kernel)
theorem dX12_code_28 : decode cX12_code 28 = .ok (.iload_n 3, 1) := dc_29 (by decide +kernel)
theorem dX12_code_29 : decode cX12_code 29 = .ok (.aload_n 0, 1) := dc_42 (by decide +kernel)
theorem dX12_code_30 : decode cX12_code 30 = .ok (.getfield 192, 3) := dc_180 (a := 0) (b := 192) (by decide +kernel)
theorem dX12_code_33 : decode cX12_code 33 = .ok (.iload_n 2, 1) := dc_28 (by decide +kernel)
theorem dX12_code_34 : decode cX12_code 34 = .ok (.iaload, 1) := dc_46 (by decide +kernel)
theorem dX12_code_35 : decode cX12_code 35 = .ok (.if_icmp .ge 47, 3) := dc_162 (a := 0) (b := 47) (by decide +kernel) (by decide)
theorem dX12_code_38 : decode cX12_code 38 = .ok (.aload_n 0, 1) := dc_42 (by decide +kernel)
theorem dX12_code_39 : decode cX12_code 39 = .ok (.getfield 195, 3) := dc_180 (a := 0) (b := 195) (by decide +kernel)
theorem dX12_code_42 : decode cX12_code 42 = .ok (.iload_n 1, 1) := dc_27 (by decide +kernel)
theorem dX12_code_43 : decode cX12_code 43 = .ok (.aload_n 0, 1) := dc_42 (by decide +kernel)
theorem dX12_code_44 : decode cX12_code 44 = .ok (.aload_n 0, 1) := dc_42 (by decide +kernel)
theorem dX12_code_45 : decode cX12_code 45 = .ok (.getfield 189, 3) := dc_180 (a := 0) (b := 189) (by decide +kernel)
theorem dX12_code_48 : decode cX12_code 48 = .ok (.bipush 10, 2) := dc_16 (a := 10) (by decide +kernel) (by decide)
theorem dX12_code_50 : decode cX12_code 50 = .ok (.iload_n 2, 1) := dc_28 (by decide +kernel)
theorem dX12_code_51 : decode cX12_code 51 = .ok (.imul, 1) := dc_104 (by decide +kernel)
theorem dX12_code_52 : decode cX12_code 52 = .ok (.iload_n 3, 1) := dc_29 (by decide +kernel)
theorem dX12_code_53 : decode cX12_code 53 = .ok (.iadd, 1) := dc_96 (by decide +kernel)
theorem dX12_code_54 : decode cX12_code 54 = .ok (.iaload, 1) := dc_46 (by decide +kernel)
theorem dX12_code_55 : decode cX12_code 55 = .ok (.invokevirtual 469, 3) := dc_182 (a := 1) (b := 213) (by decide +kernel)
theorem dX12_code_58 : decode cX12_code 58 = .ok (.iastore, 1) := dc_79 (by decide +kernel)
theorem dX12_code_59 : decode cX12_code 59 = .ok (.aload_n 0, 1) := dc_42 (by decide +kernel)
theorem dX12_code_60 : decode cX12_code 60 = .ok (.getfield 195, 3) := dc_180 (a := 0) (b := 195) (by decide +kernel)
theorem dX12_code_63 : decode cX12_code 63 = .ok (.iload_n 1, 1) := dc_27 (by decide +kernel)
theorem dX12_code_64 : decode cX12_code 64 = .ok (.iaload, 1) := dc_46 (by decide +kernel)
theorem dX12_code_65 : decode cX12_code 65 = .ok (.bipush (-4), 2) := dc_16 (a := 252) (by decide +kernel) (by decide)
theorem dX12_code_67 : decode cX12_code 67 = .ok (.if_icmp .ne 6, 3) := dc_160 (a := 0) (b := 6) (by decide +kernel) (by decide)
theorem dX12_code_70 : decode cX12_code 70 = .ok (.bipush (-4), 2) := dc_16 (a := 252) (by decide +kernel) (by decide)
theorem dX12_code_72 : decode cX12_code 72 = .ok (.ireturn, 1) := dc_172 (by decide +kernel)
theorem dX12_code_73 : decode cX12_code 73 = .ok (.iinc 1 1, 3) := dc_132 (a := 1) (b := 1) (by decide +kernel) (by decide)
theorem dX12_code_76 : decode cX12_code 76 = .ok (.iinc 3 1, 3) := dc_132 (a := 3) (b := 1) (by decide +kernel) (by decide)
theorem dX12_code_79 : decode cX12_code 79 = .ok (.goto (-51), 3) := dc_167 (a := 255) (b := 205) (by decide +kernel) (by decide)
theorem dX12_code_82 : decode cX12_code 82 = .ok (.iinc 2 1, 3) := dc_132 (a := 2) (b := 1) (by decide +kernel) (by decide)
theorem dX12_code_85 : decode cX12_code 85 = .ok (.goto (-64), 3) := dc_167 (a := 255) (b := 192) (by decide +kernel) (by decide)
theorem dX12_code_88 : decode cX12_code 88 = .ok (.iconst 0, 1) := dc_3 (by decide +kernel)
theorem dX12_code_89 : decode cX12_code 89 = .ok (.istore_n 2, 1) := dc_61 (by decide +kernel)
theorem dX12_code_90 : decode cX12_code 90 = .ok (.iconst 0, 1) := dc_3 (by decide +kernel)
theorem dX12_code_91 : decode cX12_code 91 = .ok (.istore_n 3, 1) := dc_62 (by decide +kernel)
theorem dX12_code_92 : decode cX12_code 92 = .ok (.iload_n 3, 1) := dc_29 (by decide +kernel)
theorem dX12_code_93 : decode cX12_code 93 = .ok (.iload_n 1, 1) := dc_27 (by decide +kernel)
theorem dX12_code_94 : decode cX12_code 94 = .ok (.if_icmp .ge 64, 3) := dc_162 (a := 0) (b := 64) (by decide +kernel) (by decide)
theorem dX12_code_97 : decode cX12_code 97 = .ok (.iconst 0, 1) := dc_3 (by decide +kernel)
theorem dX12_code_98 : decode cX12_code 98 = .ok (.istore 4, 2) := dc_54 (a := 4) (by decide +kernel)
theorem dX12_code_100 : decode cX12_code 100 = .ok (.iload_n 3, 1) := dc_29 (by decide +kernel)
theorem dX12_code_101 : decode cX12_code 101 = .ok (.iconst 1, 1) := dc_4 (by decide +kernel)
theorem dX12_code_102 : decode cX12_code 102 = .ok (.iadd, 1) := dc_96 (by decide +kernel)
theorem dX12_code_103 : decode cX12_code 103 = .ok (.istore 5, 2) := dc_54 (a := 5) (by decide +kernel)
theorem dX12_code_105 : decode cX12_code 105 = .ok (.iload 5, 2) := dc_21 (a := 5) (by decide +kernel)
theorem dX12_code_107 : decode cX12_code 107 = .ok (.iload_n 1, 1) := dc_27 (by decide +kernel)
theorem dX12_code_108 : decode cX12_code 108 = .ok (.if_icmp .ge 35, 3) := dc_162 (a := 0) (b := 35) (by decide +kernel) (by decide)
theorem dX12_code_111 : decode cX12_code 111 = .ok (.iload 4, 2) := dc_21 (a := 4) (by decide +kernel)
theorem dX12_code_113 : decode cX12_code 113 = .ok (.aload_n 0, 1) := dc_42 (by decide +kernel)
theorem dX12_code_114 : decode cX12_code 114 = .ok (.getfield 195, 3) := dc_180 (a := 0) (b := 195) (by decide +kernel)
theorem dX12_code_117 : decode cX12_code 117 = .ok (.iload 5, 2) := dc_21 (a := 5) (by decide +kernel)
theorem dX12_code_119 : decode cX12_code 119 = .ok (.iaload, 1) := dc_46 (by decide +kernel)
theorem dX12_code_120 : decode cX12_code 120 = .ok (.aload_n 0, 1) := dc_42 (by decide +kernel)
theorem dX12_code_121 : decode cX12_code 121 = .ok (.getfield 195, 3) := dc_180 (a := 0) (b := 195) (by decide +kernel)
theorem dX12_code_124 : decode cX12_code 124 = .ok (.iload_n 3, 1) := dc_29 (by decide +kernel)
theorem dX12_code_125 : decode cX12_code 125 = .ok (.iaload, 1) := dc_46 (by decide +kernel)
theorem dX12_code_126 : decode cX12_code 126 = .ok (.if_icmp .ge 7, 3) := dc_162 (a := 0) (b := 7) (by decide +kernel) (by decide)
theorem dX12_code_129 : decode cX12_code 129 = .ok (.iconst 1, 1) := dc_4 (by decide +kernel)
theorem dX12_code_130 : decode cX12_code 130 = .ok (.goto 4, 3) := dc_167 (a := 0) (b := 4) (by decide +kernel) (by decide)
theorem dX12_code_133 : decode cX12_code 133 = .ok (.iconst 0, 1) := dc_3 (by decide +kernel)
theorem dX12_code_134 : decode cX12_code 134 = .ok (.iadd, 1) := dc_96 (by decide +kernel)
theorem dX12_code_135 : decode cX12_code 135 = .ok (.istore 4, 2) := dc_54 (a := 4) (by decide +kernel)
theorem dX12_code_137 : decode cX12_code 137 = .ok (.iinc 5 1, 3) := dc_132 (a := 5) (b := 1) (by decide +kernel) (by decide)
theorem dX12_code_140 : decode cX12_code 140 = .ok (.goto (-35), 3) := dc_167 (a := 255) (b := 221) (by decide +kernel) (by decide)
theorem dX12_code_143 : decode cX12_code 143 = .ok (.iload_n 2, 1) := dc_28 (by decide +kernel)
theorem dX12_code_144 : decode cX12_code 144 = .ok (.iload_n 1, 1) := dc_27 (by decide +kernel)
theorem dX12_code_145 : decode cX12_code 145 = .ok (.iload_n 3, 1) := dc_29 (by decide +kernel)
theorem dX12_code_146 : decode cX12_code 146 = .ok (.isub, 1) := dc_100 (by decide +kernel)
theorem dX12_code_147 : decode cX12_code 147 = .ok (.imul, 1) := dc_104 (by decide +kernel)
theorem dX12_code_148 : decode cX12_code 148 = .ok (.iload 4, 2) := dc_21 (a := 4) (by decide +kernel)
theorem dX12_code_150 : decode cX12_code 150 = .ok (.iadd, 1) := dc_96 (by decide +kernel)
theorem dX12_code_151 : decode cX12_code 151 = .ok (.istore_n 2, 1) := dc_61 (by decide +kernel)
theorem dX12_code_152 : decode cX12_code 152 = .ok (.iinc 3 1, 3) := dc_132 (a := 3) (b := 1) (by decide +kernel) (by decide)
theorem dX12_code_155 : decode cX12_code 155 = .ok (.goto (-63), 3) := dc_167 (a := 255) (b := 193) (by decide +kernel) (by decide)
theorem dX12_code_158 : decode cX12_code 158 = .ok (.iload_n 2, 1) := dc_28 (by decide +kernel)
theorem dX12_code_159 : decode cX12_code 159 = .ok (.sipush 216, 3) := dc_17 (a := 0) (b := 216) (by decide +kernel) (by decide)
theorem dX12_code_162 : decode cX12_code 162 = .ok (.imul, 1) := dc_104 (by decide +kernel)
theorem dX12_code_163 : decode cX12_code 163 = .ok (.aload_n 0, 1) := dc_42 (by decide +kernel)
theorem dX12_code_164 : decode cX12_code 164 = .ok (.getfield 192, 3) := dc_180 (a := 0) (b := 192) (by decide +kernel)
theorem dX12_code_167 : decode cX12_code 167 = .ok (.iconst 0, 1) := dc_3 (by decide +kernel)
theorem dX12_code_168 : decode cX12_code 168 = .ok (.iaload, 1) := dc_46 (by decide +kernel)
theorem dX12_code_169 : decode cX12_code 169 = .ok (.bipush 36, 2) := dc_16 (a := 36) (by decide +kernel) (by decide)
theorem dX12_code_171 : decode cX12_code 171 = .ok (.imul, 1) := dc_104 (by decide +kernel)
theorem dX12_code_172 : decode cX12_code 172 = .ok (.iadd, 1) := dc_96 (by decide +kernel)
theorem dX12_code_173 : decode cX12_code 173 = .ok (.aload_n 0, 1) := dc_42 (by decide +kernel)
theorem dX12_code_174 : decode cX12_code 174 = .ok (.getfield 192, 3) := dc_180 (a := 0) (b := 192) (by decide +kernel)
theorem dX12_code_177 : decode cX12_code 177 = .ok (.iconst 1, 1) := dc_4 (by decide +kernel)
theorem dX12_code_178 : decode cX12_code 178 = .ok (.iaload, 1) := dc_46 (by decide +kernel)
theorem dX12_code_179 : decode cX12_code 179 = .ok (.bipush 6, 2) := dc_16 (a := 6) (by decide +kernel) (by decide)
theorem dX12_code_181 : decode cX12_code 181 = .ok (.imul, 1) := dc_104 (by decide +kernel)
theorem dX12_code_182 : decode cX12_code 182 = .ok (.iadd, 1) := dc_96 (by decide +kernel)
theorem dX12_code_183 : decode cX12_code 183 = .ok (.aload_n 0, 1) := dc_42 (by decide +kernel)
theorem dX12_code_184 : decode cX12_code 184 = .ok (.getfield 192, 3) := dc_180 (a := 0) (b := 192) (by decide +kernel)
theorem dX12_code_187 : decode cX12_code 187 = .ok (.iconst 2, 1) := dc_5 (by decide +kernel)
theorem dX12_code_188 : decode cX12_code 188 = .ok (.iaload, 1) := dc_46 (by decide +kernel)
theorem dX12_code_189 : decode cX12_code 189 = .ok (.iadd, 1) := dc_96 (by decide +kernel)
theorem dX12_code_190 : decode cX12_code 190 = .ok (.ireturn, 1) := dc_172 (by decide +kernel)
set_option maxRecDepth 100000 in
set_option maxHeartbeats 4000000 in
theorem w_M_code_j134 {p : Program} {l : Launch} {e : Env} {R : Room} {s : State} {m : MethodId} {args : Array Value} {below : List Frame} {meth : Method} {c : Code} {dC : Nat → ClassId} {dI : Nat → Nat → Nat} {cs : Nat → ClassId} {ad : Nat → Nat} {A : Nat → Prop} {D0 : Nat → Nat} {S' : SS} {r : Int32} (F : Fx p s m args meth c cX12_code 6 RX12 (some .int) dC dI cs A) (hR1 : 0 ≤ R.frames) (hR2 : 0 ≤ R.locals) (K105 : Int32 → Int32 → Int32 → Int32 → Int32 → SS → Option (Int32 × SS)) (hK105 : ∀ (v0 : Int32) (v1 : Int32) (v2 : Int32) (v3 : Int32) (v4 : Int32) (S : SS), K105 v0 v1 v2 v3 v4 S = some (r, S') → AW p l e R s m args below meth c dC dI cs ad A D0 (some (.int r)) S' 6 105 [(0, .ref (ad 0)), (1, .int v0), (2, .int v1), (3, .int v2), (4, .int v3), (5, .int v4)] [] S) (x1 : Int32) (x2 : Int32) (x3 : Int32) (x5 : Int32) (y0 : Int32) (y1 : Int32) (S : SS) (h : f_M_code_j134 K105 x1 x2 x3 x5 y0 y1 S = some (r, S')) : AW p l e R s m args below meth c dC dI cs ad A D0 (some (.int r)) S' 6 134 [(0, .ref (ad 0)), (1, .int x1), (2, .int x2), (3, .int x3), (5, .int x5)] [.int y0, .int y1] S := by
  have hx := F.1.1
  have hb := F.1.2.1
  intro H locs ls w hl
  rw [f_M_code_j134] at h
  refine lv_iadd (pc := 134) hx hb dX12_code_134 ?_
  refine s_nm h (fun z6 ez6 h => ?_)
  rw [← ez6]
  refine lv_istore (pc := 135) (lv' := [(4, .int z6), (0, .ref (ad 0)), (1, .int x1), (2, .int x2), (3, .int x3), (5, .int x5)]) hx hb dX12_code_135 hl (by decide) rfl (fun ls hl => ?_)
  refine s_nm h (fun z7 ez7 h => ?_)
  refine lv_iinc (pc := 137) (v := z7) (lv' := [(5, .int z7), (4, .int z6), (0, .ref (ad 0)), (1, .int x1), (2, .int x2), (3, .int x3)]) hx hb dX12_code_137 hl (k := 5) rfl (by rw [ez7]; rfl) (by decide) rfl (fun ls hl => ?_)
  refine lv_goto (pc := 140) (tgt := 105) hx hb dX12_code_140 (by decide) ?_
  exact hK105 _ _ _ _ _ _ h _ _ _ w (lv_sub hl [2, 3, 4, 5, 1, 0] rfl)
set_option maxRecDepth 100000 in
set_option maxHeartbeats 4000000 in
theorem w_M_code_L105 {p : Program} {l : Launch} {e : Env} {R : Room} {s : State} {m : MethodId} {args : Array Value} {below : List Frame} {meth : Method} {c : Code} {dC : Nat → ClassId} {dI : Nat → Nat → Nat} {cs : Nat → ClassId} {ad : Nat → Nat} {A : Nat → Prop} {D0 : Nat → Nat} {S' : SS} {r : Int32} (F : Fx p s m args meth c cX12_code 6 RX12 (some .int) dC dI cs A) (hR1 : 0 ≤ R.frames) (hR2 : 0 ≤ R.locals) (K92 : Int32 → Int32 → Int32 → SS → Option (Int32 × SS)) (hK92 : ∀ (v0 : Int32) (v1 : Int32) (v2 : Int32) (S : SS), K92 v0 v1 v2 S = some (r, S') → AW p l e R s m args below meth c dC dI cs ad A D0 (some (.int r)) S' 6 92 [(0, .ref (ad 0)), (1, .int v0), (2, .int v1), (3, .int v2)] [] S) : ∀ (n : Nat) (x1 : Int32) (x2 : Int32) (x3 : Int32) (x4 : Int32) (x5 : Int32) (S : SS), f_M_code_L105 K92 n x1 x2 x3 x4 x5 S = some (r, S') → AW p l e R s m args below meth c dC dI cs ad A D0 (some (.int r)) S' 6 105 [(0, .ref (ad 0)), (1, .int x1), (2, .int x2), (3, .int x3), (4, .int x4), (5, .int x5)] [] S := by
  have hx := F.1.1
  have hb := F.1.2.1
  intro n
  induction n with
  | zero => intro x1 x2 x3 x4 x5 S h; cases h
  | succ n ih =>
    intro x1 x2 x3 x4 x5 S h H locs ls w hl
    rw [f_M_code_L105] at h
    refine lv_iload (pc := 105) hx hb dX12_code_105 (lv_at hl 5 rfl) ?_
    refine lv_iload_n (pc := 107) hx hb dX12_code_107 rfl (lv_at hl 1 rfl) ?_
    refine lv_icmp_ge (pc := 108) (tgt := 143) hx hb dX12_code_108 (by decide) (fun q => ?_) (fun q => ?_)
    · have h := ite_t q h
      refine lv_iload_n (pc := 143) hx hb dX12_code_143 rfl (lv_at hl 2 rfl) ?_
      refine lv_iload_n (pc := 144) hx hb dX12_code_144 rfl (lv_at hl 1 rfl) ?_
      refine lv_iload_n (pc := 145) hx hb dX12_code_145 rfl (lv_at hl 3 rfl) ?_
      refine lv_isub (pc := 146) hx hb dX12_code_146 ?_
      refine lv_imul (pc := 147) hx hb dX12_code_147 ?_
      refine lv_iload (pc := 148) hx hb dX12_code_148 (lv_at hl 4 rfl) ?_
      refine lv_iadd (pc := 150) hx hb dX12_code_150 ?_
      refine s_nm h (fun z4 ez4 h => ?_)
      rw [← ez4]
      refine lv_istore_n (pc := 151) (lv' := [(2, .int z4), (0, .ref (ad 0)), (1, .int x1), (3, .int x3), (4, .int x4), (5, .int x5)]) hx hb dX12_code_151 rfl hl (by decide) rfl (fun ls hl => ?_)
      refine s_nm h (fun z5 ez5 h => ?_)
      refine lv_iinc (pc := 152) (v := z5) (lv' := [(3, .int z5), (2, .int z4), (0, .ref (ad 0)), (1, .int x1), (4, .int x4), (5, .int x5)]) hx hb dX12_code_152 hl (k := 3) rfl (by rw [ez5]; rfl) (by decide) rfl (fun ls hl => ?_)
      refine lv_goto (pc := 155) (tgt := 92) hx hb dX12_code_155 (by decide) ?_
      exact hK92 _ _ _ _ h _ _ _ w (lv_sub hl [2, 3, 1, 0] rfl)
    · have h := ite_f q h
      refine lv_iload (pc := 111) hx hb dX12_code_111 (lv_at hl 4 rfl) ?_
      refine lv_aload_n (pc := 113) hx hb dX12_code_113 rfl (lv_at hl 0 rfl) ?_
      refine s_getR (pc := 114) F w 59 ds_0 (j := 87) vc_X12 vi_X12 rfl (by decide) kf_X12_195 dX12_code_114 ?_
      refine lv_iload (pc := 117) hx hb dX12_code_117 (lv_at hl 5 rfl) ?_
      refine s_iald (pc := 119) F w ds_59 h dX12_code_119 (fun h => ?_)
      refine lv_aload_n (pc := 120) hx hb dX12_code_120 rfl (lv_at hl 0 rfl) ?_
      refine s_getR (pc := 121) F w 59 ds_0 (j := 87) vc_X12 vi_X12 rfl (by decide) kf_X12_195 dX12_code_121 ?_
      refine lv_iload_n (pc := 124) hx hb dX12_code_124 rfl (lv_at hl 3 rfl) ?_
      refine s_iald (pc := 125) F w ds_59 h dX12_code_125 (fun h => ?_)
      refine lv_icmp_ge (pc := 126) (tgt := 133) hx hb dX12_code_126 (by decide) (fun q => ?_) (fun q => ?_)
      · have h := ite_t q h
        refine lv_iconst (pc := 133) (v := 0) hx hb dX12_code_133 (by decide) ?_
        exact w_M_code_j134 F (Nat.le_trans (by decide) hR1) (Nat.le_trans (by decide) hR2) _ (fun v0 v1 v2 v3 v4 S h => ih v0 v1 v2 v3 v4 S h) _ _ _ _ _ _ _ h _ _ _ w (lv_sub hl [0, 1, 2, 3, 5] rfl)
      · have h := ite_f q h
        refine lv_iconst (pc := 129) (v := 1) hx hb dX12_code_129 (by decide) ?_
        refine lv_goto (pc := 130) (tgt := 134) hx hb dX12_code_130 (by decide) ?_
        exact w_M_code_j134 F (Nat.le_trans (by decide) hR1) (Nat.le_trans (by decide) hR2) _ (fun v0 v1 v2 v3 v4 S h => ih v0 v1 v2 v3 v4 S h) _ _ _ _ _ _ _ h _ _ _ w (lv_sub hl [0, 1, 2, 3, 5] rfl)
set_option maxRecDepth 100000 in
set_option maxHeartbeats 4000000 in
theorem w_M_code_L92 {p : Program} {l : Launch} {e : Env} {R : Room} {s : State} {m : MethodId} {args : Array Value} {below : List Frame} {meth : Method} {c : Code} {dC : Nat → ClassId} {dI : Nat → Nat → Nat} {cs : Nat → ClassId} {ad : Nat → Nat} {A : Nat → Prop} {D0 : Nat → Nat} {S' : SS} {r : Int32} (F : Fx p s m args meth c cX12_code 6 RX12 (some .int) dC dI cs A) (hR1 : 0 ≤ R.frames) (hR2 : 0 ≤ R.locals) : ∀ (n : Nat) (x1 : Int32) (x2 : Int32) (x3 : Int32) (S : SS), f_M_code_L92 n x1 x2 x3 S = some (r, S') → AW p l e R s m args below meth c dC dI cs ad A D0 (some (.int r)) S' 6 92 [(0, .ref (ad 0)), (1, .int x1), (2, .int x2), (3, .int x3)] [] S := by
  have hx := F.1.1
  have hb := F.1.2.1
  intro n
  induction n with
  | zero => intro x1 x2 x3 S h; cases h
  | succ n ih =>
    intro x1 x2 x3 S h H locs ls w hl
    rw [f_M_code_L92] at h
    refine lv_iload_n (pc := 92) hx hb dX12_code_92 rfl (lv_at hl 3 rfl) ?_
    refine lv_iload_n (pc := 93) hx hb dX12_code_93 rfl (lv_at hl 1 rfl) ?_
    refine lv_icmp_ge (pc := 94) (tgt := 158) hx hb dX12_code_94 (by decide) (fun q => ?_) (fun q => ?_)
    · have h := ite_t q h
      refine lv_iload_n (pc := 158) hx hb dX12_code_158 rfl (lv_at hl 2 rfl) ?_
      refine lv_sipush (pc := 159) (v := 216) hx hb dX12_code_159 (by decide) ?_
      refine lv_imul (pc := 162) hx hb dX12_code_162 ?_
      refine lv_aload_n (pc := 163) hx hb dX12_code_163 rfl (lv_at hl 0 rfl) ?_
      refine s_getR (pc := 164) F w 58 ds_0 (j := 86) vc_X12 vi_X12 rfl (by decide) kf_X12_192 dX12_code_164 ?_
      refine lv_iconst (pc := 167) (v := 0) hx hb dX12_code_167 (by decide) ?_
      refine s_iald (pc := 168) F w ds_58 h dX12_code_168 (fun h => ?_)
      refine lv_bipush (pc := 169) (v := 36) hx hb dX12_code_169 (by decide) ?_
      refine lv_imul (pc := 171) hx hb dX12_code_171 ?_
      refine lv_iadd (pc := 172) hx hb dX12_code_172 ?_
      refine lv_aload_n (pc := 173) hx hb dX12_code_173 rfl (lv_at hl 0 rfl) ?_
      refine s_getR (pc := 174) F w 58 ds_0 (j := 86) vc_X12 vi_X12 rfl (by decide) kf_X12_192 dX12_code_174 ?_
      refine lv_iconst (pc := 177) (v := 1) hx hb dX12_code_177 (by decide) ?_
      refine s_iald (pc := 178) F w ds_58 h dX12_code_178 (fun h => ?_)
      refine lv_bipush (pc := 179) (v := 6) hx hb dX12_code_179 (by decide) ?_
      refine lv_imul (pc := 181) hx hb dX12_code_181 ?_
      refine lv_iadd (pc := 182) hx hb dX12_code_182 ?_
      refine lv_aload_n (pc := 183) hx hb dX12_code_183 rfl (lv_at hl 0 rfl) ?_
      refine s_getR (pc := 184) F w 58 ds_0 (j := 86) vc_X12 vi_X12 rfl (by decide) kf_X12_192 dX12_code_184 ?_
      refine lv_iconst (pc := 187) (v := 2) hx hb dX12_code_187 (by decide) ?_
      refine s_iald (pc := 188) F w ds_58 h dX12_code_188 (fun h => ?_)
      refine lv_iadd (pc := 189) hx hb dX12_code_189 ?_
      exact s_iret F w h dX12_code_190
    · have h := ite_f q h
      refine lv_iconst (pc := 97) (v := 0) hx hb dX12_code_97 (by decide) ?_
      refine lv_istore (pc := 98) (lv' := [(4, .int (0 : Int32)), (0, .ref (ad 0)), (1, .int x1), (2, .int x2), (3, .int x3)]) hx hb dX12_code_98 hl (by decide) rfl (fun ls hl => ?_)
      refine lv_iload_n (pc := 100) hx hb dX12_code_100 rfl (lv_at hl 4 rfl) ?_
      refine lv_iconst (pc := 101) (v := 1) hx hb dX12_code_101 (by decide) ?_
      refine lv_iadd (pc := 102) hx hb dX12_code_102 ?_
      refine s_nm h (fun z3 ez3 h => ?_)
      rw [← ez3]
      refine lv_istore (pc := 103) (lv' := [(5, .int z3), (4, .int (0 : Int32)), (0, .ref (ad 0)), (1, .int x1), (2, .int x2), (3, .int x3)]) hx hb dX12_code_103 hl (by decide) rfl (fun ls hl => ?_)
      exact w_M_code_L105 F (Nat.le_trans (by decide) hR1) (Nat.le_trans (by decide) hR2) _ (fun v0 v1 v2 S h => ih v0 v1 v2 S h) _ _ _ _ _ _ _ h _ _ _ w (lv_sub hl [2, 3, 4, 5, 1, 0] rfl)
set_option maxRecDepth 100000 in
set_option maxHeartbeats 4000000 in
theorem w_M_code_L28 {p : Program} {l : Launch} {e : Env} {R : Room} {s : State} {m : MethodId} {args : Array Value} {below : List Frame} {meth : Method} {c : Code} {dC : Nat → ClassId} {dI : Nat → Nat → Nat} {cs : Nat → ClassId} {ad : Nat → Nat} {A : Nat → Prop} {D0 : Nat → Nat} {S' : SS} {r : Int32} (F : Fx p s m args meth c cX12_code 6 RX12 (some .int) dC dI cs A) (hR1 : 1 ≤ R.frames) (hR2 : 22 ≤ R.locals) (K21 : Int32 → Int32 → SS → Option (Int32 × SS)) (hK21 : ∀ (v0 : Int32) (v1 : Int32) (S : SS), K21 v0 v1 S = some (r, S') → AW p l e R s m args below meth c dC dI cs ad A D0 (some (.int r)) S' 6 21 [(0, .ref (ad 0)), (1, .int v0), (2, .int v1)] [] S) : ∀ (n : Nat) (x1 : Int32) (x2 : Int32) (x3 : Int32) (S : SS), f_M_code_L28 K21 n x1 x2 x3 S = some (r, S') → AW p l e R s m args below meth c dC dI cs ad A D0 (some (.int r)) S' 6 28 [(0, .ref (ad 0)), (1, .int x1), (2, .int x2), (3, .int x3)] [] S := by
  have hx := F.1.1
  have hb := F.1.2.1
  intro n
  induction n with
  | zero => intro x1 x2 x3 S h; cases h
  | succ n ih =>
    intro x1 x2 x3 S h H locs ls w hl
    rw [f_M_code_L28] at h
    refine lv_iload_n (pc := 28) hx hb dX12_code_28 rfl (lv_at hl 3 rfl) ?_
    refine lv_aload_n (pc := 29) hx hb dX12_code_29 rfl (lv_at hl 0 rfl) ?_
    refine s_getR (pc := 30) F w 58 ds_0 (j := 86) vc_X12 vi_X12 rfl (by decide) kf_X12_192 dX12_code_30 ?_
    refine lv_iload_n (pc := 33) hx hb dX12_code_33 rfl (lv_at hl 2 rfl) ?_
    refine s_iald (pc := 34) F w ds_58 h dX12_code_34 (fun h => ?_)
    refine lv_icmp_ge (pc := 35) (tgt := 82) hx hb dX12_code_35 (by decide) (fun q => ?_) (fun q => ?_)
    · have h := ite_t q h
      refine s_nm h (fun z8 ez8 h => ?_)
      refine lv_iinc (pc := 82) (v := z8) (lv' := [(2, .int z8), (0, .ref (ad 0)), (1, .int x1), (3, .int x3)]) hx hb dX12_code_82 hl (k := 2) rfl (by rw [ez8]; rfl) (by decide) rfl (fun ls hl => ?_)
      refine lv_goto (pc := 85) (tgt := 21) hx hb dX12_code_85 (by decide) ?_
      exact hK21 _ _ _ h _ _ _ w (lv_sub hl [1, 2, 0] rfl)
    · have h := ite_f q h
      refine lv_aload_n (pc := 38) hx hb dX12_code_38 rfl (lv_at hl 0 rfl) ?_
      refine s_getR (pc := 39) F w 59 ds_0 (j := 87) vc_X12 vi_X12 rfl (by decide) kf_X12_195 dX12_code_39 ?_
      refine lv_iload_n (pc := 42) hx hb dX12_code_42 rfl (lv_at hl 1 rfl) ?_
      refine lv_aload_n (pc := 43) hx hb dX12_code_43 rfl (lv_at hl 0 rfl) ?_
      refine lv_aload_n (pc := 44) hx hb dX12_code_44 rfl (lv_at hl 0 rfl) ?_
      refine s_getR (pc := 45) F w 57 ds_0 (j := 85) vc_X12 vi_X12 rfl (by decide) kf_X12_189 dX12_code_45 ?_
      refine lv_bipush (pc := 48) (v := 10) hx hb dX12_code_48 (by decide) ?_
      refine lv_iload_n (pc := 50) hx hb dX12_code_50 rfl (lv_at hl 2 rfl) ?_
      refine lv_imul (pc := 51) hx hb dX12_code_51 ?_
      refine lv_iload_n (pc := 52) hx hb dX12_code_52 rfl (lv_at hl 3 rfl) ?_
      refine lv_iadd (pc := 53) hx hb dX12_code_53 ?_
      refine s_iald (pc := 54) F w ds_57 h dX12_code_54 (fun h => ?_)
      obtain ⟨r10, S9, hc, h⟩ := bnd_t h
      refine s_cvi (pc := 55) [.int (S.1 57 (((10 : Int32) * x2) + x3).toNatClampNeg)] (fun ad => [.ref (ad 0), .int (S.1 57 (((10 : Int32) * x2) + x3).toNatClampNeg)]) F w (m_M_rankOf _ _ _ _ hc) rfl rfl hl.1 ds_0 vc_X12 rfl ok_X12_rankOf rfl kc_X12_rankOf kl_X12_469 ki_X12_rankOf kv_X12_rankOf kn_X12 ⟨Nat.le_trans (by decide) hR1, Nat.le_trans (by decide) hR2⟩ ⟨Nat.zero_le _, Nat.zero_le _⟩ (Nat.le_of_ble_eq_true rfl) dX12_code_55 (fun H locs w => ?_)
      refine s_iast (pc := 58) F w ds_59 h dX12_code_58 (fun S11 H locs h w => ?_)
      refine lv_aload_n (pc := 59) hx hb dX12_code_59 rfl (lv_at hl 0 rfl) ?_
      refine s_getR (pc := 60) F w 59 ds_0 (j := 87) vc_X12 vi_X12 rfl (by decide) kf_X12_195 dX12_code_60 ?_
      refine lv_iload_n (pc := 63) hx hb dX12_code_63 rfl (lv_at hl 1 rfl) ?_
      refine s_iald (pc := 64) F w ds_59 h dX12_code_64 (fun h => ?_)
      refine lv_bipush (pc := 65) (v := -4) hx hb dX12_code_65 (by decide) ?_
      refine lv_icmp_ne (pc := 67) (tgt := 73) hx hb dX12_code_67 (by decide) (fun q => ?_) (fun q => ?_)
      · have h := ite_f q h
        refine s_nm h (fun z12 ez12 h => ?_)
        refine lv_iinc (pc := 73) (v := z12) (lv' := [(1, .int z12), (0, .ref (ad 0)), (2, .int x2), (3, .int x3)]) hx hb dX12_code_73 hl (k := 1) rfl (by rw [ez12]; rfl) (by decide) rfl (fun ls hl => ?_)
        refine s_nm h (fun z13 ez13 h => ?_)
        refine lv_iinc (pc := 76) (v := z13) (lv' := [(3, .int z13), (1, .int z12), (0, .ref (ad 0)), (2, .int x2)]) hx hb dX12_code_76 hl (k := 3) rfl (by rw [ez13]; rfl) (by decide) rfl (fun ls hl => ?_)
        refine lv_goto (pc := 79) (tgt := 28) hx hb dX12_code_79 (by decide) ?_
        exact ih _ _ _ _ h _ _ _ w (lv_sub hl [2, 1, 3, 0] rfl)
      · have h := ite_t q h
        refine lv_bipush (pc := 70) (v := -4) hx hb dX12_code_70 (by decide) ?_
        exact s_iret F w h dX12_code_72
set_option maxRecDepth 100000 in
set_option maxHeartbeats 4000000 in
theorem w_M_code_L21 {p : Program} {l : Launch} {e : Env} {R : Room} {s : State} {m : MethodId} {args : Array Value} {below : List Frame} {meth : Method} {c : Code} {dC : Nat → ClassId} {dI : Nat → Nat → Nat} {cs : Nat → ClassId} {ad : Nat → Nat} {A : Nat → Prop} {D0 : Nat → Nat} {S' : SS} {r : Int32} (F : Fx p s m args meth c cX12_code 6 RX12 (some .int) dC dI cs A) (hR1 : 1 ≤ R.frames) (hR2 : 22 ≤ R.locals) : ∀ (n : Nat) (x1 : Int32) (x2 : Int32) (S : SS), f_M_code_L21 n x1 x2 S = some (r, S') → AW p l e R s m args below meth c dC dI cs ad A D0 (some (.int r)) S' 6 21 [(0, .ref (ad 0)), (1, .int x1), (2, .int x2)] [] S := by
  have hx := F.1.1
  have hb := F.1.2.1
  intro n
  induction n with
  | zero => intro x1 x2 S h; cases h
  | succ n ih =>
    intro x1 x2 S h H locs ls w hl
    rw [f_M_code_L21] at h
    refine lv_iload_n (pc := 21) hx hb dX12_code_21 rfl (lv_at hl 2 rfl) ?_
    refine lv_iconst (pc := 22) (v := 4) hx hb dX12_code_22 (by decide) ?_
    refine lv_icmp_ge (pc := 23) (tgt := 88) hx hb dX12_code_23 (by decide) (fun q => ?_) (fun q => ?_)
    · have h := ite_t q h
      refine lv_iconst (pc := 88) (v := 0) hx hb dX12_code_88 (by decide) ?_
      refine lv_istore_n (pc := 89) (lv' := [(2, .int (0 : Int32)), (0, .ref (ad 0)), (1, .int x1)]) hx hb dX12_code_89 rfl hl (by decide) rfl (fun ls hl => ?_)
      refine lv_iconst (pc := 90) (v := 0) hx hb dX12_code_90 (by decide) ?_
      refine lv_istore_n (pc := 91) (lv' := [(3, .int (0 : Int32)), (2, .int (0 : Int32)), (0, .ref (ad 0)), (1, .int x1)]) hx hb dX12_code_91 rfl hl (by decide) rfl (fun ls hl => ?_)
      exact w_M_code_L92 F (Nat.le_trans (by decide) hR1) (Nat.le_trans (by decide) hR2) _ _ _ _ _ h _ _ _ w (lv_sub hl [2, 3, 1, 0] rfl)
    · have h := ite_f q h
      refine lv_iconst (pc := 26) (v := 0) hx hb dX12_code_26 (by decide) ?_
      refine lv_istore_n (pc := 27) (lv' := [(3, .int (0 : Int32)), (0, .ref (ad 0)), (1, .int x1), (2, .int x2)]) hx hb dX12_code_27 rfl hl (by decide) rfl (fun ls hl => ?_)
      exact w_M_code_L28 F (Nat.le_trans (by decide) hR1) (Nat.le_trans (by decide) hR2) _ (fun v0 v1 S h => ih v0 v1 S h) _ _ _ _ _ h _ _ _ w (lv_sub hl [1, 2, 3, 0] rfl)
set_option maxRecDepth 100000 in
set_option maxHeartbeats 4000000 in
theorem m_M_code  (S S' : SS) (r : Int32) (h : f_M_code  S = some (r, S')) : MT yX12_code cX12_code 6 (some .int) 1 22 (fun ad => [.ref (ad 0)]) S (some (.int r)) S' := by
  refine MT.of RX12 (fun ad => [(0, .ref (ad 0))]) (by decide) rfl (fun _ => Nat.le_of_ble_eq_true rfl) (fun _ => rfl) ?_
  intro p l e R s m args below meth c dC dI cs ad A hR1 hR2 F H locs ls w hl
  have hx := F.1.1
  have hb := F.1.2.1
  rw [f_M_code] at h
  refine lv_aload_n (pc := 0) hx hb dX12_code_0 rfl (lv_at hl 0 rfl) ?_
  refine s_getR (pc := 1) F w 58 ds_0 (j := 86) vc_X12 vi_X12 rfl (by decide) kf_X12_192 dX12_code_1 ?_
  obtain ⟨r2, S1, hc, h⟩ := bnd_t h
  refine s_csi (pc := 4) [.ref (ad 58)] (fun ad => [.ref (ad 58)]) F w (m_M_sumOf_M_many  _ _ _ hc) rfl rfl hl.1 ok_X12_sumOf rfl kc_X12_sumOf kl_X12_459 ks_X12_sumOf kn_X12 ⟨Nat.le_trans (by decide) hR1, Nat.le_trans (by decide) hR2⟩ ⟨Nat.zero_le _, Nat.zero_le _⟩ (Nat.le_of_ble_eq_true rfl) dX12_code_4 (fun H locs w => ?_)
  refine lv_aload_n (pc := 7) hx hb dX12_code_7 rfl (lv_at hl 0 rfl) ?_
  refine s_getI (pc := 8) F w ds_0 (j := 81) vc_X12 vi_X12 rfl (by decide) kf_X12_466 dX12_code_8 ?_
  refine lv_icmp_eq (pc := 11) (tgt := 17) hx hb dX12_code_11 (by decide) (fun q => ?_) (fun q => ?_)
  · have h := ite_t q h
    refine lv_iconst (pc := 17) (v := 0) hx hb dX12_code_17 (by decide) ?_
    refine lv_istore_n (pc := 18) (lv' := [(1, .int (0 : Int32)), (0, .ref (ad 0))]) hx hb dX12_code_18 rfl hl (by decide) rfl (fun ls hl => ?_)
    refine lv_iconst (pc := 19) (v := 0) hx hb dX12_code_19 (by decide) ?_
    refine lv_istore_n (pc := 20) (lv' := [(2, .int (0 : Int32)), (1, .int (0 : Int32)), (0, .ref (ad 0))]) hx hb dX12_code_20 rfl hl (by decide) rfl (fun ls hl => ?_)
    exact w_M_code_L21 F (Nat.le_trans (by decide) hR1) (Nat.le_trans (by decide) hR2) _ _ _ _ h _ _ _ w (lv_sub hl [2, 1, 0] rfl)
  · have h := ite_f q h
    refine lv_bipush (pc := 14) (v := -4) hx hb dX12_code_14 (by decide) ?_
    exact s_iret F w h dX12_code_16
